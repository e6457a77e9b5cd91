section
/-! A TYPED HEAP: each cell that is ours has a tag; a tag says its class and, field by field (or for all places of an array), what may stand there: ints and longs by bounds, references by null and tags. -/
abbrev xV : Type := (Int × Int) ⊕ ((Int × Int) ⊕ (Bool × List Nat))
abbrev xY : Type := Nat → Option Nat
abbrev xG : Type := (Nat × List xV) ⊕ (FieldType × Nat × List xV × xV)
abbrev xZ : Type := String × String × String × Nat
def x_c (Y : xY) (t : xV) (v : Value) : Prop := match t with
  | .inl q => ∃ x : Int32, v = .int x ∧ q.1 ≤ x.toInt ∧ x.toInt ≤ q.2
  | .inr (.inl q) => ∃ x : Int64, v = .long x ∧ q.1 ≤ x.toInt ∧ x.toInt ≤ q.2
  | .inr (.inr q) => (v = .null ∧ q.1 = true) ∨ ∃ a t : Nat, v = .ref a ∧ t ∈ q.2 ∧ Y a = some t
def x_cell (D : va_G) (U : State) (Y : xY) (g : xG) (a : Nat) (H : Heap) : Prop := match g with
  | .inl o => ∃ V : Nat → Value, t_OB a (D.1 o.1) o.2.length (D.2 o.1) H V ∧ ∀ (k : Nat) (ft : xV), o.2[k]? = some ft → x_c Y ft (V k)
  | .inr q => ∃ cell : Cell, H[a]? = some cell ∧ U.isArrayOf cell q.1 ∧ cell.vm ≠ .unknown ∧ cell.slots.size = q.2.1 ∧ (q.1.isReference = true → va_RA U cell.cls q.1) ∧ ∀ (j : Nat) (v : Value), cell.slots[j]? = some v → x_c Y (q.2.2.1.getD j q.2.2.2) v
def x_st (Zs : List xZ) (U : State) (Y : xY) (H : Heap) : Prop := ∀ z ∈ Zs, ∃ b : Nat, Y b = some z.2.2.2 ∧ va_Z z.1 z.2.1 z.2.2.1 (.ref b) (fun q => ∃ t, Y q = some t) U H
def x_H (D : va_G) (G : List xG) (Zs : List xZ) (U : State) (Y : xY) (H : Heap) : Prop :=
  (∀ a t : Nat, Y a = some t → ∃ g, G[t]? = some g ∧ x_cell D U Y g a H) ∧ x_st Zs U Y H
def x_up (Y : xY) (h t : Nat) : xY := fun q => if q = h then some t else Y q
theorem x_up_self (Y : xY) (h t : Nat) : x_up Y h t h = some t := by simp [x_up]
theorem x_up_ne {Y : xY} {h t q : Nat} (n : q ≠ h) : x_up Y h t q = Y q := by simp [x_up, n]
theorem x_c.mono {Y Y' : xY} {t : xV} {v : Value} (h : x_c Y t v) (hY : ∀ a t, Y a = some t → Y' a = some t) : x_c Y' t v := by
  rcases t with q | q | q
  · exact h
  · exact h
  · rcases h with h | ⟨a, t, h1, h2, h3⟩
    · exact Or.inl h
    · exact Or.inr ⟨a, t, h1, h2, hY a t h3⟩
theorem x_cell.mono {D : va_G} {U : State} {Y Y' : xY} {g : xG} {a : Nat} {H : Heap} (h : x_cell D U Y g a H) (hY : ∀ a t, Y a = some t → Y' a = some t) : x_cell D U Y' g a H := by
  rcases g with o | q
  · obtain ⟨V, h1, h2⟩ := h
    exact ⟨V, h1, fun k ft hk => (h2 k ft hk).mono hY⟩
  · obtain ⟨cell, h1, h2, h3, h4, h5, h6⟩ := h
    exact ⟨cell, h1, h2, h3, h4, h5, fun j v hj => (h6 j v hj).mono hY⟩
theorem x_cell.kept {D : va_G} {U : State} {Y : xY} {g : xG} {a : Nat} {H H1 : Heap} (h : x_cell D U Y g a H) (hq : H1[a]? = H[a]?) : x_cell D U Y g a H1 := by
  rcases g with o | q
  · obtain ⟨V, h1, h2⟩ := h
    exact ⟨V, h1.kept hq, h2⟩
  · obtain ⟨cell, h1, h2⟩ := h
    exact ⟨cell, by rw [hq]; exact h1, h2⟩
theorem x_cell.lt {D : va_G} {U : State} {Y : xY} {g : xG} {a : Nat} {H : Heap} (h : x_cell D U Y g a H) : a < H.size := by
  rcases g with o | q
  · obtain ⟨V, ⟨cell, h1, -⟩, -⟩ := h
    exact (Array.getElem?_eq_some_iff.mp h1).1
  · obtain ⟨cell, h1, -⟩ := h
    exact (Array.getElem?_eq_some_iff.mp h1).1
theorem x_H.lt {D : va_G} {G : List xG} {Zs : List xZ} {U : State} {Y : xY} {H : Heap} (h : x_H D G Zs U Y H) {a t : Nat} (ha : Y a = some t) : a < H.size := by
  obtain ⟨g, -, hc⟩ := h.1 a t ha
  exact hc.lt
theorem x_H.fresh {D : va_G} {G : List xG} {Zs : List xZ} {U : State} {Y : xY} {H : Heap} (h : x_H D G Zs U Y H) {a : Nat} (ha : H.size ≤ a) : Y a = none := by
  cases hy : Y a with
  | none => rfl
  | some t => exact absurd (h.lt hy) (Nat.not_lt.mpr ha)
theorem x_st.put {Zs : List xZ} {U : State} {Y : xY} {H H' : Heap} (h : x_st Zs U Y H) (hq : ∀ q, q < H.size → (¬ ∃ t, Y q = some t) → H'[q]? = H[q]?) : x_st Zs U Y H' := by
  intro z hz
  obtain ⟨b, h1, h2⟩ := h z hz
  exact ⟨b, h1, h2.kept hq⟩
/-- a cell of ours is written: it holds its tag's word still, all others are as they were -/
theorem x_H.put {D : va_G} {G : List xG} {Zs : List xZ} {U : State} {Y : xY} {H H' : Heap} (h : x_H D G Zs U Y H) {a t : Nat} (ha : Y a = some t) (hq : ∀ q, q ≠ a → H'[q]? = H[q]?) {g : xG} (hg : G[t]? = some g) (hc : x_cell D U Y g a H') : x_H D G Zs U Y H' := by
  refine ⟨fun b u hb => ?_, h.2.put fun q _ hn => hq q (fun e => hn ⟨t, by rw [e]; exact ha⟩)⟩
  by_cases e : b = a
  · subst e
    cases ha.symm.trans hb
    exact ⟨g, hg, hc⟩
  · obtain ⟨g', h1, h2⟩ := h.1 b u hb
    exact ⟨g', h1, h2.kept (hq b e)⟩
/-- a new cell gets a tag -/
theorem x_H.new {D : va_G} {G : List xG} {Zs : List xZ} {U : State} {Y : xY} {H H' : Heap} (h : x_H D G Zs U Y H) {a t : Nat} (ha : H.size = a) (hq : ∀ q, q < a → H'[q]? = H[q]?) {g : xG} (hg : G[t]? = some g) (hc : x_cell D U (x_up Y a t) g a H') : x_H D G Zs U (x_up Y a t) H' := by
  subst ha
  have hm : ∀ b u, Y b = some u → x_up Y H.size t b = some u := fun b u hb => by
    rw [x_up_ne (Nat.ne_of_lt (h.lt hb))]; exact hb
  refine ⟨fun b u hb => ?_, fun z hz => ?_⟩
  · by_cases e : b = H.size
    · subst e
      rw [x_up_self] at hb
      cases hb
      exact ⟨g, hg, hc⟩
    · rw [x_up_ne e] at hb
      obtain ⟨g', h1, h2⟩ := h.1 b u hb
      exact ⟨g', h1, (h2.kept (hq b (h.lt hb))).mono hm⟩
  · obtain ⟨b, h1, h2⟩ := h.2 z hz
    refine ⟨b, hm _ _ h1, ?_⟩
    obtain ⟨cf, kf, fi, f, x, cell, q1, q2, q3, q4, q5, q6, q7, q8⟩ := h2
    have hx : x < H.size := (Array.getElem?_eq_some_iff.mp q5).1
    refine ⟨cf, kf, fi, f, x, cell, q1, q2, q3, q4, by rw [hq x hx]; exact q5, q6, q7, fun ⟨u, hu⟩ => ?_⟩
    rw [x_up_ne (Nat.ne_of_lt hx)] at hu
    exact q8 ⟨u, hu⟩
/-- what a method may have changed of the cells that were ours at its start: the fields (tag, number) and arrays (tag, 0) of a list -/
def x_sl (D : va_G) (ci k a : Nat) (H : Heap) : Option Value := (H[a]?).bind fun cell => cell.slots[D.2 ci k]?
def x_E (D : va_G) (G : List xG) (ef : List (Nat × Nat)) (Y : xY) (H0 H : Heap) : Prop := ∀ (a t : Nat) (g : xG), Y a = some t → G[t]? = some g → match g with
  | .inl o => ∀ k, k < o.2.length → (t, k) ∉ ef → x_sl D o.1 k a H = x_sl D o.1 k a H0
  | .inr _ => (t, 0) ∉ ef → H[a]? = H0[a]?
theorem x_E.rf {D : va_G} {G : List xG} {ef : List (Nat × Nat)} {Y : xY} {H : Heap} : x_E D G ef Y H H := by
  intro a t g _ _
  rcases g with o | q
  · exact fun _ _ _ => rfl
  · exact fun _ => rfl
theorem x_E.trans {D : va_G} {G : List xG} {e1 e2 : List (Nat × Nat)} {Y Y1 : xY} {H0 H1 H2 : Heap} (h : x_E D G e1 Y H0 H1) (h2 : x_E D G e2 Y1 H1 H2) (hY : ∀ a t, Y a = some t → Y1 a = some t) (he : ∀ x ∈ e2, x ∈ e1) : x_E D G e1 Y H0 H2 := by
  intro a t g ha hg
  have q1 := h a t g ha hg
  have q2 := h2 a t g (hY a t ha) hg
  rcases g with o | q
  · intro k hk hn
    exact (q2 k hk (fun z => hn (he _ z))).trans (q1 k hk hn)
  · intro hn
    exact (q2 (fun z => hn (he _ z))).trans (q1 hn)
theorem x_E.kept {D : va_G} {G : List xG} {ef : List (Nat × Nat)} {Y : xY} {H0 H1 H2 : Heap} (h : x_E D G ef Y H0 H1) (hq : ∀ a t, Y a = some t → H2[a]? = H1[a]?) : x_E D G ef Y H0 H2 := by
  intro a t g ha hg
  have q1 := h a t g ha hg
  have e := hq a t ha
  rcases g with o | q
  · intro k hk hn
    have := q1 k hk hn
    simpa [x_sl, e] using this
  · intro hn
    rw [e]; exact q1 hn
/-- bounds and tags that say less -/
def x_le : xV → xV → Bool
  | .inl p, .inl q => decide (q.1 ≤ p.1) && decide (p.2 ≤ q.2)
  | .inr (.inl p), .inr (.inl q) => decide (q.1 ≤ p.1) && decide (p.2 ≤ q.2)
  | .inr (.inr p), .inr (.inr q) => (!p.1 || q.1) && p.2.all (fun t => q.2.any (fun u => t == u))
  | _, _ => false
theorem x_le_ok {Y : xY} {t u : xV} {v : Value} (h : x_le t u = true) (hc : x_c Y t v) : x_c Y u v := by
  rcases t with p | p | p <;> rcases u with q | q | q <;> first | (simp [x_le] at h; done) | skip
  · simp only [x_le, Bool.and_eq_true, decide_eq_true_eq] at h
    obtain ⟨x, h1, h2, h3⟩ := hc
    exact ⟨x, h1, by omega, by omega⟩
  · simp only [x_le, Bool.and_eq_true, decide_eq_true_eq] at h
    obtain ⟨x, h1, h2, h3⟩ := hc
    exact ⟨x, h1, by omega, by omega⟩
  · simp only [x_le, Bool.and_eq_true, Bool.or_eq_true, Bool.not_eq_true', List.all_eq_true, List.any_eq_true, beq_iff_eq] at h
    rcases hc with ⟨h1, h2⟩ | ⟨a, t, h1, h2, h3⟩
    · rcases h.1 with h4 | h4
      · rw [h2] at h4; cases h4
      · exact Or.inl ⟨h1, h4⟩
    · obtain ⟨u, h5, rfl⟩ := h.2 t h2
      exact Or.inr ⟨a, t, h1, h5, h3⟩
end
section
/-! Bounds of ints through the machine's arithmetic -/
theorem x_rng (x : Int32) : -2147483648 ≤ x.toInt ∧ x.toInt ≤ 2147483647 := by
  have h1 := Int32.le_toInt x
  have h2 := Int32.toInt_lt x
  omega
theorem x_rngL (x : Int64) : -9223372036854775808 ≤ x.toInt ∧ x.toInt ≤ 9223372036854775807 := by
  have h1 := Int64.le_toInt x
  have h2 := Int64.toInt_lt x
  omega
theorem x_bm {z : Int} (h1 : -2147483648 ≤ z) (h2 : z ≤ 2147483647) : z.bmod (2 ^ 32) = z := by
  rw [Int.bmod_eq_of_le (by simpa using h1) (by omega)]
def x_full : Int × Int := (-2147483648, 2147483647)
def xFull : (Int × Int) ⊕ ((Int × Int) ⊕ (Bool × List Nat)) := .inl (-2147483648, 2147483647)
def x_fullL : Int × Int := (-9223372036854775808, 9223372036854775807)
def x_clip (lo hi : Int) : Int × Int := if -2147483648 ≤ lo ∧ hi ≤ 2147483647 then (lo, hi) else x_full
def x_b (q : Int × Int) (x : Int32) : Prop := q.1 ≤ x.toInt ∧ x.toInt ≤ q.2
theorem x_fullb (x : Int32) : x_b x_full x := x_rng x
theorem x_clipb {lo hi : Int} {x : Int32} (h : -2147483648 ≤ lo → hi ≤ 2147483647 → lo ≤ x.toInt ∧ x.toInt ≤ hi) : x_b (x_clip lo hi) x := by
  unfold x_clip
  split
  · next q => exact h q.1 q.2
  · exact x_fullb x
def x_addB (p q : Int × Int) : Int × Int := x_clip (p.1 + q.1) (p.2 + q.2)
def x_subB (p q : Int × Int) : Int × Int := x_clip (p.1 - q.2) (p.2 - q.1)
def x_mulB (p q : Int × Int) : Int × Int := if 0 ≤ p.1 ∧ 0 ≤ q.1 then x_clip (p.1 * q.1) (p.2 * q.2) else x_full
def x_negB (p : Int × Int) : Int × Int := x_clip (-p.2) (-p.1)
def x_andB (p q : Int × Int) : Int × Int := if 0 ≤ p.1 then (if 0 ≤ q.1 then (0, min p.2 q.2) else (0, p.2)) else if 0 ≤ q.1 then (0, q.2) else x_full
def x_orB (p q : Int × Int) : Int × Int := if 0 ≤ p.1 ∧ 0 ≤ q.1 then (0, ((2 ^ ((max p.2 q.2).toNat.log2 + 1) : Nat) : Int) - 1) else x_full
def x_shlB (p q : Int × Int) : Int × Int := if 0 ≤ p.1 ∧ 0 ≤ q.1 ∧ q.2 ≤ 30 ∧ p.2 * ((2 ^ q.2.toNat : Nat) : Int) ≤ 2147483647 then (p.1, p.2 * ((2 ^ q.2.toNat : Nat) : Int)) else x_full
def x_shrB (p _q : Int × Int) : Int × Int := if 0 ≤ p.1 then (0, p.2) else x_full
def x_divB (p q : Int × Int) : Int × Int := if 0 ≤ p.1 ∧ 0 < q.1 then (0, p.2) else x_full
def x_remB (p q : Int × Int) : Int × Int := if 0 ≤ p.1 ∧ 0 < q.1 then (0, min p.2 (q.2 - 1)) else x_full
theorem x_add_ok {p q : Int × Int} {x y : Int32} (hx : x_b p x) (hy : x_b q y) : x_b (x_addB p q) (x + y) := by
  refine x_clipb fun h1 h2 => ?_
  have := hx.1; have := hx.2; have := hy.1; have := hy.2
  rw [Int32.toInt_add, x_bm (by omega) (by omega)]
  omega
theorem x_sub_ok {p q : Int × Int} {x y : Int32} (hx : x_b p x) (hy : x_b q y) : x_b (x_subB p q) (x - y) := by
  refine x_clipb fun h1 h2 => ?_
  have := hx.1; have := hx.2; have := hy.1; have := hy.2
  rw [Int32.toInt_sub, x_bm (by omega) (by omega)]
  omega
theorem x_neg_ok {p : Int × Int} {x : Int32} (hx : x_b p x) : x_b (x_negB p) (-x) := by
  refine x_clipb fun h1 h2 => ?_
  have := hx.1; have := hx.2
  rw [Int32.toInt_neg, x_bm (by omega) (by omega)]
  omega
theorem x_mul_ok {p q : Int × Int} {x y : Int32} (hx : x_b p x) (hy : x_b q y) : x_b (x_mulB p q) (x * y) := by
  unfold x_mulB
  split
  · next h0 =>
    refine x_clipb fun h1 h2 => ?_
    have a1 := hx.1; have a2 := hx.2; have b1 := hy.1; have b2 := hy.2
    have l1 : p.1 * q.1 ≤ x.toInt * y.toInt := Int.mul_le_mul a1 b1 h0.2 (by omega)
    have l2 : x.toInt * y.toInt ≤ p.2 * q.2 := Int.mul_le_mul a2 b2 (by omega) (by omega)
    rw [Int32.toInt_mul, x_bm (by omega) (by omega)]
    exact ⟨l1, l2⟩
  · exact x_fullb _
theorem x_tn {x : Int32} (h : 0 ≤ x.toInt) : ((x.toBitVec.toNat : Nat) : Int) = x.toInt := by
  have h1 : x.toInt = x.toBitVec.toInt := rfl
  have h2 := BitVec.toInt_eq_toNat_cond x.toBitVec
  have h3 := x.toBitVec.isLt
  rw [h1] at h ⊢
  rw [h2] at h ⊢
  split at h
  · next q => rw [if_pos q]
  · omega
theorem x_tn2 {x : Int32} (h : x.toBitVec.toNat < 2 ^ 31) : x.toInt = (x.toBitVec.toNat : Int) := by
  have h1 : x.toInt = x.toBitVec.toInt := rfl
  have h2 := BitVec.toInt_eq_toNat_cond x.toBitVec
  rw [h1, h2, if_pos (by omega)]
theorem x_and1 {x y : Int32} (hy : 0 ≤ y.toInt) : 0 ≤ (x &&& y).toInt ∧ (x &&& y).toInt ≤ y.toInt := by
  have h1 := x_tn hy
  have h2 := (x_rng y).2
  have h3 : (x &&& y).toBitVec.toNat = x.toBitVec.toNat &&& y.toBitVec.toNat := by rw [Int32.toBitVec_and, BitVec.toNat_and]
  have h4 : x.toBitVec.toNat &&& y.toBitVec.toNat ≤ y.toBitVec.toNat := Nat.and_le_right
  have h5 := x_tn2 (x := x &&& y) (by rw [h3]; omega)
  rw [h5, h3]
  omega
theorem x_and2 {x y : Int32} (hx : 0 ≤ x.toInt) : 0 ≤ (x &&& y).toInt ∧ (x &&& y).toInt ≤ x.toInt := by
  rw [Int32.and_comm]
  exact x_and1 hx
theorem x_and_ok {p q : Int × Int} {x y : Int32} (hx : x_b p x) (hy : x_b q y) : x_b (x_andB p q) (x &&& y) := by
  have a1 := hx.1; have a2 := hx.2; have b1 := hy.1; have b2 := hy.2
  unfold x_andB
  split
  · next h =>
    have c1 := x_and2 (x := x) (y := y) (by omega)
    split
    · next h' =>
      have c2 := x_and1 (x := x) (y := y) (by omega)
      refine ⟨c1.1, ?_⟩
      show _ ≤ min p.2 q.2
      omega
    · exact ⟨c1.1, by show _ ≤ p.2; omega⟩
  · split
    · next h' =>
      have c2 := x_and1 (x := x) (y := y) (by omega)
      exact ⟨c2.1, by show _ ≤ q.2; omega⟩
    · exact x_fullb _
theorem x_lg {n m : Nat} (h : n ≤ m) : n < 2 ^ (m.log2 + 1) := Nat.lt_of_le_of_lt h Nat.lt_log2_self
theorem x_or_aux {p q : Int × Int} {x y z : Int32} (hx : x_b p x) (hy : x_b q y) (h0 : 0 ≤ p.1 ∧ 0 ≤ q.1) (hz : ∀ k, x.toBitVec.toNat < 2 ^ k → y.toBitVec.toNat < 2 ^ k → z.toBitVec.toNat < 2 ^ k) : 0 ≤ z.toInt ∧ z.toInt ≤ ((2 ^ ((max p.2 q.2).toNat.log2 + 1) : Nat) : Int) - 1 := by
  have a1 := hx.1; have a2 := hx.2; have b1 := hy.1; have b2 := hy.2
  have t1 := x_tn (x := x) (by omega)
  have t2 := x_tn (x := y) (by omega)
  have r1 := (x_rng x).2
  have r2 := (x_rng y).2
  have k1 := hz ((max p.2 q.2).toNat.log2 + 1) (x_lg (by omega)) (x_lg (by omega))
  have k2 := hz 31 (by omega) (by omega)
  rw [x_tn2 k2]
  omega
theorem x_or_ok {p q : Int × Int} {x y : Int32} (hx : x_b p x) (hy : x_b q y) : x_b (x_orB p q) (x ||| y) := by
  unfold x_orB
  split
  · next h0 =>
    refine x_or_aux hx hy h0 fun k h1 h2 => ?_
    rw [Int32.toBitVec_or, BitVec.toNat_or]
    exact Nat.or_lt_two_pow h1 h2
  · exact x_fullb _
theorem x_xor_ok {p q : Int × Int} {x y : Int32} (hx : x_b p x) (hy : x_b q y) : x_b (x_orB p q) (x ^^^ y) := by
  unfold x_orB
  split
  · next h0 =>
    refine x_or_aux hx hy h0 fun k h1 h2 => ?_
    rw [Int32.toBitVec_xor, BitVec.toNat_xor]
    exact Nat.xor_lt_two_pow h1 h2
  · exact x_fullb _
theorem x_sl31 : ∀ n, n < 32 → ((nI n &&& 31).toBitVec.smod 32).toNat = n := by decide +kernel
theorem x_shl_ok {p q : Int × Int} {x y : Int32} (hx : x_b p x) (hy : x_b q y) : x_b (x_shlB p q) (x <<< (y &&& 31)) := by
  unfold x_shlB
  split
  · next h0 =>
    obtain ⟨h1, h2, h3, h4⟩ := h0
    have a1 := hx.1; have a2 := hx.2; have b1 := hy.1; have b2 := hy.2
    have ey : y = nI y.toInt.toNat := by
      apply Int32.toInt_inj.mp
      rw [nI_toInt (by omega)]
      omega
    have e0 : ((y &&& 31).toBitVec.smod 32).toNat = y.toInt.toNat := by
      conv => lhs; rw [ey]
      exact x_sl31 _ (by omega)
    have e1 := pk_shl x (y &&& 31) y.toInt.toNat e0
    have t1 := x_tn (x := x) (by omega)
    have m1 : 2 ^ y.toInt.toNat ≤ 2 ^ q.2.toNat := Nat.pow_le_pow_right (by decide) (by omega)
    have m2 : x.toBitVec.toNat * 2 ^ y.toInt.toNat ≤ p.2.toNat * 2 ^ q.2.toNat := Nat.mul_le_mul (by omega) m1
    have m3 : ((p.2.toNat * 2 ^ q.2.toNat : Nat) : Int) = p.2 * ((2 ^ q.2.toNat : Nat) : Int) := by
      rw [Int.natCast_mul, Int.toNat_of_nonneg (by omega)]
    have m4 : x.toBitVec.toNat ≤ x.toBitVec.toNat * 2 ^ y.toInt.toNat := Nat.le_mul_of_pos_right _ (Nat.two_pow_pos _)
    rw [Nat.mod_eq_of_lt (by omega)] at e1
    have e2 := x_tn2 (x := x <<< (y &&& 31)) (by rw [e1]; omega)
    refine ⟨?_, ?_⟩
    · show p.1 ≤ _
      rw [e2, e1]; omega
    · show _ ≤ p.2 * _
      rw [e2, e1]; omega
  · exact x_fullb _
theorem x_shr_ok {p q : Int × Int} {x y : Int32} (hx : x_b p x) (_hy : x_b q y) : x_b (x_shrB p q) (x >>> (y &&& 31)) := by
  unfold x_shrB
  split
  · next h0 =>
    have a1 := hx.1; have a2 := hx.2
    have e1 := pk_shr x (y &&& 31) _ rfl
    have hn : x.toInt = (x.toInt.toNat : Int) := by omega
    rw [Int.shiftRight_eq_div_pow, hn] at e1
    have e2 : (x >>> (y &&& 31)).toInt = ((x.toInt.toNat / 2 ^ ((y &&& 31).toBitVec.smod 32).toNat : Nat) : Int) := by rw [e1]; norm_cast
    have e3 := Nat.div_le_self x.toInt.toNat (2 ^ ((y &&& 31).toBitVec.smod 32).toNat)
    generalize x.toInt.toNat / 2 ^ ((y &&& 31).toBitVec.smod 32).toNat = z at e2 e3
    refine ⟨?_, ?_⟩
    · show (0 : Int) ≤ _
      rw [e2]; omega
    · show _ ≤ p.2
      rw [e2]; omega
  · exact x_fullb _
theorem x_div_ok {p q : Int × Int} {x y : Int32} (hx : x_b p x) (hy : x_b q y) : x_b (x_divB p q) (x / y) := by
  unfold x_divB
  split
  · next h0 =>
    have a1 := hx.1; have a2 := hx.2; have b1 := hy.1; have b2 := hy.2
    have r := x_rng x
    have r2 := x_rng y
    have ex : x = nI x.toInt.toNat := by
      apply Int32.toInt_inj.mp
      rw [nI_toInt (by omega)]; omega
    have ey : y = nI y.toInt.toNat := by
      apply Int32.toInt_inj.mp
      rw [nI_toInt (by omega)]; omega
    have e1 : x / y = nI (x.toInt.toNat / y.toInt.toNat) := by
      conv => lhs; rw [ex, ey]
      rw [pk_div (by omega) (by omega) (by omega)]
    have e3 := Nat.div_le_self x.toInt.toNat y.toInt.toNat
    rw [e1]
    generalize x.toInt.toNat / y.toInt.toNat = z at e3 ⊢
    refine ⟨?_, ?_⟩
    · show (0 : Int) ≤ _
      rw [nI_toInt (by omega)]; omega
    · show _ ≤ p.2
      rw [nI_toInt (by omega)]; omega
  · exact x_fullb _
theorem x_rem_ok {p q : Int × Int} {x y : Int32} (hx : x_b p x) (hy : x_b q y) : x_b (x_remB p q) (x - x / y * y) := by
  unfold x_remB
  split
  · next h0 =>
    have a1 := hx.1; have a2 := hx.2; have b1 := hy.1; have b2 := hy.2
    have r := x_rng x
    have r2 := x_rng y
    have ex : x = nI x.toInt.toNat := by
      apply Int32.toInt_inj.mp
      rw [nI_toInt (by omega)]; omega
    have ey : y = nI y.toInt.toNat := by
      apply Int32.toInt_inj.mp
      rw [nI_toInt (by omega)]; omega
    have e1 : x - x / y * y = nI (x.toInt.toNat % y.toInt.toNat) := by
      conv => lhs; rw [ex, ey]
      rw [pk_rem (by omega) (by omega) (by omega)]
    have e3 := Nat.mod_le x.toInt.toNat y.toInt.toNat
    have e4 := Nat.mod_lt x.toInt.toNat (y := y.toInt.toNat) (by omega)
    rw [e1]
    generalize x.toInt.toNat % y.toInt.toNat = z at e3 e4 ⊢
    refine ⟨?_, ?_⟩
    · show (0 : Int) ≤ _
      rw [nI_toInt (by omega)]; omega
    · show _ ≤ min p.2 (q.2 - 1)
      rw [nI_toInt (by omega)]; omega
  · exact x_fullb _
/-! what a comparison tells of two numbers by their bounds; none: it can't be -/
abbrev xB2 : Type := (Int × Int) × (Int × Int)
def x_sane (r : xB2) : Option xB2 := if r.1.1 ≤ r.1.2 ∧ r.2.1 ≤ r.2.2 then some r else none
def x_rlt (p q : Int × Int) : Option xB2 := x_sane ((p.1, min p.2 (q.2 - 1)), (max q.1 (p.1 + 1), q.2))
def x_rle (p q : Int × Int) : Option xB2 := x_sane ((p.1, min p.2 q.2), (max q.1 p.1, q.2))
def x_req (p q : Int × Int) : Option xB2 := x_sane ((max p.1 q.1, min p.2 q.2), (max p.1 q.1, min p.2 q.2))
def x_rn1 (p q : Int × Int) : Int × Int := if q.1 = q.2 then (if p.1 = q.1 then (p.1 + 1, p.2) else if p.2 = q.1 then (p.1, p.2 - 1) else p) else p
def x_rne (p q : Int × Int) : Option xB2 := x_sane (x_rn1 p q, x_rn1 q p)
theorem x_sane_ok {r : xB2} {x y : Int} (h1 : r.1.1 ≤ x ∧ x ≤ r.1.2) (h2 : r.2.1 ≤ y ∧ y ≤ r.2.2) : x_sane r = some r := by
  unfold x_sane
  rw [if_pos ⟨by omega, by omega⟩]
theorem x_rlt_ok {p q : Int × Int} {x y : Int} (hx : p.1 ≤ x ∧ x ≤ p.2) (hy : q.1 ≤ y ∧ y ≤ q.2) (h : x < y) : ∃ r : xB2, x_rlt p q = some r ∧ (r.1.1 ≤ x ∧ x ≤ r.1.2) ∧ (r.2.1 ≤ y ∧ y ≤ r.2.2) := by
  have h1 : p.1 ≤ x ∧ x ≤ min p.2 (q.2 - 1) := by omega
  have h2 : max q.1 (p.1 + 1) ≤ y ∧ y ≤ q.2 := by omega
  exact ⟨_, x_sane_ok h1 h2, h1, h2⟩
theorem x_rle_ok {p q : Int × Int} {x y : Int} (hx : p.1 ≤ x ∧ x ≤ p.2) (hy : q.1 ≤ y ∧ y ≤ q.2) (h : x ≤ y) : ∃ r : xB2, x_rle p q = some r ∧ (r.1.1 ≤ x ∧ x ≤ r.1.2) ∧ (r.2.1 ≤ y ∧ y ≤ r.2.2) := by
  have h1 : p.1 ≤ x ∧ x ≤ min p.2 q.2 := by omega
  have h2 : max q.1 p.1 ≤ y ∧ y ≤ q.2 := by omega
  exact ⟨_, x_sane_ok h1 h2, h1, h2⟩
theorem x_req_ok {p q : Int × Int} {x y : Int} (hx : p.1 ≤ x ∧ x ≤ p.2) (hy : q.1 ≤ y ∧ y ≤ q.2) (h : x = y) : ∃ r : xB2, x_req p q = some r ∧ (r.1.1 ≤ x ∧ x ≤ r.1.2) ∧ (r.2.1 ≤ y ∧ y ≤ r.2.2) := by
  have h1 : max p.1 q.1 ≤ x ∧ x ≤ min p.2 q.2 := by omega
  have h2 : max p.1 q.1 ≤ y ∧ y ≤ min p.2 q.2 := by omega
  exact ⟨_, x_sane_ok h1 h2, h1, h2⟩
theorem x_rn1_ok {p q : Int × Int} {x y : Int} (hx : p.1 ≤ x ∧ x ≤ p.2) (hy : q.1 ≤ y ∧ y ≤ q.2) (h : x ≠ y) : (x_rn1 p q).1 ≤ x ∧ x ≤ (x_rn1 p q).2 := by
  unfold x_rn1
  split
  · split
    · exact ⟨by show p.1 + 1 ≤ x; omega, hx.2⟩
    · split
      · exact ⟨hx.1, by show x ≤ p.2 - 1; omega⟩
      · exact hx
  · exact hx
theorem x_rne_ok {p q : Int × Int} {x y : Int} (hx : p.1 ≤ x ∧ x ≤ p.2) (hy : q.1 ≤ y ∧ y ≤ q.2) (h : x ≠ y) : ∃ r : xB2, x_rne p q = some r ∧ (r.1.1 ≤ x ∧ x ≤ r.1.2) ∧ (r.2.1 ≤ y ∧ y ≤ r.2.2) := by
  have h1 := x_rn1_ok hx hy h
  have h2 := x_rn1_ok hy hx (Ne.symm h)
  exact ⟨_, x_sane_ok h1 h2, h1, h2⟩
end
section
/-! THE CHECKER'S STATE: bounds and tags of numbered values; locals and stack by their numbers; known fields (object, class, field, value); differences (value, value, int); the numbers of loop heads' measures; objects made here; cells and slots made so far. -/
abbrev xS : Type := List xV × List (Nat × Nat) × List Nat × List (Nat × Nat × Nat × Nat) × List (Nat × Nat × Int) × List Nat × List Nat × Nat × Nat
abbrev x_cells (a : xS) : Nat := a.2.2.2.2.2.2.2.1
abbrev x_slots (a : xS) : Nat := a.2.2.2.2.2.2.2.2
def x_wf (a : xS) : Bool :=
  a.2.1.all (fun q => Nat.blt q.2 a.1.length) && (a.2.2.1.all (fun k => Nat.blt k a.1.length) && (a.2.2.2.1.all (fun f => Nat.blt f.1 a.1.length && Nat.blt f.2.2.2 a.1.length) &&
  (a.2.2.2.2.1.all (fun d => Nat.blt d.1 a.1.length && Nat.blt d.2.1 a.1.length) && (a.2.2.2.2.2.1.all (fun k => Nat.blt k a.1.length) && a.2.2.2.2.2.2.1.all (fun k => Nat.blt k a.1.length)))))
def x_num (v : Value) : Option Int := match v with
  | .int x => some x.toInt
  | .long x => some x.toInt
  | _ => none
def x_dif (r : Nat → Value) (d : Nat × Nat × Int) : Prop := ∃ x y : Int, x_num (r d.1) = some x ∧ x_num (r d.2.1) = some y ∧ x = y + d.2.2
/-- a known field of an object (class ci), or place of an array (ci = 1000) -/
def x_fv (D : va_G) (ci k a : Nat) (H : Heap) : Option Value := (H[a]?).bind fun cell => cell.slots[if ci = 1000 then k else D.2 ci k]?
theorem x_fv_sl {D : va_G} {ci k a : Nat} {H : Heap} (h : ¬ ci = 1000) : x_fv D ci k a H = x_sl D ci k a H := by
  unfold x_fv x_sl
  rw [if_neg h]
def x_C (D : va_G) (Y0 : xY) (nL : Nat) (mu : List Value) (Y : xY) (H : Heap) (a : xS) (r : Nat → Value) (ls : Array Slot) (st : List Value) : Prop :=
  (∀ (k : Nat) (t : xV), a.1[k]? = some t → x_c Y t (r k)) ∧ lv_has ls nL (a.2.1.map fun q => (q.1, r q.2)) ∧ st = a.2.2.1.map r ∧
  (∀ f ∈ a.2.2.2.1, ∃ b : Nat, r f.1 = .ref b ∧ x_fv D f.2.1 f.2.2.1 b H = some (r f.2.2.2)) ∧
  (∀ d ∈ a.2.2.2.2.1, x_dif r d) ∧
  a.2.2.2.2.2.1.map r = mu ∧ (∀ k ∈ a.2.2.2.2.2.2.1, ∃ b : Nat, r k = .ref b ∧ Y0 b = none)
def x_psh (a : xS) (S : List Nat) (t : xV) : xS := (a.1 ++ [t], a.2.1, a.1.length :: S, a.2.2.2)
def x_top (a : xS) (S : List Nat) : xS := (a.1, a.2.1, S, a.2.2.2)
theorem x_wf_spec {a : xS} (h : x_wf a = true) : (∀ q ∈ a.2.1, q.2 < a.1.length) ∧ (∀ k ∈ a.2.2.1, k < a.1.length) ∧ (∀ f ∈ a.2.2.2.1, f.1 < a.1.length ∧ f.2.2.2 < a.1.length) ∧
    (∀ d ∈ a.2.2.2.2.1, d.1 < a.1.length ∧ d.2.1 < a.1.length) ∧ (∀ k ∈ a.2.2.2.2.2.1, k < a.1.length) ∧ (∀ k ∈ a.2.2.2.2.2.2.1, k < a.1.length) := by
  simp only [x_wf, Bool.and_eq_true, List.all_eq_true, Nat.blt_eq] at h
  exact ⟨h.1, h.2.1, h.2.2.1, h.2.2.2.1, h.2.2.2.2.1, h.2.2.2.2.2⟩
section XC
variable {D : va_G} {Y0 Y : xY} {nL : Nat} {mu : List Value} {H : Heap} {a : xS} {r : Nat → Value} {ls : Array Slot} {st : List Value}
theorem x_env_app {E : List xV} {t u : xV} {k : Nat} (h : (E ++ [t])[k]? = some u) : (k < E.length ∧ E[k]? = some u) ∨ (k = E.length ∧ u = t) := by
  by_cases hk : k < E.length
  · rw [List.getElem?_append_left hk] at h
    exact Or.inl ⟨hk, h⟩
  · rw [List.getElem?_append_right (by omega)] at h
    have hz : k - E.length < 1 := (List.getElem?_eq_some_iff.mp h).1
    have e : k = E.length := by omega
    subst e
    rw [Nat.sub_self] at h
    exact Or.inr ⟨rfl, (Option.some.inj h).symm⟩
/-- the stack is another row of values that are known -/
theorem x_C.stk (h : x_C D Y0 nL mu Y H a r ls st) (S : List Nat) : x_C D Y0 nL mu Y H (x_top a S) r ls (S.map r) := ⟨h.1, h.2.1, rfl, h.2.2.2⟩
/-- better bounds -/
theorem x_C.env (h : x_C D Y0 nL mu Y H a r ls st) {E : List xV} (he : ∀ (k : Nat) (t : xV), E[k]? = some t → x_c Y t (r k)) (S : List Nat) : x_C D Y0 nL mu Y H (E, a.2.1, S, a.2.2.2) r ls (S.map r) := ⟨he, h.2.1, rfl, h.2.2.2⟩
theorem x_up_ag {r : Nat → Value} {n k : Nat} {v : Value} (h : k < n) : updV r n v k = r k := by
  unfold updV
  rw [if_neg (Nat.ne_of_lt h)]
theorem x_up_at {r : Nat → Value} {n : Nat} {v : Value} : updV r n v n = v := by
  unfold updV
  rw [if_pos rfl]
/-- a new value, with its number -/
theorem x_C.new (hw : x_wf a = true) (h : x_C D Y0 nL mu Y H a r ls st) {t : xV} {v : Value} (hv : x_c Y t v) : x_C D Y0 nL mu Y H (a.1 ++ [t], a.2) (updV r a.1.length v) ls st := by
  obtain ⟨w1, w2, w3, w4, w5, w6⟩ := x_wf_spec hw
  obtain ⟨h1, h2, h3, h4, h5, h6, h7⟩ := h
  refine ⟨fun k u hk => ?_, ?_, ?_, fun f hf => ?_, fun d hd => ?_, ?_, fun k hk => ?_⟩
  · rcases x_env_app hk with ⟨q1, q2⟩ | ⟨q1, q2⟩
    · rw [x_up_ag q1]; exact h1 k u q2
    · rw [q1, q2, x_up_at]; exact hv
  · have e : (a.2.1.map fun q => (q.1, updV r a.1.length v q.2)) = a.2.1.map fun q => (q.1, r q.2) := List.map_congr_left fun q hq => by rw [x_up_ag (w1 q hq)]
    show lv_has ls nL (a.2.1.map fun q => (q.1, updV r a.1.length v q.2))
    rw [e]; exact h2
  · rw [h3]
    exact List.map_congr_left fun k hk => by rw [x_up_ag (w2 k hk)]
  · obtain ⟨b, q1, q2⟩ := h4 f hf
    exact ⟨b, by rw [x_up_ag (w3 f hf).1]; exact q1, by rw [x_up_ag (w3 f hf).2]; exact q2⟩
  · obtain ⟨x, y, q1, q2, q3⟩ := h5 d hd
    exact ⟨x, y, by rw [x_up_ag (w4 d hd).1]; exact q1, by rw [x_up_ag (w4 d hd).2]; exact q2, q3⟩
  · rw [← h6]
    exact List.map_congr_left fun k hk => by rw [x_up_ag (w5 k hk)]
  · obtain ⟨b, q1, q2⟩ := h7 k hk
    exact ⟨b, by rw [x_up_ag (w6 k hk)]; exact q1, q2⟩
theorem x_C.psh (hw : x_wf a = true) (h : x_C D Y0 nL mu Y H a r ls st) {S : List Nat} (hS : ∀ k ∈ S, k < a.1.length) {t : xV} {v : Value} (hv : x_c Y t v) : x_C D Y0 nL mu Y H (x_psh a S t) (updV r a.1.length v) ls (v :: S.map r) := by
  have q := (h.new hw hv).stk (a.1.length :: S)
  have e : (a.1.length :: S).map (updV r a.1.length v) = v :: S.map r := by
    rw [List.map_cons, x_up_at, List.map_congr_left fun k hk => x_up_ag (hS k hk)]
  rw [e] at q
  exact q
theorem x_C.loc (h : x_C D Y0 nL mu Y H a r ls st) {i k : Nat} (hk : (i, k) ∈ a.2.1) : ls[i]? = some (.val (r k)) := h.2.1.2.2 (i, r k) (List.mem_map.mpr ⟨(i, k), hk, rfl⟩)
/-- other locals, of values that are known -/
theorem x_C.locs {ls' : Array Slot} (h : x_C D Y0 nL mu Y H a r ls st) {L : List (Nat × Nat)} (hl : lv_has ls' nL (L.map fun q => (q.1, r q.2))) (S : List Nat) : x_C D Y0 nL mu Y H (a.1, L, S, a.2.2.2) r ls' (S.map r) := ⟨h.1, hl, rfl, h.2.2.2⟩
theorem x_C.dif (h : x_C D Y0 nL mu Y H a r ls st) {d : Nat × Nat × Int} (hd : x_dif r d) : x_C D Y0 nL mu Y H (a.1, a.2.1, a.2.2.1, a.2.2.2.1, d :: a.2.2.2.2.1, a.2.2.2.2.2) r ls st := by
  obtain ⟨h1, h2, h3, h4, h5, h6⟩ := h
  refine ⟨h1, h2, h3, h4, fun q hq => ?_, h6⟩
  rcases List.mem_cons.mp hq with e | hq
  · rw [e]; exact hd
  · exact h5 q hq
end XC
/-! what a method's body keeps, from its start to each of its steps -/
def x_I (D : va_G) (G : List xG) (Zs : List xZ) (U : State) (ef : List (Nat × Nat)) (Y0 : xY) (H0 : Heap) (Y : xY) (H : Heap) (locs : List Loc) : Prop :=
  x_H D G Zs U Y H ∧ (∀ q, q < H0.size → Y q = Y0 q) ∧ x_E D G ef Y0 H0 H ∧ va_S (fun q => (∃ t, Y0 q = some t) ∨ H0.size ≤ q) H0 H locs
section XK
variable (p : Program) (l : Launch) (e : Env) (R : Room) (s : State) (m : MethodId) (args : Array Value) (below : List Frame) (meth : Method) (c : Code) (Q : State → Prop)
variable (D : va_G) (G : List xG) (Zs : List xZ) (U : State) (ef : List (Nat × Nat)) (Y0 : xY) (H0 : Heap) (nL : Nat) (mu : List Value)
/-- from every state that the checker's state tells of, at this place, the machine comes to Q -/
def x_K (q : Nat × xS) : Prop := ∀ (Y : xY) (H : Heap) (locs : List Loc) (r : Nat → Value) (ls : Array Slot) (st : List Value),
  x_I D G Zs U ef Y0 H0 Y H locs → x_C D Y0 nL mu Y H q.2 r ls st → W p l e R s m args below meth c H locs (x_cells q.2) (x_slots q.2) Q (F0 m q.1 ls st)
end XK
/-! steps: the places that come next, with their states; none: the checker doesn't see that this is safe -/
abbrev xN : Type := Option (List (Nat × xS))
def x_bin (a : xS) (pc : Nat) (f : Int × Int → Int × Int → Option (Int × Int)) : xN := match a.2.2.1 with
  | y :: x :: S => (match a.1[y]?, a.1[x]? with
    | some (.inl q), some (.inl u) => (match f u q with
      | some t => some [(pc + 1, x_psh a S (.inl t))]
      | none => none)
    | _, _ => none)
  | _ => none
def x_un (a : xS) (pc : Nat) (f : Int × Int → Int × Int) : xN := match a.2.2.1 with
  | x :: S => (match a.1[x]? with
    | some (.inl u) => some [(pc + 1, x_psh a S (.inl (f u)))]
    | _ => none)
  | _ => none
/-- a sum with a number that is known, or one that needn't be -/
def x_addS (a : xS) (pc : Nat) : xN := match a.2.2.1 with
  | y :: x :: S => (match a.1[y]?, a.1[x]? with
    | some (.inl q), some (.inl u) => some [(pc + 1, (let b := x_psh a S (.inl (x_addB u q))
        if q.1 = q.2 ∧ -2147483648 ≤ u.1 + q.1 ∧ u.2 + q.2 ≤ 2147483647 then (b.1, b.2.1, b.2.2.1, b.2.2.2.1, (a.1.length, x, q.1) :: b.2.2.2.2.1, b.2.2.2.2.2) else b))]
    | _, _ => none)
  | _ => none
def x_binL (a : xS) (pc : Nat) (nz : Bool) : xN := match a.2.2.1 with
  | y :: x :: S => (match a.1[y]?, a.1[x]? with
    | some (.inr (.inl q)), some (.inr (.inl _)) => if nz = true ∧ ¬ (0 < q.1 ∨ q.2 < 0) then none else some [(pc + 1, x_psh a S (.inr (.inl x_fullL)))]
    | _, _ => none)
  | _ => none
def x_shL (a : xS) (pc : Nat) : xN := match a.2.2.1 with
  | y :: x :: S => (match a.1[y]?, a.1[x]? with
    | some (.inl _), some (.inr (.inl _)) => some [(pc + 1, x_psh a S (.inr (.inl x_fullL)))]
    | _, _ => none)
  | _ => none
def x_unL (a : xS) (pc : Nat) : xN := match a.2.2.1 with
  | x :: S => (match a.1[x]? with
    | some (.inr (.inl _)) => some [(pc + 1, x_psh a S (.inr (.inl x_fullL)))]
    | _ => none)
  | _ => none
def x_i2l (a : xS) (pc : Nat) : xN := match a.2.2.1 with
  | x :: S => (match a.1[x]? with
    | some (.inl u) => some [(pc + 1, (a.1 ++ [.inr (.inl u)], a.2.1, a.1.length :: S, a.2.2.2.1, (a.1.length, x, 0) :: a.2.2.2.2.1, a.2.2.2.2.2))]
    | _ => none)
  | _ => none
def x_l2i (a : xS) (pc : Nat) : xN := match a.2.2.1 with
  | x :: S => (match a.1[x]? with
    | some (.inr (.inl u)) => some [(pc + 1, x_psh a S (.inl (x_clip u.1 u.2)))]
    | _ => none)
  | _ => none
def x_ref2 (a : xS) (S : List Nat) (x y : Nat) (b : Option xB2) (pc : Nat) : List (Nat × xS) := match b with
  | some b => [(pc, ((a.1.set x (.inl b.1)).set y (.inl b.2), a.2.1, S, a.2.2.2))]
  | none => []
def x_icmp (a : xS) (pc : Nat) (off : Int) (f g : Int × Int → Int × Int → Option xB2) : xN := match a.2.2.1 with
  | y :: x :: S => (match a.1[y]?, a.1[x]? with
    | some (.inl q), some (.inl u) => if (pc : Int) + off = ((((pc : Int) + off).toNat : Nat) : Int) then some (x_ref2 a S x y (f u q) ((pc : Int) + off).toNat ++ x_ref2 a S x y (g u q) (pc + 3)) else none
    | _, _ => none)
  | _ => none
def x_if0 (a : xS) (pc : Nat) (off : Int) (f g : Int × Int → Int × Int → Option xB2) : xN := match a.2.2.1 with
  | x :: S => (match a.1[x]? with
    | some (.inl u) => if (pc : Int) + off = ((((pc : Int) + off).toNat : Nat) : Int) then some ((match f u (0, 0) with
        | some b => [(((pc : Int) + off).toNat, (a.1.set x (.inl b.1), a.2.1, S, a.2.2.2))]
        | none => []) ++ (match g u (0, 0) with
        | some b => [(pc + 3, (a.1.set x (.inl b.1), a.2.1, S, a.2.2.2))]
        | none => [])) else none
    | _ => none)
  | _ => none
def x_ld (a : xS) (pc : Nat) (i : Nat) (f : xV → Bool) : xN := match a.2.1.find? (fun q => q.1 == i) with
  | some q => (match a.1[q.2]? with
    | some t => if f t then some [(pc, x_top a (q.2 :: a.2.2.1))] else none
    | none => none)
  | none => none
def x_isI : xV → Bool | .inl _ => true | _ => false
def x_isL : xV → Bool | .inr (.inl _) => true | _ => false
def x_isR : xV → Bool | .inr (.inr _) => true | _ => false
def x_n2 (E : List xV) (k : Nat) : Bool := match E[k]? with
  | some (.inl _) => true
  | some (.inr (.inr _)) => true
  | _ => false
def x_sto (a : xS) (pc : Nat) (i nL : Nat) (f : xV → Bool) : xN := match a.2.2.1 with
  | x :: S => (match a.1[x]? with
    | some t => if f t = true ∧ i < nL then some [(pc, (a.1, (i, x) :: a.2.1.filter (fun q => !(q.1 == i) && (!(q.1 + 1 == i) || x_n2 a.1 q.2)), S, a.2.2.2))] else none
    | none => none)
  | _ => none
def x_stoL (a : xS) (pc : Nat) (i nL : Nat) : xN := match a.2.2.1 with
  | x :: S => (match a.1[x]? with
    | some (.inr (.inl _)) => if i + 1 < nL then some [(pc, (a.1, (i, x) :: a.2.1.filter (fun q => !(q.1 == i) && (!(q.1 == i + 1) && (!(q.1 + 1 == i) || x_n2 a.1 q.2))), S, a.2.2.2))] else none
    | _ => none)
  | _ => none
def x_iinc (a : xS) (pc : Nat) (i nL : Nat) (n : Int) : xN := match a.2.1.find? (fun q => q.1 == i) with
  | some q => (match a.1[q.2]? with
    | some (.inl u) => if -32768 ≤ n ∧ n ≤ 32767 ∧ i < nL then (if -2147483648 ≤ u.1 + n ∧ u.2 + n ≤ 2147483647 then some [(pc + 3, (a.1 ++ [.inl (u.1 + n, u.2 + n)], (i, a.1.length) :: a.2.1.filter (fun z => !(z.1 == i) && (!(z.1 + 1 == i) || x_n2 a.1 z.2)), a.2.2.1, a.2.2.2.1, (a.1.length, q.2, n) :: a.2.2.2.2.1, a.2.2.2.2.2))]
        else some [(pc + 3, (a.1 ++ [.inl x_full], (i, a.1.length) :: a.2.1.filter (fun z => !(z.1 == i) && (!(z.1 + 1 == i) || x_n2 a.1 z.2)), a.2.2.1, a.2.2.2))]) else none
    | _ => none)
  | none => none
def x_lcmp (a : xS) (pc : Nat) : xN := match a.2.2.1 with
  | y :: x :: S => (match a.1[y]?, a.1[x]? with
    | some (.inr (.inl q)), some (.inr (.inl u)) => some ((match x_rlt u q with
        | some b => [(pc + 1, x_psh ((a.1.set x (.inr (.inl b.1))).set y (.inr (.inl b.2)), a.2) S (.inl (-1, -1)))]
        | none => []) ++ ((match x_req u q with
        | some b => [(pc + 1, x_psh ((a.1.set x (.inr (.inl b.1))).set y (.inr (.inl b.2)), a.2) S (.inl (0, 0)))]
        | none => []) ++ (match x_rlt q u with
        | some b => [(pc + 1, x_psh ((a.1.set x (.inr (.inl b.2))).set y (.inr (.inl b.1)), a.2) S (.inl (1, 1)))]
        | none => [])))
    | _, _ => none)
  | _ => none
end
section
section XP
variable {p : Program} {l : Launch} {e : Env} {R : Room} {s : State} {m : MethodId} {args : Array Value} {below : List Frame} {meth : Method} {c : Code} {Q : State → Prop}
variable {D : va_G} {G : List xG} {Zs : List xZ} {U : State} {ef : List (Nat × Nat)} {Y0 : xY} {H0 : Heap} {nL : Nat} {mu : List Value}
variable {cc : ByteArray} {pc : Nat} {a : xS} {sc : List (Nat × xS)}
theorem x_bin_ok {f : Int × Int → Int × Int → Option (Int × Int)} {g : Int32 → Int32 → Int32} (hw : x_wf a = true) (hf : ∀ u q t x y, f u q = some t → x_b u x → x_b q y → x_b t (g x y))
    (row : ∀ (H : Heap) (locs : List Loc) (cells slots : Nat) (ls : Array Slot) (rest : List Value) (x y : Int32) (u q t : Int × Int), f u q = some t → x_b u x → x_b q y → W p l e R s m args below meth c H locs cells slots Q (F0 m (pc + 1) ls (.int (g x y) :: rest)) → W p l e R s m args below meth c H locs cells slots Q (F0 m pc ls (.int y :: .int x :: rest)))
    (h : x_bin a pc f = some sc) (hs : ∀ q ∈ sc, x_K p l e R s m args below meth c Q D G Zs U ef Y0 H0 nL mu q) : x_K p l e R s m args below meth c Q D G Zs U ef Y0 H0 nL mu (pc, a) := by
  intro Y H locs r ls st hI hC
  unfold x_bin at h
  split at h
  · next y x S hS =>
    split at h
    · next q u hq hu =>
      split at h
      · next t ht =>
        cases h
        obtain ⟨vy, ey, by1⟩ := hC.1 y _ hq
        obtain ⟨vx, ex, bx1⟩ := hC.1 x _ hu
        have hst : st = .int vy :: .int vx :: S.map r := by rw [hC.2.2.1, hS, List.map_cons, List.map_cons, ey, ex]
        rw [hst]
        have hSl : ∀ k ∈ S, k < a.1.length := fun k hk => (x_wf_spec hw).2.1 k (by rw [hS]; exact List.mem_cons_of_mem _ (List.mem_cons_of_mem _ hk))
        refine row H locs _ _ ls _ vx vy u q t ht bx1 by1 ?_
        exact hs _ List.mem_cons_self Y H locs _ ls _ hI (hC.psh hw hSl ⟨_, rfl, hf u q t vx vy ht bx1 by1⟩)
      · cases h
    · cases h
  · cases h
theorem x_un_ok {f : Int × Int → Int × Int} {g : Int32 → Int32} (hw : x_wf a = true) (hf : ∀ u x, x_b u x → x_b (f u) (g x))
    (row : ∀ (H : Heap) (locs : List Loc) (cells slots : Nat) (ls : Array Slot) (rest : List Value) (x : Int32), W p l e R s m args below meth c H locs cells slots Q (F0 m (pc + 1) ls (.int (g x) :: rest)) → W p l e R s m args below meth c H locs cells slots Q (F0 m pc ls (.int x :: rest)))
    (h : x_un a pc f = some sc) (hs : ∀ q ∈ sc, x_K p l e R s m args below meth c Q D G Zs U ef Y0 H0 nL mu q) : x_K p l e R s m args below meth c Q D G Zs U ef Y0 H0 nL mu (pc, a) := by
  intro Y H locs r ls st hI hC
  unfold x_un at h
  split at h
  · next x S hS =>
    split at h
    · next u hu =>
      cases h
      obtain ⟨vx, ex, bx1⟩ := hC.1 x _ hu
      have hst : st = .int vx :: S.map r := by rw [hC.2.2.1, hS, List.map_cons, ex]
      rw [hst]
      have hSl : ∀ k ∈ S, k < a.1.length := fun k hk => (x_wf_spec hw).2.1 k (by rw [hS]; exact List.mem_cons_of_mem _ hk)
      refine row H locs _ _ ls _ vx ?_
      exact hs _ List.mem_cons_self Y H locs _ ls _ hI (hC.psh hw hSl ⟨_, rfl, hf u vx bx1⟩)
    · cases h
  · cases h
theorem x_addS_ok (hw : x_wf a = true) (hx : p.tables.exec = Jvm.exec) (hb : c.code = cc) (hd : decode cc pc = .ok (.iadd, 1))
    (h : x_addS a pc = some sc) (hs : ∀ q ∈ sc, x_K p l e R s m args below meth c Q D G Zs U ef Y0 H0 nL mu q) : x_K p l e R s m args below meth c Q D G Zs U ef Y0 H0 nL mu (pc, a) := by
  intro Y H locs r ls st hI hC
  unfold x_addS at h
  split at h
  · next y x S hS =>
    split at h
    · next q u hq hu =>
      cases h
      obtain ⟨vy, ey, by1⟩ := hC.1 y _ hq
      obtain ⟨vx, ex, bx1⟩ := hC.1 x _ hu
      have hst : st = .int vy :: .int vx :: S.map r := by rw [hC.2.2.1, hS, List.map_cons, List.map_cons, ey, ex]
      rw [hst]
      have hSl : ∀ k ∈ S, k < a.1.length := fun k hk => (x_wf_spec hw).2.1 k (by rw [hS]; exact List.mem_cons_of_mem _ (List.mem_cons_of_mem _ hk))
      have hxl : x < a.1.length := (x_wf_spec hw).2.1 x (by rw [hS]; exact List.mem_cons_of_mem _ List.mem_cons_self)
      refine lv_iadd hx hb hd ?_
      have hN := hC.psh hw hSl (t := .inl (x_addB u q)) (v := .int (vx + vy)) ⟨_, rfl, x_add_ok bx1 by1⟩
      have hh := hs _ List.mem_cons_self Y H locs (updV r a.1.length (.int (vx + vy))) ls (.int (vx + vy) :: S.map r) hI
      dsimp only at hh
      split at hh
      · next hq2 =>
        refine hh (hN.dif (d := (a.1.length, x, q.1)) ⟨(vx + vy).toInt, vx.toInt, by show x_num (updV _ _ _ a.1.length) = _; rw [x_up_at]; rfl, by show x_num (updV _ _ _ x) = _; rw [x_up_ag hxl, ex]; rfl, ?_⟩)
        have a1 := bx1.1; have a2 := bx1.2; have b1 := by1.1; have b2 := by1.2
        rw [Int32.toInt_add, x_bm (by omega) (by omega)]
        show _ = _ + q.1
        omega
      · exact hh hN
    · cases h
  · cases h
theorem x_binL_ok {nz : Bool} {g : Int64 → Int64 → Int64} (hw : x_wf a = true)
    (row : ∀ (H : Heap) (locs : List Loc) (cells slots : Nat) (ls : Array Slot) (rest : List Value) (x y : Int64), (nz = true → ¬ y = 0) → W p l e R s m args below meth c H locs cells slots Q (F0 m (pc + 1) ls (.long (g x y) :: rest)) → W p l e R s m args below meth c H locs cells slots Q (F0 m pc ls (.long y :: .long x :: rest)))
    (h : x_binL a pc nz = some sc) (hs : ∀ q ∈ sc, x_K p l e R s m args below meth c Q D G Zs U ef Y0 H0 nL mu q) : x_K p l e R s m args below meth c Q D G Zs U ef Y0 H0 nL mu (pc, a) := by
  intro Y H locs r ls st hI hC
  unfold x_binL at h
  split at h
  · next y x S hS =>
    split at h
    · next q u hq hu =>
      split at h
      · cases h
      · next hn =>
        cases h
        obtain ⟨vy, ey, by1⟩ := hC.1 y _ hq
        obtain ⟨vx, ex, bx1⟩ := hC.1 x _ hu
        have hst : st = .long vy :: .long vx :: S.map r := by rw [hC.2.2.1, hS, List.map_cons, List.map_cons, ey, ex]
        rw [hst]
        have hSl : ∀ k ∈ S, k < a.1.length := fun k hk => (x_wf_spec hw).2.1 k (by rw [hS]; exact List.mem_cons_of_mem _ (List.mem_cons_of_mem _ hk))
        refine row H locs _ _ ls _ vx vy (fun hz e0 => hn ⟨hz, fun hh => ?_⟩) ?_
        · subst e0
          have z : (0 : Int64).toInt = 0 := rfl
          rw [z] at by1
          omega
        · exact hs _ List.mem_cons_self Y H locs _ ls _ hI (hC.psh hw hSl ⟨_, rfl, x_rngL _⟩)
    · cases h
  · cases h
theorem x_shL_ok {g : Int64 → Int32 → Int64} (hw : x_wf a = true)
    (row : ∀ (H : Heap) (locs : List Loc) (cells slots : Nat) (ls : Array Slot) (rest : List Value) (x : Int64) (y : Int32), W p l e R s m args below meth c H locs cells slots Q (F0 m (pc + 1) ls (.long (g x y) :: rest)) → W p l e R s m args below meth c H locs cells slots Q (F0 m pc ls (.int y :: .long x :: rest)))
    (h : x_shL a pc = some sc) (hs : ∀ q ∈ sc, x_K p l e R s m args below meth c Q D G Zs U ef Y0 H0 nL mu q) : x_K p l e R s m args below meth c Q D G Zs U ef Y0 H0 nL mu (pc, a) := by
  intro Y H locs r ls st hI hC
  unfold x_shL at h
  split at h
  · next y x S hS =>
    split at h
    · next q u hq hu =>
      cases h
      obtain ⟨vy, ey, by1⟩ := hC.1 y _ hq
      obtain ⟨vx, ex, bx1⟩ := hC.1 x _ hu
      have hst : st = .int vy :: .long vx :: S.map r := by rw [hC.2.2.1, hS, List.map_cons, List.map_cons, ey, ex]
      rw [hst]
      have hSl : ∀ k ∈ S, k < a.1.length := fun k hk => (x_wf_spec hw).2.1 k (by rw [hS]; exact List.mem_cons_of_mem _ (List.mem_cons_of_mem _ hk))
      refine row H locs _ _ ls _ vx vy ?_
      exact hs _ List.mem_cons_self Y H locs _ ls _ hI (hC.psh hw hSl ⟨_, rfl, x_rngL _⟩)
    · cases h
  · cases h
theorem x_unL_ok {g : Int64 → Int64} (hw : x_wf a = true)
    (row : ∀ (H : Heap) (locs : List Loc) (cells slots : Nat) (ls : Array Slot) (rest : List Value) (x : Int64), W p l e R s m args below meth c H locs cells slots Q (F0 m (pc + 1) ls (.long (g x) :: rest)) → W p l e R s m args below meth c H locs cells slots Q (F0 m pc ls (.long x :: rest)))
    (h : x_unL a pc = some sc) (hs : ∀ q ∈ sc, x_K p l e R s m args below meth c Q D G Zs U ef Y0 H0 nL mu q) : x_K p l e R s m args below meth c Q D G Zs U ef Y0 H0 nL mu (pc, a) := by
  intro Y H locs r ls st hI hC
  unfold x_unL at h
  split at h
  · next x S hS =>
    split at h
    · next u hu =>
      cases h
      obtain ⟨vx, ex, bx1⟩ := hC.1 x _ hu
      have hst : st = .long vx :: S.map r := by rw [hC.2.2.1, hS, List.map_cons, ex]
      rw [hst]
      have hSl : ∀ k ∈ S, k < a.1.length := fun k hk => (x_wf_spec hw).2.1 k (by rw [hS]; exact List.mem_cons_of_mem _ hk)
      refine row H locs _ _ ls _ vx ?_
      exact hs _ List.mem_cons_self Y H locs _ ls _ hI (hC.psh hw hSl ⟨_, rfl, x_rngL _⟩)
    · cases h
  · cases h
theorem x_i2l_ok (hw : x_wf a = true) (hx : p.tables.exec = Jvm.exec) (hb : c.code = cc) (hd : decode cc pc = .ok (.i2l, 1))
    (h : x_i2l a pc = some sc) (hs : ∀ q ∈ sc, x_K p l e R s m args below meth c Q D G Zs U ef Y0 H0 nL mu q) : x_K p l e R s m args below meth c Q D G Zs U ef Y0 H0 nL mu (pc, a) := by
  intro Y H locs r ls st hI hC
  unfold x_i2l at h
  split at h
  · next x S hS =>
    split at h
    · next u hu =>
      cases h
      obtain ⟨vx, ex, bx1⟩ := hC.1 x _ hu
      have hst : st = .int vx :: S.map r := by rw [hC.2.2.1, hS, List.map_cons, ex]
      rw [hst]
      have hSl : ∀ k ∈ S, k < a.1.length := fun k hk => (x_wf_spec hw).2.1 k (by rw [hS]; exact List.mem_cons_of_mem _ hk)
      refine lv_i2l hx hb hd rfl ?_
      have hxl : x < a.1.length := (x_wf_spec hw).2.1 x (by rw [hS]; exact List.mem_cons_self)
      have hN := hC.psh hw hSl (t := .inr (.inl u)) (v := .long vx.toInt64) ⟨_, rfl, by rw [Int32.toInt_toInt64]; exact bx1.1, by rw [Int32.toInt_toInt64]; exact bx1.2⟩
      refine hs _ List.mem_cons_self Y H locs _ ls _ hI (hN.dif (d := (a.1.length, x, 0)) ⟨vx.toInt64.toInt, vx.toInt, by show x_num (updV _ _ _ a.1.length) = _; rw [x_up_at]; rfl, by show x_num (updV _ _ _ x) = _; rw [x_up_ag hxl, ex]; rfl, by rw [Int32.toInt_toInt64]; show _ = _ + (0 : Int); omega⟩)
    · cases h
  · cases h
theorem x_l2i_ok (hw : x_wf a = true) (hx : p.tables.exec = Jvm.exec) (hb : c.code = cc) (hd : decode cc pc = .ok (.l2i, 1))
    (h : x_l2i a pc = some sc) (hs : ∀ q ∈ sc, x_K p l e R s m args below meth c Q D G Zs U ef Y0 H0 nL mu q) : x_K p l e R s m args below meth c Q D G Zs U ef Y0 H0 nL mu (pc, a) := by
  intro Y H locs r ls st hI hC
  unfold x_l2i at h
  split at h
  · next x S hS =>
    split at h
    · next u hu =>
      cases h
      obtain ⟨vx, ex, bx1⟩ := hC.1 x _ hu
      have hst : st = .long vx :: S.map r := by rw [hC.2.2.1, hS, List.map_cons, ex]
      rw [hst]
      have hSl : ∀ k ∈ S, k < a.1.length := fun k hk => (x_wf_spec hw).2.1 k (by rw [hS]; exact List.mem_cons_of_mem _ hk)
      refine lv_l2i hx hb hd rfl ?_
      refine hs _ List.mem_cons_self Y H locs _ ls _ hI (hC.psh hw hSl ⟨_, rfl, ?_⟩)
      refine x_clipb fun h1 h2 => ?_
      have a1 := bx1.1; have a2 := bx1.2
      rw [Int64.toInt_toInt32, x_bm (by omega) (by omega)]
      exact bx1
    · cases h
  · cases h
theorem x_set_ok {Y : xY} {E : List xV} {r : Nat → Value} (h : ∀ (k : Nat) (t : xV), E[k]? = some t → x_c Y t (r k)) {x : Nat} {t : xV} (ht : x_c Y t (r x)) : ∀ (k : Nat) (u : xV), (E.set x t)[k]? = some u → x_c Y u (r k) := by
  intro k u hk
  rw [List.getElem?_set] at hk
  split at hk
  · next e0 =>
    split at hk
    · cases hk; rw [← e0]; exact ht
    · cases hk
  · exact h k u hk
theorem x_icmp_ok {off : Int} {f g : Int × Int → Int × Int → Option xB2} {P : Int32 → Int32 → Prop}
    (hf : ∀ u q x y, x_b u x → x_b q y → P x y → ∃ b : xB2, f u q = some b ∧ x_b b.1 x ∧ x_b b.2 y) (hg : ∀ u q x y, x_b u x → x_b q y → ¬ P x y → ∃ b : xB2, g u q = some b ∧ x_b b.1 x ∧ x_b b.2 y)
    (row : ∀ (H : Heap) (locs : List Loc) (cells slots : Nat) (ls : Array Slot) (rest : List Value) (x y : Int32) (tgt : Nat), (pc : Int) + off = (tgt : Int) → (P x y → W p l e R s m args below meth c H locs cells slots Q (F0 m tgt ls rest)) → (¬ P x y → W p l e R s m args below meth c H locs cells slots Q (F0 m (pc + 3) ls rest)) → W p l e R s m args below meth c H locs cells slots Q (F0 m pc ls (.int y :: .int x :: rest)))
    (h : x_icmp a pc off f g = some sc) (hs : ∀ q ∈ sc, x_K p l e R s m args below meth c Q D G Zs U ef Y0 H0 nL mu q) : x_K p l e R s m args below meth c Q D G Zs U ef Y0 H0 nL mu (pc, a) := by
  intro Y H locs r ls st hI hC
  unfold x_icmp at h
  split at h
  · next y x S hS =>
    split at h
    · next q u hq hu =>
      split at h
      · next ht =>
        cases h
        obtain ⟨vy, ey, by1⟩ := hC.1 y _ hq
        obtain ⟨vx, ex, bx1⟩ := hC.1 x _ hu
        have hst : st = .int vy :: .int vx :: S.map r := by rw [hC.2.2.1, hS, List.map_cons, List.map_cons, ey, ex]
        rw [hst]
        refine row H locs _ _ ls _ vx vy _ ht (fun hp => ?_) (fun hp => ?_)
        · obtain ⟨b, e1, e2, e3⟩ := hf u q vx vy bx1 by1 hp
          refine hs (_, ((a.1.set x (.inl b.1)).set y (.inl b.2), a.2.1, S, a.2.2.2)) (List.mem_append_left _ (by rw [e1]; exact List.mem_cons_self)) Y H locs r ls _ hI (hC.env ?_ S)
          exact x_set_ok (x_set_ok hC.1 (by rw [ex]; exact ⟨_, rfl, e2⟩)) (by rw [ey]; exact ⟨_, rfl, e3⟩)
        · obtain ⟨b, e1, e2, e3⟩ := hg u q vx vy bx1 by1 hp
          refine hs (_, ((a.1.set x (.inl b.1)).set y (.inl b.2), a.2.1, S, a.2.2.2)) (List.mem_append_right _ (by rw [e1]; exact List.mem_cons_self)) Y H locs r ls _ hI (hC.env ?_ S)
          exact x_set_ok (x_set_ok hC.1 (by rw [ex]; exact ⟨_, rfl, e2⟩)) (by rw [ey]; exact ⟨_, rfl, e3⟩)
      · cases h
    · cases h
  · cases h
theorem x_if0_ok {off : Int} {f g : Int × Int → Int × Int → Option xB2} {P : Int32 → Prop}
    (hf : ∀ u x, x_b u x → P x → ∃ b : xB2, f u (0, 0) = some b ∧ x_b b.1 x) (hg : ∀ u x, x_b u x → ¬ P x → ∃ b : xB2, g u (0, 0) = some b ∧ x_b b.1 x)
    (row : ∀ (H : Heap) (locs : List Loc) (cells slots : Nat) (ls : Array Slot) (rest : List Value) (x : Int32) (tgt : Nat), (pc : Int) + off = (tgt : Int) → (P x → W p l e R s m args below meth c H locs cells slots Q (F0 m tgt ls rest)) → (¬ P x → W p l e R s m args below meth c H locs cells slots Q (F0 m (pc + 3) ls rest)) → W p l e R s m args below meth c H locs cells slots Q (F0 m pc ls (.int x :: rest)))
    (h : x_if0 a pc off f g = some sc) (hs : ∀ q ∈ sc, x_K p l e R s m args below meth c Q D G Zs U ef Y0 H0 nL mu q) : x_K p l e R s m args below meth c Q D G Zs U ef Y0 H0 nL mu (pc, a) := by
  intro Y H locs r ls st hI hC
  unfold x_if0 at h
  split at h
  · next x S hS =>
    split at h
    · next u hu =>
      split at h
      · next ht =>
        cases h
        obtain ⟨vx, ex, bx1⟩ := hC.1 x _ hu
        have hst : st = .int vx :: S.map r := by rw [hC.2.2.1, hS, List.map_cons, ex]
        rw [hst]
        refine row H locs _ _ ls _ vx _ ht (fun hp => ?_) (fun hp => ?_)
        · obtain ⟨b, e1, e2⟩ := hf u vx bx1 hp
          refine hs (_, (a.1.set x (.inl b.1), a.2.1, S, a.2.2.2)) (List.mem_append_left _ (by rw [e1]; exact List.mem_cons_self)) Y H locs r ls _ hI (hC.env ?_ S)
          exact x_set_ok hC.1 (by rw [ex]; exact ⟨_, rfl, e2⟩)
        · obtain ⟨b, e1, e2⟩ := hg u vx bx1 hp
          refine hs (_, (a.1.set x (.inl b.1), a.2.1, S, a.2.2.2)) (List.mem_append_right _ (by rw [e1]; exact List.mem_cons_self)) Y H locs r ls _ hI (hC.env ?_ S)
          exact x_set_ok hC.1 (by rw [ex]; exact ⟨_, rfl, e2⟩)
      · cases h
    · cases h
  · cases h
theorem x_ld_ok {i pc' : Nat} {f : xV → Bool}
    (row : ∀ (Y : xY) (H : Heap) (locs : List Loc) (cells slots : Nat) (ls : Array Slot) (rest : List Value) (t : xV) (v : Value), f t = true → x_c Y t v → ls[i]? = some (.val v) → W p l e R s m args below meth c H locs cells slots Q (F0 m pc' ls (v :: rest)) → W p l e R s m args below meth c H locs cells slots Q (F0 m pc ls rest))
    (h : x_ld a pc' i f = some sc) (hs : ∀ q ∈ sc, x_K p l e R s m args below meth c Q D G Zs U ef Y0 H0 nL mu q) : x_K p l e R s m args below meth c Q D G Zs U ef Y0 H0 nL mu (pc, a) := by
  intro Y H locs r ls st hI hC
  unfold x_ld at h
  split at h
  · next q hq =>
    split at h
    · next t ht =>
      split at h
      · next hft =>
        cases h
        have hm := List.mem_of_find?_eq_some hq
        have hi : q.1 = i := by simpa using List.find?_some hq
        have hl : ls[i]? = some (.val (r q.2)) := hC.loc (by rw [← hi]; exact hm)
        refine row Y H locs _ _ ls _ t (r q.2) hft (hC.1 _ _ ht) hl ?_
        have hst := hC.2.2.1
        rw [hst]
        exact hs _ List.mem_cons_self Y H locs r ls _ hI (hC.stk (q.2 :: a.2.2.1))
      · cases h
    · cases h
  · cases h
theorem lv_has.less {ls : Array Slot} {n : Nat} {x y : List (Nat × Value)} (h : lv_has ls n x) (hy : ∀ q ∈ y, q ∈ x) : lv_has ls n y := ⟨h.1, h.2.1, fun q hq => h.2.2 q (hy q hq)⟩
theorem x_n2_ok {Y : xY} {E : List xV} {r : Nat → Value} (h : ∀ (k : Nat) (t : xV), E[k]? = some t → x_c Y t (r k)) {k : Nat} (hk : x_n2 E k = true) : (r k).category = 1 := by
  unfold x_n2 at hk
  split at hk
  · next u hu =>
    obtain ⟨v, e0, -⟩ := h k _ hu
    rw [e0]; rfl
  · next u hu =>
    rcases h k _ hu with ⟨e0, -⟩ | ⟨b, t, e0, -⟩ <;> rw [e0] <;> rfl
  · cases hk
theorem x_fil {Y : xY} {E : List xV} {r : Nat → Value} (h : ∀ (k : Nat) (t : xV), E[k]? = some t → x_c Y t (r k)) {L : List (Nat × Nat)} {i : Nat} {q : Nat × Value}
    (hq : q ∈ (L.filter (fun q => !(q.1 == i) && (!(q.1 + 1 == i) || x_n2 E q.2))).map (fun q => (q.1, r q.2))) : q ∈ (L.map (fun q => (q.1, r q.2))).filter (fun q => !(q.1 == i) && !(q.1 + 1 == i && q.2.category == 2)) := by
  obtain ⟨z, hz, rfl⟩ := List.mem_map.mp hq
  obtain ⟨h1, h2⟩ := List.mem_filter.mp hz
  refine List.mem_filter.mpr ⟨List.mem_map.mpr ⟨z, h1, rfl⟩, ?_⟩
  simp only [Bool.and_eq_true, Bool.or_eq_true, Bool.not_eq_true'] at h2 ⊢
  refine ⟨h2.1, ?_⟩
  rcases h2.2 with h3 | h3
  · simp [h3]
  · simp [x_n2_ok h h3]
theorem x_sto_ok {i pc' : Nat} {f : xV → Bool}
    (row : ∀ (Y : xY) (H : Heap) (locs : List Loc) (cells slots : Nat) (ls : Array Slot) (rest : List Value) (t : xV) (v : Value) (lv : List (Nat × Value)), f t = true → x_c Y t v → lv_has ls nL lv → i < nL →
      (∀ ls' : Array Slot, lv_has ls' nL ((i, v) :: lv.filter (fun q => !(q.1 == i) && !(q.1 + 1 == i && q.2.category == 2))) → W p l e R s m args below meth c H locs cells slots Q (F0 m pc' ls' rest)) → W p l e R s m args below meth c H locs cells slots Q (F0 m pc ls (v :: rest)))
    (h : x_sto a pc' i nL f = some sc) (hs : ∀ q ∈ sc, x_K p l e R s m args below meth c Q D G Zs U ef Y0 H0 nL mu q) : x_K p l e R s m args below meth c Q D G Zs U ef Y0 H0 nL mu (pc, a) := by
  intro Y H locs r ls st hI hC
  unfold x_sto at h
  split at h
  · next x S hS =>
    split at h
    · next t ht =>
      split at h
      · next hft =>
        cases h
        have hst : st = r x :: S.map r := by rw [hC.2.2.1, hS, List.map_cons]
        rw [hst]
        refine row Y H locs _ _ ls _ t (r x) _ hft.1 (hC.1 _ _ ht) hC.2.1 hft.2 fun ls' hl => ?_
        refine hs _ List.mem_cons_self Y H locs r ls' _ hI (hC.locs (hl.less fun q hq => ?_) S)
        rw [List.map_cons] at hq
        rcases List.mem_cons.mp hq with e0 | hq
        · rw [e0]; exact List.mem_cons_self
        · exact List.mem_cons_of_mem _ (x_fil hC.1 hq)
      · cases h
    · cases h
  · cases h
theorem x_stoL_ok {i pc' : Nat}
    (row : ∀ (H : Heap) (locs : List Loc) (cells slots : Nat) (ls : Array Slot) (rest : List Value) (v : Int64) (lv : List (Nat × Value)), lv_has ls nL lv → i + 1 < nL →
      (∀ ls' : Array Slot, lv_has ls' nL ((i, .long v) :: lv.filter (fun q => !(q.1 == i) && (!(q.1 == i + 1) && !(q.1 + 1 == i && q.2.category == 2)))) → W p l e R s m args below meth c H locs cells slots Q (F0 m pc' ls' rest)) → W p l e R s m args below meth c H locs cells slots Q (F0 m pc ls (.long v :: rest)))
    (h : x_stoL a pc' i nL = some sc) (hs : ∀ q ∈ sc, x_K p l e R s m args below meth c Q D G Zs U ef Y0 H0 nL mu q) : x_K p l e R s m args below meth c Q D G Zs U ef Y0 H0 nL mu (pc, a) := by
  intro Y H locs r ls st hI hC
  unfold x_stoL at h
  split at h
  · next x S hS =>
    split at h
    · next u ht =>
      split at h
      · next hft =>
        cases h
        obtain ⟨v, ev, -⟩ := hC.1 _ _ ht
        have hst : st = .long v :: S.map r := by rw [hC.2.2.1, hS, List.map_cons, ev]
        rw [hst]
        refine row H locs _ _ ls _ v _ hC.2.1 hft fun ls' hl => ?_
        refine hs _ List.mem_cons_self Y H locs r ls' _ hI (hC.locs (hl.less fun q hq => ?_) S)
        rw [List.map_cons] at hq
        rcases List.mem_cons.mp hq with e0 | hq
        · rw [e0, ev]; exact List.mem_cons_self
        · refine List.mem_cons_of_mem _ ?_
          obtain ⟨z, hz, rfl⟩ := List.mem_map.mp hq
          obtain ⟨h1, h2⟩ := List.mem_filter.mp hz
          refine List.mem_filter.mpr ⟨List.mem_map.mpr ⟨z, h1, rfl⟩, ?_⟩
          simp only [Bool.and_eq_true, Bool.or_eq_true, Bool.not_eq_true'] at h2 ⊢
          refine ⟨h2.1, h2.2.1, ?_⟩
          rcases h2.2.2 with h3 | h3
          · simp [h3]
          · simp [x_n2_ok hC.1 h3]
      · cases h
    · cases h
  · cases h
theorem x_iinc_ok {i : Nat} {n : Int} (hw : x_wf a = true) (hx : p.tables.exec = Jvm.exec) (hb : c.code = cc) (hd : decode cc pc = .ok (.iinc i n, 3))
    (h : x_iinc a pc i nL n = some sc) (hs : ∀ q ∈ sc, x_K p l e R s m args below meth c Q D G Zs U ef Y0 H0 nL mu q) : x_K p l e R s m args below meth c Q D G Zs U ef Y0 H0 nL mu (pc, a) := by
  intro Y H locs r ls st hI hC
  unfold x_iinc at h
  split at h
  · next q hq =>
    split at h
    · next u hu =>
      split at h
      · next hc =>
        obtain ⟨c1, c2, c3⟩ := hc
        obtain ⟨vx, ex, bx1⟩ := hC.1 _ _ hu
        have hm := List.mem_of_find?_eq_some hq
        have hi : q.1 = i := by simpa using List.find?_some hq
        have hql : q.2 < a.1.length := (x_wf_spec hw).1 q hm
        obtain ⟨k, hk⟩ := List.getElem?_of_mem (List.mem_map.mpr ⟨q, hm, rfl⟩ : (q.1, r q.2) ∈ a.2.1.map fun q => (q.1, r q.2))
        rw [hi, ex] at hk
        have b1 := bx1.1; have b2 := bx1.2
        have hz : (Int32.ofInt n).toInt = n := by rw [Int32.toInt_ofInt, x_bm (by omega) (by omega)]
        refine lv_iinc hx hb hd hC.2.1 hk rfl c3 rfl fun ls' hl => ?_
        have hls : ∀ z ∈ (((i, a.1.length) :: a.2.1.filter (fun z => !(z.1 == i) && (!(z.1 + 1 == i) || x_n2 a.1 z.2))).map fun y => (y.1, updV r a.1.length (.int (vx + Int32.ofInt n)) y.2)), z ∈ ((i, Value.int (vx + Int32.ofInt n)) :: (a.2.1.map fun q => (q.1, r q.2)).filter (fun q => !(q.1 == i) && !(q.1 + 1 == i && q.2.category == 2))) := by
          intro z hz
          rw [List.map_cons] at hz
          rcases List.mem_cons.mp hz with e0 | hz
          · rw [e0, x_up_at]; exact List.mem_cons_self
          · refine List.mem_cons_of_mem _ (x_fil hC.1 ?_)
            obtain ⟨y, hy, rfl⟩ := List.mem_map.mp hz
            refine List.mem_map.mpr ⟨y, hy, ?_⟩
            rw [x_up_ag ((x_wf_spec hw).1 y (List.mem_filter.mp hy).1)]
        split at h
        · next hov =>
          cases h
          have ev : (vx + Int32.ofInt n).toInt = vx.toInt + n := by rw [Int32.toInt_add, hz, x_bm (by omega) (by omega)]
          have hN := hC.new hw (t := .inl (u.1 + n, u.2 + n)) (v := .int (vx + Int32.ofInt n)) ⟨_, rfl, by rw [ev]; show u.1 + n ≤ _; omega, by rw [ev]; show _ ≤ u.2 + n; omega⟩
          have hst := hN.2.2.1
          rw [hst]
          have hN2 := (hN.locs (ls' := ls') (L := (i, a.1.length) :: a.2.1.filter (fun z => !(z.1 == i) && (!(z.1 + 1 == i) || x_n2 a.1 z.2))) (hl.less hls) a.2.2.1).dif (d := (a.1.length, q.2, n)) ⟨_, vx.toInt, by show x_num (updV _ _ _ a.1.length) = _; rw [x_up_at]; rfl, by show x_num (updV _ _ _ q.2) = _; rw [x_up_ag hql, ex]; rfl, ev⟩
          exact hs _ List.mem_cons_self Y H locs _ ls' _ hI hN2
        · cases h
          have hN := hC.new hw (t := .inl x_full) (v := .int (vx + Int32.ofInt n)) ⟨_, rfl, x_fullb _⟩
          have hst := hN.2.2.1
          rw [hst]
          exact hs _ List.mem_cons_self Y H locs _ ls' _ hI (hN.locs (ls' := ls') (L := (i, a.1.length) :: a.2.1.filter (fun z => !(z.1 == i) && (!(z.1 + 1 == i) || x_n2 a.1 z.2))) (hl.less hls) a.2.2.1)
      · cases h
    · cases h
  · cases h
theorem x_lcmp_ok (hw : x_wf a = true) (hx : p.tables.exec = Jvm.exec) (hb : c.code = cc) (hd : decode cc pc = .ok (.lcmp, 1))
    (h : x_lcmp a pc = some sc) (hs : ∀ q ∈ sc, x_K p l e R s m args below meth c Q D G Zs U ef Y0 H0 nL mu q) : x_K p l e R s m args below meth c Q D G Zs U ef Y0 H0 nL mu (pc, a) := by
  intro Y H locs r ls st hI hC
  unfold x_lcmp at h
  split at h
  · next y x S hS =>
    split at h
    · next q u hq hu =>
      cases h
      obtain ⟨vy, ey, by1⟩ := hC.1 y _ hq
      obtain ⟨vx, ex, bx1⟩ := hC.1 x _ hu
      have hst : st = .long vy :: .long vx :: S.map r := by rw [hC.2.2.1, hS, List.map_cons, List.map_cons, ey, ex]
      rw [hst]
      have hSl : ∀ k ∈ S, k < a.1.length := fun k hk => (x_wf_spec hw).2.1 k (by rw [hS]; exact List.mem_cons_of_mem _ (List.mem_cons_of_mem _ hk))
      refine W.lcmp hx hb hd ?_
      have key : ∀ (E : List xV) (z : Int) (vz : Int32), E.length = a.1.length → (∀ (k : Nat) (t : xV), E[k]? = some t → x_c Y t (r k)) → vz.toInt = z → lg_cmp vx vy = vz →
          x_K p l e R s m args below meth c Q D G Zs U ef Y0 H0 nL mu (pc + 1, x_psh (E, a.2) S (.inl (z, z))) → W p l e R s m args below meth c H locs (x_cells a) (x_slots a) Q (F0 m (pc + 1) ls (.int (lg_cmp vx vy) :: S.map r)) := by
        intro E z vz hE he hz hv hk
        have hC2 : x_C D Y0 nL mu Y H (E, a.2) r ls st := ⟨he, hC.2⟩
        have hw2 : x_wf (E, a.2) = true := by
          have := hw
          unfold x_wf at this ⊢
          simp only [hE]
          exact this
        have hP := hC2.psh hw2 (S := S) (fun k hk => by show k < E.length; rw [hE]; exact hSl k hk) (t := .inl (z, z)) (v := .int (lg_cmp vx vy)) ⟨_, rfl, by rw [hv]; show z ≤ _; omega, by rw [hv]; show _ ≤ z; omega⟩
        exact hk Y H locs _ ls _ hI hP
      rcases Int.lt_trichotomy vx.toInt vy.toInt with h1 | h1 | h1
      · obtain ⟨b, e1, e2, e3⟩ := x_rlt_ok bx1 by1 h1
        refine key _ (-1) (-1) (by simp) (x_set_ok (x_set_ok hC.1 (t := .inr (.inl b.1)) (by rw [ex]; exact ⟨_, rfl, e2⟩)) (t := .inr (.inl b.2)) (by rw [ey]; exact ⟨_, rfl, e3⟩)) (by decide) ?_ (hs _ (List.mem_append_left _ (by rw [e1]; exact List.mem_cons_self)))
        unfold lg_cmp
        rw [if_neg (by rw [gt_iff_lt, Int64.lt_iff_toInt_lt]; omega), if_neg (by rw [← Int64.toInt_inj]; omega)]
      · obtain ⟨b, e1, e2, e3⟩ := x_req_ok bx1 by1 h1
        refine key _ 0 0 (by simp) (x_set_ok (x_set_ok hC.1 (t := .inr (.inl b.1)) (by rw [ex]; exact ⟨_, rfl, e2⟩)) (t := .inr (.inl b.2)) (by rw [ey]; exact ⟨_, rfl, e3⟩)) (by decide) ?_ (hs _ (List.mem_append_right _ (List.mem_append_left _ (by rw [e1]; exact List.mem_cons_self))))
        unfold lg_cmp
        rw [if_neg (by rw [gt_iff_lt, Int64.lt_iff_toInt_lt]; omega), if_pos (by rw [← Int64.toInt_inj]; exact h1)]
      · obtain ⟨b, e1, e2, e3⟩ := x_rlt_ok by1 bx1 h1
        refine key _ 1 1 (by simp) (x_set_ok (x_set_ok hC.1 (t := .inr (.inl b.2)) (by rw [ex]; exact ⟨_, rfl, e3⟩)) (t := .inr (.inl b.1)) (by rw [ey]; exact ⟨_, rfl, e2⟩)) (by decide) ?_ (hs _ (List.mem_append_right _ (List.mem_append_right _ (by rw [e1]; exact List.mem_cons_self))))
        unfold lg_cmp
        rw [if_pos (by rw [gt_iff_lt, Int64.lt_iff_toInt_lt]; exact h1)]
    · cases h
  · cases h
end XP
end
section
/-! THE HEAP'S INSTRUCTIONS. A method's entries: fields (pool number, tag, field), made objects (pool number, tag), made arrays (place, tag), statics (pool number, number in Zs). -/
def x_all {α β : Type} (f : α → Option β) : List α → Option (List β)
  | [] => some []
  | x :: xs => match f x, x_all f xs with
    | some y, some ys => some (y :: ys)
    | _, _ => none
theorem x_all_mem {α β : Type} {f : α → Option β} : ∀ {xs : List α} {ys : List β}, x_all f xs = some ys → ∀ x ∈ xs, ∃ y, f x = some y ∧ y ∈ ys := by
  intro xs
  induction xs with
  | nil => intro ys _ x hx; cases hx
  | cons z zs ih =>
    intro ys h x hx
    unfold x_all at h
    split at h
    · next y ys' h1 h2 =>
      cases h
      rcases List.mem_cons.mp hx with e | hx
      · subst e; exact ⟨y, h1, List.mem_cons_self⟩
      · obtain ⟨y', q1, q2⟩ := ih h2 x hx
        exact ⟨y', q1, List.mem_cons_of_mem _ q2⟩
    · cases h
/-- a field that an instruction names: the class of the tag has it there, and the words for it are at hand -/
def x_fok (cl : List vw_C) (G : List xG) (Ts : List Cond) (s : State) (args : Array Value) (own : String) (z : Nat × Nat × Nat) : Prop :=
  ∃ (ci : Nat) (fts : List xV) (C : String) (T : u_T) (ref : String), G[z.2.1]? = some (.inl (ci, fts)) ∧ cl[ci]? = some (C, T, fts.length) ∧ z.2.2 < fts.length ∧ (∀ w ∈ u_ws C T fts.length, w ∈ Ts) ∧
    (Cond.fieldLink own z.1 ref (T z.2.2).2.1 (T z.2.2).2.2.1).before args s = true ∧ ∀ x, s.fieldFound? (T z.2.2).1 (T z.2.2).2.1 (T z.2.2).2.2.1 = some x → s.fieldFound? ref (T z.2.2).2.1 (T z.2.2).2.2.1 = some x
def x_fit (ft : xV) (ty : FieldType) : Prop := ∀ (Y : xY) (v : Value), x_c Y ft v → narrow ty v = v ∧ fits ty v = true
/-- and may be written -/
def x_pok (cl : List vw_C) (G : List xG) (Ts : List Cond) (s : State) (args : Array Value) (own mn : String) (z : Nat × Nat × Nat) : Prop :=
  ∃ (ci : Nat) (fts : List xV) (C : String) (T : u_T) (ref : String) (ty : Nat → FieldType) (ft : xV), G[z.2.1]? = some (.inl (ci, fts)) ∧ cl[ci]? = some (C, T, fts.length) ∧ z.2.2 < fts.length ∧ (∀ w ∈ u_ws C T fts.length, w ∈ Ts) ∧
    (Cond.fieldLink own z.1 ref (T z.2.2).2.1 (T z.2.2).2.2.1).before args s = true ∧ (∀ x, s.fieldFound? (T z.2.2).1 (T z.2.2).2.1 (T z.2.2).2.2.1 = some x → s.fieldFound? ref (T z.2.2).2.1 (T z.2.2).2.2.1 = some x) ∧
    (∀ k, k < fts.length → parseFieldDescriptor (T k).2.2.1 = some (ty k)) ∧ (∀ a, a < fts.length → ∀ b, b < fts.length → a ≠ b → (T a).2.1 ≠ (T b).2.1) ∧ fts[z.2.2]? = some ft ∧ x_fit ft (ty z.2.2) ∧
    ((T z.2.2).2.2.2 = false ∨ ((T z.2.2).2.2.2 = true ∧ mn = "<init>" ∧ (T z.2.2).1 = own))
def x_gf (G : List xG) (pf : List (Nat × Nat × Nat)) (a : xS) (pc idx : Nat) : xN := match a.2.2.1 with
  | o :: S => (match a.1[o]? with
    | some (.inr (.inr (false, ts))) => x_all (fun (t : Nat) => match G[t]?, pf.find? (fun z => z.1 == idx && z.2.1 == t) with
      | some (.inl (ci, fts)), some z => if ci = 1000 then none else (match a.2.2.2.1.find? (fun f => f.1 == o && (f.2.1 == ci && f.2.2.1 == z.2.2)) with
        | some f => some (pc + 3, (a.1.set o (.inr (.inr (false, [t]))), a.2.1, f.2.2.2 :: S, a.2.2.2))
        | none => (match fts[z.2.2]? with
          | some ft => some (pc + 3, (a.1.set o (.inr (.inr (false, [t]))) ++ [ft], a.2.1, a.1.length :: S, (o, ci, z.2.2, a.1.length) :: a.2.2.2.1, a.2.2.2.2))
          | none => none))
      | _, _ => none) ts
    | _ => none)
  | _ => none
/-- tags that two references can't share -/
def x_dj (E : List xV) (x y : Nat) : Bool := match E[x]?, E[y]? with
  | some (.inr (.inr p)), some (.inr (.inr q)) => p.2.all (fun t => q.2.all (fun u => !(t == u)))
  | _, _ => false
def x_pf (G : List xG) (pf : List (Nat × Nat × Nat)) (ef : List (Nat × Nat)) (a : xS) (pc idx : Nat) : xN := match a.2.2.1 with
  | v :: o :: S => (match a.1[o]?, a.1[v]? with
    | some (.inr (.inr (false, ts))), some tv => x_all (fun (t : Nat) => match G[t]?, pf.find? (fun z => z.1 == idx && z.2.1 == t) with
      | some (.inl (ci, fts)), some z => (match fts[z.2.2]? with
        | some ft => if ¬ ci = 1000 ∧ x_le tv ft = true ∧ (ef.any (fun q => q.1 == t && q.2 == z.2.2) = true ∨ a.2.2.2.2.2.2.1.any (fun k => k == o) = true) then
            some (pc + 3, (a.1.set o (.inr (.inr (false, [t]))), a.2.1, S, (o, ci, z.2.2, v) :: a.2.2.2.1.filter (fun f => (f.1 == o && (f.2.1 == ci && !(f.2.2.1 == z.2.2) && Nat.blt f.2.2.1 fts.length)) || x_dj a.1 f.1 o), a.2.2.2.2)) else none
        | none => none)
      | _, _ => none) ts
    | _, _ => none)
  | _ => none
/-- what is read at a place of an array, what may be written there: by the place's bounds -/
def x_er (pre : List xV) (ft : xV) (u : Int × Int) : Option xV := if u.1 = u.2 then some (pre.getD u.1.toNat ft) else if (pre.length : Int) ≤ u.1 then some ft else if pre.all (fun t => x_le t ft) then some ft else none
def x_ew (pre : List xV) (ft : xV) (u : Int × Int) : Option xV := if u.1 = u.2 then some (pre.getD u.1.toNat ft) else if (pre.length : Int) ≤ u.1 then some ft else none
theorem x_er_ok {Y : xY} {pre : List xV} {ft t : xV} {u : Int × Int} {x : Int32} {v : Value} (h : x_er pre ft u = some t) (hb : x_b u x) (h0 : 0 ≤ u.1) (hv : x_c Y (pre.getD x.toNatClampNeg ft) v) : x_c Y t v := by
  have a1 := hb.1; have a2 := hb.2
  have hc : x.toNatClampNeg = x.toInt.toNat := rfl
  unfold x_er at h
  split at h
  · next e0 =>
    cases h
    have : x.toNatClampNeg = u.1.toNat := by rw [hc]; omega
    rw [← this]; exact hv
  · split at h
    · next hp =>
      cases h
      rw [List.getD_eq_getElem?_getD, List.getElem?_eq_none (by rw [hc]; omega)] at hv
      exact hv
    · split at h
      · next hp =>
        cases h
        rw [List.getD_eq_getElem?_getD] at hv
        cases hq : pre[x.toNatClampNeg]? with
        | none => rw [hq] at hv; exact hv
        | some w =>
          rw [hq] at hv
          exact x_le_ok (List.all_eq_true.mp hp w (List.mem_of_getElem? hq)) hv
      · cases h
theorem x_ew_ok {pre : List xV} {ft t : xV} {u : Int × Int} {x : Int32} (h : x_ew pre ft u = some t) (hb : x_b u x) (h0 : 0 ≤ u.1) : pre.getD x.toNatClampNeg ft = t := by
  have a1 := hb.1; have a2 := hb.2
  have hc : x.toNatClampNeg = x.toInt.toNat := rfl
  unfold x_ew at h
  split at h
  · next e0 =>
    cases h
    have : x.toNatClampNeg = u.1.toNat := by rw [hc]; omega
    rw [this]
  · split at h
    · next hp =>
      cases h
      rw [List.getD_eq_getElem?_getD, List.getElem?_eq_none (by rw [hc]; omega)]
      rfl
    · cases h
/-- a known thing that a store at places u of the array o leaves alone -/
def x_kp (E : List xV) (o : Nat) (u : Int × Int) (f : Nat × Nat × Nat × Nat) : Bool := x_dj E f.1 o || (f.1 == o && (f.2.1 == 1000 && (decide ((f.2.2.1 : Int) < u.1) || decide (u.2 < (f.2.2.1 : Int)))))
def x_ial (G : List xG) (a : xS) (pc : Nat) (ty : FieldType → Bool) : xN := match a.2.2.1 with
  | i :: o :: S => (match a.1[o]?, a.1[i]? with
    | some (.inr (.inr (false, ts))), some (.inl u) => x_all (fun (t : Nat) => match G[t]? with
      | some (.inr (et, n, pre, ft)) => if ty et = true ∧ 0 ≤ u.1 ∧ u.2 < (n : Int) then (match x_er pre ft u with
          | some w => if u.1 = u.2 then (match a.2.2.2.1.find? (fun f => f.1 == o && (f.2.1 == 1000 && f.2.2.1 == u.1.toNat)) with
            | some f => some (pc + 1, (a.1.set o (.inr (.inr (false, [t]))), a.2.1, f.2.2.2 :: S, a.2.2.2))
            | none => some (pc + 1, (a.1.set o (.inr (.inr (false, [t]))) ++ [w], a.2.1, a.1.length :: S, (o, 1000, u.1.toNat, a.1.length) :: a.2.2.2.1, a.2.2.2.2)))
            else some (pc + 1, x_psh (a.1.set o (.inr (.inr (false, [t]))), a.2) S w)
          | none => none) else none
      | _ => none) ts
    | _, _ => none)
  | _ => none
def x_ias (G : List xG) (ef : List (Nat × Nat)) (a : xS) (pc : Nat) : xN := match a.2.2.1 with
  | v :: i :: o :: S => (match a.1[o]?, a.1[i]?, a.1[v]? with
    | some (.inr (.inr (false, ts))), some (.inl u), some (.inl tv) => x_all (fun (t : Nat) => match G[t]? with
      | some (.inr (.int, n, pre, ft)) => if (x_ew pre ft u).any (fun w => x_le (.inl tv) w) = true ∧ 0 ≤ u.1 ∧ u.2 < (n : Int) ∧ (ef.any (fun q => q.1 == t && q.2 == 0) = true ∨ a.2.2.2.2.2.2.1.any (fun k => k == o) = true) then
          some (pc + 1, (a.1.set o (.inr (.inr (false, [t]))), a.2.1, S, (if u.1 = u.2 then [(o, 1000, u.1.toNat, v)] else []) ++ a.2.2.2.1.filter (x_kp a.1 o u), a.2.2.2.2)) else none
      | _ => none) ts
    | _, _, _ => none)
  | _ => none
def x_aln (G : List xG) (a : xS) (pc : Nat) : xN := match a.2.2.1 with
  | o :: S => (match a.1[o]? with
    | some (.inr (.inr (false, ts))) => x_all (fun (t : Nat) => match G[t]? with
      | some (.inr (_, n, _, _)) => if n < 2147483648 then some (pc + 1, x_psh (a.1.set o (.inr (.inr (false, [t]))), a.2) S (.inl ((n : Int), (n : Int)))) else none
      | _ => none) ts
    | _ => none)
  | _ => none
section XR
variable {p : Program} {l : Launch} {e : Env} {R : Room} {s : State} {m : MethodId} {args : Array Value} {below : List Frame} {meth : Method} {c : Code} {Q : State → Prop}
variable {D : va_G} {G : List xG} {Zs : List xZ} {U : State} {ef : List (Nat × Nat)} {Y0 : xY} {H0 : Heap} {nL : Nat} {mu : List Value}
variable {cc : ByteArray} {pc : Nat} {a : xS} {sc : List (Nat × xS)} {cl : List vw_C} {Ts : List Cond} {own : String} {pf : List (Nat × Nat × Nat)}
theorem x_ref_at {Y : xY} {t0 : xV} {v : Value} {ts : List Nat} (h : x_c Y t0 v) (he : t0 = .inr (.inr (false, ts))) : ∃ b t : Nat, v = .ref b ∧ t ∈ ts ∧ Y b = some t := by
  subst he
  rcases h with ⟨-, h⟩ | h
  · cases h
  · exact h
theorem x_get_row {Y : xY} {H : Heap} {locs : List Loc} {cells slots : Nat} {ls : Array Slot} {rest : List Value} (hx : p.tables.exec = Jvm.exec) (hb : c.code = cc) (hts : ∀ w ∈ Ts, w.before args s = true) (hown : s.vm.findClass own = some m.cls) (hK : va_K D cl [] s)
    {z : Nat × Nat × Nat} (hf : x_fok cl G Ts s args own z) (hH : x_H D G Zs U Y H) {b : Nat} (hY : Y b = some z.2.1) (hd : decode cc pc = .ok (.getfield z.1, 3)) {ci : Nat} {fts : List xV} (hg : G[z.2.1]? = some (.inl (ci, fts)))
    (kk : ∀ v : Value, (∀ ft, fts[z.2.2]? = some ft → x_c Y ft v) → x_sl D ci z.2.2 b H = some v → W p l e R s m args below meth c H locs cells slots Q (F0 m (pc + 3) ls (v :: rest))) : W p l e R s m args below meth c H locs cells slots Q (F0 m pc ls (.ref b :: rest)) := by
  obtain ⟨ci', fts', C, T, ref, g1, g2, g3, g4, g5, g6⟩ := hf
  cases hg.symm.trans g1
  obtain ⟨g, h1, h2⟩ := hH.1 b _ hY
  cases h1.symm.trans g1
  obtain ⟨V, ⟨cell, q1, q2, q3, q4⟩, hV⟩ := h2
  obtain ⟨hS, hfc, kC, hkC, hkind⟩ := hK.1 ci _ g2
  obtain ⟨cf, kf, fi, f, hi, hsl⟩ := hS z.2.2 g3
  refine W.getf hx hb hown g5 (g6 _ hi) (u_facts hfc hkC (u_lays hts g4 g3) hi).1 q1 (by rw [q3]; exact fun h => by cases h) (v := V z.2.2) (by rw [hsl]; exact q4 _ g3) rfl rfl hd ?_
  refine kk _ (fun ft hft => hV _ _ hft) ?_
  show (H[b]?).bind _ = _
  rw [q1]
  exact q4 _ g3
theorem x_gf_ok {idx : Nat} (hw : x_wf a = true) (hx : p.tables.exec = Jvm.exec) (hb : c.code = cc) (hts : ∀ w ∈ Ts, w.before args s = true) (hown : s.vm.findClass own = some m.cls) (hK : va_K D cl [] s) (hpf : ∀ z ∈ pf, x_fok cl G Ts s args own z)
    (hd : decode cc pc = .ok (.getfield idx, 3)) (h : x_gf G pf a pc idx = some sc) (hs : ∀ q ∈ sc, x_K p l e R s m args below meth c Q D G Zs U ef Y0 H0 nL mu q) : x_K p l e R s m args below meth c Q D G Zs U ef Y0 H0 nL mu (pc, a) := by
  intro Y H locs r ls st hI hC
  unfold x_gf at h
  split at h
  · next o S hS =>
    split at h
    · next ts ho =>
      obtain ⟨b, t, eb, ht, hY⟩ := x_ref_at (hC.1 o _ ho) rfl
      obtain ⟨y, hy, hm⟩ := x_all_mem h t ht
      have hK1 := hs y hm
      have hst : st = .ref b :: S.map r := by rw [hC.2.2.1, hS, List.map_cons, eb]
      rw [hst]
      have hol : o < a.1.length := (List.getElem?_eq_some_iff.mp ho).1
      have hE : ∀ (k : Nat) (u : xV), (a.1.set o (.inr (.inr (false, [t]))))[k]? = some u → x_c Y u (r k) := x_set_ok hC.1 (Or.inr ⟨b, t, eb, List.mem_cons_self, hY⟩)
      have hSl : ∀ k ∈ S, k < a.1.length := fun k hk => (x_wf_spec hw).2.1 k (by rw [hS]; exact List.mem_cons_of_mem _ hk)
      split at hy
      · next ci fts z hg hz =>
        have hzm := List.mem_of_find?_eq_some hz
        have hze := List.find?_some hz
        simp only [Bool.and_eq_true, beq_iff_eq] at hze
        obtain ⟨e1, e2⟩ := hze
        subst e1; subst e2
        refine x_get_row hx hb hts hown hK (hpf z hzm) hI.1 hY hd hg fun v hv hsl => ?_
        split at hy
        · cases hy
        next hci =>
        split at hy
        · next f hf =>
          cases hy
          have hfm := List.mem_of_find?_eq_some hf
          have hfe := List.find?_some hf
          simp only [Bool.and_eq_true, beq_iff_eq] at hfe
          obtain ⟨f1, f2, f3⟩ := hfe
          obtain ⟨b', q1, q2⟩ := hC.2.2.2.1 f hfm
          rw [f1, eb] at q1
          cases q1
          rw [f2, f3, x_fv_sl hci, hsl] at q2
          cases q2
          exact hK1 Y H locs r ls _ hI (hC.env hE (f.2.2.2 :: S))
        · split at hy
          · next ft hft =>
            cases hy
            have hw2 : x_wf (a.1.set o (.inr (.inr (false, [z.2.1]))), a.2.1, S, a.2.2.2) = true := by
              have h3 := hw
              simp only [x_wf, Bool.and_eq_true, List.all_eq_true, Nat.blt_eq, List.length_set] at h3 ⊢
              exact ⟨h3.1, hSl, h3.2.2⟩
            have hP := (hC.env hE S).psh hw2 (S := S) (fun k hk => by show k < (a.1.set o _).length; rw [List.length_set]; exact hSl k hk) (hv ft hft)
            have hln : (a.1.set o (.inr (.inr (false, [z.2.1])))).length = a.1.length := List.length_set
            refine hK1 Y H locs (updV r a.1.length v) ls (v :: S.map r) hI ?_
            unfold x_psh at hP
            dsimp only at hP
            rw [hln] at hP
            obtain ⟨p1, p2, p3, p4, p5⟩ := hP
            refine ⟨p1, p2, p3, fun f hf => ?_, p5⟩
            rcases List.mem_cons.mp hf with e0 | hf
            · rw [e0]
              exact ⟨b, by show updV r a.1.length v o = _; rw [x_up_ag hol]; exact eb, by show x_fv D ci z.2.2 b H = some (updV r a.1.length v a.1.length); rw [x_up_at, x_fv_sl hci]; exact hsl⟩
            · exact p4 f hf
          · cases hy
      · cases hy
    · cases h
  · cases h
theorem x_put_row {Y : xY} {H : Heap} {locs : List Loc} {cells slots : Nat} {ls : Array Slot} {rest : List Value} (hx : p.tables.exec = Jvm.exec) (hb : c.code = cc) (hts : ∀ w ∈ Ts, w.before args s = true) (hown : s.vm.findClass own = some m.cls) (hK : va_K D cl [] s)
    {z : Nat × Nat × Nat} (hp : x_pok cl G Ts s args own meth.name z) (hH : x_H D G Zs U Y H) {b : Nat} (hY : Y b = some z.2.1) (hd : decode cc pc = .ok (.putfield z.1, 3)) {ci : Nat} {fts : List xV} (hg : G[z.2.1]? = some (.inl (ci, fts))) {ft : xV} (hft : fts[z.2.2]? = some ft) {v : Value} (hv : x_c Y ft v)
    (kk : ∀ (H' : Heap) (sl : Nat), H'.size = H.size → (∀ q, q ≠ b → H'[q]? = H[q]?) → x_H D G Zs U Y H' → x_sl D ci z.2.2 b H' = some v → (∀ j, j < fts.length → j ≠ z.2.2 → x_sl D ci j b H' = x_sl D ci j b H) → W p l e R s m args below meth c H' (locs ++ [⟨b, sl⟩]) cells slots Q (F0 m (pc + 3) ls rest)) :
    W p l e R s m args below meth c H locs cells slots Q (F0 m pc ls (v :: .ref b :: rest)) := by
  obtain ⟨ci', fts', C, T, ref, ty, ft', g1, g2, g3, g4, g5, g6, g7, g8, g9, g10, g11⟩ := hp
  cases hg.symm.trans g1
  cases hft.symm.trans g9
  obtain ⟨g, h1, h2⟩ := hH.1 b _ hY
  cases h1.symm.trans g1
  obtain ⟨V, ⟨cell, q1, q2, q3, q4⟩, hV⟩ := h2
  have hap := va_apart (own := own) hts g4 ty g7 g8 hK g2
  obtain ⟨hS, hfc, kC, hkC, hkind⟩ := hK.1 ci _ g2
  obtain ⟨cf, kf, fi, f, hi, hsl⟩ := hS z.2.2 g3
  obtain ⟨n1, n2⟩ := g10 Y v hv
  have hst := (u_facts hfc hkC (u_lays hts g4 g3) hi).1
  have fin : ∀ H' : Heap, H'[b]? = some (cell.setSlot f.slot v) → H'.size = H.size → (∀ q, q ≠ b → H'[q]? = H[q]?) → W p l e R s m args below meth c H' (locs ++ [⟨b, f.slot⟩]) cells slots Q (F0 m (pc + 3) ls rest) := by
    intro H' e1 e2 e3
    rw [hsl] at e1
    have q5 := t_set q4 hap g3 v
    refine kk H' f.slot e2 e3 (hH.put hY e3 g1 ⟨updV V z.2.2 v, ⟨_, e1, q2, q3, q5⟩, fun j fj hj => ?_⟩) ?_ (fun j hj hn => ?_)
    · by_cases ej : j = z.2.2
      · subst ej
        cases hj.symm.trans hft
        rw [x_up_at]; exact hv
      · have : updV V z.2.2 v j = V j := by unfold updV; rw [if_neg ej]
        rw [this]; exact hV j fj hj
    · show (H'[b]?).bind _ = _
      rw [e1]
      have := q5 z.2.2 g3
      rw [x_up_at] at this
      exact this
    · show (H'[b]?).bind _ = (H[b]?).bind _
      rw [e1, q1]
      have h1 := q5 j hj
      have h2 : updV V z.2.2 v j = V j := by unfold updV; rw [if_neg hn]
      rw [h2] at h1
      show (cell.setSlot (D.2 ci z.2.2) v).slots[D.2 ci j]? = cell.slots[D.2 ci j]?
      rw [h1, q4 j hj]
  rcases g11 with hfin | ⟨hfin, hmn, hdecl⟩
  · have hlay := hts _ (g4 _ (u_in_lay g3))
    unfold u_lay at hlay
    rw [if_neg (by rw [hfin]; decide)] at hlay
    have h6 := u_store hfc hkC hkind hlay hi (g7 _ g3) n1 n2
    exact W.putK hx hb (f := f) ⟨hown, g5, ⟨_, _, _, g6 _ hi⟩, hst⟩ (by rw [q2]; exact h6) q1 q3 (by rw [hsl]; exact k2_hasslot (q4 _ g3)) rfl rfl hd fin
  · have hlay := hts _ (g4 _ (u_in_lay g3))
    unfold u_lay at hlay
    rw [if_pos hfin] at hlay
    have hcf : m.cls = cf := by
      obtain ⟨_, _, c', _, _, _, -, -, hf', -, -, -, hown2, -⟩ := Cond.laysFinal_spec hlay
      have e1 : c' = cf := by have := hi.symm.trans hf'; simp at this; exact this.1.symm
      rw [hdecl] at hown2
      rw [← e1]; exact Option.some.inj (hown.symm.trans hown2)
    have h6 := u_fits hfc hkC hkind (Or.inr hlay) hi (g7 _ g3) n1 n2
    exact W.putFinK hx hb hown g5 (g6 _ hi) hst hcf hmn (by rw [q2]; exact h6) q1 q3 (by rw [hsl]; exact k2_hasslot (q4 _ g3)) rfl rfl hd fin
theorem x_dj_ok {Y : xY} {E : List xV} {r : Nat → Value} (h : ∀ (k : Nat) (t : xV), E[k]? = some t → x_c Y t (r k)) {x y bx b2 : Nat} (hd : x_dj E x y = true) (hx : r x = .ref bx) (hy : r y = .ref b2) : bx ≠ b2 := by
  unfold x_dj at hd
  split at hd
  · next u q h1 h2 =>
    have c1 := h x _ h1
    have c2 := h y _ h2
    rw [hx] at c1
    rw [hy] at c2
    rcases c1 with ⟨c1, -⟩ | ⟨b1, t1, c1, c3, c4⟩
    · cases c1
    rcases c2 with ⟨c2, -⟩ | ⟨b3, t2, c2, c5, c6⟩
    · cases c2
    cases c1; cases c2
    intro e0
    subst e0
    cases c4.symm.trans c6
    simp only [List.all_eq_true, Bool.not_eq_true', beq_eq_false_iff_ne] at hd
    exact hd t1 c3 t1 c5 rfl
  · cases hd
/-- a written cell of ours: what is kept since the start -/
theorem x_I.put {Y : xY} {H H' : Heap} {locs : List Loc} {b t sl : Nat} (hY0 : ∀ q u, Y0 q = some u → q < H0.size) (hI : x_I D G Zs U ef Y0 H0 Y H locs) (hY : Y b = some t) (hH : x_H D G Zs U Y H') (hz : H'.size = H.size) (ho : ∀ q, q ≠ b → H'[q]? = H[q]?)
    (hE : ∀ g, Y0 b = some t → G[t]? = some g → match g with
      | .inl o => ∀ k, k < o.2.length → (t, k) ∉ ef → x_sl D o.1 k b H' = x_sl D o.1 k b H
      | .inr _ => (t, 0) ∉ ef → H'[b]? = H[b]?) : x_I D G Zs U ef Y0 H0 Y H' (locs ++ [⟨b, sl⟩]) := by
  obtain ⟨-, i2, i3, i4⟩ := hI
  have hA : (∃ u, Y0 b = some u) ∨ H0.size ≤ b := by
    rcases Nat.lt_or_ge b H0.size with q | q
    · exact Or.inl ⟨t, by rw [← i2 b q]; exact hY⟩
    · exact Or.inr q
  refine ⟨hH, i2, fun a' t' g ha hg => ?_, i4.put hz ho hA⟩
  have k1 := i3 a' t' g ha hg
  by_cases ea : a' = b
  · subst ea
    have e2 : t' = t := by
      have := i2 a' (hY0 _ _ ha)
      rw [hY, ha] at this
      exact (Option.some.inj this).symm
    subst e2
    have k2 := hE g ha hg
    rcases g with o | q
    · intro k hk hn
      rw [k2 k hk hn]; exact k1 k hk hn
    · intro hn
      rw [k2 hn]; exact k1 hn
  · rcases g with o | q
    · intro k hk hn
      show (H'[a']?).bind _ = _
      rw [ho a' ea]; exact k1 k hk hn
    · intro hn
      rw [ho a' ea]; exact k1 hn
theorem x_pf_ok {idx : Nat} (hx : p.tables.exec = Jvm.exec) (hb : c.code = cc) (hts : ∀ w ∈ Ts, w.before args s = true) (hown : s.vm.findClass own = some m.cls) (hK : va_K D cl [] s) (hY0 : ∀ q u, Y0 q = some u → q < H0.size) (hpf : ∀ z ∈ pf, x_pok cl G Ts s args own meth.name z)
    (hd : decode cc pc = .ok (.putfield idx, 3)) (h : x_pf G pf ef a pc idx = some sc) (hs : ∀ q ∈ sc, x_K p l e R s m args below meth c Q D G Zs U ef Y0 H0 nL mu q) : x_K p l e R s m args below meth c Q D G Zs U ef Y0 H0 nL mu (pc, a) := by
  intro Y H locs r ls st hI hC
  unfold x_pf at h
  split at h
  · next v o S hS =>
    split at h
    · next ts tv ho hv =>
      obtain ⟨b, t, eb, ht, hY⟩ := x_ref_at (hC.1 o _ ho) rfl
      obtain ⟨y, hy, hm⟩ := x_all_mem h t ht
      have hK1 := hs y hm
      have hst : st = r v :: .ref b :: S.map r := by rw [hC.2.2.1, hS, List.map_cons, List.map_cons, eb]
      rw [hst]
      have hE : ∀ (k : Nat) (u : xV), (a.1.set o (.inr (.inr (false, [t]))))[k]? = some u → x_c Y u (r k) := x_set_ok hC.1 (Or.inr ⟨b, t, eb, List.mem_cons_self, hY⟩)
      split at hy
      · next ci fts z hg hz =>
        have hzm := List.mem_of_find?_eq_some hz
        have hze := List.find?_some hz
        simp only [Bool.and_eq_true, beq_iff_eq] at hze
        obtain ⟨e1, e2⟩ := hze
        subst e1; subst e2
        split at hy
        · next ft hft =>
          split at hy
          · next hc =>
            cases hy
            obtain ⟨hci, hle, hef⟩ := hc
            refine x_put_row hx hb hts hown hK (hpf z hzm) hI.1 hY hd hg hft (x_le_ok hle (hC.1 v _ hv)) fun H' sl hz1 ho1 hH' hs1 hs2 => ?_
            have hI' : x_I D G Zs U ef Y0 H0 Y H' (locs ++ [⟨b, sl⟩]) := by
              refine hI.put hY0 hY hH' hz1 ho1 (fun g hy0 hg2 => ?_)
              cases hg.symm.trans hg2
              intro k hk hn
              by_cases ek : k = z.2.2
              · subst ek
                rcases hef with h1 | h1
                · obtain ⟨q, q1, q2⟩ := List.any_eq_true.mp h1
                  simp only [Bool.and_eq_true, beq_iff_eq] at q2
                  exact absurd (by rw [← q2.1, ← q2.2]; exact q1) hn
                · obtain ⟨q, q1, q2⟩ := List.any_eq_true.mp h1
                  simp only [beq_iff_eq] at q2
                  obtain ⟨b', f1, f2⟩ := hC.2.2.2.2.2.2 q q1
                  rw [q2, eb] at f1
                  cases f1
                  rw [f2] at hy0; cases hy0
              · exact hs2 k hk ek
            refine hK1 Y H' _ r ls _ hI' ⟨hE, hC.2.1, rfl, fun f hf => ?_, hC.2.2.2.2⟩
            rcases List.mem_cons.mp hf with e0 | hf
            · rw [e0]
              exact ⟨b, eb, by show x_fv D ci z.2.2 b H' = _; rw [x_fv_sl hci]; exact hs1⟩
            · obtain ⟨hfm, hfc⟩ := List.mem_filter.mp hf
              obtain ⟨b', f1, f2⟩ := hC.2.2.2.1 f hfm
              refine ⟨b', f1, ?_⟩
              simp only [Bool.or_eq_true, Bool.and_eq_true, beq_iff_eq, Bool.not_eq_true', beq_eq_false_iff_ne, Nat.blt_eq] at hfc
              rcases hfc with ⟨c1, ⟨c2, c3⟩, c4⟩ | hfc
              · rw [c1, eb] at f1
                cases f1
                rw [c2, x_fv_sl hci] at f2 ⊢
                rw [hs2 _ c4 c3]; exact f2
              · have hne := x_dj_ok hC.1 hfc f1 eb
                show (H'[b']?).bind _ = _
                rw [ho1 b' hne]; exact f2
          · cases hy
        · cases hy
      · cases hy
    · cases h
  · cases h
theorem x_idx {u : Int × Int} {x : Int32} {n : Nat} (hb : x_b u x) (h0 : 0 ≤ u.1) (h1 : u.2 < (n : Int)) : ¬ (x < 0 ∨ n ≤ x.toNatClampNeg) ∧ x.toNatClampNeg < n := by
  have a1 := hb.1; have a2 := hb.2
  have hc : x.toNatClampNeg = x.toInt.toNat := rfl
  have hlt : x.toNatClampNeg < n := by rw [hc]; omega
  refine ⟨fun h => ?_, hlt⟩
  rcases h with h | h
  · rw [Int32.lt_iff_toInt_lt] at h
    have z : (0 : Int32).toInt = 0 := rfl
    omega
  · omega
theorem x_ial_ok {i : Instr} {ty : FieldType → Bool} (hw : x_wf a = true) (hU : U.vm.Alike s.vm)
    (row : ∀ (H : Heap) (locs : List Loc) (cells slots : Nat) (ls : Array Slot) (rest : List Value) (b : Addr) (cell : Cell) (j : Int32) (v : Value) (et : FieldType), ty et = true → H[b]? = some cell → s.isArrayOf cell et → cell.vm ≠ .unknown → ¬ (j < 0 ∨ cell.slots.size ≤ j.toNatClampNeg) → cell.slots[j.toNatClampNeg]? = some v →
      W p l e R s m args below meth c H locs cells slots Q (F0 m (pc + 1) ls (v :: rest)) → W p l e R s m args below meth c H locs cells slots Q (F0 m pc ls (.int j :: .ref b :: rest)))
    (h : x_ial G a pc ty = some sc) (hs : ∀ q ∈ sc, x_K p l e R s m args below meth c Q D G Zs U ef Y0 H0 nL mu q) : x_K p l e R s m args below meth c Q D G Zs U ef Y0 H0 nL mu (pc, a) := by
  intro Y H locs r ls st hI hC
  unfold x_ial at h
  split at h
  · next i o S hS =>
    split at h
    · next ts u ho hi =>
      obtain ⟨b, t, eb, ht, hY⟩ := x_ref_at (hC.1 o _ ho) rfl
      obtain ⟨y, hy, hm⟩ := x_all_mem h t ht
      have hK1 := hs y hm
      obtain ⟨vi, ei, bi⟩ := hC.1 i _ hi
      have hst : st = .int vi :: .ref b :: S.map r := by rw [hC.2.2.1, hS, List.map_cons, List.map_cons, eb, ei]
      rw [hst]
      have hE : ∀ (k : Nat) (u : xV), (a.1.set o (.inr (.inr (false, [t]))))[k]? = some u → x_c Y u (r k) := x_set_ok hC.1 (Or.inr ⟨b, t, eb, List.mem_cons_self, hY⟩)
      have hSl : ∀ k ∈ S, k < a.1.length := fun k hk => (x_wf_spec hw).2.1 k (by rw [hS]; exact List.mem_cons_of_mem _ (List.mem_cons_of_mem _ hk))
      split at hy
      · next et n pre ft hg =>
        split at hy
        · next hc =>
          split at hy
          · next w hwr =>
            obtain ⟨c1, c2, c3⟩ := hc
            obtain ⟨g, h1, h2⟩ := hI.1.1 b _ hY
            cases h1.symm.trans hg
            obtain ⟨cell, q1, q2, q3, q4, q5, q6⟩ := h2
            have hix := x_idx bi c2 c3
            have hln : vi.toNatClampNeg < cell.slots.size := by rw [q4]; exact hix.2
            refine row H locs _ _ ls _ b cell vi cell.slots[vi.toNatClampNeg] et c1 q1 (State.isArrayOf_alike hU q2) q3 (by rw [q4]; exact hix.1) (Array.getElem?_eq_getElem hln) ?_
            have hw2 : x_wf (a.1.set o (.inr (.inr (false, [t]))), a.2) = true := by
              have h3 := hw
              simp only [x_wf, Bool.and_eq_true, List.all_eq_true, Nat.blt_eq, List.length_set] at h3 ⊢
              exact h3
            have hC2 : x_C D Y0 nL mu Y H (a.1.set o (.inr (.inr (false, [t]))), a.2) r ls st := ⟨hE, hC.2⟩
            have hvw : x_c Y w cell.slots[vi.toNatClampNeg] := x_er_ok hwr bi c2 (q6 _ _ (Array.getElem?_eq_getElem hln))
            have hP := hC2.psh hw2 (S := S) (fun k hk => by show k < (a.1.set o _).length; rw [List.length_set]; exact hSl k hk) hvw
            split at hy
            · next huu =>
              have hvn : vi.toNatClampNeg = u.1.toNat := by
                have b1 := bi.1; have b2 := bi.2
                have hcl : vi.toNatClampNeg = vi.toInt.toNat := rfl
                rw [hcl]; omega
              have hfv : x_fv D 1000 u.1.toNat b H = some cell.slots[vi.toNatClampNeg] := by
                unfold x_fv
                rw [q1, if_pos rfl, ← hvn]
                exact Array.getElem?_eq_getElem hln
              split at hy
              · next f hf =>
                cases hy
                have hfm := List.mem_of_find?_eq_some hf
                have hfe := List.find?_some hf
                simp only [Bool.and_eq_true, beq_iff_eq] at hfe
                obtain ⟨f1, f2, f3⟩ := hfe
                obtain ⟨b', g1, g2⟩ := hC.2.2.2.1 f hfm
                rw [f1, eb] at g1
                cases g1
                rw [f2, f3, hfv] at g2
                rw [Option.some.inj g2]
                exact hK1 Y H locs r ls _ hI (hC.env hE (f.2.2.2 :: S))
              · cases hy
                have hlnE : (a.1.set o (.inr (.inr (false, [t])))).length = a.1.length := List.length_set
                refine hK1 Y H locs (updV r a.1.length cell.slots[vi.toNatClampNeg]) ls (cell.slots[vi.toNatClampNeg] :: S.map r) hI ?_
                unfold x_psh at hP
                dsimp only at hP
                rw [hlnE] at hP
                obtain ⟨p1, p2, p3, p4, p5⟩ := hP
                refine ⟨p1, p2, p3, fun f hf => ?_, p5⟩
                rcases List.mem_cons.mp hf with e0 | hf
                · rw [e0]
                  exact ⟨b, by show updV r a.1.length _ o = _; rw [x_up_ag (List.getElem?_eq_some_iff.mp ho).1]; exact eb, by show x_fv D 1000 u.1.toNat b H = some (updV r a.1.length _ a.1.length); rw [x_up_at]; exact hfv⟩
                · exact p4 f hf
            · cases hy
              exact hK1 Y H locs _ ls _ hI hP
          · cases hy
        · cases hy
      · cases hy
    · cases h
  · cases h
theorem x_aln_ok (hw : x_wf a = true) (hx : p.tables.exec = Jvm.exec) (hb : c.code = cc) (hU : U.vm.Alike s.vm) (hd : decode cc pc = .ok (.arraylength, 1))
    (h : x_aln G a pc = some sc) (hs : ∀ q ∈ sc, x_K p l e R s m args below meth c Q D G Zs U ef Y0 H0 nL mu q) : x_K p l e R s m args below meth c Q D G Zs U ef Y0 H0 nL mu (pc, a) := by
  intro Y H locs r ls st hI hC
  unfold x_aln at h
  split at h
  · next o S hS =>
    split at h
    · next ts ho =>
      obtain ⟨b, t, eb, ht, hY⟩ := x_ref_at (hC.1 o _ ho) rfl
      obtain ⟨y, hy, hm⟩ := x_all_mem h t ht
      have hK1 := hs y hm
      have hst : st = .ref b :: S.map r := by rw [hC.2.2.1, hS, List.map_cons, eb]
      rw [hst]
      have hE : ∀ (k : Nat) (u : xV), (a.1.set o (.inr (.inr (false, [t]))))[k]? = some u → x_c Y u (r k) := x_set_ok hC.1 (Or.inr ⟨b, t, eb, List.mem_cons_self, hY⟩)
      have hSl : ∀ k ∈ S, k < a.1.length := fun k hk => (x_wf_spec hw).2.1 k (by rw [hS]; exact List.mem_cons_of_mem _ hk)
      split at hy
      · next et n pre ft hg =>
        split at hy
        · next hn =>
          cases hy
          obtain ⟨g, h1, h2⟩ := hI.1.1 b _ hY
          cases h1.symm.trans hg
          obtain ⟨cell, q1, q2, q3, q4, q5, q6⟩ := h2
          refine W.alen hx hb q1 (State.isArrayOf_alike hU q2) rfl rfl rfl hd ?_
          have hw2 : x_wf (a.1.set o (.inr (.inr (false, [t]))), a.2) = true := by
            have h3 := hw
            simp only [x_wf, Bool.and_eq_true, List.all_eq_true, Nat.blt_eq, List.length_set] at h3 ⊢
            exact h3
          have hC2 : x_C D Y0 nL mu Y H (a.1.set o (.inr (.inr (false, [t]))), a.2) r ls st := ⟨hE, hC.2⟩
          have q4' : cell.slots.size = n := q4
          have hv : (cell.slots.size.toInt32).toInt = (n : Int) := by
            rw [q4']
            exact nI_toInt (by omega)
          exact hK1 Y H locs _ ls _ hI (hC2.psh hw2 (S := S) (fun k hk => by show k < (a.1.set o _).length; rw [List.length_set]; exact hSl k hk) (t := .inl ((n : Int), (n : Int))) (v := .int cell.slots.size.toInt32) ⟨_, rfl, by rw [hv]; exact Int.le_refl _, by rw [hv]; exact Int.le_refl _⟩)
        · cases hy
      · cases hy
    · cases h
  · cases h
end XR
end
section
/-! CONTRACTS: a method's name, code, locals, answer's type; its arguments; its ends (what is known of the arguments behind it, and of the answer); what it may change; frames, locals, cells, slots; the tag that its first argument has behind it, if it makes one. -/
abbrev xM : Type := MethodName × ByteArray × Nat × Option FieldType × List xV × List (List xV × Option xV) × List (Nat × Nat) × (Nat × Nat × Nat × Nat) × Option Nat
def x_rm (M : xM) : Room := { frames := M.2.2.2.2.2.2.2.1.1, cells := M.2.2.2.2.2.2.2.1.2.2.1, slots := M.2.2.2.2.2.2.2.1.2.2.2, locals := M.2.2.2.2.2.2.2.1.2.1 }
abbrev x_args (M : xM) : List xV := M.2.2.2.2.1
abbrev x_outs (M : xM) : List (List xV × Option xV) := M.2.2.2.2.2.1
abbrev x_efs (M : xM) : List (Nat × Nat) := M.2.2.2.2.2.2.1
abbrev x_rt (M : xM) : Option Nat := M.2.2.2.2.2.2.2.2
def x_ret (Y : xY) (o : Option xV) (oc : Option Value) : Prop := match o with
  | none => oc = none
  | some t => ∃ v, oc = some v ∧ x_c Y t v
def x_cs (Y : xY) (ts : List xV) (vs : List Value) : Prop := ts.length = vs.length ∧ ∀ (k : Nat) (t : xV) (v : Value), ts[k]? = some t → vs[k]? = some v → x_c Y t v
def x_ext (rt : Option Nat) (av : List Value) (Y Y' : xY) (sz : Nat) : Prop := match rt with
  | none => ∀ q, q < sz → Y' q = Y q
  | some t => ∃ b : Nat, av[0]? = some (.ref b) ∧ Y' b = some t ∧ ∀ q, q < sz → q ≠ b → Y' q = Y q
def x_Q (D : va_G) (G : List xG) (Zs : List xZ) (U : State) (M : xM) (av : List Value) (Y : xY) : Array Value → State → Outcome → State → Prop := fun _ st oc t =>
  ∃ (v : Option Value) (Y' : xY) (o : List xV × Option xV), oc = .returned v ∧ o ∈ x_outs M ∧ x_ret Y' o.2 v ∧ x_cs Y' o.1 av ∧ x_H D G Zs U Y' t.heap ∧ x_ext (x_rt M) av Y Y' st.heap.size ∧ x_E D G (x_efs M) Y st.heap t.heap ∧ va_F (fun q => (∃ u, Y q = some u) ∨ st.heap.size ≤ q) st t
def x_Met (cl : List vw_C) (G : List xG) (Zs : List xZ) (Tb Nb : List Cond) (M : xM) : Prop := ∀ (l : Launch) (D : va_G) (U : State) (Y : xY) (sz : Nat) (av : List Value), va_K D cl [] U → x_cs Y (x_args M) av →
  Met l M.1 (.code M.1 M.2.1 M.2.2.1 M.2.2.2.1 :: Tb) (x_rm M) (va_Pc av (fun S => S.heap.size = sz ∧ U.vm.Alike S.vm ∧ x_H D G Zs U Y S.heap ∧ ∀ w ∈ Nb, va_Nw w S)) (x_Q D G Zs U M av Y) (x_rm M).cells (x_rm M).slots (fun q => (∃ u, Y q = some u) ∨ sz ≤ q)
/-! bounds that two things tell of one value -/
def x_meet : xV → xV → Option xV
  | .inl p, .inl q => if max p.1 q.1 ≤ min p.2 q.2 then some (.inl (max p.1 q.1, min p.2 q.2)) else none
  | .inr (.inl p), .inr (.inl q) => if max p.1 q.1 ≤ min p.2 q.2 then some (.inr (.inl (max p.1 q.1, min p.2 q.2))) else none
  | .inr (.inr p), .inr (.inr q) => if x_le (.inr (.inr q)) (.inr (.inr p)) then some (.inr (.inr q)) else some (.inr (.inr p))
  | _, _ => none
theorem x_meet_ok {Y : xY} {t u : xV} {v : Value} (h1 : x_c Y t v) (h2 : x_c Y u v) : ∃ w, x_meet t u = some w ∧ x_c Y w v := by
  rcases t with p | p | p <;> rcases u with q | q | q
  · obtain ⟨x, e1, a1, a2⟩ := h1
    obtain ⟨y, e2, b1, b2⟩ := h2
    rw [e1] at e2; cases e2
    refine ⟨.inl (max p.1 q.1, min p.2 q.2), ?_, x, e1, by show max _ _ ≤ _; omega, by show _ ≤ min _ _; omega⟩
    exact if_pos (by omega)
  · obtain ⟨x, e1, -⟩ := h1; obtain ⟨y, e2, -⟩ := h2; rw [e1] at e2; cases e2
  · obtain ⟨x, e1, -⟩ := h1
    rcases h2 with ⟨e2, -⟩ | ⟨b, t, e2, -⟩ <;> rw [e1] at e2 <;> cases e2
  · obtain ⟨x, e1, -⟩ := h1; obtain ⟨y, e2, -⟩ := h2; rw [e1] at e2; cases e2
  · obtain ⟨x, e1, a1, a2⟩ := h1
    obtain ⟨y, e2, b1, b2⟩ := h2
    rw [e1] at e2; cases e2
    refine ⟨.inr (.inl (max p.1 q.1, min p.2 q.2)), ?_, x, e1, by show max _ _ ≤ _; omega, by show _ ≤ min _ _; omega⟩
    exact if_pos (by omega)
  · obtain ⟨x, e1, -⟩ := h1
    rcases h2 with ⟨e2, -⟩ | ⟨b, t, e2, -⟩ <;> rw [e1] at e2 <;> cases e2
  · obtain ⟨x, e2, -⟩ := h2
    rcases h1 with ⟨e1, -⟩ | ⟨b, t, e1, -⟩ <;> rw [e1] at e2 <;> cases e2
  · obtain ⟨x, e2, -⟩ := h2
    rcases h1 with ⟨e1, -⟩ | ⟨b, t, e1, -⟩ <;> rw [e1] at e2 <;> cases e2
  · by_cases hq : x_le (.inr (.inr q)) (.inr (.inr p)) = true
    · exact ⟨_, if_pos hq, h2⟩
    · exact ⟨_, if_neg hq, h1⟩
/-- the numbers of values, each told something more -/
def x_more : List xV → List (Nat × xV) → Option (List xV)
  | E, [] => some E
  | E, (k, t) :: L => match E[k]? with
    | some u => (match x_meet u t with
      | some w => x_more (E.set k w) L
      | none => none)
    | none => none
theorem x_more_len : ∀ {L : List (Nat × xV)} {E E' : List xV}, x_more E L = some E' → E'.length = E.length := by
  intro L
  induction L with
  | nil => intro E E' h; cases h; rfl
  | cons q L ih =>
    intro E E' h
    obtain ⟨k, t⟩ := q
    unfold x_more at h
    split at h
    · split at h
      · rw [ih h, List.length_set]
      · cases h
    · cases h
theorem x_more_ok {Y : xY} {r : Nat → Value} : ∀ {L : List (Nat × xV)} {E : List xV}, (∀ (k : Nat) (t : xV), E[k]? = some t → x_c Y t (r k)) → (∀ q ∈ L, x_c Y q.2 (r q.1)) → (∀ q ∈ L, q.1 < E.length) → ∃ E', x_more E L = some E' ∧ ∀ (k : Nat) (t : xV), E'[k]? = some t → x_c Y t (r k) := by
  intro L
  induction L with
  | nil => intro E h _ _; exact ⟨E, rfl, h⟩
  | cons q L ih =>
    intro E h hL hl
    obtain ⟨k, t⟩ := q
    have hk : k < E.length := hl _ List.mem_cons_self
    have hu : E[k]? = some E[k] := List.getElem?_eq_getElem hk
    obtain ⟨w, e1, e2⟩ := x_meet_ok (h k _ hu) (hL _ List.mem_cons_self)
    obtain ⟨E', e3, e4⟩ := ih (E := E.set k w) (x_set_ok h e2) (fun q hq => hL q (List.mem_cons_of_mem _ hq)) (fun q hq => by rw [List.length_set]; exact hl q (List.mem_cons_of_mem _ hq))
    refine ⟨E', ?_, e4⟩
    unfold x_more
    rw [hu]
    dsimp only
    rw [e1]
    exact e3
/-- what differences tell of their two values -/
def x_shft (t : xV) (c : Int) (u : xV) : Option xV := match t, u with
  | .inl p, .inl _ => some (.inl (p.1 + c, p.2 + c))
  | .inl p, .inr (.inl _) => some (.inr (.inl (p.1 + c, p.2 + c)))
  | .inr (.inl p), .inl _ => some (.inl (p.1 + c, p.2 + c))
  | .inr (.inl p), .inr (.inl _) => some (.inr (.inl (p.1 + c, p.2 + c)))
  | _, _ => none
def x_facts (E : List xV) (d : Nat × Nat × Int) : List (Nat × xV) := match E[d.1]?, E[d.2.1]? with
  | some t, some u => (match x_shft u d.2.2 t, x_shft t (-d.2.2) u with
    | some w, some z => [(d.1, w), (d.2.1, z)]
    | _, _ => [])
  | _, _ => []
def x_tight : List xV → List (Nat × Nat × Int) → Option (List xV)
  | E, [] => some E
  | E, d :: L => match x_more E (x_facts E d) with
    | some E' => x_tight E' L
    | none => none
theorem x_shft_ok {Y : xY} {t u w : xV} {c : Int} {vt vu : Value} {x y : Int} (h : x_shft t c u = some w) (ht : x_c Y t vt) (hu : x_c Y u vu) (hx : x_num vt = some x) (hy : x_num vu = some y) (e : y = x + c) : x_c Y w vu := by
  rcases t with p | p | p <;> rcases u with q | q | q <;> unfold x_shft at h <;> first | (cases h; done) | (dsimp only at h; cases h)
  all_goals
    obtain ⟨a, ea, a1, a2⟩ := ht
    obtain ⟨b, eb, b1, b2⟩ := hu
    rw [ea] at hx
    rw [eb] at hy
    cases hx; cases hy
    exact ⟨b, eb, by show _ + c ≤ _; omega, by show _ ≤ _ + c; omega⟩
theorem x_tight_len : ∀ {L : List (Nat × Nat × Int)} {E E' : List xV}, x_tight E L = some E' → E'.length = E.length := by
  intro L
  induction L with
  | nil => intro E E' h; cases h; rfl
  | cons d L ih =>
    intro E E' h
    unfold x_tight at h
    split at h
    · next E1 h1 => rw [ih h, x_more_len h1]
    · cases h
theorem x_tight_ok {Y : xY} {r : Nat → Value} : ∀ {L : List (Nat × Nat × Int)} {E : List xV}, (∀ (k : Nat) (t : xV), E[k]? = some t → x_c Y t (r k)) → (∀ d ∈ L, x_dif r d) → ∃ E', x_tight E L = some E' ∧ ∀ (k : Nat) (t : xV), E'[k]? = some t → x_c Y t (r k) := by
  intro L
  induction L with
  | nil => intro E h _; exact ⟨E, rfl, h⟩
  | cons d L ih =>
    intro E h hL
    have hd := hL d List.mem_cons_self
    obtain ⟨x, y, d1, d2, d3⟩ := hd
    have key : (∀ q ∈ x_facts E d, x_c Y q.2 (r q.1)) ∧ (∀ q ∈ x_facts E d, q.1 < E.length) := by
      unfold x_facts
      split
      · next t u ht hu =>
        split
        · next w z hw hz =>
          have c1 := x_shft_ok hw (h _ _ hu) (h _ _ ht) d2 d1 d3
          have c2 := x_shft_ok hz (h _ _ ht) (h _ _ hu) d1 d2 (by omega)
          refine ⟨fun q hq => ?_, fun q hq => ?_⟩
          · rcases List.mem_cons.mp hq with e0 | hq
            · rw [e0]; exact c1
            · rcases List.mem_cons.mp hq with e0 | hq
              · rw [e0]; exact c2
              · cases hq
          · rcases List.mem_cons.mp hq with e0 | hq
            · rw [e0]; exact (List.getElem?_eq_some_iff.mp ht).1
            · rcases List.mem_cons.mp hq with e0 | hq
              · rw [e0]; exact (List.getElem?_eq_some_iff.mp hu).1
              · cases hq
        · exact ⟨fun q hq => (by cases hq), fun q hq => (by cases hq)⟩
      · exact ⟨fun q hq => (by cases hq), fun q hq => (by cases hq)⟩
    obtain ⟨E1, e1, e2⟩ := x_more_ok h key.1 key.2
    obtain ⟨E2, e3, e4⟩ := ih e2 (fun q hq => hL q (List.mem_cons_of_mem _ hq))
    refine ⟨E2, ?_, e4⟩
    unfold x_tight
    rw [e1]
    exact e3
/-! a call that a method's code names: its kind (0 virtual, 1 static, 2 special), pool number, how many values it takes, the receiver's tag if that matters, the contract -/
abbrev xCl : Type := Nat × Nat × Nat × Option Nat × xM
def x_ins (kind idx : Nat) : Instr := if kind = 0 then .invokevirtual idx else if kind = 1 then .invokestatic idx else .invokespecial idx
def x_fitA (E : List xV) : List Nat → List xV → Bool
  | [], [] => true
  | k :: ks, t :: ts => (match E[k]? with
    | some u => x_le u t
    | none => false) && x_fitA E ks ts
  | _, _ => false
theorem x_fitA_ok {Y : xY} {E : List xV} {r : Nat → Value} (h : ∀ (k : Nat) (t : xV), E[k]? = some t → x_c Y t (r k)) : ∀ {ks : List Nat} {ts : List xV}, x_fitA E ks ts = true → x_cs Y ts (ks.map r) ∧ ∀ k ∈ ks, k < E.length := by
  intro ks
  induction ks with
  | nil =>
    intro ts hf
    cases ts with
    | nil => exact ⟨⟨rfl, fun k t v h1 => by simp at h1⟩, fun k hk => by cases hk⟩
    | cons t ts => cases hf
  | cons k ks ih =>
    intro ts hf
    cases ts with
    | nil => cases hf
    | cons t ts =>
      unfold x_fitA at hf
      rw [Bool.and_eq_true] at hf
      obtain ⟨h1, h2⟩ := hf
      obtain ⟨⟨i1, i2⟩, i3⟩ := ih h2
      split at h1
      · next u hu =>
        refine ⟨⟨by simp [i1], fun j w v hj hv => ?_⟩, fun j hj => ?_⟩
        · cases j with
          | zero =>
            rw [List.getElem?_cons_zero] at hj
            rw [List.map_cons, List.getElem?_cons_zero] at hv
            cases hj; cases hv
            exact x_le_ok h1 (h k u hu)
          | succ j =>
            rw [List.getElem?_cons_succ] at hj
            rw [List.map_cons, List.getElem?_cons_succ] at hv
            exact i2 j w v hj hv
        · rcases List.mem_cons.mp hj with e0 | hj
          · rw [e0]; exact (List.getElem?_eq_some_iff.mp hu).1
          · exact i3 j hj
      · cases h1
/-- a known field that a callee leaves alone -/
def x_keep (G : List xG) (E : List xV) (ef : List (Nat × Nat)) (f : Nat × Nat × Nat × Nat) : Bool := match E[f.1]? with
  | some (.inr (.inr q)) => q.2.all (fun t => match G[t]? with
    | some (.inl o) => (!(f.2.1 == 1000) && (o.1 == f.2.1)) && (Nat.blt f.2.2.1 o.2.length && !(ef.any (fun z => z.1 == t && z.2 == f.2.2.1)))
    | some (.inr _) => !(ef.any (fun z => z.1 == t && z.2 == 0))
    | none => false)
  | _ => false
def x_noraw (E : List xV) (k0 raw : Nat) : Bool := (List.range E.length).all (fun j => j == k0 || (match E[j]? with
  | some (.inr (.inr q)) => q.2.all (fun t => !(t == raw))
  | _ => true))
def x_out (G : List xG) (a : xS) (pc : Nat) (ks S : List Nat) (M : xM) (o : List xV × Option xV) : Option (List (Nat × xS)) := match x_rt M with
  | none => (match x_more a.1 (ks.zip o.1) with
    | none => some []
    | some E1 => (match x_tight E1 a.2.2.2.2.1 with
      | none => some []
      | some E2 => (let b : xS := (E2, a.2.1, S, a.2.2.2.1.filter (x_keep G E2 (x_efs M)), a.2.2.2.2.1, a.2.2.2.2.2.1, a.2.2.2.2.2.2.1, x_cells a + (x_rm M).cells, x_slots a + (x_rm M).slots)
        match o.2 with
        | none => some [(pc + 3, b)]
        | some t => some [(pc + 3, x_psh b S t)])))
  | some t' => (match ks with
    | k0 :: _ => (match a.1[k0]? with
      | some (.inr (.inr (false, [raw]))) => if x_noraw a.1 k0 raw = true ∧ a.2.2.2.2.2.2.1.any (fun k => k == k0) = true ∧ o.2 = none then
          some [(pc + 3, (a.1.set k0 (.inr (.inr (false, [t']))), a.2.1, S, a.2.2.2.1.filter (fun f => !(f.1 == k0) && x_keep G a.1 (x_efs M) f), a.2.2.2.2.1, a.2.2.2.2.2.1, a.2.2.2.2.2.2.1, x_cells a + (x_rm M).cells, x_slots a + (x_rm M).slots))] else none
      | _ => none)
    | _ => none)
def x_ct (E : List xV) (S : List Nat) : Nat := (S.map (fun k => if x_n2 E k then 1 else 2)).sum
def x_call1 (G : List xG) (ef : List (Nat × Nat)) (cs : List xCl) (mc ms : Nat) (a : xS) (pc kind idx : Nat) (rt : Option Nat) (ks S : List Nat) : Option (List (Nat × xS)) :=
  match cs.find? (fun z => z.1 == kind && (z.2.1 == idx && (z.2.2.1 == ks.length && (z.2.2.2.1 == rt && x_fitA a.1 ks (x_args z.2.2.2.2))))) with
  | some z => if x_cells a + (x_rm z.2.2.2.2).cells ≤ mc ∧ x_slots a + (x_rm z.2.2.2.2).slots ≤ ms ∧ (x_efs z.2.2.2.2).all (fun q => ef.any (fun u => q.1 == u.1 && q.2 == u.2)) = true then (match x_all (x_out G a pc ks S z.2.2.2.2) (x_outs z.2.2.2.2) with
      | some ys => some ys.flatten
      | none => none) else none
  | none => none
def x_call (G : List xG) (ef : List (Nat × Nat)) (cs : List xCl) (mc ms : Nat) (a : xS) (pc kind idx : Nat) : xN :=
  match cs.find? (fun z => z.1 == kind && z.2.1 == idx) with
  | some z0 => (let ks := (a.2.2.1.take z0.2.2.1).reverse
    let S := a.2.2.1.drop z0.2.2.1
    if z0.2.2.1 ≤ a.2.2.1.length ∧ x_ct a.1 S ≤ 8 then (match z0.2.2.2.1 with
      | none => x_call1 G ef cs mc ms a pc kind idx none ks S
      | some _ => (match ks with
        | o :: _ => (match a.1[o]? with
          | some (.inr (.inr (false, ts))) => (match x_all (fun (t : Nat) => x_call1 G ef cs mc ms (a.1.set o (.inr (.inr (false, [t]))), a.2) pc kind idx (some t) ks S) ts with
            | some ys => some ys.flatten
            | none => none)
          | _ => none)
        | _ => none)) else none)
  | none => none
section XL
variable {p : Program} {l : Launch} {e : Env} {R : Room} {s : State} {m : MethodId} {args : Array Value} {below : List Frame} {meth : Method} {c : Code} {Q : State → Prop}
variable {D : va_G} {G : List xG} {Zs : List xZ} {U : State} {ef : List (Nat × Nat)} {Y0 : xY} {H0 : Heap} {nL : Nat} {mu : List Value}
variable {cc : ByteArray} {pc : Nat} {a : xS} {sc : List (Nat × xS)} {cs : List xCl}
variable (p l e R s m args below meth c D G Zs U nL cc) in
/-- a call runs by its contract, from every state -/
def x_cok (z : xCl) : Prop := ∀ (H : Heap) (locs : List Loc) (cells slots pc : Nat) (ls : Array Slot) (rest av : List Value) (Y : xY), decode cc pc = .ok (x_ins z.1 z.2.1, 3) → ls.size = nL → (rest.map fun v => v.category).sum ≤ 8 →
  cells + (x_rm z.2.2.2.2).cells ≤ R.cells → slots + (x_rm z.2.2.2.2).slots ≤ R.slots → x_H D G Zs U Y H → x_cs Y (x_args z.2.2.2.2) av → av.length = z.2.2.1 → (∀ t, z.2.2.2.1 = some t → ∃ b : Nat, av[0]? = some (.ref b) ∧ Y b = some t) →
  va_Run p l e R s m args below meth c H locs cells slots (x_rm z.2.2.2.2).cells (x_rm z.2.2.2.2).slots (F0 m pc ls (av.reverse ++ rest)) rest (x_Q D G Zs U z.2.2.2.2 av Y av.toArray) (fun q => (∃ u, Y q = some u) ∨ H.size ≤ q)
theorem x_call_row {H : Heap} {locs : List Loc} {cells slots mc ms : Nat} {g : JFrame} {rest : List Value} {Qa : State → Outcome → State → Prop} {free : Addr → Prop} (hr : va_Run p l e R s m args below meth c H locs cells slots mc ms g rest Qa free)
    (kk : ∀ (v : Option Value) (st₀ t : State) (L : List Loc), st₀.heap = H → (∀ q ∈ L, free q.base) → Qa st₀ (.returned v) t → W p l e R s m args below meth c t.heap (locs ++ L) (cells + mc) (slots + ms) Q { g with pc := g.pc + 3, stack := v.toList ++ rest }) : W p l e R s m args below meth c H locs cells slots Q g := by
  intro T hT X
  obtain ⟨v, st₀, t, T', L, h0, X', hL, e1, e2, hq, st⟩ := hr T hT X
  obtain ⟨t2, a1, b1⟩ := kk v st₀ t L h0 hL hq T' e1 X'
  exact ⟨t2, st t2 a1, b1⟩
theorem x_keep_ok {Y : xY} {H H1 : Heap} {E : List xV} {r : Nat → Value} {ef' : List (Nat × Nat)} {f : Nat × Nat × Nat × Nat} (hk : x_keep G E ef' f = true) (hE : x_E D G ef' Y H H1)
    {b : Nat} (hb : r f.1 = .ref b) (h : ∀ (t : xV), E[f.1]? = some t → ∃ u, u ∈ (match t with
      | .inr (.inr q) => q.2
      | _ => []) ∧ Y b = some u) : x_fv D f.2.1 f.2.2.1 b H1 = x_fv D f.2.1 f.2.2.1 b H := by
  unfold x_keep at hk
  split at hk
  · next q hq =>
    obtain ⟨t, ht, hY⟩ := h _ hq
    have h1 := List.all_eq_true.mp hk t ht
    split at h1
    · next o ho =>
      simp only [Bool.and_eq_true, beq_iff_eq, Nat.blt_eq, Bool.not_eq_true', List.any_eq_false, beq_eq_false_iff_ne] at h1
      obtain ⟨⟨q0, q1⟩, q2, q3⟩ := h1
      have h2 := hE b t _ hY ho f.2.2.1 q2 (fun hz => q3 _ hz ⟨rfl, rfl⟩)
      rw [q1] at h2
      rw [x_fv_sl q0, x_fv_sl q0]
      exact h2
    · next o ho =>
      simp only [Bool.and_eq_true, beq_iff_eq, Bool.not_eq_true', List.any_eq_false] at h1
      have h2 := hE b t _ hY ho (fun hz => h1 _ hz ⟨rfl, rfl⟩)
      unfold x_fv
      rw [h2]
    · cases h1
  · cases hk
theorem x_ct_ok {Y : xY} {E : List xV} {r : Nat → Value} (h : ∀ (k : Nat) (t : xV), E[k]? = some t → x_c Y t (r k)) : ∀ S : List Nat, ((S.map r).map fun v => v.category).sum ≤ x_ct E S := by
  intro S
  induction S with
  | nil => exact Nat.le_refl _
  | cons k S ih =>
    show (r k).category + ((S.map r).map fun v => v.category).sum ≤ (if x_n2 E k then 1 else 2) + x_ct E S
    have : (r k).category ≤ (if x_n2 E k then 1 else 2) := by
      split
      · next hn => rw [x_n2_ok h hn]; exact Nat.le_refl 1
      · rcases lv_cat (r k) with q | q <;> rw [q] <;> decide
    omega
theorem x_call1_ok {kind idx : Nat} {rt : Option Nat} {ks S : List Nat} (hw : x_wf a = true) (hY0 : ∀ q u, Y0 q = some u → q < H0.size) (hcs : ∀ z ∈ cs, x_cok p l e R s m args below meth c D G Zs U nL cc z) (hd : decode cc pc = .ok (x_ins kind idx, 3))
    {mc ms : Nat} (hmc : mc ≤ R.cells) (hms : ms ≤ R.slots) (hS : a.2.2.1 = ks.reverse ++ S) (hct : x_ct a.1 S ≤ 8)
    (h : x_call1 G ef cs mc ms a pc kind idx rt ks S = some sc) (hs : ∀ q ∈ sc, x_K p l e R s m args below meth c Q D G Zs U ef Y0 H0 nL mu q) {Y : xY} {H : Heap} {locs : List Loc} {r : Nat → Value} {ls : Array Slot} {st : List Value}
    (hI : x_I D G Zs U ef Y0 H0 Y H locs) (hC : x_C D Y0 nL mu Y H a r ls st) (hrt : ∀ t, rt = some t → ∃ b : Nat, (ks.map r)[0]? = some (.ref b) ∧ Y b = some t) : W p l e R s m args below meth c H locs (x_cells a) (x_slots a) Q (F0 m pc ls st) := by
  unfold x_call1 at h
  split at h
  · next z hz =>
    have hzm := List.mem_of_find?_eq_some hz
    have hze := List.find?_some hz
    simp only [Bool.and_eq_true, beq_iff_eq] at hze
    obtain ⟨z1, z2, z3, z4, z5⟩ := hze
    split at h
    · next hc =>
      obtain ⟨c1, c2, c3⟩ := hc
      split at h
      · next ys hys =>
        cases h
        obtain ⟨hav, hkl⟩ := x_fitA_ok hC.1 z5
        have hst : st = (ks.map r).reverse ++ S.map r := by rw [hC.2.2.1, hS, List.map_append, List.map_reverse]
        rw [hst]
        refine x_call_row (hcs z hzm H locs _ _ pc ls (S.map r) (ks.map r) Y (by rw [z1, z2]; exact hd) hC.2.1.1 (Nat.le_trans (x_ct_ok hC.1 S) hct) (Nat.le_trans c1 hmc) (Nat.le_trans c2 hms) hI.1 hav (by rw [z3, List.length_map]) (fun t ht => hrt t (by rw [← z4]; exact ht))) fun v st₀ t L h0 hL hq => ?_
        obtain ⟨v', Y', o, e0, ho, hret, hcs', hH', hext, hE', hF⟩ := hq
        cases e0
        obtain ⟨y, hy, hym⟩ := x_all_mem hys o ho
        have hs' : ∀ q ∈ y, x_K p l e R s m args below meth c Q D G Zs U ef Y0 H0 nL mu q := fun q hq => hs q (List.mem_flatten.mpr ⟨y, hym, hq⟩)
        rw [h0] at hext hE' hF
        obtain ⟨hF1, hF2⟩ := hF
        rw [h0] at hF1
        have hefs : ∀ x ∈ x_efs z.2.2.2.2, x ∈ ef := fun x hx => by
          have h1 := List.all_eq_true.mp c3 x hx
          obtain ⟨u, hu, he⟩ := List.any_eq_true.mp h1
          simp only [Bool.and_eq_true, beq_iff_eq] at he
          have : x = u := Prod.ext he.1 he.2
          rw [this]; exact hu
        have hYY : ∀ q u, Y0 q = some u → Y q = some u := fun q u hq => by rw [hI.2.1 q (hY0 q u hq)]; exact hq
        have hsz : H0.size ≤ H.size := hI.2.2.2.1
        have hI' : (∀ q, q < H0.size → Y' q = Y0 q) → x_I D G Zs U ef Y0 H0 Y' t.heap (locs ++ L) := by
          intro hq0
          have hA : ∀ q, q < H.size → ((∃ u, Y q = some u) ∨ H.size ≤ q) → (∃ u, Y0 q = some u) ∨ H0.size ≤ q := fun q hq hz => by
            rcases Nat.lt_or_ge q H0.size with k | k
            · rcases hz with ⟨u, hu⟩ | hz
              · exact Or.inl ⟨u, by rw [← hI.2.1 q k]; exact hu⟩
              · omega
            · exact Or.inr k
          refine ⟨hH', hq0, hI.2.2.1.trans hE' hYY hefs, Nat.le_trans hsz hF1, fun q q1 q2 => ?_, fun q hq => ?_⟩
          · have hqH : q < H.size := Nat.lt_of_lt_of_le q1 hsz
            rw [hF2 q (by rw [h0]; exact hqH) (fun z => q2 (hA q hqH z)), h0]
            exact hI.2.2.2.2.1 q q1 q2
          · rcases List.mem_append.mp hq with hq | hq
            · exact hI.2.2.2.2.2 q hq
            · rcases Nat.lt_or_ge q.base H.size with k | k
              · exact hA _ k (hL q hq)
              · exact Or.inr (Nat.le_trans hsz k)
        unfold x_out at hy
        split at hy
        · next hrt0 =>
          unfold x_ext at hext
          rw [hrt0] at hext
          dsimp only at hext
          have hmon : ∀ q u, Y q = some u → Y' q = some u := fun q u hq => by rw [hext q (hI.1.lt hq)]; exact hq
          have hI2 := hI' (fun q hq => by rw [hext q (Nat.lt_of_lt_of_le hq hsz)]; exact hI.2.1 q hq)
          have hE1 : ∀ (k : Nat) (t : xV), a.1[k]? = some t → x_c Y' t (r k) := fun k t hk => (hC.1 k t hk).mono hmon
          have hzip : ∀ q ∈ ks.zip o.1, x_c Y' q.2 (r q.1) := by
            intro q hq
            obtain ⟨j, hj⟩ := List.getElem?_of_mem hq
            rw [List.getElem?_zip_eq_some] at hj
            exact hcs'.2 j q.2 (r q.1) hj.2 (by rw [List.getElem?_map, hj.1]; rfl)
          obtain ⟨E1, m1, m2⟩ := x_more_ok hE1 hzip (fun q hq => hkl q.1 (List.of_mem_zip hq).1)
          rw [m1] at hy
          dsimp only at hy
          obtain ⟨E2, n1, n2⟩ := x_tight_ok m2 hC.2.2.2.2.1
          rw [n1] at hy
          dsimp only at hy
          have hl2 : E2.length = a.1.length := by rw [x_tight_len n1, x_more_len m1]
          have hCb : x_C D Y0 nL mu Y' t.heap (E2, a.2.1, S, a.2.2.2.1.filter (x_keep G E2 (x_efs z.2.2.2.2)), a.2.2.2.2.1, a.2.2.2.2.2.1, a.2.2.2.2.2.2.1, x_cells a + (x_rm z.2.2.2.2).cells, x_slots a + (x_rm z.2.2.2.2).slots) r ls (S.map r) := by
            refine ⟨n2, hC.2.1, rfl, fun f hf => ?_, hC.2.2.2.2.1, hC.2.2.2.2.2.1, hC.2.2.2.2.2.2⟩
            obtain ⟨f1, f2⟩ := List.mem_filter.mp hf
            obtain ⟨b, b1, b2⟩ := hC.2.2.2.1 f f1
            refine ⟨b, b1, ?_⟩
            have hbs : b < H.size := by
              have : (x_fv D f.2.1 f.2.2.1 b H).isSome := by rw [b2]; rfl
              unfold x_fv at this
              cases hh : H[b]? with
              | none => rw [hh] at this; cases this
              | some w => exact (Array.getElem?_eq_some_iff.mp hh).1
            show x_fv D f.2.1 f.2.2.1 b t.heap = _
            rw [x_keep_ok f2 hE' b1 (fun tt htt => ?_)]
            · exact b2
            · have hcq := n2 _ _ htt
              rw [b1] at hcq
              rcases tt with q | q | q
              · obtain ⟨x, hx0, -⟩ := hcq; cases hx0
              · obtain ⟨x, hx0, -⟩ := hcq; cases hx0
              · rcases hcq with ⟨hcq, -⟩ | ⟨b', uu, hcq, huu, hYt⟩
                · cases hcq
                · cases hcq
                  exact ⟨uu, huu, by rw [← hext b hbs]; exact hYt⟩
          split at hy
          · next hr0 =>
            cases hy
            rw [hr0] at hret
            cases hret
            exact hs' _ List.mem_cons_self Y' t.heap _ r ls _ hI2 hCb
          · next tr hr0 =>
            cases hy
            rw [hr0] at hret
            obtain ⟨w, hw1, hw2⟩ := hret
            cases hw1
            have hwb : x_wf (E2, a.2.1, S, a.2.2.2.1.filter (x_keep G E2 (x_efs z.2.2.2.2)), a.2.2.2.2.1, a.2.2.2.2.2.1, a.2.2.2.2.2.2.1, x_cells a + (x_rm z.2.2.2.2).cells, x_slots a + (x_rm z.2.2.2.2).slots) = true := by
              have h3 := hw
              simp only [x_wf, Bool.and_eq_true, List.all_eq_true, Nat.blt_eq, hl2] at h3 ⊢
              refine ⟨h3.1, fun k hk => h3.2.1 k (by rw [hS]; exact List.mem_append_right _ hk), fun f hf => h3.2.2.1 f (List.mem_filter.mp hf).1, h3.2.2.2⟩
            have hSl : ∀ k ∈ S, k < E2.length := fun k hk => by rw [hl2]; exact (x_wf_spec hw).2.1 k (by rw [hS]; exact List.mem_append_right _ hk)
            exact hs' _ List.mem_cons_self Y' t.heap _ _ ls _ hI2 (hCb.psh hwb hSl hw2)
        · next t' hrt0 =>
          unfold x_ext at hext
          rw [hrt0] at hext
          dsimp only at hext
          split at hy
          · next k0 ks' =>
            split at hy
            · next raw hk0 =>
              split at hy
              · next hcc =>
                obtain ⟨d1, d2, d3⟩ := hcc
                cases hy
                rw [d3] at hret
                cases hret
                obtain ⟨b, x1, x2, x3⟩ := hext
                have x1 : r k0 = .ref b := Option.some.inj x1
                obtain ⟨k', hk', he'⟩ := List.any_eq_true.mp d2
                simp only [beq_iff_eq] at he'
                obtain ⟨b', y1, y2⟩ := hC.2.2.2.2.2.2 k' hk'
                rw [he', x1] at y1
                cases y1
                have hraw : Y b = some raw := by
                  have := hC.1 _ _ hk0
                  rw [x1] at this
                  rcases this with ⟨this, -⟩ | ⟨b', tt, this, htt, hYt⟩
                  · cases this
                  cases this
                  rcases List.mem_cons.mp htt with e0 | e0
                  · rw [← e0]; exact hYt
                  · cases e0
                have hbH : b < H.size := hI.1.lt hraw
                have hb0 : H0.size ≤ b := by
                  rcases Nat.lt_or_ge b H0.size with k | k
                  · have := hI.2.1 b k
                    rw [hraw, y2] at this; cases this
                  · exact k
                have hI2 := hI' (fun q hq => by rw [x3 q (Nat.lt_of_lt_of_le hq hsz) (by omega)]; exact hI.2.1 q hq)
                have hoth : ∀ (j : Nat) (u : xV), j ≠ k0 → a.1[j]? = some u → x_c Y' u (r j) := by
                  intro j u hj hu
                  have hc0 := hC.1 j u hu
                  rcases u with q | q | q
                  · exact hc0
                  · exact hc0
                  · rcases hc0 with hc0 | ⟨b2, tt, g1, g2, g3⟩
                    · exact Or.inl hc0
                    · refine Or.inr ⟨b2, tt, g1, g2, ?_⟩
                      have hne : b2 ≠ b := by
                        intro e0
                        subst e0
                        cases g3.symm.trans hraw
                        have h9 := List.all_eq_true.mp d1 j (List.mem_range.mpr (List.getElem?_eq_some_iff.mp hu).1)
                        rw [hu] at h9
                        simp only [Bool.or_eq_true, beq_iff_eq, List.all_eq_true, Bool.not_eq_true', beq_eq_false_iff_ne] at h9
                        rcases h9 with h9 | h9
                        · exact hj h9
                        · exact h9 _ g2 rfl
                      rw [x3 b2 (hI.1.lt g3) hne]; exact g3
                refine hs' _ List.mem_cons_self Y' t.heap _ r ls _ hI2 ⟨fun k u hk => ?_, hC.2.1, rfl, fun f hf => ?_, hC.2.2.2.2.1, hC.2.2.2.2.2.1, hC.2.2.2.2.2.2⟩
                · rw [List.getElem?_set] at hk
                  split at hk
                  · next e0 =>
                    split at hk
                    · cases hk
                      rw [← e0, x1]
                      exact Or.inr ⟨b, t', rfl, List.mem_cons_self, x2⟩
                    · cases hk
                  · next e0 => exact hoth k u (Ne.symm e0) hk
                · obtain ⟨f1, f2⟩ := List.mem_filter.mp hf
                  simp only [Bool.and_eq_true, Bool.not_eq_true', beq_eq_false_iff_ne] at f2
                  obtain ⟨b2, g1, g2⟩ := hC.2.2.2.1 f f1
                  refine ⟨b2, g1, ?_⟩
                  show x_fv D f.2.1 f.2.2.1 b2 t.heap = _
                  rw [x_keep_ok f2.2 hE' g1 (fun tt htt => ?_)]
                  · exact g2
                  · have hcq := hC.1 _ _ htt
                    rw [g1] at hcq
                    rcases tt with q | q | q
                    · obtain ⟨x, hx0, -⟩ := hcq; cases hx0
                    · obtain ⟨x, hx0, -⟩ := hcq; cases hx0
                    · rcases hcq with ⟨hcq, -⟩ | ⟨b', uu, hcq, huu, hYt⟩
                      · cases hcq
                      · cases hcq
                        exact ⟨uu, huu, hYt⟩
              · cases hy
            · cases hy
          · cases hy
      · cases h
    · cases h
  · cases h
theorem x_call_ok {kind idx : Nat} (hw : x_wf a = true) (hY0 : ∀ q u, Y0 q = some u → q < H0.size) (hcs : ∀ z ∈ cs, x_cok p l e R s m args below meth c D G Zs U nL cc z) (hd : decode cc pc = .ok (x_ins kind idx, 3))
    {mc ms : Nat} (hmc : mc ≤ R.cells) (hms : ms ≤ R.slots) (h : x_call G ef cs mc ms a pc kind idx = some sc) (hs : ∀ q ∈ sc, x_K p l e R s m args below meth c Q D G Zs U ef Y0 H0 nL mu q) : x_K p l e R s m args below meth c Q D G Zs U ef Y0 H0 nL mu (pc, a) := by
  intro Y H locs r ls st hI hC
  unfold x_call at h
  split at h
  · next z0 hz0 =>
    dsimp only at h
    split at h
    · next hc =>
      have hS : a.2.2.1 = ((a.2.2.1.take z0.2.2.1).reverse).reverse ++ a.2.2.1.drop z0.2.2.1 := by rw [List.reverse_reverse, List.take_append_drop]
      split at h
      · exact x_call1_ok hw hY0 hcs hd hmc hms hS hc.2 h hs hI hC (fun t ht => by cases ht)
      · split at h
        · next o ks' hks =>
          split at h
          · next ts ho =>
            split at h
            · next ys hys =>
              cases h
              obtain ⟨b, t, eb, ht, hY⟩ := x_ref_at (hC.1 o _ ho) rfl
              obtain ⟨y, hy, hym⟩ := x_all_mem hys t ht
              have hE : ∀ (k : Nat) (u : xV), (a.1.set o (.inr (.inr (false, [t]))))[k]? = some u → x_c Y u (r k) := x_set_ok hC.1 (Or.inr ⟨b, t, eb, List.mem_cons_self, hY⟩)
              have hw2 : x_wf (a.1.set o (.inr (.inr (false, [t]))), a.2) = true := by
                have h3 := hw
                simp only [x_wf, Bool.and_eq_true, List.all_eq_true, Nat.blt_eq, List.length_set] at h3 ⊢
                exact h3
              have hC2 : x_C D Y0 nL mu Y H (a.1.set o (.inr (.inr (false, [t]))), a.2) r ls st := ⟨hE, hC.2⟩
              have hct2 : x_ct (a.1.set o (.inr (.inr (false, [t])))) (a.2.2.1.drop z0.2.2.1) ≤ 8 := by
                refine Nat.le_trans (Nat.le_of_eq ?_) hc.2
                unfold x_ct
                congr 1
                refine List.map_congr_left fun k _ => ?_
                have : x_n2 (a.1.set o (.inr (.inr (false, [t])))) k = x_n2 a.1 k := by
                  unfold x_n2
                  by_cases e0 : o = k
                  · subst e0
                    rw [List.getElem?_set, if_pos rfl, if_pos (List.getElem?_eq_some_iff.mp ho).1, ho]
                  · rw [List.getElem?_set, if_neg e0]
                rw [this]
              refine x_call1_ok (a := (a.1.set o (.inr (.inr (false, [t]))), a.2)) hw2 hY0 hcs hd hmc hms hS hct2 hy (fun q hq => hs q (List.mem_flatten.mpr ⟨y, hym, hq⟩)) hI hC2 (fun t' ht' => ?_)
              cases ht'
              refine ⟨b, ?_, hY⟩
              rw [hks]
              show some (r o) = _
              rw [eb]
            · cases h
          · cases h
        · cases h
    · cases h
  · cases h
end XL
end
section
/-! objects and arrays that are made; stores of references and booleans; statics; switches -/
def x_nok (cl : List vw_C) (G : List xG) (Ts : List Cond) (s : State) (args : Array Value) (own : String) (z : Nat × Nat) : Prop :=
  ∃ (ci : Nat) (fts : List xV) (C : String) (T : u_T) (ty : Nat → FieldType), G[z.2]? = some (.inl (ci, fts)) ∧ cl[ci]? = some (C, T, fts.length) ∧ (∀ w ∈ u_ws C T fts.length, w ∈ Ts) ∧ (∀ k, k < fts.length → parseFieldDescriptor (T k).2.2.1 = some (ty k)) ∧
    (Cond.classLink own z.1 C).before args s = true ∧ (Cond.instantiable C fts.length).before args s = true ∧ (Cond.initialized C).before args s = true ∧ ∀ (Y : xY) (k : Nat) (ft : xV), fts[k]? = some ft → x_c Y ft (defaultValue (ty k))
/-- an array of numbers is made here, with this tag -/
def x_aok (G : List xG) (s : State) (args : Array Value) (at_ : ArrayType) (tag : Nat) : Prop :=
  ∃ (n : Nat) (pre : List xV) (ft : xV), G[tag]? = some (.inr (newarray.typeOf at_, n, pre, ft)) ∧ (newarray.typeOf at_).isReference = false ∧ n * componentBytes (newarray.typeOf at_) ≤ 536870912 ∧ (Cond.arrayClass (newarray.typeOf at_)).before args s = true ∧ ∀ (Y : xY) (j : Nat), x_c Y (pre.getD j ft) (defaultValue (newarray.typeOf at_))
/-- an array of references is made here, with this tag -/
def x_rok (G : List xG) (s : State) (args : Array Value) (own : String) (idx tag : Nat) : Prop :=
  ∃ (n : Nat) (pre : List xV) (ft : xV) (C : String), G[tag]? = some (.inr (.object C, n, pre, ft)) ∧ n * 4 ≤ 536870912 ∧ (Cond.classLink own idx C).before args s = true ∧ (Cond.arrayOver (.object C)).before args s = true ∧ ∀ (Y : xY) (j : Nat), x_c Y (pre.getD j ft) .null
def x_mk (a : xS) (S : List Nat) (pc tag n : Nat) : Nat × xS := (pc, (a.1 ++ [.inr (.inr (false, [tag]))], a.2.1, a.1.length :: S, a.2.2.2.1, a.2.2.2.2.1, a.2.2.2.2.2.1, a.1.length :: a.2.2.2.2.2.2.1, x_cells a + 1, x_slots a + n))
def x_newo (G : List xG) (pn : List (Nat × Nat)) (mc ms : Nat) (a : xS) (pc idx : Nat) : xN := match pn.find? (fun z => z.1 == idx) with
  | some z => (match G[z.2]? with
    | some (.inl o) => if x_cells a + 1 ≤ mc ∧ x_slots a + o.2.length ≤ ms then some [x_mk a a.2.2.1 (pc + 3) z.2 o.2.length] else none
    | _ => none)
  | none => none
def x_newa (G : List xG) (pa : List (Nat × Nat)) (mc ms : Nat) (a : xS) (pc len : Nat) : xN := match pa.find? (fun z => z.1 == pc), a.2.2.1 with
  | some z, k :: S => (match G[z.2]?, a.1[k]? with
    | some (.inr o), some (.inl u) => if u.1 = (o.2.1 : Int) ∧ u.2 = (o.2.1 : Int) ∧ x_cells a + 1 ≤ mc ∧ x_slots a + o.2.1 ≤ ms then some [x_mk a S (pc + len) z.2 o.2.1] else none
    | _, _ => none)
  | _, _ => none
section XM1
variable {p : Program} {l : Launch} {e : Env} {R : Room} {s : State} {m : MethodId} {args : Array Value} {below : List Frame} {meth : Method} {c : Code} {Q : State → Prop}
variable {D : va_G} {G : List xG} {Zs : List xZ} {U : State} {ef : List (Nat × Nat)} {Y0 : xY} {H0 : Heap} {nL : Nat} {mu : List Value}
variable {cc : ByteArray} {pc : Nat} {a : xS} {sc : List (Nat × xS)} {cl : List vw_C} {Ts : List Cond} {own : String}
/-- behind a cell that is made -/
theorem x_made {Y : xY} {H H1 : Heap} {locs : List Loc} {r : Nat → Value} {ls : Array Slot} {st : List Value} {tag : Nat} {g : xG} {S : List Nat} {n pc' : Nat} (hw : x_wf a = true) (hY0 : ∀ q u, Y0 q = some u → q < H0.size) (hS : ∀ k ∈ S, k < a.1.length)
    (hI : x_I D G Zs U ef Y0 H0 Y H locs) (hC : x_C D Y0 nL mu Y H a r ls st) (hg : G[tag]? = some g) (hz : H1.size = H.size + 1) (ho : ∀ q, q < H.size → H1[q]? = H[q]?) (hc : x_cell D U (x_up Y H.size tag) g H.size H1)
    (hs : x_K p l e R s m args below meth c Q D G Zs U ef Y0 H0 nL mu (x_mk a S pc' tag n)) : W p l e R s m args below meth c H1 locs (x_cells a + 1) (x_slots a + n) Q (F0 m pc' ls (.ref H.size :: S.map r)) := by
  have hsz : H0.size ≤ H.size := hI.2.2.2.1
  have hmon : ∀ q u, Y q = some u → x_up Y H.size tag q = some u := fun q u hq => by rw [x_up_ne (Nat.ne_of_lt (hI.1.lt hq))]; exact hq
  have hI2 : x_I D G Zs U ef Y0 H0 (x_up Y H.size tag) H1 locs := by
    refine ⟨hI.1.new rfl ho hg hc, fun q hq => ?_, hI.2.2.1.kept (fun b u hb => ho b (Nat.lt_of_lt_of_le (hY0 b u hb) hsz)), Nat.le_trans hsz (by omega), fun q q1 q2 => ?_, hI.2.2.2.2.2⟩
    · rw [x_up_ne (by omega)]; exact hI.2.1 q hq
    · rw [ho q (by omega)]; exact hI.2.2.2.2.1 q q1 q2
  have hC1 : x_C D Y0 nL mu (x_up Y H.size tag) H1 a r ls st := by
    refine ⟨fun k t hk => (hC.1 k t hk).mono hmon, hC.2.1, hC.2.2.1, fun f hf => ?_, hC.2.2.2.2⟩
    obtain ⟨b, b1, b2⟩ := hC.2.2.2.1 f hf
    refine ⟨b, b1, ?_⟩
    have hbs : b < H.size := by
      have : (x_fv D f.2.1 f.2.2.1 b H).isSome := by rw [b2]; rfl
      unfold x_fv at this
      cases hh : H[b]? with
      | none => rw [hh] at this; cases this
      | some w => exact (Array.getElem?_eq_some_iff.mp hh).1
    show (H1[b]?).bind _ = _
    rw [ho b hbs]; exact b2
  have hP := hC1.psh hw hS (t := .inr (.inr (false, [tag]))) (v := .ref H.size) (Or.inr ⟨_, tag, rfl, List.mem_cons_self, x_up_self _ _ _⟩)
  refine hs (x_up Y H.size tag) H1 locs (updV r a.1.length (.ref H.size)) ls _ hI2 ?_
  obtain ⟨p1, p2, p3, p4, p5, p6, p7⟩ := hP
  refine ⟨p1, p2, p3, p4, p5, p6, fun k hk => ?_⟩
  rcases List.mem_cons.mp hk with e0 | hk
  · rw [e0]
    refine ⟨H.size, x_up_at, ?_⟩
    cases hy : Y0 H.size with
    | none => rfl
    | some u => exact absurd (hY0 _ _ hy) (by omega)
  · exact p7 k hk
theorem x_newo_ok {idx mc ms : Nat} {pn : List (Nat × Nat)} (hw : x_wf a = true) (hx : p.tables.exec = Jvm.exec) (hb : c.code = cc) (hts : ∀ w ∈ Ts, w.before args s = true) (hown : s.vm.findClass own = some m.cls) (hK : va_K D cl [] s) (hY0 : ∀ q u, Y0 q = some u → q < H0.size)
    (hpn : ∀ z ∈ pn, x_nok cl G Ts s args own z) (hmc : mc ≤ R.cells) (hms : ms ≤ R.slots) (hd : decode cc pc = .ok (.new idx, 3)) (h : x_newo G pn mc ms a pc idx = some sc) (hs : ∀ q ∈ sc, x_K p l e R s m args below meth c Q D G Zs U ef Y0 H0 nL mu q) : x_K p l e R s m args below meth c Q D G Zs U ef Y0 H0 nL mu (pc, a) := by
  intro Y H locs r ls st hI hC
  unfold x_newo at h
  split at h
  · next z hz =>
    have hzm := List.mem_of_find?_eq_some hz
    have hze := List.find?_some hz
    simp only [beq_iff_eq] at hze
    subst hze
    split at h
    · next o hg =>
      split at h
      · next hc =>
        cases h
        obtain ⟨ci, fts, C, T, ty, g1, g2, g3, g4, g5, g6, g7, g8⟩ := hpn z hzm
        cases hg.symm.trans g1
        have hKn := hK.1 ci _ g2
        refine W.newcK hx hb hown g5 g6 g7 rfl hd (Nat.le_trans hc.1 hmc) (Nat.le_trans hc.2 hms) hKn.2.1 rfl fun H1 kC hkC e1 z1 o1 => ?_
        have hst := hC.2.2.1
        rw [hst]
        refine x_made (st := st) hw hY0 (fun k hk => (x_wf_spec hw).2.1 k hk) hI hC g1 z1 o1 ?_ (hs _ List.mem_cons_self)
        exact ⟨fun k => defaultValue (ty k), u_born ty hts g3 hKn hkC e1 g4, fun k ft hk => g8 _ k ft hk⟩
      · cases h
    · cases h
  · cases h
theorem x_newa_ok {at_ : ArrayType} {mc ms : Nat} {pa : List (Nat × Nat)} (hw : x_wf a = true) (hx : p.tables.exec = Jvm.exec) (hb : c.code = cc) (hU : U.vm.Alike s.vm) (hY0 : ∀ q u, Y0 q = some u → q < H0.size)
    (hpa : ∀ z ∈ pa, z.1 = pc → x_aok G s args at_ z.2) (hmc : mc ≤ R.cells) (hms : ms ≤ R.slots) (hd : decode cc pc = .ok (.newarray at_, 2)) (h : x_newa G pa mc ms a pc 2 = some sc) (hs : ∀ q ∈ sc, x_K p l e R s m args below meth c Q D G Zs U ef Y0 H0 nL mu q) : x_K p l e R s m args below meth c Q D G Zs U ef Y0 H0 nL mu (pc, a) := by
  intro Y H locs r ls st hI hC
  unfold x_newa at h
  split at h
  · next z k S hz hS =>
    have hzm := List.mem_of_find?_eq_some hz
    have hze := List.find?_some hz
    simp only [beq_iff_eq] at hze
    split at h
    · next o u hg hu =>
      split at h
      · next hc =>
        cases h
        obtain ⟨c1, c2, c3, c4⟩ := hc
        obtain ⟨n, pre, ft, g1, g2, g3, g4, g5⟩ := hpa z hzm hze
        cases hg.symm.trans g1
        obtain ⟨v, ev, bv⟩ := hC.1 k _ hu
        have hst : st = .int v :: S.map r := by rw [hC.2.2.1, hS, List.map_cons, ev]
        rw [hst]
        have b1 := bv.1; have b2 := bv.2
        dsimp only at c1 c2 c3 c4
        have hvn : v.toInt = (n : Int) := by omega
        have hv0 : ¬ v < 0 := by
          rw [Int32.lt_iff_toInt_lt]
          have z0 : (0 : Int32).toInt = 0 := rfl
          omega
        have hvN : v.toNatClampNeg = n := by
          have hcl : v.toNatClampNeg = v.toInt.toNat := rfl
          rw [hcl]; omega
        refine va_newaK hx hb g4 rfl hd rfl hv0 hvN g3 (Nat.le_trans c3 hmc) (Nat.le_trans c4 hms) rfl fun H1 cA e1 z1 o1 hAr hNm => ?_
        refine x_made (st := st) hw hY0 (fun j hj => (x_wf_spec hw).2.1 j (by rw [hS]; exact List.mem_cons_of_mem _ hj)) hI hC g1 z1 o1 ?_ (hs _ List.mem_cons_self)
        refine ⟨_, e1, State.isArrayOf_alike hU.symm (hAr n _), fun hq => (by cases hq), arrV_size _ _ _, fun hq => absurd (g2.symm.trans hq) (by decide), fun j w hj => ?_⟩
        have hjn : j < n := by
          have := (Array.getElem?_eq_some_iff.mp hj).1
          rw [arrV_size] at this
          exact this
        rw [arrV_read _ _ hjn] at hj
        cases hj
        exact g5 _ j
      · cases h
    · cases h
  · cases h
theorem x_newr_ok {idx : Nat} {mc ms : Nat} {pa : List (Nat × Nat)} (hw : x_wf a = true) (hx : p.tables.exec = Jvm.exec) (hb : c.code = cc) (hU : U.vm.Alike s.vm) (hown : s.vm.findClass own = some m.cls) (hY0 : ∀ q u, Y0 q = some u → q < H0.size)
    (hpa : ∀ z ∈ pa, z.1 = pc → x_rok G s args own idx z.2) (hmc : mc ≤ R.cells) (hms : ms ≤ R.slots) (hd : decode cc pc = .ok (.anewarray idx, 3)) (h : x_newa G pa mc ms a pc 3 = some sc) (hs : ∀ q ∈ sc, x_K p l e R s m args below meth c Q D G Zs U ef Y0 H0 nL mu q) : x_K p l e R s m args below meth c Q D G Zs U ef Y0 H0 nL mu (pc, a) := by
  intro Y H locs r ls st hI hC
  unfold x_newa at h
  split at h
  · next z k S hz hS =>
    have hzm := List.mem_of_find?_eq_some hz
    have hze := List.find?_some hz
    simp only [beq_iff_eq] at hze
    split at h
    · next o u hg hu =>
      split at h
      · next hc =>
        cases h
        obtain ⟨c1, c2, c3, c4⟩ := hc
        obtain ⟨n, pre, ft, C, g1, g2, g3, g4, g5⟩ := hpa z hzm hze
        cases hg.symm.trans g1
        obtain ⟨v, ev, bv⟩ := hC.1 k _ hu
        have hst : st = .int v :: S.map r := by rw [hC.2.2.1, hS, List.map_cons, ev]
        rw [hst]
        have b1 := bv.1; have b2 := bv.2
        dsimp only at c1 c2 c3 c4
        have hvn : v.toInt = (n : Int) := by omega
        have hv0 : ¬ v < 0 := by
          rw [Int32.lt_iff_toInt_lt]
          have z0 : (0 : Int32).toInt = 0 := rfl
          omega
        have hvN : v.toNatClampNeg = n := by
          have hcl : v.toNatClampNeg = v.toInt.toNat := rfl
          rw [hcl]; omega
        refine W.anew hx hb hown g3 g4 rfl hd rfl hv0 (by rw [hvN]; exact g2) (Nat.le_trans c3 hmc) (by rw [hvN]; exact Nat.le_trans c4 hms) fun cA kA comp n1 n2 n3 n4 => ?_
        rw [hvN]
        have hlast : (H.push { cls := cA, slots := Array.replicate n Value.null, vm := .none })[H.size]? = some { cls := cA, slots := Array.replicate n Value.null, vm := .none } := by simp
        refine x_made (st := st) (H := H) hw hY0 (fun j hj => (x_wf_spec hw).2.1 j (by rw [hS]; exact List.mem_cons_of_mem _ hj)) hI hC g1 (by simp) (fun q hq => by rw [Array.getElem?_push, if_neg (Nat.ne_of_lt hq)]) ?_ (hs _ List.mem_cons_self)
        refine ⟨_, hlast, State.isArrayOf_alike hU.symm ⟨fun q hq => (by cases hq), kA, n2, comp, n3⟩, fun hq => (by cases hq), by simp, fun _ => ?_, fun j w hj => ?_⟩
        · exact va_RA.moved hU.symm ⟨kA, comp, n2, n3, n4, n1⟩
        · have hjn := (Array.getElem?_eq_some_iff.mp hj)
          obtain ⟨q1, q2⟩ := hjn
          have : w = .null := by rw [← q2]; simp
          rw [this]
          exact g5 _ j
      · cases h
    · cases h
  · cases h
end XM1
end
section
/-! stores of booleans and references; null tests; switches; constants; the stack -/
def x_bas (G : List xG) (ef : List (Nat × Nat)) (a : xS) (pc : Nat) : xN := match a.2.2.1 with
  | v :: i :: o :: S => (match a.1[o]?, a.1[i]?, a.1[v]? with
    | some (.inr (.inr (false, ts))), some (.inl u), some (.inl _) => x_all (fun (t : Nat) => match G[t]? with
      | some (.inr (.boolean, n, pre, ft)) => if (x_ew pre ft u).any (fun w => x_le (.inl (0, 1)) w) = true ∧ 0 ≤ u.1 ∧ u.2 < (n : Int) ∧ (ef.any (fun q => q.1 == t && q.2 == 0) = true ∨ a.2.2.2.2.2.2.1.any (fun k => k == o) = true) then
          some (pc + 1, (a.1.set o (.inr (.inr (false, [t]))), a.2.1, S, a.2.2.2.1.filter (x_kp a.1 o u), a.2.2.2.2)) else none
      | _ => none) ts
    | _, _, _ => none)
  | _ => none
def x_aas (G : List xG) (ef ao : List (Nat × Nat)) (a : xS) (pc : Nat) : xN := match a.2.2.1 with
  | v :: i :: o :: S => (match a.1[o]?, a.1[i]?, a.1[v]? with
    | some (.inr (.inr (false, ts))), some (.inl u), some (.inr (.inr (false, us))) => x_all (fun (t : Nat) => match G[t]? with
      | some (.inr (_, n, pre, ft)) => if (x_ew pre ft u).any (fun w => x_le (.inr (.inr (false, us))) w) = true ∧ us.all (fun z => ao.any (fun q => q.1 == t && q.2 == z)) = true ∧ 0 ≤ u.1 ∧ u.2 < (n : Int) ∧ (ef.any (fun q => q.1 == t && q.2 == 0) = true ∨ a.2.2.2.2.2.2.1.any (fun k => k == o) = true) then
          some (pc + 1, (a.1.set o (.inr (.inr (false, [t]))), a.2.1, S, a.2.2.2.1.filter (x_kp a.1 o u), a.2.2.2.2)) else none
      | _ => none) ts
    | _, _, _ => none)
  | _ => none
/-- a value of tag z.2 may stand in an array of tag z.1 -/
def x_sok (cl : List vw_C) (G : List xG) (s : State) (z : Nat × Nat) : Prop := ∃ (n : Nat) (pre : List xV) (ft : xV) (C : String) (ci : Nat) (fts : List xV) (r : vw_C), G[z.1]? = some (.inr (.object C, n, pre, ft)) ∧ G[z.2]? = some (.inl (ci, fts)) ∧ cl[ci]? = some r ∧ va_Nw (.castable r.1 C) s
def x_ifn (a : xS) (pc : Nat) (off : Int) (non : Bool) : xN := match a.2.2.1 with
  | o :: S => (match a.1[o]? with
    | some (.inr (.inr q)) => if (pc : Int) + off = ((((pc : Int) + off).toNat : Nat) : Int) then some ((if non then ((pc : Int) + off).toNat else pc + 3, (a.1.set o (.inr (.inr (false, q.2))), a.2.1, S, a.2.2.2)) ::
        (if q.1 then [(if non then pc + 3 else ((pc : Int) + off).toNat, x_top a S)] else [])) else none
    | _ => none)
  | _ => none
def x_tgt (pc : Nat) (off : Int) : Option Nat := if (pc : Int) + off = ((((pc : Int) + off).toNat : Nat) : Int) then some ((pc : Int) + off).toNat else none
def x_sw (a : xS) (pc : Nat) (dflt lo hi : Int) (offs : Array Int) : xN := match a.2.2.1 with
  | x :: S => (match a.1[x]?, x_tgt pc dflt with
    | some (.inl u), some td => if 0 ≤ hi - lo ∧ hi - lo < 100 then
      (match x_all (fun (k : Nat) => match offs[k]? with
        | some off => (match x_tgt pc off, x_meet (.inl u) (.inl (lo + k, lo + k)) with
          | some t, some w => some [(t, (a.1.set x w, a.2.1, S, a.2.2.2))]
          | some _, none => some []
          | none, _ => none)
        | none => none) (List.range ((hi - lo).toNat + 1)) with
      | some ys => some (ys.flatten ++ ((match x_meet (.inl u) (.inl (-2147483648, lo - 1)) with
        | some w => [(td, (a.1.set x w, a.2.1, S, a.2.2.2))]
        | none => []) ++ (match x_meet (.inl u) (.inl (hi + 1, 2147483647)) with
        | some w => [(td, (a.1.set x w, a.2.1, S, a.2.2.2))]
        | none => [])))
      | none => none) else none
    | _, _ => none)
  | _ => none
def x_dup (a : xS) (pc : Nat) : xN := match a.2.2.1 with
  | x :: S => if x_n2 a.1 x then some [(pc + 1, x_top a (x :: x :: S))] else none
  | _ => none
def x_dup2 (a : xS) (pc : Nat) : xN := match a.2.2.1 with
  | y :: x :: S => if x_n2 a.1 x = true ∧ x_n2 a.1 y = true then some [(pc + 1, x_top a (y :: x :: y :: x :: S))] else none
  | _ => none
def x_pop (a : xS) (pc : Nat) : xN := match a.2.2.1 with
  | x :: S => if x_n2 a.1 x then some [(pc + 1, x_top a S)] else none
  | _ => none
def x_pop2 (a : xS) (pc : Nat) : xN := match a.2.2.1 with
  | x :: S => (match a.1[x]? with
    | some (.inr (.inl _)) => some [(pc + 1, x_top a S)]
    | _ => none)
  | _ => none
section XD
variable {p : Program} {l : Launch} {e : Env} {R : Room} {s : State} {m : MethodId} {args : Array Value} {below : List Frame} {meth : Method} {c : Code} {Q : State → Prop}
variable {D : va_G} {G : List xG} {Zs : List xZ} {U : State} {ef : List (Nat × Nat)} {Y0 : xY} {H0 : Heap} {nL : Nat} {mu : List Value}
variable {cc : ByteArray} {pc : Nat} {a : xS} {sc : List (Nat × xS)} {cl : List vw_C} {Ts : List Cond} {own : String}
/-- behind a store into an array of ours -/
theorem x_stored {Y : xY} {H H' : Heap} {locs : List Loc} {r : Nat → Value} {ls : Array Slot} {st : List Value} {o b t j : Nat} {S : List Nat} {cell : Cell} {q : FieldType × Nat × List xV × xV} {v : Value} {pc' : Nat} {u : Int × Int} {nf : List (Nat × Nat × Nat × Nat)} (hnf : ∀ f ∈ nf, f.1 = o ∧ f.2.1 = 1000 ∧ f.2.2.1 = j ∧ r f.2.2.2 = v) (hju : u.1 ≤ (j : Int) ∧ (j : Int) ≤ u.2) (hY0 : ∀ q u, Y0 q = some u → q < H0.size)
    (hI : x_I D G Zs U ef Y0 H0 Y H locs) (hC : x_C D Y0 nL mu Y H a r ls st) (eb : r o = .ref b) (hY : Y b = some t) (hg : G[t]? = some (.inr q)) (q1 : H[b]? = some cell) (q2 : U.isArrayOf cell q.1) (q3 : cell.vm ≠ .unknown) (q4 : cell.slots.size = q.2.1) (q5 : q.1.isReference = true → va_RA U cell.cls q.1)
    (q6 : ∀ (j : Nat) (v : Value), cell.slots[j]? = some v → x_c Y (q.2.2.1.getD j q.2.2.2) v) (hj : j < q.2.1) (hv : x_c Y (q.2.2.1.getD j q.2.2.2) v) (e1 : H'[b]? = some (cell.setSlot j v)) (e2 : H'.size = H.size) (e3 : ∀ q, q ≠ b → H'[q]? = H[q]?)
    (hef : ef.any (fun q => q.1 == t && q.2 == 0) = true ∨ a.2.2.2.2.2.2.1.any (fun k => k == o) = true)
    (hs : x_K p l e R s m args below meth c Q D G Zs U ef Y0 H0 nL mu (pc', (a.1.set o (.inr (.inr (false, [t]))), a.2.1, S, nf ++ a.2.2.2.1.filter (x_kp a.1 o u), a.2.2.2.2))) : W p l e R s m args below meth c H' (locs ++ [⟨b, j⟩]) (x_cells a) (x_slots a) Q (F0 m pc' ls (S.map r)) := by
  have hE : ∀ (k : Nat) (u : xV), (a.1.set o (.inr (.inr (false, [t]))))[k]? = some u → x_c Y u (r k) := x_set_ok hC.1 (Or.inr ⟨b, t, eb, List.mem_cons_self, hY⟩)
  have hH' : x_H D G Zs U Y H' := by
    refine hI.1.put hY e3 hg ⟨_, e1, ⟨q2.1, q2.2⟩, q3, by show (cell.setSlot _ _).slots.size = q.2.1; rw [← q4]; simp [Cell.setSlot], q5, fun j' w hj' => ?_⟩
    by_cases ej : j' = j
    · subst ej
      rw [Cell.slots_setSlot_self _ (by rw [q4]; exact hj)] at hj'
      cases hj'
      exact hv
    · rw [Cell.slots_setSlot_ne _ (Ne.symm ej)] at hj'
      exact q6 j' w hj'
  have hI' : x_I D G Zs U ef Y0 H0 Y H' (locs ++ [⟨b, j⟩]) := by
    refine hI.put hY0 hY hH' e2 e3 (fun g hy0 hg2 => ?_)
    cases hg.symm.trans hg2
    intro hn
    rcases hef with h1 | h1
    · obtain ⟨q, q1, q2⟩ := List.any_eq_true.mp h1
      simp only [Bool.and_eq_true, beq_iff_eq] at q2
      exact absurd (by rw [← q2.1, ← q2.2]; exact q1) hn
    · obtain ⟨q, q1, q2⟩ := List.any_eq_true.mp h1
      simp only [beq_iff_eq] at q2
      obtain ⟨b', f1, f2⟩ := hC.2.2.2.2.2.2 q q1
      rw [q2, eb] at f1
      cases f1
      rw [f2] at hy0; cases hy0
  refine hs Y H' _ r ls _ hI' ⟨hE, hC.2.1, rfl, fun f hf => ?_, hC.2.2.2.2⟩
  rcases List.mem_append.mp hf with hf | hf
  · obtain ⟨n1, n2, n3, n4⟩ := hnf f hf
    refine ⟨b, by rw [n1]; exact eb, ?_⟩
    rw [n2, n3, n4]
    unfold x_fv
    rw [e1, if_pos rfl]
    exact Cell.slots_setSlot_self _ (by rw [q4]; exact hj)
  obtain ⟨hfm, hfc⟩ := List.mem_filter.mp hf
  obtain ⟨b', f1, f2⟩ := hC.2.2.2.1 f hfm
  refine ⟨b', f1, ?_⟩
  unfold x_kp at hfc
  rw [Bool.or_eq_true] at hfc
  rcases hfc with hfc | hfc
  · have hne := x_dj_ok hC.1 hfc f1 eb
    show (H'[b']?).bind _ = _
    rw [e3 b' hne]; exact f2
  · simp only [Bool.and_eq_true, Bool.or_eq_true, beq_iff_eq, decide_eq_true_eq] at hfc
    obtain ⟨g1, g2, g3⟩ := hfc
    rw [g1, eb] at f1
    cases f1
    rw [g2] at f2 ⊢
    unfold x_fv at f2 ⊢
    rw [q1, if_pos rfl] at f2
    rw [e1, if_pos rfl]
    show (cell.setSlot j v).slots[f.2.2.1]? = _
    rw [Cell.slots_setSlot_ne _ (by intro e0; subst e0; omega)]
    exact f2
theorem x_ias_ok (hx : p.tables.exec = Jvm.exec) (hb : c.code = cc) (hU : U.vm.Alike s.vm) (hY0 : ∀ q u, Y0 q = some u → q < H0.size) (hd : decode cc pc = .ok (.iastore, 1))
    (h : x_ias G ef a pc = some sc) (hs : ∀ q ∈ sc, x_K p l e R s m args below meth c Q D G Zs U ef Y0 H0 nL mu q) : x_K p l e R s m args below meth c Q D G Zs U ef Y0 H0 nL mu (pc, a) := by
  intro Y H locs r ls st hI hC
  unfold x_ias at h
  split at h
  · next v i o S hS =>
    split at h
    · next ts u tv ho hi hv =>
      obtain ⟨b, t, eb, ht, hY⟩ := x_ref_at (hC.1 o _ ho) rfl
      obtain ⟨y, hy, hm⟩ := x_all_mem h t ht
      have hK1 := hs y hm
      obtain ⟨vi, ei, bi⟩ := hC.1 i _ hi
      obtain ⟨vv, ev, bv⟩ := hC.1 v _ hv
      have hst : st = .int vv :: .int vi :: .ref b :: S.map r := by rw [hC.2.2.1, hS, List.map_cons, List.map_cons, List.map_cons, eb, ei, ev]
      rw [hst]
      split at hy
      · next n pre ft hg =>
        split at hy
        · next hc =>
          cases hy
          obtain ⟨hle, c2, c3, hef⟩ := hc
          obtain ⟨w, hwr, hle⟩ : ∃ w, x_ew pre ft u = some w ∧ x_le (.inl tv) w = true := by
            cases hq : x_ew pre ft u with
            | none => rw [hq] at hle; cases hle
            | some w => rw [hq] at hle; exact ⟨w, rfl, hle⟩
          obtain ⟨g, h1, h2⟩ := hI.1.1 b _ hY
          cases h1.symm.trans hg
          obtain ⟨cell, q1, q2, q3, q4, q5, q6⟩ := h2
          have q4' : cell.slots.size = n := q4
          have hix := x_idx bi c2 c3
          refine W.iast hx hb q1 (State.isArrayOf_alike hU q2) q3 (by rw [q4']; exact hix.1) rfl rfl hd fun H' e1 e2 e3 => ?_
          have hvv : x_c Y (pre.getD vi.toNatClampNeg ft) (.int vv) := by rw [x_ew_ok hwr bi c2]; exact x_le_ok hle ⟨vv, rfl, bv⟩
          have b1 := bi.1; have b2 := bi.2
          have hcl : vi.toNatClampNeg = vi.toInt.toNat := rfl
          refine x_stored (S := S) (u := u) (fun f hf => ?_) (by rw [hcl]; omega) hY0 hI hC eb hY hg q1 q2 q3 q4 q5 q6 hix.2 hvv e1 e2 e3 hef hK1
          split at hf
          · next huu =>
            rcases List.mem_cons.mp hf with e0 | hf
            · rw [e0]
              exact ⟨rfl, rfl, by show u.1.toNat = _; rw [hcl]; omega, ev⟩
            · cases hf
          · cases hf
        · cases hy
      · cases hy
    · cases h
  · cases h
theorem x_bas_ok (hx : p.tables.exec = Jvm.exec) (hb : c.code = cc) (hU : U.vm.Alike s.vm) (hY0 : ∀ q u, Y0 q = some u → q < H0.size) (hd : decode cc pc = .ok (.bastore, 1))
    (h : x_bas G ef a pc = some sc) (hs : ∀ q ∈ sc, x_K p l e R s m args below meth c Q D G Zs U ef Y0 H0 nL mu q) : x_K p l e R s m args below meth c Q D G Zs U ef Y0 H0 nL mu (pc, a) := by
  intro Y H locs r ls st hI hC
  unfold x_bas at h
  split at h
  · next v i o S hS =>
    split at h
    · next ts u tv ho hi hv =>
      obtain ⟨b, t, eb, ht, hY⟩ := x_ref_at (hC.1 o _ ho) rfl
      obtain ⟨y, hy, hm⟩ := x_all_mem h t ht
      have hK1 := hs y hm
      obtain ⟨vi, ei, bi⟩ := hC.1 i _ hi
      obtain ⟨vv, ev, bv⟩ := hC.1 v _ hv
      have hst : st = .int vv :: .int vi :: .ref b :: S.map r := by rw [hC.2.2.1, hS, List.map_cons, List.map_cons, List.map_cons, eb, ei, ev]
      rw [hst]
      split at hy
      · next n pre ft hg =>
        split at hy
        · next hc =>
          cases hy
          obtain ⟨hle, c2, c3, hef⟩ := hc
          obtain ⟨w, hwr, hle⟩ : ∃ w, x_ew pre ft u = some w ∧ x_le (.inl (0, 1)) w = true := by
            cases hq : x_ew pre ft u with
            | none => rw [hq] at hle; cases hle
            | some w => rw [hq] at hle; exact ⟨w, rfl, hle⟩
          obtain ⟨g, h1, h2⟩ := hI.1.1 b _ hY
          cases h1.symm.trans hg
          obtain ⟨cell, q1, q2, q3, q4, q5, q6⟩ := h2
          have q4' : cell.slots.size = n := q4
          have hix := x_idx bi c2 c3
          refine W.zast hx hb q1 (State.isArrayOf_alike hU q2) q3 (by rw [q4']; exact hix.1) rfl rfl hd fun H' e1 e2 e3 => ?_
          have z1 : (0 : Int) ≤ (1 : Int32).toInt := by decide
          have hvv : x_c Y (pre.getD vi.toNatClampNeg ft) (narrow .boolean (.int vv)) := by
            rw [x_ew_ok hwr bi c2]
            exact x_le_ok hle ⟨vv &&& 1, rfl, (x_and1 z1).1, (x_and1 z1).2⟩
          have b1 := bi.1; have b2 := bi.2
          have hcl : vi.toNatClampNeg = vi.toInt.toNat := rfl
          exact x_stored (S := S) (u := u) (nf := []) (fun f hf => by cases hf) (by rw [hcl]; omega) hY0 hI hC eb hY hg q1 q2 q3 q4 q5 q6 hix.2 hvv e1 e2 e3 hef hK1
        · cases hy
      · cases hy
    · cases h
  · cases h
theorem x_aas_ok {ao : List (Nat × Nat)} (hx : p.tables.exec = Jvm.exec) (hb : c.code = cc) (hU : U.vm.Alike s.vm) (hK : va_K D cl [] s) (hY0 : ∀ q u, Y0 q = some u → q < H0.size) (hao : ∀ z ∈ ao, x_sok cl G s z) (hd : decode cc pc = .ok (.aastore, 1))
    (h : x_aas G ef ao a pc = some sc) (hs : ∀ q ∈ sc, x_K p l e R s m args below meth c Q D G Zs U ef Y0 H0 nL mu q) : x_K p l e R s m args below meth c Q D G Zs U ef Y0 H0 nL mu (pc, a) := by
  intro Y H locs r ls st hI hC
  unfold x_aas at h
  split at h
  · next v i o S hS =>
    split at h
    · next ts u us ho hi hv =>
      obtain ⟨b, t, eb, ht, hY⟩ := x_ref_at (hC.1 o _ ho) rfl
      obtain ⟨y, hy, hm⟩ := x_all_mem h t ht
      have hK1 := hs y hm
      obtain ⟨vi, ei, bi⟩ := hC.1 i _ hi
      have hcv := hC.1 v _ hv
      obtain ⟨bv, tv, ev, htv, hYv⟩ := x_ref_at hcv rfl
      have hst : st = .ref bv :: .int vi :: .ref b :: S.map r := by rw [hC.2.2.1, hS, List.map_cons, List.map_cons, List.map_cons, eb, ei, ev]
      rw [hst]
      split at hy
      · next et n pre ft hg =>
        split at hy
        · next hc =>
          cases hy
          obtain ⟨hle, hau, c2, c3, hef⟩ := hc
          obtain ⟨w, hwr, hle⟩ : ∃ w, x_ew pre ft u = some w ∧ x_le (.inr (.inr (false, us))) w = true := by
            cases hq : x_ew pre ft u with
            | none => rw [hq] at hle; cases hle
            | some w => rw [hq] at hle; exact ⟨w, rfl, hle⟩
          obtain ⟨z, hz, hze⟩ := List.any_eq_true.mp (List.all_eq_true.mp hau tv htv)
          simp only [Bool.and_eq_true, beq_iff_eq] at hze
          obtain ⟨n', pre', ft', C, ci, fts, rr, g1, g2, g3, g4⟩ := hao z hz
          rw [hze.1] at g1
          rw [hze.2] at g2
          cases hg.symm.trans g1
          obtain ⟨g, h1, h2⟩ := hI.1.1 b _ hY
          cases h1.symm.trans hg
          obtain ⟨cell, q1, q2, q3, q4, q5, q6⟩ := h2
          obtain ⟨gv, h3, h4⟩ := hI.1.1 bv _ hYv
          cases h3.symm.trans g2
          obtain ⟨V, ⟨cellV, w1, w2, w3, -⟩, -⟩ := h4
          have q4' : cell.slots.size = n := q4
          have hix := x_idx bi c2 c3
          obtain ⟨kA, comp, k1, k2, k3, -⟩ := va_RA.moved hU (q5 rfl)
          obtain ⟨kE, hkE, -⟩ := Vm.findClass_spec k3
          obtain ⟨c0, t1, f1, f2, f3⟩ := Cond.castable_spec (va_Nw.use (A := args) rfl g4)
          have hcls := (hK.1 ci rr g3).2
          cases hcls.1.symm.trans f1
          cases k3.symm.trans f2
          obtain ⟨kC, hkC, -⟩ := hcls.2
          have hI1 : ¬ vi < 0 := fun hq => hix.1 (Or.inl hq)
          refine W.aast hx hb q1 q2.1 q3 k1 k2 rfl hkE ⟨hI1, by rw [q4']; exact hix.2⟩ w1 (fun q hq => by rw [w3] at hq; cases hq) (by rw [w2]; exact hkC) (by rw [w2]; exact f3) rfl rfl hd fun H' e1 e2 e3 => ?_
          have hvv : x_c Y (pre.getD vi.toNatClampNeg ft) (.ref bv) := by
            rw [x_ew_ok hwr bi c2]
            rw [ev] at hcv
            exact x_le_ok hle hcv
          have b1 := bi.1; have b2 := bi.2
          have hcl : vi.toNatClampNeg = vi.toInt.toNat := rfl
          exact x_stored (S := S) (u := u) (nf := []) (fun f hf => by cases hf) (by rw [hcl]; omega) hY0 hI hC eb hY hg q1 q2 q3 q4 q5 q6 hix.2 hvv e1 e2 e3 hef hK1
        · cases hy
      · cases hy
    · cases h
  · cases h
theorem x_ifn_ok {off : Int} {non : Bool} (rowR : ∀ (H : Heap) (locs : List Loc) (cells slots : Nat) (ls : Array Slot) (rest : List Value) (b tgt : Nat), (pc : Int) + off = (tgt : Int) → W p l e R s m args below meth c H locs cells slots Q (F0 m (if non then tgt else pc + 3) ls rest) → W p l e R s m args below meth c H locs cells slots Q (F0 m pc ls (.ref b :: rest)))
    (rowN : ∀ (H : Heap) (locs : List Loc) (cells slots : Nat) (ls : Array Slot) (rest : List Value) (tgt : Nat), (pc : Int) + off = (tgt : Int) → W p l e R s m args below meth c H locs cells slots Q (F0 m (if non then pc + 3 else tgt) ls rest) → W p l e R s m args below meth c H locs cells slots Q (F0 m pc ls (.null :: rest)))
    (h : x_ifn a pc off non = some sc) (hs : ∀ q ∈ sc, x_K p l e R s m args below meth c Q D G Zs U ef Y0 H0 nL mu q) : x_K p l e R s m args below meth c Q D G Zs U ef Y0 H0 nL mu (pc, a) := by
  intro Y H locs r ls st hI hC
  unfold x_ifn at h
  split at h
  · next o S hS =>
    split at h
    · next q ho =>
      split at h
      · next htg =>
        cases h
        have hc := hC.1 o _ ho
        have hst : st = r o :: S.map r := by rw [hC.2.2.1, hS, List.map_cons]
        rw [hst]
        rcases hc with ⟨hn, hq⟩ | ⟨b, t, eb, ht, hY⟩
        · rw [hn]
          refine rowN H locs _ _ ls _ _ htg ?_
          refine hs (_, x_top a S) (List.mem_cons_of_mem _ ?_) Y H locs r ls _ hI (hC.stk S)
          rw [if_pos hq]
          exact List.mem_cons_self
        · rw [eb]
          refine rowR H locs _ _ ls _ b _ htg ?_
          refine hs (_, (a.1.set o (.inr (.inr (false, q.2))), a.2.1, S, a.2.2.2)) List.mem_cons_self Y H locs r ls _ hI (hC.env ?_ S)
          exact x_set_ok hC.1 (Or.inr ⟨b, t, eb, ht, hY⟩)
      · cases h
    · cases h
  · cases h
theorem x_tgt_ok {off : Int} {t : Nat} (h : x_tgt pc off = some t) : (pc : Int) + off = (t : Int) := by
  unfold x_tgt at h
  split at h
  · next q => cases h; exact q
  · cases h
theorem x_sw_ok {dflt lo hi : Int} {offs : Array Int} {len : Nat} (hx : p.tables.exec = Jvm.exec) (hb : c.code = cc) (hd : decode cc pc = .ok (.tableswitch dflt lo hi offs, len))
    (h : x_sw a pc dflt lo hi offs = some sc) (hs : ∀ q ∈ sc, x_K p l e R s m args below meth c Q D G Zs U ef Y0 H0 nL mu q) : x_K p l e R s m args below meth c Q D G Zs U ef Y0 H0 nL mu (pc, a) := by
  intro Y H locs r ls st hI hC
  unfold x_sw at h
  split at h
  · next x S hS =>
    split at h
    · next u td hu htd =>
      split at h
      · next hlh =>
        split at h
        · next ys hys =>
          cases h
          obtain ⟨v, ev, bv⟩ := hC.1 x _ hu
          have hst : st = .int v :: S.map r := by rw [hC.2.2.1, hS, List.map_cons, ev]
          rw [hst]
          have hcv : x_c Y (.inl u) (r x) := hC.1 x _ hu
          have rg := x_rng v
          by_cases h1 : v.toInt < lo
          · obtain ⟨w, m1, m2⟩ := x_meet_ok hcv (u := .inl (-2147483648, lo - 1)) ⟨v, ev, by show -2147483648 ≤ v.toInt; omega, by show v.toInt ≤ lo - 1; omega⟩
            refine lv_tableOut hx hb hd (Or.inl h1) (x_tgt_ok htd) ?_
            refine hs (td, (a.1.set x w, a.2.1, S, a.2.2.2)) (List.mem_append_right _ (List.mem_append_left _ (by rw [m1]; exact List.mem_cons_self))) Y H locs r ls _ hI (hC.env (x_set_ok hC.1 m2) S)
          · by_cases h2 : hi < v.toInt
            · obtain ⟨w, m1, m2⟩ := x_meet_ok hcv (u := .inl (hi + 1, 2147483647)) ⟨v, ev, by show hi + 1 ≤ v.toInt; omega, by show v.toInt ≤ 2147483647; omega⟩
              refine lv_tableOut hx hb hd (Or.inr h2) (x_tgt_ok htd) ?_
              refine hs (td, (a.1.set x w, a.2.1, S, a.2.2.2)) (List.mem_append_right _ (List.mem_append_right _ (by rw [m1]; exact List.mem_cons_self))) Y H locs r ls _ hI (hC.env (x_set_ok hC.1 m2) S)
            · obtain ⟨y, hy, hym⟩ := x_all_mem hys (v.toInt - lo).toNat (List.mem_range.mpr (by omega))
              split at hy
              · next off hoff =>
                have ek : lo + (((v.toInt - lo).toNat : Nat) : Int) = v.toInt := by omega
                obtain ⟨w, m1, m2⟩ := x_meet_ok hcv (u := .inl (lo + (((v.toInt - lo).toNat : Nat) : Int), lo + (((v.toInt - lo).toNat : Nat) : Int))) ⟨v, ev, by show _ ≤ v.toInt; omega, by show v.toInt ≤ _; omega⟩
                rw [m1] at hy
                split at hy
                · next t w' ht0 hw0 =>
                  cases hw0
                  cases hy
                  refine lv_tableIn hx hb hd h1 h2 hoff (x_tgt_ok ht0) ?_
                  refine hs (t, (a.1.set x w, a.2.1, S, a.2.2.2)) (List.mem_append_left _ (List.mem_flatten.mpr ⟨_, hym, List.mem_cons_self⟩)) Y H locs r ls _ hI (hC.env (x_set_ok hC.1 m2) S)
                · next hw0 => cases hw0
                · cases hy
              · cases hy
        · cases h
      · cases h
    · cases h
  · cases h
theorem x_cst_ok {pc' : Nat} {v : Value} {t : xV} (hw : x_wf a = true) (hv : ∀ Y : xY, x_c Y t v)
    (row : ∀ (H : Heap) (locs : List Loc) (cells slots : Nat) (ls : Array Slot) (rest : List Value), W p l e R s m args below meth c H locs cells slots Q (F0 m pc' ls (v :: rest)) → W p l e R s m args below meth c H locs cells slots Q (F0 m pc ls rest))
    (hs : x_K p l e R s m args below meth c Q D G Zs U ef Y0 H0 nL mu (pc', x_psh a a.2.2.1 t)) : x_K p l e R s m args below meth c Q D G Zs U ef Y0 H0 nL mu (pc, a) := by
  intro Y H locs r ls st hI hC
  have hst := hC.2.2.1
  rw [hst]
  refine row H locs _ _ ls _ ?_
  exact hs Y H locs _ ls _ hI (hC.psh hw (x_wf_spec hw).2.1 (hv Y))
theorem x_stk_ok {pc' : Nat} {S S' : List Nat} (hS : a.2.2.1 = S) (row : ∀ (Y : xY) (H : Heap) (locs : List Loc) (cells slots : Nat) (ls : Array Slot) (r : Nat → Value), (∀ (k : Nat) (t : xV), a.1[k]? = some t → x_c Y t (r k)) → W p l e R s m args below meth c H locs cells slots Q (F0 m pc' ls (S'.map r)) → W p l e R s m args below meth c H locs cells slots Q (F0 m pc ls (S.map r)))
    (hs : x_K p l e R s m args below meth c Q D G Zs U ef Y0 H0 nL mu (pc', x_top a S')) : x_K p l e R s m args below meth c Q D G Zs U ef Y0 H0 nL mu (pc, a) := by
  intro Y H locs r ls st hI hC
  have hst := hC.2.2.1
  rw [hst]
  show W p l e R s m args below meth c H locs (x_cells a) (x_slots a) Q (F0 m pc ls (a.2.2.1.map r))
  rw [hS]
  exact row Y H locs _ _ ls r hC.1 (hs Y H locs r ls _ hI (hC.stk S'))
end XD
end
section
/-! System.arraycopy, from the first places of an array of ints to the first places of another of its tag -/
def x_acp (G : List xG) (ef : List (Nat × Nat)) (a : xS) (pc : Nat) : xN := match a.2.2.1 with
  | kn :: kd :: o :: ks :: q :: S => (match a.1[o]?, a.1[q]? with
    | some (.inr (.inr (false, [t]))), some (.inr (.inr (false, [t2]))) => (match a.1[kn]?, a.1[kd]?, a.1[ks]? with
      | some (.inl u), some (.inl ud), some (.inl us) => (match G[t]? with
        | some (.inr (.int, n, pre, ft)) => if t = t2 ∧ u.1 = u.2 ∧ 0 ≤ u.1 ∧ u.1 ≤ (n : Int) ∧ ud = (0, 0) ∧ us = (0, 0) ∧ x_ct a.1 S ≤ 8 ∧ x_le ft xFull = true ∧ pre.all (fun w => x_le w xFull) = true ∧ (ef.any (fun z => z.1 == t && z.2 == 0) = true ∨ a.2.2.2.2.2.2.1.any (fun k => k == o) = true) then
            some [(pc + 3, (a.1, a.2.1, S, a.2.2.2.1.filter (fun f => x_dj a.1 f.1 o), a.2.2.2.2))] else none
        | _ => none)
      | _, _, _ => none)
    | _, _ => none)
  | _ => none
section XCP
variable {p : Program} {l : Launch} {e : Env} {R : Room} {s : State} {m : MethodId} {args : Array Value} {below : List Frame} {meth : Method} {c : Code} {Q : State → Prop}
variable {D : va_G} {G : List xG} {Zs : List xZ} {U : State} {ef : List (Nat × Nat)} {Y0 : xY} {H0 : Heap} {nL : Nat} {mu : List Value}
variable {cc : ByteArray} {pc : Nat} {a : xS} {sc : List (Nat × xS)} {own : String}
theorem x_I.putL {Y : xY} {H H' : Heap} {locs L : List Loc} {b t : Nat} (hL : ∀ q ∈ L, q.base = b) (hY0 : ∀ q u, Y0 q = some u → q < H0.size) (hI : x_I D G Zs U ef Y0 H0 Y H locs) (hY : Y b = some t) (hH : x_H D G Zs U Y H') (hz : H'.size = H.size) (ho : ∀ q, q ≠ b → H'[q]? = H[q]?)
    (hE : ∀ g, Y0 b = some t → G[t]? = some g → match g with
      | .inl o => ∀ k, k < o.2.length → (t, k) ∉ ef → x_sl D o.1 k b H' = x_sl D o.1 k b H
      | .inr _ => (t, 0) ∉ ef → H'[b]? = H[b]?) : x_I D G Zs U ef Y0 H0 Y H' (locs ++ L) := by
  have hA : (∃ u, Y0 b = some u) ∨ H0.size ≤ b := by
    rcases Nat.lt_or_ge b H0.size with q | q
    · exact Or.inl ⟨t, by rw [← hI.2.1 b q]; exact hY⟩
    · exact Or.inr q
  have h1 := hI.put (sl := 0) hY0 hY hH hz ho hE
  refine ⟨h1.1, h1.2.1, h1.2.2.1, h1.2.2.2.1, h1.2.2.2.2.1, fun q hq => ?_⟩
  rcases List.mem_append.mp hq with hq | hq
  · exact hI.2.2.2.2.2 q hq
  · rw [hL q hq]; exact hA
theorem x_acp_ok {idx : Nat} (hx : p.tables.exec = Jvm.exec) (hb : c.code = cc) (hml : c.maxLocals = nL) (hown : s.vm.findClass own = some m.cls) (hU : U.vm.Alike s.vm) (hY0 : ∀ q u, Y0 q = some u → q < H0.size)
    (hlink : (Cond.methodLink own idx arraycopyName).before args s = true) (hnat : (Cond.native arraycopyName).before args s = true) (hstat : (Cond.static arraycopyName).before args s = true) (hini : (Cond.initialized "java/lang/System").before args s = true) (hfr : 1 ≤ R.frames) (hlo : nativeFrameWords "java/lang/System" "arraycopy" 5 + 19 ≤ R.locals)
    (hd : decode cc pc = .ok (.invokestatic idx, 3)) (h : x_acp G ef a pc = some sc) (hs : ∀ q ∈ sc, x_K p l e R s m args below meth c Q D G Zs U ef Y0 H0 nL mu q) : x_K p l e R s m args below meth c Q D G Zs U ef Y0 H0 nL mu (pc, a) := by
  intro Y H locs r ls st hI hC
  unfold x_acp at h
  split at h
  · next kn kd o ks q S hS =>
    split at h
    · next t t2 ho hq =>
      split at h
      · next u ud us hu hud hus =>
        split at h
        · next n pre ft hg =>
          split at h
          · next hc =>
            cases h
            obtain ⟨c0, c1, c2, c3, c4, c5, c6, c7, c8, hef⟩ := hc
            subst c0; subst c4; subst c5
            obtain ⟨bd, td, ed, htd, hYd⟩ := x_ref_at (hC.1 o _ ho) rfl
            obtain ⟨bs, ts, es, hts, hYs⟩ := x_ref_at (hC.1 q _ hq) rfl
            have htd : td = t := by rcases List.mem_cons.mp htd with e0 | e0; exact e0; cases e0
            have hts : ts = t := by rcases List.mem_cons.mp hts with e0 | e0; exact e0; cases e0
            subst htd; subst hts
            obtain ⟨vn, en, bn⟩ := hC.1 kn _ hu
            obtain ⟨vd, edd, bdd⟩ := hC.1 kd _ hud
            obtain ⟨vs, ess, bss⟩ := hC.1 ks _ hus
            have n1 := bn.1; have n2 := bn.2
            have d1 : (0 : Int) ≤ vd.toInt := bdd.1; have d2 : vd.toInt ≤ 0 := bdd.2
            have s1 : (0 : Int) ≤ vs.toInt := bss.1; have s2 : vs.toInt ≤ 0 := bss.2
            have z0 : (0 : Int32).toInt = 0 := rfl
            have ed0 : vd = 0 := Int32.toInt_inj.mp (by omega)
            have es0 : vs = 0 := Int32.toInt_inj.mp (by omega)
            subst ed0; subst es0
            have hst : st = .int vn :: .int 0 :: .ref bd :: .int 0 :: .ref bs :: S.map r := by rw [hC.2.2.1, hS]; simp only [List.map_cons]; rw [en, edd, ed, ess, es]
            rw [hst]
            obtain ⟨gd, h1, h2⟩ := hI.1.1 bd _ hYd
            cases h1.symm.trans hg
            obtain ⟨cd, w1, w2, w3, w4, w5, w6⟩ := h2
            obtain ⟨gs, h3, h4⟩ := hI.1.1 bs _ hYs
            cases h3.symm.trans hg
            obtain ⟨cs, v1, v2, v3, v4, v5, v6⟩ := h4
            have w4 : cd.slots.size = n := w4
            have v4 : cs.slots.size = n := v4
            obtain ⟨-, kd1, hkd1, cmd, hkkd⟩ := State.isArrayOf_alike hU w2
            obtain ⟨-, ks1, hks1, cms, hkks⟩ := State.isArrayOf_alike hU v2
            have hcl : vn.toNatClampNeg = vn.toInt.toNat := rfl
            have hvals : ∀ i, i < vn.toNatClampNeg → ∃ x : Int32, cs.slots[i]? = some (.int x) := by
              intro i hi
              have hin : i < cs.slots.size := by rw [v4]; omega
              have h9 := v6 i _ (Array.getElem?_eq_getElem hin)
              have h10 : x_c Y xFull cs.slots[i] := by
                rw [List.getD_eq_getElem?_getD] at h9
                cases hq9 : pre[i]? with
                | none => rw [hq9] at h9; exact x_le_ok c7 h9
                | some w => rw [hq9] at h9; exact x_le_ok (List.all_eq_true.mp c8 w (List.mem_of_getElem? hq9)) h9
              obtain ⟨x, hx9, -⟩ := h10
              exact ⟨x, by rw [Array.getElem?_eq_getElem hin, hx9]⟩
            intro T hT XS
            have hcat := Nat.le_trans (x_ct_ok hC.1 S) c6
            obtain ⟨vm', X', step⟩ := XS.arraycopy hx hown hlink hnat hstat hini (src := bs) (dst := bd) (cs := cs) (cd := cd) (srcPos := 0) (destPos := 0) (n := vn) (by rw [hT]; exact v1) (by rw [hT]; exact w1)
              v2.1 w2.1 v3 w3 hks1 hkd1 hkks hkkd (by simp [refKind]) (by decide) (by decide) (by rw [Int32.lt_iff_toInt_lt]; omega)
              (by rw [v4, z0]; omega) (by rw [w4, z0]; omega)
              (fun vm₁ _ i hi => by
                obtain ⟨x, hx9⟩ := hvals i hi
                have e9 : cs.slots.getD ((0 : Int32).toNatClampNeg + i) .null = .int x := by
                  rw [show (0 : Int32).toNatClampNeg = 0 from rfl, Nat.zero_add, Array.getD_eq_getD_getElem?, hx9]
                  rfl
                rw [e9]
                exact ⟨rfl, trivial⟩)
              (g := F0 m pc ls (.int vn :: .int 0 :: .ref bd :: .int 0 :: .ref bs :: S.map r)) rfl (by rw [hml]; exact hC.2.1.1) (rest := S.map r) rfl (by rw [hb]; exact hd) hfr (by show 2 * 0 + _ + _ ≤ _; omega)
            have hfacts := cd.storeRun_facts (0 : Int32).toNatClampNeg (cs.stretch (0 : Int32).toNatClampNeg vn.toNatClampNeg)
            have hslen : (cs.stretch (0 : Int32).toNatClampNeg vn.toNatClampNeg).length = vn.toNatClampNeg := by simp [Cell.stretch]
            have hget : ∀ (j : Nat) (w : Value), (copied cs cd 0 0 vn).slots[j]? = some w → cs.slots[j]? = some w ∨ cd.slots[j]? = some w := by
              intro j w hj
              have h9 : (copied cs cd 0 0 vn).slots[j]? = _ := cd.storeRun_get (0 : Int32).toNatClampNeg (cs.stretch (0 : Int32).toNatClampNeg vn.toNatClampNeg) j (by rw [hslen, w4, show (0 : Int32).toNatClampNeg = 0 from rfl]; omega)
              rw [h9] at hj
              split at hj
              · next hjj =>
                rw [hslen, show (0 : Int32).toNatClampNeg = 0 from rfl] at hjj
                rw [show (0 : Int32).toNatClampNeg = 0 from rfl] at hj
                have hjn : j < vn.toNatClampNeg := by omega
                obtain ⟨x, hx9⟩ := hvals j hjn
                unfold Cell.stretch at hj
                rw [List.getElem?_map, Nat.sub_zero, List.getElem?_range hjn] at hj
                have e9 : cs.slots.getD (0 + j) .null = w := Option.some.inj hj
                rw [Nat.zero_add, Array.getD_eq_getD_getElem?, hx9] at e9
                left
                rw [hx9, ← e9]
                rfl
              · exact Or.inr hj
            have hbl : bd < H.size := (Array.getElem?_eq_some_iff.mp w1).1
            have hheap : ((T.setVm vm').setCell bd (copied cs cd 0 0 vn)).heap = H.setIfInBounds bd (copied cs cd 0 0 vn) := by rw [← hT]; rfl
            have oq : ∀ q : Nat, q ≠ bd → (H.setIfInBounds bd (copied cs cd 0 0 vn))[q]? = H[q]? := fun q hq => by simp [Array.getElem?_setIfInBounds, Ne.symm hq]
            have hat : (H.setIfInBounds bd (copied cs cd 0 0 vn))[bd]? = some (copied cs cd 0 0 vn) := by simp [Array.getElem?_setIfInBounds, hbl]
            have hH' : x_H D G Zs U Y (H.setIfInBounds bd (copied cs cd 0 0 vn)) := by
              refine hI.1.put hYd oq hg ⟨_, hat, ⟨?_, ?_⟩, ?_, ?_, ?_, fun j w hj => ?_⟩
              · intro k; rw [show (copied cs cd 0 0 vn).vm = cd.vm from hfacts.2.1]; exact w2.1 k
              · rw [show (copied cs cd 0 0 vn).cls = cd.cls from hfacts.1]; exact w2.2
              · rw [show (copied cs cd 0 0 vn).vm = cd.vm from hfacts.2.1]; exact w3
              · show (copied cs cd 0 0 vn).slots.size = n
                rw [show (copied cs cd 0 0 vn).slots.size = cd.slots.size from hfacts.2.2.1]; exact w4
              · intro hr9; rw [show (copied cs cd 0 0 vn).cls = cd.cls from hfacts.1]; exact w5 hr9
              · rcases hget j w hj with h9 | h9
                · exact v6 j w h9
                · exact w6 j w h9
            have hI' := hI.putL (L := (cs.stretch (0 : Int32).toNatClampNeg vn.toNatClampNeg).zipIdx.map fun q => ⟨bd, (0 : Int32).toNatClampNeg + q.2⟩) (fun q hq => by obtain ⟨z, -, rfl⟩ := List.mem_map.mp hq; rfl) hY0 hYd hH' (by simp) oq (fun g hy0 hg2 => by
              cases hg.symm.trans hg2
              intro hn
              rcases hef with h9 | h9
              · obtain ⟨z, y1, y2⟩ := List.any_eq_true.mp h9
                simp only [Bool.and_eq_true, beq_iff_eq] at y2
                exact absurd (by rw [← y2.1, ← y2.2]; exact y1) hn
              · obtain ⟨z, y1, y2⟩ := List.any_eq_true.mp h9
                simp only [beq_iff_eq] at y2
                obtain ⟨b', f1, f2⟩ := hC.2.2.2.2.2.2 z y1
                rw [y2, ed] at f1
                cases f1
                rw [f2] at hy0; cases hy0)
            have hK1 := hs _ List.mem_cons_self Y (H.setIfInBounds bd (copied cs cd 0 0 vn)) _ r ls (S.map r) hI' ⟨hC.1, hC.2.1, rfl, fun f hf => by
              obtain ⟨hfm, hfc⟩ := List.mem_filter.mp hf
              obtain ⟨b', f1, f2⟩ := hC.2.2.2.1 f hfm
              refine ⟨b', f1, ?_⟩
              have hne := x_dj_ok hC.1 hfc f1 ed
              show ((H.setIfInBounds bd (copied cs cd 0 0 vn))[b']?).bind _ = _
              rw [oq b' hne]; exact f2, hC.2.2.2.2⟩
            obtain ⟨tt, a1, b1⟩ := hK1 _ hheap X'
            exact ⟨tt, step tt a1, b1⟩
          · cases h
        · cases h
      · cases h
    · cases h
  · cases h
end XCP
end
section
/-! ONE INSTRUCTION -/
def x_len (i : Instr) : Nat := match i with
  | .bipush _ => 2 | .ldc _ => 2 | .iload _ => 2 | .lload _ => 2 | .aload _ => 2 | .istore _ => 2 | .lstore _ => 2 | .astore _ => 2 | .newarray _ => 2
  | .sipush _ => 3 | .ldc_w _ => 3 | .ldc2_w _ => 3 | .iinc _ _ => 3 | .if_icmp _ _ => 3 | .ifCond _ _ => 3 | .ifnull _ => 3 | .ifnonnull _ => 3 | .goto _ => 3
  | .getfield _ => 3 | .putfield _ => 3 | .getstatic _ => 3 | .invokevirtual _ => 3 | .invokestatic _ => 3 | .invokespecial _ => 3 | .new _ => 3 | .anewarray _ => 3
  | _ => 1
def x_lenF (i : Instr) (n : Nat) : Nat := match i with
  | .tableswitch _ _ _ _ => n
  | i => x_len i
def x_swp (o : Option xB2) : Option xB2 := o.map (fun b => (b.2, b.1))
def x_nz (q : Int × Int) : Bool := decide (0 < q.1) || decide (q.2 < 0)
abbrev xTab : Type := List (Nat × Nat × Nat) × List (Nat × Nat × Nat) × List (Nat × Nat) × List (Nat × Nat) × List (Nat × Nat) × List (Nat × Int) × List (Nat × Int) × List xCl × List Nat × List (Nat × Nat) × List (Nat × Nat)
abbrev tb_pf (T : xTab) := T.1
abbrev tb_pw (T : xTab) := T.2.1
abbrev tb_pn (T : xTab) := T.2.2.1
abbrev tb_pa (T : xTab) := T.2.2.2.1
abbrev tb_ps (T : xTab) := T.2.2.2.2.1
abbrev tb_pk (T : xTab) := T.2.2.2.2.2.1
abbrev tb_pl (T : xTab) := T.2.2.2.2.2.2.1
abbrev tb_cs (T : xTab) := T.2.2.2.2.2.2.2.1
abbrev tb_oi (T : xTab) := T.2.2.2.2.2.2.2.2.1
abbrev tb_ao (T : xTab) := T.2.2.2.2.2.2.2.2.2.1
abbrev tb_ac (T : xTab) := T.2.2.2.2.2.2.2.2.2.2
/-- an int that is known -/
def x_k (a : xS) (pc : Nat) (n : Int) : xN := if -2147483648 ≤ n ∧ n ≤ 2147483647 then some [(pc, x_psh a a.2.2.1 (.inl (n, n)))] else none
def x_kL (a : xS) (pc : Nat) (n : Int) : xN := if -9223372036854775808 ≤ n ∧ n ≤ 9223372036854775807 then some [(pc, x_psh a a.2.2.1 (.inr (.inl (n, n))))] else none
def x_oi (a : xS) (pc : Nat) : xN := match a.2.2.1 with
  | x :: S => (match a.1[x]? with
    | some (.inr (.inr (false, _))) => if x_ct a.1 S ≤ 8 then some [(pc + 3, x_top a S)] else none
    | _ => none)
  | _ => none
def x_gs (a : xS) (pc tag : Nat) : xN := some [(pc + 3, x_psh a a.2.2.1 (.inr (.inr (false, [tag]))))]
def x_stp (nL : Nat) (G : List xG) (ef : List (Nat × Nat)) (T : xTab) (mc ms : Nat) (i : Instr) (pc : Nat) (a : xS) : xN := match i with
  | .iconst n => if -128 ≤ n ∧ n ≤ 127 then x_k a (pc + 1) n else none
  | .bipush n => if -128 ≤ n ∧ n ≤ 127 then x_k a (pc + 2) n else none
  | .sipush n => if -32768 ≤ n ∧ n ≤ 32767 then x_k a (pc + 3) n else none
  | .ldc idx => (match (tb_pk T).find? (fun z => z.1 == idx) with
    | some z => x_k a (pc + 2) z.2
    | none => none)
  | .ldc_w idx => (match (tb_pk T).find? (fun z => z.1 == idx) with
    | some z => x_k a (pc + 3) z.2
    | none => none)
  | .ldc2_w idx => (match (tb_pl T).find? (fun z => z.1 == idx) with
    | some z => x_kL a (pc + 3) z.2
    | none => none)
  | .lconst n => x_kL a (pc + 1) ((n : Nat) : Int)
  | .iload i => x_ld a (pc + 2) i x_isI
  | .iload_n k => x_ld a (pc + 1) (k : Nat) x_isI
  | .lload i => x_ld a (pc + 2) i x_isL
  | .lload_n k => x_ld a (pc + 1) (k : Nat) x_isL
  | .aload i => x_ld a (pc + 2) i x_isR
  | .aload_n k => x_ld a (pc + 1) (k : Nat) x_isR
  | .istore i => x_sto a (pc + 2) i nL x_isI
  | .istore_n k => x_sto a (pc + 1) (k : Nat) nL x_isI
  | .astore i => x_sto a (pc + 2) i nL x_isR
  | .astore_n k => x_sto a (pc + 1) (k : Nat) nL x_isR
  | .lstore i => x_stoL a (pc + 2) i nL
  | .lstore_n k => x_stoL a (pc + 1) (k : Nat) nL
  | .iinc i n => x_iinc a pc i nL n
  | .iadd => x_addS a pc
  | .isub => x_bin a pc (fun u q => some (x_subB u q))
  | .imul => x_bin a pc (fun u q => some (x_mulB u q))
  | .iand => x_bin a pc (fun u q => some (x_andB u q))
  | .ior => x_bin a pc (fun u q => some (x_orB u q))
  | .ixor => x_bin a pc (fun u q => some (x_orB u q))
  | .ishl => x_bin a pc (fun u q => some (x_shlB u q))
  | .ishr => x_bin a pc (fun u q => some (x_shrB u q))
  | .iushr => x_bin a pc (fun _ _ => some x_full)
  | .idiv => x_bin a pc (fun u q => if x_nz q then some (x_divB u q) else none)
  | .irem => x_bin a pc (fun u q => if x_nz q then some (x_remB u q) else none)
  | .ineg => x_un a pc x_negB
  | .i2l => x_i2l a pc
  | .l2i => x_l2i a pc
  | .ladd => x_binL a pc false
  | .lsub => x_binL a pc false
  | .lmul => x_binL a pc false
  | .land => x_binL a pc false
  | .lor => x_binL a pc false
  | .ldiv => x_binL a pc true
  | .lrem => x_binL a pc true
  | .lneg => x_unL a pc
  | .lshl => x_shL a pc
  | .lshr => x_shL a pc
  | .lushr => x_shL a pc
  | .lcmp => x_lcmp a pc
  | .if_icmp .eq off => x_icmp a pc off x_req x_rne
  | .if_icmp .ne off => x_icmp a pc off x_rne x_req
  | .if_icmp .lt off => x_icmp a pc off x_rlt (fun u q => x_swp (x_rle q u))
  | .if_icmp .ge off => x_icmp a pc off (fun u q => x_swp (x_rle q u)) x_rlt
  | .if_icmp .gt off => x_icmp a pc off (fun u q => x_swp (x_rlt q u)) x_rle
  | .if_icmp .le off => x_icmp a pc off x_rle (fun u q => x_swp (x_rlt q u))
  | .ifCond .eq off => x_if0 a pc off x_req x_rne
  | .ifCond .ne off => x_if0 a pc off x_rne x_req
  | .ifCond .lt off => x_if0 a pc off x_rlt (fun u q => x_swp (x_rle q u))
  | .ifCond .ge off => x_if0 a pc off (fun u q => x_swp (x_rle q u)) x_rlt
  | .ifCond .gt off => x_if0 a pc off (fun u q => x_swp (x_rlt q u)) x_rle
  | .ifCond .le off => x_if0 a pc off x_rle (fun u q => x_swp (x_rlt q u))
  | .ifnull off => x_ifn a pc off false
  | .ifnonnull off => x_ifn a pc off true
  | .goto off => (match x_tgt pc off with
    | some t => some [(t, a)]
    | none => none)
  | .tableswitch d lo hi offs => x_sw a pc d lo hi offs
  | .dup => x_dup a pc
  | .dup2 => x_dup2 a pc
  | .pop => x_pop a pc
  | .pop2 => x_pop2 a pc
  | .getfield idx => x_gf G (tb_pf T) a pc idx
  | .putfield idx => x_pf G (tb_pw T) ef a pc idx
  | .getstatic idx => (match (tb_ps T).find? (fun z => z.1 == idx) with
    | some z => x_gs a pc z.2
    | none => none)
  | .iaload => x_ial G a pc (fun t => t == .int)
  | .baload => x_ial G a pc (fun t => t == .boolean || t == .byte)
  | .aaload => x_ial G a pc (fun t => t.isReference)
  | .iastore => x_ias G ef a pc
  | .bastore => x_bas G ef a pc
  | .aastore => x_aas G ef (tb_ao T) a pc
  | .arraylength => x_aln G a pc
  | .new idx => x_newo G (tb_pn T) mc ms a pc idx
  | .newarray _ => x_newa G (tb_pa T) mc ms a pc 2
  | .anewarray _ => x_newa G (tb_pa T) mc ms a pc 3
  | .invokevirtual idx => x_call G ef (tb_cs T) mc ms a pc 0 idx
  | .invokestatic idx => if (tb_ac T).any (fun z => z.1 == idx) then x_acp G ef a pc else x_call G ef (tb_cs T) mc ms a pc 1 idx
  | .invokespecial idx => if (tb_oi T).any (fun z => z == idx) then x_oi a pc else x_call G ef (tb_cs T) mc ms a pc 2 idx
  | _ => none
section XZ
variable {p : Program} {l : Launch} {e : Env} {R : Room} {s : State} {m : MethodId} {args : Array Value} {below : List Frame} {meth : Method} {c : Code} {Q : State → Prop}
variable {D : va_G} {G : List xG} {Zs : List xZ} {U : State} {ef : List (Nat × Nat)} {Y0 : xY} {H0 : Heap} {nL : Nat} {mu : List Value}
variable {cc : ByteArray} {pc : Nat} {a : xS} {sc : List (Nat × xS)} {cl : List vw_C} {Ts : List Cond} {own : String}
variable (p l e R s m args below meth c D G Zs U nL cc cl Ts own) in
/-- the tables of a method's code are right, by the words at hand -/
def x_tok (T : xTab) : Prop :=
  (∀ z ∈ tb_pf T, x_fok cl G Ts s args own z) ∧ (∀ z ∈ tb_pw T, x_pok cl G Ts s args own meth.name z) ∧ (∀ z ∈ tb_pn T, x_nok cl G Ts s args own z) ∧
  (∀ z ∈ tb_pa T, (∀ at_, decode cc z.1 = .ok (.newarray at_, 2) → x_aok G s args at_ z.2) ∧ ∀ idx, decode cc z.1 = .ok (.anewarray idx, 3) → x_rok G s args own idx z.2) ∧
  (∀ z ∈ tb_ps T, ∀ (Q : State → Prop) (H : Heap) (locs : List Loc) (cells slots pc : Nat) (ls : Array Slot) (rest : List Value) (Y : xY), decode cc pc = .ok (.getstatic z.1, 3) → x_H D G Zs U Y H → (∀ b : Nat, Y b = some z.2 → W p l e R s m args below meth c H locs cells slots Q (F0 m (pc + 3) ls (.ref b :: rest))) → W p l e R s m args below meth c H locs cells slots Q (F0 m pc ls rest)) ∧
  (∀ z ∈ tb_pk T, ∃ v : Int32, v.toInt = z.2 ∧ (Cond.constant own z.1 v).before args s = true) ∧ (∀ z ∈ tb_pl T, ∃ v : Int64, v.toInt = z.2 ∧ (Cond.constantLong own z.1 v).before args s = true) ∧
  (∀ z ∈ tb_cs T, x_cok p l e R s m args below meth c D G Zs U nL cc z) ∧
  (∀ z ∈ tb_oi T, (Cond.methodLink own z objectInit).before args s = true ∧ (Cond.instanceMethod objectInit).before args s = true ∧ (Cond.code objectInit ⟨#[0xb1]⟩ 1 none).before args s = true ∧ 1 ≤ R.frames ∧ 20 ≤ R.locals) ∧
  (∀ z ∈ tb_ao T, x_sok cl G s z) ∧
  (∀ z ∈ tb_ac T, (Cond.methodLink own z.1 arraycopyName).before args s = true ∧ (Cond.native arraycopyName).before args s = true ∧ (Cond.static arraycopyName).before args s = true ∧ (Cond.initialized "java/lang/System").before args s = true ∧ 1 ≤ R.frames ∧ nativeFrameWords "java/lang/System" "arraycopy" 5 + 19 ≤ R.locals)
theorem x_swp_ok {o : Option xB2} {x y : Int32} (h : ∃ b : xB2, o = some b ∧ x_b b.1 y ∧ x_b b.2 x) : ∃ b : xB2, x_swp o = some b ∧ x_b b.1 x ∧ x_b b.2 y := by
  obtain ⟨b, h1, h2, h3⟩ := h
  exact ⟨(b.2, b.1), by rw [h1]; rfl, h3, h2⟩
theorem x_lt32 {x y : Int32} : x < y ↔ x.toInt < y.toInt := Int32.lt_iff_toInt_lt
theorem x_le32 {x y : Int32} : x ≤ y ↔ x.toInt ≤ y.toInt := Int32.le_iff_toInt_le
theorem x_b0 : x_b (0, 0) (0 : Int32) := by unfold x_b; decide
theorem x_1st {o : Option xB2} {x y : Int32} (h : ∃ b : xB2, o = some b ∧ x_b b.1 x ∧ x_b b.2 y) : ∃ b : xB2, o = some b ∧ x_b b.1 x := by
  obtain ⟨b, h1, h2, -⟩ := h
  exact ⟨b, h1, h2⟩
theorem x_k_ok {pc' : Nat} {n : Int} {v : Int32} (hw : x_wf a = true) (hv : v.toInt = n) (row : ∀ (H : Heap) (locs : List Loc) (cells slots : Nat) (ls : Array Slot) (rest : List Value), W p l e R s m args below meth c H locs cells slots Q (F0 m pc' ls (.int v :: rest)) → W p l e R s m args below meth c H locs cells slots Q (F0 m pc ls rest))
    (h : x_k a pc' n = some sc) (hs : ∀ q ∈ sc, x_K p l e R s m args below meth c Q D G Zs U ef Y0 H0 nL mu q) : x_K p l e R s m args below meth c Q D G Zs U ef Y0 H0 nL mu (pc, a) := by
  unfold x_k at h
  split at h
  · cases h
    exact x_cst_ok (t := .inl (n, n)) (v := .int v) hw (fun Y => ⟨v, rfl, by show n ≤ _; omega, by show _ ≤ n; omega⟩) row (hs _ List.mem_cons_self)
  · cases h
theorem x_kL_ok {pc' : Nat} {n : Int} {v : Int64} (hw : x_wf a = true) (hv : v.toInt = n) (row : ∀ (H : Heap) (locs : List Loc) (cells slots : Nat) (ls : Array Slot) (rest : List Value), W p l e R s m args below meth c H locs cells slots Q (F0 m pc' ls (.long v :: rest)) → W p l e R s m args below meth c H locs cells slots Q (F0 m pc ls rest))
    (h : x_kL a pc' n = some sc) (hs : ∀ q ∈ sc, x_K p l e R s m args below meth c Q D G Zs U ef Y0 H0 nL mu q) : x_K p l e R s m args below meth c Q D G Zs U ef Y0 H0 nL mu (pc, a) := by
  unfold x_kL at h
  split at h
  · cases h
    exact x_cst_ok (t := .inr (.inl (n, n))) (v := .long v) hw (fun Y => ⟨v, rfl, by show n ≤ _; omega, by show _ ≤ n; omega⟩) row (hs _ List.mem_cons_self)
  · cases h
theorem x_isI_ok {Y : xY} {t : xV} {v : Value} (h : x_isI t = true) (hc : x_c Y t v) : ∃ x : Int32, v = .int x := by
  rcases t with q | q | q
  · obtain ⟨x, e0, -⟩ := hc; exact ⟨x, e0⟩
  · cases h
  · cases h
theorem x_isL_ok {Y : xY} {t : xV} {v : Value} (h : x_isL t = true) (hc : x_c Y t v) : ∃ x : Int64, v = .long x := by
  rcases t with q | q | q
  · cases h
  · obtain ⟨x, e0, -⟩ := hc; exact ⟨x, e0⟩
  · cases h
theorem x_isR_ok {Y : xY} {t : xV} {v : Value} (h : x_isR t = true) (hc : x_c Y t v) : v = .null ∨ ∃ b : Nat, v = .ref b := by
  rcases t with q | q | q
  · cases h
  · cases h
  · rcases hc with ⟨e0, -⟩ | ⟨b, t, e0, -⟩
    · exact Or.inl e0
    · exact Or.inr ⟨b, e0⟩
theorem x_nz_ok {q : Int × Int} {y : Int32} (h : x_nz q = true) (hb : x_b q y) : ¬ y = 0 := by
  intro e0
  subst e0
  simp only [x_nz, Bool.or_eq_true, decide_eq_true_eq] at h
  have a1 := hb.1; have a2 := hb.2
  have z : (0 : Int32).toInt = 0 := rfl
  omega
theorem x_l01 : ∀ n : Fin 2, (Int64.ofNat (n : Nat)).toInt = ((n : Nat) : Int) := by decide
set_option maxHeartbeats 4000000 in
theorem x_stp_ok {T : xTab} {mc ms : Nat} {i : Instr} {len : Nat} (hw : x_wf a = true) (hx : p.tables.exec = Jvm.exec) (hb : c.code = cc) (hml : c.maxLocals = nL) (hts : ∀ w ∈ Ts, w.before args s = true) (hown : s.vm.findClass own = some m.cls) (hK : va_K D cl [] s) (hU : U.vm.Alike s.vm)
    (hY0 : ∀ q u, Y0 q = some u → q < H0.size) (hT : x_tok p l e R s m args below meth c D G Zs U nL cc cl Ts own T) (hmc : mc ≤ R.cells) (hms : ms ≤ R.slots) (hd : decode cc pc = .ok (i, len)) (hlen : len = x_lenF i len)
    (h : x_stp nL G ef T mc ms i pc a = some sc) (hs : ∀ q ∈ sc, x_K p l e R s m args below meth c Q D G Zs U ef Y0 H0 nL mu q) : x_K p l e R s m args below meth c Q D G Zs U ef Y0 H0 nL mu (pc, a) := by
  obtain ⟨tpf, tpw, tpn, tpa, tps, tpk, tpl, tcs, toi, tao, tac⟩ := hT
  cases i <;> first
    | (dsimp only [x_stp] at h; cases h; done)
    | skip
  all_goals first
    | (change len = 1 at hlen; subst hlen)
    | (change len = 2 at hlen; subst hlen)
    | (change len = 3 at hlen; subst hlen)
    | skip
  all_goals dsimp only [x_stp] at h
  case aaload => exact x_ial_ok (i := .aaload) hw hU (fun H locs cells slots ls rest b cell j v et ht h1 h2 h3 h4 h5 k => W.aald hx hb h1 h2 ht h3 h4 h5 rfl rfl hd k) h hs
  case aastore => exact x_aas_ok hx hb hU hK hY0 tao hd h hs
  case aload i =>
    refine x_ld_ok (fun Y H locs cells slots ls rest t v ht hc hl k => ?_) h hs
    rcases x_isR_ok ht hc with e0 | ⟨b, e0⟩
    · rw [e0] at hl k; exact lv_aloadN hx hb hd hl k
    · rw [e0] at hl k; exact lv_aload hx hb hd hl k
  case aload_n i =>
    refine x_ld_ok (fun Y H locs cells slots ls rest t v ht hc hl k => ?_) h hs
    rcases x_isR_ok ht hc with e0 | ⟨b, e0⟩
    · rw [e0] at hl k; exact lv_aload_nN hx hb hd rfl hl k
    · rw [e0] at hl k; exact lv_aload_n hx hb hd rfl hl k
  case anewarray idx => exact x_newr_ok hw hx hb hU hown hY0 (fun z hz he => (tpa z hz).2 idx (by rw [he]; exact hd)) hmc hms hd h hs
  case arraylength => exact x_aln_ok hw hx hb hU hd h hs
  case astore i =>
    refine x_sto_ok (fun Y H locs cells slots ls rest t v lv ht hc hl hn k => ?_) h hs
    rcases x_isR_ok ht hc with e0 | ⟨b, e0⟩
    · subst e0; exact lv_astoreN hx hb hd hl hn rfl k
    · subst e0; exact lv_astore hx hb hd hl hn rfl k
  case astore_n i =>
    refine x_sto_ok (fun Y H locs cells slots ls rest t v lv ht hc hl hn k => ?_) h hs
    rcases x_isR_ok ht hc with e0 | ⟨b, e0⟩
    · subst e0; exact lv_astore_nN hx hb hd rfl hl hn rfl k
    · subst e0; exact lv_astore_n hx hb hd rfl hl hn rfl k
  case baload =>
    refine x_ial_ok (i := .baload) hw hU (fun H locs cells slots ls rest b cell j v et ht h1 h2 h3 h4 h5 k => ?_) h hs
    simp only [Bool.or_eq_true, beq_iff_eq] at ht
    rcases ht with e0 | e0
    · subst e0; exact W.zald hx hb h1 h2 h3 h4 h5 rfl rfl hd k
    · subst e0; exact W.bald hx hb h1 h2 h3 h4 h5 rfl rfl hd k
  case bastore => exact x_bas_ok hx hb hU hY0 hd h hs
  case bipush n =>
    split at h
    · next hn =>
      have ev : ((Int8.ofInt n).toInt32).toInt = n := by
        rw [Int8.toInt_toInt32, Int8.toInt_ofInt]
        show Int.bmod n 256 = n
        exact Int.bmod_eq_of_le (by omega) (by omega)
      exact x_k_ok hw ev (fun H locs cells slots ls rest k => lv_bipush hx hb hd rfl k) h hs
    · cases h
  case dup =>
    unfold x_dup at h
    split at h
    · next x S hS =>
      split at h
      · next hn =>
        cases h
        exact x_stk_ok hS (fun Y H locs cells slots ls r hr k => lv_dup hx hb hd (x_n2_ok hr hn) k) (hs _ List.mem_cons_self)
      · cases h
    · cases h
  case dup2 =>
    unfold x_dup2 at h
    split at h
    · next y x S hS =>
      split at h
      · next hn =>
        cases h
        exact x_stk_ok hS (fun Y H locs cells slots ls r hr k => lv_dup2_11 hx hb hd (x_n2_ok hr hn.2) (x_n2_ok hr hn.1) k) (hs _ List.mem_cons_self)
      · cases h
    · cases h
  case getfield idx => exact x_gf_ok hw hx hb hts hown hK tpf hd h hs
  case getstatic idx =>
    split at h
    · next z hz =>
      have hzm := List.mem_of_find?_eq_some hz
      have hze := List.find?_some hz
      simp only [beq_iff_eq] at hze
      subst hze
      cases h
      intro Y H locs r ls st hI hC
      have hst := hC.2.2.1
      rw [hst]
      refine tps z hzm Q H locs _ _ pc ls _ Y hd hI.1 fun b hb' => ?_
      exact hs _ List.mem_cons_self Y H locs _ ls _ hI (hC.psh hw (x_wf_spec hw).2.1 (Or.inr ⟨b, z.2, rfl, List.mem_cons_self, hb'⟩))
    · cases h
  case goto off =>
    split at h
    · next t ht =>
      cases h
      intro Y H locs r ls st hI hC
      exact lv_goto hx hb hd (x_tgt_ok ht) (hs _ List.mem_cons_self Y H locs r ls st hI hC)
    · cases h
  case i2l => exact x_i2l_ok hw hx hb hd h hs
  case iadd => exact x_addS_ok hw hx hb hd h hs
  case iaload =>
    refine x_ial_ok (i := .iaload) hw hU (fun H locs cells slots ls rest b cell j v et ht h1 h2 h3 h4 h5 k => ?_) h hs
    simp only [beq_iff_eq] at ht
    subst ht
    exact W.iald hx hb h1 h2 h3 h4 h5 rfl rfl hd k
  case iand => exact x_bin_ok hw (fun u q t x y e0 h1 h2 => by cases e0; exact x_and_ok h1 h2) (fun H locs cells slots ls rest x y u q t _ _ _ k => lv_iand hx hb hd k) h hs
  case iastore => exact x_ias_ok hx hb hU hY0 hd h hs
  case iconst n =>
    split at h
    · next hn =>
      have ev : (Int32.ofInt n).toInt = n := by rw [Int32.toInt_ofInt, x_bm (by omega) (by omega)]
      exact x_k_ok hw ev (fun H locs cells slots ls rest k => lv_iconst hx hb hd rfl k) h hs
    · cases h
  case idiv =>
    refine x_bin_ok (g := fun x y => x / y) hw (fun u q t x y e0 h1 h2 => ?_) (fun H locs cells slots ls rest x y u q t e0 _ h2 k => ?_) h hs
    · split at e0
      · cases e0; exact x_div_ok h1 h2
      · cases e0
    · split at e0
      · next hz => exact lv_idiv hx hb hd (x_nz_ok hz h2) k
      · cases e0
  case if_icmp cond off =>
    cases cond <;> dsimp only at h
    · exact x_icmp_ok (P := fun x y => x = y) (fun u q x y h1 h2 hp => x_req_ok h1 h2 (by rw [hp])) (fun u q x y h1 h2 hp => x_rne_ok h1 h2 (fun e0 => hp (Int32.toInt_inj.mp e0))) (fun H locs cells slots ls rest x y tgt ht k1 k2 => lv_icmp_eq hx hb hd ht k1 k2) h hs
    · exact x_icmp_ok (P := fun x y => ¬ x = y) (fun u q x y h1 h2 hp => x_rne_ok h1 h2 (fun e0 => hp (Int32.toInt_inj.mp e0))) (fun u q x y h1 h2 hp => x_req_ok h1 h2 (by rw [Decidable.not_not.mp hp])) (fun H locs cells slots ls rest x y tgt ht k1 k2 => lv_icmp_ne hx hb hd ht k1 (fun e0 => k2 (fun hn => hn e0))) h hs
    · exact x_icmp_ok (P := fun x y => x < y) (fun u q x y h1 h2 hp => x_rlt_ok h1 h2 (x_lt32.mp hp)) (fun u q x y h1 h2 hp => x_swp_ok (x_rle_ok h2 h1 (by rw [x_lt32] at hp; omega))) (fun H locs cells slots ls rest x y tgt ht k1 k2 => lv_icmp_lt hx hb hd ht k1 k2) h hs
    · exact x_icmp_ok (P := fun x y => y ≤ x) (fun u q x y h1 h2 hp => x_swp_ok (x_rle_ok h2 h1 (x_le32.mp hp))) (fun u q x y h1 h2 hp => x_rlt_ok h1 h2 (by rw [x_le32] at hp; omega)) (fun H locs cells slots ls rest x y tgt ht k1 k2 => lv_icmp_ge hx hb hd ht k1 k2) h hs
    · exact x_icmp_ok (P := fun x y => y < x) (fun u q x y h1 h2 hp => x_swp_ok (x_rlt_ok h2 h1 (x_lt32.mp hp))) (fun u q x y h1 h2 hp => x_rle_ok h1 h2 (by rw [x_lt32] at hp; omega)) (fun H locs cells slots ls rest x y tgt ht k1 k2 => lv_icmp_gt hx hb hd ht k1 k2) h hs
    · exact x_icmp_ok (P := fun x y => x ≤ y) (fun u q x y h1 h2 hp => x_rle_ok h1 h2 (x_le32.mp hp)) (fun u q x y h1 h2 hp => x_swp_ok (x_rlt_ok h2 h1 (by rw [x_le32] at hp; omega))) (fun H locs cells slots ls rest x y tgt ht k1 k2 => lv_icmp_le hx hb hd ht k1 k2) h hs
  case ifCond cond off =>
    cases cond <;> dsimp only at h
    · exact x_if0_ok (P := fun x => x = 0) (fun u x h1 hp => x_1st (x_req_ok h1 x_b0 (by rw [hp]))) (fun u x h1 hp => x_1st (x_rne_ok h1 x_b0 (fun e0 => hp (Int32.toInt_inj.mp e0)))) (fun H locs cells slots ls rest x tgt ht k1 k2 => lv_if_eq hx hb hd ht k1 k2) h hs
    · exact x_if0_ok (P := fun x => ¬ x = 0) (fun u x h1 hp => x_1st (x_rne_ok h1 x_b0 (fun e0 => hp (Int32.toInt_inj.mp e0)))) (fun u x h1 hp => x_1st (x_req_ok h1 x_b0 (by rw [Decidable.not_not.mp hp]))) (fun H locs cells slots ls rest x tgt ht k1 k2 => lv_if_ne hx hb hd ht k1 (fun e0 => k2 (fun hn => hn e0))) h hs
    · exact x_if0_ok (P := fun x => x < 0) (fun u x h1 hp => x_1st (x_rlt_ok h1 x_b0 (x_lt32.mp hp))) (fun u x h1 hp => x_1st (x_swp_ok (x_rle_ok x_b0 h1 (by rw [x_lt32] at hp; omega)))) (fun H locs cells slots ls rest x tgt ht k1 k2 => lv_if_lt hx hb hd ht k1 k2) h hs
    · exact x_if0_ok (P := fun x => 0 ≤ x) (fun u x h1 hp => x_1st (x_swp_ok (x_rle_ok x_b0 h1 (x_le32.mp hp)))) (fun u x h1 hp => x_1st (x_rlt_ok h1 x_b0 (by rw [x_le32] at hp; omega))) (fun H locs cells slots ls rest x tgt ht k1 k2 => lv_if_ge hx hb hd ht k1 k2) h hs
    · exact x_if0_ok (P := fun x => 0 < x) (fun u x h1 hp => x_1st (x_swp_ok (x_rlt_ok x_b0 h1 (x_lt32.mp hp)))) (fun u x h1 hp => x_1st (x_rle_ok h1 x_b0 (by rw [x_lt32] at hp; omega))) (fun H locs cells slots ls rest x tgt ht k1 k2 => lv_if_gt hx hb hd ht k1 k2) h hs
    · exact x_if0_ok (P := fun x => x ≤ 0) (fun u x h1 hp => x_1st (x_rle_ok h1 x_b0 (x_le32.mp hp))) (fun u x h1 hp => x_1st (x_swp_ok (x_rlt_ok x_b0 h1 (by rw [x_le32] at hp; omega)))) (fun H locs cells slots ls rest x tgt ht k1 k2 => lv_if_le hx hb hd ht k1 k2) h hs
  case ifnonnull off => exact x_ifn_ok (non := true) (fun H locs cells slots ls rest b tgt ht k => lv_ifnonnull hx hb hd ht k) (fun H locs cells slots ls rest tgt ht k => lv_ifnonnullN hx hb hd k) h hs
  case ifnull off => exact x_ifn_ok (non := false) (fun H locs cells slots ls rest b tgt ht k => lv_ifnull hx hb hd k) (fun H locs cells slots ls rest tgt ht k => lv_ifnullN hx hb hd ht k) h hs
  case iinc i n => exact x_iinc_ok hw hx hb hd h hs
  case iload i =>
    refine x_ld_ok (fun Y H locs cells slots ls rest t v ht hc hl k => ?_) h hs
    obtain ⟨x, e0⟩ := x_isI_ok ht hc
    rw [e0] at hl k; exact lv_iload hx hb hd hl k
  case iload_n i =>
    refine x_ld_ok (fun Y H locs cells slots ls rest t v ht hc hl k => ?_) h hs
    obtain ⟨x, e0⟩ := x_isI_ok ht hc
    rw [e0] at hl k; exact lv_iload_n hx hb hd rfl hl k
  case imul => exact x_bin_ok hw (fun u q t x y e0 h1 h2 => by cases e0; exact x_mul_ok h1 h2) (fun H locs cells slots ls rest x y u q t _ _ _ k => lv_imul hx hb hd k) h hs
  case ineg => exact x_un_ok hw (fun u x h1 => x_neg_ok h1) (fun H locs cells slots ls rest x k => lv_ineg hx hb hd k) h hs
  case invokespecial idx =>
    split at h
    · next hoi =>
      obtain ⟨z, hz, hze⟩ := List.any_eq_true.mp hoi
      simp only [beq_iff_eq] at hze
      subst hze
      obtain ⟨o1, o2, o3, o4, o5⟩ := toi z hz
      unfold x_oi at h
      split at h
      · next x S hS =>
        split at h
        · next ts hts' =>
          split at h
          · next hct =>
            cases h
            intro Y H locs r ls st hI hC
            obtain ⟨b, t, eb, -, -⟩ := x_ref_at (hC.1 x _ hts') rfl
            have hst : st = .ref b :: S.map r := by rw [hC.2.2.1, hS, List.map_cons, eb]
            rw [hst]
            have hcat := Nat.le_trans (x_ct_ok hC.1 S) hct
            refine W.objInit hx hb hown o1 o2 o3 rfl (by rw [hml]; exact hC.2.1.1) rfl hd o4 (by show 2 * 0 + _ + 12 ≤ _; omega) ?_
            exact hs _ List.mem_cons_self Y H locs r ls _ hI (hC.stk S)
          · cases h
        · cases h
      · cases h
    · exact x_call_ok (kind := 2) hw hY0 tcs hd hmc hms h hs
  case invokestatic idx =>
    split at h
    · next hac =>
      obtain ⟨z, hz, hze⟩ := List.any_eq_true.mp hac
      simp only [beq_iff_eq] at hze
      subst hze
      obtain ⟨o1, o2, o3, o4, o5, o6⟩ := tac z hz
      exact x_acp_ok hx hb hml hown hU hY0 o1 o2 o3 o4 o5 o6 hd h hs
    · exact x_call_ok (kind := 1) hw hY0 tcs hd hmc hms h hs
  case invokevirtual idx => exact x_call_ok (kind := 0) hw hY0 tcs hd hmc hms h hs
  case ior => exact x_bin_ok hw (fun u q t x y e0 h1 h2 => by cases e0; exact x_or_ok h1 h2) (fun H locs cells slots ls rest x y u q t _ _ _ k => lv_ior hx hb hd k) h hs
  case irem =>
    refine x_bin_ok (g := fun x y => x - x / y * y) hw (fun u q t x y e0 h1 h2 => ?_) (fun H locs cells slots ls rest x y u q t e0 _ h2 k => ?_) h hs
    · split at e0
      · cases e0; exact x_rem_ok h1 h2
      · cases e0
    · split at e0
      · next hz => exact lv_irem hx hb hd (x_nz_ok hz h2) k
      · cases e0
  case ishl => exact x_bin_ok hw (fun u q t x y e0 h1 h2 => by cases e0; exact x_shl_ok h1 h2) (fun H locs cells slots ls rest x y u q t _ _ _ k => lv_ishl hx hb hd k) h hs
  case ishr => exact x_bin_ok hw (fun u q t x y e0 h1 h2 => by cases e0; exact x_shr_ok h1 h2) (fun H locs cells slots ls rest x y u q t _ _ _ k => lv_ishr hx hb hd k) h hs
  case istore i =>
    refine x_sto_ok (fun Y H locs cells slots ls rest t v lv ht hc hl hn k => ?_) h hs
    obtain ⟨x, e0⟩ := x_isI_ok ht hc
    subst e0; exact lv_istore hx hb hd hl hn rfl k
  case istore_n i =>
    refine x_sto_ok (fun Y H locs cells slots ls rest t v lv ht hc hl hn k => ?_) h hs
    obtain ⟨x, e0⟩ := x_isI_ok ht hc
    subst e0; exact lv_istore_n hx hb hd rfl hl hn rfl k
  case isub => exact x_bin_ok hw (fun u q t x y e0 h1 h2 => by cases e0; exact x_sub_ok h1 h2) (fun H locs cells slots ls rest x y u q t _ _ _ k => lv_isub hx hb hd k) h hs
  case iushr => exact x_bin_ok hw (fun u q t x y e0 h1 h2 => by cases e0; exact x_fullb _) (fun H locs cells slots ls rest x y u q t _ _ _ k => lv_iushr hx hb hd rfl k) h hs
  case ixor => exact x_bin_ok hw (fun u q t x y e0 h1 h2 => by cases e0; exact x_xor_ok h1 h2) (fun H locs cells slots ls rest x y u q t _ _ _ k => lv_ixor hx hb hd k) h hs
  case l2i => exact x_l2i_ok hw hx hb hd h hs
  case ladd => exact x_binL_ok hw (fun H locs cells slots ls rest x y _ k => lv_ladd hx hb hd k) h hs
  case land => exact x_binL_ok hw (fun H locs cells slots ls rest x y _ k => lv_land hx hb hd k) h hs
  case lcmp => exact x_lcmp_ok hw hx hb hd h hs
  case lconst n =>
    have ev : (Int64.ofNat (n : Nat)).toInt = ((n : Nat) : Int) := x_l01 n
    exact x_kL_ok hw ev (fun H locs cells slots ls rest k => lv_lconst hx hb hd rfl k) h hs
  case ldc idx =>
    split at h
    · next z hz =>
      have hzm := List.mem_of_find?_eq_some hz
      have hze := List.find?_some hz
      simp only [beq_iff_eq] at hze
      subst hze
      obtain ⟨v, e0, hk⟩ := tpk z hzm
      exact x_k_ok hw e0 (fun H locs cells slots ls rest k => lv_ldc hx hb hown hk hd k) h hs
    · cases h
  case ldc_w idx =>
    split at h
    · next z hz =>
      have hzm := List.mem_of_find?_eq_some hz
      have hze := List.find?_some hz
      simp only [beq_iff_eq] at hze
      subst hze
      obtain ⟨v, e0, hk⟩ := tpk z hzm
      exact x_k_ok hw e0 (fun H locs cells slots ls rest k => lv_ldcw hx hb hown hk hd k) h hs
    · cases h
  case ldc2_w idx =>
    split at h
    · next z hz =>
      have hzm := List.mem_of_find?_eq_some hz
      have hze := List.find?_some hz
      simp only [beq_iff_eq] at hze
      subst hze
      obtain ⟨v, e0, hk⟩ := tpl z hzm
      exact x_kL_ok hw e0 (fun H locs cells slots ls rest k => lv_ldc2 hx hb hown hk hd k) h hs
    · cases h
  case ldiv => exact x_binL_ok hw (fun H locs cells slots ls rest x y hz k => lv_ldiv hx hb hd (hz rfl) k) h hs
  case lload i =>
    refine x_ld_ok (fun Y H locs cells slots ls rest t v ht hc hl k => ?_) h hs
    obtain ⟨x, e0⟩ := x_isL_ok ht hc
    rw [e0] at hl k; exact lv_lload hx hb hd hl k
  case lload_n i =>
    refine x_ld_ok (fun Y H locs cells slots ls rest t v ht hc hl k => ?_) h hs
    obtain ⟨x, e0⟩ := x_isL_ok ht hc
    rw [e0] at hl k; exact lv_lload_n hx hb hd rfl hl k
  case lmul => exact x_binL_ok hw (fun H locs cells slots ls rest x y _ k => lv_lmul hx hb hd k) h hs
  case lneg => exact x_unL_ok hw (fun H locs cells slots ls rest x k => lv_lneg hx hb hd k) h hs
  case lor => exact x_binL_ok hw (fun H locs cells slots ls rest x y _ k => lv_lor hx hb hd k) h hs
  case lrem => exact x_binL_ok hw (fun H locs cells slots ls rest x y hz k => lv_lrem hx hb hd (hz rfl) k) h hs
  case lshl => exact x_shL_ok hw (fun H locs cells slots ls rest x y k => lv_lshl hx hb hd rfl k) h hs
  case lshr => exact x_shL_ok hw (fun H locs cells slots ls rest x y k => lv_lshr hx hb hd rfl k) h hs
  case lstore i => exact x_stoL_ok (fun H locs cells slots ls rest v lv hl hn k => lv_lstore hx hb hd hl hn rfl k) h hs
  case lstore_n i => exact x_stoL_ok (fun H locs cells slots ls rest v lv hl hn k => lv_lstore_n hx hb hd rfl hl hn rfl k) h hs
  case lsub => exact x_binL_ok hw (fun H locs cells slots ls rest x y _ k => lv_lsub hx hb hd k) h hs
  case lushr => exact x_shL_ok hw (fun H locs cells slots ls rest x y k => lv_lushr hx hb hd rfl k) h hs
  case new idx => exact x_newo_ok hw hx hb hts hown hK hY0 tpn hmc hms hd h hs
  case newarray at_ => exact x_newa_ok hw hx hb hU hY0 (fun z hz he => (tpa z hz).1 at_ (by rw [he]; exact hd)) hmc hms hd h hs
  case pop =>
    unfold x_pop at h
    split at h
    · next x S hS =>
      split at h
      · next hn =>
        cases h
        exact x_stk_ok hS (fun Y H locs cells slots ls r hr k => lv_pop hx hb hd (x_n2_ok hr hn) k) (hs _ List.mem_cons_self)
      · cases h
    · cases h
  case pop2 =>
    unfold x_pop2 at h
    split at h
    · next x S hS =>
      split at h
      · next u hu =>
        cases h
        refine x_stk_ok hS (fun Y H locs cells slots ls r hr k => ?_) (hs _ List.mem_cons_self)
        obtain ⟨v, e0, -⟩ := hr x _ hu
        refine lv_pop2_2 hx hb hd ?_ k
        rw [e0]; rfl
      · cases h
    · cases h
  case putfield idx => exact x_pf_ok hx hb hts hown hK hY0 tpw hd h hs
  case sipush n =>
    split at h
    · next hn =>
      have ev : ((Int16.ofInt n).toInt32).toInt = n := by
        rw [Int16.toInt_toInt32, Int16.toInt_ofInt]
        show Int.bmod n 65536 = n
        exact Int.bmod_eq_of_le (by omega) (by omega)
      exact x_k_ok hw ev (fun H locs cells slots ls rest k => lv_sipush hx hb hd rfl k) h hs
    · cases h
  case tableswitch d lo hi offs => exact x_sw_ok hx hb hd h hs
end XZ
end
section
/-! THE CHECKER: a method's code from its start, path by path; loops by what their heads keep and a number that goes one way -/
abbrev xIv : Type := List (Nat × xV) × List xV × List (Nat × Nat × Nat × xV)
abbrev xLb : Type := Nat × xIv × (Nat × Bool) × List Nat × Nat × Nat × List (Nat × Nat)
abbrev xAn : Type := Nat × xIv × (Nat × Bool) × List Nat × Bool × Nat × List (Nat × Nat)
/-- a field of an object in a local gets a number, though nothing reads it -/
def x_gst (G : List xG) (a : xS) (z : Nat × Nat) : Option xS := if x_wf a then (match a.2.1.find? (fun q => q.1 == z.1) with
  | some q => (match a.1[q.2]? with
    | some (.inr (.inr (false, [t]))) => (match G[t]? with
      | some (.inl o) => if o.1 = 1000 then none else (match a.2.2.2.1.find? (fun f => f.1 == q.2 && (f.2.1 == o.1 && f.2.2.1 == z.2)) with
        | some _ => some a
        | none => (match o.2[z.2]? with
          | some ft => some (a.1 ++ [ft], a.2.1, a.2.2.1, (q.2, o.1, z.2, a.1.length) :: a.2.2.2.1, a.2.2.2.2)
          | none => none))
      | _ => none)
    | _ => none)
  | none => none) else none
def x_gsts (G : List xG) : List (Nat × Nat) → xS → Option xS
  | [], a => some a
  | z :: zs, a => match x_gst G a z with
    | some b => x_gsts G zs b
    | none => none
def x_vs (v : xIv) : List xV := v.1.map (fun q => q.2) ++ (v.2.1 ++ v.2.2.map (fun q => q.2.2.2))
def x_can (v : xIv) (tr : List Nat) (cells slots : Nat) : xS := (x_vs v, v.1.zipIdx.map (fun q => (q.1.1, q.2)), (List.range v.2.1.length).map (fun k => k + v.1.length), v.2.2.zipIdx.map (fun q => (q.1.1, q.1.2.1, q.1.2.2.1, v.1.length + v.2.1.length + q.2)), [], tr, [], cells, slots)
def x_sig (a : xS) (v : xIv) : Option (List Nat) := match x_all (fun (q : Nat × xV) => (a.2.1.find? (fun z => z.1 == q.1)).map (fun z => z.2)) v.1 with
  | some A => (match x_all (fun (q : Nat × Nat × Nat × xV) => ((A ++ a.2.2.1)[q.1]?).bind (fun o => (a.2.2.2.1.find? (fun f => f.1 == o && (f.2.1 == q.2.1 && f.2.2.1 == q.2.2.1))).map (fun f => f.2.2.2))) v.2.2 with
    | some B => some (A ++ (a.2.2.1 ++ B))
    | none => none)
  | none => none
/-- state b says less than state a, by the numbers g of b's values in a -/
def x_ent (a b : xS) (g : List Nat) : Bool :=
  x_fitA a.1 g b.1 && (b.2.1.all (fun q => match g[q.2]? with
    | some k => a.2.1.any (fun z => z.1 == q.1 && z.2 == k)
    | none => false) && (b.2.2.1.map (fun k => g[k]?) == a.2.2.1.map some && (b.2.2.2.1.all (fun f => match g[f.1]?, g[f.2.2.2]? with
    | some o, some v => a.2.2.2.1.any (fun z => z.1 == o && (z.2.1 == f.2.1 && (z.2.2.1 == f.2.2.1 && z.2.2.2 == v)))
    | _, _ => false) && (b.2.2.2.2.1.isEmpty && b.2.2.2.2.2.2.1.isEmpty))))
theorem x_ent_ok {D : va_G} {Y0 Y : xY} {nL : Nat} {mu mu' : List Value} {H : Heap} {a b : xS} {r : Nat → Value} {ls : Array Slot} {st : List Value} {g : List Nat} (h : x_ent a b g = true) (hC : x_C D Y0 nL mu Y H a r ls st)
    (hm : b.2.2.2.2.2.1.map (fun k => r (g.getD k 0)) = mu') : x_C D Y0 nL mu' Y H b (fun k => r (g.getD k 0)) ls st := by
  unfold x_ent at h
  simp only [Bool.and_eq_true, List.all_eq_true, beq_iff_eq, List.isEmpty_iff] at h
  obtain ⟨h1, h2, h3, h4, h5, h6⟩ := h
  obtain ⟨f1, f2⟩ := x_fitA_ok hC.1 h1
  have hgd : ∀ k j, g[k]? = some j → g.getD k 0 = j := fun k j hk => by rw [List.getD_eq_getElem?_getD, hk]; rfl
  refine ⟨fun k t hk => ?_, hC.2.1.less fun q hq => ?_, ?_, fun f hf => ?_, fun d hd => (by rw [h5] at hd; cases hd), hm, fun k hk => (by rw [h6] at hk; cases hk)⟩
  · have hkl : k < b.1.length := (List.getElem?_eq_some_iff.mp hk).1
    have hgl : k < g.length := by
      have := f1.1
      rw [List.length_map] at this
      omega
    have hg := List.getElem?_eq_getElem hgl
    refine f1.2 k t _ hk ?_
    rw [List.getElem?_map, hg]
    show some (r g[k]) = some (r (g.getD k 0))
    rw [hgd k _ hg]
  · obtain ⟨z, hz, rfl⟩ := List.mem_map.mp hq
    have h7 := h2 z hz
    split at h7
    · next k hk =>
      obtain ⟨y, hy, he⟩ := List.any_eq_true.mp h7
      simp only [Bool.and_eq_true, beq_iff_eq] at he
      refine List.mem_map.mpr ⟨y, hy, ?_⟩
      dsimp only
      rw [he.1, he.2, hgd _ _ hk]
    · cases h7
  · rw [hC.2.2.1]
    have h8 : (b.2.2.1.map (fun k => g[k]?)).map (fun o => r (o.getD 0)) = (a.2.2.1.map some).map (fun o => r (o.getD 0)) := by rw [h3]
    rw [List.map_map, List.map_map] at h8
    have e1 : b.2.2.1.map (fun k => r (g.getD k 0)) = b.2.2.1.map ((fun o => r (Option.getD o 0)) ∘ fun k => g[k]?) := List.map_congr_left fun k _ => by
      show r (g.getD k 0) = r ((g[k]?).getD 0)
      rw [List.getD_eq_getElem?_getD]
    rw [e1, h8]
    exact List.map_congr_left fun k _ => rfl
  · have h7 := h4 f hf
    split at h7
    · next o v ho hv =>
      obtain ⟨z, hz, he⟩ := List.any_eq_true.mp h7
      simp only [Bool.and_eq_true, beq_iff_eq] at he
      obtain ⟨e1, e2, e3, e4⟩ := he
      obtain ⟨bb, b1, b2⟩ := hC.2.2.2.1 z hz
      refine ⟨bb, ?_, ?_⟩
      · show r (g.getD f.1 0) = _
        rw [hgd _ _ ho, ← e1]; exact b1
      · show x_fv D f.2.1 f.2.2.1 bb H = some (r (g.getD f.2.2.2 0))
        rw [hgd _ _ hv, ← e2, ← e3, ← e4]; exact b2
    · cases h7
def x_trk (g tp tr : List Nat) : Bool := tp.map (fun k => g[k]?) == tr.map some
theorem x_trk_ok {r : Nat → Value} {g tp tr : List Nat} (h : x_trk g tp tr = true) : tp.map (fun k => r (g.getD k 0)) = tr.map r := by
  unfold x_trk at h
  rw [beq_iff_eq] at h
  have h8 : (tp.map (fun k => g[k]?)).map (fun o => r (o.getD 0)) = (tr.map some).map (fun o => r (o.getD 0)) := by rw [h]
  rw [List.map_map, List.map_map] at h8
  have e1 : tp.map (fun k => r (g.getD k 0)) = tp.map ((fun o => r (Option.getD o 0)) ∘ fun k => g[k]?) := List.map_congr_left fun k _ => by
    show r (g.getD k 0) = r ((g[k]?).getD 0)
    rw [List.getD_eq_getElem?_getD]
  rw [e1, h8]
  exact List.map_congr_left fun k _ => rfl
def x_back (E : xLb) (a : xS) : Bool := match x_sig a E.2.1, a.2.2.2.2.2.1.drop (a.2.2.2.2.2.1.length - (E.2.2.2.1.length + 1)) with
  | some g, t0 :: rest => (x_ent a (x_can E.2.1 (E.2.2.1.1 :: E.2.2.2.1) E.2.2.2.2.1 E.2.2.2.2.2.1) g && (x_trk g E.2.2.2.1 rest && (Nat.ble (x_cells a) E.2.2.2.2.1 && Nat.ble (x_slots a) E.2.2.2.2.2.1))) &&
      (match g[E.2.2.1.1]?, (x_vs E.2.1)[E.2.2.1.1]? with
        | some k, some (.inl _) => a.2.2.2.2.1.any (fun q => q.1 == k && (q.2.1 == t0 && (if E.2.2.1.2 then decide (1 ≤ q.2.2) else decide (q.2.2 ≤ -1)))) && Nat.beq rest.length E.2.2.2.1.length
        | _, _ => false)
  | _, _ => false
def x_cut {α : Type} (k : Bool) (l : List α) (na : Nat) : List α := if k then l else l.take (l.length - na)
/-- what the machine does at a place: nothing more to look at; or these labels, this state, and whether the method's own values are still known -/
def x_lab (G : List xG) (an : List xAn) (na : Nat) (L : List xLb) (top : Bool) (pc : Nat) (a : xS) : Option (Option (List xLb × Bool × xS)) := match L.find? (fun E => E.1 == pc) with
  | some E => (match x_gsts G E.2.2.2.2.2.2 a with
    | some a' => if x_back E a' then some none else none
    | none => none)
  | none => (match an.find? (fun A => A.1 == pc) with
    | some A => (match x_gsts G A.2.2.2.2.2.2 a with
      | some a' => (match x_sig a' A.2.1 with
        | some g => (let k := L.length - A.2.2.2.2.2.1
          let b := x_can A.2.1 (A.2.2.1.1 :: A.2.2.2.1) (x_cells a') (x_slots a')
          if (x_ent a' b g && (x_trk g A.2.2.2.1 (x_cut (A.2.2.2.2.1 || !top) (a'.2.2.2.2.2.1.drop k) na) && (((A.2.2.2.2.1 || !top) || (L.drop k).isEmpty) && ((L.drop k).all (fun E => Nat.ble (E.2.2.2.1.length + 1 + k) a'.2.2.2.2.2.1.length) && (!top || Nat.ble (k + na) a'.2.2.2.2.2.1.length))))) = true ∧ x_wf b = true then (match (x_vs A.2.1)[A.2.2.1.1]? with
            | some (.inl _) => some (some ((pc, A.2.1, A.2.2.1, A.2.2.2.1, x_cells a', x_slots a', A.2.2.2.2.2.2) :: L.drop k, top && A.2.2.2.2.1, b))
            | _ => none) else none)
        | none => none)
      | none => none)
    | none => some (some (L, top, a)))
/-- a value of a local, case by case -/
def x_spl (sp : List (Nat × Nat)) (pc : Nat) (a : xS) : Option (Nat × (Int × Int)) := match sp.find? (fun z => z.1 == pc) with
  | some z => (match a.2.1.find? (fun q => q.1 == z.2) with
    | some q => (match a.1[q.2]? with
      | some (.inl u) => if u.1 < u.2 ∧ u.2 - u.1 ≤ 200 then some (q.2, u) else none
      | _ => none)
    | none => none)
  | none => none
def x_nar (ty : FieldType) (u : Int × Int) : Bool := match ty with
  | .int => true
  | .boolean => decide (0 ≤ u.1) && decide (u.2 ≤ 1)
  | .byte => decide (-128 ≤ u.1) && decide (u.2 ≤ 127)
  | .char => decide (0 ≤ u.1) && decide (u.2 ≤ 65535)
  | _ => false
def x_ina (as : List xV) (o : List xV) : Bool := match as, o with
  | [], [] => true
  | t :: ts, u :: us => x_le t u && x_ina ts us
  | _, _ => false
def x_aok1 (M : xM) (top : Bool) (a : xS) (o : List xV) : Bool := x_ina (x_args M) o || (top && x_fitA a.1 (a.2.2.2.2.2.1.drop (a.2.2.2.2.2.1.length - (x_args M).length)) o)
def x_nrT (raw : Nat) (t : xV) : Bool := match t with
  | .inr (.inr q) => q.2.all (fun u => !(u == raw))
  | _ => true
def x_nrG (G : List xG) (raw : Nat) : Bool := G.all (fun g => match g with
  | .inl o => o.2.all (x_nrT raw)
  | .inr q => q.2.2.1.all (x_nrT raw) && x_nrT raw q.2.2.2)
/-- a constructor's end: its object has all that its tag asks -/
def x_rtc (G : List xG) (Zs : List xZ) (M : xM) (t' : Nat) (top : Bool) (a : xS) : Bool := top && (match a.2.2.2.2.2.1.drop (a.2.2.2.2.2.1.length - (x_args M).length) with
  | k0 :: _ => (match a.1[k0]?, G[t']? with
    | some (.inr (.inr (false, [raw]))), some (.inl o) => (match G[raw]? with
      | some (.inl o0) => (o.1 == o0.1 && !(o.1 == 1000)) && (Nat.beq o.2.length o0.2.length && (x_nrG G raw && (Zs.all (fun z => !(z.2.2.2 == raw)) && ((List.range o.2.length).all (fun k => match o.2[k]? with
          | some ft => (match a.2.2.2.1.find? (fun f => f.1 == k0 && (f.2.1 == o.1 && f.2.2.1 == k)) with
            | some f => (match a.1[f.2.2.2]? with
              | some tv => x_le tv ft && x_nrT raw tv
              | none => false)
            | none => (match o0.2[k]? with
              | some f0 => x_le f0 ft && x_nrT raw f0
              | none => false))
          | none => false) && (x_outs M).any (fun q => q.2.isNone && (match q.1 with
            | u :: us => x_le (.inr (.inr (false, [t']))) u && (x_ina ((x_args M).drop 1) us && us.all (x_nrT raw))
            | [] => false))))))
      | _ => false)
    | _, _ => false)
  | [] => false)
def x_isRet (i : Instr) : Bool := match i with
  | .ireturn => true | .lreturn => true | .areturn => true | .return_ => true
  | _ => false
def x_rck (G : List xG) (Zs : List xZ) (M : xM) (i : Instr) (top : Bool) (a : xS) : Bool := (Nat.ble (x_cells a) (x_rm M).cells && Nat.ble (x_slots a) (x_rm M).slots) && (match x_rt M with
  | some t' => (match i, a.2.2.1, M.2.2.2.1 with
    | .return_, [], none => x_rtc G Zs M t' top a
    | _, _, _ => false)
  | none => (match i, a.2.2.1, M.2.2.2.1 with
    | .ireturn, [x], some ty => (match a.1[x]? with
      | some (.inl u) => x_nar ty u && (x_outs M).any (fun o => (match o.2 with
        | some t => x_le (.inl u) t
        | none => false) && x_aok1 M top a o.1)
      | _ => false)
    | .lreturn, [x], some .long => (match a.1[x]? with
      | some (.inr (.inl u)) => (x_outs M).any (fun o => (match o.2 with
        | some t => x_le (.inr (.inl u)) t
        | none => false) && x_aok1 M top a o.1)
      | _ => false)
    | .areturn, [x], some ty => (match a.1[x]? with
      | some (.inr (.inr u)) => ty.isReference && (x_outs M).any (fun o => (match o.2 with
        | some t => x_le (.inr (.inr u)) t
        | none => false) && x_aok1 M top a o.1)
      | _ => false)
    | .return_, [], none => (x_outs M).any (fun o => o.2.isNone && x_aok1 M top a o.1)
    | _, _, _ => false))
def x_go (G : List xG) (Zs : List xZ) (T : xTab) (M : xM) (top : Bool) (pc : Nat) (a : xS) (f : Nat × xS → Bool) : Bool := match decode M.2.1 pc with
  | .ok (i, len) => if Nat.beq len (x_lenF i len) then (if x_isRet i then x_rck G Zs M i top a else (match x_stp M.2.2.1 G (x_efs M) T (x_rm M).cells (x_rm M).slots i pc a with
      | some sc => sc.all f
      | none => false)) else false
  | _ => false
def x_ex (G : List xG) (Zs : List xZ) (T : xTab) (M : xM) (an : List xAn) (sp : List (Nat × Nat)) : Nat → List xLb → Bool → Nat × xS → Bool
  | 0, _, _, _ => false
  | n + 1, L, top, q => if x_wf q.2 then (match x_spl sp q.1 q.2 with
    | some z => (List.range ((z.2.2 - z.2.1).toNat + 1)).all (fun k => x_ex G Zs T M an sp n L top (q.1, (q.2.1.set z.1 (.inl (z.2.1 + k, z.2.1 + k)), q.2.2)))
    | none => (match x_lab G an (x_args M).length L top q.1 q.2 with
      | some none => true
      | some (some z) => x_go G Zs T M z.2.1 q.1 z.2.2 (x_ex G Zs T M an sp n z.1 z.2.1)
      | none => false)) else false
def x_al : Nat → Nat → List xV → List (Nat × Nat)
  | _, _, [] => []
  | i, k, t :: ts => (i, k) :: x_al (if x_isL t then i + 2 else i + 1) (k + 1) ts
def x_0 (M : xM) : xS := (x_args M, x_al 0 0 (x_args M), [], [], [], List.range (x_args M).length, [], 0, 0)
end
section
section XO
variable {p : Program} {l : Launch} {e : Env} {R : Room} {s : State} {m : MethodId} {args : Array Value} {below : List Frame} {meth : Method} {c : Code} {Q : State → Prop}
variable {D : va_G} {G : List xG} {Zs : List xZ} {U : State} {ef : List (Nat × Nat)} {Y0 : xY} {H0 : Heap} {nL : Nat} {mu : List Value}
/-- a loop's head may be reached again, with its number gone on -/
def x_prog (up : Bool) (z z' : Int32) : Prop := if up then z.toInt < z'.toInt else z'.toInt < z.toInt
variable (p l e R s m args below meth c Q D G Zs U ef Y0 H0 nL) in
def x_LOK (mu : List Value) (E : xLb) : Prop := ∃ (pre : List Value) (z : Int32) (mus : List Value), mu = pre ++ (.int z :: mus) ∧ mus.length = E.2.2.2.1.length ∧
  ∀ z' : Int32, x_prog E.2.2.1.2 z z' → x_K p l e R s m args below meth c Q D G Zs U ef Y0 H0 nL (.int z' :: mus) (E.1, x_can E.2.1 (E.2.2.1.1 :: E.2.2.2.1) E.2.2.2.2.1 E.2.2.2.2.2.1)
theorem x_back_ok {E : xLb} {a : xS} (hE : x_LOK p l e R s m args below meth c Q D G Zs U ef Y0 H0 nL mu E) (h : x_back E a = true) : x_K p l e R s m args below meth c Q D G Zs U ef Y0 H0 nL mu (E.1, a) := by
  intro Y H locs r ls st hI hC
  obtain ⟨pre, z, mus, e1, e2, hk⟩ := hE
  unfold x_back at h
  split at h
  · next g t0 rest hg hdr =>
    simp only [Bool.and_eq_true] at h
    obtain ⟨⟨h1, h2, h3, h4⟩, h5⟩ := h
    split at h5
    · next k u hgk hvk =>
      rw [Bool.and_eq_true] at h5
      obtain ⟨h5, h6⟩ := h5
      have hlr : rest.length = E.2.2.2.1.length := Nat.eq_of_beq_eq_true h6
      obtain ⟨d, hd, hde⟩ := List.any_eq_true.mp h5
      simp only [Bool.and_eq_true, beq_iff_eq] at hde
      obtain ⟨d1, d2, d3⟩ := hde
      have htr := hC.2.2.2.2.2.1
      have hlen : a.2.2.2.2.2.1.length = pre.length + (mus.length + 1) := by
        have := congrArg List.length htr
        rw [e1, List.length_map, List.length_append, List.length_cons] at this
        exact this
      have hdm : (a.2.2.2.2.2.1.drop (a.2.2.2.2.2.1.length - (E.2.2.2.1.length + 1))).map r = .int z :: mus := by
        rw [List.map_drop, htr, e1]
        have : a.2.2.2.2.2.1.length - (E.2.2.2.1.length + 1) = pre.length := by omega
        rw [this, List.drop_left']
        rfl
      rw [hdr, List.map_cons] at hdm
      obtain ⟨m1, m2⟩ := List.cons.inj hdm
      have hgd : g.getD E.2.2.1.1 0 = k := by rw [List.getD_eq_getElem?_getD, hgk]; rfl
      have hfit : x_fitA a.1 g (x_vs E.2.1) = true := by
        have := h1
        unfold x_ent at this
        rw [Bool.and_eq_true] at this
        exact this.1
      obtain ⟨f1, -⟩ := x_fitA_ok hC.1 hfit
      have hkc : x_c Y (.inl u) (r k) := f1.2 _ _ _ hvk (by rw [List.getElem?_map, hgk]; rfl)
      obtain ⟨z', ez, -⟩ := hkc
      have hprog : x_prog E.2.2.1.2 z z' := by
        obtain ⟨x, y, n1, n2, n3⟩ := hC.2.2.2.2.1 d hd
        rw [d1, ez] at n1
        rw [d2, m1] at n2
        cases n1; cases n2
        unfold x_prog
        split at d3
        · next hu =>
          rw [if_pos hu]
          simp only [decide_eq_true_eq] at d3
          omega
        · next hu =>
          rw [if_neg hu]
          simp only [decide_eq_true_eq] at d3
          omega
      have hK1 := hk z' hprog
      refine W.widen (Nat.le_of_ble_eq_true h3) (Nat.le_of_ble_eq_true h4) ?_
      refine hK1 Y H locs _ ls st hI (x_ent_ok h1 hC ?_)
      show (E.2.2.1.1 :: E.2.2.2.1).map (fun k => r (g.getD k 0)) = _
      rw [List.map_cons, hgd, ez, x_trk_ok h2, m2]
    · cases h5
  · cases h
theorem x_gst_ok {a b : xS} {z : Nat × Nat} {pc : Nat} (h : x_gst G a z = some b) (hs : x_K p l e R s m args below meth c Q D G Zs U ef Y0 H0 nL mu (pc, b)) : x_K p l e R s m args below meth c Q D G Zs U ef Y0 H0 nL mu (pc, a) := by
  unfold x_gst at h
  split at h
  · next hw =>
    split at h
    · next q hq =>
      split at h
      · next t ht =>
        split at h
        · next o ho =>
          split at h
          · cases h
          next hci =>
          split at h
          · cases h; exact hs
          · split at h
            · next ft hft =>
              cases h
              intro Y H locs r ls st hI hC
              obtain ⟨bb, tt, eb, htt, hY⟩ := x_ref_at (hC.1 _ _ ht) rfl
              have htt : tt = t := by
                rcases List.mem_cons.mp htt with e0 | e0
                · exact e0
                · cases e0
              subst htt
              obtain ⟨g, h1, h2⟩ := hI.1.1 bb _ hY
              cases h1.symm.trans ho
              obtain ⟨V, ⟨cell, q1, q2, q3, q4⟩, hV⟩ := h2
              have hkl : z.2 < o.2.length := (List.getElem?_eq_some_iff.mp hft).1
              have hN := hC.new hw (t := ft) (v := V z.2) (hV _ _ hft)
              have hql : q.2 < a.1.length := (List.getElem?_eq_some_iff.mp ht).1
              refine hs Y H locs (updV r a.1.length (V z.2)) ls st hI ?_
              obtain ⟨p1, p2, p3, p4, p5⟩ := hN
              refine ⟨p1, p2, p3, fun f hf => ?_, p5⟩
              rcases List.mem_cons.mp hf with e0 | hf
              · rw [e0]
                refine ⟨bb, by show updV r a.1.length (V z.2) q.2 = _; rw [x_up_ag hql]; exact eb, ?_⟩
                show x_fv D o.1 z.2 bb H = some (updV r a.1.length (V z.2) a.1.length)
                rw [x_up_at, x_fv_sl hci]
                unfold x_sl
                rw [q1]
                exact q4 _ hkl
              · exact p4 f hf
            · cases h
        · cases h
      · cases h
    · cases h
  · cases h
theorem x_gsts_ok {pc : Nat} : ∀ {zs : List (Nat × Nat)} {a b : xS}, x_gsts G zs a = some b → x_K p l e R s m args below meth c Q D G Zs U ef Y0 H0 nL mu (pc, b) → x_K p l e R s m args below meth c Q D G Zs U ef Y0 H0 nL mu (pc, a) := by
  intro zs
  induction zs with
  | nil => intro a b h hs; cases h; exact hs
  | cons z zs ih =>
    intro a b h hs
    unfold x_gsts at h
    split at h
    · next b1 hb1 => exact x_gst_ok hb1 (ih h hs)
    · cases h
end XO
end
section
theorem x_ina_ok {Y : xY} : ∀ {ts us : List xV} {vs : List Value}, x_ina ts us = true → x_cs Y ts vs → x_cs Y us vs := by
  intro ts
  induction ts with
  | nil =>
    intro us vs h hc
    cases us with
    | nil => exact hc
    | cons u us => cases h
  | cons t ts ih =>
    intro us vs h hc
    cases us with
    | nil => cases h
    | cons u us =>
      unfold x_ina at h
      rw [Bool.and_eq_true] at h
      cases vs with
      | nil => exact absurd hc.1 (by simp)
      | cons v vs =>
        have hc' : x_cs Y ts vs := ⟨by have := hc.1; simpa using this, fun k t' v' h1 h2 => hc.2 (k + 1) t' v' (by simpa using h1) (by simpa using h2)⟩
        have hi := ih h.2 hc'
        refine ⟨by have := hi.1; simp [this], fun k t' v' h1 h2 => ?_⟩
        cases k with
        | zero =>
          rw [List.getElem?_cons_zero] at h1 h2
          cases h1; cases h2
          exact x_le_ok h.1 (hc.2 0 t v (by simp) (by simp))
        | succ k =>
          rw [List.getElem?_cons_succ] at h1 h2
          exact hi.2 k t' v' h1 h2
theorem x_cs.mono {Y Y' : xY} {ts : List xV} {vs : List Value} (h : x_cs Y ts vs) (hY : ∀ a t, Y a = some t → Y' a = some t) : x_cs Y' ts vs := ⟨h.1, fun k t v h1 h2 => (h.2 k t v h1 h2).mono hY⟩
theorem x_nr_ok {Y : xY} {t : xV} {v : Value} {b raw t' : Nat} (h : x_nrT raw t = true) (hb : Y b = some raw) (hc : x_c Y t v) : x_c (x_up Y b t') t v := by
  rcases t with q | q | q
  · exact hc
  · exact hc
  · rcases hc with hc | ⟨b2, u, h1, h2, h3⟩
    · exact Or.inl hc
    · refine Or.inr ⟨b2, u, h1, h2, ?_⟩
      have hne : b2 ≠ b := by
        intro e0
        subst e0
        cases h3.symm.trans hb
        unfold x_nrT at h
        have := List.all_eq_true.mp h raw h2
        simp at this
      rw [x_up_ne hne]; exact h3
theorem x_nar_ok {ty : FieldType} {u : Int × Int} {v : Int32} (h : x_nar ty u = true) (hb : x_b u v) : narrow ty (.int v) = .int v := by
  have a1 := hb.1; have a2 := hb.2
  unfold x_nar at h
  split at h
  · rfl
  · simp only [Bool.and_eq_true, decide_eq_true_eq] at h
    show Value.int (v &&& 1) = .int v
    have : v = 0 ∨ v = 1 := by
      rcases (by omega : v.toInt = 0 ∨ v.toInt = 1) with q | q
      · exact Or.inl (Int32.toInt_inj.mp q)
      · exact Or.inr (Int32.toInt_inj.mp q)
    rcases this with q | q <;> subst q <;> rfl
  · simp only [Bool.and_eq_true, decide_eq_true_eq] at h
    show Value.int v.toInt8.toInt32 = .int v
    congr 1
    apply Int32.toInt_inj.mp
    rw [Int8.toInt_toInt32, Int32.toInt_toInt8]
    show Int.bmod v.toInt 256 = v.toInt
    exact Int.bmod_eq_of_le (by omega) (by omega)
  · simp only [Bool.and_eq_true, decide_eq_true_eq] at h
    have e1 : v = nI v.toInt.toNat := by
      apply Int32.toInt_inj.mp
      rw [nI_toInt (by omega)]; omega
    have hlt : v.toInt.toNat < 65536 := by omega
    have h9 := (pk_charN hlt).1
    rw [← e1] at h9
    exact h9
  · cases h
section XE2
variable {p : Program} {l : Launch} {e : Env} {R : Room} {s : State} {m : MethodId} {args : Array Value} {below : List Frame} {meth : Method} {c : Code}
variable {D : va_G} {G : List xG} {Zs : List xZ} {U : State} {Y0 : xY} {nL : Nat} {mu : List Value} {cc : ByteArray} {pc : Nat} {a : xS} {M : xM} {av : List Value} {sz : Nat}
theorem x_aok1_ok {Y : xY} {H : Heap} {r : Nat → Value} {ls : Array Slot} {st : List Value} {top : Bool} {o : List xV} (h : x_aok1 M top a o = true) (hC : x_C D Y0 nL mu Y H a r ls st) (hmon : ∀ q u, Y0 q = some u → Y q = some u) (hav : x_cs Y0 (x_args M) av) (htop : top = true → ∃ pre, mu = pre ++ av) : x_cs Y o av := by
  unfold x_aok1 at h
  rw [Bool.or_eq_true, Bool.and_eq_true] at h
  rcases h with h | ⟨h1, h2⟩
  · exact x_ina_ok h (hav.mono hmon)
  · obtain ⟨pre, e1⟩ := htop h1
    have h3 := (x_fitA_ok hC.1 h2).1
    have htr := hC.2.2.2.2.2.1
    have hlen : a.2.2.2.2.2.1.length = pre.length + av.length := by
      have := congrArg List.length htr
      rw [e1, List.length_map, List.length_append] at this
      exact this
    have hna : (x_args M).length = av.length := hav.1
    have : (a.2.2.2.2.2.1.drop (a.2.2.2.2.2.1.length - (x_args M).length)).map r = av := by
      rw [List.map_drop, htr, e1]
      have e2 : a.2.2.2.2.2.1.length - (x_args M).length = pre.length := by omega
      rw [e2, List.drop_left' rfl]
    rw [this] at h3
    exact h3
theorem x_rck_ok {i : Instr} {top : Bool} (hx : p.tables.exec = Jvm.exec) (hb : c.code = cc) (hr : meth.sig.returnType = M.2.2.2.1) (hlocks : meth.locks = false) (hsz : s.heap.size = sz) (hY0 : ∀ q u, Y0 q = some u → q < s.heap.size) (hav : x_cs Y0 (x_args M) av) (htop : top = true → ∃ pre, mu = pre ++ av)
    (hd : decode cc pc = .ok (i, 1)) (h : x_rck G Zs M i top a = true) :
    x_K p l e R s m args below meth c (MQ below (x_Q D G Zs U M av Y0) args s (x_rm M).cells (x_rm M).slots (fun q => (∃ u, Y0 q = some u) ∨ sz ≤ q)) D G Zs U (x_efs M) Y0 s.heap nL mu (pc, a) := by
  intro Y H locs r ls st hI hC
  subst hsz
  unfold x_rck at h
  rw [Bool.and_eq_true, Bool.and_eq_true] at h
  obtain ⟨⟨h1, h2⟩, h⟩ := h
  refine W.widen (Nat.le_of_ble_eq_true h1) (Nat.le_of_ble_eq_true h2) ?_
  have hmon : ∀ q u, Y0 q = some u → Y q = some u := fun q u hq => by rw [hI.2.1 q (hY0 q u hq)]; exact hq
  have hf : ∀ q ∈ locs, (∃ u, Y0 q.base = some u) ∨ s.heap.size ≤ q.base := hI.2.2.2.2.2
  have hF : ∀ t : State, t.heap = H → va_F (fun q => (∃ u, Y0 q = some u) ∨ s.heap.size ≤ q) s t := fun t ht => ⟨by rw [ht]; exact hI.2.2.2.1, fun q q1 q2 => by rw [ht]; exact hI.2.2.2.2.1 q q1 q2⟩
  split at h
  · next t' hrt =>
    split at h
    · next _ _ _ hS hM =>
      have hst : st = [] := by rw [hC.2.2.1, hS]; rfl
      rw [hst]
      rw [hM] at hr
      unfold x_rtc at h
      rw [Bool.and_eq_true] at h
      obtain ⟨ht0, h⟩ := h
      obtain ⟨pre, e1⟩ := htop ht0
      have htr := hC.2.2.2.2.2.1
      have hlen : a.2.2.2.2.2.1.length = pre.length + av.length := by
        have := congrArg List.length htr
        rw [e1, List.length_map, List.length_append] at this
        exact this
      have hna : (x_args M).length = av.length := hav.1
      have hdm : (a.2.2.2.2.2.1.drop (a.2.2.2.2.2.1.length - (x_args M).length)).map r = av := by
        rw [List.map_drop, htr, e1]
        have e2 : a.2.2.2.2.2.1.length - (x_args M).length = pre.length := by omega
        rw [e2, List.drop_left' rfl]
      split at h
      · next k0 ks hks =>
        rw [hks] at hdm
        split at h
        · next raw o hk0 hg' =>
          split at h
          · next o0 hg0 =>
            simp only [Bool.and_eq_true, beq_iff_eq] at h
            obtain ⟨⟨c1, c1n⟩, c2, c3, c4, c5, c6⟩ := h
            have hci : ¬ o.1 = 1000 := by simpa using c1n
            have c2 : o.2.length = o0.2.length := Nat.eq_of_beq_eq_true c2
            obtain ⟨b, tt, eb, htt, hYb⟩ := x_ref_at (hC.1 k0 _ hk0) rfl
            have htt : tt = raw := by
              rcases List.mem_cons.mp htt with e0 | e0
              · exact e0
              · cases e0
            subst htt
            have hav0 : av[0]? = some (.ref b) := by rw [← hdm, List.map_cons, eb]; rfl
            have hbH : b < H.size := hI.1.lt hYb
            obtain ⟨gr, hgr, hcr⟩ := hI.1.1 b _ hYb
            cases hgr.symm.trans hg0
            obtain ⟨V, hOB, hV⟩ := hcr
            have hG3 := List.all_eq_true.mp c3
            have hHn : x_H D G Zs U (x_up Y b t') H := by
              refine ⟨fun a' u hu => ?_, fun z hz => ?_⟩
              · by_cases ea : a' = b
                · subst ea
                  rw [x_up_self] at hu
                  cases hu
                  refine ⟨_, hg', V, ?_, fun k ft hk => ?_⟩
                  · rw [c1, c2]; exact hOB
                  · have hkl : k < o.2.length := (List.getElem?_eq_some_iff.mp hk).1
                    have h5 := List.all_eq_true.mp c5 k (List.mem_range.mpr hkl)
                    rw [hk] at h5
                    dsimp only at h5
                    split at h5
                    · next f hf0 =>
                      have hfm := List.mem_of_find?_eq_some hf0
                      have hfe := List.find?_some hf0
                      simp only [Bool.and_eq_true, beq_iff_eq] at hfe
                      obtain ⟨f1, f2, f3⟩ := hfe
                      split at h5
                      · next tv htv =>
                        rw [Bool.and_eq_true] at h5
                        obtain ⟨bb, b1, b2⟩ := hC.2.2.2.1 f hfm
                        rw [f1, eb] at b1
                        cases b1
                        rw [f2, f3, x_fv_sl hci] at b2
                        have hVk : V k = r f.2.2.2 := by
                          obtain ⟨cell, q1, q2, q3, q4⟩ := hOB
                          have q5 := q4 k (by rw [← c2]; exact hkl)
                          unfold x_sl at b2
                          rw [q1] at b2
                          dsimp only [Option.bind] at b2
                          rw [c1] at b2
                          exact Option.some.inj (q5.symm.trans b2)
                        rw [hVk]
                        exact x_le_ok h5.1 (x_nr_ok h5.2 hYb (hC.1 _ _ htv))
                      · cases h5
                    · split at h5
                      · next f0 hf0 =>
                        rw [Bool.and_eq_true] at h5
                        exact x_le_ok h5.1 (x_nr_ok h5.2 hYb (hV k f0 hf0))
                      · cases h5
                · rw [x_up_ne ea] at hu
                  obtain ⟨g, g1, g2⟩ := hI.1.1 a' u hu
                  refine ⟨g, g1, ?_⟩
                  have h9 := hG3 g (List.mem_of_getElem? g1)
                  rcases g with q | q
                  · obtain ⟨V', w1, w2⟩ := g2
                    exact ⟨V', w1, fun k ft hk => x_nr_ok (List.all_eq_true.mp h9 ft (List.mem_of_getElem? hk)) hYb (w2 k ft hk)⟩
                  · obtain ⟨cell, w1, w2, w3, w4, w5, w6⟩ := g2
                    refine ⟨cell, w1, w2, w3, w4, w5, fun j v hj => x_nr_ok ?_ hYb (w6 j v hj)⟩
                    dsimp only at h9
                    rw [Bool.and_eq_true] at h9
                    rw [List.getD_eq_getElem?_getD]
                    cases hq : q.2.2.1[j]? with
                    | none => exact h9.2
                    | some w => exact List.all_eq_true.mp h9.1 w (List.mem_of_getElem? hq)
              · obtain ⟨bz, z1, z2⟩ := hI.1.2 z hz
                have hzr : z.2.2.2 ≠ tt := by
                  have := List.all_eq_true.mp c4 z hz
                  simpa using this
                refine ⟨bz, ?_, z2.narrow fun q hq => ?_⟩
                · have : bz ≠ b := by
                    intro e0
                    subst e0
                    rw [z1] at hYb
                    exact hzr (Option.some.inj hYb)
                  rw [x_up_ne this]; exact z1
                · obtain ⟨u, hu⟩ := hq
                  by_cases eq : q = b
                  · rw [eq]; exact ⟨_, hYb⟩
                  · rw [x_up_ne eq] at hu
                    exact ⟨u, hu⟩
            obtain ⟨oo, ho1, ho2⟩ := List.any_eq_true.mp c6
            rw [Bool.and_eq_true] at ho2
            refine W.vret hx hb hr (fun t ht hW => ?_) hf hd hlocks
            refine ⟨none, x_up Y b t', oo, rfl, ho1, ?_, ?_, by rw [ht]; exact hHn, ?_, by rw [ht]; exact hI.2.2.1, hF t ht⟩
            · have : oo.2 = none := Option.isNone_iff_eq_none.mp ho2.1
              rw [this]; rfl
            · have h7 := ho2.2
              split at h7
              · next u us hou =>
                simp only [Bool.and_eq_true] at h7
                obtain ⟨k1, k2, k3⟩ := h7
                rw [hou]
                cases hA : av with
                | nil => rw [hA] at hav0; cases hav0
                | cons v0 vs =>
                  rw [hA] at hav0 hav
                  have hv0 : v0 = .ref b := by simpa using hav0
                  have hds : x_cs Y ((x_args M).drop 1) vs := by
                    refine ⟨by have := hav.1; simp at this ⊢; omega, fun k t2 v2 q1 q2 => ?_⟩
                    rw [List.getElem?_drop] at q1
                    exact (hav.2 (1 + k) t2 v2 q1 (by rw [Nat.add_comm, List.getElem?_cons_succ]; exact q2)).mono hmon
                  have hus := x_ina_ok k2 hds
                  refine ⟨by have := hus.1; simp [this], fun k t2 v2 q1 q2 => ?_⟩
                  cases k with
                  | zero =>
                    rw [List.getElem?_cons_zero] at q1 q2
                    cases q1; cases q2
                    exact x_le_ok k1 (Or.inr ⟨b, t', hv0, List.mem_cons_self, x_up_self _ _ _⟩)
                  | succ k =>
                    rw [List.getElem?_cons_succ] at q1 q2
                    exact x_nr_ok (List.all_eq_true.mp k3 t2 (List.mem_of_getElem? q1)) hYb (hus.2 k t2 v2 q1 q2)
              · cases h7
            · rw [hrt]
              exact ⟨b, hav0, x_up_self _ _ _, fun q q1 q2 => by rw [x_up_ne q2]; exact hI.2.1 q q1⟩
          · cases h
        · cases h
      · cases h
    · cases h
  · next hrt =>
    have hQ : ∀ (t : State) (v : Option Value) (o : List xV × Option xV), t.heap = H → o ∈ x_outs M → x_ret Y o.2 v → x_cs Y o.1 av → x_Q D G Zs U M av Y0 args s (.returned v) t := fun t v o ht ho h3 h4 =>
      ⟨v, Y, o, rfl, ho, h3, h4, by rw [ht]; exact hI.1, by rw [hrt]; exact hI.2.1, by rw [ht]; exact hI.2.2.1, hF t ht⟩
    split at h
    · next _ _ _ x ty hS hM =>
      rw [hM] at hr
      split at h
      · next u hu =>
        rw [Bool.and_eq_true] at h
        obtain ⟨o, ho, h3⟩ := List.any_eq_true.mp h.2
        rw [Bool.and_eq_true] at h3
        obtain ⟨v, ev, bv⟩ := hC.1 x _ hu
        have hst : st = [.int v] := by rw [hC.2.2.1, hS]; show [r x] = _; rw [ev]
        rw [hst]
        refine W.zret hx hb hr (x_nar_ok h.1 bv) (fun t ht hW => hQ t _ o ht ho ?_ (x_aok1_ok h3.2 hC hmon hav htop)) hf hd hlocks
        have h4 := h3.1
        split at h4
        · next tt htt => rw [htt]; exact ⟨_, rfl, x_le_ok h4 ⟨v, rfl, bv⟩⟩
        · cases h4
      · cases h
    · next _ _ _ x hS hM =>
      rw [hM] at hr
      split at h
      · next u hu =>
        obtain ⟨o, ho, h3⟩ := List.any_eq_true.mp h
        rw [Bool.and_eq_true] at h3
        obtain ⟨v, ev, bv⟩ := hC.1 x _ hu
        have hst : st = [.long v] := by rw [hC.2.2.1, hS]; show [r x] = _; rw [ev]
        rw [hst]
        refine W.lret hx hb hr (fun t ht hW => hQ t _ o ht ho ?_ (x_aok1_ok h3.2 hC hmon hav htop)) hf hd hlocks
        have h4 := h3.1
        split at h4
        · next tt htt => rw [htt]; exact ⟨_, rfl, x_le_ok h4 ⟨v, rfl, bv⟩⟩
        · cases h4
      · cases h
    · next _ _ _ x ty hS hM =>
      rw [hM] at hr
      split at h
      · next u hu =>
        rw [Bool.and_eq_true] at h
        obtain ⟨o, ho, h3⟩ := List.any_eq_true.mp h.2
        rw [Bool.and_eq_true] at h3
        have hc := hC.1 x _ hu
        have hst : st = [r x] := by rw [hC.2.2.1, hS]; rfl
        rw [hst]
        have hty : (∃ n, ty = .object n) ∨ ∃ t, ty = .array t := by
          cases ty <;> first | exact Or.inl ⟨_, rfl⟩ | exact Or.inr ⟨_, rfl⟩ | (exact absurd h.1 (by simp [FieldType.isReference]))
        have hvr : r x = .null ∨ ∃ b, r x = .ref b := by
          rcases hc with ⟨q, -⟩ | ⟨b, t, q, -⟩
          · exact Or.inl q
          · exact Or.inr ⟨b, q⟩
        refine W.aret hx hb hr hty hvr (fun t ht hW => hQ t _ o ht ho ?_ (x_aok1_ok h3.2 hC hmon hav htop)) hf hd hlocks
        have h4 := h3.1
        split at h4
        · next tt htt => rw [htt]; exact ⟨_, rfl, x_le_ok h4 hc⟩
        · cases h4
      · cases h
    · next _ _ _ hS hM =>
      rw [hM] at hr
      obtain ⟨o, ho, h3⟩ := List.any_eq_true.mp h
      rw [Bool.and_eq_true] at h3
      have hst : st = [] := by rw [hC.2.2.1, hS]; rfl
      rw [hst]
      refine W.vret hx hb hr (fun t ht hW => hQ t _ o ht ho ?_ (x_aok1_ok h3.2 hC hmon hav htop)) hf hd hlocks
      have : o.2 = none := Option.isNone_iff_eq_none.mp h3.1
      rw [this]; rfl
    · cases h
end XE2
end
section
section XF
variable {p : Program} {l : Launch} {e : Env} {R : Room} {s : State} {m : MethodId} {args : Array Value} {below : List Frame} {meth : Method} {c : Code}
variable {D : va_G} {G : List xG} {Zs : List xZ} {U : State} {Y0 : xY} {M : xM} {av : List Value} {sz : Nat} {cl : List vw_C} {Ts : List Cond} {T : xTab} {an : List xAn} {sp : List (Nat × Nat)}
abbrev x_QQ (below : List Frame) (D : va_G) (G : List xG) (Zs : List xZ) (U : State) (M : xM) (av : List Value) (Y0 : xY) (args : Array Value) (s : State) (sz : Nat) : State → Prop := MQ below (x_Q D G Zs U M av Y0) args s (x_rm M).cells (x_rm M).slots (fun q => (∃ u, Y0 q = some u) ∨ sz ≤ q)
/-- THE CHECKER IS RIGHT -/
theorem x_ex_ok (hx : p.tables.exec = Jvm.exec) (hb : c.code = M.2.1) (hml : c.maxLocals = M.2.2.1) (hr : meth.sig.returnType = M.2.2.2.1) (hlocks : meth.locks = false) (hts : ∀ w ∈ Ts, w.before args s = true) (hown : s.vm.findClass M.1.cls = some m.cls) (hK : va_K D cl [] s) (hU : U.vm.Alike s.vm)
    (hsz : s.heap.size = sz) (hY0 : ∀ q u, Y0 q = some u → q < s.heap.size) (hav : x_cs Y0 (x_args M) av) (hT : x_tok p l e R s m args below meth c D G Zs U M.2.2.1 M.2.1 cl Ts M.1.cls T) (hmc : (x_rm M).cells ≤ R.cells) (hms : (x_rm M).slots ≤ R.slots) :
    ∀ (n : Nat) (L : List xLb) (top : Bool) (q : Nat × xS) (mu : List Value), x_ex G Zs T M an sp n L top q = true → (top = true → ∃ pre, mu = pre ++ av) →
      (∀ E ∈ L, x_LOK p l e R s m args below meth c (x_QQ below D G Zs U M av Y0 args s sz) D G Zs U (x_efs M) Y0 s.heap M.2.2.1 mu E) →
      x_K p l e R s m args below meth c (x_QQ below D G Zs U M av Y0 args s sz) D G Zs U (x_efs M) Y0 s.heap M.2.2.1 mu q := by
  intro n
  induction n with
  | zero => intro L top q mu h; cases h
  | succ n ih =>
    intro L top q mu h htop hL
    unfold x_ex at h
    split at h
    · next hw =>
      -- what follows the labels: one step, and on
      have go : ∀ (L : List xLb) (top : Bool) (a : xS) (mu : List Value), x_wf a = true → x_go G Zs T M top q.1 a (x_ex G Zs T M an sp n L top) = true → (top = true → ∃ pre, mu = pre ++ av) →
          (∀ E ∈ L, x_LOK p l e R s m args below meth c (x_QQ below D G Zs U M av Y0 args s sz) D G Zs U (x_efs M) Y0 s.heap M.2.2.1 mu E) →
          x_K p l e R s m args below meth c (x_QQ below D G Zs U M av Y0 args s sz) D G Zs U (x_efs M) Y0 s.heap M.2.2.1 mu (q.1, a) := by
        intro L top a mu hw h htop hL
        unfold x_go at h
        split at h
        · next i len hd =>
          split at h
          · next hlen =>
            have hlen : len = x_lenF i len := Nat.eq_of_beq_eq_true hlen
            split at h
            · next hret =>
              have hl1 : len = 1 := by
                cases i <;> first | exact hlen | (cases hret)
              subst hl1
              exact x_rck_ok hx hb hr hlocks hsz hY0 hav htop hd h
            · split at h
              · next sc hsc =>
                refine x_stp_ok hw hx hb hml hts hown hK hU hY0 hT hmc hms hd hlen hsc (fun z hz => ?_)
                exact ih L top z mu (List.all_eq_true.mp h z hz) htop hL
              · cases h
          · cases h
        · cases h
      split at h
      · next zz hzz =>
        intro Y H locs r ls st hI hC
        unfold x_spl at hzz
        split at hzz
        · split at hzz
          · next qq hqq =>
            split at hzz
            · next u hu =>
              split at hzz
              · next hlt =>
                cases hzz
                obtain ⟨v, ev, bv⟩ := hC.1 _ _ hu
                have b1 := bv.1; have b2 := bv.2
                have hk := List.all_eq_true.mp h (v.toInt - u.1).toNat (List.mem_range.mpr (by show _ < (u.2 - u.1).toNat + 1; omega))
                refine ih L top _ mu hk htop hL Y H locs r ls st hI ⟨x_set_ok hC.1 ?_, hC.2⟩
                rw [ev]
                exact ⟨v, rfl, by show u.1 + (((v.toInt - u.1).toNat : Nat) : Int) ≤ _; omega, by show _ ≤ u.1 + (((v.toInt - u.1).toNat : Nat) : Int); omega⟩
              · cases hzz
            · cases hzz
          · cases hzz
        · cases hzz
      next hspl =>
      split at h
      · next hlab =>
        unfold x_lab at hlab
        split at hlab
        · next E hE =>
          split at hlab
          · next a' hgs =>
            split at hlab
            · next hbk =>
              have hEm := List.mem_of_find?_eq_some hE
              have hEe := List.find?_some hE
              simp only [beq_iff_eq] at hEe
              have := x_back_ok (hL E hEm) hbk
              rw [hEe] at this
              exact x_gsts_ok hgs this
            · cases hlab
          · cases hlab
        · split at hlab
          · split at hlab
            · split at hlab
              · dsimp only at hlab
                split at hlab
                · split at hlab <;> cases hlab
                · cases hlab
              · cases hlab
            · cases hlab
          · cases hlab
      · next z hlab =>
        unfold x_lab at hlab
        split at hlab
        · split at hlab
          · split at hlab <;> cases hlab
          · cases hlab
        · split at hlab
          · next A hA =>
            split at hlab
            · next a' hgs =>
             refine x_gsts_ok hgs ?_
             split at hlab
             · next g hg =>
               dsimp only at hlab
               split at hlab
               · next hc =>
                 obtain ⟨hc, hwb⟩ := hc
                 simp only [Bool.and_eq_true, Bool.or_eq_true (_ || _) _] at hc
                 obtain ⟨h1, h2, h3, h4, h5⟩ := hc
                 split at hlab
                 · next u hu =>
                   cases hlab
                   dsimp only at h
                   -- the head, for every number that it may have
                   intro Y H locs r ls st hI hC
                   have htr := hC.2.2.2.2.2.1
                   have hmlen : a'.2.2.2.2.2.1.length = mu.length := by rw [← htr, List.length_map]
                   let mux : List Value := x_cut (A.2.2.2.2.1 || !top) (mu.drop (L.length - A.2.2.2.2.2.1)) (x_args M).length
                   have hLx : ∀ E ∈ L.drop (L.length - A.2.2.2.2.2.1), x_LOK p l e R s m args below meth c (x_QQ below D G Zs U M av Y0 args s sz) D G Zs U (x_efs M) Y0 s.heap M.2.2.1 mux E := by
                     intro E hE
                     rcases h3 with h3 | h3
                     · have e0 : mux = mu.drop (L.length - A.2.2.2.2.2.1) := if_pos h3
                       rw [e0]
                       obtain ⟨pre, z0, mus, m1, m2, m3⟩ := hL E (List.mem_of_mem_drop hE)
                       have h6 : E.2.2.2.1.length + 1 + (L.length - A.2.2.2.2.2.1) ≤ a'.2.2.2.2.2.1.length := Nat.le_of_ble_eq_true (List.all_eq_true.mp h4 E hE)
                       have h7 : mu.length = pre.length + (mus.length + 1) := by rw [m1, List.length_append, List.length_cons]
                       refine ⟨pre.drop (L.length - A.2.2.2.2.2.1), z0, mus, ?_, m2, m3⟩
                       rw [m1, List.drop_append_of_le_length (by omega)]
                     · rw [List.isEmpty_iff] at h3
                       rw [h3] at hE; cases hE
                   have htopx : (top && A.2.2.2.2.1) = true → ∃ pre, mux = pre ++ av := by
                     intro ht
                     rw [Bool.and_eq_true] at ht
                     obtain ⟨pre, e1⟩ := htop ht.1
                     have e0 : mux = mu.drop (L.length - A.2.2.2.2.2.1) := if_pos (by rw [ht.2]; rfl)
                     have h6 : (L.length - A.2.2.2.2.2.1) + (x_args M).length ≤ a'.2.2.2.2.2.1.length := by
                       rw [ht.1] at h5
                       exact Nat.le_of_ble_eq_true (by simpa using h5)
                     have h7 : mu.length = pre.length + av.length := by rw [e1, List.length_append]
                     have h8 := hav.1
                     refine ⟨pre.drop (L.length - A.2.2.2.2.2.1), ?_⟩
                     rw [e0, e1, List.drop_append_of_le_length (by omega)]
                   have hvj : ∀ (Y : xY) (H : Heap) (z : Int32) (r : Nat → Value) (ls : Array Slot) (st : List Value), x_C D Y0 M.2.2.1 (.int z :: mux) Y H (x_can A.2.1 (A.2.2.1.1 :: A.2.2.2.1) (x_cells a') (x_slots a')) r ls st → u.1 ≤ z.toInt ∧ z.toInt ≤ u.2 := by
                     intro Y H z r ls st hC
                     have h7 := hC.2.2.2.2.2.1
                     have h8 : r A.2.2.1.1 = .int z := by
                       have : (A.2.2.1.1 :: A.2.2.2.1).map r = .int z :: mux := h7
                       rw [List.map_cons] at this
                       exact (List.cons.inj this).1
                     obtain ⟨x, e1, e2⟩ := hC.1 _ _ hu
                     rw [h8] at e1
                     cases e1
                     exact e2
                   have head : ∀ (k : Nat) (z : Int32), (if A.2.2.1.2 then (u.2 - z.toInt).toNat else (z.toInt - u.1).toNat) < k →
                       x_K p l e R s m args below meth c (x_QQ below D G Zs U M av Y0 args s sz) D G Zs U (x_efs M) Y0 s.heap M.2.2.1 (.int z :: mux) (q.1, x_can A.2.1 (A.2.2.1.1 :: A.2.2.2.1) (x_cells a') (x_slots a')) := by
                     intro k
                     induction k with
                     | zero => intro z hz; exact absurd hz (Nat.not_lt_zero _)
                     | succ k ihk =>
                       intro z hz Y H locs r ls st hI hC
                       have hbd := hvj Y H z r ls st hC
                       refine go _ _ _ (.int z :: mux) hwb h (fun ht => ?_) (fun E hE => ?_) Y H locs r ls st hI hC
                       · obtain ⟨pre, e1⟩ := htopx ht
                         exact ⟨.int z :: pre, by rw [e1]; rfl⟩
                       · rcases List.mem_cons.mp hE with e0 | hE
                         · rw [e0]
                           refine ⟨[], z, mux, rfl, ?_, fun z' hp => ?_⟩
                           · have h7 := hC.2.2.2.2.2.1
                             have : (A.2.2.1.1 :: A.2.2.2.1).map r = .int z :: mux := h7
                             have := congrArg List.length this
                             rw [List.length_map, List.length_cons, List.length_cons] at this
                             show mux.length = A.2.2.2.1.length
                             omega
                           · intro Y' H' locs' r' ls' st' hI' hC'
                             have hbd' := hvj Y' H' z' r' ls' st' hC'
                             refine ihk z' ?_ Y' H' locs' r' ls' st' hI' hC'
                             have hp : x_prog A.2.2.1.2 z z' := hp
                             unfold x_prog at hp
                             split
                             · next hup =>
                               rw [if_pos hup] at hz hp
                               omega
                             · next hup =>
                               rw [if_neg hup] at hz hp
                               omega
                         · obtain ⟨pre, z0, mus, m1, m2, m3⟩ := hLx E hE
                           exact ⟨.int z :: pre, z0, mus, by rw [m1]; rfl, m2, m3⟩
                   have hgj : x_c Y (.inl u) (r (g.getD A.2.2.1.1 0)) := by
                     have hfit : x_fitA a'.1 g (x_vs A.2.1) = true := by
                       have := h1
                       unfold x_ent at this
                       rw [Bool.and_eq_true] at this
                       exact this.1
                     obtain ⟨f1, -⟩ := x_fitA_ok hC.1 hfit
                     have hjl : A.2.2.1.1 < g.length := by
                       have := f1.1
                       rw [List.length_map] at this
                       have h9 := (List.getElem?_eq_some_iff.mp hu).1
                       omega
                     refine f1.2 _ _ _ hu ?_
                     rw [List.getElem?_map, List.getElem?_eq_getElem hjl, List.getD_eq_getElem?_getD, List.getElem?_eq_getElem hjl]
                     rfl
                   obtain ⟨z0, ez, -⟩ := hgj
                   refine head _ z0 (Nat.lt_succ_self _) Y H locs _ ls st hI (x_ent_ok h1 hC ?_)
                   show (A.2.2.1.1 :: A.2.2.2.1).map (fun k => r (g.getD k 0)) = .int z0 :: mux
                   rw [List.map_cons, ez, x_trk_ok h2]
                   congr 1
                   show (x_cut (A.2.2.2.2.1 || !top) (a'.2.2.2.2.2.1.drop (L.length - A.2.2.2.2.2.1)) (x_args M).length).map r = x_cut (A.2.2.2.2.1 || !top) (mu.drop (L.length - A.2.2.2.2.2.1)) (x_args M).length
                   unfold x_cut
                   split
                   · rw [List.map_drop, htr]
                   · rw [List.map_take, List.map_drop, htr, List.length_drop, List.length_drop, hmlen]
                 · cases hlab
               · cases hlab
             · cases hlab
            · cases hlab
          · cases hlab
            exact go L top q.2 mu hw h htop hL
      · cases h
    · cases h
end XF
end
section
/-- the tables of a method's code hold wherever its words do -/
def x_TOK (cl : List vw_C) (G : List xG) (Zs : List xZ) (Tb Nb : List Cond) (M : xM) (T : xTab) : Prop :=
  ∀ (p : Program) (l : Launch) (e : Env) (s : State) (m : MethodId) (args : Array Value) (below : List Frame) (meth : Method) (c : Code) (D : va_G) (U : State), p.tables.exec = Jvm.exec → c.code = M.2.1 → c.maxLocals = M.2.2.1 → (∀ w ∈ Tb, w.before args s = true) →
    s.vm.findClass M.1.cls = some m.cls → va_K D cl [] s → va_K D cl [] U → U.vm.Alike s.vm → meth.name = M.1.name → (∀ w ∈ Nb, va_Nw w s) → x_tok p l e (x_rm M) s m args below meth c D G Zs U M.2.2.1 M.2.1 cl Tb M.1.cls T
theorem x_al_ok {Y : xY} {r : Nat → Value} : ∀ (ts : List xV) (vs : List Value) (i k : Nat), x_cs Y ts vs → (∀ j v, vs[j]? = some v → r (k + j) = v) → ∀ q ∈ (x_al i k ts).map (fun q => (q.1, r q.2)), q ∈ lv_args i vs := by
  intro ts
  induction ts with
  | nil => intro vs i k _ _ q hq; cases hq
  | cons t ts ih =>
    intro vs i k hc hr q hq
    cases vs with
    | nil => exact absurd hc.1 (by simp)
    | cons v vs =>
      have h0 := hc.2 0 t v (by simp) (by simp)
      have hr0 : r k = v := hr 0 v (by simp)
      have hc' : x_cs Y ts vs := ⟨by have := hc.1; simpa using this, fun j t' v' h1 h2 => hc.2 (j + 1) t' v' (by simpa using h1) (by simpa using h2)⟩
      have hcat : (if x_isL t then i + 2 else i + 1) = (if v.category = 2 then i + 2 else i + 1) := by
        rcases t with u | u | u
        · obtain ⟨x, e0, -⟩ := h0; rw [e0]; rfl
        · obtain ⟨x, e0, -⟩ := h0; rw [e0]; rfl
        · rcases h0 with ⟨e0, -⟩ | ⟨b, t, e0, -⟩ <;> rw [e0] <;> rfl
      unfold x_al at hq
      rw [List.map_cons] at hq
      unfold lv_args
      rcases List.mem_cons.mp hq with e0 | hq
      · rw [e0, hr0]; exact List.mem_cons_self
      · rw [hcat] at hq
        refine List.mem_cons_of_mem _ (ih vs _ (k + 1) hc' (fun j w hj => ?_) q hq)
        have := hr (j + 1) w (by simpa using hj)
        rw [← this]
        congr 1
        omega
theorem x_range_map {α : Type} (r : Nat → α) : ∀ (vs : List α), (∀ j v, vs[j]? = some v → r j = v) → (List.range vs.length).map r = vs := by
  intro vs h
  apply List.ext_getElem?
  intro j
  rw [List.getElem?_map]
  by_cases hj : j < vs.length
  · rw [List.getElem?_range hj, List.getElem?_eq_getElem hj]
    show some (r j) = _
    rw [h j _ (List.getElem?_eq_getElem hj)]
  · rw [List.getElem?_eq_none (by simpa using hj), List.getElem?_eq_none (by simpa using hj)]
    rfl
theorem x_sl_len : ∀ (ts : List xV) (vs : List Value) (Y : xY), x_cs Y ts vs → (lg_sl vs).length = (ts.map (fun t => if x_isL t then 2 else 1)).sum := by
  intro ts
  induction ts with
  | nil =>
    intro vs Y h
    cases vs with
    | nil => rfl
    | cons v vs => exact absurd h.1 (by simp)
  | cons t ts ih =>
    intro vs Y hc
    cases vs with
    | nil => exact absurd hc.1 (by simp)
    | cons v vs =>
      have h0 := hc.2 0 t v (by simp) (by simp)
      have hc' : x_cs Y ts vs := ⟨by have := hc.1; simpa using this, fun j t' v' h1 h2 => hc.2 (j + 1) t' v' (by simpa using h1) (by simpa using h2)⟩
      have hi := ih vs Y hc'
      have e1 : lg_sl (v :: vs) = (if v.category = 2 then [.val v, .second] else [.val v]) ++ lg_sl vs := rfl
      rw [e1, List.length_append, hi, List.map_cons, List.sum_cons]
      congr 1
      rcases t with u | u | u
      · obtain ⟨x, e0, -⟩ := h0; rw [e0]; rfl
      · obtain ⟨x, e0, -⟩ := h0; rw [e0]; rfl
      · rcases h0 with ⟨e0, -⟩ | ⟨b, t, e0, -⟩ <;> rw [e0] <;> rfl
/-- A METHOD'S CONTRACT, out of the checker's yes -/
theorem x_main {cl : List vw_C} {G : List xG} {Zs : List xZ} {Tb Nb : List Cond} {M : xM} (T : xTab) (an : List xAn) (sp : List (Nat × Nat)) (n : Nat) (hy : plainName M.1.cls = true) (hl : ((x_args M).map (fun t => if x_isL t then 2 else 1)).sum ≤ M.2.2.1) (hT : x_TOK cl G Zs Tb Nb M T) (h : x_ex G Zs T M an sp n [] true (0, x_0 M) = true) : x_Met cl G Zs Tb Nb M := by
  intro l D U Y sz av hK0 hav
  refine Met.ofW (cc := M.2.1) (maxL := M.2.2.1) (ret := M.2.2.2.1) hy rfl ?_
  intro p e s m args below meth c s₁ B hml hv
  obtain ⟨rfl, hsz, hU, hH, hN⟩ := hv
  have hts0 := atoms_spec B.pre
  have hts : ∀ w ∈ Tb, w.before av.toArray s = true := fun w hw => hts0 w (List.mem_cons_of_mem _ hw)
  have hown : s.vm.findClass M.1.cls = some m.cls := findClass_of_methodNamed B.named
  have hnm : meth.name = M.1.name := (name_of_methodNamed B.named B.method).1
  have hK : va_K D cl [] s := va_K.moved hU hK0
  have hY0 : ∀ q u, Y q = some u → q < s.heap.size := fun q u hq => hH.lt hq
  have hT1 : x_tok p l e (x_rm M) s m av.toArray below meth c D G Zs U M.2.2.1 M.2.1 cl Tb M.1.cls T := hT p l e s m av.toArray below meth c D U B.exec B.bytes hml hts hown hK hK0 hU hnm hN
  have hK1 := x_ex_ok (R := x_rm M) (an := an) (sp := sp) B.exec B.bytes hml B.returns B.notSynchronized hts hown hK hU hsz hY0 hav hT1 (Nat.le_refl _) (Nat.le_refl _) n [] true (0, x_0 M) av h (fun _ => ⟨[], rfl⟩) (fun E hE => by cases hE)
  have hlen : (lg_sl av).length ≤ M.2.2.1 := by rw [x_sl_len _ _ _ hav]; exact hl
  have hlv := lv_entry av (n := M.2.2.1) hlen
  rw [lg_entry_eq]
  refine hK1 Y s.heap [] (fun k => av.getD k .null) _ [] ⟨hH, fun q _ => rfl, x_E.rf, va_S.rf⟩ ⟨fun k t hk => ?_, hlv.less (x_al_ok (Y := Y) (r := fun k => av.getD k .null) (x_args M) av 0 0 hav (fun j v hj => ?_)), rfl, fun f hf => (by cases hf), fun d hd => (by cases hd), ?_, fun k hk => (by cases hk)⟩
  · show x_c Y t (av.getD k .null)
    have hkl : k < (x_args M).length := (List.getElem?_eq_some_iff.mp hk).1
    have hka : k < av.length := by rw [← hav.1]; exact hkl
    refine hav.2 k t _ hk ?_
    rw [List.getD_eq_getElem?_getD, List.getElem?_eq_getElem hka]
    rfl
  · rw [Nat.zero_add, List.getD_eq_getElem?_getD, hj]
    rfl
  · show (List.range (x_args M).length).map (fun k => av.getD k .null) = av
    rw [hav.1]
    exact x_range_map _ av (fun j v hj => by rw [List.getD_eq_getElem?_getD, hj]; rfl)
end
section
/-! CALLS OF EACH KIND, by a callee's contract -/
def x_Nk : Cond → Bool
  | .methodLinkNest .. => true
  | .fieldLinkNest .. => true
  | .castable .. => true
  | .declares .. => true
  | .arrayOver (.object _) => true
  | _ => false
theorem x_Nk_ok {w : Cond} {s U : State} (h : x_Nk w = true) (hW : s.WarmedH U.vm) (hZ : va_Nw w s) : va_Nw w U := by
  unfold x_Nk at h
  split at h
  · exact hZ.warmM hW
  · exact hZ.warmF hW
  · exact hZ.warmC hW
  · exact hZ.warmD hW
  · exact va_AO.moved hW.alike hZ
  · cases h
theorem x_Nk_same {w : Cond} {u U : State} (h : x_Nk w = true) (hv : u.vm = U.vm) (hZ : va_Nw w u) : va_Nw w U := by
  unfold x_Nk at h
  split at h
  · exact hZ.same rfl hv
  · exact hZ.same rfl hv
  · exact hZ.same rfl hv
  · exact hZ.same rfl hv
  · refine va_AO.moved ?_ hZ
    rw [hv]; exact Vm.Alike.refl _
  · cases h
section XQ
variable {p : Program} {l : Launch} {e : Env} {R : Room} {s : State} {m : MethodId} {args : Array Value} {below : List Frame} {meth : Method} {c : Code}
variable {D : va_G} {G : List xG} {Zs : List xZ} {U : State} {nL : Nat} {cc : ByteArray} {cl : List vw_C} {Tb Nb : List Cond} {own : String} {M : xM} {idx n : Nat}
theorem x_gw {ws : List Cond} (hG : ∀ w ∈ Tb, goodWord w = true) (h : ∀ w ∈ ws, w ∈ Tb) : GoodIn Tb (ws ++ (.code M.1 M.2.1 M.2.2.1 M.2.2.2.1 :: Tb)) → GoodIn Tb (ws ++ (.code M.1 M.2.1 M.2.2.1 M.2.2.2.1 :: Tb)) := id
theorem x_good {ws : List Cond} (hG : ∀ w ∈ Tb, goodWord w = true) (h : ∀ w ∈ ws, w ∈ Tb) (hc : Cond.code M.1 M.2.1 M.2.2.1 M.2.2.2.1 ∈ Tb) : GoodIn Tb (ws ++ (.code M.1 M.2.1 M.2.2.1 M.2.2.2.1 :: Tb)) := by
  intro w hw
  have hm : w ∈ Tb := by
    rcases List.mem_append.mp hw with q | q
    · exact h w q
    · rcases List.mem_cons.mp q with q | q
      · rw [q]; exact hc
      · exact q
  exact ⟨hm, good_of_word (hG w hm)⟩
theorem x_blind {av : List Value} {Y : xY} {sz : Nat} (hN : ∀ w ∈ Nb, x_Nk w = true) : FrameBlind (va_Pc av (fun S => S.heap.size = sz ∧ U.vm.Alike S.vm ∧ x_H D G Zs U Y S.heap ∧ ∀ w ∈ Nb, va_Nw w S)) := by
  intro a V g mk q
  obtain ⟨q0, q1, q2, q3, q4⟩ := q
  exact ⟨q0, q1, q2, q3, fun w hw => x_Nk_same (u := V) (hN w hw) rfl (q4 w hw)⟩
theorem x_pre {av : List Value} {Y : xY} {H : Heap} (hN : ∀ w ∈ Nb, x_Nk w = true) (hNw : ∀ w ∈ Nb, va_Nw w s) (hU : U.vm.Alike s.vm) (hH : x_H D G Zs U Y H) : ∀ V : State, V.heap = H → s.WarmedH V.vm → va_Pc av (fun S => S.heap.size = H.size ∧ U.vm.Alike S.vm ∧ x_H D G Zs U Y S.heap ∧ ∀ w ∈ Nb, va_Nw w S) av.toArray V :=
  fun V hV hW => ⟨rfl, by rw [hV], hU.trans hW.alike, by rw [hV]; exact hH, fun w hw => x_Nk_ok (hN w hw) hW (hNw w hw)⟩
variable (p l e s m args below meth c D U) in
/-- what holds inside a method's body -/
def x_cx (cc : ByteArray) (nL : Nat) (cl : List vw_C) (Tb Nb : List Cond) (own : String) : Prop := p.tables.exec = Jvm.exec ∧ c.code = cc ∧ c.maxLocals = nL ∧ s.vm.findClass own = some m.cls ∧ (∀ w ∈ Tb, w.before args s = true) ∧ va_K D cl [] s ∧ va_K D cl [] U ∧ U.vm.Alike s.vm ∧ (∀ w ∈ Nb, va_Nw w s) ∧ (∀ w ∈ Tb, goodWord w = true) ∧ ∀ w ∈ Nb, x_Nk w = true
theorem x_cokS (X : x_cx p s m args c D U cc nL cl Tb Nb own) (hM : x_Met cl G Zs Tb Nb M) (h : ∀ w ∈ [Cond.methodLink own idx M.1, .static M.1, .initialized M.1.cls], w ∈ Tb) (hc : Cond.code M.1 M.2.1 M.2.2.1 M.2.2.2.1 ∈ Tb)
    (hd : M.1.cls ≠ "java/lang/invoke/MethodHandle" ∧ M.1.cls ≠ "java/lang/invoke/VarHandle" ∧ (parseMethodDescriptor M.1.desc).map (fun d => d.parameters.length) = some n) (hR : (x_rm M).frames + 1 ≤ R.frames ∧ 8 + (M.2.2.1 + 11) + (x_rm M).locals ≤ R.locals) :
    x_cok p l e R s m args below meth c D G Zs U nL cc (1, idx, n, none, M) := by
  intro H locs cells slots pc ls rest av Y hdec hls hrest hcl hsl hH hcs hlen hrt
  obtain ⟨hx, hb, hml, hown, hts, hK, hK0, hU, hNw, hG, hN⟩ := X
  exact va_runS (As := av) (rest := rest) (Ts := Tb) ⟨hx, hb, hml, hown, hts⟩ (hM l D U Y H.size av hK0 hcs) (va_cwS n hts (x_good hG h hc) rfl rfl rfl hd hR) ⟨x_blind hN, x_pre hN hNw hU hH⟩ rfl hlen hls rfl (lv_room hrest) hdec ⟨hcl, hsl⟩
theorem x_cokSN {host : String} (X : x_cx p s m args c D U cc nL cl Tb Nb own) (hM : x_Met cl G Zs Tb Nb M) (h : ∀ w ∈ [Cond.static M.1, .initialized M.1.cls], w ∈ Tb) (hl : Cond.methodLinkNest own idx M.1 host ∈ Nb) (hc : Cond.code M.1 M.2.1 M.2.2.1 M.2.2.2.1 ∈ Tb)
    (hd : M.1.cls ≠ "java/lang/invoke/MethodHandle" ∧ M.1.cls ≠ "java/lang/invoke/VarHandle" ∧ (parseMethodDescriptor M.1.desc).map (fun d => d.parameters.length) = some n) (hR : (x_rm M).frames + 1 ≤ R.frames ∧ 8 + (M.2.2.1 + 11) + (x_rm M).locals ≤ R.locals) :
    x_cok p l e R s m args below meth c D G Zs U nL cc (1, idx, n, none, M) := by
  intro H locs cells slots pc ls rest av Y hdec hls hrest hcl hsl hH hcs hlen hrt
  obtain ⟨hx, hb, hml, hown, hts, hK, hK0, hU, hNw, hG, hN⟩ := X
  exact va_runSN (As := av) (rest := rest) (Ts := Tb) (host := host) ⟨hx, hb, hml, hown, hts⟩ (hM l D U Y H.size av hK0 hcs) ⟨va_cnB n hts (x_good (ws := []) hG (fun w hw => by cases hw) hc) rfl rfl rfl (hNw _ hl) (hts _ (h _ (by simp))) hd hR, hts _ (h _ (by simp)), trivial⟩ ⟨x_blind hN, x_pre hN hNw hU hH⟩ rfl hlen hls rfl (lv_room hrest) hdec ⟨hcl, hsl⟩
theorem x_recv {Y : xY} {H : Heap} (hK : va_K D cl [] s) (hH : x_H D G Zs U Y H) {b t ci : Nat} {fts : List xV} {q : vw_C} (hY : Y b = some t) (hg : G[t]? = some (.inl (ci, fts))) (hq : cl[ci]? = some q) : ∃ cell : Cell, H[b]? = some cell ∧ cell.vm.isStatics = false ∧ s.vm.findClass q.1 = some cell.cls := by
  obtain ⟨g, h1, h2⟩ := hH.1 b t hY
  cases h1.symm.trans hg
  obtain ⟨V, ⟨cell, q1, q2, q3, -⟩, -⟩ := h2
  exact ⟨cell, q1, by rw [q3]; rfl, by rw [q2]; exact (hK.1 ci q hq).2.1⟩
theorem x_cokV {t ci : Nat} {fts : List xV} {q : vw_C} (X : x_cx p s m args c D U cc nL cl Tb Nb own) (hM : x_Met cl G Zs Tb Nb M) (hg : G[t]? = some (.inl (ci, fts))) (hq : cl[ci]? = some q) (hC : M.1.cls = q.1)
    (h : ∀ w ∈ [Cond.methodLink own idx M.1, .instanceMethod M.1, .selects q.1 M.1 M.1, .initialized q.1], w ∈ Tb) (hc : Cond.code M.1 M.2.1 M.2.2.1 M.2.2.2.1 ∈ Tb)
    (hd : M.1.cls ≠ "java/lang/invoke/MethodHandle" ∧ M.1.cls ≠ "java/lang/invoke/VarHandle" ∧ (parseMethodDescriptor M.1.desc).map (fun d => d.parameters.length) = some n) (hR : (x_rm M).frames + 1 ≤ R.frames ∧ 8 + (M.2.2.1 + 11) + (x_rm M).locals ≤ R.locals) :
    x_cok p l e R s m args below meth c D G Zs U nL cc (0, idx, n + 1, some t, M) := by
  intro H locs cells slots pc ls rest av Y hdec hls hrest hcl hsl hH hcs hlen hrt
  obtain ⟨hx, hb, hml, hown, hts, hK, hK0, hU, hNw, hG, hN⟩ := X
  obtain ⟨b, hb0, hbY⟩ := hrt t rfl
  cases hav : av with
  | nil => rw [hav] at hb0; cases hb0
  | cons v As =>
    rw [hav] at hb0 hcs hlen
    have hv : v = .ref b := by simpa using hb0
    subst hv
    have hM1 := hM l D U Y H.size (.ref b :: As) hK0 hcs
    rw [List.reverse_cons, List.append_assoc]
    exact va_runV (As := As) (rest := rest) (Ts := Tb) (C := q.1) ⟨hx, hb, hml, hown, hts⟩ hM1 (cwV n hts (x_good hG h hc) rfl rfl rfl ⟨hC, hd⟩ hR) ⟨x_blind hN, x_recv hK hH hbY hg hq, x_pre hN hNw hU hH⟩ rfl (by simpa using hlen) hls rfl (lv_room hrest) hdec ⟨hcl, hsl⟩
theorem x_cokU {t ci : Nat} {fts : List xV} {q : vw_C} {x : MethodName} (X : x_cx p s m args c D U cc nL cl Tb Nb own) (hM : x_Met cl G Zs Tb Nb M) (hg : G[t]? = some (.inl (ci, fts))) (hq : cl[ci]? = some q) (hyx : M.1 = ⟨M.1.cls, x.name, x.desc⟩)
    (h : ∀ w ∈ [Cond.methodLink own idx x, .sameMethod x.cls M.1.cls x.name x.desc, .selects q.1 x M.1, .instanceMethod M.1, .initialized M.1.cls], w ∈ Tb) (hc : Cond.code M.1 M.2.1 M.2.2.1 M.2.2.2.1 ∈ Tb)
    (hd : M.1.cls ≠ "java/lang/invoke/MethodHandle" ∧ M.1.cls ≠ "java/lang/invoke/VarHandle" ∧ (parseMethodDescriptor x.desc).map (fun d => d.parameters.length) = some n) (hR : (x_rm M).frames + 1 ≤ R.frames ∧ 8 + (M.2.2.1 + 11) + (x_rm M).locals ≤ R.locals) :
    x_cok p l e R s m args below meth c D G Zs U nL cc (0, idx, n + 1, some t, M) := by
  intro H locs cells slots pc ls rest av Y hdec hls hrest hcl hsl hH hcs hlen hrt
  obtain ⟨hx, hb, hml, hown, hts, hK, hK0, hU, hNw, hG, hN⟩ := X
  obtain ⟨b, hb0, hbY⟩ := hrt t rfl
  cases hav : av with
  | nil => rw [hav] at hb0; cases hb0
  | cons v As =>
    rw [hav] at hb0 hcs hlen
    have hv : v = .ref b := by simpa using hb0
    subst hv
    have hM1 := hM l D U Y H.size (.ref b :: As) hK0 hcs
    rw [List.reverse_cons, List.append_assoc]
    exact va_runU (As := As) (rest := rest) (Ts := Tb) (C := q.1) (owner := M.1.cls) (x := x) ⟨hx, hb, hml, hown, hts⟩ hM1 (va_cwU n hts (x_good hG h hc) rfl rfl rfl hyx hd hR) ⟨x_blind hN, x_recv hK hH hbY hg hq, x_pre hN hNw hU hH⟩ rfl (by simpa using hlen) hls rfl (lv_room hrest) hdec ⟨hcl, hsl⟩
theorem x_cokI (X : x_cx p s m args c D U cc nL cl Tb Nb own) (hM : x_Met cl G Zs Tb Nb M) (hret : M.2.2.2.1 = none) (h : ∀ w ∈ [Cond.methodLink own idx M.1, .instanceMethod M.1, .initialized M.1.cls], w ∈ Tb) (hc : Cond.code M.1 M.2.1 M.2.2.1 M.2.2.2.1 ∈ Tb) (hi : M.1.name = "<init>")
    (h0 : ∀ (Y : xY) (av : List Value), x_cs Y (x_args M) av → ∃ (b : Nat) (As : List Value), av = .ref b :: As)
    (hd : M.1.cls ≠ "java/lang/invoke/MethodHandle" ∧ M.1.cls ≠ "java/lang/invoke/VarHandle" ∧ (parseMethodDescriptor M.1.desc).map (fun d => d.parameters.length) = some n) (hR : (x_rm M).frames + 1 ≤ R.frames ∧ 8 + (M.2.2.1 + 11) + (x_rm M).locals ≤ R.locals) :
    x_cok p l e R s m args below meth c D G Zs U nL cc (2, idx, n + 1, none, M) := by
  intro H locs cells slots pc ls rest av Y hdec hls hrest hcl hsl hH hcs hlen hrt
  obtain ⟨hx, hb, hml, hown, hts, hK, hK0, hU, hNw, hG, hN⟩ := X
  obtain ⟨b, As, rfl⟩ := h0 Y av hcs
  have hM1 := hM l D U Y H.size (.ref b :: As) hK0 hcs
  rw [hret] at hM1 hc
  rw [List.reverse_cons, List.append_assoc]
  have hg : GoodIn Tb (Cond.code M.1 M.2.1 M.2.2.1 none :: Tb) := fun w hw => by
    have hm : w ∈ Tb := by
      rcases List.mem_cons.mp hw with q | q
      · rw [q]; exact hc
      · exact q
    exact ⟨hm, good_of_word (hG w hm)⟩
  exact va_runI (As := As) (rest := rest) (Ts := Tb) ⟨hx, hb, hml, hown, hts⟩ hM1 (cwI n hts hg rfl rfl rfl (hts _ (h _ (by simp))) (hts _ (h _ (by simp))) (hts _ (h _ (by simp))) hi hd hR) ⟨x_blind hN, x_pre hN hNw hU hH⟩ rfl (by simpa using hlen) hls rfl (lv_room hrest) hdec ⟨hcl, hsl⟩
theorem x_cokIN {host : String} (X : x_cx p s m args c D U cc nL cl Tb Nb own) (hM : x_Met cl G Zs Tb Nb M) (hret : M.2.2.2.1 = none) (h : ∀ w ∈ [Cond.instanceMethod M.1, .initialized M.1.cls], w ∈ Tb) (hl : Cond.methodLinkNest own idx M.1 host ∈ Nb) (hc : Cond.code M.1 M.2.1 M.2.2.1 M.2.2.2.1 ∈ Tb) (hi : M.1.name = "<init>")
    (h0 : ∀ (Y : xY) (av : List Value), x_cs Y (x_args M) av → ∃ (b : Nat) (As : List Value), av = .ref b :: As)
    (hd : M.1.cls ≠ "java/lang/invoke/MethodHandle" ∧ M.1.cls ≠ "java/lang/invoke/VarHandle" ∧ (parseMethodDescriptor M.1.desc).map (fun d => d.parameters.length) = some n) (hR : (x_rm M).frames + 1 ≤ R.frames ∧ 8 + (M.2.2.1 + 11) + (x_rm M).locals ≤ R.locals) :
    x_cok p l e R s m args below meth c D G Zs U nL cc (2, idx, n + 1, none, M) := by
  intro H locs cells slots pc ls rest av Y hdec hls hrest hcl hsl hH hcs hlen hrt
  obtain ⟨hx, hb, hml, hown, hts, hK, hK0, hU, hNw, hG, hN⟩ := X
  obtain ⟨b, As, rfl⟩ := h0 Y av hcs
  have hM1 := hM l D U Y H.size (.ref b :: As) hK0 hcs
  rw [hret] at hM1 hc
  rw [List.reverse_cons, List.append_assoc]
  have hg : GoodIn Tb (Cond.code M.1 M.2.1 M.2.2.1 none :: Tb) := fun w hw => by
    have hm : w ∈ Tb := by
      rcases List.mem_cons.mp hw with q | q
      · rw [q]; exact hc
      · exact q
    exact ⟨hm, good_of_word (hG w hm)⟩
  exact va_runIN (As := As) (rest := rest) (Ts := Tb) (host := host) ⟨hx, hb, hml, hown, hts⟩ hM1 ⟨va_cnB n hts hg rfl rfl rfl (hNw _ hl) (hts _ (h _ (by simp))) hd hR, hi, hts _ (h _ (by simp))⟩ ⟨x_blind hN, x_pre hN hNw hU hH⟩ rfl (by simpa using hlen) hls rfl (lv_room hrest) hdec ⟨hcl, hsl⟩
theorem x_this {Y : xY} {ts : List xV} {av : List Value} {tg : List Nat} (h : x_cs Y (.inr (.inr (false, tg)) :: ts) av) : ∃ (b : Nat) (As : List Value), av = .ref b :: As := by
  cases av with
  | nil => exact absurd h.1 (by simp)
  | cons v As =>
    have h0 := h.2 0 (.inr (.inr (false, tg))) v (by simp) (by simp)
    obtain ⟨b, t, e0, -⟩ := x_ref_at h0 rfl
    exact ⟨b, As, by rw [e0]⟩
end XQ
end
section
theorem x_sub1 {s : State} {a b : ClassId} {k : Class} (h1 : s.vm.classes[a]? = some k) (h2 : k.super = some b) : s.vm.isSubclass a b = true := by
  have hpos : 0 < s.vm.classes.size := Nat.lt_of_le_of_lt (Nat.zero_le _) (Array.getElem?_eq_some_iff.mp h1).1
  obtain ⟨n, hn⟩ : ∃ n, s.vm.classes.size = n + 1 := ⟨s.vm.classes.size - 1, by omega⟩
  unfold Vm.isSubclass
  rw [hn]
  simp [Vm.isSubclassAux, h1, h2]
section XQ2
variable {p : Program} {l : Launch} {e : Env} {R : Room} {s : State} {m : MethodId} {args : Array Value} {below : List Frame} {meth : Method} {c : Code}
variable {D : va_G} {G : List xG} {Zs : List xZ} {U : State} {nL : Nat} {cc : ByteArray} {cl : List vw_C} {Tb Nb : List Cond} {own : String} {M : xM} {idx n : Nat}
/-- an overriding method: what the reference names is another one's -/
theorem x_cokO {t ci : Nat} {fts : List xV} {q : vw_C} {x : MethodName} {b0 : ByteArray} {m0 : Nat} {r0 : Option FieldType} (X : x_cx p s m args c D U cc nL cl Tb Nb own) (hM : x_Met cl G Zs Tb Nb M) (hg : G[t]? = some (.inl (ci, fts))) (hq : cl[ci]? = some q) (hx0 : Cond.code ⟨x.cls, x.name, x.desc⟩ b0 m0 r0 ∈ Tb)
    (h : ∀ w ∈ [Cond.methodLink own idx x, .sameMethod x.cls x.cls x.name x.desc, .instanceMethod ⟨x.cls, x.name, x.desc⟩, .selects q.1 x M.1, .instanceMethod M.1, .initialized M.1.cls], w ∈ Tb) (hc : Cond.code M.1 M.2.1 M.2.2.1 M.2.2.2.1 ∈ Tb)
    (hd : x.cls ≠ "java/lang/invoke/MethodHandle" ∧ x.cls ≠ "java/lang/invoke/VarHandle" ∧ (parseMethodDescriptor x.desc).map (fun d => d.parameters.length) = some n) (hR : (x_rm M).frames + 1 ≤ R.frames ∧ 8 + (M.2.2.1 + 11) + (x_rm M).locals ≤ R.locals) :
    x_cok p l e R s m args below meth c D G Zs U nL cc (0, idx, n + 1, some t, M) := by
  intro H locs cells slots pc ls rest av Y hdec hls hrest hcl hsl hH hcs hlen hrt
  obtain ⟨hx, hb, hml, hown, hts, hK, hK0, hU, hNw, hG, hN⟩ := X
  obtain ⟨b, hb0, hbY⟩ := hrt t rfl
  cases hav : av with
  | nil => rw [hav] at hb0; cases hb0
  | cons v As =>
    rw [hav] at hb0 hcs hlen
    have hv : v = .ref b := by simpa using hb0
    subst hv
    have hM1 := hM l D U Y H.size (.ref b :: As) hK0 hcs
    rw [List.reverse_cons, List.append_assoc]
    exact va_runU (As := As) (rest := rest) (Ts := Tb) (C := q.1) (owner := x.cls) (x := x) ⟨hx, hb, hml, hown, hts⟩ hM1 (va_cwO n hts (x_good hG h hc) rfl rfl rfl hx0 hd hR) ⟨x_blind hN, x_recv hK hH hbY hg hq, x_pre hN hNw hU hH⟩ rfl (by simpa using hlen) hls rfl (lv_room hrest) hdec ⟨hcl, hsl⟩
theorem x_castSelf {C : String} {cC : ClassId} (h : ClassAt s C cC) : va_Nw (.castable C C) s := by
  have h1 := va_assign h
  unfold va_Nw Cond.before Cond.holds
  simp [Cond.value, h.1, h1]
/-- super.m(..), of which the superclass has it from its own -/
theorem x_cokSUP {x : MethodName} {tg : List Nat} {ts : List xV} (X : x_cx p s m args c D U cc nL cl Tb Nb own) (hM : x_Met cl G Zs Tb Nb M) (hyx : M.1 = ⟨M.1.cls, x.name, x.desc⟩) (hargs : x_args M = .inr (.inr (false, tg)) :: ts)
    (htg : tg.all (fun t => match G[t]? with
      | some (.inl o) => (cl[o.1]?).isSome
      | _ => false) = true)
    (h : ∀ w ∈ [Cond.methodLink own idx x, .sameMethod x.cls M.1.cls x.name x.desc, .superclass own x.cls, .superclass x.cls M.1.cls, .instanceMethod M.1, .initialized M.1.cls], w ∈ Tb) (hc : Cond.code M.1 M.2.1 M.2.2.1 M.2.2.2.1 ∈ Tb)
    (hd : x.name ≠ "<init>" ∧ (parseMethodDescriptor M.1.desc).map (fun d => d.parameters.length) = some n) (hR : (x_rm M).frames + 1 ≤ R.frames ∧ 8 + (M.2.2.1 + 11) + (x_rm M).locals ≤ R.locals) :
    x_cok p l e R s m args below meth c D G Zs U nL cc (2, idx, n + 1, none, M) := by
  intro H locs cells slots pc ls rest av Y hdec hls hrest hcl hsl hH hcs hlen hrt
  obtain ⟨hx, hb, hml, hown, hts, hK, hK0, hU, hNw, hG, hN⟩ := X
  have hcs : x_cs Y (x_args M) av := hcs
  rw [hargs] at hcs
  have h00 := hcs
  obtain ⟨b, As, rfl⟩ := x_this hcs
  obtain ⟨b', t, e0, ht, hbY⟩ := x_ref_at (h00.2 0 (.inr (.inr (false, tg))) (.ref b) (by simp) (by simp)) rfl
  cases e0
  rw [← hargs] at hcs
  have hM1 := hM l D U Y H.size (.ref b :: As) hK0 hcs
  have hrec : ∃ (cell : Cell) (kB : Class), H[b]? = some cell ∧ cell.vm.isStatics = false ∧ s.vm.classes[cell.cls]? = some kB := by
    have h1 := List.all_eq_true.mp htg t ht
    split at h1
    · next o ho =>
      obtain ⟨q, hq⟩ := Option.isSome_iff_exists.mp h1
      obtain ⟨g, h2, h3⟩ := hH.1 b t hbY
      cases h2.symm.trans ho
      obtain ⟨V, ⟨cell, q1, q2, q3, -⟩, -⟩ := h3
      obtain ⟨-, kC, hkC, -⟩ := (hK.1 o.1 q hq).2
      exact ⟨cell, kC, q1, by rw [q3]; rfl, by rw [q2]; exact hkC⟩
    · cases h1
  obtain ⟨cellB, kB, hcB, hoB, hkB⟩ := hrec
  have hK1 : Back l R p e below s args M.1 3 8 (PreOf R (x_rm M).cells (x_rm M).slots (va_Pc (.ref b :: As) (fun S => S.heap.size = H.size ∧ U.vm.Alike S.vm ∧ x_H D G Zs U Y S.heap ∧ ∀ w ∈ Nb, va_Nw w S))) (PostOf (x_Q D G Zs U M (.ref b :: As) Y) (x_rm M).cells (x_rm M).slots (fun q => (∃ u, Y q = some u) ∨ H.size ≤ q)) :=
    back_of (bytes := M.2.1) (maxL := M.2.2.1) (ret := M.2.2.2.1) hM1 (x_blind hN) rfl rfl hR.1 hR.2 (pay_in hts (x_good (ws := []) hG (fun w hw => by cases hw) hc)) List.mem_cons_self (fun a' V hW => word_at hW (Or.inl (by first | rfl | simp [Cond.onTables, Cond.keeps, Cond.steady])) (hts _ (h _ (by simp))))
  intro T hT XS
  obtain ⟨mk, methM, hnamed, hmethM, hstM, habM⟩ := Cond.instanceMethod_spec (hts _ (h (Cond.instanceMethod M.1) (by simp)))
  obtain ⟨methM', cM, hmethM', -, -, -, -, -, -, hsigM⟩ := Cond.code_spec hnamed (hts _ hc)
  cases hmethM.symm.trans hmethM'
  obtain ⟨ps, dk, kp, hps, hdk, hkp, hsuper, -, -, hnid⟩ := Cond.superclass_spec hown (hts _ (h (Cond.superclass own x.cls) (by simp)))
  obtain ⟨ps2, dk2, kp2, hps2, hdk2, hkp2, hsuper2, -, -, -⟩ := Cond.superclass_spec hps (hts _ (h (Cond.superclass x.cls M.1.cls) (by simp)))
  have hn : s.methodNamed? ⟨M.1.cls, x.name, x.desc⟩ = some mk := by rw [← hyx]; exact hnamed
  have hpm : ps2 = mk.cls := Option.some.inj (hps2.symm.trans (findClass_of_methodNamed hnamed))
  have hsub : s.vm.isSubclass ps mk.cls = true := by
    rw [← hpm]
    exact x_sub1 hdk2 hsuper2
  have hsz : (F0 m pc ls ((Value.ref b :: As).reverse ++ rest)).locals.size = c.maxLocals := by rw [hml]; exact hls
  have hlenA : As.length = n := by simpa using hlen
  have hsl2 : ∀ sig, parseMethodDescriptor M.1.desc = some sig → As.length = sig.parameters.length := fun sig hsig => by
    have h2 := hd.2
    rw [hsig] at h2
    rw [hlenA]
    exact (Option.some.inj h2).symm
  obtain ⟨vm₁, X₁, hstep₁⟩ := XS.invokespecialUp hx hown (hts _ (h (Cond.methodLink own idx x) (by simp))) (hts _ (h (Cond.sameMethod x.cls M.1.cls x.name x.desc) (by simp))) hn hmethM hstM habM hd.1 hdk hnid hps hsuper hsub (a := b) (cell := cellB) (by rw [hT]; exact hcB)
    (fun z hz => by rw [hz] at hoB; cases hoB) hkB (g := F0 m pc ls ((Value.ref b :: As).reverse ++ rest)) rfl (argsL := As) (rest := rest) (hsl2 _ hsigM) (by show (Value.ref b :: As).reverse ++ rest = _; rw [List.reverse_cons, List.append_assoc]; rfl) (by rw [hb]; exact hdec)
  obtain ⟨v, ⟨U', l2, c2, s2⟩, X', ⟨g', mk', t', L, e1, e2, hq, h1, hL, h2, h3⟩, hsteps⟩ := hK1 m meth c ⟨T.setVm vm₁, locs, cells, slots⟩ { F0 m pc ls ((Value.ref b :: As).reverse ++ rest) with stack := rest } (.invokespecial idx) mk (Value.ref b :: As).toArray X₁ rfl hsz (by rw [hb]; exact hdec) (lv_room hrest) (X₁.named hnamed) ⟨hcl, hsl, x_pre hN hNw hU hH (T.setVm vm₁) hT X₁.warmed⟩
  dsimp only [Pt.U, Pt.locs, Pt.cells, Pt.slots] at X' e1 e2 h1 h2 h3 hsteps
  subst h1; subst h2; subst h3
  exact ⟨v, (T.setVm vm₁).calling g' mk' (Value.ref b :: As).toArray, t', U', L, hT, X', hL, e1, e2, hq, fun target ht => hstep₁ _ (by rw [doInvoke_state]; exact hsteps.trans ht)⟩
end XQ2
/-! what a new cell holds at first -/
def x_dv (ft : xV) (ty : FieldType) : Bool := match ft, ty with
  | .inl q, .int => decide (q.1 ≤ 0) && decide (0 ≤ q.2)
  | .inl q, .boolean => decide (q.1 ≤ 0) && decide (0 ≤ q.2)
  | .inr (.inl q), .long => decide (q.1 ≤ 0) && decide (0 ≤ q.2)
  | .inr (.inr q), .object _ => q.1
  | .inr (.inr q), .array _ => q.1
  | _, _ => false
theorem x_dv_ok {Y : xY} {ft : xV} {ty : FieldType} (h : x_dv ft ty = true) : x_c Y ft (defaultValue ty) := by
  unfold x_dv at h
  split at h
  · simp only [Bool.and_eq_true, decide_eq_true_eq] at h
    exact ⟨0, rfl, h.1, h.2⟩
  · simp only [Bool.and_eq_true, decide_eq_true_eq] at h
    exact ⟨0, rfl, h.1, h.2⟩
  · simp only [Bool.and_eq_true, decide_eq_true_eq] at h
    exact ⟨0, rfl, h.1, h.2⟩
  · exact Or.inl ⟨rfl, h⟩
  · exact Or.inl ⟨rfl, h⟩
  · cases h
theorem x_dfl {fts : List xV} {ty : Nat → FieldType} (h : (List.range fts.length).all (fun k => match fts[k]? with
    | some ft => x_dv ft (ty k)
    | none => false) = true) (Y : xY) (k : Nat) (ft : xV) (hk : fts[k]? = some ft) : x_c Y ft (defaultValue (ty k)) := by
  have h1 := List.all_eq_true.mp h k (List.mem_range.mpr (List.getElem?_eq_some_iff.mp hk).1)
  rw [hk] at h1
  exact x_dv_ok h1
theorem x_dfa {pre : List xV} {ft : xV} {ty : FieldType} (h : (pre.all (fun t => x_dv t ty) && x_dv ft ty) = true) (Y : xY) (j : Nat) : x_c Y (pre.getD j ft) (defaultValue ty) := by
  rw [Bool.and_eq_true] at h
  rw [List.getD_eq_getElem?_getD]
  cases hq : pre[j]? with
  | none => exact x_dv_ok h.2
  | some w => exact x_dv_ok (List.all_eq_true.mp h.1 w (List.mem_of_getElem? hq))
end
section
/-! Math's min, max and abs: the library's own contracts, as calls of ours -/
section XMT
variable {p : Program} {l : Launch} {e : Env} {R : Room} {s : State} {m : MethodId} {args : Array Value} {below : List Frame} {meth : Method} {c : Code}
variable {D : va_G} {G : List xG} {Zs : List xZ} {U : State} {nL : Nat} {cc : ByteArray} {cl : List vw_C} {Tb Nb : List Cond} {own : String} {idx : Nat}
theorem x_i32 (x : Int32) : -2147483648 ≤ x.toInt ∧ x.toInt ≤ 2147483647 := by
  have h1 := Int32.le_toInt x
  have h2 := Int32.toInt_lt x
  omega
theorem x_i64 (x : Int64) : -9223372036854775808 ≤ x.toInt ∧ x.toInt ≤ 9223372036854775807 := by
  have h1 := Int64.le_toInt x
  have h2 := Int64.toInt_lt x
  omega
def xMm2 (y : MethodName) (cw : ByteArray) : xM := (y, cw, 2, some .int, [.inl (-2147483648, 2147483647), .inl (-2147483648, 2147483647)], [([.inl (-2147483648, 2147483647), .inl (-2147483648, 2147483647)], some (.inl (-2147483648, 2147483647)))], [], (0, 1, 0, 0), none)
def xMm1 (y : MethodName) (cw : ByteArray) : xM := (y, cw, 1, some .int, [.inl (-2147483648, 2147483647)], [([.inl (-2147483648, 2147483647)], some (.inl (-2147483648, 2147483647)))], [], (0, 1, 0, 0), none)
def xMm1L (y : MethodName) (cw : ByteArray) : xM := (y, cw, 2, some .long, [.inr (.inl (-9223372036854775808, 9223372036854775807))], [([.inr (.inl (-9223372036854775808, 9223372036854775807))], some (.inr (.inl (-9223372036854775808, 9223372036854775807))))], [], (0, 1, 0, 0), none)
theorem x_pure {t : xV} {M : xM} {Y : xY} {H : Heap} {av : List Value} {v : Value} {T : State} {vm' : Vm} (hT : T.heap = H) (hH : x_H D G Zs U Y H) (ho : x_outs M = [(x_args M, some t)]) (hr : x_rt M = none) (he : x_efs M = []) (hv : x_c Y t v) (hcs : x_cs Y (x_args M) av) : x_Q D G Zs U M av Y av.toArray T (.returned (some v)) (T.setVm vm') := by
  refine ⟨some v, Y, (x_args M, some t), rfl, by rw [ho]; exact List.mem_cons_self, ⟨v, rfl, hv⟩, hcs, ?_, ?_, ?_, ?_⟩
  · show x_H D G Zs U Y T.heap
    rw [hT]; exact hH
  · rw [hr]; exact fun q _ => rfl
  · exact x_E.rf
  · exact ⟨Nat.le_refl _, fun q _ _ => rfl⟩
theorem x_two {Y : xY} {t u : xV} {av : List Value} (h : x_cs Y [t, u] av) : ∃ v w, av = [v, w] ∧ x_c Y t v ∧ x_c Y u w := by
  obtain ⟨h1, h2⟩ := h
  match av, h1 with
  | [v, w], _ => exact ⟨v, w, rfl, h2 0 t v rfl rfl, h2 1 u w rfl rfl⟩
theorem x_one {Y : xY} {t : xV} {av : List Value} (h : x_cs Y [t] av) : ∃ v, av = [v] ∧ x_c Y t v := by
  obtain ⟨h1, h2⟩ := h
  match av, h1 with
  | [v], _ => exact ⟨v, rfl, h2 0 t v rfl rfl⟩
theorem x_cokMin (X : x_cx p s m args c D U cc nL cl Tb Nb own) {cw : ByteArray} (hcw : cw = Lib.Math.min.code) (h : ∀ w ∈ [Cond.methodLink own idx Lib.Math.min.name, .static Lib.Math.min.name, .initialized "java/lang/Math", .code Lib.Math.min.name cw 2 (some .int)], w ∈ Tb) (hR : 1 ≤ R.frames ∧ 21 ≤ R.locals) :
    x_cok p l e R s m args below meth c D G Zs U nL cc (1, idx, 2, none, xMm2 Lib.Math.min.name cw) := by
  subst hcw
  intro H locs cells slots pc ls rest av Y hdec hls hrest hcl hsl hH hcs hlen hrt T hT X'
  obtain ⟨hx, hb, hml, hown, hts, -⟩ := X
  obtain ⟨v, w, rfl, ⟨x, rfl, -⟩, ⟨y, rfl, -⟩⟩ := x_two hcs
  obtain ⟨vm', X2, st⟩ := X'.mathMinV hx hown (hts _ (h _ List.mem_cons_self)) (hts _ (h _ (List.mem_cons_of_mem _ List.mem_cons_self))) (hts _ (h _ (List.mem_cons_of_mem _ (List.mem_cons_of_mem _ List.mem_cons_self)))) (hts _ (h _ (List.mem_cons_of_mem _ (List.mem_cons_of_mem _ (List.mem_cons_of_mem _ List.mem_cons_self))))) (g := F0 m pc ls (.int y :: .int x :: rest)) rfl (by rw [hml]; exact hls) (a := x) (b := y) (rest := rest) rfl (by rw [hb]; exact hdec) hR.1 (by show 2 * 0 + _ + 13 ≤ _; omega) hcl hsl
  exact ⟨some (.int _), T, T.setVm vm', T.setVm vm', [], hT, by rw [List.append_nil]; exact X2, fun q hq => (by cases hq), rfl, rfl, x_pure hT hH rfl rfl rfl ⟨_, rfl, x_i32 _⟩ hcs, st⟩
theorem x_cokMax (X : x_cx p s m args c D U cc nL cl Tb Nb own) {cw : ByteArray} (hcw : cw = Lib.Math.max.code) (h : ∀ w ∈ [Cond.methodLink own idx Lib.Math.max.name, .static Lib.Math.max.name, .initialized "java/lang/Math", .code Lib.Math.max.name cw 2 (some .int)], w ∈ Tb) (hR : 1 ≤ R.frames ∧ 21 ≤ R.locals) :
    x_cok p l e R s m args below meth c D G Zs U nL cc (1, idx, 2, none, xMm2 Lib.Math.max.name cw) := by
  subst hcw
  intro H locs cells slots pc ls rest av Y hdec hls hrest hcl hsl hH hcs hlen hrt T hT X'
  obtain ⟨hx, hb, hml, hown, hts, -⟩ := X
  obtain ⟨v, w, rfl, ⟨x, rfl, -⟩, ⟨y, rfl, -⟩⟩ := x_two hcs
  obtain ⟨vm', X2, st⟩ := va_mathMaxV X' hx hown (hts _ (h _ List.mem_cons_self)) (hts _ (h _ (List.mem_cons_of_mem _ List.mem_cons_self))) (hts _ (h _ (List.mem_cons_of_mem _ (List.mem_cons_of_mem _ List.mem_cons_self)))) (hts _ (h _ (List.mem_cons_of_mem _ (List.mem_cons_of_mem _ (List.mem_cons_of_mem _ List.mem_cons_self))))) (g := F0 m pc ls (.int y :: .int x :: rest)) rfl (by rw [hml]; exact hls) (a := x) (b := y) (rest := rest) rfl (by rw [hb]; exact hdec) hR.1 (by show 2 * 0 + _ + 13 ≤ _; omega) hcl hsl
  exact ⟨some (.int _), T, T.setVm vm', T.setVm vm', [], hT, by rw [List.append_nil]; exact X2, fun q hq => (by cases hq), rfl, rfl, x_pure hT hH rfl rfl rfl ⟨_, rfl, x_i32 _⟩ hcs, st⟩
theorem x_cokAbs (X : x_cx p s m args c D U cc nL cl Tb Nb own) {cw : ByteArray} (hcw : cw = Lib.Math.abs.code) (h : ∀ w ∈ [Cond.methodLink own idx Lib.Math.abs.name, .static Lib.Math.abs.name, .initialized "java/lang/Math", .code Lib.Math.abs.name cw 1 (some .int)], w ∈ Tb) (hR : 1 ≤ R.frames ∧ 21 ≤ R.locals) :
    x_cok p l e R s m args below meth c D G Zs U nL cc (1, idx, 1, none, xMm1 Lib.Math.abs.name cw) := by
  subst hcw
  intro H locs cells slots pc ls rest av Y hdec hls hrest hcl hsl hH hcs hlen hrt T hT X'
  obtain ⟨hx, hb, hml, hown, hts, -⟩ := X
  obtain ⟨v, rfl, ⟨x, rfl, -⟩⟩ := x_one hcs
  obtain ⟨vm', X2, st⟩ := va_mathAbsV X' hx hown (hts _ (h _ List.mem_cons_self)) (hts _ (h _ (List.mem_cons_of_mem _ List.mem_cons_self))) (hts _ (h _ (List.mem_cons_of_mem _ (List.mem_cons_of_mem _ List.mem_cons_self)))) (hts _ (h _ (List.mem_cons_of_mem _ (List.mem_cons_of_mem _ (List.mem_cons_of_mem _ List.mem_cons_self))))) (g := F0 m pc ls (.int x :: rest)) rfl (by rw [hml]; exact hls) (a := x) (rest := rest) rfl (by rw [hb]; exact hdec) hR.1 (by show 2 * 0 + _ + 13 ≤ _; omega) hcl hsl
  exact ⟨some (.int _), T, T.setVm vm', T.setVm vm', [], hT, by rw [List.append_nil]; exact X2, fun q hq => (by cases hq), rfl, rfl, x_pure hT hH rfl rfl rfl ⟨_, rfl, x_i32 _⟩ hcs, st⟩
theorem x_cokAbsL (X : x_cx p s m args c D U cc nL cl Tb Nb own) {cw : ByteArray} (hcw : cw = Lib.MathLoose.abs_long.code) (h : ∀ w ∈ [Cond.methodLink own idx Lib.MathLoose.abs_long.x, .static Lib.MathLoose.abs_long.x, .initialized "java/lang/Math", .code Lib.MathLoose.abs_long.x cw 2 (some .long)], w ∈ Tb) (hR : 1 ≤ R.frames ∧ 21 ≤ R.locals) :
    x_cok p l e R s m args below meth c D G Zs U nL cc (1, idx, 1, none, xMm1L Lib.MathLoose.abs_long.x cw) := by
  subst hcw
  intro H locs cells slots pc ls rest av Y hdec hls hrest hcl hsl hH hcs hlen hrt T hT X'
  obtain ⟨hx, hb, hml, hown, hts, -⟩ := X
  obtain ⟨v, rfl, ⟨x, rfl, -⟩⟩ := x_one hcs
  obtain ⟨vm', X2, st⟩ := va_abs_longV X' hx hown (hts _ (h _ List.mem_cons_self)) (hts _ (h _ (List.mem_cons_of_mem _ List.mem_cons_self))) (hts _ (h _ (List.mem_cons_of_mem _ (List.mem_cons_of_mem _ List.mem_cons_self)))) (hts _ (h _ (List.mem_cons_of_mem _ (List.mem_cons_of_mem _ (List.mem_cons_of_mem _ List.mem_cons_self))))) (g := F0 m pc ls (.long x :: rest)) rfl (by rw [hml]; exact hls) (a := x) (rest := rest) rfl (by rw [hb]; exact hdec) hR.1 (by show 2 * 0 + _ + 13 ≤ _; omega) hcl hsl
  exact ⟨some (.long _), T, T.setVm vm', T.setVm vm', [], hT, by rw [List.append_nil]; exact X2, fun q hq => (by cases hq), rfl, rfl, x_pure hT hH rfl rfl rfl ⟨_, rfl, x_i64 _⟩ hcs, st⟩
end XMT
end
section
-- ===== PART A: goes FIRST, ahead of the names: the tables' words, and 'selects' of the private methods out of them =====
/-- a private method of a class that the tables say can be made, by its rows of tables_1 -/
def lw_okq (q : MethodName × Nat) : Prop := (q.1.cls ≠ "java/lang/invoke/MethodHandle" ∧ q.1.cls ≠ "java/lang/invoke/VarHandle") ∧ Cond.instantiable q.1.cls q.2 ∈ tables_1 ∧ Cond.privateMethod q.1 ∈ tables_1 ∧ Cond.instanceMethod q.1 ∈ tables_1
theorem lw_p0 : lw_okq (⟨"TwinFires$Land", "isTaken", "(II)Z"⟩, 16) := ⟨⟨by decide +kernel, by decide +kernel⟩, List.mem_of_getElem? (i := 31) (by decide +kernel), List.mem_of_getElem? (i := 308) (by decide +kernel), List.mem_of_getElem? (i := 309) (by decide +kernel)⟩
theorem lw_p1 : lw_okq (⟨"TwinFires", "counted", "(I)I"⟩, 9) := ⟨⟨by decide +kernel, by decide +kernel⟩, List.mem_of_getElem? (i := 23) (by decide +kernel), List.mem_of_getElem? (i := 312) (by decide +kernel), List.mem_of_getElem? (i := 313) (by decide +kernel)⟩
theorem lw_p2 : lw_okq (⟨"TwinFires", "countedAs", "(II)I"⟩, 9) := ⟨⟨by decide +kernel, by decide +kernel⟩, List.mem_of_getElem? (i := 23) (by decide +kernel), List.mem_of_getElem? (i := 316) (by decide +kernel), List.mem_of_getElem? (i := 317) (by decide +kernel)⟩
theorem lw_p3 : lw_okq (⟨"TwinFires", "lookNow", "()V"⟩, 9) := ⟨⟨by decide +kernel, by decide +kernel⟩, List.mem_of_getElem? (i := 23) (by decide +kernel), List.mem_of_getElem? (i := 477) (by decide +kernel), List.mem_of_getElem? (i := 478) (by decide +kernel)⟩
theorem lw_p4 : lw_okq (⟨"TwinFires$Eyes", "isHiddenByHill", "(LTwinFires$Land;II)Z"⟩, 4) := ⟨⟨by decide +kernel, by decide +kernel⟩, List.mem_of_getElem? (i := 186) (by decide +kernel), List.mem_of_getElem? (i := 495) (by decide +kernel), List.mem_of_getElem? (i := 496) (by decide +kernel)⟩
theorem lw_p5 : lw_okq (⟨"TwinFires$Line", "along", "(II)I"⟩, 8) := ⟨⟨by decide +kernel, by decide +kernel⟩, List.mem_of_getElem? (i := 192) (by decide +kernel), List.mem_of_getElem? (i := 507) (by decide +kernel), List.mem_of_getElem? (i := 508) (by decide +kernel)⟩
theorem lw_p6 : lw_okq (⟨"TwinFires$Eyes", "gatherThings", "(LTwinFires$Land;II)V"⟩, 4) := ⟨⟨by decide +kernel, by decide +kernel⟩, List.mem_of_getElem? (i := 186) (by decide +kernel), List.mem_of_getElem? (i := 519) (by decide +kernel), List.mem_of_getElem? (i := 520) (by decide +kernel)⟩
theorem lw_p7 : lw_okq (⟨"TwinFires", "setFraction", "(JJ)V"⟩, 9) := ⟨⟨by decide +kernel, by decide +kernel⟩, List.mem_of_getElem? (i := 23) (by decide +kernel), List.mem_of_getElem? (i := 536) (by decide +kernel), List.mem_of_getElem? (i := 537) (by decide +kernel)⟩
theorem lw_p8 : lw_okq (⟨"TwinFires$Text", "nextToken", "()I"⟩, 5) := ⟨⟨by decide +kernel, by decide +kernel⟩, List.mem_of_getElem? (i := 162) (by decide +kernel), List.mem_of_getElem? (i := 579) (by decide +kernel), List.mem_of_getElem? (i := 580) (by decide +kernel)⟩
theorem lw_p9 : lw_okq (⟨"TwinFires$Text", "passAll", "(II)V"⟩, 5) := ⟨⟨by decide +kernel, by decide +kernel⟩, List.mem_of_getElem? (i := 162) (by decide +kernel), List.mem_of_getElem? (i := 583) (by decide +kernel), List.mem_of_getElem? (i := 584) (by decide +kernel)⟩
theorem lw_p10 : lw_okq (⟨"TwinFires$Text", "itemHere", "()I"⟩, 5) := ⟨⟨by decide +kernel, by decide +kernel⟩, List.mem_of_getElem? (i := 162) (by decide +kernel), List.mem_of_getElem? (i := 587) (by decide +kernel), List.mem_of_getElem? (i := 588) (by decide +kernel)⟩
theorem lw_p11 : lw_okq (⟨"TwinFires$Text", "isWordHere", "(Ljava/lang/String;)Z"⟩, 5) := ⟨⟨by decide +kernel, by decide +kernel⟩, List.mem_of_getElem? (i := 162) (by decide +kernel), List.mem_of_getElem? (i := 604) (by decide +kernel), List.mem_of_getElem? (i := 605) (by decide +kernel)⟩
theorem lw_p12 : lw_okq (⟨"TwinFires$Text", "numberHere", "()I"⟩, 5) := ⟨⟨by decide +kernel, by decide +kernel⟩, List.mem_of_getElem? (i := 162) (by decide +kernel), List.mem_of_getElem? (i := 659) (by decide +kernel), List.mem_of_getElem? (i := 660) (by decide +kernel)⟩
theorem lw_p13 : lw_okq (⟨"TwinFires", "gatherNow", "()V"⟩, 9) := ⟨⟨by decide +kernel, by decide +kernel⟩, List.mem_of_getElem? (i := 23) (by decide +kernel), List.mem_of_getElem? (i := 701) (by decide +kernel), List.mem_of_getElem? (i := 702) (by decide +kernel)⟩
theorem lw_p14 : lw_okq (⟨"TwinFires", "isLawfulIn", "(II)Z"⟩, 9) := ⟨⟨by decide +kernel, by decide +kernel⟩, List.mem_of_getElem? (i := 23) (by decide +kernel), List.mem_of_getElem? (i := 737) (by decide +kernel), List.mem_of_getElem? (i := 738) (by decide +kernel)⟩
theorem lw_p15 : lw_okq (⟨"TwinFires", "worksFor", "(IIZ)I"⟩, 9) := ⟨⟨by decide +kernel, by decide +kernel⟩, List.mem_of_getElem? (i := 23) (by decide +kernel), List.mem_of_getElem? (i := 745) (by decide +kernel), List.mem_of_getElem? (i := 746) (by decide +kernel)⟩
def lw_privs_1 : List (MethodName × Nat) := [(⟨"TwinFires$Land", "isTaken", "(II)Z"⟩, 16), (⟨"TwinFires", "counted", "(I)I"⟩, 9), (⟨"TwinFires", "countedAs", "(II)I"⟩, 9), (⟨"TwinFires", "lookNow", "()V"⟩, 9), (⟨"TwinFires$Eyes", "isHiddenByHill", "(LTwinFires$Land;II)Z"⟩, 4), (⟨"TwinFires$Line", "along", "(II)I"⟩, 8), (⟨"TwinFires$Eyes", "gatherThings", "(LTwinFires$Land;II)V"⟩, 4), (⟨"TwinFires", "setFraction", "(JJ)V"⟩, 9), (⟨"TwinFires$Text", "nextToken", "()I"⟩, 5), (⟨"TwinFires$Text", "passAll", "(II)V"⟩, 5), (⟨"TwinFires$Text", "itemHere", "()I"⟩, 5), (⟨"TwinFires$Text", "isWordHere", "(Ljava/lang/String;)Z"⟩, 5), (⟨"TwinFires$Text", "numberHere", "()I"⟩, 5), (⟨"TwinFires", "gatherNow", "()V"⟩, 9), (⟨"TwinFires", "isLawfulIn", "(II)Z"⟩, 9), (⟨"TwinFires", "worksFor", "(IIZ)I"⟩, 9)]
theorem lw_r1 : ∀ q ∈ lw_privs_1, lw_okq q := List.forall_mem_cons.mpr ⟨lw_p0, List.forall_mem_cons.mpr ⟨lw_p1, List.forall_mem_cons.mpr ⟨lw_p2, List.forall_mem_cons.mpr ⟨lw_p3, List.forall_mem_cons.mpr ⟨lw_p4, List.forall_mem_cons.mpr ⟨lw_p5, List.forall_mem_cons.mpr ⟨lw_p6, List.forall_mem_cons.mpr ⟨lw_p7, List.forall_mem_cons.mpr ⟨lw_p8, List.forall_mem_cons.mpr ⟨lw_p9, List.forall_mem_cons.mpr ⟨lw_p10, List.forall_mem_cons.mpr ⟨lw_p11, List.forall_mem_cons.mpr ⟨lw_p12, List.forall_mem_cons.mpr ⟨lw_p13, List.forall_mem_cons.mpr ⟨lw_p14, List.forall_mem_cons.mpr ⟨lw_p15, fun _ h => absurd h List.not_mem_nil⟩⟩⟩⟩⟩⟩⟩⟩⟩⟩⟩⟩⟩⟩⟩⟩
theorem lw_p16 : lw_okq (⟨"TwinFires$Eyes", "towerTo", "(LTwinFires$Land;III)I"⟩, 4) := ⟨⟨by decide +kernel, by decide +kernel⟩, List.mem_of_getElem? (i := 186) (by decide +kernel), List.mem_of_getElem? (i := 771) (by decide +kernel), List.mem_of_getElem? (i := 772) (by decide +kernel)⟩
theorem lw_p17 : lw_okq (⟨"TwinFires", "isLawfulNow", "(I)Z"⟩, 9) := ⟨⟨by decide +kernel, by decide +kernel⟩, List.mem_of_getElem? (i := 23) (by decide +kernel), List.mem_of_getElem? (i := 786) (by decide +kernel), List.mem_of_getElem? (i := 787) (by decide +kernel)⟩
theorem lw_p18 : lw_okq (⟨"TwinFires$Rows", "spreadBehind", "(I)Z"⟩, 6) := ⟨⟨by decide +kernel, by decide +kernel⟩, List.mem_of_getElem? (i := 239) (by decide +kernel), List.mem_of_getElem? (i := 795) (by decide +kernel), List.mem_of_getElem? (i := 796) (by decide +kernel)⟩
theorem lw_p19 : lw_okq (⟨"TwinFires$Rows", "nextNearer", "(I)I"⟩, 6) := ⟨⟨by decide +kernel, by decide +kernel⟩, List.mem_of_getElem? (i := 239) (by decide +kernel), List.mem_of_getElem? (i := 806) (by decide +kernel), List.mem_of_getElem? (i := 807) (by decide +kernel)⟩
theorem lw_p20 : lw_okq (⟨"TwinFires$Rows", "isNearMarked", "(III)Z"⟩, 6) := ⟨⟨by decide +kernel, by decide +kernel⟩, List.mem_of_getElem? (i := 239) (by decide +kernel), List.mem_of_getElem? (i := 841) (by decide +kernel), List.mem_of_getElem? (i := 842) (by decide +kernel)⟩
theorem lw_p21 : lw_okq (⟨"TwinFires$Rows", "dropDeadEnds", "(LTwinFires$Land;II)V"⟩, 6) := ⟨⟨by decide +kernel, by decide +kernel⟩, List.mem_of_getElem? (i := 239) (by decide +kernel), List.mem_of_getElem? (i := 850) (by decide +kernel), List.mem_of_getElem? (i := 851) (by decide +kernel)⟩
theorem lw_p22 : lw_okq (⟨"TwinFires$Rows", "leastMarked", "(III)I"⟩, 6) := ⟨⟨by decide +kernel, by decide +kernel⟩, List.mem_of_getElem? (i := 239) (by decide +kernel), List.mem_of_getElem? (i := 854) (by decide +kernel), List.mem_of_getElem? (i := 855) (by decide +kernel)⟩
theorem lw_p23 : lw_okq (⟨"TwinFires$Rows", "readOneHour", "(LTwinFires$Land;I)Z"⟩, 6) := ⟨⟨by decide +kernel, by decide +kernel⟩, List.mem_of_getElem? (i := 239) (by decide +kernel), List.mem_of_getElem? (i := 877) (by decide +kernel), List.mem_of_getElem? (i := 878) (by decide +kernel)⟩
theorem lw_p24 : lw_okq (⟨"TwinFires$Rows", "mostReadNear", "(I)I"⟩, 6) := ⟨⟨by decide +kernel, by decide +kernel⟩, List.mem_of_getElem? (i := 239) (by decide +kernel), List.mem_of_getElem? (i := 881) (by decide +kernel), List.mem_of_getElem? (i := 882) (by decide +kernel)⟩
theorem lw_p25 : lw_okq (⟨"TwinFires$Rows", "isAllRead", "(I)Z"⟩, 6) := ⟨⟨by decide +kernel, by decide +kernel⟩, List.mem_of_getElem? (i := 239) (by decide +kernel), List.mem_of_getElem? (i := 885) (by decide +kernel), List.mem_of_getElem? (i := 886) (by decide +kernel)⟩
theorem lw_p26 : lw_okq (⟨"TwinFires", "suspects", "(I)I"⟩, 9) := ⟨⟨by decide +kernel, by decide +kernel⟩, List.mem_of_getElem? (i := 23) (by decide +kernel), List.mem_of_getElem? (i := 901) (by decide +kernel), List.mem_of_getElem? (i := 902) (by decide +kernel)⟩
theorem lw_p27 : lw_okq (⟨"TwinFires", "isAsReported", "(I)Z"⟩, 9) := ⟨⟨by decide +kernel, by decide +kernel⟩, List.mem_of_getElem? (i := 23) (by decide +kernel), List.mem_of_getElem? (i := 906) (by decide +kernel), List.mem_of_getElem? (i := 907) (by decide +kernel)⟩
theorem lw_p28 : lw_okq (⟨"TwinFires", "isTrue", "(II)Z"⟩, 9) := ⟨⟨by decide +kernel, by decide +kernel⟩, List.mem_of_getElem? (i := 23) (by decide +kernel), List.mem_of_getElem? (i := 910) (by decide +kernel), List.mem_of_getElem? (i := 911) (by decide +kernel)⟩
theorem lw_p29 : lw_okq (⟨"TwinFires", "weight", "(II)J"⟩, 9) := ⟨⟨by decide +kernel, by decide +kernel⟩, List.mem_of_getElem? (i := 23) (by decide +kernel), List.mem_of_getElem? (i := 922) (by decide +kernel), List.mem_of_getElem? (i := 923) (by decide +kernel)⟩
theorem lw_p30 : lw_okq (⟨"TwinFiresModel", "begins", "()V"⟩, 27) := ⟨⟨by decide +kernel, by decide +kernel⟩, List.mem_of_getElem? (i := 986) (by decide +kernel), List.mem_of_getElem? (i := 992) (by decide +kernel), List.mem_of_getElem? (i := 993) (by decide +kernel)⟩
theorem lw_p31 : lw_okq (⟨"TwinFiresModel", "ofHill", "(II)I"⟩, 27) := ⟨⟨by decide +kernel, by decide +kernel⟩, List.mem_of_getElem? (i := 986) (by decide +kernel), List.mem_of_getElem? (i := 1088) (by decide +kernel), List.mem_of_getElem? (i := 1089) (by decide +kernel)⟩
def lw_privs_2 : List (MethodName × Nat) := [(⟨"TwinFires$Eyes", "towerTo", "(LTwinFires$Land;III)I"⟩, 4), (⟨"TwinFires", "isLawfulNow", "(I)Z"⟩, 9), (⟨"TwinFires$Rows", "spreadBehind", "(I)Z"⟩, 6), (⟨"TwinFires$Rows", "nextNearer", "(I)I"⟩, 6), (⟨"TwinFires$Rows", "isNearMarked", "(III)Z"⟩, 6), (⟨"TwinFires$Rows", "dropDeadEnds", "(LTwinFires$Land;II)V"⟩, 6), (⟨"TwinFires$Rows", "leastMarked", "(III)I"⟩, 6), (⟨"TwinFires$Rows", "readOneHour", "(LTwinFires$Land;I)Z"⟩, 6), (⟨"TwinFires$Rows", "mostReadNear", "(I)I"⟩, 6), (⟨"TwinFires$Rows", "isAllRead", "(I)Z"⟩, 6), (⟨"TwinFires", "suspects", "(I)I"⟩, 9), (⟨"TwinFires", "isAsReported", "(I)Z"⟩, 9), (⟨"TwinFires", "isTrue", "(II)Z"⟩, 9), (⟨"TwinFires", "weight", "(II)J"⟩, 9), (⟨"TwinFiresModel", "begins", "()V"⟩, 27), (⟨"TwinFiresModel", "ofHill", "(II)I"⟩, 27)]
theorem lw_r2 : ∀ q ∈ lw_privs_2, lw_okq q := List.forall_mem_cons.mpr ⟨lw_p16, List.forall_mem_cons.mpr ⟨lw_p17, List.forall_mem_cons.mpr ⟨lw_p18, List.forall_mem_cons.mpr ⟨lw_p19, List.forall_mem_cons.mpr ⟨lw_p20, List.forall_mem_cons.mpr ⟨lw_p21, List.forall_mem_cons.mpr ⟨lw_p22, List.forall_mem_cons.mpr ⟨lw_p23, List.forall_mem_cons.mpr ⟨lw_p24, List.forall_mem_cons.mpr ⟨lw_p25, List.forall_mem_cons.mpr ⟨lw_p26, List.forall_mem_cons.mpr ⟨lw_p27, List.forall_mem_cons.mpr ⟨lw_p28, List.forall_mem_cons.mpr ⟨lw_p29, List.forall_mem_cons.mpr ⟨lw_p30, List.forall_mem_cons.mpr ⟨lw_p31, fun _ h => absurd h List.not_mem_nil⟩⟩⟩⟩⟩⟩⟩⟩⟩⟩⟩⟩⟩⟩⟩⟩
theorem lw_p32 : lw_okq (⟨"TwinFiresModel", "bad", "()I"⟩, 27) := ⟨⟨by decide +kernel, by decide +kernel⟩, List.mem_of_getElem? (i := 986) (by decide +kernel), List.mem_of_getElem? (i := 1092) (by decide +kernel), List.mem_of_getElem? (i := 1093) (by decide +kernel)⟩
theorem lw_p33 : lw_okq (⟨"TwinFiresModel", "refuses", "(II)I"⟩, 27) := ⟨⟨by decide +kernel, by decide +kernel⟩, List.mem_of_getElem? (i := 986) (by decide +kernel), List.mem_of_getElem? (i := 1096) (by decide +kernel), List.mem_of_getElem? (i := 1097) (by decide +kernel)⟩
theorem lw_p34 : lw_okq (⟨"TwinFiresModel", "full", "()I"⟩, 27) := ⟨⟨by decide +kernel, by decide +kernel⟩, List.mem_of_getElem? (i := 986) (by decide +kernel), List.mem_of_getElem? (i := 1100) (by decide +kernel), List.mem_of_getElem? (i := 1101) (by decide +kernel)⟩
theorem lw_p35 : lw_okq (⟨"TwinFiresModel", "puts", "(II)I"⟩, 27) := ⟨⟨by decide +kernel, by decide +kernel⟩, List.mem_of_getElem? (i := 986) (by decide +kernel), List.mem_of_getElem? (i := 1116) (by decide +kernel), List.mem_of_getElem? (i := 1117) (by decide +kernel)⟩
theorem lw_p36 : lw_okq (⟨"TwinFiresModel", "isThing", "(I)Z"⟩, 27) := ⟨⟨by decide +kernel, by decide +kernel⟩, List.mem_of_getElem? (i := 986) (by decide +kernel), List.mem_of_getElem? (i := 1124) (by decide +kernel), List.mem_of_getElem? (i := 1125) (by decide +kernel)⟩
theorem lw_p37 : lw_okq (⟨"TwinFiresModel", "ofThing", "(II)I"⟩, 27) := ⟨⟨by decide +kernel, by decide +kernel⟩, List.mem_of_getElem? (i := 986) (by decide +kernel), List.mem_of_getElem? (i := 1128) (by decide +kernel), List.mem_of_getElem? (i := 1129) (by decide +kernel)⟩
theorem lw_p38 : lw_okq (⟨"TwinFiresModel", "no", "()I"⟩, 27) := ⟨⟨by decide +kernel, by decide +kernel⟩, List.mem_of_getElem? (i := 986) (by decide +kernel), List.mem_of_getElem? (i := 1132) (by decide +kernel), List.mem_of_getElem? (i := 1133) (by decide +kernel)⟩
theorem lw_p39 : lw_okq (⟨"TwinFiresModel", "highIn", "(II)I"⟩, 27) := ⟨⟨by decide +kernel, by decide +kernel⟩, List.mem_of_getElem? (i := 986) (by decide +kernel), List.mem_of_getElem? (i := 1144) (by decide +kernel), List.mem_of_getElem? (i := 1145) (by decide +kernel)⟩
theorem lw_p40 : lw_okq (⟨"TwinFiresModel", "isHill", "(I)Z"⟩, 27) := ⟨⟨by decide +kernel, by decide +kernel⟩, List.mem_of_getElem? (i := 986) (by decide +kernel), List.mem_of_getElem? (i := 1155) (by decide +kernel), List.mem_of_getElem? (i := 1156) (by decide +kernel)⟩
theorem lw_p41 : lw_okq (⟨"TwinFiresModel", "isSight", "(IIII)Z"⟩, 27) := ⟨⟨by decide +kernel, by decide +kernel⟩, List.mem_of_getElem? (i := 986) (by decide +kernel), List.mem_of_getElem? (i := 1159) (by decide +kernel), List.mem_of_getElem? (i := 1160) (by decide +kernel)⟩
theorem lw_p42 : lw_okq (⟨"TwinFiresModel", "hides", "(IIIII)Z"⟩, 27) := ⟨⟨by decide +kernel, by decide +kernel⟩, List.mem_of_getElem? (i := 986) (by decide +kernel), List.mem_of_getElem? (i := 1163) (by decide +kernel), List.mem_of_getElem? (i := 1164) (by decide +kernel)⟩
theorem lw_p43 : lw_okq (⟨"TwinFiresModel", "tells", "(JJ)I"⟩, 27) := ⟨⟨by decide +kernel, by decide +kernel⟩, List.mem_of_getElem? (i := 986) (by decide +kernel), List.mem_of_getElem? (i := 1171) (by decide +kernel), List.mem_of_getElem? (i := 1172) (by decide +kernel)⟩
theorem lw_p44 : lw_okq (⟨"TwinFiresModel", "reads", "()Z"⟩, 27) := ⟨⟨by decide +kernel, by decide +kernel⟩, List.mem_of_getElem? (i := 986) (by decide +kernel), List.mem_of_getElem? (i := 1192) (by decide +kernel), List.mem_of_getElem? (i := 1193) (by decide +kernel)⟩
theorem lw_p45 : lw_okq (⟨"TwinFiresModel", "scans", "()V"⟩, 27) := ⟨⟨by decide +kernel, by decide +kernel⟩, List.mem_of_getElem? (i := 986) (by decide +kernel), List.mem_of_getElem? (i := 1196) (by decide +kernel), List.mem_of_getElem? (i := 1197) (by decide +kernel)⟩
theorem lw_p46 : lw_okq (⟨"TwinFiresModel", "isAt", "(II)Z"⟩, 27) := ⟨⟨by decide +kernel, by decide +kernel⟩, List.mem_of_getElem? (i := 986) (by decide +kernel), List.mem_of_getElem? (i := 1200) (by decide +kernel), List.mem_of_getElem? (i := 1201) (by decide +kernel)⟩
theorem lw_p47 : lw_okq (⟨"TwinFiresModel", "tellsItem", "(I)Z"⟩, 27) := ⟨⟨by decide +kernel, by decide +kernel⟩, List.mem_of_getElem? (i := 986) (by decide +kernel), List.mem_of_getElem? (i := 1222) (by decide +kernel), List.mem_of_getElem? (i := 1223) (by decide +kernel)⟩
def lw_privs_3 : List (MethodName × Nat) := [(⟨"TwinFiresModel", "bad", "()I"⟩, 27), (⟨"TwinFiresModel", "refuses", "(II)I"⟩, 27), (⟨"TwinFiresModel", "full", "()I"⟩, 27), (⟨"TwinFiresModel", "puts", "(II)I"⟩, 27), (⟨"TwinFiresModel", "isThing", "(I)Z"⟩, 27), (⟨"TwinFiresModel", "ofThing", "(II)I"⟩, 27), (⟨"TwinFiresModel", "no", "()I"⟩, 27), (⟨"TwinFiresModel", "highIn", "(II)I"⟩, 27), (⟨"TwinFiresModel", "isHill", "(I)Z"⟩, 27), (⟨"TwinFiresModel", "isSight", "(IIII)Z"⟩, 27), (⟨"TwinFiresModel", "hides", "(IIIII)Z"⟩, 27), (⟨"TwinFiresModel", "tells", "(JJ)I"⟩, 27), (⟨"TwinFiresModel", "reads", "()Z"⟩, 27), (⟨"TwinFiresModel", "scans", "()V"⟩, 27), (⟨"TwinFiresModel", "isAt", "(II)Z"⟩, 27), (⟨"TwinFiresModel", "tellsItem", "(I)Z"⟩, 27)]
theorem lw_r3 : ∀ q ∈ lw_privs_3, lw_okq q := List.forall_mem_cons.mpr ⟨lw_p32, List.forall_mem_cons.mpr ⟨lw_p33, List.forall_mem_cons.mpr ⟨lw_p34, List.forall_mem_cons.mpr ⟨lw_p35, List.forall_mem_cons.mpr ⟨lw_p36, List.forall_mem_cons.mpr ⟨lw_p37, List.forall_mem_cons.mpr ⟨lw_p38, List.forall_mem_cons.mpr ⟨lw_p39, List.forall_mem_cons.mpr ⟨lw_p40, List.forall_mem_cons.mpr ⟨lw_p41, List.forall_mem_cons.mpr ⟨lw_p42, List.forall_mem_cons.mpr ⟨lw_p43, List.forall_mem_cons.mpr ⟨lw_p44, List.forall_mem_cons.mpr ⟨lw_p45, List.forall_mem_cons.mpr ⟨lw_p46, List.forall_mem_cons.mpr ⟨lw_p47, fun _ h => absurd h List.not_mem_nil⟩⟩⟩⟩⟩⟩⟩⟩⟩⟩⟩⟩⟩⟩⟩⟩
theorem lw_p48 : lw_okq (⟨"TwinFiresModel", "isSet", "(I)Z"⟩, 27) := ⟨⟨by decide +kernel, by decide +kernel⟩, List.mem_of_getElem? (i := 986) (by decide +kernel), List.mem_of_getElem? (i := 1233) (by decide +kernel), List.mem_of_getElem? (i := 1234) (by decide +kernel)⟩
theorem lw_p49 : lw_okq (⟨"TwinFiresModel", "all", "()I"⟩, 27) := ⟨⟨by decide +kernel, by decide +kernel⟩, List.mem_of_getElem? (i := 986) (by decide +kernel), List.mem_of_getElem? (i := 1237) (by decide +kernel), List.mem_of_getElem? (i := 1238) (by decide +kernel)⟩
theorem lw_p50 : lw_okq (⟨"TwinFiresModel", "looksNow", "()V"⟩, 27) := ⟨⟨by decide +kernel, by decide +kernel⟩, List.mem_of_getElem? (i := 986) (by decide +kernel), List.mem_of_getElem? (i := 1241) (by decide +kernel), List.mem_of_getElem? (i := 1242) (by decide +kernel)⟩
theorem lw_p51 : lw_okq (⟨"TwinFiresModel", "looks", "(II)V"⟩, 27) := ⟨⟨by decide +kernel, by decide +kernel⟩, List.mem_of_getElem? (i := 986) (by decide +kernel), List.mem_of_getElem? (i := 1245) (by decide +kernel), List.mem_of_getElem? (i := 1246) (by decide +kernel)⟩
theorem lw_p52 : lw_okq (⟨"TwinFiresModel", "isLawful", "(I)Z"⟩, 27) := ⟨⟨by decide +kernel, by decide +kernel⟩, List.mem_of_getElem? (i := 986) (by decide +kernel), List.mem_of_getElem? (i := 1260) (by decide +kernel), List.mem_of_getElem? (i := 1261) (by decide +kernel)⟩
theorem lw_p53 : lw_okq (⟨"TwinFiresModel", "works", "(IZ)I"⟩, 27) := ⟨⟨by decide +kernel, by decide +kernel⟩, List.mem_of_getElem? (i := 986) (by decide +kernel), List.mem_of_getElem? (i := 1286) (by decide +kernel), List.mem_of_getElem? (i := 1287) (by decide +kernel)⟩
theorem lw_p54 : lw_okq (⟨"TwinFiresModel", "doneCost", "(IZ)I"⟩, 27) := ⟨⟨by decide +kernel, by decide +kernel⟩, List.mem_of_getElem? (i := 986) (by decide +kernel), List.mem_of_getElem? (i := 1290) (by decide +kernel), List.mem_of_getElem? (i := 1291) (by decide +kernel)⟩
theorem lw_p55 : lw_okq (⟨"TwinFiresModel", "lawsNow", "()V"⟩, 27) := ⟨⟨by decide +kernel, by decide +kernel⟩, List.mem_of_getElem? (i := 986) (by decide +kernel), List.mem_of_getElem? (i := 1306) (by decide +kernel), List.mem_of_getElem? (i := 1307) (by decide +kernel)⟩
theorem lw_p56 : lw_okq (⟨"TwinFiresModel", "spreads", "(I)V"⟩, 27) := ⟨⟨by decide +kernel, by decide +kernel⟩, List.mem_of_getElem? (i := 986) (by decide +kernel), List.mem_of_getElem? (i := 1310) (by decide +kernel), List.mem_of_getElem? (i := 1311) (by decide +kernel)⟩
theorem lw_p57 : lw_okq (⟨"TwinFiresModel", "mists", "(I)V"⟩, 27) := ⟨⟨by decide +kernel, by decide +kernel⟩, List.mem_of_getElem? (i := 986) (by decide +kernel), List.mem_of_getElem? (i := 1330) (by decide +kernel), List.mem_of_getElem? (i := 1331) (by decide +kernel)⟩
theorem lw_p58 : lw_okq (⟨"TwinFiresModel", "readOn", "(III)I"⟩, 27) := ⟨⟨by decide +kernel, by decide +kernel⟩, List.mem_of_getElem? (i := 986) (by decide +kernel), List.mem_of_getElem? (i := 1346) (by decide +kernel), List.mem_of_getElem? (i := 1347) (by decide +kernel)⟩
theorem lw_p59 : lw_okq (⟨"TwinFiresModel", "withoutOf", "(I)I"⟩, 27) := ⟨⟨by decide +kernel, by decide +kernel⟩, List.mem_of_getElem? (i := 986) (by decide +kernel), List.mem_of_getElem? (i := 1362) (by decide +kernel), List.mem_of_getElem? (i := 1363) (by decide +kernel)⟩
theorem lw_p60 : lw_okq (⟨"TwinFiresModel", "so", "(IIZ)I"⟩, 27) := ⟨⟨by decide +kernel, by decide +kernel⟩, List.mem_of_getElem? (i := 986) (by decide +kernel), List.mem_of_getElem? (i := 1366) (by decide +kernel), List.mem_of_getElem? (i := 1367) (by decide +kernel)⟩
theorem lw_p61 : lw_okq (⟨"TwinFiresModel", "liesOf", "(II)J"⟩, 27) := ⟨⟨by decide +kernel, by decide +kernel⟩, List.mem_of_getElem? (i := 986) (by decide +kernel), List.mem_of_getElem? (i := 1378) (by decide +kernel), List.mem_of_getElem? (i := 1379) (by decide +kernel)⟩
theorem lw_p62 : lw_okq (⟨"TwinFiresModel", "countOf", "(I)I"⟩, 27) := ⟨⟨by decide +kernel, by decide +kernel⟩, List.mem_of_getElem? (i := 986) (by decide +kernel), List.mem_of_getElem? (i := 1413) (by decide +kernel), List.mem_of_getElem? (i := 1414) (by decide +kernel)⟩
theorem lw_p63 : lw_okq (⟨"TwinFiresModel", "mixed", "(JII)J"⟩, 27) := ⟨⟨by decide +kernel, by decide +kernel⟩, List.mem_of_getElem? (i := 986) (by decide +kernel), List.mem_of_getElem? (i := 1423) (by decide +kernel), List.mem_of_getElem? (i := 1424) (by decide +kernel)⟩
def lw_privs_4 : List (MethodName × Nat) := [(⟨"TwinFiresModel", "isSet", "(I)Z"⟩, 27), (⟨"TwinFiresModel", "all", "()I"⟩, 27), (⟨"TwinFiresModel", "looksNow", "()V"⟩, 27), (⟨"TwinFiresModel", "looks", "(II)V"⟩, 27), (⟨"TwinFiresModel", "isLawful", "(I)Z"⟩, 27), (⟨"TwinFiresModel", "works", "(IZ)I"⟩, 27), (⟨"TwinFiresModel", "doneCost", "(IZ)I"⟩, 27), (⟨"TwinFiresModel", "lawsNow", "()V"⟩, 27), (⟨"TwinFiresModel", "spreads", "(I)V"⟩, 27), (⟨"TwinFiresModel", "mists", "(I)V"⟩, 27), (⟨"TwinFiresModel", "readOn", "(III)I"⟩, 27), (⟨"TwinFiresModel", "withoutOf", "(I)I"⟩, 27), (⟨"TwinFiresModel", "so", "(IIZ)I"⟩, 27), (⟨"TwinFiresModel", "liesOf", "(II)J"⟩, 27), (⟨"TwinFiresModel", "countOf", "(I)I"⟩, 27), (⟨"TwinFiresModel", "mixed", "(JII)J"⟩, 27)]
theorem lw_r4 : ∀ q ∈ lw_privs_4, lw_okq q := List.forall_mem_cons.mpr ⟨lw_p48, List.forall_mem_cons.mpr ⟨lw_p49, List.forall_mem_cons.mpr ⟨lw_p50, List.forall_mem_cons.mpr ⟨lw_p51, List.forall_mem_cons.mpr ⟨lw_p52, List.forall_mem_cons.mpr ⟨lw_p53, List.forall_mem_cons.mpr ⟨lw_p54, List.forall_mem_cons.mpr ⟨lw_p55, List.forall_mem_cons.mpr ⟨lw_p56, List.forall_mem_cons.mpr ⟨lw_p57, List.forall_mem_cons.mpr ⟨lw_p58, List.forall_mem_cons.mpr ⟨lw_p59, List.forall_mem_cons.mpr ⟨lw_p60, List.forall_mem_cons.mpr ⟨lw_p61, List.forall_mem_cons.mpr ⟨lw_p62, List.forall_mem_cons.mpr ⟨lw_p63, fun _ h => absurd h List.not_mem_nil⟩⟩⟩⟩⟩⟩⟩⟩⟩⟩⟩⟩⟩⟩⟩⟩
def lw_privs : List (MethodName × Nat) := lw_privs_1 ++ (lw_privs_2 ++ (lw_privs_3 ++ (lw_privs_4)))
def lw_tbl : List Cond := k2_sels lw_privs ++ tables_1
theorem lw_privs_ok : ∀ q ∈ lw_privs, lw_okq q := by
  show ∀ q ∈ lw_privs_1 ++ (lw_privs_2 ++ (lw_privs_3 ++ (lw_privs_4))), lw_okq q
  exact List.forall_mem_append.mpr ⟨lw_r1, List.forall_mem_append.mpr ⟨lw_r2, List.forall_mem_append.mpr ⟨lw_r3, lw_r4⟩⟩⟩
end
section
def RX0 : String := "TwinFires$Eyes"
def TX0 : u_T := fun k => match k with
  | 0 => ("TwinFires$Eyes", "line", "LTwinFires$Line;", true)
  | 1 => ("TwinFires$Eyes", "view", "[I", true)
  | 2 => ("TwinFires$Eyes", "hidesNow", "[I", true)
  | _ => ("TwinFires$Eyes", "hidesDone", "[I", true)
def tyX0 : Nat → FieldType := fun k => match k with
  | 0 => .object "TwinFires$Line"
  | 1 => .array .int
  | 2 => .array .int
  | _ => .array .int
theorem nmX0 : ∀ a, a < 4 → ∀ b, b < 4 → a ≠ b → (TX0 a).2.1 ≠ (TX0 b).2.1 := by decide +kernel
theorem tyX0_ok : ∀ k, k < 4 → parseFieldDescriptor (TX0 k).2.2.1 = some (tyX0 k) := by decide +kernel
def RX1 : String := "TwinFires$Hedge"
def TX1 : u_T := fun k => match k with
  | 0 => ("TwinFires$Stone", "kind", "I", true)
  | 1 => ("TwinFires$Stone", "x", "I", true)
  | 2 => ("TwinFires$Stone", "y", "I", true)
  | 3 => ("TwinFires$Stone", "h", "I", true)
  | _ => ("TwinFires$Stone", "g", "I", true)
def tyX1 : Nat → FieldType := fun k => match k with
  | 0 => .int
  | 1 => .int
  | 2 => .int
  | 3 => .int
  | _ => .int
theorem nmX1 : ∀ a, a < 5 → ∀ b, b < 5 → a ≠ b → (TX1 a).2.1 ≠ (TX1 b).2.1 := by decide +kernel
theorem tyX1_ok : ∀ k, k < 5 → parseFieldDescriptor (TX1 k).2.2.1 = some (tyX1 k) := by decide +kernel
def RX2 : String := "TwinFires$Land"
def TX2 : u_T := fun k => match k with
  | 0 => ("TwinFires$Land", "hills", "I", false)
  | 1 => ("TwinFires$Land", "x", "[I", true)
  | 2 => ("TwinFires$Land", "y", "[I", true)
  | 3 => ("TwinFires$Land", "height", "[I", true)
  | 4 => ("TwinFires$Land", "report", "[I", true)
  | 5 => ("TwinFires$Land", "blame", "[I", true)
  | 6 => ("TwinFires$Land", "things", "I", false)
  | 7 => ("TwinFires$Land", "stones", "[LTwinFires$Stone;", true)
  | 8 => ("TwinFires$Land", "done", "[I", true)
  | 9 => ("TwinFires$Land", "cost", "[I", true)
  | 10 => ("TwinFires$Land", "dial", "[I", true)
  | 11 => ("TwinFires$Land", "mists", "[I", true)
  | 12 => ("TwinFires$Land", "letters", "I", false)
  | 13 => ("TwinFires$Land", "word", "[I", true)
  | 14 => ("TwinFires$Land", "nightHill", "[I", true)
  | _ => ("TwinFires$Land", "nightHow", "[I", true)
def tyX2 : Nat → FieldType := fun k => match k with
  | 0 => .int
  | 1 => .array .int
  | 2 => .array .int
  | 3 => .array .int
  | 4 => .array .int
  | 5 => .array .int
  | 6 => .int
  | 7 => .array (.object "TwinFires$Stone")
  | 8 => .array .int
  | 9 => .array .int
  | 10 => .array .int
  | 11 => .array .int
  | 12 => .int
  | 13 => .array .int
  | 14 => .array .int
  | _ => .array .int
theorem nmX2 : ∀ a, a < 16 → ∀ b, b < 16 → a ≠ b → (TX2 a).2.1 ≠ (TX2 b).2.1 := by decide +kernel
theorem tyX2_ok : ∀ k, k < 16 → parseFieldDescriptor (TX2 k).2.2.1 = some (tyX2 k) := by decide +kernel
def RX3 : String := "TwinFires$Line"
def TX3 : u_T := fun k => match k with
  | 0 => ("TwinFires$Line", "startX", "I", false)
  | 1 => ("TwinFires$Line", "startY", "I", false)
  | 2 => ("TwinFires$Line", "dx", "I", false)
  | 3 => ("TwinFires$Line", "dy", "I", false)
  | 4 => ("TwinFires$Line", "side", "I", false)
  | 5 => ("TwinFires$Line", "low", "I", false)
  | 6 => ("TwinFires$Line", "end", "I", false)
  | _ => ("TwinFires$Line", "square", "I", false)
def tyX3 : Nat → FieldType := fun k => match k with
  | 0 => .int
  | 1 => .int
  | 2 => .int
  | 3 => .int
  | 4 => .int
  | 5 => .int
  | 6 => .int
  | _ => .int
theorem nmX3 : ∀ a, a < 8 → ∀ b, b < 8 → a ≠ b → (TX3 a).2.1 ≠ (TX3 b).2.1 := by decide +kernel
theorem tyX3_ok : ∀ k, k < 8 → parseFieldDescriptor (TX3 k).2.2.1 = some (tyX3 k) := by decide +kernel
def RX4 : String := "TwinFires$Pine"
def TX4 : u_T := fun k => match k with
  | 0 => ("TwinFires$Stone", "kind", "I", true)
  | 1 => ("TwinFires$Stone", "x", "I", true)
  | 2 => ("TwinFires$Stone", "y", "I", true)
  | 3 => ("TwinFires$Stone", "h", "I", true)
  | _ => ("TwinFires$Stone", "g", "I", true)
def tyX4 : Nat → FieldType := fun k => match k with
  | 0 => .int
  | 1 => .int
  | 2 => .int
  | 3 => .int
  | _ => .int
theorem nmX4 : ∀ a, a < 5 → ∀ b, b < 5 → a ≠ b → (TX4 a).2.1 ≠ (TX4 b).2.1 := by decide +kernel
theorem tyX4_ok : ∀ k, k < 5 → parseFieldDescriptor (TX4 k).2.2.1 = some (tyX4 k) := by decide +kernel
def RX5 : String := "TwinFires$Rows"
def TX5 : u_T := fun k => match k with
  | 0 => ("TwinFires$Rows", "sets", "[I", true)
  | 1 => ("TwinFires$Rows", "found", "I", false)
  | 2 => ("TwinFires$Rows", "hours", "[I", true)
  | 3 => ("TwinFires$Rows", "marks", "[I", true)
  | 4 => ("TwinFires$Rows", "read", "[I", false)
  | _ => ("TwinFires$Rows", "readNext", "[I", false)
def tyX5 : Nat → FieldType := fun k => match k with
  | 0 => .array .int
  | 1 => .int
  | 2 => .array .int
  | 3 => .array .int
  | 4 => .array .int
  | _ => .array .int
theorem nmX5 : ∀ a, a < 6 → ∀ b, b < 6 → a ≠ b → (TX5 a).2.1 ≠ (TX5 b).2.1 := by decide +kernel
theorem tyX5_ok : ∀ k, k < 6 → parseFieldDescriptor (TX5 k).2.2.1 = some (tyX5 k) := by decide +kernel
def RX6 : String := "TwinFires$Stone"
def TX6 : u_T := fun k => match k with
  | 0 => ("TwinFires$Stone", "kind", "I", true)
  | 1 => ("TwinFires$Stone", "x", "I", true)
  | 2 => ("TwinFires$Stone", "y", "I", true)
  | 3 => ("TwinFires$Stone", "h", "I", true)
  | _ => ("TwinFires$Stone", "g", "I", true)
def tyX6 : Nat → FieldType := fun k => match k with
  | 0 => .int
  | 1 => .int
  | 2 => .int
  | 3 => .int
  | _ => .int
theorem nmX6 : ∀ a, a < 5 → ∀ b, b < 5 → a ≠ b → (TX6 a).2.1 ≠ (TX6 b).2.1 := by decide +kernel
theorem tyX6_ok : ∀ k, k < 5 → parseFieldDescriptor (TX6 k).2.2.1 = some (tyX6 k) := by decide +kernel
def RX7 : String := "TwinFires$Text"
def TX7 : u_T := fun k => match k with
  | 0 => ("TwinFires$Text", "bytes", "[I", true)
  | 1 => ("TwinFires$Text", "numbers", "[I", true)
  | 2 => ("TwinFires$Text", "length", "I", false)
  | 3 => ("TwinFires$Text", "tokenAt", "I", false)
  | _ => ("TwinFires$Text", "tokenEnd", "I", false)
def tyX7 : Nat → FieldType := fun k => match k with
  | 0 => .array .int
  | 1 => .array .int
  | 2 => .int
  | 3 => .int
  | _ => .int
theorem nmX7 : ∀ a, a < 5 → ∀ b, b < 5 → a ≠ b → (TX7 a).2.1 ≠ (TX7 b).2.1 := by decide +kernel
theorem tyX7_ok : ∀ k, k < 5 → parseFieldDescriptor (TX7 k).2.2.1 = some (tyX7 k) := by decide +kernel
def RX8 : String := "TwinFires$Topped"
def TX8 : u_T := fun k => match k with
  | 0 => ("TwinFires$Stone", "kind", "I", true)
  | 1 => ("TwinFires$Stone", "x", "I", true)
  | 2 => ("TwinFires$Stone", "y", "I", true)
  | 3 => ("TwinFires$Stone", "h", "I", true)
  | _ => ("TwinFires$Stone", "g", "I", true)
def tyX8 : Nat → FieldType := fun k => match k with
  | 0 => .int
  | 1 => .int
  | 2 => .int
  | 3 => .int
  | _ => .int
theorem nmX8 : ∀ a, a < 5 → ∀ b, b < 5 → a ≠ b → (TX8 a).2.1 ≠ (TX8 b).2.1 := by decide +kernel
theorem tyX8_ok : ∀ k, k < 5 → parseFieldDescriptor (TX8 k).2.2.1 = some (tyX8 k) := by decide +kernel
def RX9 : String := "TwinFires$Wall"
def TX9 : u_T := fun k => match k with
  | 0 => ("TwinFires$Stone", "kind", "I", true)
  | 1 => ("TwinFires$Stone", "x", "I", true)
  | 2 => ("TwinFires$Stone", "y", "I", true)
  | 3 => ("TwinFires$Stone", "h", "I", true)
  | _ => ("TwinFires$Stone", "g", "I", true)
def tyX9 : Nat → FieldType := fun k => match k with
  | 0 => .int
  | 1 => .int
  | 2 => .int
  | 3 => .int
  | _ => .int
theorem nmX9 : ∀ a, a < 5 → ∀ b, b < 5 → a ≠ b → (TX9 a).2.1 ≠ (TX9 b).2.1 := by decide +kernel
theorem tyX9_ok : ∀ k, k < 5 → parseFieldDescriptor (TX9 k).2.2.1 = some (tyX9 k) := by decide +kernel
def RX10 : String := "TwinFires$Wood"
def TX10 : u_T := fun k => match k with
  | 0 => ("TwinFires$Stone", "kind", "I", true)
  | 1 => ("TwinFires$Stone", "x", "I", true)
  | 2 => ("TwinFires$Stone", "y", "I", true)
  | 3 => ("TwinFires$Stone", "h", "I", true)
  | _ => ("TwinFires$Stone", "g", "I", true)
def tyX10 : Nat → FieldType := fun k => match k with
  | 0 => .int
  | 1 => .int
  | 2 => .int
  | 3 => .int
  | _ => .int
theorem nmX10 : ∀ a, a < 5 → ∀ b, b < 5 → a ≠ b → (TX10 a).2.1 ≠ (TX10 b).2.1 := by decide +kernel
theorem tyX10_ok : ∀ k, k < 5 → parseFieldDescriptor (TX10 k).2.2.1 = some (tyX10 k) := by decide +kernel
def RX11 : String := "TwinFires"
def TX11 : u_T := fun k => match k with
  | 0 => ("TwinFires", "here", "LTwinFires$Land;", false)
  | 1 => ("TwinFires", "draft", "LTwinFires$Land;", false)
  | 2 => ("TwinFires", "kept", "[LTwinFires$Land;", true)
  | 3 => ("TwinFires", "text", "LTwinFires$Text;", true)
  | 4 => ("TwinFires", "eyes", "LTwinFires$Eyes;", true)
  | 5 => ("TwinFires", "rows", "LTwinFires$Rows;", true)
  | 6 => ("TwinFires", "refused", "[I", true)
  | 7 => ("TwinFires", "above", "J", false)
  | _ => ("TwinFires", "below", "J", false)
def tyX11 : Nat → FieldType := fun k => match k with
  | 0 => .object "TwinFires$Land"
  | 1 => .object "TwinFires$Land"
  | 2 => .array (.object "TwinFires$Land")
  | 3 => .object "TwinFires$Text"
  | 4 => .object "TwinFires$Eyes"
  | 5 => .object "TwinFires$Rows"
  | 6 => .array .int
  | 7 => .long
  | _ => .long
theorem nmX11 : ∀ a, a < 9 → ∀ b, b < 9 → a ≠ b → (TX11 a).2.1 ≠ (TX11 b).2.1 := by decide +kernel
theorem tyX11_ok : ∀ k, k < 9 → parseFieldDescriptor (TX11 k).2.2.1 = some (tyX11 k) := by decide +kernel
def RX12 : String := "TwinFiresModel"
def TX12 : u_T := fun k => match k with
  | 0 => ("TwinFiresModel", "book", "[I", true)
  | 1 => ("TwinFiresModel", "images", "[I", true)
  | 2 => ("TwinFiresModel", "kept", "[Z", true)
  | 3 => ("TwinFiresModel", "before", "[I", true)
  | 4 => ("TwinFiresModel", "refused", "[I", true)
  | 5 => ("TwinFiresModel", "quiet", "Z", false)
  | 6 => ("TwinFiresModel", "above", "J", false)
  | 7 => ("TwinFiresModel", "below", "J", false)
  | 8 => ("TwinFiresModel", "see", "[I", true)
  | 9 => ("TwinFiresModel", "text", "[I", true)
  | 10 => ("TwinFiresModel", "typed", "I", false)
  | 11 => ("TwinFiresModel", "at", "I", false)
  | 12 => ("TwinFiresModel", "start", "I", false)
  | 13 => ("TwinFiresModel", "token", "I", false)
  | 14 => ("TwinFiresModel", "value", "I", false)
  | 15 => ("TwinFiresModel", "verbs", "[I", true)
  | 16 => ("TwinFiresModel", "nums", "[I", true)
  | 17 => ("TwinFiresModel", "items", "I", false)
  | 18 => ("TwinFiresModel", "laws", "[Z", true)
  | 19 => ("TwinFiresModel", "far", "[I", true)
  | 20 => ("TwinFiresModel", "queue", "[I", true)
  | 21 => ("TwinFiresModel", "seen", "[Z", true)
  | 22 => ("TwinFiresModel", "lawsAt", "[Z", true)
  | 23 => ("TwinFiresModel", "there", "[Z", true)
  | 24 => ("TwinFiresModel", "leads", "[Z", true)
  | 25 => ("TwinFiresModel", "read", "[I", true)
  | _ => ("TwinFiresModel", "waits", "[I", true)
def tyX12 : Nat → FieldType := fun k => match k with
  | 0 => .array .int
  | 1 => .array .int
  | 2 => .array .boolean
  | 3 => .array .int
  | 4 => .array .int
  | 5 => .boolean
  | 6 => .long
  | 7 => .long
  | 8 => .array .int
  | 9 => .array .int
  | 10 => .int
  | 11 => .int
  | 12 => .int
  | 13 => .int
  | 14 => .int
  | 15 => .array .int
  | 16 => .array .int
  | 17 => .int
  | 18 => .array .boolean
  | 19 => .array .int
  | 20 => .array .int
  | 21 => .array .boolean
  | 22 => .array .boolean
  | 23 => .array .boolean
  | 24 => .array .boolean
  | 25 => .array .int
  | _ => .array .int
theorem nmX12 : ∀ a, a < 27 → ∀ b, b < 27 → a ≠ b → (TX12 a).2.1 ≠ (TX12 b).2.1 := by decide +kernel
theorem tyX12_ok : ∀ k, k < 27 → parseFieldDescriptor (TX12 k).2.2.1 = some (tyX12 k) := by decide +kernel
abbrev vwCl : List vw_C := [(RX0, TX0, 4), (RX1, TX1, 5), (RX2, TX2, 16), (RX3, TX3, 8), (RX4, TX4, 5), (RX5, TX5, 6), (RX6, TX6, 5), (RX7, TX7, 5), (RX8, TX8, 5), (RX9, TX9, 5), (RX10, TX10, 5), (RX11, TX11, 9), (RX12, TX12, 27)]
end
section
abbrev xI (a b : Int) : xV := .inl (a, b)
abbrev xL (a b : Int) : xV := .inr (.inl (a, b))
abbrev xR (n : Bool) (ts : List Nat) : xV := .inr (.inr (n, ts))
abbrev xF : xV := .inl (-2147483648, 2147483647)
abbrev xFL : xV := .inr (.inl (-9223372036854775808, 9223372036854775807))
/-- the tags: 0 TF 1 TFr 2 LA 3 LAr 4 TX 5 TXr 6 EY 7 EYr 8 RO 9 ROr 10 LI 11 ST 12 WD 13 PI 14 HE 15 TP 16 WA 17 MO 18 MOr 19 Lx 20 Ly 21 Lheight 22 Lreport 23 Lblame 24 Lstones 25 Ldone 26 Lcost 27 Ldial 28 Lmists 29 Lword 30 LnightHill 31 LnightHow 32 Eview 33 EhidesNow 34 EhidesDone 35 Rsets 36 Rhours 37 Rmarks 38 Rread 39 Xbytes 40 Xnumbers 41 Tkept 42 Trefused 43 SL 44 SG 45 SN 46 Mbook 47 Mimages 48 Mkept 49 Mbefore 50 Mrefused 51 Msee 52 Mtext 53 Mverbs 54 Mnums 55 Mlaws 56 Mfar 57 Mqueue 58 Mseen 59 MlawsAt 60 Mthere 61 Mleads 62 Mread 63 Mwaits -/
def x_G : List xG := [
  .inl (11, [xR false [2], xR false [2], xR false [41], xR false [4], xR false [6], xR false [8], xR false [42], xFL, xFL]),
  .inl (11, [xR true [2], xR true [2], xR true [41], xR true [4], xR true [6], xR true [8], xR true [42], xFL, xFL]),
  .inl (2, [xI 0 10, xR false [19], xR false [20], xR false [21], xR false [22], xR false [23], xI 0 8, xR false [24], xR false [25], xR false [26], xR false [27], xR false [28], xI 0 8, xR false [29], xR false [30], xR false [31]]),
  .inl (2, [xI 0 10, xR true [19], xR true [20], xR true [21], xR true [22], xR true [23], xI 0 8, xR true [24], xR true [25], xR true [26], xR true [27], xR true [28], xI 0 8, xR true [29], xR true [30], xR true [31]]),
  .inl (7, [xR false [39], xR false [40], xI 0 240, xI 0 240, xI 0 240]),
  .inl (7, [xR true [39], xR true [40], xI 0 240, xI 0 240, xI 0 240]),
  .inl (0, [xR false [10], xR false [32], xR false [33], xR false [34]]),
  .inl (0, [xR true [10], xR true [32], xR true [33], xR true [34]]),
  .inl (5, [xR false [35], xI 0 1024, xR false [36], xR false [37], xR false [38], xR false [38]]),
  .inl (5, [xR true [35], xI 0 1024, xR true [36], xR true [37], xR true [38], xR true [38]]),
  .inl (3, [xF, xF, xF, xF, xF, xF, xF, xF]),
  .inl (6, [xF, xF, xF, xF, xF]),
  .inl (10, [xF, xF, xF, xF, xF]),
  .inl (4, [xF, xF, xF, xF, xF]),
  .inl (1, [xF, xF, xF, xF, xF]),
  .inl (8, [xF, xF, xF, xF, xF]),
  .inl (9, [xF, xF, xF, xF, xF]),
  .inl (12, [xR false [46], xR false [47], xR false [48], xR false [49], xR false [50], xI 0 1, xFL, xFL, xR false [51], xR false [52], xI 0 240, xI 0 240, xF, xF, xF, xR false [53], xR false [54], xI 0 240, xR false [55], xR false [56], xR false [57], xR false [58], xR false [59], xR false [60], xR false [61], xR false [62], xR false [63]]),
  .inl (12, [xR true [46], xR true [47], xR true [48], xR true [49], xR true [50], xI 0 1, xFL, xFL, xR true [51], xR true [52], xI 0 240, xI 0 240, xF, xF, xF, xR true [53], xR true [54], xI 0 240, xR true [55], xR true [56], xR true [57], xR true [58], xR true [59], xR true [60], xR true [61], xR true [62], xR true [63]]),
  .inr (.int, 10, [], xF),
  .inr (.int, 10, [], xF),
  .inr (.int, 10, [], xF),
  .inr (.int, 10, [], xF),
  .inr (.int, 10, [], xF),
  .inr ((.object "TwinFires$Stone"), 8, [], xR false [11, 12, 13, 14, 15, 16]),
  .inr (.int, 8, [], xF),
  .inr (.int, 8, [], xF),
  .inr (.int, 4, [], xF),
  .inr (.int, 12, [], xF),
  .inr (.int, 8, [], xF),
  .inr (.int, 12, [], xF),
  .inr (.int, 12, [], xF),
  .inr (.int, 10, [], xF),
  .inr (.int, 100, [], xF),
  .inr (.int, 100, [], xF),
  .inr (.int, 1024, [], xI 0 1023),
  .inr (.int, 1024, [], xF),
  .inr (.int, 1024, [], xF),
  .inr (.int, 1024, [], xI (-1) 8),
  .inr (.int, 240, [], xF),
  .inr (.int, 4, [], xF),
  .inr ((.object "TwinFires$Land"), 2, [], xR true [2]),
  .inr (.int, 3, [], xF),
  .inr (.int, 4, [], xF),
  .inr (.int, 4, [], xF),
  .inr (.int, 10, [], xI 0 4),
  .inr (.int, 160, [xI 0 10, xI 0 8, xI 0 8], xF),
  .inr (.int, 320, [xI 0 10, xI 0 8, xI 0 8, xF, xF, xF, xF, xF, xF, xF, xF, xF, xF, xF, xF, xF, xF, xF, xF, xF, xF, xF, xF, xF, xF, xF, xF, xF, xF, xF, xF, xF, xF, xF, xF, xF, xF, xF, xF, xF, xF, xF, xF, xF, xF, xF, xF, xF, xF, xF, xF, xF, xF, xF, xF, xF, xF, xF, xF, xF, xF, xF, xF, xF, xF, xF, xF, xF, xF, xF, xF, xF, xF, xF, xF, xF, xF, xF, xF, xF, xF, xF, xF, xF, xF, xF, xF, xF, xF, xF, xF, xF, xF, xF, xF, xF, xF, xF, xF, xF, xF, xF, xF, xF, xF, xF, xF, xF, xF, xF, xF, xF, xF, xF, xF, xF, xF, xF, xF, xF, xF, xF, xF, xF, xF, xF, xF, xF, xF, xF, xF, xF, xF, xF, xF, xF, xF, xF, xF, xF, xF, xF, xF, xF, xF, xF, xF, xF, xF, xF, xF, xF, xF, xF, xF, xF, xF, xF, xF, xF, xI 0 10, xI 0 8, xI 0 8], xF),
  .inr (.boolean, 2, [], xI 0 1),
  .inr (.int, 160, [xI 0 10, xI 0 8, xI 0 8], xF),
  .inr (.int, 3, [], xF),
  .inr (.int, 10, [], xF),
  .inr (.int, 240, [], xF),
  .inr (.int, 240, [], xF),
  .inr (.int, 960, [], xF),
  .inr (.boolean, 1024, [], xI 0 1),
  .inr (.int, 1024, [], xF),
  .inr (.int, 1024, [], xI 0 1023),
  .inr (.boolean, 1024, [], xI 0 1),
  .inr (.boolean, 12288, [], xI 0 1),
  .inr (.boolean, 12288, [], xI 0 1),
  .inr (.boolean, 12288, [], xI 0 1),
  .inr (.int, 9216, [], xF),
  .inr (.int, 9216, [], xI 0 9215)]
def x_Zs : List xZ := [("TwinFires", "LEAST", "[I", 43), ("TwinFires", "GREATEST", "[I", 44), ("TwinFires$Text", "NUMBERS", "[I", 45)]
def x_Tb : List Cond := lw_tbl.filter goodWord
def x_Nb : List Cond := lw_tbl.filter x_Nk
theorem x_Tb_good : ∀ w ∈ x_Tb, goodWord w = true := fun w hw => (List.mem_filter.mp hw).2
theorem x_Nb_ok : ∀ w ∈ x_Nb, x_Nk w = true := fun w hw => (List.mem_filter.mp hw).2
theorem x_at {w : Cond} (i : Nat) (h : lw_tbl[i]? = some w) (hg : goodWord w = true) : w ∈ x_Tb := List.mem_filter.mpr ⟨List.mem_of_getElem? h, hg⟩
theorem x_nt {w : Cond} (i : Nat) (h : lw_tbl[i]? = some w) (hg : x_Nk w = true) : w ∈ x_Nb := List.mem_filter.mpr ⟨List.mem_of_getElem? h, hg⟩
theorem x_nilm {α : Type} {P : α → Prop} : ∀ w ∈ ([] : List α), P w := fun _ h => absurd h List.not_mem_nil
theorem x_cons {α : Type} {P : α → Prop} {a : α} {l : List α} (h : P a) (t : ∀ w ∈ l, P w) : ∀ w ∈ a :: l, P w := List.forall_mem_cons.mpr ⟨h, t⟩
theorem x_fitI (lo hi : Int) : x_fit (.inl (lo, hi)) .int := fun _ v h => by obtain ⟨x, e0, -⟩ := h; rw [e0]; exact ⟨rfl, rfl⟩
theorem x_fitL (lo hi : Int) : x_fit (.inr (.inl (lo, hi))) .long := fun _ v h => by obtain ⟨x, e0, -⟩ := h; rw [e0]; exact ⟨rfl, rfl⟩
theorem x_fitO (q : Bool × List Nat) (C : String) : x_fit (.inr (.inr q)) (.object C) := fun _ v h => by rcases h with ⟨e0, -⟩ | ⟨b, t, e0, -⟩ <;> rw [e0] <;> exact ⟨rfl, rfl⟩
theorem x_fitA1 (q : Bool × List Nat) (C : FieldType) : x_fit (.inr (.inr q)) (.array C) := fun _ v h => by rcases h with ⟨e0, -⟩ | ⟨b, t, e0, -⟩ <;> rw [e0] <;> exact ⟨rfl, rfl⟩
theorem x_fitB : x_fit (.inl (0, 1)) .boolean := fun _ v h => by
  obtain ⟨x, e0, h1, h2⟩ := h
  have h1 : (0 : Int) ≤ x.toInt := h1
  have h2 : x.toInt ≤ 1 := h2
  rw [e0]
  rcases (by omega : x.toInt = 0 ∨ x.toInt = 1) with q | q
  · have : x = 0 := Int32.toInt_inj.mp q
    subst this; exact ⟨rfl, rfl⟩
  · have : x = 1 := Int32.toInt_inj.mp q
    subst this; exact ⟨rfl, rfl⟩
theorem x_gsrow {p : Program} {l : Launch} {e : Env} {R : Room} {s : State} {m : MethodId} {args : Array Value} {below : List Frame} {meth : Method} {c : Code} {D : va_G} {G : List xG} {Zs : List xZ} {U : State} {cc : ByteArray} {own : String} (hx : p.tables.exec = Jvm.exec) (hb : c.code = cc) (hown : s.vm.findClass own = some m.cls) (hU : U.vm.Alike s.vm)
    {z : xZ} (hz : z ∈ Zs) {idx : Nat} (hl : (Cond.fieldLink own idx z.1 z.2.1 z.2.2.1).before args s = true) (Q : State → Prop) (H : Heap) (locs : List Loc) (cells slots pc : Nat) (ls : Array Slot) (rest : List Value) (Y : xY) (hd : decode cc pc = .ok (.getstatic idx, 3)) (hH : x_H D G Zs U Y H)
    (k : ∀ b : Nat, Y b = some z.2.2.2 → W p l e R s m args below meth c H locs cells slots Q (F0 m (pc + 3) ls (.ref b :: rest))) : W p l e R s m args below meth c H locs cells slots Q (F0 m pc ls rest) := by
  obtain ⟨b, h1, h2⟩ := hH.2 z hz
  obtain ⟨cf, kf, fi, f, a, cell, g1, g2, g3, g4, g5, g6, g7, g8⟩ := h2.moved hU
  exact W.gets hx hb hown hl g1 g2 g3 g4 g5 (fun e => by rw [e] at g6; cases g6) g7 rfl hd (k b h1)
theorem x_gsrowN {p : Program} {l : Launch} {e : Env} {R : Room} {s : State} {m : MethodId} {args : Array Value} {below : List Frame} {meth : Method} {c : Code} {D : va_G} {G : List xG} {Zs : List xZ} {U : State} {cc : ByteArray} {own host : String} (hx : p.tables.exec = Jvm.exec) (hb : c.code = cc) (hown : s.vm.findClass own = some m.cls) (hU : U.vm.Alike s.vm)
    {z : xZ} (hz : z ∈ Zs) {idx : Nat} (hl : va_Nw (.fieldLinkNest own idx z.1 z.2.1 z.2.2.1 host) s) (Q : State → Prop) (H : Heap) (locs : List Loc) (cells slots pc : Nat) (ls : Array Slot) (rest : List Value) (Y : xY) (hd : decode cc pc = .ok (.getstatic idx, 3)) (hH : x_H D G Zs U Y H)
    (k : ∀ b : Nat, Y b = some z.2.2.2 → W p l e R s m args below meth c H locs cells slots Q (F0 m (pc + 3) ls (.ref b :: rest))) : W p l e R s m args below meth c H locs cells slots Q (F0 m pc ls rest) := by
  obtain ⟨b, h1, h2⟩ := hH.2 z hz
  obtain ⟨cf, kf, fi, f, a, cell, g1, g2, g3, g4, g5, g6, g7, g8⟩ := h2.moved hU
  exact va_WgetsN hx hb hown (va_Nw.use rfl hl) g1 g2 g3 g4 g5 (fun e => by rw [e] at g6; cases g6) g7 rfl hd (k b h1)
set_option maxRecDepth 100000 in
theorem iX0 : ∀ w ∈ u_ws RX0 TX0 4, w ∈ x_Tb := by decide +kernel
set_option maxRecDepth 100000 in
theorem iX1 : ∀ w ∈ u_ws RX1 TX1 5, w ∈ x_Tb := by decide +kernel
set_option maxRecDepth 100000 in
theorem iX2 : ∀ w ∈ u_ws RX2 TX2 16, w ∈ x_Tb := by decide +kernel
set_option maxRecDepth 100000 in
theorem iX3 : ∀ w ∈ u_ws RX3 TX3 8, w ∈ x_Tb := by decide +kernel
set_option maxRecDepth 100000 in
theorem iX4 : ∀ w ∈ u_ws RX4 TX4 5, w ∈ x_Tb := by decide +kernel
set_option maxRecDepth 100000 in
theorem iX5 : ∀ w ∈ u_ws RX5 TX5 6, w ∈ x_Tb := by decide +kernel
set_option maxRecDepth 100000 in
theorem iX6 : ∀ w ∈ u_ws RX6 TX6 5, w ∈ x_Tb := by decide +kernel
set_option maxRecDepth 100000 in
theorem iX7 : ∀ w ∈ u_ws RX7 TX7 5, w ∈ x_Tb := by decide +kernel
set_option maxRecDepth 100000 in
theorem iX8 : ∀ w ∈ u_ws RX8 TX8 5, w ∈ x_Tb := by decide +kernel
set_option maxRecDepth 100000 in
theorem iX9 : ∀ w ∈ u_ws RX9 TX9 5, w ∈ x_Tb := by decide +kernel
set_option maxRecDepth 100000 in
theorem iX10 : ∀ w ∈ u_ws RX10 TX10 5, w ∈ x_Tb := by decide +kernel
set_option maxRecDepth 100000 in
theorem iX11 : ∀ w ∈ u_ws RX11 TX11 9, w ∈ x_Tb := by decide +kernel
set_option maxRecDepth 100000 in
theorem iX12 : ∀ w ∈ u_ws RX12 TX12 27, w ∈ x_Tb := by decide +kernel
end
section
theorem fl0 {s : State} {args : Array Value} (hts : ∀ w ∈ x_Tb, w.before args s = true) : x_fok vwCl x_G x_Tb s args "TwinFires$Land" (9, 2, 1) := ⟨2, _, RX2, TX2, "TwinFires$Land", rfl, rfl, Nat.le_of_ble_eq_true rfl, iX2, (hts _ (x_at 150 (by decide +kernel) rfl)), fun x h => h⟩
theorem fl1 {s : State} {args : Array Value} (hts : ∀ w ∈ x_Tb, w.before args s = true) : x_fok vwCl x_G x_Tb s args "TwinFires$Land" (15, 2, 2) := ⟨2, _, RX2, TX2, "TwinFires$Land", rfl, rfl, Nat.le_of_ble_eq_true rfl, iX2, (hts _ (x_at 153 (by decide +kernel) rfl)), fun x h => h⟩
theorem fl2 {s : State} {args : Array Value} (hts : ∀ w ∈ x_Tb, w.before args s = true) : x_fok vwCl x_G x_Tb s args "TwinFires$Land" (63, 2, 0) := ⟨2, _, RX2, TX2, "TwinFires$Land", rfl, rfl, Nat.le_of_ble_eq_true rfl, iX2, (hts _ (x_at 146 (by decide +kernel) rfl)), fun x h => h⟩
theorem fl3 {s : State} {args : Array Value} (hts : ∀ w ∈ x_Tb, w.before args s = true) : x_fok vwCl x_G x_Tb s args "TwinFires$Land" (18, 2, 3) := ⟨2, _, RX2, TX2, "TwinFires$Land", rfl, rfl, Nat.le_of_ble_eq_true rfl, iX2, (hts _ (x_at 156 (by decide +kernel) rfl)), fun x h => h⟩
theorem fl4 {s : State} {args : Array Value} (hts : ∀ w ∈ x_Tb, w.before args s = true) : x_fok vwCl x_G x_Tb s args "TwinFires$Land" (21, 2, 4) := ⟨2, _, RX2, TX2, "TwinFires$Land", rfl, rfl, Nat.le_of_ble_eq_true rfl, iX2, (hts _ (x_at 159 (by decide +kernel) rfl)), fun x h => h⟩
theorem fl5 {s : State} {args : Array Value} (hts : ∀ w ∈ x_Tb, w.before args s = true) : x_fok vwCl x_G x_Tb s args "TwinFires$Land" (24, 2, 5) := ⟨2, _, RX2, TX2, "TwinFires$Land", rfl, rfl, Nat.le_of_ble_eq_true rfl, iX2, (hts _ (x_at 161 (by decide +kernel) rfl)), fun x h => h⟩
theorem fw6 {s : State} {args : Array Value} {mn : String} (hts : ∀ w ∈ x_Tb, w.before args s = true) : x_pok vwCl x_G x_Tb s args "TwinFires$Land" mn (63, 2, 0) := ⟨2, _, RX2, TX2, "TwinFires$Land", tyX2, _, rfl, rfl, Nat.le_of_ble_eq_true rfl, iX2, (hts _ (x_at 146 (by decide +kernel) rfl)), fun x h => h, tyX2_ok, nmX2, rfl, x_fitI _ _, Or.inl rfl⟩
theorem fl7 {s : State} {args : Array Value} (hts : ∀ w ∈ x_Tb, w.before args s = true) : x_fok vwCl x_G x_Tb s args "TwinFires" (44, 0, 6) := ⟨11, _, RX11, TX11, "TwinFires", rfl, rfl, Nat.le_of_ble_eq_true rfl, iX11, (hts _ (x_at 335 (by decide +kernel) rfl)), fun x h => h⟩
theorem fl8 {s : State} {args : Array Value} (hts : ∀ w ∈ x_Tb, w.before args s = true) : x_fok vwCl x_G x_Tb s args "TwinFires" (12, 0, 0) := ⟨11, _, RX11, TX11, "TwinFires", rfl, rfl, Nat.le_of_ble_eq_true rfl, iX11, (hts _ (x_at 329 (by decide +kernel) rfl)), fun x h => h⟩
theorem fw9 {s : State} {args : Array Value} {mn : String} (hts : ∀ w ∈ x_Tb, w.before args s = true) (hn : mn = "<init>") : x_pok vwCl x_G x_Tb s args "TwinFires$Stone" mn (7, 11, 0) := ⟨6, _, RX6, TX6, "TwinFires$Stone", tyX6, _, rfl, rfl, Nat.le_of_ble_eq_true rfl, iX6, (hts _ (x_at 110 (by decide +kernel) rfl)), fun x h => h, tyX6_ok, nmX6, rfl, x_fitI _ _, Or.inr ⟨rfl, hn, rfl⟩⟩
theorem fw10 {s : State} {args : Array Value} {mn : String} (hts : ∀ w ∈ x_Tb, w.before args s = true) (hn : mn = "<init>") : x_pok vwCl x_G x_Tb s args "TwinFires$Stone" mn (7, 12, 0) := ⟨10, _, RX10, TX10, "TwinFires$Stone", tyX10, _, rfl, rfl, Nat.le_of_ble_eq_true rfl, iX10, (hts _ (x_at 110 (by decide +kernel) rfl)), fun x h => h, tyX10_ok, nmX10, rfl, x_fitI _ _, Or.inr ⟨rfl, hn, rfl⟩⟩
theorem fw11 {s : State} {args : Array Value} {mn : String} (hts : ∀ w ∈ x_Tb, w.before args s = true) (hn : mn = "<init>") : x_pok vwCl x_G x_Tb s args "TwinFires$Stone" mn (7, 13, 0) := ⟨4, _, RX4, TX4, "TwinFires$Stone", tyX4, _, rfl, rfl, Nat.le_of_ble_eq_true rfl, iX4, (hts _ (x_at 110 (by decide +kernel) rfl)), fun x h => h, tyX4_ok, nmX4, rfl, x_fitI _ _, Or.inr ⟨rfl, hn, rfl⟩⟩
theorem fw12 {s : State} {args : Array Value} {mn : String} (hts : ∀ w ∈ x_Tb, w.before args s = true) (hn : mn = "<init>") : x_pok vwCl x_G x_Tb s args "TwinFires$Stone" mn (7, 14, 0) := ⟨1, _, RX1, TX1, "TwinFires$Stone", tyX1, _, rfl, rfl, Nat.le_of_ble_eq_true rfl, iX1, (hts _ (x_at 110 (by decide +kernel) rfl)), fun x h => h, tyX1_ok, nmX1, rfl, x_fitI _ _, Or.inr ⟨rfl, hn, rfl⟩⟩
theorem fw13 {s : State} {args : Array Value} {mn : String} (hts : ∀ w ∈ x_Tb, w.before args s = true) (hn : mn = "<init>") : x_pok vwCl x_G x_Tb s args "TwinFires$Stone" mn (7, 15, 0) := ⟨8, _, RX8, TX8, "TwinFires$Stone", tyX8, _, rfl, rfl, Nat.le_of_ble_eq_true rfl, iX8, (hts _ (x_at 110 (by decide +kernel) rfl)), fun x h => h, tyX8_ok, nmX8, rfl, x_fitI _ _, Or.inr ⟨rfl, hn, rfl⟩⟩
theorem fw14 {s : State} {args : Array Value} {mn : String} (hts : ∀ w ∈ x_Tb, w.before args s = true) (hn : mn = "<init>") : x_pok vwCl x_G x_Tb s args "TwinFires$Stone" mn (7, 16, 0) := ⟨9, _, RX9, TX9, "TwinFires$Stone", tyX9, _, rfl, rfl, Nat.le_of_ble_eq_true rfl, iX9, (hts _ (x_at 110 (by decide +kernel) rfl)), fun x h => h, tyX9_ok, nmX9, rfl, x_fitI _ _, Or.inr ⟨rfl, hn, rfl⟩⟩
theorem fw15 {s : State} {args : Array Value} {mn : String} (hts : ∀ w ∈ x_Tb, w.before args s = true) (hn : mn = "<init>") : x_pok vwCl x_G x_Tb s args "TwinFires$Stone" mn (13, 11, 1) := ⟨6, _, RX6, TX6, "TwinFires$Stone", tyX6, _, rfl, rfl, Nat.le_of_ble_eq_true rfl, iX6, (hts _ (x_at 112 (by decide +kernel) rfl)), fun x h => h, tyX6_ok, nmX6, rfl, x_fitI _ _, Or.inr ⟨rfl, hn, rfl⟩⟩
theorem fw16 {s : State} {args : Array Value} {mn : String} (hts : ∀ w ∈ x_Tb, w.before args s = true) (hn : mn = "<init>") : x_pok vwCl x_G x_Tb s args "TwinFires$Stone" mn (13, 12, 1) := ⟨10, _, RX10, TX10, "TwinFires$Stone", tyX10, _, rfl, rfl, Nat.le_of_ble_eq_true rfl, iX10, (hts _ (x_at 112 (by decide +kernel) rfl)), fun x h => h, tyX10_ok, nmX10, rfl, x_fitI _ _, Or.inr ⟨rfl, hn, rfl⟩⟩
theorem fw17 {s : State} {args : Array Value} {mn : String} (hts : ∀ w ∈ x_Tb, w.before args s = true) (hn : mn = "<init>") : x_pok vwCl x_G x_Tb s args "TwinFires$Stone" mn (13, 13, 1) := ⟨4, _, RX4, TX4, "TwinFires$Stone", tyX4, _, rfl, rfl, Nat.le_of_ble_eq_true rfl, iX4, (hts _ (x_at 112 (by decide +kernel) rfl)), fun x h => h, tyX4_ok, nmX4, rfl, x_fitI _ _, Or.inr ⟨rfl, hn, rfl⟩⟩
theorem fw18 {s : State} {args : Array Value} {mn : String} (hts : ∀ w ∈ x_Tb, w.before args s = true) (hn : mn = "<init>") : x_pok vwCl x_G x_Tb s args "TwinFires$Stone" mn (13, 14, 1) := ⟨1, _, RX1, TX1, "TwinFires$Stone", tyX1, _, rfl, rfl, Nat.le_of_ble_eq_true rfl, iX1, (hts _ (x_at 112 (by decide +kernel) rfl)), fun x h => h, tyX1_ok, nmX1, rfl, x_fitI _ _, Or.inr ⟨rfl, hn, rfl⟩⟩
theorem fw19 {s : State} {args : Array Value} {mn : String} (hts : ∀ w ∈ x_Tb, w.before args s = true) (hn : mn = "<init>") : x_pok vwCl x_G x_Tb s args "TwinFires$Stone" mn (13, 15, 1) := ⟨8, _, RX8, TX8, "TwinFires$Stone", tyX8, _, rfl, rfl, Nat.le_of_ble_eq_true rfl, iX8, (hts _ (x_at 112 (by decide +kernel) rfl)), fun x h => h, tyX8_ok, nmX8, rfl, x_fitI _ _, Or.inr ⟨rfl, hn, rfl⟩⟩
theorem fw20 {s : State} {args : Array Value} {mn : String} (hts : ∀ w ∈ x_Tb, w.before args s = true) (hn : mn = "<init>") : x_pok vwCl x_G x_Tb s args "TwinFires$Stone" mn (13, 16, 1) := ⟨9, _, RX9, TX9, "TwinFires$Stone", tyX9, _, rfl, rfl, Nat.le_of_ble_eq_true rfl, iX9, (hts _ (x_at 112 (by decide +kernel) rfl)), fun x h => h, tyX9_ok, nmX9, rfl, x_fitI _ _, Or.inr ⟨rfl, hn, rfl⟩⟩
theorem fw21 {s : State} {args : Array Value} {mn : String} (hts : ∀ w ∈ x_Tb, w.before args s = true) (hn : mn = "<init>") : x_pok vwCl x_G x_Tb s args "TwinFires$Stone" mn (16, 11, 2) := ⟨6, _, RX6, TX6, "TwinFires$Stone", tyX6, _, rfl, rfl, Nat.le_of_ble_eq_true rfl, iX6, (hts _ (x_at 116 (by decide +kernel) rfl)), fun x h => h, tyX6_ok, nmX6, rfl, x_fitI _ _, Or.inr ⟨rfl, hn, rfl⟩⟩
theorem fw22 {s : State} {args : Array Value} {mn : String} (hts : ∀ w ∈ x_Tb, w.before args s = true) (hn : mn = "<init>") : x_pok vwCl x_G x_Tb s args "TwinFires$Stone" mn (16, 12, 2) := ⟨10, _, RX10, TX10, "TwinFires$Stone", tyX10, _, rfl, rfl, Nat.le_of_ble_eq_true rfl, iX10, (hts _ (x_at 116 (by decide +kernel) rfl)), fun x h => h, tyX10_ok, nmX10, rfl, x_fitI _ _, Or.inr ⟨rfl, hn, rfl⟩⟩
theorem fw23 {s : State} {args : Array Value} {mn : String} (hts : ∀ w ∈ x_Tb, w.before args s = true) (hn : mn = "<init>") : x_pok vwCl x_G x_Tb s args "TwinFires$Stone" mn (16, 13, 2) := ⟨4, _, RX4, TX4, "TwinFires$Stone", tyX4, _, rfl, rfl, Nat.le_of_ble_eq_true rfl, iX4, (hts _ (x_at 116 (by decide +kernel) rfl)), fun x h => h, tyX4_ok, nmX4, rfl, x_fitI _ _, Or.inr ⟨rfl, hn, rfl⟩⟩
theorem fw24 {s : State} {args : Array Value} {mn : String} (hts : ∀ w ∈ x_Tb, w.before args s = true) (hn : mn = "<init>") : x_pok vwCl x_G x_Tb s args "TwinFires$Stone" mn (16, 14, 2) := ⟨1, _, RX1, TX1, "TwinFires$Stone", tyX1, _, rfl, rfl, Nat.le_of_ble_eq_true rfl, iX1, (hts _ (x_at 116 (by decide +kernel) rfl)), fun x h => h, tyX1_ok, nmX1, rfl, x_fitI _ _, Or.inr ⟨rfl, hn, rfl⟩⟩
theorem fw25 {s : State} {args : Array Value} {mn : String} (hts : ∀ w ∈ x_Tb, w.before args s = true) (hn : mn = "<init>") : x_pok vwCl x_G x_Tb s args "TwinFires$Stone" mn (16, 15, 2) := ⟨8, _, RX8, TX8, "TwinFires$Stone", tyX8, _, rfl, rfl, Nat.le_of_ble_eq_true rfl, iX8, (hts _ (x_at 116 (by decide +kernel) rfl)), fun x h => h, tyX8_ok, nmX8, rfl, x_fitI _ _, Or.inr ⟨rfl, hn, rfl⟩⟩
theorem fw26 {s : State} {args : Array Value} {mn : String} (hts : ∀ w ∈ x_Tb, w.before args s = true) (hn : mn = "<init>") : x_pok vwCl x_G x_Tb s args "TwinFires$Stone" mn (16, 16, 2) := ⟨9, _, RX9, TX9, "TwinFires$Stone", tyX9, _, rfl, rfl, Nat.le_of_ble_eq_true rfl, iX9, (hts _ (x_at 116 (by decide +kernel) rfl)), fun x h => h, tyX9_ok, nmX9, rfl, x_fitI _ _, Or.inr ⟨rfl, hn, rfl⟩⟩
theorem fw27 {s : State} {args : Array Value} {mn : String} (hts : ∀ w ∈ x_Tb, w.before args s = true) (hn : mn = "<init>") : x_pok vwCl x_G x_Tb s args "TwinFires$Stone" mn (19, 11, 3) := ⟨6, _, RX6, TX6, "TwinFires$Stone", tyX6, _, rfl, rfl, Nat.le_of_ble_eq_true rfl, iX6, (hts _ (x_at 120 (by decide +kernel) rfl)), fun x h => h, tyX6_ok, nmX6, rfl, x_fitI _ _, Or.inr ⟨rfl, hn, rfl⟩⟩
theorem fw28 {s : State} {args : Array Value} {mn : String} (hts : ∀ w ∈ x_Tb, w.before args s = true) (hn : mn = "<init>") : x_pok vwCl x_G x_Tb s args "TwinFires$Stone" mn (19, 12, 3) := ⟨10, _, RX10, TX10, "TwinFires$Stone", tyX10, _, rfl, rfl, Nat.le_of_ble_eq_true rfl, iX10, (hts _ (x_at 120 (by decide +kernel) rfl)), fun x h => h, tyX10_ok, nmX10, rfl, x_fitI _ _, Or.inr ⟨rfl, hn, rfl⟩⟩
theorem fw29 {s : State} {args : Array Value} {mn : String} (hts : ∀ w ∈ x_Tb, w.before args s = true) (hn : mn = "<init>") : x_pok vwCl x_G x_Tb s args "TwinFires$Stone" mn (19, 13, 3) := ⟨4, _, RX4, TX4, "TwinFires$Stone", tyX4, _, rfl, rfl, Nat.le_of_ble_eq_true rfl, iX4, (hts _ (x_at 120 (by decide +kernel) rfl)), fun x h => h, tyX4_ok, nmX4, rfl, x_fitI _ _, Or.inr ⟨rfl, hn, rfl⟩⟩
theorem fw30 {s : State} {args : Array Value} {mn : String} (hts : ∀ w ∈ x_Tb, w.before args s = true) (hn : mn = "<init>") : x_pok vwCl x_G x_Tb s args "TwinFires$Stone" mn (19, 14, 3) := ⟨1, _, RX1, TX1, "TwinFires$Stone", tyX1, _, rfl, rfl, Nat.le_of_ble_eq_true rfl, iX1, (hts _ (x_at 120 (by decide +kernel) rfl)), fun x h => h, tyX1_ok, nmX1, rfl, x_fitI _ _, Or.inr ⟨rfl, hn, rfl⟩⟩
theorem fw31 {s : State} {args : Array Value} {mn : String} (hts : ∀ w ∈ x_Tb, w.before args s = true) (hn : mn = "<init>") : x_pok vwCl x_G x_Tb s args "TwinFires$Stone" mn (19, 15, 3) := ⟨8, _, RX8, TX8, "TwinFires$Stone", tyX8, _, rfl, rfl, Nat.le_of_ble_eq_true rfl, iX8, (hts _ (x_at 120 (by decide +kernel) rfl)), fun x h => h, tyX8_ok, nmX8, rfl, x_fitI _ _, Or.inr ⟨rfl, hn, rfl⟩⟩
theorem fw32 {s : State} {args : Array Value} {mn : String} (hts : ∀ w ∈ x_Tb, w.before args s = true) (hn : mn = "<init>") : x_pok vwCl x_G x_Tb s args "TwinFires$Stone" mn (19, 16, 3) := ⟨9, _, RX9, TX9, "TwinFires$Stone", tyX9, _, rfl, rfl, Nat.le_of_ble_eq_true rfl, iX9, (hts _ (x_at 120 (by decide +kernel) rfl)), fun x h => h, tyX9_ok, nmX9, rfl, x_fitI _ _, Or.inr ⟨rfl, hn, rfl⟩⟩
theorem fw33 {s : State} {args : Array Value} {mn : String} (hts : ∀ w ∈ x_Tb, w.before args s = true) (hn : mn = "<init>") : x_pok vwCl x_G x_Tb s args "TwinFires$Stone" mn (22, 11, 4) := ⟨6, _, RX6, TX6, "TwinFires$Stone", tyX6, _, rfl, rfl, Nat.le_of_ble_eq_true rfl, iX6, (hts _ (x_at 126 (by decide +kernel) rfl)), fun x h => h, tyX6_ok, nmX6, rfl, x_fitI _ _, Or.inr ⟨rfl, hn, rfl⟩⟩
theorem fw34 {s : State} {args : Array Value} {mn : String} (hts : ∀ w ∈ x_Tb, w.before args s = true) (hn : mn = "<init>") : x_pok vwCl x_G x_Tb s args "TwinFires$Stone" mn (22, 12, 4) := ⟨10, _, RX10, TX10, "TwinFires$Stone", tyX10, _, rfl, rfl, Nat.le_of_ble_eq_true rfl, iX10, (hts _ (x_at 126 (by decide +kernel) rfl)), fun x h => h, tyX10_ok, nmX10, rfl, x_fitI _ _, Or.inr ⟨rfl, hn, rfl⟩⟩
theorem fw35 {s : State} {args : Array Value} {mn : String} (hts : ∀ w ∈ x_Tb, w.before args s = true) (hn : mn = "<init>") : x_pok vwCl x_G x_Tb s args "TwinFires$Stone" mn (22, 13, 4) := ⟨4, _, RX4, TX4, "TwinFires$Stone", tyX4, _, rfl, rfl, Nat.le_of_ble_eq_true rfl, iX4, (hts _ (x_at 126 (by decide +kernel) rfl)), fun x h => h, tyX4_ok, nmX4, rfl, x_fitI _ _, Or.inr ⟨rfl, hn, rfl⟩⟩
theorem fw36 {s : State} {args : Array Value} {mn : String} (hts : ∀ w ∈ x_Tb, w.before args s = true) (hn : mn = "<init>") : x_pok vwCl x_G x_Tb s args "TwinFires$Stone" mn (22, 14, 4) := ⟨1, _, RX1, TX1, "TwinFires$Stone", tyX1, _, rfl, rfl, Nat.le_of_ble_eq_true rfl, iX1, (hts _ (x_at 126 (by decide +kernel) rfl)), fun x h => h, tyX1_ok, nmX1, rfl, x_fitI _ _, Or.inr ⟨rfl, hn, rfl⟩⟩
theorem fw37 {s : State} {args : Array Value} {mn : String} (hts : ∀ w ∈ x_Tb, w.before args s = true) (hn : mn = "<init>") : x_pok vwCl x_G x_Tb s args "TwinFires$Stone" mn (22, 15, 4) := ⟨8, _, RX8, TX8, "TwinFires$Stone", tyX8, _, rfl, rfl, Nat.le_of_ble_eq_true rfl, iX8, (hts _ (x_at 126 (by decide +kernel) rfl)), fun x h => h, tyX8_ok, nmX8, rfl, x_fitI _ _, Or.inr ⟨rfl, hn, rfl⟩⟩
theorem fw38 {s : State} {args : Array Value} {mn : String} (hts : ∀ w ∈ x_Tb, w.before args s = true) (hn : mn = "<init>") : x_pok vwCl x_G x_Tb s args "TwinFires$Stone" mn (22, 16, 4) := ⟨9, _, RX9, TX9, "TwinFires$Stone", tyX9, _, rfl, rfl, Nat.le_of_ble_eq_true rfl, iX9, (hts _ (x_at 126 (by decide +kernel) rfl)), fun x h => h, tyX9_ok, nmX9, rfl, x_fitI _ _, Or.inr ⟨rfl, hn, rfl⟩⟩
theorem fl39 {s : State} {args : Array Value} (hts : ∀ w ∈ x_Tb, w.before args s = true) : x_fok vwCl x_G x_Tb s args "TwinFires$Land" (29, 2, 7) := ⟨2, _, RX2, TX2, "TwinFires$Land", rfl, rfl, Nat.le_of_ble_eq_true rfl, iX2, (hts _ (x_at 166 (by decide +kernel) rfl)), fun x h => h⟩
theorem fl40 {s : State} {args : Array Value} (hts : ∀ w ∈ x_Tb, w.before args s = true) : x_fok vwCl x_G x_Tb s args "TwinFires$Land" (33, 2, 8) := ⟨2, _, RX2, TX2, "TwinFires$Land", rfl, rfl, Nat.le_of_ble_eq_true rfl, iX2, (hts _ (x_at 169 (by decide +kernel) rfl)), fun x h => h⟩
theorem fl41 {s : State} {args : Array Value} (hts : ∀ w ∈ x_Tb, w.before args s = true) : x_fok vwCl x_G x_Tb s args "TwinFires$Land" (36, 2, 9) := ⟨2, _, RX2, TX2, "TwinFires$Land", rfl, rfl, Nat.le_of_ble_eq_true rfl, iX2, (hts _ (x_at 172 (by decide +kernel) rfl)), fun x h => h⟩
theorem fl42 {s : State} {args : Array Value} (hts : ∀ w ∈ x_Tb, w.before args s = true) : x_fok vwCl x_G x_Tb s args "TwinFires$Land" (73, 2, 6) := ⟨2, _, RX2, TX2, "TwinFires$Land", rfl, rfl, Nat.le_of_ble_eq_true rfl, iX2, (hts _ (x_at 163 (by decide +kernel) rfl)), fun x h => h⟩
theorem fw43 {s : State} {args : Array Value} {mn : String} (hts : ∀ w ∈ x_Tb, w.before args s = true) : x_pok vwCl x_G x_Tb s args "TwinFires$Land" mn (73, 2, 6) := ⟨2, _, RX2, TX2, "TwinFires$Land", tyX2, _, rfl, rfl, Nat.le_of_ble_eq_true rfl, iX2, (hts _ (x_at 163 (by decide +kernel) rfl)), fun x h => h, tyX2_ok, nmX2, rfl, x_fitI _ _, Or.inl rfl⟩
theorem fl44 {s : State} {args : Array Value} (hts : ∀ w ∈ x_Tb, w.before args s = true) : x_fok vwCl x_G x_Tb s args "TwinFires$Land" (39, 2, 10) := ⟨2, _, RX2, TX2, "TwinFires$Land", rfl, rfl, Nat.le_of_ble_eq_true rfl, iX2, (hts _ (x_at 174 (by decide +kernel) rfl)), fun x h => h⟩
theorem fl45 {s : State} {args : Array Value} (hts : ∀ w ∈ x_Tb, w.before args s = true) : x_fok vwCl x_G x_Tb s args "TwinFires" (75, 2, 7) := ⟨2, _, RX2, TX2, "TwinFires$Land", rfl, rfl, Nat.le_of_ble_eq_true rfl, iX2, (hts _ (x_at 168 (by decide +kernel) rfl)), fun x h => h⟩
theorem fl46 {s : State} {args : Array Value} (hts : ∀ w ∈ x_Tb, w.before args s = true) : x_fok vwCl x_G x_Tb s args "TwinFires" (85, 2, 8) := ⟨2, _, RX2, TX2, "TwinFires$Land", rfl, rfl, Nat.le_of_ble_eq_true rfl, iX2, (hts _ (x_at 171 (by decide +kernel) rfl)), fun x h => h⟩
theorem fl47 {s : State} {args : Array Value} (hts : ∀ w ∈ x_Tb, w.before args s = true) : x_fok vwCl x_G x_Tb s args "TwinFires" (92, 2, 9) := ⟨2, _, RX2, TX2, "TwinFires$Land", rfl, rfl, Nat.le_of_ble_eq_true rfl, iX2, (hts _ (x_at 173 (by decide +kernel) rfl)), fun x h => h⟩
theorem fl48 {s : State} {args : Array Value} (hts : ∀ w ∈ x_Tb, w.before args s = true) : x_fok vwCl x_G x_Tb s args "TwinFires$Stone" (19, 11, 3) := ⟨6, _, RX6, TX6, "TwinFires$Stone", rfl, rfl, Nat.le_of_ble_eq_true rfl, iX6, (hts _ (x_at 120 (by decide +kernel) rfl)), fun x h => h⟩
theorem fl49 {s : State} {args : Array Value} (hts : ∀ w ∈ x_Tb, w.before args s = true) : x_fok vwCl x_G x_Tb s args "TwinFires$Pine" (7, 13, 4) := ⟨4, _, RX4, TX4, "TwinFires$Pine", rfl, rfl, Nat.le_of_ble_eq_true rfl, iX4, (hts _ (x_at 129 (by decide +kernel) rfl)), fun x h => u_same (hts _ (x_at 130 (by decide +kernel) rfl)) x h⟩
theorem fl50 {s : State} {args : Array Value} (hts : ∀ w ∈ x_Tb, w.before args s = true) : x_fok vwCl x_G x_Tb s args "TwinFires$Pine" (7, 15, 4) := ⟨8, _, RX8, TX8, "TwinFires$Pine", rfl, rfl, Nat.le_of_ble_eq_true rfl, iX8, (hts _ (x_at 129 (by decide +kernel) rfl)), fun x h => u_same (hts _ (x_at 130 (by decide +kernel) rfl)) x h⟩
theorem fl51 {s : State} {args : Array Value} (hts : ∀ w ∈ x_Tb, w.before args s = true) : x_fok vwCl x_G x_Tb s args "TwinFires$Hedge" (7, 14, 4) := ⟨1, _, RX1, TX1, "TwinFires$Hedge", rfl, rfl, Nat.le_of_ble_eq_true rfl, iX1, (hts _ (x_at 127 (by decide +kernel) rfl)), fun x h => u_same (hts _ (x_at 128 (by decide +kernel) rfl)) x h⟩
theorem fl52 {s : State} {args : Array Value} (hts : ∀ w ∈ x_Tb, w.before args s = true) : x_fok vwCl x_G x_Tb s args "TwinFires$Wood" (25, 12, 4) := ⟨10, _, RX10, TX10, "TwinFires$Wood", rfl, rfl, Nat.le_of_ble_eq_true rfl, iX10, (hts _ (x_at 131 (by decide +kernel) rfl)), fun x h => u_same (hts _ (x_at 132 (by decide +kernel) rfl)) x h⟩
theorem fl53 {s : State} {args : Array Value} (hts : ∀ w ∈ x_Tb, w.before args s = true) : x_fok vwCl x_G x_Tb s args "TwinFires$Wood" (9, 12, 3) := ⟨10, _, RX10, TX10, "TwinFires$Wood", rfl, rfl, Nat.le_of_ble_eq_true rfl, iX10, (hts _ (x_at 123 (by decide +kernel) rfl)), fun x h => u_same (hts _ (x_at 124 (by decide +kernel) rfl)) x h⟩
theorem fl54 {s : State} {args : Array Value} (hts : ∀ w ∈ x_Tb, w.before args s = true) : x_fok vwCl x_G x_Tb s args "TwinFires$Wood" (9, 13, 3) := ⟨4, _, RX4, TX4, "TwinFires$Wood", rfl, rfl, Nat.le_of_ble_eq_true rfl, iX4, (hts _ (x_at 123 (by decide +kernel) rfl)), fun x h => u_same (hts _ (x_at 124 (by decide +kernel) rfl)) x h⟩
theorem fl55 {s : State} {args : Array Value} (hts : ∀ w ∈ x_Tb, w.before args s = true) : x_fok vwCl x_G x_Tb s args "TwinFires$Wood" (9, 14, 3) := ⟨1, _, RX1, TX1, "TwinFires$Wood", rfl, rfl, Nat.le_of_ble_eq_true rfl, iX1, (hts _ (x_at 123 (by decide +kernel) rfl)), fun x h => u_same (hts _ (x_at 124 (by decide +kernel) rfl)) x h⟩
theorem fl56 {s : State} {args : Array Value} (hts : ∀ w ∈ x_Tb, w.before args s = true) : x_fok vwCl x_G x_Tb s args "TwinFires$Wood" (9, 15, 3) := ⟨8, _, RX8, TX8, "TwinFires$Wood", rfl, rfl, Nat.le_of_ble_eq_true rfl, iX8, (hts _ (x_at 123 (by decide +kernel) rfl)), fun x h => u_same (hts _ (x_at 124 (by decide +kernel) rfl)) x h⟩
theorem fl57 {s : State} {args : Array Value} (hts : ∀ w ∈ x_Tb, w.before args s = true) : x_fok vwCl x_G x_Tb s args "TwinFires$Wall" (7, 16, 3) := ⟨9, _, RX9, TX9, "TwinFires$Wall", rfl, rfl, Nat.le_of_ble_eq_true rfl, iX9, (hts _ (x_at 121 (by decide +kernel) rfl)), fun x h => u_same (hts _ (x_at 122 (by decide +kernel) rfl)) x h⟩
theorem fl58 {s : State} {args : Array Value} (hts : ∀ w ∈ x_Tb, w.before args s = true) : x_fok vwCl x_G x_Tb s args "TwinFires" (95, 2, 10) := ⟨2, _, RX2, TX2, "TwinFires$Land", rfl, rfl, Nat.le_of_ble_eq_true rfl, iX2, (hts _ (x_at 176 (by decide +kernel) rfl)), fun x h => h⟩
theorem fl59 {s : State} {args : Array Value} (hts : ∀ w ∈ x_Tb, w.before args s = true) : x_fok vwCl x_G x_Tb s args "TwinFires$Line" (9, 2, 1) := ⟨2, _, RX2, TX2, "TwinFires$Land", rfl, rfl, Nat.le_of_ble_eq_true rfl, iX2, (hts _ (x_at 151 (by decide +kernel) rfl)), fun x h => h⟩
theorem fl60 {s : State} {args : Array Value} (hts : ∀ w ∈ x_Tb, w.before args s = true) : x_fok vwCl x_G x_Tb s args "TwinFires$Line" (15, 10, 0) := ⟨3, _, RX3, TX3, "TwinFires$Line", rfl, rfl, Nat.le_of_ble_eq_true rfl, iX3, (hts _ (x_at 261 (by decide +kernel) rfl)), fun x h => h⟩
theorem fl61 {s : State} {args : Array Value} (hts : ∀ w ∈ x_Tb, w.before args s = true) : x_fok vwCl x_G x_Tb s args "TwinFires$Line" (21, 2, 2) := ⟨2, _, RX2, TX2, "TwinFires$Land", rfl, rfl, Nat.le_of_ble_eq_true rfl, iX2, (hts _ (x_at 154 (by decide +kernel) rfl)), fun x h => h⟩
theorem fl62 {s : State} {args : Array Value} (hts : ∀ w ∈ x_Tb, w.before args s = true) : x_fok vwCl x_G x_Tb s args "TwinFires$Line" (24, 10, 1) := ⟨3, _, RX3, TX3, "TwinFires$Line", rfl, rfl, Nat.le_of_ble_eq_true rfl, iX3, (hts _ (x_at 262 (by decide +kernel) rfl)), fun x h => h⟩
theorem fl63 {s : State} {args : Array Value} (hts : ∀ w ∈ x_Tb, w.before args s = true) : x_fok vwCl x_G x_Tb s args "TwinFires$Line" (27, 10, 2) := ⟨3, _, RX3, TX3, "TwinFires$Line", rfl, rfl, Nat.le_of_ble_eq_true rfl, iX3, (hts _ (x_at 263 (by decide +kernel) rfl)), fun x h => h⟩
theorem fl64 {s : State} {args : Array Value} (hts : ∀ w ∈ x_Tb, w.before args s = true) : x_fok vwCl x_G x_Tb s args "TwinFires$Line" (30, 10, 3) := ⟨3, _, RX3, TX3, "TwinFires$Line", rfl, rfl, Nat.le_of_ble_eq_true rfl, iX3, (hts _ (x_at 264 (by decide +kernel) rfl)), fun x h => h⟩
theorem fl65 {s : State} {args : Array Value} (hts : ∀ w ∈ x_Tb, w.before args s = true) : x_fok vwCl x_G x_Tb s args "TwinFires$Line" (33, 2, 10) := ⟨2, _, RX2, TX2, "TwinFires$Land", rfl, rfl, Nat.le_of_ble_eq_true rfl, iX2, (hts _ (x_at 175 (by decide +kernel) rfl)), fun x h => h⟩
theorem fl66 {s : State} {args : Array Value} (hts : ∀ w ∈ x_Tb, w.before args s = true) : x_fok vwCl x_G x_Tb s args "TwinFires$Line" (49, 2, 3) := ⟨2, _, RX2, TX2, "TwinFires$Land", rfl, rfl, Nat.le_of_ble_eq_true rfl, iX2, (hts _ (x_at 157 (by decide +kernel) rfl)), fun x h => h⟩
theorem fw67 {s : State} {args : Array Value} {mn : String} (hts : ∀ w ∈ x_Tb, w.before args s = true) : x_pok vwCl x_G x_Tb s args "TwinFires$Line" mn (15, 10, 0) := ⟨3, _, RX3, TX3, "TwinFires$Line", tyX3, _, rfl, rfl, Nat.le_of_ble_eq_true rfl, iX3, (hts _ (x_at 261 (by decide +kernel) rfl)), fun x h => h, tyX3_ok, nmX3, rfl, x_fitI _ _, Or.inl rfl⟩
theorem fw68 {s : State} {args : Array Value} {mn : String} (hts : ∀ w ∈ x_Tb, w.before args s = true) : x_pok vwCl x_G x_Tb s args "TwinFires$Line" mn (24, 10, 1) := ⟨3, _, RX3, TX3, "TwinFires$Line", tyX3, _, rfl, rfl, Nat.le_of_ble_eq_true rfl, iX3, (hts _ (x_at 262 (by decide +kernel) rfl)), fun x h => h, tyX3_ok, nmX3, rfl, x_fitI _ _, Or.inl rfl⟩
theorem fw69 {s : State} {args : Array Value} {mn : String} (hts : ∀ w ∈ x_Tb, w.before args s = true) : x_pok vwCl x_G x_Tb s args "TwinFires$Line" mn (27, 10, 2) := ⟨3, _, RX3, TX3, "TwinFires$Line", tyX3, _, rfl, rfl, Nat.le_of_ble_eq_true rfl, iX3, (hts _ (x_at 263 (by decide +kernel) rfl)), fun x h => h, tyX3_ok, nmX3, rfl, x_fitI _ _, Or.inl rfl⟩
theorem fw70 {s : State} {args : Array Value} {mn : String} (hts : ∀ w ∈ x_Tb, w.before args s = true) : x_pok vwCl x_G x_Tb s args "TwinFires$Line" mn (30, 10, 3) := ⟨3, _, RX3, TX3, "TwinFires$Line", tyX3, _, rfl, rfl, Nat.le_of_ble_eq_true rfl, iX3, (hts _ (x_at 264 (by decide +kernel) rfl)), fun x h => h, tyX3_ok, nmX3, rfl, x_fitI _ _, Or.inl rfl⟩
theorem fw71 {s : State} {args : Array Value} {mn : String} (hts : ∀ w ∈ x_Tb, w.before args s = true) : x_pok vwCl x_G x_Tb s args "TwinFires$Line" mn (46, 10, 4) := ⟨3, _, RX3, TX3, "TwinFires$Line", tyX3, _, rfl, rfl, Nat.le_of_ble_eq_true rfl, iX3, (hts _ (x_at 265 (by decide +kernel) rfl)), fun x h => h, tyX3_ok, nmX3, rfl, x_fitI _ _, Or.inl rfl⟩
theorem fw72 {s : State} {args : Array Value} {mn : String} (hts : ∀ w ∈ x_Tb, w.before args s = true) : x_pok vwCl x_G x_Tb s args "TwinFires$Line" mn (52, 10, 5) := ⟨3, _, RX3, TX3, "TwinFires$Line", tyX3, _, rfl, rfl, Nat.le_of_ble_eq_true rfl, iX3, (hts _ (x_at 266 (by decide +kernel) rfl)), fun x h => h, tyX3_ok, nmX3, rfl, x_fitI _ _, Or.inl rfl⟩
theorem fw73 {s : State} {args : Array Value} {mn : String} (hts : ∀ w ∈ x_Tb, w.before args s = true) : x_pok vwCl x_G x_Tb s args "TwinFires$Line" mn (55, 10, 6) := ⟨3, _, RX3, TX3, "TwinFires$Line", tyX3, _, rfl, rfl, Nat.le_of_ble_eq_true rfl, iX3, (hts _ (x_at 267 (by decide +kernel) rfl)), fun x h => h, tyX3_ok, nmX3, rfl, x_fitI _ _, Or.inl rfl⟩
theorem fw74 {s : State} {args : Array Value} {mn : String} (hts : ∀ w ∈ x_Tb, w.before args s = true) : x_pok vwCl x_G x_Tb s args "TwinFires$Line" mn (58, 10, 7) := ⟨3, _, RX3, TX3, "TwinFires$Line", tyX3, _, rfl, rfl, Nat.le_of_ble_eq_true rfl, iX3, (hts _ (x_at 268 (by decide +kernel) rfl)), fun x h => h, tyX3_ok, nmX3, rfl, x_fitI _ _, Or.inl rfl⟩
theorem fl75 {s : State} {args : Array Value} (hts : ∀ w ∈ x_Tb, w.before args s = true) : x_fok vwCl x_G x_Tb s args "TwinFires$Line" (58, 10, 7) := ⟨3, _, RX3, TX3, "TwinFires$Line", rfl, rfl, Nat.le_of_ble_eq_true rfl, iX3, (hts _ (x_at 268 (by decide +kernel) rfl)), fun x h => h⟩
theorem fl76 {s : State} {args : Array Value} (hts : ∀ w ∈ x_Tb, w.before args s = true) : x_fok vwCl x_G x_Tb s args "TwinFires$Line" (46, 10, 4) := ⟨3, _, RX3, TX3, "TwinFires$Line", rfl, rfl, Nat.le_of_ble_eq_true rfl, iX3, (hts _ (x_at 265 (by decide +kernel) rfl)), fun x h => h⟩
theorem fl77 {s : State} {args : Array Value} (hts : ∀ w ∈ x_Tb, w.before args s = true) : x_fok vwCl x_G x_Tb s args "TwinFires$Line" (52, 10, 5) := ⟨3, _, RX3, TX3, "TwinFires$Line", rfl, rfl, Nat.le_of_ble_eq_true rfl, iX3, (hts _ (x_at 266 (by decide +kernel) rfl)), fun x h => h⟩
theorem fl78 {s : State} {args : Array Value} (hts : ∀ w ∈ x_Tb, w.before args s = true) : x_fok vwCl x_G x_Tb s args "TwinFires$Line" (55, 10, 6) := ⟨3, _, RX3, TX3, "TwinFires$Line", rfl, rfl, Nat.le_of_ble_eq_true rfl, iX3, (hts _ (x_at 267 (by decide +kernel) rfl)), fun x h => h⟩
theorem fl79 {s : State} {args : Array Value} (hts : ∀ w ∈ x_Tb, w.before args s = true) : x_fok vwCl x_G x_Tb s args "TwinFires$Eyes" (12, 6, 0) := ⟨0, _, RX0, TX0, "TwinFires$Eyes", rfl, rfl, Nat.le_of_ble_eq_true rfl, iX0, (hts _ (x_at 287 (by decide +kernel) rfl)), fun x h => h⟩
theorem fl80 {s : State} {args : Array Value} (hts : ∀ w ∈ x_Tb, w.before args s = true) : x_fok vwCl x_G x_Tb s args "TwinFires$Eyes" (28, 2, 0) := ⟨2, _, RX2, TX2, "TwinFires$Land", rfl, rfl, Nat.le_of_ble_eq_true rfl, iX2, (hts _ (x_at 147 (by decide +kernel) rfl)), fun x h => h⟩
theorem fl81 {s : State} {args : Array Value} (hts : ∀ w ∈ x_Tb, w.before args s = true) : x_fok vwCl x_G x_Tb s args "TwinFires$Eyes" (45, 2, 1) := ⟨2, _, RX2, TX2, "TwinFires$Land", rfl, rfl, Nat.le_of_ble_eq_true rfl, iX2, (hts _ (x_at 152 (by decide +kernel) rfl)), fun x h => h⟩
theorem fl82 {s : State} {args : Array Value} (hts : ∀ w ∈ x_Tb, w.before args s = true) : x_fok vwCl x_G x_Tb s args "TwinFires$Eyes" (48, 2, 2) := ⟨2, _, RX2, TX2, "TwinFires$Land", rfl, rfl, Nat.le_of_ble_eq_true rfl, iX2, (hts _ (x_at 155 (by decide +kernel) rfl)), fun x h => h⟩
theorem fl83 {s : State} {args : Array Value} (hts : ∀ w ∈ x_Tb, w.before args s = true) : x_fok vwCl x_G x_Tb s args "TwinFires$Eyes" (55, 2, 3) := ⟨2, _, RX2, TX2, "TwinFires$Land", rfl, rfl, Nat.le_of_ble_eq_true rfl, iX2, (hts _ (x_at 158 (by decide +kernel) rfl)), fun x h => h⟩
theorem fl84 {s : State} {args : Array Value} (hts : ∀ w ∈ x_Tb, w.before args s = true) : x_fok vwCl x_G x_Tb s args "TwinFires$Eyes" (22, 6, 2) := ⟨0, _, RX0, TX0, "TwinFires$Eyes", rfl, rfl, Nat.le_of_ble_eq_true rfl, iX0, (hts _ (x_at 291 (by decide +kernel) rfl)), fun x h => h⟩
theorem fl85 {s : State} {args : Array Value} (hts : ∀ w ∈ x_Tb, w.before args s = true) : x_fok vwCl x_G x_Tb s args "TwinFires$Eyes" (25, 6, 3) := ⟨0, _, RX0, TX0, "TwinFires$Eyes", rfl, rfl, Nat.le_of_ble_eq_true rfl, iX0, (hts _ (x_at 292 (by decide +kernel) rfl)), fun x h => h⟩
theorem fl86 {s : State} {args : Array Value} (hts : ∀ w ∈ x_Tb, w.before args s = true) : x_fok vwCl x_G x_Tb s args "TwinFires$Eyes" (62, 2, 6) := ⟨2, _, RX2, TX2, "TwinFires$Land", rfl, rfl, Nat.le_of_ble_eq_true rfl, iX2, (hts _ (x_at 164 (by decide +kernel) rfl)), fun x h => h⟩
theorem fl87 {s : State} {args : Array Value} (hts : ∀ w ∈ x_Tb, w.before args s = true) : x_fok vwCl x_G x_Tb s args "TwinFires$Eyes" (65, 2, 7) := ⟨2, _, RX2, TX2, "TwinFires$Land", rfl, rfl, Nat.le_of_ble_eq_true rfl, iX2, (hts _ (x_at 167 (by decide +kernel) rfl)), fun x h => h⟩
theorem fl88 {s : State} {args : Array Value} (hts : ∀ w ∈ x_Tb, w.before args s = true) : x_fok vwCl x_G x_Tb s args "TwinFires$Eyes" (69, 11, 1) := ⟨6, _, RX6, TX6, "TwinFires$Stone", rfl, rfl, Nat.le_of_ble_eq_true rfl, iX6, (hts _ (x_at 113 (by decide +kernel) rfl)), fun x h => h⟩
theorem fl89 {s : State} {args : Array Value} (hts : ∀ w ∈ x_Tb, w.before args s = true) : x_fok vwCl x_G x_Tb s args "TwinFires$Eyes" (69, 12, 1) := ⟨10, _, RX10, TX10, "TwinFires$Stone", rfl, rfl, Nat.le_of_ble_eq_true rfl, iX10, (hts _ (x_at 113 (by decide +kernel) rfl)), fun x h => h⟩
theorem fl90 {s : State} {args : Array Value} (hts : ∀ w ∈ x_Tb, w.before args s = true) : x_fok vwCl x_G x_Tb s args "TwinFires$Eyes" (69, 13, 1) := ⟨4, _, RX4, TX4, "TwinFires$Stone", rfl, rfl, Nat.le_of_ble_eq_true rfl, iX4, (hts _ (x_at 113 (by decide +kernel) rfl)), fun x h => h⟩
theorem fl91 {s : State} {args : Array Value} (hts : ∀ w ∈ x_Tb, w.before args s = true) : x_fok vwCl x_G x_Tb s args "TwinFires$Eyes" (69, 14, 1) := ⟨1, _, RX1, TX1, "TwinFires$Stone", rfl, rfl, Nat.le_of_ble_eq_true rfl, iX1, (hts _ (x_at 113 (by decide +kernel) rfl)), fun x h => h⟩
theorem fl92 {s : State} {args : Array Value} (hts : ∀ w ∈ x_Tb, w.before args s = true) : x_fok vwCl x_G x_Tb s args "TwinFires$Eyes" (69, 15, 1) := ⟨8, _, RX8, TX8, "TwinFires$Stone", rfl, rfl, Nat.le_of_ble_eq_true rfl, iX8, (hts _ (x_at 113 (by decide +kernel) rfl)), fun x h => h⟩
theorem fl93 {s : State} {args : Array Value} (hts : ∀ w ∈ x_Tb, w.before args s = true) : x_fok vwCl x_G x_Tb s args "TwinFires$Eyes" (69, 16, 1) := ⟨9, _, RX9, TX9, "TwinFires$Stone", rfl, rfl, Nat.le_of_ble_eq_true rfl, iX9, (hts _ (x_at 113 (by decide +kernel) rfl)), fun x h => h⟩
theorem fl94 {s : State} {args : Array Value} (hts : ∀ w ∈ x_Tb, w.before args s = true) : x_fok vwCl x_G x_Tb s args "TwinFires$Eyes" (73, 11, 2) := ⟨6, _, RX6, TX6, "TwinFires$Stone", rfl, rfl, Nat.le_of_ble_eq_true rfl, iX6, (hts _ (x_at 117 (by decide +kernel) rfl)), fun x h => h⟩
theorem fl95 {s : State} {args : Array Value} (hts : ∀ w ∈ x_Tb, w.before args s = true) : x_fok vwCl x_G x_Tb s args "TwinFires$Eyes" (73, 12, 2) := ⟨10, _, RX10, TX10, "TwinFires$Stone", rfl, rfl, Nat.le_of_ble_eq_true rfl, iX10, (hts _ (x_at 117 (by decide +kernel) rfl)), fun x h => h⟩
theorem fl96 {s : State} {args : Array Value} (hts : ∀ w ∈ x_Tb, w.before args s = true) : x_fok vwCl x_G x_Tb s args "TwinFires$Eyes" (73, 13, 2) := ⟨4, _, RX4, TX4, "TwinFires$Stone", rfl, rfl, Nat.le_of_ble_eq_true rfl, iX4, (hts _ (x_at 117 (by decide +kernel) rfl)), fun x h => h⟩
theorem fl97 {s : State} {args : Array Value} (hts : ∀ w ∈ x_Tb, w.before args s = true) : x_fok vwCl x_G x_Tb s args "TwinFires$Eyes" (73, 14, 2) := ⟨1, _, RX1, TX1, "TwinFires$Stone", rfl, rfl, Nat.le_of_ble_eq_true rfl, iX1, (hts _ (x_at 117 (by decide +kernel) rfl)), fun x h => h⟩
theorem fl98 {s : State} {args : Array Value} (hts : ∀ w ∈ x_Tb, w.before args s = true) : x_fok vwCl x_G x_Tb s args "TwinFires$Eyes" (73, 15, 2) := ⟨8, _, RX8, TX8, "TwinFires$Stone", rfl, rfl, Nat.le_of_ble_eq_true rfl, iX8, (hts _ (x_at 117 (by decide +kernel) rfl)), fun x h => h⟩
theorem fl99 {s : State} {args : Array Value} (hts : ∀ w ∈ x_Tb, w.before args s = true) : x_fok vwCl x_G x_Tb s args "TwinFires$Eyes" (73, 16, 2) := ⟨9, _, RX9, TX9, "TwinFires$Stone", rfl, rfl, Nat.le_of_ble_eq_true rfl, iX9, (hts _ (x_at 117 (by decide +kernel) rfl)), fun x h => h⟩
theorem fl100 {s : State} {args : Array Value} (hts : ∀ w ∈ x_Tb, w.before args s = true) : x_fok vwCl x_G x_Tb s args "TwinFires$Eyes" (75, 2, 8) := ⟨2, _, RX2, TX2, "TwinFires$Land", rfl, rfl, Nat.le_of_ble_eq_true rfl, iX2, (hts _ (x_at 170 (by decide +kernel) rfl)), fun x h => h⟩
theorem fl101 {s : State} {args : Array Value} (hts : ∀ w ∈ x_Tb, w.before args s = true) : x_fok vwCl x_G x_Tb s args "TwinFires$Eyes" (18, 6, 1) := ⟨0, _, RX0, TX0, "TwinFires$Eyes", rfl, rfl, Nat.le_of_ble_eq_true rfl, iX0, (hts _ (x_at 289 (by decide +kernel) rfl)), fun x h => h⟩
theorem fl102 {s : State} {args : Array Value} (hts : ∀ w ∈ x_Tb, w.before args s = true) : x_fok vwCl x_G x_Tb s args "TwinFires" (33, 0, 4) := ⟨11, _, RX11, TX11, "TwinFires", rfl, rfl, Nat.le_of_ble_eq_true rfl, iX11, (hts _ (x_at 333 (by decide +kernel) rfl)), fun x h => h⟩
theorem fl103 {s : State} {args : Array Value} (hts : ∀ w ∈ x_Tb, w.before args s = true) : x_fok vwCl x_G x_Tb s args "TwinFires" (107, 6, 1) := ⟨0, _, RX0, TX0, "TwinFires$Eyes", rfl, rfl, Nat.le_of_ble_eq_true rfl, iX0, (hts _ (x_at 290 (by decide +kernel) rfl)), fun x h => h⟩
theorem fw104 {s : State} {args : Array Value} {mn : String} (hts : ∀ w ∈ x_Tb, w.before args s = true) : x_pok vwCl x_G x_Tb s args "TwinFires" mn (48, 0, 7) := ⟨11, _, RX11, TX11, "TwinFires", tyX11, _, rfl, rfl, Nat.le_of_ble_eq_true rfl, iX11, (hts _ (x_at 336 (by decide +kernel) rfl)), fun x h => h, tyX11_ok, nmX11, rfl, x_fitL _ _, Or.inl rfl⟩
theorem fw105 {s : State} {args : Array Value} {mn : String} (hts : ∀ w ∈ x_Tb, w.before args s = true) : x_pok vwCl x_G x_Tb s args "TwinFires" mn (52, 0, 8) := ⟨11, _, RX11, TX11, "TwinFires", tyX11, _, rfl, rfl, Nat.le_of_ble_eq_true rfl, iX11, (hts _ (x_at 337 (by decide +kernel) rfl)), fun x h => h, tyX11_ok, nmX11, rfl, x_fitL _ _, Or.inl rfl⟩
theorem fl106 {s : State} {args : Array Value} (hts : ∀ w ∈ x_Tb, w.before args s = true) : x_fok vwCl x_G x_Tb s args "TwinFires" (110, 6, 0) := ⟨0, _, RX0, TX0, "TwinFires$Eyes", rfl, rfl, Nat.le_of_ble_eq_true rfl, iX0, (hts _ (x_at 288 (by decide +kernel) rfl)), fun x h => h⟩
theorem fl107 {s : State} {args : Array Value} (hts : ∀ w ∈ x_Tb, w.before args s = true) : x_fok vwCl x_G x_Tb s args "TwinFires" (120, 11, 1) := ⟨6, _, RX6, TX6, "TwinFires$Stone", rfl, rfl, Nat.le_of_ble_eq_true rfl, iX6, (hts _ (x_at 114 (by decide +kernel) rfl)), fun x h => h⟩
theorem fl108 {s : State} {args : Array Value} (hts : ∀ w ∈ x_Tb, w.before args s = true) : x_fok vwCl x_G x_Tb s args "TwinFires" (120, 12, 1) := ⟨10, _, RX10, TX10, "TwinFires$Stone", rfl, rfl, Nat.le_of_ble_eq_true rfl, iX10, (hts _ (x_at 114 (by decide +kernel) rfl)), fun x h => h⟩
theorem fl109 {s : State} {args : Array Value} (hts : ∀ w ∈ x_Tb, w.before args s = true) : x_fok vwCl x_G x_Tb s args "TwinFires" (120, 13, 1) := ⟨4, _, RX4, TX4, "TwinFires$Stone", rfl, rfl, Nat.le_of_ble_eq_true rfl, iX4, (hts _ (x_at 114 (by decide +kernel) rfl)), fun x h => h⟩
theorem fl110 {s : State} {args : Array Value} (hts : ∀ w ∈ x_Tb, w.before args s = true) : x_fok vwCl x_G x_Tb s args "TwinFires" (120, 14, 1) := ⟨1, _, RX1, TX1, "TwinFires$Stone", rfl, rfl, Nat.le_of_ble_eq_true rfl, iX1, (hts _ (x_at 114 (by decide +kernel) rfl)), fun x h => h⟩
theorem fl111 {s : State} {args : Array Value} (hts : ∀ w ∈ x_Tb, w.before args s = true) : x_fok vwCl x_G x_Tb s args "TwinFires" (120, 15, 1) := ⟨8, _, RX8, TX8, "TwinFires$Stone", rfl, rfl, Nat.le_of_ble_eq_true rfl, iX8, (hts _ (x_at 114 (by decide +kernel) rfl)), fun x h => h⟩
theorem fl112 {s : State} {args : Array Value} (hts : ∀ w ∈ x_Tb, w.before args s = true) : x_fok vwCl x_G x_Tb s args "TwinFires" (120, 16, 1) := ⟨9, _, RX9, TX9, "TwinFires$Stone", rfl, rfl, Nat.le_of_ble_eq_true rfl, iX9, (hts _ (x_at 114 (by decide +kernel) rfl)), fun x h => h⟩
theorem fl113 {s : State} {args : Array Value} (hts : ∀ w ∈ x_Tb, w.before args s = true) : x_fok vwCl x_G x_Tb s args "TwinFires" (124, 11, 2) := ⟨6, _, RX6, TX6, "TwinFires$Stone", rfl, rfl, Nat.le_of_ble_eq_true rfl, iX6, (hts _ (x_at 118 (by decide +kernel) rfl)), fun x h => h⟩
theorem fl114 {s : State} {args : Array Value} (hts : ∀ w ∈ x_Tb, w.before args s = true) : x_fok vwCl x_G x_Tb s args "TwinFires" (124, 12, 2) := ⟨10, _, RX10, TX10, "TwinFires$Stone", rfl, rfl, Nat.le_of_ble_eq_true rfl, iX10, (hts _ (x_at 118 (by decide +kernel) rfl)), fun x h => h⟩
theorem fl115 {s : State} {args : Array Value} (hts : ∀ w ∈ x_Tb, w.before args s = true) : x_fok vwCl x_G x_Tb s args "TwinFires" (124, 13, 2) := ⟨4, _, RX4, TX4, "TwinFires$Stone", rfl, rfl, Nat.le_of_ble_eq_true rfl, iX4, (hts _ (x_at 118 (by decide +kernel) rfl)), fun x h => h⟩
theorem fl116 {s : State} {args : Array Value} (hts : ∀ w ∈ x_Tb, w.before args s = true) : x_fok vwCl x_G x_Tb s args "TwinFires" (124, 14, 2) := ⟨1, _, RX1, TX1, "TwinFires$Stone", rfl, rfl, Nat.le_of_ble_eq_true rfl, iX1, (hts _ (x_at 118 (by decide +kernel) rfl)), fun x h => h⟩
theorem fl117 {s : State} {args : Array Value} (hts : ∀ w ∈ x_Tb, w.before args s = true) : x_fok vwCl x_G x_Tb s args "TwinFires" (124, 15, 2) := ⟨8, _, RX8, TX8, "TwinFires$Stone", rfl, rfl, Nat.le_of_ble_eq_true rfl, iX8, (hts _ (x_at 118 (by decide +kernel) rfl)), fun x h => h⟩
theorem fl118 {s : State} {args : Array Value} (hts : ∀ w ∈ x_Tb, w.before args s = true) : x_fok vwCl x_G x_Tb s args "TwinFires" (124, 16, 2) := ⟨9, _, RX9, TX9, "TwinFires$Stone", rfl, rfl, Nat.le_of_ble_eq_true rfl, iX9, (hts _ (x_at 118 (by decide +kernel) rfl)), fun x h => h⟩
theorem fl119 {s : State} {args : Array Value} (hts : ∀ w ∈ x_Tb, w.before args s = true) : x_fok vwCl x_G x_Tb s args "TwinFires" (134, 10, 7) := ⟨3, _, RX3, TX3, "TwinFires$Line", rfl, rfl, Nat.le_of_ble_eq_true rfl, iX3, (hts _ (x_at 269 (by decide +kernel) rfl)), fun x h => h⟩
theorem fl120 {s : State} {args : Array Value} (hts : ∀ w ∈ x_Tb, w.before args s = true) : x_fok vwCl x_G x_Tb s args "TwinFires" (26, 0, 3) := ⟨11, _, RX11, TX11, "TwinFires", rfl, rfl, Nat.le_of_ble_eq_true rfl, iX11, (hts _ (x_at 332 (by decide +kernel) rfl)), fun x h => h⟩
theorem fl121 {s : State} {args : Array Value} (hts : ∀ w ∈ x_Tb, w.before args s = true) : x_fok vwCl x_G x_Tb s args "TwinFires" (145, 4, 2) := ⟨7, _, RX7, TX7, "TwinFires$Text", rfl, rfl, Nat.le_of_ble_eq_true rfl, iX7, (hts _ (x_at 235 (by decide +kernel) rfl)), fun x h => h⟩
theorem fw122 {s : State} {args : Array Value} {mn : String} (hts : ∀ w ∈ x_Tb, w.before args s = true) : x_pok vwCl x_G x_Tb s args "TwinFires" mn (145, 4, 2) := ⟨7, _, RX7, TX7, "TwinFires$Text", tyX7, _, rfl, rfl, Nat.le_of_ble_eq_true rfl, iX7, (hts _ (x_at 235 (by decide +kernel) rfl)), fun x h => h, tyX7_ok, nmX7, rfl, x_fitI _ _, Or.inl rfl⟩
theorem fl123 {s : State} {args : Array Value} (hts : ∀ w ∈ x_Tb, w.before args s = true) : x_fok vwCl x_G x_Tb s args "TwinFires$Land" (42, 2, 11) := ⟨2, _, RX2, TX2, "TwinFires$Land", rfl, rfl, Nat.le_of_ble_eq_true rfl, iX2, (hts _ (x_at 178 (by decide +kernel) rfl)), fun x h => h⟩
theorem fl124 {s : State} {args : Array Value} (hts : ∀ w ∈ x_Tb, w.before args s = true) : x_fok vwCl x_G x_Tb s args "TwinFires$Land" (45, 2, 13) := ⟨2, _, RX2, TX2, "TwinFires$Land", rfl, rfl, Nat.le_of_ble_eq_true rfl, iX2, (hts _ (x_at 184 (by decide +kernel) rfl)), fun x h => h⟩
theorem fl125 {s : State} {args : Array Value} (hts : ∀ w ∈ x_Tb, w.before args s = true) : x_fok vwCl x_G x_Tb s args "TwinFires$Land" (48, 2, 14) := ⟨2, _, RX2, TX2, "TwinFires$Land", rfl, rfl, Nat.le_of_ble_eq_true rfl, iX2, (hts _ (x_at 187 (by decide +kernel) rfl)), fun x h => h⟩
theorem fl126 {s : State} {args : Array Value} (hts : ∀ w ∈ x_Tb, w.before args s = true) : x_fok vwCl x_G x_Tb s args "TwinFires$Land" (51, 2, 15) := ⟨2, _, RX2, TX2, "TwinFires$Land", rfl, rfl, Nat.le_of_ble_eq_true rfl, iX2, (hts _ (x_at 189 (by decide +kernel) rfl)), fun x h => h⟩
theorem fl127 {s : State} {args : Array Value} (hts : ∀ w ∈ x_Tb, w.before args s = true) : x_fok vwCl x_G x_Tb s args "TwinFires$Land" (76, 2, 12) := ⟨2, _, RX2, TX2, "TwinFires$Land", rfl, rfl, Nat.le_of_ble_eq_true rfl, iX2, (hts _ (x_at 181 (by decide +kernel) rfl)), fun x h => h⟩
theorem fw128 {s : State} {args : Array Value} {mn : String} (hts : ∀ w ∈ x_Tb, w.before args s = true) : x_pok vwCl x_G x_Tb s args "TwinFires$Land" mn (76, 2, 12) := ⟨2, _, RX2, TX2, "TwinFires$Land", tyX2, _, rfl, rfl, Nat.le_of_ble_eq_true rfl, iX2, (hts _ (x_at 181 (by decide +kernel) rfl)), fun x h => h, tyX2_ok, nmX2, rfl, x_fitI _ _, Or.inl rfl⟩
theorem fw129 {s : State} {args : Array Value} {mn : String} (hts : ∀ w ∈ x_Tb, w.before args s = true) : x_pok vwCl x_G x_Tb s args "TwinFires$Text" mn (26, 4, 4) := ⟨7, _, RX7, TX7, "TwinFires$Text", tyX7, _, rfl, rfl, Nat.le_of_ble_eq_true rfl, iX7, (hts _ (x_at 237 (by decide +kernel) rfl)), fun x h => h, tyX7_ok, nmX7, rfl, x_fitI _ _, Or.inl rfl⟩
theorem fl130 {s : State} {args : Array Value} (hts : ∀ w ∈ x_Tb, w.before args s = true) : x_fok vwCl x_G x_Tb s args "TwinFires$Text" (9, 4, 0) := ⟨7, _, RX7, TX7, "TwinFires$Text", rfl, rfl, Nat.le_of_ble_eq_true rfl, iX7, (hts _ (x_at 231 (by decide +kernel) rfl)), fun x h => h⟩
theorem fl131 {s : State} {args : Array Value} (hts : ∀ w ∈ x_Tb, w.before args s = true) : x_fok vwCl x_G x_Tb s args "TwinFires$Text" (22, 4, 2) := ⟨7, _, RX7, TX7, "TwinFires$Text", rfl, rfl, Nat.le_of_ble_eq_true rfl, iX7, (hts _ (x_at 234 (by decide +kernel) rfl)), fun x h => h⟩
theorem fl132 {s : State} {args : Array Value} (hts : ∀ w ∈ x_Tb, w.before args s = true) : x_fok vwCl x_G x_Tb s args "TwinFires$Text" (26, 4, 4) := ⟨7, _, RX7, TX7, "TwinFires$Text", rfl, rfl, Nat.le_of_ble_eq_true rfl, iX7, (hts _ (x_at 237 (by decide +kernel) rfl)), fun x h => h⟩
theorem fl133 {s : State} {args : Array Value} (hts : ∀ w ∈ x_Tb, w.before args s = true) : x_fok vwCl x_G x_Tb s args "TwinFires$Text" (36, 4, 3) := ⟨7, _, RX7, TX7, "TwinFires$Text", rfl, rfl, Nat.le_of_ble_eq_true rfl, iX7, (hts _ (x_at 236 (by decide +kernel) rfl)), fun x h => h⟩
theorem fw134 {s : State} {args : Array Value} {mn : String} (hts : ∀ w ∈ x_Tb, w.before args s = true) : x_pok vwCl x_G x_Tb s args "TwinFires$Text" mn (36, 4, 3) := ⟨7, _, RX7, TX7, "TwinFires$Text", tyX7, _, rfl, rfl, Nat.le_of_ble_eq_true rfl, iX7, (hts _ (x_at 236 (by decide +kernel) rfl)), fun x h => h, tyX7_ok, nmX7, rfl, x_fitI _ _, Or.inl rfl⟩
theorem fl135 {s : State} {args : Array Value} (hts : ∀ w ∈ x_Tb, w.before args s = true) : x_fok vwCl x_G x_Tb s args "TwinFires$Rows" (9, 8, 0) := ⟨5, _, RX5, TX5, "TwinFires$Rows", rfl, rfl, Nat.le_of_ble_eq_true rfl, iX5, (hts _ (x_at 308 (by decide +kernel) rfl)), fun x h => h⟩
theorem fl136 {s : State} {args : Array Value} (hts : ∀ w ∈ x_Tb, w.before args s = true) : x_fok vwCl x_G x_Tb s args "TwinFires$Rows" (27, 8, 1) := ⟨5, _, RX5, TX5, "TwinFires$Rows", rfl, rfl, Nat.le_of_ble_eq_true rfl, iX5, (hts _ (x_at 309 (by decide +kernel) rfl)), fun x h => h⟩
theorem fl137 {s : State} {args : Array Value} (hts : ∀ w ∈ x_Tb, w.before args s = true) : x_fok vwCl x_G x_Tb s args "TwinFires" (207, 2, 11) := ⟨2, _, RX2, TX2, "TwinFires$Land", rfl, rfl, Nat.le_of_ble_eq_true rfl, iX2, (hts _ (x_at 180 (by decide +kernel) rfl)), fun x h => h⟩
theorem fl138 {s : State} {args : Array Value} (hts : ∀ w ∈ x_Tb, w.before args s = true) : x_fok vwCl x_G x_Tb s args "TwinFires$Eyes" (97, 2, 10) := ⟨2, _, RX2, TX2, "TwinFires$Land", rfl, rfl, Nat.le_of_ble_eq_true rfl, iX2, (hts _ (x_at 177 (by decide +kernel) rfl)), fun x h => h⟩
theorem fl139 {s : State} {args : Array Value} (hts : ∀ w ∈ x_Tb, w.before args s = true) : x_fok vwCl x_G x_Tb s args "TwinFires$Rows" (15, 8, 2) := ⟨5, _, RX5, TX5, "TwinFires$Rows", rfl, rfl, Nat.le_of_ble_eq_true rfl, iX5, (hts _ (x_at 311 (by decide +kernel) rfl)), fun x h => h⟩
theorem fl140 {s : State} {args : Array Value} (hts : ∀ w ∈ x_Tb, w.before args s = true) : x_fok vwCl x_G x_Tb s args "TwinFires$Rows" (18, 8, 3) := ⟨5, _, RX5, TX5, "TwinFires$Rows", rfl, rfl, Nat.le_of_ble_eq_true rfl, iX5, (hts _ (x_at 313 (by decide +kernel) rfl)), fun x h => h⟩
theorem fl141 {s : State} {args : Array Value} (hts : ∀ w ∈ x_Tb, w.before args s = true) : x_fok vwCl x_G x_Tb s args "TwinFires$Rows" (72, 2, 0) := ⟨2, _, RX2, TX2, "TwinFires$Land", rfl, rfl, Nat.le_of_ble_eq_true rfl, iX2, (hts _ (x_at 148 (by decide +kernel) rfl)), fun x h => h⟩
theorem fl142 {s : State} {args : Array Value} (hts : ∀ w ∈ x_Tb, w.before args s = true) : x_fok vwCl x_G x_Tb s args "TwinFires" (254, 2, 12) := ⟨2, _, RX2, TX2, "TwinFires$Land", rfl, rfl, Nat.le_of_ble_eq_true rfl, iX2, (hts _ (x_at 183 (by decide +kernel) rfl)), fun x h => h⟩
theorem fl143 {s : State} {args : Array Value} (hts : ∀ w ∈ x_Tb, w.before args s = true) : x_fok vwCl x_G x_Tb s args "TwinFires" (257, 2, 13) := ⟨2, _, RX2, TX2, "TwinFires$Land", rfl, rfl, Nat.le_of_ble_eq_true rfl, iX2, (hts _ (x_at 186 (by decide +kernel) rfl)), fun x h => h⟩
theorem fw144 {s : State} {args : Array Value} {mn : String} (hts : ∀ w ∈ x_Tb, w.before args s = true) : x_pok vwCl x_G x_Tb s args "TwinFires" mn (254, 2, 12) := ⟨2, _, RX2, TX2, "TwinFires$Land", tyX2, _, rfl, rfl, Nat.le_of_ble_eq_true rfl, iX2, (hts _ (x_at 183 (by decide +kernel) rfl)), fun x h => h, tyX2_ok, nmX2, rfl, x_fitI _ _, Or.inl rfl⟩
theorem fl145 {s : State} {args : Array Value} (hts : ∀ w ∈ x_Tb, w.before args s = true) : x_fok vwCl x_G x_Tb s args "TwinFires$Rows" (92, 2, 12) := ⟨2, _, RX2, TX2, "TwinFires$Land", rfl, rfl, Nat.le_of_ble_eq_true rfl, iX2, (hts _ (x_at 182 (by decide +kernel) rfl)), fun x h => h⟩
theorem fl146 {s : State} {args : Array Value} (hts : ∀ w ∈ x_Tb, w.before args s = true) : x_fok vwCl x_G x_Tb s args "TwinFires$Rows" (106, 2, 13) := ⟨2, _, RX2, TX2, "TwinFires$Land", rfl, rfl, Nat.le_of_ble_eq_true rfl, iX2, (hts _ (x_at 185 (by decide +kernel) rfl)), fun x h => h⟩
theorem fl147 {s : State} {args : Array Value} (hts : ∀ w ∈ x_Tb, w.before args s = true) : x_fok vwCl x_G x_Tb s args "TwinFires$Rows" (21, 8, 4) := ⟨5, _, RX5, TX5, "TwinFires$Rows", rfl, rfl, Nat.le_of_ble_eq_true rfl, iX5, (hts _ (x_at 314 (by decide +kernel) rfl)), fun x h => h⟩
theorem fl148 {s : State} {args : Array Value} (hts : ∀ w ∈ x_Tb, w.before args s = true) : x_fok vwCl x_G x_Tb s args "TwinFires$Rows" (24, 8, 5) := ⟨5, _, RX5, TX5, "TwinFires$Rows", rfl, rfl, Nat.le_of_ble_eq_true rfl, iX5, (hts _ (x_at 315 (by decide +kernel) rfl)), fun x h => h⟩
theorem fw149 {s : State} {args : Array Value} {mn : String} (hts : ∀ w ∈ x_Tb, w.before args s = true) : x_pok vwCl x_G x_Tb s args "TwinFires$Rows" mn (21, 8, 4) := ⟨5, _, RX5, TX5, "TwinFires$Rows", tyX5, _, rfl, rfl, Nat.le_of_ble_eq_true rfl, iX5, (hts _ (x_at 314 (by decide +kernel) rfl)), fun x h => h, tyX5_ok, nmX5, rfl, x_fitA1 _ _, Or.inl rfl⟩
theorem fw150 {s : State} {args : Array Value} {mn : String} (hts : ∀ w ∈ x_Tb, w.before args s = true) : x_pok vwCl x_G x_Tb s args "TwinFires$Rows" mn (24, 8, 5) := ⟨5, _, RX5, TX5, "TwinFires$Rows", tyX5, _, rfl, rfl, Nat.le_of_ble_eq_true rfl, iX5, (hts _ (x_at 315 (by decide +kernel) rfl)), fun x h => h, tyX5_ok, nmX5, rfl, x_fitA1 _ _, Or.inl rfl⟩
theorem fl151 {s : State} {args : Array Value} (hts : ∀ w ∈ x_Tb, w.before args s = true) : x_fok vwCl x_G x_Tb s args "TwinFires" (264, 2, 4) := ⟨2, _, RX2, TX2, "TwinFires$Land", rfl, rfl, Nat.le_of_ble_eq_true rfl, iX2, (hts _ (x_at 160 (by decide +kernel) rfl)), fun x h => h⟩
theorem fl152 {s : State} {args : Array Value} (hts : ∀ w ∈ x_Tb, w.before args s = true) : x_fok vwCl x_G x_Tb s args "TwinFires" (267, 2, 5) := ⟨2, _, RX2, TX2, "TwinFires$Land", rfl, rfl, Nat.le_of_ble_eq_true rfl, iX2, (hts _ (x_at 162 (by decide +kernel) rfl)), fun x h => h⟩
theorem fl153 {s : State} {args : Array Value} (hts : ∀ w ∈ x_Tb, w.before args s = true) : x_fok vwCl x_G x_Tb s args "TwinFires" (273, 2, 0) := ⟨2, _, RX2, TX2, "TwinFires$Land", rfl, rfl, Nat.le_of_ble_eq_true rfl, iX2, (hts _ (x_at 149 (by decide +kernel) rfl)), fun x h => h⟩
theorem fl154 {s : State} {args : Array Value} (hts : ∀ w ∈ x_Tb, w.before args s = true) : x_fok vwCl x_G x_Tb s args "TwinFires" (283, 2, 14) := ⟨2, _, RX2, TX2, "TwinFires$Land", rfl, rfl, Nat.le_of_ble_eq_true rfl, iX2, (hts _ (x_at 188 (by decide +kernel) rfl)), fun x h => h⟩
theorem fl155 {s : State} {args : Array Value} (hts : ∀ w ∈ x_Tb, w.before args s = true) : x_fok vwCl x_G x_Tb s args "TwinFires" (286, 2, 15) := ⟨2, _, RX2, TX2, "TwinFires$Land", rfl, rfl, Nat.le_of_ble_eq_true rfl, iX2, (hts _ (x_at 190 (by decide +kernel) rfl)), fun x h => h⟩
theorem fl156 {s : State} {args : Array Value} (hts : ∀ w ∈ x_Tb, w.before args s = true) : x_fok vwCl x_G x_Tb s args "TwinFires" (48, 0, 7) := ⟨11, _, RX11, TX11, "TwinFires", rfl, rfl, Nat.le_of_ble_eq_true rfl, iX11, (hts _ (x_at 336 (by decide +kernel) rfl)), fun x h => h⟩
theorem fl157 {s : State} {args : Array Value} (hts : ∀ w ∈ x_Tb, w.before args s = true) : x_fok vwCl x_G x_Tb s args "TwinFires" (52, 0, 8) := ⟨11, _, RX11, TX11, "TwinFires", rfl, rfl, Nat.le_of_ble_eq_true rfl, iX11, (hts _ (x_at 337 (by decide +kernel) rfl)), fun x h => h⟩
theorem fl158 {s : State} {args : Array Value} (hts : ∀ w ∈ x_Tb, w.before args s = true) : x_fok vwCl x_G x_Tb s args "TwinFires" (19, 0, 2) := ⟨11, _, RX11, TX11, "TwinFires", rfl, rfl, Nat.le_of_ble_eq_true rfl, iX11, (hts _ (x_at 331 (by decide +kernel) rfl)), fun x h => h⟩
theorem fl159 {s : State} {args : Array Value} (hts : ∀ w ∈ x_Tb, w.before args s = true) : x_fok vwCl x_G x_Tb s args "TwinFires" (293, 2, 6) := ⟨2, _, RX2, TX2, "TwinFires$Land", rfl, rfl, Nat.le_of_ble_eq_true rfl, iX2, (hts _ (x_at 165 (by decide +kernel) rfl)), fun x h => h⟩
theorem fl160 {s : State} {args : Array Value} (hts : ∀ w ∈ x_Tb, w.before args s = true) : x_fok vwCl x_G x_Tb s args "TwinFires$Land" (144, 11, 0) := ⟨6, _, RX6, TX6, "TwinFires$Stone", rfl, rfl, Nat.le_of_ble_eq_true rfl, iX6, (hts _ (x_at 111 (by decide +kernel) rfl)), fun x h => h⟩
theorem fl161 {s : State} {args : Array Value} (hts : ∀ w ∈ x_Tb, w.before args s = true) : x_fok vwCl x_G x_Tb s args "TwinFires$Land" (144, 12, 0) := ⟨10, _, RX10, TX10, "TwinFires$Stone", rfl, rfl, Nat.le_of_ble_eq_true rfl, iX10, (hts _ (x_at 111 (by decide +kernel) rfl)), fun x h => h⟩
theorem fl162 {s : State} {args : Array Value} (hts : ∀ w ∈ x_Tb, w.before args s = true) : x_fok vwCl x_G x_Tb s args "TwinFires$Land" (144, 13, 0) := ⟨4, _, RX4, TX4, "TwinFires$Stone", rfl, rfl, Nat.le_of_ble_eq_true rfl, iX4, (hts _ (x_at 111 (by decide +kernel) rfl)), fun x h => h⟩
theorem fl163 {s : State} {args : Array Value} (hts : ∀ w ∈ x_Tb, w.before args s = true) : x_fok vwCl x_G x_Tb s args "TwinFires$Land" (144, 14, 0) := ⟨1, _, RX1, TX1, "TwinFires$Stone", rfl, rfl, Nat.le_of_ble_eq_true rfl, iX1, (hts _ (x_at 111 (by decide +kernel) rfl)), fun x h => h⟩
theorem fl164 {s : State} {args : Array Value} (hts : ∀ w ∈ x_Tb, w.before args s = true) : x_fok vwCl x_G x_Tb s args "TwinFires$Land" (144, 15, 0) := ⟨8, _, RX8, TX8, "TwinFires$Stone", rfl, rfl, Nat.le_of_ble_eq_true rfl, iX8, (hts _ (x_at 111 (by decide +kernel) rfl)), fun x h => h⟩
theorem fl165 {s : State} {args : Array Value} (hts : ∀ w ∈ x_Tb, w.before args s = true) : x_fok vwCl x_G x_Tb s args "TwinFires$Land" (144, 16, 0) := ⟨9, _, RX9, TX9, "TwinFires$Stone", rfl, rfl, Nat.le_of_ble_eq_true rfl, iX9, (hts _ (x_at 111 (by decide +kernel) rfl)), fun x h => h⟩
theorem fl166 {s : State} {args : Array Value} (hts : ∀ w ∈ x_Tb, w.before args s = true) : x_fok vwCl x_G x_Tb s args "TwinFires$Land" (147, 11, 1) := ⟨6, _, RX6, TX6, "TwinFires$Stone", rfl, rfl, Nat.le_of_ble_eq_true rfl, iX6, (hts _ (x_at 115 (by decide +kernel) rfl)), fun x h => h⟩
theorem fl167 {s : State} {args : Array Value} (hts : ∀ w ∈ x_Tb, w.before args s = true) : x_fok vwCl x_G x_Tb s args "TwinFires$Land" (147, 12, 1) := ⟨10, _, RX10, TX10, "TwinFires$Stone", rfl, rfl, Nat.le_of_ble_eq_true rfl, iX10, (hts _ (x_at 115 (by decide +kernel) rfl)), fun x h => h⟩
theorem fl168 {s : State} {args : Array Value} (hts : ∀ w ∈ x_Tb, w.before args s = true) : x_fok vwCl x_G x_Tb s args "TwinFires$Land" (147, 13, 1) := ⟨4, _, RX4, TX4, "TwinFires$Stone", rfl, rfl, Nat.le_of_ble_eq_true rfl, iX4, (hts _ (x_at 115 (by decide +kernel) rfl)), fun x h => h⟩
theorem fl169 {s : State} {args : Array Value} (hts : ∀ w ∈ x_Tb, w.before args s = true) : x_fok vwCl x_G x_Tb s args "TwinFires$Land" (147, 14, 1) := ⟨1, _, RX1, TX1, "TwinFires$Stone", rfl, rfl, Nat.le_of_ble_eq_true rfl, iX1, (hts _ (x_at 115 (by decide +kernel) rfl)), fun x h => h⟩
theorem fl170 {s : State} {args : Array Value} (hts : ∀ w ∈ x_Tb, w.before args s = true) : x_fok vwCl x_G x_Tb s args "TwinFires$Land" (147, 15, 1) := ⟨8, _, RX8, TX8, "TwinFires$Stone", rfl, rfl, Nat.le_of_ble_eq_true rfl, iX8, (hts _ (x_at 115 (by decide +kernel) rfl)), fun x h => h⟩
theorem fl171 {s : State} {args : Array Value} (hts : ∀ w ∈ x_Tb, w.before args s = true) : x_fok vwCl x_G x_Tb s args "TwinFires$Land" (147, 16, 1) := ⟨9, _, RX9, TX9, "TwinFires$Stone", rfl, rfl, Nat.le_of_ble_eq_true rfl, iX9, (hts _ (x_at 115 (by decide +kernel) rfl)), fun x h => h⟩
theorem fl172 {s : State} {args : Array Value} (hts : ∀ w ∈ x_Tb, w.before args s = true) : x_fok vwCl x_G x_Tb s args "TwinFires$Land" (149, 11, 2) := ⟨6, _, RX6, TX6, "TwinFires$Stone", rfl, rfl, Nat.le_of_ble_eq_true rfl, iX6, (hts _ (x_at 119 (by decide +kernel) rfl)), fun x h => h⟩
theorem fl173 {s : State} {args : Array Value} (hts : ∀ w ∈ x_Tb, w.before args s = true) : x_fok vwCl x_G x_Tb s args "TwinFires$Land" (149, 12, 2) := ⟨10, _, RX10, TX10, "TwinFires$Stone", rfl, rfl, Nat.le_of_ble_eq_true rfl, iX10, (hts _ (x_at 119 (by decide +kernel) rfl)), fun x h => h⟩
theorem fl174 {s : State} {args : Array Value} (hts : ∀ w ∈ x_Tb, w.before args s = true) : x_fok vwCl x_G x_Tb s args "TwinFires$Land" (149, 13, 2) := ⟨4, _, RX4, TX4, "TwinFires$Stone", rfl, rfl, Nat.le_of_ble_eq_true rfl, iX4, (hts _ (x_at 119 (by decide +kernel) rfl)), fun x h => h⟩
theorem fl175 {s : State} {args : Array Value} (hts : ∀ w ∈ x_Tb, w.before args s = true) : x_fok vwCl x_G x_Tb s args "TwinFires$Land" (149, 14, 2) := ⟨1, _, RX1, TX1, "TwinFires$Stone", rfl, rfl, Nat.le_of_ble_eq_true rfl, iX1, (hts _ (x_at 119 (by decide +kernel) rfl)), fun x h => h⟩
theorem fl176 {s : State} {args : Array Value} (hts : ∀ w ∈ x_Tb, w.before args s = true) : x_fok vwCl x_G x_Tb s args "TwinFires$Land" (149, 15, 2) := ⟨8, _, RX8, TX8, "TwinFires$Stone", rfl, rfl, Nat.le_of_ble_eq_true rfl, iX8, (hts _ (x_at 119 (by decide +kernel) rfl)), fun x h => h⟩
theorem fl177 {s : State} {args : Array Value} (hts : ∀ w ∈ x_Tb, w.before args s = true) : x_fok vwCl x_G x_Tb s args "TwinFires$Land" (149, 16, 2) := ⟨9, _, RX9, TX9, "TwinFires$Stone", rfl, rfl, Nat.le_of_ble_eq_true rfl, iX9, (hts _ (x_at 119 (by decide +kernel) rfl)), fun x h => h⟩
theorem fl178 {s : State} {args : Array Value} (hts : ∀ w ∈ x_Tb, w.before args s = true) : x_fok vwCl x_G x_Tb s args "TwinFires$Land" (151, 11, 3) := ⟨6, _, RX6, TX6, "TwinFires$Stone", rfl, rfl, Nat.le_of_ble_eq_true rfl, iX6, (hts _ (x_at 125 (by decide +kernel) rfl)), fun x h => h⟩
theorem fl179 {s : State} {args : Array Value} (hts : ∀ w ∈ x_Tb, w.before args s = true) : x_fok vwCl x_G x_Tb s args "TwinFires$Land" (151, 12, 3) := ⟨10, _, RX10, TX10, "TwinFires$Stone", rfl, rfl, Nat.le_of_ble_eq_true rfl, iX10, (hts _ (x_at 125 (by decide +kernel) rfl)), fun x h => h⟩
theorem fl180 {s : State} {args : Array Value} (hts : ∀ w ∈ x_Tb, w.before args s = true) : x_fok vwCl x_G x_Tb s args "TwinFires$Land" (151, 13, 3) := ⟨4, _, RX4, TX4, "TwinFires$Stone", rfl, rfl, Nat.le_of_ble_eq_true rfl, iX4, (hts _ (x_at 125 (by decide +kernel) rfl)), fun x h => h⟩
theorem fl181 {s : State} {args : Array Value} (hts : ∀ w ∈ x_Tb, w.before args s = true) : x_fok vwCl x_G x_Tb s args "TwinFires$Land" (151, 14, 3) := ⟨1, _, RX1, TX1, "TwinFires$Stone", rfl, rfl, Nat.le_of_ble_eq_true rfl, iX1, (hts _ (x_at 125 (by decide +kernel) rfl)), fun x h => h⟩
theorem fl182 {s : State} {args : Array Value} (hts : ∀ w ∈ x_Tb, w.before args s = true) : x_fok vwCl x_G x_Tb s args "TwinFires$Land" (151, 15, 3) := ⟨8, _, RX8, TX8, "TwinFires$Stone", rfl, rfl, Nat.le_of_ble_eq_true rfl, iX8, (hts _ (x_at 125 (by decide +kernel) rfl)), fun x h => h⟩
theorem fl183 {s : State} {args : Array Value} (hts : ∀ w ∈ x_Tb, w.before args s = true) : x_fok vwCl x_G x_Tb s args "TwinFires$Land" (151, 16, 3) := ⟨9, _, RX9, TX9, "TwinFires$Stone", rfl, rfl, Nat.le_of_ble_eq_true rfl, iX9, (hts _ (x_at 125 (by decide +kernel) rfl)), fun x h => h⟩
theorem fl184 {s : State} {args : Array Value} (hts : ∀ w ∈ x_Tb, w.before args s = true) : x_fok vwCl x_G x_Tb s args "TwinFires$Land" (154, 11, 4) := ⟨6, _, RX6, TX6, "TwinFires$Stone", rfl, rfl, Nat.le_of_ble_eq_true rfl, iX6, (hts _ (x_at 133 (by decide +kernel) rfl)), fun x h => h⟩
theorem fl185 {s : State} {args : Array Value} (hts : ∀ w ∈ x_Tb, w.before args s = true) : x_fok vwCl x_G x_Tb s args "TwinFires$Land" (154, 12, 4) := ⟨10, _, RX10, TX10, "TwinFires$Stone", rfl, rfl, Nat.le_of_ble_eq_true rfl, iX10, (hts _ (x_at 133 (by decide +kernel) rfl)), fun x h => h⟩
theorem fl186 {s : State} {args : Array Value} (hts : ∀ w ∈ x_Tb, w.before args s = true) : x_fok vwCl x_G x_Tb s args "TwinFires$Land" (154, 13, 4) := ⟨4, _, RX4, TX4, "TwinFires$Stone", rfl, rfl, Nat.le_of_ble_eq_true rfl, iX4, (hts _ (x_at 133 (by decide +kernel) rfl)), fun x h => h⟩
theorem fl187 {s : State} {args : Array Value} (hts : ∀ w ∈ x_Tb, w.before args s = true) : x_fok vwCl x_G x_Tb s args "TwinFires$Land" (154, 14, 4) := ⟨1, _, RX1, TX1, "TwinFires$Stone", rfl, rfl, Nat.le_of_ble_eq_true rfl, iX1, (hts _ (x_at 133 (by decide +kernel) rfl)), fun x h => h⟩
theorem fl188 {s : State} {args : Array Value} (hts : ∀ w ∈ x_Tb, w.before args s = true) : x_fok vwCl x_G x_Tb s args "TwinFires$Land" (154, 15, 4) := ⟨8, _, RX8, TX8, "TwinFires$Stone", rfl, rfl, Nat.le_of_ble_eq_true rfl, iX8, (hts _ (x_at 133 (by decide +kernel) rfl)), fun x h => h⟩
theorem fl189 {s : State} {args : Array Value} (hts : ∀ w ∈ x_Tb, w.before args s = true) : x_fok vwCl x_G x_Tb s args "TwinFires$Land" (154, 16, 4) := ⟨9, _, RX9, TX9, "TwinFires$Stone", rfl, rfl, Nat.le_of_ble_eq_true rfl, iX9, (hts _ (x_at 133 (by decide +kernel) rfl)), fun x h => h⟩
theorem fl190 {s : State} {args : Array Value} (hts : ∀ w ∈ x_Tb, w.before args s = true) : x_fok vwCl x_G x_Tb s args "TwinFiresModel" (7, 17, 0) := ⟨12, _, RX12, TX12, "TwinFiresModel", rfl, rfl, Nat.le_of_ble_eq_true rfl, iX12, (hts _ (x_at 1059 (by decide +kernel) rfl)), fun x h => h⟩
theorem fl191 {s : State} {args : Array Value} (hts : ∀ w ∈ x_Tb, w.before args s = true) : x_fok vwCl x_G x_Tb s args "TwinFiresModel" (23, 17, 4) := ⟨12, _, RX12, TX12, "TwinFiresModel", rfl, rfl, Nat.le_of_ble_eq_true rfl, iX12, (hts _ (x_at 1063 (by decide +kernel) rfl)), fun x h => h⟩
theorem fl192 {s : State} {args : Array Value} (hts : ∀ w ∈ x_Tb, w.before args s = true) : x_fok vwCl x_G x_Tb s args "TwinFiresModel" (72, 17, 5) := ⟨12, _, RX12, TX12, "TwinFiresModel", rfl, rfl, Nat.le_of_ble_eq_true rfl, iX12, (hts _ (x_at 1064 (by decide +kernel) rfl)), fun x h => h⟩
theorem fl193 {s : State} {args : Array Value} (hts : ∀ w ∈ x_Tb, w.before args s = true) : x_fok vwCl x_G x_Tb s args "TwinFiresModel" (160, 17, 10) := ⟨12, _, RX12, TX12, "TwinFiresModel", rfl, rfl, Nat.le_of_ble_eq_true rfl, iX12, (hts _ (x_at 1069 (by decide +kernel) rfl)), fun x h => h⟩
theorem fw194 {s : State} {args : Array Value} {mn : String} (hts : ∀ w ∈ x_Tb, w.before args s = true) : x_pok vwCl x_G x_Tb s args "TwinFiresModel" mn (160, 17, 10) := ⟨12, _, RX12, TX12, "TwinFiresModel", tyX12, _, rfl, rfl, Nat.le_of_ble_eq_true rfl, iX12, (hts _ (x_at 1069 (by decide +kernel) rfl)), fun x h => h, tyX12_ok, nmX12, rfl, x_fitI _ _, Or.inl rfl⟩
theorem fl195 {s : State} {args : Array Value} (hts : ∀ w ∈ x_Tb, w.before args s = true) : x_fok vwCl x_G x_Tb s args "TwinFiresModel" (29, 17, 9) := ⟨12, _, RX12, TX12, "TwinFiresModel", rfl, rfl, Nat.le_of_ble_eq_true rfl, iX12, (hts _ (x_at 1068 (by decide +kernel) rfl)), fun x h => h⟩
theorem fl196 {s : State} {args : Array Value} (hts : ∀ w ∈ x_Tb, w.before args s = true) : x_fok vwCl x_G x_Tb s args "TwinFiresModel" (166, 17, 11) := ⟨12, _, RX12, TX12, "TwinFiresModel", rfl, rfl, Nat.le_of_ble_eq_true rfl, iX12, (hts _ (x_at 1070 (by decide +kernel) rfl)), fun x h => h⟩
theorem fl197 {s : State} {args : Array Value} (hts : ∀ w ∈ x_Tb, w.before args s = true) : x_fok vwCl x_G x_Tb s args "TwinFiresModel" (32, 17, 15) := ⟨12, _, RX12, TX12, "TwinFiresModel", rfl, rfl, Nat.le_of_ble_eq_true rfl, iX12, (hts _ (x_at 1074 (by decide +kernel) rfl)), fun x h => h⟩
theorem fl198 {s : State} {args : Array Value} (hts : ∀ w ∈ x_Tb, w.before args s = true) : x_fok vwCl x_G x_Tb s args "TwinFiresModel" (35, 17, 16) := ⟨12, _, RX12, TX12, "TwinFiresModel", rfl, rfl, Nat.le_of_ble_eq_true rfl, iX12, (hts _ (x_at 1075 (by decide +kernel) rfl)), fun x h => h⟩
theorem fl199 {s : State} {args : Array Value} (hts : ∀ w ∈ x_Tb, w.before args s = true) : x_fok vwCl x_G x_Tb s args "TwinFiresModel" (26, 17, 8) := ⟨12, _, RX12, TX12, "TwinFiresModel", rfl, rfl, Nat.le_of_ble_eq_true rfl, iX12, (hts _ (x_at 1067 (by decide +kernel) rfl)), fun x h => h⟩
theorem fl200 {s : State} {args : Array Value} (hts : ∀ w ∈ x_Tb, w.before args s = true) : x_fok vwCl x_G x_Tb s args "TwinFiresModel" (38, 17, 18) := ⟨12, _, RX12, TX12, "TwinFiresModel", rfl, rfl, Nat.le_of_ble_eq_true rfl, iX12, (hts _ (x_at 1077 (by decide +kernel) rfl)), fun x h => h⟩
theorem fl201 {s : State} {args : Array Value} (hts : ∀ w ∈ x_Tb, w.before args s = true) : x_fok vwCl x_G x_Tb s args "TwinFiresModel" (50, 17, 22) := ⟨12, _, RX12, TX12, "TwinFiresModel", rfl, rfl, Nat.le_of_ble_eq_true rfl, iX12, (hts _ (x_at 1081 (by decide +kernel) rfl)), fun x h => h⟩
theorem fl202 {s : State} {args : Array Value} (hts : ∀ w ∈ x_Tb, w.before args s = true) : x_fok vwCl x_G x_Tb s args "TwinFiresModel" (53, 17, 23) := ⟨12, _, RX12, TX12, "TwinFiresModel", rfl, rfl, Nat.le_of_ble_eq_true rfl, iX12, (hts _ (x_at 1082 (by decide +kernel) rfl)), fun x h => h⟩
theorem fl203 {s : State} {args : Array Value} (hts : ∀ w ∈ x_Tb, w.before args s = true) : x_fok vwCl x_G x_Tb s args "TwinFiresModel" (68, 17, 7) := ⟨12, _, RX12, TX12, "TwinFiresModel", rfl, rfl, Nat.le_of_ble_eq_true rfl, iX12, (hts _ (x_at 1066 (by decide +kernel) rfl)), fun x h => h⟩
theorem fl204 {s : State} {args : Array Value} (hts : ∀ w ∈ x_Tb, w.before args s = true) : x_fok vwCl x_G x_Tb s args "TwinFiresModel" (84, 17, 6) := ⟨12, _, RX12, TX12, "TwinFiresModel", rfl, rfl, Nat.le_of_ble_eq_true rfl, iX12, (hts _ (x_at 1065 (by decide +kernel) rfl)), fun x h => h⟩
end
section
/-- TwinFires.isWithin(III)Z -/
def xM1 : xM := (⟨"TwinFires", "isWithin", "(III)Z"⟩, prog_1_method_43_code, 3, some .boolean, [xF, xI 0 0, xI 19 19], [([xI 0 19, xI 0 0, xI 19 19], some (xI 1 1)), ([xF, xI 0 0, xI 19 19], some (xI 0 0))], [], (0, 0, 0, 0), none)
def xT1 : xTab := ([], [], [], [], [], [], [], [], [], [], [])
set_option maxRecDepth 100000 in
set_option maxHeartbeats 4000000 in
theorem xk1 : x_TOK vwCl x_G x_Zs x_Tb x_Nb xM1 xT1 := by
  intro p l e s m args below meth c D U hx hb hml hts hown hK hK0 hU hnm hN
  have X : x_cx p s m args c D U xM1.2.1 xM1.2.2.1 vwCl x_Tb x_Nb xM1.1.cls := ⟨hx, hb, hml, hown, hts, hK, hK0, hU, hN, x_Tb_good, x_Nb_ok⟩
  exact ⟨x_nilm, x_nilm, x_nilm, x_nilm, x_nilm, x_nilm, x_nilm, x_nilm, x_nilm, x_nilm, x_nilm⟩
set_option maxRecDepth 1000000 in
theorem xm1 : x_Met vwCl x_G x_Zs x_Tb x_Nb xM1 := x_main xT1 [] [] 2500 (by decide +kernel) (by decide +kernel) xk1 (by decide +kernel)
/-- TwinFires$Land.isPlace(II)Z -/
def xM2 : xM := (⟨"TwinFires$Land", "isPlace", "(II)Z"⟩, prog_4_method_8_code, 2, some .boolean, [xF, xF], [([xF, xF], some (xI 0 0)), ([xI 0 19, xI 0 19], some (xI 1 1))], [], (1, 22, 0, 0), none)
def xT2 : xTab := ([], [], [], [], [], [], [], [(1, 83, 3, none, xM1)], [], [], [])
set_option maxRecDepth 100000 in
set_option maxHeartbeats 4000000 in
theorem xk2 : x_TOK vwCl x_G x_Zs x_Tb x_Nb xM2 xT2 := by
  intro p l e s m args below meth c D U hx hb hml hts hown hK hK0 hU hnm hN
  have X : x_cx p s m args c D U xM2.2.1 xM2.2.2.1 vwCl x_Tb x_Nb xM2.1.cls := ⟨hx, hb, hml, hown, hts, hK, hK0, hU, hN, x_Tb_good, x_Nb_ok⟩
  exact ⟨x_nilm, x_nilm, x_nilm, x_nilm, x_nilm, x_nilm, x_nilm, (x_cons (x_cokSN (host := "TwinFires") X xm1 (x_cons (x_at 369 (by decide +kernel) rfl) (x_cons (x_at 65 (by decide +kernel) rfl) x_nilm)) (x_nt 368 (by decide +kernel) rfl) (x_at 370 (by decide +kernel) rfl) (by decide +kernel) ⟨Nat.le_of_ble_eq_true rfl, Nat.le_of_ble_eq_true rfl⟩) x_nilm), x_nilm, x_nilm, x_nilm⟩
set_option maxRecDepth 1000000 in
theorem xm2 : x_Met vwCl x_G x_Zs x_Tb x_Nb xM2 := x_main xT2 [] [] 2500 (by decide +kernel) (by decide +kernel) xk2 (by decide +kernel)
/-- TwinFires.isWithin(III)Z -/
def xM3 : xM := (⟨"TwinFires", "isWithin", "(III)Z"⟩, prog_1_method_43_code, 3, some .boolean, [xF, xI 0 0, xI 99 99], [([xI 0 99, xI 0 0, xI 99 99], some (xI 1 1)), ([xF, xI 0 0, xI 99 99], some (xI 0 0))], [], (0, 0, 0, 0), none)
def xT3 : xTab := ([], [], [], [], [], [], [], [], [], [], [])
set_option maxRecDepth 100000 in
set_option maxHeartbeats 4000000 in
theorem xk3 : x_TOK vwCl x_G x_Zs x_Tb x_Nb xM3 xT3 := by
  intro p l e s m args below meth c D U hx hb hml hts hown hK hK0 hU hnm hN
  have X : x_cx p s m args c D U xM3.2.1 xM3.2.2.1 vwCl x_Tb x_Nb xM3.1.cls := ⟨hx, hb, hml, hown, hts, hK, hK0, hU, hN, x_Tb_good, x_Nb_ok⟩
  exact ⟨x_nilm, x_nilm, x_nilm, x_nilm, x_nilm, x_nilm, x_nilm, x_nilm, x_nilm, x_nilm, x_nilm⟩
set_option maxRecDepth 1000000 in
theorem xm3 : x_Met vwCl x_G x_Zs x_Tb x_Nb xM3 := x_main xT3 [] [] 2500 (by decide +kernel) (by decide +kernel) xk3 (by decide +kernel)
/-- TwinFires$Land.isTaken(II)Z -/
def xM4 : xM := (⟨"TwinFires$Land", "isTaken", "(II)Z"⟩, prog_4_method_9_code, 4, some .boolean, [xR false [2], xF, xF], [([xR false [2], xF, xF], some (xI 1 1)), ([xR false [2], xF, xF], some (xI 0 0))], [], (0, 0, 0, 0), none)
def xT4 : xTab := ([(9, 2, 1), (15, 2, 2), (63, 2, 0)], [], [], [], [], [], [], [], [], [], [])
set_option maxRecDepth 100000 in
set_option maxHeartbeats 4000000 in
theorem xk4 : x_TOK vwCl x_G x_Zs x_Tb x_Nb xM4 xT4 := by
  intro p l e s m args below meth c D U hx hb hml hts hown hK hK0 hU hnm hN
  have X : x_cx p s m args c D U xM4.2.1 xM4.2.2.1 vwCl x_Tb x_Nb xM4.1.cls := ⟨hx, hb, hml, hown, hts, hK, hK0, hU, hN, x_Tb_good, x_Nb_ok⟩
  exact ⟨(x_cons (fl0 hts) (x_cons (fl1 hts) (x_cons (fl2 hts) x_nilm))), x_nilm, x_nilm, x_nilm, x_nilm, x_nilm, x_nilm, x_nilm, x_nilm, x_nilm, x_nilm⟩
set_option maxRecDepth 1000000 in
theorem xm4 : x_Met vwCl x_G x_Zs x_Tb x_Nb xM4 := x_main xT4 [(2, ([(0, xR false [2]), (1, xF), (2, xF), (3, xI 0 10)], [], []), (3, true), [], false, 0, [])] [] 2500 (by decide +kernel) (by decide +kernel) xk4 (by decide +kernel)
/-- TwinFires$Land.addHill(III)I -/
def xM5 : xM := (⟨"TwinFires$Land", "addHill", "(III)I"⟩, prog_4_method_7_code, 4, some .int, [xR false [2], xF, xF, xF], [([xR false [2], xF, xF, xF], some (xI (-4) 9))], [(2, 0), (19, 0), (20, 0), (21, 0), (22, 0), (23, 0)], (2, 43, 0, 0), none)
def xT5 : xTab := ([(9, 2, 1), (15, 2, 2), (18, 2, 3), (21, 2, 4), (24, 2, 5), (63, 2, 0)], [(63, 2, 0)], [], [], [], [], [], [(1, 79, 2, none, xM2), (1, 83, 3, none, xM3), (0, 87, 3, some 2, xM4)], [], [], [])
set_option maxRecDepth 100000 in
set_option maxHeartbeats 4000000 in
theorem xk5 : x_TOK vwCl x_G x_Zs x_Tb x_Nb xM5 xT5 := by
  intro p l e s m args below meth c D U hx hb hml hts hown hK hK0 hU hnm hN
  have X : x_cx p s m args c D U xM5.2.1 xM5.2.2.1 vwCl x_Tb x_Nb xM5.1.cls := ⟨hx, hb, hml, hown, hts, hK, hK0, hU, hN, x_Tb_good, x_Nb_ok⟩
  exact ⟨(x_cons (fl0 hts) (x_cons (fl1 hts) (x_cons (fl3 hts) (x_cons (fl4 hts) (x_cons (fl5 hts) (x_cons (fl2 hts) x_nilm)))))), (x_cons (fw6 hts) x_nilm), x_nilm, x_nilm, x_nilm, x_nilm, x_nilm, (x_cons (x_cokS X xm2 (x_cons (x_at 365 (by decide +kernel) rfl) (x_cons (x_at 366 (by decide +kernel) rfl) (x_cons (x_at 66 (by decide +kernel) rfl) x_nilm))) (x_at 367 (by decide +kernel) rfl) (by decide +kernel) ⟨Nat.le_of_ble_eq_true rfl, Nat.le_of_ble_eq_true rfl⟩) (x_cons (x_cokSN (host := "TwinFires") X xm3 (x_cons (x_at 369 (by decide +kernel) rfl) (x_cons (x_at 65 (by decide +kernel) rfl) x_nilm)) (x_nt 368 (by decide +kernel) rfl) (x_at 370 (by decide +kernel) rfl) (by decide +kernel) ⟨Nat.le_of_ble_eq_true rfl, Nat.le_of_ble_eq_true rfl⟩) (x_cons (x_cokV (ci := 2) X xm4 rfl rfl rfl (x_cons (x_at 371 (by decide +kernel) rfl) (x_cons (x_at 373 (by decide +kernel) rfl) (x_cons (x_at 0 (by decide +kernel) rfl) (x_cons (x_at 66 (by decide +kernel) rfl) x_nilm)))) (x_at 374 (by decide +kernel) rfl) (by decide +kernel) ⟨Nat.le_of_ble_eq_true rfl, Nat.le_of_ble_eq_true rfl⟩) x_nilm))), x_nilm, x_nilm, x_nilm⟩
set_option maxRecDepth 1000000 in
theorem xm5 : x_Met vwCl x_G x_Zs x_Tb x_Nb xM5 := x_main xT5 [] [] 2500 (by decide +kernel) (by decide +kernel) xk5 (by decide +kernel)
/-- TwinFires.isWithin(III)Z -/
def xM6 : xM := (⟨"TwinFires", "isWithin", "(III)Z"⟩, prog_1_method_43_code, 3, some .boolean, [xF, xI 0 0, xI 2 2], [([xI 0 2, xI 0 0, xI 2 2], some (xI 1 1)), ([xF, xI 0 0, xI 2 2], some (xI 0 0))], [], (0, 0, 0, 0), none)
def xT6 : xTab := ([], [], [], [], [], [], [], [], [], [], [])
set_option maxRecDepth 100000 in
set_option maxHeartbeats 4000000 in
theorem xk6 : x_TOK vwCl x_G x_Zs x_Tb x_Nb xM6 xT6 := by
  intro p l e s m args below meth c D U hx hb hml hts hown hK hK0 hU hnm hN
  have X : x_cx p s m args c D U xM6.2.1 xM6.2.2.1 vwCl x_Tb x_Nb xM6.1.cls := ⟨hx, hb, hml, hown, hts, hK, hK0, hU, hN, x_Tb_good, x_Nb_ok⟩
  exact ⟨x_nilm, x_nilm, x_nilm, x_nilm, x_nilm, x_nilm, x_nilm, x_nilm, x_nilm, x_nilm, x_nilm⟩
set_option maxRecDepth 1000000 in
theorem xm6 : x_Met vwCl x_G x_Zs x_Tb x_Nb xM6 := x_main xT6 [] [] 2500 (by decide +kernel) (by decide +kernel) xk6 (by decide +kernel)
/-- TwinFires.countedAs(II)I -/
def xM7 : xM := (⟨"TwinFires", "countedAs", "(II)I"⟩, prog_1_method_47_code, 4, some .int, [xR false [0], xF, xF], [([xR false [0], xF, xF], some (xF))], [(42, 0)], (1, 22, 0, 0), none)
def xT7 : xTab := ([(44, 0, 6)], [], [], [], [], [], [], [(1, 88, 3, none, xM6)], [], [], [])
set_option maxRecDepth 100000 in
set_option maxHeartbeats 4000000 in
theorem xk7 : x_TOK vwCl x_G x_Zs x_Tb x_Nb xM7 xT7 := by
  intro p l e s m args below meth c D U hx hb hml hts hown hK hK0 hU hnm hN
  have X : x_cx p s m args c D U xM7.2.1 xM7.2.2.1 vwCl x_Tb x_Nb xM7.1.cls := ⟨hx, hb, hml, hown, hts, hK, hK0, hU, hN, x_Tb_good, x_Nb_ok⟩
  exact ⟨(x_cons (fl7 hts) x_nilm), x_nilm, x_nilm, x_nilm, x_nilm, x_nilm, x_nilm, (x_cons (x_cokS X xm6 (x_cons (x_at 383 (by decide +kernel) rfl) (x_cons (x_at 369 (by decide +kernel) rfl) (x_cons (x_at 65 (by decide +kernel) rfl) x_nilm))) (x_at 370 (by decide +kernel) rfl) (by decide +kernel) ⟨Nat.le_of_ble_eq_true rfl, Nat.le_of_ble_eq_true rfl⟩) x_nilm), x_nilm, x_nilm, x_nilm⟩
set_option maxRecDepth 1000000 in
theorem xm7 : x_Met vwCl x_G x_Zs x_Tb x_Nb xM7 := x_main xT7 [] [] 2500 (by decide +kernel) (by decide +kernel) xk7 (by decide +kernel)
/-- TwinFires.counted(I)I -/
def xM8 : xM := (⟨"TwinFires", "counted", "(I)I"⟩, prog_1_method_46_code, 2, some .int, [xR false [0], xF], [([xR false [0], xF], some (xF))], [(42, 0)], (2, 45, 0, 0), none)
def xT8 : xTab := ([], [], [], [], [], [], [], [(0, 221, 3, some 0, xM7)], [], [], [])
set_option maxRecDepth 100000 in
set_option maxHeartbeats 4000000 in
theorem xk8 : x_TOK vwCl x_G x_Zs x_Tb x_Nb xM8 xT8 := by
  intro p l e s m args below meth c D U hx hb hml hts hown hK hK0 hU hnm hN
  have X : x_cx p s m args c D U xM8.2.1 xM8.2.2.1 vwCl x_Tb x_Nb xM8.1.cls := ⟨hx, hb, hml, hown, hts, hK, hK0, hU, hN, x_Tb_good, x_Nb_ok⟩
  exact ⟨x_nilm, x_nilm, x_nilm, x_nilm, x_nilm, x_nilm, x_nilm, (x_cons (x_cokV (ci := 11) X xm7 rfl rfl rfl (x_cons (x_at 379 (by decide +kernel) rfl) (x_cons (x_at 381 (by decide +kernel) rfl) (x_cons (x_at 2 (by decide +kernel) rfl) (x_cons (x_at 65 (by decide +kernel) rfl) x_nilm)))) (x_at 382 (by decide +kernel) rfl) (by decide +kernel) ⟨Nat.le_of_ble_eq_true rfl, Nat.le_of_ble_eq_true rfl⟩) x_nilm), x_nilm, x_nilm, x_nilm⟩
set_option maxRecDepth 1000000 in
theorem xm8 : x_Met vwCl x_G x_Zs x_Tb x_Nb xM8 := x_main xT8 [] [] 2500 (by decide +kernel) (by decide +kernel) xk8 (by decide +kernel)
/-- TwinFires.hill(III)I -/
def xM9 : xM := (⟨"TwinFires", "hill", "(III)I"⟩, prog_1_method_2_code, 4, some .int, [xR false [0], xF, xF, xF], [([xR false [0], xF, xF, xF], some (xF))], [(2, 0), (19, 0), (20, 0), (21, 0), (22, 0), (23, 0), (42, 0)], (3, 66, 0, 0), none)
def xT9 : xTab := ([(12, 0, 0)], [], [], [], [], [], [], [(0, 55, 4, some 2, xM5), (0, 59, 2, some 0, xM8)], [], [], [])
set_option maxRecDepth 100000 in
set_option maxHeartbeats 4000000 in
theorem xk9 : x_TOK vwCl x_G x_Zs x_Tb x_Nb xM9 xT9 := by
  intro p l e s m args below meth c D U hx hb hml hts hown hK hK0 hU hnm hN
  have X : x_cx p s m args c D U xM9.2.1 xM9.2.2.1 vwCl x_Tb x_Nb xM9.1.cls := ⟨hx, hb, hml, hown, hts, hK, hK0, hU, hN, x_Tb_good, x_Nb_ok⟩
  exact ⟨(x_cons (fl8 hts) x_nilm), x_nilm, x_nilm, x_nilm, x_nilm, x_nilm, x_nilm, (x_cons (x_cokV (ci := 2) X xm5 rfl rfl rfl (x_cons (x_at 361 (by decide +kernel) rfl) (x_cons (x_at 362 (by decide +kernel) rfl) (x_cons (x_at 363 (by decide +kernel) rfl) (x_cons (x_at 66 (by decide +kernel) rfl) x_nilm)))) (x_at 364 (by decide +kernel) rfl) (by decide +kernel) ⟨Nat.le_of_ble_eq_true rfl, Nat.le_of_ble_eq_true rfl⟩) (x_cons (x_cokV (ci := 11) X xm8 rfl rfl rfl (x_cons (x_at 375 (by decide +kernel) rfl) (x_cons (x_at 377 (by decide +kernel) rfl) (x_cons (x_at 1 (by decide +kernel) rfl) (x_cons (x_at 65 (by decide +kernel) rfl) x_nilm)))) (x_at 378 (by decide +kernel) rfl) (by decide +kernel) ⟨Nat.le_of_ble_eq_true rfl, Nat.le_of_ble_eq_true rfl⟩) x_nilm)), x_nilm, x_nilm, x_nilm⟩
set_option maxRecDepth 1000000 in
theorem xm9 : x_Met vwCl x_G x_Zs x_Tb x_Nb xM9 := x_main xT9 [] [] 2500 (by decide +kernel) (by decide +kernel) xk9 (by decide +kernel)
/-- TwinFires.isWithin(III)Z -/
def xM10 : xM := (⟨"TwinFires", "isWithin", "(III)Z"⟩, prog_1_method_43_code, 3, some .boolean, [xF, xF, xF], [([xF, xF, xF], some (xI 1 1)), ([xF, xF, xF], some (xI 0 0))], [], (0, 0, 0, 0), none)
def xT10 : xTab := ([], [], [], [], [], [], [], [], [], [], [])
set_option maxRecDepth 100000 in
set_option maxHeartbeats 4000000 in
theorem xk10 : x_TOK vwCl x_G x_Zs x_Tb x_Nb xM10 xT10 := by
  intro p l e s m args below meth c D U hx hb hml hts hown hK hK0 hU hnm hN
  have X : x_cx p s m args c D U xM10.2.1 xM10.2.2.1 vwCl x_Tb x_Nb xM10.1.cls := ⟨hx, hb, hml, hown, hts, hK, hK0, hU, hN, x_Tb_good, x_Nb_ok⟩
  exact ⟨x_nilm, x_nilm, x_nilm, x_nilm, x_nilm, x_nilm, x_nilm, x_nilm, x_nilm, x_nilm, x_nilm⟩
set_option maxRecDepth 1000000 in
theorem xm10 : x_Met vwCl x_G x_Zs x_Tb x_Nb xM10 := x_main xT10 [] [] 2500 (by decide +kernel) (by decide +kernel) xk10 (by decide +kernel)
/-- TwinFires.isWithin(III)Z -/
def xM11 : xM := (⟨"TwinFires", "isWithin", "(III)Z"⟩, prog_1_method_43_code, 3, some .boolean, [xF, xI 0 0, xI 5 5], [([xI 0 5, xI 0 0, xI 5 5], some (xI 1 1)), ([xF, xI 0 0, xI 5 5], some (xI 0 0))], [], (0, 0, 0, 0), none)
def xT11 : xTab := ([], [], [], [], [], [], [], [], [], [], [])
set_option maxRecDepth 100000 in
set_option maxHeartbeats 4000000 in
theorem xk11 : x_TOK vwCl x_G x_Zs x_Tb x_Nb xM11 xT11 := by
  intro p l e s m args below meth c D U hx hb hml hts hown hK hK0 hU hnm hN
  have X : x_cx p s m args c D U xM11.2.1 xM11.2.2.1 vwCl x_Tb x_Nb xM11.1.cls := ⟨hx, hb, hml, hown, hts, hK, hK0, hU, hN, x_Tb_good, x_Nb_ok⟩
  exact ⟨x_nilm, x_nilm, x_nilm, x_nilm, x_nilm, x_nilm, x_nilm, x_nilm, x_nilm, x_nilm, x_nilm⟩
set_option maxRecDepth 1000000 in
theorem xm11 : x_Met vwCl x_G x_Zs x_Tb x_Nb xM11 := x_main xT11 [] [] 2500 (by decide +kernel) (by decide +kernel) xk11 (by decide +kernel)
/-- TwinFires.isWithin(III)Z -/
def xM12 : xM := (⟨"TwinFires", "isWithin", "(III)Z"⟩, prog_1_method_43_code, 3, some .boolean, [xF, xI 0 0, xI 9 9], [([xI 0 9, xI 0 0, xI 9 9], some (xI 1 1)), ([xF, xI 0 0, xI 9 9], some (xI 0 0))], [], (0, 0, 0, 0), none)
def xT12 : xTab := ([], [], [], [], [], [], [], [], [], [], [])
set_option maxRecDepth 100000 in
set_option maxHeartbeats 4000000 in
theorem xk12 : x_TOK vwCl x_G x_Zs x_Tb x_Nb xM12 xT12 := by
  intro p l e s m args below meth c D U hx hb hml hts hown hK hK0 hU hnm hN
  have X : x_cx p s m args c D U xM12.2.1 xM12.2.2.1 vwCl x_Tb x_Nb xM12.1.cls := ⟨hx, hb, hml, hown, hts, hK, hK0, hU, hN, x_Tb_good, x_Nb_ok⟩
  exact ⟨x_nilm, x_nilm, x_nilm, x_nilm, x_nilm, x_nilm, x_nilm, x_nilm, x_nilm, x_nilm, x_nilm⟩
set_option maxRecDepth 1000000 in
theorem xm12 : x_Met vwCl x_G x_Zs x_Tb x_Nb xM12 := x_main xT12 [] [] 2500 (by decide +kernel) (by decide +kernel) xk12 (by decide +kernel)
/-- TwinFires$Stone.<init>(IIIII)V -/
def xM13 : xM := (⟨"TwinFires$Stone", "<init>", "(IIIII)V"⟩, prog_8_method_1_code, 6, none, [xR false [11, 12, 13, 14, 15, 16], xF, xF, xF, xF, xF], [([xR false [11, 12, 13, 14, 15, 16], xF, xF, xF, xF, xF], none)], [(11, 0), (11, 1), (11, 2), (11, 3), (11, 4), (12, 0), (12, 1), (12, 2), (12, 3), (12, 4), (13, 0), (13, 1), (13, 2), (13, 3), (13, 4), (14, 0), (14, 1), (14, 2), (14, 3), (14, 4), (15, 0), (15, 1), (15, 2), (15, 3), (15, 4), (16, 0), (16, 1), (16, 2), (16, 3), (16, 4)], (1, 20, 0, 0), none)
def xT13 : xTab := ([], [(7, 11, 0), (7, 12, 0), (7, 13, 0), (7, 14, 0), (7, 15, 0), (7, 16, 0), (13, 11, 1), (13, 12, 1), (13, 13, 1), (13, 14, 1), (13, 15, 1), (13, 16, 1), (16, 11, 2), (16, 12, 2), (16, 13, 2), (16, 14, 2), (16, 15, 2), (16, 16, 2), (19, 11, 3), (19, 12, 3), (19, 13, 3), (19, 14, 3), (19, 15, 3), (19, 16, 3), (22, 11, 4), (22, 12, 4), (22, 13, 4), (22, 14, 4), (22, 15, 4), (22, 16, 4)], [], [], [], [], [], [], [1], [], [])
set_option maxRecDepth 100000 in
set_option maxHeartbeats 4000000 in
theorem xk13 : x_TOK vwCl x_G x_Zs x_Tb x_Nb xM13 xT13 := by
  intro p l e s m args below meth c D U hx hb hml hts hown hK hK0 hU hnm hN
  have X : x_cx p s m args c D U xM13.2.1 xM13.2.2.1 vwCl x_Tb x_Nb xM13.1.cls := ⟨hx, hb, hml, hown, hts, hK, hK0, hU, hN, x_Tb_good, x_Nb_ok⟩
  exact ⟨x_nilm, (x_cons (fw9 hts hnm) (x_cons (fw10 hts hnm) (x_cons (fw11 hts hnm) (x_cons (fw12 hts hnm) (x_cons (fw13 hts hnm) (x_cons (fw14 hts hnm) (x_cons (fw15 hts hnm) (x_cons (fw16 hts hnm) (x_cons (fw17 hts hnm) (x_cons (fw18 hts hnm) (x_cons (fw19 hts hnm) (x_cons (fw20 hts hnm) (x_cons (fw21 hts hnm) (x_cons (fw22 hts hnm) (x_cons (fw23 hts hnm) (x_cons (fw24 hts hnm) (x_cons (fw25 hts hnm) (x_cons (fw26 hts hnm) (x_cons (fw27 hts hnm) (x_cons (fw28 hts hnm) (x_cons (fw29 hts hnm) (x_cons (fw30 hts hnm) (x_cons (fw31 hts hnm) (x_cons (fw32 hts hnm) (x_cons (fw33 hts hnm) (x_cons (fw34 hts hnm) (x_cons (fw35 hts hnm) (x_cons (fw36 hts hnm) (x_cons (fw37 hts hnm) (x_cons (fw38 hts hnm) x_nilm)))))))))))))))))))))))))))))), x_nilm, x_nilm, x_nilm, x_nilm, x_nilm, x_nilm, (x_cons ⟨(hts _ (x_at 109 (by decide +kernel) rfl)), (hts _ (x_at 92 (by decide +kernel) rfl)), (hts _ (x_at 93 (by decide +kernel) rfl)), Nat.le_of_ble_eq_true rfl, Nat.le_of_ble_eq_true rfl⟩ x_nilm), x_nilm, x_nilm⟩
set_option maxRecDepth 1000000 in
theorem xm13 : x_Met vwCl x_G x_Zs x_Tb x_Nb xM13 := x_main xT13 [] [] 2500 (by decide +kernel) (by decide +kernel) xk13 (by decide +kernel)
/-- TwinFires$Wood.<init>(IIIII)V -/
def xM14 : xM := (⟨"TwinFires$Wood", "<init>", "(IIIII)V"⟩, prog_12_method_1_code, 6, none, [xR false [12, 13, 14, 15], xF, xF, xF, xF, xF], [([xR false [12, 13, 14, 15], xF, xF, xF, xF, xF], none)], [(11, 0), (11, 1), (11, 2), (11, 3), (11, 4), (12, 0), (12, 1), (12, 2), (12, 3), (12, 4), (13, 0), (13, 1), (13, 2), (13, 3), (13, 4), (14, 0), (14, 1), (14, 2), (14, 3), (14, 4), (15, 0), (15, 1), (15, 2), (15, 3), (15, 4), (16, 0), (16, 1), (16, 2), (16, 3), (16, 4)], (2, 45, 0, 0), none)
def xT14 : xTab := ([], [], [], [], [], [], [], [(2, 3, 6, none, xM13)], [], [], [])
set_option maxRecDepth 100000 in
set_option maxHeartbeats 4000000 in
theorem xk14 : x_TOK vwCl x_G x_Zs x_Tb x_Nb xM14 xT14 := by
  intro p l e s m args below meth c D U hx hb hml hts hown hK hK0 hU hnm hN
  have X : x_cx p s m args c D U xM14.2.1 xM14.2.2.1 vwCl x_Tb x_Nb xM14.1.cls := ⟨hx, hb, hml, hown, hts, hK, hK0, hU, hN, x_Tb_good, x_Nb_ok⟩
  exact ⟨x_nilm, x_nilm, x_nilm, x_nilm, x_nilm, x_nilm, x_nilm, (x_cons (x_cokI X xm13 rfl (x_cons (x_at 397 (by decide +kernel) rfl) (x_cons (x_at 107 (by decide +kernel) rfl) (x_cons (x_at 68 (by decide +kernel) rfl) x_nilm))) (x_at 108 (by decide +kernel) rfl) rfl (fun Y av h => x_this h) (by decide +kernel) ⟨Nat.le_of_ble_eq_true rfl, Nat.le_of_ble_eq_true rfl⟩) x_nilm), x_nilm, x_nilm, x_nilm⟩
set_option maxRecDepth 1000000 in
theorem xm14 : x_Met vwCl x_G x_Zs x_Tb x_Nb xM14 := x_main xT14 [] [] 2500 (by decide +kernel) (by decide +kernel) xk14 (by decide +kernel)
/-- TwinFires$Pine.<init>(IIIII)V -/
def xM15 : xM := (⟨"TwinFires$Pine", "<init>", "(IIIII)V"⟩, prog_6_method_1_code, 6, none, [xR false [13, 15], xF, xF, xF, xF, xF], [([xR false [13, 15], xF, xF, xF, xF, xF], none)], [(11, 0), (11, 1), (11, 2), (11, 3), (11, 4), (12, 0), (12, 1), (12, 2), (12, 3), (12, 4), (13, 0), (13, 1), (13, 2), (13, 3), (13, 4), (14, 0), (14, 1), (14, 2), (14, 3), (14, 4), (15, 0), (15, 1), (15, 2), (15, 3), (15, 4), (16, 0), (16, 1), (16, 2), (16, 3), (16, 4)], (3, 70, 0, 0), none)
def xT15 : xTab := ([], [], [], [], [], [], [], [(2, 1, 6, none, xM14)], [], [], [])
set_option maxRecDepth 100000 in
set_option maxHeartbeats 4000000 in
theorem xk15 : x_TOK vwCl x_G x_Zs x_Tb x_Nb xM15 xT15 := by
  intro p l e s m args below meth c D U hx hb hml hts hown hK hK0 hU hnm hN
  have X : x_cx p s m args c D U xM15.2.1 xM15.2.2.1 vwCl x_Tb x_Nb xM15.1.cls := ⟨hx, hb, hml, hown, hts, hK, hK0, hU, hN, x_Tb_good, x_Nb_ok⟩
  exact ⟨x_nilm, x_nilm, x_nilm, x_nilm, x_nilm, x_nilm, x_nilm, (x_cons (x_cokI X xm14 rfl (x_cons (x_at 409 (by decide +kernel) rfl) (x_cons (x_at 395 (by decide +kernel) rfl) (x_cons (x_at 74 (by decide +kernel) rfl) x_nilm))) (x_at 396 (by decide +kernel) rfl) rfl (fun Y av h => x_this h) (by decide +kernel) ⟨Nat.le_of_ble_eq_true rfl, Nat.le_of_ble_eq_true rfl⟩) x_nilm), x_nilm, x_nilm, x_nilm⟩
set_option maxRecDepth 1000000 in
theorem xm15 : x_Met vwCl x_G x_Zs x_Tb x_Nb xM15 := x_main xT15 [] [] 2500 (by decide +kernel) (by decide +kernel) xk15 (by decide +kernel)
/-- TwinFires$Hedge.<init>(IIIII)V -/
def xM16 : xM := (⟨"TwinFires$Hedge", "<init>", "(IIIII)V"⟩, prog_3_method_1_code, 6, none, [xR false [14], xF, xF, xF, xF, xF], [([xR false [14], xF, xF, xF, xF, xF], none)], [(11, 0), (11, 1), (11, 2), (11, 3), (11, 4), (12, 0), (12, 1), (12, 2), (12, 3), (12, 4), (13, 0), (13, 1), (13, 2), (13, 3), (13, 4), (14, 0), (14, 1), (14, 2), (14, 3), (14, 4), (15, 0), (15, 1), (15, 2), (15, 3), (15, 4), (16, 0), (16, 1), (16, 2), (16, 3), (16, 4)], (3, 70, 0, 0), none)
def xT16 : xTab := ([], [], [], [], [], [], [], [(2, 1, 6, none, xM14)], [], [], [])
set_option maxRecDepth 100000 in
set_option maxHeartbeats 4000000 in
theorem xk16 : x_TOK vwCl x_G x_Zs x_Tb x_Nb xM16 xT16 := by
  intro p l e s m args below meth c D U hx hb hml hts hown hK hK0 hU hnm hN
  have X : x_cx p s m args c D U xM16.2.1 xM16.2.2.1 vwCl x_Tb x_Nb xM16.1.cls := ⟨hx, hb, hml, hown, hts, hK, hK0, hU, hN, x_Tb_good, x_Nb_ok⟩
  exact ⟨x_nilm, x_nilm, x_nilm, x_nilm, x_nilm, x_nilm, x_nilm, (x_cons (x_cokI X xm14 rfl (x_cons (x_at 421 (by decide +kernel) rfl) (x_cons (x_at 395 (by decide +kernel) rfl) (x_cons (x_at 74 (by decide +kernel) rfl) x_nilm))) (x_at 396 (by decide +kernel) rfl) rfl (fun Y av h => x_this h) (by decide +kernel) ⟨Nat.le_of_ble_eq_true rfl, Nat.le_of_ble_eq_true rfl⟩) x_nilm), x_nilm, x_nilm, x_nilm⟩
set_option maxRecDepth 1000000 in
theorem xm16 : x_Met vwCl x_G x_Zs x_Tb x_Nb xM16 := x_main xT16 [] [] 2500 (by decide +kernel) (by decide +kernel) xk16 (by decide +kernel)
/-- TwinFires$Topped.<init>(IIIII)V -/
def xM17 : xM := (⟨"TwinFires$Topped", "<init>", "(IIIII)V"⟩, prog_10_method_1_code, 6, none, [xR false [15], xF, xF, xF, xF, xF], [([xR false [15], xF, xF, xF, xF, xF], none)], [(11, 0), (11, 1), (11, 2), (11, 3), (11, 4), (12, 0), (12, 1), (12, 2), (12, 3), (12, 4), (13, 0), (13, 1), (13, 2), (13, 3), (13, 4), (14, 0), (14, 1), (14, 2), (14, 3), (14, 4), (15, 0), (15, 1), (15, 2), (15, 3), (15, 4), (16, 0), (16, 1), (16, 2), (16, 3), (16, 4)], (4, 95, 0, 0), none)
def xT17 : xTab := ([], [], [], [], [], [], [], [(2, 1, 6, none, xM15)], [], [], [])
set_option maxRecDepth 100000 in
set_option maxHeartbeats 4000000 in
theorem xk17 : x_TOK vwCl x_G x_Zs x_Tb x_Nb xM17 xT17 := by
  intro p l e s m args below meth c D U hx hb hml hts hown hK hK0 hU hnm hN
  have X : x_cx p s m args c D U xM17.2.1 xM17.2.2.1 vwCl x_Tb x_Nb xM17.1.cls := ⟨hx, hb, hml, hown, hts, hK, hK0, hU, hN, x_Tb_good, x_Nb_ok⟩
  exact ⟨x_nilm, x_nilm, x_nilm, x_nilm, x_nilm, x_nilm, x_nilm, (x_cons (x_cokI X xm15 rfl (x_cons (x_at 433 (by decide +kernel) rfl) (x_cons (x_at 407 (by decide +kernel) rfl) (x_cons (x_at 75 (by decide +kernel) rfl) x_nilm))) (x_at 408 (by decide +kernel) rfl) rfl (fun Y av h => x_this h) (by decide +kernel) ⟨Nat.le_of_ble_eq_true rfl, Nat.le_of_ble_eq_true rfl⟩) x_nilm), x_nilm, x_nilm, x_nilm⟩
set_option maxRecDepth 1000000 in
theorem xm17 : x_Met vwCl x_G x_Zs x_Tb x_Nb xM17 := x_main xT17 [] [] 2500 (by decide +kernel) (by decide +kernel) xk17 (by decide +kernel)
/-- TwinFires$Wall.<init>(IIIII)V -/
def xM18 : xM := (⟨"TwinFires$Wall", "<init>", "(IIIII)V"⟩, prog_11_method_1_code, 6, none, [xR false [16], xF, xF, xF, xF, xF], [([xR false [16], xF, xF, xF, xF, xF], none)], [(11, 0), (11, 1), (11, 2), (11, 3), (11, 4), (12, 0), (12, 1), (12, 2), (12, 3), (12, 4), (13, 0), (13, 1), (13, 2), (13, 3), (13, 4), (14, 0), (14, 1), (14, 2), (14, 3), (14, 4), (15, 0), (15, 1), (15, 2), (15, 3), (15, 4), (16, 0), (16, 1), (16, 2), (16, 3), (16, 4)], (2, 45, 0, 0), none)
def xT18 : xTab := ([], [], [], [], [], [], [], [(2, 1, 6, none, xM13)], [], [], [])
set_option maxRecDepth 100000 in
set_option maxHeartbeats 4000000 in
theorem xk18 : x_TOK vwCl x_G x_Zs x_Tb x_Nb xM18 xT18 := by
  intro p l e s m args below meth c D U hx hb hml hts hown hK hK0 hU hnm hN
  have X : x_cx p s m args c D U xM18.2.1 xM18.2.2.1 vwCl x_Tb x_Nb xM18.1.cls := ⟨hx, hb, hml, hown, hts, hK, hK0, hU, hN, x_Tb_good, x_Nb_ok⟩
  exact ⟨x_nilm, x_nilm, x_nilm, x_nilm, x_nilm, x_nilm, x_nilm, (x_cons (x_cokI X xm13 rfl (x_cons (x_at 445 (by decide +kernel) rfl) (x_cons (x_at 107 (by decide +kernel) rfl) (x_cons (x_at 68 (by decide +kernel) rfl) x_nilm))) (x_at 108 (by decide +kernel) rfl) rfl (fun Y av h => x_this h) (by decide +kernel) ⟨Nat.le_of_ble_eq_true rfl, Nat.le_of_ble_eq_true rfl⟩) x_nilm), x_nilm, x_nilm, x_nilm⟩
set_option maxRecDepth 1000000 in
theorem xm18 : x_Met vwCl x_G x_Zs x_Tb x_Nb xM18 := x_main xT18 [] [] 2500 (by decide +kernel) (by decide +kernel) xk18 (by decide +kernel)
/-- TwinFires.isWithin(III)Z -/
def xM19 : xM := (⟨"TwinFires", "isWithin", "(III)Z"⟩, prog_1_method_43_code, 3, some .boolean, [xF, xI 0 0, xI 0 0], [([xI 0 0, xI 0 0, xI 0 0], some (xI 1 1)), ([xF, xI 0 0, xI 0 0], some (xI 0 0))], [], (0, 0, 0, 0), none)
def xT19 : xTab := ([], [], [], [], [], [], [], [], [], [], [])
set_option maxRecDepth 100000 in
set_option maxHeartbeats 4000000 in
theorem xk19 : x_TOK vwCl x_G x_Zs x_Tb x_Nb xM19 xT19 := by
  intro p l e s m args below meth c D U hx hb hml hts hown hK hK0 hU hnm hN
  have X : x_cx p s m args c D U xM19.2.1 xM19.2.2.1 vwCl x_Tb x_Nb xM19.1.cls := ⟨hx, hb, hml, hown, hts, hK, hK0, hU, hN, x_Tb_good, x_Nb_ok⟩
  exact ⟨x_nilm, x_nilm, x_nilm, x_nilm, x_nilm, x_nilm, x_nilm, x_nilm, x_nilm, x_nilm, x_nilm⟩
set_option maxRecDepth 1000000 in
theorem xm19 : x_Met vwCl x_G x_Zs x_Tb x_Nb xM19 := x_main xT19 [] [] 2500 (by decide +kernel) (by decide +kernel) xk19 (by decide +kernel)
/-- TwinFires$Land.addThing(IIIII)I -/
def xM20 : xM := (⟨"TwinFires$Land", "addThing", "(IIIII)I"⟩, prog_4_method_10_code, 7, some .int, [xR false [2], xF, xF, xF, xF, xF], [([xR false [2], xF, xF, xF, xF, xF], some (xI (-4) 7))], [(2, 6), (11, 0), (11, 1), (11, 2), (11, 3), (11, 4), (12, 0), (12, 1), (12, 2), (12, 3), (12, 4), (13, 0), (13, 1), (13, 2), (13, 3), (13, 4), (14, 0), (14, 1), (14, 2), (14, 3), (14, 4), (15, 0), (15, 1), (15, 2), (15, 3), (15, 4), (16, 0), (16, 1), (16, 2), (16, 3), (16, 4), (24, 0), (25, 0), (26, 0)], (5, 120, 1, 5), none)
def xT20 : xTab := ([(29, 2, 7), (33, 2, 8), (36, 2, 9), (73, 2, 6)], [(73, 2, 6)], [(27, 11), (90, 12), (93, 13), (96, 14), (99, 15), (102, 16)], [], [], [], [], [(2, 60, 6, none, xM13), (2, 92, 6, none, xM14), (2, 95, 6, none, xM15), (2, 98, 6, none, xM16), (2, 101, 6, none, xM17), (2, 104, 6, none, xM18), (1, 79, 2, none, xM2), (1, 83, 3, none, xM11), (1, 83, 3, none, xM3), (1, 83, 3, none, xM12), (1, 83, 3, none, xM19)], [], [(24, 11), (24, 12), (24, 13), (24, 14), (24, 15), (24, 16)], [])
set_option maxRecDepth 100000 in
set_option maxHeartbeats 4000000 in
theorem xk20 : x_TOK vwCl x_G x_Zs x_Tb x_Nb xM20 xT20 := by
  intro p l e s m args below meth c D U hx hb hml hts hown hK hK0 hU hnm hN
  have X : x_cx p s m args c D U xM20.2.1 xM20.2.2.1 vwCl x_Tb x_Nb xM20.1.cls := ⟨hx, hb, hml, hown, hts, hK, hK0, hU, hN, x_Tb_good, x_Nb_ok⟩
  exact ⟨(x_cons (fl39 hts) (x_cons (fl40 hts) (x_cons (fl41 hts) (x_cons (fl42 hts) x_nilm)))), (x_cons (fw43 hts) x_nilm), (x_cons ⟨6, _, RX6, TX6, tyX6, rfl, rfl, iX6, tyX6_ok, (hts _ (x_at 100 (by decide +kernel) rfl)), (hts _ (x_at 105 (by decide +kernel) rfl)), (hts _ (x_at 68 (by decide +kernel) rfl)), x_dfl (by decide +kernel)⟩ (x_cons ⟨10, _, RX10, TX10, tyX10, rfl, rfl, iX10, tyX10_ok, (hts _ (x_at 392 (by decide +kernel) rfl)), (hts _ (x_at 393 (by decide +kernel) rfl)), (hts _ (x_at 74 (by decide +kernel) rfl)), x_dfl (by decide +kernel)⟩ (x_cons ⟨4, _, RX4, TX4, tyX4, rfl, rfl, iX4, tyX4_ok, (hts _ (x_at 404 (by decide +kernel) rfl)), (hts _ (x_at 405 (by decide +kernel) rfl)), (hts _ (x_at 75 (by decide +kernel) rfl)), x_dfl (by decide +kernel)⟩ (x_cons ⟨1, _, RX1, TX1, tyX1, rfl, rfl, iX1, tyX1_ok, (hts _ (x_at 416 (by decide +kernel) rfl)), (hts _ (x_at 417 (by decide +kernel) rfl)), (hts _ (x_at 76 (by decide +kernel) rfl)), x_dfl (by decide +kernel)⟩ (x_cons ⟨8, _, RX8, TX8, tyX8, rfl, rfl, iX8, tyX8_ok, (hts _ (x_at 428 (by decide +kernel) rfl)), (hts _ (x_at 429 (by decide +kernel) rfl)), (hts _ (x_at 77 (by decide +kernel) rfl)), x_dfl (by decide +kernel)⟩ (x_cons ⟨9, _, RX9, TX9, tyX9, rfl, rfl, iX9, tyX9_ok, (hts _ (x_at 440 (by decide +kernel) rfl)), (hts _ (x_at 441 (by decide +kernel) rfl)), (hts _ (x_at 78 (by decide +kernel) rfl)), x_dfl (by decide +kernel)⟩ x_nilm)))))), x_nilm, x_nilm, x_nilm, x_nilm, (x_cons (x_cokI X xm13 rfl (x_cons (x_at 106 (by decide +kernel) rfl) (x_cons (x_at 107 (by decide +kernel) rfl) (x_cons (x_at 68 (by decide +kernel) rfl) x_nilm))) (x_at 108 (by decide +kernel) rfl) rfl (fun Y av h => x_this h) (by decide +kernel) ⟨Nat.le_of_ble_eq_true rfl, Nat.le_of_ble_eq_true rfl⟩) (x_cons (x_cokI X xm14 rfl (x_cons (x_at 394 (by decide +kernel) rfl) (x_cons (x_at 395 (by decide +kernel) rfl) (x_cons (x_at 74 (by decide +kernel) rfl) x_nilm))) (x_at 396 (by decide +kernel) rfl) rfl (fun Y av h => x_this h) (by decide +kernel) ⟨Nat.le_of_ble_eq_true rfl, Nat.le_of_ble_eq_true rfl⟩) (x_cons (x_cokI X xm15 rfl (x_cons (x_at 406 (by decide +kernel) rfl) (x_cons (x_at 407 (by decide +kernel) rfl) (x_cons (x_at 75 (by decide +kernel) rfl) x_nilm))) (x_at 408 (by decide +kernel) rfl) rfl (fun Y av h => x_this h) (by decide +kernel) ⟨Nat.le_of_ble_eq_true rfl, Nat.le_of_ble_eq_true rfl⟩) (x_cons (x_cokI X xm16 rfl (x_cons (x_at 418 (by decide +kernel) rfl) (x_cons (x_at 419 (by decide +kernel) rfl) (x_cons (x_at 76 (by decide +kernel) rfl) x_nilm))) (x_at 420 (by decide +kernel) rfl) rfl (fun Y av h => x_this h) (by decide +kernel) ⟨Nat.le_of_ble_eq_true rfl, Nat.le_of_ble_eq_true rfl⟩) (x_cons (x_cokI X xm17 rfl (x_cons (x_at 430 (by decide +kernel) rfl) (x_cons (x_at 431 (by decide +kernel) rfl) (x_cons (x_at 77 (by decide +kernel) rfl) x_nilm))) (x_at 432 (by decide +kernel) rfl) rfl (fun Y av h => x_this h) (by decide +kernel) ⟨Nat.le_of_ble_eq_true rfl, Nat.le_of_ble_eq_true rfl⟩) (x_cons (x_cokI X xm18 rfl (x_cons (x_at 442 (by decide +kernel) rfl) (x_cons (x_at 443 (by decide +kernel) rfl) (x_cons (x_at 78 (by decide +kernel) rfl) x_nilm))) (x_at 444 (by decide +kernel) rfl) rfl (fun Y av h => x_this h) (by decide +kernel) ⟨Nat.le_of_ble_eq_true rfl, Nat.le_of_ble_eq_true rfl⟩) (x_cons (x_cokS X xm2 (x_cons (x_at 365 (by decide +kernel) rfl) (x_cons (x_at 366 (by decide +kernel) rfl) (x_cons (x_at 66 (by decide +kernel) rfl) x_nilm))) (x_at 367 (by decide +kernel) rfl) (by decide +kernel) ⟨Nat.le_of_ble_eq_true rfl, Nat.le_of_ble_eq_true rfl⟩) (x_cons (x_cokSN (host := "TwinFires") X xm11 (x_cons (x_at 369 (by decide +kernel) rfl) (x_cons (x_at 65 (by decide +kernel) rfl) x_nilm)) (x_nt 368 (by decide +kernel) rfl) (x_at 370 (by decide +kernel) rfl) (by decide +kernel) ⟨Nat.le_of_ble_eq_true rfl, Nat.le_of_ble_eq_true rfl⟩) (x_cons (x_cokSN (host := "TwinFires") X xm3 (x_cons (x_at 369 (by decide +kernel) rfl) (x_cons (x_at 65 (by decide +kernel) rfl) x_nilm)) (x_nt 368 (by decide +kernel) rfl) (x_at 370 (by decide +kernel) rfl) (by decide +kernel) ⟨Nat.le_of_ble_eq_true rfl, Nat.le_of_ble_eq_true rfl⟩) (x_cons (x_cokSN (host := "TwinFires") X xm12 (x_cons (x_at 369 (by decide +kernel) rfl) (x_cons (x_at 65 (by decide +kernel) rfl) x_nilm)) (x_nt 368 (by decide +kernel) rfl) (x_at 370 (by decide +kernel) rfl) (by decide +kernel) ⟨Nat.le_of_ble_eq_true rfl, Nat.le_of_ble_eq_true rfl⟩) (x_cons (x_cokSN (host := "TwinFires") X xm19 (x_cons (x_at 369 (by decide +kernel) rfl) (x_cons (x_at 65 (by decide +kernel) rfl) x_nilm)) (x_nt 368 (by decide +kernel) rfl) (x_at 370 (by decide +kernel) rfl) (by decide +kernel) ⟨Nat.le_of_ble_eq_true rfl, Nat.le_of_ble_eq_true rfl⟩) x_nilm))))))))))), x_nilm, (x_cons ⟨_, _, _, "TwinFires$Stone", 6, _, _, rfl, rfl, rfl, x_castSelf (hK.1 6 _ rfl).2⟩ (x_cons ⟨_, _, _, "TwinFires$Stone", 10, _, _, rfl, rfl, rfl, hN _ (x_nt 1491 (by decide +kernel) rfl)⟩ (x_cons ⟨_, _, _, "TwinFires$Stone", 4, _, _, rfl, rfl, rfl, hN _ (x_nt 1492 (by decide +kernel) rfl)⟩ (x_cons ⟨_, _, _, "TwinFires$Stone", 1, _, _, rfl, rfl, rfl, hN _ (x_nt 1493 (by decide +kernel) rfl)⟩ (x_cons ⟨_, _, _, "TwinFires$Stone", 8, _, _, rfl, rfl, rfl, hN _ (x_nt 1494 (by decide +kernel) rfl)⟩ (x_cons ⟨_, _, _, "TwinFires$Stone", 9, _, _, rfl, rfl, rfl, hN _ (x_nt 1495 (by decide +kernel) rfl)⟩ x_nilm)))))), x_nilm⟩
set_option maxRecDepth 1000000 in
theorem xm20 : x_Met vwCl x_G x_Zs x_Tb x_Nb xM20 := x_main xT20 [] [] 2500 (by decide +kernel) (by decide +kernel) xk20 (by decide +kernel)
/-- TwinFires.thing(IIIII)I -/
def xM21 : xM := (⟨"TwinFires", "thing", "(IIIII)I"⟩, prog_1_method_3_code, 6, some .int, [xR false [0], xF, xF, xF, xF, xF], [([xR false [0], xF, xF, xF, xF, xF], some (xF))], [(2, 6), (11, 0), (11, 1), (11, 2), (11, 3), (11, 4), (12, 0), (12, 1), (12, 2), (12, 3), (12, 4), (13, 0), (13, 1), (13, 2), (13, 3), (13, 4), (14, 0), (14, 1), (14, 2), (14, 3), (14, 4), (15, 0), (15, 1), (15, 2), (15, 3), (15, 4), (16, 0), (16, 1), (16, 2), (16, 3), (16, 4), (24, 0), (25, 0), (26, 0), (42, 0)], (6, 146, 1, 5), none)
def xT21 : xTab := ([(12, 0, 0)], [], [], [], [], [], [], [(0, 59, 2, some 0, xM8), (0, 63, 6, some 2, xM20)], [], [], [])
set_option maxRecDepth 100000 in
set_option maxHeartbeats 4000000 in
theorem xk21 : x_TOK vwCl x_G x_Zs x_Tb x_Nb xM21 xT21 := by
  intro p l e s m args below meth c D U hx hb hml hts hown hK hK0 hU hnm hN
  have X : x_cx p s m args c D U xM21.2.1 xM21.2.2.1 vwCl x_Tb x_Nb xM21.1.cls := ⟨hx, hb, hml, hown, hts, hK, hK0, hU, hN, x_Tb_good, x_Nb_ok⟩
  exact ⟨(x_cons (fl8 hts) x_nilm), x_nilm, x_nilm, x_nilm, x_nilm, x_nilm, x_nilm, (x_cons (x_cokV (ci := 11) X xm8 rfl rfl rfl (x_cons (x_at 375 (by decide +kernel) rfl) (x_cons (x_at 377 (by decide +kernel) rfl) (x_cons (x_at 1 (by decide +kernel) rfl) (x_cons (x_at 65 (by decide +kernel) rfl) x_nilm)))) (x_at 378 (by decide +kernel) rfl) (by decide +kernel) ⟨Nat.le_of_ble_eq_true rfl, Nat.le_of_ble_eq_true rfl⟩) (x_cons (x_cokV (ci := 2) X xm20 rfl rfl rfl (x_cons (x_at 388 (by decide +kernel) rfl) (x_cons (x_at 389 (by decide +kernel) rfl) (x_cons (x_at 390 (by decide +kernel) rfl) (x_cons (x_at 66 (by decide +kernel) rfl) x_nilm)))) (x_at 391 (by decide +kernel) rfl) (by decide +kernel) ⟨Nat.le_of_ble_eq_true rfl, Nat.le_of_ble_eq_true rfl⟩) x_nilm)), x_nilm, x_nilm, x_nilm⟩
set_option maxRecDepth 1000000 in
theorem xm21 : x_Met vwCl x_G x_Zs x_Tb x_Nb xM21 := x_main xT21 [] [] 2500 (by decide +kernel) (by decide +kernel) xk21 (by decide +kernel)
/-- TwinFires.isWithin(III)Z -/
def xM22 : xM := (⟨"TwinFires", "isWithin", "(III)Z"⟩, prog_1_method_43_code, 3, some .boolean, [xF, xI 0 0, xI 3 3], [([xI 0 3, xI 0 0, xI 3 3], some (xI 1 1)), ([xF, xI 0 0, xI 3 3], some (xI 0 0))], [], (0, 0, 0, 0), none)
def xT22 : xTab := ([], [], [], [], [], [], [], [], [], [], [])
set_option maxRecDepth 100000 in
set_option maxHeartbeats 4000000 in
theorem xk22 : x_TOK vwCl x_G x_Zs x_Tb x_Nb xM22 xT22 := by
  intro p l e s m args below meth c D U hx hb hml hts hown hK hK0 hU hnm hN
  have X : x_cx p s m args c D U xM22.2.1 xM22.2.2.1 vwCl x_Tb x_Nb xM22.1.cls := ⟨hx, hb, hml, hown, hts, hK, hK0, hU, hN, x_Tb_good, x_Nb_ok⟩
  exact ⟨x_nilm, x_nilm, x_nilm, x_nilm, x_nilm, x_nilm, x_nilm, x_nilm, x_nilm, x_nilm, x_nilm⟩
set_option maxRecDepth 1000000 in
theorem xm22 : x_Met vwCl x_G x_Zs x_Tb x_Nb xM22 := x_main xT22 [] [] 2500 (by decide +kernel) (by decide +kernel) xk22 (by decide +kernel)
/-- TwinFires$Land.setDial(II)I -/
def xM23 : xM := (⟨"TwinFires$Land", "setDial", "(II)I"⟩, prog_4_method_11_code, 4, some .int, [xR false [2], xF, xF], [([xR false [2], xF, xF], some (xF))], [(27, 0)], (1, 22, 0, 0), none)
def xT23 : xTab := ([(39, 2, 10)], [], [], [], [(105, 43), (108, 44)], [], [], [(1, 83, 3, none, xM22), (1, 83, 3, none, xM10)], [], [], [])
set_option maxRecDepth 100000 in
set_option maxHeartbeats 4000000 in
theorem xk23 : x_TOK vwCl x_G x_Zs x_Tb x_Nb xM23 xT23 := by
  intro p l e s m args below meth c D U hx hb hml hts hown hK hK0 hU hnm hN
  have X : x_cx p s m args c D U xM23.2.1 xM23.2.2.1 vwCl x_Tb x_Nb xM23.1.cls := ⟨hx, hb, hml, hown, hts, hK, hK0, hU, hN, x_Tb_good, x_Nb_ok⟩
  exact ⟨(x_cons (fl44 hts) x_nilm), x_nilm, x_nilm, x_nilm, (x_cons (x_gsrowN (host := "TwinFires") hx hb hown hU (z := x_Zs[0]) (List.mem_of_getElem? (i := 0) rfl) (hN _ (x_nt 460 (by decide +kernel) rfl))) (x_cons (x_gsrowN (host := "TwinFires") hx hb hown hU (z := x_Zs[1]) (List.mem_of_getElem? (i := 1) rfl) (hN _ (x_nt 462 (by decide +kernel) rfl))) x_nilm)), x_nilm, x_nilm, (x_cons (x_cokSN (host := "TwinFires") X xm22 (x_cons (x_at 369 (by decide +kernel) rfl) (x_cons (x_at 65 (by decide +kernel) rfl) x_nilm)) (x_nt 368 (by decide +kernel) rfl) (x_at 370 (by decide +kernel) rfl) (by decide +kernel) ⟨Nat.le_of_ble_eq_true rfl, Nat.le_of_ble_eq_true rfl⟩) (x_cons (x_cokSN (host := "TwinFires") X xm10 (x_cons (x_at 369 (by decide +kernel) rfl) (x_cons (x_at 65 (by decide +kernel) rfl) x_nilm)) (x_nt 368 (by decide +kernel) rfl) (x_at 370 (by decide +kernel) rfl) (by decide +kernel) ⟨Nat.le_of_ble_eq_true rfl, Nat.le_of_ble_eq_true rfl⟩) x_nilm)), x_nilm, x_nilm, x_nilm⟩
set_option maxRecDepth 1000000 in
theorem xm23 : x_Met vwCl x_G x_Zs x_Tb x_Nb xM23 := x_main xT23 [] [] 2500 (by decide +kernel) (by decide +kernel) xk23 (by decide +kernel)
/-- TwinFires.put(II)I -/
def xM24 : xM := (⟨"TwinFires", "put", "(II)I"⟩, prog_1_method_4_code, 3, some .int, [xR false [0], xF, xF], [([xR false [0], xF, xF], some (xF))], [(27, 0), (42, 0)], (3, 66, 0, 0), none)
def xT24 : xTab := ([(12, 0, 0)], [], [], [], [], [], [], [(0, 59, 2, some 0, xM8), (0, 67, 3, some 2, xM23)], [], [], [])
set_option maxRecDepth 100000 in
set_option maxHeartbeats 4000000 in
theorem xk24 : x_TOK vwCl x_G x_Zs x_Tb x_Nb xM24 xT24 := by
  intro p l e s m args below meth c D U hx hb hml hts hown hK hK0 hU hnm hN
  have X : x_cx p s m args c D U xM24.2.1 xM24.2.2.1 vwCl x_Tb x_Nb xM24.1.cls := ⟨hx, hb, hml, hown, hts, hK, hK0, hU, hN, x_Tb_good, x_Nb_ok⟩
  exact ⟨(x_cons (fl8 hts) x_nilm), x_nilm, x_nilm, x_nilm, x_nilm, x_nilm, x_nilm, (x_cons (x_cokV (ci := 11) X xm8 rfl rfl rfl (x_cons (x_at 375 (by decide +kernel) rfl) (x_cons (x_at 377 (by decide +kernel) rfl) (x_cons (x_at 1 (by decide +kernel) rfl) (x_cons (x_at 65 (by decide +kernel) rfl) x_nilm)))) (x_at 378 (by decide +kernel) rfl) (by decide +kernel) ⟨Nat.le_of_ble_eq_true rfl, Nat.le_of_ble_eq_true rfl⟩) (x_cons (x_cokV (ci := 2) X xm23 rfl rfl rfl (x_cons (x_at 456 (by decide +kernel) rfl) (x_cons (x_at 457 (by decide +kernel) rfl) (x_cons (x_at 458 (by decide +kernel) rfl) (x_cons (x_at 66 (by decide +kernel) rfl) x_nilm)))) (x_at 459 (by decide +kernel) rfl) (by decide +kernel) ⟨Nat.le_of_ble_eq_true rfl, Nat.le_of_ble_eq_true rfl⟩) x_nilm)), x_nilm, x_nilm, x_nilm⟩
set_option maxRecDepth 1000000 in
theorem xm24 : x_Met vwCl x_G x_Zs x_Tb x_Nb xM24 := x_main xT24 [] [] 2500 (by decide +kernel) (by decide +kernel) xk24 (by decide +kernel)
/-- TwinFires$Land.hasThing(I)Z -/
def xM25 : xM := (⟨"TwinFires$Land", "hasThing", "(I)Z"⟩, prog_4_method_5_code, 2, some .boolean, [xR false [2], xF], [([xR false [2], xI 0 7], some (xI 1 1)), ([xR false [2], xF], some (xI 0 0))], [], (0, 0, 0, 0), none)
def xT25 : xTab := ([(73, 2, 6)], [], [], [], [], [], [], [], [], [], [])
set_option maxRecDepth 100000 in
set_option maxHeartbeats 4000000 in
theorem xk25 : x_TOK vwCl x_G x_Zs x_Tb x_Nb xM25 xT25 := by
  intro p l e s m args below meth c D U hx hb hml hts hown hK hK0 hU hnm hN
  have X : x_cx p s m args c D U xM25.2.1 xM25.2.2.1 vwCl x_Tb x_Nb xM25.1.cls := ⟨hx, hb, hml, hown, hts, hK, hK0, hU, hN, x_Tb_good, x_Nb_ok⟩
  exact ⟨(x_cons (fl42 hts) x_nilm), x_nilm, x_nilm, x_nilm, x_nilm, x_nilm, x_nilm, x_nilm, x_nilm, x_nilm, x_nilm⟩
set_option maxRecDepth 1000000 in
theorem xm25 : x_Met vwCl x_G x_Zs x_Tb x_Nb xM25 := x_main xT25 [] [] 2500 (by decide +kernel) (by decide +kernel) xk25 (by decide +kernel)
/-- TwinFires$Stone.isWorkable()Z -/
def xM26 : xM := (⟨"TwinFires$Stone", "isWorkable", "()Z"⟩, prog_8_method_3_code, 1, some .boolean, [xR false [11]], [([xR false [11]], some (xI 0 0))], [], (0, 0, 0, 0), none)
def xT26 : xTab := ([], [], [], [], [], [], [], [], [], [], [])
set_option maxRecDepth 100000 in
set_option maxHeartbeats 4000000 in
theorem xk26 : x_TOK vwCl x_G x_Zs x_Tb x_Nb xM26 xT26 := by
  intro p l e s m args below meth c D U hx hb hml hts hown hK hK0 hU hnm hN
  have X : x_cx p s m args c D U xM26.2.1 xM26.2.2.1 vwCl x_Tb x_Nb xM26.1.cls := ⟨hx, hb, hml, hown, hts, hK, hK0, hU, hN, x_Tb_good, x_Nb_ok⟩
  exact ⟨x_nilm, x_nilm, x_nilm, x_nilm, x_nilm, x_nilm, x_nilm, x_nilm, x_nilm, x_nilm, x_nilm⟩
set_option maxRecDepth 1000000 in
theorem xm26 : x_Met vwCl x_G x_Zs x_Tb x_Nb xM26 := x_main xT26 [] [] 2500 (by decide +kernel) (by decide +kernel) xk26 (by decide +kernel)
/-- TwinFires$Wood.isWorkable()Z -/
def xM27 : xM := (⟨"TwinFires$Wood", "isWorkable", "()Z"⟩, prog_12_method_4_code, 1, some .boolean, [xR false [12, 13, 14, 15]], [([xR false [12, 13, 14, 15]], some (xI 1 1))], [], (0, 0, 0, 0), none)
def xT27 : xTab := ([], [], [], [], [], [], [], [], [], [], [])
set_option maxRecDepth 100000 in
set_option maxHeartbeats 4000000 in
theorem xk27 : x_TOK vwCl x_G x_Zs x_Tb x_Nb xM27 xT27 := by
  intro p l e s m args below meth c D U hx hb hml hts hown hK hK0 hU hnm hN
  have X : x_cx p s m args c D U xM27.2.1 xM27.2.2.1 vwCl x_Tb x_Nb xM27.1.cls := ⟨hx, hb, hml, hown, hts, hK, hK0, hU, hN, x_Tb_good, x_Nb_ok⟩
  exact ⟨x_nilm, x_nilm, x_nilm, x_nilm, x_nilm, x_nilm, x_nilm, x_nilm, x_nilm, x_nilm, x_nilm⟩
set_option maxRecDepth 1000000 in
theorem xm27 : x_Met vwCl x_G x_Zs x_Tb x_Nb xM27 := x_main xT27 [] [] 2500 (by decide +kernel) (by decide +kernel) xk27 (by decide +kernel)
/-- TwinFires$Wall.isWorkable()Z -/
def xM28 : xM := (⟨"TwinFires$Wall", "isWorkable", "()Z"⟩, prog_11_method_3_code, 1, some .boolean, [xR false [16]], [([xR false [16]], some (xI 1 1))], [], (0, 0, 0, 0), none)
def xT28 : xTab := ([], [], [], [], [], [], [], [], [], [], [])
set_option maxRecDepth 100000 in
set_option maxHeartbeats 4000000 in
theorem xk28 : x_TOK vwCl x_G x_Zs x_Tb x_Nb xM28 xT28 := by
  intro p l e s m args below meth c D U hx hb hml hts hown hK hK0 hU hnm hN
  have X : x_cx p s m args c D U xM28.2.1 xM28.2.2.1 vwCl x_Tb x_Nb xM28.1.cls := ⟨hx, hb, hml, hown, hts, hK, hK0, hU, hN, x_Tb_good, x_Nb_ok⟩
  exact ⟨x_nilm, x_nilm, x_nilm, x_nilm, x_nilm, x_nilm, x_nilm, x_nilm, x_nilm, x_nilm, x_nilm⟩
set_option maxRecDepth 1000000 in
theorem xm28 : x_Met vwCl x_G x_Zs x_Tb x_Nb xM28 := x_main xT28 [] [] 2500 (by decide +kernel) (by decide +kernel) xk28 (by decide +kernel)
/-- TwinFires.work(IZ)I -/
def xM29 : xM := (⟨"TwinFires", "work", "(IZ)I"⟩, prog_1_method_5_code, 4, some .int, [xR false [0], xF, xI 0 1], [([xR false [0], xF, xI 0 1], some (xF))], [(25, 0), (42, 0)], (3, 66, 0, 0), none)
def xT29 : xTab := ([(12, 0, 0), (75, 2, 7), (85, 2, 8)], [], [], [], [], [], [], [(0, 59, 2, some 0, xM8), (0, 71, 2, some 2, xM25), (0, 79, 1, some 11, xM26), (0, 79, 1, some 12, xM27), (0, 79, 1, some 13, xM27), (0, 79, 1, some 14, xM27), (0, 79, 1, some 15, xM27), (0, 79, 1, some 16, xM28)], [], [], [])
set_option maxRecDepth 100000 in
set_option maxHeartbeats 4000000 in
theorem xk29 : x_TOK vwCl x_G x_Zs x_Tb x_Nb xM29 xT29 := by
  intro p l e s m args below meth c D U hx hb hml hts hown hK hK0 hU hnm hN
  have X : x_cx p s m args c D U xM29.2.1 xM29.2.2.1 vwCl x_Tb x_Nb xM29.1.cls := ⟨hx, hb, hml, hown, hts, hK, hK0, hU, hN, x_Tb_good, x_Nb_ok⟩
  exact ⟨(x_cons (fl8 hts) (x_cons (fl45 hts) (x_cons (fl46 hts) x_nilm))), x_nilm, x_nilm, x_nilm, x_nilm, x_nilm, x_nilm, (x_cons (x_cokV (ci := 11) X xm8 rfl rfl rfl (x_cons (x_at 375 (by decide +kernel) rfl) (x_cons (x_at 377 (by decide +kernel) rfl) (x_cons (x_at 1 (by decide +kernel) rfl) (x_cons (x_at 65 (by decide +kernel) rfl) x_nilm)))) (x_at 378 (by decide +kernel) rfl) (by decide +kernel) ⟨Nat.le_of_ble_eq_true rfl, Nat.le_of_ble_eq_true rfl⟩) (x_cons (x_cokV (ci := 2) X xm25 rfl rfl rfl (x_cons (x_at 468 (by decide +kernel) rfl) (x_cons (x_at 469 (by decide +kernel) rfl) (x_cons (x_at 470 (by decide +kernel) rfl) (x_cons (x_at 66 (by decide +kernel) rfl) x_nilm)))) (x_at 471 (by decide +kernel) rfl) (by decide +kernel) ⟨Nat.le_of_ble_eq_true rfl, Nat.le_of_ble_eq_true rfl⟩) (x_cons (x_cokV (ci := 6) X xm26 rfl rfl rfl (x_cons (x_at 472 (by decide +kernel) rfl) (x_cons (x_at 473 (by decide +kernel) rfl) (x_cons (x_at 474 (by decide +kernel) rfl) (x_cons (x_at 68 (by decide +kernel) rfl) x_nilm)))) (x_at 485 (by decide +kernel) rfl) (by decide +kernel) ⟨Nat.le_of_ble_eq_true rfl, Nat.le_of_ble_eq_true rfl⟩) (x_cons (x_cokO (ci := 10) (x := ⟨"TwinFires$Stone", "isWorkable", "()Z"⟩) (b0 := prog_8_method_3_code) (m0 := 1) (r0 := some .boolean) X xm27 rfl rfl (x_at 485 (by decide +kernel) rfl) (x_cons (x_at 472 (by decide +kernel) rfl) (x_cons (x_at 475 (by decide +kernel) rfl) (x_cons (x_at 473 (by decide +kernel) rfl) (x_cons (x_at 484 (by decide +kernel) rfl) (x_cons (x_at 477 (by decide +kernel) rfl) (x_cons (x_at 74 (by decide +kernel) rfl) x_nilm)))))) (x_at 478 (by decide +kernel) rfl) (by decide +kernel) ⟨Nat.le_of_ble_eq_true rfl, Nat.le_of_ble_eq_true rfl⟩) (x_cons (x_cokO (ci := 4) (x := ⟨"TwinFires$Stone", "isWorkable", "()Z"⟩) (b0 := prog_8_method_3_code) (m0 := 1) (r0 := some .boolean) X xm27 rfl rfl (x_at 485 (by decide +kernel) rfl) (x_cons (x_at 472 (by decide +kernel) rfl) (x_cons (x_at 475 (by decide +kernel) rfl) (x_cons (x_at 473 (by decide +kernel) rfl) (x_cons (x_at 479 (by decide +kernel) rfl) (x_cons (x_at 477 (by decide +kernel) rfl) (x_cons (x_at 74 (by decide +kernel) rfl) x_nilm)))))) (x_at 478 (by decide +kernel) rfl) (by decide +kernel) ⟨Nat.le_of_ble_eq_true rfl, Nat.le_of_ble_eq_true rfl⟩) (x_cons (x_cokO (ci := 1) (x := ⟨"TwinFires$Stone", "isWorkable", "()Z"⟩) (b0 := prog_8_method_3_code) (m0 := 1) (r0 := some .boolean) X xm27 rfl rfl (x_at 485 (by decide +kernel) rfl) (x_cons (x_at 472 (by decide +kernel) rfl) (x_cons (x_at 475 (by decide +kernel) rfl) (x_cons (x_at 473 (by decide +kernel) rfl) (x_cons (x_at 476 (by decide +kernel) rfl) (x_cons (x_at 477 (by decide +kernel) rfl) (x_cons (x_at 74 (by decide +kernel) rfl) x_nilm)))))) (x_at 478 (by decide +kernel) rfl) (by decide +kernel) ⟨Nat.le_of_ble_eq_true rfl, Nat.le_of_ble_eq_true rfl⟩) (x_cons (x_cokO (ci := 8) (x := ⟨"TwinFires$Stone", "isWorkable", "()Z"⟩) (b0 := prog_8_method_3_code) (m0 := 1) (r0 := some .boolean) X xm27 rfl rfl (x_at 485 (by decide +kernel) rfl) (x_cons (x_at 472 (by decide +kernel) rfl) (x_cons (x_at 475 (by decide +kernel) rfl) (x_cons (x_at 473 (by decide +kernel) rfl) (x_cons (x_at 480 (by decide +kernel) rfl) (x_cons (x_at 477 (by decide +kernel) rfl) (x_cons (x_at 74 (by decide +kernel) rfl) x_nilm)))))) (x_at 478 (by decide +kernel) rfl) (by decide +kernel) ⟨Nat.le_of_ble_eq_true rfl, Nat.le_of_ble_eq_true rfl⟩) (x_cons (x_cokO (ci := 9) (x := ⟨"TwinFires$Stone", "isWorkable", "()Z"⟩) (b0 := prog_8_method_3_code) (m0 := 1) (r0 := some .boolean) X xm28 rfl rfl (x_at 485 (by decide +kernel) rfl) (x_cons (x_at 472 (by decide +kernel) rfl) (x_cons (x_at 475 (by decide +kernel) rfl) (x_cons (x_at 473 (by decide +kernel) rfl) (x_cons (x_at 481 (by decide +kernel) rfl) (x_cons (x_at 482 (by decide +kernel) rfl) (x_cons (x_at 78 (by decide +kernel) rfl) x_nilm)))))) (x_at 483 (by decide +kernel) rfl) (by decide +kernel) ⟨Nat.le_of_ble_eq_true rfl, Nat.le_of_ble_eq_true rfl⟩) x_nilm)))))))), x_nilm, x_nilm, x_nilm⟩
set_option maxRecDepth 1000000 in
theorem xm29 : x_Met vwCl x_G x_Zs x_Tb x_Nb xM29 := x_main xT29 [] [] 2500 (by decide +kernel) (by decide +kernel) xk29 (by decide +kernel)
/-- TwinFires.cost(II)I -/
def xM30 : xM := (⟨"TwinFires", "cost", "(II)I"⟩, prog_1_method_6_code, 4, some .int, [xR false [0], xF, xF], [([xR false [0], xF, xF], some (xF))], [(26, 0), (42, 0)], (3, 66, 0, 0), none)
def xT30 : xTab := ([(12, 0, 0), (92, 2, 9)], [], [], [], [], [], [], [(1, 88, 3, none, xM3), (0, 59, 2, some 0, xM8), (0, 71, 2, some 2, xM25)], [], [], [])
set_option maxRecDepth 100000 in
set_option maxHeartbeats 4000000 in
theorem xk30 : x_TOK vwCl x_G x_Zs x_Tb x_Nb xM30 xT30 := by
  intro p l e s m args below meth c D U hx hb hml hts hown hK hK0 hU hnm hN
  have X : x_cx p s m args c D U xM30.2.1 xM30.2.2.1 vwCl x_Tb x_Nb xM30.1.cls := ⟨hx, hb, hml, hown, hts, hK, hK0, hU, hN, x_Tb_good, x_Nb_ok⟩
  exact ⟨(x_cons (fl8 hts) (x_cons (fl47 hts) x_nilm)), x_nilm, x_nilm, x_nilm, x_nilm, x_nilm, x_nilm, (x_cons (x_cokS X xm3 (x_cons (x_at 383 (by decide +kernel) rfl) (x_cons (x_at 369 (by decide +kernel) rfl) (x_cons (x_at 65 (by decide +kernel) rfl) x_nilm))) (x_at 370 (by decide +kernel) rfl) (by decide +kernel) ⟨Nat.le_of_ble_eq_true rfl, Nat.le_of_ble_eq_true rfl⟩) (x_cons (x_cokV (ci := 11) X xm8 rfl rfl rfl (x_cons (x_at 375 (by decide +kernel) rfl) (x_cons (x_at 377 (by decide +kernel) rfl) (x_cons (x_at 1 (by decide +kernel) rfl) (x_cons (x_at 65 (by decide +kernel) rfl) x_nilm)))) (x_at 378 (by decide +kernel) rfl) (by decide +kernel) ⟨Nat.le_of_ble_eq_true rfl, Nat.le_of_ble_eq_true rfl⟩) (x_cons (x_cokV (ci := 2) X xm25 rfl rfl rfl (x_cons (x_at 468 (by decide +kernel) rfl) (x_cons (x_at 469 (by decide +kernel) rfl) (x_cons (x_at 470 (by decide +kernel) rfl) (x_cons (x_at 66 (by decide +kernel) rfl) x_nilm)))) (x_at 471 (by decide +kernel) rfl) (by decide +kernel) ⟨Nat.le_of_ble_eq_true rfl, Nat.le_of_ble_eq_true rfl⟩) x_nilm))), x_nilm, x_nilm, x_nilm⟩
set_option maxRecDepth 1000000 in
theorem xm30 : x_Met vwCl x_G x_Zs x_Tb x_Nb xM30 := x_main xT30 [] [] 2500 (by decide +kernel) (by decide +kernel) xk30 (by decide +kernel)
end
section
/-- TwinFires$Stone.stands(IZ)I -/
def xM31 : xM := (⟨"TwinFires$Stone", "stands", "(IZ)I"⟩, prog_8_method_2_code, 3, some .int, [xR false [11], xF, xI 0 1], [([xR false [11], xF, xI 0 1], some (xF))], [], (0, 0, 0, 0), none)
def xT31 : xTab := ([(19, 11, 3)], [], [], [], [], [], [], [], [], [], [])
set_option maxRecDepth 100000 in
set_option maxHeartbeats 4000000 in
theorem xk31 : x_TOK vwCl x_G x_Zs x_Tb x_Nb xM31 xT31 := by
  intro p l e s m args below meth c D U hx hb hml hts hown hK hK0 hU hnm hN
  have X : x_cx p s m args c D U xM31.2.1 xM31.2.2.1 vwCl x_Tb x_Nb xM31.1.cls := ⟨hx, hb, hml, hown, hts, hK, hK0, hU, hN, x_Tb_good, x_Nb_ok⟩
  exact ⟨(x_cons (fl48 hts) x_nilm), x_nilm, x_nilm, x_nilm, x_nilm, x_nilm, x_nilm, x_nilm, x_nilm, x_nilm, x_nilm⟩
set_option maxRecDepth 1000000 in
theorem xm31 : x_Met vwCl x_G x_Zs x_Tb x_Nb xM31 := x_main xT31 [] [] 2500 (by decide +kernel) (by decide +kernel) xk31 (by decide +kernel)
/-- TwinFires$Pine.grownBy(I)I -/
def xM32 : xM := (⟨"TwinFires$Pine", "grownBy", "(I)I"⟩, prog_6_method_2_code, 2, some .int, [xR false [13, 15], xF], [([xR false [13, 15], xF], some (xF))], [], (0, 0, 0, 0), none)
def xT32 : xTab := ([(7, 13, 4), (7, 15, 4)], [], [], [], [], [], [], [], [], [], [])
set_option maxRecDepth 100000 in
set_option maxHeartbeats 4000000 in
theorem xk32 : x_TOK vwCl x_G x_Zs x_Tb x_Nb xM32 xT32 := by
  intro p l e s m args below meth c D U hx hb hml hts hown hK hK0 hU hnm hN
  have X : x_cx p s m args c D U xM32.2.1 xM32.2.2.1 vwCl x_Tb x_Nb xM32.1.cls := ⟨hx, hb, hml, hown, hts, hK, hK0, hU, hN, x_Tb_good, x_Nb_ok⟩
  exact ⟨(x_cons (fl49 hts) (x_cons (fl50 hts) x_nilm)), x_nilm, x_nilm, x_nilm, x_nilm, x_nilm, x_nilm, x_nilm, x_nilm, x_nilm, x_nilm⟩
set_option maxRecDepth 1000000 in
theorem xm32 : x_Met vwCl x_G x_Zs x_Tb x_Nb xM32 := x_main xT32 [] [] 2500 (by decide +kernel) (by decide +kernel) xk32 (by decide +kernel)
/-- TwinFires$Hedge.grownBy(I)I -/
def xM33 : xM := (⟨"TwinFires$Hedge", "grownBy", "(I)I"⟩, prog_3_method_2_code, 2, some .int, [xR false [14], xF], [([xR false [14], xF], some (xF))], [], (0, 0, 0, 0), none)
def xT33 : xTab := ([(7, 14, 4)], [], [], [], [], [], [], [], [], [], [])
set_option maxRecDepth 100000 in
set_option maxHeartbeats 4000000 in
theorem xk33 : x_TOK vwCl x_G x_Zs x_Tb x_Nb xM33 xT33 := by
  intro p l e s m args below meth c D U hx hb hml hts hown hK hK0 hU hnm hN
  have X : x_cx p s m args c D U xM33.2.1 xM33.2.2.1 vwCl x_Tb x_Nb xM33.1.cls := ⟨hx, hb, hml, hown, hts, hK, hK0, hU, hN, x_Tb_good, x_Nb_ok⟩
  exact ⟨(x_cons (fl51 hts) x_nilm), x_nilm, x_nilm, x_nilm, x_nilm, x_nilm, x_nilm, x_nilm, x_nilm, x_nilm, x_nilm⟩
set_option maxRecDepth 1000000 in
theorem xm33 : x_Met vwCl x_G x_Zs x_Tb x_Nb xM33 := x_main xT33 [] [] 2500 (by decide +kernel) (by decide +kernel) xk33 (by decide +kernel)
/-- TwinFires$Wood.grownBy(I)I -/
def xM34 : xM := (⟨"TwinFires$Wood", "grownBy", "(I)I"⟩, prog_12_method_3_code, 2, some .int, [xR false [12], xF], [([xR false [12], xF], some (xF))], [], (0, 0, 0, 0), none)
def xT34 : xTab := ([(25, 12, 4)], [], [], [], [], [], [], [], [], [], [])
set_option maxRecDepth 100000 in
set_option maxHeartbeats 4000000 in
theorem xk34 : x_TOK vwCl x_G x_Zs x_Tb x_Nb xM34 xT34 := by
  intro p l e s m args below meth c D U hx hb hml hts hown hK hK0 hU hnm hN
  have X : x_cx p s m args c D U xM34.2.1 xM34.2.2.1 vwCl x_Tb x_Nb xM34.1.cls := ⟨hx, hb, hml, hown, hts, hK, hK0, hU, hN, x_Tb_good, x_Nb_ok⟩
  exact ⟨(x_cons (fl52 hts) x_nilm), x_nilm, x_nilm, x_nilm, x_nilm, x_nilm, x_nilm, x_nilm, x_nilm, x_nilm, x_nilm⟩
set_option maxRecDepth 1000000 in
theorem xm34 : x_Met vwCl x_G x_Zs x_Tb x_Nb xM34 := x_main xT34 [] [] 2500 (by decide +kernel) (by decide +kernel) xk34 (by decide +kernel)
/-- TwinFires$Wood.stands(IZ)I -/
def xM35 : xM := (⟨"TwinFires$Wood", "stands", "(IZ)I"⟩, prog_12_method_2_code, 3, some .int, [xR false [12, 13, 14, 15], xF, xI 0 1], [([xR false [12, 13, 14, 15], xF, xI 0 1], some (xF))], [], (1, 22, 0, 0), none)
def xT35 : xTab := ([(9, 12, 3), (9, 13, 3), (9, 14, 3), (9, 15, 3)], [], [], [], [], [], [], [(1, 19, 2, none, (xMm2 Lib.Math.min.name prog_16_method_69_code)), (0, 15, 2, some 12, xM34), (0, 15, 2, some 13, xM32), (0, 15, 2, some 14, xM33), (0, 15, 2, some 15, xM32)], [], [], [])
set_option maxRecDepth 100000 in
set_option maxHeartbeats 4000000 in
theorem xk35 : x_TOK vwCl x_G x_Zs x_Tb x_Nb xM35 xT35 := by
  intro p l e s m args below meth c D U hx hb hml hts hown hK hK0 hU hnm hN
  have X : x_cx p s m args c D U xM35.2.1 xM35.2.2.1 vwCl x_Tb x_Nb xM35.1.cls := ⟨hx, hb, hml, hown, hts, hK, hK0, hU, hN, x_Tb_good, x_Nb_ok⟩
  exact ⟨(x_cons (fl53 hts) (x_cons (fl54 hts) (x_cons (fl55 hts) (x_cons (fl56 hts) x_nilm)))), x_nilm, x_nilm, x_nilm, x_nilm, x_nilm, x_nilm, (x_cons (x_cokMin X (by decide +kernel) (x_cons (x_at 517 (by decide +kernel) rfl) (x_cons (x_at 518 (by decide +kernel) rfl) (x_cons (x_at 79 (by decide +kernel) rfl) (x_cons (x_at 519 (by decide +kernel) rfl) x_nilm)))) ⟨Nat.le_of_ble_eq_true rfl, Nat.le_of_ble_eq_true rfl⟩) (x_cons (x_cokV (ci := 10) X xm34 rfl rfl rfl (x_cons (x_at 505 (by decide +kernel) rfl) (x_cons (x_at 506 (by decide +kernel) rfl) (x_cons (x_at 507 (by decide +kernel) rfl) (x_cons (x_at 74 (by decide +kernel) rfl) x_nilm)))) (x_at 516 (by decide +kernel) rfl) (by decide +kernel) ⟨Nat.le_of_ble_eq_true rfl, Nat.le_of_ble_eq_true rfl⟩) (x_cons (x_cokO (ci := 4) (x := ⟨"TwinFires$Wood", "grownBy", "(I)I"⟩) (b0 := prog_12_method_3_code) (m0 := 2) (r0 := some .int) X xm32 rfl rfl (x_at 516 (by decide +kernel) rfl) (x_cons (x_at 505 (by decide +kernel) rfl) (x_cons (x_at 508 (by decide +kernel) rfl) (x_cons (x_at 506 (by decide +kernel) rfl) (x_cons (x_at 512 (by decide +kernel) rfl) (x_cons (x_at 513 (by decide +kernel) rfl) (x_cons (x_at 75 (by decide +kernel) rfl) x_nilm)))))) (x_at 514 (by decide +kernel) rfl) (by decide +kernel) ⟨Nat.le_of_ble_eq_true rfl, Nat.le_of_ble_eq_true rfl⟩) (x_cons (x_cokO (ci := 1) (x := ⟨"TwinFires$Wood", "grownBy", "(I)I"⟩) (b0 := prog_12_method_3_code) (m0 := 2) (r0 := some .int) X xm33 rfl rfl (x_at 516 (by decide +kernel) rfl) (x_cons (x_at 505 (by decide +kernel) rfl) (x_cons (x_at 508 (by decide +kernel) rfl) (x_cons (x_at 506 (by decide +kernel) rfl) (x_cons (x_at 509 (by decide +kernel) rfl) (x_cons (x_at 510 (by decide +kernel) rfl) (x_cons (x_at 76 (by decide +kernel) rfl) x_nilm)))))) (x_at 511 (by decide +kernel) rfl) (by decide +kernel) ⟨Nat.le_of_ble_eq_true rfl, Nat.le_of_ble_eq_true rfl⟩) (x_cons (x_cokO (ci := 8) (x := ⟨"TwinFires$Wood", "grownBy", "(I)I"⟩) (b0 := prog_12_method_3_code) (m0 := 2) (r0 := some .int) X xm32 rfl rfl (x_at 516 (by decide +kernel) rfl) (x_cons (x_at 505 (by decide +kernel) rfl) (x_cons (x_at 508 (by decide +kernel) rfl) (x_cons (x_at 506 (by decide +kernel) rfl) (x_cons (x_at 515 (by decide +kernel) rfl) (x_cons (x_at 513 (by decide +kernel) rfl) (x_cons (x_at 75 (by decide +kernel) rfl) x_nilm)))))) (x_at 514 (by decide +kernel) rfl) (by decide +kernel) ⟨Nat.le_of_ble_eq_true rfl, Nat.le_of_ble_eq_true rfl⟩) x_nilm))))), x_nilm, x_nilm, x_nilm⟩
set_option maxRecDepth 1000000 in
theorem xm35 : x_Met vwCl x_G x_Zs x_Tb x_Nb xM35 := x_main xT35 [] [] 2500 (by decide +kernel) (by decide +kernel) xk35 (by decide +kernel)
/-- TwinFires$Topped.stands(IZ)I -/
def xM36 : xM := (⟨"TwinFires$Topped", "stands", "(IZ)I"⟩, prog_10_method_2_code, 3, some .int, [xR false [15], xF, xI 0 1], [([xR false [15], xF, xI 0 1], some (xF))], [], (2, 44, 0, 0), none)
def xT36 : xTab := ([], [], [], [], [], [], [], [(2, 7, 3, none, xM35)], [], [], [])
set_option maxRecDepth 100000 in
set_option maxHeartbeats 4000000 in
theorem xk36 : x_TOK vwCl x_G x_Zs x_Tb x_Nb xM36 xT36 := by
  intro p l e s m args below meth c D U hx hb hml hts hown hK hK0 hU hnm hN
  have X : x_cx p s m args c D U xM36.2.1 xM36.2.2.1 vwCl x_Tb x_Nb xM36.1.cls := ⟨hx, hb, hml, hown, hts, hK, hK0, hU, hN, x_Tb_good, x_Nb_ok⟩
  exact ⟨x_nilm, x_nilm, x_nilm, x_nilm, x_nilm, x_nilm, x_nilm, (x_cons (x_cokSUP (x := ⟨"TwinFires$Pine", "stands", "(IZ)I"⟩) X xm35 rfl rfl (by decide +kernel) (x_cons (x_at 524 (by decide +kernel) rfl) (x_cons (x_at 525 (by decide +kernel) rfl) (x_cons (x_at 439 (by decide +kernel) rfl) (x_cons (x_at 415 (by decide +kernel) rfl) (x_cons (x_at 503 (by decide +kernel) rfl) (x_cons (x_at 74 (by decide +kernel) rfl) x_nilm)))))) (x_at 504 (by decide +kernel) rfl) (by decide +kernel) ⟨Nat.le_of_ble_eq_true rfl, Nat.le_of_ble_eq_true rfl⟩) x_nilm), x_nilm, x_nilm, x_nilm⟩
set_option maxRecDepth 1000000 in
theorem xm36 : x_Met vwCl x_G x_Zs x_Tb x_Nb xM36 := x_main xT36 [] [] 2500 (by decide +kernel) (by decide +kernel) xk36 (by decide +kernel)
/-- TwinFires$Wall.stands(IZ)I -/
def xM37 : xM := (⟨"TwinFires$Wall", "stands", "(IZ)I"⟩, prog_11_method_2_code, 3, some .int, [xR false [16], xF, xI 0 1], [([xR false [16], xF, xI 0 1], some (xF))], [], (0, 0, 0, 0), none)
def xT37 : xTab := ([(7, 16, 3)], [], [], [], [], [], [], [], [], [], [])
set_option maxRecDepth 100000 in
set_option maxHeartbeats 4000000 in
theorem xk37 : x_TOK vwCl x_G x_Zs x_Tb x_Nb xM37 xT37 := by
  intro p l e s m args below meth c D U hx hb hml hts hown hK hK0 hU hnm hN
  have X : x_cx p s m args c D U xM37.2.1 xM37.2.2.1 vwCl x_Tb x_Nb xM37.1.cls := ⟨hx, hb, hml, hown, hts, hK, hK0, hU, hN, x_Tb_good, x_Nb_ok⟩
  exact ⟨(x_cons (fl57 hts) x_nilm), x_nilm, x_nilm, x_nilm, x_nilm, x_nilm, x_nilm, x_nilm, x_nilm, x_nilm, x_nilm⟩
set_option maxRecDepth 1000000 in
theorem xm37 : x_Met vwCl x_G x_Zs x_Tb x_Nb xM37 := x_main xT37 [] [] 2500 (by decide +kernel) (by decide +kernel) xk37 (by decide +kernel)
/-- TwinFires$Land.standing(II)I -/
def xM38 : xM := (⟨"TwinFires$Land", "standing", "(II)I"⟩, prog_4_method_13_code, 3, some .int, [xR false [2], xI 0 7, xF], [([xR false [2], xI 0 7, xF], some (xF))], [], (3, 66, 0, 0), none)
def xT38 : xTab := ([(29, 2, 7), (33, 2, 8)], [], [], [], [], [], [], [(0, 125, 3, some 11, xM31), (0, 125, 3, some 12, xM35), (0, 125, 3, some 13, xM35), (0, 125, 3, some 14, xM35), (0, 125, 3, some 15, xM36), (0, 125, 3, some 16, xM37)], [], [], [])
set_option maxRecDepth 100000 in
set_option maxHeartbeats 4000000 in
theorem xk38 : x_TOK vwCl x_G x_Zs x_Tb x_Nb xM38 xT38 := by
  intro p l e s m args below meth c D U hx hb hml hts hown hK hK0 hU hnm hN
  have X : x_cx p s m args c D U xM38.2.1 xM38.2.2.1 vwCl x_Tb x_Nb xM38.1.cls := ⟨hx, hb, hml, hown, hts, hK, hK0, hU, hN, x_Tb_good, x_Nb_ok⟩
  exact ⟨(x_cons (fl39 hts) (x_cons (fl40 hts) x_nilm)), x_nilm, x_nilm, x_nilm, x_nilm, x_nilm, x_nilm, (x_cons (x_cokV (ci := 6) X xm31 rfl rfl rfl (x_cons (x_at 498 (by decide +kernel) rfl) (x_cons (x_at 499 (by decide +kernel) rfl) (x_cons (x_at 500 (by decide +kernel) rfl) (x_cons (x_at 68 (by decide +kernel) rfl) x_nilm)))) (x_at 531 (by decide +kernel) rfl) (by decide +kernel) ⟨Nat.le_of_ble_eq_true rfl, Nat.le_of_ble_eq_true rfl⟩) (x_cons (x_cokO (ci := 10) (x := ⟨"TwinFires$Stone", "stands", "(IZ)I"⟩) (b0 := prog_8_method_2_code) (m0 := 3) (r0 := some .int) X xm35 rfl rfl (x_at 531 (by decide +kernel) rfl) (x_cons (x_at 498 (by decide +kernel) rfl) (x_cons (x_at 501 (by decide +kernel) rfl) (x_cons (x_at 499 (by decide +kernel) rfl) (x_cons (x_at 530 (by decide +kernel) rfl) (x_cons (x_at 503 (by decide +kernel) rfl) (x_cons (x_at 74 (by decide +kernel) rfl) x_nilm)))))) (x_at 504 (by decide +kernel) rfl) (by decide +kernel) ⟨Nat.le_of_ble_eq_true rfl, Nat.le_of_ble_eq_true rfl⟩) (x_cons (x_cokO (ci := 4) (x := ⟨"TwinFires$Stone", "stands", "(IZ)I"⟩) (b0 := prog_8_method_2_code) (m0 := 3) (r0 := some .int) X xm35 rfl rfl (x_at 531 (by decide +kernel) rfl) (x_cons (x_at 498 (by decide +kernel) rfl) (x_cons (x_at 501 (by decide +kernel) rfl) (x_cons (x_at 499 (by decide +kernel) rfl) (x_cons (x_at 520 (by decide +kernel) rfl) (x_cons (x_at 503 (by decide +kernel) rfl) (x_cons (x_at 74 (by decide +kernel) rfl) x_nilm)))))) (x_at 504 (by decide +kernel) rfl) (by decide +kernel) ⟨Nat.le_of_ble_eq_true rfl, Nat.le_of_ble_eq_true rfl⟩) (x_cons (x_cokO (ci := 1) (x := ⟨"TwinFires$Stone", "stands", "(IZ)I"⟩) (b0 := prog_8_method_2_code) (m0 := 3) (r0 := some .int) X xm35 rfl rfl (x_at 531 (by decide +kernel) rfl) (x_cons (x_at 498 (by decide +kernel) rfl) (x_cons (x_at 501 (by decide +kernel) rfl) (x_cons (x_at 499 (by decide +kernel) rfl) (x_cons (x_at 502 (by decide +kernel) rfl) (x_cons (x_at 503 (by decide +kernel) rfl) (x_cons (x_at 74 (by decide +kernel) rfl) x_nilm)))))) (x_at 504 (by decide +kernel) rfl) (by decide +kernel) ⟨Nat.le_of_ble_eq_true rfl, Nat.le_of_ble_eq_true rfl⟩) (x_cons (x_cokO (ci := 8) (x := ⟨"TwinFires$Stone", "stands", "(IZ)I"⟩) (b0 := prog_8_method_2_code) (m0 := 3) (r0 := some .int) X xm36 rfl rfl (x_at 531 (by decide +kernel) rfl) (x_cons (x_at 498 (by decide +kernel) rfl) (x_cons (x_at 501 (by decide +kernel) rfl) (x_cons (x_at 499 (by decide +kernel) rfl) (x_cons (x_at 521 (by decide +kernel) rfl) (x_cons (x_at 522 (by decide +kernel) rfl) (x_cons (x_at 77 (by decide +kernel) rfl) x_nilm)))))) (x_at 523 (by decide +kernel) rfl) (by decide +kernel) ⟨Nat.le_of_ble_eq_true rfl, Nat.le_of_ble_eq_true rfl⟩) (x_cons (x_cokO (ci := 9) (x := ⟨"TwinFires$Stone", "stands", "(IZ)I"⟩) (b0 := prog_8_method_2_code) (m0 := 3) (r0 := some .int) X xm37 rfl rfl (x_at 531 (by decide +kernel) rfl) (x_cons (x_at 498 (by decide +kernel) rfl) (x_cons (x_at 501 (by decide +kernel) rfl) (x_cons (x_at 499 (by decide +kernel) rfl) (x_cons (x_at 527 (by decide +kernel) rfl) (x_cons (x_at 528 (by decide +kernel) rfl) (x_cons (x_at 78 (by decide +kernel) rfl) x_nilm)))))) (x_at 529 (by decide +kernel) rfl) (by decide +kernel) ⟨Nat.le_of_ble_eq_true rfl, Nat.le_of_ble_eq_true rfl⟩) x_nilm)))))), x_nilm, x_nilm, x_nilm⟩
set_option maxRecDepth 1000000 in
theorem xm38 : x_Met vwCl x_G x_Zs x_Tb x_Nb xM38 := x_main xT38 [] [] 2500 (by decide +kernel) (by decide +kernel) xk38 (by decide +kernel)
/-- TwinFires.high(I)I -/
def xM39 : xM := (⟨"TwinFires", "high", "(I)I"⟩, prog_1_method_7_code, 2, some .int, [xR false [0], xF], [([xR false [0], xF], some (xF))], [(42, 0)], (4, 88, 0, 0), none)
def xT39 : xTab := ([(12, 0, 0), (95, 2, 10)], [], [], [], [], [], [], [(0, 59, 2, some 0, xM8), (0, 71, 2, some 2, xM25), (0, 98, 3, some 2, xM38)], [], [], [])
set_option maxRecDepth 100000 in
set_option maxHeartbeats 4000000 in
theorem xk39 : x_TOK vwCl x_G x_Zs x_Tb x_Nb xM39 xT39 := by
  intro p l e s m args below meth c D U hx hb hml hts hown hK hK0 hU hnm hN
  have X : x_cx p s m args c D U xM39.2.1 xM39.2.2.1 vwCl x_Tb x_Nb xM39.1.cls := ⟨hx, hb, hml, hown, hts, hK, hK0, hU, hN, x_Tb_good, x_Nb_ok⟩
  exact ⟨(x_cons (fl8 hts) (x_cons (fl58 hts) x_nilm)), x_nilm, x_nilm, x_nilm, x_nilm, x_nilm, x_nilm, (x_cons (x_cokV (ci := 11) X xm8 rfl rfl rfl (x_cons (x_at 375 (by decide +kernel) rfl) (x_cons (x_at 377 (by decide +kernel) rfl) (x_cons (x_at 1 (by decide +kernel) rfl) (x_cons (x_at 65 (by decide +kernel) rfl) x_nilm)))) (x_at 378 (by decide +kernel) rfl) (by decide +kernel) ⟨Nat.le_of_ble_eq_true rfl, Nat.le_of_ble_eq_true rfl⟩) (x_cons (x_cokV (ci := 2) X xm25 rfl rfl rfl (x_cons (x_at 468 (by decide +kernel) rfl) (x_cons (x_at 469 (by decide +kernel) rfl) (x_cons (x_at 470 (by decide +kernel) rfl) (x_cons (x_at 66 (by decide +kernel) rfl) x_nilm)))) (x_at 471 (by decide +kernel) rfl) (by decide +kernel) ⟨Nat.le_of_ble_eq_true rfl, Nat.le_of_ble_eq_true rfl⟩) (x_cons (x_cokV (ci := 2) X xm38 rfl rfl rfl (x_cons (x_at 494 (by decide +kernel) rfl) (x_cons (x_at 495 (by decide +kernel) rfl) (x_cons (x_at 496 (by decide +kernel) rfl) (x_cons (x_at 66 (by decide +kernel) rfl) x_nilm)))) (x_at 497 (by decide +kernel) rfl) (by decide +kernel) ⟨Nat.le_of_ble_eq_true rfl, Nat.le_of_ble_eq_true rfl⟩) x_nilm))), x_nilm, x_nilm, x_nilm⟩
set_option maxRecDepth 1000000 in
theorem xm39 : x_Met vwCl x_G x_Zs x_Tb x_Nb xM39 := x_main xT39 [] [] 2500 (by decide +kernel) (by decide +kernel) xk39 (by decide +kernel)
/-- TwinFires$Land.hasHill(I)Z -/
def xM40 : xM := (⟨"TwinFires$Land", "hasHill", "(I)Z"⟩, prog_4_method_4_code, 2, some .boolean, [xR false [2], xF], [([xR false [2], xI 0 9], some (xI 1 1)), ([xR false [2], xF], some (xI 0 0))], [], (0, 0, 0, 0), none)
def xT40 : xTab := ([(63, 2, 0)], [], [], [], [], [], [], [], [], [], [])
set_option maxRecDepth 100000 in
set_option maxHeartbeats 4000000 in
theorem xk40 : x_TOK vwCl x_G x_Zs x_Tb x_Nb xM40 xT40 := by
  intro p l e s m args below meth c D U hx hb hml hts hown hK hK0 hU hnm hN
  have X : x_cx p s m args c D U xM40.2.1 xM40.2.2.1 vwCl x_Tb x_Nb xM40.1.cls := ⟨hx, hb, hml, hown, hts, hK, hK0, hU, hN, x_Tb_good, x_Nb_ok⟩
  exact ⟨(x_cons (fl2 hts) x_nilm), x_nilm, x_nilm, x_nilm, x_nilm, x_nilm, x_nilm, x_nilm, x_nilm, x_nilm, x_nilm⟩
set_option maxRecDepth 1000000 in
theorem xm40 : x_Met vwCl x_G x_Zs x_Tb x_Nb xM40 := x_main xT40 [] [] 2500 (by decide +kernel) (by decide +kernel) xk40 (by decide +kernel)
/-- TwinFires$Line.draw(LTwinFires$Land;II)V -/
def xM41 : xM := (⟨"TwinFires$Line", "draw", "(LTwinFires$Land;II)V"⟩, prog_5_method_2_code, 4, none, [xR false [10], xR false [2], xI 0 9, xI 0 9], [([xR false [10], xR false [2], xI 0 9, xI 0 9], none)], [(10, 0), (10, 1), (10, 2), (10, 3), (10, 4), (10, 5), (10, 6), (10, 7)], (1, 22, 0, 0), none)
def xT41 : xTab := ([(9, 2, 1), (15, 10, 0), (21, 2, 2), (24, 10, 1), (27, 10, 2), (30, 10, 3), (33, 2, 10), (49, 2, 3)], [(15, 10, 0), (24, 10, 1), (27, 10, 2), (30, 10, 3), (46, 10, 4), (52, 10, 5), (55, 10, 6), (58, 10, 7)], [], [], [], [], [], [(1, 36, 1, none, (xMm1 Lib.Math.abs.name prog_16_method_59_code)), (1, 42, 2, none, (xMm2 Lib.Math.max.name prog_16_method_65_code))], [], [], [])
set_option maxRecDepth 100000 in
set_option maxHeartbeats 4000000 in
theorem xk41 : x_TOK vwCl x_G x_Zs x_Tb x_Nb xM41 xT41 := by
  intro p l e s m args below meth c D U hx hb hml hts hown hK hK0 hU hnm hN
  have X : x_cx p s m args c D U xM41.2.1 xM41.2.2.1 vwCl x_Tb x_Nb xM41.1.cls := ⟨hx, hb, hml, hown, hts, hK, hK0, hU, hN, x_Tb_good, x_Nb_ok⟩
  exact ⟨(x_cons (fl59 hts) (x_cons (fl60 hts) (x_cons (fl61 hts) (x_cons (fl62 hts) (x_cons (fl63 hts) (x_cons (fl64 hts) (x_cons (fl65 hts) (x_cons (fl66 hts) x_nilm)))))))), (x_cons (fw67 hts) (x_cons (fw68 hts) (x_cons (fw69 hts) (x_cons (fw70 hts) (x_cons (fw71 hts) (x_cons (fw72 hts) (x_cons (fw73 hts) (x_cons (fw74 hts) x_nilm)))))))), x_nilm, x_nilm, x_nilm, x_nilm, x_nilm, (x_cons (x_cokAbs X (by decide +kernel) (x_cons (x_at 552 (by decide +kernel) rfl) (x_cons (x_at 553 (by decide +kernel) rfl) (x_cons (x_at 79 (by decide +kernel) rfl) (x_cons (x_at 554 (by decide +kernel) rfl) x_nilm)))) ⟨Nat.le_of_ble_eq_true rfl, Nat.le_of_ble_eq_true rfl⟩) (x_cons (x_cokMax X (by decide +kernel) (x_cons (x_at 555 (by decide +kernel) rfl) (x_cons (x_at 556 (by decide +kernel) rfl) (x_cons (x_at 79 (by decide +kernel) rfl) (x_cons (x_at 557 (by decide +kernel) rfl) x_nilm)))) ⟨Nat.le_of_ble_eq_true rfl, Nat.le_of_ble_eq_true rfl⟩) x_nilm)), x_nilm, x_nilm, x_nilm⟩
set_option maxRecDepth 1000000 in
theorem xm41 : x_Met vwCl x_G x_Zs x_Tb x_Nb xM41 := x_main xT41 [] [] 2500 (by decide +kernel) (by decide +kernel) xk41 (by decide +kernel)
/-- TwinFires$Line.along(II)I -/
def xM42 : xM := (⟨"TwinFires$Line", "along", "(II)I"⟩, prog_5_method_3_code, 3, some .int, [xR false [10], xF, xF], [([xR false [10], xF, xF], some (xF))], [], (0, 0, 0, 0), none)
def xT42 : xTab := ([(15, 10, 0), (24, 10, 1), (27, 10, 2), (30, 10, 3)], [], [], [], [], [], [], [], [], [], [])
set_option maxRecDepth 100000 in
set_option maxHeartbeats 4000000 in
theorem xk42 : x_TOK vwCl x_G x_Zs x_Tb x_Nb xM42 xT42 := by
  intro p l e s m args below meth c D U hx hb hml hts hown hK hK0 hU hnm hN
  have X : x_cx p s m args c D U xM42.2.1 xM42.2.2.1 vwCl x_Tb x_Nb xM42.1.cls := ⟨hx, hb, hml, hown, hts, hK, hK0, hU, hN, x_Tb_good, x_Nb_ok⟩
  exact ⟨(x_cons (fl60 hts) (x_cons (fl62 hts) (x_cons (fl63 hts) (x_cons (fl64 hts) x_nilm)))), x_nilm, x_nilm, x_nilm, x_nilm, x_nilm, x_nilm, x_nilm, x_nilm, x_nilm, x_nilm⟩
set_option maxRecDepth 1000000 in
theorem xm42 : x_Met vwCl x_G x_Zs x_Tb x_Nb xM42 := x_main xT42 [] [] 2500 (by decide +kernel) (by decide +kernel) xk42 (by decide +kernel)
/-- TwinFires$Line.isBetween(II)Z -/
def xM43 : xM := (⟨"TwinFires$Line", "isBetween", "(II)Z"⟩, prog_5_method_4_code, 4, some .boolean, [xR false [10], xF, xF], [([xR false [10], xF, xF], some (xI 1 1)), ([xR false [10], xF, xF], some (xI 0 0))], [], (1, 22, 0, 0), none)
def xT43 : xTab := ([(58, 10, 7)], [], [], [], [], [], [], [(0, 61, 3, some 10, xM42)], [], [], [])
set_option maxRecDepth 100000 in
set_option maxHeartbeats 4000000 in
theorem xk43 : x_TOK vwCl x_G x_Zs x_Tb x_Nb xM43 xT43 := by
  intro p l e s m args below meth c D U hx hb hml hts hown hK hK0 hU hnm hN
  have X : x_cx p s m args c D U xM43.2.1 xM43.2.2.1 vwCl x_Tb x_Nb xM43.1.cls := ⟨hx, hb, hml, hown, hts, hK, hK0, hU, hN, x_Tb_good, x_Nb_ok⟩
  exact ⟨(x_cons (fl75 hts) x_nilm), x_nilm, x_nilm, x_nilm, x_nilm, x_nilm, x_nilm, (x_cons (x_cokV (ci := 3) X xm42 rfl rfl rfl (x_cons (x_at 570 (by decide +kernel) rfl) (x_cons (x_at 572 (by decide +kernel) rfl) (x_cons (x_at 5 (by decide +kernel) rfl) (x_cons (x_at 71 (by decide +kernel) rfl) x_nilm)))) (x_at 573 (by decide +kernel) rfl) (by decide +kernel) ⟨Nat.le_of_ble_eq_true rfl, Nat.le_of_ble_eq_true rfl⟩) x_nilm), x_nilm, x_nilm, x_nilm⟩
set_option maxRecDepth 1000000 in
theorem xm43 : x_Met vwCl x_G x_Zs x_Tb x_Nb xM43 := x_main xT43 [] [] 2500 (by decide +kernel) (by decide +kernel) xk43 (by decide +kernel)
/-- TwinFires$Line.meets(II)Z -/
def xM44 : xM := (⟨"TwinFires$Line", "meets", "(II)Z"⟩, prog_5_method_5_code, 4, some .boolean, [xR false [10], xF, xF], [([xR false [10], xF, xF], some (xI 0 0)), ([xR false [10], xF, xF], some (xI 1 1))], [], (2, 45, 0, 0), none)
def xT44 : xTab := ([(15, 10, 0), (24, 10, 1), (27, 10, 2), (30, 10, 3), (46, 10, 4)], [], [], [], [], [], [], [(1, 36, 1, none, (xMm1 Lib.Math.abs.name prog_16_method_59_code)), (0, 64, 3, some 10, xM43)], [], [], [])
set_option maxRecDepth 100000 in
set_option maxHeartbeats 4000000 in
theorem xk44 : x_TOK vwCl x_G x_Zs x_Tb x_Nb xM44 xT44 := by
  intro p l e s m args below meth c D U hx hb hml hts hown hK hK0 hU hnm hN
  have X : x_cx p s m args c D U xM44.2.1 xM44.2.2.1 vwCl x_Tb x_Nb xM44.1.cls := ⟨hx, hb, hml, hown, hts, hK, hK0, hU, hN, x_Tb_good, x_Nb_ok⟩
  exact ⟨(x_cons (fl60 hts) (x_cons (fl62 hts) (x_cons (fl63 hts) (x_cons (fl64 hts) (x_cons (fl76 hts) x_nilm))))), x_nilm, x_nilm, x_nilm, x_nilm, x_nilm, x_nilm, (x_cons (x_cokAbs X (by decide +kernel) (x_cons (x_at 552 (by decide +kernel) rfl) (x_cons (x_at 553 (by decide +kernel) rfl) (x_cons (x_at 79 (by decide +kernel) rfl) (x_cons (x_at 554 (by decide +kernel) rfl) x_nilm)))) ⟨Nat.le_of_ble_eq_true rfl, Nat.le_of_ble_eq_true rfl⟩) (x_cons (x_cokV (ci := 3) X xm43 rfl rfl rfl (x_cons (x_at 566 (by decide +kernel) rfl) (x_cons (x_at 567 (by decide +kernel) rfl) (x_cons (x_at 568 (by decide +kernel) rfl) (x_cons (x_at 71 (by decide +kernel) rfl) x_nilm)))) (x_at 569 (by decide +kernel) rfl) (by decide +kernel) ⟨Nat.le_of_ble_eq_true rfl, Nat.le_of_ble_eq_true rfl⟩) x_nilm)), x_nilm, x_nilm, x_nilm⟩
set_option maxRecDepth 1000000 in
theorem xm44 : x_Met vwCl x_G x_Zs x_Tb x_Nb xM44 := x_main xT44 [] [] 2500 (by decide +kernel) (by decide +kernel) xk44 (by decide +kernel)
/-- TwinFires$Line.over(III)I -/
def xM45 : xM := (⟨"TwinFires$Line", "over", "(III)I"⟩, prog_5_method_6_code, 4, some .int, [xR false [10], xF, xF, xF], [([xR false [10], xF, xF, xF], some (xF))], [], (1, 22, 0, 0), none)
def xT45 : xTab := ([(52, 10, 5), (55, 10, 6), (58, 10, 7)], [], [], [], [], [], [], [(0, 61, 3, some 10, xM42)], [], [], [])
set_option maxRecDepth 100000 in
set_option maxHeartbeats 4000000 in
theorem xk45 : x_TOK vwCl x_G x_Zs x_Tb x_Nb xM45 xT45 := by
  intro p l e s m args below meth c D U hx hb hml hts hown hK hK0 hU hnm hN
  have X : x_cx p s m args c D U xM45.2.1 xM45.2.2.1 vwCl x_Tb x_Nb xM45.1.cls := ⟨hx, hb, hml, hown, hts, hK, hK0, hU, hN, x_Tb_good, x_Nb_ok⟩
  exact ⟨(x_cons (fl77 hts) (x_cons (fl78 hts) (x_cons (fl75 hts) x_nilm))), x_nilm, x_nilm, x_nilm, x_nilm, x_nilm, x_nilm, (x_cons (x_cokV (ci := 3) X xm42 rfl rfl rfl (x_cons (x_at 570 (by decide +kernel) rfl) (x_cons (x_at 572 (by decide +kernel) rfl) (x_cons (x_at 5 (by decide +kernel) rfl) (x_cons (x_at 71 (by decide +kernel) rfl) x_nilm)))) (x_at 573 (by decide +kernel) rfl) (by decide +kernel) ⟨Nat.le_of_ble_eq_true rfl, Nat.le_of_ble_eq_true rfl⟩) x_nilm), x_nilm, x_nilm, x_nilm⟩
set_option maxRecDepth 1000000 in
theorem xm45 : x_Met vwCl x_G x_Zs x_Tb x_Nb xM45 := x_main xT45 [] [] 2500 (by decide +kernel) (by decide +kernel) xk45 (by decide +kernel)
/-- TwinFires$Line.isHidden(III)Z -/
def xM46 : xM := (⟨"TwinFires$Line", "isHidden", "(III)Z"⟩, prog_5_method_7_code, 4, some .boolean, [xR false [10], xF, xF, xF], [([xR false [10], xF, xF, xF], some (xI 1 1)), ([xR false [10], xF, xF, xF], some (xI 0 0))], [], (2, 45, 0, 0), none)
def xT46 : xTab := ([], [], [], [], [], [], [], [(0, 68, 4, some 10, xM45)], [], [], [])
set_option maxRecDepth 100000 in
set_option maxHeartbeats 4000000 in
theorem xk46 : x_TOK vwCl x_G x_Zs x_Tb x_Nb xM46 xT46 := by
  intro p l e s m args below meth c D U hx hb hml hts hown hK hK0 hU hnm hN
  have X : x_cx p s m args c D U xM46.2.1 xM46.2.2.1 vwCl x_Tb x_Nb xM46.1.cls := ⟨hx, hb, hml, hown, hts, hK, hK0, hU, hN, x_Tb_good, x_Nb_ok⟩
  exact ⟨x_nilm, x_nilm, x_nilm, x_nilm, x_nilm, x_nilm, x_nilm, (x_cons (x_cokV (ci := 3) X xm45 rfl rfl rfl (x_cons (x_at 578 (by decide +kernel) rfl) (x_cons (x_at 579 (by decide +kernel) rfl) (x_cons (x_at 580 (by decide +kernel) rfl) (x_cons (x_at 71 (by decide +kernel) rfl) x_nilm)))) (x_at 581 (by decide +kernel) rfl) (by decide +kernel) ⟨Nat.le_of_ble_eq_true rfl, Nat.le_of_ble_eq_true rfl⟩) x_nilm), x_nilm, x_nilm, x_nilm⟩
set_option maxRecDepth 1000000 in
theorem xm46 : x_Met vwCl x_G x_Zs x_Tb x_Nb xM46 := x_main xT46 [] [] 2500 (by decide +kernel) (by decide +kernel) xk46 (by decide +kernel)
/-- TwinFires$Eyes.isHiddenByHill(LTwinFires$Land;II)Z -/
def xM47 : xM := (⟨"TwinFires$Eyes", "isHiddenByHill", "(LTwinFires$Land;II)Z"⟩, prog_2_method_3_code, 5, some .boolean, [xR false [6], xR false [2], xF, xF], [([xR false [6], xR false [2], xF, xF], some (xI 1 1)), ([xR false [6], xR false [2], xF, xF], some (xI 0 0))], [], (3, 68, 0, 0), none)
def xT47 : xTab := ([(12, 6, 0), (28, 2, 0), (45, 2, 1), (48, 2, 2), (55, 2, 3)], [], [], [], [], [], [], [(0, 51, 3, some 10, xM44), (0, 58, 4, some 10, xM46)], [], [], [])
set_option maxRecDepth 100000 in
set_option maxHeartbeats 4000000 in
theorem xk47 : x_TOK vwCl x_G x_Zs x_Tb x_Nb xM47 xT47 := by
  intro p l e s m args below meth c D U hx hb hml hts hown hK hK0 hU hnm hN
  have X : x_cx p s m args c D U xM47.2.1 xM47.2.2.1 vwCl x_Tb x_Nb xM47.1.cls := ⟨hx, hb, hml, hown, hts, hK, hK0, hU, hN, x_Tb_good, x_Nb_ok⟩
  exact ⟨(x_cons (fl79 hts) (x_cons (fl80 hts) (x_cons (fl81 hts) (x_cons (fl82 hts) (x_cons (fl83 hts) x_nilm))))), x_nilm, x_nilm, x_nilm, x_nilm, x_nilm, x_nilm, (x_cons (x_cokV (ci := 3) X xm44 rfl rfl rfl (x_cons (x_at 562 (by decide +kernel) rfl) (x_cons (x_at 563 (by decide +kernel) rfl) (x_cons (x_at 564 (by decide +kernel) rfl) (x_cons (x_at 71 (by decide +kernel) rfl) x_nilm)))) (x_at 565 (by decide +kernel) rfl) (by decide +kernel) ⟨Nat.le_of_ble_eq_true rfl, Nat.le_of_ble_eq_true rfl⟩) (x_cons (x_cokV (ci := 3) X xm46 rfl rfl rfl (x_cons (x_at 574 (by decide +kernel) rfl) (x_cons (x_at 575 (by decide +kernel) rfl) (x_cons (x_at 576 (by decide +kernel) rfl) (x_cons (x_at 71 (by decide +kernel) rfl) x_nilm)))) (x_at 577 (by decide +kernel) rfl) (by decide +kernel) ⟨Nat.le_of_ble_eq_true rfl, Nat.le_of_ble_eq_true rfl⟩) x_nilm)), x_nilm, x_nilm, x_nilm⟩
set_option maxRecDepth 1000000 in
theorem xm47 : x_Met vwCl x_G x_Zs x_Tb x_Nb xM47 := x_main xT47 [(3, ([(0, xR false [6]), (1, xR false [2]), (2, xF), (3, xF), (4, xI 0 10)], [], []), (4, true), [], false, 0, [])] [] 2500 (by decide +kernel) (by decide +kernel) xk47 (by decide +kernel)
/-- TwinFires$Eyes.gatherThings(LTwinFires$Land;II)V -/
def xM48 : xM := (⟨"TwinFires$Eyes", "gatherThings", "(LTwinFires$Land;II)V"⟩, prog_2_method_4_code, 6, none, [xR false [6], xR false [2], xF, xI 0 99], [([xR false [6], xR false [2], xF, xI 0 99], none)], [(33, 0), (34, 0)], (3, 68, 0, 0), none)
def xT48 : xTab := ([(12, 6, 0), (22, 6, 2), (25, 6, 3), (62, 2, 6), (65, 2, 7), (69, 11, 1), (69, 12, 1), (69, 13, 1), (69, 14, 1), (69, 15, 1), (69, 16, 1), (73, 11, 2), (73, 12, 2), (73, 13, 2), (73, 14, 2), (73, 15, 2), (73, 16, 2), (75, 2, 8)], [], [], [], [], [], [], [(0, 51, 3, some 10, xM44), (0, 58, 4, some 10, xM46), (0, 78, 3, some 11, xM31), (0, 78, 3, some 12, xM35), (0, 78, 3, some 13, xM35), (0, 78, 3, some 14, xM35), (0, 78, 3, some 15, xM36), (0, 78, 3, some 16, xM37)], [], [], [])
set_option maxRecDepth 100000 in
set_option maxHeartbeats 4000000 in
theorem xk48 : x_TOK vwCl x_G x_Zs x_Tb x_Nb xM48 xT48 := by
  intro p l e s m args below meth c D U hx hb hml hts hown hK hK0 hU hnm hN
  have X : x_cx p s m args c D U xM48.2.1 xM48.2.2.1 vwCl x_Tb x_Nb xM48.1.cls := ⟨hx, hb, hml, hown, hts, hK, hK0, hU, hN, x_Tb_good, x_Nb_ok⟩
  exact ⟨(x_cons (fl79 hts) (x_cons (fl84 hts) (x_cons (fl85 hts) (x_cons (fl86 hts) (x_cons (fl87 hts) (x_cons (fl88 hts) (x_cons (fl89 hts) (x_cons (fl90 hts) (x_cons (fl91 hts) (x_cons (fl92 hts) (x_cons (fl93 hts) (x_cons (fl94 hts) (x_cons (fl95 hts) (x_cons (fl96 hts) (x_cons (fl97 hts) (x_cons (fl98 hts) (x_cons (fl99 hts) (x_cons (fl100 hts) x_nilm)))))))))))))))))), x_nilm, x_nilm, x_nilm, x_nilm, x_nilm, x_nilm, (x_cons (x_cokV (ci := 3) X xm44 rfl rfl rfl (x_cons (x_at 562 (by decide +kernel) rfl) (x_cons (x_at 563 (by decide +kernel) rfl) (x_cons (x_at 564 (by decide +kernel) rfl) (x_cons (x_at 71 (by decide +kernel) rfl) x_nilm)))) (x_at 565 (by decide +kernel) rfl) (by decide +kernel) ⟨Nat.le_of_ble_eq_true rfl, Nat.le_of_ble_eq_true rfl⟩) (x_cons (x_cokV (ci := 3) X xm46 rfl rfl rfl (x_cons (x_at 574 (by decide +kernel) rfl) (x_cons (x_at 575 (by decide +kernel) rfl) (x_cons (x_at 576 (by decide +kernel) rfl) (x_cons (x_at 71 (by decide +kernel) rfl) x_nilm)))) (x_at 577 (by decide +kernel) rfl) (by decide +kernel) ⟨Nat.le_of_ble_eq_true rfl, Nat.le_of_ble_eq_true rfl⟩) (x_cons (x_cokV (ci := 6) X xm31 rfl rfl rfl (x_cons (x_at 586 (by decide +kernel) rfl) (x_cons (x_at 499 (by decide +kernel) rfl) (x_cons (x_at 500 (by decide +kernel) rfl) (x_cons (x_at 68 (by decide +kernel) rfl) x_nilm)))) (x_at 531 (by decide +kernel) rfl) (by decide +kernel) ⟨Nat.le_of_ble_eq_true rfl, Nat.le_of_ble_eq_true rfl⟩) (x_cons (x_cokO (ci := 10) (x := ⟨"TwinFires$Stone", "stands", "(IZ)I"⟩) (b0 := prog_8_method_2_code) (m0 := 3) (r0 := some .int) X xm35 rfl rfl (x_at 531 (by decide +kernel) rfl) (x_cons (x_at 586 (by decide +kernel) rfl) (x_cons (x_at 501 (by decide +kernel) rfl) (x_cons (x_at 499 (by decide +kernel) rfl) (x_cons (x_at 530 (by decide +kernel) rfl) (x_cons (x_at 503 (by decide +kernel) rfl) (x_cons (x_at 74 (by decide +kernel) rfl) x_nilm)))))) (x_at 504 (by decide +kernel) rfl) (by decide +kernel) ⟨Nat.le_of_ble_eq_true rfl, Nat.le_of_ble_eq_true rfl⟩) (x_cons (x_cokO (ci := 4) (x := ⟨"TwinFires$Stone", "stands", "(IZ)I"⟩) (b0 := prog_8_method_2_code) (m0 := 3) (r0 := some .int) X xm35 rfl rfl (x_at 531 (by decide +kernel) rfl) (x_cons (x_at 586 (by decide +kernel) rfl) (x_cons (x_at 501 (by decide +kernel) rfl) (x_cons (x_at 499 (by decide +kernel) rfl) (x_cons (x_at 520 (by decide +kernel) rfl) (x_cons (x_at 503 (by decide +kernel) rfl) (x_cons (x_at 74 (by decide +kernel) rfl) x_nilm)))))) (x_at 504 (by decide +kernel) rfl) (by decide +kernel) ⟨Nat.le_of_ble_eq_true rfl, Nat.le_of_ble_eq_true rfl⟩) (x_cons (x_cokO (ci := 1) (x := ⟨"TwinFires$Stone", "stands", "(IZ)I"⟩) (b0 := prog_8_method_2_code) (m0 := 3) (r0 := some .int) X xm35 rfl rfl (x_at 531 (by decide +kernel) rfl) (x_cons (x_at 586 (by decide +kernel) rfl) (x_cons (x_at 501 (by decide +kernel) rfl) (x_cons (x_at 499 (by decide +kernel) rfl) (x_cons (x_at 502 (by decide +kernel) rfl) (x_cons (x_at 503 (by decide +kernel) rfl) (x_cons (x_at 74 (by decide +kernel) rfl) x_nilm)))))) (x_at 504 (by decide +kernel) rfl) (by decide +kernel) ⟨Nat.le_of_ble_eq_true rfl, Nat.le_of_ble_eq_true rfl⟩) (x_cons (x_cokO (ci := 8) (x := ⟨"TwinFires$Stone", "stands", "(IZ)I"⟩) (b0 := prog_8_method_2_code) (m0 := 3) (r0 := some .int) X xm36 rfl rfl (x_at 531 (by decide +kernel) rfl) (x_cons (x_at 586 (by decide +kernel) rfl) (x_cons (x_at 501 (by decide +kernel) rfl) (x_cons (x_at 499 (by decide +kernel) rfl) (x_cons (x_at 521 (by decide +kernel) rfl) (x_cons (x_at 522 (by decide +kernel) rfl) (x_cons (x_at 77 (by decide +kernel) rfl) x_nilm)))))) (x_at 523 (by decide +kernel) rfl) (by decide +kernel) ⟨Nat.le_of_ble_eq_true rfl, Nat.le_of_ble_eq_true rfl⟩) (x_cons (x_cokO (ci := 9) (x := ⟨"TwinFires$Stone", "stands", "(IZ)I"⟩) (b0 := prog_8_method_2_code) (m0 := 3) (r0 := some .int) X xm37 rfl rfl (x_at 531 (by decide +kernel) rfl) (x_cons (x_at 586 (by decide +kernel) rfl) (x_cons (x_at 501 (by decide +kernel) rfl) (x_cons (x_at 499 (by decide +kernel) rfl) (x_cons (x_at 527 (by decide +kernel) rfl) (x_cons (x_at 528 (by decide +kernel) rfl) (x_cons (x_at 78 (by decide +kernel) rfl) x_nilm)))))) (x_at 529 (by decide +kernel) rfl) (by decide +kernel) ⟨Nat.le_of_ble_eq_true rfl, Nat.le_of_ble_eq_true rfl⟩) x_nilm)))))))), x_nilm, x_nilm, x_nilm⟩
set_option maxRecDepth 1000000 in
theorem xm48 : x_Met vwCl x_G x_Zs x_Tb x_Nb xM48 := x_main xT48 [(3, ([(0, xR false [6]), (1, xR false [2]), (2, xF), (3, xI 0 99), (4, xI 0 8)], [], []), (4, true), [], false, 0, [])] [] 2500 (by decide +kernel) (by decide +kernel) xk48 (by decide +kernel)
/-- TwinFires$Eyes.gather(LTwinFires$Land;I)V -/
def xM49 : xM := (⟨"TwinFires$Eyes", "gather", "(LTwinFires$Land;I)V"⟩, prog_2_method_2_code, 6, none, [xR false [6], xR false [2], xF], [([xR false [6], xR false [2], xF], none)], [(10, 0), (10, 1), (10, 2), (10, 3), (10, 4), (10, 5), (10, 6), (10, 7), (33, 0), (34, 0)], (4, 93, 0, 0), none)
def xT49 : xTab := ([(12, 6, 0), (22, 6, 2), (25, 6, 3), (28, 2, 0)], [], [], [], [], [], [], [(0, 34, 4, some 10, xM41), (0, 38, 4, some 6, xM47), (0, 42, 4, some 6, xM48)], [], [], [])
set_option maxRecDepth 100000 in
set_option maxHeartbeats 4000000 in
theorem xk49 : x_TOK vwCl x_G x_Zs x_Tb x_Nb xM49 xT49 := by
  intro p l e s m args below meth c D U hx hb hml hts hown hK hK0 hU hnm hN
  have X : x_cx p s m args c D U xM49.2.1 xM49.2.2.1 vwCl x_Tb x_Nb xM49.1.cls := ⟨hx, hb, hml, hown, hts, hK, hK0, hU, hN, x_Tb_good, x_Nb_ok⟩
  exact ⟨(x_cons (fl79 hts) (x_cons (fl84 hts) (x_cons (fl85 hts) (x_cons (fl80 hts) x_nilm)))), x_nilm, x_nilm, x_nilm, x_nilm, x_nilm, x_nilm, (x_cons (x_cokV (ci := 3) X xm41 rfl rfl rfl (x_cons (x_at 548 (by decide +kernel) rfl) (x_cons (x_at 549 (by decide +kernel) rfl) (x_cons (x_at 550 (by decide +kernel) rfl) (x_cons (x_at 71 (by decide +kernel) rfl) x_nilm)))) (x_at 551 (by decide +kernel) rfl) (by decide +kernel) ⟨Nat.le_of_ble_eq_true rfl, Nat.le_of_ble_eq_true rfl⟩) (x_cons (x_cokV (ci := 0) X xm47 rfl rfl rfl (x_cons (x_at 558 (by decide +kernel) rfl) (x_cons (x_at 560 (by decide +kernel) rfl) (x_cons (x_at 4 (by decide +kernel) rfl) (x_cons (x_at 70 (by decide +kernel) rfl) x_nilm)))) (x_at 561 (by decide +kernel) rfl) (by decide +kernel) ⟨Nat.le_of_ble_eq_true rfl, Nat.le_of_ble_eq_true rfl⟩) (x_cons (x_cokV (ci := 0) X xm48 rfl rfl rfl (x_cons (x_at 582 (by decide +kernel) rfl) (x_cons (x_at 584 (by decide +kernel) rfl) (x_cons (x_at 6 (by decide +kernel) rfl) (x_cons (x_at 70 (by decide +kernel) rfl) x_nilm)))) (x_at 585 (by decide +kernel) rfl) (by decide +kernel) ⟨Nat.le_of_ble_eq_true rfl, Nat.le_of_ble_eq_true rfl⟩) x_nilm))), x_nilm, x_nilm, x_nilm⟩
set_option maxRecDepth 1000000 in
theorem xm49 : x_Met vwCl x_G x_Zs x_Tb x_Nb xM49 := x_main xT49 [(2, ([(0, xR false [6]), (1, xR false [2]), (2, xF), (3, xI 0 10)], [], []), (3, true), [], false, 0, []), (15, ([(0, xR false [6]), (1, xR false [2]), (2, xF), (3, xI 0 9), (4, xI 1 10)], [], [(1, 2, 0, xI 1 10)]), (4, true), [3], false, 1, [])] [] 2500 (by decide +kernel) (by decide +kernel) xk49 (by decide +kernel)
/-- java/util/Arrays.fill([II)V -/
def xM50 : xM := (⟨"java/util/Arrays", "fill", "([II)V"⟩, prog_21_method_103_code, 4, none, [xR false [32], xI 0 0], [([xR false [32], xI 0 0], none)], [(32, 0)], (0, 0, 0, 0), none)
def xT50 : xTab := ([], [], [], [], [], [], [], [], [], [], [])
set_option maxRecDepth 100000 in
set_option maxHeartbeats 4000000 in
theorem xk50 : x_TOK vwCl x_G x_Zs x_Tb x_Nb xM50 xT50 := by
  intro p l e s m args below meth c D U hx hb hml hts hown hK hK0 hU hnm hN
  have X : x_cx p s m args c D U xM50.2.1 xM50.2.2.1 vwCl x_Tb x_Nb xM50.1.cls := ⟨hx, hb, hml, hown, hts, hK, hK0, hU, hN, x_Tb_good, x_Nb_ok⟩
  exact ⟨x_nilm, x_nilm, x_nilm, x_nilm, x_nilm, x_nilm, x_nilm, x_nilm, x_nilm, x_nilm, x_nilm⟩
set_option maxRecDepth 1000000 in
theorem xm50 : x_Met vwCl x_G x_Zs x_Tb x_Nb xM50 := x_main xT50 [(5, ([(0, xR false [32]), (1, xI 0 0), (2, xI 0 10), (3, xI 10 10)], [], []), (2, true), [], false, 0, [])] [] 2500 (by decide +kernel) (by decide +kernel) xk50 (by decide +kernel)
/-- TwinFires$Eyes.veil(LTwinFires$Land;II)V -/
def xM51 : xM := (⟨"TwinFires$Eyes", "veil", "(LTwinFires$Land;II)V"⟩, prog_2_method_5_code, 8, none, [xR false [6], xR false [2], xF, xF], [([xR false [6], xR false [2], xF, xF], none)], [(32, 0)], (1, 23, 0, 0), none)
def xT51 : xTab := ([(18, 6, 1), (22, 6, 2), (25, 6, 3), (28, 2, 0), (55, 2, 3)], [], [], [], [], [], [], [(1, 82, 2, none, xM50)], [], [], [])
set_option maxRecDepth 100000 in
set_option maxHeartbeats 4000000 in
theorem xk51 : x_TOK vwCl x_G x_Zs x_Tb x_Nb xM51 xT51 := by
  intro p l e s m args below meth c D U hx hb hml hts hown hK hK0 hU hnm hN
  have X : x_cx p s m args c D U xM51.2.1 xM51.2.2.1 vwCl x_Tb x_Nb xM51.1.cls := ⟨hx, hb, hml, hown, hts, hK, hK0, hU, hN, x_Tb_good, x_Nb_ok⟩
  exact ⟨(x_cons (fl101 hts) (x_cons (fl84 hts) (x_cons (fl85 hts) (x_cons (fl80 hts) (x_cons (fl83 hts) x_nilm))))), x_nilm, x_nilm, x_nilm, x_nilm, x_nilm, x_nilm, (x_cons (x_cokS X xm50 (x_cons (x_at 591 (by decide +kernel) rfl) (x_cons (x_at 103 (by decide +kernel) rfl) (x_cons (x_at 67 (by decide +kernel) rfl) x_nilm))) (x_at 104 (by decide +kernel) rfl) (by decide +kernel) ⟨Nat.le_of_ble_eq_true rfl, Nat.le_of_ble_eq_true rfl⟩) x_nilm), x_nilm, x_nilm, x_nilm⟩
set_option maxRecDepth 1000000 in
theorem xm51 : x_Met vwCl x_G x_Zs x_Tb x_Nb xM51 := x_main xT51 [(11, ([(0, xR false [6]), (1, xR false [2]), (2, xF), (3, xF), (4, xI 0 10)], [], [(0, 0, 1, xR false [32])]), (4, true), [], false, 0, []), (26, ([(0, xR false [6]), (1, xR false [2]), (2, xF), (3, xF), (4, xI 0 9), (5, xI 1 10)], [], [(1, 2, 0, xI 1 10), (0, 0, 1, xR false [32])]), (5, true), [4], false, 1, [])] [] 2500 (by decide +kernel) (by decide +kernel) xk51 (by decide +kernel)
/-- TwinFires.lookNow()V -/
def xM52 : xM := (⟨"TwinFires", "lookNow", "()V"⟩, prog_1_method_48_code, 1, none, [xR false [0]], [([xR false [0]], none)], [(10, 0), (10, 1), (10, 2), (10, 3), (10, 4), (10, 5), (10, 6), (10, 7), (32, 0), (33, 0), (34, 0)], (5, 118, 0, 0), none)
def xT52 : xTab := ([(12, 0, 0), (33, 0, 4), (95, 2, 10)], [], [], [], [], [], [], [(0, 200, 3, some 6, xM49), (0, 204, 4, some 6, xM51)], [], [], [])
set_option maxRecDepth 100000 in
set_option maxHeartbeats 4000000 in
theorem xk52 : x_TOK vwCl x_G x_Zs x_Tb x_Nb xM52 xT52 := by
  intro p l e s m args below meth c D U hx hb hml hts hown hK hK0 hU hnm hN
  have X : x_cx p s m args c D U xM52.2.1 xM52.2.2.1 vwCl x_Tb x_Nb xM52.1.cls := ⟨hx, hb, hml, hown, hts, hK, hK0, hU, hN, x_Tb_good, x_Nb_ok⟩
  exact ⟨(x_cons (fl8 hts) (x_cons (fl102 hts) (x_cons (fl58 hts) x_nilm))), x_nilm, x_nilm, x_nilm, x_nilm, x_nilm, x_nilm, (x_cons (x_cokV (ci := 0) X xm49 rfl rfl rfl (x_cons (x_at 544 (by decide +kernel) rfl) (x_cons (x_at 545 (by decide +kernel) rfl) (x_cons (x_at 546 (by decide +kernel) rfl) (x_cons (x_at 70 (by decide +kernel) rfl) x_nilm)))) (x_at 547 (by decide +kernel) rfl) (by decide +kernel) ⟨Nat.le_of_ble_eq_true rfl, Nat.le_of_ble_eq_true rfl⟩) (x_cons (x_cokV (ci := 0) X xm51 rfl rfl rfl (x_cons (x_at 587 (by decide +kernel) rfl) (x_cons (x_at 588 (by decide +kernel) rfl) (x_cons (x_at 589 (by decide +kernel) rfl) (x_cons (x_at 70 (by decide +kernel) rfl) x_nilm)))) (x_at 590 (by decide +kernel) rfl) (by decide +kernel) ⟨Nat.le_of_ble_eq_true rfl, Nat.le_of_ble_eq_true rfl⟩) x_nilm)), x_nilm, x_nilm, x_nilm⟩
set_option maxRecDepth 1000000 in
theorem xm52 : x_Met vwCl x_G x_Zs x_Tb x_Nb xM52 := x_main xT52 [] [] 2500 (by decide +kernel) (by decide +kernel) xk52 (by decide +kernel)
/-- TwinFires.sight(II)I -/
def xM53 : xM := (⟨"TwinFires", "sight", "(II)I"⟩, prog_1_method_8_code, 3, some .int, [xR false [0], xF, xF], [([xR false [0], xF, xF], some (xF))], [(10, 0), (10, 1), (10, 2), (10, 3), (10, 4), (10, 5), (10, 6), (10, 7), (32, 0), (33, 0), (34, 0), (42, 0)], (6, 138, 0, 0), none)
def xT53 : xTab := ([(12, 0, 0), (33, 0, 4), (107, 6, 1)], [], [], [], [], [], [], [(0, 59, 2, some 0, xM8), (0, 101, 2, some 2, xM40), (0, 104, 1, some 0, xM52)], [], [], [])
set_option maxRecDepth 100000 in
set_option maxHeartbeats 4000000 in
theorem xk53 : x_TOK vwCl x_G x_Zs x_Tb x_Nb xM53 xT53 := by
  intro p l e s m args below meth c D U hx hb hml hts hown hK hK0 hU hnm hN
  have X : x_cx p s m args c D U xM53.2.1 xM53.2.2.1 vwCl x_Tb x_Nb xM53.1.cls := ⟨hx, hb, hml, hown, hts, hK, hK0, hU, hN, x_Tb_good, x_Nb_ok⟩
  exact ⟨(x_cons (fl8 hts) (x_cons (fl102 hts) (x_cons (fl103 hts) x_nilm))), x_nilm, x_nilm, x_nilm, x_nilm, x_nilm, x_nilm, (x_cons (x_cokV (ci := 11) X xm8 rfl rfl rfl (x_cons (x_at 375 (by decide +kernel) rfl) (x_cons (x_at 377 (by decide +kernel) rfl) (x_cons (x_at 1 (by decide +kernel) rfl) (x_cons (x_at 65 (by decide +kernel) rfl) x_nilm)))) (x_at 378 (by decide +kernel) rfl) (by decide +kernel) ⟨Nat.le_of_ble_eq_true rfl, Nat.le_of_ble_eq_true rfl⟩) (x_cons (x_cokV (ci := 2) X xm40 rfl rfl rfl (x_cons (x_at 536 (by decide +kernel) rfl) (x_cons (x_at 537 (by decide +kernel) rfl) (x_cons (x_at 538 (by decide +kernel) rfl) (x_cons (x_at 66 (by decide +kernel) rfl) x_nilm)))) (x_at 539 (by decide +kernel) rfl) (by decide +kernel) ⟨Nat.le_of_ble_eq_true rfl, Nat.le_of_ble_eq_true rfl⟩) (x_cons (x_cokV (ci := 11) X xm52 rfl rfl rfl (x_cons (x_at 540 (by decide +kernel) rfl) (x_cons (x_at 542 (by decide +kernel) rfl) (x_cons (x_at 3 (by decide +kernel) rfl) (x_cons (x_at 65 (by decide +kernel) rfl) x_nilm)))) (x_at 543 (by decide +kernel) rfl) (by decide +kernel) ⟨Nat.le_of_ble_eq_true rfl, Nat.le_of_ble_eq_true rfl⟩) x_nilm))), x_nilm, x_nilm, x_nilm⟩
set_option maxRecDepth 1000000 in
theorem xm53 : x_Met vwCl x_G x_Zs x_Tb x_Nb xM53 := x_main xT53 [] [] 2500 (by decide +kernel) (by decide +kernel) xk53 (by decide +kernel)
/-- TwinFires.setFraction(JJ)V -/
def xM54 : xM := (⟨"TwinFires", "setFraction", "(JJ)V"⟩, prog_1_method_57_code, 12, none, [xR false [0], xFL, xFL], [([xR false [0], xFL, xFL], none)], [(0, 7), (0, 8)], (1, 22, 0, 0), none)
def xT54 : xTab := ([], [(48, 0, 7), (52, 0, 8)], [], [], [], [], [], [(1, 333, 1, none, (xMm1L Lib.MathLoose.abs_long.x prog_16_method_61_code))], [], [], [])
set_option maxRecDepth 100000 in
set_option maxHeartbeats 4000000 in
theorem xk54 : x_TOK vwCl x_G x_Zs x_Tb x_Nb xM54 xT54 := by
  intro p l e s m args below meth c D U hx hb hml hts hown hK hK0 hU hnm hN
  have X : x_cx p s m args c D U xM54.2.1 xM54.2.2.1 vwCl x_Tb x_Nb xM54.1.cls := ⟨hx, hb, hml, hown, hts, hK, hK0, hU, hN, x_Tb_good, x_Nb_ok⟩
  exact ⟨x_nilm, (x_cons (fw104 hts) (x_cons (fw105 hts) x_nilm)), x_nilm, x_nilm, x_nilm, x_nilm, x_nilm, (x_cons (x_cokAbsL X (by decide +kernel) (x_cons (x_at 603 (by decide +kernel) rfl) (x_cons (x_at 604 (by decide +kernel) rfl) (x_cons (x_at 79 (by decide +kernel) rfl) (x_cons (x_at 605 (by decide +kernel) rfl) x_nilm)))) ⟨Nat.le_of_ble_eq_true rfl, Nat.le_of_ble_eq_true rfl⟩) x_nilm), x_nilm, x_nilm, x_nilm⟩
set_option maxRecDepth 1000000 in
theorem xm54 : x_Met vwCl x_G x_Zs x_Tb x_Nb xM54 := x_main xT54 [(12, ([(0, xR false [0]), (1, xFL), (3, xFL), (5, xFL), (7, xFL), (9, xI 0 200)], [], []), (5, true), [], false, 0, [])] [] 2500 (by decide +kernel) (by decide +kernel) xk54 (by decide +kernel)
/-- TwinFires.clear(III)I -/
def xM55 : xM := (⟨"TwinFires", "clear", "(III)I"⟩, prog_1_method_9_code, 6, some .int, [xR false [0], xF, xF, xF], [([xR false [0], xF, xF, xF], some (xF))], [(0, 7), (0, 8), (10, 0), (10, 1), (10, 2), (10, 3), (10, 4), (10, 5), (10, 6), (10, 7), (42, 0)], (4, 88, 0, 0), none)
def xT55 : xTab := ([(12, 0, 0), (33, 0, 4), (75, 2, 7), (95, 2, 10), (110, 6, 0), (120, 11, 1), (120, 12, 1), (120, 13, 1), (120, 14, 1), (120, 15, 1), (120, 16, 1), (124, 11, 2), (124, 12, 2), (124, 13, 2), (124, 14, 2), (124, 15, 2), (124, 16, 2), (134, 10, 7)], [], [], [], [], [], [], [(0, 59, 2, some 0, xM8), (0, 71, 2, some 2, xM25), (0, 98, 3, some 2, xM38), (0, 101, 2, some 2, xM40), (0, 114, 4, some 10, xM41), (0, 127, 3, some 10, xM43), (0, 131, 4, some 10, xM45), (0, 137, 3, some 0, xM54)], [], [], [])
set_option maxRecDepth 100000 in
set_option maxHeartbeats 4000000 in
theorem xk55 : x_TOK vwCl x_G x_Zs x_Tb x_Nb xM55 xT55 := by
  intro p l e s m args below meth c D U hx hb hml hts hown hK hK0 hU hnm hN
  have X : x_cx p s m args c D U xM55.2.1 xM55.2.2.1 vwCl x_Tb x_Nb xM55.1.cls := ⟨hx, hb, hml, hown, hts, hK, hK0, hU, hN, x_Tb_good, x_Nb_ok⟩
  exact ⟨(x_cons (fl8 hts) (x_cons (fl102 hts) (x_cons (fl45 hts) (x_cons (fl58 hts) (x_cons (fl106 hts) (x_cons (fl107 hts) (x_cons (fl108 hts) (x_cons (fl109 hts) (x_cons (fl110 hts) (x_cons (fl111 hts) (x_cons (fl112 hts) (x_cons (fl113 hts) (x_cons (fl114 hts) (x_cons (fl115 hts) (x_cons (fl116 hts) (x_cons (fl117 hts) (x_cons (fl118 hts) (x_cons (fl119 hts) x_nilm)))))))))))))))))), x_nilm, x_nilm, x_nilm, x_nilm, x_nilm, x_nilm, (x_cons (x_cokV (ci := 11) X xm8 rfl rfl rfl (x_cons (x_at 375 (by decide +kernel) rfl) (x_cons (x_at 377 (by decide +kernel) rfl) (x_cons (x_at 1 (by decide +kernel) rfl) (x_cons (x_at 65 (by decide +kernel) rfl) x_nilm)))) (x_at 378 (by decide +kernel) rfl) (by decide +kernel) ⟨Nat.le_of_ble_eq_true rfl, Nat.le_of_ble_eq_true rfl⟩) (x_cons (x_cokV (ci := 2) X xm25 rfl rfl rfl (x_cons (x_at 468 (by decide +kernel) rfl) (x_cons (x_at 469 (by decide +kernel) rfl) (x_cons (x_at 470 (by decide +kernel) rfl) (x_cons (x_at 66 (by decide +kernel) rfl) x_nilm)))) (x_at 471 (by decide +kernel) rfl) (by decide +kernel) ⟨Nat.le_of_ble_eq_true rfl, Nat.le_of_ble_eq_true rfl⟩) (x_cons (x_cokV (ci := 2) X xm38 rfl rfl rfl (x_cons (x_at 494 (by decide +kernel) rfl) (x_cons (x_at 495 (by decide +kernel) rfl) (x_cons (x_at 496 (by decide +kernel) rfl) (x_cons (x_at 66 (by decide +kernel) rfl) x_nilm)))) (x_at 497 (by decide +kernel) rfl) (by decide +kernel) ⟨Nat.le_of_ble_eq_true rfl, Nat.le_of_ble_eq_true rfl⟩) (x_cons (x_cokV (ci := 2) X xm40 rfl rfl rfl (x_cons (x_at 536 (by decide +kernel) rfl) (x_cons (x_at 537 (by decide +kernel) rfl) (x_cons (x_at 538 (by decide +kernel) rfl) (x_cons (x_at 66 (by decide +kernel) rfl) x_nilm)))) (x_at 539 (by decide +kernel) rfl) (by decide +kernel) ⟨Nat.le_of_ble_eq_true rfl, Nat.le_of_ble_eq_true rfl⟩) (x_cons (x_cokV (ci := 3) X xm41 rfl rfl rfl (x_cons (x_at 596 (by decide +kernel) rfl) (x_cons (x_at 549 (by decide +kernel) rfl) (x_cons (x_at 550 (by decide +kernel) rfl) (x_cons (x_at 71 (by decide +kernel) rfl) x_nilm)))) (x_at 551 (by decide +kernel) rfl) (by decide +kernel) ⟨Nat.le_of_ble_eq_true rfl, Nat.le_of_ble_eq_true rfl⟩) (x_cons (x_cokV (ci := 3) X xm43 rfl rfl rfl (x_cons (x_at 597 (by decide +kernel) rfl) (x_cons (x_at 567 (by decide +kernel) rfl) (x_cons (x_at 568 (by decide +kernel) rfl) (x_cons (x_at 71 (by decide +kernel) rfl) x_nilm)))) (x_at 569 (by decide +kernel) rfl) (by decide +kernel) ⟨Nat.le_of_ble_eq_true rfl, Nat.le_of_ble_eq_true rfl⟩) (x_cons (x_cokV (ci := 3) X xm45 rfl rfl rfl (x_cons (x_at 598 (by decide +kernel) rfl) (x_cons (x_at 579 (by decide +kernel) rfl) (x_cons (x_at 580 (by decide +kernel) rfl) (x_cons (x_at 71 (by decide +kernel) rfl) x_nilm)))) (x_at 581 (by decide +kernel) rfl) (by decide +kernel) ⟨Nat.le_of_ble_eq_true rfl, Nat.le_of_ble_eq_true rfl⟩) (x_cons (x_cokV (ci := 11) X xm54 rfl rfl rfl (x_cons (x_at 599 (by decide +kernel) rfl) (x_cons (x_at 601 (by decide +kernel) rfl) (x_cons (x_at 7 (by decide +kernel) rfl) (x_cons (x_at 65 (by decide +kernel) rfl) x_nilm)))) (x_at 602 (by decide +kernel) rfl) (by decide +kernel) ⟨Nat.le_of_ble_eq_true rfl, Nat.le_of_ble_eq_true rfl⟩) x_nilm)))))))), x_nilm, x_nilm, x_nilm⟩
set_option maxRecDepth 1000000 in
theorem xm55 : x_Met vwCl x_G x_Zs x_Tb x_Nb xM55 := x_main xT55 [] [] 2500 (by decide +kernel) (by decide +kernel) xk55 (by decide +kernel)
/-- TwinFires.isWithin(III)Z -/
def xM56 : xM := (⟨"TwinFires", "isWithin", "(III)Z"⟩, prog_1_method_43_code, 3, some .boolean, [xF, xI 1 1, xI 8 8], [([xI 1 8, xI 1 1, xI 8 8], some (xI 1 1)), ([xF, xI 1 1, xI 8 8], some (xI 0 0))], [], (0, 0, 0, 0), none)
def xT56 : xTab := ([], [], [], [], [], [], [], [], [], [], [])
set_option maxRecDepth 100000 in
set_option maxHeartbeats 4000000 in
theorem xk56 : x_TOK vwCl x_G x_Zs x_Tb x_Nb xM56 xT56 := by
  intro p l e s m args below meth c D U hx hb hml hts hown hK hK0 hU hnm hN
  have X : x_cx p s m args c D U xM56.2.1 xM56.2.2.1 vwCl x_Tb x_Nb xM56.1.cls := ⟨hx, hb, hml, hown, hts, hK, hK0, hU, hN, x_Tb_good, x_Nb_ok⟩
  exact ⟨x_nilm, x_nilm, x_nilm, x_nilm, x_nilm, x_nilm, x_nilm, x_nilm, x_nilm, x_nilm, x_nilm⟩
set_option maxRecDepth 1000000 in
theorem xm56 : x_Met vwCl x_G x_Zs x_Tb x_Nb xM56 := x_main xT56 [] [] 2500 (by decide +kernel) (by decide +kernel) xk56 (by decide +kernel)
/-- TwinFires.clearText()I -/
def xM57 : xM := (⟨"TwinFires", "clearText", "()I"⟩, prog_1_method_11_code, 2, some .int, [xR false [0]], [([xR false [0]], some (xI 0 240))], [(4, 2)], (0, 0, 0, 0), none)
def xT57 : xTab := ([(26, 0, 3), (145, 4, 2)], [(145, 4, 2)], [], [], [], [], [], [], [], [], [])
set_option maxRecDepth 100000 in
set_option maxHeartbeats 4000000 in
theorem xk57 : x_TOK vwCl x_G x_Zs x_Tb x_Nb xM57 xT57 := by
  intro p l e s m args below meth c D U hx hb hml hts hown hK hK0 hU hnm hN
  have X : x_cx p s m args c D U xM57.2.1 xM57.2.2.1 vwCl x_Tb x_Nb xM57.1.cls := ⟨hx, hb, hml, hown, hts, hK, hK0, hU, hN, x_Tb_good, x_Nb_ok⟩
  exact ⟨(x_cons (fl120 hts) (x_cons (fl121 hts) x_nilm)), (x_cons (fw122 hts) x_nilm), x_nilm, x_nilm, x_nilm, x_nilm, x_nilm, x_nilm, x_nilm, x_nilm, x_nilm⟩
set_option maxRecDepth 1000000 in
theorem xm57 : x_Met vwCl x_G x_Zs x_Tb x_Nb xM57 := x_main xT57 [] [] 2500 (by decide +kernel) (by decide +kernel) xk57 (by decide +kernel)
/-- TwinFires$Land.copyFrom(LTwinFires$Land;)V -/
def xM58 : xM := (⟨"TwinFires$Land", "copyFrom", "(LTwinFires$Land;)V"⟩, prog_4_method_2_code, 3, none, [xR false [2], xR false [2]], [([xR false [2], xR false [2]], none)], [(2, 0), (2, 6), (2, 12), (19, 0), (20, 0), (21, 0), (22, 0), (23, 0), (24, 0), (25, 0), (26, 0), (27, 0), (28, 0), (29, 0), (30, 0), (31, 0)], (1, 26, 0, 0), none)
def xT58 : xTab := ([(9, 2, 1), (15, 2, 2), (18, 2, 3), (21, 2, 4), (24, 2, 5), (29, 2, 7), (33, 2, 8), (36, 2, 9), (39, 2, 10), (42, 2, 11), (45, 2, 13), (48, 2, 14), (51, 2, 15), (63, 2, 0), (73, 2, 6), (76, 2, 12)], [(63, 2, 0), (73, 2, 6), (76, 2, 12)], [], [], [], [], [], [], [], [(24, 11), (24, 12), (24, 13), (24, 14), (24, 15), (24, 16)], [(67, 0)])
set_option maxRecDepth 100000 in
set_option maxHeartbeats 4000000 in
theorem xk58 : x_TOK vwCl x_G x_Zs x_Tb x_Nb xM58 xT58 := by
  intro p l e s m args below meth c D U hx hb hml hts hown hK hK0 hU hnm hN
  have X : x_cx p s m args c D U xM58.2.1 xM58.2.2.1 vwCl x_Tb x_Nb xM58.1.cls := ⟨hx, hb, hml, hown, hts, hK, hK0, hU, hN, x_Tb_good, x_Nb_ok⟩
  exact ⟨(x_cons (fl0 hts) (x_cons (fl1 hts) (x_cons (fl3 hts) (x_cons (fl4 hts) (x_cons (fl5 hts) (x_cons (fl39 hts) (x_cons (fl40 hts) (x_cons (fl41 hts) (x_cons (fl44 hts) (x_cons (fl123 hts) (x_cons (fl124 hts) (x_cons (fl125 hts) (x_cons (fl126 hts) (x_cons (fl2 hts) (x_cons (fl42 hts) (x_cons (fl127 hts) x_nilm)))))))))))))))), (x_cons (fw6 hts) (x_cons (fw43 hts) (x_cons (fw128 hts) x_nilm))), x_nilm, x_nilm, x_nilm, x_nilm, x_nilm, x_nilm, x_nilm, (x_cons ⟨_, _, _, "TwinFires$Stone", 6, _, _, rfl, rfl, rfl, x_castSelf (hK.1 6 _ rfl).2⟩ (x_cons ⟨_, _, _, "TwinFires$Stone", 10, _, _, rfl, rfl, rfl, hN _ (x_nt 1491 (by decide +kernel) rfl)⟩ (x_cons ⟨_, _, _, "TwinFires$Stone", 4, _, _, rfl, rfl, rfl, hN _ (x_nt 1492 (by decide +kernel) rfl)⟩ (x_cons ⟨_, _, _, "TwinFires$Stone", 1, _, _, rfl, rfl, rfl, hN _ (x_nt 1493 (by decide +kernel) rfl)⟩ (x_cons ⟨_, _, _, "TwinFires$Stone", 8, _, _, rfl, rfl, rfl, hN _ (x_nt 1494 (by decide +kernel) rfl)⟩ (x_cons ⟨_, _, _, "TwinFires$Stone", 9, _, _, rfl, rfl, rfl, hN _ (x_nt 1495 (by decide +kernel) rfl)⟩ x_nilm)))))), (x_cons ⟨(hts _ (x_at 627 (by decide +kernel) rfl)), (hts _ (x_at 629 (by decide +kernel) rfl)), (hts _ (x_at 628 (by decide +kernel) rfl)), (hts _ (x_at 80 (by decide +kernel) rfl)), Nat.le_of_ble_eq_true rfl, by decide⟩ x_nilm)⟩
set_option maxRecDepth 1000000 in
theorem xm58 : x_Met vwCl x_G x_Zs x_Tb x_Nb xM58 := x_main xT58 [(93, ([(0, xR false [2]), (1, xR false [2]), (2, xI 0 8)], [], [(0, 2, 6, xI 0 8), (0, 2, 5, xR false [23]), (0, 2, 4, xR false [22]), (0, 2, 3, xR false [21]), (0, 2, 2, xR false [20]), (0, 2, 1, xR false [19]), (0, 2, 0, xI 0 10)]), (2, true), [], false, 0, [])] [] 2500 (by decide +kernel) (by decide +kernel) xk58 (by decide +kernel)
/-- TwinFires$Land.forget()V -/
def xM59 : xM := (⟨"TwinFires$Land", "forget", "()V"⟩, prog_4_method_3_code, 1, none, [xR false [2]], [([xR false [2]], none)], [(2, 0), (2, 6), (27, 0)], (0, 0, 0, 0), none)
def xT59 : xTab := ([(39, 2, 10)], [(63, 2, 0), (73, 2, 6)], [], [], [], [], [], [], [], [], [])
set_option maxRecDepth 100000 in
set_option maxHeartbeats 4000000 in
theorem xk59 : x_TOK vwCl x_G x_Zs x_Tb x_Nb xM59 xT59 := by
  intro p l e s m args below meth c D U hx hb hml hts hown hK hK0 hU hnm hN
  have X : x_cx p s m args c D U xM59.2.1 xM59.2.2.1 vwCl x_Tb x_Nb xM59.1.cls := ⟨hx, hb, hml, hown, hts, hK, hK0, hU, hN, x_Tb_good, x_Nb_ok⟩
  exact ⟨(x_cons (fl44 hts) x_nilm), (x_cons (fw6 hts) (x_cons (fw43 hts) x_nilm)), x_nilm, x_nilm, x_nilm, x_nilm, x_nilm, x_nilm, x_nilm, x_nilm, x_nilm⟩
set_option maxRecDepth 1000000 in
theorem xm59 : x_Met vwCl x_G x_Zs x_Tb x_Nb xM59 := x_main xT59 [] [] 2500 (by decide +kernel) (by decide +kernel) xk59 (by decide +kernel)
/-- TwinFires$Text.rewind()V -/
def xM60 : xM := (⟨"TwinFires$Text", "rewind", "()V"⟩, prog_9_method_3_code, 1, none, [xR false [4]], [([xR false [4]], none)], [(4, 4)], (0, 0, 0, 0), none)
def xT60 : xTab := ([], [(26, 4, 4)], [], [], [], [], [], [], [], [], [])
set_option maxRecDepth 100000 in
set_option maxHeartbeats 4000000 in
theorem xk60 : x_TOK vwCl x_G x_Zs x_Tb x_Nb xM60 xT60 := by
  intro p l e s m args below meth c D U hx hb hml hts hown hK hK0 hU hnm hN
  have X : x_cx p s m args c D U xM60.2.1 xM60.2.2.1 vwCl x_Tb x_Nb xM60.1.cls := ⟨hx, hb, hml, hown, hts, hK, hK0, hU, hN, x_Tb_good, x_Nb_ok⟩
  exact ⟨x_nilm, (x_cons (fw129 hts) x_nilm), x_nilm, x_nilm, x_nilm, x_nilm, x_nilm, x_nilm, x_nilm, x_nilm, x_nilm⟩
set_option maxRecDepth 1000000 in
theorem xm60 : x_Met vwCl x_G x_Zs x_Tb x_Nb xM60 := x_main xT60 [] [] 2500 (by decide +kernel) (by decide +kernel) xk60 (by decide +kernel)
end
section
/-- TwinFires.isWithin(III)Z -/
def xM61 : xM := (⟨"TwinFires", "isWithin", "(III)Z"⟩, prog_1_method_43_code, 3, some .boolean, [xF, xI 97 97, xI 122 122], [([xI 97 122, xI 97 97, xI 122 122], some (xI 1 1)), ([xF, xI 97 97, xI 122 122], some (xI 0 0))], [], (0, 0, 0, 0), none)
def xT61 : xTab := ([], [], [], [], [], [], [], [], [], [], [])
set_option maxRecDepth 100000 in
set_option maxHeartbeats 4000000 in
theorem xk61 : x_TOK vwCl x_G x_Zs x_Tb x_Nb xM61 xT61 := by
  intro p l e s m args below meth c D U hx hb hml hts hown hK hK0 hU hnm hN
  have X : x_cx p s m args c D U xM61.2.1 xM61.2.2.1 vwCl x_Tb x_Nb xM61.1.cls := ⟨hx, hb, hml, hown, hts, hK, hK0, hU, hN, x_Tb_good, x_Nb_ok⟩
  exact ⟨x_nilm, x_nilm, x_nilm, x_nilm, x_nilm, x_nilm, x_nilm, x_nilm, x_nilm, x_nilm, x_nilm⟩
set_option maxRecDepth 1000000 in
theorem xm61 : x_Met vwCl x_G x_Zs x_Tb x_Nb xM61 := x_main xT61 [] [] 2500 (by decide +kernel) (by decide +kernel) xk61 (by decide +kernel)
/-- TwinFires.isWithin(III)Z -/
def xM62 : xM := (⟨"TwinFires", "isWithin", "(III)Z"⟩, prog_1_method_43_code, 3, some .boolean, [xF, xI 48 48, xI 57 57], [([xI 48 57, xI 48 48, xI 57 57], some (xI 1 1)), ([xF, xI 48 48, xI 57 57], some (xI 0 0))], [], (0, 0, 0, 0), none)
def xT62 : xTab := ([], [], [], [], [], [], [], [], [], [], [])
set_option maxRecDepth 100000 in
set_option maxHeartbeats 4000000 in
theorem xk62 : x_TOK vwCl x_G x_Zs x_Tb x_Nb xM62 xT62 := by
  intro p l e s m args below meth c D U hx hb hml hts hown hK hK0 hU hnm hN
  have X : x_cx p s m args c D U xM62.2.1 xM62.2.2.1 vwCl x_Tb x_Nb xM62.1.cls := ⟨hx, hb, hml, hown, hts, hK, hK0, hU, hN, x_Tb_good, x_Nb_ok⟩
  exact ⟨x_nilm, x_nilm, x_nilm, x_nilm, x_nilm, x_nilm, x_nilm, x_nilm, x_nilm, x_nilm, x_nilm⟩
set_option maxRecDepth 1000000 in
theorem xm62 : x_Met vwCl x_G x_Zs x_Tb x_Nb xM62 := x_main xT62 [] [] 2500 (by decide +kernel) (by decide +kernel) xk62 (by decide +kernel)
/-- TwinFires$Text.passAll(II)V -/
def xM63 : xM := (⟨"TwinFires$Text", "passAll", "(II)V"⟩, prog_9_method_6_code, 3, none, [xR false [4], xF, xF], [([xR false [4], xF, xF], none)], [(4, 4)], (1, 22, 0, 0), none)
def xT63 : xTab := ([(9, 4, 0), (22, 4, 2), (26, 4, 4)], [(26, 4, 4)], [], [], [], [], [], [(1, 18, 3, none, xM10)], [], [], [])
set_option maxRecDepth 100000 in
set_option maxHeartbeats 4000000 in
theorem xk63 : x_TOK vwCl x_G x_Zs x_Tb x_Nb xM63 xT63 := by
  intro p l e s m args below meth c D U hx hb hml hts hown hK hK0 hU hnm hN
  have X : x_cx p s m args c D U xM63.2.1 xM63.2.2.1 vwCl x_Tb x_Nb xM63.1.cls := ⟨hx, hb, hml, hown, hts, hK, hK0, hU, hN, x_Tb_good, x_Nb_ok⟩
  exact ⟨(x_cons (fl130 hts) (x_cons (fl131 hts) (x_cons (fl132 hts) x_nilm))), (x_cons (fw129 hts) x_nilm), x_nilm, x_nilm, x_nilm, x_nilm, x_nilm, (x_cons (x_cokSN (host := "TwinFires") X xm10 (x_cons (x_at 369 (by decide +kernel) rfl) (x_cons (x_at 65 (by decide +kernel) rfl) x_nilm)) (x_nt 614 (by decide +kernel) rfl) (x_at 370 (by decide +kernel) rfl) (by decide +kernel) ⟨Nat.le_of_ble_eq_true rfl, Nat.le_of_ble_eq_true rfl⟩) x_nilm), x_nilm, x_nilm, x_nilm⟩
set_option maxRecDepth 1000000 in
theorem xm63 : x_Met vwCl x_G x_Zs x_Tb x_Nb xM63 := x_main xT63 [(0, ([(0, xR false [4]), (1, xF), (2, xF)], [], [(0, 7, 4, xI 0 240)]), (3, true), [], false, 0, [(0, 4)])] [] 2500 (by decide +kernel) (by decide +kernel) xk63 (by decide +kernel)
/-- TwinFires$Text.nextToken()I -/
def xM64 : xM := (⟨"TwinFires$Text", "nextToken", "()I"⟩, prog_9_method_5_code, 2, some .int, [xR false [4]], [([xR false [4]], some (xI 0 4))], [(4, 3), (4, 4)], (2, 44, 0, 0), none)
def xT64 : xTab := ([(9, 4, 0), (22, 4, 2), (26, 4, 4), (36, 4, 3)], [(26, 4, 4), (36, 4, 3)], [], [], [], [], [], [(1, 18, 3, none, xM61), (1, 18, 3, none, xM62), (0, 51, 3, some 4, xM63)], [], [], [])
set_option maxRecDepth 100000 in
set_option maxHeartbeats 4000000 in
theorem xk64 : x_TOK vwCl x_G x_Zs x_Tb x_Nb xM64 xT64 := by
  intro p l e s m args below meth c D U hx hb hml hts hown hK hK0 hU hnm hN
  have X : x_cx p s m args c D U xM64.2.1 xM64.2.2.1 vwCl x_Tb x_Nb xM64.1.cls := ⟨hx, hb, hml, hown, hts, hK, hK0, hU, hN, x_Tb_good, x_Nb_ok⟩
  exact ⟨(x_cons (fl130 hts) (x_cons (fl131 hts) (x_cons (fl132 hts) (x_cons (fl133 hts) x_nilm)))), (x_cons (fw129 hts) (x_cons (fw134 hts) x_nilm)), x_nilm, x_nilm, x_nilm, x_nilm, x_nilm, (x_cons (x_cokSN (host := "TwinFires") X xm61 (x_cons (x_at 369 (by decide +kernel) rfl) (x_cons (x_at 65 (by decide +kernel) rfl) x_nilm)) (x_nt 614 (by decide +kernel) rfl) (x_at 370 (by decide +kernel) rfl) (by decide +kernel) ⟨Nat.le_of_ble_eq_true rfl, Nat.le_of_ble_eq_true rfl⟩) (x_cons (x_cokSN (host := "TwinFires") X xm62 (x_cons (x_at 369 (by decide +kernel) rfl) (x_cons (x_at 65 (by decide +kernel) rfl) x_nilm)) (x_nt 614 (by decide +kernel) rfl) (x_at 370 (by decide +kernel) rfl) (by decide +kernel) ⟨Nat.le_of_ble_eq_true rfl, Nat.le_of_ble_eq_true rfl⟩) (x_cons (x_cokV (ci := 7) X xm63 rfl rfl rfl (x_cons (x_at 646 (by decide +kernel) rfl) (x_cons (x_at 648 (by decide +kernel) rfl) (x_cons (x_at 9 (by decide +kernel) rfl) (x_cons (x_at 69 (by decide +kernel) rfl) x_nilm)))) (x_at 649 (by decide +kernel) rfl) (by decide +kernel) ⟨Nat.le_of_ble_eq_true rfl, Nat.le_of_ble_eq_true rfl⟩) x_nilm))), x_nilm, x_nilm, x_nilm⟩
set_option maxRecDepth 1000000 in
theorem xm64 : x_Met vwCl x_G x_Zs x_Tb x_Nb xM64 := x_main xT64 [(8, ([(0, xR false [4])], [], [(0, 7, 3, xI 0 240), (0, 7, 4, xI 0 240)]), (1, true), [], false, 0, [(0, 3)])] [] 2500 (by decide +kernel) (by decide +kernel) xk64 (by decide +kernel)
/-- TwinFires$Text.numberHere()I -/
def xM65 : xM := (⟨"TwinFires$Text", "numberHere", "()I"⟩, prog_9_method_7_code, 3, some .int, [xR false [4]], [([xR false [4]], some (xF))], [], (0, 0, 0, 0), none)
def xT65 : xTab := ([(9, 4, 0), (26, 4, 4), (36, 4, 3)], [], [], [], [], [], [], [], [], [], [])
set_option maxRecDepth 100000 in
set_option maxHeartbeats 4000000 in
theorem xk65 : x_TOK vwCl x_G x_Zs x_Tb x_Nb xM65 xT65 := by
  intro p l e s m args below meth c D U hx hb hml hts hown hK hK0 hU hnm hN
  have X : x_cx p s m args c D U xM65.2.1 xM65.2.2.1 vwCl x_Tb x_Nb xM65.1.cls := ⟨hx, hb, hml, hown, hts, hK, hK0, hU, hN, x_Tb_good, x_Nb_ok⟩
  exact ⟨(x_cons (fl130 hts) (x_cons (fl132 hts) (x_cons (fl133 hts) x_nilm))), x_nilm, x_nilm, x_nilm, x_nilm, x_nilm, x_nilm, x_nilm, x_nilm, x_nilm, x_nilm⟩
set_option maxRecDepth 1000000 in
theorem xm65 : x_Met vwCl x_G x_Zs x_Tb x_Nb xM65 := x_main xT65 [(7, ([(0, xR false [4]), (1, xF), (2, xI 0 240)], [], [(0, 7, 3, xI 0 240)]), (2, true), [], false, 0, [])] [] 2500 (by decide +kernel) (by decide +kernel) xk65 (by decide +kernel)
/-- TwinFires$Land.tellItem(I[I)I -/
def xM66 : xM := (⟨"TwinFires$Land", "tellItem", "(I[I)I"⟩, prog_4_method_12_code, 3, some .int, [xR false [2], xF, xR false [40]], [([xR false [2], xF, xR false [40]], some (xF))], [(2, 0), (2, 6), (11, 0), (11, 1), (11, 2), (11, 3), (11, 4), (12, 0), (12, 1), (12, 2), (12, 3), (12, 4), (13, 0), (13, 1), (13, 2), (13, 3), (13, 4), (14, 0), (14, 1), (14, 2), (14, 3), (14, 4), (15, 0), (15, 1), (15, 2), (15, 3), (15, 4), (16, 0), (16, 1), (16, 2), (16, 3), (16, 4), (19, 0), (20, 0), (21, 0), (22, 0), (23, 0), (24, 0), (25, 0), (26, 0), (27, 0)], (6, 146, 1, 5), none)
def xT66 : xTab := ([], [], [], [], [], [], [], [(0, 111, 4, some 2, xM5), (0, 117, 6, some 2, xM20), (0, 121, 3, some 2, xM23)], [], [], [])
set_option maxRecDepth 100000 in
set_option maxHeartbeats 4000000 in
theorem xk66 : x_TOK vwCl x_G x_Zs x_Tb x_Nb xM66 xT66 := by
  intro p l e s m args below meth c D U hx hb hml hts hown hK hK0 hU hnm hN
  have X : x_cx p s m args c D U xM66.2.1 xM66.2.2.1 vwCl x_Tb x_Nb xM66.1.cls := ⟨hx, hb, hml, hown, hts, hK, hK0, hU, hN, x_Tb_good, x_Nb_ok⟩
  exact ⟨x_nilm, x_nilm, x_nilm, x_nilm, x_nilm, x_nilm, x_nilm, (x_cons (x_cokV (ci := 2) X xm5 rfl rfl rfl (x_cons (x_at 730 (by decide +kernel) rfl) (x_cons (x_at 362 (by decide +kernel) rfl) (x_cons (x_at 363 (by decide +kernel) rfl) (x_cons (x_at 66 (by decide +kernel) rfl) x_nilm)))) (x_at 364 (by decide +kernel) rfl) (by decide +kernel) ⟨Nat.le_of_ble_eq_true rfl, Nat.le_of_ble_eq_true rfl⟩) (x_cons (x_cokV (ci := 2) X xm20 rfl rfl rfl (x_cons (x_at 731 (by decide +kernel) rfl) (x_cons (x_at 389 (by decide +kernel) rfl) (x_cons (x_at 390 (by decide +kernel) rfl) (x_cons (x_at 66 (by decide +kernel) rfl) x_nilm)))) (x_at 391 (by decide +kernel) rfl) (by decide +kernel) ⟨Nat.le_of_ble_eq_true rfl, Nat.le_of_ble_eq_true rfl⟩) (x_cons (x_cokV (ci := 2) X xm23 rfl rfl rfl (x_cons (x_at 732 (by decide +kernel) rfl) (x_cons (x_at 457 (by decide +kernel) rfl) (x_cons (x_at 458 (by decide +kernel) rfl) (x_cons (x_at 66 (by decide +kernel) rfl) x_nilm)))) (x_at 459 (by decide +kernel) rfl) (by decide +kernel) ⟨Nat.le_of_ble_eq_true rfl, Nat.le_of_ble_eq_true rfl⟩) x_nilm))), x_nilm, x_nilm, x_nilm⟩
set_option maxRecDepth 1000000 in
theorem xm66 : x_Met vwCl x_G x_Zs x_Tb x_Nb xM66 := x_main xT66 [] [] 2500 (by decide +kernel) (by decide +kernel) xk66 (by decide +kernel)
/-- TwinFires$Land.hasSet(I)Z -/
def xM67 : xM := (⟨"TwinFires$Land", "hasSet", "(I)Z"⟩, prog_4_method_6_code, 2, some .boolean, [xR false [2], xF], [([xR false [2], xI 0 1023], some (xI 1 1)), ([xR false [2], xF], some (xI 0 0))], [], (0, 0, 0, 0), none)
def xT67 : xTab := ([(63, 2, 0)], [], [], [], [], [], [], [], [], [], [])
set_option maxRecDepth 100000 in
set_option maxHeartbeats 4000000 in
theorem xk67 : x_TOK vwCl x_G x_Zs x_Tb x_Nb xM67 xT67 := by
  intro p l e s m args below meth c D U hx hb hml hts hown hK hK0 hU hnm hN
  have X : x_cx p s m args c D U xM67.2.1 xM67.2.2.1 vwCl x_Tb x_Nb xM67.1.cls := ⟨hx, hb, hml, hown, hts, hK, hK0, hU, hN, x_Tb_good, x_Nb_ok⟩
  exact ⟨(x_cons (fl2 hts) x_nilm), x_nilm, x_nilm, x_nilm, x_nilm, x_nilm, x_nilm, x_nilm, x_nilm, x_nilm, x_nilm⟩
set_option maxRecDepth 1000000 in
theorem xm67 : x_Met vwCl x_G x_Zs x_Tb x_Nb xM67 := x_main xT67 [] [] 2500 (by decide +kernel) (by decide +kernel) xk67 (by decide +kernel)
/-- TwinFires.sees(II)I -/
def xM68 : xM := (⟨"TwinFires", "sees", "(II)I"⟩, prog_1_method_13_code, 3, some .int, [xR false [0], xF, xF], [([xR false [0], xF, xF], some (xF))], [(10, 0), (10, 1), (10, 2), (10, 3), (10, 4), (10, 5), (10, 6), (10, 7), (32, 0), (33, 0), (34, 0), (42, 0)], (6, 138, 0, 0), none)
def xT68 : xTab := ([(12, 0, 0), (33, 0, 4), (107, 6, 1)], [], [], [], [], [], [], [(0, 59, 2, some 0, xM8), (0, 101, 2, some 2, xM40), (0, 104, 1, some 0, xM52), (0, 169, 2, some 2, xM67)], [], [], [])
set_option maxRecDepth 100000 in
set_option maxHeartbeats 4000000 in
theorem xk68 : x_TOK vwCl x_G x_Zs x_Tb x_Nb xM68 xT68 := by
  intro p l e s m args below meth c D U hx hb hml hts hown hK hK0 hU hnm hN
  have X : x_cx p s m args c D U xM68.2.1 xM68.2.2.1 vwCl x_Tb x_Nb xM68.1.cls := ⟨hx, hb, hml, hown, hts, hK, hK0, hU, hN, x_Tb_good, x_Nb_ok⟩
  exact ⟨(x_cons (fl8 hts) (x_cons (fl102 hts) (x_cons (fl103 hts) x_nilm))), x_nilm, x_nilm, x_nilm, x_nilm, x_nilm, x_nilm, (x_cons (x_cokV (ci := 11) X xm8 rfl rfl rfl (x_cons (x_at 375 (by decide +kernel) rfl) (x_cons (x_at 377 (by decide +kernel) rfl) (x_cons (x_at 1 (by decide +kernel) rfl) (x_cons (x_at 65 (by decide +kernel) rfl) x_nilm)))) (x_at 378 (by decide +kernel) rfl) (by decide +kernel) ⟨Nat.le_of_ble_eq_true rfl, Nat.le_of_ble_eq_true rfl⟩) (x_cons (x_cokV (ci := 2) X xm40 rfl rfl rfl (x_cons (x_at 536 (by decide +kernel) rfl) (x_cons (x_at 537 (by decide +kernel) rfl) (x_cons (x_at 538 (by decide +kernel) rfl) (x_cons (x_at 66 (by decide +kernel) rfl) x_nilm)))) (x_at 539 (by decide +kernel) rfl) (by decide +kernel) ⟨Nat.le_of_ble_eq_true rfl, Nat.le_of_ble_eq_true rfl⟩) (x_cons (x_cokV (ci := 11) X xm52 rfl rfl rfl (x_cons (x_at 540 (by decide +kernel) rfl) (x_cons (x_at 542 (by decide +kernel) rfl) (x_cons (x_at 3 (by decide +kernel) rfl) (x_cons (x_at 65 (by decide +kernel) rfl) x_nilm)))) (x_at 543 (by decide +kernel) rfl) (by decide +kernel) ⟨Nat.le_of_ble_eq_true rfl, Nat.le_of_ble_eq_true rfl⟩) (x_cons (x_cokV (ci := 2) X xm67 rfl rfl rfl (x_cons (x_at 738 (by decide +kernel) rfl) (x_cons (x_at 739 (by decide +kernel) rfl) (x_cons (x_at 740 (by decide +kernel) rfl) (x_cons (x_at 66 (by decide +kernel) rfl) x_nilm)))) (x_at 741 (by decide +kernel) rfl) (by decide +kernel) ⟨Nat.le_of_ble_eq_true rfl, Nat.le_of_ble_eq_true rfl⟩) x_nilm)))), x_nilm, x_nilm, x_nilm⟩
set_option maxRecDepth 1000000 in
theorem xm68 : x_Met vwCl x_G x_Zs x_Tb x_Nb xM68 := x_main xT68 [] [] 2500 (by decide +kernel) (by decide +kernel) xk68 (by decide +kernel)
/-- TwinFires.isWithin(III)Z -/
def xM69 : xM := (⟨"TwinFires", "isWithin", "(III)Z"⟩, prog_1_method_43_code, 3, some .boolean, [xF, xI 0 0, xI 1 1], [([xI 0 1, xI 0 0, xI 1 1], some (xI 1 1)), ([xF, xI 0 0, xI 1 1], some (xI 0 0))], [], (0, 0, 0, 0), none)
def xT69 : xTab := ([], [], [], [], [], [], [], [], [], [], [])
set_option maxRecDepth 100000 in
set_option maxHeartbeats 4000000 in
theorem xk69 : x_TOK vwCl x_G x_Zs x_Tb x_Nb xM69 xT69 := by
  intro p l e s m args below meth c D U hx hb hml hts hown hK hK0 hU hnm hN
  have X : x_cx p s m args c D U xM69.2.1 xM69.2.2.1 vwCl x_Tb x_Nb xM69.1.cls := ⟨hx, hb, hml, hown, hts, hK, hK0, hU, hN, x_Tb_good, x_Nb_ok⟩
  exact ⟨x_nilm, x_nilm, x_nilm, x_nilm, x_nilm, x_nilm, x_nilm, x_nilm, x_nilm, x_nilm, x_nilm⟩
set_option maxRecDepth 1000000 in
theorem xm69 : x_Met vwCl x_G x_Zs x_Tb x_Nb xM69 := x_main xT69 [] [] 2500 (by decide +kernel) (by decide +kernel) xk69 (by decide +kernel)
/-- TwinFires.isIn(II)Z -/
def xM70 : xM := (⟨"TwinFires", "isIn", "(II)Z"⟩, prog_1_method_44_code, 2, some .boolean, [xF, xF], [([xF, xF], some (xI 1 1)), ([xF, xF], some (xI 0 0))], [], (0, 0, 0, 0), none)
def xT70 : xTab := ([], [], [], [], [], [], [], [], [], [], [])
set_option maxRecDepth 100000 in
set_option maxHeartbeats 4000000 in
theorem xk70 : x_TOK vwCl x_G x_Zs x_Tb x_Nb xM70 xT70 := by
  intro p l e s m args below meth c D U hx hb hml hts hown hK hK0 hU hnm hN
  have X : x_cx p s m args c D U xM70.2.1 xM70.2.2.1 vwCl x_Tb x_Nb xM70.1.cls := ⟨hx, hb, hml, hown, hts, hK, hK0, hU, hN, x_Tb_good, x_Nb_ok⟩
  exact ⟨x_nilm, x_nilm, x_nilm, x_nilm, x_nilm, x_nilm, x_nilm, x_nilm, x_nilm, x_nilm, x_nilm⟩
set_option maxRecDepth 1000000 in
theorem xm70 : x_Met vwCl x_G x_Zs x_Tb x_Nb xM70 := x_main xT70 [] [] 2500 (by decide +kernel) (by decide +kernel) xk70 (by decide +kernel)
/-- java/lang/Integer.bitCount(I)I -/
def xM71 : xM := (⟨"java/lang/Integer", "bitCount", "(I)I"⟩, prog_15_method_49_code, 1, some .int, [xF], [([xF], some (xI 0 63))], [], (0, 0, 0, 0), none)
def xT71 : xTab := ([], [], [], [], [], [(265, 1431655765), (266, 858993459), (267, 252645135)], [], [], [], [], [])
set_option maxRecDepth 100000 in
set_option maxHeartbeats 4000000 in
theorem xk71 : x_TOK vwCl x_G x_Zs x_Tb x_Nb xM71 xT71 := by
  intro p l e s m args below meth c D U hx hb hml hts hown hK hK0 hU hnm hN
  have X : x_cx p s m args c D U xM71.2.1 xM71.2.2.1 vwCl x_Tb x_Nb xM71.1.cls := ⟨hx, hb, hml, hown, hts, hK, hK0, hU, hN, x_Tb_good, x_Nb_ok⟩
  exact ⟨x_nilm, x_nilm, x_nilm, x_nilm, x_nilm, (x_cons ⟨1431655765, rfl, (hts _ (x_at 756 (by decide +kernel) rfl))⟩ (x_cons ⟨858993459, rfl, (hts _ (x_at 757 (by decide +kernel) rfl))⟩ (x_cons ⟨252645135, rfl, (hts _ (x_at 758 (by decide +kernel) rfl))⟩ x_nilm))), x_nilm, x_nilm, x_nilm, x_nilm, x_nilm⟩
set_option maxRecDepth 1000000 in
theorem xm71 : x_Met vwCl x_G x_Zs x_Tb x_Nb xM71 := x_main xT71 [] [] 2500 (by decide +kernel) (by decide +kernel) xk71 (by decide +kernel)
/-- TwinFires$Eyes.firstWrong(I)I -/
def xM72 : xM := (⟨"TwinFires$Eyes", "firstWrong", "(I)I"⟩, prog_2_method_6_code, 3, some .int, [xR false [6], xF], [([xR false [6], xF], some (xI (-1) 9))], [], (1, 21, 0, 0), none)
def xT72 : xTab := ([(18, 6, 1)], [], [], [], [], [], [], [(1, 88, 2, none, xM70), (1, 91, 1, none, xM71)], [], [], [])
set_option maxRecDepth 100000 in
set_option maxHeartbeats 4000000 in
theorem xk72 : x_TOK vwCl x_G x_Zs x_Tb x_Nb xM72 xT72 := by
  intro p l e s m args below meth c D U hx hb hml hts hown hK hK0 hU hnm hN
  have X : x_cx p s m args c D U xM72.2.1 xM72.2.2.1 vwCl x_Tb x_Nb xM72.1.cls := ⟨hx, hb, hml, hown, hts, hK, hK0, hU, hN, x_Tb_good, x_Nb_ok⟩
  exact ⟨(x_cons (fl101 hts) x_nilm), x_nilm, x_nilm, x_nilm, x_nilm, x_nilm, x_nilm, (x_cons (x_cokSN (host := "TwinFires") X xm70 (x_cons (x_at 751 (by decide +kernel) rfl) (x_cons (x_at 65 (by decide +kernel) rfl) x_nilm)) (x_nt 750 (by decide +kernel) rfl) (x_at 752 (by decide +kernel) rfl) (by decide +kernel) ⟨Nat.le_of_ble_eq_true rfl, Nat.le_of_ble_eq_true rfl⟩) (x_cons (x_cokS X xm71 (x_cons (x_at 753 (by decide +kernel) rfl) (x_cons (x_at 754 (by decide +kernel) rfl) (x_cons (x_at 85 (by decide +kernel) rfl) x_nilm))) (x_at 755 (by decide +kernel) rfl) (by decide +kernel) ⟨Nat.le_of_ble_eq_true rfl, Nat.le_of_ble_eq_true rfl⟩) x_nilm)), x_nilm, x_nilm, x_nilm⟩
set_option maxRecDepth 1000000 in
theorem xm72 : x_Met vwCl x_G x_Zs x_Tb x_Nb xM72 := x_main xT72 [(2, ([(0, xR false [6]), (1, xF), (2, xI 0 10)], [], []), (2, true), [], false, 0, [])] [] 2500 (by decide +kernel) (by decide +kernel) xk72 (by decide +kernel)
/-- TwinFires.judge(II)I -/
def xM73 : xM := (⟨"TwinFires", "judge", "(II)I"⟩, prog_1_method_14_code, 4, some .int, [xR false [0], xF, xF], [([xR false [0], xF, xF], some (xF))], [(10, 0), (10, 1), (10, 2), (10, 3), (10, 4), (10, 5), (10, 6), (10, 7), (32, 0), (33, 0), (34, 0), (42, 0)], (6, 138, 0, 0), none)
def xT73 : xTab := ([(12, 0, 0), (33, 0, 4), (107, 6, 1)], [], [], [], [], [], [], [(1, 88, 3, none, xM69), (1, 175, 1, none, xM71), (0, 59, 2, some 0, xM8), (0, 104, 1, some 0, xM52), (0, 169, 2, some 2, xM67), (0, 172, 2, some 6, xM72)], [], [], [])
set_option maxRecDepth 100000 in
set_option maxHeartbeats 4000000 in
theorem xk73 : x_TOK vwCl x_G x_Zs x_Tb x_Nb xM73 xT73 := by
  intro p l e s m args below meth c D U hx hb hml hts hown hK hK0 hU hnm hN
  have X : x_cx p s m args c D U xM73.2.1 xM73.2.2.1 vwCl x_Tb x_Nb xM73.1.cls := ⟨hx, hb, hml, hown, hts, hK, hK0, hU, hN, x_Tb_good, x_Nb_ok⟩
  exact ⟨(x_cons (fl8 hts) (x_cons (fl102 hts) (x_cons (fl103 hts) x_nilm))), x_nilm, x_nilm, x_nilm, x_nilm, x_nilm, x_nilm, (x_cons (x_cokS X xm69 (x_cons (x_at 383 (by decide +kernel) rfl) (x_cons (x_at 369 (by decide +kernel) rfl) (x_cons (x_at 65 (by decide +kernel) rfl) x_nilm))) (x_at 370 (by decide +kernel) rfl) (by decide +kernel) ⟨Nat.le_of_ble_eq_true rfl, Nat.le_of_ble_eq_true rfl⟩) (x_cons (x_cokS X xm71 (x_cons (x_at 759 (by decide +kernel) rfl) (x_cons (x_at 754 (by decide +kernel) rfl) (x_cons (x_at 85 (by decide +kernel) rfl) x_nilm))) (x_at 755 (by decide +kernel) rfl) (by decide +kernel) ⟨Nat.le_of_ble_eq_true rfl, Nat.le_of_ble_eq_true rfl⟩) (x_cons (x_cokV (ci := 11) X xm8 rfl rfl rfl (x_cons (x_at 375 (by decide +kernel) rfl) (x_cons (x_at 377 (by decide +kernel) rfl) (x_cons (x_at 1 (by decide +kernel) rfl) (x_cons (x_at 65 (by decide +kernel) rfl) x_nilm)))) (x_at 378 (by decide +kernel) rfl) (by decide +kernel) ⟨Nat.le_of_ble_eq_true rfl, Nat.le_of_ble_eq_true rfl⟩) (x_cons (x_cokV (ci := 11) X xm52 rfl rfl rfl (x_cons (x_at 540 (by decide +kernel) rfl) (x_cons (x_at 542 (by decide +kernel) rfl) (x_cons (x_at 3 (by decide +kernel) rfl) (x_cons (x_at 65 (by decide +kernel) rfl) x_nilm)))) (x_at 543 (by decide +kernel) rfl) (by decide +kernel) ⟨Nat.le_of_ble_eq_true rfl, Nat.le_of_ble_eq_true rfl⟩) (x_cons (x_cokV (ci := 2) X xm67 rfl rfl rfl (x_cons (x_at 738 (by decide +kernel) rfl) (x_cons (x_at 739 (by decide +kernel) rfl) (x_cons (x_at 740 (by decide +kernel) rfl) (x_cons (x_at 66 (by decide +kernel) rfl) x_nilm)))) (x_at 741 (by decide +kernel) rfl) (by decide +kernel) ⟨Nat.le_of_ble_eq_true rfl, Nat.le_of_ble_eq_true rfl⟩) (x_cons (x_cokV (ci := 0) X xm72 rfl rfl rfl (x_cons (x_at 746 (by decide +kernel) rfl) (x_cons (x_at 747 (by decide +kernel) rfl) (x_cons (x_at 748 (by decide +kernel) rfl) (x_cons (x_at 70 (by decide +kernel) rfl) x_nilm)))) (x_at 749 (by decide +kernel) rfl) (by decide +kernel) ⟨Nat.le_of_ble_eq_true rfl, Nat.le_of_ble_eq_true rfl⟩) x_nilm)))))), x_nilm, x_nilm, x_nilm⟩
set_option maxRecDepth 1000000 in
theorem xm73 : x_Met vwCl x_G x_Zs x_Tb x_Nb xM73 := x_main xT73 [] [] 2500 (by decide +kernel) (by decide +kernel) xk73 (by decide +kernel)
/-- TwinFires$Rows.fullest(I)I -/
def xM74 : xM := (⟨"TwinFires$Rows", "fullest", "(I)I"⟩, prog_7_method_3_code, 5, some .int, [xR false [8], xF], [([xR false [8], xF], some (xI (-1) 1023))], [], (1, 20, 0, 0), none)
def xT74 : xTab := ([(9, 8, 0), (27, 8, 1)], [], [], [], [], [], [], [(1, 37, 1, none, xM71)], [], [], [])
set_option maxRecDepth 100000 in
set_option maxHeartbeats 4000000 in
theorem xk74 : x_TOK vwCl x_G x_Zs x_Tb x_Nb xM74 xT74 := by
  intro p l e s m args below meth c D U hx hb hml hts hown hK hK0 hU hnm hN
  have X : x_cx p s m args c D U xM74.2.1 xM74.2.2.1 vwCl x_Tb x_Nb xM74.1.cls := ⟨hx, hb, hml, hown, hts, hK, hK0, hU, hN, x_Tb_good, x_Nb_ok⟩
  exact ⟨(x_cons (fl135 hts) (x_cons (fl136 hts) x_nilm)), x_nilm, x_nilm, x_nilm, x_nilm, x_nilm, x_nilm, (x_cons (x_cokS X xm71 (x_cons (x_at 777 (by decide +kernel) rfl) (x_cons (x_at 754 (by decide +kernel) rfl) (x_cons (x_at 85 (by decide +kernel) rfl) x_nilm))) (x_at 755 (by decide +kernel) rfl) (by decide +kernel) ⟨Nat.le_of_ble_eq_true rfl, Nat.le_of_ble_eq_true rfl⟩) x_nilm), x_nilm, x_nilm, x_nilm⟩
set_option maxRecDepth 1000000 in
theorem xm74 : x_Met vwCl x_G x_Zs x_Tb x_Nb xM74 := x_main xT74 [(4, ([(0, xR false [8]), (1, xF), (2, xI (-1) 1023), (3, xI 0 1024)], [], []), (3, true), [], false, 0, [])] [] 2500 (by decide +kernel) (by decide +kernel) xk74 (by decide +kernel)
/-- TwinFires.isWithin(III)Z -/
def xM75 : xM := (⟨"TwinFires", "isWithin", "(III)Z"⟩, prog_1_method_43_code, 3, some .boolean, [xF, xI (-1) (-1), xI 10 10], [([xI (-1) 10, xI (-1) (-1), xI 10 10], some (xI 1 1)), ([xF, xI (-1) (-1), xI 10 10], some (xI 0 0))], [], (0, 0, 0, 0), none)
def xT75 : xTab := ([], [], [], [], [], [], [], [], [], [], [])
set_option maxRecDepth 100000 in
set_option maxHeartbeats 4000000 in
theorem xk75 : x_TOK vwCl x_G x_Zs x_Tb x_Nb xM75 xT75 := by
  intro p l e s m args below meth c D U hx hb hml hts hown hK hK0 hU hnm hN
  have X : x_cx p s m args c D U xM75.2.1 xM75.2.2.1 vwCl x_Tb x_Nb xM75.1.cls := ⟨hx, hb, hml, hown, hts, hK, hK0, hU, hN, x_Tb_good, x_Nb_ok⟩
  exact ⟨x_nilm, x_nilm, x_nilm, x_nilm, x_nilm, x_nilm, x_nilm, x_nilm, x_nilm, x_nilm, x_nilm⟩
set_option maxRecDepth 1000000 in
theorem xm75 : x_Met vwCl x_G x_Zs x_Tb x_Nb xM75 := x_main xT75 [] [] 2500 (by decide +kernel) (by decide +kernel) xk75 (by decide +kernel)
/-- TwinFires$Rows.ofFires(I)I -/
def xM76 : xM := (⟨"TwinFires$Rows", "ofFires", "(I)I"⟩, prog_7_method_4_code, 4, some .int, [xR false [8], xF], [([xR false [8], xF], some (xF))], [], (1, 20, 0, 0), none)
def xT76 : xTab := ([(9, 8, 0), (27, 8, 1)], [], [], [], [], [], [], [(1, 37, 1, none, xM71)], [], [], [])
set_option maxRecDepth 100000 in
set_option maxHeartbeats 4000000 in
theorem xk76 : x_TOK vwCl x_G x_Zs x_Tb x_Nb xM76 xT76 := by
  intro p l e s m args below meth c D U hx hb hml hts hown hK hK0 hU hnm hN
  have X : x_cx p s m args c D U xM76.2.1 xM76.2.2.1 vwCl x_Tb x_Nb xM76.1.cls := ⟨hx, hb, hml, hown, hts, hK, hK0, hU, hN, x_Tb_good, x_Nb_ok⟩
  exact ⟨(x_cons (fl135 hts) (x_cons (fl136 hts) x_nilm)), x_nilm, x_nilm, x_nilm, x_nilm, x_nilm, x_nilm, (x_cons (x_cokS X xm71 (x_cons (x_at 777 (by decide +kernel) rfl) (x_cons (x_at 754 (by decide +kernel) rfl) (x_cons (x_at 85 (by decide +kernel) rfl) x_nilm))) (x_at 755 (by decide +kernel) rfl) (by decide +kernel) ⟨Nat.le_of_ble_eq_true rfl, Nat.le_of_ble_eq_true rfl⟩) x_nilm), x_nilm, x_nilm, x_nilm⟩
set_option maxRecDepth 1000000 in
theorem xm76 : x_Met vwCl x_G x_Zs x_Tb x_Nb xM76 := x_main xT76 [(4, ([(0, xR false [8]), (1, xF), (2, xF), (3, xI 0 1024)], [], []), (3, true), [], false, 0, [])] [] 2500 (by decide +kernel) (by decide +kernel) xk76 (by decide +kernel)
/-- TwinFires.years(I)I -/
def xM77 : xM := (⟨"TwinFires", "years", "(I)I"⟩, prog_1_method_17_code, 4, some .int, [xR false [0], xF], [([xR false [0], xF], some (xF))], [(10, 0), (10, 1), (10, 2), (10, 3), (10, 4), (10, 5), (10, 6), (10, 7), (32, 0), (33, 0), (34, 0), (42, 0)], (5, 118, 0, 0), none)
def xT77 : xTab := ([(12, 0, 0), (33, 0, 4), (95, 2, 10)], [], [], [], [(192, 44)], [], [], [(1, 195, 2, none, (xMm2 Lib.Math.min.name prog_16_method_69_code)), (0, 59, 2, some 0, xM8), (0, 169, 2, some 2, xM67), (0, 172, 2, some 6, xM72), (0, 200, 3, some 6, xM49), (0, 204, 4, some 6, xM51)], [], [], [])
set_option maxRecDepth 100000 in
set_option maxHeartbeats 4000000 in
theorem xk77 : x_TOK vwCl x_G x_Zs x_Tb x_Nb xM77 xT77 := by
  intro p l e s m args below meth c D U hx hb hml hts hown hK hK0 hU hnm hN
  have X : x_cx p s m args c D U xM77.2.1 xM77.2.2.1 vwCl x_Tb x_Nb xM77.1.cls := ⟨hx, hb, hml, hown, hts, hK, hK0, hU, hN, x_Tb_good, x_Nb_ok⟩
  exact ⟨(x_cons (fl8 hts) (x_cons (fl102 hts) (x_cons (fl58 hts) x_nilm))), x_nilm, x_nilm, x_nilm, (x_cons (x_gsrow hx hb hown hU (z := x_Zs[1]) (List.mem_of_getElem? (i := 1) rfl) (hts _ (x_at 790 (by decide +kernel) rfl))) x_nilm), x_nilm, x_nilm, (x_cons (x_cokMin X (by decide +kernel) (x_cons (x_at 791 (by decide +kernel) rfl) (x_cons (x_at 518 (by decide +kernel) rfl) (x_cons (x_at 79 (by decide +kernel) rfl) (x_cons (x_at 519 (by decide +kernel) rfl) x_nilm)))) ⟨Nat.le_of_ble_eq_true rfl, Nat.le_of_ble_eq_true rfl⟩) (x_cons (x_cokV (ci := 11) X xm8 rfl rfl rfl (x_cons (x_at 375 (by decide +kernel) rfl) (x_cons (x_at 377 (by decide +kernel) rfl) (x_cons (x_at 1 (by decide +kernel) rfl) (x_cons (x_at 65 (by decide +kernel) rfl) x_nilm)))) (x_at 378 (by decide +kernel) rfl) (by decide +kernel) ⟨Nat.le_of_ble_eq_true rfl, Nat.le_of_ble_eq_true rfl⟩) (x_cons (x_cokV (ci := 2) X xm67 rfl rfl rfl (x_cons (x_at 738 (by decide +kernel) rfl) (x_cons (x_at 739 (by decide +kernel) rfl) (x_cons (x_at 740 (by decide +kernel) rfl) (x_cons (x_at 66 (by decide +kernel) rfl) x_nilm)))) (x_at 741 (by decide +kernel) rfl) (by decide +kernel) ⟨Nat.le_of_ble_eq_true rfl, Nat.le_of_ble_eq_true rfl⟩) (x_cons (x_cokV (ci := 0) X xm72 rfl rfl rfl (x_cons (x_at 746 (by decide +kernel) rfl) (x_cons (x_at 747 (by decide +kernel) rfl) (x_cons (x_at 748 (by decide +kernel) rfl) (x_cons (x_at 70 (by decide +kernel) rfl) x_nilm)))) (x_at 749 (by decide +kernel) rfl) (by decide +kernel) ⟨Nat.le_of_ble_eq_true rfl, Nat.le_of_ble_eq_true rfl⟩) (x_cons (x_cokV (ci := 0) X xm49 rfl rfl rfl (x_cons (x_at 544 (by decide +kernel) rfl) (x_cons (x_at 545 (by decide +kernel) rfl) (x_cons (x_at 546 (by decide +kernel) rfl) (x_cons (x_at 70 (by decide +kernel) rfl) x_nilm)))) (x_at 547 (by decide +kernel) rfl) (by decide +kernel) ⟨Nat.le_of_ble_eq_true rfl, Nat.le_of_ble_eq_true rfl⟩) (x_cons (x_cokV (ci := 0) X xm51 rfl rfl rfl (x_cons (x_at 587 (by decide +kernel) rfl) (x_cons (x_at 588 (by decide +kernel) rfl) (x_cons (x_at 589 (by decide +kernel) rfl) (x_cons (x_at 70 (by decide +kernel) rfl) x_nilm)))) (x_at 590 (by decide +kernel) rfl) (by decide +kernel) ⟨Nat.le_of_ble_eq_true rfl, Nat.le_of_ble_eq_true rfl⟩) x_nilm)))))), x_nilm, x_nilm, x_nilm⟩
set_option maxRecDepth 1000000 in
theorem xm77 : x_Met vwCl x_G x_Zs x_Tb x_Nb xM77 := x_main xT77 [(22, ([(0, xR false [0]), (1, xI 0 1023), (2, xI 0 1023), (3, xI 0 10)], [], [(0, 11, 0, xR false [2])]), (3, true), [], false, 0, [])] [] 2500 (by decide +kernel) (by decide +kernel) xk77 (by decide +kernel)
/-- TwinFires.isWithin(III)Z -/
def xM78 : xM := (⟨"TwinFires", "isWithin", "(III)Z"⟩, prog_1_method_43_code, 3, some .boolean, [xF, xI 0 0, xI 11 11], [([xI 0 11, xI 0 0, xI 11 11], some (xI 1 1)), ([xF, xI 0 0, xI 11 11], some (xI 0 0))], [], (0, 0, 0, 0), none)
def xT78 : xTab := ([], [], [], [], [], [], [], [], [], [], [])
set_option maxRecDepth 100000 in
set_option maxHeartbeats 4000000 in
theorem xk78 : x_TOK vwCl x_G x_Zs x_Tb x_Nb xM78 xT78 := by
  intro p l e s m args below meth c D U hx hb hml hts hown hK hK0 hU hnm hN
  have X : x_cx p s m args c D U xM78.2.1 xM78.2.2.1 vwCl x_Tb x_Nb xM78.1.cls := ⟨hx, hb, hml, hown, hts, hK, hK0, hU, hN, x_Tb_good, x_Nb_ok⟩
  exact ⟨x_nilm, x_nilm, x_nilm, x_nilm, x_nilm, x_nilm, x_nilm, x_nilm, x_nilm, x_nilm, x_nilm⟩
set_option maxRecDepth 1000000 in
theorem xm78 : x_Met vwCl x_G x_Zs x_Tb x_Nb xM78 := x_main xT78 [] [] 2500 (by decide +kernel) (by decide +kernel) xk78 (by decide +kernel)
/-- TwinFires.isWithin(III)Z -/
def xM79 : xM := (⟨"TwinFires", "isWithin", "(III)Z"⟩, prog_1_method_43_code, 3, some .boolean, [xF, xI 0 0, xF], [([xI 0 2147483647, xI 0 0, xI 0 2147483647], some (xI 1 1)), ([xF, xI 0 0, xF], some (xI 0 0))], [], (0, 0, 0, 0), none)
def xT79 : xTab := ([], [], [], [], [], [], [], [], [], [], [])
set_option maxRecDepth 100000 in
set_option maxHeartbeats 4000000 in
theorem xk79 : x_TOK vwCl x_G x_Zs x_Tb x_Nb xM79 xT79 := by
  intro p l e s m args below meth c D U hx hb hml hts hown hK hK0 hU hnm hN
  have X : x_cx p s m args c D U xM79.2.1 xM79.2.2.1 vwCl x_Tb x_Nb xM79.1.cls := ⟨hx, hb, hml, hown, hts, hK, hK0, hU, hN, x_Tb_good, x_Nb_ok⟩
  exact ⟨x_nilm, x_nilm, x_nilm, x_nilm, x_nilm, x_nilm, x_nilm, x_nilm, x_nilm, x_nilm, x_nilm⟩
set_option maxRecDepth 1000000 in
theorem xm79 : x_Met vwCl x_G x_Zs x_Tb x_Nb xM79 := x_main xT79 [] [] 2500 (by decide +kernel) (by decide +kernel) xk79 (by decide +kernel)
/-- TwinFires.mist(II)I -/
def xM80 : xM := (⟨"TwinFires", "mist", "(II)I"⟩, prog_1_method_18_code, 4, some .int, [xR false [0], xF, xF], [([xR false [0], xF, xF], some (xF))], [(28, 0), (42, 0)], (3, 66, 0, 0), none)
def xT80 : xTab := ([(12, 0, 0), (207, 2, 11)], [], [], [], [(192, 44)], [], [], [(1, 88, 3, none, xM78), (1, 88, 3, none, xM79), (0, 59, 2, some 0, xM8)], [], [], [])
set_option maxRecDepth 100000 in
set_option maxHeartbeats 4000000 in
theorem xk80 : x_TOK vwCl x_G x_Zs x_Tb x_Nb xM80 xT80 := by
  intro p l e s m args below meth c D U hx hb hml hts hown hK hK0 hU hnm hN
  have X : x_cx p s m args c D U xM80.2.1 xM80.2.2.1 vwCl x_Tb x_Nb xM80.1.cls := ⟨hx, hb, hml, hown, hts, hK, hK0, hU, hN, x_Tb_good, x_Nb_ok⟩
  exact ⟨(x_cons (fl8 hts) (x_cons (fl137 hts) x_nilm)), x_nilm, x_nilm, x_nilm, (x_cons (x_gsrow hx hb hown hU (z := x_Zs[1]) (List.mem_of_getElem? (i := 1) rfl) (hts _ (x_at 790 (by decide +kernel) rfl))) x_nilm), x_nilm, x_nilm, (x_cons (x_cokS X xm78 (x_cons (x_at 383 (by decide +kernel) rfl) (x_cons (x_at 369 (by decide +kernel) rfl) (x_cons (x_at 65 (by decide +kernel) rfl) x_nilm))) (x_at 370 (by decide +kernel) rfl) (by decide +kernel) ⟨Nat.le_of_ble_eq_true rfl, Nat.le_of_ble_eq_true rfl⟩) (x_cons (x_cokS X xm79 (x_cons (x_at 383 (by decide +kernel) rfl) (x_cons (x_at 369 (by decide +kernel) rfl) (x_cons (x_at 65 (by decide +kernel) rfl) x_nilm))) (x_at 370 (by decide +kernel) rfl) (by decide +kernel) ⟨Nat.le_of_ble_eq_true rfl, Nat.le_of_ble_eq_true rfl⟩) (x_cons (x_cokV (ci := 11) X xm8 rfl rfl rfl (x_cons (x_at 375 (by decide +kernel) rfl) (x_cons (x_at 377 (by decide +kernel) rfl) (x_cons (x_at 1 (by decide +kernel) rfl) (x_cons (x_at 65 (by decide +kernel) rfl) x_nilm)))) (x_at 378 (by decide +kernel) rfl) (by decide +kernel) ⟨Nat.le_of_ble_eq_true rfl, Nat.le_of_ble_eq_true rfl⟩) x_nilm))), x_nilm, x_nilm, x_nilm⟩
set_option maxRecDepth 1000000 in
theorem xm80 : x_Met vwCl x_G x_Zs x_Tb x_Nb xM80 := x_main xT80 [] [] 2500 (by decide +kernel) (by decide +kernel) xk80 (by decide +kernel)
/-- TwinFires.isLawfulIn(II)Z -/
def xM81 : xM := (⟨"TwinFires", "isLawfulIn", "(II)Z"⟩, prog_1_method_51_code, 3, some .boolean, [xR false [0], xI 0 11, xF], [([xR false [0], xI 0 11, xF], some (xI 1 1)), ([xR false [0], xI 0 11, xF], some (xI 0 0))], [(32, 0)], (2, 50, 0, 0), none)
def xT81 : xTab := ([(12, 0, 0), (33, 0, 4), (207, 2, 11)], [], [], [], [], [], [], [(0, 172, 2, some 6, xM72), (0, 204, 4, some 6, xM51)], [], [], [])
set_option maxRecDepth 100000 in
set_option maxHeartbeats 4000000 in
theorem xk81 : x_TOK vwCl x_G x_Zs x_Tb x_Nb xM81 xT81 := by
  intro p l e s m args below meth c D U hx hb hml hts hown hK hK0 hU hnm hN
  have X : x_cx p s m args c D U xM81.2.1 xM81.2.2.1 vwCl x_Tb x_Nb xM81.1.cls := ⟨hx, hb, hml, hown, hts, hK, hK0, hU, hN, x_Tb_good, x_Nb_ok⟩
  exact ⟨(x_cons (fl8 hts) (x_cons (fl102 hts) (x_cons (fl137 hts) x_nilm))), x_nilm, x_nilm, x_nilm, x_nilm, x_nilm, x_nilm, (x_cons (x_cokV (ci := 0) X xm72 rfl rfl rfl (x_cons (x_at 746 (by decide +kernel) rfl) (x_cons (x_at 747 (by decide +kernel) rfl) (x_cons (x_at 748 (by decide +kernel) rfl) (x_cons (x_at 70 (by decide +kernel) rfl) x_nilm)))) (x_at 749 (by decide +kernel) rfl) (by decide +kernel) ⟨Nat.le_of_ble_eq_true rfl, Nat.le_of_ble_eq_true rfl⟩) (x_cons (x_cokV (ci := 0) X xm51 rfl rfl rfl (x_cons (x_at 587 (by decide +kernel) rfl) (x_cons (x_at 588 (by decide +kernel) rfl) (x_cons (x_at 589 (by decide +kernel) rfl) (x_cons (x_at 70 (by decide +kernel) rfl) x_nilm)))) (x_at 590 (by decide +kernel) rfl) (by decide +kernel) ⟨Nat.le_of_ble_eq_true rfl, Nat.le_of_ble_eq_true rfl⟩) x_nilm)), x_nilm, x_nilm, x_nilm⟩
set_option maxRecDepth 1000000 in
theorem xm81 : x_Met vwCl x_G x_Zs x_Tb x_Nb xM81 := x_main xT81 [] [] 2500 (by decide +kernel) (by decide +kernel) xk81 (by decide +kernel)
/-- TwinFires.hours(I)I -/
def xM82 : xM := (⟨"TwinFires", "hours", "(I)I"⟩, prog_1_method_19_code, 4, some .int, [xR false [0], xF], [([xR false [0], xF], some (xF))], [(10, 0), (10, 1), (10, 2), (10, 3), (10, 4), (10, 5), (10, 6), (10, 7), (32, 0), (33, 0), (34, 0), (42, 0)], (5, 118, 0, 0), none)
def xT82 : xTab := ([(12, 0, 0), (33, 0, 4), (95, 2, 10)], [], [], [], [], [], [], [(0, 59, 2, some 0, xM8), (0, 169, 2, some 2, xM67), (0, 200, 3, some 6, xM49), (0, 210, 3, some 0, xM81)], [], [], [])
set_option maxRecDepth 100000 in
set_option maxHeartbeats 4000000 in
theorem xk82 : x_TOK vwCl x_G x_Zs x_Tb x_Nb xM82 xT82 := by
  intro p l e s m args below meth c D U hx hb hml hts hown hK hK0 hU hnm hN
  have X : x_cx p s m args c D U xM82.2.1 xM82.2.2.1 vwCl x_Tb x_Nb xM82.1.cls := ⟨hx, hb, hml, hown, hts, hK, hK0, hU, hN, x_Tb_good, x_Nb_ok⟩
  exact ⟨(x_cons (fl8 hts) (x_cons (fl102 hts) (x_cons (fl58 hts) x_nilm))), x_nilm, x_nilm, x_nilm, x_nilm, x_nilm, x_nilm, (x_cons (x_cokV (ci := 11) X xm8 rfl rfl rfl (x_cons (x_at 375 (by decide +kernel) rfl) (x_cons (x_at 377 (by decide +kernel) rfl) (x_cons (x_at 1 (by decide +kernel) rfl) (x_cons (x_at 65 (by decide +kernel) rfl) x_nilm)))) (x_at 378 (by decide +kernel) rfl) (by decide +kernel) ⟨Nat.le_of_ble_eq_true rfl, Nat.le_of_ble_eq_true rfl⟩) (x_cons (x_cokV (ci := 2) X xm67 rfl rfl rfl (x_cons (x_at 738 (by decide +kernel) rfl) (x_cons (x_at 739 (by decide +kernel) rfl) (x_cons (x_at 740 (by decide +kernel) rfl) (x_cons (x_at 66 (by decide +kernel) rfl) x_nilm)))) (x_at 741 (by decide +kernel) rfl) (by decide +kernel) ⟨Nat.le_of_ble_eq_true rfl, Nat.le_of_ble_eq_true rfl⟩) (x_cons (x_cokV (ci := 0) X xm49 rfl rfl rfl (x_cons (x_at 544 (by decide +kernel) rfl) (x_cons (x_at 545 (by decide +kernel) rfl) (x_cons (x_at 546 (by decide +kernel) rfl) (x_cons (x_at 70 (by decide +kernel) rfl) x_nilm)))) (x_at 547 (by decide +kernel) rfl) (by decide +kernel) ⟨Nat.le_of_ble_eq_true rfl, Nat.le_of_ble_eq_true rfl⟩) (x_cons (x_cokV (ci := 11) X xm81 rfl rfl rfl (x_cons (x_at 800 (by decide +kernel) rfl) (x_cons (x_at 802 (by decide +kernel) rfl) (x_cons (x_at 14 (by decide +kernel) rfl) (x_cons (x_at 65 (by decide +kernel) rfl) x_nilm)))) (x_at 803 (by decide +kernel) rfl) (by decide +kernel) ⟨Nat.le_of_ble_eq_true rfl, Nat.le_of_ble_eq_true rfl⟩) x_nilm)))), x_nilm, x_nilm, x_nilm⟩
set_option maxRecDepth 1000000 in
theorem xm82 : x_Met vwCl x_G x_Zs x_Tb x_Nb xM82 := x_main xT82 [(42, ([(0, xR false [0]), (1, xI 0 1023), (2, xI 0 2147483647), (3, xI 0 12)], [], [(0, 11, 4, xR false [6]), (0, 11, 0, xR false [2])]), (3, true), [], false, 0, [])] [] 2500 (by decide +kernel) (by decide +kernel) xk82 (by decide +kernel)
/-- TwinFires$Land.workable()I -/
def xM83 : xM := (⟨"TwinFires$Land", "workable", "()I"⟩, prog_4_method_15_code, 3, some .int, [xR false [2]], [([xR false [2]], some (xI 0 255))], [], (1, 20, 0, 0), none)
def xT83 : xTab := ([(29, 2, 7), (33, 2, 8), (73, 2, 6)], [], [], [], [], [], [], [(0, 129, 1, some 11, xM26), (0, 129, 1, some 12, xM27), (0, 129, 1, some 13, xM27), (0, 129, 1, some 14, xM27), (0, 129, 1, some 15, xM27), (0, 129, 1, some 16, xM28)], [], [], [])
set_option maxRecDepth 100000 in
set_option maxHeartbeats 4000000 in
theorem xk83 : x_TOK vwCl x_G x_Zs x_Tb x_Nb xM83 xT83 := by
  intro p l e s m args below meth c D U hx hb hml hts hown hK hK0 hU hnm hN
  have X : x_cx p s m args c D U xM83.2.1 xM83.2.2.1 vwCl x_Tb x_Nb xM83.1.cls := ⟨hx, hb, hml, hown, hts, hK, hK0, hU, hN, x_Tb_good, x_Nb_ok⟩
  exact ⟨(x_cons (fl39 hts) (x_cons (fl40 hts) (x_cons (fl42 hts) x_nilm))), x_nilm, x_nilm, x_nilm, x_nilm, x_nilm, x_nilm, (x_cons (x_cokV (ci := 6) X xm26 rfl rfl rfl (x_cons (x_at 816 (by decide +kernel) rfl) (x_cons (x_at 473 (by decide +kernel) rfl) (x_cons (x_at 474 (by decide +kernel) rfl) (x_cons (x_at 68 (by decide +kernel) rfl) x_nilm)))) (x_at 485 (by decide +kernel) rfl) (by decide +kernel) ⟨Nat.le_of_ble_eq_true rfl, Nat.le_of_ble_eq_true rfl⟩) (x_cons (x_cokO (ci := 10) (x := ⟨"TwinFires$Stone", "isWorkable", "()Z"⟩) (b0 := prog_8_method_3_code) (m0 := 1) (r0 := some .boolean) X xm27 rfl rfl (x_at 485 (by decide +kernel) rfl) (x_cons (x_at 816 (by decide +kernel) rfl) (x_cons (x_at 475 (by decide +kernel) rfl) (x_cons (x_at 473 (by decide +kernel) rfl) (x_cons (x_at 484 (by decide +kernel) rfl) (x_cons (x_at 477 (by decide +kernel) rfl) (x_cons (x_at 74 (by decide +kernel) rfl) x_nilm)))))) (x_at 478 (by decide +kernel) rfl) (by decide +kernel) ⟨Nat.le_of_ble_eq_true rfl, Nat.le_of_ble_eq_true rfl⟩) (x_cons (x_cokO (ci := 4) (x := ⟨"TwinFires$Stone", "isWorkable", "()Z"⟩) (b0 := prog_8_method_3_code) (m0 := 1) (r0 := some .boolean) X xm27 rfl rfl (x_at 485 (by decide +kernel) rfl) (x_cons (x_at 816 (by decide +kernel) rfl) (x_cons (x_at 475 (by decide +kernel) rfl) (x_cons (x_at 473 (by decide +kernel) rfl) (x_cons (x_at 479 (by decide +kernel) rfl) (x_cons (x_at 477 (by decide +kernel) rfl) (x_cons (x_at 74 (by decide +kernel) rfl) x_nilm)))))) (x_at 478 (by decide +kernel) rfl) (by decide +kernel) ⟨Nat.le_of_ble_eq_true rfl, Nat.le_of_ble_eq_true rfl⟩) (x_cons (x_cokO (ci := 1) (x := ⟨"TwinFires$Stone", "isWorkable", "()Z"⟩) (b0 := prog_8_method_3_code) (m0 := 1) (r0 := some .boolean) X xm27 rfl rfl (x_at 485 (by decide +kernel) rfl) (x_cons (x_at 816 (by decide +kernel) rfl) (x_cons (x_at 475 (by decide +kernel) rfl) (x_cons (x_at 473 (by decide +kernel) rfl) (x_cons (x_at 476 (by decide +kernel) rfl) (x_cons (x_at 477 (by decide +kernel) rfl) (x_cons (x_at 74 (by decide +kernel) rfl) x_nilm)))))) (x_at 478 (by decide +kernel) rfl) (by decide +kernel) ⟨Nat.le_of_ble_eq_true rfl, Nat.le_of_ble_eq_true rfl⟩) (x_cons (x_cokO (ci := 8) (x := ⟨"TwinFires$Stone", "isWorkable", "()Z"⟩) (b0 := prog_8_method_3_code) (m0 := 1) (r0 := some .boolean) X xm27 rfl rfl (x_at 485 (by decide +kernel) rfl) (x_cons (x_at 816 (by decide +kernel) rfl) (x_cons (x_at 475 (by decide +kernel) rfl) (x_cons (x_at 473 (by decide +kernel) rfl) (x_cons (x_at 480 (by decide +kernel) rfl) (x_cons (x_at 477 (by decide +kernel) rfl) (x_cons (x_at 74 (by decide +kernel) rfl) x_nilm)))))) (x_at 478 (by decide +kernel) rfl) (by decide +kernel) ⟨Nat.le_of_ble_eq_true rfl, Nat.le_of_ble_eq_true rfl⟩) (x_cons (x_cokO (ci := 9) (x := ⟨"TwinFires$Stone", "isWorkable", "()Z"⟩) (b0 := prog_8_method_3_code) (m0 := 1) (r0 := some .boolean) X xm28 rfl rfl (x_at 485 (by decide +kernel) rfl) (x_cons (x_at 816 (by decide +kernel) rfl) (x_cons (x_at 475 (by decide +kernel) rfl) (x_cons (x_at 473 (by decide +kernel) rfl) (x_cons (x_at 481 (by decide +kernel) rfl) (x_cons (x_at 482 (by decide +kernel) rfl) (x_cons (x_at 78 (by decide +kernel) rfl) x_nilm)))))) (x_at 483 (by decide +kernel) rfl) (by decide +kernel) ⟨Nat.le_of_ble_eq_true rfl, Nat.le_of_ble_eq_true rfl⟩) x_nilm)))))), x_nilm, x_nilm, x_nilm⟩
set_option maxRecDepth 1000000 in
theorem xm83 : x_Met vwCl x_G x_Zs x_Tb x_Nb xM83 := x_main xT83 [(4, ([(0, xR false [2]), (1, xI 0 255), (2, xI 0 8)], [], []), (2, true), [], false, 0, [])] [] 2500 (by decide +kernel) (by decide +kernel) xk83 (by decide +kernel)
/-- TwinFires$Land.price(IZ)I -/
def xM84 : xM := (⟨"TwinFires$Land", "price", "(IZ)I"⟩, prog_4_method_16_code, 5, some .int, [xR false [2], xF, xI 0 1], [([xR false [2], xF, xI 0 1], some (xF))], [], (1, 21, 0, 0), none)
def xT84 : xTab := ([(36, 2, 9), (73, 2, 6)], [], [], [], [], [], [], [(1, 133, 2, none, xM70)], [], [], [])
set_option maxRecDepth 100000 in
set_option maxHeartbeats 4000000 in
theorem xk84 : x_TOK vwCl x_G x_Zs x_Tb x_Nb xM84 xT84 := by
  intro p l e s m args below meth c D U hx hb hml hts hown hK hK0 hU hnm hN
  have X : x_cx p s m args c D U xM84.2.1 xM84.2.2.1 vwCl x_Tb x_Nb xM84.1.cls := ⟨hx, hb, hml, hown, hts, hK, hK0, hU, hN, x_Tb_good, x_Nb_ok⟩
  exact ⟨(x_cons (fl41 hts) (x_cons (fl42 hts) x_nilm)), x_nilm, x_nilm, x_nilm, x_nilm, x_nilm, x_nilm, (x_cons (x_cokSN (host := "TwinFires") X xm70 (x_cons (x_at 751 (by decide +kernel) rfl) (x_cons (x_at 65 (by decide +kernel) rfl) x_nilm)) (x_nt 821 (by decide +kernel) rfl) (x_at 752 (by decide +kernel) rfl) (by decide +kernel) ⟨Nat.le_of_ble_eq_true rfl, Nat.le_of_ble_eq_true rfl⟩) x_nilm), x_nilm, x_nilm, x_nilm⟩
set_option maxRecDepth 1000000 in
theorem xm84 : x_Met vwCl x_G x_Zs x_Tb x_Nb xM84 := x_main xT84 [(5, ([(0, xR false [2]), (1, xF), (2, xI 0 1), (3, xF), (4, xI 0 8)], [], []), (4, true), [], false, 0, [])] [] 2500 (by decide +kernel) (by decide +kernel) xk84 (by decide +kernel)
/-- TwinFires.worksFor(IIZ)I -/
def xM85 : xM := (⟨"TwinFires", "worksFor", "(IIZ)I"⟩, prog_1_method_52_code, 9, some .int, [xR false [0], xF, xF, xI 0 1], [([xR false [0], xF, xF, xI 0 1], some (xF))], [(10, 0), (10, 1), (10, 2), (10, 3), (10, 4), (10, 5), (10, 6), (10, 7), (32, 0), (33, 0), (34, 0), (42, 0)], (5, 118, 0, 0), none)
def xT85 : xTab := ([(12, 0, 0), (33, 0, 4), (95, 2, 10)], [], [], [], [], [], [], [(1, 88, 3, none, xM69), (0, 59, 2, some 0, xM8), (0, 169, 2, some 2, xM67), (0, 172, 2, some 6, xM72), (0, 200, 3, some 6, xM49), (0, 204, 4, some 6, xM51), (0, 320, 1, some 2, xM83), (0, 323, 3, some 2, xM84)], [], [], [])
set_option maxRecDepth 100000 in
set_option maxHeartbeats 4000000 in
theorem xk85 : x_TOK vwCl x_G x_Zs x_Tb x_Nb xM85 xT85 := by
  intro p l e s m args below meth c D U hx hb hml hts hown hK hK0 hU hnm hN
  have X : x_cx p s m args c D U xM85.2.1 xM85.2.2.1 vwCl x_Tb x_Nb xM85.1.cls := ⟨hx, hb, hml, hown, hts, hK, hK0, hU, hN, x_Tb_good, x_Nb_ok⟩
  exact ⟨(x_cons (fl8 hts) (x_cons (fl102 hts) (x_cons (fl58 hts) x_nilm))), x_nilm, x_nilm, x_nilm, x_nilm, x_nilm, x_nilm, (x_cons (x_cokS X xm69 (x_cons (x_at 383 (by decide +kernel) rfl) (x_cons (x_at 369 (by decide +kernel) rfl) (x_cons (x_at 65 (by decide +kernel) rfl) x_nilm))) (x_at 370 (by decide +kernel) rfl) (by decide +kernel) ⟨Nat.le_of_ble_eq_true rfl, Nat.le_of_ble_eq_true rfl⟩) (x_cons (x_cokV (ci := 11) X xm8 rfl rfl rfl (x_cons (x_at 375 (by decide +kernel) rfl) (x_cons (x_at 377 (by decide +kernel) rfl) (x_cons (x_at 1 (by decide +kernel) rfl) (x_cons (x_at 65 (by decide +kernel) rfl) x_nilm)))) (x_at 378 (by decide +kernel) rfl) (by decide +kernel) ⟨Nat.le_of_ble_eq_true rfl, Nat.le_of_ble_eq_true rfl⟩) (x_cons (x_cokV (ci := 2) X xm67 rfl rfl rfl (x_cons (x_at 738 (by decide +kernel) rfl) (x_cons (x_at 739 (by decide +kernel) rfl) (x_cons (x_at 740 (by decide +kernel) rfl) (x_cons (x_at 66 (by decide +kernel) rfl) x_nilm)))) (x_at 741 (by decide +kernel) rfl) (by decide +kernel) ⟨Nat.le_of_ble_eq_true rfl, Nat.le_of_ble_eq_true rfl⟩) (x_cons (x_cokV (ci := 0) X xm72 rfl rfl rfl (x_cons (x_at 746 (by decide +kernel) rfl) (x_cons (x_at 747 (by decide +kernel) rfl) (x_cons (x_at 748 (by decide +kernel) rfl) (x_cons (x_at 70 (by decide +kernel) rfl) x_nilm)))) (x_at 749 (by decide +kernel) rfl) (by decide +kernel) ⟨Nat.le_of_ble_eq_true rfl, Nat.le_of_ble_eq_true rfl⟩) (x_cons (x_cokV (ci := 0) X xm49 rfl rfl rfl (x_cons (x_at 544 (by decide +kernel) rfl) (x_cons (x_at 545 (by decide +kernel) rfl) (x_cons (x_at 546 (by decide +kernel) rfl) (x_cons (x_at 70 (by decide +kernel) rfl) x_nilm)))) (x_at 547 (by decide +kernel) rfl) (by decide +kernel) ⟨Nat.le_of_ble_eq_true rfl, Nat.le_of_ble_eq_true rfl⟩) (x_cons (x_cokV (ci := 0) X xm51 rfl rfl rfl (x_cons (x_at 587 (by decide +kernel) rfl) (x_cons (x_at 588 (by decide +kernel) rfl) (x_cons (x_at 589 (by decide +kernel) rfl) (x_cons (x_at 70 (by decide +kernel) rfl) x_nilm)))) (x_at 590 (by decide +kernel) rfl) (by decide +kernel) ⟨Nat.le_of_ble_eq_true rfl, Nat.le_of_ble_eq_true rfl⟩) (x_cons (x_cokV (ci := 2) X xm83 rfl rfl rfl (x_cons (x_at 812 (by decide +kernel) rfl) (x_cons (x_at 813 (by decide +kernel) rfl) (x_cons (x_at 814 (by decide +kernel) rfl) (x_cons (x_at 66 (by decide +kernel) rfl) x_nilm)))) (x_at 815 (by decide +kernel) rfl) (by decide +kernel) ⟨Nat.le_of_ble_eq_true rfl, Nat.le_of_ble_eq_true rfl⟩) (x_cons (x_cokV (ci := 2) X xm84 rfl rfl rfl (x_cons (x_at 817 (by decide +kernel) rfl) (x_cons (x_at 818 (by decide +kernel) rfl) (x_cons (x_at 819 (by decide +kernel) rfl) (x_cons (x_at 66 (by decide +kernel) rfl) x_nilm)))) (x_at 820 (by decide +kernel) rfl) (by decide +kernel) ⟨Nat.le_of_ble_eq_true rfl, Nat.le_of_ble_eq_true rfl⟩) x_nilm)))))))), x_nilm, x_nilm, x_nilm⟩
set_option maxRecDepth 1000000 in
theorem xm85 : x_Met vwCl x_G x_Zs x_Tb x_Nb xM85 := x_main xT85 [(65, ([(0, xR false [0]), (1, xI 0 1023), (2, xI 0 1), (3, xI 0 1), (4, xI 0 255), (5, xI (-1) 255), (6, xF), (7, xI 0 319)], [], [(0, 11, 4, xR false [6]), (0, 11, 0, xR false [2])]), (7, true), [], false, 0, [])] [] 2500 (by decide +kernel) (by decide +kernel) xk85 (by decide +kernel)
/-- TwinFires.fewest(II)I -/
def xM86 : xM := (⟨"TwinFires", "fewest", "(II)I"⟩, prog_1_method_20_code, 3, some .int, [xR false [0], xF, xF], [([xR false [0], xF, xF], some (xF))], [(10, 0), (10, 1), (10, 2), (10, 3), (10, 4), (10, 5), (10, 6), (10, 7), (32, 0), (33, 0), (34, 0), (42, 0)], (6, 146, 0, 0), none)
def xT86 : xTab := ([], [], [], [], [], [], [], [(0, 213, 4, some 0, xM85)], [], [], [])
set_option maxRecDepth 100000 in
set_option maxHeartbeats 4000000 in
theorem xk86 : x_TOK vwCl x_G x_Zs x_Tb x_Nb xM86 xT86 := by
  intro p l e s m args below meth c D U hx hb hml hts hown hK hK0 hU hnm hN
  have X : x_cx p s m args c D U xM86.2.1 xM86.2.2.1 vwCl x_Tb x_Nb xM86.1.cls := ⟨hx, hb, hml, hown, hts, hK, hK0, hU, hN, x_Tb_good, x_Nb_ok⟩
  exact ⟨x_nilm, x_nilm, x_nilm, x_nilm, x_nilm, x_nilm, x_nilm, (x_cons (x_cokV (ci := 11) X xm85 rfl rfl rfl (x_cons (x_at 808 (by decide +kernel) rfl) (x_cons (x_at 810 (by decide +kernel) rfl) (x_cons (x_at 15 (by decide +kernel) rfl) (x_cons (x_at 65 (by decide +kernel) rfl) x_nilm)))) (x_at 811 (by decide +kernel) rfl) (by decide +kernel) ⟨Nat.le_of_ble_eq_true rfl, Nat.le_of_ble_eq_true rfl⟩) x_nilm), x_nilm, x_nilm, x_nilm⟩
set_option maxRecDepth 1000000 in
theorem xm86 : x_Met vwCl x_G x_Zs x_Tb x_Nb xM86 := x_main xT86 [] [] 2500 (by decide +kernel) (by decide +kernel) xk86 (by decide +kernel)
/-- TwinFires.cheapest(II)I -/
def xM87 : xM := (⟨"TwinFires", "cheapest", "(II)I"⟩, prog_1_method_21_code, 3, some .int, [xR false [0], xF, xF], [([xR false [0], xF, xF], some (xF))], [(10, 0), (10, 1), (10, 2), (10, 3), (10, 4), (10, 5), (10, 6), (10, 7), (32, 0), (33, 0), (34, 0), (42, 0)], (6, 146, 0, 0), none)
def xT87 : xTab := ([], [], [], [], [], [], [], [(0, 213, 4, some 0, xM85)], [], [], [])
set_option maxRecDepth 100000 in
set_option maxHeartbeats 4000000 in
theorem xk87 : x_TOK vwCl x_G x_Zs x_Tb x_Nb xM87 xT87 := by
  intro p l e s m args below meth c D U hx hb hml hts hown hK hK0 hU hnm hN
  have X : x_cx p s m args c D U xM87.2.1 xM87.2.2.1 vwCl x_Tb x_Nb xM87.1.cls := ⟨hx, hb, hml, hown, hts, hK, hK0, hU, hN, x_Tb_good, x_Nb_ok⟩
  exact ⟨x_nilm, x_nilm, x_nilm, x_nilm, x_nilm, x_nilm, x_nilm, (x_cons (x_cokV (ci := 11) X xm85 rfl rfl rfl (x_cons (x_at 808 (by decide +kernel) rfl) (x_cons (x_at 810 (by decide +kernel) rfl) (x_cons (x_at 15 (by decide +kernel) rfl) (x_cons (x_at 65 (by decide +kernel) rfl) x_nilm)))) (x_at 811 (by decide +kernel) rfl) (by decide +kernel) ⟨Nat.le_of_ble_eq_true rfl, Nat.le_of_ble_eq_true rfl⟩) x_nilm), x_nilm, x_nilm, x_nilm⟩
set_option maxRecDepth 1000000 in
theorem xm87 : x_Met vwCl x_G x_Zs x_Tb x_Nb xM87 := x_main xT87 [] [] 2500 (by decide +kernel) (by decide +kernel) xk87 (by decide +kernel)
/-- TwinFires$Line.lifted(IIII)I -/
def xM88 : xM := (⟨"TwinFires$Line", "lifted", "(IIII)I"⟩, prog_5_method_8_code, 5, some .int, [xR false [10], xF, xF, xF, xF], [([xR false [10], xF, xF, xF, xF], some (xF))], [(10, 5)], (3, 68, 0, 0), none)
def xT88 : xTab := ([(52, 10, 5)], [(52, 10, 5)], [], [], [], [], [], [(0, 72, 3, some 10, xM44), (0, 75, 4, some 10, xM46)], [], [], [])
set_option maxRecDepth 100000 in
set_option maxHeartbeats 4000000 in
theorem xk88 : x_TOK vwCl x_G x_Zs x_Tb x_Nb xM88 xT88 := by
  intro p l e s m args below meth c D U hx hb hml hts hown hK hK0 hU hnm hN
  have X : x_cx p s m args c D U xM88.2.1 xM88.2.2.1 vwCl x_Tb x_Nb xM88.1.cls := ⟨hx, hb, hml, hown, hts, hK, hK0, hU, hN, x_Tb_good, x_Nb_ok⟩
  exact ⟨(x_cons (fl77 hts) x_nilm), (x_cons (fw72 hts) x_nilm), x_nilm, x_nilm, x_nilm, x_nilm, x_nilm, (x_cons (x_cokV (ci := 3) X xm44 rfl rfl rfl (x_cons (x_at 842 (by decide +kernel) rfl) (x_cons (x_at 563 (by decide +kernel) rfl) (x_cons (x_at 564 (by decide +kernel) rfl) (x_cons (x_at 71 (by decide +kernel) rfl) x_nilm)))) (x_at 565 (by decide +kernel) rfl) (by decide +kernel) ⟨Nat.le_of_ble_eq_true rfl, Nat.le_of_ble_eq_true rfl⟩) (x_cons (x_cokV (ci := 3) X xm46 rfl rfl rfl (x_cons (x_at 843 (by decide +kernel) rfl) (x_cons (x_at 575 (by decide +kernel) rfl) (x_cons (x_at 576 (by decide +kernel) rfl) (x_cons (x_at 71 (by decide +kernel) rfl) x_nilm)))) (x_at 577 (by decide +kernel) rfl) (by decide +kernel) ⟨Nat.le_of_ble_eq_true rfl, Nat.le_of_ble_eq_true rfl⟩) x_nilm)), x_nilm, x_nilm, x_nilm⟩
set_option maxRecDepth 1000000 in
theorem xm88 : x_Met vwCl x_G x_Zs x_Tb x_Nb xM88 := x_main xT88 [(15, ([(0, xR false [10]), (1, xF), (2, xF), (3, xF), (4, xF)], [], [(0, 3, 5, xF)]), (5, true), [], false, 0, [(0, 5)])] [] 2500 (by decide +kernel) (by decide +kernel) xk88 (by decide +kernel)
/-- TwinFires$Eyes.towerTo(LTwinFires$Land;III)I -/
def xM89 : xM := (⟨"TwinFires$Eyes", "towerTo", "(LTwinFires$Land;III)I"⟩, prog_2_method_9_code, 8, some .int, [xR false [6], xR false [2], xI 0 9, xI 0 9, xF], [([xR false [6], xR false [2], xI 0 9, xI 0 9, xF], some (xF))], [(10, 0), (10, 1), (10, 2), (10, 3), (10, 4), (10, 5), (10, 6), (10, 7)], (4, 92, 0, 0), none)
def xT89 : xTab := ([(12, 6, 0), (28, 2, 0), (45, 2, 1), (48, 2, 2), (55, 2, 3), (62, 2, 6), (65, 2, 7), (69, 11, 1), (69, 12, 1), (69, 13, 1), (69, 14, 1), (69, 15, 1), (69, 16, 1), (73, 11, 2), (73, 12, 2), (73, 13, 2), (73, 14, 2), (73, 15, 2), (73, 16, 2), (97, 2, 10)], [], [], [], [], [], [], [(0, 34, 4, some 10, xM41), (0, 104, 5, some 10, xM88), (0, 108, 3, some 2, xM38)], [], [], [])
set_option maxRecDepth 100000 in
set_option maxHeartbeats 4000000 in
theorem xk89 : x_TOK vwCl x_G x_Zs x_Tb x_Nb xM89 xT89 := by
  intro p l e s m args below meth c D U hx hb hml hts hown hK hK0 hU hnm hN
  have X : x_cx p s m args c D U xM89.2.1 xM89.2.2.1 vwCl x_Tb x_Nb xM89.1.cls := ⟨hx, hb, hml, hown, hts, hK, hK0, hU, hN, x_Tb_good, x_Nb_ok⟩
  exact ⟨(x_cons (fl79 hts) (x_cons (fl80 hts) (x_cons (fl81 hts) (x_cons (fl82 hts) (x_cons (fl83 hts) (x_cons (fl86 hts) (x_cons (fl87 hts) (x_cons (fl88 hts) (x_cons (fl89 hts) (x_cons (fl90 hts) (x_cons (fl91 hts) (x_cons (fl92 hts) (x_cons (fl93 hts) (x_cons (fl94 hts) (x_cons (fl95 hts) (x_cons (fl96 hts) (x_cons (fl97 hts) (x_cons (fl98 hts) (x_cons (fl99 hts) (x_cons (fl138 hts) x_nilm)))))))))))))))))))), x_nilm, x_nilm, x_nilm, x_nilm, x_nilm, x_nilm, (x_cons (x_cokV (ci := 3) X xm41 rfl rfl rfl (x_cons (x_at 548 (by decide +kernel) rfl) (x_cons (x_at 549 (by decide +kernel) rfl) (x_cons (x_at 550 (by decide +kernel) rfl) (x_cons (x_at 71 (by decide +kernel) rfl) x_nilm)))) (x_at 551 (by decide +kernel) rfl) (by decide +kernel) ⟨Nat.le_of_ble_eq_true rfl, Nat.le_of_ble_eq_true rfl⟩) (x_cons (x_cokV (ci := 3) X xm88 rfl rfl rfl (x_cons (x_at 838 (by decide +kernel) rfl) (x_cons (x_at 839 (by decide +kernel) rfl) (x_cons (x_at 840 (by decide +kernel) rfl) (x_cons (x_at 71 (by decide +kernel) rfl) x_nilm)))) (x_at 841 (by decide +kernel) rfl) (by decide +kernel) ⟨Nat.le_of_ble_eq_true rfl, Nat.le_of_ble_eq_true rfl⟩) (x_cons (x_cokV (ci := 2) X xm38 rfl rfl rfl (x_cons (x_at 844 (by decide +kernel) rfl) (x_cons (x_at 495 (by decide +kernel) rfl) (x_cons (x_at 496 (by decide +kernel) rfl) (x_cons (x_at 66 (by decide +kernel) rfl) x_nilm)))) (x_at 497 (by decide +kernel) rfl) (by decide +kernel) ⟨Nat.le_of_ble_eq_true rfl, Nat.le_of_ble_eq_true rfl⟩) x_nilm))), x_nilm, x_nilm, x_nilm⟩
set_option maxRecDepth 1000000 in
theorem xm89 : x_Met vwCl x_G x_Zs x_Tb x_Nb xM89 := x_main xT89 [(17, ([(0, xR false [6]), (1, xR false [2]), (2, xI 0 9), (3, xI 0 9), (4, xF), (5, xF), (6, xI 0 10)], [], [(0, 0, 0, xR false [10])]), (6, true), [], false, 0, []), (79, ([(0, xR false [6]), (1, xR false [2]), (2, xI 0 9), (3, xI 0 9), (4, xF), (5, xF), (6, xI 0 8)], [], [(1, 2, 0, xI 0 10), (0, 0, 0, xR false [10])]), (6, true), [], false, 0, [])] [] 2500 (by decide +kernel) (by decide +kernel) xk89 (by decide +kernel)
/-- TwinFires$Eyes.leastTower(LTwinFires$Land;I)I -/
def xM90 : xM := (⟨"TwinFires$Eyes", "leastTower", "(LTwinFires$Land;I)I"⟩, prog_2_method_8_code, 6, some .int, [xR false [6], xR false [2], xI 0 9], [([xR false [6], xR false [2], xI 0 9], some (xI (-2147483648) 99))], [(10, 0), (10, 1), (10, 2), (10, 3), (10, 4), (10, 5), (10, 6), (10, 7)], (5, 119, 0, 0), none)
def xT90 : xTab := ([(28, 2, 0), (55, 2, 3), (97, 2, 10)], [], [], [], [], [], [], [(0, 100, 5, some 6, xM89)], [], [], [])
set_option maxRecDepth 100000 in
set_option maxHeartbeats 4000000 in
theorem xk90 : x_TOK vwCl x_G x_Zs x_Tb x_Nb xM90 xT90 := by
  intro p l e s m args below meth c D U hx hb hml hts hown hK hK0 hU hnm hN
  have X : x_cx p s m args c D U xM90.2.1 xM90.2.2.1 vwCl x_Tb x_Nb xM90.1.cls := ⟨hx, hb, hml, hown, hts, hK, hK0, hU, hN, x_Tb_good, x_Nb_ok⟩
  exact ⟨(x_cons (fl80 hts) (x_cons (fl83 hts) (x_cons (fl138 hts) x_nilm))), x_nilm, x_nilm, x_nilm, x_nilm, x_nilm, x_nilm, (x_cons (x_cokV (ci := 0) X xm89 rfl rfl rfl (x_cons (x_at 834 (by decide +kernel) rfl) (x_cons (x_at 836 (by decide +kernel) rfl) (x_cons (x_at 16 (by decide +kernel) rfl) (x_cons (x_at 70 (by decide +kernel) rfl) x_nilm)))) (x_at 837 (by decide +kernel) rfl) (by decide +kernel) ⟨Nat.le_of_ble_eq_true rfl, Nat.le_of_ble_eq_true rfl⟩) x_nilm), x_nilm, x_nilm, x_nilm⟩
set_option maxRecDepth 1000000 in
theorem xm90 : x_Met vwCl x_G x_Zs x_Tb x_Nb xM90 := x_main xT90 [(25, ([(0, xR false [6]), (1, xR false [2]), (2, xI 0 9), (3, xF), (4, xF), (5, xI 0 10)], [], [(1, 2, 0, xI 0 10), (1, 2, 10, xR false [27])]), (5, true), [], false, 0, [])] [] 2500 (by decide +kernel) (by decide +kernel) xk90 (by decide +kernel)
end
section
/-- TwinFires.tower(I)I -/
def xM91 : xM := (⟨"TwinFires", "tower", "(I)I"⟩, prog_1_method_22_code, 2, some .int, [xR false [0], xF], [([xR false [0], xF], some (xF))], [(10, 0), (10, 1), (10, 2), (10, 3), (10, 4), (10, 5), (10, 6), (10, 7), (42, 0)], (6, 144, 0, 0), none)
def xT91 : xTab := ([(12, 0, 0), (33, 0, 4)], [], [], [], [], [], [], [(0, 59, 2, some 0, xM8), (0, 101, 2, some 2, xM40), (0, 217, 3, some 6, xM90)], [], [], [])
set_option maxRecDepth 100000 in
set_option maxHeartbeats 4000000 in
theorem xk91 : x_TOK vwCl x_G x_Zs x_Tb x_Nb xM91 xT91 := by
  intro p l e s m args below meth c D U hx hb hml hts hown hK hK0 hU hnm hN
  have X : x_cx p s m args c D U xM91.2.1 xM91.2.2.1 vwCl x_Tb x_Nb xM91.1.cls := ⟨hx, hb, hml, hown, hts, hK, hK0, hU, hN, x_Tb_good, x_Nb_ok⟩
  exact ⟨(x_cons (fl8 hts) (x_cons (fl102 hts) x_nilm)), x_nilm, x_nilm, x_nilm, x_nilm, x_nilm, x_nilm, (x_cons (x_cokV (ci := 11) X xm8 rfl rfl rfl (x_cons (x_at 375 (by decide +kernel) rfl) (x_cons (x_at 377 (by decide +kernel) rfl) (x_cons (x_at 1 (by decide +kernel) rfl) (x_cons (x_at 65 (by decide +kernel) rfl) x_nilm)))) (x_at 378 (by decide +kernel) rfl) (by decide +kernel) ⟨Nat.le_of_ble_eq_true rfl, Nat.le_of_ble_eq_true rfl⟩) (x_cons (x_cokV (ci := 2) X xm40 rfl rfl rfl (x_cons (x_at 536 (by decide +kernel) rfl) (x_cons (x_at 537 (by decide +kernel) rfl) (x_cons (x_at 538 (by decide +kernel) rfl) (x_cons (x_at 66 (by decide +kernel) rfl) x_nilm)))) (x_at 539 (by decide +kernel) rfl) (by decide +kernel) ⟨Nat.le_of_ble_eq_true rfl, Nat.le_of_ble_eq_true rfl⟩) (x_cons (x_cokV (ci := 0) X xm90 rfl rfl rfl (x_cons (x_at 830 (by decide +kernel) rfl) (x_cons (x_at 831 (by decide +kernel) rfl) (x_cons (x_at 832 (by decide +kernel) rfl) (x_cons (x_at 70 (by decide +kernel) rfl) x_nilm)))) (x_at 833 (by decide +kernel) rfl) (by decide +kernel) ⟨Nat.le_of_ble_eq_true rfl, Nat.le_of_ble_eq_true rfl⟩) x_nilm))), x_nilm, x_nilm, x_nilm⟩
set_option maxRecDepth 1000000 in
theorem xm91 : x_Met vwCl x_G x_Zs x_Tb x_Nb xM91 := x_main xT91 [] [] 2500 (by decide +kernel) (by decide +kernel) xk91 (by decide +kernel)
/-- TwinFires.isLawfulNow(I)Z -/
def xM92 : xM := (⟨"TwinFires", "isLawfulNow", "(I)Z"⟩, prog_1_method_50_code, 2, some .boolean, [xR false [0], xF], [([xR false [0], xF], some (xI 1 1)), ([xR false [0], xF], some (xI 0 0))], [], (2, 43, 0, 0), none)
def xT92 : xTab := ([(33, 0, 4)], [], [], [], [], [], [], [(0, 172, 2, some 6, xM72)], [], [], [])
set_option maxRecDepth 100000 in
set_option maxHeartbeats 4000000 in
theorem xk92 : x_TOK vwCl x_G x_Zs x_Tb x_Nb xM92 xT92 := by
  intro p l e s m args below meth c D U hx hb hml hts hown hK hK0 hU hnm hN
  have X : x_cx p s m args c D U xM92.2.1 xM92.2.2.1 vwCl x_Tb x_Nb xM92.1.cls := ⟨hx, hb, hml, hown, hts, hK, hK0, hU, hN, x_Tb_good, x_Nb_ok⟩
  exact ⟨(x_cons (fl102 hts) x_nilm), x_nilm, x_nilm, x_nilm, x_nilm, x_nilm, x_nilm, (x_cons (x_cokV (ci := 0) X xm72 rfl rfl rfl (x_cons (x_at 746 (by decide +kernel) rfl) (x_cons (x_at 747 (by decide +kernel) rfl) (x_cons (x_at 748 (by decide +kernel) rfl) (x_cons (x_at 70 (by decide +kernel) rfl) x_nilm)))) (x_at 749 (by decide +kernel) rfl) (by decide +kernel) ⟨Nat.le_of_ble_eq_true rfl, Nat.le_of_ble_eq_true rfl⟩) x_nilm), x_nilm, x_nilm, x_nilm⟩
set_option maxRecDepth 1000000 in
theorem xm92 : x_Met vwCl x_G x_Zs x_Tb x_Nb xM92 := x_main xT92 [] [] 2500 (by decide +kernel) (by decide +kernel) xk92 (by decide +kernel)
/-- java/util/Arrays.fill([II)V -/
def xM93 : xM := (⟨"java/util/Arrays", "fill", "([II)V"⟩, prog_21_method_103_code, 4, none, [xR false [36], xI (-1) (-1)], [([xR false [36], xI (-1) (-1)], none)], [(36, 0)], (0, 0, 0, 0), none)
def xT93 : xTab := ([], [], [], [], [], [], [], [], [], [], [])
set_option maxRecDepth 100000 in
set_option maxHeartbeats 4000000 in
theorem xk93 : x_TOK vwCl x_G x_Zs x_Tb x_Nb xM93 xT93 := by
  intro p l e s m args below meth c D U hx hb hml hts hown hK hK0 hU hnm hN
  have X : x_cx p s m args c D U xM93.2.1 xM93.2.2.1 vwCl x_Tb x_Nb xM93.1.cls := ⟨hx, hb, hml, hown, hts, hK, hK0, hU, hN, x_Tb_good, x_Nb_ok⟩
  exact ⟨x_nilm, x_nilm, x_nilm, x_nilm, x_nilm, x_nilm, x_nilm, x_nilm, x_nilm, x_nilm, x_nilm⟩
set_option maxRecDepth 1000000 in
theorem xm93 : x_Met vwCl x_G x_Zs x_Tb x_Nb xM93 := x_main xT93 [(5, ([(0, xR false [36]), (1, xI (-1) (-1)), (2, xI 0 1024), (3, xI 1024 1024)], [], []), (2, true), [], false, 0, [])] [] 2500 (by decide +kernel) (by decide +kernel) xk93 (by decide +kernel)
/-- TwinFires$Rows.isNear(II)Z -/
def xM94 : xM := (⟨"TwinFires$Rows", "isNear", "(II)Z"⟩, prog_7_method_5_code, 2, some .boolean, [xF, xF], [([xF, xF], some (xI 1 1)), ([xF, xF], some (xI 0 0))], [], (1, 20, 0, 0), none)
def xT94 : xTab := ([], [], [], [], [], [], [], [(1, 37, 1, none, xM71)], [], [], [])
set_option maxRecDepth 100000 in
set_option maxHeartbeats 4000000 in
theorem xk94 : x_TOK vwCl x_G x_Zs x_Tb x_Nb xM94 xT94 := by
  intro p l e s m args below meth c D U hx hb hml hts hown hK hK0 hU hnm hN
  have X : x_cx p s m args c D U xM94.2.1 xM94.2.2.1 vwCl x_Tb x_Nb xM94.1.cls := ⟨hx, hb, hml, hown, hts, hK, hK0, hU, hN, x_Tb_good, x_Nb_ok⟩
  exact ⟨x_nilm, x_nilm, x_nilm, x_nilm, x_nilm, x_nilm, x_nilm, (x_cons (x_cokS X xm71 (x_cons (x_at 777 (by decide +kernel) rfl) (x_cons (x_at 754 (by decide +kernel) rfl) (x_cons (x_at 85 (by decide +kernel) rfl) x_nilm))) (x_at 755 (by decide +kernel) rfl) (by decide +kernel) ⟨Nat.le_of_ble_eq_true rfl, Nat.le_of_ble_eq_true rfl⟩) x_nilm), x_nilm, x_nilm, x_nilm⟩
set_option maxRecDepth 1000000 in
theorem xm94 : x_Met vwCl x_G x_Zs x_Tb x_Nb xM94 := x_main xT94 [] [] 2500 (by decide +kernel) (by decide +kernel) xk94 (by decide +kernel)
/-- TwinFires$Rows.spreadBehind(I)Z -/
def xM95 : xM := (⟨"TwinFires$Rows", "spreadBehind", "(I)Z"⟩, prog_7_method_7_code, 6, some .boolean, [xR false [8], xF], [([xR false [8], xF], some (xI 0 1))], [(36, 0)], (2, 41, 0, 0), none)
def xT95 : xTab := ([(9, 8, 0), (15, 8, 2), (27, 8, 1)], [], [], [], [], [], [], [(1, 52, 2, none, xM94)], [], [], [])
set_option maxRecDepth 100000 in
set_option maxHeartbeats 4000000 in
theorem xk95 : x_TOK vwCl x_G x_Zs x_Tb x_Nb xM95 xT95 := by
  intro p l e s m args below meth c D U hx hb hml hts hown hK hK0 hU hnm hN
  have X : x_cx p s m args c D U xM95.2.1 xM95.2.2.1 vwCl x_Tb x_Nb xM95.1.cls := ⟨hx, hb, hml, hown, hts, hK, hK0, hU, hN, x_Tb_good, x_Nb_ok⟩
  exact ⟨(x_cons (fl135 hts) (x_cons (fl139 hts) (x_cons (fl136 hts) x_nilm))), x_nilm, x_nilm, x_nilm, x_nilm, x_nilm, x_nilm, (x_cons (x_cokS X xm94 (x_cons (x_at 862 (by decide +kernel) rfl) (x_cons (x_at 863 (by decide +kernel) rfl) (x_cons (x_at 72 (by decide +kernel) rfl) x_nilm))) (x_at 864 (by decide +kernel) rfl) (by decide +kernel) ⟨Nat.le_of_ble_eq_true rfl, Nat.le_of_ble_eq_true rfl⟩) x_nilm), x_nilm, x_nilm, x_nilm⟩
set_option maxRecDepth 1000000 in
theorem xm95 : x_Met vwCl x_G x_Zs x_Tb x_Nb xM95 := x_main xT95 [(4, ([(0, xR false [8]), (1, xF), (2, xI 0 1), (3, xI 0 1024)], [], []), (3, true), [], false, 0, []), (33, ([(0, xR false [8]), (1, xF), (2, xI 0 1), (3, xI 0 1023), (4, xI 0 1024)], [], [(0, 5, 0, xR false [35]), (0, 5, 2, xR false [36]), (0, 5, 1, xI 1 1024)]), (4, true), [3], false, 1, [])] [] 2500 (by decide +kernel) (by decide +kernel) xk95 (by decide +kernel)
/-- TwinFires$Rows.spread(I)V -/
def xM96 : xM := (⟨"TwinFires$Rows", "spread", "(I)V"⟩, prog_7_method_6_code, 4, none, [xR false [8], xI 0 1023], [([xR false [8], xI 0 1023], none)], [(36, 0)], (3, 66, 0, 0), none)
def xT96 : xTab := ([(15, 8, 2)], [], [], [], [], [], [], [(1, 42, 2, none, xM93), (0, 48, 2, some 8, xM95)], [], [], [])
set_option maxRecDepth 100000 in
set_option maxHeartbeats 4000000 in
theorem xk96 : x_TOK vwCl x_G x_Zs x_Tb x_Nb xM96 xT96 := by
  intro p l e s m args below meth c D U hx hb hml hts hown hK hK0 hU hnm hN
  have X : x_cx p s m args c D U xM96.2.1 xM96.2.2.1 vwCl x_Tb x_Nb xM96.1.cls := ⟨hx, hb, hml, hown, hts, hK, hK0, hU, hN, x_Tb_good, x_Nb_ok⟩
  exact ⟨(x_cons (fl139 hts) x_nilm), x_nilm, x_nilm, x_nilm, x_nilm, x_nilm, x_nilm, (x_cons (x_cokS X xm93 (x_cons (x_at 857 (by decide +kernel) rfl) (x_cons (x_at 103 (by decide +kernel) rfl) (x_cons (x_at 67 (by decide +kernel) rfl) x_nilm))) (x_at 104 (by decide +kernel) rfl) (by decide +kernel) ⟨Nat.le_of_ble_eq_true rfl, Nat.le_of_ble_eq_true rfl⟩) (x_cons (x_cokV (ci := 5) X xm95 rfl rfl rfl (x_cons (x_at 858 (by decide +kernel) rfl) (x_cons (x_at 860 (by decide +kernel) rfl) (x_cons (x_at 18 (by decide +kernel) rfl) (x_cons (x_at 72 (by decide +kernel) rfl) x_nilm)))) (x_at 861 (by decide +kernel) rfl) (by decide +kernel) ⟨Nat.le_of_ble_eq_true rfl, Nat.le_of_ble_eq_true rfl⟩) x_nilm)), x_nilm, x_nilm, x_nilm⟩
set_option maxRecDepth 1000000 in
theorem xm96 : x_Met vwCl x_G x_Zs x_Tb x_Nb xM96 := x_main xT96 [(19, ([(0, xR false [8]), (1, xI 0 1023), (2, xI 0 1), (3, xI 0 1024)], [], [(0, 5, 2, xR false [36])]), (3, true), [], false, 0, [])] [] 2500 (by decide +kernel) (by decide +kernel) xk96 (by decide +kernel)
/-- TwinFires$Rows.nextNearer(I)I -/
def xM97 : xM := (⟨"TwinFires$Rows", "nextNearer", "(I)I"⟩, prog_7_method_9_code, 3, some .int, [xR false [8], xI 0 1023], [([xR false [8], xI 0 1023], some (xI 0 1023))], [], (2, 41, 0, 0), none)
def xT97 : xTab := ([(9, 8, 0), (15, 8, 2), (27, 8, 1)], [], [], [], [], [], [], [(1, 52, 2, none, xM94)], [], [], [])
set_option maxRecDepth 100000 in
set_option maxHeartbeats 4000000 in
theorem xk97 : x_TOK vwCl x_G x_Zs x_Tb x_Nb xM97 xT97 := by
  intro p l e s m args below meth c D U hx hb hml hts hown hK hK0 hU hnm hN
  have X : x_cx p s m args c D U xM97.2.1 xM97.2.2.1 vwCl x_Tb x_Nb xM97.1.cls := ⟨hx, hb, hml, hown, hts, hK, hK0, hU, hN, x_Tb_good, x_Nb_ok⟩
  exact ⟨(x_cons (fl135 hts) (x_cons (fl139 hts) (x_cons (fl136 hts) x_nilm))), x_nilm, x_nilm, x_nilm, x_nilm, x_nilm, x_nilm, (x_cons (x_cokS X xm94 (x_cons (x_at 862 (by decide +kernel) rfl) (x_cons (x_at 863 (by decide +kernel) rfl) (x_cons (x_at 72 (by decide +kernel) rfl) x_nilm))) (x_at 864 (by decide +kernel) rfl) (by decide +kernel) ⟨Nat.le_of_ble_eq_true rfl, Nat.le_of_ble_eq_true rfl⟩) x_nilm), x_nilm, x_nilm, x_nilm⟩
set_option maxRecDepth 1000000 in
theorem xm97 : x_Met vwCl x_G x_Zs x_Tb x_Nb xM97 := x_main xT97 [(2, ([(0, xR false [8]), (1, xI 0 1023), (2, xI 0 1024)], [], []), (2, true), [], false, 0, [])] [] 2500 (by decide +kernel) (by decide +kernel) xk97 (by decide +kernel)
/-- TwinFires$Rows.nearer(II)I -/
def xM98 : xM := (⟨"TwinFires$Rows", "nearer", "(II)I"⟩, prog_7_method_8_code, 5, some .int, [xR false [8], xI 0 1023, xF], [([xR false [8], xI 0 1023, xF], some (xI 0 1023))], [], (3, 63, 0, 0), none)
def xT98 : xTab := ([(15, 8, 2)], [], [], [], [], [], [], [(0, 56, 2, some 8, xM97)], [], [], [])
set_option maxRecDepth 100000 in
set_option maxHeartbeats 4000000 in
theorem xk98 : x_TOK vwCl x_G x_Zs x_Tb x_Nb xM98 xT98 := by
  intro p l e s m args below meth c D U hx hb hml hts hown hK hK0 hU hnm hN
  have X : x_cx p s m args c D U xM98.2.1 xM98.2.2.1 vwCl x_Tb x_Nb xM98.1.cls := ⟨hx, hb, hml, hown, hts, hK, hK0, hU, hN, x_Tb_good, x_Nb_ok⟩
  exact ⟨(x_cons (fl139 hts) x_nilm), x_nilm, x_nilm, x_nilm, x_nilm, x_nilm, x_nilm, (x_cons (x_cokV (ci := 5) X xm97 rfl rfl rfl (x_cons (x_at 869 (by decide +kernel) rfl) (x_cons (x_at 871 (by decide +kernel) rfl) (x_cons (x_at 19 (by decide +kernel) rfl) (x_cons (x_at 72 (by decide +kernel) rfl) x_nilm)))) (x_at 872 (by decide +kernel) rfl) (by decide +kernel) ⟨Nat.le_of_ble_eq_true rfl, Nat.le_of_ble_eq_true rfl⟩) x_nilm), x_nilm, x_nilm, x_nilm⟩
set_option maxRecDepth 1000000 in
theorem xm98 : x_Met vwCl x_G x_Zs x_Tb x_Nb xM98 := x_main xT98 [(5, ([(0, xR false [8]), (1, xI 0 1023), (2, xF), (3, xI 0 1023), (4, xI 0 2147483647)], [], []), (4, true), [], false, 0, [])] [] 2500 (by decide +kernel) (by decide +kernel) xk98 (by decide +kernel)
/-- TwinFires$Rows.within(I)I -/
def xM99 : xM := (⟨"TwinFires$Rows", "within", "(I)I"⟩, prog_7_method_10_code, 4, some .int, [xR false [8], xF], [([xR false [8], xF], some (xF))], [], (1, 22, 0, 0), none)
def xT99 : xTab := ([(9, 8, 0), (15, 8, 2), (27, 8, 1)], [], [], [], [], [], [], [(1, 59, 3, none, xM79)], [], [], [])
set_option maxRecDepth 100000 in
set_option maxHeartbeats 4000000 in
theorem xk99 : x_TOK vwCl x_G x_Zs x_Tb x_Nb xM99 xT99 := by
  intro p l e s m args below meth c D U hx hb hml hts hown hK hK0 hU hnm hN
  have X : x_cx p s m args c D U xM99.2.1 xM99.2.2.1 vwCl x_Tb x_Nb xM99.1.cls := ⟨hx, hb, hml, hown, hts, hK, hK0, hU, hN, x_Tb_good, x_Nb_ok⟩
  exact ⟨(x_cons (fl135 hts) (x_cons (fl139 hts) (x_cons (fl136 hts) x_nilm))), x_nilm, x_nilm, x_nilm, x_nilm, x_nilm, x_nilm, (x_cons (x_cokSN (host := "TwinFires") X xm79 (x_cons (x_at 369 (by decide +kernel) rfl) (x_cons (x_at 65 (by decide +kernel) rfl) x_nilm)) (x_nt 881 (by decide +kernel) rfl) (x_at 370 (by decide +kernel) rfl) (by decide +kernel) ⟨Nat.le_of_ble_eq_true rfl, Nat.le_of_ble_eq_true rfl⟩) x_nilm), x_nilm, x_nilm, x_nilm⟩
set_option maxRecDepth 1000000 in
theorem xm99 : x_Met vwCl x_G x_Zs x_Tb x_Nb xM99 := x_main xT99 [(4, ([(0, xR false [8]), (1, xF), (2, xF), (3, xI 0 1024)], [], []), (3, true), [], false, 0, [])] [] 2500 (by decide +kernel) (by decide +kernel) xk99 (by decide +kernel)
/-- TwinFires.isWithin(III)Z -/
def xM100 : xM := (⟨"TwinFires", "isWithin", "(III)Z"⟩, prog_1_method_43_code, 3, some .boolean, [xF, xI 0 0, xI 6 6], [([xI 0 6, xI 0 0, xI 6 6], some (xI 1 1)), ([xF, xI 0 0, xI 6 6], some (xI 0 0))], [], (0, 0, 0, 0), none)
def xT100 : xTab := ([], [], [], [], [], [], [], [], [], [], [])
set_option maxRecDepth 100000 in
set_option maxHeartbeats 4000000 in
theorem xk100 : x_TOK vwCl x_G x_Zs x_Tb x_Nb xM100 xT100 := by
  intro p l e s m args below meth c D U hx hb hml hts hown hK hK0 hU hnm hN
  have X : x_cx p s m args c D U xM100.2.1 xM100.2.2.1 vwCl x_Tb x_Nb xM100.1.cls := ⟨hx, hb, hml, hown, hts, hK, hK0, hU, hN, x_Tb_good, x_Nb_ok⟩
  exact ⟨x_nilm, x_nilm, x_nilm, x_nilm, x_nilm, x_nilm, x_nilm, x_nilm, x_nilm, x_nilm, x_nilm⟩
set_option maxRecDepth 1000000 in
theorem xm100 : x_Met vwCl x_G x_Zs x_Tb x_Nb xM100 := x_main xT100 [] [] 2500 (by decide +kernel) (by decide +kernel) xk100 (by decide +kernel)
/-- TwinFires$Eyes.townView(I)I -/
def xM101 : xM := (⟨"TwinFires$Eyes", "townView", "(I)I"⟩, prog_2_method_7_code, 2, some .int, [xR false [6], xI 0 9], [([xR false [6], xI 0 9], some (xF))], [], (0, 0, 0, 0), none)
def xT101 : xTab := ([(18, 6, 1)], [], [], [], [], [], [], [], [], [], [])
set_option maxRecDepth 100000 in
set_option maxHeartbeats 4000000 in
theorem xk101 : x_TOK vwCl x_G x_Zs x_Tb x_Nb xM101 xT101 := by
  intro p l e s m args below meth c D U hx hb hml hts hown hK hK0 hU hnm hN
  have X : x_cx p s m args c D U xM101.2.1 xM101.2.2.1 vwCl x_Tb x_Nb xM101.1.cls := ⟨hx, hb, hml, hown, hts, hK, hK0, hU, hN, x_Tb_good, x_Nb_ok⟩
  exact ⟨(x_cons (fl101 hts) x_nilm), x_nilm, x_nilm, x_nilm, x_nilm, x_nilm, x_nilm, x_nilm, x_nilm, x_nilm, x_nilm⟩
set_option maxRecDepth 1000000 in
theorem xm101 : x_Met vwCl x_G x_Zs x_Tb x_Nb xM101 := x_main xT101 [] [] 2500 (by decide +kernel) (by decide +kernel) xk101 (by decide +kernel)
/-- java/util/Arrays.fill([II)V -/
def xM102 : xM := (⟨"java/util/Arrays", "fill", "([II)V"⟩, prog_21_method_103_code, 4, none, [xR false [37], xI 0 0], [([xR false [37], xI 0 0], none)], [(37, 0)], (0, 0, 0, 0), none)
def xT102 : xTab := ([], [], [], [], [], [], [], [], [], [], [])
set_option maxRecDepth 100000 in
set_option maxHeartbeats 4000000 in
theorem xk102 : x_TOK vwCl x_G x_Zs x_Tb x_Nb xM102 xT102 := by
  intro p l e s m args below meth c D U hx hb hml hts hown hK hK0 hU hnm hN
  have X : x_cx p s m args c D U xM102.2.1 xM102.2.2.1 vwCl x_Tb x_Nb xM102.1.cls := ⟨hx, hb, hml, hown, hts, hK, hK0, hU, hN, x_Tb_good, x_Nb_ok⟩
  exact ⟨x_nilm, x_nilm, x_nilm, x_nilm, x_nilm, x_nilm, x_nilm, x_nilm, x_nilm, x_nilm, x_nilm⟩
set_option maxRecDepth 1000000 in
theorem xm102 : x_Met vwCl x_G x_Zs x_Tb x_Nb xM102 := x_main xT102 [(5, ([(0, xR false [37]), (1, xI 0 0), (2, xI 0 1024), (3, xI 1024 1024)], [], []), (2, true), [], false, 0, [])] [] 2500 (by decide +kernel) (by decide +kernel) xk102 (by decide +kernel)
/-- TwinFires$Rows.viewsWithin(II)I -/
def xM103 : xM := (⟨"TwinFires$Rows", "viewsWithin", "(II)I"⟩, prog_7_method_11_code, 6, some .int, [xR false [8], xF, xF], [([xR false [8], xF, xF], some (xF))], [(37, 0)], (1, 23, 0, 0), none)
def xT103 : xTab := ([(9, 8, 0), (15, 8, 2), (18, 8, 3), (27, 8, 1)], [], [], [], [], [], [], [(1, 42, 2, none, xM102), (1, 59, 3, none, xM79)], [], [], [])
set_option maxRecDepth 100000 in
set_option maxHeartbeats 4000000 in
theorem xk103 : x_TOK vwCl x_G x_Zs x_Tb x_Nb xM103 xT103 := by
  intro p l e s m args below meth c D U hx hb hml hts hown hK hK0 hU hnm hN
  have X : x_cx p s m args c D U xM103.2.1 xM103.2.2.1 vwCl x_Tb x_Nb xM103.1.cls := ⟨hx, hb, hml, hown, hts, hK, hK0, hU, hN, x_Tb_good, x_Nb_ok⟩
  exact ⟨(x_cons (fl135 hts) (x_cons (fl139 hts) (x_cons (fl140 hts) (x_cons (fl136 hts) x_nilm)))), x_nilm, x_nilm, x_nilm, x_nilm, x_nilm, x_nilm, (x_cons (x_cokS X xm102 (x_cons (x_at 857 (by decide +kernel) rfl) (x_cons (x_at 103 (by decide +kernel) rfl) (x_cons (x_at 67 (by decide +kernel) rfl) x_nilm))) (x_at 104 (by decide +kernel) rfl) (by decide +kernel) ⟨Nat.le_of_ble_eq_true rfl, Nat.le_of_ble_eq_true rfl⟩) (x_cons (x_cokSN (host := "TwinFires") X xm79 (x_cons (x_at 369 (by decide +kernel) rfl) (x_cons (x_at 65 (by decide +kernel) rfl) x_nilm)) (x_nt 881 (by decide +kernel) rfl) (x_at 370 (by decide +kernel) rfl) (by decide +kernel) ⟨Nat.le_of_ble_eq_true rfl, Nat.le_of_ble_eq_true rfl⟩) x_nilm)), x_nilm, x_nilm, x_nilm⟩
set_option maxRecDepth 1000000 in
theorem xm103 : x_Met vwCl x_G x_Zs x_Tb x_Nb xM103 := x_main xT103 [(13, ([(0, xR false [8]), (1, xF), (2, xF), (3, xF), (4, xI 0 1024)], [], [(0, 5, 3, xR false [37])]), (4, true), [], false, 0, [])] [] 2500 (by decide +kernel) (by decide +kernel) xk103 (by decide +kernel)
/-- TwinFires.isWithin(III)Z -/
def xM104 : xM := (⟨"TwinFires", "isWithin", "(III)Z"⟩, prog_1_method_43_code, 3, some .boolean, [xF, xI (-1) (-1), xI 11 11], [([xI (-1) 11, xI (-1) (-1), xI 11 11], some (xI 1 1)), ([xF, xI (-1) (-1), xI 11 11], some (xI 0 0))], [], (0, 0, 0, 0), none)
def xT104 : xTab := ([], [], [], [], [], [], [], [], [], [], [])
set_option maxRecDepth 100000 in
set_option maxHeartbeats 4000000 in
theorem xk104 : x_TOK vwCl x_G x_Zs x_Tb x_Nb xM104 xT104 := by
  intro p l e s m args below meth c D U hx hb hml hts hown hK hK0 hU hnm hN
  have X : x_cx p s m args c D U xM104.2.1 xM104.2.2.1 vwCl x_Tb x_Nb xM104.1.cls := ⟨hx, hb, hml, hown, hts, hK, hK0, hU, hN, x_Tb_good, x_Nb_ok⟩
  exact ⟨x_nilm, x_nilm, x_nilm, x_nilm, x_nilm, x_nilm, x_nilm, x_nilm, x_nilm, x_nilm, x_nilm⟩
set_option maxRecDepth 1000000 in
theorem xm104 : x_Met vwCl x_G x_Zs x_Tb x_Nb xM104 := x_main xT104 [] [] 2500 (by decide +kernel) (by decide +kernel) xk104 (by decide +kernel)
/-- TwinFires$Rows.isNearMarked(III)Z -/
def xM105 : xM := (⟨"TwinFires$Rows", "isNearMarked", "(III)Z"⟩, prog_7_method_13_code, 6, some .boolean, [xR false [8], xI 0 1023, xF, xI 0 10], [([xR false [8], xI 0 1023, xF, xI 0 10], some (xI 1 1)), ([xR false [8], xI 0 1023, xF, xI 0 10], some (xI 0 0))], [], (1, 21, 0, 0), none)
def xT105 : xTab := ([(18, 8, 3)], [], [], [], [], [], [], [(1, 82, 2, none, xM70)], [], [], [])
set_option maxRecDepth 100000 in
set_option maxHeartbeats 4000000 in
theorem xk105 : x_TOK vwCl x_G x_Zs x_Tb x_Nb xM105 xT105 := by
  intro p l e s m args below meth c D U hx hb hml hts hown hK hK0 hU hnm hN
  have X : x_cx p s m args c D U xM105.2.1 xM105.2.2.1 vwCl x_Tb x_Nb xM105.1.cls := ⟨hx, hb, hml, hown, hts, hK, hK0, hU, hN, x_Tb_good, x_Nb_ok⟩
  exact ⟨(x_cons (fl140 hts) x_nilm), x_nilm, x_nilm, x_nilm, x_nilm, x_nilm, x_nilm, (x_cons (x_cokSN (host := "TwinFires") X xm70 (x_cons (x_at 751 (by decide +kernel) rfl) (x_cons (x_at 65 (by decide +kernel) rfl) x_nilm)) (x_nt 908 (by decide +kernel) rfl) (x_at 752 (by decide +kernel) rfl) (by decide +kernel) ⟨Nat.le_of_ble_eq_true rfl, Nat.le_of_ble_eq_true rfl⟩) x_nilm), x_nilm, x_nilm, x_nilm⟩
set_option maxRecDepth 1000000 in
theorem xm105 : x_Met vwCl x_G x_Zs x_Tb x_Nb xM105 := x_main xT105 [(18, ([(0, xR false [8]), (1, xI 0 1023), (2, xF), (3, xI 0 10), (4, xI 0 10)], [], [(0, 5, 3, xR false [37])]), (4, true), [], false, 0, []), (28, ([(0, xR false [8]), (1, xI 0 1023), (2, xF), (3, xI 1 10), (4, xI 0 9), (5, xI 0 10)], [], [(0, 5, 3, xR false [37])]), (5, true), [4], false, 1, [])] [] 2500 (by decide +kernel) (by decide +kernel) xk105 (by decide +kernel)
/-- TwinFires$Rows.dropDeadEnds(LTwinFires$Land;II)V -/
def xM106 : xM := (⟨"TwinFires$Rows", "dropDeadEnds", "(LTwinFires$Land;II)V"⟩, prog_7_method_15_code, 7, none, [xR false [8], xR false [2], xI 0 1023, xI 0 11], [([xR false [8], xR false [2], xI 0 1023, xI 0 11], none)], [(37, 0)], (2, 46, 0, 0), none)
def xT106 : xTab := ([(18, 8, 3), (72, 2, 0)], [], [], [], [], [], [], [(1, 82, 2, none, xM70), (0, 79, 4, some 8, xM105)], [], [], [])
set_option maxRecDepth 100000 in
set_option maxHeartbeats 4000000 in
theorem xk106 : x_TOK vwCl x_G x_Zs x_Tb x_Nb xM106 xT106 := by
  intro p l e s m args below meth c D U hx hb hml hts hown hK hK0 hU hnm hN
  have X : x_cx p s m args c D U xM106.2.1 xM106.2.2.1 vwCl x_Tb x_Nb xM106.1.cls := ⟨hx, hb, hml, hown, hts, hK, hK0, hU, hN, x_Tb_good, x_Nb_ok⟩
  exact ⟨(x_cons (fl140 hts) (x_cons (fl141 hts) x_nilm)), x_nilm, x_nilm, x_nilm, x_nilm, x_nilm, x_nilm, (x_cons (x_cokSN (host := "TwinFires") X xm70 (x_cons (x_at 751 (by decide +kernel) rfl) (x_cons (x_at 65 (by decide +kernel) rfl) x_nilm)) (x_nt 908 (by decide +kernel) rfl) (x_at 752 (by decide +kernel) rfl) (by decide +kernel) ⟨Nat.le_of_ble_eq_true rfl, Nat.le_of_ble_eq_true rfl⟩) (x_cons (x_cokV (ci := 5) X xm105 rfl rfl rfl (x_cons (x_at 904 (by decide +kernel) rfl) (x_cons (x_at 906 (by decide +kernel) rfl) (x_cons (x_at 20 (by decide +kernel) rfl) (x_cons (x_at 72 (by decide +kernel) rfl) x_nilm)))) (x_at 907 (by decide +kernel) rfl) (by decide +kernel) ⟨Nat.le_of_ble_eq_true rfl, Nat.le_of_ble_eq_true rfl⟩) x_nilm)), x_nilm, x_nilm, x_nilm⟩
set_option maxRecDepth 1000000 in
theorem xm106 : x_Met vwCl x_G x_Zs x_Tb x_Nb xM106 := x_main xT106 [(11, ([(0, xR false [8]), (1, xR false [2]), (2, xI 0 1023), (3, xI 0 11), (4, xI 1 1024), (5, xI 0 1024)], [], [(1, 2, 0, xI 0 10)]), (5, true), [], false, 0, []), (54, ([(0, xR false [8]), (1, xR false [2]), (2, xI 0 1023), (3, xI 0 11), (4, xI 1 1024), (5, xI (-1) 10)], [], [(1, 2, 0, xI 0 10)]), (5, false), [], false, 0, []), (62, ([(0, xR false [8]), (1, xR false [2]), (2, xI 0 1023), (3, xI 0 11), (4, xI 1 1024), (5, xI 1 10), (6, xI 0 1024)], [], [(1, 2, 0, xI 0 10)]), (6, true), [5], false, 1, [])] [] 2500 (by decide +kernel) (by decide +kernel) xk106 (by decide +kernel)
/-- TwinFires$Rows.leastMarked(III)I -/
def xM107 : xM := (⟨"TwinFires$Rows", "leastMarked", "(III)I"⟩, prog_7_method_16_code, 5, some .int, [xR false [8], xI 0 1023, xF, xI 0 1024], [([xR false [8], xI 0 1023, xF, xI 0 1024], some (xI 0 1023))], [], (2, 41, 0, 0), none)
def xT107 : xTab := ([(18, 8, 3)], [], [], [], [], [], [], [(1, 52, 2, none, xM94), (1, 82, 2, none, xM70)], [], [], [])
set_option maxRecDepth 100000 in
set_option maxHeartbeats 4000000 in
theorem xk107 : x_TOK vwCl x_G x_Zs x_Tb x_Nb xM107 xT107 := by
  intro p l e s m args below meth c D U hx hb hml hts hown hK hK0 hU hnm hN
  have X : x_cx p s m args c D U xM107.2.1 xM107.2.2.1 vwCl x_Tb x_Nb xM107.1.cls := ⟨hx, hb, hml, hown, hts, hK, hK0, hU, hN, x_Tb_good, x_Nb_ok⟩
  exact ⟨(x_cons (fl140 hts) x_nilm), x_nilm, x_nilm, x_nilm, x_nilm, x_nilm, x_nilm, (x_cons (x_cokS X xm94 (x_cons (x_at 862 (by decide +kernel) rfl) (x_cons (x_at 863 (by decide +kernel) rfl) (x_cons (x_at 72 (by decide +kernel) rfl) x_nilm))) (x_at 864 (by decide +kernel) rfl) (by decide +kernel) ⟨Nat.le_of_ble_eq_true rfl, Nat.le_of_ble_eq_true rfl⟩) (x_cons (x_cokSN (host := "TwinFires") X xm70 (x_cons (x_at 751 (by decide +kernel) rfl) (x_cons (x_at 65 (by decide +kernel) rfl) x_nilm)) (x_nt 908 (by decide +kernel) rfl) (x_at 752 (by decide +kernel) rfl) (by decide +kernel) ⟨Nat.le_of_ble_eq_true rfl, Nat.le_of_ble_eq_true rfl⟩) x_nilm)), x_nilm, x_nilm, x_nilm⟩
set_option maxRecDepth 1000000 in
theorem xm107 : x_Met vwCl x_G x_Zs x_Tb x_Nb xM107 := x_main xT107 [(3, ([(0, xR false [8]), (1, xI 0 1023), (2, xF), (3, xI 0 1024), (4, xI 0 1024)], [], []), (4, true), [], false, 0, [])] [] 2500 (by decide +kernel) (by decide +kernel) xk107 (by decide +kernel)
/-- TwinFires$Rows.inHour(LTwinFires$Land;IIII)I -/
def xM108 : xM := (⟨"TwinFires$Rows", "inHour", "(LTwinFires$Land;IIII)I"⟩, prog_7_method_14_code, 8, some .int, [xR false [8], xR false [2], xI 0 1023, xI 0 1023, xI 0 11, xI 0 11], [([xR false [8], xR false [2], xI 0 1023, xI 0 1023, xI 0 11, xI 0 11], some (xI 0 1023))], [(37, 0)], (3, 72, 0, 0), none)
def xT108 : xTab := ([(72, 2, 0)], [], [], [], [], [], [], [(0, 85, 4, some 8, xM106), (0, 88, 4, some 8, xM107)], [], [], [])
set_option maxRecDepth 100000 in
set_option maxHeartbeats 4000000 in
theorem xk108 : x_TOK vwCl x_G x_Zs x_Tb x_Nb xM108 xT108 := by
  intro p l e s m args below meth c D U hx hb hml hts hown hK hK0 hU hnm hN
  have X : x_cx p s m args c D U xM108.2.1 xM108.2.2.1 vwCl x_Tb x_Nb xM108.1.cls := ⟨hx, hb, hml, hown, hts, hK, hK0, hU, hN, x_Tb_good, x_Nb_ok⟩
  exact ⟨(x_cons (fl141 hts) x_nilm), x_nilm, x_nilm, x_nilm, x_nilm, x_nilm, x_nilm, (x_cons (x_cokV (ci := 5) X xm106 rfl rfl rfl (x_cons (x_at 913 (by decide +kernel) rfl) (x_cons (x_at 915 (by decide +kernel) rfl) (x_cons (x_at 21 (by decide +kernel) rfl) (x_cons (x_at 72 (by decide +kernel) rfl) x_nilm)))) (x_at 916 (by decide +kernel) rfl) (by decide +kernel) ⟨Nat.le_of_ble_eq_true rfl, Nat.le_of_ble_eq_true rfl⟩) (x_cons (x_cokV (ci := 5) X xm107 rfl rfl rfl (x_cons (x_at 917 (by decide +kernel) rfl) (x_cons (x_at 919 (by decide +kernel) rfl) (x_cons (x_at 22 (by decide +kernel) rfl) (x_cons (x_at 72 (by decide +kernel) rfl) x_nilm)))) (x_at 920 (by decide +kernel) rfl) (by decide +kernel) ⟨Nat.le_of_ble_eq_true rfl, Nat.le_of_ble_eq_true rfl⟩) x_nilm)), x_nilm, x_nilm, x_nilm⟩
set_option maxRecDepth 1000000 in
theorem xm108 : x_Met vwCl x_G x_Zs x_Tb x_Nb xM108 := x_main xT108 [(14, ([(0, xR false [8]), (1, xR false [2]), (2, xI 0 1023), (3, xI 0 1023), (4, xI 0 11), (5, xI 0 11), (6, xI 0 1023), (7, xI 1 12)], [], []), (7, true), [], false, 0, [])] [] 2500 (by decide +kernel) (by decide +kernel) xk108 (by decide +kernel)
/-- TwinFires.letter(I)I -/
def xM109 : xM := (⟨"TwinFires", "letter", "(I)I"⟩, prog_1_method_27_code, 2, some .int, [xR false [0], xF], [([xR false [0], xF], some (xF))], [(2, 12), (29, 0), (42, 0)], (3, 66, 0, 0), none)
def xT109 : xTab := ([(12, 0, 0), (254, 2, 12), (257, 2, 13)], [(254, 2, 12)], [], [], [], [], [], [(1, 88, 3, none, xM12), (0, 59, 2, some 0, xM8)], [], [], [])
set_option maxRecDepth 100000 in
set_option maxHeartbeats 4000000 in
theorem xk109 : x_TOK vwCl x_G x_Zs x_Tb x_Nb xM109 xT109 := by
  intro p l e s m args below meth c D U hx hb hml hts hown hK hK0 hU hnm hN
  have X : x_cx p s m args c D U xM109.2.1 xM109.2.2.1 vwCl x_Tb x_Nb xM109.1.cls := ⟨hx, hb, hml, hown, hts, hK, hK0, hU, hN, x_Tb_good, x_Nb_ok⟩
  exact ⟨(x_cons (fl8 hts) (x_cons (fl142 hts) (x_cons (fl143 hts) x_nilm))), (x_cons (fw144 hts) x_nilm), x_nilm, x_nilm, x_nilm, x_nilm, x_nilm, (x_cons (x_cokS X xm12 (x_cons (x_at 383 (by decide +kernel) rfl) (x_cons (x_at 369 (by decide +kernel) rfl) (x_cons (x_at 65 (by decide +kernel) rfl) x_nilm))) (x_at 370 (by decide +kernel) rfl) (by decide +kernel) ⟨Nat.le_of_ble_eq_true rfl, Nat.le_of_ble_eq_true rfl⟩) (x_cons (x_cokV (ci := 11) X xm8 rfl rfl rfl (x_cons (x_at 375 (by decide +kernel) rfl) (x_cons (x_at 377 (by decide +kernel) rfl) (x_cons (x_at 1 (by decide +kernel) rfl) (x_cons (x_at 65 (by decide +kernel) rfl) x_nilm)))) (x_at 378 (by decide +kernel) rfl) (by decide +kernel) ⟨Nat.le_of_ble_eq_true rfl, Nat.le_of_ble_eq_true rfl⟩) x_nilm)), x_nilm, x_nilm, x_nilm⟩
set_option maxRecDepth 1000000 in
theorem xm109 : x_Met vwCl x_G x_Zs x_Tb x_Nb xM109 := x_main xT109 [] [] 2500 (by decide +kernel) (by decide +kernel) xk109 (by decide +kernel)
/-- TwinFires.unword()I -/
def xM110 : xM := (⟨"TwinFires", "unword", "()I"⟩, prog_1_method_28_code, 2, some .int, [xR false [0]], [([xR false [0]], some (xI 0 8))], [(2, 12)], (0, 0, 0, 0), none)
def xT110 : xTab := ([(12, 0, 0), (254, 2, 12)], [(254, 2, 12)], [], [], [], [], [], [], [], [], [])
set_option maxRecDepth 100000 in
set_option maxHeartbeats 4000000 in
theorem xk110 : x_TOK vwCl x_G x_Zs x_Tb x_Nb xM110 xT110 := by
  intro p l e s m args below meth c D U hx hb hml hts hown hK hK0 hU hnm hN
  have X : x_cx p s m args c D U xM110.2.1 xM110.2.2.1 vwCl x_Tb x_Nb xM110.1.cls := ⟨hx, hb, hml, hown, hts, hK, hK0, hU, hN, x_Tb_good, x_Nb_ok⟩
  exact ⟨(x_cons (fl8 hts) (x_cons (fl142 hts) x_nilm)), (x_cons (fw144 hts) x_nilm), x_nilm, x_nilm, x_nilm, x_nilm, x_nilm, x_nilm, x_nilm, x_nilm, x_nilm⟩
set_option maxRecDepth 1000000 in
theorem xm110 : x_Met vwCl x_G x_Zs x_Tb x_Nb xM110 := x_main xT110 [] [] 2500 (by decide +kernel) (by decide +kernel) xk110 (by decide +kernel)
/-- TwinFires$Rows.readBy(LTwinFires$Land;II)I -/
def xM111 : xM := (⟨"TwinFires$Rows", "readBy", "(LTwinFires$Land;II)I"⟩, prog_7_method_18_code, 4, some .int, [xR false [2], xI 0 8, xF], [([xR false [2], xI 0 8, xF], some (xI 0 8))], [], (1, 20, 0, 0), none)
def xT111 : xTab := ([(92, 2, 12), (106, 2, 13)], [], [], [], [], [], [], [(1, 37, 1, none, xM71)], [], [], [])
set_option maxRecDepth 100000 in
set_option maxHeartbeats 4000000 in
theorem xk111 : x_TOK vwCl x_G x_Zs x_Tb x_Nb xM111 xT111 := by
  intro p l e s m args below meth c D U hx hb hml hts hown hK hK0 hU hnm hN
  have X : x_cx p s m args c D U xM111.2.1 xM111.2.2.1 vwCl x_Tb x_Nb xM111.1.cls := ⟨hx, hb, hml, hown, hts, hK, hK0, hU, hN, x_Tb_good, x_Nb_ok⟩
  exact ⟨(x_cons (fl145 hts) (x_cons (fl146 hts) x_nilm)), x_nilm, x_nilm, x_nilm, x_nilm, x_nilm, x_nilm, (x_cons (x_cokS X xm71 (x_cons (x_at 777 (by decide +kernel) rfl) (x_cons (x_at 754 (by decide +kernel) rfl) (x_cons (x_at 85 (by decide +kernel) rfl) x_nilm))) (x_at 755 (by decide +kernel) rfl) (by decide +kernel) ⟨Nat.le_of_ble_eq_true rfl, Nat.le_of_ble_eq_true rfl⟩) x_nilm), x_nilm, x_nilm, x_nilm⟩
set_option maxRecDepth 1000000 in
theorem xm111 : x_Met vwCl x_G x_Zs x_Tb x_Nb xM111 := x_main xT111 [] [] 2500 (by decide +kernel) (by decide +kernel) xk111 (by decide +kernel)
/-- TwinFires$Rows.mostReadNear(I)I -/
def xM112 : xM := (⟨"TwinFires$Rows", "mostReadNear", "(I)I"⟩, prog_7_method_21_code, 4, some .int, [xR false [8], xF], [([xR false [8], xF], some (xI (-1) 8))], [], (2, 41, 0, 0), none)
def xT112 : xTab := ([(9, 8, 0), (21, 8, 4), (27, 8, 1)], [], [], [], [], [], [], [(1, 52, 2, none, xM94)], [], [], [])
set_option maxRecDepth 100000 in
set_option maxHeartbeats 4000000 in
theorem xk112 : x_TOK vwCl x_G x_Zs x_Tb x_Nb xM112 xT112 := by
  intro p l e s m args below meth c D U hx hb hml hts hown hK hK0 hU hnm hN
  have X : x_cx p s m args c D U xM112.2.1 xM112.2.2.1 vwCl x_Tb x_Nb xM112.1.cls := ⟨hx, hb, hml, hown, hts, hK, hK0, hU, hN, x_Tb_good, x_Nb_ok⟩
  exact ⟨(x_cons (fl135 hts) (x_cons (fl147 hts) (x_cons (fl136 hts) x_nilm))), x_nilm, x_nilm, x_nilm, x_nilm, x_nilm, x_nilm, (x_cons (x_cokS X xm94 (x_cons (x_at 862 (by decide +kernel) rfl) (x_cons (x_at 863 (by decide +kernel) rfl) (x_cons (x_at 72 (by decide +kernel) rfl) x_nilm))) (x_at 864 (by decide +kernel) rfl) (by decide +kernel) ⟨Nat.le_of_ble_eq_true rfl, Nat.le_of_ble_eq_true rfl⟩) x_nilm), x_nilm, x_nilm, x_nilm⟩
set_option maxRecDepth 1000000 in
theorem xm112 : x_Met vwCl x_G x_Zs x_Tb x_Nb xM112 := x_main xT112 [(4, ([(0, xR false [8]), (1, xF), (2, xI (-1) 8), (3, xI 0 1024)], [], []), (3, true), [], false, 0, [])] [] 2500 (by decide +kernel) (by decide +kernel) xk112 (by decide +kernel)
/-- TwinFires$Rows.readOneHour(LTwinFires$Land;I)Z -/
def xM113 : xM := (⟨"TwinFires$Rows", "readOneHour", "(LTwinFires$Land;I)Z"⟩, prog_7_method_20_code, 6, some .boolean, [xR false [8], xR false [2], xF], [([xR false [8], xR false [2], xF], some (xI 0 1))], [(8, 4), (8, 5), (38, 0)], (3, 64, 0, 0), none)
def xT113 : xTab := ([(9, 8, 0), (21, 8, 4), (24, 8, 5), (27, 8, 1)], [(21, 8, 4), (24, 8, 5)], [], [], [], [], [], [(1, 95, 3, none, xM111), (0, 109, 2, some 8, xM112)], [], [], [])
set_option maxRecDepth 100000 in
set_option maxHeartbeats 4000000 in
theorem xk113 : x_TOK vwCl x_G x_Zs x_Tb x_Nb xM113 xT113 := by
  intro p l e s m args below meth c D U hx hb hml hts hown hK hK0 hU hnm hN
  have X : x_cx p s m args c D U xM113.2.1 xM113.2.2.1 vwCl x_Tb x_Nb xM113.1.cls := ⟨hx, hb, hml, hown, hts, hK, hK0, hU, hN, x_Tb_good, x_Nb_ok⟩
  exact ⟨(x_cons (fl135 hts) (x_cons (fl147 hts) (x_cons (fl148 hts) (x_cons (fl136 hts) x_nilm)))), (x_cons (fw149 hts) (x_cons (fw150 hts) x_nilm)), x_nilm, x_nilm, x_nilm, x_nilm, x_nilm, (x_cons (x_cokS X xm111 (x_cons (x_at 937 (by decide +kernel) rfl) (x_cons (x_at 938 (by decide +kernel) rfl) (x_cons (x_at 72 (by decide +kernel) rfl) x_nilm))) (x_at 939 (by decide +kernel) rfl) (by decide +kernel) ⟨Nat.le_of_ble_eq_true rfl, Nat.le_of_ble_eq_true rfl⟩) (x_cons (x_cokV (ci := 5) X xm112 rfl rfl rfl (x_cons (x_at 944 (by decide +kernel) rfl) (x_cons (x_at 946 (by decide +kernel) rfl) (x_cons (x_at 24 (by decide +kernel) rfl) (x_cons (x_at 72 (by decide +kernel) rfl) x_nilm)))) (x_at 947 (by decide +kernel) rfl) (by decide +kernel) ⟨Nat.le_of_ble_eq_true rfl, Nat.le_of_ble_eq_true rfl⟩) x_nilm)), x_nilm, x_nilm, x_nilm⟩
set_option maxRecDepth 1000000 in
theorem xm113 : x_Met vwCl x_G x_Zs x_Tb x_Nb xM113 := x_main xT113 [(5, ([(0, xR false [8]), (1, xR false [2]), (2, xF), (3, xI 0 1), (4, xI 0 1024)], [], []), (4, true), [], false, 0, [])] [] 2500 (by decide +kernel) (by decide +kernel) xk113 (by decide +kernel)
/-- TwinFires$Rows.isAllRead(I)Z -/
def xM114 : xM := (⟨"TwinFires$Rows", "isAllRead", "(I)Z"⟩, prog_7_method_19_code, 3, some .boolean, [xR false [8], xF], [([xR false [8], xF], some (xI 1 1)), ([xR false [8], xF], some (xI 0 0))], [], (0, 0, 0, 0), none)
def xT114 : xTab := ([(21, 8, 4), (27, 8, 1)], [], [], [], [], [], [], [], [], [], [])
set_option maxRecDepth 100000 in
set_option maxHeartbeats 4000000 in
theorem xk114 : x_TOK vwCl x_G x_Zs x_Tb x_Nb xM114 xT114 := by
  intro p l e s m args below meth c D U hx hb hml hts hown hK hK0 hU hnm hN
  have X : x_cx p s m args c D U xM114.2.1 xM114.2.2.1 vwCl x_Tb x_Nb xM114.1.cls := ⟨hx, hb, hml, hown, hts, hK, hK0, hU, hN, x_Tb_good, x_Nb_ok⟩
  exact ⟨(x_cons (fl147 hts) (x_cons (fl136 hts) x_nilm)), x_nilm, x_nilm, x_nilm, x_nilm, x_nilm, x_nilm, x_nilm, x_nilm, x_nilm, x_nilm⟩
set_option maxRecDepth 1000000 in
theorem xm114 : x_Met vwCl x_G x_Zs x_Tb x_Nb xM114 := x_main xT114 [(2, ([(0, xR false [8]), (1, xF), (2, xI 0 1024)], [], []), (2, true), [], false, 0, [])] [] 2500 (by decide +kernel) (by decide +kernel) xk114 (by decide +kernel)
/-- TwinFires$Rows.hoursToRead(LTwinFires$Land;II)I -/
def xM115 : xM := (⟨"TwinFires$Rows", "hoursToRead", "(LTwinFires$Land;II)I"⟩, prog_7_method_17_code, 7, some .int, [xR false [8], xR false [2], xI 0 1023, xF], [([xR false [8], xR false [2], xI 0 1023, xF], some (xI (-1) 9216))], [(8, 4), (8, 5), (38, 0)], (4, 89, 0, 0), none)
def xT115 : xTab := ([(9, 8, 0), (21, 8, 4), (27, 8, 1), (92, 2, 12)], [], [], [], [], [], [], [(1, 95, 3, none, xM111), (0, 99, 3, some 8, xM113), (0, 103, 2, some 8, xM114)], [], [], [])
set_option maxRecDepth 100000 in
set_option maxHeartbeats 4000000 in
theorem xk115 : x_TOK vwCl x_G x_Zs x_Tb x_Nb xM115 xT115 := by
  intro p l e s m args below meth c D U hx hb hml hts hown hK hK0 hU hnm hN
  have X : x_cx p s m args c D U xM115.2.1 xM115.2.2.1 vwCl x_Tb x_Nb xM115.1.cls := ⟨hx, hb, hml, hown, hts, hK, hK0, hU, hN, x_Tb_good, x_Nb_ok⟩
  exact ⟨(x_cons (fl135 hts) (x_cons (fl147 hts) (x_cons (fl136 hts) (x_cons (fl145 hts) x_nilm)))), x_nilm, x_nilm, x_nilm, x_nilm, x_nilm, x_nilm, (x_cons (x_cokS X xm111 (x_cons (x_at 937 (by decide +kernel) rfl) (x_cons (x_at 938 (by decide +kernel) rfl) (x_cons (x_at 72 (by decide +kernel) rfl) x_nilm))) (x_at 939 (by decide +kernel) rfl) (by decide +kernel) ⟨Nat.le_of_ble_eq_true rfl, Nat.le_of_ble_eq_true rfl⟩) (x_cons (x_cokV (ci := 5) X xm113 rfl rfl rfl (x_cons (x_at 940 (by decide +kernel) rfl) (x_cons (x_at 942 (by decide +kernel) rfl) (x_cons (x_at 23 (by decide +kernel) rfl) (x_cons (x_at 72 (by decide +kernel) rfl) x_nilm)))) (x_at 943 (by decide +kernel) rfl) (by decide +kernel) ⟨Nat.le_of_ble_eq_true rfl, Nat.le_of_ble_eq_true rfl⟩) (x_cons (x_cokV (ci := 5) X xm114 rfl rfl rfl (x_cons (x_at 948 (by decide +kernel) rfl) (x_cons (x_at 950 (by decide +kernel) rfl) (x_cons (x_at 25 (by decide +kernel) rfl) (x_cons (x_at 72 (by decide +kernel) rfl) x_nilm)))) (x_at 951 (by decide +kernel) rfl) (by decide +kernel) ⟨Nat.le_of_ble_eq_true rfl, Nat.le_of_ble_eq_true rfl⟩) x_nilm))), x_nilm, x_nilm, x_nilm⟩
set_option maxRecDepth 1000000 in
theorem xm115 : x_Met vwCl x_G x_Zs x_Tb x_Nb xM115 := x_main xT115 [(17, ([(0, xR false [8]), (1, xR false [2]), (2, xI 0 1023), (3, xF), (4, xI 0 1), (5, xI 0 1024)], [], [(1, 2, 12, xI 0 8)]), (5, true), [], false, 0, []), (98, ([(0, xR false [8]), (1, xR false [2]), (2, xI 0 1023), (3, xF), (4, xI 0 1), (5, xI 0 1), (6, xI 0 9216)], [], [(0, 5, 1, xI 0 1024), (1, 2, 12, xI 0 8)]), (6, true), [], false, 0, [])] [] 2500 (by decide +kernel) (by decide +kernel) xk115 (by decide +kernel)
/-- TwinFires.isWithin(III)Z -/
def xM116 : xM := (⟨"TwinFires", "isWithin", "(III)Z"⟩, prog_1_method_43_code, 3, some .boolean, [xF, xI (-1) (-1), xI 9 9], [([xI (-1) 9, xI (-1) (-1), xI 9 9], some (xI 1 1)), ([xF, xI (-1) (-1), xI 9 9], some (xI 0 0))], [], (0, 0, 0, 0), none)
def xT116 : xTab := ([], [], [], [], [], [], [], [], [], [], [])
set_option maxRecDepth 100000 in
set_option maxHeartbeats 4000000 in
theorem xk116 : x_TOK vwCl x_G x_Zs x_Tb x_Nb xM116 xT116 := by
  intro p l e s m args below meth c D U hx hb hml hts hown hK hK0 hU hnm hN
  have X : x_cx p s m args c D U xM116.2.1 xM116.2.2.1 vwCl x_Tb x_Nb xM116.1.cls := ⟨hx, hb, hml, hown, hts, hK, hK0, hU, hN, x_Tb_good, x_Nb_ok⟩
  exact ⟨x_nilm, x_nilm, x_nilm, x_nilm, x_nilm, x_nilm, x_nilm, x_nilm, x_nilm, x_nilm, x_nilm⟩
set_option maxRecDepth 1000000 in
theorem xm116 : x_Met vwCl x_G x_Zs x_Tb x_Nb xM116 := x_main xT116 [] [] 2500 (by decide +kernel) (by decide +kernel) xk116 (by decide +kernel)
/-- TwinFires.report(II)I -/
def xM117 : xM := (⟨"TwinFires", "report", "(II)I"⟩, prog_1_method_30_code, 4, some .int, [xR false [0], xF, xF], [([xR false [0], xF, xF], some (xF))], [(22, 0), (42, 0)], (2, 45, 0, 0), none)
def xT117 : xTab := ([(12, 0, 0), (264, 2, 4)], [], [], [], [], [], [], [(1, 88, 3, none, xM116), (0, 101, 2, some 2, xM40), (0, 221, 3, some 0, xM7)], [], [], [])
set_option maxRecDepth 100000 in
set_option maxHeartbeats 4000000 in
theorem xk117 : x_TOK vwCl x_G x_Zs x_Tb x_Nb xM117 xT117 := by
  intro p l e s m args below meth c D U hx hb hml hts hown hK hK0 hU hnm hN
  have X : x_cx p s m args c D U xM117.2.1 xM117.2.2.1 vwCl x_Tb x_Nb xM117.1.cls := ⟨hx, hb, hml, hown, hts, hK, hK0, hU, hN, x_Tb_good, x_Nb_ok⟩
  exact ⟨(x_cons (fl8 hts) (x_cons (fl151 hts) x_nilm)), x_nilm, x_nilm, x_nilm, x_nilm, x_nilm, x_nilm, (x_cons (x_cokS X xm116 (x_cons (x_at 383 (by decide +kernel) rfl) (x_cons (x_at 369 (by decide +kernel) rfl) (x_cons (x_at 65 (by decide +kernel) rfl) x_nilm))) (x_at 370 (by decide +kernel) rfl) (by decide +kernel) ⟨Nat.le_of_ble_eq_true rfl, Nat.le_of_ble_eq_true rfl⟩) (x_cons (x_cokV (ci := 2) X xm40 rfl rfl rfl (x_cons (x_at 536 (by decide +kernel) rfl) (x_cons (x_at 537 (by decide +kernel) rfl) (x_cons (x_at 538 (by decide +kernel) rfl) (x_cons (x_at 66 (by decide +kernel) rfl) x_nilm)))) (x_at 539 (by decide +kernel) rfl) (by decide +kernel) ⟨Nat.le_of_ble_eq_true rfl, Nat.le_of_ble_eq_true rfl⟩) (x_cons (x_cokV (ci := 11) X xm7 rfl rfl rfl (x_cons (x_at 379 (by decide +kernel) rfl) (x_cons (x_at 381 (by decide +kernel) rfl) (x_cons (x_at 2 (by decide +kernel) rfl) (x_cons (x_at 65 (by decide +kernel) rfl) x_nilm)))) (x_at 382 (by decide +kernel) rfl) (by decide +kernel) ⟨Nat.le_of_ble_eq_true rfl, Nat.le_of_ble_eq_true rfl⟩) x_nilm))), x_nilm, x_nilm, x_nilm⟩
set_option maxRecDepth 1000000 in
theorem xm117 : x_Met vwCl x_G x_Zs x_Tb x_Nb xM117 := x_main xT117 [] [] 2500 (by decide +kernel) (by decide +kernel) xk117 (by decide +kernel)
/-- TwinFires.blame(II)I -/
def xM118 : xM := (⟨"TwinFires", "blame", "(II)I"⟩, prog_1_method_31_code, 4, some .int, [xR false [0], xF, xF], [([xR false [0], xF, xF], some (xF))], [(23, 0), (42, 0)], (3, 66, 0, 0), none)
def xT118 : xTab := ([(12, 0, 0), (267, 2, 5)], [], [], [], [], [], [], [(1, 88, 3, none, xM12), (0, 59, 2, some 0, xM8), (0, 101, 2, some 2, xM40)], [], [], [])
set_option maxRecDepth 100000 in
set_option maxHeartbeats 4000000 in
theorem xk118 : x_TOK vwCl x_G x_Zs x_Tb x_Nb xM118 xT118 := by
  intro p l e s m args below meth c D U hx hb hml hts hown hK hK0 hU hnm hN
  have X : x_cx p s m args c D U xM118.2.1 xM118.2.2.1 vwCl x_Tb x_Nb xM118.1.cls := ⟨hx, hb, hml, hown, hts, hK, hK0, hU, hN, x_Tb_good, x_Nb_ok⟩
  exact ⟨(x_cons (fl8 hts) (x_cons (fl152 hts) x_nilm)), x_nilm, x_nilm, x_nilm, x_nilm, x_nilm, x_nilm, (x_cons (x_cokS X xm12 (x_cons (x_at 383 (by decide +kernel) rfl) (x_cons (x_at 369 (by decide +kernel) rfl) (x_cons (x_at 65 (by decide +kernel) rfl) x_nilm))) (x_at 370 (by decide +kernel) rfl) (by decide +kernel) ⟨Nat.le_of_ble_eq_true rfl, Nat.le_of_ble_eq_true rfl⟩) (x_cons (x_cokV (ci := 11) X xm8 rfl rfl rfl (x_cons (x_at 375 (by decide +kernel) rfl) (x_cons (x_at 377 (by decide +kernel) rfl) (x_cons (x_at 1 (by decide +kernel) rfl) (x_cons (x_at 65 (by decide +kernel) rfl) x_nilm)))) (x_at 378 (by decide +kernel) rfl) (by decide +kernel) ⟨Nat.le_of_ble_eq_true rfl, Nat.le_of_ble_eq_true rfl⟩) (x_cons (x_cokV (ci := 2) X xm40 rfl rfl rfl (x_cons (x_at 536 (by decide +kernel) rfl) (x_cons (x_at 537 (by decide +kernel) rfl) (x_cons (x_at 538 (by decide +kernel) rfl) (x_cons (x_at 66 (by decide +kernel) rfl) x_nilm)))) (x_at 539 (by decide +kernel) rfl) (by decide +kernel) ⟨Nat.le_of_ble_eq_true rfl, Nat.le_of_ble_eq_true rfl⟩) x_nilm))), x_nilm, x_nilm, x_nilm⟩
set_option maxRecDepth 1000000 in
theorem xm118 : x_Met vwCl x_G x_Zs x_Tb x_Nb xM118 := x_main xT118 [] [] 2500 (by decide +kernel) (by decide +kernel) xk118 (by decide +kernel)
/-- TwinFires.isTrue(II)Z -/
def xM119 : xM := (⟨"TwinFires", "isTrue", "(II)Z"⟩, prog_1_method_55_code, 3, some .boolean, [xR false [0], xI 0 9, xF], [([xR false [0], xI 0 9, xF], some (xI 1 1)), ([xR false [0], xI 0 9, xF], some (xI 0 0))], [], (1, 20, 0, 0), none)
def xT119 : xTab := ([(12, 0, 0), (33, 0, 4), (107, 6, 1), (264, 2, 4)], [], [], [], [], [], [], [(1, 175, 1, none, xM71)], [], [], [])
set_option maxRecDepth 100000 in
set_option maxHeartbeats 4000000 in
theorem xk119 : x_TOK vwCl x_G x_Zs x_Tb x_Nb xM119 xT119 := by
  intro p l e s m args below meth c D U hx hb hml hts hown hK hK0 hU hnm hN
  have X : x_cx p s m args c D U xM119.2.1 xM119.2.2.1 vwCl x_Tb x_Nb xM119.1.cls := ⟨hx, hb, hml, hown, hts, hK, hK0, hU, hN, x_Tb_good, x_Nb_ok⟩
  exact ⟨(x_cons (fl8 hts) (x_cons (fl102 hts) (x_cons (fl103 hts) (x_cons (fl151 hts) x_nilm)))), x_nilm, x_nilm, x_nilm, x_nilm, x_nilm, x_nilm, (x_cons (x_cokS X xm71 (x_cons (x_at 759 (by decide +kernel) rfl) (x_cons (x_at 754 (by decide +kernel) rfl) (x_cons (x_at 85 (by decide +kernel) rfl) x_nilm))) (x_at 755 (by decide +kernel) rfl) (by decide +kernel) ⟨Nat.le_of_ble_eq_true rfl, Nat.le_of_ble_eq_true rfl⟩) x_nilm), x_nilm, x_nilm, x_nilm⟩
set_option maxRecDepth 1000000 in
theorem xm119 : x_Met vwCl x_G x_Zs x_Tb x_Nb xM119 := x_main xT119 [] [] 2500 (by decide +kernel) (by decide +kernel) xk119 (by decide +kernel)
/-- TwinFires.isAsReported(I)Z -/
def xM120 : xM := (⟨"TwinFires", "isAsReported", "(I)Z"⟩, prog_1_method_54_code, 3, some .boolean, [xR false [0], xF], [([xR false [0], xF], some (xI 0 0)), ([xR false [0], xF], some (xI 1 1))], [], (2, 42, 0, 0), none)
def xT120 : xTab := ([(12, 0, 0), (264, 2, 4), (273, 2, 0)], [], [], [], [], [], [], [(0, 330, 3, some 0, xM119)], [], [], [])
set_option maxRecDepth 100000 in
set_option maxHeartbeats 4000000 in
theorem xk120 : x_TOK vwCl x_G x_Zs x_Tb x_Nb xM120 xT120 := by
  intro p l e s m args below meth c D U hx hb hml hts hown hK hK0 hU hnm hN
  have X : x_cx p s m args c D U xM120.2.1 xM120.2.2.1 vwCl x_Tb x_Nb xM120.1.cls := ⟨hx, hb, hml, hown, hts, hK, hK0, hU, hN, x_Tb_good, x_Nb_ok⟩
  exact ⟨(x_cons (fl8 hts) (x_cons (fl151 hts) (x_cons (fl153 hts) x_nilm))), x_nilm, x_nilm, x_nilm, x_nilm, x_nilm, x_nilm, (x_cons (x_cokV (ci := 11) X xm119 rfl rfl rfl (x_cons (x_at 973 (by decide +kernel) rfl) (x_cons (x_at 975 (by decide +kernel) rfl) (x_cons (x_at 28 (by decide +kernel) rfl) (x_cons (x_at 65 (by decide +kernel) rfl) x_nilm)))) (x_at 976 (by decide +kernel) rfl) (by decide +kernel) ⟨Nat.le_of_ble_eq_true rfl, Nat.le_of_ble_eq_true rfl⟩) x_nilm), x_nilm, x_nilm, x_nilm⟩
set_option maxRecDepth 1000000 in
theorem xm120 : x_Met vwCl x_G x_Zs x_Tb x_Nb xM120 := x_main xT120 [(2, ([(0, xR false [0]), (1, xF), (2, xI 0 10)], [], []), (2, true), [], false, 0, [])] [] 2500 (by decide +kernel) (by decide +kernel) xk120 (by decide +kernel)
end
section
/-- TwinFires.suspects(I)I -/
def xM121 : xM := (⟨"TwinFires", "suspects", "(I)I"⟩, prog_1_method_53_code, 4, some .int, [xR false [0], xF], [([xR false [0], xF], some (xI 0 1023))], [], (3, 64, 0, 0), none)
def xT121 : xTab := ([(12, 0, 0), (273, 2, 0)], [], [], [], [], [], [], [(1, 276, 2, none, xM70), (0, 327, 2, some 0, xM120)], [], [], [])
set_option maxRecDepth 100000 in
set_option maxHeartbeats 4000000 in
theorem xk121 : x_TOK vwCl x_G x_Zs x_Tb x_Nb xM121 xT121 := by
  intro p l e s m args below meth c D U hx hb hml hts hown hK hK0 hU hnm hN
  have X : x_cx p s m args c D U xM121.2.1 xM121.2.2.1 vwCl x_Tb x_Nb xM121.1.cls := ⟨hx, hb, hml, hown, hts, hK, hK0, hU, hN, x_Tb_good, x_Nb_ok⟩
  exact ⟨(x_cons (fl8 hts) (x_cons (fl153 hts) x_nilm)), x_nilm, x_nilm, x_nilm, x_nilm, x_nilm, x_nilm, (x_cons (x_cokS X xm70 (x_cons (x_at 968 (by decide +kernel) rfl) (x_cons (x_at 751 (by decide +kernel) rfl) (x_cons (x_at 65 (by decide +kernel) rfl) x_nilm))) (x_at 752 (by decide +kernel) rfl) (by decide +kernel) ⟨Nat.le_of_ble_eq_true rfl, Nat.le_of_ble_eq_true rfl⟩) (x_cons (x_cokV (ci := 11) X xm120 rfl rfl rfl (x_cons (x_at 969 (by decide +kernel) rfl) (x_cons (x_at 971 (by decide +kernel) rfl) (x_cons (x_at 27 (by decide +kernel) rfl) (x_cons (x_at 65 (by decide +kernel) rfl) x_nilm)))) (x_at 972 (by decide +kernel) rfl) (by decide +kernel) ⟨Nat.le_of_ble_eq_true rfl, Nat.le_of_ble_eq_true rfl⟩) x_nilm)), x_nilm, x_nilm, x_nilm⟩
set_option maxRecDepth 1000000 in
theorem xm121 : x_Met vwCl x_G x_Zs x_Tb x_Nb xM121 := x_main xT121 [(4, ([(0, xR false [0]), (1, xF), (2, xI 0 1023), (3, xI 0 10)], [], []), (3, true), [], false, 0, [])] [] 2500 (by decide +kernel) (by decide +kernel) xk121 (by decide +kernel)
/-- TwinFires.without(I)I -/
def xM122 : xM := (⟨"TwinFires", "without", "(I)I"⟩, prog_1_method_32_code, 2, some .int, [xR false [0], xF], [([xR false [0], xF], some (xF))], [(10, 0), (10, 1), (10, 2), (10, 3), (10, 4), (10, 5), (10, 6), (10, 7), (32, 0), (33, 0), (34, 0), (42, 0)], (6, 138, 0, 0), none)
def xT122 : xTab := ([(12, 0, 0)], [], [], [], [], [], [], [(0, 59, 2, some 0, xM8), (0, 104, 1, some 0, xM52), (0, 169, 2, some 2, xM67), (0, 224, 2, some 0, xM92), (0, 270, 2, some 0, xM121)], [], [], [])
set_option maxRecDepth 100000 in
set_option maxHeartbeats 4000000 in
theorem xk122 : x_TOK vwCl x_G x_Zs x_Tb x_Nb xM122 xT122 := by
  intro p l e s m args below meth c D U hx hb hml hts hown hK hK0 hU hnm hN
  have X : x_cx p s m args c D U xM122.2.1 xM122.2.2.1 vwCl x_Tb x_Nb xM122.1.cls := ⟨hx, hb, hml, hown, hts, hK, hK0, hU, hN, x_Tb_good, x_Nb_ok⟩
  exact ⟨(x_cons (fl8 hts) x_nilm), x_nilm, x_nilm, x_nilm, x_nilm, x_nilm, x_nilm, (x_cons (x_cokV (ci := 11) X xm8 rfl rfl rfl (x_cons (x_at 375 (by decide +kernel) rfl) (x_cons (x_at 377 (by decide +kernel) rfl) (x_cons (x_at 1 (by decide +kernel) rfl) (x_cons (x_at 65 (by decide +kernel) rfl) x_nilm)))) (x_at 378 (by decide +kernel) rfl) (by decide +kernel) ⟨Nat.le_of_ble_eq_true rfl, Nat.le_of_ble_eq_true rfl⟩) (x_cons (x_cokV (ci := 11) X xm52 rfl rfl rfl (x_cons (x_at 540 (by decide +kernel) rfl) (x_cons (x_at 542 (by decide +kernel) rfl) (x_cons (x_at 3 (by decide +kernel) rfl) (x_cons (x_at 65 (by decide +kernel) rfl) x_nilm)))) (x_at 543 (by decide +kernel) rfl) (by decide +kernel) ⟨Nat.le_of_ble_eq_true rfl, Nat.le_of_ble_eq_true rfl⟩) (x_cons (x_cokV (ci := 2) X xm67 rfl rfl rfl (x_cons (x_at 738 (by decide +kernel) rfl) (x_cons (x_at 739 (by decide +kernel) rfl) (x_cons (x_at 740 (by decide +kernel) rfl) (x_cons (x_at 66 (by decide +kernel) rfl) x_nilm)))) (x_at 741 (by decide +kernel) rfl) (by decide +kernel) ⟨Nat.le_of_ble_eq_true rfl, Nat.le_of_ble_eq_true rfl⟩) (x_cons (x_cokV (ci := 11) X xm92 rfl rfl rfl (x_cons (x_at 849 (by decide +kernel) rfl) (x_cons (x_at 851 (by decide +kernel) rfl) (x_cons (x_at 17 (by decide +kernel) rfl) (x_cons (x_at 65 (by decide +kernel) rfl) x_nilm)))) (x_at 852 (by decide +kernel) rfl) (by decide +kernel) ⟨Nat.le_of_ble_eq_true rfl, Nat.le_of_ble_eq_true rfl⟩) (x_cons (x_cokV (ci := 11) X xm121 rfl rfl rfl (x_cons (x_at 964 (by decide +kernel) rfl) (x_cons (x_at 966 (by decide +kernel) rfl) (x_cons (x_at 26 (by decide +kernel) rfl) (x_cons (x_at 65 (by decide +kernel) rfl) x_nilm)))) (x_at 967 (by decide +kernel) rfl) (by decide +kernel) ⟨Nat.le_of_ble_eq_true rfl, Nat.le_of_ble_eq_true rfl⟩) x_nilm))))), x_nilm, x_nilm, x_nilm⟩
set_option maxRecDepth 1000000 in
theorem xm122 : x_Met vwCl x_G x_Zs x_Tb x_Nb xM122 := x_main xT122 [] [] 2500 (by decide +kernel) (by decide +kernel) xk122 (by decide +kernel)
/-- TwinFires.chance(II)I -/
def xM123 : xM := (⟨"TwinFires", "chance", "(II)I"⟩, prog_1_method_33_code, 6, some .int, [xR false [0], xF, xF], [([xR false [0], xF, xF], some (xF))], [(0, 7), (0, 8), (10, 0), (10, 1), (10, 2), (10, 3), (10, 4), (10, 5), (10, 6), (10, 7), (32, 0), (33, 0), (34, 0), (42, 0)], (6, 138, 0, 0), none)
def xT123 : xTab := ([(12, 0, 0), (267, 2, 5), (273, 2, 0)], [], [], [], [], [], [], [(1, 276, 2, none, xM70), (0, 59, 2, some 0, xM8), (0, 101, 2, some 2, xM40), (0, 104, 1, some 0, xM52), (0, 137, 3, some 0, xM54), (0, 169, 2, some 2, xM67), (0, 224, 2, some 0, xM92), (0, 270, 2, some 0, xM121)], [], [], [])
set_option maxRecDepth 100000 in
set_option maxHeartbeats 4000000 in
theorem xk123 : x_TOK vwCl x_G x_Zs x_Tb x_Nb xM123 xT123 := by
  intro p l e s m args below meth c D U hx hb hml hts hown hK hK0 hU hnm hN
  have X : x_cx p s m args c D U xM123.2.1 xM123.2.2.1 vwCl x_Tb x_Nb xM123.1.cls := ⟨hx, hb, hml, hown, hts, hK, hK0, hU, hN, x_Tb_good, x_Nb_ok⟩
  exact ⟨(x_cons (fl8 hts) (x_cons (fl152 hts) (x_cons (fl153 hts) x_nilm))), x_nilm, x_nilm, x_nilm, x_nilm, x_nilm, x_nilm, (x_cons (x_cokS X xm70 (x_cons (x_at 968 (by decide +kernel) rfl) (x_cons (x_at 751 (by decide +kernel) rfl) (x_cons (x_at 65 (by decide +kernel) rfl) x_nilm))) (x_at 752 (by decide +kernel) rfl) (by decide +kernel) ⟨Nat.le_of_ble_eq_true rfl, Nat.le_of_ble_eq_true rfl⟩) (x_cons (x_cokV (ci := 11) X xm8 rfl rfl rfl (x_cons (x_at 375 (by decide +kernel) rfl) (x_cons (x_at 377 (by decide +kernel) rfl) (x_cons (x_at 1 (by decide +kernel) rfl) (x_cons (x_at 65 (by decide +kernel) rfl) x_nilm)))) (x_at 378 (by decide +kernel) rfl) (by decide +kernel) ⟨Nat.le_of_ble_eq_true rfl, Nat.le_of_ble_eq_true rfl⟩) (x_cons (x_cokV (ci := 2) X xm40 rfl rfl rfl (x_cons (x_at 536 (by decide +kernel) rfl) (x_cons (x_at 537 (by decide +kernel) rfl) (x_cons (x_at 538 (by decide +kernel) rfl) (x_cons (x_at 66 (by decide +kernel) rfl) x_nilm)))) (x_at 539 (by decide +kernel) rfl) (by decide +kernel) ⟨Nat.le_of_ble_eq_true rfl, Nat.le_of_ble_eq_true rfl⟩) (x_cons (x_cokV (ci := 11) X xm52 rfl rfl rfl (x_cons (x_at 540 (by decide +kernel) rfl) (x_cons (x_at 542 (by decide +kernel) rfl) (x_cons (x_at 3 (by decide +kernel) rfl) (x_cons (x_at 65 (by decide +kernel) rfl) x_nilm)))) (x_at 543 (by decide +kernel) rfl) (by decide +kernel) ⟨Nat.le_of_ble_eq_true rfl, Nat.le_of_ble_eq_true rfl⟩) (x_cons (x_cokV (ci := 11) X xm54 rfl rfl rfl (x_cons (x_at 599 (by decide +kernel) rfl) (x_cons (x_at 601 (by decide +kernel) rfl) (x_cons (x_at 7 (by decide +kernel) rfl) (x_cons (x_at 65 (by decide +kernel) rfl) x_nilm)))) (x_at 602 (by decide +kernel) rfl) (by decide +kernel) ⟨Nat.le_of_ble_eq_true rfl, Nat.le_of_ble_eq_true rfl⟩) (x_cons (x_cokV (ci := 2) X xm67 rfl rfl rfl (x_cons (x_at 738 (by decide +kernel) rfl) (x_cons (x_at 739 (by decide +kernel) rfl) (x_cons (x_at 740 (by decide +kernel) rfl) (x_cons (x_at 66 (by decide +kernel) rfl) x_nilm)))) (x_at 741 (by decide +kernel) rfl) (by decide +kernel) ⟨Nat.le_of_ble_eq_true rfl, Nat.le_of_ble_eq_true rfl⟩) (x_cons (x_cokV (ci := 11) X xm92 rfl rfl rfl (x_cons (x_at 849 (by decide +kernel) rfl) (x_cons (x_at 851 (by decide +kernel) rfl) (x_cons (x_at 17 (by decide +kernel) rfl) (x_cons (x_at 65 (by decide +kernel) rfl) x_nilm)))) (x_at 852 (by decide +kernel) rfl) (by decide +kernel) ⟨Nat.le_of_ble_eq_true rfl, Nat.le_of_ble_eq_true rfl⟩) (x_cons (x_cokV (ci := 11) X xm121 rfl rfl rfl (x_cons (x_at 964 (by decide +kernel) rfl) (x_cons (x_at 966 (by decide +kernel) rfl) (x_cons (x_at 26 (by decide +kernel) rfl) (x_cons (x_at 65 (by decide +kernel) rfl) x_nilm)))) (x_at 967 (by decide +kernel) rfl) (by decide +kernel) ⟨Nat.le_of_ble_eq_true rfl, Nat.le_of_ble_eq_true rfl⟩) x_nilm)))))))), x_nilm, x_nilm, x_nilm⟩
set_option maxRecDepth 1000000 in
theorem xm123 : x_Met vwCl x_G x_Zs x_Tb x_Nb xM123 := x_main xT123 [(60, ([(0, xR false [0]), (1, xI 0 1023), (2, xI 0 9), (3, xI 0 1023), (4, xF), (5, xI 0 10)], [], [(0, 11, 0, xR false [2])]), (5, true), [], false, 0, [])] [] 2500 (by decide +kernel) (by decide +kernel) xk123 (by decide +kernel)
/-- TwinFires.weight(II)J -/
def xM124 : xM := (⟨"TwinFires", "weight", "(II)J"⟩, prog_1_method_56_code, 7, some .long, [xR false [0], xF, xI 0 9], [([xR false [0], xF, xI 0 9], some (xFL))], [], (2, 42, 0, 0), none)
def xT124 : xTab := ([(12, 0, 0), (95, 2, 10), (264, 2, 4), (267, 2, 5), (273, 2, 0)], [], [], [], [], [], [], [(0, 330, 3, some 0, xM119)], [], [], [])
set_option maxRecDepth 100000 in
set_option maxHeartbeats 4000000 in
theorem xk124 : x_TOK vwCl x_G x_Zs x_Tb x_Nb xM124 xT124 := by
  intro p l e s m args below meth c D U hx hb hml hts hown hK hK0 hU hnm hN
  have X : x_cx p s m args c D U xM124.2.1 xM124.2.2.1 vwCl x_Tb x_Nb xM124.1.cls := ⟨hx, hb, hml, hown, hts, hK, hK0, hU, hN, x_Tb_good, x_Nb_ok⟩
  exact ⟨(x_cons (fl8 hts) (x_cons (fl58 hts) (x_cons (fl151 hts) (x_cons (fl152 hts) (x_cons (fl153 hts) x_nilm))))), x_nilm, x_nilm, x_nilm, x_nilm, x_nilm, x_nilm, (x_cons (x_cokV (ci := 11) X xm119 rfl rfl rfl (x_cons (x_at 973 (by decide +kernel) rfl) (x_cons (x_at 975 (by decide +kernel) rfl) (x_cons (x_at 28 (by decide +kernel) rfl) (x_cons (x_at 65 (by decide +kernel) rfl) x_nilm)))) (x_at 976 (by decide +kernel) rfl) (by decide +kernel) ⟨Nat.le_of_ble_eq_true rfl, Nat.le_of_ble_eq_true rfl⟩) x_nilm), x_nilm, x_nilm, x_nilm⟩
set_option maxRecDepth 1000000 in
theorem xm124 : x_Met vwCl x_G x_Zs x_Tb x_Nb xM124 := x_main xT124 [(21, ([(0, xR false [0]), (1, xF), (2, xI 0 9), (3, xF), (4, xFL), (6, xI 0 10)], [], [(0, 11, 0, xR false [2])]), (5, true), [], false, 0, [])] [] 2500 (by decide +kernel) (by decide +kernel) xk124 (by decide +kernel)
/-- TwinFires.lies(II)I -/
def xM125 : xM := (⟨"TwinFires", "lies", "(II)I"⟩, prog_1_method_34_code, 6, some .int, [xR false [0], xF, xF], [([xR false [0], xF, xF], some (xF))], [(0, 7), (0, 8), (10, 0), (10, 1), (10, 2), (10, 3), (10, 4), (10, 5), (10, 6), (10, 7), (32, 0), (33, 0), (34, 0), (42, 0)], (6, 138, 0, 0), none)
def xT125 : xTab := ([(12, 0, 0), (273, 2, 0)], [], [], [], [], [], [], [(1, 276, 2, none, xM70), (0, 59, 2, some 0, xM8), (0, 101, 2, some 2, xM40), (0, 104, 1, some 0, xM52), (0, 137, 3, some 0, xM54), (0, 169, 2, some 2, xM67), (0, 224, 2, some 0, xM92), (0, 279, 3, some 0, xM124)], [], [], [])
set_option maxRecDepth 100000 in
set_option maxHeartbeats 4000000 in
theorem xk125 : x_TOK vwCl x_G x_Zs x_Tb x_Nb xM125 xT125 := by
  intro p l e s m args below meth c D U hx hb hml hts hown hK hK0 hU hnm hN
  have X : x_cx p s m args c D U xM125.2.1 xM125.2.2.1 vwCl x_Tb x_Nb xM125.1.cls := ⟨hx, hb, hml, hown, hts, hK, hK0, hU, hN, x_Tb_good, x_Nb_ok⟩
  exact ⟨(x_cons (fl8 hts) (x_cons (fl153 hts) x_nilm)), x_nilm, x_nilm, x_nilm, x_nilm, x_nilm, x_nilm, (x_cons (x_cokS X xm70 (x_cons (x_at 968 (by decide +kernel) rfl) (x_cons (x_at 751 (by decide +kernel) rfl) (x_cons (x_at 65 (by decide +kernel) rfl) x_nilm))) (x_at 752 (by decide +kernel) rfl) (by decide +kernel) ⟨Nat.le_of_ble_eq_true rfl, Nat.le_of_ble_eq_true rfl⟩) (x_cons (x_cokV (ci := 11) X xm8 rfl rfl rfl (x_cons (x_at 375 (by decide +kernel) rfl) (x_cons (x_at 377 (by decide +kernel) rfl) (x_cons (x_at 1 (by decide +kernel) rfl) (x_cons (x_at 65 (by decide +kernel) rfl) x_nilm)))) (x_at 378 (by decide +kernel) rfl) (by decide +kernel) ⟨Nat.le_of_ble_eq_true rfl, Nat.le_of_ble_eq_true rfl⟩) (x_cons (x_cokV (ci := 2) X xm40 rfl rfl rfl (x_cons (x_at 536 (by decide +kernel) rfl) (x_cons (x_at 537 (by decide +kernel) rfl) (x_cons (x_at 538 (by decide +kernel) rfl) (x_cons (x_at 66 (by decide +kernel) rfl) x_nilm)))) (x_at 539 (by decide +kernel) rfl) (by decide +kernel) ⟨Nat.le_of_ble_eq_true rfl, Nat.le_of_ble_eq_true rfl⟩) (x_cons (x_cokV (ci := 11) X xm52 rfl rfl rfl (x_cons (x_at 540 (by decide +kernel) rfl) (x_cons (x_at 542 (by decide +kernel) rfl) (x_cons (x_at 3 (by decide +kernel) rfl) (x_cons (x_at 65 (by decide +kernel) rfl) x_nilm)))) (x_at 543 (by decide +kernel) rfl) (by decide +kernel) ⟨Nat.le_of_ble_eq_true rfl, Nat.le_of_ble_eq_true rfl⟩) (x_cons (x_cokV (ci := 11) X xm54 rfl rfl rfl (x_cons (x_at 599 (by decide +kernel) rfl) (x_cons (x_at 601 (by decide +kernel) rfl) (x_cons (x_at 7 (by decide +kernel) rfl) (x_cons (x_at 65 (by decide +kernel) rfl) x_nilm)))) (x_at 602 (by decide +kernel) rfl) (by decide +kernel) ⟨Nat.le_of_ble_eq_true rfl, Nat.le_of_ble_eq_true rfl⟩) (x_cons (x_cokV (ci := 2) X xm67 rfl rfl rfl (x_cons (x_at 738 (by decide +kernel) rfl) (x_cons (x_at 739 (by decide +kernel) rfl) (x_cons (x_at 740 (by decide +kernel) rfl) (x_cons (x_at 66 (by decide +kernel) rfl) x_nilm)))) (x_at 741 (by decide +kernel) rfl) (by decide +kernel) ⟨Nat.le_of_ble_eq_true rfl, Nat.le_of_ble_eq_true rfl⟩) (x_cons (x_cokV (ci := 11) X xm92 rfl rfl rfl (x_cons (x_at 849 (by decide +kernel) rfl) (x_cons (x_at 851 (by decide +kernel) rfl) (x_cons (x_at 17 (by decide +kernel) rfl) (x_cons (x_at 65 (by decide +kernel) rfl) x_nilm)))) (x_at 852 (by decide +kernel) rfl) (by decide +kernel) ⟨Nat.le_of_ble_eq_true rfl, Nat.le_of_ble_eq_true rfl⟩) (x_cons (x_cokV (ci := 11) X xm124 rfl rfl rfl (x_cons (x_at 985 (by decide +kernel) rfl) (x_cons (x_at 987 (by decide +kernel) rfl) (x_cons (x_at 29 (by decide +kernel) rfl) (x_cons (x_at 65 (by decide +kernel) rfl) x_nilm)))) (x_at 988 (by decide +kernel) rfl) (by decide +kernel) ⟨Nat.le_of_ble_eq_true rfl, Nat.le_of_ble_eq_true rfl⟩) x_nilm)))))))), x_nilm, x_nilm, x_nilm⟩
set_option maxRecDepth 1000000 in
theorem xm125 : x_Met vwCl x_G x_Zs x_Tb x_Nb xM125 := x_main xT125 [(61, ([(0, xR false [0]), (1, xI 0 1023), (2, xI 0 9), (3, xFL), (5, xI 0 10)], [], [(0, 11, 0, xR false [2])]), (4, true), [], false, 0, [])] [] 2500 (by decide +kernel) (by decide +kernel) xk125 (by decide +kernel)
/-- TwinFires.tell(III)I -/
def xM126 : xM := (⟨"TwinFires", "tell", "(III)I"⟩, prog_1_method_35_code, 6, some .int, [xR false [0], xF, xF, xF], [([xR false [0], xF, xF, xF], some (xF))], [(30, 0), (31, 0), (42, 0)], (3, 66, 0, 0), none)
def xT126 : xTab := ([(12, 0, 0), (283, 2, 14), (286, 2, 15)], [], [], [], [], [], [], [(1, 88, 3, none, xM78), (1, 88, 3, none, xM69), (0, 59, 2, some 0, xM8), (0, 101, 2, some 2, xM40)], [], [], [])
set_option maxRecDepth 100000 in
set_option maxHeartbeats 4000000 in
theorem xk126 : x_TOK vwCl x_G x_Zs x_Tb x_Nb xM126 xT126 := by
  intro p l e s m args below meth c D U hx hb hml hts hown hK hK0 hU hnm hN
  have X : x_cx p s m args c D U xM126.2.1 xM126.2.2.1 vwCl x_Tb x_Nb xM126.1.cls := ⟨hx, hb, hml, hown, hts, hK, hK0, hU, hN, x_Tb_good, x_Nb_ok⟩
  exact ⟨(x_cons (fl8 hts) (x_cons (fl154 hts) (x_cons (fl155 hts) x_nilm))), x_nilm, x_nilm, x_nilm, x_nilm, x_nilm, x_nilm, (x_cons (x_cokS X xm78 (x_cons (x_at 383 (by decide +kernel) rfl) (x_cons (x_at 369 (by decide +kernel) rfl) (x_cons (x_at 65 (by decide +kernel) rfl) x_nilm))) (x_at 370 (by decide +kernel) rfl) (by decide +kernel) ⟨Nat.le_of_ble_eq_true rfl, Nat.le_of_ble_eq_true rfl⟩) (x_cons (x_cokS X xm69 (x_cons (x_at 383 (by decide +kernel) rfl) (x_cons (x_at 369 (by decide +kernel) rfl) (x_cons (x_at 65 (by decide +kernel) rfl) x_nilm))) (x_at 370 (by decide +kernel) rfl) (by decide +kernel) ⟨Nat.le_of_ble_eq_true rfl, Nat.le_of_ble_eq_true rfl⟩) (x_cons (x_cokV (ci := 11) X xm8 rfl rfl rfl (x_cons (x_at 375 (by decide +kernel) rfl) (x_cons (x_at 377 (by decide +kernel) rfl) (x_cons (x_at 1 (by decide +kernel) rfl) (x_cons (x_at 65 (by decide +kernel) rfl) x_nilm)))) (x_at 378 (by decide +kernel) rfl) (by decide +kernel) ⟨Nat.le_of_ble_eq_true rfl, Nat.le_of_ble_eq_true rfl⟩) (x_cons (x_cokV (ci := 2) X xm40 rfl rfl rfl (x_cons (x_at 536 (by decide +kernel) rfl) (x_cons (x_at 537 (by decide +kernel) rfl) (x_cons (x_at 538 (by decide +kernel) rfl) (x_cons (x_at 66 (by decide +kernel) rfl) x_nilm)))) (x_at 539 (by decide +kernel) rfl) (by decide +kernel) ⟨Nat.le_of_ble_eq_true rfl, Nat.le_of_ble_eq_true rfl⟩) x_nilm)))), x_nilm, x_nilm, x_nilm⟩
set_option maxRecDepth 1000000 in
theorem xm126 : x_Met vwCl x_G x_Zs x_Tb x_Nb xM126 := x_main xT126 [] [] 2500 (by decide +kernel) (by decide +kernel) xk126 (by decide +kernel)
/-- TwinFires$Land.nightChange(I)I -/
def xM127 : xM := (⟨"TwinFires$Land", "nightChange", "(I)I"⟩, prog_4_method_17_code, 3, some .int, [xR false [2], xI 0 11], [([xR false [2], xI 0 11], some (xI 0 512))], [], (1, 21, 0, 0), none)
def xT127 : xTab := ([(48, 2, 14)], [], [], [], [], [], [], [(0, 136, 2, some 2, xM40)], [], [], [])
set_option maxRecDepth 100000 in
set_option maxHeartbeats 4000000 in
theorem xk127 : x_TOK vwCl x_G x_Zs x_Tb x_Nb xM127 xT127 := by
  intro p l e s m args below meth c D U hx hb hml hts hown hK hK0 hU hnm hN
  have X : x_cx p s m args c D U xM127.2.1 xM127.2.2.1 vwCl x_Tb x_Nb xM127.1.cls := ⟨hx, hb, hml, hown, hts, hK, hK0, hU, hN, x_Tb_good, x_Nb_ok⟩
  exact ⟨(x_cons (fl125 hts) x_nilm), x_nilm, x_nilm, x_nilm, x_nilm, x_nilm, x_nilm, (x_cons (x_cokV (ci := 2) X xm40 rfl rfl rfl (x_cons (x_at 1001 (by decide +kernel) rfl) (x_cons (x_at 537 (by decide +kernel) rfl) (x_cons (x_at 538 (by decide +kernel) rfl) (x_cons (x_at 66 (by decide +kernel) rfl) x_nilm)))) (x_at 539 (by decide +kernel) rfl) (by decide +kernel) ⟨Nat.le_of_ble_eq_true rfl, Nat.le_of_ble_eq_true rfl⟩) x_nilm), x_nilm, x_nilm, x_nilm⟩
set_option maxRecDepth 1000000 in
theorem xm127 : x_Met vwCl x_G x_Zs x_Tb x_Nb xM127 := x_main xT127 [] [] 2500 (by decide +kernel) (by decide +kernel) xk127 (by decide +kernel)
/-- TwinFires.night(II)I -/
def xM128 : xM := (⟨"TwinFires", "night", "(II)I"⟩, prog_1_method_36_code, 9, some .int, [xR false [0], xF, xF], [([xR false [0], xF, xF], some (xF))], [(10, 0), (10, 1), (10, 2), (10, 3), (10, 4), (10, 5), (10, 6), (10, 7), (32, 0), (33, 0), (34, 0), (42, 0)], (5, 118, 0, 0), none)
def xT128 : xTab := ([(12, 0, 0), (33, 0, 4), (95, 2, 10), (286, 2, 15)], [], [], [], [], [], [], [(1, 88, 3, none, xM6), (0, 59, 2, some 0, xM8), (0, 169, 2, some 2, xM67), (0, 200, 3, some 6, xM49), (0, 210, 3, some 0, xM81), (0, 289, 2, some 2, xM127)], [], [], [])
set_option maxRecDepth 100000 in
set_option maxHeartbeats 4000000 in
theorem xk128 : x_TOK vwCl x_G x_Zs x_Tb x_Nb xM128 xT128 := by
  intro p l e s m args below meth c D U hx hb hml hts hown hK hK0 hU hnm hN
  have X : x_cx p s m args c D U xM128.2.1 xM128.2.2.1 vwCl x_Tb x_Nb xM128.1.cls := ⟨hx, hb, hml, hown, hts, hK, hK0, hU, hN, x_Tb_good, x_Nb_ok⟩
  exact ⟨(x_cons (fl8 hts) (x_cons (fl102 hts) (x_cons (fl58 hts) (x_cons (fl155 hts) x_nilm)))), x_nilm, x_nilm, x_nilm, x_nilm, x_nilm, x_nilm, (x_cons (x_cokS X xm6 (x_cons (x_at 383 (by decide +kernel) rfl) (x_cons (x_at 369 (by decide +kernel) rfl) (x_cons (x_at 65 (by decide +kernel) rfl) x_nilm))) (x_at 370 (by decide +kernel) rfl) (by decide +kernel) ⟨Nat.le_of_ble_eq_true rfl, Nat.le_of_ble_eq_true rfl⟩) (x_cons (x_cokV (ci := 11) X xm8 rfl rfl rfl (x_cons (x_at 375 (by decide +kernel) rfl) (x_cons (x_at 377 (by decide +kernel) rfl) (x_cons (x_at 1 (by decide +kernel) rfl) (x_cons (x_at 65 (by decide +kernel) rfl) x_nilm)))) (x_at 378 (by decide +kernel) rfl) (by decide +kernel) ⟨Nat.le_of_ble_eq_true rfl, Nat.le_of_ble_eq_true rfl⟩) (x_cons (x_cokV (ci := 2) X xm67 rfl rfl rfl (x_cons (x_at 738 (by decide +kernel) rfl) (x_cons (x_at 739 (by decide +kernel) rfl) (x_cons (x_at 740 (by decide +kernel) rfl) (x_cons (x_at 66 (by decide +kernel) rfl) x_nilm)))) (x_at 741 (by decide +kernel) rfl) (by decide +kernel) ⟨Nat.le_of_ble_eq_true rfl, Nat.le_of_ble_eq_true rfl⟩) (x_cons (x_cokV (ci := 0) X xm49 rfl rfl rfl (x_cons (x_at 544 (by decide +kernel) rfl) (x_cons (x_at 545 (by decide +kernel) rfl) (x_cons (x_at 546 (by decide +kernel) rfl) (x_cons (x_at 70 (by decide +kernel) rfl) x_nilm)))) (x_at 547 (by decide +kernel) rfl) (by decide +kernel) ⟨Nat.le_of_ble_eq_true rfl, Nat.le_of_ble_eq_true rfl⟩) (x_cons (x_cokV (ci := 11) X xm81 rfl rfl rfl (x_cons (x_at 800 (by decide +kernel) rfl) (x_cons (x_at 802 (by decide +kernel) rfl) (x_cons (x_at 14 (by decide +kernel) rfl) (x_cons (x_at 65 (by decide +kernel) rfl) x_nilm)))) (x_at 803 (by decide +kernel) rfl) (by decide +kernel) ⟨Nat.le_of_ble_eq_true rfl, Nat.le_of_ble_eq_true rfl⟩) (x_cons (x_cokV (ci := 2) X xm127 rfl rfl rfl (x_cons (x_at 997 (by decide +kernel) rfl) (x_cons (x_at 998 (by decide +kernel) rfl) (x_cons (x_at 999 (by decide +kernel) rfl) (x_cons (x_at 66 (by decide +kernel) rfl) x_nilm)))) (x_at 1000 (by decide +kernel) rfl) (by decide +kernel) ⟨Nat.le_of_ble_eq_true rfl, Nat.le_of_ble_eq_true rfl⟩) x_nilm)))))), x_nilm, x_nilm, x_nilm⟩
set_option maxRecDepth 1000000 in
theorem xm128 : x_Met vwCl x_G x_Zs x_Tb x_Nb xM128 := x_main xT128 [(58, ([(0, xR false [0]), (1, xI 0 1023), (2, xI 0 2), (3, xI 0 1023), (4, xI (-1) 11), (5, xF), (6, xI 0 12)], [], [(0, 11, 4, xR false [6]), (0, 11, 0, xR false [2])]), (6, true), [], false, 0, [])] [] 2500 (by decide +kernel) (by decide +kernel) xk128 (by decide +kernel)
/-- TwinFires.part(I)J -/
def xM129 : xM := (⟨"TwinFires", "part", "(I)J"⟩, prog_1_method_37_code, 2, some .long, [xR false [0], xF], [([xR false [0], xF], some (xFL))], [(42, 0)], (2, 45, 0, 0), none)
def xT129 : xTab := ([(48, 0, 7), (52, 0, 8)], [], [], [], [], [(292, -1000000)], [], [(1, 88, 3, none, xM69), (0, 221, 3, some 0, xM7)], [], [], [])
set_option maxRecDepth 100000 in
set_option maxHeartbeats 4000000 in
theorem xk129 : x_TOK vwCl x_G x_Zs x_Tb x_Nb xM129 xT129 := by
  intro p l e s m args below meth c D U hx hb hml hts hown hK hK0 hU hnm hN
  have X : x_cx p s m args c D U xM129.2.1 xM129.2.2.1 vwCl x_Tb x_Nb xM129.1.cls := ⟨hx, hb, hml, hown, hts, hK, hK0, hU, hN, x_Tb_good, x_Nb_ok⟩
  exact ⟨(x_cons (fl156 hts) (x_cons (fl157 hts) x_nilm)), x_nilm, x_nilm, x_nilm, x_nilm, (x_cons ⟨-1000000, rfl, (hts _ (x_at 1006 (by decide +kernel) rfl))⟩ x_nilm), x_nilm, (x_cons (x_cokS X xm69 (x_cons (x_at 383 (by decide +kernel) rfl) (x_cons (x_at 369 (by decide +kernel) rfl) (x_cons (x_at 65 (by decide +kernel) rfl) x_nilm))) (x_at 370 (by decide +kernel) rfl) (by decide +kernel) ⟨Nat.le_of_ble_eq_true rfl, Nat.le_of_ble_eq_true rfl⟩) (x_cons (x_cokV (ci := 11) X xm7 rfl rfl rfl (x_cons (x_at 379 (by decide +kernel) rfl) (x_cons (x_at 381 (by decide +kernel) rfl) (x_cons (x_at 2 (by decide +kernel) rfl) (x_cons (x_at 65 (by decide +kernel) rfl) x_nilm)))) (x_at 382 (by decide +kernel) rfl) (by decide +kernel) ⟨Nat.le_of_ble_eq_true rfl, Nat.le_of_ble_eq_true rfl⟩) x_nilm)), x_nilm, x_nilm, x_nilm⟩
set_option maxRecDepth 1000000 in
theorem xm129 : x_Met vwCl x_G x_Zs x_Tb x_Nb xM129 := x_main xT129 [] [] 2500 (by decide +kernel) (by decide +kernel) xk129 (by decide +kernel)
/-- java/util/Arrays.fill([II)V -/
def xM130 : xM := (⟨"java/util/Arrays", "fill", "([II)V"⟩, prog_21_method_103_code, 4, none, [xR false [30], xI (-1) (-1)], [([xR false [30], xI (-1) (-1)], none)], [(30, 0)], (0, 0, 0, 0), none)
def xT130 : xTab := ([], [], [], [], [], [], [], [], [], [], [])
set_option maxRecDepth 100000 in
set_option maxHeartbeats 4000000 in
theorem xk130 : x_TOK vwCl x_G x_Zs x_Tb x_Nb xM130 xT130 := by
  intro p l e s m args below meth c D U hx hb hml hts hown hK hK0 hU hnm hN
  have X : x_cx p s m args c D U xM130.2.1 xM130.2.2.1 vwCl x_Tb x_Nb xM130.1.cls := ⟨hx, hb, hml, hown, hts, hK, hK0, hU, hN, x_Tb_good, x_Nb_ok⟩
  exact ⟨x_nilm, x_nilm, x_nilm, x_nilm, x_nilm, x_nilm, x_nilm, x_nilm, x_nilm, x_nilm, x_nilm⟩
set_option maxRecDepth 1000000 in
theorem xm130 : x_Met vwCl x_G x_Zs x_Tb x_Nb xM130 := x_main xT130 [(5, ([(0, xR false [30]), (1, xI (-1) (-1)), (2, xI 0 12), (3, xI 12 12)], [], []), (2, true), [], false, 0, [])] [] 2500 (by decide +kernel) (by decide +kernel) xk130 (by decide +kernel)
/-- TwinFires.from(I)I -/
def xM131 : xM := (⟨"TwinFires", "from", "(I)I"⟩, prog_1_method_39_code, 2, some .int, [xR false [0], xF], [([xR false [0], xF], some (xF))], [(2, 0), (2, 6), (2, 12), (19, 0), (20, 0), (21, 0), (22, 0), (23, 0), (24, 0), (25, 0), (26, 0), (27, 0), (28, 0), (29, 0), (30, 0), (31, 0), (42, 0)], (3, 66, 0, 0), none)
def xT131 : xTab := ([(12, 0, 0), (19, 0, 2)], [], [], [], [], [], [], [(1, 88, 3, none, xM69), (0, 59, 2, some 0, xM8), (0, 148, 2, some 2, xM58)], [], [], [])
set_option maxRecDepth 100000 in
set_option maxHeartbeats 4000000 in
theorem xk131 : x_TOK vwCl x_G x_Zs x_Tb x_Nb xM131 xT131 := by
  intro p l e s m args below meth c D U hx hb hml hts hown hK hK0 hU hnm hN
  have X : x_cx p s m args c D U xM131.2.1 xM131.2.2.1 vwCl x_Tb x_Nb xM131.1.cls := ⟨hx, hb, hml, hown, hts, hK, hK0, hU, hN, x_Tb_good, x_Nb_ok⟩
  exact ⟨(x_cons (fl8 hts) (x_cons (fl158 hts) x_nilm)), x_nilm, x_nilm, x_nilm, x_nilm, x_nilm, x_nilm, (x_cons (x_cokS X xm69 (x_cons (x_at 383 (by decide +kernel) rfl) (x_cons (x_at 369 (by decide +kernel) rfl) (x_cons (x_at 65 (by decide +kernel) rfl) x_nilm))) (x_at 370 (by decide +kernel) rfl) (by decide +kernel) ⟨Nat.le_of_ble_eq_true rfl, Nat.le_of_ble_eq_true rfl⟩) (x_cons (x_cokV (ci := 11) X xm8 rfl rfl rfl (x_cons (x_at 375 (by decide +kernel) rfl) (x_cons (x_at 377 (by decide +kernel) rfl) (x_cons (x_at 1 (by decide +kernel) rfl) (x_cons (x_at 65 (by decide +kernel) rfl) x_nilm)))) (x_at 378 (by decide +kernel) rfl) (by decide +kernel) ⟨Nat.le_of_ble_eq_true rfl, Nat.le_of_ble_eq_true rfl⟩) (x_cons (x_cokV (ci := 2) X xm58 rfl rfl rfl (x_cons (x_at 623 (by decide +kernel) rfl) (x_cons (x_at 624 (by decide +kernel) rfl) (x_cons (x_at 625 (by decide +kernel) rfl) (x_cons (x_at 66 (by decide +kernel) rfl) x_nilm)))) (x_at 626 (by decide +kernel) rfl) (by decide +kernel) ⟨Nat.le_of_ble_eq_true rfl, Nat.le_of_ble_eq_true rfl⟩) x_nilm))), x_nilm, x_nilm, x_nilm⟩
set_option maxRecDepth 1000000 in
theorem xm131 : x_Met vwCl x_G x_Zs x_Tb x_Nb xM131 := x_main xT131 [] [(22, 1)] 2500 (by decide +kernel) (by decide +kernel) xk131 (by decide +kernel)
/-- TwinFires.status(I)I -/
def xM132 : xM := (⟨"TwinFires", "status", "(I)I"⟩, prog_1_method_40_code, 2, some .int, [xR false [0], xF], [([xR false [0], xF], some (xF))], [(42, 0)], (2, 45, 0, 0), none)
def xT132 : xTab := ([(44, 0, 6)], [], [], [], [], [], [], [(1, 88, 3, none, xM6), (0, 221, 3, some 0, xM7)], [], [], [])
set_option maxRecDepth 100000 in
set_option maxHeartbeats 4000000 in
theorem xk132 : x_TOK vwCl x_G x_Zs x_Tb x_Nb xM132 xT132 := by
  intro p l e s m args below meth c D U hx hb hml hts hown hK hK0 hU hnm hN
  have X : x_cx p s m args c D U xM132.2.1 xM132.2.2.1 vwCl x_Tb x_Nb xM132.1.cls := ⟨hx, hb, hml, hown, hts, hK, hK0, hU, hN, x_Tb_good, x_Nb_ok⟩
  exact ⟨(x_cons (fl7 hts) x_nilm), x_nilm, x_nilm, x_nilm, x_nilm, x_nilm, x_nilm, (x_cons (x_cokS X xm6 (x_cons (x_at 383 (by decide +kernel) rfl) (x_cons (x_at 369 (by decide +kernel) rfl) (x_cons (x_at 65 (by decide +kernel) rfl) x_nilm))) (x_at 370 (by decide +kernel) rfl) (by decide +kernel) ⟨Nat.le_of_ble_eq_true rfl, Nat.le_of_ble_eq_true rfl⟩) (x_cons (x_cokV (ci := 11) X xm7 rfl rfl rfl (x_cons (x_at 379 (by decide +kernel) rfl) (x_cons (x_at 381 (by decide +kernel) rfl) (x_cons (x_at 2 (by decide +kernel) rfl) (x_cons (x_at 65 (by decide +kernel) rfl) x_nilm)))) (x_at 382 (by decide +kernel) rfl) (by decide +kernel) ⟨Nat.le_of_ble_eq_true rfl, Nat.le_of_ble_eq_true rfl⟩) x_nilm)), x_nilm, x_nilm, x_nilm⟩
set_option maxRecDepth 1000000 in
theorem xm132 : x_Met vwCl x_G x_Zs x_Tb x_Nb xM132 := x_main xT132 [] [] 2500 (by decide +kernel) (by decide +kernel) xk132 (by decide +kernel)
/-- TwinFires$Land.reports()I -/
def xM133 : xM := (⟨"TwinFires$Land", "reports", "()I"⟩, prog_4_method_14_code, 3, some .int, [xR false [2]], [([xR false [2]], some (xF))], [], (0, 0, 0, 0), none)
def xT133 : xTab := ([(21, 2, 4), (63, 2, 0)], [], [], [], [], [], [], [], [], [], [])
set_option maxRecDepth 100000 in
set_option maxHeartbeats 4000000 in
theorem xk133 : x_TOK vwCl x_G x_Zs x_Tb x_Nb xM133 xT133 := by
  intro p l e s m args below meth c D U hx hb hml hts hown hK hK0 hU hnm hN
  have X : x_cx p s m args c D U xM133.2.1 xM133.2.2.1 vwCl x_Tb x_Nb xM133.1.cls := ⟨hx, hb, hml, hown, hts, hK, hK0, hU, hN, x_Tb_good, x_Nb_ok⟩
  exact ⟨(x_cons (fl4 hts) (x_cons (fl2 hts) x_nilm)), x_nilm, x_nilm, x_nilm, x_nilm, x_nilm, x_nilm, x_nilm, x_nilm, x_nilm, x_nilm⟩
set_option maxRecDepth 1000000 in
theorem xm133 : x_Met vwCl x_G x_Zs x_Tb x_Nb xM133 := x_main xT133 [(4, ([(0, xR false [2]), (1, xF), (2, xI 0 10)], [], []), (2, true), [], false, 0, [])] [] 2500 (by decide +kernel) (by decide +kernel) xk133 (by decide +kernel)
/-- TwinFires.count(I)I -/
def xM134 : xM := (⟨"TwinFires", "count", "(I)I"⟩, prog_1_method_41_code, 2, some .int, [xR false [0], xF], [([xR false [0], xF], some (xF))], [(42, 0)], (3, 66, 0, 0), none)
def xT134 : xTab := ([(12, 0, 0), (26, 0, 3), (145, 4, 2), (254, 2, 12), (273, 2, 0), (293, 2, 6)], [], [], [], [], [], [], [(0, 59, 2, some 0, xM8), (0, 296, 1, some 2, xM133)], [], [], [])
set_option maxRecDepth 100000 in
set_option maxHeartbeats 4000000 in
theorem xk134 : x_TOK vwCl x_G x_Zs x_Tb x_Nb xM134 xT134 := by
  intro p l e s m args below meth c D U hx hb hml hts hown hK hK0 hU hnm hN
  have X : x_cx p s m args c D U xM134.2.1 xM134.2.2.1 vwCl x_Tb x_Nb xM134.1.cls := ⟨hx, hb, hml, hown, hts, hK, hK0, hU, hN, x_Tb_good, x_Nb_ok⟩
  exact ⟨(x_cons (fl8 hts) (x_cons (fl120 hts) (x_cons (fl121 hts) (x_cons (fl142 hts) (x_cons (fl153 hts) (x_cons (fl159 hts) x_nilm)))))), x_nilm, x_nilm, x_nilm, x_nilm, x_nilm, x_nilm, (x_cons (x_cokV (ci := 11) X xm8 rfl rfl rfl (x_cons (x_at 375 (by decide +kernel) rfl) (x_cons (x_at 377 (by decide +kernel) rfl) (x_cons (x_at 1 (by decide +kernel) rfl) (x_cons (x_at 65 (by decide +kernel) rfl) x_nilm)))) (x_at 378 (by decide +kernel) rfl) (by decide +kernel) ⟨Nat.le_of_ble_eq_true rfl, Nat.le_of_ble_eq_true rfl⟩) (x_cons (x_cokV (ci := 2) X xm133 rfl rfl rfl (x_cons (x_at 1023 (by decide +kernel) rfl) (x_cons (x_at 1024 (by decide +kernel) rfl) (x_cons (x_at 1025 (by decide +kernel) rfl) (x_cons (x_at 66 (by decide +kernel) rfl) x_nilm)))) (x_at 1026 (by decide +kernel) rfl) (by decide +kernel) ⟨Nat.le_of_ble_eq_true rfl, Nat.le_of_ble_eq_true rfl⟩) x_nilm)), x_nilm, x_nilm, x_nilm⟩
set_option maxRecDepth 1000000 in
theorem xm134 : x_Met vwCl x_G x_Zs x_Tb x_Nb xM134 := x_main xT134 [] [] 2500 (by decide +kernel) (by decide +kernel) xk134 (by decide +kernel)
/-- TwinFires.mixed(JJ)J -/
def xM135 : xM := (⟨"TwinFires", "mixed", "(JJ)J"⟩, prog_1_method_45_code, 4, some .long, [xFL, xFL], [([xFL, xFL], some (xFL))], [], (0, 0, 0, 0), none)
def xT135 : xTab := ([], [], [], [], [], [], [(315, 31)], [], [], [], [])
set_option maxRecDepth 100000 in
set_option maxHeartbeats 4000000 in
theorem xk135 : x_TOK vwCl x_G x_Zs x_Tb x_Nb xM135 xT135 := by
  intro p l e s m args below meth c D U hx hb hml hts hown hK hK0 hU hnm hN
  have X : x_cx p s m args c D U xM135.2.1 xM135.2.2.1 vwCl x_Tb x_Nb xM135.1.cls := ⟨hx, hb, hml, hown, hts, hK, hK0, hU, hN, x_Tb_good, x_Nb_ok⟩
  exact ⟨x_nilm, x_nilm, x_nilm, x_nilm, x_nilm, x_nilm, (x_cons ⟨31, rfl, (hts _ (x_at 1035 (by decide +kernel) rfl))⟩ x_nilm), x_nilm, x_nilm, x_nilm, x_nilm⟩
set_option maxRecDepth 1000000 in
theorem xm135 : x_Met vwCl x_G x_Zs x_Tb x_Nb xM135 := x_main xT135 [] [] 2500 (by decide +kernel) (by decide +kernel) xk135 (by decide +kernel)
/-- TwinFires$Land.digestOfHills(J)J -/
def xM136 : xM := (⟨"TwinFires$Land", "digestOfHills", "(J)J"⟩, prog_4_method_18_code, 6, some .long, [xR false [2], xFL], [([xR false [2], xFL], some (xFL))], [], (1, 23, 0, 0), none)
def xT136 : xTab := ([(9, 2, 1), (15, 2, 2), (18, 2, 3), (21, 2, 4), (24, 2, 5), (63, 2, 0)], [], [], [], [], [], [], [(1, 140, 2, none, xM135)], [], [], [])
set_option maxRecDepth 100000 in
set_option maxHeartbeats 4000000 in
theorem xk136 : x_TOK vwCl x_G x_Zs x_Tb x_Nb xM136 xT136 := by
  intro p l e s m args below meth c D U hx hb hml hts hown hK hK0 hU hnm hN
  have X : x_cx p s m args c D U xM136.2.1 xM136.2.2.1 vwCl x_Tb x_Nb xM136.1.cls := ⟨hx, hb, hml, hown, hts, hK, hK0, hU, hN, x_Tb_good, x_Nb_ok⟩
  exact ⟨(x_cons (fl0 hts) (x_cons (fl1 hts) (x_cons (fl3 hts) (x_cons (fl4 hts) (x_cons (fl5 hts) (x_cons (fl2 hts) x_nilm)))))), x_nilm, x_nilm, x_nilm, x_nilm, x_nilm, x_nilm, (x_cons (x_cokSN (host := "TwinFires") X xm135 (x_cons (x_at 1033 (by decide +kernel) rfl) (x_cons (x_at 65 (by decide +kernel) rfl) x_nilm)) (x_nt 1040 (by decide +kernel) rfl) (x_at 1034 (by decide +kernel) rfl) (by decide +kernel) ⟨Nat.le_of_ble_eq_true rfl, Nat.le_of_ble_eq_true rfl⟩) x_nilm), x_nilm, x_nilm, x_nilm⟩
set_option maxRecDepth 1000000 in
theorem xm136 : x_Met vwCl x_G x_Zs x_Tb x_Nb xM136 := x_main xT136 [(5, ([(0, xR false [2]), (1, xFL), (3, xFL), (5, xI 0 10)], [], []), (3, true), [], false, 0, [])] [] 2500 (by decide +kernel) (by decide +kernel) xk136 (by decide +kernel)
/-- TwinFires$Land.digestOfThings(J)J -/
def xM137 : xM := (⟨"TwinFires$Land", "digestOfThings", "(J)J"⟩, prog_4_method_19_code, 7, some .long, [xR false [2], xFL], [([xR false [2], xFL], some (xFL))], [], (1, 23, 0, 0), none)
def xT137 : xTab := ([(29, 2, 7), (33, 2, 8), (36, 2, 9), (73, 2, 6), (144, 11, 0), (144, 12, 0), (144, 13, 0), (144, 14, 0), (144, 15, 0), (144, 16, 0), (147, 11, 1), (147, 12, 1), (147, 13, 1), (147, 14, 1), (147, 15, 1), (147, 16, 1), (149, 11, 2), (149, 12, 2), (149, 13, 2), (149, 14, 2), (149, 15, 2), (149, 16, 2), (151, 11, 3), (151, 12, 3), (151, 13, 3), (151, 14, 3), (151, 15, 3), (151, 16, 3), (154, 11, 4), (154, 12, 4), (154, 13, 4), (154, 14, 4), (154, 15, 4), (154, 16, 4)], [], [], [], [], [], [], [(1, 140, 2, none, xM135)], [], [], [])
set_option maxRecDepth 100000 in
set_option maxHeartbeats 4000000 in
theorem xk137 : x_TOK vwCl x_G x_Zs x_Tb x_Nb xM137 xT137 := by
  intro p l e s m args below meth c D U hx hb hml hts hown hK hK0 hU hnm hN
  have X : x_cx p s m args c D U xM137.2.1 xM137.2.2.1 vwCl x_Tb x_Nb xM137.1.cls := ⟨hx, hb, hml, hown, hts, hK, hK0, hU, hN, x_Tb_good, x_Nb_ok⟩
  exact ⟨(x_cons (fl39 hts) (x_cons (fl40 hts) (x_cons (fl41 hts) (x_cons (fl42 hts) (x_cons (fl160 hts) (x_cons (fl161 hts) (x_cons (fl162 hts) (x_cons (fl163 hts) (x_cons (fl164 hts) (x_cons (fl165 hts) (x_cons (fl166 hts) (x_cons (fl167 hts) (x_cons (fl168 hts) (x_cons (fl169 hts) (x_cons (fl170 hts) (x_cons (fl171 hts) (x_cons (fl172 hts) (x_cons (fl173 hts) (x_cons (fl174 hts) (x_cons (fl175 hts) (x_cons (fl176 hts) (x_cons (fl177 hts) (x_cons (fl178 hts) (x_cons (fl179 hts) (x_cons (fl180 hts) (x_cons (fl181 hts) (x_cons (fl182 hts) (x_cons (fl183 hts) (x_cons (fl184 hts) (x_cons (fl185 hts) (x_cons (fl186 hts) (x_cons (fl187 hts) (x_cons (fl188 hts) (x_cons (fl189 hts) x_nilm)))))))))))))))))))))))))))))))))), x_nilm, x_nilm, x_nilm, x_nilm, x_nilm, x_nilm, (x_cons (x_cokSN (host := "TwinFires") X xm135 (x_cons (x_at 1033 (by decide +kernel) rfl) (x_cons (x_at 65 (by decide +kernel) rfl) x_nilm)) (x_nt 1040 (by decide +kernel) rfl) (x_at 1034 (by decide +kernel) rfl) (by decide +kernel) ⟨Nat.le_of_ble_eq_true rfl, Nat.le_of_ble_eq_true rfl⟩) x_nilm), x_nilm, x_nilm, x_nilm⟩
set_option maxRecDepth 1000000 in
theorem xm137 : x_Met vwCl x_G x_Zs x_Tb x_Nb xM137 := x_main xT137 [(5, ([(0, xR false [2]), (1, xFL), (3, xFL), (5, xI 0 8)], [], []), (3, true), [], false, 0, [])] [] 2500 (by decide +kernel) (by decide +kernel) xk137 (by decide +kernel)
/-- TwinFires$Land.digestOfTimes(J)J -/
def xM138 : xM := (⟨"TwinFires$Land", "digestOfTimes", "(J)J"⟩, prog_4_method_20_code, 6, some .long, [xR false [2], xFL], [([xR false [2], xFL], some (xFL))], [], (1, 23, 0, 0), none)
def xT138 : xTab := ([(39, 2, 10), (42, 2, 11), (45, 2, 13), (48, 2, 14), (51, 2, 15), (76, 2, 12)], [], [], [], [], [], [], [(1, 140, 2, none, xM135)], [], [], [])
set_option maxRecDepth 100000 in
set_option maxHeartbeats 4000000 in
theorem xk138 : x_TOK vwCl x_G x_Zs x_Tb x_Nb xM138 xT138 := by
  intro p l e s m args below meth c D U hx hb hml hts hown hK hK0 hU hnm hN
  have X : x_cx p s m args c D U xM138.2.1 xM138.2.2.1 vwCl x_Tb x_Nb xM138.1.cls := ⟨hx, hb, hml, hown, hts, hK, hK0, hU, hN, x_Tb_good, x_Nb_ok⟩
  exact ⟨(x_cons (fl44 hts) (x_cons (fl123 hts) (x_cons (fl124 hts) (x_cons (fl125 hts) (x_cons (fl126 hts) (x_cons (fl127 hts) x_nilm)))))), x_nilm, x_nilm, x_nilm, x_nilm, x_nilm, x_nilm, (x_cons (x_cokSN (host := "TwinFires") X xm135 (x_cons (x_at 1033 (by decide +kernel) rfl) (x_cons (x_at 65 (by decide +kernel) rfl) x_nilm)) (x_nt 1040 (by decide +kernel) rfl) (x_at 1034 (by decide +kernel) rfl) (by decide +kernel) ⟨Nat.le_of_ble_eq_true rfl, Nat.le_of_ble_eq_true rfl⟩) x_nilm), x_nilm, x_nilm, x_nilm⟩
set_option maxRecDepth 1000000 in
theorem xm138 : x_Met vwCl x_G x_Zs x_Tb x_Nb xM138 := x_main xT138 [(5, ([(0, xR false [2]), (1, xFL), (3, xFL), (5, xI 0 4)], [], []), (3, true), [], false, 0, []), (33, ([(0, xR false [2]), (1, xFL), (3, xFL), (5, xI 0 12)], [], []), (3, true), [], false, 0, []), (62, ([(0, xR false [2]), (1, xFL), (3, xFL), (5, xI 0 8)], [], []), (3, true), [], false, 0, []), (93, ([(0, xR false [2]), (1, xFL), (3, xFL), (5, xI 0 12)], [], [(0, 2, 12, xI 0 8)]), (3, true), [], false, 0, [])] [] 2500 (by decide +kernel) (by decide +kernel) xk138 (by decide +kernel)
/-- TwinFires.digest()J -/
def xM139 : xM := (⟨"TwinFires", "digest", "()J"⟩, prog_1_method_42_code, 3, some .long, [xR false [0]], [([xR false [0]], some (xFL))], [], (2, 49, 0, 0), none)
def xT139 : xTab := ([(12, 0, 0), (26, 0, 3), (48, 0, 7), (52, 0, 8), (145, 4, 2), (254, 2, 12), (273, 2, 0), (293, 2, 6)], [], [], [], [], [], [(299, 619)], [(1, 301, 2, none, xM135), (0, 296, 1, some 2, xM133), (0, 305, 2, some 2, xM136), (0, 309, 2, some 2, xM137), (0, 312, 2, some 2, xM138)], [], [], [])
set_option maxRecDepth 100000 in
set_option maxHeartbeats 4000000 in
theorem xk139 : x_TOK vwCl x_G x_Zs x_Tb x_Nb xM139 xT139 := by
  intro p l e s m args below meth c D U hx hb hml hts hown hK hK0 hU hnm hN
  have X : x_cx p s m args c D U xM139.2.1 xM139.2.2.1 vwCl x_Tb x_Nb xM139.1.cls := ⟨hx, hb, hml, hown, hts, hK, hK0, hU, hN, x_Tb_good, x_Nb_ok⟩
  exact ⟨(x_cons (fl8 hts) (x_cons (fl120 hts) (x_cons (fl156 hts) (x_cons (fl157 hts) (x_cons (fl121 hts) (x_cons (fl142 hts) (x_cons (fl153 hts) (x_cons (fl159 hts) x_nilm)))))))), x_nilm, x_nilm, x_nilm, x_nilm, x_nilm, (x_cons ⟨619, rfl, (hts _ (x_at 1031 (by decide +kernel) rfl))⟩ x_nilm), (x_cons (x_cokS X xm135 (x_cons (x_at 1032 (by decide +kernel) rfl) (x_cons (x_at 1033 (by decide +kernel) rfl) (x_cons (x_at 65 (by decide +kernel) rfl) x_nilm))) (x_at 1034 (by decide +kernel) rfl) (by decide +kernel) ⟨Nat.le_of_ble_eq_true rfl, Nat.le_of_ble_eq_true rfl⟩) (x_cons (x_cokV (ci := 2) X xm133 rfl rfl rfl (x_cons (x_at 1023 (by decide +kernel) rfl) (x_cons (x_at 1024 (by decide +kernel) rfl) (x_cons (x_at 1025 (by decide +kernel) rfl) (x_cons (x_at 66 (by decide +kernel) rfl) x_nilm)))) (x_at 1026 (by decide +kernel) rfl) (by decide +kernel) ⟨Nat.le_of_ble_eq_true rfl, Nat.le_of_ble_eq_true rfl⟩) (x_cons (x_cokV (ci := 2) X xm136 rfl rfl rfl (x_cons (x_at 1036 (by decide +kernel) rfl) (x_cons (x_at 1037 (by decide +kernel) rfl) (x_cons (x_at 1038 (by decide +kernel) rfl) (x_cons (x_at 66 (by decide +kernel) rfl) x_nilm)))) (x_at 1039 (by decide +kernel) rfl) (by decide +kernel) ⟨Nat.le_of_ble_eq_true rfl, Nat.le_of_ble_eq_true rfl⟩) (x_cons (x_cokV (ci := 2) X xm137 rfl rfl rfl (x_cons (x_at 1041 (by decide +kernel) rfl) (x_cons (x_at 1042 (by decide +kernel) rfl) (x_cons (x_at 1043 (by decide +kernel) rfl) (x_cons (x_at 66 (by decide +kernel) rfl) x_nilm)))) (x_at 1044 (by decide +kernel) rfl) (by decide +kernel) ⟨Nat.le_of_ble_eq_true rfl, Nat.le_of_ble_eq_true rfl⟩) (x_cons (x_cokV (ci := 2) X xm138 rfl rfl rfl (x_cons (x_at 1045 (by decide +kernel) rfl) (x_cons (x_at 1046 (by decide +kernel) rfl) (x_cons (x_at 1047 (by decide +kernel) rfl) (x_cons (x_at 66 (by decide +kernel) rfl) x_nilm)))) (x_at 1048 (by decide +kernel) rfl) (by decide +kernel) ⟨Nat.le_of_ble_eq_true rfl, Nat.le_of_ble_eq_true rfl⟩) x_nilm))))), x_nilm, x_nilm, x_nilm⟩
set_option maxRecDepth 1000000 in
theorem xm139 : x_Met vwCl x_G x_Zs x_Tb x_Nb xM139 := x_main xT139 [] [] 2500 (by decide +kernel) (by decide +kernel) xk139 (by decide +kernel)
/-- TwinFiresModel.begins()V -/
def xM140 : xM := (⟨"TwinFiresModel", "begins", "()V"⟩, prog_14_method_4_code, 1, none, [xR false [17]], [([xR false [17]], none)], [(46, 0)], (0, 0, 0, 0), none)
def xT140 : xTab := ([(7, 17, 0)], [], [], [], [], [], [], [], [], [], [])
set_option maxRecDepth 100000 in
set_option maxHeartbeats 4000000 in
theorem xk140 : x_TOK vwCl x_G x_Zs x_Tb x_Nb xM140 xT140 := by
  intro p l e s m args below meth c D U hx hb hml hts hown hK hK0 hU hnm hN
  have X : x_cx p s m args c D U xM140.2.1 xM140.2.2.1 vwCl x_Tb x_Nb xM140.1.cls := ⟨hx, hb, hml, hown, hts, hK, hK0, hU, hN, x_Tb_good, x_Nb_ok⟩
  exact ⟨(x_cons (fl190 hts) x_nilm), x_nilm, x_nilm, x_nilm, x_nilm, x_nilm, x_nilm, x_nilm, x_nilm, x_nilm, x_nilm⟩
set_option maxRecDepth 1000000 in
theorem xm140 : x_Met vwCl x_G x_Zs x_Tb x_Nb xM140 := x_main xT140 [] [] 2500 (by decide +kernel) (by decide +kernel) xk140 (by decide +kernel)
/-- TwinFiresModel.in(JJJ)Z -/
def xM141 : xM := (⟨"TwinFiresModel", "in", "(JJJ)Z"⟩, prog_14_method_2_code, 6, some .boolean, [xFL, xL 0 0, xL 19 19], [([xL 0 19, xL 0 0, xL 19 19], some (xI 1 1)), ([xFL, xL 0 0, xL 19 19], some (xI 0 0))], [], (0, 0, 0, 0), none)
def xT141 : xTab := ([], [], [], [], [], [], [], [], [], [], [])
set_option maxRecDepth 100000 in
set_option maxHeartbeats 4000000 in
theorem xk141 : x_TOK vwCl x_G x_Zs x_Tb x_Nb xM141 xT141 := by
  intro p l e s m args below meth c D U hx hb hml hts hown hK hK0 hU hnm hN
  have X : x_cx p s m args c D U xM141.2.1 xM141.2.2.1 vwCl x_Tb x_Nb xM141.1.cls := ⟨hx, hb, hml, hown, hts, hK, hK0, hU, hN, x_Tb_good, x_Nb_ok⟩
  exact ⟨x_nilm, x_nilm, x_nilm, x_nilm, x_nilm, x_nilm, x_nilm, x_nilm, x_nilm, x_nilm, x_nilm⟩
set_option maxRecDepth 1000000 in
theorem xm141 : x_Met vwCl x_G x_Zs x_Tb x_Nb xM141 := x_main xT141 [] [] 2500 (by decide +kernel) (by decide +kernel) xk141 (by decide +kernel)
/-- TwinFiresModel.refuses(II)I -/
def xM142 : xM := (⟨"TwinFiresModel", "refuses", "(II)I"⟩, prog_14_method_5_code, 3, some .int, [xR false [17], xI 0 2, xF], [([xR false [17], xI 0 2, xF], some (xF))], [(50, 0)], (0, 0, 0, 0), none)
def xT142 : xTab := ([(23, 17, 4), (72, 17, 5)], [], [], [], [], [], [], [], [], [], [])
set_option maxRecDepth 100000 in
set_option maxHeartbeats 4000000 in
theorem xk142 : x_TOK vwCl x_G x_Zs x_Tb x_Nb xM142 xT142 := by
  intro p l e s m args below meth c D U hx hb hml hts hown hK hK0 hU hnm hN
  have X : x_cx p s m args c D U xM142.2.1 xM142.2.2.1 vwCl x_Tb x_Nb xM142.1.cls := ⟨hx, hb, hml, hown, hts, hK, hK0, hU, hN, x_Tb_good, x_Nb_ok⟩
  exact ⟨(x_cons (fl191 hts) (x_cons (fl192 hts) x_nilm)), x_nilm, x_nilm, x_nilm, x_nilm, x_nilm, x_nilm, x_nilm, x_nilm, x_nilm, x_nilm⟩
set_option maxRecDepth 1000000 in
theorem xm142 : x_Met vwCl x_G x_Zs x_Tb x_Nb xM142 := x_main xT142 [] [] 2500 (by decide +kernel) (by decide +kernel) xk142 (by decide +kernel)
/-- TwinFiresModel.bad()I -/
def xM143 : xM := (⟨"TwinFiresModel", "bad", "()I"⟩, prog_14_method_6_code, 1, some .int, [xR false [17]], [([xR false [17]], some (xF))], [(50, 0)], (1, 22, 0, 0), none)
def xT143 : xTab := ([], [], [], [], [], [], [], [(0, 76, 3, some 17, xM142)], [], [], [])
set_option maxRecDepth 100000 in
set_option maxHeartbeats 4000000 in
theorem xk143 : x_TOK vwCl x_G x_Zs x_Tb x_Nb xM143 xT143 := by
  intro p l e s m args below meth c D U hx hb hml hts hown hK hK0 hU hnm hN
  have X : x_cx p s m args c D U xM143.2.1 xM143.2.2.1 vwCl x_Tb x_Nb xM143.1.cls := ⟨hx, hb, hml, hown, hts, hK, hK0, hU, hN, x_Tb_good, x_Nb_ok⟩
  exact ⟨x_nilm, x_nilm, x_nilm, x_nilm, x_nilm, x_nilm, x_nilm, (x_cons (x_cokV (ci := 12) X xm142 rfl rfl rfl (x_cons (x_at 1159 (by decide +kernel) rfl) (x_cons (x_at 1161 (by decide +kernel) rfl) (x_cons (x_at 33 (by decide +kernel) rfl) (x_cons (x_at 73 (by decide +kernel) rfl) x_nilm)))) (x_at 1162 (by decide +kernel) rfl) (by decide +kernel) ⟨Nat.le_of_ble_eq_true rfl, Nat.le_of_ble_eq_true rfl⟩) x_nilm), x_nilm, x_nilm, x_nilm⟩
set_option maxRecDepth 1000000 in
theorem xm143 : x_Met vwCl x_G x_Zs x_Tb x_Nb xM143 := x_main xT143 [] [] 2500 (by decide +kernel) (by decide +kernel) xk143 (by decide +kernel)
/-- TwinFiresModel.in(JJJ)Z -/
def xM144 : xM := (⟨"TwinFiresModel", "in", "(JJJ)Z"⟩, prog_14_method_2_code, 6, some .boolean, [xFL, xL 0 0, xL 99 99], [([xL 0 99, xL 0 0, xL 99 99], some (xI 1 1)), ([xFL, xL 0 0, xL 99 99], some (xI 0 0))], [], (0, 0, 0, 0), none)
def xT144 : xTab := ([], [], [], [], [], [], [], [], [], [], [])
set_option maxRecDepth 100000 in
set_option maxHeartbeats 4000000 in
theorem xk144 : x_TOK vwCl x_G x_Zs x_Tb x_Nb xM144 xT144 := by
  intro p l e s m args below meth c D U hx hb hml hts hown hK hK0 hU hnm hN
  have X : x_cx p s m args c D U xM144.2.1 xM144.2.2.1 vwCl x_Tb x_Nb xM144.1.cls := ⟨hx, hb, hml, hown, hts, hK, hK0, hU, hN, x_Tb_good, x_Nb_ok⟩
  exact ⟨x_nilm, x_nilm, x_nilm, x_nilm, x_nilm, x_nilm, x_nilm, x_nilm, x_nilm, x_nilm, x_nilm⟩
set_option maxRecDepth 1000000 in
theorem xm144 : x_Met vwCl x_G x_Zs x_Tb x_Nb xM144 := x_main xT144 [] [] 2500 (by decide +kernel) (by decide +kernel) xk144 (by decide +kernel)
/-- TwinFiresModel.ofHill(II)I -/
def xM145 : xM := (⟨"TwinFiresModel", "ofHill", "(II)I"⟩, prog_14_method_17_code, 3, some .int, [xR false [17], xI 0 9, xI 0 4], [([xR false [17], xI 0 9, xI 0 4], some (xF))], [], (0, 0, 0, 0), none)
def xT145 : xTab := ([(7, 17, 0)], [], [], [], [], [], [], [], [], [], [])
set_option maxRecDepth 100000 in
set_option maxHeartbeats 4000000 in
theorem xk145 : x_TOK vwCl x_G x_Zs x_Tb x_Nb xM145 xT145 := by
  intro p l e s m args below meth c D U hx hb hml hts hown hK hK0 hU hnm hN
  have X : x_cx p s m args c D U xM145.2.1 xM145.2.2.1 vwCl x_Tb x_Nb xM145.1.cls := ⟨hx, hb, hml, hown, hts, hK, hK0, hU, hN, x_Tb_good, x_Nb_ok⟩
  exact ⟨(x_cons (fl190 hts) x_nilm), x_nilm, x_nilm, x_nilm, x_nilm, x_nilm, x_nilm, x_nilm, x_nilm, x_nilm, x_nilm⟩
set_option maxRecDepth 1000000 in
theorem xm145 : x_Met vwCl x_G x_Zs x_Tb x_Nb xM145 := x_main xT145 [] [] 2500 (by decide +kernel) (by decide +kernel) xk145 (by decide +kernel)
/-- TwinFiresModel.full()I -/
def xM146 : xM := (⟨"TwinFiresModel", "full", "()I"⟩, prog_14_method_8_code, 1, some .int, [xR false [17]], [([xR false [17]], some (xF))], [(50, 0)], (1, 22, 0, 0), none)
def xT146 : xTab := ([], [], [], [], [], [], [], [(0, 76, 3, some 17, xM142)], [], [], [])
set_option maxRecDepth 100000 in
set_option maxHeartbeats 4000000 in
theorem xk146 : x_TOK vwCl x_G x_Zs x_Tb x_Nb xM146 xT146 := by
  intro p l e s m args below meth c D U hx hb hml hts hown hK hK0 hU hnm hN
  have X : x_cx p s m args c D U xM146.2.1 xM146.2.2.1 vwCl x_Tb x_Nb xM146.1.cls := ⟨hx, hb, hml, hown, hts, hK, hK0, hU, hN, x_Tb_good, x_Nb_ok⟩
  exact ⟨x_nilm, x_nilm, x_nilm, x_nilm, x_nilm, x_nilm, x_nilm, (x_cons (x_cokV (ci := 12) X xm142 rfl rfl rfl (x_cons (x_at 1159 (by decide +kernel) rfl) (x_cons (x_at 1161 (by decide +kernel) rfl) (x_cons (x_at 33 (by decide +kernel) rfl) (x_cons (x_at 73 (by decide +kernel) rfl) x_nilm)))) (x_at 1162 (by decide +kernel) rfl) (by decide +kernel) ⟨Nat.le_of_ble_eq_true rfl, Nat.le_of_ble_eq_true rfl⟩) x_nilm), x_nilm, x_nilm, x_nilm⟩
set_option maxRecDepth 1000000 in
theorem xm146 : x_Met vwCl x_G x_Zs x_Tb x_Nb xM146 := x_main xT146 [] [] 2500 (by decide +kernel) (by decide +kernel) xk146 (by decide +kernel)
/-- TwinFiresModel.hill(III)I -/
def xM147 : xM := (⟨"TwinFiresModel", "hill", "(III)I"⟩, prog_14_method_19_code, 6, some .int, [xR false [17], xF, xF, xF], [([xR false [17], xF, xF, xF], some (xF))], [(46, 0), (50, 0)], (2, 42, 0, 0), none)
def xT147 : xTab := ([(7, 17, 0)], [], [], [], [], [], [(95, 19), (97, 99)], [(1, 87, 3, none, xM141), (1, 87, 3, none, xM144), (0, 99, 3, some 17, xM145), (0, 102, 1, some 17, xM143), (0, 105, 1, some 17, xM146)], [], [], [])
set_option maxRecDepth 100000 in
set_option maxHeartbeats 4000000 in
theorem xk147 : x_TOK vwCl x_G x_Zs x_Tb x_Nb xM147 xT147 := by
  intro p l e s m args below meth c D U hx hb hml hts hown hK hK0 hU hnm hN
  have X : x_cx p s m args c D U xM147.2.1 xM147.2.2.1 vwCl x_Tb x_Nb xM147.1.cls := ⟨hx, hb, hml, hown, hts, hK, hK0, hU, hN, x_Tb_good, x_Nb_ok⟩
  exact ⟨(x_cons (fl190 hts) x_nilm), x_nilm, x_nilm, x_nilm, x_nilm, x_nilm, (x_cons ⟨19, rfl, (hts _ (x_at 1146 (by decide +kernel) rfl))⟩ (x_cons ⟨99, rfl, (hts _ (x_at 1150 (by decide +kernel) rfl))⟩ x_nilm)), (x_cons (x_cokS X xm141 (x_cons (x_at 1147 (by decide +kernel) rfl) (x_cons (x_at 1148 (by decide +kernel) rfl) (x_cons (x_at 73 (by decide +kernel) rfl) x_nilm))) (x_at 1149 (by decide +kernel) rfl) (by decide +kernel) ⟨Nat.le_of_ble_eq_true rfl, Nat.le_of_ble_eq_true rfl⟩) (x_cons (x_cokS X xm144 (x_cons (x_at 1147 (by decide +kernel) rfl) (x_cons (x_at 1148 (by decide +kernel) rfl) (x_cons (x_at 73 (by decide +kernel) rfl) x_nilm))) (x_at 1149 (by decide +kernel) rfl) (by decide +kernel) ⟨Nat.le_of_ble_eq_true rfl, Nat.le_of_ble_eq_true rfl⟩) (x_cons (x_cokV (ci := 12) X xm145 rfl rfl rfl (x_cons (x_at 1151 (by decide +kernel) rfl) (x_cons (x_at 1153 (by decide +kernel) rfl) (x_cons (x_at 31 (by decide +kernel) rfl) (x_cons (x_at 73 (by decide +kernel) rfl) x_nilm)))) (x_at 1154 (by decide +kernel) rfl) (by decide +kernel) ⟨Nat.le_of_ble_eq_true rfl, Nat.le_of_ble_eq_true rfl⟩) (x_cons (x_cokV (ci := 12) X xm143 rfl rfl rfl (x_cons (x_at 1155 (by decide +kernel) rfl) (x_cons (x_at 1157 (by decide +kernel) rfl) (x_cons (x_at 32 (by decide +kernel) rfl) (x_cons (x_at 73 (by decide +kernel) rfl) x_nilm)))) (x_at 1158 (by decide +kernel) rfl) (by decide +kernel) ⟨Nat.le_of_ble_eq_true rfl, Nat.le_of_ble_eq_true rfl⟩) (x_cons (x_cokV (ci := 12) X xm146 rfl rfl rfl (x_cons (x_at 1163 (by decide +kernel) rfl) (x_cons (x_at 1165 (by decide +kernel) rfl) (x_cons (x_at 34 (by decide +kernel) rfl) (x_cons (x_at 73 (by decide +kernel) rfl) x_nilm)))) (x_at 1166 (by decide +kernel) rfl) (by decide +kernel) ⟨Nat.le_of_ble_eq_true rfl, Nat.le_of_ble_eq_true rfl⟩) x_nilm))))), x_nilm, x_nilm, x_nilm⟩
set_option maxRecDepth 1000000 in
theorem xm147 : x_Met vwCl x_G x_Zs x_Tb x_Nb xM147 := x_main xT147 [(46, ([(0, xR false [17]), (1, xF), (2, xF), (3, xF), (4, xI 0 1), (5, xI 0 10)], [], []), (5, true), [], false, 0, [])] [] 2500 (by decide +kernel) (by decide +kernel) xk147 (by decide +kernel)
/-- TwinFiresModel.in(JJJ)Z -/
def xM148 : xM := (⟨"TwinFiresModel", "in", "(JJJ)Z"⟩, prog_14_method_2_code, 6, some .boolean, [xFL, xFL, xFL], [([xFL, xFL, xFL], some (xI 1 1)), ([xFL, xFL, xFL], some (xI 0 0))], [], (0, 0, 0, 0), none)
def xT148 : xTab := ([], [], [], [], [], [], [], [], [], [], [])
set_option maxRecDepth 100000 in
set_option maxHeartbeats 4000000 in
theorem xk148 : x_TOK vwCl x_G x_Zs x_Tb x_Nb xM148 xT148 := by
  intro p l e s m args below meth c D U hx hb hml hts hown hK hK0 hU hnm hN
  have X : x_cx p s m args c D U xM148.2.1 xM148.2.2.1 vwCl x_Tb x_Nb xM148.1.cls := ⟨hx, hb, hml, hown, hts, hK, hK0, hU, hN, x_Tb_good, x_Nb_ok⟩
  exact ⟨x_nilm, x_nilm, x_nilm, x_nilm, x_nilm, x_nilm, x_nilm, x_nilm, x_nilm, x_nilm, x_nilm⟩
set_option maxRecDepth 1000000 in
theorem xm148 : x_Met vwCl x_G x_Zs x_Tb x_Nb xM148 := x_main xT148 [] [] 2500 (by decide +kernel) (by decide +kernel) xk148 (by decide +kernel)
/-- TwinFiresModel.in(JJJ)Z -/
def xM149 : xM := (⟨"TwinFiresModel", "in", "(JJJ)Z"⟩, prog_14_method_2_code, 6, some .boolean, [xFL, xL 0 0, xL 5 5], [([xL 0 5, xL 0 0, xL 5 5], some (xI 1 1)), ([xFL, xL 0 0, xL 5 5], some (xI 0 0))], [], (0, 0, 0, 0), none)
def xT149 : xTab := ([], [], [], [], [], [], [], [], [], [], [])
set_option maxRecDepth 100000 in
set_option maxHeartbeats 4000000 in
theorem xk149 : x_TOK vwCl x_G x_Zs x_Tb x_Nb xM149 xT149 := by
  intro p l e s m args below meth c D U hx hb hml hts hown hK hK0 hU hnm hN
  have X : x_cx p s m args c D U xM149.2.1 xM149.2.2.1 vwCl x_Tb x_Nb xM149.1.cls := ⟨hx, hb, hml, hown, hts, hK, hK0, hU, hN, x_Tb_good, x_Nb_ok⟩
  exact ⟨x_nilm, x_nilm, x_nilm, x_nilm, x_nilm, x_nilm, x_nilm, x_nilm, x_nilm, x_nilm, x_nilm⟩
set_option maxRecDepth 1000000 in
theorem xm149 : x_Met vwCl x_G x_Zs x_Tb x_Nb xM149 := x_main xT149 [] [] 2500 (by decide +kernel) (by decide +kernel) xk149 (by decide +kernel)
/-- TwinFiresModel.in(JJJ)Z -/
def xM150 : xM := (⟨"TwinFiresModel", "in", "(JJJ)Z"⟩, prog_14_method_2_code, 6, some .boolean, [xFL, xL 0 0, xL 0 0], [([xL 0 0, xL 0 0, xL 0 0], some (xI 1 1)), ([xFL, xL 0 0, xL 0 0], some (xI 0 0))], [], (0, 0, 0, 0), none)
def xT150 : xTab := ([], [], [], [], [], [], [], [], [], [], [])
set_option maxRecDepth 100000 in
set_option maxHeartbeats 4000000 in
theorem xk150 : x_TOK vwCl x_G x_Zs x_Tb x_Nb xM150 xT150 := by
  intro p l e s m args below meth c D U hx hb hml hts hown hK hK0 hU hnm hN
  have X : x_cx p s m args c D U xM150.2.1 xM150.2.2.1 vwCl x_Tb x_Nb xM150.1.cls := ⟨hx, hb, hml, hown, hts, hK, hK0, hU, hN, x_Tb_good, x_Nb_ok⟩
  exact ⟨x_nilm, x_nilm, x_nilm, x_nilm, x_nilm, x_nilm, x_nilm, x_nilm, x_nilm, x_nilm, x_nilm⟩
set_option maxRecDepth 1000000 in
theorem xm150 : x_Met vwCl x_G x_Zs x_Tb x_Nb xM150 := x_main xT150 [] [] 2500 (by decide +kernel) (by decide +kernel) xk150 (by decide +kernel)
end
section
/-- TwinFiresModel.in(JJJ)Z -/
def xM151 : xM := (⟨"TwinFiresModel", "in", "(JJJ)Z"⟩, prog_14_method_2_code, 6, some .boolean, [xFL, xL 0 0, xL 9 9], [([xL 0 9, xL 0 0, xL 9 9], some (xI 1 1)), ([xFL, xL 0 0, xL 9 9], some (xI 0 0))], [], (0, 0, 0, 0), none)
def xT151 : xTab := ([], [], [], [], [], [], [], [], [], [], [])
set_option maxRecDepth 100000 in
set_option maxHeartbeats 4000000 in
theorem xk151 : x_TOK vwCl x_G x_Zs x_Tb x_Nb xM151 xT151 := by
  intro p l e s m args below meth c D U hx hb hml hts hown hK hK0 hU hnm hN
  have X : x_cx p s m args c D U xM151.2.1 xM151.2.2.1 vwCl x_Tb x_Nb xM151.1.cls := ⟨hx, hb, hml, hown, hts, hK, hK0, hU, hN, x_Tb_good, x_Nb_ok⟩
  exact ⟨x_nilm, x_nilm, x_nilm, x_nilm, x_nilm, x_nilm, x_nilm, x_nilm, x_nilm, x_nilm, x_nilm⟩
set_option maxRecDepth 1000000 in
theorem xm151 : x_Met vwCl x_G x_Zs x_Tb x_Nb xM151 := x_main xT151 [] [] 2500 (by decide +kernel) (by decide +kernel) xk151 (by decide +kernel)
/-- TwinFiresModel.thing(IIIII)I -/
def xM152 : xM := (⟨"TwinFiresModel", "thing", "(IIIII)I"⟩, prog_14_method_20_code, 8, some .int, [xR false [17], xF, xF, xF, xF, xF], [([xR false [17], xF, xF, xF, xF, xF], some (xF))], [(46, 0), (50, 0)], (2, 42, 0, 0), none)
def xT152 : xTab := ([(7, 17, 0)], [], [], [], [], [], [(95, 19), (97, 99), (108, 5), (110, 9)], [(1, 87, 3, none, xM149), (1, 87, 3, none, xM141), (1, 87, 3, none, xM144), (1, 87, 3, none, xM150), (1, 87, 3, none, xM151), (0, 102, 1, some 17, xM143), (0, 105, 1, some 17, xM146)], [], [], [])
set_option maxRecDepth 100000 in
set_option maxHeartbeats 4000000 in
theorem xk152 : x_TOK vwCl x_G x_Zs x_Tb x_Nb xM152 xT152 := by
  intro p l e s m args below meth c D U hx hb hml hts hown hK hK0 hU hnm hN
  have X : x_cx p s m args c D U xM152.2.1 xM152.2.2.1 vwCl x_Tb x_Nb xM152.1.cls := ⟨hx, hb, hml, hown, hts, hK, hK0, hU, hN, x_Tb_good, x_Nb_ok⟩
  exact ⟨(x_cons (fl190 hts) x_nilm), x_nilm, x_nilm, x_nilm, x_nilm, x_nilm, (x_cons ⟨19, rfl, (hts _ (x_at 1146 (by decide +kernel) rfl))⟩ (x_cons ⟨99, rfl, (hts _ (x_at 1150 (by decide +kernel) rfl))⟩ (x_cons ⟨5, rfl, (hts _ (x_at 1171 (by decide +kernel) rfl))⟩ (x_cons ⟨9, rfl, (hts _ (x_at 1172 (by decide +kernel) rfl))⟩ x_nilm)))), (x_cons (x_cokS X xm149 (x_cons (x_at 1147 (by decide +kernel) rfl) (x_cons (x_at 1148 (by decide +kernel) rfl) (x_cons (x_at 73 (by decide +kernel) rfl) x_nilm))) (x_at 1149 (by decide +kernel) rfl) (by decide +kernel) ⟨Nat.le_of_ble_eq_true rfl, Nat.le_of_ble_eq_true rfl⟩) (x_cons (x_cokS X xm141 (x_cons (x_at 1147 (by decide +kernel) rfl) (x_cons (x_at 1148 (by decide +kernel) rfl) (x_cons (x_at 73 (by decide +kernel) rfl) x_nilm))) (x_at 1149 (by decide +kernel) rfl) (by decide +kernel) ⟨Nat.le_of_ble_eq_true rfl, Nat.le_of_ble_eq_true rfl⟩) (x_cons (x_cokS X xm144 (x_cons (x_at 1147 (by decide +kernel) rfl) (x_cons (x_at 1148 (by decide +kernel) rfl) (x_cons (x_at 73 (by decide +kernel) rfl) x_nilm))) (x_at 1149 (by decide +kernel) rfl) (by decide +kernel) ⟨Nat.le_of_ble_eq_true rfl, Nat.le_of_ble_eq_true rfl⟩) (x_cons (x_cokS X xm150 (x_cons (x_at 1147 (by decide +kernel) rfl) (x_cons (x_at 1148 (by decide +kernel) rfl) (x_cons (x_at 73 (by decide +kernel) rfl) x_nilm))) (x_at 1149 (by decide +kernel) rfl) (by decide +kernel) ⟨Nat.le_of_ble_eq_true rfl, Nat.le_of_ble_eq_true rfl⟩) (x_cons (x_cokS X xm151 (x_cons (x_at 1147 (by decide +kernel) rfl) (x_cons (x_at 1148 (by decide +kernel) rfl) (x_cons (x_at 73 (by decide +kernel) rfl) x_nilm))) (x_at 1149 (by decide +kernel) rfl) (by decide +kernel) ⟨Nat.le_of_ble_eq_true rfl, Nat.le_of_ble_eq_true rfl⟩) (x_cons (x_cokV (ci := 12) X xm143 rfl rfl rfl (x_cons (x_at 1155 (by decide +kernel) rfl) (x_cons (x_at 1157 (by decide +kernel) rfl) (x_cons (x_at 32 (by decide +kernel) rfl) (x_cons (x_at 73 (by decide +kernel) rfl) x_nilm)))) (x_at 1158 (by decide +kernel) rfl) (by decide +kernel) ⟨Nat.le_of_ble_eq_true rfl, Nat.le_of_ble_eq_true rfl⟩) (x_cons (x_cokV (ci := 12) X xm146 rfl rfl rfl (x_cons (x_at 1163 (by decide +kernel) rfl) (x_cons (x_at 1165 (by decide +kernel) rfl) (x_cons (x_at 34 (by decide +kernel) rfl) (x_cons (x_at 73 (by decide +kernel) rfl) x_nilm)))) (x_at 1166 (by decide +kernel) rfl) (by decide +kernel) ⟨Nat.le_of_ble_eq_true rfl, Nat.le_of_ble_eq_true rfl⟩) x_nilm))))))), x_nilm, x_nilm, x_nilm⟩
set_option maxRecDepth 1000000 in
theorem xm152 : x_Met vwCl x_G x_Zs x_Tb x_Nb xM152 := x_main xT152 [] [] 2500 (by decide +kernel) (by decide +kernel) xk152 (by decide +kernel)
/-- TwinFiresModel.puts(II)I -/
def xM153 : xM := (⟨"TwinFiresModel", "puts", "(II)I"⟩, prog_14_method_9_code, 4, some .int, [xR false [17], xI 5 5, xI 0 99], [([xR false [17], xI 5 5, xI 0 99], some (xF))], [(46, 0)], (0, 0, 0, 0), none)
def xT153 : xTab := ([(7, 17, 0)], [], [], [], [], [], [], [], [], [], [])
set_option maxRecDepth 100000 in
set_option maxHeartbeats 4000000 in
theorem xk153 : x_TOK vwCl x_G x_Zs x_Tb x_Nb xM153 xT153 := by
  intro p l e s m args below meth c D U hx hb hml hts hown hK hK0 hU hnm hN
  have X : x_cx p s m args c D U xM153.2.1 xM153.2.2.1 vwCl x_Tb x_Nb xM153.1.cls := ⟨hx, hb, hml, hown, hts, hK, hK0, hU, hN, x_Tb_good, x_Nb_ok⟩
  exact ⟨(x_cons (fl190 hts) x_nilm), x_nilm, x_nilm, x_nilm, x_nilm, x_nilm, x_nilm, x_nilm, x_nilm, x_nilm, x_nilm⟩
set_option maxRecDepth 1000000 in
theorem xm153 : x_Met vwCl x_G x_Zs x_Tb x_Nb xM153 := x_main xT153 [] [] 2500 (by decide +kernel) (by decide +kernel) xk153 (by decide +kernel)
/-- TwinFiresModel.in(JJJ)Z -/
def xM154 : xM := (⟨"TwinFiresModel", "in", "(JJJ)Z"⟩, prog_14_method_2_code, 6, some .boolean, [xFL, xL 0 0, xL 3 3], [([xL 0 3, xL 0 0, xL 3 3], some (xI 1 1)), ([xFL, xL 0 0, xL 3 3], some (xI 0 0))], [], (0, 0, 0, 0), none)
def xT154 : xTab := ([], [], [], [], [], [], [], [], [], [], [])
set_option maxRecDepth 100000 in
set_option maxHeartbeats 4000000 in
theorem xk154 : x_TOK vwCl x_G x_Zs x_Tb x_Nb xM154 xT154 := by
  intro p l e s m args below meth c D U hx hb hml hts hown hK hK0 hU hnm hN
  have X : x_cx p s m args c D U xM154.2.1 xM154.2.2.1 vwCl x_Tb x_Nb xM154.1.cls := ⟨hx, hb, hml, hown, hts, hK, hK0, hU, hN, x_Tb_good, x_Nb_ok⟩
  exact ⟨x_nilm, x_nilm, x_nilm, x_nilm, x_nilm, x_nilm, x_nilm, x_nilm, x_nilm, x_nilm, x_nilm⟩
set_option maxRecDepth 1000000 in
theorem xm154 : x_Met vwCl x_G x_Zs x_Tb x_Nb xM154 := x_main xT154 [] [] 2500 (by decide +kernel) (by decide +kernel) xk154 (by decide +kernel)
/-- TwinFiresModel.puts(II)I -/
def xM155 : xM := (⟨"TwinFiresModel", "puts", "(II)I"⟩, prog_14_method_9_code, 4, some .int, [xR false [17], xI 6 6, xI 0 3], [([xR false [17], xI 6 6, xI 0 3], some (xF))], [(46, 0)], (0, 0, 0, 0), none)
def xT155 : xTab := ([(7, 17, 0)], [], [], [], [], [], [], [], [], [], [])
set_option maxRecDepth 100000 in
set_option maxHeartbeats 4000000 in
theorem xk155 : x_TOK vwCl x_G x_Zs x_Tb x_Nb xM155 xT155 := by
  intro p l e s m args below meth c D U hx hb hml hts hown hK hK0 hU hnm hN
  have X : x_cx p s m args c D U xM155.2.1 xM155.2.2.1 vwCl x_Tb x_Nb xM155.1.cls := ⟨hx, hb, hml, hown, hts, hK, hK0, hU, hN, x_Tb_good, x_Nb_ok⟩
  exact ⟨(x_cons (fl190 hts) x_nilm), x_nilm, x_nilm, x_nilm, x_nilm, x_nilm, x_nilm, x_nilm, x_nilm, x_nilm, x_nilm⟩
set_option maxRecDepth 1000000 in
theorem xm155 : x_Met vwCl x_G x_Zs x_Tb x_Nb xM155 := x_main xT155 [] [] 2500 (by decide +kernel) (by decide +kernel) xk155 (by decide +kernel)
/-- TwinFiresModel.in(JJJ)Z -/
def xM156 : xM := (⟨"TwinFiresModel", "in", "(JJJ)Z"⟩, prog_14_method_2_code, 6, some .boolean, [xFL, xL 1 1, xL 10 10], [([xL 1 10, xL 1 1, xL 10 10], some (xI 1 1)), ([xFL, xL 1 1, xL 10 10], some (xI 0 0))], [], (0, 0, 0, 0), none)
def xT156 : xTab := ([], [], [], [], [], [], [], [], [], [], [])
set_option maxRecDepth 100000 in
set_option maxHeartbeats 4000000 in
theorem xk156 : x_TOK vwCl x_G x_Zs x_Tb x_Nb xM156 xT156 := by
  intro p l e s m args below meth c D U hx hb hml hts hown hK hK0 hU hnm hN
  have X : x_cx p s m args c D U xM156.2.1 xM156.2.2.1 vwCl x_Tb x_Nb xM156.1.cls := ⟨hx, hb, hml, hown, hts, hK, hK0, hU, hN, x_Tb_good, x_Nb_ok⟩
  exact ⟨x_nilm, x_nilm, x_nilm, x_nilm, x_nilm, x_nilm, x_nilm, x_nilm, x_nilm, x_nilm, x_nilm⟩
set_option maxRecDepth 1000000 in
theorem xm156 : x_Met vwCl x_G x_Zs x_Tb x_Nb xM156 := x_main xT156 [] [] 2500 (by decide +kernel) (by decide +kernel) xk156 (by decide +kernel)
/-- TwinFiresModel.puts(II)I -/
def xM157 : xM := (⟨"TwinFiresModel", "puts", "(II)I"⟩, prog_14_method_9_code, 4, some .int, [xR false [17], xI 7 7, xI 1 10], [([xR false [17], xI 7 7, xI 1 10], some (xF))], [(46, 0)], (0, 0, 0, 0), none)
def xT157 : xTab := ([(7, 17, 0)], [], [], [], [], [], [], [], [], [], [])
set_option maxRecDepth 100000 in
set_option maxHeartbeats 4000000 in
theorem xk157 : x_TOK vwCl x_G x_Zs x_Tb x_Nb xM157 xT157 := by
  intro p l e s m args below meth c D U hx hb hml hts hown hK hK0 hU hnm hN
  have X : x_cx p s m args c D U xM157.2.1 xM157.2.2.1 vwCl x_Tb x_Nb xM157.1.cls := ⟨hx, hb, hml, hown, hts, hK, hK0, hU, hN, x_Tb_good, x_Nb_ok⟩
  exact ⟨(x_cons (fl190 hts) x_nilm), x_nilm, x_nilm, x_nilm, x_nilm, x_nilm, x_nilm, x_nilm, x_nilm, x_nilm, x_nilm⟩
set_option maxRecDepth 1000000 in
theorem xm157 : x_Met vwCl x_G x_Zs x_Tb x_Nb xM157 := x_main xT157 [] [] 2500 (by decide +kernel) (by decide +kernel) xk157 (by decide +kernel)
/-- TwinFiresModel.puts(II)I -/
def xM158 : xM := (⟨"TwinFiresModel", "puts", "(II)I"⟩, prog_14_method_9_code, 4, some .int, [xR false [17], xI 4 4, xI 0 99], [([xR false [17], xI 4 4, xI 0 99], some (xF))], [(46, 0)], (0, 0, 0, 0), none)
def xT158 : xTab := ([(7, 17, 0)], [], [], [], [], [], [], [], [], [], [])
set_option maxRecDepth 100000 in
set_option maxHeartbeats 4000000 in
theorem xk158 : x_TOK vwCl x_G x_Zs x_Tb x_Nb xM158 xT158 := by
  intro p l e s m args below meth c D U hx hb hml hts hown hK hK0 hU hnm hN
  have X : x_cx p s m args c D U xM158.2.1 xM158.2.2.1 vwCl x_Tb x_Nb xM158.1.cls := ⟨hx, hb, hml, hown, hts, hK, hK0, hU, hN, x_Tb_good, x_Nb_ok⟩
  exact ⟨(x_cons (fl190 hts) x_nilm), x_nilm, x_nilm, x_nilm, x_nilm, x_nilm, x_nilm, x_nilm, x_nilm, x_nilm, x_nilm⟩
set_option maxRecDepth 1000000 in
theorem xm158 : x_Met vwCl x_G x_Zs x_Tb x_Nb xM158 := x_main xT158 [] [] 2500 (by decide +kernel) (by decide +kernel) xk158 (by decide +kernel)
/-- TwinFiresModel.put(II)I -/
def xM159 : xM := (⟨"TwinFiresModel", "put", "(II)I"⟩, prog_14_method_21_code, 4, some .int, [xR false [17], xF, xF], [([xR false [17], xF, xF], some (xF))], [(46, 0), (50, 0)], (2, 42, 0, 0), none)
def xT159 : xTab := ([], [], [], [], [], [], [(97, 99), (112, 3), (114, 10)], [(1, 87, 3, none, xM144), (1, 87, 3, none, xM154), (1, 87, 3, none, xM156), (0, 102, 1, some 17, xM143), (0, 116, 3, some 17, xM155), (0, 116, 3, some 17, xM157), (0, 116, 3, some 17, xM153), (0, 116, 3, some 17, xM158)], [], [], [])
set_option maxRecDepth 100000 in
set_option maxHeartbeats 4000000 in
theorem xk159 : x_TOK vwCl x_G x_Zs x_Tb x_Nb xM159 xT159 := by
  intro p l e s m args below meth c D U hx hb hml hts hown hK hK0 hU hnm hN
  have X : x_cx p s m args c D U xM159.2.1 xM159.2.2.1 vwCl x_Tb x_Nb xM159.1.cls := ⟨hx, hb, hml, hown, hts, hK, hK0, hU, hN, x_Tb_good, x_Nb_ok⟩
  exact ⟨x_nilm, x_nilm, x_nilm, x_nilm, x_nilm, x_nilm, (x_cons ⟨99, rfl, (hts _ (x_at 1150 (by decide +kernel) rfl))⟩ (x_cons ⟨3, rfl, (hts _ (x_at 1177 (by decide +kernel) rfl))⟩ (x_cons ⟨10, rfl, (hts _ (x_at 1178 (by decide +kernel) rfl))⟩ x_nilm))), (x_cons (x_cokS X xm144 (x_cons (x_at 1147 (by decide +kernel) rfl) (x_cons (x_at 1148 (by decide +kernel) rfl) (x_cons (x_at 73 (by decide +kernel) rfl) x_nilm))) (x_at 1149 (by decide +kernel) rfl) (by decide +kernel) ⟨Nat.le_of_ble_eq_true rfl, Nat.le_of_ble_eq_true rfl⟩) (x_cons (x_cokS X xm154 (x_cons (x_at 1147 (by decide +kernel) rfl) (x_cons (x_at 1148 (by decide +kernel) rfl) (x_cons (x_at 73 (by decide +kernel) rfl) x_nilm))) (x_at 1149 (by decide +kernel) rfl) (by decide +kernel) ⟨Nat.le_of_ble_eq_true rfl, Nat.le_of_ble_eq_true rfl⟩) (x_cons (x_cokS X xm156 (x_cons (x_at 1147 (by decide +kernel) rfl) (x_cons (x_at 1148 (by decide +kernel) rfl) (x_cons (x_at 73 (by decide +kernel) rfl) x_nilm))) (x_at 1149 (by decide +kernel) rfl) (by decide +kernel) ⟨Nat.le_of_ble_eq_true rfl, Nat.le_of_ble_eq_true rfl⟩) (x_cons (x_cokV (ci := 12) X xm143 rfl rfl rfl (x_cons (x_at 1155 (by decide +kernel) rfl) (x_cons (x_at 1157 (by decide +kernel) rfl) (x_cons (x_at 32 (by decide +kernel) rfl) (x_cons (x_at 73 (by decide +kernel) rfl) x_nilm)))) (x_at 1158 (by decide +kernel) rfl) (by decide +kernel) ⟨Nat.le_of_ble_eq_true rfl, Nat.le_of_ble_eq_true rfl⟩) (x_cons (x_cokV (ci := 12) X xm155 rfl rfl rfl (x_cons (x_at 1179 (by decide +kernel) rfl) (x_cons (x_at 1181 (by decide +kernel) rfl) (x_cons (x_at 35 (by decide +kernel) rfl) (x_cons (x_at 73 (by decide +kernel) rfl) x_nilm)))) (x_at 1182 (by decide +kernel) rfl) (by decide +kernel) ⟨Nat.le_of_ble_eq_true rfl, Nat.le_of_ble_eq_true rfl⟩) (x_cons (x_cokV (ci := 12) X xm157 rfl rfl rfl (x_cons (x_at 1179 (by decide +kernel) rfl) (x_cons (x_at 1181 (by decide +kernel) rfl) (x_cons (x_at 35 (by decide +kernel) rfl) (x_cons (x_at 73 (by decide +kernel) rfl) x_nilm)))) (x_at 1182 (by decide +kernel) rfl) (by decide +kernel) ⟨Nat.le_of_ble_eq_true rfl, Nat.le_of_ble_eq_true rfl⟩) (x_cons (x_cokV (ci := 12) X xm153 rfl rfl rfl (x_cons (x_at 1179 (by decide +kernel) rfl) (x_cons (x_at 1181 (by decide +kernel) rfl) (x_cons (x_at 35 (by decide +kernel) rfl) (x_cons (x_at 73 (by decide +kernel) rfl) x_nilm)))) (x_at 1182 (by decide +kernel) rfl) (by decide +kernel) ⟨Nat.le_of_ble_eq_true rfl, Nat.le_of_ble_eq_true rfl⟩) (x_cons (x_cokV (ci := 12) X xm158 rfl rfl rfl (x_cons (x_at 1179 (by decide +kernel) rfl) (x_cons (x_at 1181 (by decide +kernel) rfl) (x_cons (x_at 35 (by decide +kernel) rfl) (x_cons (x_at 73 (by decide +kernel) rfl) x_nilm)))) (x_at 1182 (by decide +kernel) rfl) (by decide +kernel) ⟨Nat.le_of_ble_eq_true rfl, Nat.le_of_ble_eq_true rfl⟩) x_nilm)))))))), x_nilm, x_nilm, x_nilm⟩
set_option maxRecDepth 1000000 in
theorem xm159 : x_Met vwCl x_G x_Zs x_Tb x_Nb xM159 := x_main xT159 [] [] 2500 (by decide +kernel) (by decide +kernel) xk159 (by decide +kernel)
/-- TwinFiresModel.puts(II)I -/
def xM160 : xM := (⟨"TwinFiresModel", "puts", "(II)I"⟩, prog_14_method_9_code, 4, some .int, [xR false [17], xI 3 159, xF], [([xR false [17], xI 3 159, xF], some (xF))], [(46, 0)], (0, 0, 0, 0), none)
def xT160 : xTab := ([(7, 17, 0)], [], [], [], [], [], [], [], [], [], [])
set_option maxRecDepth 100000 in
set_option maxHeartbeats 4000000 in
theorem xk160 : x_TOK vwCl x_G x_Zs x_Tb x_Nb xM160 xT160 := by
  intro p l e s m args below meth c D U hx hb hml hts hown hK hK0 hU hnm hN
  have X : x_cx p s m args c D U xM160.2.1 xM160.2.2.1 vwCl x_Tb x_Nb xM160.1.cls := ⟨hx, hb, hml, hown, hts, hK, hK0, hU, hN, x_Tb_good, x_Nb_ok⟩
  exact ⟨(x_cons (fl190 hts) x_nilm), x_nilm, x_nilm, x_nilm, x_nilm, x_nilm, x_nilm, x_nilm, x_nilm, x_nilm, x_nilm⟩
set_option maxRecDepth 1000000 in
theorem xm160 : x_Met vwCl x_G x_Zs x_Tb x_Nb xM160 := x_main xT160 [] [] 2500 (by decide +kernel) (by decide +kernel) xk160 (by decide +kernel)
/-- TwinFiresModel.in(JJJ)Z -/
def xM161 : xM := (⟨"TwinFiresModel", "in", "(JJJ)Z"⟩, prog_14_method_2_code, 6, some .boolean, [xFL, xL 0 0, xL (-1) 7], [([xL 0 7, xL 0 0, xL 0 7], some (xI 1 1)), ([xFL, xL 0 0, xL (-1) 7], some (xI 0 0))], [], (0, 0, 0, 0), none)
def xT161 : xTab := ([], [], [], [], [], [], [], [], [], [], [])
set_option maxRecDepth 100000 in
set_option maxHeartbeats 4000000 in
theorem xk161 : x_TOK vwCl x_G x_Zs x_Tb x_Nb xM161 xT161 := by
  intro p l e s m args below meth c D U hx hb hml hts hown hK hK0 hU hnm hN
  have X : x_cx p s m args c D U xM161.2.1 xM161.2.2.1 vwCl x_Tb x_Nb xM161.1.cls := ⟨hx, hb, hml, hown, hts, hK, hK0, hU, hN, x_Tb_good, x_Nb_ok⟩
  exact ⟨x_nilm, x_nilm, x_nilm, x_nilm, x_nilm, x_nilm, x_nilm, x_nilm, x_nilm, x_nilm, x_nilm⟩
set_option maxRecDepth 1000000 in
theorem xm161 : x_Met vwCl x_G x_Zs x_Tb x_Nb xM161 := x_main xT161 [] [] 2500 (by decide +kernel) (by decide +kernel) xk161 (by decide +kernel)
/-- TwinFiresModel.isThing(I)Z -/
def xM162 : xM := (⟨"TwinFiresModel", "isThing", "(I)Z"⟩, prog_14_method_14_code, 2, some .boolean, [xR false [17], xF], [([xR false [17], xF], some (xI 0 0)), ([xR false [17], xI 0 7], some (xI 1 1))], [], (1, 25, 0, 0), none)
def xT162 : xTab := ([(7, 17, 0)], [], [], [], [], [], [], [(1, 87, 3, none, xM161)], [], [], [])
set_option maxRecDepth 100000 in
set_option maxHeartbeats 4000000 in
theorem xk162 : x_TOK vwCl x_G x_Zs x_Tb x_Nb xM162 xT162 := by
  intro p l e s m args below meth c D U hx hb hml hts hown hK hK0 hU hnm hN
  have X : x_cx p s m args c D U xM162.2.1 xM162.2.2.1 vwCl x_Tb x_Nb xM162.1.cls := ⟨hx, hb, hml, hown, hts, hK, hK0, hU, hN, x_Tb_good, x_Nb_ok⟩
  exact ⟨(x_cons (fl190 hts) x_nilm), x_nilm, x_nilm, x_nilm, x_nilm, x_nilm, x_nilm, (x_cons (x_cokS X xm161 (x_cons (x_at 1147 (by decide +kernel) rfl) (x_cons (x_at 1148 (by decide +kernel) rfl) (x_cons (x_at 73 (by decide +kernel) rfl) x_nilm))) (x_at 1149 (by decide +kernel) rfl) (by decide +kernel) ⟨Nat.le_of_ble_eq_true rfl, Nat.le_of_ble_eq_true rfl⟩) x_nilm), x_nilm, x_nilm, x_nilm⟩
set_option maxRecDepth 1000000 in
theorem xm162 : x_Met vwCl x_G x_Zs x_Tb x_Nb xM162 := x_main xT162 [] [] 2500 (by decide +kernel) (by decide +kernel) xk162 (by decide +kernel)
/-- TwinFiresModel.ofThing(II)I -/
def xM163 : xM := (⟨"TwinFiresModel", "ofThing", "(II)I"⟩, prog_14_method_18_code, 3, some .int, [xR false [17], xI 0 7, xI 0 6], [([xR false [17], xI 0 7, xI 0 6], some (xF))], [], (0, 0, 0, 0), none)
def xT163 : xTab := ([(7, 17, 0)], [], [], [], [], [], [], [], [], [], [])
set_option maxRecDepth 100000 in
set_option maxHeartbeats 4000000 in
theorem xk163 : x_TOK vwCl x_G x_Zs x_Tb x_Nb xM163 xT163 := by
  intro p l e s m args below meth c D U hx hb hml hts hown hK hK0 hU hnm hN
  have X : x_cx p s m args c D U xM163.2.1 xM163.2.2.1 vwCl x_Tb x_Nb xM163.1.cls := ⟨hx, hb, hml, hown, hts, hK, hK0, hU, hN, x_Tb_good, x_Nb_ok⟩
  exact ⟨(x_cons (fl190 hts) x_nilm), x_nilm, x_nilm, x_nilm, x_nilm, x_nilm, x_nilm, x_nilm, x_nilm, x_nilm, x_nilm⟩
set_option maxRecDepth 1000000 in
theorem xm163 : x_Met vwCl x_G x_Zs x_Tb x_Nb xM163 := x_main xT163 [] [] 2500 (by decide +kernel) (by decide +kernel) xk163 (by decide +kernel)
/-- TwinFiresModel.no()I -/
def xM164 : xM := (⟨"TwinFiresModel", "no", "()I"⟩, prog_14_method_7_code, 1, some .int, [xR false [17]], [([xR false [17]], some (xF))], [(50, 0)], (1, 22, 0, 0), none)
def xT164 : xTab := ([], [], [], [], [], [], [], [(0, 76, 3, some 17, xM142)], [], [], [])
set_option maxRecDepth 100000 in
set_option maxHeartbeats 4000000 in
theorem xk164 : x_TOK vwCl x_G x_Zs x_Tb x_Nb xM164 xT164 := by
  intro p l e s m args below meth c D U hx hb hml hts hown hK hK0 hU hnm hN
  have X : x_cx p s m args c D U xM164.2.1 xM164.2.2.1 vwCl x_Tb x_Nb xM164.1.cls := ⟨hx, hb, hml, hown, hts, hK, hK0, hU, hN, x_Tb_good, x_Nb_ok⟩
  exact ⟨x_nilm, x_nilm, x_nilm, x_nilm, x_nilm, x_nilm, x_nilm, (x_cons (x_cokV (ci := 12) X xm142 rfl rfl rfl (x_cons (x_at 1159 (by decide +kernel) rfl) (x_cons (x_at 1161 (by decide +kernel) rfl) (x_cons (x_at 33 (by decide +kernel) rfl) (x_cons (x_at 73 (by decide +kernel) rfl) x_nilm)))) (x_at 1162 (by decide +kernel) rfl) (by decide +kernel) ⟨Nat.le_of_ble_eq_true rfl, Nat.le_of_ble_eq_true rfl⟩) x_nilm), x_nilm, x_nilm, x_nilm⟩
set_option maxRecDepth 1000000 in
theorem xm164 : x_Met vwCl x_G x_Zs x_Tb x_Nb xM164 := x_main xT164 [] [] 2500 (by decide +kernel) (by decide +kernel) xk164 (by decide +kernel)
/-- TwinFiresModel.work(IZ)I -/
def xM165 : xM := (⟨"TwinFiresModel", "work", "(IZ)I"⟩, prog_14_method_22_code, 3, some .int, [xR false [17], xF, xI 0 1], [([xR false [17], xF, xI 0 1], some (xF))], [(46, 0), (50, 0)], (2, 46, 0, 0), none)
def xT165 : xTab := ([(7, 17, 0)], [], [], [], [], [], [], [(0, 102, 1, some 17, xM143), (0, 119, 2, some 17, xM162), (0, 123, 3, some 17, xM163), (0, 126, 1, some 17, xM164)], [], [], [])
set_option maxRecDepth 100000 in
set_option maxHeartbeats 4000000 in
theorem xk165 : x_TOK vwCl x_G x_Zs x_Tb x_Nb xM165 xT165 := by
  intro p l e s m args below meth c D U hx hb hml hts hown hK hK0 hU hnm hN
  have X : x_cx p s m args c D U xM165.2.1 xM165.2.2.1 vwCl x_Tb x_Nb xM165.1.cls := ⟨hx, hb, hml, hown, hts, hK, hK0, hU, hN, x_Tb_good, x_Nb_ok⟩
  exact ⟨(x_cons (fl190 hts) x_nilm), x_nilm, x_nilm, x_nilm, x_nilm, x_nilm, x_nilm, (x_cons (x_cokV (ci := 12) X xm143 rfl rfl rfl (x_cons (x_at 1155 (by decide +kernel) rfl) (x_cons (x_at 1157 (by decide +kernel) rfl) (x_cons (x_at 32 (by decide +kernel) rfl) (x_cons (x_at 73 (by decide +kernel) rfl) x_nilm)))) (x_at 1158 (by decide +kernel) rfl) (by decide +kernel) ⟨Nat.le_of_ble_eq_true rfl, Nat.le_of_ble_eq_true rfl⟩) (x_cons (x_cokV (ci := 12) X xm162 rfl rfl rfl (x_cons (x_at 1187 (by decide +kernel) rfl) (x_cons (x_at 1189 (by decide +kernel) rfl) (x_cons (x_at 36 (by decide +kernel) rfl) (x_cons (x_at 73 (by decide +kernel) rfl) x_nilm)))) (x_at 1190 (by decide +kernel) rfl) (by decide +kernel) ⟨Nat.le_of_ble_eq_true rfl, Nat.le_of_ble_eq_true rfl⟩) (x_cons (x_cokV (ci := 12) X xm163 rfl rfl rfl (x_cons (x_at 1191 (by decide +kernel) rfl) (x_cons (x_at 1193 (by decide +kernel) rfl) (x_cons (x_at 37 (by decide +kernel) rfl) (x_cons (x_at 73 (by decide +kernel) rfl) x_nilm)))) (x_at 1194 (by decide +kernel) rfl) (by decide +kernel) ⟨Nat.le_of_ble_eq_true rfl, Nat.le_of_ble_eq_true rfl⟩) (x_cons (x_cokV (ci := 12) X xm164 rfl rfl rfl (x_cons (x_at 1195 (by decide +kernel) rfl) (x_cons (x_at 1197 (by decide +kernel) rfl) (x_cons (x_at 38 (by decide +kernel) rfl) (x_cons (x_at 73 (by decide +kernel) rfl) x_nilm)))) (x_at 1198 (by decide +kernel) rfl) (by decide +kernel) ⟨Nat.le_of_ble_eq_true rfl, Nat.le_of_ble_eq_true rfl⟩) x_nilm)))), x_nilm, x_nilm, x_nilm⟩
set_option maxRecDepth 1000000 in
theorem xm165 : x_Met vwCl x_G x_Zs x_Tb x_Nb xM165 := x_main xT165 [] [] 2500 (by decide +kernel) (by decide +kernel) xk165 (by decide +kernel)
/-- TwinFiresModel.cost(II)I -/
def xM166 : xM := (⟨"TwinFiresModel", "cost", "(II)I"⟩, prog_14_method_23_code, 3, some .int, [xR false [17], xF, xF], [([xR false [17], xF, xF], some (xF))], [(46, 0), (50, 0)], (2, 46, 0, 0), none)
def xT166 : xTab := ([], [], [], [], [], [], [(97, 99)], [(1, 87, 3, none, xM144), (0, 102, 1, some 17, xM143), (0, 116, 3, some 17, xM160), (0, 119, 2, some 17, xM162)], [], [], [])
set_option maxRecDepth 100000 in
set_option maxHeartbeats 4000000 in
theorem xk166 : x_TOK vwCl x_G x_Zs x_Tb x_Nb xM166 xT166 := by
  intro p l e s m args below meth c D U hx hb hml hts hown hK hK0 hU hnm hN
  have X : x_cx p s m args c D U xM166.2.1 xM166.2.2.1 vwCl x_Tb x_Nb xM166.1.cls := ⟨hx, hb, hml, hown, hts, hK, hK0, hU, hN, x_Tb_good, x_Nb_ok⟩
  exact ⟨x_nilm, x_nilm, x_nilm, x_nilm, x_nilm, x_nilm, (x_cons ⟨99, rfl, (hts _ (x_at 1150 (by decide +kernel) rfl))⟩ x_nilm), (x_cons (x_cokS X xm144 (x_cons (x_at 1147 (by decide +kernel) rfl) (x_cons (x_at 1148 (by decide +kernel) rfl) (x_cons (x_at 73 (by decide +kernel) rfl) x_nilm))) (x_at 1149 (by decide +kernel) rfl) (by decide +kernel) ⟨Nat.le_of_ble_eq_true rfl, Nat.le_of_ble_eq_true rfl⟩) (x_cons (x_cokV (ci := 12) X xm143 rfl rfl rfl (x_cons (x_at 1155 (by decide +kernel) rfl) (x_cons (x_at 1157 (by decide +kernel) rfl) (x_cons (x_at 32 (by decide +kernel) rfl) (x_cons (x_at 73 (by decide +kernel) rfl) x_nilm)))) (x_at 1158 (by decide +kernel) rfl) (by decide +kernel) ⟨Nat.le_of_ble_eq_true rfl, Nat.le_of_ble_eq_true rfl⟩) (x_cons (x_cokV (ci := 12) X xm160 rfl rfl rfl (x_cons (x_at 1179 (by decide +kernel) rfl) (x_cons (x_at 1181 (by decide +kernel) rfl) (x_cons (x_at 35 (by decide +kernel) rfl) (x_cons (x_at 73 (by decide +kernel) rfl) x_nilm)))) (x_at 1182 (by decide +kernel) rfl) (by decide +kernel) ⟨Nat.le_of_ble_eq_true rfl, Nat.le_of_ble_eq_true rfl⟩) (x_cons (x_cokV (ci := 12) X xm162 rfl rfl rfl (x_cons (x_at 1187 (by decide +kernel) rfl) (x_cons (x_at 1189 (by decide +kernel) rfl) (x_cons (x_at 36 (by decide +kernel) rfl) (x_cons (x_at 73 (by decide +kernel) rfl) x_nilm)))) (x_at 1190 (by decide +kernel) rfl) (by decide +kernel) ⟨Nat.le_of_ble_eq_true rfl, Nat.le_of_ble_eq_true rfl⟩) x_nilm)))), x_nilm, x_nilm, x_nilm⟩
set_option maxRecDepth 1000000 in
theorem xm166 : x_Met vwCl x_G x_Zs x_Tb x_Nb xM166 := x_main xT166 [] [] 2500 (by decide +kernel) (by decide +kernel) xk166 (by decide +kernel)
/-- TwinFiresModel.most99(I)I -/
def xM167 : xM := (⟨"TwinFiresModel", "most99", "(I)I"⟩, prog_14_method_24_code, 1, some .int, [xF], [([xF], some (xI (-2147483648) 99))], [], (0, 0, 0, 0), none)
def xT167 : xTab := ([], [], [], [], [], [], [], [], [], [], [])
set_option maxRecDepth 100000 in
set_option maxHeartbeats 4000000 in
theorem xk167 : x_TOK vwCl x_G x_Zs x_Tb x_Nb xM167 xT167 := by
  intro p l e s m args below meth c D U hx hb hml hts hown hK hK0 hU hnm hN
  have X : x_cx p s m args c D U xM167.2.1 xM167.2.2.1 vwCl x_Tb x_Nb xM167.1.cls := ⟨hx, hb, hml, hown, hts, hK, hK0, hU, hN, x_Tb_good, x_Nb_ok⟩
  exact ⟨x_nilm, x_nilm, x_nilm, x_nilm, x_nilm, x_nilm, x_nilm, x_nilm, x_nilm, x_nilm, x_nilm⟩
set_option maxRecDepth 1000000 in
theorem xm167 : x_Met vwCl x_G x_Zs x_Tb x_Nb xM167 := x_main xT167 [] [] 2500 (by decide +kernel) (by decide +kernel) xk167 (by decide +kernel)
/-- TwinFiresModel.highIn(II)I -/
def xM168 : xM := (⟨"TwinFiresModel", "highIn", "(II)I"⟩, prog_14_method_25_code, 8, some .int, [xR false [17], xI 0 7, xF], [([xR false [17], xI 0 7, xF], some (xF))], [], (1, 22, 0, 0), none)
def xT168 : xTab := ([], [], [], [], [], [], [], [(1, 129, 1, none, xM167), (0, 123, 3, some 17, xM163)], [], [], [])
set_option maxRecDepth 100000 in
set_option maxHeartbeats 4000000 in
theorem xk168 : x_TOK vwCl x_G x_Zs x_Tb x_Nb xM168 xT168 := by
  intro p l e s m args below meth c D U hx hb hml hts hown hK hK0 hU hnm hN
  have X : x_cx p s m args c D U xM168.2.1 xM168.2.2.1 vwCl x_Tb x_Nb xM168.1.cls := ⟨hx, hb, hml, hown, hts, hK, hK0, hU, hN, x_Tb_good, x_Nb_ok⟩
  exact ⟨x_nilm, x_nilm, x_nilm, x_nilm, x_nilm, x_nilm, x_nilm, (x_cons (x_cokS X xm167 (x_cons (x_at 1211 (by decide +kernel) rfl) (x_cons (x_at 1212 (by decide +kernel) rfl) (x_cons (x_at 73 (by decide +kernel) rfl) x_nilm))) (x_at 1213 (by decide +kernel) rfl) (by decide +kernel) ⟨Nat.le_of_ble_eq_true rfl, Nat.le_of_ble_eq_true rfl⟩) (x_cons (x_cokV (ci := 12) X xm163 rfl rfl rfl (x_cons (x_at 1191 (by decide +kernel) rfl) (x_cons (x_at 1193 (by decide +kernel) rfl) (x_cons (x_at 37 (by decide +kernel) rfl) (x_cons (x_at 73 (by decide +kernel) rfl) x_nilm)))) (x_at 1194 (by decide +kernel) rfl) (by decide +kernel) ⟨Nat.le_of_ble_eq_true rfl, Nat.le_of_ble_eq_true rfl⟩) x_nilm)), x_nilm, x_nilm, x_nilm⟩
set_option maxRecDepth 1000000 in
theorem xm168 : x_Met vwCl x_G x_Zs x_Tb x_Nb xM168 := x_main xT168 [] [] 2500 (by decide +kernel) (by decide +kernel) xk168 (by decide +kernel)
/-- TwinFiresModel.high(I)I -/
def xM169 : xM := (⟨"TwinFiresModel", "high", "(I)I"⟩, prog_14_method_26_code, 2, some .int, [xR false [17], xF], [([xR false [17], xF], some (xF))], [(50, 0)], (2, 49, 0, 0), none)
def xT169 : xTab := ([(7, 17, 0)], [], [], [], [], [], [], [(0, 102, 1, some 17, xM143), (0, 119, 2, some 17, xM162), (0, 133, 3, some 17, xM168)], [], [], [])
set_option maxRecDepth 100000 in
set_option maxHeartbeats 4000000 in
theorem xk169 : x_TOK vwCl x_G x_Zs x_Tb x_Nb xM169 xT169 := by
  intro p l e s m args below meth c D U hx hb hml hts hown hK hK0 hU hnm hN
  have X : x_cx p s m args c D U xM169.2.1 xM169.2.2.1 vwCl x_Tb x_Nb xM169.1.cls := ⟨hx, hb, hml, hown, hts, hK, hK0, hU, hN, x_Tb_good, x_Nb_ok⟩
  exact ⟨(x_cons (fl190 hts) x_nilm), x_nilm, x_nilm, x_nilm, x_nilm, x_nilm, x_nilm, (x_cons (x_cokV (ci := 12) X xm143 rfl rfl rfl (x_cons (x_at 1155 (by decide +kernel) rfl) (x_cons (x_at 1157 (by decide +kernel) rfl) (x_cons (x_at 32 (by decide +kernel) rfl) (x_cons (x_at 73 (by decide +kernel) rfl) x_nilm)))) (x_at 1158 (by decide +kernel) rfl) (by decide +kernel) ⟨Nat.le_of_ble_eq_true rfl, Nat.le_of_ble_eq_true rfl⟩) (x_cons (x_cokV (ci := 12) X xm162 rfl rfl rfl (x_cons (x_at 1187 (by decide +kernel) rfl) (x_cons (x_at 1189 (by decide +kernel) rfl) (x_cons (x_at 36 (by decide +kernel) rfl) (x_cons (x_at 73 (by decide +kernel) rfl) x_nilm)))) (x_at 1190 (by decide +kernel) rfl) (by decide +kernel) ⟨Nat.le_of_ble_eq_true rfl, Nat.le_of_ble_eq_true rfl⟩) (x_cons (x_cokV (ci := 12) X xm168 rfl rfl rfl (x_cons (x_at 1207 (by decide +kernel) rfl) (x_cons (x_at 1209 (by decide +kernel) rfl) (x_cons (x_at 39 (by decide +kernel) rfl) (x_cons (x_at 73 (by decide +kernel) rfl) x_nilm)))) (x_at 1210 (by decide +kernel) rfl) (by decide +kernel) ⟨Nat.le_of_ble_eq_true rfl, Nat.le_of_ble_eq_true rfl⟩) x_nilm))), x_nilm, x_nilm, x_nilm⟩
set_option maxRecDepth 1000000 in
theorem xm169 : x_Met vwCl x_G x_Zs x_Tb x_Nb xM169 := x_main xT169 [] [] 2500 (by decide +kernel) (by decide +kernel) xk169 (by decide +kernel)
/-- TwinFiresModel.in(JJJ)Z -/
def xM170 : xM := (⟨"TwinFiresModel", "in", "(JJJ)Z"⟩, prog_14_method_2_code, 6, some .boolean, [xFL, xL 0 0, xL (-1) 9], [([xL 0 9, xL 0 0, xL 0 9], some (xI 1 1)), ([xFL, xL 0 0, xL (-1) 9], some (xI 0 0))], [], (0, 0, 0, 0), none)
def xT170 : xTab := ([], [], [], [], [], [], [], [], [], [], [])
set_option maxRecDepth 100000 in
set_option maxHeartbeats 4000000 in
theorem xk170 : x_TOK vwCl x_G x_Zs x_Tb x_Nb xM170 xT170 := by
  intro p l e s m args below meth c D U hx hb hml hts hown hK hK0 hU hnm hN
  have X : x_cx p s m args c D U xM170.2.1 xM170.2.2.1 vwCl x_Tb x_Nb xM170.1.cls := ⟨hx, hb, hml, hown, hts, hK, hK0, hU, hN, x_Tb_good, x_Nb_ok⟩
  exact ⟨x_nilm, x_nilm, x_nilm, x_nilm, x_nilm, x_nilm, x_nilm, x_nilm, x_nilm, x_nilm, x_nilm⟩
set_option maxRecDepth 1000000 in
theorem xm170 : x_Met vwCl x_G x_Zs x_Tb x_Nb xM170 := x_main xT170 [] [] 2500 (by decide +kernel) (by decide +kernel) xk170 (by decide +kernel)
/-- TwinFiresModel.isHill(I)Z -/
def xM171 : xM := (⟨"TwinFiresModel", "isHill", "(I)Z"⟩, prog_14_method_13_code, 2, some .boolean, [xR false [17], xF], [([xR false [17], xF], some (xI 0 0)), ([xR false [17], xI 0 9], some (xI 1 1))], [], (1, 25, 0, 0), none)
def xT171 : xTab := ([(7, 17, 0)], [], [], [], [], [], [], [(1, 87, 3, none, xM170)], [], [], [])
set_option maxRecDepth 100000 in
set_option maxHeartbeats 4000000 in
theorem xk171 : x_TOK vwCl x_G x_Zs x_Tb x_Nb xM171 xT171 := by
  intro p l e s m args below meth c D U hx hb hml hts hown hK hK0 hU hnm hN
  have X : x_cx p s m args c D U xM171.2.1 xM171.2.2.1 vwCl x_Tb x_Nb xM171.1.cls := ⟨hx, hb, hml, hown, hts, hK, hK0, hU, hN, x_Tb_good, x_Nb_ok⟩
  exact ⟨(x_cons (fl190 hts) x_nilm), x_nilm, x_nilm, x_nilm, x_nilm, x_nilm, x_nilm, (x_cons (x_cokS X xm170 (x_cons (x_at 1147 (by decide +kernel) rfl) (x_cons (x_at 1148 (by decide +kernel) rfl) (x_cons (x_at 73 (by decide +kernel) rfl) x_nilm))) (x_at 1149 (by decide +kernel) rfl) (by decide +kernel) ⟨Nat.le_of_ble_eq_true rfl, Nat.le_of_ble_eq_true rfl⟩) x_nilm), x_nilm, x_nilm, x_nilm⟩
set_option maxRecDepth 1000000 in
theorem xm171 : x_Met vwCl x_G x_Zs x_Tb x_Nb xM171 := x_main xT171 [] [] 2500 (by decide +kernel) (by decide +kernel) xk171 (by decide +kernel)
/-- TwinFiresModel.hides(IIIII)Z -/
def xM172 : xM := (⟨"TwinFiresModel", "hides", "(IIIII)Z"⟩, prog_14_method_27_code, 16, some .boolean, [xR false [17], xI 0 9, xI 0 9, xF, xF, xF], [([xR false [17], xI 0 9, xI 0 9, xF, xF, xF], some (xI 1 1)), ([xR false [17], xI 0 9, xI 0 9, xF, xF, xF], some (xI 0 0))], [], (1, 22, 0, 0), none)
def xT172 : xTab := ([(7, 17, 0)], [], [], [], [], [], [], [(0, 99, 3, some 17, xM145)], [], [], [])
set_option maxRecDepth 100000 in
set_option maxHeartbeats 4000000 in
theorem xk172 : x_TOK vwCl x_G x_Zs x_Tb x_Nb xM172 xT172 := by
  intro p l e s m args below meth c D U hx hb hml hts hown hK hK0 hU hnm hN
  have X : x_cx p s m args c D U xM172.2.1 xM172.2.2.1 vwCl x_Tb x_Nb xM172.1.cls := ⟨hx, hb, hml, hown, hts, hK, hK0, hU, hN, x_Tb_good, x_Nb_ok⟩
  exact ⟨(x_cons (fl190 hts) x_nilm), x_nilm, x_nilm, x_nilm, x_nilm, x_nilm, x_nilm, (x_cons (x_cokV (ci := 12) X xm145 rfl rfl rfl (x_cons (x_at 1151 (by decide +kernel) rfl) (x_cons (x_at 1153 (by decide +kernel) rfl) (x_cons (x_at 31 (by decide +kernel) rfl) (x_cons (x_at 73 (by decide +kernel) rfl) x_nilm)))) (x_at 1154 (by decide +kernel) rfl) (by decide +kernel) ⟨Nat.le_of_ble_eq_true rfl, Nat.le_of_ble_eq_true rfl⟩) x_nilm), x_nilm, x_nilm, x_nilm⟩
set_option maxRecDepth 1000000 in
theorem xm172 : x_Met vwCl x_G x_Zs x_Tb x_Nb xM172 := x_main xT172 [] [] 2500 (by decide +kernel) (by decide +kernel) xk172 (by decide +kernel)
/-- TwinFiresModel.isSight(IIII)Z -/
def xM173 : xM := (⟨"TwinFiresModel", "isSight", "(IIII)Z"⟩, prog_14_method_28_code, 7, some .boolean, [xR false [17], xI 0 9, xI 0 9, xF, xF], [([xR false [17], xI 0 9, xI 0 9, xF, xF], some (xI 0 0)), ([xR false [17], xI 0 9, xI 0 9, xF, xF], some (xI 0 1))], [], (2, 57, 0, 0), none)
def xT173 : xTab := ([(7, 17, 0)], [], [], [], [], [], [], [(0, 99, 3, some 17, xM145), (0, 123, 3, some 17, xM163), (0, 133, 3, some 17, xM168), (0, 136, 6, some 17, xM172)], [], [], [])
set_option maxRecDepth 100000 in
set_option maxHeartbeats 4000000 in
theorem xk173 : x_TOK vwCl x_G x_Zs x_Tb x_Nb xM173 xT173 := by
  intro p l e s m args below meth c D U hx hb hml hts hown hK hK0 hU hnm hN
  have X : x_cx p s m args c D U xM173.2.1 xM173.2.2.1 vwCl x_Tb x_Nb xM173.1.cls := ⟨hx, hb, hml, hown, hts, hK, hK0, hU, hN, x_Tb_good, x_Nb_ok⟩
  exact ⟨(x_cons (fl190 hts) x_nilm), x_nilm, x_nilm, x_nilm, x_nilm, x_nilm, x_nilm, (x_cons (x_cokV (ci := 12) X xm145 rfl rfl rfl (x_cons (x_at 1151 (by decide +kernel) rfl) (x_cons (x_at 1153 (by decide +kernel) rfl) (x_cons (x_at 31 (by decide +kernel) rfl) (x_cons (x_at 73 (by decide +kernel) rfl) x_nilm)))) (x_at 1154 (by decide +kernel) rfl) (by decide +kernel) ⟨Nat.le_of_ble_eq_true rfl, Nat.le_of_ble_eq_true rfl⟩) (x_cons (x_cokV (ci := 12) X xm163 rfl rfl rfl (x_cons (x_at 1191 (by decide +kernel) rfl) (x_cons (x_at 1193 (by decide +kernel) rfl) (x_cons (x_at 37 (by decide +kernel) rfl) (x_cons (x_at 73 (by decide +kernel) rfl) x_nilm)))) (x_at 1194 (by decide +kernel) rfl) (by decide +kernel) ⟨Nat.le_of_ble_eq_true rfl, Nat.le_of_ble_eq_true rfl⟩) (x_cons (x_cokV (ci := 12) X xm168 rfl rfl rfl (x_cons (x_at 1207 (by decide +kernel) rfl) (x_cons (x_at 1209 (by decide +kernel) rfl) (x_cons (x_at 39 (by decide +kernel) rfl) (x_cons (x_at 73 (by decide +kernel) rfl) x_nilm)))) (x_at 1210 (by decide +kernel) rfl) (by decide +kernel) ⟨Nat.le_of_ble_eq_true rfl, Nat.le_of_ble_eq_true rfl⟩) (x_cons (x_cokV (ci := 12) X xm172 rfl rfl rfl (x_cons (x_at 1226 (by decide +kernel) rfl) (x_cons (x_at 1228 (by decide +kernel) rfl) (x_cons (x_at 42 (by decide +kernel) rfl) (x_cons (x_at 73 (by decide +kernel) rfl) x_nilm)))) (x_at 1229 (by decide +kernel) rfl) (by decide +kernel) ⟨Nat.le_of_ble_eq_true rfl, Nat.le_of_ble_eq_true rfl⟩) x_nilm)))), x_nilm, x_nilm, x_nilm⟩
set_option maxRecDepth 1000000 in
theorem xm173 : x_Met vwCl x_G x_Zs x_Tb x_Nb xM173 := x_main xT173 [(32, ([(0, xR false [17]), (1, xI 0 9), (2, xI 0 9), (3, xF), (4, xF), (5, xI 0 1), (6, xI 0 10)], [], []), (6, true), [], false, 0, []), (106, ([(0, xR false [17]), (1, xI 0 9), (2, xI 0 9), (3, xF), (4, xF), (5, xI 0 1), (6, xI 0 8)], [], [(0, 12, 0, xR false [46])]), (6, true), [], false, 0, [])] [] 2500 (by decide +kernel) (by decide +kernel) xk173 (by decide +kernel)
/-- TwinFiresModel.sight(II)I -/
def xM174 : xM := (⟨"TwinFiresModel", "sight", "(II)I"⟩, prog_14_method_32_code, 3, some .int, [xR false [17], xF, xF], [([xR false [17], xF, xF], some (xF))], [(50, 0)], (3, 83, 0, 0), none)
def xT174 : xTab := ([(7, 17, 0)], [], [], [], [], [], [], [(0, 102, 1, some 17, xM143), (0, 140, 5, some 17, xM173), (0, 151, 2, some 17, xM171)], [], [], [])
set_option maxRecDepth 100000 in
set_option maxHeartbeats 4000000 in
theorem xk174 : x_TOK vwCl x_G x_Zs x_Tb x_Nb xM174 xT174 := by
  intro p l e s m args below meth c D U hx hb hml hts hown hK hK0 hU hnm hN
  have X : x_cx p s m args c D U xM174.2.1 xM174.2.2.1 vwCl x_Tb x_Nb xM174.1.cls := ⟨hx, hb, hml, hown, hts, hK, hK0, hU, hN, x_Tb_good, x_Nb_ok⟩
  exact ⟨(x_cons (fl190 hts) x_nilm), x_nilm, x_nilm, x_nilm, x_nilm, x_nilm, x_nilm, (x_cons (x_cokV (ci := 12) X xm143 rfl rfl rfl (x_cons (x_at 1155 (by decide +kernel) rfl) (x_cons (x_at 1157 (by decide +kernel) rfl) (x_cons (x_at 32 (by decide +kernel) rfl) (x_cons (x_at 73 (by decide +kernel) rfl) x_nilm)))) (x_at 1158 (by decide +kernel) rfl) (by decide +kernel) ⟨Nat.le_of_ble_eq_true rfl, Nat.le_of_ble_eq_true rfl⟩) (x_cons (x_cokV (ci := 12) X xm173 rfl rfl rfl (x_cons (x_at 1222 (by decide +kernel) rfl) (x_cons (x_at 1224 (by decide +kernel) rfl) (x_cons (x_at 41 (by decide +kernel) rfl) (x_cons (x_at 73 (by decide +kernel) rfl) x_nilm)))) (x_at 1225 (by decide +kernel) rfl) (by decide +kernel) ⟨Nat.le_of_ble_eq_true rfl, Nat.le_of_ble_eq_true rfl⟩) (x_cons (x_cokV (ci := 12) X xm171 rfl rfl rfl (x_cons (x_at 1218 (by decide +kernel) rfl) (x_cons (x_at 1220 (by decide +kernel) rfl) (x_cons (x_at 40 (by decide +kernel) rfl) (x_cons (x_at 73 (by decide +kernel) rfl) x_nilm)))) (x_at 1221 (by decide +kernel) rfl) (by decide +kernel) ⟨Nat.le_of_ble_eq_true rfl, Nat.le_of_ble_eq_true rfl⟩) x_nilm))), x_nilm, x_nilm, x_nilm⟩
set_option maxRecDepth 1000000 in
theorem xm174 : x_Met vwCl x_G x_Zs x_Tb x_Nb xM174 := x_main xT174 [] [] 2500 (by decide +kernel) (by decide +kernel) xk174 (by decide +kernel)
/-- TwinFiresModel.in(JJJ)Z -/
def xM175 : xM := (⟨"TwinFiresModel", "in", "(JJJ)Z"⟩, prog_14_method_2_code, 6, some .boolean, [xFL, xL 1 1, xL 8 8], [([xL 1 8, xL 1 1, xL 8 8], some (xI 1 1)), ([xFL, xL 1 1, xL 8 8], some (xI 0 0))], [], (0, 0, 0, 0), none)
def xT175 : xTab := ([], [], [], [], [], [], [], [], [], [], [])
set_option maxRecDepth 100000 in
set_option maxHeartbeats 4000000 in
theorem xk175 : x_TOK vwCl x_G x_Zs x_Tb x_Nb xM175 xT175 := by
  intro p l e s m args below meth c D U hx hb hml hts hown hK hK0 hU hnm hN
  have X : x_cx p s m args c D U xM175.2.1 xM175.2.2.1 vwCl x_Tb x_Nb xM175.1.cls := ⟨hx, hb, hml, hown, hts, hK, hK0, hU, hN, x_Tb_good, x_Nb_ok⟩
  exact ⟨x_nilm, x_nilm, x_nilm, x_nilm, x_nilm, x_nilm, x_nilm, x_nilm, x_nilm, x_nilm, x_nilm⟩
set_option maxRecDepth 1000000 in
theorem xm175 : x_Met vwCl x_G x_Zs x_Tb x_Nb xM175 := x_main xT175 [] [] 2500 (by decide +kernel) (by decide +kernel) xk175 (by decide +kernel)
/-- TwinFiresModel.clearText()I -/
def xM176 : xM := (⟨"TwinFiresModel", "clearText", "()I"⟩, prog_14_method_35_code, 2, some .int, [xR false [17]], [([xR false [17]], some (xI 0 240))], [(17, 10)], (0, 0, 0, 0), none)
def xT176 : xTab := ([(160, 17, 10)], [(160, 17, 10)], [], [], [], [], [], [], [], [], [])
set_option maxRecDepth 100000 in
set_option maxHeartbeats 4000000 in
theorem xk176 : x_TOK vwCl x_G x_Zs x_Tb x_Nb xM176 xT176 := by
  intro p l e s m args below meth c D U hx hb hml hts hown hK hK0 hU hnm hN
  have X : x_cx p s m args c D U xM176.2.1 xM176.2.2.1 vwCl x_Tb x_Nb xM176.1.cls := ⟨hx, hb, hml, hown, hts, hK, hK0, hU, hN, x_Tb_good, x_Nb_ok⟩
  exact ⟨(x_cons (fl193 hts) x_nilm), (x_cons (fw194 hts) x_nilm), x_nilm, x_nilm, x_nilm, x_nilm, x_nilm, x_nilm, x_nilm, x_nilm, x_nilm⟩
set_option maxRecDepth 1000000 in
theorem xm176 : x_Met vwCl x_G x_Zs x_Tb x_Nb xM176 := x_main xT176 [] [] 2500 (by decide +kernel) (by decide +kernel) xk176 (by decide +kernel)
/-- TwinFiresModel.in(JJJ)Z -/
def xM177 : xM := (⟨"TwinFiresModel", "in", "(JJJ)Z"⟩, prog_14_method_2_code, 6, some .boolean, [xFL, xL (-2147483648) 2147483647, xL (-2147483648) 2147483647], [([xL (-2147483648) 2147483647, xL (-2147483648) 2147483647, xL (-2147483648) 2147483647], some (xI 1 1)), ([xFL, xL (-2147483648) 2147483647, xL (-2147483648) 2147483647], some (xI 0 0))], [], (0, 0, 0, 0), none)
def xT177 : xTab := ([], [], [], [], [], [], [], [], [], [], [])
set_option maxRecDepth 100000 in
set_option maxHeartbeats 4000000 in
theorem xk177 : x_TOK vwCl x_G x_Zs x_Tb x_Nb xM177 xT177 := by
  intro p l e s m args below meth c D U hx hb hml hts hown hK hK0 hU hnm hN
  have X : x_cx p s m args c D U xM177.2.1 xM177.2.2.1 vwCl x_Tb x_Nb xM177.1.cls := ⟨hx, hb, hml, hown, hts, hK, hK0, hU, hN, x_Tb_good, x_Nb_ok⟩
  exact ⟨x_nilm, x_nilm, x_nilm, x_nilm, x_nilm, x_nilm, x_nilm, x_nilm, x_nilm, x_nilm, x_nilm⟩
set_option maxRecDepth 1000000 in
theorem xm177 : x_Met vwCl x_G x_Zs x_Tb x_Nb xM177 := x_main xT177 [] [] 2500 (by decide +kernel) (by decide +kernel) xk177 (by decide +kernel)
/-- TwinFiresModel.isAt(II)Z -/
def xM178 : xM := (⟨"TwinFiresModel", "isAt", "(II)Z"⟩, prog_14_method_36_code, 3, some .boolean, [xR false [17], xF, xF], [([xR false [17], xF, xF], some (xI 0 0)), ([xR false [17], xF, xF], some (xI 1 1))], [], (1, 25, 0, 0), none)
def xT178 : xTab := ([(29, 17, 9), (160, 17, 10), (166, 17, 11)], [], [], [], [], [], [], [(1, 87, 3, none, xM177)], [], [], [])
set_option maxRecDepth 100000 in
set_option maxHeartbeats 4000000 in
theorem xk178 : x_TOK vwCl x_G x_Zs x_Tb x_Nb xM178 xT178 := by
  intro p l e s m args below meth c D U hx hb hml hts hown hK hK0 hU hnm hN
  have X : x_cx p s m args c D U xM178.2.1 xM178.2.2.1 vwCl x_Tb x_Nb xM178.1.cls := ⟨hx, hb, hml, hown, hts, hK, hK0, hU, hN, x_Tb_good, x_Nb_ok⟩
  exact ⟨(x_cons (fl195 hts) (x_cons (fl193 hts) (x_cons (fl196 hts) x_nilm))), x_nilm, x_nilm, x_nilm, x_nilm, x_nilm, x_nilm, (x_cons (x_cokS X xm177 (x_cons (x_at 1147 (by decide +kernel) rfl) (x_cons (x_at 1148 (by decide +kernel) rfl) (x_cons (x_at 73 (by decide +kernel) rfl) x_nilm))) (x_at 1149 (by decide +kernel) rfl) (by decide +kernel) ⟨Nat.le_of_ble_eq_true rfl, Nat.le_of_ble_eq_true rfl⟩) x_nilm), x_nilm, x_nilm, x_nilm⟩
set_option maxRecDepth 1000000 in
theorem xm178 : x_Met vwCl x_G x_Zs x_Tb x_Nb xM178 := x_main xT178 [] [] 2500 (by decide +kernel) (by decide +kernel) xk178 (by decide +kernel)
/-- TwinFiresModel.wordOf(J)I -/
def xM179 : xM := (⟨"TwinFiresModel", "wordOf", "(J)I"⟩, prog_14_method_37_code, 4, some .int, [xFL], [([xFL], some (xI 1 32))], [], (0, 0, 0, 0), none)
def xT179 : xTab := ([], [], [], [], [], [], [(169, 20594117), (171, 769508), (173, 533957), (175, 8556773), (177, 687358116), (179, 755084), (181, 824370), (183, 435828), (185, 763013), (187, 271756)], [], [], [], [])
set_option maxRecDepth 100000 in
set_option maxHeartbeats 4000000 in
theorem xk179 : x_TOK vwCl x_G x_Zs x_Tb x_Nb xM179 xT179 := by
  intro p l e s m args below meth c D U hx hb hml hts hown hK hK0 hU hnm hN
  have X : x_cx p s m args c D U xM179.2.1 xM179.2.2.1 vwCl x_Tb x_Nb xM179.1.cls := ⟨hx, hb, hml, hown, hts, hK, hK0, hU, hN, x_Tb_good, x_Nb_ok⟩
  exact ⟨x_nilm, x_nilm, x_nilm, x_nilm, x_nilm, x_nilm, (x_cons ⟨20594117, rfl, (hts _ (x_at 1272 (by decide +kernel) rfl))⟩ (x_cons ⟨769508, rfl, (hts _ (x_at 1273 (by decide +kernel) rfl))⟩ (x_cons ⟨533957, rfl, (hts _ (x_at 1274 (by decide +kernel) rfl))⟩ (x_cons ⟨8556773, rfl, (hts _ (x_at 1275 (by decide +kernel) rfl))⟩ (x_cons ⟨687358116, rfl, (hts _ (x_at 1276 (by decide +kernel) rfl))⟩ (x_cons ⟨755084, rfl, (hts _ (x_at 1277 (by decide +kernel) rfl))⟩ (x_cons ⟨824370, rfl, (hts _ (x_at 1278 (by decide +kernel) rfl))⟩ (x_cons ⟨435828, rfl, (hts _ (x_at 1279 (by decide +kernel) rfl))⟩ (x_cons ⟨763013, rfl, (hts _ (x_at 1280 (by decide +kernel) rfl))⟩ (x_cons ⟨271756, rfl, (hts _ (x_at 1281 (by decide +kernel) rfl))⟩ x_nilm)))))))))), x_nilm, x_nilm, x_nilm, x_nilm⟩
set_option maxRecDepth 1000000 in
theorem xm179 : x_Met vwCl x_G x_Zs x_Tb x_Nb xM179 := x_main xT179 [] [] 2500 (by decide +kernel) (by decide +kernel) xk179 (by decide +kernel)
/-- TwinFiresModel.numbers(I)I -/
def xM180 : xM := (⟨"TwinFiresModel", "numbers", "(I)I"⟩, prog_14_method_39_code, 1, some .int, [xF], [([xF], some (xI 1 4))], [], (0, 0, 0, 0), none)
def xT180 : xTab := ([], [], [], [], [], [], [], [], [], [], [])
set_option maxRecDepth 100000 in
set_option maxHeartbeats 4000000 in
theorem xk180 : x_TOK vwCl x_G x_Zs x_Tb x_Nb xM180 xT180 := by
  intro p l e s m args below meth c D U hx hb hml hts hown hK hK0 hU hnm hN
  have X : x_cx p s m args c D U xM180.2.1 xM180.2.2.1 vwCl x_Tb x_Nb xM180.1.cls := ⟨hx, hb, hml, hown, hts, hK, hK0, hU, hN, x_Tb_good, x_Nb_ok⟩
  exact ⟨x_nilm, x_nilm, x_nilm, x_nilm, x_nilm, x_nilm, x_nilm, x_nilm, x_nilm, x_nilm, x_nilm⟩
set_option maxRecDepth 1000000 in
theorem xm180 : x_Met vwCl x_G x_Zs x_Tb x_Nb xM180 := x_main xT180 [] [] 2500 (by decide +kernel) (by decide +kernel) xk180 (by decide +kernel)
end
section
/-- TwinFiresModel.tellsItem(I)Z -/
def xM181 : xM := (⟨"TwinFiresModel", "tellsItem", "(I)Z"⟩, prog_14_method_41_code, 6, some .boolean, [xR false [17], xI 0 239], [([xR false [17], xI 0 239], some (xI 1 1)), ([xR false [17], xI 0 239], some (xI 0 0))], [(46, 0), (50, 0)], (3, 69, 0, 0), none)
def xT181 : xTab := ([(32, 17, 15), (35, 17, 16)], [], [], [], [], [], [], [(0, 219, 3, some 17, xM159), (0, 222, 4, some 17, xM147), (0, 226, 6, some 17, xM152)], [], [], [])
set_option maxRecDepth 100000 in
set_option maxHeartbeats 4000000 in
theorem xk181 : x_TOK vwCl x_G x_Zs x_Tb x_Nb xM181 xT181 := by
  intro p l e s m args below meth c D U hx hb hml hts hown hK hK0 hU hnm hN
  have X : x_cx p s m args c D U xM181.2.1 xM181.2.2.1 vwCl x_Tb x_Nb xM181.1.cls := ⟨hx, hb, hml, hown, hts, hK, hK0, hU, hN, x_Tb_good, x_Nb_ok⟩
  exact ⟨(x_cons (fl197 hts) (x_cons (fl198 hts) x_nilm)), x_nilm, x_nilm, x_nilm, x_nilm, x_nilm, x_nilm, (x_cons (x_cokV (ci := 12) X xm159 rfl rfl rfl (x_cons (x_at 1289 (by decide +kernel) rfl) (x_cons (x_at 1174 (by decide +kernel) rfl) (x_cons (x_at 1175 (by decide +kernel) rfl) (x_cons (x_at 73 (by decide +kernel) rfl) x_nilm)))) (x_at 1176 (by decide +kernel) rfl) (by decide +kernel) ⟨Nat.le_of_ble_eq_true rfl, Nat.le_of_ble_eq_true rfl⟩) (x_cons (x_cokV (ci := 12) X xm147 rfl rfl rfl (x_cons (x_at 1290 (by decide +kernel) rfl) (x_cons (x_at 1143 (by decide +kernel) rfl) (x_cons (x_at 1144 (by decide +kernel) rfl) (x_cons (x_at 73 (by decide +kernel) rfl) x_nilm)))) (x_at 1145 (by decide +kernel) rfl) (by decide +kernel) ⟨Nat.le_of_ble_eq_true rfl, Nat.le_of_ble_eq_true rfl⟩) (x_cons (x_cokV (ci := 12) X xm152 rfl rfl rfl (x_cons (x_at 1291 (by decide +kernel) rfl) (x_cons (x_at 1168 (by decide +kernel) rfl) (x_cons (x_at 1169 (by decide +kernel) rfl) (x_cons (x_at 73 (by decide +kernel) rfl) x_nilm)))) (x_at 1170 (by decide +kernel) rfl) (by decide +kernel) ⟨Nat.le_of_ble_eq_true rfl, Nat.le_of_ble_eq_true rfl⟩) x_nilm))), x_nilm, x_nilm, x_nilm⟩
set_option maxRecDepth 1000000 in
theorem xm181 : x_Met vwCl x_G x_Zs x_Tb x_Nb xM181 := x_main xT181 [] [] 2500 (by decide +kernel) (by decide +kernel) xk181 (by decide +kernel)
/-- TwinFiresModel.all()I -/
def xM182 : xM := (⟨"TwinFiresModel", "all", "()I"⟩, prog_14_method_15_code, 1, some .int, [xR false [17]], [([xR false [17]], some (xI 0 1023))], [], (0, 0, 0, 0), none)
def xT182 : xTab := ([(7, 17, 0)], [], [], [], [], [], [], [], [], [], [])
set_option maxRecDepth 100000 in
set_option maxHeartbeats 4000000 in
theorem xk182 : x_TOK vwCl x_G x_Zs x_Tb x_Nb xM182 xT182 := by
  intro p l e s m args below meth c D U hx hb hml hts hown hK hK0 hU hnm hN
  have X : x_cx p s m args c D U xM182.2.1 xM182.2.2.1 vwCl x_Tb x_Nb xM182.1.cls := ⟨hx, hb, hml, hown, hts, hK, hK0, hU, hN, x_Tb_good, x_Nb_ok⟩
  exact ⟨(x_cons (fl190 hts) x_nilm), x_nilm, x_nilm, x_nilm, x_nilm, x_nilm, x_nilm, x_nilm, x_nilm, x_nilm, x_nilm⟩
set_option maxRecDepth 1000000 in
theorem xm182 : x_Met vwCl x_G x_Zs x_Tb x_Nb xM182 := x_main xT182 [] [] 2500 (by decide +kernel) (by decide +kernel) xk182 (by decide +kernel)
/-- TwinFiresModel.in(JJJ)Z -/
def xM183 : xM := (⟨"TwinFiresModel", "in", "(JJJ)Z"⟩, prog_14_method_2_code, 6, some .boolean, [xFL, xL 0 0, xL 0 1023], [([xL 0 1023, xL 0 0, xL 0 1023], some (xI 1 1)), ([xFL, xL 0 0, xL 0 1023], some (xI 0 0))], [], (0, 0, 0, 0), none)
def xT183 : xTab := ([], [], [], [], [], [], [], [], [], [], [])
set_option maxRecDepth 100000 in
set_option maxHeartbeats 4000000 in
theorem xk183 : x_TOK vwCl x_G x_Zs x_Tb x_Nb xM183 xT183 := by
  intro p l e s m args below meth c D U hx hb hml hts hown hK hK0 hU hnm hN
  have X : x_cx p s m args c D U xM183.2.1 xM183.2.2.1 vwCl x_Tb x_Nb xM183.1.cls := ⟨hx, hb, hml, hown, hts, hK, hK0, hU, hN, x_Tb_good, x_Nb_ok⟩
  exact ⟨x_nilm, x_nilm, x_nilm, x_nilm, x_nilm, x_nilm, x_nilm, x_nilm, x_nilm, x_nilm, x_nilm⟩
set_option maxRecDepth 1000000 in
theorem xm183 : x_Met vwCl x_G x_Zs x_Tb x_Nb xM183 := x_main xT183 [] [] 2500 (by decide +kernel) (by decide +kernel) xk183 (by decide +kernel)
/-- TwinFiresModel.isSet(I)Z -/
def xM184 : xM := (⟨"TwinFiresModel", "isSet", "(I)Z"⟩, prog_14_method_16_code, 2, some .boolean, [xR false [17], xF], [([xR false [17], xF], some (xI 0 0)), ([xR false [17], xI 0 1023], some (xI 1 1))], [], (1, 25, 0, 0), none)
def xT184 : xTab := ([], [], [], [], [], [], [], [(1, 87, 3, none, xM183), (0, 91, 1, some 17, xM182)], [], [], [])
set_option maxRecDepth 100000 in
set_option maxHeartbeats 4000000 in
theorem xk184 : x_TOK vwCl x_G x_Zs x_Tb x_Nb xM184 xT184 := by
  intro p l e s m args below meth c D U hx hb hml hts hown hK hK0 hU hnm hN
  have X : x_cx p s m args c D U xM184.2.1 xM184.2.2.1 vwCl x_Tb x_Nb xM184.1.cls := ⟨hx, hb, hml, hown, hts, hK, hK0, hU, hN, x_Tb_good, x_Nb_ok⟩
  exact ⟨x_nilm, x_nilm, x_nilm, x_nilm, x_nilm, x_nilm, x_nilm, (x_cons (x_cokS X xm183 (x_cons (x_at 1147 (by decide +kernel) rfl) (x_cons (x_at 1148 (by decide +kernel) rfl) (x_cons (x_at 73 (by decide +kernel) rfl) x_nilm))) (x_at 1149 (by decide +kernel) rfl) (by decide +kernel) ⟨Nat.le_of_ble_eq_true rfl, Nat.le_of_ble_eq_true rfl⟩) (x_cons (x_cokV (ci := 12) X xm182 rfl rfl rfl (x_cons (x_at 1300 (by decide +kernel) rfl) (x_cons (x_at 1302 (by decide +kernel) rfl) (x_cons (x_at 49 (by decide +kernel) rfl) (x_cons (x_at 73 (by decide +kernel) rfl) x_nilm)))) (x_at 1303 (by decide +kernel) rfl) (by decide +kernel) ⟨Nat.le_of_ble_eq_true rfl, Nat.le_of_ble_eq_true rfl⟩) x_nilm)), x_nilm, x_nilm, x_nilm⟩
set_option maxRecDepth 1000000 in
theorem xm184 : x_Met vwCl x_G x_Zs x_Tb x_Nb xM184 := x_main xT184 [] [] 2500 (by decide +kernel) (by decide +kernel) xk184 (by decide +kernel)
/-- TwinFiresModel.looks(II)V -/
def xM185 : xM := (⟨"TwinFiresModel", "looks", "(II)V"⟩, prog_14_method_29_code, 5, none, [xR false [17], xF, xF], [([xR false [17], xF, xF], none)], [(51, 0)], (3, 83, 0, 0), none)
def xT185 : xTab := ([(7, 17, 0), (26, 17, 8)], [], [], [], [], [], [], [(0, 140, 5, some 17, xM173)], [], [], [])
set_option maxRecDepth 100000 in
set_option maxHeartbeats 4000000 in
theorem xk185 : x_TOK vwCl x_G x_Zs x_Tb x_Nb xM185 xT185 := by
  intro p l e s m args below meth c D U hx hb hml hts hown hK hK0 hU hnm hN
  have X : x_cx p s m args c D U xM185.2.1 xM185.2.2.1 vwCl x_Tb x_Nb xM185.1.cls := ⟨hx, hb, hml, hown, hts, hK, hK0, hU, hN, x_Tb_good, x_Nb_ok⟩
  exact ⟨(x_cons (fl190 hts) (x_cons (fl199 hts) x_nilm)), x_nilm, x_nilm, x_nilm, x_nilm, x_nilm, x_nilm, (x_cons (x_cokV (ci := 12) X xm173 rfl rfl rfl (x_cons (x_at 1222 (by decide +kernel) rfl) (x_cons (x_at 1224 (by decide +kernel) rfl) (x_cons (x_at 41 (by decide +kernel) rfl) (x_cons (x_at 73 (by decide +kernel) rfl) x_nilm)))) (x_at 1225 (by decide +kernel) rfl) (by decide +kernel) ⟨Nat.le_of_ble_eq_true rfl, Nat.le_of_ble_eq_true rfl⟩) x_nilm), x_nilm, x_nilm, x_nilm⟩
set_option maxRecDepth 1000000 in
theorem xm185 : x_Met vwCl x_G x_Zs x_Tb x_Nb xM185 := x_main xT185 [(2, ([(0, xR false [17]), (1, xF), (2, xF), (3, xI 0 10)], [], []), (3, true), [], false, 0, []), (27, ([(0, xR false [17]), (1, xF), (2, xF), (3, xI 0 10)], [], [(0, 12, 0, xR false [46])]), (3, true), [], false, 0, []), (40, ([(0, xR false [17]), (1, xF), (2, xF), (3, xI 0 9), (4, xI 0 9)], [], [(0, 12, 0, xR false [46])]), (4, true), [3], false, 1, [])] [] 2500 (by decide +kernel) (by decide +kernel) xk185 (by decide +kernel)
/-- TwinFiresModel.looksNow()V -/
def xM186 : xM := (⟨"TwinFiresModel", "looksNow", "()V"⟩, prog_14_method_30_code, 1, none, [xR false [17]], [([xR false [17]], none)], [(51, 0)], (4, 107, 0, 0), none)
def xT186 : xTab := ([(7, 17, 0)], [], [], [], [], [], [], [(0, 144, 3, some 17, xM185)], [], [], [])
set_option maxRecDepth 100000 in
set_option maxHeartbeats 4000000 in
theorem xk186 : x_TOK vwCl x_G x_Zs x_Tb x_Nb xM186 xT186 := by
  intro p l e s m args below meth c D U hx hb hml hts hown hK hK0 hU hnm hN
  have X : x_cx p s m args c D U xM186.2.1 xM186.2.2.1 vwCl x_Tb x_Nb xM186.1.cls := ⟨hx, hb, hml, hown, hts, hK, hK0, hU, hN, x_Tb_good, x_Nb_ok⟩
  exact ⟨(x_cons (fl190 hts) x_nilm), x_nilm, x_nilm, x_nilm, x_nilm, x_nilm, x_nilm, (x_cons (x_cokV (ci := 12) X xm185 rfl rfl rfl (x_cons (x_at 1308 (by decide +kernel) rfl) (x_cons (x_at 1310 (by decide +kernel) rfl) (x_cons (x_at 51 (by decide +kernel) rfl) (x_cons (x_at 73 (by decide +kernel) rfl) x_nilm)))) (x_at 1311 (by decide +kernel) rfl) (by decide +kernel) ⟨Nat.le_of_ble_eq_true rfl, Nat.le_of_ble_eq_true rfl⟩) x_nilm), x_nilm, x_nilm, x_nilm⟩
set_option maxRecDepth 1000000 in
theorem xm186 : x_Met vwCl x_G x_Zs x_Tb x_Nb xM186 := x_main xT186 [] [] 2500 (by decide +kernel) (by decide +kernel) xk186 (by decide +kernel)
/-- TwinFiresModel.sees(II)I -/
def xM187 : xM := (⟨"TwinFiresModel", "sees", "(II)I"⟩, prog_14_method_43_code, 3, some .int, [xR false [17], xF, xF], [([xR false [17], xF, xF], some (xF))], [(50, 0), (51, 0)], (5, 127, 0, 0), none)
def xT187 : xTab := ([(26, 17, 8)], [], [], [], [], [], [], [(0, 102, 1, some 17, xM143), (0, 151, 2, some 17, xM171), (0, 237, 2, some 17, xM184), (0, 240, 1, some 17, xM186)], [], [], [])
set_option maxRecDepth 100000 in
set_option maxHeartbeats 4000000 in
theorem xk187 : x_TOK vwCl x_G x_Zs x_Tb x_Nb xM187 xT187 := by
  intro p l e s m args below meth c D U hx hb hml hts hown hK hK0 hU hnm hN
  have X : x_cx p s m args c D U xM187.2.1 xM187.2.2.1 vwCl x_Tb x_Nb xM187.1.cls := ⟨hx, hb, hml, hown, hts, hK, hK0, hU, hN, x_Tb_good, x_Nb_ok⟩
  exact ⟨(x_cons (fl199 hts) x_nilm), x_nilm, x_nilm, x_nilm, x_nilm, x_nilm, x_nilm, (x_cons (x_cokV (ci := 12) X xm143 rfl rfl rfl (x_cons (x_at 1155 (by decide +kernel) rfl) (x_cons (x_at 1157 (by decide +kernel) rfl) (x_cons (x_at 32 (by decide +kernel) rfl) (x_cons (x_at 73 (by decide +kernel) rfl) x_nilm)))) (x_at 1158 (by decide +kernel) rfl) (by decide +kernel) ⟨Nat.le_of_ble_eq_true rfl, Nat.le_of_ble_eq_true rfl⟩) (x_cons (x_cokV (ci := 12) X xm171 rfl rfl rfl (x_cons (x_at 1218 (by decide +kernel) rfl) (x_cons (x_at 1220 (by decide +kernel) rfl) (x_cons (x_at 40 (by decide +kernel) rfl) (x_cons (x_at 73 (by decide +kernel) rfl) x_nilm)))) (x_at 1221 (by decide +kernel) rfl) (by decide +kernel) ⟨Nat.le_of_ble_eq_true rfl, Nat.le_of_ble_eq_true rfl⟩) (x_cons (x_cokV (ci := 12) X xm184 rfl rfl rfl (x_cons (x_at 1296 (by decide +kernel) rfl) (x_cons (x_at 1298 (by decide +kernel) rfl) (x_cons (x_at 48 (by decide +kernel) rfl) (x_cons (x_at 73 (by decide +kernel) rfl) x_nilm)))) (x_at 1299 (by decide +kernel) rfl) (by decide +kernel) ⟨Nat.le_of_ble_eq_true rfl, Nat.le_of_ble_eq_true rfl⟩) (x_cons (x_cokV (ci := 12) X xm186 rfl rfl rfl (x_cons (x_at 1304 (by decide +kernel) rfl) (x_cons (x_at 1306 (by decide +kernel) rfl) (x_cons (x_at 50 (by decide +kernel) rfl) (x_cons (x_at 73 (by decide +kernel) rfl) x_nilm)))) (x_at 1307 (by decide +kernel) rfl) (by decide +kernel) ⟨Nat.le_of_ble_eq_true rfl, Nat.le_of_ble_eq_true rfl⟩) x_nilm)))), x_nilm, x_nilm, x_nilm⟩
set_option maxRecDepth 1000000 in
theorem xm187 : x_Met vwCl x_G x_Zs x_Tb x_Nb xM187 := x_main xT187 [] [] 2500 (by decide +kernel) (by decide +kernel) xk187 (by decide +kernel)
/-- TwinFiresModel.in(JJJ)Z -/
def xM188 : xM := (⟨"TwinFiresModel", "in", "(JJJ)Z"⟩, prog_14_method_2_code, 6, some .boolean, [xFL, xL 0 0, xL 1 1], [([xL 0 1, xL 0 0, xL 1 1], some (xI 1 1)), ([xFL, xL 0 0, xL 1 1], some (xI 0 0))], [], (0, 0, 0, 0), none)
def xT188 : xTab := ([], [], [], [], [], [], [], [], [], [], [])
set_option maxRecDepth 100000 in
set_option maxHeartbeats 4000000 in
theorem xk188 : x_TOK vwCl x_G x_Zs x_Tb x_Nb xM188 xT188 := by
  intro p l e s m args below meth c D U hx hb hml hts hown hK hK0 hU hnm hN
  have X : x_cx p s m args c D U xM188.2.1 xM188.2.2.1 vwCl x_Tb x_Nb xM188.1.cls := ⟨hx, hb, hml, hown, hts, hK, hK0, hU, hN, x_Tb_good, x_Nb_ok⟩
  exact ⟨x_nilm, x_nilm, x_nilm, x_nilm, x_nilm, x_nilm, x_nilm, x_nilm, x_nilm, x_nilm, x_nilm⟩
set_option maxRecDepth 1000000 in
theorem xm188 : x_Met vwCl x_G x_Zs x_Tb x_Nb xM188 := x_main xT188 [] [] 2500 (by decide +kernel) (by decide +kernel) xk188 (by decide +kernel)
/-- TwinFiresModel.bits(I)I -/
def xM189 : xM := (⟨"TwinFiresModel", "bits", "(I)I"⟩, prog_14_method_12_code, 3, some .int, [xF], [([xF], some (xF))], [], (0, 0, 0, 0), none)
def xT189 : xTab := ([], [], [], [], [], [], [], [], [], [], [])
set_option maxRecDepth 100000 in
set_option maxHeartbeats 4000000 in
theorem xk189 : x_TOK vwCl x_G x_Zs x_Tb x_Nb xM189 xT189 := by
  intro p l e s m args below meth c D U hx hb hml hts hown hK hK0 hU hnm hN
  have X : x_cx p s m args c D U xM189.2.1 xM189.2.2.1 vwCl x_Tb x_Nb xM189.1.cls := ⟨hx, hb, hml, hown, hts, hK, hK0, hU, hN, x_Tb_good, x_Nb_ok⟩
  exact ⟨x_nilm, x_nilm, x_nilm, x_nilm, x_nilm, x_nilm, x_nilm, x_nilm, x_nilm, x_nilm, x_nilm⟩
set_option maxRecDepth 1000000 in
theorem xm189 : x_Met vwCl x_G x_Zs x_Tb x_Nb xM189 := x_main xT189 [(4, ([(0, xF), (1, xF), (2, xI 0 10)], [], []), (2, true), [], false, 0, [])] [] 2500 (by decide +kernel) (by decide +kernel) xk189 (by decide +kernel)
/-- TwinFiresModel.judge(II)I -/
def xM190 : xM := (⟨"TwinFiresModel", "judge", "(II)I"⟩, prog_14_method_44_code, 5, some .int, [xR false [17], xF, xF], [([xR false [17], xF, xF], some (xF))], [(50, 0), (51, 0)], (5, 127, 0, 0), none)
def xT190 : xTab := ([(7, 17, 0), (26, 17, 8)], [], [], [], [], [], [], [(1, 87, 3, none, xM188), (1, 148, 1, none, xM189), (0, 102, 1, some 17, xM143), (0, 237, 2, some 17, xM184), (0, 240, 1, some 17, xM186)], [], [], [])
set_option maxRecDepth 100000 in
set_option maxHeartbeats 4000000 in
theorem xk190 : x_TOK vwCl x_G x_Zs x_Tb x_Nb xM190 xT190 := by
  intro p l e s m args below meth c D U hx hb hml hts hown hK hK0 hU hnm hN
  have X : x_cx p s m args c D U xM190.2.1 xM190.2.2.1 vwCl x_Tb x_Nb xM190.1.cls := ⟨hx, hb, hml, hown, hts, hK, hK0, hU, hN, x_Tb_good, x_Nb_ok⟩
  exact ⟨(x_cons (fl190 hts) (x_cons (fl199 hts) x_nilm)), x_nilm, x_nilm, x_nilm, x_nilm, x_nilm, x_nilm, (x_cons (x_cokS X xm188 (x_cons (x_at 1147 (by decide +kernel) rfl) (x_cons (x_at 1148 (by decide +kernel) rfl) (x_cons (x_at 73 (by decide +kernel) rfl) x_nilm))) (x_at 1149 (by decide +kernel) rfl) (by decide +kernel) ⟨Nat.le_of_ble_eq_true rfl, Nat.le_of_ble_eq_true rfl⟩) (x_cons (x_cokS X xm189 (x_cons (x_at 1316 (by decide +kernel) rfl) (x_cons (x_at 1317 (by decide +kernel) rfl) (x_cons (x_at 73 (by decide +kernel) rfl) x_nilm))) (x_at 1318 (by decide +kernel) rfl) (by decide +kernel) ⟨Nat.le_of_ble_eq_true rfl, Nat.le_of_ble_eq_true rfl⟩) (x_cons (x_cokV (ci := 12) X xm143 rfl rfl rfl (x_cons (x_at 1155 (by decide +kernel) rfl) (x_cons (x_at 1157 (by decide +kernel) rfl) (x_cons (x_at 32 (by decide +kernel) rfl) (x_cons (x_at 73 (by decide +kernel) rfl) x_nilm)))) (x_at 1158 (by decide +kernel) rfl) (by decide +kernel) ⟨Nat.le_of_ble_eq_true rfl, Nat.le_of_ble_eq_true rfl⟩) (x_cons (x_cokV (ci := 12) X xm184 rfl rfl rfl (x_cons (x_at 1296 (by decide +kernel) rfl) (x_cons (x_at 1298 (by decide +kernel) rfl) (x_cons (x_at 48 (by decide +kernel) rfl) (x_cons (x_at 73 (by decide +kernel) rfl) x_nilm)))) (x_at 1299 (by decide +kernel) rfl) (by decide +kernel) ⟨Nat.le_of_ble_eq_true rfl, Nat.le_of_ble_eq_true rfl⟩) (x_cons (x_cokV (ci := 12) X xm186 rfl rfl rfl (x_cons (x_at 1304 (by decide +kernel) rfl) (x_cons (x_at 1306 (by decide +kernel) rfl) (x_cons (x_at 50 (by decide +kernel) rfl) (x_cons (x_at 73 (by decide +kernel) rfl) x_nilm)))) (x_at 1307 (by decide +kernel) rfl) (by decide +kernel) ⟨Nat.le_of_ble_eq_true rfl, Nat.le_of_ble_eq_true rfl⟩) x_nilm))))), x_nilm, x_nilm, x_nilm⟩
set_option maxRecDepth 1000000 in
theorem xm190 : x_Met vwCl x_G x_Zs x_Tb x_Nb xM190 := x_main xT190 [(29, ([(0, xR false [17]), (1, xI 0 1023), (2, xI 0 1), (3, xI 0 10)], [], []), (3, true), [], false, 0, [])] [] 2500 (by decide +kernel) (by decide +kernel) xk190 (by decide +kernel)
/-- TwinFiresModel.isLawful(I)Z -/
def xM191 : xM := (⟨"TwinFiresModel", "isLawful", "(I)Z"⟩, prog_14_method_31_code, 4, some .boolean, [xR false [17], xF], [([xR false [17], xF], some (xI 0 0)), ([xR false [17], xF], some (xI 0 1))], [], (1, 22, 0, 0), none)
def xT191 : xTab := ([(7, 17, 0), (26, 17, 8)], [], [], [], [], [], [], [(1, 148, 1, none, xM189)], [], [], [])
set_option maxRecDepth 100000 in
set_option maxHeartbeats 4000000 in
theorem xk191 : x_TOK vwCl x_G x_Zs x_Tb x_Nb xM191 xT191 := by
  intro p l e s m args below meth c D U hx hb hml hts hown hK hK0 hU hnm hN
  have X : x_cx p s m args c D U xM191.2.1 xM191.2.2.1 vwCl x_Tb x_Nb xM191.1.cls := ⟨hx, hb, hml, hown, hts, hK, hK0, hU, hN, x_Tb_good, x_Nb_ok⟩
  exact ⟨(x_cons (fl190 hts) (x_cons (fl199 hts) x_nilm)), x_nilm, x_nilm, x_nilm, x_nilm, x_nilm, x_nilm, (x_cons (x_cokS X xm189 (x_cons (x_at 1316 (by decide +kernel) rfl) (x_cons (x_at 1317 (by decide +kernel) rfl) (x_cons (x_at 73 (by decide +kernel) rfl) x_nilm))) (x_at 1318 (by decide +kernel) rfl) (by decide +kernel) ⟨Nat.le_of_ble_eq_true rfl, Nat.le_of_ble_eq_true rfl⟩) x_nilm), x_nilm, x_nilm, x_nilm⟩
set_option maxRecDepth 1000000 in
theorem xm191 : x_Met vwCl x_G x_Zs x_Tb x_Nb xM191 := x_main xT191 [(4, ([(0, xR false [17]), (1, xF), (2, xI 0 1), (3, xI 0 10)], [], []), (3, true), [], false, 0, [])] [] 2500 (by decide +kernel) (by decide +kernel) xk191 (by decide +kernel)
/-- TwinFiresModel.most(II)I -/
def xM192 : xM := (⟨"TwinFiresModel", "most", "(II)I"⟩, prog_14_method_45_code, 6, some .int, [xR false [17], xF, xF], [([xR false [17], xF, xF], some (xF))], [(50, 0), (51, 0)], (5, 127, 0, 0), none)
def xT192 : xTab := ([], [], [], [], [], [], [], [(1, 87, 3, none, xM188), (1, 148, 1, none, xM189), (0, 91, 1, some 17, xM182), (0, 102, 1, some 17, xM143), (0, 126, 1, some 17, xM164), (0, 151, 2, some 17, xM171), (0, 240, 1, some 17, xM186), (0, 243, 2, some 17, xM191)], [], [], [])
set_option maxRecDepth 100000 in
set_option maxHeartbeats 4000000 in
theorem xk192 : x_TOK vwCl x_G x_Zs x_Tb x_Nb xM192 xT192 := by
  intro p l e s m args below meth c D U hx hb hml hts hown hK hK0 hU hnm hN
  have X : x_cx p s m args c D U xM192.2.1 xM192.2.2.1 vwCl x_Tb x_Nb xM192.1.cls := ⟨hx, hb, hml, hown, hts, hK, hK0, hU, hN, x_Tb_good, x_Nb_ok⟩
  exact ⟨x_nilm, x_nilm, x_nilm, x_nilm, x_nilm, x_nilm, x_nilm, (x_cons (x_cokS X xm188 (x_cons (x_at 1147 (by decide +kernel) rfl) (x_cons (x_at 1148 (by decide +kernel) rfl) (x_cons (x_at 73 (by decide +kernel) rfl) x_nilm))) (x_at 1149 (by decide +kernel) rfl) (by decide +kernel) ⟨Nat.le_of_ble_eq_true rfl, Nat.le_of_ble_eq_true rfl⟩) (x_cons (x_cokS X xm189 (x_cons (x_at 1316 (by decide +kernel) rfl) (x_cons (x_at 1317 (by decide +kernel) rfl) (x_cons (x_at 73 (by decide +kernel) rfl) x_nilm))) (x_at 1318 (by decide +kernel) rfl) (by decide +kernel) ⟨Nat.le_of_ble_eq_true rfl, Nat.le_of_ble_eq_true rfl⟩) (x_cons (x_cokV (ci := 12) X xm182 rfl rfl rfl (x_cons (x_at 1300 (by decide +kernel) rfl) (x_cons (x_at 1302 (by decide +kernel) rfl) (x_cons (x_at 49 (by decide +kernel) rfl) (x_cons (x_at 73 (by decide +kernel) rfl) x_nilm)))) (x_at 1303 (by decide +kernel) rfl) (by decide +kernel) ⟨Nat.le_of_ble_eq_true rfl, Nat.le_of_ble_eq_true rfl⟩) (x_cons (x_cokV (ci := 12) X xm143 rfl rfl rfl (x_cons (x_at 1155 (by decide +kernel) rfl) (x_cons (x_at 1157 (by decide +kernel) rfl) (x_cons (x_at 32 (by decide +kernel) rfl) (x_cons (x_at 73 (by decide +kernel) rfl) x_nilm)))) (x_at 1158 (by decide +kernel) rfl) (by decide +kernel) ⟨Nat.le_of_ble_eq_true rfl, Nat.le_of_ble_eq_true rfl⟩) (x_cons (x_cokV (ci := 12) X xm164 rfl rfl rfl (x_cons (x_at 1195 (by decide +kernel) rfl) (x_cons (x_at 1197 (by decide +kernel) rfl) (x_cons (x_at 38 (by decide +kernel) rfl) (x_cons (x_at 73 (by decide +kernel) rfl) x_nilm)))) (x_at 1198 (by decide +kernel) rfl) (by decide +kernel) ⟨Nat.le_of_ble_eq_true rfl, Nat.le_of_ble_eq_true rfl⟩) (x_cons (x_cokV (ci := 12) X xm171 rfl rfl rfl (x_cons (x_at 1218 (by decide +kernel) rfl) (x_cons (x_at 1220 (by decide +kernel) rfl) (x_cons (x_at 40 (by decide +kernel) rfl) (x_cons (x_at 73 (by decide +kernel) rfl) x_nilm)))) (x_at 1221 (by decide +kernel) rfl) (by decide +kernel) ⟨Nat.le_of_ble_eq_true rfl, Nat.le_of_ble_eq_true rfl⟩) (x_cons (x_cokV (ci := 12) X xm186 rfl rfl rfl (x_cons (x_at 1304 (by decide +kernel) rfl) (x_cons (x_at 1306 (by decide +kernel) rfl) (x_cons (x_at 50 (by decide +kernel) rfl) (x_cons (x_at 73 (by decide +kernel) rfl) x_nilm)))) (x_at 1307 (by decide +kernel) rfl) (by decide +kernel) ⟨Nat.le_of_ble_eq_true rfl, Nat.le_of_ble_eq_true rfl⟩) (x_cons (x_cokV (ci := 12) X xm191 rfl rfl rfl (x_cons (x_at 1323 (by decide +kernel) rfl) (x_cons (x_at 1325 (by decide +kernel) rfl) (x_cons (x_at 52 (by decide +kernel) rfl) (x_cons (x_at 73 (by decide +kernel) rfl) x_nilm)))) (x_at 1326 (by decide +kernel) rfl) (by decide +kernel) ⟨Nat.le_of_ble_eq_true rfl, Nat.le_of_ble_eq_true rfl⟩) x_nilm)))))))), x_nilm, x_nilm, x_nilm⟩
set_option maxRecDepth 1000000 in
theorem xm192 : x_Met vwCl x_G x_Zs x_Tb x_Nb xM192 := x_main xT192 [(37, ([(0, xR false [17]), (1, xI (-1) 9), (2, xI 0 1), (3, xI (-1) 1023), (4, xI 0 1024)], [], []), (4, true), [], false, 0, [])] [] 2500 (by decide +kernel) (by decide +kernel) xk192 (by decide +kernel)
/-- TwinFiresModel.in(JJJ)Z -/
def xM193 : xM := (⟨"TwinFiresModel", "in", "(JJJ)Z"⟩, prog_14_method_2_code, 6, some .boolean, [xFL, xL (-1) (-1), xL 10 10], [([xL (-1) 10, xL (-1) (-1), xL 10 10], some (xI 1 1)), ([xFL, xL (-1) (-1), xL 10 10], some (xI 0 0))], [], (0, 0, 0, 0), none)
def xT193 : xTab := ([], [], [], [], [], [], [], [], [], [], [])
set_option maxRecDepth 100000 in
set_option maxHeartbeats 4000000 in
theorem xk193 : x_TOK vwCl x_G x_Zs x_Tb x_Nb xM193 xT193 := by
  intro p l e s m args below meth c D U hx hb hml hts hown hK hK0 hU hnm hN
  have X : x_cx p s m args c D U xM193.2.1 xM193.2.2.1 vwCl x_Tb x_Nb xM193.1.cls := ⟨hx, hb, hml, hown, hts, hK, hK0, hU, hN, x_Tb_good, x_Nb_ok⟩
  exact ⟨x_nilm, x_nilm, x_nilm, x_nilm, x_nilm, x_nilm, x_nilm, x_nilm, x_nilm, x_nilm, x_nilm⟩
set_option maxRecDepth 1000000 in
theorem xm193 : x_Met vwCl x_G x_Zs x_Tb x_Nb xM193 := x_main xT193 [] [] 2500 (by decide +kernel) (by decide +kernel) xk193 (by decide +kernel)
/-- TwinFiresModel.lawful(I)I -/
def xM194 : xM := (⟨"TwinFiresModel", "lawful", "(I)I"⟩, prog_14_method_46_code, 4, some .int, [xR false [17], xF], [([xR false [17], xF], some (xF))], [(50, 0), (51, 0)], (5, 127, 0, 0), none)
def xT194 : xTab := ([], [], [], [], [], [], [(114, 10), (246, -1)], [(1, 87, 3, none, xM193), (1, 148, 1, none, xM189), (0, 91, 1, some 17, xM182), (0, 102, 1, some 17, xM143), (0, 240, 1, some 17, xM186), (0, 243, 2, some 17, xM191)], [], [], [])
set_option maxRecDepth 100000 in
set_option maxHeartbeats 4000000 in
theorem xk194 : x_TOK vwCl x_G x_Zs x_Tb x_Nb xM194 xT194 := by
  intro p l e s m args below meth c D U hx hb hml hts hown hK hK0 hU hnm hN
  have X : x_cx p s m args c D U xM194.2.1 xM194.2.2.1 vwCl x_Tb x_Nb xM194.1.cls := ⟨hx, hb, hml, hown, hts, hK, hK0, hU, hN, x_Tb_good, x_Nb_ok⟩
  exact ⟨x_nilm, x_nilm, x_nilm, x_nilm, x_nilm, x_nilm, (x_cons ⟨10, rfl, (hts _ (x_at 1178 (by decide +kernel) rfl))⟩ (x_cons ⟨-1, rfl, (hts _ (x_at 1331 (by decide +kernel) rfl))⟩ x_nilm)), (x_cons (x_cokS X xm193 (x_cons (x_at 1147 (by decide +kernel) rfl) (x_cons (x_at 1148 (by decide +kernel) rfl) (x_cons (x_at 73 (by decide +kernel) rfl) x_nilm))) (x_at 1149 (by decide +kernel) rfl) (by decide +kernel) ⟨Nat.le_of_ble_eq_true rfl, Nat.le_of_ble_eq_true rfl⟩) (x_cons (x_cokS X xm189 (x_cons (x_at 1316 (by decide +kernel) rfl) (x_cons (x_at 1317 (by decide +kernel) rfl) (x_cons (x_at 73 (by decide +kernel) rfl) x_nilm))) (x_at 1318 (by decide +kernel) rfl) (by decide +kernel) ⟨Nat.le_of_ble_eq_true rfl, Nat.le_of_ble_eq_true rfl⟩) (x_cons (x_cokV (ci := 12) X xm182 rfl rfl rfl (x_cons (x_at 1300 (by decide +kernel) rfl) (x_cons (x_at 1302 (by decide +kernel) rfl) (x_cons (x_at 49 (by decide +kernel) rfl) (x_cons (x_at 73 (by decide +kernel) rfl) x_nilm)))) (x_at 1303 (by decide +kernel) rfl) (by decide +kernel) ⟨Nat.le_of_ble_eq_true rfl, Nat.le_of_ble_eq_true rfl⟩) (x_cons (x_cokV (ci := 12) X xm143 rfl rfl rfl (x_cons (x_at 1155 (by decide +kernel) rfl) (x_cons (x_at 1157 (by decide +kernel) rfl) (x_cons (x_at 32 (by decide +kernel) rfl) (x_cons (x_at 73 (by decide +kernel) rfl) x_nilm)))) (x_at 1158 (by decide +kernel) rfl) (by decide +kernel) ⟨Nat.le_of_ble_eq_true rfl, Nat.le_of_ble_eq_true rfl⟩) (x_cons (x_cokV (ci := 12) X xm186 rfl rfl rfl (x_cons (x_at 1304 (by decide +kernel) rfl) (x_cons (x_at 1306 (by decide +kernel) rfl) (x_cons (x_at 50 (by decide +kernel) rfl) (x_cons (x_at 73 (by decide +kernel) rfl) x_nilm)))) (x_at 1307 (by decide +kernel) rfl) (by decide +kernel) ⟨Nat.le_of_ble_eq_true rfl, Nat.le_of_ble_eq_true rfl⟩) (x_cons (x_cokV (ci := 12) X xm191 rfl rfl rfl (x_cons (x_at 1323 (by decide +kernel) rfl) (x_cons (x_at 1325 (by decide +kernel) rfl) (x_cons (x_at 52 (by decide +kernel) rfl) (x_cons (x_at 73 (by decide +kernel) rfl) x_nilm)))) (x_at 1326 (by decide +kernel) rfl) (by decide +kernel) ⟨Nat.le_of_ble_eq_true rfl, Nat.le_of_ble_eq_true rfl⟩) x_nilm)))))), x_nilm, x_nilm, x_nilm⟩
set_option maxRecDepth 1000000 in
theorem xm194 : x_Met vwCl x_G x_Zs x_Tb x_Nb xM194 := x_main xT194 [(27, ([(0, xR false [17]), (1, xI (-1) 10), (2, xF), (3, xI 0 1024)], [], []), (3, true), [], false, 0, [])] [] 2500 (by decide +kernel) (by decide +kernel) xk194 (by decide +kernel)
/-- TwinFiresModel.years(I)I -/
def xM195 : xM := (⟨"TwinFiresModel", "years", "(I)I"⟩, prog_14_method_47_code, 4, some .int, [xR false [17], xF], [([xR false [17], xF], some (xF))], [(50, 0), (51, 0)], (4, 107, 0, 0), none)
def xT195 : xTab := ([(7, 17, 0)], [], [], [], [], [], [], [(1, 129, 1, none, xM167), (0, 102, 1, some 17, xM143), (0, 144, 3, some 17, xM185), (0, 237, 2, some 17, xM184), (0, 243, 2, some 17, xM191)], [], [], [])
set_option maxRecDepth 100000 in
set_option maxHeartbeats 4000000 in
theorem xk195 : x_TOK vwCl x_G x_Zs x_Tb x_Nb xM195 xT195 := by
  intro p l e s m args below meth c D U hx hb hml hts hown hK hK0 hU hnm hN
  have X : x_cx p s m args c D U xM195.2.1 xM195.2.2.1 vwCl x_Tb x_Nb xM195.1.cls := ⟨hx, hb, hml, hown, hts, hK, hK0, hU, hN, x_Tb_good, x_Nb_ok⟩
  exact ⟨(x_cons (fl190 hts) x_nilm), x_nilm, x_nilm, x_nilm, x_nilm, x_nilm, x_nilm, (x_cons (x_cokS X xm167 (x_cons (x_at 1211 (by decide +kernel) rfl) (x_cons (x_at 1212 (by decide +kernel) rfl) (x_cons (x_at 73 (by decide +kernel) rfl) x_nilm))) (x_at 1213 (by decide +kernel) rfl) (by decide +kernel) ⟨Nat.le_of_ble_eq_true rfl, Nat.le_of_ble_eq_true rfl⟩) (x_cons (x_cokV (ci := 12) X xm143 rfl rfl rfl (x_cons (x_at 1155 (by decide +kernel) rfl) (x_cons (x_at 1157 (by decide +kernel) rfl) (x_cons (x_at 32 (by decide +kernel) rfl) (x_cons (x_at 73 (by decide +kernel) rfl) x_nilm)))) (x_at 1158 (by decide +kernel) rfl) (by decide +kernel) ⟨Nat.le_of_ble_eq_true rfl, Nat.le_of_ble_eq_true rfl⟩) (x_cons (x_cokV (ci := 12) X xm185 rfl rfl rfl (x_cons (x_at 1308 (by decide +kernel) rfl) (x_cons (x_at 1310 (by decide +kernel) rfl) (x_cons (x_at 51 (by decide +kernel) rfl) (x_cons (x_at 73 (by decide +kernel) rfl) x_nilm)))) (x_at 1311 (by decide +kernel) rfl) (by decide +kernel) ⟨Nat.le_of_ble_eq_true rfl, Nat.le_of_ble_eq_true rfl⟩) (x_cons (x_cokV (ci := 12) X xm184 rfl rfl rfl (x_cons (x_at 1296 (by decide +kernel) rfl) (x_cons (x_at 1298 (by decide +kernel) rfl) (x_cons (x_at 48 (by decide +kernel) rfl) (x_cons (x_at 73 (by decide +kernel) rfl) x_nilm)))) (x_at 1299 (by decide +kernel) rfl) (by decide +kernel) ⟨Nat.le_of_ble_eq_true rfl, Nat.le_of_ble_eq_true rfl⟩) (x_cons (x_cokV (ci := 12) X xm191 rfl rfl rfl (x_cons (x_at 1323 (by decide +kernel) rfl) (x_cons (x_at 1325 (by decide +kernel) rfl) (x_cons (x_at 52 (by decide +kernel) rfl) (x_cons (x_at 73 (by decide +kernel) rfl) x_nilm)))) (x_at 1326 (by decide +kernel) rfl) (by decide +kernel) ⟨Nat.le_of_ble_eq_true rfl, Nat.le_of_ble_eq_true rfl⟩) x_nilm))))), x_nilm, x_nilm, x_nilm⟩
set_option maxRecDepth 1000000 in
theorem xm195 : x_Met vwCl x_G x_Zs x_Tb x_Nb xM195 := x_main xT195 [(17, ([(0, xR false [17]), (1, xI 0 1023), (2, xI 0 1023), (3, xI 0 10)], [], []), (3, true), [], false, 0, [])] [] 2500 (by decide +kernel) (by decide +kernel) xk195 (by decide +kernel)
/-- TwinFiresModel.in(JJJ)Z -/
def xM196 : xM := (⟨"TwinFiresModel", "in", "(JJJ)Z"⟩, prog_14_method_2_code, 6, some .boolean, [xFL, xL 0 0, xL 11 11], [([xL 0 11, xL 0 0, xL 11 11], some (xI 1 1)), ([xFL, xL 0 0, xL 11 11], some (xI 0 0))], [], (0, 0, 0, 0), none)
def xT196 : xTab := ([], [], [], [], [], [], [], [], [], [], [])
set_option maxRecDepth 100000 in
set_option maxHeartbeats 4000000 in
theorem xk196 : x_TOK vwCl x_G x_Zs x_Tb x_Nb xM196 xT196 := by
  intro p l e s m args below meth c D U hx hb hml hts hown hK hK0 hU hnm hN
  have X : x_cx p s m args c D U xM196.2.1 xM196.2.2.1 vwCl x_Tb x_Nb xM196.1.cls := ⟨hx, hb, hml, hown, hts, hK, hK0, hU, hN, x_Tb_good, x_Nb_ok⟩
  exact ⟨x_nilm, x_nilm, x_nilm, x_nilm, x_nilm, x_nilm, x_nilm, x_nilm, x_nilm, x_nilm, x_nilm⟩
set_option maxRecDepth 1000000 in
theorem xm196 : x_Met vwCl x_G x_Zs x_Tb x_Nb xM196 := x_main xT196 [] [] 2500 (by decide +kernel) (by decide +kernel) xk196 (by decide +kernel)
/-- TwinFiresModel.mist(II)I -/
def xM197 : xM := (⟨"TwinFiresModel", "mist", "(II)I"⟩, prog_14_method_48_code, 3, some .int, [xR false [17], xF, xF], [([xR false [17], xF, xF], some (xF))], [(46, 0), (50, 0)], (2, 42, 0, 0), none)
def xT197 : xTab := ([], [], [], [], [], [], [(97, 99), (248, 11)], [(1, 87, 3, none, xM196), (1, 87, 3, none, xM144), (0, 102, 1, some 17, xM143), (0, 116, 3, some 17, xM160)], [], [], [])
set_option maxRecDepth 100000 in
set_option maxHeartbeats 4000000 in
theorem xk197 : x_TOK vwCl x_G x_Zs x_Tb x_Nb xM197 xT197 := by
  intro p l e s m args below meth c D U hx hb hml hts hown hK hK0 hU hnm hN
  have X : x_cx p s m args c D U xM197.2.1 xM197.2.2.1 vwCl x_Tb x_Nb xM197.1.cls := ⟨hx, hb, hml, hown, hts, hK, hK0, hU, hN, x_Tb_good, x_Nb_ok⟩
  exact ⟨x_nilm, x_nilm, x_nilm, x_nilm, x_nilm, x_nilm, (x_cons ⟨99, rfl, (hts _ (x_at 1150 (by decide +kernel) rfl))⟩ (x_cons ⟨11, rfl, (hts _ (x_at 1340 (by decide +kernel) rfl))⟩ x_nilm)), (x_cons (x_cokS X xm196 (x_cons (x_at 1147 (by decide +kernel) rfl) (x_cons (x_at 1148 (by decide +kernel) rfl) (x_cons (x_at 73 (by decide +kernel) rfl) x_nilm))) (x_at 1149 (by decide +kernel) rfl) (by decide +kernel) ⟨Nat.le_of_ble_eq_true rfl, Nat.le_of_ble_eq_true rfl⟩) (x_cons (x_cokS X xm144 (x_cons (x_at 1147 (by decide +kernel) rfl) (x_cons (x_at 1148 (by decide +kernel) rfl) (x_cons (x_at 73 (by decide +kernel) rfl) x_nilm))) (x_at 1149 (by decide +kernel) rfl) (by decide +kernel) ⟨Nat.le_of_ble_eq_true rfl, Nat.le_of_ble_eq_true rfl⟩) (x_cons (x_cokV (ci := 12) X xm143 rfl rfl rfl (x_cons (x_at 1155 (by decide +kernel) rfl) (x_cons (x_at 1157 (by decide +kernel) rfl) (x_cons (x_at 32 (by decide +kernel) rfl) (x_cons (x_at 73 (by decide +kernel) rfl) x_nilm)))) (x_at 1158 (by decide +kernel) rfl) (by decide +kernel) ⟨Nat.le_of_ble_eq_true rfl, Nat.le_of_ble_eq_true rfl⟩) (x_cons (x_cokV (ci := 12) X xm160 rfl rfl rfl (x_cons (x_at 1179 (by decide +kernel) rfl) (x_cons (x_at 1181 (by decide +kernel) rfl) (x_cons (x_at 35 (by decide +kernel) rfl) (x_cons (x_at 73 (by decide +kernel) rfl) x_nilm)))) (x_at 1182 (by decide +kernel) rfl) (by decide +kernel) ⟨Nat.le_of_ble_eq_true rfl, Nat.le_of_ble_eq_true rfl⟩) x_nilm)))), x_nilm, x_nilm, x_nilm⟩
set_option maxRecDepth 1000000 in
theorem xm197 : x_Met vwCl x_G x_Zs x_Tb x_Nb xM197 := x_main xT197 [] [] 2500 (by decide +kernel) (by decide +kernel) xk197 (by decide +kernel)
/-- TwinFiresModel.hours(I)I -/
def xM198 : xM := (⟨"TwinFiresModel", "hours", "(I)I"⟩, prog_14_method_49_code, 4, some .int, [xR false [17], xF], [([xR false [17], xF], some (xF))], [(50, 0), (51, 0)], (4, 107, 0, 0), none)
def xT198 : xTab := ([(7, 17, 0)], [], [], [], [], [], [], [(0, 102, 1, some 17, xM143), (0, 144, 3, some 17, xM185), (0, 237, 2, some 17, xM184), (0, 243, 2, some 17, xM191)], [], [], [])
set_option maxRecDepth 100000 in
set_option maxHeartbeats 4000000 in
theorem xk198 : x_TOK vwCl x_G x_Zs x_Tb x_Nb xM198 xT198 := by
  intro p l e s m args below meth c D U hx hb hml hts hown hK hK0 hU hnm hN
  have X : x_cx p s m args c D U xM198.2.1 xM198.2.2.1 vwCl x_Tb x_Nb xM198.1.cls := ⟨hx, hb, hml, hown, hts, hK, hK0, hU, hN, x_Tb_good, x_Nb_ok⟩
  exact ⟨(x_cons (fl190 hts) x_nilm), x_nilm, x_nilm, x_nilm, x_nilm, x_nilm, x_nilm, (x_cons (x_cokV (ci := 12) X xm143 rfl rfl rfl (x_cons (x_at 1155 (by decide +kernel) rfl) (x_cons (x_at 1157 (by decide +kernel) rfl) (x_cons (x_at 32 (by decide +kernel) rfl) (x_cons (x_at 73 (by decide +kernel) rfl) x_nilm)))) (x_at 1158 (by decide +kernel) rfl) (by decide +kernel) ⟨Nat.le_of_ble_eq_true rfl, Nat.le_of_ble_eq_true rfl⟩) (x_cons (x_cokV (ci := 12) X xm185 rfl rfl rfl (x_cons (x_at 1308 (by decide +kernel) rfl) (x_cons (x_at 1310 (by decide +kernel) rfl) (x_cons (x_at 51 (by decide +kernel) rfl) (x_cons (x_at 73 (by decide +kernel) rfl) x_nilm)))) (x_at 1311 (by decide +kernel) rfl) (by decide +kernel) ⟨Nat.le_of_ble_eq_true rfl, Nat.le_of_ble_eq_true rfl⟩) (x_cons (x_cokV (ci := 12) X xm184 rfl rfl rfl (x_cons (x_at 1296 (by decide +kernel) rfl) (x_cons (x_at 1298 (by decide +kernel) rfl) (x_cons (x_at 48 (by decide +kernel) rfl) (x_cons (x_at 73 (by decide +kernel) rfl) x_nilm)))) (x_at 1299 (by decide +kernel) rfl) (by decide +kernel) ⟨Nat.le_of_ble_eq_true rfl, Nat.le_of_ble_eq_true rfl⟩) (x_cons (x_cokV (ci := 12) X xm191 rfl rfl rfl (x_cons (x_at 1323 (by decide +kernel) rfl) (x_cons (x_at 1325 (by decide +kernel) rfl) (x_cons (x_at 52 (by decide +kernel) rfl) (x_cons (x_at 73 (by decide +kernel) rfl) x_nilm)))) (x_at 1326 (by decide +kernel) rfl) (by decide +kernel) ⟨Nat.le_of_ble_eq_true rfl, Nat.le_of_ble_eq_true rfl⟩) x_nilm)))), x_nilm, x_nilm, x_nilm⟩
set_option maxRecDepth 1000000 in
theorem xm198 : x_Met vwCl x_G x_Zs x_Tb x_Nb xM198 := x_main xT198 [(17, ([(0, xR false [17]), (1, xI 0 1023), (2, xI 0 2147483647), (3, xI 0 12)], [], []), (3, true), [], false, 0, [])] [] 2500 (by decide +kernel) (by decide +kernel) xk198 (by decide +kernel)
/-- TwinFiresModel.doneCost(IZ)I -/
def xM199 : xM := (⟨"TwinFiresModel", "doneCost", "(IZ)I"⟩, prog_14_method_50_code, 5, some .int, [xR false [17], xF, xI 0 1], [([xR false [17], xF, xI 0 1], some (xF))], [], (1, 22, 0, 0), none)
def xT199 : xTab := ([(7, 17, 0)], [], [], [], [], [], [], [(0, 123, 3, some 17, xM163)], [], [], [])
set_option maxRecDepth 100000 in
set_option maxHeartbeats 4000000 in
theorem xk199 : x_TOK vwCl x_G x_Zs x_Tb x_Nb xM199 xT199 := by
  intro p l e s m args below meth c D U hx hb hml hts hown hK hK0 hU hnm hN
  have X : x_cx p s m args c D U xM199.2.1 xM199.2.2.1 vwCl x_Tb x_Nb xM199.1.cls := ⟨hx, hb, hml, hown, hts, hK, hK0, hU, hN, x_Tb_good, x_Nb_ok⟩
  exact ⟨(x_cons (fl190 hts) x_nilm), x_nilm, x_nilm, x_nilm, x_nilm, x_nilm, x_nilm, (x_cons (x_cokV (ci := 12) X xm163 rfl rfl rfl (x_cons (x_at 1191 (by decide +kernel) rfl) (x_cons (x_at 1193 (by decide +kernel) rfl) (x_cons (x_at 37 (by decide +kernel) rfl) (x_cons (x_at 73 (by decide +kernel) rfl) x_nilm)))) (x_at 1194 (by decide +kernel) rfl) (by decide +kernel) ⟨Nat.le_of_ble_eq_true rfl, Nat.le_of_ble_eq_true rfl⟩) x_nilm), x_nilm, x_nilm, x_nilm⟩
set_option maxRecDepth 1000000 in
theorem xm199 : x_Met vwCl x_G x_Zs x_Tb x_Nb xM199 := x_main xT199 [(5, ([(0, xR false [17]), (1, xF), (2, xI 0 1), (3, xF), (4, xI 0 8)], [], []), (4, true), [], false, 0, [])] [] 2500 (by decide +kernel) (by decide +kernel) xk199 (by decide +kernel)
/-- TwinFiresModel.works(IZ)I -/
def xM200 : xM := (⟨"TwinFiresModel", "works", "(IZ)I"⟩, prog_14_method_51_code, 7, some .int, [xR false [17], xF, xI 0 1], [([xR false [17], xF, xI 0 1], some (xI (-1) 255))], [(46, 0), (51, 0)], (5, 127, 0, 0), none)
def xT200 : xTab := ([(7, 17, 0)], [], [], [], [], [], [], [(0, 123, 3, some 17, xM163), (0, 240, 1, some 17, xM186), (0, 243, 2, some 17, xM191), (0, 250, 3, some 17, xM199)], [], [], [])
set_option maxRecDepth 100000 in
set_option maxHeartbeats 4000000 in
theorem xk200 : x_TOK vwCl x_G x_Zs x_Tb x_Nb xM200 xT200 := by
  intro p l e s m args below meth c D U hx hb hml hts hown hK hK0 hU hnm hN
  have X : x_cx p s m args c D U xM200.2.1 xM200.2.2.1 vwCl x_Tb x_Nb xM200.1.cls := ⟨hx, hb, hml, hown, hts, hK, hK0, hU, hN, x_Tb_good, x_Nb_ok⟩
  exact ⟨(x_cons (fl190 hts) x_nilm), x_nilm, x_nilm, x_nilm, x_nilm, x_nilm, x_nilm, (x_cons (x_cokV (ci := 12) X xm163 rfl rfl rfl (x_cons (x_at 1191 (by decide +kernel) rfl) (x_cons (x_at 1193 (by decide +kernel) rfl) (x_cons (x_at 37 (by decide +kernel) rfl) (x_cons (x_at 73 (by decide +kernel) rfl) x_nilm)))) (x_at 1194 (by decide +kernel) rfl) (by decide +kernel) ⟨Nat.le_of_ble_eq_true rfl, Nat.le_of_ble_eq_true rfl⟩) (x_cons (x_cokV (ci := 12) X xm186 rfl rfl rfl (x_cons (x_at 1304 (by decide +kernel) rfl) (x_cons (x_at 1306 (by decide +kernel) rfl) (x_cons (x_at 50 (by decide +kernel) rfl) (x_cons (x_at 73 (by decide +kernel) rfl) x_nilm)))) (x_at 1307 (by decide +kernel) rfl) (by decide +kernel) ⟨Nat.le_of_ble_eq_true rfl, Nat.le_of_ble_eq_true rfl⟩) (x_cons (x_cokV (ci := 12) X xm191 rfl rfl rfl (x_cons (x_at 1323 (by decide +kernel) rfl) (x_cons (x_at 1325 (by decide +kernel) rfl) (x_cons (x_at 52 (by decide +kernel) rfl) (x_cons (x_at 73 (by decide +kernel) rfl) x_nilm)))) (x_at 1326 (by decide +kernel) rfl) (by decide +kernel) ⟨Nat.le_of_ble_eq_true rfl, Nat.le_of_ble_eq_true rfl⟩) (x_cons (x_cokV (ci := 12) X xm199 rfl rfl rfl (x_cons (x_at 1353 (by decide +kernel) rfl) (x_cons (x_at 1355 (by decide +kernel) rfl) (x_cons (x_at 54 (by decide +kernel) rfl) (x_cons (x_at 73 (by decide +kernel) rfl) x_nilm)))) (x_at 1356 (by decide +kernel) rfl) (by decide +kernel) ⟨Nat.le_of_ble_eq_true rfl, Nat.le_of_ble_eq_true rfl⟩) x_nilm)))), x_nilm, x_nilm, x_nilm⟩
set_option maxRecDepth 1000000 in
theorem xm200 : x_Met vwCl x_G x_Zs x_Tb x_Nb xM200 := x_main xT200 [(5, ([(0, xR false [17]), (1, xF), (2, xI 0 1), (3, xI 0 255), (4, xI 0 8)], [], []), (4, true), [], false, 0, []), (59, ([(0, xR false [17]), (1, xF), (2, xI 0 1), (3, xI 0 255), (4, xI (-1) 255), (5, xI 0 319)], [], [(0, 12, 0, xR false [46])]), (5, true), [], false, 0, []), (100, ([(0, xR false [17]), (1, xF), (2, xI 0 1), (3, xI 0 255), (4, xI (-1) 255), (5, xI 0 255), (6, xI 0 8)], [], [(0, 12, 0, xR false [46])]), (6, true), [5], false, 1, []), (166, ([(0, xR false [17]), (1, xF), (2, xI 0 1), (3, xI 0 255), (4, xI (-1) 255), (5, xI 0 255), (6, xI 0 8)], [], [(0, 12, 0, xR false [46])]), (6, true), [5], false, 1, [])] [] 2500 (by decide +kernel) (by decide +kernel) xk200 (by decide +kernel)
/-- TwinFiresModel.fewest(II)I -/
def xM201 : xM := (⟨"TwinFiresModel", "fewest", "(II)I"⟩, prog_14_method_52_code, 4, some .int, [xR false [17], xF, xF], [([xR false [17], xF, xF], some (xF))], [(46, 0), (50, 0), (51, 0)], (6, 153, 0, 0), none)
def xT201 : xTab := ([], [], [], [], [], [], [], [(1, 87, 3, none, xM188), (0, 102, 1, some 17, xM143), (0, 237, 2, some 17, xM184), (0, 250, 3, some 17, xM199), (0, 254, 3, some 17, xM200)], [], [], [])
set_option maxRecDepth 100000 in
set_option maxHeartbeats 4000000 in
theorem xk201 : x_TOK vwCl x_G x_Zs x_Tb x_Nb xM201 xT201 := by
  intro p l e s m args below meth c D U hx hb hml hts hown hK hK0 hU hnm hN
  have X : x_cx p s m args c D U xM201.2.1 xM201.2.2.1 vwCl x_Tb x_Nb xM201.1.cls := ⟨hx, hb, hml, hown, hts, hK, hK0, hU, hN, x_Tb_good, x_Nb_ok⟩
  exact ⟨x_nilm, x_nilm, x_nilm, x_nilm, x_nilm, x_nilm, x_nilm, (x_cons (x_cokS X xm188 (x_cons (x_at 1147 (by decide +kernel) rfl) (x_cons (x_at 1148 (by decide +kernel) rfl) (x_cons (x_at 73 (by decide +kernel) rfl) x_nilm))) (x_at 1149 (by decide +kernel) rfl) (by decide +kernel) ⟨Nat.le_of_ble_eq_true rfl, Nat.le_of_ble_eq_true rfl⟩) (x_cons (x_cokV (ci := 12) X xm143 rfl rfl rfl (x_cons (x_at 1155 (by decide +kernel) rfl) (x_cons (x_at 1157 (by decide +kernel) rfl) (x_cons (x_at 32 (by decide +kernel) rfl) (x_cons (x_at 73 (by decide +kernel) rfl) x_nilm)))) (x_at 1158 (by decide +kernel) rfl) (by decide +kernel) ⟨Nat.le_of_ble_eq_true rfl, Nat.le_of_ble_eq_true rfl⟩) (x_cons (x_cokV (ci := 12) X xm184 rfl rfl rfl (x_cons (x_at 1296 (by decide +kernel) rfl) (x_cons (x_at 1298 (by decide +kernel) rfl) (x_cons (x_at 48 (by decide +kernel) rfl) (x_cons (x_at 73 (by decide +kernel) rfl) x_nilm)))) (x_at 1299 (by decide +kernel) rfl) (by decide +kernel) ⟨Nat.le_of_ble_eq_true rfl, Nat.le_of_ble_eq_true rfl⟩) (x_cons (x_cokV (ci := 12) X xm199 rfl rfl rfl (x_cons (x_at 1353 (by decide +kernel) rfl) (x_cons (x_at 1355 (by decide +kernel) rfl) (x_cons (x_at 54 (by decide +kernel) rfl) (x_cons (x_at 73 (by decide +kernel) rfl) x_nilm)))) (x_at 1356 (by decide +kernel) rfl) (by decide +kernel) ⟨Nat.le_of_ble_eq_true rfl, Nat.le_of_ble_eq_true rfl⟩) (x_cons (x_cokV (ci := 12) X xm200 rfl rfl rfl (x_cons (x_at 1349 (by decide +kernel) rfl) (x_cons (x_at 1351 (by decide +kernel) rfl) (x_cons (x_at 53 (by decide +kernel) rfl) (x_cons (x_at 73 (by decide +kernel) rfl) x_nilm)))) (x_at 1352 (by decide +kernel) rfl) (by decide +kernel) ⟨Nat.le_of_ble_eq_true rfl, Nat.le_of_ble_eq_true rfl⟩) x_nilm))))), x_nilm, x_nilm, x_nilm⟩
set_option maxRecDepth 1000000 in
theorem xm201 : x_Met vwCl x_G x_Zs x_Tb x_Nb xM201 := x_main xT201 [] [] 2500 (by decide +kernel) (by decide +kernel) xk201 (by decide +kernel)
/-- TwinFiresModel.cheapest(II)I -/
def xM202 : xM := (⟨"TwinFiresModel", "cheapest", "(II)I"⟩, prog_14_method_53_code, 4, some .int, [xR false [17], xF, xF], [([xR false [17], xF, xF], some (xF))], [(46, 0), (50, 0), (51, 0)], (6, 153, 0, 0), none)
def xT202 : xTab := ([], [], [], [], [], [], [], [(1, 87, 3, none, xM188), (0, 102, 1, some 17, xM143), (0, 237, 2, some 17, xM184), (0, 250, 3, some 17, xM199), (0, 254, 3, some 17, xM200)], [], [], [])
set_option maxRecDepth 100000 in
set_option maxHeartbeats 4000000 in
theorem xk202 : x_TOK vwCl x_G x_Zs x_Tb x_Nb xM202 xT202 := by
  intro p l e s m args below meth c D U hx hb hml hts hown hK hK0 hU hnm hN
  have X : x_cx p s m args c D U xM202.2.1 xM202.2.2.1 vwCl x_Tb x_Nb xM202.1.cls := ⟨hx, hb, hml, hown, hts, hK, hK0, hU, hN, x_Tb_good, x_Nb_ok⟩
  exact ⟨x_nilm, x_nilm, x_nilm, x_nilm, x_nilm, x_nilm, x_nilm, (x_cons (x_cokS X xm188 (x_cons (x_at 1147 (by decide +kernel) rfl) (x_cons (x_at 1148 (by decide +kernel) rfl) (x_cons (x_at 73 (by decide +kernel) rfl) x_nilm))) (x_at 1149 (by decide +kernel) rfl) (by decide +kernel) ⟨Nat.le_of_ble_eq_true rfl, Nat.le_of_ble_eq_true rfl⟩) (x_cons (x_cokV (ci := 12) X xm143 rfl rfl rfl (x_cons (x_at 1155 (by decide +kernel) rfl) (x_cons (x_at 1157 (by decide +kernel) rfl) (x_cons (x_at 32 (by decide +kernel) rfl) (x_cons (x_at 73 (by decide +kernel) rfl) x_nilm)))) (x_at 1158 (by decide +kernel) rfl) (by decide +kernel) ⟨Nat.le_of_ble_eq_true rfl, Nat.le_of_ble_eq_true rfl⟩) (x_cons (x_cokV (ci := 12) X xm184 rfl rfl rfl (x_cons (x_at 1296 (by decide +kernel) rfl) (x_cons (x_at 1298 (by decide +kernel) rfl) (x_cons (x_at 48 (by decide +kernel) rfl) (x_cons (x_at 73 (by decide +kernel) rfl) x_nilm)))) (x_at 1299 (by decide +kernel) rfl) (by decide +kernel) ⟨Nat.le_of_ble_eq_true rfl, Nat.le_of_ble_eq_true rfl⟩) (x_cons (x_cokV (ci := 12) X xm199 rfl rfl rfl (x_cons (x_at 1353 (by decide +kernel) rfl) (x_cons (x_at 1355 (by decide +kernel) rfl) (x_cons (x_at 54 (by decide +kernel) rfl) (x_cons (x_at 73 (by decide +kernel) rfl) x_nilm)))) (x_at 1356 (by decide +kernel) rfl) (by decide +kernel) ⟨Nat.le_of_ble_eq_true rfl, Nat.le_of_ble_eq_true rfl⟩) (x_cons (x_cokV (ci := 12) X xm200 rfl rfl rfl (x_cons (x_at 1349 (by decide +kernel) rfl) (x_cons (x_at 1351 (by decide +kernel) rfl) (x_cons (x_at 53 (by decide +kernel) rfl) (x_cons (x_at 73 (by decide +kernel) rfl) x_nilm)))) (x_at 1352 (by decide +kernel) rfl) (by decide +kernel) ⟨Nat.le_of_ble_eq_true rfl, Nat.le_of_ble_eq_true rfl⟩) x_nilm))))), x_nilm, x_nilm, x_nilm⟩
set_option maxRecDepth 1000000 in
theorem xm202 : x_Met vwCl x_G x_Zs x_Tb x_Nb xM202 := x_main xT202 [] [] 2500 (by decide +kernel) (by decide +kernel) xk202 (by decide +kernel)
/-- TwinFiresModel.tower(I)I -/
def xM203 : xM := (⟨"TwinFiresModel", "tower", "(I)I"⟩, prog_14_method_54_code, 7, some .int, [xR false [17], xF], [([xR false [17], xF], some (xF))], [(46, 0), (50, 0)], (3, 83, 0, 0), none)
def xT203 : xTab := ([(7, 17, 0)], [], [], [], [], [], [], [(0, 99, 3, some 17, xM145), (0, 102, 1, some 17, xM143), (0, 140, 5, some 17, xM173), (0, 151, 2, some 17, xM171)], [], [], [])
set_option maxRecDepth 100000 in
set_option maxHeartbeats 4000000 in
theorem xk203 : x_TOK vwCl x_G x_Zs x_Tb x_Nb xM203 xT203 := by
  intro p l e s m args below meth c D U hx hb hml hts hown hK hK0 hU hnm hN
  have X : x_cx p s m args c D U xM203.2.1 xM203.2.2.1 vwCl x_Tb x_Nb xM203.1.cls := ⟨hx, hb, hml, hown, hts, hK, hK0, hU, hN, x_Tb_good, x_Nb_ok⟩
  exact ⟨(x_cons (fl190 hts) x_nilm), x_nilm, x_nilm, x_nilm, x_nilm, x_nilm, x_nilm, (x_cons (x_cokV (ci := 12) X xm145 rfl rfl rfl (x_cons (x_at 1151 (by decide +kernel) rfl) (x_cons (x_at 1153 (by decide +kernel) rfl) (x_cons (x_at 31 (by decide +kernel) rfl) (x_cons (x_at 73 (by decide +kernel) rfl) x_nilm)))) (x_at 1154 (by decide +kernel) rfl) (by decide +kernel) ⟨Nat.le_of_ble_eq_true rfl, Nat.le_of_ble_eq_true rfl⟩) (x_cons (x_cokV (ci := 12) X xm143 rfl rfl rfl (x_cons (x_at 1155 (by decide +kernel) rfl) (x_cons (x_at 1157 (by decide +kernel) rfl) (x_cons (x_at 32 (by decide +kernel) rfl) (x_cons (x_at 73 (by decide +kernel) rfl) x_nilm)))) (x_at 1158 (by decide +kernel) rfl) (by decide +kernel) ⟨Nat.le_of_ble_eq_true rfl, Nat.le_of_ble_eq_true rfl⟩) (x_cons (x_cokV (ci := 12) X xm173 rfl rfl rfl (x_cons (x_at 1222 (by decide +kernel) rfl) (x_cons (x_at 1224 (by decide +kernel) rfl) (x_cons (x_at 41 (by decide +kernel) rfl) (x_cons (x_at 73 (by decide +kernel) rfl) x_nilm)))) (x_at 1225 (by decide +kernel) rfl) (by decide +kernel) ⟨Nat.le_of_ble_eq_true rfl, Nat.le_of_ble_eq_true rfl⟩) (x_cons (x_cokV (ci := 12) X xm171 rfl rfl rfl (x_cons (x_at 1218 (by decide +kernel) rfl) (x_cons (x_at 1220 (by decide +kernel) rfl) (x_cons (x_at 40 (by decide +kernel) rfl) (x_cons (x_at 73 (by decide +kernel) rfl) x_nilm)))) (x_at 1221 (by decide +kernel) rfl) (by decide +kernel) ⟨Nat.le_of_ble_eq_true rfl, Nat.le_of_ble_eq_true rfl⟩) x_nilm)))), x_nilm, x_nilm, x_nilm⟩
set_option maxRecDepth 1000000 in
theorem xm203 : x_Met vwCl x_G x_Zs x_Tb x_Nb xM203 := x_main xT203 [(25, ([(0, xR false [17]), (1, xI 0 9), (2, xF), (3, xI (-1) 99), (4, xI 0 100)], [], []), (4, true), [], false, 0, []), (58, ([(0, xR false [17]), (1, xI 0 9), (2, xF), (3, xI (-1) (-1)), (4, xI 0 99), (5, xI 0 1), (6, xI 0 10)], [], [(0, 12, 0, xR false [46])]), (6, true), [4], false, 1, [])] [] 2500 (by decide +kernel) (by decide +kernel) xk203 (by decide +kernel)
/-- TwinFiresModel.lawsNow()V -/
def xM204 : xM := (⟨"TwinFiresModel", "lawsNow", "()V"⟩, prog_14_method_55_code, 2, none, [xR false [17]], [([xR false [17]], none)], [(51, 0), (55, 0)], (5, 127, 0, 0), none)
def xT204 : xTab := ([(38, 17, 18)], [], [], [], [], [], [], [(0, 91, 1, some 17, xM182), (0, 240, 1, some 17, xM186), (0, 243, 2, some 17, xM191)], [], [], [])
set_option maxRecDepth 100000 in
set_option maxHeartbeats 4000000 in
theorem xk204 : x_TOK vwCl x_G x_Zs x_Tb x_Nb xM204 xT204 := by
  intro p l e s m args below meth c D U hx hb hml hts hown hK hK0 hU hnm hN
  have X : x_cx p s m args c D U xM204.2.1 xM204.2.2.1 vwCl x_Tb x_Nb xM204.1.cls := ⟨hx, hb, hml, hown, hts, hK, hK0, hU, hN, x_Tb_good, x_Nb_ok⟩
  exact ⟨(x_cons (fl200 hts) x_nilm), x_nilm, x_nilm, x_nilm, x_nilm, x_nilm, x_nilm, (x_cons (x_cokV (ci := 12) X xm182 rfl rfl rfl (x_cons (x_at 1300 (by decide +kernel) rfl) (x_cons (x_at 1302 (by decide +kernel) rfl) (x_cons (x_at 49 (by decide +kernel) rfl) (x_cons (x_at 73 (by decide +kernel) rfl) x_nilm)))) (x_at 1303 (by decide +kernel) rfl) (by decide +kernel) ⟨Nat.le_of_ble_eq_true rfl, Nat.le_of_ble_eq_true rfl⟩) (x_cons (x_cokV (ci := 12) X xm186 rfl rfl rfl (x_cons (x_at 1304 (by decide +kernel) rfl) (x_cons (x_at 1306 (by decide +kernel) rfl) (x_cons (x_at 50 (by decide +kernel) rfl) (x_cons (x_at 73 (by decide +kernel) rfl) x_nilm)))) (x_at 1307 (by decide +kernel) rfl) (by decide +kernel) ⟨Nat.le_of_ble_eq_true rfl, Nat.le_of_ble_eq_true rfl⟩) (x_cons (x_cokV (ci := 12) X xm191 rfl rfl rfl (x_cons (x_at 1323 (by decide +kernel) rfl) (x_cons (x_at 1325 (by decide +kernel) rfl) (x_cons (x_at 52 (by decide +kernel) rfl) (x_cons (x_at 73 (by decide +kernel) rfl) x_nilm)))) (x_at 1326 (by decide +kernel) rfl) (by decide +kernel) ⟨Nat.le_of_ble_eq_true rfl, Nat.le_of_ble_eq_true rfl⟩) x_nilm))), x_nilm, x_nilm, x_nilm⟩
set_option maxRecDepth 1000000 in
theorem xm204 : x_Met vwCl x_G x_Zs x_Tb x_Nb xM204 := x_main xT204 [(6, ([(0, xR false [17]), (1, xI 0 1024)], [], []), (1, true), [], false, 0, [])] [] 2500 (by decide +kernel) (by decide +kernel) xk204 (by decide +kernel)
/-- TwinFiresModel.isStep(II)Z -/
def xM205 : xM := (⟨"TwinFiresModel", "isStep", "(II)Z"⟩, prog_14_method_56_code, 3, some .boolean, [xF, xF], [([xF, xF], some (xI 1 1)), ([xF, xF], some (xI 0 0))], [], (1, 22, 0, 0), none)
def xT205 : xTab := ([], [], [], [], [], [], [], [(1, 148, 1, none, xM189)], [], [], [])
set_option maxRecDepth 100000 in
set_option maxHeartbeats 4000000 in
theorem xk205 : x_TOK vwCl x_G x_Zs x_Tb x_Nb xM205 xT205 := by
  intro p l e s m args below meth c D U hx hb hml hts hown hK hK0 hU hnm hN
  have X : x_cx p s m args c D U xM205.2.1 xM205.2.2.1 vwCl x_Tb x_Nb xM205.1.cls := ⟨hx, hb, hml, hown, hts, hK, hK0, hU, hN, x_Tb_good, x_Nb_ok⟩
  exact ⟨x_nilm, x_nilm, x_nilm, x_nilm, x_nilm, x_nilm, x_nilm, (x_cons (x_cokS X xm189 (x_cons (x_at 1316 (by decide +kernel) rfl) (x_cons (x_at 1317 (by decide +kernel) rfl) (x_cons (x_at 73 (by decide +kernel) rfl) x_nilm))) (x_at 1318 (by decide +kernel) rfl) (by decide +kernel) ⟨Nat.le_of_ble_eq_true rfl, Nat.le_of_ble_eq_true rfl⟩) x_nilm), x_nilm, x_nilm, x_nilm⟩
set_option maxRecDepth 1000000 in
theorem xm205 : x_Met vwCl x_G x_Zs x_Tb x_Nb xM205 := x_main xT205 [] [] 2500 (by decide +kernel) (by decide +kernel) xk205 (by decide +kernel)
/-- TwinFiresModel.in(JJJ)Z -/
def xM206 : xM := (⟨"TwinFiresModel", "in", "(JJJ)Z"⟩, prog_14_method_2_code, 6, some .boolean, [xFL, xL 0 0, xL 6 6], [([xL 0 6, xL 0 0, xL 6 6], some (xI 1 1)), ([xFL, xL 0 0, xL 6 6], some (xI 0 0))], [], (0, 0, 0, 0), none)
def xT206 : xTab := ([], [], [], [], [], [], [], [], [], [], [])
set_option maxRecDepth 100000 in
set_option maxHeartbeats 4000000 in
theorem xk206 : x_TOK vwCl x_G x_Zs x_Tb x_Nb xM206 xT206 := by
  intro p l e s m args below meth c D U hx hb hml hts hown hK hK0 hU hnm hN
  have X : x_cx p s m args c D U xM206.2.1 xM206.2.2.1 vwCl x_Tb x_Nb xM206.1.cls := ⟨hx, hb, hml, hown, hts, hK, hK0, hU, hN, x_Tb_good, x_Nb_ok⟩
  exact ⟨x_nilm, x_nilm, x_nilm, x_nilm, x_nilm, x_nilm, x_nilm, x_nilm, x_nilm, x_nilm, x_nilm⟩
set_option maxRecDepth 1000000 in
theorem xm206 : x_Met vwCl x_G x_Zs x_Tb x_Nb xM206 := x_main xT206 [] [] 2500 (by decide +kernel) (by decide +kernel) xk206 (by decide +kernel)
/-- TwinFiresModel.mists(I)V -/
def xM207 : xM := (⟨"TwinFiresModel", "mists", "(I)V"⟩, prog_14_method_61_code, 5, none, [xR false [17], xF], [([xR false [17], xF], none)], [(51, 0), (59, 0), (60, 0)], (4, 107, 0, 0), none)
def xT207 : xTab := ([(7, 17, 0), (50, 17, 22), (53, 17, 23)], [], [], [], [], [], [], [(1, 257, 2, none, xM205), (0, 91, 1, some 17, xM182), (0, 144, 3, some 17, xM185), (0, 243, 2, some 17, xM191)], [], [], [])
set_option maxRecDepth 100000 in
set_option maxHeartbeats 4000000 in
theorem xk207 : x_TOK vwCl x_G x_Zs x_Tb x_Nb xM207 xT207 := by
  intro p l e s m args below meth c D U hx hb hml hts hown hK hK0 hU hnm hN
  have X : x_cx p s m args c D U xM207.2.1 xM207.2.2.1 vwCl x_Tb x_Nb xM207.1.cls := ⟨hx, hb, hml, hown, hts, hK, hK0, hU, hN, x_Tb_good, x_Nb_ok⟩
  exact ⟨(x_cons (fl190 hts) (x_cons (fl201 hts) (x_cons (fl202 hts) x_nilm))), x_nilm, x_nilm, x_nilm, x_nilm, x_nilm, x_nilm, (x_cons (x_cokS X xm205 (x_cons (x_at 1377 (by decide +kernel) rfl) (x_cons (x_at 1378 (by decide +kernel) rfl) (x_cons (x_at 73 (by decide +kernel) rfl) x_nilm))) (x_at 1379 (by decide +kernel) rfl) (by decide +kernel) ⟨Nat.le_of_ble_eq_true rfl, Nat.le_of_ble_eq_true rfl⟩) (x_cons (x_cokV (ci := 12) X xm182 rfl rfl rfl (x_cons (x_at 1300 (by decide +kernel) rfl) (x_cons (x_at 1302 (by decide +kernel) rfl) (x_cons (x_at 49 (by decide +kernel) rfl) (x_cons (x_at 73 (by decide +kernel) rfl) x_nilm)))) (x_at 1303 (by decide +kernel) rfl) (by decide +kernel) ⟨Nat.le_of_ble_eq_true rfl, Nat.le_of_ble_eq_true rfl⟩) (x_cons (x_cokV (ci := 12) X xm185 rfl rfl rfl (x_cons (x_at 1308 (by decide +kernel) rfl) (x_cons (x_at 1310 (by decide +kernel) rfl) (x_cons (x_at 51 (by decide +kernel) rfl) (x_cons (x_at 73 (by decide +kernel) rfl) x_nilm)))) (x_at 1311 (by decide +kernel) rfl) (by decide +kernel) ⟨Nat.le_of_ble_eq_true rfl, Nat.le_of_ble_eq_true rfl⟩) (x_cons (x_cokV (ci := 12) X xm191 rfl rfl rfl (x_cons (x_at 1323 (by decide +kernel) rfl) (x_cons (x_at 1325 (by decide +kernel) rfl) (x_cons (x_at 52 (by decide +kernel) rfl) (x_cons (x_at 73 (by decide +kernel) rfl) x_nilm)))) (x_at 1326 (by decide +kernel) rfl) (by decide +kernel) ⟨Nat.le_of_ble_eq_true rfl, Nat.le_of_ble_eq_true rfl⟩) x_nilm)))), x_nilm, x_nilm, x_nilm⟩
set_option maxRecDepth 1000000 in
theorem xm207 : x_Met vwCl x_G x_Zs x_Tb x_Nb xM207 := x_main xT207 [(2, ([(0, xR false [17]), (1, xF), (2, xI 0 12)], [], []), (2, true), [], false, 0, []), (29, ([(0, xR false [17]), (1, xF), (2, xI 0 11), (3, xI 0 1024)], [], [(0, 12, 0, xR false [46])]), (3, true), [2], false, 1, []), (97, ([(0, xR false [17]), (1, xF), (2, xI 0 11), (3, xI 0 1024)], [], [(0, 12, 0, xR false [46])]), (3, true), [2], false, 1, []), (112, ([(0, xR false [17]), (1, xF), (2, xI 1 11), (3, xI 0 1023), (4, xI 0 1024)], [], [(0, 12, 0, xR false [46])]), (4, true), [3, 2], false, 2, [])] [] 2500 (by decide +kernel) (by decide +kernel) xk207 (by decide +kernel)
/-- TwinFiresModel.letter(I)I -/
def xM208 : xM := (⟨"TwinFiresModel", "letter", "(I)I"⟩, prog_14_method_63_code, 2, some .int, [xR false [17], xF], [([xR false [17], xF], some (xF))], [(46, 0), (50, 0)], (2, 42, 0, 0), none)
def xT208 : xTab := ([(7, 17, 0)], [], [], [], [], [], [(110, 9)], [(1, 87, 3, none, xM151), (0, 102, 1, some 17, xM143), (0, 105, 1, some 17, xM146)], [], [], [])
set_option maxRecDepth 100000 in
set_option maxHeartbeats 4000000 in
theorem xk208 : x_TOK vwCl x_G x_Zs x_Tb x_Nb xM208 xT208 := by
  intro p l e s m args below meth c D U hx hb hml hts hown hK hK0 hU hnm hN
  have X : x_cx p s m args c D U xM208.2.1 xM208.2.2.1 vwCl x_Tb x_Nb xM208.1.cls := ⟨hx, hb, hml, hown, hts, hK, hK0, hU, hN, x_Tb_good, x_Nb_ok⟩
  exact ⟨(x_cons (fl190 hts) x_nilm), x_nilm, x_nilm, x_nilm, x_nilm, x_nilm, (x_cons ⟨9, rfl, (hts _ (x_at 1172 (by decide +kernel) rfl))⟩ x_nilm), (x_cons (x_cokS X xm151 (x_cons (x_at 1147 (by decide +kernel) rfl) (x_cons (x_at 1148 (by decide +kernel) rfl) (x_cons (x_at 73 (by decide +kernel) rfl) x_nilm))) (x_at 1149 (by decide +kernel) rfl) (by decide +kernel) ⟨Nat.le_of_ble_eq_true rfl, Nat.le_of_ble_eq_true rfl⟩) (x_cons (x_cokV (ci := 12) X xm143 rfl rfl rfl (x_cons (x_at 1155 (by decide +kernel) rfl) (x_cons (x_at 1157 (by decide +kernel) rfl) (x_cons (x_at 32 (by decide +kernel) rfl) (x_cons (x_at 73 (by decide +kernel) rfl) x_nilm)))) (x_at 1158 (by decide +kernel) rfl) (by decide +kernel) ⟨Nat.le_of_ble_eq_true rfl, Nat.le_of_ble_eq_true rfl⟩) (x_cons (x_cokV (ci := 12) X xm146 rfl rfl rfl (x_cons (x_at 1163 (by decide +kernel) rfl) (x_cons (x_at 1165 (by decide +kernel) rfl) (x_cons (x_at 34 (by decide +kernel) rfl) (x_cons (x_at 73 (by decide +kernel) rfl) x_nilm)))) (x_at 1166 (by decide +kernel) rfl) (by decide +kernel) ⟨Nat.le_of_ble_eq_true rfl, Nat.le_of_ble_eq_true rfl⟩) x_nilm))), x_nilm, x_nilm, x_nilm⟩
set_option maxRecDepth 1000000 in
theorem xm208 : x_Met vwCl x_G x_Zs x_Tb x_Nb xM208 := x_main xT208 [] [] 2500 (by decide +kernel) (by decide +kernel) xk208 (by decide +kernel)
/-- TwinFiresModel.puts(II)I -/
def xM209 : xM := (⟨"TwinFiresModel", "puts", "(II)I"⟩, prog_14_method_9_code, 4, some .int, [xR false [17], xI 2 2, xI 0 0], [([xR false [17], xI 2 2, xI 0 0], some (xI 0 8))], [(46, 0)], (0, 0, 0, 0), none)
def xT209 : xTab := ([(7, 17, 0)], [], [], [], [], [], [], [], [], [], [])
set_option maxRecDepth 100000 in
set_option maxHeartbeats 4000000 in
theorem xk209 : x_TOK vwCl x_G x_Zs x_Tb x_Nb xM209 xT209 := by
  intro p l e s m args below meth c D U hx hb hml hts hown hK hK0 hU hnm hN
  have X : x_cx p s m args c D U xM209.2.1 xM209.2.2.1 vwCl x_Tb x_Nb xM209.1.cls := ⟨hx, hb, hml, hown, hts, hK, hK0, hU, hN, x_Tb_good, x_Nb_ok⟩
  exact ⟨(x_cons (fl190 hts) x_nilm), x_nilm, x_nilm, x_nilm, x_nilm, x_nilm, x_nilm, x_nilm, x_nilm, x_nilm, x_nilm⟩
set_option maxRecDepth 1000000 in
theorem xm209 : x_Met vwCl x_G x_Zs x_Tb x_Nb xM209 := x_main xT209 [] [] 2500 (by decide +kernel) (by decide +kernel) xk209 (by decide +kernel)
/-- TwinFiresModel.unword()I -/
def xM210 : xM := (⟨"TwinFiresModel", "unword", "()I"⟩, prog_14_method_64_code, 1, some .int, [xR false [17]], [([xR false [17]], some (xI 0 8))], [(46, 0)], (1, 23, 0, 0), none)
def xT210 : xTab := ([], [], [], [], [], [], [], [(0, 116, 3, some 17, xM209)], [], [], [])
set_option maxRecDepth 100000 in
set_option maxHeartbeats 4000000 in
theorem xk210 : x_TOK vwCl x_G x_Zs x_Tb x_Nb xM210 xT210 := by
  intro p l e s m args below meth c D U hx hb hml hts hown hK hK0 hU hnm hN
  have X : x_cx p s m args c D U xM210.2.1 xM210.2.2.1 vwCl x_Tb x_Nb xM210.1.cls := ⟨hx, hb, hml, hown, hts, hK, hK0, hU, hN, x_Tb_good, x_Nb_ok⟩
  exact ⟨x_nilm, x_nilm, x_nilm, x_nilm, x_nilm, x_nilm, x_nilm, (x_cons (x_cokV (ci := 12) X xm209 rfl rfl rfl (x_cons (x_at 1179 (by decide +kernel) rfl) (x_cons (x_at 1181 (by decide +kernel) rfl) (x_cons (x_at 35 (by decide +kernel) rfl) (x_cons (x_at 73 (by decide +kernel) rfl) x_nilm)))) (x_at 1182 (by decide +kernel) rfl) (by decide +kernel) ⟨Nat.le_of_ble_eq_true rfl, Nat.le_of_ble_eq_true rfl⟩) x_nilm), x_nilm, x_nilm, x_nilm⟩
set_option maxRecDepth 1000000 in
theorem xm210 : x_Met vwCl x_G x_Zs x_Tb x_Nb xM210 := x_main xT210 [] [] 2500 (by decide +kernel) (by decide +kernel) xk210 (by decide +kernel)
end
section
/-- TwinFiresModel.readOn(III)I -/
def xM211 : xM := (⟨"TwinFiresModel", "readOn", "(III)I"⟩, prog_14_method_65_code, 5, some .int, [xR false [17], xF, xI 0 9, xI 0 8], [([xR false [17], xF, xI 0 9, xI 0 8], some (xI 0 8))], [], (1, 22, 0, 0), none)
def xT211 : xTab := ([(7, 17, 0), (26, 17, 8)], [], [], [], [], [], [], [(1, 148, 1, none, xM189)], [], [], [])
set_option maxRecDepth 100000 in
set_option maxHeartbeats 4000000 in
theorem xk211 : x_TOK vwCl x_G x_Zs x_Tb x_Nb xM211 xT211 := by
  intro p l e s m args below meth c D U hx hb hml hts hown hK hK0 hU hnm hN
  have X : x_cx p s m args c D U xM211.2.1 xM211.2.2.1 vwCl x_Tb x_Nb xM211.1.cls := ⟨hx, hb, hml, hown, hts, hK, hK0, hU, hN, x_Tb_good, x_Nb_ok⟩
  exact ⟨(x_cons (fl190 hts) (x_cons (fl199 hts) x_nilm)), x_nilm, x_nilm, x_nilm, x_nilm, x_nilm, x_nilm, (x_cons (x_cokS X xm189 (x_cons (x_at 1316 (by decide +kernel) rfl) (x_cons (x_at 1317 (by decide +kernel) rfl) (x_cons (x_at 73 (by decide +kernel) rfl) x_nilm))) (x_at 1318 (by decide +kernel) rfl) (by decide +kernel) ⟨Nat.le_of_ble_eq_true rfl, Nat.le_of_ble_eq_true rfl⟩) x_nilm), x_nilm, x_nilm, x_nilm⟩
set_option maxRecDepth 1000000 in
theorem xm211 : x_Met vwCl x_G x_Zs x_Tb x_Nb xM211 := x_main xT211 [] [] 2500 (by decide +kernel) (by decide +kernel) xk211 (by decide +kernel)
/-- TwinFiresModel.in(JJJ)Z -/
def xM212 : xM := (⟨"TwinFiresModel", "in", "(JJJ)Z"⟩, prog_14_method_2_code, 6, some .boolean, [xFL, xL (-1) (-1), xL 9 9], [([xL (-1) 9, xL (-1) (-1), xL 9 9], some (xI 1 1)), ([xFL, xL (-1) (-1), xL 9 9], some (xI 0 0))], [], (0, 0, 0, 0), none)
def xT212 : xTab := ([], [], [], [], [], [], [], [], [], [], [])
set_option maxRecDepth 100000 in
set_option maxHeartbeats 4000000 in
theorem xk212 : x_TOK vwCl x_G x_Zs x_Tb x_Nb xM212 xT212 := by
  intro p l e s m args below meth c D U hx hb hml hts hown hK hK0 hU hnm hN
  have X : x_cx p s m args c D U xM212.2.1 xM212.2.2.1 vwCl x_Tb x_Nb xM212.1.cls := ⟨hx, hb, hml, hown, hts, hK, hK0, hU, hN, x_Tb_good, x_Nb_ok⟩
  exact ⟨x_nilm, x_nilm, x_nilm, x_nilm, x_nilm, x_nilm, x_nilm, x_nilm, x_nilm, x_nilm, x_nilm⟩
set_option maxRecDepth 1000000 in
theorem xm212 : x_Met vwCl x_G x_Zs x_Tb x_Nb xM212 := x_main xT212 [] [] 2500 (by decide +kernel) (by decide +kernel) xk212 (by decide +kernel)
/-- TwinFiresModel.report(II)I -/
def xM213 : xM := (⟨"TwinFiresModel", "report", "(II)I"⟩, prog_14_method_67_code, 3, some .int, [xR false [17], xF, xF], [([xR false [17], xF, xF], some (xF))], [(46, 0), (50, 0)], (2, 46, 0, 0), none)
def xT213 : xTab := ([], [], [], [], [], [], [(110, 9), (246, -1)], [(1, 87, 3, none, xM212), (0, 76, 3, some 17, xM142), (0, 116, 3, some 17, xM160), (0, 151, 2, some 17, xM171)], [], [], [])
set_option maxRecDepth 100000 in
set_option maxHeartbeats 4000000 in
theorem xk213 : x_TOK vwCl x_G x_Zs x_Tb x_Nb xM213 xT213 := by
  intro p l e s m args below meth c D U hx hb hml hts hown hK hK0 hU hnm hN
  have X : x_cx p s m args c D U xM213.2.1 xM213.2.2.1 vwCl x_Tb x_Nb xM213.1.cls := ⟨hx, hb, hml, hown, hts, hK, hK0, hU, hN, x_Tb_good, x_Nb_ok⟩
  exact ⟨x_nilm, x_nilm, x_nilm, x_nilm, x_nilm, x_nilm, (x_cons ⟨9, rfl, (hts _ (x_at 1172 (by decide +kernel) rfl))⟩ (x_cons ⟨-1, rfl, (hts _ (x_at 1331 (by decide +kernel) rfl))⟩ x_nilm)), (x_cons (x_cokS X xm212 (x_cons (x_at 1147 (by decide +kernel) rfl) (x_cons (x_at 1148 (by decide +kernel) rfl) (x_cons (x_at 73 (by decide +kernel) rfl) x_nilm))) (x_at 1149 (by decide +kernel) rfl) (by decide +kernel) ⟨Nat.le_of_ble_eq_true rfl, Nat.le_of_ble_eq_true rfl⟩) (x_cons (x_cokV (ci := 12) X xm142 rfl rfl rfl (x_cons (x_at 1159 (by decide +kernel) rfl) (x_cons (x_at 1161 (by decide +kernel) rfl) (x_cons (x_at 33 (by decide +kernel) rfl) (x_cons (x_at 73 (by decide +kernel) rfl) x_nilm)))) (x_at 1162 (by decide +kernel) rfl) (by decide +kernel) ⟨Nat.le_of_ble_eq_true rfl, Nat.le_of_ble_eq_true rfl⟩) (x_cons (x_cokV (ci := 12) X xm160 rfl rfl rfl (x_cons (x_at 1179 (by decide +kernel) rfl) (x_cons (x_at 1181 (by decide +kernel) rfl) (x_cons (x_at 35 (by decide +kernel) rfl) (x_cons (x_at 73 (by decide +kernel) rfl) x_nilm)))) (x_at 1182 (by decide +kernel) rfl) (by decide +kernel) ⟨Nat.le_of_ble_eq_true rfl, Nat.le_of_ble_eq_true rfl⟩) (x_cons (x_cokV (ci := 12) X xm171 rfl rfl rfl (x_cons (x_at 1218 (by decide +kernel) rfl) (x_cons (x_at 1220 (by decide +kernel) rfl) (x_cons (x_at 40 (by decide +kernel) rfl) (x_cons (x_at 73 (by decide +kernel) rfl) x_nilm)))) (x_at 1221 (by decide +kernel) rfl) (by decide +kernel) ⟨Nat.le_of_ble_eq_true rfl, Nat.le_of_ble_eq_true rfl⟩) x_nilm)))), x_nilm, x_nilm, x_nilm⟩
set_option maxRecDepth 1000000 in
theorem xm213 : x_Met vwCl x_G x_Zs x_Tb x_Nb xM213 := x_main xT213 [] [] 2500 (by decide +kernel) (by decide +kernel) xk213 (by decide +kernel)
/-- TwinFiresModel.blame(II)I -/
def xM214 : xM := (⟨"TwinFiresModel", "blame", "(II)I"⟩, prog_14_method_68_code, 3, some .int, [xR false [17], xF, xF], [([xR false [17], xF, xF], some (xF))], [(46, 0), (50, 0)], (2, 46, 0, 0), none)
def xT214 : xTab := ([], [], [], [], [], [], [(110, 9)], [(1, 87, 3, none, xM151), (0, 102, 1, some 17, xM143), (0, 116, 3, some 17, xM160), (0, 151, 2, some 17, xM171)], [], [], [])
set_option maxRecDepth 100000 in
set_option maxHeartbeats 4000000 in
theorem xk214 : x_TOK vwCl x_G x_Zs x_Tb x_Nb xM214 xT214 := by
  intro p l e s m args below meth c D U hx hb hml hts hown hK hK0 hU hnm hN
  have X : x_cx p s m args c D U xM214.2.1 xM214.2.2.1 vwCl x_Tb x_Nb xM214.1.cls := ⟨hx, hb, hml, hown, hts, hK, hK0, hU, hN, x_Tb_good, x_Nb_ok⟩
  exact ⟨x_nilm, x_nilm, x_nilm, x_nilm, x_nilm, x_nilm, (x_cons ⟨9, rfl, (hts _ (x_at 1172 (by decide +kernel) rfl))⟩ x_nilm), (x_cons (x_cokS X xm151 (x_cons (x_at 1147 (by decide +kernel) rfl) (x_cons (x_at 1148 (by decide +kernel) rfl) (x_cons (x_at 73 (by decide +kernel) rfl) x_nilm))) (x_at 1149 (by decide +kernel) rfl) (by decide +kernel) ⟨Nat.le_of_ble_eq_true rfl, Nat.le_of_ble_eq_true rfl⟩) (x_cons (x_cokV (ci := 12) X xm143 rfl rfl rfl (x_cons (x_at 1155 (by decide +kernel) rfl) (x_cons (x_at 1157 (by decide +kernel) rfl) (x_cons (x_at 32 (by decide +kernel) rfl) (x_cons (x_at 73 (by decide +kernel) rfl) x_nilm)))) (x_at 1158 (by decide +kernel) rfl) (by decide +kernel) ⟨Nat.le_of_ble_eq_true rfl, Nat.le_of_ble_eq_true rfl⟩) (x_cons (x_cokV (ci := 12) X xm160 rfl rfl rfl (x_cons (x_at 1179 (by decide +kernel) rfl) (x_cons (x_at 1181 (by decide +kernel) rfl) (x_cons (x_at 35 (by decide +kernel) rfl) (x_cons (x_at 73 (by decide +kernel) rfl) x_nilm)))) (x_at 1182 (by decide +kernel) rfl) (by decide +kernel) ⟨Nat.le_of_ble_eq_true rfl, Nat.le_of_ble_eq_true rfl⟩) (x_cons (x_cokV (ci := 12) X xm171 rfl rfl rfl (x_cons (x_at 1218 (by decide +kernel) rfl) (x_cons (x_at 1220 (by decide +kernel) rfl) (x_cons (x_at 40 (by decide +kernel) rfl) (x_cons (x_at 73 (by decide +kernel) rfl) x_nilm)))) (x_at 1221 (by decide +kernel) rfl) (by decide +kernel) ⟨Nat.le_of_ble_eq_true rfl, Nat.le_of_ble_eq_true rfl⟩) x_nilm)))), x_nilm, x_nilm, x_nilm⟩
set_option maxRecDepth 1000000 in
theorem xm214 : x_Met vwCl x_G x_Zs x_Tb x_Nb xM214 := x_main xT214 [] [] 2500 (by decide +kernel) (by decide +kernel) xk214 (by decide +kernel)
/-- TwinFiresModel.so(IIZ)I -/
def xM215 : xM := (⟨"TwinFiresModel", "so", "(IIZ)I"⟩, prog_14_method_69_code, 6, some .int, [xR false [17], xF, xI 0 9, xI 0 1], [([xR false [17], xF, xI 0 9, xI 0 1], some (xF))], [], (1, 22, 0, 0), none)
def xT215 : xTab := ([(7, 17, 0), (26, 17, 8)], [], [], [], [], [], [], [(1, 148, 1, none, xM189), (0, 99, 3, some 17, xM145)], [], [], [])
set_option maxRecDepth 100000 in
set_option maxHeartbeats 4000000 in
theorem xk215 : x_TOK vwCl x_G x_Zs x_Tb x_Nb xM215 xT215 := by
  intro p l e s m args below meth c D U hx hb hml hts hown hK hK0 hU hnm hN
  have X : x_cx p s m args c D U xM215.2.1 xM215.2.2.1 vwCl x_Tb x_Nb xM215.1.cls := ⟨hx, hb, hml, hown, hts, hK, hK0, hU, hN, x_Tb_good, x_Nb_ok⟩
  exact ⟨(x_cons (fl190 hts) (x_cons (fl199 hts) x_nilm)), x_nilm, x_nilm, x_nilm, x_nilm, x_nilm, x_nilm, (x_cons (x_cokS X xm189 (x_cons (x_at 1316 (by decide +kernel) rfl) (x_cons (x_at 1317 (by decide +kernel) rfl) (x_cons (x_at 73 (by decide +kernel) rfl) x_nilm))) (x_at 1318 (by decide +kernel) rfl) (by decide +kernel) ⟨Nat.le_of_ble_eq_true rfl, Nat.le_of_ble_eq_true rfl⟩) (x_cons (x_cokV (ci := 12) X xm145 rfl rfl rfl (x_cons (x_at 1151 (by decide +kernel) rfl) (x_cons (x_at 1153 (by decide +kernel) rfl) (x_cons (x_at 31 (by decide +kernel) rfl) (x_cons (x_at 73 (by decide +kernel) rfl) x_nilm)))) (x_at 1154 (by decide +kernel) rfl) (by decide +kernel) ⟨Nat.le_of_ble_eq_true rfl, Nat.le_of_ble_eq_true rfl⟩) x_nilm)), x_nilm, x_nilm, x_nilm⟩
set_option maxRecDepth 1000000 in
theorem xm215 : x_Met vwCl x_G x_Zs x_Tb x_Nb xM215 := x_main xT215 [(6, ([(0, xR false [17]), (1, xF), (2, xI 0 9), (3, xI 0 1), (4, xF), (5, xI 0 10)], [], []), (5, true), [], false, 0, [])] [] 2500 (by decide +kernel) (by decide +kernel) xk215 (by decide +kernel)
/-- TwinFiresModel.withoutOf(I)I -/
def xM216 : xM := (⟨"TwinFiresModel", "withoutOf", "(I)I"⟩, prog_14_method_70_code, 4, some .int, [xR false [17], xF], [([xR false [17], xF], some (xI 0 1023))], [], (2, 47, 0, 0), none)
def xT216 : xTab := ([(7, 17, 0)], [], [], [], [], [], [], [(0, 275, 4, some 17, xM215)], [], [], [])
set_option maxRecDepth 100000 in
set_option maxHeartbeats 4000000 in
theorem xk216 : x_TOK vwCl x_G x_Zs x_Tb x_Nb xM216 xT216 := by
  intro p l e s m args below meth c D U hx hb hml hts hown hK hK0 hU hnm hN
  have X : x_cx p s m args c D U xM216.2.1 xM216.2.2.1 vwCl x_Tb x_Nb xM216.1.cls := ⟨hx, hb, hml, hown, hts, hK, hK0, hU, hN, x_Tb_good, x_Nb_ok⟩
  exact ⟨(x_cons (fl190 hts) x_nilm), x_nilm, x_nilm, x_nilm, x_nilm, x_nilm, x_nilm, (x_cons (x_cokV (ci := 12) X xm215 rfl rfl rfl (x_cons (x_at 1429 (by decide +kernel) rfl) (x_cons (x_at 1431 (by decide +kernel) rfl) (x_cons (x_at 60 (by decide +kernel) rfl) (x_cons (x_at 73 (by decide +kernel) rfl) x_nilm)))) (x_at 1432 (by decide +kernel) rfl) (by decide +kernel) ⟨Nat.le_of_ble_eq_true rfl, Nat.le_of_ble_eq_true rfl⟩) x_nilm), x_nilm, x_nilm, x_nilm⟩
set_option maxRecDepth 1000000 in
theorem xm216 : x_Met vwCl x_G x_Zs x_Tb x_Nb xM216 := x_main xT216 [(4, ([(0, xR false [17]), (1, xF), (2, xI 0 1023), (3, xI 0 10)], [], []), (3, true), [], false, 0, [])] [] 2500 (by decide +kernel) (by decide +kernel) xk216 (by decide +kernel)
/-- TwinFiresModel.without(I)I -/
def xM217 : xM := (⟨"TwinFiresModel", "without", "(I)I"⟩, prog_14_method_71_code, 2, some .int, [xR false [17], xF], [([xR false [17], xF], some (xF))], [(50, 0), (51, 0)], (5, 127, 0, 0), none)
def xT217 : xTab := ([], [], [], [], [], [], [], [(0, 102, 1, some 17, xM143), (0, 126, 1, some 17, xM164), (0, 237, 2, some 17, xM184), (0, 240, 1, some 17, xM186), (0, 243, 2, some 17, xM191), (0, 279, 2, some 17, xM216)], [], [], [])
set_option maxRecDepth 100000 in
set_option maxHeartbeats 4000000 in
theorem xk217 : x_TOK vwCl x_G x_Zs x_Tb x_Nb xM217 xT217 := by
  intro p l e s m args below meth c D U hx hb hml hts hown hK hK0 hU hnm hN
  have X : x_cx p s m args c D U xM217.2.1 xM217.2.2.1 vwCl x_Tb x_Nb xM217.1.cls := ⟨hx, hb, hml, hown, hts, hK, hK0, hU, hN, x_Tb_good, x_Nb_ok⟩
  exact ⟨x_nilm, x_nilm, x_nilm, x_nilm, x_nilm, x_nilm, x_nilm, (x_cons (x_cokV (ci := 12) X xm143 rfl rfl rfl (x_cons (x_at 1155 (by decide +kernel) rfl) (x_cons (x_at 1157 (by decide +kernel) rfl) (x_cons (x_at 32 (by decide +kernel) rfl) (x_cons (x_at 73 (by decide +kernel) rfl) x_nilm)))) (x_at 1158 (by decide +kernel) rfl) (by decide +kernel) ⟨Nat.le_of_ble_eq_true rfl, Nat.le_of_ble_eq_true rfl⟩) (x_cons (x_cokV (ci := 12) X xm164 rfl rfl rfl (x_cons (x_at 1195 (by decide +kernel) rfl) (x_cons (x_at 1197 (by decide +kernel) rfl) (x_cons (x_at 38 (by decide +kernel) rfl) (x_cons (x_at 73 (by decide +kernel) rfl) x_nilm)))) (x_at 1198 (by decide +kernel) rfl) (by decide +kernel) ⟨Nat.le_of_ble_eq_true rfl, Nat.le_of_ble_eq_true rfl⟩) (x_cons (x_cokV (ci := 12) X xm184 rfl rfl rfl (x_cons (x_at 1296 (by decide +kernel) rfl) (x_cons (x_at 1298 (by decide +kernel) rfl) (x_cons (x_at 48 (by decide +kernel) rfl) (x_cons (x_at 73 (by decide +kernel) rfl) x_nilm)))) (x_at 1299 (by decide +kernel) rfl) (by decide +kernel) ⟨Nat.le_of_ble_eq_true rfl, Nat.le_of_ble_eq_true rfl⟩) (x_cons (x_cokV (ci := 12) X xm186 rfl rfl rfl (x_cons (x_at 1304 (by decide +kernel) rfl) (x_cons (x_at 1306 (by decide +kernel) rfl) (x_cons (x_at 50 (by decide +kernel) rfl) (x_cons (x_at 73 (by decide +kernel) rfl) x_nilm)))) (x_at 1307 (by decide +kernel) rfl) (by decide +kernel) ⟨Nat.le_of_ble_eq_true rfl, Nat.le_of_ble_eq_true rfl⟩) (x_cons (x_cokV (ci := 12) X xm191 rfl rfl rfl (x_cons (x_at 1323 (by decide +kernel) rfl) (x_cons (x_at 1325 (by decide +kernel) rfl) (x_cons (x_at 52 (by decide +kernel) rfl) (x_cons (x_at 73 (by decide +kernel) rfl) x_nilm)))) (x_at 1326 (by decide +kernel) rfl) (by decide +kernel) ⟨Nat.le_of_ble_eq_true rfl, Nat.le_of_ble_eq_true rfl⟩) (x_cons (x_cokV (ci := 12) X xm216 rfl rfl rfl (x_cons (x_at 1425 (by decide +kernel) rfl) (x_cons (x_at 1427 (by decide +kernel) rfl) (x_cons (x_at 59 (by decide +kernel) rfl) (x_cons (x_at 73 (by decide +kernel) rfl) x_nilm)))) (x_at 1428 (by decide +kernel) rfl) (by decide +kernel) ⟨Nat.le_of_ble_eq_true rfl, Nat.le_of_ble_eq_true rfl⟩) x_nilm)))))), x_nilm, x_nilm, x_nilm⟩
set_option maxRecDepth 1000000 in
theorem xm217 : x_Met vwCl x_G x_Zs x_Tb x_Nb xM217 := x_main xT217 [] [] 2500 (by decide +kernel) (by decide +kernel) xk217 (by decide +kernel)
/-- TwinFiresModel.liesOf(II)J -/
def xM218 : xM := (⟨"TwinFiresModel", "liesOf", "(II)J"⟩, prog_14_method_73_code, 8, some .long, [xR false [17], xF, xI 0 9], [([xR false [17], xF, xI 0 9], some (xFL))], [], (2, 47, 0, 0), none)
def xT218 : xTab := ([(7, 17, 0)], [], [], [], [], [], [], [(0, 99, 3, some 17, xM145), (0, 275, 4, some 17, xM215)], [], [], [])
set_option maxRecDepth 100000 in
set_option maxHeartbeats 4000000 in
theorem xk218 : x_TOK vwCl x_G x_Zs x_Tb x_Nb xM218 xT218 := by
  intro p l e s m args below meth c D U hx hb hml hts hown hK hK0 hU hnm hN
  have X : x_cx p s m args c D U xM218.2.1 xM218.2.2.1 vwCl x_Tb x_Nb xM218.1.cls := ⟨hx, hb, hml, hown, hts, hK, hK0, hU, hN, x_Tb_good, x_Nb_ok⟩
  exact ⟨(x_cons (fl190 hts) x_nilm), x_nilm, x_nilm, x_nilm, x_nilm, x_nilm, x_nilm, (x_cons (x_cokV (ci := 12) X xm145 rfl rfl rfl (x_cons (x_at 1151 (by decide +kernel) rfl) (x_cons (x_at 1153 (by decide +kernel) rfl) (x_cons (x_at 31 (by decide +kernel) rfl) (x_cons (x_at 73 (by decide +kernel) rfl) x_nilm)))) (x_at 1154 (by decide +kernel) rfl) (by decide +kernel) ⟨Nat.le_of_ble_eq_true rfl, Nat.le_of_ble_eq_true rfl⟩) (x_cons (x_cokV (ci := 12) X xm215 rfl rfl rfl (x_cons (x_at 1429 (by decide +kernel) rfl) (x_cons (x_at 1431 (by decide +kernel) rfl) (x_cons (x_at 60 (by decide +kernel) rfl) (x_cons (x_at 73 (by decide +kernel) rfl) x_nilm)))) (x_at 1432 (by decide +kernel) rfl) (by decide +kernel) ⟨Nat.le_of_ble_eq_true rfl, Nat.le_of_ble_eq_true rfl⟩) x_nilm)), x_nilm, x_nilm, x_nilm⟩
set_option maxRecDepth 1000000 in
theorem xm218 : x_Met vwCl x_G x_Zs x_Tb x_Nb xM218 := x_main xT218 [(42, ([(0, xR false [17]), (1, xF), (2, xI 0 9), (3, xFL), (5, xF), (6, xF), (7, xI 0 2147483647)], [], []), (6, true), [], false, 0, []), (69, ([(0, xR false [17]), (1, xF), (2, xI 0 9), (3, xFL), (5, xF), (6, xF), (7, xI 0 2147483647)], [], []), (6, true), [], false, 0, [])] [] 2500 (by decide +kernel) (by decide +kernel) xk218 (by decide +kernel)
/-- TwinFiresModel.tell(III)I -/
def xM219 : xM := (⟨"TwinFiresModel", "tell", "(III)I"⟩, prog_14_method_75_code, 5, some .int, [xR false [17], xF, xF, xF], [([xR false [17], xF, xF, xF], some (xF))], [(46, 0), (50, 0)], (2, 46, 0, 0), none)
def xT219 : xTab := ([(7, 17, 0)], [], [], [], [], [], [(248, 11)], [(1, 87, 3, none, xM196), (1, 87, 3, none, xM188), (0, 102, 1, some 17, xM143), (0, 151, 2, some 17, xM171)], [], [], [])
set_option maxRecDepth 100000 in
set_option maxHeartbeats 4000000 in
theorem xk219 : x_TOK vwCl x_G x_Zs x_Tb x_Nb xM219 xT219 := by
  intro p l e s m args below meth c D U hx hb hml hts hown hK hK0 hU hnm hN
  have X : x_cx p s m args c D U xM219.2.1 xM219.2.2.1 vwCl x_Tb x_Nb xM219.1.cls := ⟨hx, hb, hml, hown, hts, hK, hK0, hU, hN, x_Tb_good, x_Nb_ok⟩
  exact ⟨(x_cons (fl190 hts) x_nilm), x_nilm, x_nilm, x_nilm, x_nilm, x_nilm, (x_cons ⟨11, rfl, (hts _ (x_at 1340 (by decide +kernel) rfl))⟩ x_nilm), (x_cons (x_cokS X xm196 (x_cons (x_at 1147 (by decide +kernel) rfl) (x_cons (x_at 1148 (by decide +kernel) rfl) (x_cons (x_at 73 (by decide +kernel) rfl) x_nilm))) (x_at 1149 (by decide +kernel) rfl) (by decide +kernel) ⟨Nat.le_of_ble_eq_true rfl, Nat.le_of_ble_eq_true rfl⟩) (x_cons (x_cokS X xm188 (x_cons (x_at 1147 (by decide +kernel) rfl) (x_cons (x_at 1148 (by decide +kernel) rfl) (x_cons (x_at 73 (by decide +kernel) rfl) x_nilm))) (x_at 1149 (by decide +kernel) rfl) (by decide +kernel) ⟨Nat.le_of_ble_eq_true rfl, Nat.le_of_ble_eq_true rfl⟩) (x_cons (x_cokV (ci := 12) X xm143 rfl rfl rfl (x_cons (x_at 1155 (by decide +kernel) rfl) (x_cons (x_at 1157 (by decide +kernel) rfl) (x_cons (x_at 32 (by decide +kernel) rfl) (x_cons (x_at 73 (by decide +kernel) rfl) x_nilm)))) (x_at 1158 (by decide +kernel) rfl) (by decide +kernel) ⟨Nat.le_of_ble_eq_true rfl, Nat.le_of_ble_eq_true rfl⟩) (x_cons (x_cokV (ci := 12) X xm171 rfl rfl rfl (x_cons (x_at 1218 (by decide +kernel) rfl) (x_cons (x_at 1220 (by decide +kernel) rfl) (x_cons (x_at 40 (by decide +kernel) rfl) (x_cons (x_at 73 (by decide +kernel) rfl) x_nilm)))) (x_at 1221 (by decide +kernel) rfl) (by decide +kernel) ⟨Nat.le_of_ble_eq_true rfl, Nat.le_of_ble_eq_true rfl⟩) x_nilm)))), x_nilm, x_nilm, x_nilm⟩
set_option maxRecDepth 1000000 in
theorem xm219 : x_Met vwCl x_G x_Zs x_Tb x_Nb xM219 := x_main xT219 [] [] 2500 (by decide +kernel) (by decide +kernel) xk219 (by decide +kernel)
/-- TwinFiresModel.in(JJJ)Z -/
def xM220 : xM := (⟨"TwinFiresModel", "in", "(JJJ)Z"⟩, prog_14_method_2_code, 6, some .boolean, [xFL, xL 0 0, xL 2 2], [([xL 0 2, xL 0 0, xL 2 2], some (xI 1 1)), ([xFL, xL 0 0, xL 2 2], some (xI 0 0))], [], (0, 0, 0, 0), none)
def xT220 : xTab := ([], [], [], [], [], [], [], [], [], [], [])
set_option maxRecDepth 100000 in
set_option maxHeartbeats 4000000 in
theorem xk220 : x_TOK vwCl x_G x_Zs x_Tb x_Nb xM220 xT220 := by
  intro p l e s m args below meth c D U hx hb hml hts hown hK hK0 hU hnm hN
  have X : x_cx p s m args c D U xM220.2.1 xM220.2.2.1 vwCl x_Tb x_Nb xM220.1.cls := ⟨hx, hb, hml, hown, hts, hK, hK0, hU, hN, x_Tb_good, x_Nb_ok⟩
  exact ⟨x_nilm, x_nilm, x_nilm, x_nilm, x_nilm, x_nilm, x_nilm, x_nilm, x_nilm, x_nilm, x_nilm⟩
set_option maxRecDepth 1000000 in
theorem xm220 : x_Met vwCl x_G x_Zs x_Tb x_Nb xM220 := x_main xT220 [] [] 2500 (by decide +kernel) (by decide +kernel) xk220 (by decide +kernel)
/-- TwinFiresModel.night(II)I -/
def xM221 : xM := (⟨"TwinFiresModel", "night", "(II)I"⟩, prog_14_method_76_code, 9, some .int, [xR false [17], xF, xF], [([xR false [17], xF, xF], some (xF))], [(50, 0), (51, 0)], (4, 107, 0, 0), none)
def xT221 : xTab := ([(7, 17, 0)], [], [], [], [], [], [(286, 2)], [(1, 87, 3, none, xM220), (0, 102, 1, some 17, xM143), (0, 126, 1, some 17, xM164), (0, 144, 3, some 17, xM185), (0, 151, 2, some 17, xM171), (0, 237, 2, some 17, xM184), (0, 243, 2, some 17, xM191)], [], [], [])
set_option maxRecDepth 100000 in
set_option maxHeartbeats 4000000 in
theorem xk221 : x_TOK vwCl x_G x_Zs x_Tb x_Nb xM221 xT221 := by
  intro p l e s m args below meth c D U hx hb hml hts hown hK hK0 hU hnm hN
  have X : x_cx p s m args c D U xM221.2.1 xM221.2.2.1 vwCl x_Tb x_Nb xM221.1.cls := ⟨hx, hb, hml, hown, hts, hK, hK0, hU, hN, x_Tb_good, x_Nb_ok⟩
  exact ⟨(x_cons (fl190 hts) x_nilm), x_nilm, x_nilm, x_nilm, x_nilm, x_nilm, (x_cons ⟨2, rfl, (hts _ (x_at 1453 (by decide +kernel) rfl))⟩ x_nilm), (x_cons (x_cokS X xm220 (x_cons (x_at 1147 (by decide +kernel) rfl) (x_cons (x_at 1148 (by decide +kernel) rfl) (x_cons (x_at 73 (by decide +kernel) rfl) x_nilm))) (x_at 1149 (by decide +kernel) rfl) (by decide +kernel) ⟨Nat.le_of_ble_eq_true rfl, Nat.le_of_ble_eq_true rfl⟩) (x_cons (x_cokV (ci := 12) X xm143 rfl rfl rfl (x_cons (x_at 1155 (by decide +kernel) rfl) (x_cons (x_at 1157 (by decide +kernel) rfl) (x_cons (x_at 32 (by decide +kernel) rfl) (x_cons (x_at 73 (by decide +kernel) rfl) x_nilm)))) (x_at 1158 (by decide +kernel) rfl) (by decide +kernel) ⟨Nat.le_of_ble_eq_true rfl, Nat.le_of_ble_eq_true rfl⟩) (x_cons (x_cokV (ci := 12) X xm164 rfl rfl rfl (x_cons (x_at 1195 (by decide +kernel) rfl) (x_cons (x_at 1197 (by decide +kernel) rfl) (x_cons (x_at 38 (by decide +kernel) rfl) (x_cons (x_at 73 (by decide +kernel) rfl) x_nilm)))) (x_at 1198 (by decide +kernel) rfl) (by decide +kernel) ⟨Nat.le_of_ble_eq_true rfl, Nat.le_of_ble_eq_true rfl⟩) (x_cons (x_cokV (ci := 12) X xm185 rfl rfl rfl (x_cons (x_at 1308 (by decide +kernel) rfl) (x_cons (x_at 1310 (by decide +kernel) rfl) (x_cons (x_at 51 (by decide +kernel) rfl) (x_cons (x_at 73 (by decide +kernel) rfl) x_nilm)))) (x_at 1311 (by decide +kernel) rfl) (by decide +kernel) ⟨Nat.le_of_ble_eq_true rfl, Nat.le_of_ble_eq_true rfl⟩) (x_cons (x_cokV (ci := 12) X xm171 rfl rfl rfl (x_cons (x_at 1218 (by decide +kernel) rfl) (x_cons (x_at 1220 (by decide +kernel) rfl) (x_cons (x_at 40 (by decide +kernel) rfl) (x_cons (x_at 73 (by decide +kernel) rfl) x_nilm)))) (x_at 1221 (by decide +kernel) rfl) (by decide +kernel) ⟨Nat.le_of_ble_eq_true rfl, Nat.le_of_ble_eq_true rfl⟩) (x_cons (x_cokV (ci := 12) X xm184 rfl rfl rfl (x_cons (x_at 1296 (by decide +kernel) rfl) (x_cons (x_at 1298 (by decide +kernel) rfl) (x_cons (x_at 48 (by decide +kernel) rfl) (x_cons (x_at 73 (by decide +kernel) rfl) x_nilm)))) (x_at 1299 (by decide +kernel) rfl) (by decide +kernel) ⟨Nat.le_of_ble_eq_true rfl, Nat.le_of_ble_eq_true rfl⟩) (x_cons (x_cokV (ci := 12) X xm191 rfl rfl rfl (x_cons (x_at 1323 (by decide +kernel) rfl) (x_cons (x_at 1325 (by decide +kernel) rfl) (x_cons (x_at 52 (by decide +kernel) rfl) (x_cons (x_at 73 (by decide +kernel) rfl) x_nilm)))) (x_at 1326 (by decide +kernel) rfl) (by decide +kernel) ⟨Nat.le_of_ble_eq_true rfl, Nat.le_of_ble_eq_true rfl⟩) x_nilm))))))), x_nilm, x_nilm, x_nilm⟩
set_option maxRecDepth 1000000 in
theorem xm221 : x_Met vwCl x_G x_Zs x_Tb x_Nb xM221 := x_main xT221 [(36, ([(0, xR false [17]), (1, xI 0 1023), (2, xI 0 2), (3, xI 0 1023), (4, xI (-1) 11), (5, xF), (6, xI 0 12)], [], []), (6, true), [], false, 0, [])] [] 2500 (by decide +kernel) (by decide +kernel) xk221 (by decide +kernel)
/-- TwinFiresModel.part(I)J -/
def xM222 : xM := (⟨"TwinFiresModel", "part", "(I)J"⟩, prog_14_method_77_code, 2, some .long, [xR false [17], xF], [([xR false [17], xF], some (xFL))], [(50, 0)], (1, 22, 0, 0), none)
def xT222 : xTab := ([(68, 17, 7), (84, 17, 6)], [], [], [], [], [(288, -1000000)], [], [(0, 76, 3, some 17, xM142)], [], [], [])
set_option maxRecDepth 100000 in
set_option maxHeartbeats 4000000 in
theorem xk222 : x_TOK vwCl x_G x_Zs x_Tb x_Nb xM222 xT222 := by
  intro p l e s m args below meth c D U hx hb hml hts hown hK hK0 hU hnm hN
  have X : x_cx p s m args c D U xM222.2.1 xM222.2.2.1 vwCl x_Tb x_Nb xM222.1.cls := ⟨hx, hb, hml, hown, hts, hK, hK0, hU, hN, x_Tb_good, x_Nb_ok⟩
  exact ⟨(x_cons (fl203 hts) (x_cons (fl204 hts) x_nilm)), x_nilm, x_nilm, x_nilm, x_nilm, (x_cons ⟨-1000000, rfl, (hts _ (x_at 1458 (by decide +kernel) rfl))⟩ x_nilm), x_nilm, (x_cons (x_cokV (ci := 12) X xm142 rfl rfl rfl (x_cons (x_at 1159 (by decide +kernel) rfl) (x_cons (x_at 1161 (by decide +kernel) rfl) (x_cons (x_at 33 (by decide +kernel) rfl) (x_cons (x_at 73 (by decide +kernel) rfl) x_nilm)))) (x_at 1162 (by decide +kernel) rfl) (by decide +kernel) ⟨Nat.le_of_ble_eq_true rfl, Nat.le_of_ble_eq_true rfl⟩) x_nilm), x_nilm, x_nilm, x_nilm⟩
set_option maxRecDepth 1000000 in
theorem xm222 : x_Met vwCl x_G x_Zs x_Tb x_Nb xM222 := x_main xT222 [] [] 2500 (by decide +kernel) (by decide +kernel) xk222 (by decide +kernel)
/-- TwinFiresModel.status(I)I -/
def xM223 : xM := (⟨"TwinFiresModel", "status", "(I)I"⟩, prog_14_method_80_code, 2, some .int, [xR false [17], xF], [([xR false [17], xF], some (xF))], [(50, 0)], (1, 25, 0, 0), none)
def xT223 : xTab := ([(23, 17, 4)], [], [], [], [], [], [(286, 2)], [(1, 87, 3, none, xM220), (0, 76, 3, some 17, xM142)], [], [], [])
set_option maxRecDepth 100000 in
set_option maxHeartbeats 4000000 in
theorem xk223 : x_TOK vwCl x_G x_Zs x_Tb x_Nb xM223 xT223 := by
  intro p l e s m args below meth c D U hx hb hml hts hown hK hK0 hU hnm hN
  have X : x_cx p s m args c D U xM223.2.1 xM223.2.2.1 vwCl x_Tb x_Nb xM223.1.cls := ⟨hx, hb, hml, hown, hts, hK, hK0, hU, hN, x_Tb_good, x_Nb_ok⟩
  exact ⟨(x_cons (fl191 hts) x_nilm), x_nilm, x_nilm, x_nilm, x_nilm, x_nilm, (x_cons ⟨2, rfl, (hts _ (x_at 1453 (by decide +kernel) rfl))⟩ x_nilm), (x_cons (x_cokS X xm220 (x_cons (x_at 1147 (by decide +kernel) rfl) (x_cons (x_at 1148 (by decide +kernel) rfl) (x_cons (x_at 73 (by decide +kernel) rfl) x_nilm))) (x_at 1149 (by decide +kernel) rfl) (by decide +kernel) ⟨Nat.le_of_ble_eq_true rfl, Nat.le_of_ble_eq_true rfl⟩) (x_cons (x_cokV (ci := 12) X xm142 rfl rfl rfl (x_cons (x_at 1159 (by decide +kernel) rfl) (x_cons (x_at 1161 (by decide +kernel) rfl) (x_cons (x_at 33 (by decide +kernel) rfl) (x_cons (x_at 73 (by decide +kernel) rfl) x_nilm)))) (x_at 1162 (by decide +kernel) rfl) (by decide +kernel) ⟨Nat.le_of_ble_eq_true rfl, Nat.le_of_ble_eq_true rfl⟩) x_nilm)), x_nilm, x_nilm, x_nilm⟩
set_option maxRecDepth 1000000 in
theorem xm223 : x_Met vwCl x_G x_Zs x_Tb x_Nb xM223 := x_main xT223 [] [] 2500 (by decide +kernel) (by decide +kernel) xk223 (by decide +kernel)
/-- TwinFiresModel.in(JJJ)Z -/
def xM224 : xM := (⟨"TwinFiresModel", "in", "(JJJ)Z"⟩, prog_14_method_2_code, 6, some .boolean, [xFL, xL 0 0, xL 4 4], [([xL 0 4, xL 0 0, xL 4 4], some (xI 1 1)), ([xFL, xL 0 0, xL 4 4], some (xI 0 0))], [], (0, 0, 0, 0), none)
def xT224 : xTab := ([], [], [], [], [], [], [], [], [], [], [])
set_option maxRecDepth 100000 in
set_option maxHeartbeats 4000000 in
theorem xk224 : x_TOK vwCl x_G x_Zs x_Tb x_Nb xM224 xT224 := by
  intro p l e s m args below meth c D U hx hb hml hts hown hK hK0 hU hnm hN
  have X : x_cx p s m args c D U xM224.2.1 xM224.2.2.1 vwCl x_Tb x_Nb xM224.1.cls := ⟨hx, hb, hml, hown, hts, hK, hK0, hU, hN, x_Tb_good, x_Nb_ok⟩
  exact ⟨x_nilm, x_nilm, x_nilm, x_nilm, x_nilm, x_nilm, x_nilm, x_nilm, x_nilm, x_nilm, x_nilm⟩
set_option maxRecDepth 1000000 in
theorem xm224 : x_Met vwCl x_G x_Zs x_Tb x_Nb xM224 := x_main xT224 [] [] 2500 (by decide +kernel) (by decide +kernel) xk224 (by decide +kernel)
/-- TwinFiresModel.countOf(I)I -/
def xM225 : xM := (⟨"TwinFiresModel", "countOf", "(I)I"⟩, prog_14_method_81_code, 4, some .int, [xR false [17], xI 0 4], [([xR false [17], xI 0 4], some (xF))], [], (1, 22, 0, 0), none)
def xT225 : xTab := ([(7, 17, 0), (160, 17, 10)], [], [], [], [], [], [], [(0, 99, 3, some 17, xM145)], [], [], [])
set_option maxRecDepth 100000 in
set_option maxHeartbeats 4000000 in
theorem xk225 : x_TOK vwCl x_G x_Zs x_Tb x_Nb xM225 xT225 := by
  intro p l e s m args below meth c D U hx hb hml hts hown hK hK0 hU hnm hN
  have X : x_cx p s m args c D U xM225.2.1 xM225.2.2.1 vwCl x_Tb x_Nb xM225.1.cls := ⟨hx, hb, hml, hown, hts, hK, hK0, hU, hN, x_Tb_good, x_Nb_ok⟩
  exact ⟨(x_cons (fl190 hts) (x_cons (fl193 hts) x_nilm)), x_nilm, x_nilm, x_nilm, x_nilm, x_nilm, x_nilm, (x_cons (x_cokV (ci := 12) X xm145 rfl rfl rfl (x_cons (x_at 1151 (by decide +kernel) rfl) (x_cons (x_at 1153 (by decide +kernel) rfl) (x_cons (x_at 31 (by decide +kernel) rfl) (x_cons (x_at 73 (by decide +kernel) rfl) x_nilm)))) (x_at 1154 (by decide +kernel) rfl) (by decide +kernel) ⟨Nat.le_of_ble_eq_true rfl, Nat.le_of_ble_eq_true rfl⟩) x_nilm), x_nilm, x_nilm, x_nilm⟩
set_option maxRecDepth 1000000 in
theorem xm225 : x_Met vwCl x_G x_Zs x_Tb x_Nb xM225 := x_main xT225 [(4, ([(0, xR false [17]), (1, xI 0 4), (2, xF), (3, xI 0 10)], [], []), (3, true), [], false, 0, [])] [] 2500 (by decide +kernel) (by decide +kernel) xk225 (by decide +kernel)
/-- TwinFiresModel.count(I)I -/
def xM226 : xM := (⟨"TwinFiresModel", "count", "(I)I"⟩, prog_14_method_82_code, 2, some .int, [xR false [17], xF], [([xR false [17], xF], some (xF))], [(50, 0)], (2, 45, 0, 0), none)
def xT226 : xTab := ([], [], [], [], [], [], [(289, 4)], [(1, 87, 3, none, xM224), (0, 102, 1, some 17, xM143), (0, 291, 2, some 17, xM225)], [], [], [])
set_option maxRecDepth 100000 in
set_option maxHeartbeats 4000000 in
theorem xk226 : x_TOK vwCl x_G x_Zs x_Tb x_Nb xM226 xT226 := by
  intro p l e s m args below meth c D U hx hb hml hts hown hK hK0 hU hnm hN
  have X : x_cx p s m args c D U xM226.2.1 xM226.2.2.1 vwCl x_Tb x_Nb xM226.1.cls := ⟨hx, hb, hml, hown, hts, hK, hK0, hU, hN, x_Tb_good, x_Nb_ok⟩
  exact ⟨x_nilm, x_nilm, x_nilm, x_nilm, x_nilm, x_nilm, (x_cons ⟨4, rfl, (hts _ (x_at 1475 (by decide +kernel) rfl))⟩ x_nilm), (x_cons (x_cokS X xm224 (x_cons (x_at 1147 (by decide +kernel) rfl) (x_cons (x_at 1148 (by decide +kernel) rfl) (x_cons (x_at 73 (by decide +kernel) rfl) x_nilm))) (x_at 1149 (by decide +kernel) rfl) (by decide +kernel) ⟨Nat.le_of_ble_eq_true rfl, Nat.le_of_ble_eq_true rfl⟩) (x_cons (x_cokV (ci := 12) X xm143 rfl rfl rfl (x_cons (x_at 1155 (by decide +kernel) rfl) (x_cons (x_at 1157 (by decide +kernel) rfl) (x_cons (x_at 32 (by decide +kernel) rfl) (x_cons (x_at 73 (by decide +kernel) rfl) x_nilm)))) (x_at 1158 (by decide +kernel) rfl) (by decide +kernel) ⟨Nat.le_of_ble_eq_true rfl, Nat.le_of_ble_eq_true rfl⟩) (x_cons (x_cokV (ci := 12) X xm225 rfl rfl rfl (x_cons (x_at 1476 (by decide +kernel) rfl) (x_cons (x_at 1478 (by decide +kernel) rfl) (x_cons (x_at 62 (by decide +kernel) rfl) (x_cons (x_at 73 (by decide +kernel) rfl) x_nilm)))) (x_at 1479 (by decide +kernel) rfl) (by decide +kernel) ⟨Nat.le_of_ble_eq_true rfl, Nat.le_of_ble_eq_true rfl⟩) x_nilm))), x_nilm, x_nilm, x_nilm⟩
set_option maxRecDepth 1000000 in
theorem xm226 : x_Met vwCl x_G x_Zs x_Tb x_Nb xM226 := x_main xT226 [] [] 2500 (by decide +kernel) (by decide +kernel) xk226 (by decide +kernel)
/-- TwinFiresModel.mixed(JII)J -/
def xM227 : xM := (⟨"TwinFiresModel", "mixed", "(JII)J"⟩, prog_14_method_83_code, 8, some .long, [xR false [17], xFL, xI 10 10, xI 0 50], [([xR false [17], xFL, xI 10 10, xI 0 50], some (xFL))], [], (0, 0, 0, 0), none)
def xT227 : xTab := ([(7, 17, 0)], [], [], [], [], [], [(294, 31)], [], [], [], [])
set_option maxRecDepth 100000 in
set_option maxHeartbeats 4000000 in
theorem xk227 : x_TOK vwCl x_G x_Zs x_Tb x_Nb xM227 xT227 := by
  intro p l e s m args below meth c D U hx hb hml hts hown hK hK0 hU hnm hN
  have X : x_cx p s m args c D U xM227.2.1 xM227.2.2.1 vwCl x_Tb x_Nb xM227.1.cls := ⟨hx, hb, hml, hown, hts, hK, hK0, hU, hN, x_Tb_good, x_Nb_ok⟩
  exact ⟨(x_cons (fl190 hts) x_nilm), x_nilm, x_nilm, x_nilm, x_nilm, x_nilm, (x_cons ⟨31, rfl, (hts _ (x_at 1485 (by decide +kernel) rfl))⟩ x_nilm), x_nilm, x_nilm, x_nilm, x_nilm⟩
set_option maxRecDepth 1000000 in
theorem xm227 : x_Met vwCl x_G x_Zs x_Tb x_Nb xM227 := x_main xT227 [(6, ([(0, xR false [17]), (1, xFL), (3, xI 10 10), (4, xI 0 50), (5, xFL), (7, xI 0 63)], [], []), (5, true), [], false, 0, [])] [] 2500 (by decide +kernel) (by decide +kernel) xk227 (by decide +kernel)
/-- TwinFiresModel.mixed(JII)J -/
def xM228 : xM := (⟨"TwinFiresModel", "mixed", "(JII)J"⟩, prog_14_method_83_code, 8, some .long, [xR false [17], xFL, xI 60 60, xI 0 56], [([xR false [17], xFL, xI 60 60, xI 0 56], some (xFL))], [], (0, 0, 0, 0), none)
def xT228 : xTab := ([(7, 17, 0)], [], [], [], [], [], [(294, 31)], [], [], [], [])
set_option maxRecDepth 100000 in
set_option maxHeartbeats 4000000 in
theorem xk228 : x_TOK vwCl x_G x_Zs x_Tb x_Nb xM228 xT228 := by
  intro p l e s m args below meth c D U hx hb hml hts hown hK hK0 hU hnm hN
  have X : x_cx p s m args c D U xM228.2.1 xM228.2.2.1 vwCl x_Tb x_Nb xM228.1.cls := ⟨hx, hb, hml, hown, hts, hK, hK0, hU, hN, x_Tb_good, x_Nb_ok⟩
  exact ⟨(x_cons (fl190 hts) x_nilm), x_nilm, x_nilm, x_nilm, x_nilm, x_nilm, (x_cons ⟨31, rfl, (hts _ (x_at 1485 (by decide +kernel) rfl))⟩ x_nilm), x_nilm, x_nilm, x_nilm, x_nilm⟩
set_option maxRecDepth 1000000 in
theorem xm228 : x_Met vwCl x_G x_Zs x_Tb x_Nb xM228 := x_main xT228 [(6, ([(0, xR false [17]), (1, xFL), (3, xI 60 60), (4, xI 0 56), (5, xFL), (7, xI 0 63)], [], []), (5, true), [], false, 0, [])] [] 2500 (by decide +kernel) (by decide +kernel) xk228 (by decide +kernel)
/-- TwinFiresModel.mixed(JII)J -/
def xM229 : xM := (⟨"TwinFiresModel", "mixed", "(JII)J"⟩, prog_14_method_83_code, 8, some .long, [xR false [17], xFL, xI 4 4, xI 4 4], [([xR false [17], xFL, xI 4 4, xI 4 4], some (xFL))], [], (0, 0, 0, 0), none)
def xT229 : xTab := ([(7, 17, 0)], [], [], [], [], [], [(294, 31)], [], [], [], [])
set_option maxRecDepth 100000 in
set_option maxHeartbeats 4000000 in
theorem xk229 : x_TOK vwCl x_G x_Zs x_Tb x_Nb xM229 xT229 := by
  intro p l e s m args below meth c D U hx hb hml hts hown hK hK0 hU hnm hN
  have X : x_cx p s m args c D U xM229.2.1 xM229.2.2.1 vwCl x_Tb x_Nb xM229.1.cls := ⟨hx, hb, hml, hown, hts, hK, hK0, hU, hN, x_Tb_good, x_Nb_ok⟩
  exact ⟨(x_cons (fl190 hts) x_nilm), x_nilm, x_nilm, x_nilm, x_nilm, x_nilm, (x_cons ⟨31, rfl, (hts _ (x_at 1485 (by decide +kernel) rfl))⟩ x_nilm), x_nilm, x_nilm, x_nilm, x_nilm⟩
set_option maxRecDepth 1000000 in
theorem xm229 : x_Met vwCl x_G x_Zs x_Tb x_Nb xM229 := x_main xT229 [(6, ([(0, xR false [17]), (1, xFL), (3, xI 4 4), (4, xI 4 4), (5, xFL), (7, xI 0 4)], [], []), (5, true), [], false, 0, [])] [] 2500 (by decide +kernel) (by decide +kernel) xk229 (by decide +kernel)
/-- TwinFiresModel.mixed(JII)J -/
def xM230 : xM := (⟨"TwinFiresModel", "mixed", "(JII)J"⟩, prog_14_method_83_code, 8, some .long, [xR false [17], xFL, xI 116 116, xI 12 12], [([xR false [17], xFL, xI 116 116, xI 12 12], some (xFL))], [], (0, 0, 0, 0), none)
def xT230 : xTab := ([(7, 17, 0)], [], [], [], [], [], [(294, 31)], [], [], [], [])
set_option maxRecDepth 100000 in
set_option maxHeartbeats 4000000 in
theorem xk230 : x_TOK vwCl x_G x_Zs x_Tb x_Nb xM230 xT230 := by
  intro p l e s m args below meth c D U hx hb hml hts hown hK hK0 hU hnm hN
  have X : x_cx p s m args c D U xM230.2.1 xM230.2.2.1 vwCl x_Tb x_Nb xM230.1.cls := ⟨hx, hb, hml, hown, hts, hK, hK0, hU, hN, x_Tb_good, x_Nb_ok⟩
  exact ⟨(x_cons (fl190 hts) x_nilm), x_nilm, x_nilm, x_nilm, x_nilm, x_nilm, (x_cons ⟨31, rfl, (hts _ (x_at 1485 (by decide +kernel) rfl))⟩ x_nilm), x_nilm, x_nilm, x_nilm, x_nilm⟩
set_option maxRecDepth 1000000 in
theorem xm230 : x_Met vwCl x_G x_Zs x_Tb x_Nb xM230 := x_main xT230 [(6, ([(0, xR false [17]), (1, xFL), (3, xI 116 116), (4, xI 12 12), (5, xFL), (7, xI 0 12)], [], []), (5, true), [], false, 0, [])] [] 2500 (by decide +kernel) (by decide +kernel) xk230 (by decide +kernel)
/-- TwinFiresModel.mixed(JII)J -/
def xM231 : xM := (⟨"TwinFiresModel", "mixed", "(JII)J"⟩, prog_14_method_83_code, 8, some .long, [xR false [17], xFL, xI 128 128, xI 0 8], [([xR false [17], xFL, xI 128 128, xI 0 8], some (xFL))], [], (0, 0, 0, 0), none)
def xT231 : xTab := ([(7, 17, 0)], [], [], [], [], [], [(294, 31)], [], [], [], [])
set_option maxRecDepth 100000 in
set_option maxHeartbeats 4000000 in
theorem xk231 : x_TOK vwCl x_G x_Zs x_Tb x_Nb xM231 xT231 := by
  intro p l e s m args below meth c D U hx hb hml hts hown hK hK0 hU hnm hN
  have X : x_cx p s m args c D U xM231.2.1 xM231.2.2.1 vwCl x_Tb x_Nb xM231.1.cls := ⟨hx, hb, hml, hown, hts, hK, hK0, hU, hN, x_Tb_good, x_Nb_ok⟩
  exact ⟨(x_cons (fl190 hts) x_nilm), x_nilm, x_nilm, x_nilm, x_nilm, x_nilm, (x_cons ⟨31, rfl, (hts _ (x_at 1485 (by decide +kernel) rfl))⟩ x_nilm), x_nilm, x_nilm, x_nilm, x_nilm⟩
set_option maxRecDepth 1000000 in
theorem xm231 : x_Met vwCl x_G x_Zs x_Tb x_Nb xM231 := x_main xT231 [(6, ([(0, xR false [17]), (1, xFL), (3, xI 128 128), (4, xI 0 8), (5, xFL), (7, xI 0 8)], [], []), (5, true), [], false, 0, [])] [] 2500 (by decide +kernel) (by decide +kernel) xk231 (by decide +kernel)
/-- TwinFiresModel.mixed(JII)J -/
def xM232 : xM := (⟨"TwinFiresModel", "mixed", "(JII)J"⟩, prog_14_method_83_code, 8, some .long, [xR false [17], xFL, xI 136 136, xI 24 24], [([xR false [17], xFL, xI 136 136, xI 24 24], some (xFL))], [], (0, 0, 0, 0), none)
def xT232 : xTab := ([(7, 17, 0)], [], [], [], [], [], [(294, 31)], [], [], [], [])
set_option maxRecDepth 100000 in
set_option maxHeartbeats 4000000 in
theorem xk232 : x_TOK vwCl x_G x_Zs x_Tb x_Nb xM232 xT232 := by
  intro p l e s m args below meth c D U hx hb hml hts hown hK hK0 hU hnm hN
  have X : x_cx p s m args c D U xM232.2.1 xM232.2.2.1 vwCl x_Tb x_Nb xM232.1.cls := ⟨hx, hb, hml, hown, hts, hK, hK0, hU, hN, x_Tb_good, x_Nb_ok⟩
  exact ⟨(x_cons (fl190 hts) x_nilm), x_nilm, x_nilm, x_nilm, x_nilm, x_nilm, (x_cons ⟨31, rfl, (hts _ (x_at 1485 (by decide +kernel) rfl))⟩ x_nilm), x_nilm, x_nilm, x_nilm, x_nilm⟩
set_option maxRecDepth 1000000 in
theorem xm232 : x_Met vwCl x_G x_Zs x_Tb x_Nb xM232 := x_main xT232 [(6, ([(0, xR false [17]), (1, xFL), (3, xI 136 136), (4, xI 24 24), (5, xFL), (7, xI 0 63)], [], []), (5, true), [], false, 0, [])] [] 2500 (by decide +kernel) (by decide +kernel) xk232 (by decide +kernel)
/-- TwinFiresModel.digest()J -/
def xM233 : xM := (⟨"TwinFiresModel", "digest", "()J"⟩, prog_14_method_84_code, 4, some .long, [xR false [17]], [([xR false [17]], some (xFL))], [], (2, 45, 0, 0), none)
def xT233 : xTab := ([(7, 17, 0), (68, 17, 7), (84, 17, 6)], [], [], [], [], [], [(294, 31), (296, 619)], [(0, 291, 2, some 17, xM225), (0, 298, 4, some 17, xM229), (0, 298, 4, some 17, xM230), (0, 298, 4, some 17, xM232), (0, 298, 4, some 17, xM231), (0, 298, 4, some 17, xM227), (0, 298, 4, some 17, xM228)], [], [], [])
set_option maxRecDepth 100000 in
set_option maxHeartbeats 4000000 in
theorem xk233 : x_TOK vwCl x_G x_Zs x_Tb x_Nb xM233 xT233 := by
  intro p l e s m args below meth c D U hx hb hml hts hown hK hK0 hU hnm hN
  have X : x_cx p s m args c D U xM233.2.1 xM233.2.2.1 vwCl x_Tb x_Nb xM233.1.cls := ⟨hx, hb, hml, hown, hts, hK, hK0, hU, hN, x_Tb_good, x_Nb_ok⟩
  exact ⟨(x_cons (fl190 hts) (x_cons (fl203 hts) (x_cons (fl204 hts) x_nilm))), x_nilm, x_nilm, x_nilm, x_nilm, x_nilm, (x_cons ⟨31, rfl, (hts _ (x_at 1485 (by decide +kernel) rfl))⟩ (x_cons ⟨619, rfl, (hts _ (x_at 1484 (by decide +kernel) rfl))⟩ x_nilm)), (x_cons (x_cokV (ci := 12) X xm225 rfl rfl rfl (x_cons (x_at 1476 (by decide +kernel) rfl) (x_cons (x_at 1478 (by decide +kernel) rfl) (x_cons (x_at 62 (by decide +kernel) rfl) (x_cons (x_at 73 (by decide +kernel) rfl) x_nilm)))) (x_at 1479 (by decide +kernel) rfl) (by decide +kernel) ⟨Nat.le_of_ble_eq_true rfl, Nat.le_of_ble_eq_true rfl⟩) (x_cons (x_cokV (ci := 12) X xm229 rfl rfl rfl (x_cons (x_at 1486 (by decide +kernel) rfl) (x_cons (x_at 1488 (by decide +kernel) rfl) (x_cons (x_at 63 (by decide +kernel) rfl) (x_cons (x_at 73 (by decide +kernel) rfl) x_nilm)))) (x_at 1489 (by decide +kernel) rfl) (by decide +kernel) ⟨Nat.le_of_ble_eq_true rfl, Nat.le_of_ble_eq_true rfl⟩) (x_cons (x_cokV (ci := 12) X xm230 rfl rfl rfl (x_cons (x_at 1486 (by decide +kernel) rfl) (x_cons (x_at 1488 (by decide +kernel) rfl) (x_cons (x_at 63 (by decide +kernel) rfl) (x_cons (x_at 73 (by decide +kernel) rfl) x_nilm)))) (x_at 1489 (by decide +kernel) rfl) (by decide +kernel) ⟨Nat.le_of_ble_eq_true rfl, Nat.le_of_ble_eq_true rfl⟩) (x_cons (x_cokV (ci := 12) X xm232 rfl rfl rfl (x_cons (x_at 1486 (by decide +kernel) rfl) (x_cons (x_at 1488 (by decide +kernel) rfl) (x_cons (x_at 63 (by decide +kernel) rfl) (x_cons (x_at 73 (by decide +kernel) rfl) x_nilm)))) (x_at 1489 (by decide +kernel) rfl) (by decide +kernel) ⟨Nat.le_of_ble_eq_true rfl, Nat.le_of_ble_eq_true rfl⟩) (x_cons (x_cokV (ci := 12) X xm231 rfl rfl rfl (x_cons (x_at 1486 (by decide +kernel) rfl) (x_cons (x_at 1488 (by decide +kernel) rfl) (x_cons (x_at 63 (by decide +kernel) rfl) (x_cons (x_at 73 (by decide +kernel) rfl) x_nilm)))) (x_at 1489 (by decide +kernel) rfl) (by decide +kernel) ⟨Nat.le_of_ble_eq_true rfl, Nat.le_of_ble_eq_true rfl⟩) (x_cons (x_cokV (ci := 12) X xm227 rfl rfl rfl (x_cons (x_at 1486 (by decide +kernel) rfl) (x_cons (x_at 1488 (by decide +kernel) rfl) (x_cons (x_at 63 (by decide +kernel) rfl) (x_cons (x_at 73 (by decide +kernel) rfl) x_nilm)))) (x_at 1489 (by decide +kernel) rfl) (by decide +kernel) ⟨Nat.le_of_ble_eq_true rfl, Nat.le_of_ble_eq_true rfl⟩) (x_cons (x_cokV (ci := 12) X xm228 rfl rfl rfl (x_cons (x_at 1486 (by decide +kernel) rfl) (x_cons (x_at 1488 (by decide +kernel) rfl) (x_cons (x_at 63 (by decide +kernel) rfl) (x_cons (x_at 73 (by decide +kernel) rfl) x_nilm)))) (x_at 1489 (by decide +kernel) rfl) (by decide +kernel) ⟨Nat.le_of_ble_eq_true rfl, Nat.le_of_ble_eq_true rfl⟩) x_nilm))))))), x_nilm, x_nilm, x_nilm⟩
set_option maxRecDepth 1000000 in
theorem xm233 : x_Met vwCl x_G x_Zs x_Tb x_Nb xM233 := x_main xT233 [(6, ([(0, xR false [17]), (1, xFL), (3, xI 0 5)], [], []), (2, true), [], false, 0, [])] [] 2500 (by decide +kernel) (by decide +kernel) xk233 (by decide +kernel)
/-- TwinFiresModel.mixed(JII)J -/
def xM234 : xM := (⟨"TwinFiresModel", "mixed", "(JII)J"⟩, prog_14_method_83_code, 8, some .long, [xR false [17], xFL, xI 0 0, xI 0 0], [([xR false [17], xFL, xI 0 0, xI 0 0], some (xFL))], [], (0, 0, 0, 0), none)
def xT234 : xTab := ([], [], [], [], [], [], [], [], [], [], [])
set_option maxRecDepth 100000 in
set_option maxHeartbeats 4000000 in
theorem xk234 : x_TOK vwCl x_G x_Zs x_Tb x_Nb xM234 xT234 := by
  intro p l e s m args below meth c D U hx hb hml hts hown hK hK0 hU hnm hN
  have X : x_cx p s m args c D U xM234.2.1 xM234.2.2.1 vwCl x_Tb x_Nb xM234.1.cls := ⟨hx, hb, hml, hown, hts, hK, hK0, hU, hN, x_Tb_good, x_Nb_ok⟩
  exact ⟨x_nilm, x_nilm, x_nilm, x_nilm, x_nilm, x_nilm, x_nilm, x_nilm, x_nilm, x_nilm, x_nilm⟩
set_option maxRecDepth 1000000 in
theorem xm234 : x_Met vwCl x_G x_Zs x_Tb x_Nb xM234 := x_main xT234 [(6, ([(0, xR false [17]), (1, xFL), (3, xI 0 0), (4, xI 0 0), (5, xFL), (7, xI 0 0)], [], []), (5, true), [], false, 0, [])] [] 2500 (by decide +kernel) (by decide +kernel) xk234 (by decide +kernel)
end
section
/-! EXACT CONTRACTS: what a method answers and does, over the typed heap; what it wants beyond its arguments' kinds (A), what holds behind it (P) -/
abbrev yA : Type := va_G → List Value → xY → Heap → Prop
abbrev yP : Type := va_G → List Value → xY → Heap → Option Value → xY → Heap → Prop
def y_Q (D : va_G) (G : List xG) (Zs : List xZ) (U : State) (M : xM) (P : yP) (av : List Value) (Y : xY) : Array Value → State → Outcome → State → Prop := fun _ st oc t =>
  ∃ (v : Option Value) (Y' : xY) (o : List xV × Option xV), oc = .returned v ∧ o ∈ x_outs M ∧ x_ret Y' o.2 v ∧ x_cs Y' o.1 av ∧ x_H D G Zs U Y' t.heap ∧ x_ext (x_rt M) av Y Y' st.heap.size ∧ x_E D G (x_efs M) Y st.heap t.heap ∧ va_F (fun q => (∃ u, Y q = some u) ∨ st.heap.size ≤ q) st t ∧ P D av Y st.heap v Y' t.heap
def y_Met (cl : List vw_C) (G : List xG) (Zs : List xZ) (Tb Nb : List Cond) (M : xM) (A : yA) (P : yP) : Prop := ∀ (l : Launch) (D : va_G) (U : State) (Y : xY) (sz : Nat) (av : List Value), va_K D cl [] U → x_cs Y (x_args M) av →
  Met l M.1 (.code M.1 M.2.1 M.2.2.1 M.2.2.2.1 :: Tb) (x_rm M) (va_Pc av (fun S => S.heap.size = sz ∧ U.vm.Alike S.vm ∧ x_H D G Zs U Y S.heap ∧ (∀ w ∈ Nb, va_Nw w S) ∧ A D av Y S.heap)) (y_Q D G Zs U M P av Y) (x_rm M).cells (x_rm M).slots (fun q => (∃ u, Y q = some u) ∨ sz ≤ q)
abbrev y_T : yA := fun _ _ _ _ => True
abbrev y_TP : yP := fun _ _ _ _ _ _ _ => True
section YC
variable {p : Program} {l : Launch} {e : Env} {R : Room} {s : State} {m : MethodId} {args : Array Value} {below : List Frame} {meth : Method} {c : Code} {Q : State → Prop}
variable {D : va_G} {G : List xG} {Zs : List xZ} {U : State} {ef : List (Nat × Nat)} {Y0 : xY} {H0 : Heap} {nL : Nat} {cc : ByteArray} {cl : List vw_C} {Tb Nb : List Cond} {own : String} {M : xM} {A : yA} {P : yP} {idx n : Nat}
theorem y_blind {av : List Value} {Y : xY} {sz : Nat} (hN : ∀ w ∈ Nb, x_Nk w = true) : FrameBlind (va_Pc av (fun S => S.heap.size = sz ∧ U.vm.Alike S.vm ∧ x_H D G Zs U Y S.heap ∧ (∀ w ∈ Nb, va_Nw w S) ∧ A D av Y S.heap)) := by
  intro a V g mk q
  obtain ⟨q0, q1, q2, q3, q4, q5⟩ := q
  exact ⟨q0, q1, q2, q3, fun w hw => x_Nk_same (u := V) (hN w hw) rfl (q4 w hw), q5⟩
theorem y_pre {av : List Value} {Y : xY} {H : Heap} (hN : ∀ w ∈ Nb, x_Nk w = true) (hNw : ∀ w ∈ Nb, va_Nw w s) (hU : U.vm.Alike s.vm) (hH : x_H D G Zs U Y H) (hA : A D av Y H) : ∀ V : State, V.heap = H → s.WarmedH V.vm → va_Pc av (fun S => S.heap.size = H.size ∧ U.vm.Alike S.vm ∧ x_H D G Zs U Y S.heap ∧ (∀ w ∈ Nb, va_Nw w S) ∧ A D av Y S.heap) av.toArray V :=
  fun V hV hW => ⟨rfl, by rw [hV], hU.trans hW.alike, by rw [hV]; exact hH, fun w hw => x_Nk_ok (hN w hw) hW (hNw w hw), by rw [hV]; exact hA⟩
variable (p l e R s m args below meth c D G Zs U nL cc) in
def y_cok (z : xCl) (A : yA) (P : yP) : Prop := ∀ (H : Heap) (locs : List Loc) (cells slots pc : Nat) (ls : Array Slot) (rest av : List Value) (Y : xY), decode cc pc = .ok (x_ins z.1 z.2.1, 3) → ls.size = nL → (rest.map fun v => v.category).sum ≤ 8 →
  cells + (x_rm z.2.2.2.2).cells ≤ R.cells → slots + (x_rm z.2.2.2.2).slots ≤ R.slots → x_H D G Zs U Y H → x_cs Y (x_args z.2.2.2.2) av → av.length = z.2.2.1 → (∀ t, z.2.2.2.1 = some t → ∃ b : Nat, av[0]? = some (.ref b) ∧ Y b = some t) → A D av Y H →
  va_Run p l e R s m args below meth c H locs cells slots (x_rm z.2.2.2.2).cells (x_rm z.2.2.2.2).slots (F0 m pc ls (av.reverse ++ rest)) rest (y_Q D G Zs U z.2.2.2.2 P av Y av.toArray) (fun q => (∃ u, Y q = some u) ∨ H.size ≤ q)
theorem y_cok.of {z : xCl} (h : x_cok p l e R s m args below meth c D G Zs U nL cc z) : y_cok p l e R s m args below meth c D G Zs U nL cc z y_T y_TP := by
  intro H locs cells slots pc ls rest av Y h1 h2 h3 h4 h5 h6 h7 h8 h9 _ T hT X
  obtain ⟨v, st₀, t, T', L, a1, a2, a3, a4, a5, ⟨v', Y', o, b1, b2, b3, b4, b5, b6, b7, b8⟩, a7⟩ := h H locs cells slots pc ls rest av Y h1 h2 h3 h4 h5 h6 h7 h8 h9 T hT X
  exact ⟨v, st₀, t, T', L, a1, a2, a3, a4, a5, ⟨v', Y', o, b1, b2, b3, b4, b5, b6, b7, b8, trivial⟩, a7⟩
theorem y_cok.x {z : xCl} (h : y_cok p l e R s m args below meth c D G Zs U nL cc z A P) (hA : ∀ (av : List Value) (Y : xY) (H : Heap), x_H D G Zs U Y H → x_cs Y (x_args z.2.2.2.2) av → A D av Y H) : x_cok p l e R s m args below meth c D G Zs U nL cc z := by
  intro H locs cells slots pc ls rest av Y h1 h2 h3 h4 h5 h6 h7 h8 h9 T hT X
  obtain ⟨v, st₀, t, T', L, a1, a2, a3, a4, a5, ⟨v', Y', o, b1, b2, b3, b4, b5, b6, b7, b8, -⟩, a7⟩ := h H locs cells slots pc ls rest av Y h1 h2 h3 h4 h5 h6 h7 h8 h9 (hA av Y H h6 h7) T hT X
  exact ⟨v, st₀, t, T', L, a1, a2, a3, a4, a5, ⟨v', Y', o, b1, b2, b3, b4, b5, b6, b7, b8⟩, a7⟩
theorem y_cokS (X : x_cx p s m args c D U cc nL cl Tb Nb own) (hM : y_Met cl G Zs Tb Nb M A P) (h : ∀ w ∈ [Cond.methodLink own idx M.1, .static M.1, .initialized M.1.cls], w ∈ Tb) (hc : Cond.code M.1 M.2.1 M.2.2.1 M.2.2.2.1 ∈ Tb)
    (hd : M.1.cls ≠ "java/lang/invoke/MethodHandle" ∧ M.1.cls ≠ "java/lang/invoke/VarHandle" ∧ (parseMethodDescriptor M.1.desc).map (fun d => d.parameters.length) = some n) (hR : (x_rm M).frames + 1 ≤ R.frames ∧ 8 + (M.2.2.1 + 11) + (x_rm M).locals ≤ R.locals) :
    y_cok p l e R s m args below meth c D G Zs U nL cc (1, idx, n, none, M) A P := by
  intro H locs cells slots pc ls rest av Y hdec hls hrest hcl hsl hH hcs hlen hrt hA
  obtain ⟨hx, hb, hml, hown, hts, hK, hK0, hU, hNw, hG, hN⟩ := X
  exact va_runS (As := av) (rest := rest) (Ts := Tb) ⟨hx, hb, hml, hown, hts⟩ (hM l D U Y H.size av hK0 hcs) (va_cwS n hts (x_good hG h hc) rfl rfl rfl hd hR) ⟨y_blind hN, y_pre hN hNw hU hH hA⟩ rfl hlen hls rfl (lv_room hrest) hdec ⟨hcl, hsl⟩
theorem y_cokV {t ci : Nat} {fts : List xV} {q : vw_C} (X : x_cx p s m args c D U cc nL cl Tb Nb own) (hM : y_Met cl G Zs Tb Nb M A P) (hg : G[t]? = some (.inl (ci, fts))) (hq : cl[ci]? = some q) (hC : M.1.cls = q.1)
    (h : ∀ w ∈ [Cond.methodLink own idx M.1, .instanceMethod M.1, .selects q.1 M.1 M.1, .initialized q.1], w ∈ Tb) (hc : Cond.code M.1 M.2.1 M.2.2.1 M.2.2.2.1 ∈ Tb)
    (hd : M.1.cls ≠ "java/lang/invoke/MethodHandle" ∧ M.1.cls ≠ "java/lang/invoke/VarHandle" ∧ (parseMethodDescriptor M.1.desc).map (fun d => d.parameters.length) = some n) (hR : (x_rm M).frames + 1 ≤ R.frames ∧ 8 + (M.2.2.1 + 11) + (x_rm M).locals ≤ R.locals) :
    y_cok p l e R s m args below meth c D G Zs U nL cc (0, idx, n + 1, some t, M) A P := by
  intro H locs cells slots pc ls rest av Y hdec hls hrest hcl hsl hH hcs hlen hrt hA
  obtain ⟨hx, hb, hml, hown, hts, hK, hK0, hU, hNw, hG, hN⟩ := X
  obtain ⟨b, hb0, hbY⟩ := hrt t rfl
  cases hav : av with
  | nil => rw [hav] at hb0; cases hb0
  | cons v As =>
    rw [hav] at hb0 hcs hlen hA
    have hv : v = .ref b := by simpa using hb0
    subst hv
    have hM1 := hM l D U Y H.size (.ref b :: As) hK0 hcs
    rw [List.reverse_cons, List.append_assoc]
    exact va_runV (As := As) (rest := rest) (Ts := Tb) (C := q.1) ⟨hx, hb, hml, hown, hts⟩ hM1 (cwV n hts (x_good hG h hc) rfl rfl rfl ⟨hC, hd⟩ hR) ⟨y_blind hN, x_recv hK hH hbY hg hq, y_pre hN hNw hU hH hA⟩ rfl (by simpa using hlen) hls rfl (lv_room hrest) hdec ⟨hcl, hsl⟩
/-- a call, and what holds behind it -/
theorem y_call {z : xCl} {Y : xY} {H : Heap} {locs : List Loc} {cells slots pc : Nat} {ls : Array Slot} {rest av : List Value} (hc : y_cok p l e R s m args below meth c D G Zs U nL cc z A P) (hY0 : ∀ q u, Y0 q = some u → q < H0.size) (hI : x_I D G Zs U ef Y0 H0 Y H locs) (hrt : x_rt z.2.2.2.2 = none) (hd : decode cc pc = .ok (x_ins z.1 z.2.1, 3)) (hls : ls.size = nL) (hrest : (rest.map fun v => v.category).sum ≤ 8)
    (hcl : cells + (x_rm z.2.2.2.2).cells ≤ R.cells) (hsl : slots + (x_rm z.2.2.2.2).slots ≤ R.slots) (hav : x_cs Y (x_args z.2.2.2.2) av) (hn : av.length = z.2.2.1) (hrv : ∀ t, z.2.2.2.1 = some t → ∃ b : Nat, av[0]? = some (.ref b) ∧ Y b = some t) (hA : A D av Y H) (hef : ∀ x ∈ x_efs z.2.2.2.2, x ∈ ef)
    (kk : ∀ (v : Option Value) (Y' : xY) (o : List xV × Option xV) (H' : Heap) (L : List Loc), o ∈ x_outs z.2.2.2.2 → x_ret Y' o.2 v → x_cs Y' o.1 av → x_I D G Zs U ef Y0 H0 Y' H' (locs ++ L) → (∀ q, q < H.size → Y' q = Y q) → x_E D G (x_efs z.2.2.2.2) Y H H' → P D av Y H v Y' H' →
      W p l e R s m args below meth c H' (locs ++ L) (cells + (x_rm z.2.2.2.2).cells) (slots + (x_rm z.2.2.2.2).slots) Q (F0 m (pc + 3) ls (v.toList ++ rest))) : W p l e R s m args below meth c H locs cells slots Q (F0 m pc ls (av.reverse ++ rest)) := by
  refine x_call_row (hc H locs cells slots pc ls rest av Y hd hls hrest hcl hsl hI.1 hav hn hrv hA) fun v st₀ t L h0 hL hq => ?_
  obtain ⟨v', Y', o, e0, ho, hret, hcs', hH', hext, hE', hF, hP⟩ := hq
  cases e0
  rw [h0] at hext hE' hF hP
  obtain ⟨hF1, hF2⟩ := hF
  rw [h0] at hF1
  unfold x_ext at hext
  rw [hrt] at hext
  dsimp only at hext
  have hYY : ∀ q u, Y0 q = some u → Y q = some u := fun q u hq => by rw [hI.2.1 q (hY0 q u hq)]; exact hq
  have hsz : H0.size ≤ H.size := hI.2.2.2.1
  have hB : ∀ q, q < H.size → ((∃ u, Y q = some u) ∨ H.size ≤ q) → (∃ u, Y0 q = some u) ∨ H0.size ≤ q := fun q hq hz => by
    rcases Nat.lt_or_ge q H0.size with k | k
    · rcases hz with ⟨u, hu⟩ | hz
      · exact Or.inl ⟨u, by rw [← hI.2.1 q k]; exact hu⟩
      · omega
    · exact Or.inr k
  refine kk v Y' o t.heap L ho hret hcs' ⟨hH', fun q hq => ?_, hI.2.2.1.trans hE' hYY hef, Nat.le_trans hsz hF1, fun q q1 q2 => ?_, fun q hq => ?_⟩ hext hE' hP
  · rw [hext q (Nat.lt_of_lt_of_le hq hsz)]; exact hI.2.1 q hq
  · have hqH : q < H.size := Nat.lt_of_lt_of_le q1 hsz
    rw [hF2 q (by rw [h0]; exact hqH) (fun z => q2 (hB q hqH z)), h0]
    exact hI.2.2.2.2.1 q q1 q2
  · rcases List.mem_append.mp hq with hq | hq
    · exact hI.2.2.2.2.2 q hq
    · rcases Nat.lt_or_ge q.base H.size with k | k
      · exact hB _ k (hL q hq)
      · exact Or.inr (Nat.le_trans hsz k)
end YC
/-! pictures: ints of an array, fields of an object -/
def y_at (b j : Nat) (H : Heap) : Option Value := (H[b]?).bind fun cell => cell.slots[j]?
def y_A (b N : Nat) (H : Heap) (f : Nat → Int32) : Prop := ∀ j, j < N → y_at b j H = some (.int (f j))
def y_up (f : Nat → Int32) (i : Nat) (v : Int32) : Nat → Int32 := fun j => if j = i then v else f j
theorem y_up_at {f : Nat → Int32} {i : Nat} {v : Int32} : y_up f i v i = v := if_pos rfl
theorem y_up_ne {f : Nat → Int32} {i j : Nat} {v : Int32} (h : j ≠ i) : y_up f i v j = f j := if_neg h
theorem y_A.kept {b N : Nat} {H H' : Heap} {f : Nat → Int32} (h : y_A b N H f) (hq : H'[b]? = H[b]?) : y_A b N H' f := fun j hj => by
  have := h j hj
  unfold y_at at this ⊢
  rw [hq]; exact this
theorem y_slk {D : va_G} {ci k b : Nat} {H H' : Heap} {v : Option Value} (h : x_sl D ci k b H = v) (hq : H'[b]? = H[b]?) : x_sl D ci k b H' = v := by
  unfold x_sl at h ⊢
  rw [hq]; exact h
theorem y_ne {Y : xY} {a b t u : Nat} (h1 : Y a = some t) (h2 : Y b = some u) (h : Nat.beq t u = false) : a ≠ b := by
  intro e0
  subst e0
  rw [h1] at h2
  cases h2
  rw [Nat.beq_refl] at h
  cases h
theorem y_Earr {D : va_G} {G : List xG} {ef : List (Nat × Nat)} {Y : xY} {H H' : Heap} {b t : Nat} {q : FieldType × Nat × List xV × xV} (hE : x_E D G ef Y H H') (hY : Y b = some t) (hg : G[t]? = some (.inr q)) (hn : (t, 0) ∉ ef) : H'[b]? = H[b]? := hE b t _ hY hg hn
theorem y_Efld {D : va_G} {G : List xG} {ef : List (Nat × Nat)} {Y : xY} {H H' : Heap} {b t ci k : Nat} {fts : List xV} {v : Option Value} (hE : x_E D G ef Y H H') (hY : Y b = some t) (hg : G[t]? = some (.inl (ci, fts))) (hk : k < fts.length) (hn : (t, k) ∉ ef) (h : x_sl D ci k b H = v) : x_sl D ci k b H' = v := (hE b t _ hY hg k hk hn).trans h
theorem y_add {x y : Int32} (h1 : -2147483648 ≤ x.toInt + y.toInt) (h2 : x.toInt + y.toInt ≤ 2147483647) : (x + y).toInt = x.toInt + y.toInt := by
  rw [Int32.toInt_add, x_bm h1 h2]
theorem y_sub {x y : Int32} (h1 : -2147483648 ≤ x.toInt - y.toInt) (h2 : x.toInt - y.toInt ≤ 2147483647) : (x - y).toInt = x.toInt - y.toInt := by
  rw [Int32.toInt_sub, x_bm h1 h2]
theorem y_mul {x y : Int32} (h1 : -2147483648 ≤ x.toInt * y.toInt) (h2 : x.toInt * y.toInt ≤ 2147483647) : (x * y).toInt = x.toInt * y.toInt := by
  rw [Int32.toInt_mul, x_bm h1 h2]
section YD
variable {p : Program} {l : Launch} {e : Env} {R : Room} {s : State} {m : MethodId} {args : Array Value} {below : List Frame} {meth : Method} {c : Code} {Q : State → Prop}
variable {D : va_G} {G : List xG} {Zs : List xZ} {U : State} {ef : List (Nat × Nat)} {Y0 Y : xY} {H0 H : Heap} {nL : Nat} {cc : ByteArray} {cl : List vw_C} {Tb Nb : List Cond} {own : String} {locs : List Loc} {cells slots pc : Nat} {ls : Array Slot} {rest : List Value}
theorem y_arr {b t N : Nat} {et : FieldType} {pre : List xV} {ft : xV} (hH : x_H D G Zs U Y H) (hY : Y b = some t) (hg : G[t]? = some (.inr (et, N, pre, ft))) (hi : (pre.all x_isI && x_isI ft) = true) : ∃ f : Nat → Int32, y_A b N H f ∧ ∀ j, j < N → x_c Y (pre.getD j ft) (.int (f j)) := by
  obtain ⟨g, h1, h2⟩ := hH.1 b _ hY
  cases h1.symm.trans hg
  obtain ⟨cell, q1, q2, q3, q4, q5, q6⟩ := h2
  have q4' : cell.slots.size = N := q4
  rw [Bool.and_eq_true] at hi
  have key : ∀ j, ∃ x : Int32, j < N → y_at b j H = some (.int x) ∧ x_c Y (pre.getD j ft) (.int x) := by
    intro j
    by_cases hj : j < N
    · have hs : cell.slots[j]? = some cell.slots[j] := Array.getElem?_eq_getElem (by rw [q4']; exact hj)
      have hc := q6 j _ hs
      have hI : x_isI (pre.getD j ft) = true := by
        rw [List.getD_eq_getElem?_getD]
        cases hq : pre[j]? with
        | none => exact hi.2
        | some w => exact List.all_eq_true.mp hi.1 w (List.mem_of_getElem? hq)
      obtain ⟨x, ex⟩ := x_isI_ok hI hc
      refine ⟨x, fun _ => ⟨?_, ?_⟩⟩
      · unfold y_at
        rw [q1]
        show cell.slots[j]? = _
        rw [hs, ex]
      · rw [← ex]; exact hc
    · exact ⟨0, fun h => absurd h hj⟩
  obtain ⟨f, hf⟩ := Classical.axiomOfChoice key
  exact ⟨f, fun j hj => (hf j hj).1, fun j hj => (hf j hj).2⟩
theorem y_fld {b t ci k : Nat} {fts : List xV} {ft : xV} (hH : x_H D G Zs U Y H) (hY : Y b = some t) (hg : G[t]? = some (.inl (ci, fts))) (hk : fts[k]? = some ft) : ∃ v, x_sl D ci k b H = some v ∧ x_c Y ft v := by
  obtain ⟨g, h1, h2⟩ := hH.1 b _ hY
  cases h1.symm.trans hg
  obtain ⟨V, ⟨cell, q1, q2, q3, q4⟩, hV⟩ := h2
  refine ⟨V k, ?_, hV _ _ hk⟩
  show (H[b]?).bind _ = _
  rw [q1]
  exact q4 _ (List.getElem?_eq_some_iff.mp hk).1
theorem y_fldR {b t ci k u : Nat} {fts : List xV} (hH : x_H D G Zs U Y H) (hY : Y b = some t) (hg : G[t]? = some (.inl (ci, fts))) (hk : fts[k]? = some (.inr (.inr (false, [u])))) : ∃ q : Nat, x_sl D ci k b H = some (.ref q) ∧ Y q = some u := by
  obtain ⟨v, h1, h2⟩ := y_fld hH hY hg hk
  obtain ⟨q, t', e0, ht, hq⟩ := x_ref_at h2 rfl
  rcases List.mem_cons.mp ht with e1 | e1
  · subst e1; subst e0
    exact ⟨q, h1, hq⟩
  · cases e1
theorem y_fldI {b t ci k : Nat} {fts : List xV} {lo hi : Int} (hH : x_H D G Zs U Y H) (hY : Y b = some t) (hg : G[t]? = some (.inl (ci, fts))) (hk : fts[k]? = some (.inl (lo, hi))) : ∃ x : Int32, x_sl D ci k b H = some (.int x) ∧ lo ≤ x.toInt ∧ x.toInt ≤ hi := by
  obtain ⟨v, h1, x, e0, h2⟩ := y_fld hH hY hg hk
  subst e0
  exact ⟨x, h1, h2⟩
theorem y_getf {b t k idx ci : Nat} {fts : List xV} {v : Value} (X : x_cx p s m args c D U cc nL cl Tb Nb own) (hf : x_fok cl G Tb s args own (idx, t, k)) (hH : x_H D G Zs U Y H) (hY : Y b = some t) (hg : G[t]? = some (.inl (ci, fts))) (hs : x_sl D ci k b H = some v) (hd : decode cc pc = .ok (.getfield idx, 3))
    (kk : W p l e R s m args below meth c H locs cells slots Q (F0 m (pc + 3) ls (v :: rest))) : W p l e R s m args below meth c H locs cells slots Q (F0 m pc ls (.ref b :: rest)) := by
  obtain ⟨hx, hb, hml, hown, hts, hK, hK0, hU, hNw, hG, hN⟩ := X
  refine x_get_row hx hb hts hown hK hf hH hY hd hg fun w hw hsl => ?_
  have : v = w := Option.some.inj (hs.symm.trans hsl)
  rw [← this]; exact kk
theorem y_putf {b t k idx ci : Nat} {fts : List xV} {ft : xV} {v : Value} (X : x_cx p s m args c D U cc nL cl Tb Nb own) (hp : x_pok cl G Tb s args own meth.name (idx, t, k)) (hY0 : ∀ q u, Y0 q = some u → q < H0.size) (hI : x_I D G Zs U ef Y0 H0 Y H locs) (hY : Y b = some t) (hg : G[t]? = some (.inl (ci, fts))) (hft : fts[k]? = some ft) (hv : x_c Y ft v) (he : (t, k) ∈ ef) (hd : decode cc pc = .ok (.putfield idx, 3))
    (kk : ∀ (H' : Heap) (sl : Nat), x_I D G Zs U ef Y0 H0 Y H' (locs ++ [⟨b, sl⟩]) → (∀ q, q ≠ b → H'[q]? = H[q]?) → x_sl D ci k b H' = some v → (∀ j w, j < fts.length → j ≠ k → x_sl D ci j b H = w → x_sl D ci j b H' = w) → W p l e R s m args below meth c H' (locs ++ [⟨b, sl⟩]) cells slots Q (F0 m (pc + 3) ls rest)) :
    W p l e R s m args below meth c H locs cells slots Q (F0 m pc ls (v :: .ref b :: rest)) := by
  obtain ⟨hx, hb, hml, hown, hts, hK, hK0, hU, hNw, hG, hN⟩ := X
  refine x_put_row hx hb hts hown hK hp hI.1 hY hd hg hft hv fun H' sl hz ho hH' hs1 hs2 => ?_
  refine kk H' sl (hI.put hY0 hY hH' hz ho fun g _ hg2 => ?_) ho hs1 (fun j w hj hn hw => (hs2 j hj hn).trans hw)
  cases hg.symm.trans hg2
  intro j hj hn
  exact hs2 j hj (fun e0 => hn (by rw [e0]; exact he))
theorem y_ald {ty : FieldType} {ins : Instr} {b t N : Nat} {pre : List xV} {ft : xV} {f : Nat → Int32} {i : Int32} (X : x_cx p s m args c D U cc nL cl Tb Nb own)
    (row : ∀ (cell : Cell) (v : Value), H[b]? = some cell → s.isArrayOf cell ty → cell.vm ≠ .unknown → ¬ (i < 0 ∨ cell.slots.size ≤ i.toNatClampNeg) → cell.slots[i.toNatClampNeg]? = some v → W p l e R s m args below meth c H locs cells slots Q (F0 m (pc + 1) ls (v :: rest)) → W p l e R s m args below meth c H locs cells slots Q (F0 m pc ls (.int i :: .ref b :: rest)))
    (hH : x_H D G Zs U Y H) (hY : Y b = some t) (hg : G[t]? = some (.inr (ty, N, pre, ft))) (hA : y_A b N H f) (h0 : 0 ≤ i.toInt) (h1 : i.toInt < (N : Int))
    (kk : W p l e R s m args below meth c H locs cells slots Q (F0 m (pc + 1) ls (.int (f i.toInt.toNat) :: rest))) : W p l e R s m args below meth c H locs cells slots Q (F0 m pc ls (.int i :: .ref b :: rest)) := by
  obtain ⟨hx, hb, hml, hown, hts, hK, hK0, hU, hNw, hG, hN⟩ := X
  obtain ⟨g, g1, g2⟩ := hH.1 b _ hY
  cases g1.symm.trans hg
  obtain ⟨cell, q1, q2, q3, q4, q5, q6⟩ := g2
  have q4' : cell.slots.size = N := q4
  have hix := x_idx (u := (i.toInt, i.toInt)) ⟨Int.le_refl _, Int.le_refl _⟩ h0 h1
  have hcl : i.toNatClampNeg = i.toInt.toNat := rfl
  have hv := hA i.toInt.toNat (by omega)
  unfold y_at at hv
  rw [q1] at hv
  exact row cell _ q1 (State.isArrayOf_alike hU q2) q3 (by rw [q4']; exact hix.1) (by rw [hcl]; exact hv) kk
theorem y_iald {b t N : Nat} {pre : List xV} {ft : xV} {f : Nat → Int32} {i : Int32} (X : x_cx p s m args c D U cc nL cl Tb Nb own) (hH : x_H D G Zs U Y H) (hY : Y b = some t) (hg : G[t]? = some (.inr (.int, N, pre, ft))) (hA : y_A b N H f) (h0 : 0 ≤ i.toInt) (h1 : i.toInt < (N : Int)) (hd : decode cc pc = .ok (.iaload, 1))
    (kk : W p l e R s m args below meth c H locs cells slots Q (F0 m (pc + 1) ls (.int (f i.toInt.toNat) :: rest))) : W p l e R s m args below meth c H locs cells slots Q (F0 m pc ls (.int i :: .ref b :: rest)) :=
  y_ald (ins := .iaload) X (fun cell v a1 a2 a3 a4 a5 k => W.iald X.1 X.2.1 a1 a2 a3 a4 a5 rfl rfl hd k) hH hY hg hA h0 h1 kk
theorem y_zald {b t N : Nat} {pre : List xV} {ft : xV} {f : Nat → Int32} {i : Int32} (X : x_cx p s m args c D U cc nL cl Tb Nb own) (hH : x_H D G Zs U Y H) (hY : Y b = some t) (hg : G[t]? = some (.inr (.boolean, N, pre, ft))) (hA : y_A b N H f) (h0 : 0 ≤ i.toInt) (h1 : i.toInt < (N : Int)) (hd : decode cc pc = .ok (.baload, 1))
    (kk : W p l e R s m args below meth c H locs cells slots Q (F0 m (pc + 1) ls (.int (f i.toInt.toNat) :: rest))) : W p l e R s m args below meth c H locs cells slots Q (F0 m pc ls (.int i :: .ref b :: rest)) :=
  y_ald (ins := .baload) X (fun cell v a1 a2 a3 a4 a5 k => W.zald X.1 X.2.1 a1 a2 a3 a4 a5 rfl rfl hd k) hH hY hg hA h0 h1 kk
theorem y_stored {H' : Heap} {b t N j : Nat} {et : FieldType} {pre : List xV} {ft : xV} {f : Nat → Int32} {v : Int32} {cell : Cell} (hY0 : ∀ q u, Y0 q = some u → q < H0.size) (hI : x_I D G Zs U ef Y0 H0 Y H locs) (hY : Y b = some t) (hg : G[t]? = some (.inr (et, N, pre, ft))) (hA : y_A b N H f) (hj : j < N) (hv : x_c Y (pre.getD j ft) (.int v)) (he : (t, 0) ∈ ef)
    (q1 : H[b]? = some cell) (q2 : U.isArrayOf cell et) (q3 : cell.vm ≠ .unknown) (q4 : cell.slots.size = N) (q5 : et.isReference = true → va_RA U cell.cls et) (q6 : ∀ (j : Nat) (v : Value), cell.slots[j]? = some v → x_c Y (pre.getD j ft) v)
    (e1 : H'[b]? = some (cell.setSlot j (.int v))) (e2 : H'.size = H.size) (e3 : ∀ q, q ≠ b → H'[q]? = H[q]?) : x_I D G Zs U ef Y0 H0 Y H' (locs ++ [⟨b, j⟩]) ∧ y_A b N H' (y_up f j v) := by
  have hH' : x_H D G Zs U Y H' := by
    refine hI.1.put hY e3 hg ⟨_, e1, ⟨q2.1, q2.2⟩, q3, by show (cell.setSlot _ _).slots.size = N; rw [← q4]; simp [Cell.setSlot], q5, fun j' w hj' => ?_⟩
    by_cases ej : j' = j
    · subst ej
      rw [Cell.slots_setSlot_self _ (by rw [q4]; exact hj)] at hj'
      cases hj'
      exact hv
    · rw [Cell.slots_setSlot_ne _ (Ne.symm ej)] at hj'
      exact q6 j' w hj'
  refine ⟨hI.put hY0 hY hH' e2 e3 (fun g hy0 hg2 => ?_), fun j' hj' => ?_⟩
  · cases hg.symm.trans hg2
    exact fun hn => absurd he hn
  · have h9 := hA j' hj'
    unfold y_at at h9 ⊢
    rw [q1] at h9
    rw [e1]
    show (cell.setSlot j (.int v)).slots[j']? = _
    by_cases ej : j' = j
    · subst ej
      rw [Cell.slots_setSlot_self _ (by rw [q4]; exact hj), y_up_at]
    · rw [Cell.slots_setSlot_ne _ (Ne.symm ej), y_up_ne ej]
      exact h9
theorem y_iast {b t N : Nat} {pre : List xV} {ft : xV} {f : Nat → Int32} {i v : Int32} (X : x_cx p s m args c D U cc nL cl Tb Nb own) (hY0 : ∀ q u, Y0 q = some u → q < H0.size) (hI : x_I D G Zs U ef Y0 H0 Y H locs) (hY : Y b = some t) (hg : G[t]? = some (.inr (.int, N, pre, ft))) (hA : y_A b N H f) (h0 : 0 ≤ i.toInt) (h1 : i.toInt < (N : Int)) (hv : x_c Y (pre.getD i.toInt.toNat ft) (.int v)) (he : (t, 0) ∈ ef) (hd : decode cc pc = .ok (.iastore, 1))
    (kk : ∀ (H' : Heap) (L : List Loc), x_I D G Zs U ef Y0 H0 Y H' L → y_A b N H' (y_up f i.toInt.toNat v) → (∀ q, q ≠ b → H'[q]? = H[q]?) → W p l e R s m args below meth c H' L cells slots Q (F0 m (pc + 1) ls rest)) : W p l e R s m args below meth c H locs cells slots Q (F0 m pc ls (.int v :: .int i :: .ref b :: rest)) := by
  obtain ⟨hx, hb, hml, hown, hts, hK, hK0, hU, hNw, hG, hN⟩ := X
  obtain ⟨g, g1, g2⟩ := hI.1.1 b _ hY
  cases g1.symm.trans hg
  obtain ⟨cell, q1, q2, q3, q4, q5, q6⟩ := g2
  have q4' : cell.slots.size = N := q4
  have hix := x_idx (u := (i.toInt, i.toInt)) ⟨Int.le_refl _, Int.le_refl _⟩ h0 h1
  refine W.iast hx hb q1 (State.isArrayOf_alike hU q2) q3 (by rw [q4']; exact hix.1) rfl rfl hd fun H' e1 e2 e3 => ?_
  obtain ⟨a1, a2⟩ := y_stored (j := i.toInt.toNat) hY0 hI hY hg hA (by omega) hv he q1 q2 q3 q4 q5 q6 e1 e2 e3
  exact kk H' _ a1 a2 e3
theorem y_zast {b t N : Nat} {pre : List xV} {ft : xV} {f : Nat → Int32} {i v : Int32} (X : x_cx p s m args c D U cc nL cl Tb Nb own) (hY0 : ∀ q u, Y0 q = some u → q < H0.size) (hI : x_I D G Zs U ef Y0 H0 Y H locs) (hY : Y b = some t) (hg : G[t]? = some (.inr (.boolean, N, pre, ft))) (hA : y_A b N H f) (h0 : 0 ≤ i.toInt) (h1 : i.toInt < (N : Int)) (hv1 : v = 0 ∨ v = 1) (hv : x_c Y (pre.getD i.toInt.toNat ft) (.int v)) (he : (t, 0) ∈ ef) (hd : decode cc pc = .ok (.bastore, 1))
    (kk : ∀ (H' : Heap) (L : List Loc), x_I D G Zs U ef Y0 H0 Y H' L → y_A b N H' (y_up f i.toInt.toNat v) → (∀ q, q ≠ b → H'[q]? = H[q]?) → W p l e R s m args below meth c H' L cells slots Q (F0 m (pc + 1) ls rest)) : W p l e R s m args below meth c H locs cells slots Q (F0 m pc ls (.int v :: .int i :: .ref b :: rest)) := by
  obtain ⟨hx, hb, hml, hown, hts, hK, hK0, hU, hNw, hG, hN⟩ := X
  obtain ⟨g, g1, g2⟩ := hI.1.1 b _ hY
  cases g1.symm.trans hg
  obtain ⟨cell, q1, q2, q3, q4, q5, q6⟩ := g2
  have q4' : cell.slots.size = N := q4
  have hix := x_idx (u := (i.toInt, i.toInt)) ⟨Int.le_refl _, Int.le_refl _⟩ h0 h1
  refine W.zast hx hb q1 (State.isArrayOf_alike hU q2) q3 (by rw [q4']; exact hix.1) rfl rfl hd fun H' e1 e2 e3 => ?_
  have hnv : narrow .boolean (.int v) = .int v := by rcases hv1 with q | q <;> subst q <;> rfl
  rw [hnv] at e1
  obtain ⟨a1, a2⟩ := y_stored (j := i.toInt.toNat) hY0 hI hY hg hA (by omega) hv he q1 q2 q3 q4 q5 q6 e1 e2 e3
  exact kk H' _ a1 a2 e3
end YD
/-! a method's body, whole -/
def y_B (cl : List vw_C) (Tb Nb : List Cond) (M : xM) (p : Program) (s : State) (m : MethodId) (meth : Method) (c : Code) (D : va_G) (U : State) (Y : xY) (av : List Value) : Prop := x_cx p s m av.toArray c D U M.2.1 M.2.2.1 cl Tb Nb M.1.cls ∧ meth.sig.returnType = M.2.2.2.1 ∧ meth.locks = false ∧ meth.name = M.1.name ∧ (∀ q u, Y q = some u → q < s.heap.size) ∧ x_cs Y (x_args M) av
abbrev y_QQ (below : List Frame) (D : va_G) (G : List xG) (Zs : List xZ) (U : State) (M : xM) (P : yP) (av : List Value) (Y : xY) (s : State) : State → Prop := MQ below (y_Q D G Zs U M P av Y) av.toArray s (x_rm M).cells (x_rm M).slots (fun q => (∃ u, Y q = some u) ∨ s.heap.size ≤ q)
theorem y_main {cl : List vw_C} {G : List xG} {Zs : List xZ} {Tb Nb : List Cond} {M : xM} {A : yA} {P : yP} (hy : plainName M.1.cls = true) (hl : ((x_args M).map (fun t => if x_isL t then 2 else 1)).sum ≤ M.2.2.1) (hG : ∀ w ∈ Tb, goodWord w = true) (hNk : ∀ w ∈ Nb, x_Nk w = true)
    (body : ∀ (p : Program) (l : Launch) (e : Env) (s : State) (m : MethodId) (below : List Frame) (meth : Method) (c : Code) (D : va_G) (U : State) (Y : xY) (av : List Value) (ls : Array Slot), y_B cl Tb Nb M p s m meth c D U Y av → x_I D G Zs U (x_efs M) Y s.heap Y s.heap [] → A D av Y s.heap → lv_has ls M.2.2.1 (lv_args 0 av) →
      W p l e (x_rm M) s m av.toArray below meth c s.heap [] 0 0 (y_QQ below D G Zs U M P av Y s) (F0 m 0 ls [])) : y_Met cl G Zs Tb Nb M A P := by
  intro l D U Y sz av hK0 hav
  refine Met.ofW (cc := M.2.1) (maxL := M.2.2.1) (ret := M.2.2.2.1) hy rfl ?_
  intro p e s m args below meth c s₁ B hml hv
  obtain ⟨rfl, rfl, hU, hH, hN, hA⟩ := hv
  have hts0 := atoms_spec B.pre
  have hts : ∀ w ∈ Tb, w.before av.toArray s = true := fun w hw => hts0 w (List.mem_cons_of_mem _ hw)
  have hown : s.vm.findClass M.1.cls = some m.cls := findClass_of_methodNamed B.named
  have hnm : meth.name = M.1.name := (name_of_methodNamed B.named B.method).1
  have hK : va_K D cl [] s := va_K.moved hU hK0
  have hY0 : ∀ q u, Y q = some u → q < s.heap.size := fun q u hq => hH.lt hq
  have hlen : (lg_sl av).length ≤ M.2.2.1 := by rw [x_sl_len _ _ _ hav]; exact hl
  have hlv := lv_entry av (n := M.2.2.1) hlen
  rw [lg_entry_eq]
  exact body p l e s m below meth c D U Y av _ ⟨⟨B.exec, B.bytes, hml, hown, hts, hK, hK0, hU, hN, hG, hNk⟩, B.returns, B.notSynchronized, hnm, hY0, hav⟩ ⟨hH, fun q _ => rfl, x_E.rf, va_S.rf⟩ hA hlv
section YR
variable {p : Program} {l : Launch} {e : Env} {R : Room} {s : State} {m : MethodId} {below : List Frame} {meth : Method} {c : Code} {D : va_G} {G : List xG} {Zs : List xZ} {U : State} {Y Y' : xY} {H : Heap} {cl : List vw_C} {Tb Nb : List Cond} {M : xM} {P : yP} {av : List Value} {locs : List Loc} {cells slots pc : Nat} {ls : Array Slot}
theorem y_end (B : y_B cl Tb Nb M p s m meth c D U Y av) (hI : x_I D G Zs U (x_efs M) Y s.heap Y' H locs) (hrt : x_rt M = none) {v : Option Value} {o : List xV × Option xV} (ho : o ∈ x_outs M) (hr : x_ret Y' o.2 v) (ha : x_cs Y' o.1 av) (hP : P D av Y s.heap v Y' H) (t : State) (ht : t.heap = H) : y_Q D G Zs U M P av Y av.toArray s (.returned v) t :=
  ⟨v, Y', o, rfl, ho, hr, ha, by rw [ht]; exact hI.1, by rw [hrt]; exact hI.2.1, by rw [ht]; exact hI.2.2.1, ⟨by rw [ht]; exact hI.2.2.2.1, fun q q1 q2 => by rw [ht]; exact hI.2.2.2.2.1 q q1 q2⟩, by rw [ht]; exact hP⟩
theorem y_mon (B : y_B cl Tb Nb M p s m meth c D U Y av) (hI : x_I D G Zs U (x_efs M) Y s.heap Y' H locs) : ∀ q u, Y q = some u → Y' q = some u := fun q u hq => by rw [hI.2.1 q (B.2.2.2.2.1 q u hq)]; exact hq
theorem y_ireturn {v : Int32} {ty : FieldType} {o : List xV × Option xV} (B : y_B cl Tb Nb M p s m meth c D U Y av) (hI : x_I D G Zs U (x_efs M) Y s.heap Y' H locs) (hrt : x_rt M = none) (hty : M.2.2.2.1 = some ty) (hn : narrow ty (.int v) = .int v) (ho : o ∈ x_outs M) (hr : x_ret Y' o.2 (some (.int v))) (ha : x_cs Y' o.1 av) (hP : P D av Y s.heap (some (.int v)) Y' H) (hc : cells ≤ (x_rm M).cells) (hs : slots ≤ (x_rm M).slots)
    (hd : decode M.2.1 pc = .ok (.ireturn, 1)) : W p l e R s m av.toArray below meth c H locs cells slots (y_QQ below D G Zs U M P av Y s) (F0 m pc ls [.int v]) := by
  have hB := B
  obtain ⟨X, hrt0, hlk, -⟩ := B
  rw [hty] at hrt0
  exact W.widen hc hs (W.zret X.1 X.2.1 hrt0 hn (fun t ht _ => y_end hB hI hrt ho hr ha hP t ht) hI.2.2.2.2.2 hd hlk)
theorem y_lreturn {v : Int64} {o : List xV × Option xV} (B : y_B cl Tb Nb M p s m meth c D U Y av) (hI : x_I D G Zs U (x_efs M) Y s.heap Y' H locs) (hrt : x_rt M = none) (hty : M.2.2.2.1 = some .long) (ho : o ∈ x_outs M) (hr : x_ret Y' o.2 (some (.long v))) (ha : x_cs Y' o.1 av) (hP : P D av Y s.heap (some (.long v)) Y' H) (hc : cells ≤ (x_rm M).cells) (hs : slots ≤ (x_rm M).slots)
    (hd : decode M.2.1 pc = .ok (.lreturn, 1)) : W p l e R s m av.toArray below meth c H locs cells slots (y_QQ below D G Zs U M P av Y s) (F0 m pc ls [.long v]) := by
  have hB := B
  obtain ⟨X, hrt0, hlk, -⟩ := B
  rw [hty] at hrt0
  exact W.widen hc hs (W.lret X.1 X.2.1 hrt0 (fun t ht _ => y_end hB hI hrt ho hr ha hP t ht) hI.2.2.2.2.2 hd hlk)
theorem y_return {o : List xV × Option xV} (B : y_B cl Tb Nb M p s m meth c D U Y av) (hI : x_I D G Zs U (x_efs M) Y s.heap Y' H locs) (hrt : x_rt M = none) (hty : M.2.2.2.1 = none) (ho : o ∈ x_outs M) (hr : x_ret Y' o.2 none) (ha : x_cs Y' o.1 av) (hP : P D av Y s.heap none Y' H) (hc : cells ≤ (x_rm M).cells) (hs : slots ≤ (x_rm M).slots)
    (hd : decode M.2.1 pc = .ok (.return_, 1)) : W p l e R s m av.toArray below meth c H locs cells slots (y_QQ below D G Zs U M P av Y s) (F0 m pc ls []) := by
  have hB := B
  obtain ⟨X, hrt0, hlk, -⟩ := B
  rw [hty] at hrt0
  exact W.widen hc hs (W.vret X.1 X.2.1 hrt0 (fun t ht _ => y_end hB hI hrt ho hr ha hP t ht) hI.2.2.2.2.2 hd hlk)
end YR
end
section
theorem y_inc {x : Int32} {n : Int} (hn : (Int32.ofInt n).toInt = n) (h1 : -2147483648 ≤ x.toInt + n) (h2 : x.toInt + n ≤ 2147483647) : (x + Int32.ofInt n).toInt = x.toInt + n := by
  rw [y_add (by rw [hn]; exact h1) (by rw [hn]; exact h2), hn]
theorem y_01 {v : Int32} (h0 : 0 ≤ v.toInt) (h1 : v.toInt ≤ 1) : v = 0 ∨ v = 1 := by
  have z0 : (0 : Int32).toInt = 0 := by decide
  have z1 : (1 : Int32).toInt = 1 := by decide
  rcases (by omega : v.toInt = 0 ∨ v.toInt = 1) with q | q
  · exact Or.inl (Int32.toInt_inj.mp (by omega))
  · exact Or.inr (Int32.toInt_inj.mp (by omega))
theorem y_upb {f : Nat → Int32} {i N : Nat} {v : Int32} {lo hi : Int} (h : ∀ j, j < N → lo ≤ (f j).toInt ∧ (f j).toInt ≤ hi) (hv : lo ≤ v.toInt ∧ v.toInt ≤ hi) : ∀ j, j < N → lo ≤ (y_up f i v j).toInt ∧ (y_up f i v j).toInt ≤ hi := by
  intro j hj
  by_cases e0 : j = i
  · rw [e0, y_up_at]; exact hv
  · rw [y_up_ne e0]; exact h j hj
theorem y_nil {Y : xY} : x_cs Y [] [] := ⟨rfl, fun k t v h _ => by cases h⟩
theorem y_cons {Y : xY} {t : xV} {v : Value} {ts : List xV} {vs : List Value} (h : x_c Y t v) (hs : x_cs Y ts vs) : x_cs Y (t :: ts) (v :: vs) := by
  refine ⟨by have := hs.1; simp [this], fun k t' v' h1 h2 => ?_⟩
  cases k with
  | zero => cases h1; cases h2; exact h
  | succ k => exact hs.2 k t' v' (by simpa using h1) (by simpa using h2)
theorem y_cref {Y : xY} {b t : Nat} {ts : List Nat} (h : Y b = some t) (hm : ts.any (fun u => Nat.beq t u) = true) : x_c Y (.inr (.inr (false, ts))) (.ref b) := by
  obtain ⟨u, h1, h2⟩ := List.any_eq_true.mp hm
  have := Nat.eq_of_beq_eq_true h2
  subst this
  exact Or.inr ⟨b, t, rfl, h1, h⟩
theorem y_recv {Y : xY} {b t : Nat} {vs : List Value} {o : Option Nat} (ho : o = some t) (h : Y b = some t) : ∀ u, o = some u → ∃ b' : Nat, (.ref b :: vs : List Value)[0]? = some (.ref b') ∧ Y b' = some u := fun u hu => by
  rw [ho] at hu; cases hu; exact ⟨b, rfl, h⟩
theorem y_norecv {Y : xY} {vs : List Value} {o : Option Nat} (ho : o = none) : ∀ u, o = some u → ∃ b' : Nat, vs[0]? = some (.ref b') ∧ Y b' = some u := fun u hu => by
  rw [ho] at hu; cases hu
theorem y_ansI {Y : xY} {outs : List (List xV × Option xV)} {o : List xV × Option xV} {v : Option Value} {lo hi : Int} (h : outs.all (fun o => match o.2 with
    | some t => x_le t (.inl (lo, hi))
    | none => false) = true) (ho : o ∈ outs) (hr : x_ret Y o.2 v) : ∃ x : Int32, v = some (.int x) ∧ lo ≤ x.toInt ∧ x.toInt ≤ hi := by
  have h1 := List.all_eq_true.mp h o ho
  split at h1
  · next t ht =>
    rw [ht] at hr
    obtain ⟨w, e1, e2⟩ := hr
    obtain ⟨x, e3, e4⟩ := x_le_ok h1 e2
    exact ⟨x, by rw [e1, e3], e4⟩
  · cases h1
theorem y_ansV {Y : xY} {outs : List (List xV × Option xV)} {o : List xV × Option xV} {v : Option Value} (h : outs.all (fun o => o.2.isNone) = true) (ho : o ∈ outs) (hr : x_ret Y o.2 v) : v = none := by
  have h1 := List.all_eq_true.mp h o ho
  rw [Option.isNone_iff_eq_none.mp h1] at hr
  exact hr
theorem y_sub_ef {l1 l2 : List (Nat × Nat)} (h : l1.all (fun x => l2.any (fun y => Nat.beq x.1 y.1 && Nat.beq x.2 y.2)) = true) : ∀ x ∈ l1, x ∈ l2 := by
  intro x hx
  obtain ⟨y, h1, h2⟩ := List.any_eq_true.mp (List.all_eq_true.mp h x hx)
  rw [Bool.and_eq_true] at h2
  have : x = y := Prod.ext (Nat.eq_of_beq_eq_true h2.1) (Nat.eq_of_beq_eq_true h2.2)
  rw [this]; exact h1
theorem y_ext {Y Y' : xY} {H : Heap} {D : va_G} {G : List xG} {Zs : List xZ} {U : State} {b t : Nat} (hx : ∀ q, q < H.size → Y' q = Y q) (hH : x_H D G Zs U Y H) (h : Y b = some t) : Y' b = some t := by
  rw [hx b (hH.lt h)]; exact h
end
section
theorem y_three {Y : xY} {t u w : xV} {av : List Value} (h : x_cs Y [t, u, w] av) : ∃ a b c, av = [a, b, c] ∧ x_c Y t a ∧ x_c Y u b ∧ x_c Y w c := by
  obtain ⟨h1, h2⟩ := h
  match av, h1 with
  | [a, b, c], _ => exact ⟨a, b, c, rfl, h2 0 t a rfl rfl, h2 1 u b rfl rfl, h2 2 w c rfl rfl⟩
theorem fw205 {s : State} {args : Array Value} {mn : String} (hts : ∀ w ∈ x_Tb, w.before args s = true) : x_pok vwCl x_G x_Tb s args "TwinFires$Rows" mn (27, 8, 1) := ⟨5, _, RX5, TX5, "TwinFires$Rows", tyX5, _, rfl, rfl, Nat.le_of_ble_eq_true rfl, iX5, (hts _ (x_at 309 (by decide +kernel) rfl)), fun x h => h, tyX5_ok, nmX5, rfl, x_fitI _ _, Or.inl rfl⟩
def xMga : xM := (⟨"TwinFires$Rows", "gather", "(LTwinFires$Eyes;I)V"⟩, prog_7_method_2_code, 5, none, [xR false [8], xR false [6], xI 0 10], [([xR false [8], xR false [6], xI 0 10], none)], [(8, 1), (35, 0)], (2, 43, 0, 0), none)
theorem ga_d0 : decode xMga.2.1 0 = .ok (.aload_n 0, 1) := by decide +kernel
theorem ga_d1 : decode xMga.2.1 1 = .ok (.iconst 0, 1) := by decide +kernel
theorem ga_d2 : decode xMga.2.1 2 = .ok (.putfield 27, 3) := by decide +kernel
theorem ga_d5 : decode xMga.2.1 5 = .ok (.iconst 1, 1) := by decide +kernel
theorem ga_d6 : decode xMga.2.1 6 = .ok (.iload_n 2, 1) := by decide +kernel
theorem ga_d7 : decode xMga.2.1 7 = .ok (.ishl, 1) := by decide +kernel
theorem ga_d8 : decode xMga.2.1 8 = .ok (.istore_n 3, 1) := by decide +kernel
theorem ga_d9 : decode xMga.2.1 9 = .ok (.iconst 0, 1) := by decide +kernel
theorem ga_d10 : decode xMga.2.1 10 = .ok (.istore 4, 2) := by decide +kernel
theorem ga_d12 : decode xMga.2.1 12 = .ok (.iload 4, 2) := by decide +kernel
theorem ga_d14 : decode xMga.2.1 14 = .ok (.iload_n 3, 1) := by decide +kernel
theorem ga_d15 : decode xMga.2.1 15 = .ok (.if_icmp .ge 48, 3) := by decide +kernel
theorem ga_d18 : decode xMga.2.1 18 = .ok (.iload 4, 2) := by decide +kernel
theorem ga_d20 : decode xMga.2.1 20 = .ok (.sipush 1024, 3) := by decide +kernel
theorem ga_d23 : decode xMga.2.1 23 = .ok (.if_icmp .ge 40, 3) := by decide +kernel
theorem ga_d26 : decode xMga.2.1 26 = .ok (.aload_n 1, 1) := by decide +kernel
theorem ga_d27 : decode xMga.2.1 27 = .ok (.iload 4, 2) := by decide +kernel
theorem ga_d29 : decode xMga.2.1 29 = .ok (.invokevirtual 31, 3) := by decide +kernel
theorem ga_d32 : decode xMga.2.1 32 = .ok (.iconst (-1), 1) := by decide +kernel
theorem ga_d33 : decode xMga.2.1 33 = .ok (.if_icmp .ne 24, 3) := by decide +kernel
theorem ga_d36 : decode xMga.2.1 36 = .ok (.aload_n 0, 1) := by decide +kernel
theorem ga_d37 : decode xMga.2.1 37 = .ok (.getfield 9, 3) := by decide +kernel
theorem ga_d40 : decode xMga.2.1 40 = .ok (.aload_n 0, 1) := by decide +kernel
theorem ga_d41 : decode xMga.2.1 41 = .ok (.getfield 27, 3) := by decide +kernel
theorem ga_d44 : decode xMga.2.1 44 = .ok (.iload 4, 2) := by decide +kernel
theorem ga_d46 : decode xMga.2.1 46 = .ok (.iastore, 1) := by decide +kernel
theorem ga_d47 : decode xMga.2.1 47 = .ok (.aload_n 0, 1) := by decide +kernel
theorem ga_d48 : decode xMga.2.1 48 = .ok (.dup, 1) := by decide +kernel
theorem ga_d49 : decode xMga.2.1 49 = .ok (.getfield 27, 3) := by decide +kernel
theorem ga_d52 : decode xMga.2.1 52 = .ok (.iconst 1, 1) := by decide +kernel
theorem ga_d53 : decode xMga.2.1 53 = .ok (.iadd, 1) := by decide +kernel
theorem ga_d54 : decode xMga.2.1 54 = .ok (.putfield 27, 3) := by decide +kernel
theorem ga_d57 : decode xMga.2.1 57 = .ok (.iinc 4 1, 3) := by decide +kernel
theorem ga_d60 : decode xMga.2.1 60 = .ok (.goto (-48), 3) := by decide +kernel
theorem ga_d63 : decode xMga.2.1 63 = .ok (.return_, 1) := by decide +kernel
theorem ga_loop {p : Program} {l : Launch} {e : Env} {s : State} {m : MethodId} {below : List Frame} {meth : Method} {c : Code} {D : va_G} {U : State} {Y0 : xY} {av : List Value} (B : y_B vwCl x_Tb x_Nb xMga p s m meth c D U Y0 av) {this eyes : Nat} {hills all : Int32} : ∀ (j : Nat) (H : Heap) (Y : xY) (locs : List Loc) (ls : Array Slot) (set fd : Int32), x_I D x_G x_Zs U (x_efs xMga) Y0 s.heap Y H locs → Y this = some 8 → Y eyes = some 6 → lv_has ls xMga.2.2.1 [(4, .int set), (3, .int all), (0, .ref this), (1, .ref eyes), (2, .int hills)] → x_sl D 5 1 this H = some (.int fd) →
    0 ≤ fd.toInt → fd.toInt ≤ set.toInt → 0 ≤ set.toInt → set.toInt ≤ 1024 → (1024 - set.toInt).toNat < j → W p l e (x_rm xMga) s m av.toArray below meth c H locs 0 0 (y_QQ below D x_G x_Zs U xMga y_TP av Y0 s) (F0 m 12 ls []) := by
  have X := B.1
  have hx := X.1
  have hb := X.2.1
  have hY0 := B.2.2.2.2.1
  intro j
  induction j with
  | zero => intro H Y locs ls set fd hI hY_this hY_eyes hl hF h1 h2 h3 h4 h5; exact absurd h5 (Nat.not_lt_zero _)
  | succ j ih =>
    intro H Y locs ls set fd hI hY_this hY_eyes hl hF h1 h2 h3 h4 h5
    refine lv_iload hx hb ga_d12 (lv_at hl 0 rfl) ?_
    refine lv_iload_n hx hb ga_d14 rfl (lv_at hl 1 rfl) ?_
    refine lv_icmp_ge hx hb ga_d15 (tgt := 63) (by decide) (fun q1 => ?_) (fun q1 => ?_)
    · have q1_ : all.toInt ≤ set.toInt := x_le32.mp q1
      exact y_return B hI rfl rfl List.mem_cons_self rfl (x_cs.mono B.2.2.2.2.2 (y_mon B hI)) trivial (Nat.le_refl _) (Nat.le_refl _) ga_d63
    · have q1_ : set.toInt < all.toInt := Int.not_le.mp fun q => q1 (x_le32.mpr q)
      refine lv_iload hx hb ga_d18 (lv_at hl 0 rfl) ?_
      refine lv_sipush hx hb ga_d20 (v := 1024) (by decide) ?_
      have ec1024 : (1024 : Int32).toInt = 1024 := by decide
      refine lv_icmp_ge hx hb ga_d23 (tgt := 63) (by decide) (fun q2 => ?_) (fun q2 => ?_)
      · have q2_ : (1024 : Int32).toInt ≤ set.toInt := x_le32.mp q2
        exact y_return B hI rfl rfl List.mem_cons_self rfl (x_cs.mono B.2.2.2.2.2 (y_mon B hI)) trivial (Nat.le_refl _) (Nat.le_refl _) ga_d63
      · have q2_ : set.toInt < (1024 : Int32).toInt := Int.not_le.mp fun q => q2 (x_le32.mpr q)
        refine lv_aload_n hx hb ga_d26 rfl (lv_at hl 3 rfl) ?_
        refine lv_iload hx hb ga_d27 (lv_at hl 0 rfl) ?_
        refine y_call (z := (0, 31, 2, some 6, xM72)) (av := [.ref eyes, .int set]) (rest := []) (y_cok.of (x_cokV (n := 1) (ci := 0) X xm72 rfl rfl rfl (x_cons (x_at 772 (by decide +kernel) rfl) (x_cons (x_at 747 (by decide +kernel) rfl) (x_cons (x_at 748 (by decide +kernel) rfl) (x_cons (x_at 70 (by decide +kernel) rfl) x_nilm)))) (x_at 749 (by decide +kernel) rfl) (by decide +kernel) ⟨Nat.le_of_ble_eq_true rfl, Nat.le_of_ble_eq_true rfl⟩)) hY0 hI rfl ga_d29 hl.1 (by decide) (Nat.le_of_ble_eq_true rfl) (Nat.le_of_ble_eq_true rfl) (y_cons (y_cref hY_eyes rfl) (y_cons ⟨_, rfl, x_i32 _⟩ y_nil)) rfl (y_recv rfl hY_eyes) trivial (y_sub_ef rfl) fun v Yn o Hn L ho hr ha hIn hx_ hE hP => ?_
        replace hF := y_Efld hE hY_this rfl (by decide) (by decide) hF
        replace hY_this := y_ext hx_ hI.1 hY_this
        replace hY_eyes := y_ext hx_ hI.1 hY_eyes
        obtain ⟨r3, rfl, h_r3⟩ := y_ansI (lo := (-1)) (hi := 9) (by decide) ho hr
        clear ho hr ha hE hP hI hx_
        rename x_I _ _ _ _ _ _ _ _ _ _ => hI
        refine lv_iconst hx hb ga_d32 (v := (-1)) (by decide) ?_
        have ecm1 : ((-1) : Int32).toInt = (-1) := by decide
        refine lv_icmp_ne hx hb ga_d33 (tgt := 57) (by decide) (fun q4 => ?_) (fun q4 => ?_)
        · have q4_ : ¬ r3.toInt = ((-1) : Int32).toInt := fun q => q4 (Int32.toInt_inj.mp q)
          obtain ⟨z5, hg_z5⟩ : ∃ z5 : Int32, set + Int32.ofInt 1 = z5 := ⟨_, rfl⟩
          have h_z5 : z5.toInt = set.toInt + 1 := by rw [← hg_z5]; exact y_inc (by decide) (by omega) (by omega)
          refine lv_iinc hx hb ga_d57 hl (k := 0) rfl hg_z5 (by decide) (lv' := [(4, .int z5), (3, .int all), (0, .ref this), (1, .ref eyes), (2, .int hills)]) rfl fun ls hl => ?_
          refine lv_goto hx hb ga_d60 (tgt := 12) (by decide) ?_
          exact ih _ _ _ _ _ _ hI hY_this hY_eyes hl hF (by omega) (by omega) (by omega) (by omega) (by omega)
        · have q4_ : r3.toInt = ((-1) : Int32).toInt := by rw [q4]
          refine lv_aload_n hx hb ga_d36 rfl (lv_at hl 2 rfl) ?_
          obtain ⟨this_sets, hs_this_sets, hY_this_sets⟩ := y_fldR (k := 0) hI.1 hY_this rfl rfl
          refine y_getf X (fl135 X.2.2.2.2.1) hI.1 hY_this rfl hs_this_sets ga_d37 ?_
          refine lv_aload_n hx hb ga_d40 rfl (lv_at hl 2 rfl) ?_
          refine y_getf X (fl136 X.2.2.2.2.1) hI.1 hY_this rfl hF ga_d41 ?_
          refine lv_iload hx hb ga_d44 (lv_at hl 0 rfl) ?_
          obtain ⟨f_this_sets, hA_this_sets, hB_this_sets⟩ := y_arr hI.1 hY_this_sets rfl rfl
          replace hB_this_sets : ∀ j, j < 1024 → (0 : Int) ≤ (f_this_sets j).toInt ∧ (f_this_sets j).toInt ≤ 1023 := fun j hj => by obtain ⟨x, e0, e1⟩ := hB_this_sets j hj; cases e0; exact e1
          refine y_iast X hY0 hI hY_this_sets rfl hA_this_sets (by omega) (by show _ < (1024 : Int); omega) ⟨_, rfl, by show (0 : Int) ≤ _; omega, by show _ ≤ (1023 : Int); omega⟩ (by decide +kernel) ga_d46 fun H locs hI h_new ho => ?_
          replace hA_this_sets := h_new
          replace hB_this_sets := y_upb (i := fd.toInt.toNat) (v := set) hB_this_sets (by constructor <;> omega)
          generalize hf_f6 : y_up f_this_sets fd.toInt.toNat set = f6 at hA_this_sets hB_this_sets
          replace hF := y_slk hF (ho _ (y_ne hY_this hY_this_sets rfl))
          replace hs_this_sets := y_slk hs_this_sets (ho _ (y_ne hY_this hY_this_sets rfl))
          refine lv_aload_n hx hb ga_d47 rfl (lv_at hl 2 rfl) ?_
          refine lv_dup hx hb ga_d48 rfl ?_
          refine y_getf X (fl136 X.2.2.2.2.1) hI.1 hY_this rfl hF ga_d49 ?_
          refine lv_iconst hx hb ga_d52 (v := 1) (by decide) ?_
          have ec1 : (1 : Int32).toInt = 1 := by decide
          refine lv_iadd hx hb ga_d53 ?_
          generalize hg_z7 : fd + (1 : Int32) = z7
          have h_z7 : z7.toInt = fd.toInt + (1 : Int32).toInt := by rw [← hg_z7]; exact y_add (by omega) (by omega)
          refine y_putf X (fw205 X.2.2.2.2.1) hY0 hI hY_this rfl rfl ⟨_, rfl, by show (0 : Int) ≤ _; omega, by show _ ≤ (1024 : Int); omega⟩ (by decide +kernel) ga_d54 fun H sl hI ho hs hk => ?_
          replace hs_this_sets := hk _ _ (by decide +kernel) (by decide) hs_this_sets
          replace hA_this_sets := hA_this_sets.kept (ho _ (y_ne hY_this_sets hY_this rfl))
          replace hs := hs
          replace hF := hs
          obtain ⟨z8, hg_z8⟩ : ∃ z8 : Int32, set + Int32.ofInt 1 = z8 := ⟨_, rfl⟩
          have h_z8 : z8.toInt = set.toInt + 1 := by rw [← hg_z8]; exact y_inc (by decide) (by omega) (by omega)
          refine lv_iinc hx hb ga_d57 hl (k := 0) rfl hg_z8 (by decide) (lv' := [(4, .int z8), (3, .int all), (0, .ref this), (1, .ref eyes), (2, .int hills)]) rfl fun ls hl => ?_
          refine lv_goto hx hb ga_d60 (tgt := 12) (by decide) ?_
          exact ih _ _ _ _ _ _ hI hY_this hY_eyes hl hF (by omega) (by omega) (by omega) (by omega) (by omega)
theorem ym_gather : y_Met vwCl x_G x_Zs x_Tb x_Nb xMga y_T y_TP := by
  refine y_main (by decide +kernel) (by decide +kernel) x_Tb_good x_Nb_ok ?_
  intro p l e s m below meth c D U Y0 av ls B hI _ hl
  have X := B.1
  have hx := X.1
  have hb := X.2.1
  have hY0 := B.2.2.2.2.1
  obtain ⟨v0, v1, v2, rfl, hv0, hv1, hv2⟩ := y_three B.2.2.2.2.2
  obtain ⟨this, t0, rfl, ht0, hY_this⟩ := x_ref_at hv0 rfl
  obtain rfl := List.mem_singleton.mp ht0
  obtain ⟨eyes, t1, rfl, ht1, hY_eyes⟩ := x_ref_at hv1 rfl
  obtain rfl := List.mem_singleton.mp ht1
  obtain ⟨hills, rfl, hh⟩ := hv2
  replace hl : lv_has ls xMga.2.2.1 [(0, .ref this), (1, .ref eyes), (2, .int hills)] := hl
  refine lv_aload_n hx hb ga_d0 rfl (lv_at hl 0 rfl) ?_
  refine lv_iconst hx hb ga_d1 (v := 0) (by decide) ?_
  have ec0 : (0 : Int32).toInt = 0 := by decide
  refine y_putf X (fw205 X.2.2.2.2.1) hY0 hI hY_this rfl rfl ⟨_, rfl, by show (0 : Int) ≤ _; omega, by show _ ≤ (1024 : Int); omega⟩ (by decide +kernel) ga_d2 fun H sl hI ho hs hk => ?_
  replace hs := hs
  have hs9 := hs
  refine lv_iconst hx hb ga_d5 (v := 1) (by decide) ?_
  have ec1 : (1 : Int32).toInt = 1 := by decide
  refine lv_iload_n hx hb ga_d6 rfl (lv_at hl 2 rfl) ?_
  refine lv_ishl hx hb ga_d7 ?_
  generalize hg_z10 : (1 : Int32) <<< (hills &&& 31) = z10
  refine lv_istore_n hx hb ga_d8 rfl hl (by decide) (lv' := [(3, .int z10), (0, .ref this), (1, .ref eyes), (2, .int hills)]) rfl fun ls hl => ?_
  refine lv_iconst hx hb ga_d9 (v := 0) (by decide) ?_
  refine lv_istore hx hb ga_d10 hl (by decide) (lv' := [(4, .int (0 : Int32)), (3, .int z10), (0, .ref this), (1, .ref eyes), (2, .int hills)]) rfl fun ls hl => ?_
  exact ga_loop B 2000 _ _ _ _ _ _ hI hY_this hY_eyes hl hs9 (by omega) (by omega) (by omega) (by omega) (by omega)
end
section
theorem fl205 {s : State} {args : Array Value} (hts : ∀ w ∈ x_Tb, w.before args s = true) : x_fok vwCl x_G x_Tb s args "TwinFires" (40, 0, 5) := ⟨11, _, RX11, TX11, "TwinFires", rfl, rfl, Nat.le_of_ble_eq_true rfl, iX11, (hts _ (x_at 334 (by decide +kernel) rfl)), fun x h => h⟩
theorem fl206 {s : State} {args : Array Value} (hts : ∀ w ∈ x_Tb, w.before args s = true) : x_fok vwCl x_G x_Tb s args "TwinFires" (186, 8, 1) := ⟨5, _, RX5, TX5, "TwinFires$Rows", rfl, rfl, Nat.le_of_ble_eq_true rfl, iX5, (hts _ (x_at 310 (by decide +kernel) rfl)), fun x h => h⟩
theorem fl207 {s : State} {args : Array Value} (hts : ∀ w ∈ x_Tb, w.before args s = true) : x_fok vwCl x_G x_Tb s args "TwinFires" (231, 8, 2) := ⟨5, _, RX5, TX5, "TwinFires$Rows", rfl, rfl, Nat.le_of_ble_eq_true rfl, iX5, (hts _ (x_at 312 (by decide +kernel) rfl)), fun x h => h⟩
theorem fl208 {s : State} {args : Array Value} (hts : ∀ w ∈ x_Tb, w.before args s = true) : x_fok vwCl x_G x_Tb s args "TwinFires$Rows" (63, 2, 11) := ⟨2, _, RX2, TX2, "TwinFires$Land", rfl, rfl, Nat.le_of_ble_eq_true rfl, iX2, (hts _ (x_at 179 (by decide +kernel) rfl)), fun x h => h⟩
/-- TwinFires.gatherNow()V -/
def xM1000 : xM := (⟨"TwinFires", "gatherNow", "()V"⟩, prog_1_method_49_code, 1, none, [xR false [0]], [([xR false [0]], none)], [(8, 1), (10, 0), (10, 1), (10, 2), (10, 3), (10, 4), (10, 5), (10, 6), (10, 7), (32, 0), (33, 0), (34, 0), (35, 0)], (5, 118, 0, 0), none)
def xT1000 : xTab := ([(12, 0, 0), (33, 0, 4), (40, 0, 5), (95, 2, 10), (273, 2, 0)], [], [], [], [], [], [], [(0, 200, 3, some 6, xM49), (0, 204, 4, some 6, xM51), (0, 317, 3, some 8, xMga)], [], [], [])
set_option maxRecDepth 100000 in
set_option maxHeartbeats 4000000 in
theorem xk1000 : x_TOK vwCl x_G x_Zs x_Tb x_Nb xM1000 xT1000 := by
  intro p l e s m args below meth c D U hx hb hml hts hown hK hK0 hU hnm hN
  have X : x_cx p s m args c D U xM1000.2.1 xM1000.2.2.1 vwCl x_Tb x_Nb xM1000.1.cls := ⟨hx, hb, hml, hown, hts, hK, hK0, hU, hN, x_Tb_good, x_Nb_ok⟩
  exact ⟨(x_cons (fl8 hts) (x_cons (fl102 hts) (x_cons (fl205 hts) (x_cons (fl58 hts) (x_cons (fl153 hts) x_nilm))))), x_nilm, x_nilm, x_nilm, x_nilm, x_nilm, x_nilm, (x_cons (x_cokV (ci := 0) X xm49 rfl rfl rfl (x_cons (x_at 544 (by decide +kernel) rfl) (x_cons (x_at 545 (by decide +kernel) rfl) (x_cons (x_at 546 (by decide +kernel) rfl) (x_cons (x_at 70 (by decide +kernel) rfl) x_nilm)))) (x_at 547 (by decide +kernel) rfl) (by decide +kernel) ⟨Nat.le_of_ble_eq_true rfl, Nat.le_of_ble_eq_true rfl⟩) (x_cons (x_cokV (ci := 0) X xm51 rfl rfl rfl (x_cons (x_at 587 (by decide +kernel) rfl) (x_cons (x_at 588 (by decide +kernel) rfl) (x_cons (x_at 589 (by decide +kernel) rfl) (x_cons (x_at 70 (by decide +kernel) rfl) x_nilm)))) (x_at 590 (by decide +kernel) rfl) (by decide +kernel) ⟨Nat.le_of_ble_eq_true rfl, Nat.le_of_ble_eq_true rfl⟩) (x_cons (y_cok.x (y_cokV (n := 2) (ci := 5) X ym_gather rfl rfl rfl (x_cons (x_at 768 (by decide +kernel) rfl) (x_cons (x_at 769 (by decide +kernel) rfl) (x_cons (x_at 770 (by decide +kernel) rfl) (x_cons (x_at 72 (by decide +kernel) rfl) x_nilm)))) (x_at 771 (by decide +kernel) rfl) (by decide +kernel) ⟨Nat.le_of_ble_eq_true rfl, Nat.le_of_ble_eq_true rfl⟩) (fun _ _ _ _ _ => trivial)) x_nilm))), x_nilm, x_nilm, x_nilm⟩
set_option maxRecDepth 1000000 in
theorem xm1000 : x_Met vwCl x_G x_Zs x_Tb x_Nb xM1000 := x_main xT1000 [] [] 2500 (by decide +kernel) (by decide +kernel) xk1000 (by decide +kernel)
/-- TwinFires.most(II)I -/
def xM1001 : xM := (⟨"TwinFires", "most", "(II)I"⟩, prog_1_method_15_code, 4, some .int, [xR false [0], xF, xF], [([xR false [0], xF, xF], some (xF))], [(8, 1), (10, 0), (10, 1), (10, 2), (10, 3), (10, 4), (10, 5), (10, 6), (10, 7), (32, 0), (33, 0), (34, 0), (35, 0), (42, 0)], (6, 138, 0, 0), none)
def xT1001 : xTab := ([(12, 0, 0), (40, 0, 5)], [], [], [], [], [], [], [(1, 88, 3, none, xM69), (1, 175, 1, none, xM71), (0, 59, 2, some 0, xM8), (0, 101, 2, some 2, xM40), (0, 180, 1, some 0, xM1000), (0, 183, 2, some 8, xM74)], [], [], [])
set_option maxRecDepth 100000 in
set_option maxHeartbeats 4000000 in
theorem xk1001 : x_TOK vwCl x_G x_Zs x_Tb x_Nb xM1001 xT1001 := by
  intro p l e s m args below meth c D U hx hb hml hts hown hK hK0 hU hnm hN
  have X : x_cx p s m args c D U xM1001.2.1 xM1001.2.2.1 vwCl x_Tb x_Nb xM1001.1.cls := ⟨hx, hb, hml, hown, hts, hK, hK0, hU, hN, x_Tb_good, x_Nb_ok⟩
  exact ⟨(x_cons (fl8 hts) (x_cons (fl205 hts) x_nilm)), x_nilm, x_nilm, x_nilm, x_nilm, x_nilm, x_nilm, (x_cons (x_cokS X xm69 (x_cons (x_at 383 (by decide +kernel) rfl) (x_cons (x_at 369 (by decide +kernel) rfl) (x_cons (x_at 65 (by decide +kernel) rfl) x_nilm))) (x_at 370 (by decide +kernel) rfl) (by decide +kernel) ⟨Nat.le_of_ble_eq_true rfl, Nat.le_of_ble_eq_true rfl⟩) (x_cons (x_cokS X xm71 (x_cons (x_at 759 (by decide +kernel) rfl) (x_cons (x_at 754 (by decide +kernel) rfl) (x_cons (x_at 85 (by decide +kernel) rfl) x_nilm))) (x_at 755 (by decide +kernel) rfl) (by decide +kernel) ⟨Nat.le_of_ble_eq_true rfl, Nat.le_of_ble_eq_true rfl⟩) (x_cons (x_cokV (ci := 11) X xm8 rfl rfl rfl (x_cons (x_at 375 (by decide +kernel) rfl) (x_cons (x_at 377 (by decide +kernel) rfl) (x_cons (x_at 1 (by decide +kernel) rfl) (x_cons (x_at 65 (by decide +kernel) rfl) x_nilm)))) (x_at 378 (by decide +kernel) rfl) (by decide +kernel) ⟨Nat.le_of_ble_eq_true rfl, Nat.le_of_ble_eq_true rfl⟩) (x_cons (x_cokV (ci := 2) X xm40 rfl rfl rfl (x_cons (x_at 536 (by decide +kernel) rfl) (x_cons (x_at 537 (by decide +kernel) rfl) (x_cons (x_at 538 (by decide +kernel) rfl) (x_cons (x_at 66 (by decide +kernel) rfl) x_nilm)))) (x_at 539 (by decide +kernel) rfl) (by decide +kernel) ⟨Nat.le_of_ble_eq_true rfl, Nat.le_of_ble_eq_true rfl⟩) (x_cons (x_cokV (ci := 11) X xm1000 rfl rfl rfl (x_cons (x_at 764 (by decide +kernel) rfl) (x_cons (x_at 766 (by decide +kernel) rfl) (x_cons (x_at 13 (by decide +kernel) rfl) (x_cons (x_at 65 (by decide +kernel) rfl) x_nilm)))) (x_at 767 (by decide +kernel) rfl) (by decide +kernel) ⟨Nat.le_of_ble_eq_true rfl, Nat.le_of_ble_eq_true rfl⟩) (x_cons (x_cokV (ci := 5) X xm74 rfl rfl rfl (x_cons (x_at 773 (by decide +kernel) rfl) (x_cons (x_at 774 (by decide +kernel) rfl) (x_cons (x_at 775 (by decide +kernel) rfl) (x_cons (x_at 72 (by decide +kernel) rfl) x_nilm)))) (x_at 776 (by decide +kernel) rfl) (by decide +kernel) ⟨Nat.le_of_ble_eq_true rfl, Nat.le_of_ble_eq_true rfl⟩) x_nilm)))))), x_nilm, x_nilm, x_nilm⟩
set_option maxRecDepth 1000000 in
theorem xm1001 : x_Met vwCl x_G x_Zs x_Tb x_Nb xM1001 := x_main xT1001 [] [] 2500 (by decide +kernel) (by decide +kernel) xk1001 (by decide +kernel)
/-- TwinFires.lawful(I)I -/
def xM1002 : xM := (⟨"TwinFires", "lawful", "(I)I"⟩, prog_1_method_16_code, 2, some .int, [xR false [0], xF], [([xR false [0], xF], some (xF))], [(8, 1), (10, 0), (10, 1), (10, 2), (10, 3), (10, 4), (10, 5), (10, 6), (10, 7), (32, 0), (33, 0), (34, 0), (35, 0), (42, 0)], (6, 138, 0, 0), none)
def xT1002 : xTab := ([(40, 0, 5), (186, 8, 1)], [], [], [], [], [], [], [(1, 88, 3, none, xM75), (0, 59, 2, some 0, xM8), (0, 180, 1, some 0, xM1000), (0, 189, 2, some 8, xM76)], [], [], [])
set_option maxRecDepth 100000 in
set_option maxHeartbeats 4000000 in
theorem xk1002 : x_TOK vwCl x_G x_Zs x_Tb x_Nb xM1002 xT1002 := by
  intro p l e s m args below meth c D U hx hb hml hts hown hK hK0 hU hnm hN
  have X : x_cx p s m args c D U xM1002.2.1 xM1002.2.2.1 vwCl x_Tb x_Nb xM1002.1.cls := ⟨hx, hb, hml, hown, hts, hK, hK0, hU, hN, x_Tb_good, x_Nb_ok⟩
  exact ⟨(x_cons (fl205 hts) (x_cons (fl206 hts) x_nilm)), x_nilm, x_nilm, x_nilm, x_nilm, x_nilm, x_nilm, (x_cons (x_cokS X xm75 (x_cons (x_at 383 (by decide +kernel) rfl) (x_cons (x_at 369 (by decide +kernel) rfl) (x_cons (x_at 65 (by decide +kernel) rfl) x_nilm))) (x_at 370 (by decide +kernel) rfl) (by decide +kernel) ⟨Nat.le_of_ble_eq_true rfl, Nat.le_of_ble_eq_true rfl⟩) (x_cons (x_cokV (ci := 11) X xm8 rfl rfl rfl (x_cons (x_at 375 (by decide +kernel) rfl) (x_cons (x_at 377 (by decide +kernel) rfl) (x_cons (x_at 1 (by decide +kernel) rfl) (x_cons (x_at 65 (by decide +kernel) rfl) x_nilm)))) (x_at 378 (by decide +kernel) rfl) (by decide +kernel) ⟨Nat.le_of_ble_eq_true rfl, Nat.le_of_ble_eq_true rfl⟩) (x_cons (x_cokV (ci := 11) X xm1000 rfl rfl rfl (x_cons (x_at 764 (by decide +kernel) rfl) (x_cons (x_at 766 (by decide +kernel) rfl) (x_cons (x_at 13 (by decide +kernel) rfl) (x_cons (x_at 65 (by decide +kernel) rfl) x_nilm)))) (x_at 767 (by decide +kernel) rfl) (by decide +kernel) ⟨Nat.le_of_ble_eq_true rfl, Nat.le_of_ble_eq_true rfl⟩) (x_cons (x_cokV (ci := 5) X xm76 rfl rfl rfl (x_cons (x_at 782 (by decide +kernel) rfl) (x_cons (x_at 783 (by decide +kernel) rfl) (x_cons (x_at 784 (by decide +kernel) rfl) (x_cons (x_at 72 (by decide +kernel) rfl) x_nilm)))) (x_at 785 (by decide +kernel) rfl) (by decide +kernel) ⟨Nat.le_of_ble_eq_true rfl, Nat.le_of_ble_eq_true rfl⟩) x_nilm)))), x_nilm, x_nilm, x_nilm⟩
set_option maxRecDepth 1000000 in
theorem xm1002 : x_Met vwCl x_G x_Zs x_Tb x_Nb xM1002 := x_main xT1002 [] [] 2500 (by decide +kernel) (by decide +kernel) xk1002 (by decide +kernel)
/-- TwinFires.row(III)I -/
def xM1003 : xM := (⟨"TwinFires", "row", "(III)I"⟩, prog_1_method_23_code, 5, some .int, [xR false [0], xF, xF, xF], [([xR false [0], xF, xF, xF], some (xF))], [(8, 1), (10, 0), (10, 1), (10, 2), (10, 3), (10, 4), (10, 5), (10, 6), (10, 7), (32, 0), (33, 0), (34, 0), (35, 0), (36, 0), (42, 0)], (6, 138, 0, 0), none)
def xT1003 : xTab := ([(12, 0, 0), (40, 0, 5), (231, 8, 2)], [], [], [], [], [], [], [(0, 169, 2, some 2, xM67), (0, 180, 1, some 0, xM1000), (0, 221, 3, some 0, xM7), (0, 224, 2, some 0, xM92), (0, 227, 2, some 8, xM96), (0, 234, 3, some 8, xM98)], [], [], [])
set_option maxRecDepth 100000 in
set_option maxHeartbeats 4000000 in
theorem xk1003 : x_TOK vwCl x_G x_Zs x_Tb x_Nb xM1003 xT1003 := by
  intro p l e s m args below meth c D U hx hb hml hts hown hK hK0 hU hnm hN
  have X : x_cx p s m args c D U xM1003.2.1 xM1003.2.2.1 vwCl x_Tb x_Nb xM1003.1.cls := ⟨hx, hb, hml, hown, hts, hK, hK0, hU, hN, x_Tb_good, x_Nb_ok⟩
  exact ⟨(x_cons (fl8 hts) (x_cons (fl205 hts) (x_cons (fl207 hts) x_nilm))), x_nilm, x_nilm, x_nilm, x_nilm, x_nilm, x_nilm, (x_cons (x_cokV (ci := 2) X xm67 rfl rfl rfl (x_cons (x_at 738 (by decide +kernel) rfl) (x_cons (x_at 739 (by decide +kernel) rfl) (x_cons (x_at 740 (by decide +kernel) rfl) (x_cons (x_at 66 (by decide +kernel) rfl) x_nilm)))) (x_at 741 (by decide +kernel) rfl) (by decide +kernel) ⟨Nat.le_of_ble_eq_true rfl, Nat.le_of_ble_eq_true rfl⟩) (x_cons (x_cokV (ci := 11) X xm1000 rfl rfl rfl (x_cons (x_at 764 (by decide +kernel) rfl) (x_cons (x_at 766 (by decide +kernel) rfl) (x_cons (x_at 13 (by decide +kernel) rfl) (x_cons (x_at 65 (by decide +kernel) rfl) x_nilm)))) (x_at 767 (by decide +kernel) rfl) (by decide +kernel) ⟨Nat.le_of_ble_eq_true rfl, Nat.le_of_ble_eq_true rfl⟩) (x_cons (x_cokV (ci := 11) X xm7 rfl rfl rfl (x_cons (x_at 379 (by decide +kernel) rfl) (x_cons (x_at 381 (by decide +kernel) rfl) (x_cons (x_at 2 (by decide +kernel) rfl) (x_cons (x_at 65 (by decide +kernel) rfl) x_nilm)))) (x_at 382 (by decide +kernel) rfl) (by decide +kernel) ⟨Nat.le_of_ble_eq_true rfl, Nat.le_of_ble_eq_true rfl⟩) (x_cons (x_cokV (ci := 11) X xm92 rfl rfl rfl (x_cons (x_at 849 (by decide +kernel) rfl) (x_cons (x_at 851 (by decide +kernel) rfl) (x_cons (x_at 17 (by decide +kernel) rfl) (x_cons (x_at 65 (by decide +kernel) rfl) x_nilm)))) (x_at 852 (by decide +kernel) rfl) (by decide +kernel) ⟨Nat.le_of_ble_eq_true rfl, Nat.le_of_ble_eq_true rfl⟩) (x_cons (x_cokV (ci := 5) X xm96 rfl rfl rfl (x_cons (x_at 853 (by decide +kernel) rfl) (x_cons (x_at 854 (by decide +kernel) rfl) (x_cons (x_at 855 (by decide +kernel) rfl) (x_cons (x_at 72 (by decide +kernel) rfl) x_nilm)))) (x_at 856 (by decide +kernel) rfl) (by decide +kernel) ⟨Nat.le_of_ble_eq_true rfl, Nat.le_of_ble_eq_true rfl⟩) (x_cons (x_cokV (ci := 5) X xm98 rfl rfl rfl (x_cons (x_at 865 (by decide +kernel) rfl) (x_cons (x_at 866 (by decide +kernel) rfl) (x_cons (x_at 867 (by decide +kernel) rfl) (x_cons (x_at 72 (by decide +kernel) rfl) x_nilm)))) (x_at 868 (by decide +kernel) rfl) (by decide +kernel) ⟨Nat.le_of_ble_eq_true rfl, Nat.le_of_ble_eq_true rfl⟩) x_nilm)))))), x_nilm, x_nilm, x_nilm⟩
set_option maxRecDepth 1000000 in
theorem xm1003 : x_Met vwCl x_G x_Zs x_Tb x_Nb xM1003 := x_main xT1003 [] [] 2500 (by decide +kernel) (by decide +kernel) xk1003 (by decide +kernel)
/-- TwinFires.reach(II)I -/
def xM1004 : xM := (⟨"TwinFires", "reach", "(II)I"⟩, prog_1_method_24_code, 3, some .int, [xR false [0], xF, xF], [([xR false [0], xF, xF], some (xF))], [(8, 1), (10, 0), (10, 1), (10, 2), (10, 3), (10, 4), (10, 5), (10, 6), (10, 7), (32, 0), (33, 0), (34, 0), (35, 0), (36, 0), (42, 0)], (6, 138, 0, 0), none)
def xT1004 : xTab := ([(12, 0, 0), (40, 0, 5)], [], [], [], [], [], [], [(1, 88, 3, none, xM3), (0, 59, 2, some 0, xM8), (0, 169, 2, some 2, xM67), (0, 180, 1, some 0, xM1000), (0, 224, 2, some 0, xM92), (0, 227, 2, some 8, xM96), (0, 237, 2, some 8, xM99)], [], [], [])
set_option maxRecDepth 100000 in
set_option maxHeartbeats 4000000 in
theorem xk1004 : x_TOK vwCl x_G x_Zs x_Tb x_Nb xM1004 xT1004 := by
  intro p l e s m args below meth c D U hx hb hml hts hown hK hK0 hU hnm hN
  have X : x_cx p s m args c D U xM1004.2.1 xM1004.2.2.1 vwCl x_Tb x_Nb xM1004.1.cls := ⟨hx, hb, hml, hown, hts, hK, hK0, hU, hN, x_Tb_good, x_Nb_ok⟩
  exact ⟨(x_cons (fl8 hts) (x_cons (fl205 hts) x_nilm)), x_nilm, x_nilm, x_nilm, x_nilm, x_nilm, x_nilm, (x_cons (x_cokS X xm3 (x_cons (x_at 383 (by decide +kernel) rfl) (x_cons (x_at 369 (by decide +kernel) rfl) (x_cons (x_at 65 (by decide +kernel) rfl) x_nilm))) (x_at 370 (by decide +kernel) rfl) (by decide +kernel) ⟨Nat.le_of_ble_eq_true rfl, Nat.le_of_ble_eq_true rfl⟩) (x_cons (x_cokV (ci := 11) X xm8 rfl rfl rfl (x_cons (x_at 375 (by decide +kernel) rfl) (x_cons (x_at 377 (by decide +kernel) rfl) (x_cons (x_at 1 (by decide +kernel) rfl) (x_cons (x_at 65 (by decide +kernel) rfl) x_nilm)))) (x_at 378 (by decide +kernel) rfl) (by decide +kernel) ⟨Nat.le_of_ble_eq_true rfl, Nat.le_of_ble_eq_true rfl⟩) (x_cons (x_cokV (ci := 2) X xm67 rfl rfl rfl (x_cons (x_at 738 (by decide +kernel) rfl) (x_cons (x_at 739 (by decide +kernel) rfl) (x_cons (x_at 740 (by decide +kernel) rfl) (x_cons (x_at 66 (by decide +kernel) rfl) x_nilm)))) (x_at 741 (by decide +kernel) rfl) (by decide +kernel) ⟨Nat.le_of_ble_eq_true rfl, Nat.le_of_ble_eq_true rfl⟩) (x_cons (x_cokV (ci := 11) X xm1000 rfl rfl rfl (x_cons (x_at 764 (by decide +kernel) rfl) (x_cons (x_at 766 (by decide +kernel) rfl) (x_cons (x_at 13 (by decide +kernel) rfl) (x_cons (x_at 65 (by decide +kernel) rfl) x_nilm)))) (x_at 767 (by decide +kernel) rfl) (by decide +kernel) ⟨Nat.le_of_ble_eq_true rfl, Nat.le_of_ble_eq_true rfl⟩) (x_cons (x_cokV (ci := 11) X xm92 rfl rfl rfl (x_cons (x_at 849 (by decide +kernel) rfl) (x_cons (x_at 851 (by decide +kernel) rfl) (x_cons (x_at 17 (by decide +kernel) rfl) (x_cons (x_at 65 (by decide +kernel) rfl) x_nilm)))) (x_at 852 (by decide +kernel) rfl) (by decide +kernel) ⟨Nat.le_of_ble_eq_true rfl, Nat.le_of_ble_eq_true rfl⟩) (x_cons (x_cokV (ci := 5) X xm96 rfl rfl rfl (x_cons (x_at 853 (by decide +kernel) rfl) (x_cons (x_at 854 (by decide +kernel) rfl) (x_cons (x_at 855 (by decide +kernel) rfl) (x_cons (x_at 72 (by decide +kernel) rfl) x_nilm)))) (x_at 856 (by decide +kernel) rfl) (by decide +kernel) ⟨Nat.le_of_ble_eq_true rfl, Nat.le_of_ble_eq_true rfl⟩) (x_cons (x_cokV (ci := 5) X xm99 rfl rfl rfl (x_cons (x_at 877 (by decide +kernel) rfl) (x_cons (x_at 878 (by decide +kernel) rfl) (x_cons (x_at 879 (by decide +kernel) rfl) (x_cons (x_at 72 (by decide +kernel) rfl) x_nilm)))) (x_at 880 (by decide +kernel) rfl) (by decide +kernel) ⟨Nat.le_of_ble_eq_true rfl, Nat.le_of_ble_eq_true rfl⟩) x_nilm))))))), x_nilm, x_nilm, x_nilm⟩
set_option maxRecDepth 1000000 in
theorem xm1004 : x_Met vwCl x_G x_Zs x_Tb x_Nb xM1004 := x_main xT1004 [] [] 2500 (by decide +kernel) (by decide +kernel) xk1004 (by decide +kernel)
/-- TwinFires.words(III)I -/
def xM1005 : xM := (⟨"TwinFires", "words", "(III)I"⟩, prog_1_method_25_code, 4, some .int, [xR false [0], xF, xF, xF], [([xR false [0], xF, xF, xF], some (xF))], [(8, 1), (10, 0), (10, 1), (10, 2), (10, 3), (10, 4), (10, 5), (10, 6), (10, 7), (32, 0), (33, 0), (34, 0), (35, 0), (36, 0), (37, 0), (42, 0)], (6, 138, 0, 0), none)
def xT1005 : xTab := ([(12, 0, 0), (33, 0, 4), (40, 0, 5)], [], [], [], [], [], [], [(1, 88, 3, none, xM100), (0, 59, 2, some 0, xM8), (0, 101, 2, some 2, xM40), (0, 169, 2, some 2, xM67), (0, 180, 1, some 0, xM1000), (0, 224, 2, some 0, xM92), (0, 227, 2, some 8, xM96), (0, 240, 2, some 6, xM101), (0, 243, 3, some 8, xM103)], [], [], [])
set_option maxRecDepth 100000 in
set_option maxHeartbeats 4000000 in
theorem xk1005 : x_TOK vwCl x_G x_Zs x_Tb x_Nb xM1005 xT1005 := by
  intro p l e s m args below meth c D U hx hb hml hts hown hK hK0 hU hnm hN
  have X : x_cx p s m args c D U xM1005.2.1 xM1005.2.2.1 vwCl x_Tb x_Nb xM1005.1.cls := ⟨hx, hb, hml, hown, hts, hK, hK0, hU, hN, x_Tb_good, x_Nb_ok⟩
  exact ⟨(x_cons (fl8 hts) (x_cons (fl102 hts) (x_cons (fl205 hts) x_nilm))), x_nilm, x_nilm, x_nilm, x_nilm, x_nilm, x_nilm, (x_cons (x_cokS X xm100 (x_cons (x_at 383 (by decide +kernel) rfl) (x_cons (x_at 369 (by decide +kernel) rfl) (x_cons (x_at 65 (by decide +kernel) rfl) x_nilm))) (x_at 370 (by decide +kernel) rfl) (by decide +kernel) ⟨Nat.le_of_ble_eq_true rfl, Nat.le_of_ble_eq_true rfl⟩) (x_cons (x_cokV (ci := 11) X xm8 rfl rfl rfl (x_cons (x_at 375 (by decide +kernel) rfl) (x_cons (x_at 377 (by decide +kernel) rfl) (x_cons (x_at 1 (by decide +kernel) rfl) (x_cons (x_at 65 (by decide +kernel) rfl) x_nilm)))) (x_at 378 (by decide +kernel) rfl) (by decide +kernel) ⟨Nat.le_of_ble_eq_true rfl, Nat.le_of_ble_eq_true rfl⟩) (x_cons (x_cokV (ci := 2) X xm40 rfl rfl rfl (x_cons (x_at 536 (by decide +kernel) rfl) (x_cons (x_at 537 (by decide +kernel) rfl) (x_cons (x_at 538 (by decide +kernel) rfl) (x_cons (x_at 66 (by decide +kernel) rfl) x_nilm)))) (x_at 539 (by decide +kernel) rfl) (by decide +kernel) ⟨Nat.le_of_ble_eq_true rfl, Nat.le_of_ble_eq_true rfl⟩) (x_cons (x_cokV (ci := 2) X xm67 rfl rfl rfl (x_cons (x_at 738 (by decide +kernel) rfl) (x_cons (x_at 739 (by decide +kernel) rfl) (x_cons (x_at 740 (by decide +kernel) rfl) (x_cons (x_at 66 (by decide +kernel) rfl) x_nilm)))) (x_at 741 (by decide +kernel) rfl) (by decide +kernel) ⟨Nat.le_of_ble_eq_true rfl, Nat.le_of_ble_eq_true rfl⟩) (x_cons (x_cokV (ci := 11) X xm1000 rfl rfl rfl (x_cons (x_at 764 (by decide +kernel) rfl) (x_cons (x_at 766 (by decide +kernel) rfl) (x_cons (x_at 13 (by decide +kernel) rfl) (x_cons (x_at 65 (by decide +kernel) rfl) x_nilm)))) (x_at 767 (by decide +kernel) rfl) (by decide +kernel) ⟨Nat.le_of_ble_eq_true rfl, Nat.le_of_ble_eq_true rfl⟩) (x_cons (x_cokV (ci := 11) X xm92 rfl rfl rfl (x_cons (x_at 849 (by decide +kernel) rfl) (x_cons (x_at 851 (by decide +kernel) rfl) (x_cons (x_at 17 (by decide +kernel) rfl) (x_cons (x_at 65 (by decide +kernel) rfl) x_nilm)))) (x_at 852 (by decide +kernel) rfl) (by decide +kernel) ⟨Nat.le_of_ble_eq_true rfl, Nat.le_of_ble_eq_true rfl⟩) (x_cons (x_cokV (ci := 5) X xm96 rfl rfl rfl (x_cons (x_at 853 (by decide +kernel) rfl) (x_cons (x_at 854 (by decide +kernel) rfl) (x_cons (x_at 855 (by decide +kernel) rfl) (x_cons (x_at 72 (by decide +kernel) rfl) x_nilm)))) (x_at 856 (by decide +kernel) rfl) (by decide +kernel) ⟨Nat.le_of_ble_eq_true rfl, Nat.le_of_ble_eq_true rfl⟩) (x_cons (x_cokV (ci := 0) X xm101 rfl rfl rfl (x_cons (x_at 886 (by decide +kernel) rfl) (x_cons (x_at 887 (by decide +kernel) rfl) (x_cons (x_at 888 (by decide +kernel) rfl) (x_cons (x_at 70 (by decide +kernel) rfl) x_nilm)))) (x_at 889 (by decide +kernel) rfl) (by decide +kernel) ⟨Nat.le_of_ble_eq_true rfl, Nat.le_of_ble_eq_true rfl⟩) (x_cons (x_cokV (ci := 5) X xm103 rfl rfl rfl (x_cons (x_at 890 (by decide +kernel) rfl) (x_cons (x_at 891 (by decide +kernel) rfl) (x_cons (x_at 892 (by decide +kernel) rfl) (x_cons (x_at 72 (by decide +kernel) rfl) x_nilm)))) (x_at 893 (by decide +kernel) rfl) (by decide +kernel) ⟨Nat.le_of_ble_eq_true rfl, Nat.le_of_ble_eq_true rfl⟩) x_nilm))))))))), x_nilm, x_nilm, x_nilm⟩
set_option maxRecDepth 1000000 in
theorem xm1005 : x_Met vwCl x_G x_Zs x_Tb x_Nb xM1005 := x_main xT1005 [] [] 2500 (by decide +kernel) (by decide +kernel) xk1005 (by decide +kernel)
/-- TwinFires$Rows.followMists(LTwinFires$Land;LTwinFires$Eyes;II)I -/
def xM1006 : xM := (⟨"TwinFires$Rows", "followMists", "(LTwinFires$Land;LTwinFires$Eyes;II)I"⟩, prog_7_method_12_code, 7, some .int, [xR false [8], xR false [2], xR false [6], xI 0 1023, xI 0 1023], [([xR false [8], xR false [2], xR false [6], xI 0 1023, xI 0 1023], some (xI (-1) 11))], [(8, 1), (32, 0), (35, 0), (37, 0)], (3, 67, 0, 0), none)
def xT1006 : xTab := ([(9, 8, 0), (18, 8, 3), (27, 8, 1), (63, 2, 11), (72, 2, 0)], [], [], [], [], [], [], [(1, 42, 2, none, xM102), (0, 68, 4, some 6, xM51), (0, 75, 3, some 8, xMga), (0, 79, 4, some 8, xM105)], [], [], [])
set_option maxRecDepth 100000 in
set_option maxHeartbeats 4000000 in
theorem xk1006 : x_TOK vwCl x_G x_Zs x_Tb x_Nb xM1006 xT1006 := by
  intro p l e s m args below meth c D U hx hb hml hts hown hK hK0 hU hnm hN
  have X : x_cx p s m args c D U xM1006.2.1 xM1006.2.2.1 vwCl x_Tb x_Nb xM1006.1.cls := ⟨hx, hb, hml, hown, hts, hK, hK0, hU, hN, x_Tb_good, x_Nb_ok⟩
  exact ⟨(x_cons (fl135 hts) (x_cons (fl140 hts) (x_cons (fl136 hts) (x_cons (fl208 hts) (x_cons (fl141 hts) x_nilm))))), x_nilm, x_nilm, x_nilm, x_nilm, x_nilm, x_nilm, (x_cons (x_cokS X xm102 (x_cons (x_at 857 (by decide +kernel) rfl) (x_cons (x_at 103 (by decide +kernel) rfl) (x_cons (x_at 67 (by decide +kernel) rfl) x_nilm))) (x_at 104 (by decide +kernel) rfl) (by decide +kernel) ⟨Nat.le_of_ble_eq_true rfl, Nat.le_of_ble_eq_true rfl⟩) (x_cons (x_cokV (ci := 0) X xm51 rfl rfl rfl (x_cons (x_at 902 (by decide +kernel) rfl) (x_cons (x_at 588 (by decide +kernel) rfl) (x_cons (x_at 589 (by decide +kernel) rfl) (x_cons (x_at 70 (by decide +kernel) rfl) x_nilm)))) (x_at 590 (by decide +kernel) rfl) (by decide +kernel) ⟨Nat.le_of_ble_eq_true rfl, Nat.le_of_ble_eq_true rfl⟩) (x_cons (y_cok.x (y_cokV (n := 2) (ci := 5) X ym_gather rfl rfl rfl (x_cons (x_at 903 (by decide +kernel) rfl) (x_cons (x_at 769 (by decide +kernel) rfl) (x_cons (x_at 770 (by decide +kernel) rfl) (x_cons (x_at 72 (by decide +kernel) rfl) x_nilm)))) (x_at 771 (by decide +kernel) rfl) (by decide +kernel) ⟨Nat.le_of_ble_eq_true rfl, Nat.le_of_ble_eq_true rfl⟩) (fun _ _ _ _ _ => trivial)) (x_cons (x_cokV (ci := 5) X xm105 rfl rfl rfl (x_cons (x_at 904 (by decide +kernel) rfl) (x_cons (x_at 906 (by decide +kernel) rfl) (x_cons (x_at 20 (by decide +kernel) rfl) (x_cons (x_at 72 (by decide +kernel) rfl) x_nilm)))) (x_at 907 (by decide +kernel) rfl) (by decide +kernel) ⟨Nat.le_of_ble_eq_true rfl, Nat.le_of_ble_eq_true rfl⟩) x_nilm)))), x_nilm, x_nilm, x_nilm⟩
set_option maxRecDepth 1000000 in
theorem xm1006 : x_Met vwCl x_G x_Zs x_Tb x_Nb xM1006 := x_main xT1006 [(18, ([(0, xR false [8]), (1, xR false [2]), (2, xR false [6]), (3, xI 0 1023), (4, xI 0 1023), (5, xI 1 12)], [], [(0, 5, 3, xR false [37])]), (5, true), [], false, 0, []), (60, ([(0, xR false [8]), (1, xR false [2]), (2, xR false [6]), (3, xI 0 1023), (4, xI 0 1023), (5, xI 1 11), (6, xI 0 1024)], [], [(1, 2, 0, xI 0 10), (1, 2, 11, xR false [28]), (0, 5, 3, xR false [37])]), (6, true), [5], false, 1, []), (125, ([(0, xR false [8]), (1, xR false [2]), (2, xR false [6]), (3, xI 0 1023), (4, xI 0 1023), (5, xI 0 12)], [], [(0, 5, 3, xR false [37])]), (5, true), [], false, 0, [])] [] 2500 (by decide +kernel) (by decide +kernel) xk1006 (by decide +kernel)
/-- TwinFires.byMists(III)I -/
def xM1007 : xM := (⟨"TwinFires", "byMists", "(III)I"⟩, prog_1_method_26_code, 5, some .int, [xR false [0], xF, xF, xF], [([xR false [0], xF, xF, xF], some (xF))], [(8, 1), (10, 0), (10, 1), (10, 2), (10, 3), (10, 4), (10, 5), (10, 6), (10, 7), (32, 0), (33, 0), (34, 0), (35, 0), (37, 0), (42, 0)], (5, 118, 0, 0), none)
def xT1007 : xTab := ([(12, 0, 0), (33, 0, 4), (40, 0, 5), (95, 2, 10)], [], [], [], [], [], [], [(1, 88, 3, none, xM104), (0, 169, 2, some 2, xM67), (0, 200, 3, some 6, xM49), (0, 210, 3, some 0, xM81), (0, 221, 3, some 0, xM7), (0, 246, 5, some 8, xM1006), (0, 250, 6, some 8, xM108)], [], [], [])
set_option maxRecDepth 100000 in
set_option maxHeartbeats 4000000 in
theorem xk1007 : x_TOK vwCl x_G x_Zs x_Tb x_Nb xM1007 xT1007 := by
  intro p l e s m args below meth c D U hx hb hml hts hown hK hK0 hU hnm hN
  have X : x_cx p s m args c D U xM1007.2.1 xM1007.2.2.1 vwCl x_Tb x_Nb xM1007.1.cls := ⟨hx, hb, hml, hown, hts, hK, hK0, hU, hN, x_Tb_good, x_Nb_ok⟩
  exact ⟨(x_cons (fl8 hts) (x_cons (fl102 hts) (x_cons (fl205 hts) (x_cons (fl58 hts) x_nilm)))), x_nilm, x_nilm, x_nilm, x_nilm, x_nilm, x_nilm, (x_cons (x_cokS X xm104 (x_cons (x_at 383 (by decide +kernel) rfl) (x_cons (x_at 369 (by decide +kernel) rfl) (x_cons (x_at 65 (by decide +kernel) rfl) x_nilm))) (x_at 370 (by decide +kernel) rfl) (by decide +kernel) ⟨Nat.le_of_ble_eq_true rfl, Nat.le_of_ble_eq_true rfl⟩) (x_cons (x_cokV (ci := 2) X xm67 rfl rfl rfl (x_cons (x_at 738 (by decide +kernel) rfl) (x_cons (x_at 739 (by decide +kernel) rfl) (x_cons (x_at 740 (by decide +kernel) rfl) (x_cons (x_at 66 (by decide +kernel) rfl) x_nilm)))) (x_at 741 (by decide +kernel) rfl) (by decide +kernel) ⟨Nat.le_of_ble_eq_true rfl, Nat.le_of_ble_eq_true rfl⟩) (x_cons (x_cokV (ci := 0) X xm49 rfl rfl rfl (x_cons (x_at 544 (by decide +kernel) rfl) (x_cons (x_at 545 (by decide +kernel) rfl) (x_cons (x_at 546 (by decide +kernel) rfl) (x_cons (x_at 70 (by decide +kernel) rfl) x_nilm)))) (x_at 547 (by decide +kernel) rfl) (by decide +kernel) ⟨Nat.le_of_ble_eq_true rfl, Nat.le_of_ble_eq_true rfl⟩) (x_cons (x_cokV (ci := 11) X xm81 rfl rfl rfl (x_cons (x_at 800 (by decide +kernel) rfl) (x_cons (x_at 802 (by decide +kernel) rfl) (x_cons (x_at 14 (by decide +kernel) rfl) (x_cons (x_at 65 (by decide +kernel) rfl) x_nilm)))) (x_at 803 (by decide +kernel) rfl) (by decide +kernel) ⟨Nat.le_of_ble_eq_true rfl, Nat.le_of_ble_eq_true rfl⟩) (x_cons (x_cokV (ci := 11) X xm7 rfl rfl rfl (x_cons (x_at 379 (by decide +kernel) rfl) (x_cons (x_at 381 (by decide +kernel) rfl) (x_cons (x_at 2 (by decide +kernel) rfl) (x_cons (x_at 65 (by decide +kernel) rfl) x_nilm)))) (x_at 382 (by decide +kernel) rfl) (by decide +kernel) ⟨Nat.le_of_ble_eq_true rfl, Nat.le_of_ble_eq_true rfl⟩) (x_cons (x_cokV (ci := 5) X xm1006 rfl rfl rfl (x_cons (x_at 898 (by decide +kernel) rfl) (x_cons (x_at 899 (by decide +kernel) rfl) (x_cons (x_at 900 (by decide +kernel) rfl) (x_cons (x_at 72 (by decide +kernel) rfl) x_nilm)))) (x_at 901 (by decide +kernel) rfl) (by decide +kernel) ⟨Nat.le_of_ble_eq_true rfl, Nat.le_of_ble_eq_true rfl⟩) (x_cons (x_cokV (ci := 5) X xm108 rfl rfl rfl (x_cons (x_at 909 (by decide +kernel) rfl) (x_cons (x_at 910 (by decide +kernel) rfl) (x_cons (x_at 911 (by decide +kernel) rfl) (x_cons (x_at 72 (by decide +kernel) rfl) x_nilm)))) (x_at 912 (by decide +kernel) rfl) (by decide +kernel) ⟨Nat.le_of_ble_eq_true rfl, Nat.le_of_ble_eq_true rfl⟩) x_nilm))))))), x_nilm, x_nilm, x_nilm⟩
set_option maxRecDepth 1000000 in
theorem xm1007 : x_Met vwCl x_G x_Zs x_Tb x_Nb xM1007 := x_main xT1007 [] [] 2500 (by decide +kernel) (by decide +kernel) xk1007 (by decide +kernel)
/-- TwinFires.toldIn(II)I -/
def xM1008 : xM := (⟨"TwinFires", "toldIn", "(II)I"⟩, prog_1_method_29_code, 3, some .int, [xR false [0], xF, xF], [([xR false [0], xF, xF], some (xF))], [(8, 1), (8, 4), (8, 5), (10, 0), (10, 1), (10, 2), (10, 3), (10, 4), (10, 5), (10, 6), (10, 7), (32, 0), (33, 0), (34, 0), (35, 0), (38, 0), (42, 0)], (6, 138, 0, 0), none)
def xT1008 : xTab := ([(12, 0, 0), (33, 0, 4), (40, 0, 5)], [], [], [], [], [], [], [(0, 101, 2, some 2, xM40), (0, 169, 2, some 2, xM67), (0, 180, 1, some 0, xM1000), (0, 221, 3, some 0, xM7), (0, 224, 2, some 0, xM92), (0, 240, 2, some 6, xM101), (0, 260, 4, some 8, xM115)], [], [], [])
set_option maxRecDepth 100000 in
set_option maxHeartbeats 4000000 in
theorem xk1008 : x_TOK vwCl x_G x_Zs x_Tb x_Nb xM1008 xT1008 := by
  intro p l e s m args below meth c D U hx hb hml hts hown hK hK0 hU hnm hN
  have X : x_cx p s m args c D U xM1008.2.1 xM1008.2.2.1 vwCl x_Tb x_Nb xM1008.1.cls := ⟨hx, hb, hml, hown, hts, hK, hK0, hU, hN, x_Tb_good, x_Nb_ok⟩
  exact ⟨(x_cons (fl8 hts) (x_cons (fl102 hts) (x_cons (fl205 hts) x_nilm))), x_nilm, x_nilm, x_nilm, x_nilm, x_nilm, x_nilm, (x_cons (x_cokV (ci := 2) X xm40 rfl rfl rfl (x_cons (x_at 536 (by decide +kernel) rfl) (x_cons (x_at 537 (by decide +kernel) rfl) (x_cons (x_at 538 (by decide +kernel) rfl) (x_cons (x_at 66 (by decide +kernel) rfl) x_nilm)))) (x_at 539 (by decide +kernel) rfl) (by decide +kernel) ⟨Nat.le_of_ble_eq_true rfl, Nat.le_of_ble_eq_true rfl⟩) (x_cons (x_cokV (ci := 2) X xm67 rfl rfl rfl (x_cons (x_at 738 (by decide +kernel) rfl) (x_cons (x_at 739 (by decide +kernel) rfl) (x_cons (x_at 740 (by decide +kernel) rfl) (x_cons (x_at 66 (by decide +kernel) rfl) x_nilm)))) (x_at 741 (by decide +kernel) rfl) (by decide +kernel) ⟨Nat.le_of_ble_eq_true rfl, Nat.le_of_ble_eq_true rfl⟩) (x_cons (x_cokV (ci := 11) X xm1000 rfl rfl rfl (x_cons (x_at 764 (by decide +kernel) rfl) (x_cons (x_at 766 (by decide +kernel) rfl) (x_cons (x_at 13 (by decide +kernel) rfl) (x_cons (x_at 65 (by decide +kernel) rfl) x_nilm)))) (x_at 767 (by decide +kernel) rfl) (by decide +kernel) ⟨Nat.le_of_ble_eq_true rfl, Nat.le_of_ble_eq_true rfl⟩) (x_cons (x_cokV (ci := 11) X xm7 rfl rfl rfl (x_cons (x_at 379 (by decide +kernel) rfl) (x_cons (x_at 381 (by decide +kernel) rfl) (x_cons (x_at 2 (by decide +kernel) rfl) (x_cons (x_at 65 (by decide +kernel) rfl) x_nilm)))) (x_at 382 (by decide +kernel) rfl) (by decide +kernel) ⟨Nat.le_of_ble_eq_true rfl, Nat.le_of_ble_eq_true rfl⟩) (x_cons (x_cokV (ci := 11) X xm92 rfl rfl rfl (x_cons (x_at 849 (by decide +kernel) rfl) (x_cons (x_at 851 (by decide +kernel) rfl) (x_cons (x_at 17 (by decide +kernel) rfl) (x_cons (x_at 65 (by decide +kernel) rfl) x_nilm)))) (x_at 852 (by decide +kernel) rfl) (by decide +kernel) ⟨Nat.le_of_ble_eq_true rfl, Nat.le_of_ble_eq_true rfl⟩) (x_cons (x_cokV (ci := 0) X xm101 rfl rfl rfl (x_cons (x_at 886 (by decide +kernel) rfl) (x_cons (x_at 887 (by decide +kernel) rfl) (x_cons (x_at 888 (by decide +kernel) rfl) (x_cons (x_at 70 (by decide +kernel) rfl) x_nilm)))) (x_at 889 (by decide +kernel) rfl) (by decide +kernel) ⟨Nat.le_of_ble_eq_true rfl, Nat.le_of_ble_eq_true rfl⟩) (x_cons (x_cokV (ci := 5) X xm115 rfl rfl rfl (x_cons (x_at 933 (by decide +kernel) rfl) (x_cons (x_at 934 (by decide +kernel) rfl) (x_cons (x_at 935 (by decide +kernel) rfl) (x_cons (x_at 72 (by decide +kernel) rfl) x_nilm)))) (x_at 936 (by decide +kernel) rfl) (by decide +kernel) ⟨Nat.le_of_ble_eq_true rfl, Nat.le_of_ble_eq_true rfl⟩) x_nilm))))))), x_nilm, x_nilm, x_nilm⟩
set_option maxRecDepth 1000000 in
theorem xm1008 : x_Met vwCl x_G x_Zs x_Tb x_Nb xM1008 := x_main xT1008 [] [] 2500 (by decide +kernel) (by decide +kernel) xk1008 (by decide +kernel)
end
section

def z_bitsN (x : Int32) : Nat → Int32
  | 0 => 0
  | i + 1 => z_bitsN x i + ((x >>> (nI i &&& 31)) &&& 1)
def z_bits (x : Int32) : Int32 := z_bitsN x 10
def z_Pbits : yP := fun _ av _ _ v _ _ => ∀ x : Int32, av = [.int x] → v = some (.int (z_bits x))
def z_step (a b : Int32) : Prop := z_bits (a ^^^ b) = 1 ∨ z_bits (a ^^^ b) = 2
theorem z_step_symm {a b : Int32} (h : z_step a b) : z_step b a := by
  unfold z_step at h ⊢
  rw [Int32.xor_comm b a]; exact h
def z_Pstep : yP := fun _ av _ _ v _ _ => ∀ a b : Int32, av = [.int a, .int b] → (v = some (.int 1) ∧ z_step a b) ∨ (v = some (.int 0) ∧ ¬ z_step a b)
theorem bi_d0 : decode xM189.2.1 0 = .ok (.iconst 0, 1) := by decide +kernel
theorem bi_d1 : decode xM189.2.1 1 = .ok (.istore_n 1, 1) := by decide +kernel
theorem bi_d2 : decode xM189.2.1 2 = .ok (.iconst 0, 1) := by decide +kernel
theorem bi_d3 : decode xM189.2.1 3 = .ok (.istore_n 2, 1) := by decide +kernel
theorem bi_d4 : decode xM189.2.1 4 = .ok (.iload_n 2, 1) := by decide +kernel
theorem bi_d5 : decode xM189.2.1 5 = .ok (.bipush 10, 2) := by decide +kernel
theorem bi_d7 : decode xM189.2.1 7 = .ok (.if_icmp .ge 17, 3) := by decide +kernel
theorem bi_d10 : decode xM189.2.1 10 = .ok (.iload_n 1, 1) := by decide +kernel
theorem bi_d11 : decode xM189.2.1 11 = .ok (.iload_n 0, 1) := by decide +kernel
theorem bi_d12 : decode xM189.2.1 12 = .ok (.iload_n 2, 1) := by decide +kernel
theorem bi_d13 : decode xM189.2.1 13 = .ok (.ishr, 1) := by decide +kernel
theorem bi_d14 : decode xM189.2.1 14 = .ok (.iconst 1, 1) := by decide +kernel
theorem bi_d15 : decode xM189.2.1 15 = .ok (.iand, 1) := by decide +kernel
theorem bi_d16 : decode xM189.2.1 16 = .ok (.iadd, 1) := by decide +kernel
theorem bi_d17 : decode xM189.2.1 17 = .ok (.istore_n 1, 1) := by decide +kernel
theorem bi_d18 : decode xM189.2.1 18 = .ok (.iinc 2 1, 3) := by decide +kernel
theorem bi_d21 : decode xM189.2.1 21 = .ok (.goto (-17), 3) := by decide +kernel
theorem bi_d24 : decode xM189.2.1 24 = .ok (.iload_n 1, 1) := by decide +kernel
theorem bi_d25 : decode xM189.2.1 25 = .ok (.ireturn, 1) := by decide +kernel
theorem bi_loop {p : Program} {l : Launch} {e : Env} {s : State} {m : MethodId} {below : List Frame} {meth : Method} {c : Code} {D : va_G} {U : State} {Y0 : xY} {av : List Value} (B : y_B vwCl x_Tb x_Nb xM189 p s m meth c D U Y0 av) (hI : x_I D x_G x_Zs U (x_efs xM189) Y0 s.heap Y0 s.heap []) {x : Int32} (hav : av = [.int x]) : ∀ (j i : Nat), i + j = 10 → ∀ (ls : Array Slot) (n k : Int32), lv_has ls xM189.2.2.1 [(2, .int k), (1, .int n), (0, .int x)] → k = nI i → n = z_bitsN x i → W p l e (x_rm xM189) s m av.toArray below meth c s.heap [] 0 0 (y_QQ below D x_G x_Zs U xM189 z_Pbits av Y0 s) (F0 m 4 ls []) := by
  have X := B.1
  have hx := X.1
  have hb := X.2.1
  have hY0 := B.2.2.2.2.1
  intro j
  induction j with
  | zero =>
    intro i hij ls n k hl hk hn
    have h_k : k.toInt = i := by rw [hk]; exact nI_toInt (by omega)
    refine lv_iload_n hx hb bi_d4 rfl (lv_at hl 0 rfl) ?_
    refine lv_bipush hx hb bi_d5 (v := 10) (by decide) ?_
    have ec10 : (10 : Int32).toInt = 10 := by decide
    refine lv_icmp_ge hx hb bi_d7 (tgt := 24) (by decide) (fun q7 => ?_) (fun q7 => ?_)
    · have q7_ : (10 : Int32).toInt ≤ k.toInt := x_le32.mp q7
      refine lv_iload_n hx hb bi_d24 rfl (lv_at hl 1 rfl) ?_
      have hi : i = 10 := by omega
      subst hi
      exact y_ireturn B hI rfl rfl rfl List.mem_cons_self ⟨_, rfl, ⟨_, rfl, x_i32 _⟩⟩ B.2.2.2.2.2 (fun y hy => by rw [hav] at hy; cases hy; rw [hn]; rfl) (Nat.le_refl _) (Nat.le_refl _) bi_d25
    · have q7_ : k.toInt < (10 : Int32).toInt := Int.not_le.mp fun q => q7 (x_le32.mpr q)
      exfalso; omega
  | succ j ih =>
    intro i hij ls n k hl hk hn
    have h_k : k.toInt = i := by rw [hk]; exact nI_toInt (by omega)
    refine lv_iload_n hx hb bi_d4 rfl (lv_at hl 0 rfl) ?_
    refine lv_bipush hx hb bi_d5 (v := 10) (by decide) ?_
    have ec10 : (10 : Int32).toInt = 10 := by decide
    refine lv_icmp_ge hx hb bi_d7 (tgt := 24) (by decide) (fun q7 => ?_) (fun q7 => ?_)
    · have q7_ : (10 : Int32).toInt ≤ k.toInt := x_le32.mp q7
      refine lv_iload_n hx hb bi_d24 rfl (lv_at hl 1 rfl) ?_
      have hi : i = 10 := by omega
      subst hi
      exact y_ireturn B hI rfl rfl rfl List.mem_cons_self ⟨_, rfl, ⟨_, rfl, x_i32 _⟩⟩ B.2.2.2.2.2 (fun y hy => by rw [hav] at hy; cases hy; rw [hn]; rfl) (Nat.le_refl _) (Nat.le_refl _) bi_d25
    · have q7_ : k.toInt < (10 : Int32).toInt := Int.not_le.mp fun q => q7 (x_le32.mpr q)
      refine lv_iload_n hx hb bi_d10 rfl (lv_at hl 1 rfl) ?_
      refine lv_iload_n hx hb bi_d11 rfl (lv_at hl 2 rfl) ?_
      refine lv_iload_n hx hb bi_d12 rfl (lv_at hl 0 rfl) ?_
      refine lv_ishr hx hb bi_d13 ?_
      generalize hg_z13 : x >>> (k &&& 31) = z13
      refine lv_iconst hx hb bi_d14 (v := 1) (by decide) ?_
      have ec1 : (1 : Int32).toInt = 1 := by decide
      refine lv_iand hx hb bi_d15 ?_
      generalize hg_z15 : z13 &&& (1 : Int32) = z15
      refine lv_iadd hx hb bi_d16 ?_
      generalize hg_z16 : n + z15 = z16
      refine lv_istore_n hx hb bi_d17 rfl hl (by decide) (lv' := [(1, .int z16), (2, .int k), (0, .int x)]) rfl fun ls hl => ?_
      obtain ⟨z18, hg_z18⟩ : ∃ z18 : Int32, k + Int32.ofInt 1 = z18 := ⟨_, rfl⟩
      have h_z18 : z18.toInt = k.toInt + 1 := by rw [← hg_z18]; exact y_inc (by decide) (by omega) (by omega)
      refine lv_iinc hx hb bi_d18 hl (k := 1) rfl hg_z18 (by decide) (lv' := [(2, .int z18), (1, .int z16), (0, .int x)]) rfl fun ls hl => ?_
      refine lv_goto hx hb bi_d21 (tgt := 4) (by decide) ?_
      exact ih (i + 1) (by omega) _ _ _ hl (Int32.toInt_inj.mp (by rw [nI_toInt (by omega)]; omega)) (by subst hn; rw [hk] at hg_z13; rw [← hg_z16, ← hg_z15, ← hg_z13]; rfl)
theorem ym_bits : y_Met vwCl x_G x_Zs x_Tb x_Nb xM189 y_T z_Pbits := by
  refine y_main (by decide +kernel) (by decide +kernel) x_Tb_good x_Nb_ok ?_
  intro p l e s m below meth c D U Y0 av ls B hI _ hl
  have X := B.1
  have hx := X.1
  have hb := X.2.1
  have hY0 := B.2.2.2.2.1
  obtain ⟨v0, rfl, ⟨x, rfl, -⟩⟩ := x_one B.2.2.2.2.2
  replace hl : lv_has ls xM189.2.2.1 [(0, .int x)] := hl
  refine lv_iconst hx hb bi_d0 (v := 0) (by decide) ?_
  have ec0 : (0 : Int32).toInt = 0 := by decide
  refine lv_istore_n hx hb bi_d1 rfl hl (by decide) (lv' := [(1, .int (0 : Int32)), (0, .int x)]) rfl fun ls hl => ?_
  refine lv_iconst hx hb bi_d2 (v := 0) (by decide) ?_
  refine lv_istore_n hx hb bi_d3 rfl hl (by decide) (lv' := [(2, .int (0 : Int32)), (1, .int (0 : Int32)), (0, .int x)]) rfl fun ls hl => ?_
  exact bi_loop B hI rfl 10 0 rfl _ _ _ hl (by decide) rfl
theorem is_d0 : decode xM205.2.1 0 = .ok (.iload_n 0, 1) := by decide +kernel
theorem is_d1 : decode xM205.2.1 1 = .ok (.iload_n 1, 1) := by decide +kernel
theorem is_d2 : decode xM205.2.1 2 = .ok (.ixor, 1) := by decide +kernel
theorem is_d3 : decode xM205.2.1 3 = .ok (.invokestatic 148, 3) := by decide +kernel
theorem is_d6 : decode xM205.2.1 6 = .ok (.istore_n 2, 1) := by decide +kernel
theorem is_d7 : decode xM205.2.1 7 = .ok (.iload_n 2, 1) := by decide +kernel
theorem is_d8 : decode xM205.2.1 8 = .ok (.iconst 1, 1) := by decide +kernel
theorem is_d9 : decode xM205.2.1 9 = .ok (.if_icmp .eq 8, 3) := by decide +kernel
theorem is_d12 : decode xM205.2.1 12 = .ok (.iload_n 2, 1) := by decide +kernel
theorem is_d13 : decode xM205.2.1 13 = .ok (.iconst 2, 1) := by decide +kernel
theorem is_d14 : decode xM205.2.1 14 = .ok (.if_icmp .ne 7, 3) := by decide +kernel
theorem is_d17 : decode xM205.2.1 17 = .ok (.iconst 1, 1) := by decide +kernel
theorem is_d18 : decode xM205.2.1 18 = .ok (.goto 4, 3) := by decide +kernel
theorem is_d21 : decode xM205.2.1 21 = .ok (.iconst 0, 1) := by decide +kernel
theorem is_d22 : decode xM205.2.1 22 = .ok (.ireturn, 1) := by decide +kernel
theorem ym_isStep : y_Met vwCl x_G x_Zs x_Tb x_Nb xM205 y_T z_Pstep := by
  refine y_main (by decide +kernel) (by decide +kernel) x_Tb_good x_Nb_ok ?_
  intro p l e s m below meth c D U Y0 av ls B hI _ hl
  have X := B.1
  have hx := X.1
  have hb := X.2.1
  have hY0 := B.2.2.2.2.1
  obtain ⟨v0, v1, rfl, ⟨a, rfl, -⟩, ⟨b, rfl, -⟩⟩ := x_two B.2.2.2.2.2
  replace hl : lv_has ls xM205.2.2.1 [(0, .int a), (1, .int b)] := hl
  refine lv_iload_n hx hb is_d0 rfl (lv_at hl 0 rfl) ?_
  refine lv_iload_n hx hb is_d1 rfl (lv_at hl 1 rfl) ?_
  refine lv_ixor hx hb is_d2 ?_
  generalize hg_z2 : a ^^^ b = z2
  refine y_call (z := (1, 148, 1, none, xM189)) (av := [.int z2]) (rest := []) (y_cokS (n := 1) X ym_bits (x_cons (x_at 1316 (by decide +kernel) rfl) (x_cons (x_at 1317 (by decide +kernel) rfl) (x_cons (x_at 73 (by decide +kernel) rfl) x_nilm))) (x_at 1318 (by decide +kernel) rfl) (by decide +kernel) ⟨Nat.le_of_ble_eq_true rfl, Nat.le_of_ble_eq_true rfl⟩) hY0 hI rfl is_d3 hl.1 (by decide) (Nat.le_of_ble_eq_true rfl) (Nat.le_of_ble_eq_true rfl) (y_cons ⟨_, rfl, x_i32 _⟩ y_nil) rfl (y_norecv rfl) trivial (y_sub_ef rfl) fun v Yn o Hn L ho hr ha hIn hx_ hE hP => ?_
  obtain rfl := hP _ rfl
  clear ho hr ha hE hP hI hx_
  rename x_I _ _ _ _ _ _ _ _ _ _ => hI
  refine lv_istore_n hx hb is_d6 rfl hl (by decide) (lv' := [(2, .int (z_bits z2)), (0, .int a), (1, .int b)]) rfl fun ls hl => ?_
  refine lv_iload_n hx hb is_d7 rfl (lv_at hl 0 rfl) ?_
  refine lv_iconst hx hb is_d8 (v := 1) (by decide) ?_
  have ec1 : (1 : Int32).toInt = 1 := by decide
  refine lv_icmp_eq hx hb is_d9 (tgt := 17) (by decide) (fun q9 => ?_) (fun q9 => ?_)
  · have q9_ : (z_bits z2).toInt = (1 : Int32).toInt := by rw [q9]
    refine lv_iconst hx hb is_d17 (v := 1) (by decide) ?_
    refine lv_goto hx hb is_d18 (tgt := 22) (by decide) ?_
    exact y_ireturn (o := (x_args xM205, some (xI 1 1))) B hI rfl rfl rfl (List.mem_of_getElem? (i := 0) rfl) ⟨_, rfl, ⟨_, rfl, by decide, by decide⟩⟩ (x_cs.mono B.2.2.2.2.2 (y_mon B hI)) (fun a' b' hab => Or.inl ⟨rfl, by cases hab; subst hg_z2; first | exact Or.inl q9 | exact Or.inr q14⟩) (Nat.le_refl _) (Nat.le_refl _) is_d22
  · have q9_ : ¬ (z_bits z2).toInt = (1 : Int32).toInt := fun q => q9 (Int32.toInt_inj.mp q)
    refine lv_iload_n hx hb is_d12 rfl (lv_at hl 0 rfl) ?_
    refine lv_iconst hx hb is_d13 (v := 2) (by decide) ?_
    have ec2 : (2 : Int32).toInt = 2 := by decide
    refine lv_icmp_ne hx hb is_d14 (tgt := 21) (by decide) (fun q14 => ?_) (fun q14 => ?_)
    · have q14_ : ¬ (z_bits z2).toInt = (2 : Int32).toInt := fun q => q14 (Int32.toInt_inj.mp q)
      refine lv_iconst hx hb is_d21 (v := 0) (by decide) ?_
      exact y_ireturn (o := (x_args xM205, some (xI 0 0))) B hI rfl rfl rfl (List.mem_of_getElem? (i := 1) rfl) ⟨_, rfl, ⟨_, rfl, by decide, by decide⟩⟩ (x_cs.mono B.2.2.2.2.2 (y_mon B hI)) (fun a' b' hab => Or.inr ⟨rfl, by cases hab; subst hg_z2; rintro (h | h); exact q9 h; exact q14 h⟩) (Nat.le_refl _) (Nat.le_refl _) is_d22
    · have q14_ : (z_bits z2).toInt = (2 : Int32).toInt := by rw [q14]
      refine lv_iconst hx hb is_d17 (v := 1) (by decide) ?_
      refine lv_goto hx hb is_d18 (tgt := 22) (by decide) ?_
      exact y_ireturn (o := (x_args xM205, some (xI 1 1))) B hI rfl rfl rfl (List.mem_of_getElem? (i := 0) rfl) ⟨_, rfl, ⟨_, rfl, by decide, by decide⟩⟩ (x_cs.mono B.2.2.2.2.2 (y_mon B hI)) (fun a' b' hab => Or.inl ⟨rfl, by cases hab; subst hg_z2; first | exact Or.inl q9 | exact Or.inr q14⟩) (Nat.le_refl _) (Nat.le_refl _) is_d22
def z_all (n : Int32) : Int32 := (1 <<< (n &&& 31)) - 1
def z_Pall : yP := fun D av Y H v _ _ => ∀ (this bk : Nat) (b0 : Int32), av = [.ref this] → x_sl D 12 0 this H = some (.ref bk) → y_at bk 0 H = some (.int b0) → v = some (.int (z_all b0))
theorem al_d0 : decode xM182.2.1 0 = .ok (.iconst 1, 1) := by decide +kernel
theorem al_d1 : decode xM182.2.1 1 = .ok (.aload_n 0, 1) := by decide +kernel
theorem al_d2 : decode xM182.2.1 2 = .ok (.getfield 7, 3) := by decide +kernel
theorem al_d5 : decode xM182.2.1 5 = .ok (.iconst 0, 1) := by decide +kernel
theorem al_d6 : decode xM182.2.1 6 = .ok (.iaload, 1) := by decide +kernel
theorem al_d7 : decode xM182.2.1 7 = .ok (.ishl, 1) := by decide +kernel
theorem al_d8 : decode xM182.2.1 8 = .ok (.iconst 1, 1) := by decide +kernel
theorem al_d9 : decode xM182.2.1 9 = .ok (.isub, 1) := by decide +kernel
theorem al_d10 : decode xM182.2.1 10 = .ok (.ireturn, 1) := by decide +kernel
theorem z_all_b {n : Int32} (h : (0 : Int) ≤ n.toInt ∧ n.toInt ≤ 10) : (0 : Int) ≤ (z_all n).toInt ∧ (z_all n).toInt ≤ 1023 := by
  have : ∀ k : Fin 11, (0 : Int) ≤ (z_all (nI k)).toInt ∧ (z_all (nI k)).toInt ≤ 1023 := by decide
  have e1 : n = nI n.toInt.toNat := Int32.toInt_inj.mp (by rw [nI_toInt (by omega)]; omega)
  rw [e1]
  exact this ⟨n.toInt.toNat, by omega⟩
theorem ym_all : y_Met vwCl x_G x_Zs x_Tb x_Nb xM182 y_T z_Pall := by
  refine y_main (by decide +kernel) (by decide +kernel) x_Tb_good x_Nb_ok ?_
  intro p l e s m below meth c D U Y0 av ls B hI _ hl
  have X := B.1
  have hx := X.1
  have hb := X.2.1
  have hY0 := B.2.2.2.2.1
  obtain ⟨v0, rfl, hv0⟩ := x_one B.2.2.2.2.2
  obtain ⟨this, t0, rfl, ht0, hY_this⟩ := x_ref_at hv0 rfl
  obtain rfl := List.mem_singleton.mp ht0
  replace hl : lv_has ls xM182.2.2.1 [(0, .ref this)] := hl
  refine lv_iconst hx hb al_d0 (v := 1) (by decide) ?_
  have ec1 : (1 : Int32).toInt = 1 := by decide
  refine lv_aload_n hx hb al_d1 rfl (lv_at hl 0 rfl) ?_
  obtain ⟨this_book, hs_this_book, hY_this_book⟩ := y_fldR (k := 0) hI.1 hY_this rfl rfl
  refine y_getf X (fl190 X.2.2.2.2.1) hI.1 hY_this rfl hs_this_book al_d2 ?_
  refine lv_iconst hx hb al_d5 (v := 0) (by decide) ?_
  have ec0 : (0 : Int32).toInt = 0 := by decide
  obtain ⟨f_this_book, hA_this_book, hB_this_book⟩ := y_arr hI.1 hY_this_book rfl rfl
  refine y_iald X hI.1 hY_this_book rfl hA_this_book (by omega) (by show _ < (160 : Int); omega) al_d6 ?_
  obtain ⟨e6, hg_e6⟩ : ∃ e6 : Int32, f_this_book (0 : Int32).toInt.toNat = e6 := ⟨_, rfl⟩
  rw [hg_e6]
  refine lv_ishl hx hb al_d7 ?_
  generalize hg_z7 : (1 : Int32) <<< (e6 &&& 31) = z7
  refine lv_iconst hx hb al_d8 (v := 1) (by decide) ?_
  refine lv_isub hx hb al_d9 ?_
  generalize hg_z9 : z7 - (1 : Int32) = z9
  have hb0 : (0 : Int) ≤ (f_this_book 0).toInt ∧ (f_this_book 0).toInt ≤ 10 := by obtain ⟨x, e0, e1⟩ := hB_this_book 0 (by decide); cases e0; exact e1
  have he : e6 = f_this_book 0 := by rw [← hg_e6]; rfl
  rw [← he] at hb0
  have hz : z9 = z_all e6 := by rw [← hg_z9, ← hg_z7]; rfl
  exact y_ireturn B hI rfl rfl rfl List.mem_cons_self ⟨_, rfl, ⟨_, rfl, by rw [hz]; exact (z_all_b hb0).1, by rw [hz]; exact (z_all_b hb0).2⟩⟩ B.2.2.2.2.2 (fun t bk b0 h1 h2 h3 => by cases h1; cases h2.symm.trans hs_this_book; have := (hA_this_book 0 (by decide)).symm.trans h3; rw [← he] at this; cases this; rw [hz]) (Nat.le_refl _) (Nat.le_refl _) al_d10
end
section
theorem fl209 {s : State} {args : Array Value} (hts : ∀ w ∈ x_Tb, w.before args s = true) : x_fok vwCl x_G x_Tb s args "TwinFiresModel" (41, 17, 19) := ⟨12, _, RX12, TX12, "TwinFiresModel", rfl, rfl, Nat.le_of_ble_eq_true rfl, iX12, (hts _ (x_at 1078 (by decide +kernel) rfl)), fun x h => h⟩
theorem fl210 {s : State} {args : Array Value} (hts : ∀ w ∈ x_Tb, w.before args s = true) : x_fok vwCl x_G x_Tb s args "TwinFiresModel" (44, 17, 20) := ⟨12, _, RX12, TX12, "TwinFiresModel", rfl, rfl, Nat.le_of_ble_eq_true rfl, iX12, (hts _ (x_at 1079 (by decide +kernel) rfl)), fun x h => h⟩
def xMsp : xM := (⟨"TwinFiresModel", "spreads", "(I)V"⟩, prog_14_method_57_code, 6, none, [xR false [17], xI 0 1023], [([xR false [17], xI 0 1023], none)], [(56, 0), (57, 0)], (2, 44, 0, 0), none)
theorem z_stepR {v : Option Value} {a b : Int32} (h : (v = some (.int 1) ∧ z_step a b) ∨ (v = some (.int 0) ∧ ¬ z_step a b)) : ∃ r : Int32, v = some (.int r) ∧ (¬ r = 0 → z_step a b) ∧ (r = 0 → ¬ z_step a b) := by
  rcases h with ⟨h1, h2⟩ | ⟨h1, h2⟩
  · exact ⟨1, h1, fun _ => h2, fun q => absurd q (by decide)⟩
  · exact ⟨0, h1, fun q => absurd rfl q, fun _ => h2⟩
def z_cnt (f : Nat → Int32) : Nat → Nat
  | 0 => 0
  | n + 1 => z_cnt f n + (if (f n).toInt = -1 then 0 else 1)
theorem z_cnt_le (f : Nat → Int32) : ∀ n, z_cnt f n ≤ n
  | 0 => Nat.le_refl _
  | n + 1 => by
    have := z_cnt_le f n
    unfold z_cnt
    split <;> omega
theorem z_cnt_lt {f : Nat → Int32} {j : Nat} (h : (f j).toInt = -1) : ∀ n, j < n → z_cnt f n < n
  | 0, hj => absurd hj (Nat.not_lt_zero _)
  | n + 1, hj => by
    unfold z_cnt
    by_cases e0 : j = n
    · subst e0
      rw [if_pos h]
      have := z_cnt_le f j
      omega
    · have := z_cnt_lt h n (by omega)
      split <;> omega
theorem z_cnt_pos {f : Nat → Int32} {j : Nat} (h : ¬ (f j).toInt = -1) : ∀ n, j < n → 1 ≤ z_cnt f n
  | 0, hj => absurd hj (Nat.not_lt_zero _)
  | n + 1, hj => by
    unfold z_cnt
    by_cases e0 : j = n
    · subst e0
      rw [if_neg h]
      omega
    · have := z_cnt_pos h n (by omega)
      omega
theorem z_cnt_same {f : Nat → Int32} {j : Nat} {v : Int32} : ∀ n, n ≤ j → z_cnt (y_up f j v) n = z_cnt f n
  | 0, _ => rfl
  | n + 1, hj => by
    unfold z_cnt
    rw [z_cnt_same n (by omega), y_up_ne (by omega)]
theorem z_cnt_up {f : Nat → Int32} {j : Nat} {v : Int32} (h : (f j).toInt = -1) (hv : ¬ v.toInt = -1) : ∀ n, j < n → z_cnt (y_up f j v) n = z_cnt f n + 1
  | 0, hj => absurd hj (Nat.not_lt_zero _)
  | n + 1, hj => by
    unfold z_cnt
    by_cases e0 : j = n
    · subst e0
      rw [z_cnt_same j (Nat.le_refl _), y_up_at, if_neg hv, if_pos h]
    · rw [z_cnt_up h hv n (by omega), y_up_ne (fun e1 => e0 e1.symm)]
      omega
def z_Pr (N1 : Int) (gl ff : Nat → Int32) : Prop := ∀ s : Int32, 0 ≤ s.toInt → s.toInt ≤ N1 → 0 < (ff s.toInt.toNat).toInt → ∃ p : Int32, 0 ≤ p.toInt ∧ p.toInt ≤ N1 ∧ ¬ gl p.toInt.toNat = 0 ∧ (ff p.toInt.toNat).toInt = (ff s.toInt.toNat).toInt - 1 ∧ z_step p s
def z_J (good : Prop) (N1 : Int) (gl ff qq : Nat → Int32) (fr : Int32) (tail : Int) : Prop :=
  1 ≤ tail ∧ tail ≤ (z_cnt ff 1024 : Int) ∧ (ff fr.toInt.toNat).toInt = 0 ∧
  (∀ j : Nat, (j : Int) < tail → 0 ≤ (qq j).toInt ∧ (qq j).toInt ≤ 1023 ∧ 0 ≤ (ff (qq j).toInt.toNat).toInt ∧ (ff (qq j).toInt.toNat).toInt ≤ j) ∧ (good → (∀ j : Nat, (j : Int) < tail → (qq j).toInt ≤ N1 ∧ ¬ gl (qq j).toInt.toNat = 0) ∧ z_Pr N1 gl ff)
theorem z_J.room {good : Prop} {N1 : Int} {gl ff qq : Nat → Int32} {fr : Int32} {tail : Int} (h : z_J good N1 gl ff qq fr tail) {to : Int32} (h0 : 0 ≤ to.toInt) (h1 : to.toInt < 1024) (hm : (ff to.toInt.toNat).toInt = -1) : tail < 1024 := by
  have h2 := h.2.1
  have := z_cnt_lt hm 1024 (by omega)
  omega
theorem z_J.push {good : Prop} {N1 : Int} {gl ff qq : Nat → Int32} {fr : Int32} {tail : Int} (h : z_J good N1 gl ff qq fr tail) (hN : N1 ≤ 1023) {to v : Int32} (h0 : 0 ≤ to.toInt) (h1 : to.toInt ≤ N1) (hm : (ff to.toInt.toNat).toInt = -1) (hg : ¬ gl to.toInt.toNat = 0) {hd : Nat} (hh : (hd : Int) < tail) (hv : v.toInt = (ff (qq hd).toInt.toNat).toInt + 1) (hs : z_step (qq hd) to) (hf0 : 0 ≤ fr.toInt) :
    z_J good N1 gl (y_up ff to.toInt.toNat v) (y_up qq tail.toNat to) fr (tail + 1) := by
  obtain ⟨a1, a2, a3, a4, a5⟩ := h
  have hq := a4 hd hh
  have hv1 : ¬ v.toInt = -1 := by omega
  have hne : ∀ s : Int32, 0 ≤ s.toInt → 0 ≤ (ff s.toInt.toNat).toInt → s.toInt.toNat ≠ to.toInt.toNat := fun s _ hs e0 => by rw [e0, hm] at hs; omega
  refine ⟨by omega, ?_, ?_, fun j hj => ?_, fun good => ⟨fun j hj => ?_, fun s s0 s1 s2 => ?_⟩⟩
  · rw [z_cnt_up hm hv1 1024 (by omega)]
    omega
  · rw [y_up_ne (hne fr hf0 (by omega))]; exact a3
  · by_cases ej : j = tail.toNat
    · subst ej
      rw [y_up_at, y_up_at]
      exact ⟨h0, by omega, by omega, by omega⟩
    · rw [y_up_ne ej]
      have hj4 := a4 j (by omega)
      rw [y_up_ne (hne _ hj4.1 hj4.2.2.1)]
      exact hj4
  · by_cases ej : j = tail.toNat
    · subst ej
      rw [y_up_at]
      exact ⟨h1, hg⟩
    · rw [y_up_ne ej]
      exact (a5 good).1 j (by omega)
  · have hq2 := (a5 good).1 hd hh
    by_cases es : s.toInt.toNat = to.toInt.toNat
    · have e1 : s = to := Int32.toInt_inj.mp (by omega)
      subst e1
      rw [y_up_at]
      refine ⟨qq hd, hq.1, hq2.1, hq2.2, ?_, hs⟩
      rw [y_up_ne (hne _ hq.1 hq.2.2.1)]
      omega
    · rw [y_up_ne es] at s2 ⊢
      obtain ⟨p, p0, p1, p2, p3, p4⟩ := (a5 good).2 s s0 s1 s2
      refine ⟨p, p0, p1, p2, ?_, p4⟩
      rw [y_up_ne (hne p p0 (by omega))]
      exact p3
theorem z_J.start {N1 : Int} {gl ff qq : Nat → Int32} {fr : Int32} (hN : N1 ≤ 1023) (h0 : 0 ≤ fr.toInt) (h1 : fr.toInt ≤ 1023) (hf : ∀ s : Nat, (s : Int) ≤ N1 → (ff s).toInt = -1) {z : Int32} (hz : z.toInt = 0) : z_J (fr.toInt ≤ N1 ∧ ¬ gl fr.toInt.toNat = 0) N1 gl (y_up ff fr.toInt.toNat z) (y_up qq 0 fr) fr 1 := by
  refine ⟨by omega, ?_, by rw [y_up_at]; exact hz, fun j hj => ?_, fun good => ⟨fun j hj => ?_, fun s s0 s1 s2 => ?_⟩⟩
  · have := z_cnt_pos (f := y_up ff fr.toInt.toNat z) (j := fr.toInt.toNat) (by rw [y_up_at]; omega) 1024 (by omega)
    omega
  · have e0 : j = 0 := by omega
    subst e0
    rw [y_up_at, y_up_at]
    exact ⟨h0, h1, by omega, by omega⟩
  · have e0 : j = 0 := by omega
    subst e0
    rw [y_up_at]
    exact good
  · by_cases es : s.toInt.toNat = fr.toInt.toNat
    · rw [es, y_up_at] at s2; omega
    · rw [y_up_ne es, hf _ (by omega)] at s2; omega
def z_Pspreads : yP := fun D av Y H v Y' H' => ∀ (this fr lw bk : Nat) (fm : Int32) (gl fb : Nat → Int32), av = [.ref this, .int fm] → x_sl D 12 0 this H = some (.ref bk) → y_A bk 160 H fb → x_sl D 12 18 this H = some (.ref lw) → y_A lw 1024 H gl → x_sl D 12 19 this H = some (.ref fr) → fm.toInt ≤ (z_all (fb 0)).toInt → ¬ gl fm.toInt.toNat = 0 →
  ∃ ff : Nat → Int32, y_A fr 1024 H' ff ∧ (ff fm.toInt.toNat).toInt = 0 ∧ z_Pr (z_all (fb 0)).toInt gl ff
theorem sp_d0 : decode xMsp.2.1 0 = .ok (.iconst 0, 1) := by decide +kernel
theorem sp_d1 : decode xMsp.2.1 1 = .ok (.istore_n 2, 1) := by decide +kernel
theorem sp_d2 : decode xMsp.2.1 2 = .ok (.iload_n 2, 1) := by decide +kernel
theorem sp_d3 : decode xMsp.2.1 3 = .ok (.aload_n 0, 1) := by decide +kernel
theorem sp_d4 : decode xMsp.2.1 4 = .ok (.invokevirtual 91, 3) := by decide +kernel
theorem sp_d7 : decode xMsp.2.1 7 = .ok (.if_icmp .gt 16, 3) := by decide +kernel
theorem sp_d10 : decode xMsp.2.1 10 = .ok (.aload_n 0, 1) := by decide +kernel
theorem sp_d11 : decode xMsp.2.1 11 = .ok (.getfield 41, 3) := by decide +kernel
theorem sp_d14 : decode xMsp.2.1 14 = .ok (.iload_n 2, 1) := by decide +kernel
theorem sp_d15 : decode xMsp.2.1 15 = .ok (.iconst (-1), 1) := by decide +kernel
theorem sp_d16 : decode xMsp.2.1 16 = .ok (.iastore, 1) := by decide +kernel
theorem sp_d17 : decode xMsp.2.1 17 = .ok (.iinc 2 1, 3) := by decide +kernel
theorem sp_d20 : decode xMsp.2.1 20 = .ok (.goto (-18), 3) := by decide +kernel
theorem sp_d23 : decode xMsp.2.1 23 = .ok (.aload_n 0, 1) := by decide +kernel
theorem sp_d24 : decode xMsp.2.1 24 = .ok (.getfield 41, 3) := by decide +kernel
theorem sp_d27 : decode xMsp.2.1 27 = .ok (.iload_n 1, 1) := by decide +kernel
theorem sp_d28 : decode xMsp.2.1 28 = .ok (.iconst 0, 1) := by decide +kernel
theorem sp_d29 : decode xMsp.2.1 29 = .ok (.iastore, 1) := by decide +kernel
theorem sp_d30 : decode xMsp.2.1 30 = .ok (.aload_n 0, 1) := by decide +kernel
theorem sp_d31 : decode xMsp.2.1 31 = .ok (.getfield 44, 3) := by decide +kernel
theorem sp_d34 : decode xMsp.2.1 34 = .ok (.iconst 0, 1) := by decide +kernel
theorem sp_d35 : decode xMsp.2.1 35 = .ok (.iload_n 1, 1) := by decide +kernel
theorem sp_d36 : decode xMsp.2.1 36 = .ok (.iastore, 1) := by decide +kernel
theorem sp_d37 : decode xMsp.2.1 37 = .ok (.iconst 0, 1) := by decide +kernel
theorem sp_d38 : decode xMsp.2.1 38 = .ok (.istore_n 2, 1) := by decide +kernel
theorem sp_d39 : decode xMsp.2.1 39 = .ok (.iconst 1, 1) := by decide +kernel
theorem sp_d40 : decode xMsp.2.1 40 = .ok (.istore_n 3, 1) := by decide +kernel
theorem sp_d41 : decode xMsp.2.1 41 = .ok (.iload_n 2, 1) := by decide +kernel
theorem sp_d42 : decode xMsp.2.1 42 = .ok (.iload_n 3, 1) := by decide +kernel
theorem sp_d43 : decode xMsp.2.1 43 = .ok (.if_icmp .ge 93, 3) := by decide +kernel
theorem sp_d46 : decode xMsp.2.1 46 = .ok (.aload_n 0, 1) := by decide +kernel
theorem sp_d47 : decode xMsp.2.1 47 = .ok (.getfield 44, 3) := by decide +kernel
theorem sp_d50 : decode xMsp.2.1 50 = .ok (.iload_n 2, 1) := by decide +kernel
theorem sp_d51 : decode xMsp.2.1 51 = .ok (.iaload, 1) := by decide +kernel
theorem sp_d52 : decode xMsp.2.1 52 = .ok (.istore 4, 2) := by decide +kernel
theorem sp_d54 : decode xMsp.2.1 54 = .ok (.iinc 2 1, 3) := by decide +kernel
theorem sp_d57 : decode xMsp.2.1 57 = .ok (.iconst 0, 1) := by decide +kernel
theorem sp_d58 : decode xMsp.2.1 58 = .ok (.istore 5, 2) := by decide +kernel
theorem sp_d60 : decode xMsp.2.1 60 = .ok (.iload 5, 2) := by decide +kernel
theorem sp_d62 : decode xMsp.2.1 62 = .ok (.aload_n 0, 1) := by decide +kernel
theorem sp_d63 : decode xMsp.2.1 63 = .ok (.invokevirtual 91, 3) := by decide +kernel
theorem sp_d66 : decode xMsp.2.1 66 = .ok (.if_icmp .gt 67, 3) := by decide +kernel
theorem sp_d69 : decode xMsp.2.1 69 = .ok (.aload_n 0, 1) := by decide +kernel
theorem sp_d70 : decode xMsp.2.1 70 = .ok (.getfield 38, 3) := by decide +kernel
theorem sp_d73 : decode xMsp.2.1 73 = .ok (.iload 5, 2) := by decide +kernel
theorem sp_d75 : decode xMsp.2.1 75 = .ok (.baload, 1) := by decide +kernel
theorem sp_d76 : decode xMsp.2.1 76 = .ok (.ifCond .eq 51, 3) := by decide +kernel
theorem sp_d79 : decode xMsp.2.1 79 = .ok (.aload_n 0, 1) := by decide +kernel
theorem sp_d80 : decode xMsp.2.1 80 = .ok (.getfield 41, 3) := by decide +kernel
theorem sp_d83 : decode xMsp.2.1 83 = .ok (.iload 5, 2) := by decide +kernel
theorem sp_d85 : decode xMsp.2.1 85 = .ok (.iaload, 1) := by decide +kernel
theorem sp_d86 : decode xMsp.2.1 86 = .ok (.iconst (-1), 1) := by decide +kernel
theorem sp_d87 : decode xMsp.2.1 87 = .ok (.if_icmp .ne 40, 3) := by decide +kernel
theorem sp_d90 : decode xMsp.2.1 90 = .ok (.iload 4, 2) := by decide +kernel
theorem sp_d92 : decode xMsp.2.1 92 = .ok (.iload 5, 2) := by decide +kernel
theorem sp_d94 : decode xMsp.2.1 94 = .ok (.invokestatic 257, 3) := by decide +kernel
theorem sp_d97 : decode xMsp.2.1 97 = .ok (.ifCond .eq 30, 3) := by decide +kernel
theorem sp_d100 : decode xMsp.2.1 100 = .ok (.aload_n 0, 1) := by decide +kernel
theorem sp_d101 : decode xMsp.2.1 101 = .ok (.getfield 41, 3) := by decide +kernel
theorem sp_d104 : decode xMsp.2.1 104 = .ok (.iload 5, 2) := by decide +kernel
theorem sp_d106 : decode xMsp.2.1 106 = .ok (.aload_n 0, 1) := by decide +kernel
theorem sp_d107 : decode xMsp.2.1 107 = .ok (.getfield 41, 3) := by decide +kernel
theorem sp_d110 : decode xMsp.2.1 110 = .ok (.iload 4, 2) := by decide +kernel
theorem sp_d112 : decode xMsp.2.1 112 = .ok (.iaload, 1) := by decide +kernel
theorem sp_d113 : decode xMsp.2.1 113 = .ok (.iconst 1, 1) := by decide +kernel
theorem sp_d114 : decode xMsp.2.1 114 = .ok (.iadd, 1) := by decide +kernel
theorem sp_d115 : decode xMsp.2.1 115 = .ok (.iastore, 1) := by decide +kernel
theorem sp_d116 : decode xMsp.2.1 116 = .ok (.aload_n 0, 1) := by decide +kernel
theorem sp_d117 : decode xMsp.2.1 117 = .ok (.getfield 44, 3) := by decide +kernel
theorem sp_d120 : decode xMsp.2.1 120 = .ok (.iload_n 3, 1) := by decide +kernel
theorem sp_d121 : decode xMsp.2.1 121 = .ok (.iload 5, 2) := by decide +kernel
theorem sp_d123 : decode xMsp.2.1 123 = .ok (.iastore, 1) := by decide +kernel
theorem sp_d124 : decode xMsp.2.1 124 = .ok (.iinc 3 1, 3) := by decide +kernel
theorem sp_d127 : decode xMsp.2.1 127 = .ok (.iinc 5 1, 3) := by decide +kernel
theorem sp_d130 : decode xMsp.2.1 130 = .ok (.goto (-70), 3) := by decide +kernel
theorem sp_d133 : decode xMsp.2.1 133 = .ok (.goto (-92), 3) := by decide +kernel
theorem sp_d136 : decode xMsp.2.1 136 = .ok (.return_, 1) := by decide +kernel
theorem sp_in {p : Program} {l : Launch} {e : Env} {s : State} {m : MethodId} {below : List Frame} {meth : Method} {c : Code} {D : va_G} {U : State} {Y0 : xY} {av : List Value} (B : y_B vwCl x_Tb x_Nb xMsp p s m meth c D U Y0 av) {this fr qu lw bk : Nat} {fm : Int32} {gl fb : Nat → Int32} (hav : av = [.ref this, .int fm]) (hN : 0 ≤ (z_all (fb 0)).toInt ∧ (z_all (fb 0)).toInt ≤ 1023) (hfm : 0 ≤ fm.toInt ∧ fm.toInt ≤ 1023) (hB_lw : ∀ j, j < 1024 → (0 : Int) ≤ (gl j).toInt ∧ (gl j).toInt ≤ 1) {set head : Int32} {hd : Nat} (hset0 : 0 ≤ set.toInt ∧ set.toInt ≤ 1023)
    (out : ∀ (H : Heap) (Y : xY) (locs : List Loc) (ls : Array Slot) (tail : Int32) (ff qq : Nat → Int32), x_I D x_G x_Zs U (x_efs xMsp) Y0 s.heap Y H locs → Y this = some 17 → Y fr = some 56 → Y qu = some 57 → Y lw = some 55 → Y bk = some 46 → x_sl D 12 19 this H = some (.ref fr) → x_sl D 12 20 this H = some (.ref qu) → x_sl D 12 18 this H = some (.ref lw) → x_sl D 12 0 this H = some (.ref bk) → y_A fr 1024 H ff → y_A qu 1024 H qq → y_A lw 1024 H gl → y_A bk 160 H fb → lv_has ls xMsp.2.2.1 [(3, .int tail), (2, .int head), (0, .ref this), (1, .int fm)] → (∀ j, j < 1024 → (0 : Int) ≤ (qq j).toInt ∧ (qq j).toInt ≤ 1023) → z_J (fm.toInt ≤ (z_all (fb 0)).toInt ∧ ¬ gl fm.toInt.toNat = 0) (z_all (fb 0)).toInt gl ff qq fm tail.toInt → W p l e (x_rm xMsp) s m av.toArray below meth c H locs 0 0 (y_QQ below D x_G x_Zs U xMsp z_Pspreads av Y0 s) (F0 m 41 ls [])) :
    ∀ (n : Nat) (H : Heap) (Y : xY) (locs : List Loc) (ls : Array Slot) (tail to : Int32) (ff qq : Nat → Int32), x_I D x_G x_Zs U (x_efs xMsp) Y0 s.heap Y H locs → Y this = some 17 → Y fr = some 56 → Y qu = some 57 → Y lw = some 55 → Y bk = some 46 → x_sl D 12 19 this H = some (.ref fr) → x_sl D 12 20 this H = some (.ref qu) → x_sl D 12 18 this H = some (.ref lw) → x_sl D 12 0 this H = some (.ref bk) → y_A fr 1024 H ff → y_A qu 1024 H qq → y_A lw 1024 H gl → y_A bk 160 H fb → lv_has ls xMsp.2.2.1 [(5, .int to), (4, .int set), (2, .int head), (3, .int tail), (0, .ref this), (1, .int fm)] → (∀ j, j < 1024 → (0 : Int) ≤ (qq j).toInt ∧ (qq j).toInt ≤ 1023) → z_J (fm.toInt ≤ (z_all (fb 0)).toInt ∧ ¬ gl fm.toInt.toNat = 0) (z_all (fb 0)).toInt gl ff qq fm tail.toInt → set = qq hd → (hd : Int) < tail.toInt → 0 ≤ to.toInt → to.toInt ≤ 1024 → (1024 - to.toInt).toNat < n → W p l e (x_rm xMsp) s m av.toArray below meth c H locs 0 0 (y_QQ below D x_G x_Zs U xMsp z_Pspreads av Y0 s) (F0 m 60 ls []) := by
  have X := B.1
  have hx := X.1
  have hb := X.2.1
  have hY0 := B.2.2.2.2.1
  intro n
  induction n with
  | zero => intro H Y locs ls tail to ff qq _ _ _ _ _ _ _ _ _ _ _ _ _ _ _ _ _ _ _ _ _ h; exact absurd h (Nat.not_lt_zero _)
  | succ n ih =>
    intro H Y locs ls tail to ff qq hI hY_this hY_fr hY_qu hY_lw hY_bk hs_far hs_queue hs_laws hs_book hA_fr hA_qu hA_lw hA_bk hl hB_qu hJ hset hhd h_to0 h_to1 hn
    have hB_fr := ()
    have hB_bk := ()
    have hJ1 := hJ.1
    have hJ2 : tail.toInt ≤ 1024 := Int.le_trans hJ.2.1 (Int.ofNat_le.mpr (z_cnt_le ff 1024))
    refine lv_iload hx hb sp_d60 (lv_at hl 0 rfl) ?_
    refine lv_aload_n hx hb sp_d62 rfl (lv_at hl 4 rfl) ?_
    refine y_call (z := (0, 91, 1, some 17, xM182)) (av := [.ref this]) (rest := [.int to]) (y_cokV (n := 0) (ci := 12) X ym_all rfl rfl rfl (x_cons (x_at 1300 (by decide +kernel) rfl) (x_cons (x_at 1302 (by decide +kernel) rfl) (x_cons (x_at 49 (by decide +kernel) rfl) (x_cons (x_at 73 (by decide +kernel) rfl) x_nilm)))) (x_at 1303 (by decide +kernel) rfl) (by decide +kernel) ⟨Nat.le_of_ble_eq_true rfl, Nat.le_of_ble_eq_true rfl⟩) hY0 hI rfl sp_d63 hl.1 (Nat.le_of_ble_eq_true rfl) (Nat.le_of_ble_eq_true rfl) (Nat.le_of_ble_eq_true rfl) (y_cons (y_cref hY_this rfl) y_nil) rfl (y_recv rfl hY_this) trivial (y_sub_ef rfl) fun v Yn o Hn L ho hr ha hIn hx_ hE hP => ?_
    have hPv := hP _ _ _ rfl hs_book (hA_bk 0 (by decide))
    replace hs_far := y_Efld hE hY_this rfl (by decide) (by decide) hs_far
    replace hs_queue := y_Efld hE hY_this rfl (by decide) (by decide) hs_queue
    replace hs_laws := y_Efld hE hY_this rfl (by decide) (by decide) hs_laws
    replace hs_book := y_Efld hE hY_this rfl (by decide) (by decide) hs_book
    replace hA_fr := hA_fr.kept (y_Earr hE hY_fr rfl (by decide))
    replace hA_qu := hA_qu.kept (y_Earr hE hY_qu rfl (by decide))
    replace hA_lw := hA_lw.kept (y_Earr hE hY_lw rfl (by decide))
    replace hA_bk := hA_bk.kept (y_Earr hE hY_bk rfl (by decide))
    replace hY_this := y_ext hx_ hI.1 hY_this
    replace hY_fr := y_ext hx_ hI.1 hY_fr
    replace hY_qu := y_ext hx_ hI.1 hY_qu
    replace hY_lw := y_ext hx_ hI.1 hY_lw
    replace hY_bk := y_ext hx_ hI.1 hY_bk
    obtain rfl := hPv
    clear ho hr ha hE hP hI hx_
    rename x_I _ _ _ _ _ _ _ _ _ _ => hI
    refine lv_icmp_gt hx hb sp_d66 (tgt := 133) (by decide) (fun q66 => ?_) (fun q66 => ?_)
    · have q66_ : (z_all (fb 0)).toInt < to.toInt := x_lt32.mp q66
      refine lv_goto hx hb sp_d133 (tgt := 41) (by decide) ?_
      exact out _ _ _ _ _ _ _ hI hY_this hY_fr hY_qu hY_lw hY_bk hs_far hs_queue hs_laws hs_book hA_fr hA_qu hA_lw hA_bk (lv_sub hl [3, 2, 4, 5] rfl) hB_qu hJ
    · have q66_ : to.toInt ≤ (z_all (fb 0)).toInt := Int.not_lt.mp fun q => q66 (x_lt32.mpr q)
      refine lv_aload_n hx hb sp_d69 rfl (lv_at hl 4 rfl) ?_
      refine y_getf X (fl200 X.2.2.2.2.1) hI.1 hY_this rfl hs_laws sp_d70 ?_
      refine lv_iload hx hb sp_d73 (lv_at hl 0 rfl) ?_
      refine y_zald X hI.1 hY_lw rfl hA_lw (by omega) (by show _ < (1024 : Int); omega) sp_d75 ?_
      obtain ⟨e75, hg_e75⟩ : ∃ e75 : Int32, gl to.toInt.toNat = e75 := ⟨_, rfl⟩
      rw [hg_e75]
      have h_e75 : (0 : Int) ≤ e75.toInt ∧ e75.toInt ≤ 1 := by rw [← hg_e75]; exact hB_lw _ (by omega)
      have ec0 : (0 : Int32).toInt = 0 := by decide
      refine lv_if_eq hx hb sp_d76 (tgt := 127) (by decide) (fun q76 => ?_) (fun q76 => ?_)
      · have q76_ : e75.toInt = (0 : Int32).toInt := by rw [q76]
        obtain ⟨z127, hg_z127⟩ : ∃ z127 : Int32, to + Int32.ofInt 1 = z127 := ⟨_, rfl⟩
        have h_z127 : z127.toInt = to.toInt + 1 := by rw [← hg_z127]; exact y_inc (by decide) (by omega) (by omega)
        refine lv_iinc hx hb sp_d127 hl (k := 0) rfl hg_z127 (by decide) (lv' := [(5, .int z127), (4, .int set), (2, .int head), (3, .int tail), (0, .ref this), (1, .int fm)]) rfl fun ls hl => ?_
        refine lv_goto hx hb sp_d130 (tgt := 60) (by decide) ?_
        exact ih _ _ _ _ _ _ _ _ hI hY_this hY_fr hY_qu hY_lw hY_bk hs_far hs_queue hs_laws hs_book hA_fr hA_qu hA_lw hA_bk hl hB_qu hJ hset hhd (by omega) (by omega) (by omega)
      · have q76_ : ¬ e75.toInt = (0 : Int32).toInt := fun q => q76 (Int32.toInt_inj.mp q)
        refine lv_aload_n hx hb sp_d79 rfl (lv_at hl 4 rfl) ?_
        refine y_getf X (fl209 X.2.2.2.2.1) hI.1 hY_this rfl hs_far sp_d80 ?_
        refine lv_iload hx hb sp_d83 (lv_at hl 0 rfl) ?_
        refine y_iald X hI.1 hY_fr rfl hA_fr (by omega) (by show _ < (1024 : Int); omega) sp_d85 ?_
        obtain ⟨e85, hg_e85⟩ : ∃ e85 : Int32, ff to.toInt.toNat = e85 := ⟨_, rfl⟩
        rw [hg_e85]
        refine lv_iconst hx hb sp_d86 (v := (-1)) (by decide) ?_
        have ecm1 : ((-1) : Int32).toInt = (-1) := by decide
        refine lv_icmp_ne hx hb sp_d87 (tgt := 127) (by decide) (fun q87 => ?_) (fun q87 => ?_)
        · have q87_ : ¬ e85.toInt = ((-1) : Int32).toInt := fun q => q87 (Int32.toInt_inj.mp q)
          obtain ⟨z127, hg_z127⟩ : ∃ z127 : Int32, to + Int32.ofInt 1 = z127 := ⟨_, rfl⟩
          have h_z127 : z127.toInt = to.toInt + 1 := by rw [← hg_z127]; exact y_inc (by decide) (by omega) (by omega)
          refine lv_iinc hx hb sp_d127 hl (k := 0) rfl hg_z127 (by decide) (lv' := [(5, .int z127), (4, .int set), (2, .int head), (3, .int tail), (0, .ref this), (1, .int fm)]) rfl fun ls hl => ?_
          refine lv_goto hx hb sp_d130 (tgt := 60) (by decide) ?_
          exact ih _ _ _ _ _ _ _ _ hI hY_this hY_fr hY_qu hY_lw hY_bk hs_far hs_queue hs_laws hs_book hA_fr hA_qu hA_lw hA_bk hl hB_qu hJ hset hhd (by omega) (by omega) (by omega)
        · have q87_ : e85.toInt = ((-1) : Int32).toInt := by rw [q87]
          refine lv_iload hx hb sp_d90 (lv_at hl 1 rfl) ?_
          refine lv_iload hx hb sp_d92 (lv_at hl 0 rfl) ?_
          refine y_call (z := (1, 257, 2, none, xM205)) (av := [.int set, .int to]) (rest := []) (y_cokS (n := 2) X ym_isStep (x_cons (x_at 1377 (by decide +kernel) rfl) (x_cons (x_at 1378 (by decide +kernel) rfl) (x_cons (x_at 73 (by decide +kernel) rfl) x_nilm))) (x_at 1379 (by decide +kernel) rfl) (by decide +kernel) ⟨Nat.le_of_ble_eq_true rfl, Nat.le_of_ble_eq_true rfl⟩) hY0 hI rfl sp_d94 hl.1 (Nat.le_of_ble_eq_true rfl) (Nat.le_of_ble_eq_true rfl) (Nat.le_of_ble_eq_true rfl) (y_cons ⟨_, rfl, x_i32 _⟩ (y_cons ⟨_, rfl, x_i32 _⟩ y_nil)) rfl (y_norecv rfl) trivial (y_sub_ef rfl) fun v Yn o Hn L ho hr ha hIn hx_ hE hP => ?_
          replace hs_far := y_Efld hE hY_this rfl (by decide) (by decide) hs_far
          replace hs_queue := y_Efld hE hY_this rfl (by decide) (by decide) hs_queue
          replace hs_laws := y_Efld hE hY_this rfl (by decide) (by decide) hs_laws
          replace hs_book := y_Efld hE hY_this rfl (by decide) (by decide) hs_book
          replace hA_fr := hA_fr.kept (y_Earr hE hY_fr rfl (by decide))
          replace hA_qu := hA_qu.kept (y_Earr hE hY_qu rfl (by decide))
          replace hA_lw := hA_lw.kept (y_Earr hE hY_lw rfl (by decide))
          replace hA_bk := hA_bk.kept (y_Earr hE hY_bk rfl (by decide))
          replace hY_this := y_ext hx_ hI.1 hY_this
          replace hY_fr := y_ext hx_ hI.1 hY_fr
          replace hY_qu := y_ext hx_ hI.1 hY_qu
          replace hY_lw := y_ext hx_ hI.1 hY_lw
          replace hY_bk := y_ext hx_ hI.1 hY_bk
          obtain ⟨r94, rfl, hst_r94, hns_r94⟩ : ∃ r : Int32, v = some (.int r) ∧ (¬ r = 0 → z_step set to) ∧ (r = 0 → ¬ z_step set to) := z_stepR (hP _ _ rfl)
          clear ho hr ha hE hP hI hx_
          rename x_I _ _ _ _ _ _ _ _ _ _ => hI
          refine lv_if_eq hx hb sp_d97 (tgt := 127) (by decide) (fun q97 => ?_) (fun q97 => ?_)
          · have q97_ : r94.toInt = (0 : Int32).toInt := by rw [q97]
            obtain ⟨z127, hg_z127⟩ : ∃ z127 : Int32, to + Int32.ofInt 1 = z127 := ⟨_, rfl⟩
            have h_z127 : z127.toInt = to.toInt + 1 := by rw [← hg_z127]; exact y_inc (by decide) (by omega) (by omega)
            refine lv_iinc hx hb sp_d127 hl (k := 0) rfl hg_z127 (by decide) (lv' := [(5, .int z127), (4, .int set), (2, .int head), (3, .int tail), (0, .ref this), (1, .int fm)]) rfl fun ls hl => ?_
            refine lv_goto hx hb sp_d130 (tgt := 60) (by decide) ?_
            exact ih _ _ _ _ _ _ _ _ hI hY_this hY_fr hY_qu hY_lw hY_bk hs_far hs_queue hs_laws hs_book hA_fr hA_qu hA_lw hA_bk hl hB_qu hJ hset hhd (by omega) (by omega) (by omega)
          · have q97_ : ¬ r94.toInt = (0 : Int32).toInt := fun q => q97 (Int32.toInt_inj.mp q)
            have hm : (ff to.toInt.toNat).toInt = -1 := by rw [hg_e85]; omega
            have hroom := hJ.room h_to0 (by omega) hm
            refine lv_aload_n hx hb sp_d100 rfl (lv_at hl 4 rfl) ?_
            refine y_getf X (fl209 X.2.2.2.2.1) hI.1 hY_this rfl hs_far sp_d101 ?_
            refine lv_iload hx hb sp_d104 (lv_at hl 0 rfl) ?_
            refine lv_aload_n hx hb sp_d106 rfl (lv_at hl 4 rfl) ?_
            refine y_getf X (fl209 X.2.2.2.2.1) hI.1 hY_this rfl hs_far sp_d107 ?_
            refine lv_iload hx hb sp_d110 (lv_at hl 1 rfl) ?_
            refine y_iald X hI.1 hY_fr rfl hA_fr (by omega) (by show _ < (1024 : Int); omega) sp_d112 ?_
            obtain ⟨e112, hg_e112⟩ : ∃ e112 : Int32, ff set.toInt.toNat = e112 := ⟨_, rfl⟩
            rw [hg_e112]
            have hq := hJ.2.2.2.1 hd hhd
            rw [← hset, hg_e112] at hq
            refine lv_iconst hx hb sp_d113 (v := 1) (by decide) ?_
            have ec1 : (1 : Int32).toInt = 1 := by decide
            refine lv_iadd hx hb sp_d114 ?_
            generalize hg_z114 : e112 + (1 : Int32) = z114
            have h_z114 : z114.toInt = e112.toInt + (1 : Int32).toInt := by rw [← hg_z114]; exact y_add (by omega) (by omega)
            refine y_iast X hY0 hI hY_fr rfl hA_fr (by omega) (by show _ < (1024 : Int); omega) ⟨_, rfl, x_i32 _⟩ (by decide +kernel) sp_d115 fun H locs hI h_new ho => ?_
            replace hA_fr := h_new
            generalize hf_f115 : y_up ff to.toInt.toNat z114 = f115 at hA_fr
            replace hs_far := y_slk hs_far (ho _ (y_ne hY_this hY_fr rfl))
            replace hs_queue := y_slk hs_queue (ho _ (y_ne hY_this hY_fr rfl))
            replace hs_laws := y_slk hs_laws (ho _ (y_ne hY_this hY_fr rfl))
            replace hs_book := y_slk hs_book (ho _ (y_ne hY_this hY_fr rfl))
            replace hA_qu := hA_qu.kept (ho _ (y_ne hY_qu hY_fr rfl))
            replace hA_lw := hA_lw.kept (ho _ (y_ne hY_lw hY_fr rfl))
            replace hA_bk := hA_bk.kept (ho _ (y_ne hY_bk hY_fr rfl))
            refine lv_aload_n hx hb sp_d116 rfl (lv_at hl 4 rfl) ?_
            refine y_getf X (fl210 X.2.2.2.2.1) hI.1 hY_this rfl hs_queue sp_d117 ?_
            refine lv_iload_n hx hb sp_d120 rfl (lv_at hl 3 rfl) ?_
            refine lv_iload hx hb sp_d121 (lv_at hl 0 rfl) ?_
            refine y_iast X hY0 hI hY_qu rfl hA_qu (by omega) (by show _ < (1024 : Int); omega) ⟨_, rfl, by show (0 : Int) ≤ _; omega, by show _ ≤ (1023 : Int); omega⟩ (by decide +kernel) sp_d123 fun H locs hI h_new ho => ?_
            replace hA_qu := h_new
            replace hB_qu := y_upb (i := tail.toInt.toNat) (v := to) hB_qu (by constructor <;> omega)
            generalize hf_f123 : y_up qq tail.toInt.toNat to = f123 at hA_qu hB_qu
            replace hs_far := y_slk hs_far (ho _ (y_ne hY_this hY_qu rfl))
            replace hs_queue := y_slk hs_queue (ho _ (y_ne hY_this hY_qu rfl))
            replace hs_laws := y_slk hs_laws (ho _ (y_ne hY_this hY_qu rfl))
            replace hs_book := y_slk hs_book (ho _ (y_ne hY_this hY_qu rfl))
            replace hA_fr := hA_fr.kept (ho _ (y_ne hY_fr hY_qu rfl))
            replace hA_lw := hA_lw.kept (ho _ (y_ne hY_lw hY_qu rfl))
            replace hA_bk := hA_bk.kept (ho _ (y_ne hY_bk hY_qu rfl))
            obtain ⟨z124, hg_z124⟩ : ∃ z124 : Int32, tail + Int32.ofInt 1 = z124 := ⟨_, rfl⟩
            have h_z124 : z124.toInt = tail.toInt + 1 := by rw [← hg_z124]; exact y_inc (by decide) (by omega) (by omega)
            refine lv_iinc hx hb sp_d124 hl (k := 3) rfl hg_z124 (by decide) (lv' := [(3, .int z124), (5, .int to), (4, .int set), (2, .int head), (0, .ref this), (1, .int fm)]) rfl fun ls hl => ?_
            obtain ⟨z127, hg_z127⟩ : ∃ z127 : Int32, to + Int32.ofInt 1 = z127 := ⟨_, rfl⟩
            have h_z127 : z127.toInt = to.toInt + 1 := by rw [← hg_z127]; exact y_inc (by decide) (by omega) (by omega)
            refine lv_iinc hx hb sp_d127 hl (k := 1) rfl hg_z127 (by decide) (lv' := [(5, .int z127), (3, .int z124), (4, .int set), (2, .int head), (0, .ref this), (1, .int fm)]) rfl fun ls hl => ?_
            refine lv_goto hx hb sp_d130 (tgt := 60) (by decide) ?_
            have hJn := hJ.push hN.2 h_to0 (by omega) hm (by rw [hg_e75]; exact q76) hhd (v := z114) (by rw [← hset, hg_e112]; omega) (by rw [← hset]; exact hst_r94 q97) hfm.1
            have htn : tail.toInt.toNat = tail.toInt.toNat := rfl
            rw [hf_f115, hf_f123] at hJn
            have hset2 : set = f123 hd := by rw [← hf_f123, y_up_ne (by omega)]; exact hset
            exact ih _ _ _ _ _ _ _ _ hI hY_this hY_fr hY_qu hY_lw hY_bk hs_far hs_queue hs_laws hs_book hA_fr hA_qu hA_lw hA_bk (lv_sub hl [0, 2, 3, 1, 4, 5] rfl) hB_qu (by rw [show z124.toInt = tail.toInt + 1 by omega]; exact hJn) hset2 (by omega) (by omega) (by omega) (by omega)
theorem sp_out {p : Program} {l : Launch} {e : Env} {s : State} {m : MethodId} {below : List Frame} {meth : Method} {c : Code} {D : va_G} {U : State} {Y0 : xY} {av : List Value} (B : y_B vwCl x_Tb x_Nb xMsp p s m meth c D U Y0 av) {this fr qu lw bk : Nat} {fm : Int32} {gl fb : Nat → Int32} (hav : av = [.ref this, .int fm]) (hN : 0 ≤ (z_all (fb 0)).toInt ∧ (z_all (fb 0)).toInt ≤ 1023) (hfm : 0 ≤ fm.toInt ∧ fm.toInt ≤ 1023) (hB_lw : ∀ j, j < 1024 → (0 : Int) ≤ (gl j).toInt ∧ (gl j).toInt ≤ 1)
    (fin : ∀ {H : Heap} {Y : xY} {ff qq : Nat → Int32} {tail : Int}, x_sl D 12 19 this H = some (.ref fr) → x_sl D 12 18 this H = some (.ref lw) → x_sl D 12 0 this H = some (.ref bk) → y_A fr 1024 H ff → y_A lw 1024 H gl → y_A bk 160 H fb → z_J (fm.toInt ≤ (z_all (fb 0)).toInt ∧ ¬ gl fm.toInt.toNat = 0) (z_all (fb 0)).toInt gl ff qq fm tail → z_Pspreads D av Y0 s.heap none Y H) :
    ∀ (n : Nat) (H : Heap) (Y : xY) (locs : List Loc) (ls : Array Slot) (head tail : Int32) (ff qq : Nat → Int32), x_I D x_G x_Zs U (x_efs xMsp) Y0 s.heap Y H locs → Y this = some 17 → Y fr = some 56 → Y qu = some 57 → Y lw = some 55 → Y bk = some 46 → x_sl D 12 19 this H = some (.ref fr) → x_sl D 12 20 this H = some (.ref qu) → x_sl D 12 18 this H = some (.ref lw) → x_sl D 12 0 this H = some (.ref bk) → y_A fr 1024 H ff → y_A qu 1024 H qq → y_A lw 1024 H gl → y_A bk 160 H fb → lv_has ls xMsp.2.2.1 [(3, .int tail), (2, .int head), (0, .ref this), (1, .int fm)] → (∀ j, j < 1024 → (0 : Int) ≤ (qq j).toInt ∧ (qq j).toInt ≤ 1023) → z_J (fm.toInt ≤ (z_all (fb 0)).toInt ∧ ¬ gl fm.toInt.toNat = 0) (z_all (fb 0)).toInt gl ff qq fm tail.toInt → 0 ≤ head.toInt → (1024 - head.toInt).toNat < n → W p l e (x_rm xMsp) s m av.toArray below meth c H locs 0 0 (y_QQ below D x_G x_Zs U xMsp z_Pspreads av Y0 s) (F0 m 41 ls []) := by
  have X := B.1
  have hx := X.1
  have hb := X.2.1
  have hY0 := B.2.2.2.2.1
  intro n
  induction n with
  | zero => intro H Y locs ls head tail ff qq _ _ _ _ _ _ _ _ _ _ _ _ _ _ _ _ _ _ h; exact absurd h (Nat.not_lt_zero _)
  | succ n ih =>
    intro H Y locs ls head tail ff qq hI hY_this hY_fr hY_qu hY_lw hY_bk hs_far hs_queue hs_laws hs_book hA_fr hA_qu hA_lw hA_bk hl hB_qu hJ h_h0 hn
    have hB_fr := ()
    have hB_bk := ()
    have hJ1 := hJ.1
    have hJ2 : tail.toInt ≤ 1024 := Int.le_trans hJ.2.1 (Int.ofNat_le.mpr (z_cnt_le ff 1024))
    refine lv_iload_n hx hb sp_d41 rfl (lv_at hl 1 rfl) ?_
    refine lv_iload_n hx hb sp_d42 rfl (lv_at hl 0 rfl) ?_
    refine lv_icmp_ge hx hb sp_d43 (tgt := 136) (by decide) (fun q43 => ?_) (fun q43 => ?_)
    · have q43_ : tail.toInt ≤ head.toInt := x_le32.mp q43
      exact y_return B hI rfl rfl List.mem_cons_self rfl (x_cs.mono B.2.2.2.2.2 (y_mon B hI)) (fin hs_far hs_laws hs_book hA_fr hA_lw hA_bk hJ) (Nat.le_refl _) (Nat.le_refl _) sp_d136
    · have q43_ : head.toInt < tail.toInt := Int.not_le.mp fun q => q43 (x_le32.mpr q)
      refine lv_aload_n hx hb sp_d46 rfl (lv_at hl 2 rfl) ?_
      refine y_getf X (fl210 X.2.2.2.2.1) hI.1 hY_this rfl hs_queue sp_d47 ?_
      refine lv_iload_n hx hb sp_d50 rfl (lv_at hl 1 rfl) ?_
      refine y_iald X hI.1 hY_qu rfl hA_qu (by omega) (by show _ < (1024 : Int); omega) sp_d51 ?_
      obtain ⟨e51, hg_e51⟩ : ∃ e51 : Int32, qq head.toInt.toNat = e51 := ⟨_, rfl⟩
      rw [hg_e51]
      have h_e51 : (0 : Int) ≤ e51.toInt ∧ e51.toInt ≤ 1023 := by rw [← hg_e51]; exact hB_qu _ (by omega)
      have hhd : ((head.toInt.toNat : Nat) : Int) < tail.toInt := by omega
      refine lv_istore hx hb sp_d52 hl (by decide) (lv' := [(4, .int e51), (3, .int tail), (2, .int head), (0, .ref this), (1, .int fm)]) rfl fun ls hl => ?_
      obtain ⟨z54, hg_z54⟩ : ∃ z54 : Int32, head + Int32.ofInt 1 = z54 := ⟨_, rfl⟩
      have h_z54 : z54.toInt = head.toInt + 1 := by rw [← hg_z54]; exact y_inc (by decide) (by omega) (by omega)
      refine lv_iinc hx hb sp_d54 hl (k := 2) rfl hg_z54 (by decide) (lv' := [(2, .int z54), (4, .int e51), (3, .int tail), (0, .ref this), (1, .int fm)]) rfl fun ls hl => ?_
      refine lv_iconst hx hb sp_d57 (v := 0) (by decide) ?_
      have ec0 : (0 : Int32).toInt = 0 := by decide
      refine lv_istore hx hb sp_d58 hl (by decide) (lv' := [(5, .int (0 : Int32)), (2, .int z54), (4, .int e51), (3, .int tail), (0, .ref this), (1, .int fm)]) rfl fun ls hl => ?_
      have ih2 := fun H Y locs ls tail ff qq a1 a2 a3 a4 a5 a6 a7 a8 a9 b1 b2 b3 b4 b5 b6 b7 b8 => ih H Y locs ls z54 tail ff qq a1 a2 a3 a4 a5 a6 a7 a8 a9 b1 b2 b3 b4 b5 b6 b7 b8 (by omega) (by omega)
      exact sp_in B hav hN hfm hB_lw h_e51 ih2 1100 _ _ _ _ _ _ _ _ hI hY_this hY_fr hY_qu hY_lw hY_bk hs_far hs_queue hs_laws hs_book hA_fr hA_qu hA_lw hA_bk (lv_sub hl [0, 2, 1, 3, 4, 5] rfl) hB_qu hJ hg_e51.symm hhd (by omega) (by omega) (by omega)
theorem sp_ini {p : Program} {l : Launch} {e : Env} {s : State} {m : MethodId} {below : List Frame} {meth : Method} {c : Code} {D : va_G} {U : State} {Y0 : xY} {av : List Value} (B : y_B vwCl x_Tb x_Nb xMsp p s m meth c D U Y0 av) {this fr qu lw bk : Nat} {fm : Int32} {gl fb : Nat → Int32} (hav : av = [.ref this, .int fm]) (hN : 0 ≤ (z_all (fb 0)).toInt ∧ (z_all (fb 0)).toInt ≤ 1023) (hfm : 0 ≤ fm.toInt ∧ fm.toInt ≤ 1023) (hB_lw : ∀ j, j < 1024 → (0 : Int) ≤ (gl j).toInt ∧ (gl j).toInt ≤ 1) {qq : Nat → Int32} (hB_qu : ∀ j, j < 1024 → (0 : Int) ≤ (qq j).toInt ∧ (qq j).toInt ≤ 1023)
    (fin : ∀ {H : Heap} {Y : xY} {ff qq : Nat → Int32} {tail : Int}, x_sl D 12 19 this H = some (.ref fr) → x_sl D 12 18 this H = some (.ref lw) → x_sl D 12 0 this H = some (.ref bk) → y_A fr 1024 H ff → y_A lw 1024 H gl → y_A bk 160 H fb → z_J (fm.toInt ≤ (z_all (fb 0)).toInt ∧ ¬ gl fm.toInt.toNat = 0) (z_all (fb 0)).toInt gl ff qq fm tail → z_Pspreads D av Y0 s.heap none Y H) :
    ∀ (n : Nat) (H : Heap) (Y : xY) (locs : List Loc) (ls : Array Slot) (set : Int32) (ff : Nat → Int32), x_I D x_G x_Zs U (x_efs xMsp) Y0 s.heap Y H locs → Y this = some 17 → Y fr = some 56 → Y qu = some 57 → Y lw = some 55 → Y bk = some 46 → x_sl D 12 19 this H = some (.ref fr) → x_sl D 12 20 this H = some (.ref qu) → x_sl D 12 18 this H = some (.ref lw) → x_sl D 12 0 this H = some (.ref bk) → y_A fr 1024 H ff → y_A qu 1024 H qq → y_A lw 1024 H gl → y_A bk 160 H fb → lv_has ls xMsp.2.2.1 [(2, .int set), (0, .ref this), (1, .int fm)] → (∀ i : Nat, (i : Int) < set.toInt → (ff i).toInt = -1) → 0 ≤ set.toInt → set.toInt ≤ 1024 → (1024 - set.toInt).toNat < n → W p l e (x_rm xMsp) s m av.toArray below meth c H locs 0 0 (y_QQ below D x_G x_Zs U xMsp z_Pspreads av Y0 s) (F0 m 2 ls []) := by
  have X := B.1
  have hx := X.1
  have hb := X.2.1
  have hY0 := B.2.2.2.2.1
  intro n
  induction n with
  | zero => intro H Y locs ls set ff _ _ _ _ _ _ _ _ _ _ _ _ _ _ _ _ _ _ h; exact absurd h (Nat.not_lt_zero _)
  | succ n ih =>
    intro H Y locs ls set ff hI hY_this hY_fr hY_qu hY_lw hY_bk hs_far hs_queue hs_laws hs_book hA_fr hA_qu hA_lw hA_bk hl hf h_s0 h_s1 hn
    have hB_fr := ()
    have hB_bk := ()
    refine lv_iload_n hx hb sp_d2 rfl (lv_at hl 0 rfl) ?_
    refine lv_aload_n hx hb sp_d3 rfl (lv_at hl 1 rfl) ?_
    refine y_call (z := (0, 91, 1, some 17, xM182)) (av := [.ref this]) (rest := [.int set]) (y_cokV (n := 0) (ci := 12) X ym_all rfl rfl rfl (x_cons (x_at 1300 (by decide +kernel) rfl) (x_cons (x_at 1302 (by decide +kernel) rfl) (x_cons (x_at 49 (by decide +kernel) rfl) (x_cons (x_at 73 (by decide +kernel) rfl) x_nilm)))) (x_at 1303 (by decide +kernel) rfl) (by decide +kernel) ⟨Nat.le_of_ble_eq_true rfl, Nat.le_of_ble_eq_true rfl⟩) hY0 hI rfl sp_d4 hl.1 (Nat.le_of_ble_eq_true rfl) (Nat.le_of_ble_eq_true rfl) (Nat.le_of_ble_eq_true rfl) (y_cons (y_cref hY_this rfl) y_nil) rfl (y_recv rfl hY_this) trivial (y_sub_ef rfl) fun v Yn o Hn L ho hr ha hIn hx_ hE hP => ?_
    have hPv := hP _ _ _ rfl hs_book (hA_bk 0 (by decide))
    replace hs_far := y_Efld hE hY_this rfl (by decide) (by decide) hs_far
    replace hs_queue := y_Efld hE hY_this rfl (by decide) (by decide) hs_queue
    replace hs_laws := y_Efld hE hY_this rfl (by decide) (by decide) hs_laws
    replace hs_book := y_Efld hE hY_this rfl (by decide) (by decide) hs_book
    replace hA_fr := hA_fr.kept (y_Earr hE hY_fr rfl (by decide))
    replace hA_qu := hA_qu.kept (y_Earr hE hY_qu rfl (by decide))
    replace hA_lw := hA_lw.kept (y_Earr hE hY_lw rfl (by decide))
    replace hA_bk := hA_bk.kept (y_Earr hE hY_bk rfl (by decide))
    replace hY_this := y_ext hx_ hI.1 hY_this
    replace hY_fr := y_ext hx_ hI.1 hY_fr
    replace hY_qu := y_ext hx_ hI.1 hY_qu
    replace hY_lw := y_ext hx_ hI.1 hY_lw
    replace hY_bk := y_ext hx_ hI.1 hY_bk
    obtain rfl := hPv
    clear ho hr ha hE hP hI hx_
    rename x_I _ _ _ _ _ _ _ _ _ _ => hI
    refine lv_icmp_gt hx hb sp_d7 (tgt := 23) (by decide) (fun q7 => ?_) (fun q7 => ?_)
    · have q7_ : (z_all (fb 0)).toInt < set.toInt := x_lt32.mp q7
      refine lv_aload_n hx hb sp_d23 rfl (lv_at hl 1 rfl) ?_
      refine y_getf X (fl209 X.2.2.2.2.1) hI.1 hY_this rfl hs_far sp_d24 ?_
      refine lv_iload_n hx hb sp_d27 rfl (lv_at hl 2 rfl) ?_
      refine lv_iconst hx hb sp_d28 (v := 0) (by decide) ?_
      have ec0 : (0 : Int32).toInt = 0 := by decide
      refine y_iast X hY0 hI hY_fr rfl hA_fr (by omega) (by show _ < (1024 : Int); omega) ⟨_, rfl, x_i32 _⟩ (by decide +kernel) sp_d29 fun H locs hI h_new ho => ?_
      replace hA_fr := h_new
      generalize hf_f29 : y_up ff fm.toInt.toNat (0 : Int32) = f29 at hA_fr
      replace hs_far := y_slk hs_far (ho _ (y_ne hY_this hY_fr rfl))
      replace hs_queue := y_slk hs_queue (ho _ (y_ne hY_this hY_fr rfl))
      replace hs_laws := y_slk hs_laws (ho _ (y_ne hY_this hY_fr rfl))
      replace hs_book := y_slk hs_book (ho _ (y_ne hY_this hY_fr rfl))
      replace hA_qu := hA_qu.kept (ho _ (y_ne hY_qu hY_fr rfl))
      replace hA_lw := hA_lw.kept (ho _ (y_ne hY_lw hY_fr rfl))
      replace hA_bk := hA_bk.kept (ho _ (y_ne hY_bk hY_fr rfl))
      refine lv_aload_n hx hb sp_d30 rfl (lv_at hl 1 rfl) ?_
      refine y_getf X (fl210 X.2.2.2.2.1) hI.1 hY_this rfl hs_queue sp_d31 ?_
      refine lv_iconst hx hb sp_d34 (v := 0) (by decide) ?_
      refine lv_iload_n hx hb sp_d35 rfl (lv_at hl 2 rfl) ?_
      refine y_iast X hY0 hI hY_qu rfl hA_qu (by omega) (by show _ < (1024 : Int); omega) ⟨_, rfl, by show (0 : Int) ≤ _; omega, by show _ ≤ (1023 : Int); omega⟩ (by decide +kernel) sp_d36 fun H locs hI h_new ho => ?_
      replace hA_qu := h_new
      replace hB_qu := y_upb (i := (0 : Int32).toInt.toNat) (v := fm) hB_qu (by constructor <;> omega)
      generalize hf_f36 : y_up qq (0 : Int32).toInt.toNat fm = f36 at hA_qu hB_qu
      replace hs_far := y_slk hs_far (ho _ (y_ne hY_this hY_qu rfl))
      replace hs_queue := y_slk hs_queue (ho _ (y_ne hY_this hY_qu rfl))
      replace hs_laws := y_slk hs_laws (ho _ (y_ne hY_this hY_qu rfl))
      replace hs_book := y_slk hs_book (ho _ (y_ne hY_this hY_qu rfl))
      replace hA_fr := hA_fr.kept (ho _ (y_ne hY_fr hY_qu rfl))
      replace hA_lw := hA_lw.kept (ho _ (y_ne hY_lw hY_qu rfl))
      replace hA_bk := hA_bk.kept (ho _ (y_ne hY_bk hY_qu rfl))
      refine lv_iconst hx hb sp_d37 (v := 0) (by decide) ?_
      refine lv_istore_n hx hb sp_d38 rfl hl (by decide) (lv' := [(2, .int (0 : Int32)), (0, .ref this), (1, .int fm)]) rfl fun ls hl => ?_
      refine lv_iconst hx hb sp_d39 (v := 1) (by decide) ?_
      have ec1 : (1 : Int32).toInt = 1 := by decide
      refine lv_istore_n hx hb sp_d40 rfl hl (by decide) (lv' := [(3, .int (1 : Int32)), (2, .int (0 : Int32)), (0, .ref this), (1, .int fm)]) rfl fun ls hl => ?_
      have hJ := z_J.start (gl := gl) (ff := ff) (qq := qq) (fr := fm) hN.2 hfm.1 hfm.2 (fun i hi => hf i (by omega)) ec0
      have e0 : (0 : Int32).toInt.toNat = 0 := rfl
      rw [e0] at hf_f36
      rw [hf_f29, hf_f36] at hJ
      exact sp_out B hav hN hfm hB_lw fin 1100 _ _ _ _ _ _ _ _ hI hY_this hY_fr hY_qu hY_lw hY_bk hs_far hs_queue hs_laws hs_book hA_fr hA_qu hA_lw hA_bk (lv_sub hl [0, 1, 2, 3] rfl) hB_qu hJ (by omega) (by omega)
    · have q7_ : set.toInt ≤ (z_all (fb 0)).toInt := Int.not_lt.mp fun q => q7 (x_lt32.mpr q)
      refine lv_aload_n hx hb sp_d10 rfl (lv_at hl 1 rfl) ?_
      refine y_getf X (fl209 X.2.2.2.2.1) hI.1 hY_this rfl hs_far sp_d11 ?_
      refine lv_iload_n hx hb sp_d14 rfl (lv_at hl 0 rfl) ?_
      refine lv_iconst hx hb sp_d15 (v := (-1)) (by decide) ?_
      have ecm1 : ((-1) : Int32).toInt = (-1) := by decide
      refine y_iast X hY0 hI hY_fr rfl hA_fr (by omega) (by show _ < (1024 : Int); omega) ⟨_, rfl, x_i32 _⟩ (by decide +kernel) sp_d16 fun H locs hI h_new ho => ?_
      replace hA_fr := h_new
      generalize hf_f16 : y_up ff set.toInt.toNat ((-1) : Int32) = f16 at hA_fr
      replace hs_far := y_slk hs_far (ho _ (y_ne hY_this hY_fr rfl))
      replace hs_queue := y_slk hs_queue (ho _ (y_ne hY_this hY_fr rfl))
      replace hs_laws := y_slk hs_laws (ho _ (y_ne hY_this hY_fr rfl))
      replace hs_book := y_slk hs_book (ho _ (y_ne hY_this hY_fr rfl))
      replace hA_qu := hA_qu.kept (ho _ (y_ne hY_qu hY_fr rfl))
      replace hA_lw := hA_lw.kept (ho _ (y_ne hY_lw hY_fr rfl))
      replace hA_bk := hA_bk.kept (ho _ (y_ne hY_bk hY_fr rfl))
      obtain ⟨z17, hg_z17⟩ : ∃ z17 : Int32, set + Int32.ofInt 1 = z17 := ⟨_, rfl⟩
      have h_z17 : z17.toInt = set.toInt + 1 := by rw [← hg_z17]; exact y_inc (by decide) (by omega) (by omega)
      refine lv_iinc hx hb sp_d17 hl (k := 0) rfl hg_z17 (by decide) (lv' := [(2, .int z17), (0, .ref this), (1, .int fm)]) rfl fun ls hl => ?_
      refine lv_goto hx hb sp_d20 (tgt := 2) (by decide) ?_
      exact ih _ _ _ _ _ _ hI hY_this hY_fr hY_qu hY_lw hY_bk hs_far hs_queue hs_laws hs_book hA_fr hA_qu hA_lw hA_bk hl (fun i hi => by rw [← hf_f16]; by_cases e0 : i = set.toInt.toNat; rw [e0, y_up_at]; exact ecm1; rw [y_up_ne e0]; exact hf i (by omega)) (by omega) (by omega) (by omega)
theorem ym_spreads : y_Met vwCl x_G x_Zs x_Tb x_Nb xMsp y_T z_Pspreads := by
  refine y_main (by decide +kernel) (by decide +kernel) x_Tb_good x_Nb_ok ?_
  intro p l e s m below meth c D U Y0 av ls B hI _ hl
  have X := B.1
  have hx := X.1
  have hb := X.2.1
  have hY0 := B.2.2.2.2.1
  obtain ⟨v0, v1, rfl, hv0, ⟨fm, rfl, hfm⟩⟩ := x_two B.2.2.2.2.2
  obtain ⟨this, t0, rfl, ht0, hY_this⟩ := x_ref_at hv0 rfl
  obtain rfl := List.mem_singleton.mp ht0
  replace hl : lv_has ls xMsp.2.2.1 [(0, .ref this), (1, .int fm)] := hl
  replace hfm : 0 ≤ fm.toInt ∧ fm.toInt ≤ 1023 := hfm
  obtain ⟨fr, hs_far, hY_fr⟩ := y_fldR (k := 19) hI.1 hY_this rfl rfl
  obtain ⟨qu, hs_queue, hY_qu⟩ := y_fldR (k := 20) hI.1 hY_this rfl rfl
  obtain ⟨lw, hs_laws, hY_lw⟩ := y_fldR (k := 18) hI.1 hY_this rfl rfl
  obtain ⟨bk, hs_book, hY_bk⟩ := y_fldR (k := 0) hI.1 hY_this rfl rfl
  obtain ⟨ff, hA_fr, hB_fr⟩ := y_arr hI.1 hY_fr rfl rfl
  obtain ⟨qq, hA_qu, hB_qu⟩ := y_arr hI.1 hY_qu rfl rfl
  obtain ⟨gl, hA_lw, hB_lw⟩ := y_arr hI.1 hY_lw rfl rfl
  obtain ⟨fb, hA_bk, hB_bk⟩ := y_arr hI.1 hY_bk rfl rfl
  replace hB_qu : ∀ j, j < 1024 → (0 : Int) ≤ (qq j).toInt ∧ (qq j).toInt ≤ 1023 := fun j hj => by obtain ⟨x, e0, e1⟩ := hB_qu j hj; cases e0; exact e1
  replace hB_lw : ∀ j, j < 1024 → (0 : Int) ≤ (gl j).toInt ∧ (gl j).toInt ≤ 1 := fun j hj => by obtain ⟨x, e0, e1⟩ := hB_lw j hj; cases e0; exact e1
  have hN : 0 ≤ (z_all (fb 0)).toInt ∧ (z_all (fb 0)).toInt ≤ 1023 := z_all_b (by obtain ⟨x, e0, e1⟩ := hB_bk 0 (by decide); cases e0; exact e1)
  have fin : ∀ {H : Heap} {Y : xY} {ff qq : Nat → Int32} {tail : Int}, x_sl D 12 19 this H = some (.ref fr) → x_sl D 12 18 this H = some (.ref lw) → x_sl D 12 0 this H = some (.ref bk) → y_A fr 1024 H ff → y_A lw 1024 H gl → y_A bk 160 H fb → z_J (fm.toInt ≤ (z_all (fb 0)).toInt ∧ ¬ gl fm.toInt.toNat = 0) (z_all (fb 0)).toInt gl ff qq fm tail → z_Pspreads D [.ref this, .int fm] Y0 s.heap none Y H := by
    intro H Y ff qq tail _ _ _ hA _ _ hJ this' fr' lw' bk' fm' gl' fb' h1 h2 h3 h4 h5 h6 h7 h8
    cases h1
    cases h2.symm.trans hs_book
    cases h4.symm.trans hs_laws
    cases h6.symm.trans hs_far
    have eb : fb' 0 = fb 0 := by have := (h3 0 (by decide)).symm.trans (hA_bk 0 (by decide)); injection this with this; injection this
    have eg : ∀ j, j < 1024 → gl' j = gl j := fun j hj => by have := (h5 j hj).symm.trans (hA_lw j hj); injection this with this; injection this
    rw [eb] at h7 ⊢
    refine ⟨ff, hA, hJ.2.2.1, fun s s0 s1 s2 => ?_⟩
    obtain ⟨p, p0, p1, p2, p3⟩ := (hJ.2.2.2.2 ⟨h7, by rw [← eg _ (by omega)]; exact h8⟩).2 s s0 s1 s2
    exact ⟨p, p0, p1, by rw [eg _ (by omega)]; exact p2, p3⟩
  refine lv_iconst hx hb sp_d0 (v := 0) (by decide) ?_
  have ec0 : (0 : Int32).toInt = 0 := by decide
  refine lv_istore_n hx hb sp_d1 rfl hl (by decide) (lv' := [(2, .int (0 : Int32)), (0, .ref this), (1, .int fm)]) rfl fun ls hl => ?_
  exact sp_ini B rfl hN hfm hB_lw hB_qu fin 1100 _ _ _ _ _ _ hI hY_this hY_fr hY_qu hY_lw hY_bk hs_far hs_queue hs_laws hs_book hA_fr hA_qu hA_lw hA_bk hl (fun i hi => absurd hi (by omega)) (by omega) (by omega) (by omega)
end
section

theorem y_cmp (x y : Int64) : ((lg_cmp x y).toInt = -1 ∧ x.toInt < y.toInt) ∨ ((lg_cmp x y).toInt = 0 ∧ x.toInt = y.toInt) ∨ ((lg_cmp x y).toInt = 1 ∧ y.toInt < x.toInt) := by
  unfold lg_cmp
  have h1 : (x > y) ↔ y.toInt < x.toInt := Int64.lt_iff_toInt_lt
  have h2 : (x = y) ↔ x.toInt = y.toInt := Int64.toInt_inj.symm
  by_cases q1 : x > y
  · rw [if_pos q1]; exact Or.inr (Or.inr ⟨by decide, h1.mp q1⟩)
  · rw [if_neg q1]
    by_cases q2 : x = y
    · rw [if_pos q2]; exact Or.inr (Or.inl ⟨by decide, h2.mp q2⟩)
    · rw [if_neg q2]
      refine Or.inl ⟨by decide, ?_⟩
      have q3 : ¬ y.toInt < x.toInt := fun q => q1 (h1.mpr q)
      have q4 : ¬ x.toInt = y.toInt := fun q => q2 (h2.mpr q)
      omega
def z_Pin : yP := fun _ av _ _ v _ _ => ∀ x lo hi : Int64, av = [.long x, .long lo, .long hi] → (v = some (.int 1) ∧ lo.toInt ≤ x.toInt ∧ x.toInt ≤ hi.toInt) ∨ (v = some (.int 0) ∧ (x.toInt < lo.toInt ∨ hi.toInt < x.toInt))
theorem ni_d0 : decode xM148.2.1 0 = .ok (.lload_n 0, 1) := by decide +kernel
theorem ni_d1 : decode xM148.2.1 1 = .ok (.lload_n 2, 1) := by decide +kernel
theorem ni_d2 : decode xM148.2.1 2 = .ok (.lcmp, 1) := by decide +kernel
theorem ni_d3 : decode xM148.2.1 3 = .ok (.ifCond .lt 14, 3) := by decide +kernel
theorem ni_d6 : decode xM148.2.1 6 = .ok (.lload_n 0, 1) := by decide +kernel
theorem ni_d7 : decode xM148.2.1 7 = .ok (.lload 4, 2) := by decide +kernel
theorem ni_d9 : decode xM148.2.1 9 = .ok (.lcmp, 1) := by decide +kernel
theorem ni_d10 : decode xM148.2.1 10 = .ok (.ifCond .gt 7, 3) := by decide +kernel
theorem ni_d13 : decode xM148.2.1 13 = .ok (.iconst 1, 1) := by decide +kernel
theorem ni_d14 : decode xM148.2.1 14 = .ok (.goto 4, 3) := by decide +kernel
theorem ni_d17 : decode xM148.2.1 17 = .ok (.iconst 0, 1) := by decide +kernel
theorem ni_d18 : decode xM148.2.1 18 = .ok (.ireturn, 1) := by decide +kernel
theorem ym_in : y_Met vwCl x_G x_Zs x_Tb x_Nb xM148 y_T z_Pin := by
  refine y_main (by decide +kernel) (by decide +kernel) x_Tb_good x_Nb_ok ?_
  intro p l e s m below meth c D U Y0 av ls B hI _ hl
  have X := B.1
  have hx := X.1
  have hb := X.2.1
  have hY0 := B.2.2.2.2.1
  obtain ⟨v0, v1, v2, rfl, ⟨x, rfl, -⟩, ⟨lo, rfl, -⟩, ⟨hi, rfl, -⟩⟩ := y_three B.2.2.2.2.2
  replace hl : lv_has ls xM148.2.2.1 [(0, .long x), (2, .long lo), (4, .long hi)] := hl
  refine lv_lload_n hx hb ni_d0 rfl (lv_at hl 0 rfl) ?_
  refine lv_lload_n hx hb ni_d1 rfl (lv_at hl 1 rfl) ?_
  refine W.lcmp hx hb ni_d2 ?_
  have h_z2 := y_cmp x lo
  generalize hg_z2 : lg_cmp x lo = z2 at h_z2 ⊢
  have ec0 : (0 : Int32).toInt = 0 := by decide
  refine lv_if_lt hx hb ni_d3 (tgt := 17) (by decide) (fun q3 => ?_) (fun q3 => ?_)
  · have q3_ : z2.toInt < (0 : Int32).toInt := x_lt32.mp q3
    refine lv_iconst hx hb ni_d17 (v := 0) (by decide) ?_
    exact y_ireturn (o := (x_args xM148, some (xI 0 0))) B hI rfl rfl rfl (List.mem_of_getElem? (i := 1) rfl) ⟨_, rfl, ⟨_, rfl, by decide, by decide⟩⟩ B.2.2.2.2.2 (fun x1 lo1 hi1 h1 => by cases h1; exact Or.inr ⟨rfl, by omega⟩) (Nat.le_refl _) (Nat.le_refl _) ni_d18
  · have q3_ : (0 : Int32).toInt ≤ z2.toInt := Int.not_lt.mp fun q => q3 (x_lt32.mpr q)
    refine lv_lload_n hx hb ni_d6 rfl (lv_at hl 0 rfl) ?_
    refine lv_lload hx hb ni_d7 (lv_at hl 2 rfl) ?_
    refine W.lcmp hx hb ni_d9 ?_
    have h_z9 := y_cmp x hi
    generalize hg_z9 : lg_cmp x hi = z9 at h_z9 ⊢
    refine lv_if_gt hx hb ni_d10 (tgt := 17) (by decide) (fun q10 => ?_) (fun q10 => ?_)
    · have q10_ : (0 : Int32).toInt < z9.toInt := x_lt32.mp q10
      refine lv_iconst hx hb ni_d17 (v := 0) (by decide) ?_
      exact y_ireturn (o := (x_args xM148, some (xI 0 0))) B hI rfl rfl rfl (List.mem_of_getElem? (i := 1) rfl) ⟨_, rfl, ⟨_, rfl, by decide, by decide⟩⟩ B.2.2.2.2.2 (fun x1 lo1 hi1 h1 => by cases h1; exact Or.inr ⟨rfl, by omega⟩) (Nat.le_refl _) (Nat.le_refl _) ni_d18
    · have q10_ : z9.toInt ≤ (0 : Int32).toInt := Int.not_lt.mp fun q => q10 (x_lt32.mpr q)
      refine lv_iconst hx hb ni_d13 (v := 1) (by decide) ?_
      refine lv_goto hx hb ni_d14 (tgt := 18) (by decide) ?_
      exact y_ireturn (o := (x_args xM148, some (xI 1 1))) B hI rfl rfl rfl (List.mem_of_getElem? (i := 0) rfl) ⟨_, rfl, ⟨_, rfl, by decide, by decide⟩⟩ B.2.2.2.2.2 (fun x1 lo1 hi1 h1 => by cases h1; exact Or.inl ⟨rfl, by omega, by omega⟩) (Nat.le_refl _) (Nat.le_refl _) ni_d18
def z_Pset : yP := fun D av Y H v _ _ => ∀ (this bk : Nat) (x b0 : Int32), av = [.ref this, .int x] → x_sl D 12 0 this H = some (.ref bk) → y_at bk 0 H = some (.int b0) → ∃ r : Int32, v = some (.int r) ∧ (¬ r = 0 → 0 ≤ x.toInt ∧ x.toInt ≤ (z_all b0).toInt) ∧ (r = 0 → x.toInt < 0 ∨ (z_all b0).toInt < x.toInt)
theorem st_d0 : decode xM184.2.1 0 = .ok (.iload_n 1, 1) := by decide +kernel
theorem st_d1 : decode xM184.2.1 1 = .ok (.i2l, 1) := by decide +kernel
theorem st_d2 : decode xM184.2.1 2 = .ok (.lconst 0, 1) := by decide +kernel
theorem st_d3 : decode xM184.2.1 3 = .ok (.aload_n 0, 1) := by decide +kernel
theorem st_d4 : decode xM184.2.1 4 = .ok (.invokevirtual 91, 3) := by decide +kernel
theorem st_d7 : decode xM184.2.1 7 = .ok (.i2l, 1) := by decide +kernel
theorem st_d8 : decode xM184.2.1 8 = .ok (.invokestatic 87, 3) := by decide +kernel
theorem st_d11 : decode xM184.2.1 11 = .ok (.ireturn, 1) := by decide +kernel
theorem z_inR {v : Option Value} {x lo hi : Int64} (h : (v = some (.int 1) ∧ lo.toInt ≤ x.toInt ∧ x.toInt ≤ hi.toInt) ∨ (v = some (.int 0) ∧ (x.toInt < lo.toInt ∨ hi.toInt < x.toInt))) : ∃ r : Int32, v = some (.int r) ∧ (¬ r = 0 → lo.toInt ≤ x.toInt ∧ x.toInt ≤ hi.toInt) ∧ (r = 0 → x.toInt < lo.toInt ∨ hi.toInt < x.toInt) ∧ (r = 0 ∨ r = 1) := by
  rcases h with ⟨h1, h2⟩ | ⟨h1, h2⟩
  · exact ⟨1, h1, fun _ => h2, fun q => absurd q (by decide), Or.inr rfl⟩
  · exact ⟨0, h1, fun q => absurd rfl q, fun _ => h2, Or.inl rfl⟩
theorem ym_isSet : y_Met vwCl x_G x_Zs x_Tb x_Nb xM184 y_T z_Pset := by
  refine y_main (by decide +kernel) (by decide +kernel) x_Tb_good x_Nb_ok ?_
  intro p l e s m below meth c D U Y0 av ls B hI _ hl
  have X := B.1
  have hx := X.1
  have hb := X.2.1
  have hY0 := B.2.2.2.2.1
  obtain ⟨v0, v1, rfl, hv0, ⟨x, rfl, -⟩⟩ := x_two B.2.2.2.2.2
  obtain ⟨this, t0, rfl, ht0, hY_this⟩ := x_ref_at hv0 rfl
  obtain rfl := List.mem_singleton.mp ht0
  replace hl : lv_has ls xM184.2.2.1 [(0, .ref this), (1, .int x)] := hl
  obtain ⟨bk, hs_book, hY_bk⟩ := y_fldR (k := 0) hI.1 hY_this rfl rfl
  obtain ⟨fb, hA_bk, hB_bk⟩ := y_arr hI.1 hY_bk rfl rfl
  have hN : 0 ≤ (z_all (fb 0)).toInt ∧ (z_all (fb 0)).toInt ≤ 1023 := z_all_b (by obtain ⟨x, e0, e1⟩ := hB_bk 0 (by decide); cases e0; exact e1)
  have hs0 := hs_book
  have hA0 := hA_bk
  refine lv_iload_n hx hb st_d0 rfl (lv_at hl 1 rfl) ?_
  obtain ⟨z1, hg_z1⟩ : ∃ z1 : Int64, x.toInt64 = z1 := ⟨_, rfl⟩
  have h_z1 : z1.toInt = (x).toInt := by rw [← hg_z1]; exact Int32.toInt_toInt64 _
  refine lv_i2l hx hb st_d1 (v := z1) hg_z1 ?_
  refine lv_lconst hx hb st_d2 (v := 0) (by decide) ?_
  have el0 : (0 : Int64).toInt = 0 := by decide
  refine lv_aload_n hx hb st_d3 rfl (lv_at hl 0 rfl) ?_
  refine y_call (z := (0, 91, 1, some 17, xM182)) (av := [.ref this]) (rest := [.long (0 : Int64), .long z1]) (y_cokV (n := 0) (ci := 12) X ym_all rfl rfl rfl (x_cons (x_at 1300 (by decide +kernel) rfl) (x_cons (x_at 1302 (by decide +kernel) rfl) (x_cons (x_at 49 (by decide +kernel) rfl) (x_cons (x_at 73 (by decide +kernel) rfl) x_nilm)))) (x_at 1303 (by decide +kernel) rfl) (by decide +kernel) ⟨Nat.le_of_ble_eq_true rfl, Nat.le_of_ble_eq_true rfl⟩) hY0 hI rfl st_d4 hl.1 (Nat.le_of_ble_eq_true rfl) (Nat.le_of_ble_eq_true rfl) (Nat.le_of_ble_eq_true rfl) (y_cons (y_cref hY_this rfl) y_nil) rfl (y_recv rfl hY_this) trivial (y_sub_ef rfl) fun v Yn o Hn L ho hr ha hIn hx_ hE hP => ?_
  have hPv := hP _ _ _ rfl hs_book (hA_bk 0 (by decide))
  replace hs_book := y_Efld hE hY_this rfl (by decide) (by decide) hs_book
  replace hA_bk := hA_bk.kept (y_Earr hE hY_bk rfl (by decide))
  replace hY_this := y_ext hx_ hI.1 hY_this
  replace hY_bk := y_ext hx_ hI.1 hY_bk
  obtain rfl := hPv
  clear ho hr ha hE hP hI hx_
  rename x_I _ _ _ _ _ _ _ _ _ _ => hI
  obtain ⟨z7, hg_z7⟩ : ∃ z7 : Int64, ((z_all (fb 0))).toInt64 = z7 := ⟨_, rfl⟩
  have h_z7 : z7.toInt = ((z_all (fb 0))).toInt := by rw [← hg_z7]; exact Int32.toInt_toInt64 _
  refine lv_i2l hx hb st_d7 (v := z7) hg_z7 ?_
  refine y_call (z := (1, 87, 3, none, xM148)) (av := [.long z1, .long (0 : Int64), .long z7]) (rest := []) (y_cokS (n := 3) X ym_in (x_cons (x_at 1147 (by decide +kernel) rfl) (x_cons (x_at 1148 (by decide +kernel) rfl) (x_cons (x_at 73 (by decide +kernel) rfl) x_nilm))) (x_at 1149 (by decide +kernel) rfl) (by decide +kernel) ⟨Nat.le_of_ble_eq_true rfl, Nat.le_of_ble_eq_true rfl⟩) hY0 hI rfl st_d8 hl.1 (Nat.le_of_ble_eq_true rfl) (Nat.le_of_ble_eq_true rfl) (Nat.le_of_ble_eq_true rfl) (y_cons ⟨_, rfl, x_i64 _⟩ (y_cons ⟨_, rfl, x_i64 _⟩ (y_cons ⟨_, rfl, x_i64 _⟩ y_nil))) rfl (y_norecv rfl) trivial (y_sub_ef rfl) fun v Yn o Hn L ho hr ha hIn hx_ hE hP => ?_
  replace hs_book := y_Efld hE hY_this rfl (by decide) (by decide) hs_book
  replace hA_bk := hA_bk.kept (y_Earr hE hY_bk rfl (by decide))
  replace hY_this := y_ext hx_ hI.1 hY_this
  replace hY_bk := y_ext hx_ hI.1 hY_bk
  obtain ⟨r8, rfl, hin, hout, h01⟩ : ∃ r : Int32, v = some (.int r) ∧ (¬ r = 0 → (0 : Int64).toInt ≤ z1.toInt ∧ z1.toInt ≤ z7.toInt) ∧ (r = 0 → z1.toInt < (0 : Int64).toInt ∨ z7.toInt < z1.toInt) ∧ (r = 0 ∨ r = 1) := z_inR (hP _ _ _ rfl)
  clear ho hr ha hE hP hI hx_
  rename x_I _ _ _ _ _ _ _ _ _ _ => hI
  have hP9 : z_Pset D [.ref this, .int x] Y0 s.heap (some (.int r8)) Yn Hn := by
    intro t b y b0 h1 h2 h3
    cases h1
    cases h2.symm.trans hs0
    have := (hA0 0 (by decide)).symm.trans h3
    injection this with this; injection this with this
    subst this
    exact ⟨r8, rfl, fun q => by have := hin q; omega, fun q => by have := hout q; omega⟩
  rcases h01 with q | q
  · subst q
    exact y_ireturn (o := ([xR false [17], xF], some (xI 0 0))) B hI rfl rfl rfl (List.mem_of_getElem? (i := 0) rfl) ⟨_, rfl, ⟨_, rfl, by decide, by decide⟩⟩ (x_cs.mono B.2.2.2.2.2 (y_mon B hI)) hP9 (Nat.le_refl _) (Nat.le_refl _) st_d11
  · have := hin (by rw [q]; decide)
    subst q
    exact y_ireturn (o := ([xR false [17], xI 0 1023], some (xI 1 1))) B hI rfl rfl rfl (List.mem_of_getElem? (i := 1) rfl) ⟨_, rfl, ⟨_, rfl, by decide, by decide⟩⟩ (y_cons (y_cref hY_this rfl) (y_cons ⟨_, rfl, by show (0 : Int) ≤ _; omega, by show _ ≤ (1023 : Int); omega⟩ y_nil)) hP9 (Nat.le_refl _) (Nat.le_refl _) st_d11
end
section
theorem fl_rw_209 {s : State} {args : Array Value} (hts : ∀ w ∈ x_Tb, w.before args s = true) : x_fok vwCl x_G x_Tb s args "TwinFiresModel" (41, 17, 19) := ⟨12, _, RX12, TX12, "TwinFiresModel", rfl, rfl, Nat.le_of_ble_eq_true rfl, iX12, (hts _ (x_at 1078 (by decide +kernel) rfl)), fun x h => h⟩
def xMrw : xM := (⟨"TwinFiresModel", "row", "(III)I"⟩, prog_14_method_58_code, 7, some .int, [xR false [17], xF, xF, xF], [([xR false [17], xF, xF, xF], some (xF))], [(50, 0), (51, 0), (55, 0), (56, 0), (57, 0)], (6, 148, 0, 0), none)
theorem rw_d0 : decode xMrw.2.1 0 = .ok (.aload_n 0, 1) := by decide +kernel
theorem rw_d1 : decode xMrw.2.1 1 = .ok (.iload_n 1, 1) := by decide +kernel
theorem rw_d2 : decode xMrw.2.1 2 = .ok (.invokevirtual 237, 3) := by decide +kernel
theorem rw_d5 : decode xMrw.2.1 5 = .ok (.ifCond .eq 16, 3) := by decide +kernel
theorem rw_d8 : decode xMrw.2.1 8 = .ok (.aload_n 0, 1) := by decide +kernel
theorem rw_d9 : decode xMrw.2.1 9 = .ok (.iload_n 2, 1) := by decide +kernel
theorem rw_d10 : decode xMrw.2.1 10 = .ok (.invokevirtual 237, 3) := by decide +kernel
theorem rw_d13 : decode xMrw.2.1 13 = .ok (.ifCond .eq 8, 3) := by decide +kernel
theorem rw_d16 : decode xMrw.2.1 16 = .ok (.iload_n 3, 1) := by decide +kernel
theorem rw_d17 : decode xMrw.2.1 17 = .ok (.iconst (-1), 1) := by decide +kernel
theorem rw_d18 : decode xMrw.2.1 18 = .ok (.if_icmp .ge 11, 3) := by decide +kernel
theorem rw_d21 : decode xMrw.2.1 21 = .ok (.aload_n 0, 1) := by decide +kernel
theorem rw_d22 : decode xMrw.2.1 22 = .ok (.iconst 0, 1) := by decide +kernel
theorem rw_d23 : decode xMrw.2.1 23 = .ok (.bipush (-10), 2) := by decide +kernel
theorem rw_d25 : decode xMrw.2.1 25 = .ok (.invokevirtual 76, 3) := by decide +kernel
theorem rw_d28 : decode xMrw.2.1 28 = .ok (.ireturn, 1) := by decide +kernel
theorem rw_d29 : decode xMrw.2.1 29 = .ok (.aload_n 0, 1) := by decide +kernel
theorem rw_d30 : decode xMrw.2.1 30 = .ok (.invokevirtual 260, 3) := by decide +kernel
theorem rw_d33 : decode xMrw.2.1 33 = .ok (.aload_n 0, 1) := by decide +kernel
theorem rw_d34 : decode xMrw.2.1 34 = .ok (.getfield 38, 3) := by decide +kernel
theorem rw_d37 : decode xMrw.2.1 37 = .ok (.iload_n 1, 1) := by decide +kernel
theorem rw_d38 : decode xMrw.2.1 38 = .ok (.baload, 1) := by decide +kernel
theorem rw_d39 : decode xMrw.2.1 39 = .ok (.ifCond .eq 12, 3) := by decide +kernel
theorem rw_d42 : decode xMrw.2.1 42 = .ok (.aload_n 0, 1) := by decide +kernel
theorem rw_d43 : decode xMrw.2.1 43 = .ok (.getfield 38, 3) := by decide +kernel
theorem rw_d46 : decode xMrw.2.1 46 = .ok (.iload_n 2, 1) := by decide +kernel
theorem rw_d47 : decode xMrw.2.1 47 = .ok (.baload, 1) := by decide +kernel
theorem rw_d48 : decode xMrw.2.1 48 = .ok (.ifCond .ne 11, 3) := by decide +kernel
theorem rw_d51 : decode xMrw.2.1 51 = .ok (.aload_n 0, 1) := by decide +kernel
theorem rw_d52 : decode xMrw.2.1 52 = .ok (.iconst 1, 1) := by decide +kernel
theorem rw_d53 : decode xMrw.2.1 53 = .ok (.bipush (-20), 2) := by decide +kernel
theorem rw_d55 : decode xMrw.2.1 55 = .ok (.invokevirtual 76, 3) := by decide +kernel
theorem rw_d58 : decode xMrw.2.1 58 = .ok (.ireturn, 1) := by decide +kernel
theorem rw_d59 : decode xMrw.2.1 59 = .ok (.aload_n 0, 1) := by decide +kernel
theorem rw_d60 : decode xMrw.2.1 60 = .ok (.iload_n 2, 1) := by decide +kernel
theorem rw_d61 : decode xMrw.2.1 61 = .ok (.invokevirtual 263, 3) := by decide +kernel
theorem rw_d64 : decode xMrw.2.1 64 = .ok (.aload_n 0, 1) := by decide +kernel
theorem rw_d65 : decode xMrw.2.1 65 = .ok (.getfield 41, 3) := by decide +kernel
theorem rw_d68 : decode xMrw.2.1 68 = .ok (.iload_n 1, 1) := by decide +kernel
theorem rw_d69 : decode xMrw.2.1 69 = .ok (.iaload, 1) := by decide +kernel
theorem rw_d70 : decode xMrw.2.1 70 = .ok (.iconst (-1), 1) := by decide +kernel
theorem rw_d71 : decode xMrw.2.1 71 = .ok (.if_icmp .ne 6, 3) := by decide +kernel
theorem rw_d74 : decode xMrw.2.1 74 = .ok (.bipush (-6), 2) := by decide +kernel
theorem rw_d76 : decode xMrw.2.1 76 = .ok (.ireturn, 1) := by decide +kernel
theorem rw_d77 : decode xMrw.2.1 77 = .ok (.iload_n 3, 1) := by decide +kernel
theorem rw_d78 : decode xMrw.2.1 78 = .ok (.iconst (-1), 1) := by decide +kernel
theorem rw_d79 : decode xMrw.2.1 79 = .ok (.if_icmp .ne 10, 3) := by decide +kernel
theorem rw_d82 : decode xMrw.2.1 82 = .ok (.aload_n 0, 1) := by decide +kernel
theorem rw_d83 : decode xMrw.2.1 83 = .ok (.getfield 41, 3) := by decide +kernel
theorem rw_d86 : decode xMrw.2.1 86 = .ok (.iload_n 1, 1) := by decide +kernel
theorem rw_d87 : decode xMrw.2.1 87 = .ok (.iaload, 1) := by decide +kernel
theorem rw_d88 : decode xMrw.2.1 88 = .ok (.ireturn, 1) := by decide +kernel
theorem rw_d89 : decode xMrw.2.1 89 = .ok (.iload_n 3, 1) := by decide +kernel
theorem rw_d90 : decode xMrw.2.1 90 = .ok (.aload_n 0, 1) := by decide +kernel
theorem rw_d91 : decode xMrw.2.1 91 = .ok (.getfield 41, 3) := by decide +kernel
theorem rw_d94 : decode xMrw.2.1 94 = .ok (.iload_n 1, 1) := by decide +kernel
theorem rw_d95 : decode xMrw.2.1 95 = .ok (.iaload, 1) := by decide +kernel
theorem rw_d96 : decode xMrw.2.1 96 = .ok (.if_icmp .le 6, 3) := by decide +kernel
theorem rw_d99 : decode xMrw.2.1 99 = .ok (.bipush (-5), 2) := by decide +kernel
theorem rw_d101 : decode xMrw.2.1 101 = .ok (.ireturn, 1) := by decide +kernel
theorem rw_d102 : decode xMrw.2.1 102 = .ok (.iload_n 1, 1) := by decide +kernel
theorem rw_d103 : decode xMrw.2.1 103 = .ok (.istore 4, 2) := by decide +kernel
theorem rw_d105 : decode xMrw.2.1 105 = .ok (.iconst 0, 1) := by decide +kernel
theorem rw_d106 : decode xMrw.2.1 106 = .ok (.istore 5, 2) := by decide +kernel
theorem rw_d108 : decode xMrw.2.1 108 = .ok (.iload 5, 2) := by decide +kernel
theorem rw_d110 : decode xMrw.2.1 110 = .ok (.iload_n 3, 1) := by decide +kernel
theorem rw_d111 : decode xMrw.2.1 111 = .ok (.if_icmp .ge 61, 3) := by decide +kernel
theorem rw_d114 : decode xMrw.2.1 114 = .ok (.iconst 0, 1) := by decide +kernel
theorem rw_d115 : decode xMrw.2.1 115 = .ok (.istore 6, 2) := by decide +kernel
theorem rw_d117 : decode xMrw.2.1 117 = .ok (.aload_n 0, 1) := by decide +kernel
theorem rw_d118 : decode xMrw.2.1 118 = .ok (.getfield 38, 3) := by decide +kernel
theorem rw_d121 : decode xMrw.2.1 121 = .ok (.iload 6, 2) := by decide +kernel
theorem rw_d123 : decode xMrw.2.1 123 = .ok (.baload, 1) := by decide +kernel
theorem rw_d124 : decode xMrw.2.1 124 = .ok (.ifCond .eq 32, 3) := by decide +kernel
theorem rw_d127 : decode xMrw.2.1 127 = .ok (.aload_n 0, 1) := by decide +kernel
theorem rw_d128 : decode xMrw.2.1 128 = .ok (.getfield 41, 3) := by decide +kernel
theorem rw_d131 : decode xMrw.2.1 131 = .ok (.iload 6, 2) := by decide +kernel
theorem rw_d133 : decode xMrw.2.1 133 = .ok (.iaload, 1) := by decide +kernel
theorem rw_d134 : decode xMrw.2.1 134 = .ok (.aload_n 0, 1) := by decide +kernel
theorem rw_d135 : decode xMrw.2.1 135 = .ok (.getfield 41, 3) := by decide +kernel
theorem rw_d138 : decode xMrw.2.1 138 = .ok (.iload 4, 2) := by decide +kernel
theorem rw_d140 : decode xMrw.2.1 140 = .ok (.iaload, 1) := by decide +kernel
theorem rw_d141 : decode xMrw.2.1 141 = .ok (.iconst 1, 1) := by decide +kernel
theorem rw_d142 : decode xMrw.2.1 142 = .ok (.isub, 1) := by decide +kernel
theorem rw_d143 : decode xMrw.2.1 143 = .ok (.if_icmp .ne 13, 3) := by decide +kernel
theorem rw_d146 : decode xMrw.2.1 146 = .ok (.iload 4, 2) := by decide +kernel
theorem rw_d148 : decode xMrw.2.1 148 = .ok (.iload 6, 2) := by decide +kernel
theorem rw_d150 : decode xMrw.2.1 150 = .ok (.invokestatic 257, 3) := by decide +kernel
theorem rw_d153 : decode xMrw.2.1 153 = .ok (.ifCond .ne 9, 3) := by decide +kernel
theorem rw_d156 : decode xMrw.2.1 156 = .ok (.iinc 6 1, 3) := by decide +kernel
theorem rw_d159 : decode xMrw.2.1 159 = .ok (.goto (-42), 3) := by decide +kernel
theorem rw_d162 : decode xMrw.2.1 162 = .ok (.iload 6, 2) := by decide +kernel
theorem rw_d164 : decode xMrw.2.1 164 = .ok (.istore 4, 2) := by decide +kernel
theorem rw_d166 : decode xMrw.2.1 166 = .ok (.iinc 5 1, 3) := by decide +kernel
theorem rw_d169 : decode xMrw.2.1 169 = .ok (.goto (-61), 3) := by decide +kernel
theorem rw_d172 : decode xMrw.2.1 172 = .ok (.iload 4, 2) := by decide +kernel
theorem rw_d174 : decode xMrw.2.1 174 = .ok (.ireturn, 1) := by decide +kernel
theorem rw_in {p : Program} {l : Launch} {e : Env} {s : State} {m : MethodId} {below : List Frame} {meth : Method} {c : Code} {D : va_G} {U : State} {Y0 : xY} {av : List Value} (B : y_B vwCl x_Tb x_Nb xMrw p s m meth c D U Y0 av) {this fr lw : Nat} {fm to i set k pp : Int32} {gl ff : Nat → Int32} {N1 : Int} (hN : N1 ≤ 1023) (hset : 0 ≤ set.toInt ∧ set.toInt ≤ N1) (hpos : 0 < (ff set.toInt.toNat).toInt)
    (p0 : 0 ≤ pp.toInt) (p1 : pp.toInt ≤ N1) (p2 : ¬ gl pp.toInt.toNat = 0) (p3 : (ff pp.toInt.toNat).toInt = (ff set.toInt.toNat).toInt - 1) (p4 : z_step pp set) (hB_lw : ∀ j, j < 1024 → (0 : Int) ≤ (gl j).toInt ∧ (gl j).toInt ≤ 1)
    (out : ∀ (H : Heap) (Y : xY) (locs : List Loc) (ls : Array Slot) (next : Int32), x_I D x_G x_Zs U (x_efs xMrw) Y0 s.heap Y H locs → Y this = some 17 → Y fr = some 56 → Y lw = some 55 → x_sl D 12 19 this H = some (.ref fr) → x_sl D 12 18 this H = some (.ref lw) → y_A fr 1024 H ff → y_A lw 1024 H gl → lv_has ls xMrw.2.2.1 [(6, .int next), (5, .int k), (4, .int set), (0, .ref this), (1, .int fm), (2, .int to), (3, .int i)] → 0 ≤ next.toInt → next.toInt ≤ N1 → (ff next.toInt.toNat).toInt = (ff set.toInt.toNat).toInt - 1 → W p l e (x_rm xMrw) s m av.toArray below meth c H locs 0 0 (y_QQ below D x_G x_Zs U xMrw y_TP av Y0 s) (F0 m 162 ls [])) :
    ∀ (n : Nat) (H : Heap) (Y : xY) (locs : List Loc) (ls : Array Slot) (next : Int32), x_I D x_G x_Zs U (x_efs xMrw) Y0 s.heap Y H locs → Y this = some 17 → Y fr = some 56 → Y lw = some 55 → x_sl D 12 19 this H = some (.ref fr) → x_sl D 12 18 this H = some (.ref lw) → y_A fr 1024 H ff → y_A lw 1024 H gl → lv_has ls xMrw.2.2.1 [(6, .int next), (5, .int k), (4, .int set), (0, .ref this), (1, .int fm), (2, .int to), (3, .int i)] → 0 ≤ next.toInt → next.toInt ≤ pp.toInt → (pp.toInt - next.toInt).toNat < n → W p l e (x_rm xMrw) s m av.toArray below meth c H locs 0 0 (y_QQ below D x_G x_Zs U xMrw y_TP av Y0 s) (F0 m 117 ls []) := by
  have X := B.1
  have hx := X.1
  have hb := X.2.1
  have hY0 := B.2.2.2.2.1
  intro n
  induction n with
  | zero => intro H Y locs ls next _ _ _ _ _ _ _ _ _ _ _ h; exact absurd h (Nat.not_lt_zero _)
  | succ n ih =>
    intro H Y locs ls next hI hY_this hY_fr hY_lw hs_far hs_laws hA_fr hA_lw hl h_n0 h_n1 hn
    have hB_fr := ()
    have hsr := x_i32 (ff set.toInt.toNat)
    refine lv_aload_n hx hb rw_d117 rfl (lv_at hl 3 rfl) ?_
    refine y_getf X (fl200 X.2.2.2.2.1) hI.1 hY_this rfl hs_laws rw_d118 ?_
    refine lv_iload hx hb rw_d121 (lv_at hl 0 rfl) ?_
    refine y_zald X hI.1 hY_lw rfl hA_lw (by omega) (by show _ < (1024 : Int); omega) rw_d123 ?_
    obtain ⟨e123, hg_e123⟩ : ∃ e123 : Int32, gl next.toInt.toNat = e123 := ⟨_, rfl⟩
    rw [hg_e123]
    have h_e123 : (0 : Int) ≤ e123.toInt ∧ e123.toInt ≤ 1 := by rw [← hg_e123]; exact hB_lw _ (by omega)
    have ec0 : (0 : Int32).toInt = 0 := by decide
    refine lv_if_eq hx hb rw_d124 (tgt := 156) (by decide) (fun q124 => ?_) (fun q124 => ?_)
    · have q124_ : e123.toInt = (0 : Int32).toInt := by rw [q124]
      have hne : ¬ next.toInt = pp.toInt := fun q => p2 (by rw [← Int32.toInt_inj.mp q, hg_e123]; exact q124)
      obtain ⟨z156, hg_z156⟩ : ∃ z156 : Int32, next + Int32.ofInt 1 = z156 := ⟨_, rfl⟩
      have h_z156 : z156.toInt = next.toInt + 1 := by rw [← hg_z156]; exact y_inc (by decide) (by omega) (by omega)
      refine lv_iinc hx hb rw_d156 hl (k := 0) rfl hg_z156 (by decide) (lv' := [(6, .int z156), (5, .int k), (4, .int set), (0, .ref this), (1, .int fm), (2, .int to), (3, .int i)]) rfl fun ls hl => ?_
      refine lv_goto hx hb rw_d159 (tgt := 117) (by decide) ?_
      exact ih _ _ _ _ _ hI hY_this hY_fr hY_lw hs_far hs_laws hA_fr hA_lw (lv_sub hl [0, 1, 2, 3, 4, 5, 6] rfl) (by omega) (by omega) (by omega)
    · have q124_ : ¬ e123.toInt = (0 : Int32).toInt := fun q => q124 (Int32.toInt_inj.mp q)
      refine lv_aload_n hx hb rw_d127 rfl (lv_at hl 3 rfl) ?_
      refine y_getf X (fl_rw_209 X.2.2.2.2.1) hI.1 hY_this rfl hs_far rw_d128 ?_
      refine lv_iload hx hb rw_d131 (lv_at hl 0 rfl) ?_
      refine y_iald X hI.1 hY_fr rfl hA_fr (by omega) (by show _ < (1024 : Int); omega) rw_d133 ?_
      obtain ⟨e133, hg_e133⟩ : ∃ e133 : Int32, ff next.toInt.toNat = e133 := ⟨_, rfl⟩
      rw [hg_e133]
      refine lv_aload_n hx hb rw_d134 rfl (lv_at hl 3 rfl) ?_
      refine y_getf X (fl_rw_209 X.2.2.2.2.1) hI.1 hY_this rfl hs_far rw_d135 ?_
      refine lv_iload hx hb rw_d138 (lv_at hl 2 rfl) ?_
      refine y_iald X hI.1 hY_fr rfl hA_fr (by omega) (by show _ < (1024 : Int); omega) rw_d140 ?_
      obtain ⟨e140, hg_e140⟩ : ∃ e140 : Int32, ff set.toInt.toNat = e140 := ⟨_, rfl⟩
      rw [hg_e140]
      have h140 : e140.toInt = (ff set.toInt.toNat).toInt := by rw [← hg_e140]
      refine lv_iconst hx hb rw_d141 (v := 1) (by decide) ?_
      have ec1 : (1 : Int32).toInt = 1 := by decide
      refine lv_isub hx hb rw_d142 ?_
      generalize hg_z142 : e140 - (1 : Int32) = z142
      have h_z142 : z142.toInt = e140.toInt - (1 : Int32).toInt := by rw [← hg_z142]; exact y_sub (by omega) (by omega)
      refine lv_icmp_ne hx hb rw_d143 (tgt := 156) (by decide) (fun q143 => ?_) (fun q143 => ?_)
      · have q143_ : ¬ e133.toInt = z142.toInt := fun q => q143 (Int32.toInt_inj.mp q)
        have hne : ¬ next.toInt = pp.toInt := fun q => q143 (Int32.toInt_inj.mp (by rw [h_z142, ← hg_e133, ← hg_e140, Int32.toInt_inj.mp q, p3]; omega))
        obtain ⟨z156, hg_z156⟩ : ∃ z156 : Int32, next + Int32.ofInt 1 = z156 := ⟨_, rfl⟩
        have h_z156 : z156.toInt = next.toInt + 1 := by rw [← hg_z156]; exact y_inc (by decide) (by omega) (by omega)
        refine lv_iinc hx hb rw_d156 hl (k := 0) rfl hg_z156 (by decide) (lv' := [(6, .int z156), (5, .int k), (4, .int set), (0, .ref this), (1, .int fm), (2, .int to), (3, .int i)]) rfl fun ls hl => ?_
        refine lv_goto hx hb rw_d159 (tgt := 117) (by decide) ?_
        exact ih _ _ _ _ _ hI hY_this hY_fr hY_lw hs_far hs_laws hA_fr hA_lw (lv_sub hl [0, 1, 2, 3, 4, 5, 6] rfl) (by omega) (by omega) (by omega)
      · have q143_ : e133.toInt = z142.toInt := by rw [q143]
        refine lv_iload hx hb rw_d146 (lv_at hl 2 rfl) ?_
        refine lv_iload hx hb rw_d148 (lv_at hl 0 rfl) ?_
        refine y_call (z := (1, 257, 2, none, xM205)) (av := [.int set, .int next]) (rest := []) (y_cokS (n := 2) X ym_isStep (x_cons (x_at 1377 (by decide +kernel) rfl) (x_cons (x_at 1378 (by decide +kernel) rfl) (x_cons (x_at 73 (by decide +kernel) rfl) x_nilm))) (x_at 1379 (by decide +kernel) rfl) (by decide +kernel) ⟨Nat.le_of_ble_eq_true rfl, Nat.le_of_ble_eq_true rfl⟩) hY0 hI rfl rw_d150 hl.1 (Nat.le_of_ble_eq_true rfl) (Nat.le_of_ble_eq_true rfl) (Nat.le_of_ble_eq_true rfl) (y_cons ⟨_, rfl, x_i32 _⟩ (y_cons ⟨_, rfl, x_i32 _⟩ y_nil)) rfl (y_norecv rfl) trivial (y_sub_ef rfl) fun v Yn o Hn L ho hr ha hIn hx_ hE hP => ?_
        replace hs_far := y_Efld hE hY_this rfl (by decide) (by decide) hs_far
        replace hs_laws := y_Efld hE hY_this rfl (by decide) (by decide) hs_laws
        replace hA_fr := hA_fr.kept (y_Earr hE hY_fr rfl (by decide))
        replace hA_lw := hA_lw.kept (y_Earr hE hY_lw rfl (by decide))
        replace hY_this := y_ext hx_ hI.1 hY_this
        replace hY_fr := y_ext hx_ hI.1 hY_fr
        replace hY_lw := y_ext hx_ hI.1 hY_lw
        obtain ⟨r150, rfl, hst_r150, hns_r150⟩ : ∃ r : Int32, v = some (.int r) ∧ (¬ r = 0 → z_step set next) ∧ (r = 0 → ¬ z_step set next) := z_stepR (hP _ _ rfl)
        clear ho hr ha hE hP hI hx_
        rename x_I _ _ _ _ _ _ _ _ _ _ => hI
        refine lv_if_ne hx hb rw_d153 (tgt := 162) (by decide) (fun q153 => ?_) (fun q153 => ?_)
        · have q153_ : ¬ r150.toInt = (0 : Int32).toInt := fun q => q153 (Int32.toInt_inj.mp q)
          exact out _ _ _ _ next hI hY_this hY_fr hY_lw hs_far hs_laws hA_fr hA_lw (lv_sub hl [0, 1, 2, 3, 4, 5, 6] rfl) h_n0 (by omega) (by rw [hg_e133]; rw [hg_e140]; omega)
        · have q153_ : r150.toInt = (0 : Int32).toInt := by rw [q153]
          have hne : ¬ next.toInt = pp.toInt := fun q => hns_r150 q153 (by rw [Int32.toInt_inj.mp q]; exact z_step_symm p4)
          obtain ⟨z156, hg_z156⟩ : ∃ z156 : Int32, next + Int32.ofInt 1 = z156 := ⟨_, rfl⟩
          have h_z156 : z156.toInt = next.toInt + 1 := by rw [← hg_z156]; exact y_inc (by decide) (by omega) (by omega)
          refine lv_iinc hx hb rw_d156 hl (k := 0) rfl hg_z156 (by decide) (lv' := [(6, .int z156), (5, .int k), (4, .int set), (0, .ref this), (1, .int fm), (2, .int to), (3, .int i)]) rfl fun ls hl => ?_
          refine lv_goto hx hb rw_d159 (tgt := 117) (by decide) ?_
          exact ih _ _ _ _ _ hI hY_this hY_fr hY_lw hs_far hs_laws hA_fr hA_lw (lv_sub hl [0, 1, 2, 3, 4, 5, 6] rfl) (by omega) (by omega) (by omega)
theorem rw_walk {p : Program} {l : Launch} {e : Env} {s : State} {m : MethodId} {below : List Frame} {meth : Method} {c : Code} {D : va_G} {U : State} {Y0 : xY} {av : List Value} (B : y_B vwCl x_Tb x_Nb xMrw p s m meth c D U Y0 av) {this fr lw : Nat} {fm to i : Int32} {gl ff : Nat → Int32} {N1 Fz : Int} (hN : N1 ≤ 1023) (hi : i.toInt ≤ Fz) (hPr : z_Pr N1 gl ff) (hB_lw : ∀ j, j < 1024 → (0 : Int) ≤ (gl j).toInt ∧ (gl j).toInt ≤ 1) :
    ∀ (n : Nat) (H : Heap) (Y : xY) (locs : List Loc) (ls : Array Slot) (k set : Int32), x_I D x_G x_Zs U (x_efs xMrw) Y0 s.heap Y H locs → Y this = some 17 → Y fr = some 56 → Y lw = some 55 → x_sl D 12 19 this H = some (.ref fr) → x_sl D 12 18 this H = some (.ref lw) → y_A fr 1024 H ff → y_A lw 1024 H gl → lv_has ls xMrw.2.2.1 [(5, .int k), (4, .int set), (0, .ref this), (1, .int fm), (2, .int to), (3, .int i)] → 0 ≤ set.toInt ∧ set.toInt ≤ N1 → (ff set.toInt.toNat).toInt = Fz - k.toInt → 0 ≤ k.toInt → (i.toInt - k.toInt).toNat < n → W p l e (x_rm xMrw) s m av.toArray below meth c H locs 0 0 (y_QQ below D x_G x_Zs U xMrw y_TP av Y0 s) (F0 m 108 ls []) := by
  have X := B.1
  have hx := X.1
  have hb := X.2.1
  have hY0 := B.2.2.2.2.1
  intro n
  induction n with
  | zero => intro H Y locs ls k set _ _ _ _ _ _ _ _ _ _ _ _ h; exact absurd h (Nat.not_lt_zero _)
  | succ n ih =>
    intro H Y locs ls k set hI hY_this hY_fr hY_lw hs_far hs_laws hA_fr hA_lw hl hset hF hk0 hn
    have hB_fr := ()
    have hi2 := x_i32 i
    refine lv_iload hx hb rw_d108 (lv_at hl 0 rfl) ?_
    refine lv_iload_n hx hb rw_d110 rfl (lv_at hl 5 rfl) ?_
    refine lv_icmp_ge hx hb rw_d111 (tgt := 172) (by decide) (fun q111 => ?_) (fun q111 => ?_)
    · have q111_ : i.toInt ≤ k.toInt := x_le32.mp q111
      refine lv_iload hx hb rw_d172 (lv_at hl 1 rfl) ?_
      exact y_ireturn B hI rfl rfl rfl List.mem_cons_self ⟨_, rfl, ⟨_, rfl, x_i32 _⟩⟩ (x_cs.mono B.2.2.2.2.2 (y_mon B hI)) trivial (Nat.le_refl _) (Nat.le_refl _) rw_d174
    · have q111_ : k.toInt < i.toInt := Int.not_le.mp fun q => q111 (x_le32.mpr q)
      refine lv_iconst hx hb rw_d114 (v := 0) (by decide) ?_
      have ec0 : (0 : Int32).toInt = 0 := by decide
      refine lv_istore hx hb rw_d115 hl (by decide) (lv' := [(6, .int (0 : Int32)), (5, .int k), (4, .int set), (0, .ref this), (1, .int fm), (2, .int to), (3, .int i)]) rfl fun ls hl => ?_
      have hpos : 0 < (ff set.toInt.toNat).toInt := by omega
      obtain ⟨pp, p0, p1, p2, p3, p4⟩ := hPr set hset.1 hset.2 hpos
      refine rw_in B hN hset hpos p0 p1 p2 p3 p4 hB_lw ?_ 1100 _ _ _ _ _ hI hY_this hY_fr hY_lw hs_far hs_laws hA_fr hA_lw (lv_sub hl [0, 1, 2, 3, 4, 5, 6] rfl) (by omega) (by omega) (by omega)
      intro H Y locs ls next hI hY_this hY_fr hY_lw hs_far hs_laws hA_fr hA_lw hl h_n0 h_n1 h_ff
      refine lv_iload hx hb rw_d162 (lv_at hl 0 rfl) ?_
      refine lv_istore hx hb rw_d164 hl (by decide) (lv' := [(4, .int next), (6, .int next), (5, .int k), (0, .ref this), (1, .int fm), (2, .int to), (3, .int i)]) rfl fun ls hl => ?_
      obtain ⟨z166, hg_z166⟩ : ∃ z166 : Int32, k + Int32.ofInt 1 = z166 := ⟨_, rfl⟩
      have h_z166 : z166.toInt = k.toInt + 1 := by rw [← hg_z166]; exact y_inc (by decide) (by omega) (by omega)
      refine lv_iinc hx hb rw_d166 hl (k := 2) rfl hg_z166 (by decide) (lv' := [(5, .int z166), (4, .int next), (6, .int next), (0, .ref this), (1, .int fm), (2, .int to), (3, .int i)]) rfl fun ls hl => ?_
      refine lv_goto hx hb rw_d169 (tgt := 108) (by decide) ?_
      exact ih _ _ _ _ _ _ hI hY_this hY_fr hY_lw hs_far hs_laws hA_fr hA_lw (lv_sub hl [0, 1, 3, 4, 5, 6] rfl) ⟨h_n0, h_n1⟩ (by omega) (by omega) (by omega)
theorem y_four {Y : xY} {t u w x : xV} {av : List Value} (h : x_cs Y [t, u, w, x] av) : ∃ a b c d, av = [a, b, c, d] ∧ x_c Y t a ∧ x_c Y u b ∧ x_c Y w c ∧ x_c Y x d := by
  obtain ⟨h1, h2⟩ := h
  match av, h1 with
  | [a, b, c, d], _ => exact ⟨a, b, c, d, rfl, h2 0 t a rfl rfl, h2 1 u b rfl rfl, h2 2 w c rfl rfl, h2 3 x d rfl rfl⟩
theorem ym_row : y_Met vwCl x_G x_Zs x_Tb x_Nb xMrw y_T y_TP := by
  refine y_main (by decide +kernel) (by decide +kernel) x_Tb_good x_Nb_ok ?_
  intro p l e s m below meth c D U Y0 av ls B hI _ hl
  have X := B.1
  have hx := X.1
  have hb := X.2.1
  have hY0 := B.2.2.2.2.1
  obtain ⟨v0, v1, v2, v3, rfl, hv0, ⟨fm, rfl, -⟩, ⟨to, rfl, -⟩, ⟨i, rfl, -⟩⟩ := y_four B.2.2.2.2.2
  obtain ⟨this, t0, rfl, ht0, hY_this⟩ := x_ref_at hv0 rfl
  obtain rfl := List.mem_singleton.mp ht0
  replace hl : lv_has ls xMrw.2.2.1 [(0, .ref this), (1, .int fm), (2, .int to), (3, .int i)] := hl
  obtain ⟨fr, hs_far, hY_fr⟩ := y_fldR (k := 19) hI.1 hY_this rfl rfl
  obtain ⟨lw, hs_laws, hY_lw⟩ := y_fldR (k := 18) hI.1 hY_this rfl rfl
  obtain ⟨bk, hs_book, hY_bk⟩ := y_fldR (k := 0) hI.1 hY_this rfl rfl
  obtain ⟨fb, hA_bk, hB_bk⟩ := y_arr hI.1 hY_bk rfl rfl
  have hN : 0 ≤ (z_all (fb 0)).toInt ∧ (z_all (fb 0)).toInt ≤ 1023 := z_all_b (by obtain ⟨x, e0, e1⟩ := hB_bk 0 (by decide); cases e0; exact e1)
  refine lv_aload_n hx hb rw_d0 rfl (lv_at hl 0 rfl) ?_
  refine lv_iload_n hx hb rw_d1 rfl (lv_at hl 1 rfl) ?_
  refine y_call (z := (0, 237, 2, some 17, xM184)) (av := [.ref this, .int fm]) (rest := []) (y_cokV (n := 1) (ci := 12) X ym_isSet rfl rfl rfl (x_cons (x_at 1296 (by decide +kernel) rfl) (x_cons (x_at 1298 (by decide +kernel) rfl) (x_cons (x_at 48 (by decide +kernel) rfl) (x_cons (x_at 73 (by decide +kernel) rfl) x_nilm)))) (x_at 1299 (by decide +kernel) rfl) (by decide +kernel) ⟨Nat.le_of_ble_eq_true rfl, Nat.le_of_ble_eq_true rfl⟩) hY0 hI rfl rw_d2 hl.1 (Nat.le_of_ble_eq_true rfl) (Nat.le_of_ble_eq_true rfl) (Nat.le_of_ble_eq_true rfl) (y_cons (y_cref hY_this rfl) (y_cons ⟨_, rfl, x_i32 _⟩ y_nil)) rfl (y_recv rfl hY_this) trivial (y_sub_ef rfl) fun v Yn o Hn L ho hr ha hIn hx_ hE hP => ?_
  have hPv := hP _ _ _ _ rfl hs_book (hA_bk 0 (by decide))
  replace hs_far := y_Efld hE hY_this rfl (by decide) (by decide) hs_far
  replace hs_laws := y_Efld hE hY_this rfl (by decide) (by decide) hs_laws
  replace hs_book := y_Efld hE hY_this rfl (by decide) (by decide) hs_book
  replace hA_bk := hA_bk.kept (y_Earr hE hY_bk rfl (by decide))
  replace hY_this := y_ext hx_ hI.1 hY_this
  replace hY_fr := y_ext hx_ hI.1 hY_fr
  replace hY_lw := y_ext hx_ hI.1 hY_lw
  replace hY_bk := y_ext hx_ hI.1 hY_bk
  obtain ⟨r2, rfl, hin_r2, hout_r2⟩ := hPv
  clear ho hr ha hE hP hI hx_
  rename x_I _ _ _ _ _ _ _ _ _ _ => hI
  have ec0 : (0 : Int32).toInt = 0 := by decide
  refine lv_if_eq hx hb rw_d5 (tgt := 21) (by decide) (fun q5 => ?_) (fun q5 => ?_)
  · have q5_ : r2.toInt = (0 : Int32).toInt := by rw [q5]
    refine lv_aload_n hx hb rw_d21 rfl (lv_at hl 0 rfl) ?_
    refine lv_iconst hx hb rw_d22 (v := 0) (by decide) ?_
    refine lv_bipush hx hb rw_d23 (v := (-10)) (by decide) ?_
    have ecm10 : ((-10) : Int32).toInt = (-10) := by decide
    refine y_call (z := (0, 76, 3, some 17, xM142)) (av := [.ref this, .int (0 : Int32), .int ((-10) : Int32)]) (rest := []) (y_cok.of (x_cokV (n := 2) (ci := 12) X xm142 rfl rfl rfl (x_cons (x_at 1159 (by decide +kernel) rfl) (x_cons (x_at 1161 (by decide +kernel) rfl) (x_cons (x_at 33 (by decide +kernel) rfl) (x_cons (x_at 73 (by decide +kernel) rfl) x_nilm)))) (x_at 1162 (by decide +kernel) rfl) (by decide +kernel) ⟨Nat.le_of_ble_eq_true rfl, Nat.le_of_ble_eq_true rfl⟩)) hY0 hI rfl rw_d25 hl.1 (Nat.le_of_ble_eq_true rfl) (Nat.le_of_ble_eq_true rfl) (Nat.le_of_ble_eq_true rfl) (y_cons (y_cref hY_this rfl) (y_cons ⟨_, rfl, by show (0 : Int) ≤ _; omega, by show _ ≤ (2 : Int); omega⟩ (y_cons ⟨_, rfl, x_i32 _⟩ y_nil))) rfl (y_recv rfl hY_this) trivial (y_sub_ef rfl) fun v Yn o Hn L ho hr ha hIn hx_ hE hP => ?_
    replace hs_far := y_Efld hE hY_this rfl (by decide) (by decide) hs_far
    replace hs_laws := y_Efld hE hY_this rfl (by decide) (by decide) hs_laws
    replace hs_book := y_Efld hE hY_this rfl (by decide) (by decide) hs_book
    replace hA_bk := hA_bk.kept (y_Earr hE hY_bk rfl (by decide))
    replace hY_this := y_ext hx_ hI.1 hY_this
    replace hY_fr := y_ext hx_ hI.1 hY_fr
    replace hY_lw := y_ext hx_ hI.1 hY_lw
    replace hY_bk := y_ext hx_ hI.1 hY_bk
    obtain ⟨r25, rfl, h_r25⟩ := y_ansI (lo := (-2147483648)) (hi := 2147483647) (by decide) ho hr
    clear ho hr ha hE hP hI hx_
    rename x_I _ _ _ _ _ _ _ _ _ _ => hI
    exact y_ireturn B hI rfl rfl rfl List.mem_cons_self ⟨_, rfl, ⟨_, rfl, x_i32 _⟩⟩ (x_cs.mono B.2.2.2.2.2 (y_mon B hI)) trivial (Nat.le_refl _) (Nat.le_refl _) rw_d28
  · have q5_ : ¬ r2.toInt = (0 : Int32).toInt := fun q => q5 (Int32.toInt_inj.mp q)
    refine lv_aload_n hx hb rw_d8 rfl (lv_at hl 0 rfl) ?_
    refine lv_iload_n hx hb rw_d9 rfl (lv_at hl 2 rfl) ?_
    refine y_call (z := (0, 237, 2, some 17, xM184)) (av := [.ref this, .int to]) (rest := []) (y_cokV (n := 1) (ci := 12) X ym_isSet rfl rfl rfl (x_cons (x_at 1296 (by decide +kernel) rfl) (x_cons (x_at 1298 (by decide +kernel) rfl) (x_cons (x_at 48 (by decide +kernel) rfl) (x_cons (x_at 73 (by decide +kernel) rfl) x_nilm)))) (x_at 1299 (by decide +kernel) rfl) (by decide +kernel) ⟨Nat.le_of_ble_eq_true rfl, Nat.le_of_ble_eq_true rfl⟩) hY0 hI rfl rw_d10 hl.1 (Nat.le_of_ble_eq_true rfl) (Nat.le_of_ble_eq_true rfl) (Nat.le_of_ble_eq_true rfl) (y_cons (y_cref hY_this rfl) (y_cons ⟨_, rfl, x_i32 _⟩ y_nil)) rfl (y_recv rfl hY_this) trivial (y_sub_ef rfl) fun v Yn o Hn L ho hr ha hIn hx_ hE hP => ?_
    have hPv := hP _ _ _ _ rfl hs_book (hA_bk 0 (by decide))
    replace hs_far := y_Efld hE hY_this rfl (by decide) (by decide) hs_far
    replace hs_laws := y_Efld hE hY_this rfl (by decide) (by decide) hs_laws
    replace hs_book := y_Efld hE hY_this rfl (by decide) (by decide) hs_book
    replace hA_bk := hA_bk.kept (y_Earr hE hY_bk rfl (by decide))
    replace hY_this := y_ext hx_ hI.1 hY_this
    replace hY_fr := y_ext hx_ hI.1 hY_fr
    replace hY_lw := y_ext hx_ hI.1 hY_lw
    replace hY_bk := y_ext hx_ hI.1 hY_bk
    obtain ⟨r10, rfl, hin_r10, hout_r10⟩ := hPv
    clear ho hr ha hE hP hI hx_
    rename x_I _ _ _ _ _ _ _ _ _ _ => hI
    refine lv_if_eq hx hb rw_d13 (tgt := 21) (by decide) (fun q13 => ?_) (fun q13 => ?_)
    · have q13_ : r10.toInt = (0 : Int32).toInt := by rw [q13]
      refine lv_aload_n hx hb rw_d21 rfl (lv_at hl 0 rfl) ?_
      refine lv_iconst hx hb rw_d22 (v := 0) (by decide) ?_
      refine lv_bipush hx hb rw_d23 (v := (-10)) (by decide) ?_
      have ecm10 : ((-10) : Int32).toInt = (-10) := by decide
      refine y_call (z := (0, 76, 3, some 17, xM142)) (av := [.ref this, .int (0 : Int32), .int ((-10) : Int32)]) (rest := []) (y_cok.of (x_cokV (n := 2) (ci := 12) X xm142 rfl rfl rfl (x_cons (x_at 1159 (by decide +kernel) rfl) (x_cons (x_at 1161 (by decide +kernel) rfl) (x_cons (x_at 33 (by decide +kernel) rfl) (x_cons (x_at 73 (by decide +kernel) rfl) x_nilm)))) (x_at 1162 (by decide +kernel) rfl) (by decide +kernel) ⟨Nat.le_of_ble_eq_true rfl, Nat.le_of_ble_eq_true rfl⟩)) hY0 hI rfl rw_d25 hl.1 (Nat.le_of_ble_eq_true rfl) (Nat.le_of_ble_eq_true rfl) (Nat.le_of_ble_eq_true rfl) (y_cons (y_cref hY_this rfl) (y_cons ⟨_, rfl, by show (0 : Int) ≤ _; omega, by show _ ≤ (2 : Int); omega⟩ (y_cons ⟨_, rfl, x_i32 _⟩ y_nil))) rfl (y_recv rfl hY_this) trivial (y_sub_ef rfl) fun v Yn o Hn L ho hr ha hIn hx_ hE hP => ?_
      replace hs_far := y_Efld hE hY_this rfl (by decide) (by decide) hs_far
      replace hs_laws := y_Efld hE hY_this rfl (by decide) (by decide) hs_laws
      replace hs_book := y_Efld hE hY_this rfl (by decide) (by decide) hs_book
      replace hA_bk := hA_bk.kept (y_Earr hE hY_bk rfl (by decide))
      replace hY_this := y_ext hx_ hI.1 hY_this
      replace hY_fr := y_ext hx_ hI.1 hY_fr
      replace hY_lw := y_ext hx_ hI.1 hY_lw
      replace hY_bk := y_ext hx_ hI.1 hY_bk
      obtain ⟨r25, rfl, h_r25⟩ := y_ansI (lo := (-2147483648)) (hi := 2147483647) (by decide) ho hr
      clear ho hr ha hE hP hI hx_
      rename x_I _ _ _ _ _ _ _ _ _ _ => hI
      exact y_ireturn B hI rfl rfl rfl List.mem_cons_self ⟨_, rfl, ⟨_, rfl, x_i32 _⟩⟩ (x_cs.mono B.2.2.2.2.2 (y_mon B hI)) trivial (Nat.le_refl _) (Nat.le_refl _) rw_d28
    · have q13_ : ¬ r10.toInt = (0 : Int32).toInt := fun q => q13 (Int32.toInt_inj.mp q)
      refine lv_iload_n hx hb rw_d16 rfl (lv_at hl 3 rfl) ?_
      refine lv_iconst hx hb rw_d17 (v := (-1)) (by decide) ?_
      have ecm1 : ((-1) : Int32).toInt = (-1) := by decide
      refine lv_icmp_ge hx hb rw_d18 (tgt := 29) (by decide) (fun q18 => ?_) (fun q18 => ?_)
      · have q18_ : ((-1) : Int32).toInt ≤ i.toInt := x_le32.mp q18
        refine lv_aload_n hx hb rw_d29 rfl (lv_at hl 0 rfl) ?_
        refine y_call (z := (0, 260, 1, some 17, xM204)) (av := [.ref this]) (rest := []) (y_cok.of (x_cokV (n := 0) (ci := 12) X xm204 rfl rfl rfl (x_cons (x_at 1369 (by decide +kernel) rfl) (x_cons (x_at 1371 (by decide +kernel) rfl) (x_cons (x_at 55 (by decide +kernel) rfl) (x_cons (x_at 73 (by decide +kernel) rfl) x_nilm)))) (x_at 1372 (by decide +kernel) rfl) (by decide +kernel) ⟨Nat.le_of_ble_eq_true rfl, Nat.le_of_ble_eq_true rfl⟩)) hY0 hI rfl rw_d30 hl.1 (Nat.le_of_ble_eq_true rfl) (Nat.le_of_ble_eq_true rfl) (Nat.le_of_ble_eq_true rfl) (y_cons (y_cref hY_this rfl) y_nil) rfl (y_recv rfl hY_this) trivial (y_sub_ef rfl) fun v Yn o Hn L ho hr ha hIn hx_ hE hP => ?_
        replace hs_far := y_Efld hE hY_this rfl (by decide) (by decide) hs_far
        replace hs_laws := y_Efld hE hY_this rfl (by decide) (by decide) hs_laws
        replace hs_book := y_Efld hE hY_this rfl (by decide) (by decide) hs_book
        replace hA_bk := hA_bk.kept (y_Earr hE hY_bk rfl (by decide))
        replace hY_this := y_ext hx_ hI.1 hY_this
        replace hY_fr := y_ext hx_ hI.1 hY_fr
        replace hY_lw := y_ext hx_ hI.1 hY_lw
        replace hY_bk := y_ext hx_ hI.1 hY_bk
        obtain rfl := y_ansV rfl ho hr
        clear ho hr ha hE hP hI hx_
        rename x_I _ _ _ _ _ _ _ _ _ _ => hI
        obtain ⟨gl, hA_lw, hB_lw⟩ := y_arr hI.1 hY_lw rfl rfl
        replace hB_lw : ∀ j, j < 1024 → (0 : Int) ≤ (gl j).toInt ∧ (gl j).toInt ≤ 1 := fun j hj => by obtain ⟨x, e0, e1⟩ := hB_lw j hj; cases e0; exact e1
        have hfm1 := hin_r2 q5
        have hto1 := hin_r10 q13
        have hB_fr := ()
        refine lv_aload_n hx hb rw_d33 rfl (lv_at hl 0 rfl) ?_
        refine y_getf X (fl200 X.2.2.2.2.1) hI.1 hY_this rfl hs_laws rw_d34 ?_
        refine lv_iload_n hx hb rw_d37 rfl (lv_at hl 1 rfl) ?_
        refine y_zald X hI.1 hY_lw rfl hA_lw (by omega) (by show _ < (1024 : Int); omega) rw_d38 ?_
        obtain ⟨e38, hg_e38⟩ : ∃ e38 : Int32, gl fm.toInt.toNat = e38 := ⟨_, rfl⟩
        rw [hg_e38]
        have h_e38 : (0 : Int) ≤ e38.toInt ∧ e38.toInt ≤ 1 := by rw [← hg_e38]; exact hB_lw _ (by omega)
        refine lv_if_eq hx hb rw_d39 (tgt := 51) (by decide) (fun q39 => ?_) (fun q39 => ?_)
        · have q39_ : e38.toInt = (0 : Int32).toInt := by rw [q39]
          refine lv_aload_n hx hb rw_d51 rfl (lv_at hl 0 rfl) ?_
          refine lv_iconst hx hb rw_d52 (v := 1) (by decide) ?_
          have ec1 : (1 : Int32).toInt = 1 := by decide
          refine lv_bipush hx hb rw_d53 (v := (-20)) (by decide) ?_
          have ecm20 : ((-20) : Int32).toInt = (-20) := by decide
          refine y_call (z := (0, 76, 3, some 17, xM142)) (av := [.ref this, .int (1 : Int32), .int ((-20) : Int32)]) (rest := []) (y_cok.of (x_cokV (n := 2) (ci := 12) X xm142 rfl rfl rfl (x_cons (x_at 1159 (by decide +kernel) rfl) (x_cons (x_at 1161 (by decide +kernel) rfl) (x_cons (x_at 33 (by decide +kernel) rfl) (x_cons (x_at 73 (by decide +kernel) rfl) x_nilm)))) (x_at 1162 (by decide +kernel) rfl) (by decide +kernel) ⟨Nat.le_of_ble_eq_true rfl, Nat.le_of_ble_eq_true rfl⟩)) hY0 hI rfl rw_d55 hl.1 (Nat.le_of_ble_eq_true rfl) (Nat.le_of_ble_eq_true rfl) (Nat.le_of_ble_eq_true rfl) (y_cons (y_cref hY_this rfl) (y_cons ⟨_, rfl, by show (0 : Int) ≤ _; omega, by show _ ≤ (2 : Int); omega⟩ (y_cons ⟨_, rfl, x_i32 _⟩ y_nil))) rfl (y_recv rfl hY_this) trivial (y_sub_ef rfl) fun v Yn o Hn L ho hr ha hIn hx_ hE hP => ?_
          replace hs_far := y_Efld hE hY_this rfl (by decide) (by decide) hs_far
          replace hs_laws := y_Efld hE hY_this rfl (by decide) (by decide) hs_laws
          replace hs_book := y_Efld hE hY_this rfl (by decide) (by decide) hs_book
          replace hA_bk := hA_bk.kept (y_Earr hE hY_bk rfl (by decide))
          replace hA_lw := hA_lw.kept (y_Earr hE hY_lw rfl (by decide))
          replace hY_this := y_ext hx_ hI.1 hY_this
          replace hY_fr := y_ext hx_ hI.1 hY_fr
          replace hY_lw := y_ext hx_ hI.1 hY_lw
          replace hY_bk := y_ext hx_ hI.1 hY_bk
          obtain ⟨r55, rfl, h_r55⟩ := y_ansI (lo := (-2147483648)) (hi := 2147483647) (by decide) ho hr
          clear ho hr ha hE hP hI hx_
          rename x_I _ _ _ _ _ _ _ _ _ _ => hI
          exact y_ireturn B hI rfl rfl rfl List.mem_cons_self ⟨_, rfl, ⟨_, rfl, x_i32 _⟩⟩ (x_cs.mono B.2.2.2.2.2 (y_mon B hI)) trivial (Nat.le_refl _) (Nat.le_refl _) rw_d58
        · have q39_ : ¬ e38.toInt = (0 : Int32).toInt := fun q => q39 (Int32.toInt_inj.mp q)
          refine lv_aload_n hx hb rw_d42 rfl (lv_at hl 0 rfl) ?_
          refine y_getf X (fl200 X.2.2.2.2.1) hI.1 hY_this rfl hs_laws rw_d43 ?_
          refine lv_iload_n hx hb rw_d46 rfl (lv_at hl 2 rfl) ?_
          refine y_zald X hI.1 hY_lw rfl hA_lw (by omega) (by show _ < (1024 : Int); omega) rw_d47 ?_
          obtain ⟨e47, hg_e47⟩ : ∃ e47 : Int32, gl to.toInt.toNat = e47 := ⟨_, rfl⟩
          rw [hg_e47]
          have h_e47 : (0 : Int) ≤ e47.toInt ∧ e47.toInt ≤ 1 := by rw [← hg_e47]; exact hB_lw _ (by omega)
          refine lv_if_ne hx hb rw_d48 (tgt := 59) (by decide) (fun q48 => ?_) (fun q48 => ?_)
          · have q48_ : ¬ e47.toInt = (0 : Int32).toInt := fun q => q48 (Int32.toInt_inj.mp q)
            refine lv_aload_n hx hb rw_d59 rfl (lv_at hl 0 rfl) ?_
            refine lv_iload_n hx hb rw_d60 rfl (lv_at hl 2 rfl) ?_
            refine y_call (z := (0, 263, 2, some 17, xMsp)) (av := [.ref this, .int to]) (rest := []) (y_cokV (n := 1) (ci := 12) X ym_spreads rfl rfl rfl (x_cons (x_at 1373 (by decide +kernel) rfl) (x_cons (x_at 1375 (by decide +kernel) rfl) (x_cons (x_at 56 (by decide +kernel) rfl) (x_cons (x_at 73 (by decide +kernel) rfl) x_nilm)))) (x_at 1376 (by decide +kernel) rfl) (by decide +kernel) ⟨Nat.le_of_ble_eq_true rfl, Nat.le_of_ble_eq_true rfl⟩) hY0 hI rfl rw_d61 hl.1 (Nat.le_of_ble_eq_true rfl) (Nat.le_of_ble_eq_true rfl) (Nat.le_of_ble_eq_true rfl) (y_cons (y_cref hY_this rfl) (y_cons ⟨_, rfl, by show (0 : Int) ≤ _; omega, by show _ ≤ (1023 : Int); omega⟩ y_nil)) rfl (y_recv rfl hY_this) trivial (y_sub_ef rfl) fun v Yn o Hn L ho hr ha hIn hx_ hE hP => ?_
            have hPv := hP _ fr _ _ _ _ _ rfl hs_book hA_bk hs_laws hA_lw hs_far (by have := hin_r10 q13; omega) (by rw [hg_e47]; exact q48)
            replace hs_far := y_Efld hE hY_this rfl (by decide) (by decide) hs_far
            replace hs_laws := y_Efld hE hY_this rfl (by decide) (by decide) hs_laws
            replace hs_book := y_Efld hE hY_this rfl (by decide) (by decide) hs_book
            replace hA_bk := hA_bk.kept (y_Earr hE hY_bk rfl (by decide))
            replace hA_lw := hA_lw.kept (y_Earr hE hY_lw rfl (by decide))
            replace hY_this := y_ext hx_ hI.1 hY_this
            replace hY_fr := y_ext hx_ hI.1 hY_fr
            replace hY_lw := y_ext hx_ hI.1 hY_lw
            replace hY_bk := y_ext hx_ hI.1 hY_bk
            obtain rfl := y_ansV rfl ho hr
            obtain ⟨ff, hA_fr, hff0, hPr⟩ := hPv
            clear ho hr ha hE hP hI hx_
            rename x_I _ _ _ _ _ _ _ _ _ _ => hI
            refine lv_aload_n hx hb rw_d64 rfl (lv_at hl 0 rfl) ?_
            refine y_getf X (fl_rw_209 X.2.2.2.2.1) hI.1 hY_this rfl hs_far rw_d65 ?_
            refine lv_iload_n hx hb rw_d68 rfl (lv_at hl 1 rfl) ?_
            refine y_iald X hI.1 hY_fr rfl hA_fr (by omega) (by show _ < (1024 : Int); omega) rw_d69 ?_
            obtain ⟨e69, hg_e69⟩ : ∃ e69 : Int32, ff fm.toInt.toNat = e69 := ⟨_, rfl⟩
            rw [hg_e69]
            refine lv_iconst hx hb rw_d70 (v := (-1)) (by decide) ?_
            refine lv_icmp_ne hx hb rw_d71 (tgt := 77) (by decide) (fun q71 => ?_) (fun q71 => ?_)
            · have q71_ : ¬ e69.toInt = ((-1) : Int32).toInt := fun q => q71 (Int32.toInt_inj.mp q)
              refine lv_iload_n hx hb rw_d77 rfl (lv_at hl 3 rfl) ?_
              refine lv_iconst hx hb rw_d78 (v := (-1)) (by decide) ?_
              refine lv_icmp_ne hx hb rw_d79 (tgt := 89) (by decide) (fun q79 => ?_) (fun q79 => ?_)
              · have q79_ : ¬ i.toInt = ((-1) : Int32).toInt := fun q => q79 (Int32.toInt_inj.mp q)
                refine lv_iload_n hx hb rw_d89 rfl (lv_at hl 3 rfl) ?_
                refine lv_aload_n hx hb rw_d90 rfl (lv_at hl 0 rfl) ?_
                refine y_getf X (fl_rw_209 X.2.2.2.2.1) hI.1 hY_this rfl hs_far rw_d91 ?_
                refine lv_iload_n hx hb rw_d94 rfl (lv_at hl 1 rfl) ?_
                refine y_iald X hI.1 hY_fr rfl hA_fr (by omega) (by show _ < (1024 : Int); omega) rw_d95 ?_
                obtain ⟨e95, hg_e95⟩ : ∃ e95 : Int32, ff fm.toInt.toNat = e95 := ⟨_, rfl⟩
                rw [hg_e95]
                refine lv_icmp_le hx hb rw_d96 (tgt := 102) (by decide) (fun q96 => ?_) (fun q96 => ?_)
                · have q96_ : i.toInt ≤ e95.toInt := x_le32.mp q96
                  refine lv_iload_n hx hb rw_d102 rfl (lv_at hl 1 rfl) ?_
                  refine lv_istore hx hb rw_d103 hl (by decide) (lv' := [(4, .int fm), (0, .ref this), (1, .int fm), (2, .int to), (3, .int i)]) rfl fun ls hl => ?_
                  refine lv_iconst hx hb rw_d105 (v := 0) (by decide) ?_
                  refine lv_istore hx hb rw_d106 hl (by decide) (lv' := [(5, .int (0 : Int32)), (4, .int fm), (0, .ref this), (1, .int fm), (2, .int to), (3, .int i)]) rfl fun ls hl => ?_
                  exact rw_walk B hN.2 (Fz := e95.toInt) (by omega) hPr hB_lw (i.toInt.toNat + 1) _ _ _ _ _ _ hI hY_this hY_fr hY_lw hs_far hs_laws hA_fr hA_lw hl (by omega) (by rw [hg_e95]; omega) (by omega) (by omega)
                · have q96_ : e95.toInt < i.toInt := Int.not_le.mp fun q => q96 (x_le32.mpr q)
                  refine lv_bipush hx hb rw_d99 (v := (-5)) (by decide) ?_
                  have ecm5 : ((-5) : Int32).toInt = (-5) := by decide
                  exact y_ireturn B hI rfl rfl rfl List.mem_cons_self ⟨_, rfl, ⟨_, rfl, x_i32 _⟩⟩ (x_cs.mono B.2.2.2.2.2 (y_mon B hI)) trivial (Nat.le_refl _) (Nat.le_refl _) rw_d101
              · have q79_ : i.toInt = ((-1) : Int32).toInt := by rw [q79]
                refine lv_aload_n hx hb rw_d82 rfl (lv_at hl 0 rfl) ?_
                refine y_getf X (fl_rw_209 X.2.2.2.2.1) hI.1 hY_this rfl hs_far rw_d83 ?_
                refine lv_iload_n hx hb rw_d86 rfl (lv_at hl 1 rfl) ?_
                refine y_iald X hI.1 hY_fr rfl hA_fr (by omega) (by show _ < (1024 : Int); omega) rw_d87 ?_
                obtain ⟨e87, hg_e87⟩ : ∃ e87 : Int32, ff fm.toInt.toNat = e87 := ⟨_, rfl⟩
                rw [hg_e87]
                exact y_ireturn B hI rfl rfl rfl List.mem_cons_self ⟨_, rfl, ⟨_, rfl, x_i32 _⟩⟩ (x_cs.mono B.2.2.2.2.2 (y_mon B hI)) trivial (Nat.le_refl _) (Nat.le_refl _) rw_d88
            · have q71_ : e69.toInt = ((-1) : Int32).toInt := by rw [q71]
              refine lv_bipush hx hb rw_d74 (v := (-6)) (by decide) ?_
              have ecm6 : ((-6) : Int32).toInt = (-6) := by decide
              exact y_ireturn B hI rfl rfl rfl List.mem_cons_self ⟨_, rfl, ⟨_, rfl, x_i32 _⟩⟩ (x_cs.mono B.2.2.2.2.2 (y_mon B hI)) trivial (Nat.le_refl _) (Nat.le_refl _) rw_d76
          · have q48_ : e47.toInt = (0 : Int32).toInt := by rw [q48]
            refine lv_aload_n hx hb rw_d51 rfl (lv_at hl 0 rfl) ?_
            refine lv_iconst hx hb rw_d52 (v := 1) (by decide) ?_
            have ec1 : (1 : Int32).toInt = 1 := by decide
            refine lv_bipush hx hb rw_d53 (v := (-20)) (by decide) ?_
            have ecm20 : ((-20) : Int32).toInt = (-20) := by decide
            refine y_call (z := (0, 76, 3, some 17, xM142)) (av := [.ref this, .int (1 : Int32), .int ((-20) : Int32)]) (rest := []) (y_cok.of (x_cokV (n := 2) (ci := 12) X xm142 rfl rfl rfl (x_cons (x_at 1159 (by decide +kernel) rfl) (x_cons (x_at 1161 (by decide +kernel) rfl) (x_cons (x_at 33 (by decide +kernel) rfl) (x_cons (x_at 73 (by decide +kernel) rfl) x_nilm)))) (x_at 1162 (by decide +kernel) rfl) (by decide +kernel) ⟨Nat.le_of_ble_eq_true rfl, Nat.le_of_ble_eq_true rfl⟩)) hY0 hI rfl rw_d55 hl.1 (Nat.le_of_ble_eq_true rfl) (Nat.le_of_ble_eq_true rfl) (Nat.le_of_ble_eq_true rfl) (y_cons (y_cref hY_this rfl) (y_cons ⟨_, rfl, by show (0 : Int) ≤ _; omega, by show _ ≤ (2 : Int); omega⟩ (y_cons ⟨_, rfl, x_i32 _⟩ y_nil))) rfl (y_recv rfl hY_this) trivial (y_sub_ef rfl) fun v Yn o Hn L ho hr ha hIn hx_ hE hP => ?_
            replace hs_far := y_Efld hE hY_this rfl (by decide) (by decide) hs_far
            replace hs_laws := y_Efld hE hY_this rfl (by decide) (by decide) hs_laws
            replace hs_book := y_Efld hE hY_this rfl (by decide) (by decide) hs_book
            replace hA_bk := hA_bk.kept (y_Earr hE hY_bk rfl (by decide))
            replace hA_lw := hA_lw.kept (y_Earr hE hY_lw rfl (by decide))
            replace hY_this := y_ext hx_ hI.1 hY_this
            replace hY_fr := y_ext hx_ hI.1 hY_fr
            replace hY_lw := y_ext hx_ hI.1 hY_lw
            replace hY_bk := y_ext hx_ hI.1 hY_bk
            obtain ⟨r55, rfl, h_r55⟩ := y_ansI (lo := (-2147483648)) (hi := 2147483647) (by decide) ho hr
            clear ho hr ha hE hP hI hx_
            rename x_I _ _ _ _ _ _ _ _ _ _ => hI
            exact y_ireturn B hI rfl rfl rfl List.mem_cons_self ⟨_, rfl, ⟨_, rfl, x_i32 _⟩⟩ (x_cs.mono B.2.2.2.2.2 (y_mon B hI)) trivial (Nat.le_refl _) (Nat.le_refl _) rw_d58
      · have q18_ : i.toInt < ((-1) : Int32).toInt := Int.not_le.mp fun q => q18 (x_le32.mpr q)
        refine lv_aload_n hx hb rw_d21 rfl (lv_at hl 0 rfl) ?_
        refine lv_iconst hx hb rw_d22 (v := 0) (by decide) ?_
        refine lv_bipush hx hb rw_d23 (v := (-10)) (by decide) ?_
        have ecm10 : ((-10) : Int32).toInt = (-10) := by decide
        refine y_call (z := (0, 76, 3, some 17, xM142)) (av := [.ref this, .int (0 : Int32), .int ((-10) : Int32)]) (rest := []) (y_cok.of (x_cokV (n := 2) (ci := 12) X xm142 rfl rfl rfl (x_cons (x_at 1159 (by decide +kernel) rfl) (x_cons (x_at 1161 (by decide +kernel) rfl) (x_cons (x_at 33 (by decide +kernel) rfl) (x_cons (x_at 73 (by decide +kernel) rfl) x_nilm)))) (x_at 1162 (by decide +kernel) rfl) (by decide +kernel) ⟨Nat.le_of_ble_eq_true rfl, Nat.le_of_ble_eq_true rfl⟩)) hY0 hI rfl rw_d25 hl.1 (Nat.le_of_ble_eq_true rfl) (Nat.le_of_ble_eq_true rfl) (Nat.le_of_ble_eq_true rfl) (y_cons (y_cref hY_this rfl) (y_cons ⟨_, rfl, by show (0 : Int) ≤ _; omega, by show _ ≤ (2 : Int); omega⟩ (y_cons ⟨_, rfl, x_i32 _⟩ y_nil))) rfl (y_recv rfl hY_this) trivial (y_sub_ef rfl) fun v Yn o Hn L ho hr ha hIn hx_ hE hP => ?_
        replace hs_far := y_Efld hE hY_this rfl (by decide) (by decide) hs_far
        replace hs_laws := y_Efld hE hY_this rfl (by decide) (by decide) hs_laws
        replace hs_book := y_Efld hE hY_this rfl (by decide) (by decide) hs_book
        replace hA_bk := hA_bk.kept (y_Earr hE hY_bk rfl (by decide))
        replace hY_this := y_ext hx_ hI.1 hY_this
        replace hY_fr := y_ext hx_ hI.1 hY_fr
        replace hY_lw := y_ext hx_ hI.1 hY_lw
        replace hY_bk := y_ext hx_ hI.1 hY_bk
        obtain ⟨r25, rfl, h_r25⟩ := y_ansI (lo := (-2147483648)) (hi := 2147483647) (by decide) ho hr
        clear ho hr ha hE hP hI hx_
        rename x_I _ _ _ _ _ _ _ _ _ _ => hI
        exact y_ireturn B hI rfl rfl rfl List.mem_cons_self ⟨_, rfl, ⟨_, rfl, x_i32 _⟩⟩ (x_cs.mono B.2.2.2.2.2 (y_mon B hI)) trivial (Nat.le_refl _) (Nat.le_refl _) rw_d28
end
