/-! A TYPED HEAP: each cell that is ours has a tag; a tag says its class and, field by field (or for all places of an array), what may stand there: ints and longs by bounds, references by null and tags. -/
abbrev xV : Type := (Int × Int) ⊕ ((Int × Int) ⊕ (Bool × List Nat))
abbrev xY : Type := Nat → Option Nat
abbrev xG : Type := (Nat × List xV) ⊕ (FieldType × Nat × List xV × xV)
abbrev xZ : Type := String × String × String × Nat
def x_c (Y : xY) (t : xV) (v : Value) : Prop := match t with
  | .inl q => ∃ x : Int32, v = .int x ∧ q.1 ≤ x.toInt ∧ x.toInt ≤ q.2
  | .inr (.inl q) => ∃ x : Int64, v = .long x ∧ q.1 ≤ x.toInt ∧ x.toInt ≤ q.2
  | .inr (.inr q) => (v = .null ∧ q.1 = true) ∨ ∃ a t : Nat, v = .ref a ∧ t ∈ q.2 ∧ Y a = some t
def x_cell (D : va_G) (U : State) (Y : xY) (g : xG) (a : Nat) (H : Heap) : Prop := match g with
  | .inl o => ∃ V : Nat → Value, t_OB a (D.1 o.1) o.2.length (D.2 o.1) H V ∧ ∀ (k : Nat) (ft : xV), o.2[k]? = some ft → x_c Y ft (V k)
  | .inr q => ∃ cell : Cell, H[a]? = some cell ∧ U.isArrayOf cell q.1 ∧ cell.vm ≠ .unknown ∧ cell.slots.size = q.2.1 ∧ (q.1.isReference = true → va_RA U cell.cls q.1) ∧ ∀ (j : Nat) (v : Value), cell.slots[j]? = some v → x_c Y (q.2.2.1.getD j q.2.2.2) v
def x_Ss : List (Nat × String × Nat) := [(71, "hill", 4), (73, "stone", 5), (75, "wood", 4), (77, "pine", 4), (79, "hedge", 5), (81, "topped", 6), (83, "wall", 4), (85, "year", 4), (87, "mist", 4), (89, "wide", 4)]
def x_sL (k : Nat) : Nat → Int32 := fun j => (if k = 71 then ([104, 105, 108, 108] : List Int32) else if k = 73 then [115, 116, 111, 110, 101] else if k = 75 then [119, 111, 111, 100] else if k = 77 then [112, 105, 110, 101] else if k = 79 then [104, 101, 100, 103, 101] else if k = 81 then [116, 111, 112, 112, 101, 100] else if k = 83 then [119, 97, 108, 108] else if k = 85 then [121, 101, 97, 114] else if k = 87 then [109, 105, 115, 116] else [119, 105, 100, 101]).getD j 0
def x_s1 (z : Nat × String × Nat) (U : State) (Y : xY) (H : Heap) : Prop := ∃ (q b : Nat) (f : Nat → Int32), (vk_R "TwinFires$Text" z.1 z.2.1 q U ∧ ∀ j, f j = x_sL z.1 j) ∧ va_O "java/lang/String" q (fun q => ∃ t, Y q = some t) U H ∧ va_OF "java/lang/String" "coder" "B" (.int 0) q (fun q => ∃ t, Y q = some t) U H ∧ va_OF "java/lang/String" "value" "[B" (.ref b) q (fun q => ∃ t, Y q = some t) U H ∧ va_T .byte b z.2.2 (fun j => .int (f j)) (fun q => ∃ t, Y q = some t) U H ∧ va_Z "java/lang/String" "COMPACT_STRINGS" "Z" (.int 1) (fun q => ∃ t, Y q = some t) U H ∧ ∃ v : Value, (v = .null ∨ ∃ a, v = .ref a) ∧ va_Z "jdk/internal/util/Preconditions" "SIOOBE_FORMATTER" "Ljava/util/function/BiFunction;" v (fun q => ∃ t, Y q = some t) U H
def x_zn (t : Nat) : Nat × Int × Int := if t = 45 then (10, 0, 4) else (4, -2147483648, 2147483647)
def x_zv (t : Nat) : Nat → Int32 := fun j => (if t = 43 then ([0, 0, 0, 1] : List Int32) else if t = 44 then [99, 99, 3, 10] else [3, 3, 4, 4, 4, 4, 3, 1, 1, 1]).getD j 0
/-- a static that holds a table of numbers, which nobody writes -/
def x_z1 (z : xZ) (U : State) (Y : xY) (H : Heap) : Prop := ∃ (b : Nat) (f : Nat → Int32), va_Z z.1 z.2.1 z.2.2.1 (.ref b) (fun q => ∃ t, Y q = some t) U H ∧ va_T .int b (x_zn z.2.2.2).1 (fun j => .int (f j)) (fun q => ∃ t, Y q = some t) U H ∧ ∀ j, j < (x_zn z.2.2.2).1 → ((x_zn z.2.2.2).2.1 ≤ (f j).toInt ∧ (f j).toInt ≤ (x_zn z.2.2.2).2.2) ∧ f j = x_zv z.2.2.2 j
def x_st (Zs : List xZ) (U : State) (Y : xY) (H : Heap) : Prop := (∀ z ∈ Zs, x_z1 z U Y H) ∧ ∀ z ∈ x_Ss, x_s1 z U Y H
theorem x_s1.kept {z : Nat × String × Nat} {U : State} {Y : xY} {H H' : Heap} (h : x_s1 z U Y H) (hq : ∀ q, q < H.size → (¬ ∃ t, Y q = some t) → H'[q]? = H[q]?) : x_s1 z U Y H' := by
  obtain ⟨q, b, f, h1, h2, h3, h4, h5, h6, v, hvr, h7⟩ := h
  exact ⟨q, b, f, h1, h2.kept hq, h3.kept hq, h4.kept hq, h5.kept hq, h6.kept hq, v, hvr, h7.kept hq⟩
theorem x_Zgrow {C n d : String} {v : Value} {U : State} {Y Y' : xY} {H : Heap} (h : va_Z C n d v (fun q => ∃ t, Y q = some t) U H) (hY : ∀ q, q < H.size → (∃ t, Y' q = some t) → ∃ t, Y q = some t) : va_Z C n d v (fun q => ∃ t, Y' q = some t) U H := by
  obtain ⟨cf, kf, fi, f, x, cell, q1, q2, q3, q4, q5, q6, q7, q8⟩ := h
  exact ⟨cf, kf, fi, f, x, cell, q1, q2, q3, q4, q5, q6, q7, fun k => q8 (hY _ (Array.getElem?_eq_some_iff.mp q5).1 k)⟩
theorem x_z1.kept {z : xZ} {U : State} {Y : xY} {H H' : Heap} (h : x_z1 z U Y H) (hq : ∀ q, q < H.size → (¬ ∃ t, Y q = some t) → H'[q]? = H[q]?) : x_z1 z U Y H' := by
  obtain ⟨b, f, h1, h2, h3⟩ := h
  exact ⟨b, f, h1.kept hq, h2.kept hq, h3⟩
theorem x_z1.grow {z : xZ} {U : State} {Y Y' : xY} {H : Heap} (h : x_z1 z U Y H) (hY : ∀ q, q < H.size → (∃ t, Y' q = some t) → ∃ t, Y q = some t) : x_z1 z U Y' H := by
  obtain ⟨b, f, h1, ⟨g1, h5, h5'⟩, h3⟩ := h
  have n2 : ¬ ∃ t, Y' b = some t := fun k => h5'.2.2.2.2.2 (hY _ (Array.getElem?_eq_some_iff.mp h5).1 k)
  exact ⟨b, f, x_Zgrow h1 hY, ⟨g1, h5, h5'.1, h5'.2.1, h5'.2.2.1, h5'.2.2.2.1, h5'.2.2.2.2.1, n2⟩, h3⟩
theorem x_s1.grow {z : Nat × String × Nat} {U : State} {Y Y' : xY} {H : Heap} (h : x_s1 z U Y H) (hY : ∀ q, q < H.size → (∃ t, Y' q = some t) → ∃ t, Y q = some t) : x_s1 z U Y' H := by
  obtain ⟨q, b, f, h1, ⟨c1, h2, h2'⟩, ⟨d1, d2, d3, d4, d5, h3, h3', h3''⟩, ⟨e1, e2, e3, e4, e5, h4, h4', h4''⟩, ⟨g1, h5, h5'⟩, h6, v, hvr, h7⟩ := h
  have n1 : ¬ ∃ t, Y' q = some t := fun k => h2'.2.2 (hY _ (Array.getElem?_eq_some_iff.mp h2).1 k)
  have n2 : ¬ ∃ t, Y' b = some t := fun k => h5'.2.2.2.2.2 (hY _ (Array.getElem?_eq_some_iff.mp h5).1 k)
  exact ⟨q, b, f, h1, ⟨c1, h2, h2'.1, h2'.2.1, n1⟩, ⟨d1, d2, d3, d4, d5, h3, h3', h3''.1, h3''.2.1, h3''.2.2.1, n1⟩, ⟨e1, e2, e3, e4, e5, h4, h4', h4''.1, h4''.2.1, h4''.2.2.1, n1⟩, ⟨g1, h5, h5'.1, h5'.2.1, h5'.2.2.1, h5'.2.2.2.1, h5'.2.2.2.2.1, n2⟩, x_Zgrow h6 hY, v, hvr, x_Zgrow h7 hY⟩
def x_H (D : va_G) (G : List xG) (Zs : List xZ) (U : State) (Y : xY) (H : Heap) : Prop :=
  (∀ a t : Nat, Y a = some t → ∃ g, G[t]? = some g ∧ x_cell D U Y g a H) ∧ x_st Zs U Y H
def x_up (Y : xY) (h t : Nat) : xY := fun q => if q = h then some t else Y q
theorem x_up_self (Y : xY) (h t : Nat) : x_up Y h t h = some t := by simp [x_up]
theorem x_up_ne {Y : xY} {h t q : Nat} (n : q ≠ h) : x_up Y h t q = Y q := by simp [x_up, n]
theorem x_c.mono {Y Y' : xY} {t : xV} {v : Value} (h : x_c Y t v) (hY : ∀ a t, Y a = some t → Y' a = some t) : x_c Y' t v := by
  rcases t with q | q | q
  · exact h
  · exact h
  · rcases h with h | ⟨a, t, h1, h2, h3⟩
    · exact Or.inl h
    · exact Or.inr ⟨a, t, h1, h2, hY a t h3⟩
theorem x_cell.mono {D : va_G} {U : State} {Y Y' : xY} {g : xG} {a : Nat} {H : Heap} (h : x_cell D U Y g a H) (hY : ∀ a t, Y a = some t → Y' a = some t) : x_cell D U Y' g a H := by
  rcases g with o | q
  · obtain ⟨V, h1, h2⟩ := h
    exact ⟨V, h1, fun k ft hk => (h2 k ft hk).mono hY⟩
  · obtain ⟨cell, h1, h2, h3, h4, h5, h6⟩ := h
    exact ⟨cell, h1, h2, h3, h4, h5, fun j v hj => (h6 j v hj).mono hY⟩
theorem x_cell.kept {D : va_G} {U : State} {Y : xY} {g : xG} {a : Nat} {H H1 : Heap} (h : x_cell D U Y g a H) (hq : H1[a]? = H[a]?) : x_cell D U Y g a H1 := by
  rcases g with o | q
  · obtain ⟨V, h1, h2⟩ := h
    exact ⟨V, h1.kept hq, h2⟩
  · obtain ⟨cell, h1, h2⟩ := h
    exact ⟨cell, by rw [hq]; exact h1, h2⟩
theorem x_cell.lt {D : va_G} {U : State} {Y : xY} {g : xG} {a : Nat} {H : Heap} (h : x_cell D U Y g a H) : a < H.size := by
  rcases g with o | q
  · obtain ⟨V, ⟨cell, h1, -⟩, -⟩ := h
    exact (Array.getElem?_eq_some_iff.mp h1).1
  · obtain ⟨cell, h1, -⟩ := h
    exact (Array.getElem?_eq_some_iff.mp h1).1
theorem x_H.lt {D : va_G} {G : List xG} {Zs : List xZ} {U : State} {Y : xY} {H : Heap} (h : x_H D G Zs U Y H) {a t : Nat} (ha : Y a = some t) : a < H.size := by
  obtain ⟨g, -, hc⟩ := h.1 a t ha
  exact hc.lt
theorem x_H.fresh {D : va_G} {G : List xG} {Zs : List xZ} {U : State} {Y : xY} {H : Heap} (h : x_H D G Zs U Y H) {a : Nat} (ha : H.size ≤ a) : Y a = none := by
  cases hy : Y a with
  | none => rfl
  | some t => exact absurd (h.lt hy) (Nat.not_lt.mpr ha)
theorem x_st.put {Zs : List xZ} {U : State} {Y : xY} {H H' : Heap} (h : x_st Zs U Y H) (hq : ∀ q, q < H.size → (¬ ∃ t, Y q = some t) → H'[q]? = H[q]?) : x_st Zs U Y H' := by
  exact ⟨fun z hz => (h.1 z hz).kept hq, fun z hz => (h.2 z hz).kept hq⟩
/-- a cell of ours is written: it holds its tag's word still, all others are as they were -/
theorem x_H.put {D : va_G} {G : List xG} {Zs : List xZ} {U : State} {Y : xY} {H H' : Heap} (h : x_H D G Zs U Y H) {a t : Nat} (ha : Y a = some t) (hq : ∀ q, q ≠ a → H'[q]? = H[q]?) {g : xG} (hg : G[t]? = some g) (hc : x_cell D U Y g a H') : x_H D G Zs U Y H' := by
  refine ⟨fun b u hb => ?_, h.2.put fun q _ hn => hq q (fun e => hn ⟨t, by rw [e]; exact ha⟩)⟩
  by_cases e : b = a
  · subst e
    cases ha.symm.trans hb
    exact ⟨g, hg, hc⟩
  · obtain ⟨g', h1, h2⟩ := h.1 b u hb
    exact ⟨g', h1, h2.kept (hq b e)⟩
/-- a new cell gets a tag -/
theorem x_H.new {D : va_G} {G : List xG} {Zs : List xZ} {U : State} {Y : xY} {H H' : Heap} (h : x_H D G Zs U Y H) {a t : Nat} (ha : H.size = a) (hq : ∀ q, q < a → H'[q]? = H[q]?) {g : xG} (hg : G[t]? = some g) (hc : x_cell D U (x_up Y a t) g a H') : x_H D G Zs U (x_up Y a t) H' := by
  subst ha
  have hm : ∀ b u, Y b = some u → x_up Y H.size t b = some u := fun b u hb => by
    rw [x_up_ne (Nat.ne_of_lt (h.lt hb))]; exact hb
  refine ⟨fun b u hb => ?_, fun z hz => ?_, fun z hz => ?_⟩
  · by_cases e : b = H.size
    · subst e
      rw [x_up_self] at hb
      cases hb
      exact ⟨g, hg, hc⟩
    · rw [x_up_ne e] at hb
      obtain ⟨g', h1, h2⟩ := h.1 b u hb
      exact ⟨g', h1, (h2.kept (hq b (h.lt hb))).mono hm⟩
  · exact ((h.2.1 z hz).grow (fun q hq' ⟨u, hu⟩ => ⟨u, by rw [x_up_ne (Nat.ne_of_lt hq')] at hu; exact hu⟩)).kept fun q hq' _ => hq q hq'
  · exact ((h.2.2 z hz).grow (fun q hq' ⟨u, hu⟩ => ⟨u, by rw [x_up_ne (Nat.ne_of_lt hq')] at hu; exact hu⟩)).kept fun q hq' _ => hq q hq'
/-- what a method may have changed of the cells that were ours at its start: the fields (tag, number) and arrays (tag, 0) of a list -/
def x_sl (D : va_G) (ci k a : Nat) (H : Heap) : Option Value := (H[a]?).bind fun cell => cell.slots[D.2 ci k]?
def x_el (a j : Nat) (H : Heap) : Option Value := (H[a]?).bind fun cell => cell.slots[j]?
def x_E (D : va_G) (G : List xG) (ef : List (Nat × Nat)) (Y : xY) (H0 H : Heap) : Prop := ∀ (a t : Nat) (g : xG), Y a = some t → G[t]? = some g → match g with
  | .inl o => ∀ k, k < o.2.length → (t, k) ∉ ef → x_sl D o.1 k a H = x_sl D o.1 k a H0
  | .inr _ => ((t, 0) ∉ ef → H[a]? = H0[a]?) ∧ ∀ j, (t, j + 1000) ∈ ef → x_el a j H = x_el a j H0
/-- effects of a callee beside those of its caller: no more changed, and every place kept that the caller keeps -/
def x_Sb (e2 e1 : List (Nat × Nat)) : Prop := (∀ x ∈ e2, x ∈ e1) ∧ ∀ (t j : Nat), (t, j + 1000) ∈ e1 → (t, 0) ∈ e2 → (t, j + 1000) ∈ e2
def x_ein (e : List (Nat × Nat)) (t k : Nat) : Bool := e.any (fun u => Nat.beq u.1 t && Nat.beq u.2 k)
def x_sb (e2 e1 : List (Nat × Nat)) : Bool := e2.all (fun q => x_ein e1 q.1 q.2) && e1.all (fun z => Nat.blt z.2 1000 || (!(x_ein e2 z.1 0) || x_ein e2 z.1 z.2))
theorem x_ein_ok {e : List (Nat × Nat)} {t k : Nat} : x_ein e t k = true ↔ (t, k) ∈ e := by
  unfold x_ein
  rw [List.any_eq_true]
  constructor
  · rintro ⟨u, h1, h2⟩
    rw [Bool.and_eq_true] at h2
    rw [← Nat.eq_of_beq_eq_true h2.1, ← Nat.eq_of_beq_eq_true h2.2]; exact h1
  · intro h
    exact ⟨_, h, by rw [Bool.and_eq_true]; exact ⟨Nat.beq_refl _, Nat.beq_refl _⟩⟩
theorem x_anyp {e : List (Nat × Nat)} {t k : Nat} (h : e.any (fun u => u.1 == t && u.2 == k) = true) : (t, k) ∈ e := by
  obtain ⟨u, h1, h2⟩ := List.any_eq_true.mp h
  simp only [Bool.and_eq_true, beq_iff_eq] at h2
  rw [← h2.1, ← h2.2]; exact h1
theorem x_sb_ok {e2 e1 : List (Nat × Nat)} (h : x_sb e2 e1 = true) : x_Sb e2 e1 := by
  unfold x_sb at h
  rw [Bool.and_eq_true] at h
  refine ⟨fun x hx => x_ein_ok.mp (List.all_eq_true.mp h.1 x hx), fun t j h1 h2 => ?_⟩
  have h3 := List.all_eq_true.mp h.2 _ h1
  rw [Bool.or_eq_true, Bool.or_eq_true] at h3
  rcases h3 with h3 | h3 | h3
  · have h4 : j + 1000 < 1000 := by simpa [Nat.blt_eq] using h3
    omega
  · rw [x_ein_ok.mpr h2] at h3
    cases h3
  · exact x_ein_ok.mp h3
/-- a store at places u leaves the kept places of tag t alone -/
def x_xf (ef : List (Nat × Nat)) (t : Nat) (u : Int × Int) : Bool := ef.all (fun z => Nat.blt z.2 1000 || (!(Nat.beq z.1 t) || (decide ((z.2 : Int) < u.1 + 1000) || decide (u.2 + 1000 < (z.2 : Int)))))
def x_xn (ef : List (Nat × Nat)) (t : Nat) : Bool := ef.all (fun z => Nat.blt z.2 1000 || !(Nat.beq z.1 t))
theorem x_xf_ok {ef : List (Nat × Nat)} {t j k : Nat} {u : Int × Int} (h : x_xf ef t u = true) (hk : u.1 ≤ (k : Int) ∧ (k : Int) ≤ u.2) (hj : (t, j + 1000) ∈ ef) : j ≠ k := by
  have h1 := List.all_eq_true.mp h _ hj
  rw [Bool.or_eq_true, Bool.or_eq_true, Bool.or_eq_true, decide_eq_true_eq, decide_eq_true_eq] at h1
  rcases h1 with h1 | h1 | h1 | h1
  · have h4 : j + 1000 < 1000 := by simpa [Nat.blt_eq] using h1
    omega
  · rw [Nat.beq_refl] at h1
    cases h1
  · have h1 : ((j + 1000 : Nat) : Int) < u.1 + 1000 := h1
    omega
  · have h1 : u.2 + 1000 < ((j + 1000 : Nat) : Int) := h1
    omega
theorem x_xn_ok {ef : List (Nat × Nat)} {t j : Nat} (h : x_xn ef t = true) (hj : (t, j + 1000) ∈ ef) : False := by
  have h1 := List.all_eq_true.mp h _ hj
  rw [Bool.or_eq_true] at h1
  rcases h1 with h1 | h1
  · have h4 : j + 1000 < 1000 := by simpa [Nat.blt_eq] using h1
    omega
  · rw [Nat.beq_refl] at h1
    cases h1
theorem x_E.rf {D : va_G} {G : List xG} {ef : List (Nat × Nat)} {Y : xY} {H : Heap} : x_E D G ef Y H H := by
  intro a t g _ _
  rcases g with o | q
  · exact fun _ _ _ => rfl
  · exact ⟨fun _ => rfl, fun _ _ => rfl⟩
theorem x_E.trans {D : va_G} {G : List xG} {e1 e2 : List (Nat × Nat)} {Y Y1 : xY} {H0 H1 H2 : Heap} (h : x_E D G e1 Y H0 H1) (h2 : x_E D G e2 Y1 H1 H2) (hY : ∀ a t, Y a = some t → Y1 a = some t) (he : x_Sb e2 e1) : x_E D G e1 Y H0 H2 := by
  intro a t g ha hg
  have q1 := h a t g ha hg
  have q2 := h2 a t g (hY a t ha) hg
  rcases g with o | q
  · intro k hk hn
    exact (q2 k hk (fun z => hn (he.1 _ z))).trans (q1 k hk hn)
  · refine ⟨fun hn => (q2.1 (fun z => hn (he.1 _ z))).trans (q1.1 hn), fun j hj => ?_⟩
    by_cases h0 : (t, 0) ∈ e2
    · exact (q2.2 j (he.2 t j hj h0)).trans (q1.2 j hj)
    · have e9 := q2.1 h0
      refine Eq.trans ?_ (q1.2 j hj)
      unfold x_el
      rw [e9]
theorem x_E.kept {D : va_G} {G : List xG} {ef : List (Nat × Nat)} {Y : xY} {H0 H1 H2 : Heap} (h : x_E D G ef Y H0 H1) (hq : ∀ a t, Y a = some t → H2[a]? = H1[a]?) : x_E D G ef Y H0 H2 := by
  intro a t g ha hg
  have q1 := h a t g ha hg
  have e := hq a t ha
  rcases g with o | q
  · intro k hk hn
    have := q1 k hk hn
    simpa [x_sl, e] using this
  · refine ⟨fun hn => by rw [e]; exact q1.1 hn, fun j hj => ?_⟩
    have e9 := q1.2 j hj
    unfold x_el at e9 ⊢
    rw [e]; exact e9
/-- bounds and tags that say less -/
def x_le : xV → xV → Bool
  | .inl p, .inl q => decide (q.1 ≤ p.1) && decide (p.2 ≤ q.2)
  | .inr (.inl p), .inr (.inl q) => decide (q.1 ≤ p.1) && decide (p.2 ≤ q.2)
  | .inr (.inr p), .inr (.inr q) => (!p.1 || q.1) && p.2.all (fun t => q.2.any (fun u => t == u))
  | _, _ => false
theorem x_le_ok {Y : xY} {t u : xV} {v : Value} (h : x_le t u = true) (hc : x_c Y t v) : x_c Y u v := by
  rcases t with p | p | p <;> rcases u with q | q | q <;> first | (simp [x_le] at h; done) | skip
  · simp only [x_le, Bool.and_eq_true, decide_eq_true_eq] at h
    obtain ⟨x, h1, h2, h3⟩ := hc
    exact ⟨x, h1, by omega, by omega⟩
  · simp only [x_le, Bool.and_eq_true, decide_eq_true_eq] at h
    obtain ⟨x, h1, h2, h3⟩ := hc
    exact ⟨x, h1, by omega, by omega⟩
  · simp only [x_le, Bool.and_eq_true, Bool.or_eq_true, Bool.not_eq_true', List.all_eq_true, List.any_eq_true, beq_iff_eq] at h
    rcases hc with ⟨h1, h2⟩ | ⟨a, t, h1, h2, h3⟩
    · rcases h.1 with h4 | h4
      · rw [h2] at h4; cases h4
      · exact Or.inl ⟨h1, h4⟩
    · obtain ⟨u, h5, rfl⟩ := h.2 t h2
      exact Or.inr ⟨a, t, h1, h5, h3⟩

