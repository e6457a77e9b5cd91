/-! BITS OF A NUMBER, what goes along with a land -/
def m_bi (v : Int32) (j : Nat) : Bool := v.toBitVec.getLsbD j
def m_sh (j : Int32) : Int32 := 1 <<< (j &&& 31)
def m_gg (c : Nat → Bool) (v0 : Int32) : Nat → Int32
  | 0 => v0
  | k + 1 => if c k then m_gg c v0 k ||| m_sh (nI k) else m_gg c v0 k
theorem m_gg_s {c : Nat → Bool} {v0 : Int32} {k : Nat} : m_gg c v0 (k + 1) = if c k then m_gg c v0 k ||| m_sh (nI k) else m_gg c v0 k := rfl
theorem m_gg_T {c : Nat → Bool} {v0 : Int32} {k : Nat} (h : c k = true) : m_gg c v0 (k + 1) = m_gg c v0 k ||| m_sh (nI k) := by rw [m_gg_s, h]; rfl
theorem m_gg_F {c : Nat → Bool} {v0 : Int32} {k : Nat} (h : c k = false) : m_gg c v0 (k + 1) = m_gg c v0 k := by rw [m_gg_s, h]; rfl
theorem m_nj {j : Int32} (h : 0 ≤ j.toInt) : nI j.toInt.toNat = j := Int32.toInt_inj.mp (by have := (x_i32 j); rw [nI_toInt (by omega)]; omega)
theorem m_bi_or {u v : Int32} {j : Nat} : m_bi (u ||| v) j = (m_bi u j || m_bi v j) := by
  unfold m_bi; rw [Int32.toBitVec_or, BitVec.getLsbD_or]
theorem m_bi_and {u v : Int32} {j : Nat} : m_bi (u &&& v) j = (m_bi u j && m_bi v j) := by
  unfold m_bi; rw [Int32.toBitVec_and, BitVec.getLsbD_and]
theorem m_bi_xor {u v : Int32} {j : Nat} : m_bi (u ^^^ v) j = (m_bi u j ^^ m_bi v j) := by
  unfold m_bi; rw [Int32.toBitVec_xor, BitVec.getLsbD_xor]
theorem m_bi_ge {u : Int32} {j : Nat} (h : 32 ≤ j) : m_bi u j = false := BitVec.getLsbD_of_ge _ _ h
theorem m_bi_0 {j : Nat} : m_bi 0 j = false := by
  unfold m_bi
  rw [show (0 : Int32).toBitVec = 0#32 from rfl]; exact BitVec.getLsbD_zero
theorem m_bi_ext {u v : Int32} (h : ∀ j, j < 32 → m_bi u j = m_bi v j) : u = v := Int32.toBitVec_inj.mp (BitVec.eq_of_getLsbD_eq fun i hi => h i hi)
theorem m_bi_shB : ∀ b, b < 31 → ∀ j, j < 32 → m_bi (m_sh (nI b)) j = decide (j = b) := by decide +kernel
theorem m_bi_sh {b j : Nat} (hb : b < 31) : m_bi (m_sh (nI b)) j = decide (j = b) := by
  by_cases hj : j < 32
  · exact m_bi_shB b hb j hj
  · rw [m_bi_ge (by omega)]; exact (decide_eq_false (by omega)).symm
theorem m_gg_bi {c : Nat → Bool} {v0 : Int32} {j : Nat} : ∀ k, k ≤ 31 → m_bi (m_gg c v0 k) j = (m_bi v0 j || (decide (j < k) && c j)) := by
  intro k
  induction k with
  | zero => intro _; show m_bi v0 j = _; rw [decide_eq_false (by omega), Bool.false_and, Bool.or_false]
  | succ k ih =>
    intro hk
    have ih := ih (by omega)
    cases hc : c k with
    | false =>
      rw [m_gg_F hc, ih]
      by_cases e : j = k
      · subst e; rw [hc, Bool.and_false, Bool.and_false]
      · rw [show decide (j < k + 1) = decide (j < k) from decide_eq_decide.mpr (by omega)]
    | true =>
      rw [m_gg_T hc, m_bi_or, ih, m_bi_sh (by omega)]
      by_cases e : j = k
      · subst e; rw [hc, decide_eq_true rfl, decide_eq_true (show j < j + 1 by omega), decide_eq_false (show ¬ j < j by omega)]; simp
      · rw [show decide (j < k + 1) = decide (j < k) from decide_eq_decide.mpr (by omega), decide_eq_false e, Bool.or_false]
theorem y_up_id {f : Nat → Int32} {i : Nat} : y_up f i (f i) = f := by
  funext j
  unfold y_up
  by_cases e : j = i
  · rw [if_pos e, e]
  · rw [if_neg e]
section ZWR
variable {D : va_G} {Y Y' : xY} {H H' : Heap} {q b u s p : Nat} {f : Nat → Int32} {ef : List (Nat × Nat)}
def z_wt (u : Nat) : Bool := !(Nat.beq u 2) && !(Nat.ble 11 u && Nat.ble u 31)
theorem z_wt_ok (h : z_wt u = true) : ¬ (u = 2 ∨ (11 ≤ u ∧ u ≤ 31)) := by
  rintro (rfl | ⟨h1, h2⟩)
  · exact absurd h (by decide)
  · unfold z_wt at h
    rw [Nat.ble_eq_true_of_le h1, Nat.ble_eq_true_of_le h2] at h
    simp at h
theorem z_L.wr (h : z_L D Y q H f) (hq : Y q = some 2) (hb : Y b = some u) (hu : z_wt u = true) (ho : ∀ a, a ≠ b → H'[a]? = H[a]?) : z_L D Y q H' f :=
  h.moved hq (fun _ _ _ _ h => h) fun a w g ha hw hg => x_eq.of (ho a (z_Yne ha hb (fun e => z_wt_ok hu (by rw [← e]; exact hw))))
theorem z_st.wr (h : z_st D Y s H f p) (hb : Y b = some u) (hu : z_wt u = true) (ho : ∀ a, a ≠ b → H'[a]? = H[a]?) : z_st D Y s H' f p :=
  h.moved (fun _ _ _ _ h => h) fun a w g ha hw hg => x_eq.of (ho a (z_Yne ha hb (fun e => z_wt_ok hu (by rw [← e]; exact hw))))
theorem z_st.E (h : z_st D Y s H f p) (hE : x_E D x_G ef Y H H') (hm : ∀ b u, Y b = some u → Y' b = some u) (hn : z_nld ef = true) : z_st D Y' s H' f p :=
  h.moved (fun b u _ _ hb => hm b u hb) fun b u g hb hu hg => x_eq.Enld hE hb hg hu hn
end ZWR
theorem x_Sb_nil {ef : List (Nat × Nat)} : x_Sb [] ef := ⟨fun _ h => absurd h List.not_mem_nil, fun _ _ _ h => absurd h List.not_mem_nil⟩
/-! what hides, what is seen: as the class reckons -/
def m_has (s h : Int32) : Bool := decide (¬ (s >>> (h &&& 31)) &&& 1 = 0)
def m_ush (x k : Int32) : Int32 := (x.toUInt32 >>> (k.toUInt32 &&& Int32.toUInt32 31)).toInt32
def m_bc1 (x : Int32) : Int32 := x - (m_ush x 1 &&& 1431655765)
def m_bc2 (x : Int32) : Int32 := (x &&& 858993459) + (m_ush x 2 &&& 858993459)
def m_bc3 (x : Int32) : Int32 := (x + m_ush x 4) &&& 252645135
def m_bc4 (x : Int32) : Int32 := x + m_ush x 8
def m_bc5 (x : Int32) : Int32 := x + m_ush x 16
def m_bc (x : Int32) : Int32 := m_bc5 (m_bc4 (m_bc3 (m_bc2 (m_bc1 x)))) &&& 63
def m_wr (V : Nat → Int32) (w : Int32) (i : Nat) : Bool := m_has w (nI i) && !(decide (m_bc (V i &&& w) = 1))
def m_fw (V : Nat → Int32) (w r : Int32) : Prop := (∃ k : Nat, k < 10 ∧ r.toInt = (k : Int) ∧ m_wr V w k = true ∧ ∀ i, i < k → m_wr V w i = false) ∨ (r = -1 ∧ ∀ i, i < 10 → m_wr V w i = false)
theorem m_fw.congr {V V' : Nat → Int32} {w r : Int32} (h : m_fw V w r) (e : ∀ i, i < 10 → V i = V' i) : m_fw V' w r := by
  have e2 : ∀ i, i < 10 → m_wr V w i = m_wr V' w i := fun i hi => by unfold m_wr; rw [e i hi]
  rcases h with ⟨k, h1, h2, h3, h4⟩ | ⟨h1, h2⟩
  · exact Or.inl ⟨k, h1, h2, by rw [← e2 k h1]; exact h3, fun i hi => by rw [← e2 i (by omega)]; exact h4 i hi⟩
  · exact Or.inr ⟨h1, fun i hi => by rw [← e2 i hi]; exact h2 i hi⟩
def m_any (c : Nat → Bool) : Nat → Bool
  | 0 => false
  | k + 1 => m_any c k || c k
theorem m_any_F {c : Nat → Bool} : ∀ n, (∀ i, i < n → c i = false) → m_any c n = false := by
  intro n
  induction n with
  | zero => intro _; rfl
  | succ n ih =>
    intro h
    show (m_any c n || c n) = false
    rw [ih fun i hi => h i (by omega), h n (by omega)]; rfl
theorem m_any_T {c : Nat → Bool} {i : Nat} (hc : c i = true) : ∀ n, i < n → m_any c n = true := by
  intro n
  induction n with
  | zero => intro h; omega
  | succ n ih =>
    intro h
    show (m_any c n || c n) = true
    by_cases e : i = n
    · rw [← e, hc, Bool.or_true]
    · rw [ih (by omega), Bool.true_or]
/-- hill c hides b from a -/
def m_hc (l f : Nat → Int32) (a b : Int) (c : Nat) : Bool := !(decide ((c : Int) = a)) && (!(decide ((c : Int) = b)) && (m_mt l (f (10 + 5 * c)) (f (11 + 5 * c)) && m_hd l (f (10 + 5 * c)) (f (11 + 5 * c)) (f (12 + 5 * c))))
def m_hb (l f : Nat → Int32) (a b : Int) : Bool := m_any (m_hc l f a b) (f 0).toInt.toNat
def m_gc (l f : Nat → Int32) (y : Int32) (k : Nat) : Bool := m_mt l (f (61 + 7 * k)) (f (62 + 7 * k)) && m_hd l (f (61 + 7 * k)) (f (62 + 7 * k)) (m_stn f (60 + 7 * k) y (if f (65 + 7 * k) = 1 then 1 else 0))
def m_gd (l f : Nat → Int32) (y : Int32) (k : Nat) : Bool := m_mt l (f (61 + 7 * k)) (f (62 + 7 * k)) && m_hd l (f (61 + 7 * k)) (f (62 + 7 * k)) (m_stn f (60 + 7 * k) y 1)
def m_gN (f : Nat → Int32) (y : Int32) (a b : Nat) : Int32 := m_gg (m_gc (m_ln f a b) f y) (if m_hb (m_ln f a b) f a b = true then 256 else 0) (f 1).toInt.toNat
def m_gD (f : Nat → Int32) (y : Int32) (a b : Nat) : Int32 := m_gg (m_gd (m_ln f a b) f y) 0 (f 1).toInt.toNat
def m_gok (fn fd f : Nat → Int32) (y : Int32) (a b : Nat) : Prop := fn (10 * a + b) = m_gN f y a b ∧ fd (10 * a + b) = m_gD f y a b
def m_vk (fn fd f : Nat → Int32) (mi wk : Int32) (a b : Nat) : Bool := decide ((fn (10 * a + b) &&& (wk ^^^ -1)) ||| (fd (10 * a + b) &&& wk) = 0) && (decide (mi.toInt ≤ (f (12 + 5 * a)).toInt) && decide (mi.toInt ≤ (f (12 + 5 * b)).toInt))
/-- the pairs that have been looked at, those ahead of a, b -/
def m_pq (n a b i j : Nat) : Bool := decide (i < j ∧ j < n ∧ (i < a ∨ i = a ∧ j < b))
def m_pr (ok : Nat → Nat → Bool) (n a b i j : Nat) : Bool := (m_pq n a b i j && ok i j) || (m_pq n a b j i && ok j i)
def m_sp (ok : Nat → Nat → Bool) (n i j : Nat) : Bool := (decide (i < j ∧ j < n) && ok i j) || (decide (j < i ∧ i < n) && ok j i)
def m_vw (ok : Nat → Nat → Bool) (n i : Nat) : Int32 := m_gg (m_sp ok n i) 0 10
theorem m_pq_up {n a b i j : Nat} (hab : a < b) (hbn : b < n) : m_pq n a (b + 1) i j = (m_pq n a b i j || decide (i = a ∧ j = b)) := by
  unfold m_pq
  rw [← Bool.decide_or]
  exact decide_eq_decide.mpr (by omega)
theorem m_pr_up {ok : Nat → Nat → Bool} {n a b i j : Nat} (hab : a < b) (hbn : b < n) (hok : ok a b = true) : m_pr ok n a (b + 1) i j = (m_pr ok n a b i j || (decide (i = a ∧ j = b) || decide (j = a ∧ i = b))) := by
  unfold m_pr
  rw [m_pq_up hab hbn, m_pq_up hab hbn]
  by_cases h1 : i = a ∧ j = b
  · obtain ⟨rfl, rfl⟩ := h1
    rw [hok]; simp
  · by_cases h2 : j = a ∧ i = b
    · obtain ⟨rfl, rfl⟩ := h2
      rw [hok]; simp
    · rw [decide_eq_false h1, decide_eq_false h2]; simp
theorem m_pr_no {ok : Nat → Nat → Bool} {n a b i j : Nat} (hab : a < b) (hbn : b < n) (hok : ok a b = false) : m_pr ok n a (b + 1) i j = m_pr ok n a b i j := by
  unfold m_pr
  rw [m_pq_up hab hbn, m_pq_up hab hbn]
  by_cases h1 : i = a ∧ j = b
  · obtain ⟨rfl, rfl⟩ := h1
    rw [hok, decide_eq_false (show ¬ (j = i ∧ i = j) by omega)]; simp
  · by_cases h2 : j = a ∧ i = b
    · obtain ⟨rfl, rfl⟩ := h2
      rw [hok, decide_eq_false (show ¬ (i = j ∧ j = i) by omega)]; simp
    · rw [decide_eq_false h1, decide_eq_false h2]; simp
theorem m_pr_a {ok : Nat → Nat → Bool} {n a i j : Nat} : m_pr ok n a (a + 1) i j = m_pr ok n a 0 i j := by
  unfold m_pr m_pq
  rw [show decide (i < j ∧ j < n ∧ (i < a ∨ i = a ∧ j < a + 1)) = decide (i < j ∧ j < n ∧ (i < a ∨ i = a ∧ j < 0)) from decide_eq_decide.mpr (by omega), show decide (j < i ∧ i < n ∧ (j < a ∨ j = a ∧ i < a + 1)) = decide (j < i ∧ i < n ∧ (j < a ∨ j = a ∧ i < 0)) from decide_eq_decide.mpr (by omega)]
theorem m_pr_n {ok : Nat → Nat → Bool} {n a b i j : Nat} (hb : n ≤ b) : m_pr ok n a b i j = m_pr ok n (a + 1) 0 i j := by
  unfold m_pr m_pq
  rw [show decide (i < j ∧ j < n ∧ (i < a ∨ i = a ∧ j < b)) = decide (i < j ∧ j < n ∧ (i < a + 1 ∨ i = a + 1 ∧ j < 0)) from decide_eq_decide.mpr (by omega), show decide (j < i ∧ i < n ∧ (j < a ∨ j = a ∧ i < b)) = decide (j < i ∧ i < n ∧ (j < a + 1 ∨ j = a + 1 ∧ i < 0)) from decide_eq_decide.mpr (by omega)]
theorem m_pr_0 {ok : Nat → Nat → Bool} {n i j : Nat} : m_pr ok n 0 0 i j = false := by
  unfold m_pr m_pq
  rw [decide_eq_false (by omega), decide_eq_false (by omega)]; rfl
theorem m_pr_e {ok : Nat → Nat → Bool} {n a b i j : Nat} (ha : n ≤ a + 1) (h : n ≤ a ∨ n ≤ b) : m_pr ok n a b i j = m_sp ok n i j := by
  unfold m_pr m_pq m_sp
  rw [show decide (i < j ∧ j < n ∧ (i < a ∨ i = a ∧ j < b)) = decide (i < j ∧ j < n) from decide_eq_decide.mpr (by omega), show decide (j < i ∧ i < n ∧ (j < a ∨ j = a ∧ i < b)) = decide (j < i ∧ i < n) from decide_eq_decide.mpr (by omega)]
theorem m_sp_n {ok : Nat → Nat → Bool} {n i j : Nat} (h : n ≤ j) : m_sp ok n i j = false := by
  unfold m_sp
  rw [decide_eq_false (by omega), decide_eq_false (by omega)]; rfl
/-- both ends of a pair are told of each other -/
theorem m_see2 {ok : Nat → Nat → Bool} {n a b : Nat} {V : Nat → Int32} (hab : a < b) (hbn : b < n) (hn : n ≤ 10) (hok : ok a b = true) (hV : ∀ i, i < 10 → ∀ j, m_bi (V i) j = m_pr ok n a b i j) : ∀ i, i < 10 → ∀ j, m_bi (y_up (y_up V a (V a ||| m_sh (nI b))) b (V b ||| m_sh (nI a)) i) j = m_pr ok n a (b + 1) i j := by
  intro i hi j
  rw [m_pr_up hab hbn hok]
  by_cases e1 : i = b
  · subst e1
    rw [y_up_at, m_bi_or, m_bi_sh (by omega), hV i hi]
    rw [show decide (i = a ∧ j = i) = false from decide_eq_false (by omega), Bool.false_or]
    rw [show decide (j = a) = decide (j = a ∧ i = i) from decide_eq_decide.mpr (by omega)]
  · rw [y_up_ne e1]
    by_cases e2 : i = a
    · subst e2
      rw [y_up_at, m_bi_or, m_bi_sh (by omega), hV i hi]
      rw [show decide (j = i ∧ i = b) = false from decide_eq_false (by omega), Bool.or_false]
      rw [show decide (j = b) = decide (i = i ∧ j = b) from decide_eq_decide.mpr (by omega)]
    · rw [y_up_ne e2, hV i hi, decide_eq_false (show ¬ (i = a ∧ j = b) by omega), decide_eq_false (show ¬ (j = a ∧ i = b) by omega), Bool.or_false, Bool.or_false]
theorem m_vw_of {ok : Nat → Nat → Bool} {n i : Nat} {v : Int32} (hn : n ≤ 10) (h : ∀ j, m_bi v j = m_sp ok n i j) : v = m_vw ok n i := by
  refine m_bi_ext fun j _ => ?_
  unfold m_vw
  rw [h j, m_gg_bi 10 (by decide), m_bi_0, Bool.false_or]
  by_cases hj : j < 10
  · rw [decide_eq_true hj, Bool.true_and]
  · rw [decide_eq_false hj, Bool.false_and]; exact m_sp_n (by omega)
theorem m_sp_congr {ok ok' : Nat → Nat → Bool} {n i j : Nat} (h : ∀ a b, a < b → b < n → ok a b = ok' a b) : m_sp ok n i j = m_sp ok' n i j := by
  unfold m_sp
  by_cases h1 : i < j ∧ j < n
  · rw [h i j h1.1 h1.2, decide_eq_false (show ¬ (j < i ∧ i < n) by omega), Bool.false_and, Bool.false_and]
  · by_cases h2 : j < i ∧ i < n
    · rw [h j i h2.1 h2.2, decide_eq_false h1, Bool.false_and, Bool.false_and]
    · rw [decide_eq_false h1, decide_eq_false h2, Bool.false_and, Bool.false_and, Bool.false_and, Bool.false_and]
theorem m_gg_congr {c c' : Nat → Bool} {v : Int32} : ∀ k, (∀ i, i < k → c i = c' i) → m_gg c v k = m_gg c' v k := by
  intro k
  induction k with
  | zero => intro _; rfl
  | succ k ih =>
    intro h
    rw [m_gg_s, m_gg_s, ih fun i hi => h i (by omega), h k (by omega)]
theorem m_vw_congr {ok ok' : Nat → Nat → Bool} {n i : Nat} (h : ∀ a b, a < b → b < n → ok a b = ok' a b) : m_vw ok n i = m_vw ok' n i := m_gg_congr 10 fun _ _ => m_sp_congr h
/-- what the class sees: f the row, y the year, mi the mist, wk works done besides -/
def m_okC (f : Nat → Int32) (y mi wk : Int32) (a b : Nat) : Bool := decide ((m_gN f y a b &&& (wk ^^^ -1)) ||| (m_gD f y a b &&& wk) = 0) && (decide (mi.toInt ≤ (f (12 + 5 * a)).toInt) && decide (mi.toInt ≤ (f (12 + 5 * b)).toInt))
def m_VC (f : Nat → Int32) (y mi wk : Int32) (i : Nat) : Int32 := m_vw (m_okC f y mi wk) (f 0).toInt.toNat i
theorem m_vk_ok {fn fd f : Nat → Int32} {y mi wk : Int32} {a b : Nat} (h : m_gok fn fd f y a b) : m_vk fn fd f mi wk a b = m_okC f y mi wk a b := by
  unfold m_vk m_okC
  rw [h.1, h.2]
theorem y_five {Y : xY} {t u w x y : xV} {av : List Value} (h : x_cs Y [t, u, w, x, y] av) : ∃ a b c d e, av = [a, b, c, d, e] ∧ x_c Y t a ∧ x_c Y u b ∧ x_c Y w c ∧ x_c Y x d ∧ x_c Y y e := by
  obtain ⟨h1, h2⟩ := h
  match av, h1 with
  | [a, b, c, d, e], _ => exact ⟨a, b, c, d, e, rfl, h2 0 t a rfl rfl, h2 1 u b rfl rfl, h2 2 w c rfl rfl, h2 3 x d rfl rfl, h2 4 y e rfl rfl⟩

