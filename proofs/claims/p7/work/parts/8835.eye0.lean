/-! BITS OF A NUMBER, what goes along with a land -/
def m_bi (v : Int32) (j : Nat) : Bool := v.toBitVec.getLsbD j
def m_sh (j : Int32) : Int32 := 1 <<< (j &&& 31)
def m_gg (c : Nat → Bool) (v0 : Int32) : Nat → Int32
  | 0 => v0
  | k + 1 => if c k then m_gg c v0 k ||| m_sh (nI k) else m_gg c v0 k
theorem m_gg_s {c : Nat → Bool} {v0 : Int32} {k : Nat} : m_gg c v0 (k + 1) = if c k then m_gg c v0 k ||| m_sh (nI k) else m_gg c v0 k := rfl
theorem m_gg_T {c : Nat → Bool} {v0 : Int32} {k : Nat} (h : c k = true) : m_gg c v0 (k + 1) = m_gg c v0 k ||| m_sh (nI k) := by rw [m_gg_s, h]; rfl
theorem m_gg_F {c : Nat → Bool} {v0 : Int32} {k : Nat} (h : c k = false) : m_gg c v0 (k + 1) = m_gg c v0 k := by rw [m_gg_s, h]; rfl
theorem m_nj {j : Int32} (h : 0 ≤ j.toInt) : nI j.toInt.toNat = j := Int32.toInt_inj.mp (by have := (x_i32 j); rw [nI_toInt (by omega)]; omega)
theorem m_bi_or {u v : Int32} {j : Nat} : m_bi (u ||| v) j = (m_bi u j || m_bi v j) := by
  unfold m_bi; rw [Int32.toBitVec_or, BitVec.getLsbD_or]
theorem m_bi_and {u v : Int32} {j : Nat} : m_bi (u &&& v) j = (m_bi u j && m_bi v j) := by
  unfold m_bi; rw [Int32.toBitVec_and, BitVec.getLsbD_and]
theorem m_bi_xor {u v : Int32} {j : Nat} : m_bi (u ^^^ v) j = (m_bi u j ^^ m_bi v j) := by
  unfold m_bi; rw [Int32.toBitVec_xor, BitVec.getLsbD_xor]
theorem m_bi_ge {u : Int32} {j : Nat} (h : 32 ≤ j) : m_bi u j = false := BitVec.getLsbD_of_ge _ _ h
theorem m_bi_0 {j : Nat} : m_bi 0 j = false := by
  unfold m_bi
  rw [show (0 : Int32).toBitVec = 0#32 from rfl]; exact BitVec.getLsbD_zero
theorem m_bi_ext {u v : Int32} (h : ∀ j, j < 32 → m_bi u j = m_bi v j) : u = v := Int32.toBitVec_inj.mp (BitVec.eq_of_getLsbD_eq fun i hi => h i hi)
theorem m_bi_shB : ∀ b, b < 31 → ∀ j, j < 32 → m_bi (m_sh (nI b)) j = decide (j = b) := by decide +kernel
theorem m_bi_sh {b j : Nat} (hb : b < 31) : m_bi (m_sh (nI b)) j = decide (j = b) := by
  by_cases hj : j < 32
  · exact m_bi_shB b hb j hj
  · rw [m_bi_ge (by omega)]; exact (decide_eq_false (by omega)).symm
theorem m_gg_bi {c : Nat → Bool} {v0 : Int32} {j : Nat} : ∀ k, k ≤ 31 → m_bi (m_gg c v0 k) j = (m_bi v0 j || (decide (j < k) && c j)) := by
  intro k
  induction k with
  | zero => intro _; show m_bi v0 j = _; rw [decide_eq_false (by omega), Bool.false_and, Bool.or_false]
  | succ k ih =>
    intro hk
    have ih := ih (by omega)
    cases hc : c k with
    | false =>
      rw [m_gg_F hc, ih]
      by_cases e : j = k
      · subst e; rw [hc, Bool.and_false, Bool.and_false]
      · rw [show decide (j < k + 1) = decide (j < k) from decide_eq_decide.mpr (by omega)]
    | true =>
      rw [m_gg_T hc, m_bi_or, ih, m_bi_sh (by omega)]
      by_cases e : j = k
      · subst e; rw [hc, decide_eq_true rfl, decide_eq_true (show j < j + 1 by omega), decide_eq_false (show ¬ j < j by omega)]; simp
      · rw [show decide (j < k + 1) = decide (j < k) from decide_eq_decide.mpr (by omega), decide_eq_false e, Bool.or_false]
section ZWR
variable {D : va_G} {Y Y' : xY} {H H' : Heap} {q b u s p : Nat} {f : Nat → Int32} {ef : List (Nat × Nat)}
theorem z_st.E (h : z_st D Y s H f p) (hE : x_E D x_G ef Y H H') (hm : ∀ b u, Y b = some u → Y' b = some u) (hn : z_nld ef = true) : z_st D Y' s H' f p :=
  h.moved (fun b u _ _ hb => hm b u hb) fun b u g hb hu hg => x_eq.Enld hE hb hg hu hn
end ZWR
/-! what hides, what is seen: as the class reckons -/
def m_has (s h : Int32) : Bool := decide (¬ (s >>> (h &&& 31)) &&& 1 = 0)
def m_ush (x k : Int32) : Int32 := (x.toUInt32 >>> (k.toUInt32 &&& Int32.toUInt32 31)).toInt32
def m_bc1 (x : Int32) : Int32 := x - (m_ush x 1 &&& 1431655765)
def m_bc2 (x : Int32) : Int32 := (x &&& 858993459) + (m_ush x 2 &&& 858993459)
def m_bc3 (x : Int32) : Int32 := (x + m_ush x 4) &&& 252645135
def m_bc4 (x : Int32) : Int32 := x + m_ush x 8
def m_bc5 (x : Int32) : Int32 := x + m_ush x 16
def m_bc (x : Int32) : Int32 := m_bc5 (m_bc4 (m_bc3 (m_bc2 (m_bc1 x)))) &&& 63
def m_wr (V : Nat → Int32) (w : Int32) (i : Nat) : Bool := m_has w (nI i) && !(decide (m_bc (V i &&& w) = 1))
def m_fw (V : Nat → Int32) (w r : Int32) : Prop := (∃ k : Nat, k < 10 ∧ r.toInt = (k : Int) ∧ m_wr V w k = true ∧ ∀ i, i < k → m_wr V w i = false) ∨ (r = -1 ∧ ∀ i, i < 10 → m_wr V w i = false)
theorem m_fw.congr {V V' : Nat → Int32} {w r : Int32} (h : m_fw V w r) (e : ∀ i, i < 10 → V i = V' i) : m_fw V' w r := by
  have e2 : ∀ i, i < 10 → m_wr V w i = m_wr V' w i := fun i hi => by unfold m_wr; rw [e i hi]
  rcases h with ⟨k, h1, h2, h3, h4⟩ | ⟨h1, h2⟩
  · exact Or.inl ⟨k, h1, h2, by rw [← e2 k h1]; exact h3, fun i hi => by rw [← e2 i (by omega)]; exact h4 i hi⟩
  · exact Or.inr ⟨h1, fun i hi => by rw [← e2 i hi]; exact h2 i hi⟩
def m_any (c : Nat → Bool) : Nat → Bool
  | 0 => false
  | k + 1 => m_any c k || c k
theorem m_any_F {c : Nat → Bool} : ∀ n, (∀ i, i < n → c i = false) → m_any c n = false := by
  intro n
  induction n with
  | zero => intro _; rfl
  | succ n ih =>
    intro h
    show (m_any c n || c n) = false
    rw [ih fun i hi => h i (by omega), h n (by omega)]; rfl
theorem m_any_T {c : Nat → Bool} {i : Nat} (hc : c i = true) : ∀ n, i < n → m_any c n = true := by
  intro n
  induction n with
  | zero => intro h; omega
  | succ n ih =>
    intro h
    show (m_any c n || c n) = true
    by_cases e : i = n
    · rw [← e, hc, Bool.or_true]
    · rw [ih (by omega), Bool.true_or]
/-- hill c hides b from a -/
def m_hc (l f : Nat → Int32) (a b : Int) (c : Nat) : Bool := !(decide ((c : Int) = a)) && (!(decide ((c : Int) = b)) && (m_mt l (f (10 + 5 * c)) (f (11 + 5 * c)) && m_hd l (f (10 + 5 * c)) (f (11 + 5 * c)) (f (12 + 5 * c))))
def m_hb (l f : Nat → Int32) (a b : Int) : Bool := m_any (m_hc l f a b) (f 0).toInt.toNat
def m_gc (l f : Nat → Int32) (y : Int32) (k : Nat) : Bool := m_mt l (f (61 + 7 * k)) (f (62 + 7 * k)) && m_hd l (f (61 + 7 * k)) (f (62 + 7 * k)) (m_stn f (60 + 7 * k) y (if f (65 + 7 * k) = 1 then 1 else 0))
def m_gd (l f : Nat → Int32) (y : Int32) (k : Nat) : Bool := m_mt l (f (61 + 7 * k)) (f (62 + 7 * k)) && m_hd l (f (61 + 7 * k)) (f (62 + 7 * k)) (m_stn f (60 + 7 * k) y 1)
def m_gN (f : Nat → Int32) (y : Int32) (a b : Nat) : Int32 := m_gg (m_gc (m_ln f a b) f y) (if m_hb (m_ln f a b) f a b = true then 256 else 0) (f 1).toInt.toNat
def m_gD (f : Nat → Int32) (y : Int32) (a b : Nat) : Int32 := m_gg (m_gd (m_ln f a b) f y) 0 (f 1).toInt.toNat
def m_sp (ok : Nat → Nat → Bool) (n i j : Nat) : Bool := (decide (i < j ∧ j < n) && ok i j) || (decide (j < i ∧ i < n) && ok j i)
def m_vw (ok : Nat → Nat → Bool) (n i : Nat) : Int32 := m_gg (m_sp ok n i) 0 10
theorem m_sp_congr {ok ok' : Nat → Nat → Bool} {n i j : Nat} (h : ∀ a b, a < b → b < n → ok a b = ok' a b) : m_sp ok n i j = m_sp ok' n i j := by
  unfold m_sp
  by_cases h1 : i < j ∧ j < n
  · rw [h i j h1.1 h1.2, decide_eq_false (show ¬ (j < i ∧ i < n) by omega), Bool.false_and, Bool.false_and]
  · by_cases h2 : j < i ∧ i < n
    · rw [h j i h2.1 h2.2, decide_eq_false h1, Bool.false_and, Bool.false_and]
    · rw [decide_eq_false h1, decide_eq_false h2, Bool.false_and, Bool.false_and, Bool.false_and, Bool.false_and]
theorem m_gg_congr {c c' : Nat → Bool} {v : Int32} : ∀ k, (∀ i, i < k → c i = c' i) → m_gg c v k = m_gg c' v k := by
  intro k
  induction k with
  | zero => intro _; rfl
  | succ k ih =>
    intro h
    rw [m_gg_s, m_gg_s, ih fun i hi => h i (by omega), h k (by omega)]
theorem m_vw_congr {ok ok' : Nat → Nat → Bool} {n i : Nat} (h : ∀ a b, a < b → b < n → ok a b = ok' a b) : m_vw ok n i = m_vw ok' n i := m_gg_congr 10 fun _ _ => m_sp_congr h
/-- what the class sees: f the row, y the year, mi the mist, wk works done besides -/
def m_okC (f : Nat → Int32) (y mi wk : Int32) (a b : Nat) : Bool := decide ((m_gN f y a b &&& (wk ^^^ -1)) ||| (m_gD f y a b &&& wk) = 0) && (decide (mi.toInt ≤ (f (12 + 5 * a)).toInt) && decide (mi.toInt ≤ (f (12 + 5 * b)).toInt))
def m_VC (f : Nat → Int32) (y mi wk : Int32) (i : Nat) : Int32 := m_vw (m_okC f y mi wk) (f 0).toInt.toNat i
