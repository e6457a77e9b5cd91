/-! BITS OF A NUMBER, what goes along with a land -/
def m_bi (v : Int32) (j : Nat) : Bool := v.toBitVec.getLsbD j
def m_sh (j : Int32) : Int32 := 1 <<< (j &&& 31)
def m_gg (c : Nat → Bool) (v0 : Int32) : Nat → Int32
  | 0 => v0
  | k + 1 => if c k then m_gg c v0 k ||| m_sh (nI k) else m_gg c v0 k
theorem m_gg_s {c : Nat → Bool} {v0 : Int32} {k : Nat} : m_gg c v0 (k + 1) = if c k then m_gg c v0 k ||| m_sh (nI k) else m_gg c v0 k := rfl
theorem m_nj {j : Int32} (h : 0 ≤ j.toInt) : nI j.toInt.toNat = j := Int32.toInt_inj.mp (by have := (x_i32 j); rw [nI_toInt (by omega)]; omega)
theorem m_bi_xor {u v : Int32} {j : Nat} : m_bi (u ^^^ v) j = (m_bi u j ^^ m_bi v j) := by
  unfold m_bi; rw [Int32.toBitVec_xor, BitVec.getLsbD_xor]
theorem m_bi_0 {j : Nat} : m_bi 0 j = false := by
  unfold m_bi
  rw [show (0 : Int32).toBitVec = 0#32 from rfl]; exact BitVec.getLsbD_zero
theorem m_bi_ext {u v : Int32} (h : ∀ j, j < 32 → m_bi u j = m_bi v j) : u = v := Int32.toBitVec_inj.mp (BitVec.eq_of_getLsbD_eq fun i hi => h i hi)
section ZWR
variable {D : va_G} {Y Y' : xY} {H H' : Heap} {q b u s p : Nat} {f : Nat → Int32} {ef : List (Nat × Nat)}
theorem z_st.E (h : z_st D Y s H f p) (hE : x_E D x_G ef Y H H') (hm : ∀ b u, Y b = some u → Y' b = some u) (hn : z_nld ef = true) : z_st D Y' s H' f p :=
  h.moved (fun b u _ _ hb => hm b u hb) fun b u g hb hu hg => x_eq.Enld hE hb hg hu hn
end ZWR
/-! what hides, what is seen: as the class reckons -/
def m_has (s h : Int32) : Bool := decide (¬ (s >>> (h &&& 31)) &&& 1 = 0)
def m_ush (x k : Int32) : Int32 := (x.toUInt32 >>> (k.toUInt32 &&& Int32.toUInt32 31)).toInt32
def m_bc1 (x : Int32) : Int32 := x - (m_ush x 1 &&& 1431655765)
def m_bc2 (x : Int32) : Int32 := (x &&& 858993459) + (m_ush x 2 &&& 858993459)
def m_bc3 (x : Int32) : Int32 := (x + m_ush x 4) &&& 252645135
def m_bc4 (x : Int32) : Int32 := x + m_ush x 8
def m_bc5 (x : Int32) : Int32 := x + m_ush x 16
def m_bc (x : Int32) : Int32 := m_bc5 (m_bc4 (m_bc3 (m_bc2 (m_bc1 x)))) &&& 63
def m_wr (V : Nat → Int32) (w : Int32) (i : Nat) : Bool := m_has w (nI i) && !(decide (m_bc (V i &&& w) = 1))
def m_fw (V : Nat → Int32) (w r : Int32) : Prop := (∃ k : Nat, k < 10 ∧ r.toInt = (k : Int) ∧ m_wr V w k = true ∧ ∀ i, i < k → m_wr V w i = false) ∨ (r = -1 ∧ ∀ i, i < 10 → m_wr V w i = false)
theorem m_fw.congr {V V' : Nat → Int32} {w r : Int32} (h : m_fw V w r) (e : ∀ i, i < 10 → V i = V' i) : m_fw V' w r := by
  have e2 : ∀ i, i < 10 → m_wr V w i = m_wr V' w i := fun i hi => by unfold m_wr; rw [e i hi]
  rcases h with ⟨k, h1, h2, h3, h4⟩ | ⟨h1, h2⟩
  · exact Or.inl ⟨k, h1, h2, by rw [← e2 k h1]; exact h3, fun i hi => by rw [← e2 i (by omega)]; exact h4 i hi⟩
  · exact Or.inr ⟨h1, fun i hi => by rw [← e2 i hi]; exact h2 i hi⟩
theorem m_gg_congr {c c' : Nat → Bool} {v : Int32} : ∀ k, (∀ i, i < k → c i = c' i) → m_gg c v k = m_gg c' v k := by
  intro k
  induction k with
  | zero => intro _; rfl
  | succ k ih =>
    intro h
    rw [m_gg_s, m_gg_s, ih fun i hi => h i (by omega), h k (by omega)]
