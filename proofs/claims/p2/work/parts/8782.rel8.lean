/-! mists: those of here and of what is kept, class and reference -/
def z_okm (h w : Int32) : Prop := (0 ≤ h.toInt ∧ h.toInt ≤ 11) ∧ (0 ≤ w.toInt ∧ w.toInt ≤ 99)
def z_M (bk o : Nat) (H : Heap) (f : Nat → Int32) : Prop := ∀ q, q < 12 → y_at bk (o + q) H = some (.int (f q))
def z_km (D : va_G) (Y : xY) (H : Heap) (kp mh md : Nat) (kj : Int32) (lj : Nat → Int32) (j : Nat) : Prop := (kj = 0 ∧ y_at kp j H = some .null) ∨ (¬ kj = 0 ∧ ∃ q mq : Nat, y_at kp j H = some (.ref q) ∧ Y q = some 2 ∧ x_sl D 2 11 q H = some (.ref mq) ∧ Y mq = some 28 ∧ mq ≠ mh ∧ mq ≠ md ∧ y_A mq 12 H lj)
def z_Sc (D : va_G) (Y : xY) (H : Heap) (x : Nat) (f k : Nat → Int32) (l : Nat → Nat → Int32) : Prop := ∃ hd dr kp mh md : Nat, x_sl D 11 0 x H = some (.ref hd) ∧ x_sl D 11 1 x H = some (.ref dr) ∧ x_sl D 11 2 x H = some (.ref kp) ∧ Y hd = some 2 ∧ Y dr = some 2 ∧ Y kp = some 41 ∧ x_sl D 2 11 hd H = some (.ref mh) ∧ x_sl D 2 11 dr H = some (.ref md) ∧ Y mh = some 28 ∧ Y md = some 28 ∧ mh ≠ md ∧ y_A mh 12 H f ∧ (∀ j, j < 2 → z_km D Y H kp mh md (k j) (l j) j) ∧ (∀ q q' m : Nat, y_at kp 0 H = some (.ref q) → y_at kp 1 H = some (.ref q') → x_sl D 2 11 q H = some (.ref m) → x_sl D 2 11 q' H = some (.ref m) → False)
def z_nc8 (ef : List (Nat × Nat)) : Bool := !(x_ein ef 0 0) && (!(x_ein ef 0 1) && (!(x_ein ef 0 2) && (!(x_ein ef 41 0) && !(x_ein ef 2 11))))
theorem z_nin8 {ef : List (Nat × Nat)} {t k : Nat} (h : x_ein ef t k = false) : (t, k) ∉ ef := fun hz => by
  rw [x_ein_ok.mpr hz] at h
  cases h
section ZR8
variable {D : va_G} {Y Y' : xY} {H H' : Heap} {x : Nat} {f f' k : Nat → Int32} {l : Nat → Nat → Int32} {ef : List (Nat × Nat)}
theorem z_Sc.hm {hd : Nat} (h : z_Sc D Y H x f k l) (hh : x_sl D 11 0 x H = some (.ref hd)) : ∃ mh : Nat, x_sl D 2 11 hd H = some (.ref mh) ∧ Y hd = some 2 ∧ Y mh = some 28 ∧ y_A mh 12 H f := by
  obtain ⟨hd', dr, kp, mh, md, a1, a2, a3, b1, b2, b3, d1, d2, d3, d4, c1, e1, g, u⟩ := h
  cases a1.symm.trans hh
  exact ⟨mh, d1, b1, d3, e1⟩
/-- here's mists may change, no others -/
theorem z_Sc.here {hd mh : Nat} (h : z_Sc D Y H x f k l) (hYx : Y x = some 0) (hE : x_E D x_G ef Y H H') (hm : ∀ q u, u < 42 → u ≠ 18 → Y q = some u → Y' q = some u) (hn : z_nc8 ef = true) (hh : x_sl D 11 0 x H = some (.ref hd)) (hmh : x_sl D 2 11 hd H = some (.ref mh)) (ha : y_A mh 12 H' f') (h2 : ∀ q, Y q = some 28 → q ≠ mh → H'[q]? = H[q]?) : z_Sc D Y' H' x f' k l := by
  simp only [z_nc8, Bool.and_eq_true, Bool.not_eq_true'] at hn
  obtain ⟨n0, n1, n2, n3, n4⟩ := hn
  obtain ⟨hd', dr, kp, mh', md, a1, a2, a3, b1, b2, b3, d1, d2, d3, d4, c1, e1, g, u⟩ := h
  cases a1.symm.trans hh
  cases d1.symm.trans hmh
  have hk : ∀ j, y_at kp j H' = y_at kp j H := fun j => z_atk (y_Earr hE b3 rfl (z_nin8 n3))
  have hf : ∀ q, Y q = some 2 → x_sl D 2 11 q H' = x_sl D 2 11 q H := fun q hq => y_Efld hE hq rfl (by decide) (z_nin8 n4) rfl
  refine ⟨hd, dr, kp, mh, md, y_Efld hE hYx rfl (by decide) (z_nin8 n0) a1, y_Efld hE hYx rfl (by decide) (z_nin8 n1) a2, y_Efld hE hYx rfl (by decide) (z_nin8 n2) a3, hm _ _ (by decide) (by decide) b1, hm _ _ (by decide) (by decide) b2, hm _ _ (by decide) (by decide) b3, by rw [hf hd b1]; exact d1, by rw [hf dr b2]; exact d2, hm _ _ (by decide) (by decide) d3, hm _ _ (by decide) (by decide) d4, c1, ha, fun j hj => ?_, fun q q' m g1 g2 g3 g4 => ?_⟩
  · rcases g j hj with ⟨p1, p2⟩ | ⟨p1, q, mq, q1, q2, q3, q4, q5, q6, q7⟩
    · exact Or.inl ⟨p1, by rw [hk]; exact p2⟩
    · exact Or.inr ⟨p1, q, mq, by rw [hk]; exact q1, hm _ _ (by decide) (by decide) q2, by rw [hf q q2]; exact q3, hm _ _ (by decide) (by decide) q4, q5, q6, q7.kept (h2 mq q4 q5)⟩
  · rw [hk] at g1 g2
    have t1 : Y q = some 2 := by
      rcases g 0 (by decide) with ⟨-, p2⟩ | ⟨-, q9, mq, q1, q2, -⟩
      · rw [p2] at g1; cases g1
      · rw [q1] at g1; cases g1; exact q2
    have t2 : Y q' = some 2 := by
      rcases g 1 (by decide) with ⟨-, p2⟩ | ⟨-, q9, mq, q1, q2, -⟩
      · rw [p2] at g2; cases g2
      · rw [q1] at g2; cases g2; exact q2
    rw [hf q t1] at g3
    rw [hf q' t2] at g4
    exact u q q' m g1 g2 g3 g4
theorem z_Sc.E (h : z_Sc D Y H x f k l) (hYx : Y x = some 0) (hE : x_E D x_G ef Y H H') (hm : ∀ q u, u < 42 → u ≠ 18 → Y q = some u → Y' q = some u) (hn : (z_nc8 ef && !(x_ein ef 28 0)) = true) : z_Sc D Y' H' x f k l := by
  rw [Bool.and_eq_true, Bool.not_eq_true'] at hn
  obtain ⟨hd, hq⟩ : ∃ hd : Nat, x_sl D 11 0 x H = some (.ref hd) := by
    obtain ⟨hd', dr, kp, mh, md, a1, -⟩ := h
    exact ⟨_, a1⟩
  obtain ⟨mh, h1, h2, h3, h4⟩ := h.hm hq
  exact h.here hYx hE hm hn.1 hq h1 (h4.kept (y_Earr hE h3 rfl (z_nin8 hn.2))) (fun q hq' _ => y_Earr hE hq' rfl (z_nin8 hn.2))
/-- the heap has grown -/
theorem z_Sc.grow (h : z_Sc D Y H x f k l) (hYx : Y x = some 0) (hm : ∀ q u, Y q = some u → Y' q = some u) (hke : ∀ q u, Y q = some u → H'[q]? = H[q]?) : z_Sc D Y' H' x f k l := by
  obtain ⟨hd, dr, kp, mh, md, a1, a2, a3, b1, b2, b3, d1, d2, d3, d4, c1, e1, g, u⟩ := h
  have hk : ∀ j, y_at kp j H' = y_at kp j H := fun j => z_atk (hke _ _ b3)
  have hf : ∀ q, Y q = some 2 → x_sl D 2 11 q H' = x_sl D 2 11 q H := fun q hq => y_slk rfl (hke _ _ hq)
  have h0 : ∀ j, x_sl D 11 j x H' = x_sl D 11 j x H := fun j => y_slk rfl (hke _ _ hYx)
  refine ⟨hd, dr, kp, mh, md, by rw [h0]; exact a1, by rw [h0]; exact a2, by rw [h0]; exact a3, hm _ _ b1, hm _ _ b2, hm _ _ b3, by rw [hf hd b1]; exact d1, by rw [hf dr b2]; exact d2, hm _ _ d3, hm _ _ d4, c1, e1.kept (hke _ _ d3), fun j hj => ?_, fun q q' m g1 g2 g3 g4 => ?_⟩
  · rcases g j hj with ⟨p1, p2⟩ | ⟨p1, q, mq, q1, q2, q3, q4, q5, q6, q7⟩
    · exact Or.inl ⟨p1, by rw [hk]; exact p2⟩
    · exact Or.inr ⟨p1, q, mq, by rw [hk]; exact q1, hm _ _ q2, by rw [hf q q2]; exact q3, hm _ _ q4, q5, q6, q7.kept (hke _ _ q4)⟩
  · rw [hk] at g1 g2
    have t1 : Y q = some 2 := by
      rcases g 0 (by decide) with ⟨-, p2⟩ | ⟨-, q9, mq, q1, q2, -⟩
      · rw [p2] at g1; cases g1
      · rw [q1] at g1; cases g1; exact q2
    have t2 : Y q' = some 2 := by
      rcases g 1 (by decide) with ⟨-, p2⟩ | ⟨-, q9, mq, q1, q2, -⟩
      · rw [p2] at g2; cases g2
      · rw [q1] at g2; cases g2; exact q2
    rw [hf q t1] at g3
    rw [hf q' t2] at g4
    exact u q q' m g1 g2 g3 g4
/-- an image -/
theorem z_Sc.img {hd kp q0 m0 : Nat} {i : Nat} (h : z_Sc D Y H x f k l) (hlt : ∀ q u, Y q = some u → q < H.size) (hYx : Y x = some 0) (hE : x_E D x_G ef Y H H') (hn : (!(x_ein ef 0 0) && (!(x_ein ef 0 1) && (!(x_ein ef 0 2) && !(x_ein ef 2 11)))) = true) (hm : ∀ q u, Y q = some u → Y' q = some u) (hi : i < 2) (hp : x_sl D 11 2 x H = some (.ref kp))
    (hq : y_at kp i H' = some (.ref q0)) (hY9 : Y' q0 = some 2) (hs9 : x_sl D 2 11 q0 H' = some (.ref m0)) (hY8 : Y' m0 = some 28) (hne : ∀ j, j < 2 → j ≠ i → y_at kp j H' = y_at kp j H) (hold : y_at kp i H = some (.ref q0) ∨ H.size ≤ m0) (ha : y_A m0 12 H' f) (h2 : ∀ q, Y q = some 28 → q ≠ m0 → H'[q]? = H[q]?) : z_Sc D Y' H' x f (y_up k i 1) (fun j => if j = i then f else l j) := by
  simp only [Bool.and_eq_true, Bool.not_eq_true'] at hn
  obtain ⟨n0, n1, n2, n4⟩ := hn
  obtain ⟨hd', dr, kp', mh, md, a1, a2, a3, b1, b2, b3, d1, d2, d3, d4, c1, e1, g, u⟩ := h
  cases a3.symm.trans hp
  have hf : ∀ q, Y q = some 2 → x_sl D 2 11 q H' = x_sl D 2 11 q H := fun q hq => y_Efld hE hq rfl (by decide) (z_nin8 n4) rfl
  -- the new one's mists are no others'
  have hoth : ∀ j, j < 2 → j ≠ i → ∀ q mq : Nat, y_at kp j H = some (.ref q) → x_sl D 2 11 q H = some (.ref mq) → Y mq = some 28 → mq ≠ m0 := by
    intro j hj hji q mq hq1 hq2 hq3 e0
    subst e0
    rcases hold with h9 | h9
    · have t2 : Y q0 = some 2 := by
        rcases g i hi with ⟨-, p2⟩ | ⟨-, q9, mq', q1, q2, -⟩
        · rw [p2] at h9; cases h9
        · rw [q1] at h9; cases h9; exact q2
      rw [hf q0 t2] at hs9
      rcases (by omega : (j = 0 ∧ i = 1) ∨ (j = 1 ∧ i = 0)) with ⟨rfl, rfl⟩ | ⟨rfl, rfl⟩
      · exact u q q0 mq hq1 h9 hq2 hs9
      · exact u q0 q mq h9 hq1 hs9 hq2
    · have := hlt _ _ hq3
      omega
  have hdr : mh ≠ m0 ∧ md ≠ m0 := by
    rcases hold with h9 | h9
    · rcases g i hi with ⟨-, p2⟩ | ⟨-, q9, mq, q1, q2, q3, q4, q5, q6, q7⟩
      · rw [p2] at h9; cases h9
      · rw [q1] at h9; cases h9
        rw [hf q0 q2] at hs9
        cases q3.symm.trans hs9
        exact ⟨Ne.symm q5, Ne.symm q6⟩
    · have := hlt _ _ d3
      have := hlt _ _ d4
      exact ⟨by omega, by omega⟩
  refine ⟨hd', dr, kp, mh, md, y_Efld hE hYx rfl (by decide) (z_nin8 n0) a1, y_Efld hE hYx rfl (by decide) (z_nin8 n1) a2, y_Efld hE hYx rfl (by decide) (z_nin8 n2) a3, hm _ _ b1, hm _ _ b2, hm _ _ b3, by rw [hf hd' b1]; exact d1, by rw [hf dr b2]; exact d2, hm _ _ d3, hm _ _ d4, c1, e1.kept (h2 mh d3 hdr.1), fun j hj => ?_, fun q q' m g1 g2 g3 g4 => ?_⟩
  · by_cases ej : j = i
    · subst ej
      refine Or.inr ⟨by rw [y_up_at]; decide, q0, m0, hq, hY9, hs9, hY8, Ne.symm hdr.1, Ne.symm hdr.2, ?_⟩
      dsimp only
      rw [if_pos rfl]; exact ha
    · dsimp only
      rw [y_up_ne ej, if_neg ej]
      rcases g j hj with ⟨p1, p2⟩ | ⟨p1, q, mq, q1, q2, q3, q4, q5, q6, q7⟩
      · exact Or.inl ⟨p1, by rw [hne j hj ej]; exact p2⟩
      · exact Or.inr ⟨p1, q, mq, by rw [hne j hj ej]; exact q1, hm _ _ q2, by rw [hf q q2]; exact q3, hm _ _ q4, q5, q6, q7.kept (h2 mq q4 (hoth j hj ej q mq q1 q3 q4))⟩
  · rcases (by omega : i = 0 ∨ i = 1) with rfl | rfl
    · rw [hq] at g1; cases g1
      rw [hne 1 (by decide) (by decide)] at g2
      rcases g 1 (by decide) with ⟨-, p2⟩ | ⟨-, q9, mq, q1, q2, q3, q4, -⟩
      · rw [p2] at g2; cases g2
      · rw [q1] at g2; cases g2
        rw [hf _ q2] at g4
        cases q3.symm.trans g4
        cases hs9.symm.trans g3
        exact hoth 1 (by decide) (by decide) _ _ q1 q3 q4 rfl
    · rw [hq] at g2; cases g2
      rw [hne 0 (by decide) (by decide)] at g1
      rcases g 0 (by decide) with ⟨-, p2⟩ | ⟨-, q9, mq, q1, q2, q3, q4, -⟩
      · rw [p2] at g1; cases g1
      · rw [q1] at g1; cases g1
        rw [hf _ q2] at g3
        cases q3.symm.trans g3
        cases hs9.symm.trans g4
        exact hoth 0 (by decide) (by decide) _ _ q1 q3 q4 rfl
/-- a land that was told -/
theorem z_Sc.land {hd dr mh md : Nat} (h : z_Sc D Y H x f k l) (hE : x_E D x_G ef Y H H') (hm : ∀ q u, Y q = some u → Y' q = some u) (hn : (!(x_ein ef 41 0) && !(x_ein ef 2 11)) = true) (hh : x_sl D 11 0 x H = some (.ref hd)) (hr : x_sl D 11 1 x H = some (.ref dr)) (hsh : x_sl D 2 11 hd H = some (.ref mh)) (hsd : x_sl D 2 11 dr H = some (.ref md)) (hf2 : x_sl D 11 2 x H' = x_sl D 11 2 x H) (hsw : (x_sl D 11 0 x H' = some (.ref hd) ∧ x_sl D 11 1 x H' = some (.ref dr)) ∨ (x_sl D 11 0 x H' = some (.ref dr) ∧ x_sl D 11 1 x H' = some (.ref hd)))
    (ha : ∀ g, y_A mh 12 H g → y_A md 12 H' g) (h2 : ∀ q, Y q = some 28 → q ≠ md → H'[q]? = H[q]?) : z_Sc D Y' H' x f k l := by
  simp only [Bool.and_eq_true, Bool.not_eq_true'] at hn
  obtain ⟨n3, n4⟩ := hn
  obtain ⟨hd', dr', kp, mh', md', a1, a2, a3, b1, b2, b3, d1, d2, d3, d4, c1, e1, g, u⟩ := h
  cases a1.symm.trans hh
  cases a2.symm.trans hr
  cases d1.symm.trans hsh
  cases d2.symm.trans hsd
  have hk : ∀ j, y_at kp j H' = y_at kp j H := fun j => z_atk (y_Earr hE b3 rfl (z_nin8 n3))
  have hf : ∀ q, Y q = some 2 → x_sl D 2 11 q H' = x_sl D 2 11 q H := fun q hq => y_Efld hE hq rfl (by decide) (z_nin8 n4) rfl
  have hu : ∀ q q' m : Nat, y_at kp 0 H' = some (.ref q) → y_at kp 1 H' = some (.ref q') → x_sl D 2 11 q H' = some (.ref m) → x_sl D 2 11 q' H' = some (.ref m) → False := by
    intro q q' m g1 g2 g3 g4
    rw [hk] at g1 g2
    have t1 : Y q = some 2 := by
      rcases g 0 (by decide) with ⟨-, p2⟩ | ⟨-, q9, mq, q1, q2, -⟩
      · rw [p2] at g1; cases g1
      · rw [q1] at g1; cases g1; exact q2
    have t2 : Y q' = some 2 := by
      rcases g 1 (by decide) with ⟨-, p2⟩ | ⟨-, q9, mq, q1, q2, -⟩
      · rw [p2] at g2; cases g2
      · rw [q1] at g2; cases g2; exact q2
    rw [hf q t1] at g3
    rw [hf q' t2] at g4
    exact u q q' m g1 g2 g3 g4
  have hg : ∀ j, j < 2 → z_km D Y' H' kp mh md (k j) (l j) j := fun j hj => by
    rcases g j hj with ⟨p1, p2⟩ | ⟨p1, q, mq, q1, q2, q3, q4, q5, q6, q7⟩
    · exact Or.inl ⟨p1, by rw [hk]; exact p2⟩
    · exact Or.inr ⟨p1, q, mq, by rw [hk]; exact q1, hm _ _ q2, by rw [hf q q2]; exact q3, hm _ _ q4, q5, q6, q7.kept (h2 mq q4 q6)⟩
  rcases hsw with ⟨s1, s2⟩ | ⟨s1, s2⟩
  · exact ⟨hd, dr, kp, mh, md, s1, s2, by rw [hf2]; exact a3, hm _ _ b1, hm _ _ b2, hm _ _ b3, by rw [hf hd b1]; exact d1, by rw [hf dr b2]; exact d2, hm _ _ d3, hm _ _ d4, c1, e1.kept (h2 mh d3 c1), hg, hu⟩
  · refine ⟨dr, hd, kp, md, mh, s1, s2, by rw [hf2]; exact a3, hm _ _ b2, hm _ _ b1, hm _ _ b3, by rw [hf dr b2]; exact d2, by rw [hf hd b1]; exact d1, hm _ _ d4, hm _ _ d3, Ne.symm c1, ha f e1, fun j hj => ?_, hu⟩
    rcases hg j hj with p | ⟨p1, q, mq, q1, q2, q3, q4, q5, q6, q7⟩
    · exact Or.inl p
    · exact Or.inr ⟨p1, q, mq, q1, q2, q3, q4, q6, q5, q7⟩
end ZR8
/-- the reference's side -/
def z_Sm (D : va_G) (Y : xY) (H : Heap) (x : Nat) (f k : Nat → Int32) (l : Nat → Nat → Int32) : Prop := ∃ bk im mk : Nat, x_sl D 12 0 x H = some (.ref bk) ∧ x_sl D 12 1 x H = some (.ref im) ∧ x_sl D 12 2 x H = some (.ref mk) ∧ Y bk = some 46 ∧ Y im = some 47 ∧ Y mk = some 48 ∧ z_M bk 116 H f ∧ ∀ j, j < 2 → y_at mk j H = some (.int (k j)) ∧ (¬ k j = 0 → z_M im (160 * j + 116) H (l j))
theorem z_MK {b o : Nat} {H H' : Heap} {f : Nat → Int32} (h : z_M b o H f) (e : H'[b]? = H[b]?) : z_M b o H' f := fun q hq => by
  rw [z_atk e]; exact h q hq
def z_nf8 (ef : List (Nat × Nat)) : Bool := !(x_ein ef 17 0) && (!(x_ein ef 17 1) && !(x_ein ef 17 2))
section ZM8
variable {D : va_G} {Y Y' : xY} {H H' : Heap} {x : Nat} {f f' k : Nat → Int32} {l : Nat → Nat → Int32} {ef : List (Nat × Nat)}
theorem z_Sm.bk {bk : Nat} (h : z_Sm D Y H x f k l) (hb : x_sl D 12 0 x H = some (.ref bk)) : Y bk = some 46 ∧ z_M bk 116 H f := by
  obtain ⟨bk', im, mk, a1, a2, a3, b1, b2, b3, c1, g⟩ := h
  cases a1.symm.trans hb
  exact ⟨b1, c1⟩
theorem z_Sm.book (h : z_Sm D Y H x f k l) (hYx : Y x = some 17) (hE : x_E D x_G ef Y H H') (hm : ∀ q u, Y q = some u → Y' q = some u) (hn : (z_nf8 ef && (!(x_ein ef 47 0) && !(x_ein ef 48 0))) = true) (hb : ∀ bk : Nat, x_sl D 12 0 x H = some (.ref bk) → z_M bk 116 H' f') : z_Sm D Y' H' x f' k l := by
  simp only [z_nf8, Bool.and_eq_true, Bool.not_eq_true'] at hn
  obtain ⟨⟨n0, n1, n2⟩, n3, n4⟩ := hn
  obtain ⟨bk, im, mk, a1, a2, a3, b1, b2, b3, c1, g⟩ := h
  refine ⟨bk, im, mk, y_Efld hE hYx rfl (by decide) (z_nin8 n0) a1, y_Efld hE hYx rfl (by decide) (z_nin8 n1) a2, y_Efld hE hYx rfl (by decide) (z_nin8 n2) a3, hm _ _ b1, hm _ _ b2, hm _ _ b3, hb bk a1, fun j hj => ⟨?_, fun hq => z_MK ((g j hj).2 hq) (y_Earr hE b2 rfl (z_nin8 n3))⟩⟩
  rw [z_atk (y_Earr hE b3 rfl (z_nin8 n4))]; exact (g j hj).1
theorem z_Sm.E (h : z_Sm D Y H x f k l) (hYx : Y x = some 17) (hE : x_E D x_G ef Y H H') (hm : ∀ q u, Y q = some u → Y' q = some u) (hn : ((z_nf8 ef && (!(x_ein ef 47 0) && !(x_ein ef 48 0))) && !(x_ein ef 46 0)) = true) : z_Sm D Y' H' x f k l := by
  rw [Bool.and_eq_true, Bool.not_eq_true'] at hn
  refine h.book hYx hE hm hn.1 (fun bk hb => ?_)
  have h1 := h.bk hb
  exact z_MK h1.2 (y_Earr hE h1.1 rfl (z_nin8 hn.2))
theorem z_Sm.K (h : z_Sm D Y H x f k l) (hYx : Y x = some 17) (hE : x_E D x_G ef Y H H') (hm : ∀ q u, Y q = some u → Y' q = some u) (hn : (z_nf8 ef && (!(x_ein ef 47 0) && !(x_ein ef 48 0))) = true) {av : List Value} {v : Option Value} {D' : va_G} {Y9 : xY} (hP : y_PK xc8 D' av Y H v Y9 H') : z_Sm D Y' H' x f k l := by
  refine h.book hYx hE hm hn (fun bk hb q hq => ?_)
  have h1 := h.bk hb
  rw [hP bk 46 (116 + q) h1.1 (xc8_in q hq)]; exact h1.2 q hq
end ZM8
