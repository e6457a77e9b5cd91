/-! letters: those of here and of what is kept, class and reference -/
theorem z_nin {ef : List (Nat × Nat)} {t k : Nat} (h : x_ein ef t k = false) : (t, k) ∉ ef := fun hz => by
  rw [x_ein_ok.mpr hz] at h
  cases h
def z_kl (D : va_G) (Y : xY) (H : Heap) (hd dr kp : Nat) (kj lj : Int32) (j : Nat) : Prop := (kj = 0 ∧ y_at kp j H = some .null) ∨ (¬ kj = 0 ∧ ∃ q : Nat, y_at kp j H = some (.ref q) ∧ Y q = some 2 ∧ q ≠ hd ∧ q ≠ dr ∧ x_sl D 2 12 q H = some (.int lj))
def z_Rc (D : va_G) (Y : xY) (H : Heap) (x : Nat) (a : Int32) (k l : Nat → Int32) : Prop := ∃ hd dr kp : Nat, x_sl D 11 0 x H = some (.ref hd) ∧ x_sl D 11 1 x H = some (.ref dr) ∧ x_sl D 11 2 x H = some (.ref kp) ∧ Y hd = some 2 ∧ Y dr = some 2 ∧ Y kp = some 41 ∧ hd ≠ dr ∧ x_sl D 2 12 hd H = some (.int a) ∧ (∀ j, j < 2 → z_kl D Y H hd dr kp (k j) (l j) j) ∧ (∀ q : Nat, y_at kp 0 H = some (.ref q) → y_at kp 1 H = some (.ref q) → False)
/-- what the class's side needs of a call that leaves its fields and the kept array alone -/
def z_nc (ef : List (Nat × Nat)) : Bool := !(x_ein ef 0 0) && (!(x_ein ef 0 1) && (!(x_ein ef 0 2) && !(x_ein ef 41 0)))
section ZR
variable {D : va_G} {Y Y' : xY} {H H' : Heap} {x : Nat} {a a' : Int32} {k l : Nat → Int32} {ef : List (Nat × Nat)}
theorem z_Rc.tag {hd : Nat} (h : z_Rc D Y H x a k l) (hh : x_sl D 11 0 x H = some (.ref hd)) : Y hd = some 2 ∧ x_sl D 2 12 hd H = some (.int a) := by
  obtain ⟨hd', dr, kp, a1, a2, a3, b1, b2, b3, c1, e1, f, g⟩ := h
  cases a1.symm.trans hh
  exact ⟨b1, e1⟩
/-- here's letters may change, no others -/
theorem z_Rc.here {hd : Nat} (h : z_Rc D Y H x a k l) (hYx : Y x = some 0) (hE : x_E D x_G ef Y H H') (hm : ∀ q u, Y q = some u → Y' q = some u) (hn : z_nc ef = true) (hh : x_sl D 11 0 x H = some (.ref hd)) (ha : x_sl D 2 12 hd H' = some (.int a')) (h2 : ∀ q, Y q = some 2 → q ≠ hd → x_sl D 2 12 q H' = x_sl D 2 12 q H) : z_Rc D Y' H' x a' k l := by
  simp only [z_nc, Bool.and_eq_true, Bool.not_eq_true'] at hn
  obtain ⟨n0, n1, n2, n3⟩ := hn
  obtain ⟨hd', dr, kp, a1, a2, a3, b1, b2, b3, c1, e1, f, g⟩ := h
  cases a1.symm.trans hh
  have hk : ∀ j, y_at kp j H' = y_at kp j H := fun j => z_atk (y_Earr hE b3 rfl (z_nin n3))
  refine ⟨hd, dr, kp, y_Efld hE hYx rfl (by decide) (z_nin n0) a1, y_Efld hE hYx rfl (by decide) (z_nin n1) a2, y_Efld hE hYx rfl (by decide) (z_nin n2) a3, hm _ _ b1, hm _ _ b2, hm _ _ b3, c1, ha, fun j hj => ?_, fun q => by rw [hk, hk]; exact g q⟩
  rcases f j hj with ⟨p1, p2⟩ | ⟨p1, q, q1, q2, q3, q4, q6⟩
  · exact Or.inl ⟨p1, by rw [hk]; exact p2⟩
  · exact Or.inr ⟨p1, q, by rw [hk]; exact q1, hm _ _ q2, q3, q4, by rw [h2 q q2 q3]; exact q6⟩
/-- a call that changes no letters -/
theorem z_Rc.E (h : z_Rc D Y H x a k l) (hYx : Y x = some 0) (hE : x_E D x_G ef Y H H') (hm : ∀ q u, Y q = some u → Y' q = some u) (hn : (z_nc ef && !(x_ein ef 2 12)) = true) : z_Rc D Y' H' x a k l := by
  rw [Bool.and_eq_true, Bool.not_eq_true'] at hn
  obtain ⟨hd, hq⟩ : ∃ hd : Nat, x_sl D 11 0 x H = some (.ref hd) := by
    obtain ⟨hd', dr, kp, a1, -⟩ := h
    exact ⟨_, a1⟩
  have h1 := h.tag hq
  exact h.here hYx hE hm hn.1 hq (y_Efld hE h1.1 rfl (by decide) (z_nin hn.2) h1.2) (fun q hq' _ => y_Efld hE hq' rfl (by decide) (z_nin hn.2) rfl)
/-- an image: a kept land, or a new one, gets here's letters -/
theorem z_Rc.img {hd kp q0 : Nat} {i : Nat} (h : z_Rc D Y H x a k l) (hlt : ∀ q u, Y q = some u → q < H.size) (hYx : Y x = some 0) (h0 : ∀ j, j < 3 → x_sl D 11 j x H' = x_sl D 11 j x H) (hm : ∀ q u, Y q = some u → Y' q = some u) (hi : i < 2) (hh : x_sl D 11 0 x H = some (.ref hd)) (hp : x_sl D 11 2 x H = some (.ref kp))
    (hq : y_at kp i H' = some (.ref q0)) (hY9 : Y' q0 = some 2) (hne : ∀ j, j < 2 → j ≠ i → y_at kp j H' = y_at kp j H) (hold : y_at kp i H = some (.ref q0) ∨ H.size ≤ q0) (ha : x_sl D 2 12 q0 H' = x_sl D 2 12 hd H) (h2 : ∀ q, Y q = some 2 → q ≠ q0 → x_sl D 2 12 q H' = x_sl D 2 12 q H) : z_Rc D Y' H' x a (y_up k i 1) (y_up l i a) := by
  obtain ⟨hd', dr, kp', a1, a2, a3, b1, b2, b3, c1, e1, f, g⟩ := h
  cases a1.symm.trans hh
  cases a3.symm.trans hp
  -- the new one is no land of the others
  have hd0 : ∀ j, j < 2 → j ≠ i → ∀ q : Nat, y_at kp j H = some (.ref q) → Y q = some 2 → q ≠ q0 := by
    intro j hj hji q hq1 hq2 e0
    subst e0
    rcases hold with h9 | h9
    · rcases (by omega : (j = 0 ∧ i = 1) ∨ (j = 1 ∧ i = 0)) with ⟨rfl, rfl⟩ | ⟨rfl, rfl⟩
      · exact g q hq1 h9
      · exact g q h9 hq1
    · have := hlt _ _ hq2
      omega
  have hdr : hd ≠ q0 ∧ dr ≠ q0 := by
    rcases hold with h9 | h9
    · rcases f i hi with ⟨-, p2⟩ | ⟨-, q, q1, q2, q3, q4, -⟩
      · rw [p2] at h9; cases h9
      · rw [q1] at h9; cases h9
        exact ⟨Ne.symm q3, Ne.symm q4⟩
    · have := hlt _ _ b1
      have := hlt _ _ b2
      exact ⟨by omega, by omega⟩
  refine ⟨hd, dr, kp, by rw [h0 0 (by decide)]; exact a1, by rw [h0 1 (by decide)]; exact a2, by rw [h0 2 (by decide)]; exact a3, hm _ _ b1, hm _ _ b2, hm _ _ b3, c1, by rw [h2 hd b1 hdr.1]; exact e1, fun j hj => ?_, fun q g1 g2 => ?_⟩
  · by_cases ej : j = i
    · subst ej
      refine Or.inr ⟨by rw [y_up_at]; decide, q0, hq, hY9, Ne.symm hdr.1, Ne.symm hdr.2, ?_⟩
      rw [y_up_at, ha]; exact e1
    · rw [y_up_ne ej, y_up_ne ej]
      rcases f j hj with ⟨p1, p2⟩ | ⟨p1, q, q1, q2, q3, q4, q6⟩
      · exact Or.inl ⟨p1, by rw [hne j hj ej]; exact p2⟩
      · exact Or.inr ⟨p1, q, by rw [hne j hj ej]; exact q1, hm _ _ q2, q3, q4, by rw [h2 q q2 (hd0 j hj ej q q1 q2)]; exact q6⟩
  · -- two kept lands are two
    rcases (by omega : i = 0 ∨ i = 1) with rfl | rfl
    · rw [hq] at g1; cases g1
      rw [hne 1 (by decide) (by decide)] at g2
      rcases f 1 (by decide) with ⟨-, p2⟩ | ⟨-, q', q1, q2, -⟩
      · rw [p2] at g2; cases g2
      · rw [q1] at g2; cases g2
        exact hd0 1 (by decide) (by decide) _ q1 q2 rfl
    · rw [hq] at g2; cases g2
      rw [hne 0 (by decide) (by decide)] at g1
      rcases f 0 (by decide) with ⟨-, p2⟩ | ⟨-, q', q1, q2, -⟩
      · rw [p2] at g1; cases g1
      · rw [q1] at g1; cases g1
        exact hd0 0 (by decide) (by decide) _ q1 q2 rfl
/-- a land that was told: here and draft may be changed for one another -/
theorem z_Rc.land {hd dr : Nat} (h : z_Rc D Y H x a k l) (hE : x_E D x_G ef Y H H') (hm : ∀ q u, Y q = some u → Y' q = some u) (hn : x_ein ef 41 0 = false) (hh : x_sl D 11 0 x H = some (.ref hd)) (hr : x_sl D 11 1 x H = some (.ref dr)) (hf2 : x_sl D 11 2 x H' = x_sl D 11 2 x H) (hsw : (x_sl D 11 0 x H' = some (.ref hd) ∧ x_sl D 11 1 x H' = some (.ref dr)) ∨ (x_sl D 11 0 x H' = some (.ref dr) ∧ x_sl D 11 1 x H' = some (.ref hd)))
    (ha : x_sl D 2 12 dr H' = x_sl D 2 12 hd H) (h2 : ∀ q, Y q = some 2 → q ≠ dr → x_sl D 2 12 q H' = x_sl D 2 12 q H) : z_Rc D Y' H' x a k l := by
  obtain ⟨hd', dr', kp, a1, a2, a3, b1, b2, b3, c1, e1, f, g⟩ := h
  cases a1.symm.trans hh
  cases a2.symm.trans hr
  have hk : ∀ j, y_at kp j H' = y_at kp j H := fun j => z_atk (y_Earr hE b3 rfl (z_nin hn))
  have hg : ∀ q : Nat, y_at kp 0 H' = some (.ref q) → y_at kp 1 H' = some (.ref q) → False := fun q => by rw [hk, hk]; exact g q
  have hf : ∀ j, j < 2 → z_kl D Y' H' hd dr kp (k j) (l j) j := fun j hj => by
    rcases f j hj with ⟨p1, p2⟩ | ⟨p1, q, q1, q2, q3, q4, q6⟩
    · exact Or.inl ⟨p1, by rw [hk]; exact p2⟩
    · exact Or.inr ⟨p1, q, by rw [hk]; exact q1, hm _ _ q2, q3, q4, by rw [h2 q q2 q4]; exact q6⟩
  rcases hsw with ⟨s1, s2⟩ | ⟨s1, s2⟩
  · exact ⟨hd, dr, kp, s1, s2, by rw [hf2]; exact a3, hm _ _ b1, hm _ _ b2, hm _ _ b3, c1, by rw [h2 hd b1 c1]; exact e1, hf, hg⟩
  · refine ⟨dr, hd, kp, s1, s2, by rw [hf2]; exact a3, hm _ _ b2, hm _ _ b1, hm _ _ b3, Ne.symm c1, by rw [ha]; exact e1, fun j hj => ?_, hg⟩
    rcases hf j hj with p | ⟨p1, q, q1, q2, q3, q4, q6⟩
    · exact Or.inl p
    · exact Or.inr ⟨p1, q, q1, q2, q4, q3, q6⟩
theorem z_Rc.fld {j : Nat} {v : Option Value} (h : ∀ j, j < 3 → x_sl D 11 j x H' = x_sl D 11 j x H) (hj : j < 3) (hv : x_sl D 11 j x H = v) : x_sl D 11 j x H' = v := by
  rw [h j hj]; exact hv
end ZR
/-- the reference's side: the third place of the book, of the images, and what is kept -/
def z_Rm (D : va_G) (Y : xY) (H : Heap) (x : Nat) (a : Int32) (k l : Nat → Int32) : Prop := ∃ bk im mk : Nat, x_sl D 12 0 x H = some (.ref bk) ∧ x_sl D 12 1 x H = some (.ref im) ∧ x_sl D 12 2 x H = some (.ref mk) ∧ Y bk = some 46 ∧ Y im = some 47 ∧ Y mk = some 48 ∧ y_at bk 2 H = some (.int a) ∧ ∀ j, j < 2 → y_at mk j H = some (.int (k j)) ∧ (¬ k j = 0 → y_at im (160 * j + 2) H = some (.int (l j)))
def z_nf (ef : List (Nat × Nat)) : Bool := !(x_ein ef 17 0) && (!(x_ein ef 17 1) && !(x_ein ef 17 2))
section ZM
variable {D : va_G} {Y Y' : xY} {H H' : Heap} {x : Nat} {a a' : Int32} {k l : Nat → Int32} {ef : List (Nat × Nat)}
theorem z_Rm.bk {bk : Nat} (h : z_Rm D Y H x a k l) (hb : x_sl D 12 0 x H = some (.ref bk)) : Y bk = some 46 ∧ y_at bk 2 H = some (.int a) := by
  obtain ⟨bk', im, mk, a1, a2, a3, b1, b2, b3, c1, f⟩ := h
  cases a1.symm.trans hb
  exact ⟨b1, c1⟩
/-- the book's third place may change, images and what is kept don't -/
theorem z_Rm.book (h : z_Rm D Y H x a k l) (hYx : Y x = some 17) (hE : x_E D x_G ef Y H H') (hm : ∀ q u, Y q = some u → Y' q = some u) (hn : (z_nf ef && (!(x_ein ef 47 0) && !(x_ein ef 48 0))) = true) (hb : ∀ bk : Nat, x_sl D 12 0 x H = some (.ref bk) → y_at bk 2 H' = some (.int a')) : z_Rm D Y' H' x a' k l := by
  simp only [z_nf, Bool.and_eq_true, Bool.not_eq_true'] at hn
  obtain ⟨⟨n0, n1, n2⟩, n3, n4⟩ := hn
  obtain ⟨bk, im, mk, a1, a2, a3, b1, b2, b3, c1, f⟩ := h
  refine ⟨bk, im, mk, y_Efld hE hYx rfl (by decide) (z_nin n0) a1, y_Efld hE hYx rfl (by decide) (z_nin n1) a2, y_Efld hE hYx rfl (by decide) (z_nin n2) a3, hm _ _ b1, hm _ _ b2, hm _ _ b3, hb bk a1, fun j hj => ⟨?_, fun hq => ?_⟩⟩
  · rw [z_atk (y_Earr hE b3 rfl (z_nin n4))]; exact (f j hj).1
  · rw [z_atk (y_Earr hE b2 rfl (z_nin n3))]; exact (f j hj).2 hq
/-- a call that leaves them all -/
theorem z_Rm.E (h : z_Rm D Y H x a k l) (hYx : Y x = some 17) (hE : x_E D x_G ef Y H H') (hm : ∀ q u, Y q = some u → Y' q = some u) (hn : ((z_nf ef && (!(x_ein ef 47 0) && !(x_ein ef 48 0))) && !(x_ein ef 46 0)) = true) : z_Rm D Y' H' x a k l := by
  rw [Bool.and_eq_true, Bool.not_eq_true'] at hn
  refine h.book hYx hE hm hn.1 (fun bk hb => ?_)
  have h1 := h.bk hb
  rw [z_atk (y_Earr hE h1.1 rfl (z_nin hn.2))]; exact h1.2
/-- a call that writes the book elsewhere -/
theorem z_Rm.K (h : z_Rm D Y H x a k l) (hYx : Y x = some 17) (hE : x_E D x_G ef Y H H') (hm : ∀ q u, Y q = some u → Y' q = some u) (hn : (z_nf ef && (!(x_ein ef 47 0) && !(x_ein ef 48 0))) = true) {av : List Value} {v : Option Value} {D' : va_G} {Y9 : xY} (hP : y_PK xc2 D' av Y H v Y9 H') : z_Rm D Y' H' x a k l := by
  refine h.book hYx hE hm hn (fun bk hb => ?_)
  have h1 := h.bk hb
  rw [hP bk 46 2 h1.1 (by decide)]; exact h1.2
end ZM
section ZG
variable {D : va_G} {Y Y' : xY} {H H' : Heap} {x : Nat} {a : Int32} {k l : Nat → Int32} {ef : List (Nat × Nat)}
/-- what the class's side stands on: its fields, the kept array, letters of lands -/
theorem z_Rc.fr (h : z_Rc D Y H x a k l) (hm : ∀ q u, u < 42 → Y q = some u → Y' q = some u) (h0 : ∀ j, j < 3 → x_sl D 11 j x H' = x_sl D 11 j x H) (h1 : ∀ q, Y q = some 41 → H'[q]? = H[q]?) (h2 : ∀ q, Y q = some 2 → x_sl D 2 12 q H' = x_sl D 2 12 q H) : z_Rc D Y' H' x a k l := by
  obtain ⟨hd, dr, kp, a1, a2, a3, b1, b2, b3, c1, e1, f, g⟩ := h
  have hk : ∀ j, y_at kp j H' = y_at kp j H := fun j => z_atk (h1 kp b3)
  refine ⟨hd, dr, kp, by rw [h0 0 (by decide)]; exact a1, by rw [h0 1 (by decide)]; exact a2, by rw [h0 2 (by decide)]; exact a3, hm _ _ (by decide) b1, hm _ _ (by decide) b2, hm _ _ (by decide) b3, c1, by rw [h2 hd b1]; exact e1, fun j hj => ?_, fun q => by rw [hk, hk]; exact g q⟩
  rcases f j hj with ⟨p1, p2⟩ | ⟨p1, q, q1, q2, q3, q4, q6⟩
  · exact Or.inl ⟨p1, by rw [hk]; exact p2⟩
  · exact Or.inr ⟨p1, q, by rw [hk]; exact q1, hm _ _ (by decide) q2, q3, q4, by rw [h2 q q2]; exact q6⟩
theorem z_Rc.grow (h : z_Rc D Y H x a k l) (hYx : Y x = some 0) (hm : ∀ q u, u < 42 → Y q = some u → Y' q = some u) (hke : ∀ q u, u < 42 → Y q = some u → H'[q]? = H[q]?) : z_Rc D Y' H' x a k l :=
  h.fr hm (fun _ _ => y_slk rfl (hke _ _ (by decide) hYx)) (fun _ hq => hke _ _ (by decide) hq) (fun _ hq => y_slk rfl (hke _ _ (by decide) hq))
theorem z_Rc.E2 (h : z_Rc D Y H x a k l) (hYx : Y x = some 0) (hE : x_E D x_G ef Y H H') (hm : ∀ q u, u < 42 ∧ u ≠ 18 → Y q = some u → Y' q = some u) (hn : (z_nc ef && !(x_ein ef 2 12)) = true) : z_Rc D Y' H' x a k l := by
  obtain ⟨hd, dr, kp, a1, a2, a3, b1, b2, b3, c1, e1, f, g⟩ := h
  simp only [z_nc, Bool.and_eq_true, Bool.not_eq_true'] at hn
  obtain ⟨⟨n0, n1, n2, n3⟩, n4⟩ := hn
  have hk : ∀ j, y_at kp j H' = y_at kp j H := fun j => z_atk (y_Earr hE b3 rfl (z_nin n3))
  have h2 : ∀ q, Y q = some 2 → x_sl D 2 12 q H' = x_sl D 2 12 q H := fun q hq => y_Efld hE hq rfl (by decide) (z_nin n4) rfl
  refine ⟨hd, dr, kp, y_Efld hE hYx rfl (by decide) (z_nin n0) a1, y_Efld hE hYx rfl (by decide) (z_nin n1) a2, y_Efld hE hYx rfl (by decide) (z_nin n2) a3, hm _ _ (by decide) b1, hm _ _ (by decide) b2, hm _ _ (by decide) b3, c1, by rw [h2 hd b1]; exact e1, fun j hj => ?_, fun q => by rw [hk, hk]; exact g q⟩
  rcases f j hj with ⟨p1, p2⟩ | ⟨p1, q, q1, q2, q3, q4, q6⟩
  · exact Or.inl ⟨p1, by rw [hk]; exact p2⟩
  · exact Or.inr ⟨p1, q, by rw [hk]; exact q1, hm _ _ (by decide) q2, q3, q4, by rw [h2 q q2]; exact q6⟩
end ZG
