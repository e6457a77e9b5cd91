/-! what the calls do to both sides -/
def z_fr (i a : Int32) (k l : Nat → Int32) : Int32 × Int32 := if 0 ≤ i.toInt ∧ i.toInt ≤ 1 then (if k i.toInt.toNat = 0 then (-3, a) else (1, l i.toInt.toNat)) else (-2, a)
def z_iu (i : Int32) (f : Nat → Int32) (v : Int32) : Nat → Int32 := if 0 ≤ i.toInt ∧ i.toInt ≤ 1 then y_up f i.toInt.toNat v else f
section ZL
variable {D : va_G} {Y Y' Y9 : xY} {H H' : Heap} {x : Nat} {a : Int32} {k l : Nat → Int32} {ef : List (Nat × Nat)} {v : Option Value} {i n : Int32}
theorem z_Rc.letL (h : z_Rc D Y H x a k l) (hYx : Y x = some 0) (hE : x_E D x_G ef Y H H') (hm : ∀ q u, Y q = some u → Y' q = some u) (hn : z_nc ef = true) (hP : z_Ple D [.ref x, .int n] Y H v Y9 H') : ∃ r a' : Int32, v = some (.int r) ∧ z_Rc D Y' H' x a' k l ∧ z_let n a r a' := by
  obtain ⟨hd, hq⟩ : ∃ hd : Nat, x_sl D 11 0 x H = some (.ref hd) := by
    obtain ⟨hd', dr, kp, a1, -⟩ := h
    exact ⟨_, a1⟩
  obtain ⟨r, a', p1, p2, p3, p4⟩ := hP x hd n a rfl hq (h.tag hq).2
  exact ⟨r, a', p1, h.here hYx hE hm hn hq p2 p3, p4⟩
theorem z_Rc.unwL (h : z_Rc D Y H x a k l) (hYx : Y x = some 0) (hE : x_E D x_G ef Y H H') (hm : ∀ q u, Y q = some u → Y' q = some u) (hn : z_nc ef = true) (hP : z_Pun D [.ref x] Y H v Y9 H') : v = some (.int a) ∧ z_Rc D Y' H' x 0 k l := by
  obtain ⟨hd, hq⟩ : ∃ hd : Nat, x_sl D 11 0 x H = some (.ref hd) := by
    obtain ⟨hd', dr, kp, a1, -⟩ := h
    exact ⟨_, a1⟩
  obtain ⟨p1, p2, p3⟩ := hP x hd a rfl hq (h.tag hq).2
  exact ⟨p1, h.here hYx hE hm hn hq p2 p3⟩
theorem z_Rc.fromL (h : z_Rc D Y H x a k l) (hYx : Y x = some 0) (hE : x_E D x_G ef Y H H') (hm : ∀ q u, Y q = some u → Y' q = some u) (hn : z_nc ef = true) (hP : z_Pfm D [.ref x, .int i] Y H v Y9 H') : v = some (.int (z_fr i a k l).1) ∧ z_Rc D Y' H' x (z_fr i a k l).2 k l := by
  have h0 := h
  obtain ⟨hd, dr, kp, a1, a2, a3, b1, b2, b3, c1, e1, f, g⟩ := h
  obtain ⟨p1, p2, p3, p4⟩ := hP x hd kp i rfl a1 a3
  unfold z_fr
  by_cases hi : 0 ≤ i.toInt ∧ i.toInt ≤ 1
  · rw [if_pos hi]
    rcases f i.toInt.toNat (by omega) with ⟨k0, k1⟩ | ⟨k0, q, q1, q2, q3, q4, q6⟩
    · rw [if_pos k0]
      have p5 := p3 hi k1
      exact ⟨p5.1, h0.here hYx hE hm hn a1 (by rw [p5.2]; exact e1) p1⟩
    · rw [if_neg k0]
      have p5 := p4 hi q q1
      exact ⟨p5.1, h0.here hYx hE hm hn a1 (by rw [p5.2]; exact q6) p1⟩
  · rw [if_neg hi]
    have p5 := p2 hi
    exact ⟨p5.1, h0.here hYx hE hm hn a1 (by rw [p5.2]; exact e1) p1⟩
theorem z_h0 (hYx : Y x = some 0) (hE : x_E D x_G ef Y H H') (hn : (!(x_ein ef 0 0) && (!(x_ein ef 0 1) && !(x_ein ef 0 2))) = true) : ∀ j, j < 3 → x_sl D 11 j x H' = x_sl D 11 j x H := by
  simp only [Bool.and_eq_true, Bool.not_eq_true'] at hn
  intro j hj
  rcases (by omega : j = 0 ∨ j = 1 ∨ j = 2) with rfl | rfl | rfl
  · exact y_Efld hE hYx rfl (by decide) (z_nin hn.1) rfl
  · exact y_Efld hE hYx rfl (by decide) (z_nin hn.2.1) rfl
  · exact y_Efld hE hYx rfl (by decide) (z_nin hn.2.2) rfl
theorem z_Rc.imgL (h : z_Rc D Y H x a k l) (hlt : ∀ q u, Y q = some u → q < H.size) (hYx : Y x = some 0) (hE : x_E D x_G ef Y H H') (hm : ∀ q u, Y q = some u → Y' q = some u) (hn : (!(x_ein ef 0 0) && (!(x_ein ef 0 1) && !(x_ein ef 0 2))) = true) (hP : z_Pim D [.ref x, .int i] Y H v Y' H') : v = some (.int (if 0 ≤ i.toInt ∧ i.toInt ≤ 1 then 1 else -2)) ∧ z_Rc D Y' H' x a (z_iu i k 1) (z_iu i l a) := by
  have h0 := h
  have hf := z_h0 hYx hE hn
  obtain ⟨hd, dr, kp, a1, a2, a3, b1, b2, b3, c1, e1, f, g⟩ := h
  obtain ⟨p1, p2⟩ := hP x hd kp i rfl a1 a3
  unfold z_iu
  by_cases hi : 0 ≤ i.toInt ∧ i.toInt ≤ 1
  · rw [if_pos hi, if_pos hi, if_pos hi]
    obtain ⟨r1, q0, r2, r3, r4, r5, r6, r7⟩ := p2 hi
    exact ⟨r1, h0.img hlt hYx hf hm (by omega) a1 a3 r2 r3 r7 r4 r5 r6⟩
  · rw [if_neg hi, if_neg hi, if_neg hi]
    obtain ⟨r1, r2, r3⟩ := p1 hi
    refine ⟨r1, hd, dr, kp, z_Rc.fld hf (by decide) a1, z_Rc.fld hf (by decide) a2, z_Rc.fld hf (by decide) a3, hm _ _ b1, hm _ _ b2, hm _ _ b3, c1, by rw [r2 hd b1]; exact e1, fun j hj => ?_, fun q => by rw [r3 0 (by decide), r3 1 (by decide)]; exact g q⟩
    rcases f j hj with ⟨s1, s2⟩ | ⟨s1, q, q1, q2, q3, q4, q6⟩
    · exact Or.inl ⟨s1, by rw [r3 j hj]; exact s2⟩
    · exact Or.inr ⟨s1, q, by rw [r3 j hj]; exact q1, hm _ _ q2, q3, q4, by rw [r2 q q2]; exact q6⟩
theorem z_Rc.landL (h : z_Rc D Y H x a k l) (hYx : Y x = some 0) (hE : x_E D x_G ef Y H H') (hm : ∀ q u, Y q = some u → Y' q = some u) (hn : (!(x_ein ef 0 2) && !(x_ein ef 41 0)) = true) (hP : z_Ptl D [.ref x] Y H v Y9 H') : z_Rc D Y' H' x a k l := by
  simp only [Bool.and_eq_true, Bool.not_eq_true'] at hn
  have h0 := h
  obtain ⟨hd, dr, kp, a1, a2, a3, -⟩ := h
  obtain ⟨p1, p2, p3⟩ := hP x hd dr rfl a1 a2
  exact h0.land hE hm hn.2 a1 a2 (y_Efld hE hYx rfl (by decide) (z_nin hn.1) rfl) p1 p2 p3
theorem z_Rm.letL (h : z_Rm D Y H x a k l) (hYx : Y x = some 17) (hE : x_E D x_G ef Y H H') (hm : ∀ q u, Y q = some u → Y' q = some u) (hn : (z_nf ef && (!(x_ein ef 47 0) && !(x_ein ef 48 0))) = true) (hP : z_Pml D [.ref x, .int n] Y H v Y9 H') : ∃ r a' : Int32, v = some (.int r) ∧ z_Rm D Y' H' x a' k l ∧ z_let n a r a' := by
  obtain ⟨bk, hq⟩ : ∃ bk : Nat, x_sl D 12 0 x H = some (.ref bk) := by
    obtain ⟨bk, im, mk, a1, -⟩ := h
    exact ⟨_, a1⟩
  obtain ⟨r, a', p1, p2, p3⟩ := hP x bk n a rfl hq (h.bk hq).2
  exact ⟨r, a', p1, h.book hYx hE hm hn (fun b' hb' => by cases hb'.symm.trans hq; exact p2), p3⟩
theorem z_Rm.unwL (h : z_Rm D Y H x a k l) (hYx : Y x = some 17) (hE : x_E D x_G ef Y H H') (hm : ∀ q u, Y q = some u → Y' q = some u) (hn : (z_nf ef && (!(x_ein ef 47 0) && !(x_ein ef 48 0))) = true) (hP : z_Pmu D [.ref x] Y H v Y9 H') : v = some (.int a) ∧ z_Rm D Y' H' x 0 k l := by
  obtain ⟨bk, hq⟩ : ∃ bk : Nat, x_sl D 12 0 x H = some (.ref bk) := by
    obtain ⟨bk, im, mk, a1, -⟩ := h
    exact ⟨_, a1⟩
  obtain ⟨p1, p2⟩ := hP x bk a rfl hq (h.bk hq).2
  exact ⟨p1, h.book hYx hE hm hn (fun b' hb' => by cases hb'.symm.trans hq; exact p2)⟩
theorem z_Rm.landL (h : z_Rm D Y H x a k l) (hYx : Y x = some 17) (hE : x_E D x_G ef Y H H') (hm : ∀ q u, Y q = some u → Y' q = some u) (hn : (z_nf ef && (!(x_ein ef 47 0) && !(x_ein ef 48 0))) = true) (hP : z_Pmd D [.ref x] Y H v Y9 H') : z_Rm D Y' H' x a k l := by
  refine h.book hYx hE hm hn (fun b' hb' => ?_)
  rw [hP x b' rfl hb']
  exact (h.bk hb').2
theorem z_Rm.fromL (h : z_Rm D Y H x a k l) (hYx : Y x = some 17) (hE : x_E D x_G ef Y H H') (hm : ∀ q u, Y q = some u → Y' q = some u) (hn : (z_nf ef && (!(x_ein ef 47 0) && !(x_ein ef 48 0))) = true) (hP : z_Pmr D [.ref x, .int i] Y H v Y9 H') : v = some (.int (z_fr i a k l).1) ∧ z_Rm D Y' H' x (z_fr i a k l).2 k l := by
  have h0 := h
  obtain ⟨bk, im, mk, a1, a2, a3, b1, b2, b3, c1, f⟩ := h
  unfold z_fr
  by_cases hi : 0 ≤ i.toInt ∧ i.toInt ≤ 1
  · rw [if_pos hi]
    have hf := f i.toInt.toNat (by omega)
    have hp := (hP x bk im mk i _ rfl a1 a2 a3).2 hi hf.1
    by_cases hk : k i.toInt.toNat = 0
    · rw [if_pos hk]
      have p5 := hp.1 hk
      exact ⟨p5.1, h0.book hYx hE hm hn (fun b' hb' => by cases hb'.symm.trans a1; rw [p5.2]; exact c1)⟩
    · rw [if_neg hk]
      have p5 := hp.2 hk
      exact ⟨p5.1, h0.book hYx hE hm hn (fun b' hb' => by cases hb'.symm.trans a1; rw [p5.2]; exact hf.2 hk)⟩
  · rw [if_neg hi]
    have p5 := (hP x bk im mk i 0 rfl a1 a2 a3).1 hi
    exact ⟨p5.1, h0.book hYx hE hm hn (fun b' hb' => by cases hb'.symm.trans a1; rw [p5.2]; exact c1)⟩
theorem z_Rm.imgL (h : z_Rm D Y H x a k l) (hYx : Y x = some 17) (hE : x_E D x_G ef Y H H') (hm : ∀ q u, Y q = some u → Y' q = some u) (hn : (z_nf ef && !(x_ein ef 46 0)) = true) (hP : z_Pmj D [.ref x, .int i] Y H v Y9 H') : v = some (.int (if 0 ≤ i.toInt ∧ i.toInt ≤ 1 then 1 else -2)) ∧ z_Rm D Y' H' x a (z_iu i k 1) (z_iu i l a) := by
  simp only [z_nf, Bool.and_eq_true, Bool.not_eq_true'] at hn
  obtain ⟨⟨n0, n1, n2⟩, n3⟩ := hn
  obtain ⟨bk, im, mk, a1, a2, a3, b1, b2, b3, c1, f⟩ := h
  obtain ⟨p1, p2⟩ := hP x bk im mk i rfl a1 a2 a3
  have hbk : y_at bk 2 H' = some (.int a) := by rw [z_atk (y_Earr hE b1 rfl (z_nin n3))]; exact c1
  unfold z_iu
  by_cases hi : 0 ≤ i.toInt ∧ i.toInt ≤ 1
  · rw [if_pos hi, if_pos hi, if_pos hi]
    obtain ⟨r1, r2, r3, r4⟩ := p2 hi
    refine ⟨r1, bk, im, mk, y_Efld hE hYx rfl (by decide) (z_nin n0) a1, y_Efld hE hYx rfl (by decide) (z_nin n1) a2, y_Efld hE hYx rfl (by decide) (z_nin n2) a3, hm _ _ b1, hm _ _ b2, hm _ _ b3, hbk, fun j hj => ?_⟩
    by_cases ej : j = i.toInt.toNat
    · subst ej
      rw [y_up_at, y_up_at]
      exact ⟨r2, fun _ => r3.trans c1⟩
    · rw [y_up_ne ej, y_up_ne ej]
      have p5 := r4 j hj ej
      exact ⟨p5.1.trans (f j hj).1, fun h9 => p5.2.trans ((f j hj).2 h9)⟩
  · rw [if_neg hi, if_neg hi, if_neg hi]
    obtain ⟨r1, r2⟩ := p1 hi
    exact ⟨r1, bk, im, mk, y_Efld hE hYx rfl (by decide) (z_nin n0) a1, y_Efld hE hYx rfl (by decide) (z_nin n1) a2, y_Efld hE hYx rfl (by decide) (z_nin n2) a3, hm _ _ b1, hm _ _ b2, hm _ _ b3, hbk, fun j hj => ⟨(r2 j hj).1.trans (f j hj).1, fun h9 => (r2 j hj).2.trans ((f j hj).2 h9)⟩⟩
end ZL
