/-! what the calls do to both sides -/
def z_fr8 (i : Int32) (f k : Nat → Int32) (l : Nat → Nat → Int32) : Int32 × (Nat → Int32) := if 0 ≤ i.toInt ∧ i.toInt ≤ 1 then (if k i.toInt.toNat = 0 then (-3, f) else (1, l i.toInt.toNat)) else (-2, f)
def z_iu8 (i : Int32) (k : Nat → Int32) : Nat → Int32 := if 0 ≤ i.toInt ∧ i.toInt ≤ 1 then y_up k i.toInt.toNat 1 else k
def z_il8 (i : Int32) (l : Nat → Nat → Int32) (f : Nat → Int32) : Nat → Nat → Int32 := if 0 ≤ i.toInt ∧ i.toInt ≤ 1 then (fun j => if j = i.toInt.toNat then f else l j) else l
def z_mi8 (h w : Int32) (f : Nat → Int32) : Int32 × (Nat → Int32) := if (0 ≤ h.toInt ∧ h.toInt ≤ 11) ∧ (0 ≤ w.toInt ∧ w.toInt ≤ 99) then (f h.toInt.toNat, y_up f h.toInt.toNat w) else (-2, f)
section ZL8
variable {D : va_G} {Y Y' Y9 : xY} {H H' : Heap} {x : Nat} {f k : Nat → Int32} {l : Nat → Nat → Int32} {ef : List (Nat × Nat)} {v : Option Value} {i h' w' : Int32}
theorem z_Sc.misL (h : z_Sc D Y H x f k l) (hYx : Y x = some 0) (hE : x_E D x_G ef Y H H') (hm : ∀ q u, Y q = some u → Y' q = some u) (hn : z_nc8 ef = true) (hP : z_Pmi8 D [.ref x, .int h', .int w'] Y H v Y9 H') : v = some (.int (z_mi8 h' w' f).1) ∧ z_Sc D Y' H' x (z_mi8 h' w' f).2 k l := by
  obtain ⟨hd, hq⟩ : ∃ hd : Nat, x_sl D 11 0 x H = some (.ref hd) := by
    obtain ⟨hd', dr, kp, mh, md, a1, -⟩ := h
    exact ⟨_, a1⟩
  obtain ⟨mh, h1, h2, h3, h4⟩ := h.hm hq
  obtain ⟨p1, p2, p3⟩ := hP x hd mh h' w' f rfl hq h1 h4
  unfold z_mi8
  by_cases hk : (0 ≤ h'.toInt ∧ h'.toInt ≤ 11) ∧ (0 ≤ w'.toInt ∧ w'.toInt ≤ 99)
  · rw [if_pos hk]
    exact ⟨(p3 hk).1, h.here hYx hE (fun q u _ _ => hm q u) hn hq h1 (p3 hk).2 p1⟩
  · rw [if_neg hk]
    exact ⟨(p2 hk).1, h.here hYx hE (fun q u _ _ => hm q u) hn hq h1 (p2 hk).2 p1⟩
theorem z_Sc.fromL (h : z_Sc D Y H x f k l) (hYx : Y x = some 0) (hE : x_E D x_G ef Y H H') (hm : ∀ q u, Y q = some u → Y' q = some u) (hn : z_nc8 ef = true) (hP : z_Pfm8 D [.ref x, .int i] Y H v Y9 H') : v = some (.int (z_fr8 i f k l).1) ∧ z_Sc D Y' H' x (z_fr8 i f k l).2 k l := by
  have h0 := h
  obtain ⟨hd, dr, kp, mh, md, a1, a2, a3, b1, b2, b3, d1, d2, d3, d4, c1, e1, g, u⟩ := h
  obtain ⟨p1, p2, p3, p4⟩ := hP x hd kp mh i rfl a1 a3 d1
  unfold z_fr8
  by_cases hi : 0 ≤ i.toInt ∧ i.toInt ≤ 1
  · rw [if_pos hi]
    rcases g i.toInt.toNat (by omega) with ⟨k0, k1⟩ | ⟨k0, q, mq, q1, q2, q3, q4, q5, q6, q7⟩
    · rw [if_pos k0]
      have p5 := p3 hi k1
      exact ⟨p5.1, h0.here hYx hE (fun q u _ _ => hm q u) hn a1 d1 (e1.kept p5.2) p1⟩
    · rw [if_neg k0]
      have p5 := p4 hi q mq q1 q3
      exact ⟨p5.1, h0.here hYx hE (fun q u _ _ => hm q u) hn a1 d1 (p5.2 _ q7) p1⟩
  · rw [if_neg hi]
    have p5 := p2 hi
    exact ⟨p5.1, h0.here hYx hE (fun q u _ _ => hm q u) hn a1 d1 (e1.kept p5.2) p1⟩
theorem z_Sc.imgL (h : z_Sc D Y H x f k l) (hlt : ∀ q u, Y q = some u → q < H.size) (hYx : Y x = some 0) (hE : x_E D x_G ef Y H H') (hm : ∀ q u, Y q = some u → Y' q = some u) (hn : (!(x_ein ef 0 0) && (!(x_ein ef 0 1) && (!(x_ein ef 0 2) && !(x_ein ef 2 11)))) = true) (hP : z_Pim8 D [.ref x, .int i] Y H v Y' H') : v = some (.int (if 0 ≤ i.toInt ∧ i.toInt ≤ 1 then 1 else -2)) ∧ z_Sc D Y' H' x f (z_iu8 i k) (z_il8 i l f) := by
  have h0 := h
  have hn0 := hn
  simp only [Bool.and_eq_true, Bool.not_eq_true'] at hn
  obtain ⟨n0, n1, n2, n4⟩ := hn
  obtain ⟨hd, dr, kp, mh, md, a1, a2, a3, b1, b2, b3, d1, d2, d3, d4, c1, e1, g, u⟩ := h
  obtain ⟨p1, p2⟩ := hP x hd kp mh i rfl a1 a3 d1
  unfold z_iu8 z_il8
  by_cases hi : 0 ≤ i.toInt ∧ i.toInt ≤ 1
  · rw [if_pos hi, if_pos hi, if_pos hi]
    obtain ⟨r1, q0, m0, r2, r3, r4, r5, r6, r7, r8, r9⟩ := p2 hi
    exact ⟨r1, h0.img (hd := hd) hlt hYx hE hn0 hm (by omega) a3 r2 r3 r4 r5 r9 r6 (r7 f e1) r8⟩
  · rw [if_neg hi, if_neg hi, if_neg hi]
    obtain ⟨r1, r2, r3⟩ := p1 hi
    have hf : ∀ q, Y q = some 2 → x_sl D 2 11 q H' = x_sl D 2 11 q H := fun q hq => y_Efld hE hq rfl (by decide) (z_nin8 n4) rfl
    refine ⟨r1, hd, dr, kp, mh, md, y_Efld hE hYx rfl (by decide) (z_nin8 n0) a1, y_Efld hE hYx rfl (by decide) (z_nin8 n1) a2, y_Efld hE hYx rfl (by decide) (z_nin8 n2) a3, hm _ _ b1, hm _ _ b2, hm _ _ b3, by rw [hf hd b1]; exact d1, by rw [hf dr b2]; exact d2, hm _ _ d3, hm _ _ d4, c1, e1.kept (r2 mh d3), fun j hj => ?_, fun q q' m g1 g2 g3 g4 => ?_⟩
    · rcases g j hj with ⟨s1, s2⟩ | ⟨s1, q, mq, q1, q2, q3, q4, q5, q6, q7⟩
      · exact Or.inl ⟨s1, by rw [r3 j hj]; exact s2⟩
      · exact Or.inr ⟨s1, q, mq, by rw [r3 j hj]; exact q1, hm _ _ q2, by rw [hf q q2]; exact q3, hm _ _ q4, q5, q6, q7.kept (r2 mq q4)⟩
    · rw [r3 0 (by decide)] at g1
      rw [r3 1 (by decide)] at g2
      have t1 : Y q = some 2 := by
        rcases g 0 (by decide) with ⟨-, p2⟩ | ⟨-, q9, mq, q1, q2, -⟩
        · rw [p2] at g1; cases g1
        · rw [q1] at g1; cases g1; exact q2
      have t2 : Y q' = some 2 := by
        rcases g 1 (by decide) with ⟨-, p2⟩ | ⟨-, q9, mq, q1, q2, -⟩
        · rw [p2] at g2; cases g2
        · rw [q1] at g2; cases g2; exact q2
      rw [hf q t1] at g3
      rw [hf q' t2] at g4
      exact u q q' m g1 g2 g3 g4
theorem z_Sc.landL (h : z_Sc D Y H x f k l) (hYx : Y x = some 0) (hE : x_E D x_G ef Y H H') (hm : ∀ q u, Y q = some u → Y' q = some u) (hn : (!(x_ein ef 0 2) && (!(x_ein ef 41 0) && !(x_ein ef 2 11))) = true) (hP : z_Ptl8 D [.ref x] Y H v Y9 H') : z_Sc D Y' H' x f k l := by
  rw [Bool.and_eq_true, Bool.not_eq_true'] at hn
  have h0 := h
  obtain ⟨hd, dr, kp, mh, md, a1, a2, a3, b1, b2, b3, d1, d2, -⟩ := h
  obtain ⟨p1, p2, p3⟩ := hP x hd dr mh md rfl a1 a2 d1 d2
  exact h0.land hE hm hn.2 a1 a2 d1 d2 (y_Efld hE hYx rfl (by decide) (z_nin8 hn.1) rfl) p1 p2 p3
theorem z_Sm.misL (h : z_Sm D Y H x f k l) (hYx : Y x = some 17) (hE : x_E D x_G ef Y H H') (hm : ∀ q u, Y q = some u → Y' q = some u) (hn : (z_nf8 ef && (!(x_ein ef 47 0) && !(x_ein ef 48 0))) = true) (hP : z_Pmm D [.ref x, .int h', .int w'] Y H v Y9 H') : v = some (.int (z_mi8 h' w' f).1) ∧ z_Sm D Y' H' x (z_mi8 h' w' f).2 k l := by
  obtain ⟨bk, hq⟩ : ∃ bk : Nat, x_sl D 12 0 x H = some (.ref bk) := by
    obtain ⟨bk, im, mk, a1, -⟩ := h
    exact ⟨_, a1⟩
  obtain ⟨p1, p2⟩ := hP x bk h' w' f rfl hq (h.bk hq).2
  unfold z_mi8
  by_cases hk : (0 ≤ h'.toInt ∧ h'.toInt ≤ 11) ∧ (0 ≤ w'.toInt ∧ w'.toInt ≤ 99)
  · rw [if_pos hk]
    exact ⟨(p2 hk).1, h.book hYx hE hm hn (fun b' hb' => by cases hb'.symm.trans hq; exact (p2 hk).2)⟩
  · rw [if_neg hk]
    exact ⟨(p1 hk).1, h.book hYx hE hm hn (fun b' hb' => by cases hb'.symm.trans hq; exact (p1 hk).2)⟩
theorem z_Sm.landL (h : z_Sm D Y H x f k l) (hYx : Y x = some 17) (hE : x_E D x_G ef Y H H') (hm : ∀ q u, Y q = some u → Y' q = some u) (hn : (z_nf8 ef && (!(x_ein ef 47 0) && !(x_ein ef 48 0))) = true) (hP : z_Pmd8 D [.ref x] Y H v Y9 H') : z_Sm D Y' H' x f k l :=
  h.book hYx hE hm hn (fun b' hb' => hP x b' f rfl hb' (h.bk hb').2)
theorem z_Sm.fromL (h : z_Sm D Y H x f k l) (hYx : Y x = some 17) (hE : x_E D x_G ef Y H H') (hm : ∀ q u, Y q = some u → Y' q = some u) (hn : (z_nf8 ef && (!(x_ein ef 47 0) && !(x_ein ef 48 0))) = true) (hP : z_Pmr8 D [.ref x, .int i] Y H v Y9 H') : v = some (.int (z_fr8 i f k l).1) ∧ z_Sm D Y' H' x (z_fr8 i f k l).2 k l := by
  have h0 := h
  obtain ⟨bk, im, mk, a1, a2, a3, b1, b2, b3, c1, g⟩ := h
  unfold z_fr8
  by_cases hi : 0 ≤ i.toInt ∧ i.toInt ≤ 1
  · rw [if_pos hi]
    have hg := g i.toInt.toNat (by omega)
    have hp := (hP x bk im mk i _ rfl a1 a2 a3).2 hi hg.1
    by_cases hk : k i.toInt.toNat = 0
    · rw [if_pos hk]
      have p5 := hp.1 hk
      exact ⟨p5.1, h0.book hYx hE hm hn (fun b' hb' => by cases hb'.symm.trans a1; exact p5.2 _ c1)⟩
    · rw [if_neg hk]
      have p5 := hp.2 hk
      exact ⟨p5.1, h0.book hYx hE hm hn (fun b' hb' => by cases hb'.symm.trans a1; exact p5.2 _ (hg.2 hk))⟩
  · rw [if_neg hi]
    have p5 := (hP x bk im mk i 0 rfl a1 a2 a3).1 hi
    exact ⟨p5.1, h0.book hYx hE hm hn (fun b' hb' => by cases hb'.symm.trans a1; exact p5.2 _ c1)⟩
theorem z_Sm.imgL (h : z_Sm D Y H x f k l) (hYx : Y x = some 17) (hE : x_E D x_G ef Y H H') (hm : ∀ q u, Y q = some u → Y' q = some u) (hn : (z_nf8 ef && !(x_ein ef 46 0)) = true) (hP : z_Pmj8 D [.ref x, .int i] Y H v Y9 H') : v = some (.int (if 0 ≤ i.toInt ∧ i.toInt ≤ 1 then 1 else -2)) ∧ z_Sm D Y' H' x f (z_iu8 i k) (z_il8 i l f) := by
  simp only [z_nf8, Bool.and_eq_true, Bool.not_eq_true'] at hn
  obtain ⟨⟨n0, n1, n2⟩, n3⟩ := hn
  obtain ⟨bk, im, mk, a1, a2, a3, b1, b2, b3, c1, g⟩ := h
  obtain ⟨p1, p2⟩ := hP x bk im mk i rfl a1 a2 a3
  have hbk : z_M bk 116 H' f := z_MK c1 (y_Earr hE b1 rfl (z_nin8 n3))
  unfold z_iu8 z_il8
  by_cases hi : 0 ≤ i.toInt ∧ i.toInt ≤ 1
  · rw [if_pos hi, if_pos hi, if_pos hi]
    obtain ⟨r1, r2, r3, r4⟩ := p2 hi
    refine ⟨r1, bk, im, mk, y_Efld hE hYx rfl (by decide) (z_nin8 n0) a1, y_Efld hE hYx rfl (by decide) (z_nin8 n1) a2, y_Efld hE hYx rfl (by decide) (z_nin8 n2) a3, hm _ _ b1, hm _ _ b2, hm _ _ b3, hbk, fun j hj => ?_⟩
    by_cases ej : j = i.toInt.toNat
    · subst ej
      dsimp only
      rw [y_up_at, if_pos rfl]
      exact ⟨r2, fun _ => r3 f c1⟩
    · dsimp only
      rw [y_up_ne ej, if_neg ej]
      have p5 := r4 j hj ej
      exact ⟨p5.1.trans (g j hj).1, fun h9 => p5.2 _ ((g j hj).2 h9)⟩
  · rw [if_neg hi, if_neg hi, if_neg hi]
    obtain ⟨r1, r2⟩ := p1 hi
    exact ⟨r1, bk, im, mk, y_Efld hE hYx rfl (by decide) (z_nin8 n0) a1, y_Efld hE hYx rfl (by decide) (z_nin8 n1) a2, y_Efld hE hYx rfl (by decide) (z_nin8 n2) a3, hm _ _ b1, hm _ _ b2, hm _ _ b3, hbk, fun j hj => ⟨(r2 j hj).1.trans (g j hj).1, fun h9 => (r2 j hj).2 _ ((g j hj).2 h9)⟩⟩
end ZL8
