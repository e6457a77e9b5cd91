/-! what is done stays 0 or 1 -/
section MI
variable {f g : Nat → Int32} {r : Int32}
theorem m_hill.i01 {x y h : Int32} (hb : (f 0).toInt ≤ 10) (h0 : m_01 f) (hm : m_hill f x y h r g) : m_01 g := by
  by_cases ho : m_hOk f x y h
  · by_cases h1 : (f 0).toInt = 10
    · rw [(hm.2.1 ho h1).2]; exact h0
    · rw [(hm.2.2 ho (by omega)).2]
      unfold m_hUp
      exact (((((h0.ne (fun j hj => by omega)).ne (fun j hj => by omega)).ne (fun j hj => by omega)).ne (fun j hj => by omega)).ne (fun j hj => by omega)).ne (fun j hj => by omega)
  · rw [(hm.1 ho).2]; exact h0
theorem m_thing.i01 {k x y h w : Int32} (hb : (f 1).toInt ≤ 8) (h0 : m_01 f) (hm : m_thing f k x y h w r g) : m_01 g := by
  by_cases ho : m_tOk k x y h w
  · by_cases h1 : (f 1).toInt = 8
    · rw [(hm.2.1 ho h1).2]; exact h0
    · rw [(hm.2.2 ho (by omega)).2]
      unfold m_tUp
      exact (((((((h0.ne (fun j hj => by omega)).ne (fun j hj => by omega)).ne (fun j hj => by omega)).ne (fun j hj => by omega)).ne (fun j hj => by omega)).up (fun j hj _ => Or.inl rfl)).ne (fun j hj => by omega)).ne (fun j hj => by omega)
  · rw [(hm.1 ho).2]; exact h0
theorem m_put.i01 {w v : Int32} (h0 : m_01 f) (hm : m_put f w v r g) : m_01 g := by
  by_cases ho : m_pOk w v
  · rw [(hm.2 ho).2]
    exact h0.ne (fun j hj => by unfold m_pOk at ho; omega)
  · rw [(hm.1 ho).2]; exact h0
theorem m_at.i01 {ok : Prop} {bad : Int32} {p : Nat} {v : Int32} (hp : ok → ∀ j, j < 8 → p ≠ 65 + 7 * j) (h0 : m_01 f) (hm : m_at ok bad f p v r g) : m_01 g := by
  by_cases ho : ok
  · rw [(hm.2 ho).2]; exact h0.ne (hp ho)
  · rw [(hm.1 ho).2]; exact h0
theorem m_let.i01 {n : Int32} (hb : (f 2).toInt ≤ 8) (h0 : m_01 f) (hm : m_let f n r g) : m_01 g := by
  by_cases ho : 0 ≤ n.toInt ∧ n.toInt ≤ 9
  · by_cases h1 : (f 2).toInt = 8
    · rw [(hm.2.1 ho h1).2]; exact h0
    · rw [(hm.2.2 ho (by omega)).2]
      exact (h0.ne (fun j hj => by omega)).ne (fun j hj => by omega)
  · rw [(hm.1 ho).2]; exact h0
theorem m_el.i01 {t h w : Int32} (h0 : m_01 f) (hm : m_el f t h w r g) : m_01 g := by
  by_cases ho : m_elOk f t h w
  · rw [(hm.2 ho).2]
    exact (h0.ne (fun j hj => by omega)).ne (fun j hj => by omega)
  · rw [(hm.1 ho).2]; exact h0
theorem m_work.i01 {t d : Int32} (hd : d = 0 ∨ d = 1) (h0 : m_01 f) (hm : m_work f t d r g) : m_01 g := by
  by_cases ho : m_wOk f t
  · by_cases h1 : f (65 + 7 * t.toInt.toNat) = d
    · rw [(hm.2.1 ho h1).2]; exact h0
    · rw [(hm.2.2 ho h1).2]; exact h0.up (fun _ _ _ => hd)
  · rw [(hm.1 ho).2]; exact h0
theorem m_tell.i01 {t : Nat → Int32} {n p : Nat} (hb : m_bd f) (h0 : m_01 f) (h : m_tell t n p f r g) : m_01 g := by
  by_cases h1 : t_it t n p = 0
  · exact (h.1 h1).i01 hb.1 h0
  by_cases h2 : t_it t n p ≤ 6
  · exact (h.2.1 (by omega) h2).i01 hb.2 h0
  · exact (h.2.2 (by omega)).i01 h0
theorem m_beg.i01 (h0 : m_01 f) : m_01 (m_beg f) := by
  unfold m_beg
  exact ((((h0.ne (fun j hj => by omega)).ne (fun j hj => by omega)).ne (fun j hj => by omega)).ne (fun j hj => by omega)).ne (fun j hj => by omega)
theorem m_seq.i01 {t : Nat → Int32} {n : Nat} (h0 : m_01 f) : ∀ (i : Nat) (g : Nat → Int32), m_seq t n f i g → m_01 g := by
  intro i
  induction i with
  | zero => intro g h; rw [show g = f from h]; exact h0
  | succ i ih =>
    rintro g ⟨h, r, h1, h2, h3, -⟩
    exact h3.i01 h2 (ih h h1)
theorem m_land.i01 {t : Nat → Int32} {n : Nat} (h0 : m_01 f) (h : m_land t n f r g) : m_01 g := by
  obtain ⟨N, c, q, a1, a2, a3⟩ := h
  have hc : c = 0 ∨ c = 2 := by
    have h1 := a1.2.2
    have h2 := t_nx_c (t := t) (n := n) (p := t_ip t n N)
    rw [a1.2.1] at h2
    dsimp only at h2
    omega
  rcases hc with rfl | rfl
  · rcases a3 rfl with ⟨a4, -⟩ | ⟨k, -, -, -, e⟩
    · exact m_seq.i01 (m_beg.i01 h0) N g a4
    · rw [e]; exact h0
  · rw [(a2 rfl).2]; exact h0
def m_inv (f : Nat → Int32) (K : Nat → Option (Nat → Int32)) : Prop := m_01 f ∧ ∀ i g, i < 2 → K i = some g → m_01 g
theorem m_from.inv {K : Nat → Option (Nat → Int32)} {i : Int32} (h0 : m_inv f K) (hm : m_from f K i r g) : m_01 g := by
  by_cases ho : 0 ≤ i.toInt ∧ i.toInt ≤ 1
  · cases hK : K i.toInt.toNat with
    | none => rw [(hm.2.1 ho hK).2]; exact h0.1
    | some h => rw [(hm.2.2 ho h hK).2]; exact h0.2 _ h (by omega) hK
  · rw [(hm.1 ho).2]; exact h0.1
theorem m_imgK.inv {K : Nat → Option (Nat → Int32)} {i : Int32} (h0 : m_inv f K) : m_inv f (m_imgK f K i) := ⟨h0.1, fun j g hj h => by
  unfold m_imgK at h
  by_cases e : (0 ≤ i.toInt ∧ i.toInt ≤ 1) ∧ j = i.toInt.toNat
  · rw [if_pos e] at h; cases h; exact h0.1
  · rw [if_neg e] at h; exact h0.2 j g hj h⟩
theorem m_inv0 : m_inv m_row0 (fun _ => none) := ⟨fun j hj => Or.inl (by have h9 : ∀ j, j < 8 → m_row0 (65 + 7 * j) = 0 := (by decide); exact h9 j hj), fun i g _ h => by cases h⟩
end MI
section ZW
variable {D : va_G} {Y Y' Y9 : xY} {H H' : Heap} {x q : Nat} {f g t : Nat → Int32} {K : Nat → Option (Nat → Int32)} {n : Int32} {ef : List (Nat × Nat)} {v : Option Value}
theorem z_RC.zc (h : z_RC D Y H x f K t n) : z_c f := by
  obtain ⟨hd, dr, kp, tx, by_, k, -, -, l1, -⟩ := h
  exact fun p hp => l1.2.2.2 p (by unfold z_np; rw [decide_eq_true hp]; simp)
theorem z_RC.bd {Zs : List xZ} {U : State} (h : z_RC D Y H x f K t n) (hH : x_H D x_G Zs U Y H) : (f 0).toInt ≤ 10 ∧ (f 1).toInt ≤ 8 ∧ (f 2).toInt ≤ 8 := by
  obtain ⟨hd, dr, kp, tx, by_, k, -, ⟨b1, -⟩, l1, -⟩ := h
  obtain ⟨x9, e9, b9⟩ := y_fldI (k := 0) hH b1 rfl rfl
  rw [l1.1.1] at e9
  cases e9
  obtain ⟨x8, e8, b8⟩ := y_fldI (k := 6) hH b1 rfl rfl
  rw [l1.1.2.1] at e8
  cases e8
  obtain ⟨x7, e7, b7⟩ := y_fldI (k := 12) hH b1 rfl rfl
  rw [l1.1.2.2] at e7
  cases e7
  exact ⟨b9.2, b8.2, b7.2⟩
theorem z_RM.bk (h : z_RM D Y H x f K t n) : ∃ bk : Nat, x_sl D 12 0 x H = some (.ref bk) ∧ z_c f ∧ y_A bk 160 H f := by
  obtain ⟨bk, im, kp, tx, ⟨a1, -⟩, -, c1, c2, -⟩ := h
  exact ⟨bk, a1, c1, c2⟩
/-- the text was written -/
theorem z_RM.text {t' : Nat → Int32} {n' : Int32} (h : z_RM D Y H x f K t n) (hq : Y x = some 17) (hE : x_E D x_G ef Y H H') (hm : ∀ b u, Y b = some u → Y' b = some u) (hn : (z_nmF ef && (!(x_ein ef 46 0) && (!(x_ein ef 47 0) && !(x_ein ef 48 0)))) = true) (ht : t_c t') (h1 : x_sl D 12 10 x H' = some (.int n')) (h2 : ∀ tx : Nat, x_sl D 12 9 x H = some (.ref tx) → y_A tx 240 H' t') : z_RM D Y' H' x f K t' n' := by
  simp only [z_nmF, Bool.and_eq_true, Bool.not_eq_true'] at hn
  obtain ⟨⟨n1, n2, n3, n4⟩, n5, n6, n7⟩ := hn
  obtain ⟨bk, im, kp, tx, ⟨a1, a2, a3, a4, a5⟩, ⟨b1, b2, b3, b4⟩, c1, c2, kk, tc, ta⟩ := h
  have him := y_Earr hE b2 rfl (z_ninR n6)
  have hkp := y_Earr hE b3 rfl (z_ninR n7)
  refine ⟨bk, im, kp, tx, ⟨y_Efld hE hq rfl (by decide) (z_ninR n1) a1, y_Efld hE hq rfl (by decide) (z_ninR n2) a2, y_Efld hE hq rfl (by decide) (z_ninR n3) a3, y_Efld hE hq rfl (by decide) (z_ninR n4) a4, h1⟩, ⟨hm _ _ b1, hm _ _ b2, hm _ _ b3, hm _ _ b4⟩, c1, c2.kept (y_Earr hE b1 rfl (z_ninR n5)), fun i hi => ?_, ht, h2 tx a4⟩
  rcases kk i hi with ⟨e1, e2⟩ | ⟨g9, e1, e2, e3, e4⟩
  · exact Or.inl ⟨e1, by rw [z_atk hkp]; exact e2⟩
  · exact Or.inr ⟨g9, e1, e2, by rw [z_atk hkp]; exact e3, fun j hj => by rw [z_atk him]; exact e4 j hj⟩
/-- the reference's image and from over what is kept -/
theorem z_RM.img {Zs : List xZ} {U : State} {i : Int32} (h : z_RM D Y H x f K t n) (hH : x_H D x_G Zs U Y H) (hq : Y x = some 17) (hE : x_E D x_G ef Y H H') (hm : ∀ b u, Y b = some u → Y' b = some u) (hn : (z_nmF ef && (!(x_ein ef 17 10) && !(x_ein ef 52 0))) = true) (hP : z_PimX D [.ref x, .int i] Y H v Y9 H') : v = some (.int (m_imgR i)) ∧ z_RM D Y' H' x f (m_imgK f K i) t n := by
  simp only [z_nmF, Bool.and_eq_true, Bool.not_eq_true'] at hn
  obtain ⟨⟨n1, n2, n3, n4⟩, n5, n6⟩ := hn
  obtain ⟨bk, im, kp, tx, ⟨a1, a2, a3, a4, a5⟩, ⟨b1, b2, b3, b4⟩, c1, c2, kk, tc, ta⟩ := h
  obtain ⟨fi, hfi, -⟩ := y_arr hH b2 rfl rfl
  obtain ⟨fk, hfk, -⟩ := y_arr hH b3 rfl rfl
  obtain ⟨p1, p2, p3, p4⟩ := hP x bk im kp i f fi fk rfl a1 a2 a3 c1 c2 hfi hfk
  refine ⟨p1, bk, im, kp, tx, ⟨y_Efld hE hq rfl (by decide) (z_ninR n1) a1, y_Efld hE hq rfl (by decide) (z_ninR n2) a2, y_Efld hE hq rfl (by decide) (z_ninR n3) a3, y_Efld hE hq rfl (by decide) (z_ninR n4) a4, y_Efld hE hq rfl (by decide) (z_ninR n5) a5⟩, ⟨hm _ _ b1, hm _ _ b2, hm _ _ b3, hm _ _ b4⟩, c1, p2, fun j hj => ?_, tc, ta.kept (y_Earr hE b4 rfl (z_ninR n6))⟩
  have same : y_at kp j H' = y_at kp j H → (∀ k, k < 160 → y_at im (160 * j + k) H' = y_at im (160 * j + k) H) → (K j = none ∧ y_at kp j H' = some (.int 0)) ∨ ∃ g, K j = some g ∧ z_c g ∧ y_at kp j H' = some (.int 1) ∧ ∀ k, k < 160 → y_at im (160 * j + k) H' = some (.int (g k)) := fun q1 q2 => by
    rcases kk j hj with ⟨e1, e2⟩ | ⟨g9, e1, e2, e3, e4⟩
    · exact Or.inl ⟨e1, q1.trans e2⟩
    · exact Or.inr ⟨g9, e1, e2, q1.trans e3, fun k hk => (q2 k hk).trans (e4 k hk)⟩
  unfold m_imgK
  by_cases hi : 0 ≤ i.toInt ∧ i.toInt ≤ 1
  · obtain ⟨r1, r2, r3⟩ := p4 hi
    by_cases ej : j = i.toInt.toNat
    · rw [if_pos ⟨hi, ej⟩]
      subst ej
      exact Or.inr ⟨f, rfl, c1, by rw [r1 _ hj, if_pos rfl], r2⟩
    · rw [if_neg (fun q => ej q.2)]
      refine same (by rw [r1 j hj, if_neg ej, hfk j hj]) (fun k hk => by rw [r3 (160 * j + k) (by omega) (by omega), hfi _ (by omega)])
  · rw [if_neg (fun q => hi q.1)]
    obtain ⟨r1, r2⟩ := p3 hi
    exact same (by rw [r2 j hj, hfk j hj]) (fun k hk => by rw [r1 _ (by omega), hfi _ (by omega)])
theorem z_RM.frm {Zs : List xZ} {U : State} {i : Int32} (h : z_RM D Y H x f K t n) (hH : x_H D x_G Zs U Y H) (hP : z_PfrX D [.ref x, .int i] Y H v Y9 H') : ∃ (r : Int32) (g : Nat → Int32), v = some (.int r) ∧ m_from f K i r g ∧ z_c g ∧ ∀ bk : Nat, x_sl D 12 0 x H = some (.ref bk) → y_A bk 160 H' g := by
  obtain ⟨bk, im, kp, tx, ⟨a1, a2, a3, a4, a5⟩, ⟨b1, b2, b3, b4⟩, c1, c2, kk, tc, ta⟩ := h
  obtain ⟨fi, hfi, -⟩ := y_arr hH b2 rfl rfl
  obtain ⟨fk, hfk, -⟩ := y_arr hH b3 rfl rfl
  obtain ⟨p1, p2, p3⟩ := hP x bk im kp i f fi fk rfl a1 a2 a3 c1 c2 hfi hfk
  by_cases hi : 0 ≤ i.toInt ∧ i.toInt ≤ 1
  · have inj : ∀ {u w : Int32}, some (Value.int u) = some (Value.int w) → u = w := fun {u w} e => by
      injection e with e
      injection e
    rcases kk i.toInt.toNat (by omega) with ⟨e1, e2⟩ | ⟨g9, e1, e2, e3, e4⟩
    · have h0 : fk i.toInt.toNat = 0 := inj ((hfk _ (by omega)).symm.trans e2)
      have r := p2 hi h0
      exact ⟨_, f, r.1, ⟨fun q => absurd hi q, fun _ _ => ⟨rfl, rfl⟩, fun _ h9 q => by rw [e1] at q; cases q⟩, c1, fun b hb => by cases a1.symm.trans hb; exact r.2⟩
    · have h0 : ¬ fk i.toInt.toNat = 0 := fun q => by
        have := inj ((hfk _ (by omega)).symm.trans e3)
        rw [q] at this
        exact absurd this (by decide)
      have r := p3 hi h0
      exact ⟨_, g9, r.1, ⟨fun q => absurd hi q, fun _ q => (by rw [e1] at q; cases q), fun _ h9 q => by rw [e1] at q; cases q; exact ⟨rfl, rfl⟩⟩, e2, fun b hb => by cases a1.symm.trans hb; exact fun j hj => (r.2 j hj).trans ((hfi _ (by omega)).symm.trans (e4 j hj))⟩
  · have r := p1 hi
    exact ⟨_, f, r.1, ⟨fun _ => ⟨rfl, rfl⟩, fun q => absurd q hi, fun q => absurd q hi⟩, c1, fun b hb => by cases a1.symm.trans hb; exact r.2⟩
end ZW
section ZX
variable {D : va_G} {Y Y' : xY} {H : Heap} {q : Nat} {f t : Nat → Int32} {K : Nat → Option (Nat → Int32)} {n : Int32}
theorem z_L.retag (h : z_L D Y q H f) (hm : ∀ b u, u ≠ 18 → Y b = some u → Y' b = some u) : z_L D Y' q H f := by
  obtain ⟨i, h1, ⟨a, a1, a2, a3⟩, hz⟩ := h
  refine ⟨i, fun c hc => ?_, ⟨a, a1, hm _ _ (by decide) a2, fun j hj => ?_⟩, hz⟩
  · obtain ⟨b, b1, b2, b3⟩ := h1 c hc
    have ht := z_C_tag c hc
    exact ⟨b, b1, hm _ _ (by omega) b2, b3⟩
  · obtain ⟨s, s1, z, z1, z2, z3, z4⟩ := a3 j hj
    have ht := z_Kd_tag z z1
    exact ⟨s, s1, z, z1, hm _ _ (by omega) z2, z3, z4⟩
theorem z_RC.retag (h : z_RC D Y H q f K t n) (hm : ∀ b u, u ≠ 18 → Y b = some u → Y' b = some u) : z_RC D Y' H q f K t n := by
  obtain ⟨hd, dr, kp, tx, by_, k, a, ⟨b1, b2, b3, b4, b5, b6⟩, l1, ⟨f', l2⟩, kk, d, tc⟩ := h
  refine ⟨hd, dr, kp, tx, by_, k, a, ⟨hm _ _ (by decide) b1, hm _ _ (by decide) b2, hm _ _ (by decide) b3, hm _ _ (by decide) b4, hm _ _ (by decide) b5, fun i a hk => hm _ _ (by decide) (b6 i a hk)⟩, l1.retag hm, ⟨f', l2.retag hm⟩, fun i hi => ⟨(kk i hi).1, ?_⟩, d, tc⟩
  rcases (kk i hi).2 with h9 | ⟨a, g9, e1, e2, e3⟩
  · exact Or.inl h9
  · exact Or.inr ⟨a, g9, e1, e2, e3.retag hm⟩
end ZX
