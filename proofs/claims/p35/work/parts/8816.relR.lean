/-! THE WHOLE OF A CLASS'S OBJECT AND OF THE REFERENCE'S: f the row here, K what is kept, t and n the text -/
/-- all cells but those of a land, and but the counts of what was refused -/
def z_fq (D : va_G) (Y : xY) (H H' : Heap) (q : Nat) : Prop := ∀ b u g, Y b = some u → u ≠ 42 → x_G[u]? = some g → b ≠ q → (∀ k, k < 16 → x_sl D 2 k q H ≠ some (.ref b)) → x_eq D g b H H'
def z_rv : Option Nat → Value
  | none => .null
  | some a => .ref a
def z_RC (D : va_G) (Y : xY) (H : Heap) (q : Nat) (f : Nat → Int32) (K : Nat → Option (Nat → Int32)) (t : Nat → Int32) (n : Int32) : Prop := ∃ (hd dr kp tx by_ : Nat) (k : Nat → Option Nat),
  (x_sl D 11 0 q H = some (.ref hd) ∧ x_sl D 11 1 q H = some (.ref dr) ∧ x_sl D 11 2 q H = some (.ref kp) ∧ x_sl D 11 3 q H = some (.ref tx) ∧ x_sl D 7 0 tx H = some (.ref by_) ∧ x_sl D 7 2 tx H = some (.int n)) ∧
  (Y hd = some 2 ∧ Y dr = some 2 ∧ Y kp = some 41 ∧ Y tx = some 4 ∧ Y by_ = some 39 ∧ ∀ i a, k i = some a → Y a = some 2) ∧
  z_L D Y hd H f ∧ (∃ f', z_L D Y dr H f') ∧
  (∀ i, i < 2 → y_at kp i H = some (z_rv (k i)) ∧ ((k i = none ∧ K i = none) ∨ ∃ a g, k i = some a ∧ K i = some g ∧ z_L D Y a H g)) ∧
  (z_dis D H hd dr ∧ (∀ i a, i < 2 → k i = some a → z_dis D H hd a ∧ z_dis D H dr a) ∧ ∀ a b, k 0 = some a → k 1 = some b → z_dis D H a b) ∧
  t_c t ∧ y_A by_ 240 H t
def z_RM (D : va_G) (Y : xY) (H : Heap) (q : Nat) (f : Nat → Int32) (K : Nat → Option (Nat → Int32)) (t : Nat → Int32) (n : Int32) : Prop := ∃ (bk im kp tx : Nat),
  (x_sl D 12 0 q H = some (.ref bk) ∧ x_sl D 12 1 q H = some (.ref im) ∧ x_sl D 12 2 q H = some (.ref kp) ∧ x_sl D 12 9 q H = some (.ref tx) ∧ x_sl D 12 10 q H = some (.int n)) ∧
  (Y bk = some 46 ∧ Y im = some 47 ∧ Y kp = some 48 ∧ Y tx = some 52) ∧ z_c f ∧ y_A bk 160 H f ∧
  (∀ i, i < 2 → (K i = none ∧ y_at kp i H = some (.int 0)) ∨ ∃ g, K i = some g ∧ z_c g ∧ y_at kp i H = some (.int 1) ∧ ∀ j, j < 160 → y_at im (160 * i + j) H = some (.int (g j))) ∧
  t_c t ∧ y_A tx 240 H t
section ZRA
variable {D : va_G} {Y Y' : xY} {H H' : Heap} {q r hd : Nat} {f g : Nat → Int32} {K : Nat → Option (Nat → Int32)} {t : Nat → Int32} {n : Int32}
theorem z_L.own {k b : Nat} (h : z_L D Y q H f) (hk : k < 16) (e : x_sl D 2 k q H = some (.ref b)) : (∃ c ∈ z_C, c.1 = k ∧ Y b = some c.2.1) ∨ (k = 7 ∧ Y b = some 24) := by
  obtain ⟨⟨i1, i2, i3⟩, k1, ⟨a, a1, a2, -⟩, -⟩ := h
  have hall : ∀ k, k < 16 → k = 0 ∨ k = 6 ∨ k = 12 ∨ k = 7 ∨ ∃ c ∈ z_C, c.1 = k := by decide
  rcases hall k hk with rfl | rfl | rfl | rfl | ⟨c, hc, rfl⟩
  · rw [i1] at e; cases e
  · rw [i2] at e; cases e
  · rw [i3] at e; cases e
  · cases a1.symm.trans e; exact Or.inr ⟨rfl, a2⟩
  · obtain ⟨a', e1, e2, -⟩ := k1 c hc
    cases e1.symm.trans e
    exact Or.inl ⟨c, hc, rfl, e2⟩
theorem z_L.nown {b u : Nat} (h : z_L D Y q H f) (hb : Y b = some u) (hu : ¬ (19 ≤ u ∧ u ≤ 31)) : ∀ k, k < 16 → x_sl D 2 k q H ≠ some (.ref b) := fun k hk e => by
  rcases h.own hk e with ⟨c, hc, -, e2⟩ | ⟨-, e2⟩
  · rw [hb] at e2
    injection e2 with e2
    have := z_C_tag c hc
    omega
  · rw [hb] at e2
    injection e2 with e2
    omega
theorem z_fr.toq (h : z_fr D Y H H' q) : z_fq D Y H H' q := fun b u g hb _ hg hn hk => h b u g hb hg hn hk
theorem x_eq.E42 {b u : Nat} {g : xG} {ef : List (Nat × Nat)} (hE : x_E D x_G ef Y H H') (hb : Y b = some u) (hg : x_G[u]? = some g) (hu : u ≠ 42) (hn : ef.all (fun z => Nat.beq z.1 42) = true) : x_eq D g b H H' := by
  refine x_eq.E hE hb hg (List.all_eq_true.mpr fun z hz => ?_)
  have h1 := Nat.eq_of_beq_eq_true (List.all_eq_true.mp hn z hz)
  rw [h1, Bool.not_eq_true']
  cases h2 : Nat.beq 42 u with
  | false => rfl
  | true => exact absurd (Nat.eq_of_beq_eq_true h2).symm hu
theorem z_arrT {u : Nat} (h1 : 19 ≤ u) (h2 : u ≤ 31) : ∃ gg, x_G[u]? = some (.inr gg) := by
  rcases (by omega : u = 19 ∨ u = 20 ∨ u = 21 ∨ u = 22 ∨ u = 23 ∨ u = 24 ∨ u = 25 ∨ u = 26 ∨ u = 27 ∨ u = 28 ∨ u = 29 ∨ u = 30 ∨ u = 31) with rfl | rfl | rfl | rfl | rfl | rfl | rfl | rfl | rfl | rfl | rfl | rfl | rfl <;> exact ⟨_, rfl⟩
theorem z_Yne {x y u v : Nat} (hx : Y x = some u) (hy : Y y = some v) (h : u ≠ v) : x ≠ y := fun e0 => by
  subst e0
  rw [hx] at hy
  injection hy with hy
  exact h hy
/-- a land beside another that is written -/
theorem z_L.beside (h : z_L D Y r H g) (hr : Y r = some 2) (hq : Y q = some 2) (hL : z_L D Y q H f) (hd : z_dis D H q r) (hF : z_fq D Y H H' q) (hm : ∀ b u, Y b = some u → Y' b = some u) : z_L D Y' r H' g := by
  have h' := h
  obtain ⟨-, k1, ⟨b, b1, b2, b3⟩, -⟩ := h'
  refine h.keptS hm (fun k hk => ?_) (fun c hc a ha => ?_) (fun a ha => ?_)
  · have h9 := hF r 2 _ hr (by decide) rfl (Ne.symm hd.1) (hL.nown hr (by omega))
    exact h9 k hk
  · obtain ⟨a', e1, e2, -⟩ := k1 c hc
    cases e1.symm.trans ha
    have ht := z_C_tag c hc
    obtain ⟨gg, hg⟩ := z_arrT (u := c.2.1) (by omega) (by omega)
    refine hF a _ _ e2 (by omega) hg (z_Yne e2 hq (by omega)) (fun k hk e => ?_)
    rcases hL.own hk e with ⟨c', hc', e3, e4⟩ | ⟨e3, e4⟩
    · have e5 : c' = c := z_C_tagi c' hc' c hc (by rw [e2] at e4; injection e4 with e4; exact e4.symm)
      subst e5
      rw [← e3] at e
      exact hd.2.1 c' hc' (e.trans ha.symm)
    · rw [e2] at e4
      injection e4 with e4
      omega
  · cases b1.symm.trans ha
    refine ⟨?_, fun j s hj hs z hz hY k hk => ?_⟩
    · obtain ⟨gg, hg⟩ := z_arrT (u := 24) (by omega) (by omega)
      refine hF b 24 _ b2 (by decide) hg (z_Yne b2 hq (by decide)) (fun k hk e => ?_)
      rcases hL.own hk e with ⟨c', hc', e3, e4⟩ | ⟨e3, e4⟩
      · have ht := z_C_tag c' hc'
        rw [b2] at e4
        injection e4 with e4
        omega
      · subst e3
        exact hd.2.2 (e.trans b1.symm)
    · have hzt := z_Kd_tag z hz
      simp only [z_Kd, List.mem_cons, List.not_mem_nil, or_false] at hz
      have h9 := fun (u : Nat) (gg : xG) (hu : Y s = some u) (h42 : u ≠ 42) (hg : x_G[u]? = some gg) (h2 : u ≠ 2) (hn : ¬ (19 ≤ u ∧ u ≤ 31)) => hF s u gg hu h42 hg (z_Yne hu hq h2) (hL.nown hu hn)
      rcases hz with rfl | rfl | rfl | rfl | rfl | rfl
      · exact (h9 11 _ hY (by decide) rfl (by decide) (by decide)) k hk
      · exact (h9 12 _ hY (by decide) rfl (by decide) (by decide)) k hk
      · exact (h9 13 _ hY (by decide) rfl (by decide) (by decide)) k hk
      · exact (h9 14 _ hY (by decide) rfl (by decide) (by decide)) k hk
      · exact (h9 15 _ hY (by decide) rfl (by decide) (by decide)) k hk
      · exact (h9 16 _ hY (by decide) rfl (by decide) (by decide)) k hk
/-- here was written, and nothing else but counts -/
theorem z_RC.fin (h : z_RC D Y H q f K t n) (hq : Y q = some 0) (hh : x_sl D 11 0 q H = some (.ref hd)) (hF : z_fq D Y H H' hd) (hL : z_L D Y' hd H' g) (hf : z_fld D hd H H') (hm : ∀ b u, Y b = some u → Y' b = some u) : z_RC D Y' H' q g K t n := by
  obtain ⟨hd', dr, kp, tx, by_, k, ⟨a1, a2, a3, a4, a5, a6⟩, ⟨b1, b2, b3, b4, b5, b6⟩, l1, ⟨f', l2⟩, kk, ⟨d1, d2, d3⟩, tc, ta⟩ := h
  cases a1.symm.trans hh
  have hx := fun (b u : Nat) (gg : xG) (hb : Y b = some u) (h42 : u ≠ 42) (hg : x_G[u]? = some gg) (h2 : u ≠ 2) (hn : ¬ (19 ≤ u ∧ u ≤ 31)) => hF b u gg hb h42 hg (z_Yne hb b1 h2) (l1.nown hb hn)
  have hland : ∀ (r : Nat), Y r = some 2 → r ≠ hd → ∀ k, k < 16 → x_sl D 2 k r H' = x_sl D 2 k r H := fun r hr hn k hk => by
    have h9 := hF r 2 _ hr (by decide) rfl hn (l1.nown hr (by omega))
    exact h9 k hk
  have hq9 := hx q 0 _ hq (by decide) rfl (by decide) (by decide)
  have htx := hx tx 4 _ b4 (by decide) rfl (by decide) (by decide)
  have hkp := hx kp 41 _ b3 (by decide) rfl (by decide) (by decide)
  have hby := hx by_ 39 _ b5 (by decide) rfl (by decide) (by decide)
  have hdis : ∀ r, Y r = some 2 → z_dis D H hd r → z_dis D H' hd r := fun r hr h9 => h9.moved hf (fun k hk _ _ _ => hland r hr (Ne.symm h9.1) k hk)
  have hdis2 : ∀ r r', Y r = some 2 → Y r' = some 2 → r ≠ hd → r' ≠ hd → z_dis D H r r' → z_dis D H' r r' := fun r r' hr hr' n1 n2 h9 => h9.moved (fun k hk _ _ _ => hland r hr n1 k hk) (fun k hk _ _ _ => hland r' hr' n2 k hk)
  refine ⟨hd, dr, kp, tx, by_, k, ⟨(hq9 0 (by decide)).trans a1, (hq9 1 (by decide)).trans a2, (hq9 2 (by decide)).trans a3, (hq9 3 (by decide)).trans a4, (htx 0 (by decide)).trans a5, (htx 2 (by decide)).trans a6⟩, ⟨hm _ _ b1, hm _ _ b2, hm _ _ b3, hm _ _ b4, hm _ _ b5, fun i a hk => hm _ _ (b6 i a hk)⟩, hL, ⟨f', l2.beside b2 b1 l1 d1 hF hm⟩, fun i hi => ?_, ⟨hdis dr b2 d1, fun i a hi hk => ⟨hdis a (b6 i a hk) (d2 i a hi hk).1, hdis2 dr a b2 (b6 i a hk) (Ne.symm d1.1) (Ne.symm (d2 i a hi hk).1.1) (d2 i a hi hk).2⟩, fun a b h0 h1 => hdis2 a b (b6 0 a h0) (b6 1 b h1) (Ne.symm (d2 0 a (by decide) h0).1.1) (Ne.symm (d2 1 b (by decide) h1).1.1) (d3 a b h0 h1)⟩, tc, ta.kept hby⟩
  refine ⟨by rw [z_atk hkp]; exact (kk i hi).1, ?_⟩
  rcases (kk i hi).2 with h9 | ⟨a, g9, e1, e2, e3⟩
  · exact Or.inl h9
  · exact Or.inr ⟨a, g9, e1, e2, e3.beside (b6 i a e1) b1 l1 (d2 i a hi e1).1 hF hm⟩
/-- a call that touches nothing of it -/
def z_ncR (ef : List (Nat × Nat)) : Bool := z_nld ef && (ef.all (fun z => !(Nat.beq z.1 39) && !(Nat.beq z.1 41)) && (!(x_ein ef 0 0) && (!(x_ein ef 0 1) && (!(x_ein ef 0 2) && (!(x_ein ef 0 3) && (!(x_ein ef 4 0) && !(x_ein ef 4 2)))))))
theorem z_ninR {ef : List (Nat × Nat)} {u k : Nat} (h : x_ein ef u k = false) : (u, k) ∉ ef := fun q => by
  rw [x_ein_ok.mpr q] at h; cases h
theorem z_ntagR {ef : List (Nat × Nat)} {u k : Nat} (h : ef.all (fun z => !(Nat.beq z.1 39) && !(Nat.beq z.1 41)) = true) (hu : u = 39 ∨ u = 41) : (u, k) ∉ ef := fun q => by
  have h1 := List.all_eq_true.mp h _ q
  rw [Bool.and_eq_true, Bool.not_eq_true', Bool.not_eq_true'] at h1
  rcases hu with rfl | rfl
  · exact absurd h1.1 (by show ¬ (Nat.beq 39 39 = false); decide)
  · exact absurd h1.2 (by show ¬ (Nat.beq 41 41 = false); decide)
theorem z_RC.E {ef : List (Nat × Nat)} (h : z_RC D Y H q f K t n) (hq : Y q = some 0) (hE : x_E D x_G ef Y H H') (hm : ∀ b u, Y b = some u → Y' b = some u) (hn : z_ncR ef = true) : z_RC D Y' H' q f K t n := by
  simp only [z_ncR, Bool.and_eq_true, Bool.not_eq_true'] at hn
  obtain ⟨n1, n2, n3, n4, n5, n6, n7, n8⟩ := hn
  have n2' : ef.all (fun z => !(Nat.beq z.1 39) && !(Nat.beq z.1 41)) = true := by
    simpa using n2
  obtain ⟨hd, dr, kp, tx, by_, k, ⟨a1, a2, a3, a4, a5, a6⟩, ⟨b1, b2, b3, b4, b5, b6⟩, l1, ⟨f', l2⟩, kk, ⟨d1, d2, d3⟩, tc, ta⟩ := h
  have hfl : ∀ r, Y r = some 2 → ∀ k, k < 16 → x_sl D 2 k r H' = x_sl D 2 k r H := fun r hr k hk => y_Efld hE hr rfl hk (z_nld_ok n1 (Or.inl rfl)) rfl
  have hdis : ∀ r r', Y r = some 2 → Y r' = some 2 → z_dis D H r r' → z_dis D H' r r' := fun r r' hr hr' h9 => h9.moved (fun k hk _ _ _ => hfl r hr k hk) (fun k hk _ _ _ => hfl r' hr' k hk)
  have hkp : H'[kp]? = H[kp]? := y_Earr hE b3 rfl (z_ntagR n2' (Or.inr rfl))
  refine ⟨hd, dr, kp, tx, by_, k, ⟨y_Efld hE hq rfl (by decide) (z_ninR n3) a1, y_Efld hE hq rfl (by decide) (z_ninR n4) a2, y_Efld hE hq rfl (by decide) (z_ninR n5) a3, y_Efld hE hq rfl (by decide) (z_ninR n6) a4, y_Efld hE b4 rfl (by decide) (z_ninR n7) a5, y_Efld hE b4 rfl (by decide) (z_ninR n8) a6⟩, ⟨hm _ _ b1, hm _ _ b2, hm _ _ b3, hm _ _ b4, hm _ _ b5, fun i a hk => hm _ _ (b6 i a hk)⟩, l1.E b1 hE hm n1, ⟨f', l2.E b2 hE hm n1⟩, fun i hi => ?_, ⟨hdis _ _ b1 b2 d1, fun i a hi hk => ⟨hdis _ _ b1 (b6 i a hk) (d2 i a hi hk).1, hdis _ _ b2 (b6 i a hk) (d2 i a hi hk).2⟩, fun a b h0 h1 => hdis _ _ (b6 0 a h0) (b6 1 b h1) (d3 a b h0 h1)⟩, tc, ta.kept (y_Earr hE b5 rfl (z_ntagR n2' (Or.inl rfl)))⟩
  refine ⟨by rw [z_atk hkp]; exact (kk i hi).1, ?_⟩
  rcases (kk i hi).2 with h9 | ⟨a, g9, e1, e2, e3⟩
  · exact Or.inl h9
  · exact Or.inr ⟨a, g9, e1, e2, e3.E (b6 i a e1) hE hm n1⟩
/-- the reference: a call that touches nothing of it -/
def z_nmF (ef : List (Nat × Nat)) : Bool := !(x_ein ef 17 0) && (!(x_ein ef 17 1) && (!(x_ein ef 17 2) && (!(x_ein ef 17 9))))
theorem z_RM.book {ef : List (Nat × Nat)} (h : z_RM D Y H q f K t n) (hq : Y q = some 17) (hE : x_E D x_G ef Y H H') (hm : ∀ b u, Y b = some u → Y' b = some u) (hn : (z_nmF ef && (!(x_ein ef 17 10) && (!(x_ein ef 47 0) && (!(x_ein ef 48 0) && !(x_ein ef 52 0))))) = true) (hg : z_c g) (hb : ∀ bk : Nat, x_sl D 12 0 q H = some (.ref bk) → y_A bk 160 H' g) : z_RM D Y' H' q g K t n := by
  simp only [z_nmF, Bool.and_eq_true, Bool.not_eq_true'] at hn
  obtain ⟨⟨n1, n2, n3, n4⟩, n5, n6, n7, n8⟩ := hn
  obtain ⟨bk, im, kp, tx, ⟨a1, a2, a3, a4, a5⟩, ⟨b1, b2, b3, b4⟩, c1, c2, kk, tc, ta⟩ := h
  have him := y_Earr hE b2 rfl (z_ninR n6)
  have hkp := y_Earr hE b3 rfl (z_ninR n7)
  refine ⟨bk, im, kp, tx, ⟨y_Efld hE hq rfl (by decide) (z_ninR n1) a1, y_Efld hE hq rfl (by decide) (z_ninR n2) a2, y_Efld hE hq rfl (by decide) (z_ninR n3) a3, y_Efld hE hq rfl (by decide) (z_ninR n4) a4, y_Efld hE hq rfl (by decide) (z_ninR n5) a5⟩, ⟨hm _ _ b1, hm _ _ b2, hm _ _ b3, hm _ _ b4⟩, hg, hb bk a1, fun i hi => ?_, tc, ta.kept (y_Earr hE b4 rfl (z_ninR n8))⟩
  rcases kk i hi with ⟨e1, e2⟩ | ⟨g9, e1, e2, e3, e4⟩
  · exact Or.inl ⟨e1, by rw [z_atk hkp]; exact e2⟩
  · exact Or.inr ⟨g9, e1, e2, by rw [z_atk hkp]; exact e3, fun j hj => by rw [z_atk him]; exact e4 j hj⟩
theorem z_RM.E {ef : List (Nat × Nat)} (h : z_RM D Y H q f K t n) (hq : Y q = some 17) (hE : x_E D x_G ef Y H H') (hm : ∀ b u, Y b = some u → Y' b = some u) (hn : (z_nmF ef && (!(x_ein ef 17 10) && (!(x_ein ef 47 0) && (!(x_ein ef 48 0) && !(x_ein ef 52 0))))) = true) (hn2 : x_ein ef 46 0 = false) : z_RM D Y' H' q f K t n := by
  have h' := h
  obtain ⟨bk, im, kp, tx, ⟨a1, -⟩, ⟨b1, -⟩, c1, c2, -⟩ := h'
  exact h.book hq hE hm hn c1 (fun b hb => by cases a1.symm.trans hb; exact c2.kept (y_Earr hE b1 rfl (z_ninR hn2)))
end ZRA
