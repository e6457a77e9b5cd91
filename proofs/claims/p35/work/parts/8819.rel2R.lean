section ZRB
variable {D : va_G} {Y Y' : xY} {H H' : Heap} {q r hd dr kp tx by_ : Nat} {f f' g : Nat → Int32} {K K' : Nat → Option (Nat → Int32)} {t t' : Nat → Int32} {n n' : Int32}
theorem z_rv_inj {a b : Option Nat} (h : z_rv a = z_rv b) : a = b := by
  cases a <;> cases b
  · rfl
  · cases h
  · cases h
  · injection h with h; rw [h]
theorem z_RC.eqs (h : z_RC D Y H q f K t n) (h' : z_RC D Y H q f' K' t' n') : f = f' ∧ t = t' ∧ n = n' ∧ ∀ i, i < 2 → K i = K' i := by
  obtain ⟨hd, dr, kp, tx, by_, k, ⟨a1, a2, a3, a4, a5, a6⟩, -, l1, -, kk, -, tc, ta⟩ := h
  obtain ⟨hd', dr', kp', tx', by', k', ⟨b1, b2, b3, b4, b5, b6⟩, -, l1', -, kk', -, tc', ta'⟩ := h'
  cases a1.symm.trans b1
  cases a3.symm.trans b3
  cases a4.symm.trans b4
  cases a5.symm.trans b5
  have en : n = n' := by
    have := a6.symm.trans b6
    injection this with this
    injection this
  refine ⟨l1.uniq l1', t_uniq ta ta' tc tc', en, fun i hi => ?_⟩
  have e1 : k i = k' i := by
    have := (kk i hi).1.symm.trans (kk' i hi).1
    injection this with this
    exact z_rv_inj this
  rcases (kk i hi).2 with ⟨e2, e3⟩ | ⟨a, g9, e2, e3, e4⟩ <;> rcases (kk' i hi).2 with ⟨e5, e6⟩ | ⟨a', g8, e5, e6, e7⟩
  · rw [e3, e6]
  · rw [e1, e5] at e2; cases e2
  · rw [← e1, e2] at e5; cases e5
  · rw [e1, e5] at e2
    cases e2
    rw [e3, e6, e4.uniq e7]
theorem z_RC.congr (h : z_RC D Y H q f K t n) (e : ∀ i, i < 2 → K i = K' i) : z_RC D Y H q f K' t n := by
  obtain ⟨hd, dr, kp, tx, by_, k, a, b, l1, l2, kk, d, tc⟩ := h
  exact ⟨hd, dr, kp, tx, by_, k, a, b, l1, l2, fun i hi => by rw [← e i hi]; exact kk i hi, d, tc⟩
/-- a frame behind a frame -/
theorem z_fq.fr {H0 : Heap} {Y0 : xY} (hF : z_fq D Y0 H0 H q) (hf : z_fld D q H0 H) (hL : z_L D Y q H f) (h9 : z_fq D Y H H' q) (hm : ∀ b u, Y0 b = some u → Y b = some u) : z_fq D Y0 H0 H' q := fun b u g hb h42 hg hn hk => by
  refine x_eq.trans (h9 b u g (hm b u hb) h42 hg hn (fun k hk9 => ?_)) (hF b u g hb h42 hg hn hk)
  by_cases h0 : k = 0
  · subst h0; rw [hL.1.1]; exact fun e => by cases e
  by_cases h6 : k = 6
  · subst h6; rw [hL.1.2.1]; exact fun e => by cases e
  by_cases h12 : k = 12
  · subst h12; rw [hL.1.2.2]; exact fun e => by cases e
  rw [hf k hk9 h0 h6 h12]; exact hk k hk9
/-- the draft was written -/
theorem z_RC.finD (h : z_RC D Y H q f K t n) (hq : Y q = some 0) (hh : x_sl D 11 1 q H = some (.ref dr)) (hF : z_fq D Y H H' dr) (hL : z_L D Y' dr H' g) (hf : z_fld D dr H H') (hm : ∀ b u, Y b = some u → Y' b = some u) : z_RC D Y' H' q f K t n := by
  obtain ⟨hd, dr', kp, tx, by_, k, ⟨a1, a2, a3, a4, a5, a6⟩, ⟨b1, b2, b3, b4, b5, b6⟩, l1, ⟨f', l2⟩, kk, ⟨d1, d2, d3⟩, tc, ta⟩ := h
  cases a2.symm.trans hh
  have hx := fun (b u : Nat) (gg : xG) (hb : Y b = some u) (h42 : u ≠ 42) (hg : x_G[u]? = some gg) (h2 : u ≠ 2) (hn : ¬ (19 ≤ u ∧ u ≤ 31)) => hF b u gg hb h42 hg (z_Yne hb b2 h2) (l2.nown hb hn)
  have hland : ∀ (r : Nat), Y r = some 2 → r ≠ dr → ∀ k, k < 16 → x_sl D 2 k r H' = x_sl D 2 k r H := fun r hr hn k hk => by
    have h9 := hF r 2 _ hr (by decide) rfl hn (l2.nown hr (by omega))
    exact h9 k hk
  have hq9 := hx q 0 _ hq (by decide) rfl (by decide) (by decide)
  have htx := hx tx 4 _ b4 (by decide) rfl (by decide) (by decide)
  have hkp := hx kp 41 _ b3 (by decide) rfl (by decide) (by decide)
  have hby := hx by_ 39 _ b5 (by decide) rfl (by decide) (by decide)
  have hdis : ∀ r, Y r = some 2 → z_dis D H dr r → z_dis D H' dr r := fun r hr h9 => h9.moved hf (fun k hk _ _ _ => hland r hr (Ne.symm h9.1) k hk)
  have hdis2 : ∀ r r', Y r = some 2 → Y r' = some 2 → r ≠ dr → r' ≠ dr → z_dis D H r r' → z_dis D H' r r' := fun r r' hr hr' n1 n2 h9 => h9.moved (fun k hk _ _ _ => hland r hr n1 k hk) (fun k hk _ _ _ => hland r' hr' n2 k hk)
  refine ⟨hd, dr, kp, tx, by_, k, ⟨(hq9 0 (by decide)).trans a1, (hq9 1 (by decide)).trans a2, (hq9 2 (by decide)).trans a3, (hq9 3 (by decide)).trans a4, (htx 0 (by decide)).trans a5, (htx 2 (by decide)).trans a6⟩, ⟨hm _ _ b1, hm _ _ b2, hm _ _ b3, hm _ _ b4, hm _ _ b5, fun i a hk => hm _ _ (b6 i a hk)⟩, l1.beside b1 b2 l2 d1.symm hF hm, ⟨g, hL⟩, fun i hi => ?_, ⟨(hdis hd b1 d1.symm).symm, fun i a hi hk => ⟨hdis2 hd a b1 (b6 i a hk) d1.1 (Ne.symm (d2 i a hi hk).2.1) (d2 i a hi hk).1, hdis a (b6 i a hk) (d2 i a hi hk).2⟩, fun a b h0 h1 => hdis2 a b (b6 0 a h0) (b6 1 b h1) (Ne.symm (d2 0 a (by decide) h0).2.1) (Ne.symm (d2 1 b (by decide) h1).2.1) (d3 a b h0 h1)⟩, tc, ta.kept hby⟩
  refine ⟨by rw [z_atk hkp]; exact (kk i hi).1, ?_⟩
  rcases (kk i hi).2 with h9 | ⟨a, g9, e1, e2, e3⟩
  · exact Or.inl h9
  · exact Or.inr ⟨a, g9, e1, e2, e3.beside (b6 i a e1) b2 l2 (d2 i a hi e1).2 hF hm⟩
/-- a kept land was written -/
theorem z_RC.finK {i c : Nat} (h : z_RC D Y H q f K t n) (hq : Y q = some 0) (hi0 : i < 2) (hh : x_sl D 11 2 q H = some (.ref kp)) (hc : y_at kp i H = some (.ref c)) (hF : z_fq D Y H H' c) (hL : z_L D Y' c H' g) (hf : z_fld D c H H') (hm : ∀ b u, Y b = some u → Y' b = some u) : z_RC D Y' H' q f (fun j => if j = i then some g else K j) t n := by
  obtain ⟨hd, dr, kp', tx, by_, k, ⟨a1, a2, a3, a4, a5, a6⟩, ⟨b1, b2, b3, b4, b5, b6⟩, l1, ⟨f', l2⟩, kk, ⟨d1, d2, d3⟩, tc, ta⟩ := h
  cases a3.symm.trans hh
  have hki : k i = some c := by
    have := (kk i hi0).1.symm.trans hc
    injection this with this
    exact z_rv_inj (b := some c) this
  obtain ⟨g0, lc⟩ : ∃ g0, z_L D Y c H g0 := by
    rcases (kk i hi0).2 with ⟨e1, -⟩ | ⟨a, g9, e1, e2, e3⟩
    · rw [hki] at e1; cases e1
    · rw [hki] at e1; cases e1; exact ⟨_, e3⟩
  have bc := b6 i c hki
  have hx := fun (b u : Nat) (gg : xG) (hb : Y b = some u) (h42 : u ≠ 42) (hg : x_G[u]? = some gg) (h2 : u ≠ 2) (hn : ¬ (19 ≤ u ∧ u ≤ 31)) => hF b u gg hb h42 hg (z_Yne hb bc h2) (lc.nown hb hn)
  have hland : ∀ (r : Nat), Y r = some 2 → r ≠ c → ∀ k, k < 16 → x_sl D 2 k r H' = x_sl D 2 k r H := fun r hr hn k hk => by
    have h9 := hF r 2 _ hr (by decide) rfl hn (lc.nown hr (by omega))
    exact h9 k hk
  have hq9 := hx q 0 _ hq (by decide) rfl (by decide) (by decide)
  have htx := hx tx 4 _ b4 (by decide) rfl (by decide) (by decide)
  have hkp := hx kp 41 _ b3 (by decide) rfl (by decide) (by decide)
  have hby := hx by_ 39 _ b5 (by decide) rfl (by decide) (by decide)
  have hdis : ∀ r, Y r = some 2 → z_dis D H c r → z_dis D H' c r := fun r hr h9 => h9.moved hf (fun k hk _ _ _ => hland r hr (Ne.symm h9.1) k hk)
  have hdis2 : ∀ r r', Y r = some 2 → Y r' = some 2 → r ≠ c → r' ≠ c → z_dis D H r r' → z_dis D H' r r' := fun r r' hr hr' n1 n2 h9 => h9.moved (fun k hk _ _ _ => hland r hr n1 k hk) (fun k hk _ _ _ => hland r' hr' n2 k hk)
  have hoth : ∀ j a, j < 2 → j ≠ i → k j = some a → z_dis D H c a := fun j a hj hji ha => by
    rcases (by omega : (i = 0 ∧ j = 1) ∨ (i = 1 ∧ j = 0)) with ⟨rfl, rfl⟩ | ⟨rfl, rfl⟩
    · exact d3 c a hki ha
    · exact (d3 a c ha hki).symm
  have hd1 := (d2 i c hi0 hki).1
  have hd2 := (d2 i c hi0 hki).2
  refine ⟨hd, dr, kp, tx, by_, k, ⟨(hq9 0 (by decide)).trans a1, (hq9 1 (by decide)).trans a2, (hq9 2 (by decide)).trans a3, (hq9 3 (by decide)).trans a4, (htx 0 (by decide)).trans a5, (htx 2 (by decide)).trans a6⟩, ⟨hm _ _ b1, hm _ _ b2, hm _ _ b3, hm _ _ b4, hm _ _ b5, fun i a hk => hm _ _ (b6 i a hk)⟩, l1.beside b1 bc lc hd1.symm hF hm, ⟨f', l2.beside b2 bc lc hd2.symm hF hm⟩, fun j hj => ?_, ⟨hdis2 hd dr b1 b2 hd1.1 hd2.1 d1, fun j a hj hk => ?_, fun a b h0 h1 => ?_⟩, tc, ta.kept hby⟩
  · refine ⟨by rw [z_atk hkp]; exact (kk j hj).1, ?_⟩
    by_cases e : j = i
    · subst e
      exact Or.inr ⟨c, g, hki, if_pos rfl, hL⟩
    · rcases (kk j hj).2 with ⟨e1, e2⟩ | ⟨a, g9, e1, e2, e3⟩
      · exact Or.inl ⟨e1, (if_neg e).trans e2⟩
      · exact Or.inr ⟨a, g9, e1, (if_neg e).trans e2, e3.beside (b6 j a e1) bc lc (hoth j a hj e e1) hF hm⟩
  · by_cases e : j = i
    · subst e
      rw [hki] at hk
      cases hk
      exact ⟨(hdis hd b1 hd1.symm).symm, (hdis dr b2 hd2.symm).symm⟩
    · have hca := hoth j a hj e hk
      exact ⟨hdis2 hd a b1 (b6 j a hk) hd1.1 (Ne.symm hca.1) (d2 j a hj hk).1, hdis2 dr a b2 (b6 j a hk) hd2.1 (Ne.symm hca.1) (d2 j a hj hk).2⟩
  · rcases (by omega : i = 0 ∨ i = 1) with rfl | rfl
    · rw [hki] at h0
      cases h0
      exact hdis b (b6 1 b h1) (d3 c b hki h1)
    · rw [hki] at h1
      cases h1
      exact (hdis a (b6 0 a h0) (d3 a c h0 hki).symm).symm
/-- here and the draft change places -/
theorem z_RC.swap (h : z_RC D Y H q f K t n) (hq : Y q = some 0) (hh : x_sl D 11 0 q H = some (.ref hd)) (hdr : x_sl D 11 1 q H = some (.ref dr)) (hL : z_L D Y dr H g) (h0 : x_sl D 11 0 q H' = some (.ref dr)) (h1 : x_sl D 11 1 q H' = some (.ref hd)) (h2 : x_sl D 11 2 q H' = x_sl D 11 2 q H) (h3 : x_sl D 11 3 q H' = x_sl D 11 3 q H) (ho : ∀ b, b ≠ q → H'[b]? = H[b]?) : z_RC D Y H' q g K t n := by
  obtain ⟨hd', dr', kp, tx, by_, k, ⟨a1, a2, a3, a4, a5, a6⟩, ⟨b1, b2, b3, b4, b5, b6⟩, l1, ⟨f', l2⟩, kk, ⟨d1, d2, d3⟩, tc, ta⟩ := h
  cases a1.symm.trans hh
  cases a2.symm.trans hdr
  have hk9 : ∀ b u, Y b = some u → u ≠ 0 → H'[b]? = H[b]? := fun b u hb hu => ho b (z_Yne hb hq hu)
  have hkL : ∀ r f9, Y r = some 2 → z_L D Y r H f9 → z_L D Y r H' f9 := fun r f9 hr h9 => by
    have h' := h9
    obtain ⟨-, k1, ⟨b, e1, e2, e3⟩, -⟩ := h'
    refine h9.kept (fun _ _ hh => hh) (hk9 r 2 hr (by decide)) (fun c hc a ha => ?_) (fun a ha => ?_)
    · obtain ⟨a', x1, x2, -⟩ := k1 c hc
      cases x1.symm.trans ha
      have := z_C_tag c hc
      exact hk9 a _ x2 (by omega)
    · cases e1.symm.trans ha
      refine ⟨hk9 b 24 e2 (by decide), fun j s hj hs => ?_⟩
      obtain ⟨s', s1, z, z1, z2, -⟩ := e3 j hj
      cases s1.symm.trans hs
      have := z_Kd_tag z z1
      exact hk9 s _ z2 (by omega)
  have hfl : ∀ r, Y r = some 2 → ∀ k, k < 16 → x_sl D 2 k r H' = x_sl D 2 k r H := fun r hr k _ => y_slk rfl (hk9 r 2 hr (by decide))
  have hdis : ∀ r r', Y r = some 2 → Y r' = some 2 → z_dis D H r r' → z_dis D H' r r' := fun r r' hr hr' h9 => h9.moved (fun k hk _ _ _ => hfl r hr k hk) (fun k hk _ _ _ => hfl r' hr' k hk)
  refine ⟨dr, hd, kp, tx, by_, k, ⟨h0, h1, h2.trans a3, h3.trans a4, y_slk a5 (hk9 tx 4 b4 (by decide)), y_slk a6 (hk9 tx 4 b4 (by decide))⟩, ⟨b2, b1, b3, b4, b5, b6⟩, hkL dr g b2 hL, ⟨f, hkL hd f b1 l1⟩, fun i hi => ?_, ⟨hdis _ _ b2 b1 d1.symm, fun i a hi hk => ⟨hdis _ _ b2 (b6 i a hk) (d2 i a hi hk).2, hdis _ _ b1 (b6 i a hk) (d2 i a hi hk).1⟩, fun a b e0 e1 => hdis _ _ (b6 0 a e0) (b6 1 b e1) (d3 a b e0 e1)⟩, tc, ta.kept (hk9 by_ 39 b5 (by decide))⟩
  refine ⟨by rw [z_atk (hk9 kp 41 b3 (by decide))]; exact (kk i hi).1, ?_⟩
  rcases (kk i hi).2 with h9 | ⟨a, g9, e1, e2, e3⟩
  · exact Or.inl h9
  · exact Or.inr ⟨a, g9, e1, e2, hkL a g9 (b6 i a e1) e3⟩
/-- the text was written -/
def z_ntR (ef : List (Nat × Nat)) : Bool := z_nld ef && (ef.all (fun z => !(Nat.beq z.1 41)) && (!(x_ein ef 0 0) && (!(x_ein ef 0 1) && (!(x_ein ef 0 2) && (!(x_ein ef 0 3) && !(x_ein ef 4 0))))))
theorem z_RC.text {ef : List (Nat × Nat)} (h : z_RC D Y H q f K t n) (hq : Y q = some 0) (hE : x_E D x_G ef Y H H') (hm : ∀ b u, Y b = some u → Y' b = some u) (hn : z_ntR ef = true) (ht : t_c t') (hT : ∀ tx by_ : Nat, x_sl D 11 3 q H = some (.ref tx) → x_sl D 7 0 tx H = some (.ref by_) → x_sl D 7 2 tx H' = some (.int n') ∧ y_A by_ 240 H' t') : z_RC D Y' H' q f K t' n' := by
  simp only [z_ntR, Bool.and_eq_true, Bool.not_eq_true'] at hn
  obtain ⟨n1, n2, n3, n4, n5, n6, n7⟩ := hn
  have n2' : ∀ k, (41, k) ∉ ef := fun k hz => by
    have h1 := List.all_eq_true.mp n2 _ hz
    exact absurd h1 (by show ¬ ((!(Nat.beq 41 41)) = true); decide)
  obtain ⟨hd, dr, kp, tx, by_, k, ⟨a1, a2, a3, a4, a5, a6⟩, ⟨b1, b2, b3, b4, b5, b6⟩, l1, ⟨f', l2⟩, kk, ⟨d1, d2, d3⟩, tc, ta⟩ := h
  have hfl : ∀ r, Y r = some 2 → ∀ k, k < 16 → x_sl D 2 k r H' = x_sl D 2 k r H := fun r hr k hk => y_Efld hE hr rfl hk (z_nld_ok n1 (Or.inl rfl)) rfl
  have hdis : ∀ r r', Y r = some 2 → Y r' = some 2 → z_dis D H r r' → z_dis D H' r r' := fun r r' hr hr' h9 => h9.moved (fun k hk _ _ _ => hfl r hr k hk) (fun k hk _ _ _ => hfl r' hr' k hk)
  have hkp : H'[kp]? = H[kp]? := y_Earr hE b3 rfl (n2' 0)
  have hT9 := hT tx by_ a4 a5
  refine ⟨hd, dr, kp, tx, by_, k, ⟨y_Efld hE hq rfl (by decide) (z_ninR n3) a1, y_Efld hE hq rfl (by decide) (z_ninR n4) a2, y_Efld hE hq rfl (by decide) (z_ninR n5) a3, y_Efld hE hq rfl (by decide) (z_ninR n6) a4, y_Efld hE b4 rfl (by decide) (z_ninR n7) a5, hT9.1⟩, ⟨hm _ _ b1, hm _ _ b2, hm _ _ b3, hm _ _ b4, hm _ _ b5, fun i a hk => hm _ _ (b6 i a hk)⟩, l1.E b1 hE hm n1, ⟨f', l2.E b2 hE hm n1⟩, fun i hi => ?_, ⟨hdis _ _ b1 b2 d1, fun i a hi hk => ⟨hdis _ _ b1 (b6 i a hk) (d2 i a hi hk).1, hdis _ _ b2 (b6 i a hk) (d2 i a hi hk).2⟩, fun a b h0 h1 => hdis _ _ (b6 0 a h0) (b6 1 b h1) (d3 a b h0 h1)⟩, ht, hT9.2⟩
  refine ⟨by rw [z_atk hkp]; exact (kk i hi).1, ?_⟩
  rcases (kk i hi).2 with h9 | ⟨a, g9, e1, e2, e3⟩
  · exact Or.inl h9
  · exact Or.inr ⟨a, g9, e1, e2, e3.E (b6 i a e1) hE hm n1⟩
end ZRB
