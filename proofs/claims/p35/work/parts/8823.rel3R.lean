section ZRC
variable {D : va_G} {Y Y' : xY} {H H' : Heap} {q r c kp : Nat} {f g : Nat → Int32} {K : Nat → Option (Nat → Int32)} {t : Nat → Int32} {n : Int32}
theorem z_st.moved {s p : Nat} (h : z_st D Y s H f p) (hm : ∀ b u, 11 ≤ u → u ≤ 31 → Y b = some u → Y' b = some u) (hk : ∀ b u g, Y b = some u → (u = 2 ∨ (11 ≤ u ∧ u ≤ 31)) → x_G[u]? = some g → x_eq D g b H H') : z_st D Y' s H' f p := by
  obtain ⟨z, z1, z2, z3, z4⟩ := h
  have ht := z_Kd_tag z z1
  refine ⟨z, z1, hm _ _ (by omega) (by omega) z2, z3, fun k hk9 => ?_⟩
  rw [← z4 k hk9]
  simp only [z_Kd, List.mem_cons, List.not_mem_nil, or_false] at z1
  rcases z1 with rfl | rfl | rfl | rfl | rfl | rfl
  · exact (hk s 11 _ z2 (Or.inr (by decide)) rfl) k hk9
  · exact (hk s 12 _ z2 (Or.inr (by decide)) rfl) k hk9
  · exact (hk s 13 _ z2 (Or.inr (by decide)) rfl) k hk9
  · exact (hk s 14 _ z2 (Or.inr (by decide)) rfl) k hk9
  · exact (hk s 15 _ z2 (Or.inr (by decide)) rfl) k hk9
  · exact (hk s 16 _ z2 (Or.inr (by decide)) rfl) k hk9
theorem z_L.moved (h : z_L D Y q H f) (hq : Y q = some 2) (hm : ∀ b u, 11 ≤ u → u ≤ 31 → Y b = some u → Y' b = some u) (hk : ∀ b u g, Y b = some u → (u = 2 ∨ (11 ≤ u ∧ u ≤ 31)) → x_G[u]? = some g → x_eq D g b H H') : z_L D Y' q H' f := by
  obtain ⟨⟨i1, i2, i3⟩, h1, ⟨a, a1, a2, a3⟩, hz⟩ := h
  have h0 : ∀ k, k < 16 → x_sl D 2 k q H' = x_sl D 2 k q H := fun k hk9 => (hk q 2 _ hq (Or.inl rfl) rfl) k hk9
  have hk16 : ∀ c ∈ z_C, c.1 < 16 := by decide
  have harr : ∀ (b u : Nat), Y b = some u → 19 ≤ u → u ≤ 31 → H'[b]? = H[b]? := fun b u hb h2 h3 => by
    obtain ⟨gg, hg⟩ := z_arrT h2 h3
    exact hk b u _ hb (Or.inr (by omega)) hg
  refine ⟨⟨by rw [h0 0 (by decide)]; exact i1, by rw [h0 6 (by decide)]; exact i2, by rw [h0 12 (by decide)]; exact i3⟩, fun c hcm => ?_, ⟨a, by rw [h0 7 (by decide)]; exact a1, hm _ _ (by omega) (by omega) a2, fun j hj => ?_⟩, hz⟩
  · obtain ⟨b, b1, b2, b3⟩ := h1 c hcm
    have ht := z_C_tag c hcm
    exact ⟨b, by rw [h0 _ (hk16 c hcm)]; exact b1, hm _ _ (by omega) (by omega) b2, fun j hj => by rw [z_atk (harr b _ b2 (by omega) (by omega))]; exact b3 j hj⟩
  · obtain ⟨s, s1, s2⟩ := a3 j hj
    exact ⟨s, by rw [z_atk (harr a 24 a2 (by omega) (by omega))]; exact s1, s2.moved hm hk⟩
theorem x_eq.Enld {b u : Nat} {g : xG} {ef : List (Nat × Nat)} (hE : x_E D x_G ef Y H H') (hb : Y b = some u) (hg : x_G[u]? = some g) (hu : u = 2 ∨ (11 ≤ u ∧ u ≤ 31)) (hn : z_nld ef = true) : x_eq D g b H H' := by
  refine x_eq.E hE hb hg (List.all_eq_true.mpr fun z hz => ?_)
  rw [Bool.not_eq_true']
  cases h2 : Nat.beq z.1 u with
  | false => rfl
  | true =>
    have e := Nat.eq_of_beq_eq_true h2
    exact absurd (show (u, z.2) ∈ ef by rw [← e]; exact hz) (z_nld_ok hn hu)
/-- a land that was made later shares nothing -/
theorem z_dis.fresh {N : Nat} (hr : z_L D Y r H f) (hne : r ≠ c) (h1 : ∀ k a : Nat, k < 16 → x_sl D 2 k r H = some (.ref a) → a < N) (h2 : ∀ k a : Nat, k < 16 → x_sl D 2 k c H = some (.ref a) → N ≤ a) : z_dis D H r c := by
  obtain ⟨-, k1, ⟨a, a1, -⟩, -⟩ := hr
  have hk16 : ∀ c ∈ z_C, c.1 < 16 := by decide
  refine ⟨hne, fun d hd e => ?_, fun e => ?_⟩
  · obtain ⟨b, b1, -⟩ := k1 d hd
    have x1 := h1 _ _ (hk16 d hd) b1
    have x2 := h2 d.1 b (hk16 d hd) (e.symm.trans b1)
    omega
  · have x1 := h1 7 a (by decide) a1
    have x2 := h2 7 a (by decide) (e.symm.trans a1)
    omega
/-- a new cell, or a land's making: all else as it was -/
theorem z_RC.moved (h : z_RC D Y H q f K t n) (hq : Y q = some 0) (hm : ∀ b u, u ≠ 3 → Y b = some u → Y' b = some u) (hk : ∀ b u g, Y b = some u → u ≠ 3 → x_G[u]? = some g → x_eq D g b H H') : z_RC D Y' H' q f K t n := by
  obtain ⟨hd, dr, kp, tx, by_, k, ⟨a1, a2, a3, a4, a5, a6⟩, ⟨b1, b2, b3, b4, b5, b6⟩, l1, ⟨f', l2⟩, kk, ⟨d1, d2, d3⟩, tc, ta⟩ := h
  have hmv : ∀ r f9, Y r = some 2 → z_L D Y r H f9 → z_L D Y' r H' f9 := fun r f9 hr h9 => h9.moved hr (fun b u h1 h2 hb => hm b u (by omega) hb) (fun b u g hb hu hg => hk b u g hb (by omega) hg)
  have hfl : ∀ r, Y r = some 2 → ∀ k, k < 16 → x_sl D 2 k r H' = x_sl D 2 k r H := fun r hr k hk9 => (hk r 2 _ hr (by decide) rfl) k hk9
  have hdis : ∀ r r', Y r = some 2 → Y r' = some 2 → z_dis D H r r' → z_dis D H' r r' := fun r r' hr hr' h9 => h9.moved (fun k hk _ _ _ => hfl r hr k hk) (fun k hk _ _ _ => hfl r' hr' k hk)
  have hq9 := hk q 0 _ hq (by decide) rfl
  have htx := hk tx 4 _ b4 (by decide) rfl
  have hkp : H'[kp]? = H[kp]? := hk kp 41 _ b3 (by decide) rfl
  have hby : H'[by_]? = H[by_]? := hk by_ 39 _ b5 (by decide) rfl
  refine ⟨hd, dr, kp, tx, by_, k, ⟨(hq9 0 (by decide)).trans a1, (hq9 1 (by decide)).trans a2, (hq9 2 (by decide)).trans a3, (hq9 3 (by decide)).trans a4, (htx 0 (by decide)).trans a5, (htx 2 (by decide)).trans a6⟩, ⟨hm _ _ (by decide) b1, hm _ _ (by decide) b2, hm _ _ (by decide) b3, hm _ _ (by decide) b4, hm _ _ (by decide) b5, fun i a hk => hm _ _ (by decide) (b6 i a hk)⟩, hmv hd f b1 l1, ⟨f', hmv dr f' b2 l2⟩, fun i hi => ?_, ⟨hdis _ _ b1 b2 d1, fun i a hi hk => ⟨hdis _ _ b1 (b6 i a hk) (d2 i a hi hk).1, hdis _ _ b2 (b6 i a hk) (d2 i a hi hk).2⟩, fun a b h0 h1 => hdis _ _ (b6 0 a h0) (b6 1 b h1) (d3 a b h0 h1)⟩, tc, ta.kept hby⟩
  refine ⟨by rw [z_atk hkp]; exact (kk i hi).1, ?_⟩
  rcases (kk i hi).2 with h9 | ⟨a, g9, e1, e2, e3⟩
  · exact Or.inl h9
  · exact Or.inr ⟨a, g9, e1, e2, hmv a g9 (b6 i a e1) e3⟩
/-- a land of its own is kept at place i, where there was none -/
theorem z_RC.newK {i : Nat} (h : z_RC D Y H q f K t n) (hq : Y q = some 0) (hi0 : i < 2) (hh : x_sl D 11 2 q H = some (.ref kp)) (hnull : y_at kp i H = some .null) (hc : Y c = some 2) (hL : z_L D Y c H g) (hnc : ∀ r : Nat, (x_sl D 11 0 q H = some (.ref r) ∨ x_sl D 11 1 q H = some (.ref r) ∨ ∃ j, j < 2 ∧ y_at kp j H = some (.ref r)) → z_dis D H r c) (h_at : y_at kp i H' = some (.ref c)) (h_ne : ∀ j, j ≠ i → y_at kp j H' = y_at kp j H) (ho : ∀ b, b ≠ kp → H'[b]? = H[b]?) : z_RC D Y H' q f (fun j => if j = i then some g else K j) t n := by
  obtain ⟨hd, dr, kp', tx, by_, k, ⟨a1, a2, a3, a4, a5, a6⟩, ⟨b1, b2, b3, b4, b5, b6⟩, l1, ⟨f', l2⟩, kk, ⟨d1, d2, d3⟩, tc, ta⟩ := h
  cases hh.symm.trans a3
  have hk9 : ∀ b u, Y b = some u → u ≠ 41 → H'[b]? = H[b]? := fun b u hb hu => ho b (z_Yne hb b3 hu)
  have hmv : ∀ r f9, Y r = some 2 → z_L D Y r H f9 → z_L D Y r H' f9 := fun r f9 hr h9 => h9.moved hr (fun b u _ _ hb => hb) (fun b u g hb hu hg => x_eq.of (hk9 b u hb (by omega)))
  have hfl : ∀ r, Y r = some 2 → ∀ k, k < 16 → x_sl D 2 k r H' = x_sl D 2 k r H := fun r hr k _ => y_slk rfl (hk9 r 2 hr (by decide))
  have hdis : ∀ r r', Y r = some 2 → Y r' = some 2 → z_dis D H r r' → z_dis D H' r r' := fun r r' hr hr' h9 => h9.moved (fun k hk _ _ _ => hfl r hr k hk) (fun k hk _ _ _ => hfl r' hr' k hk)
  have hki : k i = none := by
    have := (kk i hi0).1.symm.trans hnull
    injection this with this
    exact z_rv_inj (b := none) this
  have hatj : ∀ j a, j < 2 → k j = some a → z_dis D H a c := fun j a hj hk => hnc a (Or.inr (Or.inr ⟨j, hj, by rw [(kk j hj).1, hk]; rfl⟩))
  have hdc := hnc hd (Or.inl a1)
  have hrc := hnc dr (Or.inr (Or.inl a2))
  have hq0 := hk9 q 0 hq (by decide)
  have htx := hk9 tx 4 b4 (by decide)
  refine ⟨hd, dr, kp, tx, by_, fun j => if j = i then some c else k j, ⟨y_slk a1 hq0, y_slk a2 hq0, y_slk a3 hq0, y_slk a4 hq0, y_slk a5 htx, y_slk a6 htx⟩, ⟨b1, b2, b3, b4, b5, fun j a hk => ?_⟩, hmv hd f b1 l1, ⟨f', hmv dr f' b2 l2⟩, fun j hj => ?_, ⟨hdis _ _ b1 b2 d1, fun j a hj hk => ?_, fun a b h0 h1 => ?_⟩, tc, ta.kept (hk9 by_ 39 b5 (by decide))⟩
  · dsimp only at hk
    by_cases e : j = i
    · rw [if_pos e] at hk; cases hk; exact hc
    · rw [if_neg e] at hk; exact b6 j a hk
  · dsimp only
    by_cases e : j = i
    · subst e
      exact ⟨by rw [if_pos rfl]; exact h_at, Or.inr ⟨c, g, if_pos rfl, if_pos rfl, hmv c g hc hL⟩⟩
    · refine ⟨by rw [if_neg e, h_ne j e]; exact (kk j hj).1, ?_⟩
      rcases (kk j hj).2 with ⟨e1, e2⟩ | ⟨a, g9, e1, e2, e3⟩
      · exact Or.inl ⟨(if_neg e).trans e1, (if_neg e).trans e2⟩
      · exact Or.inr ⟨a, g9, (if_neg e).trans e1, (if_neg e).trans e2, hmv a g9 (b6 j a e1) e3⟩
  · dsimp only at hk
    by_cases e : j = i
    · rw [if_pos e] at hk
      cases hk
      exact ⟨hdis _ _ b1 hc hdc, hdis _ _ b2 hc hrc⟩
    · rw [if_neg e] at hk
      exact ⟨hdis _ _ b1 (b6 j a hk) (d2 j a hj hk).1, hdis _ _ b2 (b6 j a hk) (d2 j a hj hk).2⟩
  · dsimp only at h0 h1
    rcases (by omega : i = 0 ∨ i = 1) with rfl | rfl
    · rw [if_pos rfl] at h0
      rw [if_neg (by decide)] at h1
      cases h0
      exact (hdis _ _ (b6 1 b h1) hc (hatj 1 b (by decide) h1)).symm
    · rw [if_neg (by decide)] at h0
      rw [if_pos rfl] at h1
      cases h1
      exact hdis _ _ (b6 0 a h0) hc (hatj 0 a (by decide) h0)
end ZRC
def m_from (f : Nat → Int32) (K : Nat → Option (Nat → Int32)) (i r : Int32) (g : Nat → Int32) : Prop := (¬ (0 ≤ i.toInt ∧ i.toInt ≤ 1) → r = -2 ∧ g = f) ∧ (0 ≤ i.toInt ∧ i.toInt ≤ 1 → K i.toInt.toNat = none → r = -3 ∧ g = f) ∧ (0 ≤ i.toInt ∧ i.toInt ≤ 1 → ∀ h, K i.toInt.toNat = some h → r = 1 ∧ g = h)
theorem m_from.eq {f g g' : Nat → Int32} {K : Nat → Option (Nat → Int32)} {i r r' : Int32} (h1 : m_from f K i r g) (h2 : m_from f K i r' g') : r = r' ∧ g = g' := by
  by_cases ho : 0 ≤ i.toInt ∧ i.toInt ≤ 1
  · cases hK : K i.toInt.toNat with
    | none =>
      have a := h1.2.1 ho hK
      have b := h2.2.1 ho hK
      exact ⟨a.1.trans b.1.symm, a.2.trans b.2.symm⟩
    | some h =>
      have a := h1.2.2 ho h hK
      have b := h2.2.2 ho h hK
      exact ⟨a.1.trans b.1.symm, a.2.trans b.2.symm⟩
  · have a := h1.1 ho
    have b := h2.1 ho
    exact ⟨a.1.trans b.1.symm, a.2.trans b.2.symm⟩
def m_imgK (f : Nat → Int32) (K : Nat → Option (Nat → Int32)) (i : Int32) : Nat → Option (Nat → Int32) := fun j => if (0 ≤ i.toInt ∧ i.toInt ≤ 1) ∧ j = i.toInt.toNat then some f else K j
def m_imgR (i : Int32) : Int32 := if 0 ≤ i.toInt ∧ i.toInt ≤ 1 then 1 else -2

