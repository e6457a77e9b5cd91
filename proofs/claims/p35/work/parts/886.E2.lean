section ZE2
variable {D : va_G} {Y Y' : xY} {H H' : Heap} {q : Nat} {f t : Nat → Int32} {K : Nat → Option (Nat → Int32)} {n : Int32} {ef : List (Nat × Nat)}
/-- a call that touches no land: the reference's own cells are none -/
def z_nld2 (ef : List (Nat × Nat)) : Bool := ef.all (fun z => !(Nat.beq z.1 2) && (!(Nat.ble 11 z.1 && Nat.ble z.1 16) && !(Nat.ble 19 z.1 && Nat.ble z.1 31)))
theorem z_nld2_ok {u k : Nat} (h : z_nld2 ef = true) (ht : u = 2 ∨ (11 ≤ u ∧ u ≤ 16) ∨ (19 ≤ u ∧ u ≤ 31)) : (u, k) ∉ ef := fun hz => by
  have h1 := List.all_eq_true.mp h _ hz
  rw [Bool.and_eq_true, Bool.and_eq_true, Bool.not_eq_true', Bool.not_eq_true', Bool.not_eq_true'] at h1
  rcases ht with rfl | ht | ht
  · exact absurd h1.1 (by show ¬ (Nat.beq 2 2 = false); decide)
  · have h2 := h1.2.1
    rw [Nat.ble_eq_true_of_le ht.1, Nat.ble_eq_true_of_le ht.2] at h2
    cases h2
  · have h2 := h1.2.2
    rw [Nat.ble_eq_true_of_le ht.1, Nat.ble_eq_true_of_le ht.2] at h2
    cases h2
theorem z_L.E2 (h : z_L D Y q H f) (hq : Y q = some 2) (hE : x_E D x_G ef Y H H') (hm : ∀ b u, Y b = some u → Y' b = some u) (hn : z_nld2 ef = true) : z_L D Y' q H' f := by
  have h' := h
  obtain ⟨-, k1, ⟨b, b1, b2, b3⟩, -⟩ := h'
  have harr : ∀ (a t : Nat), Y a = some t → 19 ≤ t → t ≤ 31 → H'[a]? = H[a]? := fun a t ha h1 h2 => by
    obtain ⟨gg, hg⟩ := z_arrT h1 h2
    exact y_Earr hE ha hg (z_nld2_ok hn (Or.inr (Or.inr ⟨h1, h2⟩)))
  refine h.keptS hm (fun k hk => ?_) (fun c hc a ha => ?_) (fun a ha => ?_)
  · exact y_Efld hE hq rfl hk (z_nld2_ok hn (Or.inl rfl)) rfl
  · obtain ⟨a', e1, e2, -⟩ := k1 c hc
    cases e1.symm.trans ha
    have := z_C_tag c hc
    exact harr a _ e2 (by omega) (by omega)
  · cases b1.symm.trans ha
    refine ⟨harr b 24 b2 (by omega) (by omega), fun j s hj hs z hz hY k hk => ?_⟩
    simp only [z_Kd, List.mem_cons, List.not_mem_nil, or_false] at hz
    rcases hz with rfl | rfl | rfl | rfl | rfl | rfl <;> exact y_Efld hE hY rfl hk (z_nld2_ok hn (Or.inr (Or.inl ⟨by decide, by decide⟩))) rfl
def z_ncR2 (ef : List (Nat × Nat)) : Bool := z_nld2 ef && (ef.all (fun z => !(Nat.beq z.1 39) && !(Nat.beq z.1 41)) && (!(x_ein ef 0 0) && (!(x_ein ef 0 1) && (!(x_ein ef 0 2) && (!(x_ein ef 0 3) && (!(x_ein ef 4 0) && !(x_ein ef 4 2)))))))
theorem z_RC.E2 (h : z_RC D Y H q f K t n) (hq : Y q = some 0) (hE : x_E D x_G ef Y H H') (hm : ∀ b u, Y b = some u → Y' b = some u) (hn : z_ncR2 ef = true) : z_RC D Y' H' q f K t n := by
  simp only [z_ncR2, Bool.and_eq_true, Bool.not_eq_true'] at hn
  obtain ⟨n1, n2, n3, n4, n5, n6, n7, n8⟩ := hn
  have n2' : ef.all (fun z => !(Nat.beq z.1 39) && !(Nat.beq z.1 41)) = true := by
    simpa using n2
  obtain ⟨hd, dr, kp, tx, by_, k, ⟨a1, a2, a3, a4, a5, a6⟩, ⟨b1, b2, b3, b4, b5, b6⟩, l1, ⟨f', l2⟩, kk, ⟨d1, d2, d3⟩, tc, ta⟩ := h
  have hfl : ∀ r, Y r = some 2 → ∀ k, k < 16 → x_sl D 2 k r H' = x_sl D 2 k r H := fun r hr k hk => y_Efld hE hr rfl hk (z_nld2_ok n1 (Or.inl rfl)) rfl
  have hdis : ∀ r r', Y r = some 2 → Y r' = some 2 → z_dis D H r r' → z_dis D H' r r' := fun r r' hr hr' h9 => h9.moved (fun k hk _ _ _ => hfl r hr k hk) (fun k hk _ _ _ => hfl r' hr' k hk)
  have hkp : H'[kp]? = H[kp]? := y_Earr hE b3 rfl (z_ntagR n2' (Or.inr rfl))
  refine ⟨hd, dr, kp, tx, by_, k, ⟨y_Efld hE hq rfl (by decide) (z_ninR n3) a1, y_Efld hE hq rfl (by decide) (z_ninR n4) a2, y_Efld hE hq rfl (by decide) (z_ninR n5) a3, y_Efld hE hq rfl (by decide) (z_ninR n6) a4, y_Efld hE b4 rfl (by decide) (z_ninR n7) a5, y_Efld hE b4 rfl (by decide) (z_ninR n8) a6⟩, ⟨hm _ _ b1, hm _ _ b2, hm _ _ b3, hm _ _ b4, hm _ _ b5, fun i a hk => hm _ _ (b6 i a hk)⟩, l1.E2 b1 hE hm n1, ⟨f', l2.E2 b2 hE hm n1⟩, fun i hi => ?_, ⟨hdis _ _ b1 b2 d1, fun i a hi hk => ⟨hdis _ _ b1 (b6 i a hk) (d2 i a hi hk).1, hdis _ _ b2 (b6 i a hk) (d2 i a hi hk).2⟩, fun a b h0 h1 => hdis _ _ (b6 0 a h0) (b6 1 b h1) (d3 a b h0 h1)⟩, tc, ta.kept (y_Earr hE b5 rfl (z_ntagR n2' (Or.inl rfl)))⟩
  refine ⟨by rw [z_atk hkp]; exact (kk i hi).1, ?_⟩
  rcases (kk i hi).2 with h9 | ⟨a, g9, e1, e2, e3⟩
  · exact Or.inl h9
  · exact Or.inr ⟨a, g9, e1, e2, e3.E2 (b6 i a e1) hE hm n1⟩
end ZE2
