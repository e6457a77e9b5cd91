/-! calls of constructors; the law's start -/
section YCC
variable {p : Program} {l : Launch} {e : Env} {R : Room} {s : State} {m : MethodId} {args : Array Value} {below : List Frame} {meth : Method} {c : Code} {Q : State → Prop}
variable {D : va_G} {G : List xG} {Zs : List xZ} {U : State} {ef : List (Nat × Nat)} {Y0 : xY} {H0 : Heap} {nL : Nat} {cc : ByteArray} {cl : List vw_C} {Tb Nb : List Cond} {own : String} {M : xM} {A : yA} {P : yP} {idx n : Nat}
theorem y_callC {z : xCl} {Y : xY} {H : Heap} {locs : List Loc} {cells slots pc : Nat} {ls : Array Slot} {rest : List Value} {b t' : Nat} (hc : y_cok p l e R s m args below meth c D G Zs U nL cc z A P) (hY0 : ∀ q u, Y0 q = some u → q < H0.size) (hI : x_I D G Zs U ef Y0 H0 Y H locs) (hrt : x_rt z.2.2.2.2 = some t') (hd : decode cc pc = .ok (x_ins z.1 z.2.1, 3)) (hls : ls.size = nL) (hrest : (rest.map fun v => v.category).sum ≤ 8)
    (hcl : cells + (x_rm z.2.2.2.2).cells ≤ R.cells) (hsl : slots + (x_rm z.2.2.2.2).slots ≤ R.slots) (hav : x_cs Y (x_args z.2.2.2.2) [.ref b]) (hn : 1 = z.2.2.1) (hrv : z.2.2.2.1 = none) (hA : A D [.ref b] Y H) (hef : x_Sb (x_efs z.2.2.2.2) ef) (hbf : H0.size ≤ b) (hov : x_outs z.2.2.2.2 = [([.inr (.inr (false, [t']))], none)])
    (kk : ∀ (Y' : xY) (H' : Heap) (L : List Loc), x_I D G Zs U ef Y0 H0 Y' H' (locs ++ L) → Y' b = some t' → (∀ q u, q ≠ b → Y q = some u → Y' q = some u) → x_E D G (x_efs z.2.2.2.2) Y H H' → W p l e R s m args below meth c H' (locs ++ L) (cells + (x_rm z.2.2.2.2).cells) (slots + (x_rm z.2.2.2.2).slots) Q (F0 m (pc + 3) ls rest)) : W p l e R s m args below meth c H locs cells slots Q (F0 m pc ls (.ref b :: rest)) := by
  refine x_call_row (hc H locs cells slots pc ls rest [.ref b] Y hd hls hrest hcl hsl hI.1 hav hn (fun t ht => by rw [hrv] at ht; cases ht) hA) fun v st₀ t L h0 hL hq => ?_
  obtain ⟨v', Y', o, e0, ho, hret, hcs', hH', hext, hE', hF, hP⟩ := hq
  cases e0
  rw [h0] at hext hE' hF hP
  obtain ⟨hF1, hF2⟩ := hF
  rw [h0] at hF1
  unfold x_ext at hext
  rw [hrt] at hext
  dsimp only at hext
  obtain ⟨b', hb', hYb, hext⟩ := hext
  cases hb'
  rw [hov] at ho
  obtain rfl := List.mem_singleton.mp ho
  have hv : v = none := hret
  subst hv
  have hYY : ∀ q u, Y0 q = some u → Y q = some u := fun q u hq => by rw [hI.2.1 q (hY0 q u hq)]; exact hq
  have hsz : H0.size ≤ H.size := hI.2.2.2.1
  have hB : ∀ q, q < H.size → ((∃ u, Y q = some u) ∨ H.size ≤ q) → (∃ u, Y0 q = some u) ∨ H0.size ≤ q := fun q hq hz => by
    rcases Nat.lt_or_ge q H0.size with k | k
    · rcases hz with ⟨u, hu⟩ | hz
      · exact Or.inl ⟨u, by rw [← hI.2.1 q k]; exact hu⟩
      · omega
    · exact Or.inr k
  refine kk Y' t.heap L ⟨hH', fun q hq => ?_, hI.2.2.1.trans hE' hYY hef, Nat.le_trans hsz hF1, fun q q1 q2 => ?_, fun q hq => ?_⟩ hYb (fun q u q1 q2 => by rw [hext q (hI.1.lt q2) q1]; exact q2) hE'
  · rw [hext q (Nat.lt_of_lt_of_le hq hsz) (by omega)]; exact hI.2.1 q hq
  · have hqH : q < H.size := Nat.lt_of_lt_of_le q1 hsz
    rw [hF2 q (by rw [h0]; exact hqH) (fun z => q2 (hB q hqH z)), h0]
    exact hI.2.2.2.2.1 q q1 q2
  · rcases List.mem_append.mp hq with hq | hq
    · exact hI.2.2.2.2.2 q hq
    · rcases Nat.lt_or_ge q.base H.size with k | k
      · exact hB _ k (hL q hq)
      · exact Or.inr (Nat.le_trans hsz k)
end YCC
section YLL
variable {p : Program} {l : Launch} {e : Env} {R : Room} {s : State} {m : MethodId} {args : Array Value} {below : List Frame} {meth : Method} {c : Code} {Q : State → Prop}
variable {D : va_G} {G : List xG} {Zs : List xZ} {U : State} {nL : Nat} {cc : ByteArray} {cl : List vw_C} {Tb Nb : List Cond} {own : String}
variable {Y : xY} {H : Heap} {locs : List Loc} {cells slots pc : Nat} {ls : Array Slot} {rest : List Value}
theorem y_alen {b t N : Nat} {et : FieldType} {pre : List xV} {ft : xV} (X : x_cx p s m args c D U cc nL cl Tb Nb own) (hH : x_H D G Zs U Y H) (hY : Y b = some t) (hg : G[t]? = some (.inr (et, N, pre, ft))) (hd : decode cc pc = .ok (.arraylength, 1))
    (kk : W p l e R s m args below meth c H locs cells slots Q (F0 m (pc + 1) ls (.int (nI N) :: rest))) : W p l e R s m args below meth c H locs cells slots Q (F0 m pc ls (.ref b :: rest)) := by
  obtain ⟨hx, hb, hml, hown, hts, hK, hK0, hU, hNw, hG, hN⟩ := X
  obtain ⟨g, g1, g2⟩ := hH.1 b _ hY
  cases g1.symm.trans hg
  obtain ⟨cell, q1, q2, q3, q4, q5, q6⟩ := g2
  have q4' : cell.slots.size = N := q4
  exact W.alen (n := nI N) hx hb q1 (State.isArrayOf_alike hU.alike q2) (by rw [q4']; rfl) rfl rfl hd kk
theorem y_aald {b t N : Nat} {C : String} {pre : List xV} {ft : xV} {i : Int32} {v : Value} (X : x_cx p s m args c D U cc nL cl Tb Nb own) (hH : x_H D G Zs U Y H) (hY : Y b = some t) (hg : G[t]? = some (.inr (.object C, N, pre, ft))) (h0 : 0 ≤ i.toInt) (h1 : i.toInt < (N : Int)) (hv : y_at b i.toInt.toNat H = some v) (hd : decode cc pc = .ok (.aaload, 1))
    (kk : W p l e R s m args below meth c H locs cells slots Q (F0 m (pc + 1) ls (v :: rest))) : W p l e R s m args below meth c H locs cells slots Q (F0 m pc ls (.int i :: .ref b :: rest)) := by
  obtain ⟨hx, hb, hml, hown, hts, hK, hK0, hU, hNw, hG, hN⟩ := X
  obtain ⟨g, g1, g2⟩ := hH.1 b _ hY
  cases g1.symm.trans hg
  obtain ⟨cell, q1, q2, q3, q4, q5, q6⟩ := g2
  have q4' : cell.slots.size = N := q4
  have hix := x_idx (u := (i.toInt, i.toInt)) ⟨Int.le_refl _, Int.le_refl _⟩ h0 h1
  have hcl : i.toNatClampNeg = i.toInt.toNat := rfl
  exact W.aald hx hb q1 (State.isArrayOf_alike hU.alike q2) rfl q3 (by rw [q4']; exact hix.1) (by rw [hcl]; unfold y_at at hv; rw [q1] at hv; exact hv) rfl rfl hd kk
theorem y_elt {b t N j : Nat} {et : FieldType} {pre : List xV} {ft : xV} (hH : x_H D G Zs U Y H) (hY : Y b = some t) (hg : G[t]? = some (.inr (et, N, pre, ft))) (hj : j < N) : ∃ v, y_at b j H = some v ∧ x_c Y (pre.getD j ft) v := by
  obtain ⟨g, g1, g2⟩ := hH.1 b _ hY
  cases g1.symm.trans hg
  obtain ⟨cell, q1, q2, q3, q4, q5, q6⟩ := g2
  have q4' : cell.slots.size = N := q4
  have hs : j < cell.slots.size := by omega
  refine ⟨cell.slots[j], ?_, q6 j _ (Array.getElem?_eq_getElem hs)⟩
  unfold y_at
  rw [q1]
  exact Array.getElem?_eq_getElem hs
end YLL
