/-! calls of constructors; the law's start -/
section YCC
variable {p : Program} {l : Launch} {e : Env} {R : Room} {s : State} {m : MethodId} {args : Array Value} {below : List Frame} {meth : Method} {c : Code} {Q : State → Prop}
variable {D : va_G} {G : List xG} {Zs : List xZ} {U : State} {ef : List (Nat × Nat)} {Y0 : xY} {H0 : Heap} {nL : Nat} {cc : ByteArray} {cl : List vw_C} {Tb Nb : List Cond} {own : String} {M : xM} {A : yA} {P : yP} {idx n : Nat}
end YCC
section YLL
variable {p : Program} {l : Launch} {e : Env} {R : Room} {s : State} {m : MethodId} {args : Array Value} {below : List Frame} {meth : Method} {c : Code} {Q : State → Prop}
variable {D : va_G} {G : List xG} {Zs : List xZ} {U : State} {nL : Nat} {cc : ByteArray} {cl : List vw_C} {Tb Nb : List Cond} {own : String}
variable {Y : xY} {H : Heap} {locs : List Loc} {cells slots pc : Nat} {ls : Array Slot} {rest : List Value}
theorem y_alen {b t N : Nat} {et : FieldType} {pre : List xV} {ft : xV} (X : x_cx p s m args c D U cc nL cl Tb Nb own) (hH : x_H D G Zs U Y H) (hY : Y b = some t) (hg : G[t]? = some (.inr (et, N, pre, ft))) (hd : decode cc pc = .ok (.arraylength, 1))
    (kk : W p l e R s m args below meth c H locs cells slots Q (F0 m (pc + 1) ls (.int (nI N) :: rest))) : W p l e R s m args below meth c H locs cells slots Q (F0 m pc ls (.ref b :: rest)) := by
  obtain ⟨hx, hb, hml, hown, hts, hK, hK0, hU, hNw, hG, hN⟩ := X
  obtain ⟨g, g1, g2⟩ := hH.1 b _ hY
  cases g1.symm.trans hg
  obtain ⟨cell, q1, q2, q3, q4, q5, q6⟩ := g2
  have q4' : cell.slots.size = N := q4
  exact W.alen (n := nI N) hx hb q1 (State.isArrayOf_alike hU.alike q2) (by rw [q4']; rfl) rfl rfl hd kk
theorem y_aald {b t N : Nat} {C : String} {pre : List xV} {ft : xV} {i : Int32} {v : Value} (X : x_cx p s m args c D U cc nL cl Tb Nb own) (hH : x_H D G Zs U Y H) (hY : Y b = some t) (hg : G[t]? = some (.inr (.object C, N, pre, ft))) (h0 : 0 ≤ i.toInt) (h1 : i.toInt < (N : Int)) (hv : y_at b i.toInt.toNat H = some v) (hd : decode cc pc = .ok (.aaload, 1))
    (kk : W p l e R s m args below meth c H locs cells slots Q (F0 m (pc + 1) ls (v :: rest))) : W p l e R s m args below meth c H locs cells slots Q (F0 m pc ls (.int i :: .ref b :: rest)) := by
  obtain ⟨hx, hb, hml, hown, hts, hK, hK0, hU, hNw, hG, hN⟩ := X
  obtain ⟨g, g1, g2⟩ := hH.1 b _ hY
  cases g1.symm.trans hg
  obtain ⟨cell, q1, q2, q3, q4, q5, q6⟩ := g2
  have q4' : cell.slots.size = N := q4
  have hix := x_idx (u := (i.toInt, i.toInt)) ⟨Int.le_refl _, Int.le_refl _⟩ h0 h1
  have hcl : i.toNatClampNeg = i.toInt.toNat := rfl
  exact W.aald hx hb q1 (State.isArrayOf_alike hU.alike q2) rfl q3 (by rw [q4']; exact hix.1) (by rw [hcl]; unfold y_at at hv; rw [q1] at hv; exact hv) rfl rfl hd kk
theorem y_elt {b t N j : Nat} {et : FieldType} {pre : List xV} {ft : xV} (hH : x_H D G Zs U Y H) (hY : Y b = some t) (hg : G[t]? = some (.inr (et, N, pre, ft))) (hj : j < N) : ∃ v, y_at b j H = some v ∧ x_c Y (pre.getD j ft) v := by
  obtain ⟨g, g1, g2⟩ := hH.1 b _ hY
  cases g1.symm.trans hg
  obtain ⟨cell, q1, q2, q3, q4, q5, q6⟩ := g2
  have q4' : cell.slots.size = N := q4
  have hs : j < cell.slots.size := by omega
  refine ⟨cell.slots[j], ?_, q6 j _ (Array.getElem?_eq_getElem hs)⟩
  unfold y_at
  rw [q1]
  exact Array.getElem?_eq_getElem hs
end YLL
