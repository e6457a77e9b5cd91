/-! new cells with what they hold at first -/
section YM
variable {p : Program} {l : Launch} {e : Env} {R : Room} {s : State} {m : MethodId} {args : Array Value} {below : List Frame} {meth : Method} {c : Code} {Q : State → Prop}
variable {D : va_G} {G : List xG} {Zs : List xZ} {U : State} {ef : List (Nat × Nat)} {Y0 : xY} {H0 : Heap} {nL : Nat} {cc : ByteArray} {cl : List vw_C} {Tb Nb : List Cond} {own : String} {M : xM} {A : yA} {P : yP} {idx n : Nat}
variable {Y : xY} {H : Heap} {locs : List Loc} {cells slots pc : Nat} {ls : Array Slot} {rest : List Value}
theorem y_newaC {at_ : ArrayType} {tag k : Nat} {v : Int32} {pre : List xV} {ft : xV} (X : x_cx p s m args c D U cc nL cl Tb Nb own) (hY0 : ∀ q u, Y0 q = some u → q < H0.size) (hI : x_I D G Zs U ef Y0 H0 Y H locs) (g1 : G[tag]? = some (.inr (newarray.typeOf at_, k, pre, ft))) (g2 : (newarray.typeOf at_).isReference = false) (g3 : k * componentBytes (newarray.typeOf at_) ≤ 536870912) (g4 : (Cond.arrayClass (newarray.typeOf at_)).before args s = true) (g5 : ∀ (Y : xY) (j : Nat), x_c Y (pre.getD j ft) (defaultValue (newarray.typeOf at_))) (hvn : v.toInt = (k : Int)) (hmc : cells + 1 ≤ R.cells) (hms : slots + k ≤ R.slots) (hd : decode cc pc = .ok (.newarray at_, 2))
    (kk : ∀ (Yn : xY) (H1 : Heap) (b : Nat), y_new D G Zs U ef Y0 H0 Y H locs tag Yn H1 b → (∀ j, j < k → y_at b j H1 = some (defaultValue (newarray.typeOf at_))) → W p l e R s m args below meth c H1 locs (cells + 1) (slots + k) Q (F0 m (pc + 2) ls (.ref b :: rest))) : W p l e R s m args below meth c H locs cells slots Q (F0 m pc ls (.int v :: rest)) := by
  obtain ⟨hx, hb, hml, hown, hts, hK, hK0, hU, hNw, hG, hN⟩ := X
  have hv0 : ¬ v < 0 := by
    rw [Int32.lt_iff_toInt_lt]
    have z0 : (0 : Int32).toInt = 0 := rfl
    omega
  have hvN : v.toNatClampNeg = k := by
    have hcl : v.toNatClampNeg = v.toInt.toNat := rfl
    rw [hcl]; omega
  refine va_newaK hx hb g4 rfl hd rfl hv0 hvN g3 hmc hms rfl fun H1 cA e1 z1 o1 hAr hNm => ?_
  refine kk _ H1 _ (y_new_of hI (y_made hY0 hI g1 z1 o1 ?_) o1) (fun j hj => by unfold y_at; rw [e1]; exact arrV_read _ _ hj)
  refine ⟨_, e1, State.isArrayOf_alike hU.alike.symm (hAr k _), fun hq => (by cases hq), arrV_size _ _ _, fun hq => absurd (g2.symm.trans hq) (by decide), fun j w hj => ?_⟩
  have hjn : j < k := by
    have := (Array.getElem?_eq_some_iff.mp hj).1
    rw [arrV_size] at this
    exact this
  rw [arrV_read _ _ hjn] at hj
  cases hj
  exact g5 _ j
theorem y_newrC {tag k idx : Nat} {v : Int32} {pre : List xV} {ft : xV} {C : String} (X : x_cx p s m args c D U cc nL cl Tb Nb own) (hY0 : ∀ q u, Y0 q = some u → q < H0.size) (hI : x_I D G Zs U ef Y0 H0 Y H locs) (g1 : G[tag]? = some (.inr (.object C, k, pre, ft))) (g2 : k * 4 ≤ 536870912) (g3 : (Cond.classLink own idx C).before args s = true) (g4 : (Cond.arrayOver (.object C)).before args s = true) (g5 : ∀ (Y : xY) (j : Nat), x_c Y (pre.getD j ft) .null) (hvn : v.toInt = (k : Int)) (hmc : cells + 1 ≤ R.cells) (hms : slots + k ≤ R.slots) (hd : decode cc pc = .ok (.anewarray idx, 3))
    (kk : ∀ (Yn : xY) (H1 : Heap) (b : Nat), y_new D G Zs U ef Y0 H0 Y H locs tag Yn H1 b → (∀ j, j < k → y_at b j H1 = some .null) → W p l e R s m args below meth c H1 locs (cells + 1) (slots + k) Q (F0 m (pc + 3) ls (.ref b :: rest))) : W p l e R s m args below meth c H locs cells slots Q (F0 m pc ls (.int v :: rest)) := by
  obtain ⟨hx, hb, hml, hown, hts, hK, hK0, hU, hNw, hG, hN⟩ := X
  have hv0 : ¬ v < 0 := by
    rw [Int32.lt_iff_toInt_lt]
    have z0 : (0 : Int32).toInt = 0 := rfl
    omega
  have hvN : v.toNatClampNeg = k := by
    have hcl : v.toNatClampNeg = v.toInt.toNat := rfl
    rw [hcl]; omega
  refine W.anew hx hb hown g3 g4 rfl hd rfl hv0 (by rw [hvN]; exact g2) hmc (by rw [hvN]; exact hms) fun cA kA comp n1 n2 n3 n4 => ?_
  rw [hvN]
  have hlast : (H.push { cls := cA, slots := Array.replicate k Value.null, vm := .none })[H.size]? = some { cls := cA, slots := Array.replicate k Value.null, vm := .none } := by simp
  have ho : ∀ q, q < H.size → (H.push { cls := cA, slots := Array.replicate k Value.null, vm := .none })[q]? = H[q]? := fun q hq => by rw [Array.getElem?_push, if_neg (Nat.ne_of_lt hq)]
  refine kk _ _ _ (y_new_of hI (y_made hY0 hI g1 (by simp) ho ?_) ho) (fun j hj => by unfold y_at; rw [hlast]; show (Array.replicate k Value.null)[j]? = _; simp [hj])
  refine ⟨_, hlast, State.isArrayOf_alike hU.alike.symm ⟨fun q hq => (by cases hq), kA, n2, comp, n3⟩, fun hq => (by cases hq), by simp, fun _ => ?_, fun j w hj => ?_⟩
  · exact va_RA.moved hU.alike.symm ⟨kA, comp, n2, n3, n4, n1⟩
  · obtain ⟨q1, q2⟩ := Array.getElem?_eq_some_iff.mp hj
    have : w = .null := by rw [← q2]; simp
    rw [this]
    exact g5 _ j
theorem y_newoC {tag idx ci : Nat} {fts : List xV} {C : String} {T : u_T} {ty : Nat → FieldType} (X : x_cx p s m args c D U cc nL cl Tb Nb own) (hY0 : ∀ q u, Y0 q = some u → q < H0.size) (hI : x_I D G Zs U ef Y0 H0 Y H locs) (g1 : G[tag]? = some (.inl (ci, fts))) (g2 : cl[ci]? = some (C, T, fts.length)) (g3 : ∀ w ∈ u_ws C T fts.length, w ∈ Tb) (g4 : ∀ k, k < fts.length → parseFieldDescriptor (T k).2.2.1 = some (ty k)) (g5 : (Cond.classLink own idx C).before args s = true) (g6 : (Cond.instantiable C fts.length).before args s = true) (g7 : (Cond.initialized C).before args s = true) (g8 : ∀ (Y : xY) (k : Nat) (ft : xV), fts[k]? = some ft → x_c Y ft (defaultValue (ty k))) (hmc : cells + 1 ≤ R.cells) (hms : slots + fts.length ≤ R.slots) (hd : decode cc pc = .ok (.new idx, 3))
    (kk : ∀ (Yn : xY) (H1 : Heap) (b : Nat), y_new D G Zs U ef Y0 H0 Y H locs tag Yn H1 b → (∀ k, k < fts.length → x_sl D ci k b H1 = some (defaultValue (ty k))) → W p l e R s m args below meth c H1 locs (cells + 1) (slots + fts.length) Q (F0 m (pc + 3) ls (.ref b :: rest))) : W p l e R s m args below meth c H locs cells slots Q (F0 m pc ls rest) := by
  obtain ⟨hx, hb, hml, hown, hts, hK, hK0, hU, hNw, hG, hN⟩ := X
  have hKn := hK.1 ci _ g2
  refine W.newcK hx hb hown g5 g6 g7 rfl hd hmc hms hKn.2.1 rfl fun H1 kC hkC e1 z1 o1 => ?_
  have hB := u_born ty hts g3 hKn hkC e1 g4
  refine kk _ H1 _ (y_new_of hI (y_made hY0 hI g1 z1 o1 ⟨fun k => defaultValue (ty k), hB, fun k ft hk => g8 _ k ft hk⟩) o1) (fun k hk => ?_)
  obtain ⟨cell, q1, -, -, q4⟩ := hB
  unfold x_sl
  rw [q1]
  exact q4 k hk
end YM
theorem z_atk {b j : Nat} {H H' : Heap} (hq : H'[b]? = H[b]?) : y_at b j H' = y_at b j H := by
  unfold y_at; rw [hq]
section YCP
variable {p : Program} {l : Launch} {e : Env} {R : Room} {s : State} {m : MethodId} {args : Array Value} {below : List Frame} {meth : Method} {c : Code} {Q : State → Prop}
variable {D : va_G} {G : List xG} {Zs : List xZ} {U : State} {ef : List (Nat × Nat)} {Y0 : xY} {H0 : Heap} {nL : Nat} {cc : ByteArray} {cl : List vw_C} {Tb Nb : List Cond} {own : String} {M : xM} {A : yA} {P : yP} {idx n : Nat}
theorem y_callCP {z : xCl} {Y : xY} {H : Heap} {locs : List Loc} {cells slots pc : Nat} {ls : Array Slot} {rest : List Value} {b t' : Nat} (hc : y_cok p l e R s m args below meth c D G Zs U nL cc z A P) (hY0 : ∀ q u, Y0 q = some u → q < H0.size) (hI : x_I D G Zs U ef Y0 H0 Y H locs) (hrt : x_rt z.2.2.2.2 = some t') (hd : decode cc pc = .ok (x_ins z.1 z.2.1, 3)) (hls : ls.size = nL) (hrest : (rest.map fun v => v.category).sum ≤ 8)
    (hcl : cells + (x_rm z.2.2.2.2).cells ≤ R.cells) (hsl : slots + (x_rm z.2.2.2.2).slots ≤ R.slots) (hav : x_cs Y (x_args z.2.2.2.2) [.ref b]) (hn : 1 = z.2.2.1) (hrv : z.2.2.2.1 = none) (hA : A D [.ref b] Y H) (hef : x_Sb (x_efs z.2.2.2.2) ef) (hbf : H0.size ≤ b) (hov : x_outs z.2.2.2.2 = [([.inr (.inr (false, [t']))], none)])
    (kk : ∀ (Y' : xY) (H' : Heap) (L : List Loc), x_I D G Zs U ef Y0 H0 Y' H' (locs ++ L) → Y' b = some t' → (∀ q u, q ≠ b → Y q = some u → Y' q = some u) → x_E D G (x_efs z.2.2.2.2) Y H H' → P D [.ref b] Y H none Y' H' → W p l e R s m args below meth c H' (locs ++ L) (cells + (x_rm z.2.2.2.2).cells) (slots + (x_rm z.2.2.2.2).slots) Q (F0 m (pc + 3) ls rest)) : W p l e R s m args below meth c H locs cells slots Q (F0 m pc ls (.ref b :: rest)) := by
  refine x_call_row (hc H locs cells slots pc ls rest [.ref b] Y hd hls hrest hcl hsl hI.1 hav hn (fun t ht => by rw [hrv] at ht; cases ht) hA) fun v st₀ t L h0 hL hq => ?_
  obtain ⟨v', Y', o, e0, ho, hret, hcs', hH', hext, hE', hF, hP⟩ := hq
  cases e0
  rw [h0] at hext hE' hF hP
  obtain ⟨hF1, hF2⟩ := hF
  rw [h0] at hF1
  unfold x_ext at hext
  rw [hrt] at hext
  dsimp only at hext
  obtain ⟨b', hb', hYb, hext⟩ := hext
  cases hb'
  rw [hov] at ho
  obtain rfl := List.mem_singleton.mp ho
  have hv : v = none := hret
  subst hv
  have hYY : ∀ q u, Y0 q = some u → Y q = some u := fun q u hq => by rw [hI.2.1 q (hY0 q u hq)]; exact hq
  have hsz : H0.size ≤ H.size := hI.2.2.2.1
  have hB : ∀ q, q < H.size → ((∃ u, Y q = some u) ∨ H.size ≤ q) → (∃ u, Y0 q = some u) ∨ H0.size ≤ q := fun q hq hz => by
    rcases Nat.lt_or_ge q H0.size with k | k
    · rcases hz with ⟨u, hu⟩ | hz
      · exact Or.inl ⟨u, by rw [← hI.2.1 q k]; exact hu⟩
      · omega
    · exact Or.inr k
  refine kk Y' t.heap L ⟨hH', fun q hq => ?_, hI.2.2.1.trans hE' hYY hef, Nat.le_trans hsz hF1, fun q q1 q2 => ?_, fun q hq => ?_⟩ hYb (fun q u q1 q2 => by rw [hext q (hI.1.lt q2) q1]; exact q2) hE' hP
  · rw [hext q (Nat.lt_of_lt_of_le hq hsz) (by omega)]; exact hI.2.1 q hq
  · have hqH : q < H.size := Nat.lt_of_lt_of_le q1 hsz
    rw [hF2 q (by rw [h0]; exact hqH) (fun z => q2 (hB q hqH z)), h0]
    exact hI.2.2.2.2.1 q q1 q2
  · rcases List.mem_append.mp hq with hq | hq
    · exact hI.2.2.2.2.2 q hq
    · rcases Nat.lt_or_ge q.base H.size with k | k
      · exact hB _ k (hL q hq)
      · exact Or.inr (Nat.le_trans hsz k)
end YCP
