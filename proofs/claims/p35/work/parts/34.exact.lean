/-! EXACT CONTRACTS: what a method answers and does, over the typed heap; what it wants beyond its arguments' kinds (A), what holds behind it (P) -/
abbrev yA : Type := va_G → List Value → xY → Heap → Prop
abbrev yP : Type := va_G → List Value → xY → Heap → Option Value → xY → Heap → Prop
def y_Q (D : va_G) (G : List xG) (Zs : List xZ) (U : State) (M : xM) (P : yP) (av : List Value) (Y : xY) : Array Value → State → Outcome → State → Prop := fun _ st oc t =>
  ∃ (v : Option Value) (Y' : xY) (o : List xV × Option xV), oc = .returned v ∧ o ∈ x_outs M ∧ x_ret Y' o.2 v ∧ x_cs Y' o.1 av ∧ x_H D G Zs U Y' t.heap ∧ x_ext (x_rt M) av Y Y' st.heap.size ∧ x_E D G (x_efs M) Y st.heap t.heap ∧ va_F (fun q => (∃ u, Y q = some u) ∨ st.heap.size ≤ q) st t ∧ P D av Y st.heap v Y' t.heap
def y_Met (cl : List vw_C) (G : List xG) (Zs : List xZ) (Tb Nb : List Cond) (M : xM) (A : yA) (P : yP) : Prop := ∀ (l : Launch) (D : va_G) (U : State) (Y : xY) (sz : Nat) (av : List Value), va_K D cl [] U → x_cs Y (x_args M) av →
  Met l M.1 (.code M.1 M.2.1 M.2.2.1 M.2.2.2.1 :: Tb) (x_rm M) (va_Pc av (fun S => S.heap.size = sz ∧ U.WarmedH S.vm ∧ x_H D G Zs U Y S.heap ∧ (∀ w ∈ Nb, va_Nw w S) ∧ A D av Y S.heap)) (y_Q D G Zs U M P av Y) (x_rm M).cells (x_rm M).slots (fun q => (∃ u, Y q = some u) ∨ sz ≤ q)
abbrev y_T : yA := fun _ _ _ _ => True
abbrev y_TP : yP := fun _ _ _ _ _ _ _ => True
section YC
variable {p : Program} {l : Launch} {e : Env} {R : Room} {s : State} {m : MethodId} {args : Array Value} {below : List Frame} {meth : Method} {c : Code} {Q : State → Prop}
variable {D : va_G} {G : List xG} {Zs : List xZ} {U : State} {ef : List (Nat × Nat)} {Y0 : xY} {H0 : Heap} {nL : Nat} {cc : ByteArray} {cl : List vw_C} {Tb Nb : List Cond} {own : String} {M : xM} {A : yA} {P : yP} {idx n : Nat}
theorem y_blind {av : List Value} {Y : xY} {sz : Nat} (hN : ∀ w ∈ Nb, x_Nk w = true) : FrameBlind (va_Pc av (fun S => S.heap.size = sz ∧ U.WarmedH S.vm ∧ x_H D G Zs U Y S.heap ∧ (∀ w ∈ Nb, va_Nw w S) ∧ A D av Y S.heap)) := by
  intro a V g mk q
  obtain ⟨q0, q1, q2, q3, q4, q5⟩ := q
  exact ⟨q0, q1, q2, q3, fun w hw => x_Nk_same (u := V) (hN w hw) rfl (q4 w hw), q5⟩
theorem y_pre {av : List Value} {Y : xY} {H : Heap} (hN : ∀ w ∈ Nb, x_Nk w = true) (hNw : ∀ w ∈ Nb, va_Nw w s) (hU : U.WarmedH s.vm) (hH : x_H D G Zs U Y H) (hA : A D av Y H) : ∀ V : State, V.heap = H → s.WarmedH V.vm → va_Pc av (fun S => S.heap.size = H.size ∧ U.WarmedH S.vm ∧ x_H D G Zs U Y S.heap ∧ (∀ w ∈ Nb, va_Nw w S) ∧ A D av Y S.heap) av.toArray V :=
  fun V hV hW => ⟨rfl, by rw [hV], State.WarmedH.trans hU hW, by rw [hV]; exact hH, fun w hw => x_Nk_ok (hN w hw) hW (hNw w hw), by rw [hV]; exact hA⟩
variable (p l e R s m args below meth c D G Zs U nL cc) in
def y_cok (z : xCl) (A : yA) (P : yP) : Prop := ∀ (H : Heap) (locs : List Loc) (cells slots pc : Nat) (ls : Array Slot) (rest av : List Value) (Y : xY), decode cc pc = .ok (x_ins z.1 z.2.1, 3) → ls.size = nL → (rest.map fun v => v.category).sum ≤ 8 →
  cells + (x_rm z.2.2.2.2).cells ≤ R.cells → slots + (x_rm z.2.2.2.2).slots ≤ R.slots → x_H D G Zs U Y H → x_cs Y (x_args z.2.2.2.2) av → av.length = z.2.2.1 → (∀ t, z.2.2.2.1 = some t → ∃ b : Nat, av[0]? = some (.ref b) ∧ Y b = some t) → A D av Y H →
  va_Run p l e R s m args below meth c H locs cells slots (x_rm z.2.2.2.2).cells (x_rm z.2.2.2.2).slots (F0 m pc ls (av.reverse ++ rest)) rest (y_Q D G Zs U z.2.2.2.2 P av Y av.toArray) (fun q => (∃ u, Y q = some u) ∨ H.size ≤ q)
theorem y_cok.of {z : xCl} (h : x_cok p l e R s m args below meth c D G Zs U nL cc z) : y_cok p l e R s m args below meth c D G Zs U nL cc z y_T y_TP := by
  intro H locs cells slots pc ls rest av Y h1 h2 h3 h4 h5 h6 h7 h8 h9 _ T hT X
  obtain ⟨v, st₀, t, T', L, a1, a2, a3, a4, a5, ⟨v', Y', o, b1, b2, b3, b4, b5, b6, b7, b8⟩, a7⟩ := h H locs cells slots pc ls rest av Y h1 h2 h3 h4 h5 h6 h7 h8 h9 T hT X
  exact ⟨v, st₀, t, T', L, a1, a2, a3, a4, a5, ⟨v', Y', o, b1, b2, b3, b4, b5, b6, b7, b8, trivial⟩, a7⟩
theorem y_cok.x {z : xCl} (h : y_cok p l e R s m args below meth c D G Zs U nL cc z A P) (hA : ∀ (av : List Value) (Y : xY) (H : Heap), x_H D G Zs U Y H → x_cs Y (x_args z.2.2.2.2) av → A D av Y H) : x_cok p l e R s m args below meth c D G Zs U nL cc z := by
  intro H locs cells slots pc ls rest av Y h1 h2 h3 h4 h5 h6 h7 h8 h9 T hT X
  obtain ⟨v, st₀, t, T', L, a1, a2, a3, a4, a5, ⟨v', Y', o, b1, b2, b3, b4, b5, b6, b7, b8, -⟩, a7⟩ := h H locs cells slots pc ls rest av Y h1 h2 h3 h4 h5 h6 h7 h8 h9 (hA av Y H h6 h7) T hT X
  exact ⟨v, st₀, t, T', L, a1, a2, a3, a4, a5, ⟨v', Y', o, b1, b2, b3, b4, b5, b6, b7, b8⟩, a7⟩
theorem y_cokS (X : x_cx p s m args c D U cc nL cl Tb Nb own) (hM : y_Met cl G Zs Tb Nb M A P) (h : ∀ w ∈ [Cond.methodLink own idx M.1, .static M.1, .initialized M.1.cls], w ∈ Tb) (hc : Cond.code M.1 M.2.1 M.2.2.1 M.2.2.2.1 ∈ Tb)
    (hd : M.1.cls ≠ "java/lang/invoke/MethodHandle" ∧ M.1.cls ≠ "java/lang/invoke/VarHandle" ∧ (parseMethodDescriptor M.1.desc).map (fun d => d.parameters.length) = some n) (hR : (x_rm M).frames + 1 ≤ R.frames ∧ 8 + (M.2.2.1 + 11) + (x_rm M).locals ≤ R.locals) :
    y_cok p l e R s m args below meth c D G Zs U nL cc (1, idx, n, none, M) A P := by
  intro H locs cells slots pc ls rest av Y hdec hls hrest hcl hsl hH hcs hlen hrt hA
  obtain ⟨hx, hb, hml, hown, hts, hK, hK0, hU, hNw, hG, hN⟩ := X
  exact va_runS (As := av) (rest := rest) (Ts := Tb) ⟨hx, hb, hml, hown, hts⟩ (hM l D U Y H.size av hK0 hcs) (va_cwS n hts (x_good hG h hc) rfl rfl rfl hd hR) ⟨y_blind hN, y_pre hN hNw hU hH hA⟩ rfl hlen hls rfl (lv_room hrest) hdec ⟨hcl, hsl⟩
theorem y_cokV {t ci : Nat} {fts : List xV} {q : vw_C} (X : x_cx p s m args c D U cc nL cl Tb Nb own) (hM : y_Met cl G Zs Tb Nb M A P) (hg : G[t]? = some (.inl (ci, fts))) (hq : cl[ci]? = some q) (hC : M.1.cls = q.1)
    (h : ∀ w ∈ [Cond.methodLink own idx M.1, .instanceMethod M.1, .selects q.1 M.1 M.1, .initialized q.1], w ∈ Tb) (hc : Cond.code M.1 M.2.1 M.2.2.1 M.2.2.2.1 ∈ Tb)
    (hd : M.1.cls ≠ "java/lang/invoke/MethodHandle" ∧ M.1.cls ≠ "java/lang/invoke/VarHandle" ∧ (parseMethodDescriptor M.1.desc).map (fun d => d.parameters.length) = some n) (hR : (x_rm M).frames + 1 ≤ R.frames ∧ 8 + (M.2.2.1 + 11) + (x_rm M).locals ≤ R.locals) :
    y_cok p l e R s m args below meth c D G Zs U nL cc (0, idx, n + 1, some t, M) A P := by
  intro H locs cells slots pc ls rest av Y hdec hls hrest hcl hsl hH hcs hlen hrt hA
  obtain ⟨hx, hb, hml, hown, hts, hK, hK0, hU, hNw, hG, hN⟩ := X
  obtain ⟨b, hb0, hbY⟩ := hrt t rfl
  cases hav : av with
  | nil => rw [hav] at hb0; cases hb0
  | cons v As =>
    rw [hav] at hb0 hcs hlen hA
    have hv : v = .ref b := by simpa using hb0
    subst hv
    have hM1 := hM l D U Y H.size (.ref b :: As) hK0 hcs
    rw [List.reverse_cons, List.append_assoc]
    exact va_runV (As := As) (rest := rest) (Ts := Tb) (C := q.1) ⟨hx, hb, hml, hown, hts⟩ hM1 (cwV n hts (x_good hG h hc) rfl rfl rfl ⟨hC, hd⟩ hR) ⟨y_blind hN, x_recv hK hH hbY hg hq, y_pre hN hNw hU hH hA⟩ rfl (by simpa using hlen) hls rfl (lv_room hrest) hdec ⟨hcl, hsl⟩
/-- a call, and what holds behind it -/
theorem y_call {z : xCl} {Y : xY} {H : Heap} {locs : List Loc} {cells slots pc : Nat} {ls : Array Slot} {rest av : List Value} (hc : y_cok p l e R s m args below meth c D G Zs U nL cc z A P) (hY0 : ∀ q u, Y0 q = some u → q < H0.size) (hI : x_I D G Zs U ef Y0 H0 Y H locs) (hrt : x_rt z.2.2.2.2 = none) (hd : decode cc pc = .ok (x_ins z.1 z.2.1, 3)) (hls : ls.size = nL) (hrest : (rest.map fun v => v.category).sum ≤ 8)
    (hcl : cells + (x_rm z.2.2.2.2).cells ≤ R.cells) (hsl : slots + (x_rm z.2.2.2.2).slots ≤ R.slots) (hav : x_cs Y (x_args z.2.2.2.2) av) (hn : av.length = z.2.2.1) (hrv : ∀ t, z.2.2.2.1 = some t → ∃ b : Nat, av[0]? = some (.ref b) ∧ Y b = some t) (hA : A D av Y H) (hef : x_Sb (x_efs z.2.2.2.2) ef)
    (kk : ∀ (v : Option Value) (Y' : xY) (o : List xV × Option xV) (H' : Heap) (L : List Loc), o ∈ x_outs z.2.2.2.2 → x_ret Y' o.2 v → x_cs Y' o.1 av → x_I D G Zs U ef Y0 H0 Y' H' (locs ++ L) → (∀ q, q < H.size → Y' q = Y q) → x_E D G (x_efs z.2.2.2.2) Y H H' → P D av Y H v Y' H' →
      W p l e R s m args below meth c H' (locs ++ L) (cells + (x_rm z.2.2.2.2).cells) (slots + (x_rm z.2.2.2.2).slots) Q (F0 m (pc + 3) ls (v.toList ++ rest))) : W p l e R s m args below meth c H locs cells slots Q (F0 m pc ls (av.reverse ++ rest)) := by
  refine x_call_row (hc H locs cells slots pc ls rest av Y hd hls hrest hcl hsl hI.1 hav hn hrv hA) fun v st₀ t L h0 hL hq => ?_
  obtain ⟨v', Y', o, e0, ho, hret, hcs', hH', hext, hE', hF, hP⟩ := hq
  cases e0
  rw [h0] at hext hE' hF hP
  obtain ⟨hF1, hF2⟩ := hF
  rw [h0] at hF1
  unfold x_ext at hext
  rw [hrt] at hext
  dsimp only at hext
  have hYY : ∀ q u, Y0 q = some u → Y q = some u := fun q u hq => by rw [hI.2.1 q (hY0 q u hq)]; exact hq
  have hsz : H0.size ≤ H.size := hI.2.2.2.1
  have hB : ∀ q, q < H.size → ((∃ u, Y q = some u) ∨ H.size ≤ q) → (∃ u, Y0 q = some u) ∨ H0.size ≤ q := fun q hq hz => by
    rcases Nat.lt_or_ge q H0.size with k | k
    · rcases hz with ⟨u, hu⟩ | hz
      · exact Or.inl ⟨u, by rw [← hI.2.1 q k]; exact hu⟩
      · omega
    · exact Or.inr k
  refine kk v Y' o t.heap L ho hret hcs' ⟨hH', fun q hq => ?_, hI.2.2.1.trans hE' hYY hef, Nat.le_trans hsz hF1, fun q q1 q2 => ?_, fun q hq => ?_⟩ hext hE' hP
  · rw [hext q (Nat.lt_of_lt_of_le hq hsz)]; exact hI.2.1 q hq
  · have hqH : q < H.size := Nat.lt_of_lt_of_le q1 hsz
    rw [hF2 q (by rw [h0]; exact hqH) (fun z => q2 (hB q hqH z)), h0]
    exact hI.2.2.2.2.1 q q1 q2
  · rcases List.mem_append.mp hq with hq | hq
    · exact hI.2.2.2.2.2 q hq
    · rcases Nat.lt_or_ge q.base H.size with k | k
      · exact hB _ k (hL q hq)
      · exact Or.inr (Nat.le_trans hsz k)
end YC
/-! pictures: ints of an array, fields of an object -/
def y_at (b j : Nat) (H : Heap) : Option Value := (H[b]?).bind fun cell => cell.slots[j]?
def y_A (b N : Nat) (H : Heap) (f : Nat → Int32) : Prop := ∀ j, j < N → y_at b j H = some (.int (f j))
def y_up (f : Nat → Int32) (i : Nat) (v : Int32) : Nat → Int32 := fun j => if j = i then v else f j
theorem y_up_at {f : Nat → Int32} {i : Nat} {v : Int32} : y_up f i v i = v := if_pos rfl
theorem y_up_ne {f : Nat → Int32} {i j : Nat} {v : Int32} (h : j ≠ i) : y_up f i v j = f j := if_neg h
theorem y_A.kept {b N : Nat} {H H' : Heap} {f : Nat → Int32} (h : y_A b N H f) (hq : H'[b]? = H[b]?) : y_A b N H' f := fun j hj => by
  have := h j hj
  unfold y_at at this ⊢
  rw [hq]; exact this
theorem y_slk {D : va_G} {ci k b : Nat} {H H' : Heap} {v : Option Value} (h : x_sl D ci k b H = v) (hq : H'[b]? = H[b]?) : x_sl D ci k b H' = v := by
  unfold x_sl at h ⊢
  rw [hq]; exact h
theorem y_ne {Y : xY} {a b t u : Nat} (h1 : Y a = some t) (h2 : Y b = some u) (h : Nat.beq t u = false) : a ≠ b := by
  intro e0
  subst e0
  rw [h1] at h2
  cases h2
  rw [Nat.beq_refl] at h
  cases h
theorem y_Earr {D : va_G} {G : List xG} {ef : List (Nat × Nat)} {Y : xY} {H H' : Heap} {b t : Nat} {q : FieldType × Nat × List xV × xV} (hE : x_E D G ef Y H H') (hY : Y b = some t) (hg : G[t]? = some (.inr q)) (hn : (t, 0) ∉ ef) : H'[b]? = H[b]? := (hE b t _ hY hg).1 hn
theorem y_Efld {D : va_G} {G : List xG} {ef : List (Nat × Nat)} {Y : xY} {H H' : Heap} {b t ci k : Nat} {fts : List xV} {v : Option Value} (hE : x_E D G ef Y H H') (hY : Y b = some t) (hg : G[t]? = some (.inl (ci, fts))) (hk : k < fts.length) (hn : (t, k) ∉ ef) (h : x_sl D ci k b H = v) : x_sl D ci k b H' = v := (hE b t _ hY hg k hk hn).trans h
theorem y_add {x y : Int32} (h1 : -2147483648 ≤ x.toInt + y.toInt) (h2 : x.toInt + y.toInt ≤ 2147483647) : (x + y).toInt = x.toInt + y.toInt := by
  rw [Int32.toInt_add, x_bm h1 h2]
theorem y_sub {x y : Int32} (h1 : -2147483648 ≤ x.toInt - y.toInt) (h2 : x.toInt - y.toInt ≤ 2147483647) : (x - y).toInt = x.toInt - y.toInt := by
  rw [Int32.toInt_sub, x_bm h1 h2]
theorem y_mul {x y : Int32} (h1 : -2147483648 ≤ x.toInt * y.toInt) (h2 : x.toInt * y.toInt ≤ 2147483647) : (x * y).toInt = x.toInt * y.toInt := by
  rw [Int32.toInt_mul, x_bm h1 h2]
section YD
variable {p : Program} {l : Launch} {e : Env} {R : Room} {s : State} {m : MethodId} {args : Array Value} {below : List Frame} {meth : Method} {c : Code} {Q : State → Prop}
variable {D : va_G} {G : List xG} {Zs : List xZ} {U : State} {ef : List (Nat × Nat)} {Y0 Y : xY} {H0 H : Heap} {nL : Nat} {cc : ByteArray} {cl : List vw_C} {Tb Nb : List Cond} {own : String} {locs : List Loc} {cells slots pc : Nat} {ls : Array Slot} {rest : List Value}
theorem y_arr {b t N : Nat} {et : FieldType} {pre : List xV} {ft : xV} (hH : x_H D G Zs U Y H) (hY : Y b = some t) (hg : G[t]? = some (.inr (et, N, pre, ft))) (hi : (pre.all x_isI && x_isI ft) = true) : ∃ f : Nat → Int32, y_A b N H f ∧ ∀ j, j < N → x_c Y (pre.getD j ft) (.int (f j)) := by
  obtain ⟨g, h1, h2⟩ := hH.1 b _ hY
  cases h1.symm.trans hg
  obtain ⟨cell, q1, q2, q3, q4, q5, q6⟩ := h2
  have q4' : cell.slots.size = N := q4
  rw [Bool.and_eq_true] at hi
  have key : ∀ j, ∃ x : Int32, j < N → y_at b j H = some (.int x) ∧ x_c Y (pre.getD j ft) (.int x) := by
    intro j
    by_cases hj : j < N
    · have hs : cell.slots[j]? = some cell.slots[j] := Array.getElem?_eq_getElem (by rw [q4']; exact hj)
      have hc := q6 j _ hs
      have hI : x_isI (pre.getD j ft) = true := by
        rw [List.getD_eq_getElem?_getD]
        cases hq : pre[j]? with
        | none => exact hi.2
        | some w => exact List.all_eq_true.mp hi.1 w (List.mem_of_getElem? hq)
      obtain ⟨x, ex⟩ := x_isI_ok hI hc
      refine ⟨x, fun _ => ⟨?_, ?_⟩⟩
      · unfold y_at
        rw [q1]
        show cell.slots[j]? = _
        rw [hs, ex]
      · rw [← ex]; exact hc
    · exact ⟨0, fun h => absurd h hj⟩
  obtain ⟨f, hf⟩ := Classical.axiomOfChoice key
  exact ⟨f, fun j hj => (hf j hj).1, fun j hj => (hf j hj).2⟩
theorem y_fld {b t ci k : Nat} {fts : List xV} {ft : xV} (hH : x_H D G Zs U Y H) (hY : Y b = some t) (hg : G[t]? = some (.inl (ci, fts))) (hk : fts[k]? = some ft) : ∃ v, x_sl D ci k b H = some v ∧ x_c Y ft v := by
  obtain ⟨g, h1, h2⟩ := hH.1 b _ hY
  cases h1.symm.trans hg
  obtain ⟨V, ⟨cell, q1, q2, q3, q4⟩, hV⟩ := h2
  refine ⟨V k, ?_, hV _ _ hk⟩
  show (H[b]?).bind _ = _
  rw [q1]
  exact q4 _ (List.getElem?_eq_some_iff.mp hk).1
theorem y_fldR {b t ci k u : Nat} {fts : List xV} (hH : x_H D G Zs U Y H) (hY : Y b = some t) (hg : G[t]? = some (.inl (ci, fts))) (hk : fts[k]? = some (.inr (.inr (false, [u])))) : ∃ q : Nat, x_sl D ci k b H = some (.ref q) ∧ Y q = some u := by
  obtain ⟨v, h1, h2⟩ := y_fld hH hY hg hk
  obtain ⟨q, t', e0, ht, hq⟩ := x_ref_at h2 rfl
  rcases List.mem_cons.mp ht with e1 | e1
  · subst e1; subst e0
    exact ⟨q, h1, hq⟩
  · cases e1
theorem y_fldI {b t ci k : Nat} {fts : List xV} {lo hi : Int} (hH : x_H D G Zs U Y H) (hY : Y b = some t) (hg : G[t]? = some (.inl (ci, fts))) (hk : fts[k]? = some (.inl (lo, hi))) : ∃ x : Int32, x_sl D ci k b H = some (.int x) ∧ lo ≤ x.toInt ∧ x.toInt ≤ hi := by
  obtain ⟨v, h1, x, e0, h2⟩ := y_fld hH hY hg hk
  subst e0
  exact ⟨x, h1, h2⟩
theorem y_getf {b t k idx ci : Nat} {fts : List xV} {v : Value} (X : x_cx p s m args c D U cc nL cl Tb Nb own) (hf : x_fok cl G Tb s args own (idx, t, k)) (hH : x_H D G Zs U Y H) (hY : Y b = some t) (hg : G[t]? = some (.inl (ci, fts))) (hs : x_sl D ci k b H = some v) (hd : decode cc pc = .ok (.getfield idx, 3))
    (kk : W p l e R s m args below meth c H locs cells slots Q (F0 m (pc + 3) ls (v :: rest))) : W p l e R s m args below meth c H locs cells slots Q (F0 m pc ls (.ref b :: rest)) := by
  obtain ⟨hx, hb, hml, hown, hts, hK, hK0, hU, hNw, hG, hN⟩ := X
  refine x_get_row hx hb hts hown hK hf hH hY hd hg fun w hw hsl => ?_
  have : v = w := Option.some.inj (hs.symm.trans hsl)
  rw [← this]; exact kk
theorem y_putf {b t k idx ci : Nat} {fts : List xV} {ft : xV} {v : Value} (X : x_cx p s m args c D U cc nL cl Tb Nb own) (hp : x_pok cl G Tb s args own meth.name (idx, t, k)) (hY0 : ∀ q u, Y0 q = some u → q < H0.size) (hI : x_I D G Zs U ef Y0 H0 Y H locs) (hY : Y b = some t) (hg : G[t]? = some (.inl (ci, fts))) (hft : fts[k]? = some ft) (hv : x_c Y ft v) (he : (t, k) ∈ ef) (hd : decode cc pc = .ok (.putfield idx, 3))
    (kk : ∀ (H' : Heap) (sl : Nat), x_I D G Zs U ef Y0 H0 Y H' (locs ++ [⟨b, sl⟩]) → (∀ q, q ≠ b → H'[q]? = H[q]?) → x_sl D ci k b H' = some v → (∀ j w, j < fts.length → j ≠ k → x_sl D ci j b H = w → x_sl D ci j b H' = w) → W p l e R s m args below meth c H' (locs ++ [⟨b, sl⟩]) cells slots Q (F0 m (pc + 3) ls rest)) :
    W p l e R s m args below meth c H locs cells slots Q (F0 m pc ls (v :: .ref b :: rest)) := by
  obtain ⟨hx, hb, hml, hown, hts, hK, hK0, hU, hNw, hG, hN⟩ := X
  refine x_put_row hx hb hts hown hK hp hI.1 hY hd hg hft hv fun H' sl hz ho hH' hs1 hs2 => ?_
  refine kk H' sl (hI.put hY0 hY hH' hz ho fun g _ hg2 => ?_) ho hs1 (fun j w hj hn hw => (hs2 j hj hn).trans hw)
  cases hg.symm.trans hg2
  intro j hj hn
  exact hs2 j hj (fun e0 => hn (by rw [e0]; exact he))
theorem y_ald {ty : FieldType} {ins : Instr} {b t N : Nat} {pre : List xV} {ft : xV} {f : Nat → Int32} {i : Int32} (X : x_cx p s m args c D U cc nL cl Tb Nb own)
    (row : ∀ (cell : Cell) (v : Value), H[b]? = some cell → s.isArrayOf cell ty → cell.vm ≠ .unknown → ¬ (i < 0 ∨ cell.slots.size ≤ i.toNatClampNeg) → cell.slots[i.toNatClampNeg]? = some v → W p l e R s m args below meth c H locs cells slots Q (F0 m (pc + 1) ls (v :: rest)) → W p l e R s m args below meth c H locs cells slots Q (F0 m pc ls (.int i :: .ref b :: rest)))
    (hH : x_H D G Zs U Y H) (hY : Y b = some t) (hg : G[t]? = some (.inr (ty, N, pre, ft))) (hA : y_A b N H f) (h0 : 0 ≤ i.toInt) (h1 : i.toInt < (N : Int))
    (kk : W p l e R s m args below meth c H locs cells slots Q (F0 m (pc + 1) ls (.int (f i.toInt.toNat) :: rest))) : W p l e R s m args below meth c H locs cells slots Q (F0 m pc ls (.int i :: .ref b :: rest)) := by
  obtain ⟨hx, hb, hml, hown, hts, hK, hK0, hU, hNw, hG, hN⟩ := X
  obtain ⟨g, g1, g2⟩ := hH.1 b _ hY
  cases g1.symm.trans hg
  obtain ⟨cell, q1, q2, q3, q4, q5, q6⟩ := g2
  have q4' : cell.slots.size = N := q4
  have hix := x_idx (u := (i.toInt, i.toInt)) ⟨Int.le_refl _, Int.le_refl _⟩ h0 h1
  have hcl : i.toNatClampNeg = i.toInt.toNat := rfl
  have hv := hA i.toInt.toNat (by omega)
  unfold y_at at hv
  rw [q1] at hv
  exact row cell _ q1 (State.isArrayOf_alike hU.alike q2) q3 (by rw [q4']; exact hix.1) (by rw [hcl]; exact hv) kk
theorem y_iald {b t N : Nat} {pre : List xV} {ft : xV} {f : Nat → Int32} {i : Int32} (X : x_cx p s m args c D U cc nL cl Tb Nb own) (hH : x_H D G Zs U Y H) (hY : Y b = some t) (hg : G[t]? = some (.inr (.int, N, pre, ft))) (hA : y_A b N H f) (h0 : 0 ≤ i.toInt) (h1 : i.toInt < (N : Int)) (hd : decode cc pc = .ok (.iaload, 1))
    (kk : W p l e R s m args below meth c H locs cells slots Q (F0 m (pc + 1) ls (.int (f i.toInt.toNat) :: rest))) : W p l e R s m args below meth c H locs cells slots Q (F0 m pc ls (.int i :: .ref b :: rest)) :=
  y_ald (ins := .iaload) X (fun cell v a1 a2 a3 a4 a5 k => W.iald X.1 X.2.1 a1 a2 a3 a4 a5 rfl rfl hd k) hH hY hg hA h0 h1 kk
theorem y_zald {b t N : Nat} {pre : List xV} {ft : xV} {f : Nat → Int32} {i : Int32} (X : x_cx p s m args c D U cc nL cl Tb Nb own) (hH : x_H D G Zs U Y H) (hY : Y b = some t) (hg : G[t]? = some (.inr (.boolean, N, pre, ft))) (hA : y_A b N H f) (h0 : 0 ≤ i.toInt) (h1 : i.toInt < (N : Int)) (hd : decode cc pc = .ok (.baload, 1))
    (kk : W p l e R s m args below meth c H locs cells slots Q (F0 m (pc + 1) ls (.int (f i.toInt.toNat) :: rest))) : W p l e R s m args below meth c H locs cells slots Q (F0 m pc ls (.int i :: .ref b :: rest)) :=
  y_ald (ins := .baload) X (fun cell v a1 a2 a3 a4 a5 k => W.zald X.1 X.2.1 a1 a2 a3 a4 a5 rfl rfl hd k) hH hY hg hA h0 h1 kk
theorem y_stored {H' : Heap} {b t N j : Nat} {et : FieldType} {pre : List xV} {ft : xV} {f : Nat → Int32} {v : Int32} {cell : Cell} (hY0 : ∀ q u, Y0 q = some u → q < H0.size) (hI : x_I D G Zs U ef Y0 H0 Y H locs) (hY : Y b = some t) (hg : G[t]? = some (.inr (et, N, pre, ft))) (hA : y_A b N H f) (hj : j < N) (hv : x_c Y (pre.getD j ft) (.int v)) (he : (t, 0) ∈ ef ∧ x_xn ef t = true)
    (q1 : H[b]? = some cell) (q2 : U.isArrayOf cell et) (q3 : cell.vm ≠ .unknown) (q4 : cell.slots.size = N) (q5 : et.isReference = true → va_RA U cell.cls et) (q6 : ∀ (j : Nat) (v : Value), cell.slots[j]? = some v → x_c Y (pre.getD j ft) v)
    (e1 : H'[b]? = some (cell.setSlot j (.int v))) (e2 : H'.size = H.size) (e3 : ∀ q, q ≠ b → H'[q]? = H[q]?) : x_I D G Zs U ef Y0 H0 Y H' (locs ++ [⟨b, j⟩]) ∧ y_A b N H' (y_up f j v) := by
  have hH' : x_H D G Zs U Y H' := by
    refine hI.1.put hY e3 hg ⟨_, e1, ⟨q2.1, q2.2⟩, q3, by show (cell.setSlot _ _).slots.size = N; rw [← q4]; simp [Cell.setSlot], q5, fun j' w hj' => ?_⟩
    by_cases ej : j' = j
    · subst ej
      rw [Cell.slots_setSlot_self _ (by rw [q4]; exact hj)] at hj'
      cases hj'
      exact hv
    · rw [Cell.slots_setSlot_ne _ (Ne.symm ej)] at hj'
      exact q6 j' w hj'
  refine ⟨hI.put hY0 hY hH' e2 e3 (fun g hy0 hg2 => ?_), fun j' hj' => ?_⟩
  · cases hg.symm.trans hg2
    exact ⟨fun hn => absurd he.1 hn, fun j hj => (x_xn_ok he.2 hj).elim⟩
  · have h9 := hA j' hj'
    unfold y_at at h9 ⊢
    rw [q1] at h9
    rw [e1]
    show (cell.setSlot j (.int v)).slots[j']? = _
    by_cases ej : j' = j
    · subst ej
      rw [Cell.slots_setSlot_self _ (by rw [q4]; exact hj), y_up_at]
    · rw [Cell.slots_setSlot_ne _ (Ne.symm ej), y_up_ne ej]
      exact h9
theorem y_iast {b t N : Nat} {pre : List xV} {ft : xV} {f : Nat → Int32} {i v : Int32} (X : x_cx p s m args c D U cc nL cl Tb Nb own) (hY0 : ∀ q u, Y0 q = some u → q < H0.size) (hI : x_I D G Zs U ef Y0 H0 Y H locs) (hY : Y b = some t) (hg : G[t]? = some (.inr (.int, N, pre, ft))) (hA : y_A b N H f) (h0 : 0 ≤ i.toInt) (h1 : i.toInt < (N : Int)) (hv : x_c Y (pre.getD i.toInt.toNat ft) (.int v)) (he : (t, 0) ∈ ef ∧ x_xn ef t = true) (hd : decode cc pc = .ok (.iastore, 1))
    (kk : ∀ (H' : Heap) (L : List Loc), x_I D G Zs U ef Y0 H0 Y H' L → y_A b N H' (y_up f i.toInt.toNat v) → (∀ q, q ≠ b → H'[q]? = H[q]?) → W p l e R s m args below meth c H' L cells slots Q (F0 m (pc + 1) ls rest)) : W p l e R s m args below meth c H locs cells slots Q (F0 m pc ls (.int v :: .int i :: .ref b :: rest)) := by
  obtain ⟨hx, hb, hml, hown, hts, hK, hK0, hU, hNw, hG, hN⟩ := X
  obtain ⟨g, g1, g2⟩ := hI.1.1 b _ hY
  cases g1.symm.trans hg
  obtain ⟨cell, q1, q2, q3, q4, q5, q6⟩ := g2
  have q4' : cell.slots.size = N := q4
  have hix := x_idx (u := (i.toInt, i.toInt)) ⟨Int.le_refl _, Int.le_refl _⟩ h0 h1
  refine W.iast hx hb q1 (State.isArrayOf_alike hU.alike q2) q3 (by rw [q4']; exact hix.1) rfl rfl hd fun H' e1 e2 e3 => ?_
  obtain ⟨a1, a2⟩ := y_stored (j := i.toInt.toNat) hY0 hI hY hg hA (by omega) hv he q1 q2 q3 q4 q5 q6 e1 e2 e3
  exact kk H' _ a1 a2 e3
theorem y_zast {b t N : Nat} {pre : List xV} {ft : xV} {f : Nat → Int32} {i v : Int32} (X : x_cx p s m args c D U cc nL cl Tb Nb own) (hY0 : ∀ q u, Y0 q = some u → q < H0.size) (hI : x_I D G Zs U ef Y0 H0 Y H locs) (hY : Y b = some t) (hg : G[t]? = some (.inr (.boolean, N, pre, ft))) (hA : y_A b N H f) (h0 : 0 ≤ i.toInt) (h1 : i.toInt < (N : Int)) (hv1 : v = 0 ∨ v = 1) (hv : x_c Y (pre.getD i.toInt.toNat ft) (.int v)) (he : (t, 0) ∈ ef ∧ x_xn ef t = true) (hd : decode cc pc = .ok (.bastore, 1))
    (kk : ∀ (H' : Heap) (L : List Loc), x_I D G Zs U ef Y0 H0 Y H' L → y_A b N H' (y_up f i.toInt.toNat v) → (∀ q, q ≠ b → H'[q]? = H[q]?) → W p l e R s m args below meth c H' L cells slots Q (F0 m (pc + 1) ls rest)) : W p l e R s m args below meth c H locs cells slots Q (F0 m pc ls (.int v :: .int i :: .ref b :: rest)) := by
  obtain ⟨hx, hb, hml, hown, hts, hK, hK0, hU, hNw, hG, hN⟩ := X
  obtain ⟨g, g1, g2⟩ := hI.1.1 b _ hY
  cases g1.symm.trans hg
  obtain ⟨cell, q1, q2, q3, q4, q5, q6⟩ := g2
  have q4' : cell.slots.size = N := q4
  have hix := x_idx (u := (i.toInt, i.toInt)) ⟨Int.le_refl _, Int.le_refl _⟩ h0 h1
  refine W.zast hx hb q1 (State.isArrayOf_alike hU.alike q2) q3 (by rw [q4']; exact hix.1) rfl rfl hd fun H' e1 e2 e3 => ?_
  have hnv : narrow .boolean (.int v) = .int v := by rcases hv1 with q | q <;> subst q <;> rfl
  rw [hnv] at e1
  obtain ⟨a1, a2⟩ := y_stored (j := i.toInt.toNat) hY0 hI hY hg hA (by omega) hv he q1 q2 q3 q4 q5 q6 e1 e2 e3
  exact kk H' _ a1 a2 e3
end YD
/-! a method's body, whole -/
def y_B (cl : List vw_C) (Tb Nb : List Cond) (M : xM) (p : Program) (s : State) (m : MethodId) (meth : Method) (c : Code) (D : va_G) (U : State) (Y : xY) (av : List Value) : Prop := x_cx p s m av.toArray c D U M.2.1 M.2.2.1 cl Tb Nb M.1.cls ∧ meth.sig.returnType = M.2.2.2.1 ∧ meth.locks = false ∧ meth.name = M.1.name ∧ (∀ q u, Y q = some u → q < s.heap.size) ∧ x_cs Y (x_args M) av
abbrev y_QQ (below : List Frame) (D : va_G) (G : List xG) (Zs : List xZ) (U : State) (M : xM) (P : yP) (av : List Value) (Y : xY) (s : State) : State → Prop := MQ below (y_Q D G Zs U M P av Y) av.toArray s (x_rm M).cells (x_rm M).slots (fun q => (∃ u, Y q = some u) ∨ s.heap.size ≤ q)
theorem y_main {cl : List vw_C} {G : List xG} {Zs : List xZ} {Tb Nb : List Cond} {M : xM} {A : yA} {P : yP} (hy : plainName M.1.cls = true) (hl : ((x_args M).map (fun t => if x_isL t then 2 else 1)).sum ≤ M.2.2.1) (hG : ∀ w ∈ Tb, goodWord w = true) (hNk : ∀ w ∈ Nb, x_Nk w = true)
    (body : ∀ (p : Program) (l : Launch) (e : Env) (s : State) (m : MethodId) (below : List Frame) (meth : Method) (c : Code) (D : va_G) (U : State) (Y : xY) (av : List Value) (ls : Array Slot), y_B cl Tb Nb M p s m meth c D U Y av → x_I D G Zs U (x_efs M) Y s.heap Y s.heap [] → A D av Y s.heap → lv_has ls M.2.2.1 (lv_args 0 av) →
      W p l e (x_rm M) s m av.toArray below meth c s.heap [] 0 0 (y_QQ below D G Zs U M P av Y s) (F0 m 0 ls [])) : y_Met cl G Zs Tb Nb M A P := by
  intro l D U Y sz av hK0 hav
  refine Met.ofW (cc := M.2.1) (maxL := M.2.2.1) (ret := M.2.2.2.1) hy rfl ?_
  intro p e s m args below meth c s₁ B hml hv
  obtain ⟨rfl, rfl, hU, hH, hN, hA⟩ := hv
  have hts0 := atoms_spec B.pre
  have hts : ∀ w ∈ Tb, w.before av.toArray s = true := fun w hw => hts0 w (List.mem_cons_of_mem _ hw)
  have hown : s.vm.findClass M.1.cls = some m.cls := findClass_of_methodNamed B.named
  have hnm : meth.name = M.1.name := (name_of_methodNamed B.named B.method).1
  have hK : va_K D cl [] s := va_K.moved hU.alike hK0
  have hY0 : ∀ q u, Y q = some u → q < s.heap.size := fun q u hq => hH.lt hq
  have hlen : (lg_sl av).length ≤ M.2.2.1 := by rw [x_sl_len _ _ _ hav]; exact hl
  have hlv := lv_entry av (n := M.2.2.1) hlen
  rw [lg_entry_eq]
  exact body p l e s m below meth c D U Y av _ ⟨⟨B.exec, B.bytes, hml, hown, hts, hK, hK0, hU, hN, hG, hNk⟩, B.returns, B.notSynchronized, hnm, hY0, hav⟩ ⟨hH, fun q _ => rfl, x_E.rf, va_S.rf⟩ hA hlv
section YR
variable {p : Program} {l : Launch} {e : Env} {R : Room} {s : State} {m : MethodId} {below : List Frame} {meth : Method} {c : Code} {D : va_G} {G : List xG} {Zs : List xZ} {U : State} {Y Y' : xY} {H : Heap} {cl : List vw_C} {Tb Nb : List Cond} {M : xM} {P : yP} {av : List Value} {locs : List Loc} {cells slots pc : Nat} {ls : Array Slot}
theorem y_end (B : y_B cl Tb Nb M p s m meth c D U Y av) (hI : x_I D G Zs U (x_efs M) Y s.heap Y' H locs) (hrt : x_rt M = none) {v : Option Value} {o : List xV × Option xV} (ho : o ∈ x_outs M) (hr : x_ret Y' o.2 v) (ha : x_cs Y' o.1 av) (hP : P D av Y s.heap v Y' H) (t : State) (ht : t.heap = H) : y_Q D G Zs U M P av Y av.toArray s (.returned v) t :=
  ⟨v, Y', o, rfl, ho, hr, ha, by rw [ht]; exact hI.1, by rw [hrt]; exact hI.2.1, by rw [ht]; exact hI.2.2.1, ⟨by rw [ht]; exact hI.2.2.2.1, fun q q1 q2 => by rw [ht]; exact hI.2.2.2.2.1 q q1 q2⟩, by rw [ht]; exact hP⟩
theorem y_mon (B : y_B cl Tb Nb M p s m meth c D U Y av) (hI : x_I D G Zs U (x_efs M) Y s.heap Y' H locs) : ∀ q u, Y q = some u → Y' q = some u := fun q u hq => by rw [hI.2.1 q (B.2.2.2.2.1 q u hq)]; exact hq
theorem y_ireturn {v : Int32} {ty : FieldType} {o : List xV × Option xV} (B : y_B cl Tb Nb M p s m meth c D U Y av) (hI : x_I D G Zs U (x_efs M) Y s.heap Y' H locs) (hrt : x_rt M = none) (hty : M.2.2.2.1 = some ty) (hn : narrow ty (.int v) = .int v) (ho : o ∈ x_outs M) (hr : x_ret Y' o.2 (some (.int v))) (ha : x_cs Y' o.1 av) (hP : P D av Y s.heap (some (.int v)) Y' H) (hc : cells ≤ (x_rm M).cells) (hs : slots ≤ (x_rm M).slots)
    (hd : decode M.2.1 pc = .ok (.ireturn, 1)) : W p l e R s m av.toArray below meth c H locs cells slots (y_QQ below D G Zs U M P av Y s) (F0 m pc ls [.int v]) := by
  have hB := B
  obtain ⟨X, hrt0, hlk, -⟩ := B
  rw [hty] at hrt0
  exact W.widen hc hs (W.zret X.1 X.2.1 hrt0 hn (fun t ht _ => y_end hB hI hrt ho hr ha hP t ht) hI.2.2.2.2.2 hd hlk)
theorem y_lreturn {v : Int64} {o : List xV × Option xV} (B : y_B cl Tb Nb M p s m meth c D U Y av) (hI : x_I D G Zs U (x_efs M) Y s.heap Y' H locs) (hrt : x_rt M = none) (hty : M.2.2.2.1 = some .long) (ho : o ∈ x_outs M) (hr : x_ret Y' o.2 (some (.long v))) (ha : x_cs Y' o.1 av) (hP : P D av Y s.heap (some (.long v)) Y' H) (hc : cells ≤ (x_rm M).cells) (hs : slots ≤ (x_rm M).slots)
    (hd : decode M.2.1 pc = .ok (.lreturn, 1)) : W p l e R s m av.toArray below meth c H locs cells slots (y_QQ below D G Zs U M P av Y s) (F0 m pc ls [.long v]) := by
  have hB := B
  obtain ⟨X, hrt0, hlk, -⟩ := B
  rw [hty] at hrt0
  exact W.widen hc hs (W.lret X.1 X.2.1 hrt0 (fun t ht _ => y_end hB hI hrt ho hr ha hP t ht) hI.2.2.2.2.2 hd hlk)
theorem y_return {o : List xV × Option xV} (B : y_B cl Tb Nb M p s m meth c D U Y av) (hI : x_I D G Zs U (x_efs M) Y s.heap Y' H locs) (hrt : x_rt M = none) (hty : M.2.2.2.1 = none) (ho : o ∈ x_outs M) (hr : x_ret Y' o.2 none) (ha : x_cs Y' o.1 av) (hP : P D av Y s.heap none Y' H) (hc : cells ≤ (x_rm M).cells) (hs : slots ≤ (x_rm M).slots)
    (hd : decode M.2.1 pc = .ok (.return_, 1)) : W p l e R s m av.toArray below meth c H locs cells slots (y_QQ below D G Zs U M P av Y s) (F0 m pc ls []) := by
  have hB := B
  obtain ⟨X, hrt0, hlk, -⟩ := B
  rw [hty] at hrt0
  exact W.widen hc hs (W.vret X.1 X.2.1 hrt0 (fun t ht _ => y_end hB hI hrt ho hr ha hP t ht) hI.2.2.2.2.2 hd hlk)
end YR
