/-! THE HEAP'S INSTRUCTIONS. A method's entries: fields (pool number, tag, field), made objects (pool number, tag), made arrays (place, tag), statics (pool number, number in Zs). -/
def x_all {α β : Type} (f : α → Option β) : List α → Option (List β)
  | [] => some []
  | x :: xs => match f x, x_all f xs with
    | some y, some ys => some (y :: ys)
    | _, _ => none
theorem x_all_mem {α β : Type} {f : α → Option β} : ∀ {xs : List α} {ys : List β}, x_all f xs = some ys → ∀ x ∈ xs, ∃ y, f x = some y ∧ y ∈ ys := by
  intro xs
  induction xs with
  | nil => intro ys _ x hx; cases hx
  | cons z zs ih =>
    intro ys h x hx
    unfold x_all at h
    split at h
    · next y ys' h1 h2 =>
      cases h
      rcases List.mem_cons.mp hx with e | hx
      · subst e; exact ⟨y, h1, List.mem_cons_self⟩
      · obtain ⟨y', q1, q2⟩ := ih h2 x hx
        exact ⟨y', q1, List.mem_cons_of_mem _ q2⟩
    · cases h
/-- a field that an instruction names: the class of the tag has it there, and the words for it are at hand -/
def x_fok (cl : List vw_C) (G : List xG) (Ts : List Cond) (s : State) (args : Array Value) (own : String) (z : Nat × Nat × Nat) : Prop :=
  ∃ (ci : Nat) (fts : List xV) (C : String) (T : u_T) (ref : String), G[z.2.1]? = some (.inl (ci, fts)) ∧ cl[ci]? = some (C, T, fts.length) ∧ z.2.2 < fts.length ∧ (∀ w ∈ u_ws C T fts.length, w ∈ Ts) ∧
    (Cond.fieldLink own z.1 ref (T z.2.2).2.1 (T z.2.2).2.2.1).before args s = true ∧ ∀ x, s.fieldFound? (T z.2.2).1 (T z.2.2).2.1 (T z.2.2).2.2.1 = some x → s.fieldFound? ref (T z.2.2).2.1 (T z.2.2).2.2.1 = some x
def x_fit (ft : xV) (ty : FieldType) : Prop := ∀ (Y : xY) (v : Value), x_c Y ft v → narrow ty v = v ∧ fits ty v = true
/-- and may be written -/
def x_pok (cl : List vw_C) (G : List xG) (Ts : List Cond) (s : State) (args : Array Value) (own mn : String) (z : Nat × Nat × Nat) : Prop :=
  ∃ (ci : Nat) (fts : List xV) (C : String) (T : u_T) (ref : String) (ty : Nat → FieldType) (ft : xV), G[z.2.1]? = some (.inl (ci, fts)) ∧ cl[ci]? = some (C, T, fts.length) ∧ z.2.2 < fts.length ∧ (∀ w ∈ u_ws C T fts.length, w ∈ Ts) ∧
    (Cond.fieldLink own z.1 ref (T z.2.2).2.1 (T z.2.2).2.2.1).before args s = true ∧ (∀ x, s.fieldFound? (T z.2.2).1 (T z.2.2).2.1 (T z.2.2).2.2.1 = some x → s.fieldFound? ref (T z.2.2).2.1 (T z.2.2).2.2.1 = some x) ∧
    (∀ k, k < fts.length → parseFieldDescriptor (T k).2.2.1 = some (ty k)) ∧ (∀ a, a < fts.length → ∀ b, b < fts.length → a ≠ b → (T a).2.1 ≠ (T b).2.1) ∧ fts[z.2.2]? = some ft ∧ x_fit ft (ty z.2.2) ∧
    ((T z.2.2).2.2.2 = false ∨ ((T z.2.2).2.2.2 = true ∧ mn = "<init>" ∧ (T z.2.2).1 = own))
def x_gf (G : List xG) (pf : List (Nat × Nat × Nat)) (a : xS) (pc idx : Nat) : xN := match a.2.2.1 with
  | o :: S => (match a.1[o]? with
    | some (.inr (.inr (false, ts))) => x_all (fun (t : Nat) => match G[t]?, pf.find? (fun z => z.1 == idx && z.2.1 == t) with
      | some (.inl (ci, fts)), some z => if ci = 1000 then none else (match a.2.2.2.1.find? (fun f => f.1 == o && (f.2.1 == ci && f.2.2.1 == z.2.2)) with
        | some f => some (pc + 3, (a.1.set o (.inr (.inr (false, [t]))), a.2.1, f.2.2.2 :: S, a.2.2.2))
        | none => (match fts[z.2.2]? with
          | some ft => some (pc + 3, (a.1.set o (.inr (.inr (false, [t]))) ++ [ft], a.2.1, a.1.length :: S, (o, ci, z.2.2, a.1.length) :: a.2.2.2.1, a.2.2.2.2))
          | none => none))
      | _, _ => none) ts
    | _ => none)
  | _ => none
/-- tags that two references can't share -/
def x_dj (E : List xV) (x y : Nat) : Bool := match E[x]?, E[y]? with
  | some (.inr (.inr p)), some (.inr (.inr q)) => p.2.all (fun t => q.2.all (fun u => !(t == u)))
  | _, _ => false
def x_pf (G : List xG) (pf : List (Nat × Nat × Nat)) (ef : List (Nat × Nat)) (a : xS) (pc idx : Nat) : xN := match a.2.2.1 with
  | v :: o :: S => (match a.1[o]?, a.1[v]? with
    | some (.inr (.inr (false, ts))), some tv => x_all (fun (t : Nat) => match G[t]?, pf.find? (fun z => z.1 == idx && z.2.1 == t) with
      | some (.inl (ci, fts)), some z => (match fts[z.2.2]? with
        | some ft => if ¬ ci = 1000 ∧ x_le tv ft = true ∧ (ef.any (fun q => q.1 == t && q.2 == z.2.2) = true ∨ a.2.2.2.2.2.2.1.any (fun k => k == o) = true) then
            some (pc + 3, (a.1.set o (.inr (.inr (false, [t]))), a.2.1, S, (o, ci, z.2.2, v) :: a.2.2.2.1.filter (fun f => (f.1 == o && (f.2.1 == ci && !(f.2.2.1 == z.2.2) && Nat.blt f.2.2.1 fts.length)) || x_dj a.1 f.1 o), a.2.2.2.2)) else none
        | none => none)
      | _, _ => none) ts
    | _, _ => none)
  | _ => none
/-- what is read at a place of an array, what may be written there: by the place's bounds -/
def x_er (pre : List xV) (ft : xV) (u : Int × Int) : Option xV := if u.1 = u.2 then some (pre.getD u.1.toNat ft) else if (pre.length : Int) ≤ u.1 then some ft else if pre.all (fun t => x_le t ft) then some ft else none
def x_ew (pre : List xV) (ft : xV) (u : Int × Int) : Option xV := if u.1 = u.2 then some (pre.getD u.1.toNat ft) else if (pre.length : Int) ≤ u.1 then some ft else none
theorem x_er_ok {Y : xY} {pre : List xV} {ft t : xV} {u : Int × Int} {x : Int32} {v : Value} (h : x_er pre ft u = some t) (hb : x_b u x) (h0 : 0 ≤ u.1) (hv : x_c Y (pre.getD x.toNatClampNeg ft) v) : x_c Y t v := by
  have a1 := hb.1; have a2 := hb.2
  have hc : x.toNatClampNeg = x.toInt.toNat := rfl
  unfold x_er at h
  split at h
  · next e0 =>
    cases h
    have : x.toNatClampNeg = u.1.toNat := by rw [hc]; omega
    rw [← this]; exact hv
  · split at h
    · next hp =>
      cases h
      rw [List.getD_eq_getElem?_getD, List.getElem?_eq_none (by rw [hc]; omega)] at hv
      exact hv
    · split at h
      · next hp =>
        cases h
        rw [List.getD_eq_getElem?_getD] at hv
        cases hq : pre[x.toNatClampNeg]? with
        | none => rw [hq] at hv; exact hv
        | some w =>
          rw [hq] at hv
          exact x_le_ok (List.all_eq_true.mp hp w (List.mem_of_getElem? hq)) hv
      · cases h
theorem x_ew_ok {pre : List xV} {ft t : xV} {u : Int × Int} {x : Int32} (h : x_ew pre ft u = some t) (hb : x_b u x) (h0 : 0 ≤ u.1) : pre.getD x.toNatClampNeg ft = t := by
  have a1 := hb.1; have a2 := hb.2
  have hc : x.toNatClampNeg = x.toInt.toNat := rfl
  unfold x_ew at h
  split at h
  · next e0 =>
    cases h
    have : x.toNatClampNeg = u.1.toNat := by rw [hc]; omega
    rw [this]
  · split at h
    · next hp =>
      cases h
      rw [List.getD_eq_getElem?_getD, List.getElem?_eq_none (by rw [hc]; omega)]
      rfl
    · cases h
/-- a known thing that a store at places u of the array o leaves alone -/
def x_kp (E : List xV) (o : Nat) (u : Int × Int) (f : Nat × Nat × Nat × Nat) : Bool := x_dj E f.1 o || (f.1 == o && (f.2.1 == 1000 && (decide ((f.2.2.1 : Int) < u.1) || decide (u.2 < (f.2.2.1 : Int)))))
def x_ial (G : List xG) (a : xS) (pc : Nat) (ty : FieldType → Bool) : xN := match a.2.2.1 with
  | i :: o :: S => (match a.1[o]?, a.1[i]? with
    | some (.inr (.inr (false, ts))), some (.inl u) => x_all (fun (t : Nat) => match G[t]? with
      | some (.inr (et, n, pre, ft)) => if ty et = true ∧ 0 ≤ u.1 ∧ u.2 < (n : Int) then (match x_er pre ft u with
          | some w => if u.1 = u.2 then (match a.2.2.2.1.find? (fun f => f.1 == o && (f.2.1 == 1000 && f.2.2.1 == u.1.toNat)) with
            | some f => some (pc + 1, (a.1.set o (.inr (.inr (false, [t]))), a.2.1, f.2.2.2 :: S, a.2.2.2))
            | none => some (pc + 1, (a.1.set o (.inr (.inr (false, [t]))) ++ [w], a.2.1, a.1.length :: S, (o, 1000, u.1.toNat, a.1.length) :: a.2.2.2.1, a.2.2.2.2)))
            else some (pc + 1, x_psh (a.1.set o (.inr (.inr (false, [t]))), a.2) S w)
          | none => none) else none
      | _ => none) ts
    | _, _ => none)
  | _ => none
def x_ias (G : List xG) (ef : List (Nat × Nat)) (a : xS) (pc : Nat) : xN := match a.2.2.1 with
  | v :: i :: o :: S => (match a.1[o]?, a.1[i]?, a.1[v]? with
    | some (.inr (.inr (false, ts))), some (.inl u), some (.inl tv) => x_all (fun (t : Nat) => match G[t]? with
      | some (.inr (.int, n, pre, ft)) => if (x_ew pre ft u).any (fun w => x_le (.inl tv) w) = true ∧ 0 ≤ u.1 ∧ u.2 < (n : Int) ∧ ((ef.any (fun q => q.1 == t && q.2 == 0) && x_xf ef t u) = true ∨ a.2.2.2.2.2.2.1.any (fun k => k == o) = true) then
          some (pc + 1, (a.1.set o (.inr (.inr (false, [t]))), a.2.1, S, (if u.1 = u.2 then [(o, 1000, u.1.toNat, v)] else []) ++ a.2.2.2.1.filter (x_kp a.1 o u), a.2.2.2.2)) else none
      | _ => none) ts
    | _, _, _ => none)
  | _ => none
def x_aln (G : List xG) (a : xS) (pc : Nat) : xN := match a.2.2.1 with
  | o :: S => (match a.1[o]? with
    | some (.inr (.inr (false, ts))) => x_all (fun (t : Nat) => match G[t]? with
      | some (.inr (_, n, _, _)) => if n < 2147483648 then some (pc + 1, x_psh (a.1.set o (.inr (.inr (false, [t]))), a.2) S (.inl ((n : Int), (n : Int)))) else none
      | _ => none) ts
    | _ => none)
  | _ => none
section XR
variable {p : Program} {l : Launch} {e : Env} {R : Room} {s : State} {m : MethodId} {args : Array Value} {below : List Frame} {meth : Method} {c : Code} {Q : State → Prop}
variable {D : va_G} {G : List xG} {Zs : List xZ} {U : State} {ef : List (Nat × Nat)} {Y0 : xY} {H0 : Heap} {nL : Nat} {mu : List Value}
variable {cc : ByteArray} {pc : Nat} {a : xS} {sc : List (Nat × xS)} {cl : List vw_C} {Ts : List Cond} {own : String} {pf : List (Nat × Nat × Nat)}
theorem x_ref_at {Y : xY} {t0 : xV} {v : Value} {ts : List Nat} (h : x_c Y t0 v) (he : t0 = .inr (.inr (false, ts))) : ∃ b t : Nat, v = .ref b ∧ t ∈ ts ∧ Y b = some t := by
  subst he
  rcases h with ⟨-, h⟩ | h
  · cases h
  · exact h
theorem x_get_row {Y : xY} {H : Heap} {locs : List Loc} {cells slots : Nat} {ls : Array Slot} {rest : List Value} (hx : p.tables.exec = Jvm.exec) (hb : c.code = cc) (hts : ∀ w ∈ Ts, w.before args s = true) (hown : s.vm.findClass own = some m.cls) (hK : va_K D cl [] s)
    {z : Nat × Nat × Nat} (hf : x_fok cl G Ts s args own z) (hH : x_H D G Zs U Y H) {b : Nat} (hY : Y b = some z.2.1) (hd : decode cc pc = .ok (.getfield z.1, 3)) {ci : Nat} {fts : List xV} (hg : G[z.2.1]? = some (.inl (ci, fts)))
    (kk : ∀ v : Value, (∀ ft, fts[z.2.2]? = some ft → x_c Y ft v) → x_sl D ci z.2.2 b H = some v → W p l e R s m args below meth c H locs cells slots Q (F0 m (pc + 3) ls (v :: rest))) : W p l e R s m args below meth c H locs cells slots Q (F0 m pc ls (.ref b :: rest)) := by
  obtain ⟨ci', fts', C, T, ref, g1, g2, g3, g4, g5, g6⟩ := hf
  cases hg.symm.trans g1
  obtain ⟨g, h1, h2⟩ := hH.1 b _ hY
  cases h1.symm.trans g1
  obtain ⟨V, ⟨cell, q1, q2, q3, q4⟩, hV⟩ := h2
  obtain ⟨hS, hfc, kC, hkC, hkind⟩ := hK.1 ci _ g2
  obtain ⟨cf, kf, fi, f, hi, hsl⟩ := hS z.2.2 g3
  refine W.getf hx hb hown g5 (g6 _ hi) (u_facts hfc hkC (u_lays hts g4 g3) hi).1 q1 (by rw [q3]; exact fun h => by cases h) (v := V z.2.2) (by rw [hsl]; exact q4 _ g3) rfl rfl hd ?_
  refine kk _ (fun ft hft => hV _ _ hft) ?_
  show (H[b]?).bind _ = _
  rw [q1]
  exact q4 _ g3
theorem x_gf_ok {idx : Nat} (hw : x_wf a = true) (hx : p.tables.exec = Jvm.exec) (hb : c.code = cc) (hts : ∀ w ∈ Ts, w.before args s = true) (hown : s.vm.findClass own = some m.cls) (hK : va_K D cl [] s) (hpf : ∀ z ∈ pf, x_fok cl G Ts s args own z)
    (hd : decode cc pc = .ok (.getfield idx, 3)) (h : x_gf G pf a pc idx = some sc) (hs : ∀ q ∈ sc, x_K p l e R s m args below meth c Q D G Zs U ef Y0 H0 nL mu q) : x_K p l e R s m args below meth c Q D G Zs U ef Y0 H0 nL mu (pc, a) := by
  intro Y H locs r ls st hI hC
  unfold x_gf at h
  split at h
  · next o S hS =>
    split at h
    · next ts ho =>
      obtain ⟨b, t, eb, ht, hY⟩ := x_ref_at (hC.1 o _ ho) rfl
      obtain ⟨y, hy, hm⟩ := x_all_mem h t ht
      have hK1 := hs y hm
      have hst : st = .ref b :: S.map r := by rw [hC.2.2.1, hS, List.map_cons, eb]
      rw [hst]
      have hol : o < a.1.length := (List.getElem?_eq_some_iff.mp ho).1
      have hE : ∀ (k : Nat) (u : xV), (a.1.set o (.inr (.inr (false, [t]))))[k]? = some u → x_c Y u (r k) := x_set_ok hC.1 (Or.inr ⟨b, t, eb, List.mem_cons_self, hY⟩)
      have hSl : ∀ k ∈ S, k < a.1.length := fun k hk => (x_wf_spec hw).2.1 k (by rw [hS]; exact List.mem_cons_of_mem _ hk)
      split at hy
      · next ci fts z hg hz =>
        have hzm := List.mem_of_find?_eq_some hz
        have hze := List.find?_some hz
        simp only [Bool.and_eq_true, beq_iff_eq] at hze
        obtain ⟨e1, e2⟩ := hze
        subst e1; subst e2
        refine x_get_row hx hb hts hown hK (hpf z hzm) hI.1 hY hd hg fun v hv hsl => ?_
        split at hy
        · cases hy
        next hci =>
        split at hy
        · next f hf =>
          cases hy
          have hfm := List.mem_of_find?_eq_some hf
          have hfe := List.find?_some hf
          simp only [Bool.and_eq_true, beq_iff_eq] at hfe
          obtain ⟨f1, f2, f3⟩ := hfe
          obtain ⟨b', q1, q2⟩ := hC.2.2.2.1 f hfm
          rw [f1, eb] at q1
          cases q1
          rw [f2, f3, x_fv_sl hci, hsl] at q2
          cases q2
          exact hK1 Y H locs r ls _ hI (hC.env hE (f.2.2.2 :: S))
        · split at hy
          · next ft hft =>
            cases hy
            have hw2 : x_wf (a.1.set o (.inr (.inr (false, [z.2.1]))), a.2.1, S, a.2.2.2) = true := by
              have h3 := hw
              simp only [x_wf, Bool.and_eq_true, List.all_eq_true, Nat.blt_eq, List.length_set] at h3 ⊢
              exact ⟨h3.1, hSl, h3.2.2⟩
            have hP := (hC.env hE S).psh hw2 (S := S) (fun k hk => by show k < (a.1.set o _).length; rw [List.length_set]; exact hSl k hk) (hv ft hft)
            have hln : (a.1.set o (.inr (.inr (false, [z.2.1])))).length = a.1.length := List.length_set
            refine hK1 Y H locs (updV r a.1.length v) ls (v :: S.map r) hI ?_
            unfold x_psh at hP
            dsimp only at hP
            rw [hln] at hP
            obtain ⟨p1, p2, p3, p4, p5⟩ := hP
            refine ⟨p1, p2, p3, fun f hf => ?_, p5⟩
            rcases List.mem_cons.mp hf with e0 | hf
            · rw [e0]
              exact ⟨b, by show updV r a.1.length v o = _; rw [x_up_ag hol]; exact eb, by show x_fv D ci z.2.2 b H = some (updV r a.1.length v a.1.length); rw [x_up_at, x_fv_sl hci]; exact hsl⟩
            · exact p4 f hf
          · cases hy
      · cases hy
    · cases h
  · cases h
theorem x_put_row {Y : xY} {H : Heap} {locs : List Loc} {cells slots : Nat} {ls : Array Slot} {rest : List Value} (hx : p.tables.exec = Jvm.exec) (hb : c.code = cc) (hts : ∀ w ∈ Ts, w.before args s = true) (hown : s.vm.findClass own = some m.cls) (hK : va_K D cl [] s)
    {z : Nat × Nat × Nat} (hp : x_pok cl G Ts s args own meth.name z) (hH : x_H D G Zs U Y H) {b : Nat} (hY : Y b = some z.2.1) (hd : decode cc pc = .ok (.putfield z.1, 3)) {ci : Nat} {fts : List xV} (hg : G[z.2.1]? = some (.inl (ci, fts))) {ft : xV} (hft : fts[z.2.2]? = some ft) {v : Value} (hv : x_c Y ft v)
    (kk : ∀ (H' : Heap) (sl : Nat), H'.size = H.size → (∀ q, q ≠ b → H'[q]? = H[q]?) → x_H D G Zs U Y H' → x_sl D ci z.2.2 b H' = some v → (∀ j, j < fts.length → j ≠ z.2.2 → x_sl D ci j b H' = x_sl D ci j b H) → W p l e R s m args below meth c H' (locs ++ [⟨b, sl⟩]) cells slots Q (F0 m (pc + 3) ls rest)) :
    W p l e R s m args below meth c H locs cells slots Q (F0 m pc ls (v :: .ref b :: rest)) := by
  obtain ⟨ci', fts', C, T, ref, ty, ft', g1, g2, g3, g4, g5, g6, g7, g8, g9, g10, g11⟩ := hp
  cases hg.symm.trans g1
  cases hft.symm.trans g9
  obtain ⟨g, h1, h2⟩ := hH.1 b _ hY
  cases h1.symm.trans g1
  obtain ⟨V, ⟨cell, q1, q2, q3, q4⟩, hV⟩ := h2
  have hap := va_apart (own := own) hts g4 ty g7 g8 hK g2
  obtain ⟨hS, hfc, kC, hkC, hkind⟩ := hK.1 ci _ g2
  obtain ⟨cf, kf, fi, f, hi, hsl⟩ := hS z.2.2 g3
  obtain ⟨n1, n2⟩ := g10 Y v hv
  have hst := (u_facts hfc hkC (u_lays hts g4 g3) hi).1
  have fin : ∀ H' : Heap, H'[b]? = some (cell.setSlot f.slot v) → H'.size = H.size → (∀ q, q ≠ b → H'[q]? = H[q]?) → W p l e R s m args below meth c H' (locs ++ [⟨b, f.slot⟩]) cells slots Q (F0 m (pc + 3) ls rest) := by
    intro H' e1 e2 e3
    rw [hsl] at e1
    have q5 := t_set q4 hap g3 v
    refine kk H' f.slot e2 e3 (hH.put hY e3 g1 ⟨updV V z.2.2 v, ⟨_, e1, q2, q3, q5⟩, fun j fj hj => ?_⟩) ?_ (fun j hj hn => ?_)
    · by_cases ej : j = z.2.2
      · subst ej
        cases hj.symm.trans hft
        rw [x_up_at]; exact hv
      · have : updV V z.2.2 v j = V j := by unfold updV; rw [if_neg ej]
        rw [this]; exact hV j fj hj
    · show (H'[b]?).bind _ = _
      rw [e1]
      have := q5 z.2.2 g3
      rw [x_up_at] at this
      exact this
    · show (H'[b]?).bind _ = (H[b]?).bind _
      rw [e1, q1]
      have h1 := q5 j hj
      have h2 : updV V z.2.2 v j = V j := by unfold updV; rw [if_neg hn]
      rw [h2] at h1
      show (cell.setSlot (D.2 ci z.2.2) v).slots[D.2 ci j]? = cell.slots[D.2 ci j]?
      rw [h1, q4 j hj]
  rcases g11 with hfin | ⟨hfin, hmn, hdecl⟩
  · have hlay := hts _ (g4 _ (u_in_lay g3))
    unfold u_lay at hlay
    rw [if_neg (by rw [hfin]; decide)] at hlay
    have h6 := u_store hfc hkC hkind hlay hi (g7 _ g3) n1 n2
    exact W.putK hx hb (f := f) ⟨hown, g5, ⟨_, _, _, g6 _ hi⟩, hst⟩ (by rw [q2]; exact h6) q1 q3 (by rw [hsl]; exact k2_hasslot (q4 _ g3)) rfl rfl hd fin
  · have hlay := hts _ (g4 _ (u_in_lay g3))
    unfold u_lay at hlay
    rw [if_pos hfin] at hlay
    have hcf : m.cls = cf := by
      obtain ⟨_, _, c', _, _, _, -, -, hf', -, -, -, hown2, -⟩ := Cond.laysFinal_spec hlay
      have e1 : c' = cf := by have := hi.symm.trans hf'; simp at this; exact this.1.symm
      rw [hdecl] at hown2
      rw [← e1]; exact Option.some.inj (hown.symm.trans hown2)
    have h6 := u_fits hfc hkC hkind (Or.inr hlay) hi (g7 _ g3) n1 n2
    exact W.putFinK hx hb hown g5 (g6 _ hi) hst hcf hmn (by rw [q2]; exact h6) q1 q3 (by rw [hsl]; exact k2_hasslot (q4 _ g3)) rfl rfl hd fin
theorem x_dj_ok {Y : xY} {E : List xV} {r : Nat → Value} (h : ∀ (k : Nat) (t : xV), E[k]? = some t → x_c Y t (r k)) {x y bx b2 : Nat} (hd : x_dj E x y = true) (hx : r x = .ref bx) (hy : r y = .ref b2) : bx ≠ b2 := by
  unfold x_dj at hd
  split at hd
  · next u q h1 h2 =>
    have c1 := h x _ h1
    have c2 := h y _ h2
    rw [hx] at c1
    rw [hy] at c2
    rcases c1 with ⟨c1, -⟩ | ⟨b1, t1, c1, c3, c4⟩
    · cases c1
    rcases c2 with ⟨c2, -⟩ | ⟨b3, t2, c2, c5, c6⟩
    · cases c2
    cases c1; cases c2
    intro e0
    subst e0
    cases c4.symm.trans c6
    simp only [List.all_eq_true, Bool.not_eq_true', beq_eq_false_iff_ne] at hd
    exact hd t1 c3 t1 c5 rfl
  · cases hd
/-- a written cell of ours: what is kept since the start -/
theorem x_I.put {Y : xY} {H H' : Heap} {locs : List Loc} {b t sl : Nat} (hY0 : ∀ q u, Y0 q = some u → q < H0.size) (hI : x_I D G Zs U ef Y0 H0 Y H locs) (hY : Y b = some t) (hH : x_H D G Zs U Y H') (hz : H'.size = H.size) (ho : ∀ q, q ≠ b → H'[q]? = H[q]?)
    (hE : ∀ g, Y0 b = some t → G[t]? = some g → match g with
      | .inl o => ∀ k, k < o.2.length → (t, k) ∉ ef → x_sl D o.1 k b H' = x_sl D o.1 k b H
      | .inr _ => ((t, 0) ∉ ef → H'[b]? = H[b]?) ∧ ∀ j, (t, j + 1000) ∈ ef → x_el b j H' = x_el b j H) : x_I D G Zs U ef Y0 H0 Y H' (locs ++ [⟨b, sl⟩]) := by
  obtain ⟨-, i2, i3, i4⟩ := hI
  have hA : (∃ u, Y0 b = some u) ∨ H0.size ≤ b := by
    rcases Nat.lt_or_ge b H0.size with q | q
    · exact Or.inl ⟨t, by rw [← i2 b q]; exact hY⟩
    · exact Or.inr q
  refine ⟨hH, i2, fun a' t' g ha hg => ?_, i4.put hz ho hA⟩
  have k1 := i3 a' t' g ha hg
  by_cases ea : a' = b
  · subst ea
    have e2 : t' = t := by
      have := i2 a' (hY0 _ _ ha)
      rw [hY, ha] at this
      exact (Option.some.inj this).symm
    subst e2
    have k2 := hE g ha hg
    rcases g with o | q
    · intro k hk hn
      rw [k2 k hk hn]; exact k1 k hk hn
    · exact ⟨fun hn => by rw [k2.1 hn]; exact k1.1 hn, fun j hj => (k2.2 j hj).trans (k1.2 j hj)⟩
  · rcases g with o | q
    · intro k hk hn
      show (H'[a']?).bind _ = _
      rw [ho a' ea]; exact k1 k hk hn
    · refine ⟨fun hn => by rw [ho a' ea]; exact k1.1 hn, fun j hj => ?_⟩
      have e9 := k1.2 j hj
      unfold x_el at e9 ⊢
      rw [ho a' ea]; exact e9
theorem x_pf_ok {idx : Nat} (hx : p.tables.exec = Jvm.exec) (hb : c.code = cc) (hts : ∀ w ∈ Ts, w.before args s = true) (hown : s.vm.findClass own = some m.cls) (hK : va_K D cl [] s) (hY0 : ∀ q u, Y0 q = some u → q < H0.size) (hpf : ∀ z ∈ pf, x_pok cl G Ts s args own meth.name z)
    (hd : decode cc pc = .ok (.putfield idx, 3)) (h : x_pf G pf ef a pc idx = some sc) (hs : ∀ q ∈ sc, x_K p l e R s m args below meth c Q D G Zs U ef Y0 H0 nL mu q) : x_K p l e R s m args below meth c Q D G Zs U ef Y0 H0 nL mu (pc, a) := by
  intro Y H locs r ls st hI hC
  unfold x_pf at h
  split at h
  · next v o S hS =>
    split at h
    · next ts tv ho hv =>
      obtain ⟨b, t, eb, ht, hY⟩ := x_ref_at (hC.1 o _ ho) rfl
      obtain ⟨y, hy, hm⟩ := x_all_mem h t ht
      have hK1 := hs y hm
      have hst : st = r v :: .ref b :: S.map r := by rw [hC.2.2.1, hS, List.map_cons, List.map_cons, eb]
      rw [hst]
      have hE : ∀ (k : Nat) (u : xV), (a.1.set o (.inr (.inr (false, [t]))))[k]? = some u → x_c Y u (r k) := x_set_ok hC.1 (Or.inr ⟨b, t, eb, List.mem_cons_self, hY⟩)
      split at hy
      · next ci fts z hg hz =>
        have hzm := List.mem_of_find?_eq_some hz
        have hze := List.find?_some hz
        simp only [Bool.and_eq_true, beq_iff_eq] at hze
        obtain ⟨e1, e2⟩ := hze
        subst e1; subst e2
        split at hy
        · next ft hft =>
          split at hy
          · next hc =>
            cases hy
            obtain ⟨hci, hle, hef⟩ := hc
            refine x_put_row hx hb hts hown hK (hpf z hzm) hI.1 hY hd hg hft (x_le_ok hle (hC.1 v _ hv)) fun H' sl hz1 ho1 hH' hs1 hs2 => ?_
            have hI' : x_I D G Zs U ef Y0 H0 Y H' (locs ++ [⟨b, sl⟩]) := by
              refine hI.put hY0 hY hH' hz1 ho1 (fun g hy0 hg2 => ?_)
              cases hg.symm.trans hg2
              intro k hk hn
              by_cases ek : k = z.2.2
              · subst ek
                rcases hef with h1 | h1
                · obtain ⟨q, q1, q2⟩ := List.any_eq_true.mp h1
                  simp only [Bool.and_eq_true, beq_iff_eq] at q2
                  exact absurd (by rw [← q2.1, ← q2.2]; exact q1) hn
                · obtain ⟨q, q1, q2⟩ := List.any_eq_true.mp h1
                  simp only [beq_iff_eq] at q2
                  obtain ⟨b', f1, f2⟩ := hC.2.2.2.2.2.2 q q1
                  rw [q2, eb] at f1
                  cases f1
                  rw [f2] at hy0; cases hy0
              · exact hs2 k hk ek
            refine hK1 Y H' _ r ls _ hI' ⟨hE, hC.2.1, rfl, fun f hf => ?_, hC.2.2.2.2⟩
            rcases List.mem_cons.mp hf with e0 | hf
            · rw [e0]
              exact ⟨b, eb, by show x_fv D ci z.2.2 b H' = _; rw [x_fv_sl hci]; exact hs1⟩
            · obtain ⟨hfm, hfc⟩ := List.mem_filter.mp hf
              obtain ⟨b', f1, f2⟩ := hC.2.2.2.1 f hfm
              refine ⟨b', f1, ?_⟩
              simp only [Bool.or_eq_true, Bool.and_eq_true, beq_iff_eq, Bool.not_eq_true', beq_eq_false_iff_ne, Nat.blt_eq] at hfc
              rcases hfc with ⟨c1, ⟨c2, c3⟩, c4⟩ | hfc
              · rw [c1, eb] at f1
                cases f1
                rw [c2, x_fv_sl hci] at f2 ⊢
                rw [hs2 _ c4 c3]; exact f2
              · have hne := x_dj_ok hC.1 hfc f1 eb
                show (H'[b']?).bind _ = _
                rw [ho1 b' hne]; exact f2
          · cases hy
        · cases hy
      · cases hy
    · cases h
  · cases h
theorem x_idx {u : Int × Int} {x : Int32} {n : Nat} (hb : x_b u x) (h0 : 0 ≤ u.1) (h1 : u.2 < (n : Int)) : ¬ (x < 0 ∨ n ≤ x.toNatClampNeg) ∧ x.toNatClampNeg < n := by
  have a1 := hb.1; have a2 := hb.2
  have hc : x.toNatClampNeg = x.toInt.toNat := rfl
  have hlt : x.toNatClampNeg < n := by rw [hc]; omega
  refine ⟨fun h => ?_, hlt⟩
  rcases h with h | h
  · rw [Int32.lt_iff_toInt_lt] at h
    have z : (0 : Int32).toInt = 0 := rfl
    omega
  · omega
theorem x_ial_ok {i : Instr} {ty : FieldType → Bool} (hw : x_wf a = true) (hU : U.WarmedH s.vm)
    (row : ∀ (H : Heap) (locs : List Loc) (cells slots : Nat) (ls : Array Slot) (rest : List Value) (b : Addr) (cell : Cell) (j : Int32) (v : Value) (et : FieldType), ty et = true → H[b]? = some cell → s.isArrayOf cell et → cell.vm ≠ .unknown → ¬ (j < 0 ∨ cell.slots.size ≤ j.toNatClampNeg) → cell.slots[j.toNatClampNeg]? = some v →
      W p l e R s m args below meth c H locs cells slots Q (F0 m (pc + 1) ls (v :: rest)) → W p l e R s m args below meth c H locs cells slots Q (F0 m pc ls (.int j :: .ref b :: rest)))
    (h : x_ial G a pc ty = some sc) (hs : ∀ q ∈ sc, x_K p l e R s m args below meth c Q D G Zs U ef Y0 H0 nL mu q) : x_K p l e R s m args below meth c Q D G Zs U ef Y0 H0 nL mu (pc, a) := by
  intro Y H locs r ls st hI hC
  unfold x_ial at h
  split at h
  · next i o S hS =>
    split at h
    · next ts u ho hi =>
      obtain ⟨b, t, eb, ht, hY⟩ := x_ref_at (hC.1 o _ ho) rfl
      obtain ⟨y, hy, hm⟩ := x_all_mem h t ht
      have hK1 := hs y hm
      obtain ⟨vi, ei, bi⟩ := hC.1 i _ hi
      have hst : st = .int vi :: .ref b :: S.map r := by rw [hC.2.2.1, hS, List.map_cons, List.map_cons, eb, ei]
      rw [hst]
      have hE : ∀ (k : Nat) (u : xV), (a.1.set o (.inr (.inr (false, [t]))))[k]? = some u → x_c Y u (r k) := x_set_ok hC.1 (Or.inr ⟨b, t, eb, List.mem_cons_self, hY⟩)
      have hSl : ∀ k ∈ S, k < a.1.length := fun k hk => (x_wf_spec hw).2.1 k (by rw [hS]; exact List.mem_cons_of_mem _ (List.mem_cons_of_mem _ hk))
      split at hy
      · next et n pre ft hg =>
        split at hy
        · next hc =>
          split at hy
          · next w hwr =>
            obtain ⟨c1, c2, c3⟩ := hc
            obtain ⟨g, h1, h2⟩ := hI.1.1 b _ hY
            cases h1.symm.trans hg
            obtain ⟨cell, q1, q2, q3, q4, q5, q6⟩ := h2
            have hix := x_idx bi c2 c3
            have hln : vi.toNatClampNeg < cell.slots.size := by rw [q4]; exact hix.2
            refine row H locs _ _ ls _ b cell vi cell.slots[vi.toNatClampNeg] et c1 q1 (State.isArrayOf_alike hU.alike q2) q3 (by rw [q4]; exact hix.1) (Array.getElem?_eq_getElem hln) ?_
            have hw2 : x_wf (a.1.set o (.inr (.inr (false, [t]))), a.2) = true := by
              have h3 := hw
              simp only [x_wf, Bool.and_eq_true, List.all_eq_true, Nat.blt_eq, List.length_set] at h3 ⊢
              exact h3
            have hC2 : x_C D Y0 nL mu Y H (a.1.set o (.inr (.inr (false, [t]))), a.2) r ls st := ⟨hE, hC.2⟩
            have hvw : x_c Y w cell.slots[vi.toNatClampNeg] := x_er_ok hwr bi c2 (q6 _ _ (Array.getElem?_eq_getElem hln))
            have hP := hC2.psh hw2 (S := S) (fun k hk => by show k < (a.1.set o _).length; rw [List.length_set]; exact hSl k hk) hvw
            split at hy
            · next huu =>
              have hvn : vi.toNatClampNeg = u.1.toNat := by
                have b1 := bi.1; have b2 := bi.2
                have hcl : vi.toNatClampNeg = vi.toInt.toNat := rfl
                rw [hcl]; omega
              have hfv : x_fv D 1000 u.1.toNat b H = some cell.slots[vi.toNatClampNeg] := by
                unfold x_fv
                rw [q1, if_pos rfl, ← hvn]
                exact Array.getElem?_eq_getElem hln
              split at hy
              · next f hf =>
                cases hy
                have hfm := List.mem_of_find?_eq_some hf
                have hfe := List.find?_some hf
                simp only [Bool.and_eq_true, beq_iff_eq] at hfe
                obtain ⟨f1, f2, f3⟩ := hfe
                obtain ⟨b', g1, g2⟩ := hC.2.2.2.1 f hfm
                rw [f1, eb] at g1
                cases g1
                rw [f2, f3, hfv] at g2
                rw [Option.some.inj g2]
                exact hK1 Y H locs r ls _ hI (hC.env hE (f.2.2.2 :: S))
              · cases hy
                have hlnE : (a.1.set o (.inr (.inr (false, [t])))).length = a.1.length := List.length_set
                refine hK1 Y H locs (updV r a.1.length cell.slots[vi.toNatClampNeg]) ls (cell.slots[vi.toNatClampNeg] :: S.map r) hI ?_
                unfold x_psh at hP
                dsimp only at hP
                rw [hlnE] at hP
                obtain ⟨p1, p2, p3, p4, p5⟩ := hP
                refine ⟨p1, p2, p3, fun f hf => ?_, p5⟩
                rcases List.mem_cons.mp hf with e0 | hf
                · rw [e0]
                  exact ⟨b, by show updV r a.1.length _ o = _; rw [x_up_ag (List.getElem?_eq_some_iff.mp ho).1]; exact eb, by show x_fv D 1000 u.1.toNat b H = some (updV r a.1.length _ a.1.length); rw [x_up_at]; exact hfv⟩
                · exact p4 f hf
            · cases hy
              exact hK1 Y H locs _ ls _ hI hP
          · cases hy
        · cases hy
      · cases hy
    · cases h
  · cases h
theorem x_aln_ok (hw : x_wf a = true) (hx : p.tables.exec = Jvm.exec) (hb : c.code = cc) (hU : U.WarmedH s.vm) (hd : decode cc pc = .ok (.arraylength, 1))
    (h : x_aln G a pc = some sc) (hs : ∀ q ∈ sc, x_K p l e R s m args below meth c Q D G Zs U ef Y0 H0 nL mu q) : x_K p l e R s m args below meth c Q D G Zs U ef Y0 H0 nL mu (pc, a) := by
  intro Y H locs r ls st hI hC
  unfold x_aln at h
  split at h
  · next o S hS =>
    split at h
    · next ts ho =>
      obtain ⟨b, t, eb, ht, hY⟩ := x_ref_at (hC.1 o _ ho) rfl
      obtain ⟨y, hy, hm⟩ := x_all_mem h t ht
      have hK1 := hs y hm
      have hst : st = .ref b :: S.map r := by rw [hC.2.2.1, hS, List.map_cons, eb]
      rw [hst]
      have hE : ∀ (k : Nat) (u : xV), (a.1.set o (.inr (.inr (false, [t]))))[k]? = some u → x_c Y u (r k) := x_set_ok hC.1 (Or.inr ⟨b, t, eb, List.mem_cons_self, hY⟩)
      have hSl : ∀ k ∈ S, k < a.1.length := fun k hk => (x_wf_spec hw).2.1 k (by rw [hS]; exact List.mem_cons_of_mem _ hk)
      split at hy
      · next et n pre ft hg =>
        split at hy
        · next hn =>
          cases hy
          obtain ⟨g, h1, h2⟩ := hI.1.1 b _ hY
          cases h1.symm.trans hg
          obtain ⟨cell, q1, q2, q3, q4, q5, q6⟩ := h2
          refine W.alen hx hb q1 (State.isArrayOf_alike hU.alike q2) rfl rfl rfl hd ?_
          have hw2 : x_wf (a.1.set o (.inr (.inr (false, [t]))), a.2) = true := by
            have h3 := hw
            simp only [x_wf, Bool.and_eq_true, List.all_eq_true, Nat.blt_eq, List.length_set] at h3 ⊢
            exact h3
          have hC2 : x_C D Y0 nL mu Y H (a.1.set o (.inr (.inr (false, [t]))), a.2) r ls st := ⟨hE, hC.2⟩
          have q4' : cell.slots.size = n := q4
          have hv : (cell.slots.size.toInt32).toInt = (n : Int) := by
            rw [q4']
            exact nI_toInt (by omega)
          exact hK1 Y H locs _ ls _ hI (hC2.psh hw2 (S := S) (fun k hk => by show k < (a.1.set o _).length; rw [List.length_set]; exact hSl k hk) (t := .inl ((n : Int), (n : Int))) (v := .int cell.slots.size.toInt32) ⟨_, rfl, by rw [hv]; exact Int.le_refl _, by rw [hv]; exact Int.le_refl _⟩)
        · cases hy
      · cases hy
    · cases h
  · cases h
end XR
