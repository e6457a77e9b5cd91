/-! stores of booleans and references; null tests; switches; constants; the stack -/
def x_bas (G : List xG) (ef : List (Nat × Nat)) (a : xS) (pc : Nat) : xN := match a.2.2.1 with
  | v :: i :: o :: S => (match a.1[o]?, a.1[i]?, a.1[v]? with
    | some (.inr (.inr (false, ts))), some (.inl u), some (.inl _) => x_all (fun (t : Nat) => match G[t]? with
      | some (.inr (.boolean, n, pre, ft)) => if (x_ew pre ft u).any (fun w => x_le (.inl (0, 1)) w) = true ∧ 0 ≤ u.1 ∧ u.2 < (n : Int) ∧ ((ef.any (fun q => q.1 == t && q.2 == 0) && x_xf ef t u) = true ∨ a.2.2.2.2.2.2.1.any (fun k => k == o) = true) then
          some (pc + 1, (a.1.set o (.inr (.inr (false, [t]))), a.2.1, S, a.2.2.2.1.filter (x_kp a.1 o u), a.2.2.2.2)) else none
      | _ => none) ts
    | _, _, _ => none)
  | _ => none
def x_aas (G : List xG) (ef ao : List (Nat × Nat)) (a : xS) (pc : Nat) : xN := match a.2.2.1 with
  | v :: i :: o :: S => (match a.1[o]?, a.1[i]?, a.1[v]? with
    | some (.inr (.inr (false, ts))), some (.inl u), some (.inr (.inr (false, us))) => x_all (fun (t : Nat) => match G[t]? with
      | some (.inr (_, n, pre, ft)) => if (x_ew pre ft u).any (fun w => x_le (.inr (.inr (false, us))) w) = true ∧ us.all (fun z => ao.any (fun q => q.1 == t && q.2 == z)) = true ∧ 0 ≤ u.1 ∧ u.2 < (n : Int) ∧ ((ef.any (fun q => q.1 == t && q.2 == 0) && x_xf ef t u) = true ∨ a.2.2.2.2.2.2.1.any (fun k => k == o) = true) then
          some (pc + 1, (a.1.set o (.inr (.inr (false, [t]))), a.2.1, S, a.2.2.2.1.filter (x_kp a.1 o u), a.2.2.2.2)) else none
      | _ => none) ts
    | _, _, _ => none)
  | _ => none
/-- a value of tag z.2 may stand in an array of tag z.1 -/
def x_sok (cl : List vw_C) (G : List xG) (s : State) (z : Nat × Nat) : Prop := ∃ (n : Nat) (pre : List xV) (ft : xV) (C : String) (ci : Nat) (fts : List xV) (r : vw_C), G[z.1]? = some (.inr (.object C, n, pre, ft)) ∧ G[z.2]? = some (.inl (ci, fts)) ∧ cl[ci]? = some r ∧ va_Nw (.castable r.1 C) s
def x_ifn (a : xS) (pc : Nat) (off : Int) (non : Bool) : xN := match a.2.2.1 with
  | o :: S => (match a.1[o]? with
    | some (.inr (.inr q)) => if (pc : Int) + off = ((((pc : Int) + off).toNat : Nat) : Int) then some ((if non then ((pc : Int) + off).toNat else pc + 3, (a.1.set o (.inr (.inr (false, q.2))), a.2.1, S, a.2.2.2)) ::
        (if q.1 then [(if non then pc + 3 else ((pc : Int) + off).toNat, x_top a S)] else [])) else none
    | _ => none)
  | _ => none
def x_tgt (pc : Nat) (off : Int) : Option Nat := if (pc : Int) + off = ((((pc : Int) + off).toNat : Nat) : Int) then some ((pc : Int) + off).toNat else none
def x_sw (a : xS) (pc : Nat) (dflt lo hi : Int) (offs : Array Int) : xN := match a.2.2.1 with
  | x :: S => (match a.1[x]?, x_tgt pc dflt with
    | some (.inl u), some td => if 0 ≤ hi - lo ∧ hi - lo < 100 then
      (match x_all (fun (k : Nat) => match offs[k]? with
        | some off => (match x_tgt pc off, x_meet (.inl u) (.inl (lo + k, lo + k)) with
          | some t, some w => some [(t, (a.1.set x w, a.2.1, S, a.2.2.2))]
          | some _, none => some []
          | none, _ => none)
        | none => none) (List.range ((hi - lo).toNat + 1)) with
      | some ys => some (ys.flatten ++ ((match x_meet (.inl u) (.inl (-2147483648, lo - 1)) with
        | some w => [(td, (a.1.set x w, a.2.1, S, a.2.2.2))]
        | none => []) ++ (match x_meet (.inl u) (.inl (hi + 1, 2147483647)) with
        | some w => [(td, (a.1.set x w, a.2.1, S, a.2.2.2))]
        | none => [])))
      | none => none) else none
    | _, _ => none)
  | _ => none
def x_dup (a : xS) (pc : Nat) : xN := match a.2.2.1 with
  | x :: S => if x_n2 a.1 x then some [(pc + 1, x_top a (x :: x :: S))] else none
  | _ => none
def x_dup2 (a : xS) (pc : Nat) : xN := match a.2.2.1 with
  | y :: x :: S => if x_n2 a.1 x = true ∧ x_n2 a.1 y = true then some [(pc + 1, x_top a (y :: x :: y :: x :: S))] else none
  | _ => none
def x_pop (a : xS) (pc : Nat) : xN := match a.2.2.1 with
  | x :: S => if x_n2 a.1 x then some [(pc + 1, x_top a S)] else none
  | _ => none
def x_pop2 (a : xS) (pc : Nat) : xN := match a.2.2.1 with
  | x :: S => (match a.1[x]? with
    | some (.inr (.inl _)) => some [(pc + 1, x_top a S)]
    | _ => none)
  | _ => none
section XD
variable {p : Program} {l : Launch} {e : Env} {R : Room} {s : State} {m : MethodId} {args : Array Value} {below : List Frame} {meth : Method} {c : Code} {Q : State → Prop}
variable {D : va_G} {G : List xG} {Zs : List xZ} {U : State} {ef : List (Nat × Nat)} {Y0 : xY} {H0 : Heap} {nL : Nat} {mu : List Value}
variable {cc : ByteArray} {pc : Nat} {a : xS} {sc : List (Nat × xS)} {cl : List vw_C} {Ts : List Cond} {own : String}
/-- behind a store into an array of ours -/
theorem x_stored {Y : xY} {H H' : Heap} {locs : List Loc} {r : Nat → Value} {ls : Array Slot} {st : List Value} {o b t j : Nat} {S : List Nat} {cell : Cell} {q : FieldType × Nat × List xV × xV} {v : Value} {pc' : Nat} {u : Int × Int} {nf : List (Nat × Nat × Nat × Nat)} (hnf : ∀ f ∈ nf, f.1 = o ∧ f.2.1 = 1000 ∧ f.2.2.1 = j ∧ r f.2.2.2 = v) (hju : u.1 ≤ (j : Int) ∧ (j : Int) ≤ u.2) (hY0 : ∀ q u, Y0 q = some u → q < H0.size)
    (hI : x_I D G Zs U ef Y0 H0 Y H locs) (hC : x_C D Y0 nL mu Y H a r ls st) (eb : r o = .ref b) (hY : Y b = some t) (hg : G[t]? = some (.inr q)) (q1 : H[b]? = some cell) (q2 : U.isArrayOf cell q.1) (q3 : cell.vm ≠ .unknown) (q4 : cell.slots.size = q.2.1) (q5 : q.1.isReference = true → va_RA U cell.cls q.1)
    (q6 : ∀ (j : Nat) (v : Value), cell.slots[j]? = some v → x_c Y (q.2.2.1.getD j q.2.2.2) v) (hj : j < q.2.1) (hv : x_c Y (q.2.2.1.getD j q.2.2.2) v) (e1 : H'[b]? = some (cell.setSlot j v)) (e2 : H'.size = H.size) (e3 : ∀ q, q ≠ b → H'[q]? = H[q]?)
    (hef : (ef.any (fun q => q.1 == t && q.2 == 0) && x_xf ef t u) = true ∨ a.2.2.2.2.2.2.1.any (fun k => k == o) = true)
    (hs : x_K p l e R s m args below meth c Q D G Zs U ef Y0 H0 nL mu (pc', (a.1.set o (.inr (.inr (false, [t]))), a.2.1, S, nf ++ a.2.2.2.1.filter (x_kp a.1 o u), a.2.2.2.2))) : W p l e R s m args below meth c H' (locs ++ [⟨b, j⟩]) (x_cells a) (x_slots a) Q (F0 m pc' ls (S.map r)) := by
  have hE : ∀ (k : Nat) (u : xV), (a.1.set o (.inr (.inr (false, [t]))))[k]? = some u → x_c Y u (r k) := x_set_ok hC.1 (Or.inr ⟨b, t, eb, List.mem_cons_self, hY⟩)
  have hH' : x_H D G Zs U Y H' := by
    refine hI.1.put hY e3 hg ⟨_, e1, ⟨q2.1, q2.2⟩, q3, by show (cell.setSlot _ _).slots.size = q.2.1; rw [← q4]; simp [Cell.setSlot], q5, fun j' w hj' => ?_⟩
    by_cases ej : j' = j
    · subst ej
      rw [Cell.slots_setSlot_self _ (by rw [q4]; exact hj)] at hj'
      cases hj'
      exact hv
    · rw [Cell.slots_setSlot_ne _ (Ne.symm ej)] at hj'
      exact q6 j' w hj'
  have hI' : x_I D G Zs U ef Y0 H0 Y H' (locs ++ [⟨b, j⟩]) := by
    refine hI.put hY0 hY hH' e2 e3 (fun g hy0 hg2 => ?_)
    cases hg.symm.trans hg2
    rcases hef with h1 | h1
    · rw [Bool.and_eq_true] at h1
      refine ⟨fun hn => absurd (x_anyp h1.1) hn, fun j9 hj9 => ?_⟩
      have n9 := x_xf_ok h1.2 hju hj9
      unfold x_el
      rw [e1, q1]
      show (cell.setSlot j v).slots[j9]? = cell.slots[j9]?
      rw [Cell.slots_setSlot_ne _ (Ne.symm n9)]
    · obtain ⟨q, q1, q2⟩ := List.any_eq_true.mp h1
      simp only [beq_iff_eq] at q2
      obtain ⟨b', f1, f2⟩ := hC.2.2.2.2.2.2 q q1
      rw [q2, eb] at f1
      cases f1
      rw [f2] at hy0; cases hy0
  refine hs Y H' _ r ls _ hI' ⟨hE, hC.2.1, rfl, fun f hf => ?_, hC.2.2.2.2⟩
  rcases List.mem_append.mp hf with hf | hf
  · obtain ⟨n1, n2, n3, n4⟩ := hnf f hf
    refine ⟨b, by rw [n1]; exact eb, ?_⟩
    rw [n2, n3, n4]
    unfold x_fv
    rw [e1, if_pos rfl]
    exact Cell.slots_setSlot_self _ (by rw [q4]; exact hj)
  obtain ⟨hfm, hfc⟩ := List.mem_filter.mp hf
  obtain ⟨b', f1, f2⟩ := hC.2.2.2.1 f hfm
  refine ⟨b', f1, ?_⟩
  unfold x_kp at hfc
  rw [Bool.or_eq_true] at hfc
  rcases hfc with hfc | hfc
  · have hne := x_dj_ok hC.1 hfc f1 eb
    show (H'[b']?).bind _ = _
    rw [e3 b' hne]; exact f2
  · simp only [Bool.and_eq_true, Bool.or_eq_true, beq_iff_eq, decide_eq_true_eq] at hfc
    obtain ⟨g1, g2, g3⟩ := hfc
    rw [g1, eb] at f1
    cases f1
    rw [g2] at f2 ⊢
    unfold x_fv at f2 ⊢
    rw [q1, if_pos rfl] at f2
    rw [e1, if_pos rfl]
    show (cell.setSlot j v).slots[f.2.2.1]? = _
    rw [Cell.slots_setSlot_ne _ (by intro e0; subst e0; omega)]
    exact f2
theorem x_ias_ok (hx : p.tables.exec = Jvm.exec) (hb : c.code = cc) (hU : U.WarmedH s.vm) (hY0 : ∀ q u, Y0 q = some u → q < H0.size) (hd : decode cc pc = .ok (.iastore, 1))
    (h : x_ias G ef a pc = some sc) (hs : ∀ q ∈ sc, x_K p l e R s m args below meth c Q D G Zs U ef Y0 H0 nL mu q) : x_K p l e R s m args below meth c Q D G Zs U ef Y0 H0 nL mu (pc, a) := by
  intro Y H locs r ls st hI hC
  unfold x_ias at h
  split at h
  · next v i o S hS =>
    split at h
    · next ts u tv ho hi hv =>
      obtain ⟨b, t, eb, ht, hY⟩ := x_ref_at (hC.1 o _ ho) rfl
      obtain ⟨y, hy, hm⟩ := x_all_mem h t ht
      have hK1 := hs y hm
      obtain ⟨vi, ei, bi⟩ := hC.1 i _ hi
      obtain ⟨vv, ev, bv⟩ := hC.1 v _ hv
      have hst : st = .int vv :: .int vi :: .ref b :: S.map r := by rw [hC.2.2.1, hS, List.map_cons, List.map_cons, List.map_cons, eb, ei, ev]
      rw [hst]
      split at hy
      · next n pre ft hg =>
        split at hy
        · next hc =>
          cases hy
          obtain ⟨hle, c2, c3, hef⟩ := hc
          obtain ⟨w, hwr, hle⟩ : ∃ w, x_ew pre ft u = some w ∧ x_le (.inl tv) w = true := by
            cases hq : x_ew pre ft u with
            | none => rw [hq] at hle; cases hle
            | some w => rw [hq] at hle; exact ⟨w, rfl, hle⟩
          obtain ⟨g, h1, h2⟩ := hI.1.1 b _ hY
          cases h1.symm.trans hg
          obtain ⟨cell, q1, q2, q3, q4, q5, q6⟩ := h2
          have q4' : cell.slots.size = n := q4
          have hix := x_idx bi c2 c3
          refine W.iast hx hb q1 (State.isArrayOf_alike hU.alike q2) q3 (by rw [q4']; exact hix.1) rfl rfl hd fun H' e1 e2 e3 => ?_
          have hvv : x_c Y (pre.getD vi.toNatClampNeg ft) (.int vv) := by rw [x_ew_ok hwr bi c2]; exact x_le_ok hle ⟨vv, rfl, bv⟩
          have b1 := bi.1; have b2 := bi.2
          have hcl : vi.toNatClampNeg = vi.toInt.toNat := rfl
          refine x_stored (S := S) (u := u) (fun f hf => ?_) (by rw [hcl]; omega) hY0 hI hC eb hY hg q1 q2 q3 q4 q5 q6 hix.2 hvv e1 e2 e3 hef hK1
          split at hf
          · next huu =>
            rcases List.mem_cons.mp hf with e0 | hf
            · rw [e0]
              exact ⟨rfl, rfl, by show u.1.toNat = _; rw [hcl]; omega, ev⟩
            · cases hf
          · cases hf
        · cases hy
      · cases hy
    · cases h
  · cases h
theorem x_bas_ok (hx : p.tables.exec = Jvm.exec) (hb : c.code = cc) (hU : U.WarmedH s.vm) (hY0 : ∀ q u, Y0 q = some u → q < H0.size) (hd : decode cc pc = .ok (.bastore, 1))
    (h : x_bas G ef a pc = some sc) (hs : ∀ q ∈ sc, x_K p l e R s m args below meth c Q D G Zs U ef Y0 H0 nL mu q) : x_K p l e R s m args below meth c Q D G Zs U ef Y0 H0 nL mu (pc, a) := by
  intro Y H locs r ls st hI hC
  unfold x_bas at h
  split at h
  · next v i o S hS =>
    split at h
    · next ts u tv ho hi hv =>
      obtain ⟨b, t, eb, ht, hY⟩ := x_ref_at (hC.1 o _ ho) rfl
      obtain ⟨y, hy, hm⟩ := x_all_mem h t ht
      have hK1 := hs y hm
      obtain ⟨vi, ei, bi⟩ := hC.1 i _ hi
      obtain ⟨vv, ev, bv⟩ := hC.1 v _ hv
      have hst : st = .int vv :: .int vi :: .ref b :: S.map r := by rw [hC.2.2.1, hS, List.map_cons, List.map_cons, List.map_cons, eb, ei, ev]
      rw [hst]
      split at hy
      · next n pre ft hg =>
        split at hy
        · next hc =>
          cases hy
          obtain ⟨hle, c2, c3, hef⟩ := hc
          obtain ⟨w, hwr, hle⟩ : ∃ w, x_ew pre ft u = some w ∧ x_le (.inl (0, 1)) w = true := by
            cases hq : x_ew pre ft u with
            | none => rw [hq] at hle; cases hle
            | some w => rw [hq] at hle; exact ⟨w, rfl, hle⟩
          obtain ⟨g, h1, h2⟩ := hI.1.1 b _ hY
          cases h1.symm.trans hg
          obtain ⟨cell, q1, q2, q3, q4, q5, q6⟩ := h2
          have q4' : cell.slots.size = n := q4
          have hix := x_idx bi c2 c3
          refine W.zast hx hb q1 (State.isArrayOf_alike hU.alike q2) q3 (by rw [q4']; exact hix.1) rfl rfl hd fun H' e1 e2 e3 => ?_
          have z1 : (0 : Int) ≤ (1 : Int32).toInt := by decide
          have hvv : x_c Y (pre.getD vi.toNatClampNeg ft) (narrow .boolean (.int vv)) := by
            rw [x_ew_ok hwr bi c2]
            exact x_le_ok hle ⟨vv &&& 1, rfl, (x_and1 z1).1, (x_and1 z1).2⟩
          have b1 := bi.1; have b2 := bi.2
          have hcl : vi.toNatClampNeg = vi.toInt.toNat := rfl
          exact x_stored (S := S) (u := u) (nf := []) (fun f hf => by cases hf) (by rw [hcl]; omega) hY0 hI hC eb hY hg q1 q2 q3 q4 q5 q6 hix.2 hvv e1 e2 e3 hef hK1
        · cases hy
      · cases hy
    · cases h
  · cases h
theorem x_aas_ok {ao : List (Nat × Nat)} (hx : p.tables.exec = Jvm.exec) (hb : c.code = cc) (hU : U.WarmedH s.vm) (hK : va_K D cl [] s) (hY0 : ∀ q u, Y0 q = some u → q < H0.size) (hao : ∀ z ∈ ao, x_sok cl G s z) (hd : decode cc pc = .ok (.aastore, 1))
    (h : x_aas G ef ao a pc = some sc) (hs : ∀ q ∈ sc, x_K p l e R s m args below meth c Q D G Zs U ef Y0 H0 nL mu q) : x_K p l e R s m args below meth c Q D G Zs U ef Y0 H0 nL mu (pc, a) := by
  intro Y H locs r ls st hI hC
  unfold x_aas at h
  split at h
  · next v i o S hS =>
    split at h
    · next ts u us ho hi hv =>
      obtain ⟨b, t, eb, ht, hY⟩ := x_ref_at (hC.1 o _ ho) rfl
      obtain ⟨y, hy, hm⟩ := x_all_mem h t ht
      have hK1 := hs y hm
      obtain ⟨vi, ei, bi⟩ := hC.1 i _ hi
      have hcv := hC.1 v _ hv
      obtain ⟨bv, tv, ev, htv, hYv⟩ := x_ref_at hcv rfl
      have hst : st = .ref bv :: .int vi :: .ref b :: S.map r := by rw [hC.2.2.1, hS, List.map_cons, List.map_cons, List.map_cons, eb, ei, ev]
      rw [hst]
      split at hy
      · next et n pre ft hg =>
        split at hy
        · next hc =>
          cases hy
          obtain ⟨hle, hau, c2, c3, hef⟩ := hc
          obtain ⟨w, hwr, hle⟩ : ∃ w, x_ew pre ft u = some w ∧ x_le (.inr (.inr (false, us))) w = true := by
            cases hq : x_ew pre ft u with
            | none => rw [hq] at hle; cases hle
            | some w => rw [hq] at hle; exact ⟨w, rfl, hle⟩
          obtain ⟨z, hz, hze⟩ := List.any_eq_true.mp (List.all_eq_true.mp hau tv htv)
          simp only [Bool.and_eq_true, beq_iff_eq] at hze
          obtain ⟨n', pre', ft', C, ci, fts, rr, g1, g2, g3, g4⟩ := hao z hz
          rw [hze.1] at g1
          rw [hze.2] at g2
          cases hg.symm.trans g1
          obtain ⟨g, h1, h2⟩ := hI.1.1 b _ hY
          cases h1.symm.trans hg
          obtain ⟨cell, q1, q2, q3, q4, q5, q6⟩ := h2
          obtain ⟨gv, h3, h4⟩ := hI.1.1 bv _ hYv
          cases h3.symm.trans g2
          obtain ⟨V, ⟨cellV, w1, w2, w3, -⟩, -⟩ := h4
          have q4' : cell.slots.size = n := q4
          have hix := x_idx bi c2 c3
          obtain ⟨kA, comp, k1, k2, k3, -⟩ := va_RA.moved hU.alike (q5 rfl)
          obtain ⟨kE, hkE, -⟩ := Vm.findClass_spec k3
          obtain ⟨c0, t1, f1, f2, f3⟩ := Cond.castable_spec (va_Nw.use (A := args) rfl g4)
          have hcls := (hK.1 ci rr g3).2
          cases hcls.1.symm.trans f1
          cases k3.symm.trans f2
          obtain ⟨kC, hkC, -⟩ := hcls.2
          have hI1 : ¬ vi < 0 := fun hq => hix.1 (Or.inl hq)
          refine W.aast hx hb q1 q2.1 q3 k1 k2 rfl hkE ⟨hI1, by rw [q4']; exact hix.2⟩ w1 (fun q hq => by rw [w3] at hq; cases hq) (by rw [w2]; exact hkC) (by rw [w2]; exact f3) rfl rfl hd fun H' e1 e2 e3 => ?_
          have hvv : x_c Y (pre.getD vi.toNatClampNeg ft) (.ref bv) := by
            rw [x_ew_ok hwr bi c2]
            rw [ev] at hcv
            exact x_le_ok hle hcv
          have b1 := bi.1; have b2 := bi.2
          have hcl : vi.toNatClampNeg = vi.toInt.toNat := rfl
          exact x_stored (S := S) (u := u) (nf := []) (fun f hf => by cases hf) (by rw [hcl]; omega) hY0 hI hC eb hY hg q1 q2 q3 q4 q5 q6 hix.2 hvv e1 e2 e3 hef hK1
        · cases hy
      · cases hy
    · cases h
  · cases h
theorem x_ifn_ok {off : Int} {non : Bool} (rowR : ∀ (H : Heap) (locs : List Loc) (cells slots : Nat) (ls : Array Slot) (rest : List Value) (b tgt : Nat), (pc : Int) + off = (tgt : Int) → W p l e R s m args below meth c H locs cells slots Q (F0 m (if non then tgt else pc + 3) ls rest) → W p l e R s m args below meth c H locs cells slots Q (F0 m pc ls (.ref b :: rest)))
    (rowN : ∀ (H : Heap) (locs : List Loc) (cells slots : Nat) (ls : Array Slot) (rest : List Value) (tgt : Nat), (pc : Int) + off = (tgt : Int) → W p l e R s m args below meth c H locs cells slots Q (F0 m (if non then pc + 3 else tgt) ls rest) → W p l e R s m args below meth c H locs cells slots Q (F0 m pc ls (.null :: rest)))
    (h : x_ifn a pc off non = some sc) (hs : ∀ q ∈ sc, x_K p l e R s m args below meth c Q D G Zs U ef Y0 H0 nL mu q) : x_K p l e R s m args below meth c Q D G Zs U ef Y0 H0 nL mu (pc, a) := by
  intro Y H locs r ls st hI hC
  unfold x_ifn at h
  split at h
  · next o S hS =>
    split at h
    · next q ho =>
      split at h
      · next htg =>
        cases h
        have hc := hC.1 o _ ho
        have hst : st = r o :: S.map r := by rw [hC.2.2.1, hS, List.map_cons]
        rw [hst]
        rcases hc with ⟨hn, hq⟩ | ⟨b, t, eb, ht, hY⟩
        · rw [hn]
          refine rowN H locs _ _ ls _ _ htg ?_
          refine hs (_, x_top a S) (List.mem_cons_of_mem _ ?_) Y H locs r ls _ hI (hC.stk S)
          rw [if_pos hq]
          exact List.mem_cons_self
        · rw [eb]
          refine rowR H locs _ _ ls _ b _ htg ?_
          refine hs (_, (a.1.set o (.inr (.inr (false, q.2))), a.2.1, S, a.2.2.2)) List.mem_cons_self Y H locs r ls _ hI (hC.env ?_ S)
          exact x_set_ok hC.1 (Or.inr ⟨b, t, eb, ht, hY⟩)
      · cases h
    · cases h
  · cases h
theorem x_tgt_ok {off : Int} {t : Nat} (h : x_tgt pc off = some t) : (pc : Int) + off = (t : Int) := by
  unfold x_tgt at h
  split at h
  · next q => cases h; exact q
  · cases h
theorem x_sw_ok {dflt lo hi : Int} {offs : Array Int} {len : Nat} (hx : p.tables.exec = Jvm.exec) (hb : c.code = cc) (hd : decode cc pc = .ok (.tableswitch dflt lo hi offs, len))
    (h : x_sw a pc dflt lo hi offs = some sc) (hs : ∀ q ∈ sc, x_K p l e R s m args below meth c Q D G Zs U ef Y0 H0 nL mu q) : x_K p l e R s m args below meth c Q D G Zs U ef Y0 H0 nL mu (pc, a) := by
  intro Y H locs r ls st hI hC
  unfold x_sw at h
  split at h
  · next x S hS =>
    split at h
    · next u td hu htd =>
      split at h
      · next hlh =>
        split at h
        · next ys hys =>
          cases h
          obtain ⟨v, ev, bv⟩ := hC.1 x _ hu
          have hst : st = .int v :: S.map r := by rw [hC.2.2.1, hS, List.map_cons, ev]
          rw [hst]
          have hcv : x_c Y (.inl u) (r x) := hC.1 x _ hu
          have rg := x_rng v
          by_cases h1 : v.toInt < lo
          · obtain ⟨w, m1, m2⟩ := x_meet_ok hcv (u := .inl (-2147483648, lo - 1)) ⟨v, ev, by show -2147483648 ≤ v.toInt; omega, by show v.toInt ≤ lo - 1; omega⟩
            refine lv_tableOut hx hb hd (Or.inl h1) (x_tgt_ok htd) ?_
            refine hs (td, (a.1.set x w, a.2.1, S, a.2.2.2)) (List.mem_append_right _ (List.mem_append_left _ (by rw [m1]; exact List.mem_cons_self))) Y H locs r ls _ hI (hC.env (x_set_ok hC.1 m2) S)
          · by_cases h2 : hi < v.toInt
            · obtain ⟨w, m1, m2⟩ := x_meet_ok hcv (u := .inl (hi + 1, 2147483647)) ⟨v, ev, by show hi + 1 ≤ v.toInt; omega, by show v.toInt ≤ 2147483647; omega⟩
              refine lv_tableOut hx hb hd (Or.inr h2) (x_tgt_ok htd) ?_
              refine hs (td, (a.1.set x w, a.2.1, S, a.2.2.2)) (List.mem_append_right _ (List.mem_append_right _ (by rw [m1]; exact List.mem_cons_self))) Y H locs r ls _ hI (hC.env (x_set_ok hC.1 m2) S)
            · obtain ⟨y, hy, hym⟩ := x_all_mem hys (v.toInt - lo).toNat (List.mem_range.mpr (by omega))
              split at hy
              · next off hoff =>
                have ek : lo + (((v.toInt - lo).toNat : Nat) : Int) = v.toInt := by omega
                obtain ⟨w, m1, m2⟩ := x_meet_ok hcv (u := .inl (lo + (((v.toInt - lo).toNat : Nat) : Int), lo + (((v.toInt - lo).toNat : Nat) : Int))) ⟨v, ev, by show _ ≤ v.toInt; omega, by show v.toInt ≤ _; omega⟩
                rw [m1] at hy
                split at hy
                · next t w' ht0 hw0 =>
                  cases hw0
                  cases hy
                  refine lv_tableIn hx hb hd h1 h2 hoff (x_tgt_ok ht0) ?_
                  refine hs (t, (a.1.set x w, a.2.1, S, a.2.2.2)) (List.mem_append_left _ (List.mem_flatten.mpr ⟨_, hym, List.mem_cons_self⟩)) Y H locs r ls _ hI (hC.env (x_set_ok hC.1 m2) S)
                · next hw0 => cases hw0
                · cases hy
              · cases hy
        · cases h
      · cases h
    · cases h
  · cases h
theorem x_cst_ok {pc' : Nat} {v : Value} {t : xV} (hw : x_wf a = true) (hv : ∀ Y : xY, x_c Y t v)
    (row : ∀ (H : Heap) (locs : List Loc) (cells slots : Nat) (ls : Array Slot) (rest : List Value), W p l e R s m args below meth c H locs cells slots Q (F0 m pc' ls (v :: rest)) → W p l e R s m args below meth c H locs cells slots Q (F0 m pc ls rest))
    (hs : x_K p l e R s m args below meth c Q D G Zs U ef Y0 H0 nL mu (pc', x_psh a a.2.2.1 t)) : x_K p l e R s m args below meth c Q D G Zs U ef Y0 H0 nL mu (pc, a) := by
  intro Y H locs r ls st hI hC
  have hst := hC.2.2.1
  rw [hst]
  refine row H locs _ _ ls _ ?_
  exact hs Y H locs _ ls _ hI (hC.psh hw (x_wf_spec hw).2.1 (hv Y))
theorem x_stk_ok {pc' : Nat} {S S' : List Nat} (hS : a.2.2.1 = S) (row : ∀ (Y : xY) (H : Heap) (locs : List Loc) (cells slots : Nat) (ls : Array Slot) (r : Nat → Value), (∀ (k : Nat) (t : xV), a.1[k]? = some t → x_c Y t (r k)) → W p l e R s m args below meth c H locs cells slots Q (F0 m pc' ls (S'.map r)) → W p l e R s m args below meth c H locs cells slots Q (F0 m pc ls (S.map r)))
    (hs : x_K p l e R s m args below meth c Q D G Zs U ef Y0 H0 nL mu (pc', x_top a S')) : x_K p l e R s m args below meth c Q D G Zs U ef Y0 H0 nL mu (pc, a) := by
  intro Y H locs r ls st hI hC
  have hst := hC.2.2.1
  rw [hst]
  show W p l e R s m args below meth c H locs (x_cells a) (x_slots a) Q (F0 m pc ls (a.2.2.1.map r))
  rw [hS]
  exact row Y H locs _ _ ls r hC.1 (hs Y H locs r ls _ hI (hC.stk S'))
end XD
