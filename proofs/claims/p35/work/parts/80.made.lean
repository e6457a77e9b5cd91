/-! cells that are made, at exact values; a constructor's end -/
section YM
variable {p : Program} {l : Launch} {e : Env} {R : Room} {s : State} {m : MethodId} {args : Array Value} {below : List Frame} {meth : Method} {c : Code} {Q : State → Prop}
variable {D : va_G} {G : List xG} {Zs : List xZ} {U : State} {ef : List (Nat × Nat)} {Y0 : xY} {H0 : Heap} {nL : Nat} {cc : ByteArray} {cl : List vw_C} {Tb Nb : List Cond} {own : String} {M : xM} {A : yA} {P : yP} {idx n : Nat}
variable {Y : xY} {H : Heap} {locs : List Loc} {cells slots pc : Nat} {ls : Array Slot} {rest : List Value}
theorem y_made {H1 : Heap} {tag : Nat} {g : xG} (hY0 : ∀ q u, Y0 q = some u → q < H0.size) (hI : x_I D G Zs U ef Y0 H0 Y H locs) (hg : G[tag]? = some g) (hz : H1.size = H.size + 1) (ho : ∀ q, q < H.size → H1[q]? = H[q]?) (hc : x_cell D U (x_up Y H.size tag) g H.size H1) : x_I D G Zs U ef Y0 H0 (x_up Y H.size tag) H1 locs := by
  have hsz : H0.size ≤ H.size := hI.2.2.2.1
  refine ⟨hI.1.new rfl ho hg hc, fun q hq => ?_, hI.2.2.1.kept (fun b u hb => ho b (Nat.lt_of_lt_of_le (hY0 b u hb) hsz)), Nat.le_trans hsz (by omega), fun q q1 q2 => ?_, hI.2.2.2.2.2⟩
  · rw [x_up_ne (by omega)]; exact hI.2.1 q hq
  · rw [ho q (by omega)]; exact hI.2.2.2.2.1 q q1 q2
/-- what holds behind a cell that is made -/
def y_new (D : va_G) (G : List xG) (Zs : List xZ) (U : State) (ef : List (Nat × Nat)) (Y0 : xY) (H0 : Heap) (Y : xY) (H : Heap) (locs : List Loc) (tag : Nat) (Yn : xY) (H1 : Heap) (b : Nat) : Prop :=
  x_I D G Zs U ef Y0 H0 Yn H1 locs ∧ (∀ q u, Y q = some u → Yn q = some u) ∧ Yn b = some tag ∧ H0.size ≤ b ∧ (∀ q u, Y q = some u → H1[q]? = H[q]?)
theorem y_new_of {H1 : Heap} {tag : Nat} (hI : x_I D G Zs U ef Y0 H0 Y H locs) (h : x_I D G Zs U ef Y0 H0 (x_up Y H.size tag) H1 locs) (ho : ∀ q, q < H.size → H1[q]? = H[q]?) : y_new D G Zs U ef Y0 H0 Y H locs tag (x_up Y H.size tag) H1 H.size :=
  ⟨h, fun q u hq => by rw [x_up_ne (Nat.ne_of_lt (hI.1.lt hq))]; exact hq, x_up_self _ _ _, hI.2.2.2.1, fun q u hq => ho q (hI.1.lt hq)⟩
theorem y_newo {tag idx ci : Nat} {fts : List xV} (X : x_cx p s m args c D U cc nL cl Tb Nb own) (hY0 : ∀ q u, Y0 q = some u → q < H0.size) (hI : x_I D G Zs U ef Y0 H0 Y H locs) (hg : G[tag]? = some (.inl (ci, fts))) (hok : x_nok cl G Tb s args own (idx, tag)) (hmc : cells + 1 ≤ R.cells) (hms : slots + fts.length ≤ R.slots) (hd : decode cc pc = .ok (.new idx, 3))
    (kk : ∀ (Yn : xY) (H1 : Heap) (b : Nat), y_new D G Zs U ef Y0 H0 Y H locs tag Yn H1 b → W p l e R s m args below meth c H1 locs (cells + 1) (slots + fts.length) Q (F0 m (pc + 3) ls (.ref b :: rest))) : W p l e R s m args below meth c H locs cells slots Q (F0 m pc ls rest) := by
  obtain ⟨hx, hb, hml, hown, hts, hK, hK0, hU, hNw, hG, hN⟩ := X
  obtain ⟨ci', fts', C, T, ty, g1, g2, g3, g4, g5, g6, g7, g8⟩ := hok
  cases hg.symm.trans g1
  have hKn := hK.1 ci _ g2
  refine W.newcK hx hb hown g5 g6 g7 rfl hd hmc hms hKn.2.1 rfl fun H1 kC hkC e1 z1 o1 => ?_
  exact kk _ H1 _ (y_new_of hI (y_made hY0 hI g1 z1 o1 ⟨fun k => defaultValue (ty k), u_born ty hts g3 hKn hkC e1 g4, fun k ft hk => g8 _ k ft hk⟩) o1)
theorem y_oi {b idx : Nat} (X : x_cx p s m args c D U cc nL cl Tb Nb own) (o1 : (Cond.methodLink own idx objectInit).before args s = true) (o2 : (Cond.instanceMethod objectInit).before args s = true) (o3 : (Cond.code objectInit ⟨#[0xb1]⟩ 1 none).before args s = true) (o4 : 1 ≤ R.frames) (o5 : 20 ≤ R.locals) (hls : ls.size = nL) (hrest : (rest.map fun v => v.category).sum ≤ 8) (hd : decode cc pc = .ok (.invokespecial idx, 3))
    (kk : W p l e R s m args below meth c H locs cells slots Q (F0 m (pc + 3) ls rest)) : W p l e R s m args below meth c H locs cells slots Q (F0 m pc ls (.ref b :: rest)) := by
  obtain ⟨hx, hb, hml, hown, hts, hK, hK0, hU, hNw, hG, hN⟩ := X
  exact W.objInit hx hb hown o1 o2 o3 rfl (by rw [hml]; exact hls) rfl hd o4 (by show 2 * 0 + _ + 12 ≤ _; omega) kk
theorem y_aast {b t N bv tv ci : Nat} {C : String} {ft : xV} {fts : List xV} {rr : vw_C} {i : Int32} (X : x_cx p s m args c D U cc nL cl Tb Nb own) (hY0 : ∀ q u, Y0 q = some u → q < H0.size) (hI : x_I D G Zs U ef Y0 H0 Y H locs) (hY : Y b = some t) (hg : G[t]? = some (.inr (.object C, N, [], ft))) (hYv : Y bv = some tv) (hgv : G[tv]? = some (.inl (ci, fts))) (hcl : cl[ci]? = some rr) (hca : va_Nw (.castable rr.1 C) s) (h0 : 0 ≤ i.toInt) (h1 : i.toInt < (N : Int)) (hv : x_c Y ft (.ref bv)) (he : (t, 0) ∈ ef ∧ x_xn ef t = true) (hd : decode cc pc = .ok (.aastore, 1))
    (kk : ∀ (H' : Heap) (L : List Loc), x_I D G Zs U ef Y0 H0 Y H' L → y_at b i.toInt.toNat H' = some (.ref bv) → (∀ j, j ≠ i.toInt.toNat → y_at b j H' = y_at b j H) → (∀ q, q ≠ b → H'[q]? = H[q]?) → W p l e R s m args below meth c H' L cells slots Q (F0 m (pc + 1) ls rest)) : W p l e R s m args below meth c H locs cells slots Q (F0 m pc ls (.ref bv :: .int i :: .ref b :: rest)) := by
  obtain ⟨hx, hb, hml, hown, hts, hK, hK0, hU, hNw, hG, hN⟩ := X
  obtain ⟨g, g1, g2⟩ := hI.1.1 b _ hY
  cases g1.symm.trans hg
  obtain ⟨cell, q1, q2, q3, q4, q5, q6⟩ := g2
  obtain ⟨gv, h3, h4⟩ := hI.1.1 bv _ hYv
  cases h3.symm.trans hgv
  obtain ⟨V, ⟨cellV, w1, w2, w3, -⟩, -⟩ := h4
  have q4' : cell.slots.size = N := q4
  have hix := x_idx (u := (i.toInt, i.toInt)) ⟨Int.le_refl _, Int.le_refl _⟩ h0 h1
  obtain ⟨kA, comp, k1, k2, k3, -⟩ := va_RA.moved hU.alike (q5 rfl)
  obtain ⟨kE, hkE, -⟩ := Vm.findClass_spec k3
  obtain ⟨c0, t1, f1, f2, f3⟩ := Cond.castable_spec (va_Nw.use (A := args) rfl hca)
  have hcls := (hK.1 ci rr hcl).2
  cases hcls.1.symm.trans f1
  cases k3.symm.trans f2
  obtain ⟨kC, hkC, -⟩ := hcls.2
  have hI1 : ¬ i < 0 := fun hq => hix.1 (Or.inl hq)
  refine W.aast hx hb q1 q2.1 q3 k1 k2 rfl hkE ⟨hI1, by rw [q4']; exact hix.2⟩ w1 (fun q hq => by rw [w3] at hq; cases hq) (by rw [w2]; exact hkC) (by rw [w2]; exact f3) rfl rfl hd fun H' e1 e2 e3 => ?_
  replace e1 : H'[b]? = some (cell.setSlot i.toInt.toNat (.ref bv)) := e1
  have hj : i.toInt.toNat < N := by omega
  have hH' : x_H D G Zs U Y H' := by
    refine hI.1.put hY e3 hg ⟨_, e1, ⟨q2.1, q2.2⟩, q3, by show (cell.setSlot _ _).slots.size = N; rw [← q4']; simp [Cell.setSlot], q5, fun j' w hj' => ?_⟩
    by_cases ej : j' = i.toInt.toNat
    · subst ej
      rw [Cell.slots_setSlot_self _ (by rw [q4']; exact hj)] at hj'
      cases hj'
      exact hv
    · rw [Cell.slots_setSlot_ne _ (Ne.symm ej)] at hj'
      exact q6 j' w hj'
  refine kk H' _ (hI.put hY0 hY hH' e2 e3 (fun g hy0 hg2 => ?_)) ?_ (fun j' ej => ?_) e3
  · cases hg.symm.trans hg2
    exact ⟨fun hn => absurd he.1 hn, fun j hj => (x_xn_ok he.2 hj).elim⟩
  · unfold y_at
    rw [e1]
    show (cell.setSlot i.toInt.toNat (.ref bv)).slots[i.toInt.toNat]? = _
    rw [Cell.slots_setSlot_self _ (by rw [q4']; exact hj)]
  · unfold y_at
    rw [e1, q1]
    show (cell.setSlot i.toInt.toNat (.ref bv)).slots[j']? = cell.slots[j']?
    rw [Cell.slots_setSlot_ne _ (Ne.symm ej)]
/-! a new array gets another tag -/
def x_bothT (t t2 : Nat) (u : xV) : Bool := match u with
  | .inr (.inr q) => !(q.2.any (fun x => Nat.beq x t)) || q.2.any (fun x => Nat.beq x t2)
  | _ => true
def x_bothG (G : List xG) (t t2 : Nat) : Bool := G.all (fun g => match g with
  | .inl o => o.2.all (x_bothT t t2)
  | .inr q => q.2.2.1.all (x_bothT t t2) && x_bothT t t2 q.2.2.2)
theorem x_both_ok {u : xV} {v : Value} {b t t2 : Nat} (h : x_bothT t t2 u = true) (hb : Y b = some t) (hc : x_c Y u v) : x_c (x_up Y b t2) u v := by
  rcases u with q | q | q
  · exact hc
  · exact hc
  · rcases hc with hc | ⟨b2, w, h1, h2, h3⟩
    · exact Or.inl hc
    · by_cases e0 : b2 = b
      · subst e0
        cases h3.symm.trans hb
        unfold x_bothT at h
        dsimp only at h
        rw [Bool.or_eq_true] at h
        rcases h with h | h
        · have : q.2.any (fun x => Nat.beq x t) = true := List.any_eq_true.mpr ⟨t, h2, Nat.beq_refl t⟩
          rw [this] at h
          cases h
        · obtain ⟨x, x1, x2⟩ := List.any_eq_true.mp h
          have := Nat.eq_of_beq_eq_true x2
          subst this
          exact Or.inr ⟨b2, x, h1, x1, x_up_self _ _ _⟩
      · exact Or.inr ⟨b2, w, h1, h2, by rw [x_up_ne e0]; exact h3⟩
theorem y_retag {b t t2 N : Nat} {et : FieldType} {ft ft2 : xV} (hI : x_I D G Zs U ef Y0 H0 Y H locs) (hYb : Y b = some t) (hb : H0.size ≤ b) (hg : G[t]? = some (.inr (et, N, [], ft))) (hg2 : G[t2]? = some (.inr (et, N, [], ft2))) (hz : Zs.all (fun z => !(z.2.2.2 == t)) = true) (hG : x_bothG G t t2 = true) (hf : x_bothT t t2 ft2 = true) (hv : ∀ j v, j < N → y_at b j H = some v → x_c Y ft2 v) : x_I D G Zs U ef Y0 H0 (x_up Y b t2) H locs := by
  have hA : ∀ q, (∃ u, x_up Y b t2 q = some u) → ∃ u, Y q = some u := fun q ⟨u, hu⟩ => by
    by_cases e0 : q = b
    · rw [e0]; exact ⟨_, hYb⟩
    · rw [x_up_ne e0] at hu; exact ⟨u, hu⟩
  refine ⟨⟨fun a u hu => ?_, fun z hzm => (hI.1.2.1 z hzm).grow fun q _ hq => hA q hq, fun z hzm => (hI.1.2.2 z hzm).grow fun q _ hq => hA q hq⟩, fun q hq => by rw [x_up_ne (by omega)]; exact hI.2.1 q hq, hI.2.2⟩
  · by_cases ea : a = b
    · subst ea
      rw [x_up_self] at hu
      cases hu
      obtain ⟨g, g1, g2⟩ := hI.1.1 a _ hYb
      cases g1.symm.trans hg
      obtain ⟨cell, q1, q2, q3, q4, q5, q6⟩ := g2
      refine ⟨_, hg2, cell, q1, q2, q3, q4, q5, fun j v hj => ?_⟩
      have hjn : j < N := by
        have := (Array.getElem?_eq_some_iff.mp hj).1
        have q4' : cell.slots.size = N := q4
        omega
      exact x_both_ok hf hYb (hv j v hjn (by unfold y_at; rw [q1]; exact hj))
    · rw [x_up_ne ea] at hu
      obtain ⟨g, g1, g2⟩ := hI.1.1 a u hu
      refine ⟨g, g1, ?_⟩
      have h9 := List.all_eq_true.mp hG g (List.mem_of_getElem? g1)
      rcases g with q | q
      · obtain ⟨V', w1, w2⟩ := g2
        exact ⟨V', w1, fun k ft hk => x_both_ok (List.all_eq_true.mp h9 ft (List.mem_of_getElem? hk)) hYb (w2 k ft hk)⟩
      · obtain ⟨cell, w1, w2, w3, w4, w5, w6⟩ := g2
        refine ⟨cell, w1, w2, w3, w4, w5, fun j v hj => x_both_ok ?_ hYb (w6 j v hj)⟩
        dsimp only at h9
        rw [Bool.and_eq_true] at h9
        rw [List.getD_eq_getElem?_getD]
        cases hq : q.2.2.1[j]? with
        | none => exact h9.2
        | some w => exact List.all_eq_true.mp h9.1 w (List.mem_of_getElem? hq)
theorem y_retC {b raw t' : Nat} {o o0 : Nat × List xV} (B : y_B cl Tb Nb M p s m meth c D U Y0 [.ref b]) (hI : x_I D G Zs U (x_efs M) Y0 s.heap Y H locs) (hrt : x_rt M = some t') (hty : M.2.2.2.1 = none) (hYb : Y b = some raw) (hg0 : G[raw]? = some (.inl o0)) (hg : G[t']? = some (.inl o)) (c1 : o.1 = o0.1) (c2 : o.2.length = o0.2.length) (c3 : x_nrG G raw = true) (c4 : Zs.all (fun z => !(z.2.2.2 == raw)) = true) (ho : ([.inr (.inr (false, [t']))], none) ∈ x_outs M)
    (hf : ∀ (k : Nat) (ft : xV), o.2[k]? = some ft → ∃ v : Value, x_sl D o.1 k b H = some v ∧ x_c Y ft v ∧ x_nrT raw ft = true) (hP : P D [.ref b] Y0 s.heap none (x_up Y b t') H) (hc : cells ≤ (x_rm M).cells) (hs : slots ≤ (x_rm M).slots)
    (hd : decode M.2.1 pc = .ok (.return_, 1)) : W p l e R s m #[.ref b] below meth c H locs cells slots (y_QQ below D G Zs U M P [.ref b] Y0 s) (F0 m pc ls []) := by
  have hB := B
  obtain ⟨X, hrt0, hlk, -⟩ := B
  rw [hty] at hrt0
  have hG3 := List.all_eq_true.mp c3
  obtain ⟨gr, hgr, hcr⟩ := hI.1.1 b _ hYb
  cases hgr.symm.trans hg0
  obtain ⟨V, hOB, hV⟩ := hcr
  have hA : ∀ q, (∃ u, x_up Y b t' q = some u) → ∃ u, Y q = some u := fun q ⟨u, hu⟩ => by
    by_cases e0 : q = b
    · rw [e0]; exact ⟨_, hYb⟩
    · rw [x_up_ne e0] at hu; exact ⟨u, hu⟩
  have hHn : x_H D G Zs U (x_up Y b t') H := by
    refine ⟨fun a' u hu => ?_, fun z hz => (hI.1.2.1 z hz).grow fun q _ hq => hA q hq, fun z hz => (hI.1.2.2 z hz).grow fun q _ hq => hA q hq⟩
    · by_cases ea : a' = b
      · subst ea
        rw [x_up_self] at hu
        cases hu
        refine ⟨_, hg, V, ?_, fun k ft hk => ?_⟩
        · rw [c1, c2]; exact hOB
        · have hkl : k < o.2.length := (List.getElem?_eq_some_iff.mp hk).1
          obtain ⟨v, v1, v2, v3⟩ := hf k ft hk
          have hVk : V k = v := by
            obtain ⟨cell, q1, q2, q3, q4⟩ := hOB
            have q5 := q4 k (by rw [← c2]; exact hkl)
            unfold x_sl at v1
            rw [q1] at v1
            dsimp only [Option.bind] at v1
            rw [c1] at v1
            exact Option.some.inj (q5.symm.trans v1)
          rw [hVk]
          exact x_nr_ok v3 hYb v2
      · rw [x_up_ne ea] at hu
        obtain ⟨g, g1, g2⟩ := hI.1.1 a' u hu
        refine ⟨g, g1, ?_⟩
        have h9 := hG3 g (List.mem_of_getElem? g1)
        rcases g with q | q
        · obtain ⟨V', w1, w2⟩ := g2
          exact ⟨V', w1, fun k ft hk => x_nr_ok (List.all_eq_true.mp h9 ft (List.mem_of_getElem? hk)) hYb (w2 k ft hk)⟩
        · obtain ⟨cell, w1, w2, w3, w4, w5, w6⟩ := g2
          refine ⟨cell, w1, w2, w3, w4, w5, fun j v hj => x_nr_ok ?_ hYb (w6 j v hj)⟩
          dsimp only at h9
          rw [Bool.and_eq_true] at h9
          rw [List.getD_eq_getElem?_getD]
          cases hq : q.2.2.1[j]? with
          | none => exact h9.2
          | some w => exact List.all_eq_true.mp h9.1 w (List.mem_of_getElem? hq)
  refine W.widen hc hs (W.vret X.1 X.2.1 hrt0 (fun t ht _ => ?_) hI.2.2.2.2.2 hd hlk)
  refine ⟨none, x_up Y b t', _, rfl, ho, rfl, ?_, by rw [ht]; exact hHn, ?_, by rw [ht]; exact hI.2.2.1, ⟨by rw [ht]; exact hI.2.2.2.1, fun q q1 q2 => by rw [ht]; exact hI.2.2.2.2.1 q q1 q2⟩, by rw [ht]; exact hP⟩
  · refine ⟨rfl, fun k t2 v2 q1 q2 => ?_⟩
    cases k with
    | zero =>
      rw [List.getElem?_cons_zero] at q1 q2
      cases q1; cases q2
      exact Or.inr ⟨b, t', rfl, List.mem_cons_self, x_up_self _ _ _⟩
    | succ k => rw [List.getElem?_cons_succ] at q1; cases q1
  · rw [hrt]
    exact ⟨b, rfl, x_up_self _ _ _, fun q q1 q2 => by rw [x_up_ne q2]; exact hI.2.1 q q1⟩
theorem y_cokI (X : x_cx p s m args c D U cc nL cl Tb Nb own) (hM : y_Met cl G Zs Tb Nb M A P) (hret : M.2.2.2.1 = none) (h : ∀ w ∈ [Cond.methodLink own idx M.1, .instanceMethod M.1, .initialized M.1.cls], w ∈ Tb) (hc : Cond.code M.1 M.2.1 M.2.2.1 M.2.2.2.1 ∈ Tb) (hi : M.1.name = "<init>")
    (h0 : ∀ (Y : xY) (av : List Value), x_cs Y (x_args M) av → ∃ (b : Nat) (As : List Value), av = .ref b :: As)
    (hd : M.1.cls ≠ "java/lang/invoke/MethodHandle" ∧ M.1.cls ≠ "java/lang/invoke/VarHandle" ∧ (parseMethodDescriptor M.1.desc).map (fun d => d.parameters.length) = some n) (hR : (x_rm M).frames + 1 ≤ R.frames ∧ 8 + (M.2.2.1 + 11) + (x_rm M).locals ≤ R.locals) :
    y_cok p l e R s m args below meth c D G Zs U nL cc (2, idx, n + 1, none, M) A P := by
  intro H locs cells slots pc ls rest av Y hdec hls hrest hcl hsl hH hcs hlen hrt hA
  obtain ⟨hx, hb, hml, hown, hts, hK, hK0, hU, hNw, hG, hN⟩ := X
  obtain ⟨b, As, rfl⟩ := h0 Y av hcs
  have hM1 := hM l D U Y H.size (.ref b :: As) hK0 hcs
  rw [hret] at hM1 hc
  rw [List.reverse_cons, List.append_assoc]
  have hg : GoodIn Tb (Cond.code M.1 M.2.1 M.2.2.1 none :: Tb) := fun w hw => by
    have hm : w ∈ Tb := by
      rcases List.mem_cons.mp hw with q | q
      · rw [q]; exact hc
      · exact q
    exact ⟨hm, good_of_word (hG w hm)⟩
  exact va_runI (As := As) (rest := rest) (Ts := Tb) ⟨hx, hb, hml, hown, hts⟩ hM1 (cwI n hts hg rfl rfl rfl (hts _ (h _ (by simp))) (hts _ (h _ (by simp))) (hts _ (h _ (by simp))) hi hd hR) ⟨y_blind hN, y_pre hN hNw hU hH hA⟩ rfl (by simpa using hlen) hls rfl (lv_room hrest) hdec ⟨hcl, hsl⟩
end YM
theorem y_crefA {Y : xY} {b t : Nat} {ts : List Nat} {nb : Bool} (h : Y b = some t) (hm : ts.any (fun u => Nat.beq t u) = true) : x_c Y (.inr (.inr (nb, ts))) (.ref b) := by
  obtain ⟨u, h1, h2⟩ := List.any_eq_true.mp hm
  have := Nat.eq_of_beq_eq_true h2
  subst this
  exact Or.inr ⟨b, t, rfl, h1, h⟩
theorem z_get3 {a b c d : xV} {k : Nat} (h : 3 ≤ k) : [a, b, c].getD k d = d := by
  match k, h with
  | n + 3, _ => rfl

