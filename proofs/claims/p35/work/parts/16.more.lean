/-! objects and arrays that are made; stores of references and booleans; statics; switches -/
def x_nok (cl : List vw_C) (G : List xG) (Ts : List Cond) (s : State) (args : Array Value) (own : String) (z : Nat × Nat) : Prop :=
  ∃ (ci : Nat) (fts : List xV) (C : String) (T : u_T) (ty : Nat → FieldType), G[z.2]? = some (.inl (ci, fts)) ∧ cl[ci]? = some (C, T, fts.length) ∧ (∀ w ∈ u_ws C T fts.length, w ∈ Ts) ∧ (∀ k, k < fts.length → parseFieldDescriptor (T k).2.2.1 = some (ty k)) ∧
    (Cond.classLink own z.1 C).before args s = true ∧ (Cond.instantiable C fts.length).before args s = true ∧ (Cond.initialized C).before args s = true ∧ ∀ (Y : xY) (k : Nat) (ft : xV), fts[k]? = some ft → x_c Y ft (defaultValue (ty k))
/-- an array of numbers is made here, with this tag -/
def x_aok (G : List xG) (s : State) (args : Array Value) (at_ : ArrayType) (tag : Nat) : Prop :=
  ∃ (n : Nat) (pre : List xV) (ft : xV), G[tag]? = some (.inr (newarray.typeOf at_, n, pre, ft)) ∧ (newarray.typeOf at_).isReference = false ∧ n * componentBytes (newarray.typeOf at_) ≤ 536870912 ∧ (Cond.arrayClass (newarray.typeOf at_)).before args s = true ∧ ∀ (Y : xY) (j : Nat), x_c Y (pre.getD j ft) (defaultValue (newarray.typeOf at_))
/-- an array of references is made here, with this tag -/
def x_rok (G : List xG) (s : State) (args : Array Value) (own : String) (idx tag : Nat) : Prop :=
  ∃ (n : Nat) (pre : List xV) (ft : xV) (C : String), G[tag]? = some (.inr (.object C, n, pre, ft)) ∧ n * 4 ≤ 536870912 ∧ (Cond.classLink own idx C).before args s = true ∧ (Cond.arrayOver (.object C)).before args s = true ∧ ∀ (Y : xY) (j : Nat), x_c Y (pre.getD j ft) .null
def x_mk (a : xS) (S : List Nat) (pc tag n : Nat) : Nat × xS := (pc, (a.1 ++ [.inr (.inr (false, [tag]))], a.2.1, a.1.length :: S, a.2.2.2.1, a.2.2.2.2.1, a.2.2.2.2.2.1, a.1.length :: a.2.2.2.2.2.2.1, x_cells a + 1, x_slots a + n))
def x_newo (G : List xG) (pn : List (Nat × Nat)) (mc ms : Nat) (a : xS) (pc idx : Nat) : xN := match pn.find? (fun z => z.1 == idx) with
  | some z => (match G[z.2]? with
    | some (.inl o) => if x_cells a + 1 ≤ mc ∧ x_slots a + o.2.length ≤ ms then some [x_mk a a.2.2.1 (pc + 3) z.2 o.2.length] else none
    | _ => none)
  | none => none
def x_newa (G : List xG) (pa : List (Nat × Nat)) (mc ms : Nat) (a : xS) (pc len : Nat) : xN := match pa.find? (fun z => z.1 == pc), a.2.2.1 with
  | some z, k :: S => (match G[z.2]?, a.1[k]? with
    | some (.inr o), some (.inl u) => if u.1 = (o.2.1 : Int) ∧ u.2 = (o.2.1 : Int) ∧ x_cells a + 1 ≤ mc ∧ x_slots a + o.2.1 ≤ ms then some [x_mk a S (pc + len) z.2 o.2.1] else none
    | _, _ => none)
  | _, _ => none
section XM1
variable {p : Program} {l : Launch} {e : Env} {R : Room} {s : State} {m : MethodId} {args : Array Value} {below : List Frame} {meth : Method} {c : Code} {Q : State → Prop}
variable {D : va_G} {G : List xG} {Zs : List xZ} {U : State} {ef : List (Nat × Nat)} {Y0 : xY} {H0 : Heap} {nL : Nat} {mu : List Value}
variable {cc : ByteArray} {pc : Nat} {a : xS} {sc : List (Nat × xS)} {cl : List vw_C} {Ts : List Cond} {own : String}
/-- behind a cell that is made -/
theorem x_made {Y : xY} {H H1 : Heap} {locs : List Loc} {r : Nat → Value} {ls : Array Slot} {st : List Value} {tag : Nat} {g : xG} {S : List Nat} {n pc' : Nat} (hw : x_wf a = true) (hY0 : ∀ q u, Y0 q = some u → q < H0.size) (hS : ∀ k ∈ S, k < a.1.length)
    (hI : x_I D G Zs U ef Y0 H0 Y H locs) (hC : x_C D Y0 nL mu Y H a r ls st) (hg : G[tag]? = some g) (hz : H1.size = H.size + 1) (ho : ∀ q, q < H.size → H1[q]? = H[q]?) (hc : x_cell D U (x_up Y H.size tag) g H.size H1)
    (hs : x_K p l e R s m args below meth c Q D G Zs U ef Y0 H0 nL mu (x_mk a S pc' tag n)) : W p l e R s m args below meth c H1 locs (x_cells a + 1) (x_slots a + n) Q (F0 m pc' ls (.ref H.size :: S.map r)) := by
  have hsz : H0.size ≤ H.size := hI.2.2.2.1
  have hmon : ∀ q u, Y q = some u → x_up Y H.size tag q = some u := fun q u hq => by rw [x_up_ne (Nat.ne_of_lt (hI.1.lt hq))]; exact hq
  have hI2 : x_I D G Zs U ef Y0 H0 (x_up Y H.size tag) H1 locs := by
    refine ⟨hI.1.new rfl ho hg hc, fun q hq => ?_, hI.2.2.1.kept (fun b u hb => ho b (Nat.lt_of_lt_of_le (hY0 b u hb) hsz)), Nat.le_trans hsz (by omega), fun q q1 q2 => ?_, hI.2.2.2.2.2⟩
    · rw [x_up_ne (by omega)]; exact hI.2.1 q hq
    · rw [ho q (by omega)]; exact hI.2.2.2.2.1 q q1 q2
  have hC1 : x_C D Y0 nL mu (x_up Y H.size tag) H1 a r ls st := by
    refine ⟨fun k t hk => (hC.1 k t hk).mono hmon, hC.2.1, hC.2.2.1, fun f hf => ?_, hC.2.2.2.2⟩
    obtain ⟨b, b1, b2⟩ := hC.2.2.2.1 f hf
    refine ⟨b, b1, ?_⟩
    have hbs : b < H.size := by
      have : (x_fv D f.2.1 f.2.2.1 b H).isSome := by rw [b2]; rfl
      unfold x_fv at this
      cases hh : H[b]? with
      | none => rw [hh] at this; cases this
      | some w => exact (Array.getElem?_eq_some_iff.mp hh).1
    show (H1[b]?).bind _ = _
    rw [ho b hbs]; exact b2
  have hP := hC1.psh hw hS (t := .inr (.inr (false, [tag]))) (v := .ref H.size) (Or.inr ⟨_, tag, rfl, List.mem_cons_self, x_up_self _ _ _⟩)
  refine hs (x_up Y H.size tag) H1 locs (updV r a.1.length (.ref H.size)) ls _ hI2 ?_
  obtain ⟨p1, p2, p3, p4, p5, p6, p7⟩ := hP
  refine ⟨p1, p2, p3, p4, p5, p6, fun k hk => ?_⟩
  rcases List.mem_cons.mp hk with e0 | hk
  · rw [e0]
    refine ⟨H.size, x_up_at, ?_⟩
    cases hy : Y0 H.size with
    | none => rfl
    | some u => exact absurd (hY0 _ _ hy) (by omega)
  · exact p7 k hk
theorem x_newo_ok {idx mc ms : Nat} {pn : List (Nat × Nat)} (hw : x_wf a = true) (hx : p.tables.exec = Jvm.exec) (hb : c.code = cc) (hts : ∀ w ∈ Ts, w.before args s = true) (hown : s.vm.findClass own = some m.cls) (hK : va_K D cl [] s) (hY0 : ∀ q u, Y0 q = some u → q < H0.size)
    (hpn : ∀ z ∈ pn, x_nok cl G Ts s args own z) (hmc : mc ≤ R.cells) (hms : ms ≤ R.slots) (hd : decode cc pc = .ok (.new idx, 3)) (h : x_newo G pn mc ms a pc idx = some sc) (hs : ∀ q ∈ sc, x_K p l e R s m args below meth c Q D G Zs U ef Y0 H0 nL mu q) : x_K p l e R s m args below meth c Q D G Zs U ef Y0 H0 nL mu (pc, a) := by
  intro Y H locs r ls st hI hC
  unfold x_newo at h
  split at h
  · next z hz =>
    have hzm := List.mem_of_find?_eq_some hz
    have hze := List.find?_some hz
    simp only [beq_iff_eq] at hze
    subst hze
    split at h
    · next o hg =>
      split at h
      · next hc =>
        cases h
        obtain ⟨ci, fts, C, T, ty, g1, g2, g3, g4, g5, g6, g7, g8⟩ := hpn z hzm
        cases hg.symm.trans g1
        have hKn := hK.1 ci _ g2
        refine W.newcK hx hb hown g5 g6 g7 rfl hd (Nat.le_trans hc.1 hmc) (Nat.le_trans hc.2 hms) hKn.2.1 rfl fun H1 kC hkC e1 z1 o1 => ?_
        have hst := hC.2.2.1
        rw [hst]
        refine x_made (st := st) hw hY0 (fun k hk => (x_wf_spec hw).2.1 k hk) hI hC g1 z1 o1 ?_ (hs _ List.mem_cons_self)
        exact ⟨fun k => defaultValue (ty k), u_born ty hts g3 hKn hkC e1 g4, fun k ft hk => g8 _ k ft hk⟩
      · cases h
    · cases h
  · cases h
theorem x_newa_ok {at_ : ArrayType} {mc ms : Nat} {pa : List (Nat × Nat)} (hw : x_wf a = true) (hx : p.tables.exec = Jvm.exec) (hb : c.code = cc) (hU : U.WarmedH s.vm) (hY0 : ∀ q u, Y0 q = some u → q < H0.size)
    (hpa : ∀ z ∈ pa, z.1 = pc → x_aok G s args at_ z.2) (hmc : mc ≤ R.cells) (hms : ms ≤ R.slots) (hd : decode cc pc = .ok (.newarray at_, 2)) (h : x_newa G pa mc ms a pc 2 = some sc) (hs : ∀ q ∈ sc, x_K p l e R s m args below meth c Q D G Zs U ef Y0 H0 nL mu q) : x_K p l e R s m args below meth c Q D G Zs U ef Y0 H0 nL mu (pc, a) := by
  intro Y H locs r ls st hI hC
  unfold x_newa at h
  split at h
  · next z k S hz hS =>
    have hzm := List.mem_of_find?_eq_some hz
    have hze := List.find?_some hz
    simp only [beq_iff_eq] at hze
    split at h
    · next o u hg hu =>
      split at h
      · next hc =>
        cases h
        obtain ⟨c1, c2, c3, c4⟩ := hc
        obtain ⟨n, pre, ft, g1, g2, g3, g4, g5⟩ := hpa z hzm hze
        cases hg.symm.trans g1
        obtain ⟨v, ev, bv⟩ := hC.1 k _ hu
        have hst : st = .int v :: S.map r := by rw [hC.2.2.1, hS, List.map_cons, ev]
        rw [hst]
        have b1 := bv.1; have b2 := bv.2
        dsimp only at c1 c2 c3 c4
        have hvn : v.toInt = (n : Int) := by omega
        have hv0 : ¬ v < 0 := by
          rw [Int32.lt_iff_toInt_lt]
          have z0 : (0 : Int32).toInt = 0 := rfl
          omega
        have hvN : v.toNatClampNeg = n := by
          have hcl : v.toNatClampNeg = v.toInt.toNat := rfl
          rw [hcl]; omega
        refine va_newaK hx hb g4 rfl hd rfl hv0 hvN g3 (Nat.le_trans c3 hmc) (Nat.le_trans c4 hms) rfl fun H1 cA e1 z1 o1 hAr hNm => ?_
        refine x_made (st := st) hw hY0 (fun j hj => (x_wf_spec hw).2.1 j (by rw [hS]; exact List.mem_cons_of_mem _ hj)) hI hC g1 z1 o1 ?_ (hs _ List.mem_cons_self)
        refine ⟨_, e1, State.isArrayOf_alike hU.alike.symm (hAr n _), fun hq => (by cases hq), arrV_size _ _ _, fun hq => absurd (g2.symm.trans hq) (by decide), fun j w hj => ?_⟩
        have hjn : j < n := by
          have := (Array.getElem?_eq_some_iff.mp hj).1
          rw [arrV_size] at this
          exact this
        rw [arrV_read _ _ hjn] at hj
        cases hj
        exact g5 _ j
      · cases h
    · cases h
  · cases h
theorem x_newr_ok {idx : Nat} {mc ms : Nat} {pa : List (Nat × Nat)} (hw : x_wf a = true) (hx : p.tables.exec = Jvm.exec) (hb : c.code = cc) (hU : U.WarmedH s.vm) (hown : s.vm.findClass own = some m.cls) (hY0 : ∀ q u, Y0 q = some u → q < H0.size)
    (hpa : ∀ z ∈ pa, z.1 = pc → x_rok G s args own idx z.2) (hmc : mc ≤ R.cells) (hms : ms ≤ R.slots) (hd : decode cc pc = .ok (.anewarray idx, 3)) (h : x_newa G pa mc ms a pc 3 = some sc) (hs : ∀ q ∈ sc, x_K p l e R s m args below meth c Q D G Zs U ef Y0 H0 nL mu q) : x_K p l e R s m args below meth c Q D G Zs U ef Y0 H0 nL mu (pc, a) := by
  intro Y H locs r ls st hI hC
  unfold x_newa at h
  split at h
  · next z k S hz hS =>
    have hzm := List.mem_of_find?_eq_some hz
    have hze := List.find?_some hz
    simp only [beq_iff_eq] at hze
    split at h
    · next o u hg hu =>
      split at h
      · next hc =>
        cases h
        obtain ⟨c1, c2, c3, c4⟩ := hc
        obtain ⟨n, pre, ft, C, g1, g2, g3, g4, g5⟩ := hpa z hzm hze
        cases hg.symm.trans g1
        obtain ⟨v, ev, bv⟩ := hC.1 k _ hu
        have hst : st = .int v :: S.map r := by rw [hC.2.2.1, hS, List.map_cons, ev]
        rw [hst]
        have b1 := bv.1; have b2 := bv.2
        dsimp only at c1 c2 c3 c4
        have hvn : v.toInt = (n : Int) := by omega
        have hv0 : ¬ v < 0 := by
          rw [Int32.lt_iff_toInt_lt]
          have z0 : (0 : Int32).toInt = 0 := rfl
          omega
        have hvN : v.toNatClampNeg = n := by
          have hcl : v.toNatClampNeg = v.toInt.toNat := rfl
          rw [hcl]; omega
        refine W.anew hx hb hown g3 g4 rfl hd rfl hv0 (by rw [hvN]; exact g2) (Nat.le_trans c3 hmc) (by rw [hvN]; exact Nat.le_trans c4 hms) fun cA kA comp n1 n2 n3 n4 => ?_
        rw [hvN]
        have hlast : (H.push { cls := cA, slots := Array.replicate n Value.null, vm := .none })[H.size]? = some { cls := cA, slots := Array.replicate n Value.null, vm := .none } := by simp
        refine x_made (st := st) (H := H) hw hY0 (fun j hj => (x_wf_spec hw).2.1 j (by rw [hS]; exact List.mem_cons_of_mem _ hj)) hI hC g1 (by simp) (fun q hq => by rw [Array.getElem?_push, if_neg (Nat.ne_of_lt hq)]) ?_ (hs _ List.mem_cons_self)
        refine ⟨_, hlast, State.isArrayOf_alike hU.alike.symm ⟨fun q hq => (by cases hq), kA, n2, comp, n3⟩, fun hq => (by cases hq), by simp, fun _ => ?_, fun j w hj => ?_⟩
        · exact va_RA.moved hU.alike.symm ⟨kA, comp, n2, n3, n4, n1⟩
        · have hjn := (Array.getElem?_eq_some_iff.mp hj)
          obtain ⟨q1, q2⟩ := hjn
          have : w = .null := by rw [← q2]; simp
          rw [this]
          exact g5 _ j
      · cases h
    · cases h
  · cases h
end XM1
