/-! THE CHECKER: a method's code from its start, path by path; loops by what their heads keep and a number that goes one way -/
abbrev xIv : Type := List (Nat × xV) × List xV × List (Nat × Nat × Nat × xV)
abbrev xLb : Type := Nat × xIv × (Nat × Bool) × List Nat × Nat × Nat × List (Nat × Nat)
abbrev xAn : Type := Nat × xIv × (Nat × Bool) × List Nat × Bool × Nat × List (Nat × Nat)
/-- a field of an object in a local gets a number, though nothing reads it -/
def x_gst (G : List xG) (a : xS) (z : Nat × Nat) : Option xS := if x_wf a then (match a.2.1.find? (fun q => q.1 == z.1) with
  | some q => (match a.1[q.2]? with
    | some (.inr (.inr (false, [t]))) => (match G[t]? with
      | some (.inl o) => if o.1 = 1000 then none else (match a.2.2.2.1.find? (fun f => f.1 == q.2 && (f.2.1 == o.1 && f.2.2.1 == z.2)) with
        | some _ => some a
        | none => (match o.2[z.2]? with
          | some ft => some (a.1 ++ [ft], a.2.1, a.2.2.1, (q.2, o.1, z.2, a.1.length) :: a.2.2.2.1, a.2.2.2.2)
          | none => none))
      | _ => none)
    | _ => none)
  | none => none) else none
def x_gsts (G : List xG) : List (Nat × Nat) → xS → Option xS
  | [], a => some a
  | z :: zs, a => match x_gst G a z with
    | some b => x_gsts G zs b
    | none => none
def x_vs (v : xIv) : List xV := v.1.map (fun q => q.2) ++ (v.2.1 ++ v.2.2.map (fun q => q.2.2.2))
def x_can (v : xIv) (tr : List Nat) (cells slots : Nat) : xS := (x_vs v, v.1.zipIdx.map (fun q => (q.1.1, q.2)), (List.range v.2.1.length).map (fun k => k + v.1.length), v.2.2.zipIdx.map (fun q => (q.1.1, q.1.2.1, q.1.2.2.1, v.1.length + v.2.1.length + q.2)), [], tr, [], cells, slots)
def x_sig (a : xS) (v : xIv) : Option (List Nat) := match x_all (fun (q : Nat × xV) => (a.2.1.find? (fun z => z.1 == q.1)).map (fun z => z.2)) v.1 with
  | some A => (match x_all (fun (q : Nat × Nat × Nat × xV) => ((A ++ a.2.2.1)[q.1]?).bind (fun o => (a.2.2.2.1.find? (fun f => f.1 == o && (f.2.1 == q.2.1 && f.2.2.1 == q.2.2.1))).map (fun f => f.2.2.2))) v.2.2 with
    | some B => some (A ++ (a.2.2.1 ++ B))
    | none => none)
  | none => none
/-- state b says less than state a, by the numbers g of b's values in a -/
def x_ent (a b : xS) (g : List Nat) : Bool :=
  x_fitA a.1 g b.1 && (b.2.1.all (fun q => match g[q.2]? with
    | some k => a.2.1.any (fun z => z.1 == q.1 && z.2 == k)
    | none => false) && (b.2.2.1.map (fun k => g[k]?) == a.2.2.1.map some && (b.2.2.2.1.all (fun f => match g[f.1]?, g[f.2.2.2]? with
    | some o, some v => a.2.2.2.1.any (fun z => z.1 == o && (z.2.1 == f.2.1 && (z.2.2.1 == f.2.2.1 && z.2.2.2 == v)))
    | _, _ => false) && (b.2.2.2.2.1.isEmpty && b.2.2.2.2.2.2.1.isEmpty))))
theorem x_ent_ok {D : va_G} {Y0 Y : xY} {nL : Nat} {mu mu' : List Value} {H : Heap} {a b : xS} {r : Nat → Value} {ls : Array Slot} {st : List Value} {g : List Nat} (h : x_ent a b g = true) (hC : x_C D Y0 nL mu Y H a r ls st)
    (hm : b.2.2.2.2.2.1.map (fun k => r (g.getD k 0)) = mu') : x_C D Y0 nL mu' Y H b (fun k => r (g.getD k 0)) ls st := by
  unfold x_ent at h
  simp only [Bool.and_eq_true, List.all_eq_true, beq_iff_eq, List.isEmpty_iff] at h
  obtain ⟨h1, h2, h3, h4, h5, h6⟩ := h
  obtain ⟨f1, f2⟩ := x_fitA_ok hC.1 h1
  have hgd : ∀ k j, g[k]? = some j → g.getD k 0 = j := fun k j hk => by rw [List.getD_eq_getElem?_getD, hk]; rfl
  refine ⟨fun k t hk => ?_, hC.2.1.less fun q hq => ?_, ?_, fun f hf => ?_, fun d hd => (by rw [h5] at hd; cases hd), hm, fun k hk => (by rw [h6] at hk; cases hk)⟩
  · have hkl : k < b.1.length := (List.getElem?_eq_some_iff.mp hk).1
    have hgl : k < g.length := by
      have := f1.1
      rw [List.length_map] at this
      omega
    have hg := List.getElem?_eq_getElem hgl
    refine f1.2 k t _ hk ?_
    rw [List.getElem?_map, hg]
    show some (r g[k]) = some (r (g.getD k 0))
    rw [hgd k _ hg]
  · obtain ⟨z, hz, rfl⟩ := List.mem_map.mp hq
    have h7 := h2 z hz
    split at h7
    · next k hk =>
      obtain ⟨y, hy, he⟩ := List.any_eq_true.mp h7
      simp only [Bool.and_eq_true, beq_iff_eq] at he
      refine List.mem_map.mpr ⟨y, hy, ?_⟩
      dsimp only
      rw [he.1, he.2, hgd _ _ hk]
    · cases h7
  · rw [hC.2.2.1]
    have h8 : (b.2.2.1.map (fun k => g[k]?)).map (fun o => r (o.getD 0)) = (a.2.2.1.map some).map (fun o => r (o.getD 0)) := by rw [h3]
    rw [List.map_map, List.map_map] at h8
    have e1 : b.2.2.1.map (fun k => r (g.getD k 0)) = b.2.2.1.map ((fun o => r (Option.getD o 0)) ∘ fun k => g[k]?) := List.map_congr_left fun k _ => by
      show r (g.getD k 0) = r ((g[k]?).getD 0)
      rw [List.getD_eq_getElem?_getD]
    rw [e1, h8]
    exact List.map_congr_left fun k _ => rfl
  · have h7 := h4 f hf
    split at h7
    · next o v ho hv =>
      obtain ⟨z, hz, he⟩ := List.any_eq_true.mp h7
      simp only [Bool.and_eq_true, beq_iff_eq] at he
      obtain ⟨e1, e2, e3, e4⟩ := he
      obtain ⟨bb, b1, b2⟩ := hC.2.2.2.1 z hz
      refine ⟨bb, ?_, ?_⟩
      · show r (g.getD f.1 0) = _
        rw [hgd _ _ ho, ← e1]; exact b1
      · show x_fv D f.2.1 f.2.2.1 bb H = some (r (g.getD f.2.2.2 0))
        rw [hgd _ _ hv, ← e2, ← e3, ← e4]; exact b2
    · cases h7
def x_trk (g tp tr : List Nat) : Bool := tp.map (fun k => g[k]?) == tr.map some
theorem x_trk_ok {r : Nat → Value} {g tp tr : List Nat} (h : x_trk g tp tr = true) : tp.map (fun k => r (g.getD k 0)) = tr.map r := by
  unfold x_trk at h
  rw [beq_iff_eq] at h
  have h8 : (tp.map (fun k => g[k]?)).map (fun o => r (o.getD 0)) = (tr.map some).map (fun o => r (o.getD 0)) := by rw [h]
  rw [List.map_map, List.map_map] at h8
  have e1 : tp.map (fun k => r (g.getD k 0)) = tp.map ((fun o => r (Option.getD o 0)) ∘ fun k => g[k]?) := List.map_congr_left fun k _ => by
    show r (g.getD k 0) = r ((g[k]?).getD 0)
    rw [List.getD_eq_getElem?_getD]
  rw [e1, h8]
  exact List.map_congr_left fun k _ => rfl
def x_back (E : xLb) (a : xS) : Bool := match x_sig a E.2.1, a.2.2.2.2.2.1.drop (a.2.2.2.2.2.1.length - (E.2.2.2.1.length + 1)) with
  | some g, t0 :: rest => (x_ent a (x_can E.2.1 (E.2.2.1.1 :: E.2.2.2.1) E.2.2.2.2.1 E.2.2.2.2.2.1) g && (x_trk g E.2.2.2.1 rest && (Nat.ble (x_cells a) E.2.2.2.2.1 && Nat.ble (x_slots a) E.2.2.2.2.2.1))) &&
      (match g[E.2.2.1.1]?, (x_vs E.2.1)[E.2.2.1.1]? with
        | some k, some (.inl _) => a.2.2.2.2.1.any (fun q => q.1 == k && (q.2.1 == t0 && (if E.2.2.1.2 then decide (1 ≤ q.2.2) else decide (q.2.2 ≤ -1)))) && Nat.beq rest.length E.2.2.2.1.length
        | _, _ => false)
  | _, _ => false
def x_cut {α : Type} (k : Bool) (l : List α) (na : Nat) : List α := if k then l else l.take (l.length - na)
/-- what the machine does at a place: nothing more to look at; or these labels, this state, and whether the method's own values are still known -/
def x_lab (G : List xG) (an : List xAn) (na : Nat) (L : List xLb) (top : Bool) (pc : Nat) (a : xS) : Option (Option (List xLb × Bool × xS)) := match L.find? (fun E => E.1 == pc) with
  | some E => (match x_gsts G E.2.2.2.2.2.2 a with
    | some a' => if x_back E a' then some none else none
    | none => none)
  | none => (match an.find? (fun A => A.1 == pc) with
    | some A => (match x_gsts G A.2.2.2.2.2.2 a with
      | some a' => (match x_sig a' A.2.1 with
        | some g => (let k := L.length - A.2.2.2.2.2.1
          let b := x_can A.2.1 (A.2.2.1.1 :: A.2.2.2.1) (x_cells a') (x_slots a')
          if (x_ent a' b g && (x_trk g A.2.2.2.1 (x_cut (A.2.2.2.2.1 || !top) (a'.2.2.2.2.2.1.drop k) na) && (((A.2.2.2.2.1 || !top) || (L.drop k).isEmpty) && ((L.drop k).all (fun E => Nat.ble (E.2.2.2.1.length + 1 + k) a'.2.2.2.2.2.1.length) && (!top || Nat.ble (k + na) a'.2.2.2.2.2.1.length))))) = true ∧ x_wf b = true then (match (x_vs A.2.1)[A.2.2.1.1]? with
            | some (.inl _) => some (some ((pc, A.2.1, A.2.2.1, A.2.2.2.1, x_cells a', x_slots a', A.2.2.2.2.2.2) :: L.drop k, top && A.2.2.2.2.1, b))
            | _ => none) else none)
        | none => none)
      | none => none)
    | none => some (some (L, top, a)))
/-- a value of a local, case by case -/
def x_spl (sp : List (Nat × Nat)) (pc : Nat) (a : xS) : Option (Nat × (Int × Int)) := match sp.find? (fun z => z.1 == pc) with
  | some z => (match a.2.1.find? (fun q => q.1 == z.2) with
    | some q => (match a.1[q.2]? with
      | some (.inl u) => if u.1 < u.2 ∧ u.2 - u.1 ≤ 200 then some (q.2, u) else none
      | _ => none)
    | none => none)
  | none => none
def x_nar (ty : FieldType) (u : Int × Int) : Bool := match ty with
  | .int => true
  | .boolean => decide (0 ≤ u.1) && decide (u.2 ≤ 1)
  | .byte => decide (-128 ≤ u.1) && decide (u.2 ≤ 127)
  | .char => decide (0 ≤ u.1) && decide (u.2 ≤ 65535)
  | _ => false
def x_ina (as : List xV) (o : List xV) : Bool := match as, o with
  | [], [] => true
  | t :: ts, u :: us => x_le t u && x_ina ts us
  | _, _ => false
def x_aok1 (M : xM) (top : Bool) (a : xS) (o : List xV) : Bool := x_ina (x_args M) o || (top && x_fitA a.1 (a.2.2.2.2.2.1.drop (a.2.2.2.2.2.1.length - (x_args M).length)) o)
def x_nrT (raw : Nat) (t : xV) : Bool := match t with
  | .inr (.inr q) => q.2.all (fun u => !(u == raw))
  | _ => true
def x_nrG (G : List xG) (raw : Nat) : Bool := G.all (fun g => match g with
  | .inl o => o.2.all (x_nrT raw)
  | .inr q => q.2.2.1.all (x_nrT raw) && x_nrT raw q.2.2.2)
/-- a constructor's end: its object has all that its tag asks -/
def x_rtc (G : List xG) (Zs : List xZ) (M : xM) (t' : Nat) (top : Bool) (a : xS) : Bool := top && (match a.2.2.2.2.2.1.drop (a.2.2.2.2.2.1.length - (x_args M).length) with
  | k0 :: _ => (match a.1[k0]?, G[t']? with
    | some (.inr (.inr (false, [raw]))), some (.inl o) => (match G[raw]? with
      | some (.inl o0) => (o.1 == o0.1 && !(o.1 == 1000)) && (Nat.beq o.2.length o0.2.length && (x_nrG G raw && (Zs.all (fun z => !(z.2.2.2 == raw)) && ((List.range o.2.length).all (fun k => match o.2[k]? with
          | some ft => (match a.2.2.2.1.find? (fun f => f.1 == k0 && (f.2.1 == o.1 && f.2.2.1 == k)) with
            | some f => (match a.1[f.2.2.2]? with
              | some tv => x_le tv ft && x_nrT raw tv
              | none => false)
            | none => (match o0.2[k]? with
              | some f0 => x_le f0 ft && x_nrT raw f0
              | none => false))
          | none => false) && (x_outs M).any (fun q => q.2.isNone && (match q.1 with
            | u :: us => x_le (.inr (.inr (false, [t']))) u && (x_ina ((x_args M).drop 1) us && us.all (x_nrT raw))
            | [] => false))))))
      | _ => false)
    | _, _ => false)
  | [] => false)
def x_isRet (i : Instr) : Bool := match i with
  | .ireturn => true | .lreturn => true | .areturn => true | .return_ => true
  | _ => false
def x_rck (G : List xG) (Zs : List xZ) (M : xM) (i : Instr) (top : Bool) (a : xS) : Bool := (Nat.ble (x_cells a) (x_rm M).cells && Nat.ble (x_slots a) (x_rm M).slots) && (match x_rt M with
  | some t' => (match i, a.2.2.1, M.2.2.2.1 with
    | .return_, [], none => x_rtc G Zs M t' top a
    | _, _, _ => false)
  | none => (match i, a.2.2.1, M.2.2.2.1 with
    | .ireturn, [x], some ty => (match a.1[x]? with
      | some (.inl u) => x_nar ty u && (x_outs M).any (fun o => (match o.2 with
        | some t => x_le (.inl u) t
        | none => false) && x_aok1 M top a o.1)
      | _ => false)
    | .lreturn, [x], some .long => (match a.1[x]? with
      | some (.inr (.inl u)) => (x_outs M).any (fun o => (match o.2 with
        | some t => x_le (.inr (.inl u)) t
        | none => false) && x_aok1 M top a o.1)
      | _ => false)
    | .areturn, [x], some ty => (match a.1[x]? with
      | some (.inr (.inr u)) => ty.isReference && (x_outs M).any (fun o => (match o.2 with
        | some t => x_le (.inr (.inr u)) t
        | none => false) && x_aok1 M top a o.1)
      | _ => false)
    | .return_, [], none => (x_outs M).any (fun o => o.2.isNone && x_aok1 M top a o.1)
    | _, _, _ => false))
noncomputable def x_go (G : List xG) (Zs : List xZ) (T : xTab) (M : xM) (top : Bool) (pc : Nat) (a : xS) (f : Nat × xS → Bool) : Bool := match dz_dec M.2.1 pc with
  | some (i, len) => if Nat.beq len (x_lenF i len) then (if x_isRet i then x_rck G Zs M i top a else (match x_stp M.2.2.1 G (x_efs M) T (x_rm M).cells (x_rm M).slots i pc a with
      | some sc => sc.all f
      | none => false)) else false
  | _ => false
noncomputable def x_ex (G : List xG) (Zs : List xZ) (T : xTab) (M : xM) (an : List xAn) (sp : List (Nat × Nat)) : Nat → List xLb → Bool → Nat × xS → Bool
  | 0, _, _, _ => false
  | n + 1, L, top, q => if x_wf q.2 then (match x_spl sp q.1 q.2 with
    | some z => (List.range ((z.2.2 - z.2.1).toNat + 1)).all (fun k => x_ex G Zs T M an sp n L top (q.1, (q.2.1.set z.1 (.inl (z.2.1 + k, z.2.1 + k)), q.2.2)))
    | none => (match x_lab G an (x_args M).length L top q.1 q.2 with
      | some none => true
      | some (some z) => x_go G Zs T M z.2.1 q.1 z.2.2 (x_ex G Zs T M an sp n z.1 z.2.1)
      | none => false)) else false
def x_al : Nat → Nat → List xV → List (Nat × Nat)
  | _, _, [] => []
  | i, k, t :: ts => (i, k) :: x_al (if x_isL t then i + 2 else i + 1) (k + 1) ts
def x_0 (M : xM) : xS := (x_args M, x_al 0 0 (x_args M), [], [], [], List.range (x_args M).length, [], 0, 0)

