/-! CONTRACTS: a method's name, code, locals, answer's type; its arguments; its ends (what is known of the arguments behind it, and of the answer); what it may change; frames, locals, cells, slots; the tag that its first argument has behind it, if it makes one. -/
abbrev xM : Type := MethodName × ByteArray × Nat × Option FieldType × List xV × List (List xV × Option xV) × List (Nat × Nat) × (Nat × Nat × Nat × Nat) × Option Nat
def x_rm (M : xM) : Room := { frames := M.2.2.2.2.2.2.2.1.1, cells := M.2.2.2.2.2.2.2.1.2.2.1, slots := M.2.2.2.2.2.2.2.1.2.2.2, locals := M.2.2.2.2.2.2.2.1.2.1 }
abbrev x_args (M : xM) : List xV := M.2.2.2.2.1
abbrev x_outs (M : xM) : List (List xV × Option xV) := M.2.2.2.2.2.1
abbrev x_efs (M : xM) : List (Nat × Nat) := M.2.2.2.2.2.2.1
abbrev x_rt (M : xM) : Option Nat := M.2.2.2.2.2.2.2.2
def x_ret (Y : xY) (o : Option xV) (oc : Option Value) : Prop := match o with
  | none => oc = none
  | some t => ∃ v, oc = some v ∧ x_c Y t v
def x_cs (Y : xY) (ts : List xV) (vs : List Value) : Prop := ts.length = vs.length ∧ ∀ (k : Nat) (t : xV) (v : Value), ts[k]? = some t → vs[k]? = some v → x_c Y t v
def x_ext (rt : Option Nat) (av : List Value) (Y Y' : xY) (sz : Nat) : Prop := match rt with
  | none => ∀ q, q < sz → Y' q = Y q
  | some t => ∃ b : Nat, av[0]? = some (.ref b) ∧ Y' b = some t ∧ ∀ q, q < sz → q ≠ b → Y' q = Y q
def x_Q (D : va_G) (G : List xG) (Zs : List xZ) (U : State) (M : xM) (av : List Value) (Y : xY) : Array Value → State → Outcome → State → Prop := fun _ st oc t =>
  ∃ (v : Option Value) (Y' : xY) (o : List xV × Option xV), oc = .returned v ∧ o ∈ x_outs M ∧ x_ret Y' o.2 v ∧ x_cs Y' o.1 av ∧ x_H D G Zs U Y' t.heap ∧ x_ext (x_rt M) av Y Y' st.heap.size ∧ x_E D G (x_efs M) Y st.heap t.heap ∧ va_F (fun q => (∃ u, Y q = some u) ∨ st.heap.size ≤ q) st t
def x_Met (cl : List vw_C) (G : List xG) (Zs : List xZ) (Tb Nb : List Cond) (M : xM) : Prop := ∀ (l : Launch) (D : va_G) (U : State) (Y : xY) (sz : Nat) (av : List Value), va_K D cl [] U → x_cs Y (x_args M) av →
  Met l M.1 (.code M.1 M.2.1 M.2.2.1 M.2.2.2.1 :: Tb) (x_rm M) (va_Pc av (fun S => S.heap.size = sz ∧ U.WarmedH S.vm ∧ x_H D G Zs U Y S.heap ∧ ∀ w ∈ Nb, va_Nw w S)) (x_Q D G Zs U M av Y) (x_rm M).cells (x_rm M).slots (fun q => (∃ u, Y q = some u) ∨ sz ≤ q)
/-! bounds that two things tell of one value -/
def x_meet : xV → xV → Option xV
  | .inl p, .inl q => if max p.1 q.1 ≤ min p.2 q.2 then some (.inl (max p.1 q.1, min p.2 q.2)) else none
  | .inr (.inl p), .inr (.inl q) => if max p.1 q.1 ≤ min p.2 q.2 then some (.inr (.inl (max p.1 q.1, min p.2 q.2))) else none
  | .inr (.inr p), .inr (.inr q) => if x_le (.inr (.inr q)) (.inr (.inr p)) then some (.inr (.inr q)) else some (.inr (.inr p))
  | _, _ => none
theorem x_meet_ok {Y : xY} {t u : xV} {v : Value} (h1 : x_c Y t v) (h2 : x_c Y u v) : ∃ w, x_meet t u = some w ∧ x_c Y w v := by
  rcases t with p | p | p <;> rcases u with q | q | q
  · obtain ⟨x, e1, a1, a2⟩ := h1
    obtain ⟨y, e2, b1, b2⟩ := h2
    rw [e1] at e2; cases e2
    refine ⟨.inl (max p.1 q.1, min p.2 q.2), ?_, x, e1, by show max _ _ ≤ _; omega, by show _ ≤ min _ _; omega⟩
    exact if_pos (by omega)
  · obtain ⟨x, e1, -⟩ := h1; obtain ⟨y, e2, -⟩ := h2; rw [e1] at e2; cases e2
  · obtain ⟨x, e1, -⟩ := h1
    rcases h2 with ⟨e2, -⟩ | ⟨b, t, e2, -⟩ <;> rw [e1] at e2 <;> cases e2
  · obtain ⟨x, e1, -⟩ := h1; obtain ⟨y, e2, -⟩ := h2; rw [e1] at e2; cases e2
  · obtain ⟨x, e1, a1, a2⟩ := h1
    obtain ⟨y, e2, b1, b2⟩ := h2
    rw [e1] at e2; cases e2
    refine ⟨.inr (.inl (max p.1 q.1, min p.2 q.2)), ?_, x, e1, by show max _ _ ≤ _; omega, by show _ ≤ min _ _; omega⟩
    exact if_pos (by omega)
  · obtain ⟨x, e1, -⟩ := h1
    rcases h2 with ⟨e2, -⟩ | ⟨b, t, e2, -⟩ <;> rw [e1] at e2 <;> cases e2
  · obtain ⟨x, e2, -⟩ := h2
    rcases h1 with ⟨e1, -⟩ | ⟨b, t, e1, -⟩ <;> rw [e1] at e2 <;> cases e2
  · obtain ⟨x, e2, -⟩ := h2
    rcases h1 with ⟨e1, -⟩ | ⟨b, t, e1, -⟩ <;> rw [e1] at e2 <;> cases e2
  · by_cases hq : x_le (.inr (.inr q)) (.inr (.inr p)) = true
    · exact ⟨_, if_pos hq, h2⟩
    · exact ⟨_, if_neg hq, h1⟩
/-- the numbers of values, each told something more -/
def x_more : List xV → List (Nat × xV) → Option (List xV)
  | E, [] => some E
  | E, (k, t) :: L => match E[k]? with
    | some u => (match x_meet u t with
      | some w => x_more (E.set k w) L
      | none => none)
    | none => none
theorem x_more_len : ∀ {L : List (Nat × xV)} {E E' : List xV}, x_more E L = some E' → E'.length = E.length := by
  intro L
  induction L with
  | nil => intro E E' h; cases h; rfl
  | cons q L ih =>
    intro E E' h
    obtain ⟨k, t⟩ := q
    unfold x_more at h
    split at h
    · split at h
      · rw [ih h, List.length_set]
      · cases h
    · cases h
theorem x_more_ok {Y : xY} {r : Nat → Value} : ∀ {L : List (Nat × xV)} {E : List xV}, (∀ (k : Nat) (t : xV), E[k]? = some t → x_c Y t (r k)) → (∀ q ∈ L, x_c Y q.2 (r q.1)) → (∀ q ∈ L, q.1 < E.length) → ∃ E', x_more E L = some E' ∧ ∀ (k : Nat) (t : xV), E'[k]? = some t → x_c Y t (r k) := by
  intro L
  induction L with
  | nil => intro E h _ _; exact ⟨E, rfl, h⟩
  | cons q L ih =>
    intro E h hL hl
    obtain ⟨k, t⟩ := q
    have hk : k < E.length := hl _ List.mem_cons_self
    have hu : E[k]? = some E[k] := List.getElem?_eq_getElem hk
    obtain ⟨w, e1, e2⟩ := x_meet_ok (h k _ hu) (hL _ List.mem_cons_self)
    obtain ⟨E', e3, e4⟩ := ih (E := E.set k w) (x_set_ok h e2) (fun q hq => hL q (List.mem_cons_of_mem _ hq)) (fun q hq => by rw [List.length_set]; exact hl q (List.mem_cons_of_mem _ hq))
    refine ⟨E', ?_, e4⟩
    unfold x_more
    rw [hu]
    dsimp only
    rw [e1]
    exact e3
/-- what differences tell of their two values -/
def x_shft (t : xV) (c : Int) (u : xV) : Option xV := match t, u with
  | .inl p, .inl _ => some (.inl (p.1 + c, p.2 + c))
  | .inl p, .inr (.inl _) => some (.inr (.inl (p.1 + c, p.2 + c)))
  | .inr (.inl p), .inl _ => some (.inl (p.1 + c, p.2 + c))
  | .inr (.inl p), .inr (.inl _) => some (.inr (.inl (p.1 + c, p.2 + c)))
  | _, _ => none
def x_facts (E : List xV) (d : Nat × Nat × Int) : List (Nat × xV) := match E[d.1]?, E[d.2.1]? with
  | some t, some u => (match x_shft u d.2.2 t, x_shft t (-d.2.2) u with
    | some w, some z => [(d.1, w), (d.2.1, z)]
    | _, _ => [])
  | _, _ => []
def x_tight : List xV → List (Nat × Nat × Int) → Option (List xV)
  | E, [] => some E
  | E, d :: L => match x_more E (x_facts E d) with
    | some E' => x_tight E' L
    | none => none
theorem x_shft_ok {Y : xY} {t u w : xV} {c : Int} {vt vu : Value} {x y : Int} (h : x_shft t c u = some w) (ht : x_c Y t vt) (hu : x_c Y u vu) (hx : x_num vt = some x) (hy : x_num vu = some y) (e : y = x + c) : x_c Y w vu := by
  rcases t with p | p | p <;> rcases u with q | q | q <;> unfold x_shft at h <;> first | (cases h; done) | (dsimp only at h; cases h)
  all_goals
    obtain ⟨a, ea, a1, a2⟩ := ht
    obtain ⟨b, eb, b1, b2⟩ := hu
    rw [ea] at hx
    rw [eb] at hy
    cases hx; cases hy
    exact ⟨b, eb, by show _ + c ≤ _; omega, by show _ ≤ _ + c; omega⟩
theorem x_tight_len : ∀ {L : List (Nat × Nat × Int)} {E E' : List xV}, x_tight E L = some E' → E'.length = E.length := by
  intro L
  induction L with
  | nil => intro E E' h; cases h; rfl
  | cons d L ih =>
    intro E E' h
    unfold x_tight at h
    split at h
    · next E1 h1 => rw [ih h, x_more_len h1]
    · cases h
theorem x_tight_ok {Y : xY} {r : Nat → Value} : ∀ {L : List (Nat × Nat × Int)} {E : List xV}, (∀ (k : Nat) (t : xV), E[k]? = some t → x_c Y t (r k)) → (∀ d ∈ L, x_dif r d) → ∃ E', x_tight E L = some E' ∧ ∀ (k : Nat) (t : xV), E'[k]? = some t → x_c Y t (r k) := by
  intro L
  induction L with
  | nil => intro E h _; exact ⟨E, rfl, h⟩
  | cons d L ih =>
    intro E h hL
    have hd := hL d List.mem_cons_self
    obtain ⟨x, y, d1, d2, d3⟩ := hd
    have key : (∀ q ∈ x_facts E d, x_c Y q.2 (r q.1)) ∧ (∀ q ∈ x_facts E d, q.1 < E.length) := by
      unfold x_facts
      split
      · next t u ht hu =>
        split
        · next w z hw hz =>
          have c1 := x_shft_ok hw (h _ _ hu) (h _ _ ht) d2 d1 d3
          have c2 := x_shft_ok hz (h _ _ ht) (h _ _ hu) d1 d2 (by omega)
          refine ⟨fun q hq => ?_, fun q hq => ?_⟩
          · rcases List.mem_cons.mp hq with e0 | hq
            · rw [e0]; exact c1
            · rcases List.mem_cons.mp hq with e0 | hq
              · rw [e0]; exact c2
              · cases hq
          · rcases List.mem_cons.mp hq with e0 | hq
            · rw [e0]; exact (List.getElem?_eq_some_iff.mp ht).1
            · rcases List.mem_cons.mp hq with e0 | hq
              · rw [e0]; exact (List.getElem?_eq_some_iff.mp hu).1
              · cases hq
        · exact ⟨fun q hq => (by cases hq), fun q hq => (by cases hq)⟩
      · exact ⟨fun q hq => (by cases hq), fun q hq => (by cases hq)⟩
    obtain ⟨E1, e1, e2⟩ := x_more_ok h key.1 key.2
    obtain ⟨E2, e3, e4⟩ := ih e2 (fun q hq => hL q (List.mem_cons_of_mem _ hq))
    refine ⟨E2, ?_, e4⟩
    unfold x_tight
    rw [e1]
    exact e3
/-! a call that a method's code names: its kind (0 virtual, 1 static, 2 special), pool number, how many values it takes, the receiver's tag if that matters, the contract -/
abbrev xCl : Type := Nat × Nat × Nat × Option Nat × xM
def x_ins (kind idx : Nat) : Instr := if kind = 0 then .invokevirtual idx else if kind = 1 then .invokestatic idx else .invokespecial idx
def x_fitA (E : List xV) : List Nat → List xV → Bool
  | [], [] => true
  | k :: ks, t :: ts => (match E[k]? with
    | some u => x_le u t
    | none => false) && x_fitA E ks ts
  | _, _ => false
theorem x_fitA_ok {Y : xY} {E : List xV} {r : Nat → Value} (h : ∀ (k : Nat) (t : xV), E[k]? = some t → x_c Y t (r k)) : ∀ {ks : List Nat} {ts : List xV}, x_fitA E ks ts = true → x_cs Y ts (ks.map r) ∧ ∀ k ∈ ks, k < E.length := by
  intro ks
  induction ks with
  | nil =>
    intro ts hf
    cases ts with
    | nil => exact ⟨⟨rfl, fun k t v h1 => by simp at h1⟩, fun k hk => by cases hk⟩
    | cons t ts => cases hf
  | cons k ks ih =>
    intro ts hf
    cases ts with
    | nil => cases hf
    | cons t ts =>
      unfold x_fitA at hf
      rw [Bool.and_eq_true] at hf
      obtain ⟨h1, h2⟩ := hf
      obtain ⟨⟨i1, i2⟩, i3⟩ := ih h2
      split at h1
      · next u hu =>
        refine ⟨⟨by simp [i1], fun j w v hj hv => ?_⟩, fun j hj => ?_⟩
        · cases j with
          | zero =>
            rw [List.getElem?_cons_zero] at hj
            rw [List.map_cons, List.getElem?_cons_zero] at hv
            cases hj; cases hv
            exact x_le_ok h1 (h k u hu)
          | succ j =>
            rw [List.getElem?_cons_succ] at hj
            rw [List.map_cons, List.getElem?_cons_succ] at hv
            exact i2 j w v hj hv
        · rcases List.mem_cons.mp hj with e0 | hj
          · rw [e0]; exact (List.getElem?_eq_some_iff.mp hu).1
          · exact i3 j hj
      · cases h1
/-- a known field that a callee leaves alone -/
def x_keep (G : List xG) (E : List xV) (ef : List (Nat × Nat)) (f : Nat × Nat × Nat × Nat) : Bool := match E[f.1]? with
  | some (.inr (.inr q)) => q.2.all (fun t => match G[t]? with
    | some (.inl o) => (!(f.2.1 == 1000) && (o.1 == f.2.1)) && (Nat.blt f.2.2.1 o.2.length && !(ef.any (fun z => z.1 == t && z.2 == f.2.2.1)))
    | some (.inr _) => !(ef.any (fun z => z.1 == t && z.2 == 0))
    | none => false)
  | _ => false
def x_noraw (E : List xV) (k0 raw : Nat) : Bool := (List.range E.length).all (fun j => j == k0 || (match E[j]? with
  | some (.inr (.inr q)) => q.2.all (fun t => !(t == raw))
  | _ => true))
def x_out (G : List xG) (a : xS) (pc : Nat) (ks S : List Nat) (M : xM) (o : List xV × Option xV) : Option (List (Nat × xS)) := match x_rt M with
  | none => (match x_more a.1 (ks.zip o.1) with
    | none => some []
    | some E1 => (match x_tight E1 a.2.2.2.2.1 with
      | none => some []
      | some E2 => (let b : xS := (E2, a.2.1, S, a.2.2.2.1.filter (x_keep G E2 (x_efs M)), a.2.2.2.2.1, a.2.2.2.2.2.1, a.2.2.2.2.2.2.1, x_cells a + (x_rm M).cells, x_slots a + (x_rm M).slots)
        match o.2 with
        | none => some [(pc + 3, b)]
        | some t => some [(pc + 3, x_psh b S t)])))
  | some t' => (match ks with
    | k0 :: _ => (match a.1[k0]? with
      | some (.inr (.inr (false, [raw]))) => if x_noraw a.1 k0 raw = true ∧ a.2.2.2.2.2.2.1.any (fun k => k == k0) = true ∧ o.2 = none then
          some [(pc + 3, (a.1.set k0 (.inr (.inr (false, [t']))), a.2.1, S, a.2.2.2.1.filter (fun f => !(f.1 == k0) && x_keep G a.1 (x_efs M) f), a.2.2.2.2.1, a.2.2.2.2.2.1, a.2.2.2.2.2.2.1, x_cells a + (x_rm M).cells, x_slots a + (x_rm M).slots))] else none
      | _ => none)
    | _ => none)
def x_ct (E : List xV) (S : List Nat) : Nat := (S.map (fun k => if x_n2 E k then 1 else 2)).sum
def x_call1 (G : List xG) (ef : List (Nat × Nat)) (cs : List xCl) (mc ms : Nat) (a : xS) (pc kind idx : Nat) (rt : Option Nat) (ks S : List Nat) : Option (List (Nat × xS)) :=
  match cs.find? (fun z => z.1 == kind && (z.2.1 == idx && (z.2.2.1 == ks.length && (z.2.2.2.1 == rt && x_fitA a.1 ks (x_args z.2.2.2.2))))) with
  | some z => if x_cells a + (x_rm z.2.2.2.2).cells ≤ mc ∧ x_slots a + (x_rm z.2.2.2.2).slots ≤ ms ∧ x_sb (x_efs z.2.2.2.2) ef = true then (match x_all (x_out G a pc ks S z.2.2.2.2) (x_outs z.2.2.2.2) with
      | some ys => some ys.flatten
      | none => none) else none
  | none => none
def x_call (G : List xG) (ef : List (Nat × Nat)) (cs : List xCl) (mc ms : Nat) (a : xS) (pc kind idx : Nat) : xN :=
  match cs.find? (fun z => z.1 == kind && z.2.1 == idx) with
  | some z0 => (let ks := (a.2.2.1.take z0.2.2.1).reverse
    let S := a.2.2.1.drop z0.2.2.1
    if z0.2.2.1 ≤ a.2.2.1.length ∧ x_ct a.1 S ≤ 8 then (match z0.2.2.2.1 with
      | none => x_call1 G ef cs mc ms a pc kind idx none ks S
      | some _ => (match ks with
        | o :: _ => (match a.1[o]? with
          | some (.inr (.inr (false, ts))) => (match x_all (fun (t : Nat) => x_call1 G ef cs mc ms (a.1.set o (.inr (.inr (false, [t]))), a.2) pc kind idx (some t) ks S) ts with
            | some ys => some ys.flatten
            | none => none)
          | _ => none)
        | _ => none)) else none)
  | none => none
section XL
variable {p : Program} {l : Launch} {e : Env} {R : Room} {s : State} {m : MethodId} {args : Array Value} {below : List Frame} {meth : Method} {c : Code} {Q : State → Prop}
variable {D : va_G} {G : List xG} {Zs : List xZ} {U : State} {ef : List (Nat × Nat)} {Y0 : xY} {H0 : Heap} {nL : Nat} {mu : List Value}
variable {cc : ByteArray} {pc : Nat} {a : xS} {sc : List (Nat × xS)} {cs : List xCl}
variable (p l e R s m args below meth c D G Zs U nL cc) in
/-- a call runs by its contract, from every state -/
def x_cok (z : xCl) : Prop := ∀ (H : Heap) (locs : List Loc) (cells slots pc : Nat) (ls : Array Slot) (rest av : List Value) (Y : xY), decode cc pc = .ok (x_ins z.1 z.2.1, 3) → ls.size = nL → (rest.map fun v => v.category).sum ≤ 8 →
  cells + (x_rm z.2.2.2.2).cells ≤ R.cells → slots + (x_rm z.2.2.2.2).slots ≤ R.slots → x_H D G Zs U Y H → x_cs Y (x_args z.2.2.2.2) av → av.length = z.2.2.1 → (∀ t, z.2.2.2.1 = some t → ∃ b : Nat, av[0]? = some (.ref b) ∧ Y b = some t) →
  va_Run p l e R s m args below meth c H locs cells slots (x_rm z.2.2.2.2).cells (x_rm z.2.2.2.2).slots (F0 m pc ls (av.reverse ++ rest)) rest (x_Q D G Zs U z.2.2.2.2 av Y av.toArray) (fun q => (∃ u, Y q = some u) ∨ H.size ≤ q)
theorem x_call_row {H : Heap} {locs : List Loc} {cells slots mc ms : Nat} {g : JFrame} {rest : List Value} {Qa : State → Outcome → State → Prop} {free : Addr → Prop} (hr : va_Run p l e R s m args below meth c H locs cells slots mc ms g rest Qa free)
    (kk : ∀ (v : Option Value) (st₀ t : State) (L : List Loc), st₀.heap = H → (∀ q ∈ L, free q.base) → Qa st₀ (.returned v) t → W p l e R s m args below meth c t.heap (locs ++ L) (cells + mc) (slots + ms) Q { g with pc := g.pc + 3, stack := v.toList ++ rest }) : W p l e R s m args below meth c H locs cells slots Q g := by
  intro T hT X
  obtain ⟨v, st₀, t, T', L, h0, X', hL, e1, e2, hq, st⟩ := hr T hT X
  obtain ⟨t2, a1, b1⟩ := kk v st₀ t L h0 hL hq T' e1 X'
  exact ⟨t2, st t2 a1, b1⟩
theorem x_keep_ok {Y : xY} {H H1 : Heap} {E : List xV} {r : Nat → Value} {ef' : List (Nat × Nat)} {f : Nat × Nat × Nat × Nat} (hk : x_keep G E ef' f = true) (hE : x_E D G ef' Y H H1)
    {b : Nat} (hb : r f.1 = .ref b) (h : ∀ (t : xV), E[f.1]? = some t → ∃ u, u ∈ (match t with
      | .inr (.inr q) => q.2
      | _ => []) ∧ Y b = some u) : x_fv D f.2.1 f.2.2.1 b H1 = x_fv D f.2.1 f.2.2.1 b H := by
  unfold x_keep at hk
  split at hk
  · next q hq =>
    obtain ⟨t, ht, hY⟩ := h _ hq
    have h1 := List.all_eq_true.mp hk t ht
    split at h1
    · next o ho =>
      simp only [Bool.and_eq_true, beq_iff_eq, Nat.blt_eq, Bool.not_eq_true', List.any_eq_false, beq_eq_false_iff_ne] at h1
      obtain ⟨⟨q0, q1⟩, q2, q3⟩ := h1
      have h2 := hE b t _ hY ho f.2.2.1 q2 (fun hz => q3 _ hz ⟨rfl, rfl⟩)
      rw [q1] at h2
      rw [x_fv_sl q0, x_fv_sl q0]
      exact h2
    · next o ho =>
      simp only [Bool.and_eq_true, beq_iff_eq, Bool.not_eq_true', List.any_eq_false] at h1
      have h2 := (hE b t _ hY ho).1 (fun hz => h1 _ hz ⟨rfl, rfl⟩)
      unfold x_fv
      rw [h2]
    · cases h1
  · cases hk
theorem x_ct_ok {Y : xY} {E : List xV} {r : Nat → Value} (h : ∀ (k : Nat) (t : xV), E[k]? = some t → x_c Y t (r k)) : ∀ S : List Nat, ((S.map r).map fun v => v.category).sum ≤ x_ct E S := by
  intro S
  induction S with
  | nil => exact Nat.le_refl _
  | cons k S ih =>
    show (r k).category + ((S.map r).map fun v => v.category).sum ≤ (if x_n2 E k then 1 else 2) + x_ct E S
    have : (r k).category ≤ (if x_n2 E k then 1 else 2) := by
      split
      · next hn => rw [x_n2_ok h hn]; exact Nat.le_refl 1
      · rcases lv_cat (r k) with q | q <;> rw [q] <;> decide
    omega
theorem x_call1_ok {kind idx : Nat} {rt : Option Nat} {ks S : List Nat} (hw : x_wf a = true) (hY0 : ∀ q u, Y0 q = some u → q < H0.size) (hcs : ∀ z ∈ cs, x_cok p l e R s m args below meth c D G Zs U nL cc z) (hd : decode cc pc = .ok (x_ins kind idx, 3))
    {mc ms : Nat} (hmc : mc ≤ R.cells) (hms : ms ≤ R.slots) (hS : a.2.2.1 = ks.reverse ++ S) (hct : x_ct a.1 S ≤ 8)
    (h : x_call1 G ef cs mc ms a pc kind idx rt ks S = some sc) (hs : ∀ q ∈ sc, x_K p l e R s m args below meth c Q D G Zs U ef Y0 H0 nL mu q) {Y : xY} {H : Heap} {locs : List Loc} {r : Nat → Value} {ls : Array Slot} {st : List Value}
    (hI : x_I D G Zs U ef Y0 H0 Y H locs) (hC : x_C D Y0 nL mu Y H a r ls st) (hrt : ∀ t, rt = some t → ∃ b : Nat, (ks.map r)[0]? = some (.ref b) ∧ Y b = some t) : W p l e R s m args below meth c H locs (x_cells a) (x_slots a) Q (F0 m pc ls st) := by
  unfold x_call1 at h
  split at h
  · next z hz =>
    have hzm := List.mem_of_find?_eq_some hz
    have hze := List.find?_some hz
    simp only [Bool.and_eq_true, beq_iff_eq] at hze
    obtain ⟨z1, z2, z3, z4, z5⟩ := hze
    split at h
    · next hc =>
      obtain ⟨c1, c2, c3⟩ := hc
      split at h
      · next ys hys =>
        cases h
        obtain ⟨hav, hkl⟩ := x_fitA_ok hC.1 z5
        have hst : st = (ks.map r).reverse ++ S.map r := by rw [hC.2.2.1, hS, List.map_append, List.map_reverse]
        rw [hst]
        refine x_call_row (hcs z hzm H locs _ _ pc ls (S.map r) (ks.map r) Y (by rw [z1, z2]; exact hd) hC.2.1.1 (Nat.le_trans (x_ct_ok hC.1 S) hct) (Nat.le_trans c1 hmc) (Nat.le_trans c2 hms) hI.1 hav (by rw [z3, List.length_map]) (fun t ht => hrt t (by rw [← z4]; exact ht))) fun v st₀ t L h0 hL hq => ?_
        obtain ⟨v', Y', o, e0, ho, hret, hcs', hH', hext, hE', hF⟩ := hq
        cases e0
        obtain ⟨y, hy, hym⟩ := x_all_mem hys o ho
        have hs' : ∀ q ∈ y, x_K p l e R s m args below meth c Q D G Zs U ef Y0 H0 nL mu q := fun q hq => hs q (List.mem_flatten.mpr ⟨y, hym, hq⟩)
        rw [h0] at hext hE' hF
        obtain ⟨hF1, hF2⟩ := hF
        rw [h0] at hF1
        have hefs : x_Sb (x_efs z.2.2.2.2) ef := x_sb_ok c3
        have hYY : ∀ q u, Y0 q = some u → Y q = some u := fun q u hq => by rw [hI.2.1 q (hY0 q u hq)]; exact hq
        have hsz : H0.size ≤ H.size := hI.2.2.2.1
        have hI' : (∀ q, q < H0.size → Y' q = Y0 q) → x_I D G Zs U ef Y0 H0 Y' t.heap (locs ++ L) := by
          intro hq0
          have hA : ∀ q, q < H.size → ((∃ u, Y q = some u) ∨ H.size ≤ q) → (∃ u, Y0 q = some u) ∨ H0.size ≤ q := fun q hq hz => by
            rcases Nat.lt_or_ge q H0.size with k | k
            · rcases hz with ⟨u, hu⟩ | hz
              · exact Or.inl ⟨u, by rw [← hI.2.1 q k]; exact hu⟩
              · omega
            · exact Or.inr k
          refine ⟨hH', hq0, hI.2.2.1.trans hE' hYY hefs, Nat.le_trans hsz hF1, fun q q1 q2 => ?_, fun q hq => ?_⟩
          · have hqH : q < H.size := Nat.lt_of_lt_of_le q1 hsz
            rw [hF2 q (by rw [h0]; exact hqH) (fun z => q2 (hA q hqH z)), h0]
            exact hI.2.2.2.2.1 q q1 q2
          · rcases List.mem_append.mp hq with hq | hq
            · exact hI.2.2.2.2.2 q hq
            · rcases Nat.lt_or_ge q.base H.size with k | k
              · exact hA _ k (hL q hq)
              · exact Or.inr (Nat.le_trans hsz k)
        unfold x_out at hy
        split at hy
        · next hrt0 =>
          unfold x_ext at hext
          rw [hrt0] at hext
          dsimp only at hext
          have hmon : ∀ q u, Y q = some u → Y' q = some u := fun q u hq => by rw [hext q (hI.1.lt hq)]; exact hq
          have hI2 := hI' (fun q hq => by rw [hext q (Nat.lt_of_lt_of_le hq hsz)]; exact hI.2.1 q hq)
          have hE1 : ∀ (k : Nat) (t : xV), a.1[k]? = some t → x_c Y' t (r k) := fun k t hk => (hC.1 k t hk).mono hmon
          have hzip : ∀ q ∈ ks.zip o.1, x_c Y' q.2 (r q.1) := by
            intro q hq
            obtain ⟨j, hj⟩ := List.getElem?_of_mem hq
            rw [List.getElem?_zip_eq_some] at hj
            exact hcs'.2 j q.2 (r q.1) hj.2 (by rw [List.getElem?_map, hj.1]; rfl)
          obtain ⟨E1, m1, m2⟩ := x_more_ok hE1 hzip (fun q hq => hkl q.1 (List.of_mem_zip hq).1)
          rw [m1] at hy
          dsimp only at hy
          obtain ⟨E2, n1, n2⟩ := x_tight_ok m2 hC.2.2.2.2.1
          rw [n1] at hy
          dsimp only at hy
          have hl2 : E2.length = a.1.length := by rw [x_tight_len n1, x_more_len m1]
          have hCb : x_C D Y0 nL mu Y' t.heap (E2, a.2.1, S, a.2.2.2.1.filter (x_keep G E2 (x_efs z.2.2.2.2)), a.2.2.2.2.1, a.2.2.2.2.2.1, a.2.2.2.2.2.2.1, x_cells a + (x_rm z.2.2.2.2).cells, x_slots a + (x_rm z.2.2.2.2).slots) r ls (S.map r) := by
            refine ⟨n2, hC.2.1, rfl, fun f hf => ?_, hC.2.2.2.2.1, hC.2.2.2.2.2.1, hC.2.2.2.2.2.2⟩
            obtain ⟨f1, f2⟩ := List.mem_filter.mp hf
            obtain ⟨b, b1, b2⟩ := hC.2.2.2.1 f f1
            refine ⟨b, b1, ?_⟩
            have hbs : b < H.size := by
              have : (x_fv D f.2.1 f.2.2.1 b H).isSome := by rw [b2]; rfl
              unfold x_fv at this
              cases hh : H[b]? with
              | none => rw [hh] at this; cases this
              | some w => exact (Array.getElem?_eq_some_iff.mp hh).1
            show x_fv D f.2.1 f.2.2.1 b t.heap = _
            rw [x_keep_ok f2 hE' b1 (fun tt htt => ?_)]
            · exact b2
            · have hcq := n2 _ _ htt
              rw [b1] at hcq
              rcases tt with q | q | q
              · obtain ⟨x, hx0, -⟩ := hcq; cases hx0
              · obtain ⟨x, hx0, -⟩ := hcq; cases hx0
              · rcases hcq with ⟨hcq, -⟩ | ⟨b', uu, hcq, huu, hYt⟩
                · cases hcq
                · cases hcq
                  exact ⟨uu, huu, by rw [← hext b hbs]; exact hYt⟩
          split at hy
          · next hr0 =>
            cases hy
            rw [hr0] at hret
            cases hret
            exact hs' _ List.mem_cons_self Y' t.heap _ r ls _ hI2 hCb
          · next tr hr0 =>
            cases hy
            rw [hr0] at hret
            obtain ⟨w, hw1, hw2⟩ := hret
            cases hw1
            have hwb : x_wf (E2, a.2.1, S, a.2.2.2.1.filter (x_keep G E2 (x_efs z.2.2.2.2)), a.2.2.2.2.1, a.2.2.2.2.2.1, a.2.2.2.2.2.2.1, x_cells a + (x_rm z.2.2.2.2).cells, x_slots a + (x_rm z.2.2.2.2).slots) = true := by
              have h3 := hw
              simp only [x_wf, Bool.and_eq_true, List.all_eq_true, Nat.blt_eq, hl2] at h3 ⊢
              refine ⟨h3.1, fun k hk => h3.2.1 k (by rw [hS]; exact List.mem_append_right _ hk), fun f hf => h3.2.2.1 f (List.mem_filter.mp hf).1, h3.2.2.2⟩
            have hSl : ∀ k ∈ S, k < E2.length := fun k hk => by rw [hl2]; exact (x_wf_spec hw).2.1 k (by rw [hS]; exact List.mem_append_right _ hk)
            exact hs' _ List.mem_cons_self Y' t.heap _ _ ls _ hI2 (hCb.psh hwb hSl hw2)
        · next t' hrt0 =>
          unfold x_ext at hext
          rw [hrt0] at hext
          dsimp only at hext
          split at hy
          · next k0 ks' =>
            split at hy
            · next raw hk0 =>
              split at hy
              · next hcc =>
                obtain ⟨d1, d2, d3⟩ := hcc
                cases hy
                rw [d3] at hret
                cases hret
                obtain ⟨b, x1, x2, x3⟩ := hext
                have x1 : r k0 = .ref b := Option.some.inj x1
                obtain ⟨k', hk', he'⟩ := List.any_eq_true.mp d2
                simp only [beq_iff_eq] at he'
                obtain ⟨b', y1, y2⟩ := hC.2.2.2.2.2.2 k' hk'
                rw [he', x1] at y1
                cases y1
                have hraw : Y b = some raw := by
                  have := hC.1 _ _ hk0
                  rw [x1] at this
                  rcases this with ⟨this, -⟩ | ⟨b', tt, this, htt, hYt⟩
                  · cases this
                  cases this
                  rcases List.mem_cons.mp htt with e0 | e0
                  · rw [← e0]; exact hYt
                  · cases e0
                have hbH : b < H.size := hI.1.lt hraw
                have hb0 : H0.size ≤ b := by
                  rcases Nat.lt_or_ge b H0.size with k | k
                  · have := hI.2.1 b k
                    rw [hraw, y2] at this; cases this
                  · exact k
                have hI2 := hI' (fun q hq => by rw [x3 q (Nat.lt_of_lt_of_le hq hsz) (by omega)]; exact hI.2.1 q hq)
                have hoth : ∀ (j : Nat) (u : xV), j ≠ k0 → a.1[j]? = some u → x_c Y' u (r j) := by
                  intro j u hj hu
                  have hc0 := hC.1 j u hu
                  rcases u with q | q | q
                  · exact hc0
                  · exact hc0
                  · rcases hc0 with hc0 | ⟨b2, tt, g1, g2, g3⟩
                    · exact Or.inl hc0
                    · refine Or.inr ⟨b2, tt, g1, g2, ?_⟩
                      have hne : b2 ≠ b := by
                        intro e0
                        subst e0
                        cases g3.symm.trans hraw
                        have h9 := List.all_eq_true.mp d1 j (List.mem_range.mpr (List.getElem?_eq_some_iff.mp hu).1)
                        rw [hu] at h9
                        simp only [Bool.or_eq_true, beq_iff_eq, List.all_eq_true, Bool.not_eq_true', beq_eq_false_iff_ne] at h9
                        rcases h9 with h9 | h9
                        · exact hj h9
                        · exact h9 _ g2 rfl
                      rw [x3 b2 (hI.1.lt g3) hne]; exact g3
                refine hs' _ List.mem_cons_self Y' t.heap _ r ls _ hI2 ⟨fun k u hk => ?_, hC.2.1, rfl, fun f hf => ?_, hC.2.2.2.2.1, hC.2.2.2.2.2.1, hC.2.2.2.2.2.2⟩
                · rw [List.getElem?_set] at hk
                  split at hk
                  · next e0 =>
                    split at hk
                    · cases hk
                      rw [← e0, x1]
                      exact Or.inr ⟨b, t', rfl, List.mem_cons_self, x2⟩
                    · cases hk
                  · next e0 => exact hoth k u (Ne.symm e0) hk
                · obtain ⟨f1, f2⟩ := List.mem_filter.mp hf
                  simp only [Bool.and_eq_true, Bool.not_eq_true', beq_eq_false_iff_ne] at f2
                  obtain ⟨b2, g1, g2⟩ := hC.2.2.2.1 f f1
                  refine ⟨b2, g1, ?_⟩
                  show x_fv D f.2.1 f.2.2.1 b2 t.heap = _
                  rw [x_keep_ok f2.2 hE' g1 (fun tt htt => ?_)]
                  · exact g2
                  · have hcq := hC.1 _ _ htt
                    rw [g1] at hcq
                    rcases tt with q | q | q
                    · obtain ⟨x, hx0, -⟩ := hcq; cases hx0
                    · obtain ⟨x, hx0, -⟩ := hcq; cases hx0
                    · rcases hcq with ⟨hcq, -⟩ | ⟨b', uu, hcq, huu, hYt⟩
                      · cases hcq
                      · cases hcq
                        exact ⟨uu, huu, hYt⟩
              · cases hy
            · cases hy
          · cases hy
      · cases h
    · cases h
  · cases h
theorem x_call_ok {kind idx : Nat} (hw : x_wf a = true) (hY0 : ∀ q u, Y0 q = some u → q < H0.size) (hcs : ∀ z ∈ cs, x_cok p l e R s m args below meth c D G Zs U nL cc z) (hd : decode cc pc = .ok (x_ins kind idx, 3))
    {mc ms : Nat} (hmc : mc ≤ R.cells) (hms : ms ≤ R.slots) (h : x_call G ef cs mc ms a pc kind idx = some sc) (hs : ∀ q ∈ sc, x_K p l e R s m args below meth c Q D G Zs U ef Y0 H0 nL mu q) : x_K p l e R s m args below meth c Q D G Zs U ef Y0 H0 nL mu (pc, a) := by
  intro Y H locs r ls st hI hC
  unfold x_call at h
  split at h
  · next z0 hz0 =>
    dsimp only at h
    split at h
    · next hc =>
      have hS : a.2.2.1 = ((a.2.2.1.take z0.2.2.1).reverse).reverse ++ a.2.2.1.drop z0.2.2.1 := by rw [List.reverse_reverse, List.take_append_drop]
      split at h
      · exact x_call1_ok hw hY0 hcs hd hmc hms hS hc.2 h hs hI hC (fun t ht => by cases ht)
      · split at h
        · next o ks' hks =>
          split at h
          · next ts ho =>
            split at h
            · next ys hys =>
              cases h
              obtain ⟨b, t, eb, ht, hY⟩ := x_ref_at (hC.1 o _ ho) rfl
              obtain ⟨y, hy, hym⟩ := x_all_mem hys t ht
              have hE : ∀ (k : Nat) (u : xV), (a.1.set o (.inr (.inr (false, [t]))))[k]? = some u → x_c Y u (r k) := x_set_ok hC.1 (Or.inr ⟨b, t, eb, List.mem_cons_self, hY⟩)
              have hw2 : x_wf (a.1.set o (.inr (.inr (false, [t]))), a.2) = true := by
                have h3 := hw
                simp only [x_wf, Bool.and_eq_true, List.all_eq_true, Nat.blt_eq, List.length_set] at h3 ⊢
                exact h3
              have hC2 : x_C D Y0 nL mu Y H (a.1.set o (.inr (.inr (false, [t]))), a.2) r ls st := ⟨hE, hC.2⟩
              have hct2 : x_ct (a.1.set o (.inr (.inr (false, [t])))) (a.2.2.1.drop z0.2.2.1) ≤ 8 := by
                refine Nat.le_trans (Nat.le_of_eq ?_) hc.2
                unfold x_ct
                congr 1
                refine List.map_congr_left fun k _ => ?_
                have : x_n2 (a.1.set o (.inr (.inr (false, [t])))) k = x_n2 a.1 k := by
                  unfold x_n2
                  by_cases e0 : o = k
                  · subst e0
                    rw [List.getElem?_set, if_pos rfl, if_pos (List.getElem?_eq_some_iff.mp ho).1, ho]
                  · rw [List.getElem?_set, if_neg e0]
                rw [this]
              refine x_call1_ok (a := (a.1.set o (.inr (.inr (false, [t]))), a.2)) hw2 hY0 hcs hd hmc hms hS hct2 hy (fun q hq => hs q (List.mem_flatten.mpr ⟨y, hym, hq⟩)) hI hC2 (fun t' ht' => ?_)
              cases ht'
              refine ⟨b, ?_, hY⟩
              rw [hks]
              show some (r o) = _
              rw [eb]
            · cases h
          · cases h
        · cases h
    · cases h
  · cases h
end XL
