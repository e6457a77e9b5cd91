/-- the tables of a method's code hold wherever its words do -/
def x_TOK (cl : List vw_C) (G : List xG) (Zs : List xZ) (Tb Nb : List Cond) (M : xM) (T : xTab) : Prop :=
  ∀ (p : Program) (l : Launch) (e : Env) (s : State) (m : MethodId) (args : Array Value) (below : List Frame) (meth : Method) (c : Code) (D : va_G) (U : State), p.tables.exec = Jvm.exec → c.code = M.2.1 → c.maxLocals = M.2.2.1 → (∀ w ∈ Tb, w.before args s = true) →
    s.vm.findClass M.1.cls = some m.cls → va_K D cl [] s → va_K D cl [] U → U.WarmedH s.vm → meth.name = M.1.name → (∀ w ∈ Nb, va_Nw w s) → x_tok p l e (x_rm M) s m args below meth c D G Zs U M.2.2.1 M.2.1 cl Tb M.1.cls T
theorem x_al_ok {Y : xY} {r : Nat → Value} : ∀ (ts : List xV) (vs : List Value) (i k : Nat), x_cs Y ts vs → (∀ j v, vs[j]? = some v → r (k + j) = v) → ∀ q ∈ (x_al i k ts).map (fun q => (q.1, r q.2)), q ∈ lv_args i vs := by
  intro ts
  induction ts with
  | nil => intro vs i k _ _ q hq; cases hq
  | cons t ts ih =>
    intro vs i k hc hr q hq
    cases vs with
    | nil => exact absurd hc.1 (by simp)
    | cons v vs =>
      have h0 := hc.2 0 t v (by simp) (by simp)
      have hr0 : r k = v := hr 0 v (by simp)
      have hc' : x_cs Y ts vs := ⟨by have := hc.1; simpa using this, fun j t' v' h1 h2 => hc.2 (j + 1) t' v' (by simpa using h1) (by simpa using h2)⟩
      have hcat : (if x_isL t then i + 2 else i + 1) = (if v.category = 2 then i + 2 else i + 1) := by
        rcases t with u | u | u
        · obtain ⟨x, e0, -⟩ := h0; rw [e0]; rfl
        · obtain ⟨x, e0, -⟩ := h0; rw [e0]; rfl
        · rcases h0 with ⟨e0, -⟩ | ⟨b, t, e0, -⟩ <;> rw [e0] <;> rfl
      unfold x_al at hq
      rw [List.map_cons] at hq
      unfold lv_args
      rcases List.mem_cons.mp hq with e0 | hq
      · rw [e0, hr0]; exact List.mem_cons_self
      · rw [hcat] at hq
        refine List.mem_cons_of_mem _ (ih vs _ (k + 1) hc' (fun j w hj => ?_) q hq)
        have := hr (j + 1) w (by simpa using hj)
        rw [← this]
        congr 1
        omega
theorem x_range_map {α : Type} (r : Nat → α) : ∀ (vs : List α), (∀ j v, vs[j]? = some v → r j = v) → (List.range vs.length).map r = vs := by
  intro vs h
  apply List.ext_getElem?
  intro j
  rw [List.getElem?_map]
  by_cases hj : j < vs.length
  · rw [List.getElem?_range hj, List.getElem?_eq_getElem hj]
    show some (r j) = _
    rw [h j _ (List.getElem?_eq_getElem hj)]
  · rw [List.getElem?_eq_none (by simpa using hj), List.getElem?_eq_none (by simpa using hj)]
    rfl
theorem x_sl_len : ∀ (ts : List xV) (vs : List Value) (Y : xY), x_cs Y ts vs → (lg_sl vs).length = (ts.map (fun t => if x_isL t then 2 else 1)).sum := by
  intro ts
  induction ts with
  | nil =>
    intro vs Y h
    cases vs with
    | nil => rfl
    | cons v vs => exact absurd h.1 (by simp)
  | cons t ts ih =>
    intro vs Y hc
    cases vs with
    | nil => exact absurd hc.1 (by simp)
    | cons v vs =>
      have h0 := hc.2 0 t v (by simp) (by simp)
      have hc' : x_cs Y ts vs := ⟨by have := hc.1; simpa using this, fun j t' v' h1 h2 => hc.2 (j + 1) t' v' (by simpa using h1) (by simpa using h2)⟩
      have hi := ih vs Y hc'
      have e1 : lg_sl (v :: vs) = (if v.category = 2 then [.val v, .second] else [.val v]) ++ lg_sl vs := rfl
      rw [e1, List.length_append, hi, List.map_cons, List.sum_cons]
      congr 1
      rcases t with u | u | u
      · obtain ⟨x, e0, -⟩ := h0; rw [e0]; rfl
      · obtain ⟨x, e0, -⟩ := h0; rw [e0]; rfl
      · rcases h0 with ⟨e0, -⟩ | ⟨b, t, e0, -⟩ <;> rw [e0] <;> rfl
/-- A METHOD'S CONTRACT, out of the checker's yes -/
theorem x_main {cl : List vw_C} {G : List xG} {Zs : List xZ} {Tb Nb : List Cond} {M : xM} (T : xTab) (an : List xAn) (sp : List (Nat × Nat)) (n : Nat) (hy : plainName M.1.cls = true) (hl : ((x_args M).map (fun t => if x_isL t then 2 else 1)).sum ≤ M.2.2.1) (hT : x_TOK cl G Zs Tb Nb M T) (h : x_ex G Zs T M an sp n [] true (0, x_0 M) = true) : x_Met cl G Zs Tb Nb M := by
  intro l D U Y sz av hK0 hav
  refine Met.ofW (cc := M.2.1) (maxL := M.2.2.1) (ret := M.2.2.2.1) hy rfl ?_
  intro p e s m args below meth c s₁ B hml hv
  obtain ⟨rfl, hsz, hU, hH, hN⟩ := hv
  have hts0 := atoms_spec B.pre
  have hts : ∀ w ∈ Tb, w.before av.toArray s = true := fun w hw => hts0 w (List.mem_cons_of_mem _ hw)
  have hown : s.vm.findClass M.1.cls = some m.cls := findClass_of_methodNamed B.named
  have hnm : meth.name = M.1.name := (name_of_methodNamed B.named B.method).1
  have hK : va_K D cl [] s := va_K.moved hU.alike hK0
  have hY0 : ∀ q u, Y q = some u → q < s.heap.size := fun q u hq => hH.lt hq
  have hT1 : x_tok p l e (x_rm M) s m av.toArray below meth c D G Zs U M.2.2.1 M.2.1 cl Tb M.1.cls T := hT p l e s m av.toArray below meth c D U B.exec B.bytes hml hts hown hK hK0 hU hnm hN
  have hK1 := x_ex_ok (R := x_rm M) (an := an) (sp := sp) B.exec B.bytes hml B.returns B.notSynchronized hts hown hK hU hsz hY0 hav hT1 (Nat.le_refl _) (Nat.le_refl _) n [] true (0, x_0 M) av h (fun _ => ⟨[], rfl⟩) (fun E hE => by cases hE)
  have hlen : (lg_sl av).length ≤ M.2.2.1 := by rw [x_sl_len _ _ _ hav]; exact hl
  have hlv := lv_entry av (n := M.2.2.1) hlen
  rw [lg_entry_eq]
  refine hK1 Y s.heap [] (fun k => av.getD k .null) _ [] ⟨hH, fun q _ => rfl, x_E.rf, va_S.rf⟩ ⟨fun k t hk => ?_, hlv.less (x_al_ok (Y := Y) (r := fun k => av.getD k .null) (x_args M) av 0 0 hav (fun j v hj => ?_)), rfl, fun f hf => (by cases hf), fun d hd => (by cases hd), ?_, fun k hk => (by cases hk)⟩
  · show x_c Y t (av.getD k .null)
    have hkl : k < (x_args M).length := (List.getElem?_eq_some_iff.mp hk).1
    have hka : k < av.length := by rw [← hav.1]; exact hkl
    refine hav.2 k t _ hk ?_
    rw [List.getD_eq_getElem?_getD, List.getElem?_eq_getElem hka]
    rfl
  · rw [Nat.zero_add, List.getD_eq_getElem?_getD, hj]
    rfl
  · show (List.range (x_args M).length).map (fun k => av.getD k .null) = av
    rw [hav.1]
    exact x_range_map _ av (fun j v hj => by rw [List.getD_eq_getElem?_getD, hj]; rfl)

