theorem x_sub1 {s : State} {a b : ClassId} {k : Class} (h1 : s.vm.classes[a]? = some k) (h2 : k.super = some b) : s.vm.isSubclass a b = true := by
  have hpos : 0 < s.vm.classes.size := Nat.lt_of_le_of_lt (Nat.zero_le _) (Array.getElem?_eq_some_iff.mp h1).1
  obtain ⟨n, hn⟩ : ∃ n, s.vm.classes.size = n + 1 := ⟨s.vm.classes.size - 1, by omega⟩
  unfold Vm.isSubclass
  rw [hn]
  simp [Vm.isSubclassAux, h1, h2]
section XQ2
variable {p : Program} {l : Launch} {e : Env} {R : Room} {s : State} {m : MethodId} {args : Array Value} {below : List Frame} {meth : Method} {c : Code}
variable {D : va_G} {G : List xG} {Zs : List xZ} {U : State} {nL : Nat} {cc : ByteArray} {cl : List vw_C} {Tb Nb : List Cond} {own : String} {M : xM} {idx n : Nat}
/-- an overriding method: what the reference names is another one's -/
theorem x_cokO {t ci : Nat} {fts : List xV} {q : vw_C} {x : MethodName} {b0 : ByteArray} {m0 : Nat} {r0 : Option FieldType} (X : x_cx p s m args c D U cc nL cl Tb Nb own) (hM : x_Met cl G Zs Tb Nb M) (hg : G[t]? = some (.inl (ci, fts))) (hq : cl[ci]? = some q) (hx0 : Cond.code ⟨x.cls, x.name, x.desc⟩ b0 m0 r0 ∈ Tb)
    (h : ∀ w ∈ [Cond.methodLink own idx x, .sameMethod x.cls x.cls x.name x.desc, .instanceMethod ⟨x.cls, x.name, x.desc⟩, .selects q.1 x M.1, .instanceMethod M.1, .initialized M.1.cls], w ∈ Tb) (hc : Cond.code M.1 M.2.1 M.2.2.1 M.2.2.2.1 ∈ Tb)
    (hd : x.cls ≠ "java/lang/invoke/MethodHandle" ∧ x.cls ≠ "java/lang/invoke/VarHandle" ∧ (parseMethodDescriptor x.desc).map (fun d => d.parameters.length) = some n) (hR : (x_rm M).frames + 1 ≤ R.frames ∧ 8 + (M.2.2.1 + 11) + (x_rm M).locals ≤ R.locals) :
    x_cok p l e R s m args below meth c D G Zs U nL cc (0, idx, n + 1, some t, M) := by
  intro H locs cells slots pc ls rest av Y hdec hls hrest hcl hsl hH hcs hlen hrt
  obtain ⟨hx, hb, hml, hown, hts, hK, hK0, hU, hNw, hG, hN⟩ := X
  obtain ⟨b, hb0, hbY⟩ := hrt t rfl
  cases hav : av with
  | nil => rw [hav] at hb0; cases hb0
  | cons v As =>
    rw [hav] at hb0 hcs hlen
    have hv : v = .ref b := by simpa using hb0
    subst hv
    have hM1 := hM l D U Y H.size (.ref b :: As) hK0 hcs
    rw [List.reverse_cons, List.append_assoc]
    exact va_runU (As := As) (rest := rest) (Ts := Tb) (C := q.1) (owner := x.cls) (x := x) ⟨hx, hb, hml, hown, hts⟩ hM1 (va_cwO n hts (x_good hG h hc) rfl rfl rfl hx0 hd hR) ⟨x_blind hN, x_recv hK hH hbY hg hq, x_pre hN hNw hU hH⟩ rfl (by simpa using hlen) hls rfl (lv_room hrest) hdec ⟨hcl, hsl⟩
theorem x_castSelf {C : String} {cC : ClassId} (h : ClassAt s C cC) : va_Nw (.castable C C) s := by
  have h1 := va_assign h
  unfold va_Nw Cond.before Cond.holds
  simp [Cond.value, h.1, h1]
/-- super.m(..), of which the superclass has it from its own -/
theorem x_cokSUP {x : MethodName} {tg : List Nat} {ts : List xV} (X : x_cx p s m args c D U cc nL cl Tb Nb own) (hM : x_Met cl G Zs Tb Nb M) (hyx : M.1 = ⟨M.1.cls, x.name, x.desc⟩) (hargs : x_args M = .inr (.inr (false, tg)) :: ts)
    (htg : tg.all (fun t => match G[t]? with
      | some (.inl o) => (cl[o.1]?).isSome
      | _ => false) = true)
    (h : ∀ w ∈ [Cond.methodLink own idx x, .sameMethod x.cls M.1.cls x.name x.desc, .superclass own x.cls, .superclass x.cls M.1.cls, .instanceMethod M.1, .initialized M.1.cls], w ∈ Tb) (hc : Cond.code M.1 M.2.1 M.2.2.1 M.2.2.2.1 ∈ Tb)
    (hd : x.name ≠ "<init>" ∧ (parseMethodDescriptor M.1.desc).map (fun d => d.parameters.length) = some n) (hR : (x_rm M).frames + 1 ≤ R.frames ∧ 8 + (M.2.2.1 + 11) + (x_rm M).locals ≤ R.locals) :
    x_cok p l e R s m args below meth c D G Zs U nL cc (2, idx, n + 1, none, M) := by
  intro H locs cells slots pc ls rest av Y hdec hls hrest hcl hsl hH hcs hlen hrt
  obtain ⟨hx, hb, hml, hown, hts, hK, hK0, hU, hNw, hG, hN⟩ := X
  have hcs : x_cs Y (x_args M) av := hcs
  rw [hargs] at hcs
  have h00 := hcs
  obtain ⟨b, As, rfl⟩ := x_this hcs
  obtain ⟨b', t, e0, ht, hbY⟩ := x_ref_at (h00.2 0 (.inr (.inr (false, tg))) (.ref b) (by simp) (by simp)) rfl
  cases e0
  rw [← hargs] at hcs
  have hM1 := hM l D U Y H.size (.ref b :: As) hK0 hcs
  have hrec : ∃ (cell : Cell) (kB : Class), H[b]? = some cell ∧ cell.vm.isStatics = false ∧ s.vm.classes[cell.cls]? = some kB := by
    have h1 := List.all_eq_true.mp htg t ht
    split at h1
    · next o ho =>
      obtain ⟨q, hq⟩ := Option.isSome_iff_exists.mp h1
      obtain ⟨g, h2, h3⟩ := hH.1 b t hbY
      cases h2.symm.trans ho
      obtain ⟨V, ⟨cell, q1, q2, q3, -⟩, -⟩ := h3
      obtain ⟨-, kC, hkC, -⟩ := (hK.1 o.1 q hq).2
      exact ⟨cell, kC, q1, by rw [q3]; rfl, by rw [q2]; exact hkC⟩
    · cases h1
  obtain ⟨cellB, kB, hcB, hoB, hkB⟩ := hrec
  have hK1 : Back l R p e below s args M.1 3 8 (PreOf R (x_rm M).cells (x_rm M).slots (va_Pc (.ref b :: As) (fun S => S.heap.size = H.size ∧ U.WarmedH S.vm ∧ x_H D G Zs U Y S.heap ∧ ∀ w ∈ Nb, va_Nw w S))) (PostOf (x_Q D G Zs U M (.ref b :: As) Y) (x_rm M).cells (x_rm M).slots (fun q => (∃ u, Y q = some u) ∨ H.size ≤ q)) :=
    back_of (bytes := M.2.1) (maxL := M.2.2.1) (ret := M.2.2.2.1) hM1 (x_blind hN) rfl rfl hR.1 hR.2 (pay_in hts (x_good (ws := []) hG (fun w hw => by cases hw) hc)) List.mem_cons_self (fun a' V hW => word_at hW (Or.inl (by first | rfl | simp [Cond.onTables, Cond.keeps, Cond.steady])) (hts _ (h _ (by simp))))
  intro T hT XS
  obtain ⟨mk, methM, hnamed, hmethM, hstM, habM⟩ := Cond.instanceMethod_spec (hts _ (h (Cond.instanceMethod M.1) (by simp)))
  obtain ⟨methM', cM, hmethM', -, -, -, -, -, -, hsigM⟩ := Cond.code_spec hnamed (hts _ hc)
  cases hmethM.symm.trans hmethM'
  obtain ⟨ps, dk, kp, hps, hdk, hkp, hsuper, -, -, hnid⟩ := Cond.superclass_spec hown (hts _ (h (Cond.superclass own x.cls) (by simp)))
  obtain ⟨ps2, dk2, kp2, hps2, hdk2, hkp2, hsuper2, -, -, -⟩ := Cond.superclass_spec hps (hts _ (h (Cond.superclass x.cls M.1.cls) (by simp)))
  have hn : s.methodNamed? ⟨M.1.cls, x.name, x.desc⟩ = some mk := by rw [← hyx]; exact hnamed
  have hpm : ps2 = mk.cls := Option.some.inj (hps2.symm.trans (findClass_of_methodNamed hnamed))
  have hsub : s.vm.isSubclass ps mk.cls = true := by
    rw [← hpm]
    exact x_sub1 hdk2 hsuper2
  have hsz : (F0 m pc ls ((Value.ref b :: As).reverse ++ rest)).locals.size = c.maxLocals := by rw [hml]; exact hls
  have hlenA : As.length = n := by simpa using hlen
  have hsl2 : ∀ sig, parseMethodDescriptor M.1.desc = some sig → As.length = sig.parameters.length := fun sig hsig => by
    have h2 := hd.2
    rw [hsig] at h2
    rw [hlenA]
    exact (Option.some.inj h2).symm
  obtain ⟨vm₁, X₁, hstep₁⟩ := XS.invokespecialUp hx hown (hts _ (h (Cond.methodLink own idx x) (by simp))) (hts _ (h (Cond.sameMethod x.cls M.1.cls x.name x.desc) (by simp))) hn hmethM hstM habM hd.1 hdk hnid hps hsuper hsub (a := b) (cell := cellB) (by rw [hT]; exact hcB)
    (fun z hz => by rw [hz] at hoB; cases hoB) hkB (g := F0 m pc ls ((Value.ref b :: As).reverse ++ rest)) rfl (argsL := As) (rest := rest) (hsl2 _ hsigM) (by show (Value.ref b :: As).reverse ++ rest = _; rw [List.reverse_cons, List.append_assoc]; rfl) (by rw [hb]; exact hdec)
  obtain ⟨v, ⟨U', l2, c2, s2⟩, X', ⟨g', mk', t', L, e1, e2, hq, h1, hL, h2, h3⟩, hsteps⟩ := hK1 m meth c ⟨T.setVm vm₁, locs, cells, slots⟩ { F0 m pc ls ((Value.ref b :: As).reverse ++ rest) with stack := rest } (.invokespecial idx) mk (Value.ref b :: As).toArray X₁ rfl hsz (by rw [hb]; exact hdec) (lv_room hrest) (X₁.named hnamed) ⟨hcl, hsl, x_pre hN hNw hU hH (T.setVm vm₁) hT X₁.warmed⟩
  dsimp only [Pt.U, Pt.locs, Pt.cells, Pt.slots] at X' e1 e2 h1 h2 h3 hsteps
  subst h1; subst h2; subst h3
  exact ⟨v, (T.setVm vm₁).calling g' mk' (Value.ref b :: As).toArray, t', U', L, hT, X', hL, e1, e2, hq, fun target ht => hstep₁ _ (by rw [doInvoke_state]; exact hsteps.trans ht)⟩
end XQ2
/-! what a new cell holds at first -/
def x_dv (ft : xV) (ty : FieldType) : Bool := match ft, ty with
  | .inl q, .int => decide (q.1 ≤ 0) && decide (0 ≤ q.2)
  | .inl q, .boolean => decide (q.1 ≤ 0) && decide (0 ≤ q.2)
  | .inr (.inl q), .long => decide (q.1 ≤ 0) && decide (0 ≤ q.2)
  | .inr (.inr q), .object _ => q.1
  | .inr (.inr q), .array _ => q.1
  | _, _ => false
theorem x_dv_ok {Y : xY} {ft : xV} {ty : FieldType} (h : x_dv ft ty = true) : x_c Y ft (defaultValue ty) := by
  unfold x_dv at h
  split at h
  · simp only [Bool.and_eq_true, decide_eq_true_eq] at h
    exact ⟨0, rfl, h.1, h.2⟩
  · simp only [Bool.and_eq_true, decide_eq_true_eq] at h
    exact ⟨0, rfl, h.1, h.2⟩
  · simp only [Bool.and_eq_true, decide_eq_true_eq] at h
    exact ⟨0, rfl, h.1, h.2⟩
  · exact Or.inl ⟨rfl, h⟩
  · exact Or.inl ⟨rfl, h⟩
  · cases h
theorem x_dfl {fts : List xV} {ty : Nat → FieldType} (h : (List.range fts.length).all (fun k => match fts[k]? with
    | some ft => x_dv ft (ty k)
    | none => false) = true) (Y : xY) (k : Nat) (ft : xV) (hk : fts[k]? = some ft) : x_c Y ft (defaultValue (ty k)) := by
  have h1 := List.all_eq_true.mp h k (List.mem_range.mpr (List.getElem?_eq_some_iff.mp hk).1)
  rw [hk] at h1
  exact x_dv_ok h1
theorem x_dfa {pre : List xV} {ft : xV} {ty : FieldType} (h : (pre.all (fun t => x_dv t ty) && x_dv ft ty) = true) (Y : xY) (j : Nat) : x_c Y (pre.getD j ft) (defaultValue ty) := by
  rw [Bool.and_eq_true] at h
  rw [List.getD_eq_getElem?_getD]
  cases hq : pre[j]? with
  | none => exact x_dv_ok h.2
  | some w => exact x_dv_ok (List.all_eq_true.mp h.1 w (List.mem_of_getElem? hq))

