section YXO
variable {p : Program} {l : Launch} {e : Env} {R : Room} {s : State} {m : MethodId} {args : Array Value} {below : List Frame} {meth : Method} {c : Code}
variable {D : va_G} {G : List xG} {Zs : List xZ} {U : State} {nL : Nat} {cc : ByteArray} {cl : List vw_C} {Tb Nb : List Cond} {own : String} {M : xM} {A : yA} {P : yP} {idx n : Nat}
theorem y_cokO {t ci : Nat} {fts : List xV} {q : vw_C} {x : MethodName} {b0 : ByteArray} {m0 : Nat} {r0 : Option FieldType} (X : x_cx p s m args c D U cc nL cl Tb Nb own) (hM : y_Met cl G Zs Tb Nb M A P) (hg : G[t]? = some (.inl (ci, fts))) (hq : cl[ci]? = some q) (hx0 : Cond.code ⟨x.cls, x.name, x.desc⟩ b0 m0 r0 ∈ Tb)
    (h : ∀ w ∈ [Cond.methodLink own idx x, .sameMethod x.cls x.cls x.name x.desc, .instanceMethod ⟨x.cls, x.name, x.desc⟩, .selects q.1 x M.1, .instanceMethod M.1, .initialized M.1.cls], w ∈ Tb) (hc : Cond.code M.1 M.2.1 M.2.2.1 M.2.2.2.1 ∈ Tb)
    (hd : x.cls ≠ "java/lang/invoke/MethodHandle" ∧ x.cls ≠ "java/lang/invoke/VarHandle" ∧ (parseMethodDescriptor x.desc).map (fun d => d.parameters.length) = some n) (hR : (x_rm M).frames + 1 ≤ R.frames ∧ 8 + (M.2.2.1 + 11) + (x_rm M).locals ≤ R.locals) :
    y_cok p l e R s m args below meth c D G Zs U nL cc (0, idx, n + 1, some t, M) A P := by
  intro H locs cells slots pc ls rest av Y hdec hls hrest hcl hsl hH hcs hlen hrt hA
  obtain ⟨hx, hb, hml, hown, hts, hK, hK0, hU, hNw, hG, hN⟩ := X
  obtain ⟨b, hb0, hbY⟩ := hrt t rfl
  cases hav : av with
  | nil => rw [hav] at hb0; cases hb0
  | cons v As =>
    rw [hav] at hb0 hcs hlen hA
    have hv : v = .ref b := by simpa using hb0
    subst hv
    have hM1 := hM l D U Y H.size (.ref b :: As) hK0 hcs
    rw [List.reverse_cons, List.append_assoc]
    exact va_runU (As := As) (rest := rest) (Ts := Tb) (C := q.1) (owner := x.cls) (x := x) ⟨hx, hb, hml, hown, hts⟩ hM1 (va_cwO n hts (x_good hG h hc) rfl rfl rfl hx0 hd hR) ⟨y_blind hN, x_recv hK hH hbY hg hq, y_pre hN hNw hU hH hA⟩ rfl (by simpa using hlen) hls rfl (lv_room hrest) hdec ⟨hcl, hsl⟩
theorem y_cokSUP {x : MethodName} {tg : List Nat} {ts : List xV} (X : x_cx p s m args c D U cc nL cl Tb Nb own) (hM : y_Met cl G Zs Tb Nb M A P) (hyx : M.1 = ⟨M.1.cls, x.name, x.desc⟩) (hargs : x_args M = .inr (.inr (false, tg)) :: ts)
    (htg : tg.all (fun t => match G[t]? with
      | some (.inl o) => (cl[o.1]?).isSome
      | _ => false) = true)
    (h : ∀ w ∈ [Cond.methodLink own idx x, .sameMethod x.cls M.1.cls x.name x.desc, .superclass own x.cls, .superclass x.cls M.1.cls, .instanceMethod M.1, .initialized M.1.cls], w ∈ Tb) (hc : Cond.code M.1 M.2.1 M.2.2.1 M.2.2.2.1 ∈ Tb)
    (hd : x.name ≠ "<init>" ∧ (parseMethodDescriptor M.1.desc).map (fun d => d.parameters.length) = some n) (hR : (x_rm M).frames + 1 ≤ R.frames ∧ 8 + (M.2.2.1 + 11) + (x_rm M).locals ≤ R.locals) :
    y_cok p l e R s m args below meth c D G Zs U nL cc (2, idx, n + 1, none, M) A P := by
  intro H locs cells slots pc ls rest av Y hdec hls hrest hcl hsl hH hcs hlen hrt hA
  obtain ⟨hx, hb, hml, hown, hts, hK, hK0, hU, hNw, hG, hN⟩ := X
  have hcs : x_cs Y (x_args M) av := hcs
  rw [hargs] at hcs
  have h00 := hcs
  obtain ⟨b, As, rfl⟩ := x_this hcs
  obtain ⟨b', t, e0, ht, hbY⟩ := x_ref_at (h00.2 0 (.inr (.inr (false, tg))) (.ref b) (by simp) (by simp)) rfl
  cases e0
  rw [← hargs] at hcs
  have hM1 := hM l D U Y H.size (.ref b :: As) hK0 hcs
  have hrec : ∃ (cell : Cell) (kB : Class), H[b]? = some cell ∧ cell.vm.isStatics = false ∧ s.vm.classes[cell.cls]? = some kB := by
    have h1 := List.all_eq_true.mp htg t ht
    split at h1
    · next o ho =>
      obtain ⟨q, hq⟩ := Option.isSome_iff_exists.mp h1
      obtain ⟨g, h2, h3⟩ := hH.1 b t hbY
      cases h2.symm.trans ho
      obtain ⟨V, ⟨cell, q1, q2, q3, -⟩, -⟩ := h3
      obtain ⟨-, kC, hkC, -⟩ := (hK.1 o.1 q hq).2
      exact ⟨cell, kC, q1, by rw [q3]; rfl, by rw [q2]; exact hkC⟩
    · cases h1
  obtain ⟨cellB, kB, hcB, hoB, hkB⟩ := hrec
  have hK1 : Back l R p e below s args M.1 3 8 (PreOf R (x_rm M).cells (x_rm M).slots (va_Pc (.ref b :: As) (fun S => S.heap.size = H.size ∧ U.WarmedH S.vm ∧ x_H D G Zs U Y S.heap ∧ (∀ w ∈ Nb, va_Nw w S) ∧ A D (.ref b :: As) Y S.heap))) (PostOf (y_Q D G Zs U M P (.ref b :: As) Y) (x_rm M).cells (x_rm M).slots (fun q => (∃ u, Y q = some u) ∨ H.size ≤ q)) :=
    back_of (bytes := M.2.1) (maxL := M.2.2.1) (ret := M.2.2.2.1) hM1 (y_blind hN) rfl rfl hR.1 hR.2 (pay_in hts (x_good (ws := []) hG (fun w hw => by cases hw) hc)) List.mem_cons_self (fun a' V hW => word_at hW (Or.inl (by first | rfl | simp [Cond.onTables, Cond.keeps, Cond.steady])) (hts _ (h _ (by simp))))
  intro T hT XS
  obtain ⟨mk, methM, hnamed, hmethM, hstM, habM⟩ := Cond.instanceMethod_spec (hts _ (h (Cond.instanceMethod M.1) (by simp)))
  obtain ⟨methM', cM, hmethM', -, -, -, -, -, -, hsigM⟩ := Cond.code_spec hnamed (hts _ hc)
  cases hmethM.symm.trans hmethM'
  obtain ⟨ps, dk, kp, hps, hdk, hkp, hsuper, -, -, hnid⟩ := Cond.superclass_spec hown (hts _ (h (Cond.superclass own x.cls) (by simp)))
  obtain ⟨ps2, dk2, kp2, hps2, hdk2, hkp2, hsuper2, -, -, -⟩ := Cond.superclass_spec hps (hts _ (h (Cond.superclass x.cls M.1.cls) (by simp)))
  have hn : s.methodNamed? ⟨M.1.cls, x.name, x.desc⟩ = some mk := by rw [← hyx]; exact hnamed
  have hpm : ps2 = mk.cls := Option.some.inj (hps2.symm.trans (findClass_of_methodNamed hnamed))
  have hsub : s.vm.isSubclass ps mk.cls = true := by
    rw [← hpm]
    exact x_sub1 hdk2 hsuper2
  have hsz : (F0 m pc ls ((Value.ref b :: As).reverse ++ rest)).locals.size = c.maxLocals := by rw [hml]; exact hls
  have hlenA : As.length = n := by simpa using hlen
  have hsl2 : ∀ sig, parseMethodDescriptor M.1.desc = some sig → As.length = sig.parameters.length := fun sig hsig => by
    have h2 := hd.2
    rw [hsig] at h2
    rw [hlenA]
    exact (Option.some.inj h2).symm
  obtain ⟨vm₁, X₁, hstep₁⟩ := XS.invokespecialUp hx hown (hts _ (h (Cond.methodLink own idx x) (by simp))) (hts _ (h (Cond.sameMethod x.cls M.1.cls x.name x.desc) (by simp))) hn hmethM hstM habM hd.1 hdk hnid hps hsuper hsub (a := b) (cell := cellB) (by rw [hT]; exact hcB)
    (fun z hz => by rw [hz] at hoB; cases hoB) hkB (g := F0 m pc ls ((Value.ref b :: As).reverse ++ rest)) rfl (argsL := As) (rest := rest) (hsl2 _ hsigM) (by show (Value.ref b :: As).reverse ++ rest = _; rw [List.reverse_cons, List.append_assoc]; rfl) (by rw [hb]; exact hdec)
  obtain ⟨v, ⟨U', l2, c2, s2⟩, X', ⟨g', mk', t', L, e1, e2, hq, h1, hL, h2, h3⟩, hsteps⟩ := hK1 m meth c ⟨T.setVm vm₁, locs, cells, slots⟩ { F0 m pc ls ((Value.ref b :: As).reverse ++ rest) with stack := rest } (.invokespecial idx) mk (Value.ref b :: As).toArray X₁ rfl hsz (by rw [hb]; exact hdec) (lv_room hrest) (X₁.named hnamed) ⟨hcl, hsl, y_pre hN hNw hU hH hA (T.setVm vm₁) hT X₁.warmed⟩
  dsimp only [Pt.U, Pt.locs, Pt.cells, Pt.slots] at X' e1 e2 h1 h2 h3 hsteps
  subst h1; subst h2; subst h3
  exact ⟨v, (T.setVm vm₁).calling g' mk' (Value.ref b :: As).toArray, t', U', L, hT, X', hL, e1, e2, hq, fun target ht => hstep₁ _ (by rw [doInvoke_state]; exact hsteps.trans ht)⟩
def z_Pmin : yP := fun _ av _ _ v _ _ => ∀ a b : Int32, av = [.int a, .int b] → v = some (.int (if b < a then b else a))
def z_Pmax : yP := fun _ av _ _ v _ _ => ∀ a b : Int32, av = [.int a, .int b] → v = some (.int (if a < b then b else a))
def z_Pabs : yP := fun _ av _ _ v _ _ => ∀ a : Int32, av = [.int a] → v = some (.int (if 0 ≤ a then a else 0 - a))
theorem y_pure {t : xV} {Y : xY} {H : Heap} {av : List Value} {v : Value} {T : State} {vm' : Vm} (hT : T.heap = H) (hH : x_H D G Zs U Y H) (ho : x_outs M = [(x_args M, some t)]) (hr : x_rt M = none) (he : x_efs M = []) (hv : x_c Y t v) (hcs : x_cs Y (x_args M) av) (hp : P D av Y T.heap (some v) Y T.heap) : y_Q D G Zs U M P av Y av.toArray T (.returned (some v)) (T.setVm vm') := by
  refine ⟨some v, Y, (x_args M, some t), rfl, by rw [ho]; exact List.mem_cons_self, ⟨v, rfl, hv⟩, hcs, ?_, ?_, ?_, ?_, hp⟩
  · show x_H D G Zs U Y T.heap
    rw [hT]; exact hH
  · rw [hr]; exact fun q _ => rfl
  · exact x_E.rf
  · exact ⟨Nat.le_refl _, fun q _ _ => rfl⟩
theorem y_cokMin (X : x_cx p s m args c D U cc nL cl Tb Nb own) {cw : ByteArray} (hcw : cw = Lib.Math.min.code) (h : ∀ w ∈ [Cond.methodLink own idx Lib.Math.min.name, .static Lib.Math.min.name, .initialized "java/lang/Math", .code Lib.Math.min.name cw 2 (some .int)], w ∈ Tb) (hR : 1 ≤ R.frames ∧ 21 ≤ R.locals) :
    y_cok p l e R s m args below meth c D G Zs U nL cc (1, idx, 2, none, xMm2 Lib.Math.min.name cw) y_T z_Pmin := by
  subst hcw
  intro H locs cells slots pc ls rest av Y hdec hls hrest hcl hsl hH hcs hlen hrt _ T hT X'
  obtain ⟨hx, hb, hml, hown, hts, -⟩ := X
  obtain ⟨v, w, rfl, ⟨x, rfl, -⟩, ⟨y, rfl, -⟩⟩ := x_two hcs
  obtain ⟨vm', X2, st⟩ := X'.mathMinV hx hown (hts _ (h _ List.mem_cons_self)) (hts _ (h _ (List.mem_cons_of_mem _ List.mem_cons_self))) (hts _ (h _ (List.mem_cons_of_mem _ (List.mem_cons_of_mem _ List.mem_cons_self)))) (hts _ (h _ (List.mem_cons_of_mem _ (List.mem_cons_of_mem _ (List.mem_cons_of_mem _ List.mem_cons_self))))) (g := F0 m pc ls (.int y :: .int x :: rest)) rfl (by rw [hml]; exact hls) (a := x) (b := y) (rest := rest) rfl (by rw [hb]; exact hdec) hR.1 (by show 2 * 0 + _ + 13 ≤ _; omega) hcl hsl
  exact ⟨some (.int _), T, T.setVm vm', T.setVm vm', [], hT, by rw [List.append_nil]; exact X2, fun q hq => (by cases hq), rfl, rfl, y_pure hT hH rfl rfl rfl ⟨_, rfl, x_i32 _⟩ hcs (fun _ _ h1 => by cases h1; rfl), st⟩
theorem y_cokMax (X : x_cx p s m args c D U cc nL cl Tb Nb own) {cw : ByteArray} (hcw : cw = Lib.Math.max.code) (h : ∀ w ∈ [Cond.methodLink own idx Lib.Math.max.name, .static Lib.Math.max.name, .initialized "java/lang/Math", .code Lib.Math.max.name cw 2 (some .int)], w ∈ Tb) (hR : 1 ≤ R.frames ∧ 21 ≤ R.locals) :
    y_cok p l e R s m args below meth c D G Zs U nL cc (1, idx, 2, none, xMm2 Lib.Math.max.name cw) y_T z_Pmax := by
  subst hcw
  intro H locs cells slots pc ls rest av Y hdec hls hrest hcl hsl hH hcs hlen hrt _ T hT X'
  obtain ⟨hx, hb, hml, hown, hts, -⟩ := X
  obtain ⟨v, w, rfl, ⟨x, rfl, -⟩, ⟨y, rfl, -⟩⟩ := x_two hcs
  obtain ⟨vm', X2, st⟩ := va_mathMaxV X' hx hown (hts _ (h _ List.mem_cons_self)) (hts _ (h _ (List.mem_cons_of_mem _ List.mem_cons_self))) (hts _ (h _ (List.mem_cons_of_mem _ (List.mem_cons_of_mem _ List.mem_cons_self)))) (hts _ (h _ (List.mem_cons_of_mem _ (List.mem_cons_of_mem _ (List.mem_cons_of_mem _ List.mem_cons_self))))) (g := F0 m pc ls (.int y :: .int x :: rest)) rfl (by rw [hml]; exact hls) (a := x) (b := y) (rest := rest) rfl (by rw [hb]; exact hdec) hR.1 (by show 2 * 0 + _ + 13 ≤ _; omega) hcl hsl
  exact ⟨some (.int _), T, T.setVm vm', T.setVm vm', [], hT, by rw [List.append_nil]; exact X2, fun q hq => (by cases hq), rfl, rfl, y_pure hT hH rfl rfl rfl ⟨_, rfl, x_i32 _⟩ hcs (fun _ _ h1 => by cases h1; rfl), st⟩
theorem y_cokAbs (X : x_cx p s m args c D U cc nL cl Tb Nb own) {cw : ByteArray} (hcw : cw = Lib.Math.abs.code) (h : ∀ w ∈ [Cond.methodLink own idx Lib.Math.abs.name, .static Lib.Math.abs.name, .initialized "java/lang/Math", .code Lib.Math.abs.name cw 1 (some .int)], w ∈ Tb) (hR : 1 ≤ R.frames ∧ 21 ≤ R.locals) :
    y_cok p l e R s m args below meth c D G Zs U nL cc (1, idx, 1, none, xMm1 Lib.Math.abs.name cw) y_T z_Pabs := by
  subst hcw
  intro H locs cells slots pc ls rest av Y hdec hls hrest hcl hsl hH hcs hlen hrt _ T hT X'
  obtain ⟨hx, hb, hml, hown, hts, -⟩ := X
  obtain ⟨v, rfl, ⟨x, rfl, -⟩⟩ := x_one hcs
  obtain ⟨vm', X2, st⟩ := va_mathAbsV X' hx hown (hts _ (h _ List.mem_cons_self)) (hts _ (h _ (List.mem_cons_of_mem _ List.mem_cons_self))) (hts _ (h _ (List.mem_cons_of_mem _ (List.mem_cons_of_mem _ List.mem_cons_self)))) (hts _ (h _ (List.mem_cons_of_mem _ (List.mem_cons_of_mem _ (List.mem_cons_of_mem _ List.mem_cons_self))))) (g := F0 m pc ls (.int x :: rest)) rfl (by rw [hml]; exact hls) (a := x) (rest := rest) rfl (by rw [hb]; exact hdec) hR.1 (by show 2 * 0 + _ + 13 ≤ _; omega) hcl hsl
  exact ⟨some (.int _), T, T.setVm vm', T.setVm vm', [], hT, by rw [List.append_nil]; exact X2, fun q hq => (by cases hq), rfl, rfl, y_pure hT hH rfl rfl rfl ⟨_, rfl, x_i32 _⟩ hcs (fun _ h1 => by cases h1; rfl), st⟩
end YXO
