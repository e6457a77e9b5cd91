/-! methods that write nothing: contracts over any arguments -/
def p_Q (Hh : Heap) (P : Option Value → Prop) : Array Value → State → Outcome → State → Prop := fun _ _ oc t => ∃ v : Option Value, oc = .returned v ∧ t.heap = Hh ∧ P v
abbrev pPre : Type := State → Heap → List Value → Prop
abbrev pPost : Type := State → Heap → List Value → Option Value → Prop
def p_Met (Tb Nb : List Cond) (M : xM) (Pre : pPre) (P : pPost) : Prop := ∀ (l : Launch) (U : State) (Hh : Heap) (av : List Value), Pre U Hh av →
  Met l M.1 (.code M.1 M.2.1 M.2.2.1 M.2.2.2.1 :: Tb) (x_rm M) (va_Pc av (fun S => S.heap = Hh ∧ U.WarmedH S.vm ∧ ∀ w ∈ Nb, va_Nw w S)) (p_Q Hh (P U Hh av)) (x_rm M).cells (x_rm M).slots (fun _ => False)
def p_cx (p : Program) (s : State) (m : MethodId) (args : Array Value) (c : Code) (U : State) (cc : ByteArray) (nL : Nat) (Tb Nb : List Cond) (own : String) : Prop :=
  p.tables.exec = Jvm.exec ∧ c.code = cc ∧ c.maxLocals = nL ∧ s.vm.findClass own = some m.cls ∧ (∀ w ∈ Tb, w.before args s = true) ∧ U.WarmedH s.vm ∧ (∀ w ∈ Nb, va_Nw w s) ∧ (∀ w ∈ Tb, goodWord w = true) ∧ ∀ w ∈ Nb, x_Nk w = true
section PU
variable {p : Program} {l : Launch} {e : Env} {R : Room} {s : State} {m : MethodId} {args : Array Value} {below : List Frame} {meth : Method} {c : Code} {Q : State → Prop}
variable {U : State} {nL : Nat} {cc : ByteArray} {Tb Nb : List Cond} {own : String} {M : xM} {Pre : pPre} {P : pPost} {idx n : Nat} {H : Heap} {locs : List Loc} {cells slots pc : Nat} {ls : Array Slot} {rest av : List Value}
theorem p_of {D : va_G} {cl : List vw_C} (X : x_cx p s m args c D U cc nL cl Tb Nb own) : p_cx p s m args c U cc nL Tb Nb own :=
  ⟨X.1, X.2.1, X.2.2.1, X.2.2.2.1, X.2.2.2.2.1, X.2.2.2.2.2.2.2.1, X.2.2.2.2.2.2.2.2.1, X.2.2.2.2.2.2.2.2.2.1, X.2.2.2.2.2.2.2.2.2.2⟩
theorem p_blind {Hh : Heap} (hN : ∀ w ∈ Nb, x_Nk w = true) : FrameBlind (va_Pc av (fun S => S.heap = Hh ∧ U.WarmedH S.vm ∧ ∀ w ∈ Nb, va_Nw w S)) := by
  intro a V g mk q
  obtain ⟨q0, q1, q2, q3⟩ := q
  exact ⟨q0, q1, q2, fun w hw => x_Nk_same (u := V) (hN w hw) rfl (q3 w hw)⟩
theorem p_pre (hN : ∀ w ∈ Nb, x_Nk w = true) (hNw : ∀ w ∈ Nb, va_Nw w s) (hU : U.WarmedH s.vm) : ∀ V : State, V.heap = H → s.WarmedH V.vm → va_Pc av (fun S => S.heap = H ∧ U.WarmedH S.vm ∧ ∀ w ∈ Nb, va_Nw w S) av.toArray V :=
  fun V hV hW => ⟨rfl, hV, State.WarmedH.trans hU hW, fun w hw => x_Nk_ok (hN w hw) hW (hNw w hw)⟩
theorem p_main (hy : plainName M.1.cls = true) (hlen : ∀ U Hh av, Pre U Hh av → (lg_sl av).length ≤ M.2.2.1) (hG : ∀ w ∈ Tb, goodWord w = true) (hNk : ∀ w ∈ Nb, x_Nk w = true)
    (body : ∀ (p : Program) (l : Launch) (e : Env) (s : State) (m : MethodId) (below : List Frame) (meth : Method) (c : Code) (U : State) (av : List Value) (ls : Array Slot), p_cx p s m av.toArray c U M.2.1 M.2.2.1 Tb Nb M.1.cls → meth.sig.returnType = M.2.2.2.1 → meth.locks = false → Pre U s.heap av → lv_has ls M.2.2.1 (lv_args 0 av) →
      W p l e (x_rm M) s m av.toArray below meth c s.heap [] 0 0 (MQ below (p_Q s.heap (P U s.heap av)) av.toArray s (x_rm M).cells (x_rm M).slots (fun _ => False)) (F0 m 0 ls [])) : p_Met Tb Nb M Pre P := by
  intro l U Hh av hP
  refine Met.ofW (cc := M.2.1) (maxL := M.2.2.1) (ret := M.2.2.2.1) hy rfl ?_
  intro p e s m args below meth c s₁ B hml hv
  obtain ⟨rfl, rfl, hU, hN⟩ := hv
  have hts0 := atoms_spec B.pre
  have hts : ∀ w ∈ Tb, w.before av.toArray s = true := fun w hw => hts0 w (List.mem_cons_of_mem _ hw)
  have hown : s.vm.findClass M.1.cls = some m.cls := findClass_of_methodNamed B.named
  have hlv := lv_entry av (n := M.2.2.1) (hlen _ _ _ hP)
  rw [lg_entry_eq]
  exact body p l e s m below meth c U av _ ⟨B.exec, B.bytes, hml, hown, hts, hU, hN, hG, hNk⟩ B.returns B.notSynchronized hP hlv
theorem p_row {mc ms : Nat} {Pv : Option Value → Prop} {g : JFrame} {av : List Value} (hmc : mc = 0) (hms : ms = 0) (hr : va_Run p l e R s m args below meth c H locs cells slots mc ms g rest (p_Q H Pv av.toArray) (fun _ => False))
    (kk : ∀ v : Option Value, Pv v → W p l e R s m args below meth c H locs cells slots Q { g with pc := g.pc + 3, stack := v.toList ++ rest }) : W p l e R s m args below meth c H locs cells slots Q g := by
  refine x_call_row hr fun v st₀ t L h0 hL hq => ?_
  obtain ⟨v', e0, e1, e2⟩ := hq
  cases e0
  have hl : L = [] := by
    cases L with
    | nil => rfl
    | cons a as => exact (hL a List.mem_cons_self).elim
  subst hl hmc hms
  rw [e1, List.append_nil]
  exact kk v e2
theorem p_runS (X : p_cx p s m args c U cc nL Tb Nb own) (hM : p_Met Tb Nb M Pre P) (hp : Pre U H av) (hz : (x_rm M).cells = 0 ∧ (x_rm M).slots = 0) (h : ∀ w ∈ [Cond.methodLink own idx M.1, .static M.1, .initialized M.1.cls], w ∈ Tb) (hc : Cond.code M.1 M.2.1 M.2.2.1 M.2.2.2.1 ∈ Tb)
    (hd : M.1.cls ≠ "java/lang/invoke/MethodHandle" ∧ M.1.cls ≠ "java/lang/invoke/VarHandle" ∧ (parseMethodDescriptor M.1.desc).map (fun d => d.parameters.length) = some n) (hR : (x_rm M).frames + 1 ≤ R.frames ∧ 8 + (M.2.2.1 + 11) + (x_rm M).locals ≤ R.locals)
    (hlen : av.length = n) (hls : ls.size = nL) (hrest : (rest.map fun v => v.category).sum ≤ 8) (hcl : cells ≤ R.cells) (hsl : slots ≤ R.slots) (hdec : decode cc pc = .ok (.invokestatic idx, 3))
    (kk : ∀ v : Option Value, P U H av v → W p l e R s m args below meth c H locs cells slots Q (F0 m (pc + 3) ls (v.toList ++ rest))) : W p l e R s m args below meth c H locs cells slots Q (F0 m pc ls (av.reverse ++ rest)) := by
  obtain ⟨hx, hb, hml, hown, hts, hU, hNw, hG, hN⟩ := X
  exact p_row (rest := rest) hz.1 hz.2 (va_runS (As := av) (rest := rest) (Ts := Tb) ⟨hx, hb, hml, hown, hts⟩ (hM l U H av hp) (va_cwS n hts (x_good hG h hc) rfl rfl rfl hd hR) ⟨p_blind hN, p_pre hN hNw hU⟩ rfl hlen hls rfl (lv_room hrest) hdec ⟨by rw [hz.1]; exact hcl, by rw [hz.2]; exact hsl⟩) kk
theorem p_runV {b : Nat} {As : List Value} (X : p_cx p s m args c U cc nL Tb Nb own) (hM : p_Met Tb Nb M Pre P) (hp : Pre U H (.ref b :: As)) (hz : (x_rm M).cells = 0 ∧ (x_rm M).slots = 0) (hrec : ∃ cellB : Cell, H[b]? = some cellB ∧ cellB.vm.isStatics = false ∧ s.vm.findClass M.1.cls = some cellB.cls)
    (h : ∀ w ∈ [Cond.methodLink own idx M.1, .instanceMethod M.1, .selects M.1.cls M.1 M.1, .initialized M.1.cls], w ∈ Tb) (hc : Cond.code M.1 M.2.1 M.2.2.1 M.2.2.2.1 ∈ Tb)
    (hd : M.1.cls ≠ "java/lang/invoke/MethodHandle" ∧ M.1.cls ≠ "java/lang/invoke/VarHandle" ∧ (parseMethodDescriptor M.1.desc).map (fun d => d.parameters.length) = some n) (hR : (x_rm M).frames + 1 ≤ R.frames ∧ 8 + (M.2.2.1 + 11) + (x_rm M).locals ≤ R.locals)
    (hlen : As.length = n) (hls : ls.size = nL) (hrest : (rest.map fun v => v.category).sum ≤ 8) (hcl : cells ≤ R.cells) (hsl : slots ≤ R.slots) (hdec : decode cc pc = .ok (.invokevirtual idx, 3))
    (kk : ∀ v : Option Value, P U H (.ref b :: As) v → W p l e R s m args below meth c H locs cells slots Q (F0 m (pc + 3) ls (v.toList ++ rest))) : W p l e R s m args below meth c H locs cells slots Q (F0 m pc ls (As.reverse ++ .ref b :: rest)) := by
  obtain ⟨hx, hb, hml, hown, hts, hU, hNw, hG, hN⟩ := X
  exact p_row (rest := rest) (av := .ref b :: As) hz.1 hz.2 (va_runV (As := As) (rest := rest) (Ts := Tb) (C := M.1.cls) ⟨hx, hb, hml, hown, hts⟩ (hM l U H (.ref b :: As) hp) (cwV n hts (x_good hG h hc) rfl rfl rfl ⟨rfl, hd⟩ hR) ⟨p_blind hN, hrec, p_pre hN hNw hU⟩ rfl hlen hls rfl (lv_room hrest) hdec ⟨by rw [hz.1]; exact hcl, by rw [hz.2]; exact hsl⟩) kk
theorem p_iret {v : Int32} {ty : FieldType} {Pv : Option Value → Prop} (hx : p.tables.exec = Jvm.exec) (hb : c.code = cc) (hr : meth.sig.returnType = some ty) (hn : narrow ty (.int v) = .int v) (hlk : meth.locks = false) (hP : Pv (some (.int v))) {cM sM : Nat} (hd : decode cc pc = .ok (.ireturn, 1)) :
    W p l e R s m args below meth c s.heap [] 0 0 (MQ below (p_Q s.heap Pv) args s cM sM (fun _ => False)) (F0 m pc ls [.int v]) :=
  W.widen (Nat.zero_le _) (Nat.zero_le _) (W.zret hx hb hr hn (fun t ht _ => ⟨_, rfl, ht, hP⟩) (fun q hq => by cases hq) hd hlk)
theorem p_vret {Pv : Option Value → Prop} (hx : p.tables.exec = Jvm.exec) (hb : c.code = cc) (hr : meth.sig.returnType = none) (hlk : meth.locks = false) (hP : Pv none) {cM sM : Nat} (hd : decode cc pc = .ok (.return_, 1)) :
    W p l e R s m args below meth c s.heap [] 0 0 (MQ below (p_Q s.heap Pv) args s cM sM (fun _ => False)) (F0 m pc ls []) :=
  W.widen (Nat.zero_le _) (Nat.zero_le _) (W.vret hx hb hr (fun t ht _ => ⟨_, rfl, ht, hP⟩) (fun q hq => by cases hq) hd hlk)
theorem p_aret {a : Nat} {C : String} {Pv : Option Value → Prop} (hx : p.tables.exec = Jvm.exec) (hb : c.code = cc) (hr : meth.sig.returnType = some (.object C)) (hlk : meth.locks = false) (hP : Pv (some (.ref a))) {cM sM : Nat} (hd : decode cc pc = .ok (.areturn, 1)) :
    W p l e R s m args below meth c s.heap [] 0 0 (MQ below (p_Q s.heap Pv) args s cM sM (fun _ => False)) (F0 m pc ls [.ref a]) :=
  W.widen (Nat.zero_le _) (Nat.zero_le _) (W.aret hx hb hr (Or.inl ⟨_, rfl⟩) (Or.inr ⟨_, rfl⟩) (fun t ht _ => ⟨_, rfl, ht, hP⟩) (fun q hq => by cases hq) hd hlk)
theorem p_gets {C nm d : String} {v : Value} {A : Nat → Prop} (hx : p.tables.exec = Jvm.exec) (hb : c.code = cc) (hown : s.vm.findClass own = some m.cls) (hl : (Cond.fieldLink own idx C nm d).before args s = true) (hZ : va_Z C nm d v A s H) (hd : decode cc pc = .ok (.getstatic idx, 3))
    (kk : W p l e R s m args below meth c H locs cells slots Q (F0 m (pc + 3) ls (v :: rest))) : W p l e R s m args below meth c H locs cells slots Q (F0 m pc ls rest) := by
  obtain ⟨cf, kf, fi, f, a, cell, g1, g2, g3, g4, g5, g6, g7, g8⟩ := hZ
  exact W.gets hx hb hown hl g1 g2 g3 g4 g5 (fun e => by rw [e] at g6; cases g6) g7 rfl hd kk
end PU
/-! the texts -/
def s_S (A : Nat → Prop) (U : State) (H : Heap) (q b n : Nat) (f : Nat → Int32) : Prop := va_O "java/lang/String" q A U H ∧ va_OF "java/lang/String" "coder" "B" (.int 0) q A U H ∧ va_OF "java/lang/String" "value" "[B" (.ref b) q A U H ∧ va_T .byte b n (fun j => .int (f j)) A U H ∧ va_Z "java/lang/String" "COMPACT_STRINGS" "Z" (.int 1) A U H ∧ ∃ v : Value, (v = .null ∨ ∃ a, v = .ref a) ∧ va_Z "jdk/internal/util/Preconditions" "SIOOBE_FORMATTER" "Ljava/util/function/BiFunction;" v A U H
theorem s_S.moved {A : Nat → Prop} {U s : State} {H : Heap} {q b n : Nat} {f : Nat → Int32} (hU : U.WarmedH s.vm) (h : s_S A U H q b n f) : s_S A s H q b n f := by
  obtain ⟨h1, h2, h3, h4, h5, v, h6, h7⟩ := h
  exact ⟨va_O.moved hU.alike h1, va_OF.moved hU.alike h2, va_OF.moved hU.alike h3, va_T.moved hU.alike h4, va_Z.moved hU.alike h5, v, h6, va_Z.moved hU.alike h7⟩

