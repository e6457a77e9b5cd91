/-! CALLS OF EACH KIND, by a callee's contract -/
def x_Nk : Cond → Bool
  | .methodLinkNest .. => true
  | .fieldLinkNest .. => true
  | .castable .. => true
  | .declares .. => true
  | .arrayOver (.object _) => true
  | _ => false
theorem x_Nk_ok {w : Cond} {s U : State} (h : x_Nk w = true) (hW : s.WarmedH U.vm) (hZ : va_Nw w s) : va_Nw w U := by
  unfold x_Nk at h
  split at h
  · exact hZ.warmM hW
  · exact hZ.warmF hW
  · exact hZ.warmC hW
  · exact hZ.warmD hW
  · exact va_AO.moved hW.alike hZ
  · cases h
theorem x_Nk_same {w : Cond} {u U : State} (h : x_Nk w = true) (hv : u.vm = U.vm) (hZ : va_Nw w u) : va_Nw w U := by
  unfold x_Nk at h
  split at h
  · exact hZ.same rfl hv
  · exact hZ.same rfl hv
  · exact hZ.same rfl hv
  · exact hZ.same rfl hv
  · refine va_AO.moved ?_ hZ
    rw [hv]; exact Vm.Alike.refl _
  · cases h
section XQ
variable {p : Program} {l : Launch} {e : Env} {R : Room} {s : State} {m : MethodId} {args : Array Value} {below : List Frame} {meth : Method} {c : Code}
variable {D : va_G} {G : List xG} {Zs : List xZ} {U : State} {nL : Nat} {cc : ByteArray} {cl : List vw_C} {Tb Nb : List Cond} {own : String} {M : xM} {idx n : Nat}
theorem x_good {ws : List Cond} (hG : ∀ w ∈ Tb, goodWord w = true) (h : ∀ w ∈ ws, w ∈ Tb) (hc : Cond.code M.1 M.2.1 M.2.2.1 M.2.2.2.1 ∈ Tb) : GoodIn Tb (ws ++ (.code M.1 M.2.1 M.2.2.1 M.2.2.2.1 :: Tb)) := by
  intro w hw
  have hm : w ∈ Tb := by
    rcases List.mem_append.mp hw with q | q
    · exact h w q
    · rcases List.mem_cons.mp q with q | q
      · rw [q]; exact hc
      · exact q
  exact ⟨hm, good_of_word (hG w hm)⟩
theorem x_blind {av : List Value} {Y : xY} {sz : Nat} (hN : ∀ w ∈ Nb, x_Nk w = true) : FrameBlind (va_Pc av (fun S => S.heap.size = sz ∧ U.WarmedH S.vm ∧ x_H D G Zs U Y S.heap ∧ ∀ w ∈ Nb, va_Nw w S)) := by
  intro a V g mk q
  obtain ⟨q0, q1, q2, q3, q4⟩ := q
  exact ⟨q0, q1, q2, q3, fun w hw => x_Nk_same (u := V) (hN w hw) rfl (q4 w hw)⟩
theorem x_pre {av : List Value} {Y : xY} {H : Heap} (hN : ∀ w ∈ Nb, x_Nk w = true) (hNw : ∀ w ∈ Nb, va_Nw w s) (hU : U.WarmedH s.vm) (hH : x_H D G Zs U Y H) : ∀ V : State, V.heap = H → s.WarmedH V.vm → va_Pc av (fun S => S.heap.size = H.size ∧ U.WarmedH S.vm ∧ x_H D G Zs U Y S.heap ∧ ∀ w ∈ Nb, va_Nw w S) av.toArray V :=
  fun V hV hW => ⟨rfl, by rw [hV], State.WarmedH.trans hU hW, by rw [hV]; exact hH, fun w hw => x_Nk_ok (hN w hw) hW (hNw w hw)⟩
variable (p l e s m args below meth c D U) in
/-- what holds inside a method's body -/
def x_cx (cc : ByteArray) (nL : Nat) (cl : List vw_C) (Tb Nb : List Cond) (own : String) : Prop := p.tables.exec = Jvm.exec ∧ c.code = cc ∧ c.maxLocals = nL ∧ s.vm.findClass own = some m.cls ∧ (∀ w ∈ Tb, w.before args s = true) ∧ va_K D cl [] s ∧ va_K D cl [] U ∧ U.WarmedH s.vm ∧ (∀ w ∈ Nb, va_Nw w s) ∧ (∀ w ∈ Tb, goodWord w = true) ∧ ∀ w ∈ Nb, x_Nk w = true
theorem x_cokS (X : x_cx p s m args c D U cc nL cl Tb Nb own) (hM : x_Met cl G Zs Tb Nb M) (h : ∀ w ∈ [Cond.methodLink own idx M.1, .static M.1, .initialized M.1.cls], w ∈ Tb) (hc : Cond.code M.1 M.2.1 M.2.2.1 M.2.2.2.1 ∈ Tb)
    (hd : M.1.cls ≠ "java/lang/invoke/MethodHandle" ∧ M.1.cls ≠ "java/lang/invoke/VarHandle" ∧ (parseMethodDescriptor M.1.desc).map (fun d => d.parameters.length) = some n) (hR : (x_rm M).frames + 1 ≤ R.frames ∧ 8 + (M.2.2.1 + 11) + (x_rm M).locals ≤ R.locals) :
    x_cok p l e R s m args below meth c D G Zs U nL cc (1, idx, n, none, M) := by
  intro H locs cells slots pc ls rest av Y hdec hls hrest hcl hsl hH hcs hlen hrt
  obtain ⟨hx, hb, hml, hown, hts, hK, hK0, hU, hNw, hG, hN⟩ := X
  exact va_runS (As := av) (rest := rest) (Ts := Tb) ⟨hx, hb, hml, hown, hts⟩ (hM l D U Y H.size av hK0 hcs) (va_cwS n hts (x_good hG h hc) rfl rfl rfl hd hR) ⟨x_blind hN, x_pre hN hNw hU hH⟩ rfl hlen hls rfl (lv_room hrest) hdec ⟨hcl, hsl⟩
theorem x_cokSN {host : String} (X : x_cx p s m args c D U cc nL cl Tb Nb own) (hM : x_Met cl G Zs Tb Nb M) (h : ∀ w ∈ [Cond.static M.1, .initialized M.1.cls], w ∈ Tb) (hl : Cond.methodLinkNest own idx M.1 host ∈ Nb) (hc : Cond.code M.1 M.2.1 M.2.2.1 M.2.2.2.1 ∈ Tb)
    (hd : M.1.cls ≠ "java/lang/invoke/MethodHandle" ∧ M.1.cls ≠ "java/lang/invoke/VarHandle" ∧ (parseMethodDescriptor M.1.desc).map (fun d => d.parameters.length) = some n) (hR : (x_rm M).frames + 1 ≤ R.frames ∧ 8 + (M.2.2.1 + 11) + (x_rm M).locals ≤ R.locals) :
    x_cok p l e R s m args below meth c D G Zs U nL cc (1, idx, n, none, M) := by
  intro H locs cells slots pc ls rest av Y hdec hls hrest hcl hsl hH hcs hlen hrt
  obtain ⟨hx, hb, hml, hown, hts, hK, hK0, hU, hNw, hG, hN⟩ := X
  exact va_runSN (As := av) (rest := rest) (Ts := Tb) (host := host) ⟨hx, hb, hml, hown, hts⟩ (hM l D U Y H.size av hK0 hcs) ⟨va_cnB n hts (x_good (ws := []) hG (fun w hw => by cases hw) hc) rfl rfl rfl (hNw _ hl) (hts _ (h _ (by simp))) hd hR, hts _ (h _ (by simp)), trivial⟩ ⟨x_blind hN, x_pre hN hNw hU hH⟩ rfl hlen hls rfl (lv_room hrest) hdec ⟨hcl, hsl⟩
theorem x_recv {Y : xY} {H : Heap} (hK : va_K D cl [] s) (hH : x_H D G Zs U Y H) {b t ci : Nat} {fts : List xV} {q : vw_C} (hY : Y b = some t) (hg : G[t]? = some (.inl (ci, fts))) (hq : cl[ci]? = some q) : ∃ cell : Cell, H[b]? = some cell ∧ cell.vm.isStatics = false ∧ s.vm.findClass q.1 = some cell.cls := by
  obtain ⟨g, h1, h2⟩ := hH.1 b t hY
  cases h1.symm.trans hg
  obtain ⟨V, ⟨cell, q1, q2, q3, -⟩, -⟩ := h2
  exact ⟨cell, q1, by rw [q3]; rfl, by rw [q2]; exact (hK.1 ci q hq).2.1⟩
theorem x_cokV {t ci : Nat} {fts : List xV} {q : vw_C} (X : x_cx p s m args c D U cc nL cl Tb Nb own) (hM : x_Met cl G Zs Tb Nb M) (hg : G[t]? = some (.inl (ci, fts))) (hq : cl[ci]? = some q) (hC : M.1.cls = q.1)
    (h : ∀ w ∈ [Cond.methodLink own idx M.1, .instanceMethod M.1, .selects q.1 M.1 M.1, .initialized q.1], w ∈ Tb) (hc : Cond.code M.1 M.2.1 M.2.2.1 M.2.2.2.1 ∈ Tb)
    (hd : M.1.cls ≠ "java/lang/invoke/MethodHandle" ∧ M.1.cls ≠ "java/lang/invoke/VarHandle" ∧ (parseMethodDescriptor M.1.desc).map (fun d => d.parameters.length) = some n) (hR : (x_rm M).frames + 1 ≤ R.frames ∧ 8 + (M.2.2.1 + 11) + (x_rm M).locals ≤ R.locals) :
    x_cok p l e R s m args below meth c D G Zs U nL cc (0, idx, n + 1, some t, M) := by
  intro H locs cells slots pc ls rest av Y hdec hls hrest hcl hsl hH hcs hlen hrt
  obtain ⟨hx, hb, hml, hown, hts, hK, hK0, hU, hNw, hG, hN⟩ := X
  obtain ⟨b, hb0, hbY⟩ := hrt t rfl
  cases hav : av with
  | nil => rw [hav] at hb0; cases hb0
  | cons v As =>
    rw [hav] at hb0 hcs hlen
    have hv : v = .ref b := by simpa using hb0
    subst hv
    have hM1 := hM l D U Y H.size (.ref b :: As) hK0 hcs
    rw [List.reverse_cons, List.append_assoc]
    exact va_runV (As := As) (rest := rest) (Ts := Tb) (C := q.1) ⟨hx, hb, hml, hown, hts⟩ hM1 (cwV n hts (x_good hG h hc) rfl rfl rfl ⟨hC, hd⟩ hR) ⟨x_blind hN, x_recv hK hH hbY hg hq, x_pre hN hNw hU hH⟩ rfl (by simpa using hlen) hls rfl (lv_room hrest) hdec ⟨hcl, hsl⟩
theorem x_cokIN {host : String} (X : x_cx p s m args c D U cc nL cl Tb Nb own) (hM : x_Met cl G Zs Tb Nb M) (hret : M.2.2.2.1 = none) (h : ∀ w ∈ [Cond.instanceMethod M.1, .initialized M.1.cls], w ∈ Tb) (hl : Cond.methodLinkNest own idx M.1 host ∈ Nb) (hc : Cond.code M.1 M.2.1 M.2.2.1 M.2.2.2.1 ∈ Tb) (hi : M.1.name = "<init>")
    (h0 : ∀ (Y : xY) (av : List Value), x_cs Y (x_args M) av → ∃ (b : Nat) (As : List Value), av = .ref b :: As)
    (hd : M.1.cls ≠ "java/lang/invoke/MethodHandle" ∧ M.1.cls ≠ "java/lang/invoke/VarHandle" ∧ (parseMethodDescriptor M.1.desc).map (fun d => d.parameters.length) = some n) (hR : (x_rm M).frames + 1 ≤ R.frames ∧ 8 + (M.2.2.1 + 11) + (x_rm M).locals ≤ R.locals) :
    x_cok p l e R s m args below meth c D G Zs U nL cc (2, idx, n + 1, none, M) := by
  intro H locs cells slots pc ls rest av Y hdec hls hrest hcl hsl hH hcs hlen hrt
  obtain ⟨hx, hb, hml, hown, hts, hK, hK0, hU, hNw, hG, hN⟩ := X
  obtain ⟨b, As, rfl⟩ := h0 Y av hcs
  have hM1 := hM l D U Y H.size (.ref b :: As) hK0 hcs
  rw [hret] at hM1 hc
  rw [List.reverse_cons, List.append_assoc]
  have hg : GoodIn Tb (Cond.code M.1 M.2.1 M.2.2.1 none :: Tb) := fun w hw => by
    have hm : w ∈ Tb := by
      rcases List.mem_cons.mp hw with q | q
      · rw [q]; exact hc
      · exact q
    exact ⟨hm, good_of_word (hG w hm)⟩
  exact va_runIN (As := As) (rest := rest) (Ts := Tb) (host := host) ⟨hx, hb, hml, hown, hts⟩ hM1 ⟨va_cnB n hts hg rfl rfl rfl (hNw _ hl) (hts _ (h _ (by simp))) hd hR, hi, hts _ (h _ (by simp))⟩ ⟨x_blind hN, x_pre hN hNw hU hH⟩ rfl (by simpa using hlen) hls rfl (lv_room hrest) hdec ⟨hcl, hsl⟩
theorem x_this {Y : xY} {ts : List xV} {av : List Value} {tg : List Nat} (h : x_cs Y (.inr (.inr (false, tg)) :: ts) av) : ∃ (b : Nat) (As : List Value), av = .ref b :: As := by
  cases av with
  | nil => exact absurd h.1 (by simp)
  | cons v As =>
    have h0 := h.2 0 (.inr (.inr (false, tg))) v (by simp) (by simp)
    obtain ⟨b, t, e0, -⟩ := x_ref_at h0 rfl
    exact ⟨b, As, by rw [e0]⟩
end XQ
