/-! Math's min, max and abs: the library's own contracts, as calls of ours -/
section XMT
variable {p : Program} {l : Launch} {e : Env} {R : Room} {s : State} {m : MethodId} {args : Array Value} {below : List Frame} {meth : Method} {c : Code}
variable {D : va_G} {G : List xG} {Zs : List xZ} {U : State} {nL : Nat} {cc : ByteArray} {cl : List vw_C} {Tb Nb : List Cond} {own : String} {idx : Nat}
theorem x_i32 (x : Int32) : -2147483648 ≤ x.toInt ∧ x.toInt ≤ 2147483647 := by
  have h1 := Int32.le_toInt x
  have h2 := Int32.toInt_lt x
  omega
theorem x_i64 (x : Int64) : -9223372036854775808 ≤ x.toInt ∧ x.toInt ≤ 9223372036854775807 := by
  have h1 := Int64.le_toInt x
  have h2 := Int64.toInt_lt x
  omega
def xMm2 (y : MethodName) (cw : ByteArray) : xM := (y, cw, 2, some .int, [.inl (-2147483648, 2147483647), .inl (-2147483648, 2147483647)], [([.inl (-2147483648, 2147483647), .inl (-2147483648, 2147483647)], some (.inl (-2147483648, 2147483647)))], [], (0, 1, 0, 0), none)
def xMm1 (y : MethodName) (cw : ByteArray) : xM := (y, cw, 1, some .int, [.inl (-2147483648, 2147483647)], [([.inl (-2147483648, 2147483647)], some (.inl (-2147483648, 2147483647)))], [], (0, 1, 0, 0), none)
def xMm1L (y : MethodName) (cw : ByteArray) : xM := (y, cw, 2, some .long, [.inr (.inl (-9223372036854775808, 9223372036854775807))], [([.inr (.inl (-9223372036854775808, 9223372036854775807))], some (.inr (.inl (-9223372036854775808, 9223372036854775807))))], [], (0, 1, 0, 0), none)
theorem x_pure {t : xV} {M : xM} {Y : xY} {H : Heap} {av : List Value} {v : Value} {T : State} {vm' : Vm} (hT : T.heap = H) (hH : x_H D G Zs U Y H) (ho : x_outs M = [(x_args M, some t)]) (hr : x_rt M = none) (he : x_efs M = []) (hv : x_c Y t v) (hcs : x_cs Y (x_args M) av) : x_Q D G Zs U M av Y av.toArray T (.returned (some v)) (T.setVm vm') := by
  refine ⟨some v, Y, (x_args M, some t), rfl, by rw [ho]; exact List.mem_cons_self, ⟨v, rfl, hv⟩, hcs, ?_, ?_, ?_, ?_⟩
  · show x_H D G Zs U Y T.heap
    rw [hT]; exact hH
  · rw [hr]; exact fun q _ => rfl
  · exact x_E.rf
  · exact ⟨Nat.le_refl _, fun q _ _ => rfl⟩
theorem x_two {Y : xY} {t u : xV} {av : List Value} (h : x_cs Y [t, u] av) : ∃ v w, av = [v, w] ∧ x_c Y t v ∧ x_c Y u w := by
  obtain ⟨h1, h2⟩ := h
  match av, h1 with
  | [v, w], _ => exact ⟨v, w, rfl, h2 0 t v rfl rfl, h2 1 u w rfl rfl⟩
theorem x_one {Y : xY} {t : xV} {av : List Value} (h : x_cs Y [t] av) : ∃ v, av = [v] ∧ x_c Y t v := by
  obtain ⟨h1, h2⟩ := h
  match av, h1 with
  | [v], _ => exact ⟨v, rfl, h2 0 t v rfl rfl⟩
theorem x_cokMin (X : x_cx p s m args c D U cc nL cl Tb Nb own) {cw : ByteArray} (hcw : cw = Lib.Math.min.code) (h : ∀ w ∈ [Cond.methodLink own idx Lib.Math.min.name, .static Lib.Math.min.name, .initialized "java/lang/Math", .code Lib.Math.min.name cw 2 (some .int)], w ∈ Tb) (hR : 1 ≤ R.frames ∧ 21 ≤ R.locals) :
    x_cok p l e R s m args below meth c D G Zs U nL cc (1, idx, 2, none, xMm2 Lib.Math.min.name cw) := by
  subst hcw
  intro H locs cells slots pc ls rest av Y hdec hls hrest hcl hsl hH hcs hlen hrt T hT X'
  obtain ⟨hx, hb, hml, hown, hts, -⟩ := X
  obtain ⟨v, w, rfl, ⟨x, rfl, -⟩, ⟨y, rfl, -⟩⟩ := x_two hcs
  obtain ⟨vm', X2, st⟩ := X'.mathMinV hx hown (hts _ (h _ List.mem_cons_self)) (hts _ (h _ (List.mem_cons_of_mem _ List.mem_cons_self))) (hts _ (h _ (List.mem_cons_of_mem _ (List.mem_cons_of_mem _ List.mem_cons_self)))) (hts _ (h _ (List.mem_cons_of_mem _ (List.mem_cons_of_mem _ (List.mem_cons_of_mem _ List.mem_cons_self))))) (g := F0 m pc ls (.int y :: .int x :: rest)) rfl (by rw [hml]; exact hls) (a := x) (b := y) (rest := rest) rfl (by rw [hb]; exact hdec) hR.1 (by show 2 * 0 + _ + 13 ≤ _; omega) hcl hsl
  exact ⟨some (.int _), T, T.setVm vm', T.setVm vm', [], hT, by rw [List.append_nil]; exact X2, fun q hq => (by cases hq), rfl, rfl, x_pure hT hH rfl rfl rfl ⟨_, rfl, x_i32 _⟩ hcs, st⟩
theorem x_cokMax (X : x_cx p s m args c D U cc nL cl Tb Nb own) {cw : ByteArray} (hcw : cw = Lib.Math.max.code) (h : ∀ w ∈ [Cond.methodLink own idx Lib.Math.max.name, .static Lib.Math.max.name, .initialized "java/lang/Math", .code Lib.Math.max.name cw 2 (some .int)], w ∈ Tb) (hR : 1 ≤ R.frames ∧ 21 ≤ R.locals) :
    x_cok p l e R s m args below meth c D G Zs U nL cc (1, idx, 2, none, xMm2 Lib.Math.max.name cw) := by
  subst hcw
  intro H locs cells slots pc ls rest av Y hdec hls hrest hcl hsl hH hcs hlen hrt T hT X'
  obtain ⟨hx, hb, hml, hown, hts, -⟩ := X
  obtain ⟨v, w, rfl, ⟨x, rfl, -⟩, ⟨y, rfl, -⟩⟩ := x_two hcs
  obtain ⟨vm', X2, st⟩ := va_mathMaxV X' hx hown (hts _ (h _ List.mem_cons_self)) (hts _ (h _ (List.mem_cons_of_mem _ List.mem_cons_self))) (hts _ (h _ (List.mem_cons_of_mem _ (List.mem_cons_of_mem _ List.mem_cons_self)))) (hts _ (h _ (List.mem_cons_of_mem _ (List.mem_cons_of_mem _ (List.mem_cons_of_mem _ List.mem_cons_self))))) (g := F0 m pc ls (.int y :: .int x :: rest)) rfl (by rw [hml]; exact hls) (a := x) (b := y) (rest := rest) rfl (by rw [hb]; exact hdec) hR.1 (by show 2 * 0 + _ + 13 ≤ _; omega) hcl hsl
  exact ⟨some (.int _), T, T.setVm vm', T.setVm vm', [], hT, by rw [List.append_nil]; exact X2, fun q hq => (by cases hq), rfl, rfl, x_pure hT hH rfl rfl rfl ⟨_, rfl, x_i32 _⟩ hcs, st⟩
theorem x_cokAbs (X : x_cx p s m args c D U cc nL cl Tb Nb own) {cw : ByteArray} (hcw : cw = Lib.Math.abs.code) (h : ∀ w ∈ [Cond.methodLink own idx Lib.Math.abs.name, .static Lib.Math.abs.name, .initialized "java/lang/Math", .code Lib.Math.abs.name cw 1 (some .int)], w ∈ Tb) (hR : 1 ≤ R.frames ∧ 21 ≤ R.locals) :
    x_cok p l e R s m args below meth c D G Zs U nL cc (1, idx, 1, none, xMm1 Lib.Math.abs.name cw) := by
  subst hcw
  intro H locs cells slots pc ls rest av Y hdec hls hrest hcl hsl hH hcs hlen hrt T hT X'
  obtain ⟨hx, hb, hml, hown, hts, -⟩ := X
  obtain ⟨v, rfl, ⟨x, rfl, -⟩⟩ := x_one hcs
  obtain ⟨vm', X2, st⟩ := va_mathAbsV X' hx hown (hts _ (h _ List.mem_cons_self)) (hts _ (h _ (List.mem_cons_of_mem _ List.mem_cons_self))) (hts _ (h _ (List.mem_cons_of_mem _ (List.mem_cons_of_mem _ List.mem_cons_self)))) (hts _ (h _ (List.mem_cons_of_mem _ (List.mem_cons_of_mem _ (List.mem_cons_of_mem _ List.mem_cons_self))))) (g := F0 m pc ls (.int x :: rest)) rfl (by rw [hml]; exact hls) (a := x) (rest := rest) rfl (by rw [hb]; exact hdec) hR.1 (by show 2 * 0 + _ + 13 ≤ _; omega) hcl hsl
  exact ⟨some (.int _), T, T.setVm vm', T.setVm vm', [], hT, by rw [List.append_nil]; exact X2, fun q hq => (by cases hq), rfl, rfl, x_pure hT hH rfl rfl rfl ⟨_, rfl, x_i32 _⟩ hcs, st⟩
theorem x_cokAbsL (X : x_cx p s m args c D U cc nL cl Tb Nb own) {cw : ByteArray} (hcw : cw = Lib.MathLoose.abs_long.code) (h : ∀ w ∈ [Cond.methodLink own idx Lib.MathLoose.abs_long.x, .static Lib.MathLoose.abs_long.x, .initialized "java/lang/Math", .code Lib.MathLoose.abs_long.x cw 2 (some .long)], w ∈ Tb) (hR : 1 ≤ R.frames ∧ 21 ≤ R.locals) :
    x_cok p l e R s m args below meth c D G Zs U nL cc (1, idx, 1, none, xMm1L Lib.MathLoose.abs_long.x cw) := by
  subst hcw
  intro H locs cells slots pc ls rest av Y hdec hls hrest hcl hsl hH hcs hlen hrt T hT X'
  obtain ⟨hx, hb, hml, hown, hts, -⟩ := X
  obtain ⟨v, rfl, ⟨x, rfl, -⟩⟩ := x_one hcs
  obtain ⟨vm', X2, st⟩ := va_abs_longV X' hx hown (hts _ (h _ List.mem_cons_self)) (hts _ (h _ (List.mem_cons_of_mem _ List.mem_cons_self))) (hts _ (h _ (List.mem_cons_of_mem _ (List.mem_cons_of_mem _ List.mem_cons_self)))) (hts _ (h _ (List.mem_cons_of_mem _ (List.mem_cons_of_mem _ (List.mem_cons_of_mem _ List.mem_cons_self))))) (g := F0 m pc ls (.long x :: rest)) rfl (by rw [hml]; exact hls) (a := x) (rest := rest) rfl (by rw [hb]; exact hdec) hR.1 (by show 2 * 0 + _ + 13 ≤ _; omega) hcl hsl
  exact ⟨some (.long _), T, T.setVm vm', T.setVm vm', [], hT, by rw [List.append_nil]; exact X2, fun q hq => (by cases hq), rfl, rfl, x_pure hT hH rfl rfl rfl ⟨_, rfl, x_i64 _⟩ hcs, st⟩
end XMT
