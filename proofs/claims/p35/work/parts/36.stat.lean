/-! statics that hold tables of numbers; contracts out of exact bodies -/
section ZS
variable {p : Program} {l : Launch} {e : Env} {R : Room} {s : State} {m : MethodId} {args : Array Value} {below : List Frame} {meth : Method} {c : Code} {Q : State → Prop}
variable {D : va_G} {G : List xG} {Zs : List xZ} {U : State} {nL : Nat} {cc : ByteArray} {cl : List vw_C} {Tb Nb : List Cond} {own : String} {idx : Nat}
variable {Y : xY} {H : Heap} {locs : List Loc} {cells slots pc : Nat} {ls : Array Slot} {rest : List Value}
theorem z_gets {z : xZ} (X : x_cx p s m args c D U cc nL cl Tb Nb own) (hz : z ∈ Zs) (hl : (Cond.fieldLink own idx z.1 z.2.1 z.2.2.1).before args s = true) (hH : x_H D G Zs U Y H) (hd : decode cc pc = .ok (.getstatic idx, 3))
    (k : ∀ (b : Nat) (f : Nat → Int32), va_T .int b (x_zn z.2.2.2).1 (fun j => .int (f j)) (fun q => ∃ t, Y q = some t) s H → (∀ j, j < (x_zn z.2.2.2).1 → (x_zn z.2.2.2).2.1 ≤ (f j).toInt ∧ (f j).toInt ≤ (x_zn z.2.2.2).2.2) → W p l e R s m args below meth c H locs cells slots Q (F0 m (pc + 3) ls (.ref b :: rest))) : W p l e R s m args below meth c H locs cells slots Q (F0 m pc ls rest) := by
  obtain ⟨hx, hb, hml, hown, hts, hK, hK0, hU, hNw, hG, hN⟩ := X
  obtain ⟨b, f, h1, h2, h3⟩ := hH.2.1 z hz
  obtain ⟨cf, kf, fi, fd, a, cell, g1, g2, g3, g4, g5, g6, g7, g8⟩ := h1.moved hU.alike
  exact W.gets hx hb hown hl g1 g2 g3 g4 g5 (fun e => by rw [e] at g6; cases g6) g7 rfl hd (k b f (h2.moved hU.alike) (fun j hj => (h3 j hj).1))
theorem z_getsV {z : xZ} (X : x_cx p s m args c D U cc nL cl Tb Nb own) (hz : z ∈ Zs) (hl : (Cond.fieldLink own idx z.1 z.2.1 z.2.2.1).before args s = true) (hH : x_H D G Zs U Y H) (hd : decode cc pc = .ok (.getstatic idx, 3))
    (k : ∀ (b : Nat) (f : Nat → Int32), va_T .int b (x_zn z.2.2.2).1 (fun j => .int (f j)) (fun q => ∃ t, Y q = some t) s H → (∀ j, j < (x_zn z.2.2.2).1 → f j = x_zv z.2.2.2 j) → W p l e R s m args below meth c H locs cells slots Q (F0 m (pc + 3) ls (.ref b :: rest))) : W p l e R s m args below meth c H locs cells slots Q (F0 m pc ls rest) := by
  obtain ⟨hx, hb, hml, hown, hts, hK, hK0, hU, hNw, hG, hN⟩ := X
  obtain ⟨b, f, h1, h2, h3⟩ := hH.2.1 z hz
  obtain ⟨cf, kf, fi, fd, a, cell, g1, g2, g3, g4, g5, g6, g7, g8⟩ := h1.moved hU.alike
  exact W.gets hx hb hown hl g1 g2 g3 g4 g5 (fun e => by rw [e] at g6; cases g6) g7 rfl hd (k b f (h2.moved hU.alike) (fun j hj => (h3 j hj).2))
theorem z_getsVN {z : xZ} {host : String} (X : x_cx p s m args c D U cc nL cl Tb Nb own) (hz : z ∈ Zs) (hl : va_Nw (.fieldLinkNest own idx z.1 z.2.1 z.2.2.1 host) s) (hH : x_H D G Zs U Y H) (hd : decode cc pc = .ok (.getstatic idx, 3))
    (k : ∀ (b : Nat) (f : Nat → Int32), va_T .int b (x_zn z.2.2.2).1 (fun j => .int (f j)) (fun q => ∃ t, Y q = some t) s H → (∀ j, j < (x_zn z.2.2.2).1 → f j = x_zv z.2.2.2 j) → W p l e R s m args below meth c H locs cells slots Q (F0 m (pc + 3) ls (.ref b :: rest))) : W p l e R s m args below meth c H locs cells slots Q (F0 m pc ls rest) := by
  obtain ⟨hx, hb, hml, hown, hts, hK, hK0, hU, hNw, hG, hN⟩ := X
  obtain ⟨b, f, h1, h2, h3⟩ := hH.2.1 z hz
  obtain ⟨cf, kf, fi, fd, a, cell, g1, g2, g3, g4, g5, g6, g7, g8⟩ := h1.moved hU.alike
  exact va_WgetsN hx hb hown (va_Nw.use rfl hl) g1 g2 g3 g4 g5 (fun e => by rw [e] at g6; cases g6) g7 rfl hd (k b f (h2.moved hU.alike) (fun j hj => (h3 j hj).2))
theorem z_tld {b N : Nat} {f : Nat → Int32} {A : Nat → Prop} {i : Int32} (X : x_cx p s m args c D U cc nL cl Tb Nb own) (hT : va_T .int b N (fun j => .int (f j)) A s H) (h0 : 0 ≤ i.toInt) (h1 : i.toInt < (N : Int)) (hd : decode cc pc = .ok (.iaload, 1))
    (kk : W p l e R s m args below meth c H locs cells slots Q (F0 m (pc + 1) ls (.int (f i.toInt.toNat) :: rest))) : W p l e R s m args below meth c H locs cells slots Q (F0 m pc ls (.int i :: .ref b :: rest)) := by
  obtain ⟨cell, h2, h3, h4, h5, h6, h7, h8⟩ := hT
  have hcl : i.toNatClampNeg = i.toInt.toNat := rfl
  have hin : ¬ (i < 0 ∨ cell.slots.size ≤ i.toNatClampNeg) := by
    rintro (q | q)
    · have := Int32.lt_iff_toInt_lt.mp q
      have z0 : (0 : Int32).toInt = 0 := rfl
      omega
    · rw [hcl] at q; omega
  exact W.iald X.1 X.2.1 h2 h3 h4 hin (by rw [hcl]; exact h7 _ (by omega)) rfl rfl hd kk
end ZS
theorem y_WQ {p : Program} {l : Launch} {e : Env} {R : Room} {s : State} {m : MethodId} {args : Array Value} {below : List Frame} {meth : Method} {c : Code} {D : va_G} {G : List xG} {Zs : List xZ} {U : State} {M : xM} {P : yP} {av : List Value} {Y : xY} {H : Heap} {locs : List Loc} {cells slots mc ms : Nat} {free : Addr → Prop} {g : JFrame} (h : W p l e R s m args below meth c H locs cells slots (MQ below (y_Q D G Zs U M P av Y) args s mc ms free) g) : W p l e R s m args below meth c H locs cells slots (MQ below (x_Q D G Zs U M av Y) args s mc ms free) g := by
  intro T hT X
  obtain ⟨t, a, o, b1, b2, ⟨v, Y', o', c1, c2, c3, c4, c5, c6, c7, c8, -⟩, b4⟩ := h T hT X
  exact ⟨t, a, o, b1, b2, ⟨v, Y', o', c1, c2, c3, c4, c5, c6, c7, c8⟩, b4⟩
theorem y_mainX {cl : List vw_C} {G : List xG} {Zs : List xZ} {Tb Nb : List Cond} {M : xM} {P : yP} (hy : plainName M.1.cls = true) (hl : ((x_args M).map (fun t => if x_isL t then 2 else 1)).sum ≤ M.2.2.1) (hG : ∀ w ∈ Tb, goodWord w = true) (hNk : ∀ w ∈ Nb, x_Nk w = true)
    (body : ∀ (p : Program) (l : Launch) (e : Env) (s : State) (m : MethodId) (below : List Frame) (meth : Method) (c : Code) (D : va_G) (U : State) (Y : xY) (av : List Value) (ls : Array Slot), y_B cl Tb Nb M p s m meth c D U Y av → x_I D G Zs U (x_efs M) Y s.heap Y s.heap [] → True → lv_has ls M.2.2.1 (lv_args 0 av) →
      W p l e (x_rm M) s m av.toArray below meth c s.heap [] 0 0 (y_QQ below D G Zs U M P av Y s) (F0 m 0 ls [])) : x_Met cl G Zs Tb Nb M := by
  intro l D U Y sz av hK0 hav
  refine Met.ofW (cc := M.2.1) (maxL := M.2.2.1) (ret := M.2.2.2.1) hy rfl ?_
  intro p e s m args below meth c s₁ B hml hv
  obtain ⟨rfl, rfl, hU, hH, hN⟩ := hv
  have hts0 := atoms_spec B.pre
  have hts : ∀ w ∈ Tb, w.before av.toArray s = true := fun w hw => hts0 w (List.mem_cons_of_mem _ hw)
  have hown : s.vm.findClass M.1.cls = some m.cls := findClass_of_methodNamed B.named
  have hnm : meth.name = M.1.name := (name_of_methodNamed B.named B.method).1
  have hK : va_K D cl [] s := va_K.moved hU.alike hK0
  have hY0 : ∀ q u, Y q = some u → q < s.heap.size := fun q u hq => hH.lt hq
  have hlen : (lg_sl av).length ≤ M.2.2.1 := by rw [x_sl_len _ _ _ hav]; exact hl
  have hlv := lv_entry av (n := M.2.2.1) hlen
  rw [lg_entry_eq]
  exact y_WQ (body p l e s m below meth c D U Y av _ ⟨⟨B.exec, B.bytes, hml, hown, hts, hK, hK0, hU, hN, hG, hNk⟩, B.returns, B.notSynchronized, hnm, hY0, hav⟩ ⟨hH, fun q _ => rfl, x_E.rf, va_S.rf⟩ trivial hlv)
theorem y_three {Y : xY} {t u w : xV} {av : List Value} (h : x_cs Y [t, u, w] av) : ∃ a b c, av = [a, b, c] ∧ x_c Y t a ∧ x_c Y u b ∧ x_c Y w c := by
  obtain ⟨h1, h2⟩ := h
  match av, h1 with
  | [a, b, c], _ => exact ⟨a, b, c, rfl, h2 0 t a rfl rfl, h2 1 u b rfl rfl, h2 2 w c rfl rfl⟩
