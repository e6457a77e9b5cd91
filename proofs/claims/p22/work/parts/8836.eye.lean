def z_ALn : yA := fun D av Y H => ∀ q : Nat, av[1]? = some (.ref q) → ∃ f, z_L D Y q H f
theorem gst_Eyes_69 {p : Program} {l : Launch} {e : Env} {R : Room} {s : State} {m : MethodId} {args : Array Value} {below : List Frame} {meth : Method} {c : Code} {Q : State → Prop} {D : va_G} {U : State} {cc : ByteArray} {nL : Nat} {Y : xY} {H : Heap} {locs : List Loc} {cells slots pc : Nat} {ls : Array Slot} {rest : List Value} {sn q : Nat} {f : Nat → Int32} (X : x_cx p s m args c D U cc nL vwCl x_Tb x_Nb "TwinFires$Eyes") (hst : z_st D Y sn H f q) (hH : x_H D x_G x_Zs U Y H) (hd : decode cc pc = .ok (.getfield 69, 3)) (kk : W p l e R s m args below meth c H locs cells slots Q (F0 m (pc + 3) ls (.int (f (q + 1)) :: rest))) : W p l e R s m args below meth c H locs cells slots Q (F0 m pc ls (.ref sn :: rest)) := by
  obtain ⟨z, hz, hY, -, z4⟩ := hst
  simp only [z_Kd, List.mem_cons, List.not_mem_nil, or_false] at hz
  rcases hz with rfl | rfl | rfl | rfl | rfl | rfl
  · exact y_getf X (fl88 X.2.2.2.2.1) hH hY rfl (z4 1 (by decide)) hd kk
  · exact y_getf X (fl89 X.2.2.2.2.1) hH hY rfl (z4 1 (by decide)) hd kk
  · exact y_getf X (fl90 X.2.2.2.2.1) hH hY rfl (z4 1 (by decide)) hd kk
  · exact y_getf X (fl91 X.2.2.2.2.1) hH hY rfl (z4 1 (by decide)) hd kk
  · exact y_getf X (fl92 X.2.2.2.2.1) hH hY rfl (z4 1 (by decide)) hd kk
  · exact y_getf X (fl93 X.2.2.2.2.1) hH hY rfl (z4 1 (by decide)) hd kk
theorem gst_Eyes_73 {p : Program} {l : Launch} {e : Env} {R : Room} {s : State} {m : MethodId} {args : Array Value} {below : List Frame} {meth : Method} {c : Code} {Q : State → Prop} {D : va_G} {U : State} {cc : ByteArray} {nL : Nat} {Y : xY} {H : Heap} {locs : List Loc} {cells slots pc : Nat} {ls : Array Slot} {rest : List Value} {sn q : Nat} {f : Nat → Int32} (X : x_cx p s m args c D U cc nL vwCl x_Tb x_Nb "TwinFires$Eyes") (hst : z_st D Y sn H f q) (hH : x_H D x_G x_Zs U Y H) (hd : decode cc pc = .ok (.getfield 73, 3)) (kk : W p l e R s m args below meth c H locs cells slots Q (F0 m (pc + 3) ls (.int (f (q + 2)) :: rest))) : W p l e R s m args below meth c H locs cells slots Q (F0 m pc ls (.ref sn :: rest)) := by
  obtain ⟨z, hz, hY, -, z4⟩ := hst
  simp only [z_Kd, List.mem_cons, List.not_mem_nil, or_false] at hz
  rcases hz with rfl | rfl | rfl | rfl | rfl | rfl
  · exact y_getf X (fl94 X.2.2.2.2.1) hH hY rfl (z4 2 (by decide)) hd kk
  · exact y_getf X (fl95 X.2.2.2.2.1) hH hY rfl (z4 2 (by decide)) hd kk
  · exact y_getf X (fl96 X.2.2.2.2.1) hH hY rfl (z4 2 (by decide)) hd kk
  · exact y_getf X (fl97 X.2.2.2.2.1) hH hY rfl (z4 2 (by decide)) hd kk
  · exact y_getf X (fl98 X.2.2.2.2.1) hH hY rfl (z4 2 (by decide)) hd kk
  · exact y_getf X (fl99 X.2.2.2.2.1) hH hY rfl (z4 2 (by decide)) hd kk
