section XP
variable {p : Program} {l : Launch} {e : Env} {R : Room} {s : State} {m : MethodId} {args : Array Value} {below : List Frame} {meth : Method} {c : Code} {Q : State → Prop}
variable {D : va_G} {G : List xG} {Zs : List xZ} {U : State} {ef : List (Nat × Nat)} {Y0 : xY} {H0 : Heap} {nL : Nat} {mu : List Value}
variable {cc : ByteArray} {pc : Nat} {a : xS} {sc : List (Nat × xS)}
theorem x_bin_ok {f : Int × Int → Int × Int → Option (Int × Int)} {g : Int32 → Int32 → Int32} (hw : x_wf a = true) (hf : ∀ u q t x y, f u q = some t → x_b u x → x_b q y → x_b t (g x y))
    (row : ∀ (H : Heap) (locs : List Loc) (cells slots : Nat) (ls : Array Slot) (rest : List Value) (x y : Int32) (u q t : Int × Int), f u q = some t → x_b u x → x_b q y → W p l e R s m args below meth c H locs cells slots Q (F0 m (pc + 1) ls (.int (g x y) :: rest)) → W p l e R s m args below meth c H locs cells slots Q (F0 m pc ls (.int y :: .int x :: rest)))
    (h : x_bin a pc f = some sc) (hs : ∀ q ∈ sc, x_K p l e R s m args below meth c Q D G Zs U ef Y0 H0 nL mu q) : x_K p l e R s m args below meth c Q D G Zs U ef Y0 H0 nL mu (pc, a) := by
  intro Y H locs r ls st hI hC
  unfold x_bin at h
  split at h
  · next y x S hS =>
    split at h
    · next q u hq hu =>
      split at h
      · next t ht =>
        cases h
        obtain ⟨vy, ey, by1⟩ := hC.1 y _ hq
        obtain ⟨vx, ex, bx1⟩ := hC.1 x _ hu
        have hst : st = .int vy :: .int vx :: S.map r := by rw [hC.2.2.1, hS, List.map_cons, List.map_cons, ey, ex]
        rw [hst]
        have hSl : ∀ k ∈ S, k < a.1.length := fun k hk => (x_wf_spec hw).2.1 k (by rw [hS]; exact List.mem_cons_of_mem _ (List.mem_cons_of_mem _ hk))
        refine row H locs _ _ ls _ vx vy u q t ht bx1 by1 ?_
        exact hs _ List.mem_cons_self Y H locs _ ls _ hI (hC.psh hw hSl ⟨_, rfl, hf u q t vx vy ht bx1 by1⟩)
      · cases h
    · cases h
  · cases h
theorem x_un_ok {f : Int × Int → Int × Int} {g : Int32 → Int32} (hw : x_wf a = true) (hf : ∀ u x, x_b u x → x_b (f u) (g x))
    (row : ∀ (H : Heap) (locs : List Loc) (cells slots : Nat) (ls : Array Slot) (rest : List Value) (x : Int32), W p l e R s m args below meth c H locs cells slots Q (F0 m (pc + 1) ls (.int (g x) :: rest)) → W p l e R s m args below meth c H locs cells slots Q (F0 m pc ls (.int x :: rest)))
    (h : x_un a pc f = some sc) (hs : ∀ q ∈ sc, x_K p l e R s m args below meth c Q D G Zs U ef Y0 H0 nL mu q) : x_K p l e R s m args below meth c Q D G Zs U ef Y0 H0 nL mu (pc, a) := by
  intro Y H locs r ls st hI hC
  unfold x_un at h
  split at h
  · next x S hS =>
    split at h
    · next u hu =>
      cases h
      obtain ⟨vx, ex, bx1⟩ := hC.1 x _ hu
      have hst : st = .int vx :: S.map r := by rw [hC.2.2.1, hS, List.map_cons, ex]
      rw [hst]
      have hSl : ∀ k ∈ S, k < a.1.length := fun k hk => (x_wf_spec hw).2.1 k (by rw [hS]; exact List.mem_cons_of_mem _ hk)
      refine row H locs _ _ ls _ vx ?_
      exact hs _ List.mem_cons_self Y H locs _ ls _ hI (hC.psh hw hSl ⟨_, rfl, hf u vx bx1⟩)
    · cases h
  · cases h
theorem x_addS_ok (hw : x_wf a = true) (hx : p.tables.exec = Jvm.exec) (hb : c.code = cc) (hd : decode cc pc = .ok (.iadd, 1))
    (h : x_addS a pc = some sc) (hs : ∀ q ∈ sc, x_K p l e R s m args below meth c Q D G Zs U ef Y0 H0 nL mu q) : x_K p l e R s m args below meth c Q D G Zs U ef Y0 H0 nL mu (pc, a) := by
  intro Y H locs r ls st hI hC
  unfold x_addS at h
  split at h
  · next y x S hS =>
    split at h
    · next q u hq hu =>
      cases h
      obtain ⟨vy, ey, by1⟩ := hC.1 y _ hq
      obtain ⟨vx, ex, bx1⟩ := hC.1 x _ hu
      have hst : st = .int vy :: .int vx :: S.map r := by rw [hC.2.2.1, hS, List.map_cons, List.map_cons, ey, ex]
      rw [hst]
      have hSl : ∀ k ∈ S, k < a.1.length := fun k hk => (x_wf_spec hw).2.1 k (by rw [hS]; exact List.mem_cons_of_mem _ (List.mem_cons_of_mem _ hk))
      have hxl : x < a.1.length := (x_wf_spec hw).2.1 x (by rw [hS]; exact List.mem_cons_of_mem _ List.mem_cons_self)
      refine lv_iadd hx hb hd ?_
      have hN := hC.psh hw hSl (t := .inl (x_addB u q)) (v := .int (vx + vy)) ⟨_, rfl, x_add_ok bx1 by1⟩
      have hh := hs _ List.mem_cons_self Y H locs (updV r a.1.length (.int (vx + vy))) ls (.int (vx + vy) :: S.map r) hI
      dsimp only at hh
      split at hh
      · next hq2 =>
        refine hh (hN.dif (d := (a.1.length, x, q.1)) ⟨(vx + vy).toInt, vx.toInt, by show x_num (updV _ _ _ a.1.length) = _; rw [x_up_at]; rfl, by show x_num (updV _ _ _ x) = _; rw [x_up_ag hxl, ex]; rfl, ?_⟩)
        have a1 := bx1.1; have a2 := bx1.2; have b1 := by1.1; have b2 := by1.2
        rw [Int32.toInt_add, x_bm (by omega) (by omega)]
        show _ = _ + q.1
        omega
      · exact hh hN
    · cases h
  · cases h
theorem x_binL_ok {nz : Bool} {g : Int64 → Int64 → Int64} (hw : x_wf a = true)
    (row : ∀ (H : Heap) (locs : List Loc) (cells slots : Nat) (ls : Array Slot) (rest : List Value) (x y : Int64), (nz = true → ¬ y = 0) → W p l e R s m args below meth c H locs cells slots Q (F0 m (pc + 1) ls (.long (g x y) :: rest)) → W p l e R s m args below meth c H locs cells slots Q (F0 m pc ls (.long y :: .long x :: rest)))
    (h : x_binL a pc nz = some sc) (hs : ∀ q ∈ sc, x_K p l e R s m args below meth c Q D G Zs U ef Y0 H0 nL mu q) : x_K p l e R s m args below meth c Q D G Zs U ef Y0 H0 nL mu (pc, a) := by
  intro Y H locs r ls st hI hC
  unfold x_binL at h
  split at h
  · next y x S hS =>
    split at h
    · next q u hq hu =>
      split at h
      · cases h
      · next hn =>
        cases h
        obtain ⟨vy, ey, by1⟩ := hC.1 y _ hq
        obtain ⟨vx, ex, bx1⟩ := hC.1 x _ hu
        have hst : st = .long vy :: .long vx :: S.map r := by rw [hC.2.2.1, hS, List.map_cons, List.map_cons, ey, ex]
        rw [hst]
        have hSl : ∀ k ∈ S, k < a.1.length := fun k hk => (x_wf_spec hw).2.1 k (by rw [hS]; exact List.mem_cons_of_mem _ (List.mem_cons_of_mem _ hk))
        refine row H locs _ _ ls _ vx vy (fun hz e0 => hn ⟨hz, fun hh => ?_⟩) ?_
        · subst e0
          have z : (0 : Int64).toInt = 0 := rfl
          rw [z] at by1
          omega
        · exact hs _ List.mem_cons_self Y H locs _ ls _ hI (hC.psh hw hSl ⟨_, rfl, x_rngL _⟩)
    · cases h
  · cases h
theorem x_shL_ok {g : Int64 → Int32 → Int64} (hw : x_wf a = true)
    (row : ∀ (H : Heap) (locs : List Loc) (cells slots : Nat) (ls : Array Slot) (rest : List Value) (x : Int64) (y : Int32), W p l e R s m args below meth c H locs cells slots Q (F0 m (pc + 1) ls (.long (g x y) :: rest)) → W p l e R s m args below meth c H locs cells slots Q (F0 m pc ls (.int y :: .long x :: rest)))
    (h : x_shL a pc = some sc) (hs : ∀ q ∈ sc, x_K p l e R s m args below meth c Q D G Zs U ef Y0 H0 nL mu q) : x_K p l e R s m args below meth c Q D G Zs U ef Y0 H0 nL mu (pc, a) := by
  intro Y H locs r ls st hI hC
  unfold x_shL at h
  split at h
  · next y x S hS =>
    split at h
    · next q u hq hu =>
      cases h
      obtain ⟨vy, ey, by1⟩ := hC.1 y _ hq
      obtain ⟨vx, ex, bx1⟩ := hC.1 x _ hu
      have hst : st = .int vy :: .long vx :: S.map r := by rw [hC.2.2.1, hS, List.map_cons, List.map_cons, ey, ex]
      rw [hst]
      have hSl : ∀ k ∈ S, k < a.1.length := fun k hk => (x_wf_spec hw).2.1 k (by rw [hS]; exact List.mem_cons_of_mem _ (List.mem_cons_of_mem _ hk))
      refine row H locs _ _ ls _ vx vy ?_
      exact hs _ List.mem_cons_self Y H locs _ ls _ hI (hC.psh hw hSl ⟨_, rfl, x_rngL _⟩)
    · cases h
  · cases h
theorem x_unL_ok {g : Int64 → Int64} (hw : x_wf a = true)
    (row : ∀ (H : Heap) (locs : List Loc) (cells slots : Nat) (ls : Array Slot) (rest : List Value) (x : Int64), W p l e R s m args below meth c H locs cells slots Q (F0 m (pc + 1) ls (.long (g x) :: rest)) → W p l e R s m args below meth c H locs cells slots Q (F0 m pc ls (.long x :: rest)))
    (h : x_unL a pc = some sc) (hs : ∀ q ∈ sc, x_K p l e R s m args below meth c Q D G Zs U ef Y0 H0 nL mu q) : x_K p l e R s m args below meth c Q D G Zs U ef Y0 H0 nL mu (pc, a) := by
  intro Y H locs r ls st hI hC
  unfold x_unL at h
  split at h
  · next x S hS =>
    split at h
    · next u hu =>
      cases h
      obtain ⟨vx, ex, bx1⟩ := hC.1 x _ hu
      have hst : st = .long vx :: S.map r := by rw [hC.2.2.1, hS, List.map_cons, ex]
      rw [hst]
      have hSl : ∀ k ∈ S, k < a.1.length := fun k hk => (x_wf_spec hw).2.1 k (by rw [hS]; exact List.mem_cons_of_mem _ hk)
      refine row H locs _ _ ls _ vx ?_
      exact hs _ List.mem_cons_self Y H locs _ ls _ hI (hC.psh hw hSl ⟨_, rfl, x_rngL _⟩)
    · cases h
  · cases h
theorem x_i2l_ok (hw : x_wf a = true) (hx : p.tables.exec = Jvm.exec) (hb : c.code = cc) (hd : decode cc pc = .ok (.i2l, 1))
    (h : x_i2l a pc = some sc) (hs : ∀ q ∈ sc, x_K p l e R s m args below meth c Q D G Zs U ef Y0 H0 nL mu q) : x_K p l e R s m args below meth c Q D G Zs U ef Y0 H0 nL mu (pc, a) := by
  intro Y H locs r ls st hI hC
  unfold x_i2l at h
  split at h
  · next x S hS =>
    split at h
    · next u hu =>
      cases h
      obtain ⟨vx, ex, bx1⟩ := hC.1 x _ hu
      have hst : st = .int vx :: S.map r := by rw [hC.2.2.1, hS, List.map_cons, ex]
      rw [hst]
      have hSl : ∀ k ∈ S, k < a.1.length := fun k hk => (x_wf_spec hw).2.1 k (by rw [hS]; exact List.mem_cons_of_mem _ hk)
      refine lv_i2l hx hb hd rfl ?_
      have hxl : x < a.1.length := (x_wf_spec hw).2.1 x (by rw [hS]; exact List.mem_cons_self)
      have hN := hC.psh hw hSl (t := .inr (.inl u)) (v := .long vx.toInt64) ⟨_, rfl, by rw [Int32.toInt_toInt64]; exact bx1.1, by rw [Int32.toInt_toInt64]; exact bx1.2⟩
      refine hs _ List.mem_cons_self Y H locs _ ls _ hI (hN.dif (d := (a.1.length, x, 0)) ⟨vx.toInt64.toInt, vx.toInt, by show x_num (updV _ _ _ a.1.length) = _; rw [x_up_at]; rfl, by show x_num (updV _ _ _ x) = _; rw [x_up_ag hxl, ex]; rfl, by rw [Int32.toInt_toInt64]; show _ = _ + (0 : Int); omega⟩)
    · cases h
  · cases h
theorem x_l2i_ok (hw : x_wf a = true) (hx : p.tables.exec = Jvm.exec) (hb : c.code = cc) (hd : decode cc pc = .ok (.l2i, 1))
    (h : x_l2i a pc = some sc) (hs : ∀ q ∈ sc, x_K p l e R s m args below meth c Q D G Zs U ef Y0 H0 nL mu q) : x_K p l e R s m args below meth c Q D G Zs U ef Y0 H0 nL mu (pc, a) := by
  intro Y H locs r ls st hI hC
  unfold x_l2i at h
  split at h
  · next x S hS =>
    split at h
    · next u hu =>
      cases h
      obtain ⟨vx, ex, bx1⟩ := hC.1 x _ hu
      have hst : st = .long vx :: S.map r := by rw [hC.2.2.1, hS, List.map_cons, ex]
      rw [hst]
      have hSl : ∀ k ∈ S, k < a.1.length := fun k hk => (x_wf_spec hw).2.1 k (by rw [hS]; exact List.mem_cons_of_mem _ hk)
      refine lv_l2i hx hb hd rfl ?_
      refine hs _ List.mem_cons_self Y H locs _ ls _ hI (hC.psh hw hSl ⟨_, rfl, ?_⟩)
      refine x_clipb fun h1 h2 => ?_
      have a1 := bx1.1; have a2 := bx1.2
      rw [Int64.toInt_toInt32, x_bm (by omega) (by omega)]
      exact bx1
    · cases h
  · cases h
theorem x_set_ok {Y : xY} {E : List xV} {r : Nat → Value} (h : ∀ (k : Nat) (t : xV), E[k]? = some t → x_c Y t (r k)) {x : Nat} {t : xV} (ht : x_c Y t (r x)) : ∀ (k : Nat) (u : xV), (E.set x t)[k]? = some u → x_c Y u (r k) := by
  intro k u hk
  rw [List.getElem?_set] at hk
  split at hk
  · next e0 =>
    split at hk
    · cases hk; rw [← e0]; exact ht
    · cases hk
  · exact h k u hk
theorem x_icmp_ok {off : Int} {f g : Int × Int → Int × Int → Option xB2} {P : Int32 → Int32 → Prop}
    (hf : ∀ u q x y, x_b u x → x_b q y → P x y → ∃ b : xB2, f u q = some b ∧ x_b b.1 x ∧ x_b b.2 y) (hg : ∀ u q x y, x_b u x → x_b q y → ¬ P x y → ∃ b : xB2, g u q = some b ∧ x_b b.1 x ∧ x_b b.2 y)
    (row : ∀ (H : Heap) (locs : List Loc) (cells slots : Nat) (ls : Array Slot) (rest : List Value) (x y : Int32) (tgt : Nat), (pc : Int) + off = (tgt : Int) → (P x y → W p l e R s m args below meth c H locs cells slots Q (F0 m tgt ls rest)) → (¬ P x y → W p l e R s m args below meth c H locs cells slots Q (F0 m (pc + 3) ls rest)) → W p l e R s m args below meth c H locs cells slots Q (F0 m pc ls (.int y :: .int x :: rest)))
    (h : x_icmp a pc off f g = some sc) (hs : ∀ q ∈ sc, x_K p l e R s m args below meth c Q D G Zs U ef Y0 H0 nL mu q) : x_K p l e R s m args below meth c Q D G Zs U ef Y0 H0 nL mu (pc, a) := by
  intro Y H locs r ls st hI hC
  unfold x_icmp at h
  split at h
  · next y x S hS =>
    split at h
    · next q u hq hu =>
      split at h
      · next ht =>
        cases h
        obtain ⟨vy, ey, by1⟩ := hC.1 y _ hq
        obtain ⟨vx, ex, bx1⟩ := hC.1 x _ hu
        have hst : st = .int vy :: .int vx :: S.map r := by rw [hC.2.2.1, hS, List.map_cons, List.map_cons, ey, ex]
        rw [hst]
        refine row H locs _ _ ls _ vx vy _ ht (fun hp => ?_) (fun hp => ?_)
        · obtain ⟨b, e1, e2, e3⟩ := hf u q vx vy bx1 by1 hp
          refine hs (_, ((a.1.set x (.inl b.1)).set y (.inl b.2), a.2.1, S, a.2.2.2)) (List.mem_append_left _ (by rw [e1]; exact List.mem_cons_self)) Y H locs r ls _ hI (hC.env ?_ S)
          exact x_set_ok (x_set_ok hC.1 (by rw [ex]; exact ⟨_, rfl, e2⟩)) (by rw [ey]; exact ⟨_, rfl, e3⟩)
        · obtain ⟨b, e1, e2, e3⟩ := hg u q vx vy bx1 by1 hp
          refine hs (_, ((a.1.set x (.inl b.1)).set y (.inl b.2), a.2.1, S, a.2.2.2)) (List.mem_append_right _ (by rw [e1]; exact List.mem_cons_self)) Y H locs r ls _ hI (hC.env ?_ S)
          exact x_set_ok (x_set_ok hC.1 (by rw [ex]; exact ⟨_, rfl, e2⟩)) (by rw [ey]; exact ⟨_, rfl, e3⟩)
      · cases h
    · cases h
  · cases h
theorem x_if0_ok {off : Int} {f g : Int × Int → Int × Int → Option xB2} {P : Int32 → Prop}
    (hf : ∀ u x, x_b u x → P x → ∃ b : xB2, f u (0, 0) = some b ∧ x_b b.1 x) (hg : ∀ u x, x_b u x → ¬ P x → ∃ b : xB2, g u (0, 0) = some b ∧ x_b b.1 x)
    (row : ∀ (H : Heap) (locs : List Loc) (cells slots : Nat) (ls : Array Slot) (rest : List Value) (x : Int32) (tgt : Nat), (pc : Int) + off = (tgt : Int) → (P x → W p l e R s m args below meth c H locs cells slots Q (F0 m tgt ls rest)) → (¬ P x → W p l e R s m args below meth c H locs cells slots Q (F0 m (pc + 3) ls rest)) → W p l e R s m args below meth c H locs cells slots Q (F0 m pc ls (.int x :: rest)))
    (h : x_if0 a pc off f g = some sc) (hs : ∀ q ∈ sc, x_K p l e R s m args below meth c Q D G Zs U ef Y0 H0 nL mu q) : x_K p l e R s m args below meth c Q D G Zs U ef Y0 H0 nL mu (pc, a) := by
  intro Y H locs r ls st hI hC
  unfold x_if0 at h
  split at h
  · next x S hS =>
    split at h
    · next u hu =>
      split at h
      · next ht =>
        cases h
        obtain ⟨vx, ex, bx1⟩ := hC.1 x _ hu
        have hst : st = .int vx :: S.map r := by rw [hC.2.2.1, hS, List.map_cons, ex]
        rw [hst]
        refine row H locs _ _ ls _ vx _ ht (fun hp => ?_) (fun hp => ?_)
        · obtain ⟨b, e1, e2⟩ := hf u vx bx1 hp
          refine hs (_, (a.1.set x (.inl b.1), a.2.1, S, a.2.2.2)) (List.mem_append_left _ (by rw [e1]; exact List.mem_cons_self)) Y H locs r ls _ hI (hC.env ?_ S)
          exact x_set_ok hC.1 (by rw [ex]; exact ⟨_, rfl, e2⟩)
        · obtain ⟨b, e1, e2⟩ := hg u vx bx1 hp
          refine hs (_, (a.1.set x (.inl b.1), a.2.1, S, a.2.2.2)) (List.mem_append_right _ (by rw [e1]; exact List.mem_cons_self)) Y H locs r ls _ hI (hC.env ?_ S)
          exact x_set_ok hC.1 (by rw [ex]; exact ⟨_, rfl, e2⟩)
      · cases h
    · cases h
  · cases h
theorem x_ld_ok {i pc' : Nat} {f : xV → Bool}
    (row : ∀ (Y : xY) (H : Heap) (locs : List Loc) (cells slots : Nat) (ls : Array Slot) (rest : List Value) (t : xV) (v : Value), f t = true → x_c Y t v → ls[i]? = some (.val v) → W p l e R s m args below meth c H locs cells slots Q (F0 m pc' ls (v :: rest)) → W p l e R s m args below meth c H locs cells slots Q (F0 m pc ls rest))
    (h : x_ld a pc' i f = some sc) (hs : ∀ q ∈ sc, x_K p l e R s m args below meth c Q D G Zs U ef Y0 H0 nL mu q) : x_K p l e R s m args below meth c Q D G Zs U ef Y0 H0 nL mu (pc, a) := by
  intro Y H locs r ls st hI hC
  unfold x_ld at h
  split at h
  · next q hq =>
    split at h
    · next t ht =>
      split at h
      · next hft =>
        cases h
        have hm := List.mem_of_find?_eq_some hq
        have hi : q.1 = i := by simpa using List.find?_some hq
        have hl : ls[i]? = some (.val (r q.2)) := hC.loc (by rw [← hi]; exact hm)
        refine row Y H locs _ _ ls _ t (r q.2) hft (hC.1 _ _ ht) hl ?_
        have hst := hC.2.2.1
        rw [hst]
        exact hs _ List.mem_cons_self Y H locs r ls _ hI (hC.stk (q.2 :: a.2.2.1))
      · cases h
    · cases h
  · cases h
theorem lv_has.less {ls : Array Slot} {n : Nat} {x y : List (Nat × Value)} (h : lv_has ls n x) (hy : ∀ q ∈ y, q ∈ x) : lv_has ls n y := ⟨h.1, h.2.1, fun q hq => h.2.2 q (hy q hq)⟩
theorem x_n2_ok {Y : xY} {E : List xV} {r : Nat → Value} (h : ∀ (k : Nat) (t : xV), E[k]? = some t → x_c Y t (r k)) {k : Nat} (hk : x_n2 E k = true) : (r k).category = 1 := by
  unfold x_n2 at hk
  split at hk
  · next u hu =>
    obtain ⟨v, e0, -⟩ := h k _ hu
    rw [e0]; rfl
  · next u hu =>
    rcases h k _ hu with ⟨e0, -⟩ | ⟨b, t, e0, -⟩ <;> rw [e0] <;> rfl
  · cases hk
theorem x_fil {Y : xY} {E : List xV} {r : Nat → Value} (h : ∀ (k : Nat) (t : xV), E[k]? = some t → x_c Y t (r k)) {L : List (Nat × Nat)} {i : Nat} {q : Nat × Value}
    (hq : q ∈ (L.filter (fun q => !(q.1 == i) && (!(q.1 + 1 == i) || x_n2 E q.2))).map (fun q => (q.1, r q.2))) : q ∈ (L.map (fun q => (q.1, r q.2))).filter (fun q => !(q.1 == i) && !(q.1 + 1 == i && q.2.category == 2)) := by
  obtain ⟨z, hz, rfl⟩ := List.mem_map.mp hq
  obtain ⟨h1, h2⟩ := List.mem_filter.mp hz
  refine List.mem_filter.mpr ⟨List.mem_map.mpr ⟨z, h1, rfl⟩, ?_⟩
  simp only [Bool.and_eq_true, Bool.or_eq_true, Bool.not_eq_true'] at h2 ⊢
  refine ⟨h2.1, ?_⟩
  rcases h2.2 with h3 | h3
  · simp [h3]
  · simp [x_n2_ok h h3]
theorem x_sto_ok {i pc' : Nat} {f : xV → Bool}
    (row : ∀ (Y : xY) (H : Heap) (locs : List Loc) (cells slots : Nat) (ls : Array Slot) (rest : List Value) (t : xV) (v : Value) (lv : List (Nat × Value)), f t = true → x_c Y t v → lv_has ls nL lv → i < nL →
      (∀ ls' : Array Slot, lv_has ls' nL ((i, v) :: lv.filter (fun q => !(q.1 == i) && !(q.1 + 1 == i && q.2.category == 2))) → W p l e R s m args below meth c H locs cells slots Q (F0 m pc' ls' rest)) → W p l e R s m args below meth c H locs cells slots Q (F0 m pc ls (v :: rest)))
    (h : x_sto a pc' i nL f = some sc) (hs : ∀ q ∈ sc, x_K p l e R s m args below meth c Q D G Zs U ef Y0 H0 nL mu q) : x_K p l e R s m args below meth c Q D G Zs U ef Y0 H0 nL mu (pc, a) := by
  intro Y H locs r ls st hI hC
  unfold x_sto at h
  split at h
  · next x S hS =>
    split at h
    · next t ht =>
      split at h
      · next hft =>
        cases h
        have hst : st = r x :: S.map r := by rw [hC.2.2.1, hS, List.map_cons]
        rw [hst]
        refine row Y H locs _ _ ls _ t (r x) _ hft.1 (hC.1 _ _ ht) hC.2.1 hft.2 fun ls' hl => ?_
        refine hs _ List.mem_cons_self Y H locs r ls' _ hI (hC.locs (hl.less fun q hq => ?_) S)
        rw [List.map_cons] at hq
        rcases List.mem_cons.mp hq with e0 | hq
        · rw [e0]; exact List.mem_cons_self
        · exact List.mem_cons_of_mem _ (x_fil hC.1 hq)
      · cases h
    · cases h
  · cases h
theorem x_stoL_ok {i pc' : Nat}
    (row : ∀ (H : Heap) (locs : List Loc) (cells slots : Nat) (ls : Array Slot) (rest : List Value) (v : Int64) (lv : List (Nat × Value)), lv_has ls nL lv → i + 1 < nL →
      (∀ ls' : Array Slot, lv_has ls' nL ((i, .long v) :: lv.filter (fun q => !(q.1 == i) && (!(q.1 == i + 1) && !(q.1 + 1 == i && q.2.category == 2)))) → W p l e R s m args below meth c H locs cells slots Q (F0 m pc' ls' rest)) → W p l e R s m args below meth c H locs cells slots Q (F0 m pc ls (.long v :: rest)))
    (h : x_stoL a pc' i nL = some sc) (hs : ∀ q ∈ sc, x_K p l e R s m args below meth c Q D G Zs U ef Y0 H0 nL mu q) : x_K p l e R s m args below meth c Q D G Zs U ef Y0 H0 nL mu (pc, a) := by
  intro Y H locs r ls st hI hC
  unfold x_stoL at h
  split at h
  · next x S hS =>
    split at h
    · next u ht =>
      split at h
      · next hft =>
        cases h
        obtain ⟨v, ev, -⟩ := hC.1 _ _ ht
        have hst : st = .long v :: S.map r := by rw [hC.2.2.1, hS, List.map_cons, ev]
        rw [hst]
        refine row H locs _ _ ls _ v _ hC.2.1 hft fun ls' hl => ?_
        refine hs _ List.mem_cons_self Y H locs r ls' _ hI (hC.locs (hl.less fun q hq => ?_) S)
        rw [List.map_cons] at hq
        rcases List.mem_cons.mp hq with e0 | hq
        · rw [e0, ev]; exact List.mem_cons_self
        · refine List.mem_cons_of_mem _ ?_
          obtain ⟨z, hz, rfl⟩ := List.mem_map.mp hq
          obtain ⟨h1, h2⟩ := List.mem_filter.mp hz
          refine List.mem_filter.mpr ⟨List.mem_map.mpr ⟨z, h1, rfl⟩, ?_⟩
          simp only [Bool.and_eq_true, Bool.or_eq_true, Bool.not_eq_true'] at h2 ⊢
          refine ⟨h2.1, h2.2.1, ?_⟩
          rcases h2.2.2 with h3 | h3
          · simp [h3]
          · simp [x_n2_ok hC.1 h3]
      · cases h
    · cases h
  · cases h
theorem x_iinc_ok {i : Nat} {n : Int} (hw : x_wf a = true) (hx : p.tables.exec = Jvm.exec) (hb : c.code = cc) (hd : decode cc pc = .ok (.iinc i n, 3))
    (h : x_iinc a pc i nL n = some sc) (hs : ∀ q ∈ sc, x_K p l e R s m args below meth c Q D G Zs U ef Y0 H0 nL mu q) : x_K p l e R s m args below meth c Q D G Zs U ef Y0 H0 nL mu (pc, a) := by
  intro Y H locs r ls st hI hC
  unfold x_iinc at h
  split at h
  · next q hq =>
    split at h
    · next u hu =>
      split at h
      · next hc =>
        obtain ⟨c1, c2, c3⟩ := hc
        obtain ⟨vx, ex, bx1⟩ := hC.1 _ _ hu
        have hm := List.mem_of_find?_eq_some hq
        have hi : q.1 = i := by simpa using List.find?_some hq
        have hql : q.2 < a.1.length := (x_wf_spec hw).1 q hm
        obtain ⟨k, hk⟩ := List.getElem?_of_mem (List.mem_map.mpr ⟨q, hm, rfl⟩ : (q.1, r q.2) ∈ a.2.1.map fun q => (q.1, r q.2))
        rw [hi, ex] at hk
        have b1 := bx1.1; have b2 := bx1.2
        have hz : (Int32.ofInt n).toInt = n := by rw [Int32.toInt_ofInt, x_bm (by omega) (by omega)]
        refine lv_iinc hx hb hd hC.2.1 hk rfl c3 rfl fun ls' hl => ?_
        have hls : ∀ z ∈ (((i, a.1.length) :: a.2.1.filter (fun z => !(z.1 == i) && (!(z.1 + 1 == i) || x_n2 a.1 z.2))).map fun y => (y.1, updV r a.1.length (.int (vx + Int32.ofInt n)) y.2)), z ∈ ((i, Value.int (vx + Int32.ofInt n)) :: (a.2.1.map fun q => (q.1, r q.2)).filter (fun q => !(q.1 == i) && !(q.1 + 1 == i && q.2.category == 2))) := by
          intro z hz
          rw [List.map_cons] at hz
          rcases List.mem_cons.mp hz with e0 | hz
          · rw [e0, x_up_at]; exact List.mem_cons_self
          · refine List.mem_cons_of_mem _ (x_fil hC.1 ?_)
            obtain ⟨y, hy, rfl⟩ := List.mem_map.mp hz
            refine List.mem_map.mpr ⟨y, hy, ?_⟩
            rw [x_up_ag ((x_wf_spec hw).1 y (List.mem_filter.mp hy).1)]
        split at h
        · next hov =>
          cases h
          have ev : (vx + Int32.ofInt n).toInt = vx.toInt + n := by rw [Int32.toInt_add, hz, x_bm (by omega) (by omega)]
          have hN := hC.new hw (t := .inl (u.1 + n, u.2 + n)) (v := .int (vx + Int32.ofInt n)) ⟨_, rfl, by rw [ev]; show u.1 + n ≤ _; omega, by rw [ev]; show _ ≤ u.2 + n; omega⟩
          have hst := hN.2.2.1
          rw [hst]
          have hN2 := (hN.locs (ls' := ls') (L := (i, a.1.length) :: a.2.1.filter (fun z => !(z.1 == i) && (!(z.1 + 1 == i) || x_n2 a.1 z.2))) (hl.less hls) a.2.2.1).dif (d := (a.1.length, q.2, n)) ⟨_, vx.toInt, by show x_num (updV _ _ _ a.1.length) = _; rw [x_up_at]; rfl, by show x_num (updV _ _ _ q.2) = _; rw [x_up_ag hql, ex]; rfl, ev⟩
          exact hs _ List.mem_cons_self Y H locs _ ls' _ hI hN2
        · cases h
          have hN := hC.new hw (t := .inl x_full) (v := .int (vx + Int32.ofInt n)) ⟨_, rfl, x_fullb _⟩
          have hst := hN.2.2.1
          rw [hst]
          exact hs _ List.mem_cons_self Y H locs _ ls' _ hI (hN.locs (ls' := ls') (L := (i, a.1.length) :: a.2.1.filter (fun z => !(z.1 == i) && (!(z.1 + 1 == i) || x_n2 a.1 z.2))) (hl.less hls) a.2.2.1)
      · cases h
    · cases h
  · cases h
theorem x_lcmp_ok (hw : x_wf a = true) (hx : p.tables.exec = Jvm.exec) (hb : c.code = cc) (hd : decode cc pc = .ok (.lcmp, 1))
    (h : x_lcmp a pc = some sc) (hs : ∀ q ∈ sc, x_K p l e R s m args below meth c Q D G Zs U ef Y0 H0 nL mu q) : x_K p l e R s m args below meth c Q D G Zs U ef Y0 H0 nL mu (pc, a) := by
  intro Y H locs r ls st hI hC
  unfold x_lcmp at h
  split at h
  · next y x S hS =>
    split at h
    · next q u hq hu =>
      cases h
      obtain ⟨vy, ey, by1⟩ := hC.1 y _ hq
      obtain ⟨vx, ex, bx1⟩ := hC.1 x _ hu
      have hst : st = .long vy :: .long vx :: S.map r := by rw [hC.2.2.1, hS, List.map_cons, List.map_cons, ey, ex]
      rw [hst]
      have hSl : ∀ k ∈ S, k < a.1.length := fun k hk => (x_wf_spec hw).2.1 k (by rw [hS]; exact List.mem_cons_of_mem _ (List.mem_cons_of_mem _ hk))
      refine W.lcmp hx hb hd ?_
      have key : ∀ (E : List xV) (z : Int) (vz : Int32), E.length = a.1.length → (∀ (k : Nat) (t : xV), E[k]? = some t → x_c Y t (r k)) → vz.toInt = z → lg_cmp vx vy = vz →
          x_K p l e R s m args below meth c Q D G Zs U ef Y0 H0 nL mu (pc + 1, x_psh (E, a.2) S (.inl (z, z))) → W p l e R s m args below meth c H locs (x_cells a) (x_slots a) Q (F0 m (pc + 1) ls (.int (lg_cmp vx vy) :: S.map r)) := by
        intro E z vz hE he hz hv hk
        have hC2 : x_C D Y0 nL mu Y H (E, a.2) r ls st := ⟨he, hC.2⟩
        have hw2 : x_wf (E, a.2) = true := by
          have := hw
          unfold x_wf at this ⊢
          simp only [hE]
          exact this
        have hP := hC2.psh hw2 (S := S) (fun k hk => by show k < E.length; rw [hE]; exact hSl k hk) (t := .inl (z, z)) (v := .int (lg_cmp vx vy)) ⟨_, rfl, by rw [hv]; show z ≤ _; omega, by rw [hv]; show _ ≤ z; omega⟩
        exact hk Y H locs _ ls _ hI hP
      rcases Int.lt_trichotomy vx.toInt vy.toInt with h1 | h1 | h1
      · obtain ⟨b, e1, e2, e3⟩ := x_rlt_ok bx1 by1 h1
        refine key _ (-1) (-1) (by simp) (x_set_ok (x_set_ok hC.1 (t := .inr (.inl b.1)) (by rw [ex]; exact ⟨_, rfl, e2⟩)) (t := .inr (.inl b.2)) (by rw [ey]; exact ⟨_, rfl, e3⟩)) (by decide) ?_ (hs _ (List.mem_append_left _ (by rw [e1]; exact List.mem_cons_self)))
        unfold lg_cmp
        rw [if_neg (by rw [gt_iff_lt, Int64.lt_iff_toInt_lt]; omega), if_neg (by rw [← Int64.toInt_inj]; omega)]
      · obtain ⟨b, e1, e2, e3⟩ := x_req_ok bx1 by1 h1
        refine key _ 0 0 (by simp) (x_set_ok (x_set_ok hC.1 (t := .inr (.inl b.1)) (by rw [ex]; exact ⟨_, rfl, e2⟩)) (t := .inr (.inl b.2)) (by rw [ey]; exact ⟨_, rfl, e3⟩)) (by decide) ?_ (hs _ (List.mem_append_right _ (List.mem_append_left _ (by rw [e1]; exact List.mem_cons_self))))
        unfold lg_cmp
        rw [if_neg (by rw [gt_iff_lt, Int64.lt_iff_toInt_lt]; omega), if_pos (by rw [← Int64.toInt_inj]; exact h1)]
      · obtain ⟨b, e1, e2, e3⟩ := x_rlt_ok by1 bx1 h1
        refine key _ 1 1 (by simp) (x_set_ok (x_set_ok hC.1 (t := .inr (.inl b.2)) (by rw [ex]; exact ⟨_, rfl, e3⟩)) (t := .inr (.inl b.1)) (by rw [ey]; exact ⟨_, rfl, e2⟩)) (by decide) ?_ (hs _ (List.mem_append_right _ (List.mem_append_right _ (by rw [e1]; exact List.mem_cons_self))))
        unfold lg_cmp
        rw [if_pos (by rw [gt_iff_lt, Int64.lt_iff_toInt_lt]; exact h1)]
    · cases h
  · cases h
end XP
