section XO
variable {p : Program} {l : Launch} {e : Env} {R : Room} {s : State} {m : MethodId} {args : Array Value} {below : List Frame} {meth : Method} {c : Code} {Q : State → Prop}
variable {D : va_G} {G : List xG} {Zs : List xZ} {U : State} {ef : List (Nat × Nat)} {Y0 : xY} {H0 : Heap} {nL : Nat} {mu : List Value}
/-- a loop's head may be reached again, with its number gone on -/
def x_prog (up : Bool) (z z' : Int32) : Prop := if up then z.toInt < z'.toInt else z'.toInt < z.toInt
variable (p l e R s m args below meth c Q D G Zs U ef Y0 H0 nL) in
def x_LOK (mu : List Value) (E : xLb) : Prop := ∃ (pre : List Value) (z : Int32) (mus : List Value), mu = pre ++ (.int z :: mus) ∧ mus.length = E.2.2.2.1.length ∧
  ∀ z' : Int32, x_prog E.2.2.1.2 z z' → x_K p l e R s m args below meth c Q D G Zs U ef Y0 H0 nL (.int z' :: mus) (E.1, x_can E.2.1 (E.2.2.1.1 :: E.2.2.2.1) E.2.2.2.2.1 E.2.2.2.2.2.1)
theorem x_back_ok {E : xLb} {a : xS} (hE : x_LOK p l e R s m args below meth c Q D G Zs U ef Y0 H0 nL mu E) (h : x_back E a = true) : x_K p l e R s m args below meth c Q D G Zs U ef Y0 H0 nL mu (E.1, a) := by
  intro Y H locs r ls st hI hC
  obtain ⟨pre, z, mus, e1, e2, hk⟩ := hE
  unfold x_back at h
  split at h
  · next g t0 rest hg hdr =>
    simp only [Bool.and_eq_true] at h
    obtain ⟨⟨h1, h2, h3, h4⟩, h5⟩ := h
    split at h5
    · next k u hgk hvk =>
      rw [Bool.and_eq_true] at h5
      obtain ⟨h5, h6⟩ := h5
      have hlr : rest.length = E.2.2.2.1.length := Nat.eq_of_beq_eq_true h6
      obtain ⟨d, hd, hde⟩ := List.any_eq_true.mp h5
      simp only [Bool.and_eq_true, beq_iff_eq] at hde
      obtain ⟨d1, d2, d3⟩ := hde
      have htr := hC.2.2.2.2.2.1
      have hlen : a.2.2.2.2.2.1.length = pre.length + (mus.length + 1) := by
        have := congrArg List.length htr
        rw [e1, List.length_map, List.length_append, List.length_cons] at this
        exact this
      have hdm : (a.2.2.2.2.2.1.drop (a.2.2.2.2.2.1.length - (E.2.2.2.1.length + 1))).map r = .int z :: mus := by
        rw [List.map_drop, htr, e1]
        have : a.2.2.2.2.2.1.length - (E.2.2.2.1.length + 1) = pre.length := by omega
        rw [this, List.drop_left']
        rfl
      rw [hdr, List.map_cons] at hdm
      obtain ⟨m1, m2⟩ := List.cons.inj hdm
      have hgd : g.getD E.2.2.1.1 0 = k := by rw [List.getD_eq_getElem?_getD, hgk]; rfl
      have hfit : x_fitA a.1 g (x_vs E.2.1) = true := by
        have := h1
        unfold x_ent at this
        rw [Bool.and_eq_true] at this
        exact this.1
      obtain ⟨f1, -⟩ := x_fitA_ok hC.1 hfit
      have hkc : x_c Y (.inl u) (r k) := f1.2 _ _ _ hvk (by rw [List.getElem?_map, hgk]; rfl)
      obtain ⟨z', ez, -⟩ := hkc
      have hprog : x_prog E.2.2.1.2 z z' := by
        obtain ⟨x, y, n1, n2, n3⟩ := hC.2.2.2.2.1 d hd
        rw [d1, ez] at n1
        rw [d2, m1] at n2
        cases n1; cases n2
        unfold x_prog
        split at d3
        · next hu =>
          rw [if_pos hu]
          simp only [decide_eq_true_eq] at d3
          omega
        · next hu =>
          rw [if_neg hu]
          simp only [decide_eq_true_eq] at d3
          omega
      have hK1 := hk z' hprog
      refine W.widen (Nat.le_of_ble_eq_true h3) (Nat.le_of_ble_eq_true h4) ?_
      refine hK1 Y H locs _ ls st hI (x_ent_ok h1 hC ?_)
      show (E.2.2.1.1 :: E.2.2.2.1).map (fun k => r (g.getD k 0)) = _
      rw [List.map_cons, hgd, ez, x_trk_ok h2, m2]
    · cases h5
  · cases h
theorem x_gst_ok {a b : xS} {z : Nat × Nat} {pc : Nat} (h : x_gst G a z = some b) (hs : x_K p l e R s m args below meth c Q D G Zs U ef Y0 H0 nL mu (pc, b)) : x_K p l e R s m args below meth c Q D G Zs U ef Y0 H0 nL mu (pc, a) := by
  unfold x_gst at h
  split at h
  · next hw =>
    split at h
    · next q hq =>
      split at h
      · next t ht =>
        split at h
        · next o ho =>
          split at h
          · cases h
          next hci =>
          split at h
          · cases h; exact hs
          · split at h
            · next ft hft =>
              cases h
              intro Y H locs r ls st hI hC
              obtain ⟨bb, tt, eb, htt, hY⟩ := x_ref_at (hC.1 _ _ ht) rfl
              have htt : tt = t := by
                rcases List.mem_cons.mp htt with e0 | e0
                · exact e0
                · cases e0
              subst htt
              obtain ⟨g, h1, h2⟩ := hI.1.1 bb _ hY
              cases h1.symm.trans ho
              obtain ⟨V, ⟨cell, q1, q2, q3, q4⟩, hV⟩ := h2
              have hkl : z.2 < o.2.length := (List.getElem?_eq_some_iff.mp hft).1
              have hN := hC.new hw (t := ft) (v := V z.2) (hV _ _ hft)
              have hql : q.2 < a.1.length := (List.getElem?_eq_some_iff.mp ht).1
              refine hs Y H locs (updV r a.1.length (V z.2)) ls st hI ?_
              obtain ⟨p1, p2, p3, p4, p5⟩ := hN
              refine ⟨p1, p2, p3, fun f hf => ?_, p5⟩
              rcases List.mem_cons.mp hf with e0 | hf
              · rw [e0]
                refine ⟨bb, by show updV r a.1.length (V z.2) q.2 = _; rw [x_up_ag hql]; exact eb, ?_⟩
                show x_fv D o.1 z.2 bb H = some (updV r a.1.length (V z.2) a.1.length)
                rw [x_up_at, x_fv_sl hci]
                unfold x_sl
                rw [q1]
                exact q4 _ hkl
              · exact p4 f hf
            · cases h
        · cases h
      · cases h
    · cases h
  · cases h
theorem x_gsts_ok {pc : Nat} : ∀ {zs : List (Nat × Nat)} {a b : xS}, x_gsts G zs a = some b → x_K p l e R s m args below meth c Q D G Zs U ef Y0 H0 nL mu (pc, b) → x_K p l e R s m args below meth c Q D G Zs U ef Y0 H0 nL mu (pc, a) := by
  intro zs
  induction zs with
  | nil => intro a b h hs; cases h; exact hs
  | cons z zs ih =>
    intro a b h hs
    unfold x_gsts at h
    split at h
    · next b1 hb1 => exact x_gst_ok hb1 (ih h hs)
    · cases h
end XO
