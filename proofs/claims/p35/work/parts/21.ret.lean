theorem x_ina_ok {Y : xY} : ∀ {ts us : List xV} {vs : List Value}, x_ina ts us = true → x_cs Y ts vs → x_cs Y us vs := by
  intro ts
  induction ts with
  | nil =>
    intro us vs h hc
    cases us with
    | nil => exact hc
    | cons u us => cases h
  | cons t ts ih =>
    intro us vs h hc
    cases us with
    | nil => cases h
    | cons u us =>
      unfold x_ina at h
      rw [Bool.and_eq_true] at h
      cases vs with
      | nil => exact absurd hc.1 (by simp)
      | cons v vs =>
        have hc' : x_cs Y ts vs := ⟨by have := hc.1; simpa using this, fun k t' v' h1 h2 => hc.2 (k + 1) t' v' (by simpa using h1) (by simpa using h2)⟩
        have hi := ih h.2 hc'
        refine ⟨by have := hi.1; simp [this], fun k t' v' h1 h2 => ?_⟩
        cases k with
        | zero =>
          rw [List.getElem?_cons_zero] at h1 h2
          cases h1; cases h2
          exact x_le_ok h.1 (hc.2 0 t v (by simp) (by simp))
        | succ k =>
          rw [List.getElem?_cons_succ] at h1 h2
          exact hi.2 k t' v' h1 h2
theorem x_cs.mono {Y Y' : xY} {ts : List xV} {vs : List Value} (h : x_cs Y ts vs) (hY : ∀ a t, Y a = some t → Y' a = some t) : x_cs Y' ts vs := ⟨h.1, fun k t v h1 h2 => (h.2 k t v h1 h2).mono hY⟩
theorem x_nr_ok {Y : xY} {t : xV} {v : Value} {b raw t' : Nat} (h : x_nrT raw t = true) (hb : Y b = some raw) (hc : x_c Y t v) : x_c (x_up Y b t') t v := by
  rcases t with q | q | q
  · exact hc
  · exact hc
  · rcases hc with hc | ⟨b2, u, h1, h2, h3⟩
    · exact Or.inl hc
    · refine Or.inr ⟨b2, u, h1, h2, ?_⟩
      have hne : b2 ≠ b := by
        intro e0
        subst e0
        cases h3.symm.trans hb
        unfold x_nrT at h
        have := List.all_eq_true.mp h raw h2
        simp at this
      rw [x_up_ne hne]; exact h3
theorem x_nar_ok {ty : FieldType} {u : Int × Int} {v : Int32} (h : x_nar ty u = true) (hb : x_b u v) : narrow ty (.int v) = .int v := by
  have a1 := hb.1; have a2 := hb.2
  unfold x_nar at h
  split at h
  · rfl
  · simp only [Bool.and_eq_true, decide_eq_true_eq] at h
    show Value.int (v &&& 1) = .int v
    have : v = 0 ∨ v = 1 := by
      rcases (by omega : v.toInt = 0 ∨ v.toInt = 1) with q | q
      · exact Or.inl (Int32.toInt_inj.mp q)
      · exact Or.inr (Int32.toInt_inj.mp q)
    rcases this with q | q <;> subst q <;> rfl
  · simp only [Bool.and_eq_true, decide_eq_true_eq] at h
    show Value.int v.toInt8.toInt32 = .int v
    congr 1
    apply Int32.toInt_inj.mp
    rw [Int8.toInt_toInt32, Int32.toInt_toInt8]
    show Int.bmod v.toInt 256 = v.toInt
    exact Int.bmod_eq_of_le (by omega) (by omega)
  · simp only [Bool.and_eq_true, decide_eq_true_eq] at h
    have e1 : v = nI v.toInt.toNat := by
      apply Int32.toInt_inj.mp
      rw [nI_toInt (by omega)]; omega
    have hlt : v.toInt.toNat < 65536 := by omega
    have h9 := (pk_charN hlt).1
    rw [← e1] at h9
    exact h9
  · cases h
section XE2
variable {p : Program} {l : Launch} {e : Env} {R : Room} {s : State} {m : MethodId} {args : Array Value} {below : List Frame} {meth : Method} {c : Code}
variable {D : va_G} {G : List xG} {Zs : List xZ} {U : State} {Y0 : xY} {nL : Nat} {mu : List Value} {cc : ByteArray} {pc : Nat} {a : xS} {M : xM} {av : List Value} {sz : Nat}
theorem x_aok1_ok {Y : xY} {H : Heap} {r : Nat → Value} {ls : Array Slot} {st : List Value} {top : Bool} {o : List xV} (h : x_aok1 M top a o = true) (hC : x_C D Y0 nL mu Y H a r ls st) (hmon : ∀ q u, Y0 q = some u → Y q = some u) (hav : x_cs Y0 (x_args M) av) (htop : top = true → ∃ pre, mu = pre ++ av) : x_cs Y o av := by
  unfold x_aok1 at h
  rw [Bool.or_eq_true, Bool.and_eq_true] at h
  rcases h with h | ⟨h1, h2⟩
  · exact x_ina_ok h (hav.mono hmon)
  · obtain ⟨pre, e1⟩ := htop h1
    have h3 := (x_fitA_ok hC.1 h2).1
    have htr := hC.2.2.2.2.2.1
    have hlen : a.2.2.2.2.2.1.length = pre.length + av.length := by
      have := congrArg List.length htr
      rw [e1, List.length_map, List.length_append] at this
      exact this
    have hna : (x_args M).length = av.length := hav.1
    have : (a.2.2.2.2.2.1.drop (a.2.2.2.2.2.1.length - (x_args M).length)).map r = av := by
      rw [List.map_drop, htr, e1]
      have e2 : a.2.2.2.2.2.1.length - (x_args M).length = pre.length := by omega
      rw [e2, List.drop_left' rfl]
    rw [this] at h3
    exact h3
theorem x_rck_ok {i : Instr} {top : Bool} (hx : p.tables.exec = Jvm.exec) (hb : c.code = cc) (hr : meth.sig.returnType = M.2.2.2.1) (hlocks : meth.locks = false) (hsz : s.heap.size = sz) (hY0 : ∀ q u, Y0 q = some u → q < s.heap.size) (hav : x_cs Y0 (x_args M) av) (htop : top = true → ∃ pre, mu = pre ++ av)
    (hd : decode cc pc = .ok (i, 1)) (h : x_rck G Zs M i top a = true) :
    x_K p l e R s m args below meth c (MQ below (x_Q D G Zs U M av Y0) args s (x_rm M).cells (x_rm M).slots (fun q => (∃ u, Y0 q = some u) ∨ sz ≤ q)) D G Zs U (x_efs M) Y0 s.heap nL mu (pc, a) := by
  intro Y H locs r ls st hI hC
  subst hsz
  unfold x_rck at h
  rw [Bool.and_eq_true, Bool.and_eq_true] at h
  obtain ⟨⟨h1, h2⟩, h⟩ := h
  refine W.widen (Nat.le_of_ble_eq_true h1) (Nat.le_of_ble_eq_true h2) ?_
  have hmon : ∀ q u, Y0 q = some u → Y q = some u := fun q u hq => by rw [hI.2.1 q (hY0 q u hq)]; exact hq
  have hf : ∀ q ∈ locs, (∃ u, Y0 q.base = some u) ∨ s.heap.size ≤ q.base := hI.2.2.2.2.2
  have hF : ∀ t : State, t.heap = H → va_F (fun q => (∃ u, Y0 q = some u) ∨ s.heap.size ≤ q) s t := fun t ht => ⟨by rw [ht]; exact hI.2.2.2.1, fun q q1 q2 => by rw [ht]; exact hI.2.2.2.2.1 q q1 q2⟩
  split at h
  · next t' hrt =>
    split at h
    · next _ _ _ hS hM =>
      have hst : st = [] := by rw [hC.2.2.1, hS]; rfl
      rw [hst]
      rw [hM] at hr
      unfold x_rtc at h
      rw [Bool.and_eq_true] at h
      obtain ⟨ht0, h⟩ := h
      obtain ⟨pre, e1⟩ := htop ht0
      have htr := hC.2.2.2.2.2.1
      have hlen : a.2.2.2.2.2.1.length = pre.length + av.length := by
        have := congrArg List.length htr
        rw [e1, List.length_map, List.length_append] at this
        exact this
      have hna : (x_args M).length = av.length := hav.1
      have hdm : (a.2.2.2.2.2.1.drop (a.2.2.2.2.2.1.length - (x_args M).length)).map r = av := by
        rw [List.map_drop, htr, e1]
        have e2 : a.2.2.2.2.2.1.length - (x_args M).length = pre.length := by omega
        rw [e2, List.drop_left' rfl]
      split at h
      · next k0 ks hks =>
        rw [hks] at hdm
        split at h
        · next raw o hk0 hg' =>
          split at h
          · next o0 hg0 =>
            simp only [Bool.and_eq_true, beq_iff_eq] at h
            obtain ⟨⟨c1, c1n⟩, c2, c3, c4, c5, c6⟩ := h
            have hci : ¬ o.1 = 1000 := by simpa using c1n
            have c2 : o.2.length = o0.2.length := Nat.eq_of_beq_eq_true c2
            obtain ⟨b, tt, eb, htt, hYb⟩ := x_ref_at (hC.1 k0 _ hk0) rfl
            have htt : tt = raw := by
              rcases List.mem_cons.mp htt with e0 | e0
              · exact e0
              · cases e0
            subst htt
            have hav0 : av[0]? = some (.ref b) := by rw [← hdm, List.map_cons, eb]; rfl
            have hbH : b < H.size := hI.1.lt hYb
            obtain ⟨gr, hgr, hcr⟩ := hI.1.1 b _ hYb
            cases hgr.symm.trans hg0
            obtain ⟨V, hOB, hV⟩ := hcr
            have hG3 := List.all_eq_true.mp c3
            have hHn : x_H D G Zs U (x_up Y b t') H := by
              refine ⟨fun a' u hu => ?_, fun z hz => (hI.1.2.1 z hz).grow fun q _ ⟨u, hu⟩ => ?_, fun z hz => (hI.1.2.2 z hz).grow fun q _ ⟨u, hu⟩ => ?_⟩
              · by_cases ea : a' = b
                · subst ea
                  rw [x_up_self] at hu
                  cases hu
                  refine ⟨_, hg', V, ?_, fun k ft hk => ?_⟩
                  · rw [c1, c2]; exact hOB
                  · have hkl : k < o.2.length := (List.getElem?_eq_some_iff.mp hk).1
                    have h5 := List.all_eq_true.mp c5 k (List.mem_range.mpr hkl)
                    rw [hk] at h5
                    dsimp only at h5
                    split at h5
                    · next f hf0 =>
                      have hfm := List.mem_of_find?_eq_some hf0
                      have hfe := List.find?_some hf0
                      simp only [Bool.and_eq_true, beq_iff_eq] at hfe
                      obtain ⟨f1, f2, f3⟩ := hfe
                      split at h5
                      · next tv htv =>
                        rw [Bool.and_eq_true] at h5
                        obtain ⟨bb, b1, b2⟩ := hC.2.2.2.1 f hfm
                        rw [f1, eb] at b1
                        cases b1
                        rw [f2, f3, x_fv_sl hci] at b2
                        have hVk : V k = r f.2.2.2 := by
                          obtain ⟨cell, q1, q2, q3, q4⟩ := hOB
                          have q5 := q4 k (by rw [← c2]; exact hkl)
                          unfold x_sl at b2
                          rw [q1] at b2
                          dsimp only [Option.bind] at b2
                          rw [c1] at b2
                          exact Option.some.inj (q5.symm.trans b2)
                        rw [hVk]
                        exact x_le_ok h5.1 (x_nr_ok h5.2 hYb (hC.1 _ _ htv))
                      · cases h5
                    · split at h5
                      · next f0 hf0 =>
                        rw [Bool.and_eq_true] at h5
                        exact x_le_ok h5.1 (x_nr_ok h5.2 hYb (hV k f0 hf0))
                      · cases h5
                · rw [x_up_ne ea] at hu
                  obtain ⟨g, g1, g2⟩ := hI.1.1 a' u hu
                  refine ⟨g, g1, ?_⟩
                  have h9 := hG3 g (List.mem_of_getElem? g1)
                  rcases g with q | q
                  · obtain ⟨V', w1, w2⟩ := g2
                    exact ⟨V', w1, fun k ft hk => x_nr_ok (List.all_eq_true.mp h9 ft (List.mem_of_getElem? hk)) hYb (w2 k ft hk)⟩
                  · obtain ⟨cell, w1, w2, w3, w4, w5, w6⟩ := g2
                    refine ⟨cell, w1, w2, w3, w4, w5, fun j v hj => x_nr_ok ?_ hYb (w6 j v hj)⟩
                    dsimp only at h9
                    rw [Bool.and_eq_true] at h9
                    rw [List.getD_eq_getElem?_getD]
                    cases hq : q.2.2.1[j]? with
                    | none => exact h9.2
                    | some w => exact List.all_eq_true.mp h9.1 w (List.mem_of_getElem? hq)
              · by_cases eq : q = b
                · rw [eq]; exact ⟨_, hYb⟩
                · rw [x_up_ne eq] at hu
                  exact ⟨u, hu⟩
              · by_cases eq : q = b
                · rw [eq]; exact ⟨_, hYb⟩
                · rw [x_up_ne eq] at hu
                  exact ⟨u, hu⟩
            obtain ⟨oo, ho1, ho2⟩ := List.any_eq_true.mp c6
            rw [Bool.and_eq_true] at ho2
            refine W.vret hx hb hr (fun t ht hW => ?_) hf hd hlocks
            refine ⟨none, x_up Y b t', oo, rfl, ho1, ?_, ?_, by rw [ht]; exact hHn, ?_, by rw [ht]; exact hI.2.2.1, hF t ht⟩
            · have : oo.2 = none := Option.isNone_iff_eq_none.mp ho2.1
              rw [this]; rfl
            · have h7 := ho2.2
              split at h7
              · next u us hou =>
                simp only [Bool.and_eq_true] at h7
                obtain ⟨k1, k2, k3⟩ := h7
                rw [hou]
                cases hA : av with
                | nil => rw [hA] at hav0; cases hav0
                | cons v0 vs =>
                  rw [hA] at hav0 hav
                  have hv0 : v0 = .ref b := by simpa using hav0
                  have hds : x_cs Y ((x_args M).drop 1) vs := by
                    refine ⟨by have := hav.1; simp at this ⊢; omega, fun k t2 v2 q1 q2 => ?_⟩
                    rw [List.getElem?_drop] at q1
                    exact (hav.2 (1 + k) t2 v2 q1 (by rw [Nat.add_comm, List.getElem?_cons_succ]; exact q2)).mono hmon
                  have hus := x_ina_ok k2 hds
                  refine ⟨by have := hus.1; simp [this], fun k t2 v2 q1 q2 => ?_⟩
                  cases k with
                  | zero =>
                    rw [List.getElem?_cons_zero] at q1 q2
                    cases q1; cases q2
                    exact x_le_ok k1 (Or.inr ⟨b, t', hv0, List.mem_cons_self, x_up_self _ _ _⟩)
                  | succ k =>
                    rw [List.getElem?_cons_succ] at q1 q2
                    exact x_nr_ok (List.all_eq_true.mp k3 t2 (List.mem_of_getElem? q1)) hYb (hus.2 k t2 v2 q1 q2)
              · cases h7
            · rw [hrt]
              exact ⟨b, hav0, x_up_self _ _ _, fun q q1 q2 => by rw [x_up_ne q2]; exact hI.2.1 q q1⟩
          · cases h
        · cases h
      · cases h
    · cases h
  · next hrt =>
    have hQ : ∀ (t : State) (v : Option Value) (o : List xV × Option xV), t.heap = H → o ∈ x_outs M → x_ret Y o.2 v → x_cs Y o.1 av → x_Q D G Zs U M av Y0 args s (.returned v) t := fun t v o ht ho h3 h4 =>
      ⟨v, Y, o, rfl, ho, h3, h4, by rw [ht]; exact hI.1, by rw [hrt]; exact hI.2.1, by rw [ht]; exact hI.2.2.1, hF t ht⟩
    split at h
    · next _ _ _ x ty hS hM =>
      rw [hM] at hr
      split at h
      · next u hu =>
        rw [Bool.and_eq_true] at h
        obtain ⟨o, ho, h3⟩ := List.any_eq_true.mp h.2
        rw [Bool.and_eq_true] at h3
        obtain ⟨v, ev, bv⟩ := hC.1 x _ hu
        have hst : st = [.int v] := by rw [hC.2.2.1, hS]; show [r x] = _; rw [ev]
        rw [hst]
        refine W.zret hx hb hr (x_nar_ok h.1 bv) (fun t ht hW => hQ t _ o ht ho ?_ (x_aok1_ok h3.2 hC hmon hav htop)) hf hd hlocks
        have h4 := h3.1
        split at h4
        · next tt htt => rw [htt]; exact ⟨_, rfl, x_le_ok h4 ⟨v, rfl, bv⟩⟩
        · cases h4
      · cases h
    · next _ _ _ x hS hM =>
      rw [hM] at hr
      split at h
      · next u hu =>
        obtain ⟨o, ho, h3⟩ := List.any_eq_true.mp h
        rw [Bool.and_eq_true] at h3
        obtain ⟨v, ev, bv⟩ := hC.1 x _ hu
        have hst : st = [.long v] := by rw [hC.2.2.1, hS]; show [r x] = _; rw [ev]
        rw [hst]
        refine W.lret hx hb hr (fun t ht hW => hQ t _ o ht ho ?_ (x_aok1_ok h3.2 hC hmon hav htop)) hf hd hlocks
        have h4 := h3.1
        split at h4
        · next tt htt => rw [htt]; exact ⟨_, rfl, x_le_ok h4 ⟨v, rfl, bv⟩⟩
        · cases h4
      · cases h
    · next _ _ _ x ty hS hM =>
      rw [hM] at hr
      split at h
      · next u hu =>
        rw [Bool.and_eq_true] at h
        obtain ⟨o, ho, h3⟩ := List.any_eq_true.mp h.2
        rw [Bool.and_eq_true] at h3
        have hc := hC.1 x _ hu
        have hst : st = [r x] := by rw [hC.2.2.1, hS]; rfl
        rw [hst]
        have hty : (∃ n, ty = .object n) ∨ ∃ t, ty = .array t := by
          cases ty <;> first | exact Or.inl ⟨_, rfl⟩ | exact Or.inr ⟨_, rfl⟩ | (exact absurd h.1 (by simp [FieldType.isReference]))
        have hvr : r x = .null ∨ ∃ b, r x = .ref b := by
          rcases hc with ⟨q, -⟩ | ⟨b, t, q, -⟩
          · exact Or.inl q
          · exact Or.inr ⟨b, q⟩
        refine W.aret hx hb hr hty hvr (fun t ht hW => hQ t _ o ht ho ?_ (x_aok1_ok h3.2 hC hmon hav htop)) hf hd hlocks
        have h4 := h3.1
        split at h4
        · next tt htt => rw [htt]; exact ⟨_, rfl, x_le_ok h4 hc⟩
        · cases h4
      · cases h
    · next _ _ _ hS hM =>
      rw [hM] at hr
      obtain ⟨o, ho, h3⟩ := List.any_eq_true.mp h
      rw [Bool.and_eq_true] at h3
      have hst : st = [] := by rw [hC.2.2.1, hS]; rfl
      rw [hst]
      refine W.vret hx hb hr (fun t ht hW => hQ t _ o ht ho ?_ (x_aok1_ok h3.2 hC hmon hav htop)) hf hd hlocks
      have : o.2 = none := Option.isNone_iff_eq_none.mp h3.1
      rw [this]; rfl
    · cases h
end XE2
