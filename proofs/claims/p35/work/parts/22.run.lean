section XF
variable {p : Program} {l : Launch} {e : Env} {R : Room} {s : State} {m : MethodId} {args : Array Value} {below : List Frame} {meth : Method} {c : Code}
variable {D : va_G} {G : List xG} {Zs : List xZ} {U : State} {Y0 : xY} {M : xM} {av : List Value} {sz : Nat} {cl : List vw_C} {Ts : List Cond} {T : xTab} {an : List xAn} {sp : List (Nat × Nat)}
abbrev x_QQ (below : List Frame) (D : va_G) (G : List xG) (Zs : List xZ) (U : State) (M : xM) (av : List Value) (Y0 : xY) (args : Array Value) (s : State) (sz : Nat) : State → Prop := MQ below (x_Q D G Zs U M av Y0) args s (x_rm M).cells (x_rm M).slots (fun q => (∃ u, Y0 q = some u) ∨ sz ≤ q)
/-- THE CHECKER IS RIGHT -/
theorem x_ex_ok (hx : p.tables.exec = Jvm.exec) (hb : c.code = M.2.1) (hml : c.maxLocals = M.2.2.1) (hr : meth.sig.returnType = M.2.2.2.1) (hlocks : meth.locks = false) (hts : ∀ w ∈ Ts, w.before args s = true) (hown : s.vm.findClass M.1.cls = some m.cls) (hK : va_K D cl [] s) (hU : U.WarmedH s.vm)
    (hsz : s.heap.size = sz) (hY0 : ∀ q u, Y0 q = some u → q < s.heap.size) (hav : x_cs Y0 (x_args M) av) (hT : x_tok p l e R s m args below meth c D G Zs U M.2.2.1 M.2.1 cl Ts M.1.cls T) (hmc : (x_rm M).cells ≤ R.cells) (hms : (x_rm M).slots ≤ R.slots) :
    ∀ (n : Nat) (L : List xLb) (top : Bool) (q : Nat × xS) (mu : List Value), x_ex G Zs T M an sp n L top q = true → (top = true → ∃ pre, mu = pre ++ av) →
      (∀ E ∈ L, x_LOK p l e R s m args below meth c (x_QQ below D G Zs U M av Y0 args s sz) D G Zs U (x_efs M) Y0 s.heap M.2.2.1 mu E) →
      x_K p l e R s m args below meth c (x_QQ below D G Zs U M av Y0 args s sz) D G Zs U (x_efs M) Y0 s.heap M.2.2.1 mu q := by
  intro n
  induction n with
  | zero => intro L top q mu h; cases h
  | succ n ih =>
    intro L top q mu h htop hL
    unfold x_ex at h
    split at h
    · next hw =>
      -- what follows the labels: one step, and on
      have go : ∀ (L : List xLb) (top : Bool) (a : xS) (mu : List Value), x_wf a = true → x_go G Zs T M top q.1 a (x_ex G Zs T M an sp n L top) = true → (top = true → ∃ pre, mu = pre ++ av) →
          (∀ E ∈ L, x_LOK p l e R s m args below meth c (x_QQ below D G Zs U M av Y0 args s sz) D G Zs U (x_efs M) Y0 s.heap M.2.2.1 mu E) →
          x_K p l e R s m args below meth c (x_QQ below D G Zs U M av Y0 args s sz) D G Zs U (x_efs M) Y0 s.heap M.2.2.1 mu (q.1, a) := by
        intro L top a mu hw h htop hL
        unfold x_go at h
        split at h
        · next i len hd =>
          have hd := dz_ok hd
          split at h
          · next hlen =>
            have hlen : len = x_lenF i len := Nat.eq_of_beq_eq_true hlen
            split at h
            · next hret =>
              have hl1 : len = 1 := by
                cases i <;> first | exact hlen | (cases hret)
              subst hl1
              exact x_rck_ok hx hb hr hlocks hsz hY0 hav htop hd h
            · split at h
              · next sc hsc =>
                refine x_stp_ok hw hx hb hml hts hown hK hU hY0 hT hmc hms hd hlen hsc (fun z hz => ?_)
                exact ih L top z mu (List.all_eq_true.mp h z hz) htop hL
              · cases h
          · cases h
        · cases h
      split at h
      · next zz hzz =>
        intro Y H locs r ls st hI hC
        unfold x_spl at hzz
        split at hzz
        · split at hzz
          · next qq hqq =>
            split at hzz
            · next u hu =>
              split at hzz
              · next hlt =>
                cases hzz
                obtain ⟨v, ev, bv⟩ := hC.1 _ _ hu
                have b1 := bv.1; have b2 := bv.2
                have hk := List.all_eq_true.mp h (v.toInt - u.1).toNat (List.mem_range.mpr (by show _ < (u.2 - u.1).toNat + 1; omega))
                refine ih L top _ mu hk htop hL Y H locs r ls st hI ⟨x_set_ok hC.1 ?_, hC.2⟩
                rw [ev]
                exact ⟨v, rfl, by show u.1 + (((v.toInt - u.1).toNat : Nat) : Int) ≤ _; omega, by show _ ≤ u.1 + (((v.toInt - u.1).toNat : Nat) : Int); omega⟩
              · cases hzz
            · cases hzz
          · cases hzz
        · cases hzz
      next hspl =>
      split at h
      · next hlab =>
        unfold x_lab at hlab
        split at hlab
        · next E hE =>
          split at hlab
          · next a' hgs =>
            split at hlab
            · next hbk =>
              have hEm := List.mem_of_find?_eq_some hE
              have hEe := List.find?_some hE
              simp only [beq_iff_eq] at hEe
              have := x_back_ok (hL E hEm) hbk
              rw [hEe] at this
              exact x_gsts_ok hgs this
            · cases hlab
          · cases hlab
        · split at hlab
          · split at hlab
            · split at hlab
              · dsimp only at hlab
                split at hlab
                · split at hlab <;> cases hlab
                · cases hlab
              · cases hlab
            · cases hlab
          · cases hlab
      · next z hlab =>
        unfold x_lab at hlab
        split at hlab
        · split at hlab
          · split at hlab <;> cases hlab
          · cases hlab
        · split at hlab
          · next A hA =>
            split at hlab
            · next a' hgs =>
             refine x_gsts_ok hgs ?_
             split at hlab
             · next g hg =>
               dsimp only at hlab
               split at hlab
               · next hc =>
                 obtain ⟨hc, hwb⟩ := hc
                 simp only [Bool.and_eq_true, Bool.or_eq_true (_ || _) _] at hc
                 obtain ⟨h1, h2, h3, h4, h5⟩ := hc
                 split at hlab
                 · next u hu =>
                   cases hlab
                   dsimp only at h
                   -- the head, for every number that it may have
                   intro Y H locs r ls st hI hC
                   have htr := hC.2.2.2.2.2.1
                   have hmlen : a'.2.2.2.2.2.1.length = mu.length := by rw [← htr, List.length_map]
                   let mux : List Value := x_cut (A.2.2.2.2.1 || !top) (mu.drop (L.length - A.2.2.2.2.2.1)) (x_args M).length
                   have hLx : ∀ E ∈ L.drop (L.length - A.2.2.2.2.2.1), x_LOK p l e R s m args below meth c (x_QQ below D G Zs U M av Y0 args s sz) D G Zs U (x_efs M) Y0 s.heap M.2.2.1 mux E := by
                     intro E hE
                     rcases h3 with h3 | h3
                     · have e0 : mux = mu.drop (L.length - A.2.2.2.2.2.1) := if_pos h3
                       rw [e0]
                       obtain ⟨pre, z0, mus, m1, m2, m3⟩ := hL E (List.mem_of_mem_drop hE)
                       have h6 : E.2.2.2.1.length + 1 + (L.length - A.2.2.2.2.2.1) ≤ a'.2.2.2.2.2.1.length := Nat.le_of_ble_eq_true (List.all_eq_true.mp h4 E hE)
                       have h7 : mu.length = pre.length + (mus.length + 1) := by rw [m1, List.length_append, List.length_cons]
                       refine ⟨pre.drop (L.length - A.2.2.2.2.2.1), z0, mus, ?_, m2, m3⟩
                       rw [m1, List.drop_append_of_le_length (by omega)]
                     · rw [List.isEmpty_iff] at h3
                       rw [h3] at hE; cases hE
                   have htopx : (top && A.2.2.2.2.1) = true → ∃ pre, mux = pre ++ av := by
                     intro ht
                     rw [Bool.and_eq_true] at ht
                     obtain ⟨pre, e1⟩ := htop ht.1
                     have e0 : mux = mu.drop (L.length - A.2.2.2.2.2.1) := if_pos (by rw [ht.2]; rfl)
                     have h6 : (L.length - A.2.2.2.2.2.1) + (x_args M).length ≤ a'.2.2.2.2.2.1.length := by
                       rw [ht.1] at h5
                       exact Nat.le_of_ble_eq_true (by simpa using h5)
                     have h7 : mu.length = pre.length + av.length := by rw [e1, List.length_append]
                     have h8 := hav.1
                     refine ⟨pre.drop (L.length - A.2.2.2.2.2.1), ?_⟩
                     rw [e0, e1, List.drop_append_of_le_length (by omega)]
                   have hvj : ∀ (Y : xY) (H : Heap) (z : Int32) (r : Nat → Value) (ls : Array Slot) (st : List Value), x_C D Y0 M.2.2.1 (.int z :: mux) Y H (x_can A.2.1 (A.2.2.1.1 :: A.2.2.2.1) (x_cells a') (x_slots a')) r ls st → u.1 ≤ z.toInt ∧ z.toInt ≤ u.2 := by
                     intro Y H z r ls st hC
                     have h7 := hC.2.2.2.2.2.1
                     have h8 : r A.2.2.1.1 = .int z := by
                       have : (A.2.2.1.1 :: A.2.2.2.1).map r = .int z :: mux := h7
                       rw [List.map_cons] at this
                       exact (List.cons.inj this).1
                     obtain ⟨x, e1, e2⟩ := hC.1 _ _ hu
                     rw [h8] at e1
                     cases e1
                     exact e2
                   have head : ∀ (k : Nat) (z : Int32), (if A.2.2.1.2 then (u.2 - z.toInt).toNat else (z.toInt - u.1).toNat) < k →
                       x_K p l e R s m args below meth c (x_QQ below D G Zs U M av Y0 args s sz) D G Zs U (x_efs M) Y0 s.heap M.2.2.1 (.int z :: mux) (q.1, x_can A.2.1 (A.2.2.1.1 :: A.2.2.2.1) (x_cells a') (x_slots a')) := by
                     intro k
                     induction k with
                     | zero => intro z hz; exact absurd hz (Nat.not_lt_zero _)
                     | succ k ihk =>
                       intro z hz Y H locs r ls st hI hC
                       have hbd := hvj Y H z r ls st hC
                       refine go _ _ _ (.int z :: mux) hwb h (fun ht => ?_) (fun E hE => ?_) Y H locs r ls st hI hC
                       · obtain ⟨pre, e1⟩ := htopx ht
                         exact ⟨.int z :: pre, by rw [e1]; rfl⟩
                       · rcases List.mem_cons.mp hE with e0 | hE
                         · rw [e0]
                           refine ⟨[], z, mux, rfl, ?_, fun z' hp => ?_⟩
                           · have h7 := hC.2.2.2.2.2.1
                             have : (A.2.2.1.1 :: A.2.2.2.1).map r = .int z :: mux := h7
                             have := congrArg List.length this
                             rw [List.length_map, List.length_cons, List.length_cons] at this
                             show mux.length = A.2.2.2.1.length
                             omega
                           · intro Y' H' locs' r' ls' st' hI' hC'
                             have hbd' := hvj Y' H' z' r' ls' st' hC'
                             refine ihk z' ?_ Y' H' locs' r' ls' st' hI' hC'
                             have hp : x_prog A.2.2.1.2 z z' := hp
                             unfold x_prog at hp
                             split
                             · next hup =>
                               rw [if_pos hup] at hz hp
                               omega
                             · next hup =>
                               rw [if_neg hup] at hz hp
                               omega
                         · obtain ⟨pre, z0, mus, m1, m2, m3⟩ := hLx E hE
                           exact ⟨.int z :: pre, z0, mus, by rw [m1]; rfl, m2, m3⟩
                   have hgj : x_c Y (.inl u) (r (g.getD A.2.2.1.1 0)) := by
                     have hfit : x_fitA a'.1 g (x_vs A.2.1) = true := by
                       have := h1
                       unfold x_ent at this
                       rw [Bool.and_eq_true] at this
                       exact this.1
                     obtain ⟨f1, -⟩ := x_fitA_ok hC.1 hfit
                     have hjl : A.2.2.1.1 < g.length := by
                       have := f1.1
                       rw [List.length_map] at this
                       have h9 := (List.getElem?_eq_some_iff.mp hu).1
                       omega
                     refine f1.2 _ _ _ hu ?_
                     rw [List.getElem?_map, List.getElem?_eq_getElem hjl, List.getD_eq_getElem?_getD, List.getElem?_eq_getElem hjl]
                     rfl
                   obtain ⟨z0, ez, -⟩ := hgj
                   refine head _ z0 (Nat.lt_succ_self _) Y H locs _ ls st hI (x_ent_ok h1 hC ?_)
                   show (A.2.2.1.1 :: A.2.2.2.1).map (fun k => r (g.getD k 0)) = .int z0 :: mux
                   rw [List.map_cons, ez, x_trk_ok h2]
                   congr 1
                   show (x_cut (A.2.2.2.2.1 || !top) (a'.2.2.2.2.2.1.drop (L.length - A.2.2.2.2.2.1)) (x_args M).length).map r = x_cut (A.2.2.2.2.1 || !top) (mu.drop (L.length - A.2.2.2.2.2.1)) (x_args M).length
                   unfold x_cut
                   split
                   · rw [List.map_drop, htr]
                   · rw [List.map_take, List.map_drop, htr, List.length_drop, List.length_drop, hmlen]
                 · cases hlab
               · cases hlab
             · cases hlab
            · cases hlab
          · cases hlab
            exact go L top q.2 mu hw h htop hL
      · cases h
    · cases h
end XF
