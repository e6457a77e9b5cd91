/-! System.arraycopy, from the first places of an array of ints to the first places of another of its tag -/
def x_acp (G : List xG) (ef : List (Nat × Nat)) (a : xS) (pc : Nat) : xN := match a.2.2.1 with
  | kn :: kd :: o :: ks :: q :: S => (match a.1[o]?, a.1[q]? with
    | some (.inr (.inr (false, [t]))), some (.inr (.inr (false, [t2]))) => (match a.1[kn]?, a.1[kd]?, a.1[ks]? with
      | some (.inl u), some (.inl ud), some (.inl us) => (match G[t]? with
        | some (.inr (.int, n, pre, ft)) => if t = t2 ∧ u.1 = u.2 ∧ 0 ≤ u.1 ∧ u.1 ≤ (n : Int) ∧ ud = (0, 0) ∧ us = (0, 0) ∧ x_ct a.1 S ≤ 8 ∧ x_le ft xFull = true ∧ pre.all (fun w => x_le w xFull) = true ∧ ((ef.any (fun z => z.1 == t && z.2 == 0) && x_xn ef t) = true ∨ a.2.2.2.2.2.2.1.any (fun k => k == o) = true) then
            some [(pc + 3, (a.1, a.2.1, S, a.2.2.2.1.filter (fun f => x_dj a.1 f.1 o), a.2.2.2.2))] else none
        | _ => none)
      | _, _, _ => none)
    | _, _ => none)
  | _ => none
section XCP
variable {p : Program} {l : Launch} {e : Env} {R : Room} {s : State} {m : MethodId} {args : Array Value} {below : List Frame} {meth : Method} {c : Code} {Q : State → Prop}
variable {D : va_G} {G : List xG} {Zs : List xZ} {U : State} {ef : List (Nat × Nat)} {Y0 : xY} {H0 : Heap} {nL : Nat} {mu : List Value}
variable {cc : ByteArray} {pc : Nat} {a : xS} {sc : List (Nat × xS)} {own : String}
theorem x_I.putL {Y : xY} {H H' : Heap} {locs L : List Loc} {b t : Nat} (hL : ∀ q ∈ L, q.base = b) (hY0 : ∀ q u, Y0 q = some u → q < H0.size) (hI : x_I D G Zs U ef Y0 H0 Y H locs) (hY : Y b = some t) (hH : x_H D G Zs U Y H') (hz : H'.size = H.size) (ho : ∀ q, q ≠ b → H'[q]? = H[q]?)
    (hE : ∀ g, Y0 b = some t → G[t]? = some g → match g with
      | .inl o => ∀ k, k < o.2.length → (t, k) ∉ ef → x_sl D o.1 k b H' = x_sl D o.1 k b H
      | .inr _ => ((t, 0) ∉ ef → H'[b]? = H[b]?) ∧ ∀ j, (t, j + 1000) ∈ ef → x_el b j H' = x_el b j H) : x_I D G Zs U ef Y0 H0 Y H' (locs ++ L) := by
  have hA : (∃ u, Y0 b = some u) ∨ H0.size ≤ b := by
    rcases Nat.lt_or_ge b H0.size with q | q
    · exact Or.inl ⟨t, by rw [← hI.2.1 b q]; exact hY⟩
    · exact Or.inr q
  have h1 := hI.put (sl := 0) hY0 hY hH hz ho hE
  refine ⟨h1.1, h1.2.1, h1.2.2.1, h1.2.2.2.1, h1.2.2.2.2.1, fun q hq => ?_⟩
  rcases List.mem_append.mp hq with hq | hq
  · exact hI.2.2.2.2.2 q hq
  · rw [hL q hq]; exact hA
theorem x_acp_ok {idx : Nat} (hx : p.tables.exec = Jvm.exec) (hb : c.code = cc) (hml : c.maxLocals = nL) (hown : s.vm.findClass own = some m.cls) (hU : U.WarmedH s.vm) (hY0 : ∀ q u, Y0 q = some u → q < H0.size)
    (hlink : (Cond.methodLink own idx arraycopyName).before args s = true) (hnat : (Cond.native arraycopyName).before args s = true) (hstat : (Cond.static arraycopyName).before args s = true) (hini : (Cond.initialized "java/lang/System").before args s = true) (hfr : 1 ≤ R.frames) (hlo : nativeFrameWords "java/lang/System" "arraycopy" 5 + 19 ≤ R.locals)
    (hd : decode cc pc = .ok (.invokestatic idx, 3)) (h : x_acp G ef a pc = some sc) (hs : ∀ q ∈ sc, x_K p l e R s m args below meth c Q D G Zs U ef Y0 H0 nL mu q) : x_K p l e R s m args below meth c Q D G Zs U ef Y0 H0 nL mu (pc, a) := by
  intro Y H locs r ls st hI hC
  unfold x_acp at h
  split at h
  · next kn kd o ks q S hS =>
    split at h
    · next t t2 ho hq =>
      split at h
      · next u ud us hu hud hus =>
        split at h
        · next n pre ft hg =>
          split at h
          · next hc =>
            cases h
            obtain ⟨c0, c1, c2, c3, c4, c5, c6, c7, c8, hef⟩ := hc
            subst c0; subst c4; subst c5
            obtain ⟨bd, td, ed, htd, hYd⟩ := x_ref_at (hC.1 o _ ho) rfl
            obtain ⟨bs, ts, es, hts, hYs⟩ := x_ref_at (hC.1 q _ hq) rfl
            have htd : td = t := by rcases List.mem_cons.mp htd with e0 | e0; exact e0; cases e0
            have hts : ts = t := by rcases List.mem_cons.mp hts with e0 | e0; exact e0; cases e0
            subst htd; subst hts
            obtain ⟨vn, en, bn⟩ := hC.1 kn _ hu
            obtain ⟨vd, edd, bdd⟩ := hC.1 kd _ hud
            obtain ⟨vs, ess, bss⟩ := hC.1 ks _ hus
            have n1 := bn.1; have n2 := bn.2
            have d1 : (0 : Int) ≤ vd.toInt := bdd.1; have d2 : vd.toInt ≤ 0 := bdd.2
            have s1 : (0 : Int) ≤ vs.toInt := bss.1; have s2 : vs.toInt ≤ 0 := bss.2
            have z0 : (0 : Int32).toInt = 0 := rfl
            have ed0 : vd = 0 := Int32.toInt_inj.mp (by omega)
            have es0 : vs = 0 := Int32.toInt_inj.mp (by omega)
            subst ed0; subst es0
            have hst : st = .int vn :: .int 0 :: .ref bd :: .int 0 :: .ref bs :: S.map r := by rw [hC.2.2.1, hS]; simp only [List.map_cons]; rw [en, edd, ed, ess, es]
            rw [hst]
            obtain ⟨gd, h1, h2⟩ := hI.1.1 bd _ hYd
            cases h1.symm.trans hg
            obtain ⟨cd, w1, w2, w3, w4, w5, w6⟩ := h2
            obtain ⟨gs, h3, h4⟩ := hI.1.1 bs _ hYs
            cases h3.symm.trans hg
            obtain ⟨cs, v1, v2, v3, v4, v5, v6⟩ := h4
            have w4 : cd.slots.size = n := w4
            have v4 : cs.slots.size = n := v4
            obtain ⟨-, kd1, hkd1, cmd, hkkd⟩ := State.isArrayOf_alike hU.alike w2
            obtain ⟨-, ks1, hks1, cms, hkks⟩ := State.isArrayOf_alike hU.alike v2
            have hcl : vn.toNatClampNeg = vn.toInt.toNat := rfl
            have hvals : ∀ i, i < vn.toNatClampNeg → ∃ x : Int32, cs.slots[i]? = some (.int x) := by
              intro i hi
              have hin : i < cs.slots.size := by rw [v4]; omega
              have h9 := v6 i _ (Array.getElem?_eq_getElem hin)
              have h10 : x_c Y xFull cs.slots[i] := by
                rw [List.getD_eq_getElem?_getD] at h9
                cases hq9 : pre[i]? with
                | none => rw [hq9] at h9; exact x_le_ok c7 h9
                | some w => rw [hq9] at h9; exact x_le_ok (List.all_eq_true.mp c8 w (List.mem_of_getElem? hq9)) h9
              obtain ⟨x, hx9, -⟩ := h10
              exact ⟨x, by rw [Array.getElem?_eq_getElem hin, hx9]⟩
            intro T hT XS
            have hcat := Nat.le_trans (x_ct_ok hC.1 S) c6
            obtain ⟨vm', X', step⟩ := XS.arraycopy hx hown hlink hnat hstat hini (src := bs) (dst := bd) (cs := cs) (cd := cd) (srcPos := 0) (destPos := 0) (n := vn) (by rw [hT]; exact v1) (by rw [hT]; exact w1)
              v2.1 w2.1 v3 w3 hks1 hkd1 hkks hkkd (by simp [refKind]) (by decide) (by decide) (by rw [Int32.lt_iff_toInt_lt]; omega)
              (by rw [v4, z0]; omega) (by rw [w4, z0]; omega)
              (fun vm₁ _ i hi => by
                obtain ⟨x, hx9⟩ := hvals i hi
                have e9 : cs.slots.getD ((0 : Int32).toNatClampNeg + i) .null = .int x := by
                  rw [show (0 : Int32).toNatClampNeg = 0 from rfl, Nat.zero_add, Array.getD_eq_getD_getElem?, hx9]
                  rfl
                rw [e9]
                exact ⟨rfl, trivial⟩)
              (g := F0 m pc ls (.int vn :: .int 0 :: .ref bd :: .int 0 :: .ref bs :: S.map r)) rfl (by rw [hml]; exact hC.2.1.1) (rest := S.map r) rfl (by rw [hb]; exact hd) hfr (by show 2 * 0 + _ + _ ≤ _; omega)
            have hfacts := cd.storeRun_facts (0 : Int32).toNatClampNeg (cs.stretch (0 : Int32).toNatClampNeg vn.toNatClampNeg)
            have hslen : (cs.stretch (0 : Int32).toNatClampNeg vn.toNatClampNeg).length = vn.toNatClampNeg := by simp [Cell.stretch]
            have hget : ∀ (j : Nat) (w : Value), (copied cs cd 0 0 vn).slots[j]? = some w → cs.slots[j]? = some w ∨ cd.slots[j]? = some w := by
              intro j w hj
              have h9 : (copied cs cd 0 0 vn).slots[j]? = _ := cd.storeRun_get (0 : Int32).toNatClampNeg (cs.stretch (0 : Int32).toNatClampNeg vn.toNatClampNeg) j (by rw [hslen, w4, show (0 : Int32).toNatClampNeg = 0 from rfl]; omega)
              rw [h9] at hj
              split at hj
              · next hjj =>
                rw [hslen, show (0 : Int32).toNatClampNeg = 0 from rfl] at hjj
                rw [show (0 : Int32).toNatClampNeg = 0 from rfl] at hj
                have hjn : j < vn.toNatClampNeg := by omega
                obtain ⟨x, hx9⟩ := hvals j hjn
                unfold Cell.stretch at hj
                rw [List.getElem?_map, Nat.sub_zero, List.getElem?_range hjn] at hj
                have e9 : cs.slots.getD (0 + j) .null = w := Option.some.inj hj
                rw [Nat.zero_add, Array.getD_eq_getD_getElem?, hx9] at e9
                left
                rw [hx9, ← e9]
                rfl
              · exact Or.inr hj
            have hbl : bd < H.size := (Array.getElem?_eq_some_iff.mp w1).1
            have hheap : ((T.setVm vm').setCell bd (copied cs cd 0 0 vn)).heap = H.setIfInBounds bd (copied cs cd 0 0 vn) := by rw [← hT]; rfl
            have oq : ∀ q : Nat, q ≠ bd → (H.setIfInBounds bd (copied cs cd 0 0 vn))[q]? = H[q]? := fun q hq => by simp [Array.getElem?_setIfInBounds, Ne.symm hq]
            have hat : (H.setIfInBounds bd (copied cs cd 0 0 vn))[bd]? = some (copied cs cd 0 0 vn) := by simp [Array.getElem?_setIfInBounds, hbl]
            have hH' : x_H D G Zs U Y (H.setIfInBounds bd (copied cs cd 0 0 vn)) := by
              refine hI.1.put hYd oq hg ⟨_, hat, ⟨?_, ?_⟩, ?_, ?_, ?_, fun j w hj => ?_⟩
              · intro k; rw [show (copied cs cd 0 0 vn).vm = cd.vm from hfacts.2.1]; exact w2.1 k
              · rw [show (copied cs cd 0 0 vn).cls = cd.cls from hfacts.1]; exact w2.2
              · rw [show (copied cs cd 0 0 vn).vm = cd.vm from hfacts.2.1]; exact w3
              · show (copied cs cd 0 0 vn).slots.size = n
                rw [show (copied cs cd 0 0 vn).slots.size = cd.slots.size from hfacts.2.2.1]; exact w4
              · intro hr9; rw [show (copied cs cd 0 0 vn).cls = cd.cls from hfacts.1]; exact w5 hr9
              · rcases hget j w hj with h9 | h9
                · exact v6 j w h9
                · exact w6 j w h9
            have hI' := hI.putL (L := (cs.stretch (0 : Int32).toNatClampNeg vn.toNatClampNeg).zipIdx.map fun q => ⟨bd, (0 : Int32).toNatClampNeg + q.2⟩) (fun q hq => by obtain ⟨z, -, rfl⟩ := List.mem_map.mp hq; rfl) hY0 hYd hH' (by simp) oq (fun g hy0 hg2 => by
              cases hg.symm.trans hg2
              rcases hef with h9 | h9
              · rw [Bool.and_eq_true] at h9
                exact ⟨fun hn => absurd (x_anyp h9.1) hn, fun j hj => (x_xn_ok h9.2 hj).elim⟩
              · obtain ⟨z, y1, y2⟩ := List.any_eq_true.mp h9
                simp only [beq_iff_eq] at y2
                obtain ⟨b', f1, f2⟩ := hC.2.2.2.2.2.2 z y1
                rw [y2, ed] at f1
                cases f1
                rw [f2] at hy0; cases hy0)
            have hK1 := hs _ List.mem_cons_self Y (H.setIfInBounds bd (copied cs cd 0 0 vn)) _ r ls (S.map r) hI' ⟨hC.1, hC.2.1, rfl, fun f hf => by
              obtain ⟨hfm, hfc⟩ := List.mem_filter.mp hf
              obtain ⟨b', f1, f2⟩ := hC.2.2.2.1 f hfm
              refine ⟨b', f1, ?_⟩
              have hne := x_dj_ok hC.1 hfc f1 ed
              show ((H.setIfInBounds bd (copied cs cd 0 0 vn))[b']?).bind _ = _
              rw [oq b' hne]; exact f2, hC.2.2.2.2⟩
            obtain ⟨tt, a1, b1⟩ := hK1 _ hheap X'
            exact ⟨tt, step tt a1, b1⟩
          · cases h
        · cases h
      · cases h
    · cases h
  · cases h
end XCP
