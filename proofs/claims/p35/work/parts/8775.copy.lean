/-! System.arraycopy, exactly: an array of ints, whole, over another of its tag -/
section YCP
variable {p : Program} {l : Launch} {e : Env} {R : Room} {s : State} {m : MethodId} {args : Array Value} {below : List Frame} {meth : Method} {c : Code} {Q : State → Prop}
variable {D : va_G} {G : List xG} {Zs : List xZ} {U : State} {ef : List (Nat × Nat)} {Y0 : xY} {H0 : Heap} {nL : Nat} {cc : ByteArray} {cl : List vw_C} {Tb Nb : List Cond} {own : String} {idx : Nat}
variable {Y : xY} {H : Heap} {locs : List Loc} {cells slots pc : Nat} {ls : Array Slot} {rest : List Value}
theorem y_acp {bd bs t n : Nat} {pre : List xV} {ft : xV} {f : Nat → Int32} {vn : Int32} (X : x_cx p s m args c D U cc nL cl Tb Nb own) (hlink : Cond.methodLink own idx arraycopyName ∈ Tb) (hnat : Cond.native arraycopyName ∈ Tb) (hstat : Cond.static arraycopyName ∈ Tb) (hini : Cond.initialized "java/lang/System" ∈ Tb) (hfr : 1 ≤ R.frames) (hlo : nativeFrameWords "java/lang/System" "arraycopy" 5 + 19 ≤ R.locals)
    (hY0 : ∀ q u, Y0 q = some u → q < H0.size) (hI : x_I D G Zs U ef Y0 H0 Y H locs) (hYd : Y bd = some t) (hYs : Y bs = some t) (hg : G[t]? = some (.inr (.int, n, pre, ft))) (hA : y_A bs n H f) (hvn : vn.toInt = (n : Int)) (he : (t, 0) ∈ ef ∧ x_xn ef t = true) (hls : ls.size = nL) (hcat : (rest.map fun v => v.category).sum ≤ 8) (hd : decode cc pc = .ok (.invokestatic idx, 3))
    (k : ∀ (H' : Heap) (L : List Loc), x_I D G Zs U ef Y0 H0 Y H' L → y_A bd n H' f → (∀ q, q ≠ bd → H'[q]? = H[q]?) → W p l e R s m args below meth c H' L cells slots Q (F0 m (pc + 3) ls rest)) : W p l e R s m args below meth c H locs cells slots Q (F0 m pc ls (.int vn :: .int 0 :: .ref bd :: .int 0 :: .ref bs :: rest)) := by
  obtain ⟨hx, hb, hml, hown, hts, hK, hK0, hU, hNw, hG, hN⟩ := X
  obtain ⟨gd, h1, h2⟩ := hI.1.1 bd _ hYd
  cases h1.symm.trans hg
  obtain ⟨cd, w1, w2, w3, w4, w5, w6⟩ := h2
  obtain ⟨gs, h3, h4⟩ := hI.1.1 bs _ hYs
  cases h3.symm.trans hg
  obtain ⟨cs, v1, v2, v3, v4, v5, v6⟩ := h4
  have w4 : cd.slots.size = n := w4
  have v4 : cs.slots.size = n := v4
  have z0 : (0 : Int32).toInt = 0 := rfl
  obtain ⟨-, kd1, hkd1, cmd, hkkd⟩ := State.isArrayOf_alike hU.alike w2
  obtain ⟨-, ks1, hks1, cms, hkks⟩ := State.isArrayOf_alike hU.alike v2
  have hcl : vn.toNatClampNeg = vn.toInt.toNat := rfl
  have hvals : ∀ i, i < n → cs.slots[i]? = some (.int (f i)) := by
    intro i hi
    have h9 := hA i hi
    unfold y_at at h9
    rw [v1] at h9
    exact h9
  intro T hT XS
  obtain ⟨vm', X', step⟩ := XS.arraycopy hx hown (hts _ hlink) (hts _ hnat) (hts _ hstat) (hts _ hini) (src := bs) (dst := bd) (cs := cs) (cd := cd) (srcPos := 0) (destPos := 0) (n := vn) (by rw [hT]; exact v1) (by rw [hT]; exact w1)
    v2.1 w2.1 v3 w3 hks1 hkd1 hkks hkkd (by simp [refKind]) (by decide) (by decide) (by rw [Int32.lt_iff_toInt_lt]; omega)
    (by rw [v4, z0]; omega) (by rw [w4, z0]; omega)
    (fun vm₁ _ i hi => by
      have e9 : cs.slots.getD ((0 : Int32).toNatClampNeg + i) .null = .int (f i) := by
        rw [show (0 : Int32).toNatClampNeg = 0 from rfl, Nat.zero_add, Array.getD_eq_getD_getElem?, hvals i (by omega)]
        rfl
      rw [e9]
      exact ⟨rfl, trivial⟩)
    (g := F0 m pc ls (.int vn :: .int 0 :: .ref bd :: .int 0 :: .ref bs :: rest)) rfl (by rw [hml]; exact hls) (rest := rest) rfl (by rw [hb]; exact hd) hfr (by show 2 * 0 + _ + _ ≤ _; omega)
  have hfacts := cd.storeRun_facts (0 : Int32).toNatClampNeg (cs.stretch (0 : Int32).toNatClampNeg vn.toNatClampNeg)
  have hslen : (cs.stretch (0 : Int32).toNatClampNeg vn.toNatClampNeg).length = vn.toNatClampNeg := by simp [Cell.stretch]
  have hget : ∀ j, j < n → (copied cs cd 0 0 vn).slots[j]? = some (.int (f j)) := by
    intro j hjn
    have h9 : (copied cs cd 0 0 vn).slots[j]? = _ := cd.storeRun_get (0 : Int32).toNatClampNeg (cs.stretch (0 : Int32).toNatClampNeg vn.toNatClampNeg) j (by rw [hslen, w4, show (0 : Int32).toNatClampNeg = 0 from rfl]; omega)
    rw [h9]
    split
    · rw [show (0 : Int32).toNatClampNeg = 0 from rfl]
      unfold Cell.stretch
      rw [List.getElem?_map, Nat.sub_zero, List.getElem?_range (by omega)]
      show some (cs.slots.getD (0 + j) .null) = _
      rw [Nat.zero_add, Array.getD_eq_getD_getElem?, hvals j hjn]
      rfl
    · next hjj => exact absurd ⟨Nat.zero_le _, by rw [hslen, show (0 : Int32).toNatClampNeg = 0 from rfl]; omega⟩ hjj
  have hbl : bd < H.size := (Array.getElem?_eq_some_iff.mp w1).1
  have hheap : ((T.setVm vm').setCell bd (copied cs cd 0 0 vn)).heap = H.setIfInBounds bd (copied cs cd 0 0 vn) := by rw [← hT]; rfl
  have oq : ∀ q : Nat, q ≠ bd → (H.setIfInBounds bd (copied cs cd 0 0 vn))[q]? = H[q]? := fun q hq => by simp [Array.getElem?_setIfInBounds, Ne.symm hq]
  have hat : (H.setIfInBounds bd (copied cs cd 0 0 vn))[bd]? = some (copied cs cd 0 0 vn) := by simp [Array.getElem?_setIfInBounds, hbl]
  have hsz : (copied cs cd 0 0 vn).slots.size = n := by rw [show (copied cs cd 0 0 vn).slots.size = cd.slots.size from hfacts.2.2.1]; exact w4
  have hH' : x_H D G Zs U Y (H.setIfInBounds bd (copied cs cd 0 0 vn)) := by
    refine hI.1.put hYd oq hg ⟨_, hat, ⟨?_, ?_⟩, ?_, ?_, ?_, fun j w hj => ?_⟩
    · intro k; rw [show (copied cs cd 0 0 vn).vm = cd.vm from hfacts.2.1]; exact w2.1 k
    · rw [show (copied cs cd 0 0 vn).cls = cd.cls from hfacts.1]; exact w2.2
    · rw [show (copied cs cd 0 0 vn).vm = cd.vm from hfacts.2.1]; exact w3
    · exact hsz
    · intro hr9; rw [show (copied cs cd 0 0 vn).cls = cd.cls from hfacts.1]; exact w5 hr9
    · have hjn : j < n := by rw [← hsz]; exact (Array.getElem?_eq_some_iff.mp hj).1
      rw [hget j hjn] at hj
      exact v6 j w ((hvals j hjn).trans hj)
  have hI' := hI.putL (L := (cs.stretch (0 : Int32).toNatClampNeg vn.toNatClampNeg).zipIdx.map fun q => ⟨bd, (0 : Int32).toNatClampNeg + q.2⟩) (fun q hq => by obtain ⟨z, -, rfl⟩ := List.mem_map.mp hq; rfl) hY0 hYd hH' (by simp) oq (fun g hy0 hg2 => by
    cases hg.symm.trans hg2
    exact ⟨fun hn => absurd he.1 hn, fun j hj => (x_xn_ok he.2 hj).elim⟩)
  have hK1 := k (H.setIfInBounds bd (copied cs cd 0 0 vn)) _ hI' (fun j hj => by unfold y_at; rw [hat]; exact hget j hj) oq
  obtain ⟨tt, a1, b1⟩ := hK1 _ hheap X'
  exact ⟨tt, step tt a1, b1⟩
/-- a reference of one of several tags, into an array of references -/
theorem y_aastM {b t N bv tv : Nat} {C : String} {ft : xV} {i : Int32} (X : x_cx p s m args c D U cc nL cl Tb Nb own) (hY0 : ∀ q u, Y0 q = some u → q < H0.size) (hI : x_I D G Zs U ef Y0 H0 Y H locs) (hY : Y b = some t) (hg : G[t]? = some (.inr (.object C, N, [], ft))) (hYv : Y bv = some tv) (hok : x_sok cl G s (t, tv)) (h0 : 0 ≤ i.toInt) (h1 : i.toInt < (N : Int)) (hv : x_c Y ft (.ref bv)) (he : (t, 0) ∈ ef ∧ x_xn ef t = true) (hd : decode cc pc = .ok (.aastore, 1))
    (kk : ∀ (H' : Heap) (L : List Loc), x_I D G Zs U ef Y0 H0 Y H' L → y_at b i.toInt.toNat H' = some (.ref bv) → (∀ j, j ≠ i.toInt.toNat → y_at b j H' = y_at b j H) → (∀ q, q ≠ b → H'[q]? = H[q]?) → W p l e R s m args below meth c H' L cells slots Q (F0 m (pc + 1) ls rest)) : W p l e R s m args below meth c H locs cells slots Q (F0 m pc ls (.ref bv :: .int i :: .ref b :: rest)) := by
  obtain ⟨n', pre', ft', C', ci, fts, r, g1, g2, g3, g4⟩ := hok
  cases g1.symm.trans hg
  exact y_aast X hY0 hI hY hg hYv g2 g3 g4 h0 h1 hv he hd kk
end YCP
