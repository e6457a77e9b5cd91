/-! ROWS' CONSTRUCTOR -/
theorem y_newaN {p : Program} {l : Launch} {e : Env} {R : Room} {s : State} {m : MethodId} {args : Array Value} {below : List Frame} {meth : Method} {c : Code} {Q : State → Prop} {D : va_G} {G : List xG} {Zs : List xZ} {U : State} {ef : List (Nat × Nat)} {Y0 : xY} {H0 : Heap} {cc : ByteArray} {nL : Nat} {cl : List vw_C} {Tb Nb : List Cond} {own : String} {Y : xY} {H : Heap} {locs : List Loc} {cells slots pc : Nat} {ls : Array Slot} {rest : List Value} {at_ : ArrayType} {tag k : Nat} {v : Int32} {pre : List xV} {ft : xV} (X : x_cx p s m args c D U cc nL cl Tb Nb own) (hY0 : ∀ q u, Y0 q = some u → q < H0.size) (hI : x_I D G Zs U ef Y0 H0 Y H locs) (g1 : G[tag]? = some (.inr (newarray.typeOf at_, k, pre, ft))) (g2 : (newarray.typeOf at_).isReference = false) (g3 : k * componentBytes (newarray.typeOf at_) ≤ 536870912) (g4 : (Cond.arrayClass (newarray.typeOf at_)).before args s = true) (g5 : ∀ (Y : xY) (j : Nat), x_c Y (pre.getD j ft) (defaultValue (newarray.typeOf at_))) (hvn : v.toInt = (k : Int)) (hmc : cells + 1 ≤ R.cells) (hms : slots + k ≤ R.slots) (hd : decode cc pc = .ok (.newarray at_, 2))
    (kk : ∀ (Yn : xY) (H1 : Heap) (b : Nat), y_new D G Zs U ef Y0 H0 Y H locs tag Yn H1 b → (∀ q u, Y q = some u → q ≠ b) → W p l e R s m args below meth c H1 locs (cells + 1) (slots + k) Q (F0 m (pc + 2) ls (.ref b :: rest))) : W p l e R s m args below meth c H locs cells slots Q (F0 m pc ls (.int v :: rest)) := by
  obtain ⟨hx, hb, hml, hown, hts, hK, hK0, hU, hNw, hG, hN⟩ := X
  have hv0 : ¬ v < 0 := by
    rw [Int32.lt_iff_toInt_lt]
    have z0 : (0 : Int32).toInt = 0 := rfl
    omega
  have hvN : v.toNatClampNeg = k := by
    have hcl : v.toNatClampNeg = v.toInt.toNat := rfl
    rw [hcl]; omega
  refine va_newaK hx hb g4 rfl hd rfl hv0 hvN g3 hmc hms rfl fun H1 cA e1 z1 o1 hAr hNm => ?_
  refine kk _ H1 _ (y_new_of hI (y_made hY0 hI g1 z1 o1 ?_) o1) (fun q u hq => Nat.ne_of_lt (hI.1.lt hq))
  refine ⟨_, e1, State.isArrayOf_alike hU.alike.symm (hAr k _), fun hq => (by cases hq), arrV_size _ _ _, fun hq => absurd (g2.symm.trans hq) (by decide), fun j w hj => ?_⟩
  have hjn : j < k := by
    have := (Array.getElem?_eq_some_iff.mp hj).1
    rw [arrV_size] at this
    exact this
  rw [arrV_read _ _ hjn] at hj
  cases hj
  exact g5 _ j
def z_Prox : yP := fun D av _ _ _ _ H' => ∀ this : Nat, av = [.ref this] → ∃ rd rn : Nat, x_sl D 5 4 this H' = some (.ref rd) ∧ x_sl D 5 5 this H' = some (.ref rn) ∧ rd ≠ rn
theorem roiq_d0 : decode xM1021.2.1 0 = .ok (.aload_n 0, 1) := dz_ok (by decide +kernel)
theorem roiq_d1 : decode xM1021.2.1 1 = .ok (.invokespecial 3, 3) := dz_ok (by decide +kernel)
theorem roiq_d4 : decode xM1021.2.1 4 = .ok (.aload_n 0, 1) := dz_ok (by decide +kernel)
theorem roiq_d5 : decode xM1021.2.1 5 = .ok (.sipush 1024, 3) := dz_ok (by decide +kernel)
theorem roiq_d8 : decode xM1021.2.1 8 = .ok (.newarray .int, 2) := dz_ok (by decide +kernel)
theorem roiq_d10 : decode xM1021.2.1 10 = .ok (.putfield 9, 3) := dz_ok (by decide +kernel)
theorem roiq_d13 : decode xM1021.2.1 13 = .ok (.aload_n 0, 1) := dz_ok (by decide +kernel)
theorem roiq_d14 : decode xM1021.2.1 14 = .ok (.sipush 1024, 3) := dz_ok (by decide +kernel)
theorem roiq_d17 : decode xM1021.2.1 17 = .ok (.newarray .int, 2) := dz_ok (by decide +kernel)
theorem roiq_d19 : decode xM1021.2.1 19 = .ok (.putfield 15, 3) := dz_ok (by decide +kernel)
theorem roiq_d22 : decode xM1021.2.1 22 = .ok (.aload_n 0, 1) := dz_ok (by decide +kernel)
theorem roiq_d23 : decode xM1021.2.1 23 = .ok (.sipush 1024, 3) := dz_ok (by decide +kernel)
theorem roiq_d26 : decode xM1021.2.1 26 = .ok (.newarray .int, 2) := dz_ok (by decide +kernel)
theorem roiq_d28 : decode xM1021.2.1 28 = .ok (.putfield 18, 3) := dz_ok (by decide +kernel)
theorem roiq_d31 : decode xM1021.2.1 31 = .ok (.aload_n 0, 1) := dz_ok (by decide +kernel)
theorem roiq_d32 : decode xM1021.2.1 32 = .ok (.sipush 1024, 3) := dz_ok (by decide +kernel)
theorem roiq_d35 : decode xM1021.2.1 35 = .ok (.newarray .int, 2) := dz_ok (by decide +kernel)
theorem roiq_d37 : decode xM1021.2.1 37 = .ok (.putfield 21, 3) := dz_ok (by decide +kernel)
theorem roiq_d40 : decode xM1021.2.1 40 = .ok (.aload_n 0, 1) := dz_ok (by decide +kernel)
theorem roiq_d41 : decode xM1021.2.1 41 = .ok (.sipush 1024, 3) := dz_ok (by decide +kernel)
theorem roiq_d44 : decode xM1021.2.1 44 = .ok (.newarray .int, 2) := dz_ok (by decide +kernel)
theorem roiq_d46 : decode xM1021.2.1 46 = .ok (.putfield 24, 3) := dz_ok (by decide +kernel)
theorem roiq_d49 : decode xM1021.2.1 49 = .ok (.return_, 1) := dz_ok (by decide +kernel)
theorem ym_rowsInitX : y_Met vwCl x_G x_Zs x_Tb x_Nb xM1021 y_T z_Prox := by
  refine y_main (by decide +kernel) (by decide +kernel) x_Tb_good x_Nb_ok ?_
  intro p l e s m below meth c D U Y0 av ls B hI hpre hl
  have X := B.1
  have hx := X.1
  have hb := X.2.1
  have hY0 := B.2.2.2.2.1
  have hts := X.2.2.2.2.1
  have hnm := B.2.2.2.1
  obtain ⟨v0, rfl, hv0⟩ := x_one B.2.2.2.2.2
  obtain ⟨this, t0, rfl, ht0, hY_this⟩ := x_ref_at hv0 rfl
  obtain rfl := List.mem_singleton.mp ht0
  replace hl : lv_has ls xM1021.2.2.1 [(0, .ref this)] := hl
  refine lv_aload_n hx hb roiq_d0 rfl (lv_at hl 0 rfl) ?_
  refine y_oi X (hts _ (x_bw15 3 rfl rfl)) (hts _ (x_bw1 12 rfl rfl)) (hts _ (x_bw1 13 rfl rfl)) (Nat.le_of_ble_eq_true rfl) (Nat.le_of_ble_eq_true rfl) hl.1 (Nat.le_of_ble_eq_true rfl) roiq_d1 ?_
  refine lv_aload_n hx hb roiq_d4 rfl (lv_at hl 0 rfl) ?_
  refine lv_sipush hx hb roiq_d5 (v := 1024) (by decide) ?_
  have ec1024 : (1024 : Int32).toInt = 1024 := by decide
  refine y_newa (tag := 35) (k := 1024) X hY0 hI rfl rfl (by decide) (hts _ (x_bw5 1 rfl rfl)) (fun Y j => x_dfa (by decide +kernel) Y j) (by decide) (Nat.le_of_ble_eq_true rfl) (Nat.le_of_ble_eq_true rfl) roiq_d8 fun Yn H n8 hnw => ?_
  obtain ⟨hIn, hmo, hY_n8, hfr_n8, hke⟩ := hnw
  replace hY_this := hmo _ _ hY_this
  replace hI := hIn
  clear hIn hmo hke
  refine y_putf X (fw219 X.2.2.2.2.1 hnm) hY0 hI hY_this rfl rfl (y_crefA hY_n8 rfl) (by decide +kernel) roiq_d10 fun H sl hI ho hs hk => ?_
  replace hs := hs
  have hs10 := hs
  refine lv_aload_n hx hb roiq_d13 rfl (lv_at hl 0 rfl) ?_
  refine lv_sipush hx hb roiq_d14 (v := 1024) (by decide) ?_
  refine y_newa (tag := 36) (k := 1024) X hY0 hI rfl rfl (by decide) (hts _ (x_bw5 1 rfl rfl)) (fun Y j => x_dfa (by decide +kernel) Y j) (by decide) (Nat.le_of_ble_eq_true rfl) (Nat.le_of_ble_eq_true rfl) roiq_d17 fun Yn H n17 hnw => ?_
  obtain ⟨hIn, hmo, hY_n17, hfr_n17, hke⟩ := hnw
  replace hs10 := y_slk hs10 (hke _ _ hY_this)
  replace hY_this := hmo _ _ hY_this
  replace hY_n8 := hmo _ _ hY_n8
  replace hI := hIn
  clear hIn hmo hke
  refine y_putf X (fw220 X.2.2.2.2.1 hnm) hY0 hI hY_this rfl rfl (y_crefA hY_n17 rfl) (by decide +kernel) roiq_d19 fun H sl hI ho hs hk => ?_
  replace hs10 := hk _ _ (by decide +kernel) (by decide) hs10
  replace hs := hs
  have hs19 := hs
  refine lv_aload_n hx hb roiq_d22 rfl (lv_at hl 0 rfl) ?_
  refine lv_sipush hx hb roiq_d23 (v := 1024) (by decide) ?_
  refine y_newa (tag := 37) (k := 1024) X hY0 hI rfl rfl (by decide) (hts _ (x_bw5 1 rfl rfl)) (fun Y j => x_dfa (by decide +kernel) Y j) (by decide) (Nat.le_of_ble_eq_true rfl) (Nat.le_of_ble_eq_true rfl) roiq_d26 fun Yn H n26 hnw => ?_
  obtain ⟨hIn, hmo, hY_n26, hfr_n26, hke⟩ := hnw
  replace hs10 := y_slk hs10 (hke _ _ hY_this)
  replace hs19 := y_slk hs19 (hke _ _ hY_this)
  replace hY_this := hmo _ _ hY_this
  replace hY_n8 := hmo _ _ hY_n8
  replace hY_n17 := hmo _ _ hY_n17
  replace hI := hIn
  clear hIn hmo hke
  refine y_putf X (fw221 X.2.2.2.2.1 hnm) hY0 hI hY_this rfl rfl (y_crefA hY_n26 rfl) (by decide +kernel) roiq_d28 fun H sl hI ho hs hk => ?_
  replace hs10 := hk _ _ (by decide +kernel) (by decide) hs10
  replace hs19 := hk _ _ (by decide +kernel) (by decide) hs19
  replace hs := hs
  have hs28 := hs
  refine lv_aload_n hx hb roiq_d31 rfl (lv_at hl 0 rfl) ?_
  refine lv_sipush hx hb roiq_d32 (v := 1024) (by decide) ?_
  refine y_newa (tag := 38) (k := 1024) X hY0 hI rfl rfl (by decide) (hts _ (x_bw5 1 rfl rfl)) (fun Y j => x_dfa (by decide +kernel) Y j) (by decide) (Nat.le_of_ble_eq_true rfl) (Nat.le_of_ble_eq_true rfl) roiq_d35 fun Yn H n35 hnw => ?_
  obtain ⟨hIn, hmo, hY_n35, hfr_n35, hke⟩ := hnw
  replace hs10 := y_slk hs10 (hke _ _ hY_this)
  replace hs19 := y_slk hs19 (hke _ _ hY_this)
  replace hs28 := y_slk hs28 (hke _ _ hY_this)
  replace hY_this := hmo _ _ hY_this
  replace hY_n8 := hmo _ _ hY_n8
  replace hY_n17 := hmo _ _ hY_n17
  replace hY_n26 := hmo _ _ hY_n26
  replace hI := hIn
  clear hIn hmo hke
  refine y_putf X (fw222 X.2.2.2.2.1) hY0 hI hY_this rfl rfl (y_crefA hY_n35 rfl) (by decide +kernel) roiq_d37 fun H sl hI ho hs hk => ?_
  replace hs10 := hk _ _ (by decide +kernel) (by decide) hs10
  replace hs19 := hk _ _ (by decide +kernel) (by decide) hs19
  replace hs28 := hk _ _ (by decide +kernel) (by decide) hs28
  replace hs := hs
  have hs37 := hs
  refine lv_aload_n hx hb roiq_d40 rfl (lv_at hl 0 rfl) ?_
  refine lv_sipush hx hb roiq_d41 (v := 1024) (by decide) ?_
  refine y_newaN (tag := 38) (k := 1024) X hY0 hI rfl rfl (by decide) (hts _ (x_bw5 1 rfl rfl)) (fun Y j => x_dfa (by decide +kernel) Y j) (by decide) (Nat.le_of_ble_eq_true rfl) (Nat.le_of_ble_eq_true rfl) roiq_d44 fun Yn H n44 hnw hfn => ?_
  have hne44 : n35 ≠ n44 := hfn _ _ hY_n35
  obtain ⟨hIn, hmo, hY_n44, hfr_n44, hke⟩ := hnw
  replace hs10 := y_slk hs10 (hke _ _ hY_this)
  replace hs19 := y_slk hs19 (hke _ _ hY_this)
  replace hs28 := y_slk hs28 (hke _ _ hY_this)
  replace hs37 := y_slk hs37 (hke _ _ hY_this)
  replace hY_this := hmo _ _ hY_this
  replace hY_n8 := hmo _ _ hY_n8
  replace hY_n17 := hmo _ _ hY_n17
  replace hY_n26 := hmo _ _ hY_n26
  replace hY_n35 := hmo _ _ hY_n35
  replace hI := hIn
  clear hIn hmo hke
  refine y_putf X (fw223 X.2.2.2.2.1) hY0 hI hY_this rfl rfl (y_crefA hY_n44 rfl) (by decide +kernel) roiq_d46 fun H sl hI ho hs hk => ?_
  replace hs10 := hk _ _ (by decide +kernel) (by decide) hs10
  replace hs19 := hk _ _ (by decide +kernel) (by decide) hs19
  replace hs28 := hk _ _ (by decide +kernel) (by decide) hs28
  replace hs37 := hk _ _ (by decide +kernel) (by decide) hs37
  replace hs := hs
  have hs46 := hs
  have hYC := hY_this
  have hf : ∀ (k : Nat) (ft : xV), ([xR false [35], xI 0 1024, xR false [36], xR false [37], xR false [38], xR false [38]])[k]? = some ft → ∃ v : Value, x_sl D 5 k this H = some v ∧ x_c Yn ft v ∧ x_nrT 9 ft = true := fun k ft hk => match k, hk with
      | 0, hk => by cases hk; exact ⟨_, hs10, y_crefA hY_n8 rfl, rfl⟩
      | 1, hk => by cases hk; obtain ⟨v, e1, e2⟩ := y_fld (k := 1) hI.1 hYC rfl rfl; exact ⟨v, e1, e2, rfl⟩
      | 2, hk => by cases hk; exact ⟨_, hs19, y_crefA hY_n17 rfl, rfl⟩
      | 3, hk => by cases hk; exact ⟨_, hs28, y_crefA hY_n26 rfl, rfl⟩
      | 4, hk => by cases hk; exact ⟨_, hs37, y_crefA hY_n35 rfl, rfl⟩
      | 5, hk => by cases hk; exact ⟨_, hs46, y_crefA hY_n44 rfl, rfl⟩
      | k + 6, hk => by cases hk
  exact y_retC (o := (5, [xR false [35], xI 0 1024, xR false [36], xR false [37], xR false [38], xR false [38]])) B hI rfl rfl hYC rfl rfl rfl rfl (by decide +kernel) (by decide +kernel) List.mem_cons_self hf (fun t' h1 => by cases h1; exact ⟨n35, n44, hs37, hs46, hne44⟩) (by exact Nat.le_of_ble_eq_true rfl) (by exact Nat.le_of_ble_eq_true rfl) roiq_d49

