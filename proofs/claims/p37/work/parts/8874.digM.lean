def z_PMpart : yP := fun D av Y H v _ _ => ∀ (this : Nat) (w : Int32), av = [.ref this, .int w] → ∀ fa9 fb9 : Int64, z_FM D H this fa9 fb9 → v = some (.long (m_part w fa9 fb9))
theorem paX_d0 : decode xM222.2.1 0 = .ok (.iload_n 1, 1) := dz_ok (by decide +kernel)
theorem paX_d1 : decode xM222.2.1 1 = .ok (.ifCond .ne 10, 3) := dz_ok (by decide +kernel)
theorem paX_d4 : decode xM222.2.1 4 = .ok (.aload_n 0, 1) := dz_ok (by decide +kernel)
theorem paX_d5 : decode xM222.2.1 5 = .ok (.getfield 84, 3) := dz_ok (by decide +kernel)
theorem paX_d8 : decode xM222.2.1 8 = .ok (.goto 24, 3) := dz_ok (by decide +kernel)
theorem paX_d11 : decode xM222.2.1 11 = .ok (.iload_n 1, 1) := dz_ok (by decide +kernel)
theorem paX_d12 : decode xM222.2.1 12 = .ok (.iconst 1, 1) := dz_ok (by decide +kernel)
theorem paX_d13 : decode xM222.2.1 13 = .ok (.if_icmp .ne 10, 3) := dz_ok (by decide +kernel)
theorem paX_d16 : decode xM222.2.1 16 = .ok (.aload_n 0, 1) := dz_ok (by decide +kernel)
theorem paX_d17 : decode xM222.2.1 17 = .ok (.getfield 68, 3) := dz_ok (by decide +kernel)
theorem paX_d20 : decode xM222.2.1 20 = .ok (.goto 12, 3) := dz_ok (by decide +kernel)
theorem paX_d23 : decode xM222.2.1 23 = .ok (.aload_n 0, 1) := dz_ok (by decide +kernel)
theorem paX_d24 : decode xM222.2.1 24 = .ok (.iconst 0, 1) := dz_ok (by decide +kernel)
theorem paX_d25 : decode xM222.2.1 25 = .ok (.ldc_w 288, 3) := dz_ok (by decide +kernel)
theorem paX_d28 : decode xM222.2.1 28 = .ok (.invokevirtual 76, 3) := dz_ok (by decide +kernel)
theorem paX_d31 : decode xM222.2.1 31 = .ok (.i2l, 1) := dz_ok (by decide +kernel)
theorem paX_d32 : decode xM222.2.1 32 = .ok (.lreturn, 1) := dz_ok (by decide +kernel)
theorem ym_partM : y_Met vwCl x_G x_Zs x_Tb x_Nb xM222 y_T z_PMpart := by
  refine y_main (by decide +kernel) (by decide +kernel) x_Tb_good x_Nb_ok ?_
  intro p l e s m below meth c D U Y0 av ls B hI _ hl
  have X := B.1
  have hx := X.1
  have hb := X.2.1
  have hY0 := B.2.2.2.2.1
  obtain ⟨v0, v1, rfl, hv0, ⟨w, rfl, -⟩⟩ := x_two B.2.2.2.2.2
  obtain ⟨this, t0, rfl, ht0, hY_this⟩ := x_ref_at hv0 rfl
  obtain rfl := List.mem_singleton.mp ht0
  replace hl : lv_has ls xM222.2.2.1 [(0, .ref this), (1, .int w)] := hl
  obtain ⟨ga, hs_fa⟩ := y_fldL (k := 6) hI.1 hY_this rfl rfl
  obtain ⟨gb, hs_fb⟩ := y_fldL (k := 7) hI.1 hY_this rfl rfl
  have hfa0 := hs_fa
  have hfb0 := hs_fb
  refine lv_iload_n hx hb paX_d0 rfl (lv_at hl 1 rfl) ?_
  have ec0 : (0 : Int32).toInt = 0 := by decide
  refine lv_if_ne hx hb paX_d1 (tgt := 11) (by decide) (fun q1 => ?_) (fun q1 => ?_)
  · have q1_ : ¬ w.toInt = (0 : Int32).toInt := fun q => q1 (Int32.toInt_inj.mp q)
    refine lv_iload_n hx hb paX_d11 rfl (lv_at hl 1 rfl) ?_
    refine lv_iconst hx hb paX_d12 (v := 1) (by decide) ?_
    have ec1 : (1 : Int32).toInt = 1 := by decide
    refine lv_icmp_ne hx hb paX_d13 (tgt := 23) (by decide) (fun q13 => ?_) (fun q13 => ?_)
    · have q13_ : ¬ w.toInt = (1 : Int32).toInt := fun q => q13 (Int32.toInt_inj.mp q)
      refine lv_aload_n hx hb paX_d23 rfl (lv_at hl 0 rfl) ?_
      refine lv_iconst hx hb paX_d24 (v := 0) (by decide) ?_
      refine lv_ldcw hx hb X.2.2.2.1 (v := (-1000000)) (X.2.2.2.2.1 _ (x_bw87 2 rfl rfl)) paX_d25 ?_
      refine y_call (z := (0, 76, 3, some 17, xM142)) (av := [.ref this, .int (0 : Int32), .int ((-1000000) : Int32)]) (rest := []) (y_cokV (n := 2) (ci := 12) X ym_refuses rfl rfl rfl (x_cons (x_bw68 7 rfl rfl) (x_cons (x_bw68 9 rfl rfl) (x_cons (x_at 33 (by decide +kernel) rfl) (x_cons (x_bw0 9 rfl rfl) x_nilm)))) (x_bw68 10 rfl rfl) (by decide +kernel) ⟨Nat.le_of_ble_eq_true rfl, Nat.le_of_ble_eq_true rfl⟩) hY0 hI rfl paX_d28 hl.1 (Nat.le_of_ble_eq_true rfl) (Nat.le_of_ble_eq_true rfl) (Nat.le_of_ble_eq_true rfl) (y_cons (y_cref hY_this rfl) (y_cons ⟨_, rfl, by show (0 : Int) ≤ _; omega, by show _ ≤ (2 : Int); omega⟩ (y_cons ⟨_, rfl, x_i32 _⟩ y_nil))) rfl (y_recv rfl hY_this) trivial (y_sub_ef rfl) fun v Yn o Hn L ho hr ha hIn hx_ hE hP => ?_
      replace hs_fa := y_Efld hE hY_this rfl (by decide) (by decide) hs_fa
      replace hs_fb := y_Efld hE hY_this rfl (by decide) (by decide) hs_fb
      replace hY_this := y_ext hx_ hI.1 hY_this
      obtain rfl := hP _ _ _ rfl
      clear ho hr ha hE hP hI hx_
      rename x_I _ _ _ _ _ _ _ _ _ _ => hI
      obtain ⟨z31, hg_z31⟩ : ∃ z31 : Int64, (((-1000000) : Int32)).toInt64 = z31 := ⟨_, rfl⟩
      have h_z31 : z31.toInt = (((-1000000) : Int32)).toInt := by rw [← hg_z31]; exact Int32.toInt_toInt64 _
      refine lv_i2l hx hb paX_d31 (v := z31) hg_z31 ?_
      exact y_lreturn B hI rfl rfl List.mem_cons_self ⟨_, rfl, ⟨_, rfl, x_i64 _⟩⟩ (x_cs.mono B.2.2.2.2.2 (y_mon B hI)) (fun t' w' h1 a9 b9 h9 => by cases h1; cases hfa0.symm.trans h9.1; cases hfb0.symm.trans h9.2; refine congrArg (fun x => some (Value.long x)) ?_; unfold m_part; rw [if_neg (by assumption), if_neg (by assumption), ← hg_z31]; decide) (Nat.le_refl _) (Nat.le_refl _) paX_d32
    · have q13_ : w.toInt = (1 : Int32).toInt := by rw [q13]
      refine lv_aload_n hx hb paX_d16 rfl (lv_at hl 0 rfl) ?_
      refine y_getf X (fl203 X.2.2.2.2.1) hI.1 hY_this rfl hs_fb paX_d17 ?_
      refine lv_goto hx hb paX_d20 (tgt := 32) (by decide) ?_
      exact y_lreturn B hI rfl rfl List.mem_cons_self ⟨_, rfl, ⟨_, rfl, x_i64 _⟩⟩ (x_cs.mono B.2.2.2.2.2 (y_mon B hI)) (fun t' w' h1 a9 b9 h9 => by cases h1; cases hfa0.symm.trans h9.1; cases hfb0.symm.trans h9.2; refine congrArg (fun x => some (Value.long x)) ?_; unfold m_part; rw [if_neg (by assumption), if_pos (by assumption)]) (Nat.le_refl _) (Nat.le_refl _) paX_d32
  · have q1_ : w.toInt = (0 : Int32).toInt := by rw [q1]
    refine lv_aload_n hx hb paX_d4 rfl (lv_at hl 0 rfl) ?_
    refine y_getf X (fl204 X.2.2.2.2.1) hI.1 hY_this rfl hs_fa paX_d5 ?_
    refine lv_goto hx hb paX_d8 (tgt := 32) (by decide) ?_
    exact y_lreturn B hI rfl rfl List.mem_cons_self ⟨_, rfl, ⟨_, rfl, x_i64 _⟩⟩ (x_cs.mono B.2.2.2.2.2 (y_mon B hI)) (fun t' w' h1 a9 b9 h9 => by cases h1; cases hfa0.symm.trans h9.1; cases hfb0.symm.trans h9.2; refine congrArg (fun x => some (Value.long x)) ?_; unfold m_part; rw [if_pos (by assumption)]) (Nat.le_refl _) (Nat.le_refl _) paX_d32

