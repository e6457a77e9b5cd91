def z_PTpart : yP := fun D av Y H v _ _ => ∀ (this : Nat) (w : Int32) (f : Nat → Int32) (K : Nat → Option (Nat → Int32)) (t9 : Nat → Int32) (n9 : Int32), av = [.ref this, .int w] → z_RC D Y H this f K t9 n9 → ∀ (fa fb : Int64), z_FR D H this fa fb → v = some (.long (m_part w fa fb))
theorem paq_d0 : decode xM129.2.1 0 = .ok (.iload_n 1, 1) := dz_ok (by decide +kernel)
theorem paq_d1 : decode xM129.2.1 1 = .ok (.iconst 0, 1) := dz_ok (by decide +kernel)
theorem paq_d2 : decode xM129.2.1 2 = .ok (.iconst 1, 1) := dz_ok (by decide +kernel)
theorem paq_d3 : decode xM129.2.1 3 = .ok (.invokestatic 88, 3) := dz_ok (by decide +kernel)
theorem paq_d6 : decode xM129.2.1 6 = .ok (.ifCond .ne 14, 3) := dz_ok (by decide +kernel)
theorem paq_d9 : decode xM129.2.1 9 = .ok (.aload_n 0, 1) := dz_ok (by decide +kernel)
theorem paq_d10 : decode xM129.2.1 10 = .ok (.bipush (-2), 2) := dz_ok (by decide +kernel)
theorem paq_d12 : decode xM129.2.1 12 = .ok (.ldc_w 292, 3) := dz_ok (by decide +kernel)
theorem paq_d15 : decode xM129.2.1 15 = .ok (.invokevirtual 221, 3) := dz_ok (by decide +kernel)
theorem paq_d18 : decode xM129.2.1 18 = .ok (.i2l, 1) := dz_ok (by decide +kernel)
theorem paq_d19 : decode xM129.2.1 19 = .ok (.lreturn, 1) := dz_ok (by decide +kernel)
theorem paq_d20 : decode xM129.2.1 20 = .ok (.iload_n 1, 1) := dz_ok (by decide +kernel)
theorem paq_d21 : decode xM129.2.1 21 = .ok (.ifCond .ne 10, 3) := dz_ok (by decide +kernel)
theorem paq_d24 : decode xM129.2.1 24 = .ok (.aload_n 0, 1) := dz_ok (by decide +kernel)
theorem paq_d25 : decode xM129.2.1 25 = .ok (.getfield 48, 3) := dz_ok (by decide +kernel)
theorem paq_d28 : decode xM129.2.1 28 = .ok (.goto 7, 3) := dz_ok (by decide +kernel)
theorem paq_d31 : decode xM129.2.1 31 = .ok (.aload_n 0, 1) := dz_ok (by decide +kernel)
theorem paq_d32 : decode xM129.2.1 32 = .ok (.getfield 52, 3) := dz_ok (by decide +kernel)
theorem paq_d35 : decode xM129.2.1 35 = .ok (.lreturn, 1) := dz_ok (by decide +kernel)
theorem ym_Tpart : y_Met vwCl x_G x_Zs x_Tb x_Nb xM129 z_ATF z_PTpart := by
  refine y_main (by decide +kernel) (by decide +kernel) x_Tb_good x_Nb_ok ?_
  intro p l e s m below meth c D U Y0 av ls B hI hpre hl
  have X := B.1
  have hx := X.1
  have hb := X.2.1
  have hY0 := B.2.2.2.2.1
  obtain ⟨v0, v1, rfl, hv0, ⟨w, rfl, -⟩⟩ := x_two B.2.2.2.2.2
  obtain ⟨this, t0, rfl, ht0, hY_this⟩ := x_ref_at hv0 rfl
  obtain rfl := List.mem_singleton.mp ht0
  replace hl : lv_has ls xM129.2.2.1 [(0, .ref this), (1, .int w)] := hl
  obtain ⟨fa, hs_fa⟩ := y_fldL (k := 7) hI.1 hY_this rfl rfl
  obtain ⟨fb, hs_fb⟩ := y_fldL (k := 8) hI.1 hY_this rfl rfl
  have hfa0 := hs_fa
  have hfb0 := hs_fb
  refine lv_iload_n hx hb paq_d0 rfl (lv_at hl 1 rfl) ?_
  refine lv_iconst hx hb paq_d1 (v := 0) (by decide) ?_
  have ec0 : (0 : Int32).toInt = 0 := by decide
  refine lv_iconst hx hb paq_d2 (v := 1) (by decide) ?_
  have ec1 : (1 : Int32).toInt = 1 := by decide
  refine y_call (z := (1, 88, 3, none, xM10)) (av := [.int w, .int (0 : Int32), .int (1 : Int32)]) (rest := []) (y_cokS (n := 3) X ym_within (x_cons (x_bw19 15 rfl rfl) (x_cons (x_bw19 1 rfl rfl) (x_cons (x_bw0 1 rfl rfl) x_nilm))) (x_bw19 2 rfl rfl) (by decide +kernel) ⟨Nat.le_of_ble_eq_true rfl, Nat.le_of_ble_eq_true rfl⟩) hY0 hI rfl paq_d3 hl.1 (Nat.le_of_ble_eq_true rfl) (Nat.le_of_ble_eq_true rfl) (Nat.le_of_ble_eq_true rfl) (y_cons ⟨_, rfl, x_i32 _⟩ (y_cons ⟨_, rfl, x_i32 _⟩ (y_cons ⟨_, rfl, x_i32 _⟩ y_nil))) rfl (y_norecv rfl) trivial (y_sub_ef rfl) fun v Yn o Hn L ho hr ha hIn hx_ hE hP => ?_
  replace hs_fa := y_Efld hE hY_this rfl (by decide) (by decide) hs_fa
  replace hs_fb := y_Efld hE hY_this rfl (by decide) (by decide) hs_fb
  replace hY_this := y_ext hx_ hI.1 hY_this
  obtain ⟨r3, rfl, hin_r3, hout_r3⟩ := hP _ _ _ rfl
  clear ho hr ha hE hP hI hx_
  rename x_I _ _ _ _ _ _ _ _ _ _ => hI
  refine lv_if_ne hx hb paq_d6 (tgt := 20) (by decide) (fun q6 => ?_) (fun q6 => ?_)
  · have q6_ : ¬ r3.toInt = (0 : Int32).toInt := fun q => q6 (Int32.toInt_inj.mp q)
    refine lv_iload_n hx hb paq_d20 rfl (lv_at hl 1 rfl) ?_
    refine lv_if_ne hx hb paq_d21 (tgt := 31) (by decide) (fun q21 => ?_) (fun q21 => ?_)
    · have q21_ : ¬ w.toInt = (0 : Int32).toInt := fun q => q21 (Int32.toInt_inj.mp q)
      refine lv_aload_n hx hb paq_d31 rfl (lv_at hl 0 rfl) ?_
      refine y_getf X (fl157 X.2.2.2.2.1) hI.1 hY_this rfl hs_fb paq_d32 ?_
      exact y_lreturn B hI rfl rfl List.mem_cons_self ⟨_, rfl, ⟨_, rfl, x_i64 _⟩⟩ (x_cs.mono B.2.2.2.2.2 (y_mon B hI)) (fun t' w' f' K' tt' nn' h1 h2 a9 b9 h9 => by cases h1; cases hfa0.symm.trans h9.1; cases hfb0.symm.trans h9.2; refine congrArg (fun x => some (Value.long x)) ?_; unfold m_part; have hw9 := hin_r3 (by assumption); rw [if_neg (by assumption), if_pos (Int32.toInt_inj.mp (by rw [m_c1]; have h0 : ¬ w.toInt = 0 := (fun q9 => absurd (show w = 0 from Int32.toInt_inj.mp (q9.trans m_c0.symm)) (by assumption)); omega))]) (Nat.le_refl _) (Nat.le_refl _) paq_d35
    · have q21_ : w.toInt = (0 : Int32).toInt := by rw [q21]
      refine lv_aload_n hx hb paq_d24 rfl (lv_at hl 0 rfl) ?_
      refine y_getf X (fl156 X.2.2.2.2.1) hI.1 hY_this rfl hs_fa paq_d25 ?_
      refine lv_goto hx hb paq_d28 (tgt := 35) (by decide) ?_
      exact y_lreturn B hI rfl rfl List.mem_cons_self ⟨_, rfl, ⟨_, rfl, x_i64 _⟩⟩ (x_cs.mono B.2.2.2.2.2 (y_mon B hI)) (fun t' w' f' K' tt' nn' h1 h2 a9 b9 h9 => by cases h1; cases hfa0.symm.trans h9.1; cases hfb0.symm.trans h9.2; refine congrArg (fun x => some (Value.long x)) ?_; unfold m_part; rw [if_pos (by assumption)]) (Nat.le_refl _) (Nat.le_refl _) paq_d35
  · have q6_ : r3.toInt = (0 : Int32).toInt := by rw [q6]
    refine lv_aload_n hx hb paq_d9 rfl (lv_at hl 0 rfl) ?_
    refine lv_bipush hx hb paq_d10 (v := (-2)) (by decide) ?_
    have ecm2 : ((-2) : Int32).toInt = (-2) := by decide
    refine lv_ldcw hx hb X.2.2.2.1 (v := (-1000000)) (X.2.2.2.2.1 _ (x_bw58 14 rfl rfl)) paq_d12 ?_
    refine y_call (z := (0, 221, 3, some 0, xM7)) (av := [.ref this, .int ((-2) : Int32), .int ((-1000000) : Int32)]) (rest := []) (y_cokV (n := 2) (ci := 11) X ym_countedAs rfl rfl rfl (x_cons (x_bw19 11 rfl rfl) (x_cons (x_bw19 13 rfl rfl) (x_cons (x_at 2 (by decide +kernel) rfl) (x_cons (x_bw0 1 rfl rfl) x_nilm)))) (x_bw19 14 rfl rfl) (by decide +kernel) ⟨Nat.le_of_ble_eq_true rfl, Nat.le_of_ble_eq_true rfl⟩) hY0 hI rfl paq_d15 hl.1 (Nat.le_of_ble_eq_true rfl) (Nat.le_of_ble_eq_true rfl) (Nat.le_of_ble_eq_true rfl) (y_cons (y_cref hY_this rfl) (y_cons ⟨_, rfl, x_i32 _⟩ (y_cons ⟨_, rfl, x_i32 _⟩ y_nil))) rfl (y_recv rfl hY_this) trivial (y_sub_ef rfl) fun v Yn o Hn L ho hr ha hIn hx_ hE hP => ?_
    replace hs_fa := y_Efld hE hY_this rfl (by decide) (by decide) hs_fa
    replace hs_fb := y_Efld hE hY_this rfl (by decide) (by decide) hs_fb
    replace hY_this := y_ext hx_ hI.1 hY_this
    obtain rfl := hP _ _ _ rfl
    clear ho hr ha hE hP hI hx_
    rename x_I _ _ _ _ _ _ _ _ _ _ => hI
    obtain ⟨z18, hg_z18⟩ : ∃ z18 : Int64, (((-1000000) : Int32)).toInt64 = z18 := ⟨_, rfl⟩
    have h_z18 : z18.toInt = (((-1000000) : Int32)).toInt := by rw [← hg_z18]; exact Int32.toInt_toInt64 _
    refine lv_i2l hx hb paq_d18 (v := z18) hg_z18 ?_
    exact y_lreturn B hI rfl rfl List.mem_cons_self ⟨_, rfl, ⟨_, rfl, x_i64 _⟩⟩ (x_cs.mono B.2.2.2.2.2 (y_mon B hI)) (fun t' w' f' K' tt' nn' h1 h2 a9 b9 h9 => by cases h1; cases hfa0.symm.trans h9.1; cases hfb0.symm.trans h9.2; refine congrArg (fun x => some (Value.long x)) ?_; unfold m_part; have hw9 := hout_r3 (by assumption); rw [if_neg (fun q9 => by rw [q9, m_c0] at hw9; omega), if_neg (fun q9 => by rw [q9, m_c1] at hw9; omega), ← hg_z18]; decide) (Nat.le_refl _) (Nat.le_refl _) paq_d19

