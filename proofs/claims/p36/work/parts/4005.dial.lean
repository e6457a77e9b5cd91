
def xM23 : xM := (⟨"TwinFires$Land", "setDial", "(II)I"⟩, prog_4_method_11_code, 4, some .int, [xR false [2], xF, xF], [([xR false [2], xF, xF], some (xF))], [(27, 0)], (1, 22, 0, 0), none)
theorem sd_d0 : decode xM23.2.1 0 = .ok (.iload_n 1, 1) := dz_ok (by decide +kernel)
theorem sd_d1 : decode xM23.2.1 1 = .ok (.iconst 0, 1) := dz_ok (by decide +kernel)
theorem sd_d2 : decode xM23.2.1 2 = .ok (.iconst 3, 1) := dz_ok (by decide +kernel)
theorem sd_d3 : decode xM23.2.1 3 = .ok (.invokestatic 83, 3) := dz_ok (by decide +kernel)
theorem sd_d6 : decode xM23.2.1 6 = .ok (.ifCond .eq 20, 3) := dz_ok (by decide +kernel)
theorem sd_d9 : decode xM23.2.1 9 = .ok (.iload_n 2, 1) := dz_ok (by decide +kernel)
theorem sd_d10 : decode xM23.2.1 10 = .ok (.getstatic 105, 3) := dz_ok (by decide +kernel)
theorem sd_d13 : decode xM23.2.1 13 = .ok (.iload_n 1, 1) := dz_ok (by decide +kernel)
theorem sd_d14 : decode xM23.2.1 14 = .ok (.iaload, 1) := dz_ok (by decide +kernel)
theorem sd_d15 : decode xM23.2.1 15 = .ok (.getstatic 108, 3) := dz_ok (by decide +kernel)
theorem sd_d18 : decode xM23.2.1 18 = .ok (.iload_n 1, 1) := dz_ok (by decide +kernel)
theorem sd_d19 : decode xM23.2.1 19 = .ok (.iaload, 1) := dz_ok (by decide +kernel)
theorem sd_d20 : decode xM23.2.1 20 = .ok (.invokestatic 83, 3) := dz_ok (by decide +kernel)
theorem sd_d23 : decode xM23.2.1 23 = .ok (.ifCond .ne 6, 3) := dz_ok (by decide +kernel)
theorem sd_d26 : decode xM23.2.1 26 = .ok (.bipush (-2), 2) := dz_ok (by decide +kernel)
theorem sd_d28 : decode xM23.2.1 28 = .ok (.ireturn, 1) := dz_ok (by decide +kernel)
theorem sd_d29 : decode xM23.2.1 29 = .ok (.aload_n 0, 1) := dz_ok (by decide +kernel)
theorem sd_d30 : decode xM23.2.1 30 = .ok (.getfield 39, 3) := dz_ok (by decide +kernel)
theorem sd_d33 : decode xM23.2.1 33 = .ok (.iload_n 1, 1) := dz_ok (by decide +kernel)
theorem sd_d34 : decode xM23.2.1 34 = .ok (.iaload, 1) := dz_ok (by decide +kernel)
theorem sd_d35 : decode xM23.2.1 35 = .ok (.istore_n 3, 1) := dz_ok (by decide +kernel)
theorem sd_d36 : decode xM23.2.1 36 = .ok (.aload_n 0, 1) := dz_ok (by decide +kernel)
theorem sd_d37 : decode xM23.2.1 37 = .ok (.getfield 39, 3) := dz_ok (by decide +kernel)
theorem sd_d40 : decode xM23.2.1 40 = .ok (.iload_n 1, 1) := dz_ok (by decide +kernel)
theorem sd_d41 : decode xM23.2.1 41 = .ok (.iload_n 2, 1) := dz_ok (by decide +kernel)
theorem sd_d42 : decode xM23.2.1 42 = .ok (.iastore, 1) := dz_ok (by decide +kernel)
theorem sd_d43 : decode xM23.2.1 43 = .ok (.iload_n 3, 1) := dz_ok (by decide +kernel)
theorem sd_d44 : decode xM23.2.1 44 = .ok (.ireturn, 1) := dz_ok (by decide +kernel)
theorem xm23 : x_Met vwCl x_G x_Zs x_Tb x_Nb xM23 := by
  refine y_mainX (P := y_TP) (by decide +kernel) (by decide +kernel) x_Tb_good x_Nb_ok ?_
  intro p l e s m below meth c D U Y0 av ls B hI _ hl
  have X := B.1
  have hx := X.1
  have hb := X.2.1
  have hY0 := B.2.2.2.2.1
  obtain ⟨v0, v1, v2, rfl, hv0, ⟨what, rfl, -⟩, ⟨v, rfl, -⟩⟩ := y_three B.2.2.2.2.2
  obtain ⟨this, t0, rfl, ht0, hY_this⟩ := x_ref_at hv0 rfl
  obtain rfl := List.mem_singleton.mp ht0
  replace hl : lv_has ls xM23.2.2.1 [(0, .ref this), (1, .int what), (2, .int v)] := hl
  refine lv_iload_n hx hb sd_d0 rfl (lv_at hl 1 rfl) ?_
  refine lv_iconst hx hb sd_d1 (v := 0) (by decide) ?_
  have ec0 : (0 : Int32).toInt = 0 := by decide
  refine lv_iconst hx hb sd_d2 (v := 3) (by decide) ?_
  have ec3 : (3 : Int32).toInt = 3 := by decide
  refine y_call (z := (1, 83, 3, none, xM22)) (av := [.int what, .int (0 : Int32), .int (3 : Int32)]) (rest := []) (y_cok.of (x_cokSN (n := 3) (host := "TwinFires") X xm22 (x_cons (x_bw19 1 rfl rfl) (x_cons (x_bw0 1 rfl rfl) x_nilm)) (x_bn19 0 rfl rfl) (x_bw19 2 rfl rfl) (by decide +kernel) ⟨Nat.le_of_ble_eq_true rfl, Nat.le_of_ble_eq_true rfl⟩)) hY0 hI rfl sd_d3 hl.1 (Nat.le_of_ble_eq_true rfl) (Nat.le_of_ble_eq_true rfl) (Nat.le_of_ble_eq_true rfl) (y_cons ⟨_, rfl, x_i32 _⟩ (y_cons ⟨_, rfl, by show (0 : Int) ≤ _; omega, by show _ ≤ (0 : Int); omega⟩ (y_cons ⟨_, rfl, by show (3 : Int) ≤ _; omega, by show _ ≤ (3 : Int); omega⟩ y_nil))) rfl (y_norecv rfl) trivial (y_sub_ef rfl) fun v Yn o Hn L ho hr ha hIn hx_ hE hP => ?_
  replace hY_this := y_ext hx_ hI.1 hY_this
  obtain ⟨r3, rfl, hin_r3⟩ := z_withR ho hr ha
  clear ho hr ha hE hP hI hx_
  rename x_I _ _ _ _ _ _ _ _ _ _ => hI
  refine lv_if_eq hx hb sd_d6 (tgt := 26) (by decide) (fun q6 => ?_) (fun q6 => ?_)
  · have q6_ : r3.toInt = (0 : Int32).toInt := by rw [q6]
    refine lv_bipush hx hb sd_d26 (v := (-2)) (by decide) ?_
    have ecm2 : ((-2) : Int32).toInt = (-2) := by decide
    exact y_ireturn B hI rfl rfl rfl List.mem_cons_self ⟨_, rfl, ⟨_, rfl, x_i32 _⟩⟩ (x_cs.mono B.2.2.2.2.2 (y_mon B hI)) trivial (Nat.le_refl _) (Nat.le_refl _) sd_d28
  · have q6_ : ¬ r3.toInt = (0 : Int32).toInt := fun q => q6 (Int32.toInt_inj.mp q)
    have hw := hin_r3 q6
    refine lv_iload_n hx hb sd_d9 rfl (lv_at hl 2 rfl) ?_
    refine z_getsN (z := x_Zs[0]) (host := "TwinFires") X (List.mem_of_getElem? (i := 0) rfl) (X.2.2.2.2.2.2.2.2.1 _ (x_bn24 12 rfl rfl)) hI.1 sd_d10 fun b10 f_b10 hT_b10 hR_b10 => ?_
    refine lv_iload_n hx hb sd_d13 rfl (lv_at hl 1 rfl) ?_
    refine z_tld X hT_b10 (by omega) (by show _ < (4 : Int); omega) sd_d14 ?_
    obtain ⟨e14, hg_e14⟩ : ∃ e14 : Int32, f_b10 what.toInt.toNat = e14 := ⟨_, rfl⟩
    rw [hg_e14]
    refine z_getsN (z := x_Zs[1]) (host := "TwinFires") X (List.mem_of_getElem? (i := 1) rfl) (X.2.2.2.2.2.2.2.2.1 _ (x_bn24 14 rfl rfl)) hI.1 sd_d15 fun b15 f_b15 hT_b15 hR_b15 => ?_
    refine lv_iload_n hx hb sd_d18 rfl (lv_at hl 1 rfl) ?_
    refine z_tld X hT_b15 (by omega) (by show _ < (4 : Int); omega) sd_d19 ?_
    obtain ⟨e19, hg_e19⟩ : ∃ e19 : Int32, f_b15 what.toInt.toNat = e19 := ⟨_, rfl⟩
    rw [hg_e19]
    refine y_call (z := (1, 83, 3, none, xM10)) (av := [.int v, .int e14, .int e19]) (rest := []) (y_cok.of (x_cokSN (n := 3) (host := "TwinFires") X xm10 (x_cons (x_bw19 1 rfl rfl) (x_cons (x_bw0 1 rfl rfl) x_nilm)) (x_bn19 0 rfl rfl) (x_bw19 2 rfl rfl) (by decide +kernel) ⟨Nat.le_of_ble_eq_true rfl, Nat.le_of_ble_eq_true rfl⟩)) hY0 hI rfl sd_d20 hl.1 (Nat.le_of_ble_eq_true rfl) (Nat.le_of_ble_eq_true rfl) (Nat.le_of_ble_eq_true rfl) (y_cons ⟨_, rfl, x_i32 _⟩ (y_cons ⟨_, rfl, x_i32 _⟩ (y_cons ⟨_, rfl, x_i32 _⟩ y_nil))) rfl (y_norecv rfl) trivial (y_sub_ef rfl) fun v Yn o Hn L ho hr ha hIn hx_ hE hP => ?_
    replace hY_this := y_ext hx_ hI.1 hY_this
    obtain ⟨r20, rfl, h_r20⟩ := y_ansI (lo := 0) (hi := 1) (by decide) ho hr
    clear ho hr ha hE hP hI hx_
    rename x_I _ _ _ _ _ _ _ _ _ _ => hI
    refine lv_if_ne hx hb sd_d23 (tgt := 29) (by decide) (fun q23 => ?_) (fun q23 => ?_)
    · have q23_ : ¬ r20.toInt = (0 : Int32).toInt := fun q => q23 (Int32.toInt_inj.mp q)
      refine lv_aload_n hx hb sd_d29 rfl (lv_at hl 0 rfl) ?_
      obtain ⟨this_dial, hs_this_dial, hY_this_dial⟩ := y_fldR (k := 10) hI.1 hY_this rfl rfl
      refine y_getf X (fl44 X.2.2.2.2.1) hI.1 hY_this rfl hs_this_dial sd_d30 ?_
      refine lv_iload_n hx hb sd_d33 rfl (lv_at hl 1 rfl) ?_
      obtain ⟨f_this_dial, hA_this_dial, hB_this_dial⟩ := y_arr hI.1 hY_this_dial rfl rfl
      refine y_iald X hI.1 hY_this_dial rfl hA_this_dial (by omega) (by show _ < (4 : Int); omega) sd_d34 ?_
      obtain ⟨e34, hg_e34⟩ : ∃ e34 : Int32, f_this_dial what.toInt.toNat = e34 := ⟨_, rfl⟩
      rw [hg_e34]
      refine lv_istore_n hx hb sd_d35 rfl hl (by decide) (lv' := [(3, .int e34), (0, .ref this), (1, .int what), (2, .int v)]) rfl fun ls hl => ?_
      refine lv_aload_n hx hb sd_d36 rfl (lv_at hl 1 rfl) ?_
      refine y_getf X (fl44 X.2.2.2.2.1) hI.1 hY_this rfl hs_this_dial sd_d37 ?_
      refine lv_iload_n hx hb sd_d40 rfl (lv_at hl 2 rfl) ?_
      refine lv_iload_n hx hb sd_d41 rfl (lv_at hl 3 rfl) ?_
      refine y_iast X hY0 hI hY_this_dial rfl hA_this_dial (by omega) (by show _ < (4 : Int); omega) ⟨_, rfl, x_i32 _⟩ (by decide +kernel) sd_d42 fun H locs hI h_new ho => ?_
      replace hA_this_dial := h_new
      generalize hf_f42 : y_up f_this_dial what.toInt.toNat v = f42 at hA_this_dial
      replace hs_this_dial := y_slk hs_this_dial (ho _ (y_ne hY_this hY_this_dial rfl))
      refine lv_iload_n hx hb sd_d43 rfl (lv_at hl 0 rfl) ?_
      exact y_ireturn B hI rfl rfl rfl List.mem_cons_self ⟨_, rfl, ⟨_, rfl, x_i32 _⟩⟩ (x_cs.mono B.2.2.2.2.2 (y_mon B hI)) trivial (Nat.le_refl _) (Nat.le_refl _) sd_d44
    · have q23_ : r20.toInt = (0 : Int32).toInt := by rw [q23]
      refine lv_bipush hx hb sd_d26 (v := (-2)) (by decide) ?_
      have ecm2 : ((-2) : Int32).toInt = (-2) := by decide
      exact y_ireturn B hI rfl rfl rfl List.mem_cons_self ⟨_, rfl, ⟨_, rfl, x_i32 _⟩⟩ (x_cs.mono B.2.2.2.2.2 (y_mon B hI)) trivial (Nat.le_refl _) (Nat.le_refl _) sd_d28
