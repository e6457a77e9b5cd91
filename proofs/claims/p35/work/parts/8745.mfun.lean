theorem eno_d0 : decode xM164.2.1 0 = .ok (.aload_n 0, 1) := dz_ok (by decide +kernel)
theorem eno_d1 : decode xM164.2.1 1 = .ok (.iconst 1, 1) := dz_ok (by decide +kernel)
theorem eno_d2 : decode xM164.2.1 2 = .ok (.bipush (-3), 2) := dz_ok (by decide +kernel)
theorem eno_d4 : decode xM164.2.1 4 = .ok (.invokevirtual 76, 3) := dz_ok (by decide +kernel)
theorem eno_d7 : decode xM164.2.1 7 = .ok (.ireturn, 1) := dz_ok (by decide +kernel)
theorem ym_no : y_Met vwCl x_G x_Zs x_Tb x_Nb xM164 y_T z_Pno := by
  refine y_main (by decide +kernel) (by decide +kernel) x_Tb_good x_Nb_ok ?_
  intro p l e s m below meth c D U Y0 av ls B hI _ hl
  have X := B.1
  have hx := X.1
  have hb := X.2.1
  have hY0 := B.2.2.2.2.1
  obtain ⟨v0, rfl, hv0⟩ := x_one B.2.2.2.2.2
  obtain ⟨this, t0, rfl, ht0, hY_this⟩ := x_ref_at hv0 rfl
  obtain rfl := List.mem_singleton.mp ht0
  replace hl : lv_has ls xM164.2.2.1 [(0, .ref this)] := hl
  refine lv_aload_n hx hb eno_d0 rfl (lv_at hl 0 rfl) ?_
  refine lv_iconst hx hb eno_d1 (v := 1) (by decide) ?_
  have ec1 : (1 : Int32).toInt = 1 := by decide
  refine lv_bipush hx hb eno_d2 (v := (-3)) (by decide) ?_
  have ecm3 : ((-3) : Int32).toInt = (-3) := by decide
  refine y_call (z := (0, 76, 3, some 17, xM142)) (av := [.ref this, .int (1 : Int32), .int ((-3) : Int32)]) (rest := []) (y_cokV (n := 2) (ci := 12) X ym_refuses rfl rfl rfl (x_cons (x_bw68 7 rfl rfl) (x_cons (x_bw68 9 rfl rfl) (x_cons (x_at 33 (by decide +kernel) rfl) (x_cons (x_bw0 9 rfl rfl) x_nilm)))) (x_bw68 10 rfl rfl) (by decide +kernel) ⟨Nat.le_of_ble_eq_true rfl, Nat.le_of_ble_eq_true rfl⟩) hY0 hI rfl eno_d4 hl.1 (Nat.le_of_ble_eq_true rfl) (Nat.le_of_ble_eq_true rfl) (Nat.le_of_ble_eq_true rfl) (y_cons (y_cref hY_this rfl) (y_cons ⟨_, rfl, by show (0 : Int) ≤ _; omega, by show _ ≤ (2 : Int); omega⟩ (y_cons ⟨_, rfl, x_i32 _⟩ y_nil))) rfl (y_recv rfl hY_this) trivial (y_sub_ef rfl) fun v Yn o Hn L ho hr ha hIn hx_ hE hP => ?_
  replace hY_this := y_ext hx_ hI.1 hY_this
  obtain rfl := hP _ _ _ rfl
  clear ho hr ha hE hP hI hx_
  rename x_I _ _ _ _ _ _ _ _ _ _ => hI
  exact y_ireturn B hI rfl rfl rfl List.mem_cons_self ⟨_, rfl, ⟨_, rfl, x_i32 _⟩⟩ (x_cs.mono B.2.2.2.2.2 (y_mon B hI)) rfl (Nat.le_refl _) (Nat.le_refl _) eno_d7
theorem efull_d0 : decode xM146.2.1 0 = .ok (.aload_n 0, 1) := dz_ok (by decide +kernel)
theorem efull_d1 : decode xM146.2.1 1 = .ok (.iconst 2, 1) := dz_ok (by decide +kernel)
theorem efull_d2 : decode xM146.2.1 2 = .ok (.bipush (-4), 2) := dz_ok (by decide +kernel)
theorem efull_d4 : decode xM146.2.1 4 = .ok (.invokevirtual 76, 3) := dz_ok (by decide +kernel)
theorem efull_d7 : decode xM146.2.1 7 = .ok (.ireturn, 1) := dz_ok (by decide +kernel)
theorem ym_full : y_Met vwCl x_G x_Zs x_Tb x_Nb xM146 y_T z_Pfull := by
  refine y_main (by decide +kernel) (by decide +kernel) x_Tb_good x_Nb_ok ?_
  intro p l e s m below meth c D U Y0 av ls B hI _ hl
  have X := B.1
  have hx := X.1
  have hb := X.2.1
  have hY0 := B.2.2.2.2.1
  obtain ⟨v0, rfl, hv0⟩ := x_one B.2.2.2.2.2
  obtain ⟨this, t0, rfl, ht0, hY_this⟩ := x_ref_at hv0 rfl
  obtain rfl := List.mem_singleton.mp ht0
  replace hl : lv_has ls xM146.2.2.1 [(0, .ref this)] := hl
  refine lv_aload_n hx hb efull_d0 rfl (lv_at hl 0 rfl) ?_
  refine lv_iconst hx hb efull_d1 (v := 2) (by decide) ?_
  have ec2 : (2 : Int32).toInt = 2 := by decide
  refine lv_bipush hx hb efull_d2 (v := (-4)) (by decide) ?_
  have ecm4 : ((-4) : Int32).toInt = (-4) := by decide
  refine y_call (z := (0, 76, 3, some 17, xM142)) (av := [.ref this, .int (2 : Int32), .int ((-4) : Int32)]) (rest := []) (y_cokV (n := 2) (ci := 12) X ym_refuses rfl rfl rfl (x_cons (x_bw68 7 rfl rfl) (x_cons (x_bw68 9 rfl rfl) (x_cons (x_at 33 (by decide +kernel) rfl) (x_cons (x_bw0 9 rfl rfl) x_nilm)))) (x_bw68 10 rfl rfl) (by decide +kernel) ⟨Nat.le_of_ble_eq_true rfl, Nat.le_of_ble_eq_true rfl⟩) hY0 hI rfl efull_d4 hl.1 (Nat.le_of_ble_eq_true rfl) (Nat.le_of_ble_eq_true rfl) (Nat.le_of_ble_eq_true rfl) (y_cons (y_cref hY_this rfl) (y_cons ⟨_, rfl, by show (0 : Int) ≤ _; omega, by show _ ≤ (2 : Int); omega⟩ (y_cons ⟨_, rfl, x_i32 _⟩ y_nil))) rfl (y_recv rfl hY_this) trivial (y_sub_ef rfl) fun v Yn o Hn L ho hr ha hIn hx_ hE hP => ?_
  replace hY_this := y_ext hx_ hI.1 hY_this
  obtain rfl := hP _ _ _ rfl
  clear ho hr ha hE hP hI hx_
  rename x_I _ _ _ _ _ _ _ _ _ _ => hI
  exact y_ireturn B hI rfl rfl rfl List.mem_cons_self ⟨_, rfl, ⟨_, rfl, x_i32 _⟩⟩ (x_cs.mono B.2.2.2.2.2 (y_mon B hI)) rfl (Nat.le_refl _) (Nat.le_refl _) efull_d7
