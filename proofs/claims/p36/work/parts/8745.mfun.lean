theorem fl_im_238c {s : State} {args : Array Value} (hts : ∀ w ∈ x_Tb, w.before args s = true) : x_fok vwCl x_G x_Tb s args "TwinFiresModel" (16, 17, 2) := ⟨12, _, RX12, TX12, "TwinFiresModel", rfl, rfl, Nat.le_of_ble_eq_true rfl, iX12, (hts _ (x_bw62 5 rfl rfl)), fun x h => h⟩
theorem fl_im_239c {s : State} {args : Array Value} (hts : ∀ w ∈ x_Tb, w.before args s = true) : x_fok vwCl x_G x_Tb s args "TwinFiresModel" (13, 17, 1) := ⟨12, _, RX12, TX12, "TwinFiresModel", rfl, rfl, Nat.le_of_ble_eq_true rfl, iX12, (hts _ (x_bw62 4 rfl rfl)), fun x h => h⟩
theorem eno_d0 : decode xM164.2.1 0 = .ok (.aload_n 0, 1) := dz_ok (by decide +kernel)
theorem eno_d1 : decode xM164.2.1 1 = .ok (.iconst 1, 1) := dz_ok (by decide +kernel)
theorem eno_d2 : decode xM164.2.1 2 = .ok (.bipush (-3), 2) := dz_ok (by decide +kernel)
theorem eno_d4 : decode xM164.2.1 4 = .ok (.invokevirtual 76, 3) := dz_ok (by decide +kernel)
theorem eno_d7 : decode xM164.2.1 7 = .ok (.ireturn, 1) := dz_ok (by decide +kernel)
theorem ym_no : y_Met vwCl x_G x_Zs x_Tb x_Nb xM164 y_T z_Pno := by
  refine y_main (by decide +kernel) (by decide +kernel) x_Tb_good x_Nb_ok ?_
  intro p l e s m below meth c D U Y0 av ls B hI _ hl
  have X := B.1
  have hx := X.1
  have hb := X.2.1
  have hY0 := B.2.2.2.2.1
  obtain ⟨v0, rfl, hv0⟩ := x_one B.2.2.2.2.2
  obtain ⟨this, t0, rfl, ht0, hY_this⟩ := x_ref_at hv0 rfl
  obtain rfl := List.mem_singleton.mp ht0
  replace hl : lv_has ls xM164.2.2.1 [(0, .ref this)] := hl
  refine lv_aload_n hx hb eno_d0 rfl (lv_at hl 0 rfl) ?_
  refine lv_iconst hx hb eno_d1 (v := 1) (by decide) ?_
  have ec1 : (1 : Int32).toInt = 1 := by decide
  refine lv_bipush hx hb eno_d2 (v := (-3)) (by decide) ?_
  have ecm3 : ((-3) : Int32).toInt = (-3) := by decide
  refine y_call (z := (0, 76, 3, some 17, xM142)) (av := [.ref this, .int (1 : Int32), .int ((-3) : Int32)]) (rest := []) (y_cokV (n := 2) (ci := 12) X ym_refuses rfl rfl rfl (x_cons (x_bw68 7 rfl rfl) (x_cons (x_bw68 9 rfl rfl) (x_cons (x_at 33 (by decide +kernel) rfl) (x_cons (x_bw0 9 rfl rfl) x_nilm)))) (x_bw68 10 rfl rfl) (by decide +kernel) ⟨Nat.le_of_ble_eq_true rfl, Nat.le_of_ble_eq_true rfl⟩) hY0 hI rfl eno_d4 hl.1 (Nat.le_of_ble_eq_true rfl) (Nat.le_of_ble_eq_true rfl) (Nat.le_of_ble_eq_true rfl) (y_cons (y_cref hY_this rfl) (y_cons ⟨_, rfl, by show (0 : Int) ≤ _; omega, by show _ ≤ (2 : Int); omega⟩ (y_cons ⟨_, rfl, x_i32 _⟩ y_nil))) rfl (y_recv rfl hY_this) trivial (y_sub_ef rfl) fun v Yn o Hn L ho hr ha hIn hx_ hE hP => ?_
  replace hY_this := y_ext hx_ hI.1 hY_this
  obtain rfl := hP _ _ _ rfl
  clear ho hr ha hE hP hI hx_
  rename x_I _ _ _ _ _ _ _ _ _ _ => hI
  exact y_ireturn B hI rfl rfl rfl List.mem_cons_self ⟨_, rfl, ⟨_, rfl, x_i32 _⟩⟩ (x_cs.mono B.2.2.2.2.2 (y_mon B hI)) rfl (Nat.le_refl _) (Nat.le_refl _) eno_d7
theorem efull_d0 : decode xM146.2.1 0 = .ok (.aload_n 0, 1) := dz_ok (by decide +kernel)
theorem efull_d1 : decode xM146.2.1 1 = .ok (.iconst 2, 1) := dz_ok (by decide +kernel)
theorem efull_d2 : decode xM146.2.1 2 = .ok (.bipush (-4), 2) := dz_ok (by decide +kernel)
theorem efull_d4 : decode xM146.2.1 4 = .ok (.invokevirtual 76, 3) := dz_ok (by decide +kernel)
theorem efull_d7 : decode xM146.2.1 7 = .ok (.ireturn, 1) := dz_ok (by decide +kernel)
theorem ym_full : y_Met vwCl x_G x_Zs x_Tb x_Nb xM146 y_T z_Pfull := by
  refine y_main (by decide +kernel) (by decide +kernel) x_Tb_good x_Nb_ok ?_
  intro p l e s m below meth c D U Y0 av ls B hI _ hl
  have X := B.1
  have hx := X.1
  have hb := X.2.1
  have hY0 := B.2.2.2.2.1
  obtain ⟨v0, rfl, hv0⟩ := x_one B.2.2.2.2.2
  obtain ⟨this, t0, rfl, ht0, hY_this⟩ := x_ref_at hv0 rfl
  obtain rfl := List.mem_singleton.mp ht0
  replace hl : lv_has ls xM146.2.2.1 [(0, .ref this)] := hl
  refine lv_aload_n hx hb efull_d0 rfl (lv_at hl 0 rfl) ?_
  refine lv_iconst hx hb efull_d1 (v := 2) (by decide) ?_
  have ec2 : (2 : Int32).toInt = 2 := by decide
  refine lv_bipush hx hb efull_d2 (v := (-4)) (by decide) ?_
  have ecm4 : ((-4) : Int32).toInt = (-4) := by decide
  refine y_call (z := (0, 76, 3, some 17, xM142)) (av := [.ref this, .int (2 : Int32), .int ((-4) : Int32)]) (rest := []) (y_cokV (n := 2) (ci := 12) X ym_refuses rfl rfl rfl (x_cons (x_bw68 7 rfl rfl) (x_cons (x_bw68 9 rfl rfl) (x_cons (x_at 33 (by decide +kernel) rfl) (x_cons (x_bw0 9 rfl rfl) x_nilm)))) (x_bw68 10 rfl rfl) (by decide +kernel) ⟨Nat.le_of_ble_eq_true rfl, Nat.le_of_ble_eq_true rfl⟩) hY0 hI rfl efull_d4 hl.1 (Nat.le_of_ble_eq_true rfl) (Nat.le_of_ble_eq_true rfl) (Nat.le_of_ble_eq_true rfl) (y_cons (y_cref hY_this rfl) (y_cons ⟨_, rfl, by show (0 : Int) ≤ _; omega, by show _ ≤ (2 : Int); omega⟩ (y_cons ⟨_, rfl, x_i32 _⟩ y_nil))) rfl (y_recv rfl hY_this) trivial (y_sub_ef rfl) fun v Yn o Hn L ho hr ha hIn hx_ hE hP => ?_
  replace hY_this := y_ext hx_ hI.1 hY_this
  obtain rfl := hP _ _ _ rfl
  clear ho hr ha hE hP hI hx_
  rename x_I _ _ _ _ _ _ _ _ _ _ => hI
  exact y_ireturn B hI rfl rfl rfl List.mem_cons_self ⟨_, rfl, ⟨_, rfl, x_i32 _⟩⟩ (x_cs.mono B.2.2.2.2.2 (y_mon B hI)) rfl (Nat.le_refl _) (Nat.le_refl _) efull_d7
theorem i3_d0 : decode xMi2.2.1 0 = .ok (.iload_n 1, 1) := dz_ok (by decide +kernel)
theorem i3_d1 : decode xMi2.2.1 1 = .ok (.i2l, 1) := dz_ok (by decide +kernel)
theorem i3_d2 : decode xMi2.2.1 2 = .ok (.lconst 0, 1) := dz_ok (by decide +kernel)
theorem i3_d3 : decode xMi2.2.1 3 = .ok (.lconst 1, 1) := dz_ok (by decide +kernel)
theorem i3_d4 : decode xMi2.2.1 4 = .ok (.invokestatic 87, 3) := dz_ok (by decide +kernel)
theorem i3_d7 : decode xMi2.2.1 7 = .ok (.ifCond .ne 8, 3) := dz_ok (by decide +kernel)
theorem i3_d10 : decode xMi2.2.1 10 = .ok (.aload_n 0, 1) := dz_ok (by decide +kernel)
theorem i3_d11 : decode xMi2.2.1 11 = .ok (.invokevirtual 102, 3) := dz_ok (by decide +kernel)
theorem i3_d14 : decode xMi2.2.1 14 = .ok (.ireturn, 1) := dz_ok (by decide +kernel)
theorem i3_d15 : decode xMi2.2.1 15 = .ok (.iconst 0, 1) := dz_ok (by decide +kernel)
theorem i3_d16 : decode xMi2.2.1 16 = .ok (.istore_n 2, 1) := dz_ok (by decide +kernel)
theorem i3_d17 : decode xMi2.2.1 17 = .ok (.iload_n 2, 1) := dz_ok (by decide +kernel)
theorem i3_d18 : decode xMi2.2.1 18 = .ok (.sipush 160, 3) := dz_ok (by decide +kernel)
theorem i3_d21 : decode xMi2.2.1 21 = .ok (.if_icmp .ge 27, 3) := dz_ok (by decide +kernel)
theorem i3_d24 : decode xMi2.2.1 24 = .ok (.aload_n 0, 1) := dz_ok (by decide +kernel)
theorem i3_d25 : decode xMi2.2.1 25 = .ok (.getfield 13, 3) := dz_ok (by decide +kernel)
theorem i3_d28 : decode xMi2.2.1 28 = .ok (.sipush 160, 3) := dz_ok (by decide +kernel)
theorem i3_d31 : decode xMi2.2.1 31 = .ok (.iload_n 1, 1) := dz_ok (by decide +kernel)
theorem i3_d32 : decode xMi2.2.1 32 = .ok (.imul, 1) := dz_ok (by decide +kernel)
theorem i3_d33 : decode xMi2.2.1 33 = .ok (.iload_n 2, 1) := dz_ok (by decide +kernel)
theorem i3_d34 : decode xMi2.2.1 34 = .ok (.iadd, 1) := dz_ok (by decide +kernel)
theorem i3_d35 : decode xMi2.2.1 35 = .ok (.aload_n 0, 1) := dz_ok (by decide +kernel)
theorem i3_d36 : decode xMi2.2.1 36 = .ok (.getfield 7, 3) := dz_ok (by decide +kernel)
theorem i3_d39 : decode xMi2.2.1 39 = .ok (.iload_n 2, 1) := dz_ok (by decide +kernel)
theorem i3_d40 : decode xMi2.2.1 40 = .ok (.iaload, 1) := dz_ok (by decide +kernel)
theorem i3_d41 : decode xMi2.2.1 41 = .ok (.iastore, 1) := dz_ok (by decide +kernel)
theorem i3_d42 : decode xMi2.2.1 42 = .ok (.iinc 2 1, 3) := dz_ok (by decide +kernel)
theorem i3_d45 : decode xMi2.2.1 45 = .ok (.goto (-28), 3) := dz_ok (by decide +kernel)
theorem i3_d48 : decode xMi2.2.1 48 = .ok (.aload_n 0, 1) := dz_ok (by decide +kernel)
theorem i3_d49 : decode xMi2.2.1 49 = .ok (.getfield 16, 3) := dz_ok (by decide +kernel)
theorem i3_d52 : decode xMi2.2.1 52 = .ok (.iload_n 1, 1) := dz_ok (by decide +kernel)
theorem i3_d53 : decode xMi2.2.1 53 = .ok (.iconst 1, 1) := dz_ok (by decide +kernel)
theorem i3_d54 : decode xMi2.2.1 54 = .ok (.bastore, 1) := dz_ok (by decide +kernel)
theorem i3_d55 : decode xMi2.2.1 55 = .ok (.iconst 1, 1) := dz_ok (by decide +kernel)
theorem i3_d56 : decode xMi2.2.1 56 = .ok (.ireturn, 1) := dz_ok (by decide +kernel)
theorem i3_L17 {p : Program} {l : Launch} {e : Env} {s : State} {m : MethodId} {below : List Frame} {meth : Method} {c : Code} {D : va_G} {U : State} {Y0 : xY} {av : List Value} (B : y_B vwCl x_Tb x_Nb xMi2 p s m meth c D U Y0 av) {this bk im kk : Nat} {i : Int32} {fb fk : Nat → Int32} (hav : av = [.ref this, .int i]) (hi : 0 ≤ i.toInt ∧ i.toInt ≤ 1) (hh : z_hd fb) (hB_kk : ∀ j, j < 2 → (0 : Int) ≤ (fk j).toInt ∧ (fk j).toInt ≤ 1) (hs0 : x_sl D 12 2 this s.heap = some (.ref kk)) (hA0 : y_A kk 2 s.heap fk)  :
    ∀ (n : Nat), ∀ (H : Heap) (Y : xY) (locs : List Loc) (ls : Array Slot) (k : Int32) (fi : Nat → Int32), x_I D x_G x_Zs U (x_efs xMi2) Y0 s.heap Y H locs → Y this = some 17 → Y bk = some 46 → Y im = some 47 → Y kk = some 48 → x_sl D 12 0 this H = some (.ref bk) → x_sl D 12 1 this H = some (.ref im) → x_sl D 12 2 this H = some (.ref kk) → y_A bk 160 H fb → y_A im 320 H fi → y_A kk 2 H fk → lv_has ls xMi2.2.2.1 [(2, .int k), (0, .ref this), (1, .int i)] → (0 ≤ k.toInt ∧ k.toInt ≤ 160) → (160 - k.toInt).toNat < n → W p l e (x_rm xMi2) s m av.toArray below meth c H locs 0 0 (y_QQ below D x_G x_Zs U xMi2 z_Pmg av Y0 s) (F0 m 17 ls []) := by
  have X := B.1
  have hx := X.1
  have hb := X.2.1
  have hY0 := B.2.2.2.2.1
  intro n
  induction n with
  | zero => intro _ _ _ _ _ _ _ _ _ _ _ _ _ _ _ _ _ _ _ h; exact absurd h (Nat.not_lt_zero _)
  | succ n ih =>
    intro H Y locs ls k fi hI hY_this hY_bk hY_im hY_kk hs_bk hs_im hs_kk hA_bk hA_im hA_kk hl hk hn
    refine lv_iload_n hx hb i3_d17 rfl (lv_at hl 0 rfl) ?_
    refine lv_sipush hx hb i3_d18 (v := 160) (by decide) ?_
    have ec160 : (160 : Int32).toInt = 160 := by decide
    refine lv_icmp_ge hx hb i3_d21 (tgt := 48) (by decide) (fun q21 => ?_) (fun q21 => ?_)
    · have q21_ : (160 : Int32).toInt ≤ k.toInt := x_le32.mp q21
      refine lv_aload_n hx hb i3_d48 rfl (lv_at hl 1 rfl) ?_
      refine y_getf X (fl_im_238c X.2.2.2.2.1) hI.1 hY_this rfl hs_kk i3_d49 ?_
      refine lv_iload_n hx hb i3_d52 rfl (lv_at hl 2 rfl) ?_
      refine lv_iconst hx hb i3_d53 (v := 1) (by decide) ?_
      have ec1 : (1 : Int32).toInt = 1 := by decide
      refine y_zast X hY0 hI hY_kk rfl hA_kk (by omega) (by show _ < (2 : Int); omega) (y_01 (by omega) (by omega)) ⟨_, rfl, by show (0 : Int) ≤ _; omega, by show _ ≤ (1 : Int); omega⟩ (by decide +kernel) i3_d54 fun H locs hI h_new ho => ?_
      replace hA_kk := h_new
      replace hB_kk := y_upb (i := i.toInt.toNat) (v := (1 : Int32)) hB_kk (by constructor <;> omega)
      generalize hf_f54 : y_up fk i.toInt.toNat (1 : Int32) = f54 at hA_kk hB_kk
      replace hs_bk := y_slk hs_bk (ho _ (y_ne hY_this hY_kk rfl))
      replace hs_im := y_slk hs_im (ho _ (y_ne hY_this hY_kk rfl))
      replace hs_kk := y_slk hs_kk (ho _ (y_ne hY_this hY_kk rfl))
      replace hA_bk := hA_bk.kept (ho _ (y_ne hY_bk hY_kk rfl))
      replace hA_im := hA_im.kept (ho _ (y_ne hY_im hY_kk rfl))
      refine lv_iconst hx hb i3_d55 (v := 1) (by decide) ?_
      subst hav
      exact y_ireturn B hI rfl rfl rfl List.mem_cons_self ⟨_, rfl, ⟨_, rfl, x_i32 _⟩⟩ (x_cs.mono B.2.2.2.2.2 (y_mon B hI)) (fun t' mk' i' fk' h1 h2 h3 => by cases h1; cases h2.symm.trans hs0; have ef : ∀ j, j < 2 → fk' j = fk j := (fun j hj => by have := (h3 j hj).symm.trans (hA0 j hj); injection this with this; injection this); exact ⟨by rw [if_pos hi], fun _ => z_upA (by rw [hf_f54]; exact hA_kk) ef, fun h => absurd hi h⟩) (Nat.le_refl _) (Nat.le_refl _) i3_d56
    · have q21_ : k.toInt < (160 : Int32).toInt := Int.not_le.mp fun q => q21 (x_le32.mpr q)
      refine lv_aload_n hx hb i3_d24 rfl (lv_at hl 1 rfl) ?_
      refine y_getf X (fl_im_239c X.2.2.2.2.1) hI.1 hY_this rfl hs_im i3_d25 ?_
      refine lv_sipush hx hb i3_d28 (v := 160) (by decide) ?_
      refine lv_iload_n hx hb i3_d31 rfl (lv_at hl 2 rfl) ?_
      refine lv_imul hx hb i3_d32 ?_
      generalize hg_z32 : (160 : Int32) * i = z32
      have h_z32 : z32.toInt = 160 * i.toInt := by rw [← hg_z32]; have := y_mul (x := (160 : Int32)) (y := i) (by rw [ec160]; omega) (by rw [ec160]; omega); rw [ec160] at this; exact this
      refine lv_iload_n hx hb i3_d33 rfl (lv_at hl 0 rfl) ?_
      refine lv_iadd hx hb i3_d34 ?_
      generalize hg_z34 : z32 + k = z34
      have h_z34 : z34.toInt = z32.toInt + k.toInt := by rw [← hg_z34]; have := y_add (x := z32) (y := k) (by omega) (by omega); exact this
      refine lv_aload_n hx hb i3_d35 rfl (lv_at hl 1 rfl) ?_
      refine y_getf X (fl190 X.2.2.2.2.1) hI.1 hY_this rfl hs_bk i3_d36 ?_
      refine lv_iload_n hx hb i3_d39 rfl (lv_at hl 0 rfl) ?_
      refine y_iald X hI.1 hY_bk rfl hA_bk (by omega) (by show _ < (160 : Int); omega) i3_d40 ?_
      obtain ⟨e40, hg_e40⟩ : ∃ e40 : Int32, fb k.toInt.toNat = e40 := ⟨_, rfl⟩
      rw [hg_e40]
      refine y_iast X hY0 hI hY_im rfl hA_im (by omega) (by show _ < (320 : Int); omega) (by rw [z_preI_i hi.1 hi.2 (k := k) (by omega) (by omega) (by omega)]; have := z_hdc (Y := Y) hh k.toInt.toNat; rw [hg_e40] at this; exact this) (by decide +kernel) i3_d41 fun H locs hI h_new ho => ?_
      replace hA_im := h_new
      generalize hf_f41 : y_up fi z34.toInt.toNat e40 = f41 at hA_im
      replace hs_bk := y_slk hs_bk (ho _ (y_ne hY_this hY_im rfl))
      replace hs_im := y_slk hs_im (ho _ (y_ne hY_this hY_im rfl))
      replace hs_kk := y_slk hs_kk (ho _ (y_ne hY_this hY_im rfl))
      replace hA_bk := hA_bk.kept (ho _ (y_ne hY_bk hY_im rfl))
      replace hA_kk := hA_kk.kept (ho _ (y_ne hY_kk hY_im rfl))
      obtain ⟨z42, hg_z42⟩ : ∃ z42 : Int32, k + Int32.ofInt 1 = z42 := ⟨_, rfl⟩
      have h_z42 : z42.toInt = k.toInt + 1 := by rw [← hg_z42]; exact y_inc (by decide) (by omega) (by omega)
      refine lv_iinc hx hb i3_d42 hl (k := 0) rfl hg_z42 (by decide) (lv' := [(2, .int z42), (0, .ref this), (1, .int i)]) rfl fun ls hl => ?_
      refine lv_goto hx hb i3_d45 (tgt := 17) (by decide) ?_
      exact ih _ _ _ _ _ _ hI hY_this hY_bk hY_im hY_kk hs_bk hs_im hs_kk hA_bk hA_im hA_kk (lv_sub hl [0, 1, 2] rfl) (by first | assumption | omega) (by omega)
theorem ym_mimageK : y_Met vwCl x_G x_Zs x_Tb x_Nb xMi2 y_T z_Pmg := by
  refine y_main (by decide +kernel) (by decide +kernel) x_Tb_good x_Nb_ok ?_
  intro p l e s m below meth c D U Y0 av ls B hI _ hl
  have X := B.1
  have hx := X.1
  have hb := X.2.1
  have hY0 := B.2.2.2.2.1
  obtain ⟨v0, v1, rfl, hv0, ⟨i, rfl, -⟩⟩ := x_two B.2.2.2.2.2
  obtain ⟨this, t0, rfl, ht0, hY_this⟩ := x_ref_at hv0 rfl
  obtain rfl := List.mem_singleton.mp ht0
  replace hl : lv_has ls xMi2.2.2.1 [(0, .ref this), (1, .int i)] := hl
  obtain ⟨bk, hs_bk, hY_bk⟩ := y_fldR (k := 0) hI.1 hY_this rfl rfl
  obtain ⟨im, hs_im, hY_im⟩ := y_fldR (k := 1) hI.1 hY_this rfl rfl
  obtain ⟨fb, hA_bk, hB_bk⟩ := y_arr hI.1 hY_bk rfl rfl
  obtain ⟨fi, hA_im, hB_im⟩ := y_arr hI.1 hY_im rfl rfl
  obtain ⟨kk, hs_kk, hY_kk⟩ := y_fldR (k := 2) hI.1 hY_this rfl rfl
  obtain ⟨fk, hA_kk, hB_kk⟩ := y_arr hI.1 hY_kk rfl rfl
  replace hB_kk : ∀ j, j < 2 → (0 : Int) ≤ (fk j).toInt ∧ (fk j).toInt ≤ 1 := fun j hj => by obtain ⟨x, e0, e1⟩ := hB_kk j hj; cases e0; exact e1
  have hs0 := hs_kk
  have hA0 := hA_kk
  have hh := z_hdr hB_bk
  refine lv_iload_n hx hb i3_d0 rfl (lv_at hl 1 rfl) ?_
  obtain ⟨z1, hg_z1⟩ : ∃ z1 : Int64, i.toInt64 = z1 := ⟨_, rfl⟩
  have h_z1 : z1.toInt = (i).toInt := by rw [← hg_z1]; exact Int32.toInt_toInt64 _
  refine lv_i2l hx hb i3_d1 (v := z1) hg_z1 ?_
  refine lv_lconst hx hb i3_d2 (v := 0) (by decide) ?_
  have el0 : (0 : Int64).toInt = 0 := by decide
  refine lv_lconst hx hb i3_d3 (v := 1) (by decide) ?_
  have el1 : (1 : Int64).toInt = 1 := by decide
  refine y_call (z := (1, 87, 3, none, xM148)) (av := [.long z1, .long (0 : Int64), .long (1 : Int64)]) (rest := []) (y_cokS (n := 3) X ym_in (x_cons (x_bw67 11 rfl rfl) (x_cons (x_bw67 12 rfl rfl) (x_cons (x_bw0 9 rfl rfl) x_nilm))) (x_bw67 13 rfl rfl) (by decide +kernel) ⟨Nat.le_of_ble_eq_true rfl, Nat.le_of_ble_eq_true rfl⟩) hY0 hI rfl i3_d4 hl.1 (Nat.le_of_ble_eq_true rfl) (Nat.le_of_ble_eq_true rfl) (Nat.le_of_ble_eq_true rfl) (y_cons ⟨_, rfl, x_i64 _⟩ (y_cons ⟨_, rfl, x_i64 _⟩ (y_cons ⟨_, rfl, x_i64 _⟩ y_nil))) rfl (y_norecv rfl) trivial (y_sub_ef rfl) fun v Yn o Hn L ho hr ha hIn hx_ hE hP => ?_
  replace hs_bk := y_Efld hE hY_this rfl (by decide) (by decide) hs_bk
  replace hs_im := y_Efld hE hY_this rfl (by decide) (by decide) hs_im
  replace hs_kk := y_Efld hE hY_this rfl (by decide) (by decide) hs_kk
  replace hA_bk := hA_bk.kept (y_Earr hE hY_bk rfl (by decide))
  replace hA_im := hA_im.kept (y_Earr hE hY_im rfl (by decide))
  replace hA_kk := hA_kk.kept (y_Earr hE hY_kk rfl (by decide))
  replace hY_this := y_ext hx_ hI.1 hY_this
  replace hY_bk := y_ext hx_ hI.1 hY_bk
  replace hY_im := y_ext hx_ hI.1 hY_im
  replace hY_kk := y_ext hx_ hI.1 hY_kk
  obtain ⟨r4, rfl, hin_r4, hout_r4⟩ := z_inR2 (hP _ _ _ rfl)
  clear ho hr ha hE hP hI hx_
  rename x_I _ _ _ _ _ _ _ _ _ _ => hI
  have ec0 : (0 : Int32).toInt = 0 := by decide
  refine lv_if_ne hx hb i3_d7 (tgt := 15) (by decide) (fun q7 => ?_) (fun q7 => ?_)
  · have q7_ : ¬ r4.toInt = (0 : Int32).toInt := fun q => q7 (Int32.toInt_inj.mp q)
    have hi1 := hin_r4 q7
    have hi : 0 ≤ i.toInt ∧ i.toInt ≤ 1 := by omega
    refine lv_iconst hx hb i3_d15 (v := 0) (by decide) ?_
    refine lv_istore_n hx hb i3_d16 rfl hl (by decide) (lv' := [(2, .int (0 : Int32)), (0, .ref this), (1, .int i)]) rfl fun ls hl => ?_
    exact i3_L17 B rfl hi hh hB_kk hs0 hA0 161 _ _ _ _ _ _ hI hY_this hY_bk hY_im hY_kk hs_bk hs_im hs_kk hA_bk hA_im hA_kk (lv_sub hl [0, 1, 2] rfl) (by first | assumption | omega) (by omega)
  · have q7_ : r4.toInt = (0 : Int32).toInt := by rw [q7]
    have hi1 := hout_r4 q7
    refine lv_aload_n hx hb i3_d10 rfl (lv_at hl 0 rfl) ?_
    refine y_call (z := (0, 102, 1, some 17, xM143)) (av := [.ref this]) (rest := []) (y_cokV (n := 0) (ci := 12) X ym_bad rfl rfl rfl (x_cons (x_bw68 3 rfl rfl) (x_cons (x_bw68 5 rfl rfl) (x_cons (x_at 32 (by decide +kernel) rfl) (x_cons (x_bw0 9 rfl rfl) x_nilm)))) (x_bw68 6 rfl rfl) (by decide +kernel) ⟨Nat.le_of_ble_eq_true rfl, Nat.le_of_ble_eq_true rfl⟩) hY0 hI rfl i3_d11 hl.1 (Nat.le_of_ble_eq_true rfl) (Nat.le_of_ble_eq_true rfl) (Nat.le_of_ble_eq_true rfl) (y_cons (y_cref hY_this rfl) y_nil) rfl (y_recv rfl hY_this) trivial (y_sub_ef rfl) fun v Yn o Hn L ho hr ha hIn hx_ hE hP => ?_
    replace hs_bk := y_Efld hE hY_this rfl (by decide) (by decide) hs_bk
    replace hs_im := y_Efld hE hY_this rfl (by decide) (by decide) hs_im
    replace hs_kk := y_Efld hE hY_this rfl (by decide) (by decide) hs_kk
    replace hA_bk := hA_bk.kept (y_Earr hE hY_bk rfl (by decide))
    replace hA_im := hA_im.kept (y_Earr hE hY_im rfl (by decide))
    replace hA_kk := hA_kk.kept (y_Earr hE hY_kk rfl (by decide))
    replace hY_this := y_ext hx_ hI.1 hY_this
    replace hY_bk := y_ext hx_ hI.1 hY_bk
    replace hY_im := y_ext hx_ hI.1 hY_im
    replace hY_kk := y_ext hx_ hI.1 hY_kk
    have hPb := hP
    obtain rfl := hPb
    clear ho hr ha hE hP hI hx_
    rename x_I _ _ _ _ _ _ _ _ _ _ => hI
    exact y_ireturn B hI rfl rfl rfl List.mem_cons_self ⟨_, rfl, ⟨_, rfl, x_i32 _⟩⟩ (x_cs.mono B.2.2.2.2.2 (y_mon B hI)) (fun t' mk' i' fk' h1 h2 h3 => by cases h1; cases h2.symm.trans hs0; have ef : ∀ j, j < 2 → fk' j = fk j := (fun j hj => by have := (h3 j hj).symm.trans (hA0 j hj); injection this with this; injection this); exact ⟨by rw [if_neg (by omega)], fun h => absurd h (by omega), fun _ => z_cpA hA_kk ef⟩) (Nat.le_refl _) (Nat.le_refl _) i3_d14
theorem f3_d0 : decode xMfr.2.1 0 = .ok (.iload_n 1, 1) := dz_ok (by decide +kernel)
theorem f3_d1 : decode xMfr.2.1 1 = .ok (.i2l, 1) := dz_ok (by decide +kernel)
theorem f3_d2 : decode xMfr.2.1 2 = .ok (.lconst 0, 1) := dz_ok (by decide +kernel)
theorem f3_d3 : decode xMfr.2.1 3 = .ok (.lconst 1, 1) := dz_ok (by decide +kernel)
theorem f3_d4 : decode xMfr.2.1 4 = .ok (.invokestatic 87, 3) := dz_ok (by decide +kernel)
theorem f3_d7 : decode xMfr.2.1 7 = .ok (.ifCond .ne 8, 3) := dz_ok (by decide +kernel)
theorem f3_d10 : decode xMfr.2.1 10 = .ok (.aload_n 0, 1) := dz_ok (by decide +kernel)
theorem f3_d11 : decode xMfr.2.1 11 = .ok (.invokevirtual 102, 3) := dz_ok (by decide +kernel)
theorem f3_d14 : decode xMfr.2.1 14 = .ok (.ireturn, 1) := dz_ok (by decide +kernel)
theorem f3_d15 : decode xMfr.2.1 15 = .ok (.aload_n 0, 1) := dz_ok (by decide +kernel)
theorem f3_d16 : decode xMfr.2.1 16 = .ok (.getfield 16, 3) := dz_ok (by decide +kernel)
theorem f3_d19 : decode xMfr.2.1 19 = .ok (.iload_n 1, 1) := dz_ok (by decide +kernel)
theorem f3_d20 : decode xMfr.2.1 20 = .ok (.baload, 1) := dz_ok (by decide +kernel)
theorem f3_d21 : decode xMfr.2.1 21 = .ok (.ifCond .ne 8, 3) := dz_ok (by decide +kernel)
theorem f3_d24 : decode xMfr.2.1 24 = .ok (.aload_n 0, 1) := dz_ok (by decide +kernel)
theorem f3_d25 : decode xMfr.2.1 25 = .ok (.invokevirtual 126, 3) := dz_ok (by decide +kernel)
theorem f3_d28 : decode xMfr.2.1 28 = .ok (.ireturn, 1) := dz_ok (by decide +kernel)
theorem f3_d29 : decode xMfr.2.1 29 = .ok (.iconst 0, 1) := dz_ok (by decide +kernel)
theorem f3_d30 : decode xMfr.2.1 30 = .ok (.istore_n 2, 1) := dz_ok (by decide +kernel)
theorem f3_d31 : decode xMfr.2.1 31 = .ok (.iload_n 2, 1) := dz_ok (by decide +kernel)
theorem f3_d32 : decode xMfr.2.1 32 = .ok (.sipush 160, 3) := dz_ok (by decide +kernel)
theorem f3_d35 : decode xMfr.2.1 35 = .ok (.if_icmp .ge 27, 3) := dz_ok (by decide +kernel)
theorem f3_d38 : decode xMfr.2.1 38 = .ok (.aload_n 0, 1) := dz_ok (by decide +kernel)
theorem f3_d39 : decode xMfr.2.1 39 = .ok (.getfield 7, 3) := dz_ok (by decide +kernel)
theorem f3_d42 : decode xMfr.2.1 42 = .ok (.iload_n 2, 1) := dz_ok (by decide +kernel)
theorem f3_d43 : decode xMfr.2.1 43 = .ok (.aload_n 0, 1) := dz_ok (by decide +kernel)
theorem f3_d44 : decode xMfr.2.1 44 = .ok (.getfield 13, 3) := dz_ok (by decide +kernel)
theorem f3_d47 : decode xMfr.2.1 47 = .ok (.sipush 160, 3) := dz_ok (by decide +kernel)
theorem f3_d50 : decode xMfr.2.1 50 = .ok (.iload_n 1, 1) := dz_ok (by decide +kernel)
theorem f3_d51 : decode xMfr.2.1 51 = .ok (.imul, 1) := dz_ok (by decide +kernel)
theorem f3_d52 : decode xMfr.2.1 52 = .ok (.iload_n 2, 1) := dz_ok (by decide +kernel)
theorem f3_d53 : decode xMfr.2.1 53 = .ok (.iadd, 1) := dz_ok (by decide +kernel)
theorem f3_d54 : decode xMfr.2.1 54 = .ok (.iaload, 1) := dz_ok (by decide +kernel)
theorem f3_d55 : decode xMfr.2.1 55 = .ok (.iastore, 1) := dz_ok (by decide +kernel)
theorem f3_d56 : decode xMfr.2.1 56 = .ok (.iinc 2 1, 3) := dz_ok (by decide +kernel)
theorem f3_d59 : decode xMfr.2.1 59 = .ok (.goto (-28), 3) := dz_ok (by decide +kernel)
theorem f3_d62 : decode xMfr.2.1 62 = .ok (.iconst 1, 1) := dz_ok (by decide +kernel)
theorem f3_d63 : decode xMfr.2.1 63 = .ok (.ireturn, 1) := dz_ok (by decide +kernel)
theorem f3_L31 {p : Program} {l : Launch} {e : Env} {s : State} {m : MethodId} {below : List Frame} {meth : Method} {c : Code} {D : va_G} {U : State} {Y0 : xY} {av : List Value} (B : y_B vwCl x_Tb x_Nb xMfr p s m meth c D U Y0 av) {this bk im kk : Nat} {i : Int32} {fi fk : Nat → Int32} (hav : av = [.ref this, .int i]) (hi : 0 ≤ i.toInt ∧ i.toInt ≤ 1) (hh : z_hd fun k => fi (160 * i.toInt + k).toNat) (hB_kk : ∀ j, j < 2 → (0 : Int) ≤ (fk j).toInt ∧ (fk j).toInt ≤ 1) (hs0 : x_sl D 12 2 this s.heap = some (.ref kk)) (hA0 : y_A kk 2 s.heap fk) (hne : ¬ fk i.toInt.toNat = 0)  :
    ∀ (n : Nat), ∀ (H : Heap) (Y : xY) (locs : List Loc) (ls : Array Slot) (k : Int32) (fb : Nat → Int32), x_I D x_G x_Zs U (x_efs xMfr) Y0 s.heap Y H locs → Y this = some 17 → Y bk = some 46 → Y im = some 47 → Y kk = some 48 → x_sl D 12 0 this H = some (.ref bk) → x_sl D 12 1 this H = some (.ref im) → x_sl D 12 2 this H = some (.ref kk) → y_A bk 160 H fb → y_A im 320 H fi → y_A kk 2 H fk → lv_has ls xMfr.2.2.1 [(2, .int k), (0, .ref this), (1, .int i)] → (0 ≤ k.toInt ∧ k.toInt ≤ 160) → (160 - k.toInt).toNat < n → W p l e (x_rm xMfr) s m av.toArray below meth c H locs 0 0 (y_QQ below D x_G x_Zs U xMfr z_Pmf av Y0 s) (F0 m 31 ls []) := by
  have X := B.1
  have hx := X.1
  have hb := X.2.1
  have hY0 := B.2.2.2.2.1
  intro n
  induction n with
  | zero => intro _ _ _ _ _ _ _ _ _ _ _ _ _ _ _ _ _ _ _ h; exact absurd h (Nat.not_lt_zero _)
  | succ n ih =>
    intro H Y locs ls k fb hI hY_this hY_bk hY_im hY_kk hs_bk hs_im hs_kk hA_bk hA_im hA_kk hl hk hn
    refine lv_iload_n hx hb f3_d31 rfl (lv_at hl 0 rfl) ?_
    refine lv_sipush hx hb f3_d32 (v := 160) (by decide) ?_
    have ec160 : (160 : Int32).toInt = 160 := by decide
    refine lv_icmp_ge hx hb f3_d35 (tgt := 62) (by decide) (fun q35 => ?_) (fun q35 => ?_)
    · have q35_ : (160 : Int32).toInt ≤ k.toInt := x_le32.mp q35
      refine lv_iconst hx hb f3_d62 (v := 1) (by decide) ?_
      have ec1 : (1 : Int32).toInt = 1 := by decide
      subst hav
      exact y_ireturn B hI rfl rfl rfl List.mem_cons_self ⟨_, rfl, ⟨_, rfl, x_i32 _⟩⟩ (x_cs.mono B.2.2.2.2.2 (y_mon B hI)) (fun t' mk' i' fk' h1 h2 h3 => by cases h1; cases h2.symm.trans hs0; have ef : ∀ j, j < 2 → fk' j = fk j := (fun j hj => by have := (h3 j hj).symm.trans (hA0 j hj); injection this with this; injection this); exact ⟨fun h => absurd hi h, fun _ h => absurd (by rw [← ef _ (by omega)]; exact h) hne, fun _ _ => rfl⟩) (Nat.le_refl _) (Nat.le_refl _) f3_d63
    · have q35_ : k.toInt < (160 : Int32).toInt := Int.not_le.mp fun q => q35 (x_le32.mpr q)
      refine lv_aload_n hx hb f3_d38 rfl (lv_at hl 1 rfl) ?_
      refine y_getf X (fl190 X.2.2.2.2.1) hI.1 hY_this rfl hs_bk f3_d39 ?_
      refine lv_iload_n hx hb f3_d42 rfl (lv_at hl 0 rfl) ?_
      refine lv_aload_n hx hb f3_d43 rfl (lv_at hl 1 rfl) ?_
      refine y_getf X (fl_im_239c X.2.2.2.2.1) hI.1 hY_this rfl hs_im f3_d44 ?_
      refine lv_sipush hx hb f3_d47 (v := 160) (by decide) ?_
      refine lv_iload_n hx hb f3_d50 rfl (lv_at hl 2 rfl) ?_
      refine lv_imul hx hb f3_d51 ?_
      generalize hg_z51 : (160 : Int32) * i = z51
      have h_z51 : z51.toInt = 160 * i.toInt := by rw [← hg_z51]; have := y_mul (x := (160 : Int32)) (y := i) (by rw [ec160]; omega) (by rw [ec160]; omega); rw [ec160] at this; exact this
      refine lv_iload_n hx hb f3_d52 rfl (lv_at hl 0 rfl) ?_
      refine lv_iadd hx hb f3_d53 ?_
      generalize hg_z53 : z51 + k = z53
      have h_z53 : z53.toInt = z51.toInt + k.toInt := by rw [← hg_z53]; have := y_add (x := z51) (y := k) (by omega) (by omega); exact this
      refine y_iald X hI.1 hY_im rfl hA_im (by omega) (by show _ < (320 : Int); omega) f3_d54 ?_
      obtain ⟨e54, hg_e54⟩ : ∃ e54 : Int32, fi z53.toInt.toNat = e54 := ⟨_, rfl⟩
      rw [hg_e54]
      refine y_iast X hY0 hI hY_bk rfl hA_bk (by omega) (by show _ < (160 : Int); omega) (by have := z_hdc (Y := Y) hh k.toInt.toNat; rw [show (160 * i.toInt + (k.toInt.toNat : Int)).toNat = z53.toInt.toNat by omega, hg_e54] at this; exact this) (by decide +kernel) f3_d55 fun H locs hI h_new ho => ?_
      replace hA_bk := h_new
      generalize hf_f55 : y_up fb k.toInt.toNat e54 = f55 at hA_bk
      replace hs_bk := y_slk hs_bk (ho _ (y_ne hY_this hY_bk rfl))
      replace hs_im := y_slk hs_im (ho _ (y_ne hY_this hY_bk rfl))
      replace hs_kk := y_slk hs_kk (ho _ (y_ne hY_this hY_bk rfl))
      replace hA_im := hA_im.kept (ho _ (y_ne hY_im hY_bk rfl))
      replace hA_kk := hA_kk.kept (ho _ (y_ne hY_kk hY_bk rfl))
      obtain ⟨z56, hg_z56⟩ : ∃ z56 : Int32, k + Int32.ofInt 1 = z56 := ⟨_, rfl⟩
      have h_z56 : z56.toInt = k.toInt + 1 := by rw [← hg_z56]; exact y_inc (by decide) (by omega) (by omega)
      refine lv_iinc hx hb f3_d56 hl (k := 0) rfl hg_z56 (by decide) (lv' := [(2, .int z56), (0, .ref this), (1, .int i)]) rfl fun ls hl => ?_
      refine lv_goto hx hb f3_d59 (tgt := 31) (by decide) ?_
      exact ih _ _ _ _ _ _ hI hY_this hY_bk hY_im hY_kk hs_bk hs_im hs_kk hA_bk hA_im hA_kk (lv_sub hl [0, 1, 2] rfl) (by first | assumption | omega) (by omega)
theorem ym_mfrom : y_Met vwCl x_G x_Zs x_Tb x_Nb xMfr y_T z_Pmf := by
  refine y_main (by decide +kernel) (by decide +kernel) x_Tb_good x_Nb_ok ?_
  intro p l e s m below meth c D U Y0 av ls B hI _ hl
  have X := B.1
  have hx := X.1
  have hb := X.2.1
  have hY0 := B.2.2.2.2.1
  obtain ⟨v0, v1, rfl, hv0, ⟨i, rfl, -⟩⟩ := x_two B.2.2.2.2.2
  obtain ⟨this, t0, rfl, ht0, hY_this⟩ := x_ref_at hv0 rfl
  obtain rfl := List.mem_singleton.mp ht0
  replace hl : lv_has ls xMfr.2.2.1 [(0, .ref this), (1, .int i)] := hl
  obtain ⟨bk, hs_bk, hY_bk⟩ := y_fldR (k := 0) hI.1 hY_this rfl rfl
  obtain ⟨im, hs_im, hY_im⟩ := y_fldR (k := 1) hI.1 hY_this rfl rfl
  obtain ⟨fb, hA_bk, hB_bk⟩ := y_arr hI.1 hY_bk rfl rfl
  obtain ⟨fi, hA_im, hB_im⟩ := y_arr hI.1 hY_im rfl rfl
  obtain ⟨kk, hs_kk, hY_kk⟩ := y_fldR (k := 2) hI.1 hY_this rfl rfl
  obtain ⟨fk, hA_kk, hB_kk⟩ := y_arr hI.1 hY_kk rfl rfl
  replace hB_kk : ∀ j, j < 2 → (0 : Int) ≤ (fk j).toInt ∧ (fk j).toInt ≤ 1 := fun j hj => by obtain ⟨x, e0, e1⟩ := hB_kk j hj; cases e0; exact e1
  have hs0 := hs_kk
  have hA0 := hA_kk
  refine lv_iload_n hx hb f3_d0 rfl (lv_at hl 1 rfl) ?_
  obtain ⟨z1, hg_z1⟩ : ∃ z1 : Int64, i.toInt64 = z1 := ⟨_, rfl⟩
  have h_z1 : z1.toInt = (i).toInt := by rw [← hg_z1]; exact Int32.toInt_toInt64 _
  refine lv_i2l hx hb f3_d1 (v := z1) hg_z1 ?_
  refine lv_lconst hx hb f3_d2 (v := 0) (by decide) ?_
  have el0 : (0 : Int64).toInt = 0 := by decide
  refine lv_lconst hx hb f3_d3 (v := 1) (by decide) ?_
  have el1 : (1 : Int64).toInt = 1 := by decide
  refine y_call (z := (1, 87, 3, none, xM148)) (av := [.long z1, .long (0 : Int64), .long (1 : Int64)]) (rest := []) (y_cokS (n := 3) X ym_in (x_cons (x_bw67 11 rfl rfl) (x_cons (x_bw67 12 rfl rfl) (x_cons (x_bw0 9 rfl rfl) x_nilm))) (x_bw67 13 rfl rfl) (by decide +kernel) ⟨Nat.le_of_ble_eq_true rfl, Nat.le_of_ble_eq_true rfl⟩) hY0 hI rfl f3_d4 hl.1 (Nat.le_of_ble_eq_true rfl) (Nat.le_of_ble_eq_true rfl) (Nat.le_of_ble_eq_true rfl) (y_cons ⟨_, rfl, x_i64 _⟩ (y_cons ⟨_, rfl, x_i64 _⟩ (y_cons ⟨_, rfl, x_i64 _⟩ y_nil))) rfl (y_norecv rfl) trivial (y_sub_ef rfl) fun v Yn o Hn L ho hr ha hIn hx_ hE hP => ?_
  replace hs_bk := y_Efld hE hY_this rfl (by decide) (by decide) hs_bk
  replace hs_im := y_Efld hE hY_this rfl (by decide) (by decide) hs_im
  replace hs_kk := y_Efld hE hY_this rfl (by decide) (by decide) hs_kk
  replace hA_bk := hA_bk.kept (y_Earr hE hY_bk rfl (by decide))
  replace hA_im := hA_im.kept (y_Earr hE hY_im rfl (by decide))
  replace hA_kk := hA_kk.kept (y_Earr hE hY_kk rfl (by decide))
  replace hY_this := y_ext hx_ hI.1 hY_this
  replace hY_bk := y_ext hx_ hI.1 hY_bk
  replace hY_im := y_ext hx_ hI.1 hY_im
  replace hY_kk := y_ext hx_ hI.1 hY_kk
  obtain ⟨r4, rfl, hin_r4, hout_r4⟩ := z_inR2 (hP _ _ _ rfl)
  clear ho hr ha hE hP hI hx_
  rename x_I _ _ _ _ _ _ _ _ _ _ => hI
  have ec0 : (0 : Int32).toInt = 0 := by decide
  refine lv_if_ne hx hb f3_d7 (tgt := 15) (by decide) (fun q7 => ?_) (fun q7 => ?_)
  · have q7_ : ¬ r4.toInt = (0 : Int32).toInt := fun q => q7 (Int32.toInt_inj.mp q)
    have hi1 := hin_r4 q7
    have hi : 0 ≤ i.toInt ∧ i.toInt ≤ 1 := by omega
    have hh := z_hdi hi hB_im
    refine lv_aload_n hx hb f3_d15 rfl (lv_at hl 0 rfl) ?_
    refine y_getf X (fl_im_238c X.2.2.2.2.1) hI.1 hY_this rfl hs_kk f3_d16 ?_
    refine lv_iload_n hx hb f3_d19 rfl (lv_at hl 1 rfl) ?_
    refine y_zald X hI.1 hY_kk rfl hA_kk (by omega) (by show _ < (2 : Int); omega) f3_d20 ?_
    obtain ⟨e20, hg_e20⟩ : ∃ e20 : Int32, fk i.toInt.toNat = e20 := ⟨_, rfl⟩
    rw [hg_e20]
    have h_e20 : (0 : Int) ≤ e20.toInt ∧ e20.toInt ≤ 1 := by rw [← hg_e20]; exact hB_kk _ (by omega)
    refine lv_if_ne hx hb f3_d21 (tgt := 29) (by decide) (fun q21 => ?_) (fun q21 => ?_)
    · have q21_ : ¬ e20.toInt = (0 : Int32).toInt := fun q => q21 (Int32.toInt_inj.mp q)
      have hne : ¬ fk i.toInt.toNat = 0 := by rw [hg_e20]; exact q21
      refine lv_iconst hx hb f3_d29 (v := 0) (by decide) ?_
      refine lv_istore_n hx hb f3_d30 rfl hl (by decide) (lv' := [(2, .int (0 : Int32)), (0, .ref this), (1, .int i)]) rfl fun ls hl => ?_
      exact f3_L31 B rfl hi hh hB_kk hs0 hA0 hne 161 _ _ _ _ _ _ hI hY_this hY_bk hY_im hY_kk hs_bk hs_im hs_kk hA_bk hA_im hA_kk (lv_sub hl [0, 1, 2] rfl) (by first | assumption | omega) (by omega)
    · have q21_ : e20.toInt = (0 : Int32).toInt := by rw [q21]
      refine lv_aload_n hx hb f3_d24 rfl (lv_at hl 0 rfl) ?_
      refine y_call (z := (0, 126, 1, some 17, xM164)) (av := [.ref this]) (rest := []) (y_cokV (n := 0) (ci := 12) X ym_no rfl rfl rfl (x_cons (x_bw70 11 rfl rfl) (x_cons (x_bw70 13 rfl rfl) (x_cons (x_at 38 (by decide +kernel) rfl) (x_cons (x_bw0 9 rfl rfl) x_nilm)))) (x_bw70 14 rfl rfl) (by decide +kernel) ⟨Nat.le_of_ble_eq_true rfl, Nat.le_of_ble_eq_true rfl⟩) hY0 hI rfl f3_d25 hl.1 (Nat.le_of_ble_eq_true rfl) (Nat.le_of_ble_eq_true rfl) (Nat.le_of_ble_eq_true rfl) (y_cons (y_cref hY_this rfl) y_nil) rfl (y_recv rfl hY_this) trivial (y_sub_ef rfl) fun v Yn o Hn L ho hr ha hIn hx_ hE hP => ?_
      replace hs_bk := y_Efld hE hY_this rfl (by decide) (by decide) hs_bk
      replace hs_im := y_Efld hE hY_this rfl (by decide) (by decide) hs_im
      replace hs_kk := y_Efld hE hY_this rfl (by decide) (by decide) hs_kk
      replace hA_bk := hA_bk.kept (y_Earr hE hY_bk rfl (by decide))
      replace hA_im := hA_im.kept (y_Earr hE hY_im rfl (by decide))
      replace hA_kk := hA_kk.kept (y_Earr hE hY_kk rfl (by decide))
      replace hY_this := y_ext hx_ hI.1 hY_this
      replace hY_bk := y_ext hx_ hI.1 hY_bk
      replace hY_im := y_ext hx_ hI.1 hY_im
      replace hY_kk := y_ext hx_ hI.1 hY_kk
      have hPb := hP
      obtain rfl := hPb
      clear ho hr ha hE hP hI hx_
      rename x_I _ _ _ _ _ _ _ _ _ _ => hI
      exact y_ireturn B hI rfl rfl rfl List.mem_cons_self ⟨_, rfl, ⟨_, rfl, x_i32 _⟩⟩ (x_cs.mono B.2.2.2.2.2 (y_mon B hI)) (fun t' mk' i' fk' h1 h2 h3 => by cases h1; cases h2.symm.trans hs0; have ef : ∀ j, j < 2 → fk' j = fk j := (fun j hj => by have := (h3 j hj).symm.trans (hA0 j hj); injection this with this; injection this); exact ⟨fun h => absurd hi h, fun _ _ => rfl, fun _ h => absurd (by rw [ef _ (by omega), hg_e20]; exact q21) h⟩) (Nat.le_refl _) (Nat.le_refl _) f3_d28
  · have q7_ : r4.toInt = (0 : Int32).toInt := by rw [q7]
    have hi1 := hout_r4 q7
    refine lv_aload_n hx hb f3_d10 rfl (lv_at hl 0 rfl) ?_
    refine y_call (z := (0, 102, 1, some 17, xM143)) (av := [.ref this]) (rest := []) (y_cokV (n := 0) (ci := 12) X ym_bad rfl rfl rfl (x_cons (x_bw68 3 rfl rfl) (x_cons (x_bw68 5 rfl rfl) (x_cons (x_at 32 (by decide +kernel) rfl) (x_cons (x_bw0 9 rfl rfl) x_nilm)))) (x_bw68 6 rfl rfl) (by decide +kernel) ⟨Nat.le_of_ble_eq_true rfl, Nat.le_of_ble_eq_true rfl⟩) hY0 hI rfl f3_d11 hl.1 (Nat.le_of_ble_eq_true rfl) (Nat.le_of_ble_eq_true rfl) (Nat.le_of_ble_eq_true rfl) (y_cons (y_cref hY_this rfl) y_nil) rfl (y_recv rfl hY_this) trivial (y_sub_ef rfl) fun v Yn o Hn L ho hr ha hIn hx_ hE hP => ?_
    replace hs_bk := y_Efld hE hY_this rfl (by decide) (by decide) hs_bk
    replace hs_im := y_Efld hE hY_this rfl (by decide) (by decide) hs_im
    replace hs_kk := y_Efld hE hY_this rfl (by decide) (by decide) hs_kk
    replace hA_bk := hA_bk.kept (y_Earr hE hY_bk rfl (by decide))
    replace hA_im := hA_im.kept (y_Earr hE hY_im rfl (by decide))
    replace hA_kk := hA_kk.kept (y_Earr hE hY_kk rfl (by decide))
    replace hY_this := y_ext hx_ hI.1 hY_this
    replace hY_bk := y_ext hx_ hI.1 hY_bk
    replace hY_im := y_ext hx_ hI.1 hY_im
    replace hY_kk := y_ext hx_ hI.1 hY_kk
    have hPb := hP
    obtain rfl := hPb
    clear ho hr ha hE hP hI hx_
    rename x_I _ _ _ _ _ _ _ _ _ _ => hI
    exact y_ireturn B hI rfl rfl rfl List.mem_cons_self ⟨_, rfl, ⟨_, rfl, x_i32 _⟩⟩ (x_cs.mono B.2.2.2.2.2 (y_mon B hI)) (fun t' mk' i' fk' h1 h2 h3 => by cases h1; cases h2.symm.trans hs0; have ef : ∀ j, j < 2 → fk' j = fk j := (fun j hj => by have := (h3 j hj).symm.trans (hA0 j hj); injection this with this; injection this); exact ⟨fun _ => rfl, fun h => absurd h (by omega), fun h => absurd h (by omega)⟩) (Nat.le_refl _) (Nat.le_refl _) f3_d14
