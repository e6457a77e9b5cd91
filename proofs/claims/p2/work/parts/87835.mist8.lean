theorem mq_d0 : decode xM80.2.1 0 = .ok (.iload_n 1, 1) := by decide +kernel
theorem mq_d1 : decode xM80.2.1 1 = .ok (.iconst 0, 1) := by decide +kernel
theorem mq_d2 : decode xM80.2.1 2 = .ok (.bipush 11, 2) := by decide +kernel
theorem mq_d4 : decode xM80.2.1 4 = .ok (.invokestatic 88, 3) := by decide +kernel
theorem mq_d7 : decode xM80.2.1 7 = .ok (.ifCond .eq 16, 3) := by decide +kernel
theorem mq_d10 : decode xM80.2.1 10 = .ok (.iload_n 2, 1) := by decide +kernel
theorem mq_d11 : decode xM80.2.1 11 = .ok (.iconst 0, 1) := by decide +kernel
theorem mq_d12 : decode xM80.2.1 12 = .ok (.getstatic 192, 3) := by decide +kernel
theorem mq_d15 : decode xM80.2.1 15 = .ok (.iconst 1, 1) := by decide +kernel
theorem mq_d16 : decode xM80.2.1 16 = .ok (.iaload, 1) := by decide +kernel
theorem mq_d17 : decode xM80.2.1 17 = .ok (.invokestatic 88, 3) := by decide +kernel
theorem mq_d20 : decode xM80.2.1 20 = .ok (.ifCond .ne 10, 3) := by decide +kernel
theorem mq_d23 : decode xM80.2.1 23 = .ok (.aload_n 0, 1) := by decide +kernel
theorem mq_d24 : decode xM80.2.1 24 = .ok (.bipush (-2), 2) := by decide +kernel
theorem mq_d26 : decode xM80.2.1 26 = .ok (.invokevirtual 59, 3) := by decide +kernel
theorem mq_d29 : decode xM80.2.1 29 = .ok (.ireturn, 1) := by decide +kernel
theorem mq_d30 : decode xM80.2.1 30 = .ok (.aload_n 0, 1) := by decide +kernel
theorem mq_d31 : decode xM80.2.1 31 = .ok (.getfield 12, 3) := by decide +kernel
theorem mq_d34 : decode xM80.2.1 34 = .ok (.getfield 207, 3) := by decide +kernel
theorem mq_d37 : decode xM80.2.1 37 = .ok (.iload_n 1, 1) := by decide +kernel
theorem mq_d38 : decode xM80.2.1 38 = .ok (.iaload, 1) := by decide +kernel
theorem mq_d39 : decode xM80.2.1 39 = .ok (.istore_n 3, 1) := by decide +kernel
theorem mq_d40 : decode xM80.2.1 40 = .ok (.aload_n 0, 1) := by decide +kernel
theorem mq_d41 : decode xM80.2.1 41 = .ok (.getfield 12, 3) := by decide +kernel
theorem mq_d44 : decode xM80.2.1 44 = .ok (.getfield 207, 3) := by decide +kernel
theorem mq_d47 : decode xM80.2.1 47 = .ok (.iload_n 1, 1) := by decide +kernel
theorem mq_d48 : decode xM80.2.1 48 = .ok (.iload_n 2, 1) := by decide +kernel
theorem mq_d49 : decode xM80.2.1 49 = .ok (.iastore, 1) := by decide +kernel
theorem mq_d50 : decode xM80.2.1 50 = .ok (.iload_n 3, 1) := by decide +kernel
theorem mq_d51 : decode xM80.2.1 51 = .ok (.ireturn, 1) := by decide +kernel
theorem ym_mist8 : y_Met vwCl x_G x_Zs x_Tb x_Nb xM80 y_T z_Pmi8 := by
  refine y_main (by decide +kernel) (by decide +kernel) x_Tb_good x_Nb_ok ?_
  intro p l e s m below meth c D U Y0 av ls B hI _ hl
  have X := B.1
  have hx := X.1
  have hb := X.2.1
  have hY0 := B.2.2.2.2.1
  obtain ⟨v0, v1, v2, rfl, hv0, ⟨h, rfl, -⟩, ⟨w, rfl, -⟩⟩ := y_three B.2.2.2.2.2
  obtain ⟨this, t0, rfl, ht0, hY_this⟩ := x_ref_at hv0 rfl
  obtain rfl := List.mem_singleton.mp ht0
  replace hl : lv_has ls xM80.2.2.1 [(0, .ref this), (1, .int h), (2, .int w)] := hl
  obtain ⟨hd, hs_hd, hY_hd⟩ := y_fldR (k := 0) hI.1 hY_this rfl rfl
  obtain ⟨mh, hs_mh, hY_mh⟩ := y_fldR (k := 11) hI.1 hY_hd rfl rfl
  obtain ⟨fm, hA_mh, hB_mh⟩ := y_arr hI.1 hY_mh rfl rfl
  have hs0 := hs_hd
  have hs1 := hs_mh
  have hA0 := hA_mh
  have h28 : ∀ q, Y0 q = some 28 → s.heap[q]? = s.heap[q]? := fun _ _ => rfl
  refine lv_iload_n hx hb mq_d0 rfl (lv_at hl 1 rfl) ?_
  refine lv_iconst hx hb mq_d1 (v := 0) (by decide) ?_
  have ec0 : (0 : Int32).toInt = 0 := by decide
  refine lv_bipush hx hb mq_d2 (v := 11) (by decide) ?_
  have ec11 : (11 : Int32).toInt = 11 := by decide
  refine y_call (z := (1, 88, 3, none, xM10)) (av := [.int h, .int (0 : Int32), .int (11 : Int32)]) (rest := []) (y_cokS (n := 3) X ym_within (x_cons (x_at 383 (by decide +kernel) rfl) (x_cons (x_at 369 (by decide +kernel) rfl) (x_cons (x_at 65 (by decide +kernel) rfl) x_nilm))) (x_at 370 (by decide +kernel) rfl) (by decide +kernel) ⟨Nat.le_of_ble_eq_true rfl, Nat.le_of_ble_eq_true rfl⟩) hY0 hI rfl mq_d4 hl.1 (Nat.le_of_ble_eq_true rfl) (Nat.le_of_ble_eq_true rfl) (Nat.le_of_ble_eq_true rfl) (y_cons ⟨_, rfl, x_i32 _⟩ (y_cons ⟨_, rfl, x_i32 _⟩ (y_cons ⟨_, rfl, x_i32 _⟩ y_nil))) rfl (y_norecv rfl) trivial (y_sub_ef rfl) fun v Yn o Hn L ho hr ha hIn hx_ hE hP => ?_
  replace hs_hd := y_Efld hE hY_this rfl (by decide) (by decide) hs_hd
  replace hs_mh := y_Efld hE hY_hd rfl (by decide) (by decide) hs_mh
  replace hA_mh := hA_mh.kept (y_Earr hE hY_mh rfl (by decide))
  replace h28 := fun (q : Nat) (hq : Y0 q = some 28) => Eq.trans (y_Earr hE (y_mon B hI _ _ hq) rfl (by decide)) (h28 q hq)
  replace hY_this := y_ext hx_ hI.1 hY_this
  replace hY_hd := y_ext hx_ hI.1 hY_hd
  replace hY_mh := y_ext hx_ hI.1 hY_mh
  obtain ⟨r4, rfl, hin_r4, hout_r4⟩ := hP _ _ _ rfl
  clear ho hr ha hE hP hI hx_
  rename x_I _ _ _ _ _ _ _ _ _ _ => hI
  refine lv_if_eq hx hb mq_d7 (tgt := 23) (by decide) (fun q7 => ?_) (fun q7 => ?_)
  · have q7_ : r4.toInt = (0 : Int32).toInt := by rw [q7]
    have hno : ¬ z_okm h w := by unfold z_okm; first | (have hw := hout_r17 q20; omega) | (have hw := hout_r4 q7; omega)
    refine lv_aload_n hx hb mq_d23 rfl (lv_at hl 0 rfl) ?_
    refine lv_bipush hx hb mq_d24 (v := (-2)) (by decide) ?_
    have ecm2 : ((-2) : Int32).toInt = (-2) := by decide
    refine y_call (z := (0, 59, 2, some 0, xM8)) (av := [.ref this, .int ((-2) : Int32)]) (rest := []) (y_cokV (n := 1) (ci := 11) X ym_counted rfl rfl rfl (x_cons (x_at 375 (by decide +kernel) rfl) (x_cons (x_at 377 (by decide +kernel) rfl) (x_cons (x_at 1 (by decide +kernel) rfl) (x_cons (x_at 65 (by decide +kernel) rfl) x_nilm)))) (x_at 378 (by decide +kernel) rfl) (by decide +kernel) ⟨Nat.le_of_ble_eq_true rfl, Nat.le_of_ble_eq_true rfl⟩) hY0 hI rfl mq_d26 hl.1 (Nat.le_of_ble_eq_true rfl) (Nat.le_of_ble_eq_true rfl) (Nat.le_of_ble_eq_true rfl) (y_cons (y_cref hY_this rfl) (y_cons ⟨_, rfl, x_i32 _⟩ y_nil)) rfl (y_recv rfl hY_this) trivial (y_sub_ef rfl) fun v Yn o Hn L ho hr ha hIn hx_ hE hP => ?_
    replace hs_hd := y_Efld hE hY_this rfl (by decide) (by decide) hs_hd
    replace hs_mh := y_Efld hE hY_hd rfl (by decide) (by decide) hs_mh
    replace hA_mh := hA_mh.kept (y_Earr hE hY_mh rfl (by decide))
    replace h28 := fun (q : Nat) (hq : Y0 q = some 28) => Eq.trans (y_Earr hE (y_mon B hI _ _ hq) rfl (by decide)) (h28 q hq)
    replace hY_this := y_ext hx_ hI.1 hY_this
    replace hY_hd := y_ext hx_ hI.1 hY_hd
    replace hY_mh := y_ext hx_ hI.1 hY_mh
    obtain rfl := hP _ _ rfl
    clear ho hr ha hE hP hI hx_
    rename x_I _ _ _ _ _ _ _ _ _ _ => hI
    exact y_ireturn B hI rfl rfl rfl List.mem_cons_self ⟨_, rfl, ⟨_, rfl, x_i32 _⟩⟩ (x_cs.mono B.2.2.2.2.2 (y_mon B hI)) (fun t' d' m' h' w' f' h1 h2 h3 h4 => by cases h1; cases h2.symm.trans hs0; cases h3.symm.trans hs1; exact ⟨fun q hq _ => h28 q hq, fun _ => ⟨rfl, z_AE hA_mh (fun j hj => z_AU h4 hA0 rfl j hj)⟩, fun hk => absurd hk hno⟩) (Nat.le_refl _) (Nat.le_refl _) mq_d29
  · have q7_ : ¬ r4.toInt = (0 : Int32).toInt := fun q => q7 (Int32.toInt_inj.mp q)
    refine lv_iload_n hx hb mq_d10 rfl (lv_at hl 2 rfl) ?_
    refine lv_iconst hx hb mq_d11 (v := 0) (by decide) ?_
    refine z_getsV (z := x_Zs[1]) X (List.mem_of_getElem? (i := 1) rfl) (X.2.2.2.2.1 _ (x_at 790 (by decide +kernel) rfl)) hI.1 mq_d12 fun bG fG hT hV => ?_
    refine lv_iconst hx hb mq_d15 (v := 1) (by decide) ?_
    have ec1 : (1 : Int32).toInt = 1 := by decide
    refine z_tld X hT (by omega) (by show _ < (4 : Int); omega) mq_d16 ?_
    rw [show fG (1 : Int32).toInt.toNat = 99 from (hV _ (by decide +kernel)).trans (by decide +kernel)]
    have ec99 : (99 : Int32).toInt = 99 := by decide
    refine y_call (z := (1, 88, 3, none, xM10)) (av := [.int w, .int (0 : Int32), .int (99 : Int32)]) (rest := []) (y_cokS (n := 3) X ym_within (x_cons (x_at 383 (by decide +kernel) rfl) (x_cons (x_at 369 (by decide +kernel) rfl) (x_cons (x_at 65 (by decide +kernel) rfl) x_nilm))) (x_at 370 (by decide +kernel) rfl) (by decide +kernel) ⟨Nat.le_of_ble_eq_true rfl, Nat.le_of_ble_eq_true rfl⟩) hY0 hI rfl mq_d17 hl.1 (Nat.le_of_ble_eq_true rfl) (Nat.le_of_ble_eq_true rfl) (Nat.le_of_ble_eq_true rfl) (y_cons ⟨_, rfl, x_i32 _⟩ (y_cons ⟨_, rfl, x_i32 _⟩ (y_cons ⟨_, rfl, x_i32 _⟩ y_nil))) rfl (y_norecv rfl) trivial (y_sub_ef rfl) fun v Yn o Hn L ho hr ha hIn hx_ hE hP => ?_
    replace hs_hd := y_Efld hE hY_this rfl (by decide) (by decide) hs_hd
    replace hs_mh := y_Efld hE hY_hd rfl (by decide) (by decide) hs_mh
    replace hA_mh := hA_mh.kept (y_Earr hE hY_mh rfl (by decide))
    replace h28 := fun (q : Nat) (hq : Y0 q = some 28) => Eq.trans (y_Earr hE (y_mon B hI _ _ hq) rfl (by decide)) (h28 q hq)
    replace hY_this := y_ext hx_ hI.1 hY_this
    replace hY_hd := y_ext hx_ hI.1 hY_hd
    replace hY_mh := y_ext hx_ hI.1 hY_mh
    obtain ⟨r17, rfl, hin_r17, hout_r17⟩ := hP _ _ _ rfl
    clear ho hr ha hE hP hI hx_
    rename x_I _ _ _ _ _ _ _ _ _ _ => hI
    refine lv_if_ne hx hb mq_d20 (tgt := 30) (by decide) (fun q20 => ?_) (fun q20 => ?_)
    · have q20_ : ¬ r17.toInt = (0 : Int32).toInt := fun q => q20 (Int32.toInt_inj.mp q)
      have hw1 := hin_r4 q7
      have hw2 := hin_r17 q20
      have hok : z_okm h w := by unfold z_okm; omega
      refine lv_aload_n hx hb mq_d30 rfl (lv_at hl 0 rfl) ?_
      refine y_getf X (fl8 X.2.2.2.2.1) hI.1 hY_this rfl hs_hd mq_d31 ?_
      refine y_getf X (fl137 X.2.2.2.2.1) hI.1 hY_hd rfl hs_mh mq_d34 ?_
      refine lv_iload_n hx hb mq_d37 rfl (lv_at hl 1 rfl) ?_
      refine y_iald X hI.1 hY_mh rfl hA_mh (by omega) (by show _ < (12 : Int); omega) mq_d38 ?_
      obtain ⟨e38, hg_e38⟩ : ∃ e38 : Int32, fm h.toInt.toNat = e38 := ⟨_, rfl⟩
      rw [hg_e38]
      refine lv_istore_n hx hb mq_d39 rfl hl (by decide) (lv' := [(3, .int e38), (0, .ref this), (1, .int h), (2, .int w)]) rfl fun ls hl => ?_
      refine lv_aload_n hx hb mq_d40 rfl (lv_at hl 1 rfl) ?_
      refine y_getf X (fl8 X.2.2.2.2.1) hI.1 hY_this rfl hs_hd mq_d41 ?_
      refine y_getf X (fl137 X.2.2.2.2.1) hI.1 hY_hd rfl hs_mh mq_d44 ?_
      refine lv_iload_n hx hb mq_d47 rfl (lv_at hl 2 rfl) ?_
      refine lv_iload_n hx hb mq_d48 rfl (lv_at hl 3 rfl) ?_
      refine y_iast X hY0 hI hY_mh rfl hA_mh (by omega) (by show _ < (12 : Int); omega) ⟨_, rfl, x_i32 _⟩ (by decide +kernel) mq_d49 fun H locs hI h_new ho => ?_
      replace hA_mh := h_new
      generalize hf_f49 : y_up fm h.toInt.toNat w = f49 at hA_mh
      replace hs_hd := y_slk hs_hd (ho _ (y_ne hY_this hY_mh rfl))
      replace hs_mh := y_slk hs_mh (ho _ (y_ne hY_hd hY_mh rfl))
      refine lv_iload_n hx hb mq_d50 rfl (lv_at hl 0 rfl) ?_
      subst hg_e38
      exact y_ireturn B hI rfl rfl rfl List.mem_cons_self ⟨_, rfl, ⟨_, rfl, x_i32 _⟩⟩ (x_cs.mono B.2.2.2.2.2 (y_mon B hI)) (fun t' d' m' h' w' f' h1 h2 h3 h4 => by cases h1; cases h2.symm.trans hs0; cases h3.symm.trans hs1; exact ⟨fun q hq hn => (ho q hn).trans (h28 q hq), fun hk => absurd hok hk, fun _ => ⟨by rw [z_AU h4 hA0 rfl _ (by omega)], fun j hj => by rw [hA_mh j hj, ← hf_f49]; unfold y_up; rw [z_AU h4 hA0 rfl j hj]⟩⟩) (Nat.le_refl _) (Nat.le_refl _) mq_d51
    · have q20_ : r17.toInt = (0 : Int32).toInt := by rw [q20]
      have hno : ¬ z_okm h w := by unfold z_okm; first | (have hw := hout_r17 q20; omega) | (have hw := hout_r4 q7; omega)
      refine lv_aload_n hx hb mq_d23 rfl (lv_at hl 0 rfl) ?_
      refine lv_bipush hx hb mq_d24 (v := (-2)) (by decide) ?_
      have ecm2 : ((-2) : Int32).toInt = (-2) := by decide
      refine y_call (z := (0, 59, 2, some 0, xM8)) (av := [.ref this, .int ((-2) : Int32)]) (rest := []) (y_cokV (n := 1) (ci := 11) X ym_counted rfl rfl rfl (x_cons (x_at 375 (by decide +kernel) rfl) (x_cons (x_at 377 (by decide +kernel) rfl) (x_cons (x_at 1 (by decide +kernel) rfl) (x_cons (x_at 65 (by decide +kernel) rfl) x_nilm)))) (x_at 378 (by decide +kernel) rfl) (by decide +kernel) ⟨Nat.le_of_ble_eq_true rfl, Nat.le_of_ble_eq_true rfl⟩) hY0 hI rfl mq_d26 hl.1 (Nat.le_of_ble_eq_true rfl) (Nat.le_of_ble_eq_true rfl) (Nat.le_of_ble_eq_true rfl) (y_cons (y_cref hY_this rfl) (y_cons ⟨_, rfl, x_i32 _⟩ y_nil)) rfl (y_recv rfl hY_this) trivial (y_sub_ef rfl) fun v Yn o Hn L ho hr ha hIn hx_ hE hP => ?_
      replace hs_hd := y_Efld hE hY_this rfl (by decide) (by decide) hs_hd
      replace hs_mh := y_Efld hE hY_hd rfl (by decide) (by decide) hs_mh
      replace hA_mh := hA_mh.kept (y_Earr hE hY_mh rfl (by decide))
      replace h28 := fun (q : Nat) (hq : Y0 q = some 28) => Eq.trans (y_Earr hE (y_mon B hI _ _ hq) rfl (by decide)) (h28 q hq)
      replace hY_this := y_ext hx_ hI.1 hY_this
      replace hY_hd := y_ext hx_ hI.1 hY_hd
      replace hY_mh := y_ext hx_ hI.1 hY_mh
      obtain rfl := hP _ _ rfl
      clear ho hr ha hE hP hI hx_
      rename x_I _ _ _ _ _ _ _ _ _ _ => hI
      exact y_ireturn B hI rfl rfl rfl List.mem_cons_self ⟨_, rfl, ⟨_, rfl, x_i32 _⟩⟩ (x_cs.mono B.2.2.2.2.2 (y_mon B hI)) (fun t' d' m' h' w' f' h1 h2 h3 h4 => by cases h1; cases h2.symm.trans hs0; cases h3.symm.trans hs1; exact ⟨fun q hq _ => h28 q hq, fun _ => ⟨rfl, z_AE hA_mh (fun j hj => z_AU h4 hA0 rfl j hj)⟩, fun hk => absurd hk hno⟩) (Nat.le_refl _) (Nat.le_refl _) mq_d29
