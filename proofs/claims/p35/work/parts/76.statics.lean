def xM80 : xM := (⟨"TwinFires", "mist", "(II)I"⟩, prog_1_method_18_code, 4, some .int, [xR false [0], xF, xF], [([xR false [0], xF, xF], some (xF))], [(28, 0), (42, 0)], (3, 66, 0, 0), none)
def xM77 : xM := (⟨"TwinFires", "years", "(I)I"⟩, prog_1_method_17_code, 4, some .int, [xR false [0], xF], [([xR false [0], xF], some (xF))], [(10, 0), (10, 1), (10, 2), (10, 3), (10, 4), (10, 5), (10, 6), (10, 7), (32, 0), (33, 0), (34, 0), (42, 0)], (5, 118, 0, 0), none)
theorem ye_d0 : decode xM77.2.1 0 = .ok (.aload_n 0, 1) := dz_ok (by decide +kernel)
theorem ye_d1 : decode xM77.2.1 1 = .ok (.getfield 12, 3) := dz_ok (by decide +kernel)
theorem ye_d4 : decode xM77.2.1 4 = .ok (.iload_n 1, 1) := dz_ok (by decide +kernel)
theorem ye_d5 : decode xM77.2.1 5 = .ok (.invokevirtual 169, 3) := dz_ok (by decide +kernel)
theorem ye_d8 : decode xM77.2.1 8 = .ok (.ifCond .ne 10, 3) := dz_ok (by decide +kernel)
theorem ye_d11 : decode xM77.2.1 11 = .ok (.aload_n 0, 1) := dz_ok (by decide +kernel)
theorem ye_d12 : decode xM77.2.1 12 = .ok (.bipush (-2), 2) := dz_ok (by decide +kernel)
theorem ye_d14 : decode xM77.2.1 14 = .ok (.invokevirtual 59, 3) := dz_ok (by decide +kernel)
theorem ye_d17 : decode xM77.2.1 17 = .ok (.ireturn, 1) := dz_ok (by decide +kernel)
theorem ye_d18 : decode xM77.2.1 18 = .ok (.iconst 0, 1) := dz_ok (by decide +kernel)
theorem ye_d19 : decode xM77.2.1 19 = .ok (.istore_n 2, 1) := dz_ok (by decide +kernel)
theorem ye_d20 : decode xM77.2.1 20 = .ok (.iconst 0, 1) := dz_ok (by decide +kernel)
theorem ye_d21 : decode xM77.2.1 21 = .ok (.istore_n 3, 1) := dz_ok (by decide +kernel)
theorem ye_d22 : decode xM77.2.1 22 = .ok (.iload_n 3, 1) := dz_ok (by decide +kernel)
theorem ye_d23 : decode xM77.2.1 23 = .ok (.bipush 10, 2) := dz_ok (by decide +kernel)
theorem ye_d25 : decode xM77.2.1 25 = .ok (.if_icmp .ge 82, 3) := dz_ok (by decide +kernel)
theorem ye_d28 : decode xM77.2.1 28 = .ok (.aload_n 0, 1) := dz_ok (by decide +kernel)
theorem ye_d29 : decode xM77.2.1 29 = .ok (.getfield 33, 3) := dz_ok (by decide +kernel)
theorem ye_d32 : decode xM77.2.1 32 = .ok (.aload_n 0, 1) := dz_ok (by decide +kernel)
theorem ye_d33 : decode xM77.2.1 33 = .ok (.getfield 12, 3) := dz_ok (by decide +kernel)
theorem ye_d36 : decode xM77.2.1 36 = .ok (.getstatic 192, 3) := dz_ok (by decide +kernel)
theorem ye_d39 : decode xM77.2.1 39 = .ok (.iconst 0, 1) := dz_ok (by decide +kernel)
theorem ye_d40 : decode xM77.2.1 40 = .ok (.iaload, 1) := dz_ok (by decide +kernel)
theorem ye_d41 : decode xM77.2.1 41 = .ok (.aload_n 0, 1) := dz_ok (by decide +kernel)
theorem ye_d42 : decode xM77.2.1 42 = .ok (.getfield 12, 3) := dz_ok (by decide +kernel)
theorem ye_d45 : decode xM77.2.1 45 = .ok (.getfield 95, 3) := dz_ok (by decide +kernel)
theorem ye_d48 : decode xM77.2.1 48 = .ok (.iconst 0, 1) := dz_ok (by decide +kernel)
theorem ye_d49 : decode xM77.2.1 49 = .ok (.iaload, 1) := dz_ok (by decide +kernel)
theorem ye_d50 : decode xM77.2.1 50 = .ok (.iload_n 3, 1) := dz_ok (by decide +kernel)
theorem ye_d51 : decode xM77.2.1 51 = .ok (.iadd, 1) := dz_ok (by decide +kernel)
theorem ye_d52 : decode xM77.2.1 52 = .ok (.invokestatic 195, 3) := dz_ok (by decide +kernel)
theorem ye_d55 : decode xM77.2.1 55 = .ok (.invokevirtual 200, 3) := dz_ok (by decide +kernel)
theorem ye_d58 : decode xM77.2.1 58 = .ok (.aload_n 0, 1) := dz_ok (by decide +kernel)
theorem ye_d59 : decode xM77.2.1 59 = .ok (.getfield 33, 3) := dz_ok (by decide +kernel)
theorem ye_d62 : decode xM77.2.1 62 = .ok (.aload_n 0, 1) := dz_ok (by decide +kernel)
theorem ye_d63 : decode xM77.2.1 63 = .ok (.getfield 12, 3) := dz_ok (by decide +kernel)
theorem ye_d66 : decode xM77.2.1 66 = .ok (.aload_n 0, 1) := dz_ok (by decide +kernel)
theorem ye_d67 : decode xM77.2.1 67 = .ok (.getfield 12, 3) := dz_ok (by decide +kernel)
theorem ye_d70 : decode xM77.2.1 70 = .ok (.getfield 95, 3) := dz_ok (by decide +kernel)
theorem ye_d73 : decode xM77.2.1 73 = .ok (.iconst 1, 1) := dz_ok (by decide +kernel)
theorem ye_d74 : decode xM77.2.1 74 = .ok (.iaload, 1) := dz_ok (by decide +kernel)
theorem ye_d75 : decode xM77.2.1 75 = .ok (.iconst 0, 1) := dz_ok (by decide +kernel)
theorem ye_d76 : decode xM77.2.1 76 = .ok (.invokevirtual 204, 3) := dz_ok (by decide +kernel)
theorem ye_d79 : decode xM77.2.1 79 = .ok (.iload_n 2, 1) := dz_ok (by decide +kernel)
theorem ye_d80 : decode xM77.2.1 80 = .ok (.aload_n 0, 1) := dz_ok (by decide +kernel)
theorem ye_d81 : decode xM77.2.1 81 = .ok (.getfield 33, 3) := dz_ok (by decide +kernel)
theorem ye_d84 : decode xM77.2.1 84 = .ok (.iload_n 1, 1) := dz_ok (by decide +kernel)
theorem ye_d85 : decode xM77.2.1 85 = .ok (.invokevirtual 172, 3) := dz_ok (by decide +kernel)
theorem ye_d88 : decode xM77.2.1 88 = .ok (.iconst (-1), 1) := dz_ok (by decide +kernel)
theorem ye_d89 : decode xM77.2.1 89 = .ok (.if_icmp .ne 9, 3) := dz_ok (by decide +kernel)
theorem ye_d92 : decode xM77.2.1 92 = .ok (.iconst 1, 1) := dz_ok (by decide +kernel)
theorem ye_d93 : decode xM77.2.1 93 = .ok (.iload_n 3, 1) := dz_ok (by decide +kernel)
theorem ye_d94 : decode xM77.2.1 94 = .ok (.ishl, 1) := dz_ok (by decide +kernel)
theorem ye_d95 : decode xM77.2.1 95 = .ok (.goto 4, 3) := dz_ok (by decide +kernel)
theorem ye_d98 : decode xM77.2.1 98 = .ok (.iconst 0, 1) := dz_ok (by decide +kernel)
theorem ye_d99 : decode xM77.2.1 99 = .ok (.ior, 1) := dz_ok (by decide +kernel)
theorem ye_d100 : decode xM77.2.1 100 = .ok (.istore_n 2, 1) := dz_ok (by decide +kernel)
theorem ye_d101 : decode xM77.2.1 101 = .ok (.iinc 3 1, 3) := dz_ok (by decide +kernel)
theorem ye_d104 : decode xM77.2.1 104 = .ok (.goto (-82), 3) := dz_ok (by decide +kernel)
theorem ye_d107 : decode xM77.2.1 107 = .ok (.iload_n 2, 1) := dz_ok (by decide +kernel)
theorem ye_d108 : decode xM77.2.1 108 = .ok (.ireturn, 1) := dz_ok (by decide +kernel)
theorem ye_L22 {p : Program} {l : Launch} {e : Env} {s : State} {m : MethodId} {below : List Frame} {meth : Method} {c : Code} {D : va_G} {U : State} {Y0 : xY} {av : List Value} (B : y_B vwCl x_Tb x_Nb xM77 p s m meth c D U Y0 av) {this : Nat} {set : Int32}  :
    ∀ (n : Nat), ∀ (H : Heap) (Y : xY) (locs : List Loc) (ls : Array Slot) (k : Int32) (bits : Int32), x_I D x_G x_Zs U (x_efs xM77) Y0 s.heap Y H locs → Y this = some 0 → lv_has ls xM77.2.2.1 [(3, .int k), (2, .int bits), (0, .ref this), (1, .int set)] → (0 ≤ k.toInt ∧ k.toInt ≤ 10) → (10 - k.toInt).toNat < n → W p l e (x_rm xM77) s m av.toArray below meth c H locs 0 0 (y_QQ below D x_G x_Zs U xM77 y_TP av Y0 s) (F0 m 22 ls []) := by
  have X := B.1
  have hx := X.1
  have hb := X.2.1
  have hY0 := B.2.2.2.2.1
  intro n
  induction n with
  | zero => intro _ _ _ _ _ _ _ _ _ _ h; exact absurd h (Nat.not_lt_zero _)
  | succ n ih =>
    intro H Y locs ls k bits  hI hY_this hl hk hn
    refine lv_iload_n hx hb ye_d22 rfl (lv_at hl 0 rfl) ?_
    refine lv_bipush hx hb ye_d23 (v := 10) (by decide) ?_
    have ec10 : (10 : Int32).toInt = 10 := by decide
    refine lv_icmp_ge hx hb ye_d25 (tgt := 107) (by decide) (fun q25 => ?_) (fun q25 => ?_)
    · have q25_ : (10 : Int32).toInt ≤ k.toInt := x_le32.mp q25
      refine lv_iload_n hx hb ye_d107 rfl (lv_at hl 1 rfl) ?_
      exact y_ireturn B hI rfl rfl rfl List.mem_cons_self ⟨_, rfl, ⟨_, rfl, x_i32 _⟩⟩ (x_cs.mono B.2.2.2.2.2 (y_mon B hI)) trivial (Nat.le_refl _) (Nat.le_refl _) ye_d108
    · have q25_ : k.toInt < (10 : Int32).toInt := Int.not_le.mp fun q => q25 (x_le32.mpr q)
      refine lv_aload_n hx hb ye_d28 rfl (lv_at hl 2 rfl) ?_
      obtain ⟨this_eyes, hs_this_eyes, hY_this_eyes⟩ := y_fldR (k := 4) hI.1 hY_this rfl rfl
      refine y_getf X (fl102 X.2.2.2.2.1) hI.1 hY_this rfl hs_this_eyes ye_d29 ?_
      refine lv_aload_n hx hb ye_d32 rfl (lv_at hl 2 rfl) ?_
      obtain ⟨this_here, hs_this_here, hY_this_here⟩ := y_fldR (k := 0) hI.1 hY_this rfl rfl
      refine y_getf X (fl8 X.2.2.2.2.1) hI.1 hY_this rfl hs_this_here ye_d33 ?_
      refine z_gets (z := x_Zs[1]) X (List.mem_of_getElem? (i := 1) rfl) (X.2.2.2.2.1 _ (x_bw45 6 rfl rfl)) hI.1 ye_d36 fun b36 f_b36 hT_b36 hR_b36 => ?_
      refine lv_iconst hx hb ye_d39 (v := 0) (by decide) ?_
      have ec0 : (0 : Int32).toInt = 0 := by decide
      refine z_tld X hT_b36 (by omega) (by show _ < (4 : Int); omega) ye_d40 ?_
      obtain ⟨e40, hg_e40⟩ : ∃ e40 : Int32, f_b36 (0 : Int32).toInt.toNat = e40 := ⟨_, rfl⟩
      rw [hg_e40]
      refine lv_aload_n hx hb ye_d41 rfl (lv_at hl 2 rfl) ?_
      refine y_getf X (fl8 X.2.2.2.2.1) hI.1 hY_this rfl hs_this_here ye_d42 ?_
      obtain ⟨this_here_dial, hs_this_here_dial, hY_this_here_dial⟩ := y_fldR (k := 10) hI.1 hY_this_here rfl rfl
      refine y_getf X (fl58 X.2.2.2.2.1) hI.1 hY_this_here rfl hs_this_here_dial ye_d45 ?_
      refine lv_iconst hx hb ye_d48 (v := 0) (by decide) ?_
      obtain ⟨f_this_here_dial, hA_this_here_dial, hB_this_here_dial⟩ := y_arr hI.1 hY_this_here_dial rfl rfl
      refine y_iald X hI.1 hY_this_here_dial rfl hA_this_here_dial (by omega) (by show _ < (4 : Int); omega) ye_d49 ?_
      obtain ⟨e49, hg_e49⟩ : ∃ e49 : Int32, f_this_here_dial (0 : Int32).toInt.toNat = e49 := ⟨_, rfl⟩
      rw [hg_e49]
      refine lv_iload_n hx hb ye_d50 rfl (lv_at hl 0 rfl) ?_
      refine lv_iadd hx hb ye_d51 ?_
      generalize hg_z51 : e49 + k = z51
      refine y_call (z := (1, 195, 2, none, (xMm2 Lib.Math.min.name prog_16_method_69_code))) (av := [.int e40, .int z51]) (rest := [.ref this_here, .ref this_eyes]) (y_cok.of (x_cokMin X (by decide +kernel) (x_cons (x_bw45 7 rfl rfl) (x_cons (x_bw28 6 rfl rfl) (x_cons (x_bw0 15 rfl rfl) (x_cons (x_bw28 7 rfl rfl) x_nilm)))) ⟨Nat.le_of_ble_eq_true rfl, Nat.le_of_ble_eq_true rfl⟩)) hY0 hI rfl ye_d52 hl.1 (Nat.le_of_ble_eq_true rfl) (Nat.le_of_ble_eq_true rfl) (Nat.le_of_ble_eq_true rfl) (y_cons ⟨_, rfl, x_i32 _⟩ (y_cons ⟨_, rfl, x_i32 _⟩ y_nil)) rfl (y_norecv rfl) trivial (y_sub_ef rfl) fun v Yn o Hn L ho hr ha hIn hx_ hE hP => ?_
      replace hs_this_eyes := y_Efld hE hY_this rfl (by decide) (by decide) hs_this_eyes
      replace hs_this_here := y_Efld hE hY_this rfl (by decide) (by decide) hs_this_here
      replace hs_this_here_dial := y_Efld hE hY_this_here rfl (by decide) (by decide) hs_this_here_dial
      replace hA_this_here_dial := hA_this_here_dial.kept (y_Earr hE hY_this_here_dial rfl (by decide))
      replace hY_this := y_ext hx_ hI.1 hY_this
      replace hY_this_eyes := y_ext hx_ hI.1 hY_this_eyes
      replace hY_this_here := y_ext hx_ hI.1 hY_this_here
      replace hY_this_here_dial := y_ext hx_ hI.1 hY_this_here_dial
      obtain ⟨r52, rfl, h_r52⟩ := y_ansI (lo := -2147483648) (hi := 2147483647) (by decide) ho hr
      clear ho hr ha hE hP hI hx_
      rename x_I _ _ _ _ _ _ _ _ _ _ => hI
      refine y_call (z := (0, 200, 3, some 6, xM49)) (av := [.ref this_eyes, .ref this_here, .int r52]) (rest := []) (y_cok.of (x_cokV (n := 2) (ci := 0) X xm49 rfl rfl rfl (x_cons (x_bw30 0 rfl rfl) (x_cons (x_bw30 1 rfl rfl) (x_cons (x_bw30 2 rfl rfl) (x_cons (x_bw0 6 rfl rfl) x_nilm)))) (x_bw30 3 rfl rfl) (by decide +kernel) ⟨Nat.le_of_ble_eq_true rfl, Nat.le_of_ble_eq_true rfl⟩)) hY0 hI rfl ye_d55 hl.1 (Nat.le_of_ble_eq_true rfl) (Nat.le_of_ble_eq_true rfl) (Nat.le_of_ble_eq_true rfl) (y_cons (y_cref hY_this_eyes rfl) (y_cons (y_cref hY_this_here rfl) (y_cons ⟨_, rfl, x_i32 _⟩ y_nil))) rfl (y_recv rfl hY_this_eyes) trivial (y_sub_ef rfl) fun v Yn o Hn L ho hr ha hIn hx_ hE hP => ?_
      replace hs_this_eyes := y_Efld hE hY_this rfl (by decide) (by decide) hs_this_eyes
      replace hs_this_here := y_Efld hE hY_this rfl (by decide) (by decide) hs_this_here
      replace hs_this_here_dial := y_Efld hE hY_this_here rfl (by decide) (by decide) hs_this_here_dial
      replace hA_this_here_dial := hA_this_here_dial.kept (y_Earr hE hY_this_here_dial rfl (by decide))
      replace hY_this := y_ext hx_ hI.1 hY_this
      replace hY_this_eyes := y_ext hx_ hI.1 hY_this_eyes
      replace hY_this_here := y_ext hx_ hI.1 hY_this_here
      replace hY_this_here_dial := y_ext hx_ hI.1 hY_this_here_dial
      obtain rfl := y_ansV rfl ho hr
      clear ho hr ha hE hP hI hx_
      rename x_I _ _ _ _ _ _ _ _ _ _ => hI
      refine lv_aload_n hx hb ye_d58 rfl (lv_at hl 2 rfl) ?_
      refine y_getf X (fl102 X.2.2.2.2.1) hI.1 hY_this rfl hs_this_eyes ye_d59 ?_
      refine lv_aload_n hx hb ye_d62 rfl (lv_at hl 2 rfl) ?_
      refine y_getf X (fl8 X.2.2.2.2.1) hI.1 hY_this rfl hs_this_here ye_d63 ?_
      refine lv_aload_n hx hb ye_d66 rfl (lv_at hl 2 rfl) ?_
      refine y_getf X (fl8 X.2.2.2.2.1) hI.1 hY_this rfl hs_this_here ye_d67 ?_
      refine y_getf X (fl58 X.2.2.2.2.1) hI.1 hY_this_here rfl hs_this_here_dial ye_d70 ?_
      refine lv_iconst hx hb ye_d73 (v := 1) (by decide) ?_
      have ec1 : (1 : Int32).toInt = 1 := by decide
      refine y_iald X hI.1 hY_this_here_dial rfl hA_this_here_dial (by omega) (by show _ < (4 : Int); omega) ye_d74 ?_
      obtain ⟨e74, hg_e74⟩ : ∃ e74 : Int32, f_this_here_dial (1 : Int32).toInt.toNat = e74 := ⟨_, rfl⟩
      rw [hg_e74]
      refine lv_iconst hx hb ye_d75 (v := 0) (by decide) ?_
      refine y_call (z := (0, 204, 4, some 6, xM51)) (av := [.ref this_eyes, .ref this_here, .int e74, .int (0 : Int32)]) (rest := []) (y_cok.of (x_cokV (n := 3) (ci := 0) X xm51 rfl rfl rfl (x_cons (x_bw32 11 rfl rfl) (x_cons (x_bw32 12 rfl rfl) (x_cons (x_bw32 13 rfl rfl) (x_cons (x_bw0 6 rfl rfl) x_nilm)))) (x_bw32 14 rfl rfl) (by decide +kernel) ⟨Nat.le_of_ble_eq_true rfl, Nat.le_of_ble_eq_true rfl⟩)) hY0 hI rfl ye_d76 hl.1 (Nat.le_of_ble_eq_true rfl) (Nat.le_of_ble_eq_true rfl) (Nat.le_of_ble_eq_true rfl) (y_cons (y_cref hY_this_eyes rfl) (y_cons (y_cref hY_this_here rfl) (y_cons ⟨_, rfl, x_i32 _⟩ (y_cons ⟨_, rfl, x_i32 _⟩ y_nil)))) rfl (y_recv rfl hY_this_eyes) trivial (y_sub_ef rfl) fun v Yn o Hn L ho hr ha hIn hx_ hE hP => ?_
      replace hs_this_eyes := y_Efld hE hY_this rfl (by decide) (by decide) hs_this_eyes
      replace hs_this_here := y_Efld hE hY_this rfl (by decide) (by decide) hs_this_here
      replace hs_this_here_dial := y_Efld hE hY_this_here rfl (by decide) (by decide) hs_this_here_dial
      replace hA_this_here_dial := hA_this_here_dial.kept (y_Earr hE hY_this_here_dial rfl (by decide))
      replace hY_this := y_ext hx_ hI.1 hY_this
      replace hY_this_eyes := y_ext hx_ hI.1 hY_this_eyes
      replace hY_this_here := y_ext hx_ hI.1 hY_this_here
      replace hY_this_here_dial := y_ext hx_ hI.1 hY_this_here_dial
      obtain rfl := y_ansV rfl ho hr
      clear ho hr ha hE hP hI hx_
      rename x_I _ _ _ _ _ _ _ _ _ _ => hI
      refine lv_iload_n hx hb ye_d79 rfl (lv_at hl 1 rfl) ?_
      refine lv_aload_n hx hb ye_d80 rfl (lv_at hl 2 rfl) ?_
      refine y_getf X (fl102 X.2.2.2.2.1) hI.1 hY_this rfl hs_this_eyes ye_d81 ?_
      refine lv_iload_n hx hb ye_d84 rfl (lv_at hl 3 rfl) ?_
      refine y_call (z := (0, 172, 2, some 6, xM72)) (av := [.ref this_eyes, .int set]) (rest := [.int bits]) (y_cok.of (x_cokV (n := 1) (ci := 0) X xm72 rfl rfl rfl (x_cons (x_bw42 10 rfl rfl) (x_cons (x_bw42 11 rfl rfl) (x_cons (x_bw42 12 rfl rfl) (x_cons (x_bw0 6 rfl rfl) x_nilm)))) (x_bw42 13 rfl rfl) (by decide +kernel) ⟨Nat.le_of_ble_eq_true rfl, Nat.le_of_ble_eq_true rfl⟩)) hY0 hI rfl ye_d85 hl.1 (Nat.le_of_ble_eq_true rfl) (Nat.le_of_ble_eq_true rfl) (Nat.le_of_ble_eq_true rfl) (y_cons (y_cref hY_this_eyes rfl) (y_cons ⟨_, rfl, x_i32 _⟩ y_nil)) rfl (y_recv rfl hY_this_eyes) trivial (y_sub_ef rfl) fun v Yn o Hn L ho hr ha hIn hx_ hE hP => ?_
      replace hs_this_eyes := y_Efld hE hY_this rfl (by decide) (by decide) hs_this_eyes
      replace hs_this_here := y_Efld hE hY_this rfl (by decide) (by decide) hs_this_here
      replace hs_this_here_dial := y_Efld hE hY_this_here rfl (by decide) (by decide) hs_this_here_dial
      replace hA_this_here_dial := hA_this_here_dial.kept (y_Earr hE hY_this_here_dial rfl (by decide))
      replace hY_this := y_ext hx_ hI.1 hY_this
      replace hY_this_eyes := y_ext hx_ hI.1 hY_this_eyes
      replace hY_this_here := y_ext hx_ hI.1 hY_this_here
      replace hY_this_here_dial := y_ext hx_ hI.1 hY_this_here_dial
      obtain ⟨r85, rfl, h_r85⟩ := y_ansI (lo := (-2147483648)) (hi := 2147483647) (by decide) ho hr
      clear ho hr ha hE hP hI hx_
      rename x_I _ _ _ _ _ _ _ _ _ _ => hI
      refine lv_iconst hx hb ye_d88 (v := (-1)) (by decide) ?_
      have ecm1 : ((-1) : Int32).toInt = (-1) := by decide
      refine lv_icmp_ne hx hb ye_d89 (tgt := 98) (by decide) (fun q89 => ?_) (fun q89 => ?_)
      · have q89_ : ¬ r85.toInt = ((-1) : Int32).toInt := fun q => q89 (Int32.toInt_inj.mp q)
        refine lv_iconst hx hb ye_d98 (v := 0) (by decide) ?_
        refine lv_ior hx hb ye_d99 ?_
        generalize hg_z99 : bits ||| (0 : Int32) = z99
        refine lv_istore_n hx hb ye_d100 rfl hl (by decide) (lv' := [(2, .int z99), (3, .int k), (0, .ref this), (1, .int set)]) rfl fun ls hl => ?_
        obtain ⟨z101, hg_z101⟩ : ∃ z101 : Int32, k + Int32.ofInt 1 = z101 := ⟨_, rfl⟩
        have h_z101 : z101.toInt = k.toInt + 1 := by rw [← hg_z101]; exact y_inc (by decide) (by omega) (by omega)
        refine lv_iinc hx hb ye_d101 hl (k := 1) rfl hg_z101 (by decide) (lv' := [(3, .int z101), (2, .int z99), (0, .ref this), (1, .int set)]) rfl fun ls hl => ?_
        refine lv_goto hx hb ye_d104 (tgt := 22) (by decide) ?_
        exact ih _ _ _ _ _ _ hI hY_this (lv_sub hl [0, 1, 2, 3] rfl) (by first | assumption | omega) (by omega)
      · have q89_ : r85.toInt = ((-1) : Int32).toInt := by rw [q89]
        refine lv_iconst hx hb ye_d92 (v := 1) (by decide) ?_
        refine lv_iload_n hx hb ye_d93 rfl (lv_at hl 0 rfl) ?_
        refine lv_ishl hx hb ye_d94 ?_
        generalize hg_z94 : (1 : Int32) <<< (k &&& 31) = z94
        refine lv_goto hx hb ye_d95 (tgt := 99) (by decide) ?_
        refine lv_ior hx hb ye_d99 ?_
        generalize hg_z99 : bits ||| z94 = z99
        refine lv_istore_n hx hb ye_d100 rfl hl (by decide) (lv' := [(2, .int z99), (3, .int k), (0, .ref this), (1, .int set)]) rfl fun ls hl => ?_
        obtain ⟨z101, hg_z101⟩ : ∃ z101 : Int32, k + Int32.ofInt 1 = z101 := ⟨_, rfl⟩
        have h_z101 : z101.toInt = k.toInt + 1 := by rw [← hg_z101]; exact y_inc (by decide) (by omega) (by omega)
        refine lv_iinc hx hb ye_d101 hl (k := 1) rfl hg_z101 (by decide) (lv' := [(3, .int z101), (2, .int z99), (0, .ref this), (1, .int set)]) rfl fun ls hl => ?_
        refine lv_goto hx hb ye_d104 (tgt := 22) (by decide) ?_
        exact ih _ _ _ _ _ _ hI hY_this (lv_sub hl [0, 1, 2, 3] rfl) (by first | assumption | omega) (by omega)
theorem xm77 : x_Met vwCl x_G x_Zs x_Tb x_Nb xM77 := by
  refine y_mainX (P := y_TP) (by decide +kernel) (by decide +kernel) x_Tb_good x_Nb_ok ?_
  intro p l e s m below meth c D U Y0 av ls B hI _ hl
  have X := B.1
  have hx := X.1
  have hb := X.2.1
  have hY0 := B.2.2.2.2.1
  obtain ⟨v0, v1, rfl, hv0, ⟨set, rfl, -⟩⟩ := x_two B.2.2.2.2.2
  obtain ⟨this, t0, rfl, ht0, hY_this⟩ := x_ref_at hv0 rfl
  obtain rfl := List.mem_singleton.mp ht0
  replace hl : lv_has ls xM77.2.2.1 [(0, .ref this), (1, .int set)] := hl
  refine lv_aload_n hx hb ye_d0 rfl (lv_at hl 0 rfl) ?_
  obtain ⟨this_here, hs_this_here, hY_this_here⟩ := y_fldR (k := 0) hI.1 hY_this rfl rfl
  refine y_getf X (fl8 X.2.2.2.2.1) hI.1 hY_this rfl hs_this_here ye_d1 ?_
  refine lv_iload_n hx hb ye_d4 rfl (lv_at hl 1 rfl) ?_
  refine y_call (z := (0, 169, 2, some 2, xM67)) (av := [.ref this_here, .int set]) (rest := []) (y_cok.of (x_cokV (n := 1) (ci := 2) X xm67 rfl rfl rfl (x_cons (x_bw42 2 rfl rfl) (x_cons (x_bw42 3 rfl rfl) (x_cons (x_bw42 4 rfl rfl) (x_cons (x_bw0 2 rfl rfl) x_nilm)))) (x_bw42 5 rfl rfl) (by decide +kernel) ⟨Nat.le_of_ble_eq_true rfl, Nat.le_of_ble_eq_true rfl⟩)) hY0 hI rfl ye_d5 hl.1 (Nat.le_of_ble_eq_true rfl) (Nat.le_of_ble_eq_true rfl) (Nat.le_of_ble_eq_true rfl) (y_cons (y_cref hY_this_here rfl) (y_cons ⟨_, rfl, x_i32 _⟩ y_nil)) rfl (y_recv rfl hY_this_here) trivial (y_sub_ef rfl) fun v Yn o Hn L ho hr ha hIn hx_ hE hP => ?_
  replace hs_this_here := y_Efld hE hY_this rfl (by decide) (by decide) hs_this_here
  replace hY_this := y_ext hx_ hI.1 hY_this
  replace hY_this_here := y_ext hx_ hI.1 hY_this_here
  obtain ⟨r5, rfl, h_r5⟩ := y_ansI (lo := 0) (hi := 1) (by decide) ho hr
  clear ho hr ha hE hP hI hx_
  rename x_I _ _ _ _ _ _ _ _ _ _ => hI
  have ec0 : (0 : Int32).toInt = 0 := by decide
  refine lv_if_ne hx hb ye_d8 (tgt := 18) (by decide) (fun q8 => ?_) (fun q8 => ?_)
  · have q8_ : ¬ r5.toInt = (0 : Int32).toInt := fun q => q8 (Int32.toInt_inj.mp q)
    refine lv_iconst hx hb ye_d18 (v := 0) (by decide) ?_
    refine lv_istore_n hx hb ye_d19 rfl hl (by decide) (lv' := [(2, .int (0 : Int32)), (0, .ref this), (1, .int set)]) rfl fun ls hl => ?_
    refine lv_iconst hx hb ye_d20 (v := 0) (by decide) ?_
    refine lv_istore_n hx hb ye_d21 rfl hl (by decide) (lv' := [(3, .int (0 : Int32)), (2, .int (0 : Int32)), (0, .ref this), (1, .int set)]) rfl fun ls hl => ?_
    exact ye_L22 B  12 _ _ _ _ _ _ hI hY_this (lv_sub hl [0, 1, 2, 3] rfl) (by first | assumption | omega) (by omega)
  · have q8_ : r5.toInt = (0 : Int32).toInt := by rw [q8]
    refine lv_aload_n hx hb ye_d11 rfl (lv_at hl 0 rfl) ?_
    refine lv_bipush hx hb ye_d12 (v := (-2)) (by decide) ?_
    have ecm2 : ((-2) : Int32).toInt = (-2) := by decide
    refine y_call (z := (0, 59, 2, some 0, xM8)) (av := [.ref this, .int ((-2) : Int32)]) (rest := []) (y_cok.of (x_cokV (n := 1) (ci := 11) X xm8 rfl rfl rfl (x_cons (x_bw19 7 rfl rfl) (x_cons (x_bw19 9 rfl rfl) (x_cons (x_at 1 (by decide +kernel) rfl) (x_cons (x_bw0 1 rfl rfl) x_nilm)))) (x_bw19 10 rfl rfl) (by decide +kernel) ⟨Nat.le_of_ble_eq_true rfl, Nat.le_of_ble_eq_true rfl⟩)) hY0 hI rfl ye_d14 hl.1 (Nat.le_of_ble_eq_true rfl) (Nat.le_of_ble_eq_true rfl) (Nat.le_of_ble_eq_true rfl) (y_cons (y_cref hY_this rfl) (y_cons ⟨_, rfl, x_i32 _⟩ y_nil)) rfl (y_recv rfl hY_this) trivial (y_sub_ef rfl) fun v Yn o Hn L ho hr ha hIn hx_ hE hP => ?_
    replace hs_this_here := y_Efld hE hY_this rfl (by decide) (by decide) hs_this_here
    replace hY_this := y_ext hx_ hI.1 hY_this
    replace hY_this_here := y_ext hx_ hI.1 hY_this_here
    obtain ⟨r14, rfl, h_r14⟩ := y_ansI (lo := (-2147483648)) (hi := 2147483647) (by decide) ho hr
    clear ho hr ha hE hP hI hx_
    rename x_I _ _ _ _ _ _ _ _ _ _ => hI
    exact y_ireturn B hI rfl rfl rfl List.mem_cons_self ⟨_, rfl, ⟨_, rfl, x_i32 _⟩⟩ (x_cs.mono B.2.2.2.2.2 (y_mon B hI)) trivial (Nat.le_refl _) (Nat.le_refl _) ye_d17

