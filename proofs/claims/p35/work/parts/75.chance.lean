def xMch : xM := (⟨"TwinFiresModel", "chance", "(II)I"⟩, prog_14_method_72_code, 6, some .int, [xR false [17], xF, xF], [([xR false [17], xF, xF], some (xF))], [(17, 6), (17, 7), (50, 0), (51, 0)], (5, 127, 0, 0), none)
theorem ch_d0 : decode xMch.2.1 0 = .ok (.aload_n 0, 1) := dz_ok (by decide +kernel)
theorem ch_d1 : decode xMch.2.1 1 = .ok (.iload_n 1, 1) := dz_ok (by decide +kernel)
theorem ch_d2 : decode xMch.2.1 2 = .ok (.invokevirtual 237, 3) := dz_ok (by decide +kernel)
theorem ch_d5 : decode xMch.2.1 5 = .ok (.ifCond .eq 11, 3) := dz_ok (by decide +kernel)
theorem ch_d8 : decode xMch.2.1 8 = .ok (.aload_n 0, 1) := dz_ok (by decide +kernel)
theorem ch_d9 : decode xMch.2.1 9 = .ok (.iload_n 2, 1) := dz_ok (by decide +kernel)
theorem ch_d10 : decode xMch.2.1 10 = .ok (.invokevirtual 151, 3) := dz_ok (by decide +kernel)
theorem ch_d13 : decode xMch.2.1 13 = .ok (.ifCond .ne 8, 3) := dz_ok (by decide +kernel)
theorem ch_d16 : decode xMch.2.1 16 = .ok (.aload_n 0, 1) := dz_ok (by decide +kernel)
theorem ch_d17 : decode xMch.2.1 17 = .ok (.invokevirtual 102, 3) := dz_ok (by decide +kernel)
theorem ch_d20 : decode xMch.2.1 20 = .ok (.ireturn, 1) := dz_ok (by decide +kernel)
theorem ch_d21 : decode xMch.2.1 21 = .ok (.aload_n 0, 1) := dz_ok (by decide +kernel)
theorem ch_d22 : decode xMch.2.1 22 = .ok (.invokevirtual 240, 3) := dz_ok (by decide +kernel)
theorem ch_d25 : decode xMch.2.1 25 = .ok (.aload_n 0, 1) := dz_ok (by decide +kernel)
theorem ch_d26 : decode xMch.2.1 26 = .ok (.iload_n 1, 1) := dz_ok (by decide +kernel)
theorem ch_d27 : decode xMch.2.1 27 = .ok (.invokevirtual 243, 3) := dz_ok (by decide +kernel)
theorem ch_d30 : decode xMch.2.1 30 = .ok (.ifCond .eq 11, 3) := dz_ok (by decide +kernel)
theorem ch_d33 : decode xMch.2.1 33 = .ok (.aload_n 0, 1) := dz_ok (by decide +kernel)
theorem ch_d34 : decode xMch.2.1 34 = .ok (.iload_n 1, 1) := dz_ok (by decide +kernel)
theorem ch_d35 : decode xMch.2.1 35 = .ok (.invokevirtual 279, 3) := dz_ok (by decide +kernel)
theorem ch_d38 : decode xMch.2.1 38 = .ok (.goto 4, 3) := dz_ok (by decide +kernel)
theorem ch_d41 : decode xMch.2.1 41 = .ok (.iconst 0, 1) := dz_ok (by decide +kernel)
theorem ch_d42 : decode xMch.2.1 42 = .ok (.istore_n 3, 1) := dz_ok (by decide +kernel)
theorem ch_d43 : decode xMch.2.1 43 = .ok (.iconst 0, 1) := dz_ok (by decide +kernel)
theorem ch_d44 : decode xMch.2.1 44 = .ok (.istore 4, 2) := dz_ok (by decide +kernel)
theorem ch_d46 : decode xMch.2.1 46 = .ok (.iconst 0, 1) := dz_ok (by decide +kernel)
theorem ch_d47 : decode xMch.2.1 47 = .ok (.istore 5, 2) := dz_ok (by decide +kernel)
theorem ch_d49 : decode xMch.2.1 49 = .ok (.iload 5, 2) := dz_ok (by decide +kernel)
theorem ch_d51 : decode xMch.2.1 51 = .ok (.aload_n 0, 1) := dz_ok (by decide +kernel)
theorem ch_d52 : decode xMch.2.1 52 = .ok (.getfield 7, 3) := dz_ok (by decide +kernel)
theorem ch_d55 : decode xMch.2.1 55 = .ok (.iconst 0, 1) := dz_ok (by decide +kernel)
theorem ch_d56 : decode xMch.2.1 56 = .ok (.iaload, 1) := dz_ok (by decide +kernel)
theorem ch_d57 : decode xMch.2.1 57 = .ok (.if_icmp .ge 28, 3) := dz_ok (by decide +kernel)
theorem ch_d60 : decode xMch.2.1 60 = .ok (.iload 4, 2) := dz_ok (by decide +kernel)
theorem ch_d62 : decode xMch.2.1 62 = .ok (.iload_n 3, 1) := dz_ok (by decide +kernel)
theorem ch_d63 : decode xMch.2.1 63 = .ok (.iload 5, 2) := dz_ok (by decide +kernel)
theorem ch_d65 : decode xMch.2.1 65 = .ok (.ishr, 1) := dz_ok (by decide +kernel)
theorem ch_d66 : decode xMch.2.1 66 = .ok (.iconst 1, 1) := dz_ok (by decide +kernel)
theorem ch_d67 : decode xMch.2.1 67 = .ok (.iand, 1) := dz_ok (by decide +kernel)
theorem ch_d68 : decode xMch.2.1 68 = .ok (.aload_n 0, 1) := dz_ok (by decide +kernel)
theorem ch_d69 : decode xMch.2.1 69 = .ok (.iload 5, 2) := dz_ok (by decide +kernel)
theorem ch_d71 : decode xMch.2.1 71 = .ok (.iconst 4, 1) := dz_ok (by decide +kernel)
theorem ch_d72 : decode xMch.2.1 72 = .ok (.invokevirtual 99, 3) := dz_ok (by decide +kernel)
theorem ch_d75 : decode xMch.2.1 75 = .ok (.imul, 1) := dz_ok (by decide +kernel)
theorem ch_d76 : decode xMch.2.1 76 = .ok (.iadd, 1) := dz_ok (by decide +kernel)
theorem ch_d77 : decode xMch.2.1 77 = .ok (.istore 4, 2) := dz_ok (by decide +kernel)
theorem ch_d79 : decode xMch.2.1 79 = .ok (.iinc 5 1, 3) := dz_ok (by decide +kernel)
theorem ch_d82 : decode xMch.2.1 82 = .ok (.goto (-33), 3) := dz_ok (by decide +kernel)
theorem ch_d85 : decode xMch.2.1 85 = .ok (.iload 4, 2) := dz_ok (by decide +kernel)
theorem ch_d87 : decode xMch.2.1 87 = .ok (.ifCond .ne 10, 3) := dz_ok (by decide +kernel)
theorem ch_d90 : decode xMch.2.1 90 = .ok (.aload_n 0, 1) := dz_ok (by decide +kernel)
theorem ch_d91 : decode xMch.2.1 91 = .ok (.invokevirtual 126, 3) := dz_ok (by decide +kernel)
theorem ch_d94 : decode xMch.2.1 94 = .ok (.goto 23, 3) := dz_ok (by decide +kernel)
theorem ch_d97 : decode xMch.2.1 97 = .ok (.aload_n 0, 1) := dz_ok (by decide +kernel)
theorem ch_d98 : decode xMch.2.1 98 = .ok (.iload_n 3, 1) := dz_ok (by decide +kernel)
theorem ch_d99 : decode xMch.2.1 99 = .ok (.iload_n 2, 1) := dz_ok (by decide +kernel)
theorem ch_d100 : decode xMch.2.1 100 = .ok (.ishr, 1) := dz_ok (by decide +kernel)
theorem ch_d101 : decode xMch.2.1 101 = .ok (.iconst 1, 1) := dz_ok (by decide +kernel)
theorem ch_d102 : decode xMch.2.1 102 = .ok (.iand, 1) := dz_ok (by decide +kernel)
theorem ch_d103 : decode xMch.2.1 103 = .ok (.aload_n 0, 1) := dz_ok (by decide +kernel)
theorem ch_d104 : decode xMch.2.1 104 = .ok (.iload_n 2, 1) := dz_ok (by decide +kernel)
theorem ch_d105 : decode xMch.2.1 105 = .ok (.iconst 4, 1) := dz_ok (by decide +kernel)
theorem ch_d106 : decode xMch.2.1 106 = .ok (.invokevirtual 99, 3) := dz_ok (by decide +kernel)
theorem ch_d109 : decode xMch.2.1 109 = .ok (.imul, 1) := dz_ok (by decide +kernel)
theorem ch_d110 : decode xMch.2.1 110 = .ok (.i2l, 1) := dz_ok (by decide +kernel)
theorem ch_d111 : decode xMch.2.1 111 = .ok (.iload 4, 2) := dz_ok (by decide +kernel)
theorem ch_d113 : decode xMch.2.1 113 = .ok (.i2l, 1) := dz_ok (by decide +kernel)
theorem ch_d114 : decode xMch.2.1 114 = .ok (.invokevirtual 154, 3) := dz_ok (by decide +kernel)
theorem ch_d117 : decode xMch.2.1 117 = .ok (.ireturn, 1) := dz_ok (by decide +kernel)
theorem ch_L49 {p : Program} {l : Launch} {e : Env} {s : State} {m : MethodId} {below : List Frame} {meth : Method} {c : Code} {D : va_G} {U : State} {Y0 : xY} {av : List Value} (B : y_B vwCl x_Tb x_Nb xMch p s m meth c D U Y0 av) {this bk : Nat} {set hill : Int32} {fb : Nat → Int32} (hb0 : 0 ≤ (fb 0).toInt ∧ (fb 0).toInt ≤ 10) (hhl : 0 ≤ hill.toInt ∧ hill.toInt ≤ 9) {these : Int32} :
    ∀ (n : Nat), ∀ (H : Heap) (Y : xY) (locs : List Loc) (ls : Array Slot) (h : Int32) (sum : Int32), x_I D x_G x_Zs U (x_efs xMch) Y0 s.heap Y H locs → Y this = some 17 → Y bk = some 46 → x_sl D 12 0 this H = some (.ref bk) → y_A bk 160 H fb → lv_has ls xMch.2.2.1 [(5, .int h), (4, .int sum), (3, .int these), (0, .ref this), (1, .int set), (2, .int hill)] → (0 ≤ h.toInt ∧ h.toInt ≤ 10) → (11 - h.toInt).toNat < n → W p l e (x_rm xMch) s m av.toArray below meth c H locs 0 0 (y_QQ below D x_G x_Zs U xMch y_TP av Y0 s) (F0 m 49 ls []) := by
  have X := B.1
  have hx := X.1
  have hb := X.2.1
  have hY0 := B.2.2.2.2.1
  intro n
  induction n with
  | zero => intro _ _ _ _ _ _ _ _ _ _ _ _ _ h; exact absurd h (Nat.not_lt_zero _)
  | succ n ih =>
    intro H Y locs ls h sum  hI hY_this hY_bk hs_bk hA_bk hl hh hn
    refine lv_iload hx hb ch_d49 (lv_at hl 0 rfl) ?_
    refine lv_aload_n hx hb ch_d51 rfl (lv_at hl 3 rfl) ?_
    refine y_getf X (fl190 X.2.2.2.2.1) hI.1 hY_this rfl hs_bk ch_d52 ?_
    refine lv_iconst hx hb ch_d55 (v := 0) (by decide) ?_
    have ec0 : (0 : Int32).toInt = 0 := by decide
    refine y_iald X hI.1 hY_bk rfl hA_bk (by omega) (by show _ < (160 : Int); omega) ch_d56 ?_
    obtain ⟨e56, hg_e56⟩ : ∃ e56 : Int32, fb (0 : Int32).toInt.toNat = e56 := ⟨_, rfl⟩
    rw [hg_e56]
    refine lv_icmp_ge hx hb ch_d57 (tgt := 85) (by decide) (fun q57 => ?_) (fun q57 => ?_)
    · have q57_ : e56.toInt ≤ h.toInt := x_le32.mp q57
      refine lv_iload hx hb ch_d85 (lv_at hl 1 rfl) ?_
      refine lv_if_ne hx hb ch_d87 (tgt := 97) (by decide) (fun q87 => ?_) (fun q87 => ?_)
      · have q87_ : ¬ sum.toInt = (0 : Int32).toInt := fun q => q87 (Int32.toInt_inj.mp q)
        have rs := x_rng sum
        rcases (show 1 ≤ sum.toInt ∨ sum.toInt ≤ -1 by omega) with hc | hc
        · refine lv_aload_n hx hb ch_d97 rfl (lv_at hl 3 rfl) ?_
          refine lv_iload_n hx hb ch_d98 rfl (lv_at hl 2 rfl) ?_
          refine lv_iload_n hx hb ch_d99 rfl (lv_at hl 5 rfl) ?_
          refine lv_ishr hx hb ch_d100 ?_
          generalize hg_z100 : these >>> (hill &&& 31) = z100
          refine lv_iconst hx hb ch_d101 (v := 1) (by decide) ?_
          have ec1 : (1 : Int32).toInt = 1 := by decide
          refine lv_iand hx hb ch_d102 ?_
          generalize hg_z102 : z100 &&& (1 : Int32) = z102
          refine lv_aload_n hx hb ch_d103 rfl (lv_at hl 3 rfl) ?_
          refine lv_iload_n hx hb ch_d104 rfl (lv_at hl 5 rfl) ?_
          refine lv_iconst hx hb ch_d105 (v := 4) (by decide) ?_
          have ec4 : (4 : Int32).toInt = 4 := by decide
          refine y_call (z := (0, 99, 3, some 17, xM145)) (av := [.ref this, .int hill, .int (4 : Int32)]) (rest := [.int z102, .ref this]) (y_cok.of (x_cokV (n := 2) (ci := 12) X xm145 rfl rfl rfl (x_cons (x_bw67 15 rfl rfl) (x_cons (x_bw68 1 rfl rfl) (x_cons (x_at 31 (by decide +kernel) rfl) (x_cons (x_bw0 9 rfl rfl) x_nilm)))) (x_bw68 2 rfl rfl) (by decide +kernel) ⟨Nat.le_of_ble_eq_true rfl, Nat.le_of_ble_eq_true rfl⟩)) hY0 hI rfl ch_d106 hl.1 (Nat.le_of_ble_eq_true rfl) (Nat.le_of_ble_eq_true rfl) (Nat.le_of_ble_eq_true rfl) (y_cons (y_cref hY_this rfl) (y_cons ⟨_, rfl, by show (0 : Int) ≤ _; omega, by show _ ≤ (9 : Int); omega⟩ (y_cons ⟨_, rfl, by show (0 : Int) ≤ _; omega, by show _ ≤ (4 : Int); omega⟩ y_nil))) rfl (y_recv rfl hY_this) trivial (y_sub_ef rfl) fun v Yn o Hn L ho hr ha hIn hx_ hE hP => ?_
          replace hs_bk := y_Efld hE hY_this rfl (by decide) (by decide) hs_bk
          replace hA_bk := hA_bk.kept (y_Earr hE hY_bk rfl (by decide))
          replace hY_this := y_ext hx_ hI.1 hY_this
          replace hY_bk := y_ext hx_ hI.1 hY_bk
          obtain ⟨r106, rfl, h_r106⟩ := y_ansI (lo := (-2147483648)) (hi := 2147483647) (by decide) ho hr
          clear ho hr ha hE hP hI hx_
          rename x_I _ _ _ _ _ _ _ _ _ _ => hI
          refine lv_imul hx hb ch_d109 ?_
          generalize hg_z109 : z102 * r106 = z109
          obtain ⟨z110, hg_z110⟩ : ∃ z110 : Int64, z109.toInt64 = z110 := ⟨_, rfl⟩
          have h_z110 : z110.toInt = (z109).toInt := by rw [← hg_z110]; exact Int32.toInt_toInt64 _
          refine lv_i2l hx hb ch_d110 (v := z110) hg_z110 ?_
          refine lv_iload hx hb ch_d111 (lv_at hl 1 rfl) ?_
          obtain ⟨z113, hg_z113⟩ : ∃ z113 : Int64, sum.toInt64 = z113 := ⟨_, rfl⟩
          have h_z113 : z113.toInt = (sum).toInt := by rw [← hg_z113]; exact Int32.toInt_toInt64 _
          refine lv_i2l hx hb ch_d113 (v := z113) hg_z113 ?_
          refine y_call (z := (0, 154, 3, some 17, xM1009)) (av := [.ref this, .long z110, .long z113]) (rest := []) (y_cok.of (x_cokV (n := 2) (ci := 12) X xm1009 rfl rfl rfl (x_cons (x_bw73 2 rfl rfl) (x_cons (x_bw73 4 rfl rfl) (x_cons (x_at 43 (by decide +kernel) rfl) (x_cons (x_bw0 9 rfl rfl) x_nilm)))) (x_bw73 5 rfl rfl) (by decide +kernel) ⟨Nat.le_of_ble_eq_true rfl, Nat.le_of_ble_eq_true rfl⟩)) hY0 hI rfl ch_d114 hl.1 (Nat.le_of_ble_eq_true rfl) (Nat.le_of_ble_eq_true rfl) (Nat.le_of_ble_eq_true rfl) (y_cons (y_cref hY_this rfl) (y_cons ⟨_, rfl, x_i64 _⟩ (y_cons ⟨_, rfl, by show (1 : Int) ≤ _; omega, by show _ ≤ (9223372036854775807 : Int); omega⟩ y_nil))) rfl (y_recv rfl hY_this) trivial (y_sub_ef rfl) fun v Yn o Hn L ho hr ha hIn hx_ hE hP => ?_
          replace hs_bk := y_Efld hE hY_this rfl (by decide) (by decide) hs_bk
          replace hA_bk := hA_bk.kept (y_Earr hE hY_bk rfl (by decide))
          replace hY_this := y_ext hx_ hI.1 hY_this
          replace hY_bk := y_ext hx_ hI.1 hY_bk
          obtain ⟨r114, rfl, h_r114⟩ := y_ansI (lo := (-2147483648)) (hi := 2147483647) (by decide) ho hr
          clear ho hr ha hE hP hI hx_
          rename x_I _ _ _ _ _ _ _ _ _ _ => hI
          exact y_ireturn B hI rfl rfl rfl List.mem_cons_self ⟨_, rfl, ⟨_, rfl, x_i32 _⟩⟩ (x_cs.mono B.2.2.2.2.2 (y_mon B hI)) trivial (Nat.le_refl _) (Nat.le_refl _) ch_d117
        · refine lv_aload_n hx hb ch_d97 rfl (lv_at hl 3 rfl) ?_
          refine lv_iload_n hx hb ch_d98 rfl (lv_at hl 2 rfl) ?_
          refine lv_iload_n hx hb ch_d99 rfl (lv_at hl 5 rfl) ?_
          refine lv_ishr hx hb ch_d100 ?_
          generalize hg_z100 : these >>> (hill &&& 31) = z100
          refine lv_iconst hx hb ch_d101 (v := 1) (by decide) ?_
          have ec1 : (1 : Int32).toInt = 1 := by decide
          refine lv_iand hx hb ch_d102 ?_
          generalize hg_z102 : z100 &&& (1 : Int32) = z102
          refine lv_aload_n hx hb ch_d103 rfl (lv_at hl 3 rfl) ?_
          refine lv_iload_n hx hb ch_d104 rfl (lv_at hl 5 rfl) ?_
          refine lv_iconst hx hb ch_d105 (v := 4) (by decide) ?_
          have ec4 : (4 : Int32).toInt = 4 := by decide
          refine y_call (z := (0, 99, 3, some 17, xM145)) (av := [.ref this, .int hill, .int (4 : Int32)]) (rest := [.int z102, .ref this]) (y_cok.of (x_cokV (n := 2) (ci := 12) X xm145 rfl rfl rfl (x_cons (x_bw67 15 rfl rfl) (x_cons (x_bw68 1 rfl rfl) (x_cons (x_at 31 (by decide +kernel) rfl) (x_cons (x_bw0 9 rfl rfl) x_nilm)))) (x_bw68 2 rfl rfl) (by decide +kernel) ⟨Nat.le_of_ble_eq_true rfl, Nat.le_of_ble_eq_true rfl⟩)) hY0 hI rfl ch_d106 hl.1 (Nat.le_of_ble_eq_true rfl) (Nat.le_of_ble_eq_true rfl) (Nat.le_of_ble_eq_true rfl) (y_cons (y_cref hY_this rfl) (y_cons ⟨_, rfl, by show (0 : Int) ≤ _; omega, by show _ ≤ (9 : Int); omega⟩ (y_cons ⟨_, rfl, by show (0 : Int) ≤ _; omega, by show _ ≤ (4 : Int); omega⟩ y_nil))) rfl (y_recv rfl hY_this) trivial (y_sub_ef rfl) fun v Yn o Hn L ho hr ha hIn hx_ hE hP => ?_
          replace hs_bk := y_Efld hE hY_this rfl (by decide) (by decide) hs_bk
          replace hA_bk := hA_bk.kept (y_Earr hE hY_bk rfl (by decide))
          replace hY_this := y_ext hx_ hI.1 hY_this
          replace hY_bk := y_ext hx_ hI.1 hY_bk
          obtain ⟨r106, rfl, h_r106⟩ := y_ansI (lo := (-2147483648)) (hi := 2147483647) (by decide) ho hr
          clear ho hr ha hE hP hI hx_
          rename x_I _ _ _ _ _ _ _ _ _ _ => hI
          refine lv_imul hx hb ch_d109 ?_
          generalize hg_z109 : z102 * r106 = z109
          obtain ⟨z110, hg_z110⟩ : ∃ z110 : Int64, z109.toInt64 = z110 := ⟨_, rfl⟩
          have h_z110 : z110.toInt = (z109).toInt := by rw [← hg_z110]; exact Int32.toInt_toInt64 _
          refine lv_i2l hx hb ch_d110 (v := z110) hg_z110 ?_
          refine lv_iload hx hb ch_d111 (lv_at hl 1 rfl) ?_
          obtain ⟨z113, hg_z113⟩ : ∃ z113 : Int64, sum.toInt64 = z113 := ⟨_, rfl⟩
          have h_z113 : z113.toInt = (sum).toInt := by rw [← hg_z113]; exact Int32.toInt_toInt64 _
          refine lv_i2l hx hb ch_d113 (v := z113) hg_z113 ?_
          refine y_call (z := (0, 154, 3, some 17, xM1015)) (av := [.ref this, .long z110, .long z113]) (rest := []) (y_cok.of (x_cokV (n := 2) (ci := 12) X xm1015 rfl rfl rfl (x_cons (x_bw73 2 rfl rfl) (x_cons (x_bw73 4 rfl rfl) (x_cons (x_at 43 (by decide +kernel) rfl) (x_cons (x_bw0 9 rfl rfl) x_nilm)))) (x_bw73 5 rfl rfl) (by decide +kernel) ⟨Nat.le_of_ble_eq_true rfl, Nat.le_of_ble_eq_true rfl⟩)) hY0 hI rfl ch_d114 hl.1 (Nat.le_of_ble_eq_true rfl) (Nat.le_of_ble_eq_true rfl) (Nat.le_of_ble_eq_true rfl) (y_cons (y_cref hY_this rfl) (y_cons ⟨_, rfl, x_i64 _⟩ (y_cons ⟨_, rfl, by show ((-9223372036854775808) : Int) ≤ _; omega, by show _ ≤ ((-1) : Int); omega⟩ y_nil))) rfl (y_recv rfl hY_this) trivial (y_sub_ef rfl) fun v Yn o Hn L ho hr ha hIn hx_ hE hP => ?_
          replace hs_bk := y_Efld hE hY_this rfl (by decide) (by decide) hs_bk
          replace hA_bk := hA_bk.kept (y_Earr hE hY_bk rfl (by decide))
          replace hY_this := y_ext hx_ hI.1 hY_this
          replace hY_bk := y_ext hx_ hI.1 hY_bk
          obtain ⟨r114, rfl, h_r114⟩ := y_ansI (lo := (-2147483648)) (hi := 2147483647) (by decide) ho hr
          clear ho hr ha hE hP hI hx_
          rename x_I _ _ _ _ _ _ _ _ _ _ => hI
          exact y_ireturn B hI rfl rfl rfl List.mem_cons_self ⟨_, rfl, ⟨_, rfl, x_i32 _⟩⟩ (x_cs.mono B.2.2.2.2.2 (y_mon B hI)) trivial (Nat.le_refl _) (Nat.le_refl _) ch_d117
      · have q87_ : sum.toInt = (0 : Int32).toInt := by rw [q87]
        refine lv_aload_n hx hb ch_d90 rfl (lv_at hl 3 rfl) ?_
        refine y_call (z := (0, 126, 1, some 17, xM164)) (av := [.ref this]) (rest := []) (y_cok.of (x_cokV (n := 0) (ci := 12) X xm164 rfl rfl rfl (x_cons (x_bw70 11 rfl rfl) (x_cons (x_bw70 13 rfl rfl) (x_cons (x_at 38 (by decide +kernel) rfl) (x_cons (x_bw0 9 rfl rfl) x_nilm)))) (x_bw70 14 rfl rfl) (by decide +kernel) ⟨Nat.le_of_ble_eq_true rfl, Nat.le_of_ble_eq_true rfl⟩)) hY0 hI rfl ch_d91 hl.1 (Nat.le_of_ble_eq_true rfl) (Nat.le_of_ble_eq_true rfl) (Nat.le_of_ble_eq_true rfl) (y_cons (y_cref hY_this rfl) y_nil) rfl (y_recv rfl hY_this) trivial (y_sub_ef rfl) fun v Yn o Hn L ho hr ha hIn hx_ hE hP => ?_
        replace hs_bk := y_Efld hE hY_this rfl (by decide) (by decide) hs_bk
        replace hA_bk := hA_bk.kept (y_Earr hE hY_bk rfl (by decide))
        replace hY_this := y_ext hx_ hI.1 hY_this
        replace hY_bk := y_ext hx_ hI.1 hY_bk
        obtain ⟨r91, rfl, h_r91⟩ := y_ansI (lo := (-2147483648)) (hi := 2147483647) (by decide) ho hr
        clear ho hr ha hE hP hI hx_
        rename x_I _ _ _ _ _ _ _ _ _ _ => hI
        refine lv_goto hx hb ch_d94 (tgt := 117) (by decide) ?_
        exact y_ireturn B hI rfl rfl rfl List.mem_cons_self ⟨_, rfl, ⟨_, rfl, x_i32 _⟩⟩ (x_cs.mono B.2.2.2.2.2 (y_mon B hI)) trivial (Nat.le_refl _) (Nat.le_refl _) ch_d117
    · have q57_ : h.toInt < e56.toInt := Int.not_le.mp fun q => q57 (x_le32.mpr q)
      have he56 : (fb 0).toInt = e56.toInt := by rw [← hg_e56]; rfl
      refine lv_iload hx hb ch_d60 (lv_at hl 1 rfl) ?_
      refine lv_iload_n hx hb ch_d62 rfl (lv_at hl 2 rfl) ?_
      refine lv_iload hx hb ch_d63 (lv_at hl 0 rfl) ?_
      refine lv_ishr hx hb ch_d65 ?_
      generalize hg_z65 : these >>> (h &&& 31) = z65
      refine lv_iconst hx hb ch_d66 (v := 1) (by decide) ?_
      have ec1 : (1 : Int32).toInt = 1 := by decide
      refine lv_iand hx hb ch_d67 ?_
      generalize hg_z67 : z65 &&& (1 : Int32) = z67
      refine lv_aload_n hx hb ch_d68 rfl (lv_at hl 3 rfl) ?_
      refine lv_iload hx hb ch_d69 (lv_at hl 0 rfl) ?_
      refine lv_iconst hx hb ch_d71 (v := 4) (by decide) ?_
      have ec4 : (4 : Int32).toInt = 4 := by decide
      refine y_call (z := (0, 99, 3, some 17, xM145)) (av := [.ref this, .int h, .int (4 : Int32)]) (rest := [.int z67, .int sum]) (y_cok.of (x_cokV (n := 2) (ci := 12) X xm145 rfl rfl rfl (x_cons (x_bw67 15 rfl rfl) (x_cons (x_bw68 1 rfl rfl) (x_cons (x_at 31 (by decide +kernel) rfl) (x_cons (x_bw0 9 rfl rfl) x_nilm)))) (x_bw68 2 rfl rfl) (by decide +kernel) ⟨Nat.le_of_ble_eq_true rfl, Nat.le_of_ble_eq_true rfl⟩)) hY0 hI rfl ch_d72 hl.1 (Nat.le_of_ble_eq_true rfl) (Nat.le_of_ble_eq_true rfl) (Nat.le_of_ble_eq_true rfl) (y_cons (y_cref hY_this rfl) (y_cons ⟨_, rfl, by show (0 : Int) ≤ _; omega, by show _ ≤ (9 : Int); omega⟩ (y_cons ⟨_, rfl, by show (0 : Int) ≤ _; omega, by show _ ≤ (4 : Int); omega⟩ y_nil))) rfl (y_recv rfl hY_this) trivial (y_sub_ef rfl) fun v Yn o Hn L ho hr ha hIn hx_ hE hP => ?_
      replace hs_bk := y_Efld hE hY_this rfl (by decide) (by decide) hs_bk
      replace hA_bk := hA_bk.kept (y_Earr hE hY_bk rfl (by decide))
      replace hY_this := y_ext hx_ hI.1 hY_this
      replace hY_bk := y_ext hx_ hI.1 hY_bk
      obtain ⟨r72, rfl, h_r72⟩ := y_ansI (lo := (-2147483648)) (hi := 2147483647) (by decide) ho hr
      clear ho hr ha hE hP hI hx_
      rename x_I _ _ _ _ _ _ _ _ _ _ => hI
      refine lv_imul hx hb ch_d75 ?_
      generalize hg_z75 : z67 * r72 = z75
      refine lv_iadd hx hb ch_d76 ?_
      generalize hg_z76 : sum + z75 = z76
      refine lv_istore hx hb ch_d77 hl (by decide) (lv' := [(4, .int z76), (5, .int h), (3, .int these), (0, .ref this), (1, .int set), (2, .int hill)]) rfl fun ls hl => ?_
      obtain ⟨z79, hg_z79⟩ : ∃ z79 : Int32, h + Int32.ofInt 1 = z79 := ⟨_, rfl⟩
      have h_z79 : z79.toInt = h.toInt + 1 := by rw [← hg_z79]; exact y_inc (by decide) (by omega) (by omega)
      refine lv_iinc hx hb ch_d79 hl (k := 1) rfl hg_z79 (by decide) (lv' := [(5, .int z79), (4, .int z76), (3, .int these), (0, .ref this), (1, .int set), (2, .int hill)]) rfl fun ls hl => ?_
      refine lv_goto hx hb ch_d82 (tgt := 49) (by decide) ?_
      exact ih _ _ _ _ _ _ hI hY_this hY_bk hs_bk hA_bk (lv_sub hl [0, 1, 2, 3, 4, 5] rfl) (by first | assumption | omega) (by omega)
theorem ym_chance : y_Met vwCl x_G x_Zs x_Tb x_Nb xMch y_T y_TP := by
  refine y_main (by decide +kernel) (by decide +kernel) x_Tb_good x_Nb_ok ?_
  intro p l e s m below meth c D U Y0 av ls B hI _ hl
  have X := B.1
  have hx := X.1
  have hb := X.2.1
  have hY0 := B.2.2.2.2.1
  obtain ⟨v0, v1, v2, rfl, hv0, ⟨set, rfl, -⟩, ⟨hill, rfl, -⟩⟩ := y_three B.2.2.2.2.2
  obtain ⟨this, t0, rfl, ht0, hY_this⟩ := x_ref_at hv0 rfl
  obtain rfl := List.mem_singleton.mp ht0
  replace hl : lv_has ls xMch.2.2.1 [(0, .ref this), (1, .int set), (2, .int hill)] := hl
  obtain ⟨bk, hs_bk, hY_bk⟩ := y_fldR (k := 0) hI.1 hY_this rfl rfl
  obtain ⟨fb, hA_bk, hB_bk⟩ := y_arr hI.1 hY_bk rfl rfl
  have hb0 : 0 ≤ (fb 0).toInt ∧ (fb 0).toInt ≤ 10 := (z_hdr hB_bk).1
  refine lv_aload_n hx hb ch_d0 rfl (lv_at hl 0 rfl) ?_
  refine lv_iload_n hx hb ch_d1 rfl (lv_at hl 1 rfl) ?_
  refine y_call (z := (0, 237, 2, some 17, xM184)) (av := [.ref this, .int set]) (rest := []) (y_cok.of (x_cokV (n := 1) (ci := 12) X xm184 rfl rfl rfl (x_cons (x_bw77 0 rfl rfl) (x_cons (x_bw77 2 rfl rfl) (x_cons (x_at 48 (by decide +kernel) rfl) (x_cons (x_bw0 9 rfl rfl) x_nilm)))) (x_bw77 3 rfl rfl) (by decide +kernel) ⟨Nat.le_of_ble_eq_true rfl, Nat.le_of_ble_eq_true rfl⟩)) hY0 hI rfl ch_d2 hl.1 (Nat.le_of_ble_eq_true rfl) (Nat.le_of_ble_eq_true rfl) (Nat.le_of_ble_eq_true rfl) (y_cons (y_cref hY_this rfl) (y_cons ⟨_, rfl, x_i32 _⟩ y_nil)) rfl (y_recv rfl hY_this) trivial (y_sub_ef rfl) fun v Yn o Hn L ho hr ha hIn hx_ hE hP => ?_
  replace hs_bk := y_Efld hE hY_this rfl (by decide) (by decide) hs_bk
  replace hA_bk := hA_bk.kept (y_Earr hE hY_bk rfl (by decide))
  replace hY_this := y_ext hx_ hI.1 hY_this
  replace hY_bk := y_ext hx_ hI.1 hY_bk
  obtain ⟨r2, rfl, h_r2⟩ := y_ansI (lo := 0) (hi := 1) (by decide) ho hr
  clear ho hr ha hE hP hI hx_
  rename x_I _ _ _ _ _ _ _ _ _ _ => hI
  have ec0 : (0 : Int32).toInt = 0 := by decide
  refine lv_if_eq hx hb ch_d5 (tgt := 16) (by decide) (fun q5 => ?_) (fun q5 => ?_)
  · have q5_ : r2.toInt = (0 : Int32).toInt := by rw [q5]
    refine lv_aload_n hx hb ch_d16 rfl (lv_at hl 0 rfl) ?_
    refine y_call (z := (0, 102, 1, some 17, xM143)) (av := [.ref this]) (rest := []) (y_cok.of (x_cokV (n := 0) (ci := 12) X xm143 rfl rfl rfl (x_cons (x_bw68 3 rfl rfl) (x_cons (x_bw68 5 rfl rfl) (x_cons (x_at 32 (by decide +kernel) rfl) (x_cons (x_bw0 9 rfl rfl) x_nilm)))) (x_bw68 6 rfl rfl) (by decide +kernel) ⟨Nat.le_of_ble_eq_true rfl, Nat.le_of_ble_eq_true rfl⟩)) hY0 hI rfl ch_d17 hl.1 (Nat.le_of_ble_eq_true rfl) (Nat.le_of_ble_eq_true rfl) (Nat.le_of_ble_eq_true rfl) (y_cons (y_cref hY_this rfl) y_nil) rfl (y_recv rfl hY_this) trivial (y_sub_ef rfl) fun v Yn o Hn L ho hr ha hIn hx_ hE hP => ?_
    replace hs_bk := y_Efld hE hY_this rfl (by decide) (by decide) hs_bk
    replace hA_bk := hA_bk.kept (y_Earr hE hY_bk rfl (by decide))
    replace hY_this := y_ext hx_ hI.1 hY_this
    replace hY_bk := y_ext hx_ hI.1 hY_bk
    obtain ⟨r17, rfl, h_r17⟩ := y_ansI (lo := (-2147483648)) (hi := 2147483647) (by decide) ho hr
    clear ho hr ha hE hP hI hx_
    rename x_I _ _ _ _ _ _ _ _ _ _ => hI
    exact y_ireturn B hI rfl rfl rfl List.mem_cons_self ⟨_, rfl, ⟨_, rfl, x_i32 _⟩⟩ (x_cs.mono B.2.2.2.2.2 (y_mon B hI)) trivial (Nat.le_refl _) (Nat.le_refl _) ch_d20
  · have q5_ : ¬ r2.toInt = (0 : Int32).toInt := fun q => q5 (Int32.toInt_inj.mp q)
    refine lv_aload_n hx hb ch_d8 rfl (lv_at hl 0 rfl) ?_
    refine lv_iload_n hx hb ch_d9 rfl (lv_at hl 2 rfl) ?_
    refine y_call (z := (0, 151, 2, some 17, xM171)) (av := [.ref this, .int hill]) (rest := []) (y_cok.of (x_cokV (n := 1) (ci := 12) X xm171 rfl rfl rfl (x_cons (x_bw72 2 rfl rfl) (x_cons (x_bw72 4 rfl rfl) (x_cons (x_at 40 (by decide +kernel) rfl) (x_cons (x_bw0 9 rfl rfl) x_nilm)))) (x_bw72 5 rfl rfl) (by decide +kernel) ⟨Nat.le_of_ble_eq_true rfl, Nat.le_of_ble_eq_true rfl⟩)) hY0 hI rfl ch_d10 hl.1 (Nat.le_of_ble_eq_true rfl) (Nat.le_of_ble_eq_true rfl) (Nat.le_of_ble_eq_true rfl) (y_cons (y_cref hY_this rfl) (y_cons ⟨_, rfl, x_i32 _⟩ y_nil)) rfl (y_recv rfl hY_this) trivial (y_sub_ef rfl) fun v Yn o Hn L ho hr ha hIn hx_ hE hP => ?_
    replace hs_bk := y_Efld hE hY_this rfl (by decide) (by decide) hs_bk
    replace hA_bk := hA_bk.kept (y_Earr hE hY_bk rfl (by decide))
    replace hY_this := y_ext hx_ hI.1 hY_this
    replace hY_bk := y_ext hx_ hI.1 hY_bk
    obtain ⟨r10, rfl, hin_r10⟩ := z_hillR ho hr ha
    clear ho hr ha hE hP hI hx_
    rename x_I _ _ _ _ _ _ _ _ _ _ => hI
    refine lv_if_ne hx hb ch_d13 (tgt := 21) (by decide) (fun q13 => ?_) (fun q13 => ?_)
    · have q13_ : ¬ r10.toInt = (0 : Int32).toInt := fun q => q13 (Int32.toInt_inj.mp q)
      have hhl := hin_r10 q13
      refine lv_aload_n hx hb ch_d21 rfl (lv_at hl 0 rfl) ?_
      refine y_call (z := (0, 240, 1, some 17, xM186)) (av := [.ref this]) (rest := []) (y_cok.of (x_cokV (n := 0) (ci := 12) X xm186 rfl rfl rfl (x_cons (x_bw77 8 rfl rfl) (x_cons (x_bw77 10 rfl rfl) (x_cons (x_at 50 (by decide +kernel) rfl) (x_cons (x_bw0 9 rfl rfl) x_nilm)))) (x_bw77 11 rfl rfl) (by decide +kernel) ⟨Nat.le_of_ble_eq_true rfl, Nat.le_of_ble_eq_true rfl⟩)) hY0 hI rfl ch_d22 hl.1 (Nat.le_of_ble_eq_true rfl) (Nat.le_of_ble_eq_true rfl) (Nat.le_of_ble_eq_true rfl) (y_cons (y_cref hY_this rfl) y_nil) rfl (y_recv rfl hY_this) trivial (y_sub_ef rfl) fun v Yn o Hn L ho hr ha hIn hx_ hE hP => ?_
      replace hs_bk := y_Efld hE hY_this rfl (by decide) (by decide) hs_bk
      replace hA_bk := hA_bk.kept (y_Earr hE hY_bk rfl (by decide))
      replace hY_this := y_ext hx_ hI.1 hY_this
      replace hY_bk := y_ext hx_ hI.1 hY_bk
      obtain rfl := y_ansV rfl ho hr
      clear ho hr ha hE hP hI hx_
      rename x_I _ _ _ _ _ _ _ _ _ _ => hI
      refine lv_aload_n hx hb ch_d25 rfl (lv_at hl 0 rfl) ?_
      refine lv_iload_n hx hb ch_d26 rfl (lv_at hl 1 rfl) ?_
      refine y_call (z := (0, 243, 2, some 17, xM191)) (av := [.ref this, .int set]) (rest := []) (y_cok.of (x_cokV (n := 1) (ci := 12) X xm191 rfl rfl rfl (x_cons (x_bw78 11 rfl rfl) (x_cons (x_bw78 13 rfl rfl) (x_cons (x_at 52 (by decide +kernel) rfl) (x_cons (x_bw0 9 rfl rfl) x_nilm)))) (x_bw78 14 rfl rfl) (by decide +kernel) ⟨Nat.le_of_ble_eq_true rfl, Nat.le_of_ble_eq_true rfl⟩)) hY0 hI rfl ch_d27 hl.1 (Nat.le_of_ble_eq_true rfl) (Nat.le_of_ble_eq_true rfl) (Nat.le_of_ble_eq_true rfl) (y_cons (y_cref hY_this rfl) (y_cons ⟨_, rfl, x_i32 _⟩ y_nil)) rfl (y_recv rfl hY_this) trivial (y_sub_ef rfl) fun v Yn o Hn L ho hr ha hIn hx_ hE hP => ?_
      replace hs_bk := y_Efld hE hY_this rfl (by decide) (by decide) hs_bk
      replace hA_bk := hA_bk.kept (y_Earr hE hY_bk rfl (by decide))
      replace hY_this := y_ext hx_ hI.1 hY_this
      replace hY_bk := y_ext hx_ hI.1 hY_bk
      obtain ⟨r27, rfl, h_r27⟩ := y_ansI (lo := 0) (hi := 1) (by decide) ho hr
      clear ho hr ha hE hP hI hx_
      rename x_I _ _ _ _ _ _ _ _ _ _ => hI
      refine lv_if_eq hx hb ch_d30 (tgt := 41) (by decide) (fun q30 => ?_) (fun q30 => ?_)
      · have q30_ : r27.toInt = (0 : Int32).toInt := by rw [q30]
        refine lv_iconst hx hb ch_d41 (v := 0) (by decide) ?_
        refine lv_istore_n hx hb ch_d42 rfl hl (by decide) (lv' := [(3, .int (0 : Int32)), (0, .ref this), (1, .int set), (2, .int hill)]) rfl fun ls hl => ?_
        refine lv_iconst hx hb ch_d43 (v := 0) (by decide) ?_
        refine lv_istore hx hb ch_d44 hl (by decide) (lv' := [(4, .int (0 : Int32)), (3, .int (0 : Int32)), (0, .ref this), (1, .int set), (2, .int hill)]) rfl fun ls hl => ?_
        refine lv_iconst hx hb ch_d46 (v := 0) (by decide) ?_
        refine lv_istore hx hb ch_d47 hl (by decide) (lv' := [(5, .int (0 : Int32)), (4, .int (0 : Int32)), (3, .int (0 : Int32)), (0, .ref this), (1, .int set), (2, .int hill)]) rfl fun ls hl => ?_
        exact ch_L49 B hb0 hhl 12 _ _ _ _ _ _ hI hY_this hY_bk hs_bk hA_bk (lv_sub hl [0, 1, 2, 3, 4, 5] rfl) (by first | assumption | omega) (by omega)
      · have q30_ : ¬ r27.toInt = (0 : Int32).toInt := fun q => q30 (Int32.toInt_inj.mp q)
        refine lv_aload_n hx hb ch_d33 rfl (lv_at hl 0 rfl) ?_
        refine lv_iload_n hx hb ch_d34 rfl (lv_at hl 1 rfl) ?_
        refine y_call (z := (0, 279, 2, some 17, xM216)) (av := [.ref this, .int set]) (rest := []) (y_cok.of (x_cokV (n := 1) (ci := 12) X xm216 rfl rfl rfl (x_cons (x_bw85 1 rfl rfl) (x_cons (x_bw85 3 rfl rfl) (x_cons (x_at 59 (by decide +kernel) rfl) (x_cons (x_bw0 9 rfl rfl) x_nilm)))) (x_bw85 4 rfl rfl) (by decide +kernel) ⟨Nat.le_of_ble_eq_true rfl, Nat.le_of_ble_eq_true rfl⟩)) hY0 hI rfl ch_d35 hl.1 (Nat.le_of_ble_eq_true rfl) (Nat.le_of_ble_eq_true rfl) (Nat.le_of_ble_eq_true rfl) (y_cons (y_cref hY_this rfl) (y_cons ⟨_, rfl, x_i32 _⟩ y_nil)) rfl (y_recv rfl hY_this) trivial (y_sub_ef rfl) fun v Yn o Hn L ho hr ha hIn hx_ hE hP => ?_
        replace hs_bk := y_Efld hE hY_this rfl (by decide) (by decide) hs_bk
        replace hA_bk := hA_bk.kept (y_Earr hE hY_bk rfl (by decide))
        replace hY_this := y_ext hx_ hI.1 hY_this
        replace hY_bk := y_ext hx_ hI.1 hY_bk
        obtain ⟨r35, rfl, h_r35⟩ := y_ansI (lo := (-2147483648)) (hi := 2147483647) (by decide) ho hr
        clear ho hr ha hE hP hI hx_
        rename x_I _ _ _ _ _ _ _ _ _ _ => hI
        refine lv_goto hx hb ch_d38 (tgt := 42) (by decide) ?_
        refine lv_istore_n hx hb ch_d42 rfl hl (by decide) (lv' := [(3, .int r35), (0, .ref this), (1, .int set), (2, .int hill)]) rfl fun ls hl => ?_
        refine lv_iconst hx hb ch_d43 (v := 0) (by decide) ?_
        refine lv_istore hx hb ch_d44 hl (by decide) (lv' := [(4, .int (0 : Int32)), (3, .int r35), (0, .ref this), (1, .int set), (2, .int hill)]) rfl fun ls hl => ?_
        refine lv_iconst hx hb ch_d46 (v := 0) (by decide) ?_
        refine lv_istore hx hb ch_d47 hl (by decide) (lv' := [(5, .int (0 : Int32)), (4, .int (0 : Int32)), (3, .int r35), (0, .ref this), (1, .int set), (2, .int hill)]) rfl fun ls hl => ?_
        exact ch_L49 B hb0 hhl 12 _ _ _ _ _ _ hI hY_this hY_bk hs_bk hA_bk (lv_sub hl [0, 1, 2, 3, 4, 5] rfl) (by first | assumption | omega) (by omega)
    · have q13_ : r10.toInt = (0 : Int32).toInt := by rw [q13]
      refine lv_aload_n hx hb ch_d16 rfl (lv_at hl 0 rfl) ?_
      refine y_call (z := (0, 102, 1, some 17, xM143)) (av := [.ref this]) (rest := []) (y_cok.of (x_cokV (n := 0) (ci := 12) X xm143 rfl rfl rfl (x_cons (x_bw68 3 rfl rfl) (x_cons (x_bw68 5 rfl rfl) (x_cons (x_at 32 (by decide +kernel) rfl) (x_cons (x_bw0 9 rfl rfl) x_nilm)))) (x_bw68 6 rfl rfl) (by decide +kernel) ⟨Nat.le_of_ble_eq_true rfl, Nat.le_of_ble_eq_true rfl⟩)) hY0 hI rfl ch_d17 hl.1 (Nat.le_of_ble_eq_true rfl) (Nat.le_of_ble_eq_true rfl) (Nat.le_of_ble_eq_true rfl) (y_cons (y_cref hY_this rfl) y_nil) rfl (y_recv rfl hY_this) trivial (y_sub_ef rfl) fun v Yn o Hn L ho hr ha hIn hx_ hE hP => ?_
      replace hs_bk := y_Efld hE hY_this rfl (by decide) (by decide) hs_bk
      replace hA_bk := hA_bk.kept (y_Earr hE hY_bk rfl (by decide))
      replace hY_this := y_ext hx_ hI.1 hY_this
      replace hY_bk := y_ext hx_ hI.1 hY_bk
      obtain ⟨r17, rfl, h_r17⟩ := y_ansI (lo := (-2147483648)) (hi := 2147483647) (by decide) ho hr
      clear ho hr ha hE hP hI hx_
      rename x_I _ _ _ _ _ _ _ _ _ _ => hI
      exact y_ireturn B hI rfl rfl rfl List.mem_cons_self ⟨_, rfl, ⟨_, rfl, x_i32 _⟩⟩ (x_cs.mono B.2.2.2.2.2 (y_mon B hI)) trivial (Nat.le_refl _) (Nat.le_refl _) ch_d20

