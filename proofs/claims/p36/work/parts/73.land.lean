theorem fl_ld_209 {s : State} {args : Array Value} (hts : ∀ w ∈ x_Tb, w.before args s = true) : x_fok vwCl x_G x_Tb s args "TwinFiresModel" (20, 17, 3) := ⟨12, _, RX12, TX12, "TwinFiresModel", rfl, rfl, Nat.le_of_ble_eq_true rfl, iX12, (hts _ (x_bw62 6 rfl rfl)), fun x h => h⟩
theorem fl_ld_210 {s : State} {args : Array Value} (hts : ∀ w ∈ x_Tb, w.before args s = true) : x_fok vwCl x_G x_Tb s args "TwinFiresModel" (210, 17, 17) := ⟨12, _, RX12, TX12, "TwinFiresModel", rfl, rfl, Nat.le_of_ble_eq_true rfl, iX12, (hts _ (x_bw63 4 rfl rfl)), fun x h => h⟩
theorem fw_ld_211 {s : State} {args : Array Value} {mn : String} (hts : ∀ w ∈ x_Tb, w.before args s = true) : x_pok vwCl x_G x_Tb s args "TwinFiresModel" mn (72, 17, 5) := ⟨12, _, RX12, TX12, "TwinFiresModel", tyX12, _, rfl, rfl, Nat.le_of_ble_eq_true rfl, iX12, (hts _ (x_bw62 8 rfl rfl)), fun x h => h, tyX12_ok, nmX12, rfl, x_fitB, Or.inl rfl⟩
theorem fl_ld_212 {s : State} {args : Array Value} (hts : ∀ w ∈ x_Tb, w.before args s = true) : x_fok vwCl x_G x_Tb s args "TwinFiresModel" (193, 17, 12) := ⟨12, _, RX12, TX12, "TwinFiresModel", rfl, rfl, Nat.le_of_ble_eq_true rfl, iX12, (hts _ (x_bw62 15 rfl rfl)), fun x h => h⟩
def xMld : xM := (⟨"TwinFiresModel", "land", "()I"⟩, prog_14_method_42_code, 3, some .int, [xR false [17]], [([xR false [17]], some (xF))], [(17, 5), (17, 11), (17, 12), (17, 13), (17, 14), (17, 17), (46, 0), (49, 0), (50, 0), (53, 0), (54, 0)], (4, 94, 0, 0), none)
theorem ld_d0 : decode xMld.2.1 0 = .ok (.aload_n 0, 1) := dz_ok (by decide +kernel)
theorem ld_d1 : decode xMld.2.1 1 = .ok (.invokevirtual 230, 3) := dz_ok (by decide +kernel)
theorem ld_d4 : decode xMld.2.1 4 = .ok (.ifCond .ne 11, 3) := dz_ok (by decide +kernel)
theorem ld_d7 : decode xMld.2.1 7 = .ok (.bipush (-10), 2) := dz_ok (by decide +kernel)
theorem ld_d9 : decode xMld.2.1 9 = .ok (.aload_n 0, 1) := dz_ok (by decide +kernel)
theorem ld_d10 : decode xMld.2.1 10 = .ok (.getfield 193, 3) := dz_ok (by decide +kernel)
theorem ld_d13 : decode xMld.2.1 13 = .ok (.isub, 1) := dz_ok (by decide +kernel)
theorem ld_d14 : decode xMld.2.1 14 = .ok (.ireturn, 1) := dz_ok (by decide +kernel)
theorem ld_d15 : decode xMld.2.1 15 = .ok (.iconst 0, 1) := dz_ok (by decide +kernel)
theorem ld_d16 : decode xMld.2.1 16 = .ok (.istore_n 1, 1) := dz_ok (by decide +kernel)
theorem ld_d17 : decode xMld.2.1 17 = .ok (.iload_n 1, 1) := dz_ok (by decide +kernel)
theorem ld_d18 : decode xMld.2.1 18 = .ok (.sipush 160, 3) := dz_ok (by decide +kernel)
theorem ld_d21 : decode xMld.2.1 21 = .ok (.if_icmp .ge 21, 3) := dz_ok (by decide +kernel)
theorem ld_d24 : decode xMld.2.1 24 = .ok (.aload_n 0, 1) := dz_ok (by decide +kernel)
theorem ld_d25 : decode xMld.2.1 25 = .ok (.getfield 20, 3) := dz_ok (by decide +kernel)
theorem ld_d28 : decode xMld.2.1 28 = .ok (.iload_n 1, 1) := dz_ok (by decide +kernel)
theorem ld_d29 : decode xMld.2.1 29 = .ok (.aload_n 0, 1) := dz_ok (by decide +kernel)
theorem ld_d30 : decode xMld.2.1 30 = .ok (.getfield 7, 3) := dz_ok (by decide +kernel)
theorem ld_d33 : decode xMld.2.1 33 = .ok (.iload_n 1, 1) := dz_ok (by decide +kernel)
theorem ld_d34 : decode xMld.2.1 34 = .ok (.iaload, 1) := dz_ok (by decide +kernel)
theorem ld_d35 : decode xMld.2.1 35 = .ok (.iastore, 1) := dz_ok (by decide +kernel)
theorem ld_d36 : decode xMld.2.1 36 = .ok (.iinc 1 1, 3) := dz_ok (by decide +kernel)
theorem ld_d39 : decode xMld.2.1 39 = .ok (.goto (-22), 3) := dz_ok (by decide +kernel)
theorem ld_d42 : decode xMld.2.1 42 = .ok (.aload_n 0, 1) := dz_ok (by decide +kernel)
theorem ld_d43 : decode xMld.2.1 43 = .ok (.invokevirtual 65, 3) := dz_ok (by decide +kernel)
theorem ld_d46 : decode xMld.2.1 46 = .ok (.aload_n 0, 1) := dz_ok (by decide +kernel)
theorem ld_d47 : decode xMld.2.1 47 = .ok (.iconst 1, 1) := dz_ok (by decide +kernel)
theorem ld_d48 : decode xMld.2.1 48 = .ok (.putfield 72, 3) := dz_ok (by decide +kernel)
theorem ld_d51 : decode xMld.2.1 51 = .ok (.iconst 0, 1) := dz_ok (by decide +kernel)
theorem ld_d52 : decode xMld.2.1 52 = .ok (.istore_n 1, 1) := dz_ok (by decide +kernel)
theorem ld_d53 : decode xMld.2.1 53 = .ok (.iload_n 1, 1) := dz_ok (by decide +kernel)
theorem ld_d54 : decode xMld.2.1 54 = .ok (.aload_n 0, 1) := dz_ok (by decide +kernel)
theorem ld_d55 : decode xMld.2.1 55 = .ok (.getfield 210, 3) := dz_ok (by decide +kernel)
theorem ld_d58 : decode xMld.2.1 58 = .ok (.if_icmp .ge 17, 3) := dz_ok (by decide +kernel)
theorem ld_d61 : decode xMld.2.1 61 = .ok (.aload_n 0, 1) := dz_ok (by decide +kernel)
theorem ld_d62 : decode xMld.2.1 62 = .ok (.iload_n 1, 1) := dz_ok (by decide +kernel)
theorem ld_d63 : decode xMld.2.1 63 = .ok (.invokevirtual 234, 3) := dz_ok (by decide +kernel)
theorem ld_d66 : decode xMld.2.1 66 = .ok (.ifCond .eq 9, 3) := dz_ok (by decide +kernel)
theorem ld_d69 : decode xMld.2.1 69 = .ok (.iinc 1 1, 3) := dz_ok (by decide +kernel)
theorem ld_d72 : decode xMld.2.1 72 = .ok (.goto (-19), 3) := dz_ok (by decide +kernel)
theorem ld_d75 : decode xMld.2.1 75 = .ok (.aload_n 0, 1) := dz_ok (by decide +kernel)
theorem ld_d76 : decode xMld.2.1 76 = .ok (.iconst 0, 1) := dz_ok (by decide +kernel)
theorem ld_d77 : decode xMld.2.1 77 = .ok (.putfield 72, 3) := dz_ok (by decide +kernel)
theorem ld_d80 : decode xMld.2.1 80 = .ok (.iload_n 1, 1) := dz_ok (by decide +kernel)
theorem ld_d81 : decode xMld.2.1 81 = .ok (.aload_n 0, 1) := dz_ok (by decide +kernel)
theorem ld_d82 : decode xMld.2.1 82 = .ok (.getfield 210, 3) := dz_ok (by decide +kernel)
theorem ld_d85 : decode xMld.2.1 85 = .ok (.if_icmp .ne 8, 3) := dz_ok (by decide +kernel)
theorem ld_d88 : decode xMld.2.1 88 = .ok (.aload_n 0, 1) := dz_ok (by decide +kernel)
theorem ld_d89 : decode xMld.2.1 89 = .ok (.getfield 210, 3) := dz_ok (by decide +kernel)
theorem ld_d92 : decode xMld.2.1 92 = .ok (.ireturn, 1) := dz_ok (by decide +kernel)
theorem ld_d93 : decode xMld.2.1 93 = .ok (.iconst 0, 1) := dz_ok (by decide +kernel)
theorem ld_d94 : decode xMld.2.1 94 = .ok (.istore_n 2, 1) := dz_ok (by decide +kernel)
theorem ld_d95 : decode xMld.2.1 95 = .ok (.iload_n 2, 1) := dz_ok (by decide +kernel)
theorem ld_d96 : decode xMld.2.1 96 = .ok (.sipush 160, 3) := dz_ok (by decide +kernel)
theorem ld_d99 : decode xMld.2.1 99 = .ok (.if_icmp .ge 21, 3) := dz_ok (by decide +kernel)
theorem ld_d102 : decode xMld.2.1 102 = .ok (.aload_n 0, 1) := dz_ok (by decide +kernel)
theorem ld_d103 : decode xMld.2.1 103 = .ok (.getfield 7, 3) := dz_ok (by decide +kernel)
theorem ld_d106 : decode xMld.2.1 106 = .ok (.iload_n 2, 1) := dz_ok (by decide +kernel)
theorem ld_d107 : decode xMld.2.1 107 = .ok (.aload_n 0, 1) := dz_ok (by decide +kernel)
theorem ld_d108 : decode xMld.2.1 108 = .ok (.getfield 20, 3) := dz_ok (by decide +kernel)
theorem ld_d111 : decode xMld.2.1 111 = .ok (.iload_n 2, 1) := dz_ok (by decide +kernel)
theorem ld_d112 : decode xMld.2.1 112 = .ok (.iaload, 1) := dz_ok (by decide +kernel)
theorem ld_d113 : decode xMld.2.1 113 = .ok (.iastore, 1) := dz_ok (by decide +kernel)
theorem ld_d114 : decode xMld.2.1 114 = .ok (.iinc 2 1, 3) := dz_ok (by decide +kernel)
theorem ld_d117 : decode xMld.2.1 117 = .ok (.goto (-22), 3) := dz_ok (by decide +kernel)
theorem ld_d120 : decode xMld.2.1 120 = .ok (.sipush (-1000), 3) := dz_ok (by decide +kernel)
theorem ld_d123 : decode xMld.2.1 123 = .ok (.iload_n 1, 1) := dz_ok (by decide +kernel)
theorem ld_d124 : decode xMld.2.1 124 = .ok (.isub, 1) := dz_ok (by decide +kernel)
theorem ld_d125 : decode xMld.2.1 125 = .ok (.ireturn, 1) := dz_ok (by decide +kernel)
theorem ld_L95 {p : Program} {l : Launch} {e : Env} {s : State} {m : MethodId} {below : List Frame} {meth : Method} {c : Code} {D : va_G} {U : State} {Y0 : xY} {av : List Value} (B : y_B vwCl x_Tb x_Nb xMld p s m meth c D U Y0 av) {this bk bf : Nat} {told : Int32} {fq : Nat → Int32} (hh : z_hd fq)  :
    ∀ (n : Nat), ∀ (H : Heap) (Y : xY) (locs : List Loc) (ls : Array Slot) (k : Int32) (fb : Nat → Int32), x_I D x_G x_Zs U (x_efs xMld) Y0 s.heap Y H locs → Y this = some 17 → Y bk = some 46 → Y bf = some 49 → x_sl D 12 0 this H = some (.ref bk) → x_sl D 12 3 this H = some (.ref bf) → y_A bk 160 H fb → y_A bf 160 H fq → lv_has ls xMld.2.2.1 [(2, .int k), (1, .int told), (0, .ref this)] → (0 ≤ k.toInt ∧ k.toInt ≤ 160) → (160 - k.toInt).toNat < n → W p l e (x_rm xMld) s m av.toArray below meth c H locs 0 0 (y_QQ below D x_G x_Zs U xMld y_TP av Y0 s) (F0 m 95 ls []) := by
  have X := B.1
  have hx := X.1
  have hb := X.2.1
  have hY0 := B.2.2.2.2.1
  intro n
  induction n with
  | zero => intro _ _ _ _ _ _ _ _ _ _ _ _ _ _ _ _ h; exact absurd h (Nat.not_lt_zero _)
  | succ n ih =>
    intro H Y locs ls k fb hI hY_this hY_bk hY_bf hs_bk hs_bf hA_bk hA_bf hl hk hn
    refine lv_iload_n hx hb ld_d95 rfl (lv_at hl 0 rfl) ?_
    refine lv_sipush hx hb ld_d96 (v := 160) (by decide) ?_
    have ec160 : (160 : Int32).toInt = 160 := by decide
    refine lv_icmp_ge hx hb ld_d99 (tgt := 120) (by decide) (fun q99 => ?_) (fun q99 => ?_)
    · have q99_ : (160 : Int32).toInt ≤ k.toInt := x_le32.mp q99
      refine lv_sipush hx hb ld_d120 (v := (-1000)) (by decide) ?_
      have ecm1000 : ((-1000) : Int32).toInt = (-1000) := by decide
      refine lv_iload_n hx hb ld_d123 rfl (lv_at hl 1 rfl) ?_
      refine lv_isub hx hb ld_d124 ?_
      generalize hg_z124 : ((-1000) : Int32) - told = z124
      exact y_ireturn B hI rfl rfl rfl List.mem_cons_self ⟨_, rfl, ⟨_, rfl, x_i32 _⟩⟩ (x_cs.mono B.2.2.2.2.2 (y_mon B hI)) trivial (Nat.le_refl _) (Nat.le_refl _) ld_d125
    · have q99_ : k.toInt < (160 : Int32).toInt := Int.not_le.mp fun q => q99 (x_le32.mpr q)
      refine lv_aload_n hx hb ld_d102 rfl (lv_at hl 2 rfl) ?_
      refine y_getf X (fl190 X.2.2.2.2.1) hI.1 hY_this rfl hs_bk ld_d103 ?_
      refine lv_iload_n hx hb ld_d106 rfl (lv_at hl 0 rfl) ?_
      refine lv_aload_n hx hb ld_d107 rfl (lv_at hl 2 rfl) ?_
      refine y_getf X (fl_ld_209 X.2.2.2.2.1) hI.1 hY_this rfl hs_bf ld_d108 ?_
      refine lv_iload_n hx hb ld_d111 rfl (lv_at hl 0 rfl) ?_
      refine y_iald X hI.1 hY_bf rfl hA_bf (by omega) (by show _ < (160 : Int); omega) ld_d112 ?_
      obtain ⟨e112, hg_e112⟩ : ∃ e112 : Int32, fq k.toInt.toNat = e112 := ⟨_, rfl⟩
      rw [hg_e112]
      refine y_iast X hY0 hI hY_bk rfl hA_bk (by omega) (by show _ < (160 : Int); omega) (by have := z_hdc (Y := Y) hh k.toInt.toNat; rw [hg_e112] at this; exact this) (by decide +kernel) ld_d113 fun H locs hI h_new ho => ?_
      replace hA_bk := h_new
      generalize hf_f113 : y_up fb k.toInt.toNat e112 = f113 at hA_bk
      replace hs_bk := y_slk hs_bk (ho _ (y_ne hY_this hY_bk rfl))
      replace hs_bf := y_slk hs_bf (ho _ (y_ne hY_this hY_bk rfl))
      replace hA_bf := hA_bf.kept (ho _ (y_ne hY_bf hY_bk rfl))
      obtain ⟨z114, hg_z114⟩ : ∃ z114 : Int32, k + Int32.ofInt 1 = z114 := ⟨_, rfl⟩
      have h_z114 : z114.toInt = k.toInt + 1 := by rw [← hg_z114]; exact y_inc (by decide) (by omega) (by omega)
      refine lv_iinc hx hb ld_d114 hl (k := 0) rfl hg_z114 (by decide) (lv' := [(2, .int z114), (1, .int told), (0, .ref this)]) rfl fun ls hl => ?_
      refine lv_goto hx hb ld_d117 (tgt := 95) (by decide) ?_
      exact ih _ _ _ _ _ _ hI hY_this hY_bk hY_bf hs_bk hs_bf hA_bk hA_bf (lv_sub hl [0, 1, 2] rfl) (by first | assumption | omega) (by omega)
theorem ld_L53 {p : Program} {l : Launch} {e : Env} {s : State} {m : MethodId} {below : List Frame} {meth : Method} {c : Code} {D : va_G} {U : State} {Y0 : xY} {av : List Value} (B : y_B vwCl x_Tb x_Nb xMld p s m meth c D U Y0 av) {this : Nat} {it : Int32} (hit : 0 ≤ it.toInt ∧ it.toInt ≤ 240)  :
    ∀ (n : Nat), ∀ (H : Heap) (Y : xY) (locs : List Loc) (ls : Array Slot) (told : Int32), x_I D x_G x_Zs U (x_efs xMld) Y0 s.heap Y H locs → Y this = some 17 → x_sl D 12 17 this H = some (.int it) → lv_has ls xMld.2.2.1 [(1, .int told), (0, .ref this)] → (0 ≤ told.toInt) → (240 - told.toInt).toNat < n → W p l e (x_rm xMld) s m av.toArray below meth c H locs 0 0 (y_QQ below D x_G x_Zs U xMld y_TP av Y0 s) (F0 m 53 ls []) := by
  have X := B.1
  have hx := X.1
  have hb := X.2.1
  have hY0 := B.2.2.2.2.1
  intro n
  induction n with
  | zero => intro _ _ _ _ _ _ _ _ _ _ h; exact absurd h (Nat.not_lt_zero _)
  | succ n ih =>
    intro H Y locs ls told  hI hY_this hsi_items hl ht hn
    refine lv_iload_n hx hb ld_d53 rfl (lv_at hl 0 rfl) ?_
    refine lv_aload_n hx hb ld_d54 rfl (lv_at hl 1 rfl) ?_
    refine y_getf X (fl_ld_210 X.2.2.2.2.1) hI.1 hY_this rfl hsi_items ld_d55 ?_
    refine lv_icmp_ge hx hb ld_d58 (tgt := 75) (by decide) (fun q58 => ?_) (fun q58 => ?_)
    · have q58_ : it.toInt ≤ told.toInt := x_le32.mp q58
      refine lv_aload_n hx hb ld_d75 rfl (lv_at hl 1 rfl) ?_
      refine lv_iconst hx hb ld_d76 (v := 0) (by decide) ?_
      have ec0 : (0 : Int32).toInt = 0 := by decide
      refine y_putf X (fw_ld_211 X.2.2.2.2.1) hY0 hI hY_this rfl rfl ⟨_, rfl, by show (0 : Int) ≤ _; omega, by show _ ≤ (1 : Int); omega⟩ (by decide +kernel) ld_d77 fun H sl hI ho hs hk => ?_
      replace hsi_items := hk _ _ (by decide +kernel) (by decide) hsi_items
      replace hs := hs
      have hs77 := hs
      refine lv_iload_n hx hb ld_d80 rfl (lv_at hl 0 rfl) ?_
      refine lv_aload_n hx hb ld_d81 rfl (lv_at hl 1 rfl) ?_
      refine y_getf X (fl_ld_210 X.2.2.2.2.1) hI.1 hY_this rfl hsi_items ld_d82 ?_
      refine lv_icmp_ne hx hb ld_d85 (tgt := 93) (by decide) (fun q85 => ?_) (fun q85 => ?_)
      · have q85_ : ¬ told.toInt = it.toInt := fun q => q85 (Int32.toInt_inj.mp q)
        refine lv_iconst hx hb ld_d93 (v := 0) (by decide) ?_
        refine lv_istore_n hx hb ld_d94 rfl hl (by decide) (lv' := [(2, .int (0 : Int32)), (1, .int told), (0, .ref this)]) rfl fun ls hl => ?_
        obtain ⟨bk, hs_bk, hY_bk⟩ := y_fldR (k := 0) hI.1 hY_this rfl rfl
        obtain ⟨bf, hs_bf, hY_bf⟩ := y_fldR (k := 3) hI.1 hY_this rfl rfl
        obtain ⟨fb, hA_bk, hB_bk⟩ := y_arr hI.1 hY_bk rfl rfl
        obtain ⟨fq, hA_bf, hB_bf⟩ := y_arr hI.1 hY_bf rfl rfl
        have hh := z_hdr hB_bf
        exact ld_L95 B hh 161 _ _ _ _ _ _ hI hY_this hY_bk hY_bf hs_bk hs_bf hA_bk hA_bf (lv_sub hl [0, 1, 2] rfl) (by first | assumption | omega) (by omega)
      · have q85_ : told.toInt = it.toInt := by rw [q85]
        refine lv_aload_n hx hb ld_d88 rfl (lv_at hl 1 rfl) ?_
        refine y_getf X (fl_ld_210 X.2.2.2.2.1) hI.1 hY_this rfl hsi_items ld_d89 ?_
        exact y_ireturn B hI rfl rfl rfl List.mem_cons_self ⟨_, rfl, ⟨_, rfl, x_i32 _⟩⟩ (x_cs.mono B.2.2.2.2.2 (y_mon B hI)) trivial (Nat.le_refl _) (Nat.le_refl _) ld_d92
    · have q58_ : told.toInt < it.toInt := Int.not_le.mp fun q => q58 (x_le32.mpr q)
      refine lv_aload_n hx hb ld_d61 rfl (lv_at hl 1 rfl) ?_
      refine lv_iload_n hx hb ld_d62 rfl (lv_at hl 0 rfl) ?_
      refine y_call (z := (0, 234, 2, some 17, xM181)) (av := [.ref this, .int told]) (rest := []) (y_cok.of (x_cokV (n := 1) (ci := 12) X xm181 rfl rfl rfl (x_cons (x_bw76 5 rfl rfl) (x_cons (x_bw76 7 rfl rfl) (x_cons (x_at 47 (by decide +kernel) rfl) (x_cons (x_bw0 9 rfl rfl) x_nilm)))) (x_bw76 8 rfl rfl) (by decide +kernel) ⟨Nat.le_of_ble_eq_true rfl, Nat.le_of_ble_eq_true rfl⟩)) hY0 hI rfl ld_d63 hl.1 (Nat.le_of_ble_eq_true rfl) (Nat.le_of_ble_eq_true rfl) (Nat.le_of_ble_eq_true rfl) (y_cons (y_cref hY_this rfl) (y_cons ⟨_, rfl, by show (0 : Int) ≤ _; omega, by show _ ≤ (239 : Int); omega⟩ y_nil)) rfl (y_recv rfl hY_this) trivial (y_sub_ef rfl) fun v Yn o Hn L ho hr ha hIn hx_ hE hP => ?_
      replace hsi_items := y_Efld hE hY_this rfl (by decide) (by decide) hsi_items
      replace hY_this := y_ext hx_ hI.1 hY_this
      obtain ⟨r63, rfl, h_r63⟩ := y_ansI (lo := 0) (hi := 1) (by decide) ho hr
      clear ho hr ha hE hP hI hx_
      rename x_I _ _ _ _ _ _ _ _ _ _ => hI
      have ec0 : (0 : Int32).toInt = 0 := by decide
      refine lv_if_eq hx hb ld_d66 (tgt := 75) (by decide) (fun q66 => ?_) (fun q66 => ?_)
      · have q66_ : r63.toInt = (0 : Int32).toInt := by rw [q66]
        refine lv_aload_n hx hb ld_d75 rfl (lv_at hl 1 rfl) ?_
        refine lv_iconst hx hb ld_d76 (v := 0) (by decide) ?_
        refine y_putf X (fw_ld_211 X.2.2.2.2.1) hY0 hI hY_this rfl rfl ⟨_, rfl, by show (0 : Int) ≤ _; omega, by show _ ≤ (1 : Int); omega⟩ (by decide +kernel) ld_d77 fun H sl hI ho hs hk => ?_
        replace hsi_items := hk _ _ (by decide +kernel) (by decide) hsi_items
        replace hs := hs
        have hs77 := hs
        refine lv_iload_n hx hb ld_d80 rfl (lv_at hl 0 rfl) ?_
        refine lv_aload_n hx hb ld_d81 rfl (lv_at hl 1 rfl) ?_
        refine y_getf X (fl_ld_210 X.2.2.2.2.1) hI.1 hY_this rfl hsi_items ld_d82 ?_
        refine lv_icmp_ne hx hb ld_d85 (tgt := 93) (by decide) (fun q85 => ?_) (fun q85 => ?_)
        · have q85_ : ¬ told.toInt = it.toInt := fun q => q85 (Int32.toInt_inj.mp q)
          refine lv_iconst hx hb ld_d93 (v := 0) (by decide) ?_
          refine lv_istore_n hx hb ld_d94 rfl hl (by decide) (lv' := [(2, .int (0 : Int32)), (1, .int told), (0, .ref this)]) rfl fun ls hl => ?_
          obtain ⟨bk, hs_bk, hY_bk⟩ := y_fldR (k := 0) hI.1 hY_this rfl rfl
          obtain ⟨bf, hs_bf, hY_bf⟩ := y_fldR (k := 3) hI.1 hY_this rfl rfl
          obtain ⟨fb, hA_bk, hB_bk⟩ := y_arr hI.1 hY_bk rfl rfl
          obtain ⟨fq, hA_bf, hB_bf⟩ := y_arr hI.1 hY_bf rfl rfl
          have hh := z_hdr hB_bf
          exact ld_L95 B hh 161 _ _ _ _ _ _ hI hY_this hY_bk hY_bf hs_bk hs_bf hA_bk hA_bf (lv_sub hl [0, 1, 2] rfl) (by first | assumption | omega) (by omega)
        · have q85_ : told.toInt = it.toInt := by rw [q85]
          refine lv_aload_n hx hb ld_d88 rfl (lv_at hl 1 rfl) ?_
          refine y_getf X (fl_ld_210 X.2.2.2.2.1) hI.1 hY_this rfl hsi_items ld_d89 ?_
          exact y_ireturn B hI rfl rfl rfl List.mem_cons_self ⟨_, rfl, ⟨_, rfl, x_i32 _⟩⟩ (x_cs.mono B.2.2.2.2.2 (y_mon B hI)) trivial (Nat.le_refl _) (Nat.le_refl _) ld_d92
      · have q66_ : ¬ r63.toInt = (0 : Int32).toInt := fun q => q66 (Int32.toInt_inj.mp q)
        obtain ⟨z69, hg_z69⟩ : ∃ z69 : Int32, told + Int32.ofInt 1 = z69 := ⟨_, rfl⟩
        have h_z69 : z69.toInt = told.toInt + 1 := by rw [← hg_z69]; exact y_inc (by decide) (by omega) (by omega)
        refine lv_iinc hx hb ld_d69 hl (k := 0) rfl hg_z69 (by decide) (lv' := [(1, .int z69), (0, .ref this)]) rfl fun ls hl => ?_
        refine lv_goto hx hb ld_d72 (tgt := 53) (by decide) ?_
        exact ih _ _ _ _ _ hI hY_this hsi_items (lv_sub hl [0, 1] rfl) (by first | assumption | omega) (by omega)
theorem ld_L17 {p : Program} {l : Launch} {e : Env} {s : State} {m : MethodId} {below : List Frame} {meth : Method} {c : Code} {D : va_G} {U : State} {Y0 : xY} {av : List Value} (B : y_B vwCl x_Tb x_Nb xMld p s m meth c D U Y0 av) {this bk bf : Nat} {fb : Nat → Int32} (hh : z_hd fb)  :
    ∀ (n : Nat), ∀ (H : Heap) (Y : xY) (locs : List Loc) (ls : Array Slot) (k : Int32) (fq : Nat → Int32), x_I D x_G x_Zs U (x_efs xMld) Y0 s.heap Y H locs → Y this = some 17 → Y bk = some 46 → Y bf = some 49 → x_sl D 12 0 this H = some (.ref bk) → x_sl D 12 3 this H = some (.ref bf) → y_A bk 160 H fb → y_A bf 160 H fq → lv_has ls xMld.2.2.1 [(1, .int k), (0, .ref this)] → (0 ≤ k.toInt ∧ k.toInt ≤ 160) → (160 - k.toInt).toNat < n → W p l e (x_rm xMld) s m av.toArray below meth c H locs 0 0 (y_QQ below D x_G x_Zs U xMld y_TP av Y0 s) (F0 m 17 ls []) := by
  have X := B.1
  have hx := X.1
  have hb := X.2.1
  have hY0 := B.2.2.2.2.1
  intro n
  induction n with
  | zero => intro _ _ _ _ _ _ _ _ _ _ _ _ _ _ _ _ h; exact absurd h (Nat.not_lt_zero _)
  | succ n ih =>
    intro H Y locs ls k fq hI hY_this hY_bk hY_bf hs_bk hs_bf hA_bk hA_bf hl hk hn
    refine lv_iload_n hx hb ld_d17 rfl (lv_at hl 0 rfl) ?_
    refine lv_sipush hx hb ld_d18 (v := 160) (by decide) ?_
    have ec160 : (160 : Int32).toInt = 160 := by decide
    refine lv_icmp_ge hx hb ld_d21 (tgt := 42) (by decide) (fun q21 => ?_) (fun q21 => ?_)
    · have q21_ : (160 : Int32).toInt ≤ k.toInt := x_le32.mp q21
      refine lv_aload_n hx hb ld_d42 rfl (lv_at hl 1 rfl) ?_
      refine y_call (z := (0, 65, 1, some 17, xM140)) (av := [.ref this]) (rest := []) (y_cok.of (x_cokV (n := 0) (ci := 12) X xm140 rfl rfl rfl (x_cons (x_bw61 15 rfl rfl) (x_cons (x_bw62 1 rfl rfl) (x_cons (x_at 30 (by decide +kernel) rfl) (x_cons (x_bw0 9 rfl rfl) x_nilm)))) (x_bw62 2 rfl rfl) (by decide +kernel) ⟨Nat.le_of_ble_eq_true rfl, Nat.le_of_ble_eq_true rfl⟩)) hY0 hI rfl ld_d43 hl.1 (Nat.le_of_ble_eq_true rfl) (Nat.le_of_ble_eq_true rfl) (Nat.le_of_ble_eq_true rfl) (y_cons (y_cref hY_this rfl) y_nil) rfl (y_recv rfl hY_this) trivial (y_sub_ef rfl) fun v Yn o Hn L ho hr ha hIn hx_ hE hP => ?_
      replace hs_bk := y_Efld hE hY_this rfl (by decide) (by decide) hs_bk
      replace hs_bf := y_Efld hE hY_this rfl (by decide) (by decide) hs_bf
      replace hA_bf := hA_bf.kept (y_Earr hE hY_bf rfl (by decide))
      replace hY_this := y_ext hx_ hI.1 hY_this
      replace hY_bk := y_ext hx_ hI.1 hY_bk
      replace hY_bf := y_ext hx_ hI.1 hY_bf
      obtain rfl := y_ansV rfl ho hr
      clear ho hr ha hE hP hI hx_
      rename x_I _ _ _ _ _ _ _ _ _ _ => hI
      refine lv_aload_n hx hb ld_d46 rfl (lv_at hl 1 rfl) ?_
      refine lv_iconst hx hb ld_d47 (v := 1) (by decide) ?_
      have ec1 : (1 : Int32).toInt = 1 := by decide
      refine y_putf X (fw_ld_211 X.2.2.2.2.1) hY0 hI hY_this rfl rfl ⟨_, rfl, by show (0 : Int) ≤ _; omega, by show _ ≤ (1 : Int); omega⟩ (by decide +kernel) ld_d48 fun H sl hI ho hs hk => ?_
      replace hs_bk := hk _ _ (by decide +kernel) (by decide) hs_bk
      replace hs_bf := hk _ _ (by decide +kernel) (by decide) hs_bf
      replace hA_bf := hA_bf.kept (ho _ (y_ne hY_bf hY_this rfl))
      replace hs := hs
      have hs48 := hs
      refine lv_iconst hx hb ld_d51 (v := 0) (by decide) ?_
      have ec0 : (0 : Int32).toInt = 0 := by decide
      refine lv_istore_n hx hb ld_d52 rfl hl (by decide) (lv' := [(1, .int (0 : Int32)), (0, .ref this)]) rfl fun ls hl => ?_
      obtain ⟨it, hsi_items, hit⟩ := y_fldI (k := 17) hI.1 hY_this rfl rfl
      replace hit : (0 : Int) ≤ it.toInt ∧ it.toInt ≤ 240 := hit
      exact ld_L53 B hit 241 _ _ _ _ _ hI hY_this hsi_items (lv_sub hl [0, 1] rfl) (by first | assumption | omega) (by omega)
    · have q21_ : k.toInt < (160 : Int32).toInt := Int.not_le.mp fun q => q21 (x_le32.mpr q)
      refine lv_aload_n hx hb ld_d24 rfl (lv_at hl 1 rfl) ?_
      refine y_getf X (fl_ld_209 X.2.2.2.2.1) hI.1 hY_this rfl hs_bf ld_d25 ?_
      refine lv_iload_n hx hb ld_d28 rfl (lv_at hl 0 rfl) ?_
      refine lv_aload_n hx hb ld_d29 rfl (lv_at hl 1 rfl) ?_
      refine y_getf X (fl190 X.2.2.2.2.1) hI.1 hY_this rfl hs_bk ld_d30 ?_
      refine lv_iload_n hx hb ld_d33 rfl (lv_at hl 0 rfl) ?_
      refine y_iald X hI.1 hY_bk rfl hA_bk (by omega) (by show _ < (160 : Int); omega) ld_d34 ?_
      obtain ⟨e34, hg_e34⟩ : ∃ e34 : Int32, fb k.toInt.toNat = e34 := ⟨_, rfl⟩
      rw [hg_e34]
      refine y_iast X hY0 hI hY_bf rfl hA_bf (by omega) (by show _ < (160 : Int); omega) (by have := z_hdc (Y := Y) hh k.toInt.toNat; rw [hg_e34] at this; exact this) (by decide +kernel) ld_d35 fun H locs hI h_new ho => ?_
      replace hA_bf := h_new
      generalize hf_f35 : y_up fq k.toInt.toNat e34 = f35 at hA_bf
      replace hs_bk := y_slk hs_bk (ho _ (y_ne hY_this hY_bf rfl))
      replace hs_bf := y_slk hs_bf (ho _ (y_ne hY_this hY_bf rfl))
      replace hA_bk := hA_bk.kept (ho _ (y_ne hY_bk hY_bf rfl))
      obtain ⟨z36, hg_z36⟩ : ∃ z36 : Int32, k + Int32.ofInt 1 = z36 := ⟨_, rfl⟩
      have h_z36 : z36.toInt = k.toInt + 1 := by rw [← hg_z36]; exact y_inc (by decide) (by omega) (by omega)
      refine lv_iinc hx hb ld_d36 hl (k := 0) rfl hg_z36 (by decide) (lv' := [(1, .int z36), (0, .ref this)]) rfl fun ls hl => ?_
      refine lv_goto hx hb ld_d39 (tgt := 17) (by decide) ?_
      exact ih _ _ _ _ _ _ hI hY_this hY_bk hY_bf hs_bk hs_bf hA_bk hA_bf (lv_sub hl [0, 1] rfl) (by first | assumption | omega) (by omega)
theorem ym_land : y_Met vwCl x_G x_Zs x_Tb x_Nb xMld y_T y_TP := by
  refine y_main (by decide +kernel) (by decide +kernel) x_Tb_good x_Nb_ok ?_
  intro p l e s m below meth c D U Y0 av ls B hI hpre hl
  have X := B.1
  have hx := X.1
  have hb := X.2.1
  have hY0 := B.2.2.2.2.1
  obtain ⟨v0, rfl, hv0⟩ := x_one B.2.2.2.2.2
  obtain ⟨this, t0, rfl, ht0, hY_this⟩ := x_ref_at hv0 rfl
  obtain rfl := List.mem_singleton.mp ht0
  replace hl : lv_has ls xMld.2.2.1 [(0, .ref this)] := hl
  refine lv_aload_n hx hb ld_d0 rfl (lv_at hl 0 rfl) ?_
  refine y_call (z := (0, 230, 1, some 17, xMrd)) (av := [.ref this]) (rest := []) (y_cokV (n := 0) (ci := 12) X ym_reads rfl rfl rfl (x_cons (x_bw74 7 rfl rfl) (x_cons (x_bw74 9 rfl rfl) (x_cons (x_at 44 (by decide +kernel) rfl) (x_cons (x_bw0 9 rfl rfl) x_nilm)))) (x_bw74 10 rfl rfl) (by decide +kernel) ⟨Nat.le_of_ble_eq_true rfl, Nat.le_of_ble_eq_true rfl⟩) hY0 hI rfl ld_d1 hl.1 (Nat.le_of_ble_eq_true rfl) (Nat.le_of_ble_eq_true rfl) (Nat.le_of_ble_eq_true rfl) (y_cons (y_cref hY_this rfl) y_nil) rfl (y_recv rfl hY_this) trivial (y_sub_ef rfl) fun v Yn o Hn L ho hr ha hIn hx_ hE hP => ?_
  replace hY_this := y_ext hx_ hI.1 hY_this
  obtain ⟨r1, rfl, h_r1⟩ := y_ansI (lo := 0) (hi := 1) (by decide) ho hr
  clear ho hr ha hE hP hI hx_
  rename x_I _ _ _ _ _ _ _ _ _ _ => hI
  have ec0 : (0 : Int32).toInt = 0 := by decide
  refine lv_if_ne hx hb ld_d4 (tgt := 15) (by decide) (fun q4 => ?_) (fun q4 => ?_)
  · have q4_ : ¬ r1.toInt = (0 : Int32).toInt := fun q => q4 (Int32.toInt_inj.mp q)
    refine lv_iconst hx hb ld_d15 (v := 0) (by decide) ?_
    refine lv_istore_n hx hb ld_d16 rfl hl (by decide) (lv' := [(1, .int (0 : Int32)), (0, .ref this)]) rfl fun ls hl => ?_
    obtain ⟨bk, hs_bk, hY_bk⟩ := y_fldR (k := 0) hI.1 hY_this rfl rfl
    obtain ⟨bf, hs_bf, hY_bf⟩ := y_fldR (k := 3) hI.1 hY_this rfl rfl
    obtain ⟨fb, hA_bk, hB_bk⟩ := y_arr hI.1 hY_bk rfl rfl
    obtain ⟨fq, hA_bf, hB_bf⟩ := y_arr hI.1 hY_bf rfl rfl
    have hh := z_hdr hB_bk
    exact ld_L17 B hh 161 _ _ _ _ _ _ hI hY_this hY_bk hY_bf hs_bk hs_bf hA_bk hA_bf (lv_sub hl [0, 1] rfl) (by first | assumption | omega) (by omega)
  · have q4_ : r1.toInt = (0 : Int32).toInt := by rw [q4]
    refine lv_bipush hx hb ld_d7 (v := (-10)) (by decide) ?_
    have ecm10 : ((-10) : Int32).toInt = (-10) := by decide
    refine lv_aload_n hx hb ld_d9 rfl (lv_at hl 0 rfl) ?_
    obtain ⟨start_10, hs_this_start, h_start_10⟩ := y_fldI (k := 12) hI.1 hY_this rfl rfl
    refine y_getf X (fl_ld_212 X.2.2.2.2.1) hI.1 hY_this rfl hs_this_start ld_d10 ?_
    refine lv_isub hx hb ld_d13 ?_
    generalize hg_z13 : ((-10) : Int32) - start_10 = z13
    exact y_ireturn B hI rfl rfl rfl List.mem_cons_self ⟨_, rfl, ⟨_, rfl, x_i32 _⟩⟩ (x_cs.mono B.2.2.2.2.2 (y_mon B hI)) trivial (Nat.le_refl _) (Nat.le_refl _) ld_d14
