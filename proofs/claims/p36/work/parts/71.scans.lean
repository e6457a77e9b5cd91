theorem fl_sc_209 {s : State} {args : Array Value} (hts : ∀ w ∈ x_Tb, w.before args s = true) : x_fok vwCl x_G x_Tb s args "TwinFiresModel" (193, 17, 12) := ⟨12, _, RX12, TX12, "TwinFiresModel", rfl, rfl, Nat.le_of_ble_eq_true rfl, iX12, (hts _ (x_bw62 15 rfl rfl)), fun x h => h⟩
theorem fw_sc_210 {s : State} {args : Array Value} {mn : String} (hts : ∀ w ∈ x_Tb, w.before args s = true) : x_pok vwCl x_G x_Tb s args "TwinFiresModel" mn (196, 17, 13) := ⟨12, _, RX12, TX12, "TwinFiresModel", tyX12, _, rfl, rfl, Nat.le_of_ble_eq_true rfl, iX12, (hts _ (x_bw63 0 rfl rfl)), fun x h => h, tyX12_ok, nmX12, rfl, x_fitI _ _, Or.inl rfl⟩
theorem fw_sc_211 {s : State} {args : Array Value} {mn : String} (hts : ∀ w ∈ x_Tb, w.before args s = true) : x_pok vwCl x_G x_Tb s args "TwinFiresModel" mn (166, 17, 11) := ⟨12, _, RX12, TX12, "TwinFiresModel", tyX12, _, rfl, rfl, Nat.le_of_ble_eq_true rfl, iX12, (hts _ (x_bw62 14 rfl rfl)), fun x h => h, tyX12_ok, nmX12, rfl, x_fitI _ _, Or.inl rfl⟩
theorem fl_sc_212 {s : State} {args : Array Value} (hts : ∀ w ∈ x_Tb, w.before args s = true) : x_fok vwCl x_G x_Tb s args "TwinFiresModel" (207, 17, 14) := ⟨12, _, RX12, TX12, "TwinFiresModel", rfl, rfl, Nat.le_of_ble_eq_true rfl, iX12, (hts _ (x_bw63 1 rfl rfl)), fun x h => h⟩
theorem fw_sc_213 {s : State} {args : Array Value} {mn : String} (hts : ∀ w ∈ x_Tb, w.before args s = true) : x_pok vwCl x_G x_Tb s args "TwinFiresModel" mn (207, 17, 14) := ⟨12, _, RX12, TX12, "TwinFiresModel", tyX12, _, rfl, rfl, Nat.le_of_ble_eq_true rfl, iX12, (hts _ (x_bw63 1 rfl rfl)), fun x h => h, tyX12_ok, nmX12, rfl, x_fitI _ _, Or.inl rfl⟩
theorem fw_sc_214 {s : State} {args : Array Value} {mn : String} (hts : ∀ w ∈ x_Tb, w.before args s = true) : x_pok vwCl x_G x_Tb s args "TwinFiresModel" mn (193, 17, 12) := ⟨12, _, RX12, TX12, "TwinFiresModel", tyX12, _, rfl, rfl, Nat.le_of_ble_eq_true rfl, iX12, (hts _ (x_bw62 15 rfl rfl)), fun x h => h, tyX12_ok, nmX12, rfl, x_fitI _ _, Or.inl rfl⟩
def z_PisAt : yP := fun D av Y H v _ _ => ∀ (this tx : Nat) (lo hi at_ ty : Int32) (ft : Nat → Int32), av = [.ref this, .int lo, .int hi] → x_sl D 12 11 this H = some (.int at_) → x_sl D 12 10 this H = some (.int ty) → x_sl D 12 9 this H = some (.ref tx) → y_A tx 240 H ft → ∃ r : Int32, v = some (.int r) ∧ (¬ r = 0 → at_.toInt < ty.toInt ∧ lo.toInt ≤ (ft at_.toInt.toNat).toInt ∧ (ft at_.toInt.toNat).toInt ≤ hi.toInt) ∧ (r = 0 → ¬ (at_.toInt < ty.toInt ∧ lo.toInt ≤ (ft at_.toInt.toNat).toInt ∧ (ft at_.toInt.toNat).toInt ≤ hi.toInt))
theorem z_inR2 {v : Option Value} {x lo hi : Int64} (h : (v = some (.int 1) ∧ lo.toInt ≤ x.toInt ∧ x.toInt ≤ hi.toInt) ∨ (v = some (.int 0) ∧ (x.toInt < lo.toInt ∨ hi.toInt < x.toInt))) : ∃ r : Int32, v = some (.int r) ∧ (¬ r = 0 → lo.toInt ≤ x.toInt ∧ x.toInt ≤ hi.toInt) ∧ (r = 0 → ¬ (lo.toInt ≤ x.toInt ∧ x.toInt ≤ hi.toInt)) := by
  rcases h with ⟨h1, h2⟩ | ⟨h1, h2⟩
  · exact ⟨1, h1, fun _ => h2, fun q => absurd q (by decide)⟩
  · exact ⟨0, h1, fun q => absurd rfl q, fun _ q => by omega⟩
def z_Ascans : yA := fun D av Y H => ∀ (this : Nat) (at_ ty : Int32), av = [.ref this] → x_sl D 12 11 this H = some (.int at_) → x_sl D 12 10 this H = some (.int ty) → at_.toInt ≤ ty.toInt
def z_Pscans : yP := fun D av Y H v Y' H' => ∀ (this : Nat) (at_ ty : Int32), av = [.ref this] → x_sl D 12 11 this H = some (.int at_) → x_sl D 12 10 this H = some (.int ty) → ∃ at1 tk1 : Int32, x_sl D 12 11 this H' = some (.int at1) ∧ x_sl D 12 13 this H' = some (.int tk1) ∧ at_.toInt ≤ at1.toInt ∧ at1.toInt ≤ ty.toInt ∧ (¬ tk1 = 0 → at_.toInt < at1.toInt)
theorem ia_fin {D : va_G} {Y Y' : xY} {H H' : Heap} {this tx : Nat} {lo hi at_ ty r : Int32} {ft : Nat → Int32} (h0 : 0 ≤ at_.toInt) (ht : ty.toInt ≤ 240) (hsi0 : x_sl D 12 11 this H = some (.int at_)) (hsi1 : x_sl D 12 10 this H = some (.int ty)) (hs0 : x_sl D 12 9 this H = some (.ref tx)) (hA0 : y_A tx 240 H ft)
    (h1 : ¬ r = 0 → at_.toInt < ty.toInt ∧ lo.toInt ≤ (ft at_.toInt.toNat).toInt ∧ (ft at_.toInt.toNat).toInt ≤ hi.toInt) (h2 : r = 0 → ¬ (at_.toInt < ty.toInt ∧ lo.toInt ≤ (ft at_.toInt.toNat).toInt ∧ (ft at_.toInt.toNat).toInt ≤ hi.toInt)) : z_PisAt D [.ref this, .int lo, .int hi] Y H (some (.int r)) Y' H' := by
  intro this' tx' lo' hi' at' ty' ft' e1 e2 e3 e4 e5
  cases e1
  cases e2.symm.trans hsi0
  cases e3.symm.trans hsi1
  cases e4.symm.trans hs0
  have e6 : at_.toInt < ty.toInt → ft' at_.toInt.toNat = ft at_.toInt.toNat := fun q => by
    have := (e5 at_.toInt.toNat (by omega)).symm.trans (hA0 at_.toInt.toNat (by omega))
    injection this with this
    injection this
  refine ⟨_, rfl, fun q => ?_, fun q e3 => ?_⟩
  · rw [e6 (h1 q).1]; exact h1 q
  · rw [e6 e3.1] at e3; exact h2 q e3
theorem ia_d0 : decode xM178.2.1 0 = .ok (.aload_n 0, 1) := dz_ok (by decide +kernel)
theorem ia_d1 : decode xM178.2.1 1 = .ok (.getfield 166, 3) := dz_ok (by decide +kernel)
theorem ia_d4 : decode xM178.2.1 4 = .ok (.aload_n 0, 1) := dz_ok (by decide +kernel)
theorem ia_d5 : decode xM178.2.1 5 = .ok (.getfield 160, 3) := dz_ok (by decide +kernel)
theorem ia_d8 : decode xM178.2.1 8 = .ok (.if_icmp .ge 27, 3) := dz_ok (by decide +kernel)
theorem ia_d11 : decode xM178.2.1 11 = .ok (.aload_n 0, 1) := dz_ok (by decide +kernel)
theorem ia_d12 : decode xM178.2.1 12 = .ok (.getfield 29, 3) := dz_ok (by decide +kernel)
theorem ia_d15 : decode xM178.2.1 15 = .ok (.aload_n 0, 1) := dz_ok (by decide +kernel)
theorem ia_d16 : decode xM178.2.1 16 = .ok (.getfield 166, 3) := dz_ok (by decide +kernel)
theorem ia_d19 : decode xM178.2.1 19 = .ok (.iaload, 1) := dz_ok (by decide +kernel)
theorem ia_d20 : decode xM178.2.1 20 = .ok (.i2l, 1) := dz_ok (by decide +kernel)
theorem ia_d21 : decode xM178.2.1 21 = .ok (.iload_n 1, 1) := dz_ok (by decide +kernel)
theorem ia_d22 : decode xM178.2.1 22 = .ok (.i2l, 1) := dz_ok (by decide +kernel)
theorem ia_d23 : decode xM178.2.1 23 = .ok (.iload_n 2, 1) := dz_ok (by decide +kernel)
theorem ia_d24 : decode xM178.2.1 24 = .ok (.i2l, 1) := dz_ok (by decide +kernel)
theorem ia_d25 : decode xM178.2.1 25 = .ok (.invokestatic 87, 3) := dz_ok (by decide +kernel)
theorem ia_d28 : decode xM178.2.1 28 = .ok (.ifCond .eq 7, 3) := dz_ok (by decide +kernel)
theorem ia_d31 : decode xM178.2.1 31 = .ok (.iconst 1, 1) := dz_ok (by decide +kernel)
theorem ia_d32 : decode xM178.2.1 32 = .ok (.goto 4, 3) := dz_ok (by decide +kernel)
theorem ia_d35 : decode xM178.2.1 35 = .ok (.iconst 0, 1) := dz_ok (by decide +kernel)
theorem ia_d36 : decode xM178.2.1 36 = .ok (.ireturn, 1) := dz_ok (by decide +kernel)
theorem ym_isAt : y_Met vwCl x_G x_Zs x_Tb x_Nb xM178 y_T z_PisAt := by
  refine y_main (by decide +kernel) (by decide +kernel) x_Tb_good x_Nb_ok ?_
  intro p l e s m below meth c D U Y0 av ls B hI hpre hl
  have X := B.1
  have hx := X.1
  have hb := X.2.1
  have hY0 := B.2.2.2.2.1
  obtain ⟨v0, v1, v2, rfl, hv0, ⟨lo, rfl, -⟩, ⟨hi, rfl, -⟩⟩ := y_three B.2.2.2.2.2
  obtain ⟨this, t0, rfl, ht0, hY_this⟩ := x_ref_at hv0 rfl
  obtain rfl := List.mem_singleton.mp ht0
  replace hl : lv_has ls xM178.2.2.1 [(0, .ref this), (1, .int lo), (2, .int hi)] := hl
  obtain ⟨at_, hsi_at, hat⟩ := y_fldI (k := 11) hI.1 hY_this rfl rfl
  obtain ⟨ty, hsi_typed, hty⟩ := y_fldI (k := 10) hI.1 hY_this rfl rfl
  replace hat : (0 : Int) ≤ at_.toInt ∧ at_.toInt ≤ 240 := hat
  replace hty : (0 : Int) ≤ ty.toInt ∧ ty.toInt ≤ 240 := hty
  obtain ⟨tx, hs_tx, hY_tx⟩ := y_fldR (k := 9) hI.1 hY_this rfl rfl
  obtain ⟨ft, hA_tx, -⟩ := y_arr hI.1 hY_tx rfl rfl
  have hsi0 := hsi_at
  have hsi1 := hsi_typed
  have hs0 := hs_tx
  have hA0 := hA_tx
  refine lv_aload_n hx hb ia_d0 rfl (lv_at hl 0 rfl) ?_
  refine y_getf X (fl196 X.2.2.2.2.1) hI.1 hY_this rfl hsi_at ia_d1 ?_
  refine lv_aload_n hx hb ia_d4 rfl (lv_at hl 0 rfl) ?_
  refine y_getf X (fl193 X.2.2.2.2.1) hI.1 hY_this rfl hsi_typed ia_d5 ?_
  refine lv_icmp_ge hx hb ia_d8 (tgt := 35) (by decide) (fun q8 => ?_) (fun q8 => ?_)
  · have q8_ : ty.toInt ≤ at_.toInt := x_le32.mp q8
    refine lv_iconst hx hb ia_d35 (v := 0) (by decide) ?_
    have ec0 : (0 : Int32).toInt = 0 := by decide
    exact y_ireturn B hI rfl rfl rfl List.mem_cons_self ⟨_, rfl, ⟨_, rfl, by decide, by decide⟩⟩ (x_cs.mono B.2.2.2.2.2 (y_mon B hI)) (ia_fin hat.1 hty.2 hsi0 hsi1 hs0 hA0 (fun q => by first | exact absurd rfl q | (have e2 := hin_r25 q28; rw [hg_e19]; omega)) (fun q => by first | exact absurd q (by decide) | omega | (have e2 := hout_r25 q28; rw [hg_e19]; omega))) (Nat.le_refl _) (Nat.le_refl _) ia_d36
  · have q8_ : at_.toInt < ty.toInt := Int.not_le.mp fun q => q8 (x_le32.mpr q)
    refine lv_aload_n hx hb ia_d11 rfl (lv_at hl 0 rfl) ?_
    refine y_getf X (fl195 X.2.2.2.2.1) hI.1 hY_this rfl hs_tx ia_d12 ?_
    refine lv_aload_n hx hb ia_d15 rfl (lv_at hl 0 rfl) ?_
    refine y_getf X (fl196 X.2.2.2.2.1) hI.1 hY_this rfl hsi_at ia_d16 ?_
    refine y_iald X hI.1 hY_tx rfl hA_tx (by omega) (by show _ < (240 : Int); omega) ia_d19 ?_
    obtain ⟨e19, hg_e19⟩ : ∃ e19 : Int32, ft at_.toInt.toNat = e19 := ⟨_, rfl⟩
    rw [hg_e19]
    obtain ⟨z20, hg_z20⟩ : ∃ z20 : Int64, e19.toInt64 = z20 := ⟨_, rfl⟩
    have h_z20 : z20.toInt = (e19).toInt := by rw [← hg_z20]; exact Int32.toInt_toInt64 _
    refine lv_i2l hx hb ia_d20 (v := z20) hg_z20 ?_
    refine lv_iload_n hx hb ia_d21 rfl (lv_at hl 1 rfl) ?_
    obtain ⟨z22, hg_z22⟩ : ∃ z22 : Int64, lo.toInt64 = z22 := ⟨_, rfl⟩
    have h_z22 : z22.toInt = (lo).toInt := by rw [← hg_z22]; exact Int32.toInt_toInt64 _
    refine lv_i2l hx hb ia_d22 (v := z22) hg_z22 ?_
    refine lv_iload_n hx hb ia_d23 rfl (lv_at hl 2 rfl) ?_
    obtain ⟨z24, hg_z24⟩ : ∃ z24 : Int64, hi.toInt64 = z24 := ⟨_, rfl⟩
    have h_z24 : z24.toInt = (hi).toInt := by rw [← hg_z24]; exact Int32.toInt_toInt64 _
    refine lv_i2l hx hb ia_d24 (v := z24) hg_z24 ?_
    refine y_call (z := (1, 87, 3, none, xM148)) (av := [.long z20, .long z22, .long z24]) (rest := []) (y_cokS (n := 3) X ym_in (x_cons (x_bw67 11 rfl rfl) (x_cons (x_bw67 12 rfl rfl) (x_cons (x_bw0 9 rfl rfl) x_nilm))) (x_bw67 13 rfl rfl) (by decide +kernel) ⟨Nat.le_of_ble_eq_true rfl, Nat.le_of_ble_eq_true rfl⟩) hY0 hI rfl ia_d25 hl.1 (Nat.le_of_ble_eq_true rfl) (Nat.le_of_ble_eq_true rfl) (Nat.le_of_ble_eq_true rfl) (y_cons ⟨_, rfl, x_i64 _⟩ (y_cons ⟨_, rfl, x_i64 _⟩ (y_cons ⟨_, rfl, x_i64 _⟩ y_nil))) rfl (y_norecv rfl) trivial (y_sub_ef rfl) fun v Yn o Hn L ho hr ha hIn hx_ hE hP => ?_
    replace hs_tx := y_Efld hE hY_this rfl (by decide) (by decide) hs_tx
    replace hsi_at := y_Efld hE hY_this rfl (by decide) (by decide) hsi_at
    replace hsi_typed := y_Efld hE hY_this rfl (by decide) (by decide) hsi_typed
    replace hA_tx := hA_tx.kept (y_Earr hE hY_tx rfl (by decide))
    replace hY_this := y_ext hx_ hI.1 hY_this
    replace hY_tx := y_ext hx_ hI.1 hY_tx
    obtain ⟨r25, rfl, hin_r25, hout_r25⟩ := z_inR2 (hP _ _ _ rfl)
    clear ho hr ha hE hP hI hx_
    rename x_I _ _ _ _ _ _ _ _ _ _ => hI
    have ec0 : (0 : Int32).toInt = 0 := by decide
    refine lv_if_eq hx hb ia_d28 (tgt := 35) (by decide) (fun q28 => ?_) (fun q28 => ?_)
    · have q28_ : r25.toInt = (0 : Int32).toInt := by rw [q28]
      refine lv_iconst hx hb ia_d35 (v := 0) (by decide) ?_
      exact y_ireturn B hI rfl rfl rfl List.mem_cons_self ⟨_, rfl, ⟨_, rfl, by decide, by decide⟩⟩ (x_cs.mono B.2.2.2.2.2 (y_mon B hI)) (ia_fin hat.1 hty.2 hsi0 hsi1 hs0 hA0 (fun q => by first | exact absurd rfl q | (have e2 := hin_r25 q28; rw [hg_e19]; omega)) (fun q => by first | exact absurd q (by decide) | omega | (have e2 := hout_r25 q28; rw [hg_e19]; omega))) (Nat.le_refl _) (Nat.le_refl _) ia_d36
    · have q28_ : ¬ r25.toInt = (0 : Int32).toInt := fun q => q28 (Int32.toInt_inj.mp q)
      refine lv_iconst hx hb ia_d31 (v := 1) (by decide) ?_
      have ec1 : (1 : Int32).toInt = 1 := by decide
      refine lv_goto hx hb ia_d32 (tgt := 36) (by decide) ?_
      exact y_ireturn B hI rfl rfl rfl (List.mem_cons_of_mem _ List.mem_cons_self) ⟨_, rfl, ⟨_, rfl, by decide, by decide⟩⟩ (x_cs.mono B.2.2.2.2.2 (y_mon B hI)) (ia_fin hat.1 hty.2 hsi0 hsi1 hs0 hA0 (fun q => by first | exact absurd rfl q | (have e2 := hin_r25 q28; rw [hg_e19]; omega)) (fun q => by first | exact absurd q (by decide) | omega | (have e2 := hout_r25 q28; rw [hg_e19]; omega))) (Nat.le_refl _) (Nat.le_refl _) ia_d36
def xMsc : xM := (⟨"TwinFiresModel", "scans", "()V"⟩, prog_14_method_38_code, 3, none, [xR false [17]], [([xR false [17]], none)], [(17, 11), (17, 12), (17, 13), (17, 14)], (2, 47, 0, 0), none)
theorem sc_d0 : decode xMsc.2.1 0 = .ok (.aload_n 0, 1) := dz_ok (by decide +kernel)
theorem sc_d1 : decode xMsc.2.1 1 = .ok (.bipush 32, 2) := dz_ok (by decide +kernel)
theorem sc_d3 : decode xMsc.2.1 3 = .ok (.bipush 32, 2) := dz_ok (by decide +kernel)
theorem sc_d5 : decode xMsc.2.1 5 = .ok (.invokevirtual 189, 3) := dz_ok (by decide +kernel)
theorem sc_d8 : decode xMsc.2.1 8 = .ok (.ifCond .eq 16, 3) := dz_ok (by decide +kernel)
theorem sc_d11 : decode xMsc.2.1 11 = .ok (.aload_n 0, 1) := dz_ok (by decide +kernel)
theorem sc_d12 : decode xMsc.2.1 12 = .ok (.dup, 1) := dz_ok (by decide +kernel)
theorem sc_d13 : decode xMsc.2.1 13 = .ok (.getfield 166, 3) := dz_ok (by decide +kernel)
theorem sc_d16 : decode xMsc.2.1 16 = .ok (.iconst 1, 1) := dz_ok (by decide +kernel)
theorem sc_d17 : decode xMsc.2.1 17 = .ok (.iadd, 1) := dz_ok (by decide +kernel)
theorem sc_d18 : decode xMsc.2.1 18 = .ok (.putfield 166, 3) := dz_ok (by decide +kernel)
theorem sc_d21 : decode xMsc.2.1 21 = .ok (.goto (-21), 3) := dz_ok (by decide +kernel)
theorem sc_d24 : decode xMsc.2.1 24 = .ok (.aload_n 0, 1) := dz_ok (by decide +kernel)
theorem sc_d25 : decode xMsc.2.1 25 = .ok (.aload_n 0, 1) := dz_ok (by decide +kernel)
theorem sc_d26 : decode xMsc.2.1 26 = .ok (.getfield 166, 3) := dz_ok (by decide +kernel)
theorem sc_d29 : decode xMsc.2.1 29 = .ok (.putfield 193, 3) := dz_ok (by decide +kernel)
theorem sc_d32 : decode xMsc.2.1 32 = .ok (.aload_n 0, 1) := dz_ok (by decide +kernel)
theorem sc_d33 : decode xMsc.2.1 33 = .ok (.getfield 166, 3) := dz_ok (by decide +kernel)
theorem sc_d36 : decode xMsc.2.1 36 = .ok (.aload_n 0, 1) := dz_ok (by decide +kernel)
theorem sc_d37 : decode xMsc.2.1 37 = .ok (.getfield 160, 3) := dz_ok (by decide +kernel)
theorem sc_d40 : decode xMsc.2.1 40 = .ok (.if_icmp .ne 9, 3) := dz_ok (by decide +kernel)
theorem sc_d43 : decode xMsc.2.1 43 = .ok (.aload_n 0, 1) := dz_ok (by decide +kernel)
theorem sc_d44 : decode xMsc.2.1 44 = .ok (.iconst 0, 1) := dz_ok (by decide +kernel)
theorem sc_d45 : decode xMsc.2.1 45 = .ok (.putfield 196, 3) := dz_ok (by decide +kernel)
theorem sc_d48 : decode xMsc.2.1 48 = .ok (.return_, 1) := dz_ok (by decide +kernel)
theorem sc_d49 : decode xMsc.2.1 49 = .ok (.aload_n 0, 1) := dz_ok (by decide +kernel)
theorem sc_d50 : decode xMsc.2.1 50 = .ok (.bipush 97, 2) := dz_ok (by decide +kernel)
theorem sc_d52 : decode xMsc.2.1 52 = .ok (.bipush 122, 2) := dz_ok (by decide +kernel)
theorem sc_d54 : decode xMsc.2.1 54 = .ok (.invokevirtual 189, 3) := dz_ok (by decide +kernel)
theorem sc_d57 : decode xMsc.2.1 57 = .ok (.ifCond .eq 97, 3) := dz_ok (by decide +kernel)
theorem sc_d60 : decode xMsc.2.1 60 = .ok (.lconst 0, 1) := dz_ok (by decide +kernel)
theorem sc_d61 : decode xMsc.2.1 61 = .ok (.lstore_n 1, 1) := dz_ok (by decide +kernel)
theorem sc_d62 : decode xMsc.2.1 62 = .ok (.aload_n 0, 1) := dz_ok (by decide +kernel)
theorem sc_d63 : decode xMsc.2.1 63 = .ok (.bipush 97, 2) := dz_ok (by decide +kernel)
theorem sc_d65 : decode xMsc.2.1 65 = .ok (.bipush 122, 2) := dz_ok (by decide +kernel)
theorem sc_d67 : decode xMsc.2.1 67 = .ok (.invokevirtual 189, 3) := dz_ok (by decide +kernel)
theorem sc_d70 : decode xMsc.2.1 70 = .ok (.ifCond .eq 57, 3) := dz_ok (by decide +kernel)
theorem sc_d73 : decode xMsc.2.1 73 = .ok (.aload_n 0, 1) := dz_ok (by decide +kernel)
theorem sc_d74 : decode xMsc.2.1 74 = .ok (.getfield 166, 3) := dz_ok (by decide +kernel)
theorem sc_d77 : decode xMsc.2.1 77 = .ok (.aload_n 0, 1) := dz_ok (by decide +kernel)
theorem sc_d78 : decode xMsc.2.1 78 = .ok (.getfield 193, 3) := dz_ok (by decide +kernel)
theorem sc_d81 : decode xMsc.2.1 81 = .ok (.isub, 1) := dz_ok (by decide +kernel)
theorem sc_d82 : decode xMsc.2.1 82 = .ok (.bipush 6, 2) := dz_ok (by decide +kernel)
theorem sc_d84 : decode xMsc.2.1 84 = .ok (.if_icmp .le 7, 3) := dz_ok (by decide +kernel)
theorem sc_d87 : decode xMsc.2.1 87 = .ok (.lconst 0, 1) := dz_ok (by decide +kernel)
theorem sc_d88 : decode xMsc.2.1 88 = .ok (.goto 25, 3) := dz_ok (by decide +kernel)
theorem sc_d91 : decode xMsc.2.1 91 = .ok (.ldc2_w 199, 3) := dz_ok (by decide +kernel)
theorem sc_d94 : decode xMsc.2.1 94 = .ok (.lload_n 1, 1) := dz_ok (by decide +kernel)
theorem sc_d95 : decode xMsc.2.1 95 = .ok (.lmul, 1) := dz_ok (by decide +kernel)
theorem sc_d96 : decode xMsc.2.1 96 = .ok (.aload_n 0, 1) := dz_ok (by decide +kernel)
theorem sc_d97 : decode xMsc.2.1 97 = .ok (.getfield 29, 3) := dz_ok (by decide +kernel)
theorem sc_d100 : decode xMsc.2.1 100 = .ok (.aload_n 0, 1) := dz_ok (by decide +kernel)
theorem sc_d101 : decode xMsc.2.1 101 = .ok (.getfield 166, 3) := dz_ok (by decide +kernel)
theorem sc_d104 : decode xMsc.2.1 104 = .ok (.iaload, 1) := dz_ok (by decide +kernel)
theorem sc_d105 : decode xMsc.2.1 105 = .ok (.i2l, 1) := dz_ok (by decide +kernel)
theorem sc_d106 : decode xMsc.2.1 106 = .ok (.ladd, 1) := dz_ok (by decide +kernel)
theorem sc_d107 : decode xMsc.2.1 107 = .ok (.ldc2_w 201, 3) := dz_ok (by decide +kernel)
theorem sc_d110 : decode xMsc.2.1 110 = .ok (.lsub, 1) := dz_ok (by decide +kernel)
theorem sc_d111 : decode xMsc.2.1 111 = .ok (.lconst 1, 1) := dz_ok (by decide +kernel)
theorem sc_d112 : decode xMsc.2.1 112 = .ok (.ladd, 1) := dz_ok (by decide +kernel)
theorem sc_d113 : decode xMsc.2.1 113 = .ok (.lstore_n 1, 1) := dz_ok (by decide +kernel)
theorem sc_d114 : decode xMsc.2.1 114 = .ok (.aload_n 0, 1) := dz_ok (by decide +kernel)
theorem sc_d115 : decode xMsc.2.1 115 = .ok (.dup, 1) := dz_ok (by decide +kernel)
theorem sc_d116 : decode xMsc.2.1 116 = .ok (.getfield 166, 3) := dz_ok (by decide +kernel)
theorem sc_d119 : decode xMsc.2.1 119 = .ok (.iconst 1, 1) := dz_ok (by decide +kernel)
theorem sc_d120 : decode xMsc.2.1 120 = .ok (.iadd, 1) := dz_ok (by decide +kernel)
theorem sc_d121 : decode xMsc.2.1 121 = .ok (.putfield 166, 3) := dz_ok (by decide +kernel)
theorem sc_d124 : decode xMsc.2.1 124 = .ok (.goto (-62), 3) := dz_ok (by decide +kernel)
theorem sc_d127 : decode xMsc.2.1 127 = .ok (.aload_n 0, 1) := dz_ok (by decide +kernel)
theorem sc_d128 : decode xMsc.2.1 128 = .ok (.aload_n 0, 1) := dz_ok (by decide +kernel)
theorem sc_d129 : decode xMsc.2.1 129 = .ok (.getfield 166, 3) := dz_ok (by decide +kernel)
theorem sc_d132 : decode xMsc.2.1 132 = .ok (.aload_n 0, 1) := dz_ok (by decide +kernel)
theorem sc_d133 : decode xMsc.2.1 133 = .ok (.getfield 193, 3) := dz_ok (by decide +kernel)
theorem sc_d136 : decode xMsc.2.1 136 = .ok (.isub, 1) := dz_ok (by decide +kernel)
theorem sc_d137 : decode xMsc.2.1 137 = .ok (.bipush 6, 2) := dz_ok (by decide +kernel)
theorem sc_d139 : decode xMsc.2.1 139 = .ok (.if_icmp .le 7, 3) := dz_ok (by decide +kernel)
theorem sc_d142 : decode xMsc.2.1 142 = .ok (.iconst 1, 1) := dz_ok (by decide +kernel)
theorem sc_d143 : decode xMsc.2.1 143 = .ok (.goto 7, 3) := dz_ok (by decide +kernel)
theorem sc_d146 : decode xMsc.2.1 146 = .ok (.lload_n 1, 1) := dz_ok (by decide +kernel)
theorem sc_d147 : decode xMsc.2.1 147 = .ok (.invokestatic 203, 3) := dz_ok (by decide +kernel)
theorem sc_d150 : decode xMsc.2.1 150 = .ok (.putfield 196, 3) := dz_ok (by decide +kernel)
theorem sc_d153 : decode xMsc.2.1 153 = .ok (.return_, 1) := dz_ok (by decide +kernel)
theorem sc_d154 : decode xMsc.2.1 154 = .ok (.aload_n 0, 1) := dz_ok (by decide +kernel)
theorem sc_d155 : decode xMsc.2.1 155 = .ok (.bipush 48, 2) := dz_ok (by decide +kernel)
theorem sc_d157 : decode xMsc.2.1 157 = .ok (.bipush 57, 2) := dz_ok (by decide +kernel)
theorem sc_d159 : decode xMsc.2.1 159 = .ok (.invokevirtual 189, 3) := dz_ok (by decide +kernel)
theorem sc_d162 : decode xMsc.2.1 162 = .ok (.ifCond .eq 99, 3) := dz_ok (by decide +kernel)
theorem sc_d165 : decode xMsc.2.1 165 = .ok (.aload_n 0, 1) := dz_ok (by decide +kernel)
theorem sc_d166 : decode xMsc.2.1 166 = .ok (.iconst 0, 1) := dz_ok (by decide +kernel)
theorem sc_d167 : decode xMsc.2.1 167 = .ok (.putfield 207, 3) := dz_ok (by decide +kernel)
theorem sc_d170 : decode xMsc.2.1 170 = .ok (.aload_n 0, 1) := dz_ok (by decide +kernel)
theorem sc_d171 : decode xMsc.2.1 171 = .ok (.bipush 48, 2) := dz_ok (by decide +kernel)
theorem sc_d173 : decode xMsc.2.1 173 = .ok (.bipush 57, 2) := dz_ok (by decide +kernel)
theorem sc_d175 : decode xMsc.2.1 175 = .ok (.invokevirtual 189, 3) := dz_ok (by decide +kernel)
theorem sc_d178 : decode xMsc.2.1 178 = .ok (.ifCond .eq 60, 3) := dz_ok (by decide +kernel)
theorem sc_d181 : decode xMsc.2.1 181 = .ok (.aload_n 0, 1) := dz_ok (by decide +kernel)
theorem sc_d182 : decode xMsc.2.1 182 = .ok (.aload_n 0, 1) := dz_ok (by decide +kernel)
theorem sc_d183 : decode xMsc.2.1 183 = .ok (.getfield 166, 3) := dz_ok (by decide +kernel)
theorem sc_d186 : decode xMsc.2.1 186 = .ok (.aload_n 0, 1) := dz_ok (by decide +kernel)
theorem sc_d187 : decode xMsc.2.1 187 = .ok (.getfield 193, 3) := dz_ok (by decide +kernel)
theorem sc_d190 : decode xMsc.2.1 190 = .ok (.isub, 1) := dz_ok (by decide +kernel)
theorem sc_d191 : decode xMsc.2.1 191 = .ok (.iconst 2, 1) := dz_ok (by decide +kernel)
theorem sc_d192 : decode xMsc.2.1 192 = .ok (.if_icmp .ge 26, 3) := dz_ok (by decide +kernel)
theorem sc_d195 : decode xMsc.2.1 195 = .ok (.bipush 10, 2) := dz_ok (by decide +kernel)
theorem sc_d197 : decode xMsc.2.1 197 = .ok (.aload_n 0, 1) := dz_ok (by decide +kernel)
theorem sc_d198 : decode xMsc.2.1 198 = .ok (.getfield 207, 3) := dz_ok (by decide +kernel)
theorem sc_d201 : decode xMsc.2.1 201 = .ok (.imul, 1) := dz_ok (by decide +kernel)
theorem sc_d202 : decode xMsc.2.1 202 = .ok (.aload_n 0, 1) := dz_ok (by decide +kernel)
theorem sc_d203 : decode xMsc.2.1 203 = .ok (.getfield 29, 3) := dz_ok (by decide +kernel)
theorem sc_d206 : decode xMsc.2.1 206 = .ok (.aload_n 0, 1) := dz_ok (by decide +kernel)
theorem sc_d207 : decode xMsc.2.1 207 = .ok (.getfield 166, 3) := dz_ok (by decide +kernel)
theorem sc_d210 : decode xMsc.2.1 210 = .ok (.iaload, 1) := dz_ok (by decide +kernel)
theorem sc_d211 : decode xMsc.2.1 211 = .ok (.iadd, 1) := dz_ok (by decide +kernel)
theorem sc_d212 : decode xMsc.2.1 212 = .ok (.bipush 48, 2) := dz_ok (by decide +kernel)
theorem sc_d214 : decode xMsc.2.1 214 = .ok (.isub, 1) := dz_ok (by decide +kernel)
theorem sc_d215 : decode xMsc.2.1 215 = .ok (.goto 7, 3) := dz_ok (by decide +kernel)
theorem sc_d218 : decode xMsc.2.1 218 = .ok (.aload_n 0, 1) := dz_ok (by decide +kernel)
theorem sc_d219 : decode xMsc.2.1 219 = .ok (.getfield 207, 3) := dz_ok (by decide +kernel)
theorem sc_d222 : decode xMsc.2.1 222 = .ok (.putfield 207, 3) := dz_ok (by decide +kernel)
theorem sc_d225 : decode xMsc.2.1 225 = .ok (.aload_n 0, 1) := dz_ok (by decide +kernel)
theorem sc_d226 : decode xMsc.2.1 226 = .ok (.dup, 1) := dz_ok (by decide +kernel)
theorem sc_d227 : decode xMsc.2.1 227 = .ok (.getfield 166, 3) := dz_ok (by decide +kernel)
theorem sc_d230 : decode xMsc.2.1 230 = .ok (.iconst 1, 1) := dz_ok (by decide +kernel)
theorem sc_d231 : decode xMsc.2.1 231 = .ok (.iadd, 1) := dz_ok (by decide +kernel)
theorem sc_d232 : decode xMsc.2.1 232 = .ok (.putfield 166, 3) := dz_ok (by decide +kernel)
theorem sc_d235 : decode xMsc.2.1 235 = .ok (.goto (-65), 3) := dz_ok (by decide +kernel)
theorem sc_d238 : decode xMsc.2.1 238 = .ok (.aload_n 0, 1) := dz_ok (by decide +kernel)
theorem sc_d239 : decode xMsc.2.1 239 = .ok (.aload_n 0, 1) := dz_ok (by decide +kernel)
theorem sc_d240 : decode xMsc.2.1 240 = .ok (.getfield 166, 3) := dz_ok (by decide +kernel)
theorem sc_d243 : decode xMsc.2.1 243 = .ok (.aload_n 0, 1) := dz_ok (by decide +kernel)
theorem sc_d244 : decode xMsc.2.1 244 = .ok (.getfield 193, 3) := dz_ok (by decide +kernel)
theorem sc_d247 : decode xMsc.2.1 247 = .ok (.isub, 1) := dz_ok (by decide +kernel)
theorem sc_d248 : decode xMsc.2.1 248 = .ok (.iconst 2, 1) := dz_ok (by decide +kernel)
theorem sc_d249 : decode xMsc.2.1 249 = .ok (.if_icmp .le 7, 3) := dz_ok (by decide +kernel)
theorem sc_d252 : decode xMsc.2.1 252 = .ok (.iconst 1, 1) := dz_ok (by decide +kernel)
theorem sc_d253 : decode xMsc.2.1 253 = .ok (.goto 4, 3) := dz_ok (by decide +kernel)
theorem sc_d256 : decode xMsc.2.1 256 = .ok (.iconst 2, 1) := dz_ok (by decide +kernel)
theorem sc_d257 : decode xMsc.2.1 257 = .ok (.putfield 196, 3) := dz_ok (by decide +kernel)
theorem sc_d260 : decode xMsc.2.1 260 = .ok (.return_, 1) := dz_ok (by decide +kernel)
theorem sc_d261 : decode xMsc.2.1 261 = .ok (.aload_n 0, 1) := dz_ok (by decide +kernel)
theorem sc_d262 : decode xMsc.2.1 262 = .ok (.aload_n 0, 1) := dz_ok (by decide +kernel)
theorem sc_d263 : decode xMsc.2.1 263 = .ok (.bipush 59, 2) := dz_ok (by decide +kernel)
theorem sc_d265 : decode xMsc.2.1 265 = .ok (.bipush 59, 2) := dz_ok (by decide +kernel)
theorem sc_d267 : decode xMsc.2.1 267 = .ok (.invokevirtual 189, 3) := dz_ok (by decide +kernel)
theorem sc_d270 : decode xMsc.2.1 270 = .ok (.ifCond .eq 7, 3) := dz_ok (by decide +kernel)
theorem sc_d273 : decode xMsc.2.1 273 = .ok (.iconst 3, 1) := dz_ok (by decide +kernel)
theorem sc_d274 : decode xMsc.2.1 274 = .ok (.goto 4, 3) := dz_ok (by decide +kernel)
theorem sc_d277 : decode xMsc.2.1 277 = .ok (.iconst 1, 1) := dz_ok (by decide +kernel)
theorem sc_d278 : decode xMsc.2.1 278 = .ok (.putfield 196, 3) := dz_ok (by decide +kernel)
theorem sc_d281 : decode xMsc.2.1 281 = .ok (.aload_n 0, 1) := dz_ok (by decide +kernel)
theorem sc_d282 : decode xMsc.2.1 282 = .ok (.dup, 1) := dz_ok (by decide +kernel)
theorem sc_d283 : decode xMsc.2.1 283 = .ok (.getfield 166, 3) := dz_ok (by decide +kernel)
theorem sc_d286 : decode xMsc.2.1 286 = .ok (.iconst 1, 1) := dz_ok (by decide +kernel)
theorem sc_d287 : decode xMsc.2.1 287 = .ok (.iadd, 1) := dz_ok (by decide +kernel)
theorem sc_d288 : decode xMsc.2.1 288 = .ok (.putfield 166, 3) := dz_ok (by decide +kernel)
theorem sc_d291 : decode xMsc.2.1 291 = .ok (.return_, 1) := dz_ok (by decide +kernel)
theorem sc_L62 {p : Program} {l : Launch} {e : Env} {s : State} {m : MethodId} {below : List Frame} {meth : Method} {c : Code} {D : va_G} {U : State} {Y0 : xY} {av : List Value} (B : y_B vwCl x_Tb x_Nb xMsc p s m meth c D U Y0 av) {this tx : Nat} {ty at0 : Int32} {ft : Nat → Int32} (hty : 0 ≤ ty.toInt ∧ ty.toInt ≤ 240) (fin : ∀ {H : Heap} {Y : xY} {at1 tk1 : Int32}, x_sl D 12 11 this H = some (.int at1) → x_sl D 12 13 this H = some (.int tk1) → at0.toInt ≤ at1.toInt → at1.toInt ≤ ty.toInt → (¬ tk1 = 0 → at0.toInt < at1.toInt) → z_Pscans D av Y0 s.heap none Y H)  :
    ∀ (n : Nat), ∀ (H : Heap) (Y : xY) (locs : List Loc) (ls : Array Slot) (at_ : Int32) (v : Int64), x_I D x_G x_Zs U (x_efs xMsc) Y0 s.heap Y H locs → Y this = some 17 → Y tx = some 52 → x_sl D 12 9 this H = some (.ref tx) → x_sl D 12 11 this H = some (.int at_) → x_sl D 12 10 this H = some (.int ty) → y_A tx 240 H ft → lv_has ls xMsc.2.2.1 [(1, .long v), (0, .ref this)] → (at0.toInt ≤ at_.toInt ∧ at_.toInt ≤ ty.toInt ∧ (at0.toInt < at_.toInt ∨ (at_.toInt < ty.toInt ∧ 97 ≤ (ft at_.toInt.toNat).toInt ∧ (ft at_.toInt.toNat).toInt ≤ 122))) → (0 ≤ at_.toInt) → (241 - at_.toInt).toNat < n → W p l e (x_rm xMsc) s m av.toArray below meth c H locs 0 0 (y_QQ below D x_G x_Zs U xMsc z_Pscans av Y0 s) (F0 m 62 ls []) := by
  have X := B.1
  have hx := X.1
  have hb := X.2.1
  have hY0 := B.2.2.2.2.1
  intro n
  induction n with
  | zero => intro _ _ _ _ _ _ _ _ _ _ _ _ _ _ _ _ h; exact absurd h (Nat.not_lt_zero _)
  | succ n ih =>
    intro H Y locs ls at_ v  hI hY_this hY_tx hs_tx hsi_at hsi_typed hA_tx hl hat hat0 hn
    refine lv_aload_n hx hb sc_d62 rfl (lv_at hl 1 rfl) ?_
    refine lv_bipush hx hb sc_d63 (v := 97) (by decide) ?_
    have ec97 : (97 : Int32).toInt = 97 := by decide
    refine lv_bipush hx hb sc_d65 (v := 122) (by decide) ?_
    have ec122 : (122 : Int32).toInt = 122 := by decide
    refine y_call (z := (0, 189, 3, some 17, xM178)) (av := [.ref this, .int (97 : Int32), .int (122 : Int32)]) (rest := []) (y_cokV (n := 2) (ci := 12) X ym_isAt rfl rfl rfl (x_cons (x_bw74 15 rfl rfl) (x_cons (x_bw75 1 rfl rfl) (x_cons (x_at 46 (by decide +kernel) rfl) (x_cons (x_bw0 9 rfl rfl) x_nilm)))) (x_bw75 2 rfl rfl) (by decide +kernel) ⟨Nat.le_of_ble_eq_true rfl, Nat.le_of_ble_eq_true rfl⟩) hY0 hI rfl sc_d67 hl.1 (Nat.le_of_ble_eq_true rfl) (Nat.le_of_ble_eq_true rfl) (Nat.le_of_ble_eq_true rfl) (y_cons (y_cref hY_this rfl) (y_cons ⟨_, rfl, x_i32 _⟩ (y_cons ⟨_, rfl, x_i32 _⟩ y_nil))) rfl (y_recv rfl hY_this) trivial (y_sub_ef rfl) fun v Yn o Hn L ho hr ha hIn hx_ hE hP => ?_
    have hPi := hP _ _ _ _ _ _ _ rfl hsi_at hsi_typed hs_tx hA_tx
    replace hs_tx := y_Efld hE hY_this rfl (by decide) (by decide) hs_tx
    replace hsi_at := y_Efld hE hY_this rfl (by decide) (by decide) hsi_at
    replace hsi_typed := y_Efld hE hY_this rfl (by decide) (by decide) hsi_typed
    replace hA_tx := hA_tx.kept (y_Earr hE hY_tx rfl (by decide))
    replace hY_this := y_ext hx_ hI.1 hY_this
    replace hY_tx := y_ext hx_ hI.1 hY_tx
    obtain ⟨r67, rfl, hin_r67, hout_r67⟩ := hPi
    clear ho hr ha hE hP hI hx_
    rename x_I _ _ _ _ _ _ _ _ _ _ => hI
    have ec0 : (0 : Int32).toInt = 0 := by decide
    refine lv_if_eq hx hb sc_d70 (tgt := 127) (by decide) (fun q70 => ?_) (fun q70 => ?_)
    · have q70_ : r67.toInt = (0 : Int32).toInt := by rw [q70]
      have hq_127 := hout_r67 q70
      refine lv_aload_n hx hb sc_d127 rfl (lv_at hl 1 rfl) ?_
      refine lv_aload_n hx hb sc_d128 rfl (lv_at hl 1 rfl) ?_
      refine y_getf X (fl196 X.2.2.2.2.1) hI.1 hY_this rfl hsi_at sc_d129 ?_
      refine lv_aload_n hx hb sc_d132 rfl (lv_at hl 1 rfl) ?_
      obtain ⟨start_133, hs_this_start, h_start_133⟩ := y_fldI (k := 12) hI.1 hY_this rfl rfl
      refine y_getf X (fl_sc_209 X.2.2.2.2.1) hI.1 hY_this rfl hs_this_start sc_d133 ?_
      refine lv_isub hx hb sc_d136 ?_
      generalize hg_z136 : at_ - start_133 = z136
      refine lv_bipush hx hb sc_d137 (v := 6) (by decide) ?_
      have ec6 : (6 : Int32).toInt = 6 := by decide
      refine lv_icmp_le hx hb sc_d139 (tgt := 146) (by decide) (fun q139 => ?_) (fun q139 => ?_)
      · have q139_ : z136.toInt ≤ (6 : Int32).toInt := x_le32.mp q139
        refine lv_lload_n hx hb sc_d146 rfl (lv_at hl 0 rfl) ?_
        refine y_call (z := (1, 203, 1, none, xM179)) (av := [.long v]) (rest := [.ref this]) (y_cok.of (x_cokS (n := 1) X xm179 (x_cons (x_bw75 5 rfl rfl) (x_cons (x_bw75 6 rfl rfl) (x_cons (x_bw0 9 rfl rfl) x_nilm))) (x_bw75 7 rfl rfl) (by decide +kernel) ⟨Nat.le_of_ble_eq_true rfl, Nat.le_of_ble_eq_true rfl⟩)) hY0 hI rfl sc_d147 hl.1 (Nat.le_of_ble_eq_true rfl) (Nat.le_of_ble_eq_true rfl) (Nat.le_of_ble_eq_true rfl) (y_cons ⟨_, rfl, x_i64 _⟩ y_nil) rfl (y_norecv rfl) trivial (y_sub_ef rfl) fun v Yn o Hn L ho hr ha hIn hx_ hE hP => ?_
        replace hs_tx := y_Efld hE hY_this rfl (by decide) (by decide) hs_tx
        replace hsi_at := y_Efld hE hY_this rfl (by decide) (by decide) hsi_at
        replace hsi_typed := y_Efld hE hY_this rfl (by decide) (by decide) hsi_typed
        replace hs_this_start := y_Efld hE hY_this rfl (by decide) (by decide) hs_this_start
        replace hA_tx := hA_tx.kept (y_Earr hE hY_tx rfl (by decide))
        replace hY_this := y_ext hx_ hI.1 hY_this
        replace hY_tx := y_ext hx_ hI.1 hY_tx
        obtain ⟨r147, rfl, h_r147⟩ := y_ansI (lo := (-2147483648)) (hi := 2147483647) (by decide) ho hr
        clear ho hr ha hE hP hI hx_
        rename x_I _ _ _ _ _ _ _ _ _ _ => hI
        refine y_putf X (fw_sc_210 X.2.2.2.2.1) hY0 hI hY_this rfl rfl ⟨_, rfl, x_i32 _⟩ (by decide +kernel) sc_d150 fun H sl hI ho hs hk => ?_
        replace hs_tx := hk _ _ (by decide +kernel) (by decide) hs_tx
        replace hsi_at := hk _ _ (by decide +kernel) (by decide) hsi_at
        replace hsi_typed := hk _ _ (by decide +kernel) (by decide) hsi_typed
        replace hs_this_start := hk _ _ (by decide +kernel) (by decide) hs_this_start
        replace hA_tx := hA_tx.kept (ho _ (y_ne hY_tx hY_this rfl))
        replace hs := hs
        have hs150 := hs
        exact y_return B hI rfl rfl List.mem_cons_self rfl (x_cs.mono B.2.2.2.2.2 (y_mon B hI)) (fin hsi_at hs150 (by omega) (by omega) (fun q => by first | exact absurd rfl q | omega)) (Nat.le_refl _) (Nat.le_refl _) sc_d153
      · have q139_ : (6 : Int32).toInt < z136.toInt := Int.not_le.mp fun q => q139 (x_le32.mpr q)
        refine lv_iconst hx hb sc_d142 (v := 1) (by decide) ?_
        have ec1 : (1 : Int32).toInt = 1 := by decide
        refine lv_goto hx hb sc_d143 (tgt := 150) (by decide) ?_
        refine y_putf X (fw_sc_210 X.2.2.2.2.1) hY0 hI hY_this rfl rfl ⟨_, rfl, x_i32 _⟩ (by decide +kernel) sc_d150 fun H sl hI ho hs hk => ?_
        replace hs_tx := hk _ _ (by decide +kernel) (by decide) hs_tx
        replace hsi_at := hk _ _ (by decide +kernel) (by decide) hsi_at
        replace hsi_typed := hk _ _ (by decide +kernel) (by decide) hsi_typed
        replace hs_this_start := hk _ _ (by decide +kernel) (by decide) hs_this_start
        replace hA_tx := hA_tx.kept (ho _ (y_ne hY_tx hY_this rfl))
        replace hs := hs
        have hs150 := hs
        exact y_return B hI rfl rfl List.mem_cons_self rfl (x_cs.mono B.2.2.2.2.2 (y_mon B hI)) (fin hsi_at hs150 (by omega) (by omega) (fun q => by first | exact absurd rfl q | omega)) (Nat.le_refl _) (Nat.le_refl _) sc_d153
    · have q70_ : ¬ r67.toInt = (0 : Int32).toInt := fun q => q70 (Int32.toInt_inj.mp q)
      have hq_73 := hin_r67 q70
      refine lv_aload_n hx hb sc_d73 rfl (lv_at hl 1 rfl) ?_
      refine y_getf X (fl196 X.2.2.2.2.1) hI.1 hY_this rfl hsi_at sc_d74 ?_
      refine lv_aload_n hx hb sc_d77 rfl (lv_at hl 1 rfl) ?_
      obtain ⟨start_78, hs_this_start, h_start_78⟩ := y_fldI (k := 12) hI.1 hY_this rfl rfl
      refine y_getf X (fl_sc_209 X.2.2.2.2.1) hI.1 hY_this rfl hs_this_start sc_d78 ?_
      refine lv_isub hx hb sc_d81 ?_
      generalize hg_z81 : at_ - start_78 = z81
      refine lv_bipush hx hb sc_d82 (v := 6) (by decide) ?_
      have ec6 : (6 : Int32).toInt = 6 := by decide
      refine lv_icmp_le hx hb sc_d84 (tgt := 91) (by decide) (fun q84 => ?_) (fun q84 => ?_)
      · have q84_ : z81.toInt ≤ (6 : Int32).toInt := x_le32.mp q84
        refine lv_ldc2 hx hb X.2.2.2.1 (v := 32) (X.2.2.2.2.1 _ (x_bw75 3 rfl rfl)) sc_d91 ?_
        have el32 : (32 : Int64).toInt = 32 := by decide
        refine lv_lload_n hx hb sc_d94 rfl (lv_at hl 0 rfl) ?_
        refine lv_lmul hx hb sc_d95 ?_
        generalize hg_z95 : (32 : Int64) * v = z95
        refine lv_aload_n hx hb sc_d96 rfl (lv_at hl 1 rfl) ?_
        refine y_getf X (fl195 X.2.2.2.2.1) hI.1 hY_this rfl hs_tx sc_d97 ?_
        refine lv_aload_n hx hb sc_d100 rfl (lv_at hl 1 rfl) ?_
        refine y_getf X (fl196 X.2.2.2.2.1) hI.1 hY_this rfl hsi_at sc_d101 ?_
        refine y_iald X hI.1 hY_tx rfl hA_tx (by omega) (by show _ < (240 : Int); omega) sc_d104 ?_
        obtain ⟨e104, hg_e104⟩ : ∃ e104 : Int32, ft at_.toInt.toNat = e104 := ⟨_, rfl⟩
        rw [hg_e104]
        obtain ⟨z105, hg_z105⟩ : ∃ z105 : Int64, e104.toInt64 = z105 := ⟨_, rfl⟩
        have h_z105 : z105.toInt = (e104).toInt := by rw [← hg_z105]; exact Int32.toInt_toInt64 _
        refine lv_i2l hx hb sc_d105 (v := z105) hg_z105 ?_
        refine lv_ladd hx hb sc_d106 ?_
        generalize hg_z106 : z95 + z105 = z106
        refine lv_ldc2 hx hb X.2.2.2.1 (v := 97) (X.2.2.2.2.1 _ (x_bw75 4 rfl rfl)) sc_d107 ?_
        have el97 : (97 : Int64).toInt = 97 := by decide
        refine lv_lsub hx hb sc_d110 ?_
        generalize hg_z110 : z106 - (97 : Int64) = z110
        refine lv_lconst hx hb sc_d111 (v := 1) (by decide) ?_
        have el1 : (1 : Int64).toInt = 1 := by decide
        refine lv_ladd hx hb sc_d112 ?_
        generalize hg_z112 : z110 + (1 : Int64) = z112
        refine lv_lstore_n hx hb sc_d113 rfl hl (by decide) (lv' := [(1, .long z112), (0, .ref this)]) rfl fun ls hl => ?_
        refine lv_aload_n hx hb sc_d114 rfl (lv_at hl 1 rfl) ?_
        refine lv_dup hx hb sc_d115 rfl ?_
        refine y_getf X (fl196 X.2.2.2.2.1) hI.1 hY_this rfl hsi_at sc_d116 ?_
        refine lv_iconst hx hb sc_d119 (v := 1) (by decide) ?_
        have ec1 : (1 : Int32).toInt = 1 := by decide
        refine lv_iadd hx hb sc_d120 ?_
        generalize hg_z120 : at_ + (1 : Int32) = z120
        have h_z120 : z120.toInt = at_.toInt + 1 := by rw [← hg_z120]; have := y_add (x := at_) (y := (1 : Int32)) (by rw [ec1]; omega) (by rw [ec1]; omega); rw [ec1] at this; exact this
        refine y_putf X (fw_sc_211 X.2.2.2.2.1) hY0 hI hY_this rfl rfl ⟨_, rfl, by show (0 : Int) ≤ _; omega, by show _ ≤ (240 : Int); omega⟩ (by decide +kernel) sc_d121 fun H sl hI ho hs hk => ?_
        replace hs_tx := hk _ _ (by decide +kernel) (by decide) hs_tx
        replace hsi_typed := hk _ _ (by decide +kernel) (by decide) hsi_typed
        replace hs_this_start := hk _ _ (by decide +kernel) (by decide) hs_this_start
        replace hA_tx := hA_tx.kept (ho _ (y_ne hY_tx hY_this rfl))
        replace hs := hs
        replace hsi_at := hs
        refine lv_goto hx hb sc_d124 (tgt := 62) (by decide) ?_
        exact ih _ _ _ _ _ _ hI hY_this hY_tx hs_tx hsi_at hsi_typed hA_tx (lv_sub hl [0, 1] rfl) (by first | assumption | omega) (by first | assumption | omega) (by omega)
      · have q84_ : (6 : Int32).toInt < z81.toInt := Int.not_le.mp fun q => q84 (x_le32.mpr q)
        refine lv_lconst hx hb sc_d87 (v := 0) (by decide) ?_
        have el0 : (0 : Int64).toInt = 0 := by decide
        refine lv_goto hx hb sc_d88 (tgt := 113) (by decide) ?_
        refine lv_lstore_n hx hb sc_d113 rfl hl (by decide) (lv' := [(1, .long (0 : Int64)), (0, .ref this)]) rfl fun ls hl => ?_
        refine lv_aload_n hx hb sc_d114 rfl (lv_at hl 1 rfl) ?_
        refine lv_dup hx hb sc_d115 rfl ?_
        refine y_getf X (fl196 X.2.2.2.2.1) hI.1 hY_this rfl hsi_at sc_d116 ?_
        refine lv_iconst hx hb sc_d119 (v := 1) (by decide) ?_
        have ec1 : (1 : Int32).toInt = 1 := by decide
        refine lv_iadd hx hb sc_d120 ?_
        generalize hg_z120 : at_ + (1 : Int32) = z120
        have h_z120 : z120.toInt = at_.toInt + 1 := by rw [← hg_z120]; have := y_add (x := at_) (y := (1 : Int32)) (by rw [ec1]; omega) (by rw [ec1]; omega); rw [ec1] at this; exact this
        refine y_putf X (fw_sc_211 X.2.2.2.2.1) hY0 hI hY_this rfl rfl ⟨_, rfl, by show (0 : Int) ≤ _; omega, by show _ ≤ (240 : Int); omega⟩ (by decide +kernel) sc_d121 fun H sl hI ho hs hk => ?_
        replace hs_tx := hk _ _ (by decide +kernel) (by decide) hs_tx
        replace hsi_typed := hk _ _ (by decide +kernel) (by decide) hsi_typed
        replace hs_this_start := hk _ _ (by decide +kernel) (by decide) hs_this_start
        replace hA_tx := hA_tx.kept (ho _ (y_ne hY_tx hY_this rfl))
        replace hs := hs
        replace hsi_at := hs
        refine lv_goto hx hb sc_d124 (tgt := 62) (by decide) ?_
        exact ih _ _ _ _ _ _ hI hY_this hY_tx hs_tx hsi_at hsi_typed hA_tx (lv_sub hl [0, 1] rfl) (by first | assumption | omega) (by first | assumption | omega) (by omega)
theorem sc_L170 {p : Program} {l : Launch} {e : Env} {s : State} {m : MethodId} {below : List Frame} {meth : Method} {c : Code} {D : va_G} {U : State} {Y0 : xY} {av : List Value} (B : y_B vwCl x_Tb x_Nb xMsc p s m meth c D U Y0 av) {this tx : Nat} {ty at0 : Int32} {ft : Nat → Int32} (hty : 0 ≤ ty.toInt ∧ ty.toInt ≤ 240) (fin : ∀ {H : Heap} {Y : xY} {at1 tk1 : Int32}, x_sl D 12 11 this H = some (.int at1) → x_sl D 12 13 this H = some (.int tk1) → at0.toInt ≤ at1.toInt → at1.toInt ≤ ty.toInt → (¬ tk1 = 0 → at0.toInt < at1.toInt) → z_Pscans D av Y0 s.heap none Y H)  :
    ∀ (n : Nat), ∀ (H : Heap) (Y : xY) (locs : List Loc) (ls : Array Slot) (at_ : Int32), x_I D x_G x_Zs U (x_efs xMsc) Y0 s.heap Y H locs → Y this = some 17 → Y tx = some 52 → x_sl D 12 9 this H = some (.ref tx) → x_sl D 12 11 this H = some (.int at_) → x_sl D 12 10 this H = some (.int ty) → y_A tx 240 H ft → lv_has ls xMsc.2.2.1 [(0, .ref this)] → (at0.toInt ≤ at_.toInt ∧ at_.toInt ≤ ty.toInt ∧ (at0.toInt < at_.toInt ∨ (at_.toInt < ty.toInt ∧ 48 ≤ (ft at_.toInt.toNat).toInt ∧ (ft at_.toInt.toNat).toInt ≤ 57))) → (0 ≤ at_.toInt) → (241 - at_.toInt).toNat < n → W p l e (x_rm xMsc) s m av.toArray below meth c H locs 0 0 (y_QQ below D x_G x_Zs U xMsc z_Pscans av Y0 s) (F0 m 170 ls []) := by
  have X := B.1
  have hx := X.1
  have hb := X.2.1
  have hY0 := B.2.2.2.2.1
  intro n
  induction n with
  | zero => intro _ _ _ _ _ _ _ _ _ _ _ _ _ _ _ h; exact absurd h (Nat.not_lt_zero _)
  | succ n ih =>
    intro H Y locs ls at_  hI hY_this hY_tx hs_tx hsi_at hsi_typed hA_tx hl hat hat0 hn
    refine lv_aload_n hx hb sc_d170 rfl (lv_at hl 0 rfl) ?_
    refine lv_bipush hx hb sc_d171 (v := 48) (by decide) ?_
    have ec48 : (48 : Int32).toInt = 48 := by decide
    refine lv_bipush hx hb sc_d173 (v := 57) (by decide) ?_
    have ec57 : (57 : Int32).toInt = 57 := by decide
    refine y_call (z := (0, 189, 3, some 17, xM178)) (av := [.ref this, .int (48 : Int32), .int (57 : Int32)]) (rest := []) (y_cokV (n := 2) (ci := 12) X ym_isAt rfl rfl rfl (x_cons (x_bw74 15 rfl rfl) (x_cons (x_bw75 1 rfl rfl) (x_cons (x_at 46 (by decide +kernel) rfl) (x_cons (x_bw0 9 rfl rfl) x_nilm)))) (x_bw75 2 rfl rfl) (by decide +kernel) ⟨Nat.le_of_ble_eq_true rfl, Nat.le_of_ble_eq_true rfl⟩) hY0 hI rfl sc_d175 hl.1 (Nat.le_of_ble_eq_true rfl) (Nat.le_of_ble_eq_true rfl) (Nat.le_of_ble_eq_true rfl) (y_cons (y_cref hY_this rfl) (y_cons ⟨_, rfl, x_i32 _⟩ (y_cons ⟨_, rfl, x_i32 _⟩ y_nil))) rfl (y_recv rfl hY_this) trivial (y_sub_ef rfl) fun v Yn o Hn L ho hr ha hIn hx_ hE hP => ?_
    have hPi := hP _ _ _ _ _ _ _ rfl hsi_at hsi_typed hs_tx hA_tx
    replace hs_tx := y_Efld hE hY_this rfl (by decide) (by decide) hs_tx
    replace hsi_at := y_Efld hE hY_this rfl (by decide) (by decide) hsi_at
    replace hsi_typed := y_Efld hE hY_this rfl (by decide) (by decide) hsi_typed
    replace hA_tx := hA_tx.kept (y_Earr hE hY_tx rfl (by decide))
    replace hY_this := y_ext hx_ hI.1 hY_this
    replace hY_tx := y_ext hx_ hI.1 hY_tx
    obtain ⟨r175, rfl, hin_r175, hout_r175⟩ := hPi
    clear ho hr ha hE hP hI hx_
    rename x_I _ _ _ _ _ _ _ _ _ _ => hI
    have ec0 : (0 : Int32).toInt = 0 := by decide
    refine lv_if_eq hx hb sc_d178 (tgt := 238) (by decide) (fun q178 => ?_) (fun q178 => ?_)
    · have q178_ : r175.toInt = (0 : Int32).toInt := by rw [q178]
      have hq_238 := hout_r175 q178
      refine lv_aload_n hx hb sc_d238 rfl (lv_at hl 0 rfl) ?_
      refine lv_aload_n hx hb sc_d239 rfl (lv_at hl 0 rfl) ?_
      refine y_getf X (fl196 X.2.2.2.2.1) hI.1 hY_this rfl hsi_at sc_d240 ?_
      refine lv_aload_n hx hb sc_d243 rfl (lv_at hl 0 rfl) ?_
      obtain ⟨start_244, hs_this_start, h_start_244⟩ := y_fldI (k := 12) hI.1 hY_this rfl rfl
      refine y_getf X (fl_sc_209 X.2.2.2.2.1) hI.1 hY_this rfl hs_this_start sc_d244 ?_
      refine lv_isub hx hb sc_d247 ?_
      generalize hg_z247 : at_ - start_244 = z247
      refine lv_iconst hx hb sc_d248 (v := 2) (by decide) ?_
      have ec2 : (2 : Int32).toInt = 2 := by decide
      refine lv_icmp_le hx hb sc_d249 (tgt := 256) (by decide) (fun q249 => ?_) (fun q249 => ?_)
      · have q249_ : z247.toInt ≤ (2 : Int32).toInt := x_le32.mp q249
        refine lv_iconst hx hb sc_d256 (v := 2) (by decide) ?_
        refine y_putf X (fw_sc_210 X.2.2.2.2.1) hY0 hI hY_this rfl rfl ⟨_, rfl, x_i32 _⟩ (by decide +kernel) sc_d257 fun H sl hI ho hs hk => ?_
        replace hs_tx := hk _ _ (by decide +kernel) (by decide) hs_tx
        replace hsi_at := hk _ _ (by decide +kernel) (by decide) hsi_at
        replace hsi_typed := hk _ _ (by decide +kernel) (by decide) hsi_typed
        replace hs_this_start := hk _ _ (by decide +kernel) (by decide) hs_this_start
        replace hA_tx := hA_tx.kept (ho _ (y_ne hY_tx hY_this rfl))
        replace hs := hs
        have hs257 := hs
        exact y_return B hI rfl rfl List.mem_cons_self rfl (x_cs.mono B.2.2.2.2.2 (y_mon B hI)) (fin hsi_at hs257 (by omega) (by omega) (fun q => by first | exact absurd rfl q | omega)) (Nat.le_refl _) (Nat.le_refl _) sc_d260
      · have q249_ : (2 : Int32).toInt < z247.toInt := Int.not_le.mp fun q => q249 (x_le32.mpr q)
        refine lv_iconst hx hb sc_d252 (v := 1) (by decide) ?_
        have ec1 : (1 : Int32).toInt = 1 := by decide
        refine lv_goto hx hb sc_d253 (tgt := 257) (by decide) ?_
        refine y_putf X (fw_sc_210 X.2.2.2.2.1) hY0 hI hY_this rfl rfl ⟨_, rfl, x_i32 _⟩ (by decide +kernel) sc_d257 fun H sl hI ho hs hk => ?_
        replace hs_tx := hk _ _ (by decide +kernel) (by decide) hs_tx
        replace hsi_at := hk _ _ (by decide +kernel) (by decide) hsi_at
        replace hsi_typed := hk _ _ (by decide +kernel) (by decide) hsi_typed
        replace hs_this_start := hk _ _ (by decide +kernel) (by decide) hs_this_start
        replace hA_tx := hA_tx.kept (ho _ (y_ne hY_tx hY_this rfl))
        replace hs := hs
        have hs257 := hs
        exact y_return B hI rfl rfl List.mem_cons_self rfl (x_cs.mono B.2.2.2.2.2 (y_mon B hI)) (fin hsi_at hs257 (by omega) (by omega) (fun q => by first | exact absurd rfl q | omega)) (Nat.le_refl _) (Nat.le_refl _) sc_d260
    · have q178_ : ¬ r175.toInt = (0 : Int32).toInt := fun q => q178 (Int32.toInt_inj.mp q)
      have hq_181 := hin_r175 q178
      refine lv_aload_n hx hb sc_d181 rfl (lv_at hl 0 rfl) ?_
      refine lv_aload_n hx hb sc_d182 rfl (lv_at hl 0 rfl) ?_
      refine y_getf X (fl196 X.2.2.2.2.1) hI.1 hY_this rfl hsi_at sc_d183 ?_
      refine lv_aload_n hx hb sc_d186 rfl (lv_at hl 0 rfl) ?_
      obtain ⟨start_187, hs_this_start, h_start_187⟩ := y_fldI (k := 12) hI.1 hY_this rfl rfl
      refine y_getf X (fl_sc_209 X.2.2.2.2.1) hI.1 hY_this rfl hs_this_start sc_d187 ?_
      refine lv_isub hx hb sc_d190 ?_
      generalize hg_z190 : at_ - start_187 = z190
      refine lv_iconst hx hb sc_d191 (v := 2) (by decide) ?_
      have ec2 : (2 : Int32).toInt = 2 := by decide
      refine lv_icmp_ge hx hb sc_d192 (tgt := 218) (by decide) (fun q192 => ?_) (fun q192 => ?_)
      · have q192_ : (2 : Int32).toInt ≤ z190.toInt := x_le32.mp q192
        refine lv_aload_n hx hb sc_d218 rfl (lv_at hl 0 rfl) ?_
        obtain ⟨value_219, hs_this_value, h_value_219⟩ := y_fldI (k := 14) hI.1 hY_this rfl rfl
        refine y_getf X (fl_sc_212 X.2.2.2.2.1) hI.1 hY_this rfl hs_this_value sc_d219 ?_
        refine y_putf X (fw_sc_213 X.2.2.2.2.1) hY0 hI hY_this rfl rfl ⟨_, rfl, x_i32 _⟩ (by decide +kernel) sc_d222 fun H sl hI ho hs hk => ?_
        replace hs_tx := hk _ _ (by decide +kernel) (by decide) hs_tx
        replace hsi_at := hk _ _ (by decide +kernel) (by decide) hsi_at
        replace hsi_typed := hk _ _ (by decide +kernel) (by decide) hsi_typed
        replace hs_this_start := hk _ _ (by decide +kernel) (by decide) hs_this_start
        replace hA_tx := hA_tx.kept (ho _ (y_ne hY_tx hY_this rfl))
        replace hs := hs
        replace hs_this_value := hs
        refine lv_aload_n hx hb sc_d225 rfl (lv_at hl 0 rfl) ?_
        refine lv_dup hx hb sc_d226 rfl ?_
        refine y_getf X (fl196 X.2.2.2.2.1) hI.1 hY_this rfl hsi_at sc_d227 ?_
        refine lv_iconst hx hb sc_d230 (v := 1) (by decide) ?_
        have ec1 : (1 : Int32).toInt = 1 := by decide
        refine lv_iadd hx hb sc_d231 ?_
        generalize hg_z231 : at_ + (1 : Int32) = z231
        have h_z231 : z231.toInt = at_.toInt + 1 := by rw [← hg_z231]; have := y_add (x := at_) (y := (1 : Int32)) (by rw [ec1]; omega) (by rw [ec1]; omega); rw [ec1] at this; exact this
        refine y_putf X (fw_sc_211 X.2.2.2.2.1) hY0 hI hY_this rfl rfl ⟨_, rfl, by show (0 : Int) ≤ _; omega, by show _ ≤ (240 : Int); omega⟩ (by decide +kernel) sc_d232 fun H sl hI ho hs hk => ?_
        replace hs_tx := hk _ _ (by decide +kernel) (by decide) hs_tx
        replace hsi_typed := hk _ _ (by decide +kernel) (by decide) hsi_typed
        replace hs_this_start := hk _ _ (by decide +kernel) (by decide) hs_this_start
        replace hs_this_value := hk _ _ (by decide +kernel) (by decide) hs_this_value
        replace hA_tx := hA_tx.kept (ho _ (y_ne hY_tx hY_this rfl))
        replace hs := hs
        replace hsi_at := hs
        refine lv_goto hx hb sc_d235 (tgt := 170) (by decide) ?_
        exact ih _ _ _ _ _ hI hY_this hY_tx hs_tx hsi_at hsi_typed hA_tx (lv_sub hl [0] rfl) (by first | assumption | omega) (by first | assumption | omega) (by omega)
      · have q192_ : z190.toInt < (2 : Int32).toInt := Int.not_le.mp fun q => q192 (x_le32.mpr q)
        refine lv_bipush hx hb sc_d195 (v := 10) (by decide) ?_
        have ec10 : (10 : Int32).toInt = 10 := by decide
        refine lv_aload_n hx hb sc_d197 rfl (lv_at hl 0 rfl) ?_
        obtain ⟨value_198, hs_this_value, h_value_198⟩ := y_fldI (k := 14) hI.1 hY_this rfl rfl
        refine y_getf X (fl_sc_212 X.2.2.2.2.1) hI.1 hY_this rfl hs_this_value sc_d198 ?_
        refine lv_imul hx hb sc_d201 ?_
        generalize hg_z201 : (10 : Int32) * value_198 = z201
        refine lv_aload_n hx hb sc_d202 rfl (lv_at hl 0 rfl) ?_
        refine y_getf X (fl195 X.2.2.2.2.1) hI.1 hY_this rfl hs_tx sc_d203 ?_
        refine lv_aload_n hx hb sc_d206 rfl (lv_at hl 0 rfl) ?_
        refine y_getf X (fl196 X.2.2.2.2.1) hI.1 hY_this rfl hsi_at sc_d207 ?_
        refine y_iald X hI.1 hY_tx rfl hA_tx (by omega) (by show _ < (240 : Int); omega) sc_d210 ?_
        obtain ⟨e210, hg_e210⟩ : ∃ e210 : Int32, ft at_.toInt.toNat = e210 := ⟨_, rfl⟩
        rw [hg_e210]
        refine lv_iadd hx hb sc_d211 ?_
        generalize hg_z211 : z201 + e210 = z211
        refine lv_bipush hx hb sc_d212 (v := 48) (by decide) ?_
        refine lv_isub hx hb sc_d214 ?_
        generalize hg_z214 : z211 - (48 : Int32) = z214
        refine lv_goto hx hb sc_d215 (tgt := 222) (by decide) ?_
        refine y_putf X (fw_sc_213 X.2.2.2.2.1) hY0 hI hY_this rfl rfl ⟨_, rfl, x_i32 _⟩ (by decide +kernel) sc_d222 fun H sl hI ho hs hk => ?_
        replace hs_tx := hk _ _ (by decide +kernel) (by decide) hs_tx
        replace hsi_at := hk _ _ (by decide +kernel) (by decide) hsi_at
        replace hsi_typed := hk _ _ (by decide +kernel) (by decide) hsi_typed
        replace hs_this_start := hk _ _ (by decide +kernel) (by decide) hs_this_start
        replace hA_tx := hA_tx.kept (ho _ (y_ne hY_tx hY_this rfl))
        replace hs := hs
        replace hs_this_value := hs
        refine lv_aload_n hx hb sc_d225 rfl (lv_at hl 0 rfl) ?_
        refine lv_dup hx hb sc_d226 rfl ?_
        refine y_getf X (fl196 X.2.2.2.2.1) hI.1 hY_this rfl hsi_at sc_d227 ?_
        refine lv_iconst hx hb sc_d230 (v := 1) (by decide) ?_
        have ec1 : (1 : Int32).toInt = 1 := by decide
        refine lv_iadd hx hb sc_d231 ?_
        generalize hg_z231 : at_ + (1 : Int32) = z231
        have h_z231 : z231.toInt = at_.toInt + 1 := by rw [← hg_z231]; have := y_add (x := at_) (y := (1 : Int32)) (by rw [ec1]; omega) (by rw [ec1]; omega); rw [ec1] at this; exact this
        refine y_putf X (fw_sc_211 X.2.2.2.2.1) hY0 hI hY_this rfl rfl ⟨_, rfl, by show (0 : Int) ≤ _; omega, by show _ ≤ (240 : Int); omega⟩ (by decide +kernel) sc_d232 fun H sl hI ho hs hk => ?_
        replace hs_tx := hk _ _ (by decide +kernel) (by decide) hs_tx
        replace hsi_typed := hk _ _ (by decide +kernel) (by decide) hsi_typed
        replace hs_this_start := hk _ _ (by decide +kernel) (by decide) hs_this_start
        replace hs_this_value := hk _ _ (by decide +kernel) (by decide) hs_this_value
        replace hA_tx := hA_tx.kept (ho _ (y_ne hY_tx hY_this rfl))
        replace hs := hs
        replace hsi_at := hs
        refine lv_goto hx hb sc_d235 (tgt := 170) (by decide) ?_
        exact ih _ _ _ _ _ hI hY_this hY_tx hs_tx hsi_at hsi_typed hA_tx (lv_sub hl [0] rfl) (by first | assumption | omega) (by first | assumption | omega) (by omega)
theorem sc_L0 {p : Program} {l : Launch} {e : Env} {s : State} {m : MethodId} {below : List Frame} {meth : Method} {c : Code} {D : va_G} {U : State} {Y0 : xY} {av : List Value} (B : y_B vwCl x_Tb x_Nb xMsc p s m meth c D U Y0 av) {this tx : Nat} {ty at0 : Int32} {ft : Nat → Int32} (hty : 0 ≤ ty.toInt ∧ ty.toInt ≤ 240) (fin : ∀ {H : Heap} {Y : xY} {at1 tk1 : Int32}, x_sl D 12 11 this H = some (.int at1) → x_sl D 12 13 this H = some (.int tk1) → at0.toInt ≤ at1.toInt → at1.toInt ≤ ty.toInt → (¬ tk1 = 0 → at0.toInt < at1.toInt) → z_Pscans D av Y0 s.heap none Y H)  :
    ∀ (n : Nat), ∀ (H : Heap) (Y : xY) (locs : List Loc) (ls : Array Slot) (at_ : Int32), x_I D x_G x_Zs U (x_efs xMsc) Y0 s.heap Y H locs → Y this = some 17 → Y tx = some 52 → x_sl D 12 9 this H = some (.ref tx) → x_sl D 12 11 this H = some (.int at_) → x_sl D 12 10 this H = some (.int ty) → y_A tx 240 H ft → lv_has ls xMsc.2.2.1 [(0, .ref this)] → (at0.toInt ≤ at_.toInt ∧ at_.toInt ≤ ty.toInt) → (0 ≤ at_.toInt) → (241 - at_.toInt).toNat < n → W p l e (x_rm xMsc) s m av.toArray below meth c H locs 0 0 (y_QQ below D x_G x_Zs U xMsc z_Pscans av Y0 s) (F0 m 0 ls []) := by
  have X := B.1
  have hx := X.1
  have hb := X.2.1
  have hY0 := B.2.2.2.2.1
  intro n
  induction n with
  | zero => intro _ _ _ _ _ _ _ _ _ _ _ _ _ _ _ h; exact absurd h (Nat.not_lt_zero _)
  | succ n ih =>
    intro H Y locs ls at_  hI hY_this hY_tx hs_tx hsi_at hsi_typed hA_tx hl hat hat0 hn
    refine lv_aload_n hx hb sc_d0 rfl (lv_at hl 0 rfl) ?_
    refine lv_bipush hx hb sc_d1 (v := 32) (by decide) ?_
    have ec32 : (32 : Int32).toInt = 32 := by decide
    refine lv_bipush hx hb sc_d3 (v := 32) (by decide) ?_
    refine y_call (z := (0, 189, 3, some 17, xM178)) (av := [.ref this, .int (32 : Int32), .int (32 : Int32)]) (rest := []) (y_cokV (n := 2) (ci := 12) X ym_isAt rfl rfl rfl (x_cons (x_bw74 15 rfl rfl) (x_cons (x_bw75 1 rfl rfl) (x_cons (x_at 46 (by decide +kernel) rfl) (x_cons (x_bw0 9 rfl rfl) x_nilm)))) (x_bw75 2 rfl rfl) (by decide +kernel) ⟨Nat.le_of_ble_eq_true rfl, Nat.le_of_ble_eq_true rfl⟩) hY0 hI rfl sc_d5 hl.1 (Nat.le_of_ble_eq_true rfl) (Nat.le_of_ble_eq_true rfl) (Nat.le_of_ble_eq_true rfl) (y_cons (y_cref hY_this rfl) (y_cons ⟨_, rfl, x_i32 _⟩ (y_cons ⟨_, rfl, x_i32 _⟩ y_nil))) rfl (y_recv rfl hY_this) trivial (y_sub_ef rfl) fun v Yn o Hn L ho hr ha hIn hx_ hE hP => ?_
    have hPi := hP _ _ _ _ _ _ _ rfl hsi_at hsi_typed hs_tx hA_tx
    replace hs_tx := y_Efld hE hY_this rfl (by decide) (by decide) hs_tx
    replace hsi_at := y_Efld hE hY_this rfl (by decide) (by decide) hsi_at
    replace hsi_typed := y_Efld hE hY_this rfl (by decide) (by decide) hsi_typed
    replace hA_tx := hA_tx.kept (y_Earr hE hY_tx rfl (by decide))
    replace hY_this := y_ext hx_ hI.1 hY_this
    replace hY_tx := y_ext hx_ hI.1 hY_tx
    obtain ⟨r5, rfl, hin_r5, hout_r5⟩ := hPi
    clear ho hr ha hE hP hI hx_
    rename x_I _ _ _ _ _ _ _ _ _ _ => hI
    have ec0 : (0 : Int32).toInt = 0 := by decide
    refine lv_if_eq hx hb sc_d8 (tgt := 24) (by decide) (fun q8 => ?_) (fun q8 => ?_)
    · have q8_ : r5.toInt = (0 : Int32).toInt := by rw [q8]
      refine lv_aload_n hx hb sc_d24 rfl (lv_at hl 0 rfl) ?_
      refine lv_aload_n hx hb sc_d25 rfl (lv_at hl 0 rfl) ?_
      refine y_getf X (fl196 X.2.2.2.2.1) hI.1 hY_this rfl hsi_at sc_d26 ?_
      refine y_putf X (fw_sc_214 X.2.2.2.2.1) hY0 hI hY_this rfl rfl ⟨_, rfl, x_i32 _⟩ (by decide +kernel) sc_d29 fun H sl hI ho hs hk => ?_
      replace hs_tx := hk _ _ (by decide +kernel) (by decide) hs_tx
      replace hsi_at := hk _ _ (by decide +kernel) (by decide) hsi_at
      replace hsi_typed := hk _ _ (by decide +kernel) (by decide) hsi_typed
      replace hA_tx := hA_tx.kept (ho _ (y_ne hY_tx hY_this rfl))
      replace hs := hs
      have hs29 := hs
      refine lv_aload_n hx hb sc_d32 rfl (lv_at hl 0 rfl) ?_
      refine y_getf X (fl196 X.2.2.2.2.1) hI.1 hY_this rfl hsi_at sc_d33 ?_
      refine lv_aload_n hx hb sc_d36 rfl (lv_at hl 0 rfl) ?_
      refine y_getf X (fl193 X.2.2.2.2.1) hI.1 hY_this rfl hsi_typed sc_d37 ?_
      refine lv_icmp_ne hx hb sc_d40 (tgt := 49) (by decide) (fun q40 => ?_) (fun q40 => ?_)
      · have q40_ : ¬ at_.toInt = ty.toInt := fun q => q40 (Int32.toInt_inj.mp q)
        refine lv_aload_n hx hb sc_d49 rfl (lv_at hl 0 rfl) ?_
        refine lv_bipush hx hb sc_d50 (v := 97) (by decide) ?_
        have ec97 : (97 : Int32).toInt = 97 := by decide
        refine lv_bipush hx hb sc_d52 (v := 122) (by decide) ?_
        have ec122 : (122 : Int32).toInt = 122 := by decide
        refine y_call (z := (0, 189, 3, some 17, xM178)) (av := [.ref this, .int (97 : Int32), .int (122 : Int32)]) (rest := []) (y_cokV (n := 2) (ci := 12) X ym_isAt rfl rfl rfl (x_cons (x_bw74 15 rfl rfl) (x_cons (x_bw75 1 rfl rfl) (x_cons (x_at 46 (by decide +kernel) rfl) (x_cons (x_bw0 9 rfl rfl) x_nilm)))) (x_bw75 2 rfl rfl) (by decide +kernel) ⟨Nat.le_of_ble_eq_true rfl, Nat.le_of_ble_eq_true rfl⟩) hY0 hI rfl sc_d54 hl.1 (Nat.le_of_ble_eq_true rfl) (Nat.le_of_ble_eq_true rfl) (Nat.le_of_ble_eq_true rfl) (y_cons (y_cref hY_this rfl) (y_cons ⟨_, rfl, x_i32 _⟩ (y_cons ⟨_, rfl, x_i32 _⟩ y_nil))) rfl (y_recv rfl hY_this) trivial (y_sub_ef rfl) fun v Yn o Hn L ho hr ha hIn hx_ hE hP => ?_
        have hPi := hP _ _ _ _ _ _ _ rfl hsi_at hsi_typed hs_tx hA_tx
        replace hs_tx := y_Efld hE hY_this rfl (by decide) (by decide) hs_tx
        replace hsi_at := y_Efld hE hY_this rfl (by decide) (by decide) hsi_at
        replace hsi_typed := y_Efld hE hY_this rfl (by decide) (by decide) hsi_typed
        replace hs29 := y_Efld hE hY_this rfl (by decide) (by decide) hs29
        replace hA_tx := hA_tx.kept (y_Earr hE hY_tx rfl (by decide))
        replace hY_this := y_ext hx_ hI.1 hY_this
        replace hY_tx := y_ext hx_ hI.1 hY_tx
        obtain ⟨r54, rfl, hin_r54, hout_r54⟩ := hPi
        clear ho hr ha hE hP hI hx_
        rename x_I _ _ _ _ _ _ _ _ _ _ => hI
        refine lv_if_eq hx hb sc_d57 (tgt := 154) (by decide) (fun q57 => ?_) (fun q57 => ?_)
        · have q57_ : r54.toInt = (0 : Int32).toInt := by rw [q57]
          refine lv_aload_n hx hb sc_d154 rfl (lv_at hl 0 rfl) ?_
          refine lv_bipush hx hb sc_d155 (v := 48) (by decide) ?_
          have ec48 : (48 : Int32).toInt = 48 := by decide
          refine lv_bipush hx hb sc_d157 (v := 57) (by decide) ?_
          have ec57 : (57 : Int32).toInt = 57 := by decide
          refine y_call (z := (0, 189, 3, some 17, xM178)) (av := [.ref this, .int (48 : Int32), .int (57 : Int32)]) (rest := []) (y_cokV (n := 2) (ci := 12) X ym_isAt rfl rfl rfl (x_cons (x_bw74 15 rfl rfl) (x_cons (x_bw75 1 rfl rfl) (x_cons (x_at 46 (by decide +kernel) rfl) (x_cons (x_bw0 9 rfl rfl) x_nilm)))) (x_bw75 2 rfl rfl) (by decide +kernel) ⟨Nat.le_of_ble_eq_true rfl, Nat.le_of_ble_eq_true rfl⟩) hY0 hI rfl sc_d159 hl.1 (Nat.le_of_ble_eq_true rfl) (Nat.le_of_ble_eq_true rfl) (Nat.le_of_ble_eq_true rfl) (y_cons (y_cref hY_this rfl) (y_cons ⟨_, rfl, x_i32 _⟩ (y_cons ⟨_, rfl, x_i32 _⟩ y_nil))) rfl (y_recv rfl hY_this) trivial (y_sub_ef rfl) fun v Yn o Hn L ho hr ha hIn hx_ hE hP => ?_
          have hPi := hP _ _ _ _ _ _ _ rfl hsi_at hsi_typed hs_tx hA_tx
          replace hs_tx := y_Efld hE hY_this rfl (by decide) (by decide) hs_tx
          replace hsi_at := y_Efld hE hY_this rfl (by decide) (by decide) hsi_at
          replace hsi_typed := y_Efld hE hY_this rfl (by decide) (by decide) hsi_typed
          replace hs29 := y_Efld hE hY_this rfl (by decide) (by decide) hs29
          replace hA_tx := hA_tx.kept (y_Earr hE hY_tx rfl (by decide))
          replace hY_this := y_ext hx_ hI.1 hY_this
          replace hY_tx := y_ext hx_ hI.1 hY_tx
          obtain ⟨r159, rfl, hin_r159, hout_r159⟩ := hPi
          clear ho hr ha hE hP hI hx_
          rename x_I _ _ _ _ _ _ _ _ _ _ => hI
          refine lv_if_eq hx hb sc_d162 (tgt := 261) (by decide) (fun q162 => ?_) (fun q162 => ?_)
          · have q162_ : r159.toInt = (0 : Int32).toInt := by rw [q162]
            refine lv_aload_n hx hb sc_d261 rfl (lv_at hl 0 rfl) ?_
            refine lv_aload_n hx hb sc_d262 rfl (lv_at hl 0 rfl) ?_
            refine lv_bipush hx hb sc_d263 (v := 59) (by decide) ?_
            have ec59 : (59 : Int32).toInt = 59 := by decide
            refine lv_bipush hx hb sc_d265 (v := 59) (by decide) ?_
            refine y_call (z := (0, 189, 3, some 17, xM178)) (av := [.ref this, .int (59 : Int32), .int (59 : Int32)]) (rest := [.ref this]) (y_cokV (n := 2) (ci := 12) X ym_isAt rfl rfl rfl (x_cons (x_bw74 15 rfl rfl) (x_cons (x_bw75 1 rfl rfl) (x_cons (x_at 46 (by decide +kernel) rfl) (x_cons (x_bw0 9 rfl rfl) x_nilm)))) (x_bw75 2 rfl rfl) (by decide +kernel) ⟨Nat.le_of_ble_eq_true rfl, Nat.le_of_ble_eq_true rfl⟩) hY0 hI rfl sc_d267 hl.1 (Nat.le_of_ble_eq_true rfl) (Nat.le_of_ble_eq_true rfl) (Nat.le_of_ble_eq_true rfl) (y_cons (y_cref hY_this rfl) (y_cons ⟨_, rfl, x_i32 _⟩ (y_cons ⟨_, rfl, x_i32 _⟩ y_nil))) rfl (y_recv rfl hY_this) trivial (y_sub_ef rfl) fun v Yn o Hn L ho hr ha hIn hx_ hE hP => ?_
            have hPi := hP _ _ _ _ _ _ _ rfl hsi_at hsi_typed hs_tx hA_tx
            replace hs_tx := y_Efld hE hY_this rfl (by decide) (by decide) hs_tx
            replace hsi_at := y_Efld hE hY_this rfl (by decide) (by decide) hsi_at
            replace hsi_typed := y_Efld hE hY_this rfl (by decide) (by decide) hsi_typed
            replace hs29 := y_Efld hE hY_this rfl (by decide) (by decide) hs29
            replace hA_tx := hA_tx.kept (y_Earr hE hY_tx rfl (by decide))
            replace hY_this := y_ext hx_ hI.1 hY_this
            replace hY_tx := y_ext hx_ hI.1 hY_tx
            obtain ⟨r267, rfl, hin_r267, hout_r267⟩ := hPi
            clear ho hr ha hE hP hI hx_
            rename x_I _ _ _ _ _ _ _ _ _ _ => hI
            refine lv_if_eq hx hb sc_d270 (tgt := 277) (by decide) (fun q270 => ?_) (fun q270 => ?_)
            · have q270_ : r267.toInt = (0 : Int32).toInt := by rw [q270]
              refine lv_iconst hx hb sc_d277 (v := 1) (by decide) ?_
              have ec1 : (1 : Int32).toInt = 1 := by decide
              refine y_putf X (fw_sc_210 X.2.2.2.2.1) hY0 hI hY_this rfl rfl ⟨_, rfl, x_i32 _⟩ (by decide +kernel) sc_d278 fun H sl hI ho hs hk => ?_
              replace hs_tx := hk _ _ (by decide +kernel) (by decide) hs_tx
              replace hsi_at := hk _ _ (by decide +kernel) (by decide) hsi_at
              replace hsi_typed := hk _ _ (by decide +kernel) (by decide) hsi_typed
              replace hs29 := hk _ _ (by decide +kernel) (by decide) hs29
              replace hA_tx := hA_tx.kept (ho _ (y_ne hY_tx hY_this rfl))
              replace hs := hs
              have hs278 := hs
              refine lv_aload_n hx hb sc_d281 rfl (lv_at hl 0 rfl) ?_
              refine lv_dup hx hb sc_d282 rfl ?_
              refine y_getf X (fl196 X.2.2.2.2.1) hI.1 hY_this rfl hsi_at sc_d283 ?_
              refine lv_iconst hx hb sc_d286 (v := 1) (by decide) ?_
              refine lv_iadd hx hb sc_d287 ?_
              generalize hg_z287 : at_ + (1 : Int32) = z287
              have h_z287 : z287.toInt = at_.toInt + 1 := by rw [← hg_z287]; have := y_add (x := at_) (y := (1 : Int32)) (by rw [ec1]; omega) (by rw [ec1]; omega); rw [ec1] at this; exact this
              refine y_putf X (fw_sc_211 X.2.2.2.2.1) hY0 hI hY_this rfl rfl ⟨_, rfl, by show (0 : Int) ≤ _; omega, by show _ ≤ (240 : Int); omega⟩ (by decide +kernel) sc_d288 fun H sl hI ho hs hk => ?_
              replace hs_tx := hk _ _ (by decide +kernel) (by decide) hs_tx
              replace hsi_typed := hk _ _ (by decide +kernel) (by decide) hsi_typed
              replace hs29 := hk _ _ (by decide +kernel) (by decide) hs29
              replace hs278 := hk _ _ (by decide +kernel) (by decide) hs278
              replace hA_tx := hA_tx.kept (ho _ (y_ne hY_tx hY_this rfl))
              replace hs := hs
              replace hsi_at := hs
              exact y_return B hI rfl rfl List.mem_cons_self rfl (x_cs.mono B.2.2.2.2.2 (y_mon B hI)) (fin hsi_at hs278 (by omega) (by omega) (fun q => by first | exact absurd rfl q | omega)) (Nat.le_refl _) (Nat.le_refl _) sc_d291
            · have q270_ : ¬ r267.toInt = (0 : Int32).toInt := fun q => q270 (Int32.toInt_inj.mp q)
              refine lv_iconst hx hb sc_d273 (v := 3) (by decide) ?_
              have ec3 : (3 : Int32).toInt = 3 := by decide
              refine lv_goto hx hb sc_d274 (tgt := 278) (by decide) ?_
              refine y_putf X (fw_sc_210 X.2.2.2.2.1) hY0 hI hY_this rfl rfl ⟨_, rfl, x_i32 _⟩ (by decide +kernel) sc_d278 fun H sl hI ho hs hk => ?_
              replace hs_tx := hk _ _ (by decide +kernel) (by decide) hs_tx
              replace hsi_at := hk _ _ (by decide +kernel) (by decide) hsi_at
              replace hsi_typed := hk _ _ (by decide +kernel) (by decide) hsi_typed
              replace hs29 := hk _ _ (by decide +kernel) (by decide) hs29
              replace hA_tx := hA_tx.kept (ho _ (y_ne hY_tx hY_this rfl))
              replace hs := hs
              have hs278 := hs
              refine lv_aload_n hx hb sc_d281 rfl (lv_at hl 0 rfl) ?_
              refine lv_dup hx hb sc_d282 rfl ?_
              refine y_getf X (fl196 X.2.2.2.2.1) hI.1 hY_this rfl hsi_at sc_d283 ?_
              refine lv_iconst hx hb sc_d286 (v := 1) (by decide) ?_
              have ec1 : (1 : Int32).toInt = 1 := by decide
              refine lv_iadd hx hb sc_d287 ?_
              generalize hg_z287 : at_ + (1 : Int32) = z287
              have h_z287 : z287.toInt = at_.toInt + 1 := by rw [← hg_z287]; have := y_add (x := at_) (y := (1 : Int32)) (by rw [ec1]; omega) (by rw [ec1]; omega); rw [ec1] at this; exact this
              refine y_putf X (fw_sc_211 X.2.2.2.2.1) hY0 hI hY_this rfl rfl ⟨_, rfl, by show (0 : Int) ≤ _; omega, by show _ ≤ (240 : Int); omega⟩ (by decide +kernel) sc_d288 fun H sl hI ho hs hk => ?_
              replace hs_tx := hk _ _ (by decide +kernel) (by decide) hs_tx
              replace hsi_typed := hk _ _ (by decide +kernel) (by decide) hsi_typed
              replace hs29 := hk _ _ (by decide +kernel) (by decide) hs29
              replace hs278 := hk _ _ (by decide +kernel) (by decide) hs278
              replace hA_tx := hA_tx.kept (ho _ (y_ne hY_tx hY_this rfl))
              replace hs := hs
              replace hsi_at := hs
              exact y_return B hI rfl rfl List.mem_cons_self rfl (x_cs.mono B.2.2.2.2.2 (y_mon B hI)) (fin hsi_at hs278 (by omega) (by omega) (fun q => by first | exact absurd rfl q | omega)) (Nat.le_refl _) (Nat.le_refl _) sc_d291
          · have q162_ : ¬ r159.toInt = (0 : Int32).toInt := fun q => q162 (Int32.toInt_inj.mp q)
            have hq_165 := hin_r159 q162
            refine lv_aload_n hx hb sc_d165 rfl (lv_at hl 0 rfl) ?_
            refine lv_iconst hx hb sc_d166 (v := 0) (by decide) ?_
            refine y_putf X (fw_sc_213 X.2.2.2.2.1) hY0 hI hY_this rfl rfl ⟨_, rfl, x_i32 _⟩ (by decide +kernel) sc_d167 fun H sl hI ho hs hk => ?_
            replace hs_tx := hk _ _ (by decide +kernel) (by decide) hs_tx
            replace hsi_at := hk _ _ (by decide +kernel) (by decide) hsi_at
            replace hsi_typed := hk _ _ (by decide +kernel) (by decide) hsi_typed
            replace hs29 := hk _ _ (by decide +kernel) (by decide) hs29
            replace hA_tx := hA_tx.kept (ho _ (y_ne hY_tx hY_this rfl))
            replace hs := hs
            have hs167 := hs
            exact sc_L170 B hty fin 242 _ _ _ _ _ hI hY_this hY_tx hs_tx hsi_at hsi_typed hA_tx (lv_sub hl [0] rfl) (by first | assumption | omega) (by first | assumption | omega) (by omega)
        · have q57_ : ¬ r54.toInt = (0 : Int32).toInt := fun q => q57 (Int32.toInt_inj.mp q)
          have hq_60 := hin_r54 q57
          refine lv_lconst hx hb sc_d60 (v := 0) (by decide) ?_
          have el0 : (0 : Int64).toInt = 0 := by decide
          refine lv_lstore_n hx hb sc_d61 rfl hl (by decide) (lv' := [(1, .long (0 : Int64)), (0, .ref this)]) rfl fun ls hl => ?_
          exact sc_L62 B hty fin 242 _ _ _ _ _ _ hI hY_this hY_tx hs_tx hsi_at hsi_typed hA_tx (lv_sub hl [0, 1] rfl) (by first | assumption | omega) (by first | assumption | omega) (by omega)
      · have q40_ : at_.toInt = ty.toInt := by rw [q40]
        refine lv_aload_n hx hb sc_d43 rfl (lv_at hl 0 rfl) ?_
        refine lv_iconst hx hb sc_d44 (v := 0) (by decide) ?_
        refine y_putf X (fw_sc_210 X.2.2.2.2.1) hY0 hI hY_this rfl rfl ⟨_, rfl, x_i32 _⟩ (by decide +kernel) sc_d45 fun H sl hI ho hs hk => ?_
        replace hs_tx := hk _ _ (by decide +kernel) (by decide) hs_tx
        replace hsi_at := hk _ _ (by decide +kernel) (by decide) hsi_at
        replace hsi_typed := hk _ _ (by decide +kernel) (by decide) hsi_typed
        replace hs29 := hk _ _ (by decide +kernel) (by decide) hs29
        replace hA_tx := hA_tx.kept (ho _ (y_ne hY_tx hY_this rfl))
        replace hs := hs
        have hs45 := hs
        exact y_return B hI rfl rfl List.mem_cons_self rfl (x_cs.mono B.2.2.2.2.2 (y_mon B hI)) (fin hsi_at hs45 (by omega) (by omega) (fun q => by first | exact absurd rfl q | omega)) (Nat.le_refl _) (Nat.le_refl _) sc_d48
    · have q8_ : ¬ r5.toInt = (0 : Int32).toInt := fun q => q8 (Int32.toInt_inj.mp q)
      have hq_11 := hin_r5 q8
      refine lv_aload_n hx hb sc_d11 rfl (lv_at hl 0 rfl) ?_
      refine lv_dup hx hb sc_d12 rfl ?_
      refine y_getf X (fl196 X.2.2.2.2.1) hI.1 hY_this rfl hsi_at sc_d13 ?_
      refine lv_iconst hx hb sc_d16 (v := 1) (by decide) ?_
      have ec1 : (1 : Int32).toInt = 1 := by decide
      refine lv_iadd hx hb sc_d17 ?_
      generalize hg_z17 : at_ + (1 : Int32) = z17
      have h_z17 : z17.toInt = at_.toInt + 1 := by rw [← hg_z17]; have := y_add (x := at_) (y := (1 : Int32)) (by rw [ec1]; omega) (by rw [ec1]; omega); rw [ec1] at this; exact this
      refine y_putf X (fw_sc_211 X.2.2.2.2.1) hY0 hI hY_this rfl rfl ⟨_, rfl, by show (0 : Int) ≤ _; omega, by show _ ≤ (240 : Int); omega⟩ (by decide +kernel) sc_d18 fun H sl hI ho hs hk => ?_
      replace hs_tx := hk _ _ (by decide +kernel) (by decide) hs_tx
      replace hsi_typed := hk _ _ (by decide +kernel) (by decide) hsi_typed
      replace hA_tx := hA_tx.kept (ho _ (y_ne hY_tx hY_this rfl))
      replace hs := hs
      replace hsi_at := hs
      refine lv_goto hx hb sc_d21 (tgt := 0) (by decide) ?_
      exact ih _ _ _ _ _ hI hY_this hY_tx hs_tx hsi_at hsi_typed hA_tx (lv_sub hl [0] rfl) (by first | assumption | omega) (by first | assumption | omega) (by omega)
theorem ym_scans : y_Met vwCl x_G x_Zs x_Tb x_Nb xMsc z_Ascans z_Pscans := by
  refine y_main (by decide +kernel) (by decide +kernel) x_Tb_good x_Nb_ok ?_
  intro p l e s m below meth c D U Y0 av ls B hI hpre hl
  have X := B.1
  have hx := X.1
  have hb := X.2.1
  have hY0 := B.2.2.2.2.1
  obtain ⟨v0, rfl, hv0⟩ := x_one B.2.2.2.2.2
  obtain ⟨this, t0, rfl, ht0, hY_this⟩ := x_ref_at hv0 rfl
  obtain rfl := List.mem_singleton.mp ht0
  replace hl : lv_has ls xMsc.2.2.1 [(0, .ref this)] := hl
  obtain ⟨at_, hsi_at, hat⟩ := y_fldI (k := 11) hI.1 hY_this rfl rfl
  obtain ⟨ty, hsi_typed, hty⟩ := y_fldI (k := 10) hI.1 hY_this rfl rfl
  replace hat : (0 : Int) ≤ at_.toInt ∧ at_.toInt ≤ 240 := hat
  replace hty : (0 : Int) ≤ ty.toInt ∧ ty.toInt ≤ 240 := hty
  obtain ⟨tx, hs_tx, hY_tx⟩ := y_fldR (k := 9) hI.1 hY_this rfl rfl
  obtain ⟨ft, hA_tx, -⟩ := y_arr hI.1 hY_tx rfl rfl
  have hle := hpre _ _ _ rfl hsi_at hsi_typed
  have fin : ∀ {H : Heap} {Y : xY} {at1 tk1 : Int32}, x_sl D 12 11 this H = some (.int at1) → x_sl D 12 13 this H = some (.int tk1) → at_.toInt ≤ at1.toInt → at1.toInt ≤ ty.toInt → (¬ tk1 = 0 → at_.toInt < at1.toInt) → z_Pscans D [.ref this] Y0 s.heap none Y H := by
    intro H Y at1 tk1 h1 h2 h3 h4 h5 this' at' ty' e1 e2 e3
    cases e1
    cases e2.symm.trans hsi_at
    cases e3.symm.trans hsi_typed
    exact ⟨at1, tk1, h1, h2, h3, h4, h5⟩
  have hrefl : at_.toInt ≤ at_.toInt ∧ at_.toInt ≤ ty.toInt := ⟨Int.le_refl _, hle⟩
  exact sc_L0 B hty fin 242 _ _ _ _ _ hI hY_this hY_tx hs_tx hsi_at hsi_typed hA_tx hl hrefl hat.1 (by omega)
