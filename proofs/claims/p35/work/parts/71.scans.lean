def z_PisAt : yP := fun D av Y H v _ _ => ∀ (this tx : Nat) (lo hi at_ ty : Int32) (ft : Nat → Int32), av = [.ref this, .int lo, .int hi] → x_sl D 12 11 this H = some (.int at_) → x_sl D 12 10 this H = some (.int ty) → x_sl D 12 9 this H = some (.ref tx) → y_A tx 240 H ft → ∃ r : Int32, v = some (.int r) ∧ (¬ r = 0 → at_.toInt < ty.toInt ∧ lo.toInt ≤ (ft at_.toInt.toNat).toInt ∧ (ft at_.toInt.toNat).toInt ≤ hi.toInt) ∧ (r = 0 → ¬ (at_.toInt < ty.toInt ∧ lo.toInt ≤ (ft at_.toInt.toNat).toInt ∧ (ft at_.toInt.toNat).toInt ≤ hi.toInt))
theorem z_inR2 {v : Option Value} {x lo hi : Int64} (h : (v = some (.int 1) ∧ lo.toInt ≤ x.toInt ∧ x.toInt ≤ hi.toInt) ∨ (v = some (.int 0) ∧ (x.toInt < lo.toInt ∨ hi.toInt < x.toInt))) : ∃ r : Int32, v = some (.int r) ∧ (¬ r = 0 → lo.toInt ≤ x.toInt ∧ x.toInt ≤ hi.toInt) ∧ (r = 0 → ¬ (lo.toInt ≤ x.toInt ∧ x.toInt ≤ hi.toInt)) := by
  rcases h with ⟨h1, h2⟩ | ⟨h1, h2⟩
  · exact ⟨1, h1, fun _ => h2, fun q => absurd q (by decide)⟩
  · exact ⟨0, h1, fun q => absurd rfl q, fun _ q => by omega⟩
def z_Ascans : yA := fun D av Y H => ∀ (this : Nat) (at_ ty : Int32), av = [.ref this] → x_sl D 12 11 this H = some (.int at_) → x_sl D 12 10 this H = some (.int ty) → at_.toInt ≤ ty.toInt
theorem ia_fin {D : va_G} {Y Y' : xY} {H H' : Heap} {this tx : Nat} {lo hi at_ ty r : Int32} {ft : Nat → Int32} (h0 : 0 ≤ at_.toInt) (ht : ty.toInt ≤ 240) (hsi0 : x_sl D 12 11 this H = some (.int at_)) (hsi1 : x_sl D 12 10 this H = some (.int ty)) (hs0 : x_sl D 12 9 this H = some (.ref tx)) (hA0 : y_A tx 240 H ft)
    (h1 : ¬ r = 0 → at_.toInt < ty.toInt ∧ lo.toInt ≤ (ft at_.toInt.toNat).toInt ∧ (ft at_.toInt.toNat).toInt ≤ hi.toInt) (h2 : r = 0 → ¬ (at_.toInt < ty.toInt ∧ lo.toInt ≤ (ft at_.toInt.toNat).toInt ∧ (ft at_.toInt.toNat).toInt ≤ hi.toInt)) : z_PisAt D [.ref this, .int lo, .int hi] Y H (some (.int r)) Y' H' := by
  intro this' tx' lo' hi' at' ty' ft' e1 e2 e3 e4 e5
  cases e1
  cases e2.symm.trans hsi0
  cases e3.symm.trans hsi1
  cases e4.symm.trans hs0
  have e6 : at_.toInt < ty.toInt → ft' at_.toInt.toNat = ft at_.toInt.toNat := fun q => by
    have := (e5 at_.toInt.toNat (by omega)).symm.trans (hA0 at_.toInt.toNat (by omega))
    injection this with this
    injection this
  refine ⟨_, rfl, fun q => ?_, fun q e3 => ?_⟩
  · rw [e6 (h1 q).1]; exact h1 q
  · rw [e6 e3.1] at e3; exact h2 q e3
theorem ia_d0 : decode xM178.2.1 0 = .ok (.aload_n 0, 1) := dz_ok (by decide +kernel)
theorem ia_d1 : decode xM178.2.1 1 = .ok (.getfield 166, 3) := dz_ok (by decide +kernel)
theorem ia_d4 : decode xM178.2.1 4 = .ok (.aload_n 0, 1) := dz_ok (by decide +kernel)
theorem ia_d5 : decode xM178.2.1 5 = .ok (.getfield 160, 3) := dz_ok (by decide +kernel)
theorem ia_d8 : decode xM178.2.1 8 = .ok (.if_icmp .ge 27, 3) := dz_ok (by decide +kernel)
theorem ia_d11 : decode xM178.2.1 11 = .ok (.aload_n 0, 1) := dz_ok (by decide +kernel)
theorem ia_d12 : decode xM178.2.1 12 = .ok (.getfield 29, 3) := dz_ok (by decide +kernel)
theorem ia_d15 : decode xM178.2.1 15 = .ok (.aload_n 0, 1) := dz_ok (by decide +kernel)
theorem ia_d16 : decode xM178.2.1 16 = .ok (.getfield 166, 3) := dz_ok (by decide +kernel)
theorem ia_d19 : decode xM178.2.1 19 = .ok (.iaload, 1) := dz_ok (by decide +kernel)
theorem ia_d20 : decode xM178.2.1 20 = .ok (.i2l, 1) := dz_ok (by decide +kernel)
theorem ia_d21 : decode xM178.2.1 21 = .ok (.iload_n 1, 1) := dz_ok (by decide +kernel)
theorem ia_d22 : decode xM178.2.1 22 = .ok (.i2l, 1) := dz_ok (by decide +kernel)
theorem ia_d23 : decode xM178.2.1 23 = .ok (.iload_n 2, 1) := dz_ok (by decide +kernel)
theorem ia_d24 : decode xM178.2.1 24 = .ok (.i2l, 1) := dz_ok (by decide +kernel)
theorem ia_d25 : decode xM178.2.1 25 = .ok (.invokestatic 87, 3) := dz_ok (by decide +kernel)
theorem ia_d28 : decode xM178.2.1 28 = .ok (.ifCond .eq 7, 3) := dz_ok (by decide +kernel)
theorem ia_d31 : decode xM178.2.1 31 = .ok (.iconst 1, 1) := dz_ok (by decide +kernel)
theorem ia_d32 : decode xM178.2.1 32 = .ok (.goto 4, 3) := dz_ok (by decide +kernel)
theorem ia_d35 : decode xM178.2.1 35 = .ok (.iconst 0, 1) := dz_ok (by decide +kernel)
theorem ia_d36 : decode xM178.2.1 36 = .ok (.ireturn, 1) := dz_ok (by decide +kernel)
theorem ym_isAt : y_Met vwCl x_G x_Zs x_Tb x_Nb xM178 y_T z_PisAt := by
  refine y_main (by decide +kernel) (by decide +kernel) x_Tb_good x_Nb_ok ?_
  intro p l e s m below meth c D U Y0 av ls B hI hpre hl
  have X := B.1
  have hx := X.1
  have hb := X.2.1
  have hY0 := B.2.2.2.2.1
  obtain ⟨v0, v1, v2, rfl, hv0, ⟨lo, rfl, -⟩, ⟨hi, rfl, -⟩⟩ := y_three B.2.2.2.2.2
  obtain ⟨this, t0, rfl, ht0, hY_this⟩ := x_ref_at hv0 rfl
  obtain rfl := List.mem_singleton.mp ht0
  replace hl : lv_has ls xM178.2.2.1 [(0, .ref this), (1, .int lo), (2, .int hi)] := hl
  obtain ⟨at_, hsi_at, hat⟩ := y_fldI (k := 11) hI.1 hY_this rfl rfl
  obtain ⟨ty, hsi_typed, hty⟩ := y_fldI (k := 10) hI.1 hY_this rfl rfl
  replace hat : (0 : Int) ≤ at_.toInt ∧ at_.toInt ≤ 240 := hat
  replace hty : (0 : Int) ≤ ty.toInt ∧ ty.toInt ≤ 240 := hty
  obtain ⟨tx, hs_tx, hY_tx⟩ := y_fldR (k := 9) hI.1 hY_this rfl rfl
  obtain ⟨ft, hA_tx, -⟩ := y_arr hI.1 hY_tx rfl rfl
  have hsi0 := hsi_at
  have hsi1 := hsi_typed
  have hs0 := hs_tx
  have hA0 := hA_tx
  refine lv_aload_n hx hb ia_d0 rfl (lv_at hl 0 rfl) ?_
  refine y_getf X (fl196 X.2.2.2.2.1) hI.1 hY_this rfl hsi_at ia_d1 ?_
  refine lv_aload_n hx hb ia_d4 rfl (lv_at hl 0 rfl) ?_
  refine y_getf X (fl193 X.2.2.2.2.1) hI.1 hY_this rfl hsi_typed ia_d5 ?_
  refine lv_icmp_ge hx hb ia_d8 (tgt := 35) (by decide) (fun q8 => ?_) (fun q8 => ?_)
  · have q8_ : ty.toInt ≤ at_.toInt := x_le32.mp q8
    refine lv_iconst hx hb ia_d35 (v := 0) (by decide) ?_
    have ec0 : (0 : Int32).toInt = 0 := by decide
    exact y_ireturn B hI rfl rfl rfl List.mem_cons_self ⟨_, rfl, ⟨_, rfl, by decide, by decide⟩⟩ (x_cs.mono B.2.2.2.2.2 (y_mon B hI)) (ia_fin hat.1 hty.2 hsi0 hsi1 hs0 hA0 (fun q => by first | exact absurd rfl q | (have e2 := hin_r25 q28; rw [hg_e19]; omega)) (fun q => by first | exact absurd q (by decide) | omega | (have e2 := hout_r25 q28; rw [hg_e19]; omega))) (Nat.le_refl _) (Nat.le_refl _) ia_d36
  · have q8_ : at_.toInt < ty.toInt := Int.not_le.mp fun q => q8 (x_le32.mpr q)
    refine lv_aload_n hx hb ia_d11 rfl (lv_at hl 0 rfl) ?_
    refine y_getf X (fl195 X.2.2.2.2.1) hI.1 hY_this rfl hs_tx ia_d12 ?_
    refine lv_aload_n hx hb ia_d15 rfl (lv_at hl 0 rfl) ?_
    refine y_getf X (fl196 X.2.2.2.2.1) hI.1 hY_this rfl hsi_at ia_d16 ?_
    refine y_iald X hI.1 hY_tx rfl hA_tx (by omega) (by show _ < (240 : Int); omega) ia_d19 ?_
    obtain ⟨e19, hg_e19⟩ : ∃ e19 : Int32, ft at_.toInt.toNat = e19 := ⟨_, rfl⟩
    rw [hg_e19]
    obtain ⟨z20, hg_z20⟩ : ∃ z20 : Int64, e19.toInt64 = z20 := ⟨_, rfl⟩
    have h_z20 : z20.toInt = (e19).toInt := by rw [← hg_z20]; exact Int32.toInt_toInt64 _
    refine lv_i2l hx hb ia_d20 (v := z20) hg_z20 ?_
    refine lv_iload_n hx hb ia_d21 rfl (lv_at hl 1 rfl) ?_
    obtain ⟨z22, hg_z22⟩ : ∃ z22 : Int64, lo.toInt64 = z22 := ⟨_, rfl⟩
    have h_z22 : z22.toInt = (lo).toInt := by rw [← hg_z22]; exact Int32.toInt_toInt64 _
    refine lv_i2l hx hb ia_d22 (v := z22) hg_z22 ?_
    refine lv_iload_n hx hb ia_d23 rfl (lv_at hl 2 rfl) ?_
    obtain ⟨z24, hg_z24⟩ : ∃ z24 : Int64, hi.toInt64 = z24 := ⟨_, rfl⟩
    have h_z24 : z24.toInt = (hi).toInt := by rw [← hg_z24]; exact Int32.toInt_toInt64 _
    refine lv_i2l hx hb ia_d24 (v := z24) hg_z24 ?_
    refine y_call (z := (1, 87, 3, none, xM148)) (av := [.long z20, .long z22, .long z24]) (rest := []) (y_cokS (n := 3) X ym_in (x_cons (x_bw67 11 rfl rfl) (x_cons (x_bw67 12 rfl rfl) (x_cons (x_bw0 9 rfl rfl) x_nilm))) (x_bw67 13 rfl rfl) (by decide +kernel) ⟨Nat.le_of_ble_eq_true rfl, Nat.le_of_ble_eq_true rfl⟩) hY0 hI rfl ia_d25 hl.1 (Nat.le_of_ble_eq_true rfl) (Nat.le_of_ble_eq_true rfl) (Nat.le_of_ble_eq_true rfl) (y_cons ⟨_, rfl, x_i64 _⟩ (y_cons ⟨_, rfl, x_i64 _⟩ (y_cons ⟨_, rfl, x_i64 _⟩ y_nil))) rfl (y_norecv rfl) trivial (y_sub_ef rfl) fun v Yn o Hn L ho hr ha hIn hx_ hE hP => ?_
    replace hs_tx := y_Efld hE hY_this rfl (by decide) (by decide) hs_tx
    replace hsi_at := y_Efld hE hY_this rfl (by decide) (by decide) hsi_at
    replace hsi_typed := y_Efld hE hY_this rfl (by decide) (by decide) hsi_typed
    replace hA_tx := hA_tx.kept (y_Earr hE hY_tx rfl (by decide))
    replace hY_this := y_ext hx_ hI.1 hY_this
    replace hY_tx := y_ext hx_ hI.1 hY_tx
    obtain ⟨r25, rfl, hin_r25, hout_r25⟩ := z_inR2 (hP _ _ _ rfl)
    clear ho hr ha hE hP hI hx_
    rename x_I _ _ _ _ _ _ _ _ _ _ => hI
    have ec0 : (0 : Int32).toInt = 0 := by decide
    refine lv_if_eq hx hb ia_d28 (tgt := 35) (by decide) (fun q28 => ?_) (fun q28 => ?_)
    · have q28_ : r25.toInt = (0 : Int32).toInt := by rw [q28]
      refine lv_iconst hx hb ia_d35 (v := 0) (by decide) ?_
      exact y_ireturn B hI rfl rfl rfl List.mem_cons_self ⟨_, rfl, ⟨_, rfl, by decide, by decide⟩⟩ (x_cs.mono B.2.2.2.2.2 (y_mon B hI)) (ia_fin hat.1 hty.2 hsi0 hsi1 hs0 hA0 (fun q => by first | exact absurd rfl q | (have e2 := hin_r25 q28; rw [hg_e19]; omega)) (fun q => by first | exact absurd q (by decide) | omega | (have e2 := hout_r25 q28; rw [hg_e19]; omega))) (Nat.le_refl _) (Nat.le_refl _) ia_d36
    · have q28_ : ¬ r25.toInt = (0 : Int32).toInt := fun q => q28 (Int32.toInt_inj.mp q)
      refine lv_iconst hx hb ia_d31 (v := 1) (by decide) ?_
      have ec1 : (1 : Int32).toInt = 1 := by decide
      refine lv_goto hx hb ia_d32 (tgt := 36) (by decide) ?_
      exact y_ireturn B hI rfl rfl rfl (List.mem_cons_of_mem _ List.mem_cons_self) ⟨_, rfl, ⟨_, rfl, by decide, by decide⟩⟩ (x_cs.mono B.2.2.2.2.2 (y_mon B hI)) (ia_fin hat.1 hty.2 hsi0 hsi1 hs0 hA0 (fun q => by first | exact absurd rfl q | (have e2 := hin_r25 q28; rw [hg_e19]; omega)) (fun q => by first | exact absurd q (by decide) | omega | (have e2 := hout_r25 q28; rw [hg_e19]; omega))) (Nat.le_refl _) (Nat.le_refl _) ia_d36
def xMsc : xM := (⟨"TwinFiresModel", "scans", "()V"⟩, prog_14_method_38_code, 3, none, [xR false [17]], [([xR false [17]], none)], [(17, 11), (17, 12), (17, 13), (17, 14)], (2, 47, 0, 0), none)
