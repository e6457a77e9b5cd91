theorem fl_im_238y {s : State} {args : Array Value} (hts : ∀ w ∈ x_Tb, w.before args s = true) : x_fok vwCl x_G x_Tb s args "TwinFiresModel" (16, 17, 2) := ⟨12, _, RX12, TX12, "TwinFiresModel", rfl, rfl, Nat.le_of_ble_eq_true rfl, iX12, (hts _ (x_bw62 5 rfl rfl)), fun x h => h⟩
theorem fl_im_239y {s : State} {args : Array Value} (hts : ∀ w ∈ x_Tb, w.before args s = true) : x_fok vwCl x_G x_Tb s args "TwinFiresModel" (13, 17, 1) := ⟨12, _, RX12, TX12, "TwinFiresModel", rfl, rfl, Nat.le_of_ble_eq_true rfl, iX12, (hts _ (x_bw62 4 rfl rfl)), fun x h => h⟩
theorem fl_bZ_240 {s : State} {args : Array Value} (hts : ∀ w ∈ x_Tb, w.before args s = true) : x_fok vwCl x_G x_Tb s args "TwinFiresModel" (7, 18, 0) := ⟨12, _, RX12, TX12, "TwinFiresModel", rfl, rfl, Nat.le_of_ble_eq_true rfl, iX12, (hts _ (x_bw62 3 rfl rfl)), fun x h => h⟩
def z_PimX : yP := fun D av _ H v _ H' => ∀ (this bk im mk : Nat) (i : Int32) (f fi fk : Nat → Int32), av = [.ref this, .int i] → x_sl D 12 0 this H = some (.ref bk) → x_sl D 12 1 this H = some (.ref im) → x_sl D 12 2 this H = some (.ref mk) → z_c f → y_A bk 160 H f → y_A im 320 H fi → y_A mk 2 H fk → v = some (.int (m_imgR i)) ∧ y_A bk 160 H' f ∧ (¬ (0 ≤ i.toInt ∧ i.toInt ≤ 1) → y_A im 320 H' fi ∧ y_A mk 2 H' fk) ∧ (0 ≤ i.toInt ∧ i.toInt ≤ 1 → (∀ j, j < 2 → y_at mk j H' = some (.int (if j = i.toInt.toNat then 1 else fk j))) ∧ (∀ j, j < 160 → y_at im (160 * i.toInt.toNat + j) H' = some (.int (f j))) ∧ ∀ j, j < 320 → (j < 160 * i.toInt.toNat ∨ 160 * i.toInt.toNat + 160 ≤ j) → y_at im j H' = some (.int (fi j)))
theorem jZ_d0 : decode xMi2.2.1 0 = .ok (.iload_n 1, 1) := dz_ok (by decide +kernel)
theorem jZ_d1 : decode xMi2.2.1 1 = .ok (.i2l, 1) := dz_ok (by decide +kernel)
theorem jZ_d2 : decode xMi2.2.1 2 = .ok (.lconst 0, 1) := dz_ok (by decide +kernel)
theorem jZ_d3 : decode xMi2.2.1 3 = .ok (.lconst 1, 1) := dz_ok (by decide +kernel)
theorem jZ_d4 : decode xMi2.2.1 4 = .ok (.invokestatic 87, 3) := dz_ok (by decide +kernel)
theorem jZ_d7 : decode xMi2.2.1 7 = .ok (.ifCond .ne 8, 3) := dz_ok (by decide +kernel)
theorem jZ_d10 : decode xMi2.2.1 10 = .ok (.aload_n 0, 1) := dz_ok (by decide +kernel)
theorem jZ_d11 : decode xMi2.2.1 11 = .ok (.invokevirtual 102, 3) := dz_ok (by decide +kernel)
theorem jZ_d14 : decode xMi2.2.1 14 = .ok (.ireturn, 1) := dz_ok (by decide +kernel)
theorem jZ_d15 : decode xMi2.2.1 15 = .ok (.iconst 0, 1) := dz_ok (by decide +kernel)
theorem jZ_d16 : decode xMi2.2.1 16 = .ok (.istore_n 2, 1) := dz_ok (by decide +kernel)
theorem jZ_d17 : decode xMi2.2.1 17 = .ok (.iload_n 2, 1) := dz_ok (by decide +kernel)
theorem jZ_d18 : decode xMi2.2.1 18 = .ok (.sipush 160, 3) := dz_ok (by decide +kernel)
theorem jZ_d21 : decode xMi2.2.1 21 = .ok (.if_icmp .ge 27, 3) := dz_ok (by decide +kernel)
theorem jZ_d24 : decode xMi2.2.1 24 = .ok (.aload_n 0, 1) := dz_ok (by decide +kernel)
theorem jZ_d25 : decode xMi2.2.1 25 = .ok (.getfield 13, 3) := dz_ok (by decide +kernel)
theorem jZ_d28 : decode xMi2.2.1 28 = .ok (.sipush 160, 3) := dz_ok (by decide +kernel)
theorem jZ_d31 : decode xMi2.2.1 31 = .ok (.iload_n 1, 1) := dz_ok (by decide +kernel)
theorem jZ_d32 : decode xMi2.2.1 32 = .ok (.imul, 1) := dz_ok (by decide +kernel)
theorem jZ_d33 : decode xMi2.2.1 33 = .ok (.iload_n 2, 1) := dz_ok (by decide +kernel)
theorem jZ_d34 : decode xMi2.2.1 34 = .ok (.iadd, 1) := dz_ok (by decide +kernel)
theorem jZ_d35 : decode xMi2.2.1 35 = .ok (.aload_n 0, 1) := dz_ok (by decide +kernel)
theorem jZ_d36 : decode xMi2.2.1 36 = .ok (.getfield 7, 3) := dz_ok (by decide +kernel)
theorem jZ_d39 : decode xMi2.2.1 39 = .ok (.iload_n 2, 1) := dz_ok (by decide +kernel)
theorem jZ_d40 : decode xMi2.2.1 40 = .ok (.iaload, 1) := dz_ok (by decide +kernel)
theorem jZ_d41 : decode xMi2.2.1 41 = .ok (.iastore, 1) := dz_ok (by decide +kernel)
theorem jZ_d42 : decode xMi2.2.1 42 = .ok (.iinc 2 1, 3) := dz_ok (by decide +kernel)
theorem jZ_d45 : decode xMi2.2.1 45 = .ok (.goto (-28), 3) := dz_ok (by decide +kernel)
theorem jZ_d48 : decode xMi2.2.1 48 = .ok (.aload_n 0, 1) := dz_ok (by decide +kernel)
theorem jZ_d49 : decode xMi2.2.1 49 = .ok (.getfield 16, 3) := dz_ok (by decide +kernel)
theorem jZ_d52 : decode xMi2.2.1 52 = .ok (.iload_n 1, 1) := dz_ok (by decide +kernel)
theorem jZ_d53 : decode xMi2.2.1 53 = .ok (.iconst 1, 1) := dz_ok (by decide +kernel)
theorem jZ_d54 : decode xMi2.2.1 54 = .ok (.bastore, 1) := dz_ok (by decide +kernel)
theorem jZ_d55 : decode xMi2.2.1 55 = .ok (.iconst 1, 1) := dz_ok (by decide +kernel)
theorem jZ_d56 : decode xMi2.2.1 56 = .ok (.ireturn, 1) := dz_ok (by decide +kernel)
theorem jZ_L17 {p : Program} {l : Launch} {e : Env} {s : State} {m : MethodId} {below : List Frame} {meth : Method} {c : Code} {D : va_G} {U : State} {Y0 : xY} {av : List Value} (B : y_B vwCl x_Tb x_Nb xMi2 p s m meth c D U Y0 av) {this bk im mk : Nat} {i : Int32} {fb fi0 fk : Nat → Int32} (hav : av = [.ref this, .int i]) (hs0 : x_sl D 12 0 this s.heap = some (.ref bk)) (hs1 : x_sl D 12 1 this s.heap = some (.ref im)) (hs2 : x_sl D 12 2 this s.heap = some (.ref mk)) (hcn : z_c fb) (hA0 : y_A bk 160 s.heap fb) (hA1 : y_A im 320 s.heap fi0) (hA2 : y_A mk 2 s.heap fk) (hi : 0 ≤ i.toInt ∧ i.toInt ≤ 1) (hh : z_hd fb) (hB_mk : ∀ j, j < 2 → (0 : Int) ≤ (fk j).toInt ∧ (fk j).toInt ≤ 1)  :
    ∀ (n : Nat), ∀ (H : Heap) (Y : xY) (locs : List Loc) (ls : Array Slot) (k : Int32) (fi : Nat → Int32), x_I D x_G x_Zs U (x_efs xMi2) Y0 s.heap Y H locs → Y this = some 17 → Y bk = some 46 → Y im = some 47 → Y mk = some 48 → x_sl D 12 0 this H = some (.ref bk) → x_sl D 12 1 this H = some (.ref im) → x_sl D 12 2 this H = some (.ref mk) → y_A bk 160 H fb → y_A im 320 H fi → y_A mk 2 H fk → lv_has ls xMi2.2.2.1 [(2, .int k), (0, .ref this), (1, .int i)] → (0 ≤ k.toInt ∧ k.toInt ≤ 160) → (∀ j : Nat, (j : Int) < k.toInt → fi (160 * i.toInt.toNat + j) = fb j) → (∀ j : Nat, (j < 160 * i.toInt.toNat ∨ 160 * i.toInt.toNat + 160 ≤ j) → fi j = fi0 j) → (160 - k.toInt).toNat < n → W p l e (x_rm xMi2) s m av.toArray below meth c H locs 0 0 (y_QQ below D x_G x_Zs U xMi2 z_PimX av Y0 s) (F0 m 17 ls []) := by
  have X := B.1
  have hx := X.1
  have hb := X.2.1
  have hY0 := B.2.2.2.2.1
  intro n
  induction n with
  | zero => intro _ _ _ _ _ _ _ _ _ _ _ _ _ _ _ _ _ _ _ _ _ h; exact absurd h (Nat.not_lt_zero _)
  | succ n ih =>
    intro H Y locs ls k fi hI hY_this hY_bk hY_im hY_mk hs_bk hs_im hs_mk hA_bk hA_im hA_mk hl hk hfi hfo hn
    refine lv_iload_n hx hb jZ_d17 rfl (lv_at hl 0 rfl) ?_
    refine lv_sipush hx hb jZ_d18 (v := 160) (by decide) ?_
    have ec160 : (160 : Int32).toInt = 160 := by decide
    refine lv_icmp_ge hx hb jZ_d21 (tgt := 48) (by decide) (fun q21 => ?_) (fun q21 => ?_)
    · have q21_ : (160 : Int32).toInt ≤ k.toInt := x_le32.mp q21
      refine lv_aload_n hx hb jZ_d48 rfl (lv_at hl 1 rfl) ?_
      refine y_getf X (fl_im_238y X.2.2.2.2.1) hI.1 hY_this rfl hs_mk jZ_d49 ?_
      refine lv_iload_n hx hb jZ_d52 rfl (lv_at hl 2 rfl) ?_
      refine lv_iconst hx hb jZ_d53 (v := 1) (by decide) ?_
      have ec1 : (1 : Int32).toInt = 1 := by decide
      refine y_zast X hY0 hI hY_mk rfl hA_mk (by omega) (by show _ < (2 : Int); omega) (y_01 (by omega) (by omega)) ⟨_, rfl, by show (0 : Int) ≤ _; omega, by show _ ≤ (1 : Int); omega⟩ (by decide +kernel) jZ_d54 fun H locs hI h_new ho => ?_
      replace hA_mk := h_new
      replace hB_mk := y_upb (i := i.toInt.toNat) (v := (1 : Int32)) hB_mk (by constructor <;> omega)
      generalize hf_f54 : y_up fk i.toInt.toNat (1 : Int32) = f54 at hA_mk hB_mk
      replace hs_bk := y_slk hs_bk (ho _ (y_ne hY_this hY_mk rfl))
      replace hs_im := y_slk hs_im (ho _ (y_ne hY_this hY_mk rfl))
      replace hs_mk := y_slk hs_mk (ho _ (y_ne hY_this hY_mk rfl))
      replace hA_bk := hA_bk.kept (ho _ (y_ne hY_bk hY_mk rfl))
      replace hA_im := hA_im.kept (ho _ (y_ne hY_im hY_mk rfl))
      refine lv_iconst hx hb jZ_d55 (v := 1) (by decide) ?_
      subst hav
      exact y_ireturn B hI rfl rfl rfl List.mem_cons_self ⟨_, rfl, ⟨_, rfl, x_i32 _⟩⟩ (x_cs.mono B.2.2.2.2.2 (y_mon B hI)) (fun t' b' m' k' i' f' fi' fk' h1 h2 h3 h4 h5 h6 h7 h8 => by cases h1; cases h2.symm.trans hs0; cases h3.symm.trans hs1; cases h4.symm.trans hs2; cases z_uniq h6 hA0 h5 hcn; exact ⟨by unfold m_imgR; rw [if_pos hi], hA_bk, fun q9 => absurd hi q9, fun _ => ⟨fun j hj => by rw [hA_mk j hj, ← hf_f54]; by_cases ej : j = i.toInt.toNat; (rw [ej, y_up_at, if_pos rfl]); rw [y_up_ne ej, if_neg ej, z_AR hA2 h8 hj], fun j hj => by rw [hA_im _ (by omega), hfi j (by omega)], fun j h9 hj => by rw [hA_im j h9, hfo j hj, z_AR hA1 h7 h9]⟩⟩) (Nat.le_refl _) (Nat.le_refl _) jZ_d56
    · have q21_ : k.toInt < (160 : Int32).toInt := Int.not_le.mp fun q => q21 (x_le32.mpr q)
      refine lv_aload_n hx hb jZ_d24 rfl (lv_at hl 1 rfl) ?_
      refine y_getf X (fl_im_239y X.2.2.2.2.1) hI.1 hY_this rfl hs_im jZ_d25 ?_
      refine lv_sipush hx hb jZ_d28 (v := 160) (by decide) ?_
      refine lv_iload_n hx hb jZ_d31 rfl (lv_at hl 2 rfl) ?_
      refine lv_imul hx hb jZ_d32 ?_
      generalize hg_z32 : (160 : Int32) * i = z32
      have h_z32 : z32.toInt = 160 * i.toInt := by rw [← hg_z32]; have := y_mul (x := (160 : Int32)) (y := i) (by rw [ec160]; omega) (by rw [ec160]; omega); rw [ec160] at this; exact this
      refine lv_iload_n hx hb jZ_d33 rfl (lv_at hl 0 rfl) ?_
      refine lv_iadd hx hb jZ_d34 ?_
      generalize hg_z34 : z32 + k = z34
      have h_z34 : z34.toInt = z32.toInt + k.toInt := by rw [← hg_z34]; have := y_add (x := z32) (y := k) (by omega) (by omega); exact this
      refine lv_aload_n hx hb jZ_d35 rfl (lv_at hl 1 rfl) ?_
      refine y_getf X (fl190 X.2.2.2.2.1) hI.1 hY_this rfl hs_bk jZ_d36 ?_
      refine lv_iload_n hx hb jZ_d39 rfl (lv_at hl 0 rfl) ?_
      refine y_iald X hI.1 hY_bk rfl hA_bk (by omega) (by show _ < (160 : Int); omega) jZ_d40 ?_
      obtain ⟨e40, hg_e40⟩ : ∃ e40 : Int32, fb k.toInt.toNat = e40 := ⟨_, rfl⟩
      rw [hg_e40]
      refine y_iast X hY0 hI hY_im rfl hA_im (by omega) (by show _ < (320 : Int); omega) (by rw [z_preI_i hi.1 hi.2 (k := k) (by omega) (by omega) (by omega)]; have := z_hdc (Y := Y) hh k.toInt.toNat; rw [hg_e40] at this; exact this) (by decide +kernel) jZ_d41 fun H locs hI h_new ho => ?_
      replace hA_im := h_new
      generalize hf_f41 : y_up fi z34.toInt.toNat e40 = f41 at hA_im
      replace hs_bk := y_slk hs_bk (ho _ (y_ne hY_this hY_im rfl))
      replace hs_im := y_slk hs_im (ho _ (y_ne hY_this hY_im rfl))
      replace hs_mk := y_slk hs_mk (ho _ (y_ne hY_this hY_im rfl))
      replace hA_bk := hA_bk.kept (ho _ (y_ne hY_bk hY_im rfl))
      replace hA_mk := hA_mk.kept (ho _ (y_ne hY_mk hY_im rfl))
      obtain ⟨z42, hg_z42⟩ : ∃ z42 : Int32, k + Int32.ofInt 1 = z42 := ⟨_, rfl⟩
      have h_z42 : z42.toInt = k.toInt + 1 := by rw [← hg_z42]; exact y_inc (by decide) (by omega) (by omega)
      refine lv_iinc hx hb jZ_d42 hl (k := 0) rfl hg_z42 (by decide) (lv' := [(2, .int z42), (0, .ref this), (1, .int i)]) rfl fun ls hl => ?_
      refine lv_goto hx hb jZ_d45 (tgt := 17) (by decide) ?_
      exact ih _ _ _ _ _ _ hI hY_this hY_bk hY_im hY_mk hs_bk hs_im hs_mk hA_bk hA_im hA_mk (lv_sub hl [0, 1, 2] rfl) (by first | assumption | omega) (fun j hj => by rw [← hf_f41]; by_cases ej : (j : Int) = k.toInt; (rw [show 160 * i.toInt.toNat + j = z34.toInt.toNat by omega, y_up_at, ← hg_e40]; congr 1; omega); rw [y_up_ne (by omega)]; exact hfi j (by omega)) (fun j hj => by rw [← hf_f41, y_up_ne (by omega)]; exact hfo j hj) (by omega)
theorem ym_imageX : y_Met vwCl x_G x_Zs x_Tb x_Nb xMi2 y_T z_PimX := by
  refine y_main (by decide +kernel) (by decide +kernel) x_Tb_good x_Nb_ok ?_
  intro p l e s m below meth c D U Y0 av ls B hI _ hl
  have X := B.1
  have hx := X.1
  have hb := X.2.1
  have hY0 := B.2.2.2.2.1
  obtain ⟨v0, v1, rfl, hv0, ⟨i, rfl, -⟩⟩ := x_two B.2.2.2.2.2
  obtain ⟨this, t0, rfl, ht0, hY_this⟩ := x_ref_at hv0 rfl
  obtain rfl := List.mem_singleton.mp ht0
  replace hl : lv_has ls xMi2.2.2.1 [(0, .ref this), (1, .int i)] := hl
  obtain ⟨bk, hs_bk, hY_bk⟩ := y_fldR (k := 0) hI.1 hY_this rfl rfl
  obtain ⟨fb9, hA9, hB9⟩ := y_arr hI.1 hY_bk rfl rfl
  obtain ⟨fb, hcn, hA_bk, hB_bk⟩ := z_canon (Y := Y0) (P := fun j v => x_c Y0 ([xI 0 10, xI 0 8, xI 0 8].getD j xF) (.int v)) hA9 hB9
  clear hA9 hB9 fb9
  have hs0 := hs_bk
  have hA0 := hA_bk
  have hd := z_hdr hB_bk
  have hd0 := hd.1
  have hd1 := hd.2.1
  have hh := z_hdr hB_bk
  obtain ⟨im, hs_im, hY_im⟩ := y_fldR (k := 1) hI.1 hY_this rfl rfl
  obtain ⟨mk, hs_mk, hY_mk⟩ := y_fldR (k := 2) hI.1 hY_this rfl rfl
  obtain ⟨fi0, hA_im, hB_im⟩ := y_arr hI.1 hY_im rfl rfl
  obtain ⟨fk, hA_mk, hB_mk⟩ := y_arr hI.1 hY_mk rfl rfl
  replace hB_mk : ∀ j, j < 2 → (0 : Int) ≤ (fk j).toInt ∧ (fk j).toInt ≤ 1 := fun j hj => by obtain ⟨x, e0, e1⟩ := hB_mk j hj; cases e0; exact e1
  have hs1 := hs_im
  have hs2 := hs_mk
  have hA1 := hA_im
  have hA2 := hA_mk
  refine lv_iload_n hx hb jZ_d0 rfl (lv_at hl 1 rfl) ?_
  obtain ⟨z1, hg_z1⟩ : ∃ z1 : Int64, i.toInt64 = z1 := ⟨_, rfl⟩
  have h_z1 : z1.toInt = (i).toInt := by rw [← hg_z1]; exact Int32.toInt_toInt64 _
  refine lv_i2l hx hb jZ_d1 (v := z1) hg_z1 ?_
  refine lv_lconst hx hb jZ_d2 (v := 0) (by decide) ?_
  have el0 : (0 : Int64).toInt = 0 := by decide
  refine lv_lconst hx hb jZ_d3 (v := 1) (by decide) ?_
  have el1 : (1 : Int64).toInt = 1 := by decide
  refine y_call (z := (1, 87, 3, none, xM148)) (av := [.long z1, .long (0 : Int64), .long (1 : Int64)]) (rest := []) (y_cokS (n := 3) X ym_in (x_cons (x_bw67 11 rfl rfl) (x_cons (x_bw67 12 rfl rfl) (x_cons (x_bw0 9 rfl rfl) x_nilm))) (x_bw67 13 rfl rfl) (by decide +kernel) ⟨Nat.le_of_ble_eq_true rfl, Nat.le_of_ble_eq_true rfl⟩) hY0 hI rfl jZ_d4 hl.1 (Nat.le_of_ble_eq_true rfl) (Nat.le_of_ble_eq_true rfl) (Nat.le_of_ble_eq_true rfl) (y_cons ⟨_, rfl, x_i64 _⟩ (y_cons ⟨_, rfl, x_i64 _⟩ (y_cons ⟨_, rfl, x_i64 _⟩ y_nil))) rfl (y_norecv rfl) trivial (y_sub_ef rfl) fun v Yn o Hn L ho hr ha hIn hx_ hE hP => ?_
  replace hs_bk := y_Efld hE hY_this rfl (by decide) (by decide) hs_bk
  replace hs_im := y_Efld hE hY_this rfl (by decide) (by decide) hs_im
  replace hs_mk := y_Efld hE hY_this rfl (by decide) (by decide) hs_mk
  replace hA_bk := hA_bk.kept (y_Earr hE hY_bk rfl (by decide))
  replace hA_im := hA_im.kept (y_Earr hE hY_im rfl (by decide))
  replace hA_mk := hA_mk.kept (y_Earr hE hY_mk rfl (by decide))
  replace hY_this := y_ext hx_ hI.1 hY_this
  replace hY_bk := y_ext hx_ hI.1 hY_bk
  replace hY_im := y_ext hx_ hI.1 hY_im
  replace hY_mk := y_ext hx_ hI.1 hY_mk
  obtain ⟨r4, rfl, hin_r4, hout_r4⟩ := z_inR2 (hP _ _ _ rfl)
  clear ho hr ha hE hP hI hx_
  rename x_I _ _ _ _ _ _ _ _ _ _ => hI
  have ec0 : (0 : Int32).toInt = 0 := by decide
  refine lv_if_ne hx hb jZ_d7 (tgt := 15) (by decide) (fun q7 => ?_) (fun q7 => ?_)
  · have q7_ : ¬ r4.toInt = (0 : Int32).toInt := fun q => q7 (Int32.toInt_inj.mp q)
    have hi1 := hin_r4 (by assumption)
    have hi : 0 ≤ i.toInt ∧ i.toInt ≤ 1 := by omega
    refine lv_iconst hx hb jZ_d15 (v := 0) (by decide) ?_
    refine lv_istore_n hx hb jZ_d16 rfl hl (by decide) (lv' := [(2, .int (0 : Int32)), (0, .ref this), (1, .int i)]) rfl fun ls hl => ?_
    exact jZ_L17 B rfl hs0 hs1 hs2 hcn hA0 hA1 hA2 hi hh hB_mk 161 _ _ _ _ _ _ hI hY_this hY_bk hY_im hY_mk hs_bk hs_im hs_mk hA_bk hA_im hA_mk (lv_sub hl [0, 1, 2] rfl) (by first | assumption | omega) (fun j hj => absurd hj (by omega)) (fun j _ => rfl) (by omega)
  · have q7_ : r4.toInt = (0 : Int32).toInt := by rw [q7]
    have hi1 := hout_r4 (by assumption)
    refine lv_aload_n hx hb jZ_d10 rfl (lv_at hl 0 rfl) ?_
    refine y_call (z := (0, 102, 1, some 17, xM143)) (av := [.ref this]) (rest := []) (y_cokV (n := 0) (ci := 12) X ym_bad rfl rfl rfl (x_cons (x_bw68 3 rfl rfl) (x_cons (x_bw68 5 rfl rfl) (x_cons (x_at 32 (by decide +kernel) rfl) (x_cons (x_bw0 9 rfl rfl) x_nilm)))) (x_bw68 6 rfl rfl) (by decide +kernel) ⟨Nat.le_of_ble_eq_true rfl, Nat.le_of_ble_eq_true rfl⟩) hY0 hI rfl jZ_d11 hl.1 (Nat.le_of_ble_eq_true rfl) (Nat.le_of_ble_eq_true rfl) (Nat.le_of_ble_eq_true rfl) (y_cons (y_cref hY_this rfl) y_nil) rfl (y_recv rfl hY_this) trivial (y_sub_ef rfl) fun v Yn o Hn L ho hr ha hIn hx_ hE hP => ?_
    replace hs_bk := y_Efld hE hY_this rfl (by decide) (by decide) hs_bk
    replace hs_im := y_Efld hE hY_this rfl (by decide) (by decide) hs_im
    replace hs_mk := y_Efld hE hY_this rfl (by decide) (by decide) hs_mk
    replace hA_bk := hA_bk.kept (y_Earr hE hY_bk rfl (by decide))
    replace hA_im := hA_im.kept (y_Earr hE hY_im rfl (by decide))
    replace hA_mk := hA_mk.kept (y_Earr hE hY_mk rfl (by decide))
    replace hY_this := y_ext hx_ hI.1 hY_this
    replace hY_bk := y_ext hx_ hI.1 hY_bk
    replace hY_im := y_ext hx_ hI.1 hY_im
    replace hY_mk := y_ext hx_ hI.1 hY_mk
    have hPb := hP
    obtain rfl := hPb
    clear ho hr ha hE hP hI hx_
    rename x_I _ _ _ _ _ _ _ _ _ _ => hI
    exact y_ireturn B hI rfl rfl rfl List.mem_cons_self ⟨_, rfl, ⟨_, rfl, x_i32 _⟩⟩ (x_cs.mono B.2.2.2.2.2 (y_mon B hI)) (fun t' b' m' k' i' f' fi' fk' h1 h2 h3 h4 h5 h6 h7 h8 => by cases h1; cases h2.symm.trans hs0; cases h3.symm.trans hs1; cases h4.symm.trans hs2; cases z_uniq h6 hA0 h5 hcn; exact ⟨by unfold m_imgR; rw [if_neg (by omega)], hA_bk, fun _ => ⟨fun j hj => by rw [hA_im j hj, z_AR hA1 h7 hj], fun j hj => by rw [hA_mk j hj, z_AR hA2 h8 hj]⟩, fun q9 => absurd q9 (by omega)⟩) (Nat.le_refl _) (Nat.le_refl _) jZ_d14
def z_PfrX : yP := fun D av _ H v _ H' => ∀ (this bk im mk : Nat) (i : Int32) (f fi fk : Nat → Int32), av = [.ref this, .int i] → x_sl D 12 0 this H = some (.ref bk) → x_sl D 12 1 this H = some (.ref im) → x_sl D 12 2 this H = some (.ref mk) → z_c f → y_A bk 160 H f → y_A im 320 H fi → y_A mk 2 H fk → (¬ (0 ≤ i.toInt ∧ i.toInt ≤ 1) → v = some (.int (-2)) ∧ y_A bk 160 H' f) ∧ (0 ≤ i.toInt ∧ i.toInt ≤ 1 → fk i.toInt.toNat = 0 → v = some (.int (-3)) ∧ y_A bk 160 H' f) ∧ (0 ≤ i.toInt ∧ i.toInt ≤ 1 → ¬ fk i.toInt.toNat = 0 → v = some (.int 1) ∧ y_A bk 160 H' (fun j => fi (160 * i.toInt.toNat + j)))
theorem kZ_d0 : decode xMfr.2.1 0 = .ok (.iload_n 1, 1) := dz_ok (by decide +kernel)
theorem kZ_d1 : decode xMfr.2.1 1 = .ok (.i2l, 1) := dz_ok (by decide +kernel)
theorem kZ_d2 : decode xMfr.2.1 2 = .ok (.lconst 0, 1) := dz_ok (by decide +kernel)
theorem kZ_d3 : decode xMfr.2.1 3 = .ok (.lconst 1, 1) := dz_ok (by decide +kernel)
theorem kZ_d4 : decode xMfr.2.1 4 = .ok (.invokestatic 87, 3) := dz_ok (by decide +kernel)
theorem kZ_d7 : decode xMfr.2.1 7 = .ok (.ifCond .ne 8, 3) := dz_ok (by decide +kernel)
theorem kZ_d10 : decode xMfr.2.1 10 = .ok (.aload_n 0, 1) := dz_ok (by decide +kernel)
theorem kZ_d11 : decode xMfr.2.1 11 = .ok (.invokevirtual 102, 3) := dz_ok (by decide +kernel)
theorem kZ_d14 : decode xMfr.2.1 14 = .ok (.ireturn, 1) := dz_ok (by decide +kernel)
theorem kZ_d15 : decode xMfr.2.1 15 = .ok (.aload_n 0, 1) := dz_ok (by decide +kernel)
theorem kZ_d16 : decode xMfr.2.1 16 = .ok (.getfield 16, 3) := dz_ok (by decide +kernel)
theorem kZ_d19 : decode xMfr.2.1 19 = .ok (.iload_n 1, 1) := dz_ok (by decide +kernel)
theorem kZ_d20 : decode xMfr.2.1 20 = .ok (.baload, 1) := dz_ok (by decide +kernel)
theorem kZ_d21 : decode xMfr.2.1 21 = .ok (.ifCond .ne 8, 3) := dz_ok (by decide +kernel)
theorem kZ_d24 : decode xMfr.2.1 24 = .ok (.aload_n 0, 1) := dz_ok (by decide +kernel)
theorem kZ_d25 : decode xMfr.2.1 25 = .ok (.invokevirtual 126, 3) := dz_ok (by decide +kernel)
theorem kZ_d28 : decode xMfr.2.1 28 = .ok (.ireturn, 1) := dz_ok (by decide +kernel)
theorem kZ_d29 : decode xMfr.2.1 29 = .ok (.iconst 0, 1) := dz_ok (by decide +kernel)
theorem kZ_d30 : decode xMfr.2.1 30 = .ok (.istore_n 2, 1) := dz_ok (by decide +kernel)
theorem kZ_d31 : decode xMfr.2.1 31 = .ok (.iload_n 2, 1) := dz_ok (by decide +kernel)
theorem kZ_d32 : decode xMfr.2.1 32 = .ok (.sipush 160, 3) := dz_ok (by decide +kernel)
theorem kZ_d35 : decode xMfr.2.1 35 = .ok (.if_icmp .ge 27, 3) := dz_ok (by decide +kernel)
theorem kZ_d38 : decode xMfr.2.1 38 = .ok (.aload_n 0, 1) := dz_ok (by decide +kernel)
theorem kZ_d39 : decode xMfr.2.1 39 = .ok (.getfield 7, 3) := dz_ok (by decide +kernel)
theorem kZ_d42 : decode xMfr.2.1 42 = .ok (.iload_n 2, 1) := dz_ok (by decide +kernel)
theorem kZ_d43 : decode xMfr.2.1 43 = .ok (.aload_n 0, 1) := dz_ok (by decide +kernel)
theorem kZ_d44 : decode xMfr.2.1 44 = .ok (.getfield 13, 3) := dz_ok (by decide +kernel)
theorem kZ_d47 : decode xMfr.2.1 47 = .ok (.sipush 160, 3) := dz_ok (by decide +kernel)
theorem kZ_d50 : decode xMfr.2.1 50 = .ok (.iload_n 1, 1) := dz_ok (by decide +kernel)
theorem kZ_d51 : decode xMfr.2.1 51 = .ok (.imul, 1) := dz_ok (by decide +kernel)
theorem kZ_d52 : decode xMfr.2.1 52 = .ok (.iload_n 2, 1) := dz_ok (by decide +kernel)
theorem kZ_d53 : decode xMfr.2.1 53 = .ok (.iadd, 1) := dz_ok (by decide +kernel)
theorem kZ_d54 : decode xMfr.2.1 54 = .ok (.iaload, 1) := dz_ok (by decide +kernel)
theorem kZ_d55 : decode xMfr.2.1 55 = .ok (.iastore, 1) := dz_ok (by decide +kernel)
theorem kZ_d56 : decode xMfr.2.1 56 = .ok (.iinc 2 1, 3) := dz_ok (by decide +kernel)
theorem kZ_d59 : decode xMfr.2.1 59 = .ok (.goto (-28), 3) := dz_ok (by decide +kernel)
theorem kZ_d62 : decode xMfr.2.1 62 = .ok (.iconst 1, 1) := dz_ok (by decide +kernel)
theorem kZ_d63 : decode xMfr.2.1 63 = .ok (.ireturn, 1) := dz_ok (by decide +kernel)
theorem kZ_L31 {p : Program} {l : Launch} {e : Env} {s : State} {m : MethodId} {below : List Frame} {meth : Method} {c : Code} {D : va_G} {U : State} {Y0 : xY} {av : List Value} (B : y_B vwCl x_Tb x_Nb xMfr p s m meth c D U Y0 av) {this bk im mk : Nat} {i : Int32} {fb fi0 fk : Nat → Int32} (hav : av = [.ref this, .int i]) (hs0 : x_sl D 12 0 this s.heap = some (.ref bk)) (hs1 : x_sl D 12 1 this s.heap = some (.ref im)) (hs2 : x_sl D 12 2 this s.heap = some (.ref mk)) (hcn : z_c fb) (hA0 : y_A bk 160 s.heap fb) (hA1 : y_A im 320 s.heap fi0) (hA2 : y_A mk 2 s.heap fk) (hi : 0 ≤ i.toInt ∧ i.toInt ≤ 1) (hh : z_hd fun k => fi0 (160 * i.toInt + k).toNat) (hki : ¬ fk i.toInt.toNat = 0)  :
    ∀ (n : Nat), ∀ (H : Heap) (Y : xY) (locs : List Loc) (ls : Array Slot) (k : Int32) (fz : Nat → Int32), x_I D x_G x_Zs U (x_efs xMfr) Y0 s.heap Y H locs → Y this = some 17 → Y bk = some 46 → Y im = some 47 → Y mk = some 48 → x_sl D 12 0 this H = some (.ref bk) → x_sl D 12 1 this H = some (.ref im) → x_sl D 12 2 this H = some (.ref mk) → y_A bk 160 H fz → y_A im 320 H fi0 → y_A mk 2 H fk → lv_has ls xMfr.2.2.1 [(2, .int k), (0, .ref this), (1, .int i)] → (0 ≤ k.toInt ∧ k.toInt ≤ 160) → (∀ j : Nat, (j : Int) < k.toInt → fz j = fi0 (160 * i.toInt.toNat + j)) → (160 - k.toInt).toNat < n → W p l e (x_rm xMfr) s m av.toArray below meth c H locs 0 0 (y_QQ below D x_G x_Zs U xMfr z_PfrX av Y0 s) (F0 m 31 ls []) := by
  have X := B.1
  have hx := X.1
  have hb := X.2.1
  have hY0 := B.2.2.2.2.1
  intro n
  induction n with
  | zero => intro _ _ _ _ _ _ _ _ _ _ _ _ _ _ _ _ _ _ _ _ h; exact absurd h (Nat.not_lt_zero _)
  | succ n ih =>
    intro H Y locs ls k fz hI hY_this hY_bk hY_im hY_mk hs_bk hs_im hs_mk hA_bk hA_im hA_mk hl hk hfz hn
    refine lv_iload_n hx hb kZ_d31 rfl (lv_at hl 0 rfl) ?_
    refine lv_sipush hx hb kZ_d32 (v := 160) (by decide) ?_
    have ec160 : (160 : Int32).toInt = 160 := by decide
    refine lv_icmp_ge hx hb kZ_d35 (tgt := 62) (by decide) (fun q35 => ?_) (fun q35 => ?_)
    · have q35_ : (160 : Int32).toInt ≤ k.toInt := x_le32.mp q35
      refine lv_iconst hx hb kZ_d62 (v := 1) (by decide) ?_
      have ec1 : (1 : Int32).toInt = 1 := by decide
      subst hav
      exact y_ireturn B hI rfl rfl rfl List.mem_cons_self ⟨_, rfl, ⟨_, rfl, x_i32 _⟩⟩ (x_cs.mono B.2.2.2.2.2 (y_mon B hI)) (fun t' b' m' k' i' f' fi' fk' h1 h2 h3 h4 h5 h6 h7 h8 => by cases h1; cases h2.symm.trans hs0; cases h3.symm.trans hs1; cases h4.symm.trans hs2; cases z_uniq h6 hA0 h5 hcn; exact ⟨fun q9 => absurd hi q9, fun _ q9 => absurd ((z_AR hA2 h8 (by omega)).trans q9) hki, fun _ _ => ⟨rfl, fun j hj => by rw [hA_bk j hj, hfz j (by omega), z_AR hA1 h7 (by omega)]⟩⟩) (Nat.le_refl _) (Nat.le_refl _) kZ_d63
    · have q35_ : k.toInt < (160 : Int32).toInt := Int.not_le.mp fun q => q35 (x_le32.mpr q)
      refine lv_aload_n hx hb kZ_d38 rfl (lv_at hl 1 rfl) ?_
      refine y_getf X (fl190 X.2.2.2.2.1) hI.1 hY_this rfl hs_bk kZ_d39 ?_
      refine lv_iload_n hx hb kZ_d42 rfl (lv_at hl 0 rfl) ?_
      refine lv_aload_n hx hb kZ_d43 rfl (lv_at hl 1 rfl) ?_
      refine y_getf X (fl_im_239y X.2.2.2.2.1) hI.1 hY_this rfl hs_im kZ_d44 ?_
      refine lv_sipush hx hb kZ_d47 (v := 160) (by decide) ?_
      refine lv_iload_n hx hb kZ_d50 rfl (lv_at hl 2 rfl) ?_
      refine lv_imul hx hb kZ_d51 ?_
      generalize hg_z51 : (160 : Int32) * i = z51
      have h_z51 : z51.toInt = 160 * i.toInt := by rw [← hg_z51]; have := y_mul (x := (160 : Int32)) (y := i) (by rw [ec160]; omega) (by rw [ec160]; omega); rw [ec160] at this; exact this
      refine lv_iload_n hx hb kZ_d52 rfl (lv_at hl 0 rfl) ?_
      refine lv_iadd hx hb kZ_d53 ?_
      generalize hg_z53 : z51 + k = z53
      have h_z53 : z53.toInt = z51.toInt + k.toInt := by rw [← hg_z53]; have := y_add (x := z51) (y := k) (by omega) (by omega); exact this
      refine y_iald X hI.1 hY_im rfl hA_im (by omega) (by show _ < (320 : Int); omega) kZ_d54 ?_
      obtain ⟨e54, hg_e54⟩ : ∃ e54 : Int32, fi0 z53.toInt.toNat = e54 := ⟨_, rfl⟩
      rw [hg_e54]
      refine y_iast X hY0 hI hY_bk rfl hA_bk (by omega) (by show _ < (160 : Int); omega) (by have := z_hdc (Y := Y) hh k.toInt.toNat; rw [show (160 * i.toInt + (k.toInt.toNat : Int)).toNat = z53.toInt.toNat by omega, hg_e54] at this; exact this) (by decide +kernel) kZ_d55 fun H locs hI h_new ho => ?_
      replace hA_bk := h_new
      generalize hf_f55 : y_up fz k.toInt.toNat e54 = f55 at hA_bk
      replace hs_bk := y_slk hs_bk (ho _ (y_ne hY_this hY_bk rfl))
      replace hs_im := y_slk hs_im (ho _ (y_ne hY_this hY_bk rfl))
      replace hs_mk := y_slk hs_mk (ho _ (y_ne hY_this hY_bk rfl))
      replace hA_im := hA_im.kept (ho _ (y_ne hY_im hY_bk rfl))
      replace hA_mk := hA_mk.kept (ho _ (y_ne hY_mk hY_bk rfl))
      obtain ⟨z56, hg_z56⟩ : ∃ z56 : Int32, k + Int32.ofInt 1 = z56 := ⟨_, rfl⟩
      have h_z56 : z56.toInt = k.toInt + 1 := by rw [← hg_z56]; exact y_inc (by decide) (by omega) (by omega)
      refine lv_iinc hx hb kZ_d56 hl (k := 0) rfl hg_z56 (by decide) (lv' := [(2, .int z56), (0, .ref this), (1, .int i)]) rfl fun ls hl => ?_
      refine lv_goto hx hb kZ_d59 (tgt := 31) (by decide) ?_
      exact ih _ _ _ _ _ _ hI hY_this hY_bk hY_im hY_mk hs_bk hs_im hs_mk hA_bk hA_im hA_mk (lv_sub hl [0, 1, 2] rfl) (by first | assumption | omega) (fun j hj => by rw [← hf_f55]; by_cases ej : (j : Int) = k.toInt; (rw [show j = k.toInt.toNat by omega, y_up_at, ← hg_e54]; congr 1; omega); rw [y_up_ne (by omega)]; exact hfz j (by omega)) (by omega)
theorem ym_fromX : y_Met vwCl x_G x_Zs x_Tb x_Nb xMfr y_T z_PfrX := by
  refine y_main (by decide +kernel) (by decide +kernel) x_Tb_good x_Nb_ok ?_
  intro p l e s m below meth c D U Y0 av ls B hI _ hl
  have X := B.1
  have hx := X.1
  have hb := X.2.1
  have hY0 := B.2.2.2.2.1
  obtain ⟨v0, v1, rfl, hv0, ⟨i, rfl, -⟩⟩ := x_two B.2.2.2.2.2
  obtain ⟨this, t0, rfl, ht0, hY_this⟩ := x_ref_at hv0 rfl
  obtain rfl := List.mem_singleton.mp ht0
  replace hl : lv_has ls xMfr.2.2.1 [(0, .ref this), (1, .int i)] := hl
  obtain ⟨bk, hs_bk, hY_bk⟩ := y_fldR (k := 0) hI.1 hY_this rfl rfl
  obtain ⟨fb9, hA9, hB9⟩ := y_arr hI.1 hY_bk rfl rfl
  obtain ⟨fb, hcn, hA_bk, hB_bk⟩ := z_canon (Y := Y0) (P := fun j v => x_c Y0 ([xI 0 10, xI 0 8, xI 0 8].getD j xF) (.int v)) hA9 hB9
  clear hA9 hB9 fb9
  have hs0 := hs_bk
  have hA0 := hA_bk
  have hd := z_hdr hB_bk
  have hd0 := hd.1
  have hd1 := hd.2.1
  have hh := z_hdr hB_bk
  obtain ⟨im, hs_im, hY_im⟩ := y_fldR (k := 1) hI.1 hY_this rfl rfl
  obtain ⟨mk, hs_mk, hY_mk⟩ := y_fldR (k := 2) hI.1 hY_this rfl rfl
  obtain ⟨fi0, hA_im, hB_im⟩ := y_arr hI.1 hY_im rfl rfl
  obtain ⟨fk, hA_mk, hB_mk⟩ := y_arr hI.1 hY_mk rfl rfl
  replace hB_mk : ∀ j, j < 2 → (0 : Int) ≤ (fk j).toInt ∧ (fk j).toInt ≤ 1 := fun j hj => by obtain ⟨x, e0, e1⟩ := hB_mk j hj; cases e0; exact e1
  have hs1 := hs_im
  have hs2 := hs_mk
  have hA1 := hA_im
  have hA2 := hA_mk
  refine lv_iload_n hx hb kZ_d0 rfl (lv_at hl 1 rfl) ?_
  obtain ⟨z1, hg_z1⟩ : ∃ z1 : Int64, i.toInt64 = z1 := ⟨_, rfl⟩
  have h_z1 : z1.toInt = (i).toInt := by rw [← hg_z1]; exact Int32.toInt_toInt64 _
  refine lv_i2l hx hb kZ_d1 (v := z1) hg_z1 ?_
  refine lv_lconst hx hb kZ_d2 (v := 0) (by decide) ?_
  have el0 : (0 : Int64).toInt = 0 := by decide
  refine lv_lconst hx hb kZ_d3 (v := 1) (by decide) ?_
  have el1 : (1 : Int64).toInt = 1 := by decide
  refine y_call (z := (1, 87, 3, none, xM148)) (av := [.long z1, .long (0 : Int64), .long (1 : Int64)]) (rest := []) (y_cokS (n := 3) X ym_in (x_cons (x_bw67 11 rfl rfl) (x_cons (x_bw67 12 rfl rfl) (x_cons (x_bw0 9 rfl rfl) x_nilm))) (x_bw67 13 rfl rfl) (by decide +kernel) ⟨Nat.le_of_ble_eq_true rfl, Nat.le_of_ble_eq_true rfl⟩) hY0 hI rfl kZ_d4 hl.1 (Nat.le_of_ble_eq_true rfl) (Nat.le_of_ble_eq_true rfl) (Nat.le_of_ble_eq_true rfl) (y_cons ⟨_, rfl, x_i64 _⟩ (y_cons ⟨_, rfl, x_i64 _⟩ (y_cons ⟨_, rfl, x_i64 _⟩ y_nil))) rfl (y_norecv rfl) trivial (y_sub_ef rfl) fun v Yn o Hn L ho hr ha hIn hx_ hE hP => ?_
  replace hs_bk := y_Efld hE hY_this rfl (by decide) (by decide) hs_bk
  replace hs_im := y_Efld hE hY_this rfl (by decide) (by decide) hs_im
  replace hs_mk := y_Efld hE hY_this rfl (by decide) (by decide) hs_mk
  replace hA_bk := hA_bk.kept (y_Earr hE hY_bk rfl (by decide))
  replace hA_im := hA_im.kept (y_Earr hE hY_im rfl (by decide))
  replace hA_mk := hA_mk.kept (y_Earr hE hY_mk rfl (by decide))
  replace hY_this := y_ext hx_ hI.1 hY_this
  replace hY_bk := y_ext hx_ hI.1 hY_bk
  replace hY_im := y_ext hx_ hI.1 hY_im
  replace hY_mk := y_ext hx_ hI.1 hY_mk
  obtain ⟨r4, rfl, hin_r4, hout_r4⟩ := z_inR2 (hP _ _ _ rfl)
  clear ho hr ha hE hP hI hx_
  rename x_I _ _ _ _ _ _ _ _ _ _ => hI
  have ec0 : (0 : Int32).toInt = 0 := by decide
  refine lv_if_ne hx hb kZ_d7 (tgt := 15) (by decide) (fun q7 => ?_) (fun q7 => ?_)
  · have q7_ : ¬ r4.toInt = (0 : Int32).toInt := fun q => q7 (Int32.toInt_inj.mp q)
    have hi1 := hin_r4 (by assumption)
    have hi : 0 ≤ i.toInt ∧ i.toInt ≤ 1 := by omega
    have hh := z_hdi hi hB_im
    refine lv_aload_n hx hb kZ_d15 rfl (lv_at hl 0 rfl) ?_
    refine y_getf X (fl_im_238y X.2.2.2.2.1) hI.1 hY_this rfl hs_mk kZ_d16 ?_
    refine lv_iload_n hx hb kZ_d19 rfl (lv_at hl 1 rfl) ?_
    refine y_zald X hI.1 hY_mk rfl hA_mk (by omega) (by show _ < (2 : Int); omega) kZ_d20 ?_
    obtain ⟨e20, hg_e20⟩ : ∃ e20 : Int32, fk i.toInt.toNat = e20 := ⟨_, rfl⟩
    rw [hg_e20]
    have h_e20 : (0 : Int) ≤ e20.toInt ∧ e20.toInt ≤ 1 := by rw [← hg_e20]; exact hB_mk _ (by omega)
    refine lv_if_ne hx hb kZ_d21 (tgt := 29) (by decide) (fun q21 => ?_) (fun q21 => ?_)
    · have q21_ : ¬ e20.toInt = (0 : Int32).toInt := fun q => q21 (Int32.toInt_inj.mp q)
      have hki : ¬ fk i.toInt.toNat = 0 := fun q9 => (by assumption : ¬ e20 = 0) (hg_e20.symm.trans q9)
      refine lv_iconst hx hb kZ_d29 (v := 0) (by decide) ?_
      refine lv_istore_n hx hb kZ_d30 rfl hl (by decide) (lv' := [(2, .int (0 : Int32)), (0, .ref this), (1, .int i)]) rfl fun ls hl => ?_
      exact kZ_L31 B rfl hs0 hs1 hs2 hcn hA0 hA1 hA2 hi hh hki 161 _ _ _ _ _ _ hI hY_this hY_bk hY_im hY_mk hs_bk hs_im hs_mk hA_bk hA_im hA_mk (lv_sub hl [0, 1, 2] rfl) (by first | assumption | omega) (fun j hj => absurd hj (by omega)) (by omega)
    · have q21_ : e20.toInt = (0 : Int32).toInt := by rw [q21]
      refine lv_aload_n hx hb kZ_d24 rfl (lv_at hl 0 rfl) ?_
      refine y_call (z := (0, 126, 1, some 17, xM164)) (av := [.ref this]) (rest := []) (y_cokV (n := 0) (ci := 12) X ym_no rfl rfl rfl (x_cons (x_bw70 11 rfl rfl) (x_cons (x_bw70 13 rfl rfl) (x_cons (x_at 38 (by decide +kernel) rfl) (x_cons (x_bw0 9 rfl rfl) x_nilm)))) (x_bw70 14 rfl rfl) (by decide +kernel) ⟨Nat.le_of_ble_eq_true rfl, Nat.le_of_ble_eq_true rfl⟩) hY0 hI rfl kZ_d25 hl.1 (Nat.le_of_ble_eq_true rfl) (Nat.le_of_ble_eq_true rfl) (Nat.le_of_ble_eq_true rfl) (y_cons (y_cref hY_this rfl) y_nil) rfl (y_recv rfl hY_this) trivial (y_sub_ef rfl) fun v Yn o Hn L ho hr ha hIn hx_ hE hP => ?_
      replace hs_bk := y_Efld hE hY_this rfl (by decide) (by decide) hs_bk
      replace hs_im := y_Efld hE hY_this rfl (by decide) (by decide) hs_im
      replace hs_mk := y_Efld hE hY_this rfl (by decide) (by decide) hs_mk
      replace hA_bk := hA_bk.kept (y_Earr hE hY_bk rfl (by decide))
      replace hA_im := hA_im.kept (y_Earr hE hY_im rfl (by decide))
      replace hA_mk := hA_mk.kept (y_Earr hE hY_mk rfl (by decide))
      replace hY_this := y_ext hx_ hI.1 hY_this
      replace hY_bk := y_ext hx_ hI.1 hY_bk
      replace hY_im := y_ext hx_ hI.1 hY_im
      replace hY_mk := y_ext hx_ hI.1 hY_mk
      have hPb := hP
      obtain rfl := hPb
      clear ho hr ha hE hP hI hx_
      rename x_I _ _ _ _ _ _ _ _ _ _ => hI
      have hk0 : fk i.toInt.toNat = 0 := hg_e20.trans (Int32.toInt_inj.mp (by omega))
      exact y_ireturn B hI rfl rfl rfl List.mem_cons_self ⟨_, rfl, ⟨_, rfl, x_i32 _⟩⟩ (x_cs.mono B.2.2.2.2.2 (y_mon B hI)) (fun t' b' m' k' i' f' fi' fk' h1 h2 h3 h4 h5 h6 h7 h8 => by cases h1; cases h2.symm.trans hs0; cases h3.symm.trans hs1; cases h4.symm.trans hs2; cases z_uniq h6 hA0 h5 hcn; exact ⟨fun q9 => absurd hi q9, fun _ _ => ⟨rfl, hA_bk⟩, fun _ q9 => absurd ((z_AR h8 hA2 (by omega)).trans hk0) q9⟩) (Nat.le_refl _) (Nat.le_refl _) kZ_d28
  · have q7_ : r4.toInt = (0 : Int32).toInt := by rw [q7]
    have hi1 := hout_r4 (by assumption)
    refine lv_aload_n hx hb kZ_d10 rfl (lv_at hl 0 rfl) ?_
    refine y_call (z := (0, 102, 1, some 17, xM143)) (av := [.ref this]) (rest := []) (y_cokV (n := 0) (ci := 12) X ym_bad rfl rfl rfl (x_cons (x_bw68 3 rfl rfl) (x_cons (x_bw68 5 rfl rfl) (x_cons (x_at 32 (by decide +kernel) rfl) (x_cons (x_bw0 9 rfl rfl) x_nilm)))) (x_bw68 6 rfl rfl) (by decide +kernel) ⟨Nat.le_of_ble_eq_true rfl, Nat.le_of_ble_eq_true rfl⟩) hY0 hI rfl kZ_d11 hl.1 (Nat.le_of_ble_eq_true rfl) (Nat.le_of_ble_eq_true rfl) (Nat.le_of_ble_eq_true rfl) (y_cons (y_cref hY_this rfl) y_nil) rfl (y_recv rfl hY_this) trivial (y_sub_ef rfl) fun v Yn o Hn L ho hr ha hIn hx_ hE hP => ?_
    replace hs_bk := y_Efld hE hY_this rfl (by decide) (by decide) hs_bk
    replace hs_im := y_Efld hE hY_this rfl (by decide) (by decide) hs_im
    replace hs_mk := y_Efld hE hY_this rfl (by decide) (by decide) hs_mk
    replace hA_bk := hA_bk.kept (y_Earr hE hY_bk rfl (by decide))
    replace hA_im := hA_im.kept (y_Earr hE hY_im rfl (by decide))
    replace hA_mk := hA_mk.kept (y_Earr hE hY_mk rfl (by decide))
    replace hY_this := y_ext hx_ hI.1 hY_this
    replace hY_bk := y_ext hx_ hI.1 hY_bk
    replace hY_im := y_ext hx_ hI.1 hY_im
    replace hY_mk := y_ext hx_ hI.1 hY_mk
    have hPb := hP
    obtain rfl := hPb
    clear ho hr ha hE hP hI hx_
    rename x_I _ _ _ _ _ _ _ _ _ _ => hI
    exact y_ireturn B hI rfl rfl rfl List.mem_cons_self ⟨_, rfl, ⟨_, rfl, x_i32 _⟩⟩ (x_cs.mono B.2.2.2.2.2 (y_mon B hI)) (fun t' b' m' k' i' f' fi' fk' h1 h2 h3 h4 h5 h6 h7 h8 => by cases h1; cases h2.symm.trans hs0; cases h3.symm.trans hs1; cases h4.symm.trans hs2; cases z_uniq h6 hA0 h5 hcn; exact ⟨fun _ => ⟨rfl, hA_bk⟩, fun q9 => absurd q9 (by omega), fun q9 => absurd q9 (by omega)⟩) (Nat.le_refl _) (Nat.le_refl _) kZ_d14
def z_PbrX : yP := fun D av _ H _ _ H' => ∀ (this bk : Nat) (f : Nat → Int32), av = [.ref this] → x_sl D 12 0 this H = some (.ref bk) → z_c f → y_A bk 160 H f → y_A bk 160 H' (m_beg f)
def m_rowi (i : Nat) : Nat → Int32 := fun p => if p = 7 then 9 else if (136 ≤ p ∧ p < 136 + 2 * i) ∧ p % 2 = 0 then -1 else 0
theorem m_rowi0 : y_up (m_beg (fun _ => 0)) 7 9 = m_rowi 0 := by
  funext p
  unfold m_rowi
  by_cases h : p = 7
  · subst h; rw [y_up_at, if_pos rfl]
  · rw [y_up_ne h, if_neg h, if_neg (by omega)]
    unfold m_beg y_up
    repeat' split
    all_goals rfl
theorem m_rowiS {i : Nat} : y_up (m_rowi i) (136 + 2 * i) (-1) = m_rowi (i + 1) := by
  funext p
  by_cases h : p = 136 + 2 * i
  · subst h
    rw [y_up_at]
    unfold m_rowi
    rw [if_neg (by omega), if_pos (by omega)]
  · rw [y_up_ne h]
    unfold m_rowi
    by_cases h7 : p = 7
    · rw [if_pos h7, if_pos h7]
    · rw [if_neg h7, if_neg h7]
      by_cases h9 : (136 ≤ p ∧ p < 136 + 2 * i) ∧ p % 2 = 0
      · rw [if_pos h9, if_pos (by omega)]
      · rw [if_neg h9, if_neg (by omega)]
theorem m_row0c : z_c m_row0 := fun p hp => by
  unfold m_row0
  rw [if_neg (by omega), if_neg (by omega)]
theorem bZ_d0 : decode xMbr.2.1 0 = .ok (.aload_n 0, 1) := dz_ok (by decide +kernel)
theorem bZ_d1 : decode xMbr.2.1 1 = .ok (.getfield 7, 3) := dz_ok (by decide +kernel)
theorem bZ_d4 : decode xMbr.2.1 4 = .ok (.iconst 0, 1) := dz_ok (by decide +kernel)
theorem bZ_d5 : decode xMbr.2.1 5 = .ok (.iconst 0, 1) := dz_ok (by decide +kernel)
theorem bZ_d6 : decode xMbr.2.1 6 = .ok (.iastore, 1) := dz_ok (by decide +kernel)
theorem bZ_d7 : decode xMbr.2.1 7 = .ok (.aload_n 0, 1) := dz_ok (by decide +kernel)
theorem bZ_d8 : decode xMbr.2.1 8 = .ok (.getfield 7, 3) := dz_ok (by decide +kernel)
theorem bZ_d11 : decode xMbr.2.1 11 = .ok (.iconst 1, 1) := dz_ok (by decide +kernel)
theorem bZ_d12 : decode xMbr.2.1 12 = .ok (.iconst 0, 1) := dz_ok (by decide +kernel)
theorem bZ_d13 : decode xMbr.2.1 13 = .ok (.iastore, 1) := dz_ok (by decide +kernel)
theorem bZ_d14 : decode xMbr.2.1 14 = .ok (.aload_n 0, 1) := dz_ok (by decide +kernel)
theorem bZ_d15 : decode xMbr.2.1 15 = .ok (.getfield 7, 3) := dz_ok (by decide +kernel)
theorem bZ_d18 : decode xMbr.2.1 18 = .ok (.iconst 4, 1) := dz_ok (by decide +kernel)
theorem bZ_d19 : decode xMbr.2.1 19 = .ok (.iconst 0, 1) := dz_ok (by decide +kernel)
theorem bZ_d20 : decode xMbr.2.1 20 = .ok (.iastore, 1) := dz_ok (by decide +kernel)
theorem bZ_d21 : decode xMbr.2.1 21 = .ok (.aload_n 0, 1) := dz_ok (by decide +kernel)
theorem bZ_d22 : decode xMbr.2.1 22 = .ok (.getfield 7, 3) := dz_ok (by decide +kernel)
theorem bZ_d25 : decode xMbr.2.1 25 = .ok (.iconst 5, 1) := dz_ok (by decide +kernel)
theorem bZ_d26 : decode xMbr.2.1 26 = .ok (.iconst 0, 1) := dz_ok (by decide +kernel)
theorem bZ_d27 : decode xMbr.2.1 27 = .ok (.iastore, 1) := dz_ok (by decide +kernel)
theorem bZ_d28 : decode xMbr.2.1 28 = .ok (.aload_n 0, 1) := dz_ok (by decide +kernel)
theorem bZ_d29 : decode xMbr.2.1 29 = .ok (.getfield 7, 3) := dz_ok (by decide +kernel)
theorem bZ_d32 : decode xMbr.2.1 32 = .ok (.bipush 6, 2) := dz_ok (by decide +kernel)
theorem bZ_d34 : decode xMbr.2.1 34 = .ok (.iconst 0, 1) := dz_ok (by decide +kernel)
theorem bZ_d35 : decode xMbr.2.1 35 = .ok (.iastore, 1) := dz_ok (by decide +kernel)
theorem bZ_d36 : decode xMbr.2.1 36 = .ok (.return_, 1) := dz_ok (by decide +kernel)
theorem ym_begRawX : y_Met vwCl x_G x_Zs x_Tb x_Nb xMbr z_Abr z_PbrX := by
  refine y_main (by decide +kernel) (by decide +kernel) x_Tb_good x_Nb_ok ?_
  intro p l e s m below meth c D U Y0 av ls B hI hA0 hl
  have X := B.1
  have hx := X.1
  have hb := X.2.1
  have hY0 := B.2.2.2.2.1
  obtain ⟨v0, rfl, hv0⟩ := x_one B.2.2.2.2.2
  obtain ⟨this, t0, rfl, ht0, hY_this⟩ := x_ref_at hv0 rfl
  obtain rfl := List.mem_singleton.mp ht0
  replace hl : lv_has ls xMbr.2.2.1 [(0, .ref this)] := hl
  obtain ⟨bk, hs_bk, hY_bk⟩ := hA0 _ rfl
  obtain ⟨fb8, hA8, hB8⟩ := y_arr hI.1 hY_bk rfl rfl
  obtain ⟨fb, hcn, hA_bk, hB_bk⟩ := z_canon (Y := Y0) (P := fun j v => x_c Y0 ([xI 0 10, xI 0 8, xI 0 8].getD j xF) (.int v)) hA8 hB8
  have hs0 := hs_bk
  have hA9 := hA_bk
  refine lv_aload_n hx hb bZ_d0 rfl (lv_at hl 0 rfl) ?_
  refine y_getf X (fl_bZ_240 X.2.2.2.2.1) hI.1 hY_this rfl hs_bk bZ_d1 ?_
  refine lv_iconst hx hb bZ_d4 (v := 0) (by decide) ?_
  have ec0 : (0 : Int32).toInt = 0 := by decide
  refine lv_iconst hx hb bZ_d5 (v := 0) (by decide) ?_
  refine y_iast X hY0 hI hY_bk rfl hA_bk (by omega) (by show _ < (160 : Int); omega) (by show x_c _ (xI 0 10) _; exact ⟨_, rfl, by decide, by decide⟩) (by decide +kernel) bZ_d6 fun H locs hI h_new ho => ?_
  replace hA_bk := h_new
  generalize hf_f6 : y_up fb (0 : Int32).toInt.toNat (0 : Int32) = f6 at hA_bk
  replace hs_bk := y_slk hs_bk (ho _ (y_ne hY_this hY_bk rfl))
  refine lv_aload_n hx hb bZ_d7 rfl (lv_at hl 0 rfl) ?_
  refine y_getf X (fl_bZ_240 X.2.2.2.2.1) hI.1 hY_this rfl hs_bk bZ_d8 ?_
  refine lv_iconst hx hb bZ_d11 (v := 1) (by decide) ?_
  have ec1 : (1 : Int32).toInt = 1 := by decide
  refine lv_iconst hx hb bZ_d12 (v := 0) (by decide) ?_
  refine y_iast X hY0 hI hY_bk rfl hA_bk (by omega) (by show _ < (160 : Int); omega) (by show x_c _ (xI 0 8) _; exact ⟨_, rfl, by decide, by decide⟩) (by decide +kernel) bZ_d13 fun H locs hI h_new ho => ?_
  replace hA_bk := h_new
  generalize hf_f13 : y_up f6 (1 : Int32).toInt.toNat (0 : Int32) = f13 at hA_bk
  replace hs_bk := y_slk hs_bk (ho _ (y_ne hY_this hY_bk rfl))
  refine lv_aload_n hx hb bZ_d14 rfl (lv_at hl 0 rfl) ?_
  refine y_getf X (fl_bZ_240 X.2.2.2.2.1) hI.1 hY_this rfl hs_bk bZ_d15 ?_
  refine lv_iconst hx hb bZ_d18 (v := 4) (by decide) ?_
  have ec4 : (4 : Int32).toInt = 4 := by decide
  refine lv_iconst hx hb bZ_d19 (v := 0) (by decide) ?_
  refine y_iast X hY0 hI hY_bk rfl hA_bk (by omega) (by show _ < (160 : Int); omega) (by show x_c _ (xF) _; exact ⟨_, rfl, by decide, by decide⟩) (by decide +kernel) bZ_d20 fun H locs hI h_new ho => ?_
  replace hA_bk := h_new
  generalize hf_f20 : y_up f13 (4 : Int32).toInt.toNat (0 : Int32) = f20 at hA_bk
  replace hs_bk := y_slk hs_bk (ho _ (y_ne hY_this hY_bk rfl))
  refine lv_aload_n hx hb bZ_d21 rfl (lv_at hl 0 rfl) ?_
  refine y_getf X (fl_bZ_240 X.2.2.2.2.1) hI.1 hY_this rfl hs_bk bZ_d22 ?_
  refine lv_iconst hx hb bZ_d25 (v := 5) (by decide) ?_
  have ec5 : (5 : Int32).toInt = 5 := by decide
  refine lv_iconst hx hb bZ_d26 (v := 0) (by decide) ?_
  refine y_iast X hY0 hI hY_bk rfl hA_bk (by omega) (by show _ < (160 : Int); omega) (by show x_c _ (xF) _; exact ⟨_, rfl, by decide, by decide⟩) (by decide +kernel) bZ_d27 fun H locs hI h_new ho => ?_
  replace hA_bk := h_new
  generalize hf_f27 : y_up f20 (5 : Int32).toInt.toNat (0 : Int32) = f27 at hA_bk
  replace hs_bk := y_slk hs_bk (ho _ (y_ne hY_this hY_bk rfl))
  refine lv_aload_n hx hb bZ_d28 rfl (lv_at hl 0 rfl) ?_
  refine y_getf X (fl_bZ_240 X.2.2.2.2.1) hI.1 hY_this rfl hs_bk bZ_d29 ?_
  refine lv_bipush hx hb bZ_d32 (v := 6) (by decide) ?_
  have ec6 : (6 : Int32).toInt = 6 := by decide
  refine lv_iconst hx hb bZ_d34 (v := 0) (by decide) ?_
  refine y_iast X hY0 hI hY_bk rfl hA_bk (by omega) (by show _ < (160 : Int); omega) (by show x_c _ (xF) _; exact ⟨_, rfl, by decide, by decide⟩) (by decide +kernel) bZ_d35 fun H locs hI h_new ho => ?_
  replace hA_bk := h_new
  generalize hf_f35 : y_up f27 (6 : Int32).toInt.toNat (0 : Int32) = f35 at hA_bk
  replace hs_bk := y_slk hs_bk (ho _ (y_ne hY_this hY_bk rfl))
  exact y_return B hI rfl rfl List.mem_cons_self rfl (x_cs.mono B.2.2.2.2.2 (y_mon B hI)) (fun t' b' f' h1 h2 h3 h4 => by cases h1; cases h2.symm.trans hs0; cases z_uniq h4 hA9 h3 hcn; unfold m_beg; rw [show (0 : Nat) = (0 : Int32).toInt.toNat by decide, show (1 : Nat) = (1 : Int32).toInt.toNat by decide, show (4 : Nat) = (4 : Int32).toInt.toNat by decide, show (5 : Nat) = (5 : Int32).toInt.toNat by decide, show (6 : Nat) = (6 : Int32).toInt.toNat by decide, hf_f6, hf_f13, hf_f20, hf_f27, hf_f35]; exact hA_bk) (Nat.le_refl _) (Nat.le_refl _) bZ_d36
