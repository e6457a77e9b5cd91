theorem z_inR3 {v : Option Value} {x lo hi : Int64} (h : (v = some (.int 1) ∧ lo.toInt ≤ x.toInt ∧ x.toInt ≤ hi.toInt) ∨ (v = some (.int 0) ∧ (x.toInt < lo.toInt ∨ hi.toInt < x.toInt))) : ∃ r : Int32, v = some (.int r) ∧ (r = 0 ∨ r = 1) ∧ (¬ r = 0 → lo.toInt ≤ x.toInt ∧ x.toInt ≤ hi.toInt) ∧ (r = 0 → ¬ (lo.toInt ≤ x.toInt ∧ x.toInt ≤ hi.toInt)) := by
  rcases h with ⟨h1, h2⟩ | ⟨h1, h2⟩
  · exact ⟨1, h1, Or.inr rfl, fun _ => h2, fun q => absurd q (by decide)⟩
  · exact ⟨0, h1, Or.inl rfl, fun q => absurd rfl q, fun _ q => by omega⟩
theorem z_hdf {f g : Nat → Int32} (h : z_hd f) (e : ∀ j, j < 3 → g j = f j) : z_hd g := ⟨by rw [e 0 (by decide)]; exact h.1, by rw [e 1 (by decide)]; exact h.2.1, by rw [e 2 (by decide)]; exact h.2.2⟩
def z_PbeX : yP := fun D av _ H v _ H' => ∀ (this bk : Nat)  (f : Nat → Int32), av = [.ref this] → x_sl D 12 0 this H = some (.ref bk) → z_c f → y_A bk 160 H f → y_A bk 160 H' (m_beg f)
theorem bg_d0 : decode xM140.2.1 0 = .ok (.aload_n 0, 1) := dz_ok (by decide +kernel)
theorem bg_d1 : decode xM140.2.1 1 = .ok (.getfield 7, 3) := dz_ok (by decide +kernel)
theorem bg_d4 : decode xM140.2.1 4 = .ok (.iconst 0, 1) := dz_ok (by decide +kernel)
theorem bg_d5 : decode xM140.2.1 5 = .ok (.iconst 0, 1) := dz_ok (by decide +kernel)
theorem bg_d6 : decode xM140.2.1 6 = .ok (.iastore, 1) := dz_ok (by decide +kernel)
theorem bg_d7 : decode xM140.2.1 7 = .ok (.aload_n 0, 1) := dz_ok (by decide +kernel)
theorem bg_d8 : decode xM140.2.1 8 = .ok (.getfield 7, 3) := dz_ok (by decide +kernel)
theorem bg_d11 : decode xM140.2.1 11 = .ok (.iconst 1, 1) := dz_ok (by decide +kernel)
theorem bg_d12 : decode xM140.2.1 12 = .ok (.iconst 0, 1) := dz_ok (by decide +kernel)
theorem bg_d13 : decode xM140.2.1 13 = .ok (.iastore, 1) := dz_ok (by decide +kernel)
theorem bg_d14 : decode xM140.2.1 14 = .ok (.aload_n 0, 1) := dz_ok (by decide +kernel)
theorem bg_d15 : decode xM140.2.1 15 = .ok (.getfield 7, 3) := dz_ok (by decide +kernel)
theorem bg_d18 : decode xM140.2.1 18 = .ok (.iconst 4, 1) := dz_ok (by decide +kernel)
theorem bg_d19 : decode xM140.2.1 19 = .ok (.iconst 0, 1) := dz_ok (by decide +kernel)
theorem bg_d20 : decode xM140.2.1 20 = .ok (.iastore, 1) := dz_ok (by decide +kernel)
theorem bg_d21 : decode xM140.2.1 21 = .ok (.aload_n 0, 1) := dz_ok (by decide +kernel)
theorem bg_d22 : decode xM140.2.1 22 = .ok (.getfield 7, 3) := dz_ok (by decide +kernel)
theorem bg_d25 : decode xM140.2.1 25 = .ok (.iconst 5, 1) := dz_ok (by decide +kernel)
theorem bg_d26 : decode xM140.2.1 26 = .ok (.iconst 0, 1) := dz_ok (by decide +kernel)
theorem bg_d27 : decode xM140.2.1 27 = .ok (.iastore, 1) := dz_ok (by decide +kernel)
theorem bg_d28 : decode xM140.2.1 28 = .ok (.aload_n 0, 1) := dz_ok (by decide +kernel)
theorem bg_d29 : decode xM140.2.1 29 = .ok (.getfield 7, 3) := dz_ok (by decide +kernel)
theorem bg_d32 : decode xM140.2.1 32 = .ok (.bipush 6, 2) := dz_ok (by decide +kernel)
theorem bg_d34 : decode xM140.2.1 34 = .ok (.iconst 0, 1) := dz_ok (by decide +kernel)
theorem bg_d35 : decode xM140.2.1 35 = .ok (.iastore, 1) := dz_ok (by decide +kernel)
theorem bg_d36 : decode xM140.2.1 36 = .ok (.return_, 1) := dz_ok (by decide +kernel)
theorem ym_begX : y_Met vwCl x_G x_Zs x_Tb x_Nb xM140 y_T z_PbeX := by
  refine y_main (by decide +kernel) (by decide +kernel) x_Tb_good x_Nb_ok ?_
  intro p l e s m below meth c D U Y0 av ls B hI _ hl
  have X := B.1
  have hx := X.1
  have hb := X.2.1
  have hY0 := B.2.2.2.2.1
  obtain ⟨v0, rfl, hv0⟩ := x_one B.2.2.2.2.2
  obtain ⟨this, t0, rfl, ht0, hY_this⟩ := x_ref_at hv0 rfl
  obtain rfl := List.mem_singleton.mp ht0
  replace hl : lv_has ls xM140.2.2.1 [(0, .ref this)] := hl
  obtain ⟨bk, hs_bk, hY_bk⟩ := y_fldR (k := 0) hI.1 hY_this rfl rfl
  obtain ⟨fb9, hA9, hB9⟩ := y_arr hI.1 hY_bk rfl rfl
  obtain ⟨fb, hcn, hA_bk, hB_bk⟩ := z_canon (Y := Y0) (P := fun j v => x_c Y0 ([xI 0 10, xI 0 8, xI 0 8].getD j xF) (.int v)) hA9 hB9
  clear hA9 hB9 fb9
  have hs0 := hs_bk
  have hA0 := hA_bk
  have hd := z_hdr hB_bk
  have hd0 := hd.1
  have hd1 := hd.2.1
  refine lv_aload_n hx hb bg_d0 rfl (lv_at hl 0 rfl) ?_
  refine y_getf X (fl190 X.2.2.2.2.1) hI.1 hY_this rfl hs_bk bg_d1 ?_
  refine lv_iconst hx hb bg_d4 (v := 0) (by decide) ?_
  have ec0 : (0 : Int32).toInt = 0 := by decide
  refine lv_iconst hx hb bg_d5 (v := 0) (by decide) ?_
  refine y_iast X hY0 hI hY_bk rfl hA_bk (by omega) (by show _ < (160 : Int); omega) (by show x_c _ (xI 0 10) _; exact ⟨_, rfl, by decide, by decide⟩) (by decide +kernel) bg_d6 fun H locs hI h_new ho => ?_
  replace hA_bk := h_new
  generalize hf_f6 : y_up fb (0 : Int32).toInt.toNat (0 : Int32) = f6 at hA_bk
  replace hs_bk := y_slk hs_bk (ho _ (y_ne hY_this hY_bk rfl))
  refine lv_aload_n hx hb bg_d7 rfl (lv_at hl 0 rfl) ?_
  refine y_getf X (fl190 X.2.2.2.2.1) hI.1 hY_this rfl hs_bk bg_d8 ?_
  refine lv_iconst hx hb bg_d11 (v := 1) (by decide) ?_
  have ec1 : (1 : Int32).toInt = 1 := by decide
  refine lv_iconst hx hb bg_d12 (v := 0) (by decide) ?_
  refine y_iast X hY0 hI hY_bk rfl hA_bk (by omega) (by show _ < (160 : Int); omega) (by show x_c _ (xI 0 8) _; exact ⟨_, rfl, by decide, by decide⟩) (by decide +kernel) bg_d13 fun H locs hI h_new ho => ?_
  replace hA_bk := h_new
  generalize hf_f13 : y_up f6 (1 : Int32).toInt.toNat (0 : Int32) = f13 at hA_bk
  replace hs_bk := y_slk hs_bk (ho _ (y_ne hY_this hY_bk rfl))
  refine lv_aload_n hx hb bg_d14 rfl (lv_at hl 0 rfl) ?_
  refine y_getf X (fl190 X.2.2.2.2.1) hI.1 hY_this rfl hs_bk bg_d15 ?_
  refine lv_iconst hx hb bg_d18 (v := 4) (by decide) ?_
  have ec4 : (4 : Int32).toInt = 4 := by decide
  refine lv_iconst hx hb bg_d19 (v := 0) (by decide) ?_
  refine y_iast X hY0 hI hY_bk rfl hA_bk (by omega) (by show _ < (160 : Int); omega) (by show x_c _ (xF) _; exact ⟨_, rfl, x_i32 _⟩) (by decide +kernel) bg_d20 fun H locs hI h_new ho => ?_
  replace hA_bk := h_new
  generalize hf_f20 : y_up f13 (4 : Int32).toInt.toNat (0 : Int32) = f20 at hA_bk
  replace hs_bk := y_slk hs_bk (ho _ (y_ne hY_this hY_bk rfl))
  refine lv_aload_n hx hb bg_d21 rfl (lv_at hl 0 rfl) ?_
  refine y_getf X (fl190 X.2.2.2.2.1) hI.1 hY_this rfl hs_bk bg_d22 ?_
  refine lv_iconst hx hb bg_d25 (v := 5) (by decide) ?_
  have ec5 : (5 : Int32).toInt = 5 := by decide
  refine lv_iconst hx hb bg_d26 (v := 0) (by decide) ?_
  refine y_iast X hY0 hI hY_bk rfl hA_bk (by omega) (by show _ < (160 : Int); omega) (by show x_c _ (xF) _; exact ⟨_, rfl, x_i32 _⟩) (by decide +kernel) bg_d27 fun H locs hI h_new ho => ?_
  replace hA_bk := h_new
  generalize hf_f27 : y_up f20 (5 : Int32).toInt.toNat (0 : Int32) = f27 at hA_bk
  replace hs_bk := y_slk hs_bk (ho _ (y_ne hY_this hY_bk rfl))
  refine lv_aload_n hx hb bg_d28 rfl (lv_at hl 0 rfl) ?_
  refine y_getf X (fl190 X.2.2.2.2.1) hI.1 hY_this rfl hs_bk bg_d29 ?_
  refine lv_bipush hx hb bg_d32 (v := 6) (by decide) ?_
  have ec6 : (6 : Int32).toInt = 6 := by decide
  refine lv_iconst hx hb bg_d34 (v := 0) (by decide) ?_
  refine y_iast X hY0 hI hY_bk rfl hA_bk (by omega) (by show _ < (160 : Int); omega) (by show x_c _ (xF) _; exact ⟨_, rfl, x_i32 _⟩) (by decide +kernel) bg_d35 fun H locs hI h_new ho => ?_
  replace hA_bk := h_new
  generalize hf_f35 : y_up f27 (6 : Int32).toInt.toNat (0 : Int32) = f35 at hA_bk
  replace hs_bk := y_slk hs_bk (ho _ (y_ne hY_this hY_bk rfl))
  exact y_return B hI rfl rfl List.mem_cons_self rfl (x_cs.mono B.2.2.2.2.2 (y_mon B hI)) (fun t' b'  f' h1 h2 h3 h4 => by cases h1; cases h2.symm.trans hs0; cases z_uniq h4 hA0 h3 hcn; exact by unfold m_beg; rw [show (0 : Nat) = (0 : Int32).toInt.toNat by decide, show (1 : Nat) = (1 : Int32).toInt.toNat by decide, show (4 : Nat) = (4 : Int32).toInt.toNat by decide, show (5 : Nat) = (5 : Int32).toInt.toNat by decide, show (6 : Nat) = (6 : Int32).toInt.toNat by decide, hf_f6, hf_f13, hf_f20, hf_f27, hf_f35]; exact hA_bk) (Nat.le_refl _) (Nat.le_refl _) bg_d36
def z_PhX : yP := fun D av _ H v _ H' => ∀ (this bk : Nat) (t : Int32) (f : Nat → Int32), av = [.ref this, .int t] → x_sl D 12 0 this H = some (.ref bk) → z_c f → y_A bk 160 H f → ∃ r : Int32, v = some (.int r) ∧ (¬ r = 0 → m_isH f t) ∧ (r = 0 → ¬ m_isH f t)
theorem hX_d0 : decode xM171.2.1 0 = .ok (.iload_n 1, 1) := dz_ok (by decide +kernel)
theorem hX_d1 : decode xM171.2.1 1 = .ok (.i2l, 1) := dz_ok (by decide +kernel)
theorem hX_d2 : decode xM171.2.1 2 = .ok (.lconst 0, 1) := dz_ok (by decide +kernel)
theorem hX_d3 : decode xM171.2.1 3 = .ok (.aload_n 0, 1) := dz_ok (by decide +kernel)
theorem hX_d4 : decode xM171.2.1 4 = .ok (.getfield 7, 3) := dz_ok (by decide +kernel)
theorem hX_d7 : decode xM171.2.1 7 = .ok (.iconst 0, 1) := dz_ok (by decide +kernel)
theorem hX_d8 : decode xM171.2.1 8 = .ok (.iaload, 1) := dz_ok (by decide +kernel)
theorem hX_d9 : decode xM171.2.1 9 = .ok (.iconst 1, 1) := dz_ok (by decide +kernel)
theorem hX_d10 : decode xM171.2.1 10 = .ok (.isub, 1) := dz_ok (by decide +kernel)
theorem hX_d11 : decode xM171.2.1 11 = .ok (.i2l, 1) := dz_ok (by decide +kernel)
theorem hX_d12 : decode xM171.2.1 12 = .ok (.invokestatic 87, 3) := dz_ok (by decide +kernel)
theorem hX_d15 : decode xM171.2.1 15 = .ok (.ireturn, 1) := dz_ok (by decide +kernel)
theorem ym_isHillX : y_Met vwCl x_G x_Zs x_Tb x_Nb xM171 y_T z_PhX := by
  refine y_main (by decide +kernel) (by decide +kernel) x_Tb_good x_Nb_ok ?_
  intro p l e s m below meth c D U Y0 av ls B hI _ hl
  have X := B.1
  have hx := X.1
  have hb := X.2.1
  have hY0 := B.2.2.2.2.1
  obtain ⟨v0, v1, rfl, hv0, ⟨t, rfl, -⟩⟩ := x_two B.2.2.2.2.2
  obtain ⟨this, t0, rfl, ht0, hY_this⟩ := x_ref_at hv0 rfl
  obtain rfl := List.mem_singleton.mp ht0
  replace hl : lv_has ls xM171.2.2.1 [(0, .ref this), (1, .int t)] := hl
  obtain ⟨bk, hs_bk, hY_bk⟩ := y_fldR (k := 0) hI.1 hY_this rfl rfl
  obtain ⟨fb9, hA9, hB9⟩ := y_arr hI.1 hY_bk rfl rfl
  obtain ⟨fb, hcn, hA_bk, hB_bk⟩ := z_canon (Y := Y0) (P := fun j v => x_c Y0 ([xI 0 10, xI 0 8, xI 0 8].getD j xF) (.int v)) hA9 hB9
  clear hA9 hB9 fb9
  have hs0 := hs_bk
  have hA0 := hA_bk
  have hd := z_hdr hB_bk
  have hd0 := hd.1
  have hd1 := hd.2.1
  refine lv_iload_n hx hb hX_d0 rfl (lv_at hl 1 rfl) ?_
  obtain ⟨z1, hg_z1⟩ : ∃ z1 : Int64, t.toInt64 = z1 := ⟨_, rfl⟩
  have h_z1 : z1.toInt = (t).toInt := by rw [← hg_z1]; exact Int32.toInt_toInt64 _
  refine lv_i2l hx hb hX_d1 (v := z1) hg_z1 ?_
  refine lv_lconst hx hb hX_d2 (v := 0) (by decide) ?_
  have el0 : (0 : Int64).toInt = 0 := by decide
  refine lv_aload_n hx hb hX_d3 rfl (lv_at hl 0 rfl) ?_
  refine y_getf X (fl190 X.2.2.2.2.1) hI.1 hY_this rfl hs_bk hX_d4 ?_
  refine lv_iconst hx hb hX_d7 (v := 0) (by decide) ?_
  have ec0 : (0 : Int32).toInt = 0 := by decide
  refine y_iald X hI.1 hY_bk rfl hA_bk (by omega) (by show _ < (160 : Int); omega) hX_d8 ?_
  obtain ⟨e8, hg_e8⟩ : ∃ e8 : Int32, fb (0 : Int32).toInt.toNat = e8 := ⟨_, rfl⟩
  rw [hg_e8]
  rw [z_i0] at hg_e8
  have h_e8 : e8.toInt = (fb 0).toInt := by rw [hg_e8]
  refine lv_iconst hx hb hX_d9 (v := 1) (by decide) ?_
  have ec1 : (1 : Int32).toInt = 1 := by decide
  refine lv_isub hx hb hX_d10 ?_
  generalize hg_z10 : e8 - (1 : Int32) = z10
  have h_z10 : z10.toInt = e8.toInt - 1 := by rw [← hg_z10]; have := y_sub (x := e8) (y := (1 : Int32)) (by rw [ec1]; omega) (by rw [ec1]; omega); rw [ec1] at this; exact this
  obtain ⟨z11, hg_z11⟩ : ∃ z11 : Int64, z10.toInt64 = z11 := ⟨_, rfl⟩
  have h_z11 : z11.toInt = (z10).toInt := by rw [← hg_z11]; exact Int32.toInt_toInt64 _
  refine lv_i2l hx hb hX_d11 (v := z11) hg_z11 ?_
  refine y_call (z := (1, 87, 3, none, xM148)) (av := [.long z1, .long (0 : Int64), .long z11]) (rest := []) (y_cokS (n := 3) X ym_in (x_cons (x_bw67 11 rfl rfl) (x_cons (x_bw67 12 rfl rfl) (x_cons (x_bw0 9 rfl rfl) x_nilm))) (x_bw67 13 rfl rfl) (by decide +kernel) ⟨Nat.le_of_ble_eq_true rfl, Nat.le_of_ble_eq_true rfl⟩) hY0 hI rfl hX_d12 hl.1 (Nat.le_of_ble_eq_true rfl) (Nat.le_of_ble_eq_true rfl) (Nat.le_of_ble_eq_true rfl) (y_cons ⟨_, rfl, x_i64 _⟩ (y_cons ⟨_, rfl, x_i64 _⟩ (y_cons ⟨_, rfl, x_i64 _⟩ y_nil))) rfl (y_norecv rfl) trivial (y_sub_ef rfl) fun v Yn o Hn L ho hr ha hIn hx_ hE hP => ?_
  replace hs_bk := y_Efld hE hY_this rfl (by decide) (by decide) hs_bk
  replace hA_bk := hA_bk.kept (y_Earr hE hY_bk rfl (by decide))
  replace hY_this := y_ext hx_ hI.1 hY_this
  replace hY_bk := y_ext hx_ hI.1 hY_bk
  obtain ⟨r12, rfl, h01, hin_r12, hout_r12⟩ := z_inR3 (hP _ _ _ rfl)
  clear ho hr ha hE hP hI hx_
  rename x_I _ _ _ _ _ _ _ _ _ _ => hI
  rcases h01 with e01 | e01
  · subst e01
    exact y_ireturn B hI rfl rfl rfl List.mem_cons_self ⟨_, rfl, ⟨_, rfl, by decide, by decide⟩⟩ (x_cs.mono B.2.2.2.2.2 (y_mon B hI)) (fun t' b' w0' f' h1 h2 h3 h4 => by cases h1; cases h2.symm.trans hs0; cases z_uniq h4 hA0 h3 hcn; exact ⟨_, rfl, fun q9 => absurd rfl q9, fun _ q9 => by have h9 := hout_r12 rfl; unfold m_isH at q9; omega⟩) (Nat.le_refl _) (Nat.le_refl _) hX_d15
  · subst e01
    have h8 := hin_r12 (by decide)
    exact y_ireturn B hI rfl rfl rfl (List.mem_cons_of_mem _ List.mem_cons_self) ⟨_, rfl, ⟨_, rfl, by decide, by decide⟩⟩ (z_cs22 (y_cref hY_this rfl) ⟨_, rfl, by show (0 : Int) ≤ _; omega, by show _ ≤ (9 : Int); omega⟩) (fun t' b' w0' f' h1 h2 h3 h4 => by cases h1; cases h2.symm.trans hs0; cases z_uniq h4 hA0 h3 hcn; exact ⟨_, rfl, fun _ => by have h9 := hin_r12 (by decide); unfold m_isH; omega, fun q9 => absurd q9 (by decide)⟩) (Nat.le_refl _) (Nat.le_refl _) hX_d15
def z_PyX : yP := fun D av _ H v _ H' => ∀ (this bk : Nat) (t : Int32) (f : Nat → Int32), av = [.ref this, .int t] → x_sl D 12 0 this H = some (.ref bk) → z_c f → y_A bk 160 H f → ∃ r : Int32, v = some (.int r) ∧ (¬ r = 0 → m_isT f t) ∧ (r = 0 → ¬ m_isT f t)
theorem yX_d0 : decode xM162.2.1 0 = .ok (.iload_n 1, 1) := dz_ok (by decide +kernel)
theorem yX_d1 : decode xM162.2.1 1 = .ok (.i2l, 1) := dz_ok (by decide +kernel)
theorem yX_d2 : decode xM162.2.1 2 = .ok (.lconst 0, 1) := dz_ok (by decide +kernel)
theorem yX_d3 : decode xM162.2.1 3 = .ok (.aload_n 0, 1) := dz_ok (by decide +kernel)
theorem yX_d4 : decode xM162.2.1 4 = .ok (.getfield 7, 3) := dz_ok (by decide +kernel)
theorem yX_d7 : decode xM162.2.1 7 = .ok (.iconst 1, 1) := dz_ok (by decide +kernel)
theorem yX_d8 : decode xM162.2.1 8 = .ok (.iaload, 1) := dz_ok (by decide +kernel)
theorem yX_d9 : decode xM162.2.1 9 = .ok (.iconst 1, 1) := dz_ok (by decide +kernel)
theorem yX_d10 : decode xM162.2.1 10 = .ok (.isub, 1) := dz_ok (by decide +kernel)
theorem yX_d11 : decode xM162.2.1 11 = .ok (.i2l, 1) := dz_ok (by decide +kernel)
theorem yX_d12 : decode xM162.2.1 12 = .ok (.invokestatic 87, 3) := dz_ok (by decide +kernel)
theorem yX_d15 : decode xM162.2.1 15 = .ok (.ireturn, 1) := dz_ok (by decide +kernel)
theorem ym_isThingX : y_Met vwCl x_G x_Zs x_Tb x_Nb xM162 y_T z_PyX := by
  refine y_main (by decide +kernel) (by decide +kernel) x_Tb_good x_Nb_ok ?_
  intro p l e s m below meth c D U Y0 av ls B hI _ hl
  have X := B.1
  have hx := X.1
  have hb := X.2.1
  have hY0 := B.2.2.2.2.1
  obtain ⟨v0, v1, rfl, hv0, ⟨t, rfl, -⟩⟩ := x_two B.2.2.2.2.2
  obtain ⟨this, t0, rfl, ht0, hY_this⟩ := x_ref_at hv0 rfl
  obtain rfl := List.mem_singleton.mp ht0
  replace hl : lv_has ls xM162.2.2.1 [(0, .ref this), (1, .int t)] := hl
  obtain ⟨bk, hs_bk, hY_bk⟩ := y_fldR (k := 0) hI.1 hY_this rfl rfl
  obtain ⟨fb9, hA9, hB9⟩ := y_arr hI.1 hY_bk rfl rfl
  obtain ⟨fb, hcn, hA_bk, hB_bk⟩ := z_canon (Y := Y0) (P := fun j v => x_c Y0 ([xI 0 10, xI 0 8, xI 0 8].getD j xF) (.int v)) hA9 hB9
  clear hA9 hB9 fb9
  have hs0 := hs_bk
  have hA0 := hA_bk
  have hd := z_hdr hB_bk
  have hd0 := hd.1
  have hd1 := hd.2.1
  refine lv_iload_n hx hb yX_d0 rfl (lv_at hl 1 rfl) ?_
  obtain ⟨z1, hg_z1⟩ : ∃ z1 : Int64, t.toInt64 = z1 := ⟨_, rfl⟩
  have h_z1 : z1.toInt = (t).toInt := by rw [← hg_z1]; exact Int32.toInt_toInt64 _
  refine lv_i2l hx hb yX_d1 (v := z1) hg_z1 ?_
  refine lv_lconst hx hb yX_d2 (v := 0) (by decide) ?_
  have el0 : (0 : Int64).toInt = 0 := by decide
  refine lv_aload_n hx hb yX_d3 rfl (lv_at hl 0 rfl) ?_
  refine y_getf X (fl190 X.2.2.2.2.1) hI.1 hY_this rfl hs_bk yX_d4 ?_
  refine lv_iconst hx hb yX_d7 (v := 1) (by decide) ?_
  have ec1 : (1 : Int32).toInt = 1 := by decide
  refine y_iald X hI.1 hY_bk rfl hA_bk (by omega) (by show _ < (160 : Int); omega) yX_d8 ?_
  obtain ⟨e8, hg_e8⟩ : ∃ e8 : Int32, fb (1 : Int32).toInt.toNat = e8 := ⟨_, rfl⟩
  rw [hg_e8]
  rw [z_i1] at hg_e8
  have h_e8 : e8.toInt = (fb 1).toInt := by rw [hg_e8]
  refine lv_iconst hx hb yX_d9 (v := 1) (by decide) ?_
  refine lv_isub hx hb yX_d10 ?_
  generalize hg_z10 : e8 - (1 : Int32) = z10
  have h_z10 : z10.toInt = e8.toInt - 1 := by rw [← hg_z10]; have := y_sub (x := e8) (y := (1 : Int32)) (by rw [ec1]; omega) (by rw [ec1]; omega); rw [ec1] at this; exact this
  obtain ⟨z11, hg_z11⟩ : ∃ z11 : Int64, z10.toInt64 = z11 := ⟨_, rfl⟩
  have h_z11 : z11.toInt = (z10).toInt := by rw [← hg_z11]; exact Int32.toInt_toInt64 _
  refine lv_i2l hx hb yX_d11 (v := z11) hg_z11 ?_
  refine y_call (z := (1, 87, 3, none, xM148)) (av := [.long z1, .long (0 : Int64), .long z11]) (rest := []) (y_cokS (n := 3) X ym_in (x_cons (x_bw67 11 rfl rfl) (x_cons (x_bw67 12 rfl rfl) (x_cons (x_bw0 9 rfl rfl) x_nilm))) (x_bw67 13 rfl rfl) (by decide +kernel) ⟨Nat.le_of_ble_eq_true rfl, Nat.le_of_ble_eq_true rfl⟩) hY0 hI rfl yX_d12 hl.1 (Nat.le_of_ble_eq_true rfl) (Nat.le_of_ble_eq_true rfl) (Nat.le_of_ble_eq_true rfl) (y_cons ⟨_, rfl, x_i64 _⟩ (y_cons ⟨_, rfl, x_i64 _⟩ (y_cons ⟨_, rfl, x_i64 _⟩ y_nil))) rfl (y_norecv rfl) trivial (y_sub_ef rfl) fun v Yn o Hn L ho hr ha hIn hx_ hE hP => ?_
  replace hs_bk := y_Efld hE hY_this rfl (by decide) (by decide) hs_bk
  replace hA_bk := hA_bk.kept (y_Earr hE hY_bk rfl (by decide))
  replace hY_this := y_ext hx_ hI.1 hY_this
  replace hY_bk := y_ext hx_ hI.1 hY_bk
  obtain ⟨r12, rfl, h01, hin_r12, hout_r12⟩ := z_inR3 (hP _ _ _ rfl)
  clear ho hr ha hE hP hI hx_
  rename x_I _ _ _ _ _ _ _ _ _ _ => hI
  rcases h01 with e01 | e01
  · subst e01
    exact y_ireturn B hI rfl rfl rfl List.mem_cons_self ⟨_, rfl, ⟨_, rfl, by decide, by decide⟩⟩ (x_cs.mono B.2.2.2.2.2 (y_mon B hI)) (fun t' b' w0' f' h1 h2 h3 h4 => by cases h1; cases h2.symm.trans hs0; cases z_uniq h4 hA0 h3 hcn; exact ⟨_, rfl, fun q9 => absurd rfl q9, fun _ q9 => by have h9 := hout_r12 rfl; unfold m_isT at q9; omega⟩) (Nat.le_refl _) (Nat.le_refl _) yX_d15
  · subst e01
    have h8 := hin_r12 (by decide)
    exact y_ireturn B hI rfl rfl rfl (List.mem_cons_of_mem _ List.mem_cons_self) ⟨_, rfl, ⟨_, rfl, by decide, by decide⟩⟩ (z_cs22 (y_cref hY_this rfl) ⟨_, rfl, by show (0 : Int) ≤ _; omega, by show _ ≤ (7 : Int); omega⟩) (fun t' b' w0' f' h1 h2 h3 h4 => by cases h1; cases h2.symm.trans hs0; cases z_uniq h4 hA0 h3 hcn; exact ⟨_, rfl, fun _ => by have h9 := hin_r12 (by decide); unfold m_isT; omega, fun q9 => absurd q9 (by decide)⟩) (Nat.le_refl _) (Nat.le_refl _) yX_d15
def z_Pco : yP := fun D av _ H v _ H' => ∀ (this bk : Nat) (t w : Int32) (f : Nat → Int32), av = [.ref this, .int t, .int w] → x_sl D 12 0 this H = some (.ref bk) → z_c f → y_A bk 160 H f → ∃ (r : Int32) (g : Nat → Int32), v = some (.int r) ∧ y_A bk 160 H' g ∧ m_at (m_isT f t ∧ 0 ≤ w.toInt ∧ w.toInt ≤ 99) (-2) f (66 + 7 * t.toInt.toNat) w r g
theorem co_d0 : decode xM166.2.1 0 = .ok (.aload_n 0, 1) := dz_ok (by decide +kernel)
theorem co_d1 : decode xM166.2.1 1 = .ok (.iload_n 1, 1) := dz_ok (by decide +kernel)
theorem co_d2 : decode xM166.2.1 2 = .ok (.invokevirtual 119, 3) := dz_ok (by decide +kernel)
theorem co_d5 : decode xM166.2.1 5 = .ok (.ifCond .eq 33, 3) := dz_ok (by decide +kernel)
theorem co_d8 : decode xM166.2.1 8 = .ok (.iload_n 2, 1) := dz_ok (by decide +kernel)
theorem co_d9 : decode xM166.2.1 9 = .ok (.i2l, 1) := dz_ok (by decide +kernel)
theorem co_d10 : decode xM166.2.1 10 = .ok (.lconst 0, 1) := dz_ok (by decide +kernel)
theorem co_d11 : decode xM166.2.1 11 = .ok (.ldc2_w 97, 3) := dz_ok (by decide +kernel)
theorem co_d14 : decode xM166.2.1 14 = .ok (.invokestatic 87, 3) := dz_ok (by decide +kernel)
theorem co_d17 : decode xM166.2.1 17 = .ok (.ifCond .eq 21, 3) := dz_ok (by decide +kernel)
theorem co_d20 : decode xM166.2.1 20 = .ok (.aload_n 0, 1) := dz_ok (by decide +kernel)
theorem co_d21 : decode xM166.2.1 21 = .ok (.bipush 60, 2) := dz_ok (by decide +kernel)
theorem co_d23 : decode xM166.2.1 23 = .ok (.bipush 7, 2) := dz_ok (by decide +kernel)
theorem co_d25 : decode xM166.2.1 25 = .ok (.iload_n 1, 1) := dz_ok (by decide +kernel)
theorem co_d26 : decode xM166.2.1 26 = .ok (.imul, 1) := dz_ok (by decide +kernel)
theorem co_d27 : decode xM166.2.1 27 = .ok (.iadd, 1) := dz_ok (by decide +kernel)
theorem co_d28 : decode xM166.2.1 28 = .ok (.bipush 6, 2) := dz_ok (by decide +kernel)
theorem co_d30 : decode xM166.2.1 30 = .ok (.iadd, 1) := dz_ok (by decide +kernel)
theorem co_d31 : decode xM166.2.1 31 = .ok (.iload_n 2, 1) := dz_ok (by decide +kernel)
theorem co_d32 : decode xM166.2.1 32 = .ok (.invokevirtual 116, 3) := dz_ok (by decide +kernel)
theorem co_d35 : decode xM166.2.1 35 = .ok (.goto 7, 3) := dz_ok (by decide +kernel)
theorem co_d38 : decode xM166.2.1 38 = .ok (.aload_n 0, 1) := dz_ok (by decide +kernel)
theorem co_d39 : decode xM166.2.1 39 = .ok (.invokevirtual 102, 3) := dz_ok (by decide +kernel)
theorem co_d42 : decode xM166.2.1 42 = .ok (.ireturn, 1) := dz_ok (by decide +kernel)
theorem ym_costX : y_Met vwCl x_G x_Zs x_Tb x_Nb xM166 y_T z_Pco := by
  refine y_main (by decide +kernel) (by decide +kernel) x_Tb_good x_Nb_ok ?_
  intro p l e s m below meth c D U Y0 av ls B hI _ hl
  have X := B.1
  have hx := X.1
  have hb := X.2.1
  have hY0 := B.2.2.2.2.1
  obtain ⟨v0, v1, v2, rfl, hv0, ⟨t, rfl, -⟩, ⟨w, rfl, -⟩⟩ := y_three B.2.2.2.2.2
  obtain ⟨this, t0, rfl, ht0, hY_this⟩ := x_ref_at hv0 rfl
  obtain rfl := List.mem_singleton.mp ht0
  replace hl : lv_has ls xM166.2.2.1 [(0, .ref this), (1, .int t), (2, .int w)] := hl
  obtain ⟨bk, hs_bk, hY_bk⟩ := y_fldR (k := 0) hI.1 hY_this rfl rfl
  obtain ⟨fb9, hA9, hB9⟩ := y_arr hI.1 hY_bk rfl rfl
  obtain ⟨fb, hcn, hA_bk, hB_bk⟩ := z_canon (Y := Y0) (P := fun j v => x_c Y0 ([xI 0 10, xI 0 8, xI 0 8].getD j xF) (.int v)) hA9 hB9
  clear hA9 hB9 fb9
  have hs0 := hs_bk
  have hA0 := hA_bk
  have hd := z_hdr hB_bk
  have hd0 := hd.1
  have hd1 := hd.2.1
  refine lv_aload_n hx hb co_d0 rfl (lv_at hl 0 rfl) ?_
  refine lv_iload_n hx hb co_d1 rfl (lv_at hl 1 rfl) ?_
  refine y_call (z := (0, 119, 2, some 17, xM162)) (av := [.ref this, .int t]) (rest := []) (y_cokV (n := 1) (ci := 12) X ym_isThingX rfl rfl rfl (x_cons (x_bw70 3 rfl rfl) (x_cons (x_bw70 5 rfl rfl) (x_cons (x_at 36 (by decide +kernel) rfl) (x_cons (x_bw0 9 rfl rfl) x_nilm)))) (x_bw70 6 rfl rfl) (by decide +kernel) ⟨Nat.le_of_ble_eq_true rfl, Nat.le_of_ble_eq_true rfl⟩) hY0 hI rfl co_d2 hl.1 (Nat.le_of_ble_eq_true rfl) (Nat.le_of_ble_eq_true rfl) (Nat.le_of_ble_eq_true rfl) (y_cons (y_cref hY_this rfl) (y_cons ⟨_, rfl, x_i32 _⟩ y_nil)) rfl (y_recv rfl hY_this) trivial (y_sub_ef rfl) fun v Yn o Hn L ho hr ha hIn hx_ hE hP => ?_
  have hPq := hP _ _ _ _ rfl hs_bk hcn hA_bk
  replace hs_bk := y_Efld hE hY_this rfl (by decide) (by decide) hs_bk
  replace hA_bk := hA_bk.kept (y_Earr hE hY_bk rfl (by decide))
  replace hY_this := y_ext hx_ hI.1 hY_this
  replace hY_bk := y_ext hx_ hI.1 hY_bk
  obtain ⟨r2, rfl, hin_r2, hout_r2⟩ := hPq
  clear ho hr ha hE hP hI hx_
  rename x_I _ _ _ _ _ _ _ _ _ _ => hI
  have ec0 : (0 : Int32).toInt = 0 := by decide
  refine lv_if_eq hx hb co_d5 (tgt := 38) (by decide) (fun q5 => ?_) (fun q5 => ?_)
  · have q5_ : r2.toInt = (0 : Int32).toInt := by rw [q5]
    have hno : ¬ (m_isT fb t ∧ 0 ≤ w.toInt ∧ w.toInt ≤ 99) := fun q9 => by first | (exact hout_r2 (by assumption) q9.1) | (have := hout_r14 (by assumption); omega)
    refine lv_aload_n hx hb co_d38 rfl (lv_at hl 0 rfl) ?_
    refine y_call (z := (0, 102, 1, some 17, xM143)) (av := [.ref this]) (rest := []) (y_cokV (n := 0) (ci := 12) X ym_bad rfl rfl rfl (x_cons (x_bw68 3 rfl rfl) (x_cons (x_bw68 5 rfl rfl) (x_cons (x_at 32 (by decide +kernel) rfl) (x_cons (x_bw0 9 rfl rfl) x_nilm)))) (x_bw68 6 rfl rfl) (by decide +kernel) ⟨Nat.le_of_ble_eq_true rfl, Nat.le_of_ble_eq_true rfl⟩) hY0 hI rfl co_d39 hl.1 (Nat.le_of_ble_eq_true rfl) (Nat.le_of_ble_eq_true rfl) (Nat.le_of_ble_eq_true rfl) (y_cons (y_cref hY_this rfl) y_nil) rfl (y_recv rfl hY_this) trivial (y_sub_ef rfl) fun v Yn o Hn L ho hr ha hIn hx_ hE hP => ?_
    replace hs_bk := y_Efld hE hY_this rfl (by decide) (by decide) hs_bk
    replace hA_bk := hA_bk.kept (y_Earr hE hY_bk rfl (by decide))
    replace hY_this := y_ext hx_ hI.1 hY_this
    replace hY_bk := y_ext hx_ hI.1 hY_bk
    have hPb := hP
    obtain rfl := hPb
    clear ho hr ha hE hP hI hx_
    rename x_I _ _ _ _ _ _ _ _ _ _ => hI
    exact y_ireturn B hI rfl rfl rfl List.mem_cons_self ⟨_, rfl, ⟨_, rfl, x_i32 _⟩⟩ (x_cs.mono B.2.2.2.2.2 (y_mon B hI)) (fun t' b' w0' w1' f' h1 h2 h3 h4 => by cases h1; cases h2.symm.trans hs0; cases z_uniq h4 hA0 h3 hcn; exact ⟨_, _, rfl, hA_bk, fun _ => ⟨rfl, rfl⟩, fun q9 => absurd q9 hno⟩) (Nat.le_refl _) (Nat.le_refl _) co_d42
  · have q5_ : ¬ r2.toInt = (0 : Int32).toInt := fun q => q5 (Int32.toInt_inj.mp q)
    refine lv_iload_n hx hb co_d8 rfl (lv_at hl 2 rfl) ?_
    obtain ⟨z9, hg_z9⟩ : ∃ z9 : Int64, w.toInt64 = z9 := ⟨_, rfl⟩
    have h_z9 : z9.toInt = (w).toInt := by rw [← hg_z9]; exact Int32.toInt_toInt64 _
    refine lv_i2l hx hb co_d9 (v := z9) hg_z9 ?_
    refine lv_lconst hx hb co_d10 (v := 0) (by decide) ?_
    have el0 : (0 : Int64).toInt = 0 := by decide
    refine lv_ldc2 hx hb X.2.2.2.1 (v := 99) (X.2.2.2.2.1 _ (x_bw67 14 rfl rfl)) co_d11 ?_
    have el99 : (99 : Int64).toInt = 99 := by decide
    refine y_call (z := (1, 87, 3, none, xM148)) (av := [.long z9, .long (0 : Int64), .long (99 : Int64)]) (rest := []) (y_cokS (n := 3) X ym_in (x_cons (x_bw67 11 rfl rfl) (x_cons (x_bw67 12 rfl rfl) (x_cons (x_bw0 9 rfl rfl) x_nilm))) (x_bw67 13 rfl rfl) (by decide +kernel) ⟨Nat.le_of_ble_eq_true rfl, Nat.le_of_ble_eq_true rfl⟩) hY0 hI rfl co_d14 hl.1 (Nat.le_of_ble_eq_true rfl) (Nat.le_of_ble_eq_true rfl) (Nat.le_of_ble_eq_true rfl) (y_cons ⟨_, rfl, x_i64 _⟩ (y_cons ⟨_, rfl, x_i64 _⟩ (y_cons ⟨_, rfl, x_i64 _⟩ y_nil))) rfl (y_norecv rfl) trivial (y_sub_ef rfl) fun v Yn o Hn L ho hr ha hIn hx_ hE hP => ?_
    replace hs_bk := y_Efld hE hY_this rfl (by decide) (by decide) hs_bk
    replace hA_bk := hA_bk.kept (y_Earr hE hY_bk rfl (by decide))
    replace hY_this := y_ext hx_ hI.1 hY_this
    replace hY_bk := y_ext hx_ hI.1 hY_bk
    obtain ⟨r14, rfl, hin_r14, hout_r14⟩ := z_inR2 (hP _ _ _ rfl)
    clear ho hr ha hE hP hI hx_
    rename x_I _ _ _ _ _ _ _ _ _ _ => hI
    refine lv_if_eq hx hb co_d17 (tgt := 38) (by decide) (fun q17 => ?_) (fun q17 => ?_)
    · have q17_ : r14.toInt = (0 : Int32).toInt := by rw [q17]
      have hno : ¬ (m_isT fb t ∧ 0 ≤ w.toInt ∧ w.toInt ≤ 99) := fun q9 => by first | (exact hout_r2 (by assumption) q9.1) | (have := hout_r14 (by assumption); omega)
      refine lv_aload_n hx hb co_d38 rfl (lv_at hl 0 rfl) ?_
      refine y_call (z := (0, 102, 1, some 17, xM143)) (av := [.ref this]) (rest := []) (y_cokV (n := 0) (ci := 12) X ym_bad rfl rfl rfl (x_cons (x_bw68 3 rfl rfl) (x_cons (x_bw68 5 rfl rfl) (x_cons (x_at 32 (by decide +kernel) rfl) (x_cons (x_bw0 9 rfl rfl) x_nilm)))) (x_bw68 6 rfl rfl) (by decide +kernel) ⟨Nat.le_of_ble_eq_true rfl, Nat.le_of_ble_eq_true rfl⟩) hY0 hI rfl co_d39 hl.1 (Nat.le_of_ble_eq_true rfl) (Nat.le_of_ble_eq_true rfl) (Nat.le_of_ble_eq_true rfl) (y_cons (y_cref hY_this rfl) y_nil) rfl (y_recv rfl hY_this) trivial (y_sub_ef rfl) fun v Yn o Hn L ho hr ha hIn hx_ hE hP => ?_
      replace hs_bk := y_Efld hE hY_this rfl (by decide) (by decide) hs_bk
      replace hA_bk := hA_bk.kept (y_Earr hE hY_bk rfl (by decide))
      replace hY_this := y_ext hx_ hI.1 hY_this
      replace hY_bk := y_ext hx_ hI.1 hY_bk
      have hPb := hP
      obtain rfl := hPb
      clear ho hr ha hE hP hI hx_
      rename x_I _ _ _ _ _ _ _ _ _ _ => hI
      exact y_ireturn B hI rfl rfl rfl List.mem_cons_self ⟨_, rfl, ⟨_, rfl, x_i32 _⟩⟩ (x_cs.mono B.2.2.2.2.2 (y_mon B hI)) (fun t' b' w0' w1' f' h1 h2 h3 h4 => by cases h1; cases h2.symm.trans hs0; cases z_uniq h4 hA0 h3 hcn; exact ⟨_, _, rfl, hA_bk, fun _ => ⟨rfl, rfl⟩, fun q9 => absurd q9 hno⟩) (Nat.le_refl _) (Nat.le_refl _) co_d42
    · have q17_ : ¬ r14.toInt = (0 : Int32).toInt := fun q => q17 (Int32.toInt_inj.mp q)
      have hw1 := hin_r2 (by assumption)
      have hw2 := hin_r14 (by assumption)
      have hw3 := hw1
      unfold m_isT at hw3
      have hok : m_isT fb t ∧ 0 ≤ w.toInt ∧ w.toInt ≤ 99 := ⟨hw1, by omega, by omega⟩
      refine lv_aload_n hx hb co_d20 rfl (lv_at hl 0 rfl) ?_
      refine lv_bipush hx hb co_d21 (v := 60) (by decide) ?_
      have ec60 : (60 : Int32).toInt = 60 := by decide
      refine lv_bipush hx hb co_d23 (v := 7) (by decide) ?_
      have ec7 : (7 : Int32).toInt = 7 := by decide
      refine lv_iload_n hx hb co_d25 rfl (lv_at hl 1 rfl) ?_
      refine lv_imul hx hb co_d26 ?_
      generalize hg_z26 : (7 : Int32) * t = z26
      have h_z26 : z26.toInt = 7 * t.toInt := by rw [← hg_z26]; have := y_mul (x := (7 : Int32)) (y := t) (by rw [ec7]; omega) (by rw [ec7]; omega); rw [ec7] at this; exact this
      refine lv_iadd hx hb co_d27 ?_
      generalize hg_z27 : (60 : Int32) + z26 = z27
      have h_z27 : z27.toInt = 60 + z26.toInt := by rw [← hg_z27]; have := y_add (x := (60 : Int32)) (y := z26) (by rw [ec60]; omega) (by rw [ec60]; omega); rw [ec60] at this; exact this
      refine lv_bipush hx hb co_d28 (v := 6) (by decide) ?_
      have ec6 : (6 : Int32).toInt = 6 := by decide
      refine lv_iadd hx hb co_d30 ?_
      generalize hg_z30 : z27 + (6 : Int32) = z30
      have h_z30 : z30.toInt = z27.toInt + 6 := by rw [← hg_z30]; have := y_add (x := z27) (y := (6 : Int32)) (by rw [ec6]; omega) (by rw [ec6]; omega); rw [ec6] at this; exact this
      refine lv_iload_n hx hb co_d31 rfl (lv_at hl 2 rfl) ?_
      refine y_call (z := (0, 116, 3, some 17, xM160)) (av := [.ref this, .int z30, .int w]) (rest := []) (y_cokV (n := 2) (ci := 12) X ym_putsR rfl rfl rfl (x_cons (x_bw69 11 rfl rfl) (x_cons (x_bw69 13 rfl rfl) (x_cons (x_at 35 (by decide +kernel) rfl) (x_cons (x_bw0 9 rfl rfl) x_nilm)))) (x_bw69 14 rfl rfl) (by decide +kernel) ⟨Nat.le_of_ble_eq_true rfl, Nat.le_of_ble_eq_true rfl⟩) hY0 hI rfl co_d32 hl.1 (Nat.le_of_ble_eq_true rfl) (Nat.le_of_ble_eq_true rfl) (Nat.le_of_ble_eq_true rfl) (y_cons (y_cref hY_this rfl) (y_cons ⟨_, rfl, by show (3 : Int) ≤ _; omega, by show _ ≤ (159 : Int); omega⟩ (y_cons ⟨_, rfl, x_i32 _⟩ y_nil))) rfl (y_recv rfl hY_this) trivial (y_sub_ef rfl) fun v Yn o Hn L ho hr ha hIn hx_ hE hP => ?_
      have hPu := hP _ _ _ _ _ rfl hs_bk hA_bk
      have hix := (show z30.toInt.toNat = z30.toInt.toNat from rfl)
      replace hs_bk := y_Efld hE hY_this rfl (by decide) (by decide) hs_bk
      replace hY_this := y_ext hx_ hI.1 hY_this
      replace hY_bk := y_ext hx_ hI.1 hY_bk
      obtain ⟨rfl, hA_n⟩ := hPu
      clear ho hr ha hE hP hI hx_
      rename x_I _ _ _ _ _ _ _ _ _ _ => hI
      refine lv_goto hx hb co_d35 (tgt := 42) (by decide) ?_
      have hz : z30.toInt.toNat = 66 + 7 * t.toInt.toNat := by omega
      rw [hz] at hA_n ⊢
      exact y_ireturn B hI rfl rfl rfl List.mem_cons_self ⟨_, rfl, ⟨_, rfl, x_i32 _⟩⟩ (x_cs.mono B.2.2.2.2.2 (y_mon B hI)) (fun t' b' w0' w1' f' h1 h2 h3 h4 => by cases h1; cases h2.symm.trans hs0; cases z_uniq h4 hA0 h3 hcn; exact ⟨_, _, rfl, hA_n, fun q9 => absurd hok q9, fun _ => ⟨rfl, rfl⟩⟩) (Nat.le_refl _) (Nat.le_refl _) co_d42
def z_Prp : yP := fun D av _ H v _ H' => ∀ (this bk : Nat) (t w : Int32) (f : Nat → Int32), av = [.ref this, .int t, .int w] → x_sl D 12 0 this H = some (.ref bk) → z_c f → y_A bk 160 H f → ∃ (r : Int32) (g : Nat → Int32), v = some (.int r) ∧ y_A bk 160 H' g ∧ m_at (m_isH f t ∧ -1 ≤ w.toInt ∧ w.toInt ≤ 9) (-10) f (13 + 5 * t.toInt.toNat) w r g
theorem rp_d0 : decode xM213.2.1 0 = .ok (.aload_n 0, 1) := dz_ok (by decide +kernel)
theorem rp_d1 : decode xM213.2.1 1 = .ok (.iload_n 1, 1) := dz_ok (by decide +kernel)
theorem rp_d2 : decode xM213.2.1 2 = .ok (.invokevirtual 151, 3) := dz_ok (by decide +kernel)
theorem rp_d5 : decode xM213.2.1 5 = .ok (.ifCond .eq 33, 3) := dz_ok (by decide +kernel)
theorem rp_d8 : decode xM213.2.1 8 = .ok (.iload_n 2, 1) := dz_ok (by decide +kernel)
theorem rp_d9 : decode xM213.2.1 9 = .ok (.i2l, 1) := dz_ok (by decide +kernel)
theorem rp_d10 : decode xM213.2.1 10 = .ok (.ldc2_w 246, 3) := dz_ok (by decide +kernel)
theorem rp_d13 : decode xM213.2.1 13 = .ok (.ldc2_w 110, 3) := dz_ok (by decide +kernel)
theorem rp_d16 : decode xM213.2.1 16 = .ok (.invokestatic 87, 3) := dz_ok (by decide +kernel)
theorem rp_d19 : decode xM213.2.1 19 = .ok (.ifCond .eq 19, 3) := dz_ok (by decide +kernel)
theorem rp_d22 : decode xM213.2.1 22 = .ok (.aload_n 0, 1) := dz_ok (by decide +kernel)
theorem rp_d23 : decode xM213.2.1 23 = .ok (.bipush 10, 2) := dz_ok (by decide +kernel)
theorem rp_d25 : decode xM213.2.1 25 = .ok (.iconst 5, 1) := dz_ok (by decide +kernel)
theorem rp_d26 : decode xM213.2.1 26 = .ok (.iload_n 1, 1) := dz_ok (by decide +kernel)
theorem rp_d27 : decode xM213.2.1 27 = .ok (.imul, 1) := dz_ok (by decide +kernel)
theorem rp_d28 : decode xM213.2.1 28 = .ok (.iadd, 1) := dz_ok (by decide +kernel)
theorem rp_d29 : decode xM213.2.1 29 = .ok (.iconst 3, 1) := dz_ok (by decide +kernel)
theorem rp_d30 : decode xM213.2.1 30 = .ok (.iadd, 1) := dz_ok (by decide +kernel)
theorem rp_d31 : decode xM213.2.1 31 = .ok (.iload_n 2, 1) := dz_ok (by decide +kernel)
theorem rp_d32 : decode xM213.2.1 32 = .ok (.invokevirtual 116, 3) := dz_ok (by decide +kernel)
theorem rp_d35 : decode xM213.2.1 35 = .ok (.goto 10, 3) := dz_ok (by decide +kernel)
theorem rp_d38 : decode xM213.2.1 38 = .ok (.aload_n 0, 1) := dz_ok (by decide +kernel)
theorem rp_d39 : decode xM213.2.1 39 = .ok (.iconst 0, 1) := dz_ok (by decide +kernel)
theorem rp_d40 : decode xM213.2.1 40 = .ok (.bipush (-10), 2) := dz_ok (by decide +kernel)
theorem rp_d42 : decode xM213.2.1 42 = .ok (.invokevirtual 76, 3) := dz_ok (by decide +kernel)
theorem rp_d45 : decode xM213.2.1 45 = .ok (.ireturn, 1) := dz_ok (by decide +kernel)
theorem ym_reportX : y_Met vwCl x_G x_Zs x_Tb x_Nb xM213 y_T z_Prp := by
  refine y_main (by decide +kernel) (by decide +kernel) x_Tb_good x_Nb_ok ?_
  intro p l e s m below meth c D U Y0 av ls B hI _ hl
  have X := B.1
  have hx := X.1
  have hb := X.2.1
  have hY0 := B.2.2.2.2.1
  obtain ⟨v0, v1, v2, rfl, hv0, ⟨t, rfl, -⟩, ⟨w, rfl, -⟩⟩ := y_three B.2.2.2.2.2
  obtain ⟨this, t0, rfl, ht0, hY_this⟩ := x_ref_at hv0 rfl
  obtain rfl := List.mem_singleton.mp ht0
  replace hl : lv_has ls xM213.2.2.1 [(0, .ref this), (1, .int t), (2, .int w)] := hl
  obtain ⟨bk, hs_bk, hY_bk⟩ := y_fldR (k := 0) hI.1 hY_this rfl rfl
  obtain ⟨fb9, hA9, hB9⟩ := y_arr hI.1 hY_bk rfl rfl
  obtain ⟨fb, hcn, hA_bk, hB_bk⟩ := z_canon (Y := Y0) (P := fun j v => x_c Y0 ([xI 0 10, xI 0 8, xI 0 8].getD j xF) (.int v)) hA9 hB9
  clear hA9 hB9 fb9
  have hs0 := hs_bk
  have hA0 := hA_bk
  have hd := z_hdr hB_bk
  have hd0 := hd.1
  have hd1 := hd.2.1
  refine lv_aload_n hx hb rp_d0 rfl (lv_at hl 0 rfl) ?_
  refine lv_iload_n hx hb rp_d1 rfl (lv_at hl 1 rfl) ?_
  refine y_call (z := (0, 151, 2, some 17, xM171)) (av := [.ref this, .int t]) (rest := []) (y_cokV (n := 1) (ci := 12) X ym_isHillX rfl rfl rfl (x_cons (x_bw72 2 rfl rfl) (x_cons (x_bw72 4 rfl rfl) (x_cons (x_at 40 (by decide +kernel) rfl) (x_cons (x_bw0 9 rfl rfl) x_nilm)))) (x_bw72 5 rfl rfl) (by decide +kernel) ⟨Nat.le_of_ble_eq_true rfl, Nat.le_of_ble_eq_true rfl⟩) hY0 hI rfl rp_d2 hl.1 (Nat.le_of_ble_eq_true rfl) (Nat.le_of_ble_eq_true rfl) (Nat.le_of_ble_eq_true rfl) (y_cons (y_cref hY_this rfl) (y_cons ⟨_, rfl, x_i32 _⟩ y_nil)) rfl (y_recv rfl hY_this) trivial (y_sub_ef rfl) fun v Yn o Hn L ho hr ha hIn hx_ hE hP => ?_
  have hPq := hP _ _ _ _ rfl hs_bk hcn hA_bk
  replace hs_bk := y_Efld hE hY_this rfl (by decide) (by decide) hs_bk
  replace hA_bk := hA_bk.kept (y_Earr hE hY_bk rfl (by decide))
  replace hY_this := y_ext hx_ hI.1 hY_this
  replace hY_bk := y_ext hx_ hI.1 hY_bk
  obtain ⟨r2, rfl, hin_r2, hout_r2⟩ := hPq
  clear ho hr ha hE hP hI hx_
  rename x_I _ _ _ _ _ _ _ _ _ _ => hI
  have ec0 : (0 : Int32).toInt = 0 := by decide
  refine lv_if_eq hx hb rp_d5 (tgt := 38) (by decide) (fun q5 => ?_) (fun q5 => ?_)
  · have q5_ : r2.toInt = (0 : Int32).toInt := by rw [q5]
    have hno : ¬ (m_isH fb t ∧ -1 ≤ w.toInt ∧ w.toInt ≤ 9) := fun q9 => by first | (exact hout_r2 (by assumption) q9.1) | (have := hout_r16 (by assumption); omega)
    refine lv_aload_n hx hb rp_d38 rfl (lv_at hl 0 rfl) ?_
    refine lv_iconst hx hb rp_d39 (v := 0) (by decide) ?_
    refine lv_bipush hx hb rp_d40 (v := (-10)) (by decide) ?_
    have ecm10 : ((-10) : Int32).toInt = (-10) := by decide
    refine y_call (z := (0, 76, 3, some 17, xM142)) (av := [.ref this, .int (0 : Int32), .int ((-10) : Int32)]) (rest := []) (y_cokV (n := 2) (ci := 12) X ym_refuses rfl rfl rfl (x_cons (x_bw68 7 rfl rfl) (x_cons (x_bw68 9 rfl rfl) (x_cons (x_at 33 (by decide +kernel) rfl) (x_cons (x_bw0 9 rfl rfl) x_nilm)))) (x_bw68 10 rfl rfl) (by decide +kernel) ⟨Nat.le_of_ble_eq_true rfl, Nat.le_of_ble_eq_true rfl⟩) hY0 hI rfl rp_d42 hl.1 (Nat.le_of_ble_eq_true rfl) (Nat.le_of_ble_eq_true rfl) (Nat.le_of_ble_eq_true rfl) (y_cons (y_cref hY_this rfl) (y_cons ⟨_, rfl, by show (0 : Int) ≤ _; omega, by show _ ≤ (2 : Int); omega⟩ (y_cons ⟨_, rfl, x_i32 _⟩ y_nil))) rfl (y_recv rfl hY_this) trivial (y_sub_ef rfl) fun v Yn o Hn L ho hr ha hIn hx_ hE hP => ?_
    replace hs_bk := y_Efld hE hY_this rfl (by decide) (by decide) hs_bk
    replace hA_bk := hA_bk.kept (y_Earr hE hY_bk rfl (by decide))
    replace hY_this := y_ext hx_ hI.1 hY_this
    replace hY_bk := y_ext hx_ hI.1 hY_bk
    obtain rfl := hP _ _ _ rfl
    clear ho hr ha hE hP hI hx_
    rename x_I _ _ _ _ _ _ _ _ _ _ => hI
    exact y_ireturn B hI rfl rfl rfl List.mem_cons_self ⟨_, rfl, ⟨_, rfl, x_i32 _⟩⟩ (x_cs.mono B.2.2.2.2.2 (y_mon B hI)) (fun t' b' w0' w1' f' h1 h2 h3 h4 => by cases h1; cases h2.symm.trans hs0; cases z_uniq h4 hA0 h3 hcn; exact ⟨_, _, rfl, hA_bk, fun _ => ⟨rfl, rfl⟩, fun q9 => absurd q9 hno⟩) (Nat.le_refl _) (Nat.le_refl _) rp_d45
  · have q5_ : ¬ r2.toInt = (0 : Int32).toInt := fun q => q5 (Int32.toInt_inj.mp q)
    refine lv_iload_n hx hb rp_d8 rfl (lv_at hl 2 rfl) ?_
    obtain ⟨z9, hg_z9⟩ : ∃ z9 : Int64, w.toInt64 = z9 := ⟨_, rfl⟩
    have h_z9 : z9.toInt = (w).toInt := by rw [← hg_z9]; exact Int32.toInt_toInt64 _
    refine lv_i2l hx hb rp_d9 (v := z9) hg_z9 ?_
    refine lv_ldc2 hx hb X.2.2.2.1 (v := (-1)) (X.2.2.2.2.1 _ (x_bw79 3 rfl rfl)) rp_d10 ?_
    have elm1 : ((-1) : Int64).toInt = (-1) := by decide
    refine lv_ldc2 hx hb X.2.2.2.1 (v := 9) (X.2.2.2.2.1 _ (x_bw69 4 rfl rfl)) rp_d13 ?_
    have el9 : (9 : Int64).toInt = 9 := by decide
    refine y_call (z := (1, 87, 3, none, xM148)) (av := [.long z9, .long ((-1) : Int64), .long (9 : Int64)]) (rest := []) (y_cokS (n := 3) X ym_in (x_cons (x_bw67 11 rfl rfl) (x_cons (x_bw67 12 rfl rfl) (x_cons (x_bw0 9 rfl rfl) x_nilm))) (x_bw67 13 rfl rfl) (by decide +kernel) ⟨Nat.le_of_ble_eq_true rfl, Nat.le_of_ble_eq_true rfl⟩) hY0 hI rfl rp_d16 hl.1 (Nat.le_of_ble_eq_true rfl) (Nat.le_of_ble_eq_true rfl) (Nat.le_of_ble_eq_true rfl) (y_cons ⟨_, rfl, x_i64 _⟩ (y_cons ⟨_, rfl, x_i64 _⟩ (y_cons ⟨_, rfl, x_i64 _⟩ y_nil))) rfl (y_norecv rfl) trivial (y_sub_ef rfl) fun v Yn o Hn L ho hr ha hIn hx_ hE hP => ?_
    replace hs_bk := y_Efld hE hY_this rfl (by decide) (by decide) hs_bk
    replace hA_bk := hA_bk.kept (y_Earr hE hY_bk rfl (by decide))
    replace hY_this := y_ext hx_ hI.1 hY_this
    replace hY_bk := y_ext hx_ hI.1 hY_bk
    obtain ⟨r16, rfl, hin_r16, hout_r16⟩ := z_inR2 (hP _ _ _ rfl)
    clear ho hr ha hE hP hI hx_
    rename x_I _ _ _ _ _ _ _ _ _ _ => hI
    refine lv_if_eq hx hb rp_d19 (tgt := 38) (by decide) (fun q19 => ?_) (fun q19 => ?_)
    · have q19_ : r16.toInt = (0 : Int32).toInt := by rw [q19]
      have hno : ¬ (m_isH fb t ∧ -1 ≤ w.toInt ∧ w.toInt ≤ 9) := fun q9 => by first | (exact hout_r2 (by assumption) q9.1) | (have := hout_r16 (by assumption); omega)
      refine lv_aload_n hx hb rp_d38 rfl (lv_at hl 0 rfl) ?_
      refine lv_iconst hx hb rp_d39 (v := 0) (by decide) ?_
      refine lv_bipush hx hb rp_d40 (v := (-10)) (by decide) ?_
      have ecm10 : ((-10) : Int32).toInt = (-10) := by decide
      refine y_call (z := (0, 76, 3, some 17, xM142)) (av := [.ref this, .int (0 : Int32), .int ((-10) : Int32)]) (rest := []) (y_cokV (n := 2) (ci := 12) X ym_refuses rfl rfl rfl (x_cons (x_bw68 7 rfl rfl) (x_cons (x_bw68 9 rfl rfl) (x_cons (x_at 33 (by decide +kernel) rfl) (x_cons (x_bw0 9 rfl rfl) x_nilm)))) (x_bw68 10 rfl rfl) (by decide +kernel) ⟨Nat.le_of_ble_eq_true rfl, Nat.le_of_ble_eq_true rfl⟩) hY0 hI rfl rp_d42 hl.1 (Nat.le_of_ble_eq_true rfl) (Nat.le_of_ble_eq_true rfl) (Nat.le_of_ble_eq_true rfl) (y_cons (y_cref hY_this rfl) (y_cons ⟨_, rfl, by show (0 : Int) ≤ _; omega, by show _ ≤ (2 : Int); omega⟩ (y_cons ⟨_, rfl, x_i32 _⟩ y_nil))) rfl (y_recv rfl hY_this) trivial (y_sub_ef rfl) fun v Yn o Hn L ho hr ha hIn hx_ hE hP => ?_
      replace hs_bk := y_Efld hE hY_this rfl (by decide) (by decide) hs_bk
      replace hA_bk := hA_bk.kept (y_Earr hE hY_bk rfl (by decide))
      replace hY_this := y_ext hx_ hI.1 hY_this
      replace hY_bk := y_ext hx_ hI.1 hY_bk
      obtain rfl := hP _ _ _ rfl
      clear ho hr ha hE hP hI hx_
      rename x_I _ _ _ _ _ _ _ _ _ _ => hI
      exact y_ireturn B hI rfl rfl rfl List.mem_cons_self ⟨_, rfl, ⟨_, rfl, x_i32 _⟩⟩ (x_cs.mono B.2.2.2.2.2 (y_mon B hI)) (fun t' b' w0' w1' f' h1 h2 h3 h4 => by cases h1; cases h2.symm.trans hs0; cases z_uniq h4 hA0 h3 hcn; exact ⟨_, _, rfl, hA_bk, fun _ => ⟨rfl, rfl⟩, fun q9 => absurd q9 hno⟩) (Nat.le_refl _) (Nat.le_refl _) rp_d45
    · have q19_ : ¬ r16.toInt = (0 : Int32).toInt := fun q => q19 (Int32.toInt_inj.mp q)
      have hw1 := hin_r2 (by assumption)
      have hw2 := hin_r16 (by assumption)
      have hw3 := hw1
      unfold m_isH at hw3
      have hok : m_isH fb t ∧ -1 ≤ w.toInt ∧ w.toInt ≤ 9 := ⟨hw1, by omega, by omega⟩
      refine lv_aload_n hx hb rp_d22 rfl (lv_at hl 0 rfl) ?_
      refine lv_bipush hx hb rp_d23 (v := 10) (by decide) ?_
      have ec10 : (10 : Int32).toInt = 10 := by decide
      refine lv_iconst hx hb rp_d25 (v := 5) (by decide) ?_
      have ec5 : (5 : Int32).toInt = 5 := by decide
      refine lv_iload_n hx hb rp_d26 rfl (lv_at hl 1 rfl) ?_
      refine lv_imul hx hb rp_d27 ?_
      generalize hg_z27 : (5 : Int32) * t = z27
      have h_z27 : z27.toInt = 5 * t.toInt := by rw [← hg_z27]; have := y_mul (x := (5 : Int32)) (y := t) (by rw [ec5]; omega) (by rw [ec5]; omega); rw [ec5] at this; exact this
      refine lv_iadd hx hb rp_d28 ?_
      generalize hg_z28 : (10 : Int32) + z27 = z28
      have h_z28 : z28.toInt = 10 + z27.toInt := by rw [← hg_z28]; have := y_add (x := (10 : Int32)) (y := z27) (by rw [ec10]; omega) (by rw [ec10]; omega); rw [ec10] at this; exact this
      refine lv_iconst hx hb rp_d29 (v := 3) (by decide) ?_
      have ec3 : (3 : Int32).toInt = 3 := by decide
      refine lv_iadd hx hb rp_d30 ?_
      generalize hg_z30 : z28 + (3 : Int32) = z30
      have h_z30 : z30.toInt = z28.toInt + 3 := by rw [← hg_z30]; have := y_add (x := z28) (y := (3 : Int32)) (by rw [ec3]; omega) (by rw [ec3]; omega); rw [ec3] at this; exact this
      refine lv_iload_n hx hb rp_d31 rfl (lv_at hl 2 rfl) ?_
      refine y_call (z := (0, 116, 3, some 17, xM160)) (av := [.ref this, .int z30, .int w]) (rest := []) (y_cokV (n := 2) (ci := 12) X ym_putsR rfl rfl rfl (x_cons (x_bw69 11 rfl rfl) (x_cons (x_bw69 13 rfl rfl) (x_cons (x_at 35 (by decide +kernel) rfl) (x_cons (x_bw0 9 rfl rfl) x_nilm)))) (x_bw69 14 rfl rfl) (by decide +kernel) ⟨Nat.le_of_ble_eq_true rfl, Nat.le_of_ble_eq_true rfl⟩) hY0 hI rfl rp_d32 hl.1 (Nat.le_of_ble_eq_true rfl) (Nat.le_of_ble_eq_true rfl) (Nat.le_of_ble_eq_true rfl) (y_cons (y_cref hY_this rfl) (y_cons ⟨_, rfl, by show (3 : Int) ≤ _; omega, by show _ ≤ (159 : Int); omega⟩ (y_cons ⟨_, rfl, x_i32 _⟩ y_nil))) rfl (y_recv rfl hY_this) trivial (y_sub_ef rfl) fun v Yn o Hn L ho hr ha hIn hx_ hE hP => ?_
      have hPu := hP _ _ _ _ _ rfl hs_bk hA_bk
      have hix := (show z30.toInt.toNat = z30.toInt.toNat from rfl)
      replace hs_bk := y_Efld hE hY_this rfl (by decide) (by decide) hs_bk
      replace hY_this := y_ext hx_ hI.1 hY_this
      replace hY_bk := y_ext hx_ hI.1 hY_bk
      obtain ⟨rfl, hA_n⟩ := hPu
      clear ho hr ha hE hP hI hx_
      rename x_I _ _ _ _ _ _ _ _ _ _ => hI
      refine lv_goto hx hb rp_d35 (tgt := 45) (by decide) ?_
      have hz : z30.toInt.toNat = 13 + 5 * t.toInt.toNat := by omega
      rw [hz] at hA_n ⊢
      exact y_ireturn B hI rfl rfl rfl List.mem_cons_self ⟨_, rfl, ⟨_, rfl, x_i32 _⟩⟩ (x_cs.mono B.2.2.2.2.2 (y_mon B hI)) (fun t' b' w0' w1' f' h1 h2 h3 h4 => by cases h1; cases h2.symm.trans hs0; cases z_uniq h4 hA0 h3 hcn; exact ⟨_, _, rfl, hA_n, fun q9 => absurd hok q9, fun _ => ⟨rfl, rfl⟩⟩) (Nat.le_refl _) (Nat.le_refl _) rp_d45
def z_Pbl : yP := fun D av _ H v _ H' => ∀ (this bk : Nat) (t w : Int32) (f : Nat → Int32), av = [.ref this, .int t, .int w] → x_sl D 12 0 this H = some (.ref bk) → z_c f → y_A bk 160 H f → ∃ (r : Int32) (g : Nat → Int32), v = some (.int r) ∧ y_A bk 160 H' g ∧ m_at (m_isH f t ∧ 0 ≤ w.toInt ∧ w.toInt ≤ 9) (-2) f (14 + 5 * t.toInt.toNat) w r g
theorem bl_d0 : decode xM214.2.1 0 = .ok (.aload_n 0, 1) := dz_ok (by decide +kernel)
theorem bl_d1 : decode xM214.2.1 1 = .ok (.iload_n 1, 1) := dz_ok (by decide +kernel)
theorem bl_d2 : decode xM214.2.1 2 = .ok (.invokevirtual 151, 3) := dz_ok (by decide +kernel)
theorem bl_d5 : decode xM214.2.1 5 = .ok (.ifCond .eq 31, 3) := dz_ok (by decide +kernel)
theorem bl_d8 : decode xM214.2.1 8 = .ok (.iload_n 2, 1) := dz_ok (by decide +kernel)
theorem bl_d9 : decode xM214.2.1 9 = .ok (.i2l, 1) := dz_ok (by decide +kernel)
theorem bl_d10 : decode xM214.2.1 10 = .ok (.lconst 0, 1) := dz_ok (by decide +kernel)
theorem bl_d11 : decode xM214.2.1 11 = .ok (.ldc2_w 110, 3) := dz_ok (by decide +kernel)
theorem bl_d14 : decode xM214.2.1 14 = .ok (.invokestatic 87, 3) := dz_ok (by decide +kernel)
theorem bl_d17 : decode xM214.2.1 17 = .ok (.ifCond .eq 19, 3) := dz_ok (by decide +kernel)
theorem bl_d20 : decode xM214.2.1 20 = .ok (.aload_n 0, 1) := dz_ok (by decide +kernel)
theorem bl_d21 : decode xM214.2.1 21 = .ok (.bipush 10, 2) := dz_ok (by decide +kernel)
theorem bl_d23 : decode xM214.2.1 23 = .ok (.iconst 5, 1) := dz_ok (by decide +kernel)
theorem bl_d24 : decode xM214.2.1 24 = .ok (.iload_n 1, 1) := dz_ok (by decide +kernel)
theorem bl_d25 : decode xM214.2.1 25 = .ok (.imul, 1) := dz_ok (by decide +kernel)
theorem bl_d26 : decode xM214.2.1 26 = .ok (.iadd, 1) := dz_ok (by decide +kernel)
theorem bl_d27 : decode xM214.2.1 27 = .ok (.iconst 4, 1) := dz_ok (by decide +kernel)
theorem bl_d28 : decode xM214.2.1 28 = .ok (.iadd, 1) := dz_ok (by decide +kernel)
theorem bl_d29 : decode xM214.2.1 29 = .ok (.iload_n 2, 1) := dz_ok (by decide +kernel)
theorem bl_d30 : decode xM214.2.1 30 = .ok (.invokevirtual 116, 3) := dz_ok (by decide +kernel)
theorem bl_d33 : decode xM214.2.1 33 = .ok (.goto 7, 3) := dz_ok (by decide +kernel)
theorem bl_d36 : decode xM214.2.1 36 = .ok (.aload_n 0, 1) := dz_ok (by decide +kernel)
theorem bl_d37 : decode xM214.2.1 37 = .ok (.invokevirtual 102, 3) := dz_ok (by decide +kernel)
theorem bl_d40 : decode xM214.2.1 40 = .ok (.ireturn, 1) := dz_ok (by decide +kernel)
theorem ym_blameX : y_Met vwCl x_G x_Zs x_Tb x_Nb xM214 y_T z_Pbl := by
  refine y_main (by decide +kernel) (by decide +kernel) x_Tb_good x_Nb_ok ?_
  intro p l e s m below meth c D U Y0 av ls B hI _ hl
  have X := B.1
  have hx := X.1
  have hb := X.2.1
  have hY0 := B.2.2.2.2.1
  obtain ⟨v0, v1, v2, rfl, hv0, ⟨t, rfl, -⟩, ⟨w, rfl, -⟩⟩ := y_three B.2.2.2.2.2
  obtain ⟨this, t0, rfl, ht0, hY_this⟩ := x_ref_at hv0 rfl
  obtain rfl := List.mem_singleton.mp ht0
  replace hl : lv_has ls xM214.2.2.1 [(0, .ref this), (1, .int t), (2, .int w)] := hl
  obtain ⟨bk, hs_bk, hY_bk⟩ := y_fldR (k := 0) hI.1 hY_this rfl rfl
  obtain ⟨fb9, hA9, hB9⟩ := y_arr hI.1 hY_bk rfl rfl
  obtain ⟨fb, hcn, hA_bk, hB_bk⟩ := z_canon (Y := Y0) (P := fun j v => x_c Y0 ([xI 0 10, xI 0 8, xI 0 8].getD j xF) (.int v)) hA9 hB9
  clear hA9 hB9 fb9
  have hs0 := hs_bk
  have hA0 := hA_bk
  have hd := z_hdr hB_bk
  have hd0 := hd.1
  have hd1 := hd.2.1
  refine lv_aload_n hx hb bl_d0 rfl (lv_at hl 0 rfl) ?_
  refine lv_iload_n hx hb bl_d1 rfl (lv_at hl 1 rfl) ?_
  refine y_call (z := (0, 151, 2, some 17, xM171)) (av := [.ref this, .int t]) (rest := []) (y_cokV (n := 1) (ci := 12) X ym_isHillX rfl rfl rfl (x_cons (x_bw72 2 rfl rfl) (x_cons (x_bw72 4 rfl rfl) (x_cons (x_at 40 (by decide +kernel) rfl) (x_cons (x_bw0 9 rfl rfl) x_nilm)))) (x_bw72 5 rfl rfl) (by decide +kernel) ⟨Nat.le_of_ble_eq_true rfl, Nat.le_of_ble_eq_true rfl⟩) hY0 hI rfl bl_d2 hl.1 (Nat.le_of_ble_eq_true rfl) (Nat.le_of_ble_eq_true rfl) (Nat.le_of_ble_eq_true rfl) (y_cons (y_cref hY_this rfl) (y_cons ⟨_, rfl, x_i32 _⟩ y_nil)) rfl (y_recv rfl hY_this) trivial (y_sub_ef rfl) fun v Yn o Hn L ho hr ha hIn hx_ hE hP => ?_
  have hPq := hP _ _ _ _ rfl hs_bk hcn hA_bk
  replace hs_bk := y_Efld hE hY_this rfl (by decide) (by decide) hs_bk
  replace hA_bk := hA_bk.kept (y_Earr hE hY_bk rfl (by decide))
  replace hY_this := y_ext hx_ hI.1 hY_this
  replace hY_bk := y_ext hx_ hI.1 hY_bk
  obtain ⟨r2, rfl, hin_r2, hout_r2⟩ := hPq
  clear ho hr ha hE hP hI hx_
  rename x_I _ _ _ _ _ _ _ _ _ _ => hI
  have ec0 : (0 : Int32).toInt = 0 := by decide
  refine lv_if_eq hx hb bl_d5 (tgt := 36) (by decide) (fun q5 => ?_) (fun q5 => ?_)
  · have q5_ : r2.toInt = (0 : Int32).toInt := by rw [q5]
    have hno : ¬ (m_isH fb t ∧ 0 ≤ w.toInt ∧ w.toInt ≤ 9) := fun q9 => by first | (exact hout_r2 (by assumption) q9.1) | (have := hout_r14 (by assumption); omega)
    refine lv_aload_n hx hb bl_d36 rfl (lv_at hl 0 rfl) ?_
    refine y_call (z := (0, 102, 1, some 17, xM143)) (av := [.ref this]) (rest := []) (y_cokV (n := 0) (ci := 12) X ym_bad rfl rfl rfl (x_cons (x_bw68 3 rfl rfl) (x_cons (x_bw68 5 rfl rfl) (x_cons (x_at 32 (by decide +kernel) rfl) (x_cons (x_bw0 9 rfl rfl) x_nilm)))) (x_bw68 6 rfl rfl) (by decide +kernel) ⟨Nat.le_of_ble_eq_true rfl, Nat.le_of_ble_eq_true rfl⟩) hY0 hI rfl bl_d37 hl.1 (Nat.le_of_ble_eq_true rfl) (Nat.le_of_ble_eq_true rfl) (Nat.le_of_ble_eq_true rfl) (y_cons (y_cref hY_this rfl) y_nil) rfl (y_recv rfl hY_this) trivial (y_sub_ef rfl) fun v Yn o Hn L ho hr ha hIn hx_ hE hP => ?_
    replace hs_bk := y_Efld hE hY_this rfl (by decide) (by decide) hs_bk
    replace hA_bk := hA_bk.kept (y_Earr hE hY_bk rfl (by decide))
    replace hY_this := y_ext hx_ hI.1 hY_this
    replace hY_bk := y_ext hx_ hI.1 hY_bk
    have hPb := hP
    obtain rfl := hPb
    clear ho hr ha hE hP hI hx_
    rename x_I _ _ _ _ _ _ _ _ _ _ => hI
    exact y_ireturn B hI rfl rfl rfl List.mem_cons_self ⟨_, rfl, ⟨_, rfl, x_i32 _⟩⟩ (x_cs.mono B.2.2.2.2.2 (y_mon B hI)) (fun t' b' w0' w1' f' h1 h2 h3 h4 => by cases h1; cases h2.symm.trans hs0; cases z_uniq h4 hA0 h3 hcn; exact ⟨_, _, rfl, hA_bk, fun _ => ⟨rfl, rfl⟩, fun q9 => absurd q9 hno⟩) (Nat.le_refl _) (Nat.le_refl _) bl_d40
  · have q5_ : ¬ r2.toInt = (0 : Int32).toInt := fun q => q5 (Int32.toInt_inj.mp q)
    refine lv_iload_n hx hb bl_d8 rfl (lv_at hl 2 rfl) ?_
    obtain ⟨z9, hg_z9⟩ : ∃ z9 : Int64, w.toInt64 = z9 := ⟨_, rfl⟩
    have h_z9 : z9.toInt = (w).toInt := by rw [← hg_z9]; exact Int32.toInt_toInt64 _
    refine lv_i2l hx hb bl_d9 (v := z9) hg_z9 ?_
    refine lv_lconst hx hb bl_d10 (v := 0) (by decide) ?_
    have el0 : (0 : Int64).toInt = 0 := by decide
    refine lv_ldc2 hx hb X.2.2.2.1 (v := 9) (X.2.2.2.2.1 _ (x_bw69 4 rfl rfl)) bl_d11 ?_
    have el9 : (9 : Int64).toInt = 9 := by decide
    refine y_call (z := (1, 87, 3, none, xM148)) (av := [.long z9, .long (0 : Int64), .long (9 : Int64)]) (rest := []) (y_cokS (n := 3) X ym_in (x_cons (x_bw67 11 rfl rfl) (x_cons (x_bw67 12 rfl rfl) (x_cons (x_bw0 9 rfl rfl) x_nilm))) (x_bw67 13 rfl rfl) (by decide +kernel) ⟨Nat.le_of_ble_eq_true rfl, Nat.le_of_ble_eq_true rfl⟩) hY0 hI rfl bl_d14 hl.1 (Nat.le_of_ble_eq_true rfl) (Nat.le_of_ble_eq_true rfl) (Nat.le_of_ble_eq_true rfl) (y_cons ⟨_, rfl, x_i64 _⟩ (y_cons ⟨_, rfl, x_i64 _⟩ (y_cons ⟨_, rfl, x_i64 _⟩ y_nil))) rfl (y_norecv rfl) trivial (y_sub_ef rfl) fun v Yn o Hn L ho hr ha hIn hx_ hE hP => ?_
    replace hs_bk := y_Efld hE hY_this rfl (by decide) (by decide) hs_bk
    replace hA_bk := hA_bk.kept (y_Earr hE hY_bk rfl (by decide))
    replace hY_this := y_ext hx_ hI.1 hY_this
    replace hY_bk := y_ext hx_ hI.1 hY_bk
    obtain ⟨r14, rfl, hin_r14, hout_r14⟩ := z_inR2 (hP _ _ _ rfl)
    clear ho hr ha hE hP hI hx_
    rename x_I _ _ _ _ _ _ _ _ _ _ => hI
    refine lv_if_eq hx hb bl_d17 (tgt := 36) (by decide) (fun q17 => ?_) (fun q17 => ?_)
    · have q17_ : r14.toInt = (0 : Int32).toInt := by rw [q17]
      have hno : ¬ (m_isH fb t ∧ 0 ≤ w.toInt ∧ w.toInt ≤ 9) := fun q9 => by first | (exact hout_r2 (by assumption) q9.1) | (have := hout_r14 (by assumption); omega)
      refine lv_aload_n hx hb bl_d36 rfl (lv_at hl 0 rfl) ?_
      refine y_call (z := (0, 102, 1, some 17, xM143)) (av := [.ref this]) (rest := []) (y_cokV (n := 0) (ci := 12) X ym_bad rfl rfl rfl (x_cons (x_bw68 3 rfl rfl) (x_cons (x_bw68 5 rfl rfl) (x_cons (x_at 32 (by decide +kernel) rfl) (x_cons (x_bw0 9 rfl rfl) x_nilm)))) (x_bw68 6 rfl rfl) (by decide +kernel) ⟨Nat.le_of_ble_eq_true rfl, Nat.le_of_ble_eq_true rfl⟩) hY0 hI rfl bl_d37 hl.1 (Nat.le_of_ble_eq_true rfl) (Nat.le_of_ble_eq_true rfl) (Nat.le_of_ble_eq_true rfl) (y_cons (y_cref hY_this rfl) y_nil) rfl (y_recv rfl hY_this) trivial (y_sub_ef rfl) fun v Yn o Hn L ho hr ha hIn hx_ hE hP => ?_
      replace hs_bk := y_Efld hE hY_this rfl (by decide) (by decide) hs_bk
      replace hA_bk := hA_bk.kept (y_Earr hE hY_bk rfl (by decide))
      replace hY_this := y_ext hx_ hI.1 hY_this
      replace hY_bk := y_ext hx_ hI.1 hY_bk
      have hPb := hP
      obtain rfl := hPb
      clear ho hr ha hE hP hI hx_
      rename x_I _ _ _ _ _ _ _ _ _ _ => hI
      exact y_ireturn B hI rfl rfl rfl List.mem_cons_self ⟨_, rfl, ⟨_, rfl, x_i32 _⟩⟩ (x_cs.mono B.2.2.2.2.2 (y_mon B hI)) (fun t' b' w0' w1' f' h1 h2 h3 h4 => by cases h1; cases h2.symm.trans hs0; cases z_uniq h4 hA0 h3 hcn; exact ⟨_, _, rfl, hA_bk, fun _ => ⟨rfl, rfl⟩, fun q9 => absurd q9 hno⟩) (Nat.le_refl _) (Nat.le_refl _) bl_d40
    · have q17_ : ¬ r14.toInt = (0 : Int32).toInt := fun q => q17 (Int32.toInt_inj.mp q)
      have hw1 := hin_r2 (by assumption)
      have hw2 := hin_r14 (by assumption)
      have hw3 := hw1
      unfold m_isH at hw3
      have hok : m_isH fb t ∧ 0 ≤ w.toInt ∧ w.toInt ≤ 9 := ⟨hw1, by omega, by omega⟩
      refine lv_aload_n hx hb bl_d20 rfl (lv_at hl 0 rfl) ?_
      refine lv_bipush hx hb bl_d21 (v := 10) (by decide) ?_
      have ec10 : (10 : Int32).toInt = 10 := by decide
      refine lv_iconst hx hb bl_d23 (v := 5) (by decide) ?_
      have ec5 : (5 : Int32).toInt = 5 := by decide
      refine lv_iload_n hx hb bl_d24 rfl (lv_at hl 1 rfl) ?_
      refine lv_imul hx hb bl_d25 ?_
      generalize hg_z25 : (5 : Int32) * t = z25
      have h_z25 : z25.toInt = 5 * t.toInt := by rw [← hg_z25]; have := y_mul (x := (5 : Int32)) (y := t) (by rw [ec5]; omega) (by rw [ec5]; omega); rw [ec5] at this; exact this
      refine lv_iadd hx hb bl_d26 ?_
      generalize hg_z26 : (10 : Int32) + z25 = z26
      have h_z26 : z26.toInt = 10 + z25.toInt := by rw [← hg_z26]; have := y_add (x := (10 : Int32)) (y := z25) (by rw [ec10]; omega) (by rw [ec10]; omega); rw [ec10] at this; exact this
      refine lv_iconst hx hb bl_d27 (v := 4) (by decide) ?_
      have ec4 : (4 : Int32).toInt = 4 := by decide
      refine lv_iadd hx hb bl_d28 ?_
      generalize hg_z28 : z26 + (4 : Int32) = z28
      have h_z28 : z28.toInt = z26.toInt + 4 := by rw [← hg_z28]; have := y_add (x := z26) (y := (4 : Int32)) (by rw [ec4]; omega) (by rw [ec4]; omega); rw [ec4] at this; exact this
      refine lv_iload_n hx hb bl_d29 rfl (lv_at hl 2 rfl) ?_
      refine y_call (z := (0, 116, 3, some 17, xM160)) (av := [.ref this, .int z28, .int w]) (rest := []) (y_cokV (n := 2) (ci := 12) X ym_putsR rfl rfl rfl (x_cons (x_bw69 11 rfl rfl) (x_cons (x_bw69 13 rfl rfl) (x_cons (x_at 35 (by decide +kernel) rfl) (x_cons (x_bw0 9 rfl rfl) x_nilm)))) (x_bw69 14 rfl rfl) (by decide +kernel) ⟨Nat.le_of_ble_eq_true rfl, Nat.le_of_ble_eq_true rfl⟩) hY0 hI rfl bl_d30 hl.1 (Nat.le_of_ble_eq_true rfl) (Nat.le_of_ble_eq_true rfl) (Nat.le_of_ble_eq_true rfl) (y_cons (y_cref hY_this rfl) (y_cons ⟨_, rfl, by show (3 : Int) ≤ _; omega, by show _ ≤ (159 : Int); omega⟩ (y_cons ⟨_, rfl, x_i32 _⟩ y_nil))) rfl (y_recv rfl hY_this) trivial (y_sub_ef rfl) fun v Yn o Hn L ho hr ha hIn hx_ hE hP => ?_
      have hPu := hP _ _ _ _ _ rfl hs_bk hA_bk
      have hix := (show z28.toInt.toNat = z28.toInt.toNat from rfl)
      replace hs_bk := y_Efld hE hY_this rfl (by decide) (by decide) hs_bk
      replace hY_this := y_ext hx_ hI.1 hY_this
      replace hY_bk := y_ext hx_ hI.1 hY_bk
      obtain ⟨rfl, hA_n⟩ := hPu
      clear ho hr ha hE hP hI hx_
      rename x_I _ _ _ _ _ _ _ _ _ _ => hI
      refine lv_goto hx hb bl_d33 (tgt := 40) (by decide) ?_
      have hz : z28.toInt.toNat = 14 + 5 * t.toInt.toNat := by omega
      rw [hz] at hA_n ⊢
      exact y_ireturn B hI rfl rfl rfl List.mem_cons_self ⟨_, rfl, ⟨_, rfl, x_i32 _⟩⟩ (x_cs.mono B.2.2.2.2.2 (y_mon B hI)) (fun t' b' w0' w1' f' h1 h2 h3 h4 => by cases h1; cases h2.symm.trans hs0; cases z_uniq h4 hA0 h3 hcn; exact ⟨_, _, rfl, hA_n, fun q9 => absurd hok q9, fun _ => ⟨rfl, rfl⟩⟩) (Nat.le_refl _) (Nat.le_refl _) bl_d40
def z_PmX : yP := fun D av _ H v _ H' => ∀ (this bk : Nat) (t w : Int32) (f : Nat → Int32), av = [.ref this, .int t, .int w] → x_sl D 12 0 this H = some (.ref bk) → z_c f → y_A bk 160 H f → ∃ (r : Int32) (g : Nat → Int32), v = some (.int r) ∧ y_A bk 160 H' g ∧ m_at ((0 ≤ t.toInt ∧ t.toInt ≤ 11) ∧ 0 ≤ w.toInt ∧ w.toInt ≤ 99) (-2) f (116 + t.toInt.toNat) w r g
theorem mX_d0 : decode xM197.2.1 0 = .ok (.iload_n 1, 1) := dz_ok (by decide +kernel)
theorem mX_d1 : decode xM197.2.1 1 = .ok (.i2l, 1) := dz_ok (by decide +kernel)
theorem mX_d2 : decode xM197.2.1 2 = .ok (.lconst 0, 1) := dz_ok (by decide +kernel)
theorem mX_d3 : decode xM197.2.1 3 = .ok (.ldc2_w 248, 3) := dz_ok (by decide +kernel)
theorem mX_d6 : decode xM197.2.1 6 = .ok (.invokestatic 87, 3) := dz_ok (by decide +kernel)
theorem mX_d9 : decode xM197.2.1 9 = .ok (.ifCond .eq 27, 3) := dz_ok (by decide +kernel)
theorem mX_d12 : decode xM197.2.1 12 = .ok (.iload_n 2, 1) := dz_ok (by decide +kernel)
theorem mX_d13 : decode xM197.2.1 13 = .ok (.i2l, 1) := dz_ok (by decide +kernel)
theorem mX_d14 : decode xM197.2.1 14 = .ok (.lconst 0, 1) := dz_ok (by decide +kernel)
theorem mX_d15 : decode xM197.2.1 15 = .ok (.ldc2_w 97, 3) := dz_ok (by decide +kernel)
theorem mX_d18 : decode xM197.2.1 18 = .ok (.invokestatic 87, 3) := dz_ok (by decide +kernel)
theorem mX_d21 : decode xM197.2.1 21 = .ok (.ifCond .eq 15, 3) := dz_ok (by decide +kernel)
theorem mX_d24 : decode xM197.2.1 24 = .ok (.aload_n 0, 1) := dz_ok (by decide +kernel)
theorem mX_d25 : decode xM197.2.1 25 = .ok (.bipush 116, 2) := dz_ok (by decide +kernel)
theorem mX_d27 : decode xM197.2.1 27 = .ok (.iload_n 1, 1) := dz_ok (by decide +kernel)
theorem mX_d28 : decode xM197.2.1 28 = .ok (.iadd, 1) := dz_ok (by decide +kernel)
theorem mX_d29 : decode xM197.2.1 29 = .ok (.iload_n 2, 1) := dz_ok (by decide +kernel)
theorem mX_d30 : decode xM197.2.1 30 = .ok (.invokevirtual 116, 3) := dz_ok (by decide +kernel)
theorem mX_d33 : decode xM197.2.1 33 = .ok (.goto 7, 3) := dz_ok (by decide +kernel)
theorem mX_d36 : decode xM197.2.1 36 = .ok (.aload_n 0, 1) := dz_ok (by decide +kernel)
theorem mX_d37 : decode xM197.2.1 37 = .ok (.invokevirtual 102, 3) := dz_ok (by decide +kernel)
theorem mX_d40 : decode xM197.2.1 40 = .ok (.ireturn, 1) := dz_ok (by decide +kernel)
theorem ym_mistX : y_Met vwCl x_G x_Zs x_Tb x_Nb xM197 y_T z_PmX := by
  refine y_main (by decide +kernel) (by decide +kernel) x_Tb_good x_Nb_ok ?_
  intro p l e s m below meth c D U Y0 av ls B hI _ hl
  have X := B.1
  have hx := X.1
  have hb := X.2.1
  have hY0 := B.2.2.2.2.1
  obtain ⟨v0, v1, v2, rfl, hv0, ⟨t, rfl, -⟩, ⟨w, rfl, -⟩⟩ := y_three B.2.2.2.2.2
  obtain ⟨this, t0, rfl, ht0, hY_this⟩ := x_ref_at hv0 rfl
  obtain rfl := List.mem_singleton.mp ht0
  replace hl : lv_has ls xM197.2.2.1 [(0, .ref this), (1, .int t), (2, .int w)] := hl
  obtain ⟨bk, hs_bk, hY_bk⟩ := y_fldR (k := 0) hI.1 hY_this rfl rfl
  obtain ⟨fb9, hA9, hB9⟩ := y_arr hI.1 hY_bk rfl rfl
  obtain ⟨fb, hcn, hA_bk, hB_bk⟩ := z_canon (Y := Y0) (P := fun j v => x_c Y0 ([xI 0 10, xI 0 8, xI 0 8].getD j xF) (.int v)) hA9 hB9
  clear hA9 hB9 fb9
  have hs0 := hs_bk
  have hA0 := hA_bk
  have hd := z_hdr hB_bk
  have hd0 := hd.1
  have hd1 := hd.2.1
  refine lv_iload_n hx hb mX_d0 rfl (lv_at hl 1 rfl) ?_
  obtain ⟨z1, hg_z1⟩ : ∃ z1 : Int64, t.toInt64 = z1 := ⟨_, rfl⟩
  have h_z1 : z1.toInt = (t).toInt := by rw [← hg_z1]; exact Int32.toInt_toInt64 _
  refine lv_i2l hx hb mX_d1 (v := z1) hg_z1 ?_
  refine lv_lconst hx hb mX_d2 (v := 0) (by decide) ?_
  have el0 : (0 : Int64).toInt = 0 := by decide
  refine lv_ldc2 hx hb X.2.2.2.1 (v := 11) (X.2.2.2.2.1 _ (x_bw79 12 rfl rfl)) mX_d3 ?_
  have el11 : (11 : Int64).toInt = 11 := by decide
  refine y_call (z := (1, 87, 3, none, xM148)) (av := [.long z1, .long (0 : Int64), .long (11 : Int64)]) (rest := []) (y_cokS (n := 3) X ym_in (x_cons (x_bw67 11 rfl rfl) (x_cons (x_bw67 12 rfl rfl) (x_cons (x_bw0 9 rfl rfl) x_nilm))) (x_bw67 13 rfl rfl) (by decide +kernel) ⟨Nat.le_of_ble_eq_true rfl, Nat.le_of_ble_eq_true rfl⟩) hY0 hI rfl mX_d6 hl.1 (Nat.le_of_ble_eq_true rfl) (Nat.le_of_ble_eq_true rfl) (Nat.le_of_ble_eq_true rfl) (y_cons ⟨_, rfl, x_i64 _⟩ (y_cons ⟨_, rfl, x_i64 _⟩ (y_cons ⟨_, rfl, x_i64 _⟩ y_nil))) rfl (y_norecv rfl) trivial (y_sub_ef rfl) fun v Yn o Hn L ho hr ha hIn hx_ hE hP => ?_
  replace hs_bk := y_Efld hE hY_this rfl (by decide) (by decide) hs_bk
  replace hA_bk := hA_bk.kept (y_Earr hE hY_bk rfl (by decide))
  replace hY_this := y_ext hx_ hI.1 hY_this
  replace hY_bk := y_ext hx_ hI.1 hY_bk
  obtain ⟨r6, rfl, hin_r6, hout_r6⟩ := z_inR2 (hP _ _ _ rfl)
  clear ho hr ha hE hP hI hx_
  rename x_I _ _ _ _ _ _ _ _ _ _ => hI
  have ec0 : (0 : Int32).toInt = 0 := by decide
  refine lv_if_eq hx hb mX_d9 (tgt := 36) (by decide) (fun q9 => ?_) (fun q9 => ?_)
  · have q9_ : r6.toInt = (0 : Int32).toInt := by rw [q9]
    have hno : ¬ ((0 ≤ t.toInt ∧ t.toInt ≤ 11) ∧ 0 ≤ w.toInt ∧ w.toInt ≤ 99) := fun q9 => by first | (have := hout_r6 (by assumption); omega) | (have := hout_r18 (by assumption); omega)
    refine lv_aload_n hx hb mX_d36 rfl (lv_at hl 0 rfl) ?_
    refine y_call (z := (0, 102, 1, some 17, xM143)) (av := [.ref this]) (rest := []) (y_cokV (n := 0) (ci := 12) X ym_bad rfl rfl rfl (x_cons (x_bw68 3 rfl rfl) (x_cons (x_bw68 5 rfl rfl) (x_cons (x_at 32 (by decide +kernel) rfl) (x_cons (x_bw0 9 rfl rfl) x_nilm)))) (x_bw68 6 rfl rfl) (by decide +kernel) ⟨Nat.le_of_ble_eq_true rfl, Nat.le_of_ble_eq_true rfl⟩) hY0 hI rfl mX_d37 hl.1 (Nat.le_of_ble_eq_true rfl) (Nat.le_of_ble_eq_true rfl) (Nat.le_of_ble_eq_true rfl) (y_cons (y_cref hY_this rfl) y_nil) rfl (y_recv rfl hY_this) trivial (y_sub_ef rfl) fun v Yn o Hn L ho hr ha hIn hx_ hE hP => ?_
    replace hs_bk := y_Efld hE hY_this rfl (by decide) (by decide) hs_bk
    replace hA_bk := hA_bk.kept (y_Earr hE hY_bk rfl (by decide))
    replace hY_this := y_ext hx_ hI.1 hY_this
    replace hY_bk := y_ext hx_ hI.1 hY_bk
    have hPb := hP
    obtain rfl := hPb
    clear ho hr ha hE hP hI hx_
    rename x_I _ _ _ _ _ _ _ _ _ _ => hI
    exact y_ireturn B hI rfl rfl rfl List.mem_cons_self ⟨_, rfl, ⟨_, rfl, x_i32 _⟩⟩ (x_cs.mono B.2.2.2.2.2 (y_mon B hI)) (fun t' b' w0' w1' f' h1 h2 h3 h4 => by cases h1; cases h2.symm.trans hs0; cases z_uniq h4 hA0 h3 hcn; exact ⟨_, _, rfl, hA_bk, fun _ => ⟨rfl, rfl⟩, fun q9 => absurd q9 hno⟩) (Nat.le_refl _) (Nat.le_refl _) mX_d40
  · have q9_ : ¬ r6.toInt = (0 : Int32).toInt := fun q => q9 (Int32.toInt_inj.mp q)
    refine lv_iload_n hx hb mX_d12 rfl (lv_at hl 2 rfl) ?_
    obtain ⟨z13, hg_z13⟩ : ∃ z13 : Int64, w.toInt64 = z13 := ⟨_, rfl⟩
    have h_z13 : z13.toInt = (w).toInt := by rw [← hg_z13]; exact Int32.toInt_toInt64 _
    refine lv_i2l hx hb mX_d13 (v := z13) hg_z13 ?_
    refine lv_lconst hx hb mX_d14 (v := 0) (by decide) ?_
    have el0 : (0 : Int64).toInt = 0 := by decide
    refine lv_ldc2 hx hb X.2.2.2.1 (v := 99) (X.2.2.2.2.1 _ (x_bw67 14 rfl rfl)) mX_d15 ?_
    have el99 : (99 : Int64).toInt = 99 := by decide
    refine y_call (z := (1, 87, 3, none, xM148)) (av := [.long z13, .long (0 : Int64), .long (99 : Int64)]) (rest := []) (y_cokS (n := 3) X ym_in (x_cons (x_bw67 11 rfl rfl) (x_cons (x_bw67 12 rfl rfl) (x_cons (x_bw0 9 rfl rfl) x_nilm))) (x_bw67 13 rfl rfl) (by decide +kernel) ⟨Nat.le_of_ble_eq_true rfl, Nat.le_of_ble_eq_true rfl⟩) hY0 hI rfl mX_d18 hl.1 (Nat.le_of_ble_eq_true rfl) (Nat.le_of_ble_eq_true rfl) (Nat.le_of_ble_eq_true rfl) (y_cons ⟨_, rfl, x_i64 _⟩ (y_cons ⟨_, rfl, x_i64 _⟩ (y_cons ⟨_, rfl, x_i64 _⟩ y_nil))) rfl (y_norecv rfl) trivial (y_sub_ef rfl) fun v Yn o Hn L ho hr ha hIn hx_ hE hP => ?_
    replace hs_bk := y_Efld hE hY_this rfl (by decide) (by decide) hs_bk
    replace hA_bk := hA_bk.kept (y_Earr hE hY_bk rfl (by decide))
    replace hY_this := y_ext hx_ hI.1 hY_this
    replace hY_bk := y_ext hx_ hI.1 hY_bk
    obtain ⟨r18, rfl, hin_r18, hout_r18⟩ := z_inR2 (hP _ _ _ rfl)
    clear ho hr ha hE hP hI hx_
    rename x_I _ _ _ _ _ _ _ _ _ _ => hI
    refine lv_if_eq hx hb mX_d21 (tgt := 36) (by decide) (fun q21 => ?_) (fun q21 => ?_)
    · have q21_ : r18.toInt = (0 : Int32).toInt := by rw [q21]
      have hno : ¬ ((0 ≤ t.toInt ∧ t.toInt ≤ 11) ∧ 0 ≤ w.toInt ∧ w.toInt ≤ 99) := fun q9 => by first | (have := hout_r6 (by assumption); omega) | (have := hout_r18 (by assumption); omega)
      refine lv_aload_n hx hb mX_d36 rfl (lv_at hl 0 rfl) ?_
      refine y_call (z := (0, 102, 1, some 17, xM143)) (av := [.ref this]) (rest := []) (y_cokV (n := 0) (ci := 12) X ym_bad rfl rfl rfl (x_cons (x_bw68 3 rfl rfl) (x_cons (x_bw68 5 rfl rfl) (x_cons (x_at 32 (by decide +kernel) rfl) (x_cons (x_bw0 9 rfl rfl) x_nilm)))) (x_bw68 6 rfl rfl) (by decide +kernel) ⟨Nat.le_of_ble_eq_true rfl, Nat.le_of_ble_eq_true rfl⟩) hY0 hI rfl mX_d37 hl.1 (Nat.le_of_ble_eq_true rfl) (Nat.le_of_ble_eq_true rfl) (Nat.le_of_ble_eq_true rfl) (y_cons (y_cref hY_this rfl) y_nil) rfl (y_recv rfl hY_this) trivial (y_sub_ef rfl) fun v Yn o Hn L ho hr ha hIn hx_ hE hP => ?_
      replace hs_bk := y_Efld hE hY_this rfl (by decide) (by decide) hs_bk
      replace hA_bk := hA_bk.kept (y_Earr hE hY_bk rfl (by decide))
      replace hY_this := y_ext hx_ hI.1 hY_this
      replace hY_bk := y_ext hx_ hI.1 hY_bk
      have hPb := hP
      obtain rfl := hPb
      clear ho hr ha hE hP hI hx_
      rename x_I _ _ _ _ _ _ _ _ _ _ => hI
      exact y_ireturn B hI rfl rfl rfl List.mem_cons_self ⟨_, rfl, ⟨_, rfl, x_i32 _⟩⟩ (x_cs.mono B.2.2.2.2.2 (y_mon B hI)) (fun t' b' w0' w1' f' h1 h2 h3 h4 => by cases h1; cases h2.symm.trans hs0; cases z_uniq h4 hA0 h3 hcn; exact ⟨_, _, rfl, hA_bk, fun _ => ⟨rfl, rfl⟩, fun q9 => absurd q9 hno⟩) (Nat.le_refl _) (Nat.le_refl _) mX_d40
    · have q21_ : ¬ r18.toInt = (0 : Int32).toInt := fun q => q21 (Int32.toInt_inj.mp q)
      have hw1 := hin_r6 (by assumption)
      have hw2 := hin_r18 (by assumption)
      have hok : (0 ≤ t.toInt ∧ t.toInt ≤ 11) ∧ 0 ≤ w.toInt ∧ w.toInt ≤ 99 := ⟨by omega, by omega, by omega⟩
      refine lv_aload_n hx hb mX_d24 rfl (lv_at hl 0 rfl) ?_
      refine lv_bipush hx hb mX_d25 (v := 116) (by decide) ?_
      have ec116 : (116 : Int32).toInt = 116 := by decide
      refine lv_iload_n hx hb mX_d27 rfl (lv_at hl 1 rfl) ?_
      refine lv_iadd hx hb mX_d28 ?_
      generalize hg_z28 : (116 : Int32) + t = z28
      have h_z28 : z28.toInt = 116 + t.toInt := by rw [← hg_z28]; have := y_add (x := (116 : Int32)) (y := t) (by rw [ec116]; omega) (by rw [ec116]; omega); rw [ec116] at this; exact this
      refine lv_iload_n hx hb mX_d29 rfl (lv_at hl 2 rfl) ?_
      refine y_call (z := (0, 116, 3, some 17, xM160)) (av := [.ref this, .int z28, .int w]) (rest := []) (y_cokV (n := 2) (ci := 12) X ym_putsR rfl rfl rfl (x_cons (x_bw69 11 rfl rfl) (x_cons (x_bw69 13 rfl rfl) (x_cons (x_at 35 (by decide +kernel) rfl) (x_cons (x_bw0 9 rfl rfl) x_nilm)))) (x_bw69 14 rfl rfl) (by decide +kernel) ⟨Nat.le_of_ble_eq_true rfl, Nat.le_of_ble_eq_true rfl⟩) hY0 hI rfl mX_d30 hl.1 (Nat.le_of_ble_eq_true rfl) (Nat.le_of_ble_eq_true rfl) (Nat.le_of_ble_eq_true rfl) (y_cons (y_cref hY_this rfl) (y_cons ⟨_, rfl, by show (3 : Int) ≤ _; omega, by show _ ≤ (159 : Int); omega⟩ (y_cons ⟨_, rfl, x_i32 _⟩ y_nil))) rfl (y_recv rfl hY_this) trivial (y_sub_ef rfl) fun v Yn o Hn L ho hr ha hIn hx_ hE hP => ?_
      have hPu := hP _ _ _ _ _ rfl hs_bk hA_bk
      have hix := (show z28.toInt.toNat = z28.toInt.toNat from rfl)
      replace hs_bk := y_Efld hE hY_this rfl (by decide) (by decide) hs_bk
      replace hY_this := y_ext hx_ hI.1 hY_this
      replace hY_bk := y_ext hx_ hI.1 hY_bk
      obtain ⟨rfl, hA_n⟩ := hPu
      clear ho hr ha hE hP hI hx_
      rename x_I _ _ _ _ _ _ _ _ _ _ => hI
      refine lv_goto hx hb mX_d33 (tgt := 40) (by decide) ?_
      have hz : z28.toInt.toNat = 116 + t.toInt.toNat := by omega
      rw [hz] at hA_n ⊢
      exact y_ireturn B hI rfl rfl rfl List.mem_cons_self ⟨_, rfl, ⟨_, rfl, x_i32 _⟩⟩ (x_cs.mono B.2.2.2.2.2 (y_mon B hI)) (fun t' b' w0' w1' f' h1 h2 h3 h4 => by cases h1; cases h2.symm.trans hs0; cases z_uniq h4 hA0 h3 hcn; exact ⟨_, _, rfl, hA_n, fun q9 => absurd hok q9, fun _ => ⟨rfl, rfl⟩⟩) (Nat.le_refl _) (Nat.le_refl _) mX_d40
def z_Ple : yP := fun D av _ H v _ H' => ∀ (this bk : Nat) (n : Int32) (f : Nat → Int32), av = [.ref this, .int n] → x_sl D 12 0 this H = some (.ref bk) → z_c f → y_A bk 160 H f → ∃ (r : Int32) (g : Nat → Int32), v = some (.int r) ∧ y_A bk 160 H' g ∧ m_let f n r g
theorem le_d0 : decode xM208.2.1 0 = .ok (.iload_n 1, 1) := dz_ok (by decide +kernel)
theorem le_d1 : decode xM208.2.1 1 = .ok (.i2l, 1) := dz_ok (by decide +kernel)
theorem le_d2 : decode xM208.2.1 2 = .ok (.lconst 0, 1) := dz_ok (by decide +kernel)
theorem le_d3 : decode xM208.2.1 3 = .ok (.ldc2_w 110, 3) := dz_ok (by decide +kernel)
theorem le_d6 : decode xM208.2.1 6 = .ok (.invokestatic 87, 3) := dz_ok (by decide +kernel)
theorem le_d9 : decode xM208.2.1 9 = .ok (.ifCond .ne 8, 3) := dz_ok (by decide +kernel)
theorem le_d12 : decode xM208.2.1 12 = .ok (.aload_n 0, 1) := dz_ok (by decide +kernel)
theorem le_d13 : decode xM208.2.1 13 = .ok (.invokevirtual 102, 3) := dz_ok (by decide +kernel)
theorem le_d16 : decode xM208.2.1 16 = .ok (.ireturn, 1) := dz_ok (by decide +kernel)
theorem le_d17 : decode xM208.2.1 17 = .ok (.aload_n 0, 1) := dz_ok (by decide +kernel)
theorem le_d18 : decode xM208.2.1 18 = .ok (.getfield 7, 3) := dz_ok (by decide +kernel)
theorem le_d21 : decode xM208.2.1 21 = .ok (.iconst 2, 1) := dz_ok (by decide +kernel)
theorem le_d22 : decode xM208.2.1 22 = .ok (.iaload, 1) := dz_ok (by decide +kernel)
theorem le_d23 : decode xM208.2.1 23 = .ok (.bipush 8, 2) := dz_ok (by decide +kernel)
theorem le_d25 : decode xM208.2.1 25 = .ok (.if_icmp .ne 8, 3) := dz_ok (by decide +kernel)
theorem le_d28 : decode xM208.2.1 28 = .ok (.aload_n 0, 1) := dz_ok (by decide +kernel)
theorem le_d29 : decode xM208.2.1 29 = .ok (.invokevirtual 105, 3) := dz_ok (by decide +kernel)
theorem le_d32 : decode xM208.2.1 32 = .ok (.ireturn, 1) := dz_ok (by decide +kernel)
theorem le_d33 : decode xM208.2.1 33 = .ok (.aload_n 0, 1) := dz_ok (by decide +kernel)
theorem le_d34 : decode xM208.2.1 34 = .ok (.getfield 7, 3) := dz_ok (by decide +kernel)
theorem le_d37 : decode xM208.2.1 37 = .ok (.sipush 128, 3) := dz_ok (by decide +kernel)
theorem le_d40 : decode xM208.2.1 40 = .ok (.aload_n 0, 1) := dz_ok (by decide +kernel)
theorem le_d41 : decode xM208.2.1 41 = .ok (.getfield 7, 3) := dz_ok (by decide +kernel)
theorem le_d44 : decode xM208.2.1 44 = .ok (.iconst 2, 1) := dz_ok (by decide +kernel)
theorem le_d45 : decode xM208.2.1 45 = .ok (.iaload, 1) := dz_ok (by decide +kernel)
theorem le_d46 : decode xM208.2.1 46 = .ok (.iadd, 1) := dz_ok (by decide +kernel)
theorem le_d47 : decode xM208.2.1 47 = .ok (.iload_n 1, 1) := dz_ok (by decide +kernel)
theorem le_d48 : decode xM208.2.1 48 = .ok (.iastore, 1) := dz_ok (by decide +kernel)
theorem le_d49 : decode xM208.2.1 49 = .ok (.aload_n 0, 1) := dz_ok (by decide +kernel)
theorem le_d50 : decode xM208.2.1 50 = .ok (.getfield 7, 3) := dz_ok (by decide +kernel)
theorem le_d53 : decode xM208.2.1 53 = .ok (.iconst 2, 1) := dz_ok (by decide +kernel)
theorem le_d54 : decode xM208.2.1 54 = .ok (.dup2, 1) := dz_ok (by decide +kernel)
theorem le_d55 : decode xM208.2.1 55 = .ok (.iaload, 1) := dz_ok (by decide +kernel)
theorem le_d56 : decode xM208.2.1 56 = .ok (.iconst 1, 1) := dz_ok (by decide +kernel)
theorem le_d57 : decode xM208.2.1 57 = .ok (.iadd, 1) := dz_ok (by decide +kernel)
theorem le_d58 : decode xM208.2.1 58 = .ok (.iastore, 1) := dz_ok (by decide +kernel)
theorem le_d59 : decode xM208.2.1 59 = .ok (.aload_n 0, 1) := dz_ok (by decide +kernel)
theorem le_d60 : decode xM208.2.1 60 = .ok (.getfield 7, 3) := dz_ok (by decide +kernel)
theorem le_d63 : decode xM208.2.1 63 = .ok (.iconst 2, 1) := dz_ok (by decide +kernel)
theorem le_d64 : decode xM208.2.1 64 = .ok (.iaload, 1) := dz_ok (by decide +kernel)
theorem le_d65 : decode xM208.2.1 65 = .ok (.ireturn, 1) := dz_ok (by decide +kernel)
theorem ym_letterX : y_Met vwCl x_G x_Zs x_Tb x_Nb xM208 y_T z_Ple := by
  refine y_main (by decide +kernel) (by decide +kernel) x_Tb_good x_Nb_ok ?_
  intro p l e s m below meth c D U Y0 av ls B hI _ hl
  have X := B.1
  have hx := X.1
  have hb := X.2.1
  have hY0 := B.2.2.2.2.1
  obtain ⟨v0, v1, rfl, hv0, ⟨n, rfl, -⟩⟩ := x_two B.2.2.2.2.2
  obtain ⟨this, t0, rfl, ht0, hY_this⟩ := x_ref_at hv0 rfl
  obtain rfl := List.mem_singleton.mp ht0
  replace hl : lv_has ls xM208.2.2.1 [(0, .ref this), (1, .int n)] := hl
  obtain ⟨bk, hs_bk, hY_bk⟩ := y_fldR (k := 0) hI.1 hY_this rfl rfl
  obtain ⟨fb9, hA9, hB9⟩ := y_arr hI.1 hY_bk rfl rfl
  obtain ⟨fb, hcn, hA_bk, hB_bk⟩ := z_canon (Y := Y0) (P := fun j v => x_c Y0 ([xI 0 10, xI 0 8, xI 0 8].getD j xF) (.int v)) hA9 hB9
  clear hA9 hB9 fb9
  have hs0 := hs_bk
  have hA0 := hA_bk
  have hd := z_hdr hB_bk
  have hd0 := hd.1
  have hd1 := hd.2.1
  have hd2 := hd.2.2
  refine lv_iload_n hx hb le_d0 rfl (lv_at hl 1 rfl) ?_
  obtain ⟨z1, hg_z1⟩ : ∃ z1 : Int64, n.toInt64 = z1 := ⟨_, rfl⟩
  have h_z1 : z1.toInt = (n).toInt := by rw [← hg_z1]; exact Int32.toInt_toInt64 _
  refine lv_i2l hx hb le_d1 (v := z1) hg_z1 ?_
  refine lv_lconst hx hb le_d2 (v := 0) (by decide) ?_
  have el0 : (0 : Int64).toInt = 0 := by decide
  refine lv_ldc2 hx hb X.2.2.2.1 (v := 9) (X.2.2.2.2.1 _ (x_bw69 4 rfl rfl)) le_d3 ?_
  have el9 : (9 : Int64).toInt = 9 := by decide
  refine y_call (z := (1, 87, 3, none, xM148)) (av := [.long z1, .long (0 : Int64), .long (9 : Int64)]) (rest := []) (y_cokS (n := 3) X ym_in (x_cons (x_bw67 11 rfl rfl) (x_cons (x_bw67 12 rfl rfl) (x_cons (x_bw0 9 rfl rfl) x_nilm))) (x_bw67 13 rfl rfl) (by decide +kernel) ⟨Nat.le_of_ble_eq_true rfl, Nat.le_of_ble_eq_true rfl⟩) hY0 hI rfl le_d6 hl.1 (Nat.le_of_ble_eq_true rfl) (Nat.le_of_ble_eq_true rfl) (Nat.le_of_ble_eq_true rfl) (y_cons ⟨_, rfl, x_i64 _⟩ (y_cons ⟨_, rfl, x_i64 _⟩ (y_cons ⟨_, rfl, x_i64 _⟩ y_nil))) rfl (y_norecv rfl) trivial (y_sub_ef rfl) fun v Yn o Hn L ho hr ha hIn hx_ hE hP => ?_
  replace hs_bk := y_Efld hE hY_this rfl (by decide) (by decide) hs_bk
  replace hA_bk := hA_bk.kept (y_Earr hE hY_bk rfl (by decide))
  replace hY_this := y_ext hx_ hI.1 hY_this
  replace hY_bk := y_ext hx_ hI.1 hY_bk
  obtain ⟨r6, rfl, hin_r6, hout_r6⟩ := z_inR2 (hP _ _ _ rfl)
  clear ho hr ha hE hP hI hx_
  rename x_I _ _ _ _ _ _ _ _ _ _ => hI
  have ec0 : (0 : Int32).toInt = 0 := by decide
  refine lv_if_ne hx hb le_d9 (tgt := 17) (by decide) (fun q9 => ?_) (fun q9 => ?_)
  · have q9_ : ¬ r6.toInt = (0 : Int32).toInt := fun q => q9 (Int32.toInt_inj.mp q)
    have hw := hin_r6 q9
    refine lv_aload_n hx hb le_d17 rfl (lv_at hl 0 rfl) ?_
    refine y_getf X (fl190 X.2.2.2.2.1) hI.1 hY_this rfl hs_bk le_d18 ?_
    refine lv_iconst hx hb le_d21 (v := 2) (by decide) ?_
    have ec2 : (2 : Int32).toInt = 2 := by decide
    refine y_iald X hI.1 hY_bk rfl hA_bk (by omega) (by show _ < (160 : Int); omega) le_d22 ?_
    obtain ⟨e22, hg_e22⟩ : ∃ e22 : Int32, fb (2 : Int32).toInt.toNat = e22 := ⟨_, rfl⟩
    rw [hg_e22]
    rw [show (2 : Int32).toInt.toNat = 2 by decide] at hg_e22
    have h_e22 : e22.toInt = (fb 2).toInt := by rw [hg_e22]
    refine lv_bipush hx hb le_d23 (v := 8) (by decide) ?_
    have ec8 : (8 : Int32).toInt = 8 := by decide
    refine lv_icmp_ne hx hb le_d25 (tgt := 33) (by decide) (fun q25 => ?_) (fun q25 => ?_)
    · have q25_ : ¬ e22.toInt = (8 : Int32).toInt := fun q => q25 (Int32.toInt_inj.mp q)
      refine lv_aload_n hx hb le_d33 rfl (lv_at hl 0 rfl) ?_
      refine y_getf X (fl190 X.2.2.2.2.1) hI.1 hY_this rfl hs_bk le_d34 ?_
      refine lv_sipush hx hb le_d37 (v := 128) (by decide) ?_
      have ec128 : (128 : Int32).toInt = 128 := by decide
      refine lv_aload_n hx hb le_d40 rfl (lv_at hl 0 rfl) ?_
      refine y_getf X (fl190 X.2.2.2.2.1) hI.1 hY_this rfl hs_bk le_d41 ?_
      refine lv_iconst hx hb le_d44 (v := 2) (by decide) ?_
      refine y_iald X hI.1 hY_bk rfl hA_bk (by omega) (by show _ < (160 : Int); omega) le_d45 ?_
      obtain ⟨e45, hg_e45⟩ : ∃ e45 : Int32, fb (2 : Int32).toInt.toNat = e45 := ⟨_, rfl⟩
      rw [hg_e45]
      rw [show (2 : Int32).toInt.toNat = 2 by decide] at hg_e45
      have h_e45 : e45.toInt = (fb 2).toInt := by rw [hg_e45]
      refine lv_iadd hx hb le_d46 ?_
      generalize hg_z46 : (128 : Int32) + e45 = z46
      have h_z46 : z46.toInt = 128 + e45.toInt := by rw [← hg_z46]; have := y_add (x := (128 : Int32)) (y := e45) (by rw [ec128]; omega) (by rw [ec128]; omega); rw [ec128] at this; exact this
      refine lv_iload_n hx hb le_d47 rfl (lv_at hl 1 rfl) ?_
      refine y_iast X hY0 hI hY_bk rfl hA_bk (by omega) (by show _ < (160 : Int); omega) (by rw [z_get3 (by omega)]; exact ⟨_, rfl, x_i32 _⟩) (by decide +kernel) le_d48 fun H locs hI h_new ho => ?_
      replace hA_bk := h_new
      generalize hf_f48 : y_up fb z46.toInt.toNat n = f48 at hA_bk
      replace hs_bk := y_slk hs_bk (ho _ (y_ne hY_this hY_bk rfl))
      refine lv_aload_n hx hb le_d49 rfl (lv_at hl 0 rfl) ?_
      refine y_getf X (fl190 X.2.2.2.2.1) hI.1 hY_this rfl hs_bk le_d50 ?_
      refine lv_iconst hx hb le_d53 (v := 2) (by decide) ?_
      refine lv_dup2_11 hx hb le_d54 rfl rfl ?_
      refine y_iald X hI.1 hY_bk rfl hA_bk (by omega) (by show _ < (160 : Int); omega) le_d55 ?_
      obtain ⟨e55, hg_e55⟩ : ∃ e55 : Int32, f48 (2 : Int32).toInt.toNat = e55 := ⟨_, rfl⟩
      rw [hg_e55]
      rw [show (2 : Int32).toInt.toNat = 2 by decide] at hg_e55
      have h_e55 : e55 = fb 2 := by rw [← hg_e55, ← hf_f48, y_up_ne (by omega)]
      have h_e55i : e55.toInt = (fb 2).toInt := by rw [h_e55]
      refine lv_iconst hx hb le_d56 (v := 1) (by decide) ?_
      have ec1 : (1 : Int32).toInt = 1 := by decide
      refine lv_iadd hx hb le_d57 ?_
      generalize hg_z57 : e55 + (1 : Int32) = z57
      have h_z57 : z57.toInt = e55.toInt + 1 := by rw [← hg_z57]; have := y_add (x := e55) (y := (1 : Int32)) (by rw [ec1]; omega) (by rw [ec1]; omega); rw [ec1] at this; exact this
      refine y_iast X hY0 hI hY_bk rfl hA_bk (by omega) (by show _ < (160 : Int); omega) (by show x_c _ (xI 0 8) _; exact ⟨_, rfl, by show (0 : Int) ≤ _; omega, by show _ ≤ (8 : Int); omega⟩) (by decide +kernel) le_d58 fun H locs hI h_new ho => ?_
      replace hA_bk := h_new
      generalize hf_f58 : y_up f48 (2 : Int32).toInt.toNat z57 = f58 at hA_bk
      replace hs_bk := y_slk hs_bk (ho _ (y_ne hY_this hY_bk rfl))
      refine lv_aload_n hx hb le_d59 rfl (lv_at hl 0 rfl) ?_
      refine y_getf X (fl190 X.2.2.2.2.1) hI.1 hY_this rfl hs_bk le_d60 ?_
      refine lv_iconst hx hb le_d63 (v := 2) (by decide) ?_
      refine y_iald X hI.1 hY_bk rfl hA_bk (by omega) (by show _ < (160 : Int); omega) le_d64 ?_
      obtain ⟨e64, hg_e64⟩ : ∃ e64 : Int32, f58 (2 : Int32).toInt.toNat = e64 := ⟨_, rfl⟩
      rw [hg_e64]
      rw [show (2 : Int32).toInt.toNat = 2 by decide] at hg_e64
      have h_v : z57 = fb 2 + 1 := by rw [← hg_z57, h_e55]
      have h_r : e64 = fb 2 + 1 := by rw [← hg_e64, ← hf_f58, show (2 : Int32).toInt.toNat = 2 by decide, y_up_at, h_v]
      have h_up : f58 = y_up (y_up fb (128 + (fb 2).toInt.toNat) n) 2 (fb 2 + 1) := by rw [← hf_f58, ← hf_f48, show (2 : Int32).toInt.toNat = 2 by decide, h_v, show z46.toInt.toNat = 128 + (fb 2).toInt.toNat by omega]
      exact y_ireturn B hI rfl rfl rfl List.mem_cons_self ⟨_, rfl, ⟨_, rfl, x_i32 _⟩⟩ (x_cs.mono B.2.2.2.2.2 (y_mon B hI)) (fun t' b' w0' f' h1 h2 h3 h4 => by cases h1; cases h2.symm.trans hs0; cases z_uniq h4 hA0 h3 hcn; exact ⟨_, _, rfl, hA_bk, fun q9 => absurd (show 0 ≤ n.toInt ∧ n.toInt ≤ 9 by omega) q9, fun _ q9 => absurd q9 (by omega), fun _ _ => ⟨h_r, h_up⟩⟩) (Nat.le_refl _) (Nat.le_refl _) le_d65
    · have q25_ : e22.toInt = (8 : Int32).toInt := by rw [q25]
      refine lv_aload_n hx hb le_d28 rfl (lv_at hl 0 rfl) ?_
      refine y_call (z := (0, 105, 1, some 17, xM146)) (av := [.ref this]) (rest := []) (y_cokV (n := 0) (ci := 12) X ym_full rfl rfl rfl (x_cons (x_bw68 11 rfl rfl) (x_cons (x_bw68 13 rfl rfl) (x_cons (x_at 34 (by decide +kernel) rfl) (x_cons (x_bw0 9 rfl rfl) x_nilm)))) (x_bw68 14 rfl rfl) (by decide +kernel) ⟨Nat.le_of_ble_eq_true rfl, Nat.le_of_ble_eq_true rfl⟩) hY0 hI rfl le_d29 hl.1 (Nat.le_of_ble_eq_true rfl) (Nat.le_of_ble_eq_true rfl) (Nat.le_of_ble_eq_true rfl) (y_cons (y_cref hY_this rfl) y_nil) rfl (y_recv rfl hY_this) trivial (y_sub_ef rfl) fun v Yn o Hn L ho hr ha hIn hx_ hE hP => ?_
      replace hs_bk := y_Efld hE hY_this rfl (by decide) (by decide) hs_bk
      replace hA_bk := hA_bk.kept (y_Earr hE hY_bk rfl (by decide))
      replace hY_this := y_ext hx_ hI.1 hY_this
      replace hY_bk := y_ext hx_ hI.1 hY_bk
      have hPb := hP
      obtain rfl := hPb
      clear ho hr ha hE hP hI hx_
      rename x_I _ _ _ _ _ _ _ _ _ _ => hI
      exact y_ireturn B hI rfl rfl rfl List.mem_cons_self ⟨_, rfl, ⟨_, rfl, x_i32 _⟩⟩ (x_cs.mono B.2.2.2.2.2 (y_mon B hI)) (fun t' b' w0' f' h1 h2 h3 h4 => by cases h1; cases h2.symm.trans hs0; cases z_uniq h4 hA0 h3 hcn; exact ⟨_, _, rfl, hA_bk, fun q9 => absurd (show 0 ≤ n.toInt ∧ n.toInt ≤ 9 by omega) q9, fun _ _ => ⟨rfl, rfl⟩, fun _ q9 => absurd q9 (by omega)⟩) (Nat.le_refl _) (Nat.le_refl _) le_d32
  · have q9_ : r6.toInt = (0 : Int32).toInt := by rw [q9]
    have hw := hout_r6 q9
    refine lv_aload_n hx hb le_d12 rfl (lv_at hl 0 rfl) ?_
    refine y_call (z := (0, 102, 1, some 17, xM143)) (av := [.ref this]) (rest := []) (y_cokV (n := 0) (ci := 12) X ym_bad rfl rfl rfl (x_cons (x_bw68 3 rfl rfl) (x_cons (x_bw68 5 rfl rfl) (x_cons (x_at 32 (by decide +kernel) rfl) (x_cons (x_bw0 9 rfl rfl) x_nilm)))) (x_bw68 6 rfl rfl) (by decide +kernel) ⟨Nat.le_of_ble_eq_true rfl, Nat.le_of_ble_eq_true rfl⟩) hY0 hI rfl le_d13 hl.1 (Nat.le_of_ble_eq_true rfl) (Nat.le_of_ble_eq_true rfl) (Nat.le_of_ble_eq_true rfl) (y_cons (y_cref hY_this rfl) y_nil) rfl (y_recv rfl hY_this) trivial (y_sub_ef rfl) fun v Yn o Hn L ho hr ha hIn hx_ hE hP => ?_
    replace hs_bk := y_Efld hE hY_this rfl (by decide) (by decide) hs_bk
    replace hA_bk := hA_bk.kept (y_Earr hE hY_bk rfl (by decide))
    replace hY_this := y_ext hx_ hI.1 hY_this
    replace hY_bk := y_ext hx_ hI.1 hY_bk
    have hPb := hP
    obtain rfl := hPb
    clear ho hr ha hE hP hI hx_
    rename x_I _ _ _ _ _ _ _ _ _ _ => hI
    exact y_ireturn B hI rfl rfl rfl List.mem_cons_self ⟨_, rfl, ⟨_, rfl, x_i32 _⟩⟩ (x_cs.mono B.2.2.2.2.2 (y_mon B hI)) (fun t' b' w0' f' h1 h2 h3 h4 => by cases h1; cases h2.symm.trans hs0; cases z_uniq h4 hA0 h3 hcn; exact ⟨_, _, rfl, hA_bk, fun _ => ⟨rfl, rfl⟩, fun q9 => absurd q9 (by omega), fun q9 => absurd q9 (by omega)⟩) (Nat.le_refl _) (Nat.le_refl _) le_d16
def z_Pp2 : yP := fun D av _ H v _ H' => ∀ (this bk : Nat) (n w : Int32) (f : Nat → Int32), av = [.ref this, .int n, .int w] → x_sl D 12 0 this H = some (.ref bk) → z_c f → y_A bk 160 H f → v = some (.int (f 2)) ∧ y_A bk 160 H' (y_up f 2 0)
theorem p2x_d0 : decode xM209.2.1 0 = .ok (.aload_n 0, 1) := dz_ok (by decide +kernel)
theorem p2x_d1 : decode xM209.2.1 1 = .ok (.getfield 7, 3) := dz_ok (by decide +kernel)
theorem p2x_d4 : decode xM209.2.1 4 = .ok (.iload_n 1, 1) := dz_ok (by decide +kernel)
theorem p2x_d5 : decode xM209.2.1 5 = .ok (.iaload, 1) := dz_ok (by decide +kernel)
theorem p2x_d6 : decode xM209.2.1 6 = .ok (.istore_n 3, 1) := dz_ok (by decide +kernel)
theorem p2x_d7 : decode xM209.2.1 7 = .ok (.aload_n 0, 1) := dz_ok (by decide +kernel)
theorem p2x_d8 : decode xM209.2.1 8 = .ok (.getfield 7, 3) := dz_ok (by decide +kernel)
theorem p2x_d11 : decode xM209.2.1 11 = .ok (.iload_n 1, 1) := dz_ok (by decide +kernel)
theorem p2x_d12 : decode xM209.2.1 12 = .ok (.iload_n 2, 1) := dz_ok (by decide +kernel)
theorem p2x_d13 : decode xM209.2.1 13 = .ok (.iastore, 1) := dz_ok (by decide +kernel)
theorem p2x_d14 : decode xM209.2.1 14 = .ok (.iload_n 3, 1) := dz_ok (by decide +kernel)
theorem p2x_d15 : decode xM209.2.1 15 = .ok (.ireturn, 1) := dz_ok (by decide +kernel)
theorem ym_puts2X : y_Met vwCl x_G x_Zs x_Tb x_Nb xM209 y_T z_Pp2 := by
  refine y_main (by decide +kernel) (by decide +kernel) x_Tb_good x_Nb_ok ?_
  intro p l e s m below meth c D U Y0 av ls B hI _ hl
  have X := B.1
  have hx := X.1
  have hb := X.2.1
  have hY0 := B.2.2.2.2.1
  obtain ⟨v0, v1, v2, rfl, hv0, ⟨n, rfl, hn⟩, ⟨w, rfl, hw⟩⟩ := y_three B.2.2.2.2.2
  replace hn : (2 : Int) ≤ n.toInt ∧ n.toInt ≤ 2 := hn
  replace hw : (0 : Int) ≤ w.toInt ∧ w.toInt ≤ 0 := hw
  obtain ⟨this, t0, rfl, ht0, hY_this⟩ := x_ref_at hv0 rfl
  obtain rfl := List.mem_singleton.mp ht0
  replace hl : lv_has ls xM209.2.2.1 [(0, .ref this), (1, .int n), (2, .int w)] := hl
  obtain ⟨bk, hs_bk, hY_bk⟩ := y_fldR (k := 0) hI.1 hY_this rfl rfl
  obtain ⟨fb9, hA9, hB9⟩ := y_arr hI.1 hY_bk rfl rfl
  obtain ⟨fb, hcn, hA_bk, hB_bk⟩ := z_canon (Y := Y0) (P := fun j v => x_c Y0 ([xI 0 10, xI 0 8, xI 0 8].getD j xF) (.int v)) hA9 hB9
  clear hA9 hB9 fb9
  have hs0 := hs_bk
  have hA0 := hA_bk
  have hd := z_hdr hB_bk
  have hd0 := hd.1
  have hd1 := hd.2.1
  have hd2 := hd.2.2
  refine lv_aload_n hx hb p2x_d0 rfl (lv_at hl 0 rfl) ?_
  refine y_getf X (fl190 X.2.2.2.2.1) hI.1 hY_this rfl hs_bk p2x_d1 ?_
  refine lv_iload_n hx hb p2x_d4 rfl (lv_at hl 1 rfl) ?_
  refine y_iald X hI.1 hY_bk rfl hA_bk (by omega) (by show _ < (160 : Int); omega) p2x_d5 ?_
  obtain ⟨e5, hg_e5⟩ : ∃ e5 : Int32, fb n.toInt.toNat = e5 := ⟨_, rfl⟩
  rw [hg_e5]
  refine lv_istore_n hx hb p2x_d6 rfl hl (by decide) (lv' := [(3, .int e5), (0, .ref this), (1, .int n), (2, .int w)]) rfl fun ls hl => ?_
  refine lv_aload_n hx hb p2x_d7 rfl (lv_at hl 1 rfl) ?_
  refine y_getf X (fl190 X.2.2.2.2.1) hI.1 hY_this rfl hs_bk p2x_d8 ?_
  refine lv_iload_n hx hb p2x_d11 rfl (lv_at hl 2 rfl) ?_
  refine lv_iload_n hx hb p2x_d12 rfl (lv_at hl 3 rfl) ?_
  refine y_iast X hY0 hI hY_bk rfl hA_bk (by omega) (by show _ < (160 : Int); omega) (by rw [show n.toInt.toNat = 2 by omega]; show x_c _ (xI 0 8) _; exact ⟨_, rfl, by show (0 : Int) ≤ _; omega, by show _ ≤ (8 : Int); omega⟩) (by decide +kernel) p2x_d13 fun H locs hI h_new ho => ?_
  replace hA_bk := h_new
  generalize hf_f13 : y_up fb n.toInt.toNat w = f13 at hA_bk
  replace hs_bk := y_slk hs_bk (ho _ (y_ne hY_this hY_bk rfl))
  refine lv_iload_n hx hb p2x_d14 rfl (lv_at hl 0 rfl) ?_
  rw [show n.toInt.toNat = 2 by omega] at hg_e5 hf_f13
  have h_w : w = 0 := Int32.toInt_inj.mp (by rw [show (0 : Int32).toInt = 0 by decide]; omega)
  subst h_w
  have h_e : e5.toInt = (fb 2).toInt := by rw [hg_e5]
  exact y_ireturn B hI rfl rfl rfl List.mem_cons_self ⟨_, rfl, ⟨_, rfl, by show (0 : Int) ≤ _; omega, by show _ ≤ (8 : Int); omega⟩⟩ (x_cs.mono B.2.2.2.2.2 (y_mon B hI)) (fun t' b' w0' w1' f' h1 h2 h3 h4 => by cases h1; cases h2.symm.trans hs0; cases z_uniq h4 hA0 h3 hcn; exact ⟨by rw [hg_e5], by rw [hf_f13]; exact hA_bk⟩) (Nat.le_refl _) (Nat.le_refl _) p2x_d15
def z_Pun : yP := fun D av _ H v _ H' => ∀ (this bk : Nat)  (f : Nat → Int32), av = [.ref this] → x_sl D 12 0 this H = some (.ref bk) → z_c f → y_A bk 160 H f → v = some (.int (f 2)) ∧ y_A bk 160 H' (y_up f 2 0)
theorem un_d0 : decode xM210.2.1 0 = .ok (.aload_n 0, 1) := dz_ok (by decide +kernel)
theorem un_d1 : decode xM210.2.1 1 = .ok (.iconst 2, 1) := dz_ok (by decide +kernel)
theorem un_d2 : decode xM210.2.1 2 = .ok (.iconst 0, 1) := dz_ok (by decide +kernel)
theorem un_d3 : decode xM210.2.1 3 = .ok (.invokevirtual 116, 3) := dz_ok (by decide +kernel)
theorem un_d6 : decode xM210.2.1 6 = .ok (.ireturn, 1) := dz_ok (by decide +kernel)
theorem ym_unwordX : y_Met vwCl x_G x_Zs x_Tb x_Nb xM210 y_T z_Pun := by
  refine y_main (by decide +kernel) (by decide +kernel) x_Tb_good x_Nb_ok ?_
  intro p l e s m below meth c D U Y0 av ls B hI _ hl
  have X := B.1
  have hx := X.1
  have hb := X.2.1
  have hY0 := B.2.2.2.2.1
  obtain ⟨v0, rfl, hv0⟩ := x_one B.2.2.2.2.2
  obtain ⟨this, t0, rfl, ht0, hY_this⟩ := x_ref_at hv0 rfl
  obtain rfl := List.mem_singleton.mp ht0
  replace hl : lv_has ls xM210.2.2.1 [(0, .ref this)] := hl
  obtain ⟨bk, hs_bk, hY_bk⟩ := y_fldR (k := 0) hI.1 hY_this rfl rfl
  obtain ⟨fb9, hA9, hB9⟩ := y_arr hI.1 hY_bk rfl rfl
  obtain ⟨fb, hcn, hA_bk, hB_bk⟩ := z_canon (Y := Y0) (P := fun j v => x_c Y0 ([xI 0 10, xI 0 8, xI 0 8].getD j xF) (.int v)) hA9 hB9
  clear hA9 hB9 fb9
  have hs0 := hs_bk
  have hA0 := hA_bk
  have hd := z_hdr hB_bk
  have hd0 := hd.1
  have hd1 := hd.2.1
  have hd2 := hd.2.2
  refine lv_aload_n hx hb un_d0 rfl (lv_at hl 0 rfl) ?_
  refine lv_iconst hx hb un_d1 (v := 2) (by decide) ?_
  have ec2 : (2 : Int32).toInt = 2 := by decide
  refine lv_iconst hx hb un_d2 (v := 0) (by decide) ?_
  have ec0 : (0 : Int32).toInt = 0 := by decide
  refine y_call (z := (0, 116, 3, some 17, xM209)) (av := [.ref this, .int (2 : Int32), .int (0 : Int32)]) (rest := []) (y_cokV (n := 2) (ci := 12) X ym_puts2X rfl rfl rfl (x_cons (x_bw69 11 rfl rfl) (x_cons (x_bw69 13 rfl rfl) (x_cons (x_at 35 (by decide +kernel) rfl) (x_cons (x_bw0 9 rfl rfl) x_nilm)))) (x_bw69 14 rfl rfl) (by decide +kernel) ⟨Nat.le_of_ble_eq_true rfl, Nat.le_of_ble_eq_true rfl⟩) hY0 hI rfl un_d3 hl.1 (Nat.le_of_ble_eq_true rfl) (Nat.le_of_ble_eq_true rfl) (Nat.le_of_ble_eq_true rfl) (y_cons (y_cref hY_this rfl) (y_cons ⟨_, rfl, by show (2 : Int) ≤ _; omega, by show _ ≤ (2 : Int); omega⟩ (y_cons ⟨_, rfl, by show (0 : Int) ≤ _; omega, by show _ ≤ (0 : Int); omega⟩ y_nil))) rfl (y_recv rfl hY_this) trivial (y_sub_ef rfl) fun v Yn o Hn L ho hr ha hIn hx_ hE hP => ?_
  have hPu := hP _ _ _ _ _ rfl hs_bk hcn hA_bk
  replace hs_bk := y_Efld hE hY_this rfl (by decide) (by decide) hs_bk
  replace hY_this := y_ext hx_ hI.1 hY_this
  replace hY_bk := y_ext hx_ hI.1 hY_bk
  obtain ⟨rfl, hA_n⟩ := hPu
  clear ho hr ha hE hP hI hx_
  rename x_I _ _ _ _ _ _ _ _ _ _ => hI
  exact y_ireturn B hI rfl rfl rfl List.mem_cons_self ⟨_, rfl, ⟨_, rfl, by show (0 : Int) ≤ _; omega, by show _ ≤ (8 : Int); omega⟩⟩ (x_cs.mono B.2.2.2.2.2 (y_mon B hI)) (fun t' b'  f' h1 h2 h3 h4 => by cases h1; cases h2.symm.trans hs0; cases z_uniq h4 hA0 h3 hcn; exact ⟨rfl, hA_n⟩) (Nat.le_refl _) (Nat.le_refl _) un_d6
def z_Pel : yP := fun D av _ H v _ H' => ∀ (this bk : Nat) (t h w : Int32) (f : Nat → Int32), av = [.ref this, .int t, .int h, .int w] → x_sl D 12 0 this H = some (.ref bk) → z_c f → y_A bk 160 H f → ∃ (r : Int32) (g : Nat → Int32), v = some (.int r) ∧ y_A bk 160 H' g ∧ m_el f t h w r g
theorem el_d0 : decode xM219.2.1 0 = .ok (.iload_n 2, 1) := dz_ok (by decide +kernel)
theorem el_d1 : decode xM219.2.1 1 = .ok (.iconst (-1), 1) := dz_ok (by decide +kernel)
theorem el_d2 : decode xM219.2.1 2 = .ok (.if_icmp .ne 11, 3) := dz_ok (by decide +kernel)
theorem el_d5 : decode xM219.2.1 5 = .ok (.iload_n 3, 1) := dz_ok (by decide +kernel)
theorem el_d6 : decode xM219.2.1 6 = .ok (.ifCond .ne 7, 3) := dz_ok (by decide +kernel)
theorem el_d9 : decode xM219.2.1 9 = .ok (.iconst 1, 1) := dz_ok (by decide +kernel)
theorem el_d10 : decode xM219.2.1 10 = .ok (.goto 4, 3) := dz_ok (by decide +kernel)
theorem el_d13 : decode xM219.2.1 13 = .ok (.iconst 0, 1) := dz_ok (by decide +kernel)
theorem el_d14 : decode xM219.2.1 14 = .ok (.istore 4, 2) := dz_ok (by decide +kernel)
theorem el_d16 : decode xM219.2.1 16 = .ok (.iload_n 1, 1) := dz_ok (by decide +kernel)
theorem el_d17 : decode xM219.2.1 17 = .ok (.i2l, 1) := dz_ok (by decide +kernel)
theorem el_d18 : decode xM219.2.1 18 = .ok (.lconst 0, 1) := dz_ok (by decide +kernel)
theorem el_d19 : decode xM219.2.1 19 = .ok (.ldc2_w 248, 3) := dz_ok (by decide +kernel)
theorem el_d22 : decode xM219.2.1 22 = .ok (.invokestatic 87, 3) := dz_ok (by decide +kernel)
theorem el_d25 : decode xM219.2.1 25 = .ok (.ifCond .eq 26, 3) := dz_ok (by decide +kernel)
theorem el_d28 : decode xM219.2.1 28 = .ok (.iload 4, 2) := dz_ok (by decide +kernel)
theorem el_d30 : decode xM219.2.1 30 = .ok (.ifCond .ne 26, 3) := dz_ok (by decide +kernel)
theorem el_d33 : decode xM219.2.1 33 = .ok (.aload_n 0, 1) := dz_ok (by decide +kernel)
theorem el_d34 : decode xM219.2.1 34 = .ok (.iload_n 2, 1) := dz_ok (by decide +kernel)
theorem el_d35 : decode xM219.2.1 35 = .ok (.invokevirtual 151, 3) := dz_ok (by decide +kernel)
theorem el_d38 : decode xM219.2.1 38 = .ok (.ifCond .eq 13, 3) := dz_ok (by decide +kernel)
theorem el_d41 : decode xM219.2.1 41 = .ok (.iload_n 3, 1) := dz_ok (by decide +kernel)
theorem el_d42 : decode xM219.2.1 42 = .ok (.i2l, 1) := dz_ok (by decide +kernel)
theorem el_d43 : decode xM219.2.1 43 = .ok (.lconst 0, 1) := dz_ok (by decide +kernel)
theorem el_d44 : decode xM219.2.1 44 = .ok (.lconst 1, 1) := dz_ok (by decide +kernel)
theorem el_d45 : decode xM219.2.1 45 = .ok (.invokestatic 87, 3) := dz_ok (by decide +kernel)
theorem el_d48 : decode xM219.2.1 48 = .ok (.ifCond .ne 8, 3) := dz_ok (by decide +kernel)
theorem el_d51 : decode xM219.2.1 51 = .ok (.aload_n 0, 1) := dz_ok (by decide +kernel)
theorem el_d52 : decode xM219.2.1 52 = .ok (.invokevirtual 102, 3) := dz_ok (by decide +kernel)
theorem el_d55 : decode xM219.2.1 55 = .ok (.ireturn, 1) := dz_ok (by decide +kernel)
theorem el_d56 : decode xM219.2.1 56 = .ok (.aload_n 0, 1) := dz_ok (by decide +kernel)
theorem el_d57 : decode xM219.2.1 57 = .ok (.getfield 7, 3) := dz_ok (by decide +kernel)
theorem el_d60 : decode xM219.2.1 60 = .ok (.sipush 136, 3) := dz_ok (by decide +kernel)
theorem el_d63 : decode xM219.2.1 63 = .ok (.iconst 2, 1) := dz_ok (by decide +kernel)
theorem el_d64 : decode xM219.2.1 64 = .ok (.iload_n 1, 1) := dz_ok (by decide +kernel)
theorem el_d65 : decode xM219.2.1 65 = .ok (.imul, 1) := dz_ok (by decide +kernel)
theorem el_d66 : decode xM219.2.1 66 = .ok (.iadd, 1) := dz_ok (by decide +kernel)
theorem el_d67 : decode xM219.2.1 67 = .ok (.iload_n 2, 1) := dz_ok (by decide +kernel)
theorem el_d68 : decode xM219.2.1 68 = .ok (.iastore, 1) := dz_ok (by decide +kernel)
theorem el_d69 : decode xM219.2.1 69 = .ok (.aload_n 0, 1) := dz_ok (by decide +kernel)
theorem el_d70 : decode xM219.2.1 70 = .ok (.getfield 7, 3) := dz_ok (by decide +kernel)
theorem el_d73 : decode xM219.2.1 73 = .ok (.sipush 136, 3) := dz_ok (by decide +kernel)
theorem el_d76 : decode xM219.2.1 76 = .ok (.iconst 2, 1) := dz_ok (by decide +kernel)
theorem el_d77 : decode xM219.2.1 77 = .ok (.iload_n 1, 1) := dz_ok (by decide +kernel)
theorem el_d78 : decode xM219.2.1 78 = .ok (.imul, 1) := dz_ok (by decide +kernel)
theorem el_d79 : decode xM219.2.1 79 = .ok (.iadd, 1) := dz_ok (by decide +kernel)
theorem el_d80 : decode xM219.2.1 80 = .ok (.iconst 1, 1) := dz_ok (by decide +kernel)
theorem el_d81 : decode xM219.2.1 81 = .ok (.iadd, 1) := dz_ok (by decide +kernel)
theorem el_d82 : decode xM219.2.1 82 = .ok (.iload_n 3, 1) := dz_ok (by decide +kernel)
theorem el_d83 : decode xM219.2.1 83 = .ok (.iastore, 1) := dz_ok (by decide +kernel)
theorem el_d84 : decode xM219.2.1 84 = .ok (.iconst 1, 1) := dz_ok (by decide +kernel)
theorem el_d85 : decode xM219.2.1 85 = .ok (.ireturn, 1) := dz_ok (by decide +kernel)
theorem ym_tellX : y_Met vwCl x_G x_Zs x_Tb x_Nb xM219 y_T z_Pel := by
  refine y_main (by decide +kernel) (by decide +kernel) x_Tb_good x_Nb_ok ?_
  intro p l e s m below meth c D U Y0 av ls B hI _ hl
  have X := B.1
  have hx := X.1
  have hb := X.2.1
  have hY0 := B.2.2.2.2.1
  obtain ⟨v0, v1, v2, v3, rfl, hv0, ⟨t, rfl, -⟩, ⟨h, rfl, -⟩, ⟨w, rfl, -⟩⟩ := y_four B.2.2.2.2.2
  obtain ⟨this, t0, rfl, ht0, hY_this⟩ := x_ref_at hv0 rfl
  obtain rfl := List.mem_singleton.mp ht0
  replace hl : lv_has ls xM219.2.2.1 [(0, .ref this), (1, .int t), (2, .int h), (3, .int w)] := hl
  obtain ⟨bk, hs_bk, hY_bk⟩ := y_fldR (k := 0) hI.1 hY_this rfl rfl
  obtain ⟨fb9, hA9, hB9⟩ := y_arr hI.1 hY_bk rfl rfl
  obtain ⟨fb, hcn, hA_bk, hB_bk⟩ := z_canon (Y := Y0) (P := fun j v => x_c Y0 ([xI 0 10, xI 0 8, xI 0 8].getD j xF) (.int v)) hA9 hB9
  clear hA9 hB9 fb9
  have hs0 := hs_bk
  have hA0 := hA_bk
  have hd := z_hdr hB_bk
  have hd0 := hd.1
  have hd1 := hd.2.1
  refine lv_iload_n hx hb el_d0 rfl (lv_at hl 2 rfl) ?_
  refine lv_iconst hx hb el_d1 (v := (-1)) (by decide) ?_
  have ecm1 : ((-1) : Int32).toInt = (-1) := by decide
  refine lv_icmp_ne hx hb el_d2 (tgt := 13) (by decide) (fun q2 => ?_) (fun q2 => ?_)
  · have q2_ : ¬ h.toInt = ((-1) : Int32).toInt := fun q => q2 (Int32.toInt_inj.mp q)
    refine lv_iconst hx hb el_d13 (v := 0) (by decide) ?_
    have ec0 : (0 : Int32).toInt = 0 := by decide
    refine lv_istore hx hb el_d14 hl (by decide) (lv' := [(4, .int (0 : Int32)), (0, .ref this), (1, .int t), (2, .int h), (3, .int w)]) rfl fun ls hl => ?_
    refine lv_iload_n hx hb el_d16 rfl (lv_at hl 2 rfl) ?_
    obtain ⟨z17, hg_z17⟩ : ∃ z17 : Int64, t.toInt64 = z17 := ⟨_, rfl⟩
    have h_z17 : z17.toInt = (t).toInt := by rw [← hg_z17]; exact Int32.toInt_toInt64 _
    refine lv_i2l hx hb el_d17 (v := z17) hg_z17 ?_
    refine lv_lconst hx hb el_d18 (v := 0) (by decide) ?_
    have el0 : (0 : Int64).toInt = 0 := by decide
    refine lv_ldc2 hx hb X.2.2.2.1 (v := 11) (X.2.2.2.2.1 _ (x_bw79 12 rfl rfl)) el_d19 ?_
    have el11 : (11 : Int64).toInt = 11 := by decide
    refine y_call (z := (1, 87, 3, none, xM148)) (av := [.long z17, .long (0 : Int64), .long (11 : Int64)]) (rest := []) (y_cokS (n := 3) X ym_in (x_cons (x_bw67 11 rfl rfl) (x_cons (x_bw67 12 rfl rfl) (x_cons (x_bw0 9 rfl rfl) x_nilm))) (x_bw67 13 rfl rfl) (by decide +kernel) ⟨Nat.le_of_ble_eq_true rfl, Nat.le_of_ble_eq_true rfl⟩) hY0 hI rfl el_d22 hl.1 (Nat.le_of_ble_eq_true rfl) (Nat.le_of_ble_eq_true rfl) (Nat.le_of_ble_eq_true rfl) (y_cons ⟨_, rfl, x_i64 _⟩ (y_cons ⟨_, rfl, x_i64 _⟩ (y_cons ⟨_, rfl, x_i64 _⟩ y_nil))) rfl (y_norecv rfl) trivial (y_sub_ef rfl) fun v Yn o Hn L ho hr ha hIn hx_ hE hP => ?_
    replace hs_bk := y_Efld hE hY_this rfl (by decide) (by decide) hs_bk
    replace hA_bk := hA_bk.kept (y_Earr hE hY_bk rfl (by decide))
    replace hY_this := y_ext hx_ hI.1 hY_this
    replace hY_bk := y_ext hx_ hI.1 hY_bk
    obtain ⟨r22, rfl, hin_r22, hout_r22⟩ := z_inR2 (hP _ _ _ rfl)
    clear ho hr ha hE hP hI hx_
    rename x_I _ _ _ _ _ _ _ _ _ _ => hI
    refine lv_if_eq hx hb el_d25 (tgt := 51) (by decide) (fun q25 => ?_) (fun q25 => ?_)
    · have q25_ : r22.toInt = (0 : Int32).toInt := by rw [q25]
      have hno : ¬ m_elOk fb t h w := fun q9 => by obtain ⟨a1, a2⟩ := q9; first | (have h9 := hout_r22 (by assumption); omega) | (rcases a2 with a2 | a2; omega; exact hout_r35 (by assumption) a2.1) | (rcases a2 with a2 | a2; omega; have h9 := hout_r45 (by assumption); omega)
      refine lv_aload_n hx hb el_d51 rfl (lv_at hl 1 rfl) ?_
      refine y_call (z := (0, 102, 1, some 17, xM143)) (av := [.ref this]) (rest := []) (y_cokV (n := 0) (ci := 12) X ym_bad rfl rfl rfl (x_cons (x_bw68 3 rfl rfl) (x_cons (x_bw68 5 rfl rfl) (x_cons (x_at 32 (by decide +kernel) rfl) (x_cons (x_bw0 9 rfl rfl) x_nilm)))) (x_bw68 6 rfl rfl) (by decide +kernel) ⟨Nat.le_of_ble_eq_true rfl, Nat.le_of_ble_eq_true rfl⟩) hY0 hI rfl el_d52 hl.1 (Nat.le_of_ble_eq_true rfl) (Nat.le_of_ble_eq_true rfl) (Nat.le_of_ble_eq_true rfl) (y_cons (y_cref hY_this rfl) y_nil) rfl (y_recv rfl hY_this) trivial (y_sub_ef rfl) fun v Yn o Hn L ho hr ha hIn hx_ hE hP => ?_
      replace hs_bk := y_Efld hE hY_this rfl (by decide) (by decide) hs_bk
      replace hA_bk := hA_bk.kept (y_Earr hE hY_bk rfl (by decide))
      replace hY_this := y_ext hx_ hI.1 hY_this
      replace hY_bk := y_ext hx_ hI.1 hY_bk
      have hPb := hP
      obtain rfl := hPb
      clear ho hr ha hE hP hI hx_
      rename x_I _ _ _ _ _ _ _ _ _ _ => hI
      exact y_ireturn B hI rfl rfl rfl List.mem_cons_self ⟨_, rfl, ⟨_, rfl, x_i32 _⟩⟩ (x_cs.mono B.2.2.2.2.2 (y_mon B hI)) (fun t' b' w0' w1' w2' f' h1 h2 h3 h4 => by cases h1; cases h2.symm.trans hs0; cases z_uniq h4 hA0 h3 hcn; exact ⟨_, _, rfl, hA_bk, fun _ => ⟨rfl, rfl⟩, fun q9 => absurd q9 hno⟩) (Nat.le_refl _) (Nat.le_refl _) el_d55
    · have q25_ : ¬ r22.toInt = (0 : Int32).toInt := fun q => q25 (Int32.toInt_inj.mp q)
      refine lv_iload hx hb el_d28 (lv_at hl 0 rfl) ?_
      refine lv_if_ne hx hb el_d30 (tgt := 56) (by decide) (fun q30 => ?_) (fun q30 => ?_)
      · have q30_ : ¬ (0 : Int32).toInt = (0 : Int32).toInt := fun q => q30 (Int32.toInt_inj.mp q)
        have hw1 := hin_r22 (by assumption)
        have hok : m_elOk fb t h w := ⟨by omega, by first | exact Or.inl ⟨by omega, by omega⟩ | exact Or.inr ⟨hin_r35 (by assumption), by have h9 := hin_r45 (by assumption); omega, by have h9 := hin_r45 (by assumption); omega⟩⟩
        refine lv_aload_n hx hb el_d56 rfl (lv_at hl 1 rfl) ?_
        refine y_getf X (fl190 X.2.2.2.2.1) hI.1 hY_this rfl hs_bk el_d57 ?_
        refine lv_sipush hx hb el_d60 (v := 136) (by decide) ?_
        have ec136 : (136 : Int32).toInt = 136 := by decide
        refine lv_iconst hx hb el_d63 (v := 2) (by decide) ?_
        have ec2 : (2 : Int32).toInt = 2 := by decide
        refine lv_iload_n hx hb el_d64 rfl (lv_at hl 2 rfl) ?_
        refine lv_imul hx hb el_d65 ?_
        generalize hg_z65 : (2 : Int32) * t = z65
        have h_z65 : z65.toInt = 2 * t.toInt := by rw [← hg_z65]; have := y_mul (x := (2 : Int32)) (y := t) (by rw [ec2]; omega) (by rw [ec2]; omega); rw [ec2] at this; exact this
        refine lv_iadd hx hb el_d66 ?_
        generalize hg_z66 : (136 : Int32) + z65 = z66
        have h_z66 : z66.toInt = 136 + z65.toInt := by rw [← hg_z66]; have := y_add (x := (136 : Int32)) (y := z65) (by rw [ec136]; omega) (by rw [ec136]; omega); rw [ec136] at this; exact this
        refine lv_iload_n hx hb el_d67 rfl (lv_at hl 3 rfl) ?_
        refine y_iast X hY0 hI hY_bk rfl hA_bk (by omega) (by show _ < (160 : Int); omega) (by rw [z_get3 (by omega)]; exact ⟨_, rfl, x_i32 _⟩) (by decide +kernel) el_d68 fun H locs hI h_new ho => ?_
        replace hA_bk := h_new
        generalize hf_f68 : y_up fb z66.toInt.toNat h = f68 at hA_bk
        replace hs_bk := y_slk hs_bk (ho _ (y_ne hY_this hY_bk rfl))
        refine lv_aload_n hx hb el_d69 rfl (lv_at hl 1 rfl) ?_
        refine y_getf X (fl190 X.2.2.2.2.1) hI.1 hY_this rfl hs_bk el_d70 ?_
        refine lv_sipush hx hb el_d73 (v := 136) (by decide) ?_
        refine lv_iconst hx hb el_d76 (v := 2) (by decide) ?_
        refine lv_iload_n hx hb el_d77 rfl (lv_at hl 2 rfl) ?_
        refine lv_imul hx hb el_d78 ?_
        generalize hg_z78 : (2 : Int32) * t = z78
        have h_z78 : z78.toInt = 2 * t.toInt := by rw [← hg_z78]; have := y_mul (x := (2 : Int32)) (y := t) (by rw [ec2]; omega) (by rw [ec2]; omega); rw [ec2] at this; exact this
        refine lv_iadd hx hb el_d79 ?_
        generalize hg_z79 : (136 : Int32) + z78 = z79
        have h_z79 : z79.toInt = 136 + z78.toInt := by rw [← hg_z79]; have := y_add (x := (136 : Int32)) (y := z78) (by rw [ec136]; omega) (by rw [ec136]; omega); rw [ec136] at this; exact this
        refine lv_iconst hx hb el_d80 (v := 1) (by decide) ?_
        have ec1 : (1 : Int32).toInt = 1 := by decide
        refine lv_iadd hx hb el_d81 ?_
        generalize hg_z81 : z79 + (1 : Int32) = z81
        have h_z81 : z81.toInt = z79.toInt + 1 := by rw [← hg_z81]; have := y_add (x := z79) (y := (1 : Int32)) (by rw [ec1]; omega) (by rw [ec1]; omega); rw [ec1] at this; exact this
        refine lv_iload_n hx hb el_d82 rfl (lv_at hl 4 rfl) ?_
        refine y_iast X hY0 hI hY_bk rfl hA_bk (by omega) (by show _ < (160 : Int); omega) (by rw [z_get3 (by omega)]; exact ⟨_, rfl, x_i32 _⟩) (by decide +kernel) el_d83 fun H locs hI h_new ho => ?_
        replace hA_bk := h_new
        generalize hf_f83 : y_up f68 z81.toInt.toNat w = f83 at hA_bk
        replace hs_bk := y_slk hs_bk (ho _ (y_ne hY_this hY_bk rfl))
        refine lv_iconst hx hb el_d84 (v := 1) (by decide) ?_
        have h_up : f83 = y_up (y_up fb (136 + 2 * t.toInt.toNat) h) (137 + 2 * t.toInt.toNat) w := by rw [← hf_f83, ← hf_f68, show z66.toInt.toNat = 136 + 2 * t.toInt.toNat by omega, show z81.toInt.toNat = 137 + 2 * t.toInt.toNat by omega]
        exact y_ireturn B hI rfl rfl rfl List.mem_cons_self ⟨_, rfl, ⟨_, rfl, x_i32 _⟩⟩ (x_cs.mono B.2.2.2.2.2 (y_mon B hI)) (fun t' b' w0' w1' w2' f' h1 h2 h3 h4 => by cases h1; cases h2.symm.trans hs0; cases z_uniq h4 hA0 h3 hcn; exact ⟨_, _, rfl, hA_bk, fun q9 => absurd hok q9, fun _ => ⟨rfl, h_up⟩⟩) (Nat.le_refl _) (Nat.le_refl _) el_d85
      · have q30_ : (0 : Int32).toInt = (0 : Int32).toInt := by rw [q30]
        refine lv_aload_n hx hb el_d33 rfl (lv_at hl 1 rfl) ?_
        refine lv_iload_n hx hb el_d34 rfl (lv_at hl 3 rfl) ?_
        refine y_call (z := (0, 151, 2, some 17, xM171)) (av := [.ref this, .int h]) (rest := []) (y_cokV (n := 1) (ci := 12) X ym_isHillX rfl rfl rfl (x_cons (x_bw72 2 rfl rfl) (x_cons (x_bw72 4 rfl rfl) (x_cons (x_at 40 (by decide +kernel) rfl) (x_cons (x_bw0 9 rfl rfl) x_nilm)))) (x_bw72 5 rfl rfl) (by decide +kernel) ⟨Nat.le_of_ble_eq_true rfl, Nat.le_of_ble_eq_true rfl⟩) hY0 hI rfl el_d35 hl.1 (Nat.le_of_ble_eq_true rfl) (Nat.le_of_ble_eq_true rfl) (Nat.le_of_ble_eq_true rfl) (y_cons (y_cref hY_this rfl) (y_cons ⟨_, rfl, x_i32 _⟩ y_nil)) rfl (y_recv rfl hY_this) trivial (y_sub_ef rfl) fun v Yn o Hn L ho hr ha hIn hx_ hE hP => ?_
        have hPq := hP _ _ _ _ rfl hs_bk hcn hA_bk
        replace hs_bk := y_Efld hE hY_this rfl (by decide) (by decide) hs_bk
        replace hA_bk := hA_bk.kept (y_Earr hE hY_bk rfl (by decide))
        replace hY_this := y_ext hx_ hI.1 hY_this
        replace hY_bk := y_ext hx_ hI.1 hY_bk
        obtain ⟨r35, rfl, hin_r35, hout_r35⟩ := hPq
        clear ho hr ha hE hP hI hx_
        rename x_I _ _ _ _ _ _ _ _ _ _ => hI
        refine lv_if_eq hx hb el_d38 (tgt := 51) (by decide) (fun q38 => ?_) (fun q38 => ?_)
        · have q38_ : r35.toInt = (0 : Int32).toInt := by rw [q38]
          have hno : ¬ m_elOk fb t h w := fun q9 => by obtain ⟨a1, a2⟩ := q9; first | (have h9 := hout_r22 (by assumption); omega) | (rcases a2 with a2 | a2; omega; exact hout_r35 (by assumption) a2.1) | (rcases a2 with a2 | a2; omega; have h9 := hout_r45 (by assumption); omega)
          refine lv_aload_n hx hb el_d51 rfl (lv_at hl 1 rfl) ?_
          refine y_call (z := (0, 102, 1, some 17, xM143)) (av := [.ref this]) (rest := []) (y_cokV (n := 0) (ci := 12) X ym_bad rfl rfl rfl (x_cons (x_bw68 3 rfl rfl) (x_cons (x_bw68 5 rfl rfl) (x_cons (x_at 32 (by decide +kernel) rfl) (x_cons (x_bw0 9 rfl rfl) x_nilm)))) (x_bw68 6 rfl rfl) (by decide +kernel) ⟨Nat.le_of_ble_eq_true rfl, Nat.le_of_ble_eq_true rfl⟩) hY0 hI rfl el_d52 hl.1 (Nat.le_of_ble_eq_true rfl) (Nat.le_of_ble_eq_true rfl) (Nat.le_of_ble_eq_true rfl) (y_cons (y_cref hY_this rfl) y_nil) rfl (y_recv rfl hY_this) trivial (y_sub_ef rfl) fun v Yn o Hn L ho hr ha hIn hx_ hE hP => ?_
          replace hs_bk := y_Efld hE hY_this rfl (by decide) (by decide) hs_bk
          replace hA_bk := hA_bk.kept (y_Earr hE hY_bk rfl (by decide))
          replace hY_this := y_ext hx_ hI.1 hY_this
          replace hY_bk := y_ext hx_ hI.1 hY_bk
          have hPb := hP
          obtain rfl := hPb
          clear ho hr ha hE hP hI hx_
          rename x_I _ _ _ _ _ _ _ _ _ _ => hI
          exact y_ireturn B hI rfl rfl rfl List.mem_cons_self ⟨_, rfl, ⟨_, rfl, x_i32 _⟩⟩ (x_cs.mono B.2.2.2.2.2 (y_mon B hI)) (fun t' b' w0' w1' w2' f' h1 h2 h3 h4 => by cases h1; cases h2.symm.trans hs0; cases z_uniq h4 hA0 h3 hcn; exact ⟨_, _, rfl, hA_bk, fun _ => ⟨rfl, rfl⟩, fun q9 => absurd q9 hno⟩) (Nat.le_refl _) (Nat.le_refl _) el_d55
        · have q38_ : ¬ r35.toInt = (0 : Int32).toInt := fun q => q38 (Int32.toInt_inj.mp q)
          refine lv_iload_n hx hb el_d41 rfl (lv_at hl 4 rfl) ?_
          obtain ⟨z42, hg_z42⟩ : ∃ z42 : Int64, w.toInt64 = z42 := ⟨_, rfl⟩
          have h_z42 : z42.toInt = (w).toInt := by rw [← hg_z42]; exact Int32.toInt_toInt64 _
          refine lv_i2l hx hb el_d42 (v := z42) hg_z42 ?_
          refine lv_lconst hx hb el_d43 (v := 0) (by decide) ?_
          have el0 : (0 : Int64).toInt = 0 := by decide
          refine lv_lconst hx hb el_d44 (v := 1) (by decide) ?_
          have el1 : (1 : Int64).toInt = 1 := by decide
          refine y_call (z := (1, 87, 3, none, xM148)) (av := [.long z42, .long (0 : Int64), .long (1 : Int64)]) (rest := []) (y_cokS (n := 3) X ym_in (x_cons (x_bw67 11 rfl rfl) (x_cons (x_bw67 12 rfl rfl) (x_cons (x_bw0 9 rfl rfl) x_nilm))) (x_bw67 13 rfl rfl) (by decide +kernel) ⟨Nat.le_of_ble_eq_true rfl, Nat.le_of_ble_eq_true rfl⟩) hY0 hI rfl el_d45 hl.1 (Nat.le_of_ble_eq_true rfl) (Nat.le_of_ble_eq_true rfl) (Nat.le_of_ble_eq_true rfl) (y_cons ⟨_, rfl, x_i64 _⟩ (y_cons ⟨_, rfl, x_i64 _⟩ (y_cons ⟨_, rfl, x_i64 _⟩ y_nil))) rfl (y_norecv rfl) trivial (y_sub_ef rfl) fun v Yn o Hn L ho hr ha hIn hx_ hE hP => ?_
          replace hs_bk := y_Efld hE hY_this rfl (by decide) (by decide) hs_bk
          replace hA_bk := hA_bk.kept (y_Earr hE hY_bk rfl (by decide))
          replace hY_this := y_ext hx_ hI.1 hY_this
          replace hY_bk := y_ext hx_ hI.1 hY_bk
          obtain ⟨r45, rfl, hin_r45, hout_r45⟩ := z_inR2 (hP _ _ _ rfl)
          clear ho hr ha hE hP hI hx_
          rename x_I _ _ _ _ _ _ _ _ _ _ => hI
          refine lv_if_ne hx hb el_d48 (tgt := 56) (by decide) (fun q48 => ?_) (fun q48 => ?_)
          · have q48_ : ¬ r45.toInt = (0 : Int32).toInt := fun q => q48 (Int32.toInt_inj.mp q)
            have hw1 := hin_r22 (by assumption)
            have hok : m_elOk fb t h w := ⟨by omega, by first | exact Or.inl ⟨by omega, by omega⟩ | exact Or.inr ⟨hin_r35 (by assumption), by have h9 := hin_r45 (by assumption); omega, by have h9 := hin_r45 (by assumption); omega⟩⟩
            refine lv_aload_n hx hb el_d56 rfl (lv_at hl 1 rfl) ?_
            refine y_getf X (fl190 X.2.2.2.2.1) hI.1 hY_this rfl hs_bk el_d57 ?_
            refine lv_sipush hx hb el_d60 (v := 136) (by decide) ?_
            have ec136 : (136 : Int32).toInt = 136 := by decide
            refine lv_iconst hx hb el_d63 (v := 2) (by decide) ?_
            have ec2 : (2 : Int32).toInt = 2 := by decide
            refine lv_iload_n hx hb el_d64 rfl (lv_at hl 2 rfl) ?_
            refine lv_imul hx hb el_d65 ?_
            generalize hg_z65 : (2 : Int32) * t = z65
            have h_z65 : z65.toInt = 2 * t.toInt := by rw [← hg_z65]; have := y_mul (x := (2 : Int32)) (y := t) (by rw [ec2]; omega) (by rw [ec2]; omega); rw [ec2] at this; exact this
            refine lv_iadd hx hb el_d66 ?_
            generalize hg_z66 : (136 : Int32) + z65 = z66
            have h_z66 : z66.toInt = 136 + z65.toInt := by rw [← hg_z66]; have := y_add (x := (136 : Int32)) (y := z65) (by rw [ec136]; omega) (by rw [ec136]; omega); rw [ec136] at this; exact this
            refine lv_iload_n hx hb el_d67 rfl (lv_at hl 3 rfl) ?_
            refine y_iast X hY0 hI hY_bk rfl hA_bk (by omega) (by show _ < (160 : Int); omega) (by rw [z_get3 (by omega)]; exact ⟨_, rfl, x_i32 _⟩) (by decide +kernel) el_d68 fun H locs hI h_new ho => ?_
            replace hA_bk := h_new
            generalize hf_f68 : y_up fb z66.toInt.toNat h = f68 at hA_bk
            replace hs_bk := y_slk hs_bk (ho _ (y_ne hY_this hY_bk rfl))
            refine lv_aload_n hx hb el_d69 rfl (lv_at hl 1 rfl) ?_
            refine y_getf X (fl190 X.2.2.2.2.1) hI.1 hY_this rfl hs_bk el_d70 ?_
            refine lv_sipush hx hb el_d73 (v := 136) (by decide) ?_
            refine lv_iconst hx hb el_d76 (v := 2) (by decide) ?_
            refine lv_iload_n hx hb el_d77 rfl (lv_at hl 2 rfl) ?_
            refine lv_imul hx hb el_d78 ?_
            generalize hg_z78 : (2 : Int32) * t = z78
            have h_z78 : z78.toInt = 2 * t.toInt := by rw [← hg_z78]; have := y_mul (x := (2 : Int32)) (y := t) (by rw [ec2]; omega) (by rw [ec2]; omega); rw [ec2] at this; exact this
            refine lv_iadd hx hb el_d79 ?_
            generalize hg_z79 : (136 : Int32) + z78 = z79
            have h_z79 : z79.toInt = 136 + z78.toInt := by rw [← hg_z79]; have := y_add (x := (136 : Int32)) (y := z78) (by rw [ec136]; omega) (by rw [ec136]; omega); rw [ec136] at this; exact this
            refine lv_iconst hx hb el_d80 (v := 1) (by decide) ?_
            have ec1 : (1 : Int32).toInt = 1 := by decide
            refine lv_iadd hx hb el_d81 ?_
            generalize hg_z81 : z79 + (1 : Int32) = z81
            have h_z81 : z81.toInt = z79.toInt + 1 := by rw [← hg_z81]; have := y_add (x := z79) (y := (1 : Int32)) (by rw [ec1]; omega) (by rw [ec1]; omega); rw [ec1] at this; exact this
            refine lv_iload_n hx hb el_d82 rfl (lv_at hl 4 rfl) ?_
            refine y_iast X hY0 hI hY_bk rfl hA_bk (by omega) (by show _ < (160 : Int); omega) (by rw [z_get3 (by omega)]; exact ⟨_, rfl, x_i32 _⟩) (by decide +kernel) el_d83 fun H locs hI h_new ho => ?_
            replace hA_bk := h_new
            generalize hf_f83 : y_up f68 z81.toInt.toNat w = f83 at hA_bk
            replace hs_bk := y_slk hs_bk (ho _ (y_ne hY_this hY_bk rfl))
            refine lv_iconst hx hb el_d84 (v := 1) (by decide) ?_
            have h_up : f83 = y_up (y_up fb (136 + 2 * t.toInt.toNat) h) (137 + 2 * t.toInt.toNat) w := by rw [← hf_f83, ← hf_f68, show z66.toInt.toNat = 136 + 2 * t.toInt.toNat by omega, show z81.toInt.toNat = 137 + 2 * t.toInt.toNat by omega]
            exact y_ireturn B hI rfl rfl rfl List.mem_cons_self ⟨_, rfl, ⟨_, rfl, x_i32 _⟩⟩ (x_cs.mono B.2.2.2.2.2 (y_mon B hI)) (fun t' b' w0' w1' w2' f' h1 h2 h3 h4 => by cases h1; cases h2.symm.trans hs0; cases z_uniq h4 hA0 h3 hcn; exact ⟨_, _, rfl, hA_bk, fun q9 => absurd hok q9, fun _ => ⟨rfl, h_up⟩⟩) (Nat.le_refl _) (Nat.le_refl _) el_d85
          · have q48_ : r45.toInt = (0 : Int32).toInt := by rw [q48]
            have hno : ¬ m_elOk fb t h w := fun q9 => by obtain ⟨a1, a2⟩ := q9; first | (have h9 := hout_r22 (by assumption); omega) | (rcases a2 with a2 | a2; omega; exact hout_r35 (by assumption) a2.1) | (rcases a2 with a2 | a2; omega; have h9 := hout_r45 (by assumption); omega)
            refine lv_aload_n hx hb el_d51 rfl (lv_at hl 1 rfl) ?_
            refine y_call (z := (0, 102, 1, some 17, xM143)) (av := [.ref this]) (rest := []) (y_cokV (n := 0) (ci := 12) X ym_bad rfl rfl rfl (x_cons (x_bw68 3 rfl rfl) (x_cons (x_bw68 5 rfl rfl) (x_cons (x_at 32 (by decide +kernel) rfl) (x_cons (x_bw0 9 rfl rfl) x_nilm)))) (x_bw68 6 rfl rfl) (by decide +kernel) ⟨Nat.le_of_ble_eq_true rfl, Nat.le_of_ble_eq_true rfl⟩) hY0 hI rfl el_d52 hl.1 (Nat.le_of_ble_eq_true rfl) (Nat.le_of_ble_eq_true rfl) (Nat.le_of_ble_eq_true rfl) (y_cons (y_cref hY_this rfl) y_nil) rfl (y_recv rfl hY_this) trivial (y_sub_ef rfl) fun v Yn o Hn L ho hr ha hIn hx_ hE hP => ?_
            replace hs_bk := y_Efld hE hY_this rfl (by decide) (by decide) hs_bk
            replace hA_bk := hA_bk.kept (y_Earr hE hY_bk rfl (by decide))
            replace hY_this := y_ext hx_ hI.1 hY_this
            replace hY_bk := y_ext hx_ hI.1 hY_bk
            have hPb := hP
            obtain rfl := hPb
            clear ho hr ha hE hP hI hx_
            rename x_I _ _ _ _ _ _ _ _ _ _ => hI
            exact y_ireturn B hI rfl rfl rfl List.mem_cons_self ⟨_, rfl, ⟨_, rfl, x_i32 _⟩⟩ (x_cs.mono B.2.2.2.2.2 (y_mon B hI)) (fun t' b' w0' w1' w2' f' h1 h2 h3 h4 => by cases h1; cases h2.symm.trans hs0; cases z_uniq h4 hA0 h3 hcn; exact ⟨_, _, rfl, hA_bk, fun _ => ⟨rfl, rfl⟩, fun q9 => absurd q9 hno⟩) (Nat.le_refl _) (Nat.le_refl _) el_d55
  · have q2_ : h.toInt = ((-1) : Int32).toInt := by rw [q2]
    refine lv_iload_n hx hb el_d5 rfl (lv_at hl 3 rfl) ?_
    have ec0 : (0 : Int32).toInt = 0 := by decide
    refine lv_if_ne hx hb el_d6 (tgt := 13) (by decide) (fun q6 => ?_) (fun q6 => ?_)
    · have q6_ : ¬ w.toInt = (0 : Int32).toInt := fun q => q6 (Int32.toInt_inj.mp q)
      refine lv_iconst hx hb el_d13 (v := 0) (by decide) ?_
      refine lv_istore hx hb el_d14 hl (by decide) (lv' := [(4, .int (0 : Int32)), (0, .ref this), (1, .int t), (2, .int h), (3, .int w)]) rfl fun ls hl => ?_
      refine lv_iload_n hx hb el_d16 rfl (lv_at hl 2 rfl) ?_
      obtain ⟨z17, hg_z17⟩ : ∃ z17 : Int64, t.toInt64 = z17 := ⟨_, rfl⟩
      have h_z17 : z17.toInt = (t).toInt := by rw [← hg_z17]; exact Int32.toInt_toInt64 _
      refine lv_i2l hx hb el_d17 (v := z17) hg_z17 ?_
      refine lv_lconst hx hb el_d18 (v := 0) (by decide) ?_
      have el0 : (0 : Int64).toInt = 0 := by decide
      refine lv_ldc2 hx hb X.2.2.2.1 (v := 11) (X.2.2.2.2.1 _ (x_bw79 12 rfl rfl)) el_d19 ?_
      have el11 : (11 : Int64).toInt = 11 := by decide
      refine y_call (z := (1, 87, 3, none, xM148)) (av := [.long z17, .long (0 : Int64), .long (11 : Int64)]) (rest := []) (y_cokS (n := 3) X ym_in (x_cons (x_bw67 11 rfl rfl) (x_cons (x_bw67 12 rfl rfl) (x_cons (x_bw0 9 rfl rfl) x_nilm))) (x_bw67 13 rfl rfl) (by decide +kernel) ⟨Nat.le_of_ble_eq_true rfl, Nat.le_of_ble_eq_true rfl⟩) hY0 hI rfl el_d22 hl.1 (Nat.le_of_ble_eq_true rfl) (Nat.le_of_ble_eq_true rfl) (Nat.le_of_ble_eq_true rfl) (y_cons ⟨_, rfl, x_i64 _⟩ (y_cons ⟨_, rfl, x_i64 _⟩ (y_cons ⟨_, rfl, x_i64 _⟩ y_nil))) rfl (y_norecv rfl) trivial (y_sub_ef rfl) fun v Yn o Hn L ho hr ha hIn hx_ hE hP => ?_
      replace hs_bk := y_Efld hE hY_this rfl (by decide) (by decide) hs_bk
      replace hA_bk := hA_bk.kept (y_Earr hE hY_bk rfl (by decide))
      replace hY_this := y_ext hx_ hI.1 hY_this
      replace hY_bk := y_ext hx_ hI.1 hY_bk
      obtain ⟨r22, rfl, hin_r22, hout_r22⟩ := z_inR2 (hP _ _ _ rfl)
      clear ho hr ha hE hP hI hx_
      rename x_I _ _ _ _ _ _ _ _ _ _ => hI
      refine lv_if_eq hx hb el_d25 (tgt := 51) (by decide) (fun q25 => ?_) (fun q25 => ?_)
      · have q25_ : r22.toInt = (0 : Int32).toInt := by rw [q25]
        have hno : ¬ m_elOk fb t h w := fun q9 => by obtain ⟨a1, a2⟩ := q9; first | (have h9 := hout_r22 (by assumption); omega) | (rcases a2 with a2 | a2; omega; exact hout_r35 (by assumption) a2.1) | (rcases a2 with a2 | a2; omega; have h9 := hout_r45 (by assumption); omega)
        refine lv_aload_n hx hb el_d51 rfl (lv_at hl 1 rfl) ?_
        refine y_call (z := (0, 102, 1, some 17, xM143)) (av := [.ref this]) (rest := []) (y_cokV (n := 0) (ci := 12) X ym_bad rfl rfl rfl (x_cons (x_bw68 3 rfl rfl) (x_cons (x_bw68 5 rfl rfl) (x_cons (x_at 32 (by decide +kernel) rfl) (x_cons (x_bw0 9 rfl rfl) x_nilm)))) (x_bw68 6 rfl rfl) (by decide +kernel) ⟨Nat.le_of_ble_eq_true rfl, Nat.le_of_ble_eq_true rfl⟩) hY0 hI rfl el_d52 hl.1 (Nat.le_of_ble_eq_true rfl) (Nat.le_of_ble_eq_true rfl) (Nat.le_of_ble_eq_true rfl) (y_cons (y_cref hY_this rfl) y_nil) rfl (y_recv rfl hY_this) trivial (y_sub_ef rfl) fun v Yn o Hn L ho hr ha hIn hx_ hE hP => ?_
        replace hs_bk := y_Efld hE hY_this rfl (by decide) (by decide) hs_bk
        replace hA_bk := hA_bk.kept (y_Earr hE hY_bk rfl (by decide))
        replace hY_this := y_ext hx_ hI.1 hY_this
        replace hY_bk := y_ext hx_ hI.1 hY_bk
        have hPb := hP
        obtain rfl := hPb
        clear ho hr ha hE hP hI hx_
        rename x_I _ _ _ _ _ _ _ _ _ _ => hI
        exact y_ireturn B hI rfl rfl rfl List.mem_cons_self ⟨_, rfl, ⟨_, rfl, x_i32 _⟩⟩ (x_cs.mono B.2.2.2.2.2 (y_mon B hI)) (fun t' b' w0' w1' w2' f' h1 h2 h3 h4 => by cases h1; cases h2.symm.trans hs0; cases z_uniq h4 hA0 h3 hcn; exact ⟨_, _, rfl, hA_bk, fun _ => ⟨rfl, rfl⟩, fun q9 => absurd q9 hno⟩) (Nat.le_refl _) (Nat.le_refl _) el_d55
      · have q25_ : ¬ r22.toInt = (0 : Int32).toInt := fun q => q25 (Int32.toInt_inj.mp q)
        refine lv_iload hx hb el_d28 (lv_at hl 0 rfl) ?_
        refine lv_if_ne hx hb el_d30 (tgt := 56) (by decide) (fun q30 => ?_) (fun q30 => ?_)
        · have q30_ : ¬ (0 : Int32).toInt = (0 : Int32).toInt := fun q => q30 (Int32.toInt_inj.mp q)
          have hw1 := hin_r22 (by assumption)
          have hok : m_elOk fb t h w := ⟨by omega, by first | exact Or.inl ⟨by omega, by omega⟩ | exact Or.inr ⟨hin_r35 (by assumption), by have h9 := hin_r45 (by assumption); omega, by have h9 := hin_r45 (by assumption); omega⟩⟩
          refine lv_aload_n hx hb el_d56 rfl (lv_at hl 1 rfl) ?_
          refine y_getf X (fl190 X.2.2.2.2.1) hI.1 hY_this rfl hs_bk el_d57 ?_
          refine lv_sipush hx hb el_d60 (v := 136) (by decide) ?_
          have ec136 : (136 : Int32).toInt = 136 := by decide
          refine lv_iconst hx hb el_d63 (v := 2) (by decide) ?_
          have ec2 : (2 : Int32).toInt = 2 := by decide
          refine lv_iload_n hx hb el_d64 rfl (lv_at hl 2 rfl) ?_
          refine lv_imul hx hb el_d65 ?_
          generalize hg_z65 : (2 : Int32) * t = z65
          have h_z65 : z65.toInt = 2 * t.toInt := by rw [← hg_z65]; have := y_mul (x := (2 : Int32)) (y := t) (by rw [ec2]; omega) (by rw [ec2]; omega); rw [ec2] at this; exact this
          refine lv_iadd hx hb el_d66 ?_
          generalize hg_z66 : (136 : Int32) + z65 = z66
          have h_z66 : z66.toInt = 136 + z65.toInt := by rw [← hg_z66]; have := y_add (x := (136 : Int32)) (y := z65) (by rw [ec136]; omega) (by rw [ec136]; omega); rw [ec136] at this; exact this
          refine lv_iload_n hx hb el_d67 rfl (lv_at hl 3 rfl) ?_
          refine y_iast X hY0 hI hY_bk rfl hA_bk (by omega) (by show _ < (160 : Int); omega) (by rw [z_get3 (by omega)]; exact ⟨_, rfl, x_i32 _⟩) (by decide +kernel) el_d68 fun H locs hI h_new ho => ?_
          replace hA_bk := h_new
          generalize hf_f68 : y_up fb z66.toInt.toNat h = f68 at hA_bk
          replace hs_bk := y_slk hs_bk (ho _ (y_ne hY_this hY_bk rfl))
          refine lv_aload_n hx hb el_d69 rfl (lv_at hl 1 rfl) ?_
          refine y_getf X (fl190 X.2.2.2.2.1) hI.1 hY_this rfl hs_bk el_d70 ?_
          refine lv_sipush hx hb el_d73 (v := 136) (by decide) ?_
          refine lv_iconst hx hb el_d76 (v := 2) (by decide) ?_
          refine lv_iload_n hx hb el_d77 rfl (lv_at hl 2 rfl) ?_
          refine lv_imul hx hb el_d78 ?_
          generalize hg_z78 : (2 : Int32) * t = z78
          have h_z78 : z78.toInt = 2 * t.toInt := by rw [← hg_z78]; have := y_mul (x := (2 : Int32)) (y := t) (by rw [ec2]; omega) (by rw [ec2]; omega); rw [ec2] at this; exact this
          refine lv_iadd hx hb el_d79 ?_
          generalize hg_z79 : (136 : Int32) + z78 = z79
          have h_z79 : z79.toInt = 136 + z78.toInt := by rw [← hg_z79]; have := y_add (x := (136 : Int32)) (y := z78) (by rw [ec136]; omega) (by rw [ec136]; omega); rw [ec136] at this; exact this
          refine lv_iconst hx hb el_d80 (v := 1) (by decide) ?_
          have ec1 : (1 : Int32).toInt = 1 := by decide
          refine lv_iadd hx hb el_d81 ?_
          generalize hg_z81 : z79 + (1 : Int32) = z81
          have h_z81 : z81.toInt = z79.toInt + 1 := by rw [← hg_z81]; have := y_add (x := z79) (y := (1 : Int32)) (by rw [ec1]; omega) (by rw [ec1]; omega); rw [ec1] at this; exact this
          refine lv_iload_n hx hb el_d82 rfl (lv_at hl 4 rfl) ?_
          refine y_iast X hY0 hI hY_bk rfl hA_bk (by omega) (by show _ < (160 : Int); omega) (by rw [z_get3 (by omega)]; exact ⟨_, rfl, x_i32 _⟩) (by decide +kernel) el_d83 fun H locs hI h_new ho => ?_
          replace hA_bk := h_new
          generalize hf_f83 : y_up f68 z81.toInt.toNat w = f83 at hA_bk
          replace hs_bk := y_slk hs_bk (ho _ (y_ne hY_this hY_bk rfl))
          refine lv_iconst hx hb el_d84 (v := 1) (by decide) ?_
          have h_up : f83 = y_up (y_up fb (136 + 2 * t.toInt.toNat) h) (137 + 2 * t.toInt.toNat) w := by rw [← hf_f83, ← hf_f68, show z66.toInt.toNat = 136 + 2 * t.toInt.toNat by omega, show z81.toInt.toNat = 137 + 2 * t.toInt.toNat by omega]
          exact y_ireturn B hI rfl rfl rfl List.mem_cons_self ⟨_, rfl, ⟨_, rfl, x_i32 _⟩⟩ (x_cs.mono B.2.2.2.2.2 (y_mon B hI)) (fun t' b' w0' w1' w2' f' h1 h2 h3 h4 => by cases h1; cases h2.symm.trans hs0; cases z_uniq h4 hA0 h3 hcn; exact ⟨_, _, rfl, hA_bk, fun q9 => absurd hok q9, fun _ => ⟨rfl, h_up⟩⟩) (Nat.le_refl _) (Nat.le_refl _) el_d85
        · have q30_ : (0 : Int32).toInt = (0 : Int32).toInt := by rw [q30]
          refine lv_aload_n hx hb el_d33 rfl (lv_at hl 1 rfl) ?_
          refine lv_iload_n hx hb el_d34 rfl (lv_at hl 3 rfl) ?_
          refine y_call (z := (0, 151, 2, some 17, xM171)) (av := [.ref this, .int h]) (rest := []) (y_cokV (n := 1) (ci := 12) X ym_isHillX rfl rfl rfl (x_cons (x_bw72 2 rfl rfl) (x_cons (x_bw72 4 rfl rfl) (x_cons (x_at 40 (by decide +kernel) rfl) (x_cons (x_bw0 9 rfl rfl) x_nilm)))) (x_bw72 5 rfl rfl) (by decide +kernel) ⟨Nat.le_of_ble_eq_true rfl, Nat.le_of_ble_eq_true rfl⟩) hY0 hI rfl el_d35 hl.1 (Nat.le_of_ble_eq_true rfl) (Nat.le_of_ble_eq_true rfl) (Nat.le_of_ble_eq_true rfl) (y_cons (y_cref hY_this rfl) (y_cons ⟨_, rfl, x_i32 _⟩ y_nil)) rfl (y_recv rfl hY_this) trivial (y_sub_ef rfl) fun v Yn o Hn L ho hr ha hIn hx_ hE hP => ?_
          have hPq := hP _ _ _ _ rfl hs_bk hcn hA_bk
          replace hs_bk := y_Efld hE hY_this rfl (by decide) (by decide) hs_bk
          replace hA_bk := hA_bk.kept (y_Earr hE hY_bk rfl (by decide))
          replace hY_this := y_ext hx_ hI.1 hY_this
          replace hY_bk := y_ext hx_ hI.1 hY_bk
          obtain ⟨r35, rfl, hin_r35, hout_r35⟩ := hPq
          clear ho hr ha hE hP hI hx_
          rename x_I _ _ _ _ _ _ _ _ _ _ => hI
          refine lv_if_eq hx hb el_d38 (tgt := 51) (by decide) (fun q38 => ?_) (fun q38 => ?_)
          · have q38_ : r35.toInt = (0 : Int32).toInt := by rw [q38]
            have hno : ¬ m_elOk fb t h w := fun q9 => by obtain ⟨a1, a2⟩ := q9; first | (have h9 := hout_r22 (by assumption); omega) | (rcases a2 with a2 | a2; omega; exact hout_r35 (by assumption) a2.1) | (rcases a2 with a2 | a2; omega; have h9 := hout_r45 (by assumption); omega)
            refine lv_aload_n hx hb el_d51 rfl (lv_at hl 1 rfl) ?_
            refine y_call (z := (0, 102, 1, some 17, xM143)) (av := [.ref this]) (rest := []) (y_cokV (n := 0) (ci := 12) X ym_bad rfl rfl rfl (x_cons (x_bw68 3 rfl rfl) (x_cons (x_bw68 5 rfl rfl) (x_cons (x_at 32 (by decide +kernel) rfl) (x_cons (x_bw0 9 rfl rfl) x_nilm)))) (x_bw68 6 rfl rfl) (by decide +kernel) ⟨Nat.le_of_ble_eq_true rfl, Nat.le_of_ble_eq_true rfl⟩) hY0 hI rfl el_d52 hl.1 (Nat.le_of_ble_eq_true rfl) (Nat.le_of_ble_eq_true rfl) (Nat.le_of_ble_eq_true rfl) (y_cons (y_cref hY_this rfl) y_nil) rfl (y_recv rfl hY_this) trivial (y_sub_ef rfl) fun v Yn o Hn L ho hr ha hIn hx_ hE hP => ?_
            replace hs_bk := y_Efld hE hY_this rfl (by decide) (by decide) hs_bk
            replace hA_bk := hA_bk.kept (y_Earr hE hY_bk rfl (by decide))
            replace hY_this := y_ext hx_ hI.1 hY_this
            replace hY_bk := y_ext hx_ hI.1 hY_bk
            have hPb := hP
            obtain rfl := hPb
            clear ho hr ha hE hP hI hx_
            rename x_I _ _ _ _ _ _ _ _ _ _ => hI
            exact y_ireturn B hI rfl rfl rfl List.mem_cons_self ⟨_, rfl, ⟨_, rfl, x_i32 _⟩⟩ (x_cs.mono B.2.2.2.2.2 (y_mon B hI)) (fun t' b' w0' w1' w2' f' h1 h2 h3 h4 => by cases h1; cases h2.symm.trans hs0; cases z_uniq h4 hA0 h3 hcn; exact ⟨_, _, rfl, hA_bk, fun _ => ⟨rfl, rfl⟩, fun q9 => absurd q9 hno⟩) (Nat.le_refl _) (Nat.le_refl _) el_d55
          · have q38_ : ¬ r35.toInt = (0 : Int32).toInt := fun q => q38 (Int32.toInt_inj.mp q)
            refine lv_iload_n hx hb el_d41 rfl (lv_at hl 4 rfl) ?_
            obtain ⟨z42, hg_z42⟩ : ∃ z42 : Int64, w.toInt64 = z42 := ⟨_, rfl⟩
            have h_z42 : z42.toInt = (w).toInt := by rw [← hg_z42]; exact Int32.toInt_toInt64 _
            refine lv_i2l hx hb el_d42 (v := z42) hg_z42 ?_
            refine lv_lconst hx hb el_d43 (v := 0) (by decide) ?_
            have el0 : (0 : Int64).toInt = 0 := by decide
            refine lv_lconst hx hb el_d44 (v := 1) (by decide) ?_
            have el1 : (1 : Int64).toInt = 1 := by decide
            refine y_call (z := (1, 87, 3, none, xM148)) (av := [.long z42, .long (0 : Int64), .long (1 : Int64)]) (rest := []) (y_cokS (n := 3) X ym_in (x_cons (x_bw67 11 rfl rfl) (x_cons (x_bw67 12 rfl rfl) (x_cons (x_bw0 9 rfl rfl) x_nilm))) (x_bw67 13 rfl rfl) (by decide +kernel) ⟨Nat.le_of_ble_eq_true rfl, Nat.le_of_ble_eq_true rfl⟩) hY0 hI rfl el_d45 hl.1 (Nat.le_of_ble_eq_true rfl) (Nat.le_of_ble_eq_true rfl) (Nat.le_of_ble_eq_true rfl) (y_cons ⟨_, rfl, x_i64 _⟩ (y_cons ⟨_, rfl, x_i64 _⟩ (y_cons ⟨_, rfl, x_i64 _⟩ y_nil))) rfl (y_norecv rfl) trivial (y_sub_ef rfl) fun v Yn o Hn L ho hr ha hIn hx_ hE hP => ?_
            replace hs_bk := y_Efld hE hY_this rfl (by decide) (by decide) hs_bk
            replace hA_bk := hA_bk.kept (y_Earr hE hY_bk rfl (by decide))
            replace hY_this := y_ext hx_ hI.1 hY_this
            replace hY_bk := y_ext hx_ hI.1 hY_bk
            obtain ⟨r45, rfl, hin_r45, hout_r45⟩ := z_inR2 (hP _ _ _ rfl)
            clear ho hr ha hE hP hI hx_
            rename x_I _ _ _ _ _ _ _ _ _ _ => hI
            refine lv_if_ne hx hb el_d48 (tgt := 56) (by decide) (fun q48 => ?_) (fun q48 => ?_)
            · have q48_ : ¬ r45.toInt = (0 : Int32).toInt := fun q => q48 (Int32.toInt_inj.mp q)
              have hw1 := hin_r22 (by assumption)
              have hok : m_elOk fb t h w := ⟨by omega, by first | exact Or.inl ⟨by omega, by omega⟩ | exact Or.inr ⟨hin_r35 (by assumption), by have h9 := hin_r45 (by assumption); omega, by have h9 := hin_r45 (by assumption); omega⟩⟩
              refine lv_aload_n hx hb el_d56 rfl (lv_at hl 1 rfl) ?_
              refine y_getf X (fl190 X.2.2.2.2.1) hI.1 hY_this rfl hs_bk el_d57 ?_
              refine lv_sipush hx hb el_d60 (v := 136) (by decide) ?_
              have ec136 : (136 : Int32).toInt = 136 := by decide
              refine lv_iconst hx hb el_d63 (v := 2) (by decide) ?_
              have ec2 : (2 : Int32).toInt = 2 := by decide
              refine lv_iload_n hx hb el_d64 rfl (lv_at hl 2 rfl) ?_
              refine lv_imul hx hb el_d65 ?_
              generalize hg_z65 : (2 : Int32) * t = z65
              have h_z65 : z65.toInt = 2 * t.toInt := by rw [← hg_z65]; have := y_mul (x := (2 : Int32)) (y := t) (by rw [ec2]; omega) (by rw [ec2]; omega); rw [ec2] at this; exact this
              refine lv_iadd hx hb el_d66 ?_
              generalize hg_z66 : (136 : Int32) + z65 = z66
              have h_z66 : z66.toInt = 136 + z65.toInt := by rw [← hg_z66]; have := y_add (x := (136 : Int32)) (y := z65) (by rw [ec136]; omega) (by rw [ec136]; omega); rw [ec136] at this; exact this
              refine lv_iload_n hx hb el_d67 rfl (lv_at hl 3 rfl) ?_
              refine y_iast X hY0 hI hY_bk rfl hA_bk (by omega) (by show _ < (160 : Int); omega) (by rw [z_get3 (by omega)]; exact ⟨_, rfl, x_i32 _⟩) (by decide +kernel) el_d68 fun H locs hI h_new ho => ?_
              replace hA_bk := h_new
              generalize hf_f68 : y_up fb z66.toInt.toNat h = f68 at hA_bk
              replace hs_bk := y_slk hs_bk (ho _ (y_ne hY_this hY_bk rfl))
              refine lv_aload_n hx hb el_d69 rfl (lv_at hl 1 rfl) ?_
              refine y_getf X (fl190 X.2.2.2.2.1) hI.1 hY_this rfl hs_bk el_d70 ?_
              refine lv_sipush hx hb el_d73 (v := 136) (by decide) ?_
              refine lv_iconst hx hb el_d76 (v := 2) (by decide) ?_
              refine lv_iload_n hx hb el_d77 rfl (lv_at hl 2 rfl) ?_
              refine lv_imul hx hb el_d78 ?_
              generalize hg_z78 : (2 : Int32) * t = z78
              have h_z78 : z78.toInt = 2 * t.toInt := by rw [← hg_z78]; have := y_mul (x := (2 : Int32)) (y := t) (by rw [ec2]; omega) (by rw [ec2]; omega); rw [ec2] at this; exact this
              refine lv_iadd hx hb el_d79 ?_
              generalize hg_z79 : (136 : Int32) + z78 = z79
              have h_z79 : z79.toInt = 136 + z78.toInt := by rw [← hg_z79]; have := y_add (x := (136 : Int32)) (y := z78) (by rw [ec136]; omega) (by rw [ec136]; omega); rw [ec136] at this; exact this
              refine lv_iconst hx hb el_d80 (v := 1) (by decide) ?_
              have ec1 : (1 : Int32).toInt = 1 := by decide
              refine lv_iadd hx hb el_d81 ?_
              generalize hg_z81 : z79 + (1 : Int32) = z81
              have h_z81 : z81.toInt = z79.toInt + 1 := by rw [← hg_z81]; have := y_add (x := z79) (y := (1 : Int32)) (by rw [ec1]; omega) (by rw [ec1]; omega); rw [ec1] at this; exact this
              refine lv_iload_n hx hb el_d82 rfl (lv_at hl 4 rfl) ?_
              refine y_iast X hY0 hI hY_bk rfl hA_bk (by omega) (by show _ < (160 : Int); omega) (by rw [z_get3 (by omega)]; exact ⟨_, rfl, x_i32 _⟩) (by decide +kernel) el_d83 fun H locs hI h_new ho => ?_
              replace hA_bk := h_new
              generalize hf_f83 : y_up f68 z81.toInt.toNat w = f83 at hA_bk
              replace hs_bk := y_slk hs_bk (ho _ (y_ne hY_this hY_bk rfl))
              refine lv_iconst hx hb el_d84 (v := 1) (by decide) ?_
              have h_up : f83 = y_up (y_up fb (136 + 2 * t.toInt.toNat) h) (137 + 2 * t.toInt.toNat) w := by rw [← hf_f83, ← hf_f68, show z66.toInt.toNat = 136 + 2 * t.toInt.toNat by omega, show z81.toInt.toNat = 137 + 2 * t.toInt.toNat by omega]
              exact y_ireturn B hI rfl rfl rfl List.mem_cons_self ⟨_, rfl, ⟨_, rfl, x_i32 _⟩⟩ (x_cs.mono B.2.2.2.2.2 (y_mon B hI)) (fun t' b' w0' w1' w2' f' h1 h2 h3 h4 => by cases h1; cases h2.symm.trans hs0; cases z_uniq h4 hA0 h3 hcn; exact ⟨_, _, rfl, hA_bk, fun q9 => absurd hok q9, fun _ => ⟨rfl, h_up⟩⟩) (Nat.le_refl _) (Nat.le_refl _) el_d85
            · have q48_ : r45.toInt = (0 : Int32).toInt := by rw [q48]
              have hno : ¬ m_elOk fb t h w := fun q9 => by obtain ⟨a1, a2⟩ := q9; first | (have h9 := hout_r22 (by assumption); omega) | (rcases a2 with a2 | a2; omega; exact hout_r35 (by assumption) a2.1) | (rcases a2 with a2 | a2; omega; have h9 := hout_r45 (by assumption); omega)
              refine lv_aload_n hx hb el_d51 rfl (lv_at hl 1 rfl) ?_
              refine y_call (z := (0, 102, 1, some 17, xM143)) (av := [.ref this]) (rest := []) (y_cokV (n := 0) (ci := 12) X ym_bad rfl rfl rfl (x_cons (x_bw68 3 rfl rfl) (x_cons (x_bw68 5 rfl rfl) (x_cons (x_at 32 (by decide +kernel) rfl) (x_cons (x_bw0 9 rfl rfl) x_nilm)))) (x_bw68 6 rfl rfl) (by decide +kernel) ⟨Nat.le_of_ble_eq_true rfl, Nat.le_of_ble_eq_true rfl⟩) hY0 hI rfl el_d52 hl.1 (Nat.le_of_ble_eq_true rfl) (Nat.le_of_ble_eq_true rfl) (Nat.le_of_ble_eq_true rfl) (y_cons (y_cref hY_this rfl) y_nil) rfl (y_recv rfl hY_this) trivial (y_sub_ef rfl) fun v Yn o Hn L ho hr ha hIn hx_ hE hP => ?_
              replace hs_bk := y_Efld hE hY_this rfl (by decide) (by decide) hs_bk
              replace hA_bk := hA_bk.kept (y_Earr hE hY_bk rfl (by decide))
              replace hY_this := y_ext hx_ hI.1 hY_this
              replace hY_bk := y_ext hx_ hI.1 hY_bk
              have hPb := hP
              obtain rfl := hPb
              clear ho hr ha hE hP hI hx_
              rename x_I _ _ _ _ _ _ _ _ _ _ => hI
              exact y_ireturn B hI rfl rfl rfl List.mem_cons_self ⟨_, rfl, ⟨_, rfl, x_i32 _⟩⟩ (x_cs.mono B.2.2.2.2.2 (y_mon B hI)) (fun t' b' w0' w1' w2' f' h1 h2 h3 h4 => by cases h1; cases h2.symm.trans hs0; cases z_uniq h4 hA0 h3 hcn; exact ⟨_, _, rfl, hA_bk, fun _ => ⟨rfl, rfl⟩, fun q9 => absurd q9 hno⟩) (Nat.le_refl _) (Nat.le_refl _) el_d55
    · have q6_ : w.toInt = (0 : Int32).toInt := by rw [q6]
      refine lv_iconst hx hb el_d9 (v := 1) (by decide) ?_
      have ec1 : (1 : Int32).toInt = 1 := by decide
      refine lv_goto hx hb el_d10 (tgt := 14) (by decide) ?_
      refine lv_istore hx hb el_d14 hl (by decide) (lv' := [(4, .int (1 : Int32)), (0, .ref this), (1, .int t), (2, .int h), (3, .int w)]) rfl fun ls hl => ?_
      refine lv_iload_n hx hb el_d16 rfl (lv_at hl 2 rfl) ?_
      obtain ⟨z17, hg_z17⟩ : ∃ z17 : Int64, t.toInt64 = z17 := ⟨_, rfl⟩
      have h_z17 : z17.toInt = (t).toInt := by rw [← hg_z17]; exact Int32.toInt_toInt64 _
      refine lv_i2l hx hb el_d17 (v := z17) hg_z17 ?_
      refine lv_lconst hx hb el_d18 (v := 0) (by decide) ?_
      have el0 : (0 : Int64).toInt = 0 := by decide
      refine lv_ldc2 hx hb X.2.2.2.1 (v := 11) (X.2.2.2.2.1 _ (x_bw79 12 rfl rfl)) el_d19 ?_
      have el11 : (11 : Int64).toInt = 11 := by decide
      refine y_call (z := (1, 87, 3, none, xM148)) (av := [.long z17, .long (0 : Int64), .long (11 : Int64)]) (rest := []) (y_cokS (n := 3) X ym_in (x_cons (x_bw67 11 rfl rfl) (x_cons (x_bw67 12 rfl rfl) (x_cons (x_bw0 9 rfl rfl) x_nilm))) (x_bw67 13 rfl rfl) (by decide +kernel) ⟨Nat.le_of_ble_eq_true rfl, Nat.le_of_ble_eq_true rfl⟩) hY0 hI rfl el_d22 hl.1 (Nat.le_of_ble_eq_true rfl) (Nat.le_of_ble_eq_true rfl) (Nat.le_of_ble_eq_true rfl) (y_cons ⟨_, rfl, x_i64 _⟩ (y_cons ⟨_, rfl, x_i64 _⟩ (y_cons ⟨_, rfl, x_i64 _⟩ y_nil))) rfl (y_norecv rfl) trivial (y_sub_ef rfl) fun v Yn o Hn L ho hr ha hIn hx_ hE hP => ?_
      replace hs_bk := y_Efld hE hY_this rfl (by decide) (by decide) hs_bk
      replace hA_bk := hA_bk.kept (y_Earr hE hY_bk rfl (by decide))
      replace hY_this := y_ext hx_ hI.1 hY_this
      replace hY_bk := y_ext hx_ hI.1 hY_bk
      obtain ⟨r22, rfl, hin_r22, hout_r22⟩ := z_inR2 (hP _ _ _ rfl)
      clear ho hr ha hE hP hI hx_
      rename x_I _ _ _ _ _ _ _ _ _ _ => hI
      refine lv_if_eq hx hb el_d25 (tgt := 51) (by decide) (fun q25 => ?_) (fun q25 => ?_)
      · have q25_ : r22.toInt = (0 : Int32).toInt := by rw [q25]
        have hno : ¬ m_elOk fb t h w := fun q9 => by obtain ⟨a1, a2⟩ := q9; first | (have h9 := hout_r22 (by assumption); omega) | (rcases a2 with a2 | a2; omega; exact hout_r35 (by assumption) a2.1) | (rcases a2 with a2 | a2; omega; have h9 := hout_r45 (by assumption); omega)
        refine lv_aload_n hx hb el_d51 rfl (lv_at hl 1 rfl) ?_
        refine y_call (z := (0, 102, 1, some 17, xM143)) (av := [.ref this]) (rest := []) (y_cokV (n := 0) (ci := 12) X ym_bad rfl rfl rfl (x_cons (x_bw68 3 rfl rfl) (x_cons (x_bw68 5 rfl rfl) (x_cons (x_at 32 (by decide +kernel) rfl) (x_cons (x_bw0 9 rfl rfl) x_nilm)))) (x_bw68 6 rfl rfl) (by decide +kernel) ⟨Nat.le_of_ble_eq_true rfl, Nat.le_of_ble_eq_true rfl⟩) hY0 hI rfl el_d52 hl.1 (Nat.le_of_ble_eq_true rfl) (Nat.le_of_ble_eq_true rfl) (Nat.le_of_ble_eq_true rfl) (y_cons (y_cref hY_this rfl) y_nil) rfl (y_recv rfl hY_this) trivial (y_sub_ef rfl) fun v Yn o Hn L ho hr ha hIn hx_ hE hP => ?_
        replace hs_bk := y_Efld hE hY_this rfl (by decide) (by decide) hs_bk
        replace hA_bk := hA_bk.kept (y_Earr hE hY_bk rfl (by decide))
        replace hY_this := y_ext hx_ hI.1 hY_this
        replace hY_bk := y_ext hx_ hI.1 hY_bk
        have hPb := hP
        obtain rfl := hPb
        clear ho hr ha hE hP hI hx_
        rename x_I _ _ _ _ _ _ _ _ _ _ => hI
        exact y_ireturn B hI rfl rfl rfl List.mem_cons_self ⟨_, rfl, ⟨_, rfl, x_i32 _⟩⟩ (x_cs.mono B.2.2.2.2.2 (y_mon B hI)) (fun t' b' w0' w1' w2' f' h1 h2 h3 h4 => by cases h1; cases h2.symm.trans hs0; cases z_uniq h4 hA0 h3 hcn; exact ⟨_, _, rfl, hA_bk, fun _ => ⟨rfl, rfl⟩, fun q9 => absurd q9 hno⟩) (Nat.le_refl _) (Nat.le_refl _) el_d55
      · have q25_ : ¬ r22.toInt = (0 : Int32).toInt := fun q => q25 (Int32.toInt_inj.mp q)
        refine lv_iload hx hb el_d28 (lv_at hl 0 rfl) ?_
        refine lv_if_ne hx hb el_d30 (tgt := 56) (by decide) (fun q30 => ?_) (fun q30 => ?_)
        · have q30_ : ¬ (1 : Int32).toInt = (0 : Int32).toInt := fun q => q30 (Int32.toInt_inj.mp q)
          have hw1 := hin_r22 (by assumption)
          have hok : m_elOk fb t h w := ⟨by omega, by first | exact Or.inl ⟨by omega, by omega⟩ | exact Or.inr ⟨hin_r35 (by assumption), by have h9 := hin_r45 (by assumption); omega, by have h9 := hin_r45 (by assumption); omega⟩⟩
          refine lv_aload_n hx hb el_d56 rfl (lv_at hl 1 rfl) ?_
          refine y_getf X (fl190 X.2.2.2.2.1) hI.1 hY_this rfl hs_bk el_d57 ?_
          refine lv_sipush hx hb el_d60 (v := 136) (by decide) ?_
          have ec136 : (136 : Int32).toInt = 136 := by decide
          refine lv_iconst hx hb el_d63 (v := 2) (by decide) ?_
          have ec2 : (2 : Int32).toInt = 2 := by decide
          refine lv_iload_n hx hb el_d64 rfl (lv_at hl 2 rfl) ?_
          refine lv_imul hx hb el_d65 ?_
          generalize hg_z65 : (2 : Int32) * t = z65
          have h_z65 : z65.toInt = 2 * t.toInt := by rw [← hg_z65]; have := y_mul (x := (2 : Int32)) (y := t) (by rw [ec2]; omega) (by rw [ec2]; omega); rw [ec2] at this; exact this
          refine lv_iadd hx hb el_d66 ?_
          generalize hg_z66 : (136 : Int32) + z65 = z66
          have h_z66 : z66.toInt = 136 + z65.toInt := by rw [← hg_z66]; have := y_add (x := (136 : Int32)) (y := z65) (by rw [ec136]; omega) (by rw [ec136]; omega); rw [ec136] at this; exact this
          refine lv_iload_n hx hb el_d67 rfl (lv_at hl 3 rfl) ?_
          refine y_iast X hY0 hI hY_bk rfl hA_bk (by omega) (by show _ < (160 : Int); omega) (by rw [z_get3 (by omega)]; exact ⟨_, rfl, x_i32 _⟩) (by decide +kernel) el_d68 fun H locs hI h_new ho => ?_
          replace hA_bk := h_new
          generalize hf_f68 : y_up fb z66.toInt.toNat h = f68 at hA_bk
          replace hs_bk := y_slk hs_bk (ho _ (y_ne hY_this hY_bk rfl))
          refine lv_aload_n hx hb el_d69 rfl (lv_at hl 1 rfl) ?_
          refine y_getf X (fl190 X.2.2.2.2.1) hI.1 hY_this rfl hs_bk el_d70 ?_
          refine lv_sipush hx hb el_d73 (v := 136) (by decide) ?_
          refine lv_iconst hx hb el_d76 (v := 2) (by decide) ?_
          refine lv_iload_n hx hb el_d77 rfl (lv_at hl 2 rfl) ?_
          refine lv_imul hx hb el_d78 ?_
          generalize hg_z78 : (2 : Int32) * t = z78
          have h_z78 : z78.toInt = 2 * t.toInt := by rw [← hg_z78]; have := y_mul (x := (2 : Int32)) (y := t) (by rw [ec2]; omega) (by rw [ec2]; omega); rw [ec2] at this; exact this
          refine lv_iadd hx hb el_d79 ?_
          generalize hg_z79 : (136 : Int32) + z78 = z79
          have h_z79 : z79.toInt = 136 + z78.toInt := by rw [← hg_z79]; have := y_add (x := (136 : Int32)) (y := z78) (by rw [ec136]; omega) (by rw [ec136]; omega); rw [ec136] at this; exact this
          refine lv_iconst hx hb el_d80 (v := 1) (by decide) ?_
          refine lv_iadd hx hb el_d81 ?_
          generalize hg_z81 : z79 + (1 : Int32) = z81
          have h_z81 : z81.toInt = z79.toInt + 1 := by rw [← hg_z81]; have := y_add (x := z79) (y := (1 : Int32)) (by rw [ec1]; omega) (by rw [ec1]; omega); rw [ec1] at this; exact this
          refine lv_iload_n hx hb el_d82 rfl (lv_at hl 4 rfl) ?_
          refine y_iast X hY0 hI hY_bk rfl hA_bk (by omega) (by show _ < (160 : Int); omega) (by rw [z_get3 (by omega)]; exact ⟨_, rfl, x_i32 _⟩) (by decide +kernel) el_d83 fun H locs hI h_new ho => ?_
          replace hA_bk := h_new
          generalize hf_f83 : y_up f68 z81.toInt.toNat w = f83 at hA_bk
          replace hs_bk := y_slk hs_bk (ho _ (y_ne hY_this hY_bk rfl))
          refine lv_iconst hx hb el_d84 (v := 1) (by decide) ?_
          have h_up : f83 = y_up (y_up fb (136 + 2 * t.toInt.toNat) h) (137 + 2 * t.toInt.toNat) w := by rw [← hf_f83, ← hf_f68, show z66.toInt.toNat = 136 + 2 * t.toInt.toNat by omega, show z81.toInt.toNat = 137 + 2 * t.toInt.toNat by omega]
          exact y_ireturn B hI rfl rfl rfl List.mem_cons_self ⟨_, rfl, ⟨_, rfl, x_i32 _⟩⟩ (x_cs.mono B.2.2.2.2.2 (y_mon B hI)) (fun t' b' w0' w1' w2' f' h1 h2 h3 h4 => by cases h1; cases h2.symm.trans hs0; cases z_uniq h4 hA0 h3 hcn; exact ⟨_, _, rfl, hA_bk, fun q9 => absurd hok q9, fun _ => ⟨rfl, h_up⟩⟩) (Nat.le_refl _) (Nat.le_refl _) el_d85
        · have q30_ : (1 : Int32).toInt = (0 : Int32).toInt := by rw [q30]
          refine lv_aload_n hx hb el_d33 rfl (lv_at hl 1 rfl) ?_
          refine lv_iload_n hx hb el_d34 rfl (lv_at hl 3 rfl) ?_
          refine y_call (z := (0, 151, 2, some 17, xM171)) (av := [.ref this, .int h]) (rest := []) (y_cokV (n := 1) (ci := 12) X ym_isHillX rfl rfl rfl (x_cons (x_bw72 2 rfl rfl) (x_cons (x_bw72 4 rfl rfl) (x_cons (x_at 40 (by decide +kernel) rfl) (x_cons (x_bw0 9 rfl rfl) x_nilm)))) (x_bw72 5 rfl rfl) (by decide +kernel) ⟨Nat.le_of_ble_eq_true rfl, Nat.le_of_ble_eq_true rfl⟩) hY0 hI rfl el_d35 hl.1 (Nat.le_of_ble_eq_true rfl) (Nat.le_of_ble_eq_true rfl) (Nat.le_of_ble_eq_true rfl) (y_cons (y_cref hY_this rfl) (y_cons ⟨_, rfl, x_i32 _⟩ y_nil)) rfl (y_recv rfl hY_this) trivial (y_sub_ef rfl) fun v Yn o Hn L ho hr ha hIn hx_ hE hP => ?_
          have hPq := hP _ _ _ _ rfl hs_bk hcn hA_bk
          replace hs_bk := y_Efld hE hY_this rfl (by decide) (by decide) hs_bk
          replace hA_bk := hA_bk.kept (y_Earr hE hY_bk rfl (by decide))
          replace hY_this := y_ext hx_ hI.1 hY_this
          replace hY_bk := y_ext hx_ hI.1 hY_bk
          obtain ⟨r35, rfl, hin_r35, hout_r35⟩ := hPq
          clear ho hr ha hE hP hI hx_
          rename x_I _ _ _ _ _ _ _ _ _ _ => hI
          refine lv_if_eq hx hb el_d38 (tgt := 51) (by decide) (fun q38 => ?_) (fun q38 => ?_)
          · have q38_ : r35.toInt = (0 : Int32).toInt := by rw [q38]
            have hno : ¬ m_elOk fb t h w := fun q9 => by obtain ⟨a1, a2⟩ := q9; first | (have h9 := hout_r22 (by assumption); omega) | (rcases a2 with a2 | a2; omega; exact hout_r35 (by assumption) a2.1) | (rcases a2 with a2 | a2; omega; have h9 := hout_r45 (by assumption); omega)
            refine lv_aload_n hx hb el_d51 rfl (lv_at hl 1 rfl) ?_
            refine y_call (z := (0, 102, 1, some 17, xM143)) (av := [.ref this]) (rest := []) (y_cokV (n := 0) (ci := 12) X ym_bad rfl rfl rfl (x_cons (x_bw68 3 rfl rfl) (x_cons (x_bw68 5 rfl rfl) (x_cons (x_at 32 (by decide +kernel) rfl) (x_cons (x_bw0 9 rfl rfl) x_nilm)))) (x_bw68 6 rfl rfl) (by decide +kernel) ⟨Nat.le_of_ble_eq_true rfl, Nat.le_of_ble_eq_true rfl⟩) hY0 hI rfl el_d52 hl.1 (Nat.le_of_ble_eq_true rfl) (Nat.le_of_ble_eq_true rfl) (Nat.le_of_ble_eq_true rfl) (y_cons (y_cref hY_this rfl) y_nil) rfl (y_recv rfl hY_this) trivial (y_sub_ef rfl) fun v Yn o Hn L ho hr ha hIn hx_ hE hP => ?_
            replace hs_bk := y_Efld hE hY_this rfl (by decide) (by decide) hs_bk
            replace hA_bk := hA_bk.kept (y_Earr hE hY_bk rfl (by decide))
            replace hY_this := y_ext hx_ hI.1 hY_this
            replace hY_bk := y_ext hx_ hI.1 hY_bk
            have hPb := hP
            obtain rfl := hPb
            clear ho hr ha hE hP hI hx_
            rename x_I _ _ _ _ _ _ _ _ _ _ => hI
            exact y_ireturn B hI rfl rfl rfl List.mem_cons_self ⟨_, rfl, ⟨_, rfl, x_i32 _⟩⟩ (x_cs.mono B.2.2.2.2.2 (y_mon B hI)) (fun t' b' w0' w1' w2' f' h1 h2 h3 h4 => by cases h1; cases h2.symm.trans hs0; cases z_uniq h4 hA0 h3 hcn; exact ⟨_, _, rfl, hA_bk, fun _ => ⟨rfl, rfl⟩, fun q9 => absurd q9 hno⟩) (Nat.le_refl _) (Nat.le_refl _) el_d55
          · have q38_ : ¬ r35.toInt = (0 : Int32).toInt := fun q => q38 (Int32.toInt_inj.mp q)
            refine lv_iload_n hx hb el_d41 rfl (lv_at hl 4 rfl) ?_
            obtain ⟨z42, hg_z42⟩ : ∃ z42 : Int64, w.toInt64 = z42 := ⟨_, rfl⟩
            have h_z42 : z42.toInt = (w).toInt := by rw [← hg_z42]; exact Int32.toInt_toInt64 _
            refine lv_i2l hx hb el_d42 (v := z42) hg_z42 ?_
            refine lv_lconst hx hb el_d43 (v := 0) (by decide) ?_
            have el0 : (0 : Int64).toInt = 0 := by decide
            refine lv_lconst hx hb el_d44 (v := 1) (by decide) ?_
            have el1 : (1 : Int64).toInt = 1 := by decide
            refine y_call (z := (1, 87, 3, none, xM148)) (av := [.long z42, .long (0 : Int64), .long (1 : Int64)]) (rest := []) (y_cokS (n := 3) X ym_in (x_cons (x_bw67 11 rfl rfl) (x_cons (x_bw67 12 rfl rfl) (x_cons (x_bw0 9 rfl rfl) x_nilm))) (x_bw67 13 rfl rfl) (by decide +kernel) ⟨Nat.le_of_ble_eq_true rfl, Nat.le_of_ble_eq_true rfl⟩) hY0 hI rfl el_d45 hl.1 (Nat.le_of_ble_eq_true rfl) (Nat.le_of_ble_eq_true rfl) (Nat.le_of_ble_eq_true rfl) (y_cons ⟨_, rfl, x_i64 _⟩ (y_cons ⟨_, rfl, x_i64 _⟩ (y_cons ⟨_, rfl, x_i64 _⟩ y_nil))) rfl (y_norecv rfl) trivial (y_sub_ef rfl) fun v Yn o Hn L ho hr ha hIn hx_ hE hP => ?_
            replace hs_bk := y_Efld hE hY_this rfl (by decide) (by decide) hs_bk
            replace hA_bk := hA_bk.kept (y_Earr hE hY_bk rfl (by decide))
            replace hY_this := y_ext hx_ hI.1 hY_this
            replace hY_bk := y_ext hx_ hI.1 hY_bk
            obtain ⟨r45, rfl, hin_r45, hout_r45⟩ := z_inR2 (hP _ _ _ rfl)
            clear ho hr ha hE hP hI hx_
            rename x_I _ _ _ _ _ _ _ _ _ _ => hI
            refine lv_if_ne hx hb el_d48 (tgt := 56) (by decide) (fun q48 => ?_) (fun q48 => ?_)
            · have q48_ : ¬ r45.toInt = (0 : Int32).toInt := fun q => q48 (Int32.toInt_inj.mp q)
              have hw1 := hin_r22 (by assumption)
              have hok : m_elOk fb t h w := ⟨by omega, by first | exact Or.inl ⟨by omega, by omega⟩ | exact Or.inr ⟨hin_r35 (by assumption), by have h9 := hin_r45 (by assumption); omega, by have h9 := hin_r45 (by assumption); omega⟩⟩
              refine lv_aload_n hx hb el_d56 rfl (lv_at hl 1 rfl) ?_
              refine y_getf X (fl190 X.2.2.2.2.1) hI.1 hY_this rfl hs_bk el_d57 ?_
              refine lv_sipush hx hb el_d60 (v := 136) (by decide) ?_
              have ec136 : (136 : Int32).toInt = 136 := by decide
              refine lv_iconst hx hb el_d63 (v := 2) (by decide) ?_
              have ec2 : (2 : Int32).toInt = 2 := by decide
              refine lv_iload_n hx hb el_d64 rfl (lv_at hl 2 rfl) ?_
              refine lv_imul hx hb el_d65 ?_
              generalize hg_z65 : (2 : Int32) * t = z65
              have h_z65 : z65.toInt = 2 * t.toInt := by rw [← hg_z65]; have := y_mul (x := (2 : Int32)) (y := t) (by rw [ec2]; omega) (by rw [ec2]; omega); rw [ec2] at this; exact this
              refine lv_iadd hx hb el_d66 ?_
              generalize hg_z66 : (136 : Int32) + z65 = z66
              have h_z66 : z66.toInt = 136 + z65.toInt := by rw [← hg_z66]; have := y_add (x := (136 : Int32)) (y := z65) (by rw [ec136]; omega) (by rw [ec136]; omega); rw [ec136] at this; exact this
              refine lv_iload_n hx hb el_d67 rfl (lv_at hl 3 rfl) ?_
              refine y_iast X hY0 hI hY_bk rfl hA_bk (by omega) (by show _ < (160 : Int); omega) (by rw [z_get3 (by omega)]; exact ⟨_, rfl, x_i32 _⟩) (by decide +kernel) el_d68 fun H locs hI h_new ho => ?_
              replace hA_bk := h_new
              generalize hf_f68 : y_up fb z66.toInt.toNat h = f68 at hA_bk
              replace hs_bk := y_slk hs_bk (ho _ (y_ne hY_this hY_bk rfl))
              refine lv_aload_n hx hb el_d69 rfl (lv_at hl 1 rfl) ?_
              refine y_getf X (fl190 X.2.2.2.2.1) hI.1 hY_this rfl hs_bk el_d70 ?_
              refine lv_sipush hx hb el_d73 (v := 136) (by decide) ?_
              refine lv_iconst hx hb el_d76 (v := 2) (by decide) ?_
              refine lv_iload_n hx hb el_d77 rfl (lv_at hl 2 rfl) ?_
              refine lv_imul hx hb el_d78 ?_
              generalize hg_z78 : (2 : Int32) * t = z78
              have h_z78 : z78.toInt = 2 * t.toInt := by rw [← hg_z78]; have := y_mul (x := (2 : Int32)) (y := t) (by rw [ec2]; omega) (by rw [ec2]; omega); rw [ec2] at this; exact this
              refine lv_iadd hx hb el_d79 ?_
              generalize hg_z79 : (136 : Int32) + z78 = z79
              have h_z79 : z79.toInt = 136 + z78.toInt := by rw [← hg_z79]; have := y_add (x := (136 : Int32)) (y := z78) (by rw [ec136]; omega) (by rw [ec136]; omega); rw [ec136] at this; exact this
              refine lv_iconst hx hb el_d80 (v := 1) (by decide) ?_
              refine lv_iadd hx hb el_d81 ?_
              generalize hg_z81 : z79 + (1 : Int32) = z81
              have h_z81 : z81.toInt = z79.toInt + 1 := by rw [← hg_z81]; have := y_add (x := z79) (y := (1 : Int32)) (by rw [ec1]; omega) (by rw [ec1]; omega); rw [ec1] at this; exact this
              refine lv_iload_n hx hb el_d82 rfl (lv_at hl 4 rfl) ?_
              refine y_iast X hY0 hI hY_bk rfl hA_bk (by omega) (by show _ < (160 : Int); omega) (by rw [z_get3 (by omega)]; exact ⟨_, rfl, x_i32 _⟩) (by decide +kernel) el_d83 fun H locs hI h_new ho => ?_
              replace hA_bk := h_new
              generalize hf_f83 : y_up f68 z81.toInt.toNat w = f83 at hA_bk
              replace hs_bk := y_slk hs_bk (ho _ (y_ne hY_this hY_bk rfl))
              refine lv_iconst hx hb el_d84 (v := 1) (by decide) ?_
              have h_up : f83 = y_up (y_up fb (136 + 2 * t.toInt.toNat) h) (137 + 2 * t.toInt.toNat) w := by rw [← hf_f83, ← hf_f68, show z66.toInt.toNat = 136 + 2 * t.toInt.toNat by omega, show z81.toInt.toNat = 137 + 2 * t.toInt.toNat by omega]
              exact y_ireturn B hI rfl rfl rfl List.mem_cons_self ⟨_, rfl, ⟨_, rfl, x_i32 _⟩⟩ (x_cs.mono B.2.2.2.2.2 (y_mon B hI)) (fun t' b' w0' w1' w2' f' h1 h2 h3 h4 => by cases h1; cases h2.symm.trans hs0; cases z_uniq h4 hA0 h3 hcn; exact ⟨_, _, rfl, hA_bk, fun q9 => absurd hok q9, fun _ => ⟨rfl, h_up⟩⟩) (Nat.le_refl _) (Nat.le_refl _) el_d85
            · have q48_ : r45.toInt = (0 : Int32).toInt := by rw [q48]
              have hno : ¬ m_elOk fb t h w := fun q9 => by obtain ⟨a1, a2⟩ := q9; first | (have h9 := hout_r22 (by assumption); omega) | (rcases a2 with a2 | a2; omega; exact hout_r35 (by assumption) a2.1) | (rcases a2 with a2 | a2; omega; have h9 := hout_r45 (by assumption); omega)
              refine lv_aload_n hx hb el_d51 rfl (lv_at hl 1 rfl) ?_
              refine y_call (z := (0, 102, 1, some 17, xM143)) (av := [.ref this]) (rest := []) (y_cokV (n := 0) (ci := 12) X ym_bad rfl rfl rfl (x_cons (x_bw68 3 rfl rfl) (x_cons (x_bw68 5 rfl rfl) (x_cons (x_at 32 (by decide +kernel) rfl) (x_cons (x_bw0 9 rfl rfl) x_nilm)))) (x_bw68 6 rfl rfl) (by decide +kernel) ⟨Nat.le_of_ble_eq_true rfl, Nat.le_of_ble_eq_true rfl⟩) hY0 hI rfl el_d52 hl.1 (Nat.le_of_ble_eq_true rfl) (Nat.le_of_ble_eq_true rfl) (Nat.le_of_ble_eq_true rfl) (y_cons (y_cref hY_this rfl) y_nil) rfl (y_recv rfl hY_this) trivial (y_sub_ef rfl) fun v Yn o Hn L ho hr ha hIn hx_ hE hP => ?_
              replace hs_bk := y_Efld hE hY_this rfl (by decide) (by decide) hs_bk
              replace hA_bk := hA_bk.kept (y_Earr hE hY_bk rfl (by decide))
              replace hY_this := y_ext hx_ hI.1 hY_this
              replace hY_bk := y_ext hx_ hI.1 hY_bk
              have hPb := hP
              obtain rfl := hPb
              clear ho hr ha hE hP hI hx_
              rename x_I _ _ _ _ _ _ _ _ _ _ => hI
              exact y_ireturn B hI rfl rfl rfl List.mem_cons_self ⟨_, rfl, ⟨_, rfl, x_i32 _⟩⟩ (x_cs.mono B.2.2.2.2.2 (y_mon B hI)) (fun t' b' w0' w1' w2' f' h1 h2 h3 h4 => by cases h1; cases h2.symm.trans hs0; cases z_uniq h4 hA0 h3 hcn; exact ⟨_, _, rfl, hA_bk, fun _ => ⟨rfl, rfl⟩, fun q9 => absurd q9 hno⟩) (Nat.le_refl _) (Nat.le_refl _) el_d55
def z_Pwk : yP := fun D av _ H v _ H' => ∀ (this bk : Nat) (t d : Int32) (f : Nat → Int32), av = [.ref this, .int t, .int d] → x_sl D 12 0 this H = some (.ref bk) → z_c f → y_A bk 160 H f → m_01 f → ∃ (r : Int32) (g : Nat → Int32), v = some (.int r) ∧ y_A bk 160 H' g ∧ m_work f t d r g
theorem wk_d0 : decode xM165.2.1 0 = .ok (.aload_n 0, 1) := dz_ok (by decide +kernel)
theorem wk_d1 : decode xM165.2.1 1 = .ok (.iload_n 1, 1) := dz_ok (by decide +kernel)
theorem wk_d2 : decode xM165.2.1 2 = .ok (.invokevirtual 119, 3) := dz_ok (by decide +kernel)
theorem wk_d5 : decode xM165.2.1 5 = .ok (.ifCond .eq 12, 3) := dz_ok (by decide +kernel)
theorem wk_d8 : decode xM165.2.1 8 = .ok (.aload_n 0, 1) := dz_ok (by decide +kernel)
theorem wk_d9 : decode xM165.2.1 9 = .ok (.iload_n 1, 1) := dz_ok (by decide +kernel)
theorem wk_d10 : decode xM165.2.1 10 = .ok (.iconst 0, 1) := dz_ok (by decide +kernel)
theorem wk_d11 : decode xM165.2.1 11 = .ok (.invokevirtual 123, 3) := dz_ok (by decide +kernel)
theorem wk_d14 : decode xM165.2.1 14 = .ok (.ifCond .ne 8, 3) := dz_ok (by decide +kernel)
theorem wk_d17 : decode xM165.2.1 17 = .ok (.aload_n 0, 1) := dz_ok (by decide +kernel)
theorem wk_d18 : decode xM165.2.1 18 = .ok (.invokevirtual 102, 3) := dz_ok (by decide +kernel)
theorem wk_d21 : decode xM165.2.1 21 = .ok (.ireturn, 1) := dz_ok (by decide +kernel)
theorem wk_d22 : decode xM165.2.1 22 = .ok (.aload_n 0, 1) := dz_ok (by decide +kernel)
theorem wk_d23 : decode xM165.2.1 23 = .ok (.iload_n 1, 1) := dz_ok (by decide +kernel)
theorem wk_d24 : decode xM165.2.1 24 = .ok (.iconst 5, 1) := dz_ok (by decide +kernel)
theorem wk_d25 : decode xM165.2.1 25 = .ok (.invokevirtual 123, 3) := dz_ok (by decide +kernel)
theorem wk_d28 : decode xM165.2.1 28 = .ok (.iconst 1, 1) := dz_ok (by decide +kernel)
theorem wk_d29 : decode xM165.2.1 29 = .ok (.if_icmp .ne 7, 3) := dz_ok (by decide +kernel)
theorem wk_d32 : decode xM165.2.1 32 = .ok (.iconst 1, 1) := dz_ok (by decide +kernel)
theorem wk_d33 : decode xM165.2.1 33 = .ok (.goto 4, 3) := dz_ok (by decide +kernel)
theorem wk_d36 : decode xM165.2.1 36 = .ok (.iconst 0, 1) := dz_ok (by decide +kernel)
theorem wk_d37 : decode xM165.2.1 37 = .ok (.iload_n 2, 1) := dz_ok (by decide +kernel)
theorem wk_d38 : decode xM165.2.1 38 = .ok (.if_icmp .ne 8, 3) := dz_ok (by decide +kernel)
theorem wk_d41 : decode xM165.2.1 41 = .ok (.aload_n 0, 1) := dz_ok (by decide +kernel)
theorem wk_d42 : decode xM165.2.1 42 = .ok (.invokevirtual 126, 3) := dz_ok (by decide +kernel)
theorem wk_d45 : decode xM165.2.1 45 = .ok (.ireturn, 1) := dz_ok (by decide +kernel)
theorem wk_d46 : decode xM165.2.1 46 = .ok (.aload_n 0, 1) := dz_ok (by decide +kernel)
theorem wk_d47 : decode xM165.2.1 47 = .ok (.getfield 7, 3) := dz_ok (by decide +kernel)
theorem wk_d50 : decode xM165.2.1 50 = .ok (.bipush 60, 2) := dz_ok (by decide +kernel)
theorem wk_d52 : decode xM165.2.1 52 = .ok (.bipush 7, 2) := dz_ok (by decide +kernel)
theorem wk_d54 : decode xM165.2.1 54 = .ok (.iload_n 1, 1) := dz_ok (by decide +kernel)
theorem wk_d55 : decode xM165.2.1 55 = .ok (.imul, 1) := dz_ok (by decide +kernel)
theorem wk_d56 : decode xM165.2.1 56 = .ok (.iadd, 1) := dz_ok (by decide +kernel)
theorem wk_d57 : decode xM165.2.1 57 = .ok (.iconst 5, 1) := dz_ok (by decide +kernel)
theorem wk_d58 : decode xM165.2.1 58 = .ok (.iadd, 1) := dz_ok (by decide +kernel)
theorem wk_d59 : decode xM165.2.1 59 = .ok (.iload_n 2, 1) := dz_ok (by decide +kernel)
theorem wk_d60 : decode xM165.2.1 60 = .ok (.ifCond .eq 7, 3) := dz_ok (by decide +kernel)
theorem wk_d63 : decode xM165.2.1 63 = .ok (.iconst 1, 1) := dz_ok (by decide +kernel)
theorem wk_d64 : decode xM165.2.1 64 = .ok (.goto 4, 3) := dz_ok (by decide +kernel)
theorem wk_d67 : decode xM165.2.1 67 = .ok (.iconst 0, 1) := dz_ok (by decide +kernel)
theorem wk_d68 : decode xM165.2.1 68 = .ok (.iastore, 1) := dz_ok (by decide +kernel)
theorem wk_d69 : decode xM165.2.1 69 = .ok (.iconst 1, 1) := dz_ok (by decide +kernel)
theorem wk_d70 : decode xM165.2.1 70 = .ok (.ireturn, 1) := dz_ok (by decide +kernel)
theorem ym_workX : y_Met vwCl x_G x_Zs x_Tb x_Nb xM165 y_T z_Pwk := by
  refine y_main (by decide +kernel) (by decide +kernel) x_Tb_good x_Nb_ok ?_
  intro p l e s m below meth c D U Y0 av ls B hI _ hl
  have X := B.1
  have hx := X.1
  have hb := X.2.1
  have hY0 := B.2.2.2.2.1
  obtain ⟨v0, v1, v2, rfl, hv0, ⟨t, rfl, -⟩, ⟨d, rfl, hd9⟩⟩ := y_three B.2.2.2.2.2
  replace hd9 : (0 : Int) ≤ d.toInt ∧ d.toInt ≤ 1 := hd9
  obtain ⟨this, t0, rfl, ht0, hY_this⟩ := x_ref_at hv0 rfl
  obtain rfl := List.mem_singleton.mp ht0
  replace hl : lv_has ls xM165.2.2.1 [(0, .ref this), (1, .int t), (2, .int d)] := hl
  obtain ⟨bk, hs_bk, hY_bk⟩ := y_fldR (k := 0) hI.1 hY_this rfl rfl
  obtain ⟨fb9, hA9, hB9⟩ := y_arr hI.1 hY_bk rfl rfl
  obtain ⟨fb, hcn, hA_bk, hB_bk⟩ := z_canon (Y := Y0) (P := fun j v => x_c Y0 ([xI 0 10, xI 0 8, xI 0 8].getD j xF) (.int v)) hA9 hB9
  clear hA9 hB9 fb9
  have hs0 := hs_bk
  have hA0 := hA_bk
  have hd := z_hdr hB_bk
  have hd0 := hd.1
  have hd1 := hd.2.1
  refine lv_aload_n hx hb wk_d0 rfl (lv_at hl 0 rfl) ?_
  refine lv_iload_n hx hb wk_d1 rfl (lv_at hl 1 rfl) ?_
  refine y_call (z := (0, 119, 2, some 17, xM162)) (av := [.ref this, .int t]) (rest := []) (y_cokV (n := 1) (ci := 12) X ym_isThingX rfl rfl rfl (x_cons (x_bw70 3 rfl rfl) (x_cons (x_bw70 5 rfl rfl) (x_cons (x_at 36 (by decide +kernel) rfl) (x_cons (x_bw0 9 rfl rfl) x_nilm)))) (x_bw70 6 rfl rfl) (by decide +kernel) ⟨Nat.le_of_ble_eq_true rfl, Nat.le_of_ble_eq_true rfl⟩) hY0 hI rfl wk_d2 hl.1 (Nat.le_of_ble_eq_true rfl) (Nat.le_of_ble_eq_true rfl) (Nat.le_of_ble_eq_true rfl) (y_cons (y_cref hY_this rfl) (y_cons ⟨_, rfl, x_i32 _⟩ y_nil)) rfl (y_recv rfl hY_this) trivial (y_sub_ef rfl) fun v Yn o Hn L ho hr ha hIn hx_ hE hP => ?_
  have hPq := hP _ _ _ _ rfl hs_bk hcn hA_bk
  replace hs_bk := y_Efld hE hY_this rfl (by decide) (by decide) hs_bk
  replace hA_bk := hA_bk.kept (y_Earr hE hY_bk rfl (by decide))
  replace hY_this := y_ext hx_ hI.1 hY_this
  replace hY_bk := y_ext hx_ hI.1 hY_bk
  obtain ⟨r2, rfl, hin_r2, hout_r2⟩ := hPq
  clear ho hr ha hE hP hI hx_
  rename x_I _ _ _ _ _ _ _ _ _ _ => hI
  have ec0 : (0 : Int32).toInt = 0 := by decide
  refine lv_if_eq hx hb wk_d5 (tgt := 17) (by decide) (fun q5 => ?_) (fun q5 => ?_)
  · have q5_ : r2.toInt = (0 : Int32).toInt := by rw [q5]
    have hno : ¬ m_wOk fb t := fun q9 => by first | exact hout_r2 (by assumption) q9.1 | exact q9.2 (by have e9 : fb (60 + 7 * t.toInt.toNat) = r11 := hg_r11; rw [e9]; omega)
    refine lv_aload_n hx hb wk_d17 rfl (lv_at hl 0 rfl) ?_
    refine y_call (z := (0, 102, 1, some 17, xM143)) (av := [.ref this]) (rest := []) (y_cokV (n := 0) (ci := 12) X ym_bad rfl rfl rfl (x_cons (x_bw68 3 rfl rfl) (x_cons (x_bw68 5 rfl rfl) (x_cons (x_at 32 (by decide +kernel) rfl) (x_cons (x_bw0 9 rfl rfl) x_nilm)))) (x_bw68 6 rfl rfl) (by decide +kernel) ⟨Nat.le_of_ble_eq_true rfl, Nat.le_of_ble_eq_true rfl⟩) hY0 hI rfl wk_d18 hl.1 (Nat.le_of_ble_eq_true rfl) (Nat.le_of_ble_eq_true rfl) (Nat.le_of_ble_eq_true rfl) (y_cons (y_cref hY_this rfl) y_nil) rfl (y_recv rfl hY_this) trivial (y_sub_ef rfl) fun v Yn o Hn L ho hr ha hIn hx_ hE hP => ?_
    replace hs_bk := y_Efld hE hY_this rfl (by decide) (by decide) hs_bk
    replace hA_bk := hA_bk.kept (y_Earr hE hY_bk rfl (by decide))
    replace hY_this := y_ext hx_ hI.1 hY_this
    replace hY_bk := y_ext hx_ hI.1 hY_bk
    have hPb := hP
    obtain rfl := hPb
    clear ho hr ha hE hP hI hx_
    rename x_I _ _ _ _ _ _ _ _ _ _ => hI
    exact y_ireturn B hI rfl rfl rfl List.mem_cons_self ⟨_, rfl, ⟨_, rfl, x_i32 _⟩⟩ (x_cs.mono B.2.2.2.2.2 (y_mon B hI)) (fun t' b' w0' w1' f' h1 h2 h3 h4 h5 => by cases h1; cases h2.symm.trans hs0; cases z_uniq h4 hA0 h3 hcn; exact ⟨_, _, rfl, hA_bk, fun _ => ⟨rfl, rfl⟩, fun q9 => absurd q9 hno, fun q9 => absurd q9 hno⟩) (Nat.le_refl _) (Nat.le_refl _) wk_d21
  · have q5_ : ¬ r2.toInt = (0 : Int32).toInt := fun q => q5 (Int32.toInt_inj.mp q)
    have hw1 := hin_r2 (by assumption)
    have hw3 := hw1
    unfold m_isT at hw3
    refine lv_aload_n hx hb wk_d8 rfl (lv_at hl 0 rfl) ?_
    refine lv_iload_n hx hb wk_d9 rfl (lv_at hl 1 rfl) ?_
    refine lv_iconst hx hb wk_d10 (v := 0) (by decide) ?_
    refine y_call (z := (0, 123, 3, some 17, xM163)) (av := [.ref this, .int t, .int (0 : Int32)]) (rest := []) (y_cokV (n := 2) (ci := 12) X ym_ofThing rfl rfl rfl (x_cons (x_bw70 7 rfl rfl) (x_cons (x_bw70 9 rfl rfl) (x_cons (x_at 37 (by decide +kernel) rfl) (x_cons (x_bw0 9 rfl rfl) x_nilm)))) (x_bw70 10 rfl rfl) (by decide +kernel) ⟨Nat.le_of_ble_eq_true rfl, Nat.le_of_ble_eq_true rfl⟩) hY0 hI rfl wk_d11 hl.1 (Nat.le_of_ble_eq_true rfl) (Nat.le_of_ble_eq_true rfl) (Nat.le_of_ble_eq_true rfl) (y_cons (y_cref hY_this rfl) (y_cons ⟨_, rfl, by show (0 : Int) ≤ _; omega, by show _ ≤ (7 : Int); omega⟩ (y_cons ⟨_, rfl, by show (0 : Int) ≤ _; omega, by show _ ≤ (6 : Int); omega⟩ y_nil))) rfl (y_recv rfl hY_this) trivial (y_sub_ef rfl) fun v Yn o Hn L ho hr ha hIn hx_ hE hP => ?_
    have hPo := hP _ _ _ _ _ rfl hs_bk hA_bk
    replace hs_bk := y_Efld hE hY_this rfl (by decide) (by decide) hs_bk
    replace hA_bk := hA_bk.kept (y_Earr hE hY_bk rfl (by decide))
    replace hY_this := y_ext hx_ hI.1 hY_this
    replace hY_bk := y_ext hx_ hI.1 hY_bk
    obtain ⟨r11, hg_r11⟩ : ∃ r11 : Int32, fb (60 + 7 * (t).toInt.toNat + ((0 : Int32)).toInt.toNat) = r11 := ⟨_, rfl⟩
    rw [hg_r11] at hPo
    obtain rfl := hPo
    clear ho hr ha hE hP hI hx_
    rename x_I _ _ _ _ _ _ _ _ _ _ => hI
    refine lv_if_ne hx hb wk_d14 (tgt := 22) (by decide) (fun q14 => ?_) (fun q14 => ?_)
    · have q14_ : ¬ r11.toInt = (0 : Int32).toInt := fun q => q14 (Int32.toInt_inj.mp q)
      have hok : m_wOk fb t := ⟨hw1, fun q9 => by have e9 : fb (60 + 7 * t.toInt.toNat) = r11 := hg_r11; rw [e9] at q9; omega⟩
      refine lv_aload_n hx hb wk_d22 rfl (lv_at hl 0 rfl) ?_
      refine lv_iload_n hx hb wk_d23 rfl (lv_at hl 1 rfl) ?_
      refine lv_iconst hx hb wk_d24 (v := 5) (by decide) ?_
      have ec5 : (5 : Int32).toInt = 5 := by decide
      refine y_call (z := (0, 123, 3, some 17, xM163)) (av := [.ref this, .int t, .int (5 : Int32)]) (rest := []) (y_cokV (n := 2) (ci := 12) X ym_ofThing rfl rfl rfl (x_cons (x_bw70 7 rfl rfl) (x_cons (x_bw70 9 rfl rfl) (x_cons (x_at 37 (by decide +kernel) rfl) (x_cons (x_bw0 9 rfl rfl) x_nilm)))) (x_bw70 10 rfl rfl) (by decide +kernel) ⟨Nat.le_of_ble_eq_true rfl, Nat.le_of_ble_eq_true rfl⟩) hY0 hI rfl wk_d25 hl.1 (Nat.le_of_ble_eq_true rfl) (Nat.le_of_ble_eq_true rfl) (Nat.le_of_ble_eq_true rfl) (y_cons (y_cref hY_this rfl) (y_cons ⟨_, rfl, by show (0 : Int) ≤ _; omega, by show _ ≤ (7 : Int); omega⟩ (y_cons ⟨_, rfl, by show (0 : Int) ≤ _; omega, by show _ ≤ (6 : Int); omega⟩ y_nil))) rfl (y_recv rfl hY_this) trivial (y_sub_ef rfl) fun v Yn o Hn L ho hr ha hIn hx_ hE hP => ?_
      have hPo := hP _ _ _ _ _ rfl hs_bk hA_bk
      replace hs_bk := y_Efld hE hY_this rfl (by decide) (by decide) hs_bk
      replace hA_bk := hA_bk.kept (y_Earr hE hY_bk rfl (by decide))
      replace hY_this := y_ext hx_ hI.1 hY_this
      replace hY_bk := y_ext hx_ hI.1 hY_bk
      obtain ⟨r25, hg_r25⟩ : ∃ r25 : Int32, fb (60 + 7 * (t).toInt.toNat + ((5 : Int32)).toInt.toNat) = r25 := ⟨_, rfl⟩
      rw [hg_r25] at hPo
      obtain rfl := hPo
      clear ho hr ha hE hP hI hx_
      rename x_I _ _ _ _ _ _ _ _ _ _ => hI
      refine lv_iconst hx hb wk_d28 (v := 1) (by decide) ?_
      have ec1 : (1 : Int32).toInt = 1 := by decide
      refine lv_icmp_ne hx hb wk_d29 (tgt := 36) (by decide) (fun q29 => ?_) (fun q29 => ?_)
      · have q29_ : ¬ r25.toInt = (1 : Int32).toInt := fun q => q29 (Int32.toInt_inj.mp q)
        refine lv_iconst hx hb wk_d36 (v := 0) (by decide) ?_
        refine lv_iload_n hx hb wk_d37 rfl (lv_at hl 2 rfl) ?_
        refine lv_icmp_ne hx hb wk_d38 (tgt := 46) (by decide) (fun q38 => ?_) (fun q38 => ?_)
        · have q38_ : ¬ (0 : Int32).toInt = d.toInt := fun q => q38 (Int32.toInt_inj.mp q)
          have e5 : fb (65 + 7 * t.toInt.toNat) = r25 := by rw [← hg_r25]; congr 1; rw [show (5 : Int32).toInt.toNat = 5 by decide]; omega
          refine lv_aload_n hx hb wk_d46 rfl (lv_at hl 0 rfl) ?_
          refine y_getf X (fl190 X.2.2.2.2.1) hI.1 hY_this rfl hs_bk wk_d47 ?_
          refine lv_bipush hx hb wk_d50 (v := 60) (by decide) ?_
          have ec60 : (60 : Int32).toInt = 60 := by decide
          refine lv_bipush hx hb wk_d52 (v := 7) (by decide) ?_
          have ec7 : (7 : Int32).toInt = 7 := by decide
          refine lv_iload_n hx hb wk_d54 rfl (lv_at hl 1 rfl) ?_
          refine lv_imul hx hb wk_d55 ?_
          generalize hg_z55 : (7 : Int32) * t = z55
          have h_z55 : z55.toInt = 7 * t.toInt := by rw [← hg_z55]; have := y_mul (x := (7 : Int32)) (y := t) (by rw [ec7]; omega) (by rw [ec7]; omega); rw [ec7] at this; exact this
          refine lv_iadd hx hb wk_d56 ?_
          generalize hg_z56 : (60 : Int32) + z55 = z56
          have h_z56 : z56.toInt = 60 + z55.toInt := by rw [← hg_z56]; have := y_add (x := (60 : Int32)) (y := z55) (by rw [ec60]; omega) (by rw [ec60]; omega); rw [ec60] at this; exact this
          refine lv_iconst hx hb wk_d57 (v := 5) (by decide) ?_
          refine lv_iadd hx hb wk_d58 ?_
          generalize hg_z58 : z56 + (5 : Int32) = z58
          have h_z58 : z58.toInt = z56.toInt + 5 := by rw [← hg_z58]; have := y_add (x := z56) (y := (5 : Int32)) (by rw [ec5]; omega) (by rw [ec5]; omega); rw [ec5] at this; exact this
          refine lv_iload_n hx hb wk_d59 rfl (lv_at hl 2 rfl) ?_
          refine lv_if_eq hx hb wk_d60 (tgt := 67) (by decide) (fun q60 => ?_) (fun q60 => ?_)
          · have q60_ : d.toInt = (0 : Int32).toInt := by rw [q60]
            refine lv_iconst hx hb wk_d67 (v := 0) (by decide) ?_
            refine y_iast X hY0 hI hY_bk rfl hA_bk (by omega) (by show _ < (160 : Int); omega) (by rw [z_get3 (by omega)]; exact ⟨_, rfl, x_i32 _⟩) (by decide +kernel) wk_d68 fun H locs hI h_new ho => ?_
            replace hA_bk := h_new
            generalize hf_f68 : y_up fb z58.toInt.toNat (0 : Int32) = f68 at hA_bk
            replace hs_bk := y_slk hs_bk (ho _ (y_ne hY_this hY_bk rfl))
            refine lv_iconst hx hb wk_d69 (v := 1) (by decide) ?_
            have h_d : d = (0 : Int32) := Int32.toInt_inj.mp (by omega)
            have h_up : f68 = y_up fb (65 + 7 * t.toInt.toNat) d := by rw [← hf_f68, show z58.toInt.toNat = 65 + 7 * t.toInt.toNat by omega, h_d]
            exact y_ireturn B hI rfl rfl rfl List.mem_cons_self ⟨_, rfl, ⟨_, rfl, x_i32 _⟩⟩ (x_cs.mono B.2.2.2.2.2 (y_mon B hI)) (fun t' b' w0' w1' f' h1 h2 h3 h4 h5 => by cases h1; cases h2.symm.trans hs0; cases z_uniq h4 hA0 h3 hcn; exact ⟨_, _, rfl, hA_bk, fun q9 => absurd hok q9, fun _ q9 => absurd q9 (fun q8 => by rcases h5 t.toInt.toNat (by omega) with h9 | h9; (rw [e5] at h9 q8; have h8 := congrArg Int32.toInt h9; have h7 := congrArg Int32.toInt q8; omega); (rw [e5] at h9 q8; have h8 := congrArg Int32.toInt h9; have h7 := congrArg Int32.toInt q8; omega)), fun _ _ => ⟨rfl, h_up⟩⟩) (Nat.le_refl _) (Nat.le_refl _) wk_d70
          · have q60_ : ¬ d.toInt = (0 : Int32).toInt := fun q => q60 (Int32.toInt_inj.mp q)
            refine lv_iconst hx hb wk_d63 (v := 1) (by decide) ?_
            refine lv_goto hx hb wk_d64 (tgt := 68) (by decide) ?_
            refine y_iast X hY0 hI hY_bk rfl hA_bk (by omega) (by show _ < (160 : Int); omega) (by rw [z_get3 (by omega)]; exact ⟨_, rfl, x_i32 _⟩) (by decide +kernel) wk_d68 fun H locs hI h_new ho => ?_
            replace hA_bk := h_new
            generalize hf_f68 : y_up fb z58.toInt.toNat (1 : Int32) = f68 at hA_bk
            replace hs_bk := y_slk hs_bk (ho _ (y_ne hY_this hY_bk rfl))
            refine lv_iconst hx hb wk_d69 (v := 1) (by decide) ?_
            have h_d : d = (1 : Int32) := Int32.toInt_inj.mp (by omega)
            have h_up : f68 = y_up fb (65 + 7 * t.toInt.toNat) d := by rw [← hf_f68, show z58.toInt.toNat = 65 + 7 * t.toInt.toNat by omega, h_d]
            exact y_ireturn B hI rfl rfl rfl List.mem_cons_self ⟨_, rfl, ⟨_, rfl, x_i32 _⟩⟩ (x_cs.mono B.2.2.2.2.2 (y_mon B hI)) (fun t' b' w0' w1' f' h1 h2 h3 h4 h5 => by cases h1; cases h2.symm.trans hs0; cases z_uniq h4 hA0 h3 hcn; exact ⟨_, _, rfl, hA_bk, fun q9 => absurd hok q9, fun _ q9 => absurd q9 (fun q8 => by rcases h5 t.toInt.toNat (by omega) with h9 | h9; (rw [e5] at h9 q8; have h8 := congrArg Int32.toInt h9; have h7 := congrArg Int32.toInt q8; omega); (rw [e5] at h9 q8; have h8 := congrArg Int32.toInt h9; have h7 := congrArg Int32.toInt q8; omega)), fun _ _ => ⟨rfl, h_up⟩⟩) (Nat.le_refl _) (Nat.le_refl _) wk_d70
        · have q38_ : (0 : Int32).toInt = d.toInt := by rw [q38]
          have e5 : fb (65 + 7 * t.toInt.toNat) = r25 := by rw [← hg_r25]; congr 1; rw [show (5 : Int32).toInt.toNat = 5 by decide]; omega
          refine lv_aload_n hx hb wk_d41 rfl (lv_at hl 0 rfl) ?_
          refine y_call (z := (0, 126, 1, some 17, xM164)) (av := [.ref this]) (rest := []) (y_cokV (n := 0) (ci := 12) X ym_no rfl rfl rfl (x_cons (x_bw70 11 rfl rfl) (x_cons (x_bw70 13 rfl rfl) (x_cons (x_at 38 (by decide +kernel) rfl) (x_cons (x_bw0 9 rfl rfl) x_nilm)))) (x_bw70 14 rfl rfl) (by decide +kernel) ⟨Nat.le_of_ble_eq_true rfl, Nat.le_of_ble_eq_true rfl⟩) hY0 hI rfl wk_d42 hl.1 (Nat.le_of_ble_eq_true rfl) (Nat.le_of_ble_eq_true rfl) (Nat.le_of_ble_eq_true rfl) (y_cons (y_cref hY_this rfl) y_nil) rfl (y_recv rfl hY_this) trivial (y_sub_ef rfl) fun v Yn o Hn L ho hr ha hIn hx_ hE hP => ?_
          replace hs_bk := y_Efld hE hY_this rfl (by decide) (by decide) hs_bk
          replace hA_bk := hA_bk.kept (y_Earr hE hY_bk rfl (by decide))
          replace hY_this := y_ext hx_ hI.1 hY_this
          replace hY_bk := y_ext hx_ hI.1 hY_bk
          have hPb := hP
          obtain rfl := hPb
          clear ho hr ha hE hP hI hx_
          rename x_I _ _ _ _ _ _ _ _ _ _ => hI
          exact y_ireturn B hI rfl rfl rfl List.mem_cons_self ⟨_, rfl, ⟨_, rfl, x_i32 _⟩⟩ (x_cs.mono B.2.2.2.2.2 (y_mon B hI)) (fun t' b' w0' w1' f' h1 h2 h3 h4 h5 => by cases h1; cases h2.symm.trans hs0; cases z_uniq h4 hA0 h3 hcn; exact ⟨_, _, rfl, hA_bk, fun q9 => absurd hok q9, fun _ _ => ⟨rfl, rfl⟩, fun _ q9 => absurd (show fb (65 + 7 * t.toInt.toNat) = d by rcases h5 t.toInt.toNat (by omega) with h9 | h9; (rw [e5] at h9 ⊢; have h8 := congrArg Int32.toInt h9; apply Int32.toInt_inj.mp; omega); (rw [e5] at h9 ⊢; have h8 := congrArg Int32.toInt h9; apply Int32.toInt_inj.mp; omega)) q9⟩) (Nat.le_refl _) (Nat.le_refl _) wk_d45
      · have q29_ : r25.toInt = (1 : Int32).toInt := by rw [q29]
        refine lv_iconst hx hb wk_d32 (v := 1) (by decide) ?_
        refine lv_goto hx hb wk_d33 (tgt := 37) (by decide) ?_
        refine lv_iload_n hx hb wk_d37 rfl (lv_at hl 2 rfl) ?_
        refine lv_icmp_ne hx hb wk_d38 (tgt := 46) (by decide) (fun q38 => ?_) (fun q38 => ?_)
        · have q38_ : ¬ (1 : Int32).toInt = d.toInt := fun q => q38 (Int32.toInt_inj.mp q)
          have e5 : fb (65 + 7 * t.toInt.toNat) = r25 := by rw [← hg_r25]; congr 1; rw [show (5 : Int32).toInt.toNat = 5 by decide]; omega
          refine lv_aload_n hx hb wk_d46 rfl (lv_at hl 0 rfl) ?_
          refine y_getf X (fl190 X.2.2.2.2.1) hI.1 hY_this rfl hs_bk wk_d47 ?_
          refine lv_bipush hx hb wk_d50 (v := 60) (by decide) ?_
          have ec60 : (60 : Int32).toInt = 60 := by decide
          refine lv_bipush hx hb wk_d52 (v := 7) (by decide) ?_
          have ec7 : (7 : Int32).toInt = 7 := by decide
          refine lv_iload_n hx hb wk_d54 rfl (lv_at hl 1 rfl) ?_
          refine lv_imul hx hb wk_d55 ?_
          generalize hg_z55 : (7 : Int32) * t = z55
          have h_z55 : z55.toInt = 7 * t.toInt := by rw [← hg_z55]; have := y_mul (x := (7 : Int32)) (y := t) (by rw [ec7]; omega) (by rw [ec7]; omega); rw [ec7] at this; exact this
          refine lv_iadd hx hb wk_d56 ?_
          generalize hg_z56 : (60 : Int32) + z55 = z56
          have h_z56 : z56.toInt = 60 + z55.toInt := by rw [← hg_z56]; have := y_add (x := (60 : Int32)) (y := z55) (by rw [ec60]; omega) (by rw [ec60]; omega); rw [ec60] at this; exact this
          refine lv_iconst hx hb wk_d57 (v := 5) (by decide) ?_
          refine lv_iadd hx hb wk_d58 ?_
          generalize hg_z58 : z56 + (5 : Int32) = z58
          have h_z58 : z58.toInt = z56.toInt + 5 := by rw [← hg_z58]; have := y_add (x := z56) (y := (5 : Int32)) (by rw [ec5]; omega) (by rw [ec5]; omega); rw [ec5] at this; exact this
          refine lv_iload_n hx hb wk_d59 rfl (lv_at hl 2 rfl) ?_
          refine lv_if_eq hx hb wk_d60 (tgt := 67) (by decide) (fun q60 => ?_) (fun q60 => ?_)
          · have q60_ : d.toInt = (0 : Int32).toInt := by rw [q60]
            refine lv_iconst hx hb wk_d67 (v := 0) (by decide) ?_
            refine y_iast X hY0 hI hY_bk rfl hA_bk (by omega) (by show _ < (160 : Int); omega) (by rw [z_get3 (by omega)]; exact ⟨_, rfl, x_i32 _⟩) (by decide +kernel) wk_d68 fun H locs hI h_new ho => ?_
            replace hA_bk := h_new
            generalize hf_f68 : y_up fb z58.toInt.toNat (0 : Int32) = f68 at hA_bk
            replace hs_bk := y_slk hs_bk (ho _ (y_ne hY_this hY_bk rfl))
            refine lv_iconst hx hb wk_d69 (v := 1) (by decide) ?_
            have h_d : d = (0 : Int32) := Int32.toInt_inj.mp (by omega)
            have h_up : f68 = y_up fb (65 + 7 * t.toInt.toNat) d := by rw [← hf_f68, show z58.toInt.toNat = 65 + 7 * t.toInt.toNat by omega, h_d]
            exact y_ireturn B hI rfl rfl rfl List.mem_cons_self ⟨_, rfl, ⟨_, rfl, x_i32 _⟩⟩ (x_cs.mono B.2.2.2.2.2 (y_mon B hI)) (fun t' b' w0' w1' f' h1 h2 h3 h4 h5 => by cases h1; cases h2.symm.trans hs0; cases z_uniq h4 hA0 h3 hcn; exact ⟨_, _, rfl, hA_bk, fun q9 => absurd hok q9, fun _ q9 => absurd q9 (fun q8 => by rcases h5 t.toInt.toNat (by omega) with h9 | h9; (rw [e5] at h9 q8; have h8 := congrArg Int32.toInt h9; have h7 := congrArg Int32.toInt q8; omega); (rw [e5] at h9 q8; have h8 := congrArg Int32.toInt h9; have h7 := congrArg Int32.toInt q8; omega)), fun _ _ => ⟨rfl, h_up⟩⟩) (Nat.le_refl _) (Nat.le_refl _) wk_d70
          · have q60_ : ¬ d.toInt = (0 : Int32).toInt := fun q => q60 (Int32.toInt_inj.mp q)
            refine lv_iconst hx hb wk_d63 (v := 1) (by decide) ?_
            refine lv_goto hx hb wk_d64 (tgt := 68) (by decide) ?_
            refine y_iast X hY0 hI hY_bk rfl hA_bk (by omega) (by show _ < (160 : Int); omega) (by rw [z_get3 (by omega)]; exact ⟨_, rfl, x_i32 _⟩) (by decide +kernel) wk_d68 fun H locs hI h_new ho => ?_
            replace hA_bk := h_new
            generalize hf_f68 : y_up fb z58.toInt.toNat (1 : Int32) = f68 at hA_bk
            replace hs_bk := y_slk hs_bk (ho _ (y_ne hY_this hY_bk rfl))
            refine lv_iconst hx hb wk_d69 (v := 1) (by decide) ?_
            have h_d : d = (1 : Int32) := Int32.toInt_inj.mp (by omega)
            have h_up : f68 = y_up fb (65 + 7 * t.toInt.toNat) d := by rw [← hf_f68, show z58.toInt.toNat = 65 + 7 * t.toInt.toNat by omega, h_d]
            exact y_ireturn B hI rfl rfl rfl List.mem_cons_self ⟨_, rfl, ⟨_, rfl, x_i32 _⟩⟩ (x_cs.mono B.2.2.2.2.2 (y_mon B hI)) (fun t' b' w0' w1' f' h1 h2 h3 h4 h5 => by cases h1; cases h2.symm.trans hs0; cases z_uniq h4 hA0 h3 hcn; exact ⟨_, _, rfl, hA_bk, fun q9 => absurd hok q9, fun _ q9 => absurd q9 (fun q8 => by rcases h5 t.toInt.toNat (by omega) with h9 | h9; (rw [e5] at h9 q8; have h8 := congrArg Int32.toInt h9; have h7 := congrArg Int32.toInt q8; omega); (rw [e5] at h9 q8; have h8 := congrArg Int32.toInt h9; have h7 := congrArg Int32.toInt q8; omega)), fun _ _ => ⟨rfl, h_up⟩⟩) (Nat.le_refl _) (Nat.le_refl _) wk_d70
        · have q38_ : (1 : Int32).toInt = d.toInt := by rw [q38]
          have e5 : fb (65 + 7 * t.toInt.toNat) = r25 := by rw [← hg_r25]; congr 1; rw [show (5 : Int32).toInt.toNat = 5 by decide]; omega
          refine lv_aload_n hx hb wk_d41 rfl (lv_at hl 0 rfl) ?_
          refine y_call (z := (0, 126, 1, some 17, xM164)) (av := [.ref this]) (rest := []) (y_cokV (n := 0) (ci := 12) X ym_no rfl rfl rfl (x_cons (x_bw70 11 rfl rfl) (x_cons (x_bw70 13 rfl rfl) (x_cons (x_at 38 (by decide +kernel) rfl) (x_cons (x_bw0 9 rfl rfl) x_nilm)))) (x_bw70 14 rfl rfl) (by decide +kernel) ⟨Nat.le_of_ble_eq_true rfl, Nat.le_of_ble_eq_true rfl⟩) hY0 hI rfl wk_d42 hl.1 (Nat.le_of_ble_eq_true rfl) (Nat.le_of_ble_eq_true rfl) (Nat.le_of_ble_eq_true rfl) (y_cons (y_cref hY_this rfl) y_nil) rfl (y_recv rfl hY_this) trivial (y_sub_ef rfl) fun v Yn o Hn L ho hr ha hIn hx_ hE hP => ?_
          replace hs_bk := y_Efld hE hY_this rfl (by decide) (by decide) hs_bk
          replace hA_bk := hA_bk.kept (y_Earr hE hY_bk rfl (by decide))
          replace hY_this := y_ext hx_ hI.1 hY_this
          replace hY_bk := y_ext hx_ hI.1 hY_bk
          have hPb := hP
          obtain rfl := hPb
          clear ho hr ha hE hP hI hx_
          rename x_I _ _ _ _ _ _ _ _ _ _ => hI
          exact y_ireturn B hI rfl rfl rfl List.mem_cons_self ⟨_, rfl, ⟨_, rfl, x_i32 _⟩⟩ (x_cs.mono B.2.2.2.2.2 (y_mon B hI)) (fun t' b' w0' w1' f' h1 h2 h3 h4 h5 => by cases h1; cases h2.symm.trans hs0; cases z_uniq h4 hA0 h3 hcn; exact ⟨_, _, rfl, hA_bk, fun q9 => absurd hok q9, fun _ _ => ⟨rfl, rfl⟩, fun _ q9 => absurd (show fb (65 + 7 * t.toInt.toNat) = d by rcases h5 t.toInt.toNat (by omega) with h9 | h9; (rw [e5] at h9 ⊢; have h8 := congrArg Int32.toInt h9; apply Int32.toInt_inj.mp; omega); (rw [e5] at h9 ⊢; have h8 := congrArg Int32.toInt h9; apply Int32.toInt_inj.mp; omega)) q9⟩) (Nat.le_refl _) (Nat.le_refl _) wk_d45
    · have q14_ : r11.toInt = (0 : Int32).toInt := by rw [q14]
      have hno : ¬ m_wOk fb t := fun q9 => by first | exact hout_r2 (by assumption) q9.1 | exact q9.2 (by have e9 : fb (60 + 7 * t.toInt.toNat) = r11 := hg_r11; rw [e9]; omega)
      refine lv_aload_n hx hb wk_d17 rfl (lv_at hl 0 rfl) ?_
      refine y_call (z := (0, 102, 1, some 17, xM143)) (av := [.ref this]) (rest := []) (y_cokV (n := 0) (ci := 12) X ym_bad rfl rfl rfl (x_cons (x_bw68 3 rfl rfl) (x_cons (x_bw68 5 rfl rfl) (x_cons (x_at 32 (by decide +kernel) rfl) (x_cons (x_bw0 9 rfl rfl) x_nilm)))) (x_bw68 6 rfl rfl) (by decide +kernel) ⟨Nat.le_of_ble_eq_true rfl, Nat.le_of_ble_eq_true rfl⟩) hY0 hI rfl wk_d18 hl.1 (Nat.le_of_ble_eq_true rfl) (Nat.le_of_ble_eq_true rfl) (Nat.le_of_ble_eq_true rfl) (y_cons (y_cref hY_this rfl) y_nil) rfl (y_recv rfl hY_this) trivial (y_sub_ef rfl) fun v Yn o Hn L ho hr ha hIn hx_ hE hP => ?_
      replace hs_bk := y_Efld hE hY_this rfl (by decide) (by decide) hs_bk
      replace hA_bk := hA_bk.kept (y_Earr hE hY_bk rfl (by decide))
      replace hY_this := y_ext hx_ hI.1 hY_this
      replace hY_bk := y_ext hx_ hI.1 hY_bk
      have hPb := hP
      obtain rfl := hPb
      clear ho hr ha hE hP hI hx_
      rename x_I _ _ _ _ _ _ _ _ _ _ => hI
      exact y_ireturn B hI rfl rfl rfl List.mem_cons_self ⟨_, rfl, ⟨_, rfl, x_i32 _⟩⟩ (x_cs.mono B.2.2.2.2.2 (y_mon B hI)) (fun t' b' w0' w1' f' h1 h2 h3 h4 h5 => by cases h1; cases h2.symm.trans hs0; cases z_uniq h4 hA0 h3 hcn; exact ⟨_, _, rfl, hA_bk, fun _ => ⟨rfl, rfl⟩, fun q9 => absurd q9 hno, fun q9 => absurd q9 hno⟩) (Nat.le_refl _) (Nat.le_refl _) wk_d21

