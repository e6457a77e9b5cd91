theorem z_AR {b N j : Nat} {H : Heap} {f g : Nat → Int32} (hA : y_A b N H f) (hB : y_A b N H g) (hj : j < N) : f j = g j := by
  have := (hA j hj).symm.trans (hB j hj)
  injection this with this
  injection this
theorem z_i0 : (0 : Int32).toInt.toNat = 0 := by decide
theorem z_i1 : (1 : Int32).toInt.toNat = 1 := by decide
def z_c (f : Nat → Int32) : Prop := ∀ p, 160 ≤ p → f p = 0
theorem z_canon {Y : xY} {b : Nat} {H : Heap} {f : Nat → Int32} {P : Nat → Int32 → Prop} (hA : y_A b 160 H f) (hB : ∀ j, j < 160 → P j (f j)) : ∃ g, z_c g ∧ y_A b 160 H g ∧ ∀ j, j < 160 → P j (g j) := by
  refine ⟨fun p => if p < 160 then f p else 0, fun p hp => if_neg (by omega), fun j hj => ?_, fun j hj => ?_⟩
  · dsimp only
    rw [if_pos hj]; exact hA j hj
  · dsimp only
    rw [if_pos hj]; exact hB j hj
theorem z_uniq {b : Nat} {H : Heap} {f g : Nat → Int32} (hA : y_A b 160 H f) (hB : y_A b 160 H g) (hf : z_c f) (hg : z_c g) : f = g := by
  funext p
  by_cases hp : p < 160
  · exact z_AR hA hB hp
  · rw [hf p (by omega), hg p (by omega)]
def z_Poh : yP := fun D av _ H v _ _ => ∀ (this bk : Nat) (h w : Int32) (f : Nat → Int32), av = [.ref this, .int h, .int w] → x_sl D 12 0 this H = some (.ref bk) → y_A bk 160 H f → v = some (.int (f (10 + 5 * h.toInt.toNat + w.toInt.toNat)))
theorem oh_d0 : decode xM145.2.1 0 = .ok (.aload_n 0, 1) := dz_ok (by decide +kernel)
theorem oh_d1 : decode xM145.2.1 1 = .ok (.getfield 7, 3) := dz_ok (by decide +kernel)
theorem oh_d4 : decode xM145.2.1 4 = .ok (.bipush 10, 2) := dz_ok (by decide +kernel)
theorem oh_d6 : decode xM145.2.1 6 = .ok (.iconst 5, 1) := dz_ok (by decide +kernel)
theorem oh_d7 : decode xM145.2.1 7 = .ok (.iload_n 1, 1) := dz_ok (by decide +kernel)
theorem oh_d8 : decode xM145.2.1 8 = .ok (.imul, 1) := dz_ok (by decide +kernel)
theorem oh_d9 : decode xM145.2.1 9 = .ok (.iadd, 1) := dz_ok (by decide +kernel)
theorem oh_d10 : decode xM145.2.1 10 = .ok (.iload_n 2, 1) := dz_ok (by decide +kernel)
theorem oh_d11 : decode xM145.2.1 11 = .ok (.iadd, 1) := dz_ok (by decide +kernel)
theorem oh_d12 : decode xM145.2.1 12 = .ok (.iaload, 1) := dz_ok (by decide +kernel)
theorem oh_d13 : decode xM145.2.1 13 = .ok (.ireturn, 1) := dz_ok (by decide +kernel)
theorem ym_ofHill : y_Met vwCl x_G x_Zs x_Tb x_Nb xM145 y_T z_Poh := by
  refine y_main (by decide +kernel) (by decide +kernel) x_Tb_good x_Nb_ok ?_
  intro p l e s m below meth c D U Y0 av ls B hI _ hl
  have X := B.1
  have hx := X.1
  have hb := X.2.1
  have hY0 := B.2.2.2.2.1
  obtain ⟨v0, v1, v2, rfl, hv0, ⟨h, rfl, hh⟩, ⟨w, rfl, hw⟩⟩ := y_three B.2.2.2.2.2
  replace hh : (0 : Int) ≤ h.toInt ∧ h.toInt ≤ 9 := hh
  replace hw : (0 : Int) ≤ w.toInt ∧ w.toInt ≤ 4 := hw
  obtain ⟨this, t0, rfl, ht0, hY_this⟩ := x_ref_at hv0 rfl
  obtain rfl := List.mem_singleton.mp ht0
  replace hl : lv_has ls xM145.2.2.1 [(0, .ref this), (1, .int h), (2, .int w)] := hl
  obtain ⟨bk, hs_bk, hY_bk⟩ := y_fldR (k := 0) hI.1 hY_this rfl rfl
  obtain ⟨fb9, hA9, hB9⟩ := y_arr hI.1 hY_bk rfl rfl
  obtain ⟨fb, hcn, hA_bk, hB_bk⟩ := z_canon (Y := Y0) (P := fun j v => x_c Y0 ([xI 0 10, xI 0 8, xI 0 8].getD j xF) (.int v)) hA9 hB9
  clear hA9 hB9 fb9
  have hs0 := hs_bk
  have hA0 := hA_bk
  have hd := z_hdr hB_bk
  have hd0 := hd.1
  have hd1 := hd.2.1
  refine lv_aload_n hx hb oh_d0 rfl (lv_at hl 0 rfl) ?_
  refine y_getf X (fl190 X.2.2.2.2.1) hI.1 hY_this rfl hs_bk oh_d1 ?_
  refine lv_bipush hx hb oh_d4 (v := 10) (by decide) ?_
  have ec10 : (10 : Int32).toInt = 10 := by decide
  refine lv_iconst hx hb oh_d6 (v := 5) (by decide) ?_
  have ec5 : (5 : Int32).toInt = 5 := by decide
  refine lv_iload_n hx hb oh_d7 rfl (lv_at hl 1 rfl) ?_
  refine lv_imul hx hb oh_d8 ?_
  generalize hg_z8 : (5 : Int32) * h = z8
  have h_z8 : z8.toInt = 5 * h.toInt := by rw [← hg_z8]; have := y_mul (x := (5 : Int32)) (y := h) (by rw [ec5]; omega) (by rw [ec5]; omega); rw [ec5] at this; exact this
  refine lv_iadd hx hb oh_d9 ?_
  generalize hg_z9 : (10 : Int32) + z8 = z9
  have h_z9 : z9.toInt = 10 + z8.toInt := by rw [← hg_z9]; have := y_add (x := (10 : Int32)) (y := z8) (by rw [ec10]; omega) (by rw [ec10]; omega); rw [ec10] at this; exact this
  refine lv_iload_n hx hb oh_d10 rfl (lv_at hl 2 rfl) ?_
  refine lv_iadd hx hb oh_d11 ?_
  generalize hg_z11 : z9 + w = z11
  have h_z11 : z11.toInt = z9.toInt + w.toInt := by rw [← hg_z11]; have := y_add (x := z9) (y := w) (by omega) (by omega); exact this
  refine y_iald X hI.1 hY_bk rfl hA_bk (by omega) (by show _ < (160 : Int); omega) oh_d12 ?_
  obtain ⟨e12, hg_e12⟩ : ∃ e12 : Int32, fb z11.toInt.toNat = e12 := ⟨_, rfl⟩
  rw [hg_e12]
  have hz : z11.toInt.toNat = 10 + 5 * h.toInt.toNat + w.toInt.toNat := by omega
  rw [hz] at hg_e12
  exact y_ireturn B hI rfl rfl rfl List.mem_cons_self ⟨_, rfl, ⟨_, rfl, x_i32 _⟩⟩ (x_cs.mono B.2.2.2.2.2 (y_mon B hI)) (fun t' b' h' w' f' h1 h2 h3 => by cases h1; cases h2.symm.trans hs0; rw [z_AR h3 hA0 (by omega), hg_e12]) (Nat.le_refl _) (Nat.le_refl _) oh_d13
def z_Pot : yP := fun D av _ H v _ _ => ∀ (this bk : Nat) (h w : Int32) (f : Nat → Int32), av = [.ref this, .int h, .int w] → x_sl D 12 0 this H = some (.ref bk) → y_A bk 160 H f → v = some (.int (f (60 + 7 * h.toInt.toNat + w.toInt.toNat)))
theorem ot_d0 : decode xM163.2.1 0 = .ok (.aload_n 0, 1) := dz_ok (by decide +kernel)
theorem ot_d1 : decode xM163.2.1 1 = .ok (.getfield 7, 3) := dz_ok (by decide +kernel)
theorem ot_d4 : decode xM163.2.1 4 = .ok (.bipush 60, 2) := dz_ok (by decide +kernel)
theorem ot_d6 : decode xM163.2.1 6 = .ok (.bipush 7, 2) := dz_ok (by decide +kernel)
theorem ot_d8 : decode xM163.2.1 8 = .ok (.iload_n 1, 1) := dz_ok (by decide +kernel)
theorem ot_d9 : decode xM163.2.1 9 = .ok (.imul, 1) := dz_ok (by decide +kernel)
theorem ot_d10 : decode xM163.2.1 10 = .ok (.iadd, 1) := dz_ok (by decide +kernel)
theorem ot_d11 : decode xM163.2.1 11 = .ok (.iload_n 2, 1) := dz_ok (by decide +kernel)
theorem ot_d12 : decode xM163.2.1 12 = .ok (.iadd, 1) := dz_ok (by decide +kernel)
theorem ot_d13 : decode xM163.2.1 13 = .ok (.iaload, 1) := dz_ok (by decide +kernel)
theorem ot_d14 : decode xM163.2.1 14 = .ok (.ireturn, 1) := dz_ok (by decide +kernel)
theorem ym_ofThing : y_Met vwCl x_G x_Zs x_Tb x_Nb xM163 y_T z_Pot := by
  refine y_main (by decide +kernel) (by decide +kernel) x_Tb_good x_Nb_ok ?_
  intro p l e s m below meth c D U Y0 av ls B hI _ hl
  have X := B.1
  have hx := X.1
  have hb := X.2.1
  have hY0 := B.2.2.2.2.1
  obtain ⟨v0, v1, v2, rfl, hv0, ⟨h, rfl, hh⟩, ⟨w, rfl, hw⟩⟩ := y_three B.2.2.2.2.2
  replace hh : (0 : Int) ≤ h.toInt ∧ h.toInt ≤ 7 := hh
  replace hw : (0 : Int) ≤ w.toInt ∧ w.toInt ≤ 6 := hw
  obtain ⟨this, t0, rfl, ht0, hY_this⟩ := x_ref_at hv0 rfl
  obtain rfl := List.mem_singleton.mp ht0
  replace hl : lv_has ls xM163.2.2.1 [(0, .ref this), (1, .int h), (2, .int w)] := hl
  obtain ⟨bk, hs_bk, hY_bk⟩ := y_fldR (k := 0) hI.1 hY_this rfl rfl
  obtain ⟨fb9, hA9, hB9⟩ := y_arr hI.1 hY_bk rfl rfl
  obtain ⟨fb, hcn, hA_bk, hB_bk⟩ := z_canon (Y := Y0) (P := fun j v => x_c Y0 ([xI 0 10, xI 0 8, xI 0 8].getD j xF) (.int v)) hA9 hB9
  clear hA9 hB9 fb9
  have hs0 := hs_bk
  have hA0 := hA_bk
  have hd := z_hdr hB_bk
  have hd0 := hd.1
  have hd1 := hd.2.1
  refine lv_aload_n hx hb ot_d0 rfl (lv_at hl 0 rfl) ?_
  refine y_getf X (fl190 X.2.2.2.2.1) hI.1 hY_this rfl hs_bk ot_d1 ?_
  refine lv_bipush hx hb ot_d4 (v := 60) (by decide) ?_
  have ec60 : (60 : Int32).toInt = 60 := by decide
  refine lv_bipush hx hb ot_d6 (v := 7) (by decide) ?_
  have ec7 : (7 : Int32).toInt = 7 := by decide
  refine lv_iload_n hx hb ot_d8 rfl (lv_at hl 1 rfl) ?_
  refine lv_imul hx hb ot_d9 ?_
  generalize hg_z9 : (7 : Int32) * h = z9
  have h_z9 : z9.toInt = 7 * h.toInt := by rw [← hg_z9]; have := y_mul (x := (7 : Int32)) (y := h) (by rw [ec7]; omega) (by rw [ec7]; omega); rw [ec7] at this; exact this
  refine lv_iadd hx hb ot_d10 ?_
  generalize hg_z10 : (60 : Int32) + z9 = z10
  have h_z10 : z10.toInt = 60 + z9.toInt := by rw [← hg_z10]; have := y_add (x := (60 : Int32)) (y := z9) (by rw [ec60]; omega) (by rw [ec60]; omega); rw [ec60] at this; exact this
  refine lv_iload_n hx hb ot_d11 rfl (lv_at hl 2 rfl) ?_
  refine lv_iadd hx hb ot_d12 ?_
  generalize hg_z12 : z10 + w = z12
  have h_z12 : z12.toInt = z10.toInt + w.toInt := by rw [← hg_z12]; have := y_add (x := z10) (y := w) (by omega) (by omega); exact this
  refine y_iald X hI.1 hY_bk rfl hA_bk (by omega) (by show _ < (160 : Int); omega) ot_d13 ?_
  obtain ⟨e13, hg_e13⟩ : ∃ e13 : Int32, fb z12.toInt.toNat = e13 := ⟨_, rfl⟩
  rw [hg_e13]
  have hz : z12.toInt.toNat = 60 + 7 * h.toInt.toNat + w.toInt.toNat := by omega
  rw [hz] at hg_e13
  exact y_ireturn B hI rfl rfl rfl List.mem_cons_self ⟨_, rfl, ⟨_, rfl, x_i32 _⟩⟩ (x_cs.mono B.2.2.2.2.2 (y_mon B hI)) (fun t' b' h' w' f' h1 h2 h3 => by cases h1; cases h2.symm.trans hs0; rw [z_AR h3 hA0 (by omega), hg_e13]) (Nat.le_refl _) (Nat.le_refl _) ot_d14
def z_Ppu3 : yP := fun D av _ H v _ H' => ∀ (this bk : Nat) (n w : Int32) (f : Nat → Int32), av = [.ref this, .int n, .int w] → x_sl D 12 0 this H = some (.ref bk) → y_A bk 160 H f → v = some (.int (f n.toInt.toNat)) ∧ y_A bk 160 H' (y_up f n.toInt.toNat w)
theorem pr_d0 : decode xM160.2.1 0 = .ok (.aload_n 0, 1) := dz_ok (by decide +kernel)
theorem pr_d1 : decode xM160.2.1 1 = .ok (.getfield 7, 3) := dz_ok (by decide +kernel)
theorem pr_d4 : decode xM160.2.1 4 = .ok (.iload_n 1, 1) := dz_ok (by decide +kernel)
theorem pr_d5 : decode xM160.2.1 5 = .ok (.iaload, 1) := dz_ok (by decide +kernel)
theorem pr_d6 : decode xM160.2.1 6 = .ok (.istore_n 3, 1) := dz_ok (by decide +kernel)
theorem pr_d7 : decode xM160.2.1 7 = .ok (.aload_n 0, 1) := dz_ok (by decide +kernel)
theorem pr_d8 : decode xM160.2.1 8 = .ok (.getfield 7, 3) := dz_ok (by decide +kernel)
theorem pr_d11 : decode xM160.2.1 11 = .ok (.iload_n 1, 1) := dz_ok (by decide +kernel)
theorem pr_d12 : decode xM160.2.1 12 = .ok (.iload_n 2, 1) := dz_ok (by decide +kernel)
theorem pr_d13 : decode xM160.2.1 13 = .ok (.iastore, 1) := dz_ok (by decide +kernel)
theorem pr_d14 : decode xM160.2.1 14 = .ok (.iload_n 3, 1) := dz_ok (by decide +kernel)
theorem pr_d15 : decode xM160.2.1 15 = .ok (.ireturn, 1) := dz_ok (by decide +kernel)
theorem ym_putsR : y_Met vwCl x_G x_Zs x_Tb x_Nb xM160 y_T z_Ppu3 := by
  refine y_main (by decide +kernel) (by decide +kernel) x_Tb_good x_Nb_ok ?_
  intro p l e s m below meth c D U Y0 av ls B hI _ hl
  have X := B.1
  have hx := X.1
  have hb := X.2.1
  have hY0 := B.2.2.2.2.1
  obtain ⟨v0, v1, v2, rfl, hv0, ⟨n, rfl, hn⟩, ⟨w, rfl, -⟩⟩ := y_three B.2.2.2.2.2
  replace hn : (3 : Int) ≤ n.toInt ∧ n.toInt ≤ 159 := hn
  obtain ⟨this, t0, rfl, ht0, hY_this⟩ := x_ref_at hv0 rfl
  obtain rfl := List.mem_singleton.mp ht0
  replace hl : lv_has ls xM160.2.2.1 [(0, .ref this), (1, .int n), (2, .int w)] := hl
  obtain ⟨bk, hs_bk, hY_bk⟩ := y_fldR (k := 0) hI.1 hY_this rfl rfl
  obtain ⟨fb9, hA9, hB9⟩ := y_arr hI.1 hY_bk rfl rfl
  obtain ⟨fb, hcn, hA_bk, hB_bk⟩ := z_canon (Y := Y0) (P := fun j v => x_c Y0 ([xI 0 10, xI 0 8, xI 0 8].getD j xF) (.int v)) hA9 hB9
  clear hA9 hB9 fb9
  have hs0 := hs_bk
  have hA0 := hA_bk
  have hd := z_hdr hB_bk
  have hd0 := hd.1
  have hd1 := hd.2.1
  refine lv_aload_n hx hb pr_d0 rfl (lv_at hl 0 rfl) ?_
  refine y_getf X (fl190 X.2.2.2.2.1) hI.1 hY_this rfl hs_bk pr_d1 ?_
  refine lv_iload_n hx hb pr_d4 rfl (lv_at hl 1 rfl) ?_
  refine y_iald X hI.1 hY_bk rfl hA_bk (by omega) (by show _ < (160 : Int); omega) pr_d5 ?_
  obtain ⟨e5, hg_e5⟩ : ∃ e5 : Int32, fb n.toInt.toNat = e5 := ⟨_, rfl⟩
  rw [hg_e5]
  refine lv_istore_n hx hb pr_d6 rfl hl (by decide) (lv' := [(3, .int e5), (0, .ref this), (1, .int n), (2, .int w)]) rfl fun ls hl => ?_
  refine lv_aload_n hx hb pr_d7 rfl (lv_at hl 1 rfl) ?_
  refine y_getf X (fl190 X.2.2.2.2.1) hI.1 hY_this rfl hs_bk pr_d8 ?_
  refine lv_iload_n hx hb pr_d11 rfl (lv_at hl 2 rfl) ?_
  refine lv_iload_n hx hb pr_d12 rfl (lv_at hl 3 rfl) ?_
  refine y_iast X hY0 hI hY_bk rfl hA_bk (by omega) (by show _ < (160 : Int); omega) (by rw [z_get3 (by omega)]; exact ⟨_, rfl, x_i32 _⟩) (by decide +kernel) pr_d13 fun H locs hI h_new ho => ?_
  replace hA_bk := h_new
  generalize hf_f13 : y_up fb n.toInt.toNat w = f13 at hA_bk
  replace hs_bk := y_slk hs_bk (ho _ (y_ne hY_this hY_bk rfl))
  refine lv_iload_n hx hb pr_d14 rfl (lv_at hl 0 rfl) ?_
  subst hg_e5
  exact y_ireturn B hI rfl rfl rfl List.mem_cons_self ⟨_, rfl, ⟨_, rfl, x_i32 _⟩⟩ (x_cs.mono B.2.2.2.2.2 (y_mon B hI)) (fun t' b' n' w' f' h1 h2 h3 => by cases h1; cases h2.symm.trans hs0; exact ⟨by rw [z_AR h3 hA0 (by omega)], fun j hj => by rw [hA_bk j hj, ← hf_f13]; unfold y_up; rw [z_AR h3 hA0 hj]⟩) (Nat.le_refl _) (Nat.le_refl _) pr_d15
def z_Phi : yP := fun D av _ H v _ H' => ∀ (this bk : Nat) (x y h : Int32) (f : Nat → Int32), av = [.ref this, .int x, .int y, .int h] → x_sl D 12 0 this H = some (.ref bk) → z_c f → y_A bk 160 H f → ∃ (r : Int32) (g : Nat → Int32), v = some (.int r) ∧ y_A bk 160 H' g ∧ m_hill f x y h r g
theorem hR_d0 : decode xM147.2.1 0 = .ok (.iload_n 1, 1) := dz_ok (by decide +kernel)
theorem hR_d1 : decode xM147.2.1 1 = .ok (.i2l, 1) := dz_ok (by decide +kernel)
theorem hR_d2 : decode xM147.2.1 2 = .ok (.lconst 0, 1) := dz_ok (by decide +kernel)
theorem hR_d3 : decode xM147.2.1 3 = .ok (.ldc2_w 95, 3) := dz_ok (by decide +kernel)
theorem hR_d6 : decode xM147.2.1 6 = .ok (.invokestatic 87, 3) := dz_ok (by decide +kernel)
theorem hR_d9 : decode xM147.2.1 9 = .ok (.ifCond .eq 31, 3) := dz_ok (by decide +kernel)
theorem hR_d12 : decode xM147.2.1 12 = .ok (.iload_n 2, 1) := dz_ok (by decide +kernel)
theorem hR_d13 : decode xM147.2.1 13 = .ok (.i2l, 1) := dz_ok (by decide +kernel)
theorem hR_d14 : decode xM147.2.1 14 = .ok (.lconst 0, 1) := dz_ok (by decide +kernel)
theorem hR_d15 : decode xM147.2.1 15 = .ok (.ldc2_w 95, 3) := dz_ok (by decide +kernel)
theorem hR_d18 : decode xM147.2.1 18 = .ok (.invokestatic 87, 3) := dz_ok (by decide +kernel)
theorem hR_d21 : decode xM147.2.1 21 = .ok (.ifCond .eq 19, 3) := dz_ok (by decide +kernel)
theorem hR_d24 : decode xM147.2.1 24 = .ok (.iload_n 3, 1) := dz_ok (by decide +kernel)
theorem hR_d25 : decode xM147.2.1 25 = .ok (.i2l, 1) := dz_ok (by decide +kernel)
theorem hR_d26 : decode xM147.2.1 26 = .ok (.lconst 0, 1) := dz_ok (by decide +kernel)
theorem hR_d27 : decode xM147.2.1 27 = .ok (.ldc2_w 97, 3) := dz_ok (by decide +kernel)
theorem hR_d30 : decode xM147.2.1 30 = .ok (.invokestatic 87, 3) := dz_ok (by decide +kernel)
theorem hR_d33 : decode xM147.2.1 33 = .ok (.ifCond .eq 7, 3) := dz_ok (by decide +kernel)
theorem hR_d36 : decode xM147.2.1 36 = .ok (.iconst 1, 1) := dz_ok (by decide +kernel)
theorem hR_d37 : decode xM147.2.1 37 = .ok (.goto 4, 3) := dz_ok (by decide +kernel)
theorem hR_d40 : decode xM147.2.1 40 = .ok (.iconst 0, 1) := dz_ok (by decide +kernel)
theorem hR_d41 : decode xM147.2.1 41 = .ok (.istore 4, 2) := dz_ok (by decide +kernel)
theorem hR_d43 : decode xM147.2.1 43 = .ok (.iconst 0, 1) := dz_ok (by decide +kernel)
theorem hR_d44 : decode xM147.2.1 44 = .ok (.istore 5, 2) := dz_ok (by decide +kernel)
theorem hR_d46 : decode xM147.2.1 46 = .ok (.iload 5, 2) := dz_ok (by decide +kernel)
theorem hR_d48 : decode xM147.2.1 48 = .ok (.aload_n 0, 1) := dz_ok (by decide +kernel)
theorem hR_d49 : decode xM147.2.1 49 = .ok (.getfield 7, 3) := dz_ok (by decide +kernel)
theorem hR_d52 : decode xM147.2.1 52 = .ok (.iconst 0, 1) := dz_ok (by decide +kernel)
theorem hR_d53 : decode xM147.2.1 53 = .ok (.iaload, 1) := dz_ok (by decide +kernel)
theorem hR_d54 : decode xM147.2.1 54 = .ok (.if_icmp .ge 43, 3) := dz_ok (by decide +kernel)
theorem hR_d57 : decode xM147.2.1 57 = .ok (.iload 4, 2) := dz_ok (by decide +kernel)
theorem hR_d59 : decode xM147.2.1 59 = .ok (.ifCond .eq 29, 3) := dz_ok (by decide +kernel)
theorem hR_d62 : decode xM147.2.1 62 = .ok (.aload_n 0, 1) := dz_ok (by decide +kernel)
theorem hR_d63 : decode xM147.2.1 63 = .ok (.iload 5, 2) := dz_ok (by decide +kernel)
theorem hR_d65 : decode xM147.2.1 65 = .ok (.iconst 0, 1) := dz_ok (by decide +kernel)
theorem hR_d66 : decode xM147.2.1 66 = .ok (.invokevirtual 99, 3) := dz_ok (by decide +kernel)
theorem hR_d69 : decode xM147.2.1 69 = .ok (.iload_n 1, 1) := dz_ok (by decide +kernel)
theorem hR_d70 : decode xM147.2.1 70 = .ok (.if_icmp .ne 14, 3) := dz_ok (by decide +kernel)
theorem hR_d73 : decode xM147.2.1 73 = .ok (.aload_n 0, 1) := dz_ok (by decide +kernel)
theorem hR_d74 : decode xM147.2.1 74 = .ok (.iload 5, 2) := dz_ok (by decide +kernel)
theorem hR_d76 : decode xM147.2.1 76 = .ok (.iconst 1, 1) := dz_ok (by decide +kernel)
theorem hR_d77 : decode xM147.2.1 77 = .ok (.invokevirtual 99, 3) := dz_ok (by decide +kernel)
theorem hR_d80 : decode xM147.2.1 80 = .ok (.iload_n 2, 1) := dz_ok (by decide +kernel)
theorem hR_d81 : decode xM147.2.1 81 = .ok (.if_icmp .eq 7, 3) := dz_ok (by decide +kernel)
theorem hR_d84 : decode xM147.2.1 84 = .ok (.iconst 1, 1) := dz_ok (by decide +kernel)
theorem hR_d85 : decode xM147.2.1 85 = .ok (.goto 4, 3) := dz_ok (by decide +kernel)
theorem hR_d88 : decode xM147.2.1 88 = .ok (.iconst 0, 1) := dz_ok (by decide +kernel)
theorem hR_d89 : decode xM147.2.1 89 = .ok (.istore 4, 2) := dz_ok (by decide +kernel)
theorem hR_d91 : decode xM147.2.1 91 = .ok (.iinc 5 1, 3) := dz_ok (by decide +kernel)
theorem hR_d94 : decode xM147.2.1 94 = .ok (.goto (-48), 3) := dz_ok (by decide +kernel)
theorem hR_d97 : decode xM147.2.1 97 = .ok (.iload 4, 2) := dz_ok (by decide +kernel)
theorem hR_d99 : decode xM147.2.1 99 = .ok (.ifCond .ne 8, 3) := dz_ok (by decide +kernel)
theorem hR_d102 : decode xM147.2.1 102 = .ok (.aload_n 0, 1) := dz_ok (by decide +kernel)
theorem hR_d103 : decode xM147.2.1 103 = .ok (.invokevirtual 102, 3) := dz_ok (by decide +kernel)
theorem hR_d106 : decode xM147.2.1 106 = .ok (.ireturn, 1) := dz_ok (by decide +kernel)
theorem hR_d107 : decode xM147.2.1 107 = .ok (.aload_n 0, 1) := dz_ok (by decide +kernel)
theorem hR_d108 : decode xM147.2.1 108 = .ok (.getfield 7, 3) := dz_ok (by decide +kernel)
theorem hR_d111 : decode xM147.2.1 111 = .ok (.iconst 0, 1) := dz_ok (by decide +kernel)
theorem hR_d112 : decode xM147.2.1 112 = .ok (.iaload, 1) := dz_ok (by decide +kernel)
theorem hR_d113 : decode xM147.2.1 113 = .ok (.bipush 10, 2) := dz_ok (by decide +kernel)
theorem hR_d115 : decode xM147.2.1 115 = .ok (.if_icmp .ne 8, 3) := dz_ok (by decide +kernel)
theorem hR_d118 : decode xM147.2.1 118 = .ok (.aload_n 0, 1) := dz_ok (by decide +kernel)
theorem hR_d119 : decode xM147.2.1 119 = .ok (.invokevirtual 105, 3) := dz_ok (by decide +kernel)
theorem hR_d122 : decode xM147.2.1 122 = .ok (.ireturn, 1) := dz_ok (by decide +kernel)
theorem hR_d123 : decode xM147.2.1 123 = .ok (.bipush 10, 2) := dz_ok (by decide +kernel)
theorem hR_d125 : decode xM147.2.1 125 = .ok (.iconst 5, 1) := dz_ok (by decide +kernel)
theorem hR_d126 : decode xM147.2.1 126 = .ok (.aload_n 0, 1) := dz_ok (by decide +kernel)
theorem hR_d127 : decode xM147.2.1 127 = .ok (.getfield 7, 3) := dz_ok (by decide +kernel)
theorem hR_d130 : decode xM147.2.1 130 = .ok (.iconst 0, 1) := dz_ok (by decide +kernel)
theorem hR_d131 : decode xM147.2.1 131 = .ok (.iaload, 1) := dz_ok (by decide +kernel)
theorem hR_d132 : decode xM147.2.1 132 = .ok (.imul, 1) := dz_ok (by decide +kernel)
theorem hR_d133 : decode xM147.2.1 133 = .ok (.iadd, 1) := dz_ok (by decide +kernel)
theorem hR_d134 : decode xM147.2.1 134 = .ok (.istore 5, 2) := dz_ok (by decide +kernel)
theorem hR_d136 : decode xM147.2.1 136 = .ok (.aload_n 0, 1) := dz_ok (by decide +kernel)
theorem hR_d137 : decode xM147.2.1 137 = .ok (.getfield 7, 3) := dz_ok (by decide +kernel)
theorem hR_d140 : decode xM147.2.1 140 = .ok (.iload 5, 2) := dz_ok (by decide +kernel)
theorem hR_d142 : decode xM147.2.1 142 = .ok (.iload_n 1, 1) := dz_ok (by decide +kernel)
theorem hR_d143 : decode xM147.2.1 143 = .ok (.iastore, 1) := dz_ok (by decide +kernel)
theorem hR_d144 : decode xM147.2.1 144 = .ok (.aload_n 0, 1) := dz_ok (by decide +kernel)
theorem hR_d145 : decode xM147.2.1 145 = .ok (.getfield 7, 3) := dz_ok (by decide +kernel)
theorem hR_d148 : decode xM147.2.1 148 = .ok (.iload 5, 2) := dz_ok (by decide +kernel)
theorem hR_d150 : decode xM147.2.1 150 = .ok (.iconst 1, 1) := dz_ok (by decide +kernel)
theorem hR_d151 : decode xM147.2.1 151 = .ok (.iadd, 1) := dz_ok (by decide +kernel)
theorem hR_d152 : decode xM147.2.1 152 = .ok (.iload_n 2, 1) := dz_ok (by decide +kernel)
theorem hR_d153 : decode xM147.2.1 153 = .ok (.iastore, 1) := dz_ok (by decide +kernel)
theorem hR_d154 : decode xM147.2.1 154 = .ok (.aload_n 0, 1) := dz_ok (by decide +kernel)
theorem hR_d155 : decode xM147.2.1 155 = .ok (.getfield 7, 3) := dz_ok (by decide +kernel)
theorem hR_d158 : decode xM147.2.1 158 = .ok (.iload 5, 2) := dz_ok (by decide +kernel)
theorem hR_d160 : decode xM147.2.1 160 = .ok (.iconst 2, 1) := dz_ok (by decide +kernel)
theorem hR_d161 : decode xM147.2.1 161 = .ok (.iadd, 1) := dz_ok (by decide +kernel)
theorem hR_d162 : decode xM147.2.1 162 = .ok (.iload_n 3, 1) := dz_ok (by decide +kernel)
theorem hR_d163 : decode xM147.2.1 163 = .ok (.iastore, 1) := dz_ok (by decide +kernel)
theorem hR_d164 : decode xM147.2.1 164 = .ok (.aload_n 0, 1) := dz_ok (by decide +kernel)
theorem hR_d165 : decode xM147.2.1 165 = .ok (.getfield 7, 3) := dz_ok (by decide +kernel)
theorem hR_d168 : decode xM147.2.1 168 = .ok (.iload 5, 2) := dz_ok (by decide +kernel)
theorem hR_d170 : decode xM147.2.1 170 = .ok (.iconst 3, 1) := dz_ok (by decide +kernel)
theorem hR_d171 : decode xM147.2.1 171 = .ok (.iadd, 1) := dz_ok (by decide +kernel)
theorem hR_d172 : decode xM147.2.1 172 = .ok (.iconst (-1), 1) := dz_ok (by decide +kernel)
theorem hR_d173 : decode xM147.2.1 173 = .ok (.iastore, 1) := dz_ok (by decide +kernel)
theorem hR_d174 : decode xM147.2.1 174 = .ok (.aload_n 0, 1) := dz_ok (by decide +kernel)
theorem hR_d175 : decode xM147.2.1 175 = .ok (.getfield 7, 3) := dz_ok (by decide +kernel)
theorem hR_d178 : decode xM147.2.1 178 = .ok (.iload 5, 2) := dz_ok (by decide +kernel)
theorem hR_d180 : decode xM147.2.1 180 = .ok (.iconst 4, 1) := dz_ok (by decide +kernel)
theorem hR_d181 : decode xM147.2.1 181 = .ok (.iadd, 1) := dz_ok (by decide +kernel)
theorem hR_d182 : decode xM147.2.1 182 = .ok (.iconst 1, 1) := dz_ok (by decide +kernel)
theorem hR_d183 : decode xM147.2.1 183 = .ok (.iastore, 1) := dz_ok (by decide +kernel)
theorem hR_d184 : decode xM147.2.1 184 = .ok (.aload_n 0, 1) := dz_ok (by decide +kernel)
theorem hR_d185 : decode xM147.2.1 185 = .ok (.getfield 7, 3) := dz_ok (by decide +kernel)
theorem hR_d188 : decode xM147.2.1 188 = .ok (.iconst 0, 1) := dz_ok (by decide +kernel)
theorem hR_d189 : decode xM147.2.1 189 = .ok (.dup2, 1) := dz_ok (by decide +kernel)
theorem hR_d190 : decode xM147.2.1 190 = .ok (.iaload, 1) := dz_ok (by decide +kernel)
theorem hR_d191 : decode xM147.2.1 191 = .ok (.iconst 1, 1) := dz_ok (by decide +kernel)
theorem hR_d192 : decode xM147.2.1 192 = .ok (.iadd, 1) := dz_ok (by decide +kernel)
theorem hR_d193 : decode xM147.2.1 193 = .ok (.iastore, 1) := dz_ok (by decide +kernel)
theorem hR_d194 : decode xM147.2.1 194 = .ok (.aload_n 0, 1) := dz_ok (by decide +kernel)
theorem hR_d195 : decode xM147.2.1 195 = .ok (.getfield 7, 3) := dz_ok (by decide +kernel)
theorem hR_d198 : decode xM147.2.1 198 = .ok (.iconst 0, 1) := dz_ok (by decide +kernel)
theorem hR_d199 : decode xM147.2.1 199 = .ok (.iaload, 1) := dz_ok (by decide +kernel)
theorem hR_d200 : decode xM147.2.1 200 = .ok (.iconst 1, 1) := dz_ok (by decide +kernel)
theorem hR_d201 : decode xM147.2.1 201 = .ok (.isub, 1) := dz_ok (by decide +kernel)
theorem hR_d202 : decode xM147.2.1 202 = .ok (.ireturn, 1) := dz_ok (by decide +kernel)
theorem hR_L46 {p : Program} {l : Launch} {e : Env} {s : State} {m : MethodId} {below : List Frame} {meth : Method} {c : Code} {D : va_G} {U : State} {Y0 : xY} {av : List Value} (B : y_B vwCl x_Tb x_Nb xM147 p s m meth c D U Y0 av) {this bk : Nat} {x y h : Int32} {fb : Nat → Int32} (hav : av = [.ref this, .int x, .int y, .int h]) (hs0 : x_sl D 12 0 this s.heap = some (.ref bk)) (hA0 : y_A bk 160 s.heap fb) (hd0 : 0 ≤ (fb 0).toInt ∧ (fb 0).toInt ≤ 10) (hcn : z_c fb)  :
    ∀ (n : Nat), ∀ (H : Heap) (Y : xY) (locs : List Loc) (ls : Array Slot) (j : Int32) (rt : Int32), x_I D x_G x_Zs U (x_efs xM147) Y0 s.heap Y H locs → Y this = some 17 → Y bk = some 46 → x_sl D 12 0 this H = some (.ref bk) → y_A bk 160 H fb → lv_has ls xM147.2.2.1 [(5, .int j), (4, .int rt), (0, .ref this), (1, .int x), (2, .int y), (3, .int h)] → (0 ≤ j.toInt ∧ j.toInt ≤ (fb 0).toInt) → (0 ≤ rt.toInt ∧ rt.toInt ≤ 1) → (rt.toInt = 1 → ((0 ≤ x.toInt ∧ x.toInt ≤ 19) ∧ (0 ≤ y.toInt ∧ y.toInt ≤ 19) ∧ (0 ≤ h.toInt ∧ h.toInt ≤ 99)) ∧ ∀ i : Nat, (i : Int) < j.toInt → ¬ (fb (10 + 5 * i) = x ∧ fb (11 + 5 * i) = y)) → (rt.toInt = 0 → ¬ m_hOk fb x y h) → (11 - j.toInt).toNat < n → W p l e (x_rm xM147) s m av.toArray below meth c H locs 0 0 (y_QQ below D x_G x_Zs U xM147 z_Phi av Y0 s) (F0 m 46 ls []) := by
  have X := B.1
  have hx := X.1
  have hb := X.2.1
  have hY0 := B.2.2.2.2.1
  intro n
  induction n with
  | zero => intro _ _ _ _ _ _ _ _ _ _ _ _ _ _ _ _ h; exact absurd h (Nat.not_lt_zero _)
  | succ n ih =>
    intro H Y locs ls j rt  hI hY_this hY_bk hs_bk hA_bk hl hj hrt hr1 hr0 hn
    refine lv_iload hx hb hR_d46 (lv_at hl 0 rfl) ?_
    refine lv_aload_n hx hb hR_d48 rfl (lv_at hl 2 rfl) ?_
    refine y_getf X (fl190 X.2.2.2.2.1) hI.1 hY_this rfl hs_bk hR_d49 ?_
    refine lv_iconst hx hb hR_d52 (v := 0) (by decide) ?_
    have ec0 : (0 : Int32).toInt = 0 := by decide
    refine y_iald X hI.1 hY_bk rfl hA_bk (by omega) (by show _ < (160 : Int); omega) hR_d53 ?_
    obtain ⟨e53, hg_e53⟩ : ∃ e53 : Int32, fb (0 : Int32).toInt.toNat = e53 := ⟨_, rfl⟩
    rw [hg_e53]
    rw [z_i0] at hg_e53
    have h_e53 : e53.toInt = (fb 0).toInt := by rw [hg_e53]
    refine lv_icmp_ge hx hb hR_d54 (tgt := 97) (by decide) (fun q54 => ?_) (fun q54 => ?_)
    · have q54_ : e53.toInt ≤ j.toInt := x_le32.mp q54
      refine lv_iload hx hb hR_d97 (lv_at hl 1 rfl) ?_
      refine lv_if_ne hx hb hR_d99 (tgt := 107) (by decide) (fun q99 => ?_) (fun q99 => ?_)
      · have q99_ : ¬ rt.toInt = (0 : Int32).toInt := fun q => q99 (Int32.toInt_inj.mp q)
        have hok : m_hOk fb x y h := ⟨(hr1 (by omega)).1, fun i hi => (hr1 (by omega)).2 i (by omega)⟩
        refine lv_aload_n hx hb hR_d107 rfl (lv_at hl 2 rfl) ?_
        refine y_getf X (fl190 X.2.2.2.2.1) hI.1 hY_this rfl hs_bk hR_d108 ?_
        refine lv_iconst hx hb hR_d111 (v := 0) (by decide) ?_
        refine y_iald X hI.1 hY_bk rfl hA_bk (by omega) (by show _ < (160 : Int); omega) hR_d112 ?_
        obtain ⟨e112, hg_e112⟩ : ∃ e112 : Int32, fb (0 : Int32).toInt.toNat = e112 := ⟨_, rfl⟩
        rw [hg_e112]
        rw [z_i0] at hg_e112
        have h_e112 : e112.toInt = (fb 0).toInt := by rw [hg_e112]
        refine lv_bipush hx hb hR_d113 (v := 10) (by decide) ?_
        have ec10 : (10 : Int32).toInt = 10 := by decide
        refine lv_icmp_ne hx hb hR_d115 (tgt := 123) (by decide) (fun q115 => ?_) (fun q115 => ?_)
        · have q115_ : ¬ e112.toInt = (10 : Int32).toInt := fun q => q115 (Int32.toInt_inj.mp q)
          refine lv_bipush hx hb hR_d123 (v := 10) (by decide) ?_
          refine lv_iconst hx hb hR_d125 (v := 5) (by decide) ?_
          have ec5 : (5 : Int32).toInt = 5 := by decide
          refine lv_aload_n hx hb hR_d126 rfl (lv_at hl 2 rfl) ?_
          refine y_getf X (fl190 X.2.2.2.2.1) hI.1 hY_this rfl hs_bk hR_d127 ?_
          refine lv_iconst hx hb hR_d130 (v := 0) (by decide) ?_
          refine y_iald X hI.1 hY_bk rfl hA_bk (by omega) (by show _ < (160 : Int); omega) hR_d131 ?_
          obtain ⟨e131, hg_e131⟩ : ∃ e131 : Int32, fb (0 : Int32).toInt.toNat = e131 := ⟨_, rfl⟩
          rw [hg_e131]
          rw [z_i0] at hg_e131
          have h_e131 : e131.toInt = (fb 0).toInt := by rw [hg_e131]
          refine lv_imul hx hb hR_d132 ?_
          generalize hg_z132 : (5 : Int32) * e131 = z132
          have h_z132 : z132.toInt = 5 * e131.toInt := by rw [← hg_z132]; have := y_mul (x := (5 : Int32)) (y := e131) (by rw [ec5]; omega) (by rw [ec5]; omega); rw [ec5] at this; exact this
          refine lv_iadd hx hb hR_d133 ?_
          generalize hg_z133 : (10 : Int32) + z132 = z133
          have h_z133 : z133.toInt = 10 + z132.toInt := by rw [← hg_z133]; have := y_add (x := (10 : Int32)) (y := z132) (by rw [ec10]; omega) (by rw [ec10]; omega); rw [ec10] at this; exact this
          refine lv_istore hx hb hR_d134 hl (by decide) (lv' := [(5, .int z133), (4, .int rt), (0, .ref this), (1, .int x), (2, .int y), (3, .int h)]) rfl fun ls hl => ?_
          refine lv_aload_n hx hb hR_d136 rfl (lv_at hl 2 rfl) ?_
          refine y_getf X (fl190 X.2.2.2.2.1) hI.1 hY_this rfl hs_bk hR_d137 ?_
          refine lv_iload hx hb hR_d140 (lv_at hl 0 rfl) ?_
          refine lv_iload_n hx hb hR_d142 rfl (lv_at hl 3 rfl) ?_
          refine y_iast X hY0 hI hY_bk rfl hA_bk (by omega) (by show _ < (160 : Int); omega) (by rw [z_get3 (by omega)]; exact ⟨_, rfl, x_i32 _⟩) (by decide +kernel) hR_d143 fun H locs hI h_new ho => ?_
          replace hA_bk := h_new
          generalize hf_f143 : y_up fb z133.toInt.toNat x = f143 at hA_bk
          replace hs_bk := y_slk hs_bk (ho _ (y_ne hY_this hY_bk rfl))
          refine lv_aload_n hx hb hR_d144 rfl (lv_at hl 2 rfl) ?_
          refine y_getf X (fl190 X.2.2.2.2.1) hI.1 hY_this rfl hs_bk hR_d145 ?_
          refine lv_iload hx hb hR_d148 (lv_at hl 0 rfl) ?_
          refine lv_iconst hx hb hR_d150 (v := 1) (by decide) ?_
          have ec1 : (1 : Int32).toInt = 1 := by decide
          refine lv_iadd hx hb hR_d151 ?_
          generalize hg_z151 : z133 + (1 : Int32) = z151
          have h_z151 : z151.toInt = z133.toInt + 1 := by rw [← hg_z151]; have := y_add (x := z133) (y := (1 : Int32)) (by rw [ec1]; omega) (by rw [ec1]; omega); rw [ec1] at this; exact this
          refine lv_iload_n hx hb hR_d152 rfl (lv_at hl 4 rfl) ?_
          refine y_iast X hY0 hI hY_bk rfl hA_bk (by omega) (by show _ < (160 : Int); omega) (by rw [z_get3 (by omega)]; exact ⟨_, rfl, x_i32 _⟩) (by decide +kernel) hR_d153 fun H locs hI h_new ho => ?_
          replace hA_bk := h_new
          generalize hf_f153 : y_up f143 z151.toInt.toNat y = f153 at hA_bk
          replace hs_bk := y_slk hs_bk (ho _ (y_ne hY_this hY_bk rfl))
          refine lv_aload_n hx hb hR_d154 rfl (lv_at hl 2 rfl) ?_
          refine y_getf X (fl190 X.2.2.2.2.1) hI.1 hY_this rfl hs_bk hR_d155 ?_
          refine lv_iload hx hb hR_d158 (lv_at hl 0 rfl) ?_
          refine lv_iconst hx hb hR_d160 (v := 2) (by decide) ?_
          have ec2 : (2 : Int32).toInt = 2 := by decide
          refine lv_iadd hx hb hR_d161 ?_
          generalize hg_z161 : z133 + (2 : Int32) = z161
          have h_z161 : z161.toInt = z133.toInt + 2 := by rw [← hg_z161]; have := y_add (x := z133) (y := (2 : Int32)) (by rw [ec2]; omega) (by rw [ec2]; omega); rw [ec2] at this; exact this
          refine lv_iload_n hx hb hR_d162 rfl (lv_at hl 5 rfl) ?_
          refine y_iast X hY0 hI hY_bk rfl hA_bk (by omega) (by show _ < (160 : Int); omega) (by rw [z_get3 (by omega)]; exact ⟨_, rfl, x_i32 _⟩) (by decide +kernel) hR_d163 fun H locs hI h_new ho => ?_
          replace hA_bk := h_new
          generalize hf_f163 : y_up f153 z161.toInt.toNat h = f163 at hA_bk
          replace hs_bk := y_slk hs_bk (ho _ (y_ne hY_this hY_bk rfl))
          refine lv_aload_n hx hb hR_d164 rfl (lv_at hl 2 rfl) ?_
          refine y_getf X (fl190 X.2.2.2.2.1) hI.1 hY_this rfl hs_bk hR_d165 ?_
          refine lv_iload hx hb hR_d168 (lv_at hl 0 rfl) ?_
          refine lv_iconst hx hb hR_d170 (v := 3) (by decide) ?_
          have ec3 : (3 : Int32).toInt = 3 := by decide
          refine lv_iadd hx hb hR_d171 ?_
          generalize hg_z171 : z133 + (3 : Int32) = z171
          have h_z171 : z171.toInt = z133.toInt + 3 := by rw [← hg_z171]; have := y_add (x := z133) (y := (3 : Int32)) (by rw [ec3]; omega) (by rw [ec3]; omega); rw [ec3] at this; exact this
          refine lv_iconst hx hb hR_d172 (v := (-1)) (by decide) ?_
          have ecm1 : ((-1) : Int32).toInt = (-1) := by decide
          refine y_iast X hY0 hI hY_bk rfl hA_bk (by omega) (by show _ < (160 : Int); omega) (by rw [z_get3 (by omega)]; exact ⟨_, rfl, x_i32 _⟩) (by decide +kernel) hR_d173 fun H locs hI h_new ho => ?_
          replace hA_bk := h_new
          generalize hf_f173 : y_up f163 z171.toInt.toNat ((-1) : Int32) = f173 at hA_bk
          replace hs_bk := y_slk hs_bk (ho _ (y_ne hY_this hY_bk rfl))
          refine lv_aload_n hx hb hR_d174 rfl (lv_at hl 2 rfl) ?_
          refine y_getf X (fl190 X.2.2.2.2.1) hI.1 hY_this rfl hs_bk hR_d175 ?_
          refine lv_iload hx hb hR_d178 (lv_at hl 0 rfl) ?_
          refine lv_iconst hx hb hR_d180 (v := 4) (by decide) ?_
          have ec4 : (4 : Int32).toInt = 4 := by decide
          refine lv_iadd hx hb hR_d181 ?_
          generalize hg_z181 : z133 + (4 : Int32) = z181
          have h_z181 : z181.toInt = z133.toInt + 4 := by rw [← hg_z181]; have := y_add (x := z133) (y := (4 : Int32)) (by rw [ec4]; omega) (by rw [ec4]; omega); rw [ec4] at this; exact this
          refine lv_iconst hx hb hR_d182 (v := 1) (by decide) ?_
          refine y_iast X hY0 hI hY_bk rfl hA_bk (by omega) (by show _ < (160 : Int); omega) (by rw [z_get3 (by omega)]; exact ⟨_, rfl, x_i32 _⟩) (by decide +kernel) hR_d183 fun H locs hI h_new ho => ?_
          replace hA_bk := h_new
          generalize hf_f183 : y_up f173 z181.toInt.toNat (1 : Int32) = f183 at hA_bk
          replace hs_bk := y_slk hs_bk (ho _ (y_ne hY_this hY_bk rfl))
          refine lv_aload_n hx hb hR_d184 rfl (lv_at hl 2 rfl) ?_
          refine y_getf X (fl190 X.2.2.2.2.1) hI.1 hY_this rfl hs_bk hR_d185 ?_
          refine lv_iconst hx hb hR_d188 (v := 0) (by decide) ?_
          refine lv_dup2_11 hx hb hR_d189 rfl rfl ?_
          refine y_iald X hI.1 hY_bk rfl hA_bk (by omega) (by show _ < (160 : Int); omega) hR_d190 ?_
          obtain ⟨e190, hg_e190⟩ : ∃ e190 : Int32, f183 (0 : Int32).toInt.toNat = e190 := ⟨_, rfl⟩
          rw [hg_e190]
          rw [z_i0] at hg_e190
          have h_e190 : e190 = fb 0 := by rw [← hg_e190, ← hf_f183, y_up_ne (by omega), ← hf_f173, y_up_ne (by omega), ← hf_f163, y_up_ne (by omega), ← hf_f153, y_up_ne (by omega), ← hf_f143, y_up_ne (by omega)]
          have h_e190i : e190.toInt = (fb 0).toInt := by rw [h_e190]
          refine lv_iconst hx hb hR_d191 (v := 1) (by decide) ?_
          refine lv_iadd hx hb hR_d192 ?_
          generalize hg_z192 : e190 + (1 : Int32) = z192
          have h_z192 : z192.toInt = e190.toInt + 1 := by rw [← hg_z192]; have := y_add (x := e190) (y := (1 : Int32)) (by rw [ec1]; omega) (by rw [ec1]; omega); rw [ec1] at this; exact this
          refine y_iast X hY0 hI hY_bk rfl hA_bk (by omega) (by show _ < (160 : Int); omega) (by show x_c _ (xI 0 10) _; exact ⟨_, rfl, by show (0 : Int) ≤ _; omega, by show _ ≤ (10 : Int); omega⟩) (by decide +kernel) hR_d193 fun H locs hI h_new ho => ?_
          replace hA_bk := h_new
          generalize hf_f193 : y_up f183 (0 : Int32).toInt.toNat z192 = f193 at hA_bk
          replace hs_bk := y_slk hs_bk (ho _ (y_ne hY_this hY_bk rfl))
          refine lv_aload_n hx hb hR_d194 rfl (lv_at hl 2 rfl) ?_
          refine y_getf X (fl190 X.2.2.2.2.1) hI.1 hY_this rfl hs_bk hR_d195 ?_
          refine lv_iconst hx hb hR_d198 (v := 0) (by decide) ?_
          refine y_iald X hI.1 hY_bk rfl hA_bk (by omega) (by show _ < (160 : Int); omega) hR_d199 ?_
          obtain ⟨e199, hg_e199⟩ : ∃ e199 : Int32, f193 (0 : Int32).toInt.toNat = e199 := ⟨_, rfl⟩
          rw [hg_e199]
          rw [z_i0] at hg_e199
          have h_e199 : e199 = z192 := by rw [← hg_e199, ← hf_f193, z_i0, y_up_at]
          have h_e199i : e199.toInt = z192.toInt := by rw [h_e199]
          refine lv_iconst hx hb hR_d200 (v := 1) (by decide) ?_
          refine lv_isub hx hb hR_d201 ?_
          generalize hg_z201 : e199 - (1 : Int32) = z201
          have h_z201 : z201.toInt = e199.toInt - 1 := by rw [← hg_z201]; have := y_sub (x := e199) (y := (1 : Int32)) (by rw [ec1]; omega) (by rw [ec1]; omega); rw [ec1] at this; exact this
          have h_v : z192 = fb 0 + 1 := by rw [← hg_z192, h_e190]
          have h_p : z133.toInt.toNat = 10 + 5 * (fb 0).toInt.toNat := by omega
          have h_p1 : z151.toInt.toNat = 11 + 5 * (fb 0).toInt.toNat := by omega
          have h_p2 : z161.toInt.toNat = 12 + 5 * (fb 0).toInt.toNat := by omega
          have h_p3 : z171.toInt.toNat = 13 + 5 * (fb 0).toInt.toNat := by omega
          have h_p4 : z181.toInt.toNat = 14 + 5 * (fb 0).toInt.toNat := by omega
          have h_r : z201 = fb 0 := Int32.toInt_inj.mp (by omega)
          have h_up : f193 = m_hUp fb x y h := (by unfold m_hUp; rw [← hf_f193, ← hf_f183, ← hf_f173, ← hf_f163, ← hf_f153, ← hf_f143]; rw [z_i0, h_p, h_p1, h_p2, h_p3, h_p4, h_v])
          subst hav
          exact y_ireturn B hI rfl rfl rfl List.mem_cons_self ⟨_, rfl, ⟨_, rfl, x_i32 _⟩⟩ (x_cs.mono B.2.2.2.2.2 (y_mon B hI)) (fun t' b' x' y' h' f' h1 h2 h3 h4 => by cases h1; cases h2.symm.trans hs0; cases z_uniq h4 hA0 h3 hcn; exact ⟨_, _, rfl, hA_bk, fun h => absurd hok h, fun _ h => absurd h (by omega), fun _ _ => ⟨h_r, h_up⟩⟩) (Nat.le_refl _) (Nat.le_refl _) hR_d202
        · have q115_ : e112.toInt = (10 : Int32).toInt := by rw [q115]
          refine lv_aload_n hx hb hR_d118 rfl (lv_at hl 2 rfl) ?_
          refine y_call (z := (0, 105, 1, some 17, xM146)) (av := [.ref this]) (rest := []) (y_cokV (n := 0) (ci := 12) X ym_full rfl rfl rfl (x_cons (x_bw68 11 rfl rfl) (x_cons (x_bw68 13 rfl rfl) (x_cons (x_at 34 (by decide +kernel) rfl) (x_cons (x_bw0 9 rfl rfl) x_nilm)))) (x_bw68 14 rfl rfl) (by decide +kernel) ⟨Nat.le_of_ble_eq_true rfl, Nat.le_of_ble_eq_true rfl⟩) hY0 hI rfl hR_d119 hl.1 (Nat.le_of_ble_eq_true rfl) (Nat.le_of_ble_eq_true rfl) (Nat.le_of_ble_eq_true rfl) (y_cons (y_cref hY_this rfl) y_nil) rfl (y_recv rfl hY_this) trivial (y_sub_ef rfl) fun v Yn o Hn L ho hr ha hIn hx_ hE hP => ?_
          replace hs_bk := y_Efld hE hY_this rfl (by decide) (by decide) hs_bk
          replace hA_bk := hA_bk.kept (y_Earr hE hY_bk rfl (by decide))
          replace hY_this := y_ext hx_ hI.1 hY_this
          replace hY_bk := y_ext hx_ hI.1 hY_bk
          have hPb := hP
          obtain rfl := hPb
          clear ho hr ha hE hP hI hx_
          rename x_I _ _ _ _ _ _ _ _ _ _ => hI
          subst hav
          exact y_ireturn B hI rfl rfl rfl List.mem_cons_self ⟨_, rfl, ⟨_, rfl, x_i32 _⟩⟩ (x_cs.mono B.2.2.2.2.2 (y_mon B hI)) (fun t' b' x' y' h' f' h1 h2 h3 h4 => by cases h1; cases h2.symm.trans hs0; cases z_uniq h4 hA0 h3 hcn; exact ⟨_, _, rfl, hA_bk, fun h => absurd hok h, fun _ _ => ⟨rfl, rfl⟩, fun _ h => absurd h (by omega)⟩) (Nat.le_refl _) (Nat.le_refl _) hR_d122
      · have q99_ : rt.toInt = (0 : Int32).toInt := by rw [q99]
        have hno := hr0 (by omega)
        refine lv_aload_n hx hb hR_d102 rfl (lv_at hl 2 rfl) ?_
        refine y_call (z := (0, 102, 1, some 17, xM143)) (av := [.ref this]) (rest := []) (y_cokV (n := 0) (ci := 12) X ym_bad rfl rfl rfl (x_cons (x_bw68 3 rfl rfl) (x_cons (x_bw68 5 rfl rfl) (x_cons (x_at 32 (by decide +kernel) rfl) (x_cons (x_bw0 9 rfl rfl) x_nilm)))) (x_bw68 6 rfl rfl) (by decide +kernel) ⟨Nat.le_of_ble_eq_true rfl, Nat.le_of_ble_eq_true rfl⟩) hY0 hI rfl hR_d103 hl.1 (Nat.le_of_ble_eq_true rfl) (Nat.le_of_ble_eq_true rfl) (Nat.le_of_ble_eq_true rfl) (y_cons (y_cref hY_this rfl) y_nil) rfl (y_recv rfl hY_this) trivial (y_sub_ef rfl) fun v Yn o Hn L ho hr ha hIn hx_ hE hP => ?_
        replace hs_bk := y_Efld hE hY_this rfl (by decide) (by decide) hs_bk
        replace hA_bk := hA_bk.kept (y_Earr hE hY_bk rfl (by decide))
        replace hY_this := y_ext hx_ hI.1 hY_this
        replace hY_bk := y_ext hx_ hI.1 hY_bk
        have hPb := hP
        obtain rfl := hPb
        clear ho hr ha hE hP hI hx_
        rename x_I _ _ _ _ _ _ _ _ _ _ => hI
        subst hav
        exact y_ireturn B hI rfl rfl rfl List.mem_cons_self ⟨_, rfl, ⟨_, rfl, x_i32 _⟩⟩ (x_cs.mono B.2.2.2.2.2 (y_mon B hI)) (fun t' b' x' y' h' f' h1 h2 h3 h4 => by cases h1; cases h2.symm.trans hs0; cases z_uniq h4 hA0 h3 hcn; exact ⟨_, _, rfl, hA_bk, fun _ => ⟨rfl, rfl⟩, fun h => absurd h hno, fun h => absurd h hno⟩) (Nat.le_refl _) (Nat.le_refl _) hR_d106
    · have q54_ : j.toInt < e53.toInt := Int.not_le.mp fun q => q54 (x_le32.mpr q)
      refine lv_iload hx hb hR_d57 (lv_at hl 1 rfl) ?_
      refine lv_if_eq hx hb hR_d59 (tgt := 88) (by decide) (fun q59 => ?_) (fun q59 => ?_)
      · have q59_ : rt.toInt = (0 : Int32).toInt := by rw [q59]
        refine lv_iconst hx hb hR_d88 (v := 0) (by decide) ?_
        refine lv_istore hx hb hR_d89 hl (by decide) (lv' := [(4, .int (0 : Int32)), (5, .int j), (0, .ref this), (1, .int x), (2, .int y), (3, .int h)]) rfl fun ls hl => ?_
        obtain ⟨z91, hg_z91⟩ : ∃ z91 : Int32, j + Int32.ofInt 1 = z91 := ⟨_, rfl⟩
        have h_z91 : z91.toInt = j.toInt + 1 := by rw [← hg_z91]; exact y_inc (by decide) (by omega) (by omega)
        refine lv_iinc hx hb hR_d91 hl (k := 1) rfl hg_z91 (by decide) (lv' := [(5, .int z91), (4, .int (0 : Int32)), (0, .ref this), (1, .int x), (2, .int y), (3, .int h)]) rfl fun ls hl => ?_
        refine lv_goto hx hb hR_d94 (tgt := 46) (by decide) ?_
        exact ih _ _ _ _ _ _ hI hY_this hY_bk hs_bk hA_bk (lv_sub hl [0, 1, 2, 3, 4, 5] rfl) (by first | assumption | omega) (by first | assumption | omega) (fun q9 => by first | exact absurd q9 (by omega) | (refine ⟨(hr1 (by omega)).1, fun i hi => ?_⟩; by_cases ei : (i : Int) = j.toInt; (intro q8; have ej : i = j.toInt.toNat := (by omega); subst ej; first | exact q70 (hg_r66.symm.trans (by rw [← q8.1]; congr 1)) | exact q81 (hg_r77.symm.trans (by rw [← q8.2]; congr 1; omega))); exact (hr1 (by omega)).2 i (by omega))) (fun q9 => by first | exact absurd q9 (by omega) | exact hr0 (by omega) | (intro q8; exact q8.2 j.toInt.toNat (by omega) ⟨(show fb (10 + 5 * j.toInt.toNat) = fb (10 + 5 * j.toInt.toNat + (0 : Int32).toInt.toNat) from rfl).trans (hg_r66.trans q70), (show fb (11 + 5 * j.toInt.toNat) = fb (10 + 5 * j.toInt.toNat + (1 : Int32).toInt.toNat) by congr 1; omega).trans (hg_r77.trans q81)⟩)) (by omega)
      · have q59_ : ¬ rt.toInt = (0 : Int32).toInt := fun q => q59 (Int32.toInt_inj.mp q)
        refine lv_aload_n hx hb hR_d62 rfl (lv_at hl 2 rfl) ?_
        refine lv_iload hx hb hR_d63 (lv_at hl 0 rfl) ?_
        refine lv_iconst hx hb hR_d65 (v := 0) (by decide) ?_
        refine y_call (z := (0, 99, 3, some 17, xM145)) (av := [.ref this, .int j, .int (0 : Int32)]) (rest := []) (y_cokV (n := 2) (ci := 12) X ym_ofHill rfl rfl rfl (x_cons (x_bw67 15 rfl rfl) (x_cons (x_bw68 1 rfl rfl) (x_cons (x_at 31 (by decide +kernel) rfl) (x_cons (x_bw0 9 rfl rfl) x_nilm)))) (x_bw68 2 rfl rfl) (by decide +kernel) ⟨Nat.le_of_ble_eq_true rfl, Nat.le_of_ble_eq_true rfl⟩) hY0 hI rfl hR_d66 hl.1 (Nat.le_of_ble_eq_true rfl) (Nat.le_of_ble_eq_true rfl) (Nat.le_of_ble_eq_true rfl) (y_cons (y_cref hY_this rfl) (y_cons ⟨_, rfl, by show (0 : Int) ≤ _; omega, by show _ ≤ (9 : Int); omega⟩ (y_cons ⟨_, rfl, by show (0 : Int) ≤ _; omega, by show _ ≤ (4 : Int); omega⟩ y_nil))) rfl (y_recv rfl hY_this) trivial (y_sub_ef rfl) fun v Yn o Hn L ho hr ha hIn hx_ hE hP => ?_
        have hPo := hP _ _ _ _ _ rfl hs_bk hA_bk
        replace hs_bk := y_Efld hE hY_this rfl (by decide) (by decide) hs_bk
        replace hA_bk := hA_bk.kept (y_Earr hE hY_bk rfl (by decide))
        replace hY_this := y_ext hx_ hI.1 hY_this
        replace hY_bk := y_ext hx_ hI.1 hY_bk
        obtain ⟨r66, hg_r66⟩ : ∃ r66 : Int32, fb (10 + 5 * (j).toInt.toNat + ((0 : Int32)).toInt.toNat) = r66 := ⟨_, rfl⟩
        rw [hg_r66] at hPo
        obtain rfl := hPo
        clear ho hr ha hE hP hI hx_
        rename x_I _ _ _ _ _ _ _ _ _ _ => hI
        refine lv_iload_n hx hb hR_d69 rfl (lv_at hl 3 rfl) ?_
        refine lv_icmp_ne hx hb hR_d70 (tgt := 84) (by decide) (fun q70 => ?_) (fun q70 => ?_)
        · have q70_ : ¬ r66.toInt = x.toInt := fun q => q70 (Int32.toInt_inj.mp q)
          refine lv_iconst hx hb hR_d84 (v := 1) (by decide) ?_
          have ec1 : (1 : Int32).toInt = 1 := by decide
          refine lv_goto hx hb hR_d85 (tgt := 89) (by decide) ?_
          refine lv_istore hx hb hR_d89 hl (by decide) (lv' := [(4, .int (1 : Int32)), (5, .int j), (0, .ref this), (1, .int x), (2, .int y), (3, .int h)]) rfl fun ls hl => ?_
          obtain ⟨z91, hg_z91⟩ : ∃ z91 : Int32, j + Int32.ofInt 1 = z91 := ⟨_, rfl⟩
          have h_z91 : z91.toInt = j.toInt + 1 := by rw [← hg_z91]; exact y_inc (by decide) (by omega) (by omega)
          refine lv_iinc hx hb hR_d91 hl (k := 1) rfl hg_z91 (by decide) (lv' := [(5, .int z91), (4, .int (1 : Int32)), (0, .ref this), (1, .int x), (2, .int y), (3, .int h)]) rfl fun ls hl => ?_
          refine lv_goto hx hb hR_d94 (tgt := 46) (by decide) ?_
          exact ih _ _ _ _ _ _ hI hY_this hY_bk hs_bk hA_bk (lv_sub hl [0, 1, 2, 3, 4, 5] rfl) (by first | assumption | omega) (by first | assumption | omega) (fun q9 => by first | exact absurd q9 (by omega) | (refine ⟨(hr1 (by omega)).1, fun i hi => ?_⟩; by_cases ei : (i : Int) = j.toInt; (intro q8; have ej : i = j.toInt.toNat := (by omega); subst ej; first | exact q70 (hg_r66.symm.trans (by rw [← q8.1]; congr 1)) | exact q81 (hg_r77.symm.trans (by rw [← q8.2]; congr 1; omega))); exact (hr1 (by omega)).2 i (by omega))) (fun q9 => by first | exact absurd q9 (by omega) | exact hr0 (by omega) | (intro q8; exact q8.2 j.toInt.toNat (by omega) ⟨(show fb (10 + 5 * j.toInt.toNat) = fb (10 + 5 * j.toInt.toNat + (0 : Int32).toInt.toNat) from rfl).trans (hg_r66.trans q70), (show fb (11 + 5 * j.toInt.toNat) = fb (10 + 5 * j.toInt.toNat + (1 : Int32).toInt.toNat) by congr 1; omega).trans (hg_r77.trans q81)⟩)) (by omega)
        · have q70_ : r66.toInt = x.toInt := by rw [q70]
          refine lv_aload_n hx hb hR_d73 rfl (lv_at hl 2 rfl) ?_
          refine lv_iload hx hb hR_d74 (lv_at hl 0 rfl) ?_
          refine lv_iconst hx hb hR_d76 (v := 1) (by decide) ?_
          have ec1 : (1 : Int32).toInt = 1 := by decide
          refine y_call (z := (0, 99, 3, some 17, xM145)) (av := [.ref this, .int j, .int (1 : Int32)]) (rest := []) (y_cokV (n := 2) (ci := 12) X ym_ofHill rfl rfl rfl (x_cons (x_bw67 15 rfl rfl) (x_cons (x_bw68 1 rfl rfl) (x_cons (x_at 31 (by decide +kernel) rfl) (x_cons (x_bw0 9 rfl rfl) x_nilm)))) (x_bw68 2 rfl rfl) (by decide +kernel) ⟨Nat.le_of_ble_eq_true rfl, Nat.le_of_ble_eq_true rfl⟩) hY0 hI rfl hR_d77 hl.1 (Nat.le_of_ble_eq_true rfl) (Nat.le_of_ble_eq_true rfl) (Nat.le_of_ble_eq_true rfl) (y_cons (y_cref hY_this rfl) (y_cons ⟨_, rfl, by show (0 : Int) ≤ _; omega, by show _ ≤ (9 : Int); omega⟩ (y_cons ⟨_, rfl, by show (0 : Int) ≤ _; omega, by show _ ≤ (4 : Int); omega⟩ y_nil))) rfl (y_recv rfl hY_this) trivial (y_sub_ef rfl) fun v Yn o Hn L ho hr ha hIn hx_ hE hP => ?_
          have hPo := hP _ _ _ _ _ rfl hs_bk hA_bk
          replace hs_bk := y_Efld hE hY_this rfl (by decide) (by decide) hs_bk
          replace hA_bk := hA_bk.kept (y_Earr hE hY_bk rfl (by decide))
          replace hY_this := y_ext hx_ hI.1 hY_this
          replace hY_bk := y_ext hx_ hI.1 hY_bk
          obtain ⟨r77, hg_r77⟩ : ∃ r77 : Int32, fb (10 + 5 * (j).toInt.toNat + ((1 : Int32)).toInt.toNat) = r77 := ⟨_, rfl⟩
          rw [hg_r77] at hPo
          obtain rfl := hPo
          clear ho hr ha hE hP hI hx_
          rename x_I _ _ _ _ _ _ _ _ _ _ => hI
          refine lv_iload_n hx hb hR_d80 rfl (lv_at hl 4 rfl) ?_
          refine lv_icmp_eq hx hb hR_d81 (tgt := 88) (by decide) (fun q81 => ?_) (fun q81 => ?_)
          · have q81_ : r77.toInt = y.toInt := by rw [q81]
            refine lv_iconst hx hb hR_d88 (v := 0) (by decide) ?_
            refine lv_istore hx hb hR_d89 hl (by decide) (lv' := [(4, .int (0 : Int32)), (5, .int j), (0, .ref this), (1, .int x), (2, .int y), (3, .int h)]) rfl fun ls hl => ?_
            obtain ⟨z91, hg_z91⟩ : ∃ z91 : Int32, j + Int32.ofInt 1 = z91 := ⟨_, rfl⟩
            have h_z91 : z91.toInt = j.toInt + 1 := by rw [← hg_z91]; exact y_inc (by decide) (by omega) (by omega)
            refine lv_iinc hx hb hR_d91 hl (k := 1) rfl hg_z91 (by decide) (lv' := [(5, .int z91), (4, .int (0 : Int32)), (0, .ref this), (1, .int x), (2, .int y), (3, .int h)]) rfl fun ls hl => ?_
            refine lv_goto hx hb hR_d94 (tgt := 46) (by decide) ?_
            exact ih _ _ _ _ _ _ hI hY_this hY_bk hs_bk hA_bk (lv_sub hl [0, 1, 2, 3, 4, 5] rfl) (by first | assumption | omega) (by first | assumption | omega) (fun q9 => by first | exact absurd q9 (by omega) | (refine ⟨(hr1 (by omega)).1, fun i hi => ?_⟩; by_cases ei : (i : Int) = j.toInt; (intro q8; have ej : i = j.toInt.toNat := (by omega); subst ej; first | exact q70 (hg_r66.symm.trans (by rw [← q8.1]; congr 1)) | exact q81 (hg_r77.symm.trans (by rw [← q8.2]; congr 1; omega))); exact (hr1 (by omega)).2 i (by omega))) (fun q9 => by first | exact absurd q9 (by omega) | exact hr0 (by omega) | (intro q8; exact q8.2 j.toInt.toNat (by omega) ⟨(show fb (10 + 5 * j.toInt.toNat) = fb (10 + 5 * j.toInt.toNat + (0 : Int32).toInt.toNat) from rfl).trans (hg_r66.trans q70), (show fb (11 + 5 * j.toInt.toNat) = fb (10 + 5 * j.toInt.toNat + (1 : Int32).toInt.toNat) by congr 1; omega).trans (hg_r77.trans q81)⟩)) (by omega)
          · have q81_ : ¬ r77.toInt = y.toInt := fun q => q81 (Int32.toInt_inj.mp q)
            refine lv_iconst hx hb hR_d84 (v := 1) (by decide) ?_
            refine lv_goto hx hb hR_d85 (tgt := 89) (by decide) ?_
            refine lv_istore hx hb hR_d89 hl (by decide) (lv' := [(4, .int (1 : Int32)), (5, .int j), (0, .ref this), (1, .int x), (2, .int y), (3, .int h)]) rfl fun ls hl => ?_
            obtain ⟨z91, hg_z91⟩ : ∃ z91 : Int32, j + Int32.ofInt 1 = z91 := ⟨_, rfl⟩
            have h_z91 : z91.toInt = j.toInt + 1 := by rw [← hg_z91]; exact y_inc (by decide) (by omega) (by omega)
            refine lv_iinc hx hb hR_d91 hl (k := 1) rfl hg_z91 (by decide) (lv' := [(5, .int z91), (4, .int (1 : Int32)), (0, .ref this), (1, .int x), (2, .int y), (3, .int h)]) rfl fun ls hl => ?_
            refine lv_goto hx hb hR_d94 (tgt := 46) (by decide) ?_
            exact ih _ _ _ _ _ _ hI hY_this hY_bk hs_bk hA_bk (lv_sub hl [0, 1, 2, 3, 4, 5] rfl) (by first | assumption | omega) (by first | assumption | omega) (fun q9 => by first | exact absurd q9 (by omega) | (refine ⟨(hr1 (by omega)).1, fun i hi => ?_⟩; by_cases ei : (i : Int) = j.toInt; (intro q8; have ej : i = j.toInt.toNat := (by omega); subst ej; first | exact q70 (hg_r66.symm.trans (by rw [← q8.1]; congr 1)) | exact q81 (hg_r77.symm.trans (by rw [← q8.2]; congr 1; omega))); exact (hr1 (by omega)).2 i (by omega))) (fun q9 => by first | exact absurd q9 (by omega) | exact hr0 (by omega) | (intro q8; exact q8.2 j.toInt.toNat (by omega) ⟨(show fb (10 + 5 * j.toInt.toNat) = fb (10 + 5 * j.toInt.toNat + (0 : Int32).toInt.toNat) from rfl).trans (hg_r66.trans q70), (show fb (11 + 5 * j.toInt.toNat) = fb (10 + 5 * j.toInt.toNat + (1 : Int32).toInt.toNat) by congr 1; omega).trans (hg_r77.trans q81)⟩)) (by omega)
theorem ym_mhill : y_Met vwCl x_G x_Zs x_Tb x_Nb xM147 y_T z_Phi := by
  refine y_main (by decide +kernel) (by decide +kernel) x_Tb_good x_Nb_ok ?_
  intro p l e s m below meth c D U Y0 av ls B hI _ hl
  have X := B.1
  have hx := X.1
  have hb := X.2.1
  have hY0 := B.2.2.2.2.1
  obtain ⟨v0, v1, v2, v3, rfl, hv0, ⟨x, rfl, -⟩, ⟨y, rfl, -⟩, ⟨h, rfl, -⟩⟩ := y_four B.2.2.2.2.2
  obtain ⟨this, t0, rfl, ht0, hY_this⟩ := x_ref_at hv0 rfl
  obtain rfl := List.mem_singleton.mp ht0
  replace hl : lv_has ls xM147.2.2.1 [(0, .ref this), (1, .int x), (2, .int y), (3, .int h)] := hl
  obtain ⟨bk, hs_bk, hY_bk⟩ := y_fldR (k := 0) hI.1 hY_this rfl rfl
  obtain ⟨fb9, hA9, hB9⟩ := y_arr hI.1 hY_bk rfl rfl
  obtain ⟨fb, hcn, hA_bk, hB_bk⟩ := z_canon (Y := Y0) (P := fun j v => x_c Y0 ([xI 0 10, xI 0 8, xI 0 8].getD j xF) (.int v)) hA9 hB9
  clear hA9 hB9 fb9
  have hs0 := hs_bk
  have hA0 := hA_bk
  have hd := z_hdr hB_bk
  have hd0 := hd.1
  have hd1 := hd.2.1
  refine lv_iload_n hx hb hR_d0 rfl (lv_at hl 1 rfl) ?_
  obtain ⟨z1, hg_z1⟩ : ∃ z1 : Int64, x.toInt64 = z1 := ⟨_, rfl⟩
  have h_z1 : z1.toInt = (x).toInt := by rw [← hg_z1]; exact Int32.toInt_toInt64 _
  refine lv_i2l hx hb hR_d1 (v := z1) hg_z1 ?_
  refine lv_lconst hx hb hR_d2 (v := 0) (by decide) ?_
  have el0 : (0 : Int64).toInt = 0 := by decide
  refine lv_ldc2 hx hb X.2.2.2.1 (v := 19) (X.2.2.2.2.1 _ (x_bw67 10 rfl rfl)) hR_d3 ?_
  have el19 : (19 : Int64).toInt = 19 := by decide
  refine y_call (z := (1, 87, 3, none, xM148)) (av := [.long z1, .long (0 : Int64), .long (19 : Int64)]) (rest := []) (y_cokS (n := 3) X ym_in (x_cons (x_bw67 11 rfl rfl) (x_cons (x_bw67 12 rfl rfl) (x_cons (x_bw0 9 rfl rfl) x_nilm))) (x_bw67 13 rfl rfl) (by decide +kernel) ⟨Nat.le_of_ble_eq_true rfl, Nat.le_of_ble_eq_true rfl⟩) hY0 hI rfl hR_d6 hl.1 (Nat.le_of_ble_eq_true rfl) (Nat.le_of_ble_eq_true rfl) (Nat.le_of_ble_eq_true rfl) (y_cons ⟨_, rfl, x_i64 _⟩ (y_cons ⟨_, rfl, x_i64 _⟩ (y_cons ⟨_, rfl, x_i64 _⟩ y_nil))) rfl (y_norecv rfl) trivial (y_sub_ef rfl) fun v Yn o Hn L ho hr ha hIn hx_ hE hP => ?_
  replace hs_bk := y_Efld hE hY_this rfl (by decide) (by decide) hs_bk
  replace hA_bk := hA_bk.kept (y_Earr hE hY_bk rfl (by decide))
  replace hY_this := y_ext hx_ hI.1 hY_this
  replace hY_bk := y_ext hx_ hI.1 hY_bk
  obtain ⟨r6, rfl, hin_r6, hout_r6⟩ := z_inR2 (hP _ _ _ rfl)
  clear ho hr ha hE hP hI hx_
  rename x_I _ _ _ _ _ _ _ _ _ _ => hI
  have ec0 : (0 : Int32).toInt = 0 := by decide
  refine lv_if_eq hx hb hR_d9 (tgt := 40) (by decide) (fun q9 => ?_) (fun q9 => ?_)
  · have q9_ : r6.toInt = (0 : Int32).toInt := by rw [q9]
    refine lv_iconst hx hb hR_d40 (v := 0) (by decide) ?_
    refine lv_istore hx hb hR_d41 hl (by decide) (lv' := [(4, .int (0 : Int32)), (0, .ref this), (1, .int x), (2, .int y), (3, .int h)]) rfl fun ls hl => ?_
    refine lv_iconst hx hb hR_d43 (v := 0) (by decide) ?_
    refine lv_istore hx hb hR_d44 hl (by decide) (lv' := [(5, .int (0 : Int32)), (4, .int (0 : Int32)), (0, .ref this), (1, .int x), (2, .int y), (3, .int h)]) rfl fun ls hl => ?_
    exact hR_L46 B rfl hs0 hA0 hd0 hcn 12 _ _ _ _ _ _ hI hY_this hY_bk hs_bk hA_bk (lv_sub hl [0, 1, 2, 3, 4, 5] rfl) (by first | assumption | omega) (by first | assumption | omega) (fun q9 => by first | exact absurd q9 (by decide) | exact ⟨⟨by have := hin_r6 (by assumption); omega, by have := hin_r18 (by assumption); omega, by have := hin_r30 (by assumption); omega⟩, fun i hi => absurd hi (by omega)⟩) (fun q9 => by first | exact absurd q9 (by decide) | (intro q8; obtain ⟨⟨a1, a2, a3⟩, -⟩ := q8; first | (have := hout_r30 (by assumption); omega) | (have := hout_r18 (by assumption); omega) | (have := hout_r6 (by assumption); omega))) (by omega)
  · have q9_ : ¬ r6.toInt = (0 : Int32).toInt := fun q => q9 (Int32.toInt_inj.mp q)
    refine lv_iload_n hx hb hR_d12 rfl (lv_at hl 2 rfl) ?_
    obtain ⟨z13, hg_z13⟩ : ∃ z13 : Int64, y.toInt64 = z13 := ⟨_, rfl⟩
    have h_z13 : z13.toInt = (y).toInt := by rw [← hg_z13]; exact Int32.toInt_toInt64 _
    refine lv_i2l hx hb hR_d13 (v := z13) hg_z13 ?_
    refine lv_lconst hx hb hR_d14 (v := 0) (by decide) ?_
    have el0 : (0 : Int64).toInt = 0 := by decide
    refine lv_ldc2 hx hb X.2.2.2.1 (v := 19) (X.2.2.2.2.1 _ (x_bw67 10 rfl rfl)) hR_d15 ?_
    have el19 : (19 : Int64).toInt = 19 := by decide
    refine y_call (z := (1, 87, 3, none, xM148)) (av := [.long z13, .long (0 : Int64), .long (19 : Int64)]) (rest := []) (y_cokS (n := 3) X ym_in (x_cons (x_bw67 11 rfl rfl) (x_cons (x_bw67 12 rfl rfl) (x_cons (x_bw0 9 rfl rfl) x_nilm))) (x_bw67 13 rfl rfl) (by decide +kernel) ⟨Nat.le_of_ble_eq_true rfl, Nat.le_of_ble_eq_true rfl⟩) hY0 hI rfl hR_d18 hl.1 (Nat.le_of_ble_eq_true rfl) (Nat.le_of_ble_eq_true rfl) (Nat.le_of_ble_eq_true rfl) (y_cons ⟨_, rfl, x_i64 _⟩ (y_cons ⟨_, rfl, x_i64 _⟩ (y_cons ⟨_, rfl, x_i64 _⟩ y_nil))) rfl (y_norecv rfl) trivial (y_sub_ef rfl) fun v Yn o Hn L ho hr ha hIn hx_ hE hP => ?_
    replace hs_bk := y_Efld hE hY_this rfl (by decide) (by decide) hs_bk
    replace hA_bk := hA_bk.kept (y_Earr hE hY_bk rfl (by decide))
    replace hY_this := y_ext hx_ hI.1 hY_this
    replace hY_bk := y_ext hx_ hI.1 hY_bk
    obtain ⟨r18, rfl, hin_r18, hout_r18⟩ := z_inR2 (hP _ _ _ rfl)
    clear ho hr ha hE hP hI hx_
    rename x_I _ _ _ _ _ _ _ _ _ _ => hI
    refine lv_if_eq hx hb hR_d21 (tgt := 40) (by decide) (fun q21 => ?_) (fun q21 => ?_)
    · have q21_ : r18.toInt = (0 : Int32).toInt := by rw [q21]
      refine lv_iconst hx hb hR_d40 (v := 0) (by decide) ?_
      refine lv_istore hx hb hR_d41 hl (by decide) (lv' := [(4, .int (0 : Int32)), (0, .ref this), (1, .int x), (2, .int y), (3, .int h)]) rfl fun ls hl => ?_
      refine lv_iconst hx hb hR_d43 (v := 0) (by decide) ?_
      refine lv_istore hx hb hR_d44 hl (by decide) (lv' := [(5, .int (0 : Int32)), (4, .int (0 : Int32)), (0, .ref this), (1, .int x), (2, .int y), (3, .int h)]) rfl fun ls hl => ?_
      exact hR_L46 B rfl hs0 hA0 hd0 hcn 12 _ _ _ _ _ _ hI hY_this hY_bk hs_bk hA_bk (lv_sub hl [0, 1, 2, 3, 4, 5] rfl) (by first | assumption | omega) (by first | assumption | omega) (fun q9 => by first | exact absurd q9 (by decide) | exact ⟨⟨by have := hin_r6 (by assumption); omega, by have := hin_r18 (by assumption); omega, by have := hin_r30 (by assumption); omega⟩, fun i hi => absurd hi (by omega)⟩) (fun q9 => by first | exact absurd q9 (by decide) | (intro q8; obtain ⟨⟨a1, a2, a3⟩, -⟩ := q8; first | (have := hout_r30 (by assumption); omega) | (have := hout_r18 (by assumption); omega) | (have := hout_r6 (by assumption); omega))) (by omega)
    · have q21_ : ¬ r18.toInt = (0 : Int32).toInt := fun q => q21 (Int32.toInt_inj.mp q)
      refine lv_iload_n hx hb hR_d24 rfl (lv_at hl 3 rfl) ?_
      obtain ⟨z25, hg_z25⟩ : ∃ z25 : Int64, h.toInt64 = z25 := ⟨_, rfl⟩
      have h_z25 : z25.toInt = (h).toInt := by rw [← hg_z25]; exact Int32.toInt_toInt64 _
      refine lv_i2l hx hb hR_d25 (v := z25) hg_z25 ?_
      refine lv_lconst hx hb hR_d26 (v := 0) (by decide) ?_
      have el0 : (0 : Int64).toInt = 0 := by decide
      refine lv_ldc2 hx hb X.2.2.2.1 (v := 99) (X.2.2.2.2.1 _ (x_bw67 14 rfl rfl)) hR_d27 ?_
      have el99 : (99 : Int64).toInt = 99 := by decide
      refine y_call (z := (1, 87, 3, none, xM148)) (av := [.long z25, .long (0 : Int64), .long (99 : Int64)]) (rest := []) (y_cokS (n := 3) X ym_in (x_cons (x_bw67 11 rfl rfl) (x_cons (x_bw67 12 rfl rfl) (x_cons (x_bw0 9 rfl rfl) x_nilm))) (x_bw67 13 rfl rfl) (by decide +kernel) ⟨Nat.le_of_ble_eq_true rfl, Nat.le_of_ble_eq_true rfl⟩) hY0 hI rfl hR_d30 hl.1 (Nat.le_of_ble_eq_true rfl) (Nat.le_of_ble_eq_true rfl) (Nat.le_of_ble_eq_true rfl) (y_cons ⟨_, rfl, x_i64 _⟩ (y_cons ⟨_, rfl, x_i64 _⟩ (y_cons ⟨_, rfl, x_i64 _⟩ y_nil))) rfl (y_norecv rfl) trivial (y_sub_ef rfl) fun v Yn o Hn L ho hr ha hIn hx_ hE hP => ?_
      replace hs_bk := y_Efld hE hY_this rfl (by decide) (by decide) hs_bk
      replace hA_bk := hA_bk.kept (y_Earr hE hY_bk rfl (by decide))
      replace hY_this := y_ext hx_ hI.1 hY_this
      replace hY_bk := y_ext hx_ hI.1 hY_bk
      obtain ⟨r30, rfl, hin_r30, hout_r30⟩ := z_inR2 (hP _ _ _ rfl)
      clear ho hr ha hE hP hI hx_
      rename x_I _ _ _ _ _ _ _ _ _ _ => hI
      refine lv_if_eq hx hb hR_d33 (tgt := 40) (by decide) (fun q33 => ?_) (fun q33 => ?_)
      · have q33_ : r30.toInt = (0 : Int32).toInt := by rw [q33]
        refine lv_iconst hx hb hR_d40 (v := 0) (by decide) ?_
        refine lv_istore hx hb hR_d41 hl (by decide) (lv' := [(4, .int (0 : Int32)), (0, .ref this), (1, .int x), (2, .int y), (3, .int h)]) rfl fun ls hl => ?_
        refine lv_iconst hx hb hR_d43 (v := 0) (by decide) ?_
        refine lv_istore hx hb hR_d44 hl (by decide) (lv' := [(5, .int (0 : Int32)), (4, .int (0 : Int32)), (0, .ref this), (1, .int x), (2, .int y), (3, .int h)]) rfl fun ls hl => ?_
        exact hR_L46 B rfl hs0 hA0 hd0 hcn 12 _ _ _ _ _ _ hI hY_this hY_bk hs_bk hA_bk (lv_sub hl [0, 1, 2, 3, 4, 5] rfl) (by first | assumption | omega) (by first | assumption | omega) (fun q9 => by first | exact absurd q9 (by decide) | exact ⟨⟨by have := hin_r6 (by assumption); omega, by have := hin_r18 (by assumption); omega, by have := hin_r30 (by assumption); omega⟩, fun i hi => absurd hi (by omega)⟩) (fun q9 => by first | exact absurd q9 (by decide) | (intro q8; obtain ⟨⟨a1, a2, a3⟩, -⟩ := q8; first | (have := hout_r30 (by assumption); omega) | (have := hout_r18 (by assumption); omega) | (have := hout_r6 (by assumption); omega))) (by omega)
      · have q33_ : ¬ r30.toInt = (0 : Int32).toInt := fun q => q33 (Int32.toInt_inj.mp q)
        refine lv_iconst hx hb hR_d36 (v := 1) (by decide) ?_
        have ec1 : (1 : Int32).toInt = 1 := by decide
        refine lv_goto hx hb hR_d37 (tgt := 41) (by decide) ?_
        refine lv_istore hx hb hR_d41 hl (by decide) (lv' := [(4, .int (1 : Int32)), (0, .ref this), (1, .int x), (2, .int y), (3, .int h)]) rfl fun ls hl => ?_
        refine lv_iconst hx hb hR_d43 (v := 0) (by decide) ?_
        refine lv_istore hx hb hR_d44 hl (by decide) (lv' := [(5, .int (0 : Int32)), (4, .int (1 : Int32)), (0, .ref this), (1, .int x), (2, .int y), (3, .int h)]) rfl fun ls hl => ?_
        exact hR_L46 B rfl hs0 hA0 hd0 hcn 12 _ _ _ _ _ _ hI hY_this hY_bk hs_bk hA_bk (lv_sub hl [0, 1, 2, 3, 4, 5] rfl) (by first | assumption | omega) (by first | assumption | omega) (fun q9 => by first | exact absurd q9 (by decide) | exact ⟨⟨by have := hin_r6 (by assumption); omega, by have := hin_r18 (by assumption); omega, by have := hin_r30 (by assumption); omega⟩, fun i hi => absurd hi (by omega)⟩) (fun q9 => by first | exact absurd q9 (by decide) | (intro q8; obtain ⟨⟨a1, a2, a3⟩, -⟩ := q8; first | (have := hout_r30 (by assumption); omega) | (have := hout_r18 (by assumption); omega) | (have := hout_r6 (by assumption); omega))) (by omega)
theorem y_six {Y : xY} {t u w x y z : xV} {av : List Value} (h : x_cs Y [t, u, w, x, y, z] av) : ∃ a b c d e g, av = [a, b, c, d, e, g] ∧ x_c Y t a ∧ x_c Y u b ∧ x_c Y w c ∧ x_c Y x d ∧ x_c Y y e ∧ x_c Y z g := by
  obtain ⟨h1, h2⟩ := h
  match av, h1 with
  | [a, b, c, d, e, g], _ => exact ⟨a, b, c, d, e, g, rfl, h2 0 t a rfl rfl, h2 1 u b rfl rfl, h2 2 w c rfl rfl, h2 3 x d rfl rfl, h2 4 y e rfl rfl, h2 5 z g rfl rfl⟩
def z_Pth : yP := fun D av _ H v _ H' => ∀ (this bk : Nat) (k x y h g : Int32) (f : Nat → Int32), av = [.ref this, .int k, .int x, .int y, .int h, .int g] → x_sl D 12 0 this H = some (.ref bk) → z_c f → y_A bk 160 H f → ∃ (r : Int32) (f' : Nat → Int32), v = some (.int r) ∧ y_A bk 160 H' f' ∧ m_thing f k x y h g r f'
theorem tR_d0 : decode xM152.2.1 0 = .ok (.iload_n 1, 1) := dz_ok (by decide +kernel)
theorem tR_d1 : decode xM152.2.1 1 = .ok (.ifCond .eq 8, 3) := dz_ok (by decide +kernel)
theorem tR_d4 : decode xM152.2.1 4 = .ok (.iload_n 1, 1) := dz_ok (by decide +kernel)
theorem tR_d5 : decode xM152.2.1 5 = .ok (.iconst 5, 1) := dz_ok (by decide +kernel)
theorem tR_d6 : decode xM152.2.1 6 = .ok (.if_icmp .ne 7, 3) := dz_ok (by decide +kernel)
theorem tR_d9 : decode xM152.2.1 9 = .ok (.iconst 1, 1) := dz_ok (by decide +kernel)
theorem tR_d10 : decode xM152.2.1 10 = .ok (.goto 4, 3) := dz_ok (by decide +kernel)
theorem tR_d13 : decode xM152.2.1 13 = .ok (.iconst 0, 1) := dz_ok (by decide +kernel)
theorem tR_d14 : decode xM152.2.1 14 = .ok (.istore 6, 2) := dz_ok (by decide +kernel)
theorem tR_d16 : decode xM152.2.1 16 = .ok (.iload_n 1, 1) := dz_ok (by decide +kernel)
theorem tR_d17 : decode xM152.2.1 17 = .ok (.i2l, 1) := dz_ok (by decide +kernel)
theorem tR_d18 : decode xM152.2.1 18 = .ok (.lconst 0, 1) := dz_ok (by decide +kernel)
theorem tR_d19 : decode xM152.2.1 19 = .ok (.ldc2_w 108, 3) := dz_ok (by decide +kernel)
theorem tR_d22 : decode xM152.2.1 22 = .ok (.invokestatic 87, 3) := dz_ok (by decide +kernel)
theorem tR_d25 : decode xM152.2.1 25 = .ok (.ifCond .eq 62, 3) := dz_ok (by decide +kernel)
theorem tR_d28 : decode xM152.2.1 28 = .ok (.iload_n 2, 1) := dz_ok (by decide +kernel)
theorem tR_d29 : decode xM152.2.1 29 = .ok (.i2l, 1) := dz_ok (by decide +kernel)
theorem tR_d30 : decode xM152.2.1 30 = .ok (.lconst 0, 1) := dz_ok (by decide +kernel)
theorem tR_d31 : decode xM152.2.1 31 = .ok (.ldc2_w 95, 3) := dz_ok (by decide +kernel)
theorem tR_d34 : decode xM152.2.1 34 = .ok (.invokestatic 87, 3) := dz_ok (by decide +kernel)
theorem tR_d37 : decode xM152.2.1 37 = .ok (.ifCond .eq 50, 3) := dz_ok (by decide +kernel)
theorem tR_d40 : decode xM152.2.1 40 = .ok (.iload_n 3, 1) := dz_ok (by decide +kernel)
theorem tR_d41 : decode xM152.2.1 41 = .ok (.i2l, 1) := dz_ok (by decide +kernel)
theorem tR_d42 : decode xM152.2.1 42 = .ok (.lconst 0, 1) := dz_ok (by decide +kernel)
theorem tR_d43 : decode xM152.2.1 43 = .ok (.ldc2_w 95, 3) := dz_ok (by decide +kernel)
theorem tR_d46 : decode xM152.2.1 46 = .ok (.invokestatic 87, 3) := dz_ok (by decide +kernel)
theorem tR_d49 : decode xM152.2.1 49 = .ok (.ifCond .eq 38, 3) := dz_ok (by decide +kernel)
theorem tR_d52 : decode xM152.2.1 52 = .ok (.iload 4, 2) := dz_ok (by decide +kernel)
theorem tR_d54 : decode xM152.2.1 54 = .ok (.i2l, 1) := dz_ok (by decide +kernel)
theorem tR_d55 : decode xM152.2.1 55 = .ok (.lconst 0, 1) := dz_ok (by decide +kernel)
theorem tR_d56 : decode xM152.2.1 56 = .ok (.ldc2_w 97, 3) := dz_ok (by decide +kernel)
theorem tR_d59 : decode xM152.2.1 59 = .ok (.invokestatic 87, 3) := dz_ok (by decide +kernel)
theorem tR_d62 : decode xM152.2.1 62 = .ok (.ifCond .eq 25, 3) := dz_ok (by decide +kernel)
theorem tR_d65 : decode xM152.2.1 65 = .ok (.iload 5, 2) := dz_ok (by decide +kernel)
theorem tR_d67 : decode xM152.2.1 67 = .ok (.i2l, 1) := dz_ok (by decide +kernel)
theorem tR_d68 : decode xM152.2.1 68 = .ok (.lconst 0, 1) := dz_ok (by decide +kernel)
theorem tR_d69 : decode xM152.2.1 69 = .ok (.iload 6, 2) := dz_ok (by decide +kernel)
theorem tR_d71 : decode xM152.2.1 71 = .ok (.ifCond .eq 7, 3) := dz_ok (by decide +kernel)
theorem tR_d74 : decode xM152.2.1 74 = .ok (.lconst 0, 1) := dz_ok (by decide +kernel)
theorem tR_d75 : decode xM152.2.1 75 = .ok (.goto 6, 3) := dz_ok (by decide +kernel)
theorem tR_d78 : decode xM152.2.1 78 = .ok (.ldc2_w 110, 3) := dz_ok (by decide +kernel)
theorem tR_d81 : decode xM152.2.1 81 = .ok (.invokestatic 87, 3) := dz_ok (by decide +kernel)
theorem tR_d84 : decode xM152.2.1 84 = .ok (.ifCond .ne 8, 3) := dz_ok (by decide +kernel)
theorem tR_d87 : decode xM152.2.1 87 = .ok (.aload_n 0, 1) := dz_ok (by decide +kernel)
theorem tR_d88 : decode xM152.2.1 88 = .ok (.invokevirtual 102, 3) := dz_ok (by decide +kernel)
theorem tR_d91 : decode xM152.2.1 91 = .ok (.ireturn, 1) := dz_ok (by decide +kernel)
theorem tR_d92 : decode xM152.2.1 92 = .ok (.aload_n 0, 1) := dz_ok (by decide +kernel)
theorem tR_d93 : decode xM152.2.1 93 = .ok (.getfield 7, 3) := dz_ok (by decide +kernel)
theorem tR_d96 : decode xM152.2.1 96 = .ok (.iconst 1, 1) := dz_ok (by decide +kernel)
theorem tR_d97 : decode xM152.2.1 97 = .ok (.iaload, 1) := dz_ok (by decide +kernel)
theorem tR_d98 : decode xM152.2.1 98 = .ok (.bipush 8, 2) := dz_ok (by decide +kernel)
theorem tR_d100 : decode xM152.2.1 100 = .ok (.if_icmp .ne 8, 3) := dz_ok (by decide +kernel)
theorem tR_d103 : decode xM152.2.1 103 = .ok (.aload_n 0, 1) := dz_ok (by decide +kernel)
theorem tR_d104 : decode xM152.2.1 104 = .ok (.invokevirtual 105, 3) := dz_ok (by decide +kernel)
theorem tR_d107 : decode xM152.2.1 107 = .ok (.ireturn, 1) := dz_ok (by decide +kernel)
theorem tR_d108 : decode xM152.2.1 108 = .ok (.bipush 60, 2) := dz_ok (by decide +kernel)
theorem tR_d110 : decode xM152.2.1 110 = .ok (.bipush 7, 2) := dz_ok (by decide +kernel)
theorem tR_d112 : decode xM152.2.1 112 = .ok (.aload_n 0, 1) := dz_ok (by decide +kernel)
theorem tR_d113 : decode xM152.2.1 113 = .ok (.getfield 7, 3) := dz_ok (by decide +kernel)
theorem tR_d116 : decode xM152.2.1 116 = .ok (.iconst 1, 1) := dz_ok (by decide +kernel)
theorem tR_d117 : decode xM152.2.1 117 = .ok (.iaload, 1) := dz_ok (by decide +kernel)
theorem tR_d118 : decode xM152.2.1 118 = .ok (.imul, 1) := dz_ok (by decide +kernel)
theorem tR_d119 : decode xM152.2.1 119 = .ok (.iadd, 1) := dz_ok (by decide +kernel)
theorem tR_d120 : decode xM152.2.1 120 = .ok (.istore 7, 2) := dz_ok (by decide +kernel)
theorem tR_d122 : decode xM152.2.1 122 = .ok (.aload_n 0, 1) := dz_ok (by decide +kernel)
theorem tR_d123 : decode xM152.2.1 123 = .ok (.getfield 7, 3) := dz_ok (by decide +kernel)
theorem tR_d126 : decode xM152.2.1 126 = .ok (.iload 7, 2) := dz_ok (by decide +kernel)
theorem tR_d128 : decode xM152.2.1 128 = .ok (.iload_n 1, 1) := dz_ok (by decide +kernel)
theorem tR_d129 : decode xM152.2.1 129 = .ok (.iastore, 1) := dz_ok (by decide +kernel)
theorem tR_d130 : decode xM152.2.1 130 = .ok (.aload_n 0, 1) := dz_ok (by decide +kernel)
theorem tR_d131 : decode xM152.2.1 131 = .ok (.getfield 7, 3) := dz_ok (by decide +kernel)
theorem tR_d134 : decode xM152.2.1 134 = .ok (.iload 7, 2) := dz_ok (by decide +kernel)
theorem tR_d136 : decode xM152.2.1 136 = .ok (.iconst 1, 1) := dz_ok (by decide +kernel)
theorem tR_d137 : decode xM152.2.1 137 = .ok (.iadd, 1) := dz_ok (by decide +kernel)
theorem tR_d138 : decode xM152.2.1 138 = .ok (.iload_n 2, 1) := dz_ok (by decide +kernel)
theorem tR_d139 : decode xM152.2.1 139 = .ok (.iastore, 1) := dz_ok (by decide +kernel)
theorem tR_d140 : decode xM152.2.1 140 = .ok (.aload_n 0, 1) := dz_ok (by decide +kernel)
theorem tR_d141 : decode xM152.2.1 141 = .ok (.getfield 7, 3) := dz_ok (by decide +kernel)
theorem tR_d144 : decode xM152.2.1 144 = .ok (.iload 7, 2) := dz_ok (by decide +kernel)
theorem tR_d146 : decode xM152.2.1 146 = .ok (.iconst 2, 1) := dz_ok (by decide +kernel)
theorem tR_d147 : decode xM152.2.1 147 = .ok (.iadd, 1) := dz_ok (by decide +kernel)
theorem tR_d148 : decode xM152.2.1 148 = .ok (.iload_n 3, 1) := dz_ok (by decide +kernel)
theorem tR_d149 : decode xM152.2.1 149 = .ok (.iastore, 1) := dz_ok (by decide +kernel)
theorem tR_d150 : decode xM152.2.1 150 = .ok (.aload_n 0, 1) := dz_ok (by decide +kernel)
theorem tR_d151 : decode xM152.2.1 151 = .ok (.getfield 7, 3) := dz_ok (by decide +kernel)
theorem tR_d154 : decode xM152.2.1 154 = .ok (.iload 7, 2) := dz_ok (by decide +kernel)
theorem tR_d156 : decode xM152.2.1 156 = .ok (.iconst 3, 1) := dz_ok (by decide +kernel)
theorem tR_d157 : decode xM152.2.1 157 = .ok (.iadd, 1) := dz_ok (by decide +kernel)
theorem tR_d158 : decode xM152.2.1 158 = .ok (.iload 4, 2) := dz_ok (by decide +kernel)
theorem tR_d160 : decode xM152.2.1 160 = .ok (.iastore, 1) := dz_ok (by decide +kernel)
theorem tR_d161 : decode xM152.2.1 161 = .ok (.aload_n 0, 1) := dz_ok (by decide +kernel)
theorem tR_d162 : decode xM152.2.1 162 = .ok (.getfield 7, 3) := dz_ok (by decide +kernel)
theorem tR_d165 : decode xM152.2.1 165 = .ok (.iload 7, 2) := dz_ok (by decide +kernel)
theorem tR_d167 : decode xM152.2.1 167 = .ok (.iconst 4, 1) := dz_ok (by decide +kernel)
theorem tR_d168 : decode xM152.2.1 168 = .ok (.iadd, 1) := dz_ok (by decide +kernel)
theorem tR_d169 : decode xM152.2.1 169 = .ok (.iload 5, 2) := dz_ok (by decide +kernel)
theorem tR_d171 : decode xM152.2.1 171 = .ok (.iastore, 1) := dz_ok (by decide +kernel)
theorem tR_d172 : decode xM152.2.1 172 = .ok (.aload_n 0, 1) := dz_ok (by decide +kernel)
theorem tR_d173 : decode xM152.2.1 173 = .ok (.getfield 7, 3) := dz_ok (by decide +kernel)
theorem tR_d176 : decode xM152.2.1 176 = .ok (.iload 7, 2) := dz_ok (by decide +kernel)
theorem tR_d178 : decode xM152.2.1 178 = .ok (.iconst 5, 1) := dz_ok (by decide +kernel)
theorem tR_d179 : decode xM152.2.1 179 = .ok (.iadd, 1) := dz_ok (by decide +kernel)
theorem tR_d180 : decode xM152.2.1 180 = .ok (.iconst 0, 1) := dz_ok (by decide +kernel)
theorem tR_d181 : decode xM152.2.1 181 = .ok (.iastore, 1) := dz_ok (by decide +kernel)
theorem tR_d182 : decode xM152.2.1 182 = .ok (.aload_n 0, 1) := dz_ok (by decide +kernel)
theorem tR_d183 : decode xM152.2.1 183 = .ok (.getfield 7, 3) := dz_ok (by decide +kernel)
theorem tR_d186 : decode xM152.2.1 186 = .ok (.iload 7, 2) := dz_ok (by decide +kernel)
theorem tR_d188 : decode xM152.2.1 188 = .ok (.bipush 6, 2) := dz_ok (by decide +kernel)
theorem tR_d190 : decode xM152.2.1 190 = .ok (.iadd, 1) := dz_ok (by decide +kernel)
theorem tR_d191 : decode xM152.2.1 191 = .ok (.iconst 1, 1) := dz_ok (by decide +kernel)
theorem tR_d192 : decode xM152.2.1 192 = .ok (.iastore, 1) := dz_ok (by decide +kernel)
theorem tR_d193 : decode xM152.2.1 193 = .ok (.aload_n 0, 1) := dz_ok (by decide +kernel)
theorem tR_d194 : decode xM152.2.1 194 = .ok (.getfield 7, 3) := dz_ok (by decide +kernel)
theorem tR_d197 : decode xM152.2.1 197 = .ok (.iconst 1, 1) := dz_ok (by decide +kernel)
theorem tR_d198 : decode xM152.2.1 198 = .ok (.dup2, 1) := dz_ok (by decide +kernel)
theorem tR_d199 : decode xM152.2.1 199 = .ok (.iaload, 1) := dz_ok (by decide +kernel)
theorem tR_d200 : decode xM152.2.1 200 = .ok (.iconst 1, 1) := dz_ok (by decide +kernel)
theorem tR_d201 : decode xM152.2.1 201 = .ok (.iadd, 1) := dz_ok (by decide +kernel)
theorem tR_d202 : decode xM152.2.1 202 = .ok (.iastore, 1) := dz_ok (by decide +kernel)
theorem tR_d203 : decode xM152.2.1 203 = .ok (.aload_n 0, 1) := dz_ok (by decide +kernel)
theorem tR_d204 : decode xM152.2.1 204 = .ok (.getfield 7, 3) := dz_ok (by decide +kernel)
theorem tR_d207 : decode xM152.2.1 207 = .ok (.iconst 1, 1) := dz_ok (by decide +kernel)
theorem tR_d208 : decode xM152.2.1 208 = .ok (.iaload, 1) := dz_ok (by decide +kernel)
theorem tR_d209 : decode xM152.2.1 209 = .ok (.iconst 1, 1) := dz_ok (by decide +kernel)
theorem tR_d210 : decode xM152.2.1 210 = .ok (.isub, 1) := dz_ok (by decide +kernel)
theorem tR_d211 : decode xM152.2.1 211 = .ok (.ireturn, 1) := dz_ok (by decide +kernel)
theorem tR_L92 {p : Program} {l : Launch} {e : Env} {s : State} {m : MethodId} {below : List Frame} {meth : Method} {c : Code} {D : va_G} {U : State} {Y0 : xY} {av : List Value} (B : y_B vwCl x_Tb x_Nb xM152 p s m meth c D U Y0 av) {this bk : Nat} {k x y h g : Int32} {fb : Nat → Int32} (hav : av = [.ref this, .int k, .int x, .int y, .int h, .int g]) (hs0 : x_sl D 12 0 this s.heap = some (.ref bk)) (hA0 : y_A bk 160 s.heap fb) (hd1 : 0 ≤ (fb 1).toInt ∧ (fb 1).toInt ≤ 8) (hcn : z_c fb)  :
    ∀ (H : Heap) (Y : xY) (locs : List Loc) (ls : Array Slot), x_I D x_G x_Zs U (x_efs xM152) Y0 s.heap Y H locs → Y this = some 17 → Y bk = some 46 → x_sl D 12 0 this H = some (.ref bk) → y_A bk 160 H fb → lv_has ls xM152.2.2.1 [(0, .ref this), (1, .int k), (2, .int x), (3, .int y), (4, .int h), (5, .int g)] → (m_tOk k x y h g) → W p l e (x_rm xM152) s m av.toArray below meth c H locs 0 0 (y_QQ below D x_G x_Zs U xM152 z_Pth av Y0 s) (F0 m 92 ls []) := by
  have X := B.1
  have hx := X.1
  have hb := X.2.1
  have hY0 := B.2.2.2.2.1
  intro H Y locs ls   hI hY_this hY_bk hs_bk hA_bk hl hok
  refine lv_aload_n hx hb tR_d92 rfl (lv_at hl 0 rfl) ?_
  refine y_getf X (fl190 X.2.2.2.2.1) hI.1 hY_this rfl hs_bk tR_d93 ?_
  refine lv_iconst hx hb tR_d96 (v := 1) (by decide) ?_
  have ec1 : (1 : Int32).toInt = 1 := by decide
  refine y_iald X hI.1 hY_bk rfl hA_bk (by omega) (by show _ < (160 : Int); omega) tR_d97 ?_
  obtain ⟨e97, hg_e97⟩ : ∃ e97 : Int32, fb (1 : Int32).toInt.toNat = e97 := ⟨_, rfl⟩
  rw [hg_e97]
  rw [z_i1] at hg_e97
  have h_e97 : e97.toInt = (fb 1).toInt := by rw [hg_e97]
  refine lv_bipush hx hb tR_d98 (v := 8) (by decide) ?_
  have ec8 : (8 : Int32).toInt = 8 := by decide
  refine lv_icmp_ne hx hb tR_d100 (tgt := 108) (by decide) (fun q100 => ?_) (fun q100 => ?_)
  · have q100_ : ¬ e97.toInt = (8 : Int32).toInt := fun q => q100 (Int32.toInt_inj.mp q)
    refine lv_bipush hx hb tR_d108 (v := 60) (by decide) ?_
    have ec60 : (60 : Int32).toInt = 60 := by decide
    refine lv_bipush hx hb tR_d110 (v := 7) (by decide) ?_
    have ec7 : (7 : Int32).toInt = 7 := by decide
    refine lv_aload_n hx hb tR_d112 rfl (lv_at hl 0 rfl) ?_
    refine y_getf X (fl190 X.2.2.2.2.1) hI.1 hY_this rfl hs_bk tR_d113 ?_
    refine lv_iconst hx hb tR_d116 (v := 1) (by decide) ?_
    refine y_iald X hI.1 hY_bk rfl hA_bk (by omega) (by show _ < (160 : Int); omega) tR_d117 ?_
    obtain ⟨e117, hg_e117⟩ : ∃ e117 : Int32, fb (1 : Int32).toInt.toNat = e117 := ⟨_, rfl⟩
    rw [hg_e117]
    rw [z_i1] at hg_e117
    have h_e117 : e117.toInt = (fb 1).toInt := by rw [hg_e117]
    refine lv_imul hx hb tR_d118 ?_
    generalize hg_z118 : (7 : Int32) * e117 = z118
    have h_z118 : z118.toInt = 7 * e117.toInt := by rw [← hg_z118]; have := y_mul (x := (7 : Int32)) (y := e117) (by rw [ec7]; omega) (by rw [ec7]; omega); rw [ec7] at this; exact this
    refine lv_iadd hx hb tR_d119 ?_
    generalize hg_z119 : (60 : Int32) + z118 = z119
    have h_z119 : z119.toInt = 60 + z118.toInt := by rw [← hg_z119]; have := y_add (x := (60 : Int32)) (y := z118) (by rw [ec60]; omega) (by rw [ec60]; omega); rw [ec60] at this; exact this
    refine lv_istore hx hb tR_d120 hl (by decide) (lv' := [(7, .int z119), (0, .ref this), (1, .int k), (2, .int x), (3, .int y), (4, .int h), (5, .int g)]) rfl fun ls hl => ?_
    refine lv_aload_n hx hb tR_d122 rfl (lv_at hl 1 rfl) ?_
    refine y_getf X (fl190 X.2.2.2.2.1) hI.1 hY_this rfl hs_bk tR_d123 ?_
    refine lv_iload hx hb tR_d126 (lv_at hl 0 rfl) ?_
    refine lv_iload_n hx hb tR_d128 rfl (lv_at hl 2 rfl) ?_
    refine y_iast X hY0 hI hY_bk rfl hA_bk (by omega) (by show _ < (160 : Int); omega) (by rw [z_get3 (by omega)]; exact ⟨_, rfl, x_i32 _⟩) (by decide +kernel) tR_d129 fun H locs hI h_new ho => ?_
    replace hA_bk := h_new
    generalize hf_f129 : y_up fb z119.toInt.toNat k = f129 at hA_bk
    replace hs_bk := y_slk hs_bk (ho _ (y_ne hY_this hY_bk rfl))
    refine lv_aload_n hx hb tR_d130 rfl (lv_at hl 1 rfl) ?_
    refine y_getf X (fl190 X.2.2.2.2.1) hI.1 hY_this rfl hs_bk tR_d131 ?_
    refine lv_iload hx hb tR_d134 (lv_at hl 0 rfl) ?_
    refine lv_iconst hx hb tR_d136 (v := 1) (by decide) ?_
    refine lv_iadd hx hb tR_d137 ?_
    generalize hg_z137 : z119 + (1 : Int32) = z137
    have h_z137 : z137.toInt = z119.toInt + 1 := by rw [← hg_z137]; have := y_add (x := z119) (y := (1 : Int32)) (by rw [ec1]; omega) (by rw [ec1]; omega); rw [ec1] at this; exact this
    refine lv_iload_n hx hb tR_d138 rfl (lv_at hl 3 rfl) ?_
    refine y_iast X hY0 hI hY_bk rfl hA_bk (by omega) (by show _ < (160 : Int); omega) (by rw [z_get3 (by omega)]; exact ⟨_, rfl, x_i32 _⟩) (by decide +kernel) tR_d139 fun H locs hI h_new ho => ?_
    replace hA_bk := h_new
    generalize hf_f139 : y_up f129 z137.toInt.toNat x = f139 at hA_bk
    replace hs_bk := y_slk hs_bk (ho _ (y_ne hY_this hY_bk rfl))
    refine lv_aload_n hx hb tR_d140 rfl (lv_at hl 1 rfl) ?_
    refine y_getf X (fl190 X.2.2.2.2.1) hI.1 hY_this rfl hs_bk tR_d141 ?_
    refine lv_iload hx hb tR_d144 (lv_at hl 0 rfl) ?_
    refine lv_iconst hx hb tR_d146 (v := 2) (by decide) ?_
    have ec2 : (2 : Int32).toInt = 2 := by decide
    refine lv_iadd hx hb tR_d147 ?_
    generalize hg_z147 : z119 + (2 : Int32) = z147
    have h_z147 : z147.toInt = z119.toInt + 2 := by rw [← hg_z147]; have := y_add (x := z119) (y := (2 : Int32)) (by rw [ec2]; omega) (by rw [ec2]; omega); rw [ec2] at this; exact this
    refine lv_iload_n hx hb tR_d148 rfl (lv_at hl 4 rfl) ?_
    refine y_iast X hY0 hI hY_bk rfl hA_bk (by omega) (by show _ < (160 : Int); omega) (by rw [z_get3 (by omega)]; exact ⟨_, rfl, x_i32 _⟩) (by decide +kernel) tR_d149 fun H locs hI h_new ho => ?_
    replace hA_bk := h_new
    generalize hf_f149 : y_up f139 z147.toInt.toNat y = f149 at hA_bk
    replace hs_bk := y_slk hs_bk (ho _ (y_ne hY_this hY_bk rfl))
    refine lv_aload_n hx hb tR_d150 rfl (lv_at hl 1 rfl) ?_
    refine y_getf X (fl190 X.2.2.2.2.1) hI.1 hY_this rfl hs_bk tR_d151 ?_
    refine lv_iload hx hb tR_d154 (lv_at hl 0 rfl) ?_
    refine lv_iconst hx hb tR_d156 (v := 3) (by decide) ?_
    have ec3 : (3 : Int32).toInt = 3 := by decide
    refine lv_iadd hx hb tR_d157 ?_
    generalize hg_z157 : z119 + (3 : Int32) = z157
    have h_z157 : z157.toInt = z119.toInt + 3 := by rw [← hg_z157]; have := y_add (x := z119) (y := (3 : Int32)) (by rw [ec3]; omega) (by rw [ec3]; omega); rw [ec3] at this; exact this
    refine lv_iload hx hb tR_d158 (lv_at hl 5 rfl) ?_
    refine y_iast X hY0 hI hY_bk rfl hA_bk (by omega) (by show _ < (160 : Int); omega) (by rw [z_get3 (by omega)]; exact ⟨_, rfl, x_i32 _⟩) (by decide +kernel) tR_d160 fun H locs hI h_new ho => ?_
    replace hA_bk := h_new
    generalize hf_f160 : y_up f149 z157.toInt.toNat h = f160 at hA_bk
    replace hs_bk := y_slk hs_bk (ho _ (y_ne hY_this hY_bk rfl))
    refine lv_aload_n hx hb tR_d161 rfl (lv_at hl 1 rfl) ?_
    refine y_getf X (fl190 X.2.2.2.2.1) hI.1 hY_this rfl hs_bk tR_d162 ?_
    refine lv_iload hx hb tR_d165 (lv_at hl 0 rfl) ?_
    refine lv_iconst hx hb tR_d167 (v := 4) (by decide) ?_
    have ec4 : (4 : Int32).toInt = 4 := by decide
    refine lv_iadd hx hb tR_d168 ?_
    generalize hg_z168 : z119 + (4 : Int32) = z168
    have h_z168 : z168.toInt = z119.toInt + 4 := by rw [← hg_z168]; have := y_add (x := z119) (y := (4 : Int32)) (by rw [ec4]; omega) (by rw [ec4]; omega); rw [ec4] at this; exact this
    refine lv_iload hx hb tR_d169 (lv_at hl 6 rfl) ?_
    refine y_iast X hY0 hI hY_bk rfl hA_bk (by omega) (by show _ < (160 : Int); omega) (by rw [z_get3 (by omega)]; exact ⟨_, rfl, x_i32 _⟩) (by decide +kernel) tR_d171 fun H locs hI h_new ho => ?_
    replace hA_bk := h_new
    generalize hf_f171 : y_up f160 z168.toInt.toNat g = f171 at hA_bk
    replace hs_bk := y_slk hs_bk (ho _ (y_ne hY_this hY_bk rfl))
    refine lv_aload_n hx hb tR_d172 rfl (lv_at hl 1 rfl) ?_
    refine y_getf X (fl190 X.2.2.2.2.1) hI.1 hY_this rfl hs_bk tR_d173 ?_
    refine lv_iload hx hb tR_d176 (lv_at hl 0 rfl) ?_
    refine lv_iconst hx hb tR_d178 (v := 5) (by decide) ?_
    have ec5 : (5 : Int32).toInt = 5 := by decide
    refine lv_iadd hx hb tR_d179 ?_
    generalize hg_z179 : z119 + (5 : Int32) = z179
    have h_z179 : z179.toInt = z119.toInt + 5 := by rw [← hg_z179]; have := y_add (x := z119) (y := (5 : Int32)) (by rw [ec5]; omega) (by rw [ec5]; omega); rw [ec5] at this; exact this
    refine lv_iconst hx hb tR_d180 (v := 0) (by decide) ?_
    have ec0 : (0 : Int32).toInt = 0 := by decide
    refine y_iast X hY0 hI hY_bk rfl hA_bk (by omega) (by show _ < (160 : Int); omega) (by rw [z_get3 (by omega)]; exact ⟨_, rfl, x_i32 _⟩) (by decide +kernel) tR_d181 fun H locs hI h_new ho => ?_
    replace hA_bk := h_new
    generalize hf_f181 : y_up f171 z179.toInt.toNat (0 : Int32) = f181 at hA_bk
    replace hs_bk := y_slk hs_bk (ho _ (y_ne hY_this hY_bk rfl))
    refine lv_aload_n hx hb tR_d182 rfl (lv_at hl 1 rfl) ?_
    refine y_getf X (fl190 X.2.2.2.2.1) hI.1 hY_this rfl hs_bk tR_d183 ?_
    refine lv_iload hx hb tR_d186 (lv_at hl 0 rfl) ?_
    refine lv_bipush hx hb tR_d188 (v := 6) (by decide) ?_
    have ec6 : (6 : Int32).toInt = 6 := by decide
    refine lv_iadd hx hb tR_d190 ?_
    generalize hg_z190 : z119 + (6 : Int32) = z190
    have h_z190 : z190.toInt = z119.toInt + 6 := by rw [← hg_z190]; have := y_add (x := z119) (y := (6 : Int32)) (by rw [ec6]; omega) (by rw [ec6]; omega); rw [ec6] at this; exact this
    refine lv_iconst hx hb tR_d191 (v := 1) (by decide) ?_
    refine y_iast X hY0 hI hY_bk rfl hA_bk (by omega) (by show _ < (160 : Int); omega) (by rw [z_get3 (by omega)]; exact ⟨_, rfl, x_i32 _⟩) (by decide +kernel) tR_d192 fun H locs hI h_new ho => ?_
    replace hA_bk := h_new
    generalize hf_f192 : y_up f181 z190.toInt.toNat (1 : Int32) = f192 at hA_bk
    replace hs_bk := y_slk hs_bk (ho _ (y_ne hY_this hY_bk rfl))
    refine lv_aload_n hx hb tR_d193 rfl (lv_at hl 1 rfl) ?_
    refine y_getf X (fl190 X.2.2.2.2.1) hI.1 hY_this rfl hs_bk tR_d194 ?_
    refine lv_iconst hx hb tR_d197 (v := 1) (by decide) ?_
    refine lv_dup2_11 hx hb tR_d198 rfl rfl ?_
    refine y_iald X hI.1 hY_bk rfl hA_bk (by omega) (by show _ < (160 : Int); omega) tR_d199 ?_
    obtain ⟨e199, hg_e199⟩ : ∃ e199 : Int32, f192 (1 : Int32).toInt.toNat = e199 := ⟨_, rfl⟩
    rw [hg_e199]
    rw [z_i1] at hg_e199
    have h_e199 : e199 = fb 1 := by rw [← hg_e199, ← hf_f192, y_up_ne (by omega), ← hf_f181, y_up_ne (by omega), ← hf_f171, y_up_ne (by omega), ← hf_f160, y_up_ne (by omega), ← hf_f149, y_up_ne (by omega), ← hf_f139, y_up_ne (by omega), ← hf_f129, y_up_ne (by omega)]
    have h_e199i : e199.toInt = (fb 1).toInt := by rw [h_e199]
    refine lv_iconst hx hb tR_d200 (v := 1) (by decide) ?_
    refine lv_iadd hx hb tR_d201 ?_
    generalize hg_z201 : e199 + (1 : Int32) = z201
    have h_z201 : z201.toInt = e199.toInt + 1 := by rw [← hg_z201]; have := y_add (x := e199) (y := (1 : Int32)) (by rw [ec1]; omega) (by rw [ec1]; omega); rw [ec1] at this; exact this
    refine y_iast X hY0 hI hY_bk rfl hA_bk (by omega) (by show _ < (160 : Int); omega) (by show x_c _ (xI 0 8) _; exact ⟨_, rfl, by show (0 : Int) ≤ _; omega, by show _ ≤ (8 : Int); omega⟩) (by decide +kernel) tR_d202 fun H locs hI h_new ho => ?_
    replace hA_bk := h_new
    generalize hf_f202 : y_up f192 (1 : Int32).toInt.toNat z201 = f202 at hA_bk
    replace hs_bk := y_slk hs_bk (ho _ (y_ne hY_this hY_bk rfl))
    refine lv_aload_n hx hb tR_d203 rfl (lv_at hl 1 rfl) ?_
    refine y_getf X (fl190 X.2.2.2.2.1) hI.1 hY_this rfl hs_bk tR_d204 ?_
    refine lv_iconst hx hb tR_d207 (v := 1) (by decide) ?_
    refine y_iald X hI.1 hY_bk rfl hA_bk (by omega) (by show _ < (160 : Int); omega) tR_d208 ?_
    obtain ⟨e208, hg_e208⟩ : ∃ e208 : Int32, f202 (1 : Int32).toInt.toNat = e208 := ⟨_, rfl⟩
    rw [hg_e208]
    rw [z_i1] at hg_e208
    have h_e208 : e208 = z201 := by rw [← hg_e208, ← hf_f202, z_i1, y_up_at]
    have h_e208i : e208.toInt = z201.toInt := by rw [h_e208]
    refine lv_iconst hx hb tR_d209 (v := 1) (by decide) ?_
    refine lv_isub hx hb tR_d210 ?_
    generalize hg_z210 : e208 - (1 : Int32) = z210
    have h_z210 : z210.toInt = e208.toInt - 1 := by rw [← hg_z210]; have := y_sub (x := e208) (y := (1 : Int32)) (by rw [ec1]; omega) (by rw [ec1]; omega); rw [ec1] at this; exact this
    have h_v : z201 = fb 1 + 1 := by rw [← hg_z201, h_e199]
    have h_p0 : z119.toInt.toNat = 60 + 7 * (fb 1).toInt.toNat := by omega
    have h_p1 : z137.toInt.toNat = 61 + 7 * (fb 1).toInt.toNat := by omega
    have h_p2 : z147.toInt.toNat = 62 + 7 * (fb 1).toInt.toNat := by omega
    have h_p3 : z157.toInt.toNat = 63 + 7 * (fb 1).toInt.toNat := by omega
    have h_p4 : z168.toInt.toNat = 64 + 7 * (fb 1).toInt.toNat := by omega
    have h_p5 : z179.toInt.toNat = 65 + 7 * (fb 1).toInt.toNat := by omega
    have h_p6 : z190.toInt.toNat = 66 + 7 * (fb 1).toInt.toNat := by omega
    have h_r : z210 = fb 1 := Int32.toInt_inj.mp (by omega)
    have h_up : f202 = m_tUp fb k x y h g := by unfold m_tUp; rw [← hf_f202, ← hf_f192, ← hf_f181, ← hf_f171, ← hf_f160, ← hf_f149, ← hf_f139, ← hf_f129, z_i1, h_p0, h_p1, h_p2, h_p3, h_p4, h_p5, h_p6, h_v]
    subst hav
    exact y_ireturn B hI rfl rfl rfl List.mem_cons_self ⟨_, rfl, ⟨_, rfl, x_i32 _⟩⟩ (x_cs.mono B.2.2.2.2.2 (y_mon B hI)) (fun t' b' k' x' y' h' g' f' h1 h2 h3 h4 => by cases h1; cases h2.symm.trans hs0; cases z_uniq h4 hA0 h3 hcn; exact ⟨_, _, rfl, hA_bk, fun q9 => absurd hok q9, fun _ q9 => absurd q9 (by omega), fun _ _ => ⟨h_r, h_up⟩⟩) (Nat.le_refl _) (Nat.le_refl _) tR_d211
  · have q100_ : e97.toInt = (8 : Int32).toInt := by rw [q100]
    refine lv_aload_n hx hb tR_d103 rfl (lv_at hl 0 rfl) ?_
    refine y_call (z := (0, 105, 1, some 17, xM146)) (av := [.ref this]) (rest := []) (y_cokV (n := 0) (ci := 12) X ym_full rfl rfl rfl (x_cons (x_bw68 11 rfl rfl) (x_cons (x_bw68 13 rfl rfl) (x_cons (x_at 34 (by decide +kernel) rfl) (x_cons (x_bw0 9 rfl rfl) x_nilm)))) (x_bw68 14 rfl rfl) (by decide +kernel) ⟨Nat.le_of_ble_eq_true rfl, Nat.le_of_ble_eq_true rfl⟩) hY0 hI rfl tR_d104 hl.1 (Nat.le_of_ble_eq_true rfl) (Nat.le_of_ble_eq_true rfl) (Nat.le_of_ble_eq_true rfl) (y_cons (y_cref hY_this rfl) y_nil) rfl (y_recv rfl hY_this) trivial (y_sub_ef rfl) fun v Yn o Hn L ho hr ha hIn hx_ hE hP => ?_
    replace hs_bk := y_Efld hE hY_this rfl (by decide) (by decide) hs_bk
    replace hA_bk := hA_bk.kept (y_Earr hE hY_bk rfl (by decide))
    replace hY_this := y_ext hx_ hI.1 hY_this
    replace hY_bk := y_ext hx_ hI.1 hY_bk
    have hPb := hP
    obtain rfl := hPb
    clear ho hr ha hE hP hI hx_
    rename x_I _ _ _ _ _ _ _ _ _ _ => hI
    subst hav
    exact y_ireturn B hI rfl rfl rfl List.mem_cons_self ⟨_, rfl, ⟨_, rfl, x_i32 _⟩⟩ (x_cs.mono B.2.2.2.2.2 (y_mon B hI)) (fun t' b' k' x' y' h' g' f' h1 h2 h3 h4 => by cases h1; cases h2.symm.trans hs0; cases z_uniq h4 hA0 h3 hcn; exact ⟨_, _, rfl, hA_bk, fun q9 => absurd hok q9, fun _ _ => ⟨rfl, rfl⟩, fun _ q9 => absurd q9 (by omega)⟩) (Nat.le_refl _) (Nat.le_refl _) tR_d107
theorem ym_mthing : y_Met vwCl x_G x_Zs x_Tb x_Nb xM152 y_T z_Pth := by
  refine y_main (by decide +kernel) (by decide +kernel) x_Tb_good x_Nb_ok ?_
  intro p l e s m below meth c D U Y0 av ls B hI _ hl
  have X := B.1
  have hx := X.1
  have hb := X.2.1
  have hY0 := B.2.2.2.2.1
  obtain ⟨v0, v1, v2, v3, v4, v5, rfl, hv0, ⟨k, rfl, -⟩, ⟨x, rfl, -⟩, ⟨y, rfl, -⟩, ⟨h, rfl, -⟩, ⟨g, rfl, -⟩⟩ := y_six B.2.2.2.2.2
  obtain ⟨this, t0, rfl, ht0, hY_this⟩ := x_ref_at hv0 rfl
  obtain rfl := List.mem_singleton.mp ht0
  replace hl : lv_has ls xM152.2.2.1 [(0, .ref this), (1, .int k), (2, .int x), (3, .int y), (4, .int h), (5, .int g)] := hl
  obtain ⟨bk, hs_bk, hY_bk⟩ := y_fldR (k := 0) hI.1 hY_this rfl rfl
  obtain ⟨fb9, hA9, hB9⟩ := y_arr hI.1 hY_bk rfl rfl
  obtain ⟨fb, hcn, hA_bk, hB_bk⟩ := z_canon (Y := Y0) (P := fun j v => x_c Y0 ([xI 0 10, xI 0 8, xI 0 8].getD j xF) (.int v)) hA9 hB9
  clear hA9 hB9 fb9
  have hs0 := hs_bk
  have hA0 := hA_bk
  have hd := z_hdr hB_bk
  have hd0 := hd.1
  have hd1 := hd.2.1
  refine lv_iload_n hx hb tR_d0 rfl (lv_at hl 1 rfl) ?_
  have ec0 : (0 : Int32).toInt = 0 := by decide
  refine lv_if_eq hx hb tR_d1 (tgt := 9) (by decide) (fun q1 => ?_) (fun q1 => ?_)
  · have q1_ : k.toInt = (0 : Int32).toInt := by rw [q1]
    refine lv_iconst hx hb tR_d9 (v := 1) (by decide) ?_
    have ec1 : (1 : Int32).toInt = 1 := by decide
    refine lv_goto hx hb tR_d10 (tgt := 14) (by decide) ?_
    refine lv_istore hx hb tR_d14 hl (by decide) (lv' := [(6, .int (1 : Int32)), (0, .ref this), (1, .int k), (2, .int x), (3, .int y), (4, .int h), (5, .int g)]) rfl fun ls hl => ?_
    refine lv_iload_n hx hb tR_d16 rfl (lv_at hl 2 rfl) ?_
    obtain ⟨z17, hg_z17⟩ : ∃ z17 : Int64, k.toInt64 = z17 := ⟨_, rfl⟩
    have h_z17 : z17.toInt = (k).toInt := by rw [← hg_z17]; exact Int32.toInt_toInt64 _
    refine lv_i2l hx hb tR_d17 (v := z17) hg_z17 ?_
    refine lv_lconst hx hb tR_d18 (v := 0) (by decide) ?_
    have el0 : (0 : Int64).toInt = 0 := by decide
    refine lv_ldc2 hx hb X.2.2.2.1 (v := 5) (X.2.2.2.2.1 _ (x_bw69 3 rfl rfl)) tR_d19 ?_
    have el5 : (5 : Int64).toInt = 5 := by decide
    refine y_call (z := (1, 87, 3, none, xM148)) (av := [.long z17, .long (0 : Int64), .long (5 : Int64)]) (rest := []) (y_cokS (n := 3) X ym_in (x_cons (x_bw67 11 rfl rfl) (x_cons (x_bw67 12 rfl rfl) (x_cons (x_bw0 9 rfl rfl) x_nilm))) (x_bw67 13 rfl rfl) (by decide +kernel) ⟨Nat.le_of_ble_eq_true rfl, Nat.le_of_ble_eq_true rfl⟩) hY0 hI rfl tR_d22 hl.1 (Nat.le_of_ble_eq_true rfl) (Nat.le_of_ble_eq_true rfl) (Nat.le_of_ble_eq_true rfl) (y_cons ⟨_, rfl, x_i64 _⟩ (y_cons ⟨_, rfl, x_i64 _⟩ (y_cons ⟨_, rfl, x_i64 _⟩ y_nil))) rfl (y_norecv rfl) trivial (y_sub_ef rfl) fun v Yn o Hn L ho hr ha hIn hx_ hE hP => ?_
    replace hs_bk := y_Efld hE hY_this rfl (by decide) (by decide) hs_bk
    replace hA_bk := hA_bk.kept (y_Earr hE hY_bk rfl (by decide))
    replace hY_this := y_ext hx_ hI.1 hY_this
    replace hY_bk := y_ext hx_ hI.1 hY_bk
    obtain ⟨r22, rfl, hin_r22, hout_r22⟩ := z_inR2 (hP _ _ _ rfl)
    clear ho hr ha hE hP hI hx_
    rename x_I _ _ _ _ _ _ _ _ _ _ => hI
    refine lv_if_eq hx hb tR_d25 (tgt := 87) (by decide) (fun q25 => ?_) (fun q25 => ?_)
    · have q25_ : r22.toInt = (0 : Int32).toInt := by rw [q25]
      have hno : ¬ m_tOk k x y h g := fun q9 => by obtain ⟨a1, a2, a3, a4, a5, a6⟩ := q9; first | (have := hout_r81 q84; omega) | (have := hout_r59 q62; omega) | (have := hout_r46 q49; omega) | (have := hout_r34 q37; omega) | (have := hout_r22 q25; omega)
      refine lv_aload_n hx hb tR_d87 rfl (lv_at hl 1 rfl) ?_
      refine y_call (z := (0, 102, 1, some 17, xM143)) (av := [.ref this]) (rest := []) (y_cokV (n := 0) (ci := 12) X ym_bad rfl rfl rfl (x_cons (x_bw68 3 rfl rfl) (x_cons (x_bw68 5 rfl rfl) (x_cons (x_at 32 (by decide +kernel) rfl) (x_cons (x_bw0 9 rfl rfl) x_nilm)))) (x_bw68 6 rfl rfl) (by decide +kernel) ⟨Nat.le_of_ble_eq_true rfl, Nat.le_of_ble_eq_true rfl⟩) hY0 hI rfl tR_d88 hl.1 (Nat.le_of_ble_eq_true rfl) (Nat.le_of_ble_eq_true rfl) (Nat.le_of_ble_eq_true rfl) (y_cons (y_cref hY_this rfl) y_nil) rfl (y_recv rfl hY_this) trivial (y_sub_ef rfl) fun v Yn o Hn L ho hr ha hIn hx_ hE hP => ?_
      replace hs_bk := y_Efld hE hY_this rfl (by decide) (by decide) hs_bk
      replace hA_bk := hA_bk.kept (y_Earr hE hY_bk rfl (by decide))
      replace hY_this := y_ext hx_ hI.1 hY_this
      replace hY_bk := y_ext hx_ hI.1 hY_bk
      have hPb := hP
      obtain rfl := hPb
      clear ho hr ha hE hP hI hx_
      rename x_I _ _ _ _ _ _ _ _ _ _ => hI
      exact y_ireturn B hI rfl rfl rfl List.mem_cons_self ⟨_, rfl, ⟨_, rfl, x_i32 _⟩⟩ (x_cs.mono B.2.2.2.2.2 (y_mon B hI)) (fun t' b' k' x' y' h' g' f' h1 h2 h3 h4 => by cases h1; cases h2.symm.trans hs0; cases z_uniq h4 hA0 h3 hcn; exact ⟨_, _, rfl, hA_bk, fun _ => ⟨rfl, rfl⟩, fun q9 => absurd q9 hno, fun q9 => absurd q9 hno⟩) (Nat.le_refl _) (Nat.le_refl _) tR_d91
    · have q25_ : ¬ r22.toInt = (0 : Int32).toInt := fun q => q25 (Int32.toInt_inj.mp q)
      refine lv_iload_n hx hb tR_d28 rfl (lv_at hl 3 rfl) ?_
      obtain ⟨z29, hg_z29⟩ : ∃ z29 : Int64, x.toInt64 = z29 := ⟨_, rfl⟩
      have h_z29 : z29.toInt = (x).toInt := by rw [← hg_z29]; exact Int32.toInt_toInt64 _
      refine lv_i2l hx hb tR_d29 (v := z29) hg_z29 ?_
      refine lv_lconst hx hb tR_d30 (v := 0) (by decide) ?_
      have el0 : (0 : Int64).toInt = 0 := by decide
      refine lv_ldc2 hx hb X.2.2.2.1 (v := 19) (X.2.2.2.2.1 _ (x_bw67 10 rfl rfl)) tR_d31 ?_
      have el19 : (19 : Int64).toInt = 19 := by decide
      refine y_call (z := (1, 87, 3, none, xM148)) (av := [.long z29, .long (0 : Int64), .long (19 : Int64)]) (rest := []) (y_cokS (n := 3) X ym_in (x_cons (x_bw67 11 rfl rfl) (x_cons (x_bw67 12 rfl rfl) (x_cons (x_bw0 9 rfl rfl) x_nilm))) (x_bw67 13 rfl rfl) (by decide +kernel) ⟨Nat.le_of_ble_eq_true rfl, Nat.le_of_ble_eq_true rfl⟩) hY0 hI rfl tR_d34 hl.1 (Nat.le_of_ble_eq_true rfl) (Nat.le_of_ble_eq_true rfl) (Nat.le_of_ble_eq_true rfl) (y_cons ⟨_, rfl, x_i64 _⟩ (y_cons ⟨_, rfl, x_i64 _⟩ (y_cons ⟨_, rfl, x_i64 _⟩ y_nil))) rfl (y_norecv rfl) trivial (y_sub_ef rfl) fun v Yn o Hn L ho hr ha hIn hx_ hE hP => ?_
      replace hs_bk := y_Efld hE hY_this rfl (by decide) (by decide) hs_bk
      replace hA_bk := hA_bk.kept (y_Earr hE hY_bk rfl (by decide))
      replace hY_this := y_ext hx_ hI.1 hY_this
      replace hY_bk := y_ext hx_ hI.1 hY_bk
      obtain ⟨r34, rfl, hin_r34, hout_r34⟩ := z_inR2 (hP _ _ _ rfl)
      clear ho hr ha hE hP hI hx_
      rename x_I _ _ _ _ _ _ _ _ _ _ => hI
      refine lv_if_eq hx hb tR_d37 (tgt := 87) (by decide) (fun q37 => ?_) (fun q37 => ?_)
      · have q37_ : r34.toInt = (0 : Int32).toInt := by rw [q37]
        have hno : ¬ m_tOk k x y h g := fun q9 => by obtain ⟨a1, a2, a3, a4, a5, a6⟩ := q9; first | (have := hout_r81 q84; omega) | (have := hout_r59 q62; omega) | (have := hout_r46 q49; omega) | (have := hout_r34 q37; omega) | (have := hout_r22 q25; omega)
        refine lv_aload_n hx hb tR_d87 rfl (lv_at hl 1 rfl) ?_
        refine y_call (z := (0, 102, 1, some 17, xM143)) (av := [.ref this]) (rest := []) (y_cokV (n := 0) (ci := 12) X ym_bad rfl rfl rfl (x_cons (x_bw68 3 rfl rfl) (x_cons (x_bw68 5 rfl rfl) (x_cons (x_at 32 (by decide +kernel) rfl) (x_cons (x_bw0 9 rfl rfl) x_nilm)))) (x_bw68 6 rfl rfl) (by decide +kernel) ⟨Nat.le_of_ble_eq_true rfl, Nat.le_of_ble_eq_true rfl⟩) hY0 hI rfl tR_d88 hl.1 (Nat.le_of_ble_eq_true rfl) (Nat.le_of_ble_eq_true rfl) (Nat.le_of_ble_eq_true rfl) (y_cons (y_cref hY_this rfl) y_nil) rfl (y_recv rfl hY_this) trivial (y_sub_ef rfl) fun v Yn o Hn L ho hr ha hIn hx_ hE hP => ?_
        replace hs_bk := y_Efld hE hY_this rfl (by decide) (by decide) hs_bk
        replace hA_bk := hA_bk.kept (y_Earr hE hY_bk rfl (by decide))
        replace hY_this := y_ext hx_ hI.1 hY_this
        replace hY_bk := y_ext hx_ hI.1 hY_bk
        have hPb := hP
        obtain rfl := hPb
        clear ho hr ha hE hP hI hx_
        rename x_I _ _ _ _ _ _ _ _ _ _ => hI
        exact y_ireturn B hI rfl rfl rfl List.mem_cons_self ⟨_, rfl, ⟨_, rfl, x_i32 _⟩⟩ (x_cs.mono B.2.2.2.2.2 (y_mon B hI)) (fun t' b' k' x' y' h' g' f' h1 h2 h3 h4 => by cases h1; cases h2.symm.trans hs0; cases z_uniq h4 hA0 h3 hcn; exact ⟨_, _, rfl, hA_bk, fun _ => ⟨rfl, rfl⟩, fun q9 => absurd q9 hno, fun q9 => absurd q9 hno⟩) (Nat.le_refl _) (Nat.le_refl _) tR_d91
      · have q37_ : ¬ r34.toInt = (0 : Int32).toInt := fun q => q37 (Int32.toInt_inj.mp q)
        refine lv_iload_n hx hb tR_d40 rfl (lv_at hl 4 rfl) ?_
        obtain ⟨z41, hg_z41⟩ : ∃ z41 : Int64, y.toInt64 = z41 := ⟨_, rfl⟩
        have h_z41 : z41.toInt = (y).toInt := by rw [← hg_z41]; exact Int32.toInt_toInt64 _
        refine lv_i2l hx hb tR_d41 (v := z41) hg_z41 ?_
        refine lv_lconst hx hb tR_d42 (v := 0) (by decide) ?_
        have el0 : (0 : Int64).toInt = 0 := by decide
        refine lv_ldc2 hx hb X.2.2.2.1 (v := 19) (X.2.2.2.2.1 _ (x_bw67 10 rfl rfl)) tR_d43 ?_
        have el19 : (19 : Int64).toInt = 19 := by decide
        refine y_call (z := (1, 87, 3, none, xM148)) (av := [.long z41, .long (0 : Int64), .long (19 : Int64)]) (rest := []) (y_cokS (n := 3) X ym_in (x_cons (x_bw67 11 rfl rfl) (x_cons (x_bw67 12 rfl rfl) (x_cons (x_bw0 9 rfl rfl) x_nilm))) (x_bw67 13 rfl rfl) (by decide +kernel) ⟨Nat.le_of_ble_eq_true rfl, Nat.le_of_ble_eq_true rfl⟩) hY0 hI rfl tR_d46 hl.1 (Nat.le_of_ble_eq_true rfl) (Nat.le_of_ble_eq_true rfl) (Nat.le_of_ble_eq_true rfl) (y_cons ⟨_, rfl, x_i64 _⟩ (y_cons ⟨_, rfl, x_i64 _⟩ (y_cons ⟨_, rfl, x_i64 _⟩ y_nil))) rfl (y_norecv rfl) trivial (y_sub_ef rfl) fun v Yn o Hn L ho hr ha hIn hx_ hE hP => ?_
        replace hs_bk := y_Efld hE hY_this rfl (by decide) (by decide) hs_bk
        replace hA_bk := hA_bk.kept (y_Earr hE hY_bk rfl (by decide))
        replace hY_this := y_ext hx_ hI.1 hY_this
        replace hY_bk := y_ext hx_ hI.1 hY_bk
        obtain ⟨r46, rfl, hin_r46, hout_r46⟩ := z_inR2 (hP _ _ _ rfl)
        clear ho hr ha hE hP hI hx_
        rename x_I _ _ _ _ _ _ _ _ _ _ => hI
        refine lv_if_eq hx hb tR_d49 (tgt := 87) (by decide) (fun q49 => ?_) (fun q49 => ?_)
        · have q49_ : r46.toInt = (0 : Int32).toInt := by rw [q49]
          have hno : ¬ m_tOk k x y h g := fun q9 => by obtain ⟨a1, a2, a3, a4, a5, a6⟩ := q9; first | (have := hout_r81 q84; omega) | (have := hout_r59 q62; omega) | (have := hout_r46 q49; omega) | (have := hout_r34 q37; omega) | (have := hout_r22 q25; omega)
          refine lv_aload_n hx hb tR_d87 rfl (lv_at hl 1 rfl) ?_
          refine y_call (z := (0, 102, 1, some 17, xM143)) (av := [.ref this]) (rest := []) (y_cokV (n := 0) (ci := 12) X ym_bad rfl rfl rfl (x_cons (x_bw68 3 rfl rfl) (x_cons (x_bw68 5 rfl rfl) (x_cons (x_at 32 (by decide +kernel) rfl) (x_cons (x_bw0 9 rfl rfl) x_nilm)))) (x_bw68 6 rfl rfl) (by decide +kernel) ⟨Nat.le_of_ble_eq_true rfl, Nat.le_of_ble_eq_true rfl⟩) hY0 hI rfl tR_d88 hl.1 (Nat.le_of_ble_eq_true rfl) (Nat.le_of_ble_eq_true rfl) (Nat.le_of_ble_eq_true rfl) (y_cons (y_cref hY_this rfl) y_nil) rfl (y_recv rfl hY_this) trivial (y_sub_ef rfl) fun v Yn o Hn L ho hr ha hIn hx_ hE hP => ?_
          replace hs_bk := y_Efld hE hY_this rfl (by decide) (by decide) hs_bk
          replace hA_bk := hA_bk.kept (y_Earr hE hY_bk rfl (by decide))
          replace hY_this := y_ext hx_ hI.1 hY_this
          replace hY_bk := y_ext hx_ hI.1 hY_bk
          have hPb := hP
          obtain rfl := hPb
          clear ho hr ha hE hP hI hx_
          rename x_I _ _ _ _ _ _ _ _ _ _ => hI
          exact y_ireturn B hI rfl rfl rfl List.mem_cons_self ⟨_, rfl, ⟨_, rfl, x_i32 _⟩⟩ (x_cs.mono B.2.2.2.2.2 (y_mon B hI)) (fun t' b' k' x' y' h' g' f' h1 h2 h3 h4 => by cases h1; cases h2.symm.trans hs0; cases z_uniq h4 hA0 h3 hcn; exact ⟨_, _, rfl, hA_bk, fun _ => ⟨rfl, rfl⟩, fun q9 => absurd q9 hno, fun q9 => absurd q9 hno⟩) (Nat.le_refl _) (Nat.le_refl _) tR_d91
        · have q49_ : ¬ r46.toInt = (0 : Int32).toInt := fun q => q49 (Int32.toInt_inj.mp q)
          refine lv_iload hx hb tR_d52 (lv_at hl 5 rfl) ?_
          obtain ⟨z54, hg_z54⟩ : ∃ z54 : Int64, h.toInt64 = z54 := ⟨_, rfl⟩
          have h_z54 : z54.toInt = (h).toInt := by rw [← hg_z54]; exact Int32.toInt_toInt64 _
          refine lv_i2l hx hb tR_d54 (v := z54) hg_z54 ?_
          refine lv_lconst hx hb tR_d55 (v := 0) (by decide) ?_
          have el0 : (0 : Int64).toInt = 0 := by decide
          refine lv_ldc2 hx hb X.2.2.2.1 (v := 99) (X.2.2.2.2.1 _ (x_bw67 14 rfl rfl)) tR_d56 ?_
          have el99 : (99 : Int64).toInt = 99 := by decide
          refine y_call (z := (1, 87, 3, none, xM148)) (av := [.long z54, .long (0 : Int64), .long (99 : Int64)]) (rest := []) (y_cokS (n := 3) X ym_in (x_cons (x_bw67 11 rfl rfl) (x_cons (x_bw67 12 rfl rfl) (x_cons (x_bw0 9 rfl rfl) x_nilm))) (x_bw67 13 rfl rfl) (by decide +kernel) ⟨Nat.le_of_ble_eq_true rfl, Nat.le_of_ble_eq_true rfl⟩) hY0 hI rfl tR_d59 hl.1 (Nat.le_of_ble_eq_true rfl) (Nat.le_of_ble_eq_true rfl) (Nat.le_of_ble_eq_true rfl) (y_cons ⟨_, rfl, x_i64 _⟩ (y_cons ⟨_, rfl, x_i64 _⟩ (y_cons ⟨_, rfl, x_i64 _⟩ y_nil))) rfl (y_norecv rfl) trivial (y_sub_ef rfl) fun v Yn o Hn L ho hr ha hIn hx_ hE hP => ?_
          replace hs_bk := y_Efld hE hY_this rfl (by decide) (by decide) hs_bk
          replace hA_bk := hA_bk.kept (y_Earr hE hY_bk rfl (by decide))
          replace hY_this := y_ext hx_ hI.1 hY_this
          replace hY_bk := y_ext hx_ hI.1 hY_bk
          obtain ⟨r59, rfl, hin_r59, hout_r59⟩ := z_inR2 (hP _ _ _ rfl)
          clear ho hr ha hE hP hI hx_
          rename x_I _ _ _ _ _ _ _ _ _ _ => hI
          refine lv_if_eq hx hb tR_d62 (tgt := 87) (by decide) (fun q62 => ?_) (fun q62 => ?_)
          · have q62_ : r59.toInt = (0 : Int32).toInt := by rw [q62]
            have hno : ¬ m_tOk k x y h g := fun q9 => by obtain ⟨a1, a2, a3, a4, a5, a6⟩ := q9; first | (have := hout_r81 q84; omega) | (have := hout_r59 q62; omega) | (have := hout_r46 q49; omega) | (have := hout_r34 q37; omega) | (have := hout_r22 q25; omega)
            refine lv_aload_n hx hb tR_d87 rfl (lv_at hl 1 rfl) ?_
            refine y_call (z := (0, 102, 1, some 17, xM143)) (av := [.ref this]) (rest := []) (y_cokV (n := 0) (ci := 12) X ym_bad rfl rfl rfl (x_cons (x_bw68 3 rfl rfl) (x_cons (x_bw68 5 rfl rfl) (x_cons (x_at 32 (by decide +kernel) rfl) (x_cons (x_bw0 9 rfl rfl) x_nilm)))) (x_bw68 6 rfl rfl) (by decide +kernel) ⟨Nat.le_of_ble_eq_true rfl, Nat.le_of_ble_eq_true rfl⟩) hY0 hI rfl tR_d88 hl.1 (Nat.le_of_ble_eq_true rfl) (Nat.le_of_ble_eq_true rfl) (Nat.le_of_ble_eq_true rfl) (y_cons (y_cref hY_this rfl) y_nil) rfl (y_recv rfl hY_this) trivial (y_sub_ef rfl) fun v Yn o Hn L ho hr ha hIn hx_ hE hP => ?_
            replace hs_bk := y_Efld hE hY_this rfl (by decide) (by decide) hs_bk
            replace hA_bk := hA_bk.kept (y_Earr hE hY_bk rfl (by decide))
            replace hY_this := y_ext hx_ hI.1 hY_this
            replace hY_bk := y_ext hx_ hI.1 hY_bk
            have hPb := hP
            obtain rfl := hPb
            clear ho hr ha hE hP hI hx_
            rename x_I _ _ _ _ _ _ _ _ _ _ => hI
            exact y_ireturn B hI rfl rfl rfl List.mem_cons_self ⟨_, rfl, ⟨_, rfl, x_i32 _⟩⟩ (x_cs.mono B.2.2.2.2.2 (y_mon B hI)) (fun t' b' k' x' y' h' g' f' h1 h2 h3 h4 => by cases h1; cases h2.symm.trans hs0; cases z_uniq h4 hA0 h3 hcn; exact ⟨_, _, rfl, hA_bk, fun _ => ⟨rfl, rfl⟩, fun q9 => absurd q9 hno, fun q9 => absurd q9 hno⟩) (Nat.le_refl _) (Nat.le_refl _) tR_d91
          · have q62_ : ¬ r59.toInt = (0 : Int32).toInt := fun q => q62 (Int32.toInt_inj.mp q)
            refine lv_iload hx hb tR_d65 (lv_at hl 6 rfl) ?_
            obtain ⟨z67, hg_z67⟩ : ∃ z67 : Int64, g.toInt64 = z67 := ⟨_, rfl⟩
            have h_z67 : z67.toInt = (g).toInt := by rw [← hg_z67]; exact Int32.toInt_toInt64 _
            refine lv_i2l hx hb tR_d67 (v := z67) hg_z67 ?_
            refine lv_lconst hx hb tR_d68 (v := 0) (by decide) ?_
            have el0 : (0 : Int64).toInt = 0 := by decide
            refine lv_iload hx hb tR_d69 (lv_at hl 0 rfl) ?_
            refine lv_if_eq hx hb tR_d71 (tgt := 78) (by decide) (fun q71 => ?_) (fun q71 => ?_)
            · have q71_ : (1 : Int32).toInt = (0 : Int32).toInt := by rw [q71]
              refine lv_ldc2 hx hb X.2.2.2.1 (v := 9) (X.2.2.2.2.1 _ (x_bw69 4 rfl rfl)) tR_d78 ?_
              have el9 : (9 : Int64).toInt = 9 := by decide
              refine y_call (z := (1, 87, 3, none, xM148)) (av := [.long z67, .long (0 : Int64), .long (9 : Int64)]) (rest := []) (y_cokS (n := 3) X ym_in (x_cons (x_bw67 11 rfl rfl) (x_cons (x_bw67 12 rfl rfl) (x_cons (x_bw0 9 rfl rfl) x_nilm))) (x_bw67 13 rfl rfl) (by decide +kernel) ⟨Nat.le_of_ble_eq_true rfl, Nat.le_of_ble_eq_true rfl⟩) hY0 hI rfl tR_d81 hl.1 (Nat.le_of_ble_eq_true rfl) (Nat.le_of_ble_eq_true rfl) (Nat.le_of_ble_eq_true rfl) (y_cons ⟨_, rfl, x_i64 _⟩ (y_cons ⟨_, rfl, x_i64 _⟩ (y_cons ⟨_, rfl, x_i64 _⟩ y_nil))) rfl (y_norecv rfl) trivial (y_sub_ef rfl) fun v Yn o Hn L ho hr ha hIn hx_ hE hP => ?_
              replace hs_bk := y_Efld hE hY_this rfl (by decide) (by decide) hs_bk
              replace hA_bk := hA_bk.kept (y_Earr hE hY_bk rfl (by decide))
              replace hY_this := y_ext hx_ hI.1 hY_this
              replace hY_bk := y_ext hx_ hI.1 hY_bk
              obtain ⟨r81, rfl, hin_r81, hout_r81⟩ := z_inR2 (hP _ _ _ rfl)
              clear ho hr ha hE hP hI hx_
              rename x_I _ _ _ _ _ _ _ _ _ _ => hI
              refine lv_if_ne hx hb tR_d84 (tgt := 92) (by decide) (fun q84 => ?_) (fun q84 => ?_)
              · have q84_ : ¬ r81.toInt = (0 : Int32).toInt := fun q => q84 (Int32.toInt_inj.mp q)
                have hw1 := hin_r22 q25
                have hw2 := hin_r34 q37
                have hw3 := hin_r46 q49
                have hw4 := hin_r59 q62
                have hw5 := hin_r81 q84
                have hok : m_tOk k x y h g := ⟨by omega, by omega, by omega, by omega, by omega, fun q9 => by omega⟩
                exact tR_L92 B rfl hs0 hA0 hd1 hcn _ _ _ _ hI hY_this hY_bk hs_bk hA_bk (lv_sub hl [1, 2, 3, 4, 5, 6] rfl) (by first | assumption | omega)
              · have q84_ : r81.toInt = (0 : Int32).toInt := by rw [q84]
                have hno : ¬ m_tOk k x y h g := fun q9 => by obtain ⟨a1, a2, a3, a4, a5, a6⟩ := q9; first | (have := hout_r81 q84; omega) | (have := hout_r59 q62; omega) | (have := hout_r46 q49; omega) | (have := hout_r34 q37; omega) | (have := hout_r22 q25; omega)
                refine lv_aload_n hx hb tR_d87 rfl (lv_at hl 1 rfl) ?_
                refine y_call (z := (0, 102, 1, some 17, xM143)) (av := [.ref this]) (rest := []) (y_cokV (n := 0) (ci := 12) X ym_bad rfl rfl rfl (x_cons (x_bw68 3 rfl rfl) (x_cons (x_bw68 5 rfl rfl) (x_cons (x_at 32 (by decide +kernel) rfl) (x_cons (x_bw0 9 rfl rfl) x_nilm)))) (x_bw68 6 rfl rfl) (by decide +kernel) ⟨Nat.le_of_ble_eq_true rfl, Nat.le_of_ble_eq_true rfl⟩) hY0 hI rfl tR_d88 hl.1 (Nat.le_of_ble_eq_true rfl) (Nat.le_of_ble_eq_true rfl) (Nat.le_of_ble_eq_true rfl) (y_cons (y_cref hY_this rfl) y_nil) rfl (y_recv rfl hY_this) trivial (y_sub_ef rfl) fun v Yn o Hn L ho hr ha hIn hx_ hE hP => ?_
                replace hs_bk := y_Efld hE hY_this rfl (by decide) (by decide) hs_bk
                replace hA_bk := hA_bk.kept (y_Earr hE hY_bk rfl (by decide))
                replace hY_this := y_ext hx_ hI.1 hY_this
                replace hY_bk := y_ext hx_ hI.1 hY_bk
                have hPb := hP
                obtain rfl := hPb
                clear ho hr ha hE hP hI hx_
                rename x_I _ _ _ _ _ _ _ _ _ _ => hI
                exact y_ireturn B hI rfl rfl rfl List.mem_cons_self ⟨_, rfl, ⟨_, rfl, x_i32 _⟩⟩ (x_cs.mono B.2.2.2.2.2 (y_mon B hI)) (fun t' b' k' x' y' h' g' f' h1 h2 h3 h4 => by cases h1; cases h2.symm.trans hs0; cases z_uniq h4 hA0 h3 hcn; exact ⟨_, _, rfl, hA_bk, fun _ => ⟨rfl, rfl⟩, fun q9 => absurd q9 hno, fun q9 => absurd q9 hno⟩) (Nat.le_refl _) (Nat.le_refl _) tR_d91
            · have q71_ : ¬ (1 : Int32).toInt = (0 : Int32).toInt := fun q => q71 (Int32.toInt_inj.mp q)
              refine lv_lconst hx hb tR_d74 (v := 0) (by decide) ?_
              have el0 : (0 : Int64).toInt = 0 := by decide
              refine lv_goto hx hb tR_d75 (tgt := 81) (by decide) ?_
              refine y_call (z := (1, 87, 3, none, xM148)) (av := [.long z67, .long (0 : Int64), .long (0 : Int64)]) (rest := []) (y_cokS (n := 3) X ym_in (x_cons (x_bw67 11 rfl rfl) (x_cons (x_bw67 12 rfl rfl) (x_cons (x_bw0 9 rfl rfl) x_nilm))) (x_bw67 13 rfl rfl) (by decide +kernel) ⟨Nat.le_of_ble_eq_true rfl, Nat.le_of_ble_eq_true rfl⟩) hY0 hI rfl tR_d81 hl.1 (Nat.le_of_ble_eq_true rfl) (Nat.le_of_ble_eq_true rfl) (Nat.le_of_ble_eq_true rfl) (y_cons ⟨_, rfl, x_i64 _⟩ (y_cons ⟨_, rfl, x_i64 _⟩ (y_cons ⟨_, rfl, x_i64 _⟩ y_nil))) rfl (y_norecv rfl) trivial (y_sub_ef rfl) fun v Yn o Hn L ho hr ha hIn hx_ hE hP => ?_
              replace hs_bk := y_Efld hE hY_this rfl (by decide) (by decide) hs_bk
              replace hA_bk := hA_bk.kept (y_Earr hE hY_bk rfl (by decide))
              replace hY_this := y_ext hx_ hI.1 hY_this
              replace hY_bk := y_ext hx_ hI.1 hY_bk
              obtain ⟨r81, rfl, hin_r81, hout_r81⟩ := z_inR2 (hP _ _ _ rfl)
              clear ho hr ha hE hP hI hx_
              rename x_I _ _ _ _ _ _ _ _ _ _ => hI
              refine lv_if_ne hx hb tR_d84 (tgt := 92) (by decide) (fun q84 => ?_) (fun q84 => ?_)
              · have q84_ : ¬ r81.toInt = (0 : Int32).toInt := fun q => q84 (Int32.toInt_inj.mp q)
                have hw1 := hin_r22 q25
                have hw2 := hin_r34 q37
                have hw3 := hin_r46 q49
                have hw4 := hin_r59 q62
                have hw5 := hin_r81 q84
                have hok : m_tOk k x y h g := ⟨by omega, by omega, by omega, by omega, by omega, fun q9 => by omega⟩
                exact tR_L92 B rfl hs0 hA0 hd1 hcn _ _ _ _ hI hY_this hY_bk hs_bk hA_bk (lv_sub hl [1, 2, 3, 4, 5, 6] rfl) (by first | assumption | omega)
              · have q84_ : r81.toInt = (0 : Int32).toInt := by rw [q84]
                have hno : ¬ m_tOk k x y h g := fun q9 => by obtain ⟨a1, a2, a3, a4, a5, a6⟩ := q9; first | (have := hout_r81 q84; omega) | (have := hout_r59 q62; omega) | (have := hout_r46 q49; omega) | (have := hout_r34 q37; omega) | (have := hout_r22 q25; omega)
                refine lv_aload_n hx hb tR_d87 rfl (lv_at hl 1 rfl) ?_
                refine y_call (z := (0, 102, 1, some 17, xM143)) (av := [.ref this]) (rest := []) (y_cokV (n := 0) (ci := 12) X ym_bad rfl rfl rfl (x_cons (x_bw68 3 rfl rfl) (x_cons (x_bw68 5 rfl rfl) (x_cons (x_at 32 (by decide +kernel) rfl) (x_cons (x_bw0 9 rfl rfl) x_nilm)))) (x_bw68 6 rfl rfl) (by decide +kernel) ⟨Nat.le_of_ble_eq_true rfl, Nat.le_of_ble_eq_true rfl⟩) hY0 hI rfl tR_d88 hl.1 (Nat.le_of_ble_eq_true rfl) (Nat.le_of_ble_eq_true rfl) (Nat.le_of_ble_eq_true rfl) (y_cons (y_cref hY_this rfl) y_nil) rfl (y_recv rfl hY_this) trivial (y_sub_ef rfl) fun v Yn o Hn L ho hr ha hIn hx_ hE hP => ?_
                replace hs_bk := y_Efld hE hY_this rfl (by decide) (by decide) hs_bk
                replace hA_bk := hA_bk.kept (y_Earr hE hY_bk rfl (by decide))
                replace hY_this := y_ext hx_ hI.1 hY_this
                replace hY_bk := y_ext hx_ hI.1 hY_bk
                have hPb := hP
                obtain rfl := hPb
                clear ho hr ha hE hP hI hx_
                rename x_I _ _ _ _ _ _ _ _ _ _ => hI
                exact y_ireturn B hI rfl rfl rfl List.mem_cons_self ⟨_, rfl, ⟨_, rfl, x_i32 _⟩⟩ (x_cs.mono B.2.2.2.2.2 (y_mon B hI)) (fun t' b' k' x' y' h' g' f' h1 h2 h3 h4 => by cases h1; cases h2.symm.trans hs0; cases z_uniq h4 hA0 h3 hcn; exact ⟨_, _, rfl, hA_bk, fun _ => ⟨rfl, rfl⟩, fun q9 => absurd q9 hno, fun q9 => absurd q9 hno⟩) (Nat.le_refl _) (Nat.le_refl _) tR_d91
  · have q1_ : ¬ k.toInt = (0 : Int32).toInt := fun q => q1 (Int32.toInt_inj.mp q)
    refine lv_iload_n hx hb tR_d4 rfl (lv_at hl 1 rfl) ?_
    refine lv_iconst hx hb tR_d5 (v := 5) (by decide) ?_
    have ec5 : (5 : Int32).toInt = 5 := by decide
    refine lv_icmp_ne hx hb tR_d6 (tgt := 13) (by decide) (fun q6 => ?_) (fun q6 => ?_)
    · have q6_ : ¬ k.toInt = (5 : Int32).toInt := fun q => q6 (Int32.toInt_inj.mp q)
      refine lv_iconst hx hb tR_d13 (v := 0) (by decide) ?_
      refine lv_istore hx hb tR_d14 hl (by decide) (lv' := [(6, .int (0 : Int32)), (0, .ref this), (1, .int k), (2, .int x), (3, .int y), (4, .int h), (5, .int g)]) rfl fun ls hl => ?_
      refine lv_iload_n hx hb tR_d16 rfl (lv_at hl 2 rfl) ?_
      obtain ⟨z17, hg_z17⟩ : ∃ z17 : Int64, k.toInt64 = z17 := ⟨_, rfl⟩
      have h_z17 : z17.toInt = (k).toInt := by rw [← hg_z17]; exact Int32.toInt_toInt64 _
      refine lv_i2l hx hb tR_d17 (v := z17) hg_z17 ?_
      refine lv_lconst hx hb tR_d18 (v := 0) (by decide) ?_
      have el0 : (0 : Int64).toInt = 0 := by decide
      refine lv_ldc2 hx hb X.2.2.2.1 (v := 5) (X.2.2.2.2.1 _ (x_bw69 3 rfl rfl)) tR_d19 ?_
      have el5 : (5 : Int64).toInt = 5 := by decide
      refine y_call (z := (1, 87, 3, none, xM148)) (av := [.long z17, .long (0 : Int64), .long (5 : Int64)]) (rest := []) (y_cokS (n := 3) X ym_in (x_cons (x_bw67 11 rfl rfl) (x_cons (x_bw67 12 rfl rfl) (x_cons (x_bw0 9 rfl rfl) x_nilm))) (x_bw67 13 rfl rfl) (by decide +kernel) ⟨Nat.le_of_ble_eq_true rfl, Nat.le_of_ble_eq_true rfl⟩) hY0 hI rfl tR_d22 hl.1 (Nat.le_of_ble_eq_true rfl) (Nat.le_of_ble_eq_true rfl) (Nat.le_of_ble_eq_true rfl) (y_cons ⟨_, rfl, x_i64 _⟩ (y_cons ⟨_, rfl, x_i64 _⟩ (y_cons ⟨_, rfl, x_i64 _⟩ y_nil))) rfl (y_norecv rfl) trivial (y_sub_ef rfl) fun v Yn o Hn L ho hr ha hIn hx_ hE hP => ?_
      replace hs_bk := y_Efld hE hY_this rfl (by decide) (by decide) hs_bk
      replace hA_bk := hA_bk.kept (y_Earr hE hY_bk rfl (by decide))
      replace hY_this := y_ext hx_ hI.1 hY_this
      replace hY_bk := y_ext hx_ hI.1 hY_bk
      obtain ⟨r22, rfl, hin_r22, hout_r22⟩ := z_inR2 (hP _ _ _ rfl)
      clear ho hr ha hE hP hI hx_
      rename x_I _ _ _ _ _ _ _ _ _ _ => hI
      refine lv_if_eq hx hb tR_d25 (tgt := 87) (by decide) (fun q25 => ?_) (fun q25 => ?_)
      · have q25_ : r22.toInt = (0 : Int32).toInt := by rw [q25]
        have hno : ¬ m_tOk k x y h g := fun q9 => by obtain ⟨a1, a2, a3, a4, a5, a6⟩ := q9; first | (have := hout_r81 q84; omega) | (have := hout_r59 q62; omega) | (have := hout_r46 q49; omega) | (have := hout_r34 q37; omega) | (have := hout_r22 q25; omega)
        refine lv_aload_n hx hb tR_d87 rfl (lv_at hl 1 rfl) ?_
        refine y_call (z := (0, 102, 1, some 17, xM143)) (av := [.ref this]) (rest := []) (y_cokV (n := 0) (ci := 12) X ym_bad rfl rfl rfl (x_cons (x_bw68 3 rfl rfl) (x_cons (x_bw68 5 rfl rfl) (x_cons (x_at 32 (by decide +kernel) rfl) (x_cons (x_bw0 9 rfl rfl) x_nilm)))) (x_bw68 6 rfl rfl) (by decide +kernel) ⟨Nat.le_of_ble_eq_true rfl, Nat.le_of_ble_eq_true rfl⟩) hY0 hI rfl tR_d88 hl.1 (Nat.le_of_ble_eq_true rfl) (Nat.le_of_ble_eq_true rfl) (Nat.le_of_ble_eq_true rfl) (y_cons (y_cref hY_this rfl) y_nil) rfl (y_recv rfl hY_this) trivial (y_sub_ef rfl) fun v Yn o Hn L ho hr ha hIn hx_ hE hP => ?_
        replace hs_bk := y_Efld hE hY_this rfl (by decide) (by decide) hs_bk
        replace hA_bk := hA_bk.kept (y_Earr hE hY_bk rfl (by decide))
        replace hY_this := y_ext hx_ hI.1 hY_this
        replace hY_bk := y_ext hx_ hI.1 hY_bk
        have hPb := hP
        obtain rfl := hPb
        clear ho hr ha hE hP hI hx_
        rename x_I _ _ _ _ _ _ _ _ _ _ => hI
        exact y_ireturn B hI rfl rfl rfl List.mem_cons_self ⟨_, rfl, ⟨_, rfl, x_i32 _⟩⟩ (x_cs.mono B.2.2.2.2.2 (y_mon B hI)) (fun t' b' k' x' y' h' g' f' h1 h2 h3 h4 => by cases h1; cases h2.symm.trans hs0; cases z_uniq h4 hA0 h3 hcn; exact ⟨_, _, rfl, hA_bk, fun _ => ⟨rfl, rfl⟩, fun q9 => absurd q9 hno, fun q9 => absurd q9 hno⟩) (Nat.le_refl _) (Nat.le_refl _) tR_d91
      · have q25_ : ¬ r22.toInt = (0 : Int32).toInt := fun q => q25 (Int32.toInt_inj.mp q)
        refine lv_iload_n hx hb tR_d28 rfl (lv_at hl 3 rfl) ?_
        obtain ⟨z29, hg_z29⟩ : ∃ z29 : Int64, x.toInt64 = z29 := ⟨_, rfl⟩
        have h_z29 : z29.toInt = (x).toInt := by rw [← hg_z29]; exact Int32.toInt_toInt64 _
        refine lv_i2l hx hb tR_d29 (v := z29) hg_z29 ?_
        refine lv_lconst hx hb tR_d30 (v := 0) (by decide) ?_
        have el0 : (0 : Int64).toInt = 0 := by decide
        refine lv_ldc2 hx hb X.2.2.2.1 (v := 19) (X.2.2.2.2.1 _ (x_bw67 10 rfl rfl)) tR_d31 ?_
        have el19 : (19 : Int64).toInt = 19 := by decide
        refine y_call (z := (1, 87, 3, none, xM148)) (av := [.long z29, .long (0 : Int64), .long (19 : Int64)]) (rest := []) (y_cokS (n := 3) X ym_in (x_cons (x_bw67 11 rfl rfl) (x_cons (x_bw67 12 rfl rfl) (x_cons (x_bw0 9 rfl rfl) x_nilm))) (x_bw67 13 rfl rfl) (by decide +kernel) ⟨Nat.le_of_ble_eq_true rfl, Nat.le_of_ble_eq_true rfl⟩) hY0 hI rfl tR_d34 hl.1 (Nat.le_of_ble_eq_true rfl) (Nat.le_of_ble_eq_true rfl) (Nat.le_of_ble_eq_true rfl) (y_cons ⟨_, rfl, x_i64 _⟩ (y_cons ⟨_, rfl, x_i64 _⟩ (y_cons ⟨_, rfl, x_i64 _⟩ y_nil))) rfl (y_norecv rfl) trivial (y_sub_ef rfl) fun v Yn o Hn L ho hr ha hIn hx_ hE hP => ?_
        replace hs_bk := y_Efld hE hY_this rfl (by decide) (by decide) hs_bk
        replace hA_bk := hA_bk.kept (y_Earr hE hY_bk rfl (by decide))
        replace hY_this := y_ext hx_ hI.1 hY_this
        replace hY_bk := y_ext hx_ hI.1 hY_bk
        obtain ⟨r34, rfl, hin_r34, hout_r34⟩ := z_inR2 (hP _ _ _ rfl)
        clear ho hr ha hE hP hI hx_
        rename x_I _ _ _ _ _ _ _ _ _ _ => hI
        refine lv_if_eq hx hb tR_d37 (tgt := 87) (by decide) (fun q37 => ?_) (fun q37 => ?_)
        · have q37_ : r34.toInt = (0 : Int32).toInt := by rw [q37]
          have hno : ¬ m_tOk k x y h g := fun q9 => by obtain ⟨a1, a2, a3, a4, a5, a6⟩ := q9; first | (have := hout_r81 q84; omega) | (have := hout_r59 q62; omega) | (have := hout_r46 q49; omega) | (have := hout_r34 q37; omega) | (have := hout_r22 q25; omega)
          refine lv_aload_n hx hb tR_d87 rfl (lv_at hl 1 rfl) ?_
          refine y_call (z := (0, 102, 1, some 17, xM143)) (av := [.ref this]) (rest := []) (y_cokV (n := 0) (ci := 12) X ym_bad rfl rfl rfl (x_cons (x_bw68 3 rfl rfl) (x_cons (x_bw68 5 rfl rfl) (x_cons (x_at 32 (by decide +kernel) rfl) (x_cons (x_bw0 9 rfl rfl) x_nilm)))) (x_bw68 6 rfl rfl) (by decide +kernel) ⟨Nat.le_of_ble_eq_true rfl, Nat.le_of_ble_eq_true rfl⟩) hY0 hI rfl tR_d88 hl.1 (Nat.le_of_ble_eq_true rfl) (Nat.le_of_ble_eq_true rfl) (Nat.le_of_ble_eq_true rfl) (y_cons (y_cref hY_this rfl) y_nil) rfl (y_recv rfl hY_this) trivial (y_sub_ef rfl) fun v Yn o Hn L ho hr ha hIn hx_ hE hP => ?_
          replace hs_bk := y_Efld hE hY_this rfl (by decide) (by decide) hs_bk
          replace hA_bk := hA_bk.kept (y_Earr hE hY_bk rfl (by decide))
          replace hY_this := y_ext hx_ hI.1 hY_this
          replace hY_bk := y_ext hx_ hI.1 hY_bk
          have hPb := hP
          obtain rfl := hPb
          clear ho hr ha hE hP hI hx_
          rename x_I _ _ _ _ _ _ _ _ _ _ => hI
          exact y_ireturn B hI rfl rfl rfl List.mem_cons_self ⟨_, rfl, ⟨_, rfl, x_i32 _⟩⟩ (x_cs.mono B.2.2.2.2.2 (y_mon B hI)) (fun t' b' k' x' y' h' g' f' h1 h2 h3 h4 => by cases h1; cases h2.symm.trans hs0; cases z_uniq h4 hA0 h3 hcn; exact ⟨_, _, rfl, hA_bk, fun _ => ⟨rfl, rfl⟩, fun q9 => absurd q9 hno, fun q9 => absurd q9 hno⟩) (Nat.le_refl _) (Nat.le_refl _) tR_d91
        · have q37_ : ¬ r34.toInt = (0 : Int32).toInt := fun q => q37 (Int32.toInt_inj.mp q)
          refine lv_iload_n hx hb tR_d40 rfl (lv_at hl 4 rfl) ?_
          obtain ⟨z41, hg_z41⟩ : ∃ z41 : Int64, y.toInt64 = z41 := ⟨_, rfl⟩
          have h_z41 : z41.toInt = (y).toInt := by rw [← hg_z41]; exact Int32.toInt_toInt64 _
          refine lv_i2l hx hb tR_d41 (v := z41) hg_z41 ?_
          refine lv_lconst hx hb tR_d42 (v := 0) (by decide) ?_
          have el0 : (0 : Int64).toInt = 0 := by decide
          refine lv_ldc2 hx hb X.2.2.2.1 (v := 19) (X.2.2.2.2.1 _ (x_bw67 10 rfl rfl)) tR_d43 ?_
          have el19 : (19 : Int64).toInt = 19 := by decide
          refine y_call (z := (1, 87, 3, none, xM148)) (av := [.long z41, .long (0 : Int64), .long (19 : Int64)]) (rest := []) (y_cokS (n := 3) X ym_in (x_cons (x_bw67 11 rfl rfl) (x_cons (x_bw67 12 rfl rfl) (x_cons (x_bw0 9 rfl rfl) x_nilm))) (x_bw67 13 rfl rfl) (by decide +kernel) ⟨Nat.le_of_ble_eq_true rfl, Nat.le_of_ble_eq_true rfl⟩) hY0 hI rfl tR_d46 hl.1 (Nat.le_of_ble_eq_true rfl) (Nat.le_of_ble_eq_true rfl) (Nat.le_of_ble_eq_true rfl) (y_cons ⟨_, rfl, x_i64 _⟩ (y_cons ⟨_, rfl, x_i64 _⟩ (y_cons ⟨_, rfl, x_i64 _⟩ y_nil))) rfl (y_norecv rfl) trivial (y_sub_ef rfl) fun v Yn o Hn L ho hr ha hIn hx_ hE hP => ?_
          replace hs_bk := y_Efld hE hY_this rfl (by decide) (by decide) hs_bk
          replace hA_bk := hA_bk.kept (y_Earr hE hY_bk rfl (by decide))
          replace hY_this := y_ext hx_ hI.1 hY_this
          replace hY_bk := y_ext hx_ hI.1 hY_bk
          obtain ⟨r46, rfl, hin_r46, hout_r46⟩ := z_inR2 (hP _ _ _ rfl)
          clear ho hr ha hE hP hI hx_
          rename x_I _ _ _ _ _ _ _ _ _ _ => hI
          refine lv_if_eq hx hb tR_d49 (tgt := 87) (by decide) (fun q49 => ?_) (fun q49 => ?_)
          · have q49_ : r46.toInt = (0 : Int32).toInt := by rw [q49]
            have hno : ¬ m_tOk k x y h g := fun q9 => by obtain ⟨a1, a2, a3, a4, a5, a6⟩ := q9; first | (have := hout_r81 q84; omega) | (have := hout_r59 q62; omega) | (have := hout_r46 q49; omega) | (have := hout_r34 q37; omega) | (have := hout_r22 q25; omega)
            refine lv_aload_n hx hb tR_d87 rfl (lv_at hl 1 rfl) ?_
            refine y_call (z := (0, 102, 1, some 17, xM143)) (av := [.ref this]) (rest := []) (y_cokV (n := 0) (ci := 12) X ym_bad rfl rfl rfl (x_cons (x_bw68 3 rfl rfl) (x_cons (x_bw68 5 rfl rfl) (x_cons (x_at 32 (by decide +kernel) rfl) (x_cons (x_bw0 9 rfl rfl) x_nilm)))) (x_bw68 6 rfl rfl) (by decide +kernel) ⟨Nat.le_of_ble_eq_true rfl, Nat.le_of_ble_eq_true rfl⟩) hY0 hI rfl tR_d88 hl.1 (Nat.le_of_ble_eq_true rfl) (Nat.le_of_ble_eq_true rfl) (Nat.le_of_ble_eq_true rfl) (y_cons (y_cref hY_this rfl) y_nil) rfl (y_recv rfl hY_this) trivial (y_sub_ef rfl) fun v Yn o Hn L ho hr ha hIn hx_ hE hP => ?_
            replace hs_bk := y_Efld hE hY_this rfl (by decide) (by decide) hs_bk
            replace hA_bk := hA_bk.kept (y_Earr hE hY_bk rfl (by decide))
            replace hY_this := y_ext hx_ hI.1 hY_this
            replace hY_bk := y_ext hx_ hI.1 hY_bk
            have hPb := hP
            obtain rfl := hPb
            clear ho hr ha hE hP hI hx_
            rename x_I _ _ _ _ _ _ _ _ _ _ => hI
            exact y_ireturn B hI rfl rfl rfl List.mem_cons_self ⟨_, rfl, ⟨_, rfl, x_i32 _⟩⟩ (x_cs.mono B.2.2.2.2.2 (y_mon B hI)) (fun t' b' k' x' y' h' g' f' h1 h2 h3 h4 => by cases h1; cases h2.symm.trans hs0; cases z_uniq h4 hA0 h3 hcn; exact ⟨_, _, rfl, hA_bk, fun _ => ⟨rfl, rfl⟩, fun q9 => absurd q9 hno, fun q9 => absurd q9 hno⟩) (Nat.le_refl _) (Nat.le_refl _) tR_d91
          · have q49_ : ¬ r46.toInt = (0 : Int32).toInt := fun q => q49 (Int32.toInt_inj.mp q)
            refine lv_iload hx hb tR_d52 (lv_at hl 5 rfl) ?_
            obtain ⟨z54, hg_z54⟩ : ∃ z54 : Int64, h.toInt64 = z54 := ⟨_, rfl⟩
            have h_z54 : z54.toInt = (h).toInt := by rw [← hg_z54]; exact Int32.toInt_toInt64 _
            refine lv_i2l hx hb tR_d54 (v := z54) hg_z54 ?_
            refine lv_lconst hx hb tR_d55 (v := 0) (by decide) ?_
            have el0 : (0 : Int64).toInt = 0 := by decide
            refine lv_ldc2 hx hb X.2.2.2.1 (v := 99) (X.2.2.2.2.1 _ (x_bw67 14 rfl rfl)) tR_d56 ?_
            have el99 : (99 : Int64).toInt = 99 := by decide
            refine y_call (z := (1, 87, 3, none, xM148)) (av := [.long z54, .long (0 : Int64), .long (99 : Int64)]) (rest := []) (y_cokS (n := 3) X ym_in (x_cons (x_bw67 11 rfl rfl) (x_cons (x_bw67 12 rfl rfl) (x_cons (x_bw0 9 rfl rfl) x_nilm))) (x_bw67 13 rfl rfl) (by decide +kernel) ⟨Nat.le_of_ble_eq_true rfl, Nat.le_of_ble_eq_true rfl⟩) hY0 hI rfl tR_d59 hl.1 (Nat.le_of_ble_eq_true rfl) (Nat.le_of_ble_eq_true rfl) (Nat.le_of_ble_eq_true rfl) (y_cons ⟨_, rfl, x_i64 _⟩ (y_cons ⟨_, rfl, x_i64 _⟩ (y_cons ⟨_, rfl, x_i64 _⟩ y_nil))) rfl (y_norecv rfl) trivial (y_sub_ef rfl) fun v Yn o Hn L ho hr ha hIn hx_ hE hP => ?_
            replace hs_bk := y_Efld hE hY_this rfl (by decide) (by decide) hs_bk
            replace hA_bk := hA_bk.kept (y_Earr hE hY_bk rfl (by decide))
            replace hY_this := y_ext hx_ hI.1 hY_this
            replace hY_bk := y_ext hx_ hI.1 hY_bk
            obtain ⟨r59, rfl, hin_r59, hout_r59⟩ := z_inR2 (hP _ _ _ rfl)
            clear ho hr ha hE hP hI hx_
            rename x_I _ _ _ _ _ _ _ _ _ _ => hI
            refine lv_if_eq hx hb tR_d62 (tgt := 87) (by decide) (fun q62 => ?_) (fun q62 => ?_)
            · have q62_ : r59.toInt = (0 : Int32).toInt := by rw [q62]
              have hno : ¬ m_tOk k x y h g := fun q9 => by obtain ⟨a1, a2, a3, a4, a5, a6⟩ := q9; first | (have := hout_r81 q84; omega) | (have := hout_r59 q62; omega) | (have := hout_r46 q49; omega) | (have := hout_r34 q37; omega) | (have := hout_r22 q25; omega)
              refine lv_aload_n hx hb tR_d87 rfl (lv_at hl 1 rfl) ?_
              refine y_call (z := (0, 102, 1, some 17, xM143)) (av := [.ref this]) (rest := []) (y_cokV (n := 0) (ci := 12) X ym_bad rfl rfl rfl (x_cons (x_bw68 3 rfl rfl) (x_cons (x_bw68 5 rfl rfl) (x_cons (x_at 32 (by decide +kernel) rfl) (x_cons (x_bw0 9 rfl rfl) x_nilm)))) (x_bw68 6 rfl rfl) (by decide +kernel) ⟨Nat.le_of_ble_eq_true rfl, Nat.le_of_ble_eq_true rfl⟩) hY0 hI rfl tR_d88 hl.1 (Nat.le_of_ble_eq_true rfl) (Nat.le_of_ble_eq_true rfl) (Nat.le_of_ble_eq_true rfl) (y_cons (y_cref hY_this rfl) y_nil) rfl (y_recv rfl hY_this) trivial (y_sub_ef rfl) fun v Yn o Hn L ho hr ha hIn hx_ hE hP => ?_
              replace hs_bk := y_Efld hE hY_this rfl (by decide) (by decide) hs_bk
              replace hA_bk := hA_bk.kept (y_Earr hE hY_bk rfl (by decide))
              replace hY_this := y_ext hx_ hI.1 hY_this
              replace hY_bk := y_ext hx_ hI.1 hY_bk
              have hPb := hP
              obtain rfl := hPb
              clear ho hr ha hE hP hI hx_
              rename x_I _ _ _ _ _ _ _ _ _ _ => hI
              exact y_ireturn B hI rfl rfl rfl List.mem_cons_self ⟨_, rfl, ⟨_, rfl, x_i32 _⟩⟩ (x_cs.mono B.2.2.2.2.2 (y_mon B hI)) (fun t' b' k' x' y' h' g' f' h1 h2 h3 h4 => by cases h1; cases h2.symm.trans hs0; cases z_uniq h4 hA0 h3 hcn; exact ⟨_, _, rfl, hA_bk, fun _ => ⟨rfl, rfl⟩, fun q9 => absurd q9 hno, fun q9 => absurd q9 hno⟩) (Nat.le_refl _) (Nat.le_refl _) tR_d91
            · have q62_ : ¬ r59.toInt = (0 : Int32).toInt := fun q => q62 (Int32.toInt_inj.mp q)
              refine lv_iload hx hb tR_d65 (lv_at hl 6 rfl) ?_
              obtain ⟨z67, hg_z67⟩ : ∃ z67 : Int64, g.toInt64 = z67 := ⟨_, rfl⟩
              have h_z67 : z67.toInt = (g).toInt := by rw [← hg_z67]; exact Int32.toInt_toInt64 _
              refine lv_i2l hx hb tR_d67 (v := z67) hg_z67 ?_
              refine lv_lconst hx hb tR_d68 (v := 0) (by decide) ?_
              have el0 : (0 : Int64).toInt = 0 := by decide
              refine lv_iload hx hb tR_d69 (lv_at hl 0 rfl) ?_
              refine lv_if_eq hx hb tR_d71 (tgt := 78) (by decide) (fun q71 => ?_) (fun q71 => ?_)
              · have q71_ : (0 : Int32).toInt = (0 : Int32).toInt := by rw [q71]
                refine lv_ldc2 hx hb X.2.2.2.1 (v := 9) (X.2.2.2.2.1 _ (x_bw69 4 rfl rfl)) tR_d78 ?_
                have el9 : (9 : Int64).toInt = 9 := by decide
                refine y_call (z := (1, 87, 3, none, xM148)) (av := [.long z67, .long (0 : Int64), .long (9 : Int64)]) (rest := []) (y_cokS (n := 3) X ym_in (x_cons (x_bw67 11 rfl rfl) (x_cons (x_bw67 12 rfl rfl) (x_cons (x_bw0 9 rfl rfl) x_nilm))) (x_bw67 13 rfl rfl) (by decide +kernel) ⟨Nat.le_of_ble_eq_true rfl, Nat.le_of_ble_eq_true rfl⟩) hY0 hI rfl tR_d81 hl.1 (Nat.le_of_ble_eq_true rfl) (Nat.le_of_ble_eq_true rfl) (Nat.le_of_ble_eq_true rfl) (y_cons ⟨_, rfl, x_i64 _⟩ (y_cons ⟨_, rfl, x_i64 _⟩ (y_cons ⟨_, rfl, x_i64 _⟩ y_nil))) rfl (y_norecv rfl) trivial (y_sub_ef rfl) fun v Yn o Hn L ho hr ha hIn hx_ hE hP => ?_
                replace hs_bk := y_Efld hE hY_this rfl (by decide) (by decide) hs_bk
                replace hA_bk := hA_bk.kept (y_Earr hE hY_bk rfl (by decide))
                replace hY_this := y_ext hx_ hI.1 hY_this
                replace hY_bk := y_ext hx_ hI.1 hY_bk
                obtain ⟨r81, rfl, hin_r81, hout_r81⟩ := z_inR2 (hP _ _ _ rfl)
                clear ho hr ha hE hP hI hx_
                rename x_I _ _ _ _ _ _ _ _ _ _ => hI
                refine lv_if_ne hx hb tR_d84 (tgt := 92) (by decide) (fun q84 => ?_) (fun q84 => ?_)
                · have q84_ : ¬ r81.toInt = (0 : Int32).toInt := fun q => q84 (Int32.toInt_inj.mp q)
                  have hw1 := hin_r22 q25
                  have hw2 := hin_r34 q37
                  have hw3 := hin_r46 q49
                  have hw4 := hin_r59 q62
                  have hw5 := hin_r81 q84
                  have hok : m_tOk k x y h g := ⟨by omega, by omega, by omega, by omega, by omega, fun q9 => by omega⟩
                  exact tR_L92 B rfl hs0 hA0 hd1 hcn _ _ _ _ hI hY_this hY_bk hs_bk hA_bk (lv_sub hl [1, 2, 3, 4, 5, 6] rfl) (by first | assumption | omega)
                · have q84_ : r81.toInt = (0 : Int32).toInt := by rw [q84]
                  have hno : ¬ m_tOk k x y h g := fun q9 => by obtain ⟨a1, a2, a3, a4, a5, a6⟩ := q9; first | (have := hout_r81 q84; omega) | (have := hout_r59 q62; omega) | (have := hout_r46 q49; omega) | (have := hout_r34 q37; omega) | (have := hout_r22 q25; omega)
                  refine lv_aload_n hx hb tR_d87 rfl (lv_at hl 1 rfl) ?_
                  refine y_call (z := (0, 102, 1, some 17, xM143)) (av := [.ref this]) (rest := []) (y_cokV (n := 0) (ci := 12) X ym_bad rfl rfl rfl (x_cons (x_bw68 3 rfl rfl) (x_cons (x_bw68 5 rfl rfl) (x_cons (x_at 32 (by decide +kernel) rfl) (x_cons (x_bw0 9 rfl rfl) x_nilm)))) (x_bw68 6 rfl rfl) (by decide +kernel) ⟨Nat.le_of_ble_eq_true rfl, Nat.le_of_ble_eq_true rfl⟩) hY0 hI rfl tR_d88 hl.1 (Nat.le_of_ble_eq_true rfl) (Nat.le_of_ble_eq_true rfl) (Nat.le_of_ble_eq_true rfl) (y_cons (y_cref hY_this rfl) y_nil) rfl (y_recv rfl hY_this) trivial (y_sub_ef rfl) fun v Yn o Hn L ho hr ha hIn hx_ hE hP => ?_
                  replace hs_bk := y_Efld hE hY_this rfl (by decide) (by decide) hs_bk
                  replace hA_bk := hA_bk.kept (y_Earr hE hY_bk rfl (by decide))
                  replace hY_this := y_ext hx_ hI.1 hY_this
                  replace hY_bk := y_ext hx_ hI.1 hY_bk
                  have hPb := hP
                  obtain rfl := hPb
                  clear ho hr ha hE hP hI hx_
                  rename x_I _ _ _ _ _ _ _ _ _ _ => hI
                  exact y_ireturn B hI rfl rfl rfl List.mem_cons_self ⟨_, rfl, ⟨_, rfl, x_i32 _⟩⟩ (x_cs.mono B.2.2.2.2.2 (y_mon B hI)) (fun t' b' k' x' y' h' g' f' h1 h2 h3 h4 => by cases h1; cases h2.symm.trans hs0; cases z_uniq h4 hA0 h3 hcn; exact ⟨_, _, rfl, hA_bk, fun _ => ⟨rfl, rfl⟩, fun q9 => absurd q9 hno, fun q9 => absurd q9 hno⟩) (Nat.le_refl _) (Nat.le_refl _) tR_d91
              · have q71_ : ¬ (0 : Int32).toInt = (0 : Int32).toInt := fun q => q71 (Int32.toInt_inj.mp q)
                refine lv_lconst hx hb tR_d74 (v := 0) (by decide) ?_
                have el0 : (0 : Int64).toInt = 0 := by decide
                refine lv_goto hx hb tR_d75 (tgt := 81) (by decide) ?_
                refine y_call (z := (1, 87, 3, none, xM148)) (av := [.long z67, .long (0 : Int64), .long (0 : Int64)]) (rest := []) (y_cokS (n := 3) X ym_in (x_cons (x_bw67 11 rfl rfl) (x_cons (x_bw67 12 rfl rfl) (x_cons (x_bw0 9 rfl rfl) x_nilm))) (x_bw67 13 rfl rfl) (by decide +kernel) ⟨Nat.le_of_ble_eq_true rfl, Nat.le_of_ble_eq_true rfl⟩) hY0 hI rfl tR_d81 hl.1 (Nat.le_of_ble_eq_true rfl) (Nat.le_of_ble_eq_true rfl) (Nat.le_of_ble_eq_true rfl) (y_cons ⟨_, rfl, x_i64 _⟩ (y_cons ⟨_, rfl, x_i64 _⟩ (y_cons ⟨_, rfl, x_i64 _⟩ y_nil))) rfl (y_norecv rfl) trivial (y_sub_ef rfl) fun v Yn o Hn L ho hr ha hIn hx_ hE hP => ?_
                replace hs_bk := y_Efld hE hY_this rfl (by decide) (by decide) hs_bk
                replace hA_bk := hA_bk.kept (y_Earr hE hY_bk rfl (by decide))
                replace hY_this := y_ext hx_ hI.1 hY_this
                replace hY_bk := y_ext hx_ hI.1 hY_bk
                obtain ⟨r81, rfl, hin_r81, hout_r81⟩ := z_inR2 (hP _ _ _ rfl)
                clear ho hr ha hE hP hI hx_
                rename x_I _ _ _ _ _ _ _ _ _ _ => hI
                refine lv_if_ne hx hb tR_d84 (tgt := 92) (by decide) (fun q84 => ?_) (fun q84 => ?_)
                · have q84_ : ¬ r81.toInt = (0 : Int32).toInt := fun q => q84 (Int32.toInt_inj.mp q)
                  have hw1 := hin_r22 q25
                  have hw2 := hin_r34 q37
                  have hw3 := hin_r46 q49
                  have hw4 := hin_r59 q62
                  have hw5 := hin_r81 q84
                  have hok : m_tOk k x y h g := ⟨by omega, by omega, by omega, by omega, by omega, fun q9 => by omega⟩
                  exact tR_L92 B rfl hs0 hA0 hd1 hcn _ _ _ _ hI hY_this hY_bk hs_bk hA_bk (lv_sub hl [1, 2, 3, 4, 5, 6] rfl) (by first | assumption | omega)
                · have q84_ : r81.toInt = (0 : Int32).toInt := by rw [q84]
                  have hno : ¬ m_tOk k x y h g := fun q9 => by obtain ⟨a1, a2, a3, a4, a5, a6⟩ := q9; first | (have := hout_r81 q84; omega) | (have := hout_r59 q62; omega) | (have := hout_r46 q49; omega) | (have := hout_r34 q37; omega) | (have := hout_r22 q25; omega)
                  refine lv_aload_n hx hb tR_d87 rfl (lv_at hl 1 rfl) ?_
                  refine y_call (z := (0, 102, 1, some 17, xM143)) (av := [.ref this]) (rest := []) (y_cokV (n := 0) (ci := 12) X ym_bad rfl rfl rfl (x_cons (x_bw68 3 rfl rfl) (x_cons (x_bw68 5 rfl rfl) (x_cons (x_at 32 (by decide +kernel) rfl) (x_cons (x_bw0 9 rfl rfl) x_nilm)))) (x_bw68 6 rfl rfl) (by decide +kernel) ⟨Nat.le_of_ble_eq_true rfl, Nat.le_of_ble_eq_true rfl⟩) hY0 hI rfl tR_d88 hl.1 (Nat.le_of_ble_eq_true rfl) (Nat.le_of_ble_eq_true rfl) (Nat.le_of_ble_eq_true rfl) (y_cons (y_cref hY_this rfl) y_nil) rfl (y_recv rfl hY_this) trivial (y_sub_ef rfl) fun v Yn o Hn L ho hr ha hIn hx_ hE hP => ?_
                  replace hs_bk := y_Efld hE hY_this rfl (by decide) (by decide) hs_bk
                  replace hA_bk := hA_bk.kept (y_Earr hE hY_bk rfl (by decide))
                  replace hY_this := y_ext hx_ hI.1 hY_this
                  replace hY_bk := y_ext hx_ hI.1 hY_bk
                  have hPb := hP
                  obtain rfl := hPb
                  clear ho hr ha hE hP hI hx_
                  rename x_I _ _ _ _ _ _ _ _ _ _ => hI
                  exact y_ireturn B hI rfl rfl rfl List.mem_cons_self ⟨_, rfl, ⟨_, rfl, x_i32 _⟩⟩ (x_cs.mono B.2.2.2.2.2 (y_mon B hI)) (fun t' b' k' x' y' h' g' f' h1 h2 h3 h4 => by cases h1; cases h2.symm.trans hs0; cases z_uniq h4 hA0 h3 hcn; exact ⟨_, _, rfl, hA_bk, fun _ => ⟨rfl, rfl⟩, fun q9 => absurd q9 hno, fun q9 => absurd q9 hno⟩) (Nat.le_refl _) (Nat.le_refl _) tR_d91
    · have q6_ : k.toInt = (5 : Int32).toInt := by rw [q6]
      refine lv_iconst hx hb tR_d9 (v := 1) (by decide) ?_
      have ec1 : (1 : Int32).toInt = 1 := by decide
      refine lv_goto hx hb tR_d10 (tgt := 14) (by decide) ?_
      refine lv_istore hx hb tR_d14 hl (by decide) (lv' := [(6, .int (1 : Int32)), (0, .ref this), (1, .int k), (2, .int x), (3, .int y), (4, .int h), (5, .int g)]) rfl fun ls hl => ?_
      refine lv_iload_n hx hb tR_d16 rfl (lv_at hl 2 rfl) ?_
      obtain ⟨z17, hg_z17⟩ : ∃ z17 : Int64, k.toInt64 = z17 := ⟨_, rfl⟩
      have h_z17 : z17.toInt = (k).toInt := by rw [← hg_z17]; exact Int32.toInt_toInt64 _
      refine lv_i2l hx hb tR_d17 (v := z17) hg_z17 ?_
      refine lv_lconst hx hb tR_d18 (v := 0) (by decide) ?_
      have el0 : (0 : Int64).toInt = 0 := by decide
      refine lv_ldc2 hx hb X.2.2.2.1 (v := 5) (X.2.2.2.2.1 _ (x_bw69 3 rfl rfl)) tR_d19 ?_
      have el5 : (5 : Int64).toInt = 5 := by decide
      refine y_call (z := (1, 87, 3, none, xM148)) (av := [.long z17, .long (0 : Int64), .long (5 : Int64)]) (rest := []) (y_cokS (n := 3) X ym_in (x_cons (x_bw67 11 rfl rfl) (x_cons (x_bw67 12 rfl rfl) (x_cons (x_bw0 9 rfl rfl) x_nilm))) (x_bw67 13 rfl rfl) (by decide +kernel) ⟨Nat.le_of_ble_eq_true rfl, Nat.le_of_ble_eq_true rfl⟩) hY0 hI rfl tR_d22 hl.1 (Nat.le_of_ble_eq_true rfl) (Nat.le_of_ble_eq_true rfl) (Nat.le_of_ble_eq_true rfl) (y_cons ⟨_, rfl, x_i64 _⟩ (y_cons ⟨_, rfl, x_i64 _⟩ (y_cons ⟨_, rfl, x_i64 _⟩ y_nil))) rfl (y_norecv rfl) trivial (y_sub_ef rfl) fun v Yn o Hn L ho hr ha hIn hx_ hE hP => ?_
      replace hs_bk := y_Efld hE hY_this rfl (by decide) (by decide) hs_bk
      replace hA_bk := hA_bk.kept (y_Earr hE hY_bk rfl (by decide))
      replace hY_this := y_ext hx_ hI.1 hY_this
      replace hY_bk := y_ext hx_ hI.1 hY_bk
      obtain ⟨r22, rfl, hin_r22, hout_r22⟩ := z_inR2 (hP _ _ _ rfl)
      clear ho hr ha hE hP hI hx_
      rename x_I _ _ _ _ _ _ _ _ _ _ => hI
      refine lv_if_eq hx hb tR_d25 (tgt := 87) (by decide) (fun q25 => ?_) (fun q25 => ?_)
      · have q25_ : r22.toInt = (0 : Int32).toInt := by rw [q25]
        have hno : ¬ m_tOk k x y h g := fun q9 => by obtain ⟨a1, a2, a3, a4, a5, a6⟩ := q9; first | (have := hout_r81 q84; omega) | (have := hout_r59 q62; omega) | (have := hout_r46 q49; omega) | (have := hout_r34 q37; omega) | (have := hout_r22 q25; omega)
        refine lv_aload_n hx hb tR_d87 rfl (lv_at hl 1 rfl) ?_
        refine y_call (z := (0, 102, 1, some 17, xM143)) (av := [.ref this]) (rest := []) (y_cokV (n := 0) (ci := 12) X ym_bad rfl rfl rfl (x_cons (x_bw68 3 rfl rfl) (x_cons (x_bw68 5 rfl rfl) (x_cons (x_at 32 (by decide +kernel) rfl) (x_cons (x_bw0 9 rfl rfl) x_nilm)))) (x_bw68 6 rfl rfl) (by decide +kernel) ⟨Nat.le_of_ble_eq_true rfl, Nat.le_of_ble_eq_true rfl⟩) hY0 hI rfl tR_d88 hl.1 (Nat.le_of_ble_eq_true rfl) (Nat.le_of_ble_eq_true rfl) (Nat.le_of_ble_eq_true rfl) (y_cons (y_cref hY_this rfl) y_nil) rfl (y_recv rfl hY_this) trivial (y_sub_ef rfl) fun v Yn o Hn L ho hr ha hIn hx_ hE hP => ?_
        replace hs_bk := y_Efld hE hY_this rfl (by decide) (by decide) hs_bk
        replace hA_bk := hA_bk.kept (y_Earr hE hY_bk rfl (by decide))
        replace hY_this := y_ext hx_ hI.1 hY_this
        replace hY_bk := y_ext hx_ hI.1 hY_bk
        have hPb := hP
        obtain rfl := hPb
        clear ho hr ha hE hP hI hx_
        rename x_I _ _ _ _ _ _ _ _ _ _ => hI
        exact y_ireturn B hI rfl rfl rfl List.mem_cons_self ⟨_, rfl, ⟨_, rfl, x_i32 _⟩⟩ (x_cs.mono B.2.2.2.2.2 (y_mon B hI)) (fun t' b' k' x' y' h' g' f' h1 h2 h3 h4 => by cases h1; cases h2.symm.trans hs0; cases z_uniq h4 hA0 h3 hcn; exact ⟨_, _, rfl, hA_bk, fun _ => ⟨rfl, rfl⟩, fun q9 => absurd q9 hno, fun q9 => absurd q9 hno⟩) (Nat.le_refl _) (Nat.le_refl _) tR_d91
      · have q25_ : ¬ r22.toInt = (0 : Int32).toInt := fun q => q25 (Int32.toInt_inj.mp q)
        refine lv_iload_n hx hb tR_d28 rfl (lv_at hl 3 rfl) ?_
        obtain ⟨z29, hg_z29⟩ : ∃ z29 : Int64, x.toInt64 = z29 := ⟨_, rfl⟩
        have h_z29 : z29.toInt = (x).toInt := by rw [← hg_z29]; exact Int32.toInt_toInt64 _
        refine lv_i2l hx hb tR_d29 (v := z29) hg_z29 ?_
        refine lv_lconst hx hb tR_d30 (v := 0) (by decide) ?_
        have el0 : (0 : Int64).toInt = 0 := by decide
        refine lv_ldc2 hx hb X.2.2.2.1 (v := 19) (X.2.2.2.2.1 _ (x_bw67 10 rfl rfl)) tR_d31 ?_
        have el19 : (19 : Int64).toInt = 19 := by decide
        refine y_call (z := (1, 87, 3, none, xM148)) (av := [.long z29, .long (0 : Int64), .long (19 : Int64)]) (rest := []) (y_cokS (n := 3) X ym_in (x_cons (x_bw67 11 rfl rfl) (x_cons (x_bw67 12 rfl rfl) (x_cons (x_bw0 9 rfl rfl) x_nilm))) (x_bw67 13 rfl rfl) (by decide +kernel) ⟨Nat.le_of_ble_eq_true rfl, Nat.le_of_ble_eq_true rfl⟩) hY0 hI rfl tR_d34 hl.1 (Nat.le_of_ble_eq_true rfl) (Nat.le_of_ble_eq_true rfl) (Nat.le_of_ble_eq_true rfl) (y_cons ⟨_, rfl, x_i64 _⟩ (y_cons ⟨_, rfl, x_i64 _⟩ (y_cons ⟨_, rfl, x_i64 _⟩ y_nil))) rfl (y_norecv rfl) trivial (y_sub_ef rfl) fun v Yn o Hn L ho hr ha hIn hx_ hE hP => ?_
        replace hs_bk := y_Efld hE hY_this rfl (by decide) (by decide) hs_bk
        replace hA_bk := hA_bk.kept (y_Earr hE hY_bk rfl (by decide))
        replace hY_this := y_ext hx_ hI.1 hY_this
        replace hY_bk := y_ext hx_ hI.1 hY_bk
        obtain ⟨r34, rfl, hin_r34, hout_r34⟩ := z_inR2 (hP _ _ _ rfl)
        clear ho hr ha hE hP hI hx_
        rename x_I _ _ _ _ _ _ _ _ _ _ => hI
        refine lv_if_eq hx hb tR_d37 (tgt := 87) (by decide) (fun q37 => ?_) (fun q37 => ?_)
        · have q37_ : r34.toInt = (0 : Int32).toInt := by rw [q37]
          have hno : ¬ m_tOk k x y h g := fun q9 => by obtain ⟨a1, a2, a3, a4, a5, a6⟩ := q9; first | (have := hout_r81 q84; omega) | (have := hout_r59 q62; omega) | (have := hout_r46 q49; omega) | (have := hout_r34 q37; omega) | (have := hout_r22 q25; omega)
          refine lv_aload_n hx hb tR_d87 rfl (lv_at hl 1 rfl) ?_
          refine y_call (z := (0, 102, 1, some 17, xM143)) (av := [.ref this]) (rest := []) (y_cokV (n := 0) (ci := 12) X ym_bad rfl rfl rfl (x_cons (x_bw68 3 rfl rfl) (x_cons (x_bw68 5 rfl rfl) (x_cons (x_at 32 (by decide +kernel) rfl) (x_cons (x_bw0 9 rfl rfl) x_nilm)))) (x_bw68 6 rfl rfl) (by decide +kernel) ⟨Nat.le_of_ble_eq_true rfl, Nat.le_of_ble_eq_true rfl⟩) hY0 hI rfl tR_d88 hl.1 (Nat.le_of_ble_eq_true rfl) (Nat.le_of_ble_eq_true rfl) (Nat.le_of_ble_eq_true rfl) (y_cons (y_cref hY_this rfl) y_nil) rfl (y_recv rfl hY_this) trivial (y_sub_ef rfl) fun v Yn o Hn L ho hr ha hIn hx_ hE hP => ?_
          replace hs_bk := y_Efld hE hY_this rfl (by decide) (by decide) hs_bk
          replace hA_bk := hA_bk.kept (y_Earr hE hY_bk rfl (by decide))
          replace hY_this := y_ext hx_ hI.1 hY_this
          replace hY_bk := y_ext hx_ hI.1 hY_bk
          have hPb := hP
          obtain rfl := hPb
          clear ho hr ha hE hP hI hx_
          rename x_I _ _ _ _ _ _ _ _ _ _ => hI
          exact y_ireturn B hI rfl rfl rfl List.mem_cons_self ⟨_, rfl, ⟨_, rfl, x_i32 _⟩⟩ (x_cs.mono B.2.2.2.2.2 (y_mon B hI)) (fun t' b' k' x' y' h' g' f' h1 h2 h3 h4 => by cases h1; cases h2.symm.trans hs0; cases z_uniq h4 hA0 h3 hcn; exact ⟨_, _, rfl, hA_bk, fun _ => ⟨rfl, rfl⟩, fun q9 => absurd q9 hno, fun q9 => absurd q9 hno⟩) (Nat.le_refl _) (Nat.le_refl _) tR_d91
        · have q37_ : ¬ r34.toInt = (0 : Int32).toInt := fun q => q37 (Int32.toInt_inj.mp q)
          refine lv_iload_n hx hb tR_d40 rfl (lv_at hl 4 rfl) ?_
          obtain ⟨z41, hg_z41⟩ : ∃ z41 : Int64, y.toInt64 = z41 := ⟨_, rfl⟩
          have h_z41 : z41.toInt = (y).toInt := by rw [← hg_z41]; exact Int32.toInt_toInt64 _
          refine lv_i2l hx hb tR_d41 (v := z41) hg_z41 ?_
          refine lv_lconst hx hb tR_d42 (v := 0) (by decide) ?_
          have el0 : (0 : Int64).toInt = 0 := by decide
          refine lv_ldc2 hx hb X.2.2.2.1 (v := 19) (X.2.2.2.2.1 _ (x_bw67 10 rfl rfl)) tR_d43 ?_
          have el19 : (19 : Int64).toInt = 19 := by decide
          refine y_call (z := (1, 87, 3, none, xM148)) (av := [.long z41, .long (0 : Int64), .long (19 : Int64)]) (rest := []) (y_cokS (n := 3) X ym_in (x_cons (x_bw67 11 rfl rfl) (x_cons (x_bw67 12 rfl rfl) (x_cons (x_bw0 9 rfl rfl) x_nilm))) (x_bw67 13 rfl rfl) (by decide +kernel) ⟨Nat.le_of_ble_eq_true rfl, Nat.le_of_ble_eq_true rfl⟩) hY0 hI rfl tR_d46 hl.1 (Nat.le_of_ble_eq_true rfl) (Nat.le_of_ble_eq_true rfl) (Nat.le_of_ble_eq_true rfl) (y_cons ⟨_, rfl, x_i64 _⟩ (y_cons ⟨_, rfl, x_i64 _⟩ (y_cons ⟨_, rfl, x_i64 _⟩ y_nil))) rfl (y_norecv rfl) trivial (y_sub_ef rfl) fun v Yn o Hn L ho hr ha hIn hx_ hE hP => ?_
          replace hs_bk := y_Efld hE hY_this rfl (by decide) (by decide) hs_bk
          replace hA_bk := hA_bk.kept (y_Earr hE hY_bk rfl (by decide))
          replace hY_this := y_ext hx_ hI.1 hY_this
          replace hY_bk := y_ext hx_ hI.1 hY_bk
          obtain ⟨r46, rfl, hin_r46, hout_r46⟩ := z_inR2 (hP _ _ _ rfl)
          clear ho hr ha hE hP hI hx_
          rename x_I _ _ _ _ _ _ _ _ _ _ => hI
          refine lv_if_eq hx hb tR_d49 (tgt := 87) (by decide) (fun q49 => ?_) (fun q49 => ?_)
          · have q49_ : r46.toInt = (0 : Int32).toInt := by rw [q49]
            have hno : ¬ m_tOk k x y h g := fun q9 => by obtain ⟨a1, a2, a3, a4, a5, a6⟩ := q9; first | (have := hout_r81 q84; omega) | (have := hout_r59 q62; omega) | (have := hout_r46 q49; omega) | (have := hout_r34 q37; omega) | (have := hout_r22 q25; omega)
            refine lv_aload_n hx hb tR_d87 rfl (lv_at hl 1 rfl) ?_
            refine y_call (z := (0, 102, 1, some 17, xM143)) (av := [.ref this]) (rest := []) (y_cokV (n := 0) (ci := 12) X ym_bad rfl rfl rfl (x_cons (x_bw68 3 rfl rfl) (x_cons (x_bw68 5 rfl rfl) (x_cons (x_at 32 (by decide +kernel) rfl) (x_cons (x_bw0 9 rfl rfl) x_nilm)))) (x_bw68 6 rfl rfl) (by decide +kernel) ⟨Nat.le_of_ble_eq_true rfl, Nat.le_of_ble_eq_true rfl⟩) hY0 hI rfl tR_d88 hl.1 (Nat.le_of_ble_eq_true rfl) (Nat.le_of_ble_eq_true rfl) (Nat.le_of_ble_eq_true rfl) (y_cons (y_cref hY_this rfl) y_nil) rfl (y_recv rfl hY_this) trivial (y_sub_ef rfl) fun v Yn o Hn L ho hr ha hIn hx_ hE hP => ?_
            replace hs_bk := y_Efld hE hY_this rfl (by decide) (by decide) hs_bk
            replace hA_bk := hA_bk.kept (y_Earr hE hY_bk rfl (by decide))
            replace hY_this := y_ext hx_ hI.1 hY_this
            replace hY_bk := y_ext hx_ hI.1 hY_bk
            have hPb := hP
            obtain rfl := hPb
            clear ho hr ha hE hP hI hx_
            rename x_I _ _ _ _ _ _ _ _ _ _ => hI
            exact y_ireturn B hI rfl rfl rfl List.mem_cons_self ⟨_, rfl, ⟨_, rfl, x_i32 _⟩⟩ (x_cs.mono B.2.2.2.2.2 (y_mon B hI)) (fun t' b' k' x' y' h' g' f' h1 h2 h3 h4 => by cases h1; cases h2.symm.trans hs0; cases z_uniq h4 hA0 h3 hcn; exact ⟨_, _, rfl, hA_bk, fun _ => ⟨rfl, rfl⟩, fun q9 => absurd q9 hno, fun q9 => absurd q9 hno⟩) (Nat.le_refl _) (Nat.le_refl _) tR_d91
          · have q49_ : ¬ r46.toInt = (0 : Int32).toInt := fun q => q49 (Int32.toInt_inj.mp q)
            refine lv_iload hx hb tR_d52 (lv_at hl 5 rfl) ?_
            obtain ⟨z54, hg_z54⟩ : ∃ z54 : Int64, h.toInt64 = z54 := ⟨_, rfl⟩
            have h_z54 : z54.toInt = (h).toInt := by rw [← hg_z54]; exact Int32.toInt_toInt64 _
            refine lv_i2l hx hb tR_d54 (v := z54) hg_z54 ?_
            refine lv_lconst hx hb tR_d55 (v := 0) (by decide) ?_
            have el0 : (0 : Int64).toInt = 0 := by decide
            refine lv_ldc2 hx hb X.2.2.2.1 (v := 99) (X.2.2.2.2.1 _ (x_bw67 14 rfl rfl)) tR_d56 ?_
            have el99 : (99 : Int64).toInt = 99 := by decide
            refine y_call (z := (1, 87, 3, none, xM148)) (av := [.long z54, .long (0 : Int64), .long (99 : Int64)]) (rest := []) (y_cokS (n := 3) X ym_in (x_cons (x_bw67 11 rfl rfl) (x_cons (x_bw67 12 rfl rfl) (x_cons (x_bw0 9 rfl rfl) x_nilm))) (x_bw67 13 rfl rfl) (by decide +kernel) ⟨Nat.le_of_ble_eq_true rfl, Nat.le_of_ble_eq_true rfl⟩) hY0 hI rfl tR_d59 hl.1 (Nat.le_of_ble_eq_true rfl) (Nat.le_of_ble_eq_true rfl) (Nat.le_of_ble_eq_true rfl) (y_cons ⟨_, rfl, x_i64 _⟩ (y_cons ⟨_, rfl, x_i64 _⟩ (y_cons ⟨_, rfl, x_i64 _⟩ y_nil))) rfl (y_norecv rfl) trivial (y_sub_ef rfl) fun v Yn o Hn L ho hr ha hIn hx_ hE hP => ?_
            replace hs_bk := y_Efld hE hY_this rfl (by decide) (by decide) hs_bk
            replace hA_bk := hA_bk.kept (y_Earr hE hY_bk rfl (by decide))
            replace hY_this := y_ext hx_ hI.1 hY_this
            replace hY_bk := y_ext hx_ hI.1 hY_bk
            obtain ⟨r59, rfl, hin_r59, hout_r59⟩ := z_inR2 (hP _ _ _ rfl)
            clear ho hr ha hE hP hI hx_
            rename x_I _ _ _ _ _ _ _ _ _ _ => hI
            refine lv_if_eq hx hb tR_d62 (tgt := 87) (by decide) (fun q62 => ?_) (fun q62 => ?_)
            · have q62_ : r59.toInt = (0 : Int32).toInt := by rw [q62]
              have hno : ¬ m_tOk k x y h g := fun q9 => by obtain ⟨a1, a2, a3, a4, a5, a6⟩ := q9; first | (have := hout_r81 q84; omega) | (have := hout_r59 q62; omega) | (have := hout_r46 q49; omega) | (have := hout_r34 q37; omega) | (have := hout_r22 q25; omega)
              refine lv_aload_n hx hb tR_d87 rfl (lv_at hl 1 rfl) ?_
              refine y_call (z := (0, 102, 1, some 17, xM143)) (av := [.ref this]) (rest := []) (y_cokV (n := 0) (ci := 12) X ym_bad rfl rfl rfl (x_cons (x_bw68 3 rfl rfl) (x_cons (x_bw68 5 rfl rfl) (x_cons (x_at 32 (by decide +kernel) rfl) (x_cons (x_bw0 9 rfl rfl) x_nilm)))) (x_bw68 6 rfl rfl) (by decide +kernel) ⟨Nat.le_of_ble_eq_true rfl, Nat.le_of_ble_eq_true rfl⟩) hY0 hI rfl tR_d88 hl.1 (Nat.le_of_ble_eq_true rfl) (Nat.le_of_ble_eq_true rfl) (Nat.le_of_ble_eq_true rfl) (y_cons (y_cref hY_this rfl) y_nil) rfl (y_recv rfl hY_this) trivial (y_sub_ef rfl) fun v Yn o Hn L ho hr ha hIn hx_ hE hP => ?_
              replace hs_bk := y_Efld hE hY_this rfl (by decide) (by decide) hs_bk
              replace hA_bk := hA_bk.kept (y_Earr hE hY_bk rfl (by decide))
              replace hY_this := y_ext hx_ hI.1 hY_this
              replace hY_bk := y_ext hx_ hI.1 hY_bk
              have hPb := hP
              obtain rfl := hPb
              clear ho hr ha hE hP hI hx_
              rename x_I _ _ _ _ _ _ _ _ _ _ => hI
              exact y_ireturn B hI rfl rfl rfl List.mem_cons_self ⟨_, rfl, ⟨_, rfl, x_i32 _⟩⟩ (x_cs.mono B.2.2.2.2.2 (y_mon B hI)) (fun t' b' k' x' y' h' g' f' h1 h2 h3 h4 => by cases h1; cases h2.symm.trans hs0; cases z_uniq h4 hA0 h3 hcn; exact ⟨_, _, rfl, hA_bk, fun _ => ⟨rfl, rfl⟩, fun q9 => absurd q9 hno, fun q9 => absurd q9 hno⟩) (Nat.le_refl _) (Nat.le_refl _) tR_d91
            · have q62_ : ¬ r59.toInt = (0 : Int32).toInt := fun q => q62 (Int32.toInt_inj.mp q)
              refine lv_iload hx hb tR_d65 (lv_at hl 6 rfl) ?_
              obtain ⟨z67, hg_z67⟩ : ∃ z67 : Int64, g.toInt64 = z67 := ⟨_, rfl⟩
              have h_z67 : z67.toInt = (g).toInt := by rw [← hg_z67]; exact Int32.toInt_toInt64 _
              refine lv_i2l hx hb tR_d67 (v := z67) hg_z67 ?_
              refine lv_lconst hx hb tR_d68 (v := 0) (by decide) ?_
              have el0 : (0 : Int64).toInt = 0 := by decide
              refine lv_iload hx hb tR_d69 (lv_at hl 0 rfl) ?_
              refine lv_if_eq hx hb tR_d71 (tgt := 78) (by decide) (fun q71 => ?_) (fun q71 => ?_)
              · have q71_ : (1 : Int32).toInt = (0 : Int32).toInt := by rw [q71]
                refine lv_ldc2 hx hb X.2.2.2.1 (v := 9) (X.2.2.2.2.1 _ (x_bw69 4 rfl rfl)) tR_d78 ?_
                have el9 : (9 : Int64).toInt = 9 := by decide
                refine y_call (z := (1, 87, 3, none, xM148)) (av := [.long z67, .long (0 : Int64), .long (9 : Int64)]) (rest := []) (y_cokS (n := 3) X ym_in (x_cons (x_bw67 11 rfl rfl) (x_cons (x_bw67 12 rfl rfl) (x_cons (x_bw0 9 rfl rfl) x_nilm))) (x_bw67 13 rfl rfl) (by decide +kernel) ⟨Nat.le_of_ble_eq_true rfl, Nat.le_of_ble_eq_true rfl⟩) hY0 hI rfl tR_d81 hl.1 (Nat.le_of_ble_eq_true rfl) (Nat.le_of_ble_eq_true rfl) (Nat.le_of_ble_eq_true rfl) (y_cons ⟨_, rfl, x_i64 _⟩ (y_cons ⟨_, rfl, x_i64 _⟩ (y_cons ⟨_, rfl, x_i64 _⟩ y_nil))) rfl (y_norecv rfl) trivial (y_sub_ef rfl) fun v Yn o Hn L ho hr ha hIn hx_ hE hP => ?_
                replace hs_bk := y_Efld hE hY_this rfl (by decide) (by decide) hs_bk
                replace hA_bk := hA_bk.kept (y_Earr hE hY_bk rfl (by decide))
                replace hY_this := y_ext hx_ hI.1 hY_this
                replace hY_bk := y_ext hx_ hI.1 hY_bk
                obtain ⟨r81, rfl, hin_r81, hout_r81⟩ := z_inR2 (hP _ _ _ rfl)
                clear ho hr ha hE hP hI hx_
                rename x_I _ _ _ _ _ _ _ _ _ _ => hI
                refine lv_if_ne hx hb tR_d84 (tgt := 92) (by decide) (fun q84 => ?_) (fun q84 => ?_)
                · have q84_ : ¬ r81.toInt = (0 : Int32).toInt := fun q => q84 (Int32.toInt_inj.mp q)
                  have hw1 := hin_r22 q25
                  have hw2 := hin_r34 q37
                  have hw3 := hin_r46 q49
                  have hw4 := hin_r59 q62
                  have hw5 := hin_r81 q84
                  have hok : m_tOk k x y h g := ⟨by omega, by omega, by omega, by omega, by omega, fun q9 => by omega⟩
                  exact tR_L92 B rfl hs0 hA0 hd1 hcn _ _ _ _ hI hY_this hY_bk hs_bk hA_bk (lv_sub hl [1, 2, 3, 4, 5, 6] rfl) (by first | assumption | omega)
                · have q84_ : r81.toInt = (0 : Int32).toInt := by rw [q84]
                  have hno : ¬ m_tOk k x y h g := fun q9 => by obtain ⟨a1, a2, a3, a4, a5, a6⟩ := q9; first | (have := hout_r81 q84; omega) | (have := hout_r59 q62; omega) | (have := hout_r46 q49; omega) | (have := hout_r34 q37; omega) | (have := hout_r22 q25; omega)
                  refine lv_aload_n hx hb tR_d87 rfl (lv_at hl 1 rfl) ?_
                  refine y_call (z := (0, 102, 1, some 17, xM143)) (av := [.ref this]) (rest := []) (y_cokV (n := 0) (ci := 12) X ym_bad rfl rfl rfl (x_cons (x_bw68 3 rfl rfl) (x_cons (x_bw68 5 rfl rfl) (x_cons (x_at 32 (by decide +kernel) rfl) (x_cons (x_bw0 9 rfl rfl) x_nilm)))) (x_bw68 6 rfl rfl) (by decide +kernel) ⟨Nat.le_of_ble_eq_true rfl, Nat.le_of_ble_eq_true rfl⟩) hY0 hI rfl tR_d88 hl.1 (Nat.le_of_ble_eq_true rfl) (Nat.le_of_ble_eq_true rfl) (Nat.le_of_ble_eq_true rfl) (y_cons (y_cref hY_this rfl) y_nil) rfl (y_recv rfl hY_this) trivial (y_sub_ef rfl) fun v Yn o Hn L ho hr ha hIn hx_ hE hP => ?_
                  replace hs_bk := y_Efld hE hY_this rfl (by decide) (by decide) hs_bk
                  replace hA_bk := hA_bk.kept (y_Earr hE hY_bk rfl (by decide))
                  replace hY_this := y_ext hx_ hI.1 hY_this
                  replace hY_bk := y_ext hx_ hI.1 hY_bk
                  have hPb := hP
                  obtain rfl := hPb
                  clear ho hr ha hE hP hI hx_
                  rename x_I _ _ _ _ _ _ _ _ _ _ => hI
                  exact y_ireturn B hI rfl rfl rfl List.mem_cons_self ⟨_, rfl, ⟨_, rfl, x_i32 _⟩⟩ (x_cs.mono B.2.2.2.2.2 (y_mon B hI)) (fun t' b' k' x' y' h' g' f' h1 h2 h3 h4 => by cases h1; cases h2.symm.trans hs0; cases z_uniq h4 hA0 h3 hcn; exact ⟨_, _, rfl, hA_bk, fun _ => ⟨rfl, rfl⟩, fun q9 => absurd q9 hno, fun q9 => absurd q9 hno⟩) (Nat.le_refl _) (Nat.le_refl _) tR_d91
              · have q71_ : ¬ (1 : Int32).toInt = (0 : Int32).toInt := fun q => q71 (Int32.toInt_inj.mp q)
                refine lv_lconst hx hb tR_d74 (v := 0) (by decide) ?_
                have el0 : (0 : Int64).toInt = 0 := by decide
                refine lv_goto hx hb tR_d75 (tgt := 81) (by decide) ?_
                refine y_call (z := (1, 87, 3, none, xM148)) (av := [.long z67, .long (0 : Int64), .long (0 : Int64)]) (rest := []) (y_cokS (n := 3) X ym_in (x_cons (x_bw67 11 rfl rfl) (x_cons (x_bw67 12 rfl rfl) (x_cons (x_bw0 9 rfl rfl) x_nilm))) (x_bw67 13 rfl rfl) (by decide +kernel) ⟨Nat.le_of_ble_eq_true rfl, Nat.le_of_ble_eq_true rfl⟩) hY0 hI rfl tR_d81 hl.1 (Nat.le_of_ble_eq_true rfl) (Nat.le_of_ble_eq_true rfl) (Nat.le_of_ble_eq_true rfl) (y_cons ⟨_, rfl, x_i64 _⟩ (y_cons ⟨_, rfl, x_i64 _⟩ (y_cons ⟨_, rfl, x_i64 _⟩ y_nil))) rfl (y_norecv rfl) trivial (y_sub_ef rfl) fun v Yn o Hn L ho hr ha hIn hx_ hE hP => ?_
                replace hs_bk := y_Efld hE hY_this rfl (by decide) (by decide) hs_bk
                replace hA_bk := hA_bk.kept (y_Earr hE hY_bk rfl (by decide))
                replace hY_this := y_ext hx_ hI.1 hY_this
                replace hY_bk := y_ext hx_ hI.1 hY_bk
                obtain ⟨r81, rfl, hin_r81, hout_r81⟩ := z_inR2 (hP _ _ _ rfl)
                clear ho hr ha hE hP hI hx_
                rename x_I _ _ _ _ _ _ _ _ _ _ => hI
                refine lv_if_ne hx hb tR_d84 (tgt := 92) (by decide) (fun q84 => ?_) (fun q84 => ?_)
                · have q84_ : ¬ r81.toInt = (0 : Int32).toInt := fun q => q84 (Int32.toInt_inj.mp q)
                  have hw1 := hin_r22 q25
                  have hw2 := hin_r34 q37
                  have hw3 := hin_r46 q49
                  have hw4 := hin_r59 q62
                  have hw5 := hin_r81 q84
                  have hok : m_tOk k x y h g := ⟨by omega, by omega, by omega, by omega, by omega, fun q9 => by omega⟩
                  exact tR_L92 B rfl hs0 hA0 hd1 hcn _ _ _ _ hI hY_this hY_bk hs_bk hA_bk (lv_sub hl [1, 2, 3, 4, 5, 6] rfl) (by first | assumption | omega)
                · have q84_ : r81.toInt = (0 : Int32).toInt := by rw [q84]
                  have hno : ¬ m_tOk k x y h g := fun q9 => by obtain ⟨a1, a2, a3, a4, a5, a6⟩ := q9; first | (have := hout_r81 q84; omega) | (have := hout_r59 q62; omega) | (have := hout_r46 q49; omega) | (have := hout_r34 q37; omega) | (have := hout_r22 q25; omega)
                  refine lv_aload_n hx hb tR_d87 rfl (lv_at hl 1 rfl) ?_
                  refine y_call (z := (0, 102, 1, some 17, xM143)) (av := [.ref this]) (rest := []) (y_cokV (n := 0) (ci := 12) X ym_bad rfl rfl rfl (x_cons (x_bw68 3 rfl rfl) (x_cons (x_bw68 5 rfl rfl) (x_cons (x_at 32 (by decide +kernel) rfl) (x_cons (x_bw0 9 rfl rfl) x_nilm)))) (x_bw68 6 rfl rfl) (by decide +kernel) ⟨Nat.le_of_ble_eq_true rfl, Nat.le_of_ble_eq_true rfl⟩) hY0 hI rfl tR_d88 hl.1 (Nat.le_of_ble_eq_true rfl) (Nat.le_of_ble_eq_true rfl) (Nat.le_of_ble_eq_true rfl) (y_cons (y_cref hY_this rfl) y_nil) rfl (y_recv rfl hY_this) trivial (y_sub_ef rfl) fun v Yn o Hn L ho hr ha hIn hx_ hE hP => ?_
                  replace hs_bk := y_Efld hE hY_this rfl (by decide) (by decide) hs_bk
                  replace hA_bk := hA_bk.kept (y_Earr hE hY_bk rfl (by decide))
                  replace hY_this := y_ext hx_ hI.1 hY_this
                  replace hY_bk := y_ext hx_ hI.1 hY_bk
                  have hPb := hP
                  obtain rfl := hPb
                  clear ho hr ha hE hP hI hx_
                  rename x_I _ _ _ _ _ _ _ _ _ _ => hI
                  exact y_ireturn B hI rfl rfl rfl List.mem_cons_self ⟨_, rfl, ⟨_, rfl, x_i32 _⟩⟩ (x_cs.mono B.2.2.2.2.2 (y_mon B hI)) (fun t' b' k' x' y' h' g' f' h1 h2 h3 h4 => by cases h1; cases h2.symm.trans hs0; cases z_uniq h4 hA0 h3 hcn; exact ⟨_, _, rfl, hA_bk, fun _ => ⟨rfl, rfl⟩, fun q9 => absurd q9 hno, fun q9 => absurd q9 hno⟩) (Nat.le_refl _) (Nat.le_refl _) tR_d91
def z_Ppt : yP := fun D av _ H v _ H' => ∀ (this bk : Nat) (w v9 : Int32) (f : Nat → Int32), av = [.ref this, .int w, .int v9] → x_sl D 12 0 this H = some (.ref bk) → z_c f → y_A bk 160 H f → ∃ (r : Int32) (g : Nat → Int32), v = some (.int r) ∧ y_A bk 160 H' g ∧ m_put f w v9 r g
theorem pR_d0 : decode xM159.2.1 0 = .ok (.iload_n 1, 1) := dz_ok (by decide +kernel)
theorem pR_d1 : decode xM159.2.1 1 = .ok (.ifCond .eq 8, 3) := dz_ok (by decide +kernel)
theorem pR_d4 : decode xM159.2.1 4 = .ok (.iload_n 1, 1) := dz_ok (by decide +kernel)
theorem pR_d5 : decode xM159.2.1 5 = .ok (.iconst 1, 1) := dz_ok (by decide +kernel)
theorem pR_d6 : decode xM159.2.1 6 = .ok (.if_icmp .ne 15, 3) := dz_ok (by decide +kernel)
theorem pR_d9 : decode xM159.2.1 9 = .ok (.iload_n 2, 1) := dz_ok (by decide +kernel)
theorem pR_d10 : decode xM159.2.1 10 = .ok (.i2l, 1) := dz_ok (by decide +kernel)
theorem pR_d11 : decode xM159.2.1 11 = .ok (.lconst 0, 1) := dz_ok (by decide +kernel)
theorem pR_d12 : decode xM159.2.1 12 = .ok (.ldc2_w 97, 3) := dz_ok (by decide +kernel)
theorem pR_d15 : decode xM159.2.1 15 = .ok (.invokestatic 87, 3) := dz_ok (by decide +kernel)
theorem pR_d18 : decode xM159.2.1 18 = .ok (.goto 42, 3) := dz_ok (by decide +kernel)
theorem pR_d21 : decode xM159.2.1 21 = .ok (.iload_n 1, 1) := dz_ok (by decide +kernel)
theorem pR_d22 : decode xM159.2.1 22 = .ok (.iconst 2, 1) := dz_ok (by decide +kernel)
theorem pR_d23 : decode xM159.2.1 23 = .ok (.if_icmp .ne 15, 3) := dz_ok (by decide +kernel)
theorem pR_d26 : decode xM159.2.1 26 = .ok (.iload_n 2, 1) := dz_ok (by decide +kernel)
theorem pR_d27 : decode xM159.2.1 27 = .ok (.i2l, 1) := dz_ok (by decide +kernel)
theorem pR_d28 : decode xM159.2.1 28 = .ok (.lconst 0, 1) := dz_ok (by decide +kernel)
theorem pR_d29 : decode xM159.2.1 29 = .ok (.ldc2_w 112, 3) := dz_ok (by decide +kernel)
theorem pR_d32 : decode xM159.2.1 32 = .ok (.invokestatic 87, 3) := dz_ok (by decide +kernel)
theorem pR_d35 : decode xM159.2.1 35 = .ok (.goto 25, 3) := dz_ok (by decide +kernel)
theorem pR_d38 : decode xM159.2.1 38 = .ok (.iload_n 1, 1) := dz_ok (by decide +kernel)
theorem pR_d39 : decode xM159.2.1 39 = .ok (.iconst 3, 1) := dz_ok (by decide +kernel)
theorem pR_d40 : decode xM159.2.1 40 = .ok (.if_icmp .ne 19, 3) := dz_ok (by decide +kernel)
theorem pR_d43 : decode xM159.2.1 43 = .ok (.iload_n 2, 1) := dz_ok (by decide +kernel)
theorem pR_d44 : decode xM159.2.1 44 = .ok (.i2l, 1) := dz_ok (by decide +kernel)
theorem pR_d45 : decode xM159.2.1 45 = .ok (.lconst 1, 1) := dz_ok (by decide +kernel)
theorem pR_d46 : decode xM159.2.1 46 = .ok (.ldc2_w 114, 3) := dz_ok (by decide +kernel)
theorem pR_d49 : decode xM159.2.1 49 = .ok (.invokestatic 87, 3) := dz_ok (by decide +kernel)
theorem pR_d52 : decode xM159.2.1 52 = .ok (.ifCond .eq 7, 3) := dz_ok (by decide +kernel)
theorem pR_d55 : decode xM159.2.1 55 = .ok (.iconst 1, 1) := dz_ok (by decide +kernel)
theorem pR_d56 : decode xM159.2.1 56 = .ok (.goto 4, 3) := dz_ok (by decide +kernel)
theorem pR_d59 : decode xM159.2.1 59 = .ok (.iconst 0, 1) := dz_ok (by decide +kernel)
theorem pR_d60 : decode xM159.2.1 60 = .ok (.istore_n 3, 1) := dz_ok (by decide +kernel)
theorem pR_d61 : decode xM159.2.1 61 = .ok (.iload_n 3, 1) := dz_ok (by decide +kernel)
theorem pR_d62 : decode xM159.2.1 62 = .ok (.ifCond .eq 14, 3) := dz_ok (by decide +kernel)
theorem pR_d65 : decode xM159.2.1 65 = .ok (.aload_n 0, 1) := dz_ok (by decide +kernel)
theorem pR_d66 : decode xM159.2.1 66 = .ok (.iconst 4, 1) := dz_ok (by decide +kernel)
theorem pR_d67 : decode xM159.2.1 67 = .ok (.iload_n 1, 1) := dz_ok (by decide +kernel)
theorem pR_d68 : decode xM159.2.1 68 = .ok (.iadd, 1) := dz_ok (by decide +kernel)
theorem pR_d69 : decode xM159.2.1 69 = .ok (.iload_n 2, 1) := dz_ok (by decide +kernel)
theorem pR_d70 : decode xM159.2.1 70 = .ok (.invokevirtual 116, 3) := dz_ok (by decide +kernel)
theorem pR_d73 : decode xM159.2.1 73 = .ok (.goto 7, 3) := dz_ok (by decide +kernel)
theorem pR_d76 : decode xM159.2.1 76 = .ok (.aload_n 0, 1) := dz_ok (by decide +kernel)
theorem pR_d77 : decode xM159.2.1 77 = .ok (.invokevirtual 102, 3) := dz_ok (by decide +kernel)
theorem pR_d80 : decode xM159.2.1 80 = .ok (.ireturn, 1) := dz_ok (by decide +kernel)
theorem ym_mput : y_Met vwCl x_G x_Zs x_Tb x_Nb xM159 y_T z_Ppt := by
  refine y_main (by decide +kernel) (by decide +kernel) x_Tb_good x_Nb_ok ?_
  intro p l e s m below meth c D U Y0 av ls B hI _ hl
  have X := B.1
  have hx := X.1
  have hb := X.2.1
  have hY0 := B.2.2.2.2.1
  obtain ⟨v0, v1, v2, rfl, hv0, ⟨w, rfl, -⟩, ⟨v9, rfl, -⟩⟩ := y_three B.2.2.2.2.2
  obtain ⟨this, t0, rfl, ht0, hY_this⟩ := x_ref_at hv0 rfl
  obtain rfl := List.mem_singleton.mp ht0
  replace hl : lv_has ls xM159.2.2.1 [(0, .ref this), (1, .int w), (2, .int v9)] := hl
  obtain ⟨bk, hs_bk, hY_bk⟩ := y_fldR (k := 0) hI.1 hY_this rfl rfl
  obtain ⟨fb9, hA9, hB9⟩ := y_arr hI.1 hY_bk rfl rfl
  obtain ⟨fb, hcn, hA_bk, hB_bk⟩ := z_canon (Y := Y0) (P := fun j v => x_c Y0 ([xI 0 10, xI 0 8, xI 0 8].getD j xF) (.int v)) hA9 hB9
  clear hA9 hB9 fb9
  have hs0 := hs_bk
  have hA0 := hA_bk
  have hd := z_hdr hB_bk
  have hd0 := hd.1
  have hd1 := hd.2.1
  refine lv_iload_n hx hb pR_d0 rfl (lv_at hl 1 rfl) ?_
  have ec0 : (0 : Int32).toInt = 0 := by decide
  refine lv_if_eq hx hb pR_d1 (tgt := 9) (by decide) (fun q1 => ?_) (fun q1 => ?_)
  · have q1_ : w.toInt = (0 : Int32).toInt := by rw [q1]
    refine lv_iload_n hx hb pR_d9 rfl (lv_at hl 2 rfl) ?_
    obtain ⟨z10, hg_z10⟩ : ∃ z10 : Int64, v9.toInt64 = z10 := ⟨_, rfl⟩
    have h_z10 : z10.toInt = (v9).toInt := by rw [← hg_z10]; exact Int32.toInt_toInt64 _
    refine lv_i2l hx hb pR_d10 (v := z10) hg_z10 ?_
    refine lv_lconst hx hb pR_d11 (v := 0) (by decide) ?_
    have el0 : (0 : Int64).toInt = 0 := by decide
    refine lv_ldc2 hx hb X.2.2.2.1 (v := 99) (X.2.2.2.2.1 _ (x_bw67 14 rfl rfl)) pR_d12 ?_
    have el99 : (99 : Int64).toInt = 99 := by decide
    refine y_call (z := (1, 87, 3, none, xM148)) (av := [.long z10, .long (0 : Int64), .long (99 : Int64)]) (rest := []) (y_cokS (n := 3) X ym_in (x_cons (x_bw67 11 rfl rfl) (x_cons (x_bw67 12 rfl rfl) (x_cons (x_bw0 9 rfl rfl) x_nilm))) (x_bw67 13 rfl rfl) (by decide +kernel) ⟨Nat.le_of_ble_eq_true rfl, Nat.le_of_ble_eq_true rfl⟩) hY0 hI rfl pR_d15 hl.1 (Nat.le_of_ble_eq_true rfl) (Nat.le_of_ble_eq_true rfl) (Nat.le_of_ble_eq_true rfl) (y_cons ⟨_, rfl, x_i64 _⟩ (y_cons ⟨_, rfl, x_i64 _⟩ (y_cons ⟨_, rfl, x_i64 _⟩ y_nil))) rfl (y_norecv rfl) trivial (y_sub_ef rfl) fun v Yn o Hn L ho hr ha hIn hx_ hE hP => ?_
    replace hs_bk := y_Efld hE hY_this rfl (by decide) (by decide) hs_bk
    replace hA_bk := hA_bk.kept (y_Earr hE hY_bk rfl (by decide))
    replace hY_this := y_ext hx_ hI.1 hY_this
    replace hY_bk := y_ext hx_ hI.1 hY_bk
    obtain ⟨r15, rfl, hin_r15, hout_r15⟩ := z_inR2 (hP _ _ _ rfl)
    clear ho hr ha hE hP hI hx_
    rename x_I _ _ _ _ _ _ _ _ _ _ => hI
    refine lv_goto hx hb pR_d18 (tgt := 60) (by decide) ?_
    refine lv_istore_n hx hb pR_d60 rfl hl (by decide) (lv' := [(3, .int r15), (0, .ref this), (1, .int w), (2, .int v9)]) rfl fun ls hl => ?_
    refine lv_iload_n hx hb pR_d61 rfl (lv_at hl 0 rfl) ?_
    refine lv_if_eq hx hb pR_d62 (tgt := 76) (by decide) (fun q62 => ?_) (fun q62 => ?_)
    · have q62_ : r15.toInt = (0 : Int32).toInt := by rw [q62]
      have hno : ¬ m_pOk w v9 := by unfold m_pOk; intro q9; first | (have := hout_r15 q62; omega) | (have := hout_r32 q62; omega) | (have := hout_r49 q52; omega) | omega
      refine lv_aload_n hx hb pR_d76 rfl (lv_at hl 1 rfl) ?_
      refine y_call (z := (0, 102, 1, some 17, xM143)) (av := [.ref this]) (rest := []) (y_cokV (n := 0) (ci := 12) X ym_bad rfl rfl rfl (x_cons (x_bw68 3 rfl rfl) (x_cons (x_bw68 5 rfl rfl) (x_cons (x_at 32 (by decide +kernel) rfl) (x_cons (x_bw0 9 rfl rfl) x_nilm)))) (x_bw68 6 rfl rfl) (by decide +kernel) ⟨Nat.le_of_ble_eq_true rfl, Nat.le_of_ble_eq_true rfl⟩) hY0 hI rfl pR_d77 hl.1 (Nat.le_of_ble_eq_true rfl) (Nat.le_of_ble_eq_true rfl) (Nat.le_of_ble_eq_true rfl) (y_cons (y_cref hY_this rfl) y_nil) rfl (y_recv rfl hY_this) trivial (y_sub_ef rfl) fun v Yn o Hn L ho hr ha hIn hx_ hE hP => ?_
      replace hs_bk := y_Efld hE hY_this rfl (by decide) (by decide) hs_bk
      replace hA_bk := hA_bk.kept (y_Earr hE hY_bk rfl (by decide))
      replace hY_this := y_ext hx_ hI.1 hY_this
      replace hY_bk := y_ext hx_ hI.1 hY_bk
      have hPb := hP
      obtain rfl := hPb
      clear ho hr ha hE hP hI hx_
      rename x_I _ _ _ _ _ _ _ _ _ _ => hI
      exact y_ireturn B hI rfl rfl rfl List.mem_cons_self ⟨_, rfl, ⟨_, rfl, x_i32 _⟩⟩ (x_cs.mono B.2.2.2.2.2 (y_mon B hI)) (fun t' b' w' v' f' h1 h2 h3 h4 => by cases h1; cases h2.symm.trans hs0; cases z_uniq h4 hA0 h3 hcn; exact ⟨_, _, rfl, hA_bk, fun _ => ⟨rfl, rfl⟩, fun q9 => absurd q9 hno⟩) (Nat.le_refl _) (Nat.le_refl _) pR_d80
    · have q62_ : ¬ r15.toInt = (0 : Int32).toInt := fun q => q62 (Int32.toInt_inj.mp q)
      have hok : m_pOk w v9 := by unfold m_pOk; first | exact absurd rfl q62 | (have := hin_r15 q62; omega) | (have := hin_r32 q62; omega) | (have := hin_r49 q52; omega)
      refine lv_aload_n hx hb pR_d65 rfl (lv_at hl 1 rfl) ?_
      refine lv_iconst hx hb pR_d66 (v := 4) (by decide) ?_
      have ec4 : (4 : Int32).toInt = 4 := by decide
      refine lv_iload_n hx hb pR_d67 rfl (lv_at hl 2 rfl) ?_
      refine lv_iadd hx hb pR_d68 ?_
      generalize hg_z68 : (4 : Int32) + w = z68
      have h_z68 : z68.toInt = 4 + w.toInt := by rw [← hg_z68]; have := y_add (x := (4 : Int32)) (y := w) (by rw [ec4]; omega) (by rw [ec4]; omega); rw [ec4] at this; exact this
      refine lv_iload_n hx hb pR_d69 rfl (lv_at hl 3 rfl) ?_
      refine y_call (z := (0, 116, 3, some 17, xM160)) (av := [.ref this, .int z68, .int v9]) (rest := []) (y_cokV (n := 2) (ci := 12) X ym_putsR rfl rfl rfl (x_cons (x_bw69 11 rfl rfl) (x_cons (x_bw69 13 rfl rfl) (x_cons (x_at 35 (by decide +kernel) rfl) (x_cons (x_bw0 9 rfl rfl) x_nilm)))) (x_bw69 14 rfl rfl) (by decide +kernel) ⟨Nat.le_of_ble_eq_true rfl, Nat.le_of_ble_eq_true rfl⟩) hY0 hI rfl pR_d70 hl.1 (Nat.le_of_ble_eq_true rfl) (Nat.le_of_ble_eq_true rfl) (Nat.le_of_ble_eq_true rfl) (y_cons (y_cref hY_this rfl) (y_cons ⟨_, rfl, by show (3 : Int) ≤ _; omega, by show _ ≤ (159 : Int); omega⟩ (y_cons ⟨_, rfl, x_i32 _⟩ y_nil))) rfl (y_recv rfl hY_this) trivial (y_sub_ef rfl) fun v Yn o Hn L ho hr ha hIn hx_ hE hP => ?_
      have hPu := hP _ _ _ _ _ rfl hs_bk hA_bk
      have hix := (show z68.toInt.toNat = z68.toInt.toNat from rfl)
      replace hs_bk := y_Efld hE hY_this rfl (by decide) (by decide) hs_bk
      replace hY_this := y_ext hx_ hI.1 hY_this
      replace hY_bk := y_ext hx_ hI.1 hY_bk
      obtain ⟨rfl, hA_n⟩ := hPu
      clear ho hr ha hE hP hI hx_
      rename x_I _ _ _ _ _ _ _ _ _ _ => hI
      refine lv_goto hx hb pR_d73 (tgt := 80) (by decide) ?_
      have hz : z68.toInt.toNat = 4 + w.toInt.toNat := by omega
      rw [hz] at hA_n ⊢
      exact y_ireturn B hI rfl rfl rfl List.mem_cons_self ⟨_, rfl, ⟨_, rfl, x_i32 _⟩⟩ (x_cs.mono B.2.2.2.2.2 (y_mon B hI)) (fun t' b' w' v' f' h1 h2 h3 h4 => by cases h1; cases h2.symm.trans hs0; cases z_uniq h4 hA0 h3 hcn; exact ⟨_, _, rfl, hA_n, fun q9 => absurd hok q9, fun _ => ⟨rfl, rfl⟩⟩) (Nat.le_refl _) (Nat.le_refl _) pR_d80
  · have q1_ : ¬ w.toInt = (0 : Int32).toInt := fun q => q1 (Int32.toInt_inj.mp q)
    refine lv_iload_n hx hb pR_d4 rfl (lv_at hl 1 rfl) ?_
    refine lv_iconst hx hb pR_d5 (v := 1) (by decide) ?_
    have ec1 : (1 : Int32).toInt = 1 := by decide
    refine lv_icmp_ne hx hb pR_d6 (tgt := 21) (by decide) (fun q6 => ?_) (fun q6 => ?_)
    · have q6_ : ¬ w.toInt = (1 : Int32).toInt := fun q => q6 (Int32.toInt_inj.mp q)
      refine lv_iload_n hx hb pR_d21 rfl (lv_at hl 1 rfl) ?_
      refine lv_iconst hx hb pR_d22 (v := 2) (by decide) ?_
      have ec2 : (2 : Int32).toInt = 2 := by decide
      refine lv_icmp_ne hx hb pR_d23 (tgt := 38) (by decide) (fun q23 => ?_) (fun q23 => ?_)
      · have q23_ : ¬ w.toInt = (2 : Int32).toInt := fun q => q23 (Int32.toInt_inj.mp q)
        refine lv_iload_n hx hb pR_d38 rfl (lv_at hl 1 rfl) ?_
        refine lv_iconst hx hb pR_d39 (v := 3) (by decide) ?_
        have ec3 : (3 : Int32).toInt = 3 := by decide
        refine lv_icmp_ne hx hb pR_d40 (tgt := 59) (by decide) (fun q40 => ?_) (fun q40 => ?_)
        · have q40_ : ¬ w.toInt = (3 : Int32).toInt := fun q => q40 (Int32.toInt_inj.mp q)
          refine lv_iconst hx hb pR_d59 (v := 0) (by decide) ?_
          refine lv_istore_n hx hb pR_d60 rfl hl (by decide) (lv' := [(3, .int (0 : Int32)), (0, .ref this), (1, .int w), (2, .int v9)]) rfl fun ls hl => ?_
          refine lv_iload_n hx hb pR_d61 rfl (lv_at hl 0 rfl) ?_
          refine lv_if_eq hx hb pR_d62 (tgt := 76) (by decide) (fun q62 => ?_) (fun q62 => ?_)
          · have q62_ : (0 : Int32).toInt = (0 : Int32).toInt := by rw [q62]
            have hno : ¬ m_pOk w v9 := by unfold m_pOk; intro q9; first | (have := hout_r15 q62; omega) | (have := hout_r32 q62; omega) | (have := hout_r49 q52; omega) | omega
            refine lv_aload_n hx hb pR_d76 rfl (lv_at hl 1 rfl) ?_
            refine y_call (z := (0, 102, 1, some 17, xM143)) (av := [.ref this]) (rest := []) (y_cokV (n := 0) (ci := 12) X ym_bad rfl rfl rfl (x_cons (x_bw68 3 rfl rfl) (x_cons (x_bw68 5 rfl rfl) (x_cons (x_at 32 (by decide +kernel) rfl) (x_cons (x_bw0 9 rfl rfl) x_nilm)))) (x_bw68 6 rfl rfl) (by decide +kernel) ⟨Nat.le_of_ble_eq_true rfl, Nat.le_of_ble_eq_true rfl⟩) hY0 hI rfl pR_d77 hl.1 (Nat.le_of_ble_eq_true rfl) (Nat.le_of_ble_eq_true rfl) (Nat.le_of_ble_eq_true rfl) (y_cons (y_cref hY_this rfl) y_nil) rfl (y_recv rfl hY_this) trivial (y_sub_ef rfl) fun v Yn o Hn L ho hr ha hIn hx_ hE hP => ?_
            replace hs_bk := y_Efld hE hY_this rfl (by decide) (by decide) hs_bk
            replace hA_bk := hA_bk.kept (y_Earr hE hY_bk rfl (by decide))
            replace hY_this := y_ext hx_ hI.1 hY_this
            replace hY_bk := y_ext hx_ hI.1 hY_bk
            have hPb := hP
            obtain rfl := hPb
            clear ho hr ha hE hP hI hx_
            rename x_I _ _ _ _ _ _ _ _ _ _ => hI
            exact y_ireturn B hI rfl rfl rfl List.mem_cons_self ⟨_, rfl, ⟨_, rfl, x_i32 _⟩⟩ (x_cs.mono B.2.2.2.2.2 (y_mon B hI)) (fun t' b' w' v' f' h1 h2 h3 h4 => by cases h1; cases h2.symm.trans hs0; cases z_uniq h4 hA0 h3 hcn; exact ⟨_, _, rfl, hA_bk, fun _ => ⟨rfl, rfl⟩, fun q9 => absurd q9 hno⟩) (Nat.le_refl _) (Nat.le_refl _) pR_d80
          · have q62_ : ¬ (0 : Int32).toInt = (0 : Int32).toInt := fun q => q62 (Int32.toInt_inj.mp q)
            have hok : m_pOk w v9 := by unfold m_pOk; first | exact absurd rfl q62 | (have := hin_r15 q62; omega) | (have := hin_r32 q62; omega) | (have := hin_r49 q52; omega)
            refine lv_aload_n hx hb pR_d65 rfl (lv_at hl 1 rfl) ?_
            refine lv_iconst hx hb pR_d66 (v := 4) (by decide) ?_
            have ec4 : (4 : Int32).toInt = 4 := by decide
            refine lv_iload_n hx hb pR_d67 rfl (lv_at hl 2 rfl) ?_
            refine lv_iadd hx hb pR_d68 ?_
            generalize hg_z68 : (4 : Int32) + w = z68
            have h_z68 : z68.toInt = 4 + w.toInt := by rw [← hg_z68]; have := y_add (x := (4 : Int32)) (y := w) (by rw [ec4]; omega) (by rw [ec4]; omega); rw [ec4] at this; exact this
            refine lv_iload_n hx hb pR_d69 rfl (lv_at hl 3 rfl) ?_
            refine y_call (z := (0, 116, 3, some 17, xM160)) (av := [.ref this, .int z68, .int v9]) (rest := []) (y_cokV (n := 2) (ci := 12) X ym_putsR rfl rfl rfl (x_cons (x_bw69 11 rfl rfl) (x_cons (x_bw69 13 rfl rfl) (x_cons (x_at 35 (by decide +kernel) rfl) (x_cons (x_bw0 9 rfl rfl) x_nilm)))) (x_bw69 14 rfl rfl) (by decide +kernel) ⟨Nat.le_of_ble_eq_true rfl, Nat.le_of_ble_eq_true rfl⟩) hY0 hI rfl pR_d70 hl.1 (Nat.le_of_ble_eq_true rfl) (Nat.le_of_ble_eq_true rfl) (Nat.le_of_ble_eq_true rfl) (y_cons (y_cref hY_this rfl) (y_cons ⟨_, rfl, by show (3 : Int) ≤ _; omega, by show _ ≤ (159 : Int); omega⟩ (y_cons ⟨_, rfl, x_i32 _⟩ y_nil))) rfl (y_recv rfl hY_this) trivial (y_sub_ef rfl) fun v Yn o Hn L ho hr ha hIn hx_ hE hP => ?_
            have hPu := hP _ _ _ _ _ rfl hs_bk hA_bk
            have hix := (show z68.toInt.toNat = z68.toInt.toNat from rfl)
            replace hs_bk := y_Efld hE hY_this rfl (by decide) (by decide) hs_bk
            replace hY_this := y_ext hx_ hI.1 hY_this
            replace hY_bk := y_ext hx_ hI.1 hY_bk
            obtain ⟨rfl, hA_n⟩ := hPu
            clear ho hr ha hE hP hI hx_
            rename x_I _ _ _ _ _ _ _ _ _ _ => hI
            refine lv_goto hx hb pR_d73 (tgt := 80) (by decide) ?_
            have hz : z68.toInt.toNat = 4 + w.toInt.toNat := by omega
            rw [hz] at hA_n ⊢
            exact y_ireturn B hI rfl rfl rfl List.mem_cons_self ⟨_, rfl, ⟨_, rfl, x_i32 _⟩⟩ (x_cs.mono B.2.2.2.2.2 (y_mon B hI)) (fun t' b' w' v' f' h1 h2 h3 h4 => by cases h1; cases h2.symm.trans hs0; cases z_uniq h4 hA0 h3 hcn; exact ⟨_, _, rfl, hA_n, fun q9 => absurd hok q9, fun _ => ⟨rfl, rfl⟩⟩) (Nat.le_refl _) (Nat.le_refl _) pR_d80
        · have q40_ : w.toInt = (3 : Int32).toInt := by rw [q40]
          refine lv_iload_n hx hb pR_d43 rfl (lv_at hl 2 rfl) ?_
          obtain ⟨z44, hg_z44⟩ : ∃ z44 : Int64, v9.toInt64 = z44 := ⟨_, rfl⟩
          have h_z44 : z44.toInt = (v9).toInt := by rw [← hg_z44]; exact Int32.toInt_toInt64 _
          refine lv_i2l hx hb pR_d44 (v := z44) hg_z44 ?_
          refine lv_lconst hx hb pR_d45 (v := 1) (by decide) ?_
          have el1 : (1 : Int64).toInt = 1 := by decide
          refine lv_ldc2 hx hb X.2.2.2.1 (v := 10) (X.2.2.2.2.1 _ (x_bw69 10 rfl rfl)) pR_d46 ?_
          have el10 : (10 : Int64).toInt = 10 := by decide
          refine y_call (z := (1, 87, 3, none, xM148)) (av := [.long z44, .long (1 : Int64), .long (10 : Int64)]) (rest := []) (y_cokS (n := 3) X ym_in (x_cons (x_bw67 11 rfl rfl) (x_cons (x_bw67 12 rfl rfl) (x_cons (x_bw0 9 rfl rfl) x_nilm))) (x_bw67 13 rfl rfl) (by decide +kernel) ⟨Nat.le_of_ble_eq_true rfl, Nat.le_of_ble_eq_true rfl⟩) hY0 hI rfl pR_d49 hl.1 (Nat.le_of_ble_eq_true rfl) (Nat.le_of_ble_eq_true rfl) (Nat.le_of_ble_eq_true rfl) (y_cons ⟨_, rfl, x_i64 _⟩ (y_cons ⟨_, rfl, x_i64 _⟩ (y_cons ⟨_, rfl, x_i64 _⟩ y_nil))) rfl (y_norecv rfl) trivial (y_sub_ef rfl) fun v Yn o Hn L ho hr ha hIn hx_ hE hP => ?_
          replace hs_bk := y_Efld hE hY_this rfl (by decide) (by decide) hs_bk
          replace hA_bk := hA_bk.kept (y_Earr hE hY_bk rfl (by decide))
          replace hY_this := y_ext hx_ hI.1 hY_this
          replace hY_bk := y_ext hx_ hI.1 hY_bk
          obtain ⟨r49, rfl, hin_r49, hout_r49⟩ := z_inR2 (hP _ _ _ rfl)
          clear ho hr ha hE hP hI hx_
          rename x_I _ _ _ _ _ _ _ _ _ _ => hI
          refine lv_if_eq hx hb pR_d52 (tgt := 59) (by decide) (fun q52 => ?_) (fun q52 => ?_)
          · have q52_ : r49.toInt = (0 : Int32).toInt := by rw [q52]
            refine lv_iconst hx hb pR_d59 (v := 0) (by decide) ?_
            refine lv_istore_n hx hb pR_d60 rfl hl (by decide) (lv' := [(3, .int (0 : Int32)), (0, .ref this), (1, .int w), (2, .int v9)]) rfl fun ls hl => ?_
            refine lv_iload_n hx hb pR_d61 rfl (lv_at hl 0 rfl) ?_
            refine lv_if_eq hx hb pR_d62 (tgt := 76) (by decide) (fun q62 => ?_) (fun q62 => ?_)
            · have q62_ : (0 : Int32).toInt = (0 : Int32).toInt := by rw [q62]
              have hno : ¬ m_pOk w v9 := by unfold m_pOk; intro q9; first | (have := hout_r15 q62; omega) | (have := hout_r32 q62; omega) | (have := hout_r49 q52; omega) | omega
              refine lv_aload_n hx hb pR_d76 rfl (lv_at hl 1 rfl) ?_
              refine y_call (z := (0, 102, 1, some 17, xM143)) (av := [.ref this]) (rest := []) (y_cokV (n := 0) (ci := 12) X ym_bad rfl rfl rfl (x_cons (x_bw68 3 rfl rfl) (x_cons (x_bw68 5 rfl rfl) (x_cons (x_at 32 (by decide +kernel) rfl) (x_cons (x_bw0 9 rfl rfl) x_nilm)))) (x_bw68 6 rfl rfl) (by decide +kernel) ⟨Nat.le_of_ble_eq_true rfl, Nat.le_of_ble_eq_true rfl⟩) hY0 hI rfl pR_d77 hl.1 (Nat.le_of_ble_eq_true rfl) (Nat.le_of_ble_eq_true rfl) (Nat.le_of_ble_eq_true rfl) (y_cons (y_cref hY_this rfl) y_nil) rfl (y_recv rfl hY_this) trivial (y_sub_ef rfl) fun v Yn o Hn L ho hr ha hIn hx_ hE hP => ?_
              replace hs_bk := y_Efld hE hY_this rfl (by decide) (by decide) hs_bk
              replace hA_bk := hA_bk.kept (y_Earr hE hY_bk rfl (by decide))
              replace hY_this := y_ext hx_ hI.1 hY_this
              replace hY_bk := y_ext hx_ hI.1 hY_bk
              have hPb := hP
              obtain rfl := hPb
              clear ho hr ha hE hP hI hx_
              rename x_I _ _ _ _ _ _ _ _ _ _ => hI
              exact y_ireturn B hI rfl rfl rfl List.mem_cons_self ⟨_, rfl, ⟨_, rfl, x_i32 _⟩⟩ (x_cs.mono B.2.2.2.2.2 (y_mon B hI)) (fun t' b' w' v' f' h1 h2 h3 h4 => by cases h1; cases h2.symm.trans hs0; cases z_uniq h4 hA0 h3 hcn; exact ⟨_, _, rfl, hA_bk, fun _ => ⟨rfl, rfl⟩, fun q9 => absurd q9 hno⟩) (Nat.le_refl _) (Nat.le_refl _) pR_d80
            · have q62_ : ¬ (0 : Int32).toInt = (0 : Int32).toInt := fun q => q62 (Int32.toInt_inj.mp q)
              have hok : m_pOk w v9 := by unfold m_pOk; first | exact absurd rfl q62 | (have := hin_r15 q62; omega) | (have := hin_r32 q62; omega) | (have := hin_r49 q52; omega)
              refine lv_aload_n hx hb pR_d65 rfl (lv_at hl 1 rfl) ?_
              refine lv_iconst hx hb pR_d66 (v := 4) (by decide) ?_
              have ec4 : (4 : Int32).toInt = 4 := by decide
              refine lv_iload_n hx hb pR_d67 rfl (lv_at hl 2 rfl) ?_
              refine lv_iadd hx hb pR_d68 ?_
              generalize hg_z68 : (4 : Int32) + w = z68
              have h_z68 : z68.toInt = 4 + w.toInt := by rw [← hg_z68]; have := y_add (x := (4 : Int32)) (y := w) (by rw [ec4]; omega) (by rw [ec4]; omega); rw [ec4] at this; exact this
              refine lv_iload_n hx hb pR_d69 rfl (lv_at hl 3 rfl) ?_
              refine y_call (z := (0, 116, 3, some 17, xM160)) (av := [.ref this, .int z68, .int v9]) (rest := []) (y_cokV (n := 2) (ci := 12) X ym_putsR rfl rfl rfl (x_cons (x_bw69 11 rfl rfl) (x_cons (x_bw69 13 rfl rfl) (x_cons (x_at 35 (by decide +kernel) rfl) (x_cons (x_bw0 9 rfl rfl) x_nilm)))) (x_bw69 14 rfl rfl) (by decide +kernel) ⟨Nat.le_of_ble_eq_true rfl, Nat.le_of_ble_eq_true rfl⟩) hY0 hI rfl pR_d70 hl.1 (Nat.le_of_ble_eq_true rfl) (Nat.le_of_ble_eq_true rfl) (Nat.le_of_ble_eq_true rfl) (y_cons (y_cref hY_this rfl) (y_cons ⟨_, rfl, by show (3 : Int) ≤ _; omega, by show _ ≤ (159 : Int); omega⟩ (y_cons ⟨_, rfl, x_i32 _⟩ y_nil))) rfl (y_recv rfl hY_this) trivial (y_sub_ef rfl) fun v Yn o Hn L ho hr ha hIn hx_ hE hP => ?_
              have hPu := hP _ _ _ _ _ rfl hs_bk hA_bk
              have hix := (show z68.toInt.toNat = z68.toInt.toNat from rfl)
              replace hs_bk := y_Efld hE hY_this rfl (by decide) (by decide) hs_bk
              replace hY_this := y_ext hx_ hI.1 hY_this
              replace hY_bk := y_ext hx_ hI.1 hY_bk
              obtain ⟨rfl, hA_n⟩ := hPu
              clear ho hr ha hE hP hI hx_
              rename x_I _ _ _ _ _ _ _ _ _ _ => hI
              refine lv_goto hx hb pR_d73 (tgt := 80) (by decide) ?_
              have hz : z68.toInt.toNat = 4 + w.toInt.toNat := by omega
              rw [hz] at hA_n ⊢
              exact y_ireturn B hI rfl rfl rfl List.mem_cons_self ⟨_, rfl, ⟨_, rfl, x_i32 _⟩⟩ (x_cs.mono B.2.2.2.2.2 (y_mon B hI)) (fun t' b' w' v' f' h1 h2 h3 h4 => by cases h1; cases h2.symm.trans hs0; cases z_uniq h4 hA0 h3 hcn; exact ⟨_, _, rfl, hA_n, fun q9 => absurd hok q9, fun _ => ⟨rfl, rfl⟩⟩) (Nat.le_refl _) (Nat.le_refl _) pR_d80
          · have q52_ : ¬ r49.toInt = (0 : Int32).toInt := fun q => q52 (Int32.toInt_inj.mp q)
            refine lv_iconst hx hb pR_d55 (v := 1) (by decide) ?_
            refine lv_goto hx hb pR_d56 (tgt := 60) (by decide) ?_
            refine lv_istore_n hx hb pR_d60 rfl hl (by decide) (lv' := [(3, .int (1 : Int32)), (0, .ref this), (1, .int w), (2, .int v9)]) rfl fun ls hl => ?_
            refine lv_iload_n hx hb pR_d61 rfl (lv_at hl 0 rfl) ?_
            refine lv_if_eq hx hb pR_d62 (tgt := 76) (by decide) (fun q62 => ?_) (fun q62 => ?_)
            · have q62_ : (1 : Int32).toInt = (0 : Int32).toInt := by rw [q62]
              have hno : ¬ m_pOk w v9 := by unfold m_pOk; intro q9; first | (have := hout_r15 q62; omega) | (have := hout_r32 q62; omega) | (have := hout_r49 q52; omega) | omega
              refine lv_aload_n hx hb pR_d76 rfl (lv_at hl 1 rfl) ?_
              refine y_call (z := (0, 102, 1, some 17, xM143)) (av := [.ref this]) (rest := []) (y_cokV (n := 0) (ci := 12) X ym_bad rfl rfl rfl (x_cons (x_bw68 3 rfl rfl) (x_cons (x_bw68 5 rfl rfl) (x_cons (x_at 32 (by decide +kernel) rfl) (x_cons (x_bw0 9 rfl rfl) x_nilm)))) (x_bw68 6 rfl rfl) (by decide +kernel) ⟨Nat.le_of_ble_eq_true rfl, Nat.le_of_ble_eq_true rfl⟩) hY0 hI rfl pR_d77 hl.1 (Nat.le_of_ble_eq_true rfl) (Nat.le_of_ble_eq_true rfl) (Nat.le_of_ble_eq_true rfl) (y_cons (y_cref hY_this rfl) y_nil) rfl (y_recv rfl hY_this) trivial (y_sub_ef rfl) fun v Yn o Hn L ho hr ha hIn hx_ hE hP => ?_
              replace hs_bk := y_Efld hE hY_this rfl (by decide) (by decide) hs_bk
              replace hA_bk := hA_bk.kept (y_Earr hE hY_bk rfl (by decide))
              replace hY_this := y_ext hx_ hI.1 hY_this
              replace hY_bk := y_ext hx_ hI.1 hY_bk
              have hPb := hP
              obtain rfl := hPb
              clear ho hr ha hE hP hI hx_
              rename x_I _ _ _ _ _ _ _ _ _ _ => hI
              exact y_ireturn B hI rfl rfl rfl List.mem_cons_self ⟨_, rfl, ⟨_, rfl, x_i32 _⟩⟩ (x_cs.mono B.2.2.2.2.2 (y_mon B hI)) (fun t' b' w' v' f' h1 h2 h3 h4 => by cases h1; cases h2.symm.trans hs0; cases z_uniq h4 hA0 h3 hcn; exact ⟨_, _, rfl, hA_bk, fun _ => ⟨rfl, rfl⟩, fun q9 => absurd q9 hno⟩) (Nat.le_refl _) (Nat.le_refl _) pR_d80
            · have q62_ : ¬ (1 : Int32).toInt = (0 : Int32).toInt := fun q => q62 (Int32.toInt_inj.mp q)
              have hok : m_pOk w v9 := by unfold m_pOk; first | exact absurd rfl q62 | (have := hin_r15 q62; omega) | (have := hin_r32 q62; omega) | (have := hin_r49 q52; omega)
              refine lv_aload_n hx hb pR_d65 rfl (lv_at hl 1 rfl) ?_
              refine lv_iconst hx hb pR_d66 (v := 4) (by decide) ?_
              have ec4 : (4 : Int32).toInt = 4 := by decide
              refine lv_iload_n hx hb pR_d67 rfl (lv_at hl 2 rfl) ?_
              refine lv_iadd hx hb pR_d68 ?_
              generalize hg_z68 : (4 : Int32) + w = z68
              have h_z68 : z68.toInt = 4 + w.toInt := by rw [← hg_z68]; have := y_add (x := (4 : Int32)) (y := w) (by rw [ec4]; omega) (by rw [ec4]; omega); rw [ec4] at this; exact this
              refine lv_iload_n hx hb pR_d69 rfl (lv_at hl 3 rfl) ?_
              refine y_call (z := (0, 116, 3, some 17, xM160)) (av := [.ref this, .int z68, .int v9]) (rest := []) (y_cokV (n := 2) (ci := 12) X ym_putsR rfl rfl rfl (x_cons (x_bw69 11 rfl rfl) (x_cons (x_bw69 13 rfl rfl) (x_cons (x_at 35 (by decide +kernel) rfl) (x_cons (x_bw0 9 rfl rfl) x_nilm)))) (x_bw69 14 rfl rfl) (by decide +kernel) ⟨Nat.le_of_ble_eq_true rfl, Nat.le_of_ble_eq_true rfl⟩) hY0 hI rfl pR_d70 hl.1 (Nat.le_of_ble_eq_true rfl) (Nat.le_of_ble_eq_true rfl) (Nat.le_of_ble_eq_true rfl) (y_cons (y_cref hY_this rfl) (y_cons ⟨_, rfl, by show (3 : Int) ≤ _; omega, by show _ ≤ (159 : Int); omega⟩ (y_cons ⟨_, rfl, x_i32 _⟩ y_nil))) rfl (y_recv rfl hY_this) trivial (y_sub_ef rfl) fun v Yn o Hn L ho hr ha hIn hx_ hE hP => ?_
              have hPu := hP _ _ _ _ _ rfl hs_bk hA_bk
              have hix := (show z68.toInt.toNat = z68.toInt.toNat from rfl)
              replace hs_bk := y_Efld hE hY_this rfl (by decide) (by decide) hs_bk
              replace hY_this := y_ext hx_ hI.1 hY_this
              replace hY_bk := y_ext hx_ hI.1 hY_bk
              obtain ⟨rfl, hA_n⟩ := hPu
              clear ho hr ha hE hP hI hx_
              rename x_I _ _ _ _ _ _ _ _ _ _ => hI
              refine lv_goto hx hb pR_d73 (tgt := 80) (by decide) ?_
              have hz : z68.toInt.toNat = 4 + w.toInt.toNat := by omega
              rw [hz] at hA_n ⊢
              exact y_ireturn B hI rfl rfl rfl List.mem_cons_self ⟨_, rfl, ⟨_, rfl, x_i32 _⟩⟩ (x_cs.mono B.2.2.2.2.2 (y_mon B hI)) (fun t' b' w' v' f' h1 h2 h3 h4 => by cases h1; cases h2.symm.trans hs0; cases z_uniq h4 hA0 h3 hcn; exact ⟨_, _, rfl, hA_n, fun q9 => absurd hok q9, fun _ => ⟨rfl, rfl⟩⟩) (Nat.le_refl _) (Nat.le_refl _) pR_d80
      · have q23_ : w.toInt = (2 : Int32).toInt := by rw [q23]
        refine lv_iload_n hx hb pR_d26 rfl (lv_at hl 2 rfl) ?_
        obtain ⟨z27, hg_z27⟩ : ∃ z27 : Int64, v9.toInt64 = z27 := ⟨_, rfl⟩
        have h_z27 : z27.toInt = (v9).toInt := by rw [← hg_z27]; exact Int32.toInt_toInt64 _
        refine lv_i2l hx hb pR_d27 (v := z27) hg_z27 ?_
        refine lv_lconst hx hb pR_d28 (v := 0) (by decide) ?_
        have el0 : (0 : Int64).toInt = 0 := by decide
        refine lv_ldc2 hx hb X.2.2.2.1 (v := 3) (X.2.2.2.2.1 _ (x_bw69 9 rfl rfl)) pR_d29 ?_
        have el3 : (3 : Int64).toInt = 3 := by decide
        refine y_call (z := (1, 87, 3, none, xM148)) (av := [.long z27, .long (0 : Int64), .long (3 : Int64)]) (rest := []) (y_cokS (n := 3) X ym_in (x_cons (x_bw67 11 rfl rfl) (x_cons (x_bw67 12 rfl rfl) (x_cons (x_bw0 9 rfl rfl) x_nilm))) (x_bw67 13 rfl rfl) (by decide +kernel) ⟨Nat.le_of_ble_eq_true rfl, Nat.le_of_ble_eq_true rfl⟩) hY0 hI rfl pR_d32 hl.1 (Nat.le_of_ble_eq_true rfl) (Nat.le_of_ble_eq_true rfl) (Nat.le_of_ble_eq_true rfl) (y_cons ⟨_, rfl, x_i64 _⟩ (y_cons ⟨_, rfl, x_i64 _⟩ (y_cons ⟨_, rfl, x_i64 _⟩ y_nil))) rfl (y_norecv rfl) trivial (y_sub_ef rfl) fun v Yn o Hn L ho hr ha hIn hx_ hE hP => ?_
        replace hs_bk := y_Efld hE hY_this rfl (by decide) (by decide) hs_bk
        replace hA_bk := hA_bk.kept (y_Earr hE hY_bk rfl (by decide))
        replace hY_this := y_ext hx_ hI.1 hY_this
        replace hY_bk := y_ext hx_ hI.1 hY_bk
        obtain ⟨r32, rfl, hin_r32, hout_r32⟩ := z_inR2 (hP _ _ _ rfl)
        clear ho hr ha hE hP hI hx_
        rename x_I _ _ _ _ _ _ _ _ _ _ => hI
        refine lv_goto hx hb pR_d35 (tgt := 60) (by decide) ?_
        refine lv_istore_n hx hb pR_d60 rfl hl (by decide) (lv' := [(3, .int r32), (0, .ref this), (1, .int w), (2, .int v9)]) rfl fun ls hl => ?_
        refine lv_iload_n hx hb pR_d61 rfl (lv_at hl 0 rfl) ?_
        refine lv_if_eq hx hb pR_d62 (tgt := 76) (by decide) (fun q62 => ?_) (fun q62 => ?_)
        · have q62_ : r32.toInt = (0 : Int32).toInt := by rw [q62]
          have hno : ¬ m_pOk w v9 := by unfold m_pOk; intro q9; first | (have := hout_r15 q62; omega) | (have := hout_r32 q62; omega) | (have := hout_r49 q52; omega) | omega
          refine lv_aload_n hx hb pR_d76 rfl (lv_at hl 1 rfl) ?_
          refine y_call (z := (0, 102, 1, some 17, xM143)) (av := [.ref this]) (rest := []) (y_cokV (n := 0) (ci := 12) X ym_bad rfl rfl rfl (x_cons (x_bw68 3 rfl rfl) (x_cons (x_bw68 5 rfl rfl) (x_cons (x_at 32 (by decide +kernel) rfl) (x_cons (x_bw0 9 rfl rfl) x_nilm)))) (x_bw68 6 rfl rfl) (by decide +kernel) ⟨Nat.le_of_ble_eq_true rfl, Nat.le_of_ble_eq_true rfl⟩) hY0 hI rfl pR_d77 hl.1 (Nat.le_of_ble_eq_true rfl) (Nat.le_of_ble_eq_true rfl) (Nat.le_of_ble_eq_true rfl) (y_cons (y_cref hY_this rfl) y_nil) rfl (y_recv rfl hY_this) trivial (y_sub_ef rfl) fun v Yn o Hn L ho hr ha hIn hx_ hE hP => ?_
          replace hs_bk := y_Efld hE hY_this rfl (by decide) (by decide) hs_bk
          replace hA_bk := hA_bk.kept (y_Earr hE hY_bk rfl (by decide))
          replace hY_this := y_ext hx_ hI.1 hY_this
          replace hY_bk := y_ext hx_ hI.1 hY_bk
          have hPb := hP
          obtain rfl := hPb
          clear ho hr ha hE hP hI hx_
          rename x_I _ _ _ _ _ _ _ _ _ _ => hI
          exact y_ireturn B hI rfl rfl rfl List.mem_cons_self ⟨_, rfl, ⟨_, rfl, x_i32 _⟩⟩ (x_cs.mono B.2.2.2.2.2 (y_mon B hI)) (fun t' b' w' v' f' h1 h2 h3 h4 => by cases h1; cases h2.symm.trans hs0; cases z_uniq h4 hA0 h3 hcn; exact ⟨_, _, rfl, hA_bk, fun _ => ⟨rfl, rfl⟩, fun q9 => absurd q9 hno⟩) (Nat.le_refl _) (Nat.le_refl _) pR_d80
        · have q62_ : ¬ r32.toInt = (0 : Int32).toInt := fun q => q62 (Int32.toInt_inj.mp q)
          have hok : m_pOk w v9 := by unfold m_pOk; first | exact absurd rfl q62 | (have := hin_r15 q62; omega) | (have := hin_r32 q62; omega) | (have := hin_r49 q52; omega)
          refine lv_aload_n hx hb pR_d65 rfl (lv_at hl 1 rfl) ?_
          refine lv_iconst hx hb pR_d66 (v := 4) (by decide) ?_
          have ec4 : (4 : Int32).toInt = 4 := by decide
          refine lv_iload_n hx hb pR_d67 rfl (lv_at hl 2 rfl) ?_
          refine lv_iadd hx hb pR_d68 ?_
          generalize hg_z68 : (4 : Int32) + w = z68
          have h_z68 : z68.toInt = 4 + w.toInt := by rw [← hg_z68]; have := y_add (x := (4 : Int32)) (y := w) (by rw [ec4]; omega) (by rw [ec4]; omega); rw [ec4] at this; exact this
          refine lv_iload_n hx hb pR_d69 rfl (lv_at hl 3 rfl) ?_
          refine y_call (z := (0, 116, 3, some 17, xM160)) (av := [.ref this, .int z68, .int v9]) (rest := []) (y_cokV (n := 2) (ci := 12) X ym_putsR rfl rfl rfl (x_cons (x_bw69 11 rfl rfl) (x_cons (x_bw69 13 rfl rfl) (x_cons (x_at 35 (by decide +kernel) rfl) (x_cons (x_bw0 9 rfl rfl) x_nilm)))) (x_bw69 14 rfl rfl) (by decide +kernel) ⟨Nat.le_of_ble_eq_true rfl, Nat.le_of_ble_eq_true rfl⟩) hY0 hI rfl pR_d70 hl.1 (Nat.le_of_ble_eq_true rfl) (Nat.le_of_ble_eq_true rfl) (Nat.le_of_ble_eq_true rfl) (y_cons (y_cref hY_this rfl) (y_cons ⟨_, rfl, by show (3 : Int) ≤ _; omega, by show _ ≤ (159 : Int); omega⟩ (y_cons ⟨_, rfl, x_i32 _⟩ y_nil))) rfl (y_recv rfl hY_this) trivial (y_sub_ef rfl) fun v Yn o Hn L ho hr ha hIn hx_ hE hP => ?_
          have hPu := hP _ _ _ _ _ rfl hs_bk hA_bk
          have hix := (show z68.toInt.toNat = z68.toInt.toNat from rfl)
          replace hs_bk := y_Efld hE hY_this rfl (by decide) (by decide) hs_bk
          replace hY_this := y_ext hx_ hI.1 hY_this
          replace hY_bk := y_ext hx_ hI.1 hY_bk
          obtain ⟨rfl, hA_n⟩ := hPu
          clear ho hr ha hE hP hI hx_
          rename x_I _ _ _ _ _ _ _ _ _ _ => hI
          refine lv_goto hx hb pR_d73 (tgt := 80) (by decide) ?_
          have hz : z68.toInt.toNat = 4 + w.toInt.toNat := by omega
          rw [hz] at hA_n ⊢
          exact y_ireturn B hI rfl rfl rfl List.mem_cons_self ⟨_, rfl, ⟨_, rfl, x_i32 _⟩⟩ (x_cs.mono B.2.2.2.2.2 (y_mon B hI)) (fun t' b' w' v' f' h1 h2 h3 h4 => by cases h1; cases h2.symm.trans hs0; cases z_uniq h4 hA0 h3 hcn; exact ⟨_, _, rfl, hA_n, fun q9 => absurd hok q9, fun _ => ⟨rfl, rfl⟩⟩) (Nat.le_refl _) (Nat.le_refl _) pR_d80
    · have q6_ : w.toInt = (1 : Int32).toInt := by rw [q6]
      refine lv_iload_n hx hb pR_d9 rfl (lv_at hl 2 rfl) ?_
      obtain ⟨z10, hg_z10⟩ : ∃ z10 : Int64, v9.toInt64 = z10 := ⟨_, rfl⟩
      have h_z10 : z10.toInt = (v9).toInt := by rw [← hg_z10]; exact Int32.toInt_toInt64 _
      refine lv_i2l hx hb pR_d10 (v := z10) hg_z10 ?_
      refine lv_lconst hx hb pR_d11 (v := 0) (by decide) ?_
      have el0 : (0 : Int64).toInt = 0 := by decide
      refine lv_ldc2 hx hb X.2.2.2.1 (v := 99) (X.2.2.2.2.1 _ (x_bw67 14 rfl rfl)) pR_d12 ?_
      have el99 : (99 : Int64).toInt = 99 := by decide
      refine y_call (z := (1, 87, 3, none, xM148)) (av := [.long z10, .long (0 : Int64), .long (99 : Int64)]) (rest := []) (y_cokS (n := 3) X ym_in (x_cons (x_bw67 11 rfl rfl) (x_cons (x_bw67 12 rfl rfl) (x_cons (x_bw0 9 rfl rfl) x_nilm))) (x_bw67 13 rfl rfl) (by decide +kernel) ⟨Nat.le_of_ble_eq_true rfl, Nat.le_of_ble_eq_true rfl⟩) hY0 hI rfl pR_d15 hl.1 (Nat.le_of_ble_eq_true rfl) (Nat.le_of_ble_eq_true rfl) (Nat.le_of_ble_eq_true rfl) (y_cons ⟨_, rfl, x_i64 _⟩ (y_cons ⟨_, rfl, x_i64 _⟩ (y_cons ⟨_, rfl, x_i64 _⟩ y_nil))) rfl (y_norecv rfl) trivial (y_sub_ef rfl) fun v Yn o Hn L ho hr ha hIn hx_ hE hP => ?_
      replace hs_bk := y_Efld hE hY_this rfl (by decide) (by decide) hs_bk
      replace hA_bk := hA_bk.kept (y_Earr hE hY_bk rfl (by decide))
      replace hY_this := y_ext hx_ hI.1 hY_this
      replace hY_bk := y_ext hx_ hI.1 hY_bk
      obtain ⟨r15, rfl, hin_r15, hout_r15⟩ := z_inR2 (hP _ _ _ rfl)
      clear ho hr ha hE hP hI hx_
      rename x_I _ _ _ _ _ _ _ _ _ _ => hI
      refine lv_goto hx hb pR_d18 (tgt := 60) (by decide) ?_
      refine lv_istore_n hx hb pR_d60 rfl hl (by decide) (lv' := [(3, .int r15), (0, .ref this), (1, .int w), (2, .int v9)]) rfl fun ls hl => ?_
      refine lv_iload_n hx hb pR_d61 rfl (lv_at hl 0 rfl) ?_
      refine lv_if_eq hx hb pR_d62 (tgt := 76) (by decide) (fun q62 => ?_) (fun q62 => ?_)
      · have q62_ : r15.toInt = (0 : Int32).toInt := by rw [q62]
        have hno : ¬ m_pOk w v9 := by unfold m_pOk; intro q9; first | (have := hout_r15 q62; omega) | (have := hout_r32 q62; omega) | (have := hout_r49 q52; omega) | omega
        refine lv_aload_n hx hb pR_d76 rfl (lv_at hl 1 rfl) ?_
        refine y_call (z := (0, 102, 1, some 17, xM143)) (av := [.ref this]) (rest := []) (y_cokV (n := 0) (ci := 12) X ym_bad rfl rfl rfl (x_cons (x_bw68 3 rfl rfl) (x_cons (x_bw68 5 rfl rfl) (x_cons (x_at 32 (by decide +kernel) rfl) (x_cons (x_bw0 9 rfl rfl) x_nilm)))) (x_bw68 6 rfl rfl) (by decide +kernel) ⟨Nat.le_of_ble_eq_true rfl, Nat.le_of_ble_eq_true rfl⟩) hY0 hI rfl pR_d77 hl.1 (Nat.le_of_ble_eq_true rfl) (Nat.le_of_ble_eq_true rfl) (Nat.le_of_ble_eq_true rfl) (y_cons (y_cref hY_this rfl) y_nil) rfl (y_recv rfl hY_this) trivial (y_sub_ef rfl) fun v Yn o Hn L ho hr ha hIn hx_ hE hP => ?_
        replace hs_bk := y_Efld hE hY_this rfl (by decide) (by decide) hs_bk
        replace hA_bk := hA_bk.kept (y_Earr hE hY_bk rfl (by decide))
        replace hY_this := y_ext hx_ hI.1 hY_this
        replace hY_bk := y_ext hx_ hI.1 hY_bk
        have hPb := hP
        obtain rfl := hPb
        clear ho hr ha hE hP hI hx_
        rename x_I _ _ _ _ _ _ _ _ _ _ => hI
        exact y_ireturn B hI rfl rfl rfl List.mem_cons_self ⟨_, rfl, ⟨_, rfl, x_i32 _⟩⟩ (x_cs.mono B.2.2.2.2.2 (y_mon B hI)) (fun t' b' w' v' f' h1 h2 h3 h4 => by cases h1; cases h2.symm.trans hs0; cases z_uniq h4 hA0 h3 hcn; exact ⟨_, _, rfl, hA_bk, fun _ => ⟨rfl, rfl⟩, fun q9 => absurd q9 hno⟩) (Nat.le_refl _) (Nat.le_refl _) pR_d80
      · have q62_ : ¬ r15.toInt = (0 : Int32).toInt := fun q => q62 (Int32.toInt_inj.mp q)
        have hok : m_pOk w v9 := by unfold m_pOk; first | exact absurd rfl q62 | (have := hin_r15 q62; omega) | (have := hin_r32 q62; omega) | (have := hin_r49 q52; omega)
        refine lv_aload_n hx hb pR_d65 rfl (lv_at hl 1 rfl) ?_
        refine lv_iconst hx hb pR_d66 (v := 4) (by decide) ?_
        have ec4 : (4 : Int32).toInt = 4 := by decide
        refine lv_iload_n hx hb pR_d67 rfl (lv_at hl 2 rfl) ?_
        refine lv_iadd hx hb pR_d68 ?_
        generalize hg_z68 : (4 : Int32) + w = z68
        have h_z68 : z68.toInt = 4 + w.toInt := by rw [← hg_z68]; have := y_add (x := (4 : Int32)) (y := w) (by rw [ec4]; omega) (by rw [ec4]; omega); rw [ec4] at this; exact this
        refine lv_iload_n hx hb pR_d69 rfl (lv_at hl 3 rfl) ?_
        refine y_call (z := (0, 116, 3, some 17, xM160)) (av := [.ref this, .int z68, .int v9]) (rest := []) (y_cokV (n := 2) (ci := 12) X ym_putsR rfl rfl rfl (x_cons (x_bw69 11 rfl rfl) (x_cons (x_bw69 13 rfl rfl) (x_cons (x_at 35 (by decide +kernel) rfl) (x_cons (x_bw0 9 rfl rfl) x_nilm)))) (x_bw69 14 rfl rfl) (by decide +kernel) ⟨Nat.le_of_ble_eq_true rfl, Nat.le_of_ble_eq_true rfl⟩) hY0 hI rfl pR_d70 hl.1 (Nat.le_of_ble_eq_true rfl) (Nat.le_of_ble_eq_true rfl) (Nat.le_of_ble_eq_true rfl) (y_cons (y_cref hY_this rfl) (y_cons ⟨_, rfl, by show (3 : Int) ≤ _; omega, by show _ ≤ (159 : Int); omega⟩ (y_cons ⟨_, rfl, x_i32 _⟩ y_nil))) rfl (y_recv rfl hY_this) trivial (y_sub_ef rfl) fun v Yn o Hn L ho hr ha hIn hx_ hE hP => ?_
        have hPu := hP _ _ _ _ _ rfl hs_bk hA_bk
        have hix := (show z68.toInt.toNat = z68.toInt.toNat from rfl)
        replace hs_bk := y_Efld hE hY_this rfl (by decide) (by decide) hs_bk
        replace hY_this := y_ext hx_ hI.1 hY_this
        replace hY_bk := y_ext hx_ hI.1 hY_bk
        obtain ⟨rfl, hA_n⟩ := hPu
        clear ho hr ha hE hP hI hx_
        rename x_I _ _ _ _ _ _ _ _ _ _ => hI
        refine lv_goto hx hb pR_d73 (tgt := 80) (by decide) ?_
        have hz : z68.toInt.toNat = 4 + w.toInt.toNat := by omega
        rw [hz] at hA_n ⊢
        exact y_ireturn B hI rfl rfl rfl List.mem_cons_self ⟨_, rfl, ⟨_, rfl, x_i32 _⟩⟩ (x_cs.mono B.2.2.2.2.2 (y_mon B hI)) (fun t' b' w' v' f' h1 h2 h3 h4 => by cases h1; cases h2.symm.trans hs0; cases z_uniq h4 hA0 h3 hcn; exact ⟨_, _, rfl, hA_n, fun q9 => absurd hok q9, fun _ => ⟨rfl, rfl⟩⟩) (Nat.le_refl _) (Nat.le_refl _) pR_d80

