/-! WHAT A CALL OF THE REFERENCE ANSWERS of sight -/
def m_asR (f : Nat → Int32) (a b r : Int32) : Prop := (m_isH f a ∧ m_isH f b ∧ ¬ a = b → r = m_b (m_ss f a.toInt.toNat b.toInt.toNat (f 4) (f 5))) ∧ (¬ (m_isH f a ∧ m_isH f b ∧ ¬ a = b) → r = -2)
def m_aeR (f : Nat → Int32) (h w r : Int32) : Prop := (m_isH f h ∧ m_isS f w → r = m_VR f (f 4) (f 5) h.toInt.toNat &&& w) ∧ (¬ (m_isH f h ∧ m_isS f w) → r = -2)
def m_wrR (V : Nat → Int32) (w : Int32) (i : Nat) : Bool := m_has w (nI i) && !(decide (z_bits (V i &&& w) = 1))
def m_fwR (V : Nat → Int32) (w : Int32) (n : Nat) (r : Int32) : Prop := (∃ k : Nat, k < n ∧ r.toInt = (k : Int) ∧ m_wrR V w k = true ∧ ∀ i, i < k → m_wrR V w i = false) ∨ (r = -1 ∧ ∀ i, i < n → m_wrR V w i = false)
def m_ajR (f : Nat → Int32) (w t r : Int32) : Prop := (m_isS f w ∧ 0 ≤ t.toInt ∧ t.toInt ≤ 1 → ∃ k : Int32, m_fwR (m_VR f (f 4) (f 5)) w (f 0).toInt.toNat k ∧ (k = -1 ∨ t = 0 → r = k) ∧ (¬ k = -1 → ¬ t = 0 → r = z_bits (m_VR f (f 4) (f 5) k.toInt.toNat &&& w))) ∧ (¬ (m_isS f w ∧ 0 ≤ t.toInt ∧ t.toInt ≤ 1) → r = -2)
def z_PMse : yP := fun D av _ H v _ H' => ∀ (this bk : Nat) (h w : Int32) (f : Nat → Int32), av = [.ref this, .int h, .int w] → x_sl D 12 0 this H = some (.ref bk) → z_c f → y_A bk 160 H f → ∃ r : Int32, v = some (.int r) ∧ m_aeR f h w r
theorem seX_d0 : decode xM187.2.1 0 = .ok (.aload_n 0, 1) := dz_ok (by decide +kernel)
theorem seX_d1 : decode xM187.2.1 1 = .ok (.iload_n 1, 1) := dz_ok (by decide +kernel)
theorem seX_d2 : decode xM187.2.1 2 = .ok (.invokevirtual 151, 3) := dz_ok (by decide +kernel)
theorem seX_d5 : decode xM187.2.1 5 = .ok (.ifCond .eq 11, 3) := dz_ok (by decide +kernel)
theorem seX_d8 : decode xM187.2.1 8 = .ok (.aload_n 0, 1) := dz_ok (by decide +kernel)
theorem seX_d9 : decode xM187.2.1 9 = .ok (.iload_n 2, 1) := dz_ok (by decide +kernel)
theorem seX_d10 : decode xM187.2.1 10 = .ok (.invokevirtual 237, 3) := dz_ok (by decide +kernel)
theorem seX_d13 : decode xM187.2.1 13 = .ok (.ifCond .ne 8, 3) := dz_ok (by decide +kernel)
theorem seX_d16 : decode xM187.2.1 16 = .ok (.aload_n 0, 1) := dz_ok (by decide +kernel)
theorem seX_d17 : decode xM187.2.1 17 = .ok (.invokevirtual 102, 3) := dz_ok (by decide +kernel)
theorem seX_d20 : decode xM187.2.1 20 = .ok (.ireturn, 1) := dz_ok (by decide +kernel)
theorem seX_d21 : decode xM187.2.1 21 = .ok (.aload_n 0, 1) := dz_ok (by decide +kernel)
theorem seX_d22 : decode xM187.2.1 22 = .ok (.invokevirtual 240, 3) := dz_ok (by decide +kernel)
theorem seX_d25 : decode xM187.2.1 25 = .ok (.aload_n 0, 1) := dz_ok (by decide +kernel)
theorem seX_d26 : decode xM187.2.1 26 = .ok (.getfield 26, 3) := dz_ok (by decide +kernel)
theorem seX_d29 : decode xM187.2.1 29 = .ok (.iload_n 1, 1) := dz_ok (by decide +kernel)
theorem seX_d30 : decode xM187.2.1 30 = .ok (.iaload, 1) := dz_ok (by decide +kernel)
theorem seX_d31 : decode xM187.2.1 31 = .ok (.iload_n 2, 1) := dz_ok (by decide +kernel)
theorem seX_d32 : decode xM187.2.1 32 = .ok (.iand, 1) := dz_ok (by decide +kernel)
theorem seX_d33 : decode xM187.2.1 33 = .ok (.ireturn, 1) := dz_ok (by decide +kernel)
theorem ym_seesX : y_Met vwCl x_G x_Zs x_Tb x_Nb xM187 y_T z_PMse := by
  refine y_main (by decide +kernel) (by decide +kernel) x_Tb_good x_Nb_ok ?_
  intro p l e s m below meth c D U Y0 av ls B hI _ hl
  have X := B.1
  have hx := X.1
  have hb := X.2.1
  have hY0 := B.2.2.2.2.1
  obtain ⟨v0, v1, v2, rfl, hv0, ⟨h, rfl, -⟩, ⟨w, rfl, -⟩⟩ := y_three B.2.2.2.2.2
  obtain ⟨this, t0, rfl, ht0, hY_this⟩ := x_ref_at hv0 rfl
  obtain rfl := List.mem_singleton.mp ht0
  replace hl : lv_has ls xM187.2.2.1 [(0, .ref this), (1, .int h), (2, .int w)] := hl
  obtain ⟨bk, hs_bk, hY_bk⟩ := y_fldR (k := 0) hI.1 hY_this rfl rfl
  obtain ⟨fb9, hA9, hB9⟩ := y_arr hI.1 hY_bk rfl rfl
  obtain ⟨fb, hcn, hA_bk, hB_bk⟩ := z_canon (Y := Y0) (P := fun j v => x_c Y0 ([xI 0 10, xI 0 8, xI 0 8].getD j xF) (.int v)) hA9 hB9
  clear hA9 hB9 fb9
  have hs0 := hs_bk
  have hA0 := hA_bk
  have hd := z_hdr hB_bk
  have hd0 := hd.1
  have hd1 := hd.2.1
  obtain ⟨se, hs_se, hY_se⟩ := y_fldR (k := 8) hI.1 hY_this rfl rfl
  refine lv_aload_n hx hb seX_d0 rfl (lv_at hl 0 rfl) ?_
  refine lv_iload_n hx hb seX_d1 rfl (lv_at hl 1 rfl) ?_
  refine y_call (z := (0, 151, 2, some 17, xM171)) (av := [.ref this, .int h]) (rest := []) (y_cokV (n := 1) (ci := 12) X ym_isHillX rfl rfl rfl (x_cons (x_bw72 2 rfl rfl) (x_cons (x_bw72 4 rfl rfl) (x_cons (x_at 40 (by decide +kernel) rfl) (x_cons (x_bw0 9 rfl rfl) x_nilm)))) (x_bw72 5 rfl rfl) (by decide +kernel) ⟨Nat.le_of_ble_eq_true rfl, Nat.le_of_ble_eq_true rfl⟩) hY0 hI rfl seX_d2 hl.1 (Nat.le_of_ble_eq_true rfl) (Nat.le_of_ble_eq_true rfl) (Nat.le_of_ble_eq_true rfl) (y_cons (y_cref hY_this rfl) (y_cons ⟨_, rfl, x_i32 _⟩ y_nil)) rfl (y_recv rfl hY_this) trivial (y_sub_ef rfl) fun v Yn o Hn L ho hr ha hIn hx_ hE hP => ?_
  have hPq := hP _ _ _ _ rfl hs_bk hcn hA_bk
  replace hs_bk := y_Efld hE hY_this rfl (by decide) (by decide) hs_bk
  replace hs_se := y_Efld hE hY_this rfl (by decide) (by decide) hs_se
  replace hA_bk := hA_bk.kept (y_Earr hE hY_bk rfl (by decide))
  replace hY_this := y_ext hx_ hI.1 hY_this
  replace hY_bk := y_ext hx_ hI.1 hY_bk
  replace hY_se := y_ext hx_ hI.1 hY_se
  obtain ⟨r2, rfl, hin_r2, hout_r2⟩ := hPq
  clear ho hr ha hE hP hI hx_
  rename x_I _ _ _ _ _ _ _ _ _ _ => hI
  have ec0 : (0 : Int32).toInt = 0 := by decide
  refine lv_if_eq hx hb seX_d5 (tgt := 16) (by decide) (fun q5 => ?_) (fun q5 => ?_)
  · have q5_ : r2.toInt = (0 : Int32).toInt := by rw [q5]
    have hno : ¬ (m_isH fb h ∧ m_isS fb w) := fun q9 => by first | exact hout_r2 (by assumption) q9.1 | (have h8 := hout_r10 (by assumption); have h7 := q9.2; unfold m_isS at h7; omega)
    refine lv_aload_n hx hb seX_d16 rfl (lv_at hl 0 rfl) ?_
    refine y_call (z := (0, 102, 1, some 17, xM143)) (av := [.ref this]) (rest := []) (y_cokV (n := 0) (ci := 12) X ym_bad rfl rfl rfl (x_cons (x_bw68 3 rfl rfl) (x_cons (x_bw68 5 rfl rfl) (x_cons (x_at 32 (by decide +kernel) rfl) (x_cons (x_bw0 9 rfl rfl) x_nilm)))) (x_bw68 6 rfl rfl) (by decide +kernel) ⟨Nat.le_of_ble_eq_true rfl, Nat.le_of_ble_eq_true rfl⟩) hY0 hI rfl seX_d17 hl.1 (Nat.le_of_ble_eq_true rfl) (Nat.le_of_ble_eq_true rfl) (Nat.le_of_ble_eq_true rfl) (y_cons (y_cref hY_this rfl) y_nil) rfl (y_recv rfl hY_this) trivial (y_sub_ef rfl) fun v Yn o Hn L ho hr ha hIn hx_ hE hP => ?_
    replace hs_bk := y_Efld hE hY_this rfl (by decide) (by decide) hs_bk
    replace hs_se := y_Efld hE hY_this rfl (by decide) (by decide) hs_se
    replace hA_bk := hA_bk.kept (y_Earr hE hY_bk rfl (by decide))
    replace hY_this := y_ext hx_ hI.1 hY_this
    replace hY_bk := y_ext hx_ hI.1 hY_bk
    replace hY_se := y_ext hx_ hI.1 hY_se
    have hPb := hP
    obtain rfl := hPb
    clear ho hr ha hE hP hI hx_
    rename x_I _ _ _ _ _ _ _ _ _ _ => hI
    exact y_ireturn B hI rfl rfl rfl List.mem_cons_self ⟨_, rfl, ⟨_, rfl, x_i32 _⟩⟩ (x_cs.mono B.2.2.2.2.2 (y_mon B hI)) (fun t' b' w0' w1' f' h1 h2 h3 h4 => by cases h1; cases h2.symm.trans hs0; cases z_uniq h4 hA0 h3 hcn; exact ⟨_, rfl, fun q9 => absurd q9 hno, fun _ => rfl⟩) (Nat.le_refl _) (Nat.le_refl _) seX_d20
  · have q5_ : ¬ r2.toInt = (0 : Int32).toInt := fun q => q5 (Int32.toInt_inj.mp q)
    refine lv_aload_n hx hb seX_d8 rfl (lv_at hl 0 rfl) ?_
    refine lv_iload_n hx hb seX_d9 rfl (lv_at hl 2 rfl) ?_
    refine y_call (z := (0, 237, 2, some 17, xM184)) (av := [.ref this, .int w]) (rest := []) (y_cokV (n := 1) (ci := 12) X ym_isSet rfl rfl rfl (x_cons (x_bw77 0 rfl rfl) (x_cons (x_bw77 2 rfl rfl) (x_cons (x_at 48 (by decide +kernel) rfl) (x_cons (x_bw0 9 rfl rfl) x_nilm)))) (x_bw77 3 rfl rfl) (by decide +kernel) ⟨Nat.le_of_ble_eq_true rfl, Nat.le_of_ble_eq_true rfl⟩) hY0 hI rfl seX_d10 hl.1 (Nat.le_of_ble_eq_true rfl) (Nat.le_of_ble_eq_true rfl) (Nat.le_of_ble_eq_true rfl) (y_cons (y_cref hY_this rfl) (y_cons ⟨_, rfl, x_i32 _⟩ y_nil)) rfl (y_recv rfl hY_this) trivial (y_sub_ef rfl) fun v Yn o Hn L ho hr ha hIn hx_ hE hP => ?_
    have hPv := hP _ _ _ _ rfl hs_bk (hA_bk 0 (by decide))
    replace hs_bk := y_Efld hE hY_this rfl (by decide) (by decide) hs_bk
    replace hs_se := y_Efld hE hY_this rfl (by decide) (by decide) hs_se
    replace hA_bk := hA_bk.kept (y_Earr hE hY_bk rfl (by decide))
    replace hY_this := y_ext hx_ hI.1 hY_this
    replace hY_bk := y_ext hx_ hI.1 hY_bk
    replace hY_se := y_ext hx_ hI.1 hY_se
    obtain ⟨r10, rfl, hin_r10, hout_r10⟩ := hPv
    clear ho hr ha hE hP hI hx_
    rename x_I _ _ _ _ _ _ _ _ _ _ => hI
    refine lv_if_ne hx hb seX_d13 (tgt := 21) (by decide) (fun q13 => ?_) (fun q13 => ?_)
    · have q13_ : ¬ r10.toInt = (0 : Int32).toInt := fun q => q13 (Int32.toInt_inj.mp q)
      have hok : m_isH fb h ∧ m_isS fb w := ⟨hin_r2 (by assumption), hin_r10 (by assumption)⟩
      have ha9 := hok.1
      unfold m_isH at ha9
      refine lv_aload_n hx hb seX_d21 rfl (lv_at hl 0 rfl) ?_
      refine y_call (z := (0, 240, 1, some 17, xM186)) (av := [.ref this]) (rest := []) (y_cokV (n := 0) (ci := 12) X ym_looksNow rfl rfl rfl (x_cons (x_bw77 8 rfl rfl) (x_cons (x_bw77 10 rfl rfl) (x_cons (x_at 50 (by decide +kernel) rfl) (x_cons (x_bw0 9 rfl rfl) x_nilm)))) (x_bw77 11 rfl rfl) (by decide +kernel) ⟨Nat.le_of_ble_eq_true rfl, Nat.le_of_ble_eq_true rfl⟩) hY0 hI rfl seX_d22 hl.1 (Nat.le_of_ble_eq_true rfl) (Nat.le_of_ble_eq_true rfl) (Nat.le_of_ble_eq_true rfl) (y_cons (y_cref hY_this rfl) y_nil) rfl (y_recv rfl hY_this) trivial (y_sub_ef rfl) fun v Yn o Hn L ho hr ha hIn hx_ hE hP => ?_
      have hPs := hP _ _ _ rfl hs_bk hcn hA_bk _ hs_se
      replace hs_bk := y_Efld hE hY_this rfl (by decide) (by decide) hs_bk
      replace hs_se := y_Efld hE hY_this rfl (by decide) (by decide) hs_se
      replace hA_bk := hA_bk.kept (y_Earr hE hY_bk rfl (by decide))
      replace hY_this := y_ext hx_ hI.1 hY_this
      replace hY_bk := y_ext hx_ hI.1 hY_bk
      replace hY_se := y_ext hx_ hI.1 hY_se
      obtain rfl := y_ansV rfl ho hr
      obtain ⟨fs, hA_se, -⟩ := y_arr hIn.1 hY_se rfl rfl
      have hVs : ∀ i, i < (fb 0).toInt.toNat → fs i = (m_VR fb (fb 4) (fb 5)) i := fun i hi => z_intI (hA_se i (by omega)) (hPs i hi)
      clear ho hr ha hE hP hI hx_
      rename x_I _ _ _ _ _ _ _ _ _ _ => hI
      refine lv_aload_n hx hb seX_d25 rfl (lv_at hl 0 rfl) ?_
      refine y_getf X (fl199 X.2.2.2.2.1) hI.1 hY_this rfl hs_se seX_d26 ?_
      refine lv_iload_n hx hb seX_d29 rfl (lv_at hl 1 rfl) ?_
      refine y_iald X hI.1 hY_se rfl hA_se (by omega) (by show _ < (10 : Int); omega) seX_d30 ?_
      obtain ⟨e30, hg_e30⟩ : ∃ e30 : Int32, fs h.toInt.toNat = e30 := ⟨_, rfl⟩
      rw [hg_e30]
      refine lv_iload_n hx hb seX_d31 rfl (lv_at hl 2 rfl) ?_
      refine lv_iand hx hb seX_d32 ?_
      generalize hg_z32 : e30 &&& w = z32
      exact y_ireturn B hI rfl rfl rfl List.mem_cons_self ⟨_, rfl, ⟨_, rfl, x_i32 _⟩⟩ (x_cs.mono B.2.2.2.2.2 (y_mon B hI)) (fun t' b' w0' w1' f' h1 h2 h3 h4 => by cases h1; cases h2.symm.trans hs0; cases z_uniq h4 hA0 h3 hcn; exact ⟨_, rfl, fun _ => by rw [← hVs _ (by omega), ← hg_z32, ← hg_e30], fun q9 => absurd hok q9⟩) (Nat.le_refl _) (Nat.le_refl _) seX_d33
    · have q13_ : r10.toInt = (0 : Int32).toInt := by rw [q13]
      have hno : ¬ (m_isH fb h ∧ m_isS fb w) := fun q9 => by first | exact hout_r2 (by assumption) q9.1 | (have h8 := hout_r10 (by assumption); have h7 := q9.2; unfold m_isS at h7; omega)
      refine lv_aload_n hx hb seX_d16 rfl (lv_at hl 0 rfl) ?_
      refine y_call (z := (0, 102, 1, some 17, xM143)) (av := [.ref this]) (rest := []) (y_cokV (n := 0) (ci := 12) X ym_bad rfl rfl rfl (x_cons (x_bw68 3 rfl rfl) (x_cons (x_bw68 5 rfl rfl) (x_cons (x_at 32 (by decide +kernel) rfl) (x_cons (x_bw0 9 rfl rfl) x_nilm)))) (x_bw68 6 rfl rfl) (by decide +kernel) ⟨Nat.le_of_ble_eq_true rfl, Nat.le_of_ble_eq_true rfl⟩) hY0 hI rfl seX_d17 hl.1 (Nat.le_of_ble_eq_true rfl) (Nat.le_of_ble_eq_true rfl) (Nat.le_of_ble_eq_true rfl) (y_cons (y_cref hY_this rfl) y_nil) rfl (y_recv rfl hY_this) trivial (y_sub_ef rfl) fun v Yn o Hn L ho hr ha hIn hx_ hE hP => ?_
      replace hs_bk := y_Efld hE hY_this rfl (by decide) (by decide) hs_bk
      replace hs_se := y_Efld hE hY_this rfl (by decide) (by decide) hs_se
      replace hA_bk := hA_bk.kept (y_Earr hE hY_bk rfl (by decide))
      replace hY_this := y_ext hx_ hI.1 hY_this
      replace hY_bk := y_ext hx_ hI.1 hY_bk
      replace hY_se := y_ext hx_ hI.1 hY_se
      have hPb := hP
      obtain rfl := hPb
      clear ho hr ha hE hP hI hx_
      rename x_I _ _ _ _ _ _ _ _ _ _ => hI
      exact y_ireturn B hI rfl rfl rfl List.mem_cons_self ⟨_, rfl, ⟨_, rfl, x_i32 _⟩⟩ (x_cs.mono B.2.2.2.2.2 (y_mon B hI)) (fun t' b' w0' w1' f' h1 h2 h3 h4 => by cases h1; cases h2.symm.trans hs0; cases z_uniq h4 hA0 h3 hcn; exact ⟨_, rfl, fun q9 => absurd q9 hno, fun _ => rfl⟩) (Nat.le_refl _) (Nat.le_refl _) seX_d20
