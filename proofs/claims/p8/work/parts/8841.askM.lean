/-! WHAT A CALL OF THE REFERENCE ANSWERS of sight -/
def m_asR (f : Nat → Int32) (a b r : Int32) : Prop := (m_isH f a ∧ m_isH f b ∧ ¬ a = b → r = m_b (m_ss f a.toInt.toNat b.toInt.toNat (f 4) (f 5))) ∧ (¬ (m_isH f a ∧ m_isH f b ∧ ¬ a = b) → r = -2)
def m_aeR (f : Nat → Int32) (h w r : Int32) : Prop := (m_isH f h ∧ m_isS f w → r = m_VR f (f 4) (f 5) h.toInt.toNat &&& w) ∧ (¬ (m_isH f h ∧ m_isS f w) → r = -2)
def m_wrR (V : Nat → Int32) (w : Int32) (i : Nat) : Bool := m_has w (nI i) && !(decide (z_bits (V i &&& w) = 1))
def m_fwR (V : Nat → Int32) (w : Int32) (n : Nat) (r : Int32) : Prop := (∃ k : Nat, k < n ∧ r.toInt = (k : Int) ∧ m_wrR V w k = true ∧ ∀ i, i < k → m_wrR V w i = false) ∨ (r = -1 ∧ ∀ i, i < n → m_wrR V w i = false)
def m_ajR (f : Nat → Int32) (w t r : Int32) : Prop := (m_isS f w ∧ 0 ≤ t.toInt ∧ t.toInt ≤ 1 → ∃ k : Int32, m_fwR (m_VR f (f 4) (f 5)) w (f 0).toInt.toNat k ∧ (k = -1 ∨ t = 0 → r = k) ∧ (¬ k = -1 → ¬ t = 0 → r = z_bits (m_VR f (f 4) (f 5) k.toInt.toNat &&& w))) ∧ (¬ (m_isS f w ∧ 0 ≤ t.toInt ∧ t.toInt ≤ 1) → r = -2)
def z_PMsi : yP := fun D av _ H v _ H' => ∀ (this bk : Nat) (a b : Int32) (f : Nat → Int32), av = [.ref this, .int a, .int b] → x_sl D 12 0 this H = some (.ref bk) → z_c f → y_A bk 160 H f → ∃ r : Int32, v = some (.int r) ∧ m_asR f a b r
theorem siX_d0 : decode xM174.2.1 0 = .ok (.aload_n 0, 1) := dz_ok (by decide +kernel)
theorem siX_d1 : decode xM174.2.1 1 = .ok (.iload_n 1, 1) := dz_ok (by decide +kernel)
theorem siX_d2 : decode xM174.2.1 2 = .ok (.invokevirtual 151, 3) := dz_ok (by decide +kernel)
theorem siX_d5 : decode xM174.2.1 5 = .ok (.ifCond .eq 16, 3) := dz_ok (by decide +kernel)
theorem siX_d8 : decode xM174.2.1 8 = .ok (.aload_n 0, 1) := dz_ok (by decide +kernel)
theorem siX_d9 : decode xM174.2.1 9 = .ok (.iload_n 2, 1) := dz_ok (by decide +kernel)
theorem siX_d10 : decode xM174.2.1 10 = .ok (.invokevirtual 151, 3) := dz_ok (by decide +kernel)
theorem siX_d13 : decode xM174.2.1 13 = .ok (.ifCond .eq 8, 3) := dz_ok (by decide +kernel)
theorem siX_d16 : decode xM174.2.1 16 = .ok (.iload_n 1, 1) := dz_ok (by decide +kernel)
theorem siX_d17 : decode xM174.2.1 17 = .ok (.iload_n 2, 1) := dz_ok (by decide +kernel)
theorem siX_d18 : decode xM174.2.1 18 = .ok (.if_icmp .ne 8, 3) := dz_ok (by decide +kernel)
theorem siX_d21 : decode xM174.2.1 21 = .ok (.aload_n 0, 1) := dz_ok (by decide +kernel)
theorem siX_d22 : decode xM174.2.1 22 = .ok (.invokevirtual 102, 3) := dz_ok (by decide +kernel)
theorem siX_d25 : decode xM174.2.1 25 = .ok (.ireturn, 1) := dz_ok (by decide +kernel)
theorem siX_d26 : decode xM174.2.1 26 = .ok (.aload_n 0, 1) := dz_ok (by decide +kernel)
theorem siX_d27 : decode xM174.2.1 27 = .ok (.iload_n 1, 1) := dz_ok (by decide +kernel)
theorem siX_d28 : decode xM174.2.1 28 = .ok (.iload_n 2, 1) := dz_ok (by decide +kernel)
theorem siX_d29 : decode xM174.2.1 29 = .ok (.aload_n 0, 1) := dz_ok (by decide +kernel)
theorem siX_d30 : decode xM174.2.1 30 = .ok (.getfield 7, 3) := dz_ok (by decide +kernel)
theorem siX_d33 : decode xM174.2.1 33 = .ok (.iconst 4, 1) := dz_ok (by decide +kernel)
theorem siX_d34 : decode xM174.2.1 34 = .ok (.iaload, 1) := dz_ok (by decide +kernel)
theorem siX_d35 : decode xM174.2.1 35 = .ok (.aload_n 0, 1) := dz_ok (by decide +kernel)
theorem siX_d36 : decode xM174.2.1 36 = .ok (.getfield 7, 3) := dz_ok (by decide +kernel)
theorem siX_d39 : decode xM174.2.1 39 = .ok (.iconst 5, 1) := dz_ok (by decide +kernel)
theorem siX_d40 : decode xM174.2.1 40 = .ok (.iaload, 1) := dz_ok (by decide +kernel)
theorem siX_d41 : decode xM174.2.1 41 = .ok (.invokevirtual 140, 3) := dz_ok (by decide +kernel)
theorem siX_d44 : decode xM174.2.1 44 = .ok (.ifCond .eq 7, 3) := dz_ok (by decide +kernel)
theorem siX_d47 : decode xM174.2.1 47 = .ok (.iconst 1, 1) := dz_ok (by decide +kernel)
theorem siX_d48 : decode xM174.2.1 48 = .ok (.goto 4, 3) := dz_ok (by decide +kernel)
theorem siX_d51 : decode xM174.2.1 51 = .ok (.iconst 0, 1) := dz_ok (by decide +kernel)
theorem siX_d52 : decode xM174.2.1 52 = .ok (.ireturn, 1) := dz_ok (by decide +kernel)
theorem ym_sightX : y_Met vwCl x_G x_Zs x_Tb x_Nb xM174 y_T z_PMsi := by
  refine y_main (by decide +kernel) (by decide +kernel) x_Tb_good x_Nb_ok ?_
  intro p l e s m below meth c D U Y0 av ls B hI _ hl
  have X := B.1
  have hx := X.1
  have hb := X.2.1
  have hY0 := B.2.2.2.2.1
  obtain ⟨v0, v1, v2, rfl, hv0, ⟨a, rfl, -⟩, ⟨b, rfl, -⟩⟩ := y_three B.2.2.2.2.2
  obtain ⟨this, t0, rfl, ht0, hY_this⟩ := x_ref_at hv0 rfl
  obtain rfl := List.mem_singleton.mp ht0
  replace hl : lv_has ls xM174.2.2.1 [(0, .ref this), (1, .int a), (2, .int b)] := hl
  obtain ⟨bk, hs_bk, hY_bk⟩ := y_fldR (k := 0) hI.1 hY_this rfl rfl
  obtain ⟨fb9, hA9, hB9⟩ := y_arr hI.1 hY_bk rfl rfl
  obtain ⟨fb, hcn, hA_bk, hB_bk⟩ := z_canon (Y := Y0) (P := fun j v => x_c Y0 ([xI 0 10, xI 0 8, xI 0 8].getD j xF) (.int v)) hA9 hB9
  clear hA9 hB9 fb9
  have hs0 := hs_bk
  have hA0 := hA_bk
  have hd := z_hdr hB_bk
  have hd0 := hd.1
  have hd1 := hd.2.1
  refine lv_aload_n hx hb siX_d0 rfl (lv_at hl 0 rfl) ?_
  refine lv_iload_n hx hb siX_d1 rfl (lv_at hl 1 rfl) ?_
  refine y_call (z := (0, 151, 2, some 17, xM171)) (av := [.ref this, .int a]) (rest := []) (y_cokV (n := 1) (ci := 12) X ym_isHillX rfl rfl rfl (x_cons (x_bw72 2 rfl rfl) (x_cons (x_bw72 4 rfl rfl) (x_cons (x_at 40 (by decide +kernel) rfl) (x_cons (x_bw0 9 rfl rfl) x_nilm)))) (x_bw72 5 rfl rfl) (by decide +kernel) ⟨Nat.le_of_ble_eq_true rfl, Nat.le_of_ble_eq_true rfl⟩) hY0 hI rfl siX_d2 hl.1 (Nat.le_of_ble_eq_true rfl) (Nat.le_of_ble_eq_true rfl) (Nat.le_of_ble_eq_true rfl) (y_cons (y_cref hY_this rfl) (y_cons ⟨_, rfl, x_i32 _⟩ y_nil)) rfl (y_recv rfl hY_this) trivial (y_sub_ef rfl) fun v Yn o Hn L ho hr ha hIn hx_ hE hP => ?_
  have hPq := hP _ _ _ _ rfl hs_bk hcn hA_bk
  replace hs_bk := y_Efld hE hY_this rfl (by decide) (by decide) hs_bk
  replace hA_bk := hA_bk.kept (y_Earr hE hY_bk rfl (by decide))
  replace hY_this := y_ext hx_ hI.1 hY_this
  replace hY_bk := y_ext hx_ hI.1 hY_bk
  obtain ⟨r2, rfl, hin_r2, hout_r2⟩ := hPq
  clear ho hr ha hE hP hI hx_
  rename x_I _ _ _ _ _ _ _ _ _ _ => hI
  have ec0 : (0 : Int32).toInt = 0 := by decide
  refine lv_if_eq hx hb siX_d5 (tgt := 21) (by decide) (fun q5 => ?_) (fun q5 => ?_)
  · have q5_ : r2.toInt = (0 : Int32).toInt := by rw [q5]
    have hno : ¬ (m_isH fb a ∧ m_isH fb b ∧ ¬ a = b) := fun q9 => by first | exact hout_r2 (by assumption) q9.1 | exact hout_r10 (by assumption) q9.2.1 | exact q9.2.2 (by assumption)
    refine lv_aload_n hx hb siX_d21 rfl (lv_at hl 0 rfl) ?_
    refine y_call (z := (0, 102, 1, some 17, xM143)) (av := [.ref this]) (rest := []) (y_cokV (n := 0) (ci := 12) X ym_bad rfl rfl rfl (x_cons (x_bw68 3 rfl rfl) (x_cons (x_bw68 5 rfl rfl) (x_cons (x_at 32 (by decide +kernel) rfl) (x_cons (x_bw0 9 rfl rfl) x_nilm)))) (x_bw68 6 rfl rfl) (by decide +kernel) ⟨Nat.le_of_ble_eq_true rfl, Nat.le_of_ble_eq_true rfl⟩) hY0 hI rfl siX_d22 hl.1 (Nat.le_of_ble_eq_true rfl) (Nat.le_of_ble_eq_true rfl) (Nat.le_of_ble_eq_true rfl) (y_cons (y_cref hY_this rfl) y_nil) rfl (y_recv rfl hY_this) trivial (y_sub_ef rfl) fun v Yn o Hn L ho hr ha hIn hx_ hE hP => ?_
    replace hs_bk := y_Efld hE hY_this rfl (by decide) (by decide) hs_bk
    replace hA_bk := hA_bk.kept (y_Earr hE hY_bk rfl (by decide))
    replace hY_this := y_ext hx_ hI.1 hY_this
    replace hY_bk := y_ext hx_ hI.1 hY_bk
    have hPb := hP
    obtain rfl := hPb
    clear ho hr ha hE hP hI hx_
    rename x_I _ _ _ _ _ _ _ _ _ _ => hI
    exact y_ireturn B hI rfl rfl rfl List.mem_cons_self ⟨_, rfl, ⟨_, rfl, x_i32 _⟩⟩ (x_cs.mono B.2.2.2.2.2 (y_mon B hI)) (fun t' b' w0' w1' f' h1 h2 h3 h4 => by cases h1; cases h2.symm.trans hs0; cases z_uniq h4 hA0 h3 hcn; exact ⟨_, rfl, fun q9 => absurd q9 hno, fun _ => rfl⟩) (Nat.le_refl _) (Nat.le_refl _) siX_d25
  · have q5_ : ¬ r2.toInt = (0 : Int32).toInt := fun q => q5 (Int32.toInt_inj.mp q)
    refine lv_aload_n hx hb siX_d8 rfl (lv_at hl 0 rfl) ?_
    refine lv_iload_n hx hb siX_d9 rfl (lv_at hl 2 rfl) ?_
    refine y_call (z := (0, 151, 2, some 17, xM171)) (av := [.ref this, .int b]) (rest := []) (y_cokV (n := 1) (ci := 12) X ym_isHillX rfl rfl rfl (x_cons (x_bw72 2 rfl rfl) (x_cons (x_bw72 4 rfl rfl) (x_cons (x_at 40 (by decide +kernel) rfl) (x_cons (x_bw0 9 rfl rfl) x_nilm)))) (x_bw72 5 rfl rfl) (by decide +kernel) ⟨Nat.le_of_ble_eq_true rfl, Nat.le_of_ble_eq_true rfl⟩) hY0 hI rfl siX_d10 hl.1 (Nat.le_of_ble_eq_true rfl) (Nat.le_of_ble_eq_true rfl) (Nat.le_of_ble_eq_true rfl) (y_cons (y_cref hY_this rfl) (y_cons ⟨_, rfl, x_i32 _⟩ y_nil)) rfl (y_recv rfl hY_this) trivial (y_sub_ef rfl) fun v Yn o Hn L ho hr ha hIn hx_ hE hP => ?_
    have hPq := hP _ _ _ _ rfl hs_bk hcn hA_bk
    replace hs_bk := y_Efld hE hY_this rfl (by decide) (by decide) hs_bk
    replace hA_bk := hA_bk.kept (y_Earr hE hY_bk rfl (by decide))
    replace hY_this := y_ext hx_ hI.1 hY_this
    replace hY_bk := y_ext hx_ hI.1 hY_bk
    obtain ⟨r10, rfl, hin_r10, hout_r10⟩ := hPq
    clear ho hr ha hE hP hI hx_
    rename x_I _ _ _ _ _ _ _ _ _ _ => hI
    refine lv_if_eq hx hb siX_d13 (tgt := 21) (by decide) (fun q13 => ?_) (fun q13 => ?_)
    · have q13_ : r10.toInt = (0 : Int32).toInt := by rw [q13]
      have hno : ¬ (m_isH fb a ∧ m_isH fb b ∧ ¬ a = b) := fun q9 => by first | exact hout_r2 (by assumption) q9.1 | exact hout_r10 (by assumption) q9.2.1 | exact q9.2.2 (by assumption)
      refine lv_aload_n hx hb siX_d21 rfl (lv_at hl 0 rfl) ?_
      refine y_call (z := (0, 102, 1, some 17, xM143)) (av := [.ref this]) (rest := []) (y_cokV (n := 0) (ci := 12) X ym_bad rfl rfl rfl (x_cons (x_bw68 3 rfl rfl) (x_cons (x_bw68 5 rfl rfl) (x_cons (x_at 32 (by decide +kernel) rfl) (x_cons (x_bw0 9 rfl rfl) x_nilm)))) (x_bw68 6 rfl rfl) (by decide +kernel) ⟨Nat.le_of_ble_eq_true rfl, Nat.le_of_ble_eq_true rfl⟩) hY0 hI rfl siX_d22 hl.1 (Nat.le_of_ble_eq_true rfl) (Nat.le_of_ble_eq_true rfl) (Nat.le_of_ble_eq_true rfl) (y_cons (y_cref hY_this rfl) y_nil) rfl (y_recv rfl hY_this) trivial (y_sub_ef rfl) fun v Yn o Hn L ho hr ha hIn hx_ hE hP => ?_
      replace hs_bk := y_Efld hE hY_this rfl (by decide) (by decide) hs_bk
      replace hA_bk := hA_bk.kept (y_Earr hE hY_bk rfl (by decide))
      replace hY_this := y_ext hx_ hI.1 hY_this
      replace hY_bk := y_ext hx_ hI.1 hY_bk
      have hPb := hP
      obtain rfl := hPb
      clear ho hr ha hE hP hI hx_
      rename x_I _ _ _ _ _ _ _ _ _ _ => hI
      exact y_ireturn B hI rfl rfl rfl List.mem_cons_self ⟨_, rfl, ⟨_, rfl, x_i32 _⟩⟩ (x_cs.mono B.2.2.2.2.2 (y_mon B hI)) (fun t' b' w0' w1' f' h1 h2 h3 h4 => by cases h1; cases h2.symm.trans hs0; cases z_uniq h4 hA0 h3 hcn; exact ⟨_, rfl, fun q9 => absurd q9 hno, fun _ => rfl⟩) (Nat.le_refl _) (Nat.le_refl _) siX_d25
    · have q13_ : ¬ r10.toInt = (0 : Int32).toInt := fun q => q13 (Int32.toInt_inj.mp q)
      refine lv_iload_n hx hb siX_d16 rfl (lv_at hl 1 rfl) ?_
      refine lv_iload_n hx hb siX_d17 rfl (lv_at hl 2 rfl) ?_
      refine lv_icmp_ne hx hb siX_d18 (tgt := 26) (by decide) (fun q18 => ?_) (fun q18 => ?_)
      · have q18_ : ¬ a.toInt = b.toInt := fun q => q18 (Int32.toInt_inj.mp q)
        have hok : m_isH fb a ∧ m_isH fb b ∧ ¬ a = b := ⟨hin_r2 (by assumption), hin_r10 (by assumption), by assumption⟩
        have ha9 := hok.1
        have hb9 := hok.2.1
        unfold m_isH at ha9 hb9
        refine lv_aload_n hx hb siX_d26 rfl (lv_at hl 0 rfl) ?_
        refine lv_iload_n hx hb siX_d27 rfl (lv_at hl 1 rfl) ?_
        refine lv_iload_n hx hb siX_d28 rfl (lv_at hl 2 rfl) ?_
        refine lv_aload_n hx hb siX_d29 rfl (lv_at hl 0 rfl) ?_
        refine y_getf X (fl190 X.2.2.2.2.1) hI.1 hY_this rfl hs_bk siX_d30 ?_
        refine lv_iconst hx hb siX_d33 (v := 4) (by decide) ?_
        have ec4 : (4 : Int32).toInt = 4 := by decide
        refine y_iald X hI.1 hY_bk rfl hA_bk (by omega) (by show _ < (160 : Int); omega) siX_d34 ?_
        obtain ⟨e34, hg_e34⟩ : ∃ e34 : Int32, fb (4 : Int32).toInt.toNat = e34 := ⟨_, rfl⟩
        rw [hg_e34]
        refine lv_aload_n hx hb siX_d35 rfl (lv_at hl 0 rfl) ?_
        refine y_getf X (fl190 X.2.2.2.2.1) hI.1 hY_this rfl hs_bk siX_d36 ?_
        refine lv_iconst hx hb siX_d39 (v := 5) (by decide) ?_
        have ec5 : (5 : Int32).toInt = 5 := by decide
        refine y_iald X hI.1 hY_bk rfl hA_bk (by omega) (by show _ < (160 : Int); omega) siX_d40 ?_
        obtain ⟨e40, hg_e40⟩ : ∃ e40 : Int32, fb (5 : Int32).toInt.toNat = e40 := ⟨_, rfl⟩
        rw [hg_e40]
        refine y_call (z := (0, 140, 5, some 17, xM173)) (av := [.ref this, .int a, .int b, .int e34, .int e40]) (rest := []) (y_cokV (n := 4) (ci := 12) X ym_isSight rfl rfl rfl (x_cons (x_bw72 6 rfl rfl) (x_cons (x_bw72 8 rfl rfl) (x_cons (x_at 41 (by decide +kernel) rfl) (x_cons (x_bw0 9 rfl rfl) x_nilm)))) (x_bw72 9 rfl rfl) (by decide +kernel) ⟨Nat.le_of_ble_eq_true rfl, Nat.le_of_ble_eq_true rfl⟩) hY0 hI rfl siX_d41 hl.1 (Nat.le_of_ble_eq_true rfl) (Nat.le_of_ble_eq_true rfl) (Nat.le_of_ble_eq_true rfl) (y_cons (y_cref hY_this rfl) (y_cons ⟨_, rfl, by show (0 : Int) ≤ _; omega, by show _ ≤ (9 : Int); omega⟩ (y_cons ⟨_, rfl, by show (0 : Int) ≤ _; omega, by show _ ≤ (9 : Int); omega⟩ (y_cons ⟨_, rfl, x_i32 _⟩ (y_cons ⟨_, rfl, x_i32 _⟩ y_nil))))) rfl (y_recv rfl hY_this) trivial (y_sub_ef rfl) fun v Yn o Hn L ho hr ha hIn hx_ hE hP => ?_
        have hPs := hP _ _ _ _ _ _ _ rfl hs_bk hcn hA_bk
        obtain rfl := hPs
        replace hs_bk := y_Efld hE hY_this rfl (by decide) (by decide) hs_bk
        replace hA_bk := hA_bk.kept (y_Earr hE hY_bk rfl (by decide))
        replace hY_this := y_ext hx_ hI.1 hY_this
        replace hY_bk := y_ext hx_ hI.1 hY_bk
        generalize hg_r41 : m_b (m_ss fb a.toInt.toNat b.toInt.toNat e34 e40) = r41
        clear ho hr ha hE hP hI hx_
        rename x_I _ _ _ _ _ _ _ _ _ _ => hI
        refine lv_if_eq hx hb siX_d44 (tgt := 51) (by decide) (fun q44 => ?_) (fun q44 => ?_)
        · have q44_ : r41.toInt = (0 : Int32).toInt := by rw [q44]
          refine lv_iconst hx hb siX_d51 (v := 0) (by decide) ?_
          exact y_ireturn B hI rfl rfl rfl List.mem_cons_self ⟨_, rfl, ⟨_, rfl, x_i32 _⟩⟩ (x_cs.mono B.2.2.2.2.2 (y_mon B hI)) (fun t' b' w0' w1' f' h1 h2 h3 h4 => by cases h1; cases h2.symm.trans hs0; cases z_uniq h4 hA0 h3 hcn; exact ⟨_, rfl, fun _ => by rw [show fb 4 = e34 from hg_e34, show fb 5 = e40 from hg_e40, m_b0 (hg_r41.trans q44)]; rfl, fun q9 => absurd hok q9⟩) (Nat.le_refl _) (Nat.le_refl _) siX_d52
        · have q44_ : ¬ r41.toInt = (0 : Int32).toInt := fun q => q44 (Int32.toInt_inj.mp q)
          refine lv_iconst hx hb siX_d47 (v := 1) (by decide) ?_
          have ec1 : (1 : Int32).toInt = 1 := by decide
          refine lv_goto hx hb siX_d48 (tgt := 52) (by decide) ?_
          exact y_ireturn B hI rfl rfl rfl List.mem_cons_self ⟨_, rfl, ⟨_, rfl, x_i32 _⟩⟩ (x_cs.mono B.2.2.2.2.2 (y_mon B hI)) (fun t' b' w0' w1' f' h1 h2 h3 h4 => by cases h1; cases h2.symm.trans hs0; cases z_uniq h4 hA0 h3 hcn; exact ⟨_, rfl, fun _ => by rw [show fb 4 = e34 from hg_e34, show fb 5 = e40 from hg_e40, m_bn (fun q => q44 (hg_r41.symm.trans q))]; rfl, fun q9 => absurd hok q9⟩) (Nat.le_refl _) (Nat.le_refl _) siX_d52
      · have q18_ : a.toInt = b.toInt := by rw [q18]
        have hno : ¬ (m_isH fb a ∧ m_isH fb b ∧ ¬ a = b) := fun q9 => by first | exact hout_r2 (by assumption) q9.1 | exact hout_r10 (by assumption) q9.2.1 | exact q9.2.2 (by assumption)
        refine lv_aload_n hx hb siX_d21 rfl (lv_at hl 0 rfl) ?_
        refine y_call (z := (0, 102, 1, some 17, xM143)) (av := [.ref this]) (rest := []) (y_cokV (n := 0) (ci := 12) X ym_bad rfl rfl rfl (x_cons (x_bw68 3 rfl rfl) (x_cons (x_bw68 5 rfl rfl) (x_cons (x_at 32 (by decide +kernel) rfl) (x_cons (x_bw0 9 rfl rfl) x_nilm)))) (x_bw68 6 rfl rfl) (by decide +kernel) ⟨Nat.le_of_ble_eq_true rfl, Nat.le_of_ble_eq_true rfl⟩) hY0 hI rfl siX_d22 hl.1 (Nat.le_of_ble_eq_true rfl) (Nat.le_of_ble_eq_true rfl) (Nat.le_of_ble_eq_true rfl) (y_cons (y_cref hY_this rfl) y_nil) rfl (y_recv rfl hY_this) trivial (y_sub_ef rfl) fun v Yn o Hn L ho hr ha hIn hx_ hE hP => ?_
        replace hs_bk := y_Efld hE hY_this rfl (by decide) (by decide) hs_bk
        replace hA_bk := hA_bk.kept (y_Earr hE hY_bk rfl (by decide))
        replace hY_this := y_ext hx_ hI.1 hY_this
        replace hY_bk := y_ext hx_ hI.1 hY_bk
        have hPb := hP
        obtain rfl := hPb
        clear ho hr ha hE hP hI hx_
        rename x_I _ _ _ _ _ _ _ _ _ _ => hI
        exact y_ireturn B hI rfl rfl rfl List.mem_cons_self ⟨_, rfl, ⟨_, rfl, x_i32 _⟩⟩ (x_cs.mono B.2.2.2.2.2 (y_mon B hI)) (fun t' b' w0' w1' f' h1 h2 h3 h4 => by cases h1; cases h2.symm.trans hs0; cases z_uniq h4 hA0 h3 hcn; exact ⟨_, rfl, fun q9 => absurd q9 hno, fun _ => rfl⟩) (Nat.le_refl _) (Nat.le_refl _) siX_d25
