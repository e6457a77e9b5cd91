theorem fl_toX9_240 {s : State} {args : Array Value} (hts : ∀ w ∈ x_Tb, w.before args s = true) : x_fok vwCl x_G x_Tb s args "TwinFiresModel" (59, 17, 25) := ⟨12, _, RX12, TX12, "TwinFiresModel", rfl, rfl, Nat.le_of_ble_eq_true rfl, iX12, (hts _ (x_bw63 12 rfl rfl)), fun x h => h⟩
theorem fl_toX9_241 {s : State} {args : Array Value} (hts : ∀ w ∈ x_Tb, w.before args s = true) : x_fok vwCl x_G x_Tb s args "TwinFiresModel" (62, 17, 26) := ⟨12, _, RX12, TX12, "TwinFiresModel", rfl, rfl, Nat.le_of_ble_eq_true rfl, iX12, (hts _ (x_bw63 13 rfl rfl)), fun x h => h⟩
/-! TOLD of the reference -/
def m_rnR (f V : Nat → Int32) (w t i : Int32) : Int32 := if i.toInt < (f 2).toInt ∧ z_bits (w &&& m_tw V t) = f (128 + i.toInt.toNat) then i + 1 else i
theorem m_rnR_eq {f V : Nat → Int32} {w t i : Int32} (hi : 0 ≤ i.toInt ∧ i.toInt ≤ 8) (hw : 0 ≤ w.toInt ∧ w.toInt ≤ 1023) : m_rnR f V w t i = nI (m_rdn f (m_tw V t) w.toInt.toNat i.toInt.toNat) := by
  rw [← m_rbI_eq hi hw.1]
  have hx := x_and1 (x := m_tw V t) (y := w) hw.1
  rw [Int32.and_comm] at hx
  have e := m_bc_bits (x := w &&& m_tw V t) ⟨hx.1, by omega⟩
  unfold m_rnR m_rbI
  rw [e]
  by_cases q : i.toInt < (f 2).toInt ∧ z_bits (w &&& m_tw V t) = f (128 + i.toInt.toNat)
  · rw [if_pos q, if_pos ⟨q.1, q.2.symm⟩]
  · rw [if_neg q, if_neg (fun h => q ⟨h.1, h.2.symm⟩)]
def z_Pro9 : yP := fun D av _ H v _ _ => ∀ (this bk se : Nat) (w t i : Int32) (f V : Nat → Int32), av = [.ref this, .int w, .int t, .int i] → x_sl D 12 0 this H = some (.ref bk) → y_A bk 160 H f → x_sl D 12 8 this H = some (.ref se) → y_A se 10 H V → v = some (.int (m_rnR f V w t i))
theorem rnX_d0 : decode xM211.2.1 0 = .ok (.iload_n 3, 1) := dz_ok (by decide +kernel)
theorem rnX_d1 : decode xM211.2.1 1 = .ok (.aload_n 0, 1) := dz_ok (by decide +kernel)
theorem rnX_d2 : decode xM211.2.1 2 = .ok (.getfield 7, 3) := dz_ok (by decide +kernel)
theorem rnX_d5 : decode xM211.2.1 5 = .ok (.iconst 2, 1) := dz_ok (by decide +kernel)
theorem rnX_d6 : decode xM211.2.1 6 = .ok (.iaload, 1) := dz_ok (by decide +kernel)
theorem rnX_d7 : decode xM211.2.1 7 = .ok (.if_icmp .ge 45, 3) := dz_ok (by decide +kernel)
theorem rnX_d10 : decode xM211.2.1 10 = .ok (.iload_n 1, 1) := dz_ok (by decide +kernel)
theorem rnX_d11 : decode xM211.2.1 11 = .ok (.aload_n 0, 1) := dz_ok (by decide +kernel)
theorem rnX_d12 : decode xM211.2.1 12 = .ok (.getfield 26, 3) := dz_ok (by decide +kernel)
theorem rnX_d15 : decode xM211.2.1 15 = .ok (.iload_n 2, 1) := dz_ok (by decide +kernel)
theorem rnX_d16 : decode xM211.2.1 16 = .ok (.iaload, 1) := dz_ok (by decide +kernel)
theorem rnX_d17 : decode xM211.2.1 17 = .ok (.iconst 1, 1) := dz_ok (by decide +kernel)
theorem rnX_d18 : decode xM211.2.1 18 = .ok (.iload_n 2, 1) := dz_ok (by decide +kernel)
theorem rnX_d19 : decode xM211.2.1 19 = .ok (.ishl, 1) := dz_ok (by decide +kernel)
theorem rnX_d20 : decode xM211.2.1 20 = .ok (.ior, 1) := dz_ok (by decide +kernel)
theorem rnX_d21 : decode xM211.2.1 21 = .ok (.iand, 1) := dz_ok (by decide +kernel)
theorem rnX_d22 : decode xM211.2.1 22 = .ok (.invokestatic 148, 3) := dz_ok (by decide +kernel)
theorem rnX_d25 : decode xM211.2.1 25 = .ok (.aload_n 0, 1) := dz_ok (by decide +kernel)
theorem rnX_d26 : decode xM211.2.1 26 = .ok (.getfield 7, 3) := dz_ok (by decide +kernel)
theorem rnX_d29 : decode xM211.2.1 29 = .ok (.sipush 128, 3) := dz_ok (by decide +kernel)
theorem rnX_d32 : decode xM211.2.1 32 = .ok (.iload_n 3, 1) := dz_ok (by decide +kernel)
theorem rnX_d33 : decode xM211.2.1 33 = .ok (.bipush 8, 2) := dz_ok (by decide +kernel)
theorem rnX_d35 : decode xM211.2.1 35 = .ok (.if_icmp .ge 7, 3) := dz_ok (by decide +kernel)
theorem rnX_d38 : decode xM211.2.1 38 = .ok (.iload_n 3, 1) := dz_ok (by decide +kernel)
theorem rnX_d39 : decode xM211.2.1 39 = .ok (.goto 4, 3) := dz_ok (by decide +kernel)
theorem rnX_d42 : decode xM211.2.1 42 = .ok (.iconst 0, 1) := dz_ok (by decide +kernel)
theorem rnX_d43 : decode xM211.2.1 43 = .ok (.iadd, 1) := dz_ok (by decide +kernel)
theorem rnX_d44 : decode xM211.2.1 44 = .ok (.iaload, 1) := dz_ok (by decide +kernel)
theorem rnX_d45 : decode xM211.2.1 45 = .ok (.if_icmp .ne 7, 3) := dz_ok (by decide +kernel)
theorem rnX_d48 : decode xM211.2.1 48 = .ok (.iconst 1, 1) := dz_ok (by decide +kernel)
theorem rnX_d49 : decode xM211.2.1 49 = .ok (.goto 4, 3) := dz_ok (by decide +kernel)
theorem rnX_d52 : decode xM211.2.1 52 = .ok (.iconst 0, 1) := dz_ok (by decide +kernel)
theorem rnX_d53 : decode xM211.2.1 53 = .ok (.istore 4, 2) := dz_ok (by decide +kernel)
theorem rnX_d55 : decode xM211.2.1 55 = .ok (.iload 4, 2) := dz_ok (by decide +kernel)
theorem rnX_d57 : decode xM211.2.1 57 = .ok (.ifCond .eq 9, 3) := dz_ok (by decide +kernel)
theorem rnX_d60 : decode xM211.2.1 60 = .ok (.iload_n 3, 1) := dz_ok (by decide +kernel)
theorem rnX_d61 : decode xM211.2.1 61 = .ok (.iconst 1, 1) := dz_ok (by decide +kernel)
theorem rnX_d62 : decode xM211.2.1 62 = .ok (.iadd, 1) := dz_ok (by decide +kernel)
theorem rnX_d63 : decode xM211.2.1 63 = .ok (.goto 4, 3) := dz_ok (by decide +kernel)
theorem rnX_d66 : decode xM211.2.1 66 = .ok (.iload_n 3, 1) := dz_ok (by decide +kernel)
theorem rnX_d67 : decode xM211.2.1 67 = .ok (.ireturn, 1) := dz_ok (by decide +kernel)
theorem ym_readOn : y_Met vwCl x_G x_Zs x_Tb x_Nb xM211 y_T z_Pro9 := by
  refine y_main (by decide +kernel) (by decide +kernel) x_Tb_good x_Nb_ok ?_
  intro p l e s m below meth c D U Y0 av ls B hI _ hl
  have X := B.1
  have hx := X.1
  have hb := X.2.1
  have hY0 := B.2.2.2.2.1
  obtain ⟨v0, v1, v2, v3, rfl, hv0, ⟨w, rfl, -⟩, ⟨t, rfl, ht⟩, ⟨i, rfl, hi⟩⟩ := y_four B.2.2.2.2.2
  replace ht : (0 : Int) ≤ t.toInt ∧ t.toInt ≤ 9 := ht
  replace hi : (0 : Int) ≤ i.toInt ∧ i.toInt ≤ 8 := hi
  obtain ⟨this, t0, rfl, ht0, hY_this⟩ := x_ref_at hv0 rfl
  obtain rfl := List.mem_singleton.mp ht0
  replace hl : lv_has ls xM211.2.2.1 [(0, .ref this), (1, .int w), (2, .int t), (3, .int i)] := hl
  obtain ⟨bk, hs_bk, hY_bk⟩ := y_fldR (k := 0) hI.1 hY_this rfl rfl
  obtain ⟨fb9, hA9, hB9⟩ := y_arr hI.1 hY_bk rfl rfl
  obtain ⟨fb, hcn, hA_bk, hB_bk⟩ := z_canon (Y := Y0) (P := fun j v => x_c Y0 ([xI 0 10, xI 0 8, xI 0 8].getD j xF) (.int v)) hA9 hB9
  clear hA9 hB9 fb9
  have hs0 := hs_bk
  have hA0 := hA_bk
  have hd := z_hdr hB_bk
  have hd0 := hd.1
  have hd1 := hd.2.1
  have hd2 := hd.2.2
  obtain ⟨se, hs_se, hY_se⟩ := y_fldR (k := 8) hI.1 hY_this rfl rfl
  obtain ⟨fs, hA_se, -⟩ := y_arr hI.1 hY_se rfl rfl
  have hs8 := hs_se
  have hA8 := hA_se
  refine lv_iload_n hx hb rnX_d0 rfl (lv_at hl 3 rfl) ?_
  refine lv_aload_n hx hb rnX_d1 rfl (lv_at hl 0 rfl) ?_
  refine y_getf X (fl190 X.2.2.2.2.1) hI.1 hY_this rfl hs_bk rnX_d2 ?_
  refine lv_iconst hx hb rnX_d5 (v := 2) (by decide) ?_
  have ec2 : (2 : Int32).toInt = 2 := by decide
  refine y_iald X hI.1 hY_bk rfl hA_bk (by omega) (by show _ < (160 : Int); omega) rnX_d6 ?_
  obtain ⟨e6, hg_e6⟩ : ∃ e6 : Int32, fb (2 : Int32).toInt.toNat = e6 := ⟨_, rfl⟩
  rw [hg_e6]
  rw [show (2 : Int32).toInt.toNat = 2 by decide] at hg_e6
  have h_e6 : e6.toInt = (fb 2).toInt := by rw [hg_e6]
  refine lv_icmp_ge hx hb rnX_d7 (tgt := 52) (by decide) (fun q7 => ?_) (fun q7 => ?_)
  · have q7_ : e6.toInt ≤ i.toInt := x_le32.mp q7
    refine lv_iconst hx hb rnX_d52 (v := 0) (by decide) ?_
    have ec0 : (0 : Int32).toInt = 0 := by decide
    refine lv_istore hx hb rnX_d53 hl (by decide) (lv' := [(4, .int (0 : Int32)), (0, .ref this), (1, .int w), (2, .int t), (3, .int i)]) rfl fun ls hl => ?_
    refine lv_iload hx hb rnX_d55 (lv_at hl 0 rfl) ?_
    refine lv_if_eq hx hb rnX_d57 (tgt := 66) (by decide) (fun q57 => ?_) (fun q57 => ?_)
    · have q57_ : (0 : Int32).toInt = (0 : Int32).toInt := by rw [q57]
      refine lv_iload_n hx hb rnX_d66 rfl (lv_at hl 4 rfl) ?_
      exact y_ireturn B hI rfl rfl rfl List.mem_cons_self ⟨_, rfl, ⟨_, rfl, by show (0 : Int) ≤ _; omega, by show _ ≤ (8 : Int); omega⟩⟩ (x_cs.mono B.2.2.2.2.2 (y_mon B hI)) (fun t' b' s' w' u' i' f' V' h1 h2 h3 h4 h5 => by cases h1; cases h2.symm.trans hs0; cases h4.symm.trans hs8; have eq9 : m_rnR f' V' w t i = m_rnR fb fs w t i := (by unfold m_rnR m_tw; rw [z_AR h3 hA0 (show 2 < 160 by decide), z_AR h5 hA8 (show t.toInt.toNat < 10 by omega), z_AR h3 hA0 (show 128 + i.toInt.toNat < 160 by omega)]); rw [eq9]; refine congrArg (fun x => some (Value.int x)) ?_; unfold m_rnR; refine Eq.symm ?_; first | (exfalso; omega) | (exact if_neg (fun h9 => absurd h9.1 (by omega))) | (have e9 : fb (128 + i.toInt.toNat) = e44 := (congrArg fb (by omega)).trans hg_e44; have e8 : z_bits (w &&& m_tw fs t) = r22 := (by unfold m_tw; rw [hg_e16, hg_z19, hg_z20, hg_z21, hg_r22]); exact if_neg (fun h9 => absurd (e8.symm.trans (h9.2.trans e9)) (by assumption)))) (Nat.le_refl _) (Nat.le_refl _) rnX_d67
    · have q57_ : ¬ (0 : Int32).toInt = (0 : Int32).toInt := fun q => q57 (Int32.toInt_inj.mp q)
      refine lv_iload_n hx hb rnX_d60 rfl (lv_at hl 4 rfl) ?_
      refine lv_iconst hx hb rnX_d61 (v := 1) (by decide) ?_
      have ec1 : (1 : Int32).toInt = 1 := by decide
      refine lv_iadd hx hb rnX_d62 ?_
      generalize hg_z62 : i + (1 : Int32) = z62
      have h_z62 : z62.toInt = i.toInt + 1 := by rw [← hg_z62]; have := y_add (x := i) (y := (1 : Int32)) (by rw [ec1]; omega) (by rw [ec1]; omega); rw [ec1] at this; exact this
      refine lv_goto hx hb rnX_d63 (tgt := 67) (by decide) ?_
      exact y_ireturn B hI rfl rfl rfl List.mem_cons_self ⟨_, rfl, ⟨_, rfl, by show (0 : Int) ≤ _; omega, by show _ ≤ (8 : Int); omega⟩⟩ (x_cs.mono B.2.2.2.2.2 (y_mon B hI)) (fun t' b' s' w' u' i' f' V' h1 h2 h3 h4 h5 => by cases h1; cases h2.symm.trans hs0; cases h4.symm.trans hs8; have eq9 : m_rnR f' V' w t i = m_rnR fb fs w t i := (by unfold m_rnR m_tw; rw [z_AR h3 hA0 (show 2 < 160 by decide), z_AR h5 hA8 (show t.toInt.toNat < 10 by omega), z_AR h3 hA0 (show 128 + i.toInt.toNat < 160 by omega)]); rw [eq9]; refine congrArg (fun x => some (Value.int x)) ?_; unfold m_rnR; refine Eq.symm ?_; first | (exfalso; omega) | (have e9 : fb (128 + i.toInt.toNat) = e44 := (congrArg fb (by omega)).trans hg_e44; have e8 : z_bits (w &&& m_tw fs t) = r22 := (by unfold m_tw; rw [hg_e16, hg_z19, hg_z20, hg_z21, hg_r22]); rw [if_pos ⟨by omega, e8.trans ((show r22 = e44 by assumption).trans e9.symm)⟩]; exact hg_z62)) (Nat.le_refl _) (Nat.le_refl _) rnX_d67
  · have q7_ : i.toInt < e6.toInt := Int.not_le.mp fun q => q7 (x_le32.mpr q)
    refine lv_iload_n hx hb rnX_d10 rfl (lv_at hl 1 rfl) ?_
    refine lv_aload_n hx hb rnX_d11 rfl (lv_at hl 0 rfl) ?_
    refine y_getf X (fl199 X.2.2.2.2.1) hI.1 hY_this rfl hs_se rnX_d12 ?_
    refine lv_iload_n hx hb rnX_d15 rfl (lv_at hl 2 rfl) ?_
    refine y_iald X hI.1 hY_se rfl hA_se (by omega) (by show _ < (10 : Int); omega) rnX_d16 ?_
    obtain ⟨e16, hg_e16⟩ : ∃ e16 : Int32, fs t.toInt.toNat = e16 := ⟨_, rfl⟩
    rw [hg_e16]
    refine lv_iconst hx hb rnX_d17 (v := 1) (by decide) ?_
    have ec1 : (1 : Int32).toInt = 1 := by decide
    refine lv_iload_n hx hb rnX_d18 rfl (lv_at hl 2 rfl) ?_
    refine lv_ishl hx hb rnX_d19 ?_
    generalize hg_z19 : (1 : Int32) <<< (t &&& 31) = z19
    refine lv_ior hx hb rnX_d20 ?_
    generalize hg_z20 : e16 ||| z19 = z20
    refine lv_iand hx hb rnX_d21 ?_
    generalize hg_z21 : w &&& z20 = z21
    refine y_call (z := (1, 148, 1, none, xM189)) (av := [.int z21]) (rest := []) (y_cokS (n := 1) X ym_bits (x_cons (x_bw78 4 rfl rfl) (x_cons (x_bw78 5 rfl rfl) (x_cons (x_bw0 9 rfl rfl) x_nilm))) (x_bw78 6 rfl rfl) (by decide +kernel) ⟨Nat.le_of_ble_eq_true rfl, Nat.le_of_ble_eq_true rfl⟩) hY0 hI rfl rnX_d22 hl.1 (Nat.le_of_ble_eq_true rfl) (Nat.le_of_ble_eq_true rfl) (Nat.le_of_ble_eq_true rfl) (y_cons ⟨_, rfl, x_i32 _⟩ y_nil) rfl (y_norecv rfl) trivial (y_sub_ef rfl) fun v Yn o Hn L ho hr ha hIn hx_ hE hP => ?_
    have hPb9 := hP _ rfl
    obtain rfl := hPb9
    replace hs_bk := y_Efld hE hY_this rfl (by decide) (by decide) hs_bk
    replace hs_se := y_Efld hE hY_this rfl (by decide) (by decide) hs_se
    replace hA_bk := hA_bk.kept (y_Earr hE hY_bk rfl (by decide))
    replace hA_se := hA_se.kept (y_Earr hE hY_se rfl (by decide))
    replace hY_this := y_ext hx_ hI.1 hY_this
    replace hY_bk := y_ext hx_ hI.1 hY_bk
    replace hY_se := y_ext hx_ hI.1 hY_se
    generalize hg_r22 : z_bits z21 = r22
    clear ho hr ha hE hP hI hx_
    rename x_I _ _ _ _ _ _ _ _ _ _ => hI
    refine lv_aload_n hx hb rnX_d25 rfl (lv_at hl 0 rfl) ?_
    refine y_getf X (fl190 X.2.2.2.2.1) hI.1 hY_this rfl hs_bk rnX_d26 ?_
    refine lv_sipush hx hb rnX_d29 (v := 128) (by decide) ?_
    have ec128 : (128 : Int32).toInt = 128 := by decide
    refine lv_iload_n hx hb rnX_d32 rfl (lv_at hl 3 rfl) ?_
    refine lv_bipush hx hb rnX_d33 (v := 8) (by decide) ?_
    have ec8 : (8 : Int32).toInt = 8 := by decide
    refine lv_icmp_ge hx hb rnX_d35 (tgt := 42) (by decide) (fun q35 => ?_) (fun q35 => ?_)
    · have q35_ : (8 : Int32).toInt ≤ i.toInt := x_le32.mp q35
      refine lv_iconst hx hb rnX_d42 (v := 0) (by decide) ?_
      have ec0 : (0 : Int32).toInt = 0 := by decide
      refine lv_iadd hx hb rnX_d43 ?_
      generalize hg_z43 : (128 : Int32) + (0 : Int32) = z43
      have h_z43 : z43.toInt = 128 + 0 := by rw [← hg_z43]; have := y_add (x := (128 : Int32)) (y := (0 : Int32)) (by rw [ec128, ec0]; omega) (by rw [ec128, ec0]; omega); rw [ec128, ec0] at this; exact this
      refine y_iald X hI.1 hY_bk rfl hA_bk (by omega) (by show _ < (160 : Int); omega) rnX_d44 ?_
      obtain ⟨e44, hg_e44⟩ : ∃ e44 : Int32, fb z43.toInt.toNat = e44 := ⟨_, rfl⟩
      rw [hg_e44]
      refine lv_icmp_ne hx hb rnX_d45 (tgt := 52) (by decide) (fun q45 => ?_) (fun q45 => ?_)
      · have q45_ : ¬ r22.toInt = e44.toInt := fun q => q45 (Int32.toInt_inj.mp q)
        refine lv_iconst hx hb rnX_d52 (v := 0) (by decide) ?_
        refine lv_istore hx hb rnX_d53 hl (by decide) (lv' := [(4, .int (0 : Int32)), (0, .ref this), (1, .int w), (2, .int t), (3, .int i)]) rfl fun ls hl => ?_
        refine lv_iload hx hb rnX_d55 (lv_at hl 0 rfl) ?_
        refine lv_if_eq hx hb rnX_d57 (tgt := 66) (by decide) (fun q57 => ?_) (fun q57 => ?_)
        · have q57_ : (0 : Int32).toInt = (0 : Int32).toInt := by rw [q57]
          refine lv_iload_n hx hb rnX_d66 rfl (lv_at hl 4 rfl) ?_
          exact y_ireturn B hI rfl rfl rfl List.mem_cons_self ⟨_, rfl, ⟨_, rfl, by show (0 : Int) ≤ _; omega, by show _ ≤ (8 : Int); omega⟩⟩ (x_cs.mono B.2.2.2.2.2 (y_mon B hI)) (fun t' b' s' w' u' i' f' V' h1 h2 h3 h4 h5 => by cases h1; cases h2.symm.trans hs0; cases h4.symm.trans hs8; have eq9 : m_rnR f' V' w t i = m_rnR fb fs w t i := (by unfold m_rnR m_tw; rw [z_AR h3 hA0 (show 2 < 160 by decide), z_AR h5 hA8 (show t.toInt.toNat < 10 by omega), z_AR h3 hA0 (show 128 + i.toInt.toNat < 160 by omega)]); rw [eq9]; refine congrArg (fun x => some (Value.int x)) ?_; unfold m_rnR; refine Eq.symm ?_; first | (exfalso; omega) | (exact if_neg (fun h9 => absurd h9.1 (by omega))) | (have e9 : fb (128 + i.toInt.toNat) = e44 := (congrArg fb (by omega)).trans hg_e44; have e8 : z_bits (w &&& m_tw fs t) = r22 := (by unfold m_tw; rw [hg_e16, hg_z19, hg_z20, hg_z21, hg_r22]); exact if_neg (fun h9 => absurd (e8.symm.trans (h9.2.trans e9)) (by assumption)))) (Nat.le_refl _) (Nat.le_refl _) rnX_d67
        · have q57_ : ¬ (0 : Int32).toInt = (0 : Int32).toInt := fun q => q57 (Int32.toInt_inj.mp q)
          refine lv_iload_n hx hb rnX_d60 rfl (lv_at hl 4 rfl) ?_
          refine lv_iconst hx hb rnX_d61 (v := 1) (by decide) ?_
          refine lv_iadd hx hb rnX_d62 ?_
          generalize hg_z62 : i + (1 : Int32) = z62
          have h_z62 : z62.toInt = i.toInt + 1 := by rw [← hg_z62]; have := y_add (x := i) (y := (1 : Int32)) (by rw [ec1]; omega) (by rw [ec1]; omega); rw [ec1] at this; exact this
          refine lv_goto hx hb rnX_d63 (tgt := 67) (by decide) ?_
          exact y_ireturn B hI rfl rfl rfl List.mem_cons_self ⟨_, rfl, ⟨_, rfl, by show (0 : Int) ≤ _; omega, by show _ ≤ (8 : Int); omega⟩⟩ (x_cs.mono B.2.2.2.2.2 (y_mon B hI)) (fun t' b' s' w' u' i' f' V' h1 h2 h3 h4 h5 => by cases h1; cases h2.symm.trans hs0; cases h4.symm.trans hs8; have eq9 : m_rnR f' V' w t i = m_rnR fb fs w t i := (by unfold m_rnR m_tw; rw [z_AR h3 hA0 (show 2 < 160 by decide), z_AR h5 hA8 (show t.toInt.toNat < 10 by omega), z_AR h3 hA0 (show 128 + i.toInt.toNat < 160 by omega)]); rw [eq9]; refine congrArg (fun x => some (Value.int x)) ?_; unfold m_rnR; refine Eq.symm ?_; first | (exfalso; omega) | (have e9 : fb (128 + i.toInt.toNat) = e44 := (congrArg fb (by omega)).trans hg_e44; have e8 : z_bits (w &&& m_tw fs t) = r22 := (by unfold m_tw; rw [hg_e16, hg_z19, hg_z20, hg_z21, hg_r22]); rw [if_pos ⟨by omega, e8.trans ((show r22 = e44 by assumption).trans e9.symm)⟩]; exact hg_z62)) (Nat.le_refl _) (Nat.le_refl _) rnX_d67
      · have q45_ : r22.toInt = e44.toInt := by rw [q45]
        refine lv_iconst hx hb rnX_d48 (v := 1) (by decide) ?_
        refine lv_goto hx hb rnX_d49 (tgt := 53) (by decide) ?_
        refine lv_istore hx hb rnX_d53 hl (by decide) (lv' := [(4, .int (1 : Int32)), (0, .ref this), (1, .int w), (2, .int t), (3, .int i)]) rfl fun ls hl => ?_
        refine lv_iload hx hb rnX_d55 (lv_at hl 0 rfl) ?_
        refine lv_if_eq hx hb rnX_d57 (tgt := 66) (by decide) (fun q57 => ?_) (fun q57 => ?_)
        · have q57_ : (1 : Int32).toInt = (0 : Int32).toInt := by rw [q57]
          refine lv_iload_n hx hb rnX_d66 rfl (lv_at hl 4 rfl) ?_
          exact y_ireturn B hI rfl rfl rfl List.mem_cons_self ⟨_, rfl, ⟨_, rfl, by show (0 : Int) ≤ _; omega, by show _ ≤ (8 : Int); omega⟩⟩ (x_cs.mono B.2.2.2.2.2 (y_mon B hI)) (fun t' b' s' w' u' i' f' V' h1 h2 h3 h4 h5 => by cases h1; cases h2.symm.trans hs0; cases h4.symm.trans hs8; have eq9 : m_rnR f' V' w t i = m_rnR fb fs w t i := (by unfold m_rnR m_tw; rw [z_AR h3 hA0 (show 2 < 160 by decide), z_AR h5 hA8 (show t.toInt.toNat < 10 by omega), z_AR h3 hA0 (show 128 + i.toInt.toNat < 160 by omega)]); rw [eq9]; refine congrArg (fun x => some (Value.int x)) ?_; unfold m_rnR; refine Eq.symm ?_; first | (exfalso; omega) | (exact if_neg (fun h9 => absurd h9.1 (by omega))) | (have e9 : fb (128 + i.toInt.toNat) = e44 := (congrArg fb (by omega)).trans hg_e44; have e8 : z_bits (w &&& m_tw fs t) = r22 := (by unfold m_tw; rw [hg_e16, hg_z19, hg_z20, hg_z21, hg_r22]); exact if_neg (fun h9 => absurd (e8.symm.trans (h9.2.trans e9)) (by assumption)))) (Nat.le_refl _) (Nat.le_refl _) rnX_d67
        · have q57_ : ¬ (1 : Int32).toInt = (0 : Int32).toInt := fun q => q57 (Int32.toInt_inj.mp q)
          refine lv_iload_n hx hb rnX_d60 rfl (lv_at hl 4 rfl) ?_
          refine lv_iconst hx hb rnX_d61 (v := 1) (by decide) ?_
          refine lv_iadd hx hb rnX_d62 ?_
          generalize hg_z62 : i + (1 : Int32) = z62
          have h_z62 : z62.toInt = i.toInt + 1 := by rw [← hg_z62]; have := y_add (x := i) (y := (1 : Int32)) (by rw [ec1]; omega) (by rw [ec1]; omega); rw [ec1] at this; exact this
          refine lv_goto hx hb rnX_d63 (tgt := 67) (by decide) ?_
          exact y_ireturn B hI rfl rfl rfl List.mem_cons_self ⟨_, rfl, ⟨_, rfl, by show (0 : Int) ≤ _; omega, by show _ ≤ (8 : Int); omega⟩⟩ (x_cs.mono B.2.2.2.2.2 (y_mon B hI)) (fun t' b' s' w' u' i' f' V' h1 h2 h3 h4 h5 => by cases h1; cases h2.symm.trans hs0; cases h4.symm.trans hs8; have eq9 : m_rnR f' V' w t i = m_rnR fb fs w t i := (by unfold m_rnR m_tw; rw [z_AR h3 hA0 (show 2 < 160 by decide), z_AR h5 hA8 (show t.toInt.toNat < 10 by omega), z_AR h3 hA0 (show 128 + i.toInt.toNat < 160 by omega)]); rw [eq9]; refine congrArg (fun x => some (Value.int x)) ?_; unfold m_rnR; refine Eq.symm ?_; first | (exfalso; omega) | (have e9 : fb (128 + i.toInt.toNat) = e44 := (congrArg fb (by omega)).trans hg_e44; have e8 : z_bits (w &&& m_tw fs t) = r22 := (by unfold m_tw; rw [hg_e16, hg_z19, hg_z20, hg_z21, hg_r22]); rw [if_pos ⟨by omega, e8.trans ((show r22 = e44 by assumption).trans e9.symm)⟩]; exact hg_z62)) (Nat.le_refl _) (Nat.le_refl _) rnX_d67
    · have q35_ : i.toInt < (8 : Int32).toInt := Int.not_le.mp fun q => q35 (x_le32.mpr q)
      refine lv_iload_n hx hb rnX_d38 rfl (lv_at hl 3 rfl) ?_
      refine lv_goto hx hb rnX_d39 (tgt := 43) (by decide) ?_
      refine lv_iadd hx hb rnX_d43 ?_
      generalize hg_z43 : (128 : Int32) + i = z43
      have h_z43 : z43.toInt = 128 + i.toInt := by rw [← hg_z43]; have := y_add (x := (128 : Int32)) (y := i) (by rw [ec128]; omega) (by rw [ec128]; omega); rw [ec128] at this; exact this
      refine y_iald X hI.1 hY_bk rfl hA_bk (by omega) (by show _ < (160 : Int); omega) rnX_d44 ?_
      obtain ⟨e44, hg_e44⟩ : ∃ e44 : Int32, fb z43.toInt.toNat = e44 := ⟨_, rfl⟩
      rw [hg_e44]
      refine lv_icmp_ne hx hb rnX_d45 (tgt := 52) (by decide) (fun q45 => ?_) (fun q45 => ?_)
      · have q45_ : ¬ r22.toInt = e44.toInt := fun q => q45 (Int32.toInt_inj.mp q)
        refine lv_iconst hx hb rnX_d52 (v := 0) (by decide) ?_
        have ec0 : (0 : Int32).toInt = 0 := by decide
        refine lv_istore hx hb rnX_d53 hl (by decide) (lv' := [(4, .int (0 : Int32)), (0, .ref this), (1, .int w), (2, .int t), (3, .int i)]) rfl fun ls hl => ?_
        refine lv_iload hx hb rnX_d55 (lv_at hl 0 rfl) ?_
        refine lv_if_eq hx hb rnX_d57 (tgt := 66) (by decide) (fun q57 => ?_) (fun q57 => ?_)
        · have q57_ : (0 : Int32).toInt = (0 : Int32).toInt := by rw [q57]
          refine lv_iload_n hx hb rnX_d66 rfl (lv_at hl 4 rfl) ?_
          exact y_ireturn B hI rfl rfl rfl List.mem_cons_self ⟨_, rfl, ⟨_, rfl, by show (0 : Int) ≤ _; omega, by show _ ≤ (8 : Int); omega⟩⟩ (x_cs.mono B.2.2.2.2.2 (y_mon B hI)) (fun t' b' s' w' u' i' f' V' h1 h2 h3 h4 h5 => by cases h1; cases h2.symm.trans hs0; cases h4.symm.trans hs8; have eq9 : m_rnR f' V' w t i = m_rnR fb fs w t i := (by unfold m_rnR m_tw; rw [z_AR h3 hA0 (show 2 < 160 by decide), z_AR h5 hA8 (show t.toInt.toNat < 10 by omega), z_AR h3 hA0 (show 128 + i.toInt.toNat < 160 by omega)]); rw [eq9]; refine congrArg (fun x => some (Value.int x)) ?_; unfold m_rnR; refine Eq.symm ?_; first | (exfalso; omega) | (exact if_neg (fun h9 => absurd h9.1 (by omega))) | (have e9 : fb (128 + i.toInt.toNat) = e44 := (congrArg fb (by omega)).trans hg_e44; have e8 : z_bits (w &&& m_tw fs t) = r22 := (by unfold m_tw; rw [hg_e16, hg_z19, hg_z20, hg_z21, hg_r22]); exact if_neg (fun h9 => absurd (e8.symm.trans (h9.2.trans e9)) (by assumption)))) (Nat.le_refl _) (Nat.le_refl _) rnX_d67
        · have q57_ : ¬ (0 : Int32).toInt = (0 : Int32).toInt := fun q => q57 (Int32.toInt_inj.mp q)
          refine lv_iload_n hx hb rnX_d60 rfl (lv_at hl 4 rfl) ?_
          refine lv_iconst hx hb rnX_d61 (v := 1) (by decide) ?_
          refine lv_iadd hx hb rnX_d62 ?_
          generalize hg_z62 : i + (1 : Int32) = z62
          have h_z62 : z62.toInt = i.toInt + 1 := by rw [← hg_z62]; have := y_add (x := i) (y := (1 : Int32)) (by rw [ec1]; omega) (by rw [ec1]; omega); rw [ec1] at this; exact this
          refine lv_goto hx hb rnX_d63 (tgt := 67) (by decide) ?_
          exact y_ireturn B hI rfl rfl rfl List.mem_cons_self ⟨_, rfl, ⟨_, rfl, by show (0 : Int) ≤ _; omega, by show _ ≤ (8 : Int); omega⟩⟩ (x_cs.mono B.2.2.2.2.2 (y_mon B hI)) (fun t' b' s' w' u' i' f' V' h1 h2 h3 h4 h5 => by cases h1; cases h2.symm.trans hs0; cases h4.symm.trans hs8; have eq9 : m_rnR f' V' w t i = m_rnR fb fs w t i := (by unfold m_rnR m_tw; rw [z_AR h3 hA0 (show 2 < 160 by decide), z_AR h5 hA8 (show t.toInt.toNat < 10 by omega), z_AR h3 hA0 (show 128 + i.toInt.toNat < 160 by omega)]); rw [eq9]; refine congrArg (fun x => some (Value.int x)) ?_; unfold m_rnR; refine Eq.symm ?_; first | (exfalso; omega) | (have e9 : fb (128 + i.toInt.toNat) = e44 := (congrArg fb (by omega)).trans hg_e44; have e8 : z_bits (w &&& m_tw fs t) = r22 := (by unfold m_tw; rw [hg_e16, hg_z19, hg_z20, hg_z21, hg_r22]); rw [if_pos ⟨by omega, e8.trans ((show r22 = e44 by assumption).trans e9.symm)⟩]; exact hg_z62)) (Nat.le_refl _) (Nat.le_refl _) rnX_d67
      · have q45_ : r22.toInt = e44.toInt := by rw [q45]
        refine lv_iconst hx hb rnX_d48 (v := 1) (by decide) ?_
        refine lv_goto hx hb rnX_d49 (tgt := 53) (by decide) ?_
        refine lv_istore hx hb rnX_d53 hl (by decide) (lv' := [(4, .int (1 : Int32)), (0, .ref this), (1, .int w), (2, .int t), (3, .int i)]) rfl fun ls hl => ?_
        refine lv_iload hx hb rnX_d55 (lv_at hl 0 rfl) ?_
        have ec0 : (0 : Int32).toInt = 0 := by decide
        refine lv_if_eq hx hb rnX_d57 (tgt := 66) (by decide) (fun q57 => ?_) (fun q57 => ?_)
        · have q57_ : (1 : Int32).toInt = (0 : Int32).toInt := by rw [q57]
          refine lv_iload_n hx hb rnX_d66 rfl (lv_at hl 4 rfl) ?_
          exact y_ireturn B hI rfl rfl rfl List.mem_cons_self ⟨_, rfl, ⟨_, rfl, by show (0 : Int) ≤ _; omega, by show _ ≤ (8 : Int); omega⟩⟩ (x_cs.mono B.2.2.2.2.2 (y_mon B hI)) (fun t' b' s' w' u' i' f' V' h1 h2 h3 h4 h5 => by cases h1; cases h2.symm.trans hs0; cases h4.symm.trans hs8; have eq9 : m_rnR f' V' w t i = m_rnR fb fs w t i := (by unfold m_rnR m_tw; rw [z_AR h3 hA0 (show 2 < 160 by decide), z_AR h5 hA8 (show t.toInt.toNat < 10 by omega), z_AR h3 hA0 (show 128 + i.toInt.toNat < 160 by omega)]); rw [eq9]; refine congrArg (fun x => some (Value.int x)) ?_; unfold m_rnR; refine Eq.symm ?_; first | (exfalso; omega) | (exact if_neg (fun h9 => absurd h9.1 (by omega))) | (have e9 : fb (128 + i.toInt.toNat) = e44 := (congrArg fb (by omega)).trans hg_e44; have e8 : z_bits (w &&& m_tw fs t) = r22 := (by unfold m_tw; rw [hg_e16, hg_z19, hg_z20, hg_z21, hg_r22]); exact if_neg (fun h9 => absurd (e8.symm.trans (h9.2.trans e9)) (by assumption)))) (Nat.le_refl _) (Nat.le_refl _) rnX_d67
        · have q57_ : ¬ (1 : Int32).toInt = (0 : Int32).toInt := fun q => q57 (Int32.toInt_inj.mp q)
          refine lv_iload_n hx hb rnX_d60 rfl (lv_at hl 4 rfl) ?_
          refine lv_iconst hx hb rnX_d61 (v := 1) (by decide) ?_
          refine lv_iadd hx hb rnX_d62 ?_
          generalize hg_z62 : i + (1 : Int32) = z62
          have h_z62 : z62.toInt = i.toInt + 1 := by rw [← hg_z62]; have := y_add (x := i) (y := (1 : Int32)) (by rw [ec1]; omega) (by rw [ec1]; omega); rw [ec1] at this; exact this
          refine lv_goto hx hb rnX_d63 (tgt := 67) (by decide) ?_
          exact y_ireturn B hI rfl rfl rfl List.mem_cons_self ⟨_, rfl, ⟨_, rfl, by show (0 : Int) ≤ _; omega, by show _ ≤ (8 : Int); omega⟩⟩ (x_cs.mono B.2.2.2.2.2 (y_mon B hI)) (fun t' b' s' w' u' i' f' V' h1 h2 h3 h4 h5 => by cases h1; cases h2.symm.trans hs0; cases h4.symm.trans hs8; have eq9 : m_rnR f' V' w t i = m_rnR fb fs w t i := (by unfold m_rnR m_tw; rw [z_AR h3 hA0 (show 2 < 160 by decide), z_AR h5 hA8 (show t.toInt.toNat < 10 by omega), z_AR h3 hA0 (show 128 + i.toInt.toNat < 160 by omega)]); rw [eq9]; refine congrArg (fun x => some (Value.int x)) ?_; unfold m_rnR; refine Eq.symm ?_; first | (exfalso; omega) | (have e9 : fb (128 + i.toInt.toNat) = e44 := (congrArg fb (by omega)).trans hg_e44; have e8 : z_bits (w &&& m_tw fs t) = r22 := (by unfold m_tw; rw [hg_e16, hg_z19, hg_z20, hg_z21, hg_r22]); rw [if_pos ⟨by omega, e8.trans ((show r22 = e44 by assumption).trans e9.symm)⟩]; exact hg_z62)) (Nat.le_refl _) (Nat.le_refl _) rnX_d67
def z_PMtold : yP := fun D av _ H v _ H' => ∀ (this bk : Nat) (w t : Int32) (f : Nat → Int32), av = [.ref this, .int w, .int t] → x_sl D 12 0 this H = some (.ref bk) → z_c f → y_A bk 160 H f → ∃ r : Int32, v = some (.int r) ∧ m_tdS (m_LR (m_VR f (f 4) (f 5)) (f 0).toInt.toNat) (2 ^ (f 0).toInt.toNat) (m_isS f w ∧ m_isH f t) f (m_tw (m_VR f (f 4) (f 5)) t) w r
theorem toX9_d0 : decode xMti.2.1 0 = .ok (.aload_n 0, 1) := dz_ok (by decide +kernel)
theorem toX9_d1 : decode xMti.2.1 1 = .ok (.iload_n 1, 1) := dz_ok (by decide +kernel)
theorem toX9_d2 : decode xMti.2.1 2 = .ok (.invokevirtual 237, 3) := dz_ok (by decide +kernel)
theorem toX9_d5 : decode xMti.2.1 5 = .ok (.ifCond .eq 11, 3) := dz_ok (by decide +kernel)
theorem toX9_d8 : decode xMti.2.1 8 = .ok (.aload_n 0, 1) := dz_ok (by decide +kernel)
theorem toX9_d9 : decode xMti.2.1 9 = .ok (.iload_n 2, 1) := dz_ok (by decide +kernel)
theorem toX9_d10 : decode xMti.2.1 10 = .ok (.invokevirtual 151, 3) := dz_ok (by decide +kernel)
theorem toX9_d13 : decode xMti.2.1 13 = .ok (.ifCond .ne 11, 3) := dz_ok (by decide +kernel)
theorem toX9_d16 : decode xMti.2.1 16 = .ok (.aload_n 0, 1) := dz_ok (by decide +kernel)
theorem toX9_d17 : decode xMti.2.1 17 = .ok (.iconst 0, 1) := dz_ok (by decide +kernel)
theorem toX9_d18 : decode xMti.2.1 18 = .ok (.bipush (-10), 2) := dz_ok (by decide +kernel)
theorem toX9_d20 : decode xMti.2.1 20 = .ok (.invokevirtual 76, 3) := dz_ok (by decide +kernel)
theorem toX9_d23 : decode xMti.2.1 23 = .ok (.ireturn, 1) := dz_ok (by decide +kernel)
theorem toX9_d24 : decode xMti.2.1 24 = .ok (.aload_n 0, 1) := dz_ok (by decide +kernel)
theorem toX9_d25 : decode xMti.2.1 25 = .ok (.invokevirtual 260, 3) := dz_ok (by decide +kernel)
theorem toX9_d28 : decode xMti.2.1 28 = .ok (.aload_n 0, 1) := dz_ok (by decide +kernel)
theorem toX9_d29 : decode xMti.2.1 29 = .ok (.getfield 38, 3) := dz_ok (by decide +kernel)
theorem toX9_d32 : decode xMti.2.1 32 = .ok (.iload_n 1, 1) := dz_ok (by decide +kernel)
theorem toX9_d33 : decode xMti.2.1 33 = .ok (.baload, 1) := dz_ok (by decide +kernel)
theorem toX9_d34 : decode xMti.2.1 34 = .ok (.ifCond .ne 11, 3) := dz_ok (by decide +kernel)
theorem toX9_d37 : decode xMti.2.1 37 = .ok (.aload_n 0, 1) := dz_ok (by decide +kernel)
theorem toX9_d38 : decode xMti.2.1 38 = .ok (.iconst 1, 1) := dz_ok (by decide +kernel)
theorem toX9_d39 : decode xMti.2.1 39 = .ok (.bipush (-20), 2) := dz_ok (by decide +kernel)
theorem toX9_d41 : decode xMti.2.1 41 = .ok (.invokevirtual 76, 3) := dz_ok (by decide +kernel)
theorem toX9_d44 : decode xMti.2.1 44 = .ok (.ireturn, 1) := dz_ok (by decide +kernel)
theorem toX9_d45 : decode xMti.2.1 45 = .ok (.iconst 0, 1) := dz_ok (by decide +kernel)
theorem toX9_d46 : decode xMti.2.1 46 = .ok (.istore_n 3, 1) := dz_ok (by decide +kernel)
theorem toX9_d47 : decode xMti.2.1 47 = .ok (.iload_n 3, 1) := dz_ok (by decide +kernel)
theorem toX9_d48 : decode xMti.2.1 48 = .ok (.sipush 9216, 3) := dz_ok (by decide +kernel)
theorem toX9_d51 : decode xMti.2.1 51 = .ok (.if_icmp .ge 16, 3) := dz_ok (by decide +kernel)
theorem toX9_d54 : decode xMti.2.1 54 = .ok (.aload_n 0, 1) := dz_ok (by decide +kernel)
theorem toX9_d55 : decode xMti.2.1 55 = .ok (.getfield 59, 3) := dz_ok (by decide +kernel)
theorem toX9_d58 : decode xMti.2.1 58 = .ok (.iload_n 3, 1) := dz_ok (by decide +kernel)
theorem toX9_d59 : decode xMti.2.1 59 = .ok (.iconst (-1), 1) := dz_ok (by decide +kernel)
theorem toX9_d60 : decode xMti.2.1 60 = .ok (.iastore, 1) := dz_ok (by decide +kernel)
theorem toX9_d61 : decode xMti.2.1 61 = .ok (.iinc 3 1, 3) := dz_ok (by decide +kernel)
theorem toX9_d64 : decode xMti.2.1 64 = .ok (.goto (-17), 3) := dz_ok (by decide +kernel)
theorem toX9_d67 : decode xMti.2.1 67 = .ok (.aload_n 0, 1) := dz_ok (by decide +kernel)
theorem toX9_d68 : decode xMti.2.1 68 = .ok (.getfield 7, 3) := dz_ok (by decide +kernel)
theorem toX9_d71 : decode xMti.2.1 71 = .ok (.iconst 2, 1) := dz_ok (by decide +kernel)
theorem toX9_d72 : decode xMti.2.1 72 = .ok (.iaload, 1) := dz_ok (by decide +kernel)
theorem toX9_d73 : decode xMti.2.1 73 = .ok (.istore_n 3, 1) := dz_ok (by decide +kernel)
theorem toX9_d74 : decode xMti.2.1 74 = .ok (.sipush 1024, 3) := dz_ok (by decide +kernel)
theorem toX9_d77 : decode xMti.2.1 77 = .ok (.aload_n 0, 1) := dz_ok (by decide +kernel)
theorem toX9_d78 : decode xMti.2.1 78 = .ok (.iload_n 1, 1) := dz_ok (by decide +kernel)
theorem toX9_d79 : decode xMti.2.1 79 = .ok (.iload_n 2, 1) := dz_ok (by decide +kernel)
theorem toX9_d80 : decode xMti.2.1 80 = .ok (.iconst 0, 1) := dz_ok (by decide +kernel)
theorem toX9_d81 : decode xMti.2.1 81 = .ok (.invokevirtual 272, 3) := dz_ok (by decide +kernel)
theorem toX9_d84 : decode xMti.2.1 84 = .ok (.imul, 1) := dz_ok (by decide +kernel)
theorem toX9_d85 : decode xMti.2.1 85 = .ok (.iload_n 1, 1) := dz_ok (by decide +kernel)
theorem toX9_d86 : decode xMti.2.1 86 = .ok (.iadd, 1) := dz_ok (by decide +kernel)
theorem toX9_d87 : decode xMti.2.1 87 = .ok (.istore 4, 2) := dz_ok (by decide +kernel)
theorem toX9_d89 : decode xMti.2.1 89 = .ok (.aload_n 0, 1) := dz_ok (by decide +kernel)
theorem toX9_d90 : decode xMti.2.1 90 = .ok (.getfield 59, 3) := dz_ok (by decide +kernel)
theorem toX9_d93 : decode xMti.2.1 93 = .ok (.iload 4, 2) := dz_ok (by decide +kernel)
theorem toX9_d95 : decode xMti.2.1 95 = .ok (.iconst 0, 1) := dz_ok (by decide +kernel)
theorem toX9_d96 : decode xMti.2.1 96 = .ok (.iastore, 1) := dz_ok (by decide +kernel)
theorem toX9_d97 : decode xMti.2.1 97 = .ok (.aload_n 0, 1) := dz_ok (by decide +kernel)
theorem toX9_d98 : decode xMti.2.1 98 = .ok (.getfield 62, 3) := dz_ok (by decide +kernel)
theorem toX9_d101 : decode xMti.2.1 101 = .ok (.iconst 0, 1) := dz_ok (by decide +kernel)
theorem toX9_d102 : decode xMti.2.1 102 = .ok (.iload 4, 2) := dz_ok (by decide +kernel)
theorem toX9_d104 : decode xMti.2.1 104 = .ok (.iastore, 1) := dz_ok (by decide +kernel)
theorem toX9_d105 : decode xMti.2.1 105 = .ok (.iconst 0, 1) := dz_ok (by decide +kernel)
theorem toX9_d106 : decode xMti.2.1 106 = .ok (.istore 5, 2) := dz_ok (by decide +kernel)
theorem toX9_d108 : decode xMti.2.1 108 = .ok (.iconst 1, 1) := dz_ok (by decide +kernel)
theorem toX9_d109 : decode xMti.2.1 109 = .ok (.istore 6, 2) := dz_ok (by decide +kernel)
theorem toX9_d111 : decode xMti.2.1 111 = .ok (.iload 5, 2) := dz_ok (by decide +kernel)
theorem toX9_d113 : decode xMti.2.1 113 = .ok (.iload 6, 2) := dz_ok (by decide +kernel)
theorem toX9_d115 : decode xMti.2.1 115 = .ok (.if_icmp .ge 150, 3) := dz_ok (by decide +kernel)
theorem toX9_d118 : decode xMti.2.1 118 = .ok (.aload_n 0, 1) := dz_ok (by decide +kernel)
theorem toX9_d119 : decode xMti.2.1 119 = .ok (.getfield 62, 3) := dz_ok (by decide +kernel)
theorem toX9_d122 : decode xMti.2.1 122 = .ok (.iload 5, 2) := dz_ok (by decide +kernel)
theorem toX9_d124 : decode xMti.2.1 124 = .ok (.iaload, 1) := dz_ok (by decide +kernel)
theorem toX9_d125 : decode xMti.2.1 125 = .ok (.istore 7, 2) := dz_ok (by decide +kernel)
theorem toX9_d127 : decode xMti.2.1 127 = .ok (.iinc 5 1, 3) := dz_ok (by decide +kernel)
theorem toX9_d130 : decode xMti.2.1 130 = .ok (.iload 7, 2) := dz_ok (by decide +kernel)
theorem toX9_d132 : decode xMti.2.1 132 = .ok (.sipush 1024, 3) := dz_ok (by decide +kernel)
theorem toX9_d135 : decode xMti.2.1 135 = .ok (.idiv, 1) := dz_ok (by decide +kernel)
theorem toX9_d136 : decode xMti.2.1 136 = .ok (.istore 8, 2) := dz_ok (by decide +kernel)
theorem toX9_d138 : decode xMti.2.1 138 = .ok (.iload 7, 2) := dz_ok (by decide +kernel)
theorem toX9_d140 : decode xMti.2.1 140 = .ok (.sipush 1024, 3) := dz_ok (by decide +kernel)
theorem toX9_d143 : decode xMti.2.1 143 = .ok (.irem, 1) := dz_ok (by decide +kernel)
theorem toX9_d144 : decode xMti.2.1 144 = .ok (.istore 9, 2) := dz_ok (by decide +kernel)
theorem toX9_d146 : decode xMti.2.1 146 = .ok (.iload 8, 2) := dz_ok (by decide +kernel)
theorem toX9_d148 : decode xMti.2.1 148 = .ok (.iload_n 3, 1) := dz_ok (by decide +kernel)
theorem toX9_d149 : decode xMti.2.1 149 = .ok (.if_icmp .ne 11, 3) := dz_ok (by decide +kernel)
theorem toX9_d152 : decode xMti.2.1 152 = .ok (.aload_n 0, 1) := dz_ok (by decide +kernel)
theorem toX9_d153 : decode xMti.2.1 153 = .ok (.getfield 59, 3) := dz_ok (by decide +kernel)
theorem toX9_d156 : decode xMti.2.1 156 = .ok (.iload 7, 2) := dz_ok (by decide +kernel)
theorem toX9_d158 : decode xMti.2.1 158 = .ok (.iaload, 1) := dz_ok (by decide +kernel)
theorem toX9_d159 : decode xMti.2.1 159 = .ok (.ireturn, 1) := dz_ok (by decide +kernel)
theorem toX9_d160 : decode xMti.2.1 160 = .ok (.iconst 0, 1) := dz_ok (by decide +kernel)
theorem toX9_d161 : decode xMti.2.1 161 = .ok (.istore 10, 2) := dz_ok (by decide +kernel)
theorem toX9_d163 : decode xMti.2.1 163 = .ok (.iload 10, 2) := dz_ok (by decide +kernel)
theorem toX9_d165 : decode xMti.2.1 165 = .ok (.aload_n 0, 1) := dz_ok (by decide +kernel)
theorem toX9_d166 : decode xMti.2.1 166 = .ok (.invokevirtual 91, 3) := dz_ok (by decide +kernel)
theorem toX9_d169 : decode xMti.2.1 169 = .ok (.if_icmp .gt 93, 3) := dz_ok (by decide +kernel)
theorem toX9_d172 : decode xMti.2.1 172 = .ok (.aload_n 0, 1) := dz_ok (by decide +kernel)
theorem toX9_d173 : decode xMti.2.1 173 = .ok (.getfield 38, 3) := dz_ok (by decide +kernel)
theorem toX9_d176 : decode xMti.2.1 176 = .ok (.iload 10, 2) := dz_ok (by decide +kernel)
theorem toX9_d178 : decode xMti.2.1 178 = .ok (.baload, 1) := dz_ok (by decide +kernel)
theorem toX9_d179 : decode xMti.2.1 179 = .ok (.ifCond .eq 77, 3) := dz_ok (by decide +kernel)
theorem toX9_d182 : decode xMti.2.1 182 = .ok (.iload 10, 2) := dz_ok (by decide +kernel)
theorem toX9_d184 : decode xMti.2.1 184 = .ok (.iload 9, 2) := dz_ok (by decide +kernel)
theorem toX9_d186 : decode xMti.2.1 186 = .ok (.if_icmp .eq 13, 3) := dz_ok (by decide +kernel)
theorem toX9_d189 : decode xMti.2.1 189 = .ok (.iload 9, 2) := dz_ok (by decide +kernel)
theorem toX9_d191 : decode xMti.2.1 191 = .ok (.iload 10, 2) := dz_ok (by decide +kernel)
theorem toX9_d193 : decode xMti.2.1 193 = .ok (.invokestatic 257, 3) := dz_ok (by decide +kernel)
theorem toX9_d196 : decode xMti.2.1 196 = .ok (.ifCond .eq 60, 3) := dz_ok (by decide +kernel)
theorem toX9_d199 : decode xMti.2.1 199 = .ok (.sipush 1024, 3) := dz_ok (by decide +kernel)
theorem toX9_d202 : decode xMti.2.1 202 = .ok (.aload_n 0, 1) := dz_ok (by decide +kernel)
theorem toX9_d203 : decode xMti.2.1 203 = .ok (.iload 10, 2) := dz_ok (by decide +kernel)
theorem toX9_d205 : decode xMti.2.1 205 = .ok (.iload_n 2, 1) := dz_ok (by decide +kernel)
theorem toX9_d206 : decode xMti.2.1 206 = .ok (.iload 8, 2) := dz_ok (by decide +kernel)
theorem toX9_d208 : decode xMti.2.1 208 = .ok (.invokevirtual 272, 3) := dz_ok (by decide +kernel)
theorem toX9_d211 : decode xMti.2.1 211 = .ok (.imul, 1) := dz_ok (by decide +kernel)
theorem toX9_d212 : decode xMti.2.1 212 = .ok (.iload 10, 2) := dz_ok (by decide +kernel)
theorem toX9_d214 : decode xMti.2.1 214 = .ok (.iadd, 1) := dz_ok (by decide +kernel)
theorem toX9_d215 : decode xMti.2.1 215 = .ok (.istore 11, 2) := dz_ok (by decide +kernel)
theorem toX9_d217 : decode xMti.2.1 217 = .ok (.aload_n 0, 1) := dz_ok (by decide +kernel)
theorem toX9_d218 : decode xMti.2.1 218 = .ok (.getfield 59, 3) := dz_ok (by decide +kernel)
theorem toX9_d221 : decode xMti.2.1 221 = .ok (.iload 11, 2) := dz_ok (by decide +kernel)
theorem toX9_d223 : decode xMti.2.1 223 = .ok (.iaload, 1) := dz_ok (by decide +kernel)
theorem toX9_d224 : decode xMti.2.1 224 = .ok (.iconst (-1), 1) := dz_ok (by decide +kernel)
theorem toX9_d225 : decode xMti.2.1 225 = .ok (.if_icmp .ne 31, 3) := dz_ok (by decide +kernel)
theorem toX9_d228 : decode xMti.2.1 228 = .ok (.aload_n 0, 1) := dz_ok (by decide +kernel)
theorem toX9_d229 : decode xMti.2.1 229 = .ok (.getfield 59, 3) := dz_ok (by decide +kernel)
theorem toX9_d232 : decode xMti.2.1 232 = .ok (.iload 11, 2) := dz_ok (by decide +kernel)
theorem toX9_d234 : decode xMti.2.1 234 = .ok (.aload_n 0, 1) := dz_ok (by decide +kernel)
theorem toX9_d235 : decode xMti.2.1 235 = .ok (.getfield 59, 3) := dz_ok (by decide +kernel)
theorem toX9_d238 : decode xMti.2.1 238 = .ok (.iload 7, 2) := dz_ok (by decide +kernel)
theorem toX9_d240 : decode xMti.2.1 240 = .ok (.iaload, 1) := dz_ok (by decide +kernel)
theorem toX9_d241 : decode xMti.2.1 241 = .ok (.iconst 1, 1) := dz_ok (by decide +kernel)
theorem toX9_d242 : decode xMti.2.1 242 = .ok (.iadd, 1) := dz_ok (by decide +kernel)
theorem toX9_d243 : decode xMti.2.1 243 = .ok (.iastore, 1) := dz_ok (by decide +kernel)
theorem toX9_d244 : decode xMti.2.1 244 = .ok (.aload_n 0, 1) := dz_ok (by decide +kernel)
theorem toX9_d245 : decode xMti.2.1 245 = .ok (.getfield 62, 3) := dz_ok (by decide +kernel)
theorem toX9_d248 : decode xMti.2.1 248 = .ok (.iload 6, 2) := dz_ok (by decide +kernel)
theorem toX9_d250 : decode xMti.2.1 250 = .ok (.iload 11, 2) := dz_ok (by decide +kernel)
theorem toX9_d252 : decode xMti.2.1 252 = .ok (.iastore, 1) := dz_ok (by decide +kernel)
theorem toX9_d253 : decode xMti.2.1 253 = .ok (.iinc 6 1, 3) := dz_ok (by decide +kernel)
theorem toX9_d256 : decode xMti.2.1 256 = .ok (.iinc 10 1, 3) := dz_ok (by decide +kernel)
theorem toX9_d259 : decode xMti.2.1 259 = .ok (.goto (-96), 3) := dz_ok (by decide +kernel)
theorem toX9_d262 : decode xMti.2.1 262 = .ok (.goto (-151), 3) := dz_ok (by decide +kernel)
theorem toX9_d265 : decode xMti.2.1 265 = .ok (.iconst (-1), 1) := dz_ok (by decide +kernel)
theorem toX9_d266 : decode xMti.2.1 266 = .ok (.ireturn, 1) := dz_ok (by decide +kernel)
theorem toX9_L163 {p : Program} {l : Launch} {e : Env} {s : State} {m : MethodId} {below : List Frame} {meth : Method} {c : Code} {D : va_G} {U : State} {Y0 : xY} {av : List Value} (B : y_B vwCl x_Tb x_Nb xMti p s m meth c D U Y0 av) {this bk se lw rd wt : Nat} {w t : Int32} {fb : Nat → Int32} (hav : av = [.ref this, .int w, .int t]) (hs0 : x_sl D 12 0 this s.heap = some (.ref bk)) (hA0 : y_A bk 160 s.heap fb) (hcn : z_c fb) (hd0 : 0 ≤ (fb 0).toInt ∧ (fb 0).toInt ≤ 10) (hd2 : 0 ≤ (fb 2).toInt ∧ (fb 2).toInt ≤ 8) (hok : m_isS fb w ∧ m_isH fb t) {gl fs : Nat → Int32} (hgl : ∀ s9, s9 < (2 ^ (fb 0).toInt.toNat) → m_gl gl s9 = (m_LR (m_VR fb (fb 4) (fb 5)) (fb 0).toInt.toNat) s9) (hVs : ∀ i, i < (fb 0).toInt.toNat → fs i = (m_VR fb (fb 4) (fb 5)) i) (hB_lw : ∀ j, j < 1024 → (0 : Int) ≤ (gl j).toInt ∧ (gl j).toInt ≤ 1) (hLw : (m_LR (m_VR fb (fb 4) (fb 5)) (fb 0).toInt.toNat) w.toInt.toNat = true) {sa ix se9 he : Int32} (hsa : 0 ≤ sa.toInt ∧ sa.toInt ≤ 9215) (hix : ix.toInt = sa.toInt / 1024) (hs9 : se9.toInt = sa.toInt % 1024) (hhe : 1 ≤ he.toInt)
    (out111 : ∀ (H : Heap) (Y : xY) (locs : List Loc) (ls : Array Slot) (ta1 : Int32) (he1 : Int32) (ff1 qq1 : Nat → Int32), x_I D x_G x_Zs U (x_efs xMti) Y0 s.heap Y H locs → Y this = some 17 → Y bk = some 46 → Y se = some 51 → Y lw = some 55 → Y rd = some 62 → Y wt = some 63 → x_sl D 12 0 this H = some (.ref bk) → x_sl D 12 8 this H = some (.ref se) → x_sl D 12 18 this H = some (.ref lw) → x_sl D 12 25 this H = some (.ref rd) → x_sl D 12 26 this H = some (.ref wt) → y_A bk 160 H fb → y_A se 10 H fs → y_A lw 1024 H gl → y_A rd 9216 H ff1 → y_A wt 9216 H qq1 → lv_has ls xMti.2.2.1 [(6, .int ta1), (5, .int he1), (3, .int (fb 2)), (0, .ref this), (1, .int w), (2, .int t)] → (∀ j, j < 9216 → (0 : Int) ≤ (qq1 j).toInt ∧ (qq1 j).toInt ≤ 9215) → (0 ≤ he1.toInt ∧ he1.toInt ≤ ta1.toInt) → (1 ≤ ta1.toInt ∧ ta1.toInt ≤ (z_cnt ff1 9216 : Int)) → (m_B1 (m_tE (m_tN (m_LR (m_VR fb (fb 4) (fb 5)) (fb 0).toInt.toNat) (2 ^ (fb 0).toInt.toNat)) (m_rdn fb (m_tw (m_VR fb (fb 4) (fb 5)) t))) (m_st0 fb (m_tw (m_VR fb (fb 4) (fb 5)) t) w) 9216 ff1) → (m_QU (fun _ => true) 9216 ff1 qq1 he1.toInt.toNat ta1.toInt.toNat) → (m_QB ff1 qq1 ta1.toInt.toNat) → (∀ j : Nat, (j : Int) < he1.toInt → ¬ (((qq1 j).toInt.toNat / 1024 : Nat) : Int) = (fb 2).toInt) → (he1.toInt < ta1.toInt → m_QT ff1 qq1 ta1.toInt.toNat (ff1 (qq1 he1.toInt.toNat).toInt.toNat).toInt) → (∀ j : Nat, (j : Int) < he1.toInt → m_B2 (m_tE (m_tN (m_LR (m_VR fb (fb 4) (fb 5)) (fb 0).toInt.toNat) (2 ^ (fb 0).toInt.toNat)) (m_rdn fb (m_tw (m_VR fb (fb 4) (fb 5)) t))) 9216 ff1 (qq1 j).toInt.toNat) → (he1.toInt = he.toInt) → W p l e (x_rm xMti) s m av.toArray below meth c H locs 0 0 (y_QQ below D x_G x_Zs U xMti z_PMtold av Y0 s) (F0 m 111 ls [])) :
    ∀ (n : Nat), ∀ (H : Heap) (Y : xY) (locs : List Loc) (ls : Array Slot) (to : Int32) (ta : Int32) (ff qq : Nat → Int32), x_I D x_G x_Zs U (x_efs xMti) Y0 s.heap Y H locs → Y this = some 17 → Y bk = some 46 → Y se = some 51 → Y lw = some 55 → Y rd = some 62 → Y wt = some 63 → x_sl D 12 0 this H = some (.ref bk) → x_sl D 12 8 this H = some (.ref se) → x_sl D 12 18 this H = some (.ref lw) → x_sl D 12 25 this H = some (.ref rd) → x_sl D 12 26 this H = some (.ref wt) → y_A bk 160 H fb → y_A se 10 H fs → y_A lw 1024 H gl → y_A rd 9216 H ff → y_A wt 9216 H qq → lv_has ls xMti.2.2.1 [(10, .int to), (9, .int se9), (8, .int ix), (7, .int sa), (6, .int ta), (5, .int he), (3, .int (fb 2)), (0, .ref this), (1, .int w), (2, .int t)] → (∀ j, j < 9216 → (0 : Int) ≤ (qq j).toInt ∧ (qq j).toInt ≤ 9215) → (0 ≤ to.toInt ∧ to.toInt ≤ (z_all (fb 0)).toInt + 1) → (he.toInt ≤ ta.toInt) → (1 ≤ ta.toInt ∧ ta.toInt ≤ (z_cnt ff 9216 : Int)) → (m_B1 (m_tE (m_tN (m_LR (m_VR fb (fb 4) (fb 5)) (fb 0).toInt.toNat) (2 ^ (fb 0).toInt.toNat)) (m_rdn fb (m_tw (m_VR fb (fb 4) (fb 5)) t))) (m_st0 fb (m_tw (m_VR fb (fb 4) (fb 5)) t) w) 9216 ff) → (m_QU (fun _ => true) 9216 ff qq he.toInt.toNat ta.toInt.toNat) → (m_QB ff qq ta.toInt.toNat) → (∀ j : Nat, (j : Int) < he.toInt → ¬ (((qq j).toInt.toNat / 1024 : Nat) : Int) = (fb 2).toInt) → (sa = qq (he.toInt.toNat - 1)) → (m_QT ff qq ta.toInt.toNat (ff sa.toInt.toNat).toInt) → (∀ j : Nat, (j : Int) < he.toInt - 1 → m_B2 (m_tE (m_tN (m_LR (m_VR fb (fb 4) (fb 5)) (fb 0).toInt.toNat) (2 ^ (fb 0).toInt.toNat)) (m_rdn fb (m_tw (m_VR fb (fb 4) (fb 5)) t))) 9216 ff (qq j).toInt.toNat) → (∀ s : Nat, s < 9216 → (m_tE (m_tN (m_LR (m_VR fb (fb 4) (fb 5)) (fb 0).toInt.toNat) (2 ^ (fb 0).toInt.toNat)) (m_rdn fb (m_tw (m_VR fb (fb 4) (fb 5)) t))) sa.toInt.toNat s → ((s % 1024 : Nat) : Int) < to.toInt → ¬ (ff s).toInt = -1 ∧ (ff s).toInt ≤ (ff sa.toInt.toNat).toInt + 1) → (1025 - to.toInt).toNat < n → W p l e (x_rm xMti) s m av.toArray below meth c H locs 0 0 (y_QQ below D x_G x_Zs U xMti z_PMtold av Y0 s) (F0 m 163 ls []) := by
  have X := B.1
  have hx := X.1
  have hb := X.2.1
  have hY0 := B.2.2.2.2.1
  intro n
  induction n with
  | zero => intro _ _ _ _ _ _ _ _ _ _ _ _ _ _ _ _ _ _ _ _ _ _ _ _ _ _ _ _ _ _ _ _ _ _ _ _ _ _ h; exact absurd h (Nat.not_lt_zero _)
  | succ n ih =>
    intro H Y locs ls to ta ff qq hI hY_this hY_bk hY_se hY_lw hY_rd hY_wt hs_bk hs_se hs_lw hs_rd hs_wt hA_bk hA_se hA_lw hA_rd hA_wt hl hB_wt hto hh hcnt hb1 hqu hqb hng hset hqt hcl hnx hn
    have hz9 := z_all_p hd0
    have hpw : (2 ^ (fb 0).toInt.toNat) ≤ 1024 := Nat.pow_le_pow_right (n := 2) (by decide) (show (fb 0).toInt.toNat ≤ 10 by omega)
    have hh9 := hok.2
    unfold m_isH at hh9
    have hsw := hok.1
    unfold m_isS at hsw
    have hwb : 0 ≤ w.toInt ∧ w.toInt ≤ 1023 := by omega
    have htw : m_tw fs t = (m_tw (m_VR fb (fb 4) (fb 5)) t) := by unfold m_tw; rw [hVs _ (by omega)]
    have hc9 := z_cnt_le ff 9216
    have hsq := hqu.2.1 (he.toInt.toNat - 1) (by omega)
    have hsb := hqb (he.toInt.toNat - 1) (by omega)
    rw [← hset] at hsq hsb
    have hse9 : nI (sa.toInt.toNat % 1024) = se9 := by rw [show sa.toInt.toNat % 1024 = se9.toInt.toNat by omega]; exact m_nj (by omega)
    refine lv_iload hx hb toX9_d163 (lv_at hl 0 rfl) ?_
    refine lv_aload_n hx hb toX9_d165 rfl (lv_at hl 7 rfl) ?_
    refine y_call (z := (0, 91, 1, some 17, xM182)) (av := [.ref this]) (rest := [.int to]) (y_cokV (n := 0) (ci := 12) X ym_all rfl rfl rfl (x_cons (x_bw77 4 rfl rfl) (x_cons (x_bw77 6 rfl rfl) (x_cons (x_at 49 (by decide +kernel) rfl) (x_cons (x_bw0 9 rfl rfl) x_nilm)))) (x_bw77 7 rfl rfl) (by decide +kernel) ⟨Nat.le_of_ble_eq_true rfl, Nat.le_of_ble_eq_true rfl⟩) hY0 hI rfl toX9_d166 hl.1 (Nat.le_of_ble_eq_true rfl) (Nat.le_of_ble_eq_true rfl) (Nat.le_of_ble_eq_true rfl) (y_cons (y_cref hY_this rfl) y_nil) rfl (y_recv rfl hY_this) trivial (y_sub_ef rfl) fun v Yn o Hn L ho hr ha hIn hx_ hE hP => ?_
    have hPv := hP _ _ _ rfl hs_bk (hA_bk 0 (by decide))
    replace hs_bk := y_Efld hE hY_this rfl (by decide) (by decide) hs_bk
    replace hs_se := y_Efld hE hY_this rfl (by decide) (by decide) hs_se
    replace hs_lw := y_Efld hE hY_this rfl (by decide) (by decide) hs_lw
    replace hs_rd := y_Efld hE hY_this rfl (by decide) (by decide) hs_rd
    replace hs_wt := y_Efld hE hY_this rfl (by decide) (by decide) hs_wt
    replace hA_bk := hA_bk.kept (y_Earr hE hY_bk rfl (by decide))
    replace hA_se := hA_se.kept (y_Earr hE hY_se rfl (by decide))
    replace hA_lw := hA_lw.kept (y_Earr hE hY_lw rfl (by decide))
    replace hA_rd := hA_rd.kept (y_Earr hE hY_rd rfl (by decide))
    replace hA_wt := hA_wt.kept (y_Earr hE hY_wt rfl (by decide))
    replace hY_this := y_ext hx_ hI.1 hY_this
    replace hY_bk := y_ext hx_ hI.1 hY_bk
    replace hY_se := y_ext hx_ hI.1 hY_se
    replace hY_lw := y_ext hx_ hI.1 hY_lw
    replace hY_rd := y_ext hx_ hI.1 hY_rd
    replace hY_wt := y_ext hx_ hI.1 hY_wt
    obtain rfl := hPv
    clear ho hr ha hE hP hI hx_
    rename x_I _ _ _ _ _ _ _ _ _ _ => hI
    refine lv_icmp_gt hx hb toX9_d169 (tgt := 262) (by decide) (fun q169 => ?_) (fun q169 => ?_)
    · have q169_ : (z_all (fb 0)).toInt < to.toInt := x_lt32.mp q169
      refine lv_goto hx hb toX9_d262 (tgt := 111) (by decide) ?_
      have hall : m_B2 (m_tE (m_tN (m_LR (m_VR fb (fb 4) (fb 5)) (fb 0).toInt.toNat) (2 ^ (fb 0).toInt.toNat)) (m_rdn fb (m_tw (m_VR fb (fb 4) (fb 5)) t))) 9216 ff sa.toInt.toNat := fun s hs hE => hnx s hs hE (by have h9 := (m_tN_T.mp hE.1).1; omega)
      exact out111 _ _ _ _ _ _ _ _ hI hY_this hY_bk hY_se hY_lw hY_rd hY_wt hs_bk hs_se hs_lw hs_rd hs_wt hA_bk hA_se hA_lw hA_rd hA_wt (lv_sub hl [4, 5, 6, 7, 8, 9] rfl) (by first | assumption | omega) (by omega) (by first | assumption | omega) (by first | assumption | omega) (by first | assumption | omega) (by first | assumption | omega) (by first | assumption | omega) (fun h9 => fun j hj => by have h8 := hqt j hj; have h7 := hqu.2.2.1 (he.toInt.toNat - 1) he.toInt.toNat (by omega) (by omega); rw [← hset] at h7; omega) (fun j hj => by by_cases e9 : j = he.toInt.toNat - 1; (rw [e9, ← hset]; exact hall); exact hcl j (by omega)) rfl
    · have q169_ : to.toInt ≤ (z_all (fb 0)).toInt := Int.not_lt.mp fun q => q169 (x_lt32.mpr q)
      refine lv_aload_n hx hb toX9_d172 rfl (lv_at hl 7 rfl) ?_
      refine y_getf X (fl200 X.2.2.2.2.1) hI.1 hY_this rfl hs_lw toX9_d173 ?_
      refine lv_iload hx hb toX9_d176 (lv_at hl 0 rfl) ?_
      refine y_zald X hI.1 hY_lw rfl hA_lw (by omega) (by show _ < (1024 : Int); omega) toX9_d178 ?_
      obtain ⟨e178, hg_e178⟩ : ∃ e178 : Int32, gl to.toInt.toNat = e178 := ⟨_, rfl⟩
      rw [hg_e178]
      have h_e178 : (0 : Int) ≤ e178.toInt ∧ e178.toInt ≤ 1 := by rw [← hg_e178]; exact hB_lw _ (by omega)
      have ec0 : (0 : Int32).toInt = 0 := by decide
      refine lv_if_eq hx hb toX9_d179 (tgt := 256) (by decide) (fun q179 => ?_) (fun q179 => ?_)
      · have q179_ : e178.toInt = (0 : Int32).toInt := by rw [q179]
        obtain ⟨z256, hg_z256⟩ : ∃ z256 : Int32, to + Int32.ofInt 1 = z256 := ⟨_, rfl⟩
        have h_z256 : z256.toInt = to.toInt + 1 := by rw [← hg_z256]; exact y_inc (by decide) (by omega) (by omega)
        refine lv_iinc hx hb toX9_d256 hl (k := 0) rfl hg_z256 (by decide) (lv' := [(10, .int z256), (9, .int se9), (8, .int ix), (7, .int sa), (6, .int ta), (5, .int he), (3, .int (fb 2)), (0, .ref this), (1, .int w), (2, .int t)]) rfl fun ls hl => ?_
        refine lv_goto hx hb toX9_d259 (tgt := 163) (by decide) ?_
        exact ih _ _ _ _ _ _ _ _ hI hY_this hY_bk hY_se hY_lw hY_rd hY_wt hs_bk hs_se hs_lw hs_rd hs_wt hA_bk hA_se hA_lw hA_rd hA_wt (lv_sub hl [0, 1, 2, 3, 4, 5, 6, 7, 8, 9] rfl) (by first | assumption | omega) (by first | assumption | omega) (by first | assumption | omega) (by first | assumption | omega) (by first | assumption | omega) (by first | assumption | omega) (by first | assumption | omega) (by first | assumption | omega) (by first | assumption | omega) (by first | assumption | omega) (by first | assumption | omega) (fun s hs hE hlt => by
                              by_cases e9 : s % 1024 = to.toInt.toNat
                              · first
                                | (exfalso
                                   have hLs := (m_tN_T.mp hE.1).2
                                   rw [e9, ← hgl _ (by omega)] at hLs
                                   unfold m_gl at hLs
                                   rw [hg_e178, decide_eq_true (show e178 = 0 by assumption)] at hLs
                                   cases hLs)
                                | (exfalso
                                   rcases hE.2.1 with h8 | h8
                                   · exact absurd (show to = se9 from Int32.toInt_inj.mp (by omega)) (by assumption)
                                   · unfold m_st at h8
                                     rw [hse9, e9, m_nj hto.1] at h8
                                     exact hns_r193 (by assumption) h8)
                                | (have h8 := hE.2.2
                                   rw [e9] at h8
                                   rw [show s = z214.toInt.toNat by omega]
                                   have h6 : ¬ (ff z214.toInt.toNat).toInt = -1 := by rw [hg_e223]; omega
                                   refine ⟨h6, ?_⟩
                                   obtain ⟨j, j1, j2⟩ := hqu.2.2.2 z214.toInt.toNat (by omega) h6
                                   have h5 := hqt j j1
                                   rw [j2] at h5
                                   exact h5)
                              · exact hnx s hs hE (by omega)) (by omega)
      · have q179_ : ¬ e178.toInt = (0 : Int32).toInt := fun q => q179 (Int32.toInt_inj.mp q)
        refine lv_iload hx hb toX9_d182 (lv_at hl 0 rfl) ?_
        refine lv_iload hx hb toX9_d184 (lv_at hl 1 rfl) ?_
        refine lv_icmp_eq hx hb toX9_d186 (tgt := 199) (by decide) (fun q186 => ?_) (fun q186 => ?_)
        · have q186_ : to.toInt = se9.toInt := by rw [q186]
          refine lv_sipush hx hb toX9_d199 (v := 1024) (by decide) ?_
          have ec1024 : (1024 : Int32).toInt = 1024 := by decide
          refine lv_aload_n hx hb toX9_d202 rfl (lv_at hl 7 rfl) ?_
          refine lv_iload hx hb toX9_d203 (lv_at hl 0 rfl) ?_
          refine lv_iload_n hx hb toX9_d205 rfl (lv_at hl 9 rfl) ?_
          refine lv_iload hx hb toX9_d206 (lv_at hl 2 rfl) ?_
          refine y_call (z := (0, 272, 4, some 17, xM211)) (av := [.ref this, .int to, .int t, .int ix]) (rest := [.int (1024 : Int32)]) (y_cokV (n := 3) (ci := 12) X ym_readOn rfl rfl rfl (x_cons (x_bw84 1 rfl rfl) (x_cons (x_bw84 3 rfl rfl) (x_cons (x_at 58 (by decide +kernel) rfl) (x_cons (x_bw0 9 rfl rfl) x_nilm)))) (x_bw84 4 rfl rfl) (by decide +kernel) ⟨Nat.le_of_ble_eq_true rfl, Nat.le_of_ble_eq_true rfl⟩) hY0 hI rfl toX9_d208 hl.1 (Nat.le_of_ble_eq_true rfl) (Nat.le_of_ble_eq_true rfl) (Nat.le_of_ble_eq_true rfl) (y_cons (y_cref hY_this rfl) (y_cons ⟨_, rfl, x_i32 _⟩ (y_cons ⟨_, rfl, by show (0 : Int) ≤ _; omega, by show _ ≤ (9 : Int); omega⟩ (y_cons ⟨_, rfl, by show (0 : Int) ≤ _; omega, by show _ ≤ (8 : Int); omega⟩ y_nil)))) rfl (y_recv rfl hY_this) trivial (y_sub_ef rfl) fun v Yn o Hn L ho hr ha hIn hx_ hE hP => ?_
          have hPr := hP _ _ _ _ _ _ _ _ rfl hs_bk hA_bk hs_se hA_se
          replace hs_bk := y_Efld hE hY_this rfl (by decide) (by decide) hs_bk
          replace hs_se := y_Efld hE hY_this rfl (by decide) (by decide) hs_se
          replace hs_lw := y_Efld hE hY_this rfl (by decide) (by decide) hs_lw
          replace hs_rd := y_Efld hE hY_this rfl (by decide) (by decide) hs_rd
          replace hs_wt := y_Efld hE hY_this rfl (by decide) (by decide) hs_wt
          replace hA_bk := hA_bk.kept (y_Earr hE hY_bk rfl (by decide))
          replace hA_se := hA_se.kept (y_Earr hE hY_se rfl (by decide))
          replace hA_lw := hA_lw.kept (y_Earr hE hY_lw rfl (by decide))
          replace hA_rd := hA_rd.kept (y_Earr hE hY_rd rfl (by decide))
          replace hA_wt := hA_wt.kept (y_Earr hE hY_wt rfl (by decide))
          replace hY_this := y_ext hx_ hI.1 hY_this
          replace hY_bk := y_ext hx_ hI.1 hY_bk
          replace hY_se := y_ext hx_ hI.1 hY_se
          replace hY_lw := y_ext hx_ hI.1 hY_lw
          replace hY_rd := y_ext hx_ hI.1 hY_rd
          replace hY_wt := y_ext hx_ hI.1 hY_wt
          obtain ⟨r208, rfl, h_r208⟩ := y_ansI (lo := 0) (hi := 8) (by decide) ho hr
          have hg_r208 : m_rnR fb fs to t ix = r208 := by cases hPr; rfl
          clear ho hr ha hE hP hI hx_
          rename x_I _ _ _ _ _ _ _ _ _ _ => hI
          refine lv_imul hx hb toX9_d211 ?_
          generalize hg_z211 : (1024 : Int32) * r208 = z211
          have h_z211 : z211.toInt = 1024 * r208.toInt := by rw [← hg_z211]; have := y_mul (x := (1024 : Int32)) (y := r208) (by rw [ec1024]; omega) (by rw [ec1024]; omega); rw [ec1024] at this; exact this
          refine lv_iload hx hb toX9_d212 (lv_at hl 0 rfl) ?_
          refine lv_iadd hx hb toX9_d214 ?_
          generalize hg_z214 : z211 + to = z214
          have h_z214 : z214.toInt = z211.toInt + to.toInt := by rw [← hg_z214]; have := y_add (x := z211) (y := to) (by omega) (by omega); exact this
          have hr9 : r208.toInt = ((m_rdn fb (m_tw (m_VR fb (fb 4) (fb 5)) t) to.toInt.toNat (sa.toInt.toNat / 1024) : Nat) : Int) := by have h1 := m_rd_le1 (f := fb) (sn := (m_tw (m_VR fb (fb 4) (fb 5)) t)) (w := to.toInt.toNat) (i := sa.toInt.toNat / 1024); rw [← hg_r208, m_rnR_eq (by omega) (by omega), htw, show ix.toInt.toNat = sa.toInt.toNat / 1024 by omega, nI_toInt (by omega)]
          have hzb : 0 ≤ z214.toInt ∧ z214.toInt ≤ 9215 := by omega
          have en1 : z214.toInt.toNat % 1024 = to.toInt.toNat := by omega
          have en2 : z214.toInt.toNat / 1024 = r208.toInt.toNat := by omega
          have hLt : (m_LR (m_VR fb (fb 4) (fb 5)) (fb 0).toInt.toNat) to.toInt.toNat = true := by rw [← hgl _ (by omega)]; unfold m_gl; rw [hg_e178, decide_eq_false (show ¬ e178 = 0 by assumption)]; rfl
          have hE9 : (m_tE (m_tN (m_LR (m_VR fb (fb 4) (fb 5)) (fb 0).toInt.toNat) (2 ^ (fb 0).toInt.toNat)) (m_rdn fb (m_tw (m_VR fb (fb 4) (fb 5)) t))) sa.toInt.toNat z214.toInt.toNat := by unfold m_tE; rw [en1, en2]; refine ⟨m_tN_T.mpr ⟨by omega, hLt⟩, ?_, by omega⟩; first | exact Or.inl (by have h9 := congrArg Int32.toInt (show to = se9 by assumption); omega) | (refine Or.inr ?_; unfold m_st; rw [hse9, m_nj hto.1]; exact hst_r193 (by assumption))
          refine lv_istore hx hb toX9_d215 hl (by decide) (lv' := [(11, .int z214), (10, .int to), (9, .int se9), (8, .int ix), (7, .int sa), (6, .int ta), (5, .int he), (3, .int (fb 2)), (0, .ref this), (1, .int w), (2, .int t)]) rfl fun ls hl => ?_
          refine lv_aload_n hx hb toX9_d217 rfl (lv_at hl 8 rfl) ?_
          refine y_getf X (fl_toX9_240 X.2.2.2.2.1) hI.1 hY_this rfl hs_rd toX9_d218 ?_
          refine lv_iload hx hb toX9_d221 (lv_at hl 0 rfl) ?_
          refine y_iald X hI.1 hY_rd rfl hA_rd (by omega) (by show _ < (9216 : Int); omega) toX9_d223 ?_
          obtain ⟨e223, hg_e223⟩ : ∃ e223 : Int32, ff z214.toInt.toNat = e223 := ⟨_, rfl⟩
          rw [hg_e223]
          refine lv_iconst hx hb toX9_d224 (v := (-1)) (by decide) ?_
          have ecm1 : ((-1) : Int32).toInt = (-1) := by decide
          refine lv_icmp_ne hx hb toX9_d225 (tgt := 256) (by decide) (fun q225 => ?_) (fun q225 => ?_)
          · have q225_ : ¬ e223.toInt = ((-1) : Int32).toInt := fun q => q225 (Int32.toInt_inj.mp q)
            obtain ⟨z256, hg_z256⟩ : ∃ z256 : Int32, to + Int32.ofInt 1 = z256 := ⟨_, rfl⟩
            have h_z256 : z256.toInt = to.toInt + 1 := by rw [← hg_z256]; exact y_inc (by decide) (by omega) (by omega)
            refine lv_iinc hx hb toX9_d256 hl (k := 1) rfl hg_z256 (by decide) (lv' := [(10, .int z256), (11, .int z214), (9, .int se9), (8, .int ix), (7, .int sa), (6, .int ta), (5, .int he), (3, .int (fb 2)), (0, .ref this), (1, .int w), (2, .int t)]) rfl fun ls hl => ?_
            refine lv_goto hx hb toX9_d259 (tgt := 163) (by decide) ?_
            exact ih _ _ _ _ _ _ _ _ hI hY_this hY_bk hY_se hY_lw hY_rd hY_wt hs_bk hs_se hs_lw hs_rd hs_wt hA_bk hA_se hA_lw hA_rd hA_wt (lv_sub hl [0, 2, 3, 4, 5, 6, 7, 8, 9, 10] rfl) (by first | assumption | omega) (by first | assumption | omega) (by first | assumption | omega) (by first | assumption | omega) (by first | assumption | omega) (by first | assumption | omega) (by first | assumption | omega) (by first | assumption | omega) (by first | assumption | omega) (by first | assumption | omega) (by first | assumption | omega) (fun s hs hE hlt => by
                              by_cases e9 : s % 1024 = to.toInt.toNat
                              · first
                                | (exfalso
                                   have hLs := (m_tN_T.mp hE.1).2
                                   rw [e9, ← hgl _ (by omega)] at hLs
                                   unfold m_gl at hLs
                                   rw [hg_e178, decide_eq_true (show e178 = 0 by assumption)] at hLs
                                   cases hLs)
                                | (exfalso
                                   rcases hE.2.1 with h8 | h8
                                   · exact absurd (show to = se9 from Int32.toInt_inj.mp (by omega)) (by assumption)
                                   · unfold m_st at h8
                                     rw [hse9, e9, m_nj hto.1] at h8
                                     exact hns_r193 (by assumption) h8)
                                | (have h8 := hE.2.2
                                   rw [e9] at h8
                                   rw [show s = z214.toInt.toNat by omega]
                                   have h6 : ¬ (ff z214.toInt.toNat).toInt = -1 := by rw [hg_e223]; omega
                                   refine ⟨h6, ?_⟩
                                   obtain ⟨j, j1, j2⟩ := hqu.2.2.2 z214.toInt.toNat (by omega) h6
                                   have h5 := hqt j j1
                                   rw [j2] at h5
                                   exact h5)
                              · exact hnx s hs hE (by omega)) (by omega)
          · have q225_ : e223.toInt = ((-1) : Int32).toInt := by rw [q225]
            have hm : (ff z214.toInt.toNat).toInt = -1 := by rw [hg_e223]; omega
            have hroom := z_cnt_lt hm 9216 (by omega)
            refine lv_aload_n hx hb toX9_d228 rfl (lv_at hl 8 rfl) ?_
            refine y_getf X (fl_toX9_240 X.2.2.2.2.1) hI.1 hY_this rfl hs_rd toX9_d229 ?_
            refine lv_iload hx hb toX9_d232 (lv_at hl 0 rfl) ?_
            refine lv_aload_n hx hb toX9_d234 rfl (lv_at hl 8 rfl) ?_
            refine y_getf X (fl_toX9_240 X.2.2.2.2.1) hI.1 hY_this rfl hs_rd toX9_d235 ?_
            refine lv_iload hx hb toX9_d238 (lv_at hl 4 rfl) ?_
            refine y_iald X hI.1 hY_rd rfl hA_rd (by omega) (by show _ < (9216 : Int); omega) toX9_d240 ?_
            obtain ⟨e240, hg_e240⟩ : ∃ e240 : Int32, ff sa.toInt.toNat = e240 := ⟨_, rfl⟩
            rw [hg_e240]
            have hF9 : (ff sa.toInt.toNat).toInt = e240.toInt := by rw [hg_e240]
            refine lv_iconst hx hb toX9_d241 (v := 1) (by decide) ?_
            have ec1 : (1 : Int32).toInt = 1 := by decide
            refine lv_iadd hx hb toX9_d242 ?_
            generalize hg_z242 : e240 + (1 : Int32) = z242
            have h_z242 : z242.toInt = e240.toInt + 1 := by rw [← hg_z242]; have := y_add (x := e240) (y := (1 : Int32)) (by rw [ec1]; omega) (by rw [ec1]; omega); rw [ec1] at this; exact this
            refine y_iast X hY0 hI hY_rd rfl hA_rd (by omega) (by show _ < (9216 : Int); omega) ⟨_, rfl, x_i32 _⟩ (by decide +kernel) toX9_d243 fun H locs hI h_new ho => ?_
            replace hA_rd := h_new
            generalize hf_f243 : y_up ff z214.toInt.toNat z242 = f243 at hA_rd
            replace hs_bk := y_slk hs_bk (ho _ (y_ne hY_this hY_rd rfl))
            replace hs_se := y_slk hs_se (ho _ (y_ne hY_this hY_rd rfl))
            replace hs_lw := y_slk hs_lw (ho _ (y_ne hY_this hY_rd rfl))
            replace hs_rd := y_slk hs_rd (ho _ (y_ne hY_this hY_rd rfl))
            replace hs_wt := y_slk hs_wt (ho _ (y_ne hY_this hY_rd rfl))
            replace hA_bk := hA_bk.kept (ho _ (y_ne hY_bk hY_rd rfl))
            replace hA_se := hA_se.kept (ho _ (y_ne hY_se hY_rd rfl))
            replace hA_lw := hA_lw.kept (ho _ (y_ne hY_lw hY_rd rfl))
            replace hA_wt := hA_wt.kept (ho _ (y_ne hY_wt hY_rd rfl))
            refine lv_aload_n hx hb toX9_d244 rfl (lv_at hl 8 rfl) ?_
            refine y_getf X (fl_toX9_241 X.2.2.2.2.1) hI.1 hY_this rfl hs_wt toX9_d245 ?_
            refine lv_iload hx hb toX9_d248 (lv_at hl 5 rfl) ?_
            refine lv_iload hx hb toX9_d250 (lv_at hl 0 rfl) ?_
            refine y_iast X hY0 hI hY_wt rfl hA_wt (by omega) (by show _ < (9216 : Int); omega) ⟨_, rfl, by show (0 : Int) ≤ _; omega, by show _ ≤ (9215 : Int); omega⟩ (by decide +kernel) toX9_d252 fun H locs hI h_new ho => ?_
            replace hA_wt := h_new
            replace hB_wt := y_upb (i := ta.toInt.toNat) (v := z214) hB_wt (by constructor <;> omega)
            generalize hf_f252 : y_up qq ta.toInt.toNat z214 = f252 at hA_wt hB_wt
            replace hs_bk := y_slk hs_bk (ho _ (y_ne hY_this hY_wt rfl))
            replace hs_se := y_slk hs_se (ho _ (y_ne hY_this hY_wt rfl))
            replace hs_lw := y_slk hs_lw (ho _ (y_ne hY_this hY_wt rfl))
            replace hs_rd := y_slk hs_rd (ho _ (y_ne hY_this hY_wt rfl))
            replace hs_wt := y_slk hs_wt (ho _ (y_ne hY_this hY_wt rfl))
            replace hA_bk := hA_bk.kept (ho _ (y_ne hY_bk hY_wt rfl))
            replace hA_se := hA_se.kept (ho _ (y_ne hY_se hY_wt rfl))
            replace hA_lw := hA_lw.kept (ho _ (y_ne hY_lw hY_wt rfl))
            replace hA_rd := hA_rd.kept (ho _ (y_ne hY_rd hY_wt rfl))
            obtain ⟨z253, hg_z253⟩ : ∃ z253 : Int32, ta + Int32.ofInt 1 = z253 := ⟨_, rfl⟩
            have h_z253 : z253.toInt = ta.toInt + 1 := by rw [← hg_z253]; exact y_inc (by decide) (by omega) (by omega)
            refine lv_iinc hx hb toX9_d253 hl (k := 5) rfl hg_z253 (by decide) (lv' := [(6, .int z253), (11, .int z214), (10, .int to), (9, .int se9), (8, .int ix), (7, .int sa), (5, .int he), (3, .int (fb 2)), (0, .ref this), (1, .int w), (2, .int t)]) rfl fun ls hl => ?_
            obtain ⟨z256, hg_z256⟩ : ∃ z256 : Int32, to + Int32.ofInt 1 = z256 := ⟨_, rfl⟩
            have h_z256 : z256.toInt = to.toInt + 1 := by rw [← hg_z256]; exact y_inc (by decide) (by omega) (by omega)
            refine lv_iinc hx hb toX9_d256 hl (k := 2) rfl hg_z256 (by decide) (lv' := [(10, .int z256), (6, .int z253), (11, .int z214), (9, .int se9), (8, .int ix), (7, .int sa), (5, .int he), (3, .int (fb 2)), (0, .ref this), (1, .int w), (2, .int t)]) rfl fun ls hl => ?_
            refine lv_goto hx hb toX9_d259 (tgt := 163) (by decide) ?_
            have hv9 : z242.toInt = (ff sa.toInt.toNat).toInt + 1 := by omega
            have hne9 : sa.toInt.toNat ≠ z214.toInt.toNat := fun e9 => by have h7 := hsq.2.2.2; rw [e9] at h7; omega
            have hN1 := hb1.push (s := z214.toInt.toNat) hsq.2.1 hE9 hsq.2.2.2 hm hv9
            have hN2 := hqu.push hqt (show z214.toInt.toNat < 9216 by omega) rfl (show z214.toInt = (z214.toInt.toNat : Int) by omega) hm hv9 hsq.2.2.2
            have hN3 := z_cnt_up hm (show ¬ z242.toInt = -1 by omega) 9216 (by omega)
            have hN4 := hqb.push hqu (show z214.toInt = (z214.toInt.toNat : Int) by omega) hm (show z242.toInt ≤ (ta.toInt.toNat : Int) by omega)
            have hit : z253.toInt.toNat = ta.toInt.toNat + 1 := by omega
            have hN5 : f243 sa.toInt.toNat = ff sa.toInt.toNat := by rw [← hf_f243, y_up_ne hne9]
            rw [hf_f243] at hN1 hN2 hN3 hN4
            rw [hf_f252] at hN2 hN4
            have hqe : ∀ j : Nat, (j : Int) < ta.toInt → f252 j = qq j := fun j hj => by rw [← hf_f252, y_up_ne (show j ≠ ta.toInt.toNat by omega)]
            exact ih _ _ _ _ _ _ _ _ hI hY_this hY_bk hY_se hY_lw hY_rd hY_wt hs_bk hs_se hs_lw hs_rd hs_wt hA_bk hA_se hA_lw hA_rd hA_wt (lv_sub hl [0, 3, 4, 5, 1, 6, 7, 8, 9, 10] rfl) (by first | assumption | omega) (by first | assumption | omega) (by first | assumption | omega) (by omega) hN1 (by rw [hit]; exact hN2.1) (by rw [hit]; exact hN4) (fun j hj => by rw [hqe j (by omega)]; exact hng j hj) (by rw [hqe _ (by omega)]; exact hset) (by rw [hit, hN5]; exact hN2.2) (fun j hj => by rw [hqe j (by omega), ← hf_f243]; exact (hcl j hj).push (fun e9 => by have h8 := (hqu.2.1 j (by omega)).2.2.2; rw [e9] at h8; omega) hm) (fun s hs hE hlt => by
                              rw [hN5]
                              by_cases e9 : s % 1024 = to.toInt.toNat
                              · have h8 := hE.2.2
                                rw [e9] at h8
                                rw [show s = z214.toInt.toNat by omega, ← hf_f243, y_up_at]
                                omega
                              · rw [← hf_f243, y_up_ne (fun e8 => e9 (by rw [e8]; exact en1))]
                                exact hnx s hs hE (by omega)) (by omega)
        · have q186_ : ¬ to.toInt = se9.toInt := fun q => q186 (Int32.toInt_inj.mp q)
          refine lv_iload hx hb toX9_d189 (lv_at hl 1 rfl) ?_
          refine lv_iload hx hb toX9_d191 (lv_at hl 0 rfl) ?_
          refine y_call (z := (1, 257, 2, none, xM205)) (av := [.int se9, .int to]) (rest := []) (y_cokS (n := 2) X ym_isStep (x_cons (x_bw82 1 rfl rfl) (x_cons (x_bw82 2 rfl rfl) (x_cons (x_bw0 9 rfl rfl) x_nilm))) (x_bw82 3 rfl rfl) (by decide +kernel) ⟨Nat.le_of_ble_eq_true rfl, Nat.le_of_ble_eq_true rfl⟩) hY0 hI rfl toX9_d193 hl.1 (Nat.le_of_ble_eq_true rfl) (Nat.le_of_ble_eq_true rfl) (Nat.le_of_ble_eq_true rfl) (y_cons ⟨_, rfl, x_i32 _⟩ (y_cons ⟨_, rfl, x_i32 _⟩ y_nil)) rfl (y_norecv rfl) trivial (y_sub_ef rfl) fun v Yn o Hn L ho hr ha hIn hx_ hE hP => ?_
          replace hs_bk := y_Efld hE hY_this rfl (by decide) (by decide) hs_bk
          replace hs_se := y_Efld hE hY_this rfl (by decide) (by decide) hs_se
          replace hs_lw := y_Efld hE hY_this rfl (by decide) (by decide) hs_lw
          replace hs_rd := y_Efld hE hY_this rfl (by decide) (by decide) hs_rd
          replace hs_wt := y_Efld hE hY_this rfl (by decide) (by decide) hs_wt
          replace hA_bk := hA_bk.kept (y_Earr hE hY_bk rfl (by decide))
          replace hA_se := hA_se.kept (y_Earr hE hY_se rfl (by decide))
          replace hA_lw := hA_lw.kept (y_Earr hE hY_lw rfl (by decide))
          replace hA_rd := hA_rd.kept (y_Earr hE hY_rd rfl (by decide))
          replace hA_wt := hA_wt.kept (y_Earr hE hY_wt rfl (by decide))
          replace hY_this := y_ext hx_ hI.1 hY_this
          replace hY_bk := y_ext hx_ hI.1 hY_bk
          replace hY_se := y_ext hx_ hI.1 hY_se
          replace hY_lw := y_ext hx_ hI.1 hY_lw
          replace hY_rd := y_ext hx_ hI.1 hY_rd
          replace hY_wt := y_ext hx_ hI.1 hY_wt
          obtain ⟨r193, rfl, hst_r193, hns_r193⟩ : ∃ r : Int32, v = some (.int r) ∧ (¬ r = 0 → z_step se9 to) ∧ (r = 0 → ¬ z_step se9 to) := z_stepR (hP _ _ rfl)
          clear ho hr ha hE hP hI hx_
          rename x_I _ _ _ _ _ _ _ _ _ _ => hI
          refine lv_if_eq hx hb toX9_d196 (tgt := 256) (by decide) (fun q196 => ?_) (fun q196 => ?_)
          · have q196_ : r193.toInt = (0 : Int32).toInt := by rw [q196]
            obtain ⟨z256, hg_z256⟩ : ∃ z256 : Int32, to + Int32.ofInt 1 = z256 := ⟨_, rfl⟩
            have h_z256 : z256.toInt = to.toInt + 1 := by rw [← hg_z256]; exact y_inc (by decide) (by omega) (by omega)
            refine lv_iinc hx hb toX9_d256 hl (k := 0) rfl hg_z256 (by decide) (lv' := [(10, .int z256), (9, .int se9), (8, .int ix), (7, .int sa), (6, .int ta), (5, .int he), (3, .int (fb 2)), (0, .ref this), (1, .int w), (2, .int t)]) rfl fun ls hl => ?_
            refine lv_goto hx hb toX9_d259 (tgt := 163) (by decide) ?_
            exact ih _ _ _ _ _ _ _ _ hI hY_this hY_bk hY_se hY_lw hY_rd hY_wt hs_bk hs_se hs_lw hs_rd hs_wt hA_bk hA_se hA_lw hA_rd hA_wt (lv_sub hl [0, 1, 2, 3, 4, 5, 6, 7, 8, 9] rfl) (by first | assumption | omega) (by first | assumption | omega) (by first | assumption | omega) (by first | assumption | omega) (by first | assumption | omega) (by first | assumption | omega) (by first | assumption | omega) (by first | assumption | omega) (by first | assumption | omega) (by first | assumption | omega) (by first | assumption | omega) (fun s hs hE hlt => by
                              by_cases e9 : s % 1024 = to.toInt.toNat
                              · first
                                | (exfalso
                                   have hLs := (m_tN_T.mp hE.1).2
                                   rw [e9, ← hgl _ (by omega)] at hLs
                                   unfold m_gl at hLs
                                   rw [hg_e178, decide_eq_true (show e178 = 0 by assumption)] at hLs
                                   cases hLs)
                                | (exfalso
                                   rcases hE.2.1 with h8 | h8
                                   · exact absurd (show to = se9 from Int32.toInt_inj.mp (by omega)) (by assumption)
                                   · unfold m_st at h8
                                     rw [hse9, e9, m_nj hto.1] at h8
                                     exact hns_r193 (by assumption) h8)
                                | (have h8 := hE.2.2
                                   rw [e9] at h8
                                   rw [show s = z214.toInt.toNat by omega]
                                   have h6 : ¬ (ff z214.toInt.toNat).toInt = -1 := by rw [hg_e223]; omega
                                   refine ⟨h6, ?_⟩
                                   obtain ⟨j, j1, j2⟩ := hqu.2.2.2 z214.toInt.toNat (by omega) h6
                                   have h5 := hqt j j1
                                   rw [j2] at h5
                                   exact h5)
                              · exact hnx s hs hE (by omega)) (by omega)
          · have q196_ : ¬ r193.toInt = (0 : Int32).toInt := fun q => q196 (Int32.toInt_inj.mp q)
            refine lv_sipush hx hb toX9_d199 (v := 1024) (by decide) ?_
            have ec1024 : (1024 : Int32).toInt = 1024 := by decide
            refine lv_aload_n hx hb toX9_d202 rfl (lv_at hl 7 rfl) ?_
            refine lv_iload hx hb toX9_d203 (lv_at hl 0 rfl) ?_
            refine lv_iload_n hx hb toX9_d205 rfl (lv_at hl 9 rfl) ?_
            refine lv_iload hx hb toX9_d206 (lv_at hl 2 rfl) ?_
            refine y_call (z := (0, 272, 4, some 17, xM211)) (av := [.ref this, .int to, .int t, .int ix]) (rest := [.int (1024 : Int32)]) (y_cokV (n := 3) (ci := 12) X ym_readOn rfl rfl rfl (x_cons (x_bw84 1 rfl rfl) (x_cons (x_bw84 3 rfl rfl) (x_cons (x_at 58 (by decide +kernel) rfl) (x_cons (x_bw0 9 rfl rfl) x_nilm)))) (x_bw84 4 rfl rfl) (by decide +kernel) ⟨Nat.le_of_ble_eq_true rfl, Nat.le_of_ble_eq_true rfl⟩) hY0 hI rfl toX9_d208 hl.1 (Nat.le_of_ble_eq_true rfl) (Nat.le_of_ble_eq_true rfl) (Nat.le_of_ble_eq_true rfl) (y_cons (y_cref hY_this rfl) (y_cons ⟨_, rfl, x_i32 _⟩ (y_cons ⟨_, rfl, by show (0 : Int) ≤ _; omega, by show _ ≤ (9 : Int); omega⟩ (y_cons ⟨_, rfl, by show (0 : Int) ≤ _; omega, by show _ ≤ (8 : Int); omega⟩ y_nil)))) rfl (y_recv rfl hY_this) trivial (y_sub_ef rfl) fun v Yn o Hn L ho hr ha hIn hx_ hE hP => ?_
            have hPr := hP _ _ _ _ _ _ _ _ rfl hs_bk hA_bk hs_se hA_se
            replace hs_bk := y_Efld hE hY_this rfl (by decide) (by decide) hs_bk
            replace hs_se := y_Efld hE hY_this rfl (by decide) (by decide) hs_se
            replace hs_lw := y_Efld hE hY_this rfl (by decide) (by decide) hs_lw
            replace hs_rd := y_Efld hE hY_this rfl (by decide) (by decide) hs_rd
            replace hs_wt := y_Efld hE hY_this rfl (by decide) (by decide) hs_wt
            replace hA_bk := hA_bk.kept (y_Earr hE hY_bk rfl (by decide))
            replace hA_se := hA_se.kept (y_Earr hE hY_se rfl (by decide))
            replace hA_lw := hA_lw.kept (y_Earr hE hY_lw rfl (by decide))
            replace hA_rd := hA_rd.kept (y_Earr hE hY_rd rfl (by decide))
            replace hA_wt := hA_wt.kept (y_Earr hE hY_wt rfl (by decide))
            replace hY_this := y_ext hx_ hI.1 hY_this
            replace hY_bk := y_ext hx_ hI.1 hY_bk
            replace hY_se := y_ext hx_ hI.1 hY_se
            replace hY_lw := y_ext hx_ hI.1 hY_lw
            replace hY_rd := y_ext hx_ hI.1 hY_rd
            replace hY_wt := y_ext hx_ hI.1 hY_wt
            obtain ⟨r208, rfl, h_r208⟩ := y_ansI (lo := 0) (hi := 8) (by decide) ho hr
            have hg_r208 : m_rnR fb fs to t ix = r208 := by cases hPr; rfl
            clear ho hr ha hE hP hI hx_
            rename x_I _ _ _ _ _ _ _ _ _ _ => hI
            refine lv_imul hx hb toX9_d211 ?_
            generalize hg_z211 : (1024 : Int32) * r208 = z211
            have h_z211 : z211.toInt = 1024 * r208.toInt := by rw [← hg_z211]; have := y_mul (x := (1024 : Int32)) (y := r208) (by rw [ec1024]; omega) (by rw [ec1024]; omega); rw [ec1024] at this; exact this
            refine lv_iload hx hb toX9_d212 (lv_at hl 0 rfl) ?_
            refine lv_iadd hx hb toX9_d214 ?_
            generalize hg_z214 : z211 + to = z214
            have h_z214 : z214.toInt = z211.toInt + to.toInt := by rw [← hg_z214]; have := y_add (x := z211) (y := to) (by omega) (by omega); exact this
            have hr9 : r208.toInt = ((m_rdn fb (m_tw (m_VR fb (fb 4) (fb 5)) t) to.toInt.toNat (sa.toInt.toNat / 1024) : Nat) : Int) := by have h1 := m_rd_le1 (f := fb) (sn := (m_tw (m_VR fb (fb 4) (fb 5)) t)) (w := to.toInt.toNat) (i := sa.toInt.toNat / 1024); rw [← hg_r208, m_rnR_eq (by omega) (by omega), htw, show ix.toInt.toNat = sa.toInt.toNat / 1024 by omega, nI_toInt (by omega)]
            have hzb : 0 ≤ z214.toInt ∧ z214.toInt ≤ 9215 := by omega
            have en1 : z214.toInt.toNat % 1024 = to.toInt.toNat := by omega
            have en2 : z214.toInt.toNat / 1024 = r208.toInt.toNat := by omega
            have hLt : (m_LR (m_VR fb (fb 4) (fb 5)) (fb 0).toInt.toNat) to.toInt.toNat = true := by rw [← hgl _ (by omega)]; unfold m_gl; rw [hg_e178, decide_eq_false (show ¬ e178 = 0 by assumption)]; rfl
            have hE9 : (m_tE (m_tN (m_LR (m_VR fb (fb 4) (fb 5)) (fb 0).toInt.toNat) (2 ^ (fb 0).toInt.toNat)) (m_rdn fb (m_tw (m_VR fb (fb 4) (fb 5)) t))) sa.toInt.toNat z214.toInt.toNat := by unfold m_tE; rw [en1, en2]; refine ⟨m_tN_T.mpr ⟨by omega, hLt⟩, ?_, by omega⟩; first | exact Or.inl (by have h9 := congrArg Int32.toInt (show to = se9 by assumption); omega) | (refine Or.inr ?_; unfold m_st; rw [hse9, m_nj hto.1]; exact hst_r193 (by assumption))
            refine lv_istore hx hb toX9_d215 hl (by decide) (lv' := [(11, .int z214), (10, .int to), (9, .int se9), (8, .int ix), (7, .int sa), (6, .int ta), (5, .int he), (3, .int (fb 2)), (0, .ref this), (1, .int w), (2, .int t)]) rfl fun ls hl => ?_
            refine lv_aload_n hx hb toX9_d217 rfl (lv_at hl 8 rfl) ?_
            refine y_getf X (fl_toX9_240 X.2.2.2.2.1) hI.1 hY_this rfl hs_rd toX9_d218 ?_
            refine lv_iload hx hb toX9_d221 (lv_at hl 0 rfl) ?_
            refine y_iald X hI.1 hY_rd rfl hA_rd (by omega) (by show _ < (9216 : Int); omega) toX9_d223 ?_
            obtain ⟨e223, hg_e223⟩ : ∃ e223 : Int32, ff z214.toInt.toNat = e223 := ⟨_, rfl⟩
            rw [hg_e223]
            refine lv_iconst hx hb toX9_d224 (v := (-1)) (by decide) ?_
            have ecm1 : ((-1) : Int32).toInt = (-1) := by decide
            refine lv_icmp_ne hx hb toX9_d225 (tgt := 256) (by decide) (fun q225 => ?_) (fun q225 => ?_)
            · have q225_ : ¬ e223.toInt = ((-1) : Int32).toInt := fun q => q225 (Int32.toInt_inj.mp q)
              obtain ⟨z256, hg_z256⟩ : ∃ z256 : Int32, to + Int32.ofInt 1 = z256 := ⟨_, rfl⟩
              have h_z256 : z256.toInt = to.toInt + 1 := by rw [← hg_z256]; exact y_inc (by decide) (by omega) (by omega)
              refine lv_iinc hx hb toX9_d256 hl (k := 1) rfl hg_z256 (by decide) (lv' := [(10, .int z256), (11, .int z214), (9, .int se9), (8, .int ix), (7, .int sa), (6, .int ta), (5, .int he), (3, .int (fb 2)), (0, .ref this), (1, .int w), (2, .int t)]) rfl fun ls hl => ?_
              refine lv_goto hx hb toX9_d259 (tgt := 163) (by decide) ?_
              exact ih _ _ _ _ _ _ _ _ hI hY_this hY_bk hY_se hY_lw hY_rd hY_wt hs_bk hs_se hs_lw hs_rd hs_wt hA_bk hA_se hA_lw hA_rd hA_wt (lv_sub hl [0, 2, 3, 4, 5, 6, 7, 8, 9, 10] rfl) (by first | assumption | omega) (by first | assumption | omega) (by first | assumption | omega) (by first | assumption | omega) (by first | assumption | omega) (by first | assumption | omega) (by first | assumption | omega) (by first | assumption | omega) (by first | assumption | omega) (by first | assumption | omega) (by first | assumption | omega) (fun s hs hE hlt => by
                              by_cases e9 : s % 1024 = to.toInt.toNat
                              · first
                                | (exfalso
                                   have hLs := (m_tN_T.mp hE.1).2
                                   rw [e9, ← hgl _ (by omega)] at hLs
                                   unfold m_gl at hLs
                                   rw [hg_e178, decide_eq_true (show e178 = 0 by assumption)] at hLs
                                   cases hLs)
                                | (exfalso
                                   rcases hE.2.1 with h8 | h8
                                   · exact absurd (show to = se9 from Int32.toInt_inj.mp (by omega)) (by assumption)
                                   · unfold m_st at h8
                                     rw [hse9, e9, m_nj hto.1] at h8
                                     exact hns_r193 (by assumption) h8)
                                | (have h8 := hE.2.2
                                   rw [e9] at h8
                                   rw [show s = z214.toInt.toNat by omega]
                                   have h6 : ¬ (ff z214.toInt.toNat).toInt = -1 := by rw [hg_e223]; omega
                                   refine ⟨h6, ?_⟩
                                   obtain ⟨j, j1, j2⟩ := hqu.2.2.2 z214.toInt.toNat (by omega) h6
                                   have h5 := hqt j j1
                                   rw [j2] at h5
                                   exact h5)
                              · exact hnx s hs hE (by omega)) (by omega)
            · have q225_ : e223.toInt = ((-1) : Int32).toInt := by rw [q225]
              have hm : (ff z214.toInt.toNat).toInt = -1 := by rw [hg_e223]; omega
              have hroom := z_cnt_lt hm 9216 (by omega)
              refine lv_aload_n hx hb toX9_d228 rfl (lv_at hl 8 rfl) ?_
              refine y_getf X (fl_toX9_240 X.2.2.2.2.1) hI.1 hY_this rfl hs_rd toX9_d229 ?_
              refine lv_iload hx hb toX9_d232 (lv_at hl 0 rfl) ?_
              refine lv_aload_n hx hb toX9_d234 rfl (lv_at hl 8 rfl) ?_
              refine y_getf X (fl_toX9_240 X.2.2.2.2.1) hI.1 hY_this rfl hs_rd toX9_d235 ?_
              refine lv_iload hx hb toX9_d238 (lv_at hl 4 rfl) ?_
              refine y_iald X hI.1 hY_rd rfl hA_rd (by omega) (by show _ < (9216 : Int); omega) toX9_d240 ?_
              obtain ⟨e240, hg_e240⟩ : ∃ e240 : Int32, ff sa.toInt.toNat = e240 := ⟨_, rfl⟩
              rw [hg_e240]
              have hF9 : (ff sa.toInt.toNat).toInt = e240.toInt := by rw [hg_e240]
              refine lv_iconst hx hb toX9_d241 (v := 1) (by decide) ?_
              have ec1 : (1 : Int32).toInt = 1 := by decide
              refine lv_iadd hx hb toX9_d242 ?_
              generalize hg_z242 : e240 + (1 : Int32) = z242
              have h_z242 : z242.toInt = e240.toInt + 1 := by rw [← hg_z242]; have := y_add (x := e240) (y := (1 : Int32)) (by rw [ec1]; omega) (by rw [ec1]; omega); rw [ec1] at this; exact this
              refine y_iast X hY0 hI hY_rd rfl hA_rd (by omega) (by show _ < (9216 : Int); omega) ⟨_, rfl, x_i32 _⟩ (by decide +kernel) toX9_d243 fun H locs hI h_new ho => ?_
              replace hA_rd := h_new
              generalize hf_f243 : y_up ff z214.toInt.toNat z242 = f243 at hA_rd
              replace hs_bk := y_slk hs_bk (ho _ (y_ne hY_this hY_rd rfl))
              replace hs_se := y_slk hs_se (ho _ (y_ne hY_this hY_rd rfl))
              replace hs_lw := y_slk hs_lw (ho _ (y_ne hY_this hY_rd rfl))
              replace hs_rd := y_slk hs_rd (ho _ (y_ne hY_this hY_rd rfl))
              replace hs_wt := y_slk hs_wt (ho _ (y_ne hY_this hY_rd rfl))
              replace hA_bk := hA_bk.kept (ho _ (y_ne hY_bk hY_rd rfl))
              replace hA_se := hA_se.kept (ho _ (y_ne hY_se hY_rd rfl))
              replace hA_lw := hA_lw.kept (ho _ (y_ne hY_lw hY_rd rfl))
              replace hA_wt := hA_wt.kept (ho _ (y_ne hY_wt hY_rd rfl))
              refine lv_aload_n hx hb toX9_d244 rfl (lv_at hl 8 rfl) ?_
              refine y_getf X (fl_toX9_241 X.2.2.2.2.1) hI.1 hY_this rfl hs_wt toX9_d245 ?_
              refine lv_iload hx hb toX9_d248 (lv_at hl 5 rfl) ?_
              refine lv_iload hx hb toX9_d250 (lv_at hl 0 rfl) ?_
              refine y_iast X hY0 hI hY_wt rfl hA_wt (by omega) (by show _ < (9216 : Int); omega) ⟨_, rfl, by show (0 : Int) ≤ _; omega, by show _ ≤ (9215 : Int); omega⟩ (by decide +kernel) toX9_d252 fun H locs hI h_new ho => ?_
              replace hA_wt := h_new
              replace hB_wt := y_upb (i := ta.toInt.toNat) (v := z214) hB_wt (by constructor <;> omega)
              generalize hf_f252 : y_up qq ta.toInt.toNat z214 = f252 at hA_wt hB_wt
              replace hs_bk := y_slk hs_bk (ho _ (y_ne hY_this hY_wt rfl))
              replace hs_se := y_slk hs_se (ho _ (y_ne hY_this hY_wt rfl))
              replace hs_lw := y_slk hs_lw (ho _ (y_ne hY_this hY_wt rfl))
              replace hs_rd := y_slk hs_rd (ho _ (y_ne hY_this hY_wt rfl))
              replace hs_wt := y_slk hs_wt (ho _ (y_ne hY_this hY_wt rfl))
              replace hA_bk := hA_bk.kept (ho _ (y_ne hY_bk hY_wt rfl))
              replace hA_se := hA_se.kept (ho _ (y_ne hY_se hY_wt rfl))
              replace hA_lw := hA_lw.kept (ho _ (y_ne hY_lw hY_wt rfl))
              replace hA_rd := hA_rd.kept (ho _ (y_ne hY_rd hY_wt rfl))
              obtain ⟨z253, hg_z253⟩ : ∃ z253 : Int32, ta + Int32.ofInt 1 = z253 := ⟨_, rfl⟩
              have h_z253 : z253.toInt = ta.toInt + 1 := by rw [← hg_z253]; exact y_inc (by decide) (by omega) (by omega)
              refine lv_iinc hx hb toX9_d253 hl (k := 5) rfl hg_z253 (by decide) (lv' := [(6, .int z253), (11, .int z214), (10, .int to), (9, .int se9), (8, .int ix), (7, .int sa), (5, .int he), (3, .int (fb 2)), (0, .ref this), (1, .int w), (2, .int t)]) rfl fun ls hl => ?_
              obtain ⟨z256, hg_z256⟩ : ∃ z256 : Int32, to + Int32.ofInt 1 = z256 := ⟨_, rfl⟩
              have h_z256 : z256.toInt = to.toInt + 1 := by rw [← hg_z256]; exact y_inc (by decide) (by omega) (by omega)
              refine lv_iinc hx hb toX9_d256 hl (k := 2) rfl hg_z256 (by decide) (lv' := [(10, .int z256), (6, .int z253), (11, .int z214), (9, .int se9), (8, .int ix), (7, .int sa), (5, .int he), (3, .int (fb 2)), (0, .ref this), (1, .int w), (2, .int t)]) rfl fun ls hl => ?_
              refine lv_goto hx hb toX9_d259 (tgt := 163) (by decide) ?_
              have hv9 : z242.toInt = (ff sa.toInt.toNat).toInt + 1 := by omega
              have hne9 : sa.toInt.toNat ≠ z214.toInt.toNat := fun e9 => by have h7 := hsq.2.2.2; rw [e9] at h7; omega
              have hN1 := hb1.push (s := z214.toInt.toNat) hsq.2.1 hE9 hsq.2.2.2 hm hv9
              have hN2 := hqu.push hqt (show z214.toInt.toNat < 9216 by omega) rfl (show z214.toInt = (z214.toInt.toNat : Int) by omega) hm hv9 hsq.2.2.2
              have hN3 := z_cnt_up hm (show ¬ z242.toInt = -1 by omega) 9216 (by omega)
              have hN4 := hqb.push hqu (show z214.toInt = (z214.toInt.toNat : Int) by omega) hm (show z242.toInt ≤ (ta.toInt.toNat : Int) by omega)
              have hit : z253.toInt.toNat = ta.toInt.toNat + 1 := by omega
              have hN5 : f243 sa.toInt.toNat = ff sa.toInt.toNat := by rw [← hf_f243, y_up_ne hne9]
              rw [hf_f243] at hN1 hN2 hN3 hN4
              rw [hf_f252] at hN2 hN4
              have hqe : ∀ j : Nat, (j : Int) < ta.toInt → f252 j = qq j := fun j hj => by rw [← hf_f252, y_up_ne (show j ≠ ta.toInt.toNat by omega)]
              exact ih _ _ _ _ _ _ _ _ hI hY_this hY_bk hY_se hY_lw hY_rd hY_wt hs_bk hs_se hs_lw hs_rd hs_wt hA_bk hA_se hA_lw hA_rd hA_wt (lv_sub hl [0, 3, 4, 5, 1, 6, 7, 8, 9, 10] rfl) (by first | assumption | omega) (by first | assumption | omega) (by first | assumption | omega) (by omega) hN1 (by rw [hit]; exact hN2.1) (by rw [hit]; exact hN4) (fun j hj => by rw [hqe j (by omega)]; exact hng j hj) (by rw [hqe _ (by omega)]; exact hset) (by rw [hit, hN5]; exact hN2.2) (fun j hj => by rw [hqe j (by omega), ← hf_f243]; exact (hcl j hj).push (fun e9 => by have h8 := (hqu.2.1 j (by omega)).2.2.2; rw [e9] at h8; omega) hm) (fun s hs hE hlt => by
                              rw [hN5]
                              by_cases e9 : s % 1024 = to.toInt.toNat
                              · have h8 := hE.2.2
                                rw [e9] at h8
                                rw [show s = z214.toInt.toNat by omega, ← hf_f243, y_up_at]
                                omega
                              · rw [← hf_f243, y_up_ne (fun e8 => e9 (by rw [e8]; exact en1))]
                                exact hnx s hs hE (by omega)) (by omega)
theorem toX9_L111 {p : Program} {l : Launch} {e : Env} {s : State} {m : MethodId} {below : List Frame} {meth : Method} {c : Code} {D : va_G} {U : State} {Y0 : xY} {av : List Value} (B : y_B vwCl x_Tb x_Nb xMti p s m meth c D U Y0 av) {this bk se lw rd wt : Nat} {w t : Int32} {fb : Nat → Int32} (hav : av = [.ref this, .int w, .int t]) (hs0 : x_sl D 12 0 this s.heap = some (.ref bk)) (hA0 : y_A bk 160 s.heap fb) (hcn : z_c fb) (hd0 : 0 ≤ (fb 0).toInt ∧ (fb 0).toInt ≤ 10) (hd2 : 0 ≤ (fb 2).toInt ∧ (fb 2).toInt ≤ 8) (hok : m_isS fb w ∧ m_isH fb t) {gl fs : Nat → Int32} (hgl : ∀ s9, s9 < (2 ^ (fb 0).toInt.toNat) → m_gl gl s9 = (m_LR (m_VR fb (fb 4) (fb 5)) (fb 0).toInt.toNat) s9) (hVs : ∀ i, i < (fb 0).toInt.toNat → fs i = (m_VR fb (fb 4) (fb 5)) i) (hB_lw : ∀ j, j < 1024 → (0 : Int) ≤ (gl j).toInt ∧ (gl j).toInt ≤ 1) (hLw : (m_LR (m_VR fb (fb 4) (fb 5)) (fb 0).toInt.toNat) w.toInt.toNat = true) :
    ∀ (n : Nat), ∀ (H : Heap) (Y : xY) (locs : List Loc) (ls : Array Slot) (ta : Int32) (he : Int32) (ff qq : Nat → Int32), x_I D x_G x_Zs U (x_efs xMti) Y0 s.heap Y H locs → Y this = some 17 → Y bk = some 46 → Y se = some 51 → Y lw = some 55 → Y rd = some 62 → Y wt = some 63 → x_sl D 12 0 this H = some (.ref bk) → x_sl D 12 8 this H = some (.ref se) → x_sl D 12 18 this H = some (.ref lw) → x_sl D 12 25 this H = some (.ref rd) → x_sl D 12 26 this H = some (.ref wt) → y_A bk 160 H fb → y_A se 10 H fs → y_A lw 1024 H gl → y_A rd 9216 H ff → y_A wt 9216 H qq → lv_has ls xMti.2.2.1 [(6, .int ta), (5, .int he), (3, .int (fb 2)), (0, .ref this), (1, .int w), (2, .int t)] → (∀ j, j < 9216 → (0 : Int) ≤ (qq j).toInt ∧ (qq j).toInt ≤ 9215) → (0 ≤ he.toInt ∧ he.toInt ≤ ta.toInt) → (1 ≤ ta.toInt ∧ ta.toInt ≤ (z_cnt ff 9216 : Int)) → (m_B1 (m_tE (m_tN (m_LR (m_VR fb (fb 4) (fb 5)) (fb 0).toInt.toNat) (2 ^ (fb 0).toInt.toNat)) (m_rdn fb (m_tw (m_VR fb (fb 4) (fb 5)) t))) (m_st0 fb (m_tw (m_VR fb (fb 4) (fb 5)) t) w) 9216 ff) → (m_QU (fun _ => true) 9216 ff qq he.toInt.toNat ta.toInt.toNat) → (m_QB ff qq ta.toInt.toNat) → (∀ j : Nat, (j : Int) < he.toInt → ¬ (((qq j).toInt.toNat / 1024 : Nat) : Int) = (fb 2).toInt) → (he.toInt < ta.toInt → m_QT ff qq ta.toInt.toNat (ff (qq he.toInt.toNat).toInt.toNat).toInt) → (∀ j : Nat, (j : Int) < he.toInt → m_B2 (m_tE (m_tN (m_LR (m_VR fb (fb 4) (fb 5)) (fb 0).toInt.toNat) (2 ^ (fb 0).toInt.toNat)) (m_rdn fb (m_tw (m_VR fb (fb 4) (fb 5)) t))) 9216 ff (qq j).toInt.toNat) → (9217 - he.toInt).toNat < n → W p l e (x_rm xMti) s m av.toArray below meth c H locs 0 0 (y_QQ below D x_G x_Zs U xMti z_PMtold av Y0 s) (F0 m 111 ls []) := by
  have X := B.1
  have hx := X.1
  have hb := X.2.1
  have hY0 := B.2.2.2.2.1
  intro n
  induction n with
  | zero => intro _ _ _ _ _ _ _ _ _ _ _ _ _ _ _ _ _ _ _ _ _ _ _ _ _ _ _ _ _ _ _ _ _ _ _ h; exact absurd h (Nat.not_lt_zero _)
  | succ n ih =>
    intro H Y locs ls ta he ff qq hI hY_this hY_bk hY_se hY_lw hY_rd hY_wt hs_bk hs_se hs_lw hs_rd hs_wt hA_bk hA_se hA_lw hA_rd hA_wt hl hB_wt hh hcnt hb1 hqu hqb hng hqt hcl hn
    have hz9 := z_all_p hd0
    have hpw : (2 ^ (fb 0).toInt.toNat) ≤ 1024 := Nat.pow_le_pow_right (n := 2) (by decide) (show (fb 0).toInt.toNat ≤ 10 by omega)
    have hh9 := hok.2
    unfold m_isH at hh9
    have hsw := hok.1
    unfold m_isS at hsw
    have hwb : 0 ≤ w.toInt ∧ w.toInt ≤ 1023 := by omega
    have htw : m_tw fs t = (m_tw (m_VR fb (fb 4) (fb 5)) t) := by unfold m_tw; rw [hVs _ (by omega)]
    have hc9 := z_cnt_le ff 9216
    refine lv_iload hx hb toX9_d111 (lv_at hl 1 rfl) ?_
    refine lv_iload hx hb toX9_d113 (lv_at hl 0 rfl) ?_
    refine lv_icmp_ge hx hb toX9_d115 (tgt := 265) (by decide) (fun q115 => ?_) (fun q115 => ?_)
    · have q115_ : ta.toInt ≤ he.toInt := x_le32.mp q115
      refine lv_iconst hx hb toX9_d265 (v := (-1)) (by decide) ?_
      have ecm1 : ((-1) : Int32).toInt = (-1) := by decide
      have hRN : ∀ t9 s9, m_Rt (m_tE (m_tN (m_LR (m_VR fb (fb 4) (fb 5)) (fb 0).toInt.toNat) (2 ^ (fb 0).toInt.toNat)) (m_rdn fb (m_tw (m_VR fb (fb 4) (fb 5)) t))) (m_st0 fb (m_tw (m_VR fb (fb 4) (fb 5)) t) w) t9 s9 → s9 < 9216 := fun t9 s9 h9 => by have h8 := m_Rt_m (m_st0_i hwb hd2.1) t9 s9 h9; omega
      have eht : ta.toInt.toNat = he.toInt.toNat := by omega
      rw [eht] at hqu
      have hto9 := hb1.none (G := (fun s : Nat => ((s / 1024 : Nat) : Int) = (fb 2).toInt)) hRN hqu (fun j hj => hcl j (by omega)) (fun j hj => hng j (by omega))
      subst hav
      exact y_ireturn B hI rfl rfl rfl List.mem_cons_self ⟨_, rfl, ⟨_, rfl, x_i32 _⟩⟩ (x_cs.mono B.2.2.2.2.2 (y_mon B hI)) (fun t' b' w0' w1' f' h1 h2 h3 h4 => by cases h1; cases h2.symm.trans hs0; cases z_uniq h4 hA0 h3 hcn; exact ⟨_, rfl, fun _ _ => hto9, fun _ q9 => (by rw [hLw] at q9; cases q9), fun q9 => absurd hok q9⟩) (Nat.le_refl _) (Nat.le_refl _) toX9_d266
    · have q115_ : he.toInt < ta.toInt := Int.not_le.mp fun q => q115 (x_le32.mpr q)
      refine lv_aload_n hx hb toX9_d118 rfl (lv_at hl 3 rfl) ?_
      refine y_getf X (fl_toX9_241 X.2.2.2.2.1) hI.1 hY_this rfl hs_wt toX9_d119 ?_
      refine lv_iload hx hb toX9_d122 (lv_at hl 1 rfl) ?_
      refine y_iald X hI.1 hY_wt rfl hA_wt (by omega) (by show _ < (9216 : Int); omega) toX9_d124 ?_
      obtain ⟨e124, hg_e124⟩ : ∃ e124 : Int32, qq he.toInt.toNat = e124 := ⟨_, rfl⟩
      rw [hg_e124]
      have h_e124 : (0 : Int) ≤ e124.toInt ∧ e124.toInt ≤ 9215 := by rw [← hg_e124]; exact hB_wt _ (by omega)
      refine lv_istore hx hb toX9_d125 hl (by decide) (lv' := [(7, .int e124), (6, .int ta), (5, .int he), (3, .int (fb 2)), (0, .ref this), (1, .int w), (2, .int t)]) rfl fun ls hl => ?_
      obtain ⟨z127, hg_z127⟩ : ∃ z127 : Int32, he + Int32.ofInt 1 = z127 := ⟨_, rfl⟩
      have h_z127 : z127.toInt = he.toInt + 1 := by rw [← hg_z127]; exact y_inc (by decide) (by omega) (by omega)
      refine lv_iinc hx hb toX9_d127 hl (k := 2) rfl hg_z127 (by decide) (lv' := [(5, .int z127), (7, .int e124), (6, .int ta), (3, .int (fb 2)), (0, .ref this), (1, .int w), (2, .int t)]) rfl fun ls hl => ?_
      refine lv_iload hx hb toX9_d130 (lv_at hl 1 rfl) ?_
      refine lv_sipush hx hb toX9_d132 (v := 1024) (by decide) ?_
      have ec1024 : (1024 : Int32).toInt = 1024 := by decide
      refine lv_idiv hx hb toX9_d135 (by intro q; have := congrArg Int32.toInt q; have z0 : (0 : Int32).toInt = 0 := (by decide); omega) ?_
      generalize hg_z135 : e124 / (1024 : Int32) = z135
      have h_z135 : z135.toInt = e124.toInt / 1024 := by rw [← hg_z135]; have := y_div (x := e124) (y := (1024 : Int32)) (by first | omega | (rw [ec1024]; omega)) (by first | omega | (rw [ec1024]; omega)); rw [ec1024] at this; exact this
      refine lv_istore hx hb toX9_d136 hl (by decide) (lv' := [(8, .int z135), (5, .int z127), (7, .int e124), (6, .int ta), (3, .int (fb 2)), (0, .ref this), (1, .int w), (2, .int t)]) rfl fun ls hl => ?_
      refine lv_iload hx hb toX9_d138 (lv_at hl 2 rfl) ?_
      refine lv_sipush hx hb toX9_d140 (v := 1024) (by decide) ?_
      refine lv_irem hx hb toX9_d143 (by intro q; have := congrArg Int32.toInt q; have z0 : (0 : Int32).toInt = 0 := (by decide); omega) ?_
      generalize hg_z143 : e124 - e124 / (1024 : Int32) * (1024 : Int32) = z143
      have h_z143 : z143.toInt = e124.toInt % 1024 := by rw [← hg_z143]; have := y_rem (x := e124) (y := (1024 : Int32)) (by first | omega | (rw [ec1024]; omega)) (by first | omega | (rw [ec1024]; omega)); rw [ec1024] at this; exact this
      refine lv_istore hx hb toX9_d144 hl (by decide) (lv' := [(9, .int z143), (8, .int z135), (5, .int z127), (7, .int e124), (6, .int ta), (3, .int (fb 2)), (0, .ref this), (1, .int w), (2, .int t)]) rfl fun ls hl => ?_
      refine lv_iload hx hb toX9_d146 (lv_at hl 1 rfl) ?_
      refine lv_iload_n hx hb toX9_d148 rfl (lv_at hl 5 rfl) ?_
      refine lv_icmp_ne hx hb toX9_d149 (tgt := 160) (by decide) (fun q149 => ?_) (fun q149 => ?_)
      · have q149_ : ¬ z135.toInt = (fb 2).toInt := fun q => q149 (Int32.toInt_inj.mp q)
        refine lv_iconst hx hb toX9_d160 (v := 0) (by decide) ?_
        have ec0 : (0 : Int32).toInt = 0 := by decide
        refine lv_istore hx hb toX9_d161 hl (by decide) (lv' := [(10, .int (0 : Int32)), (9, .int z143), (8, .int z135), (5, .int z127), (7, .int e124), (6, .int ta), (3, .int (fb 2)), (0, .ref this), (1, .int w), (2, .int t)]) rfl fun ls hl => ?_
        exact toX9_L163 B hav hs0 hA0 hcn hd0 hd2 hok hgl hVs hB_lw hLw h_e124 (by omega) (by omega) (by omega) (fun H Y locs ls ta1 he1 ff1 qq1 hI hY_this hY_bk hY_se hY_lw hY_rd hY_wt hs_bk hs_se hs_lw hs_rd hs_wt hA_bk hA_se hA_lw hA_rd hA_wt hl hB_wt hh hcnt hb1 hqu hqb hng hqt hcl h_he1 => ih _ _ _ _ _ _ _ _ hI hY_this hY_bk hY_se hY_lw hY_rd hY_wt hs_bk hs_se hs_lw hs_rd hs_wt hA_bk hA_se hA_lw hA_rd hA_wt hl hB_wt hh hcnt hb1 hqu hqb hng hqt hcl (by omega)) 1026 _ _ _ _ _ _ _ _ hI hY_this hY_bk hY_se hY_lw hY_rd hY_wt hs_bk hs_se hs_lw hs_rd hs_wt hA_bk hA_se hA_lw hA_rd hA_wt (lv_sub hl [0, 1, 2, 4, 5, 3, 6, 7, 8, 9] rfl) (by first | assumption | omega) (by first | assumption | omega) (by first | assumption | omega) (by first | assumption | omega) (by first | assumption | omega) ⟨by omega, hqu.2⟩ (by first | assumption | omega) (fun j hj => by by_cases e9 : j = he.toInt.toNat; (rw [e9, hg_e124]; exact fun q9 => absurd (show z135 = fb 2 from Int32.toInt_inj.mp (by omega)) (by assumption)); exact hng j (by omega)) (by rw [show z127.toInt.toNat - 1 = he.toInt.toNat by omega]; exact (Eq.symm hg_e124)) (by rw [← hg_e124]; exact hqt (by omega)) (fun j hj => hcl j (by omega)) (fun s _ _ h9 => absurd h9 (by omega)) (by omega)
      · have q149_ : z135.toInt = (fb 2).toInt := by rw [q149]
        refine lv_aload_n hx hb toX9_d152 rfl (lv_at hl 6 rfl) ?_
        refine y_getf X (fl_toX9_240 X.2.2.2.2.1) hI.1 hY_this rfl hs_rd toX9_d153 ?_
        refine lv_iload hx hb toX9_d156 (lv_at hl 3 rfl) ?_
        refine y_iald X hI.1 hY_rd rfl hA_rd (by omega) (by show _ < (9216 : Int); omega) toX9_d158 ?_
        obtain ⟨e158, hg_e158⟩ : ∃ e158 : Int32, ff e124.toInt.toNat = e158 := ⟨_, rfl⟩
        rw [hg_e158]
        have hRN : ∀ t9 s9, m_Rt (m_tE (m_tN (m_LR (m_VR fb (fb 4) (fb 5)) (fb 0).toInt.toNat) (2 ^ (fb 0).toInt.toNat)) (m_rdn fb (m_tw (m_VR fb (fb 4) (fb 5)) t))) (m_st0 fb (m_tw (m_VR fb (fb 4) (fb 5)) t) w) t9 s9 → s9 < 9216 := fun t9 s9 h9 => by have h8 := m_Rt_m (m_st0_i hwb hd2.1) t9 s9 h9; omega
        have hto9 := hb1.ret (G := (fun s : Nat => ((s / 1024 : Nat) : Int) = (fb 2).toInt)) hRN hqu (fun j hj => hcl j (by omega)) (by omega) (fun j hj => hng j (by omega)) (by show (((qq he.toInt.toNat).toInt.toNat / 1024 : Nat) : Int) = (fb 2).toInt; rw [hg_e124]; have h9 := congrArg Int32.toInt (show z135 = fb 2 by assumption); omega)
        rw [hg_e124, hg_e158] at hto9
        subst hav
        exact y_ireturn B hI rfl rfl rfl List.mem_cons_self ⟨_, rfl, ⟨_, rfl, x_i32 _⟩⟩ (x_cs.mono B.2.2.2.2.2 (y_mon B hI)) (fun t' b' w0' w1' f' h1 h2 h3 h4 => by cases h1; cases h2.symm.trans hs0; cases z_uniq h4 hA0 h3 hcn; exact ⟨_, rfl, fun _ _ => hto9, fun _ q9 => (by rw [hLw] at q9; cases q9), fun q9 => absurd hok q9⟩) (Nat.le_refl _) (Nat.le_refl _) toX9_d159
theorem toX9_L47 {p : Program} {l : Launch} {e : Env} {s : State} {m : MethodId} {below : List Frame} {meth : Method} {c : Code} {D : va_G} {U : State} {Y0 : xY} {av : List Value} (B : y_B vwCl x_Tb x_Nb xMti p s m meth c D U Y0 av) {this bk se lw rd wt : Nat} {w t : Int32} {fb : Nat → Int32} (hav : av = [.ref this, .int w, .int t]) (hs0 : x_sl D 12 0 this s.heap = some (.ref bk)) (hA0 : y_A bk 160 s.heap fb) (hcn : z_c fb) (hd0 : 0 ≤ (fb 0).toInt ∧ (fb 0).toInt ≤ 10) (hd2 : 0 ≤ (fb 2).toInt ∧ (fb 2).toInt ≤ 8) (hok : m_isS fb w ∧ m_isH fb t) {gl fs : Nat → Int32} (hgl : ∀ s9, s9 < (2 ^ (fb 0).toInt.toNat) → m_gl gl s9 = (m_LR (m_VR fb (fb 4) (fb 5)) (fb 0).toInt.toNat) s9) (hVs : ∀ i, i < (fb 0).toInt.toNat → fs i = (m_VR fb (fb 4) (fb 5)) i) (hB_lw : ∀ j, j < 1024 → (0 : Int) ≤ (gl j).toInt ∧ (gl j).toInt ≤ 1) (hLw : (m_LR (m_VR fb (fb 4) (fb 5)) (fb 0).toInt.toNat) w.toInt.toNat = true) :
    ∀ (n : Nat), ∀ (H : Heap) (Y : xY) (locs : List Loc) (ls : Array Slot) (k : Int32) (ff qq : Nat → Int32), x_I D x_G x_Zs U (x_efs xMti) Y0 s.heap Y H locs → Y this = some 17 → Y bk = some 46 → Y se = some 51 → Y lw = some 55 → Y rd = some 62 → Y wt = some 63 → x_sl D 12 0 this H = some (.ref bk) → x_sl D 12 8 this H = some (.ref se) → x_sl D 12 18 this H = some (.ref lw) → x_sl D 12 25 this H = some (.ref rd) → x_sl D 12 26 this H = some (.ref wt) → y_A bk 160 H fb → y_A se 10 H fs → y_A lw 1024 H gl → y_A rd 9216 H ff → y_A wt 9216 H qq → lv_has ls xMti.2.2.1 [(3, .int k), (0, .ref this), (1, .int w), (2, .int t)] → (∀ j, j < 9216 → (0 : Int) ≤ (qq j).toInt ∧ (qq j).toInt ≤ 9215) → (0 ≤ k.toInt ∧ k.toInt ≤ 9216) → (∀ i : Nat, (i : Int) < k.toInt → (ff i).toInt = -1) → (9217 - k.toInt).toNat < n → W p l e (x_rm xMti) s m av.toArray below meth c H locs 0 0 (y_QQ below D x_G x_Zs U xMti z_PMtold av Y0 s) (F0 m 47 ls []) := by
  have X := B.1
  have hx := X.1
  have hb := X.2.1
  have hY0 := B.2.2.2.2.1
  intro n
  induction n with
  | zero => intro _ _ _ _ _ _ _ _ _ _ _ _ _ _ _ _ _ _ _ _ _ _ _ _ _ _ _ _ h; exact absurd h (Nat.not_lt_zero _)
  | succ n ih =>
    intro H Y locs ls k ff qq hI hY_this hY_bk hY_se hY_lw hY_rd hY_wt hs_bk hs_se hs_lw hs_rd hs_wt hA_bk hA_se hA_lw hA_rd hA_wt hl hB_wt hk hf hn
    have hz9 := z_all_p hd0
    have hpw : (2 ^ (fb 0).toInt.toNat) ≤ 1024 := Nat.pow_le_pow_right (n := 2) (by decide) (show (fb 0).toInt.toNat ≤ 10 by omega)
    have hh9 := hok.2
    unfold m_isH at hh9
    have hsw := hok.1
    unfold m_isS at hsw
    have hwb : 0 ≤ w.toInt ∧ w.toInt ≤ 1023 := by omega
    have htw : m_tw fs t = (m_tw (m_VR fb (fb 4) (fb 5)) t) := by unfold m_tw; rw [hVs _ (by omega)]
    refine lv_iload_n hx hb toX9_d47 rfl (lv_at hl 0 rfl) ?_
    refine lv_sipush hx hb toX9_d48 (v := 9216) (by decide) ?_
    have ec9216 : (9216 : Int32).toInt = 9216 := by decide
    refine lv_icmp_ge hx hb toX9_d51 (tgt := 67) (by decide) (fun q51 => ?_) (fun q51 => ?_)
    · have q51_ : (9216 : Int32).toInt ≤ k.toInt := x_le32.mp q51
      refine lv_aload_n hx hb toX9_d67 rfl (lv_at hl 1 rfl) ?_
      refine y_getf X (fl190 X.2.2.2.2.1) hI.1 hY_this rfl hs_bk toX9_d68 ?_
      refine lv_iconst hx hb toX9_d71 (v := 2) (by decide) ?_
      have ec2 : (2 : Int32).toInt = 2 := by decide
      refine y_iald X hI.1 hY_bk rfl hA_bk (by omega) (by show _ < (160 : Int); omega) toX9_d72 ?_
      obtain ⟨e72, hg_e72⟩ : ∃ e72 : Int32, fb (2 : Int32).toInt.toNat = e72 := ⟨_, rfl⟩
      rw [hg_e72]
      have hm9 : e72 = fb 2 := (Eq.symm hg_e72)
      subst hm9
      refine lv_istore_n hx hb toX9_d73 rfl hl (by decide) (lv' := [(3, .int (fb 2)), (0, .ref this), (1, .int w), (2, .int t)]) rfl fun ls hl => ?_
      refine lv_sipush hx hb toX9_d74 (v := 1024) (by decide) ?_
      have ec1024 : (1024 : Int32).toInt = 1024 := by decide
      refine lv_aload_n hx hb toX9_d77 rfl (lv_at hl 1 rfl) ?_
      refine lv_iload_n hx hb toX9_d78 rfl (lv_at hl 2 rfl) ?_
      refine lv_iload_n hx hb toX9_d79 rfl (lv_at hl 3 rfl) ?_
      refine lv_iconst hx hb toX9_d80 (v := 0) (by decide) ?_
      have ec0 : (0 : Int32).toInt = 0 := by decide
      refine y_call (z := (0, 272, 4, some 17, xM211)) (av := [.ref this, .int w, .int t, .int (0 : Int32)]) (rest := [.int (1024 : Int32)]) (y_cokV (n := 3) (ci := 12) X ym_readOn rfl rfl rfl (x_cons (x_bw84 1 rfl rfl) (x_cons (x_bw84 3 rfl rfl) (x_cons (x_at 58 (by decide +kernel) rfl) (x_cons (x_bw0 9 rfl rfl) x_nilm)))) (x_bw84 4 rfl rfl) (by decide +kernel) ⟨Nat.le_of_ble_eq_true rfl, Nat.le_of_ble_eq_true rfl⟩) hY0 hI rfl toX9_d81 hl.1 (Nat.le_of_ble_eq_true rfl) (Nat.le_of_ble_eq_true rfl) (Nat.le_of_ble_eq_true rfl) (y_cons (y_cref hY_this rfl) (y_cons ⟨_, rfl, x_i32 _⟩ (y_cons ⟨_, rfl, by show (0 : Int) ≤ _; omega, by show _ ≤ (9 : Int); omega⟩ (y_cons ⟨_, rfl, by show (0 : Int) ≤ _; omega, by show _ ≤ (8 : Int); omega⟩ y_nil)))) rfl (y_recv rfl hY_this) trivial (y_sub_ef rfl) fun v Yn o Hn L ho hr ha hIn hx_ hE hP => ?_
      have hPr := hP _ _ _ _ _ _ _ _ rfl hs_bk hA_bk hs_se hA_se
      replace hs_bk := y_Efld hE hY_this rfl (by decide) (by decide) hs_bk
      replace hs_se := y_Efld hE hY_this rfl (by decide) (by decide) hs_se
      replace hs_lw := y_Efld hE hY_this rfl (by decide) (by decide) hs_lw
      replace hs_rd := y_Efld hE hY_this rfl (by decide) (by decide) hs_rd
      replace hs_wt := y_Efld hE hY_this rfl (by decide) (by decide) hs_wt
      replace hA_bk := hA_bk.kept (y_Earr hE hY_bk rfl (by decide))
      replace hA_se := hA_se.kept (y_Earr hE hY_se rfl (by decide))
      replace hA_lw := hA_lw.kept (y_Earr hE hY_lw rfl (by decide))
      replace hA_rd := hA_rd.kept (y_Earr hE hY_rd rfl (by decide))
      replace hA_wt := hA_wt.kept (y_Earr hE hY_wt rfl (by decide))
      replace hY_this := y_ext hx_ hI.1 hY_this
      replace hY_bk := y_ext hx_ hI.1 hY_bk
      replace hY_se := y_ext hx_ hI.1 hY_se
      replace hY_lw := y_ext hx_ hI.1 hY_lw
      replace hY_rd := y_ext hx_ hI.1 hY_rd
      replace hY_wt := y_ext hx_ hI.1 hY_wt
      obtain ⟨r81, rfl, h_r81⟩ := y_ansI (lo := 0) (hi := 8) (by decide) ho hr
      have hg_r81 : m_rnR fb fs w t (0 : Int32) = r81 := by cases hPr; rfl
      clear ho hr ha hE hP hI hx_
      rename x_I _ _ _ _ _ _ _ _ _ _ => hI
      refine lv_imul hx hb toX9_d84 ?_
      generalize hg_z84 : (1024 : Int32) * r81 = z84
      have h_z84 : z84.toInt = 1024 * r81.toInt := by rw [← hg_z84]; have := y_mul (x := (1024 : Int32)) (y := r81) (by rw [ec1024]; omega) (by rw [ec1024]; omega); rw [ec1024] at this; exact this
      refine lv_iload_n hx hb toX9_d85 rfl (lv_at hl 2 rfl) ?_
      refine lv_iadd hx hb toX9_d86 ?_
      generalize hg_z86 : z84 + w = z86
      have h_z86 : z86.toInt = z84.toInt + w.toInt := by rw [← hg_z86]; have := y_add (x := z84) (y := w) (by omega) (by omega); exact this
      have hr9 : r81.toInt = ((m_rdn fb (m_tw (m_VR fb (fb 4) (fb 5)) t) w.toInt.toNat 0 : Nat) : Int) := by have h1 := m_rd_le1 (f := fb) (sn := (m_tw (m_VR fb (fb 4) (fb 5)) t)) (w := w.toInt.toNat) (i := 0); rw [← hg_r81, m_rnR_eq (by rw [m_c0]; omega) hwb, htw, z_i0, nI_toInt (by omega)]
      have hzb : 0 ≤ z86.toInt ∧ z86.toInt ≤ 9215 := by omega
      have hst0 : z86.toInt.toNat = (m_st0 fb (m_tw (m_VR fb (fb 4) (fb 5)) t) w) := by unfold m_st0; omega
      refine lv_istore hx hb toX9_d87 hl (by decide) (lv' := [(4, .int z86), (3, .int (fb 2)), (0, .ref this), (1, .int w), (2, .int t)]) rfl fun ls hl => ?_
      refine lv_aload_n hx hb toX9_d89 rfl (lv_at hl 2 rfl) ?_
      refine y_getf X (fl_toX9_240 X.2.2.2.2.1) hI.1 hY_this rfl hs_rd toX9_d90 ?_
      refine lv_iload hx hb toX9_d93 (lv_at hl 0 rfl) ?_
      refine lv_iconst hx hb toX9_d95 (v := 0) (by decide) ?_
      refine y_iast X hY0 hI hY_rd rfl hA_rd (by omega) (by show _ < (9216 : Int); omega) ⟨_, rfl, x_i32 _⟩ (by decide +kernel) toX9_d96 fun H locs hI h_new ho => ?_
      replace hA_rd := h_new
      generalize hf_f96 : y_up ff z86.toInt.toNat (0 : Int32) = f96 at hA_rd
      replace hs_bk := y_slk hs_bk (ho _ (y_ne hY_this hY_rd rfl))
      replace hs_se := y_slk hs_se (ho _ (y_ne hY_this hY_rd rfl))
      replace hs_lw := y_slk hs_lw (ho _ (y_ne hY_this hY_rd rfl))
      replace hs_rd := y_slk hs_rd (ho _ (y_ne hY_this hY_rd rfl))
      replace hs_wt := y_slk hs_wt (ho _ (y_ne hY_this hY_rd rfl))
      replace hA_bk := hA_bk.kept (ho _ (y_ne hY_bk hY_rd rfl))
      replace hA_se := hA_se.kept (ho _ (y_ne hY_se hY_rd rfl))
      replace hA_lw := hA_lw.kept (ho _ (y_ne hY_lw hY_rd rfl))
      replace hA_wt := hA_wt.kept (ho _ (y_ne hY_wt hY_rd rfl))
      refine lv_aload_n hx hb toX9_d97 rfl (lv_at hl 2 rfl) ?_
      refine y_getf X (fl_toX9_241 X.2.2.2.2.1) hI.1 hY_this rfl hs_wt toX9_d98 ?_
      refine lv_iconst hx hb toX9_d101 (v := 0) (by decide) ?_
      refine lv_iload hx hb toX9_d102 (lv_at hl 0 rfl) ?_
      refine y_iast X hY0 hI hY_wt rfl hA_wt (by omega) (by show _ < (9216 : Int); omega) ⟨_, rfl, by show (0 : Int) ≤ _; omega, by show _ ≤ (9215 : Int); omega⟩ (by decide +kernel) toX9_d104 fun H locs hI h_new ho => ?_
      replace hA_wt := h_new
      replace hB_wt := y_upb (i := (0 : Int32).toInt.toNat) (v := z86) hB_wt (by constructor <;> omega)
      generalize hf_f104 : y_up qq (0 : Int32).toInt.toNat z86 = f104 at hA_wt hB_wt
      replace hs_bk := y_slk hs_bk (ho _ (y_ne hY_this hY_wt rfl))
      replace hs_se := y_slk hs_se (ho _ (y_ne hY_this hY_wt rfl))
      replace hs_lw := y_slk hs_lw (ho _ (y_ne hY_this hY_wt rfl))
      replace hs_rd := y_slk hs_rd (ho _ (y_ne hY_this hY_wt rfl))
      replace hs_wt := y_slk hs_wt (ho _ (y_ne hY_this hY_wt rfl))
      replace hA_bk := hA_bk.kept (ho _ (y_ne hY_bk hY_wt rfl))
      replace hA_se := hA_se.kept (ho _ (y_ne hY_se hY_wt rfl))
      replace hA_lw := hA_lw.kept (ho _ (y_ne hY_lw hY_wt rfl))
      replace hA_rd := hA_rd.kept (ho _ (y_ne hY_rd hY_wt rfl))
      refine lv_iconst hx hb toX9_d105 (v := 0) (by decide) ?_
      refine lv_istore hx hb toX9_d106 hl (by decide) (lv' := [(5, .int (0 : Int32)), (4, .int z86), (3, .int (fb 2)), (0, .ref this), (1, .int w), (2, .int t)]) rfl fun ls hl => ?_
      refine lv_iconst hx hb toX9_d108 (v := 1) (by decide) ?_
      have ec1 : (1 : Int32).toInt = 1 := by decide
      refine lv_istore hx hb toX9_d109 hl (by decide) (lv' := [(6, .int (1 : Int32)), (5, .int (0 : Int32)), (4, .int z86), (3, .int (fb 2)), (0, .ref this), (1, .int w), (2, .int t)]) rfl fun ls hl => ?_
      have hQ := m_B1.start (E := (m_tE (m_tN (m_LR (m_VR fb (fb 4) (fb 5)) (fb 0).toInt.toNat) (2 ^ (fb 0).toInt.toNat)) (m_rdn fb (m_tw (m_VR fb (fb 4) (fb 5)) t)))) (F := ff) (z := (0 : Int32)) (fr := z86.toInt.toNat) (N := 9216) (by omega) (fun i hi => hf i (by omega)) (by decide)
      have hF0 : (y_up ff z86.toInt.toNat (0 : Int32) z86.toInt.toNat).toInt = 0 := by rw [y_up_at]; decide
      have hC := z_cnt_pos (f := y_up ff z86.toInt.toNat (0 : Int32)) (j := z86.toInt.toNat) (by omega) 9216 (by omega)
      rw [hf_f96] at hQ hF0 hC
      have hq0 : f104 0 = z86 := by rw [← hf_f104, z_i0]; exact y_up_at
      have hU : m_QU (fun _ => true) 9216 f96 f104 0 1 := by
        refine ⟨by omega, fun j hj => ?_, fun i j hij hj => ?_, fun s hs hs2 => ⟨0, by omega, ?_⟩⟩
        · rw [show j = 0 by omega, hq0]; exact ⟨hzb.1, by omega, rfl, by omega⟩
        · rw [show i = 0 by omega, show j = 0 by omega]; omega
        · rw [hq0]; by_cases e9 : s = z86.toInt.toNat; (exact e9.symm); rw [← hf_f96, y_up_ne e9] at hs2; exact absurd (hf s (by omega)) hs2
      exact toX9_L111 B hav hs0 hA0 hcn hd0 hd2 hok hgl hVs hB_lw hLw 9218 _ _ _ _ _ _ _ _ hI hY_this hY_bk hY_se hY_lw hY_rd hY_wt hs_bk hs_se hs_lw hs_rd hs_wt hA_bk hA_se hA_lw hA_rd hA_wt (lv_sub hl [0, 1, 3, 4, 5, 6] rfl) (by first | assumption | omega) (by rw [m_c0, m_c1]; omega) (by rw [m_c1]; omega) (by rw [← hst0]; exact hQ) (by rw [z_i0, z_i1]; exact hU) (fun j hj => by have h9 : j = 0 := (by have : (1 : Int32).toInt.toNat = 1 := (by decide); omega); rw [h9, hq0]; omega) (fun j hj => absurd hj (by rw [m_c0]; omega)) (fun _ j hj => by have h9 : j = 0 := (by have : (1 : Int32).toInt.toNat = 1 := (by decide); omega); rw [h9, z_i0]; omega) (fun j hj => absurd hj (by rw [m_c0]; omega)) (by omega)
    · have q51_ : k.toInt < (9216 : Int32).toInt := Int.not_le.mp fun q => q51 (x_le32.mpr q)
      refine lv_aload_n hx hb toX9_d54 rfl (lv_at hl 1 rfl) ?_
      refine y_getf X (fl_toX9_240 X.2.2.2.2.1) hI.1 hY_this rfl hs_rd toX9_d55 ?_
      refine lv_iload_n hx hb toX9_d58 rfl (lv_at hl 0 rfl) ?_
      refine lv_iconst hx hb toX9_d59 (v := (-1)) (by decide) ?_
      have ecm1 : ((-1) : Int32).toInt = (-1) := by decide
      refine y_iast X hY0 hI hY_rd rfl hA_rd (by omega) (by show _ < (9216 : Int); omega) ⟨_, rfl, x_i32 _⟩ (by decide +kernel) toX9_d60 fun H locs hI h_new ho => ?_
      replace hA_rd := h_new
      generalize hf_f60 : y_up ff k.toInt.toNat ((-1) : Int32) = f60 at hA_rd
      replace hs_bk := y_slk hs_bk (ho _ (y_ne hY_this hY_rd rfl))
      replace hs_se := y_slk hs_se (ho _ (y_ne hY_this hY_rd rfl))
      replace hs_lw := y_slk hs_lw (ho _ (y_ne hY_this hY_rd rfl))
      replace hs_rd := y_slk hs_rd (ho _ (y_ne hY_this hY_rd rfl))
      replace hs_wt := y_slk hs_wt (ho _ (y_ne hY_this hY_rd rfl))
      replace hA_bk := hA_bk.kept (ho _ (y_ne hY_bk hY_rd rfl))
      replace hA_se := hA_se.kept (ho _ (y_ne hY_se hY_rd rfl))
      replace hA_lw := hA_lw.kept (ho _ (y_ne hY_lw hY_rd rfl))
      replace hA_wt := hA_wt.kept (ho _ (y_ne hY_wt hY_rd rfl))
      obtain ⟨z61, hg_z61⟩ : ∃ z61 : Int32, k + Int32.ofInt 1 = z61 := ⟨_, rfl⟩
      have h_z61 : z61.toInt = k.toInt + 1 := by rw [← hg_z61]; exact y_inc (by decide) (by omega) (by omega)
      refine lv_iinc hx hb toX9_d61 hl (k := 0) rfl hg_z61 (by decide) (lv' := [(3, .int z61), (0, .ref this), (1, .int w), (2, .int t)]) rfl fun ls hl => ?_
      refine lv_goto hx hb toX9_d64 (tgt := 47) (by decide) ?_
      exact ih _ _ _ _ _ _ _ hI hY_this hY_bk hY_se hY_lw hY_rd hY_wt hs_bk hs_se hs_lw hs_rd hs_wt hA_bk hA_se hA_lw hA_rd hA_wt (lv_sub hl [0, 1, 2, 3] rfl) (by first | assumption | omega) (by first | assumption | omega) (fun i hi => by rw [← hf_f60]; by_cases e0 : i = k.toInt.toNat; (rw [e0, y_up_at]; decide); rw [y_up_ne e0]; exact hf i (by omega)) (by omega)
theorem ym_toldM : y_Met vwCl x_G x_Zs x_Tb x_Nb xMti y_T z_PMtold := by
  refine y_main (by decide +kernel) (by decide +kernel) x_Tb_good x_Nb_ok ?_
  intro p l e s m below meth c D U Y0 av ls B hI _ hl
  have X := B.1
  have hx := X.1
  have hb := X.2.1
  have hY0 := B.2.2.2.2.1
  obtain ⟨v0, v1, v2, rfl, hv0, ⟨w, rfl, -⟩, ⟨t, rfl, -⟩⟩ := y_three B.2.2.2.2.2
  obtain ⟨this, t0, rfl, ht0, hY_this⟩ := x_ref_at hv0 rfl
  obtain rfl := List.mem_singleton.mp ht0
  replace hl : lv_has ls xMti.2.2.1 [(0, .ref this), (1, .int w), (2, .int t)] := hl
  obtain ⟨bk, hs_bk, hY_bk⟩ := y_fldR (k := 0) hI.1 hY_this rfl rfl
  obtain ⟨fb9, hA9, hB9⟩ := y_arr hI.1 hY_bk rfl rfl
  obtain ⟨fb, hcn, hA_bk, hB_bk⟩ := z_canon (Y := Y0) (P := fun j v => x_c Y0 ([xI 0 10, xI 0 8, xI 0 8].getD j xF) (.int v)) hA9 hB9
  clear hA9 hB9 fb9
  have hs0 := hs_bk
  have hA0 := hA_bk
  have hd := z_hdr hB_bk
  have hd0 := hd.1
  have hd1 := hd.2.1
  have hd2 := hd.2.2
  obtain ⟨se, hs_se, hY_se⟩ := y_fldR (k := 8) hI.1 hY_this rfl rfl
  obtain ⟨lw, hs_lw, hY_lw⟩ := y_fldR (k := 18) hI.1 hY_this rfl rfl
  obtain ⟨fr, hs_fr, hY_fr⟩ := y_fldR (k := 19) hI.1 hY_this rfl rfl
  obtain ⟨rd, hs_rd, hY_rd⟩ := y_fldR (k := 25) hI.1 hY_this rfl rfl
  obtain ⟨wt, hs_wt, hY_wt⟩ := y_fldR (k := 26) hI.1 hY_this rfl rfl
  obtain ⟨ff, hA_rd, -⟩ := y_arr hI.1 hY_rd rfl rfl
  obtain ⟨qq, hA_wt, hB_wt⟩ := y_arr hI.1 hY_wt rfl rfl
  replace hB_wt : ∀ j, j < 9216 → (0 : Int) ≤ (qq j).toInt ∧ (qq j).toInt ≤ 9215 := fun j hj => by obtain ⟨x, e0, e1⟩ := hB_wt j hj; cases e0; exact e1
  refine lv_aload_n hx hb toX9_d0 rfl (lv_at hl 0 rfl) ?_
  refine lv_iload_n hx hb toX9_d1 rfl (lv_at hl 1 rfl) ?_
  refine y_call (z := (0, 237, 2, some 17, xM184)) (av := [.ref this, .int w]) (rest := []) (y_cokV (n := 1) (ci := 12) X ym_isSet rfl rfl rfl (x_cons (x_bw77 0 rfl rfl) (x_cons (x_bw77 2 rfl rfl) (x_cons (x_at 48 (by decide +kernel) rfl) (x_cons (x_bw0 9 rfl rfl) x_nilm)))) (x_bw77 3 rfl rfl) (by decide +kernel) ⟨Nat.le_of_ble_eq_true rfl, Nat.le_of_ble_eq_true rfl⟩) hY0 hI rfl toX9_d2 hl.1 (Nat.le_of_ble_eq_true rfl) (Nat.le_of_ble_eq_true rfl) (Nat.le_of_ble_eq_true rfl) (y_cons (y_cref hY_this rfl) (y_cons ⟨_, rfl, x_i32 _⟩ y_nil)) rfl (y_recv rfl hY_this) trivial (y_sub_ef rfl) fun v Yn o Hn L ho hr ha hIn hx_ hE hP => ?_
  have hPv := hP _ _ _ _ rfl hs_bk (hA_bk 0 (by decide))
  replace hs_bk := y_Efld hE hY_this rfl (by decide) (by decide) hs_bk
  replace hs_se := y_Efld hE hY_this rfl (by decide) (by decide) hs_se
  replace hs_lw := y_Efld hE hY_this rfl (by decide) (by decide) hs_lw
  replace hs_fr := y_Efld hE hY_this rfl (by decide) (by decide) hs_fr
  replace hs_rd := y_Efld hE hY_this rfl (by decide) (by decide) hs_rd
  replace hs_wt := y_Efld hE hY_this rfl (by decide) (by decide) hs_wt
  replace hA_bk := hA_bk.kept (y_Earr hE hY_bk rfl (by decide))
  replace hA_rd := hA_rd.kept (y_Earr hE hY_rd rfl (by decide))
  replace hA_wt := hA_wt.kept (y_Earr hE hY_wt rfl (by decide))
  replace hY_this := y_ext hx_ hI.1 hY_this
  replace hY_bk := y_ext hx_ hI.1 hY_bk
  replace hY_se := y_ext hx_ hI.1 hY_se
  replace hY_lw := y_ext hx_ hI.1 hY_lw
  replace hY_fr := y_ext hx_ hI.1 hY_fr
  replace hY_rd := y_ext hx_ hI.1 hY_rd
  replace hY_wt := y_ext hx_ hI.1 hY_wt
  obtain ⟨r2, rfl, hin_r2, hout_r2⟩ := hPv
  clear ho hr ha hE hP hI hx_
  rename x_I _ _ _ _ _ _ _ _ _ _ => hI
  have ec0 : (0 : Int32).toInt = 0 := by decide
  refine lv_if_eq hx hb toX9_d5 (tgt := 16) (by decide) (fun q5 => ?_) (fun q5 => ?_)
  · have q5_ : r2.toInt = (0 : Int32).toInt := by rw [q5]
    have hno : ¬ (m_isS fb w ∧ m_isH fb t) := fun q9 => by first | (have h8 := hout_r2 (by assumption); have h7 := q9.1; unfold m_isS at h7; omega) | exact hout_r10 (by assumption) q9.2
    refine lv_aload_n hx hb toX9_d16 rfl (lv_at hl 0 rfl) ?_
    refine lv_iconst hx hb toX9_d17 (v := 0) (by decide) ?_
    refine lv_bipush hx hb toX9_d18 (v := (-10)) (by decide) ?_
    have ecm10 : ((-10) : Int32).toInt = (-10) := by decide
    refine y_call (z := (0, 76, 3, some 17, xM142)) (av := [.ref this, .int (0 : Int32), .int ((-10) : Int32)]) (rest := []) (y_cokV (n := 2) (ci := 12) X ym_refuses rfl rfl rfl (x_cons (x_bw68 7 rfl rfl) (x_cons (x_bw68 9 rfl rfl) (x_cons (x_at 33 (by decide +kernel) rfl) (x_cons (x_bw0 9 rfl rfl) x_nilm)))) (x_bw68 10 rfl rfl) (by decide +kernel) ⟨Nat.le_of_ble_eq_true rfl, Nat.le_of_ble_eq_true rfl⟩) hY0 hI rfl toX9_d20 hl.1 (Nat.le_of_ble_eq_true rfl) (Nat.le_of_ble_eq_true rfl) (Nat.le_of_ble_eq_true rfl) (y_cons (y_cref hY_this rfl) (y_cons ⟨_, rfl, by show (0 : Int) ≤ _; omega, by show _ ≤ (2 : Int); omega⟩ (y_cons ⟨_, rfl, x_i32 _⟩ y_nil))) rfl (y_recv rfl hY_this) trivial (y_sub_ef rfl) fun v Yn o Hn L ho hr ha hIn hx_ hE hP => ?_
    replace hs_bk := y_Efld hE hY_this rfl (by decide) (by decide) hs_bk
    replace hs_se := y_Efld hE hY_this rfl (by decide) (by decide) hs_se
    replace hs_lw := y_Efld hE hY_this rfl (by decide) (by decide) hs_lw
    replace hs_fr := y_Efld hE hY_this rfl (by decide) (by decide) hs_fr
    replace hs_rd := y_Efld hE hY_this rfl (by decide) (by decide) hs_rd
    replace hs_wt := y_Efld hE hY_this rfl (by decide) (by decide) hs_wt
    replace hA_bk := hA_bk.kept (y_Earr hE hY_bk rfl (by decide))
    replace hA_rd := hA_rd.kept (y_Earr hE hY_rd rfl (by decide))
    replace hA_wt := hA_wt.kept (y_Earr hE hY_wt rfl (by decide))
    replace hY_this := y_ext hx_ hI.1 hY_this
    replace hY_bk := y_ext hx_ hI.1 hY_bk
    replace hY_se := y_ext hx_ hI.1 hY_se
    replace hY_lw := y_ext hx_ hI.1 hY_lw
    replace hY_fr := y_ext hx_ hI.1 hY_fr
    replace hY_rd := y_ext hx_ hI.1 hY_rd
    replace hY_wt := y_ext hx_ hI.1 hY_wt
    obtain rfl := hP _ _ _ rfl
    clear ho hr ha hE hP hI hx_
    rename x_I _ _ _ _ _ _ _ _ _ _ => hI
    exact y_ireturn B hI rfl rfl rfl List.mem_cons_self ⟨_, rfl, ⟨_, rfl, x_i32 _⟩⟩ (x_cs.mono B.2.2.2.2.2 (y_mon B hI)) (fun t' b' w0' w1' f' h1 h2 h3 h4 => by cases h1; cases h2.symm.trans hs0; cases z_uniq h4 hA0 h3 hcn; exact ⟨_, rfl, fun q9 => absurd q9 hno, fun q9 => absurd q9 hno, fun _ => rfl⟩) (Nat.le_refl _) (Nat.le_refl _) toX9_d23
  · have q5_ : ¬ r2.toInt = (0 : Int32).toInt := fun q => q5 (Int32.toInt_inj.mp q)
    refine lv_aload_n hx hb toX9_d8 rfl (lv_at hl 0 rfl) ?_
    refine lv_iload_n hx hb toX9_d9 rfl (lv_at hl 2 rfl) ?_
    refine y_call (z := (0, 151, 2, some 17, xM171)) (av := [.ref this, .int t]) (rest := []) (y_cokV (n := 1) (ci := 12) X ym_isHillX rfl rfl rfl (x_cons (x_bw72 2 rfl rfl) (x_cons (x_bw72 4 rfl rfl) (x_cons (x_at 40 (by decide +kernel) rfl) (x_cons (x_bw0 9 rfl rfl) x_nilm)))) (x_bw72 5 rfl rfl) (by decide +kernel) ⟨Nat.le_of_ble_eq_true rfl, Nat.le_of_ble_eq_true rfl⟩) hY0 hI rfl toX9_d10 hl.1 (Nat.le_of_ble_eq_true rfl) (Nat.le_of_ble_eq_true rfl) (Nat.le_of_ble_eq_true rfl) (y_cons (y_cref hY_this rfl) (y_cons ⟨_, rfl, x_i32 _⟩ y_nil)) rfl (y_recv rfl hY_this) trivial (y_sub_ef rfl) fun v Yn o Hn L ho hr ha hIn hx_ hE hP => ?_
    have hPq := hP _ _ _ _ rfl hs_bk hcn hA_bk
    replace hs_bk := y_Efld hE hY_this rfl (by decide) (by decide) hs_bk
    replace hs_se := y_Efld hE hY_this rfl (by decide) (by decide) hs_se
    replace hs_lw := y_Efld hE hY_this rfl (by decide) (by decide) hs_lw
    replace hs_fr := y_Efld hE hY_this rfl (by decide) (by decide) hs_fr
    replace hs_rd := y_Efld hE hY_this rfl (by decide) (by decide) hs_rd
    replace hs_wt := y_Efld hE hY_this rfl (by decide) (by decide) hs_wt
    replace hA_bk := hA_bk.kept (y_Earr hE hY_bk rfl (by decide))
    replace hA_rd := hA_rd.kept (y_Earr hE hY_rd rfl (by decide))
    replace hA_wt := hA_wt.kept (y_Earr hE hY_wt rfl (by decide))
    replace hY_this := y_ext hx_ hI.1 hY_this
    replace hY_bk := y_ext hx_ hI.1 hY_bk
    replace hY_se := y_ext hx_ hI.1 hY_se
    replace hY_lw := y_ext hx_ hI.1 hY_lw
    replace hY_fr := y_ext hx_ hI.1 hY_fr
    replace hY_rd := y_ext hx_ hI.1 hY_rd
    replace hY_wt := y_ext hx_ hI.1 hY_wt
    obtain ⟨r10, rfl, hin_r10, hout_r10⟩ := hPq
    clear ho hr ha hE hP hI hx_
    rename x_I _ _ _ _ _ _ _ _ _ _ => hI
    refine lv_if_ne hx hb toX9_d13 (tgt := 24) (by decide) (fun q13 => ?_) (fun q13 => ?_)
    · have q13_ : ¬ r10.toInt = (0 : Int32).toInt := fun q => q13 (Int32.toInt_inj.mp q)
      have hok : m_isS fb w ∧ m_isH fb t := ⟨hin_r2 (by assumption), hin_r10 (by assumption)⟩
      have hz9 := z_all_p hd0
      have hpw : (2 ^ (fb 0).toInt.toNat) ≤ 1024 := Nat.pow_le_pow_right (n := 2) (by decide) (show (fb 0).toInt.toNat ≤ 10 by omega)
      have hh9 := hok.2
      unfold m_isH at hh9
      have hsw := hok.1
      unfold m_isS at hsw
      have hwb : 0 ≤ w.toInt ∧ w.toInt ≤ 1023 := by omega
      refine lv_aload_n hx hb toX9_d24 rfl (lv_at hl 0 rfl) ?_
      refine y_call (z := (0, 260, 1, some 17, xM204)) (av := [.ref this]) (rest := []) (y_cokV (n := 0) (ci := 12) X ym_lawsNow rfl rfl rfl (x_cons (x_bw81 9 rfl rfl) (x_cons (x_bw81 11 rfl rfl) (x_cons (x_at 55 (by decide +kernel) rfl) (x_cons (x_bw0 9 rfl rfl) x_nilm)))) (x_bw81 12 rfl rfl) (by decide +kernel) ⟨Nat.le_of_ble_eq_true rfl, Nat.le_of_ble_eq_true rfl⟩) hY0 hI rfl toX9_d25 hl.1 (Nat.le_of_ble_eq_true rfl) (Nat.le_of_ble_eq_true rfl) (Nat.le_of_ble_eq_true rfl) (y_cons (y_cref hY_this rfl) y_nil) rfl (y_recv rfl hY_this) trivial (y_sub_ef rfl) fun v Yn o Hn L ho hr ha hIn hx_ hE hP => ?_
      have hPs := hP _ _ _ rfl hs_bk hcn hA_bk
      have hPl1 := hPs.1 _ hs_se
      have hPl2 := hPs.2 _ hs_lw
      replace hs_bk := y_Efld hE hY_this rfl (by decide) (by decide) hs_bk
      replace hs_se := y_Efld hE hY_this rfl (by decide) (by decide) hs_se
      replace hs_lw := y_Efld hE hY_this rfl (by decide) (by decide) hs_lw
      replace hs_fr := y_Efld hE hY_this rfl (by decide) (by decide) hs_fr
      replace hs_rd := y_Efld hE hY_this rfl (by decide) (by decide) hs_rd
      replace hs_wt := y_Efld hE hY_this rfl (by decide) (by decide) hs_wt
      replace hA_bk := hA_bk.kept (y_Earr hE hY_bk rfl (by decide))
      replace hA_rd := hA_rd.kept (y_Earr hE hY_rd rfl (by decide))
      replace hA_wt := hA_wt.kept (y_Earr hE hY_wt rfl (by decide))
      replace hY_this := y_ext hx_ hI.1 hY_this
      replace hY_bk := y_ext hx_ hI.1 hY_bk
      replace hY_se := y_ext hx_ hI.1 hY_se
      replace hY_lw := y_ext hx_ hI.1 hY_lw
      replace hY_fr := y_ext hx_ hI.1 hY_fr
      replace hY_rd := y_ext hx_ hI.1 hY_rd
      replace hY_wt := y_ext hx_ hI.1 hY_wt
      obtain rfl := y_ansV rfl ho hr
      obtain ⟨fs, hA_se, -⟩ := y_arr hIn.1 hY_se rfl rfl
      have hVs : ∀ i, i < (fb 0).toInt.toNat → fs i = (m_VR fb (fb 4) (fb 5)) i := fun i hi => z_intI (hA_se i (by omega)) (hPl1 i hi)
      obtain ⟨gl, hA_lw, hgl⟩ := hPl2
      obtain ⟨gl8, hA8, hB_lw⟩ := y_arr hIn.1 hY_lw rfl rfl
      replace hB_lw : ∀ j, j < 1024 → (0 : Int) ≤ (gl j).toInt ∧ (gl j).toInt ≤ 1 := fun j hj => by obtain ⟨x, e0, e1⟩ := hB_lw j hj; cases e0; rw [z_AR hA_lw hA8 hj]; exact e1
      clear hA8 gl8
      clear ho hr ha hE hP hI hx_
      rename x_I _ _ _ _ _ _ _ _ _ _ => hI
      refine lv_aload_n hx hb toX9_d28 rfl (lv_at hl 0 rfl) ?_
      refine y_getf X (fl200 X.2.2.2.2.1) hI.1 hY_this rfl hs_lw toX9_d29 ?_
      refine lv_iload_n hx hb toX9_d32 rfl (lv_at hl 1 rfl) ?_
      refine y_zald X hI.1 hY_lw rfl hA_lw (by omega) (by show _ < (1024 : Int); omega) toX9_d33 ?_
      obtain ⟨e33, hg_e33⟩ : ∃ e33 : Int32, gl w.toInt.toNat = e33 := ⟨_, rfl⟩
      rw [hg_e33]
      have h_e33 : (0 : Int) ≤ e33.toInt ∧ e33.toInt ≤ 1 := by rw [← hg_e33]; exact hB_lw _ (by omega)
      refine lv_if_ne hx hb toX9_d34 (tgt := 45) (by decide) (fun q34 => ?_) (fun q34 => ?_)
      · have q34_ : ¬ e33.toInt = (0 : Int32).toInt := fun q => q34 (Int32.toInt_inj.mp q)
        have hLw := (show (m_LR (m_VR fb (fb 4) (fb 5)) (fb 0).toInt.toNat) w.toInt.toNat = true by rw [← hgl _ (by omega)]; unfold m_gl; rw [hg_e33]; have h8 : ¬ e33 = 0 := (by assumption); rw [decide_eq_false h8]; rfl)
        refine lv_iconst hx hb toX9_d45 (v := 0) (by decide) ?_
        refine lv_istore_n hx hb toX9_d46 rfl hl (by decide) (lv' := [(3, .int (0 : Int32)), (0, .ref this), (1, .int w), (2, .int t)]) rfl fun ls hl => ?_
        exact toX9_L47 B rfl hs0 hA0 hcn hd0 hd2 hok hgl hVs hB_lw hLw 9218 _ _ _ _ _ _ _ hI hY_this hY_bk hY_se hY_lw hY_rd hY_wt hs_bk hs_se hs_lw hs_rd hs_wt hA_bk hA_se hA_lw hA_rd hA_wt (lv_sub hl [0, 1, 2, 3] rfl) (by first | assumption | omega) (by first | assumption | omega) (fun i hi => absurd hi (by omega)) (by omega)
      · have q34_ : e33.toInt = (0 : Int32).toInt := by rw [q34]
        have hLw := (show (m_LR (m_VR fb (fb 4) (fb 5)) (fb 0).toInt.toNat) w.toInt.toNat = false by rw [← hgl _ (by omega)]; unfold m_gl; rw [hg_e33]; have h8 : e33 = 0 := (by assumption); rw [decide_eq_true h8]; rfl)
        refine lv_aload_n hx hb toX9_d37 rfl (lv_at hl 0 rfl) ?_
        refine lv_iconst hx hb toX9_d38 (v := 1) (by decide) ?_
        have ec1 : (1 : Int32).toInt = 1 := by decide
        refine lv_bipush hx hb toX9_d39 (v := (-20)) (by decide) ?_
        have ecm20 : ((-20) : Int32).toInt = (-20) := by decide
        refine y_call (z := (0, 76, 3, some 17, xM142)) (av := [.ref this, .int (1 : Int32), .int ((-20) : Int32)]) (rest := []) (y_cokV (n := 2) (ci := 12) X ym_refuses rfl rfl rfl (x_cons (x_bw68 7 rfl rfl) (x_cons (x_bw68 9 rfl rfl) (x_cons (x_at 33 (by decide +kernel) rfl) (x_cons (x_bw0 9 rfl rfl) x_nilm)))) (x_bw68 10 rfl rfl) (by decide +kernel) ⟨Nat.le_of_ble_eq_true rfl, Nat.le_of_ble_eq_true rfl⟩) hY0 hI rfl toX9_d41 hl.1 (Nat.le_of_ble_eq_true rfl) (Nat.le_of_ble_eq_true rfl) (Nat.le_of_ble_eq_true rfl) (y_cons (y_cref hY_this rfl) (y_cons ⟨_, rfl, by show (0 : Int) ≤ _; omega, by show _ ≤ (2 : Int); omega⟩ (y_cons ⟨_, rfl, x_i32 _⟩ y_nil))) rfl (y_recv rfl hY_this) trivial (y_sub_ef rfl) fun v Yn o Hn L ho hr ha hIn hx_ hE hP => ?_
        replace hs_bk := y_Efld hE hY_this rfl (by decide) (by decide) hs_bk
        replace hs_se := y_Efld hE hY_this rfl (by decide) (by decide) hs_se
        replace hs_lw := y_Efld hE hY_this rfl (by decide) (by decide) hs_lw
        replace hs_fr := y_Efld hE hY_this rfl (by decide) (by decide) hs_fr
        replace hs_rd := y_Efld hE hY_this rfl (by decide) (by decide) hs_rd
        replace hs_wt := y_Efld hE hY_this rfl (by decide) (by decide) hs_wt
        replace hA_bk := hA_bk.kept (y_Earr hE hY_bk rfl (by decide))
        replace hA_rd := hA_rd.kept (y_Earr hE hY_rd rfl (by decide))
        replace hA_wt := hA_wt.kept (y_Earr hE hY_wt rfl (by decide))
        replace hA_se := hA_se.kept (y_Earr hE hY_se rfl (by decide))
        replace hA_lw := hA_lw.kept (y_Earr hE hY_lw rfl (by decide))
        replace hY_this := y_ext hx_ hI.1 hY_this
        replace hY_bk := y_ext hx_ hI.1 hY_bk
        replace hY_se := y_ext hx_ hI.1 hY_se
        replace hY_lw := y_ext hx_ hI.1 hY_lw
        replace hY_fr := y_ext hx_ hI.1 hY_fr
        replace hY_rd := y_ext hx_ hI.1 hY_rd
        replace hY_wt := y_ext hx_ hI.1 hY_wt
        obtain rfl := hP _ _ _ rfl
        clear ho hr ha hE hP hI hx_
        rename x_I _ _ _ _ _ _ _ _ _ _ => hI
        exact y_ireturn B hI rfl rfl rfl List.mem_cons_self ⟨_, rfl, ⟨_, rfl, x_i32 _⟩⟩ (x_cs.mono B.2.2.2.2.2 (y_mon B hI)) (fun t' b' w0' w1' f' h1 h2 h3 h4 => by cases h1; cases h2.symm.trans hs0; cases z_uniq h4 hA0 h3 hcn; exact ⟨_, rfl, fun _ q9 => (by rw [hLw] at q9; cases q9), fun _ _ => rfl, fun q9 => absurd hok q9⟩) (Nat.le_refl _) (Nat.le_refl _) toX9_d44
    · have q13_ : r10.toInt = (0 : Int32).toInt := by rw [q13]
      have hno : ¬ (m_isS fb w ∧ m_isH fb t) := fun q9 => by first | (have h8 := hout_r2 (by assumption); have h7 := q9.1; unfold m_isS at h7; omega) | exact hout_r10 (by assumption) q9.2
      refine lv_aload_n hx hb toX9_d16 rfl (lv_at hl 0 rfl) ?_
      refine lv_iconst hx hb toX9_d17 (v := 0) (by decide) ?_
      refine lv_bipush hx hb toX9_d18 (v := (-10)) (by decide) ?_
      have ecm10 : ((-10) : Int32).toInt = (-10) := by decide
      refine y_call (z := (0, 76, 3, some 17, xM142)) (av := [.ref this, .int (0 : Int32), .int ((-10) : Int32)]) (rest := []) (y_cokV (n := 2) (ci := 12) X ym_refuses rfl rfl rfl (x_cons (x_bw68 7 rfl rfl) (x_cons (x_bw68 9 rfl rfl) (x_cons (x_at 33 (by decide +kernel) rfl) (x_cons (x_bw0 9 rfl rfl) x_nilm)))) (x_bw68 10 rfl rfl) (by decide +kernel) ⟨Nat.le_of_ble_eq_true rfl, Nat.le_of_ble_eq_true rfl⟩) hY0 hI rfl toX9_d20 hl.1 (Nat.le_of_ble_eq_true rfl) (Nat.le_of_ble_eq_true rfl) (Nat.le_of_ble_eq_true rfl) (y_cons (y_cref hY_this rfl) (y_cons ⟨_, rfl, by show (0 : Int) ≤ _; omega, by show _ ≤ (2 : Int); omega⟩ (y_cons ⟨_, rfl, x_i32 _⟩ y_nil))) rfl (y_recv rfl hY_this) trivial (y_sub_ef rfl) fun v Yn o Hn L ho hr ha hIn hx_ hE hP => ?_
      replace hs_bk := y_Efld hE hY_this rfl (by decide) (by decide) hs_bk
      replace hs_se := y_Efld hE hY_this rfl (by decide) (by decide) hs_se
      replace hs_lw := y_Efld hE hY_this rfl (by decide) (by decide) hs_lw
      replace hs_fr := y_Efld hE hY_this rfl (by decide) (by decide) hs_fr
      replace hs_rd := y_Efld hE hY_this rfl (by decide) (by decide) hs_rd
      replace hs_wt := y_Efld hE hY_this rfl (by decide) (by decide) hs_wt
      replace hA_bk := hA_bk.kept (y_Earr hE hY_bk rfl (by decide))
      replace hA_rd := hA_rd.kept (y_Earr hE hY_rd rfl (by decide))
      replace hA_wt := hA_wt.kept (y_Earr hE hY_wt rfl (by decide))
      replace hY_this := y_ext hx_ hI.1 hY_this
      replace hY_bk := y_ext hx_ hI.1 hY_bk
      replace hY_se := y_ext hx_ hI.1 hY_se
      replace hY_lw := y_ext hx_ hI.1 hY_lw
      replace hY_fr := y_ext hx_ hI.1 hY_fr
      replace hY_rd := y_ext hx_ hI.1 hY_rd
      replace hY_wt := y_ext hx_ hI.1 hY_wt
      obtain rfl := hP _ _ _ rfl
      clear ho hr ha hE hP hI hx_
      rename x_I _ _ _ _ _ _ _ _ _ _ => hI
      exact y_ireturn B hI rfl rfl rfl List.mem_cons_self ⟨_, rfl, ⟨_, rfl, x_i32 _⟩⟩ (x_cs.mono B.2.2.2.2.2 (y_mon B hI)) (fun t' b' w0' w1' f' h1 h2 h3 h4 => by cases h1; cases h2.symm.trans hs0; cases z_uniq h4 hA0 h3 hcn; exact ⟨_, rfl, fun q9 => absurd q9 hno, fun q9 => absurd q9 hno, fun _ => rfl⟩) (Nat.le_refl _) (Nat.le_refl _) toX9_d23

