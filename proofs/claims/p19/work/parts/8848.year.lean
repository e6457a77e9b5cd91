/-! YEARS, HOURS: bits of those in which a SET is lawful -/
def m_lc (V : Nat → Int32) (w : Int32) : Bool := !(m_any (m_wr V w) 10)
def m_hrC (f : Nat → Int32) (w : Int32) (k : Nat) : Bool := m_lc (m_VC f (f 4) (f (116 + k)) 0) w
def m_bitsOf (ok : Prop) (c : Nat → Bool) (K : Nat) (r : Int32) : Prop := (ok → r = m_gg c 0 K) ∧ (¬ ok → r = -2)
theorem m_or0 {x : Int32} : x ||| 0 = x := m_bi_ext fun j _ => by rw [m_bi_or, m_bi_0, Bool.or_false]
def z_Pili : yP := fun D av Y H v _ H' => ∀ (this ld ey en ed : Nat) (k w : Int32) (f fn fd : Nat → Int32) (y : Int32), av = [.ref this, .int k, .int w] → x_sl D 11 0 this H = some (.ref ld) → x_sl D 11 4 this H = some (.ref ey) → x_sl D 0 2 ey H = some (.ref en) → x_sl D 0 3 ey H = some (.ref ed) → z_L D Y ld H f → y_A en 100 H fn → y_A ed 100 H fd → (∀ a b : Nat, a < b → (b : Int) < (f 0).toInt → m_gok fn fd f y a b) → v = some (.int (m_b (m_lc (m_VC f y (f (116 + k.toInt.toNat)) 0) w)))
theorem iliq_d0 : decode xM81.2.1 0 = .ok (.aload_n 0, 1) := dz_ok (by decide +kernel)
theorem iliq_d1 : decode xM81.2.1 1 = .ok (.getfield 33, 3) := dz_ok (by decide +kernel)
theorem iliq_d4 : decode xM81.2.1 4 = .ok (.aload_n 0, 1) := dz_ok (by decide +kernel)
theorem iliq_d5 : decode xM81.2.1 5 = .ok (.getfield 12, 3) := dz_ok (by decide +kernel)
theorem iliq_d8 : decode xM81.2.1 8 = .ok (.aload_n 0, 1) := dz_ok (by decide +kernel)
theorem iliq_d9 : decode xM81.2.1 9 = .ok (.getfield 12, 3) := dz_ok (by decide +kernel)
theorem iliq_d12 : decode xM81.2.1 12 = .ok (.getfield 207, 3) := dz_ok (by decide +kernel)
theorem iliq_d15 : decode xM81.2.1 15 = .ok (.iload_n 1, 1) := dz_ok (by decide +kernel)
theorem iliq_d16 : decode xM81.2.1 16 = .ok (.iaload, 1) := dz_ok (by decide +kernel)
theorem iliq_d17 : decode xM81.2.1 17 = .ok (.iconst 0, 1) := dz_ok (by decide +kernel)
theorem iliq_d18 : decode xM81.2.1 18 = .ok (.invokevirtual 204, 3) := dz_ok (by decide +kernel)
theorem iliq_d21 : decode xM81.2.1 21 = .ok (.aload_n 0, 1) := dz_ok (by decide +kernel)
theorem iliq_d22 : decode xM81.2.1 22 = .ok (.getfield 33, 3) := dz_ok (by decide +kernel)
theorem iliq_d25 : decode xM81.2.1 25 = .ok (.iload_n 2, 1) := dz_ok (by decide +kernel)
theorem iliq_d26 : decode xM81.2.1 26 = .ok (.invokevirtual 172, 3) := dz_ok (by decide +kernel)
theorem iliq_d29 : decode xM81.2.1 29 = .ok (.iconst (-1), 1) := dz_ok (by decide +kernel)
theorem iliq_d30 : decode xM81.2.1 30 = .ok (.if_icmp .ne 7, 3) := dz_ok (by decide +kernel)
theorem iliq_d33 : decode xM81.2.1 33 = .ok (.iconst 1, 1) := dz_ok (by decide +kernel)
theorem iliq_d34 : decode xM81.2.1 34 = .ok (.goto 4, 3) := dz_ok (by decide +kernel)
theorem iliq_d37 : decode xM81.2.1 37 = .ok (.iconst 0, 1) := dz_ok (by decide +kernel)
theorem iliq_d38 : decode xM81.2.1 38 = .ok (.ireturn, 1) := dz_ok (by decide +kernel)
theorem ym_isLawIn : y_Met vwCl x_G x_Zs x_Tb x_Nb xM81 z_AT1 z_Pili := by
  refine y_main (by decide +kernel) (by decide +kernel) x_Tb_good x_Nb_ok ?_
  intro p l e s m below meth c D U Y0 av ls B hI hpre hl
  have X := B.1
  have hx := X.1
  have hb := X.2.1
  have hY0 := B.2.2.2.2.1
  obtain ⟨v0, v1, v2, rfl, hv0, ⟨k, rfl, hk⟩, ⟨w, rfl, -⟩⟩ := y_three B.2.2.2.2.2
  replace hk : (0 : Int) ≤ k.toInt ∧ k.toInt ≤ 11 := hk
  obtain ⟨this, t0, rfl, ht0, hY_this⟩ := x_ref_at hv0 rfl
  obtain rfl := List.mem_singleton.mp ht0
  replace hl : lv_has ls xM81.2.2.1 [(0, .ref this), (1, .int k), (2, .int w)] := hl
  obtain ⟨ld, hs_ld, hY_ld⟩ := y_fldR (k := 0) hI.1 hY_this rfl rfl
  obtain ⟨ey, hs_ey, hY_ey⟩ := y_fldR (k := 4) hI.1 hY_this rfl rfl
  obtain ⟨vw, hs_vw, hY_vw⟩ := y_fldR (k := 1) hI.1 hY_ey rfl rfl
  obtain ⟨en, hs_en, hY_en⟩ := y_fldR (k := 2) hI.1 hY_ey rfl rfl
  obtain ⟨ed, hs_ed, hY_ed⟩ := y_fldR (k := 3) hI.1 hY_ey rfl rfl
  obtain ⟨fn, hA_en, -⟩ := y_arr hI.1 hY_en rfl rfl
  obtain ⟨fd, hA_ed, -⟩ := y_arr hI.1 hY_ed rfl rfl
  obtain ⟨f, hL⟩ := hpre _ _ rfl hs_ld
  have hL0 := hL
  have hn0 := hL.1.1
  have hb0 : 0 ≤ (f 0).toInt ∧ (f 0).toInt ≤ 10 := by obtain ⟨x9, e9, b9⟩ := y_fldI (k := 0) hI.1 hY_ld rfl rfl; rw [hn0] at e9; cases e9; exact b9
  have hs0 := hs_ld
  have hs4 := hs_ey
  have hs2 := hs_en
  have hs3 := hs_ed
  have hAn0 := hA_en
  have hAd0 := hA_ed
  obtain ⟨amists, hs_amists, hY_amists, hA_amists⟩ := hL.2.1 (11, 28, 12, 116, 1) (by decide)
  replace hA_amists : y_A amists 12 s.heap (fun j => f (116 + 1 * j)) := hA_amists
  refine lv_aload_n hx hb iliq_d0 rfl (lv_at hl 0 rfl) ?_
  refine y_getf X (fl102 X.2.2.2.2.1) hI.1 hY_this rfl hs_ey iliq_d1 ?_
  refine lv_aload_n hx hb iliq_d4 rfl (lv_at hl 0 rfl) ?_
  refine y_getf X (fl8 X.2.2.2.2.1) hI.1 hY_this rfl hs_ld iliq_d5 ?_
  refine lv_aload_n hx hb iliq_d8 rfl (lv_at hl 0 rfl) ?_
  refine y_getf X (fl8 X.2.2.2.2.1) hI.1 hY_this rfl hs_ld iliq_d9 ?_
  refine y_getf X (fl137 X.2.2.2.2.1) hI.1 hY_ld rfl hs_amists iliq_d12 ?_
  refine lv_iload_n hx hb iliq_d15 rfl (lv_at hl 1 rfl) ?_
  refine y_iald X hI.1 hY_amists rfl hA_amists (by omega) (by show _ < (12 : Int); omega) iliq_d16 ?_
  obtain ⟨e16, hg_e16⟩ : ∃ e16 : Int32, f (116 + 1 * k.toInt.toNat) = e16 := ⟨_, rfl⟩
  rw [hg_e16]
  refine lv_iconst hx hb iliq_d17 (v := 0) (by decide) ?_
  have ec0 : (0 : Int32).toInt = 0 := by decide
  refine y_call (z := (0, 204, 4, some 6, xM51)) (av := [.ref ey, .ref ld, .int e16, .int (0 : Int32)]) (rest := []) (y_cokV (n := 3) (ci := 0) X ym_veil rfl rfl rfl (x_cons (x_bw32 11 rfl rfl) (x_cons (x_bw32 12 rfl rfl) (x_cons (x_bw32 13 rfl rfl) (x_cons (x_bw0 6 rfl rfl) x_nilm)))) (x_bw32 14 rfl rfl) (by decide +kernel) ⟨Nat.le_of_ble_eq_true rfl, Nat.le_of_ble_eq_true rfl⟩) hY0 hI rfl iliq_d18 hl.1 (Nat.le_of_ble_eq_true rfl) (Nat.le_of_ble_eq_true rfl) (Nat.le_of_ble_eq_true rfl) (y_cons (y_cref hY_ey rfl) (y_cons (y_cref hY_ld rfl) (y_cons ⟨_, rfl, x_i32 _⟩ (y_cons ⟨_, rfl, x_i32 _⟩ y_nil)))) rfl (y_recv rfl hY_ey) (fun t' h1 => by cases h1; exact ⟨_, hL⟩) (y_sub_ef rfl) fun v Yn o Hn L ho hr ha hIn hx_ hE hP => ?_
  have hPv := hP _ _ _ _ _ _ _ _ _ _ rfl hs_vw hs_en hs_ed hL hA_en hA_ed
  replace hs_ld := y_Efld hE hY_this rfl (by decide) (by decide) hs_ld
  replace hs_ey := y_Efld hE hY_this rfl (by decide) (by decide) hs_ey
  replace hs_vw := y_Efld hE hY_ey rfl (by decide) (by decide) hs_vw
  replace hs_en := y_Efld hE hY_ey rfl (by decide) (by decide) hs_en
  replace hs_ed := y_Efld hE hY_ey rfl (by decide) (by decide) hs_ed
  replace hs_amists := y_Efld hE hY_ld rfl (by decide) (by decide) hs_amists
  replace hA_amists := hA_amists.kept (y_Earr hE hY_amists rfl (by decide))
  replace hA_en := hA_en.kept (y_Earr hE hY_en rfl (by decide))
  replace hA_ed := hA_ed.kept (y_Earr hE hY_ed rfl (by decide))
  replace hL := hL.E hY_ld hE (fun q u h => y_ext hx_ hI.1 h) (by decide +kernel)
  replace hY_this := y_ext hx_ hI.1 hY_this
  replace hY_ld := y_ext hx_ hI.1 hY_ld
  replace hY_ey := y_ext hx_ hI.1 hY_ey
  replace hY_vw := y_ext hx_ hI.1 hY_vw
  replace hY_en := y_ext hx_ hI.1 hY_en
  replace hY_ed := y_ext hx_ hI.1 hY_ed
  replace hY_amists := y_ext hx_ hI.1 hY_amists
  obtain rfl := y_ansV rfl ho hr
  obtain ⟨V9, hV9⟩ : ∃ V9, m_vw (m_vk fn fd f e16 0) (f 0).toInt.toNat = V9 := ⟨_, rfl⟩
  have hA_vw := hPv
  rw [hV9] at hA_vw
  clear ho hr ha hE hP hI hx_
  rename x_I _ _ _ _ _ _ _ _ _ _ => hI
  refine lv_aload_n hx hb iliq_d21 rfl (lv_at hl 0 rfl) ?_
  refine y_getf X (fl102 X.2.2.2.2.1) hI.1 hY_this rfl hs_ey iliq_d22 ?_
  refine lv_iload_n hx hb iliq_d25 rfl (lv_at hl 2 rfl) ?_
  refine y_call (z := (0, 172, 2, some 6, xM72)) (av := [.ref ey, .int w]) (rest := []) (y_cokV (n := 1) (ci := 0) X ym_firstWrong rfl rfl rfl (x_cons (x_bw42 10 rfl rfl) (x_cons (x_bw42 11 rfl rfl) (x_cons (x_bw42 12 rfl rfl) (x_cons (x_bw0 6 rfl rfl) x_nilm)))) (x_bw42 13 rfl rfl) (by decide +kernel) ⟨Nat.le_of_ble_eq_true rfl, Nat.le_of_ble_eq_true rfl⟩) hY0 hI rfl iliq_d26 hl.1 (Nat.le_of_ble_eq_true rfl) (Nat.le_of_ble_eq_true rfl) (Nat.le_of_ble_eq_true rfl) (y_cons (y_cref hY_ey rfl) (y_cons ⟨_, rfl, x_i32 _⟩ y_nil)) rfl (y_recv rfl hY_ey) trivial (y_sub_ef rfl) fun v Yn o Hn L ho hr ha hIn hx_ hE hP => ?_
  have hPw := hP _ _ _ _ rfl hs_vw hA_vw
  replace hs_ld := y_Efld hE hY_this rfl (by decide) (by decide) hs_ld
  replace hs_ey := y_Efld hE hY_this rfl (by decide) (by decide) hs_ey
  replace hs_vw := y_Efld hE hY_ey rfl (by decide) (by decide) hs_vw
  replace hs_en := y_Efld hE hY_ey rfl (by decide) (by decide) hs_en
  replace hs_ed := y_Efld hE hY_ey rfl (by decide) (by decide) hs_ed
  replace hs_amists := y_Efld hE hY_ld rfl (by decide) (by decide) hs_amists
  replace hA_amists := hA_amists.kept (y_Earr hE hY_amists rfl (by decide))
  replace hA_en := hA_en.kept (y_Earr hE hY_en rfl (by decide))
  replace hA_ed := hA_ed.kept (y_Earr hE hY_ed rfl (by decide))
  replace hA_vw := hA_vw.kept (y_Earr hE hY_vw rfl (by decide))
  replace hL := hL.E hY_ld hE (fun q u h => y_ext hx_ hI.1 h) (by decide +kernel)
  replace hY_this := y_ext hx_ hI.1 hY_this
  replace hY_ld := y_ext hx_ hI.1 hY_ld
  replace hY_ey := y_ext hx_ hI.1 hY_ey
  replace hY_vw := y_ext hx_ hI.1 hY_vw
  replace hY_en := y_ext hx_ hI.1 hY_en
  replace hY_ed := y_ext hx_ hI.1 hY_ed
  replace hY_amists := y_ext hx_ hI.1 hY_amists
  obtain ⟨r26, rfl, hfw_26⟩ := hPw
  clear ho hr ha hE hP hI hx_
  rename x_I _ _ _ _ _ _ _ _ _ _ => hI
  refine lv_iconst hx hb iliq_d29 (v := (-1)) (by decide) ?_
  have ecm1 : ((-1) : Int32).toInt = (-1) := by decide
  refine lv_icmp_ne hx hb iliq_d30 (tgt := 37) (by decide) (fun q30 => ?_) (fun q30 => ?_)
  · have q30_ : ¬ r26.toInt = ((-1) : Int32).toInt := fun q => q30 (Int32.toInt_inj.mp q)
    refine lv_iconst hx hb iliq_d37 (v := 0) (by decide) ?_
    exact y_ireturn B hI rfl rfl rfl (List.mem_cons_of_mem _ List.mem_cons_self) ⟨_, rfl, ⟨_, rfl, by decide, by decide⟩⟩ (x_cs.mono B.2.2.2.2.2 (y_mon B hI)) (fun t' d' e' n' m' k' w' f' fn' fd' y' h1 h2 h3 h4 h5 h6 h7 h8 h9 => by cases h1; cases h2.symm.trans hs0; cases h3.symm.trans hs4; cases h4.symm.trans hs2; cases h5.symm.trans hs3; cases h6.uniq hL0; have eV : ∀ i, i < 10 → V9 i = m_VC f y' (f (116 + k.toInt.toNat)) 0 i := (fun i hi => by rw [← hV9]; refine m_vw_congr fun p q q1 q2 => ?_; have h10 := m_vk_ok (mi := f (116 + k.toInt.toNat)) (wk := 0) (h9 p q q1 (by omega)); rw [← h10, show f (116 + k.toInt.toNat) = e16 from by rw [← hg_e16, Nat.one_mul]]; unfold m_vk; rw [z_AR h7 hAn0 (by omega), z_AR h8 hAd0 (by omega)]); refine congrArg (fun x => some (Value.int x)) ?_; unfold m_lc; rw [show m_any (m_wr (m_VC f y' (f (116 + k.toInt.toNat)) 0) w) 10 = m_any (m_wr V9 w) 10 from m_any_congr fun i hi => by unfold m_wr; rw [eV i hi]]; cases hX : m_any (m_wr V9 w) 10 with | false => exact absurd ((m_fw_LC hfw_26).mpr hX) (by assumption) | true => rfl) (Nat.le_refl _) (Nat.le_refl _) iliq_d38
  · have q30_ : r26.toInt = ((-1) : Int32).toInt := by rw [q30]
    refine lv_iconst hx hb iliq_d33 (v := 1) (by decide) ?_
    have ec1 : (1 : Int32).toInt = 1 := by decide
    refine lv_goto hx hb iliq_d34 (tgt := 38) (by decide) ?_
    exact y_ireturn B hI rfl rfl rfl List.mem_cons_self ⟨_, rfl, ⟨_, rfl, by decide, by decide⟩⟩ (x_cs.mono B.2.2.2.2.2 (y_mon B hI)) (fun t' d' e' n' m' k' w' f' fn' fd' y' h1 h2 h3 h4 h5 h6 h7 h8 h9 => by cases h1; cases h2.symm.trans hs0; cases h3.symm.trans hs4; cases h4.symm.trans hs2; cases h5.symm.trans hs3; cases h6.uniq hL0; have eV : ∀ i, i < 10 → V9 i = m_VC f y' (f (116 + k.toInt.toNat)) 0 i := (fun i hi => by rw [← hV9]; refine m_vw_congr fun p q q1 q2 => ?_; have h10 := m_vk_ok (mi := f (116 + k.toInt.toNat)) (wk := 0) (h9 p q q1 (by omega)); rw [← h10, show f (116 + k.toInt.toNat) = e16 from by rw [← hg_e16, Nat.one_mul]]; unfold m_vk; rw [z_AR h7 hAn0 (by omega), z_AR h8 hAd0 (by omega)]); refine congrArg (fun x => some (Value.int x)) ?_; unfold m_lc; rw [show m_any (m_wr (m_VC f y' (f (116 + k.toInt.toNat)) 0) w) 10 = m_any (m_wr V9 w) 10 from m_any_congr fun i hi => by unfold m_wr; rw [eV i hi]]; rw [(m_fw_LC hfw_26).mp (by assumption)]; rfl) (Nat.le_refl _) (Nat.le_refl _) iliq_d38

