def z_Pgn : yP := fun D av Y H _ _ H' => ∀ (this ld ey vw ro sr : Nat) (f : Nat → Int32), av = [.ref this] → x_sl D 11 0 this H = some (.ref ld) → x_sl D 11 4 this H = some (.ref ey) → x_sl D 0 1 ey H = some (.ref vw) → x_sl D 11 5 this H = some (.ref ro) → x_sl D 5 0 ro H = some (.ref sr) → z_L D Y ld H f → y_A vw 10 H' (m_VC f (f 4) (f 5) 0) ∧ ∃ (fo : Int32) (fr : Nat → Int32), x_sl D 5 1 ro H' = some (.int fo) ∧ y_A sr 1024 H' fr ∧ fo.toInt = (m_cn (m_LC (m_VC f (f 4) (f 5) 0)) (2 ^ (f 0).toInt.toNat) : Nat) ∧ m_sets (m_LC (m_VC f (f 4) (f 5) 0)) (2 ^ (f 0).toInt.toNat) fr
theorem gnq_d0 : decode xM1000.2.1 0 = .ok (.aload_n 0, 1) := dz_ok (by decide +kernel)
theorem gnq_d1 : decode xM1000.2.1 1 = .ok (.getfield 33, 3) := dz_ok (by decide +kernel)
theorem gnq_d4 : decode xM1000.2.1 4 = .ok (.aload_n 0, 1) := dz_ok (by decide +kernel)
theorem gnq_d5 : decode xM1000.2.1 5 = .ok (.getfield 12, 3) := dz_ok (by decide +kernel)
theorem gnq_d8 : decode xM1000.2.1 8 = .ok (.aload_n 0, 1) := dz_ok (by decide +kernel)
theorem gnq_d9 : decode xM1000.2.1 9 = .ok (.getfield 12, 3) := dz_ok (by decide +kernel)
theorem gnq_d12 : decode xM1000.2.1 12 = .ok (.getfield 95, 3) := dz_ok (by decide +kernel)
theorem gnq_d15 : decode xM1000.2.1 15 = .ok (.iconst 0, 1) := dz_ok (by decide +kernel)
theorem gnq_d16 : decode xM1000.2.1 16 = .ok (.iaload, 1) := dz_ok (by decide +kernel)
theorem gnq_d17 : decode xM1000.2.1 17 = .ok (.invokevirtual 200, 3) := dz_ok (by decide +kernel)
theorem gnq_d20 : decode xM1000.2.1 20 = .ok (.aload_n 0, 1) := dz_ok (by decide +kernel)
theorem gnq_d21 : decode xM1000.2.1 21 = .ok (.getfield 33, 3) := dz_ok (by decide +kernel)
theorem gnq_d24 : decode xM1000.2.1 24 = .ok (.aload_n 0, 1) := dz_ok (by decide +kernel)
theorem gnq_d25 : decode xM1000.2.1 25 = .ok (.getfield 12, 3) := dz_ok (by decide +kernel)
theorem gnq_d28 : decode xM1000.2.1 28 = .ok (.aload_n 0, 1) := dz_ok (by decide +kernel)
theorem gnq_d29 : decode xM1000.2.1 29 = .ok (.getfield 12, 3) := dz_ok (by decide +kernel)
theorem gnq_d32 : decode xM1000.2.1 32 = .ok (.getfield 95, 3) := dz_ok (by decide +kernel)
theorem gnq_d35 : decode xM1000.2.1 35 = .ok (.iconst 1, 1) := dz_ok (by decide +kernel)
theorem gnq_d36 : decode xM1000.2.1 36 = .ok (.iaload, 1) := dz_ok (by decide +kernel)
theorem gnq_d37 : decode xM1000.2.1 37 = .ok (.iconst 0, 1) := dz_ok (by decide +kernel)
theorem gnq_d38 : decode xM1000.2.1 38 = .ok (.invokevirtual 204, 3) := dz_ok (by decide +kernel)
theorem gnq_d41 : decode xM1000.2.1 41 = .ok (.aload_n 0, 1) := dz_ok (by decide +kernel)
theorem gnq_d42 : decode xM1000.2.1 42 = .ok (.getfield 40, 3) := dz_ok (by decide +kernel)
theorem gnq_d45 : decode xM1000.2.1 45 = .ok (.aload_n 0, 1) := dz_ok (by decide +kernel)
theorem gnq_d46 : decode xM1000.2.1 46 = .ok (.getfield 33, 3) := dz_ok (by decide +kernel)
theorem gnq_d49 : decode xM1000.2.1 49 = .ok (.aload_n 0, 1) := dz_ok (by decide +kernel)
theorem gnq_d50 : decode xM1000.2.1 50 = .ok (.getfield 12, 3) := dz_ok (by decide +kernel)
theorem gnq_d53 : decode xM1000.2.1 53 = .ok (.getfield 273, 3) := dz_ok (by decide +kernel)
theorem gnq_d56 : decode xM1000.2.1 56 = .ok (.invokevirtual 317, 3) := dz_ok (by decide +kernel)
theorem gnq_d59 : decode xM1000.2.1 59 = .ok (.return_, 1) := dz_ok (by decide +kernel)
theorem ym_gatherNow : y_Met vwCl x_G x_Zs x_Tb x_Nb xM1000 z_AT1 z_Pgn := by
  refine y_main (by decide +kernel) (by decide +kernel) x_Tb_good x_Nb_ok ?_
  intro p l e s m below meth c D U Y0 av ls B hI hpre hl
  have X := B.1
  have hx := X.1
  have hb := X.2.1
  have hY0 := B.2.2.2.2.1
  obtain ⟨v0, rfl, hv0⟩ := x_one B.2.2.2.2.2
  obtain ⟨this, t0, rfl, ht0, hY_this⟩ := x_ref_at hv0 rfl
  obtain rfl := List.mem_singleton.mp ht0
  replace hl : lv_has ls xM1000.2.2.1 [(0, .ref this)] := hl
  obtain ⟨ld, hs_ld, hY_ld⟩ := y_fldR (k := 0) hI.1 hY_this rfl rfl
  obtain ⟨ey, hs_ey, hY_ey⟩ := y_fldR (k := 4) hI.1 hY_this rfl rfl
  obtain ⟨ro, hs_ro, hY_ro⟩ := y_fldR (k := 5) hI.1 hY_this rfl rfl
  obtain ⟨vw, hs_vw, hY_vw⟩ := y_fldR (k := 1) hI.1 hY_ey rfl rfl
  obtain ⟨en, hs_en, hY_en⟩ := y_fldR (k := 2) hI.1 hY_ey rfl rfl
  obtain ⟨ed, hs_ed, hY_ed⟩ := y_fldR (k := 3) hI.1 hY_ey rfl rfl
  obtain ⟨sr, hs_sr, hY_sr⟩ := y_fldR (k := 0) hI.1 hY_ro rfl rfl
  have hs0 := hs_ld
  have hs4 := hs_ey
  have hs1 := hs_vw
  have hs5 := hs_ro
  have hs6 := hs_sr
  obtain ⟨f, hL⟩ := hpre _ _ rfl hs_ld
  have hL0 := hL
  have hn0 := hL.1.1
  have hd0 : 0 ≤ (f 0).toInt ∧ (f 0).toInt ≤ 10 := by
    obtain ⟨x9, e9, b9⟩ := y_fldI (k := 0) hI.1 hY_ld rfl rfl
    rw [hn0] at e9
    cases e9
    exact b9
  obtain ⟨adial, hs_adial, hY_adial, hA_adial⟩ := hL.2.1 (10, 27, 4, 4, 1) (by decide)
  replace hA_adial : y_A adial 4 s.heap (fun j => f (4 + 1 * j)) := hA_adial
  refine lv_aload_n hx hb gnq_d0 rfl (lv_at hl 0 rfl) ?_
  refine y_getf X (fl102 X.2.2.2.2.1) hI.1 hY_this rfl hs_ey gnq_d1 ?_
  refine lv_aload_n hx hb gnq_d4 rfl (lv_at hl 0 rfl) ?_
  refine y_getf X (fl8 X.2.2.2.2.1) hI.1 hY_this rfl hs_ld gnq_d5 ?_
  refine lv_aload_n hx hb gnq_d8 rfl (lv_at hl 0 rfl) ?_
  refine y_getf X (fl8 X.2.2.2.2.1) hI.1 hY_this rfl hs_ld gnq_d9 ?_
  refine y_getf X (fl58 X.2.2.2.2.1) hI.1 hY_ld rfl hs_adial gnq_d12 ?_
  refine lv_iconst hx hb gnq_d15 (v := 0) (by decide) ?_
  have ec0 : (0 : Int32).toInt = 0 := by decide
  refine y_iald X hI.1 hY_adial rfl hA_adial (by omega) (by show _ < (4 : Int); omega) gnq_d16 ?_
  obtain ⟨e16, hg_e16⟩ : ∃ e16 : Int32, f (4 + 1 * (0 : Int32).toInt.toNat) = e16 := ⟨_, rfl⟩
  rw [hg_e16]
  refine y_call (z := (0, 200, 3, some 6, xM49)) (av := [.ref ey, .ref ld, .int e16]) (rest := []) (y_cokV (n := 2) (ci := 0) X ym_gatherE rfl rfl rfl (x_cons (x_bw30 0 rfl rfl) (x_cons (x_bw30 1 rfl rfl) (x_cons (x_bw30 2 rfl rfl) (x_cons (x_bw0 6 rfl rfl) x_nilm)))) (x_bw30 3 rfl rfl) (by decide +kernel) ⟨Nat.le_of_ble_eq_true rfl, Nat.le_of_ble_eq_true rfl⟩) hY0 hI rfl gnq_d17 hl.1 (Nat.le_of_ble_eq_true rfl) (Nat.le_of_ble_eq_true rfl) (Nat.le_of_ble_eq_true rfl) (y_cons (y_cref hY_ey rfl) (y_cons (y_cref hY_ld rfl) (y_cons ⟨_, rfl, x_i32 _⟩ y_nil))) rfl (y_recv rfl hY_ey) (fun t' h1 => by cases h1; exact ⟨_, hL⟩) (y_sub_ef rfl) fun v Yn o Hn L ho hr ha hIn hx_ hE hP => ?_
  have hPg := hP _ _ _ _ _ _ rfl hs_en hs_ed hL
  replace hs_ld := y_Efld hE hY_this rfl (by decide) (by decide) hs_ld
  replace hs_ey := y_Efld hE hY_this rfl (by decide) (by decide) hs_ey
  replace hs_ro := y_Efld hE hY_this rfl (by decide) (by decide) hs_ro
  replace hs_vw := y_Efld hE hY_ey rfl (by decide) (by decide) hs_vw
  replace hs_en := y_Efld hE hY_ey rfl (by decide) (by decide) hs_en
  replace hs_ed := y_Efld hE hY_ey rfl (by decide) (by decide) hs_ed
  replace hs_adial := y_Efld hE hY_ld rfl (by decide) (by decide) hs_adial
  replace hn0 := y_Efld hE hY_ld rfl (by decide) (by decide) hn0
  replace hs_sr := y_Efld hE hY_ro rfl (by decide) (by decide) hs_sr
  replace hA_adial := hA_adial.kept (y_Earr hE hY_adial rfl (by decide))
  replace hL := hL.E hY_ld hE (fun q u h => y_ext hx_ hI.1 h) (by decide +kernel)
  replace hY_this := y_ext hx_ hI.1 hY_this
  replace hY_ld := y_ext hx_ hI.1 hY_ld
  replace hY_ey := y_ext hx_ hI.1 hY_ey
  replace hY_vw := y_ext hx_ hI.1 hY_vw
  replace hY_en := y_ext hx_ hI.1 hY_en
  replace hY_ed := y_ext hx_ hI.1 hY_ed
  replace hY_adial := y_ext hx_ hI.1 hY_adial
  replace hY_ro := y_ext hx_ hI.1 hY_ro
  replace hY_sr := y_ext hx_ hI.1 hY_sr
  obtain rfl := y_ansV rfl ho hr
  obtain ⟨fn, fd, hA_en, hA_ed, hok9⟩ := hPg
  have hd09 : True := trivial
  clear ho hr ha hE hP hI hx_
  rename x_I _ _ _ _ _ _ _ _ _ _ => hI
  refine lv_aload_n hx hb gnq_d20 rfl (lv_at hl 0 rfl) ?_
  refine y_getf X (fl102 X.2.2.2.2.1) hI.1 hY_this rfl hs_ey gnq_d21 ?_
  refine lv_aload_n hx hb gnq_d24 rfl (lv_at hl 0 rfl) ?_
  refine y_getf X (fl8 X.2.2.2.2.1) hI.1 hY_this rfl hs_ld gnq_d25 ?_
  refine lv_aload_n hx hb gnq_d28 rfl (lv_at hl 0 rfl) ?_
  refine y_getf X (fl8 X.2.2.2.2.1) hI.1 hY_this rfl hs_ld gnq_d29 ?_
  refine y_getf X (fl58 X.2.2.2.2.1) hI.1 hY_ld rfl hs_adial gnq_d32 ?_
  refine lv_iconst hx hb gnq_d35 (v := 1) (by decide) ?_
  have ec1 : (1 : Int32).toInt = 1 := by decide
  refine y_iald X hI.1 hY_adial rfl hA_adial (by omega) (by show _ < (4 : Int); omega) gnq_d36 ?_
  obtain ⟨e36, hg_e36⟩ : ∃ e36 : Int32, f (4 + 1 * (1 : Int32).toInt.toNat) = e36 := ⟨_, rfl⟩
  rw [hg_e36]
  refine lv_iconst hx hb gnq_d37 (v := 0) (by decide) ?_
  refine y_call (z := (0, 204, 4, some 6, xM51)) (av := [.ref ey, .ref ld, .int e36, .int (0 : Int32)]) (rest := []) (y_cokV (n := 3) (ci := 0) X ym_veil rfl rfl rfl (x_cons (x_bw32 11 rfl rfl) (x_cons (x_bw32 12 rfl rfl) (x_cons (x_bw32 13 rfl rfl) (x_cons (x_bw0 6 rfl rfl) x_nilm)))) (x_bw32 14 rfl rfl) (by decide +kernel) ⟨Nat.le_of_ble_eq_true rfl, Nat.le_of_ble_eq_true rfl⟩) hY0 hI rfl gnq_d38 hl.1 (Nat.le_of_ble_eq_true rfl) (Nat.le_of_ble_eq_true rfl) (Nat.le_of_ble_eq_true rfl) (y_cons (y_cref hY_ey rfl) (y_cons (y_cref hY_ld rfl) (y_cons ⟨_, rfl, x_i32 _⟩ (y_cons ⟨_, rfl, x_i32 _⟩ y_nil)))) rfl (y_recv rfl hY_ey) (fun t' h1 => by cases h1; exact ⟨_, hL⟩) (y_sub_ef rfl) fun v Yn o Hn L ho hr ha hIn hx_ hE hP => ?_
  have hPv := hP _ _ _ _ _ _ _ _ _ _ rfl hs_vw hs_en hs_ed hL hA_en hA_ed
  replace hs_ld := y_Efld hE hY_this rfl (by decide) (by decide) hs_ld
  replace hs_ey := y_Efld hE hY_this rfl (by decide) (by decide) hs_ey
  replace hs_ro := y_Efld hE hY_this rfl (by decide) (by decide) hs_ro
  replace hs_vw := y_Efld hE hY_ey rfl (by decide) (by decide) hs_vw
  replace hs_en := y_Efld hE hY_ey rfl (by decide) (by decide) hs_en
  replace hs_ed := y_Efld hE hY_ey rfl (by decide) (by decide) hs_ed
  replace hs_adial := y_Efld hE hY_ld rfl (by decide) (by decide) hs_adial
  replace hn0 := y_Efld hE hY_ld rfl (by decide) (by decide) hn0
  replace hs_sr := y_Efld hE hY_ro rfl (by decide) (by decide) hs_sr
  replace hA_adial := hA_adial.kept (y_Earr hE hY_adial rfl (by decide))
  replace hA_en := hA_en.kept (y_Earr hE hY_en rfl (by decide))
  replace hA_ed := hA_ed.kept (y_Earr hE hY_ed rfl (by decide))
  replace hL := hL.E hY_ld hE (fun q u h => y_ext hx_ hI.1 h) (by decide +kernel)
  replace hY_this := y_ext hx_ hI.1 hY_this
  replace hY_ld := y_ext hx_ hI.1 hY_ld
  replace hY_ey := y_ext hx_ hI.1 hY_ey
  replace hY_vw := y_ext hx_ hI.1 hY_vw
  replace hY_en := y_ext hx_ hI.1 hY_en
  replace hY_ed := y_ext hx_ hI.1 hY_ed
  replace hY_adial := y_ext hx_ hI.1 hY_adial
  replace hY_ro := y_ext hx_ hI.1 hY_ro
  replace hY_sr := y_ext hx_ hI.1 hY_sr
  obtain rfl := y_ansV rfl ho hr
  have hA_vw : y_A vw 10 Hn (m_VC f (f 4) (f 5) 0) := z_cpA hPv (fun i hi => (m_vw_congr fun p q h8 h9 => by rw [m_vk_ok (hok9 p q h8 (by omega)), ← hg_e16, ← hg_e36]; rfl).symm)
  clear ho hr ha hE hP hI hx_
  rename x_I _ _ _ _ _ _ _ _ _ _ => hI
  refine lv_aload_n hx hb gnq_d41 rfl (lv_at hl 0 rfl) ?_
  refine y_getf X (fl205 X.2.2.2.2.1) hI.1 hY_this rfl hs_ro gnq_d42 ?_
  refine lv_aload_n hx hb gnq_d45 rfl (lv_at hl 0 rfl) ?_
  refine y_getf X (fl102 X.2.2.2.2.1) hI.1 hY_this rfl hs_ey gnq_d46 ?_
  refine lv_aload_n hx hb gnq_d49 rfl (lv_at hl 0 rfl) ?_
  refine y_getf X (fl8 X.2.2.2.2.1) hI.1 hY_this rfl hs_ld gnq_d50 ?_
  refine y_getf X (fl153 X.2.2.2.2.1) hI.1 hY_ld rfl hn0 gnq_d53 ?_
  refine y_call (z := (0, 317, 3, some 8, xMga)) (av := [.ref ro, .ref ey, .int (f 0)]) (rest := []) (y_cokV (n := 2) (ci := 5) X ym_gatherR rfl rfl rfl (x_cons (x_bw44 0 rfl rfl) (x_cons (x_bw44 1 rfl rfl) (x_cons (x_bw44 2 rfl rfl) (x_cons (x_bw0 8 rfl rfl) x_nilm)))) (x_bw44 3 rfl rfl) (by decide +kernel) ⟨Nat.le_of_ble_eq_true rfl, Nat.le_of_ble_eq_true rfl⟩) hY0 hI rfl gnq_d56 hl.1 (Nat.le_of_ble_eq_true rfl) (Nat.le_of_ble_eq_true rfl) (Nat.le_of_ble_eq_true rfl) (y_cons (y_cref hY_ro rfl) (y_cons (y_cref hY_ey rfl) (y_cons ⟨_, rfl, by show (0 : Int) ≤ _; omega, by show _ ≤ (10 : Int); omega⟩ y_nil))) rfl (y_recv rfl hY_ro) trivial (y_sub_ef rfl) fun v Yn o Hn L ho hr ha hIn hx_ hE hP => ?_
  have hPr := hP _ _ _ _ _ _ rfl hs_vw hA_vw hs_sr
  replace hs_ld := y_Efld hE hY_this rfl (by decide) (by decide) hs_ld
  replace hs_ey := y_Efld hE hY_this rfl (by decide) (by decide) hs_ey
  replace hs_ro := y_Efld hE hY_this rfl (by decide) (by decide) hs_ro
  replace hs_vw := y_Efld hE hY_ey rfl (by decide) (by decide) hs_vw
  replace hs_en := y_Efld hE hY_ey rfl (by decide) (by decide) hs_en
  replace hs_ed := y_Efld hE hY_ey rfl (by decide) (by decide) hs_ed
  replace hs_adial := y_Efld hE hY_ld rfl (by decide) (by decide) hs_adial
  replace hn0 := y_Efld hE hY_ld rfl (by decide) (by decide) hn0
  replace hs_sr := y_Efld hE hY_ro rfl (by decide) (by decide) hs_sr
  replace hA_adial := hA_adial.kept (y_Earr hE hY_adial rfl (by decide))
  replace hA_en := hA_en.kept (y_Earr hE hY_en rfl (by decide))
  replace hA_ed := hA_ed.kept (y_Earr hE hY_ed rfl (by decide))
  replace hA_vw := hA_vw.kept (y_Earr hE hY_vw rfl (by decide))
  replace hL := hL.E hY_ld hE (fun q u h => y_ext hx_ hI.1 h) (by decide +kernel)
  replace hY_this := y_ext hx_ hI.1 hY_this
  replace hY_ld := y_ext hx_ hI.1 hY_ld
  replace hY_ey := y_ext hx_ hI.1 hY_ey
  replace hY_vw := y_ext hx_ hI.1 hY_vw
  replace hY_en := y_ext hx_ hI.1 hY_en
  replace hY_ed := y_ext hx_ hI.1 hY_ed
  replace hY_adial := y_ext hx_ hI.1 hY_adial
  replace hY_ro := y_ext hx_ hI.1 hY_ro
  replace hY_sr := y_ext hx_ hI.1 hY_sr
  obtain rfl := y_ansV rfl ho hr
  obtain ⟨fo, fr, hsi_found, hA_sr, hfo, hse⟩ := hPr
  clear ho hr ha hE hP hI hx_
  rename x_I _ _ _ _ _ _ _ _ _ _ => hI
  exact y_return B hI rfl rfl List.mem_cons_self rfl (x_cs.mono B.2.2.2.2.2 (y_mon B hI)) (fun t' d' e' v' r' s' f' h1 h2 h3 h4 h5 h6 h7 => by cases h1; cases h2.symm.trans hs0; cases h3.symm.trans hs4; cases h4.symm.trans hs1; cases h5.symm.trans hs5; cases h6.symm.trans hs6; cases h7.uniq hL0; exact ⟨hA_vw, fo, fr, hsi_found, hA_sr, hfo, hse⟩) (Nat.le_refl _) (Nat.le_refl _) gnq_d59
def m_alC (f : Nat → Int32) (n r : Int32) : Prop := (-1 ≤ n.toInt ∧ n.toInt ≤ 10 → (n = -1 → r.toInt = (m_cn (m_LC (m_VC f (f 4) (f 5) 0)) (2 ^ (f 0).toInt.toNat) : Nat)) ∧ (¬ n = -1 → r = m_fd (m_LC (m_VC f (f 4) (f 5) 0)) (m_ofSt n) 0 (2 ^ (f 0).toInt.toNat))) ∧ (¬ (-1 ≤ n.toInt ∧ n.toInt ≤ 10) → r = -2)
def m_amOk (f : Nat → Int32) (h t : Int32) : Prop := (h = -1 ∨ m_isH f h) ∧ 0 ≤ t.toInt ∧ t.toInt ≤ 1
def m_amW (h : Int32) : Int32 := if h = -1 then 0 else 1 <<< (h &&& 31)
def m_amC (f : Nat → Int32) (h t r : Int32) : Prop := (m_amOk f h t → (m_fd (m_LC (m_VC f (f 4) (f 5) 0)) (m_fuSt (m_amW h)) (-1) (2 ^ (f 0).toInt.toNat) = -1 → r = -3) ∧ (¬ m_fd (m_LC (m_VC f (f 4) (f 5) 0)) (m_fuSt (m_amW h)) (-1) (2 ^ (f 0).toInt.toNat) = -1 → (t = 0 → r = m_bc (m_fd (m_LC (m_VC f (f 4) (f 5) 0)) (m_fuSt (m_amW h)) (-1) (2 ^ (f 0).toInt.toNat))) ∧ (¬ t = 0 → r = m_fd (m_LC (m_VC f (f 4) (f 5) 0)) (m_fuSt (m_amW h)) (-1) (2 ^ (f 0).toInt.toNat)))) ∧ (¬ m_amOk f h t → r = -2)
def z_PTmost : yP := fun D av Y H v _ _ => ∀ (this : Nat) (h t : Int32) (f : Nat → Int32) (K : Nat → Option (Nat → Int32)) (t9 : Nat → Int32) (n9 : Int32), av = [.ref this, .int h, .int t] → z_RC D Y H this f K t9 n9 → ∃ r : Int32, v = some (.int r) ∧ m_amC f h t r
theorem moQ_d0 : decode xM1001.2.1 0 = .ok (.iload_n 1, 1) := dz_ok (by decide +kernel)
theorem moQ_d1 : decode xM1001.2.1 1 = .ok (.iconst (-1), 1) := dz_ok (by decide +kernel)
theorem moQ_d2 : decode xM1001.2.1 2 = .ok (.if_icmp .eq 14, 3) := dz_ok (by decide +kernel)
theorem moQ_d5 : decode xM1001.2.1 5 = .ok (.aload_n 0, 1) := dz_ok (by decide +kernel)
theorem moQ_d6 : decode xM1001.2.1 6 = .ok (.getfield 12, 3) := dz_ok (by decide +kernel)
theorem moQ_d9 : decode xM1001.2.1 9 = .ok (.iload_n 1, 1) := dz_ok (by decide +kernel)
theorem moQ_d10 : decode xM1001.2.1 10 = .ok (.invokevirtual 101, 3) := dz_ok (by decide +kernel)
theorem moQ_d13 : decode xM1001.2.1 13 = .ok (.ifCond .eq 12, 3) := dz_ok (by decide +kernel)
theorem moQ_d16 : decode xM1001.2.1 16 = .ok (.iload_n 2, 1) := dz_ok (by decide +kernel)
theorem moQ_d17 : decode xM1001.2.1 17 = .ok (.iconst 0, 1) := dz_ok (by decide +kernel)
theorem moQ_d18 : decode xM1001.2.1 18 = .ok (.iconst 1, 1) := dz_ok (by decide +kernel)
theorem moQ_d19 : decode xM1001.2.1 19 = .ok (.invokestatic 88, 3) := dz_ok (by decide +kernel)
theorem moQ_d22 : decode xM1001.2.1 22 = .ok (.ifCond .ne 10, 3) := dz_ok (by decide +kernel)
theorem moQ_d25 : decode xM1001.2.1 25 = .ok (.aload_n 0, 1) := dz_ok (by decide +kernel)
theorem moQ_d26 : decode xM1001.2.1 26 = .ok (.bipush (-2), 2) := dz_ok (by decide +kernel)
theorem moQ_d28 : decode xM1001.2.1 28 = .ok (.invokevirtual 59, 3) := dz_ok (by decide +kernel)
theorem moQ_d31 : decode xM1001.2.1 31 = .ok (.ireturn, 1) := dz_ok (by decide +kernel)
theorem moQ_d32 : decode xM1001.2.1 32 = .ok (.aload_n 0, 1) := dz_ok (by decide +kernel)
theorem moQ_d33 : decode xM1001.2.1 33 = .ok (.invokevirtual 180, 3) := dz_ok (by decide +kernel)
theorem moQ_d36 : decode xM1001.2.1 36 = .ok (.aload_n 0, 1) := dz_ok (by decide +kernel)
theorem moQ_d37 : decode xM1001.2.1 37 = .ok (.getfield 40, 3) := dz_ok (by decide +kernel)
theorem moQ_d40 : decode xM1001.2.1 40 = .ok (.iload_n 1, 1) := dz_ok (by decide +kernel)
theorem moQ_d41 : decode xM1001.2.1 41 = .ok (.iconst (-1), 1) := dz_ok (by decide +kernel)
theorem moQ_d42 : decode xM1001.2.1 42 = .ok (.if_icmp .ne 7, 3) := dz_ok (by decide +kernel)
theorem moQ_d45 : decode xM1001.2.1 45 = .ok (.iconst 0, 1) := dz_ok (by decide +kernel)
theorem moQ_d46 : decode xM1001.2.1 46 = .ok (.goto 6, 3) := dz_ok (by decide +kernel)
theorem moQ_d49 : decode xM1001.2.1 49 = .ok (.iconst 1, 1) := dz_ok (by decide +kernel)
theorem moQ_d50 : decode xM1001.2.1 50 = .ok (.iload_n 1, 1) := dz_ok (by decide +kernel)
theorem moQ_d51 : decode xM1001.2.1 51 = .ok (.ishl, 1) := dz_ok (by decide +kernel)
theorem moQ_d52 : decode xM1001.2.1 52 = .ok (.invokevirtual 183, 3) := dz_ok (by decide +kernel)
theorem moQ_d55 : decode xM1001.2.1 55 = .ok (.istore_n 3, 1) := dz_ok (by decide +kernel)
theorem moQ_d56 : decode xM1001.2.1 56 = .ok (.iload_n 3, 1) := dz_ok (by decide +kernel)
theorem moQ_d57 : decode xM1001.2.1 57 = .ok (.iconst (-1), 1) := dz_ok (by decide +kernel)
theorem moQ_d58 : decode xM1001.2.1 58 = .ok (.if_icmp .ne 10, 3) := dz_ok (by decide +kernel)
theorem moQ_d61 : decode xM1001.2.1 61 = .ok (.aload_n 0, 1) := dz_ok (by decide +kernel)
theorem moQ_d62 : decode xM1001.2.1 62 = .ok (.bipush (-3), 2) := dz_ok (by decide +kernel)
theorem moQ_d64 : decode xM1001.2.1 64 = .ok (.invokevirtual 59, 3) := dz_ok (by decide +kernel)
theorem moQ_d67 : decode xM1001.2.1 67 = .ok (.ireturn, 1) := dz_ok (by decide +kernel)
theorem moQ_d68 : decode xM1001.2.1 68 = .ok (.iload_n 2, 1) := dz_ok (by decide +kernel)
theorem moQ_d69 : decode xM1001.2.1 69 = .ok (.ifCond .ne 10, 3) := dz_ok (by decide +kernel)
theorem moQ_d72 : decode xM1001.2.1 72 = .ok (.iload_n 3, 1) := dz_ok (by decide +kernel)
theorem moQ_d73 : decode xM1001.2.1 73 = .ok (.invokestatic 175, 3) := dz_ok (by decide +kernel)
theorem moQ_d76 : decode xM1001.2.1 76 = .ok (.goto 4, 3) := dz_ok (by decide +kernel)
theorem moQ_d79 : decode xM1001.2.1 79 = .ok (.iload_n 3, 1) := dz_ok (by decide +kernel)
theorem moQ_d80 : decode xM1001.2.1 80 = .ok (.ireturn, 1) := dz_ok (by decide +kernel)
theorem ym_Tmost : y_Met vwCl x_G x_Zs x_Tb x_Nb xM1001 z_ATF z_PTmost := by
  refine y_main (by decide +kernel) (by decide +kernel) x_Tb_good x_Nb_ok ?_
  intro p l e s m below meth c D U Y0 av ls B hI hpre hl
  have X := B.1
  have hx := X.1
  have hb := X.2.1
  have hY0 := B.2.2.2.2.1
  obtain ⟨v0, v1, v2, rfl, hv0, ⟨h, rfl, -⟩, ⟨t, rfl, -⟩⟩ := y_three B.2.2.2.2.2
  obtain ⟨this, t0, rfl, ht0, hY_this⟩ := x_ref_at hv0 rfl
  obtain rfl := List.mem_singleton.mp ht0
  replace hl : lv_has ls xM1001.2.2.1 [(0, .ref this), (1, .int h), (2, .int t)] := hl
  obtain ⟨f, K, tt, nn, hR0⟩ := hpre _ rfl
  obtain ⟨hd, dr, kp, tx, by_, kk, ⟨hs_hd, -⟩, ⟨hY_hd, -⟩, hL, -⟩ := id hR0
  obtain ⟨ey, hs_ey, hY_ey⟩ := y_fldR (k := 4) hI.1 hY_this rfl rfl
  obtain ⟨vw, hs_vw, hY_vw⟩ := y_fldR (k := 1) hI.1 hY_ey rfl rfl
  have hn0 := hL.1.1
  have hn1 := hL.1.2.1
  have hn2 := hL.1.2.2
  have hb0 : 0 ≤ (f 0).toInt ∧ (f 0).toInt ≤ 10 := by obtain ⟨x9, e9, b9⟩ := y_fldI (k := 0) hI.1 hY_hd rfl rfl; rw [hn0] at e9; cases e9; exact b9
  have hb1 : 0 ≤ (f 1).toInt ∧ (f 1).toInt ≤ 8 := by obtain ⟨x9, e9, b9⟩ := y_fldI (k := 6) hI.1 hY_hd rfl rfl; rw [hn1] at e9; cases e9; exact b9
  have hb2 : 0 ≤ (f 2).toInt ∧ (f 2).toInt ≤ 8 := by obtain ⟨x9, e9, b9⟩ := y_fldI (k := 12) hI.1 hY_hd rfl rfl; rw [hn2] at e9; cases e9; exact b9
  obtain ⟨ro, hs_ro, hY_ro⟩ := y_fldR (k := 5) hI.1 hY_this rfl rfl
  obtain ⟨sr, hs_sr, hY_sr⟩ := y_fldR (k := 0) hI.1 hY_ro rfl rfl
  refine lv_iload_n hx hb moQ_d0 rfl (lv_at hl 1 rfl) ?_
  refine lv_iconst hx hb moQ_d1 (v := (-1)) (by decide) ?_
  have ecm1 : ((-1) : Int32).toInt = (-1) := by decide
  refine lv_icmp_eq hx hb moQ_d2 (tgt := 16) (by decide) (fun q2 => ?_) (fun q2 => ?_)
  · have q2_ : h.toInt = ((-1) : Int32).toInt := by rw [q2]
    refine lv_iload_n hx hb moQ_d16 rfl (lv_at hl 2 rfl) ?_
    refine lv_iconst hx hb moQ_d17 (v := 0) (by decide) ?_
    have ec0 : (0 : Int32).toInt = 0 := by decide
    refine lv_iconst hx hb moQ_d18 (v := 1) (by decide) ?_
    have ec1 : (1 : Int32).toInt = 1 := by decide
    refine y_call (z := (1, 88, 3, none, xM10)) (av := [.int t, .int (0 : Int32), .int (1 : Int32)]) (rest := []) (y_cokS (n := 3) X ym_within (x_cons (x_bw19 15 rfl rfl) (x_cons (x_bw19 1 rfl rfl) (x_cons (x_bw0 1 rfl rfl) x_nilm))) (x_bw19 2 rfl rfl) (by decide +kernel) ⟨Nat.le_of_ble_eq_true rfl, Nat.le_of_ble_eq_true rfl⟩) hY0 hI rfl moQ_d19 hl.1 (Nat.le_of_ble_eq_true rfl) (Nat.le_of_ble_eq_true rfl) (Nat.le_of_ble_eq_true rfl) (y_cons ⟨_, rfl, x_i32 _⟩ (y_cons ⟨_, rfl, x_i32 _⟩ (y_cons ⟨_, rfl, x_i32 _⟩ y_nil))) rfl (y_norecv rfl) trivial (y_sub_ef rfl) fun v Yn o Hn L ho hr ha hIn hx_ hE hP => ?_
    replace hs_hd := y_Efld hE hY_this rfl (by decide) (by decide) hs_hd
    replace hs_ey := y_Efld hE hY_this rfl (by decide) (by decide) hs_ey
    replace hs_vw := y_Efld hE hY_ey rfl (by decide) (by decide) hs_vw
    replace hn0 := y_Efld hE hY_hd rfl (by decide) (by decide) hn0
    replace hs_ro := y_Efld hE hY_this rfl (by decide) (by decide) hs_ro
    replace hs_sr := y_Efld hE hY_ro rfl (by decide) (by decide) hs_sr
    replace hL := hL.E hY_hd hE (fun q u h => y_ext hx_ hI.1 h) (by decide +kernel)
    replace hY_this := y_ext hx_ hI.1 hY_this
    replace hY_hd := y_ext hx_ hI.1 hY_hd
    replace hY_ey := y_ext hx_ hI.1 hY_ey
    replace hY_vw := y_ext hx_ hI.1 hY_vw
    replace hY_ro := y_ext hx_ hI.1 hY_ro
    replace hY_sr := y_ext hx_ hI.1 hY_sr
    obtain ⟨r19, rfl, hin_r19, hout_r19⟩ := hP _ _ _ rfl
    clear ho hr ha hE hP hI hx_
    rename x_I _ _ _ _ _ _ _ _ _ _ => hI
    refine lv_if_ne hx hb moQ_d22 (tgt := 32) (by decide) (fun q22 => ?_) (fun q22 => ?_)
    · have q22_ : ¬ r19.toInt = (0 : Int32).toInt := fun q => q22 (Int32.toInt_inj.mp q)
      have hw9 := hin_r19 (by assumption)
      have hok : m_amOk f h t := ⟨by first | exact Or.inl (by assumption) | exact Or.inr (hin_r10 (by assumption)), by omega, by omega⟩
      refine lv_aload_n hx hb moQ_d32 rfl (lv_at hl 0 rfl) ?_
      refine y_call (z := (0, 180, 1, some 0, xM1000)) (av := [.ref this]) (rest := []) (y_cokV (n := 0) (ci := 11) X ym_gatherNow rfl rfl rfl (x_cons (x_bw43 12 rfl rfl) (x_cons (x_bw43 14 rfl rfl) (x_cons (x_at 13 (by decide +kernel) rfl) (x_cons (x_bw0 1 rfl rfl) x_nilm)))) (x_bw43 15 rfl rfl) (by decide +kernel) ⟨Nat.le_of_ble_eq_true rfl, Nat.le_of_ble_eq_true rfl⟩) hY0 hI rfl moQ_d33 hl.1 (Nat.le_of_ble_eq_true rfl) (Nat.le_of_ble_eq_true rfl) (Nat.le_of_ble_eq_true rfl) (y_cons (y_cref hY_this rfl) y_nil) rfl (y_recv rfl hY_this) (fun t' hd' h1 h2 => by cases h1; cases h2.symm.trans hs_hd; exact ⟨_, hL⟩) (y_sub_ef rfl) fun v Yn o Hn L ho hr ha hIn hx_ hE hP => ?_
      have hPg := hP _ _ _ _ _ _ _ rfl hs_hd hs_ey hs_vw hs_ro hs_sr hL
      replace hs_hd := y_Efld hE hY_this rfl (by decide) (by decide) hs_hd
      replace hs_ey := y_Efld hE hY_this rfl (by decide) (by decide) hs_ey
      replace hs_vw := y_Efld hE hY_ey rfl (by decide) (by decide) hs_vw
      replace hn0 := y_Efld hE hY_hd rfl (by decide) (by decide) hn0
      replace hs_ro := y_Efld hE hY_this rfl (by decide) (by decide) hs_ro
      replace hs_sr := y_Efld hE hY_ro rfl (by decide) (by decide) hs_sr
      replace hL := hL.E hY_hd hE (fun q u h => y_ext hx_ hI.1 h) (by decide +kernel)
      replace hY_this := y_ext hx_ hI.1 hY_this
      replace hY_hd := y_ext hx_ hI.1 hY_hd
      replace hY_ey := y_ext hx_ hI.1 hY_ey
      replace hY_vw := y_ext hx_ hI.1 hY_vw
      replace hY_ro := y_ext hx_ hI.1 hY_ro
      replace hY_sr := y_ext hx_ hI.1 hY_sr
      obtain rfl := y_ansV rfl ho hr
      obtain ⟨hA_vw, fo, fr, hsi_found, hA_sr, hfo, hse⟩ := hPg
      have hpw : 2 ^ (f 0).toInt.toNat ≤ 1024 := Nat.pow_le_pow_right (n := 2) (by decide) (show (f 0).toInt.toNat ≤ 10 by omega)
      clear ho hr ha hE hP hI hx_
      rename x_I _ _ _ _ _ _ _ _ _ _ => hI
      refine lv_aload_n hx hb moQ_d36 rfl (lv_at hl 0 rfl) ?_
      refine y_getf X (fl205 X.2.2.2.2.1) hI.1 hY_this rfl hs_ro moQ_d37 ?_
      refine lv_iload_n hx hb moQ_d40 rfl (lv_at hl 1 rfl) ?_
      refine lv_iconst hx hb moQ_d41 (v := (-1)) (by decide) ?_
      refine lv_icmp_ne hx hb moQ_d42 (tgt := 49) (by decide) (fun q42 => ?_) (fun q42 => ?_)
      · have q42_ : ¬ h.toInt = ((-1) : Int32).toInt := fun q => q42 (Int32.toInt_inj.mp q)
        refine lv_iconst hx hb moQ_d49 (v := 1) (by decide) ?_
        refine lv_iload_n hx hb moQ_d50 rfl (lv_at hl 1 rfl) ?_
        refine lv_ishl hx hb moQ_d51 ?_
        generalize hg_z51 : (1 : Int32) <<< (h &&& 31) = z51
        refine y_call (z := (0, 183, 2, some 8, xM74)) (av := [.ref ro, .int z51]) (rest := []) (y_cokV (n := 1) (ci := 5) X ym_fullest rfl rfl rfl (x_cons (x_bw44 5 rfl rfl) (x_cons (x_bw44 6 rfl rfl) (x_cons (x_bw44 7 rfl rfl) (x_cons (x_bw0 8 rfl rfl) x_nilm)))) (x_bw44 8 rfl rfl) (by decide +kernel) ⟨Nat.le_of_ble_eq_true rfl, Nat.le_of_ble_eq_true rfl⟩) hY0 hI rfl moQ_d52 hl.1 (Nat.le_of_ble_eq_true rfl) (Nat.le_of_ble_eq_true rfl) (Nat.le_of_ble_eq_true rfl) (y_cons (y_cref hY_ro rfl) (y_cons ⟨_, rfl, x_i32 _⟩ y_nil)) rfl (y_recv rfl hY_ro) trivial (y_sub_ef rfl) fun v Yn o Hn L ho hr ha hIn hx_ hE hP => ?_
        have hPo := hP _ _ _ _ _ _ _ rfl hs_sr hsi_found hA_sr hpw hfo hse
        obtain rfl := hPo
        replace hs_hd := y_Efld hE hY_this rfl (by decide) (by decide) hs_hd
        replace hs_ey := y_Efld hE hY_this rfl (by decide) (by decide) hs_ey
        replace hs_vw := y_Efld hE hY_ey rfl (by decide) (by decide) hs_vw
        replace hn0 := y_Efld hE hY_hd rfl (by decide) (by decide) hn0
        replace hs_ro := y_Efld hE hY_this rfl (by decide) (by decide) hs_ro
        replace hs_sr := y_Efld hE hY_ro rfl (by decide) (by decide) hs_sr
        replace hsi_found := y_Efld hE hY_ro rfl (by decide) (by decide) hsi_found
        replace hA_vw := hA_vw.kept (y_Earr hE hY_vw rfl (by decide))
        replace hA_sr := hA_sr.kept (y_Earr hE hY_sr rfl (by decide))
        replace hL := hL.E hY_hd hE (fun q u h => y_ext hx_ hI.1 h) (by decide +kernel)
        replace hY_this := y_ext hx_ hI.1 hY_this
        replace hY_hd := y_ext hx_ hI.1 hY_hd
        replace hY_ey := y_ext hx_ hI.1 hY_ey
        replace hY_vw := y_ext hx_ hI.1 hY_vw
        replace hY_ro := y_ext hx_ hI.1 hY_ro
        replace hY_sr := y_ext hx_ hI.1 hY_sr
        generalize hg_r52 : m_fd (m_LC (m_VC f (f 4) (f 5) 0)) (m_fuSt z51) (-1) (2 ^ (f 0).toInt.toNat) = r52
        clear ho hr ha hE hP hI hx_
        rename x_I _ _ _ _ _ _ _ _ _ _ => hI
        refine lv_istore_n hx hb moQ_d55 rfl hl (by decide) (lv' := [(3, .int r52), (0, .ref this), (1, .int h), (2, .int t)]) rfl fun ls hl => ?_
        refine lv_iload_n hx hb moQ_d56 rfl (lv_at hl 0 rfl) ?_
        refine lv_iconst hx hb moQ_d57 (v := (-1)) (by decide) ?_
        refine lv_icmp_ne hx hb moQ_d58 (tgt := 68) (by decide) (fun q58 => ?_) (fun q58 => ?_)
        · have q58_ : ¬ r52.toInt = ((-1) : Int32).toInt := fun q => q58 (Int32.toInt_inj.mp q)
          refine lv_iload_n hx hb moQ_d68 rfl (lv_at hl 3 rfl) ?_
          refine lv_if_ne hx hb moQ_d69 (tgt := 79) (by decide) (fun q69 => ?_) (fun q69 => ?_)
          · have q69_ : ¬ t.toInt = (0 : Int32).toInt := fun q => q69 (Int32.toInt_inj.mp q)
            refine lv_iload_n hx hb moQ_d79 rfl (lv_at hl 0 rfl) ?_
            have hW : m_fd (m_LC (m_VC f (f 4) (f 5) 0)) (m_fuSt (m_amW h)) (-1) (2 ^ (f 0).toInt.toNat) = r52 := by rw [← hg_r52]; unfold m_amW; first | (exact absurd (show h = -1 by assumption) (show ¬ h = -1 by assumption)) | rw [if_pos (by assumption)] | (rw [if_neg (by assumption), hg_z51])
            exact y_ireturn B hI rfl rfl rfl List.mem_cons_self ⟨_, rfl, ⟨_, rfl, x_i32 _⟩⟩ (x_cs.mono B.2.2.2.2.2 (y_mon B hI)) (fun t' w0' w1' f' K' tt' nn' h1 h2 => by cases h1; obtain ⟨ef, -⟩ := hR0.eqs h2; subst ef; exact ⟨_, rfl, fun _ => ⟨fun q9 => absurd (hW.symm.trans q9) (by assumption), fun _ => ⟨fun q9 => absurd q9 (by assumption), fun _ => hW.symm⟩⟩, fun q9 => absurd hok q9⟩) (Nat.le_refl _) (Nat.le_refl _) moQ_d80
          · have q69_ : t.toInt = (0 : Int32).toInt := by rw [q69]
            refine lv_iload_n hx hb moQ_d72 rfl (lv_at hl 0 rfl) ?_
            refine y_call (z := (1, 175, 1, none, xM71)) (av := [.int r52]) (rest := []) (y_cokS (n := 1) X ym_bitCount (x_cons (x_bw43 7 rfl rfl) (x_cons (x_bw43 2 rfl rfl) (x_cons (x_bw1 5 rfl rfl) x_nilm))) (x_bw43 3 rfl rfl) (by decide +kernel) ⟨Nat.le_of_ble_eq_true rfl, Nat.le_of_ble_eq_true rfl⟩) hY0 hI rfl moQ_d73 hl.1 (Nat.le_of_ble_eq_true rfl) (Nat.le_of_ble_eq_true rfl) (Nat.le_of_ble_eq_true rfl) (y_cons ⟨_, rfl, x_i32 _⟩ y_nil) rfl (y_norecv rfl) trivial (y_sub_ef rfl) fun v Yn o Hn L ho hr ha hIn hx_ hE hP => ?_
            have hPm := hP _ rfl
            obtain rfl := hPm
            replace hs_hd := y_Efld hE hY_this rfl (by decide) (by decide) hs_hd
            replace hs_ey := y_Efld hE hY_this rfl (by decide) (by decide) hs_ey
            replace hs_vw := y_Efld hE hY_ey rfl (by decide) (by decide) hs_vw
            replace hn0 := y_Efld hE hY_hd rfl (by decide) (by decide) hn0
            replace hs_ro := y_Efld hE hY_this rfl (by decide) (by decide) hs_ro
            replace hs_sr := y_Efld hE hY_ro rfl (by decide) (by decide) hs_sr
            replace hsi_found := y_Efld hE hY_ro rfl (by decide) (by decide) hsi_found
            replace hA_vw := hA_vw.kept (y_Earr hE hY_vw rfl (by decide))
            replace hA_sr := hA_sr.kept (y_Earr hE hY_sr rfl (by decide))
            replace hL := hL.E hY_hd hE (fun q u h => y_ext hx_ hI.1 h) (by decide +kernel)
            replace hY_this := y_ext hx_ hI.1 hY_this
            replace hY_hd := y_ext hx_ hI.1 hY_hd
            replace hY_ey := y_ext hx_ hI.1 hY_ey
            replace hY_vw := y_ext hx_ hI.1 hY_vw
            replace hY_ro := y_ext hx_ hI.1 hY_ro
            replace hY_sr := y_ext hx_ hI.1 hY_sr
            generalize hg_r73 : m_bc r52 = r73
            clear ho hr ha hE hP hI hx_
            rename x_I _ _ _ _ _ _ _ _ _ _ => hI
            refine lv_goto hx hb moQ_d76 (tgt := 80) (by decide) ?_
            have hW : m_fd (m_LC (m_VC f (f 4) (f 5) 0)) (m_fuSt (m_amW h)) (-1) (2 ^ (f 0).toInt.toNat) = r52 := by rw [← hg_r52]; unfold m_amW; first | (exact absurd (show h = -1 by assumption) (show ¬ h = -1 by assumption)) | rw [if_pos (by assumption)] | (rw [if_neg (by assumption), hg_z51])
            exact y_ireturn B hI rfl rfl rfl List.mem_cons_self ⟨_, rfl, ⟨_, rfl, x_i32 _⟩⟩ (x_cs.mono B.2.2.2.2.2 (y_mon B hI)) (fun t' w0' w1' f' K' tt' nn' h1 h2 => by cases h1; obtain ⟨ef, -⟩ := hR0.eqs h2; subst ef; exact ⟨_, rfl, fun _ => ⟨fun q9 => absurd (hW.symm.trans q9) (by assumption), fun _ => ⟨fun _ => by rw [hW, hg_r73], fun q9 => absurd (by assumption) q9⟩⟩, fun q9 => absurd hok q9⟩) (Nat.le_refl _) (Nat.le_refl _) moQ_d80
        · have q58_ : r52.toInt = ((-1) : Int32).toInt := by rw [q58]
          refine lv_aload_n hx hb moQ_d61 rfl (lv_at hl 1 rfl) ?_
          refine lv_bipush hx hb moQ_d62 (v := (-3)) (by decide) ?_
          have ecm3 : ((-3) : Int32).toInt = (-3) := by decide
          refine y_call (z := (0, 59, 2, some 0, xM8)) (av := [.ref this, .int ((-3) : Int32)]) (rest := []) (y_cokV (n := 1) (ci := 11) X ym_counted rfl rfl rfl (x_cons (x_bw19 7 rfl rfl) (x_cons (x_bw19 9 rfl rfl) (x_cons (x_at 1 (by decide +kernel) rfl) (x_cons (x_bw0 1 rfl rfl) x_nilm)))) (x_bw19 10 rfl rfl) (by decide +kernel) ⟨Nat.le_of_ble_eq_true rfl, Nat.le_of_ble_eq_true rfl⟩) hY0 hI rfl moQ_d64 hl.1 (Nat.le_of_ble_eq_true rfl) (Nat.le_of_ble_eq_true rfl) (Nat.le_of_ble_eq_true rfl) (y_cons (y_cref hY_this rfl) (y_cons ⟨_, rfl, x_i32 _⟩ y_nil)) rfl (y_recv rfl hY_this) trivial (y_sub_ef rfl) fun v Yn o Hn L ho hr ha hIn hx_ hE hP => ?_
          replace hs_hd := y_Efld hE hY_this rfl (by decide) (by decide) hs_hd
          replace hs_ey := y_Efld hE hY_this rfl (by decide) (by decide) hs_ey
          replace hs_vw := y_Efld hE hY_ey rfl (by decide) (by decide) hs_vw
          replace hn0 := y_Efld hE hY_hd rfl (by decide) (by decide) hn0
          replace hs_ro := y_Efld hE hY_this rfl (by decide) (by decide) hs_ro
          replace hs_sr := y_Efld hE hY_ro rfl (by decide) (by decide) hs_sr
          replace hsi_found := y_Efld hE hY_ro rfl (by decide) (by decide) hsi_found
          replace hA_vw := hA_vw.kept (y_Earr hE hY_vw rfl (by decide))
          replace hA_sr := hA_sr.kept (y_Earr hE hY_sr rfl (by decide))
          replace hL := hL.E hY_hd hE (fun q u h => y_ext hx_ hI.1 h) (by decide +kernel)
          replace hY_this := y_ext hx_ hI.1 hY_this
          replace hY_hd := y_ext hx_ hI.1 hY_hd
          replace hY_ey := y_ext hx_ hI.1 hY_ey
          replace hY_vw := y_ext hx_ hI.1 hY_vw
          replace hY_ro := y_ext hx_ hI.1 hY_ro
          replace hY_sr := y_ext hx_ hI.1 hY_sr
          obtain rfl := hP _ _ rfl
          clear ho hr ha hE hP hI hx_
          rename x_I _ _ _ _ _ _ _ _ _ _ => hI
          have hW : m_fd (m_LC (m_VC f (f 4) (f 5) 0)) (m_fuSt (m_amW h)) (-1) (2 ^ (f 0).toInt.toNat) = r52 := by rw [← hg_r52]; unfold m_amW; first | (exact absurd (show h = -1 by assumption) (show ¬ h = -1 by assumption)) | rw [if_pos (by assumption)] | (rw [if_neg (by assumption), hg_z51])
          exact y_ireturn B hI rfl rfl rfl List.mem_cons_self ⟨_, rfl, ⟨_, rfl, x_i32 _⟩⟩ (x_cs.mono B.2.2.2.2.2 (y_mon B hI)) (fun t' w0' w1' f' K' tt' nn' h1 h2 => by cases h1; obtain ⟨ef, -⟩ := hR0.eqs h2; subst ef; exact ⟨_, rfl, fun _ => ⟨fun _ => rfl, fun q9 => absurd (hW.trans (by assumption)) q9⟩, fun q9 => absurd hok q9⟩) (Nat.le_refl _) (Nat.le_refl _) moQ_d67
      · have q42_ : h.toInt = ((-1) : Int32).toInt := by rw [q42]
        refine lv_iconst hx hb moQ_d45 (v := 0) (by decide) ?_
        refine lv_goto hx hb moQ_d46 (tgt := 52) (by decide) ?_
        refine y_call (z := (0, 183, 2, some 8, xM74)) (av := [.ref ro, .int (0 : Int32)]) (rest := []) (y_cokV (n := 1) (ci := 5) X ym_fullest rfl rfl rfl (x_cons (x_bw44 5 rfl rfl) (x_cons (x_bw44 6 rfl rfl) (x_cons (x_bw44 7 rfl rfl) (x_cons (x_bw0 8 rfl rfl) x_nilm)))) (x_bw44 8 rfl rfl) (by decide +kernel) ⟨Nat.le_of_ble_eq_true rfl, Nat.le_of_ble_eq_true rfl⟩) hY0 hI rfl moQ_d52 hl.1 (Nat.le_of_ble_eq_true rfl) (Nat.le_of_ble_eq_true rfl) (Nat.le_of_ble_eq_true rfl) (y_cons (y_cref hY_ro rfl) (y_cons ⟨_, rfl, x_i32 _⟩ y_nil)) rfl (y_recv rfl hY_ro) trivial (y_sub_ef rfl) fun v Yn o Hn L ho hr ha hIn hx_ hE hP => ?_
        have hPo := hP _ _ _ _ _ _ _ rfl hs_sr hsi_found hA_sr hpw hfo hse
        obtain rfl := hPo
        replace hs_hd := y_Efld hE hY_this rfl (by decide) (by decide) hs_hd
        replace hs_ey := y_Efld hE hY_this rfl (by decide) (by decide) hs_ey
        replace hs_vw := y_Efld hE hY_ey rfl (by decide) (by decide) hs_vw
        replace hn0 := y_Efld hE hY_hd rfl (by decide) (by decide) hn0
        replace hs_ro := y_Efld hE hY_this rfl (by decide) (by decide) hs_ro
        replace hs_sr := y_Efld hE hY_ro rfl (by decide) (by decide) hs_sr
        replace hsi_found := y_Efld hE hY_ro rfl (by decide) (by decide) hsi_found
        replace hA_vw := hA_vw.kept (y_Earr hE hY_vw rfl (by decide))
        replace hA_sr := hA_sr.kept (y_Earr hE hY_sr rfl (by decide))
        replace hL := hL.E hY_hd hE (fun q u h => y_ext hx_ hI.1 h) (by decide +kernel)
        replace hY_this := y_ext hx_ hI.1 hY_this
        replace hY_hd := y_ext hx_ hI.1 hY_hd
        replace hY_ey := y_ext hx_ hI.1 hY_ey
        replace hY_vw := y_ext hx_ hI.1 hY_vw
        replace hY_ro := y_ext hx_ hI.1 hY_ro
        replace hY_sr := y_ext hx_ hI.1 hY_sr
        generalize hg_r52 : m_fd (m_LC (m_VC f (f 4) (f 5) 0)) (m_fuSt (0 : Int32)) (-1) (2 ^ (f 0).toInt.toNat) = r52
        clear ho hr ha hE hP hI hx_
        rename x_I _ _ _ _ _ _ _ _ _ _ => hI
        refine lv_istore_n hx hb moQ_d55 rfl hl (by decide) (lv' := [(3, .int r52), (0, .ref this), (1, .int h), (2, .int t)]) rfl fun ls hl => ?_
        refine lv_iload_n hx hb moQ_d56 rfl (lv_at hl 0 rfl) ?_
        refine lv_iconst hx hb moQ_d57 (v := (-1)) (by decide) ?_
        refine lv_icmp_ne hx hb moQ_d58 (tgt := 68) (by decide) (fun q58 => ?_) (fun q58 => ?_)
        · have q58_ : ¬ r52.toInt = ((-1) : Int32).toInt := fun q => q58 (Int32.toInt_inj.mp q)
          refine lv_iload_n hx hb moQ_d68 rfl (lv_at hl 3 rfl) ?_
          refine lv_if_ne hx hb moQ_d69 (tgt := 79) (by decide) (fun q69 => ?_) (fun q69 => ?_)
          · have q69_ : ¬ t.toInt = (0 : Int32).toInt := fun q => q69 (Int32.toInt_inj.mp q)
            refine lv_iload_n hx hb moQ_d79 rfl (lv_at hl 0 rfl) ?_
            have hW : m_fd (m_LC (m_VC f (f 4) (f 5) 0)) (m_fuSt (m_amW h)) (-1) (2 ^ (f 0).toInt.toNat) = r52 := by rw [← hg_r52]; unfold m_amW; first | (exact absurd (show h = -1 by assumption) (show ¬ h = -1 by assumption)) | rw [if_pos (by assumption)] | (rw [if_neg (by assumption), hg_z51])
            exact y_ireturn B hI rfl rfl rfl List.mem_cons_self ⟨_, rfl, ⟨_, rfl, x_i32 _⟩⟩ (x_cs.mono B.2.2.2.2.2 (y_mon B hI)) (fun t' w0' w1' f' K' tt' nn' h1 h2 => by cases h1; obtain ⟨ef, -⟩ := hR0.eqs h2; subst ef; exact ⟨_, rfl, fun _ => ⟨fun q9 => absurd (hW.symm.trans q9) (by assumption), fun _ => ⟨fun q9 => absurd q9 (by assumption), fun _ => hW.symm⟩⟩, fun q9 => absurd hok q9⟩) (Nat.le_refl _) (Nat.le_refl _) moQ_d80
          · have q69_ : t.toInt = (0 : Int32).toInt := by rw [q69]
            refine lv_iload_n hx hb moQ_d72 rfl (lv_at hl 0 rfl) ?_
            refine y_call (z := (1, 175, 1, none, xM71)) (av := [.int r52]) (rest := []) (y_cokS (n := 1) X ym_bitCount (x_cons (x_bw43 7 rfl rfl) (x_cons (x_bw43 2 rfl rfl) (x_cons (x_bw1 5 rfl rfl) x_nilm))) (x_bw43 3 rfl rfl) (by decide +kernel) ⟨Nat.le_of_ble_eq_true rfl, Nat.le_of_ble_eq_true rfl⟩) hY0 hI rfl moQ_d73 hl.1 (Nat.le_of_ble_eq_true rfl) (Nat.le_of_ble_eq_true rfl) (Nat.le_of_ble_eq_true rfl) (y_cons ⟨_, rfl, x_i32 _⟩ y_nil) rfl (y_norecv rfl) trivial (y_sub_ef rfl) fun v Yn o Hn L ho hr ha hIn hx_ hE hP => ?_
            have hPm := hP _ rfl
            obtain rfl := hPm
            replace hs_hd := y_Efld hE hY_this rfl (by decide) (by decide) hs_hd
            replace hs_ey := y_Efld hE hY_this rfl (by decide) (by decide) hs_ey
            replace hs_vw := y_Efld hE hY_ey rfl (by decide) (by decide) hs_vw
            replace hn0 := y_Efld hE hY_hd rfl (by decide) (by decide) hn0
            replace hs_ro := y_Efld hE hY_this rfl (by decide) (by decide) hs_ro
            replace hs_sr := y_Efld hE hY_ro rfl (by decide) (by decide) hs_sr
            replace hsi_found := y_Efld hE hY_ro rfl (by decide) (by decide) hsi_found
            replace hA_vw := hA_vw.kept (y_Earr hE hY_vw rfl (by decide))
            replace hA_sr := hA_sr.kept (y_Earr hE hY_sr rfl (by decide))
            replace hL := hL.E hY_hd hE (fun q u h => y_ext hx_ hI.1 h) (by decide +kernel)
            replace hY_this := y_ext hx_ hI.1 hY_this
            replace hY_hd := y_ext hx_ hI.1 hY_hd
            replace hY_ey := y_ext hx_ hI.1 hY_ey
            replace hY_vw := y_ext hx_ hI.1 hY_vw
            replace hY_ro := y_ext hx_ hI.1 hY_ro
            replace hY_sr := y_ext hx_ hI.1 hY_sr
            generalize hg_r73 : m_bc r52 = r73
            clear ho hr ha hE hP hI hx_
            rename x_I _ _ _ _ _ _ _ _ _ _ => hI
            refine lv_goto hx hb moQ_d76 (tgt := 80) (by decide) ?_
            have hW : m_fd (m_LC (m_VC f (f 4) (f 5) 0)) (m_fuSt (m_amW h)) (-1) (2 ^ (f 0).toInt.toNat) = r52 := by rw [← hg_r52]; unfold m_amW; first | (exact absurd (show h = -1 by assumption) (show ¬ h = -1 by assumption)) | rw [if_pos (by assumption)] | (rw [if_neg (by assumption), hg_z51])
            exact y_ireturn B hI rfl rfl rfl List.mem_cons_self ⟨_, rfl, ⟨_, rfl, x_i32 _⟩⟩ (x_cs.mono B.2.2.2.2.2 (y_mon B hI)) (fun t' w0' w1' f' K' tt' nn' h1 h2 => by cases h1; obtain ⟨ef, -⟩ := hR0.eqs h2; subst ef; exact ⟨_, rfl, fun _ => ⟨fun q9 => absurd (hW.symm.trans q9) (by assumption), fun _ => ⟨fun _ => by rw [hW, hg_r73], fun q9 => absurd (by assumption) q9⟩⟩, fun q9 => absurd hok q9⟩) (Nat.le_refl _) (Nat.le_refl _) moQ_d80
        · have q58_ : r52.toInt = ((-1) : Int32).toInt := by rw [q58]
          refine lv_aload_n hx hb moQ_d61 rfl (lv_at hl 1 rfl) ?_
          refine lv_bipush hx hb moQ_d62 (v := (-3)) (by decide) ?_
          have ecm3 : ((-3) : Int32).toInt = (-3) := by decide
          refine y_call (z := (0, 59, 2, some 0, xM8)) (av := [.ref this, .int ((-3) : Int32)]) (rest := []) (y_cokV (n := 1) (ci := 11) X ym_counted rfl rfl rfl (x_cons (x_bw19 7 rfl rfl) (x_cons (x_bw19 9 rfl rfl) (x_cons (x_at 1 (by decide +kernel) rfl) (x_cons (x_bw0 1 rfl rfl) x_nilm)))) (x_bw19 10 rfl rfl) (by decide +kernel) ⟨Nat.le_of_ble_eq_true rfl, Nat.le_of_ble_eq_true rfl⟩) hY0 hI rfl moQ_d64 hl.1 (Nat.le_of_ble_eq_true rfl) (Nat.le_of_ble_eq_true rfl) (Nat.le_of_ble_eq_true rfl) (y_cons (y_cref hY_this rfl) (y_cons ⟨_, rfl, x_i32 _⟩ y_nil)) rfl (y_recv rfl hY_this) trivial (y_sub_ef rfl) fun v Yn o Hn L ho hr ha hIn hx_ hE hP => ?_
          replace hs_hd := y_Efld hE hY_this rfl (by decide) (by decide) hs_hd
          replace hs_ey := y_Efld hE hY_this rfl (by decide) (by decide) hs_ey
          replace hs_vw := y_Efld hE hY_ey rfl (by decide) (by decide) hs_vw
          replace hn0 := y_Efld hE hY_hd rfl (by decide) (by decide) hn0
          replace hs_ro := y_Efld hE hY_this rfl (by decide) (by decide) hs_ro
          replace hs_sr := y_Efld hE hY_ro rfl (by decide) (by decide) hs_sr
          replace hsi_found := y_Efld hE hY_ro rfl (by decide) (by decide) hsi_found
          replace hA_vw := hA_vw.kept (y_Earr hE hY_vw rfl (by decide))
          replace hA_sr := hA_sr.kept (y_Earr hE hY_sr rfl (by decide))
          replace hL := hL.E hY_hd hE (fun q u h => y_ext hx_ hI.1 h) (by decide +kernel)
          replace hY_this := y_ext hx_ hI.1 hY_this
          replace hY_hd := y_ext hx_ hI.1 hY_hd
          replace hY_ey := y_ext hx_ hI.1 hY_ey
          replace hY_vw := y_ext hx_ hI.1 hY_vw
          replace hY_ro := y_ext hx_ hI.1 hY_ro
          replace hY_sr := y_ext hx_ hI.1 hY_sr
          obtain rfl := hP _ _ rfl
          clear ho hr ha hE hP hI hx_
          rename x_I _ _ _ _ _ _ _ _ _ _ => hI
          have hW : m_fd (m_LC (m_VC f (f 4) (f 5) 0)) (m_fuSt (m_amW h)) (-1) (2 ^ (f 0).toInt.toNat) = r52 := by rw [← hg_r52]; unfold m_amW; first | (exact absurd (show h = -1 by assumption) (show ¬ h = -1 by assumption)) | rw [if_pos (by assumption)] | (rw [if_neg (by assumption), hg_z51])
          exact y_ireturn B hI rfl rfl rfl List.mem_cons_self ⟨_, rfl, ⟨_, rfl, x_i32 _⟩⟩ (x_cs.mono B.2.2.2.2.2 (y_mon B hI)) (fun t' w0' w1' f' K' tt' nn' h1 h2 => by cases h1; obtain ⟨ef, -⟩ := hR0.eqs h2; subst ef; exact ⟨_, rfl, fun _ => ⟨fun _ => rfl, fun q9 => absurd (hW.trans (by assumption)) q9⟩, fun q9 => absurd hok q9⟩) (Nat.le_refl _) (Nat.le_refl _) moQ_d67
    · have q22_ : r19.toInt = (0 : Int32).toInt := by rw [q22]
      have hno : ¬ m_amOk f h t := fun q9 => by first | (have h8 := hout_r19 (by assumption); have h7 := q9.2; omega) | (rcases q9.1 with h8 | h8; exact absurd h8 (by assumption); exact hout_r10 (by assumption) h8)
      refine lv_aload_n hx hb moQ_d25 rfl (lv_at hl 0 rfl) ?_
      refine lv_bipush hx hb moQ_d26 (v := (-2)) (by decide) ?_
      have ecm2 : ((-2) : Int32).toInt = (-2) := by decide
      refine y_call (z := (0, 59, 2, some 0, xM8)) (av := [.ref this, .int ((-2) : Int32)]) (rest := []) (y_cokV (n := 1) (ci := 11) X ym_counted rfl rfl rfl (x_cons (x_bw19 7 rfl rfl) (x_cons (x_bw19 9 rfl rfl) (x_cons (x_at 1 (by decide +kernel) rfl) (x_cons (x_bw0 1 rfl rfl) x_nilm)))) (x_bw19 10 rfl rfl) (by decide +kernel) ⟨Nat.le_of_ble_eq_true rfl, Nat.le_of_ble_eq_true rfl⟩) hY0 hI rfl moQ_d28 hl.1 (Nat.le_of_ble_eq_true rfl) (Nat.le_of_ble_eq_true rfl) (Nat.le_of_ble_eq_true rfl) (y_cons (y_cref hY_this rfl) (y_cons ⟨_, rfl, x_i32 _⟩ y_nil)) rfl (y_recv rfl hY_this) trivial (y_sub_ef rfl) fun v Yn o Hn L ho hr ha hIn hx_ hE hP => ?_
      replace hs_hd := y_Efld hE hY_this rfl (by decide) (by decide) hs_hd
      replace hs_ey := y_Efld hE hY_this rfl (by decide) (by decide) hs_ey
      replace hs_vw := y_Efld hE hY_ey rfl (by decide) (by decide) hs_vw
      replace hn0 := y_Efld hE hY_hd rfl (by decide) (by decide) hn0
      replace hs_ro := y_Efld hE hY_this rfl (by decide) (by decide) hs_ro
      replace hs_sr := y_Efld hE hY_ro rfl (by decide) (by decide) hs_sr
      replace hL := hL.E hY_hd hE (fun q u h => y_ext hx_ hI.1 h) (by decide +kernel)
      replace hY_this := y_ext hx_ hI.1 hY_this
      replace hY_hd := y_ext hx_ hI.1 hY_hd
      replace hY_ey := y_ext hx_ hI.1 hY_ey
      replace hY_vw := y_ext hx_ hI.1 hY_vw
      replace hY_ro := y_ext hx_ hI.1 hY_ro
      replace hY_sr := y_ext hx_ hI.1 hY_sr
      obtain rfl := hP _ _ rfl
      clear ho hr ha hE hP hI hx_
      rename x_I _ _ _ _ _ _ _ _ _ _ => hI
      exact y_ireturn B hI rfl rfl rfl List.mem_cons_self ⟨_, rfl, ⟨_, rfl, x_i32 _⟩⟩ (x_cs.mono B.2.2.2.2.2 (y_mon B hI)) (fun t' w0' w1' f' K' tt' nn' h1 h2 => by cases h1; obtain ⟨ef, -⟩ := hR0.eqs h2; subst ef; exact ⟨_, rfl, fun q9 => absurd q9 hno, fun _ => rfl⟩) (Nat.le_refl _) (Nat.le_refl _) moQ_d31
  · have q2_ : ¬ h.toInt = ((-1) : Int32).toInt := fun q => q2 (Int32.toInt_inj.mp q)
    refine lv_aload_n hx hb moQ_d5 rfl (lv_at hl 0 rfl) ?_
    refine y_getf X (fl8 X.2.2.2.2.1) hI.1 hY_this rfl hs_hd moQ_d6 ?_
    refine lv_iload_n hx hb moQ_d9 rfl (lv_at hl 1 rfl) ?_
    refine y_call (z := (0, 101, 2, some 2, xM40)) (av := [.ref hd, .int h]) (rest := []) (y_cokV (n := 1) (ci := 2) X ym_hasHill rfl rfl rfl (x_cons (x_bw29 8 rfl rfl) (x_cons (x_bw29 9 rfl rfl) (x_cons (x_bw29 10 rfl rfl) (x_cons (x_bw0 2 rfl rfl) x_nilm)))) (x_bw29 11 rfl rfl) (by decide +kernel) ⟨Nat.le_of_ble_eq_true rfl, Nat.le_of_ble_eq_true rfl⟩) hY0 hI rfl moQ_d10 hl.1 (Nat.le_of_ble_eq_true rfl) (Nat.le_of_ble_eq_true rfl) (Nat.le_of_ble_eq_true rfl) (y_cons (y_cref hY_hd rfl) (y_cons ⟨_, rfl, x_i32 _⟩ y_nil)) rfl (y_recv rfl hY_hd) trivial (y_sub_ef rfl) fun v Yn o Hn L ho hr ha hIn hx_ hE hP => ?_
    have hPh := hP _ _ _ rfl hn0
    replace hs_hd := y_Efld hE hY_this rfl (by decide) (by decide) hs_hd
    replace hs_ey := y_Efld hE hY_this rfl (by decide) (by decide) hs_ey
    replace hs_vw := y_Efld hE hY_ey rfl (by decide) (by decide) hs_vw
    replace hn0 := y_Efld hE hY_hd rfl (by decide) (by decide) hn0
    replace hs_ro := y_Efld hE hY_this rfl (by decide) (by decide) hs_ro
    replace hs_sr := y_Efld hE hY_ro rfl (by decide) (by decide) hs_sr
    replace hL := hL.E hY_hd hE (fun q u h => y_ext hx_ hI.1 h) (by decide +kernel)
    replace hY_this := y_ext hx_ hI.1 hY_this
    replace hY_hd := y_ext hx_ hI.1 hY_hd
    replace hY_ey := y_ext hx_ hI.1 hY_ey
    replace hY_vw := y_ext hx_ hI.1 hY_vw
    replace hY_ro := y_ext hx_ hI.1 hY_ro
    replace hY_sr := y_ext hx_ hI.1 hY_sr
    obtain ⟨r10, rfl, hin_r10, hout_r10⟩ := hPh
    clear ho hr ha hE hP hI hx_
    rename x_I _ _ _ _ _ _ _ _ _ _ => hI
    have ec0 : (0 : Int32).toInt = 0 := by decide
    refine lv_if_eq hx hb moQ_d13 (tgt := 25) (by decide) (fun q13 => ?_) (fun q13 => ?_)
    · have q13_ : r10.toInt = (0 : Int32).toInt := by rw [q13]
      have hno : ¬ m_amOk f h t := fun q9 => by first | (have h8 := hout_r19 (by assumption); have h7 := q9.2; omega) | (rcases q9.1 with h8 | h8; exact absurd h8 (by assumption); exact hout_r10 (by assumption) h8)
      refine lv_aload_n hx hb moQ_d25 rfl (lv_at hl 0 rfl) ?_
      refine lv_bipush hx hb moQ_d26 (v := (-2)) (by decide) ?_
      have ecm2 : ((-2) : Int32).toInt = (-2) := by decide
      refine y_call (z := (0, 59, 2, some 0, xM8)) (av := [.ref this, .int ((-2) : Int32)]) (rest := []) (y_cokV (n := 1) (ci := 11) X ym_counted rfl rfl rfl (x_cons (x_bw19 7 rfl rfl) (x_cons (x_bw19 9 rfl rfl) (x_cons (x_at 1 (by decide +kernel) rfl) (x_cons (x_bw0 1 rfl rfl) x_nilm)))) (x_bw19 10 rfl rfl) (by decide +kernel) ⟨Nat.le_of_ble_eq_true rfl, Nat.le_of_ble_eq_true rfl⟩) hY0 hI rfl moQ_d28 hl.1 (Nat.le_of_ble_eq_true rfl) (Nat.le_of_ble_eq_true rfl) (Nat.le_of_ble_eq_true rfl) (y_cons (y_cref hY_this rfl) (y_cons ⟨_, rfl, x_i32 _⟩ y_nil)) rfl (y_recv rfl hY_this) trivial (y_sub_ef rfl) fun v Yn o Hn L ho hr ha hIn hx_ hE hP => ?_
      replace hs_hd := y_Efld hE hY_this rfl (by decide) (by decide) hs_hd
      replace hs_ey := y_Efld hE hY_this rfl (by decide) (by decide) hs_ey
      replace hs_vw := y_Efld hE hY_ey rfl (by decide) (by decide) hs_vw
      replace hn0 := y_Efld hE hY_hd rfl (by decide) (by decide) hn0
      replace hs_ro := y_Efld hE hY_this rfl (by decide) (by decide) hs_ro
      replace hs_sr := y_Efld hE hY_ro rfl (by decide) (by decide) hs_sr
      replace hL := hL.E hY_hd hE (fun q u h => y_ext hx_ hI.1 h) (by decide +kernel)
      replace hY_this := y_ext hx_ hI.1 hY_this
      replace hY_hd := y_ext hx_ hI.1 hY_hd
      replace hY_ey := y_ext hx_ hI.1 hY_ey
      replace hY_vw := y_ext hx_ hI.1 hY_vw
      replace hY_ro := y_ext hx_ hI.1 hY_ro
      replace hY_sr := y_ext hx_ hI.1 hY_sr
      obtain rfl := hP _ _ rfl
      clear ho hr ha hE hP hI hx_
      rename x_I _ _ _ _ _ _ _ _ _ _ => hI
      exact y_ireturn B hI rfl rfl rfl List.mem_cons_self ⟨_, rfl, ⟨_, rfl, x_i32 _⟩⟩ (x_cs.mono B.2.2.2.2.2 (y_mon B hI)) (fun t' w0' w1' f' K' tt' nn' h1 h2 => by cases h1; obtain ⟨ef, -⟩ := hR0.eqs h2; subst ef; exact ⟨_, rfl, fun q9 => absurd q9 hno, fun _ => rfl⟩) (Nat.le_refl _) (Nat.le_refl _) moQ_d31
    · have q13_ : ¬ r10.toInt = (0 : Int32).toInt := fun q => q13 (Int32.toInt_inj.mp q)
      refine lv_iload_n hx hb moQ_d16 rfl (lv_at hl 2 rfl) ?_
      refine lv_iconst hx hb moQ_d17 (v := 0) (by decide) ?_
      refine lv_iconst hx hb moQ_d18 (v := 1) (by decide) ?_
      have ec1 : (1 : Int32).toInt = 1 := by decide
      refine y_call (z := (1, 88, 3, none, xM10)) (av := [.int t, .int (0 : Int32), .int (1 : Int32)]) (rest := []) (y_cokS (n := 3) X ym_within (x_cons (x_bw19 15 rfl rfl) (x_cons (x_bw19 1 rfl rfl) (x_cons (x_bw0 1 rfl rfl) x_nilm))) (x_bw19 2 rfl rfl) (by decide +kernel) ⟨Nat.le_of_ble_eq_true rfl, Nat.le_of_ble_eq_true rfl⟩) hY0 hI rfl moQ_d19 hl.1 (Nat.le_of_ble_eq_true rfl) (Nat.le_of_ble_eq_true rfl) (Nat.le_of_ble_eq_true rfl) (y_cons ⟨_, rfl, x_i32 _⟩ (y_cons ⟨_, rfl, x_i32 _⟩ (y_cons ⟨_, rfl, x_i32 _⟩ y_nil))) rfl (y_norecv rfl) trivial (y_sub_ef rfl) fun v Yn o Hn L ho hr ha hIn hx_ hE hP => ?_
      replace hs_hd := y_Efld hE hY_this rfl (by decide) (by decide) hs_hd
      replace hs_ey := y_Efld hE hY_this rfl (by decide) (by decide) hs_ey
      replace hs_vw := y_Efld hE hY_ey rfl (by decide) (by decide) hs_vw
      replace hn0 := y_Efld hE hY_hd rfl (by decide) (by decide) hn0
      replace hs_ro := y_Efld hE hY_this rfl (by decide) (by decide) hs_ro
      replace hs_sr := y_Efld hE hY_ro rfl (by decide) (by decide) hs_sr
      replace hL := hL.E hY_hd hE (fun q u h => y_ext hx_ hI.1 h) (by decide +kernel)
      replace hY_this := y_ext hx_ hI.1 hY_this
      replace hY_hd := y_ext hx_ hI.1 hY_hd
      replace hY_ey := y_ext hx_ hI.1 hY_ey
      replace hY_vw := y_ext hx_ hI.1 hY_vw
      replace hY_ro := y_ext hx_ hI.1 hY_ro
      replace hY_sr := y_ext hx_ hI.1 hY_sr
      obtain ⟨r19, rfl, hin_r19, hout_r19⟩ := hP _ _ _ rfl
      clear ho hr ha hE hP hI hx_
      rename x_I _ _ _ _ _ _ _ _ _ _ => hI
      refine lv_if_ne hx hb moQ_d22 (tgt := 32) (by decide) (fun q22 => ?_) (fun q22 => ?_)
      · have q22_ : ¬ r19.toInt = (0 : Int32).toInt := fun q => q22 (Int32.toInt_inj.mp q)
        have hw9 := hin_r19 (by assumption)
        have hok : m_amOk f h t := ⟨by first | exact Or.inl (by assumption) | exact Or.inr (hin_r10 (by assumption)), by omega, by omega⟩
        refine lv_aload_n hx hb moQ_d32 rfl (lv_at hl 0 rfl) ?_
        refine y_call (z := (0, 180, 1, some 0, xM1000)) (av := [.ref this]) (rest := []) (y_cokV (n := 0) (ci := 11) X ym_gatherNow rfl rfl rfl (x_cons (x_bw43 12 rfl rfl) (x_cons (x_bw43 14 rfl rfl) (x_cons (x_at 13 (by decide +kernel) rfl) (x_cons (x_bw0 1 rfl rfl) x_nilm)))) (x_bw43 15 rfl rfl) (by decide +kernel) ⟨Nat.le_of_ble_eq_true rfl, Nat.le_of_ble_eq_true rfl⟩) hY0 hI rfl moQ_d33 hl.1 (Nat.le_of_ble_eq_true rfl) (Nat.le_of_ble_eq_true rfl) (Nat.le_of_ble_eq_true rfl) (y_cons (y_cref hY_this rfl) y_nil) rfl (y_recv rfl hY_this) (fun t' hd' h1 h2 => by cases h1; cases h2.symm.trans hs_hd; exact ⟨_, hL⟩) (y_sub_ef rfl) fun v Yn o Hn L ho hr ha hIn hx_ hE hP => ?_
        have hPg := hP _ _ _ _ _ _ _ rfl hs_hd hs_ey hs_vw hs_ro hs_sr hL
        replace hs_hd := y_Efld hE hY_this rfl (by decide) (by decide) hs_hd
        replace hs_ey := y_Efld hE hY_this rfl (by decide) (by decide) hs_ey
        replace hs_vw := y_Efld hE hY_ey rfl (by decide) (by decide) hs_vw
        replace hn0 := y_Efld hE hY_hd rfl (by decide) (by decide) hn0
        replace hs_ro := y_Efld hE hY_this rfl (by decide) (by decide) hs_ro
        replace hs_sr := y_Efld hE hY_ro rfl (by decide) (by decide) hs_sr
        replace hL := hL.E hY_hd hE (fun q u h => y_ext hx_ hI.1 h) (by decide +kernel)
        replace hY_this := y_ext hx_ hI.1 hY_this
        replace hY_hd := y_ext hx_ hI.1 hY_hd
        replace hY_ey := y_ext hx_ hI.1 hY_ey
        replace hY_vw := y_ext hx_ hI.1 hY_vw
        replace hY_ro := y_ext hx_ hI.1 hY_ro
        replace hY_sr := y_ext hx_ hI.1 hY_sr
        obtain rfl := y_ansV rfl ho hr
        obtain ⟨hA_vw, fo, fr, hsi_found, hA_sr, hfo, hse⟩ := hPg
        have hpw : 2 ^ (f 0).toInt.toNat ≤ 1024 := Nat.pow_le_pow_right (n := 2) (by decide) (show (f 0).toInt.toNat ≤ 10 by omega)
        clear ho hr ha hE hP hI hx_
        rename x_I _ _ _ _ _ _ _ _ _ _ => hI
        refine lv_aload_n hx hb moQ_d36 rfl (lv_at hl 0 rfl) ?_
        refine y_getf X (fl205 X.2.2.2.2.1) hI.1 hY_this rfl hs_ro moQ_d37 ?_
        refine lv_iload_n hx hb moQ_d40 rfl (lv_at hl 1 rfl) ?_
        refine lv_iconst hx hb moQ_d41 (v := (-1)) (by decide) ?_
        refine lv_icmp_ne hx hb moQ_d42 (tgt := 49) (by decide) (fun q42 => ?_) (fun q42 => ?_)
        · have q42_ : ¬ h.toInt = ((-1) : Int32).toInt := fun q => q42 (Int32.toInt_inj.mp q)
          refine lv_iconst hx hb moQ_d49 (v := 1) (by decide) ?_
          refine lv_iload_n hx hb moQ_d50 rfl (lv_at hl 1 rfl) ?_
          refine lv_ishl hx hb moQ_d51 ?_
          generalize hg_z51 : (1 : Int32) <<< (h &&& 31) = z51
          refine y_call (z := (0, 183, 2, some 8, xM74)) (av := [.ref ro, .int z51]) (rest := []) (y_cokV (n := 1) (ci := 5) X ym_fullest rfl rfl rfl (x_cons (x_bw44 5 rfl rfl) (x_cons (x_bw44 6 rfl rfl) (x_cons (x_bw44 7 rfl rfl) (x_cons (x_bw0 8 rfl rfl) x_nilm)))) (x_bw44 8 rfl rfl) (by decide +kernel) ⟨Nat.le_of_ble_eq_true rfl, Nat.le_of_ble_eq_true rfl⟩) hY0 hI rfl moQ_d52 hl.1 (Nat.le_of_ble_eq_true rfl) (Nat.le_of_ble_eq_true rfl) (Nat.le_of_ble_eq_true rfl) (y_cons (y_cref hY_ro rfl) (y_cons ⟨_, rfl, x_i32 _⟩ y_nil)) rfl (y_recv rfl hY_ro) trivial (y_sub_ef rfl) fun v Yn o Hn L ho hr ha hIn hx_ hE hP => ?_
          have hPo := hP _ _ _ _ _ _ _ rfl hs_sr hsi_found hA_sr hpw hfo hse
          obtain rfl := hPo
          replace hs_hd := y_Efld hE hY_this rfl (by decide) (by decide) hs_hd
          replace hs_ey := y_Efld hE hY_this rfl (by decide) (by decide) hs_ey
          replace hs_vw := y_Efld hE hY_ey rfl (by decide) (by decide) hs_vw
          replace hn0 := y_Efld hE hY_hd rfl (by decide) (by decide) hn0
          replace hs_ro := y_Efld hE hY_this rfl (by decide) (by decide) hs_ro
          replace hs_sr := y_Efld hE hY_ro rfl (by decide) (by decide) hs_sr
          replace hsi_found := y_Efld hE hY_ro rfl (by decide) (by decide) hsi_found
          replace hA_vw := hA_vw.kept (y_Earr hE hY_vw rfl (by decide))
          replace hA_sr := hA_sr.kept (y_Earr hE hY_sr rfl (by decide))
          replace hL := hL.E hY_hd hE (fun q u h => y_ext hx_ hI.1 h) (by decide +kernel)
          replace hY_this := y_ext hx_ hI.1 hY_this
          replace hY_hd := y_ext hx_ hI.1 hY_hd
          replace hY_ey := y_ext hx_ hI.1 hY_ey
          replace hY_vw := y_ext hx_ hI.1 hY_vw
          replace hY_ro := y_ext hx_ hI.1 hY_ro
          replace hY_sr := y_ext hx_ hI.1 hY_sr
          generalize hg_r52 : m_fd (m_LC (m_VC f (f 4) (f 5) 0)) (m_fuSt z51) (-1) (2 ^ (f 0).toInt.toNat) = r52
          clear ho hr ha hE hP hI hx_
          rename x_I _ _ _ _ _ _ _ _ _ _ => hI
          refine lv_istore_n hx hb moQ_d55 rfl hl (by decide) (lv' := [(3, .int r52), (0, .ref this), (1, .int h), (2, .int t)]) rfl fun ls hl => ?_
          refine lv_iload_n hx hb moQ_d56 rfl (lv_at hl 0 rfl) ?_
          refine lv_iconst hx hb moQ_d57 (v := (-1)) (by decide) ?_
          refine lv_icmp_ne hx hb moQ_d58 (tgt := 68) (by decide) (fun q58 => ?_) (fun q58 => ?_)
          · have q58_ : ¬ r52.toInt = ((-1) : Int32).toInt := fun q => q58 (Int32.toInt_inj.mp q)
            refine lv_iload_n hx hb moQ_d68 rfl (lv_at hl 3 rfl) ?_
            refine lv_if_ne hx hb moQ_d69 (tgt := 79) (by decide) (fun q69 => ?_) (fun q69 => ?_)
            · have q69_ : ¬ t.toInt = (0 : Int32).toInt := fun q => q69 (Int32.toInt_inj.mp q)
              refine lv_iload_n hx hb moQ_d79 rfl (lv_at hl 0 rfl) ?_
              have hW : m_fd (m_LC (m_VC f (f 4) (f 5) 0)) (m_fuSt (m_amW h)) (-1) (2 ^ (f 0).toInt.toNat) = r52 := by rw [← hg_r52]; unfold m_amW; first | (exact absurd (show h = -1 by assumption) (show ¬ h = -1 by assumption)) | rw [if_pos (by assumption)] | (rw [if_neg (by assumption), hg_z51])
              exact y_ireturn B hI rfl rfl rfl List.mem_cons_self ⟨_, rfl, ⟨_, rfl, x_i32 _⟩⟩ (x_cs.mono B.2.2.2.2.2 (y_mon B hI)) (fun t' w0' w1' f' K' tt' nn' h1 h2 => by cases h1; obtain ⟨ef, -⟩ := hR0.eqs h2; subst ef; exact ⟨_, rfl, fun _ => ⟨fun q9 => absurd (hW.symm.trans q9) (by assumption), fun _ => ⟨fun q9 => absurd q9 (by assumption), fun _ => hW.symm⟩⟩, fun q9 => absurd hok q9⟩) (Nat.le_refl _) (Nat.le_refl _) moQ_d80
            · have q69_ : t.toInt = (0 : Int32).toInt := by rw [q69]
              refine lv_iload_n hx hb moQ_d72 rfl (lv_at hl 0 rfl) ?_
              refine y_call (z := (1, 175, 1, none, xM71)) (av := [.int r52]) (rest := []) (y_cokS (n := 1) X ym_bitCount (x_cons (x_bw43 7 rfl rfl) (x_cons (x_bw43 2 rfl rfl) (x_cons (x_bw1 5 rfl rfl) x_nilm))) (x_bw43 3 rfl rfl) (by decide +kernel) ⟨Nat.le_of_ble_eq_true rfl, Nat.le_of_ble_eq_true rfl⟩) hY0 hI rfl moQ_d73 hl.1 (Nat.le_of_ble_eq_true rfl) (Nat.le_of_ble_eq_true rfl) (Nat.le_of_ble_eq_true rfl) (y_cons ⟨_, rfl, x_i32 _⟩ y_nil) rfl (y_norecv rfl) trivial (y_sub_ef rfl) fun v Yn o Hn L ho hr ha hIn hx_ hE hP => ?_
              have hPm := hP _ rfl
              obtain rfl := hPm
              replace hs_hd := y_Efld hE hY_this rfl (by decide) (by decide) hs_hd
              replace hs_ey := y_Efld hE hY_this rfl (by decide) (by decide) hs_ey
              replace hs_vw := y_Efld hE hY_ey rfl (by decide) (by decide) hs_vw
              replace hn0 := y_Efld hE hY_hd rfl (by decide) (by decide) hn0
              replace hs_ro := y_Efld hE hY_this rfl (by decide) (by decide) hs_ro
              replace hs_sr := y_Efld hE hY_ro rfl (by decide) (by decide) hs_sr
              replace hsi_found := y_Efld hE hY_ro rfl (by decide) (by decide) hsi_found
              replace hA_vw := hA_vw.kept (y_Earr hE hY_vw rfl (by decide))
              replace hA_sr := hA_sr.kept (y_Earr hE hY_sr rfl (by decide))
              replace hL := hL.E hY_hd hE (fun q u h => y_ext hx_ hI.1 h) (by decide +kernel)
              replace hY_this := y_ext hx_ hI.1 hY_this
              replace hY_hd := y_ext hx_ hI.1 hY_hd
              replace hY_ey := y_ext hx_ hI.1 hY_ey
              replace hY_vw := y_ext hx_ hI.1 hY_vw
              replace hY_ro := y_ext hx_ hI.1 hY_ro
              replace hY_sr := y_ext hx_ hI.1 hY_sr
              generalize hg_r73 : m_bc r52 = r73
              clear ho hr ha hE hP hI hx_
              rename x_I _ _ _ _ _ _ _ _ _ _ => hI
              refine lv_goto hx hb moQ_d76 (tgt := 80) (by decide) ?_
              have hW : m_fd (m_LC (m_VC f (f 4) (f 5) 0)) (m_fuSt (m_amW h)) (-1) (2 ^ (f 0).toInt.toNat) = r52 := by rw [← hg_r52]; unfold m_amW; first | (exact absurd (show h = -1 by assumption) (show ¬ h = -1 by assumption)) | rw [if_pos (by assumption)] | (rw [if_neg (by assumption), hg_z51])
              exact y_ireturn B hI rfl rfl rfl List.mem_cons_self ⟨_, rfl, ⟨_, rfl, x_i32 _⟩⟩ (x_cs.mono B.2.2.2.2.2 (y_mon B hI)) (fun t' w0' w1' f' K' tt' nn' h1 h2 => by cases h1; obtain ⟨ef, -⟩ := hR0.eqs h2; subst ef; exact ⟨_, rfl, fun _ => ⟨fun q9 => absurd (hW.symm.trans q9) (by assumption), fun _ => ⟨fun _ => by rw [hW, hg_r73], fun q9 => absurd (by assumption) q9⟩⟩, fun q9 => absurd hok q9⟩) (Nat.le_refl _) (Nat.le_refl _) moQ_d80
          · have q58_ : r52.toInt = ((-1) : Int32).toInt := by rw [q58]
            refine lv_aload_n hx hb moQ_d61 rfl (lv_at hl 1 rfl) ?_
            refine lv_bipush hx hb moQ_d62 (v := (-3)) (by decide) ?_
            have ecm3 : ((-3) : Int32).toInt = (-3) := by decide
            refine y_call (z := (0, 59, 2, some 0, xM8)) (av := [.ref this, .int ((-3) : Int32)]) (rest := []) (y_cokV (n := 1) (ci := 11) X ym_counted rfl rfl rfl (x_cons (x_bw19 7 rfl rfl) (x_cons (x_bw19 9 rfl rfl) (x_cons (x_at 1 (by decide +kernel) rfl) (x_cons (x_bw0 1 rfl rfl) x_nilm)))) (x_bw19 10 rfl rfl) (by decide +kernel) ⟨Nat.le_of_ble_eq_true rfl, Nat.le_of_ble_eq_true rfl⟩) hY0 hI rfl moQ_d64 hl.1 (Nat.le_of_ble_eq_true rfl) (Nat.le_of_ble_eq_true rfl) (Nat.le_of_ble_eq_true rfl) (y_cons (y_cref hY_this rfl) (y_cons ⟨_, rfl, x_i32 _⟩ y_nil)) rfl (y_recv rfl hY_this) trivial (y_sub_ef rfl) fun v Yn o Hn L ho hr ha hIn hx_ hE hP => ?_
            replace hs_hd := y_Efld hE hY_this rfl (by decide) (by decide) hs_hd
            replace hs_ey := y_Efld hE hY_this rfl (by decide) (by decide) hs_ey
            replace hs_vw := y_Efld hE hY_ey rfl (by decide) (by decide) hs_vw
            replace hn0 := y_Efld hE hY_hd rfl (by decide) (by decide) hn0
            replace hs_ro := y_Efld hE hY_this rfl (by decide) (by decide) hs_ro
            replace hs_sr := y_Efld hE hY_ro rfl (by decide) (by decide) hs_sr
            replace hsi_found := y_Efld hE hY_ro rfl (by decide) (by decide) hsi_found
            replace hA_vw := hA_vw.kept (y_Earr hE hY_vw rfl (by decide))
            replace hA_sr := hA_sr.kept (y_Earr hE hY_sr rfl (by decide))
            replace hL := hL.E hY_hd hE (fun q u h => y_ext hx_ hI.1 h) (by decide +kernel)
            replace hY_this := y_ext hx_ hI.1 hY_this
            replace hY_hd := y_ext hx_ hI.1 hY_hd
            replace hY_ey := y_ext hx_ hI.1 hY_ey
            replace hY_vw := y_ext hx_ hI.1 hY_vw
            replace hY_ro := y_ext hx_ hI.1 hY_ro
            replace hY_sr := y_ext hx_ hI.1 hY_sr
            obtain rfl := hP _ _ rfl
            clear ho hr ha hE hP hI hx_
            rename x_I _ _ _ _ _ _ _ _ _ _ => hI
            have hW : m_fd (m_LC (m_VC f (f 4) (f 5) 0)) (m_fuSt (m_amW h)) (-1) (2 ^ (f 0).toInt.toNat) = r52 := by rw [← hg_r52]; unfold m_amW; first | (exact absurd (show h = -1 by assumption) (show ¬ h = -1 by assumption)) | rw [if_pos (by assumption)] | (rw [if_neg (by assumption), hg_z51])
            exact y_ireturn B hI rfl rfl rfl List.mem_cons_self ⟨_, rfl, ⟨_, rfl, x_i32 _⟩⟩ (x_cs.mono B.2.2.2.2.2 (y_mon B hI)) (fun t' w0' w1' f' K' tt' nn' h1 h2 => by cases h1; obtain ⟨ef, -⟩ := hR0.eqs h2; subst ef; exact ⟨_, rfl, fun _ => ⟨fun _ => rfl, fun q9 => absurd (hW.trans (by assumption)) q9⟩, fun q9 => absurd hok q9⟩) (Nat.le_refl _) (Nat.le_refl _) moQ_d67
        · have q42_ : h.toInt = ((-1) : Int32).toInt := by rw [q42]
          refine lv_iconst hx hb moQ_d45 (v := 0) (by decide) ?_
          refine lv_goto hx hb moQ_d46 (tgt := 52) (by decide) ?_
          refine y_call (z := (0, 183, 2, some 8, xM74)) (av := [.ref ro, .int (0 : Int32)]) (rest := []) (y_cokV (n := 1) (ci := 5) X ym_fullest rfl rfl rfl (x_cons (x_bw44 5 rfl rfl) (x_cons (x_bw44 6 rfl rfl) (x_cons (x_bw44 7 rfl rfl) (x_cons (x_bw0 8 rfl rfl) x_nilm)))) (x_bw44 8 rfl rfl) (by decide +kernel) ⟨Nat.le_of_ble_eq_true rfl, Nat.le_of_ble_eq_true rfl⟩) hY0 hI rfl moQ_d52 hl.1 (Nat.le_of_ble_eq_true rfl) (Nat.le_of_ble_eq_true rfl) (Nat.le_of_ble_eq_true rfl) (y_cons (y_cref hY_ro rfl) (y_cons ⟨_, rfl, x_i32 _⟩ y_nil)) rfl (y_recv rfl hY_ro) trivial (y_sub_ef rfl) fun v Yn o Hn L ho hr ha hIn hx_ hE hP => ?_
          have hPo := hP _ _ _ _ _ _ _ rfl hs_sr hsi_found hA_sr hpw hfo hse
          obtain rfl := hPo
          replace hs_hd := y_Efld hE hY_this rfl (by decide) (by decide) hs_hd
          replace hs_ey := y_Efld hE hY_this rfl (by decide) (by decide) hs_ey
          replace hs_vw := y_Efld hE hY_ey rfl (by decide) (by decide) hs_vw
          replace hn0 := y_Efld hE hY_hd rfl (by decide) (by decide) hn0
          replace hs_ro := y_Efld hE hY_this rfl (by decide) (by decide) hs_ro
          replace hs_sr := y_Efld hE hY_ro rfl (by decide) (by decide) hs_sr
          replace hsi_found := y_Efld hE hY_ro rfl (by decide) (by decide) hsi_found
          replace hA_vw := hA_vw.kept (y_Earr hE hY_vw rfl (by decide))
          replace hA_sr := hA_sr.kept (y_Earr hE hY_sr rfl (by decide))
          replace hL := hL.E hY_hd hE (fun q u h => y_ext hx_ hI.1 h) (by decide +kernel)
          replace hY_this := y_ext hx_ hI.1 hY_this
          replace hY_hd := y_ext hx_ hI.1 hY_hd
          replace hY_ey := y_ext hx_ hI.1 hY_ey
          replace hY_vw := y_ext hx_ hI.1 hY_vw
          replace hY_ro := y_ext hx_ hI.1 hY_ro
          replace hY_sr := y_ext hx_ hI.1 hY_sr
          generalize hg_r52 : m_fd (m_LC (m_VC f (f 4) (f 5) 0)) (m_fuSt (0 : Int32)) (-1) (2 ^ (f 0).toInt.toNat) = r52
          clear ho hr ha hE hP hI hx_
          rename x_I _ _ _ _ _ _ _ _ _ _ => hI
          refine lv_istore_n hx hb moQ_d55 rfl hl (by decide) (lv' := [(3, .int r52), (0, .ref this), (1, .int h), (2, .int t)]) rfl fun ls hl => ?_
          refine lv_iload_n hx hb moQ_d56 rfl (lv_at hl 0 rfl) ?_
          refine lv_iconst hx hb moQ_d57 (v := (-1)) (by decide) ?_
          refine lv_icmp_ne hx hb moQ_d58 (tgt := 68) (by decide) (fun q58 => ?_) (fun q58 => ?_)
          · have q58_ : ¬ r52.toInt = ((-1) : Int32).toInt := fun q => q58 (Int32.toInt_inj.mp q)
            refine lv_iload_n hx hb moQ_d68 rfl (lv_at hl 3 rfl) ?_
            refine lv_if_ne hx hb moQ_d69 (tgt := 79) (by decide) (fun q69 => ?_) (fun q69 => ?_)
            · have q69_ : ¬ t.toInt = (0 : Int32).toInt := fun q => q69 (Int32.toInt_inj.mp q)
              refine lv_iload_n hx hb moQ_d79 rfl (lv_at hl 0 rfl) ?_
              have hW : m_fd (m_LC (m_VC f (f 4) (f 5) 0)) (m_fuSt (m_amW h)) (-1) (2 ^ (f 0).toInt.toNat) = r52 := by rw [← hg_r52]; unfold m_amW; first | (exact absurd (show h = -1 by assumption) (show ¬ h = -1 by assumption)) | rw [if_pos (by assumption)] | (rw [if_neg (by assumption), hg_z51])
              exact y_ireturn B hI rfl rfl rfl List.mem_cons_self ⟨_, rfl, ⟨_, rfl, x_i32 _⟩⟩ (x_cs.mono B.2.2.2.2.2 (y_mon B hI)) (fun t' w0' w1' f' K' tt' nn' h1 h2 => by cases h1; obtain ⟨ef, -⟩ := hR0.eqs h2; subst ef; exact ⟨_, rfl, fun _ => ⟨fun q9 => absurd (hW.symm.trans q9) (by assumption), fun _ => ⟨fun q9 => absurd q9 (by assumption), fun _ => hW.symm⟩⟩, fun q9 => absurd hok q9⟩) (Nat.le_refl _) (Nat.le_refl _) moQ_d80
            · have q69_ : t.toInt = (0 : Int32).toInt := by rw [q69]
              refine lv_iload_n hx hb moQ_d72 rfl (lv_at hl 0 rfl) ?_
              refine y_call (z := (1, 175, 1, none, xM71)) (av := [.int r52]) (rest := []) (y_cokS (n := 1) X ym_bitCount (x_cons (x_bw43 7 rfl rfl) (x_cons (x_bw43 2 rfl rfl) (x_cons (x_bw1 5 rfl rfl) x_nilm))) (x_bw43 3 rfl rfl) (by decide +kernel) ⟨Nat.le_of_ble_eq_true rfl, Nat.le_of_ble_eq_true rfl⟩) hY0 hI rfl moQ_d73 hl.1 (Nat.le_of_ble_eq_true rfl) (Nat.le_of_ble_eq_true rfl) (Nat.le_of_ble_eq_true rfl) (y_cons ⟨_, rfl, x_i32 _⟩ y_nil) rfl (y_norecv rfl) trivial (y_sub_ef rfl) fun v Yn o Hn L ho hr ha hIn hx_ hE hP => ?_
              have hPm := hP _ rfl
              obtain rfl := hPm
              replace hs_hd := y_Efld hE hY_this rfl (by decide) (by decide) hs_hd
              replace hs_ey := y_Efld hE hY_this rfl (by decide) (by decide) hs_ey
              replace hs_vw := y_Efld hE hY_ey rfl (by decide) (by decide) hs_vw
              replace hn0 := y_Efld hE hY_hd rfl (by decide) (by decide) hn0
              replace hs_ro := y_Efld hE hY_this rfl (by decide) (by decide) hs_ro
              replace hs_sr := y_Efld hE hY_ro rfl (by decide) (by decide) hs_sr
              replace hsi_found := y_Efld hE hY_ro rfl (by decide) (by decide) hsi_found
              replace hA_vw := hA_vw.kept (y_Earr hE hY_vw rfl (by decide))
              replace hA_sr := hA_sr.kept (y_Earr hE hY_sr rfl (by decide))
              replace hL := hL.E hY_hd hE (fun q u h => y_ext hx_ hI.1 h) (by decide +kernel)
              replace hY_this := y_ext hx_ hI.1 hY_this
              replace hY_hd := y_ext hx_ hI.1 hY_hd
              replace hY_ey := y_ext hx_ hI.1 hY_ey
              replace hY_vw := y_ext hx_ hI.1 hY_vw
              replace hY_ro := y_ext hx_ hI.1 hY_ro
              replace hY_sr := y_ext hx_ hI.1 hY_sr
              generalize hg_r73 : m_bc r52 = r73
              clear ho hr ha hE hP hI hx_
              rename x_I _ _ _ _ _ _ _ _ _ _ => hI
              refine lv_goto hx hb moQ_d76 (tgt := 80) (by decide) ?_
              have hW : m_fd (m_LC (m_VC f (f 4) (f 5) 0)) (m_fuSt (m_amW h)) (-1) (2 ^ (f 0).toInt.toNat) = r52 := by rw [← hg_r52]; unfold m_amW; first | (exact absurd (show h = -1 by assumption) (show ¬ h = -1 by assumption)) | rw [if_pos (by assumption)] | (rw [if_neg (by assumption), hg_z51])
              exact y_ireturn B hI rfl rfl rfl List.mem_cons_self ⟨_, rfl, ⟨_, rfl, x_i32 _⟩⟩ (x_cs.mono B.2.2.2.2.2 (y_mon B hI)) (fun t' w0' w1' f' K' tt' nn' h1 h2 => by cases h1; obtain ⟨ef, -⟩ := hR0.eqs h2; subst ef; exact ⟨_, rfl, fun _ => ⟨fun q9 => absurd (hW.symm.trans q9) (by assumption), fun _ => ⟨fun _ => by rw [hW, hg_r73], fun q9 => absurd (by assumption) q9⟩⟩, fun q9 => absurd hok q9⟩) (Nat.le_refl _) (Nat.le_refl _) moQ_d80
          · have q58_ : r52.toInt = ((-1) : Int32).toInt := by rw [q58]
            refine lv_aload_n hx hb moQ_d61 rfl (lv_at hl 1 rfl) ?_
            refine lv_bipush hx hb moQ_d62 (v := (-3)) (by decide) ?_
            have ecm3 : ((-3) : Int32).toInt = (-3) := by decide
            refine y_call (z := (0, 59, 2, some 0, xM8)) (av := [.ref this, .int ((-3) : Int32)]) (rest := []) (y_cokV (n := 1) (ci := 11) X ym_counted rfl rfl rfl (x_cons (x_bw19 7 rfl rfl) (x_cons (x_bw19 9 rfl rfl) (x_cons (x_at 1 (by decide +kernel) rfl) (x_cons (x_bw0 1 rfl rfl) x_nilm)))) (x_bw19 10 rfl rfl) (by decide +kernel) ⟨Nat.le_of_ble_eq_true rfl, Nat.le_of_ble_eq_true rfl⟩) hY0 hI rfl moQ_d64 hl.1 (Nat.le_of_ble_eq_true rfl) (Nat.le_of_ble_eq_true rfl) (Nat.le_of_ble_eq_true rfl) (y_cons (y_cref hY_this rfl) (y_cons ⟨_, rfl, x_i32 _⟩ y_nil)) rfl (y_recv rfl hY_this) trivial (y_sub_ef rfl) fun v Yn o Hn L ho hr ha hIn hx_ hE hP => ?_
            replace hs_hd := y_Efld hE hY_this rfl (by decide) (by decide) hs_hd
            replace hs_ey := y_Efld hE hY_this rfl (by decide) (by decide) hs_ey
            replace hs_vw := y_Efld hE hY_ey rfl (by decide) (by decide) hs_vw
            replace hn0 := y_Efld hE hY_hd rfl (by decide) (by decide) hn0
            replace hs_ro := y_Efld hE hY_this rfl (by decide) (by decide) hs_ro
            replace hs_sr := y_Efld hE hY_ro rfl (by decide) (by decide) hs_sr
            replace hsi_found := y_Efld hE hY_ro rfl (by decide) (by decide) hsi_found
            replace hA_vw := hA_vw.kept (y_Earr hE hY_vw rfl (by decide))
            replace hA_sr := hA_sr.kept (y_Earr hE hY_sr rfl (by decide))
            replace hL := hL.E hY_hd hE (fun q u h => y_ext hx_ hI.1 h) (by decide +kernel)
            replace hY_this := y_ext hx_ hI.1 hY_this
            replace hY_hd := y_ext hx_ hI.1 hY_hd
            replace hY_ey := y_ext hx_ hI.1 hY_ey
            replace hY_vw := y_ext hx_ hI.1 hY_vw
            replace hY_ro := y_ext hx_ hI.1 hY_ro
            replace hY_sr := y_ext hx_ hI.1 hY_sr
            obtain rfl := hP _ _ rfl
            clear ho hr ha hE hP hI hx_
            rename x_I _ _ _ _ _ _ _ _ _ _ => hI
            have hW : m_fd (m_LC (m_VC f (f 4) (f 5) 0)) (m_fuSt (m_amW h)) (-1) (2 ^ (f 0).toInt.toNat) = r52 := by rw [← hg_r52]; unfold m_amW; first | (exact absurd (show h = -1 by assumption) (show ¬ h = -1 by assumption)) | rw [if_pos (by assumption)] | (rw [if_neg (by assumption), hg_z51])
            exact y_ireturn B hI rfl rfl rfl List.mem_cons_self ⟨_, rfl, ⟨_, rfl, x_i32 _⟩⟩ (x_cs.mono B.2.2.2.2.2 (y_mon B hI)) (fun t' w0' w1' f' K' tt' nn' h1 h2 => by cases h1; obtain ⟨ef, -⟩ := hR0.eqs h2; subst ef; exact ⟨_, rfl, fun _ => ⟨fun _ => rfl, fun q9 => absurd (hW.trans (by assumption)) q9⟩, fun q9 => absurd hok q9⟩) (Nat.le_refl _) (Nat.le_refl _) moQ_d67
      · have q22_ : r19.toInt = (0 : Int32).toInt := by rw [q22]
        have hno : ¬ m_amOk f h t := fun q9 => by first | (have h8 := hout_r19 (by assumption); have h7 := q9.2; omega) | (rcases q9.1 with h8 | h8; exact absurd h8 (by assumption); exact hout_r10 (by assumption) h8)
        refine lv_aload_n hx hb moQ_d25 rfl (lv_at hl 0 rfl) ?_
        refine lv_bipush hx hb moQ_d26 (v := (-2)) (by decide) ?_
        have ecm2 : ((-2) : Int32).toInt = (-2) := by decide
        refine y_call (z := (0, 59, 2, some 0, xM8)) (av := [.ref this, .int ((-2) : Int32)]) (rest := []) (y_cokV (n := 1) (ci := 11) X ym_counted rfl rfl rfl (x_cons (x_bw19 7 rfl rfl) (x_cons (x_bw19 9 rfl rfl) (x_cons (x_at 1 (by decide +kernel) rfl) (x_cons (x_bw0 1 rfl rfl) x_nilm)))) (x_bw19 10 rfl rfl) (by decide +kernel) ⟨Nat.le_of_ble_eq_true rfl, Nat.le_of_ble_eq_true rfl⟩) hY0 hI rfl moQ_d28 hl.1 (Nat.le_of_ble_eq_true rfl) (Nat.le_of_ble_eq_true rfl) (Nat.le_of_ble_eq_true rfl) (y_cons (y_cref hY_this rfl) (y_cons ⟨_, rfl, x_i32 _⟩ y_nil)) rfl (y_recv rfl hY_this) trivial (y_sub_ef rfl) fun v Yn o Hn L ho hr ha hIn hx_ hE hP => ?_
        replace hs_hd := y_Efld hE hY_this rfl (by decide) (by decide) hs_hd
        replace hs_ey := y_Efld hE hY_this rfl (by decide) (by decide) hs_ey
        replace hs_vw := y_Efld hE hY_ey rfl (by decide) (by decide) hs_vw
        replace hn0 := y_Efld hE hY_hd rfl (by decide) (by decide) hn0
        replace hs_ro := y_Efld hE hY_this rfl (by decide) (by decide) hs_ro
        replace hs_sr := y_Efld hE hY_ro rfl (by decide) (by decide) hs_sr
        replace hL := hL.E hY_hd hE (fun q u h => y_ext hx_ hI.1 h) (by decide +kernel)
        replace hY_this := y_ext hx_ hI.1 hY_this
        replace hY_hd := y_ext hx_ hI.1 hY_hd
        replace hY_ey := y_ext hx_ hI.1 hY_ey
        replace hY_vw := y_ext hx_ hI.1 hY_vw
        replace hY_ro := y_ext hx_ hI.1 hY_ro
        replace hY_sr := y_ext hx_ hI.1 hY_sr
        obtain rfl := hP _ _ rfl
        clear ho hr ha hE hP hI hx_
        rename x_I _ _ _ _ _ _ _ _ _ _ => hI
        exact y_ireturn B hI rfl rfl rfl List.mem_cons_self ⟨_, rfl, ⟨_, rfl, x_i32 _⟩⟩ (x_cs.mono B.2.2.2.2.2 (y_mon B hI)) (fun t' w0' w1' f' K' tt' nn' h1 h2 => by cases h1; obtain ⟨ef, -⟩ := hR0.eqs h2; subst ef; exact ⟨_, rfl, fun q9 => absurd q9 hno, fun _ => rfl⟩) (Nat.le_refl _) (Nat.le_refl _) moQ_d31

