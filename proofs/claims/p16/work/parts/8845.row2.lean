def z_Pgn : yP := fun D av Y H _ _ H' => ∀ (this ld ey vw ro sr : Nat) (f : Nat → Int32), av = [.ref this] → x_sl D 11 0 this H = some (.ref ld) → x_sl D 11 4 this H = some (.ref ey) → x_sl D 0 1 ey H = some (.ref vw) → x_sl D 11 5 this H = some (.ref ro) → x_sl D 5 0 ro H = some (.ref sr) → z_L D Y ld H f → y_A vw 10 H' (m_VC f (f 4) (f 5) 0) ∧ ∃ (fo : Int32) (fr : Nat → Int32), x_sl D 5 1 ro H' = some (.int fo) ∧ y_A sr 1024 H' fr ∧ fo.toInt = (m_cn (m_LC (m_VC f (f 4) (f 5) 0)) (2 ^ (f 0).toInt.toNat) : Nat) ∧ m_sets (m_LC (m_VC f (f 4) (f 5) 0)) (2 ^ (f 0).toInt.toNat) fr
theorem gnq_d0 : decode xM1000.2.1 0 = .ok (.aload_n 0, 1) := dz_ok (by decide +kernel)
theorem gnq_d1 : decode xM1000.2.1 1 = .ok (.getfield 33, 3) := dz_ok (by decide +kernel)
theorem gnq_d4 : decode xM1000.2.1 4 = .ok (.aload_n 0, 1) := dz_ok (by decide +kernel)
theorem gnq_d5 : decode xM1000.2.1 5 = .ok (.getfield 12, 3) := dz_ok (by decide +kernel)
theorem gnq_d8 : decode xM1000.2.1 8 = .ok (.aload_n 0, 1) := dz_ok (by decide +kernel)
theorem gnq_d9 : decode xM1000.2.1 9 = .ok (.getfield 12, 3) := dz_ok (by decide +kernel)
theorem gnq_d12 : decode xM1000.2.1 12 = .ok (.getfield 95, 3) := dz_ok (by decide +kernel)
theorem gnq_d15 : decode xM1000.2.1 15 = .ok (.iconst 0, 1) := dz_ok (by decide +kernel)
theorem gnq_d16 : decode xM1000.2.1 16 = .ok (.iaload, 1) := dz_ok (by decide +kernel)
theorem gnq_d17 : decode xM1000.2.1 17 = .ok (.invokevirtual 200, 3) := dz_ok (by decide +kernel)
theorem gnq_d20 : decode xM1000.2.1 20 = .ok (.aload_n 0, 1) := dz_ok (by decide +kernel)
theorem gnq_d21 : decode xM1000.2.1 21 = .ok (.getfield 33, 3) := dz_ok (by decide +kernel)
theorem gnq_d24 : decode xM1000.2.1 24 = .ok (.aload_n 0, 1) := dz_ok (by decide +kernel)
theorem gnq_d25 : decode xM1000.2.1 25 = .ok (.getfield 12, 3) := dz_ok (by decide +kernel)
theorem gnq_d28 : decode xM1000.2.1 28 = .ok (.aload_n 0, 1) := dz_ok (by decide +kernel)
theorem gnq_d29 : decode xM1000.2.1 29 = .ok (.getfield 12, 3) := dz_ok (by decide +kernel)
theorem gnq_d32 : decode xM1000.2.1 32 = .ok (.getfield 95, 3) := dz_ok (by decide +kernel)
theorem gnq_d35 : decode xM1000.2.1 35 = .ok (.iconst 1, 1) := dz_ok (by decide +kernel)
theorem gnq_d36 : decode xM1000.2.1 36 = .ok (.iaload, 1) := dz_ok (by decide +kernel)
theorem gnq_d37 : decode xM1000.2.1 37 = .ok (.iconst 0, 1) := dz_ok (by decide +kernel)
theorem gnq_d38 : decode xM1000.2.1 38 = .ok (.invokevirtual 204, 3) := dz_ok (by decide +kernel)
theorem gnq_d41 : decode xM1000.2.1 41 = .ok (.aload_n 0, 1) := dz_ok (by decide +kernel)
theorem gnq_d42 : decode xM1000.2.1 42 = .ok (.getfield 40, 3) := dz_ok (by decide +kernel)
theorem gnq_d45 : decode xM1000.2.1 45 = .ok (.aload_n 0, 1) := dz_ok (by decide +kernel)
theorem gnq_d46 : decode xM1000.2.1 46 = .ok (.getfield 33, 3) := dz_ok (by decide +kernel)
theorem gnq_d49 : decode xM1000.2.1 49 = .ok (.aload_n 0, 1) := dz_ok (by decide +kernel)
theorem gnq_d50 : decode xM1000.2.1 50 = .ok (.getfield 12, 3) := dz_ok (by decide +kernel)
theorem gnq_d53 : decode xM1000.2.1 53 = .ok (.getfield 273, 3) := dz_ok (by decide +kernel)
theorem gnq_d56 : decode xM1000.2.1 56 = .ok (.invokevirtual 317, 3) := dz_ok (by decide +kernel)
theorem gnq_d59 : decode xM1000.2.1 59 = .ok (.return_, 1) := dz_ok (by decide +kernel)
theorem ym_gatherNow : y_Met vwCl x_G x_Zs x_Tb x_Nb xM1000 z_AT1 z_Pgn := by
  refine y_main (by decide +kernel) (by decide +kernel) x_Tb_good x_Nb_ok ?_
  intro p l e s m below meth c D U Y0 av ls B hI hpre hl
  have X := B.1
  have hx := X.1
  have hb := X.2.1
  have hY0 := B.2.2.2.2.1
  obtain ⟨v0, rfl, hv0⟩ := x_one B.2.2.2.2.2
  obtain ⟨this, t0, rfl, ht0, hY_this⟩ := x_ref_at hv0 rfl
  obtain rfl := List.mem_singleton.mp ht0
  replace hl : lv_has ls xM1000.2.2.1 [(0, .ref this)] := hl
  obtain ⟨ld, hs_ld, hY_ld⟩ := y_fldR (k := 0) hI.1 hY_this rfl rfl
  obtain ⟨ey, hs_ey, hY_ey⟩ := y_fldR (k := 4) hI.1 hY_this rfl rfl
  obtain ⟨ro, hs_ro, hY_ro⟩ := y_fldR (k := 5) hI.1 hY_this rfl rfl
  obtain ⟨vw, hs_vw, hY_vw⟩ := y_fldR (k := 1) hI.1 hY_ey rfl rfl
  obtain ⟨en, hs_en, hY_en⟩ := y_fldR (k := 2) hI.1 hY_ey rfl rfl
  obtain ⟨ed, hs_ed, hY_ed⟩ := y_fldR (k := 3) hI.1 hY_ey rfl rfl
  obtain ⟨sr, hs_sr, hY_sr⟩ := y_fldR (k := 0) hI.1 hY_ro rfl rfl
  have hs0 := hs_ld
  have hs4 := hs_ey
  have hs1 := hs_vw
  have hs5 := hs_ro
  have hs6 := hs_sr
  obtain ⟨f, hL⟩ := hpre _ _ rfl hs_ld
  have hL0 := hL
  have hn0 := hL.1.1
  have hd0 : 0 ≤ (f 0).toInt ∧ (f 0).toInt ≤ 10 := by
    obtain ⟨x9, e9, b9⟩ := y_fldI (k := 0) hI.1 hY_ld rfl rfl
    rw [hn0] at e9
    cases e9
    exact b9
  obtain ⟨adial, hs_adial, hY_adial, hA_adial⟩ := hL.2.1 (10, 27, 4, 4, 1) (by decide)
  replace hA_adial : y_A adial 4 s.heap (fun j => f (4 + 1 * j)) := hA_adial
  refine lv_aload_n hx hb gnq_d0 rfl (lv_at hl 0 rfl) ?_
  refine y_getf X (fl102 X.2.2.2.2.1) hI.1 hY_this rfl hs_ey gnq_d1 ?_
  refine lv_aload_n hx hb gnq_d4 rfl (lv_at hl 0 rfl) ?_
  refine y_getf X (fl8 X.2.2.2.2.1) hI.1 hY_this rfl hs_ld gnq_d5 ?_
  refine lv_aload_n hx hb gnq_d8 rfl (lv_at hl 0 rfl) ?_
  refine y_getf X (fl8 X.2.2.2.2.1) hI.1 hY_this rfl hs_ld gnq_d9 ?_
  refine y_getf X (fl58 X.2.2.2.2.1) hI.1 hY_ld rfl hs_adial gnq_d12 ?_
  refine lv_iconst hx hb gnq_d15 (v := 0) (by decide) ?_
  have ec0 : (0 : Int32).toInt = 0 := by decide
  refine y_iald X hI.1 hY_adial rfl hA_adial (by omega) (by show _ < (4 : Int); omega) gnq_d16 ?_
  obtain ⟨e16, hg_e16⟩ : ∃ e16 : Int32, f (4 + 1 * (0 : Int32).toInt.toNat) = e16 := ⟨_, rfl⟩
  rw [hg_e16]
  refine y_call (z := (0, 200, 3, some 6, xM49)) (av := [.ref ey, .ref ld, .int e16]) (rest := []) (y_cokV (n := 2) (ci := 0) X ym_gatherE rfl rfl rfl (x_cons (x_bw30 0 rfl rfl) (x_cons (x_bw30 1 rfl rfl) (x_cons (x_bw30 2 rfl rfl) (x_cons (x_bw0 6 rfl rfl) x_nilm)))) (x_bw30 3 rfl rfl) (by decide +kernel) ⟨Nat.le_of_ble_eq_true rfl, Nat.le_of_ble_eq_true rfl⟩) hY0 hI rfl gnq_d17 hl.1 (Nat.le_of_ble_eq_true rfl) (Nat.le_of_ble_eq_true rfl) (Nat.le_of_ble_eq_true rfl) (y_cons (y_cref hY_ey rfl) (y_cons (y_cref hY_ld rfl) (y_cons ⟨_, rfl, x_i32 _⟩ y_nil))) rfl (y_recv rfl hY_ey) (fun t' h1 => by cases h1; exact ⟨_, hL⟩) (y_sub_ef rfl) fun v Yn o Hn L ho hr ha hIn hx_ hE hP => ?_
  have hPg := hP _ _ _ _ _ _ rfl hs_en hs_ed hL
  replace hs_ld := y_Efld hE hY_this rfl (by decide) (by decide) hs_ld
  replace hs_ey := y_Efld hE hY_this rfl (by decide) (by decide) hs_ey
  replace hs_ro := y_Efld hE hY_this rfl (by decide) (by decide) hs_ro
  replace hs_vw := y_Efld hE hY_ey rfl (by decide) (by decide) hs_vw
  replace hs_en := y_Efld hE hY_ey rfl (by decide) (by decide) hs_en
  replace hs_ed := y_Efld hE hY_ey rfl (by decide) (by decide) hs_ed
  replace hs_adial := y_Efld hE hY_ld rfl (by decide) (by decide) hs_adial
  replace hn0 := y_Efld hE hY_ld rfl (by decide) (by decide) hn0
  replace hs_sr := y_Efld hE hY_ro rfl (by decide) (by decide) hs_sr
  replace hA_adial := hA_adial.kept (y_Earr hE hY_adial rfl (by decide))
  replace hL := hL.E hY_ld hE (fun q u h => y_ext hx_ hI.1 h) (by decide +kernel)
  replace hY_this := y_ext hx_ hI.1 hY_this
  replace hY_ld := y_ext hx_ hI.1 hY_ld
  replace hY_ey := y_ext hx_ hI.1 hY_ey
  replace hY_vw := y_ext hx_ hI.1 hY_vw
  replace hY_en := y_ext hx_ hI.1 hY_en
  replace hY_ed := y_ext hx_ hI.1 hY_ed
  replace hY_adial := y_ext hx_ hI.1 hY_adial
  replace hY_ro := y_ext hx_ hI.1 hY_ro
  replace hY_sr := y_ext hx_ hI.1 hY_sr
  obtain rfl := y_ansV rfl ho hr
  obtain ⟨fn, fd, hA_en, hA_ed, hok9⟩ := hPg
  have hd09 : True := trivial
  clear ho hr ha hE hP hI hx_
  rename x_I _ _ _ _ _ _ _ _ _ _ => hI
  refine lv_aload_n hx hb gnq_d20 rfl (lv_at hl 0 rfl) ?_
  refine y_getf X (fl102 X.2.2.2.2.1) hI.1 hY_this rfl hs_ey gnq_d21 ?_
  refine lv_aload_n hx hb gnq_d24 rfl (lv_at hl 0 rfl) ?_
  refine y_getf X (fl8 X.2.2.2.2.1) hI.1 hY_this rfl hs_ld gnq_d25 ?_
  refine lv_aload_n hx hb gnq_d28 rfl (lv_at hl 0 rfl) ?_
  refine y_getf X (fl8 X.2.2.2.2.1) hI.1 hY_this rfl hs_ld gnq_d29 ?_
  refine y_getf X (fl58 X.2.2.2.2.1) hI.1 hY_ld rfl hs_adial gnq_d32 ?_
  refine lv_iconst hx hb gnq_d35 (v := 1) (by decide) ?_
  have ec1 : (1 : Int32).toInt = 1 := by decide
  refine y_iald X hI.1 hY_adial rfl hA_adial (by omega) (by show _ < (4 : Int); omega) gnq_d36 ?_
  obtain ⟨e36, hg_e36⟩ : ∃ e36 : Int32, f (4 + 1 * (1 : Int32).toInt.toNat) = e36 := ⟨_, rfl⟩
  rw [hg_e36]
  refine lv_iconst hx hb gnq_d37 (v := 0) (by decide) ?_
  refine y_call (z := (0, 204, 4, some 6, xM51)) (av := [.ref ey, .ref ld, .int e36, .int (0 : Int32)]) (rest := []) (y_cokV (n := 3) (ci := 0) X ym_veil rfl rfl rfl (x_cons (x_bw32 11 rfl rfl) (x_cons (x_bw32 12 rfl rfl) (x_cons (x_bw32 13 rfl rfl) (x_cons (x_bw0 6 rfl rfl) x_nilm)))) (x_bw32 14 rfl rfl) (by decide +kernel) ⟨Nat.le_of_ble_eq_true rfl, Nat.le_of_ble_eq_true rfl⟩) hY0 hI rfl gnq_d38 hl.1 (Nat.le_of_ble_eq_true rfl) (Nat.le_of_ble_eq_true rfl) (Nat.le_of_ble_eq_true rfl) (y_cons (y_cref hY_ey rfl) (y_cons (y_cref hY_ld rfl) (y_cons ⟨_, rfl, x_i32 _⟩ (y_cons ⟨_, rfl, x_i32 _⟩ y_nil)))) rfl (y_recv rfl hY_ey) (fun t' h1 => by cases h1; exact ⟨_, hL⟩) (y_sub_ef rfl) fun v Yn o Hn L ho hr ha hIn hx_ hE hP => ?_
  have hPv := hP _ _ _ _ _ _ _ _ _ _ rfl hs_vw hs_en hs_ed hL hA_en hA_ed
  replace hs_ld := y_Efld hE hY_this rfl (by decide) (by decide) hs_ld
  replace hs_ey := y_Efld hE hY_this rfl (by decide) (by decide) hs_ey
  replace hs_ro := y_Efld hE hY_this rfl (by decide) (by decide) hs_ro
  replace hs_vw := y_Efld hE hY_ey rfl (by decide) (by decide) hs_vw
  replace hs_en := y_Efld hE hY_ey rfl (by decide) (by decide) hs_en
  replace hs_ed := y_Efld hE hY_ey rfl (by decide) (by decide) hs_ed
  replace hs_adial := y_Efld hE hY_ld rfl (by decide) (by decide) hs_adial
  replace hn0 := y_Efld hE hY_ld rfl (by decide) (by decide) hn0
  replace hs_sr := y_Efld hE hY_ro rfl (by decide) (by decide) hs_sr
  replace hA_adial := hA_adial.kept (y_Earr hE hY_adial rfl (by decide))
  replace hA_en := hA_en.kept (y_Earr hE hY_en rfl (by decide))
  replace hA_ed := hA_ed.kept (y_Earr hE hY_ed rfl (by decide))
  replace hL := hL.E hY_ld hE (fun q u h => y_ext hx_ hI.1 h) (by decide +kernel)
  replace hY_this := y_ext hx_ hI.1 hY_this
  replace hY_ld := y_ext hx_ hI.1 hY_ld
  replace hY_ey := y_ext hx_ hI.1 hY_ey
  replace hY_vw := y_ext hx_ hI.1 hY_vw
  replace hY_en := y_ext hx_ hI.1 hY_en
  replace hY_ed := y_ext hx_ hI.1 hY_ed
  replace hY_adial := y_ext hx_ hI.1 hY_adial
  replace hY_ro := y_ext hx_ hI.1 hY_ro
  replace hY_sr := y_ext hx_ hI.1 hY_sr
  obtain rfl := y_ansV rfl ho hr
  have hA_vw : y_A vw 10 Hn (m_VC f (f 4) (f 5) 0) := z_cpA hPv (fun i hi => (m_vw_congr fun p q h8 h9 => by rw [m_vk_ok (hok9 p q h8 (by omega)), ← hg_e16, ← hg_e36]; rfl).symm)
  clear ho hr ha hE hP hI hx_
  rename x_I _ _ _ _ _ _ _ _ _ _ => hI
  refine lv_aload_n hx hb gnq_d41 rfl (lv_at hl 0 rfl) ?_
  refine y_getf X (fl205 X.2.2.2.2.1) hI.1 hY_this rfl hs_ro gnq_d42 ?_
  refine lv_aload_n hx hb gnq_d45 rfl (lv_at hl 0 rfl) ?_
  refine y_getf X (fl102 X.2.2.2.2.1) hI.1 hY_this rfl hs_ey gnq_d46 ?_
  refine lv_aload_n hx hb gnq_d49 rfl (lv_at hl 0 rfl) ?_
  refine y_getf X (fl8 X.2.2.2.2.1) hI.1 hY_this rfl hs_ld gnq_d50 ?_
  refine y_getf X (fl153 X.2.2.2.2.1) hI.1 hY_ld rfl hn0 gnq_d53 ?_
  refine y_call (z := (0, 317, 3, some 8, xMga)) (av := [.ref ro, .ref ey, .int (f 0)]) (rest := []) (y_cokV (n := 2) (ci := 5) X ym_gatherR rfl rfl rfl (x_cons (x_bw44 0 rfl rfl) (x_cons (x_bw44 1 rfl rfl) (x_cons (x_bw44 2 rfl rfl) (x_cons (x_bw0 8 rfl rfl) x_nilm)))) (x_bw44 3 rfl rfl) (by decide +kernel) ⟨Nat.le_of_ble_eq_true rfl, Nat.le_of_ble_eq_true rfl⟩) hY0 hI rfl gnq_d56 hl.1 (Nat.le_of_ble_eq_true rfl) (Nat.le_of_ble_eq_true rfl) (Nat.le_of_ble_eq_true rfl) (y_cons (y_cref hY_ro rfl) (y_cons (y_cref hY_ey rfl) (y_cons ⟨_, rfl, by show (0 : Int) ≤ _; omega, by show _ ≤ (10 : Int); omega⟩ y_nil))) rfl (y_recv rfl hY_ro) trivial (y_sub_ef rfl) fun v Yn o Hn L ho hr ha hIn hx_ hE hP => ?_
  have hPr := hP _ _ _ _ _ _ rfl hs_vw hA_vw hs_sr
  replace hs_ld := y_Efld hE hY_this rfl (by decide) (by decide) hs_ld
  replace hs_ey := y_Efld hE hY_this rfl (by decide) (by decide) hs_ey
  replace hs_ro := y_Efld hE hY_this rfl (by decide) (by decide) hs_ro
  replace hs_vw := y_Efld hE hY_ey rfl (by decide) (by decide) hs_vw
  replace hs_en := y_Efld hE hY_ey rfl (by decide) (by decide) hs_en
  replace hs_ed := y_Efld hE hY_ey rfl (by decide) (by decide) hs_ed
  replace hs_adial := y_Efld hE hY_ld rfl (by decide) (by decide) hs_adial
  replace hn0 := y_Efld hE hY_ld rfl (by decide) (by decide) hn0
  replace hs_sr := y_Efld hE hY_ro rfl (by decide) (by decide) hs_sr
  replace hA_adial := hA_adial.kept (y_Earr hE hY_adial rfl (by decide))
  replace hA_en := hA_en.kept (y_Earr hE hY_en rfl (by decide))
  replace hA_ed := hA_ed.kept (y_Earr hE hY_ed rfl (by decide))
  replace hA_vw := hA_vw.kept (y_Earr hE hY_vw rfl (by decide))
  replace hL := hL.E hY_ld hE (fun q u h => y_ext hx_ hI.1 h) (by decide +kernel)
  replace hY_this := y_ext hx_ hI.1 hY_this
  replace hY_ld := y_ext hx_ hI.1 hY_ld
  replace hY_ey := y_ext hx_ hI.1 hY_ey
  replace hY_vw := y_ext hx_ hI.1 hY_vw
  replace hY_en := y_ext hx_ hI.1 hY_en
  replace hY_ed := y_ext hx_ hI.1 hY_ed
  replace hY_adial := y_ext hx_ hI.1 hY_adial
  replace hY_ro := y_ext hx_ hI.1 hY_ro
  replace hY_sr := y_ext hx_ hI.1 hY_sr
  obtain rfl := y_ansV rfl ho hr
  obtain ⟨fo, fr, hsi_found, hA_sr, hfo, hse⟩ := hPr
  clear ho hr ha hE hP hI hx_
  rename x_I _ _ _ _ _ _ _ _ _ _ => hI
  exact y_return B hI rfl rfl List.mem_cons_self rfl (x_cs.mono B.2.2.2.2.2 (y_mon B hI)) (fun t' d' e' v' r' s' f' h1 h2 h3 h4 h5 h6 h7 => by cases h1; cases h2.symm.trans hs0; cases h3.symm.trans hs4; cases h4.symm.trans hs1; cases h5.symm.trans hs5; cases h6.symm.trans hs6; cases h7.uniq hL0; exact ⟨hA_vw, fo, fr, hsi_found, hA_sr, hfo, hse⟩) (Nat.le_refl _) (Nat.le_refl _) gnq_d59
def m_alC (f : Nat → Int32) (n r : Int32) : Prop := (-1 ≤ n.toInt ∧ n.toInt ≤ 10 → (n = -1 → r.toInt = (m_cn (m_LC (m_VC f (f 4) (f 5) 0)) (2 ^ (f 0).toInt.toNat) : Nat)) ∧ (¬ n = -1 → r = m_fd (m_LC (m_VC f (f 4) (f 5) 0)) (m_ofSt n) 0 (2 ^ (f 0).toInt.toNat))) ∧ (¬ (-1 ≤ n.toInt ∧ n.toInt ≤ 10) → r = -2)
def m_amOk (f : Nat → Int32) (h t : Int32) : Prop := (h = -1 ∨ m_isH f h) ∧ 0 ≤ t.toInt ∧ t.toInt ≤ 1
def m_amW (h : Int32) : Int32 := if h = -1 then 0 else 1 <<< (h &&& 31)
def m_amC (f : Nat → Int32) (h t r : Int32) : Prop := (m_amOk f h t → (m_fd (m_LC (m_VC f (f 4) (f 5) 0)) (m_fuSt (m_amW h)) (-1) (2 ^ (f 0).toInt.toNat) = -1 → r = -3) ∧ (¬ m_fd (m_LC (m_VC f (f 4) (f 5) 0)) (m_fuSt (m_amW h)) (-1) (2 ^ (f 0).toInt.toNat) = -1 → (t = 0 → r = m_bc (m_fd (m_LC (m_VC f (f 4) (f 5) 0)) (m_fuSt (m_amW h)) (-1) (2 ^ (f 0).toInt.toNat))) ∧ (¬ t = 0 → r = m_fd (m_LC (m_VC f (f 4) (f 5) 0)) (m_fuSt (m_amW h)) (-1) (2 ^ (f 0).toInt.toNat)))) ∧ (¬ m_amOk f h t → r = -2)
def z_PTlawful : yP := fun D av Y H v _ _ => ∀ (this : Nat) (n : Int32) (f : Nat → Int32) (K : Nat → Option (Nat → Int32)) (t9 : Nat → Int32) (n9 : Int32), av = [.ref this, .int n] → z_RC D Y H this f K t9 n9 → ∃ r : Int32, v = some (.int r) ∧ m_alC f n r
theorem laQ_d0 : decode xM1002.2.1 0 = .ok (.iload_n 1, 1) := dz_ok (by decide +kernel)
theorem laQ_d1 : decode xM1002.2.1 1 = .ok (.iconst (-1), 1) := dz_ok (by decide +kernel)
theorem laQ_d2 : decode xM1002.2.1 2 = .ok (.bipush 10, 2) := dz_ok (by decide +kernel)
theorem laQ_d4 : decode xM1002.2.1 4 = .ok (.invokestatic 88, 3) := dz_ok (by decide +kernel)
theorem laQ_d7 : decode xM1002.2.1 7 = .ok (.ifCond .ne 10, 3) := dz_ok (by decide +kernel)
theorem laQ_d10 : decode xM1002.2.1 10 = .ok (.aload_n 0, 1) := dz_ok (by decide +kernel)
theorem laQ_d11 : decode xM1002.2.1 11 = .ok (.bipush (-2), 2) := dz_ok (by decide +kernel)
theorem laQ_d13 : decode xM1002.2.1 13 = .ok (.invokevirtual 59, 3) := dz_ok (by decide +kernel)
theorem laQ_d16 : decode xM1002.2.1 16 = .ok (.ireturn, 1) := dz_ok (by decide +kernel)
theorem laQ_d17 : decode xM1002.2.1 17 = .ok (.aload_n 0, 1) := dz_ok (by decide +kernel)
theorem laQ_d18 : decode xM1002.2.1 18 = .ok (.invokevirtual 180, 3) := dz_ok (by decide +kernel)
theorem laQ_d21 : decode xM1002.2.1 21 = .ok (.iload_n 1, 1) := dz_ok (by decide +kernel)
theorem laQ_d22 : decode xM1002.2.1 22 = .ok (.iconst (-1), 1) := dz_ok (by decide +kernel)
theorem laQ_d23 : decode xM1002.2.1 23 = .ok (.if_icmp .ne 13, 3) := dz_ok (by decide +kernel)
theorem laQ_d26 : decode xM1002.2.1 26 = .ok (.aload_n 0, 1) := dz_ok (by decide +kernel)
theorem laQ_d27 : decode xM1002.2.1 27 = .ok (.getfield 40, 3) := dz_ok (by decide +kernel)
theorem laQ_d30 : decode xM1002.2.1 30 = .ok (.getfield 186, 3) := dz_ok (by decide +kernel)
theorem laQ_d33 : decode xM1002.2.1 33 = .ok (.goto 11, 3) := dz_ok (by decide +kernel)
theorem laQ_d36 : decode xM1002.2.1 36 = .ok (.aload_n 0, 1) := dz_ok (by decide +kernel)
theorem laQ_d37 : decode xM1002.2.1 37 = .ok (.getfield 40, 3) := dz_ok (by decide +kernel)
theorem laQ_d40 : decode xM1002.2.1 40 = .ok (.iload_n 1, 1) := dz_ok (by decide +kernel)
theorem laQ_d41 : decode xM1002.2.1 41 = .ok (.invokevirtual 189, 3) := dz_ok (by decide +kernel)
theorem laQ_d44 : decode xM1002.2.1 44 = .ok (.ireturn, 1) := dz_ok (by decide +kernel)
theorem ym_Tlawful : y_Met vwCl x_G x_Zs x_Tb x_Nb xM1002 z_ATF z_PTlawful := by
  refine y_main (by decide +kernel) (by decide +kernel) x_Tb_good x_Nb_ok ?_
  intro p l e s m below meth c D U Y0 av ls B hI hpre hl
  have X := B.1
  have hx := X.1
  have hb := X.2.1
  have hY0 := B.2.2.2.2.1
  obtain ⟨v0, v1, rfl, hv0, ⟨n, rfl, -⟩⟩ := x_two B.2.2.2.2.2
  obtain ⟨this, t0, rfl, ht0, hY_this⟩ := x_ref_at hv0 rfl
  obtain rfl := List.mem_singleton.mp ht0
  replace hl : lv_has ls xM1002.2.2.1 [(0, .ref this), (1, .int n)] := hl
  obtain ⟨f, K, tt, nn, hR0⟩ := hpre _ rfl
  obtain ⟨hd, dr, kp, tx, by_, kk, ⟨hs_hd, -⟩, ⟨hY_hd, -⟩, hL, -⟩ := id hR0
  obtain ⟨ey, hs_ey, hY_ey⟩ := y_fldR (k := 4) hI.1 hY_this rfl rfl
  obtain ⟨vw, hs_vw, hY_vw⟩ := y_fldR (k := 1) hI.1 hY_ey rfl rfl
  have hn0 := hL.1.1
  have hn1 := hL.1.2.1
  have hn2 := hL.1.2.2
  have hb0 : 0 ≤ (f 0).toInt ∧ (f 0).toInt ≤ 10 := by obtain ⟨x9, e9, b9⟩ := y_fldI (k := 0) hI.1 hY_hd rfl rfl; rw [hn0] at e9; cases e9; exact b9
  have hb1 : 0 ≤ (f 1).toInt ∧ (f 1).toInt ≤ 8 := by obtain ⟨x9, e9, b9⟩ := y_fldI (k := 6) hI.1 hY_hd rfl rfl; rw [hn1] at e9; cases e9; exact b9
  have hb2 : 0 ≤ (f 2).toInt ∧ (f 2).toInt ≤ 8 := by obtain ⟨x9, e9, b9⟩ := y_fldI (k := 12) hI.1 hY_hd rfl rfl; rw [hn2] at e9; cases e9; exact b9
  obtain ⟨ro, hs_ro, hY_ro⟩ := y_fldR (k := 5) hI.1 hY_this rfl rfl
  obtain ⟨sr, hs_sr, hY_sr⟩ := y_fldR (k := 0) hI.1 hY_ro rfl rfl
  refine lv_iload_n hx hb laQ_d0 rfl (lv_at hl 1 rfl) ?_
  refine lv_iconst hx hb laQ_d1 (v := (-1)) (by decide) ?_
  have ecm1 : ((-1) : Int32).toInt = (-1) := by decide
  refine lv_bipush hx hb laQ_d2 (v := 10) (by decide) ?_
  have ec10 : (10 : Int32).toInt = 10 := by decide
  refine y_call (z := (1, 88, 3, none, xM10)) (av := [.int n, .int ((-1) : Int32), .int (10 : Int32)]) (rest := []) (y_cokS (n := 3) X ym_within (x_cons (x_bw19 15 rfl rfl) (x_cons (x_bw19 1 rfl rfl) (x_cons (x_bw0 1 rfl rfl) x_nilm))) (x_bw19 2 rfl rfl) (by decide +kernel) ⟨Nat.le_of_ble_eq_true rfl, Nat.le_of_ble_eq_true rfl⟩) hY0 hI rfl laQ_d4 hl.1 (Nat.le_of_ble_eq_true rfl) (Nat.le_of_ble_eq_true rfl) (Nat.le_of_ble_eq_true rfl) (y_cons ⟨_, rfl, x_i32 _⟩ (y_cons ⟨_, rfl, x_i32 _⟩ (y_cons ⟨_, rfl, x_i32 _⟩ y_nil))) rfl (y_norecv rfl) trivial (y_sub_ef rfl) fun v Yn o Hn L ho hr ha hIn hx_ hE hP => ?_
  replace hs_hd := y_Efld hE hY_this rfl (by decide) (by decide) hs_hd
  replace hs_ey := y_Efld hE hY_this rfl (by decide) (by decide) hs_ey
  replace hs_vw := y_Efld hE hY_ey rfl (by decide) (by decide) hs_vw
  replace hn0 := y_Efld hE hY_hd rfl (by decide) (by decide) hn0
  replace hs_ro := y_Efld hE hY_this rfl (by decide) (by decide) hs_ro
  replace hs_sr := y_Efld hE hY_ro rfl (by decide) (by decide) hs_sr
  replace hL := hL.E hY_hd hE (fun q u h => y_ext hx_ hI.1 h) (by decide +kernel)
  replace hY_this := y_ext hx_ hI.1 hY_this
  replace hY_hd := y_ext hx_ hI.1 hY_hd
  replace hY_ey := y_ext hx_ hI.1 hY_ey
  replace hY_vw := y_ext hx_ hI.1 hY_vw
  replace hY_ro := y_ext hx_ hI.1 hY_ro
  replace hY_sr := y_ext hx_ hI.1 hY_sr
  obtain ⟨r4, rfl, hin_r4, hout_r4⟩ := hP _ _ _ rfl
  clear ho hr ha hE hP hI hx_
  rename x_I _ _ _ _ _ _ _ _ _ _ => hI
  have ec0 : (0 : Int32).toInt = 0 := by decide
  refine lv_if_ne hx hb laQ_d7 (tgt := 17) (by decide) (fun q7 => ?_) (fun q7 => ?_)
  · have q7_ : ¬ r4.toInt = (0 : Int32).toInt := fun q => q7 (Int32.toInt_inj.mp q)
    have hw9 := hin_r4 (by assumption)
    have hok : -1 ≤ n.toInt ∧ n.toInt ≤ 10 := by omega
    refine lv_aload_n hx hb laQ_d17 rfl (lv_at hl 0 rfl) ?_
    refine y_call (z := (0, 180, 1, some 0, xM1000)) (av := [.ref this]) (rest := []) (y_cokV (n := 0) (ci := 11) X ym_gatherNow rfl rfl rfl (x_cons (x_bw43 12 rfl rfl) (x_cons (x_bw43 14 rfl rfl) (x_cons (x_at 13 (by decide +kernel) rfl) (x_cons (x_bw0 1 rfl rfl) x_nilm)))) (x_bw43 15 rfl rfl) (by decide +kernel) ⟨Nat.le_of_ble_eq_true rfl, Nat.le_of_ble_eq_true rfl⟩) hY0 hI rfl laQ_d18 hl.1 (Nat.le_of_ble_eq_true rfl) (Nat.le_of_ble_eq_true rfl) (Nat.le_of_ble_eq_true rfl) (y_cons (y_cref hY_this rfl) y_nil) rfl (y_recv rfl hY_this) (fun t' hd' h1 h2 => by cases h1; cases h2.symm.trans hs_hd; exact ⟨_, hL⟩) (y_sub_ef rfl) fun v Yn o Hn L ho hr ha hIn hx_ hE hP => ?_
    have hPg := hP _ _ _ _ _ _ _ rfl hs_hd hs_ey hs_vw hs_ro hs_sr hL
    replace hs_hd := y_Efld hE hY_this rfl (by decide) (by decide) hs_hd
    replace hs_ey := y_Efld hE hY_this rfl (by decide) (by decide) hs_ey
    replace hs_vw := y_Efld hE hY_ey rfl (by decide) (by decide) hs_vw
    replace hn0 := y_Efld hE hY_hd rfl (by decide) (by decide) hn0
    replace hs_ro := y_Efld hE hY_this rfl (by decide) (by decide) hs_ro
    replace hs_sr := y_Efld hE hY_ro rfl (by decide) (by decide) hs_sr
    replace hL := hL.E hY_hd hE (fun q u h => y_ext hx_ hI.1 h) (by decide +kernel)
    replace hY_this := y_ext hx_ hI.1 hY_this
    replace hY_hd := y_ext hx_ hI.1 hY_hd
    replace hY_ey := y_ext hx_ hI.1 hY_ey
    replace hY_vw := y_ext hx_ hI.1 hY_vw
    replace hY_ro := y_ext hx_ hI.1 hY_ro
    replace hY_sr := y_ext hx_ hI.1 hY_sr
    obtain rfl := y_ansV rfl ho hr
    obtain ⟨hA_vw, fo, fr, hsi_found, hA_sr, hfo, hse⟩ := hPg
    have hpw : 2 ^ (f 0).toInt.toNat ≤ 1024 := Nat.pow_le_pow_right (n := 2) (by decide) (show (f 0).toInt.toNat ≤ 10 by omega)
    clear ho hr ha hE hP hI hx_
    rename x_I _ _ _ _ _ _ _ _ _ _ => hI
    refine lv_iload_n hx hb laQ_d21 rfl (lv_at hl 1 rfl) ?_
    refine lv_iconst hx hb laQ_d22 (v := (-1)) (by decide) ?_
    refine lv_icmp_ne hx hb laQ_d23 (tgt := 36) (by decide) (fun q23 => ?_) (fun q23 => ?_)
    · have q23_ : ¬ n.toInt = ((-1) : Int32).toInt := fun q => q23 (Int32.toInt_inj.mp q)
      refine lv_aload_n hx hb laQ_d36 rfl (lv_at hl 0 rfl) ?_
      refine y_getf X (fl205 X.2.2.2.2.1) hI.1 hY_this rfl hs_ro laQ_d37 ?_
      refine lv_iload_n hx hb laQ_d40 rfl (lv_at hl 1 rfl) ?_
      refine y_call (z := (0, 189, 2, some 8, xM76)) (av := [.ref ro, .int n]) (rest := []) (y_cokV (n := 1) (ci := 5) X ym_ofFires rfl rfl rfl (x_cons (x_bw44 14 rfl rfl) (x_cons (x_bw44 15 rfl rfl) (x_cons (x_bw45 0 rfl rfl) (x_cons (x_bw0 8 rfl rfl) x_nilm)))) (x_bw45 1 rfl rfl) (by decide +kernel) ⟨Nat.le_of_ble_eq_true rfl, Nat.le_of_ble_eq_true rfl⟩) hY0 hI rfl laQ_d41 hl.1 (Nat.le_of_ble_eq_true rfl) (Nat.le_of_ble_eq_true rfl) (Nat.le_of_ble_eq_true rfl) (y_cons (y_cref hY_ro rfl) (y_cons ⟨_, rfl, x_i32 _⟩ y_nil)) rfl (y_recv rfl hY_ro) trivial (y_sub_ef rfl) fun v Yn o Hn L ho hr ha hIn hx_ hE hP => ?_
      have hPo := hP _ _ _ _ _ _ _ rfl hs_sr hsi_found hA_sr hpw hfo hse
      obtain rfl := hPo
      replace hs_hd := y_Efld hE hY_this rfl (by decide) (by decide) hs_hd
      replace hs_ey := y_Efld hE hY_this rfl (by decide) (by decide) hs_ey
      replace hs_vw := y_Efld hE hY_ey rfl (by decide) (by decide) hs_vw
      replace hn0 := y_Efld hE hY_hd rfl (by decide) (by decide) hn0
      replace hs_ro := y_Efld hE hY_this rfl (by decide) (by decide) hs_ro
      replace hs_sr := y_Efld hE hY_ro rfl (by decide) (by decide) hs_sr
      replace hsi_found := y_Efld hE hY_ro rfl (by decide) (by decide) hsi_found
      replace hA_vw := hA_vw.kept (y_Earr hE hY_vw rfl (by decide))
      replace hA_sr := hA_sr.kept (y_Earr hE hY_sr rfl (by decide))
      replace hL := hL.E hY_hd hE (fun q u h => y_ext hx_ hI.1 h) (by decide +kernel)
      replace hY_this := y_ext hx_ hI.1 hY_this
      replace hY_hd := y_ext hx_ hI.1 hY_hd
      replace hY_ey := y_ext hx_ hI.1 hY_ey
      replace hY_vw := y_ext hx_ hI.1 hY_vw
      replace hY_ro := y_ext hx_ hI.1 hY_ro
      replace hY_sr := y_ext hx_ hI.1 hY_sr
      generalize hg_r41 : m_fd (m_LC (m_VC f (f 4) (f 5) 0)) (m_ofSt n) 0 (2 ^ (f 0).toInt.toNat) = r41
      clear ho hr ha hE hP hI hx_
      rename x_I _ _ _ _ _ _ _ _ _ _ => hI
      exact y_ireturn B hI rfl rfl rfl List.mem_cons_self ⟨_, rfl, ⟨_, rfl, x_i32 _⟩⟩ (x_cs.mono B.2.2.2.2.2 (y_mon B hI)) (fun t' w0' f' K' tt' nn' h1 h2 => by cases h1; obtain ⟨ef, -⟩ := hR0.eqs h2; subst ef; exact ⟨_, rfl, fun _ => ⟨fun q9 => absurd q9 (by assumption), fun _ => hg_r41.symm⟩, fun q9 => absurd hok q9⟩) (Nat.le_refl _) (Nat.le_refl _) laQ_d44
    · have q23_ : n.toInt = ((-1) : Int32).toInt := by rw [q23]
      refine lv_aload_n hx hb laQ_d26 rfl (lv_at hl 0 rfl) ?_
      refine y_getf X (fl205 X.2.2.2.2.1) hI.1 hY_this rfl hs_ro laQ_d27 ?_
      refine y_getf X (fl206 X.2.2.2.2.1) hI.1 hY_ro rfl hsi_found laQ_d30 ?_
      refine lv_goto hx hb laQ_d33 (tgt := 44) (by decide) ?_
      exact y_ireturn B hI rfl rfl rfl List.mem_cons_self ⟨_, rfl, ⟨_, rfl, x_i32 _⟩⟩ (x_cs.mono B.2.2.2.2.2 (y_mon B hI)) (fun t' w0' f' K' tt' nn' h1 h2 => by cases h1; obtain ⟨ef, -⟩ := hR0.eqs h2; subst ef; exact ⟨_, rfl, fun _ => ⟨fun _ => hfo, fun q9 => absurd (by assumption) q9⟩, fun q9 => absurd hok q9⟩) (Nat.le_refl _) (Nat.le_refl _) laQ_d44
  · have q7_ : r4.toInt = (0 : Int32).toInt := by rw [q7]
    have hw9 := hout_r4 (by assumption)
    have hno : ¬ (-1 ≤ n.toInt ∧ n.toInt ≤ 10) := by omega
    refine lv_aload_n hx hb laQ_d10 rfl (lv_at hl 0 rfl) ?_
    refine lv_bipush hx hb laQ_d11 (v := (-2)) (by decide) ?_
    have ecm2 : ((-2) : Int32).toInt = (-2) := by decide
    refine y_call (z := (0, 59, 2, some 0, xM8)) (av := [.ref this, .int ((-2) : Int32)]) (rest := []) (y_cokV (n := 1) (ci := 11) X ym_counted rfl rfl rfl (x_cons (x_bw19 7 rfl rfl) (x_cons (x_bw19 9 rfl rfl) (x_cons (x_at 1 (by decide +kernel) rfl) (x_cons (x_bw0 1 rfl rfl) x_nilm)))) (x_bw19 10 rfl rfl) (by decide +kernel) ⟨Nat.le_of_ble_eq_true rfl, Nat.le_of_ble_eq_true rfl⟩) hY0 hI rfl laQ_d13 hl.1 (Nat.le_of_ble_eq_true rfl) (Nat.le_of_ble_eq_true rfl) (Nat.le_of_ble_eq_true rfl) (y_cons (y_cref hY_this rfl) (y_cons ⟨_, rfl, x_i32 _⟩ y_nil)) rfl (y_recv rfl hY_this) trivial (y_sub_ef rfl) fun v Yn o Hn L ho hr ha hIn hx_ hE hP => ?_
    replace hs_hd := y_Efld hE hY_this rfl (by decide) (by decide) hs_hd
    replace hs_ey := y_Efld hE hY_this rfl (by decide) (by decide) hs_ey
    replace hs_vw := y_Efld hE hY_ey rfl (by decide) (by decide) hs_vw
    replace hn0 := y_Efld hE hY_hd rfl (by decide) (by decide) hn0
    replace hs_ro := y_Efld hE hY_this rfl (by decide) (by decide) hs_ro
    replace hs_sr := y_Efld hE hY_ro rfl (by decide) (by decide) hs_sr
    replace hL := hL.E hY_hd hE (fun q u h => y_ext hx_ hI.1 h) (by decide +kernel)
    replace hY_this := y_ext hx_ hI.1 hY_this
    replace hY_hd := y_ext hx_ hI.1 hY_hd
    replace hY_ey := y_ext hx_ hI.1 hY_ey
    replace hY_vw := y_ext hx_ hI.1 hY_vw
    replace hY_ro := y_ext hx_ hI.1 hY_ro
    replace hY_sr := y_ext hx_ hI.1 hY_sr
    obtain rfl := hP _ _ rfl
    clear ho hr ha hE hP hI hx_
    rename x_I _ _ _ _ _ _ _ _ _ _ => hI
    exact y_ireturn B hI rfl rfl rfl List.mem_cons_self ⟨_, rfl, ⟨_, rfl, x_i32 _⟩⟩ (x_cs.mono B.2.2.2.2.2 (y_mon B hI)) (fun t' w0' f' K' tt' nn' h1 h2 => by cases h1; obtain ⟨ef, -⟩ := hR0.eqs h2; subst ef; exact ⟨_, rfl, fun q9 => absurd q9 hno, fun _ => rfl⟩) (Nat.le_refl _) (Nat.le_refl _) laQ_d16
