/-! WHAT A CALL ANSWERS of sight: V what each hill sees, n what bits it counts by -/
def m_isS (f : Nat → Int32) (s : Int32) : Prop := 0 ≤ s.toInt ∧ s.toInt ≤ (z_all (f 0)).toInt
def m_asC (f : Nat → Int32) (a b r : Int32) : Prop := (m_isH f a ∧ m_isH f b ∧ ¬ a = b → r = ((m_VC f (f 4) (f 5) 0) a.toInt.toNat >>> (b &&& 31)) &&& 1) ∧ (¬ (m_isH f a ∧ m_isH f b ∧ ¬ a = b) → r = -2)
def m_aeC (f : Nat → Int32) (h w r : Int32) : Prop := (m_isH f h ∧ m_isS f w → r = (m_VC f (f 4) (f 5) 0) h.toInt.toNat &&& w) ∧ (¬ (m_isH f h ∧ m_isS f w) → r = -2)
def m_ajC (f : Nat → Int32) (w t r : Int32) : Prop := (m_isS f w ∧ 0 ≤ t.toInt ∧ t.toInt ≤ 1 → ∃ k : Int32, m_fw (m_VC f (f 4) (f 5) 0) w k ∧ (k = -1 ∨ t = 0 → r = k) ∧ (¬ k = -1 → ¬ t = 0 → r = m_bc ((m_VC f (f 4) (f 5) 0) k.toInt.toNat &&& w))) ∧ (¬ (m_isS f w ∧ 0 ≤ t.toInt ∧ t.toInt ≤ 1) → r = -2)
def z_PTsight : yP := fun D av Y H v _ _ => ∀ (this : Nat) (a b : Int32) (f : Nat → Int32) (K : Nat → Option (Nat → Int32)) (t9 : Nat → Int32) (n9 : Int32), av = [.ref this, .int a, .int b] → z_RC D Y H this f K t9 n9 → ∃ r : Int32, v = some (.int r) ∧ m_asC f a b r
theorem siQ_d0 : decode xM53.2.1 0 = .ok (.aload_n 0, 1) := dz_ok (by decide +kernel)
theorem siQ_d1 : decode xM53.2.1 1 = .ok (.getfield 12, 3) := dz_ok (by decide +kernel)
theorem siQ_d4 : decode xM53.2.1 4 = .ok (.iload_n 1, 1) := dz_ok (by decide +kernel)
theorem siQ_d5 : decode xM53.2.1 5 = .ok (.invokevirtual 101, 3) := dz_ok (by decide +kernel)
theorem siQ_d8 : decode xM53.2.1 8 = .ok (.ifCond .eq 19, 3) := dz_ok (by decide +kernel)
theorem siQ_d11 : decode xM53.2.1 11 = .ok (.aload_n 0, 1) := dz_ok (by decide +kernel)
theorem siQ_d12 : decode xM53.2.1 12 = .ok (.getfield 12, 3) := dz_ok (by decide +kernel)
theorem siQ_d15 : decode xM53.2.1 15 = .ok (.iload_n 2, 1) := dz_ok (by decide +kernel)
theorem siQ_d16 : decode xM53.2.1 16 = .ok (.invokevirtual 101, 3) := dz_ok (by decide +kernel)
theorem siQ_d19 : decode xM53.2.1 19 = .ok (.ifCond .eq 8, 3) := dz_ok (by decide +kernel)
theorem siQ_d22 : decode xM53.2.1 22 = .ok (.iload_n 1, 1) := dz_ok (by decide +kernel)
theorem siQ_d23 : decode xM53.2.1 23 = .ok (.iload_n 2, 1) := dz_ok (by decide +kernel)
theorem siQ_d24 : decode xM53.2.1 24 = .ok (.if_icmp .ne 10, 3) := dz_ok (by decide +kernel)
theorem siQ_d27 : decode xM53.2.1 27 = .ok (.aload_n 0, 1) := dz_ok (by decide +kernel)
theorem siQ_d28 : decode xM53.2.1 28 = .ok (.bipush (-2), 2) := dz_ok (by decide +kernel)
theorem siQ_d30 : decode xM53.2.1 30 = .ok (.invokevirtual 59, 3) := dz_ok (by decide +kernel)
theorem siQ_d33 : decode xM53.2.1 33 = .ok (.ireturn, 1) := dz_ok (by decide +kernel)
theorem siQ_d34 : decode xM53.2.1 34 = .ok (.aload_n 0, 1) := dz_ok (by decide +kernel)
theorem siQ_d35 : decode xM53.2.1 35 = .ok (.invokevirtual 104, 3) := dz_ok (by decide +kernel)
theorem siQ_d38 : decode xM53.2.1 38 = .ok (.aload_n 0, 1) := dz_ok (by decide +kernel)
theorem siQ_d39 : decode xM53.2.1 39 = .ok (.getfield 33, 3) := dz_ok (by decide +kernel)
theorem siQ_d42 : decode xM53.2.1 42 = .ok (.getfield 107, 3) := dz_ok (by decide +kernel)
theorem siQ_d45 : decode xM53.2.1 45 = .ok (.iload_n 1, 1) := dz_ok (by decide +kernel)
theorem siQ_d46 : decode xM53.2.1 46 = .ok (.iaload, 1) := dz_ok (by decide +kernel)
theorem siQ_d47 : decode xM53.2.1 47 = .ok (.iload_n 2, 1) := dz_ok (by decide +kernel)
theorem siQ_d48 : decode xM53.2.1 48 = .ok (.ishr, 1) := dz_ok (by decide +kernel)
theorem siQ_d49 : decode xM53.2.1 49 = .ok (.iconst 1, 1) := dz_ok (by decide +kernel)
theorem siQ_d50 : decode xM53.2.1 50 = .ok (.iand, 1) := dz_ok (by decide +kernel)
theorem siQ_d51 : decode xM53.2.1 51 = .ok (.ireturn, 1) := dz_ok (by decide +kernel)
theorem ym_Tsight : y_Met vwCl x_G x_Zs x_Tb x_Nb xM53 z_ATF z_PTsight := by
  refine y_main (by decide +kernel) (by decide +kernel) x_Tb_good x_Nb_ok ?_
  intro p l e s m below meth c D U Y0 av ls B hI hpre hl
  have X := B.1
  have hx := X.1
  have hb := X.2.1
  have hY0 := B.2.2.2.2.1
  obtain ⟨v0, v1, v2, rfl, hv0, ⟨a, rfl, -⟩, ⟨b, rfl, -⟩⟩ := y_three B.2.2.2.2.2
  obtain ⟨this, t0, rfl, ht0, hY_this⟩ := x_ref_at hv0 rfl
  obtain rfl := List.mem_singleton.mp ht0
  replace hl : lv_has ls xM53.2.2.1 [(0, .ref this), (1, .int a), (2, .int b)] := hl
  obtain ⟨f, K, tt, nn, hR0⟩ := hpre _ rfl
  obtain ⟨hd, dr, kp, tx, by_, kk, ⟨hs_hd, -⟩, ⟨hY_hd, -⟩, hL, -⟩ := id hR0
  obtain ⟨ey, hs_ey, hY_ey⟩ := y_fldR (k := 4) hI.1 hY_this rfl rfl
  obtain ⟨vw, hs_vw, hY_vw⟩ := y_fldR (k := 1) hI.1 hY_ey rfl rfl
  have hn0 := hL.1.1
  have hn1 := hL.1.2.1
  have hn2 := hL.1.2.2
  have hb0 : 0 ≤ (f 0).toInt ∧ (f 0).toInt ≤ 10 := by obtain ⟨x9, e9, b9⟩ := y_fldI (k := 0) hI.1 hY_hd rfl rfl; rw [hn0] at e9; cases e9; exact b9
  have hb1 : 0 ≤ (f 1).toInt ∧ (f 1).toInt ≤ 8 := by obtain ⟨x9, e9, b9⟩ := y_fldI (k := 6) hI.1 hY_hd rfl rfl; rw [hn1] at e9; cases e9; exact b9
  have hb2 : 0 ≤ (f 2).toInt ∧ (f 2).toInt ≤ 8 := by obtain ⟨x9, e9, b9⟩ := y_fldI (k := 12) hI.1 hY_hd rfl rfl; rw [hn2] at e9; cases e9; exact b9
  refine lv_aload_n hx hb siQ_d0 rfl (lv_at hl 0 rfl) ?_
  refine y_getf X (fl8 X.2.2.2.2.1) hI.1 hY_this rfl hs_hd siQ_d1 ?_
  refine lv_iload_n hx hb siQ_d4 rfl (lv_at hl 1 rfl) ?_
  refine y_call (z := (0, 101, 2, some 2, xM40)) (av := [.ref hd, .int a]) (rest := []) (y_cokV (n := 1) (ci := 2) X ym_hasHill rfl rfl rfl (x_cons (x_bw29 8 rfl rfl) (x_cons (x_bw29 9 rfl rfl) (x_cons (x_bw29 10 rfl rfl) (x_cons (x_bw0 2 rfl rfl) x_nilm)))) (x_bw29 11 rfl rfl) (by decide +kernel) ⟨Nat.le_of_ble_eq_true rfl, Nat.le_of_ble_eq_true rfl⟩) hY0 hI rfl siQ_d5 hl.1 (Nat.le_of_ble_eq_true rfl) (Nat.le_of_ble_eq_true rfl) (Nat.le_of_ble_eq_true rfl) (y_cons (y_cref hY_hd rfl) (y_cons ⟨_, rfl, x_i32 _⟩ y_nil)) rfl (y_recv rfl hY_hd) trivial (y_sub_ef rfl) fun v Yn o Hn L ho hr ha hIn hx_ hE hP => ?_
  have hPh := hP _ _ _ rfl hn0
  replace hs_hd := y_Efld hE hY_this rfl (by decide) (by decide) hs_hd
  replace hs_ey := y_Efld hE hY_this rfl (by decide) (by decide) hs_ey
  replace hs_vw := y_Efld hE hY_ey rfl (by decide) (by decide) hs_vw
  replace hn0 := y_Efld hE hY_hd rfl (by decide) (by decide) hn0
  replace hL := hL.E hY_hd hE (fun q u h => y_ext hx_ hI.1 h) (by decide +kernel)
  replace hY_this := y_ext hx_ hI.1 hY_this
  replace hY_hd := y_ext hx_ hI.1 hY_hd
  replace hY_ey := y_ext hx_ hI.1 hY_ey
  replace hY_vw := y_ext hx_ hI.1 hY_vw
  obtain ⟨r5, rfl, hin_r5, hout_r5⟩ := hPh
  clear ho hr ha hE hP hI hx_
  rename x_I _ _ _ _ _ _ _ _ _ _ => hI
  have ec0 : (0 : Int32).toInt = 0 := by decide
  refine lv_if_eq hx hb siQ_d8 (tgt := 27) (by decide) (fun q8 => ?_) (fun q8 => ?_)
  · have q8_ : r5.toInt = (0 : Int32).toInt := by rw [q8]
    have hno : ¬ (m_isH f a ∧ m_isH f b ∧ ¬ a = b) := fun q9 => by first | exact hout_r5 (by assumption) q9.1 | exact hout_r16 (by assumption) q9.2.1 | exact q9.2.2 (by assumption)
    refine lv_aload_n hx hb siQ_d27 rfl (lv_at hl 0 rfl) ?_
    refine lv_bipush hx hb siQ_d28 (v := (-2)) (by decide) ?_
    have ecm2 : ((-2) : Int32).toInt = (-2) := by decide
    refine y_call (z := (0, 59, 2, some 0, xM8)) (av := [.ref this, .int ((-2) : Int32)]) (rest := []) (y_cokV (n := 1) (ci := 11) X ym_counted rfl rfl rfl (x_cons (x_bw19 7 rfl rfl) (x_cons (x_bw19 9 rfl rfl) (x_cons (x_at 1 (by decide +kernel) rfl) (x_cons (x_bw0 1 rfl rfl) x_nilm)))) (x_bw19 10 rfl rfl) (by decide +kernel) ⟨Nat.le_of_ble_eq_true rfl, Nat.le_of_ble_eq_true rfl⟩) hY0 hI rfl siQ_d30 hl.1 (Nat.le_of_ble_eq_true rfl) (Nat.le_of_ble_eq_true rfl) (Nat.le_of_ble_eq_true rfl) (y_cons (y_cref hY_this rfl) (y_cons ⟨_, rfl, x_i32 _⟩ y_nil)) rfl (y_recv rfl hY_this) trivial (y_sub_ef rfl) fun v Yn o Hn L ho hr ha hIn hx_ hE hP => ?_
    replace hs_hd := y_Efld hE hY_this rfl (by decide) (by decide) hs_hd
    replace hs_ey := y_Efld hE hY_this rfl (by decide) (by decide) hs_ey
    replace hs_vw := y_Efld hE hY_ey rfl (by decide) (by decide) hs_vw
    replace hn0 := y_Efld hE hY_hd rfl (by decide) (by decide) hn0
    replace hL := hL.E hY_hd hE (fun q u h => y_ext hx_ hI.1 h) (by decide +kernel)
    replace hY_this := y_ext hx_ hI.1 hY_this
    replace hY_hd := y_ext hx_ hI.1 hY_hd
    replace hY_ey := y_ext hx_ hI.1 hY_ey
    replace hY_vw := y_ext hx_ hI.1 hY_vw
    obtain rfl := hP _ _ rfl
    clear ho hr ha hE hP hI hx_
    rename x_I _ _ _ _ _ _ _ _ _ _ => hI
    exact y_ireturn B hI rfl rfl rfl List.mem_cons_self ⟨_, rfl, ⟨_, rfl, x_i32 _⟩⟩ (x_cs.mono B.2.2.2.2.2 (y_mon B hI)) (fun t' w0' w1' f' K' tt' nn' h1 h2 => by cases h1; obtain ⟨ef, -⟩ := hR0.eqs h2; subst ef; exact ⟨_, rfl, fun q9 => absurd q9 hno, fun _ => rfl⟩) (Nat.le_refl _) (Nat.le_refl _) siQ_d33
  · have q8_ : ¬ r5.toInt = (0 : Int32).toInt := fun q => q8 (Int32.toInt_inj.mp q)
    refine lv_aload_n hx hb siQ_d11 rfl (lv_at hl 0 rfl) ?_
    refine y_getf X (fl8 X.2.2.2.2.1) hI.1 hY_this rfl hs_hd siQ_d12 ?_
    refine lv_iload_n hx hb siQ_d15 rfl (lv_at hl 2 rfl) ?_
    refine y_call (z := (0, 101, 2, some 2, xM40)) (av := [.ref hd, .int b]) (rest := []) (y_cokV (n := 1) (ci := 2) X ym_hasHill rfl rfl rfl (x_cons (x_bw29 8 rfl rfl) (x_cons (x_bw29 9 rfl rfl) (x_cons (x_bw29 10 rfl rfl) (x_cons (x_bw0 2 rfl rfl) x_nilm)))) (x_bw29 11 rfl rfl) (by decide +kernel) ⟨Nat.le_of_ble_eq_true rfl, Nat.le_of_ble_eq_true rfl⟩) hY0 hI rfl siQ_d16 hl.1 (Nat.le_of_ble_eq_true rfl) (Nat.le_of_ble_eq_true rfl) (Nat.le_of_ble_eq_true rfl) (y_cons (y_cref hY_hd rfl) (y_cons ⟨_, rfl, x_i32 _⟩ y_nil)) rfl (y_recv rfl hY_hd) trivial (y_sub_ef rfl) fun v Yn o Hn L ho hr ha hIn hx_ hE hP => ?_
    have hPh := hP _ _ _ rfl hn0
    replace hs_hd := y_Efld hE hY_this rfl (by decide) (by decide) hs_hd
    replace hs_ey := y_Efld hE hY_this rfl (by decide) (by decide) hs_ey
    replace hs_vw := y_Efld hE hY_ey rfl (by decide) (by decide) hs_vw
    replace hn0 := y_Efld hE hY_hd rfl (by decide) (by decide) hn0
    replace hL := hL.E hY_hd hE (fun q u h => y_ext hx_ hI.1 h) (by decide +kernel)
    replace hY_this := y_ext hx_ hI.1 hY_this
    replace hY_hd := y_ext hx_ hI.1 hY_hd
    replace hY_ey := y_ext hx_ hI.1 hY_ey
    replace hY_vw := y_ext hx_ hI.1 hY_vw
    obtain ⟨r16, rfl, hin_r16, hout_r16⟩ := hPh
    clear ho hr ha hE hP hI hx_
    rename x_I _ _ _ _ _ _ _ _ _ _ => hI
    refine lv_if_eq hx hb siQ_d19 (tgt := 27) (by decide) (fun q19 => ?_) (fun q19 => ?_)
    · have q19_ : r16.toInt = (0 : Int32).toInt := by rw [q19]
      have hno : ¬ (m_isH f a ∧ m_isH f b ∧ ¬ a = b) := fun q9 => by first | exact hout_r5 (by assumption) q9.1 | exact hout_r16 (by assumption) q9.2.1 | exact q9.2.2 (by assumption)
      refine lv_aload_n hx hb siQ_d27 rfl (lv_at hl 0 rfl) ?_
      refine lv_bipush hx hb siQ_d28 (v := (-2)) (by decide) ?_
      have ecm2 : ((-2) : Int32).toInt = (-2) := by decide
      refine y_call (z := (0, 59, 2, some 0, xM8)) (av := [.ref this, .int ((-2) : Int32)]) (rest := []) (y_cokV (n := 1) (ci := 11) X ym_counted rfl rfl rfl (x_cons (x_bw19 7 rfl rfl) (x_cons (x_bw19 9 rfl rfl) (x_cons (x_at 1 (by decide +kernel) rfl) (x_cons (x_bw0 1 rfl rfl) x_nilm)))) (x_bw19 10 rfl rfl) (by decide +kernel) ⟨Nat.le_of_ble_eq_true rfl, Nat.le_of_ble_eq_true rfl⟩) hY0 hI rfl siQ_d30 hl.1 (Nat.le_of_ble_eq_true rfl) (Nat.le_of_ble_eq_true rfl) (Nat.le_of_ble_eq_true rfl) (y_cons (y_cref hY_this rfl) (y_cons ⟨_, rfl, x_i32 _⟩ y_nil)) rfl (y_recv rfl hY_this) trivial (y_sub_ef rfl) fun v Yn o Hn L ho hr ha hIn hx_ hE hP => ?_
      replace hs_hd := y_Efld hE hY_this rfl (by decide) (by decide) hs_hd
      replace hs_ey := y_Efld hE hY_this rfl (by decide) (by decide) hs_ey
      replace hs_vw := y_Efld hE hY_ey rfl (by decide) (by decide) hs_vw
      replace hn0 := y_Efld hE hY_hd rfl (by decide) (by decide) hn0
      replace hL := hL.E hY_hd hE (fun q u h => y_ext hx_ hI.1 h) (by decide +kernel)
      replace hY_this := y_ext hx_ hI.1 hY_this
      replace hY_hd := y_ext hx_ hI.1 hY_hd
      replace hY_ey := y_ext hx_ hI.1 hY_ey
      replace hY_vw := y_ext hx_ hI.1 hY_vw
      obtain rfl := hP _ _ rfl
      clear ho hr ha hE hP hI hx_
      rename x_I _ _ _ _ _ _ _ _ _ _ => hI
      exact y_ireturn B hI rfl rfl rfl List.mem_cons_self ⟨_, rfl, ⟨_, rfl, x_i32 _⟩⟩ (x_cs.mono B.2.2.2.2.2 (y_mon B hI)) (fun t' w0' w1' f' K' tt' nn' h1 h2 => by cases h1; obtain ⟨ef, -⟩ := hR0.eqs h2; subst ef; exact ⟨_, rfl, fun q9 => absurd q9 hno, fun _ => rfl⟩) (Nat.le_refl _) (Nat.le_refl _) siQ_d33
    · have q19_ : ¬ r16.toInt = (0 : Int32).toInt := fun q => q19 (Int32.toInt_inj.mp q)
      refine lv_iload_n hx hb siQ_d22 rfl (lv_at hl 1 rfl) ?_
      refine lv_iload_n hx hb siQ_d23 rfl (lv_at hl 2 rfl) ?_
      refine lv_icmp_ne hx hb siQ_d24 (tgt := 34) (by decide) (fun q24 => ?_) (fun q24 => ?_)
      · have q24_ : ¬ a.toInt = b.toInt := fun q => q24 (Int32.toInt_inj.mp q)
        have hok : m_isH f a ∧ m_isH f b ∧ ¬ a = b := ⟨hin_r5 (by assumption), hin_r16 (by assumption), by assumption⟩
        have ha9 := hok.1
        unfold m_isH at ha9
        refine lv_aload_n hx hb siQ_d34 rfl (lv_at hl 0 rfl) ?_
        refine y_call (z := (0, 104, 1, some 0, xM52)) (av := [.ref this]) (rest := []) (y_cokV (n := 0) (ci := 11) X ym_lookNow rfl rfl rfl (x_cons (x_bw29 12 rfl rfl) (x_cons (x_bw29 14 rfl rfl) (x_cons (x_at 3 (by decide +kernel) rfl) (x_cons (x_bw0 1 rfl rfl) x_nilm)))) (x_bw29 15 rfl rfl) (by decide +kernel) ⟨Nat.le_of_ble_eq_true rfl, Nat.le_of_ble_eq_true rfl⟩) hY0 hI rfl siQ_d35 hl.1 (Nat.le_of_ble_eq_true rfl) (Nat.le_of_ble_eq_true rfl) (Nat.le_of_ble_eq_true rfl) (y_cons (y_cref hY_this rfl) y_nil) rfl (y_recv rfl hY_this) (fun t' hd' h1 h2 => by cases h1; cases h2.symm.trans hs_hd; exact ⟨_, hL⟩) (y_sub_ef rfl) fun v Yn o Hn L ho hr ha hIn hx_ hE hP => ?_
        have hPk := hP _ _ _ _ _ rfl hs_hd hs_ey hs_vw hL
        replace hs_hd := y_Efld hE hY_this rfl (by decide) (by decide) hs_hd
        replace hs_ey := y_Efld hE hY_this rfl (by decide) (by decide) hs_ey
        replace hs_vw := y_Efld hE hY_ey rfl (by decide) (by decide) hs_vw
        replace hn0 := y_Efld hE hY_hd rfl (by decide) (by decide) hn0
        replace hL := hL.E hY_hd hE (fun q u h => y_ext hx_ hI.1 h) (by decide +kernel)
        replace hY_this := y_ext hx_ hI.1 hY_this
        replace hY_hd := y_ext hx_ hI.1 hY_hd
        replace hY_ey := y_ext hx_ hI.1 hY_ey
        replace hY_vw := y_ext hx_ hI.1 hY_vw
        obtain rfl := y_ansV rfl ho hr
        have hA_vw := hPk
        clear ho hr ha hE hP hI hx_
        rename x_I _ _ _ _ _ _ _ _ _ _ => hI
        refine lv_aload_n hx hb siQ_d38 rfl (lv_at hl 0 rfl) ?_
        refine y_getf X (fl102 X.2.2.2.2.1) hI.1 hY_this rfl hs_ey siQ_d39 ?_
        refine y_getf X (fl103 X.2.2.2.2.1) hI.1 hY_ey rfl hs_vw siQ_d42 ?_
        refine lv_iload_n hx hb siQ_d45 rfl (lv_at hl 1 rfl) ?_
        refine y_iald X hI.1 hY_vw rfl hA_vw (by omega) (by show _ < (10 : Int); omega) siQ_d46 ?_
        obtain ⟨e46, hg_e46⟩ : ∃ e46 : Int32, (m_VC f (f 4) (f 5) 0) a.toInt.toNat = e46 := ⟨_, rfl⟩
        rw [hg_e46]
        refine lv_iload_n hx hb siQ_d47 rfl (lv_at hl 2 rfl) ?_
        refine lv_ishr hx hb siQ_d48 ?_
        generalize hg_z48 : e46 >>> (b &&& 31) = z48
        refine lv_iconst hx hb siQ_d49 (v := 1) (by decide) ?_
        have ec1 : (1 : Int32).toInt = 1 := by decide
        refine lv_iand hx hb siQ_d50 ?_
        generalize hg_z50 : z48 &&& (1 : Int32) = z50
        exact y_ireturn B hI rfl rfl rfl List.mem_cons_self ⟨_, rfl, ⟨_, rfl, x_i32 _⟩⟩ (x_cs.mono B.2.2.2.2.2 (y_mon B hI)) (fun t' w0' w1' f' K' tt' nn' h1 h2 => by cases h1; obtain ⟨ef, -⟩ := hR0.eqs h2; subst ef; exact ⟨_, rfl, fun _ => by rw [← hg_z50, ← hg_z48, ← hg_e46], fun q9 => absurd hok q9⟩) (Nat.le_refl _) (Nat.le_refl _) siQ_d51
      · have q24_ : a.toInt = b.toInt := by rw [q24]
        have hno : ¬ (m_isH f a ∧ m_isH f b ∧ ¬ a = b) := fun q9 => by first | exact hout_r5 (by assumption) q9.1 | exact hout_r16 (by assumption) q9.2.1 | exact q9.2.2 (by assumption)
        refine lv_aload_n hx hb siQ_d27 rfl (lv_at hl 0 rfl) ?_
        refine lv_bipush hx hb siQ_d28 (v := (-2)) (by decide) ?_
        have ecm2 : ((-2) : Int32).toInt = (-2) := by decide
        refine y_call (z := (0, 59, 2, some 0, xM8)) (av := [.ref this, .int ((-2) : Int32)]) (rest := []) (y_cokV (n := 1) (ci := 11) X ym_counted rfl rfl rfl (x_cons (x_bw19 7 rfl rfl) (x_cons (x_bw19 9 rfl rfl) (x_cons (x_at 1 (by decide +kernel) rfl) (x_cons (x_bw0 1 rfl rfl) x_nilm)))) (x_bw19 10 rfl rfl) (by decide +kernel) ⟨Nat.le_of_ble_eq_true rfl, Nat.le_of_ble_eq_true rfl⟩) hY0 hI rfl siQ_d30 hl.1 (Nat.le_of_ble_eq_true rfl) (Nat.le_of_ble_eq_true rfl) (Nat.le_of_ble_eq_true rfl) (y_cons (y_cref hY_this rfl) (y_cons ⟨_, rfl, x_i32 _⟩ y_nil)) rfl (y_recv rfl hY_this) trivial (y_sub_ef rfl) fun v Yn o Hn L ho hr ha hIn hx_ hE hP => ?_
        replace hs_hd := y_Efld hE hY_this rfl (by decide) (by decide) hs_hd
        replace hs_ey := y_Efld hE hY_this rfl (by decide) (by decide) hs_ey
        replace hs_vw := y_Efld hE hY_ey rfl (by decide) (by decide) hs_vw
        replace hn0 := y_Efld hE hY_hd rfl (by decide) (by decide) hn0
        replace hL := hL.E hY_hd hE (fun q u h => y_ext hx_ hI.1 h) (by decide +kernel)
        replace hY_this := y_ext hx_ hI.1 hY_this
        replace hY_hd := y_ext hx_ hI.1 hY_hd
        replace hY_ey := y_ext hx_ hI.1 hY_ey
        replace hY_vw := y_ext hx_ hI.1 hY_vw
        obtain rfl := hP _ _ rfl
        clear ho hr ha hE hP hI hx_
        rename x_I _ _ _ _ _ _ _ _ _ _ => hI
        exact y_ireturn B hI rfl rfl rfl List.mem_cons_self ⟨_, rfl, ⟨_, rfl, x_i32 _⟩⟩ (x_cs.mono B.2.2.2.2.2 (y_mon B hI)) (fun t' w0' w1' f' K' tt' nn' h1 h2 => by cases h1; obtain ⟨ef, -⟩ := hR0.eqs h2; subst ef; exact ⟨_, rfl, fun q9 => absurd q9 hno, fun _ => rfl⟩) (Nat.le_refl _) (Nat.le_refl _) siQ_d33
