def z_PTwk : yP := fun D av Y H v Y' H' => ∀ (this : Nat) (x d : Int32) (f : Nat → Int32) (K : Nat → Option (Nat → Int32)) (t9 : Nat → Int32) (n9 : Int32), av = [.ref this, .int x, .int d] → z_RC D Y H this f K t9 n9 → ∃ (r : Int32) (g : Nat → Int32), v = some (.int r) ∧ z_RC D Y' H' this g K t9 n9 ∧ m_work f x d r g
theorem Twk_d0 : decode xM29.2.1 0 = .ok (.aload_n 0, 1) := dz_ok (by decide +kernel)
theorem Twk_d1 : decode xM29.2.1 1 = .ok (.getfield 12, 3) := dz_ok (by decide +kernel)
theorem Twk_d4 : decode xM29.2.1 4 = .ok (.iload_n 1, 1) := dz_ok (by decide +kernel)
theorem Twk_d5 : decode xM29.2.1 5 = .ok (.invokevirtual 71, 3) := dz_ok (by decide +kernel)
theorem Twk_d8 : decode xM29.2.1 8 = .ok (.ifCond .eq 18, 3) := dz_ok (by decide +kernel)
theorem Twk_d11 : decode xM29.2.1 11 = .ok (.aload_n 0, 1) := dz_ok (by decide +kernel)
theorem Twk_d12 : decode xM29.2.1 12 = .ok (.getfield 12, 3) := dz_ok (by decide +kernel)
theorem Twk_d15 : decode xM29.2.1 15 = .ok (.getfield 75, 3) := dz_ok (by decide +kernel)
theorem Twk_d18 : decode xM29.2.1 18 = .ok (.iload_n 1, 1) := dz_ok (by decide +kernel)
theorem Twk_d19 : decode xM29.2.1 19 = .ok (.aaload, 1) := dz_ok (by decide +kernel)
theorem Twk_d20 : decode xM29.2.1 20 = .ok (.invokevirtual 79, 3) := dz_ok (by decide +kernel)
theorem Twk_d23 : decode xM29.2.1 23 = .ok (.ifCond .ne 10, 3) := dz_ok (by decide +kernel)
theorem Twk_d26 : decode xM29.2.1 26 = .ok (.aload_n 0, 1) := dz_ok (by decide +kernel)
theorem Twk_d27 : decode xM29.2.1 27 = .ok (.bipush (-2), 2) := dz_ok (by decide +kernel)
theorem Twk_d29 : decode xM29.2.1 29 = .ok (.invokevirtual 59, 3) := dz_ok (by decide +kernel)
theorem Twk_d32 : decode xM29.2.1 32 = .ok (.ireturn, 1) := dz_ok (by decide +kernel)
theorem Twk_d33 : decode xM29.2.1 33 = .ok (.iload_n 2, 1) := dz_ok (by decide +kernel)
theorem Twk_d34 : decode xM29.2.1 34 = .ok (.ifCond .eq 7, 3) := dz_ok (by decide +kernel)
theorem Twk_d37 : decode xM29.2.1 37 = .ok (.iconst 1, 1) := dz_ok (by decide +kernel)
theorem Twk_d38 : decode xM29.2.1 38 = .ok (.goto 4, 3) := dz_ok (by decide +kernel)
theorem Twk_d41 : decode xM29.2.1 41 = .ok (.iconst 0, 1) := dz_ok (by decide +kernel)
theorem Twk_d42 : decode xM29.2.1 42 = .ok (.istore_n 3, 1) := dz_ok (by decide +kernel)
theorem Twk_d43 : decode xM29.2.1 43 = .ok (.aload_n 0, 1) := dz_ok (by decide +kernel)
theorem Twk_d44 : decode xM29.2.1 44 = .ok (.getfield 12, 3) := dz_ok (by decide +kernel)
theorem Twk_d47 : decode xM29.2.1 47 = .ok (.getfield 85, 3) := dz_ok (by decide +kernel)
theorem Twk_d50 : decode xM29.2.1 50 = .ok (.iload_n 1, 1) := dz_ok (by decide +kernel)
theorem Twk_d51 : decode xM29.2.1 51 = .ok (.iaload, 1) := dz_ok (by decide +kernel)
theorem Twk_d52 : decode xM29.2.1 52 = .ok (.iload_n 3, 1) := dz_ok (by decide +kernel)
theorem Twk_d53 : decode xM29.2.1 53 = .ok (.if_icmp .ne 10, 3) := dz_ok (by decide +kernel)
theorem Twk_d56 : decode xM29.2.1 56 = .ok (.aload_n 0, 1) := dz_ok (by decide +kernel)
theorem Twk_d57 : decode xM29.2.1 57 = .ok (.bipush (-3), 2) := dz_ok (by decide +kernel)
theorem Twk_d59 : decode xM29.2.1 59 = .ok (.invokevirtual 59, 3) := dz_ok (by decide +kernel)
theorem Twk_d62 : decode xM29.2.1 62 = .ok (.ireturn, 1) := dz_ok (by decide +kernel)
theorem Twk_d63 : decode xM29.2.1 63 = .ok (.aload_n 0, 1) := dz_ok (by decide +kernel)
theorem Twk_d64 : decode xM29.2.1 64 = .ok (.getfield 12, 3) := dz_ok (by decide +kernel)
theorem Twk_d67 : decode xM29.2.1 67 = .ok (.getfield 85, 3) := dz_ok (by decide +kernel)
theorem Twk_d70 : decode xM29.2.1 70 = .ok (.iload_n 1, 1) := dz_ok (by decide +kernel)
theorem Twk_d71 : decode xM29.2.1 71 = .ok (.iload_n 3, 1) := dz_ok (by decide +kernel)
theorem Twk_d72 : decode xM29.2.1 72 = .ok (.iastore, 1) := dz_ok (by decide +kernel)
theorem Twk_d73 : decode xM29.2.1 73 = .ok (.iconst 1, 1) := dz_ok (by decide +kernel)
theorem Twk_d74 : decode xM29.2.1 74 = .ok (.ireturn, 1) := dz_ok (by decide +kernel)
theorem ym_Twork : y_Met vwCl x_G x_Zs x_Tb x_Nb xM29 z_ATF z_PTwk := by
  refine y_main (by decide +kernel) (by decide +kernel) x_Tb_good x_Nb_ok ?_
  intro p l e s m below meth c D U Y0 av ls B hI hpre hl
  have X := B.1
  have hx := X.1
  have hb := X.2.1
  have hY0 := B.2.2.2.2.1
  obtain ⟨v0, v1, v2, rfl, hv0, ⟨x, rfl, -⟩, ⟨d, rfl, hd9⟩⟩ := y_three B.2.2.2.2.2
  replace hd9 : (0 : Int) ≤ d.toInt ∧ d.toInt ≤ 1 := hd9
  obtain ⟨this, t0, rfl, ht0, hY_this⟩ := x_ref_at hv0 rfl
  obtain rfl := List.mem_singleton.mp ht0
  replace hl : lv_has ls xM29.2.2.1 [(0, .ref this), (1, .int x), (2, .int d)] := hl
  have hYt0 := hY_this
  obtain ⟨f, K, tt, nn, hR0⟩ := hpre _ rfl
  obtain ⟨hd, dr, kp, tx, by_, kk, ⟨hs_hd, -⟩, ⟨hY_hd, -⟩, hL, -⟩ := id hR0
  have hs0_hd := hs_hd
  have hF : z_fq D Y0 s.heap s.heap hd := fun _ _ _ _ _ _ _ _ => x_eq.of rfl
  have hfld : z_fld D hd s.heap s.heap := fun _ _ _ _ _ => rfl
  have hn0 := hL.1.1
  have hn1 := hL.1.2.1
  have hn2 := hL.1.2.2
  have hb0 : 0 ≤ (f 0).toInt ∧ (f 0).toInt ≤ 10 := by obtain ⟨x9, e9, b9⟩ := y_fldI (k := 0) hI.1 hY_hd rfl rfl; rw [hn0] at e9; cases e9; exact b9
  have hb1 : 0 ≤ (f 1).toInt ∧ (f 1).toInt ≤ 8 := by obtain ⟨x9, e9, b9⟩ := y_fldI (k := 6) hI.1 hY_hd rfl rfl; rw [hn1] at e9; cases e9; exact b9
  have hb2 : 0 ≤ (f 2).toInt ∧ (f 2).toInt ≤ 8 := by obtain ⟨x9, e9, b9⟩ := y_fldI (k := 12) hI.1 hY_hd rfl rfl; rw [hn2] at e9; cases e9; exact b9
  obtain ⟨adone, hs_adone, hY_adone, hA_adone⟩ := hL.2.1 (8, 25, 8, 65, 7) (by decide)
  replace hA_adone : y_A adone 8 s.heap (fun j => f (65 + 7 * j)) := hA_adone
  have hs0_adone := hs_adone
  obtain ⟨astones, hs_astones, hY_astones, -⟩ := hL.2.2.1
  refine lv_aload_n hx hb Twk_d0 rfl (lv_at hl 0 rfl) ?_
  refine y_getf X (fl8 X.2.2.2.2.1) hI.1 hY_this rfl hs_hd Twk_d1 ?_
  refine lv_iload_n hx hb Twk_d4 rfl (lv_at hl 1 rfl) ?_
  refine y_call (z := (0, 71, 2, some 2, xM25)) (av := [.ref hd, .int x]) (rest := []) (y_cokV (n := 1) (ci := 2) X ym_hasThing rfl rfl rfl (x_cons (x_bw25 4 rfl rfl) (x_cons (x_bw25 5 rfl rfl) (x_cons (x_bw25 6 rfl rfl) (x_cons (x_bw0 2 rfl rfl) x_nilm)))) (x_bw25 7 rfl rfl) (by decide +kernel) ⟨Nat.le_of_ble_eq_true rfl, Nat.le_of_ble_eq_true rfl⟩) hY0 hI rfl Twk_d5 hl.1 (Nat.le_of_ble_eq_true rfl) (Nat.le_of_ble_eq_true rfl) (Nat.le_of_ble_eq_true rfl) (y_cons (y_cref hY_hd rfl) (y_cons ⟨_, rfl, x_i32 _⟩ y_nil)) rfl (y_recv rfl hY_hd) trivial (y_sub_ef rfl) fun v Yn o Hn L ho hr ha hIn hx_ hE hP => ?_
  have hPh := hP _ _ _ rfl hn1
  replace hs_hd := y_Efld hE hY_this rfl (by decide) (by decide) hs_hd
  replace hn0 := y_Efld hE hY_hd rfl (by decide) (by decide) hn0
  replace hn1 := y_Efld hE hY_hd rfl (by decide) (by decide) hn1
  replace hn2 := y_Efld hE hY_hd rfl (by decide) (by decide) hn2
  replace hs_adone := y_Efld hE hY_hd rfl (by decide) (by decide) hs_adone
  replace hs_astones := y_Efld hE hY_hd rfl (by decide) (by decide) hs_astones
  replace hA_adone := hA_adone.kept (y_Earr hE hY_adone rfl (by decide))
  replace hL := hL.E hY_hd hE (fun q u h => y_ext hx_ hI.1 h) (by decide +kernel)
  replace hF := fun b u g9 (hb : Y0 b = some u) (h42 : u ≠ 42) (hg9 : x_G[u]? = some g9) (hn : b ≠ hd) (hk9 : ∀ k, k < 16 → x_sl D 2 k hd s.heap ≠ some (.ref b)) => x_eq.trans (x_eq.E42 hE (y_mon B hI _ _ hb) hg9 h42 rfl) (hF b u g9 hb h42 hg9 hn hk9)
  replace hfld : z_fld D hd s.heap _ := fun k a b c d => ((x_eq.E42 (g := x_G[2]) hE hY_hd rfl (by decide) rfl) k a).trans (hfld k a b c d)
  replace hY_this := y_ext hx_ hI.1 hY_this
  replace hY_hd := y_ext hx_ hI.1 hY_hd
  replace hY_adone := y_ext hx_ hI.1 hY_adone
  replace hY_astones := y_ext hx_ hI.1 hY_astones
  obtain ⟨r5, rfl, hin_r5, hout_r5⟩ := hPh
  clear ho hr ha hE hP hI hx_
  rename x_I _ _ _ _ _ _ _ _ _ _ => hI
  have ec0 : (0 : Int32).toInt = 0 := by decide
  refine lv_if_eq hx hb Twk_d8 (tgt := 26) (by decide) (fun q8 => ?_) (fun q8 => ?_)
  · have q8_ : r5.toInt = (0 : Int32).toInt := by rw [q8]
    have hno : ¬ m_wOk f x := fun q9 => by first | exact hout_r5 (by assumption) q9.1 | exact q9.2 (by omega) | (exfalso; omega)
    refine lv_aload_n hx hb Twk_d26 rfl (lv_at hl 0 rfl) ?_
    refine lv_bipush hx hb Twk_d27 (v := (-2)) (by decide) ?_
    have ecm2 : ((-2) : Int32).toInt = (-2) := by decide
    refine y_call (z := (0, 59, 2, some 0, xM8)) (av := [.ref this, .int ((-2) : Int32)]) (rest := []) (y_cokV (n := 1) (ci := 11) X ym_counted rfl rfl rfl (x_cons (x_bw19 7 rfl rfl) (x_cons (x_bw19 9 rfl rfl) (x_cons (x_at 1 (by decide +kernel) rfl) (x_cons (x_bw0 1 rfl rfl) x_nilm)))) (x_bw19 10 rfl rfl) (by decide +kernel) ⟨Nat.le_of_ble_eq_true rfl, Nat.le_of_ble_eq_true rfl⟩) hY0 hI rfl Twk_d29 hl.1 (Nat.le_of_ble_eq_true rfl) (Nat.le_of_ble_eq_true rfl) (Nat.le_of_ble_eq_true rfl) (y_cons (y_cref hY_this rfl) (y_cons ⟨_, rfl, x_i32 _⟩ y_nil)) rfl (y_recv rfl hY_this) trivial (y_sub_ef rfl) fun v Yn o Hn L ho hr ha hIn hx_ hE hP => ?_
    replace hs_hd := y_Efld hE hY_this rfl (by decide) (by decide) hs_hd
    replace hn0 := y_Efld hE hY_hd rfl (by decide) (by decide) hn0
    replace hn1 := y_Efld hE hY_hd rfl (by decide) (by decide) hn1
    replace hn2 := y_Efld hE hY_hd rfl (by decide) (by decide) hn2
    replace hs_adone := y_Efld hE hY_hd rfl (by decide) (by decide) hs_adone
    replace hs_astones := y_Efld hE hY_hd rfl (by decide) (by decide) hs_astones
    replace hA_adone := hA_adone.kept (y_Earr hE hY_adone rfl (by decide))
    replace hL := hL.E hY_hd hE (fun q u h => y_ext hx_ hI.1 h) (by decide +kernel)
    replace hF := fun b u g9 (hb : Y0 b = some u) (h42 : u ≠ 42) (hg9 : x_G[u]? = some g9) (hn : b ≠ hd) (hk9 : ∀ k, k < 16 → x_sl D 2 k hd s.heap ≠ some (.ref b)) => x_eq.trans (x_eq.E42 hE (y_mon B hI _ _ hb) hg9 h42 rfl) (hF b u g9 hb h42 hg9 hn hk9)
    replace hfld : z_fld D hd s.heap _ := fun k a b c d => ((x_eq.E42 (g := x_G[2]) hE hY_hd rfl (by decide) rfl) k a).trans (hfld k a b c d)
    replace hY_this := y_ext hx_ hI.1 hY_this
    replace hY_hd := y_ext hx_ hI.1 hY_hd
    replace hY_adone := y_ext hx_ hI.1 hY_adone
    replace hY_astones := y_ext hx_ hI.1 hY_astones
    obtain rfl := hP _ _ rfl
    clear ho hr ha hE hP hI hx_
    rename x_I _ _ _ _ _ _ _ _ _ _ => hI
    exact y_ireturn B hI rfl rfl rfl List.mem_cons_self ⟨_, rfl, ⟨_, rfl, x_i32 _⟩⟩ (x_cs.mono B.2.2.2.2.2 (y_mon B hI)) (fun t' w0' w1' f' K' tt' nn' h1 h2 => by cases h1; cases h2.eqf hR0; exact ⟨_, _, rfl, h2.fin hYt0 hs0_hd hF hL hfld (y_mon B hI), fun _ => ⟨rfl, rfl⟩, fun q9 => absurd q9 hno, fun q9 => absurd q9 hno⟩) (by exact Nat.le_of_ble_eq_true rfl) (by exact Nat.le_of_ble_eq_true rfl) Twk_d32
  · have q8_ : ¬ r5.toInt = (0 : Int32).toInt := fun q => q8 (Int32.toInt_inj.mp q)
    have hw1 := hin_r5 (by assumption)
    have hw3 := hw1
    unfold m_isT at hw3
    refine lv_aload_n hx hb Twk_d11 rfl (lv_at hl 0 rfl) ?_
    refine y_getf X (fl8 X.2.2.2.2.1) hI.1 hY_this rfl hs_hd Twk_d12 ?_
    refine y_getf X (fl45 X.2.2.2.2.1) hI.1 hY_hd rfl hs_astones Twk_d15 ?_
    refine lv_iload_n hx hb Twk_d18 rfl (lv_at hl 1 rfl) ?_
    obtain ⟨as9, e1, -, h3⟩ := hL.2.2.1
    cases e1.symm.trans hs_astones
    obtain ⟨sn, hat9, z9, hz9, hYz, hk9, -⟩ := h3 x.toInt.toNat (by omega)
    refine y_aald X hI.1 hY_astones rfl (by omega) (by show _ < (8 : Int); omega) hat9 Twk_d19 ?_
    simp only [z_Kd, List.mem_cons, List.not_mem_nil, or_false] at hz9
    rcases hz9 with rfl | rfl | rfl | rfl | rfl | rfl
    · replace hYz : _ = some 11 := hYz
      replace hk9 : ((11 : Nat) : Int) = 11 + (f (60 + 7 * x.toInt.toNat)).toInt := hk9
      refine y_call (z := (0, 79, 1, some 11, xM26)) (av := [.ref sn]) (rest := []) (y_cok.of (x_cokV (n := 0) (ci := 6) X xm26 rfl rfl rfl (x_cons (x_bw25 8 rfl rfl) (x_cons (x_bw25 9 rfl rfl) (x_cons (x_bw25 10 rfl rfl) (x_cons (x_bw0 4 rfl rfl) x_nilm)))) (x_bw26 5 rfl rfl) (by decide +kernel) ⟨Nat.le_of_ble_eq_true rfl, Nat.le_of_ble_eq_true rfl⟩)) hY0 hI rfl Twk_d20 hl.1 (Nat.le_of_ble_eq_true rfl) (Nat.le_of_ble_eq_true rfl) (Nat.le_of_ble_eq_true rfl) (y_cons (y_cref hYz rfl) y_nil) rfl (y_recv rfl hYz) trivial (y_sub_ef rfl) fun v Yn o Hn L ho hr ha hIn hx_ hE hP => ?_
      replace hs_hd := y_Efld hE hY_this rfl (by decide) (by decide) hs_hd
      replace hn0 := y_Efld hE hY_hd rfl (by decide) (by decide) hn0
      replace hn1 := y_Efld hE hY_hd rfl (by decide) (by decide) hn1
      replace hn2 := y_Efld hE hY_hd rfl (by decide) (by decide) hn2
      replace hs_adone := y_Efld hE hY_hd rfl (by decide) (by decide) hs_adone
      replace hs_astones := y_Efld hE hY_hd rfl (by decide) (by decide) hs_astones
      replace hA_adone := hA_adone.kept (y_Earr hE hY_adone rfl (by decide))
      replace hL := hL.E hY_hd hE (fun q u h => y_ext hx_ hI.1 h) (by decide +kernel)
      replace hF := fun b u g9 (hb : Y0 b = some u) (h42 : u ≠ 42) (hg9 : x_G[u]? = some g9) (hn : b ≠ hd) (hk9 : ∀ k, k < 16 → x_sl D 2 k hd s.heap ≠ some (.ref b)) => x_eq.trans (x_eq.E42 hE (y_mon B hI _ _ hb) hg9 h42 rfl) (hF b u g9 hb h42 hg9 hn hk9)
      replace hfld : z_fld D hd s.heap _ := fun k a b c d => ((x_eq.E42 (g := x_G[2]) hE hY_hd rfl (by decide) rfl) k a).trans (hfld k a b c d)
      replace hY_this := y_ext hx_ hI.1 hY_this
      replace hY_hd := y_ext hx_ hI.1 hY_hd
      replace hY_adone := y_ext hx_ hI.1 hY_adone
      replace hY_astones := y_ext hx_ hI.1 hY_astones
      replace hYz := y_ext hx_ hI.1 hYz
      obtain ⟨r20, rfl, h_r20⟩ := y_ansI (lo := 0) (hi := 0) (by decide) ho hr
      clear ho hr ha hE hP hI hx_
      rename x_I _ _ _ _ _ _ _ _ _ _ => hI
      refine lv_if_ne hx hb Twk_d23 (tgt := 33) (by decide) (fun q23 => ?_) (fun q23 => ?_)
      · have q23_ : ¬ r20.toInt = (0 : Int32).toInt := fun q => q23 (Int32.toInt_inj.mp q)
        have hok : m_wOk f x := by first | exact ⟨hw1, fun q9 => by omega⟩ | (exfalso; omega)
        refine lv_iload_n hx hb Twk_d33 rfl (lv_at hl 2 rfl) ?_
        refine lv_if_eq hx hb Twk_d34 (tgt := 41) (by decide) (fun q34 => ?_) (fun q34 => ?_)
        · have q34_ : d.toInt = (0 : Int32).toInt := by rw [q34]
          refine lv_iconst hx hb Twk_d41 (v := 0) (by decide) ?_
          refine lv_istore_n hx hb Twk_d42 rfl hl (by decide) (lv' := [(3, .int (0 : Int32)), (0, .ref this), (1, .int x), (2, .int d)]) rfl fun ls hl => ?_
          refine lv_aload_n hx hb Twk_d43 rfl (lv_at hl 1 rfl) ?_
          refine y_getf X (fl8 X.2.2.2.2.1) hI.1 hY_this rfl hs_hd Twk_d44 ?_
          refine y_getf X (fl46 X.2.2.2.2.1) hI.1 hY_hd rfl hs_adone Twk_d47 ?_
          refine lv_iload_n hx hb Twk_d50 rfl (lv_at hl 2 rfl) ?_
          refine y_iald X hI.1 hY_adone rfl hA_adone (by omega) (by show _ < (8 : Int); omega) Twk_d51 ?_
          obtain ⟨e51, hg_e51⟩ : ∃ e51 : Int32, f (65 + 7 * x.toInt.toNat) = e51 := ⟨_, rfl⟩
          rw [hg_e51]
          refine lv_iload_n hx hb Twk_d52 rfl (lv_at hl 0 rfl) ?_
          refine lv_icmp_ne hx hb Twk_d53 (tgt := 63) (by decide) (fun q53 => ?_) (fun q53 => ?_)
          · have q53_ : ¬ e51.toInt = (0 : Int32).toInt := fun q => q53 (Int32.toInt_inj.mp q)
            refine lv_aload_n hx hb Twk_d63 rfl (lv_at hl 1 rfl) ?_
            refine y_getf X (fl8 X.2.2.2.2.1) hI.1 hY_this rfl hs_hd Twk_d64 ?_
            refine y_getf X (fl46 X.2.2.2.2.1) hI.1 hY_hd rfl hs_adone Twk_d67 ?_
            refine lv_iload_n hx hb Twk_d70 rfl (lv_at hl 2 rfl) ?_
            refine lv_iload_n hx hb Twk_d71 rfl (lv_at hl 0 rfl) ?_
            have hs_old := hs_adone
            have hA_old := hA_adone
            refine y_iast X hY0 hI hY_adone rfl hA_adone (by omega) (by show _ < (8 : Int); omega) ⟨_, rfl, x_i32 _⟩ (by decide +kernel) Twk_d72 fun H locs hI h_new ho => ?_
            replace hA_adone := h_new
            generalize hf_f72 : y_up (fun j => f (65 + 7 * j)) x.toInt.toNat (0 : Int32) = f72 at hA_adone
            replace hs_hd := y_slk hs_hd (ho _ (y_ne hY_this hY_adone rfl))
            replace hn0 := y_slk hn0 (ho _ (y_ne hY_hd hY_adone rfl))
            replace hn1 := y_slk hn1 (ho _ (y_ne hY_hd hY_adone rfl))
            replace hn2 := y_slk hn2 (ho _ (y_ne hY_hd hY_adone rfl))
            replace hs_adone := y_slk hs_adone (ho _ (y_ne hY_hd hY_adone rfl))
            replace hs_astones := y_slk hs_astones (ho _ (y_ne hY_hd hY_adone rfl))
            replace hL := hL.putA (c := (8, 25, 8, 65, 7)) (N := 8) hY_hd (by decide) rfl (by omega) hs_old hA_old h_new ho
            replace hF := fun b u g9 (hb : Y0 b = some u) (h42 : u ≠ 42) (hg9 : x_G[u]? = some g9) (hn : b ≠ hd) (hk9 : ∀ k, k < 16 → x_sl D 2 k hd s.heap ≠ some (.ref b)) => x_eq.trans (x_eq.of (ho b (fun e0 => hk9 8 (by decide) (by rw [e0]; exact hs0_adone)))) (hF b u g9 hb h42 hg9 hn hk9)
            replace hfld : z_fld D hd s.heap _ := fun k a b c d => (y_slk rfl (ho _ (y_ne hY_hd hY_adone rfl))).trans (hfld k a b c d)
            refine lv_iconst hx hb Twk_d73 (v := 1) (by decide) ?_
            have ec1 : (1 : Int32).toInt = 1 := by decide
            have h_d : d = (0 : Int32) := Int32.toInt_inj.mp (by omega)
            exact y_ireturn B hI rfl rfl rfl List.mem_cons_self ⟨_, rfl, ⟨_, rfl, x_i32 _⟩⟩ (x_cs.mono B.2.2.2.2.2 (y_mon B hI)) (fun t' w0' w1' f' K' tt' nn' h1 h2 => by cases h1; cases h2.eqf hR0; exact ⟨_, _, rfl, h2.fin hYt0 hs0_hd hF hL hfld (y_mon B hI), fun q9 => absurd hok q9, fun _ q9 => absurd q9 (fun q8 => q53 (by rw [h_d] at q8; exact hg_e51.symm.trans q8)), fun _ _ => ⟨rfl, by rw [h_d]; rfl⟩⟩) (by exact Nat.le_of_ble_eq_true rfl) (by exact Nat.le_of_ble_eq_true rfl) Twk_d74
          · have q53_ : e51.toInt = (0 : Int32).toInt := by rw [q53]
            refine lv_aload_n hx hb Twk_d56 rfl (lv_at hl 1 rfl) ?_
            refine lv_bipush hx hb Twk_d57 (v := (-3)) (by decide) ?_
            have ecm3 : ((-3) : Int32).toInt = (-3) := by decide
            refine y_call (z := (0, 59, 2, some 0, xM8)) (av := [.ref this, .int ((-3) : Int32)]) (rest := []) (y_cokV (n := 1) (ci := 11) X ym_counted rfl rfl rfl (x_cons (x_bw19 7 rfl rfl) (x_cons (x_bw19 9 rfl rfl) (x_cons (x_at 1 (by decide +kernel) rfl) (x_cons (x_bw0 1 rfl rfl) x_nilm)))) (x_bw19 10 rfl rfl) (by decide +kernel) ⟨Nat.le_of_ble_eq_true rfl, Nat.le_of_ble_eq_true rfl⟩) hY0 hI rfl Twk_d59 hl.1 (Nat.le_of_ble_eq_true rfl) (Nat.le_of_ble_eq_true rfl) (Nat.le_of_ble_eq_true rfl) (y_cons (y_cref hY_this rfl) (y_cons ⟨_, rfl, x_i32 _⟩ y_nil)) rfl (y_recv rfl hY_this) trivial (y_sub_ef rfl) fun v Yn o Hn L ho hr ha hIn hx_ hE hP => ?_
            replace hs_hd := y_Efld hE hY_this rfl (by decide) (by decide) hs_hd
            replace hn0 := y_Efld hE hY_hd rfl (by decide) (by decide) hn0
            replace hn1 := y_Efld hE hY_hd rfl (by decide) (by decide) hn1
            replace hn2 := y_Efld hE hY_hd rfl (by decide) (by decide) hn2
            replace hs_adone := y_Efld hE hY_hd rfl (by decide) (by decide) hs_adone
            replace hs_astones := y_Efld hE hY_hd rfl (by decide) (by decide) hs_astones
            replace hA_adone := hA_adone.kept (y_Earr hE hY_adone rfl (by decide))
            replace hL := hL.E hY_hd hE (fun q u h => y_ext hx_ hI.1 h) (by decide +kernel)
            replace hF := fun b u g9 (hb : Y0 b = some u) (h42 : u ≠ 42) (hg9 : x_G[u]? = some g9) (hn : b ≠ hd) (hk9 : ∀ k, k < 16 → x_sl D 2 k hd s.heap ≠ some (.ref b)) => x_eq.trans (x_eq.E42 hE (y_mon B hI _ _ hb) hg9 h42 rfl) (hF b u g9 hb h42 hg9 hn hk9)
            replace hfld : z_fld D hd s.heap _ := fun k a b c d => ((x_eq.E42 (g := x_G[2]) hE hY_hd rfl (by decide) rfl) k a).trans (hfld k a b c d)
            replace hY_this := y_ext hx_ hI.1 hY_this
            replace hY_hd := y_ext hx_ hI.1 hY_hd
            replace hY_adone := y_ext hx_ hI.1 hY_adone
            replace hY_astones := y_ext hx_ hI.1 hY_astones
            replace hYz := y_ext hx_ hI.1 hYz
            obtain rfl := hP _ _ rfl
            clear ho hr ha hE hP hI hx_
            rename x_I _ _ _ _ _ _ _ _ _ _ => hI
            have h_d : d = (0 : Int32) := Int32.toInt_inj.mp (by omega)
            exact y_ireturn B hI rfl rfl rfl List.mem_cons_self ⟨_, rfl, ⟨_, rfl, x_i32 _⟩⟩ (x_cs.mono B.2.2.2.2.2 (y_mon B hI)) (fun t' w0' w1' f' K' tt' nn' h1 h2 => by cases h1; cases h2.eqf hR0; exact ⟨_, _, rfl, h2.fin hYt0 hs0_hd hF hL hfld (y_mon B hI), fun q9 => absurd hok q9, fun _ _ => ⟨rfl, rfl⟩, fun _ q9 => absurd (show f (65 + 7 * x.toInt.toNat) = d by rw [h_d]; exact hg_e51.trans q53) q9⟩) (by exact Nat.le_of_ble_eq_true rfl) (by exact Nat.le_of_ble_eq_true rfl) Twk_d62
        · have q34_ : ¬ d.toInt = (0 : Int32).toInt := fun q => q34 (Int32.toInt_inj.mp q)
          refine lv_iconst hx hb Twk_d37 (v := 1) (by decide) ?_
          have ec1 : (1 : Int32).toInt = 1 := by decide
          refine lv_goto hx hb Twk_d38 (tgt := 42) (by decide) ?_
          refine lv_istore_n hx hb Twk_d42 rfl hl (by decide) (lv' := [(3, .int (1 : Int32)), (0, .ref this), (1, .int x), (2, .int d)]) rfl fun ls hl => ?_
          refine lv_aload_n hx hb Twk_d43 rfl (lv_at hl 1 rfl) ?_
          refine y_getf X (fl8 X.2.2.2.2.1) hI.1 hY_this rfl hs_hd Twk_d44 ?_
          refine y_getf X (fl46 X.2.2.2.2.1) hI.1 hY_hd rfl hs_adone Twk_d47 ?_
          refine lv_iload_n hx hb Twk_d50 rfl (lv_at hl 2 rfl) ?_
          refine y_iald X hI.1 hY_adone rfl hA_adone (by omega) (by show _ < (8 : Int); omega) Twk_d51 ?_
          obtain ⟨e51, hg_e51⟩ : ∃ e51 : Int32, f (65 + 7 * x.toInt.toNat) = e51 := ⟨_, rfl⟩
          rw [hg_e51]
          refine lv_iload_n hx hb Twk_d52 rfl (lv_at hl 0 rfl) ?_
          refine lv_icmp_ne hx hb Twk_d53 (tgt := 63) (by decide) (fun q53 => ?_) (fun q53 => ?_)
          · have q53_ : ¬ e51.toInt = (1 : Int32).toInt := fun q => q53 (Int32.toInt_inj.mp q)
            refine lv_aload_n hx hb Twk_d63 rfl (lv_at hl 1 rfl) ?_
            refine y_getf X (fl8 X.2.2.2.2.1) hI.1 hY_this rfl hs_hd Twk_d64 ?_
            refine y_getf X (fl46 X.2.2.2.2.1) hI.1 hY_hd rfl hs_adone Twk_d67 ?_
            refine lv_iload_n hx hb Twk_d70 rfl (lv_at hl 2 rfl) ?_
            refine lv_iload_n hx hb Twk_d71 rfl (lv_at hl 0 rfl) ?_
            have hs_old := hs_adone
            have hA_old := hA_adone
            refine y_iast X hY0 hI hY_adone rfl hA_adone (by omega) (by show _ < (8 : Int); omega) ⟨_, rfl, x_i32 _⟩ (by decide +kernel) Twk_d72 fun H locs hI h_new ho => ?_
            replace hA_adone := h_new
            generalize hf_f72 : y_up (fun j => f (65 + 7 * j)) x.toInt.toNat (1 : Int32) = f72 at hA_adone
            replace hs_hd := y_slk hs_hd (ho _ (y_ne hY_this hY_adone rfl))
            replace hn0 := y_slk hn0 (ho _ (y_ne hY_hd hY_adone rfl))
            replace hn1 := y_slk hn1 (ho _ (y_ne hY_hd hY_adone rfl))
            replace hn2 := y_slk hn2 (ho _ (y_ne hY_hd hY_adone rfl))
            replace hs_adone := y_slk hs_adone (ho _ (y_ne hY_hd hY_adone rfl))
            replace hs_astones := y_slk hs_astones (ho _ (y_ne hY_hd hY_adone rfl))
            replace hL := hL.putA (c := (8, 25, 8, 65, 7)) (N := 8) hY_hd (by decide) rfl (by omega) hs_old hA_old h_new ho
            replace hF := fun b u g9 (hb : Y0 b = some u) (h42 : u ≠ 42) (hg9 : x_G[u]? = some g9) (hn : b ≠ hd) (hk9 : ∀ k, k < 16 → x_sl D 2 k hd s.heap ≠ some (.ref b)) => x_eq.trans (x_eq.of (ho b (fun e0 => hk9 8 (by decide) (by rw [e0]; exact hs0_adone)))) (hF b u g9 hb h42 hg9 hn hk9)
            replace hfld : z_fld D hd s.heap _ := fun k a b c d => (y_slk rfl (ho _ (y_ne hY_hd hY_adone rfl))).trans (hfld k a b c d)
            refine lv_iconst hx hb Twk_d73 (v := 1) (by decide) ?_
            have h_d : d = (1 : Int32) := Int32.toInt_inj.mp (by omega)
            exact y_ireturn B hI rfl rfl rfl List.mem_cons_self ⟨_, rfl, ⟨_, rfl, x_i32 _⟩⟩ (x_cs.mono B.2.2.2.2.2 (y_mon B hI)) (fun t' w0' w1' f' K' tt' nn' h1 h2 => by cases h1; cases h2.eqf hR0; exact ⟨_, _, rfl, h2.fin hYt0 hs0_hd hF hL hfld (y_mon B hI), fun q9 => absurd hok q9, fun _ q9 => absurd q9 (fun q8 => q53 (by rw [h_d] at q8; exact hg_e51.symm.trans q8)), fun _ _ => ⟨rfl, by rw [h_d]; rfl⟩⟩) (by exact Nat.le_of_ble_eq_true rfl) (by exact Nat.le_of_ble_eq_true rfl) Twk_d74
          · have q53_ : e51.toInt = (1 : Int32).toInt := by rw [q53]
            refine lv_aload_n hx hb Twk_d56 rfl (lv_at hl 1 rfl) ?_
            refine lv_bipush hx hb Twk_d57 (v := (-3)) (by decide) ?_
            have ecm3 : ((-3) : Int32).toInt = (-3) := by decide
            refine y_call (z := (0, 59, 2, some 0, xM8)) (av := [.ref this, .int ((-3) : Int32)]) (rest := []) (y_cokV (n := 1) (ci := 11) X ym_counted rfl rfl rfl (x_cons (x_bw19 7 rfl rfl) (x_cons (x_bw19 9 rfl rfl) (x_cons (x_at 1 (by decide +kernel) rfl) (x_cons (x_bw0 1 rfl rfl) x_nilm)))) (x_bw19 10 rfl rfl) (by decide +kernel) ⟨Nat.le_of_ble_eq_true rfl, Nat.le_of_ble_eq_true rfl⟩) hY0 hI rfl Twk_d59 hl.1 (Nat.le_of_ble_eq_true rfl) (Nat.le_of_ble_eq_true rfl) (Nat.le_of_ble_eq_true rfl) (y_cons (y_cref hY_this rfl) (y_cons ⟨_, rfl, x_i32 _⟩ y_nil)) rfl (y_recv rfl hY_this) trivial (y_sub_ef rfl) fun v Yn o Hn L ho hr ha hIn hx_ hE hP => ?_
            replace hs_hd := y_Efld hE hY_this rfl (by decide) (by decide) hs_hd
            replace hn0 := y_Efld hE hY_hd rfl (by decide) (by decide) hn0
            replace hn1 := y_Efld hE hY_hd rfl (by decide) (by decide) hn1
            replace hn2 := y_Efld hE hY_hd rfl (by decide) (by decide) hn2
            replace hs_adone := y_Efld hE hY_hd rfl (by decide) (by decide) hs_adone
            replace hs_astones := y_Efld hE hY_hd rfl (by decide) (by decide) hs_astones
            replace hA_adone := hA_adone.kept (y_Earr hE hY_adone rfl (by decide))
            replace hL := hL.E hY_hd hE (fun q u h => y_ext hx_ hI.1 h) (by decide +kernel)
            replace hF := fun b u g9 (hb : Y0 b = some u) (h42 : u ≠ 42) (hg9 : x_G[u]? = some g9) (hn : b ≠ hd) (hk9 : ∀ k, k < 16 → x_sl D 2 k hd s.heap ≠ some (.ref b)) => x_eq.trans (x_eq.E42 hE (y_mon B hI _ _ hb) hg9 h42 rfl) (hF b u g9 hb h42 hg9 hn hk9)
            replace hfld : z_fld D hd s.heap _ := fun k a b c d => ((x_eq.E42 (g := x_G[2]) hE hY_hd rfl (by decide) rfl) k a).trans (hfld k a b c d)
            replace hY_this := y_ext hx_ hI.1 hY_this
            replace hY_hd := y_ext hx_ hI.1 hY_hd
            replace hY_adone := y_ext hx_ hI.1 hY_adone
            replace hY_astones := y_ext hx_ hI.1 hY_astones
            replace hYz := y_ext hx_ hI.1 hYz
            obtain rfl := hP _ _ rfl
            clear ho hr ha hE hP hI hx_
            rename x_I _ _ _ _ _ _ _ _ _ _ => hI
            have h_d : d = (1 : Int32) := Int32.toInt_inj.mp (by omega)
            exact y_ireturn B hI rfl rfl rfl List.mem_cons_self ⟨_, rfl, ⟨_, rfl, x_i32 _⟩⟩ (x_cs.mono B.2.2.2.2.2 (y_mon B hI)) (fun t' w0' w1' f' K' tt' nn' h1 h2 => by cases h1; cases h2.eqf hR0; exact ⟨_, _, rfl, h2.fin hYt0 hs0_hd hF hL hfld (y_mon B hI), fun q9 => absurd hok q9, fun _ _ => ⟨rfl, rfl⟩, fun _ q9 => absurd (show f (65 + 7 * x.toInt.toNat) = d by rw [h_d]; exact hg_e51.trans q53) q9⟩) (by exact Nat.le_of_ble_eq_true rfl) (by exact Nat.le_of_ble_eq_true rfl) Twk_d62
      · have q23_ : r20.toInt = (0 : Int32).toInt := by rw [q23]
        have hno : ¬ m_wOk f x := fun q9 => by first | exact hout_r5 (by assumption) q9.1 | exact q9.2 (by omega) | (exfalso; omega)
        refine lv_aload_n hx hb Twk_d26 rfl (lv_at hl 0 rfl) ?_
        refine lv_bipush hx hb Twk_d27 (v := (-2)) (by decide) ?_
        have ecm2 : ((-2) : Int32).toInt = (-2) := by decide
        refine y_call (z := (0, 59, 2, some 0, xM8)) (av := [.ref this, .int ((-2) : Int32)]) (rest := []) (y_cokV (n := 1) (ci := 11) X ym_counted rfl rfl rfl (x_cons (x_bw19 7 rfl rfl) (x_cons (x_bw19 9 rfl rfl) (x_cons (x_at 1 (by decide +kernel) rfl) (x_cons (x_bw0 1 rfl rfl) x_nilm)))) (x_bw19 10 rfl rfl) (by decide +kernel) ⟨Nat.le_of_ble_eq_true rfl, Nat.le_of_ble_eq_true rfl⟩) hY0 hI rfl Twk_d29 hl.1 (Nat.le_of_ble_eq_true rfl) (Nat.le_of_ble_eq_true rfl) (Nat.le_of_ble_eq_true rfl) (y_cons (y_cref hY_this rfl) (y_cons ⟨_, rfl, x_i32 _⟩ y_nil)) rfl (y_recv rfl hY_this) trivial (y_sub_ef rfl) fun v Yn o Hn L ho hr ha hIn hx_ hE hP => ?_
        replace hs_hd := y_Efld hE hY_this rfl (by decide) (by decide) hs_hd
        replace hn0 := y_Efld hE hY_hd rfl (by decide) (by decide) hn0
        replace hn1 := y_Efld hE hY_hd rfl (by decide) (by decide) hn1
        replace hn2 := y_Efld hE hY_hd rfl (by decide) (by decide) hn2
        replace hs_adone := y_Efld hE hY_hd rfl (by decide) (by decide) hs_adone
        replace hs_astones := y_Efld hE hY_hd rfl (by decide) (by decide) hs_astones
        replace hA_adone := hA_adone.kept (y_Earr hE hY_adone rfl (by decide))
        replace hL := hL.E hY_hd hE (fun q u h => y_ext hx_ hI.1 h) (by decide +kernel)
        replace hF := fun b u g9 (hb : Y0 b = some u) (h42 : u ≠ 42) (hg9 : x_G[u]? = some g9) (hn : b ≠ hd) (hk9 : ∀ k, k < 16 → x_sl D 2 k hd s.heap ≠ some (.ref b)) => x_eq.trans (x_eq.E42 hE (y_mon B hI _ _ hb) hg9 h42 rfl) (hF b u g9 hb h42 hg9 hn hk9)
        replace hfld : z_fld D hd s.heap _ := fun k a b c d => ((x_eq.E42 (g := x_G[2]) hE hY_hd rfl (by decide) rfl) k a).trans (hfld k a b c d)
        replace hY_this := y_ext hx_ hI.1 hY_this
        replace hY_hd := y_ext hx_ hI.1 hY_hd
        replace hY_adone := y_ext hx_ hI.1 hY_adone
        replace hY_astones := y_ext hx_ hI.1 hY_astones
        replace hYz := y_ext hx_ hI.1 hYz
        obtain rfl := hP _ _ rfl
        clear ho hr ha hE hP hI hx_
        rename x_I _ _ _ _ _ _ _ _ _ _ => hI
        exact y_ireturn B hI rfl rfl rfl List.mem_cons_self ⟨_, rfl, ⟨_, rfl, x_i32 _⟩⟩ (x_cs.mono B.2.2.2.2.2 (y_mon B hI)) (fun t' w0' w1' f' K' tt' nn' h1 h2 => by cases h1; cases h2.eqf hR0; exact ⟨_, _, rfl, h2.fin hYt0 hs0_hd hF hL hfld (y_mon B hI), fun _ => ⟨rfl, rfl⟩, fun q9 => absurd q9 hno, fun q9 => absurd q9 hno⟩) (by exact Nat.le_of_ble_eq_true rfl) (by exact Nat.le_of_ble_eq_true rfl) Twk_d32
    · replace hYz : _ = some 12 := hYz
      replace hk9 : ((12 : Nat) : Int) = 11 + (f (60 + 7 * x.toInt.toNat)).toInt := hk9
      refine y_call (z := (0, 79, 1, some 12, xM27)) (av := [.ref sn]) (rest := []) (y_cok.of (x_cokO (ci := 10) (x := ⟨"TwinFires$Stone", "isWorkable", "()Z"⟩) (b0 := prog_8_method_3_code) (m0 := 1) (r0 := some .boolean) X xm27 rfl rfl (x_bw26 5 rfl rfl) (x_cons (x_bw25 8 rfl rfl) (x_cons (x_bw25 11 rfl rfl) (x_cons (x_bw25 9 rfl rfl) (x_cons (x_bw26 4 rfl rfl) (x_cons (x_bw25 13 rfl rfl) (x_cons (x_bw0 10 rfl rfl) x_nilm)))))) (x_bw25 14 rfl rfl) (by decide +kernel) ⟨Nat.le_of_ble_eq_true rfl, Nat.le_of_ble_eq_true rfl⟩)) hY0 hI rfl Twk_d20 hl.1 (Nat.le_of_ble_eq_true rfl) (Nat.le_of_ble_eq_true rfl) (Nat.le_of_ble_eq_true rfl) (y_cons (y_cref hYz rfl) y_nil) rfl (y_recv rfl hYz) trivial (y_sub_ef rfl) fun v Yn o Hn L ho hr ha hIn hx_ hE hP => ?_
      replace hs_hd := y_Efld hE hY_this rfl (by decide) (by decide) hs_hd
      replace hn0 := y_Efld hE hY_hd rfl (by decide) (by decide) hn0
      replace hn1 := y_Efld hE hY_hd rfl (by decide) (by decide) hn1
      replace hn2 := y_Efld hE hY_hd rfl (by decide) (by decide) hn2
      replace hs_adone := y_Efld hE hY_hd rfl (by decide) (by decide) hs_adone
      replace hs_astones := y_Efld hE hY_hd rfl (by decide) (by decide) hs_astones
      replace hA_adone := hA_adone.kept (y_Earr hE hY_adone rfl (by decide))
      replace hL := hL.E hY_hd hE (fun q u h => y_ext hx_ hI.1 h) (by decide +kernel)
      replace hF := fun b u g9 (hb : Y0 b = some u) (h42 : u ≠ 42) (hg9 : x_G[u]? = some g9) (hn : b ≠ hd) (hk9 : ∀ k, k < 16 → x_sl D 2 k hd s.heap ≠ some (.ref b)) => x_eq.trans (x_eq.E42 hE (y_mon B hI _ _ hb) hg9 h42 rfl) (hF b u g9 hb h42 hg9 hn hk9)
      replace hfld : z_fld D hd s.heap _ := fun k a b c d => ((x_eq.E42 (g := x_G[2]) hE hY_hd rfl (by decide) rfl) k a).trans (hfld k a b c d)
      replace hY_this := y_ext hx_ hI.1 hY_this
      replace hY_hd := y_ext hx_ hI.1 hY_hd
      replace hY_adone := y_ext hx_ hI.1 hY_adone
      replace hY_astones := y_ext hx_ hI.1 hY_astones
      replace hYz := y_ext hx_ hI.1 hYz
      obtain ⟨r20, rfl, h_r20⟩ := y_ansI (lo := 1) (hi := 1) (by decide) ho hr
      clear ho hr ha hE hP hI hx_
      rename x_I _ _ _ _ _ _ _ _ _ _ => hI
      refine lv_if_ne hx hb Twk_d23 (tgt := 33) (by decide) (fun q23 => ?_) (fun q23 => ?_)
      · have q23_ : ¬ r20.toInt = (0 : Int32).toInt := fun q => q23 (Int32.toInt_inj.mp q)
        have hok : m_wOk f x := by first | exact ⟨hw1, fun q9 => by omega⟩ | (exfalso; omega)
        refine lv_iload_n hx hb Twk_d33 rfl (lv_at hl 2 rfl) ?_
        refine lv_if_eq hx hb Twk_d34 (tgt := 41) (by decide) (fun q34 => ?_) (fun q34 => ?_)
        · have q34_ : d.toInt = (0 : Int32).toInt := by rw [q34]
          refine lv_iconst hx hb Twk_d41 (v := 0) (by decide) ?_
          refine lv_istore_n hx hb Twk_d42 rfl hl (by decide) (lv' := [(3, .int (0 : Int32)), (0, .ref this), (1, .int x), (2, .int d)]) rfl fun ls hl => ?_
          refine lv_aload_n hx hb Twk_d43 rfl (lv_at hl 1 rfl) ?_
          refine y_getf X (fl8 X.2.2.2.2.1) hI.1 hY_this rfl hs_hd Twk_d44 ?_
          refine y_getf X (fl46 X.2.2.2.2.1) hI.1 hY_hd rfl hs_adone Twk_d47 ?_
          refine lv_iload_n hx hb Twk_d50 rfl (lv_at hl 2 rfl) ?_
          refine y_iald X hI.1 hY_adone rfl hA_adone (by omega) (by show _ < (8 : Int); omega) Twk_d51 ?_
          obtain ⟨e51, hg_e51⟩ : ∃ e51 : Int32, f (65 + 7 * x.toInt.toNat) = e51 := ⟨_, rfl⟩
          rw [hg_e51]
          refine lv_iload_n hx hb Twk_d52 rfl (lv_at hl 0 rfl) ?_
          refine lv_icmp_ne hx hb Twk_d53 (tgt := 63) (by decide) (fun q53 => ?_) (fun q53 => ?_)
          · have q53_ : ¬ e51.toInt = (0 : Int32).toInt := fun q => q53 (Int32.toInt_inj.mp q)
            refine lv_aload_n hx hb Twk_d63 rfl (lv_at hl 1 rfl) ?_
            refine y_getf X (fl8 X.2.2.2.2.1) hI.1 hY_this rfl hs_hd Twk_d64 ?_
            refine y_getf X (fl46 X.2.2.2.2.1) hI.1 hY_hd rfl hs_adone Twk_d67 ?_
            refine lv_iload_n hx hb Twk_d70 rfl (lv_at hl 2 rfl) ?_
            refine lv_iload_n hx hb Twk_d71 rfl (lv_at hl 0 rfl) ?_
            have hs_old := hs_adone
            have hA_old := hA_adone
            refine y_iast X hY0 hI hY_adone rfl hA_adone (by omega) (by show _ < (8 : Int); omega) ⟨_, rfl, x_i32 _⟩ (by decide +kernel) Twk_d72 fun H locs hI h_new ho => ?_
            replace hA_adone := h_new
            generalize hf_f72 : y_up (fun j => f (65 + 7 * j)) x.toInt.toNat (0 : Int32) = f72 at hA_adone
            replace hs_hd := y_slk hs_hd (ho _ (y_ne hY_this hY_adone rfl))
            replace hn0 := y_slk hn0 (ho _ (y_ne hY_hd hY_adone rfl))
            replace hn1 := y_slk hn1 (ho _ (y_ne hY_hd hY_adone rfl))
            replace hn2 := y_slk hn2 (ho _ (y_ne hY_hd hY_adone rfl))
            replace hs_adone := y_slk hs_adone (ho _ (y_ne hY_hd hY_adone rfl))
            replace hs_astones := y_slk hs_astones (ho _ (y_ne hY_hd hY_adone rfl))
            replace hL := hL.putA (c := (8, 25, 8, 65, 7)) (N := 8) hY_hd (by decide) rfl (by omega) hs_old hA_old h_new ho
            replace hF := fun b u g9 (hb : Y0 b = some u) (h42 : u ≠ 42) (hg9 : x_G[u]? = some g9) (hn : b ≠ hd) (hk9 : ∀ k, k < 16 → x_sl D 2 k hd s.heap ≠ some (.ref b)) => x_eq.trans (x_eq.of (ho b (fun e0 => hk9 8 (by decide) (by rw [e0]; exact hs0_adone)))) (hF b u g9 hb h42 hg9 hn hk9)
            replace hfld : z_fld D hd s.heap _ := fun k a b c d => (y_slk rfl (ho _ (y_ne hY_hd hY_adone rfl))).trans (hfld k a b c d)
            refine lv_iconst hx hb Twk_d73 (v := 1) (by decide) ?_
            have ec1 : (1 : Int32).toInt = 1 := by decide
            have h_d : d = (0 : Int32) := Int32.toInt_inj.mp (by omega)
            exact y_ireturn B hI rfl rfl rfl List.mem_cons_self ⟨_, rfl, ⟨_, rfl, x_i32 _⟩⟩ (x_cs.mono B.2.2.2.2.2 (y_mon B hI)) (fun t' w0' w1' f' K' tt' nn' h1 h2 => by cases h1; cases h2.eqf hR0; exact ⟨_, _, rfl, h2.fin hYt0 hs0_hd hF hL hfld (y_mon B hI), fun q9 => absurd hok q9, fun _ q9 => absurd q9 (fun q8 => q53 (by rw [h_d] at q8; exact hg_e51.symm.trans q8)), fun _ _ => ⟨rfl, by rw [h_d]; rfl⟩⟩) (by exact Nat.le_of_ble_eq_true rfl) (by exact Nat.le_of_ble_eq_true rfl) Twk_d74
          · have q53_ : e51.toInt = (0 : Int32).toInt := by rw [q53]
            refine lv_aload_n hx hb Twk_d56 rfl (lv_at hl 1 rfl) ?_
            refine lv_bipush hx hb Twk_d57 (v := (-3)) (by decide) ?_
            have ecm3 : ((-3) : Int32).toInt = (-3) := by decide
            refine y_call (z := (0, 59, 2, some 0, xM8)) (av := [.ref this, .int ((-3) : Int32)]) (rest := []) (y_cokV (n := 1) (ci := 11) X ym_counted rfl rfl rfl (x_cons (x_bw19 7 rfl rfl) (x_cons (x_bw19 9 rfl rfl) (x_cons (x_at 1 (by decide +kernel) rfl) (x_cons (x_bw0 1 rfl rfl) x_nilm)))) (x_bw19 10 rfl rfl) (by decide +kernel) ⟨Nat.le_of_ble_eq_true rfl, Nat.le_of_ble_eq_true rfl⟩) hY0 hI rfl Twk_d59 hl.1 (Nat.le_of_ble_eq_true rfl) (Nat.le_of_ble_eq_true rfl) (Nat.le_of_ble_eq_true rfl) (y_cons (y_cref hY_this rfl) (y_cons ⟨_, rfl, x_i32 _⟩ y_nil)) rfl (y_recv rfl hY_this) trivial (y_sub_ef rfl) fun v Yn o Hn L ho hr ha hIn hx_ hE hP => ?_
            replace hs_hd := y_Efld hE hY_this rfl (by decide) (by decide) hs_hd
            replace hn0 := y_Efld hE hY_hd rfl (by decide) (by decide) hn0
            replace hn1 := y_Efld hE hY_hd rfl (by decide) (by decide) hn1
            replace hn2 := y_Efld hE hY_hd rfl (by decide) (by decide) hn2
            replace hs_adone := y_Efld hE hY_hd rfl (by decide) (by decide) hs_adone
            replace hs_astones := y_Efld hE hY_hd rfl (by decide) (by decide) hs_astones
            replace hA_adone := hA_adone.kept (y_Earr hE hY_adone rfl (by decide))
            replace hL := hL.E hY_hd hE (fun q u h => y_ext hx_ hI.1 h) (by decide +kernel)
            replace hF := fun b u g9 (hb : Y0 b = some u) (h42 : u ≠ 42) (hg9 : x_G[u]? = some g9) (hn : b ≠ hd) (hk9 : ∀ k, k < 16 → x_sl D 2 k hd s.heap ≠ some (.ref b)) => x_eq.trans (x_eq.E42 hE (y_mon B hI _ _ hb) hg9 h42 rfl) (hF b u g9 hb h42 hg9 hn hk9)
            replace hfld : z_fld D hd s.heap _ := fun k a b c d => ((x_eq.E42 (g := x_G[2]) hE hY_hd rfl (by decide) rfl) k a).trans (hfld k a b c d)
            replace hY_this := y_ext hx_ hI.1 hY_this
            replace hY_hd := y_ext hx_ hI.1 hY_hd
            replace hY_adone := y_ext hx_ hI.1 hY_adone
            replace hY_astones := y_ext hx_ hI.1 hY_astones
            replace hYz := y_ext hx_ hI.1 hYz
            obtain rfl := hP _ _ rfl
            clear ho hr ha hE hP hI hx_
            rename x_I _ _ _ _ _ _ _ _ _ _ => hI
            have h_d : d = (0 : Int32) := Int32.toInt_inj.mp (by omega)
            exact y_ireturn B hI rfl rfl rfl List.mem_cons_self ⟨_, rfl, ⟨_, rfl, x_i32 _⟩⟩ (x_cs.mono B.2.2.2.2.2 (y_mon B hI)) (fun t' w0' w1' f' K' tt' nn' h1 h2 => by cases h1; cases h2.eqf hR0; exact ⟨_, _, rfl, h2.fin hYt0 hs0_hd hF hL hfld (y_mon B hI), fun q9 => absurd hok q9, fun _ _ => ⟨rfl, rfl⟩, fun _ q9 => absurd (show f (65 + 7 * x.toInt.toNat) = d by rw [h_d]; exact hg_e51.trans q53) q9⟩) (by exact Nat.le_of_ble_eq_true rfl) (by exact Nat.le_of_ble_eq_true rfl) Twk_d62
        · have q34_ : ¬ d.toInt = (0 : Int32).toInt := fun q => q34 (Int32.toInt_inj.mp q)
          refine lv_iconst hx hb Twk_d37 (v := 1) (by decide) ?_
          have ec1 : (1 : Int32).toInt = 1 := by decide
          refine lv_goto hx hb Twk_d38 (tgt := 42) (by decide) ?_
          refine lv_istore_n hx hb Twk_d42 rfl hl (by decide) (lv' := [(3, .int (1 : Int32)), (0, .ref this), (1, .int x), (2, .int d)]) rfl fun ls hl => ?_
          refine lv_aload_n hx hb Twk_d43 rfl (lv_at hl 1 rfl) ?_
          refine y_getf X (fl8 X.2.2.2.2.1) hI.1 hY_this rfl hs_hd Twk_d44 ?_
          refine y_getf X (fl46 X.2.2.2.2.1) hI.1 hY_hd rfl hs_adone Twk_d47 ?_
          refine lv_iload_n hx hb Twk_d50 rfl (lv_at hl 2 rfl) ?_
          refine y_iald X hI.1 hY_adone rfl hA_adone (by omega) (by show _ < (8 : Int); omega) Twk_d51 ?_
          obtain ⟨e51, hg_e51⟩ : ∃ e51 : Int32, f (65 + 7 * x.toInt.toNat) = e51 := ⟨_, rfl⟩
          rw [hg_e51]
          refine lv_iload_n hx hb Twk_d52 rfl (lv_at hl 0 rfl) ?_
          refine lv_icmp_ne hx hb Twk_d53 (tgt := 63) (by decide) (fun q53 => ?_) (fun q53 => ?_)
          · have q53_ : ¬ e51.toInt = (1 : Int32).toInt := fun q => q53 (Int32.toInt_inj.mp q)
            refine lv_aload_n hx hb Twk_d63 rfl (lv_at hl 1 rfl) ?_
            refine y_getf X (fl8 X.2.2.2.2.1) hI.1 hY_this rfl hs_hd Twk_d64 ?_
            refine y_getf X (fl46 X.2.2.2.2.1) hI.1 hY_hd rfl hs_adone Twk_d67 ?_
            refine lv_iload_n hx hb Twk_d70 rfl (lv_at hl 2 rfl) ?_
            refine lv_iload_n hx hb Twk_d71 rfl (lv_at hl 0 rfl) ?_
            have hs_old := hs_adone
            have hA_old := hA_adone
            refine y_iast X hY0 hI hY_adone rfl hA_adone (by omega) (by show _ < (8 : Int); omega) ⟨_, rfl, x_i32 _⟩ (by decide +kernel) Twk_d72 fun H locs hI h_new ho => ?_
            replace hA_adone := h_new
            generalize hf_f72 : y_up (fun j => f (65 + 7 * j)) x.toInt.toNat (1 : Int32) = f72 at hA_adone
            replace hs_hd := y_slk hs_hd (ho _ (y_ne hY_this hY_adone rfl))
            replace hn0 := y_slk hn0 (ho _ (y_ne hY_hd hY_adone rfl))
            replace hn1 := y_slk hn1 (ho _ (y_ne hY_hd hY_adone rfl))
            replace hn2 := y_slk hn2 (ho _ (y_ne hY_hd hY_adone rfl))
            replace hs_adone := y_slk hs_adone (ho _ (y_ne hY_hd hY_adone rfl))
            replace hs_astones := y_slk hs_astones (ho _ (y_ne hY_hd hY_adone rfl))
            replace hL := hL.putA (c := (8, 25, 8, 65, 7)) (N := 8) hY_hd (by decide) rfl (by omega) hs_old hA_old h_new ho
            replace hF := fun b u g9 (hb : Y0 b = some u) (h42 : u ≠ 42) (hg9 : x_G[u]? = some g9) (hn : b ≠ hd) (hk9 : ∀ k, k < 16 → x_sl D 2 k hd s.heap ≠ some (.ref b)) => x_eq.trans (x_eq.of (ho b (fun e0 => hk9 8 (by decide) (by rw [e0]; exact hs0_adone)))) (hF b u g9 hb h42 hg9 hn hk9)
            replace hfld : z_fld D hd s.heap _ := fun k a b c d => (y_slk rfl (ho _ (y_ne hY_hd hY_adone rfl))).trans (hfld k a b c d)
            refine lv_iconst hx hb Twk_d73 (v := 1) (by decide) ?_
            have h_d : d = (1 : Int32) := Int32.toInt_inj.mp (by omega)
            exact y_ireturn B hI rfl rfl rfl List.mem_cons_self ⟨_, rfl, ⟨_, rfl, x_i32 _⟩⟩ (x_cs.mono B.2.2.2.2.2 (y_mon B hI)) (fun t' w0' w1' f' K' tt' nn' h1 h2 => by cases h1; cases h2.eqf hR0; exact ⟨_, _, rfl, h2.fin hYt0 hs0_hd hF hL hfld (y_mon B hI), fun q9 => absurd hok q9, fun _ q9 => absurd q9 (fun q8 => q53 (by rw [h_d] at q8; exact hg_e51.symm.trans q8)), fun _ _ => ⟨rfl, by rw [h_d]; rfl⟩⟩) (by exact Nat.le_of_ble_eq_true rfl) (by exact Nat.le_of_ble_eq_true rfl) Twk_d74
          · have q53_ : e51.toInt = (1 : Int32).toInt := by rw [q53]
            refine lv_aload_n hx hb Twk_d56 rfl (lv_at hl 1 rfl) ?_
            refine lv_bipush hx hb Twk_d57 (v := (-3)) (by decide) ?_
            have ecm3 : ((-3) : Int32).toInt = (-3) := by decide
            refine y_call (z := (0, 59, 2, some 0, xM8)) (av := [.ref this, .int ((-3) : Int32)]) (rest := []) (y_cokV (n := 1) (ci := 11) X ym_counted rfl rfl rfl (x_cons (x_bw19 7 rfl rfl) (x_cons (x_bw19 9 rfl rfl) (x_cons (x_at 1 (by decide +kernel) rfl) (x_cons (x_bw0 1 rfl rfl) x_nilm)))) (x_bw19 10 rfl rfl) (by decide +kernel) ⟨Nat.le_of_ble_eq_true rfl, Nat.le_of_ble_eq_true rfl⟩) hY0 hI rfl Twk_d59 hl.1 (Nat.le_of_ble_eq_true rfl) (Nat.le_of_ble_eq_true rfl) (Nat.le_of_ble_eq_true rfl) (y_cons (y_cref hY_this rfl) (y_cons ⟨_, rfl, x_i32 _⟩ y_nil)) rfl (y_recv rfl hY_this) trivial (y_sub_ef rfl) fun v Yn o Hn L ho hr ha hIn hx_ hE hP => ?_
            replace hs_hd := y_Efld hE hY_this rfl (by decide) (by decide) hs_hd
            replace hn0 := y_Efld hE hY_hd rfl (by decide) (by decide) hn0
            replace hn1 := y_Efld hE hY_hd rfl (by decide) (by decide) hn1
            replace hn2 := y_Efld hE hY_hd rfl (by decide) (by decide) hn2
            replace hs_adone := y_Efld hE hY_hd rfl (by decide) (by decide) hs_adone
            replace hs_astones := y_Efld hE hY_hd rfl (by decide) (by decide) hs_astones
            replace hA_adone := hA_adone.kept (y_Earr hE hY_adone rfl (by decide))
            replace hL := hL.E hY_hd hE (fun q u h => y_ext hx_ hI.1 h) (by decide +kernel)
            replace hF := fun b u g9 (hb : Y0 b = some u) (h42 : u ≠ 42) (hg9 : x_G[u]? = some g9) (hn : b ≠ hd) (hk9 : ∀ k, k < 16 → x_sl D 2 k hd s.heap ≠ some (.ref b)) => x_eq.trans (x_eq.E42 hE (y_mon B hI _ _ hb) hg9 h42 rfl) (hF b u g9 hb h42 hg9 hn hk9)
            replace hfld : z_fld D hd s.heap _ := fun k a b c d => ((x_eq.E42 (g := x_G[2]) hE hY_hd rfl (by decide) rfl) k a).trans (hfld k a b c d)
            replace hY_this := y_ext hx_ hI.1 hY_this
            replace hY_hd := y_ext hx_ hI.1 hY_hd
            replace hY_adone := y_ext hx_ hI.1 hY_adone
            replace hY_astones := y_ext hx_ hI.1 hY_astones
            replace hYz := y_ext hx_ hI.1 hYz
            obtain rfl := hP _ _ rfl
            clear ho hr ha hE hP hI hx_
            rename x_I _ _ _ _ _ _ _ _ _ _ => hI
            have h_d : d = (1 : Int32) := Int32.toInt_inj.mp (by omega)
            exact y_ireturn B hI rfl rfl rfl List.mem_cons_self ⟨_, rfl, ⟨_, rfl, x_i32 _⟩⟩ (x_cs.mono B.2.2.2.2.2 (y_mon B hI)) (fun t' w0' w1' f' K' tt' nn' h1 h2 => by cases h1; cases h2.eqf hR0; exact ⟨_, _, rfl, h2.fin hYt0 hs0_hd hF hL hfld (y_mon B hI), fun q9 => absurd hok q9, fun _ _ => ⟨rfl, rfl⟩, fun _ q9 => absurd (show f (65 + 7 * x.toInt.toNat) = d by rw [h_d]; exact hg_e51.trans q53) q9⟩) (by exact Nat.le_of_ble_eq_true rfl) (by exact Nat.le_of_ble_eq_true rfl) Twk_d62
      · have q23_ : r20.toInt = (0 : Int32).toInt := by rw [q23]
        have hno : ¬ m_wOk f x := fun q9 => by first | exact hout_r5 (by assumption) q9.1 | exact q9.2 (by omega) | (exfalso; omega)
        refine lv_aload_n hx hb Twk_d26 rfl (lv_at hl 0 rfl) ?_
        refine lv_bipush hx hb Twk_d27 (v := (-2)) (by decide) ?_
        have ecm2 : ((-2) : Int32).toInt = (-2) := by decide
        refine y_call (z := (0, 59, 2, some 0, xM8)) (av := [.ref this, .int ((-2) : Int32)]) (rest := []) (y_cokV (n := 1) (ci := 11) X ym_counted rfl rfl rfl (x_cons (x_bw19 7 rfl rfl) (x_cons (x_bw19 9 rfl rfl) (x_cons (x_at 1 (by decide +kernel) rfl) (x_cons (x_bw0 1 rfl rfl) x_nilm)))) (x_bw19 10 rfl rfl) (by decide +kernel) ⟨Nat.le_of_ble_eq_true rfl, Nat.le_of_ble_eq_true rfl⟩) hY0 hI rfl Twk_d29 hl.1 (Nat.le_of_ble_eq_true rfl) (Nat.le_of_ble_eq_true rfl) (Nat.le_of_ble_eq_true rfl) (y_cons (y_cref hY_this rfl) (y_cons ⟨_, rfl, x_i32 _⟩ y_nil)) rfl (y_recv rfl hY_this) trivial (y_sub_ef rfl) fun v Yn o Hn L ho hr ha hIn hx_ hE hP => ?_
        replace hs_hd := y_Efld hE hY_this rfl (by decide) (by decide) hs_hd
        replace hn0 := y_Efld hE hY_hd rfl (by decide) (by decide) hn0
        replace hn1 := y_Efld hE hY_hd rfl (by decide) (by decide) hn1
        replace hn2 := y_Efld hE hY_hd rfl (by decide) (by decide) hn2
        replace hs_adone := y_Efld hE hY_hd rfl (by decide) (by decide) hs_adone
        replace hs_astones := y_Efld hE hY_hd rfl (by decide) (by decide) hs_astones
        replace hA_adone := hA_adone.kept (y_Earr hE hY_adone rfl (by decide))
        replace hL := hL.E hY_hd hE (fun q u h => y_ext hx_ hI.1 h) (by decide +kernel)
        replace hF := fun b u g9 (hb : Y0 b = some u) (h42 : u ≠ 42) (hg9 : x_G[u]? = some g9) (hn : b ≠ hd) (hk9 : ∀ k, k < 16 → x_sl D 2 k hd s.heap ≠ some (.ref b)) => x_eq.trans (x_eq.E42 hE (y_mon B hI _ _ hb) hg9 h42 rfl) (hF b u g9 hb h42 hg9 hn hk9)
        replace hfld : z_fld D hd s.heap _ := fun k a b c d => ((x_eq.E42 (g := x_G[2]) hE hY_hd rfl (by decide) rfl) k a).trans (hfld k a b c d)
        replace hY_this := y_ext hx_ hI.1 hY_this
        replace hY_hd := y_ext hx_ hI.1 hY_hd
        replace hY_adone := y_ext hx_ hI.1 hY_adone
        replace hY_astones := y_ext hx_ hI.1 hY_astones
        replace hYz := y_ext hx_ hI.1 hYz
        obtain rfl := hP _ _ rfl
        clear ho hr ha hE hP hI hx_
        rename x_I _ _ _ _ _ _ _ _ _ _ => hI
        exact y_ireturn B hI rfl rfl rfl List.mem_cons_self ⟨_, rfl, ⟨_, rfl, x_i32 _⟩⟩ (x_cs.mono B.2.2.2.2.2 (y_mon B hI)) (fun t' w0' w1' f' K' tt' nn' h1 h2 => by cases h1; cases h2.eqf hR0; exact ⟨_, _, rfl, h2.fin hYt0 hs0_hd hF hL hfld (y_mon B hI), fun _ => ⟨rfl, rfl⟩, fun q9 => absurd q9 hno, fun q9 => absurd q9 hno⟩) (by exact Nat.le_of_ble_eq_true rfl) (by exact Nat.le_of_ble_eq_true rfl) Twk_d32
    · replace hYz : _ = some 13 := hYz
      replace hk9 : ((13 : Nat) : Int) = 11 + (f (60 + 7 * x.toInt.toNat)).toInt := hk9
      refine y_call (z := (0, 79, 1, some 13, xM27)) (av := [.ref sn]) (rest := []) (y_cok.of (x_cokO (ci := 4) (x := ⟨"TwinFires$Stone", "isWorkable", "()Z"⟩) (b0 := prog_8_method_3_code) (m0 := 1) (r0 := some .boolean) X xm27 rfl rfl (x_bw26 5 rfl rfl) (x_cons (x_bw25 8 rfl rfl) (x_cons (x_bw25 11 rfl rfl) (x_cons (x_bw25 9 rfl rfl) (x_cons (x_bw25 15 rfl rfl) (x_cons (x_bw25 13 rfl rfl) (x_cons (x_bw0 10 rfl rfl) x_nilm)))))) (x_bw25 14 rfl rfl) (by decide +kernel) ⟨Nat.le_of_ble_eq_true rfl, Nat.le_of_ble_eq_true rfl⟩)) hY0 hI rfl Twk_d20 hl.1 (Nat.le_of_ble_eq_true rfl) (Nat.le_of_ble_eq_true rfl) (Nat.le_of_ble_eq_true rfl) (y_cons (y_cref hYz rfl) y_nil) rfl (y_recv rfl hYz) trivial (y_sub_ef rfl) fun v Yn o Hn L ho hr ha hIn hx_ hE hP => ?_
      replace hs_hd := y_Efld hE hY_this rfl (by decide) (by decide) hs_hd
      replace hn0 := y_Efld hE hY_hd rfl (by decide) (by decide) hn0
      replace hn1 := y_Efld hE hY_hd rfl (by decide) (by decide) hn1
      replace hn2 := y_Efld hE hY_hd rfl (by decide) (by decide) hn2
      replace hs_adone := y_Efld hE hY_hd rfl (by decide) (by decide) hs_adone
      replace hs_astones := y_Efld hE hY_hd rfl (by decide) (by decide) hs_astones
      replace hA_adone := hA_adone.kept (y_Earr hE hY_adone rfl (by decide))
      replace hL := hL.E hY_hd hE (fun q u h => y_ext hx_ hI.1 h) (by decide +kernel)
      replace hF := fun b u g9 (hb : Y0 b = some u) (h42 : u ≠ 42) (hg9 : x_G[u]? = some g9) (hn : b ≠ hd) (hk9 : ∀ k, k < 16 → x_sl D 2 k hd s.heap ≠ some (.ref b)) => x_eq.trans (x_eq.E42 hE (y_mon B hI _ _ hb) hg9 h42 rfl) (hF b u g9 hb h42 hg9 hn hk9)
      replace hfld : z_fld D hd s.heap _ := fun k a b c d => ((x_eq.E42 (g := x_G[2]) hE hY_hd rfl (by decide) rfl) k a).trans (hfld k a b c d)
      replace hY_this := y_ext hx_ hI.1 hY_this
      replace hY_hd := y_ext hx_ hI.1 hY_hd
      replace hY_adone := y_ext hx_ hI.1 hY_adone
      replace hY_astones := y_ext hx_ hI.1 hY_astones
      replace hYz := y_ext hx_ hI.1 hYz
      obtain ⟨r20, rfl, h_r20⟩ := y_ansI (lo := 1) (hi := 1) (by decide) ho hr
      clear ho hr ha hE hP hI hx_
      rename x_I _ _ _ _ _ _ _ _ _ _ => hI
      refine lv_if_ne hx hb Twk_d23 (tgt := 33) (by decide) (fun q23 => ?_) (fun q23 => ?_)
      · have q23_ : ¬ r20.toInt = (0 : Int32).toInt := fun q => q23 (Int32.toInt_inj.mp q)
        have hok : m_wOk f x := by first | exact ⟨hw1, fun q9 => by omega⟩ | (exfalso; omega)
        refine lv_iload_n hx hb Twk_d33 rfl (lv_at hl 2 rfl) ?_
        refine lv_if_eq hx hb Twk_d34 (tgt := 41) (by decide) (fun q34 => ?_) (fun q34 => ?_)
        · have q34_ : d.toInt = (0 : Int32).toInt := by rw [q34]
          refine lv_iconst hx hb Twk_d41 (v := 0) (by decide) ?_
          refine lv_istore_n hx hb Twk_d42 rfl hl (by decide) (lv' := [(3, .int (0 : Int32)), (0, .ref this), (1, .int x), (2, .int d)]) rfl fun ls hl => ?_
          refine lv_aload_n hx hb Twk_d43 rfl (lv_at hl 1 rfl) ?_
          refine y_getf X (fl8 X.2.2.2.2.1) hI.1 hY_this rfl hs_hd Twk_d44 ?_
          refine y_getf X (fl46 X.2.2.2.2.1) hI.1 hY_hd rfl hs_adone Twk_d47 ?_
          refine lv_iload_n hx hb Twk_d50 rfl (lv_at hl 2 rfl) ?_
          refine y_iald X hI.1 hY_adone rfl hA_adone (by omega) (by show _ < (8 : Int); omega) Twk_d51 ?_
          obtain ⟨e51, hg_e51⟩ : ∃ e51 : Int32, f (65 + 7 * x.toInt.toNat) = e51 := ⟨_, rfl⟩
          rw [hg_e51]
          refine lv_iload_n hx hb Twk_d52 rfl (lv_at hl 0 rfl) ?_
          refine lv_icmp_ne hx hb Twk_d53 (tgt := 63) (by decide) (fun q53 => ?_) (fun q53 => ?_)
          · have q53_ : ¬ e51.toInt = (0 : Int32).toInt := fun q => q53 (Int32.toInt_inj.mp q)
            refine lv_aload_n hx hb Twk_d63 rfl (lv_at hl 1 rfl) ?_
            refine y_getf X (fl8 X.2.2.2.2.1) hI.1 hY_this rfl hs_hd Twk_d64 ?_
            refine y_getf X (fl46 X.2.2.2.2.1) hI.1 hY_hd rfl hs_adone Twk_d67 ?_
            refine lv_iload_n hx hb Twk_d70 rfl (lv_at hl 2 rfl) ?_
            refine lv_iload_n hx hb Twk_d71 rfl (lv_at hl 0 rfl) ?_
            have hs_old := hs_adone
            have hA_old := hA_adone
            refine y_iast X hY0 hI hY_adone rfl hA_adone (by omega) (by show _ < (8 : Int); omega) ⟨_, rfl, x_i32 _⟩ (by decide +kernel) Twk_d72 fun H locs hI h_new ho => ?_
            replace hA_adone := h_new
            generalize hf_f72 : y_up (fun j => f (65 + 7 * j)) x.toInt.toNat (0 : Int32) = f72 at hA_adone
            replace hs_hd := y_slk hs_hd (ho _ (y_ne hY_this hY_adone rfl))
            replace hn0 := y_slk hn0 (ho _ (y_ne hY_hd hY_adone rfl))
            replace hn1 := y_slk hn1 (ho _ (y_ne hY_hd hY_adone rfl))
            replace hn2 := y_slk hn2 (ho _ (y_ne hY_hd hY_adone rfl))
            replace hs_adone := y_slk hs_adone (ho _ (y_ne hY_hd hY_adone rfl))
            replace hs_astones := y_slk hs_astones (ho _ (y_ne hY_hd hY_adone rfl))
            replace hL := hL.putA (c := (8, 25, 8, 65, 7)) (N := 8) hY_hd (by decide) rfl (by omega) hs_old hA_old h_new ho
            replace hF := fun b u g9 (hb : Y0 b = some u) (h42 : u ≠ 42) (hg9 : x_G[u]? = some g9) (hn : b ≠ hd) (hk9 : ∀ k, k < 16 → x_sl D 2 k hd s.heap ≠ some (.ref b)) => x_eq.trans (x_eq.of (ho b (fun e0 => hk9 8 (by decide) (by rw [e0]; exact hs0_adone)))) (hF b u g9 hb h42 hg9 hn hk9)
            replace hfld : z_fld D hd s.heap _ := fun k a b c d => (y_slk rfl (ho _ (y_ne hY_hd hY_adone rfl))).trans (hfld k a b c d)
            refine lv_iconst hx hb Twk_d73 (v := 1) (by decide) ?_
            have ec1 : (1 : Int32).toInt = 1 := by decide
            have h_d : d = (0 : Int32) := Int32.toInt_inj.mp (by omega)
            exact y_ireturn B hI rfl rfl rfl List.mem_cons_self ⟨_, rfl, ⟨_, rfl, x_i32 _⟩⟩ (x_cs.mono B.2.2.2.2.2 (y_mon B hI)) (fun t' w0' w1' f' K' tt' nn' h1 h2 => by cases h1; cases h2.eqf hR0; exact ⟨_, _, rfl, h2.fin hYt0 hs0_hd hF hL hfld (y_mon B hI), fun q9 => absurd hok q9, fun _ q9 => absurd q9 (fun q8 => q53 (by rw [h_d] at q8; exact hg_e51.symm.trans q8)), fun _ _ => ⟨rfl, by rw [h_d]; rfl⟩⟩) (by exact Nat.le_of_ble_eq_true rfl) (by exact Nat.le_of_ble_eq_true rfl) Twk_d74
          · have q53_ : e51.toInt = (0 : Int32).toInt := by rw [q53]
            refine lv_aload_n hx hb Twk_d56 rfl (lv_at hl 1 rfl) ?_
            refine lv_bipush hx hb Twk_d57 (v := (-3)) (by decide) ?_
            have ecm3 : ((-3) : Int32).toInt = (-3) := by decide
            refine y_call (z := (0, 59, 2, some 0, xM8)) (av := [.ref this, .int ((-3) : Int32)]) (rest := []) (y_cokV (n := 1) (ci := 11) X ym_counted rfl rfl rfl (x_cons (x_bw19 7 rfl rfl) (x_cons (x_bw19 9 rfl rfl) (x_cons (x_at 1 (by decide +kernel) rfl) (x_cons (x_bw0 1 rfl rfl) x_nilm)))) (x_bw19 10 rfl rfl) (by decide +kernel) ⟨Nat.le_of_ble_eq_true rfl, Nat.le_of_ble_eq_true rfl⟩) hY0 hI rfl Twk_d59 hl.1 (Nat.le_of_ble_eq_true rfl) (Nat.le_of_ble_eq_true rfl) (Nat.le_of_ble_eq_true rfl) (y_cons (y_cref hY_this rfl) (y_cons ⟨_, rfl, x_i32 _⟩ y_nil)) rfl (y_recv rfl hY_this) trivial (y_sub_ef rfl) fun v Yn o Hn L ho hr ha hIn hx_ hE hP => ?_
            replace hs_hd := y_Efld hE hY_this rfl (by decide) (by decide) hs_hd
            replace hn0 := y_Efld hE hY_hd rfl (by decide) (by decide) hn0
            replace hn1 := y_Efld hE hY_hd rfl (by decide) (by decide) hn1
            replace hn2 := y_Efld hE hY_hd rfl (by decide) (by decide) hn2
            replace hs_adone := y_Efld hE hY_hd rfl (by decide) (by decide) hs_adone
            replace hs_astones := y_Efld hE hY_hd rfl (by decide) (by decide) hs_astones
            replace hA_adone := hA_adone.kept (y_Earr hE hY_adone rfl (by decide))
            replace hL := hL.E hY_hd hE (fun q u h => y_ext hx_ hI.1 h) (by decide +kernel)
            replace hF := fun b u g9 (hb : Y0 b = some u) (h42 : u ≠ 42) (hg9 : x_G[u]? = some g9) (hn : b ≠ hd) (hk9 : ∀ k, k < 16 → x_sl D 2 k hd s.heap ≠ some (.ref b)) => x_eq.trans (x_eq.E42 hE (y_mon B hI _ _ hb) hg9 h42 rfl) (hF b u g9 hb h42 hg9 hn hk9)
            replace hfld : z_fld D hd s.heap _ := fun k a b c d => ((x_eq.E42 (g := x_G[2]) hE hY_hd rfl (by decide) rfl) k a).trans (hfld k a b c d)
            replace hY_this := y_ext hx_ hI.1 hY_this
            replace hY_hd := y_ext hx_ hI.1 hY_hd
            replace hY_adone := y_ext hx_ hI.1 hY_adone
            replace hY_astones := y_ext hx_ hI.1 hY_astones
            replace hYz := y_ext hx_ hI.1 hYz
            obtain rfl := hP _ _ rfl
            clear ho hr ha hE hP hI hx_
            rename x_I _ _ _ _ _ _ _ _ _ _ => hI
            have h_d : d = (0 : Int32) := Int32.toInt_inj.mp (by omega)
            exact y_ireturn B hI rfl rfl rfl List.mem_cons_self ⟨_, rfl, ⟨_, rfl, x_i32 _⟩⟩ (x_cs.mono B.2.2.2.2.2 (y_mon B hI)) (fun t' w0' w1' f' K' tt' nn' h1 h2 => by cases h1; cases h2.eqf hR0; exact ⟨_, _, rfl, h2.fin hYt0 hs0_hd hF hL hfld (y_mon B hI), fun q9 => absurd hok q9, fun _ _ => ⟨rfl, rfl⟩, fun _ q9 => absurd (show f (65 + 7 * x.toInt.toNat) = d by rw [h_d]; exact hg_e51.trans q53) q9⟩) (by exact Nat.le_of_ble_eq_true rfl) (by exact Nat.le_of_ble_eq_true rfl) Twk_d62
        · have q34_ : ¬ d.toInt = (0 : Int32).toInt := fun q => q34 (Int32.toInt_inj.mp q)
          refine lv_iconst hx hb Twk_d37 (v := 1) (by decide) ?_
          have ec1 : (1 : Int32).toInt = 1 := by decide
          refine lv_goto hx hb Twk_d38 (tgt := 42) (by decide) ?_
          refine lv_istore_n hx hb Twk_d42 rfl hl (by decide) (lv' := [(3, .int (1 : Int32)), (0, .ref this), (1, .int x), (2, .int d)]) rfl fun ls hl => ?_
          refine lv_aload_n hx hb Twk_d43 rfl (lv_at hl 1 rfl) ?_
          refine y_getf X (fl8 X.2.2.2.2.1) hI.1 hY_this rfl hs_hd Twk_d44 ?_
          refine y_getf X (fl46 X.2.2.2.2.1) hI.1 hY_hd rfl hs_adone Twk_d47 ?_
          refine lv_iload_n hx hb Twk_d50 rfl (lv_at hl 2 rfl) ?_
          refine y_iald X hI.1 hY_adone rfl hA_adone (by omega) (by show _ < (8 : Int); omega) Twk_d51 ?_
          obtain ⟨e51, hg_e51⟩ : ∃ e51 : Int32, f (65 + 7 * x.toInt.toNat) = e51 := ⟨_, rfl⟩
          rw [hg_e51]
          refine lv_iload_n hx hb Twk_d52 rfl (lv_at hl 0 rfl) ?_
          refine lv_icmp_ne hx hb Twk_d53 (tgt := 63) (by decide) (fun q53 => ?_) (fun q53 => ?_)
          · have q53_ : ¬ e51.toInt = (1 : Int32).toInt := fun q => q53 (Int32.toInt_inj.mp q)
            refine lv_aload_n hx hb Twk_d63 rfl (lv_at hl 1 rfl) ?_
            refine y_getf X (fl8 X.2.2.2.2.1) hI.1 hY_this rfl hs_hd Twk_d64 ?_
            refine y_getf X (fl46 X.2.2.2.2.1) hI.1 hY_hd rfl hs_adone Twk_d67 ?_
            refine lv_iload_n hx hb Twk_d70 rfl (lv_at hl 2 rfl) ?_
            refine lv_iload_n hx hb Twk_d71 rfl (lv_at hl 0 rfl) ?_
            have hs_old := hs_adone
            have hA_old := hA_adone
            refine y_iast X hY0 hI hY_adone rfl hA_adone (by omega) (by show _ < (8 : Int); omega) ⟨_, rfl, x_i32 _⟩ (by decide +kernel) Twk_d72 fun H locs hI h_new ho => ?_
            replace hA_adone := h_new
            generalize hf_f72 : y_up (fun j => f (65 + 7 * j)) x.toInt.toNat (1 : Int32) = f72 at hA_adone
            replace hs_hd := y_slk hs_hd (ho _ (y_ne hY_this hY_adone rfl))
            replace hn0 := y_slk hn0 (ho _ (y_ne hY_hd hY_adone rfl))
            replace hn1 := y_slk hn1 (ho _ (y_ne hY_hd hY_adone rfl))
            replace hn2 := y_slk hn2 (ho _ (y_ne hY_hd hY_adone rfl))
            replace hs_adone := y_slk hs_adone (ho _ (y_ne hY_hd hY_adone rfl))
            replace hs_astones := y_slk hs_astones (ho _ (y_ne hY_hd hY_adone rfl))
            replace hL := hL.putA (c := (8, 25, 8, 65, 7)) (N := 8) hY_hd (by decide) rfl (by omega) hs_old hA_old h_new ho
            replace hF := fun b u g9 (hb : Y0 b = some u) (h42 : u ≠ 42) (hg9 : x_G[u]? = some g9) (hn : b ≠ hd) (hk9 : ∀ k, k < 16 → x_sl D 2 k hd s.heap ≠ some (.ref b)) => x_eq.trans (x_eq.of (ho b (fun e0 => hk9 8 (by decide) (by rw [e0]; exact hs0_adone)))) (hF b u g9 hb h42 hg9 hn hk9)
            replace hfld : z_fld D hd s.heap _ := fun k a b c d => (y_slk rfl (ho _ (y_ne hY_hd hY_adone rfl))).trans (hfld k a b c d)
            refine lv_iconst hx hb Twk_d73 (v := 1) (by decide) ?_
            have h_d : d = (1 : Int32) := Int32.toInt_inj.mp (by omega)
            exact y_ireturn B hI rfl rfl rfl List.mem_cons_self ⟨_, rfl, ⟨_, rfl, x_i32 _⟩⟩ (x_cs.mono B.2.2.2.2.2 (y_mon B hI)) (fun t' w0' w1' f' K' tt' nn' h1 h2 => by cases h1; cases h2.eqf hR0; exact ⟨_, _, rfl, h2.fin hYt0 hs0_hd hF hL hfld (y_mon B hI), fun q9 => absurd hok q9, fun _ q9 => absurd q9 (fun q8 => q53 (by rw [h_d] at q8; exact hg_e51.symm.trans q8)), fun _ _ => ⟨rfl, by rw [h_d]; rfl⟩⟩) (by exact Nat.le_of_ble_eq_true rfl) (by exact Nat.le_of_ble_eq_true rfl) Twk_d74
          · have q53_ : e51.toInt = (1 : Int32).toInt := by rw [q53]
            refine lv_aload_n hx hb Twk_d56 rfl (lv_at hl 1 rfl) ?_
            refine lv_bipush hx hb Twk_d57 (v := (-3)) (by decide) ?_
            have ecm3 : ((-3) : Int32).toInt = (-3) := by decide
            refine y_call (z := (0, 59, 2, some 0, xM8)) (av := [.ref this, .int ((-3) : Int32)]) (rest := []) (y_cokV (n := 1) (ci := 11) X ym_counted rfl rfl rfl (x_cons (x_bw19 7 rfl rfl) (x_cons (x_bw19 9 rfl rfl) (x_cons (x_at 1 (by decide +kernel) rfl) (x_cons (x_bw0 1 rfl rfl) x_nilm)))) (x_bw19 10 rfl rfl) (by decide +kernel) ⟨Nat.le_of_ble_eq_true rfl, Nat.le_of_ble_eq_true rfl⟩) hY0 hI rfl Twk_d59 hl.1 (Nat.le_of_ble_eq_true rfl) (Nat.le_of_ble_eq_true rfl) (Nat.le_of_ble_eq_true rfl) (y_cons (y_cref hY_this rfl) (y_cons ⟨_, rfl, x_i32 _⟩ y_nil)) rfl (y_recv rfl hY_this) trivial (y_sub_ef rfl) fun v Yn o Hn L ho hr ha hIn hx_ hE hP => ?_
            replace hs_hd := y_Efld hE hY_this rfl (by decide) (by decide) hs_hd
            replace hn0 := y_Efld hE hY_hd rfl (by decide) (by decide) hn0
            replace hn1 := y_Efld hE hY_hd rfl (by decide) (by decide) hn1
            replace hn2 := y_Efld hE hY_hd rfl (by decide) (by decide) hn2
            replace hs_adone := y_Efld hE hY_hd rfl (by decide) (by decide) hs_adone
            replace hs_astones := y_Efld hE hY_hd rfl (by decide) (by decide) hs_astones
            replace hA_adone := hA_adone.kept (y_Earr hE hY_adone rfl (by decide))
            replace hL := hL.E hY_hd hE (fun q u h => y_ext hx_ hI.1 h) (by decide +kernel)
            replace hF := fun b u g9 (hb : Y0 b = some u) (h42 : u ≠ 42) (hg9 : x_G[u]? = some g9) (hn : b ≠ hd) (hk9 : ∀ k, k < 16 → x_sl D 2 k hd s.heap ≠ some (.ref b)) => x_eq.trans (x_eq.E42 hE (y_mon B hI _ _ hb) hg9 h42 rfl) (hF b u g9 hb h42 hg9 hn hk9)
            replace hfld : z_fld D hd s.heap _ := fun k a b c d => ((x_eq.E42 (g := x_G[2]) hE hY_hd rfl (by decide) rfl) k a).trans (hfld k a b c d)
            replace hY_this := y_ext hx_ hI.1 hY_this
            replace hY_hd := y_ext hx_ hI.1 hY_hd
            replace hY_adone := y_ext hx_ hI.1 hY_adone
            replace hY_astones := y_ext hx_ hI.1 hY_astones
            replace hYz := y_ext hx_ hI.1 hYz
            obtain rfl := hP _ _ rfl
            clear ho hr ha hE hP hI hx_
            rename x_I _ _ _ _ _ _ _ _ _ _ => hI
            have h_d : d = (1 : Int32) := Int32.toInt_inj.mp (by omega)
            exact y_ireturn B hI rfl rfl rfl List.mem_cons_self ⟨_, rfl, ⟨_, rfl, x_i32 _⟩⟩ (x_cs.mono B.2.2.2.2.2 (y_mon B hI)) (fun t' w0' w1' f' K' tt' nn' h1 h2 => by cases h1; cases h2.eqf hR0; exact ⟨_, _, rfl, h2.fin hYt0 hs0_hd hF hL hfld (y_mon B hI), fun q9 => absurd hok q9, fun _ _ => ⟨rfl, rfl⟩, fun _ q9 => absurd (show f (65 + 7 * x.toInt.toNat) = d by rw [h_d]; exact hg_e51.trans q53) q9⟩) (by exact Nat.le_of_ble_eq_true rfl) (by exact Nat.le_of_ble_eq_true rfl) Twk_d62
      · have q23_ : r20.toInt = (0 : Int32).toInt := by rw [q23]
        have hno : ¬ m_wOk f x := fun q9 => by first | exact hout_r5 (by assumption) q9.1 | exact q9.2 (by omega) | (exfalso; omega)
        refine lv_aload_n hx hb Twk_d26 rfl (lv_at hl 0 rfl) ?_
        refine lv_bipush hx hb Twk_d27 (v := (-2)) (by decide) ?_
        have ecm2 : ((-2) : Int32).toInt = (-2) := by decide
        refine y_call (z := (0, 59, 2, some 0, xM8)) (av := [.ref this, .int ((-2) : Int32)]) (rest := []) (y_cokV (n := 1) (ci := 11) X ym_counted rfl rfl rfl (x_cons (x_bw19 7 rfl rfl) (x_cons (x_bw19 9 rfl rfl) (x_cons (x_at 1 (by decide +kernel) rfl) (x_cons (x_bw0 1 rfl rfl) x_nilm)))) (x_bw19 10 rfl rfl) (by decide +kernel) ⟨Nat.le_of_ble_eq_true rfl, Nat.le_of_ble_eq_true rfl⟩) hY0 hI rfl Twk_d29 hl.1 (Nat.le_of_ble_eq_true rfl) (Nat.le_of_ble_eq_true rfl) (Nat.le_of_ble_eq_true rfl) (y_cons (y_cref hY_this rfl) (y_cons ⟨_, rfl, x_i32 _⟩ y_nil)) rfl (y_recv rfl hY_this) trivial (y_sub_ef rfl) fun v Yn o Hn L ho hr ha hIn hx_ hE hP => ?_
        replace hs_hd := y_Efld hE hY_this rfl (by decide) (by decide) hs_hd
        replace hn0 := y_Efld hE hY_hd rfl (by decide) (by decide) hn0
        replace hn1 := y_Efld hE hY_hd rfl (by decide) (by decide) hn1
        replace hn2 := y_Efld hE hY_hd rfl (by decide) (by decide) hn2
        replace hs_adone := y_Efld hE hY_hd rfl (by decide) (by decide) hs_adone
        replace hs_astones := y_Efld hE hY_hd rfl (by decide) (by decide) hs_astones
        replace hA_adone := hA_adone.kept (y_Earr hE hY_adone rfl (by decide))
        replace hL := hL.E hY_hd hE (fun q u h => y_ext hx_ hI.1 h) (by decide +kernel)
        replace hF := fun b u g9 (hb : Y0 b = some u) (h42 : u ≠ 42) (hg9 : x_G[u]? = some g9) (hn : b ≠ hd) (hk9 : ∀ k, k < 16 → x_sl D 2 k hd s.heap ≠ some (.ref b)) => x_eq.trans (x_eq.E42 hE (y_mon B hI _ _ hb) hg9 h42 rfl) (hF b u g9 hb h42 hg9 hn hk9)
        replace hfld : z_fld D hd s.heap _ := fun k a b c d => ((x_eq.E42 (g := x_G[2]) hE hY_hd rfl (by decide) rfl) k a).trans (hfld k a b c d)
        replace hY_this := y_ext hx_ hI.1 hY_this
        replace hY_hd := y_ext hx_ hI.1 hY_hd
        replace hY_adone := y_ext hx_ hI.1 hY_adone
        replace hY_astones := y_ext hx_ hI.1 hY_astones
        replace hYz := y_ext hx_ hI.1 hYz
        obtain rfl := hP _ _ rfl
        clear ho hr ha hE hP hI hx_
        rename x_I _ _ _ _ _ _ _ _ _ _ => hI
        exact y_ireturn B hI rfl rfl rfl List.mem_cons_self ⟨_, rfl, ⟨_, rfl, x_i32 _⟩⟩ (x_cs.mono B.2.2.2.2.2 (y_mon B hI)) (fun t' w0' w1' f' K' tt' nn' h1 h2 => by cases h1; cases h2.eqf hR0; exact ⟨_, _, rfl, h2.fin hYt0 hs0_hd hF hL hfld (y_mon B hI), fun _ => ⟨rfl, rfl⟩, fun q9 => absurd q9 hno, fun q9 => absurd q9 hno⟩) (by exact Nat.le_of_ble_eq_true rfl) (by exact Nat.le_of_ble_eq_true rfl) Twk_d32
    · replace hYz : _ = some 14 := hYz
      replace hk9 : ((14 : Nat) : Int) = 11 + (f (60 + 7 * x.toInt.toNat)).toInt := hk9
      refine y_call (z := (0, 79, 1, some 14, xM27)) (av := [.ref sn]) (rest := []) (y_cok.of (x_cokO (ci := 1) (x := ⟨"TwinFires$Stone", "isWorkable", "()Z"⟩) (b0 := prog_8_method_3_code) (m0 := 1) (r0 := some .boolean) X xm27 rfl rfl (x_bw26 5 rfl rfl) (x_cons (x_bw25 8 rfl rfl) (x_cons (x_bw25 11 rfl rfl) (x_cons (x_bw25 9 rfl rfl) (x_cons (x_bw25 12 rfl rfl) (x_cons (x_bw25 13 rfl rfl) (x_cons (x_bw0 10 rfl rfl) x_nilm)))))) (x_bw25 14 rfl rfl) (by decide +kernel) ⟨Nat.le_of_ble_eq_true rfl, Nat.le_of_ble_eq_true rfl⟩)) hY0 hI rfl Twk_d20 hl.1 (Nat.le_of_ble_eq_true rfl) (Nat.le_of_ble_eq_true rfl) (Nat.le_of_ble_eq_true rfl) (y_cons (y_cref hYz rfl) y_nil) rfl (y_recv rfl hYz) trivial (y_sub_ef rfl) fun v Yn o Hn L ho hr ha hIn hx_ hE hP => ?_
      replace hs_hd := y_Efld hE hY_this rfl (by decide) (by decide) hs_hd
      replace hn0 := y_Efld hE hY_hd rfl (by decide) (by decide) hn0
      replace hn1 := y_Efld hE hY_hd rfl (by decide) (by decide) hn1
      replace hn2 := y_Efld hE hY_hd rfl (by decide) (by decide) hn2
      replace hs_adone := y_Efld hE hY_hd rfl (by decide) (by decide) hs_adone
      replace hs_astones := y_Efld hE hY_hd rfl (by decide) (by decide) hs_astones
      replace hA_adone := hA_adone.kept (y_Earr hE hY_adone rfl (by decide))
      replace hL := hL.E hY_hd hE (fun q u h => y_ext hx_ hI.1 h) (by decide +kernel)
      replace hF := fun b u g9 (hb : Y0 b = some u) (h42 : u ≠ 42) (hg9 : x_G[u]? = some g9) (hn : b ≠ hd) (hk9 : ∀ k, k < 16 → x_sl D 2 k hd s.heap ≠ some (.ref b)) => x_eq.trans (x_eq.E42 hE (y_mon B hI _ _ hb) hg9 h42 rfl) (hF b u g9 hb h42 hg9 hn hk9)
      replace hfld : z_fld D hd s.heap _ := fun k a b c d => ((x_eq.E42 (g := x_G[2]) hE hY_hd rfl (by decide) rfl) k a).trans (hfld k a b c d)
      replace hY_this := y_ext hx_ hI.1 hY_this
      replace hY_hd := y_ext hx_ hI.1 hY_hd
      replace hY_adone := y_ext hx_ hI.1 hY_adone
      replace hY_astones := y_ext hx_ hI.1 hY_astones
      replace hYz := y_ext hx_ hI.1 hYz
      obtain ⟨r20, rfl, h_r20⟩ := y_ansI (lo := 1) (hi := 1) (by decide) ho hr
      clear ho hr ha hE hP hI hx_
      rename x_I _ _ _ _ _ _ _ _ _ _ => hI
      refine lv_if_ne hx hb Twk_d23 (tgt := 33) (by decide) (fun q23 => ?_) (fun q23 => ?_)
      · have q23_ : ¬ r20.toInt = (0 : Int32).toInt := fun q => q23 (Int32.toInt_inj.mp q)
        have hok : m_wOk f x := by first | exact ⟨hw1, fun q9 => by omega⟩ | (exfalso; omega)
        refine lv_iload_n hx hb Twk_d33 rfl (lv_at hl 2 rfl) ?_
        refine lv_if_eq hx hb Twk_d34 (tgt := 41) (by decide) (fun q34 => ?_) (fun q34 => ?_)
        · have q34_ : d.toInt = (0 : Int32).toInt := by rw [q34]
          refine lv_iconst hx hb Twk_d41 (v := 0) (by decide) ?_
          refine lv_istore_n hx hb Twk_d42 rfl hl (by decide) (lv' := [(3, .int (0 : Int32)), (0, .ref this), (1, .int x), (2, .int d)]) rfl fun ls hl => ?_
          refine lv_aload_n hx hb Twk_d43 rfl (lv_at hl 1 rfl) ?_
          refine y_getf X (fl8 X.2.2.2.2.1) hI.1 hY_this rfl hs_hd Twk_d44 ?_
          refine y_getf X (fl46 X.2.2.2.2.1) hI.1 hY_hd rfl hs_adone Twk_d47 ?_
          refine lv_iload_n hx hb Twk_d50 rfl (lv_at hl 2 rfl) ?_
          refine y_iald X hI.1 hY_adone rfl hA_adone (by omega) (by show _ < (8 : Int); omega) Twk_d51 ?_
          obtain ⟨e51, hg_e51⟩ : ∃ e51 : Int32, f (65 + 7 * x.toInt.toNat) = e51 := ⟨_, rfl⟩
          rw [hg_e51]
          refine lv_iload_n hx hb Twk_d52 rfl (lv_at hl 0 rfl) ?_
          refine lv_icmp_ne hx hb Twk_d53 (tgt := 63) (by decide) (fun q53 => ?_) (fun q53 => ?_)
          · have q53_ : ¬ e51.toInt = (0 : Int32).toInt := fun q => q53 (Int32.toInt_inj.mp q)
            refine lv_aload_n hx hb Twk_d63 rfl (lv_at hl 1 rfl) ?_
            refine y_getf X (fl8 X.2.2.2.2.1) hI.1 hY_this rfl hs_hd Twk_d64 ?_
            refine y_getf X (fl46 X.2.2.2.2.1) hI.1 hY_hd rfl hs_adone Twk_d67 ?_
            refine lv_iload_n hx hb Twk_d70 rfl (lv_at hl 2 rfl) ?_
            refine lv_iload_n hx hb Twk_d71 rfl (lv_at hl 0 rfl) ?_
            have hs_old := hs_adone
            have hA_old := hA_adone
            refine y_iast X hY0 hI hY_adone rfl hA_adone (by omega) (by show _ < (8 : Int); omega) ⟨_, rfl, x_i32 _⟩ (by decide +kernel) Twk_d72 fun H locs hI h_new ho => ?_
            replace hA_adone := h_new
            generalize hf_f72 : y_up (fun j => f (65 + 7 * j)) x.toInt.toNat (0 : Int32) = f72 at hA_adone
            replace hs_hd := y_slk hs_hd (ho _ (y_ne hY_this hY_adone rfl))
            replace hn0 := y_slk hn0 (ho _ (y_ne hY_hd hY_adone rfl))
            replace hn1 := y_slk hn1 (ho _ (y_ne hY_hd hY_adone rfl))
            replace hn2 := y_slk hn2 (ho _ (y_ne hY_hd hY_adone rfl))
            replace hs_adone := y_slk hs_adone (ho _ (y_ne hY_hd hY_adone rfl))
            replace hs_astones := y_slk hs_astones (ho _ (y_ne hY_hd hY_adone rfl))
            replace hL := hL.putA (c := (8, 25, 8, 65, 7)) (N := 8) hY_hd (by decide) rfl (by omega) hs_old hA_old h_new ho
            replace hF := fun b u g9 (hb : Y0 b = some u) (h42 : u ≠ 42) (hg9 : x_G[u]? = some g9) (hn : b ≠ hd) (hk9 : ∀ k, k < 16 → x_sl D 2 k hd s.heap ≠ some (.ref b)) => x_eq.trans (x_eq.of (ho b (fun e0 => hk9 8 (by decide) (by rw [e0]; exact hs0_adone)))) (hF b u g9 hb h42 hg9 hn hk9)
            replace hfld : z_fld D hd s.heap _ := fun k a b c d => (y_slk rfl (ho _ (y_ne hY_hd hY_adone rfl))).trans (hfld k a b c d)
            refine lv_iconst hx hb Twk_d73 (v := 1) (by decide) ?_
            have ec1 : (1 : Int32).toInt = 1 := by decide
            have h_d : d = (0 : Int32) := Int32.toInt_inj.mp (by omega)
            exact y_ireturn B hI rfl rfl rfl List.mem_cons_self ⟨_, rfl, ⟨_, rfl, x_i32 _⟩⟩ (x_cs.mono B.2.2.2.2.2 (y_mon B hI)) (fun t' w0' w1' f' K' tt' nn' h1 h2 => by cases h1; cases h2.eqf hR0; exact ⟨_, _, rfl, h2.fin hYt0 hs0_hd hF hL hfld (y_mon B hI), fun q9 => absurd hok q9, fun _ q9 => absurd q9 (fun q8 => q53 (by rw [h_d] at q8; exact hg_e51.symm.trans q8)), fun _ _ => ⟨rfl, by rw [h_d]; rfl⟩⟩) (by exact Nat.le_of_ble_eq_true rfl) (by exact Nat.le_of_ble_eq_true rfl) Twk_d74
          · have q53_ : e51.toInt = (0 : Int32).toInt := by rw [q53]
            refine lv_aload_n hx hb Twk_d56 rfl (lv_at hl 1 rfl) ?_
            refine lv_bipush hx hb Twk_d57 (v := (-3)) (by decide) ?_
            have ecm3 : ((-3) : Int32).toInt = (-3) := by decide
            refine y_call (z := (0, 59, 2, some 0, xM8)) (av := [.ref this, .int ((-3) : Int32)]) (rest := []) (y_cokV (n := 1) (ci := 11) X ym_counted rfl rfl rfl (x_cons (x_bw19 7 rfl rfl) (x_cons (x_bw19 9 rfl rfl) (x_cons (x_at 1 (by decide +kernel) rfl) (x_cons (x_bw0 1 rfl rfl) x_nilm)))) (x_bw19 10 rfl rfl) (by decide +kernel) ⟨Nat.le_of_ble_eq_true rfl, Nat.le_of_ble_eq_true rfl⟩) hY0 hI rfl Twk_d59 hl.1 (Nat.le_of_ble_eq_true rfl) (Nat.le_of_ble_eq_true rfl) (Nat.le_of_ble_eq_true rfl) (y_cons (y_cref hY_this rfl) (y_cons ⟨_, rfl, x_i32 _⟩ y_nil)) rfl (y_recv rfl hY_this) trivial (y_sub_ef rfl) fun v Yn o Hn L ho hr ha hIn hx_ hE hP => ?_
            replace hs_hd := y_Efld hE hY_this rfl (by decide) (by decide) hs_hd
            replace hn0 := y_Efld hE hY_hd rfl (by decide) (by decide) hn0
            replace hn1 := y_Efld hE hY_hd rfl (by decide) (by decide) hn1
            replace hn2 := y_Efld hE hY_hd rfl (by decide) (by decide) hn2
            replace hs_adone := y_Efld hE hY_hd rfl (by decide) (by decide) hs_adone
            replace hs_astones := y_Efld hE hY_hd rfl (by decide) (by decide) hs_astones
            replace hA_adone := hA_adone.kept (y_Earr hE hY_adone rfl (by decide))
            replace hL := hL.E hY_hd hE (fun q u h => y_ext hx_ hI.1 h) (by decide +kernel)
            replace hF := fun b u g9 (hb : Y0 b = some u) (h42 : u ≠ 42) (hg9 : x_G[u]? = some g9) (hn : b ≠ hd) (hk9 : ∀ k, k < 16 → x_sl D 2 k hd s.heap ≠ some (.ref b)) => x_eq.trans (x_eq.E42 hE (y_mon B hI _ _ hb) hg9 h42 rfl) (hF b u g9 hb h42 hg9 hn hk9)
            replace hfld : z_fld D hd s.heap _ := fun k a b c d => ((x_eq.E42 (g := x_G[2]) hE hY_hd rfl (by decide) rfl) k a).trans (hfld k a b c d)
            replace hY_this := y_ext hx_ hI.1 hY_this
            replace hY_hd := y_ext hx_ hI.1 hY_hd
            replace hY_adone := y_ext hx_ hI.1 hY_adone
            replace hY_astones := y_ext hx_ hI.1 hY_astones
            replace hYz := y_ext hx_ hI.1 hYz
            obtain rfl := hP _ _ rfl
            clear ho hr ha hE hP hI hx_
            rename x_I _ _ _ _ _ _ _ _ _ _ => hI
            have h_d : d = (0 : Int32) := Int32.toInt_inj.mp (by omega)
            exact y_ireturn B hI rfl rfl rfl List.mem_cons_self ⟨_, rfl, ⟨_, rfl, x_i32 _⟩⟩ (x_cs.mono B.2.2.2.2.2 (y_mon B hI)) (fun t' w0' w1' f' K' tt' nn' h1 h2 => by cases h1; cases h2.eqf hR0; exact ⟨_, _, rfl, h2.fin hYt0 hs0_hd hF hL hfld (y_mon B hI), fun q9 => absurd hok q9, fun _ _ => ⟨rfl, rfl⟩, fun _ q9 => absurd (show f (65 + 7 * x.toInt.toNat) = d by rw [h_d]; exact hg_e51.trans q53) q9⟩) (by exact Nat.le_of_ble_eq_true rfl) (by exact Nat.le_of_ble_eq_true rfl) Twk_d62
        · have q34_ : ¬ d.toInt = (0 : Int32).toInt := fun q => q34 (Int32.toInt_inj.mp q)
          refine lv_iconst hx hb Twk_d37 (v := 1) (by decide) ?_
          have ec1 : (1 : Int32).toInt = 1 := by decide
          refine lv_goto hx hb Twk_d38 (tgt := 42) (by decide) ?_
          refine lv_istore_n hx hb Twk_d42 rfl hl (by decide) (lv' := [(3, .int (1 : Int32)), (0, .ref this), (1, .int x), (2, .int d)]) rfl fun ls hl => ?_
          refine lv_aload_n hx hb Twk_d43 rfl (lv_at hl 1 rfl) ?_
          refine y_getf X (fl8 X.2.2.2.2.1) hI.1 hY_this rfl hs_hd Twk_d44 ?_
          refine y_getf X (fl46 X.2.2.2.2.1) hI.1 hY_hd rfl hs_adone Twk_d47 ?_
          refine lv_iload_n hx hb Twk_d50 rfl (lv_at hl 2 rfl) ?_
          refine y_iald X hI.1 hY_adone rfl hA_adone (by omega) (by show _ < (8 : Int); omega) Twk_d51 ?_
          obtain ⟨e51, hg_e51⟩ : ∃ e51 : Int32, f (65 + 7 * x.toInt.toNat) = e51 := ⟨_, rfl⟩
          rw [hg_e51]
          refine lv_iload_n hx hb Twk_d52 rfl (lv_at hl 0 rfl) ?_
          refine lv_icmp_ne hx hb Twk_d53 (tgt := 63) (by decide) (fun q53 => ?_) (fun q53 => ?_)
          · have q53_ : ¬ e51.toInt = (1 : Int32).toInt := fun q => q53 (Int32.toInt_inj.mp q)
            refine lv_aload_n hx hb Twk_d63 rfl (lv_at hl 1 rfl) ?_
            refine y_getf X (fl8 X.2.2.2.2.1) hI.1 hY_this rfl hs_hd Twk_d64 ?_
            refine y_getf X (fl46 X.2.2.2.2.1) hI.1 hY_hd rfl hs_adone Twk_d67 ?_
            refine lv_iload_n hx hb Twk_d70 rfl (lv_at hl 2 rfl) ?_
            refine lv_iload_n hx hb Twk_d71 rfl (lv_at hl 0 rfl) ?_
            have hs_old := hs_adone
            have hA_old := hA_adone
            refine y_iast X hY0 hI hY_adone rfl hA_adone (by omega) (by show _ < (8 : Int); omega) ⟨_, rfl, x_i32 _⟩ (by decide +kernel) Twk_d72 fun H locs hI h_new ho => ?_
            replace hA_adone := h_new
            generalize hf_f72 : y_up (fun j => f (65 + 7 * j)) x.toInt.toNat (1 : Int32) = f72 at hA_adone
            replace hs_hd := y_slk hs_hd (ho _ (y_ne hY_this hY_adone rfl))
            replace hn0 := y_slk hn0 (ho _ (y_ne hY_hd hY_adone rfl))
            replace hn1 := y_slk hn1 (ho _ (y_ne hY_hd hY_adone rfl))
            replace hn2 := y_slk hn2 (ho _ (y_ne hY_hd hY_adone rfl))
            replace hs_adone := y_slk hs_adone (ho _ (y_ne hY_hd hY_adone rfl))
            replace hs_astones := y_slk hs_astones (ho _ (y_ne hY_hd hY_adone rfl))
            replace hL := hL.putA (c := (8, 25, 8, 65, 7)) (N := 8) hY_hd (by decide) rfl (by omega) hs_old hA_old h_new ho
            replace hF := fun b u g9 (hb : Y0 b = some u) (h42 : u ≠ 42) (hg9 : x_G[u]? = some g9) (hn : b ≠ hd) (hk9 : ∀ k, k < 16 → x_sl D 2 k hd s.heap ≠ some (.ref b)) => x_eq.trans (x_eq.of (ho b (fun e0 => hk9 8 (by decide) (by rw [e0]; exact hs0_adone)))) (hF b u g9 hb h42 hg9 hn hk9)
            replace hfld : z_fld D hd s.heap _ := fun k a b c d => (y_slk rfl (ho _ (y_ne hY_hd hY_adone rfl))).trans (hfld k a b c d)
            refine lv_iconst hx hb Twk_d73 (v := 1) (by decide) ?_
            have h_d : d = (1 : Int32) := Int32.toInt_inj.mp (by omega)
            exact y_ireturn B hI rfl rfl rfl List.mem_cons_self ⟨_, rfl, ⟨_, rfl, x_i32 _⟩⟩ (x_cs.mono B.2.2.2.2.2 (y_mon B hI)) (fun t' w0' w1' f' K' tt' nn' h1 h2 => by cases h1; cases h2.eqf hR0; exact ⟨_, _, rfl, h2.fin hYt0 hs0_hd hF hL hfld (y_mon B hI), fun q9 => absurd hok q9, fun _ q9 => absurd q9 (fun q8 => q53 (by rw [h_d] at q8; exact hg_e51.symm.trans q8)), fun _ _ => ⟨rfl, by rw [h_d]; rfl⟩⟩) (by exact Nat.le_of_ble_eq_true rfl) (by exact Nat.le_of_ble_eq_true rfl) Twk_d74
          · have q53_ : e51.toInt = (1 : Int32).toInt := by rw [q53]
            refine lv_aload_n hx hb Twk_d56 rfl (lv_at hl 1 rfl) ?_
            refine lv_bipush hx hb Twk_d57 (v := (-3)) (by decide) ?_
            have ecm3 : ((-3) : Int32).toInt = (-3) := by decide
            refine y_call (z := (0, 59, 2, some 0, xM8)) (av := [.ref this, .int ((-3) : Int32)]) (rest := []) (y_cokV (n := 1) (ci := 11) X ym_counted rfl rfl rfl (x_cons (x_bw19 7 rfl rfl) (x_cons (x_bw19 9 rfl rfl) (x_cons (x_at 1 (by decide +kernel) rfl) (x_cons (x_bw0 1 rfl rfl) x_nilm)))) (x_bw19 10 rfl rfl) (by decide +kernel) ⟨Nat.le_of_ble_eq_true rfl, Nat.le_of_ble_eq_true rfl⟩) hY0 hI rfl Twk_d59 hl.1 (Nat.le_of_ble_eq_true rfl) (Nat.le_of_ble_eq_true rfl) (Nat.le_of_ble_eq_true rfl) (y_cons (y_cref hY_this rfl) (y_cons ⟨_, rfl, x_i32 _⟩ y_nil)) rfl (y_recv rfl hY_this) trivial (y_sub_ef rfl) fun v Yn o Hn L ho hr ha hIn hx_ hE hP => ?_
            replace hs_hd := y_Efld hE hY_this rfl (by decide) (by decide) hs_hd
            replace hn0 := y_Efld hE hY_hd rfl (by decide) (by decide) hn0
            replace hn1 := y_Efld hE hY_hd rfl (by decide) (by decide) hn1
            replace hn2 := y_Efld hE hY_hd rfl (by decide) (by decide) hn2
            replace hs_adone := y_Efld hE hY_hd rfl (by decide) (by decide) hs_adone
            replace hs_astones := y_Efld hE hY_hd rfl (by decide) (by decide) hs_astones
            replace hA_adone := hA_adone.kept (y_Earr hE hY_adone rfl (by decide))
            replace hL := hL.E hY_hd hE (fun q u h => y_ext hx_ hI.1 h) (by decide +kernel)
            replace hF := fun b u g9 (hb : Y0 b = some u) (h42 : u ≠ 42) (hg9 : x_G[u]? = some g9) (hn : b ≠ hd) (hk9 : ∀ k, k < 16 → x_sl D 2 k hd s.heap ≠ some (.ref b)) => x_eq.trans (x_eq.E42 hE (y_mon B hI _ _ hb) hg9 h42 rfl) (hF b u g9 hb h42 hg9 hn hk9)
            replace hfld : z_fld D hd s.heap _ := fun k a b c d => ((x_eq.E42 (g := x_G[2]) hE hY_hd rfl (by decide) rfl) k a).trans (hfld k a b c d)
            replace hY_this := y_ext hx_ hI.1 hY_this
            replace hY_hd := y_ext hx_ hI.1 hY_hd
            replace hY_adone := y_ext hx_ hI.1 hY_adone
            replace hY_astones := y_ext hx_ hI.1 hY_astones
            replace hYz := y_ext hx_ hI.1 hYz
            obtain rfl := hP _ _ rfl
            clear ho hr ha hE hP hI hx_
            rename x_I _ _ _ _ _ _ _ _ _ _ => hI
            have h_d : d = (1 : Int32) := Int32.toInt_inj.mp (by omega)
            exact y_ireturn B hI rfl rfl rfl List.mem_cons_self ⟨_, rfl, ⟨_, rfl, x_i32 _⟩⟩ (x_cs.mono B.2.2.2.2.2 (y_mon B hI)) (fun t' w0' w1' f' K' tt' nn' h1 h2 => by cases h1; cases h2.eqf hR0; exact ⟨_, _, rfl, h2.fin hYt0 hs0_hd hF hL hfld (y_mon B hI), fun q9 => absurd hok q9, fun _ _ => ⟨rfl, rfl⟩, fun _ q9 => absurd (show f (65 + 7 * x.toInt.toNat) = d by rw [h_d]; exact hg_e51.trans q53) q9⟩) (by exact Nat.le_of_ble_eq_true rfl) (by exact Nat.le_of_ble_eq_true rfl) Twk_d62
      · have q23_ : r20.toInt = (0 : Int32).toInt := by rw [q23]
        have hno : ¬ m_wOk f x := fun q9 => by first | exact hout_r5 (by assumption) q9.1 | exact q9.2 (by omega) | (exfalso; omega)
        refine lv_aload_n hx hb Twk_d26 rfl (lv_at hl 0 rfl) ?_
        refine lv_bipush hx hb Twk_d27 (v := (-2)) (by decide) ?_
        have ecm2 : ((-2) : Int32).toInt = (-2) := by decide
        refine y_call (z := (0, 59, 2, some 0, xM8)) (av := [.ref this, .int ((-2) : Int32)]) (rest := []) (y_cokV (n := 1) (ci := 11) X ym_counted rfl rfl rfl (x_cons (x_bw19 7 rfl rfl) (x_cons (x_bw19 9 rfl rfl) (x_cons (x_at 1 (by decide +kernel) rfl) (x_cons (x_bw0 1 rfl rfl) x_nilm)))) (x_bw19 10 rfl rfl) (by decide +kernel) ⟨Nat.le_of_ble_eq_true rfl, Nat.le_of_ble_eq_true rfl⟩) hY0 hI rfl Twk_d29 hl.1 (Nat.le_of_ble_eq_true rfl) (Nat.le_of_ble_eq_true rfl) (Nat.le_of_ble_eq_true rfl) (y_cons (y_cref hY_this rfl) (y_cons ⟨_, rfl, x_i32 _⟩ y_nil)) rfl (y_recv rfl hY_this) trivial (y_sub_ef rfl) fun v Yn o Hn L ho hr ha hIn hx_ hE hP => ?_
        replace hs_hd := y_Efld hE hY_this rfl (by decide) (by decide) hs_hd
        replace hn0 := y_Efld hE hY_hd rfl (by decide) (by decide) hn0
        replace hn1 := y_Efld hE hY_hd rfl (by decide) (by decide) hn1
        replace hn2 := y_Efld hE hY_hd rfl (by decide) (by decide) hn2
        replace hs_adone := y_Efld hE hY_hd rfl (by decide) (by decide) hs_adone
        replace hs_astones := y_Efld hE hY_hd rfl (by decide) (by decide) hs_astones
        replace hA_adone := hA_adone.kept (y_Earr hE hY_adone rfl (by decide))
        replace hL := hL.E hY_hd hE (fun q u h => y_ext hx_ hI.1 h) (by decide +kernel)
        replace hF := fun b u g9 (hb : Y0 b = some u) (h42 : u ≠ 42) (hg9 : x_G[u]? = some g9) (hn : b ≠ hd) (hk9 : ∀ k, k < 16 → x_sl D 2 k hd s.heap ≠ some (.ref b)) => x_eq.trans (x_eq.E42 hE (y_mon B hI _ _ hb) hg9 h42 rfl) (hF b u g9 hb h42 hg9 hn hk9)
        replace hfld : z_fld D hd s.heap _ := fun k a b c d => ((x_eq.E42 (g := x_G[2]) hE hY_hd rfl (by decide) rfl) k a).trans (hfld k a b c d)
        replace hY_this := y_ext hx_ hI.1 hY_this
        replace hY_hd := y_ext hx_ hI.1 hY_hd
        replace hY_adone := y_ext hx_ hI.1 hY_adone
        replace hY_astones := y_ext hx_ hI.1 hY_astones
        replace hYz := y_ext hx_ hI.1 hYz
        obtain rfl := hP _ _ rfl
        clear ho hr ha hE hP hI hx_
        rename x_I _ _ _ _ _ _ _ _ _ _ => hI
        exact y_ireturn B hI rfl rfl rfl List.mem_cons_self ⟨_, rfl, ⟨_, rfl, x_i32 _⟩⟩ (x_cs.mono B.2.2.2.2.2 (y_mon B hI)) (fun t' w0' w1' f' K' tt' nn' h1 h2 => by cases h1; cases h2.eqf hR0; exact ⟨_, _, rfl, h2.fin hYt0 hs0_hd hF hL hfld (y_mon B hI), fun _ => ⟨rfl, rfl⟩, fun q9 => absurd q9 hno, fun q9 => absurd q9 hno⟩) (by exact Nat.le_of_ble_eq_true rfl) (by exact Nat.le_of_ble_eq_true rfl) Twk_d32
    · replace hYz : _ = some 15 := hYz
      replace hk9 : ((15 : Nat) : Int) = 11 + (f (60 + 7 * x.toInt.toNat)).toInt := hk9
      refine y_call (z := (0, 79, 1, some 15, xM27)) (av := [.ref sn]) (rest := []) (y_cok.of (x_cokO (ci := 8) (x := ⟨"TwinFires$Stone", "isWorkable", "()Z"⟩) (b0 := prog_8_method_3_code) (m0 := 1) (r0 := some .boolean) X xm27 rfl rfl (x_bw26 5 rfl rfl) (x_cons (x_bw25 8 rfl rfl) (x_cons (x_bw25 11 rfl rfl) (x_cons (x_bw25 9 rfl rfl) (x_cons (x_bw26 0 rfl rfl) (x_cons (x_bw25 13 rfl rfl) (x_cons (x_bw0 10 rfl rfl) x_nilm)))))) (x_bw25 14 rfl rfl) (by decide +kernel) ⟨Nat.le_of_ble_eq_true rfl, Nat.le_of_ble_eq_true rfl⟩)) hY0 hI rfl Twk_d20 hl.1 (Nat.le_of_ble_eq_true rfl) (Nat.le_of_ble_eq_true rfl) (Nat.le_of_ble_eq_true rfl) (y_cons (y_cref hYz rfl) y_nil) rfl (y_recv rfl hYz) trivial (y_sub_ef rfl) fun v Yn o Hn L ho hr ha hIn hx_ hE hP => ?_
      replace hs_hd := y_Efld hE hY_this rfl (by decide) (by decide) hs_hd
      replace hn0 := y_Efld hE hY_hd rfl (by decide) (by decide) hn0
      replace hn1 := y_Efld hE hY_hd rfl (by decide) (by decide) hn1
      replace hn2 := y_Efld hE hY_hd rfl (by decide) (by decide) hn2
      replace hs_adone := y_Efld hE hY_hd rfl (by decide) (by decide) hs_adone
      replace hs_astones := y_Efld hE hY_hd rfl (by decide) (by decide) hs_astones
      replace hA_adone := hA_adone.kept (y_Earr hE hY_adone rfl (by decide))
      replace hL := hL.E hY_hd hE (fun q u h => y_ext hx_ hI.1 h) (by decide +kernel)
      replace hF := fun b u g9 (hb : Y0 b = some u) (h42 : u ≠ 42) (hg9 : x_G[u]? = some g9) (hn : b ≠ hd) (hk9 : ∀ k, k < 16 → x_sl D 2 k hd s.heap ≠ some (.ref b)) => x_eq.trans (x_eq.E42 hE (y_mon B hI _ _ hb) hg9 h42 rfl) (hF b u g9 hb h42 hg9 hn hk9)
      replace hfld : z_fld D hd s.heap _ := fun k a b c d => ((x_eq.E42 (g := x_G[2]) hE hY_hd rfl (by decide) rfl) k a).trans (hfld k a b c d)
      replace hY_this := y_ext hx_ hI.1 hY_this
      replace hY_hd := y_ext hx_ hI.1 hY_hd
      replace hY_adone := y_ext hx_ hI.1 hY_adone
      replace hY_astones := y_ext hx_ hI.1 hY_astones
      replace hYz := y_ext hx_ hI.1 hYz
      obtain ⟨r20, rfl, h_r20⟩ := y_ansI (lo := 1) (hi := 1) (by decide) ho hr
      clear ho hr ha hE hP hI hx_
      rename x_I _ _ _ _ _ _ _ _ _ _ => hI
      refine lv_if_ne hx hb Twk_d23 (tgt := 33) (by decide) (fun q23 => ?_) (fun q23 => ?_)
      · have q23_ : ¬ r20.toInt = (0 : Int32).toInt := fun q => q23 (Int32.toInt_inj.mp q)
        have hok : m_wOk f x := by first | exact ⟨hw1, fun q9 => by omega⟩ | (exfalso; omega)
        refine lv_iload_n hx hb Twk_d33 rfl (lv_at hl 2 rfl) ?_
        refine lv_if_eq hx hb Twk_d34 (tgt := 41) (by decide) (fun q34 => ?_) (fun q34 => ?_)
        · have q34_ : d.toInt = (0 : Int32).toInt := by rw [q34]
          refine lv_iconst hx hb Twk_d41 (v := 0) (by decide) ?_
          refine lv_istore_n hx hb Twk_d42 rfl hl (by decide) (lv' := [(3, .int (0 : Int32)), (0, .ref this), (1, .int x), (2, .int d)]) rfl fun ls hl => ?_
          refine lv_aload_n hx hb Twk_d43 rfl (lv_at hl 1 rfl) ?_
          refine y_getf X (fl8 X.2.2.2.2.1) hI.1 hY_this rfl hs_hd Twk_d44 ?_
          refine y_getf X (fl46 X.2.2.2.2.1) hI.1 hY_hd rfl hs_adone Twk_d47 ?_
          refine lv_iload_n hx hb Twk_d50 rfl (lv_at hl 2 rfl) ?_
          refine y_iald X hI.1 hY_adone rfl hA_adone (by omega) (by show _ < (8 : Int); omega) Twk_d51 ?_
          obtain ⟨e51, hg_e51⟩ : ∃ e51 : Int32, f (65 + 7 * x.toInt.toNat) = e51 := ⟨_, rfl⟩
          rw [hg_e51]
          refine lv_iload_n hx hb Twk_d52 rfl (lv_at hl 0 rfl) ?_
          refine lv_icmp_ne hx hb Twk_d53 (tgt := 63) (by decide) (fun q53 => ?_) (fun q53 => ?_)
          · have q53_ : ¬ e51.toInt = (0 : Int32).toInt := fun q => q53 (Int32.toInt_inj.mp q)
            refine lv_aload_n hx hb Twk_d63 rfl (lv_at hl 1 rfl) ?_
            refine y_getf X (fl8 X.2.2.2.2.1) hI.1 hY_this rfl hs_hd Twk_d64 ?_
            refine y_getf X (fl46 X.2.2.2.2.1) hI.1 hY_hd rfl hs_adone Twk_d67 ?_
            refine lv_iload_n hx hb Twk_d70 rfl (lv_at hl 2 rfl) ?_
            refine lv_iload_n hx hb Twk_d71 rfl (lv_at hl 0 rfl) ?_
            have hs_old := hs_adone
            have hA_old := hA_adone
            refine y_iast X hY0 hI hY_adone rfl hA_adone (by omega) (by show _ < (8 : Int); omega) ⟨_, rfl, x_i32 _⟩ (by decide +kernel) Twk_d72 fun H locs hI h_new ho => ?_
            replace hA_adone := h_new
            generalize hf_f72 : y_up (fun j => f (65 + 7 * j)) x.toInt.toNat (0 : Int32) = f72 at hA_adone
            replace hs_hd := y_slk hs_hd (ho _ (y_ne hY_this hY_adone rfl))
            replace hn0 := y_slk hn0 (ho _ (y_ne hY_hd hY_adone rfl))
            replace hn1 := y_slk hn1 (ho _ (y_ne hY_hd hY_adone rfl))
            replace hn2 := y_slk hn2 (ho _ (y_ne hY_hd hY_adone rfl))
            replace hs_adone := y_slk hs_adone (ho _ (y_ne hY_hd hY_adone rfl))
            replace hs_astones := y_slk hs_astones (ho _ (y_ne hY_hd hY_adone rfl))
            replace hL := hL.putA (c := (8, 25, 8, 65, 7)) (N := 8) hY_hd (by decide) rfl (by omega) hs_old hA_old h_new ho
            replace hF := fun b u g9 (hb : Y0 b = some u) (h42 : u ≠ 42) (hg9 : x_G[u]? = some g9) (hn : b ≠ hd) (hk9 : ∀ k, k < 16 → x_sl D 2 k hd s.heap ≠ some (.ref b)) => x_eq.trans (x_eq.of (ho b (fun e0 => hk9 8 (by decide) (by rw [e0]; exact hs0_adone)))) (hF b u g9 hb h42 hg9 hn hk9)
            replace hfld : z_fld D hd s.heap _ := fun k a b c d => (y_slk rfl (ho _ (y_ne hY_hd hY_adone rfl))).trans (hfld k a b c d)
            refine lv_iconst hx hb Twk_d73 (v := 1) (by decide) ?_
            have ec1 : (1 : Int32).toInt = 1 := by decide
            have h_d : d = (0 : Int32) := Int32.toInt_inj.mp (by omega)
            exact y_ireturn B hI rfl rfl rfl List.mem_cons_self ⟨_, rfl, ⟨_, rfl, x_i32 _⟩⟩ (x_cs.mono B.2.2.2.2.2 (y_mon B hI)) (fun t' w0' w1' f' K' tt' nn' h1 h2 => by cases h1; cases h2.eqf hR0; exact ⟨_, _, rfl, h2.fin hYt0 hs0_hd hF hL hfld (y_mon B hI), fun q9 => absurd hok q9, fun _ q9 => absurd q9 (fun q8 => q53 (by rw [h_d] at q8; exact hg_e51.symm.trans q8)), fun _ _ => ⟨rfl, by rw [h_d]; rfl⟩⟩) (by exact Nat.le_of_ble_eq_true rfl) (by exact Nat.le_of_ble_eq_true rfl) Twk_d74
          · have q53_ : e51.toInt = (0 : Int32).toInt := by rw [q53]
            refine lv_aload_n hx hb Twk_d56 rfl (lv_at hl 1 rfl) ?_
            refine lv_bipush hx hb Twk_d57 (v := (-3)) (by decide) ?_
            have ecm3 : ((-3) : Int32).toInt = (-3) := by decide
            refine y_call (z := (0, 59, 2, some 0, xM8)) (av := [.ref this, .int ((-3) : Int32)]) (rest := []) (y_cokV (n := 1) (ci := 11) X ym_counted rfl rfl rfl (x_cons (x_bw19 7 rfl rfl) (x_cons (x_bw19 9 rfl rfl) (x_cons (x_at 1 (by decide +kernel) rfl) (x_cons (x_bw0 1 rfl rfl) x_nilm)))) (x_bw19 10 rfl rfl) (by decide +kernel) ⟨Nat.le_of_ble_eq_true rfl, Nat.le_of_ble_eq_true rfl⟩) hY0 hI rfl Twk_d59 hl.1 (Nat.le_of_ble_eq_true rfl) (Nat.le_of_ble_eq_true rfl) (Nat.le_of_ble_eq_true rfl) (y_cons (y_cref hY_this rfl) (y_cons ⟨_, rfl, x_i32 _⟩ y_nil)) rfl (y_recv rfl hY_this) trivial (y_sub_ef rfl) fun v Yn o Hn L ho hr ha hIn hx_ hE hP => ?_
            replace hs_hd := y_Efld hE hY_this rfl (by decide) (by decide) hs_hd
            replace hn0 := y_Efld hE hY_hd rfl (by decide) (by decide) hn0
            replace hn1 := y_Efld hE hY_hd rfl (by decide) (by decide) hn1
            replace hn2 := y_Efld hE hY_hd rfl (by decide) (by decide) hn2
            replace hs_adone := y_Efld hE hY_hd rfl (by decide) (by decide) hs_adone
            replace hs_astones := y_Efld hE hY_hd rfl (by decide) (by decide) hs_astones
            replace hA_adone := hA_adone.kept (y_Earr hE hY_adone rfl (by decide))
            replace hL := hL.E hY_hd hE (fun q u h => y_ext hx_ hI.1 h) (by decide +kernel)
            replace hF := fun b u g9 (hb : Y0 b = some u) (h42 : u ≠ 42) (hg9 : x_G[u]? = some g9) (hn : b ≠ hd) (hk9 : ∀ k, k < 16 → x_sl D 2 k hd s.heap ≠ some (.ref b)) => x_eq.trans (x_eq.E42 hE (y_mon B hI _ _ hb) hg9 h42 rfl) (hF b u g9 hb h42 hg9 hn hk9)
            replace hfld : z_fld D hd s.heap _ := fun k a b c d => ((x_eq.E42 (g := x_G[2]) hE hY_hd rfl (by decide) rfl) k a).trans (hfld k a b c d)
            replace hY_this := y_ext hx_ hI.1 hY_this
            replace hY_hd := y_ext hx_ hI.1 hY_hd
            replace hY_adone := y_ext hx_ hI.1 hY_adone
            replace hY_astones := y_ext hx_ hI.1 hY_astones
            replace hYz := y_ext hx_ hI.1 hYz
            obtain rfl := hP _ _ rfl
            clear ho hr ha hE hP hI hx_
            rename x_I _ _ _ _ _ _ _ _ _ _ => hI
            have h_d : d = (0 : Int32) := Int32.toInt_inj.mp (by omega)
            exact y_ireturn B hI rfl rfl rfl List.mem_cons_self ⟨_, rfl, ⟨_, rfl, x_i32 _⟩⟩ (x_cs.mono B.2.2.2.2.2 (y_mon B hI)) (fun t' w0' w1' f' K' tt' nn' h1 h2 => by cases h1; cases h2.eqf hR0; exact ⟨_, _, rfl, h2.fin hYt0 hs0_hd hF hL hfld (y_mon B hI), fun q9 => absurd hok q9, fun _ _ => ⟨rfl, rfl⟩, fun _ q9 => absurd (show f (65 + 7 * x.toInt.toNat) = d by rw [h_d]; exact hg_e51.trans q53) q9⟩) (by exact Nat.le_of_ble_eq_true rfl) (by exact Nat.le_of_ble_eq_true rfl) Twk_d62
        · have q34_ : ¬ d.toInt = (0 : Int32).toInt := fun q => q34 (Int32.toInt_inj.mp q)
          refine lv_iconst hx hb Twk_d37 (v := 1) (by decide) ?_
          have ec1 : (1 : Int32).toInt = 1 := by decide
          refine lv_goto hx hb Twk_d38 (tgt := 42) (by decide) ?_
          refine lv_istore_n hx hb Twk_d42 rfl hl (by decide) (lv' := [(3, .int (1 : Int32)), (0, .ref this), (1, .int x), (2, .int d)]) rfl fun ls hl => ?_
          refine lv_aload_n hx hb Twk_d43 rfl (lv_at hl 1 rfl) ?_
          refine y_getf X (fl8 X.2.2.2.2.1) hI.1 hY_this rfl hs_hd Twk_d44 ?_
          refine y_getf X (fl46 X.2.2.2.2.1) hI.1 hY_hd rfl hs_adone Twk_d47 ?_
          refine lv_iload_n hx hb Twk_d50 rfl (lv_at hl 2 rfl) ?_
          refine y_iald X hI.1 hY_adone rfl hA_adone (by omega) (by show _ < (8 : Int); omega) Twk_d51 ?_
          obtain ⟨e51, hg_e51⟩ : ∃ e51 : Int32, f (65 + 7 * x.toInt.toNat) = e51 := ⟨_, rfl⟩
          rw [hg_e51]
          refine lv_iload_n hx hb Twk_d52 rfl (lv_at hl 0 rfl) ?_
          refine lv_icmp_ne hx hb Twk_d53 (tgt := 63) (by decide) (fun q53 => ?_) (fun q53 => ?_)
          · have q53_ : ¬ e51.toInt = (1 : Int32).toInt := fun q => q53 (Int32.toInt_inj.mp q)
            refine lv_aload_n hx hb Twk_d63 rfl (lv_at hl 1 rfl) ?_
            refine y_getf X (fl8 X.2.2.2.2.1) hI.1 hY_this rfl hs_hd Twk_d64 ?_
            refine y_getf X (fl46 X.2.2.2.2.1) hI.1 hY_hd rfl hs_adone Twk_d67 ?_
            refine lv_iload_n hx hb Twk_d70 rfl (lv_at hl 2 rfl) ?_
            refine lv_iload_n hx hb Twk_d71 rfl (lv_at hl 0 rfl) ?_
            have hs_old := hs_adone
            have hA_old := hA_adone
            refine y_iast X hY0 hI hY_adone rfl hA_adone (by omega) (by show _ < (8 : Int); omega) ⟨_, rfl, x_i32 _⟩ (by decide +kernel) Twk_d72 fun H locs hI h_new ho => ?_
            replace hA_adone := h_new
            generalize hf_f72 : y_up (fun j => f (65 + 7 * j)) x.toInt.toNat (1 : Int32) = f72 at hA_adone
            replace hs_hd := y_slk hs_hd (ho _ (y_ne hY_this hY_adone rfl))
            replace hn0 := y_slk hn0 (ho _ (y_ne hY_hd hY_adone rfl))
            replace hn1 := y_slk hn1 (ho _ (y_ne hY_hd hY_adone rfl))
            replace hn2 := y_slk hn2 (ho _ (y_ne hY_hd hY_adone rfl))
            replace hs_adone := y_slk hs_adone (ho _ (y_ne hY_hd hY_adone rfl))
            replace hs_astones := y_slk hs_astones (ho _ (y_ne hY_hd hY_adone rfl))
            replace hL := hL.putA (c := (8, 25, 8, 65, 7)) (N := 8) hY_hd (by decide) rfl (by omega) hs_old hA_old h_new ho
            replace hF := fun b u g9 (hb : Y0 b = some u) (h42 : u ≠ 42) (hg9 : x_G[u]? = some g9) (hn : b ≠ hd) (hk9 : ∀ k, k < 16 → x_sl D 2 k hd s.heap ≠ some (.ref b)) => x_eq.trans (x_eq.of (ho b (fun e0 => hk9 8 (by decide) (by rw [e0]; exact hs0_adone)))) (hF b u g9 hb h42 hg9 hn hk9)
            replace hfld : z_fld D hd s.heap _ := fun k a b c d => (y_slk rfl (ho _ (y_ne hY_hd hY_adone rfl))).trans (hfld k a b c d)
            refine lv_iconst hx hb Twk_d73 (v := 1) (by decide) ?_
            have h_d : d = (1 : Int32) := Int32.toInt_inj.mp (by omega)
            exact y_ireturn B hI rfl rfl rfl List.mem_cons_self ⟨_, rfl, ⟨_, rfl, x_i32 _⟩⟩ (x_cs.mono B.2.2.2.2.2 (y_mon B hI)) (fun t' w0' w1' f' K' tt' nn' h1 h2 => by cases h1; cases h2.eqf hR0; exact ⟨_, _, rfl, h2.fin hYt0 hs0_hd hF hL hfld (y_mon B hI), fun q9 => absurd hok q9, fun _ q9 => absurd q9 (fun q8 => q53 (by rw [h_d] at q8; exact hg_e51.symm.trans q8)), fun _ _ => ⟨rfl, by rw [h_d]; rfl⟩⟩) (by exact Nat.le_of_ble_eq_true rfl) (by exact Nat.le_of_ble_eq_true rfl) Twk_d74
          · have q53_ : e51.toInt = (1 : Int32).toInt := by rw [q53]
            refine lv_aload_n hx hb Twk_d56 rfl (lv_at hl 1 rfl) ?_
            refine lv_bipush hx hb Twk_d57 (v := (-3)) (by decide) ?_
            have ecm3 : ((-3) : Int32).toInt = (-3) := by decide
            refine y_call (z := (0, 59, 2, some 0, xM8)) (av := [.ref this, .int ((-3) : Int32)]) (rest := []) (y_cokV (n := 1) (ci := 11) X ym_counted rfl rfl rfl (x_cons (x_bw19 7 rfl rfl) (x_cons (x_bw19 9 rfl rfl) (x_cons (x_at 1 (by decide +kernel) rfl) (x_cons (x_bw0 1 rfl rfl) x_nilm)))) (x_bw19 10 rfl rfl) (by decide +kernel) ⟨Nat.le_of_ble_eq_true rfl, Nat.le_of_ble_eq_true rfl⟩) hY0 hI rfl Twk_d59 hl.1 (Nat.le_of_ble_eq_true rfl) (Nat.le_of_ble_eq_true rfl) (Nat.le_of_ble_eq_true rfl) (y_cons (y_cref hY_this rfl) (y_cons ⟨_, rfl, x_i32 _⟩ y_nil)) rfl (y_recv rfl hY_this) trivial (y_sub_ef rfl) fun v Yn o Hn L ho hr ha hIn hx_ hE hP => ?_
            replace hs_hd := y_Efld hE hY_this rfl (by decide) (by decide) hs_hd
            replace hn0 := y_Efld hE hY_hd rfl (by decide) (by decide) hn0
            replace hn1 := y_Efld hE hY_hd rfl (by decide) (by decide) hn1
            replace hn2 := y_Efld hE hY_hd rfl (by decide) (by decide) hn2
            replace hs_adone := y_Efld hE hY_hd rfl (by decide) (by decide) hs_adone
            replace hs_astones := y_Efld hE hY_hd rfl (by decide) (by decide) hs_astones
            replace hA_adone := hA_adone.kept (y_Earr hE hY_adone rfl (by decide))
            replace hL := hL.E hY_hd hE (fun q u h => y_ext hx_ hI.1 h) (by decide +kernel)
            replace hF := fun b u g9 (hb : Y0 b = some u) (h42 : u ≠ 42) (hg9 : x_G[u]? = some g9) (hn : b ≠ hd) (hk9 : ∀ k, k < 16 → x_sl D 2 k hd s.heap ≠ some (.ref b)) => x_eq.trans (x_eq.E42 hE (y_mon B hI _ _ hb) hg9 h42 rfl) (hF b u g9 hb h42 hg9 hn hk9)
            replace hfld : z_fld D hd s.heap _ := fun k a b c d => ((x_eq.E42 (g := x_G[2]) hE hY_hd rfl (by decide) rfl) k a).trans (hfld k a b c d)
            replace hY_this := y_ext hx_ hI.1 hY_this
            replace hY_hd := y_ext hx_ hI.1 hY_hd
            replace hY_adone := y_ext hx_ hI.1 hY_adone
            replace hY_astones := y_ext hx_ hI.1 hY_astones
            replace hYz := y_ext hx_ hI.1 hYz
            obtain rfl := hP _ _ rfl
            clear ho hr ha hE hP hI hx_
            rename x_I _ _ _ _ _ _ _ _ _ _ => hI
            have h_d : d = (1 : Int32) := Int32.toInt_inj.mp (by omega)
            exact y_ireturn B hI rfl rfl rfl List.mem_cons_self ⟨_, rfl, ⟨_, rfl, x_i32 _⟩⟩ (x_cs.mono B.2.2.2.2.2 (y_mon B hI)) (fun t' w0' w1' f' K' tt' nn' h1 h2 => by cases h1; cases h2.eqf hR0; exact ⟨_, _, rfl, h2.fin hYt0 hs0_hd hF hL hfld (y_mon B hI), fun q9 => absurd hok q9, fun _ _ => ⟨rfl, rfl⟩, fun _ q9 => absurd (show f (65 + 7 * x.toInt.toNat) = d by rw [h_d]; exact hg_e51.trans q53) q9⟩) (by exact Nat.le_of_ble_eq_true rfl) (by exact Nat.le_of_ble_eq_true rfl) Twk_d62
      · have q23_ : r20.toInt = (0 : Int32).toInt := by rw [q23]
        have hno : ¬ m_wOk f x := fun q9 => by first | exact hout_r5 (by assumption) q9.1 | exact q9.2 (by omega) | (exfalso; omega)
        refine lv_aload_n hx hb Twk_d26 rfl (lv_at hl 0 rfl) ?_
        refine lv_bipush hx hb Twk_d27 (v := (-2)) (by decide) ?_
        have ecm2 : ((-2) : Int32).toInt = (-2) := by decide
        refine y_call (z := (0, 59, 2, some 0, xM8)) (av := [.ref this, .int ((-2) : Int32)]) (rest := []) (y_cokV (n := 1) (ci := 11) X ym_counted rfl rfl rfl (x_cons (x_bw19 7 rfl rfl) (x_cons (x_bw19 9 rfl rfl) (x_cons (x_at 1 (by decide +kernel) rfl) (x_cons (x_bw0 1 rfl rfl) x_nilm)))) (x_bw19 10 rfl rfl) (by decide +kernel) ⟨Nat.le_of_ble_eq_true rfl, Nat.le_of_ble_eq_true rfl⟩) hY0 hI rfl Twk_d29 hl.1 (Nat.le_of_ble_eq_true rfl) (Nat.le_of_ble_eq_true rfl) (Nat.le_of_ble_eq_true rfl) (y_cons (y_cref hY_this rfl) (y_cons ⟨_, rfl, x_i32 _⟩ y_nil)) rfl (y_recv rfl hY_this) trivial (y_sub_ef rfl) fun v Yn o Hn L ho hr ha hIn hx_ hE hP => ?_
        replace hs_hd := y_Efld hE hY_this rfl (by decide) (by decide) hs_hd
        replace hn0 := y_Efld hE hY_hd rfl (by decide) (by decide) hn0
        replace hn1 := y_Efld hE hY_hd rfl (by decide) (by decide) hn1
        replace hn2 := y_Efld hE hY_hd rfl (by decide) (by decide) hn2
        replace hs_adone := y_Efld hE hY_hd rfl (by decide) (by decide) hs_adone
        replace hs_astones := y_Efld hE hY_hd rfl (by decide) (by decide) hs_astones
        replace hA_adone := hA_adone.kept (y_Earr hE hY_adone rfl (by decide))
        replace hL := hL.E hY_hd hE (fun q u h => y_ext hx_ hI.1 h) (by decide +kernel)
        replace hF := fun b u g9 (hb : Y0 b = some u) (h42 : u ≠ 42) (hg9 : x_G[u]? = some g9) (hn : b ≠ hd) (hk9 : ∀ k, k < 16 → x_sl D 2 k hd s.heap ≠ some (.ref b)) => x_eq.trans (x_eq.E42 hE (y_mon B hI _ _ hb) hg9 h42 rfl) (hF b u g9 hb h42 hg9 hn hk9)
        replace hfld : z_fld D hd s.heap _ := fun k a b c d => ((x_eq.E42 (g := x_G[2]) hE hY_hd rfl (by decide) rfl) k a).trans (hfld k a b c d)
        replace hY_this := y_ext hx_ hI.1 hY_this
        replace hY_hd := y_ext hx_ hI.1 hY_hd
        replace hY_adone := y_ext hx_ hI.1 hY_adone
        replace hY_astones := y_ext hx_ hI.1 hY_astones
        replace hYz := y_ext hx_ hI.1 hYz
        obtain rfl := hP _ _ rfl
        clear ho hr ha hE hP hI hx_
        rename x_I _ _ _ _ _ _ _ _ _ _ => hI
        exact y_ireturn B hI rfl rfl rfl List.mem_cons_self ⟨_, rfl, ⟨_, rfl, x_i32 _⟩⟩ (x_cs.mono B.2.2.2.2.2 (y_mon B hI)) (fun t' w0' w1' f' K' tt' nn' h1 h2 => by cases h1; cases h2.eqf hR0; exact ⟨_, _, rfl, h2.fin hYt0 hs0_hd hF hL hfld (y_mon B hI), fun _ => ⟨rfl, rfl⟩, fun q9 => absurd q9 hno, fun q9 => absurd q9 hno⟩) (by exact Nat.le_of_ble_eq_true rfl) (by exact Nat.le_of_ble_eq_true rfl) Twk_d32
    · replace hYz : _ = some 16 := hYz
      replace hk9 : ((16 : Nat) : Int) = 11 + (f (60 + 7 * x.toInt.toNat)).toInt := hk9
      refine y_call (z := (0, 79, 1, some 16, xM28)) (av := [.ref sn]) (rest := []) (y_cok.of (x_cokO (ci := 9) (x := ⟨"TwinFires$Stone", "isWorkable", "()Z"⟩) (b0 := prog_8_method_3_code) (m0 := 1) (r0 := some .boolean) X xm28 rfl rfl (x_bw26 5 rfl rfl) (x_cons (x_bw25 8 rfl rfl) (x_cons (x_bw25 11 rfl rfl) (x_cons (x_bw25 9 rfl rfl) (x_cons (x_bw26 1 rfl rfl) (x_cons (x_bw26 2 rfl rfl) (x_cons (x_bw0 14 rfl rfl) x_nilm)))))) (x_bw26 3 rfl rfl) (by decide +kernel) ⟨Nat.le_of_ble_eq_true rfl, Nat.le_of_ble_eq_true rfl⟩)) hY0 hI rfl Twk_d20 hl.1 (Nat.le_of_ble_eq_true rfl) (Nat.le_of_ble_eq_true rfl) (Nat.le_of_ble_eq_true rfl) (y_cons (y_cref hYz rfl) y_nil) rfl (y_recv rfl hYz) trivial (y_sub_ef rfl) fun v Yn o Hn L ho hr ha hIn hx_ hE hP => ?_
      replace hs_hd := y_Efld hE hY_this rfl (by decide) (by decide) hs_hd
      replace hn0 := y_Efld hE hY_hd rfl (by decide) (by decide) hn0
      replace hn1 := y_Efld hE hY_hd rfl (by decide) (by decide) hn1
      replace hn2 := y_Efld hE hY_hd rfl (by decide) (by decide) hn2
      replace hs_adone := y_Efld hE hY_hd rfl (by decide) (by decide) hs_adone
      replace hs_astones := y_Efld hE hY_hd rfl (by decide) (by decide) hs_astones
      replace hA_adone := hA_adone.kept (y_Earr hE hY_adone rfl (by decide))
      replace hL := hL.E hY_hd hE (fun q u h => y_ext hx_ hI.1 h) (by decide +kernel)
      replace hF := fun b u g9 (hb : Y0 b = some u) (h42 : u ≠ 42) (hg9 : x_G[u]? = some g9) (hn : b ≠ hd) (hk9 : ∀ k, k < 16 → x_sl D 2 k hd s.heap ≠ some (.ref b)) => x_eq.trans (x_eq.E42 hE (y_mon B hI _ _ hb) hg9 h42 rfl) (hF b u g9 hb h42 hg9 hn hk9)
      replace hfld : z_fld D hd s.heap _ := fun k a b c d => ((x_eq.E42 (g := x_G[2]) hE hY_hd rfl (by decide) rfl) k a).trans (hfld k a b c d)
      replace hY_this := y_ext hx_ hI.1 hY_this
      replace hY_hd := y_ext hx_ hI.1 hY_hd
      replace hY_adone := y_ext hx_ hI.1 hY_adone
      replace hY_astones := y_ext hx_ hI.1 hY_astones
      replace hYz := y_ext hx_ hI.1 hYz
      obtain ⟨r20, rfl, h_r20⟩ := y_ansI (lo := 1) (hi := 1) (by decide) ho hr
      clear ho hr ha hE hP hI hx_
      rename x_I _ _ _ _ _ _ _ _ _ _ => hI
      refine lv_if_ne hx hb Twk_d23 (tgt := 33) (by decide) (fun q23 => ?_) (fun q23 => ?_)
      · have q23_ : ¬ r20.toInt = (0 : Int32).toInt := fun q => q23 (Int32.toInt_inj.mp q)
        have hok : m_wOk f x := by first | exact ⟨hw1, fun q9 => by omega⟩ | (exfalso; omega)
        refine lv_iload_n hx hb Twk_d33 rfl (lv_at hl 2 rfl) ?_
        refine lv_if_eq hx hb Twk_d34 (tgt := 41) (by decide) (fun q34 => ?_) (fun q34 => ?_)
        · have q34_ : d.toInt = (0 : Int32).toInt := by rw [q34]
          refine lv_iconst hx hb Twk_d41 (v := 0) (by decide) ?_
          refine lv_istore_n hx hb Twk_d42 rfl hl (by decide) (lv' := [(3, .int (0 : Int32)), (0, .ref this), (1, .int x), (2, .int d)]) rfl fun ls hl => ?_
          refine lv_aload_n hx hb Twk_d43 rfl (lv_at hl 1 rfl) ?_
          refine y_getf X (fl8 X.2.2.2.2.1) hI.1 hY_this rfl hs_hd Twk_d44 ?_
          refine y_getf X (fl46 X.2.2.2.2.1) hI.1 hY_hd rfl hs_adone Twk_d47 ?_
          refine lv_iload_n hx hb Twk_d50 rfl (lv_at hl 2 rfl) ?_
          refine y_iald X hI.1 hY_adone rfl hA_adone (by omega) (by show _ < (8 : Int); omega) Twk_d51 ?_
          obtain ⟨e51, hg_e51⟩ : ∃ e51 : Int32, f (65 + 7 * x.toInt.toNat) = e51 := ⟨_, rfl⟩
          rw [hg_e51]
          refine lv_iload_n hx hb Twk_d52 rfl (lv_at hl 0 rfl) ?_
          refine lv_icmp_ne hx hb Twk_d53 (tgt := 63) (by decide) (fun q53 => ?_) (fun q53 => ?_)
          · have q53_ : ¬ e51.toInt = (0 : Int32).toInt := fun q => q53 (Int32.toInt_inj.mp q)
            refine lv_aload_n hx hb Twk_d63 rfl (lv_at hl 1 rfl) ?_
            refine y_getf X (fl8 X.2.2.2.2.1) hI.1 hY_this rfl hs_hd Twk_d64 ?_
            refine y_getf X (fl46 X.2.2.2.2.1) hI.1 hY_hd rfl hs_adone Twk_d67 ?_
            refine lv_iload_n hx hb Twk_d70 rfl (lv_at hl 2 rfl) ?_
            refine lv_iload_n hx hb Twk_d71 rfl (lv_at hl 0 rfl) ?_
            have hs_old := hs_adone
            have hA_old := hA_adone
            refine y_iast X hY0 hI hY_adone rfl hA_adone (by omega) (by show _ < (8 : Int); omega) ⟨_, rfl, x_i32 _⟩ (by decide +kernel) Twk_d72 fun H locs hI h_new ho => ?_
            replace hA_adone := h_new
            generalize hf_f72 : y_up (fun j => f (65 + 7 * j)) x.toInt.toNat (0 : Int32) = f72 at hA_adone
            replace hs_hd := y_slk hs_hd (ho _ (y_ne hY_this hY_adone rfl))
            replace hn0 := y_slk hn0 (ho _ (y_ne hY_hd hY_adone rfl))
            replace hn1 := y_slk hn1 (ho _ (y_ne hY_hd hY_adone rfl))
            replace hn2 := y_slk hn2 (ho _ (y_ne hY_hd hY_adone rfl))
            replace hs_adone := y_slk hs_adone (ho _ (y_ne hY_hd hY_adone rfl))
            replace hs_astones := y_slk hs_astones (ho _ (y_ne hY_hd hY_adone rfl))
            replace hL := hL.putA (c := (8, 25, 8, 65, 7)) (N := 8) hY_hd (by decide) rfl (by omega) hs_old hA_old h_new ho
            replace hF := fun b u g9 (hb : Y0 b = some u) (h42 : u ≠ 42) (hg9 : x_G[u]? = some g9) (hn : b ≠ hd) (hk9 : ∀ k, k < 16 → x_sl D 2 k hd s.heap ≠ some (.ref b)) => x_eq.trans (x_eq.of (ho b (fun e0 => hk9 8 (by decide) (by rw [e0]; exact hs0_adone)))) (hF b u g9 hb h42 hg9 hn hk9)
            replace hfld : z_fld D hd s.heap _ := fun k a b c d => (y_slk rfl (ho _ (y_ne hY_hd hY_adone rfl))).trans (hfld k a b c d)
            refine lv_iconst hx hb Twk_d73 (v := 1) (by decide) ?_
            have ec1 : (1 : Int32).toInt = 1 := by decide
            have h_d : d = (0 : Int32) := Int32.toInt_inj.mp (by omega)
            exact y_ireturn B hI rfl rfl rfl List.mem_cons_self ⟨_, rfl, ⟨_, rfl, x_i32 _⟩⟩ (x_cs.mono B.2.2.2.2.2 (y_mon B hI)) (fun t' w0' w1' f' K' tt' nn' h1 h2 => by cases h1; cases h2.eqf hR0; exact ⟨_, _, rfl, h2.fin hYt0 hs0_hd hF hL hfld (y_mon B hI), fun q9 => absurd hok q9, fun _ q9 => absurd q9 (fun q8 => q53 (by rw [h_d] at q8; exact hg_e51.symm.trans q8)), fun _ _ => ⟨rfl, by rw [h_d]; rfl⟩⟩) (by exact Nat.le_of_ble_eq_true rfl) (by exact Nat.le_of_ble_eq_true rfl) Twk_d74
          · have q53_ : e51.toInt = (0 : Int32).toInt := by rw [q53]
            refine lv_aload_n hx hb Twk_d56 rfl (lv_at hl 1 rfl) ?_
            refine lv_bipush hx hb Twk_d57 (v := (-3)) (by decide) ?_
            have ecm3 : ((-3) : Int32).toInt = (-3) := by decide
            refine y_call (z := (0, 59, 2, some 0, xM8)) (av := [.ref this, .int ((-3) : Int32)]) (rest := []) (y_cokV (n := 1) (ci := 11) X ym_counted rfl rfl rfl (x_cons (x_bw19 7 rfl rfl) (x_cons (x_bw19 9 rfl rfl) (x_cons (x_at 1 (by decide +kernel) rfl) (x_cons (x_bw0 1 rfl rfl) x_nilm)))) (x_bw19 10 rfl rfl) (by decide +kernel) ⟨Nat.le_of_ble_eq_true rfl, Nat.le_of_ble_eq_true rfl⟩) hY0 hI rfl Twk_d59 hl.1 (Nat.le_of_ble_eq_true rfl) (Nat.le_of_ble_eq_true rfl) (Nat.le_of_ble_eq_true rfl) (y_cons (y_cref hY_this rfl) (y_cons ⟨_, rfl, x_i32 _⟩ y_nil)) rfl (y_recv rfl hY_this) trivial (y_sub_ef rfl) fun v Yn o Hn L ho hr ha hIn hx_ hE hP => ?_
            replace hs_hd := y_Efld hE hY_this rfl (by decide) (by decide) hs_hd
            replace hn0 := y_Efld hE hY_hd rfl (by decide) (by decide) hn0
            replace hn1 := y_Efld hE hY_hd rfl (by decide) (by decide) hn1
            replace hn2 := y_Efld hE hY_hd rfl (by decide) (by decide) hn2
            replace hs_adone := y_Efld hE hY_hd rfl (by decide) (by decide) hs_adone
            replace hs_astones := y_Efld hE hY_hd rfl (by decide) (by decide) hs_astones
            replace hA_adone := hA_adone.kept (y_Earr hE hY_adone rfl (by decide))
            replace hL := hL.E hY_hd hE (fun q u h => y_ext hx_ hI.1 h) (by decide +kernel)
            replace hF := fun b u g9 (hb : Y0 b = some u) (h42 : u ≠ 42) (hg9 : x_G[u]? = some g9) (hn : b ≠ hd) (hk9 : ∀ k, k < 16 → x_sl D 2 k hd s.heap ≠ some (.ref b)) => x_eq.trans (x_eq.E42 hE (y_mon B hI _ _ hb) hg9 h42 rfl) (hF b u g9 hb h42 hg9 hn hk9)
            replace hfld : z_fld D hd s.heap _ := fun k a b c d => ((x_eq.E42 (g := x_G[2]) hE hY_hd rfl (by decide) rfl) k a).trans (hfld k a b c d)
            replace hY_this := y_ext hx_ hI.1 hY_this
            replace hY_hd := y_ext hx_ hI.1 hY_hd
            replace hY_adone := y_ext hx_ hI.1 hY_adone
            replace hY_astones := y_ext hx_ hI.1 hY_astones
            replace hYz := y_ext hx_ hI.1 hYz
            obtain rfl := hP _ _ rfl
            clear ho hr ha hE hP hI hx_
            rename x_I _ _ _ _ _ _ _ _ _ _ => hI
            have h_d : d = (0 : Int32) := Int32.toInt_inj.mp (by omega)
            exact y_ireturn B hI rfl rfl rfl List.mem_cons_self ⟨_, rfl, ⟨_, rfl, x_i32 _⟩⟩ (x_cs.mono B.2.2.2.2.2 (y_mon B hI)) (fun t' w0' w1' f' K' tt' nn' h1 h2 => by cases h1; cases h2.eqf hR0; exact ⟨_, _, rfl, h2.fin hYt0 hs0_hd hF hL hfld (y_mon B hI), fun q9 => absurd hok q9, fun _ _ => ⟨rfl, rfl⟩, fun _ q9 => absurd (show f (65 + 7 * x.toInt.toNat) = d by rw [h_d]; exact hg_e51.trans q53) q9⟩) (by exact Nat.le_of_ble_eq_true rfl) (by exact Nat.le_of_ble_eq_true rfl) Twk_d62
        · have q34_ : ¬ d.toInt = (0 : Int32).toInt := fun q => q34 (Int32.toInt_inj.mp q)
          refine lv_iconst hx hb Twk_d37 (v := 1) (by decide) ?_
          have ec1 : (1 : Int32).toInt = 1 := by decide
          refine lv_goto hx hb Twk_d38 (tgt := 42) (by decide) ?_
          refine lv_istore_n hx hb Twk_d42 rfl hl (by decide) (lv' := [(3, .int (1 : Int32)), (0, .ref this), (1, .int x), (2, .int d)]) rfl fun ls hl => ?_
          refine lv_aload_n hx hb Twk_d43 rfl (lv_at hl 1 rfl) ?_
          refine y_getf X (fl8 X.2.2.2.2.1) hI.1 hY_this rfl hs_hd Twk_d44 ?_
          refine y_getf X (fl46 X.2.2.2.2.1) hI.1 hY_hd rfl hs_adone Twk_d47 ?_
          refine lv_iload_n hx hb Twk_d50 rfl (lv_at hl 2 rfl) ?_
          refine y_iald X hI.1 hY_adone rfl hA_adone (by omega) (by show _ < (8 : Int); omega) Twk_d51 ?_
          obtain ⟨e51, hg_e51⟩ : ∃ e51 : Int32, f (65 + 7 * x.toInt.toNat) = e51 := ⟨_, rfl⟩
          rw [hg_e51]
          refine lv_iload_n hx hb Twk_d52 rfl (lv_at hl 0 rfl) ?_
          refine lv_icmp_ne hx hb Twk_d53 (tgt := 63) (by decide) (fun q53 => ?_) (fun q53 => ?_)
          · have q53_ : ¬ e51.toInt = (1 : Int32).toInt := fun q => q53 (Int32.toInt_inj.mp q)
            refine lv_aload_n hx hb Twk_d63 rfl (lv_at hl 1 rfl) ?_
            refine y_getf X (fl8 X.2.2.2.2.1) hI.1 hY_this rfl hs_hd Twk_d64 ?_
            refine y_getf X (fl46 X.2.2.2.2.1) hI.1 hY_hd rfl hs_adone Twk_d67 ?_
            refine lv_iload_n hx hb Twk_d70 rfl (lv_at hl 2 rfl) ?_
            refine lv_iload_n hx hb Twk_d71 rfl (lv_at hl 0 rfl) ?_
            have hs_old := hs_adone
            have hA_old := hA_adone
            refine y_iast X hY0 hI hY_adone rfl hA_adone (by omega) (by show _ < (8 : Int); omega) ⟨_, rfl, x_i32 _⟩ (by decide +kernel) Twk_d72 fun H locs hI h_new ho => ?_
            replace hA_adone := h_new
            generalize hf_f72 : y_up (fun j => f (65 + 7 * j)) x.toInt.toNat (1 : Int32) = f72 at hA_adone
            replace hs_hd := y_slk hs_hd (ho _ (y_ne hY_this hY_adone rfl))
            replace hn0 := y_slk hn0 (ho _ (y_ne hY_hd hY_adone rfl))
            replace hn1 := y_slk hn1 (ho _ (y_ne hY_hd hY_adone rfl))
            replace hn2 := y_slk hn2 (ho _ (y_ne hY_hd hY_adone rfl))
            replace hs_adone := y_slk hs_adone (ho _ (y_ne hY_hd hY_adone rfl))
            replace hs_astones := y_slk hs_astones (ho _ (y_ne hY_hd hY_adone rfl))
            replace hL := hL.putA (c := (8, 25, 8, 65, 7)) (N := 8) hY_hd (by decide) rfl (by omega) hs_old hA_old h_new ho
            replace hF := fun b u g9 (hb : Y0 b = some u) (h42 : u ≠ 42) (hg9 : x_G[u]? = some g9) (hn : b ≠ hd) (hk9 : ∀ k, k < 16 → x_sl D 2 k hd s.heap ≠ some (.ref b)) => x_eq.trans (x_eq.of (ho b (fun e0 => hk9 8 (by decide) (by rw [e0]; exact hs0_adone)))) (hF b u g9 hb h42 hg9 hn hk9)
            replace hfld : z_fld D hd s.heap _ := fun k a b c d => (y_slk rfl (ho _ (y_ne hY_hd hY_adone rfl))).trans (hfld k a b c d)
            refine lv_iconst hx hb Twk_d73 (v := 1) (by decide) ?_
            have h_d : d = (1 : Int32) := Int32.toInt_inj.mp (by omega)
            exact y_ireturn B hI rfl rfl rfl List.mem_cons_self ⟨_, rfl, ⟨_, rfl, x_i32 _⟩⟩ (x_cs.mono B.2.2.2.2.2 (y_mon B hI)) (fun t' w0' w1' f' K' tt' nn' h1 h2 => by cases h1; cases h2.eqf hR0; exact ⟨_, _, rfl, h2.fin hYt0 hs0_hd hF hL hfld (y_mon B hI), fun q9 => absurd hok q9, fun _ q9 => absurd q9 (fun q8 => q53 (by rw [h_d] at q8; exact hg_e51.symm.trans q8)), fun _ _ => ⟨rfl, by rw [h_d]; rfl⟩⟩) (by exact Nat.le_of_ble_eq_true rfl) (by exact Nat.le_of_ble_eq_true rfl) Twk_d74
          · have q53_ : e51.toInt = (1 : Int32).toInt := by rw [q53]
            refine lv_aload_n hx hb Twk_d56 rfl (lv_at hl 1 rfl) ?_
            refine lv_bipush hx hb Twk_d57 (v := (-3)) (by decide) ?_
            have ecm3 : ((-3) : Int32).toInt = (-3) := by decide
            refine y_call (z := (0, 59, 2, some 0, xM8)) (av := [.ref this, .int ((-3) : Int32)]) (rest := []) (y_cokV (n := 1) (ci := 11) X ym_counted rfl rfl rfl (x_cons (x_bw19 7 rfl rfl) (x_cons (x_bw19 9 rfl rfl) (x_cons (x_at 1 (by decide +kernel) rfl) (x_cons (x_bw0 1 rfl rfl) x_nilm)))) (x_bw19 10 rfl rfl) (by decide +kernel) ⟨Nat.le_of_ble_eq_true rfl, Nat.le_of_ble_eq_true rfl⟩) hY0 hI rfl Twk_d59 hl.1 (Nat.le_of_ble_eq_true rfl) (Nat.le_of_ble_eq_true rfl) (Nat.le_of_ble_eq_true rfl) (y_cons (y_cref hY_this rfl) (y_cons ⟨_, rfl, x_i32 _⟩ y_nil)) rfl (y_recv rfl hY_this) trivial (y_sub_ef rfl) fun v Yn o Hn L ho hr ha hIn hx_ hE hP => ?_
            replace hs_hd := y_Efld hE hY_this rfl (by decide) (by decide) hs_hd
            replace hn0 := y_Efld hE hY_hd rfl (by decide) (by decide) hn0
            replace hn1 := y_Efld hE hY_hd rfl (by decide) (by decide) hn1
            replace hn2 := y_Efld hE hY_hd rfl (by decide) (by decide) hn2
            replace hs_adone := y_Efld hE hY_hd rfl (by decide) (by decide) hs_adone
            replace hs_astones := y_Efld hE hY_hd rfl (by decide) (by decide) hs_astones
            replace hA_adone := hA_adone.kept (y_Earr hE hY_adone rfl (by decide))
            replace hL := hL.E hY_hd hE (fun q u h => y_ext hx_ hI.1 h) (by decide +kernel)
            replace hF := fun b u g9 (hb : Y0 b = some u) (h42 : u ≠ 42) (hg9 : x_G[u]? = some g9) (hn : b ≠ hd) (hk9 : ∀ k, k < 16 → x_sl D 2 k hd s.heap ≠ some (.ref b)) => x_eq.trans (x_eq.E42 hE (y_mon B hI _ _ hb) hg9 h42 rfl) (hF b u g9 hb h42 hg9 hn hk9)
            replace hfld : z_fld D hd s.heap _ := fun k a b c d => ((x_eq.E42 (g := x_G[2]) hE hY_hd rfl (by decide) rfl) k a).trans (hfld k a b c d)
            replace hY_this := y_ext hx_ hI.1 hY_this
            replace hY_hd := y_ext hx_ hI.1 hY_hd
            replace hY_adone := y_ext hx_ hI.1 hY_adone
            replace hY_astones := y_ext hx_ hI.1 hY_astones
            replace hYz := y_ext hx_ hI.1 hYz
            obtain rfl := hP _ _ rfl
            clear ho hr ha hE hP hI hx_
            rename x_I _ _ _ _ _ _ _ _ _ _ => hI
            have h_d : d = (1 : Int32) := Int32.toInt_inj.mp (by omega)
            exact y_ireturn B hI rfl rfl rfl List.mem_cons_self ⟨_, rfl, ⟨_, rfl, x_i32 _⟩⟩ (x_cs.mono B.2.2.2.2.2 (y_mon B hI)) (fun t' w0' w1' f' K' tt' nn' h1 h2 => by cases h1; cases h2.eqf hR0; exact ⟨_, _, rfl, h2.fin hYt0 hs0_hd hF hL hfld (y_mon B hI), fun q9 => absurd hok q9, fun _ _ => ⟨rfl, rfl⟩, fun _ q9 => absurd (show f (65 + 7 * x.toInt.toNat) = d by rw [h_d]; exact hg_e51.trans q53) q9⟩) (by exact Nat.le_of_ble_eq_true rfl) (by exact Nat.le_of_ble_eq_true rfl) Twk_d62
      · have q23_ : r20.toInt = (0 : Int32).toInt := by rw [q23]
        have hno : ¬ m_wOk f x := fun q9 => by first | exact hout_r5 (by assumption) q9.1 | exact q9.2 (by omega) | (exfalso; omega)
        refine lv_aload_n hx hb Twk_d26 rfl (lv_at hl 0 rfl) ?_
        refine lv_bipush hx hb Twk_d27 (v := (-2)) (by decide) ?_
        have ecm2 : ((-2) : Int32).toInt = (-2) := by decide
        refine y_call (z := (0, 59, 2, some 0, xM8)) (av := [.ref this, .int ((-2) : Int32)]) (rest := []) (y_cokV (n := 1) (ci := 11) X ym_counted rfl rfl rfl (x_cons (x_bw19 7 rfl rfl) (x_cons (x_bw19 9 rfl rfl) (x_cons (x_at 1 (by decide +kernel) rfl) (x_cons (x_bw0 1 rfl rfl) x_nilm)))) (x_bw19 10 rfl rfl) (by decide +kernel) ⟨Nat.le_of_ble_eq_true rfl, Nat.le_of_ble_eq_true rfl⟩) hY0 hI rfl Twk_d29 hl.1 (Nat.le_of_ble_eq_true rfl) (Nat.le_of_ble_eq_true rfl) (Nat.le_of_ble_eq_true rfl) (y_cons (y_cref hY_this rfl) (y_cons ⟨_, rfl, x_i32 _⟩ y_nil)) rfl (y_recv rfl hY_this) trivial (y_sub_ef rfl) fun v Yn o Hn L ho hr ha hIn hx_ hE hP => ?_
        replace hs_hd := y_Efld hE hY_this rfl (by decide) (by decide) hs_hd
        replace hn0 := y_Efld hE hY_hd rfl (by decide) (by decide) hn0
        replace hn1 := y_Efld hE hY_hd rfl (by decide) (by decide) hn1
        replace hn2 := y_Efld hE hY_hd rfl (by decide) (by decide) hn2
        replace hs_adone := y_Efld hE hY_hd rfl (by decide) (by decide) hs_adone
        replace hs_astones := y_Efld hE hY_hd rfl (by decide) (by decide) hs_astones
        replace hA_adone := hA_adone.kept (y_Earr hE hY_adone rfl (by decide))
        replace hL := hL.E hY_hd hE (fun q u h => y_ext hx_ hI.1 h) (by decide +kernel)
        replace hF := fun b u g9 (hb : Y0 b = some u) (h42 : u ≠ 42) (hg9 : x_G[u]? = some g9) (hn : b ≠ hd) (hk9 : ∀ k, k < 16 → x_sl D 2 k hd s.heap ≠ some (.ref b)) => x_eq.trans (x_eq.E42 hE (y_mon B hI _ _ hb) hg9 h42 rfl) (hF b u g9 hb h42 hg9 hn hk9)
        replace hfld : z_fld D hd s.heap _ := fun k a b c d => ((x_eq.E42 (g := x_G[2]) hE hY_hd rfl (by decide) rfl) k a).trans (hfld k a b c d)
        replace hY_this := y_ext hx_ hI.1 hY_this
        replace hY_hd := y_ext hx_ hI.1 hY_hd
        replace hY_adone := y_ext hx_ hI.1 hY_adone
        replace hY_astones := y_ext hx_ hI.1 hY_astones
        replace hYz := y_ext hx_ hI.1 hYz
        obtain rfl := hP _ _ rfl
        clear ho hr ha hE hP hI hx_
        rename x_I _ _ _ _ _ _ _ _ _ _ => hI
        exact y_ireturn B hI rfl rfl rfl List.mem_cons_self ⟨_, rfl, ⟨_, rfl, x_i32 _⟩⟩ (x_cs.mono B.2.2.2.2.2 (y_mon B hI)) (fun t' w0' w1' f' K' tt' nn' h1 h2 => by cases h1; cases h2.eqf hR0; exact ⟨_, _, rfl, h2.fin hYt0 hs0_hd hF hL hfld (y_mon B hI), fun _ => ⟨rfl, rfl⟩, fun q9 => absurd q9 hno, fun q9 => absurd q9 hno⟩) (by exact Nat.le_of_ble_eq_true rfl) (by exact Nat.le_of_ble_eq_true rfl) Twk_d32

