def z_PTfr : yP := fun D av Y H v Y' H' => ∀ (this : Nat) (i : Int32) (f : Nat → Int32) (K : Nat → Option (Nat → Int32)) (t9 : Nat → Int32) (n9 : Int32), av = [.ref this, .int i] → z_RC D Y H this f K t9 n9 → ∃ (r : Int32) (g : Nat → Int32), v = some (.int r) ∧ z_RC D Y' H' this g K t9 n9 ∧ m_from f K i r g
def z_PTim : yP := fun D av Y H v Y' H' => ∀ (this : Nat) (i : Int32) (f : Nat → Int32) (K : Nat → Option (Nat → Int32)) (t9 : Nat → Int32) (n9 : Int32), av = [.ref this, .int i] → z_RC D Y H this f K t9 n9 → v = some (.int (m_imgR i)) ∧ z_RC D Y' H' this f (m_imgK f K i) t9 n9
theorem Tfr_d0 : decode xM131.2.1 0 = .ok (.iload_n 1, 1) := dz_ok (by decide +kernel)
theorem Tfr_d1 : decode xM131.2.1 1 = .ok (.iconst 0, 1) := dz_ok (by decide +kernel)
theorem Tfr_d2 : decode xM131.2.1 2 = .ok (.aload_n 0, 1) := dz_ok (by decide +kernel)
theorem Tfr_d3 : decode xM131.2.1 3 = .ok (.getfield 19, 3) := dz_ok (by decide +kernel)
theorem Tfr_d6 : decode xM131.2.1 6 = .ok (.arraylength, 1) := dz_ok (by decide +kernel)
theorem Tfr_d7 : decode xM131.2.1 7 = .ok (.iconst 1, 1) := dz_ok (by decide +kernel)
theorem Tfr_d8 : decode xM131.2.1 8 = .ok (.isub, 1) := dz_ok (by decide +kernel)
theorem Tfr_d9 : decode xM131.2.1 9 = .ok (.invokestatic 88, 3) := dz_ok (by decide +kernel)
theorem Tfr_d12 : decode xM131.2.1 12 = .ok (.ifCond .ne 10, 3) := dz_ok (by decide +kernel)
theorem Tfr_d15 : decode xM131.2.1 15 = .ok (.aload_n 0, 1) := dz_ok (by decide +kernel)
theorem Tfr_d16 : decode xM131.2.1 16 = .ok (.bipush (-2), 2) := dz_ok (by decide +kernel)
theorem Tfr_d18 : decode xM131.2.1 18 = .ok (.invokevirtual 59, 3) := dz_ok (by decide +kernel)
theorem Tfr_d21 : decode xM131.2.1 21 = .ok (.ireturn, 1) := dz_ok (by decide +kernel)
theorem Tfr_d22 : decode xM131.2.1 22 = .ok (.aload_n 0, 1) := dz_ok (by decide +kernel)
theorem Tfr_d23 : decode xM131.2.1 23 = .ok (.getfield 19, 3) := dz_ok (by decide +kernel)
theorem Tfr_d26 : decode xM131.2.1 26 = .ok (.iload_n 1, 1) := dz_ok (by decide +kernel)
theorem Tfr_d27 : decode xM131.2.1 27 = .ok (.aaload, 1) := dz_ok (by decide +kernel)
theorem Tfr_d28 : decode xM131.2.1 28 = .ok (.ifnonnull 10, 3) := dz_ok (by decide +kernel)
theorem Tfr_d31 : decode xM131.2.1 31 = .ok (.aload_n 0, 1) := dz_ok (by decide +kernel)
theorem Tfr_d32 : decode xM131.2.1 32 = .ok (.bipush (-3), 2) := dz_ok (by decide +kernel)
theorem Tfr_d34 : decode xM131.2.1 34 = .ok (.invokevirtual 59, 3) := dz_ok (by decide +kernel)
theorem Tfr_d37 : decode xM131.2.1 37 = .ok (.ireturn, 1) := dz_ok (by decide +kernel)
theorem Tfr_d38 : decode xM131.2.1 38 = .ok (.aload_n 0, 1) := dz_ok (by decide +kernel)
theorem Tfr_d39 : decode xM131.2.1 39 = .ok (.getfield 12, 3) := dz_ok (by decide +kernel)
theorem Tfr_d42 : decode xM131.2.1 42 = .ok (.aload_n 0, 1) := dz_ok (by decide +kernel)
theorem Tfr_d43 : decode xM131.2.1 43 = .ok (.getfield 19, 3) := dz_ok (by decide +kernel)
theorem Tfr_d46 : decode xM131.2.1 46 = .ok (.iload_n 1, 1) := dz_ok (by decide +kernel)
theorem Tfr_d47 : decode xM131.2.1 47 = .ok (.aaload, 1) := dz_ok (by decide +kernel)
theorem Tfr_d48 : decode xM131.2.1 48 = .ok (.invokevirtual 148, 3) := dz_ok (by decide +kernel)
theorem Tfr_d51 : decode xM131.2.1 51 = .ok (.iconst 1, 1) := dz_ok (by decide +kernel)
theorem Tfr_d52 : decode xM131.2.1 52 = .ok (.ireturn, 1) := dz_ok (by decide +kernel)
theorem ym_Tfrom : y_Met vwCl x_G x_Zs x_Tb x_Nb xM131 z_ATF z_PTfr := by
  refine y_main (by decide +kernel) (by decide +kernel) x_Tb_good x_Nb_ok ?_
  intro p l e s m below meth c D U Y0 av ls B hI hpre hl
  have X := B.1
  have hx := X.1
  have hb := X.2.1
  have hY0 := B.2.2.2.2.1
  have hts := X.2.2.2.2.1
  obtain ⟨v0, v1, rfl, hv0, ⟨i, rfl, -⟩⟩ := x_two B.2.2.2.2.2
  obtain ⟨this, t0, rfl, ht0, hY_this⟩ := x_ref_at hv0 rfl
  obtain rfl := List.mem_singleton.mp ht0
  replace hl : lv_has ls xM131.2.2.1 [(0, .ref this), (1, .int i)] := hl
  obtain ⟨f, K, tt, nn, hR⟩ := hpre _ rfl
  have hR0 := hR
  obtain ⟨hd, -, kp, -, -, -, ⟨hs_hd, -, hs_kp, -⟩, ⟨hY_hd, -, hY_kp, -⟩, -⟩ := id hR
  refine lv_iload_n hx hb Tfr_d0 rfl (lv_at hl 1 rfl) ?_
  refine lv_iconst hx hb Tfr_d1 (v := 0) (by decide) ?_
  have ec0 : (0 : Int32).toInt = 0 := by decide
  refine lv_aload_n hx hb Tfr_d2 rfl (lv_at hl 0 rfl) ?_
  refine y_getf X (fl158 X.2.2.2.2.1) hI.1 hY_this rfl hs_kp Tfr_d3 ?_
  refine y_alen X hI.1 hY_kp rfl Tfr_d6 ?_
  have h_nI2 : (nI 2).toInt = 2 := by decide
  refine lv_iconst hx hb Tfr_d7 (v := 1) (by decide) ?_
  have ec1 : (1 : Int32).toInt = 1 := by decide
  refine lv_isub hx hb Tfr_d8 ?_
  generalize hg_z8 : (nI 2) - (1 : Int32) = z8
  have h_z8 : z8.toInt = (nI 2).toInt - 1 := by rw [← hg_z8]; have := y_sub (x := (nI 2)) (y := (1 : Int32)) (by rw [ec1]; omega) (by rw [ec1]; omega); rw [ec1] at this; exact this
  refine y_call (z := (1, 88, 3, none, xM10)) (av := [.int i, .int (0 : Int32), .int z8]) (rest := []) (y_cokS (n := 3) X ym_within (x_cons (x_bw19 15 rfl rfl) (x_cons (x_bw19 1 rfl rfl) (x_cons (x_bw0 1 rfl rfl) x_nilm))) (x_bw19 2 rfl rfl) (by decide +kernel) ⟨Nat.le_of_ble_eq_true rfl, Nat.le_of_ble_eq_true rfl⟩) hY0 hI rfl Tfr_d9 hl.1 (Nat.le_of_ble_eq_true rfl) (Nat.le_of_ble_eq_true rfl) (Nat.le_of_ble_eq_true rfl) (y_cons ⟨_, rfl, x_i32 _⟩ (y_cons ⟨_, rfl, x_i32 _⟩ (y_cons ⟨_, rfl, x_i32 _⟩ y_nil))) rfl (y_norecv rfl) trivial (y_sub_ef rfl) fun v Yn o Hn L ho hr ha hIn hx_ hE hP => ?_
  replace hR := hR.E hY_this hE (fun q u h => y_ext hx_ hI.1 h) (by decide +kernel)
  replace hs_hd := y_Efld hE hY_this rfl (by decide) (by decide) hs_hd
  replace hs_kp := y_Efld hE hY_this rfl (by decide) (by decide) hs_kp
  replace hY_this := y_ext hx_ hI.1 hY_this
  replace hY_hd := y_ext hx_ hI.1 hY_hd
  replace hY_kp := y_ext hx_ hI.1 hY_kp
  obtain ⟨r9, rfl, hin_r9, hout_r9⟩ := hP _ _ _ rfl
  clear ho hr ha hE hP hI hx_
  rename x_I _ _ _ _ _ _ _ _ _ _ => hI
  refine lv_if_ne hx hb Tfr_d12 (tgt := 22) (by decide) (fun q12 => ?_) (fun q12 => ?_)
  · have q12_ : ¬ r9.toInt = (0 : Int32).toInt := fun q => q12 (Int32.toInt_inj.mp q)
    have hw := hin_r9 (by assumption)
    obtain ⟨hd9, dr9, kp9, tx9, by9, kk, ⟨e1, hs_dr, e2, -⟩, ⟨-, hY_dr, -, -, -, hYk⟩, hL, ⟨fd, hLdr⟩, hkk, ⟨hdd, hdk, -⟩, -⟩ := id hR
    cases hs_hd.symm.trans e1
    cases hs_kp.symm.trans e2
    refine lv_aload_n hx hb Tfr_d22 rfl (lv_at hl 0 rfl) ?_
    refine y_getf X (fl158 X.2.2.2.2.1) hI.1 hY_this rfl hs_kp Tfr_d23 ?_
    refine lv_iload_n hx hb Tfr_d26 rfl (lv_at hl 1 rfl) ?_
    have hv27 := (hkk i.toInt.toNat (by omega)).1
    rcases hki : kk i.toInt.toNat with _ | q27
    · replace hv27 : y_at kp i.toInt.toNat Hn = some .null := by rw [hki] at hv27; exact hv27
      refine y_aald X hI.1 hY_kp rfl (by omega) (by show _ < (2 : Int); omega) hv27 Tfr_d27 ?_
      refine lv_ifnonnullN hx hb Tfr_d28 ?_
      have hK9 : K i.toInt.toNat = none := by rcases (hkk i.toInt.toNat (by omega)).2 with ⟨-, e9⟩ | ⟨a9, g9, e9, -⟩; exact e9; (rw [hki] at e9; cases e9)
      refine lv_aload_n hx hb Tfr_d31 rfl (lv_at hl 0 rfl) ?_
      refine lv_bipush hx hb Tfr_d32 (v := (-3)) (by decide) ?_
      have ecm3 : ((-3) : Int32).toInt = (-3) := by decide
      refine y_call (z := (0, 59, 2, some 0, xM8)) (av := [.ref this, .int ((-3) : Int32)]) (rest := []) (y_cokV (n := 1) (ci := 11) X ym_counted rfl rfl rfl (x_cons (x_bw19 7 rfl rfl) (x_cons (x_bw19 9 rfl rfl) (x_cons (x_at 1 (by decide +kernel) rfl) (x_cons (x_bw0 1 rfl rfl) x_nilm)))) (x_bw19 10 rfl rfl) (by decide +kernel) ⟨Nat.le_of_ble_eq_true rfl, Nat.le_of_ble_eq_true rfl⟩) hY0 hI rfl Tfr_d34 hl.1 (Nat.le_of_ble_eq_true rfl) (Nat.le_of_ble_eq_true rfl) (Nat.le_of_ble_eq_true rfl) (y_cons (y_cref hY_this rfl) (y_cons ⟨_, rfl, x_i32 _⟩ y_nil)) rfl (y_recv rfl hY_this) trivial (y_sub_ef rfl) fun v Yn o Hn L ho hr ha hIn hx_ hE hP => ?_
      replace hR := hR.E hY_this hE (fun q u h => y_ext hx_ hI.1 h) (by decide +kernel)
      replace hs_hd := y_Efld hE hY_this rfl (by decide) (by decide) hs_hd
      replace hs_kp := y_Efld hE hY_this rfl (by decide) (by decide) hs_kp
      replace hY_this := y_ext hx_ hI.1 hY_this
      replace hY_hd := y_ext hx_ hI.1 hY_hd
      replace hY_kp := y_ext hx_ hI.1 hY_kp
      obtain rfl := hP _ _ rfl
      clear ho hr ha hE hP hI hx_
      rename x_I _ _ _ _ _ _ _ _ _ _ => hI
      exact y_ireturn B hI rfl rfl rfl List.mem_cons_self ⟨_, rfl, ⟨_, rfl, x_i32 _⟩⟩ (x_cs.mono B.2.2.2.2.2 (y_mon B hI)) (fun t' i' f' K' tt' nn' h1 h2 => by cases h1; obtain ⟨ef, et, en, eK⟩ := hR0.eqs h2; subst ef et en; exact ⟨_, _, rfl, hR.congr eK, fun q9 => absurd (show 0 ≤ i.toInt ∧ i.toInt ≤ 1 by omega) q9, fun _ _ => ⟨rfl, rfl⟩, fun _ h9 q9 => by rw [← (eK i.toInt.toNat (by omega)), hK9] at q9; cases q9⟩) (by exact Nat.le_of_ble_eq_true rfl) (by exact Nat.le_of_ble_eq_true rfl) Tfr_d37
    · replace hv27 : y_at kp i.toInt.toNat Hn = some (.ref q27) := by rw [hki] at hv27; exact hv27
      refine y_aald X hI.1 hY_kp rfl (by omega) (by show _ < (2 : Int); omega) hv27 Tfr_d27 ?_
      refine lv_ifnonnull hx hb Tfr_d28 (tgt := 38) (by decide) ?_
      obtain ⟨gq, hK9, hLq⟩ : ∃ gq, K i.toInt.toNat = some gq ∧ z_L D Yn q27 Hn gq := by rcases (hkk i.toInt.toNat (by omega)).2 with ⟨e9, -⟩ | ⟨a9, g9, e9, e8, e7⟩; (rw [hki] at e9; cases e9); (rw [hki] at e9; cases e9; exact ⟨_, e8, e7⟩)
      have hY_q27 := hYk _ _ hki
      have hdq := (hdk _ _ (by omega) hki).1
      refine lv_aload_n hx hb Tfr_d38 rfl (lv_at hl 0 rfl) ?_
      refine y_getf X (fl8 X.2.2.2.2.1) hI.1 hY_this rfl hs_hd Tfr_d39 ?_
      refine lv_aload_n hx hb Tfr_d42 rfl (lv_at hl 0 rfl) ?_
      refine y_getf X (fl158 X.2.2.2.2.1) hI.1 hY_this rfl hs_kp Tfr_d43 ?_
      refine lv_iload_n hx hb Tfr_d46 rfl (lv_at hl 1 rfl) ?_
      refine y_aald X hI.1 hY_kp rfl (by omega) (by show _ < (2 : Int); omega) hv27 Tfr_d47 ?_
      refine y_call (z := (0, 148, 2, some 2, xM58)) (av := [.ref hd, .ref q27]) (rest := []) (y_cokV (n := 1) (ci := 2) X ym_copyX rfl rfl rfl (x_cons (x_bw34 15 rfl rfl) (x_cons (x_bw35 0 rfl rfl) (x_cons (x_bw35 1 rfl rfl) (x_cons (x_bw0 2 rfl rfl) x_nilm)))) (x_bw35 2 rfl rfl) (by decide +kernel) ⟨Nat.le_of_ble_eq_true rfl, Nat.le_of_ble_eq_true rfl⟩) hY0 hI rfl Tfr_d48 hl.1 (Nat.le_of_ble_eq_true rfl) (Nat.le_of_ble_eq_true rfl) (Nat.le_of_ble_eq_true rfl) (y_cons (y_cref hY_hd rfl) (y_cons (y_cref hY_q27 rfl) y_nil)) rfl (y_recv rfl hY_hd) (fun t' o' h1 => by cases h1; exact ⟨_, hLq, hdq.symm⟩) (y_sub_ef rfl) fun v Yn o Hn L ho hr ha hIn hx_ hE hP => ?_
      obtain ⟨hF9, hL9, hf9⟩ := hP _ _ _ rfl hLq
      replace hR := hR.fin hY_this hs_hd hF9.toq hL9 hf9 (fun q u h => y_ext hx_ hI.1 h)
      replace hs_hd := y_Efld hE hY_this rfl (by decide) (by decide) hs_hd
      replace hs_kp := y_Efld hE hY_this rfl (by decide) (by decide) hs_kp
      replace hY_this := y_ext hx_ hI.1 hY_this
      replace hY_hd := y_ext hx_ hI.1 hY_hd
      replace hY_kp := y_ext hx_ hI.1 hY_kp
      replace hY_q27 := y_ext hx_ hI.1 hY_q27
      obtain rfl := y_ansV rfl ho hr
      clear ho hr ha hE hP hI hx_
      rename x_I _ _ _ _ _ _ _ _ _ _ => hI
      refine lv_iconst hx hb Tfr_d51 (v := 1) (by decide) ?_
      exact y_ireturn B hI rfl rfl rfl List.mem_cons_self ⟨_, rfl, ⟨_, rfl, x_i32 _⟩⟩ (x_cs.mono B.2.2.2.2.2 (y_mon B hI)) (fun t' i' f' K' tt' nn' h1 h2 => by cases h1; obtain ⟨ef, et, en, eK⟩ := hR0.eqs h2; subst ef et en; exact ⟨_, _, rfl, hR.congr eK, fun q9 => absurd (show 0 ≤ i.toInt ∧ i.toInt ≤ 1 by omega) q9, fun _ q9 => (by rw [← (eK i.toInt.toNat (by omega)), hK9] at q9; cases q9), fun _ h9 q9 => by rw [← (eK i.toInt.toNat (by omega)), hK9] at q9; cases q9; exact ⟨rfl, rfl⟩⟩) (by exact Nat.le_of_ble_eq_true rfl) (by exact Nat.le_of_ble_eq_true rfl) Tfr_d52
  · have q12_ : r9.toInt = (0 : Int32).toInt := by rw [q12]
    have hw := hout_r9 (by assumption)
    refine lv_aload_n hx hb Tfr_d15 rfl (lv_at hl 0 rfl) ?_
    refine lv_bipush hx hb Tfr_d16 (v := (-2)) (by decide) ?_
    have ecm2 : ((-2) : Int32).toInt = (-2) := by decide
    refine y_call (z := (0, 59, 2, some 0, xM8)) (av := [.ref this, .int ((-2) : Int32)]) (rest := []) (y_cokV (n := 1) (ci := 11) X ym_counted rfl rfl rfl (x_cons (x_bw19 7 rfl rfl) (x_cons (x_bw19 9 rfl rfl) (x_cons (x_at 1 (by decide +kernel) rfl) (x_cons (x_bw0 1 rfl rfl) x_nilm)))) (x_bw19 10 rfl rfl) (by decide +kernel) ⟨Nat.le_of_ble_eq_true rfl, Nat.le_of_ble_eq_true rfl⟩) hY0 hI rfl Tfr_d18 hl.1 (Nat.le_of_ble_eq_true rfl) (Nat.le_of_ble_eq_true rfl) (Nat.le_of_ble_eq_true rfl) (y_cons (y_cref hY_this rfl) (y_cons ⟨_, rfl, x_i32 _⟩ y_nil)) rfl (y_recv rfl hY_this) trivial (y_sub_ef rfl) fun v Yn o Hn L ho hr ha hIn hx_ hE hP => ?_
    replace hR := hR.E hY_this hE (fun q u h => y_ext hx_ hI.1 h) (by decide +kernel)
    replace hs_hd := y_Efld hE hY_this rfl (by decide) (by decide) hs_hd
    replace hs_kp := y_Efld hE hY_this rfl (by decide) (by decide) hs_kp
    replace hY_this := y_ext hx_ hI.1 hY_this
    replace hY_hd := y_ext hx_ hI.1 hY_hd
    replace hY_kp := y_ext hx_ hI.1 hY_kp
    obtain rfl := hP _ _ rfl
    clear ho hr ha hE hP hI hx_
    rename x_I _ _ _ _ _ _ _ _ _ _ => hI
    exact y_ireturn B hI rfl rfl rfl List.mem_cons_self ⟨_, rfl, ⟨_, rfl, x_i32 _⟩⟩ (x_cs.mono B.2.2.2.2.2 (y_mon B hI)) (fun t' i' f' K' tt' nn' h1 h2 => by cases h1; obtain ⟨ef, et, en, eK⟩ := hR0.eqs h2; subst ef et en; exact ⟨_, _, rfl, hR.congr eK, fun _ => ⟨rfl, rfl⟩, fun q9 => absurd q9 (by omega), fun q9 => absurd q9 (by omega)⟩) (by exact Nat.le_of_ble_eq_true rfl) (by exact Nat.le_of_ble_eq_true rfl) Tfr_d21
theorem z_new36 {D : va_G} {U : State} {Y : xY} {H H' : Heap} {r c : Nat} {f : Nat → Int32} (hH : x_H D x_G x_Zs U Y H) (hc : Y c = some 3) (hL : z_L D Y r H f) (hr : Y r = some 2) (hfr : ∀ k a : Nat, k < 16 → x_sl D 2 k c H' = some (.ref a) → H.size ≤ a) (hK : ∀ b u g, Y b = some u → x_G[u]? = some g → b ≠ c → x_eq D g b H H') : z_dis D H' r c := by
  have hrc := z_Yne hr hc (by decide)
  have hL9 : z_L D Y r H' f := hL.moved hr (fun b u _ _ hb => hb) (fun b u g hb hu hg => hK b u g hb hg (z_Yne hb hc (by omega)))
  have hfl : ∀ k, k < 16 → x_sl D 2 k r H' = x_sl D 2 k r H := fun k hk => (hK r 2 _ hr rfl hrc) k hk
  refine z_dis.fresh hL9 hrc (fun k a hk ha => ?_) hfr
  rw [hfl k hk] at ha
  rcases hL.own hk ha with ⟨c9, -, -, e⟩ | ⟨-, e⟩
  · exact hH.lt e
  · exact hH.lt e
theorem z_RC.newD {D : va_G} {U : State} {Y : xY} {H H' : Heap} {q c kp : Nat} {f t : Nat → Int32} {K : Nat → Option (Nat → Int32)} {n : Int32} (h : z_RC D Y H q f K t n) (hq : Y q = some 0) (hH : x_H D x_G x_Zs U Y H) (hc : Y c = some 3) (hkp : x_sl D 11 2 q H = some (.ref kp)) (hfr : ∀ k a : Nat, k < 16 → x_sl D 2 k c H' = some (.ref a) → H.size ≤ a) (hK : ∀ b u g, Y b = some u → x_G[u]? = some g → b ≠ c → x_eq D g b H H') : ∀ r : Nat, (x_sl D 11 0 q H' = some (.ref r) ∨ x_sl D 11 1 q H' = some (.ref r) ∨ ∃ j, j < 2 ∧ y_at kp j H' = some (.ref r)) → z_dis D H' r c := by
  obtain ⟨hd, dr, kp', tx, by_, k, ⟨a1, a2, a3, a4, a5, a6⟩, ⟨b1, b2, b3, b4, b5, b6⟩, l1, ⟨f', l2⟩, kk, -⟩ := h
  cases hkp.symm.trans a3
  have hq9 := hK q 0 _ hq rfl (z_Yne hq hc (by decide))
  have hkp9 : H'[kp]? = H[kp]? := hK kp 41 _ b3 rfl (z_Yne b3 hc (by decide))
  intro r hr
  rcases hr with hr | hr | ⟨j, hj, hr⟩
  · rw [hq9 0 (by decide)] at hr
    cases a1.symm.trans hr
    exact z_new36 hH hc l1 b1 hfr hK
  · rw [hq9 1 (by decide)] at hr
    cases a2.symm.trans hr
    exact z_new36 hH hc l2 b2 hfr hK
  · rw [z_atk hkp9, (kk j hj).1] at hr
    injection hr with hr
    rcases (kk j hj).2 with ⟨e1, -⟩ | ⟨a, g9, e1, e2, e3⟩
    · rw [e1] at hr; cases hr
    · rw [e1] at hr
      injection hr with hr
      subst hr
      exact z_new36 hH hc e3 (b6 j a e1) hfr hK
theorem Tim_d0 : decode xMgi.2.1 0 = .ok (.iload_n 1, 1) := dz_ok (by decide +kernel)
theorem Tim_d1 : decode xMgi.2.1 1 = .ok (.iconst 0, 1) := dz_ok (by decide +kernel)
theorem Tim_d2 : decode xMgi.2.1 2 = .ok (.aload_n 0, 1) := dz_ok (by decide +kernel)
theorem Tim_d3 : decode xMgi.2.1 3 = .ok (.getfield 19, 3) := dz_ok (by decide +kernel)
theorem Tim_d6 : decode xMgi.2.1 6 = .ok (.arraylength, 1) := dz_ok (by decide +kernel)
theorem Tim_d7 : decode xMgi.2.1 7 = .ok (.iconst 1, 1) := dz_ok (by decide +kernel)
theorem Tim_d8 : decode xMgi.2.1 8 = .ok (.isub, 1) := dz_ok (by decide +kernel)
theorem Tim_d9 : decode xMgi.2.1 9 = .ok (.invokestatic 88, 3) := dz_ok (by decide +kernel)
theorem Tim_d12 : decode xMgi.2.1 12 = .ok (.ifCond .ne 10, 3) := dz_ok (by decide +kernel)
theorem Tim_d15 : decode xMgi.2.1 15 = .ok (.aload_n 0, 1) := dz_ok (by decide +kernel)
theorem Tim_d16 : decode xMgi.2.1 16 = .ok (.bipush (-2), 2) := dz_ok (by decide +kernel)
theorem Tim_d18 : decode xMgi.2.1 18 = .ok (.invokevirtual 59, 3) := dz_ok (by decide +kernel)
theorem Tim_d21 : decode xMgi.2.1 21 = .ok (.ireturn, 1) := dz_ok (by decide +kernel)
theorem Tim_d22 : decode xMgi.2.1 22 = .ok (.aload_n 0, 1) := dz_ok (by decide +kernel)
theorem Tim_d23 : decode xMgi.2.1 23 = .ok (.getfield 19, 3) := dz_ok (by decide +kernel)
theorem Tim_d26 : decode xMgi.2.1 26 = .ok (.iload_n 1, 1) := dz_ok (by decide +kernel)
theorem Tim_d27 : decode xMgi.2.1 27 = .ok (.aaload, 1) := dz_ok (by decide +kernel)
theorem Tim_d28 : decode xMgi.2.1 28 = .ok (.ifnonnull 16, 3) := dz_ok (by decide +kernel)
theorem Tim_d31 : decode xMgi.2.1 31 = .ok (.aload_n 0, 1) := dz_ok (by decide +kernel)
theorem Tim_d32 : decode xMgi.2.1 32 = .ok (.getfield 19, 3) := dz_ok (by decide +kernel)
theorem Tim_d35 : decode xMgi.2.1 35 = .ok (.iload_n 1, 1) := dz_ok (by decide +kernel)
theorem Tim_d36 : decode xMgi.2.1 36 = .ok (.new 9, 3) := dz_ok (by decide +kernel)
theorem Tim_d39 : decode xMgi.2.1 39 = .ok (.dup, 1) := dz_ok (by decide +kernel)
theorem Tim_d40 : decode xMgi.2.1 40 = .ok (.invokespecial 11, 3) := dz_ok (by decide +kernel)
theorem Tim_d43 : decode xMgi.2.1 43 = .ok (.aastore, 1) := dz_ok (by decide +kernel)
theorem Tim_d44 : decode xMgi.2.1 44 = .ok (.aload_n 0, 1) := dz_ok (by decide +kernel)
theorem Tim_d45 : decode xMgi.2.1 45 = .ok (.getfield 19, 3) := dz_ok (by decide +kernel)
theorem Tim_d48 : decode xMgi.2.1 48 = .ok (.iload_n 1, 1) := dz_ok (by decide +kernel)
theorem Tim_d49 : decode xMgi.2.1 49 = .ok (.aaload, 1) := dz_ok (by decide +kernel)
theorem Tim_d50 : decode xMgi.2.1 50 = .ok (.aload_n 0, 1) := dz_ok (by decide +kernel)
theorem Tim_d51 : decode xMgi.2.1 51 = .ok (.getfield 12, 3) := dz_ok (by decide +kernel)
theorem Tim_d54 : decode xMgi.2.1 54 = .ok (.invokevirtual 148, 3) := dz_ok (by decide +kernel)
theorem Tim_d57 : decode xMgi.2.1 57 = .ok (.iconst 1, 1) := dz_ok (by decide +kernel)
theorem Tim_d58 : decode xMgi.2.1 58 = .ok (.ireturn, 1) := dz_ok (by decide +kernel)
theorem ym_Timage : y_Met vwCl x_G x_Zs x_Tb x_Nb xMgi z_ATF z_PTim := by
  refine y_main (by decide +kernel) (by decide +kernel) x_Tb_good x_Nb_ok ?_
  intro p l e s m below meth c D U Y0 av ls B hI hpre hl
  have X := B.1
  have hx := X.1
  have hb := X.2.1
  have hY0 := B.2.2.2.2.1
  have hts := X.2.2.2.2.1
  obtain ⟨v0, v1, rfl, hv0, ⟨i, rfl, -⟩⟩ := x_two B.2.2.2.2.2
  obtain ⟨this, t0, rfl, ht0, hY_this⟩ := x_ref_at hv0 rfl
  obtain rfl := List.mem_singleton.mp ht0
  replace hl : lv_has ls xMgi.2.2.1 [(0, .ref this), (1, .int i)] := hl
  obtain ⟨f, K, tt, nn, hR⟩ := hpre _ rfl
  have hR0 := hR
  obtain ⟨hd, -, kp, -, -, -, ⟨hs_hd, -, hs_kp, -⟩, ⟨hY_hd, -, hY_kp, -⟩, -⟩ := id hR
  refine lv_iload_n hx hb Tim_d0 rfl (lv_at hl 1 rfl) ?_
  refine lv_iconst hx hb Tim_d1 (v := 0) (by decide) ?_
  have ec0 : (0 : Int32).toInt = 0 := by decide
  refine lv_aload_n hx hb Tim_d2 rfl (lv_at hl 0 rfl) ?_
  refine y_getf X (fl158 X.2.2.2.2.1) hI.1 hY_this rfl hs_kp Tim_d3 ?_
  refine y_alen X hI.1 hY_kp rfl Tim_d6 ?_
  have h_nI2 : (nI 2).toInt = 2 := by decide
  refine lv_iconst hx hb Tim_d7 (v := 1) (by decide) ?_
  have ec1 : (1 : Int32).toInt = 1 := by decide
  refine lv_isub hx hb Tim_d8 ?_
  generalize hg_z8 : (nI 2) - (1 : Int32) = z8
  have h_z8 : z8.toInt = (nI 2).toInt - 1 := by rw [← hg_z8]; have := y_sub (x := (nI 2)) (y := (1 : Int32)) (by rw [ec1]; omega) (by rw [ec1]; omega); rw [ec1] at this; exact this
  refine y_call (z := (1, 88, 3, none, xM10)) (av := [.int i, .int (0 : Int32), .int z8]) (rest := []) (y_cokS (n := 3) X ym_within (x_cons (x_bw19 15 rfl rfl) (x_cons (x_bw19 1 rfl rfl) (x_cons (x_bw0 1 rfl rfl) x_nilm))) (x_bw19 2 rfl rfl) (by decide +kernel) ⟨Nat.le_of_ble_eq_true rfl, Nat.le_of_ble_eq_true rfl⟩) hY0 hI rfl Tim_d9 hl.1 (Nat.le_of_ble_eq_true rfl) (Nat.le_of_ble_eq_true rfl) (Nat.le_of_ble_eq_true rfl) (y_cons ⟨_, rfl, x_i32 _⟩ (y_cons ⟨_, rfl, x_i32 _⟩ (y_cons ⟨_, rfl, x_i32 _⟩ y_nil))) rfl (y_norecv rfl) trivial (y_sub_ef rfl) fun v Yn o Hn L ho hr ha hIn hx_ hE hP => ?_
  replace hR := hR.E hY_this hE (fun q u h => y_ext hx_ hI.1 h) (by decide +kernel)
  replace hs_hd := y_Efld hE hY_this rfl (by decide) (by decide) hs_hd
  replace hs_kp := y_Efld hE hY_this rfl (by decide) (by decide) hs_kp
  replace hY_this := y_ext hx_ hI.1 hY_this
  replace hY_hd := y_ext hx_ hI.1 hY_hd
  replace hY_kp := y_ext hx_ hI.1 hY_kp
  obtain ⟨r9, rfl, hin_r9, hout_r9⟩ := hP _ _ _ rfl
  clear ho hr ha hE hP hI hx_
  rename x_I _ _ _ _ _ _ _ _ _ _ => hI
  refine lv_if_ne hx hb Tim_d12 (tgt := 22) (by decide) (fun q12 => ?_) (fun q12 => ?_)
  · have q12_ : ¬ r9.toInt = (0 : Int32).toInt := fun q => q12 (Int32.toInt_inj.mp q)
    have hw := hin_r9 (by assumption)
    obtain ⟨hd9, dr9, kp9, tx9, by9, kk, ⟨e1, hs_dr, e2, -⟩, ⟨-, hY_dr, -, -, -, hYk⟩, hL, ⟨fd, hLdr⟩, hkk, ⟨hdd, hdk, -⟩, -⟩ := id hR
    cases hs_hd.symm.trans e1
    cases hs_kp.symm.trans e2
    refine lv_aload_n hx hb Tim_d22 rfl (lv_at hl 0 rfl) ?_
    refine y_getf X (fl158 X.2.2.2.2.1) hI.1 hY_this rfl hs_kp Tim_d23 ?_
    refine lv_iload_n hx hb Tim_d26 rfl (lv_at hl 1 rfl) ?_
    have hv27 := (hkk i.toInt.toNat (by omega)).1
    rcases hki : kk i.toInt.toNat with _ | q27
    · replace hv27 : y_at kp i.toInt.toNat Hn = some .null := by rw [hki] at hv27; exact hv27
      refine y_aald X hI.1 hY_kp rfl (by omega) (by show _ < (2 : Int); omega) hv27 Tim_d27 ?_
      refine lv_ifnonnullN hx hb Tim_d28 ?_
      have hK9 : K i.toInt.toNat = none := by rcases (hkk i.toInt.toNat (by omega)).2 with ⟨-, e9⟩ | ⟨a9, g9, e9, -⟩; exact e9; (rw [hki] at e9; cases e9)
      refine lv_aload_n hx hb Tim_d31 rfl (lv_at hl 0 rfl) ?_
      refine y_getf X (fl158 X.2.2.2.2.1) hI.1 hY_this rfl hs_kp Tim_d32 ?_
      refine lv_iload_n hx hb Tim_d35 rfl (lv_at hl 1 rfl) ?_
      refine y_newoC (tag := 3) (ty := tyX2) X hY0 hI rfl rfl iX2 tyX2_ok (hts _ (x_bw1 14 rfl rfl)) (hts _ (x_bw1 15 rfl rfl)) (hts _ (x_bw0 2 rfl rfl)) (x_dfl (by decide +kernel)) (Nat.le_of_ble_eq_true rfl) (Nat.le_of_ble_eq_true rfl) Tim_d36 fun Yn H n36 hnw hct => ?_
      obtain ⟨hIn, hmo, hY_n36, hfr_n36, hke⟩ := hnw
      replace hs_hd := y_slk hs_hd (hke _ _ hY_this)
      replace hs_kp := y_slk hs_kp (hke _ _ hY_this)
      replace hR := hR.moved hY_this (fun b u _ hb => hmo b u hb) (fun b u g hb _ _ => x_eq.of (hke b u hb))
      replace hL := hL.moved hY_hd (fun b u _ _ hb => hmo b u hb) (fun b u g hb _ _ => x_eq.of (hke b u hb))
      replace hv27 := (z_atk (hke _ _ hY_kp)).trans hv27
      replace hY_this := hmo _ _ hY_this
      replace hY_hd := hmo _ _ hY_hd
      replace hY_kp := hmo _ _ hY_kp
      replace hI := hIn
      clear hIn hmo hke
      have hd_n36_0 := hct 0 (by decide)
      have hd_n36_6 := hct 6 (by decide)
      have hd_n36_12 := hct 12 (by decide)
      clear hct
      refine lv_dup hx hb Tim_d39 rfl ?_
      refine y_callCP (z := (2, 11, 1, none, xMli)) (b := n36) (rest := [.ref n36, .int i, .ref kp]) (y_cokI (n := 0) X ym_landInitX rfl (x_cons (x_bw2 0 rfl rfl) (x_cons (x_bw2 1 rfl rfl) (x_cons (x_bw0 2 rfl rfl) x_nilm))) (x_bw2 2 rfl rfl) rfl (fun Y av h => x_this h) (by decide +kernel) ⟨Nat.le_of_ble_eq_true rfl, Nat.le_of_ble_eq_true rfl⟩) hY0 hI rfl Tim_d40 hl.1 (Nat.le_of_ble_eq_true rfl) (Nat.le_of_ble_eq_true rfl) (Nat.le_of_ble_eq_true rfl) (y_cons (y_cref hY_n36 rfl) y_nil) rfl rfl (fun t' h1 => by cases h1; exact ⟨hd_n36_0, hd_n36_6, hd_n36_12⟩) (y_sub_ef rfl) hfr_n36 rfl fun Yn Hn L hIn hY_n hk hE hP => ?_
      obtain ⟨hLn, hfrn, hKn⟩ := hP _ rfl
      have hdn := z_new36 hI.1 hY_n36 hL hY_hd hfrn hKn
      have hRd := hR.newD hY_this hI.1 hY_n36 hs_kp hfrn hKn
      replace hL := hL.moved hY_hd (fun b u h1 h2 hb => hk b u (z_Yne hb hY_n36 (by omega)) hb) (fun b u g hb hu hg => hKn b u g hb hg (z_Yne hb hY_n36 (by omega)))
      replace hR := hR.moved hY_this (fun b u hu hb => hk b u (z_Yne hb hY_n36 hu) hb) (fun b u g hb hu hg => hKn b u g hb hg (z_Yne hb hY_n36 hu))
      replace hv27 := (z_atk (hKn kp 41 _ hY_kp rfl (y_ne hY_kp hY_n36 rfl))).trans hv27
      replace hs_hd := ((hKn _ _ _ hY_this rfl (y_ne hY_this hY_n36 rfl)) 0 (by decide)).trans hs_hd
      replace hs_kp := ((hKn _ _ _ hY_this rfl (y_ne hY_this hY_n36 rfl)) 2 (by decide)).trans hs_kp
      replace hY_this := hk _ _ (y_ne hY_this hY_n36 rfl) hY_this
      replace hY_hd := hk _ _ (y_ne hY_hd hY_n36 rfl) hY_hd
      replace hY_kp := hk _ _ (y_ne hY_kp hY_n36 rfl) hY_kp
      replace hY_n36 := hY_n
      clear hI hE hk hY_n hP
      rename x_I _ _ _ _ _ _ _ _ _ _ => hI
      have hs_kp0 := hs_kp
      refine y_aast X hY0 hI hY_kp rfl hY_n36 rfl rfl (x_castSelf (X.2.2.2.2.2.1.1 2 _ rfl).2) (by omega) (by show _ < (2 : Int); omega) (y_crefA hY_n36 rfl) (by decide +kernel) Tim_d43 fun H locs hI h_at h_ne ho => ?_
      replace hs_hd := y_slk hs_hd (ho _ (y_ne hY_this hY_kp rfl))
      replace hs_kp := y_slk hs_kp (ho _ (y_ne hY_this hY_kp rfl))
      replace hR := hR.newK hY_this (i := i.toInt.toNat) (by omega) hs_kp0 hv27 hY_n36 hLn hRd h_at h_ne ho
      have hdq : z_dis D H hd n36 := hdn.moved (fun k _ _ _ _ => y_slk rfl (ho _ (y_ne hY_hd hY_kp rfl))) (fun k _ _ _ _ => y_slk rfl (ho _ (y_ne hY_n36 hY_kp rfl)))
      replace hL := hL.moved hY_hd (fun b u _ _ hb => hb) (fun b u g hb hu hg => x_eq.of (ho b (z_Yne hb hY_kp (by omega))))
      refine lv_aload_n hx hb Tim_d44 rfl (lv_at hl 0 rfl) ?_
      refine y_getf X (fl158 X.2.2.2.2.1) hI.1 hY_this rfl hs_kp Tim_d45 ?_
      refine lv_iload_n hx hb Tim_d48 rfl (lv_at hl 1 rfl) ?_
      refine y_aald X hI.1 hY_kp rfl (by omega) (by show _ < (2 : Int); omega) h_at Tim_d49 ?_
      refine lv_aload_n hx hb Tim_d50 rfl (lv_at hl 0 rfl) ?_
      refine y_getf X (fl8 X.2.2.2.2.1) hI.1 hY_this rfl hs_hd Tim_d51 ?_
      refine y_call (z := (0, 148, 2, some 2, xM58)) (av := [.ref n36, .ref hd]) (rest := []) (y_cokV (n := 1) (ci := 2) X ym_copyX rfl rfl rfl (x_cons (x_bw34 15 rfl rfl) (x_cons (x_bw35 0 rfl rfl) (x_cons (x_bw35 1 rfl rfl) (x_cons (x_bw0 2 rfl rfl) x_nilm)))) (x_bw35 2 rfl rfl) (by decide +kernel) ⟨Nat.le_of_ble_eq_true rfl, Nat.le_of_ble_eq_true rfl⟩) hY0 hI rfl Tim_d54 hl.1 (Nat.le_of_ble_eq_true rfl) (Nat.le_of_ble_eq_true rfl) (Nat.le_of_ble_eq_true rfl) (y_cons (y_cref hY_n36 rfl) (y_cons (y_cref hY_hd rfl) y_nil)) rfl (y_recv rfl hY_n36) (fun t' o' h1 => by cases h1; exact ⟨_, hL, hdq⟩) (y_sub_ef rfl) fun v Yn o Hn L ho hr ha hIn hx_ hE hP => ?_
      obtain ⟨hF9, hL9, hf9⟩ := hP _ _ _ rfl hL
      replace hR := hR.finK hY_this (i := i.toInt.toNat) (by omega) hs_kp h_at hF9.toq hL9 hf9 (fun q u h => y_ext hx_ hI.1 h)
      replace hs_hd := y_Efld hE hY_this rfl (by decide) (by decide) hs_hd
      replace hs_kp := y_Efld hE hY_this rfl (by decide) (by decide) hs_kp
      replace hY_this := y_ext hx_ hI.1 hY_this
      replace hY_hd := y_ext hx_ hI.1 hY_hd
      replace hY_kp := y_ext hx_ hI.1 hY_kp
      replace hY_n36 := y_ext hx_ hI.1 hY_n36
      obtain rfl := y_ansV rfl ho hr
      clear ho hr ha hE hP hI hx_
      rename x_I _ _ _ _ _ _ _ _ _ _ => hI
      refine lv_iconst hx hb Tim_d57 (v := 1) (by decide) ?_
      exact y_ireturn B hI rfl rfl rfl List.mem_cons_self ⟨_, rfl, ⟨_, rfl, x_i32 _⟩⟩ (x_cs.mono B.2.2.2.2.2 (y_mon B hI)) (fun t' i' f' K' tt' nn' h1 h2 => by cases h1; obtain ⟨ef, et, en, eK⟩ := hR0.eqs h2; subst ef et en; exact ⟨by unfold m_imgR; rw [if_pos (by omega)], hR.congr (fun j hj => by unfold m_imgK; by_cases ej : j = i.toInt.toNat; (rw [if_pos ej, if_pos ⟨by omega, ej⟩]); rw [if_neg ej, if_neg ej, if_neg (fun q9 => ej q9.2)]; exact eK j hj)⟩) (by exact Nat.le_of_ble_eq_true rfl) (by exact Nat.le_of_ble_eq_true rfl) Tim_d58
    · replace hv27 : y_at kp i.toInt.toNat Hn = some (.ref q27) := by rw [hki] at hv27; exact hv27
      refine y_aald X hI.1 hY_kp rfl (by omega) (by show _ < (2 : Int); omega) hv27 Tim_d27 ?_
      refine lv_ifnonnull hx hb Tim_d28 (tgt := 44) (by decide) ?_
      obtain ⟨gq, hK9, hLq⟩ : ∃ gq, K i.toInt.toNat = some gq ∧ z_L D Yn q27 Hn gq := by rcases (hkk i.toInt.toNat (by omega)).2 with ⟨e9, -⟩ | ⟨a9, g9, e9, e8, e7⟩; (rw [hki] at e9; cases e9); (rw [hki] at e9; cases e9; exact ⟨_, e8, e7⟩)
      have hY_q27 := hYk _ _ hki
      have hdq := (hdk _ _ (by omega) hki).1
      refine lv_aload_n hx hb Tim_d44 rfl (lv_at hl 0 rfl) ?_
      refine y_getf X (fl158 X.2.2.2.2.1) hI.1 hY_this rfl hs_kp Tim_d45 ?_
      refine lv_iload_n hx hb Tim_d48 rfl (lv_at hl 1 rfl) ?_
      refine y_aald X hI.1 hY_kp rfl (by omega) (by show _ < (2 : Int); omega) hv27 Tim_d49 ?_
      refine lv_aload_n hx hb Tim_d50 rfl (lv_at hl 0 rfl) ?_
      refine y_getf X (fl8 X.2.2.2.2.1) hI.1 hY_this rfl hs_hd Tim_d51 ?_
      refine y_call (z := (0, 148, 2, some 2, xM58)) (av := [.ref q27, .ref hd]) (rest := []) (y_cokV (n := 1) (ci := 2) X ym_copyX rfl rfl rfl (x_cons (x_bw34 15 rfl rfl) (x_cons (x_bw35 0 rfl rfl) (x_cons (x_bw35 1 rfl rfl) (x_cons (x_bw0 2 rfl rfl) x_nilm)))) (x_bw35 2 rfl rfl) (by decide +kernel) ⟨Nat.le_of_ble_eq_true rfl, Nat.le_of_ble_eq_true rfl⟩) hY0 hI rfl Tim_d54 hl.1 (Nat.le_of_ble_eq_true rfl) (Nat.le_of_ble_eq_true rfl) (Nat.le_of_ble_eq_true rfl) (y_cons (y_cref hY_q27 rfl) (y_cons (y_cref hY_hd rfl) y_nil)) rfl (y_recv rfl hY_q27) (fun t' o' h1 => by cases h1; exact ⟨_, hL, hdq⟩) (y_sub_ef rfl) fun v Yn o Hn L ho hr ha hIn hx_ hE hP => ?_
      obtain ⟨hF9, hL9, hf9⟩ := hP _ _ _ rfl hL
      replace hR := hR.finK hY_this (i := i.toInt.toNat) (by omega) hs_kp hv27 hF9.toq hL9 hf9 (fun q u h => y_ext hx_ hI.1 h)
      replace hs_hd := y_Efld hE hY_this rfl (by decide) (by decide) hs_hd
      replace hs_kp := y_Efld hE hY_this rfl (by decide) (by decide) hs_kp
      replace hY_this := y_ext hx_ hI.1 hY_this
      replace hY_hd := y_ext hx_ hI.1 hY_hd
      replace hY_kp := y_ext hx_ hI.1 hY_kp
      replace hY_q27 := y_ext hx_ hI.1 hY_q27
      obtain rfl := y_ansV rfl ho hr
      clear ho hr ha hE hP hI hx_
      rename x_I _ _ _ _ _ _ _ _ _ _ => hI
      refine lv_iconst hx hb Tim_d57 (v := 1) (by decide) ?_
      exact y_ireturn B hI rfl rfl rfl List.mem_cons_self ⟨_, rfl, ⟨_, rfl, x_i32 _⟩⟩ (x_cs.mono B.2.2.2.2.2 (y_mon B hI)) (fun t' i' f' K' tt' nn' h1 h2 => by cases h1; obtain ⟨ef, et, en, eK⟩ := hR0.eqs h2; subst ef et en; exact ⟨by unfold m_imgR; rw [if_pos (by omega)], hR.congr (fun j hj => by unfold m_imgK; by_cases ej : j = i.toInt.toNat; (rw [if_pos ej, if_pos ⟨by omega, ej⟩]); rw [if_neg ej, if_neg (fun q9 => ej q9.2)]; exact eK j hj)⟩) (by exact Nat.le_of_ble_eq_true rfl) (by exact Nat.le_of_ble_eq_true rfl) Tim_d58
  · have q12_ : r9.toInt = (0 : Int32).toInt := by rw [q12]
    have hw := hout_r9 (by assumption)
    refine lv_aload_n hx hb Tim_d15 rfl (lv_at hl 0 rfl) ?_
    refine lv_bipush hx hb Tim_d16 (v := (-2)) (by decide) ?_
    have ecm2 : ((-2) : Int32).toInt = (-2) := by decide
    refine y_call (z := (0, 59, 2, some 0, xM8)) (av := [.ref this, .int ((-2) : Int32)]) (rest := []) (y_cokV (n := 1) (ci := 11) X ym_counted rfl rfl rfl (x_cons (x_bw19 7 rfl rfl) (x_cons (x_bw19 9 rfl rfl) (x_cons (x_at 1 (by decide +kernel) rfl) (x_cons (x_bw0 1 rfl rfl) x_nilm)))) (x_bw19 10 rfl rfl) (by decide +kernel) ⟨Nat.le_of_ble_eq_true rfl, Nat.le_of_ble_eq_true rfl⟩) hY0 hI rfl Tim_d18 hl.1 (Nat.le_of_ble_eq_true rfl) (Nat.le_of_ble_eq_true rfl) (Nat.le_of_ble_eq_true rfl) (y_cons (y_cref hY_this rfl) (y_cons ⟨_, rfl, x_i32 _⟩ y_nil)) rfl (y_recv rfl hY_this) trivial (y_sub_ef rfl) fun v Yn o Hn L ho hr ha hIn hx_ hE hP => ?_
    replace hR := hR.E hY_this hE (fun q u h => y_ext hx_ hI.1 h) (by decide +kernel)
    replace hs_hd := y_Efld hE hY_this rfl (by decide) (by decide) hs_hd
    replace hs_kp := y_Efld hE hY_this rfl (by decide) (by decide) hs_kp
    replace hY_this := y_ext hx_ hI.1 hY_this
    replace hY_hd := y_ext hx_ hI.1 hY_hd
    replace hY_kp := y_ext hx_ hI.1 hY_kp
    obtain rfl := hP _ _ rfl
    clear ho hr ha hE hP hI hx_
    rename x_I _ _ _ _ _ _ _ _ _ _ => hI
    exact y_ireturn B hI rfl rfl rfl List.mem_cons_self ⟨_, rfl, ⟨_, rfl, x_i32 _⟩⟩ (x_cs.mono B.2.2.2.2.2 (y_mon B hI)) (fun t' i' f' K' tt' nn' h1 h2 => by cases h1; obtain ⟨ef, et, en, eK⟩ := hR0.eqs h2; subst ef et en; exact ⟨by unfold m_imgR; rw [if_neg (by omega)], hR.congr (fun j hj => by unfold m_imgK; rw [if_neg (fun q9 => hw (by omega))]; exact eK j hj)⟩) (by exact Nat.le_of_ble_eq_true rfl) (by exact Nat.le_of_ble_eq_true rfl) Tim_d21

