def z_Pw : yP := fun _ av _ _ v _ _ => ∀ x lo hi : Int32, av = [.int x, .int lo, .int hi] → ∃ r : Int32, v = some (.int r) ∧ (¬ r = 0 → lo.toInt ≤ x.toInt ∧ x.toInt ≤ hi.toInt) ∧ (r = 0 → ¬ (lo.toInt ≤ x.toInt ∧ x.toInt ≤ hi.toInt))
def z_Pan : yP := fun _ av _ _ v _ _ => ∀ (this : Nat) (a x : Int32), av = [.ref this, .int a, .int x] → v = some (.int x)
def z_Pa1 : yP := fun _ av _ _ v _ _ => ∀ (this : Nat) (x : Int32), av = [.ref this, .int x] → v = some (.int x)
def z_Pbad : yP := fun _ _ _ _ v _ _ => v = some (.int (-2))
theorem wi_d0 : decode xM10.2.1 0 = .ok (.iload_n 0, 1) := dz_ok (by decide +kernel)
theorem wi_d1 : decode xM10.2.1 1 = .ok (.iload_n 1, 1) := dz_ok (by decide +kernel)
theorem wi_d2 : decode xM10.2.1 2 = .ok (.if_icmp .lt 12, 3) := dz_ok (by decide +kernel)
theorem wi_d5 : decode xM10.2.1 5 = .ok (.iload_n 0, 1) := dz_ok (by decide +kernel)
theorem wi_d6 : decode xM10.2.1 6 = .ok (.iload_n 2, 1) := dz_ok (by decide +kernel)
theorem wi_d7 : decode xM10.2.1 7 = .ok (.if_icmp .gt 7, 3) := dz_ok (by decide +kernel)
theorem wi_d10 : decode xM10.2.1 10 = .ok (.iconst 1, 1) := dz_ok (by decide +kernel)
theorem wi_d11 : decode xM10.2.1 11 = .ok (.goto 4, 3) := dz_ok (by decide +kernel)
theorem wi_d14 : decode xM10.2.1 14 = .ok (.iconst 0, 1) := dz_ok (by decide +kernel)
theorem wi_d15 : decode xM10.2.1 15 = .ok (.ireturn, 1) := dz_ok (by decide +kernel)
theorem ym_within : y_Met vwCl x_G x_Zs x_Tb x_Nb xM10 y_T z_Pw := by
  refine y_main (by decide +kernel) (by decide +kernel) x_Tb_good x_Nb_ok ?_
  intro p l e s m below meth c D U Y0 av ls B hI _ hl
  have X := B.1
  have hx := X.1
  have hb := X.2.1
  have hY0 := B.2.2.2.2.1
  obtain ⟨v0, v1, v2, rfl, ⟨x, rfl, -⟩, ⟨lo, rfl, -⟩, ⟨hi, rfl, -⟩⟩ := y_three B.2.2.2.2.2
  replace hl : lv_has ls xM10.2.2.1 [(0, .int x), (1, .int lo), (2, .int hi)] := hl
  refine lv_iload_n hx hb wi_d0 rfl (lv_at hl 0 rfl) ?_
  refine lv_iload_n hx hb wi_d1 rfl (lv_at hl 1 rfl) ?_
  refine lv_icmp_lt hx hb wi_d2 (tgt := 14) (by decide) (fun q2 => ?_) (fun q2 => ?_)
  · have q2_ : x.toInt < lo.toInt := x_lt32.mp q2
    refine lv_iconst hx hb wi_d14 (v := 0) (by decide) ?_
    have ec0 : (0 : Int32).toInt = 0 := by decide
    exact y_ireturn B hI rfl rfl rfl (List.mem_cons_of_mem _ List.mem_cons_self) ⟨_, rfl, ⟨_, rfl, by decide, by decide⟩⟩ (x_cs.mono B.2.2.2.2.2 (y_mon B hI)) (fun x' lo' hi' h1 => by cases h1; exact ⟨_, rfl, fun q => by first | exact absurd rfl q | omega, fun q => by first | exact absurd q (by decide) | omega⟩) (Nat.le_refl _) (Nat.le_refl _) wi_d15
  · have q2_ : lo.toInt ≤ x.toInt := Int.not_lt.mp fun q => q2 (x_lt32.mpr q)
    refine lv_iload_n hx hb wi_d5 rfl (lv_at hl 0 rfl) ?_
    refine lv_iload_n hx hb wi_d6 rfl (lv_at hl 2 rfl) ?_
    refine lv_icmp_gt hx hb wi_d7 (tgt := 14) (by decide) (fun q7 => ?_) (fun q7 => ?_)
    · have q7_ : hi.toInt < x.toInt := x_lt32.mp q7
      refine lv_iconst hx hb wi_d14 (v := 0) (by decide) ?_
      have ec0 : (0 : Int32).toInt = 0 := by decide
      exact y_ireturn B hI rfl rfl rfl (List.mem_cons_of_mem _ List.mem_cons_self) ⟨_, rfl, ⟨_, rfl, by decide, by decide⟩⟩ (x_cs.mono B.2.2.2.2.2 (y_mon B hI)) (fun x' lo' hi' h1 => by cases h1; exact ⟨_, rfl, fun q => by first | exact absurd rfl q | omega, fun q => by first | exact absurd q (by decide) | omega⟩) (Nat.le_refl _) (Nat.le_refl _) wi_d15
    · have q7_ : x.toInt ≤ hi.toInt := Int.not_lt.mp fun q => q7 (x_lt32.mpr q)
      refine lv_iconst hx hb wi_d10 (v := 1) (by decide) ?_
      have ec1 : (1 : Int32).toInt = 1 := by decide
      refine lv_goto hx hb wi_d11 (tgt := 15) (by decide) ?_
      exact y_ireturn B hI rfl rfl rfl List.mem_cons_self ⟨_, rfl, ⟨_, rfl, by decide, by decide⟩⟩ (x_cs.mono B.2.2.2.2.2 (y_mon B hI)) (fun x' lo' hi' h1 => by cases h1; exact ⟨_, rfl, fun q => by first | exact absurd rfl q | omega, fun q => by first | exact absurd q (by decide) | omega⟩) (Nat.le_refl _) (Nat.le_refl _) wi_d15
theorem ca_d0 : decode xM7.2.1 0 = .ok (.bipush (-2), 2) := dz_ok (by decide +kernel)
theorem ca_d2 : decode xM7.2.1 2 = .ok (.iload_n 1, 1) := dz_ok (by decide +kernel)
theorem ca_d3 : decode xM7.2.1 3 = .ok (.isub, 1) := dz_ok (by decide +kernel)
theorem ca_d4 : decode xM7.2.1 4 = .ok (.istore_n 3, 1) := dz_ok (by decide +kernel)
theorem ca_d5 : decode xM7.2.1 5 = .ok (.iload_n 3, 1) := dz_ok (by decide +kernel)
theorem ca_d6 : decode xM7.2.1 6 = .ok (.iconst 0, 1) := dz_ok (by decide +kernel)
theorem ca_d7 : decode xM7.2.1 7 = .ok (.aload_n 0, 1) := dz_ok (by decide +kernel)
theorem ca_d8 : decode xM7.2.1 8 = .ok (.getfield 44, 3) := dz_ok (by decide +kernel)
theorem ca_d11 : decode xM7.2.1 11 = .ok (.arraylength, 1) := dz_ok (by decide +kernel)
theorem ca_d12 : decode xM7.2.1 12 = .ok (.iconst 1, 1) := dz_ok (by decide +kernel)
theorem ca_d13 : decode xM7.2.1 13 = .ok (.isub, 1) := dz_ok (by decide +kernel)
theorem ca_d14 : decode xM7.2.1 14 = .ok (.invokestatic 88, 3) := dz_ok (by decide +kernel)
theorem ca_d17 : decode xM7.2.1 17 = .ok (.ifCond .eq 13, 3) := dz_ok (by decide +kernel)
theorem ca_d20 : decode xM7.2.1 20 = .ok (.aload_n 0, 1) := dz_ok (by decide +kernel)
theorem ca_d21 : decode xM7.2.1 21 = .ok (.getfield 44, 3) := dz_ok (by decide +kernel)
theorem ca_d24 : decode xM7.2.1 24 = .ok (.iload_n 3, 1) := dz_ok (by decide +kernel)
theorem ca_d25 : decode xM7.2.1 25 = .ok (.dup2, 1) := dz_ok (by decide +kernel)
theorem ca_d26 : decode xM7.2.1 26 = .ok (.iaload, 1) := dz_ok (by decide +kernel)
theorem ca_d27 : decode xM7.2.1 27 = .ok (.iconst 1, 1) := dz_ok (by decide +kernel)
theorem ca_d28 : decode xM7.2.1 28 = .ok (.iadd, 1) := dz_ok (by decide +kernel)
theorem ca_d29 : decode xM7.2.1 29 = .ok (.iastore, 1) := dz_ok (by decide +kernel)
theorem ca_d30 : decode xM7.2.1 30 = .ok (.iload_n 2, 1) := dz_ok (by decide +kernel)
theorem ca_d31 : decode xM7.2.1 31 = .ok (.ireturn, 1) := dz_ok (by decide +kernel)
theorem ym_countedAs : y_Met vwCl x_G x_Zs x_Tb x_Nb xM7 y_T z_Pan := by
  refine y_main (by decide +kernel) (by decide +kernel) x_Tb_good x_Nb_ok ?_
  intro p l e s m below meth c D U Y0 av ls B hI _ hl
  have X := B.1
  have hx := X.1
  have hb := X.2.1
  have hY0 := B.2.2.2.2.1
  obtain ⟨v0, v1, v2, rfl, hv0, ⟨a, rfl, -⟩, ⟨x, rfl, -⟩⟩ := y_three B.2.2.2.2.2
  obtain ⟨this, t0, rfl, ht0, hY_this⟩ := x_ref_at hv0 rfl
  obtain rfl := List.mem_singleton.mp ht0
  replace hl : lv_has ls xM7.2.2.1 [(0, .ref this), (1, .int a), (2, .int x)] := hl
  refine lv_bipush hx hb ca_d0 (v := (-2)) (by decide) ?_
  have ecm2 : ((-2) : Int32).toInt = (-2) := by decide
  refine lv_iload_n hx hb ca_d2 rfl (lv_at hl 1 rfl) ?_
  refine lv_isub hx hb ca_d3 ?_
  generalize hg_z3 : ((-2) : Int32) - a = z3
  refine lv_istore_n hx hb ca_d4 rfl hl (by decide) (lv' := [(3, .int z3), (0, .ref this), (1, .int a), (2, .int x)]) rfl fun ls hl => ?_
  refine lv_iload_n hx hb ca_d5 rfl (lv_at hl 0 rfl) ?_
  refine lv_iconst hx hb ca_d6 (v := 0) (by decide) ?_
  have ec0 : (0 : Int32).toInt = 0 := by decide
  refine lv_aload_n hx hb ca_d7 rfl (lv_at hl 1 rfl) ?_
  obtain ⟨this_refused, hs_this_refused, hY_this_refused⟩ := y_fldR (k := 6) hI.1 hY_this rfl rfl
  refine y_getf X (fl7 X.2.2.2.2.1) hI.1 hY_this rfl hs_this_refused ca_d8 ?_
  refine y_alen X hI.1 hY_this_refused rfl ca_d11 ?_
  have h_nI3 : (nI 3).toInt = 3 := by decide
  refine lv_iconst hx hb ca_d12 (v := 1) (by decide) ?_
  have ec1 : (1 : Int32).toInt = 1 := by decide
  refine lv_isub hx hb ca_d13 ?_
  generalize hg_z13 : (nI 3) - (1 : Int32) = z13
  have h_z13 : z13.toInt = (nI 3).toInt - 1 := by rw [← hg_z13]; have := y_sub (x := (nI 3)) (y := (1 : Int32)) (by rw [ec1]; omega) (by rw [ec1]; omega); rw [ec1] at this; exact this
  refine y_call (z := (1, 88, 3, none, xM10)) (av := [.int z3, .int (0 : Int32), .int z13]) (rest := []) (y_cokS (n := 3) X ym_within (x_cons (x_bw19 15 rfl rfl) (x_cons (x_bw19 1 rfl rfl) (x_cons (x_bw0 1 rfl rfl) x_nilm))) (x_bw19 2 rfl rfl) (by decide +kernel) ⟨Nat.le_of_ble_eq_true rfl, Nat.le_of_ble_eq_true rfl⟩) hY0 hI rfl ca_d14 hl.1 (Nat.le_of_ble_eq_true rfl) (Nat.le_of_ble_eq_true rfl) (Nat.le_of_ble_eq_true rfl) (y_cons ⟨_, rfl, x_i32 _⟩ (y_cons ⟨_, rfl, x_i32 _⟩ (y_cons ⟨_, rfl, x_i32 _⟩ y_nil))) rfl (y_norecv rfl) trivial (y_sub_ef rfl) fun v Yn o Hn L ho hr ha hIn hx_ hE hP => ?_
  replace hs_this_refused := y_Efld hE hY_this rfl (by decide) (by decide) hs_this_refused
  replace hY_this := y_ext hx_ hI.1 hY_this
  replace hY_this_refused := y_ext hx_ hI.1 hY_this_refused
  obtain ⟨r14, rfl, hin_r14, hout_r14⟩ := hP _ _ _ rfl
  clear ho hr ha hE hP hI hx_
  rename x_I _ _ _ _ _ _ _ _ _ _ => hI
  refine lv_if_eq hx hb ca_d17 (tgt := 30) (by decide) (fun q17 => ?_) (fun q17 => ?_)
  · have q17_ : r14.toInt = (0 : Int32).toInt := by rw [q17]
    refine lv_iload_n hx hb ca_d30 rfl (lv_at hl 3 rfl) ?_
    exact y_ireturn B hI rfl rfl rfl List.mem_cons_self ⟨_, rfl, ⟨_, rfl, x_i32 _⟩⟩ (x_cs.mono B.2.2.2.2.2 (y_mon B hI)) (fun t' a' x' h1 => by cases h1; rfl) (Nat.le_refl _) (Nat.le_refl _) ca_d31
  · have q17_ : ¬ r14.toInt = (0 : Int32).toInt := fun q => q17 (Int32.toInt_inj.mp q)
    have hw := hin_r14 q17
    refine lv_aload_n hx hb ca_d20 rfl (lv_at hl 1 rfl) ?_
    refine y_getf X (fl7 X.2.2.2.2.1) hI.1 hY_this rfl hs_this_refused ca_d21 ?_
    refine lv_iload_n hx hb ca_d24 rfl (lv_at hl 0 rfl) ?_
    refine lv_dup2_11 hx hb ca_d25 rfl rfl ?_
    obtain ⟨f_this_refused, hA_this_refused, hB_this_refused⟩ := y_arr hI.1 hY_this_refused rfl rfl
    refine y_iald X hI.1 hY_this_refused rfl hA_this_refused (by omega) (by show _ < (3 : Int); omega) ca_d26 ?_
    obtain ⟨e26, hg_e26⟩ : ∃ e26 : Int32, f_this_refused z3.toInt.toNat = e26 := ⟨_, rfl⟩
    rw [hg_e26]
    refine lv_iconst hx hb ca_d27 (v := 1) (by decide) ?_
    refine lv_iadd hx hb ca_d28 ?_
    generalize hg_z28 : e26 + (1 : Int32) = z28
    refine y_iast X hY0 hI hY_this_refused rfl hA_this_refused (by omega) (by show _ < (3 : Int); omega) ⟨_, rfl, x_i32 _⟩ (by decide +kernel) ca_d29 fun H locs hI h_new ho => ?_
    replace hA_this_refused := h_new
    generalize hf_f29 : y_up f_this_refused z3.toInt.toNat z28 = f29 at hA_this_refused
    replace hs_this_refused := y_slk hs_this_refused (ho _ (y_ne hY_this hY_this_refused rfl))
    refine lv_iload_n hx hb ca_d30 rfl (lv_at hl 3 rfl) ?_
    exact y_ireturn B hI rfl rfl rfl List.mem_cons_self ⟨_, rfl, ⟨_, rfl, x_i32 _⟩⟩ (x_cs.mono B.2.2.2.2.2 (y_mon B hI)) (fun t' a' x' h1 => by cases h1; rfl) (Nat.le_refl _) (Nat.le_refl _) ca_d31
theorem ct_d0 : decode xM8.2.1 0 = .ok (.aload_n 0, 1) := dz_ok (by decide +kernel)
theorem ct_d1 : decode xM8.2.1 1 = .ok (.iload_n 1, 1) := dz_ok (by decide +kernel)
theorem ct_d2 : decode xM8.2.1 2 = .ok (.iload_n 1, 1) := dz_ok (by decide +kernel)
theorem ct_d3 : decode xM8.2.1 3 = .ok (.invokevirtual 221, 3) := dz_ok (by decide +kernel)
theorem ct_d6 : decode xM8.2.1 6 = .ok (.ireturn, 1) := dz_ok (by decide +kernel)
theorem ym_counted : y_Met vwCl x_G x_Zs x_Tb x_Nb xM8 y_T z_Pa1 := by
  refine y_main (by decide +kernel) (by decide +kernel) x_Tb_good x_Nb_ok ?_
  intro p l e s m below meth c D U Y0 av ls B hI _ hl
  have X := B.1
  have hx := X.1
  have hb := X.2.1
  have hY0 := B.2.2.2.2.1
  obtain ⟨v0, v1, rfl, hv0, ⟨x, rfl, -⟩⟩ := x_two B.2.2.2.2.2
  obtain ⟨this, t0, rfl, ht0, hY_this⟩ := x_ref_at hv0 rfl
  obtain rfl := List.mem_singleton.mp ht0
  replace hl : lv_has ls xM8.2.2.1 [(0, .ref this), (1, .int x)] := hl
  refine lv_aload_n hx hb ct_d0 rfl (lv_at hl 0 rfl) ?_
  refine lv_iload_n hx hb ct_d1 rfl (lv_at hl 1 rfl) ?_
  refine lv_iload_n hx hb ct_d2 rfl (lv_at hl 1 rfl) ?_
  refine y_call (z := (0, 221, 3, some 0, xM7)) (av := [.ref this, .int x, .int x]) (rest := []) (y_cokV (n := 2) (ci := 11) X ym_countedAs rfl rfl rfl (x_cons (x_bw19 11 rfl rfl) (x_cons (x_bw19 13 rfl rfl) (x_cons (x_at 2 (by decide +kernel) rfl) (x_cons (x_bw0 1 rfl rfl) x_nilm)))) (x_bw19 14 rfl rfl) (by decide +kernel) ⟨Nat.le_of_ble_eq_true rfl, Nat.le_of_ble_eq_true rfl⟩) hY0 hI rfl ct_d3 hl.1 (Nat.le_of_ble_eq_true rfl) (Nat.le_of_ble_eq_true rfl) (Nat.le_of_ble_eq_true rfl) (y_cons (y_cref hY_this rfl) (y_cons ⟨_, rfl, x_i32 _⟩ (y_cons ⟨_, rfl, x_i32 _⟩ y_nil))) rfl (y_recv rfl hY_this) trivial (y_sub_ef rfl) fun v Yn o Hn L ho hr ha hIn hx_ hE hP => ?_
  replace hY_this := y_ext hx_ hI.1 hY_this
  obtain rfl := hP _ _ _ rfl
  clear ho hr ha hE hP hI hx_
  rename x_I _ _ _ _ _ _ _ _ _ _ => hI
  exact y_ireturn B hI rfl rfl rfl List.mem_cons_self ⟨_, rfl, ⟨_, rfl, x_i32 _⟩⟩ (x_cs.mono B.2.2.2.2.2 (y_mon B hI)) (fun t' x' h1 => by cases h1; rfl) (Nat.le_refl _) (Nat.le_refl _) ct_d6
def xMgi : xM := (⟨"TwinFires", "image", "(I)I"⟩, prog_1_method_38_code, 2, some .int, [xR false [0], xF], [([xR false [0], xF], some (xF))], [(2, 0), (2, 6), (2, 12), (3, 0), (3, 1), (3, 2), (3, 3), (3, 4), (3, 5), (3, 6), (3, 7), (3, 8), (3, 9), (3, 10), (3, 11), (3, 12), (3, 13), (3, 14), (3, 15), (11, 0), (11, 1), (11, 2), (11, 3), (11, 4), (12, 0), (12, 1), (12, 2), (12, 3), (12, 4), (13, 0), (13, 1), (13, 2), (13, 3), (13, 4), (14, 0), (14, 1), (14, 2), (14, 3), (14, 4), (15, 0), (15, 1), (15, 2), (15, 3), (15, 4), (16, 0), (16, 1), (16, 2), (16, 3), (16, 4), (19, 0), (20, 0), (21, 0), (22, 0), (23, 0), (24, 0), (25, 0), (26, 0), (27, 0), (28, 0), (29, 0), (30, 0), (31, 0), (41, 0), (42, 0), (64, 0)], (3, 67, 15, 143), none)
theorem rf_d0 : decode xM142.2.1 0 = .ok (.aload_n 0, 1) := dz_ok (by decide +kernel)
theorem rf_d1 : decode xM142.2.1 1 = .ok (.getfield 23, 3) := dz_ok (by decide +kernel)
theorem rf_d4 : decode xM142.2.1 4 = .ok (.iload_n 1, 1) := dz_ok (by decide +kernel)
theorem rf_d5 : decode xM142.2.1 5 = .ok (.dup2, 1) := dz_ok (by decide +kernel)
theorem rf_d6 : decode xM142.2.1 6 = .ok (.iaload, 1) := dz_ok (by decide +kernel)
theorem rf_d7 : decode xM142.2.1 7 = .ok (.aload_n 0, 1) := dz_ok (by decide +kernel)
theorem rf_d8 : decode xM142.2.1 8 = .ok (.getfield 72, 3) := dz_ok (by decide +kernel)
theorem rf_d11 : decode xM142.2.1 11 = .ok (.ifCond .eq 7, 3) := dz_ok (by decide +kernel)
theorem rf_d14 : decode xM142.2.1 14 = .ok (.iconst 0, 1) := dz_ok (by decide +kernel)
theorem rf_d15 : decode xM142.2.1 15 = .ok (.goto 4, 3) := dz_ok (by decide +kernel)
theorem rf_d18 : decode xM142.2.1 18 = .ok (.iconst 1, 1) := dz_ok (by decide +kernel)
theorem rf_d19 : decode xM142.2.1 19 = .ok (.iadd, 1) := dz_ok (by decide +kernel)
theorem rf_d20 : decode xM142.2.1 20 = .ok (.iastore, 1) := dz_ok (by decide +kernel)
theorem rf_d21 : decode xM142.2.1 21 = .ok (.iload_n 2, 1) := dz_ok (by decide +kernel)
theorem rf_d22 : decode xM142.2.1 22 = .ok (.ireturn, 1) := dz_ok (by decide +kernel)
theorem ym_refuses : y_Met vwCl x_G x_Zs x_Tb x_Nb xM142 y_T z_Pan := by
  refine y_main (by decide +kernel) (by decide +kernel) x_Tb_good x_Nb_ok ?_
  intro p l e s m below meth c D U Y0 av ls B hI _ hl
  have X := B.1
  have hx := X.1
  have hb := X.2.1
  have hY0 := B.2.2.2.2.1
  obtain ⟨v0, v1, v2, rfl, hv0, ⟨a, rfl, ha⟩, ⟨x, rfl, -⟩⟩ := y_three B.2.2.2.2.2
  replace ha : (0 : Int) ≤ a.toInt ∧ a.toInt ≤ 2 := ha
  obtain ⟨this, t0, rfl, ht0, hY_this⟩ := x_ref_at hv0 rfl
  obtain rfl := List.mem_singleton.mp ht0
  replace hl : lv_has ls xM142.2.2.1 [(0, .ref this), (1, .int a), (2, .int x)] := hl
  refine lv_aload_n hx hb rf_d0 rfl (lv_at hl 0 rfl) ?_
  obtain ⟨this_refused, hs_this_refused, hY_this_refused⟩ := y_fldR (k := 4) hI.1 hY_this rfl rfl
  refine y_getf X (fl191 X.2.2.2.2.1) hI.1 hY_this rfl hs_this_refused rf_d1 ?_
  refine lv_iload_n hx hb rf_d4 rfl (lv_at hl 1 rfl) ?_
  refine lv_dup2_11 hx hb rf_d5 rfl rfl ?_
  obtain ⟨f_this_refused, hA_this_refused, hB_this_refused⟩ := y_arr hI.1 hY_this_refused rfl rfl
  refine y_iald X hI.1 hY_this_refused rfl hA_this_refused (by omega) (by show _ < (3 : Int); omega) rf_d6 ?_
  obtain ⟨e6, hg_e6⟩ : ∃ e6 : Int32, f_this_refused a.toInt.toNat = e6 := ⟨_, rfl⟩
  rw [hg_e6]
  refine lv_aload_n hx hb rf_d7 rfl (lv_at hl 0 rfl) ?_
  obtain ⟨quiet_8, hs_this_quiet, h_quiet_8⟩ := y_fldI (k := 5) hI.1 hY_this rfl rfl
  replace h_quiet_8 : (0 : Int) ≤ quiet_8.toInt ∧ quiet_8.toInt ≤ 1 := h_quiet_8
  refine y_getf X (fl192 X.2.2.2.2.1) hI.1 hY_this rfl hs_this_quiet rf_d8 ?_
  have ec0 : (0 : Int32).toInt = 0 := by decide
  refine lv_if_eq hx hb rf_d11 (tgt := 18) (by decide) (fun q11 => ?_) (fun q11 => ?_)
  · have q11_ : quiet_8.toInt = (0 : Int32).toInt := by rw [q11]
    refine lv_iconst hx hb rf_d18 (v := 1) (by decide) ?_
    have ec1 : (1 : Int32).toInt = 1 := by decide
    refine lv_iadd hx hb rf_d19 ?_
    generalize hg_z19 : e6 + (1 : Int32) = z19
    refine y_iast X hY0 hI hY_this_refused rfl hA_this_refused (by omega) (by show _ < (3 : Int); omega) ⟨_, rfl, x_i32 _⟩ (by decide +kernel) rf_d20 fun H locs hI h_new ho => ?_
    replace hA_this_refused := h_new
    generalize hf_f20 : y_up f_this_refused a.toInt.toNat z19 = f20 at hA_this_refused
    replace hs_this_refused := y_slk hs_this_refused (ho _ (y_ne hY_this hY_this_refused rfl))
    replace hs_this_quiet := y_slk hs_this_quiet (ho _ (y_ne hY_this hY_this_refused rfl))
    refine lv_iload_n hx hb rf_d21 rfl (lv_at hl 2 rfl) ?_
    exact y_ireturn B hI rfl rfl rfl List.mem_cons_self ⟨_, rfl, ⟨_, rfl, x_i32 _⟩⟩ (x_cs.mono B.2.2.2.2.2 (y_mon B hI)) (fun t' a' x' h1 => by cases h1; rfl) (Nat.le_refl _) (Nat.le_refl _) rf_d22
  · have q11_ : ¬ quiet_8.toInt = (0 : Int32).toInt := fun q => q11 (Int32.toInt_inj.mp q)
    refine lv_iconst hx hb rf_d14 (v := 0) (by decide) ?_
    refine lv_goto hx hb rf_d15 (tgt := 19) (by decide) ?_
    refine lv_iadd hx hb rf_d19 ?_
    generalize hg_z19 : e6 + (0 : Int32) = z19
    refine y_iast X hY0 hI hY_this_refused rfl hA_this_refused (by omega) (by show _ < (3 : Int); omega) ⟨_, rfl, x_i32 _⟩ (by decide +kernel) rf_d20 fun H locs hI h_new ho => ?_
    replace hA_this_refused := h_new
    generalize hf_f20 : y_up f_this_refused a.toInt.toNat z19 = f20 at hA_this_refused
    replace hs_this_refused := y_slk hs_this_refused (ho _ (y_ne hY_this hY_this_refused rfl))
    replace hs_this_quiet := y_slk hs_this_quiet (ho _ (y_ne hY_this hY_this_refused rfl))
    refine lv_iload_n hx hb rf_d21 rfl (lv_at hl 2 rfl) ?_
    exact y_ireturn B hI rfl rfl rfl List.mem_cons_self ⟨_, rfl, ⟨_, rfl, x_i32 _⟩⟩ (x_cs.mono B.2.2.2.2.2 (y_mon B hI)) (fun t' a' x' h1 => by cases h1; rfl) (Nat.le_refl _) (Nat.le_refl _) rf_d22
theorem bd_d0 : decode xM143.2.1 0 = .ok (.aload_n 0, 1) := dz_ok (by decide +kernel)
theorem bd_d1 : decode xM143.2.1 1 = .ok (.iconst 0, 1) := dz_ok (by decide +kernel)
theorem bd_d2 : decode xM143.2.1 2 = .ok (.bipush (-2), 2) := dz_ok (by decide +kernel)
theorem bd_d4 : decode xM143.2.1 4 = .ok (.invokevirtual 76, 3) := dz_ok (by decide +kernel)
theorem bd_d7 : decode xM143.2.1 7 = .ok (.ireturn, 1) := dz_ok (by decide +kernel)
theorem ym_bad : y_Met vwCl x_G x_Zs x_Tb x_Nb xM143 y_T z_Pbad := by
  refine y_main (by decide +kernel) (by decide +kernel) x_Tb_good x_Nb_ok ?_
  intro p l e s m below meth c D U Y0 av ls B hI _ hl
  have X := B.1
  have hx := X.1
  have hb := X.2.1
  have hY0 := B.2.2.2.2.1
  obtain ⟨v0, rfl, hv0⟩ := x_one B.2.2.2.2.2
  obtain ⟨this, t0, rfl, ht0, hY_this⟩ := x_ref_at hv0 rfl
  obtain rfl := List.mem_singleton.mp ht0
  replace hl : lv_has ls xM143.2.2.1 [(0, .ref this)] := hl
  refine lv_aload_n hx hb bd_d0 rfl (lv_at hl 0 rfl) ?_
  refine lv_iconst hx hb bd_d1 (v := 0) (by decide) ?_
  have ec0 : (0 : Int32).toInt = 0 := by decide
  refine lv_bipush hx hb bd_d2 (v := (-2)) (by decide) ?_
  have ecm2 : ((-2) : Int32).toInt = (-2) := by decide
  refine y_call (z := (0, 76, 3, some 17, xM142)) (av := [.ref this, .int (0 : Int32), .int ((-2) : Int32)]) (rest := []) (y_cokV (n := 2) (ci := 12) X ym_refuses rfl rfl rfl (x_cons (x_bw68 7 rfl rfl) (x_cons (x_bw68 9 rfl rfl) (x_cons (x_at 33 (by decide +kernel) rfl) (x_cons (x_bw0 9 rfl rfl) x_nilm)))) (x_bw68 10 rfl rfl) (by decide +kernel) ⟨Nat.le_of_ble_eq_true rfl, Nat.le_of_ble_eq_true rfl⟩) hY0 hI rfl bd_d4 hl.1 (Nat.le_of_ble_eq_true rfl) (Nat.le_of_ble_eq_true rfl) (Nat.le_of_ble_eq_true rfl) (y_cons (y_cref hY_this rfl) (y_cons ⟨_, rfl, by show (0 : Int) ≤ _; omega, by show _ ≤ (2 : Int); omega⟩ (y_cons ⟨_, rfl, x_i32 _⟩ y_nil))) rfl (y_recv rfl hY_this) trivial (y_sub_ef rfl) fun v Yn o Hn L ho hr ha hIn hx_ hE hP => ?_
  replace hY_this := y_ext hx_ hI.1 hY_this
  obtain rfl := hP _ _ _ rfl
  clear ho hr ha hE hP hI hx_
  rename x_I _ _ _ _ _ _ _ _ _ _ => hI
  exact y_ireturn B hI rfl rfl rfl List.mem_cons_self ⟨_, rfl, ⟨_, rfl, x_i32 _⟩⟩ (x_cs.mono B.2.2.2.2.2 (y_mon B hI)) rfl (Nat.le_refl _) (Nat.le_refl _) bd_d7
def xMi2 : xM := (⟨"TwinFiresModel", "image", "(I)I"⟩, prog_14_method_78_code, 3, some .int, [xR false [17], xF], [([xR false [17], xF], some (xF))], [(47, 0), (48, 0), (50, 0)], (2, 42, 0, 0), none)
