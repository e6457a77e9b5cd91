theorem fl_im_218b {s : State} {args : Array Value} (hts : ∀ w ∈ x_Tb, w.before args s = true) : x_fok vwCl x_G x_Tb s args "TwinFiresModel" (16, 17, 2) := ⟨12, _, RX12, TX12, "TwinFiresModel", rfl, rfl, Nat.le_of_ble_eq_true rfl, iX12, (hts _ (x_bw62 5 rfl rfl)), fun x h => h⟩
theorem fl_im_219b {s : State} {args : Array Value} (hts : ∀ w ∈ x_Tb, w.before args s = true) : x_fok vwCl x_G x_Tb s args "TwinFiresModel" (13, 17, 1) := ⟨12, _, RX12, TX12, "TwinFiresModel", rfl, rfl, Nat.le_of_ble_eq_true rfl, iX12, (hts _ (x_bw62 4 rfl rfl)), fun x h => h⟩
def z_Pw : yP := fun _ av _ _ v _ _ => ∀ x lo hi : Int32, av = [.int x, .int lo, .int hi] → ∃ r : Int32, v = some (.int r) ∧ (¬ r = 0 → lo.toInt ≤ x.toInt ∧ x.toInt ≤ hi.toInt) ∧ (r = 0 → ¬ (lo.toInt ≤ x.toInt ∧ x.toInt ≤ hi.toInt))
def z_Pan : yP := fun _ av _ _ v _ _ => ∀ (this : Nat) (a x : Int32), av = [.ref this, .int a, .int x] → v = some (.int x)
def z_Pa1 : yP := fun _ av _ _ v _ _ => ∀ (this : Nat) (x : Int32), av = [.ref this, .int x] → v = some (.int x)
def z_Pbad : yP := fun _ _ _ _ v _ _ => v = some (.int (-2))
def z_Pimg : yP := fun _ av _ _ v _ _ => ∀ (this : Nat) (i : Int32), av = [.ref this, .int i] → v = some (.int (if 0 ≤ i.toInt ∧ i.toInt ≤ 1 then 1 else -2))
theorem wi_d0 : decode xM10.2.1 0 = .ok (.iload_n 0, 1) := dz_ok (by decide +kernel)
theorem wi_d1 : decode xM10.2.1 1 = .ok (.iload_n 1, 1) := dz_ok (by decide +kernel)
theorem wi_d2 : decode xM10.2.1 2 = .ok (.if_icmp .lt 12, 3) := dz_ok (by decide +kernel)
theorem wi_d5 : decode xM10.2.1 5 = .ok (.iload_n 0, 1) := dz_ok (by decide +kernel)
theorem wi_d6 : decode xM10.2.1 6 = .ok (.iload_n 2, 1) := dz_ok (by decide +kernel)
theorem wi_d7 : decode xM10.2.1 7 = .ok (.if_icmp .gt 7, 3) := dz_ok (by decide +kernel)
theorem wi_d10 : decode xM10.2.1 10 = .ok (.iconst 1, 1) := dz_ok (by decide +kernel)
theorem wi_d11 : decode xM10.2.1 11 = .ok (.goto 4, 3) := dz_ok (by decide +kernel)
theorem wi_d14 : decode xM10.2.1 14 = .ok (.iconst 0, 1) := dz_ok (by decide +kernel)
theorem wi_d15 : decode xM10.2.1 15 = .ok (.ireturn, 1) := dz_ok (by decide +kernel)
theorem ym_within : y_Met vwCl x_G x_Zs x_Tb x_Nb xM10 y_T z_Pw := by
  refine y_main (by decide +kernel) (by decide +kernel) x_Tb_good x_Nb_ok ?_
  intro p l e s m below meth c D U Y0 av ls B hI _ hl
  have X := B.1
  have hx := X.1
  have hb := X.2.1
  have hY0 := B.2.2.2.2.1
  obtain ⟨v0, v1, v2, rfl, ⟨x, rfl, -⟩, ⟨lo, rfl, -⟩, ⟨hi, rfl, -⟩⟩ := y_three B.2.2.2.2.2
  replace hl : lv_has ls xM10.2.2.1 [(0, .int x), (1, .int lo), (2, .int hi)] := hl
  refine lv_iload_n hx hb wi_d0 rfl (lv_at hl 0 rfl) ?_
  refine lv_iload_n hx hb wi_d1 rfl (lv_at hl 1 rfl) ?_
  refine lv_icmp_lt hx hb wi_d2 (tgt := 14) (by decide) (fun q2 => ?_) (fun q2 => ?_)
  · have q2_ : x.toInt < lo.toInt := x_lt32.mp q2
    refine lv_iconst hx hb wi_d14 (v := 0) (by decide) ?_
    have ec0 : (0 : Int32).toInt = 0 := by decide
    exact y_ireturn B hI rfl rfl rfl (List.mem_cons_of_mem _ List.mem_cons_self) ⟨_, rfl, ⟨_, rfl, by decide, by decide⟩⟩ (x_cs.mono B.2.2.2.2.2 (y_mon B hI)) (fun x' lo' hi' h1 => by cases h1; exact ⟨_, rfl, fun q => by first | exact absurd rfl q | omega, fun q => by first | exact absurd q (by decide) | omega⟩) (Nat.le_refl _) (Nat.le_refl _) wi_d15
  · have q2_ : lo.toInt ≤ x.toInt := Int.not_lt.mp fun q => q2 (x_lt32.mpr q)
    refine lv_iload_n hx hb wi_d5 rfl (lv_at hl 0 rfl) ?_
    refine lv_iload_n hx hb wi_d6 rfl (lv_at hl 2 rfl) ?_
    refine lv_icmp_gt hx hb wi_d7 (tgt := 14) (by decide) (fun q7 => ?_) (fun q7 => ?_)
    · have q7_ : hi.toInt < x.toInt := x_lt32.mp q7
      refine lv_iconst hx hb wi_d14 (v := 0) (by decide) ?_
      have ec0 : (0 : Int32).toInt = 0 := by decide
      exact y_ireturn B hI rfl rfl rfl (List.mem_cons_of_mem _ List.mem_cons_self) ⟨_, rfl, ⟨_, rfl, by decide, by decide⟩⟩ (x_cs.mono B.2.2.2.2.2 (y_mon B hI)) (fun x' lo' hi' h1 => by cases h1; exact ⟨_, rfl, fun q => by first | exact absurd rfl q | omega, fun q => by first | exact absurd q (by decide) | omega⟩) (Nat.le_refl _) (Nat.le_refl _) wi_d15
    · have q7_ : x.toInt ≤ hi.toInt := Int.not_lt.mp fun q => q7 (x_lt32.mpr q)
      refine lv_iconst hx hb wi_d10 (v := 1) (by decide) ?_
      have ec1 : (1 : Int32).toInt = 1 := by decide
      refine lv_goto hx hb wi_d11 (tgt := 15) (by decide) ?_
      exact y_ireturn B hI rfl rfl rfl List.mem_cons_self ⟨_, rfl, ⟨_, rfl, by decide, by decide⟩⟩ (x_cs.mono B.2.2.2.2.2 (y_mon B hI)) (fun x' lo' hi' h1 => by cases h1; exact ⟨_, rfl, fun q => by first | exact absurd rfl q | omega, fun q => by first | exact absurd q (by decide) | omega⟩) (Nat.le_refl _) (Nat.le_refl _) wi_d15
theorem ca_d0 : decode xM7.2.1 0 = .ok (.bipush (-2), 2) := dz_ok (by decide +kernel)
theorem ca_d2 : decode xM7.2.1 2 = .ok (.iload_n 1, 1) := dz_ok (by decide +kernel)
theorem ca_d3 : decode xM7.2.1 3 = .ok (.isub, 1) := dz_ok (by decide +kernel)
theorem ca_d4 : decode xM7.2.1 4 = .ok (.istore_n 3, 1) := dz_ok (by decide +kernel)
theorem ca_d5 : decode xM7.2.1 5 = .ok (.iload_n 3, 1) := dz_ok (by decide +kernel)
theorem ca_d6 : decode xM7.2.1 6 = .ok (.iconst 0, 1) := dz_ok (by decide +kernel)
theorem ca_d7 : decode xM7.2.1 7 = .ok (.aload_n 0, 1) := dz_ok (by decide +kernel)
theorem ca_d8 : decode xM7.2.1 8 = .ok (.getfield 44, 3) := dz_ok (by decide +kernel)
theorem ca_d11 : decode xM7.2.1 11 = .ok (.arraylength, 1) := dz_ok (by decide +kernel)
theorem ca_d12 : decode xM7.2.1 12 = .ok (.iconst 1, 1) := dz_ok (by decide +kernel)
theorem ca_d13 : decode xM7.2.1 13 = .ok (.isub, 1) := dz_ok (by decide +kernel)
theorem ca_d14 : decode xM7.2.1 14 = .ok (.invokestatic 88, 3) := dz_ok (by decide +kernel)
theorem ca_d17 : decode xM7.2.1 17 = .ok (.ifCond .eq 13, 3) := dz_ok (by decide +kernel)
theorem ca_d20 : decode xM7.2.1 20 = .ok (.aload_n 0, 1) := dz_ok (by decide +kernel)
theorem ca_d21 : decode xM7.2.1 21 = .ok (.getfield 44, 3) := dz_ok (by decide +kernel)
theorem ca_d24 : decode xM7.2.1 24 = .ok (.iload_n 3, 1) := dz_ok (by decide +kernel)
theorem ca_d25 : decode xM7.2.1 25 = .ok (.dup2, 1) := dz_ok (by decide +kernel)
theorem ca_d26 : decode xM7.2.1 26 = .ok (.iaload, 1) := dz_ok (by decide +kernel)
theorem ca_d27 : decode xM7.2.1 27 = .ok (.iconst 1, 1) := dz_ok (by decide +kernel)
theorem ca_d28 : decode xM7.2.1 28 = .ok (.iadd, 1) := dz_ok (by decide +kernel)
theorem ca_d29 : decode xM7.2.1 29 = .ok (.iastore, 1) := dz_ok (by decide +kernel)
theorem ca_d30 : decode xM7.2.1 30 = .ok (.iload_n 2, 1) := dz_ok (by decide +kernel)
theorem ca_d31 : decode xM7.2.1 31 = .ok (.ireturn, 1) := dz_ok (by decide +kernel)
theorem ym_countedAs : y_Met vwCl x_G x_Zs x_Tb x_Nb xM7 y_T z_Pan := by
  refine y_main (by decide +kernel) (by decide +kernel) x_Tb_good x_Nb_ok ?_
  intro p l e s m below meth c D U Y0 av ls B hI _ hl
  have X := B.1
  have hx := X.1
  have hb := X.2.1
  have hY0 := B.2.2.2.2.1
  obtain ⟨v0, v1, v2, rfl, hv0, ⟨a, rfl, -⟩, ⟨x, rfl, -⟩⟩ := y_three B.2.2.2.2.2
  obtain ⟨this, t0, rfl, ht0, hY_this⟩ := x_ref_at hv0 rfl
  obtain rfl := List.mem_singleton.mp ht0
  replace hl : lv_has ls xM7.2.2.1 [(0, .ref this), (1, .int a), (2, .int x)] := hl
  refine lv_bipush hx hb ca_d0 (v := (-2)) (by decide) ?_
  have ecm2 : ((-2) : Int32).toInt = (-2) := by decide
  refine lv_iload_n hx hb ca_d2 rfl (lv_at hl 1 rfl) ?_
  refine lv_isub hx hb ca_d3 ?_
  generalize hg_z3 : ((-2) : Int32) - a = z3
  refine lv_istore_n hx hb ca_d4 rfl hl (by decide) (lv' := [(3, .int z3), (0, .ref this), (1, .int a), (2, .int x)]) rfl fun ls hl => ?_
  refine lv_iload_n hx hb ca_d5 rfl (lv_at hl 0 rfl) ?_
  refine lv_iconst hx hb ca_d6 (v := 0) (by decide) ?_
  have ec0 : (0 : Int32).toInt = 0 := by decide
  refine lv_aload_n hx hb ca_d7 rfl (lv_at hl 1 rfl) ?_
  obtain ⟨this_refused, hs_this_refused, hY_this_refused⟩ := y_fldR (k := 6) hI.1 hY_this rfl rfl
  refine y_getf X (fl7 X.2.2.2.2.1) hI.1 hY_this rfl hs_this_refused ca_d8 ?_
  refine y_alen X hI.1 hY_this_refused rfl ca_d11 ?_
  have h_nI3 : (nI 3).toInt = 3 := by decide
  refine lv_iconst hx hb ca_d12 (v := 1) (by decide) ?_
  have ec1 : (1 : Int32).toInt = 1 := by decide
  refine lv_isub hx hb ca_d13 ?_
  generalize hg_z13 : (nI 3) - (1 : Int32) = z13
  have h_z13 : z13.toInt = (nI 3).toInt - 1 := by rw [← hg_z13]; have := y_sub (x := (nI 3)) (y := (1 : Int32)) (by rw [ec1]; omega) (by rw [ec1]; omega); rw [ec1] at this; exact this
  refine y_call (z := (1, 88, 3, none, xM10)) (av := [.int z3, .int (0 : Int32), .int z13]) (rest := []) (y_cokS (n := 3) X ym_within (x_cons (x_bw19 15 rfl rfl) (x_cons (x_bw19 1 rfl rfl) (x_cons (x_bw0 1 rfl rfl) x_nilm))) (x_bw19 2 rfl rfl) (by decide +kernel) ⟨Nat.le_of_ble_eq_true rfl, Nat.le_of_ble_eq_true rfl⟩) hY0 hI rfl ca_d14 hl.1 (Nat.le_of_ble_eq_true rfl) (Nat.le_of_ble_eq_true rfl) (Nat.le_of_ble_eq_true rfl) (y_cons ⟨_, rfl, x_i32 _⟩ (y_cons ⟨_, rfl, x_i32 _⟩ (y_cons ⟨_, rfl, x_i32 _⟩ y_nil))) rfl (y_norecv rfl) trivial (y_sub_ef rfl) fun v Yn o Hn L ho hr ha hIn hx_ hE hP => ?_
  replace hs_this_refused := y_Efld hE hY_this rfl (by decide) (by decide) hs_this_refused
  replace hY_this := y_ext hx_ hI.1 hY_this
  replace hY_this_refused := y_ext hx_ hI.1 hY_this_refused
  obtain ⟨r14, rfl, hin_r14, hout_r14⟩ := hP _ _ _ rfl
  clear ho hr ha hE hP hI hx_
  rename x_I _ _ _ _ _ _ _ _ _ _ => hI
  refine lv_if_eq hx hb ca_d17 (tgt := 30) (by decide) (fun q17 => ?_) (fun q17 => ?_)
  · have q17_ : r14.toInt = (0 : Int32).toInt := by rw [q17]
    refine lv_iload_n hx hb ca_d30 rfl (lv_at hl 3 rfl) ?_
    exact y_ireturn B hI rfl rfl rfl List.mem_cons_self ⟨_, rfl, ⟨_, rfl, x_i32 _⟩⟩ (x_cs.mono B.2.2.2.2.2 (y_mon B hI)) (fun t' a' x' h1 => by cases h1; rfl) (Nat.le_refl _) (Nat.le_refl _) ca_d31
  · have q17_ : ¬ r14.toInt = (0 : Int32).toInt := fun q => q17 (Int32.toInt_inj.mp q)
    have hw := hin_r14 q17
    refine lv_aload_n hx hb ca_d20 rfl (lv_at hl 1 rfl) ?_
    refine y_getf X (fl7 X.2.2.2.2.1) hI.1 hY_this rfl hs_this_refused ca_d21 ?_
    refine lv_iload_n hx hb ca_d24 rfl (lv_at hl 0 rfl) ?_
    refine lv_dup2_11 hx hb ca_d25 rfl rfl ?_
    obtain ⟨f_this_refused, hA_this_refused, hB_this_refused⟩ := y_arr hI.1 hY_this_refused rfl rfl
    refine y_iald X hI.1 hY_this_refused rfl hA_this_refused (by omega) (by show _ < (3 : Int); omega) ca_d26 ?_
    obtain ⟨e26, hg_e26⟩ : ∃ e26 : Int32, f_this_refused z3.toInt.toNat = e26 := ⟨_, rfl⟩
    rw [hg_e26]
    refine lv_iconst hx hb ca_d27 (v := 1) (by decide) ?_
    refine lv_iadd hx hb ca_d28 ?_
    generalize hg_z28 : e26 + (1 : Int32) = z28
    refine y_iast X hY0 hI hY_this_refused rfl hA_this_refused (by omega) (by show _ < (3 : Int); omega) ⟨_, rfl, x_i32 _⟩ (by decide +kernel) ca_d29 fun H locs hI h_new ho => ?_
    replace hA_this_refused := h_new
    generalize hf_f29 : y_up f_this_refused z3.toInt.toNat z28 = f29 at hA_this_refused
    replace hs_this_refused := y_slk hs_this_refused (ho _ (y_ne hY_this hY_this_refused rfl))
    refine lv_iload_n hx hb ca_d30 rfl (lv_at hl 3 rfl) ?_
    exact y_ireturn B hI rfl rfl rfl List.mem_cons_self ⟨_, rfl, ⟨_, rfl, x_i32 _⟩⟩ (x_cs.mono B.2.2.2.2.2 (y_mon B hI)) (fun t' a' x' h1 => by cases h1; rfl) (Nat.le_refl _) (Nat.le_refl _) ca_d31
theorem ct_d0 : decode xM8.2.1 0 = .ok (.aload_n 0, 1) := dz_ok (by decide +kernel)
theorem ct_d1 : decode xM8.2.1 1 = .ok (.iload_n 1, 1) := dz_ok (by decide +kernel)
theorem ct_d2 : decode xM8.2.1 2 = .ok (.iload_n 1, 1) := dz_ok (by decide +kernel)
theorem ct_d3 : decode xM8.2.1 3 = .ok (.invokevirtual 221, 3) := dz_ok (by decide +kernel)
theorem ct_d6 : decode xM8.2.1 6 = .ok (.ireturn, 1) := dz_ok (by decide +kernel)
theorem ym_counted : y_Met vwCl x_G x_Zs x_Tb x_Nb xM8 y_T z_Pa1 := by
  refine y_main (by decide +kernel) (by decide +kernel) x_Tb_good x_Nb_ok ?_
  intro p l e s m below meth c D U Y0 av ls B hI _ hl
  have X := B.1
  have hx := X.1
  have hb := X.2.1
  have hY0 := B.2.2.2.2.1
  obtain ⟨v0, v1, rfl, hv0, ⟨x, rfl, -⟩⟩ := x_two B.2.2.2.2.2
  obtain ⟨this, t0, rfl, ht0, hY_this⟩ := x_ref_at hv0 rfl
  obtain rfl := List.mem_singleton.mp ht0
  replace hl : lv_has ls xM8.2.2.1 [(0, .ref this), (1, .int x)] := hl
  refine lv_aload_n hx hb ct_d0 rfl (lv_at hl 0 rfl) ?_
  refine lv_iload_n hx hb ct_d1 rfl (lv_at hl 1 rfl) ?_
  refine lv_iload_n hx hb ct_d2 rfl (lv_at hl 1 rfl) ?_
  refine y_call (z := (0, 221, 3, some 0, xM7)) (av := [.ref this, .int x, .int x]) (rest := []) (y_cokV (n := 2) (ci := 11) X ym_countedAs rfl rfl rfl (x_cons (x_bw19 11 rfl rfl) (x_cons (x_bw19 13 rfl rfl) (x_cons (x_at 2 (by decide +kernel) rfl) (x_cons (x_bw0 1 rfl rfl) x_nilm)))) (x_bw19 14 rfl rfl) (by decide +kernel) ⟨Nat.le_of_ble_eq_true rfl, Nat.le_of_ble_eq_true rfl⟩) hY0 hI rfl ct_d3 hl.1 (Nat.le_of_ble_eq_true rfl) (Nat.le_of_ble_eq_true rfl) (Nat.le_of_ble_eq_true rfl) (y_cons (y_cref hY_this rfl) (y_cons ⟨_, rfl, x_i32 _⟩ (y_cons ⟨_, rfl, x_i32 _⟩ y_nil))) rfl (y_recv rfl hY_this) trivial (y_sub_ef rfl) fun v Yn o Hn L ho hr ha hIn hx_ hE hP => ?_
  replace hY_this := y_ext hx_ hI.1 hY_this
  obtain rfl := hP _ _ _ rfl
  clear ho hr ha hE hP hI hx_
  rename x_I _ _ _ _ _ _ _ _ _ _ => hI
  exact y_ireturn B hI rfl rfl rfl List.mem_cons_self ⟨_, rfl, ⟨_, rfl, x_i32 _⟩⟩ (x_cs.mono B.2.2.2.2.2 (y_mon B hI)) (fun t' x' h1 => by cases h1; rfl) (Nat.le_refl _) (Nat.le_refl _) ct_d6
def xMgi : xM := (⟨"TwinFires", "image", "(I)I"⟩, prog_1_method_38_code, 2, some .int, [xR false [0], xF], [([xR false [0], xF], some (xF))], [(2, 0), (2, 6), (2, 12), (3, 0), (3, 1), (3, 2), (3, 3), (3, 4), (3, 5), (3, 6), (3, 7), (3, 8), (3, 9), (3, 10), (3, 11), (3, 12), (3, 13), (3, 14), (3, 15), (11, 0), (11, 1), (11, 2), (11, 3), (11, 4), (12, 0), (12, 1), (12, 2), (12, 3), (12, 4), (13, 0), (13, 1), (13, 2), (13, 3), (13, 4), (14, 0), (14, 1), (14, 2), (14, 3), (14, 4), (15, 0), (15, 1), (15, 2), (15, 3), (15, 4), (16, 0), (16, 1), (16, 2), (16, 3), (16, 4), (19, 0), (20, 0), (21, 0), (22, 0), (23, 0), (24, 0), (25, 0), (26, 0), (27, 0), (28, 0), (29, 0), (30, 0), (31, 0), (41, 0), (42, 0), (64, 0)], (3, 67, 15, 143), none)
theorem gi_d0 : decode xMgi.2.1 0 = .ok (.iload_n 1, 1) := dz_ok (by decide +kernel)
theorem gi_d1 : decode xMgi.2.1 1 = .ok (.iconst 0, 1) := dz_ok (by decide +kernel)
theorem gi_d2 : decode xMgi.2.1 2 = .ok (.aload_n 0, 1) := dz_ok (by decide +kernel)
theorem gi_d3 : decode xMgi.2.1 3 = .ok (.getfield 19, 3) := dz_ok (by decide +kernel)
theorem gi_d6 : decode xMgi.2.1 6 = .ok (.arraylength, 1) := dz_ok (by decide +kernel)
theorem gi_d7 : decode xMgi.2.1 7 = .ok (.iconst 1, 1) := dz_ok (by decide +kernel)
theorem gi_d8 : decode xMgi.2.1 8 = .ok (.isub, 1) := dz_ok (by decide +kernel)
theorem gi_d9 : decode xMgi.2.1 9 = .ok (.invokestatic 88, 3) := dz_ok (by decide +kernel)
theorem gi_d12 : decode xMgi.2.1 12 = .ok (.ifCond .ne 10, 3) := dz_ok (by decide +kernel)
theorem gi_d15 : decode xMgi.2.1 15 = .ok (.aload_n 0, 1) := dz_ok (by decide +kernel)
theorem gi_d16 : decode xMgi.2.1 16 = .ok (.bipush (-2), 2) := dz_ok (by decide +kernel)
theorem gi_d18 : decode xMgi.2.1 18 = .ok (.invokevirtual 59, 3) := dz_ok (by decide +kernel)
theorem gi_d21 : decode xMgi.2.1 21 = .ok (.ireturn, 1) := dz_ok (by decide +kernel)
theorem gi_d22 : decode xMgi.2.1 22 = .ok (.aload_n 0, 1) := dz_ok (by decide +kernel)
theorem gi_d23 : decode xMgi.2.1 23 = .ok (.getfield 19, 3) := dz_ok (by decide +kernel)
theorem gi_d26 : decode xMgi.2.1 26 = .ok (.iload_n 1, 1) := dz_ok (by decide +kernel)
theorem gi_d27 : decode xMgi.2.1 27 = .ok (.aaload, 1) := dz_ok (by decide +kernel)
theorem gi_d28 : decode xMgi.2.1 28 = .ok (.ifnonnull 16, 3) := dz_ok (by decide +kernel)
theorem gi_d31 : decode xMgi.2.1 31 = .ok (.aload_n 0, 1) := dz_ok (by decide +kernel)
theorem gi_d32 : decode xMgi.2.1 32 = .ok (.getfield 19, 3) := dz_ok (by decide +kernel)
theorem gi_d35 : decode xMgi.2.1 35 = .ok (.iload_n 1, 1) := dz_ok (by decide +kernel)
theorem gi_d36 : decode xMgi.2.1 36 = .ok (.new 9, 3) := dz_ok (by decide +kernel)
theorem gi_d39 : decode xMgi.2.1 39 = .ok (.dup, 1) := dz_ok (by decide +kernel)
theorem gi_d40 : decode xMgi.2.1 40 = .ok (.invokespecial 11, 3) := dz_ok (by decide +kernel)
theorem gi_d43 : decode xMgi.2.1 43 = .ok (.aastore, 1) := dz_ok (by decide +kernel)
theorem gi_d44 : decode xMgi.2.1 44 = .ok (.aload_n 0, 1) := dz_ok (by decide +kernel)
theorem gi_d45 : decode xMgi.2.1 45 = .ok (.getfield 19, 3) := dz_ok (by decide +kernel)
theorem gi_d48 : decode xMgi.2.1 48 = .ok (.iload_n 1, 1) := dz_ok (by decide +kernel)
theorem gi_d49 : decode xMgi.2.1 49 = .ok (.aaload, 1) := dz_ok (by decide +kernel)
theorem gi_d50 : decode xMgi.2.1 50 = .ok (.aload_n 0, 1) := dz_ok (by decide +kernel)
theorem gi_d51 : decode xMgi.2.1 51 = .ok (.getfield 12, 3) := dz_ok (by decide +kernel)
theorem gi_d54 : decode xMgi.2.1 54 = .ok (.invokevirtual 148, 3) := dz_ok (by decide +kernel)
theorem gi_d57 : decode xMgi.2.1 57 = .ok (.iconst 1, 1) := dz_ok (by decide +kernel)
theorem gi_d58 : decode xMgi.2.1 58 = .ok (.ireturn, 1) := dz_ok (by decide +kernel)
theorem ym_gimage : y_Met vwCl x_G x_Zs x_Tb x_Nb xMgi y_T z_Pimg := by
  refine y_main (by decide +kernel) (by decide +kernel) x_Tb_good x_Nb_ok ?_
  intro p l e s m below meth c D U Y0 av ls B hI _ hl
  have X := B.1
  have hx := X.1
  have hb := X.2.1
  have hY0 := B.2.2.2.2.1
  have hts := X.2.2.2.2.1
  obtain ⟨v0, v1, rfl, hv0, ⟨i, rfl, -⟩⟩ := x_two B.2.2.2.2.2
  obtain ⟨this, t0, rfl, ht0, hY_this⟩ := x_ref_at hv0 rfl
  obtain rfl := List.mem_singleton.mp ht0
  replace hl : lv_has ls xMgi.2.2.1 [(0, .ref this), (1, .int i)] := hl
  refine lv_iload_n hx hb gi_d0 rfl (lv_at hl 1 rfl) ?_
  refine lv_iconst hx hb gi_d1 (v := 0) (by decide) ?_
  have ec0 : (0 : Int32).toInt = 0 := by decide
  refine lv_aload_n hx hb gi_d2 rfl (lv_at hl 0 rfl) ?_
  obtain ⟨this_kept, hs_this_kept, hY_this_kept⟩ := y_fldR (k := 2) hI.1 hY_this rfl rfl
  refine y_getf X (fl158 X.2.2.2.2.1) hI.1 hY_this rfl hs_this_kept gi_d3 ?_
  refine y_alen X hI.1 hY_this_kept rfl gi_d6 ?_
  have h_nI2 : (nI 2).toInt = 2 := by decide
  refine lv_iconst hx hb gi_d7 (v := 1) (by decide) ?_
  have ec1 : (1 : Int32).toInt = 1 := by decide
  refine lv_isub hx hb gi_d8 ?_
  generalize hg_z8 : (nI 2) - (1 : Int32) = z8
  have h_z8 : z8.toInt = (nI 2).toInt - 1 := by rw [← hg_z8]; have := y_sub (x := (nI 2)) (y := (1 : Int32)) (by rw [ec1]; omega) (by rw [ec1]; omega); rw [ec1] at this; exact this
  refine y_call (z := (1, 88, 3, none, xM10)) (av := [.int i, .int (0 : Int32), .int z8]) (rest := []) (y_cokS (n := 3) X ym_within (x_cons (x_bw19 15 rfl rfl) (x_cons (x_bw19 1 rfl rfl) (x_cons (x_bw0 1 rfl rfl) x_nilm))) (x_bw19 2 rfl rfl) (by decide +kernel) ⟨Nat.le_of_ble_eq_true rfl, Nat.le_of_ble_eq_true rfl⟩) hY0 hI rfl gi_d9 hl.1 (Nat.le_of_ble_eq_true rfl) (Nat.le_of_ble_eq_true rfl) (Nat.le_of_ble_eq_true rfl) (y_cons ⟨_, rfl, x_i32 _⟩ (y_cons ⟨_, rfl, x_i32 _⟩ (y_cons ⟨_, rfl, x_i32 _⟩ y_nil))) rfl (y_norecv rfl) trivial (y_sub_ef rfl) fun v Yn o Hn L ho hr ha hIn hx_ hE hP => ?_
  replace hs_this_kept := y_Efld hE hY_this rfl (by decide) (by decide) hs_this_kept
  replace hY_this := y_ext hx_ hI.1 hY_this
  replace hY_this_kept := y_ext hx_ hI.1 hY_this_kept
  obtain ⟨r9, rfl, hin_r9, hout_r9⟩ := hP _ _ _ rfl
  clear ho hr ha hE hP hI hx_
  rename x_I _ _ _ _ _ _ _ _ _ _ => hI
  refine lv_if_ne hx hb gi_d12 (tgt := 22) (by decide) (fun q12 => ?_) (fun q12 => ?_)
  · have q12_ : ¬ r9.toInt = (0 : Int32).toInt := fun q => q12 (Int32.toInt_inj.mp q)
    have hw := hin_r9 q12
    refine lv_aload_n hx hb gi_d22 rfl (lv_at hl 0 rfl) ?_
    refine y_getf X (fl158 X.2.2.2.2.1) hI.1 hY_this rfl hs_this_kept gi_d23 ?_
    refine lv_iload_n hx hb gi_d26 rfl (lv_at hl 1 rfl) ?_
    obtain ⟨v27, hv27, hc27⟩ := y_elt (j := i.toInt.toNat) hI.1 hY_this_kept rfl (by omega)
    refine y_aald X hI.1 hY_this_kept rfl (by omega) (by show _ < (2 : Int); omega) hv27 gi_d27 ?_
    rcases hc27 with ⟨e27, -⟩ | ⟨q27, t27, e27, ht27, hY_q27⟩
    · subst e27
      refine lv_ifnonnullN hx hb gi_d28 ?_
      refine lv_aload_n hx hb gi_d31 rfl (lv_at hl 0 rfl) ?_
      refine y_getf X (fl158 X.2.2.2.2.1) hI.1 hY_this rfl hs_this_kept gi_d32 ?_
      refine lv_iload_n hx hb gi_d35 rfl (lv_at hl 1 rfl) ?_
      refine y_newo (tag := 3) X hY0 hI rfl ⟨2, _, RX2, TX2, tyX2, rfl, rfl, iX2, tyX2_ok, (hts _ (x_bw1 14 rfl rfl)), (hts _ (x_bw1 15 rfl rfl)), (hts _ (x_bw0 2 rfl rfl)), x_dfl (by decide +kernel)⟩ (Nat.le_of_ble_eq_true rfl) (Nat.le_of_ble_eq_true rfl) gi_d36 fun Yn H n36 hnw => ?_
      obtain ⟨hIn, hmo, hY_n36, hfr_n36, hke⟩ := hnw
      replace hs_this_kept := y_slk hs_this_kept (hke _ _ hY_this)
      replace hY_this := hmo _ _ hY_this
      replace hY_this_kept := hmo _ _ hY_this_kept
      replace hI := hIn
      clear hIn hmo hke
      refine lv_dup hx hb gi_d39 rfl ?_
      refine y_callC (z := (2, 11, 1, none, xMli)) (b := n36) (rest := [.ref n36, .int i, .ref this_kept]) (y_cokI (n := 0) X ym_landInit rfl (x_cons (x_bw2 0 rfl rfl) (x_cons (x_bw2 1 rfl rfl) (x_cons (x_bw0 2 rfl rfl) x_nilm))) (x_bw2 2 rfl rfl) rfl (fun Y av h => x_this h) (by decide +kernel) ⟨Nat.le_of_ble_eq_true rfl, Nat.le_of_ble_eq_true rfl⟩) hY0 hI rfl gi_d40 hl.1 (Nat.le_of_ble_eq_true rfl) (Nat.le_of_ble_eq_true rfl) (Nat.le_of_ble_eq_true rfl) (y_cons (y_cref hY_n36 rfl) y_nil) rfl rfl trivial (y_sub_ef rfl) hfr_n36 rfl fun Yn Hn L hIn hY_n hk hE => ?_
      replace hs_this_kept := y_Efld hE hY_this rfl (by decide) (by decide) hs_this_kept
      replace hY_this := hk _ _ (y_ne hY_this hY_n36 rfl) hY_this
      replace hY_this_kept := hk _ _ (y_ne hY_this_kept hY_n36 rfl) hY_this_kept
      replace hY_n36 := hY_n
      clear hI hE hk hY_n
      rename x_I _ _ _ _ _ _ _ _ _ _ => hI
      refine y_aast X hY0 hI hY_this_kept rfl hY_n36 rfl rfl (x_castSelf (X.2.2.2.2.2.1.1 2 _ rfl).2) (by omega) (by show _ < (2 : Int); omega) (y_crefA hY_n36 rfl) (by decide +kernel) gi_d43 fun H locs hI h_at h_ne ho => ?_
      replace hs_this_kept := y_slk hs_this_kept (ho _ (y_ne hY_this hY_this_kept rfl))
      refine lv_aload_n hx hb gi_d44 rfl (lv_at hl 0 rfl) ?_
      refine y_getf X (fl158 X.2.2.2.2.1) hI.1 hY_this rfl hs_this_kept gi_d45 ?_
      refine lv_iload_n hx hb gi_d48 rfl (lv_at hl 1 rfl) ?_
      refine y_aald X hI.1 hY_this_kept rfl (by omega) (by show _ < (2 : Int); omega) h_at gi_d49 ?_
      refine lv_aload_n hx hb gi_d50 rfl (lv_at hl 0 rfl) ?_
      obtain ⟨this_here, hs_this_here, hY_this_here⟩ := y_fldR (k := 0) hI.1 hY_this rfl rfl
      refine y_getf X (fl8 X.2.2.2.2.1) hI.1 hY_this rfl hs_this_here gi_d51 ?_
      refine y_call (z := (0, 148, 2, some 2, xM58)) (av := [.ref n36, .ref this_here]) (rest := []) (y_cok.of (x_cokV (n := 1) (ci := 2) X xm58 rfl rfl rfl (x_cons (x_bw34 15 rfl rfl) (x_cons (x_bw35 0 rfl rfl) (x_cons (x_bw35 1 rfl rfl) (x_cons (x_bw0 2 rfl rfl) x_nilm)))) (x_bw35 2 rfl rfl) (by decide +kernel) ⟨Nat.le_of_ble_eq_true rfl, Nat.le_of_ble_eq_true rfl⟩)) hY0 hI rfl gi_d54 hl.1 (Nat.le_of_ble_eq_true rfl) (Nat.le_of_ble_eq_true rfl) (Nat.le_of_ble_eq_true rfl) (y_cons (y_cref hY_n36 rfl) (y_cons (y_cref hY_this_here rfl) y_nil)) rfl (y_recv rfl hY_n36) trivial (y_sub_ef rfl) fun v Yn o Hn L ho hr ha hIn hx_ hE hP => ?_
      replace hs_this_kept := y_Efld hE hY_this rfl (by decide) (by decide) hs_this_kept
      replace hs_this_here := y_Efld hE hY_this rfl (by decide) (by decide) hs_this_here
      replace hY_this := y_ext hx_ hI.1 hY_this
      replace hY_this_kept := y_ext hx_ hI.1 hY_this_kept
      replace hY_n36 := y_ext hx_ hI.1 hY_n36
      replace hY_this_here := y_ext hx_ hI.1 hY_this_here
      obtain rfl := y_ansV rfl ho hr
      clear ho hr ha hE hP hI hx_
      rename x_I _ _ _ _ _ _ _ _ _ _ => hI
      refine lv_iconst hx hb gi_d57 (v := 1) (by decide) ?_
      exact y_ireturn B hI rfl rfl rfl List.mem_cons_self ⟨_, rfl, ⟨_, rfl, x_i32 _⟩⟩ (x_cs.mono B.2.2.2.2.2 (y_mon B hI)) (fun t' i' h1 => by cases h1; rw [if_pos (by omega)]) (by exact Nat.le_of_ble_eq_true rfl) (by exact Nat.le_of_ble_eq_true rfl) gi_d58
    · subst e27
      obtain rfl := List.mem_singleton.mp ht27
      refine lv_ifnonnull hx hb gi_d28 (tgt := 44) (by decide) ?_
      refine lv_aload_n hx hb gi_d44 rfl (lv_at hl 0 rfl) ?_
      refine y_getf X (fl158 X.2.2.2.2.1) hI.1 hY_this rfl hs_this_kept gi_d45 ?_
      refine lv_iload_n hx hb gi_d48 rfl (lv_at hl 1 rfl) ?_
      refine y_aald X hI.1 hY_this_kept rfl (by omega) (by show _ < (2 : Int); omega) hv27 gi_d49 ?_
      refine lv_aload_n hx hb gi_d50 rfl (lv_at hl 0 rfl) ?_
      obtain ⟨this_here, hs_this_here, hY_this_here⟩ := y_fldR (k := 0) hI.1 hY_this rfl rfl
      refine y_getf X (fl8 X.2.2.2.2.1) hI.1 hY_this rfl hs_this_here gi_d51 ?_
      refine y_call (z := (0, 148, 2, some 2, xM58)) (av := [.ref q27, .ref this_here]) (rest := []) (y_cok.of (x_cokV (n := 1) (ci := 2) X xm58 rfl rfl rfl (x_cons (x_bw34 15 rfl rfl) (x_cons (x_bw35 0 rfl rfl) (x_cons (x_bw35 1 rfl rfl) (x_cons (x_bw0 2 rfl rfl) x_nilm)))) (x_bw35 2 rfl rfl) (by decide +kernel) ⟨Nat.le_of_ble_eq_true rfl, Nat.le_of_ble_eq_true rfl⟩)) hY0 hI rfl gi_d54 hl.1 (Nat.le_of_ble_eq_true rfl) (Nat.le_of_ble_eq_true rfl) (Nat.le_of_ble_eq_true rfl) (y_cons (y_cref hY_q27 rfl) (y_cons (y_cref hY_this_here rfl) y_nil)) rfl (y_recv rfl hY_q27) trivial (y_sub_ef rfl) fun v Yn o Hn L ho hr ha hIn hx_ hE hP => ?_
      replace hs_this_kept := y_Efld hE hY_this rfl (by decide) (by decide) hs_this_kept
      replace hs_this_here := y_Efld hE hY_this rfl (by decide) (by decide) hs_this_here
      replace hY_this := y_ext hx_ hI.1 hY_this
      replace hY_this_kept := y_ext hx_ hI.1 hY_this_kept
      replace hY_q27 := y_ext hx_ hI.1 hY_q27
      replace hY_this_here := y_ext hx_ hI.1 hY_this_here
      obtain rfl := y_ansV rfl ho hr
      clear ho hr ha hE hP hI hx_
      rename x_I _ _ _ _ _ _ _ _ _ _ => hI
      refine lv_iconst hx hb gi_d57 (v := 1) (by decide) ?_
      exact y_ireturn B hI rfl rfl rfl List.mem_cons_self ⟨_, rfl, ⟨_, rfl, x_i32 _⟩⟩ (x_cs.mono B.2.2.2.2.2 (y_mon B hI)) (fun t' i' h1 => by cases h1; rw [if_pos (by omega)]) (by exact Nat.le_of_ble_eq_true rfl) (by exact Nat.le_of_ble_eq_true rfl) gi_d58
  · have q12_ : r9.toInt = (0 : Int32).toInt := by rw [q12]
    have hw := hout_r9 q12
    refine lv_aload_n hx hb gi_d15 rfl (lv_at hl 0 rfl) ?_
    refine lv_bipush hx hb gi_d16 (v := (-2)) (by decide) ?_
    have ecm2 : ((-2) : Int32).toInt = (-2) := by decide
    refine y_call (z := (0, 59, 2, some 0, xM8)) (av := [.ref this, .int ((-2) : Int32)]) (rest := []) (y_cokV (n := 1) (ci := 11) X ym_counted rfl rfl rfl (x_cons (x_bw19 7 rfl rfl) (x_cons (x_bw19 9 rfl rfl) (x_cons (x_at 1 (by decide +kernel) rfl) (x_cons (x_bw0 1 rfl rfl) x_nilm)))) (x_bw19 10 rfl rfl) (by decide +kernel) ⟨Nat.le_of_ble_eq_true rfl, Nat.le_of_ble_eq_true rfl⟩) hY0 hI rfl gi_d18 hl.1 (Nat.le_of_ble_eq_true rfl) (Nat.le_of_ble_eq_true rfl) (Nat.le_of_ble_eq_true rfl) (y_cons (y_cref hY_this rfl) (y_cons ⟨_, rfl, x_i32 _⟩ y_nil)) rfl (y_recv rfl hY_this) trivial (y_sub_ef rfl) fun v Yn o Hn L ho hr ha hIn hx_ hE hP => ?_
    replace hs_this_kept := y_Efld hE hY_this rfl (by decide) (by decide) hs_this_kept
    replace hY_this := y_ext hx_ hI.1 hY_this
    replace hY_this_kept := y_ext hx_ hI.1 hY_this_kept
    obtain rfl := hP _ _ rfl
    clear ho hr ha hE hP hI hx_
    rename x_I _ _ _ _ _ _ _ _ _ _ => hI
    exact y_ireturn B hI rfl rfl rfl List.mem_cons_self ⟨_, rfl, ⟨_, rfl, x_i32 _⟩⟩ (x_cs.mono B.2.2.2.2.2 (y_mon B hI)) (fun t' i' h1 => by cases h1; rw [if_neg (by omega)]) (by exact Nat.le_of_ble_eq_true rfl) (by exact Nat.le_of_ble_eq_true rfl) gi_d21
theorem rf_d0 : decode xM142.2.1 0 = .ok (.aload_n 0, 1) := dz_ok (by decide +kernel)
theorem rf_d1 : decode xM142.2.1 1 = .ok (.getfield 23, 3) := dz_ok (by decide +kernel)
theorem rf_d4 : decode xM142.2.1 4 = .ok (.iload_n 1, 1) := dz_ok (by decide +kernel)
theorem rf_d5 : decode xM142.2.1 5 = .ok (.dup2, 1) := dz_ok (by decide +kernel)
theorem rf_d6 : decode xM142.2.1 6 = .ok (.iaload, 1) := dz_ok (by decide +kernel)
theorem rf_d7 : decode xM142.2.1 7 = .ok (.aload_n 0, 1) := dz_ok (by decide +kernel)
theorem rf_d8 : decode xM142.2.1 8 = .ok (.getfield 72, 3) := dz_ok (by decide +kernel)
theorem rf_d11 : decode xM142.2.1 11 = .ok (.ifCond .eq 7, 3) := dz_ok (by decide +kernel)
theorem rf_d14 : decode xM142.2.1 14 = .ok (.iconst 0, 1) := dz_ok (by decide +kernel)
theorem rf_d15 : decode xM142.2.1 15 = .ok (.goto 4, 3) := dz_ok (by decide +kernel)
theorem rf_d18 : decode xM142.2.1 18 = .ok (.iconst 1, 1) := dz_ok (by decide +kernel)
theorem rf_d19 : decode xM142.2.1 19 = .ok (.iadd, 1) := dz_ok (by decide +kernel)
theorem rf_d20 : decode xM142.2.1 20 = .ok (.iastore, 1) := dz_ok (by decide +kernel)
theorem rf_d21 : decode xM142.2.1 21 = .ok (.iload_n 2, 1) := dz_ok (by decide +kernel)
theorem rf_d22 : decode xM142.2.1 22 = .ok (.ireturn, 1) := dz_ok (by decide +kernel)
theorem ym_refuses : y_Met vwCl x_G x_Zs x_Tb x_Nb xM142 y_T z_Pan := by
  refine y_main (by decide +kernel) (by decide +kernel) x_Tb_good x_Nb_ok ?_
  intro p l e s m below meth c D U Y0 av ls B hI _ hl
  have X := B.1
  have hx := X.1
  have hb := X.2.1
  have hY0 := B.2.2.2.2.1
  obtain ⟨v0, v1, v2, rfl, hv0, ⟨a, rfl, ha⟩, ⟨x, rfl, -⟩⟩ := y_three B.2.2.2.2.2
  replace ha : (0 : Int) ≤ a.toInt ∧ a.toInt ≤ 2 := ha
  obtain ⟨this, t0, rfl, ht0, hY_this⟩ := x_ref_at hv0 rfl
  obtain rfl := List.mem_singleton.mp ht0
  replace hl : lv_has ls xM142.2.2.1 [(0, .ref this), (1, .int a), (2, .int x)] := hl
  refine lv_aload_n hx hb rf_d0 rfl (lv_at hl 0 rfl) ?_
  obtain ⟨this_refused, hs_this_refused, hY_this_refused⟩ := y_fldR (k := 4) hI.1 hY_this rfl rfl
  refine y_getf X (fl191 X.2.2.2.2.1) hI.1 hY_this rfl hs_this_refused rf_d1 ?_
  refine lv_iload_n hx hb rf_d4 rfl (lv_at hl 1 rfl) ?_
  refine lv_dup2_11 hx hb rf_d5 rfl rfl ?_
  obtain ⟨f_this_refused, hA_this_refused, hB_this_refused⟩ := y_arr hI.1 hY_this_refused rfl rfl
  refine y_iald X hI.1 hY_this_refused rfl hA_this_refused (by omega) (by show _ < (3 : Int); omega) rf_d6 ?_
  obtain ⟨e6, hg_e6⟩ : ∃ e6 : Int32, f_this_refused a.toInt.toNat = e6 := ⟨_, rfl⟩
  rw [hg_e6]
  refine lv_aload_n hx hb rf_d7 rfl (lv_at hl 0 rfl) ?_
  obtain ⟨quiet_8, hs_this_quiet, h_quiet_8⟩ := y_fldI (k := 5) hI.1 hY_this rfl rfl
  replace h_quiet_8 : (0 : Int) ≤ quiet_8.toInt ∧ quiet_8.toInt ≤ 1 := h_quiet_8
  refine y_getf X (fl192 X.2.2.2.2.1) hI.1 hY_this rfl hs_this_quiet rf_d8 ?_
  have ec0 : (0 : Int32).toInt = 0 := by decide
  refine lv_if_eq hx hb rf_d11 (tgt := 18) (by decide) (fun q11 => ?_) (fun q11 => ?_)
  · have q11_ : quiet_8.toInt = (0 : Int32).toInt := by rw [q11]
    refine lv_iconst hx hb rf_d18 (v := 1) (by decide) ?_
    have ec1 : (1 : Int32).toInt = 1 := by decide
    refine lv_iadd hx hb rf_d19 ?_
    generalize hg_z19 : e6 + (1 : Int32) = z19
    refine y_iast X hY0 hI hY_this_refused rfl hA_this_refused (by omega) (by show _ < (3 : Int); omega) ⟨_, rfl, x_i32 _⟩ (by decide +kernel) rf_d20 fun H locs hI h_new ho => ?_
    replace hA_this_refused := h_new
    generalize hf_f20 : y_up f_this_refused a.toInt.toNat z19 = f20 at hA_this_refused
    replace hs_this_refused := y_slk hs_this_refused (ho _ (y_ne hY_this hY_this_refused rfl))
    replace hs_this_quiet := y_slk hs_this_quiet (ho _ (y_ne hY_this hY_this_refused rfl))
    refine lv_iload_n hx hb rf_d21 rfl (lv_at hl 2 rfl) ?_
    exact y_ireturn B hI rfl rfl rfl List.mem_cons_self ⟨_, rfl, ⟨_, rfl, x_i32 _⟩⟩ (x_cs.mono B.2.2.2.2.2 (y_mon B hI)) (fun t' a' x' h1 => by cases h1; rfl) (Nat.le_refl _) (Nat.le_refl _) rf_d22
  · have q11_ : ¬ quiet_8.toInt = (0 : Int32).toInt := fun q => q11 (Int32.toInt_inj.mp q)
    refine lv_iconst hx hb rf_d14 (v := 0) (by decide) ?_
    refine lv_goto hx hb rf_d15 (tgt := 19) (by decide) ?_
    refine lv_iadd hx hb rf_d19 ?_
    generalize hg_z19 : e6 + (0 : Int32) = z19
    refine y_iast X hY0 hI hY_this_refused rfl hA_this_refused (by omega) (by show _ < (3 : Int); omega) ⟨_, rfl, x_i32 _⟩ (by decide +kernel) rf_d20 fun H locs hI h_new ho => ?_
    replace hA_this_refused := h_new
    generalize hf_f20 : y_up f_this_refused a.toInt.toNat z19 = f20 at hA_this_refused
    replace hs_this_refused := y_slk hs_this_refused (ho _ (y_ne hY_this hY_this_refused rfl))
    replace hs_this_quiet := y_slk hs_this_quiet (ho _ (y_ne hY_this hY_this_refused rfl))
    refine lv_iload_n hx hb rf_d21 rfl (lv_at hl 2 rfl) ?_
    exact y_ireturn B hI rfl rfl rfl List.mem_cons_self ⟨_, rfl, ⟨_, rfl, x_i32 _⟩⟩ (x_cs.mono B.2.2.2.2.2 (y_mon B hI)) (fun t' a' x' h1 => by cases h1; rfl) (Nat.le_refl _) (Nat.le_refl _) rf_d22
theorem bd_d0 : decode xM143.2.1 0 = .ok (.aload_n 0, 1) := dz_ok (by decide +kernel)
theorem bd_d1 : decode xM143.2.1 1 = .ok (.iconst 0, 1) := dz_ok (by decide +kernel)
theorem bd_d2 : decode xM143.2.1 2 = .ok (.bipush (-2), 2) := dz_ok (by decide +kernel)
theorem bd_d4 : decode xM143.2.1 4 = .ok (.invokevirtual 76, 3) := dz_ok (by decide +kernel)
theorem bd_d7 : decode xM143.2.1 7 = .ok (.ireturn, 1) := dz_ok (by decide +kernel)
theorem ym_bad : y_Met vwCl x_G x_Zs x_Tb x_Nb xM143 y_T z_Pbad := by
  refine y_main (by decide +kernel) (by decide +kernel) x_Tb_good x_Nb_ok ?_
  intro p l e s m below meth c D U Y0 av ls B hI _ hl
  have X := B.1
  have hx := X.1
  have hb := X.2.1
  have hY0 := B.2.2.2.2.1
  obtain ⟨v0, rfl, hv0⟩ := x_one B.2.2.2.2.2
  obtain ⟨this, t0, rfl, ht0, hY_this⟩ := x_ref_at hv0 rfl
  obtain rfl := List.mem_singleton.mp ht0
  replace hl : lv_has ls xM143.2.2.1 [(0, .ref this)] := hl
  refine lv_aload_n hx hb bd_d0 rfl (lv_at hl 0 rfl) ?_
  refine lv_iconst hx hb bd_d1 (v := 0) (by decide) ?_
  have ec0 : (0 : Int32).toInt = 0 := by decide
  refine lv_bipush hx hb bd_d2 (v := (-2)) (by decide) ?_
  have ecm2 : ((-2) : Int32).toInt = (-2) := by decide
  refine y_call (z := (0, 76, 3, some 17, xM142)) (av := [.ref this, .int (0 : Int32), .int ((-2) : Int32)]) (rest := []) (y_cokV (n := 2) (ci := 12) X ym_refuses rfl rfl rfl (x_cons (x_bw68 7 rfl rfl) (x_cons (x_bw68 9 rfl rfl) (x_cons (x_at 33 (by decide +kernel) rfl) (x_cons (x_bw0 9 rfl rfl) x_nilm)))) (x_bw68 10 rfl rfl) (by decide +kernel) ⟨Nat.le_of_ble_eq_true rfl, Nat.le_of_ble_eq_true rfl⟩) hY0 hI rfl bd_d4 hl.1 (Nat.le_of_ble_eq_true rfl) (Nat.le_of_ble_eq_true rfl) (Nat.le_of_ble_eq_true rfl) (y_cons (y_cref hY_this rfl) (y_cons ⟨_, rfl, by show (0 : Int) ≤ _; omega, by show _ ≤ (2 : Int); omega⟩ (y_cons ⟨_, rfl, x_i32 _⟩ y_nil))) rfl (y_recv rfl hY_this) trivial (y_sub_ef rfl) fun v Yn o Hn L ho hr ha hIn hx_ hE hP => ?_
  replace hY_this := y_ext hx_ hI.1 hY_this
  obtain rfl := hP _ _ _ rfl
  clear ho hr ha hE hP hI hx_
  rename x_I _ _ _ _ _ _ _ _ _ _ => hI
  exact y_ireturn B hI rfl rfl rfl List.mem_cons_self ⟨_, rfl, ⟨_, rfl, x_i32 _⟩⟩ (x_cs.mono B.2.2.2.2.2 (y_mon B hI)) rfl (Nat.le_refl _) (Nat.le_refl _) bd_d7
def xMi2 : xM := (⟨"TwinFiresModel", "image", "(I)I"⟩, prog_14_method_78_code, 3, some .int, [xR false [17], xF], [([xR false [17], xF], some (xF))], [(47, 0), (48, 0), (50, 0)], (2, 42, 0, 0), none)
theorem i2_d0 : decode xMi2.2.1 0 = .ok (.iload_n 1, 1) := dz_ok (by decide +kernel)
theorem i2_d1 : decode xMi2.2.1 1 = .ok (.i2l, 1) := dz_ok (by decide +kernel)
theorem i2_d2 : decode xMi2.2.1 2 = .ok (.lconst 0, 1) := dz_ok (by decide +kernel)
theorem i2_d3 : decode xMi2.2.1 3 = .ok (.lconst 1, 1) := dz_ok (by decide +kernel)
theorem i2_d4 : decode xMi2.2.1 4 = .ok (.invokestatic 87, 3) := dz_ok (by decide +kernel)
theorem i2_d7 : decode xMi2.2.1 7 = .ok (.ifCond .ne 8, 3) := dz_ok (by decide +kernel)
theorem i2_d10 : decode xMi2.2.1 10 = .ok (.aload_n 0, 1) := dz_ok (by decide +kernel)
theorem i2_d11 : decode xMi2.2.1 11 = .ok (.invokevirtual 102, 3) := dz_ok (by decide +kernel)
theorem i2_d14 : decode xMi2.2.1 14 = .ok (.ireturn, 1) := dz_ok (by decide +kernel)
theorem i2_d15 : decode xMi2.2.1 15 = .ok (.iconst 0, 1) := dz_ok (by decide +kernel)
theorem i2_d16 : decode xMi2.2.1 16 = .ok (.istore_n 2, 1) := dz_ok (by decide +kernel)
theorem i2_d17 : decode xMi2.2.1 17 = .ok (.iload_n 2, 1) := dz_ok (by decide +kernel)
theorem i2_d18 : decode xMi2.2.1 18 = .ok (.sipush 160, 3) := dz_ok (by decide +kernel)
theorem i2_d21 : decode xMi2.2.1 21 = .ok (.if_icmp .ge 27, 3) := dz_ok (by decide +kernel)
theorem i2_d24 : decode xMi2.2.1 24 = .ok (.aload_n 0, 1) := dz_ok (by decide +kernel)
theorem i2_d25 : decode xMi2.2.1 25 = .ok (.getfield 13, 3) := dz_ok (by decide +kernel)
theorem i2_d28 : decode xMi2.2.1 28 = .ok (.sipush 160, 3) := dz_ok (by decide +kernel)
theorem i2_d31 : decode xMi2.2.1 31 = .ok (.iload_n 1, 1) := dz_ok (by decide +kernel)
theorem i2_d32 : decode xMi2.2.1 32 = .ok (.imul, 1) := dz_ok (by decide +kernel)
theorem i2_d33 : decode xMi2.2.1 33 = .ok (.iload_n 2, 1) := dz_ok (by decide +kernel)
theorem i2_d34 : decode xMi2.2.1 34 = .ok (.iadd, 1) := dz_ok (by decide +kernel)
theorem i2_d35 : decode xMi2.2.1 35 = .ok (.aload_n 0, 1) := dz_ok (by decide +kernel)
theorem i2_d36 : decode xMi2.2.1 36 = .ok (.getfield 7, 3) := dz_ok (by decide +kernel)
theorem i2_d39 : decode xMi2.2.1 39 = .ok (.iload_n 2, 1) := dz_ok (by decide +kernel)
theorem i2_d40 : decode xMi2.2.1 40 = .ok (.iaload, 1) := dz_ok (by decide +kernel)
theorem i2_d41 : decode xMi2.2.1 41 = .ok (.iastore, 1) := dz_ok (by decide +kernel)
theorem i2_d42 : decode xMi2.2.1 42 = .ok (.iinc 2 1, 3) := dz_ok (by decide +kernel)
theorem i2_d45 : decode xMi2.2.1 45 = .ok (.goto (-28), 3) := dz_ok (by decide +kernel)
theorem i2_d48 : decode xMi2.2.1 48 = .ok (.aload_n 0, 1) := dz_ok (by decide +kernel)
theorem i2_d49 : decode xMi2.2.1 49 = .ok (.getfield 16, 3) := dz_ok (by decide +kernel)
theorem i2_d52 : decode xMi2.2.1 52 = .ok (.iload_n 1, 1) := dz_ok (by decide +kernel)
theorem i2_d53 : decode xMi2.2.1 53 = .ok (.iconst 1, 1) := dz_ok (by decide +kernel)
theorem i2_d54 : decode xMi2.2.1 54 = .ok (.bastore, 1) := dz_ok (by decide +kernel)
theorem i2_d55 : decode xMi2.2.1 55 = .ok (.iconst 1, 1) := dz_ok (by decide +kernel)
theorem i2_d56 : decode xMi2.2.1 56 = .ok (.ireturn, 1) := dz_ok (by decide +kernel)
theorem i2_L17 {p : Program} {l : Launch} {e : Env} {s : State} {m : MethodId} {below : List Frame} {meth : Method} {c : Code} {D : va_G} {U : State} {Y0 : xY} {av : List Value} (B : y_B vwCl x_Tb x_Nb xMi2 p s m meth c D U Y0 av) {this bk im : Nat} {i : Int32} {fb : Nat → Int32} (hav : av = [.ref this, .int i]) (hi : 0 ≤ i.toInt ∧ i.toInt ≤ 1) (hh : z_hd fb)  :
    ∀ (n : Nat), ∀ (H : Heap) (Y : xY) (locs : List Loc) (ls : Array Slot) (k : Int32) (fi : Nat → Int32), x_I D x_G x_Zs U (x_efs xMi2) Y0 s.heap Y H locs → Y this = some 17 → Y bk = some 46 → Y im = some 47 → x_sl D 12 0 this H = some (.ref bk) → x_sl D 12 1 this H = some (.ref im) → y_A bk 160 H fb → y_A im 320 H fi → lv_has ls xMi2.2.2.1 [(2, .int k), (0, .ref this), (1, .int i)] → (0 ≤ k.toInt ∧ k.toInt ≤ 160) → (160 - k.toInt).toNat < n → W p l e (x_rm xMi2) s m av.toArray below meth c H locs 0 0 (y_QQ below D x_G x_Zs U xMi2 z_Pimg av Y0 s) (F0 m 17 ls []) := by
  have X := B.1
  have hx := X.1
  have hb := X.2.1
  have hY0 := B.2.2.2.2.1
  intro n
  induction n with
  | zero => intro _ _ _ _ _ _ _ _ _ _ _ _ _ _ _ _ h; exact absurd h (Nat.not_lt_zero _)
  | succ n ih =>
    intro H Y locs ls k fi hI hY_this hY_bk hY_im hs_bk hs_im hA_bk hA_im hl hk hn
    refine lv_iload_n hx hb i2_d17 rfl (lv_at hl 0 rfl) ?_
    refine lv_sipush hx hb i2_d18 (v := 160) (by decide) ?_
    have ec160 : (160 : Int32).toInt = 160 := by decide
    refine lv_icmp_ge hx hb i2_d21 (tgt := 48) (by decide) (fun q21 => ?_) (fun q21 => ?_)
    · have q21_ : (160 : Int32).toInt ≤ k.toInt := x_le32.mp q21
      refine lv_aload_n hx hb i2_d48 rfl (lv_at hl 1 rfl) ?_
      obtain ⟨this_kept, hs_this_kept, hY_this_kept⟩ := y_fldR (k := 2) hI.1 hY_this rfl rfl
      refine y_getf X (fl_im_218b X.2.2.2.2.1) hI.1 hY_this rfl hs_this_kept i2_d49 ?_
      refine lv_iload_n hx hb i2_d52 rfl (lv_at hl 2 rfl) ?_
      refine lv_iconst hx hb i2_d53 (v := 1) (by decide) ?_
      have ec1 : (1 : Int32).toInt = 1 := by decide
      obtain ⟨f_this_kept, hA_this_kept, hB_this_kept⟩ := y_arr hI.1 hY_this_kept rfl rfl
      replace hB_this_kept : ∀ j, j < 2 → (0 : Int) ≤ (f_this_kept j).toInt ∧ (f_this_kept j).toInt ≤ 1 := fun j hj => by obtain ⟨x, e0, e1⟩ := hB_this_kept j hj; cases e0; exact e1
      refine y_zast X hY0 hI hY_this_kept rfl hA_this_kept (by omega) (by show _ < (2 : Int); omega) (y_01 (by omega) (by omega)) ⟨_, rfl, by show (0 : Int) ≤ _; omega, by show _ ≤ (1 : Int); omega⟩ (by decide +kernel) i2_d54 fun H locs hI h_new ho => ?_
      replace hA_this_kept := h_new
      replace hB_this_kept := y_upb (i := i.toInt.toNat) (v := (1 : Int32)) hB_this_kept (by constructor <;> omega)
      generalize hf_f54 : y_up f_this_kept i.toInt.toNat (1 : Int32) = f54 at hA_this_kept hB_this_kept
      replace hs_bk := y_slk hs_bk (ho _ (y_ne hY_this hY_this_kept rfl))
      replace hs_im := y_slk hs_im (ho _ (y_ne hY_this hY_this_kept rfl))
      replace hs_this_kept := y_slk hs_this_kept (ho _ (y_ne hY_this hY_this_kept rfl))
      replace hA_bk := hA_bk.kept (ho _ (y_ne hY_bk hY_this_kept rfl))
      replace hA_im := hA_im.kept (ho _ (y_ne hY_im hY_this_kept rfl))
      refine lv_iconst hx hb i2_d55 (v := 1) (by decide) ?_
      subst hav
      exact y_ireturn B hI rfl rfl rfl List.mem_cons_self ⟨_, rfl, ⟨_, rfl, x_i32 _⟩⟩ (x_cs.mono B.2.2.2.2.2 (y_mon B hI)) (fun t' i' h1 => by cases h1; rw [if_pos hi]) (Nat.le_refl _) (Nat.le_refl _) i2_d56
    · have q21_ : k.toInt < (160 : Int32).toInt := Int.not_le.mp fun q => q21 (x_le32.mpr q)
      refine lv_aload_n hx hb i2_d24 rfl (lv_at hl 1 rfl) ?_
      refine y_getf X (fl_im_219b X.2.2.2.2.1) hI.1 hY_this rfl hs_im i2_d25 ?_
      refine lv_sipush hx hb i2_d28 (v := 160) (by decide) ?_
      refine lv_iload_n hx hb i2_d31 rfl (lv_at hl 2 rfl) ?_
      refine lv_imul hx hb i2_d32 ?_
      generalize hg_z32 : (160 : Int32) * i = z32
      have h_z32 : z32.toInt = 160 * i.toInt := by rw [← hg_z32]; have := y_mul (x := (160 : Int32)) (y := i) (by rw [ec160]; omega) (by rw [ec160]; omega); rw [ec160] at this; exact this
      refine lv_iload_n hx hb i2_d33 rfl (lv_at hl 0 rfl) ?_
      refine lv_iadd hx hb i2_d34 ?_
      generalize hg_z34 : z32 + k = z34
      have h_z34 : z34.toInt = z32.toInt + k.toInt := by rw [← hg_z34]; have := y_add (x := z32) (y := k) (by omega) (by omega); exact this
      refine lv_aload_n hx hb i2_d35 rfl (lv_at hl 1 rfl) ?_
      refine y_getf X (fl190 X.2.2.2.2.1) hI.1 hY_this rfl hs_bk i2_d36 ?_
      refine lv_iload_n hx hb i2_d39 rfl (lv_at hl 0 rfl) ?_
      refine y_iald X hI.1 hY_bk rfl hA_bk (by omega) (by show _ < (160 : Int); omega) i2_d40 ?_
      obtain ⟨e40, hg_e40⟩ : ∃ e40 : Int32, fb k.toInt.toNat = e40 := ⟨_, rfl⟩
      rw [hg_e40]
      refine y_iast X hY0 hI hY_im rfl hA_im (by omega) (by show _ < (320 : Int); omega) (by rw [z_preI_i hi.1 hi.2 (k := k) (by omega) (by omega) (by omega)]; have := z_hdc (Y := Y) hh k.toInt.toNat; rw [hg_e40] at this; exact this) (by decide +kernel) i2_d41 fun H locs hI h_new ho => ?_
      replace hA_im := h_new
      generalize hf_f41 : y_up fi z34.toInt.toNat e40 = f41 at hA_im
      replace hs_bk := y_slk hs_bk (ho _ (y_ne hY_this hY_im rfl))
      replace hs_im := y_slk hs_im (ho _ (y_ne hY_this hY_im rfl))
      replace hA_bk := hA_bk.kept (ho _ (y_ne hY_bk hY_im rfl))
      obtain ⟨z42, hg_z42⟩ : ∃ z42 : Int32, k + Int32.ofInt 1 = z42 := ⟨_, rfl⟩
      have h_z42 : z42.toInt = k.toInt + 1 := by rw [← hg_z42]; exact y_inc (by decide) (by omega) (by omega)
      refine lv_iinc hx hb i2_d42 hl (k := 0) rfl hg_z42 (by decide) (lv' := [(2, .int z42), (0, .ref this), (1, .int i)]) rfl fun ls hl => ?_
      refine lv_goto hx hb i2_d45 (tgt := 17) (by decide) ?_
      exact ih _ _ _ _ _ _ hI hY_this hY_bk hY_im hs_bk hs_im hA_bk hA_im (lv_sub hl [0, 1, 2] rfl) (by first | assumption | omega) (by omega)
theorem ym_image2 : y_Met vwCl x_G x_Zs x_Tb x_Nb xMi2 y_T z_Pimg := by
  refine y_main (by decide +kernel) (by decide +kernel) x_Tb_good x_Nb_ok ?_
  intro p l e s m below meth c D U Y0 av ls B hI _ hl
  have X := B.1
  have hx := X.1
  have hb := X.2.1
  have hY0 := B.2.2.2.2.1
  obtain ⟨v0, v1, rfl, hv0, ⟨i, rfl, -⟩⟩ := x_two B.2.2.2.2.2
  obtain ⟨this, t0, rfl, ht0, hY_this⟩ := x_ref_at hv0 rfl
  obtain rfl := List.mem_singleton.mp ht0
  replace hl : lv_has ls xMi2.2.2.1 [(0, .ref this), (1, .int i)] := hl
  obtain ⟨bk, hs_bk, hY_bk⟩ := y_fldR (k := 0) hI.1 hY_this rfl rfl
  obtain ⟨im, hs_im, hY_im⟩ := y_fldR (k := 1) hI.1 hY_this rfl rfl
  obtain ⟨fb, hA_bk, hB_bk⟩ := y_arr hI.1 hY_bk rfl rfl
  obtain ⟨fi, hA_im, hB_im⟩ := y_arr hI.1 hY_im rfl rfl
  have hh := z_hdr hB_bk
  refine lv_iload_n hx hb i2_d0 rfl (lv_at hl 1 rfl) ?_
  obtain ⟨z1, hg_z1⟩ : ∃ z1 : Int64, i.toInt64 = z1 := ⟨_, rfl⟩
  have h_z1 : z1.toInt = (i).toInt := by rw [← hg_z1]; exact Int32.toInt_toInt64 _
  refine lv_i2l hx hb i2_d1 (v := z1) hg_z1 ?_
  refine lv_lconst hx hb i2_d2 (v := 0) (by decide) ?_
  have el0 : (0 : Int64).toInt = 0 := by decide
  refine lv_lconst hx hb i2_d3 (v := 1) (by decide) ?_
  have el1 : (1 : Int64).toInt = 1 := by decide
  refine y_call (z := (1, 87, 3, none, xM148)) (av := [.long z1, .long (0 : Int64), .long (1 : Int64)]) (rest := []) (y_cokS (n := 3) X ym_in (x_cons (x_bw67 11 rfl rfl) (x_cons (x_bw67 12 rfl rfl) (x_cons (x_bw0 9 rfl rfl) x_nilm))) (x_bw67 13 rfl rfl) (by decide +kernel) ⟨Nat.le_of_ble_eq_true rfl, Nat.le_of_ble_eq_true rfl⟩) hY0 hI rfl i2_d4 hl.1 (Nat.le_of_ble_eq_true rfl) (Nat.le_of_ble_eq_true rfl) (Nat.le_of_ble_eq_true rfl) (y_cons ⟨_, rfl, x_i64 _⟩ (y_cons ⟨_, rfl, x_i64 _⟩ (y_cons ⟨_, rfl, x_i64 _⟩ y_nil))) rfl (y_norecv rfl) trivial (y_sub_ef rfl) fun v Yn o Hn L ho hr ha hIn hx_ hE hP => ?_
  replace hs_bk := y_Efld hE hY_this rfl (by decide) (by decide) hs_bk
  replace hs_im := y_Efld hE hY_this rfl (by decide) (by decide) hs_im
  replace hA_bk := hA_bk.kept (y_Earr hE hY_bk rfl (by decide))
  replace hA_im := hA_im.kept (y_Earr hE hY_im rfl (by decide))
  replace hY_this := y_ext hx_ hI.1 hY_this
  replace hY_bk := y_ext hx_ hI.1 hY_bk
  replace hY_im := y_ext hx_ hI.1 hY_im
  obtain ⟨r4, rfl, hin_r4, hout_r4⟩ := z_inR2 (hP _ _ _ rfl)
  clear ho hr ha hE hP hI hx_
  rename x_I _ _ _ _ _ _ _ _ _ _ => hI
  have ec0 : (0 : Int32).toInt = 0 := by decide
  refine lv_if_ne hx hb i2_d7 (tgt := 15) (by decide) (fun q7 => ?_) (fun q7 => ?_)
  · have q7_ : ¬ r4.toInt = (0 : Int32).toInt := fun q => q7 (Int32.toInt_inj.mp q)
    have hi1 := hin_r4 q7
    have hi : 0 ≤ i.toInt ∧ i.toInt ≤ 1 := by omega
    refine lv_iconst hx hb i2_d15 (v := 0) (by decide) ?_
    refine lv_istore_n hx hb i2_d16 rfl hl (by decide) (lv' := [(2, .int (0 : Int32)), (0, .ref this), (1, .int i)]) rfl fun ls hl => ?_
    exact i2_L17 B rfl hi hh 161 _ _ _ _ _ _ hI hY_this hY_bk hY_im hs_bk hs_im hA_bk hA_im (lv_sub hl [0, 1, 2] rfl) (by first | assumption | omega) (by omega)
  · have q7_ : r4.toInt = (0 : Int32).toInt := by rw [q7]
    have hi1 := hout_r4 q7
    refine lv_aload_n hx hb i2_d10 rfl (lv_at hl 0 rfl) ?_
    refine y_call (z := (0, 102, 1, some 17, xM143)) (av := [.ref this]) (rest := []) (y_cokV (n := 0) (ci := 12) X ym_bad rfl rfl rfl (x_cons (x_bw68 3 rfl rfl) (x_cons (x_bw68 5 rfl rfl) (x_cons (x_at 32 (by decide +kernel) rfl) (x_cons (x_bw0 9 rfl rfl) x_nilm)))) (x_bw68 6 rfl rfl) (by decide +kernel) ⟨Nat.le_of_ble_eq_true rfl, Nat.le_of_ble_eq_true rfl⟩) hY0 hI rfl i2_d11 hl.1 (Nat.le_of_ble_eq_true rfl) (Nat.le_of_ble_eq_true rfl) (Nat.le_of_ble_eq_true rfl) (y_cons (y_cref hY_this rfl) y_nil) rfl (y_recv rfl hY_this) trivial (y_sub_ef rfl) fun v Yn o Hn L ho hr ha hIn hx_ hE hP => ?_
    replace hs_bk := y_Efld hE hY_this rfl (by decide) (by decide) hs_bk
    replace hs_im := y_Efld hE hY_this rfl (by decide) (by decide) hs_im
    replace hA_bk := hA_bk.kept (y_Earr hE hY_bk rfl (by decide))
    replace hA_im := hA_im.kept (y_Earr hE hY_im rfl (by decide))
    replace hY_this := y_ext hx_ hI.1 hY_this
    replace hY_bk := y_ext hx_ hI.1 hY_bk
    replace hY_im := y_ext hx_ hI.1 hY_im
    have hPb := hP
    obtain rfl := hPb
    clear ho hr ha hE hP hI hx_
    rename x_I _ _ _ _ _ _ _ _ _ _ => hI
    exact y_ireturn B hI rfl rfl rfl List.mem_cons_self ⟨_, rfl, ⟨_, rfl, x_i32 _⟩⟩ (x_cs.mono B.2.2.2.2.2 (y_mon B hI)) (fun t' i' h1 => by cases h1; rw [if_neg (by omega)]) (Nat.le_refl _) (Nat.le_refl _) i2_d14
