
def z_ok (i : Int32) : Prop := 0 ≤ i.toInt ∧ i.toInt ≤ 1
def z_Pgi : yP := fun D av Y H v Y' H' => ∀ (this kp : Nat) (i : Int32), av = [.ref this, .int i] → x_sl D 11 2 this H = some (.ref kp) → v = some (.int (if 0 ≤ i.toInt ∧ i.toInt ≤ 1 then 1 else -2)) ∧ (∀ j : Nat, j < 2 → ¬ (j : Int) = i.toInt → y_at kp j H' = y_at kp j H) ∧ (0 ≤ i.toInt ∧ i.toInt ≤ 1 → ∃ q, y_at kp i.toInt.toNat H' = some (.ref q))
def z_Pgf : yP := fun D av Y H v Y' H' => ∀ (this kp : Nat) (i : Int32), av = [.ref this, .int i] → x_sl D 11 2 this H = some (.ref kp) → (¬ (0 ≤ i.toInt ∧ i.toInt ≤ 1) → v = some (.int (-2))) ∧ (0 ≤ i.toInt ∧ i.toInt ≤ 1 → y_at kp i.toInt.toNat H = some .null → v = some (.int (-3))) ∧ (0 ≤ i.toInt ∧ i.toInt ≤ 1 → ∀ q, y_at kp i.toInt.toNat H = some (.ref q) → v = some (.int 1))
def z_Pmf : yP := fun D av Y H v Y' H' => ∀ (this mk : Nat) (i : Int32) (fk : Nat → Int32), av = [.ref this, .int i] → x_sl D 12 2 this H = some (.ref mk) → y_A mk 2 H fk → (¬ (0 ≤ i.toInt ∧ i.toInt ≤ 1) → v = some (.int (-2))) ∧ (0 ≤ i.toInt ∧ i.toInt ≤ 1 → fk i.toInt.toNat = 0 → v = some (.int (-3))) ∧ (0 ≤ i.toInt ∧ i.toInt ≤ 1 → ¬ fk i.toInt.toNat = 0 → v = some (.int 1))
def z_Pmg : yP := fun D av Y H v Y' H' => ∀ (this mk : Nat) (i : Int32) (fk : Nat → Int32), av = [.ref this, .int i] → x_sl D 12 2 this H = some (.ref mk) → y_A mk 2 H fk → v = some (.int (if 0 ≤ i.toInt ∧ i.toInt ≤ 1 then 1 else -2)) ∧ (0 ≤ i.toInt ∧ i.toInt ≤ 1 → y_A mk 2 H' (y_up fk i.toInt.toNat 1)) ∧ (¬ (0 ≤ i.toInt ∧ i.toInt ≤ 1) → y_A mk 2 H' fk)
def z_Pno : yP := fun _ _ _ _ v _ _ => v = some (.int (-3))
def z_Pfull : yP := fun _ _ _ _ v _ _ => v = some (.int (-4))

theorem gk_d0 : decode xMgi.2.1 0 = .ok (.iload_n 1, 1) := dz_ok (by decide +kernel)
theorem gk_d1 : decode xMgi.2.1 1 = .ok (.iconst 0, 1) := dz_ok (by decide +kernel)
theorem gk_d2 : decode xMgi.2.1 2 = .ok (.aload_n 0, 1) := dz_ok (by decide +kernel)
theorem gk_d3 : decode xMgi.2.1 3 = .ok (.getfield 19, 3) := dz_ok (by decide +kernel)
theorem gk_d6 : decode xMgi.2.1 6 = .ok (.arraylength, 1) := dz_ok (by decide +kernel)
theorem gk_d7 : decode xMgi.2.1 7 = .ok (.iconst 1, 1) := dz_ok (by decide +kernel)
theorem gk_d8 : decode xMgi.2.1 8 = .ok (.isub, 1) := dz_ok (by decide +kernel)
theorem gk_d9 : decode xMgi.2.1 9 = .ok (.invokestatic 88, 3) := dz_ok (by decide +kernel)
theorem gk_d12 : decode xMgi.2.1 12 = .ok (.ifCond .ne 10, 3) := dz_ok (by decide +kernel)
theorem gk_d15 : decode xMgi.2.1 15 = .ok (.aload_n 0, 1) := dz_ok (by decide +kernel)
theorem gk_d16 : decode xMgi.2.1 16 = .ok (.bipush (-2), 2) := dz_ok (by decide +kernel)
theorem gk_d18 : decode xMgi.2.1 18 = .ok (.invokevirtual 59, 3) := dz_ok (by decide +kernel)
theorem gk_d21 : decode xMgi.2.1 21 = .ok (.ireturn, 1) := dz_ok (by decide +kernel)
theorem gk_d22 : decode xMgi.2.1 22 = .ok (.aload_n 0, 1) := dz_ok (by decide +kernel)
theorem gk_d23 : decode xMgi.2.1 23 = .ok (.getfield 19, 3) := dz_ok (by decide +kernel)
theorem gk_d26 : decode xMgi.2.1 26 = .ok (.iload_n 1, 1) := dz_ok (by decide +kernel)
theorem gk_d27 : decode xMgi.2.1 27 = .ok (.aaload, 1) := dz_ok (by decide +kernel)
theorem gk_d28 : decode xMgi.2.1 28 = .ok (.ifnonnull 16, 3) := dz_ok (by decide +kernel)
theorem gk_d31 : decode xMgi.2.1 31 = .ok (.aload_n 0, 1) := dz_ok (by decide +kernel)
theorem gk_d32 : decode xMgi.2.1 32 = .ok (.getfield 19, 3) := dz_ok (by decide +kernel)
theorem gk_d35 : decode xMgi.2.1 35 = .ok (.iload_n 1, 1) := dz_ok (by decide +kernel)
theorem gk_d36 : decode xMgi.2.1 36 = .ok (.new 9, 3) := dz_ok (by decide +kernel)
theorem gk_d39 : decode xMgi.2.1 39 = .ok (.dup, 1) := dz_ok (by decide +kernel)
theorem gk_d40 : decode xMgi.2.1 40 = .ok (.invokespecial 11, 3) := dz_ok (by decide +kernel)
theorem gk_d43 : decode xMgi.2.1 43 = .ok (.aastore, 1) := dz_ok (by decide +kernel)
theorem gk_d44 : decode xMgi.2.1 44 = .ok (.aload_n 0, 1) := dz_ok (by decide +kernel)
theorem gk_d45 : decode xMgi.2.1 45 = .ok (.getfield 19, 3) := dz_ok (by decide +kernel)
theorem gk_d48 : decode xMgi.2.1 48 = .ok (.iload_n 1, 1) := dz_ok (by decide +kernel)
theorem gk_d49 : decode xMgi.2.1 49 = .ok (.aaload, 1) := dz_ok (by decide +kernel)
theorem gk_d50 : decode xMgi.2.1 50 = .ok (.aload_n 0, 1) := dz_ok (by decide +kernel)
theorem gk_d51 : decode xMgi.2.1 51 = .ok (.getfield 12, 3) := dz_ok (by decide +kernel)
theorem gk_d54 : decode xMgi.2.1 54 = .ok (.invokevirtual 148, 3) := dz_ok (by decide +kernel)
theorem gk_d57 : decode xMgi.2.1 57 = .ok (.iconst 1, 1) := dz_ok (by decide +kernel)
theorem gk_d58 : decode xMgi.2.1 58 = .ok (.ireturn, 1) := dz_ok (by decide +kernel)
theorem ym_gimageK : y_Met vwCl x_G x_Zs x_Tb x_Nb xMgi y_T z_Pgi := by
  refine y_main (by decide +kernel) (by decide +kernel) x_Tb_good x_Nb_ok ?_
  intro p l e s m below meth c D U Y0 av ls B hI _ hl
  have X := B.1
  have hx := X.1
  have hb := X.2.1
  have hY0 := B.2.2.2.2.1
  have hts := X.2.2.2.2.1
  obtain ⟨v0, v1, rfl, hv0', ⟨i, rfl, -⟩⟩ := x_two B.2.2.2.2.2
  obtain ⟨this, t0, rfl, ht0, hY_this⟩ := x_ref_at hv0' rfl
  obtain rfl := List.mem_singleton.mp ht0
  replace hl : lv_has ls xMgi.2.2.1 [(0, .ref this), (1, .int i)] := hl
  obtain ⟨this_kept, hs_this_kept, hY_this_kept⟩ := y_fldR (k := 2) hI.1 hY_this rfl rfl
  have hs0 := hs_this_kept
  have hq_kp : s.heap[this_kept]? = s.heap[this_kept]? := rfl
  refine lv_iload_n hx hb gk_d0 rfl (lv_at hl 1 rfl) ?_
  refine lv_iconst hx hb gk_d1 (v := 0) (by decide) ?_
  have ec0 : (0 : Int32).toInt = 0 := by decide
  refine lv_aload_n hx hb gk_d2 rfl (lv_at hl 0 rfl) ?_
  refine y_getf X (fl158 X.2.2.2.2.1) hI.1 hY_this rfl hs_this_kept gk_d3 ?_
  refine y_alen X hI.1 hY_this_kept rfl gk_d6 ?_
  have h_nI2 : (nI 2).toInt = 2 := by decide
  refine lv_iconst hx hb gk_d7 (v := 1) (by decide) ?_
  have ec1 : (1 : Int32).toInt = 1 := by decide
  refine lv_isub hx hb gk_d8 ?_
  generalize hg_z8 : (nI 2) - (1 : Int32) = z8
  have h_z8 : z8.toInt = (nI 2).toInt - 1 := by rw [← hg_z8]; have := y_sub (x := (nI 2)) (y := (1 : Int32)) (by rw [ec1]; omega) (by rw [ec1]; omega); rw [ec1] at this; exact this
  refine y_call (z := (1, 88, 3, none, xM10)) (av := [.int i, .int (0 : Int32), .int z8]) (rest := []) (y_cokS (n := 3) X ym_within (x_cons (x_bw19 15 rfl rfl) (x_cons (x_bw19 1 rfl rfl) (x_cons (x_bw0 1 rfl rfl) x_nilm))) (x_bw19 2 rfl rfl) (by decide +kernel) ⟨Nat.le_of_ble_eq_true rfl, Nat.le_of_ble_eq_true rfl⟩) hY0 hI rfl gk_d9 hl.1 (Nat.le_of_ble_eq_true rfl) (Nat.le_of_ble_eq_true rfl) (Nat.le_of_ble_eq_true rfl) (y_cons ⟨_, rfl, x_i32 _⟩ (y_cons ⟨_, rfl, x_i32 _⟩ (y_cons ⟨_, rfl, x_i32 _⟩ y_nil))) rfl (y_norecv rfl) trivial (y_sub_ef rfl) fun v Yn o Hn L ho hr ha hIn hx_ hE hP => ?_
  replace hs_this_kept := y_Efld hE hY_this rfl (by decide) (by decide) hs_this_kept
  replace hq_kp := (y_Earr hE hY_this_kept rfl (by decide)).trans hq_kp
  replace hY_this := y_ext hx_ hI.1 hY_this
  replace hY_this_kept := y_ext hx_ hI.1 hY_this_kept
  obtain ⟨r9, rfl, hin_r9, hout_r9⟩ := hP _ _ _ rfl
  clear ho hr ha hE hP hI hx_
  rename x_I _ _ _ _ _ _ _ _ _ _ => hI
  refine lv_if_ne hx hb gk_d12 (tgt := 22) (by decide) (fun q12 => ?_) (fun q12 => ?_)
  · have q12_ : ¬ r9.toInt = (0 : Int32).toInt := fun q => q12 (Int32.toInt_inj.mp q)
    have hw := hin_r9 q12
    refine lv_aload_n hx hb gk_d22 rfl (lv_at hl 0 rfl) ?_
    refine y_getf X (fl158 X.2.2.2.2.1) hI.1 hY_this rfl hs_this_kept gk_d23 ?_
    refine lv_iload_n hx hb gk_d26 rfl (lv_at hl 1 rfl) ?_
    obtain ⟨v27, hv27, hc27⟩ := y_elt (j := i.toInt.toNat) hI.1 hY_this_kept rfl (by omega)
    refine y_aald X hI.1 hY_this_kept rfl (by omega) (by show _ < (2 : Int); omega) hv27 gk_d27 ?_
    rcases hc27 with ⟨e27, -⟩ | ⟨q27, t27, e27, ht27, hY_q27⟩
    · subst e27
      refine lv_ifnonnullN hx hb gk_d28 ?_
      refine lv_aload_n hx hb gk_d31 rfl (lv_at hl 0 rfl) ?_
      refine y_getf X (fl158 X.2.2.2.2.1) hI.1 hY_this rfl hs_this_kept gk_d32 ?_
      refine lv_iload_n hx hb gk_d35 rfl (lv_at hl 1 rfl) ?_
      refine y_newo (tag := 3) X hY0 hI rfl ⟨2, _, RX2, TX2, tyX2, rfl, rfl, iX2, tyX2_ok, (hts _ (x_bw1 14 rfl rfl)), (hts _ (x_bw1 15 rfl rfl)), (hts _ (x_bw0 2 rfl rfl)), x_dfl (by decide +kernel)⟩ (Nat.le_of_ble_eq_true rfl) (Nat.le_of_ble_eq_true rfl) gk_d36 fun Yn H n36 hnw => ?_
      obtain ⟨hIn, hmo, hY_n36, hfr_n36, hke⟩ := hnw
      have hY_this_kept_old := hY_this_kept
      replace hs_this_kept := y_slk hs_this_kept (hke _ _ hY_this)
      replace hY_this := hmo _ _ hY_this
      replace hY_this_kept := hmo _ _ hY_this_kept
      replace hq_kp := (hke _ _ hY_this_kept_old).trans hq_kp
      replace hI := hIn
      clear hIn hmo hke
      refine lv_dup hx hb gk_d39 rfl ?_
      refine y_callC (z := (2, 11, 1, none, xMli)) (b := n36) (rest := [.ref n36, .int i, .ref this_kept]) (y_cokI (n := 0) X ym_landInit rfl (x_cons (x_bw2 0 rfl rfl) (x_cons (x_bw2 1 rfl rfl) (x_cons (x_bw0 2 rfl rfl) x_nilm))) (x_bw2 2 rfl rfl) rfl (fun Y av h => x_this h) (by decide +kernel) ⟨Nat.le_of_ble_eq_true rfl, Nat.le_of_ble_eq_true rfl⟩) hY0 hI rfl gk_d40 hl.1 (Nat.le_of_ble_eq_true rfl) (Nat.le_of_ble_eq_true rfl) (Nat.le_of_ble_eq_true rfl) (y_cons (y_cref hY_n36 rfl) y_nil) rfl rfl trivial (y_sub_ef rfl) hfr_n36 rfl fun Yn Hn L hIn hY_n hk hE => ?_
      replace hq_kp := (y_Earr hE hY_this_kept rfl (by decide)).trans hq_kp
      replace hs_this_kept := y_Efld hE hY_this rfl (by decide) (by decide) hs_this_kept
      replace hY_this := hk _ _ (y_ne hY_this hY_n36 rfl) hY_this
      replace hY_this_kept := hk _ _ (y_ne hY_this_kept hY_n36 rfl) hY_this_kept
      replace hY_n36 := hY_n
      clear hI hE hk hY_n
      rename x_I _ _ _ _ _ _ _ _ _ _ => hI
      refine y_aast X hY0 hI hY_this_kept rfl hY_n36 rfl rfl (x_castSelf (X.2.2.2.2.2.1.1 2 _ rfl).2) (by omega) (by show _ < (2 : Int); omega) (y_crefA hY_n36 rfl) (by decide +kernel) gk_d43 fun H locs hI h_at h_ne ho => ?_
      replace hs_this_kept := y_slk hs_this_kept (ho _ (y_ne hY_this hY_this_kept rfl))
      have hoth : ∀ j : Nat, ¬ (j : Int) = i.toInt → y_at this_kept j H = y_at this_kept j s.heap := fun j hj => (h_ne j (by omega)).trans (z_atk hq_kp)
      obtain ⟨Hk, hHk⟩ : ∃ Hk : Heap, Hk = H := ⟨_, rfl⟩
      have h_at0 := h_at
      rw [← hHk] at hoth h_at0
      replace hq_kp : H[this_kept]? = Hk[this_kept]? := by rw [hHk]
      refine lv_aload_n hx hb gk_d44 rfl (lv_at hl 0 rfl) ?_
      refine y_getf X (fl158 X.2.2.2.2.1) hI.1 hY_this rfl hs_this_kept gk_d45 ?_
      refine lv_iload_n hx hb gk_d48 rfl (lv_at hl 1 rfl) ?_
      refine y_aald X hI.1 hY_this_kept rfl (by omega) (by show _ < (2 : Int); omega) h_at gk_d49 ?_
      refine lv_aload_n hx hb gk_d50 rfl (lv_at hl 0 rfl) ?_
      obtain ⟨this_here, hs_this_here, hY_this_here⟩ := y_fldR (k := 0) hI.1 hY_this rfl rfl
      refine y_getf X (fl8 X.2.2.2.2.1) hI.1 hY_this rfl hs_this_here gk_d51 ?_
      refine y_call (z := (0, 148, 2, some 2, xM58)) (av := [.ref n36, .ref this_here]) (rest := []) (y_cok.of (x_cokV (n := 1) (ci := 2) X xm58 rfl rfl rfl (x_cons (x_bw34 15 rfl rfl) (x_cons (x_bw35 0 rfl rfl) (x_cons (x_bw35 1 rfl rfl) (x_cons (x_bw0 2 rfl rfl) x_nilm)))) (x_bw35 2 rfl rfl) (by decide +kernel) ⟨Nat.le_of_ble_eq_true rfl, Nat.le_of_ble_eq_true rfl⟩)) hY0 hI rfl gk_d54 hl.1 (Nat.le_of_ble_eq_true rfl) (Nat.le_of_ble_eq_true rfl) (Nat.le_of_ble_eq_true rfl) (y_cons (y_cref hY_n36 rfl) (y_cons (y_cref hY_this_here rfl) y_nil)) rfl (y_recv rfl hY_n36) trivial (y_sub_ef rfl) fun v Yn o Hn L ho hr ha hIn hx_ hE hP => ?_
      replace hs_this_kept := y_Efld hE hY_this rfl (by decide) (by decide) hs_this_kept
      replace hs_this_here := y_Efld hE hY_this rfl (by decide) (by decide) hs_this_here
      replace hq_kp := (y_Earr hE hY_this_kept rfl (by decide)).trans hq_kp
      replace hY_this := y_ext hx_ hI.1 hY_this
      replace hY_this_kept := y_ext hx_ hI.1 hY_this_kept
      replace hY_n36 := y_ext hx_ hI.1 hY_n36
      replace hY_this_here := y_ext hx_ hI.1 hY_this_here
      obtain rfl := y_ansV rfl ho hr
      clear ho hr ha hE hP hI hx_
      rename x_I _ _ _ _ _ _ _ _ _ _ => hI
      refine lv_iconst hx hb gk_d57 (v := 1) (by decide) ?_
      exact y_ireturn B hI rfl rfl rfl List.mem_cons_self ⟨_, rfl, ⟨_, rfl, x_i32 _⟩⟩ (x_cs.mono B.2.2.2.2.2 (y_mon B hI)) (fun t' kp' i' h1 h2 => by cases h1; cases h2.symm.trans hs0; exact ⟨by rw [if_pos (by omega)], fun j _ hj => (z_atk hq_kp).trans (hoth j hj), fun _ => ⟨_, (z_atk hq_kp).trans h_at0⟩⟩) (by exact Nat.le_of_ble_eq_true rfl) (by exact Nat.le_of_ble_eq_true rfl) gk_d58
    · subst e27
      obtain rfl := List.mem_singleton.mp ht27
      refine lv_ifnonnull hx hb gk_d28 (tgt := 44) (by decide) ?_
      have hv0 : y_at this_kept i.toInt.toNat s.heap = some (.ref q27) := by rw [← z_atk hq_kp]; exact hv27
      refine lv_aload_n hx hb gk_d44 rfl (lv_at hl 0 rfl) ?_
      refine y_getf X (fl158 X.2.2.2.2.1) hI.1 hY_this rfl hs_this_kept gk_d45 ?_
      refine lv_iload_n hx hb gk_d48 rfl (lv_at hl 1 rfl) ?_
      refine y_aald X hI.1 hY_this_kept rfl (by omega) (by show _ < (2 : Int); omega) hv27 gk_d49 ?_
      refine lv_aload_n hx hb gk_d50 rfl (lv_at hl 0 rfl) ?_
      obtain ⟨this_here, hs_this_here, hY_this_here⟩ := y_fldR (k := 0) hI.1 hY_this rfl rfl
      refine y_getf X (fl8 X.2.2.2.2.1) hI.1 hY_this rfl hs_this_here gk_d51 ?_
      refine y_call (z := (0, 148, 2, some 2, xM58)) (av := [.ref q27, .ref this_here]) (rest := []) (y_cok.of (x_cokV (n := 1) (ci := 2) X xm58 rfl rfl rfl (x_cons (x_bw34 15 rfl rfl) (x_cons (x_bw35 0 rfl rfl) (x_cons (x_bw35 1 rfl rfl) (x_cons (x_bw0 2 rfl rfl) x_nilm)))) (x_bw35 2 rfl rfl) (by decide +kernel) ⟨Nat.le_of_ble_eq_true rfl, Nat.le_of_ble_eq_true rfl⟩)) hY0 hI rfl gk_d54 hl.1 (Nat.le_of_ble_eq_true rfl) (Nat.le_of_ble_eq_true rfl) (Nat.le_of_ble_eq_true rfl) (y_cons (y_cref hY_q27 rfl) (y_cons (y_cref hY_this_here rfl) y_nil)) rfl (y_recv rfl hY_q27) trivial (y_sub_ef rfl) fun v Yn o Hn L ho hr ha hIn hx_ hE hP => ?_
      replace hs_this_kept := y_Efld hE hY_this rfl (by decide) (by decide) hs_this_kept
      replace hs_this_here := y_Efld hE hY_this rfl (by decide) (by decide) hs_this_here
      replace hq_kp := (y_Earr hE hY_this_kept rfl (by decide)).trans hq_kp
      replace hY_this := y_ext hx_ hI.1 hY_this
      replace hY_this_kept := y_ext hx_ hI.1 hY_this_kept
      replace hY_q27 := y_ext hx_ hI.1 hY_q27
      replace hY_this_here := y_ext hx_ hI.1 hY_this_here
      obtain rfl := y_ansV rfl ho hr
      clear ho hr ha hE hP hI hx_
      rename x_I _ _ _ _ _ _ _ _ _ _ => hI
      refine lv_iconst hx hb gk_d57 (v := 1) (by decide) ?_
      exact y_ireturn B hI rfl rfl rfl List.mem_cons_self ⟨_, rfl, ⟨_, rfl, x_i32 _⟩⟩ (x_cs.mono B.2.2.2.2.2 (y_mon B hI)) (fun t' kp' i' h1 h2 => by cases h1; cases h2.symm.trans hs0; exact ⟨by rw [if_pos (by omega)], fun j _ hj => z_atk hq_kp, fun _ => ⟨_, (z_atk hq_kp).trans hv0⟩⟩) (by exact Nat.le_of_ble_eq_true rfl) (by exact Nat.le_of_ble_eq_true rfl) gk_d58
  · have q12_ : r9.toInt = (0 : Int32).toInt := by rw [q12]
    have hw := hout_r9 q12
    refine lv_aload_n hx hb gk_d15 rfl (lv_at hl 0 rfl) ?_
    refine lv_bipush hx hb gk_d16 (v := (-2)) (by decide) ?_
    have ecm2 : ((-2) : Int32).toInt = (-2) := by decide
    refine y_call (z := (0, 59, 2, some 0, xM8)) (av := [.ref this, .int ((-2) : Int32)]) (rest := []) (y_cokV (n := 1) (ci := 11) X ym_counted rfl rfl rfl (x_cons (x_bw19 7 rfl rfl) (x_cons (x_bw19 9 rfl rfl) (x_cons (x_at 1 (by decide +kernel) rfl) (x_cons (x_bw0 1 rfl rfl) x_nilm)))) (x_bw19 10 rfl rfl) (by decide +kernel) ⟨Nat.le_of_ble_eq_true rfl, Nat.le_of_ble_eq_true rfl⟩) hY0 hI rfl gk_d18 hl.1 (Nat.le_of_ble_eq_true rfl) (Nat.le_of_ble_eq_true rfl) (Nat.le_of_ble_eq_true rfl) (y_cons (y_cref hY_this rfl) (y_cons ⟨_, rfl, x_i32 _⟩ y_nil)) rfl (y_recv rfl hY_this) trivial (y_sub_ef rfl) fun v Yn o Hn L ho hr ha hIn hx_ hE hP => ?_
    replace hs_this_kept := y_Efld hE hY_this rfl (by decide) (by decide) hs_this_kept
    replace hq_kp := (y_Earr hE hY_this_kept rfl (by decide)).trans hq_kp
    replace hY_this := y_ext hx_ hI.1 hY_this
    replace hY_this_kept := y_ext hx_ hI.1 hY_this_kept
    obtain rfl := hP _ _ rfl
    clear ho hr ha hE hP hI hx_
    rename x_I _ _ _ _ _ _ _ _ _ _ => hI
    exact y_ireturn B hI rfl rfl rfl List.mem_cons_self ⟨_, rfl, ⟨_, rfl, x_i32 _⟩⟩ (x_cs.mono B.2.2.2.2.2 (y_mon B hI)) (fun t' kp' i' h1 h2 => by cases h1; cases h2.symm.trans hs0; exact ⟨by rw [if_neg (by omega)], fun j _ _ => z_atk hq_kp, fun h => absurd h (by omega)⟩) (by exact Nat.le_of_ble_eq_true rfl) (by exact Nat.le_of_ble_eq_true rfl) gk_d21
theorem gf_d0 : decode xM131.2.1 0 = .ok (.iload_n 1, 1) := dz_ok (by decide +kernel)
theorem gf_d1 : decode xM131.2.1 1 = .ok (.iconst 0, 1) := dz_ok (by decide +kernel)
theorem gf_d2 : decode xM131.2.1 2 = .ok (.aload_n 0, 1) := dz_ok (by decide +kernel)
theorem gf_d3 : decode xM131.2.1 3 = .ok (.getfield 19, 3) := dz_ok (by decide +kernel)
theorem gf_d6 : decode xM131.2.1 6 = .ok (.arraylength, 1) := dz_ok (by decide +kernel)
theorem gf_d7 : decode xM131.2.1 7 = .ok (.iconst 1, 1) := dz_ok (by decide +kernel)
theorem gf_d8 : decode xM131.2.1 8 = .ok (.isub, 1) := dz_ok (by decide +kernel)
theorem gf_d9 : decode xM131.2.1 9 = .ok (.invokestatic 88, 3) := dz_ok (by decide +kernel)
theorem gf_d12 : decode xM131.2.1 12 = .ok (.ifCond .ne 10, 3) := dz_ok (by decide +kernel)
theorem gf_d15 : decode xM131.2.1 15 = .ok (.aload_n 0, 1) := dz_ok (by decide +kernel)
theorem gf_d16 : decode xM131.2.1 16 = .ok (.bipush (-2), 2) := dz_ok (by decide +kernel)
theorem gf_d18 : decode xM131.2.1 18 = .ok (.invokevirtual 59, 3) := dz_ok (by decide +kernel)
theorem gf_d21 : decode xM131.2.1 21 = .ok (.ireturn, 1) := dz_ok (by decide +kernel)
theorem gf_d22 : decode xM131.2.1 22 = .ok (.aload_n 0, 1) := dz_ok (by decide +kernel)
theorem gf_d23 : decode xM131.2.1 23 = .ok (.getfield 19, 3) := dz_ok (by decide +kernel)
theorem gf_d26 : decode xM131.2.1 26 = .ok (.iload_n 1, 1) := dz_ok (by decide +kernel)
theorem gf_d27 : decode xM131.2.1 27 = .ok (.aaload, 1) := dz_ok (by decide +kernel)
theorem gf_d28 : decode xM131.2.1 28 = .ok (.ifnonnull 10, 3) := dz_ok (by decide +kernel)
theorem gf_d31 : decode xM131.2.1 31 = .ok (.aload_n 0, 1) := dz_ok (by decide +kernel)
theorem gf_d32 : decode xM131.2.1 32 = .ok (.bipush (-3), 2) := dz_ok (by decide +kernel)
theorem gf_d34 : decode xM131.2.1 34 = .ok (.invokevirtual 59, 3) := dz_ok (by decide +kernel)
theorem gf_d37 : decode xM131.2.1 37 = .ok (.ireturn, 1) := dz_ok (by decide +kernel)
theorem gf_d38 : decode xM131.2.1 38 = .ok (.aload_n 0, 1) := dz_ok (by decide +kernel)
theorem gf_d39 : decode xM131.2.1 39 = .ok (.getfield 12, 3) := dz_ok (by decide +kernel)
theorem gf_d42 : decode xM131.2.1 42 = .ok (.aload_n 0, 1) := dz_ok (by decide +kernel)
theorem gf_d43 : decode xM131.2.1 43 = .ok (.getfield 19, 3) := dz_ok (by decide +kernel)
theorem gf_d46 : decode xM131.2.1 46 = .ok (.iload_n 1, 1) := dz_ok (by decide +kernel)
theorem gf_d47 : decode xM131.2.1 47 = .ok (.aaload, 1) := dz_ok (by decide +kernel)
theorem gf_d48 : decode xM131.2.1 48 = .ok (.invokevirtual 148, 3) := dz_ok (by decide +kernel)
theorem gf_d51 : decode xM131.2.1 51 = .ok (.iconst 1, 1) := dz_ok (by decide +kernel)
theorem gf_d52 : decode xM131.2.1 52 = .ok (.ireturn, 1) := dz_ok (by decide +kernel)
theorem ym_gfrom : y_Met vwCl x_G x_Zs x_Tb x_Nb xM131 y_T z_Pgf := by
  refine y_main (by decide +kernel) (by decide +kernel) x_Tb_good x_Nb_ok ?_
  intro p l e s m below meth c D U Y0 av ls B hI _ hl
  have X := B.1
  have hx := X.1
  have hb := X.2.1
  have hY0 := B.2.2.2.2.1
  have hts := X.2.2.2.2.1
  obtain ⟨v0, v1, rfl, hv0', ⟨i, rfl, -⟩⟩ := x_two B.2.2.2.2.2
  obtain ⟨this, t0, rfl, ht0, hY_this⟩ := x_ref_at hv0' rfl
  obtain rfl := List.mem_singleton.mp ht0
  replace hl : lv_has ls xM131.2.2.1 [(0, .ref this), (1, .int i)] := hl
  obtain ⟨this_kept, hs_this_kept, hY_this_kept⟩ := y_fldR (k := 2) hI.1 hY_this rfl rfl
  have hs0 := hs_this_kept
  have hq_kp : s.heap[this_kept]? = s.heap[this_kept]? := rfl
  refine lv_iload_n hx hb gf_d0 rfl (lv_at hl 1 rfl) ?_
  refine lv_iconst hx hb gf_d1 (v := 0) (by decide) ?_
  have ec0 : (0 : Int32).toInt = 0 := by decide
  refine lv_aload_n hx hb gf_d2 rfl (lv_at hl 0 rfl) ?_
  refine y_getf X (fl158 X.2.2.2.2.1) hI.1 hY_this rfl hs_this_kept gf_d3 ?_
  refine y_alen X hI.1 hY_this_kept rfl gf_d6 ?_
  have h_nI2 : (nI 2).toInt = 2 := by decide
  refine lv_iconst hx hb gf_d7 (v := 1) (by decide) ?_
  have ec1 : (1 : Int32).toInt = 1 := by decide
  refine lv_isub hx hb gf_d8 ?_
  generalize hg_z8 : (nI 2) - (1 : Int32) = z8
  have h_z8 : z8.toInt = (nI 2).toInt - 1 := by rw [← hg_z8]; have := y_sub (x := (nI 2)) (y := (1 : Int32)) (by rw [ec1]; omega) (by rw [ec1]; omega); rw [ec1] at this; exact this
  refine y_call (z := (1, 88, 3, none, xM10)) (av := [.int i, .int (0 : Int32), .int z8]) (rest := []) (y_cokS (n := 3) X ym_within (x_cons (x_bw19 15 rfl rfl) (x_cons (x_bw19 1 rfl rfl) (x_cons (x_bw0 1 rfl rfl) x_nilm))) (x_bw19 2 rfl rfl) (by decide +kernel) ⟨Nat.le_of_ble_eq_true rfl, Nat.le_of_ble_eq_true rfl⟩) hY0 hI rfl gf_d9 hl.1 (Nat.le_of_ble_eq_true rfl) (Nat.le_of_ble_eq_true rfl) (Nat.le_of_ble_eq_true rfl) (y_cons ⟨_, rfl, x_i32 _⟩ (y_cons ⟨_, rfl, x_i32 _⟩ (y_cons ⟨_, rfl, x_i32 _⟩ y_nil))) rfl (y_norecv rfl) trivial (y_sub_ef rfl) fun v Yn o Hn L ho hr ha hIn hx_ hE hP => ?_
  replace hs_this_kept := y_Efld hE hY_this rfl (by decide) (by decide) hs_this_kept
  replace hq_kp := (y_Earr hE hY_this_kept rfl (by decide)).trans hq_kp
  replace hY_this := y_ext hx_ hI.1 hY_this
  replace hY_this_kept := y_ext hx_ hI.1 hY_this_kept
  obtain ⟨r9, rfl, hin_r9, hout_r9⟩ := hP _ _ _ rfl
  clear ho hr ha hE hP hI hx_
  rename x_I _ _ _ _ _ _ _ _ _ _ => hI
  refine lv_if_ne hx hb gf_d12 (tgt := 22) (by decide) (fun q12 => ?_) (fun q12 => ?_)
  · have q12_ : ¬ r9.toInt = (0 : Int32).toInt := fun q => q12 (Int32.toInt_inj.mp q)
    have hw := hin_r9 q12
    refine lv_aload_n hx hb gf_d22 rfl (lv_at hl 0 rfl) ?_
    refine y_getf X (fl158 X.2.2.2.2.1) hI.1 hY_this rfl hs_this_kept gf_d23 ?_
    refine lv_iload_n hx hb gf_d26 rfl (lv_at hl 1 rfl) ?_
    obtain ⟨v27, hv27, hc27⟩ := y_elt (j := i.toInt.toNat) hI.1 hY_this_kept rfl (by omega)
    have hv0 : y_at this_kept i.toInt.toNat s.heap = some v27 := by rw [← z_atk hq_kp]; exact hv27
    refine y_aald X hI.1 hY_this_kept rfl (by omega) (by show _ < (2 : Int); omega) hv27 gf_d27 ?_
    rcases hc27 with ⟨e27, -⟩ | ⟨q27, t27, e27, ht27, hY_q27⟩
    · subst e27
      refine lv_ifnonnullN hx hb gf_d28 ?_
      refine lv_aload_n hx hb gf_d31 rfl (lv_at hl 0 rfl) ?_
      refine lv_bipush hx hb gf_d32 (v := (-3)) (by decide) ?_
      have ecm3 : ((-3) : Int32).toInt = (-3) := by decide
      refine y_call (z := (0, 59, 2, some 0, xM8)) (av := [.ref this, .int ((-3) : Int32)]) (rest := []) (y_cokV (n := 1) (ci := 11) X ym_counted rfl rfl rfl (x_cons (x_bw19 7 rfl rfl) (x_cons (x_bw19 9 rfl rfl) (x_cons (x_at 1 (by decide +kernel) rfl) (x_cons (x_bw0 1 rfl rfl) x_nilm)))) (x_bw19 10 rfl rfl) (by decide +kernel) ⟨Nat.le_of_ble_eq_true rfl, Nat.le_of_ble_eq_true rfl⟩) hY0 hI rfl gf_d34 hl.1 (Nat.le_of_ble_eq_true rfl) (Nat.le_of_ble_eq_true rfl) (Nat.le_of_ble_eq_true rfl) (y_cons (y_cref hY_this rfl) (y_cons ⟨_, rfl, x_i32 _⟩ y_nil)) rfl (y_recv rfl hY_this) trivial (y_sub_ef rfl) fun v Yn o Hn L ho hr ha hIn hx_ hE hP => ?_
      replace hs_this_kept := y_Efld hE hY_this rfl (by decide) (by decide) hs_this_kept
      replace hq_kp := (y_Earr hE hY_this_kept rfl (by decide)).trans hq_kp
      replace hY_this := y_ext hx_ hI.1 hY_this
      replace hY_this_kept := y_ext hx_ hI.1 hY_this_kept
      obtain rfl := hP _ _ rfl
      clear ho hr ha hE hP hI hx_
      rename x_I _ _ _ _ _ _ _ _ _ _ => hI
      exact y_ireturn B hI rfl rfl rfl List.mem_cons_self ⟨_, rfl, ⟨_, rfl, x_i32 _⟩⟩ (x_cs.mono B.2.2.2.2.2 (y_mon B hI)) (fun t' kp' i' h1 h2 => by cases h1; cases h2.symm.trans hs0; exact ⟨fun h => absurd (by omega) h, fun _ _ => rfl, fun _ q hq => by rw [hv0] at hq; cases hq⟩) (Nat.le_refl _) (Nat.le_refl _) gf_d37
    · subst e27
      obtain rfl := List.mem_singleton.mp ht27
      refine lv_ifnonnull hx hb gf_d28 (tgt := 38) (by decide) ?_
      refine lv_aload_n hx hb gf_d38 rfl (lv_at hl 0 rfl) ?_
      obtain ⟨this_here, hs_this_here, hY_this_here⟩ := y_fldR (k := 0) hI.1 hY_this rfl rfl
      refine y_getf X (fl8 X.2.2.2.2.1) hI.1 hY_this rfl hs_this_here gf_d39 ?_
      refine lv_aload_n hx hb gf_d42 rfl (lv_at hl 0 rfl) ?_
      refine y_getf X (fl158 X.2.2.2.2.1) hI.1 hY_this rfl hs_this_kept gf_d43 ?_
      refine lv_iload_n hx hb gf_d46 rfl (lv_at hl 1 rfl) ?_
      refine y_aald X hI.1 hY_this_kept rfl (by omega) (by show _ < (2 : Int); omega) hv27 gf_d47 ?_
      refine y_call (z := (0, 148, 2, some 2, xM58)) (av := [.ref this_here, .ref q27]) (rest := []) (y_cok.of (x_cokV (n := 1) (ci := 2) X xm58 rfl rfl rfl (x_cons (x_bw34 15 rfl rfl) (x_cons (x_bw35 0 rfl rfl) (x_cons (x_bw35 1 rfl rfl) (x_cons (x_bw0 2 rfl rfl) x_nilm)))) (x_bw35 2 rfl rfl) (by decide +kernel) ⟨Nat.le_of_ble_eq_true rfl, Nat.le_of_ble_eq_true rfl⟩)) hY0 hI rfl gf_d48 hl.1 (Nat.le_of_ble_eq_true rfl) (Nat.le_of_ble_eq_true rfl) (Nat.le_of_ble_eq_true rfl) (y_cons (y_cref hY_this_here rfl) (y_cons (y_cref hY_q27 rfl) y_nil)) rfl (y_recv rfl hY_this_here) trivial (y_sub_ef rfl) fun v Yn o Hn L ho hr ha hIn hx_ hE hP => ?_
      replace hs_this_kept := y_Efld hE hY_this rfl (by decide) (by decide) hs_this_kept
      replace hs_this_here := y_Efld hE hY_this rfl (by decide) (by decide) hs_this_here
      replace hq_kp := (y_Earr hE hY_this_kept rfl (by decide)).trans hq_kp
      replace hY_this := y_ext hx_ hI.1 hY_this
      replace hY_this_kept := y_ext hx_ hI.1 hY_this_kept
      replace hY_q27 := y_ext hx_ hI.1 hY_q27
      replace hY_this_here := y_ext hx_ hI.1 hY_this_here
      obtain rfl := y_ansV rfl ho hr
      clear ho hr ha hE hP hI hx_
      rename x_I _ _ _ _ _ _ _ _ _ _ => hI
      refine lv_iconst hx hb gf_d51 (v := 1) (by decide) ?_
      exact y_ireturn B hI rfl rfl rfl List.mem_cons_self ⟨_, rfl, ⟨_, rfl, x_i32 _⟩⟩ (x_cs.mono B.2.2.2.2.2 (y_mon B hI)) (fun t' kp' i' h1 h2 => by cases h1; cases h2.symm.trans hs0; exact ⟨fun h => absurd (by omega) h, fun _ hq => (by rw [hv0] at hq; cases hq), fun _ _ _ => rfl⟩) (Nat.le_refl _) (Nat.le_refl _) gf_d52
  · have q12_ : r9.toInt = (0 : Int32).toInt := by rw [q12]
    have hw := hout_r9 q12
    refine lv_aload_n hx hb gf_d15 rfl (lv_at hl 0 rfl) ?_
    refine lv_bipush hx hb gf_d16 (v := (-2)) (by decide) ?_
    have ecm2 : ((-2) : Int32).toInt = (-2) := by decide
    refine y_call (z := (0, 59, 2, some 0, xM8)) (av := [.ref this, .int ((-2) : Int32)]) (rest := []) (y_cokV (n := 1) (ci := 11) X ym_counted rfl rfl rfl (x_cons (x_bw19 7 rfl rfl) (x_cons (x_bw19 9 rfl rfl) (x_cons (x_at 1 (by decide +kernel) rfl) (x_cons (x_bw0 1 rfl rfl) x_nilm)))) (x_bw19 10 rfl rfl) (by decide +kernel) ⟨Nat.le_of_ble_eq_true rfl, Nat.le_of_ble_eq_true rfl⟩) hY0 hI rfl gf_d18 hl.1 (Nat.le_of_ble_eq_true rfl) (Nat.le_of_ble_eq_true rfl) (Nat.le_of_ble_eq_true rfl) (y_cons (y_cref hY_this rfl) (y_cons ⟨_, rfl, x_i32 _⟩ y_nil)) rfl (y_recv rfl hY_this) trivial (y_sub_ef rfl) fun v Yn o Hn L ho hr ha hIn hx_ hE hP => ?_
    replace hs_this_kept := y_Efld hE hY_this rfl (by decide) (by decide) hs_this_kept
    replace hq_kp := (y_Earr hE hY_this_kept rfl (by decide)).trans hq_kp
    replace hY_this := y_ext hx_ hI.1 hY_this
    replace hY_this_kept := y_ext hx_ hI.1 hY_this_kept
    obtain rfl := hP _ _ rfl
    clear ho hr ha hE hP hI hx_
    rename x_I _ _ _ _ _ _ _ _ _ _ => hI
    exact y_ireturn B hI rfl rfl rfl List.mem_cons_self ⟨_, rfl, ⟨_, rfl, x_i32 _⟩⟩ (x_cs.mono B.2.2.2.2.2 (y_mon B hI)) (fun t' kp' i' h1 h2 => by cases h1; cases h2.symm.trans hs0; exact ⟨fun _ => rfl, fun h => absurd h (by omega), fun h => absurd h (by omega)⟩) (Nat.le_refl _) (Nat.le_refl _) gf_d21
