theorem fl_xX_240 {s : State} {args : Array Value} (hts : ∀ w ∈ x_Tb, w.before args s = true) : x_fok vwCl x_G x_Tb s args "TwinFires$Text" (15, 4, 1) := ⟨7, _, RX7, TX7, "TwinFires$Text", rfl, rfl, Nat.le_of_ble_eq_true rfl, iX7, (hts _ (x_bw10 8 rfl rfl)), fun x h => h⟩
def z_Pfn : yP := fun _ av _ _ _ _ H' => ∀ (a : Nat) (v9 : Int32), av = [.ref a, .int v9] → y_A a 4 H' (fun _ => v9)
theorem fn_d0 : decode xM1017.2.1 0 = .ok (.iconst 0, 1) := dz_ok (by decide +kernel)
theorem fn_d1 : decode xM1017.2.1 1 = .ok (.istore_n 2, 1) := dz_ok (by decide +kernel)
theorem fn_d2 : decode xM1017.2.1 2 = .ok (.aload_n 0, 1) := dz_ok (by decide +kernel)
theorem fn_d3 : decode xM1017.2.1 3 = .ok (.arraylength, 1) := dz_ok (by decide +kernel)
theorem fn_d4 : decode xM1017.2.1 4 = .ok (.istore_n 3, 1) := dz_ok (by decide +kernel)
theorem fn_d5 : decode xM1017.2.1 5 = .ok (.iload_n 2, 1) := dz_ok (by decide +kernel)
theorem fn_d6 : decode xM1017.2.1 6 = .ok (.iload_n 3, 1) := dz_ok (by decide +kernel)
theorem fn_d7 : decode xM1017.2.1 7 = .ok (.if_icmp .ge 13, 3) := dz_ok (by decide +kernel)
theorem fn_d10 : decode xM1017.2.1 10 = .ok (.aload_n 0, 1) := dz_ok (by decide +kernel)
theorem fn_d11 : decode xM1017.2.1 11 = .ok (.iload_n 2, 1) := dz_ok (by decide +kernel)
theorem fn_d12 : decode xM1017.2.1 12 = .ok (.iload_n 1, 1) := dz_ok (by decide +kernel)
theorem fn_d13 : decode xM1017.2.1 13 = .ok (.iastore, 1) := dz_ok (by decide +kernel)
theorem fn_d14 : decode xM1017.2.1 14 = .ok (.iinc 2 1, 3) := dz_ok (by decide +kernel)
theorem fn_d17 : decode xM1017.2.1 17 = .ok (.goto (-12), 3) := dz_ok (by decide +kernel)
theorem fn_d20 : decode xM1017.2.1 20 = .ok (.return_, 1) := dz_ok (by decide +kernel)
theorem fn_L5 {p : Program} {l : Launch} {e : Env} {s : State} {m : MethodId} {below : List Frame} {meth : Method} {c : Code} {D : va_G} {U : State} {Y0 : xY} {av : List Value} (B : y_B vwCl x_Tb x_Nb xM1017 p s m meth c D U Y0 av) {ar : Nat} {v9 : Int32} (hav : av = [.ref ar, .int v9]) (hv : 0 ≤ v9.toInt ∧ v9.toInt ≤ 0)  :
    ∀ (n : Nat), ∀ (H : Heap) (Y : xY) (locs : List Loc) (ls : Array Slot) (i : Int32) (fa : Nat → Int32), x_I D x_G x_Zs U (x_efs xM1017) Y0 s.heap Y H locs → Y ar = some 40 → y_A ar 4 H fa → lv_has ls xM1017.2.2.1 [(2, .int i), (3, .int (nI 4)), (0, .ref ar), (1, .int v9)] → (0 ≤ i.toInt ∧ i.toInt ≤ 4) → ((nI 4).toInt = 4) → (∀ j : Nat, (j : Int) < i.toInt → fa j = v9) → (4 - i.toInt).toNat < n → W p l e (x_rm xM1017) s m av.toArray below meth c H locs 0 0 (y_QQ below D x_G x_Zs U xM1017 z_Pfn av Y0 s) (F0 m 5 ls []) := by
  have X := B.1
  have hx := X.1
  have hb := X.2.1
  have hY0 := B.2.2.2.2.1
  intro n
  induction n with
  | zero => intro _ _ _ _ _ _ _ _ _ _ _ _ _ h; exact absurd h (Nat.not_lt_zero _)
  | succ n ih =>
    intro H Y locs ls i fa hI hY_ar hA_ar hl hi hN hfi hn
    refine lv_iload_n hx hb fn_d5 rfl (lv_at hl 0 rfl) ?_
    refine lv_iload_n hx hb fn_d6 rfl (lv_at hl 1 rfl) ?_
    refine lv_icmp_ge hx hb fn_d7 (tgt := 20) (by decide) (fun q7 => ?_) (fun q7 => ?_)
    · have q7_ : (nI 4).toInt ≤ i.toInt := x_le32.mp q7
      subst hav
      exact y_return B hI rfl rfl List.mem_cons_self rfl (x_cs.mono B.2.2.2.2.2 (y_mon B hI)) (fun a' v' h1 => by cases h1; exact fun j hj => by rw [hA_ar j hj, hfi j (by omega)]) (Nat.le_refl _) (Nat.le_refl _) fn_d20
    · have q7_ : i.toInt < (nI 4).toInt := Int.not_le.mp fun q => q7 (x_le32.mpr q)
      refine lv_aload_n hx hb fn_d10 rfl (lv_at hl 2 rfl) ?_
      refine lv_iload_n hx hb fn_d11 rfl (lv_at hl 0 rfl) ?_
      refine lv_iload_n hx hb fn_d12 rfl (lv_at hl 3 rfl) ?_
      refine y_iast X hY0 hI hY_ar rfl hA_ar (by omega) (by show _ < (4 : Int); omega) ⟨_, rfl, x_i32 _⟩ (by decide +kernel) fn_d13 fun H locs hI h_new ho => ?_
      replace hA_ar := h_new
      generalize hf_f13 : y_up fa i.toInt.toNat v9 = f13 at hA_ar
      obtain ⟨z14, hg_z14⟩ : ∃ z14 : Int32, i + Int32.ofInt 1 = z14 := ⟨_, rfl⟩
      have h_z14 : z14.toInt = i.toInt + 1 := by rw [← hg_z14]; exact y_inc (by decide) (by omega) (by omega)
      refine lv_iinc hx hb fn_d14 hl (k := 0) rfl hg_z14 (by decide) (lv' := [(2, .int z14), (3, .int (nI 4)), (0, .ref ar), (1, .int v9)]) rfl fun ls hl => ?_
      refine lv_goto hx hb fn_d17 (tgt := 5) (by decide) ?_
      exact ih _ _ _ _ _ _ hI hY_ar hA_ar (lv_sub hl [0, 1, 2, 3] rfl) (by first | assumption | omega) (by first | assumption | omega) (fun j hj => by rw [← hf_f13]; by_cases ej : (j : Int) = i.toInt; (rw [show j = i.toInt.toNat by omega, y_up_at]); rw [y_up_ne (by omega)]; exact hfi j (by omega)) (by omega)
theorem ym_fillNum : y_Met vwCl x_G x_Zs x_Tb x_Nb xM1017 y_T z_Pfn := by
  refine y_main (by decide +kernel) (by decide +kernel) x_Tb_good x_Nb_ok ?_
  intro p l e s m below meth c D U Y0 av ls B hI _ hl
  have X := B.1
  have hx := X.1
  have hb := X.2.1
  have hY0 := B.2.2.2.2.1
  obtain ⟨v0, v1, rfl, hv0, ⟨v9, rfl, hv⟩⟩ := x_two B.2.2.2.2.2
  obtain ⟨ar, t0, rfl, ht0, hY_ar⟩ := x_ref_at hv0 rfl
  obtain rfl := List.mem_singleton.mp ht0
  replace hl : lv_has ls xM1017.2.2.1 [(0, .ref ar), (1, .int v9)] := hl
  replace hv : (0 : Int) ≤ v9.toInt ∧ v9.toInt ≤ 0 := hv
  obtain ⟨fa, hA_ar, -⟩ := y_arr hI.1 hY_ar rfl rfl
  refine lv_iconst hx hb fn_d0 (v := 0) (by decide) ?_
  have ec0 : (0 : Int32).toInt = 0 := by decide
  refine lv_istore_n hx hb fn_d1 rfl hl (by decide) (lv' := [(2, .int (0 : Int32)), (0, .ref ar), (1, .int v9)]) rfl fun ls hl => ?_
  refine lv_aload_n hx hb fn_d2 rfl (lv_at hl 1 rfl) ?_
  refine y_alen X hI.1 hY_ar rfl fn_d3 ?_
  have h_nI4 : (nI 4).toInt = 4 := by decide
  refine lv_istore_n hx hb fn_d4 rfl hl (by decide) (lv' := [(3, .int (nI 4)), (2, .int (0 : Int32)), (0, .ref ar), (1, .int v9)]) rfl fun ls hl => ?_
  exact fn_L5 B rfl hv 5 _ _ _ _ _ _ hI hY_ar hA_ar (lv_sub hl [1, 0, 2, 3] rfl) (by first | assumption | omega) (by first | assumption | omega) (fun j hj => absurd hj (by omega)) (by omega)
def z_PpaX : yP := fun D av _ H _ _ H' => ∀ (this by_ : Nat) (lo hi ln te : Int32) (fy : Nat → Int32), av = [.ref this, .int lo, .int hi] → x_sl D 7 0 this H = some (.ref by_) → x_sl D 7 2 this H = some (.int ln) → x_sl D 7 4 this H = some (.int te) → t_c fy → y_A by_ 240 H fy → ∃ te1 : Int32, x_sl D 7 4 this H' = some (.int te1) ∧ te1.toInt.toNat = t_pass (t_in lo hi) fy ln.toInt.toNat te.toInt.toNat ∧ 0 ≤ te1.toInt ∧ te1.toInt ≤ 240
theorem pX_d0 : decode xM63.2.1 0 = .ok (.aload_n 0, 1) := dz_ok (by decide +kernel)
theorem pX_d1 : decode xM63.2.1 1 = .ok (.getfield 26, 3) := dz_ok (by decide +kernel)
theorem pX_d4 : decode xM63.2.1 4 = .ok (.aload_n 0, 1) := dz_ok (by decide +kernel)
theorem pX_d5 : decode xM63.2.1 5 = .ok (.getfield 22, 3) := dz_ok (by decide +kernel)
theorem pX_d8 : decode xM63.2.1 8 = .ok (.if_icmp .ge 33, 3) := dz_ok (by decide +kernel)
theorem pX_d11 : decode xM63.2.1 11 = .ok (.aload_n 0, 1) := dz_ok (by decide +kernel)
theorem pX_d12 : decode xM63.2.1 12 = .ok (.getfield 9, 3) := dz_ok (by decide +kernel)
theorem pX_d15 : decode xM63.2.1 15 = .ok (.aload_n 0, 1) := dz_ok (by decide +kernel)
theorem pX_d16 : decode xM63.2.1 16 = .ok (.getfield 26, 3) := dz_ok (by decide +kernel)
theorem pX_d19 : decode xM63.2.1 19 = .ok (.iaload, 1) := dz_ok (by decide +kernel)
theorem pX_d20 : decode xM63.2.1 20 = .ok (.iload_n 1, 1) := dz_ok (by decide +kernel)
theorem pX_d21 : decode xM63.2.1 21 = .ok (.iload_n 2, 1) := dz_ok (by decide +kernel)
theorem pX_d22 : decode xM63.2.1 22 = .ok (.invokestatic 18, 3) := dz_ok (by decide +kernel)
theorem pX_d25 : decode xM63.2.1 25 = .ok (.ifCond .eq 16, 3) := dz_ok (by decide +kernel)
theorem pX_d28 : decode xM63.2.1 28 = .ok (.aload_n 0, 1) := dz_ok (by decide +kernel)
theorem pX_d29 : decode xM63.2.1 29 = .ok (.dup, 1) := dz_ok (by decide +kernel)
theorem pX_d30 : decode xM63.2.1 30 = .ok (.getfield 26, 3) := dz_ok (by decide +kernel)
theorem pX_d33 : decode xM63.2.1 33 = .ok (.iconst 1, 1) := dz_ok (by decide +kernel)
theorem pX_d34 : decode xM63.2.1 34 = .ok (.iadd, 1) := dz_ok (by decide +kernel)
theorem pX_d35 : decode xM63.2.1 35 = .ok (.putfield 26, 3) := dz_ok (by decide +kernel)
theorem pX_d38 : decode xM63.2.1 38 = .ok (.goto (-38), 3) := dz_ok (by decide +kernel)
theorem pX_d41 : decode xM63.2.1 41 = .ok (.return_, 1) := dz_ok (by decide +kernel)
theorem pX_L0 {p : Program} {l : Launch} {e : Env} {s : State} {m : MethodId} {below : List Frame} {meth : Method} {c : Code} {D : va_G} {U : State} {Y0 : xY} {av : List Value} (B : y_B vwCl x_Tb x_Nb xM63 p s m meth c D U Y0 av) {this by_ : Nat} {lo hi ln te0 : Int32} {fy : Nat → Int32} (hav : av = [.ref this, .int lo, .int hi]) (hs0 : x_sl D 7 0 this s.heap = some (.ref by_)) (hl0 : x_sl D 7 2 this s.heap = some (.int ln)) (he0 : x_sl D 7 4 this s.heap = some (.int te0)) (hcn : t_c fy) (hA0 : y_A by_ 240 s.heap fy) (hln : 0 ≤ ln.toInt ∧ ln.toInt ≤ 240)  :
    ∀ (n : Nat), ∀ (H : Heap) (Y : xY) (locs : List Loc) (ls : Array Slot) (te : Int32), x_I D x_G x_Zs U (x_efs xM63) Y0 s.heap Y H locs → Y this = some 4 → Y by_ = some 39 → x_sl D 7 0 this H = some (.ref by_) → x_sl D 7 2 this H = some (.int ln) → x_sl D 7 4 this H = some (.int te) → y_A by_ 240 H fy → lv_has ls xM63.2.2.1 [(0, .ref this), (1, .int lo), (2, .int hi)] → (0 ≤ te.toInt ∧ te.toInt ≤ 240) → (t_pass (t_in lo hi) fy ln.toInt.toNat te0.toInt.toNat = t_pass (t_in lo hi) fy ln.toInt.toNat te.toInt.toNat) → (241 - te.toInt).toNat < n → W p l e (x_rm xM63) s m av.toArray below meth c H locs 0 0 (y_QQ below D x_G x_Zs U xM63 z_PpaX av Y0 s) (F0 m 0 ls []) := by
  have X := B.1
  have hx := X.1
  have hb := X.2.1
  have hY0 := B.2.2.2.2.1
  intro n
  induction n with
  | zero => intro _ _ _ _ _ _ _ _ _ _ _ _ _ _ _ h; exact absurd h (Nat.not_lt_zero _)
  | succ n ih =>
    intro H Y locs ls te  hI hY_this hY_by_ hs_by_ hsi_length hsi_tokenEnd hA_by_ hl hte hps hn
    refine lv_aload_n hx hb pX_d0 rfl (lv_at hl 0 rfl) ?_
    refine y_getf X (fl132 X.2.2.2.2.1) hI.1 hY_this rfl hsi_tokenEnd pX_d1 ?_
    refine lv_aload_n hx hb pX_d4 rfl (lv_at hl 0 rfl) ?_
    refine y_getf X (fl131 X.2.2.2.2.1) hI.1 hY_this rfl hsi_length pX_d5 ?_
    refine lv_icmp_ge hx hb pX_d8 (tgt := 41) (by decide) (fun q8 => ?_) (fun q8 => ?_)
    · have q8_ : ln.toInt ≤ te.toInt := x_le32.mp q8
      have hst : t_pass (t_in lo hi) fy ln.toInt.toNat te.toInt.toNat = te.toInt.toNat := t_pass_stop (fun q9 => by first | omega | (have h9 := of_decide_eq_true q9.2; rw [hg_e19] at h9; exact hout_r22 q25 h9))
      subst hav
      exact y_return B hI rfl rfl List.mem_cons_self rfl (x_cs.mono B.2.2.2.2.2 (y_mon B hI)) (fun t' b' lo' hi' ln' te' fy' h1 h2 h3 h4 h5 h6 => by cases h1; cases h2.symm.trans hs0; cases h3.symm.trans hl0; cases h4.symm.trans he0; cases t_uniq h6 hA0 h5 hcn; exact ⟨_, hsi_tokenEnd, by rw [hps, hst], by omega, by omega⟩) (Nat.le_refl _) (Nat.le_refl _) pX_d41
    · have q8_ : te.toInt < ln.toInt := Int.not_le.mp fun q => q8 (x_le32.mpr q)
      refine lv_aload_n hx hb pX_d11 rfl (lv_at hl 0 rfl) ?_
      refine y_getf X (fl130 X.2.2.2.2.1) hI.1 hY_this rfl hs_by_ pX_d12 ?_
      refine lv_aload_n hx hb pX_d15 rfl (lv_at hl 0 rfl) ?_
      refine y_getf X (fl132 X.2.2.2.2.1) hI.1 hY_this rfl hsi_tokenEnd pX_d16 ?_
      refine y_iald X hI.1 hY_by_ rfl hA_by_ (by omega) (by show _ < (240 : Int); omega) pX_d19 ?_
      obtain ⟨e19, hg_e19⟩ : ∃ e19 : Int32, fy te.toInt.toNat = e19 := ⟨_, rfl⟩
      rw [hg_e19]
      refine lv_iload_n hx hb pX_d20 rfl (lv_at hl 1 rfl) ?_
      refine lv_iload_n hx hb pX_d21 rfl (lv_at hl 2 rfl) ?_
      refine y_call (z := (1, 18, 3, none, xM10)) (av := [.int e19, .int lo, .int hi]) (rest := []) (y_cokSN (n := 3) (host := "TwinFires") X ym_within (x_cons (x_bw19 1 rfl rfl) (x_cons (x_bw0 1 rfl rfl) x_nilm)) (x_bn34 6 rfl rfl) (x_bw19 2 rfl rfl) (by decide +kernel) ⟨Nat.le_of_ble_eq_true rfl, Nat.le_of_ble_eq_true rfl⟩) hY0 hI rfl pX_d22 hl.1 (Nat.le_of_ble_eq_true rfl) (Nat.le_of_ble_eq_true rfl) (Nat.le_of_ble_eq_true rfl) (y_cons ⟨_, rfl, x_i32 _⟩ (y_cons ⟨_, rfl, x_i32 _⟩ (y_cons ⟨_, rfl, x_i32 _⟩ y_nil))) rfl (y_norecv rfl) trivial (y_sub_ef rfl) fun v Yn o Hn L ho hr ha hIn hx_ hE hP => ?_
      replace hs_by_ := y_Efld hE hY_this rfl (by decide) (by decide) hs_by_
      replace hsi_length := y_Efld hE hY_this rfl (by decide) (by decide) hsi_length
      replace hsi_tokenEnd := y_Efld hE hY_this rfl (by decide) (by decide) hsi_tokenEnd
      replace hA_by_ := hA_by_.kept (y_Earr hE hY_by_ rfl (by decide))
      replace hY_this := y_ext hx_ hI.1 hY_this
      replace hY_by_ := y_ext hx_ hI.1 hY_by_
      obtain ⟨r22, rfl, hin_r22, hout_r22⟩ := hP _ _ _ rfl
      clear ho hr ha hE hP hI hx_
      rename x_I _ _ _ _ _ _ _ _ _ _ => hI
      have ec0 : (0 : Int32).toInt = 0 := by decide
      refine lv_if_eq hx hb pX_d25 (tgt := 41) (by decide) (fun q25 => ?_) (fun q25 => ?_)
      · have q25_ : r22.toInt = (0 : Int32).toInt := by rw [q25]
        have hst : t_pass (t_in lo hi) fy ln.toInt.toNat te.toInt.toNat = te.toInt.toNat := t_pass_stop (fun q9 => by first | omega | (have h9 := of_decide_eq_true q9.2; rw [hg_e19] at h9; exact hout_r22 q25 h9))
        subst hav
        exact y_return B hI rfl rfl List.mem_cons_self rfl (x_cs.mono B.2.2.2.2.2 (y_mon B hI)) (fun t' b' lo' hi' ln' te' fy' h1 h2 h3 h4 h5 h6 => by cases h1; cases h2.symm.trans hs0; cases h3.symm.trans hl0; cases h4.symm.trans he0; cases t_uniq h6 hA0 h5 hcn; exact ⟨_, hsi_tokenEnd, by rw [hps, hst], by omega, by omega⟩) (Nat.le_refl _) (Nat.le_refl _) pX_d41
      · have q25_ : ¬ r22.toInt = (0 : Int32).toInt := fun q => q25 (Int32.toInt_inj.mp q)
        refine lv_aload_n hx hb pX_d28 rfl (lv_at hl 0 rfl) ?_
        refine lv_dup hx hb pX_d29 rfl ?_
        refine y_getf X (fl132 X.2.2.2.2.1) hI.1 hY_this rfl hsi_tokenEnd pX_d30 ?_
        refine lv_iconst hx hb pX_d33 (v := 1) (by decide) ?_
        have ec1 : (1 : Int32).toInt = 1 := by decide
        refine lv_iadd hx hb pX_d34 ?_
        generalize hg_z34 : te + (1 : Int32) = z34
        have h_z34 : z34.toInt = te.toInt + 1 := by rw [← hg_z34]; have := y_add (x := te) (y := (1 : Int32)) (by rw [ec1]; omega) (by rw [ec1]; omega); rw [ec1] at this; exact this
        refine y_putf X (fw129 X.2.2.2.2.1) hY0 hI hY_this rfl rfl ⟨_, rfl, by show (0 : Int) ≤ _; omega, by show _ ≤ (240 : Int); omega⟩ (by decide +kernel) pX_d35 fun H sl hI ho hs hk => ?_
        replace hs_by_ := hk _ _ (by decide +kernel) (by decide) hs_by_
        replace hsi_length := hk _ _ (by decide +kernel) (by decide) hsi_length
        replace hA_by_ := hA_by_.kept (ho _ (y_ne hY_by_ hY_this rfl))
        replace hs := hs
        replace hsi_tokenEnd := hs
        refine lv_goto hx hb pX_d38 (tgt := 0) (by decide) ?_
        exact ih _ _ _ _ _ hI hY_this hY_by_ hs_by_ hsi_length hsi_tokenEnd hA_by_ (lv_sub hl [0, 1, 2] rfl) (by first | assumption | omega) (hps.trans ((t_pass_step (by omega) (decide_eq_true (by rw [hg_e19]; exact hin_r22 q25))).trans (by rw [show te.toInt.toNat + 1 = z34.toInt.toNat by omega]))) (by omega)
theorem ym_passX : y_Met vwCl x_G x_Zs x_Tb x_Nb xM63 y_T z_PpaX := by
  refine y_main (by decide +kernel) (by decide +kernel) x_Tb_good x_Nb_ok ?_
  intro p l e s m below meth c D U Y0 av ls B hI hpre hl
  have X := B.1
  have hx := X.1
  have hb := X.2.1
  have hY0 := B.2.2.2.2.1
  obtain ⟨v0, v1, v2, rfl, hv0, ⟨lo, rfl, -⟩, ⟨hi, rfl, -⟩⟩ := y_three B.2.2.2.2.2
  obtain ⟨this, t0, rfl, ht0, hY_this⟩ := x_ref_at hv0 rfl
  obtain rfl := List.mem_singleton.mp ht0
  replace hl : lv_has ls xM63.2.2.1 [(0, .ref this), (1, .int lo), (2, .int hi)] := hl
  obtain ⟨by_, hs_by_, hY_by_⟩ := y_fldR (k := 0) hI.1 hY_this rfl rfl
  obtain ⟨fy9, hA9, -⟩ := y_arr hI.1 hY_by_ rfl rfl
  obtain ⟨fy, hcn, hA_by_⟩ := t_canon hA9
  clear hA9 fy9
  have hs0 := hs_by_
  have hA0 := hA_by_
  obtain ⟨ln, hsi_length, hln⟩ := y_fldI (k := 2) hI.1 hY_this rfl rfl
  replace hln : (0 : Int) ≤ ln.toInt ∧ ln.toInt ≤ 240 := hln
  have hl0 := hsi_length
  obtain ⟨te, hsi_tokenEnd, hte⟩ := y_fldI (k := 4) hI.1 hY_this rfl rfl
  replace hte : (0 : Int) ≤ te.toInt ∧ te.toInt ≤ 240 := hte
  have he0 := hsi_tokenEnd
  exact pX_L0 B rfl hs0 hl0 he0 hcn hA0 hln 242 _ _ _ _ _ hI hY_this hY_by_ hs_by_ hsi_length hsi_tokenEnd hA_by_ hl hte rfl (by omega)
def z_AnhX : yA := fun D av _ H => ∀ (this by_ : Nat) (ta te : Int32) (fy : Nat → Int32), av = [.ref this] → x_sl D 7 0 this H = some (.ref by_) → x_sl D 7 3 this H = some (.int ta) → x_sl D 7 4 this H = some (.int te) → t_c fy → y_A by_ 240 H fy → ta.toInt ≤ te.toInt ∧ te.toInt - ta.toInt ≤ 2 ∧ ∀ j : Nat, ta.toInt ≤ j → (j : Int) < te.toInt → 48 ≤ (fy j).toInt ∧ (fy j).toInt ≤ 57
def z_PnhX : yP := fun D av _ H v _ _ => ∀ (this by_ : Nat) (ta te : Int32) (fy : Nat → Int32), av = [.ref this] → x_sl D 7 0 this H = some (.ref by_) → x_sl D 7 3 this H = some (.int ta) → x_sl D 7 4 this H = some (.int te) → t_c fy → y_A by_ 240 H fy → ∃ r : Int32, v = some (.int r) ∧ r.toInt = t_num fy ta.toInt.toNat (te.toInt - ta.toInt).toNat
theorem nX_d0 : decode xM65.2.1 0 = .ok (.iconst 0, 1) := dz_ok (by decide +kernel)
theorem nX_d1 : decode xM65.2.1 1 = .ok (.istore_n 1, 1) := dz_ok (by decide +kernel)
theorem nX_d2 : decode xM65.2.1 2 = .ok (.aload_n 0, 1) := dz_ok (by decide +kernel)
theorem nX_d3 : decode xM65.2.1 3 = .ok (.getfield 36, 3) := dz_ok (by decide +kernel)
theorem nX_d6 : decode xM65.2.1 6 = .ok (.istore_n 2, 1) := dz_ok (by decide +kernel)
theorem nX_d7 : decode xM65.2.1 7 = .ok (.iload_n 2, 1) := dz_ok (by decide +kernel)
theorem nX_d8 : decode xM65.2.1 8 = .ok (.aload_n 0, 1) := dz_ok (by decide +kernel)
theorem nX_d9 : decode xM65.2.1 9 = .ok (.getfield 26, 3) := dz_ok (by decide +kernel)
theorem nX_d12 : decode xM65.2.1 12 = .ok (.if_icmp .ge 24, 3) := dz_ok (by decide +kernel)
theorem nX_d15 : decode xM65.2.1 15 = .ok (.bipush 10, 2) := dz_ok (by decide +kernel)
theorem nX_d17 : decode xM65.2.1 17 = .ok (.iload_n 1, 1) := dz_ok (by decide +kernel)
theorem nX_d18 : decode xM65.2.1 18 = .ok (.imul, 1) := dz_ok (by decide +kernel)
theorem nX_d19 : decode xM65.2.1 19 = .ok (.aload_n 0, 1) := dz_ok (by decide +kernel)
theorem nX_d20 : decode xM65.2.1 20 = .ok (.getfield 9, 3) := dz_ok (by decide +kernel)
theorem nX_d23 : decode xM65.2.1 23 = .ok (.iload_n 2, 1) := dz_ok (by decide +kernel)
theorem nX_d24 : decode xM65.2.1 24 = .ok (.iaload, 1) := dz_ok (by decide +kernel)
theorem nX_d25 : decode xM65.2.1 25 = .ok (.iadd, 1) := dz_ok (by decide +kernel)
theorem nX_d26 : decode xM65.2.1 26 = .ok (.bipush 48, 2) := dz_ok (by decide +kernel)
theorem nX_d28 : decode xM65.2.1 28 = .ok (.isub, 1) := dz_ok (by decide +kernel)
theorem nX_d29 : decode xM65.2.1 29 = .ok (.istore_n 1, 1) := dz_ok (by decide +kernel)
theorem nX_d30 : decode xM65.2.1 30 = .ok (.iinc 2 1, 3) := dz_ok (by decide +kernel)
theorem nX_d33 : decode xM65.2.1 33 = .ok (.goto (-26), 3) := dz_ok (by decide +kernel)
theorem nX_d36 : decode xM65.2.1 36 = .ok (.iload_n 1, 1) := dz_ok (by decide +kernel)
theorem nX_d37 : decode xM65.2.1 37 = .ok (.ireturn, 1) := dz_ok (by decide +kernel)
theorem nX_L7 {p : Program} {l : Launch} {e : Env} {s : State} {m : MethodId} {below : List Frame} {meth : Method} {c : Code} {D : va_G} {U : State} {Y0 : xY} {av : List Value} (B : y_B vwCl x_Tb x_Nb xM65 p s m meth c D U Y0 av) {this by_ : Nat} {ta te : Int32} {fy : Nat → Int32} (hav : av = [.ref this]) (hs0 : x_sl D 7 0 this s.heap = some (.ref by_)) (ha0 : x_sl D 7 3 this s.heap = some (.int ta)) (he0 : x_sl D 7 4 this s.heap = some (.int te)) (hcn : t_c fy) (hA0 : y_A by_ 240 s.heap fy) (hta : 0 ≤ ta.toInt ∧ ta.toInt ≤ 240) (hte : 0 ≤ te.toInt ∧ te.toInt ≤ 240) (hle : ta.toInt ≤ te.toInt) (h2 : te.toInt - ta.toInt ≤ 2) (hdg : ∀ j : Nat, ta.toInt ≤ j → (j : Int) < te.toInt → 48 ≤ (fy j).toInt ∧ (fy j).toInt ≤ 57)  :
    ∀ (n : Nat), ∀ (H : Heap) (Y : xY) (locs : List Loc) (ls : Array Slot) (i : Int32) (nn : Int32), x_I D x_G x_Zs U (x_efs xM65) Y0 s.heap Y H locs → Y this = some 4 → Y by_ = some 39 → x_sl D 7 0 this H = some (.ref by_) → x_sl D 7 3 this H = some (.int ta) → x_sl D 7 4 this H = some (.int te) → y_A by_ 240 H fy → lv_has ls xM65.2.2.1 [(2, .int i), (1, .int nn), (0, .ref this)] → (ta.toInt ≤ i.toInt ∧ i.toInt ≤ te.toInt) → (nn.toInt = t_num fy ta.toInt.toNat (i.toInt - ta.toInt).toNat) → (0 ≤ nn.toInt ∧ nn.toInt ≤ 99 ∧ (i.toInt = ta.toInt → nn.toInt = 0) ∧ (i.toInt ≤ ta.toInt + 1 → nn.toInt ≤ 9)) → (241 - i.toInt).toNat < n → W p l e (x_rm xM65) s m av.toArray below meth c H locs 0 0 (y_QQ below D x_G x_Zs U xM65 z_PnhX av Y0 s) (F0 m 7 ls []) := by
  have X := B.1
  have hx := X.1
  have hb := X.2.1
  have hY0 := B.2.2.2.2.1
  intro n
  induction n with
  | zero => intro _ _ _ _ _ _ _ _ _ _ _ _ _ _ _ _ _ h; exact absurd h (Nat.not_lt_zero _)
  | succ n ih =>
    intro H Y locs ls i nn  hI hY_this hY_by_ hs_by_ hsi_tokenAt hsi_tokenEnd hA_by_ hl hi hnn hnb hn
    refine lv_iload_n hx hb nX_d7 rfl (lv_at hl 0 rfl) ?_
    refine lv_aload_n hx hb nX_d8 rfl (lv_at hl 2 rfl) ?_
    refine y_getf X (fl132 X.2.2.2.2.1) hI.1 hY_this rfl hsi_tokenEnd nX_d9 ?_
    refine lv_icmp_ge hx hb nX_d12 (tgt := 36) (by decide) (fun q12 => ?_) (fun q12 => ?_)
    · have q12_ : te.toInt ≤ i.toInt := x_le32.mp q12
      refine lv_iload_n hx hb nX_d36 rfl (lv_at hl 1 rfl) ?_
      have e9 : i = te := Int32.toInt_inj.mp (by omega)
      subst e9
      subst hav
      exact y_ireturn B hI rfl rfl rfl List.mem_cons_self ⟨_, rfl, ⟨_, rfl, x_i32 _⟩⟩ (x_cs.mono B.2.2.2.2.2 (y_mon B hI)) (fun t' b' ta' te' fy' h1 h2 h3 h4 h5 h6 => by cases h1; cases h2.symm.trans hs0; cases h3.symm.trans ha0; cases h4.symm.trans he0; cases t_uniq h6 hA0 h5 hcn; exact ⟨_, rfl, hnn⟩) (Nat.le_refl _) (Nat.le_refl _) nX_d37
    · have q12_ : i.toInt < te.toInt := Int.not_le.mp fun q => q12 (x_le32.mpr q)
      refine lv_bipush hx hb nX_d15 (v := 10) (by decide) ?_
      have ec10 : (10 : Int32).toInt = 10 := by decide
      refine lv_iload_n hx hb nX_d17 rfl (lv_at hl 1 rfl) ?_
      refine lv_imul hx hb nX_d18 ?_
      generalize hg_z18 : (10 : Int32) * nn = z18
      have h_z18 : z18.toInt = 10 * nn.toInt := by rw [← hg_z18]; have := y_mul (x := (10 : Int32)) (y := nn) (by rw [ec10]; omega) (by rw [ec10]; omega); rw [ec10] at this; exact this
      refine lv_aload_n hx hb nX_d19 rfl (lv_at hl 2 rfl) ?_
      refine y_getf X (fl130 X.2.2.2.2.1) hI.1 hY_this rfl hs_by_ nX_d20 ?_
      refine lv_iload_n hx hb nX_d23 rfl (lv_at hl 0 rfl) ?_
      refine y_iald X hI.1 hY_by_ rfl hA_by_ (by omega) (by show _ < (240 : Int); omega) nX_d24 ?_
      obtain ⟨e24, hg_e24⟩ : ∃ e24 : Int32, fy i.toInt.toNat = e24 := ⟨_, rfl⟩
      rw [hg_e24]
      have hd9 := hdg i.toInt.toNat (by omega) (by omega)
      rw [hg_e24] at hd9
      refine lv_iadd hx hb nX_d25 ?_
      generalize hg_z25 : z18 + e24 = z25
      have h_z25 : z25.toInt = z18.toInt + e24.toInt := by rw [← hg_z25]; have := y_add (x := z18) (y := e24) (by omega) (by omega); exact this
      refine lv_bipush hx hb nX_d26 (v := 48) (by decide) ?_
      have ec48 : (48 : Int32).toInt = 48 := by decide
      refine lv_isub hx hb nX_d28 ?_
      generalize hg_z28 : z25 - (48 : Int32) = z28
      have h_z28 : z28.toInt = z25.toInt - 48 := by rw [← hg_z28]; have := y_sub (x := z25) (y := (48 : Int32)) (by rw [ec48]; omega) (by rw [ec48]; omega); rw [ec48] at this; exact this
      refine lv_istore_n hx hb nX_d29 rfl hl (by decide) (lv' := [(1, .int z28), (2, .int i), (0, .ref this)]) rfl fun ls hl => ?_
      obtain ⟨z30, hg_z30⟩ : ∃ z30 : Int32, i + Int32.ofInt 1 = z30 := ⟨_, rfl⟩
      have h_z30 : z30.toInt = i.toInt + 1 := by rw [← hg_z30]; exact y_inc (by decide) (by omega) (by omega)
      refine lv_iinc hx hb nX_d30 hl (k := 1) rfl hg_z30 (by decide) (lv' := [(2, .int z30), (1, .int z28), (0, .ref this)]) rfl fun ls hl => ?_
      refine lv_goto hx hb nX_d33 (tgt := 7) (by decide) ?_
      exact ih _ _ _ _ _ _ hI hY_this hY_by_ hs_by_ hsi_tokenAt hsi_tokenEnd hA_by_ (lv_sub hl [0, 1, 2] rfl) (by first | assumption | omega) (by rw [show (z30.toInt - ta.toInt).toNat = (i.toInt - ta.toInt).toNat + 1 by omega]; show _ = 10 * t_num fy ta.toInt.toNat (i.toInt - ta.toInt).toNat + (fy (ta.toInt.toNat + (i.toInt - ta.toInt).toNat)).toInt - 48; rw [show ta.toInt.toNat + (i.toInt - ta.toInt).toNat = i.toInt.toNat by omega, hg_e24, ← hnn]; omega) ⟨by omega, by omega, fun _ => by omega, fun _ => by omega⟩ (by omega)
theorem ym_numX : y_Met vwCl x_G x_Zs x_Tb x_Nb xM65 z_AnhX z_PnhX := by
  refine y_main (by decide +kernel) (by decide +kernel) x_Tb_good x_Nb_ok ?_
  intro p l e s m below meth c D U Y0 av ls B hI hpre hl
  have X := B.1
  have hx := X.1
  have hb := X.2.1
  have hY0 := B.2.2.2.2.1
  obtain ⟨v0, rfl, hv0⟩ := x_one B.2.2.2.2.2
  obtain ⟨this, t0, rfl, ht0, hY_this⟩ := x_ref_at hv0 rfl
  obtain rfl := List.mem_singleton.mp ht0
  replace hl : lv_has ls xM65.2.2.1 [(0, .ref this)] := hl
  obtain ⟨by_, hs_by_, hY_by_⟩ := y_fldR (k := 0) hI.1 hY_this rfl rfl
  obtain ⟨fy9, hA9, -⟩ := y_arr hI.1 hY_by_ rfl rfl
  obtain ⟨fy, hcn, hA_by_⟩ := t_canon hA9
  clear hA9 fy9
  have hs0 := hs_by_
  have hA0 := hA_by_
  obtain ⟨ln, hsi_length, hln⟩ := y_fldI (k := 2) hI.1 hY_this rfl rfl
  replace hln : (0 : Int) ≤ ln.toInt ∧ ln.toInt ≤ 240 := hln
  have hl0 := hsi_length
  obtain ⟨te, hsi_tokenEnd, hte⟩ := y_fldI (k := 4) hI.1 hY_this rfl rfl
  replace hte : (0 : Int) ≤ te.toInt ∧ te.toInt ≤ 240 := hte
  have he0 := hsi_tokenEnd
  obtain ⟨ta, hsi_tokenAt, hta⟩ := y_fldI (k := 3) hI.1 hY_this rfl rfl
  replace hta : (0 : Int) ≤ ta.toInt ∧ ta.toInt ≤ 240 := hta
  have ha0 := hsi_tokenAt
  obtain ⟨hle, h2, hdg⟩ := hpre _ _ _ _ _ rfl hs0 ha0 he0 hcn hA0
  refine lv_iconst hx hb nX_d0 (v := 0) (by decide) ?_
  have ec0 : (0 : Int32).toInt = 0 := by decide
  refine lv_istore_n hx hb nX_d1 rfl hl (by decide) (lv' := [(1, .int (0 : Int32)), (0, .ref this)]) rfl fun ls hl => ?_
  refine lv_aload_n hx hb nX_d2 rfl (lv_at hl 1 rfl) ?_
  refine y_getf X (fl133 X.2.2.2.2.1) hI.1 hY_this rfl hsi_tokenAt nX_d3 ?_
  refine lv_istore_n hx hb nX_d6 rfl hl (by decide) (lv' := [(2, .int ta), (1, .int (0 : Int32)), (0, .ref this)]) rfl fun ls hl => ?_
  exact nX_L7 B rfl hs0 ha0 he0 hcn hA0 hta hte hle h2 hdg 242 _ _ _ _ _ _ hI hY_this hY_by_ hs_by_ hsi_tokenAt hsi_tokenEnd hA_by_ (lv_sub hl [0, 1, 2] rfl) (by first | assumption | omega) (by rw [show (ta.toInt - ta.toInt).toNat = 0 by omega]; rfl) ⟨by omega, by omega, fun _ => by omega, fun _ => by omega⟩ (by omega)
def z_AntX : yA := fun D av _ H => ∀ (this : Nat) (ln te : Int32), av = [.ref this] → x_sl D 7 2 this H = some (.int ln) → x_sl D 7 4 this H = some (.int te) → te.toInt ≤ ln.toInt
def z_PntX : yP := fun D av _ H v _ H' => ∀ (this by_ : Nat) (ln te : Int32) (fy : Nat → Int32), av = [.ref this] → x_sl D 7 0 this H = some (.ref by_) → x_sl D 7 2 this H = some (.int ln) → x_sl D 7 4 this H = some (.int te) → t_c fy → y_A by_ 240 H fy → ∃ r ta te1 : Int32, v = some (.int r) ∧ x_sl D 7 3 this H' = some (.int ta) ∧ x_sl D 7 4 this H' = some (.int te1) ∧ (0 ≤ r.toInt ∧ r.toInt ≤ 4) ∧ (t_tok fy ln.toInt.toNat te.toInt.toNat).1 = r.toInt.toNat ∧ ta.toInt = t_at fy ln.toInt.toNat te.toInt.toNat ∧ (¬ r.toInt = 0 → te1.toInt = (t_tok fy ln.toInt.toNat te.toInt.toNat).2)
theorem tX_d0 : decode xM64.2.1 0 = .ok (.aload_n 0, 1) := dz_ok (by decide +kernel)
theorem tX_d1 : decode xM64.2.1 1 = .ok (.aload_n 0, 1) := dz_ok (by decide +kernel)
theorem tX_d2 : decode xM64.2.1 2 = .ok (.getfield 26, 3) := dz_ok (by decide +kernel)
theorem tX_d5 : decode xM64.2.1 5 = .ok (.putfield 36, 3) := dz_ok (by decide +kernel)
theorem tX_d8 : decode xM64.2.1 8 = .ok (.aload_n 0, 1) := dz_ok (by decide +kernel)
theorem tX_d9 : decode xM64.2.1 9 = .ok (.getfield 36, 3) := dz_ok (by decide +kernel)
theorem tX_d12 : decode xM64.2.1 12 = .ok (.aload_n 0, 1) := dz_ok (by decide +kernel)
theorem tX_d13 : decode xM64.2.1 13 = .ok (.getfield 22, 3) := dz_ok (by decide +kernel)
theorem tX_d16 : decode xM64.2.1 16 = .ok (.if_icmp .ge 30, 3) := dz_ok (by decide +kernel)
theorem tX_d19 : decode xM64.2.1 19 = .ok (.aload_n 0, 1) := dz_ok (by decide +kernel)
theorem tX_d20 : decode xM64.2.1 20 = .ok (.getfield 9, 3) := dz_ok (by decide +kernel)
theorem tX_d23 : decode xM64.2.1 23 = .ok (.aload_n 0, 1) := dz_ok (by decide +kernel)
theorem tX_d24 : decode xM64.2.1 24 = .ok (.getfield 36, 3) := dz_ok (by decide +kernel)
theorem tX_d27 : decode xM64.2.1 27 = .ok (.iaload, 1) := dz_ok (by decide +kernel)
theorem tX_d28 : decode xM64.2.1 28 = .ok (.bipush 32, 2) := dz_ok (by decide +kernel)
theorem tX_d30 : decode xM64.2.1 30 = .ok (.if_icmp .ne 16, 3) := dz_ok (by decide +kernel)
theorem tX_d33 : decode xM64.2.1 33 = .ok (.aload_n 0, 1) := dz_ok (by decide +kernel)
theorem tX_d34 : decode xM64.2.1 34 = .ok (.dup, 1) := dz_ok (by decide +kernel)
theorem tX_d35 : decode xM64.2.1 35 = .ok (.getfield 36, 3) := dz_ok (by decide +kernel)
theorem tX_d38 : decode xM64.2.1 38 = .ok (.iconst 1, 1) := dz_ok (by decide +kernel)
theorem tX_d39 : decode xM64.2.1 39 = .ok (.iadd, 1) := dz_ok (by decide +kernel)
theorem tX_d40 : decode xM64.2.1 40 = .ok (.putfield 36, 3) := dz_ok (by decide +kernel)
theorem tX_d43 : decode xM64.2.1 43 = .ok (.goto (-35), 3) := dz_ok (by decide +kernel)
theorem tX_d46 : decode xM64.2.1 46 = .ok (.aload_n 0, 1) := dz_ok (by decide +kernel)
theorem tX_d47 : decode xM64.2.1 47 = .ok (.getfield 36, 3) := dz_ok (by decide +kernel)
theorem tX_d50 : decode xM64.2.1 50 = .ok (.aload_n 0, 1) := dz_ok (by decide +kernel)
theorem tX_d51 : decode xM64.2.1 51 = .ok (.getfield 22, 3) := dz_ok (by decide +kernel)
theorem tX_d54 : decode xM64.2.1 54 = .ok (.if_icmp .lt 5, 3) := dz_ok (by decide +kernel)
theorem tX_d57 : decode xM64.2.1 57 = .ok (.iconst 0, 1) := dz_ok (by decide +kernel)
theorem tX_d58 : decode xM64.2.1 58 = .ok (.ireturn, 1) := dz_ok (by decide +kernel)
theorem tX_d59 : decode xM64.2.1 59 = .ok (.aload_n 0, 1) := dz_ok (by decide +kernel)
theorem tX_d60 : decode xM64.2.1 60 = .ok (.aload_n 0, 1) := dz_ok (by decide +kernel)
theorem tX_d61 : decode xM64.2.1 61 = .ok (.getfield 36, 3) := dz_ok (by decide +kernel)
theorem tX_d64 : decode xM64.2.1 64 = .ok (.iconst 1, 1) := dz_ok (by decide +kernel)
theorem tX_d65 : decode xM64.2.1 65 = .ok (.iadd, 1) := dz_ok (by decide +kernel)
theorem tX_d66 : decode xM64.2.1 66 = .ok (.putfield 26, 3) := dz_ok (by decide +kernel)
theorem tX_d69 : decode xM64.2.1 69 = .ok (.aload_n 0, 1) := dz_ok (by decide +kernel)
theorem tX_d70 : decode xM64.2.1 70 = .ok (.getfield 9, 3) := dz_ok (by decide +kernel)
theorem tX_d73 : decode xM64.2.1 73 = .ok (.aload_n 0, 1) := dz_ok (by decide +kernel)
theorem tX_d74 : decode xM64.2.1 74 = .ok (.getfield 36, 3) := dz_ok (by decide +kernel)
theorem tX_d77 : decode xM64.2.1 77 = .ok (.iaload, 1) := dz_ok (by decide +kernel)
theorem tX_d78 : decode xM64.2.1 78 = .ok (.istore_n 1, 1) := dz_ok (by decide +kernel)
theorem tX_d79 : decode xM64.2.1 79 = .ok (.iload_n 1, 1) := dz_ok (by decide +kernel)
theorem tX_d80 : decode xM64.2.1 80 = .ok (.bipush 59, 2) := dz_ok (by decide +kernel)
theorem tX_d82 : decode xM64.2.1 82 = .ok (.if_icmp .ne 5, 3) := dz_ok (by decide +kernel)
theorem tX_d85 : decode xM64.2.1 85 = .ok (.iconst 3, 1) := dz_ok (by decide +kernel)
theorem tX_d86 : decode xM64.2.1 86 = .ok (.ireturn, 1) := dz_ok (by decide +kernel)
theorem tX_d87 : decode xM64.2.1 87 = .ok (.iload_n 1, 1) := dz_ok (by decide +kernel)
theorem tX_d88 : decode xM64.2.1 88 = .ok (.bipush 97, 2) := dz_ok (by decide +kernel)
theorem tX_d90 : decode xM64.2.1 90 = .ok (.bipush 122, 2) := dz_ok (by decide +kernel)
theorem tX_d92 : decode xM64.2.1 92 = .ok (.invokestatic 18, 3) := dz_ok (by decide +kernel)
theorem tX_d95 : decode xM64.2.1 95 = .ok (.ifCond .eq 13, 3) := dz_ok (by decide +kernel)
theorem tX_d98 : decode xM64.2.1 98 = .ok (.aload_n 0, 1) := dz_ok (by decide +kernel)
theorem tX_d99 : decode xM64.2.1 99 = .ok (.bipush 97, 2) := dz_ok (by decide +kernel)
theorem tX_d101 : decode xM64.2.1 101 = .ok (.bipush 122, 2) := dz_ok (by decide +kernel)
theorem tX_d103 : decode xM64.2.1 103 = .ok (.invokevirtual 51, 3) := dz_ok (by decide +kernel)
theorem tX_d106 : decode xM64.2.1 106 = .ok (.iconst 1, 1) := dz_ok (by decide +kernel)
theorem tX_d107 : decode xM64.2.1 107 = .ok (.ireturn, 1) := dz_ok (by decide +kernel)
theorem tX_d108 : decode xM64.2.1 108 = .ok (.iload_n 1, 1) := dz_ok (by decide +kernel)
theorem tX_d109 : decode xM64.2.1 109 = .ok (.bipush 48, 2) := dz_ok (by decide +kernel)
theorem tX_d111 : decode xM64.2.1 111 = .ok (.bipush 57, 2) := dz_ok (by decide +kernel)
theorem tX_d113 : decode xM64.2.1 113 = .ok (.invokestatic 18, 3) := dz_ok (by decide +kernel)
theorem tX_d116 : decode xM64.2.1 116 = .ok (.ifCond .eq 30, 3) := dz_ok (by decide +kernel)
theorem tX_d119 : decode xM64.2.1 119 = .ok (.aload_n 0, 1) := dz_ok (by decide +kernel)
theorem tX_d120 : decode xM64.2.1 120 = .ok (.bipush 48, 2) := dz_ok (by decide +kernel)
theorem tX_d122 : decode xM64.2.1 122 = .ok (.bipush 57, 2) := dz_ok (by decide +kernel)
theorem tX_d124 : decode xM64.2.1 124 = .ok (.invokevirtual 51, 3) := dz_ok (by decide +kernel)
theorem tX_d127 : decode xM64.2.1 127 = .ok (.aload_n 0, 1) := dz_ok (by decide +kernel)
theorem tX_d128 : decode xM64.2.1 128 = .ok (.getfield 26, 3) := dz_ok (by decide +kernel)
theorem tX_d131 : decode xM64.2.1 131 = .ok (.aload_n 0, 1) := dz_ok (by decide +kernel)
theorem tX_d132 : decode xM64.2.1 132 = .ok (.getfield 36, 3) := dz_ok (by decide +kernel)
theorem tX_d135 : decode xM64.2.1 135 = .ok (.isub, 1) := dz_ok (by decide +kernel)
theorem tX_d136 : decode xM64.2.1 136 = .ok (.iconst 2, 1) := dz_ok (by decide +kernel)
theorem tX_d137 : decode xM64.2.1 137 = .ok (.if_icmp .gt 7, 3) := dz_ok (by decide +kernel)
theorem tX_d140 : decode xM64.2.1 140 = .ok (.iconst 2, 1) := dz_ok (by decide +kernel)
theorem tX_d141 : decode xM64.2.1 141 = .ok (.goto 4, 3) := dz_ok (by decide +kernel)
theorem tX_d144 : decode xM64.2.1 144 = .ok (.iconst 4, 1) := dz_ok (by decide +kernel)
theorem tX_d145 : decode xM64.2.1 145 = .ok (.ireturn, 1) := dz_ok (by decide +kernel)
theorem tX_d146 : decode xM64.2.1 146 = .ok (.iconst 4, 1) := dz_ok (by decide +kernel)
theorem tX_d147 : decode xM64.2.1 147 = .ok (.ireturn, 1) := dz_ok (by decide +kernel)
theorem tX_L8 {p : Program} {l : Launch} {e : Env} {s : State} {m : MethodId} {below : List Frame} {meth : Method} {c : Code} {D : va_G} {U : State} {Y0 : xY} {av : List Value} (B : y_B vwCl x_Tb x_Nb xM64 p s m meth c D U Y0 av) {this by_ : Nat} {ln te : Int32} {fy : Nat → Int32} (hav : av = [.ref this]) (hs0 : x_sl D 7 0 this s.heap = some (.ref by_)) (hl0 : x_sl D 7 2 this s.heap = some (.int ln)) (he0 : x_sl D 7 4 this s.heap = some (.int te)) (hcn : t_c fy) (hA0 : y_A by_ 240 s.heap fy) (hln : 0 ≤ ln.toInt ∧ ln.toInt ≤ 240) (hte : 0 ≤ te.toInt ∧ te.toInt ≤ 240) (hle : te.toInt ≤ ln.toInt)  :
    ∀ (n : Nat), ∀ (H : Heap) (Y : xY) (locs : List Loc) (ls : Array Slot) (ta : Int32), x_I D x_G x_Zs U (x_efs xM64) Y0 s.heap Y H locs → Y this = some 4 → Y by_ = some 39 → x_sl D 7 0 this H = some (.ref by_) → x_sl D 7 2 this H = some (.int ln) → x_sl D 7 3 this H = some (.int ta) → x_sl D 7 4 this H = some (.int te) → y_A by_ 240 H fy → lv_has ls xM64.2.2.1 [(0, .ref this)] → (te.toInt ≤ ta.toInt ∧ ta.toInt ≤ ln.toInt) → (t_pass t_bl fy ln.toInt.toNat te.toInt.toNat = t_pass t_bl fy ln.toInt.toNat ta.toInt.toNat) → (241 - ta.toInt).toNat < n → W p l e (x_rm xM64) s m av.toArray below meth c H locs 0 0 (y_QQ below D x_G x_Zs U xM64 z_PntX av Y0 s) (F0 m 8 ls []) := by
  have X := B.1
  have hx := X.1
  have hb := X.2.1
  have hY0 := B.2.2.2.2.1
  intro n
  induction n with
  | zero => intro _ _ _ _ _ _ _ _ _ _ _ _ _ _ _ _ h; exact absurd h (Nat.not_lt_zero _)
  | succ n ih =>
    intro H Y locs ls ta  hI hY_this hY_by_ hs_by_ hsi_length hsi_tokenAt hsi_tokenEnd hA_by_ hl hta hps hn
    refine lv_aload_n hx hb tX_d8 rfl (lv_at hl 0 rfl) ?_
    refine y_getf X (fl133 X.2.2.2.2.1) hI.1 hY_this rfl hsi_tokenAt tX_d9 ?_
    refine lv_aload_n hx hb tX_d12 rfl (lv_at hl 0 rfl) ?_
    refine y_getf X (fl131 X.2.2.2.2.1) hI.1 hY_this rfl hsi_length tX_d13 ?_
    refine lv_icmp_ge hx hb tX_d16 (tgt := 46) (by decide) (fun q16 => ?_) (fun q16 => ?_)
    · have q16_ : ln.toInt ≤ ta.toInt := x_le32.mp q16
      have hat : t_at fy ln.toInt.toNat te.toInt.toNat = ta.toInt.toNat := hps.trans (t_pass_stop (fun q9 => by first | omega | (have h9 := of_decide_eq_true q9.2; rw [hg_e27] at h9; omega)))
      refine lv_aload_n hx hb tX_d46 rfl (lv_at hl 0 rfl) ?_
      refine y_getf X (fl133 X.2.2.2.2.1) hI.1 hY_this rfl hsi_tokenAt tX_d47 ?_
      refine lv_aload_n hx hb tX_d50 rfl (lv_at hl 0 rfl) ?_
      refine y_getf X (fl131 X.2.2.2.2.1) hI.1 hY_this rfl hsi_length tX_d51 ?_
      refine lv_icmp_lt hx hb tX_d54 (tgt := 59) (by decide) (fun q54 => ?_) (fun q54 => ?_)
      · have q54_ : ta.toInt < ln.toInt := x_lt32.mp q54
        refine lv_aload_n hx hb tX_d59 rfl (lv_at hl 0 rfl) ?_
        refine lv_aload_n hx hb tX_d60 rfl (lv_at hl 0 rfl) ?_
        refine y_getf X (fl133 X.2.2.2.2.1) hI.1 hY_this rfl hsi_tokenAt tX_d61 ?_
        refine lv_iconst hx hb tX_d64 (v := 1) (by decide) ?_
        have ec1 : (1 : Int32).toInt = 1 := by decide
        refine lv_iadd hx hb tX_d65 ?_
        generalize hg_z65 : ta + (1 : Int32) = z65
        have h_z65 : z65.toInt = ta.toInt + 1 := by rw [← hg_z65]; have := y_add (x := ta) (y := (1 : Int32)) (by rw [ec1]; omega) (by rw [ec1]; omega); rw [ec1] at this; exact this
        refine y_putf X (fw129 X.2.2.2.2.1) hY0 hI hY_this rfl rfl ⟨_, rfl, by show (0 : Int) ≤ _; omega, by show _ ≤ (240 : Int); omega⟩ (by decide +kernel) tX_d66 fun H sl hI ho hs hk => ?_
        replace hs_by_ := hk _ _ (by decide +kernel) (by decide) hs_by_
        replace hsi_length := hk _ _ (by decide +kernel) (by decide) hsi_length
        replace hsi_tokenAt := hk _ _ (by decide +kernel) (by decide) hsi_tokenAt
        replace hA_by_ := hA_by_.kept (ho _ (y_ne hY_by_ hY_this rfl))
        replace hs := hs
        replace hsi_tokenEnd := hs
        refine lv_aload_n hx hb tX_d69 rfl (lv_at hl 0 rfl) ?_
        refine y_getf X (fl130 X.2.2.2.2.1) hI.1 hY_this rfl hs_by_ tX_d70 ?_
        refine lv_aload_n hx hb tX_d73 rfl (lv_at hl 0 rfl) ?_
        refine y_getf X (fl133 X.2.2.2.2.1) hI.1 hY_this rfl hsi_tokenAt tX_d74 ?_
        refine y_iald X hI.1 hY_by_ rfl hA_by_ (by omega) (by show _ < (240 : Int); omega) tX_d77 ?_
        obtain ⟨e77, hg_e77⟩ : ∃ e77 : Int32, fy ta.toInt.toNat = e77 := ⟨_, rfl⟩
        rw [hg_e77]
        refine lv_istore_n hx hb tX_d78 rfl hl (by decide) (lv' := [(1, .int e77), (0, .ref this)]) rfl fun ls hl => ?_
        refine lv_iload_n hx hb tX_d79 rfl (lv_at hl 0 rfl) ?_
        refine lv_bipush hx hb tX_d80 (v := 59) (by decide) ?_
        have ec59 : (59 : Int32).toInt = 59 := by decide
        refine lv_icmp_ne hx hb tX_d82 (tgt := 87) (by decide) (fun q82 => ?_) (fun q82 => ?_)
        · have q82_ : ¬ e77.toInt = (59 : Int32).toInt := fun q => q82 (Int32.toInt_inj.mp q)
          refine lv_iload_n hx hb tX_d87 rfl (lv_at hl 0 rfl) ?_
          refine lv_bipush hx hb tX_d88 (v := 97) (by decide) ?_
          have ec97 : (97 : Int32).toInt = 97 := by decide
          refine lv_bipush hx hb tX_d90 (v := 122) (by decide) ?_
          have ec122 : (122 : Int32).toInt = 122 := by decide
          refine y_call (z := (1, 18, 3, none, xM10)) (av := [.int e77, .int (97 : Int32), .int (122 : Int32)]) (rest := []) (y_cokSN (n := 3) (host := "TwinFires") X ym_within (x_cons (x_bw19 1 rfl rfl) (x_cons (x_bw0 1 rfl rfl) x_nilm)) (x_bn34 6 rfl rfl) (x_bw19 2 rfl rfl) (by decide +kernel) ⟨Nat.le_of_ble_eq_true rfl, Nat.le_of_ble_eq_true rfl⟩) hY0 hI rfl tX_d92 hl.1 (Nat.le_of_ble_eq_true rfl) (Nat.le_of_ble_eq_true rfl) (Nat.le_of_ble_eq_true rfl) (y_cons ⟨_, rfl, x_i32 _⟩ (y_cons ⟨_, rfl, x_i32 _⟩ (y_cons ⟨_, rfl, x_i32 _⟩ y_nil))) rfl (y_norecv rfl) trivial (y_sub_ef rfl) fun v Yn o Hn L ho hr ha hIn hx_ hE hP => ?_
          replace hs_by_ := y_Efld hE hY_this rfl (by decide) (by decide) hs_by_
          replace hsi_length := y_Efld hE hY_this rfl (by decide) (by decide) hsi_length
          replace hsi_tokenAt := y_Efld hE hY_this rfl (by decide) (by decide) hsi_tokenAt
          replace hsi_tokenEnd := y_Efld hE hY_this rfl (by decide) (by decide) hsi_tokenEnd
          replace hA_by_ := hA_by_.kept (y_Earr hE hY_by_ rfl (by decide))
          replace hY_this := y_ext hx_ hI.1 hY_this
          replace hY_by_ := y_ext hx_ hI.1 hY_by_
          obtain ⟨r92, rfl, hin_r92, hout_r92⟩ := hP _ _ _ rfl
          clear ho hr ha hE hP hI hx_
          rename x_I _ _ _ _ _ _ _ _ _ _ => hI
          have ec0 : (0 : Int32).toInt = 0 := by decide
          refine lv_if_eq hx hb tX_d95 (tgt := 108) (by decide) (fun q95 => ?_) (fun q95 => ?_)
          · have q95_ : r92.toInt = (0 : Int32).toInt := by rw [q95]
            refine lv_iload_n hx hb tX_d108 rfl (lv_at hl 0 rfl) ?_
            refine lv_bipush hx hb tX_d109 (v := 48) (by decide) ?_
            have ec48 : (48 : Int32).toInt = 48 := by decide
            refine lv_bipush hx hb tX_d111 (v := 57) (by decide) ?_
            have ec57 : (57 : Int32).toInt = 57 := by decide
            refine y_call (z := (1, 18, 3, none, xM10)) (av := [.int e77, .int (48 : Int32), .int (57 : Int32)]) (rest := []) (y_cokSN (n := 3) (host := "TwinFires") X ym_within (x_cons (x_bw19 1 rfl rfl) (x_cons (x_bw0 1 rfl rfl) x_nilm)) (x_bn34 6 rfl rfl) (x_bw19 2 rfl rfl) (by decide +kernel) ⟨Nat.le_of_ble_eq_true rfl, Nat.le_of_ble_eq_true rfl⟩) hY0 hI rfl tX_d113 hl.1 (Nat.le_of_ble_eq_true rfl) (Nat.le_of_ble_eq_true rfl) (Nat.le_of_ble_eq_true rfl) (y_cons ⟨_, rfl, x_i32 _⟩ (y_cons ⟨_, rfl, x_i32 _⟩ (y_cons ⟨_, rfl, x_i32 _⟩ y_nil))) rfl (y_norecv rfl) trivial (y_sub_ef rfl) fun v Yn o Hn L ho hr ha hIn hx_ hE hP => ?_
            replace hs_by_ := y_Efld hE hY_this rfl (by decide) (by decide) hs_by_
            replace hsi_length := y_Efld hE hY_this rfl (by decide) (by decide) hsi_length
            replace hsi_tokenAt := y_Efld hE hY_this rfl (by decide) (by decide) hsi_tokenAt
            replace hsi_tokenEnd := y_Efld hE hY_this rfl (by decide) (by decide) hsi_tokenEnd
            replace hA_by_ := hA_by_.kept (y_Earr hE hY_by_ rfl (by decide))
            replace hY_this := y_ext hx_ hI.1 hY_this
            replace hY_by_ := y_ext hx_ hI.1 hY_by_
            obtain ⟨r113, rfl, hin_r113, hout_r113⟩ := hP _ _ _ rfl
            clear ho hr ha hE hP hI hx_
            rename x_I _ _ _ _ _ _ _ _ _ _ => hI
            refine lv_if_eq hx hb tX_d116 (tgt := 146) (by decide) (fun q116 => ?_) (fun q116 => ?_)
            · have q116_ : r113.toInt = (0 : Int32).toInt := by rw [q116]
              refine lv_iconst hx hb tX_d146 (v := 4) (by decide) ?_
              have ec4 : (4 : Int32).toInt = 4 := by decide
              have htk := t_tok_odd hat (by omega) (by rw [hg_e77]; omega) (by rw [hg_e77]; exact fun q9 => absurd (of_decide_eq_true q9) (by have h9 := hout_r92 (by assumption); omega)) (by rw [hg_e77]; exact fun q9 => absurd (of_decide_eq_true q9) (by have h9 := hout_r113 (by assumption); omega))
              rw [(show ta.toInt.toNat + 1 = z65.toInt.toNat by omega)] at htk
              subst hav
              exact y_ireturn B hI rfl rfl rfl List.mem_cons_self ⟨_, rfl, ⟨_, rfl, by decide, by decide⟩⟩ (x_cs.mono B.2.2.2.2.2 (y_mon B hI)) (fun t' b' ln' te' fy' h1 h2 h3 h4 h5 h6 => by cases h1; cases h2.symm.trans hs0; cases h3.symm.trans hl0; cases h4.symm.trans he0; cases t_uniq h6 hA0 h5 hcn; exact ⟨_, _, _, rfl, hsi_tokenAt, hsi_tokenEnd, ⟨by decide, by decide⟩, by rw [htk]; rfl, by rw [hat]; omega, fun q9 => by first | exact absurd (by decide) q9 | (rw [htk]; omega) | (rw [htk]; show _ = ((_ + 1 : Nat) : Int); omega)⟩) (Nat.le_refl _) (Nat.le_refl _) tX_d147
            · have q116_ : ¬ r113.toInt = (0 : Int32).toInt := fun q => q116 (Int32.toInt_inj.mp q)
              refine lv_aload_n hx hb tX_d119 rfl (lv_at hl 1 rfl) ?_
              refine lv_bipush hx hb tX_d120 (v := 48) (by decide) ?_
              refine lv_bipush hx hb tX_d122 (v := 57) (by decide) ?_
              refine y_call (z := (0, 51, 3, some 4, xM63)) (av := [.ref this, .int (48 : Int32), .int (57 : Int32)]) (rest := []) (y_cokV (n := 2) (ci := 7) X ym_passX rfl rfl rfl (x_cons (x_bw36 6 rfl rfl) (x_cons (x_bw36 8 rfl rfl) (x_cons (x_at 9 (by decide +kernel) rfl) (x_cons (x_bw0 5 rfl rfl) x_nilm)))) (x_bw36 9 rfl rfl) (by decide +kernel) ⟨Nat.le_of_ble_eq_true rfl, Nat.le_of_ble_eq_true rfl⟩) hY0 hI rfl tX_d124 hl.1 (Nat.le_of_ble_eq_true rfl) (Nat.le_of_ble_eq_true rfl) (Nat.le_of_ble_eq_true rfl) (y_cons (y_cref hY_this rfl) (y_cons ⟨_, rfl, x_i32 _⟩ (y_cons ⟨_, rfl, x_i32 _⟩ y_nil))) rfl (y_recv rfl hY_this) trivial (y_sub_ef rfl) fun v Yn o Hn L ho hr ha hIn hx_ hE hP => ?_
              have hPp := hP _ _ _ _ _ _ _ rfl hs_by_ hsi_length hsi_tokenEnd hcn hA_by_
              replace hs_by_ := y_Efld hE hY_this rfl (by decide) (by decide) hs_by_
              replace hsi_length := y_Efld hE hY_this rfl (by decide) (by decide) hsi_length
              replace hsi_tokenAt := y_Efld hE hY_this rfl (by decide) (by decide) hsi_tokenAt
              replace hA_by_ := hA_by_.kept (y_Earr hE hY_by_ rfl (by decide))
              replace hY_this := y_ext hx_ hI.1 hY_this
              replace hY_by_ := y_ext hx_ hI.1 hY_by_
              obtain rfl := y_ansV rfl ho hr
              obtain ⟨te124, hsi_tokenEnd, heq_te124, hb_te124, hb2_te124⟩ := hPp
              clear ho hr ha hE hP hI hx_
              rename x_I _ _ _ _ _ _ _ _ _ _ => hI
              refine lv_aload_n hx hb tX_d127 rfl (lv_at hl 1 rfl) ?_
              refine y_getf X (fl132 X.2.2.2.2.1) hI.1 hY_this rfl hsi_tokenEnd tX_d128 ?_
              refine lv_aload_n hx hb tX_d131 rfl (lv_at hl 1 rfl) ?_
              refine y_getf X (fl133 X.2.2.2.2.1) hI.1 hY_this rfl hsi_tokenAt tX_d132 ?_
              refine lv_isub hx hb tX_d135 ?_
              generalize hg_z135 : te124 - ta = z135
              have h_z135 : z135.toInt = te124.toInt - ta.toInt := by rw [← hg_z135]; have := y_sub (x := te124) (y := ta) (by omega) (by omega); exact this
              refine lv_iconst hx hb tX_d136 (v := 2) (by decide) ?_
              have ec2 : (2 : Int32).toInt = 2 := by decide
              refine lv_icmp_gt hx hb tX_d137 (tgt := 144) (by decide) (fun q137 => ?_) (fun q137 => ?_)
              · have q137_ : (2 : Int32).toInt < z135.toInt := x_lt32.mp q137
                refine lv_iconst hx hb tX_d144 (v := 4) (by decide) ?_
                have ec4 : (4 : Int32).toInt = 4 := by decide
                have htk := t_tok_num hat (by omega) (by rw [hg_e77]; exact decide_eq_true (by have h9 := hin_r113 (by assumption); omega))
                rw [t_di_in, (show ta.toInt.toNat + 1 = z65.toInt.toNat by omega), ← heq_te124] at htk
                rw [if_neg (by omega)] at htk
                subst hav
                exact y_ireturn B hI rfl rfl rfl List.mem_cons_self ⟨_, rfl, ⟨_, rfl, by decide, by decide⟩⟩ (x_cs.mono B.2.2.2.2.2 (y_mon B hI)) (fun t' b' ln' te' fy' h1 h2 h3 h4 h5 h6 => by cases h1; cases h2.symm.trans hs0; cases h3.symm.trans hl0; cases h4.symm.trans he0; cases t_uniq h6 hA0 h5 hcn; exact ⟨_, _, _, rfl, hsi_tokenAt, hsi_tokenEnd, ⟨by decide, by decide⟩, by rw [htk]; rfl, by rw [hat]; omega, fun q9 => by first | exact absurd (by decide) q9 | (rw [htk]; omega) | (rw [htk]; show _ = ((_ + 1 : Nat) : Int); omega)⟩) (Nat.le_refl _) (Nat.le_refl _) tX_d145
              · have q137_ : z135.toInt ≤ (2 : Int32).toInt := Int.not_lt.mp fun q => q137 (x_lt32.mpr q)
                refine lv_iconst hx hb tX_d140 (v := 2) (by decide) ?_
                refine lv_goto hx hb tX_d141 (tgt := 145) (by decide) ?_
                have htk := t_tok_num hat (by omega) (by rw [hg_e77]; exact decide_eq_true (by have h9 := hin_r113 (by assumption); omega))
                rw [t_di_in, (show ta.toInt.toNat + 1 = z65.toInt.toNat by omega), ← heq_te124] at htk
                rw [if_pos (by omega)] at htk
                subst hav
                exact y_ireturn B hI rfl rfl rfl List.mem_cons_self ⟨_, rfl, ⟨_, rfl, by decide, by decide⟩⟩ (x_cs.mono B.2.2.2.2.2 (y_mon B hI)) (fun t' b' ln' te' fy' h1 h2 h3 h4 h5 h6 => by cases h1; cases h2.symm.trans hs0; cases h3.symm.trans hl0; cases h4.symm.trans he0; cases t_uniq h6 hA0 h5 hcn; exact ⟨_, _, _, rfl, hsi_tokenAt, hsi_tokenEnd, ⟨by decide, by decide⟩, by rw [htk]; rfl, by rw [hat]; omega, fun q9 => by first | exact absurd (by decide) q9 | (rw [htk]; omega) | (rw [htk]; show _ = ((_ + 1 : Nat) : Int); omega)⟩) (Nat.le_refl _) (Nat.le_refl _) tX_d145
          · have q95_ : ¬ r92.toInt = (0 : Int32).toInt := fun q => q95 (Int32.toInt_inj.mp q)
            refine lv_aload_n hx hb tX_d98 rfl (lv_at hl 1 rfl) ?_
            refine lv_bipush hx hb tX_d99 (v := 97) (by decide) ?_
            refine lv_bipush hx hb tX_d101 (v := 122) (by decide) ?_
            refine y_call (z := (0, 51, 3, some 4, xM63)) (av := [.ref this, .int (97 : Int32), .int (122 : Int32)]) (rest := []) (y_cokV (n := 2) (ci := 7) X ym_passX rfl rfl rfl (x_cons (x_bw36 6 rfl rfl) (x_cons (x_bw36 8 rfl rfl) (x_cons (x_at 9 (by decide +kernel) rfl) (x_cons (x_bw0 5 rfl rfl) x_nilm)))) (x_bw36 9 rfl rfl) (by decide +kernel) ⟨Nat.le_of_ble_eq_true rfl, Nat.le_of_ble_eq_true rfl⟩) hY0 hI rfl tX_d103 hl.1 (Nat.le_of_ble_eq_true rfl) (Nat.le_of_ble_eq_true rfl) (Nat.le_of_ble_eq_true rfl) (y_cons (y_cref hY_this rfl) (y_cons ⟨_, rfl, x_i32 _⟩ (y_cons ⟨_, rfl, x_i32 _⟩ y_nil))) rfl (y_recv rfl hY_this) trivial (y_sub_ef rfl) fun v Yn o Hn L ho hr ha hIn hx_ hE hP => ?_
            have hPp := hP _ _ _ _ _ _ _ rfl hs_by_ hsi_length hsi_tokenEnd hcn hA_by_
            replace hs_by_ := y_Efld hE hY_this rfl (by decide) (by decide) hs_by_
            replace hsi_length := y_Efld hE hY_this rfl (by decide) (by decide) hsi_length
            replace hsi_tokenAt := y_Efld hE hY_this rfl (by decide) (by decide) hsi_tokenAt
            replace hA_by_ := hA_by_.kept (y_Earr hE hY_by_ rfl (by decide))
            replace hY_this := y_ext hx_ hI.1 hY_this
            replace hY_by_ := y_ext hx_ hI.1 hY_by_
            obtain rfl := y_ansV rfl ho hr
            obtain ⟨te103, hsi_tokenEnd, heq_te103, hb_te103, hb2_te103⟩ := hPp
            clear ho hr ha hE hP hI hx_
            rename x_I _ _ _ _ _ _ _ _ _ _ => hI
            refine lv_iconst hx hb tX_d106 (v := 1) (by decide) ?_
            have htk := t_tok_word hat (by omega) (by rw [hg_e77]; exact decide_eq_true (by have h9 := hin_r92 (by assumption); omega))
            rw [t_lo_in, (show ta.toInt.toNat + 1 = z65.toInt.toNat by omega), ← heq_te103] at htk
            subst hav
            exact y_ireturn B hI rfl rfl rfl List.mem_cons_self ⟨_, rfl, ⟨_, rfl, by decide, by decide⟩⟩ (x_cs.mono B.2.2.2.2.2 (y_mon B hI)) (fun t' b' ln' te' fy' h1 h2 h3 h4 h5 h6 => by cases h1; cases h2.symm.trans hs0; cases h3.symm.trans hl0; cases h4.symm.trans he0; cases t_uniq h6 hA0 h5 hcn; exact ⟨_, _, _, rfl, hsi_tokenAt, hsi_tokenEnd, ⟨by decide, by decide⟩, by rw [htk]; rfl, by rw [hat]; omega, fun q9 => by first | exact absurd (by decide) q9 | (rw [htk]; omega) | (rw [htk]; show _ = ((_ + 1 : Nat) : Int); omega)⟩) (Nat.le_refl _) (Nat.le_refl _) tX_d107
        · have q82_ : e77.toInt = (59 : Int32).toInt := by rw [q82]
          refine lv_iconst hx hb tX_d85 (v := 3) (by decide) ?_
          have ec3 : (3 : Int32).toInt = 3 := by decide
          have htk := t_tok_stop hat (by omega) (by rw [hg_e77]; omega)
          rw [(show ta.toInt.toNat + 1 = z65.toInt.toNat by omega)] at htk
          subst hav
          exact y_ireturn B hI rfl rfl rfl List.mem_cons_self ⟨_, rfl, ⟨_, rfl, by decide, by decide⟩⟩ (x_cs.mono B.2.2.2.2.2 (y_mon B hI)) (fun t' b' ln' te' fy' h1 h2 h3 h4 h5 h6 => by cases h1; cases h2.symm.trans hs0; cases h3.symm.trans hl0; cases h4.symm.trans he0; cases t_uniq h6 hA0 h5 hcn; exact ⟨_, _, _, rfl, hsi_tokenAt, hsi_tokenEnd, ⟨by decide, by decide⟩, by rw [htk]; rfl, by rw [hat]; omega, fun q9 => by first | exact absurd (by decide) q9 | (rw [htk]; omega) | (rw [htk]; show _ = ((_ + 1 : Nat) : Int); omega)⟩) (Nat.le_refl _) (Nat.le_refl _) tX_d86
      · have q54_ : ln.toInt ≤ ta.toInt := Int.not_lt.mp fun q => q54 (x_lt32.mpr q)
        refine lv_iconst hx hb tX_d57 (v := 0) (by decide) ?_
        have ec0 : (0 : Int32).toInt = 0 := by decide
        have htk := t_tok_end hat (by omega)
        subst hav
        exact y_ireturn B hI rfl rfl rfl List.mem_cons_self ⟨_, rfl, ⟨_, rfl, by decide, by decide⟩⟩ (x_cs.mono B.2.2.2.2.2 (y_mon B hI)) (fun t' b' ln' te' fy' h1 h2 h3 h4 h5 h6 => by cases h1; cases h2.symm.trans hs0; cases h3.symm.trans hl0; cases h4.symm.trans he0; cases t_uniq h6 hA0 h5 hcn; exact ⟨_, _, _, rfl, hsi_tokenAt, hsi_tokenEnd, ⟨by decide, by decide⟩, by rw [htk]; rfl, by rw [hat]; omega, fun q9 => by first | exact absurd (by decide) q9 | (rw [htk]; omega) | (rw [htk]; show _ = ((_ + 1 : Nat) : Int); omega)⟩) (Nat.le_refl _) (Nat.le_refl _) tX_d58
    · have q16_ : ta.toInt < ln.toInt := Int.not_le.mp fun q => q16 (x_le32.mpr q)
      refine lv_aload_n hx hb tX_d19 rfl (lv_at hl 0 rfl) ?_
      refine y_getf X (fl130 X.2.2.2.2.1) hI.1 hY_this rfl hs_by_ tX_d20 ?_
      refine lv_aload_n hx hb tX_d23 rfl (lv_at hl 0 rfl) ?_
      refine y_getf X (fl133 X.2.2.2.2.1) hI.1 hY_this rfl hsi_tokenAt tX_d24 ?_
      refine y_iald X hI.1 hY_by_ rfl hA_by_ (by omega) (by show _ < (240 : Int); omega) tX_d27 ?_
      obtain ⟨e27, hg_e27⟩ : ∃ e27 : Int32, fy ta.toInt.toNat = e27 := ⟨_, rfl⟩
      rw [hg_e27]
      refine lv_bipush hx hb tX_d28 (v := 32) (by decide) ?_
      have ec32 : (32 : Int32).toInt = 32 := by decide
      refine lv_icmp_ne hx hb tX_d30 (tgt := 46) (by decide) (fun q30 => ?_) (fun q30 => ?_)
      · have q30_ : ¬ e27.toInt = (32 : Int32).toInt := fun q => q30 (Int32.toInt_inj.mp q)
        have hat : t_at fy ln.toInt.toNat te.toInt.toNat = ta.toInt.toNat := hps.trans (t_pass_stop (fun q9 => by first | omega | (have h9 := of_decide_eq_true q9.2; rw [hg_e27] at h9; omega)))
        refine lv_aload_n hx hb tX_d46 rfl (lv_at hl 0 rfl) ?_
        refine y_getf X (fl133 X.2.2.2.2.1) hI.1 hY_this rfl hsi_tokenAt tX_d47 ?_
        refine lv_aload_n hx hb tX_d50 rfl (lv_at hl 0 rfl) ?_
        refine y_getf X (fl131 X.2.2.2.2.1) hI.1 hY_this rfl hsi_length tX_d51 ?_
        refine lv_icmp_lt hx hb tX_d54 (tgt := 59) (by decide) (fun q54 => ?_) (fun q54 => ?_)
        · have q54_ : ta.toInt < ln.toInt := x_lt32.mp q54
          refine lv_aload_n hx hb tX_d59 rfl (lv_at hl 0 rfl) ?_
          refine lv_aload_n hx hb tX_d60 rfl (lv_at hl 0 rfl) ?_
          refine y_getf X (fl133 X.2.2.2.2.1) hI.1 hY_this rfl hsi_tokenAt tX_d61 ?_
          refine lv_iconst hx hb tX_d64 (v := 1) (by decide) ?_
          have ec1 : (1 : Int32).toInt = 1 := by decide
          refine lv_iadd hx hb tX_d65 ?_
          generalize hg_z65 : ta + (1 : Int32) = z65
          have h_z65 : z65.toInt = ta.toInt + 1 := by rw [← hg_z65]; have := y_add (x := ta) (y := (1 : Int32)) (by rw [ec1]; omega) (by rw [ec1]; omega); rw [ec1] at this; exact this
          refine y_putf X (fw129 X.2.2.2.2.1) hY0 hI hY_this rfl rfl ⟨_, rfl, by show (0 : Int) ≤ _; omega, by show _ ≤ (240 : Int); omega⟩ (by decide +kernel) tX_d66 fun H sl hI ho hs hk => ?_
          replace hs_by_ := hk _ _ (by decide +kernel) (by decide) hs_by_
          replace hsi_length := hk _ _ (by decide +kernel) (by decide) hsi_length
          replace hsi_tokenAt := hk _ _ (by decide +kernel) (by decide) hsi_tokenAt
          replace hA_by_ := hA_by_.kept (ho _ (y_ne hY_by_ hY_this rfl))
          replace hs := hs
          replace hsi_tokenEnd := hs
          refine lv_aload_n hx hb tX_d69 rfl (lv_at hl 0 rfl) ?_
          refine y_getf X (fl130 X.2.2.2.2.1) hI.1 hY_this rfl hs_by_ tX_d70 ?_
          refine lv_aload_n hx hb tX_d73 rfl (lv_at hl 0 rfl) ?_
          refine y_getf X (fl133 X.2.2.2.2.1) hI.1 hY_this rfl hsi_tokenAt tX_d74 ?_
          refine y_iald X hI.1 hY_by_ rfl hA_by_ (by omega) (by show _ < (240 : Int); omega) tX_d77 ?_
          obtain ⟨e77, hg_e77⟩ : ∃ e77 : Int32, fy ta.toInt.toNat = e77 := ⟨_, rfl⟩
          rw [hg_e77]
          refine lv_istore_n hx hb tX_d78 rfl hl (by decide) (lv' := [(1, .int e77), (0, .ref this)]) rfl fun ls hl => ?_
          refine lv_iload_n hx hb tX_d79 rfl (lv_at hl 0 rfl) ?_
          refine lv_bipush hx hb tX_d80 (v := 59) (by decide) ?_
          have ec59 : (59 : Int32).toInt = 59 := by decide
          refine lv_icmp_ne hx hb tX_d82 (tgt := 87) (by decide) (fun q82 => ?_) (fun q82 => ?_)
          · have q82_ : ¬ e77.toInt = (59 : Int32).toInt := fun q => q82 (Int32.toInt_inj.mp q)
            refine lv_iload_n hx hb tX_d87 rfl (lv_at hl 0 rfl) ?_
            refine lv_bipush hx hb tX_d88 (v := 97) (by decide) ?_
            have ec97 : (97 : Int32).toInt = 97 := by decide
            refine lv_bipush hx hb tX_d90 (v := 122) (by decide) ?_
            have ec122 : (122 : Int32).toInt = 122 := by decide
            refine y_call (z := (1, 18, 3, none, xM10)) (av := [.int e77, .int (97 : Int32), .int (122 : Int32)]) (rest := []) (y_cokSN (n := 3) (host := "TwinFires") X ym_within (x_cons (x_bw19 1 rfl rfl) (x_cons (x_bw0 1 rfl rfl) x_nilm)) (x_bn34 6 rfl rfl) (x_bw19 2 rfl rfl) (by decide +kernel) ⟨Nat.le_of_ble_eq_true rfl, Nat.le_of_ble_eq_true rfl⟩) hY0 hI rfl tX_d92 hl.1 (Nat.le_of_ble_eq_true rfl) (Nat.le_of_ble_eq_true rfl) (Nat.le_of_ble_eq_true rfl) (y_cons ⟨_, rfl, x_i32 _⟩ (y_cons ⟨_, rfl, x_i32 _⟩ (y_cons ⟨_, rfl, x_i32 _⟩ y_nil))) rfl (y_norecv rfl) trivial (y_sub_ef rfl) fun v Yn o Hn L ho hr ha hIn hx_ hE hP => ?_
            replace hs_by_ := y_Efld hE hY_this rfl (by decide) (by decide) hs_by_
            replace hsi_length := y_Efld hE hY_this rfl (by decide) (by decide) hsi_length
            replace hsi_tokenAt := y_Efld hE hY_this rfl (by decide) (by decide) hsi_tokenAt
            replace hsi_tokenEnd := y_Efld hE hY_this rfl (by decide) (by decide) hsi_tokenEnd
            replace hA_by_ := hA_by_.kept (y_Earr hE hY_by_ rfl (by decide))
            replace hY_this := y_ext hx_ hI.1 hY_this
            replace hY_by_ := y_ext hx_ hI.1 hY_by_
            obtain ⟨r92, rfl, hin_r92, hout_r92⟩ := hP _ _ _ rfl
            clear ho hr ha hE hP hI hx_
            rename x_I _ _ _ _ _ _ _ _ _ _ => hI
            have ec0 : (0 : Int32).toInt = 0 := by decide
            refine lv_if_eq hx hb tX_d95 (tgt := 108) (by decide) (fun q95 => ?_) (fun q95 => ?_)
            · have q95_ : r92.toInt = (0 : Int32).toInt := by rw [q95]
              refine lv_iload_n hx hb tX_d108 rfl (lv_at hl 0 rfl) ?_
              refine lv_bipush hx hb tX_d109 (v := 48) (by decide) ?_
              have ec48 : (48 : Int32).toInt = 48 := by decide
              refine lv_bipush hx hb tX_d111 (v := 57) (by decide) ?_
              have ec57 : (57 : Int32).toInt = 57 := by decide
              refine y_call (z := (1, 18, 3, none, xM10)) (av := [.int e77, .int (48 : Int32), .int (57 : Int32)]) (rest := []) (y_cokSN (n := 3) (host := "TwinFires") X ym_within (x_cons (x_bw19 1 rfl rfl) (x_cons (x_bw0 1 rfl rfl) x_nilm)) (x_bn34 6 rfl rfl) (x_bw19 2 rfl rfl) (by decide +kernel) ⟨Nat.le_of_ble_eq_true rfl, Nat.le_of_ble_eq_true rfl⟩) hY0 hI rfl tX_d113 hl.1 (Nat.le_of_ble_eq_true rfl) (Nat.le_of_ble_eq_true rfl) (Nat.le_of_ble_eq_true rfl) (y_cons ⟨_, rfl, x_i32 _⟩ (y_cons ⟨_, rfl, x_i32 _⟩ (y_cons ⟨_, rfl, x_i32 _⟩ y_nil))) rfl (y_norecv rfl) trivial (y_sub_ef rfl) fun v Yn o Hn L ho hr ha hIn hx_ hE hP => ?_
              replace hs_by_ := y_Efld hE hY_this rfl (by decide) (by decide) hs_by_
              replace hsi_length := y_Efld hE hY_this rfl (by decide) (by decide) hsi_length
              replace hsi_tokenAt := y_Efld hE hY_this rfl (by decide) (by decide) hsi_tokenAt
              replace hsi_tokenEnd := y_Efld hE hY_this rfl (by decide) (by decide) hsi_tokenEnd
              replace hA_by_ := hA_by_.kept (y_Earr hE hY_by_ rfl (by decide))
              replace hY_this := y_ext hx_ hI.1 hY_this
              replace hY_by_ := y_ext hx_ hI.1 hY_by_
              obtain ⟨r113, rfl, hin_r113, hout_r113⟩ := hP _ _ _ rfl
              clear ho hr ha hE hP hI hx_
              rename x_I _ _ _ _ _ _ _ _ _ _ => hI
              refine lv_if_eq hx hb tX_d116 (tgt := 146) (by decide) (fun q116 => ?_) (fun q116 => ?_)
              · have q116_ : r113.toInt = (0 : Int32).toInt := by rw [q116]
                refine lv_iconst hx hb tX_d146 (v := 4) (by decide) ?_
                have ec4 : (4 : Int32).toInt = 4 := by decide
                have htk := t_tok_odd hat (by omega) (by rw [hg_e77]; omega) (by rw [hg_e77]; exact fun q9 => absurd (of_decide_eq_true q9) (by have h9 := hout_r92 (by assumption); omega)) (by rw [hg_e77]; exact fun q9 => absurd (of_decide_eq_true q9) (by have h9 := hout_r113 (by assumption); omega))
                rw [(show ta.toInt.toNat + 1 = z65.toInt.toNat by omega)] at htk
                subst hav
                exact y_ireturn B hI rfl rfl rfl List.mem_cons_self ⟨_, rfl, ⟨_, rfl, by decide, by decide⟩⟩ (x_cs.mono B.2.2.2.2.2 (y_mon B hI)) (fun t' b' ln' te' fy' h1 h2 h3 h4 h5 h6 => by cases h1; cases h2.symm.trans hs0; cases h3.symm.trans hl0; cases h4.symm.trans he0; cases t_uniq h6 hA0 h5 hcn; exact ⟨_, _, _, rfl, hsi_tokenAt, hsi_tokenEnd, ⟨by decide, by decide⟩, by rw [htk]; rfl, by rw [hat]; omega, fun q9 => by first | exact absurd (by decide) q9 | (rw [htk]; omega) | (rw [htk]; show _ = ((_ + 1 : Nat) : Int); omega)⟩) (Nat.le_refl _) (Nat.le_refl _) tX_d147
              · have q116_ : ¬ r113.toInt = (0 : Int32).toInt := fun q => q116 (Int32.toInt_inj.mp q)
                refine lv_aload_n hx hb tX_d119 rfl (lv_at hl 1 rfl) ?_
                refine lv_bipush hx hb tX_d120 (v := 48) (by decide) ?_
                refine lv_bipush hx hb tX_d122 (v := 57) (by decide) ?_
                refine y_call (z := (0, 51, 3, some 4, xM63)) (av := [.ref this, .int (48 : Int32), .int (57 : Int32)]) (rest := []) (y_cokV (n := 2) (ci := 7) X ym_passX rfl rfl rfl (x_cons (x_bw36 6 rfl rfl) (x_cons (x_bw36 8 rfl rfl) (x_cons (x_at 9 (by decide +kernel) rfl) (x_cons (x_bw0 5 rfl rfl) x_nilm)))) (x_bw36 9 rfl rfl) (by decide +kernel) ⟨Nat.le_of_ble_eq_true rfl, Nat.le_of_ble_eq_true rfl⟩) hY0 hI rfl tX_d124 hl.1 (Nat.le_of_ble_eq_true rfl) (Nat.le_of_ble_eq_true rfl) (Nat.le_of_ble_eq_true rfl) (y_cons (y_cref hY_this rfl) (y_cons ⟨_, rfl, x_i32 _⟩ (y_cons ⟨_, rfl, x_i32 _⟩ y_nil))) rfl (y_recv rfl hY_this) trivial (y_sub_ef rfl) fun v Yn o Hn L ho hr ha hIn hx_ hE hP => ?_
                have hPp := hP _ _ _ _ _ _ _ rfl hs_by_ hsi_length hsi_tokenEnd hcn hA_by_
                replace hs_by_ := y_Efld hE hY_this rfl (by decide) (by decide) hs_by_
                replace hsi_length := y_Efld hE hY_this rfl (by decide) (by decide) hsi_length
                replace hsi_tokenAt := y_Efld hE hY_this rfl (by decide) (by decide) hsi_tokenAt
                replace hA_by_ := hA_by_.kept (y_Earr hE hY_by_ rfl (by decide))
                replace hY_this := y_ext hx_ hI.1 hY_this
                replace hY_by_ := y_ext hx_ hI.1 hY_by_
                obtain rfl := y_ansV rfl ho hr
                obtain ⟨te124, hsi_tokenEnd, heq_te124, hb_te124, hb2_te124⟩ := hPp
                clear ho hr ha hE hP hI hx_
                rename x_I _ _ _ _ _ _ _ _ _ _ => hI
                refine lv_aload_n hx hb tX_d127 rfl (lv_at hl 1 rfl) ?_
                refine y_getf X (fl132 X.2.2.2.2.1) hI.1 hY_this rfl hsi_tokenEnd tX_d128 ?_
                refine lv_aload_n hx hb tX_d131 rfl (lv_at hl 1 rfl) ?_
                refine y_getf X (fl133 X.2.2.2.2.1) hI.1 hY_this rfl hsi_tokenAt tX_d132 ?_
                refine lv_isub hx hb tX_d135 ?_
                generalize hg_z135 : te124 - ta = z135
                have h_z135 : z135.toInt = te124.toInt - ta.toInt := by rw [← hg_z135]; have := y_sub (x := te124) (y := ta) (by omega) (by omega); exact this
                refine lv_iconst hx hb tX_d136 (v := 2) (by decide) ?_
                have ec2 : (2 : Int32).toInt = 2 := by decide
                refine lv_icmp_gt hx hb tX_d137 (tgt := 144) (by decide) (fun q137 => ?_) (fun q137 => ?_)
                · have q137_ : (2 : Int32).toInt < z135.toInt := x_lt32.mp q137
                  refine lv_iconst hx hb tX_d144 (v := 4) (by decide) ?_
                  have ec4 : (4 : Int32).toInt = 4 := by decide
                  have htk := t_tok_num hat (by omega) (by rw [hg_e77]; exact decide_eq_true (by have h9 := hin_r113 (by assumption); omega))
                  rw [t_di_in, (show ta.toInt.toNat + 1 = z65.toInt.toNat by omega), ← heq_te124] at htk
                  rw [if_neg (by omega)] at htk
                  subst hav
                  exact y_ireturn B hI rfl rfl rfl List.mem_cons_self ⟨_, rfl, ⟨_, rfl, by decide, by decide⟩⟩ (x_cs.mono B.2.2.2.2.2 (y_mon B hI)) (fun t' b' ln' te' fy' h1 h2 h3 h4 h5 h6 => by cases h1; cases h2.symm.trans hs0; cases h3.symm.trans hl0; cases h4.symm.trans he0; cases t_uniq h6 hA0 h5 hcn; exact ⟨_, _, _, rfl, hsi_tokenAt, hsi_tokenEnd, ⟨by decide, by decide⟩, by rw [htk]; rfl, by rw [hat]; omega, fun q9 => by first | exact absurd (by decide) q9 | (rw [htk]; omega) | (rw [htk]; show _ = ((_ + 1 : Nat) : Int); omega)⟩) (Nat.le_refl _) (Nat.le_refl _) tX_d145
                · have q137_ : z135.toInt ≤ (2 : Int32).toInt := Int.not_lt.mp fun q => q137 (x_lt32.mpr q)
                  refine lv_iconst hx hb tX_d140 (v := 2) (by decide) ?_
                  refine lv_goto hx hb tX_d141 (tgt := 145) (by decide) ?_
                  have htk := t_tok_num hat (by omega) (by rw [hg_e77]; exact decide_eq_true (by have h9 := hin_r113 (by assumption); omega))
                  rw [t_di_in, (show ta.toInt.toNat + 1 = z65.toInt.toNat by omega), ← heq_te124] at htk
                  rw [if_pos (by omega)] at htk
                  subst hav
                  exact y_ireturn B hI rfl rfl rfl List.mem_cons_self ⟨_, rfl, ⟨_, rfl, by decide, by decide⟩⟩ (x_cs.mono B.2.2.2.2.2 (y_mon B hI)) (fun t' b' ln' te' fy' h1 h2 h3 h4 h5 h6 => by cases h1; cases h2.symm.trans hs0; cases h3.symm.trans hl0; cases h4.symm.trans he0; cases t_uniq h6 hA0 h5 hcn; exact ⟨_, _, _, rfl, hsi_tokenAt, hsi_tokenEnd, ⟨by decide, by decide⟩, by rw [htk]; rfl, by rw [hat]; omega, fun q9 => by first | exact absurd (by decide) q9 | (rw [htk]; omega) | (rw [htk]; show _ = ((_ + 1 : Nat) : Int); omega)⟩) (Nat.le_refl _) (Nat.le_refl _) tX_d145
            · have q95_ : ¬ r92.toInt = (0 : Int32).toInt := fun q => q95 (Int32.toInt_inj.mp q)
              refine lv_aload_n hx hb tX_d98 rfl (lv_at hl 1 rfl) ?_
              refine lv_bipush hx hb tX_d99 (v := 97) (by decide) ?_
              refine lv_bipush hx hb tX_d101 (v := 122) (by decide) ?_
              refine y_call (z := (0, 51, 3, some 4, xM63)) (av := [.ref this, .int (97 : Int32), .int (122 : Int32)]) (rest := []) (y_cokV (n := 2) (ci := 7) X ym_passX rfl rfl rfl (x_cons (x_bw36 6 rfl rfl) (x_cons (x_bw36 8 rfl rfl) (x_cons (x_at 9 (by decide +kernel) rfl) (x_cons (x_bw0 5 rfl rfl) x_nilm)))) (x_bw36 9 rfl rfl) (by decide +kernel) ⟨Nat.le_of_ble_eq_true rfl, Nat.le_of_ble_eq_true rfl⟩) hY0 hI rfl tX_d103 hl.1 (Nat.le_of_ble_eq_true rfl) (Nat.le_of_ble_eq_true rfl) (Nat.le_of_ble_eq_true rfl) (y_cons (y_cref hY_this rfl) (y_cons ⟨_, rfl, x_i32 _⟩ (y_cons ⟨_, rfl, x_i32 _⟩ y_nil))) rfl (y_recv rfl hY_this) trivial (y_sub_ef rfl) fun v Yn o Hn L ho hr ha hIn hx_ hE hP => ?_
              have hPp := hP _ _ _ _ _ _ _ rfl hs_by_ hsi_length hsi_tokenEnd hcn hA_by_
              replace hs_by_ := y_Efld hE hY_this rfl (by decide) (by decide) hs_by_
              replace hsi_length := y_Efld hE hY_this rfl (by decide) (by decide) hsi_length
              replace hsi_tokenAt := y_Efld hE hY_this rfl (by decide) (by decide) hsi_tokenAt
              replace hA_by_ := hA_by_.kept (y_Earr hE hY_by_ rfl (by decide))
              replace hY_this := y_ext hx_ hI.1 hY_this
              replace hY_by_ := y_ext hx_ hI.1 hY_by_
              obtain rfl := y_ansV rfl ho hr
              obtain ⟨te103, hsi_tokenEnd, heq_te103, hb_te103, hb2_te103⟩ := hPp
              clear ho hr ha hE hP hI hx_
              rename x_I _ _ _ _ _ _ _ _ _ _ => hI
              refine lv_iconst hx hb tX_d106 (v := 1) (by decide) ?_
              have htk := t_tok_word hat (by omega) (by rw [hg_e77]; exact decide_eq_true (by have h9 := hin_r92 (by assumption); omega))
              rw [t_lo_in, (show ta.toInt.toNat + 1 = z65.toInt.toNat by omega), ← heq_te103] at htk
              subst hav
              exact y_ireturn B hI rfl rfl rfl List.mem_cons_self ⟨_, rfl, ⟨_, rfl, by decide, by decide⟩⟩ (x_cs.mono B.2.2.2.2.2 (y_mon B hI)) (fun t' b' ln' te' fy' h1 h2 h3 h4 h5 h6 => by cases h1; cases h2.symm.trans hs0; cases h3.symm.trans hl0; cases h4.symm.trans he0; cases t_uniq h6 hA0 h5 hcn; exact ⟨_, _, _, rfl, hsi_tokenAt, hsi_tokenEnd, ⟨by decide, by decide⟩, by rw [htk]; rfl, by rw [hat]; omega, fun q9 => by first | exact absurd (by decide) q9 | (rw [htk]; omega) | (rw [htk]; show _ = ((_ + 1 : Nat) : Int); omega)⟩) (Nat.le_refl _) (Nat.le_refl _) tX_d107
          · have q82_ : e77.toInt = (59 : Int32).toInt := by rw [q82]
            refine lv_iconst hx hb tX_d85 (v := 3) (by decide) ?_
            have ec3 : (3 : Int32).toInt = 3 := by decide
            have htk := t_tok_stop hat (by omega) (by rw [hg_e77]; omega)
            rw [(show ta.toInt.toNat + 1 = z65.toInt.toNat by omega)] at htk
            subst hav
            exact y_ireturn B hI rfl rfl rfl List.mem_cons_self ⟨_, rfl, ⟨_, rfl, by decide, by decide⟩⟩ (x_cs.mono B.2.2.2.2.2 (y_mon B hI)) (fun t' b' ln' te' fy' h1 h2 h3 h4 h5 h6 => by cases h1; cases h2.symm.trans hs0; cases h3.symm.trans hl0; cases h4.symm.trans he0; cases t_uniq h6 hA0 h5 hcn; exact ⟨_, _, _, rfl, hsi_tokenAt, hsi_tokenEnd, ⟨by decide, by decide⟩, by rw [htk]; rfl, by rw [hat]; omega, fun q9 => by first | exact absurd (by decide) q9 | (rw [htk]; omega) | (rw [htk]; show _ = ((_ + 1 : Nat) : Int); omega)⟩) (Nat.le_refl _) (Nat.le_refl _) tX_d86
        · have q54_ : ln.toInt ≤ ta.toInt := Int.not_lt.mp fun q => q54 (x_lt32.mpr q)
          refine lv_iconst hx hb tX_d57 (v := 0) (by decide) ?_
          have ec0 : (0 : Int32).toInt = 0 := by decide
          have htk := t_tok_end hat (by omega)
          subst hav
          exact y_ireturn B hI rfl rfl rfl List.mem_cons_self ⟨_, rfl, ⟨_, rfl, by decide, by decide⟩⟩ (x_cs.mono B.2.2.2.2.2 (y_mon B hI)) (fun t' b' ln' te' fy' h1 h2 h3 h4 h5 h6 => by cases h1; cases h2.symm.trans hs0; cases h3.symm.trans hl0; cases h4.symm.trans he0; cases t_uniq h6 hA0 h5 hcn; exact ⟨_, _, _, rfl, hsi_tokenAt, hsi_tokenEnd, ⟨by decide, by decide⟩, by rw [htk]; rfl, by rw [hat]; omega, fun q9 => by first | exact absurd (by decide) q9 | (rw [htk]; omega) | (rw [htk]; show _ = ((_ + 1 : Nat) : Int); omega)⟩) (Nat.le_refl _) (Nat.le_refl _) tX_d58
      · have q30_ : e27.toInt = (32 : Int32).toInt := by rw [q30]
        refine lv_aload_n hx hb tX_d33 rfl (lv_at hl 0 rfl) ?_
        refine lv_dup hx hb tX_d34 rfl ?_
        refine y_getf X (fl133 X.2.2.2.2.1) hI.1 hY_this rfl hsi_tokenAt tX_d35 ?_
        refine lv_iconst hx hb tX_d38 (v := 1) (by decide) ?_
        have ec1 : (1 : Int32).toInt = 1 := by decide
        refine lv_iadd hx hb tX_d39 ?_
        generalize hg_z39 : ta + (1 : Int32) = z39
        have h_z39 : z39.toInt = ta.toInt + 1 := by rw [← hg_z39]; have := y_add (x := ta) (y := (1 : Int32)) (by rw [ec1]; omega) (by rw [ec1]; omega); rw [ec1] at this; exact this
        refine y_putf X (fw134 X.2.2.2.2.1) hY0 hI hY_this rfl rfl ⟨_, rfl, by show (0 : Int) ≤ _; omega, by show _ ≤ (240 : Int); omega⟩ (by decide +kernel) tX_d40 fun H sl hI ho hs hk => ?_
        replace hs_by_ := hk _ _ (by decide +kernel) (by decide) hs_by_
        replace hsi_length := hk _ _ (by decide +kernel) (by decide) hsi_length
        replace hsi_tokenEnd := hk _ _ (by decide +kernel) (by decide) hsi_tokenEnd
        replace hA_by_ := hA_by_.kept (ho _ (y_ne hY_by_ hY_this rfl))
        replace hs := hs
        replace hsi_tokenAt := hs
        refine lv_goto hx hb tX_d43 (tgt := 8) (by decide) ?_
        exact ih _ _ _ _ _ hI hY_this hY_by_ hs_by_ hsi_length hsi_tokenAt hsi_tokenEnd hA_by_ (lv_sub hl [0] rfl) (by first | assumption | omega) (hps.trans ((t_pass_step (by omega) (decide_eq_true (by rw [hg_e27]; omega))).trans (by rw [show ta.toInt.toNat + 1 = z39.toInt.toNat by omega]))) (by omega)
theorem ym_tokX : y_Met vwCl x_G x_Zs x_Tb x_Nb xM64 z_AntX z_PntX := by
  refine y_main (by decide +kernel) (by decide +kernel) x_Tb_good x_Nb_ok ?_
  intro p l e s m below meth c D U Y0 av ls B hI hpre hl
  have X := B.1
  have hx := X.1
  have hb := X.2.1
  have hY0 := B.2.2.2.2.1
  obtain ⟨v0, rfl, hv0⟩ := x_one B.2.2.2.2.2
  obtain ⟨this, t0, rfl, ht0, hY_this⟩ := x_ref_at hv0 rfl
  obtain rfl := List.mem_singleton.mp ht0
  replace hl : lv_has ls xM64.2.2.1 [(0, .ref this)] := hl
  obtain ⟨by_, hs_by_, hY_by_⟩ := y_fldR (k := 0) hI.1 hY_this rfl rfl
  obtain ⟨fy9, hA9, -⟩ := y_arr hI.1 hY_by_ rfl rfl
  obtain ⟨fy, hcn, hA_by_⟩ := t_canon hA9
  clear hA9 fy9
  have hs0 := hs_by_
  have hA0 := hA_by_
  obtain ⟨ln, hsi_length, hln⟩ := y_fldI (k := 2) hI.1 hY_this rfl rfl
  replace hln : (0 : Int) ≤ ln.toInt ∧ ln.toInt ≤ 240 := hln
  have hl0 := hsi_length
  obtain ⟨te, hsi_tokenEnd, hte⟩ := y_fldI (k := 4) hI.1 hY_this rfl rfl
  replace hte : (0 : Int) ≤ te.toInt ∧ te.toInt ≤ 240 := hte
  have he0 := hsi_tokenEnd
  have hle := hpre _ _ _ rfl hl0 he0
  refine lv_aload_n hx hb tX_d0 rfl (lv_at hl 0 rfl) ?_
  refine lv_aload_n hx hb tX_d1 rfl (lv_at hl 0 rfl) ?_
  refine y_getf X (fl132 X.2.2.2.2.1) hI.1 hY_this rfl hsi_tokenEnd tX_d2 ?_
  refine y_putf X (fw134 X.2.2.2.2.1) hY0 hI hY_this rfl rfl ⟨_, rfl, by show (0 : Int) ≤ _; omega, by show _ ≤ (240 : Int); omega⟩ (by decide +kernel) tX_d5 fun H sl hI ho hs hk => ?_
  replace hs_by_ := hk _ _ (by decide +kernel) (by decide) hs_by_
  replace hsi_length := hk _ _ (by decide +kernel) (by decide) hsi_length
  replace hsi_tokenEnd := hk _ _ (by decide +kernel) (by decide) hsi_tokenEnd
  replace hA_by_ := hA_by_.kept (ho _ (y_ne hY_by_ hY_this rfl))
  replace hs := hs
  have hs5 := hs
  have hsi_tokenAt := hs5
  exact tX_L8 B rfl hs0 hl0 he0 hcn hA0 hln hte hle 242 _ _ _ _ _ hI hY_this hY_by_ hs_by_ hsi_length hsi_tokenAt hsi_tokenEnd hA_by_ (lv_sub hl [0] rfl) (by first | assumption | omega) rfl (by omega)
def t_ni (t : Nat → Int32) (n p : Nat) (r te1 : Int32) (fn : Nat → Int32) : Prop := ((t_nx t n p).1 = 0 → r = -1) ∧ ((t_nx t n p).1 = 2 → r.toInt = -10 - ((t_nx t n p).2 : Int)) ∧ ((t_nx t n p).1 = 1 → r.toInt = t_it t n p ∧ te1.toInt = (t_nx t n p).2 ∧ ∀ i, i < 4 → (fn i).toInt = t_arg t n p i)
def z_PniX : yP := fun D av _ H v _ H' => ∀ (this by_ nu : Nat) (ln te : Int32) (fy : Nat → Int32), av = [.ref this] → x_sl D 7 0 this H = some (.ref by_) → x_sl D 7 1 this H = some (.ref nu) → x_sl D 7 2 this H = some (.int ln) → x_sl D 7 4 this H = some (.int te) → t_c fy → y_A by_ 240 H fy → ∃ (r te1 : Int32) (fn : Nat → Int32), v = some (.int r) ∧ x_sl D 7 4 this H' = some (.int te1) ∧ y_A nu 4 H' fn ∧ t_ni fy ln.toInt.toNat te.toInt.toNat r te1 fn
theorem t_zn : ∀ k, k < 10 → (x_zv 45 k).toInt = t_NUM.getD k 0 := by decide
theorem xX_d0 : decode xMni.2.1 0 = .ok (.aload_n 0, 1) := dz_ok (by decide +kernel)
theorem xX_d1 : decode xMni.2.1 1 = .ok (.invokevirtual 29, 3) := dz_ok (by decide +kernel)
theorem xX_d4 : decode xMni.2.1 4 = .ok (.istore_n 1, 1) := dz_ok (by decide +kernel)
theorem xX_d5 : decode xMni.2.1 5 = .ok (.iload_n 1, 1) := dz_ok (by decide +kernel)
theorem xX_d6 : decode xMni.2.1 6 = .ok (.ifCond .ne 5, 3) := dz_ok (by decide +kernel)
theorem xX_d9 : decode xMni.2.1 9 = .ok (.iconst (-1), 1) := dz_ok (by decide +kernel)
theorem xX_d10 : decode xMni.2.1 10 = .ok (.ireturn, 1) := dz_ok (by decide +kernel)
theorem xX_d11 : decode xMni.2.1 11 = .ok (.iload_n 1, 1) := dz_ok (by decide +kernel)
theorem xX_d12 : decode xMni.2.1 12 = .ok (.iconst 1, 1) := dz_ok (by decide +kernel)
theorem xX_d13 : decode xMni.2.1 13 = .ok (.if_icmp .ne 10, 3) := dz_ok (by decide +kernel)
theorem xX_d16 : decode xMni.2.1 16 = .ok (.aload_n 0, 1) := dz_ok (by decide +kernel)
theorem xX_d17 : decode xMni.2.1 17 = .ok (.invokevirtual 33, 3) := dz_ok (by decide +kernel)
theorem xX_d20 : decode xMni.2.1 20 = .ok (.goto 4, 3) := dz_ok (by decide +kernel)
theorem xX_d23 : decode xMni.2.1 23 = .ok (.iconst (-1), 1) := dz_ok (by decide +kernel)
theorem xX_d24 : decode xMni.2.1 24 = .ok (.istore_n 2, 1) := dz_ok (by decide +kernel)
theorem xX_d25 : decode xMni.2.1 25 = .ok (.iload_n 2, 1) := dz_ok (by decide +kernel)
theorem xX_d26 : decode xMni.2.1 26 = .ok (.iconst (-1), 1) := dz_ok (by decide +kernel)
theorem xX_d27 : decode xMni.2.1 27 = .ok (.if_icmp .ne 11, 3) := dz_ok (by decide +kernel)
theorem xX_d30 : decode xMni.2.1 30 = .ok (.bipush (-10), 2) := dz_ok (by decide +kernel)
theorem xX_d32 : decode xMni.2.1 32 = .ok (.aload_n 0, 1) := dz_ok (by decide +kernel)
theorem xX_d33 : decode xMni.2.1 33 = .ok (.getfield 36, 3) := dz_ok (by decide +kernel)
theorem xX_d36 : decode xMni.2.1 36 = .ok (.isub, 1) := dz_ok (by decide +kernel)
theorem xX_d37 : decode xMni.2.1 37 = .ok (.ireturn, 1) := dz_ok (by decide +kernel)
theorem xX_d38 : decode xMni.2.1 38 = .ok (.aload_n 0, 1) := dz_ok (by decide +kernel)
theorem xX_d39 : decode xMni.2.1 39 = .ok (.getfield 15, 3) := dz_ok (by decide +kernel)
theorem xX_d42 : decode xMni.2.1 42 = .ok (.iconst 0, 1) := dz_ok (by decide +kernel)
theorem xX_d43 : decode xMni.2.1 43 = .ok (.invokestatic 39, 3) := dz_ok (by decide +kernel)
theorem xX_d46 : decode xMni.2.1 46 = .ok (.iconst 0, 1) := dz_ok (by decide +kernel)
theorem xX_d47 : decode xMni.2.1 47 = .ok (.istore_n 3, 1) := dz_ok (by decide +kernel)
theorem xX_d48 : decode xMni.2.1 48 = .ok (.iload_n 3, 1) := dz_ok (by decide +kernel)
theorem xX_d49 : decode xMni.2.1 49 = .ok (.getstatic 45, 3) := dz_ok (by decide +kernel)
theorem xX_d52 : decode xMni.2.1 52 = .ok (.iload_n 2, 1) := dz_ok (by decide +kernel)
theorem xX_d53 : decode xMni.2.1 53 = .ok (.iaload, 1) := dz_ok (by decide +kernel)
theorem xX_d54 : decode xMni.2.1 54 = .ok (.if_icmp .ge 35, 3) := dz_ok (by decide +kernel)
theorem xX_d57 : decode xMni.2.1 57 = .ok (.aload_n 0, 1) := dz_ok (by decide +kernel)
theorem xX_d58 : decode xMni.2.1 58 = .ok (.invokevirtual 29, 3) := dz_ok (by decide +kernel)
theorem xX_d61 : decode xMni.2.1 61 = .ok (.iconst 2, 1) := dz_ok (by decide +kernel)
theorem xX_d62 : decode xMni.2.1 62 = .ok (.if_icmp .eq 11, 3) := dz_ok (by decide +kernel)
theorem xX_d65 : decode xMni.2.1 65 = .ok (.bipush (-10), 2) := dz_ok (by decide +kernel)
theorem xX_d67 : decode xMni.2.1 67 = .ok (.aload_n 0, 1) := dz_ok (by decide +kernel)
theorem xX_d68 : decode xMni.2.1 68 = .ok (.getfield 36, 3) := dz_ok (by decide +kernel)
theorem xX_d71 : decode xMni.2.1 71 = .ok (.isub, 1) := dz_ok (by decide +kernel)
theorem xX_d72 : decode xMni.2.1 72 = .ok (.ireturn, 1) := dz_ok (by decide +kernel)
theorem xX_d73 : decode xMni.2.1 73 = .ok (.aload_n 0, 1) := dz_ok (by decide +kernel)
theorem xX_d74 : decode xMni.2.1 74 = .ok (.getfield 15, 3) := dz_ok (by decide +kernel)
theorem xX_d77 : decode xMni.2.1 77 = .ok (.iload_n 3, 1) := dz_ok (by decide +kernel)
theorem xX_d78 : decode xMni.2.1 78 = .ok (.aload_n 0, 1) := dz_ok (by decide +kernel)
theorem xX_d79 : decode xMni.2.1 79 = .ok (.invokevirtual 48, 3) := dz_ok (by decide +kernel)
theorem xX_d82 : decode xMni.2.1 82 = .ok (.iastore, 1) := dz_ok (by decide +kernel)
theorem xX_d83 : decode xMni.2.1 83 = .ok (.iinc 3 1, 3) := dz_ok (by decide +kernel)
theorem xX_d86 : decode xMni.2.1 86 = .ok (.goto (-38), 3) := dz_ok (by decide +kernel)
theorem xX_d89 : decode xMni.2.1 89 = .ok (.aload_n 0, 1) := dz_ok (by decide +kernel)
theorem xX_d90 : decode xMni.2.1 90 = .ok (.invokevirtual 29, 3) := dz_ok (by decide +kernel)
theorem xX_d93 : decode xMni.2.1 93 = .ok (.iconst 3, 1) := dz_ok (by decide +kernel)
theorem xX_d94 : decode xMni.2.1 94 = .ok (.if_icmp .ne 7, 3) := dz_ok (by decide +kernel)
theorem xX_d97 : decode xMni.2.1 97 = .ok (.iload_n 2, 1) := dz_ok (by decide +kernel)
theorem xX_d98 : decode xMni.2.1 98 = .ok (.goto 10, 3) := dz_ok (by decide +kernel)
theorem xX_d101 : decode xMni.2.1 101 = .ok (.bipush (-10), 2) := dz_ok (by decide +kernel)
theorem xX_d103 : decode xMni.2.1 103 = .ok (.aload_n 0, 1) := dz_ok (by decide +kernel)
theorem xX_d104 : decode xMni.2.1 104 = .ok (.getfield 36, 3) := dz_ok (by decide +kernel)
theorem xX_d107 : decode xMni.2.1 107 = .ok (.isub, 1) := dz_ok (by decide +kernel)
theorem xX_d108 : decode xMni.2.1 108 = .ok (.ireturn, 1) := dz_ok (by decide +kernel)
theorem xX_L48 {p : Program} {l : Launch} {e : Env} {s : State} {m : MethodId} {below : List Frame} {meth : Method} {c : Code} {D : va_G} {U : State} {Y0 : xY} {av : List Value} (B : y_B vwCl x_Tb x_Nb xMni p s m meth c D U Y0 av) {this by_ nu : Nat} {ln te : Int32} {fy : Nat → Int32} (hav : av = [.ref this]) (hs0 : x_sl D 7 0 this s.heap = some (.ref by_)) (hn0 : x_sl D 7 1 this s.heap = some (.ref nu)) (hl0 : x_sl D 7 2 this s.heap = some (.int ln)) (he0 : x_sl D 7 4 this s.heap = some (.int te)) (hcn : t_c fy) (hA0 : y_A by_ 240 s.heap fy) (hln : 0 ≤ ln.toInt ∧ ln.toInt ≤ 240) (hte : 0 ≤ te.toInt ∧ te.toInt ≤ 240) (hle : te.toInt ≤ ln.toInt) {item tok : Int32} (hit : 0 ≤ item.toInt ∧ item.toInt ≤ 9) (hitm : item.toInt = t_it fy ln.toInt.toNat te.toInt.toNat) (hwd : (t_tok fy ln.toInt.toNat te.toInt.toNat).1 = 1)  :
    ∀ (n : Nat), ∀ (H : Heap) (Y : xY) (locs : List Loc) (ls : Array Slot) (k : Int32) (tk : Int32) (fn : Nat → Int32), x_I D x_G x_Zs U (x_efs xMni) Y0 s.heap Y H locs → Y this = some 4 → Y by_ = some 39 → Y nu = some 40 → x_sl D 7 0 this H = some (.ref by_) → x_sl D 7 1 this H = some (.ref nu) → x_sl D 7 2 this H = some (.int ln) → x_sl D 7 4 this H = some (.int tk) → y_A by_ 240 H fy → y_A nu 4 H fn → lv_has ls xMni.2.2.1 [(3, .int k), (2, .int item), (1, .int tok), (0, .ref this)] → (0 ≤ k.toInt ∧ k.toInt.toNat ≤ t_cnt fy ln.toInt.toNat te.toInt.toNat) → (tk.toInt = t_ap fy ln.toInt.toNat k.toInt.toNat (t_tok fy ln.toInt.toNat te.toInt.toNat).2) → (0 ≤ tk.toInt ∧ tk.toInt ≤ ln.toInt) → (t_args fy ln.toInt.toNat (t_cnt fy ln.toInt.toNat te.toInt.toNat) (t_tok fy ln.toInt.toNat te.toInt.toNat).2 = t_args fy ln.toInt.toNat (t_cnt fy ln.toInt.toNat te.toInt.toNat - k.toInt.toNat) tk.toInt.toNat) → (∀ j, j < 4 → (fn j).toInt = if (j : Int) < k.toInt then t_v fy ln.toInt.toNat (t_ap fy ln.toInt.toNat j (t_tok fy ln.toInt.toNat te.toInt.toNat).2) else 0) → (5 - k.toInt).toNat < n → W p l e (x_rm xMni) s m av.toArray below meth c H locs 0 0 (y_QQ below D x_G x_Zs U xMni z_PniX av Y0 s) (F0 m 48 ls []) := by
  have X := B.1
  have hx := X.1
  have hb := X.2.1
  have hY0 := B.2.2.2.2.1
  intro n
  induction n with
  | zero => intro _ _ _ _ _ _ _ _ _ _ _ _ _ _ _ _ _ _ _ _ _ _ _ h; exact absurd h (Nat.not_lt_zero _)
  | succ n ih =>
    intro H Y locs ls k tk fn hI hY_this hY_by_ hY_nu hs_by_ hs_nu hsi_length hsi_tokenEnd hA_by_ hA_nu hl hk htk htl har hfn hn
    have htlk := t_tok_le (t := fy) (n := ln.toInt.toNat) (p := tk.toInt.toNat) (by omega)
    refine lv_iload_n hx hb xX_d48 rfl (lv_at hl 0 rfl) ?_
    refine z_getsV (z := x_Zs[2]) X (List.mem_of_getElem? (i := 2) rfl) (X.2.2.2.2.1 _ (x_bw41 0 rfl rfl)) hI.1 xX_d49 fun bNu fNu hTNu hVNu => ?_
    refine lv_iload_n hx hb xX_d52 rfl (lv_at hl 1 rfl) ?_
    refine z_tld X hTNu (by omega) (by show _ < (10 : Int); omega) xX_d53 ?_
    obtain ⟨c9, hg_c9⟩ : ∃ c9 : Int32, fNu item.toInt.toNat = c9 := ⟨_, rfl⟩
    rw [hg_c9]
    have h_c9 : c9.toInt = t_cnt fy ln.toInt.toNat te.toInt.toNat := by rw [← hg_c9, hVNu _ (by show _ < 10; omega)]; unfold t_cnt; rw [← t_zn _ (by omega)]; show (x_zv 45 item.toInt.toNat).toInt = _; rw [show item.toInt.toNat = t_it fy ln.toInt.toNat te.toInt.toNat by omega]
    have h_c4 := t_cnt4 (t := fy) (n := ln.toInt.toNat) (p := te.toInt.toNat)
    refine lv_icmp_ge hx hb xX_d54 (tgt := 89) (by decide) (fun q54 => ?_) (fun q54 => ?_)
    · have q54_ : c9.toInt ≤ k.toInt := x_le32.mp q54
      refine lv_aload_n hx hb xX_d89 rfl (lv_at hl 3 rfl) ?_
      refine y_call (z := (0, 29, 1, some 4, xM64)) (av := [.ref this]) (rest := []) (y_cokV (n := 0) (ci := 7) X ym_tokX rfl rfl rfl (x_cons (x_bw36 2 rfl rfl) (x_cons (x_bw36 4 rfl rfl) (x_cons (x_at 8 (by decide +kernel) rfl) (x_cons (x_bw0 5 rfl rfl) x_nilm)))) (x_bw36 5 rfl rfl) (by decide +kernel) ⟨Nat.le_of_ble_eq_true rfl, Nat.le_of_ble_eq_true rfl⟩) hY0 hI rfl xX_d90 hl.1 (Nat.le_of_ble_eq_true rfl) (Nat.le_of_ble_eq_true rfl) (Nat.le_of_ble_eq_true rfl) (y_cons (y_cref hY_this rfl) y_nil) rfl (y_recv rfl hY_this) (fun t' ln' te' h1 h2 h3 => by cases h1; cases h2.symm.trans hsi_length; cases h3.symm.trans hsi_tokenEnd; omega) (y_sub_ef rfl) fun v Yn o Hn L ho hr ha hIn hx_ hE hP => ?_
      have hPk := hP _ _ _ _ _ rfl hs_by_ hsi_length hsi_tokenEnd hcn hA_by_
      replace hs_by_ := y_Efld hE hY_this rfl (by decide) (by decide) hs_by_
      replace hs_nu := y_Efld hE hY_this rfl (by decide) (by decide) hs_nu
      replace hsi_length := y_Efld hE hY_this rfl (by decide) (by decide) hsi_length
      replace hA_by_ := hA_by_.kept (y_Earr hE hY_by_ rfl (by decide))
      replace hA_nu := hA_nu.kept (y_Earr hE hY_nu rfl (by decide))
      replace hY_this := y_ext hx_ hI.1 hY_this
      replace hY_by_ := y_ext hx_ hI.1 hY_by_
      replace hY_nu := y_ext hx_ hI.1 hY_nu
      obtain ⟨r90, ta90, te90, rfl, hsi_tokenAt, hsi_tokenEnd, hrb90, hk90, hat90, hte90⟩ := hPk
      clear ho hr ha hE hP hI hx_
      rename x_I _ _ _ _ _ _ _ _ _ _ => hI
      refine lv_iconst hx hb xX_d93 (v := 3) (by decide) ?_
      have ec3 : (3 : Int32).toInt = 3 := by decide
      refine lv_icmp_ne hx hb xX_d94 (tgt := 101) (by decide) (fun q94 => ?_) (fun q94 => ?_)
      · have q94_ : ¬ r90.toInt = (3 : Int32).toInt := fun q => q94 (Int32.toInt_inj.mp q)
        refine lv_bipush hx hb xX_d101 (v := (-10)) (by decide) ?_
        have ecm10 : ((-10) : Int32).toInt = (-10) := by decide
        refine lv_aload_n hx hb xX_d103 rfl (lv_at hl 3 rfl) ?_
        refine y_getf X (fl133 X.2.2.2.2.1) hI.1 hY_this rfl hsi_tokenAt xX_d104 ?_
        refine lv_isub hx hb xX_d107 ?_
        generalize hg_z107 : ((-10) : Int32) - ta90 = z107
        have h_z107 : z107.toInt = (-10) - ta90.toInt := by rw [← hg_z107]; have := y_sub (x := ((-10) : Int32)) (y := ta90) (by rw [ecm10]; omega) (by rw [ecm10]; omega); rw [ecm10] at this; exact this
        have hnx0 := t_nx_it (t := fy) (n := ln.toInt.toNat) (p := te.toInt.toNat) ⟨hwd, by omega⟩
        have hnx9 : t_nx fy ln.toInt.toNat te.toInt.toNat = (2, t_at fy ln.toInt.toNat tk.toInt.toNat) := by rw [hnx0, har, show t_cnt fy ln.toInt.toNat te.toInt.toNat - k.toInt.toNat = 0 by omega]; exact t_args_0F (by rw [hk90]; omega)
        subst hav
        exact y_ireturn B hI rfl rfl rfl List.mem_cons_self ⟨_, rfl, ⟨_, rfl, x_i32 _⟩⟩ (x_cs.mono B.2.2.2.2.2 (y_mon B hI)) (fun t' b' nu' ln' te' fy' h1 h2 h3 h4 h5 h6 h7 => by cases h1; cases h2.symm.trans hs0; cases h3.symm.trans hn0; cases h4.symm.trans hl0; cases h5.symm.trans he0; cases t_uniq h7 hA0 h6 hcn; exact ⟨_, _, _, rfl, hsi_tokenEnd, hA_nu, ⟨fun q9 => by rw [hnx9] at q9; exact absurd (show (2 : Nat) = 0 from q9) (by decide), fun q9 => by rw [hnx9]; show _ = -10 - ((t_at _ _ _ : Nat) : Int); omega, fun q9 => by rw [hnx9] at q9; exact absurd (show (2 : Nat) = 1 from q9) (by decide)⟩⟩) (Nat.le_refl _) (Nat.le_refl _) xX_d108
      · have q94_ : r90.toInt = (3 : Int32).toInt := by rw [q94]
        refine lv_iload_n hx hb xX_d97 rfl (lv_at hl 1 rfl) ?_
        refine lv_goto hx hb xX_d98 (tgt := 108) (by decide) ?_
        have hnx0 := t_nx_it (t := fy) (n := ln.toInt.toNat) (p := te.toInt.toNat) ⟨hwd, by omega⟩
        have hnx9 : t_nx fy ln.toInt.toNat te.toInt.toNat = (1, (t_tok fy ln.toInt.toNat tk.toInt.toNat).2) := by rw [hnx0, har, show t_cnt fy ln.toInt.toNat te.toInt.toNat - k.toInt.toNat = 0 by omega]; exact t_args_0 (by rw [hk90]; omega)
        subst hav
        exact y_ireturn B hI rfl rfl rfl List.mem_cons_self ⟨_, rfl, ⟨_, rfl, x_i32 _⟩⟩ (x_cs.mono B.2.2.2.2.2 (y_mon B hI)) (fun t' b' nu' ln' te' fy' h1 h2 h3 h4 h5 h6 h7 => by cases h1; cases h2.symm.trans hs0; cases h3.symm.trans hn0; cases h4.symm.trans hl0; cases h5.symm.trans he0; cases t_uniq h7 hA0 h6 hcn; exact ⟨_, _, _, rfl, hsi_tokenEnd, hA_nu, ⟨fun q9 => by rw [hnx9] at q9; exact absurd (show (1 : Nat) = 0 from q9) (by decide), fun q9 => by rw [hnx9] at q9; exact absurd (show (1 : Nat) = 2 from q9) (by decide), fun _ => ⟨hitm, by rw [hnx9]; exact hte90 (by omega), fun i hi => by rw [hfn i hi]; unfold t_arg; by_cases hik : (i : Int) < k.toInt; (rw [if_pos hik, if_pos (by omega)]); rw [if_neg hik, if_neg (by omega)]⟩⟩⟩) (Nat.le_refl _) (Nat.le_refl _) xX_d108
    · have q54_ : k.toInt < c9.toInt := Int.not_le.mp fun q => q54 (x_le32.mpr q)
      refine lv_aload_n hx hb xX_d57 rfl (lv_at hl 3 rfl) ?_
      refine y_call (z := (0, 29, 1, some 4, xM64)) (av := [.ref this]) (rest := []) (y_cokV (n := 0) (ci := 7) X ym_tokX rfl rfl rfl (x_cons (x_bw36 2 rfl rfl) (x_cons (x_bw36 4 rfl rfl) (x_cons (x_at 8 (by decide +kernel) rfl) (x_cons (x_bw0 5 rfl rfl) x_nilm)))) (x_bw36 5 rfl rfl) (by decide +kernel) ⟨Nat.le_of_ble_eq_true rfl, Nat.le_of_ble_eq_true rfl⟩) hY0 hI rfl xX_d58 hl.1 (Nat.le_of_ble_eq_true rfl) (Nat.le_of_ble_eq_true rfl) (Nat.le_of_ble_eq_true rfl) (y_cons (y_cref hY_this rfl) y_nil) rfl (y_recv rfl hY_this) (fun t' ln' te' h1 h2 h3 => by cases h1; cases h2.symm.trans hsi_length; cases h3.symm.trans hsi_tokenEnd; omega) (y_sub_ef rfl) fun v Yn o Hn L ho hr ha hIn hx_ hE hP => ?_
      have hPk := hP _ _ _ _ _ rfl hs_by_ hsi_length hsi_tokenEnd hcn hA_by_
      replace hs_by_ := y_Efld hE hY_this rfl (by decide) (by decide) hs_by_
      replace hs_nu := y_Efld hE hY_this rfl (by decide) (by decide) hs_nu
      replace hsi_length := y_Efld hE hY_this rfl (by decide) (by decide) hsi_length
      replace hA_by_ := hA_by_.kept (y_Earr hE hY_by_ rfl (by decide))
      replace hA_nu := hA_nu.kept (y_Earr hE hY_nu rfl (by decide))
      replace hY_this := y_ext hx_ hI.1 hY_this
      replace hY_by_ := y_ext hx_ hI.1 hY_by_
      replace hY_nu := y_ext hx_ hI.1 hY_nu
      obtain ⟨r58, ta58, te58, rfl, hsi_tokenAt, hsi_tokenEnd, hrb58, hk58, hat58, hte58⟩ := hPk
      clear ho hr ha hE hP hI hx_
      rename x_I _ _ _ _ _ _ _ _ _ _ => hI
      refine lv_iconst hx hb xX_d61 (v := 2) (by decide) ?_
      have ec2 : (2 : Int32).toInt = 2 := by decide
      refine lv_icmp_eq hx hb xX_d62 (tgt := 73) (by decide) (fun q62 => ?_) (fun q62 => ?_)
      · have q62_ : r58.toInt = (2 : Int32).toInt := by rw [q62]
        refine lv_aload_n hx hb xX_d73 rfl (lv_at hl 3 rfl) ?_
        refine y_getf X (fl_xX_240 X.2.2.2.2.1) hI.1 hY_this rfl hs_nu xX_d74 ?_
        refine lv_iload_n hx hb xX_d77 rfl (lv_at hl 0 rfl) ?_
        refine lv_aload_n hx hb xX_d78 rfl (lv_at hl 3 rfl) ?_
        have htl9 := t_tok_le (t := fy) (n := ln.toInt.toNat) (p := tk.toInt.toNat) (by omega)
        have hk2 : (t_tok fy ln.toInt.toNat tk.toInt.toNat).1 = 2 := by rw [hk58]; omega
        have hte9 := hte58 (by omega)
        have hdg9 := t_tok_dig hk2
        have hdig : ta58.toInt ≤ te58.toInt ∧ te58.toInt - ta58.toInt ≤ 2 ∧ ∀ j : Nat, ta58.toInt ≤ j → (j : Int) < te58.toInt → 48 ≤ (fy j).toInt ∧ (fy j).toInt ≤ 57 := ⟨by omega, by omega, fun j j1 j2 => hdg9.2 j (by omega) (by omega)⟩
        refine y_call (z := (0, 48, 1, some 4, xM65)) (av := [.ref this]) (rest := [.int k, .ref nu]) (y_cokV (n := 0) (ci := 7) X ym_numX rfl rfl rfl (x_cons (x_bw41 2 rfl rfl) (x_cons (x_bw41 4 rfl rfl) (x_cons (x_at 12 (by decide +kernel) rfl) (x_cons (x_bw0 5 rfl rfl) x_nilm)))) (x_bw41 5 rfl rfl) (by decide +kernel) ⟨Nat.le_of_ble_eq_true rfl, Nat.le_of_ble_eq_true rfl⟩) hY0 hI rfl xX_d79 hl.1 (Nat.le_of_ble_eq_true rfl) (Nat.le_of_ble_eq_true rfl) (Nat.le_of_ble_eq_true rfl) (y_cons (y_cref hY_this rfl) y_nil) rfl (y_recv rfl hY_this) (fun t' b' ta' te' fy' h1 h2 h3 h4 h5 h6 => by cases h1; cases h2.symm.trans hs_by_; cases h3.symm.trans hsi_tokenAt; cases h4.symm.trans hsi_tokenEnd; cases t_uniq h6 hA_by_ h5 hcn; exact hdig) (y_sub_ef rfl) fun v Yn o Hn L ho hr ha hIn hx_ hE hP => ?_
        have hPn := hP _ _ _ _ _ rfl hs_by_ hsi_tokenAt hsi_tokenEnd hcn hA_by_
        replace hs_by_ := y_Efld hE hY_this rfl (by decide) (by decide) hs_by_
        replace hs_nu := y_Efld hE hY_this rfl (by decide) (by decide) hs_nu
        replace hsi_length := y_Efld hE hY_this rfl (by decide) (by decide) hsi_length
        replace hsi_tokenEnd := y_Efld hE hY_this rfl (by decide) (by decide) hsi_tokenEnd
        replace hsi_tokenAt := y_Efld hE hY_this rfl (by decide) (by decide) hsi_tokenAt
        replace hA_by_ := hA_by_.kept (y_Earr hE hY_by_ rfl (by decide))
        replace hA_nu := hA_nu.kept (y_Earr hE hY_nu rfl (by decide))
        replace hY_this := y_ext hx_ hI.1 hY_this
        replace hY_by_ := y_ext hx_ hI.1 hY_by_
        replace hY_nu := y_ext hx_ hI.1 hY_nu
        obtain ⟨r79, rfl, hnum⟩ := hPn
        clear ho hr ha hE hP hI hx_
        rename x_I _ _ _ _ _ _ _ _ _ _ => hI
        refine y_iast X hY0 hI hY_nu rfl hA_nu (by omega) (by show _ < (4 : Int); omega) ⟨_, rfl, x_i32 _⟩ (by decide +kernel) xX_d82 fun H locs hI h_new ho => ?_
        replace hA_nu := h_new
        generalize hf_f82 : y_up fn k.toInt.toNat r79 = f82 at hA_nu
        replace hs_by_ := y_slk hs_by_ (ho _ (y_ne hY_this hY_nu rfl))
        replace hs_nu := y_slk hs_nu (ho _ (y_ne hY_this hY_nu rfl))
        replace hsi_length := y_slk hsi_length (ho _ (y_ne hY_this hY_nu rfl))
        replace hsi_tokenEnd := y_slk hsi_tokenEnd (ho _ (y_ne hY_this hY_nu rfl))
        replace hsi_tokenAt := y_slk hsi_tokenAt (ho _ (y_ne hY_this hY_nu rfl))
        replace hA_by_ := hA_by_.kept (ho _ (y_ne hY_by_ hY_nu rfl))
        obtain ⟨z83, hg_z83⟩ : ∃ z83 : Int32, k + Int32.ofInt 1 = z83 := ⟨_, rfl⟩
        have h_z83 : z83.toInt = k.toInt + 1 := by rw [← hg_z83]; exact y_inc (by decide) (by omega) (by omega)
        refine lv_iinc hx hb xX_d83 hl (k := 0) rfl hg_z83 (by decide) (lv' := [(3, .int z83), (2, .int item), (1, .int tok), (0, .ref this)]) rfl fun ls hl => ?_
        refine lv_goto hx hb xX_d86 (tgt := 48) (by decide) ?_
        have hnum9 : r79.toInt = t_v fy ln.toInt.toNat (t_ap fy ln.toInt.toNat k.toInt.toNat (t_tok fy ln.toInt.toNat te.toInt.toNat).2) := by rw [hnum]; unfold t_v t_len; rw [← show tk.toInt.toNat = t_ap fy ln.toInt.toNat k.toInt.toNat (t_tok fy ln.toInt.toNat te.toInt.toNat).2 by omega, show (te58.toInt - ta58.toInt).toNat = (t_tok fy ln.toInt.toNat tk.toInt.toNat).2 - t_at fy ln.toInt.toNat tk.toInt.toNat by omega, show ta58.toInt.toNat = t_at fy ln.toInt.toNat tk.toInt.toNat by omega]
        exact ih _ _ _ _ _ _ _ hI hY_this hY_by_ hY_nu hs_by_ hs_nu hsi_length hsi_tokenEnd hA_by_ hA_nu (lv_sub hl [0, 1, 2, 3] rfl) (by first | assumption | omega) (by rw [show z83.toInt.toNat = k.toInt.toNat + 1 by omega]; show te58.toInt = ((t_tok fy ln.toInt.toNat (t_ap fy ln.toInt.toNat k.toInt.toNat (t_tok fy ln.toInt.toNat te.toInt.toNat).2)).2 : Nat); rw [← show tk.toInt.toNat = t_ap fy ln.toInt.toNat k.toInt.toNat (t_tok fy ln.toInt.toNat te.toInt.toNat).2 by omega]; exact hte9) (by first | assumption | omega) (by rw [har, show t_cnt fy ln.toInt.toNat te.toInt.toNat - k.toInt.toNat = (t_cnt fy ln.toInt.toNat te.toInt.toNat - z83.toInt.toNat) + 1 by omega, t_args_S hk2, show te58.toInt.toNat = (t_tok fy ln.toInt.toNat tk.toInt.toNat).2 by omega]) (fun j hj => by rw [← hf_f82]; by_cases ej : j = k.toInt.toNat; (subst ej; rw [y_up_at, if_pos (by omega)]; exact hnum9); rw [y_up_ne ej, hfn j hj]; by_cases hlt : (j : Int) < k.toInt; (rw [if_pos hlt, if_pos (by omega)]); rw [if_neg hlt, if_neg (by omega)]) (by omega)
      · have q62_ : ¬ r58.toInt = (2 : Int32).toInt := fun q => q62 (Int32.toInt_inj.mp q)
        refine lv_bipush hx hb xX_d65 (v := (-10)) (by decide) ?_
        have ecm10 : ((-10) : Int32).toInt = (-10) := by decide
        refine lv_aload_n hx hb xX_d67 rfl (lv_at hl 3 rfl) ?_
        refine y_getf X (fl133 X.2.2.2.2.1) hI.1 hY_this rfl hsi_tokenAt xX_d68 ?_
        refine lv_isub hx hb xX_d71 ?_
        generalize hg_z71 : ((-10) : Int32) - ta58 = z71
        have h_z71 : z71.toInt = (-10) - ta58.toInt := by rw [← hg_z71]; have := y_sub (x := ((-10) : Int32)) (y := ta58) (by rw [ecm10]; omega) (by rw [ecm10]; omega); rw [ecm10] at this; exact this
        have hnx0 := t_nx_it (t := fy) (n := ln.toInt.toNat) (p := te.toInt.toNat) ⟨hwd, by omega⟩
        have hnx9 : t_nx fy ln.toInt.toNat te.toInt.toNat = (2, t_at fy ln.toInt.toNat tk.toInt.toNat) := by rw [hnx0, har, show t_cnt fy ln.toInt.toNat te.toInt.toNat - k.toInt.toNat = (t_cnt fy ln.toInt.toNat te.toInt.toNat - k.toInt.toNat - 1) + 1 by omega]; exact t_args_F (by rw [hk58]; omega)
        subst hav
        exact y_ireturn B hI rfl rfl rfl List.mem_cons_self ⟨_, rfl, ⟨_, rfl, x_i32 _⟩⟩ (x_cs.mono B.2.2.2.2.2 (y_mon B hI)) (fun t' b' nu' ln' te' fy' h1 h2 h3 h4 h5 h6 h7 => by cases h1; cases h2.symm.trans hs0; cases h3.symm.trans hn0; cases h4.symm.trans hl0; cases h5.symm.trans he0; cases t_uniq h7 hA0 h6 hcn; exact ⟨_, _, _, rfl, hsi_tokenEnd, hA_nu, ⟨fun q9 => by rw [hnx9] at q9; exact absurd (show (2 : Nat) = 0 from q9) (by decide), fun q9 => by rw [hnx9]; show _ = -10 - ((t_at _ _ _ : Nat) : Int); omega, fun q9 => by rw [hnx9] at q9; exact absurd (show (2 : Nat) = 1 from q9) (by decide)⟩⟩) (Nat.le_refl _) (Nat.le_refl _) xX_d72
theorem ym_nextX : y_Met vwCl x_G x_Zs x_Tb x_Nb xMni z_AntX z_PniX := by
  refine y_main (by decide +kernel) (by decide +kernel) x_Tb_good x_Nb_ok ?_
  intro p l e s m below meth c D U Y0 av ls B hI hpre hl
  have X := B.1
  have hx := X.1
  have hb := X.2.1
  have hY0 := B.2.2.2.2.1
  obtain ⟨v0, rfl, hv0⟩ := x_one B.2.2.2.2.2
  obtain ⟨this, t0, rfl, ht0, hY_this⟩ := x_ref_at hv0 rfl
  obtain rfl := List.mem_singleton.mp ht0
  replace hl : lv_has ls xMni.2.2.1 [(0, .ref this)] := hl
  obtain ⟨by_, hs_by_, hY_by_⟩ := y_fldR (k := 0) hI.1 hY_this rfl rfl
  obtain ⟨fy9, hA9, -⟩ := y_arr hI.1 hY_by_ rfl rfl
  obtain ⟨fy, hcn, hA_by_⟩ := t_canon hA9
  clear hA9 fy9
  have hs0 := hs_by_
  have hA0 := hA_by_
  obtain ⟨ln, hsi_length, hln⟩ := y_fldI (k := 2) hI.1 hY_this rfl rfl
  replace hln : (0 : Int) ≤ ln.toInt ∧ ln.toInt ≤ 240 := hln
  have hl0 := hsi_length
  obtain ⟨te, hsi_tokenEnd, hte⟩ := y_fldI (k := 4) hI.1 hY_this rfl rfl
  replace hte : (0 : Int) ≤ te.toInt ∧ te.toInt ≤ 240 := hte
  have he0 := hsi_tokenEnd
  have hle := hpre _ _ _ rfl hl0 he0
  obtain ⟨nu, hs_nu, hY_nu⟩ := y_fldR (k := 1) hI.1 hY_this rfl rfl
  obtain ⟨fn, hA_nu, -⟩ := y_arr hI.1 hY_nu rfl rfl
  have hn0 := hs_nu
  refine lv_aload_n hx hb xX_d0 rfl (lv_at hl 0 rfl) ?_
  refine y_call (z := (0, 29, 1, some 4, xM64)) (av := [.ref this]) (rest := []) (y_cokV (n := 0) (ci := 7) X ym_tokX rfl rfl rfl (x_cons (x_bw36 2 rfl rfl) (x_cons (x_bw36 4 rfl rfl) (x_cons (x_at 8 (by decide +kernel) rfl) (x_cons (x_bw0 5 rfl rfl) x_nilm)))) (x_bw36 5 rfl rfl) (by decide +kernel) ⟨Nat.le_of_ble_eq_true rfl, Nat.le_of_ble_eq_true rfl⟩) hY0 hI rfl xX_d1 hl.1 (Nat.le_of_ble_eq_true rfl) (Nat.le_of_ble_eq_true rfl) (Nat.le_of_ble_eq_true rfl) (y_cons (y_cref hY_this rfl) y_nil) rfl (y_recv rfl hY_this) (fun t' ln' te' h1 h2 h3 => by cases h1; cases h2.symm.trans hsi_length; cases h3.symm.trans hsi_tokenEnd; omega) (y_sub_ef rfl) fun v Yn o Hn L ho hr ha hIn hx_ hE hP => ?_
  have hPk := hP _ _ _ _ _ rfl hs_by_ hsi_length hsi_tokenEnd hcn hA_by_
  replace hs_by_ := y_Efld hE hY_this rfl (by decide) (by decide) hs_by_
  replace hs_nu := y_Efld hE hY_this rfl (by decide) (by decide) hs_nu
  replace hsi_length := y_Efld hE hY_this rfl (by decide) (by decide) hsi_length
  replace hA_by_ := hA_by_.kept (y_Earr hE hY_by_ rfl (by decide))
  replace hA_nu := hA_nu.kept (y_Earr hE hY_nu rfl (by decide))
  replace hY_this := y_ext hx_ hI.1 hY_this
  replace hY_by_ := y_ext hx_ hI.1 hY_by_
  replace hY_nu := y_ext hx_ hI.1 hY_nu
  obtain ⟨r1, ta1, te1, rfl, hsi_tokenAt, hsi_tokenEnd, hrb1, hk1, hat1, hte1⟩ := hPk
  clear ho hr ha hE hP hI hx_
  rename x_I _ _ _ _ _ _ _ _ _ _ => hI
  refine lv_istore_n hx hb xX_d4 rfl hl (by decide) (lv' := [(1, .int r1), (0, .ref this)]) rfl fun ls hl => ?_
  have htl0 := t_tok_le (t := fy) (n := ln.toInt.toNat) (p := te.toInt.toNat) (by omega)
  refine lv_iload_n hx hb xX_d5 rfl (lv_at hl 0 rfl) ?_
  have ec0 : (0 : Int32).toInt = 0 := by decide
  refine lv_if_ne hx hb xX_d6 (tgt := 11) (by decide) (fun q6 => ?_) (fun q6 => ?_)
  · have q6_ : ¬ r1.toInt = (0 : Int32).toInt := fun q => q6 (Int32.toInt_inj.mp q)
    refine lv_iload_n hx hb xX_d11 rfl (lv_at hl 0 rfl) ?_
    refine lv_iconst hx hb xX_d12 (v := 1) (by decide) ?_
    have ec1 : (1 : Int32).toInt = 1 := by decide
    refine lv_icmp_ne hx hb xX_d13 (tgt := 23) (by decide) (fun q13 => ?_) (fun q13 => ?_)
    · have q13_ : ¬ r1.toInt = (1 : Int32).toInt := fun q => q13 (Int32.toInt_inj.mp q)
      refine lv_iconst hx hb xX_d23 (v := (-1)) (by decide) ?_
      have ecm1 : ((-1) : Int32).toInt = (-1) := by decide
      refine lv_istore_n hx hb xX_d24 rfl hl (by decide) (lv' := [(2, .int ((-1) : Int32)), (1, .int r1), (0, .ref this)]) rfl fun ls hl => ?_
      refine lv_iload_n hx hb xX_d25 rfl (lv_at hl 0 rfl) ?_
      refine lv_iconst hx hb xX_d26 (v := (-1)) (by decide) ?_
      refine lv_icmp_ne hx hb xX_d27 (tgt := 38) (by decide) (fun q27 => ?_) (fun q27 => ?_)
      · have q27_ : ¬ ((-1) : Int32).toInt = ((-1) : Int32).toInt := fun q => q27 (Int32.toInt_inj.mp q)
        have hit9 : ((-1) : Int32).toInt = t_it fy ln.toInt.toNat te.toInt.toNat ∧ t_it fy ln.toInt.toNat te.toInt.toNat < 10 := by first | (rw [(show t_it fy ln.toInt.toNat te.toInt.toNat = t_item fy ta1.toInt.toNat (te1.toInt - ta1.toInt).toNat by unfold t_it t_len; rw [show (te1.toInt - ta1.toInt).toNat = (t_tok fy ln.toInt.toNat te.toInt.toNat).2 - t_at fy ln.toInt.toNat te.toInt.toNat by omega, show ta1.toInt.toNat = t_at fy ln.toInt.toNat te.toInt.toNat by omega])]; rcases hit with ⟨a1, a2⟩ | ⟨a1, a2⟩; exact ⟨a2, a1⟩; exact absurd a2 (by assumption)) | exact absurd rfl (by assumption)
        refine lv_aload_n hx hb xX_d38 rfl (lv_at hl 2 rfl) ?_
        refine y_getf X (fl_xX_240 X.2.2.2.2.1) hI.1 hY_this rfl hs_nu xX_d39 ?_
        refine lv_iconst hx hb xX_d42 (v := 0) (by decide) ?_
        refine y_call (z := (1, 39, 2, none, xM1017)) (av := [.ref nu, .int (0 : Int32)]) (rest := []) (y_cokS (n := 2) X ym_fillNum (x_cons (x_bw40 15 rfl rfl) (x_cons (x_bw2 7 rfl rfl) (x_cons (x_bw0 3 rfl rfl) x_nilm))) (x_bw2 8 rfl rfl) (by decide +kernel) ⟨Nat.le_of_ble_eq_true rfl, Nat.le_of_ble_eq_true rfl⟩) hY0 hI rfl xX_d43 hl.1 (Nat.le_of_ble_eq_true rfl) (Nat.le_of_ble_eq_true rfl) (Nat.le_of_ble_eq_true rfl) (y_cons (y_cref hY_nu rfl) (y_cons ⟨_, rfl, by show (0 : Int) ≤ _; omega, by show _ ≤ (0 : Int); omega⟩ y_nil)) rfl (y_norecv rfl) trivial (y_sub_ef rfl) fun v Yn o Hn L ho hr ha hIn hx_ hE hP => ?_
        have hPf := hP _ _ rfl
        replace hs_by_ := y_Efld hE hY_this rfl (by decide) (by decide) hs_by_
        replace hs_nu := y_Efld hE hY_this rfl (by decide) (by decide) hs_nu
        replace hsi_length := y_Efld hE hY_this rfl (by decide) (by decide) hsi_length
        replace hsi_tokenEnd := y_Efld hE hY_this rfl (by decide) (by decide) hsi_tokenEnd
        replace hsi_tokenAt := y_Efld hE hY_this rfl (by decide) (by decide) hsi_tokenAt
        replace hA_by_ := hA_by_.kept (y_Earr hE hY_by_ rfl (by decide))
        replace hY_this := y_ext hx_ hI.1 hY_this
        replace hY_by_ := y_ext hx_ hI.1 hY_by_
        replace hY_nu := y_ext hx_ hI.1 hY_nu
        obtain rfl := y_ansV rfl ho hr
        have hA_nu := hPf
        clear ho hr ha hE hP hI hx_
        rename x_I _ _ _ _ _ _ _ _ _ _ => hI
        refine lv_iconst hx hb xX_d46 (v := 0) (by decide) ?_
        refine lv_istore_n hx hb xX_d47 rfl hl (by decide) (lv' := [(3, .int (0 : Int32)), (2, .int ((-1) : Int32)), (1, .int r1), (0, .ref this)]) rfl fun ls hl => ?_
        have hk1 : (t_tok fy ln.toInt.toNat te.toInt.toNat).1 = 1 := by rw [hk1]; omega
        exact xX_L48 B rfl hs0 hn0 hl0 he0 hcn hA0 hln hte hle (by omega) (by omega) hk1 6 _ _ _ _ _ _ _ hI hY_this hY_by_ hY_nu hs_by_ hs_nu hsi_length hsi_tokenEnd hA_by_ hA_nu (lv_sub hl [0, 1, 2, 3] rfl) (by first | assumption | omega) (by show _ = (((t_tok fy ln.toInt.toNat te.toInt.toNat).2 : Nat) : Int); exact hte1 (by omega)) ⟨by have := hte1 (by omega); omega, by have := hte1 (by omega); have := t_tok_le (t := fy) (n := ln.toInt.toNat) (p := te.toInt.toNat) (by omega); omega⟩ (by rw [show t_cnt fy ln.toInt.toNat te.toInt.toNat - (0 : Int32).toInt.toNat = t_cnt fy ln.toInt.toNat te.toInt.toNat by rfl, show te1.toInt.toNat = (t_tok fy ln.toInt.toNat te.toInt.toNat).2 by have := hte1 (by omega); omega]) (fun j hj => by rw [if_neg (by omega)]; rfl) (by omega)
      · have q27_ : ((-1) : Int32).toInt = ((-1) : Int32).toInt := by rw [q27]
        refine lv_bipush hx hb xX_d30 (v := (-10)) (by decide) ?_
        have ecm10 : ((-10) : Int32).toInt = (-10) := by decide
        refine lv_aload_n hx hb xX_d32 rfl (lv_at hl 2 rfl) ?_
        refine y_getf X (fl133 X.2.2.2.2.1) hI.1 hY_this rfl hsi_tokenAt xX_d33 ?_
        refine lv_isub hx hb xX_d36 ?_
        generalize hg_z36 : ((-10) : Int32) - ta1 = z36
        have h_z36 : z36.toInt = (-10) - ta1.toInt := by rw [← hg_z36]; have := y_sub (x := ((-10) : Int32)) (y := ta1) (by rw [ecm10]; omega) (by rw [ecm10]; omega); rw [ecm10] at this; exact this
        have hnx9 := t_nx_bad (t := fy) (n := ln.toInt.toNat) (p := te.toInt.toNat) (by rw [hk1]; omega) (fun q9 => by first | (have q8 := q9.1; rw [hk1] at q8; omega) | (have q8 := q9.2; rw [(show t_it fy ln.toInt.toNat te.toInt.toNat = t_item fy ta1.toInt.toNat (te1.toInt - ta1.toInt).toNat by unfold t_it t_len; rw [show (te1.toInt - ta1.toInt).toNat = (t_tok fy ln.toInt.toNat te.toInt.toNat).2 - t_at fy ln.toInt.toNat te.toInt.toNat by omega, show ta1.toInt.toNat = t_at fy ln.toInt.toNat te.toInt.toNat by omega])] at q8; rcases hit with ⟨a1, a2⟩ | ⟨a1, a2⟩; omega; omega))
        exact y_ireturn B hI rfl rfl rfl List.mem_cons_self ⟨_, rfl, ⟨_, rfl, x_i32 _⟩⟩ (x_cs.mono B.2.2.2.2.2 (y_mon B hI)) (fun t' b' nu' ln' te' fy' h1 h2 h3 h4 h5 h6 h7 => by cases h1; cases h2.symm.trans hs0; cases h3.symm.trans hn0; cases h4.symm.trans hl0; cases h5.symm.trans he0; cases t_uniq h7 hA0 h6 hcn; exact ⟨_, _, _, rfl, hsi_tokenEnd, hA_nu, ⟨fun q9 => by rw [hnx9] at q9; exact absurd (show (2 : Nat) = 0 from q9) (by decide), fun q9 => by rw [hnx9]; show _ = -10 - ((t_at _ _ _ : Nat) : Int); omega, fun q9 => by rw [hnx9] at q9; exact absurd (show (2 : Nat) = 1 from q9) (by decide)⟩⟩) (Nat.le_refl _) (Nat.le_refl _) xX_d37
    · have q13_ : r1.toInt = (1 : Int32).toInt := by rw [q13]
      have hte9 := hte1 (by omega)
      refine lv_aload_n hx hb xX_d16 rfl (lv_at hl 1 rfl) ?_
      refine y_call (z := (0, 33, 1, some 4, xMih)) (av := [.ref this]) (rest := []) (y_cokV (n := 0) (ci := 7) X ym_itemX rfl rfl rfl (x_cons (x_bw36 10 rfl rfl) (x_cons (x_bw36 12 rfl rfl) (x_cons (x_at 10 (by decide +kernel) rfl) (x_cons (x_bw0 5 rfl rfl) x_nilm)))) (x_bw36 13 rfl rfl) (by decide +kernel) ⟨Nat.le_of_ble_eq_true rfl, Nat.le_of_ble_eq_true rfl⟩) hY0 hI rfl xX_d17 hl.1 (Nat.le_of_ble_eq_true rfl) (Nat.le_of_ble_eq_true rfl) (Nat.le_of_ble_eq_true rfl) (y_cons (y_cref hY_this rfl) y_nil) rfl (y_recv rfl hY_this) (fun t' te' ta' h1 h2 h3 => by cases h1; cases h2.symm.trans hsi_tokenEnd; cases h3.symm.trans hsi_tokenAt; omega) (y_sub_ef rfl) fun v Yn o Hn L ho hr ha hIn hx_ hE hP => ?_
      have hPi := hP _ _ _ _ _ rfl hsi_tokenEnd hsi_tokenAt hs_by_ hA_by_ (by omega)
      replace hs_by_ := y_Efld hE hY_this rfl (by decide) (by decide) hs_by_
      replace hs_nu := y_Efld hE hY_this rfl (by decide) (by decide) hs_nu
      replace hsi_length := y_Efld hE hY_this rfl (by decide) (by decide) hsi_length
      replace hsi_tokenEnd := y_Efld hE hY_this rfl (by decide) (by decide) hsi_tokenEnd
      replace hsi_tokenAt := y_Efld hE hY_this rfl (by decide) (by decide) hsi_tokenAt
      replace hA_by_ := hA_by_.kept (y_Earr hE hY_by_ rfl (by decide))
      replace hA_nu := hA_nu.kept (y_Earr hE hY_nu rfl (by decide))
      replace hY_this := y_ext hx_ hI.1 hY_this
      replace hY_by_ := y_ext hx_ hI.1 hY_by_
      replace hY_nu := y_ext hx_ hI.1 hY_nu
      obtain ⟨r17, rfl, hit⟩ := hPi
      clear ho hr ha hE hP hI hx_
      rename x_I _ _ _ _ _ _ _ _ _ _ => hI
      refine lv_goto hx hb xX_d20 (tgt := 24) (by decide) ?_
      refine lv_istore_n hx hb xX_d24 rfl hl (by decide) (lv' := [(2, .int r17), (1, .int r1), (0, .ref this)]) rfl fun ls hl => ?_
      refine lv_iload_n hx hb xX_d25 rfl (lv_at hl 0 rfl) ?_
      refine lv_iconst hx hb xX_d26 (v := (-1)) (by decide) ?_
      have ecm1 : ((-1) : Int32).toInt = (-1) := by decide
      refine lv_icmp_ne hx hb xX_d27 (tgt := 38) (by decide) (fun q27 => ?_) (fun q27 => ?_)
      · have q27_ : ¬ r17.toInt = ((-1) : Int32).toInt := fun q => q27 (Int32.toInt_inj.mp q)
        have hit9 : r17.toInt = t_it fy ln.toInt.toNat te.toInt.toNat ∧ t_it fy ln.toInt.toNat te.toInt.toNat < 10 := by first | (rw [(show t_it fy ln.toInt.toNat te.toInt.toNat = t_item fy ta1.toInt.toNat (te1.toInt - ta1.toInt).toNat by unfold t_it t_len; rw [show (te1.toInt - ta1.toInt).toNat = (t_tok fy ln.toInt.toNat te.toInt.toNat).2 - t_at fy ln.toInt.toNat te.toInt.toNat by omega, show ta1.toInt.toNat = t_at fy ln.toInt.toNat te.toInt.toNat by omega])]; rcases hit with ⟨a1, a2⟩ | ⟨a1, a2⟩; exact ⟨a2, a1⟩; exact absurd a2 (by assumption)) | exact absurd rfl (by assumption)
        refine lv_aload_n hx hb xX_d38 rfl (lv_at hl 2 rfl) ?_
        refine y_getf X (fl_xX_240 X.2.2.2.2.1) hI.1 hY_this rfl hs_nu xX_d39 ?_
        refine lv_iconst hx hb xX_d42 (v := 0) (by decide) ?_
        refine y_call (z := (1, 39, 2, none, xM1017)) (av := [.ref nu, .int (0 : Int32)]) (rest := []) (y_cokS (n := 2) X ym_fillNum (x_cons (x_bw40 15 rfl rfl) (x_cons (x_bw2 7 rfl rfl) (x_cons (x_bw0 3 rfl rfl) x_nilm))) (x_bw2 8 rfl rfl) (by decide +kernel) ⟨Nat.le_of_ble_eq_true rfl, Nat.le_of_ble_eq_true rfl⟩) hY0 hI rfl xX_d43 hl.1 (Nat.le_of_ble_eq_true rfl) (Nat.le_of_ble_eq_true rfl) (Nat.le_of_ble_eq_true rfl) (y_cons (y_cref hY_nu rfl) (y_cons ⟨_, rfl, by show (0 : Int) ≤ _; omega, by show _ ≤ (0 : Int); omega⟩ y_nil)) rfl (y_norecv rfl) trivial (y_sub_ef rfl) fun v Yn o Hn L ho hr ha hIn hx_ hE hP => ?_
        have hPf := hP _ _ rfl
        replace hs_by_ := y_Efld hE hY_this rfl (by decide) (by decide) hs_by_
        replace hs_nu := y_Efld hE hY_this rfl (by decide) (by decide) hs_nu
        replace hsi_length := y_Efld hE hY_this rfl (by decide) (by decide) hsi_length
        replace hsi_tokenEnd := y_Efld hE hY_this rfl (by decide) (by decide) hsi_tokenEnd
        replace hsi_tokenAt := y_Efld hE hY_this rfl (by decide) (by decide) hsi_tokenAt
        replace hA_by_ := hA_by_.kept (y_Earr hE hY_by_ rfl (by decide))
        replace hY_this := y_ext hx_ hI.1 hY_this
        replace hY_by_ := y_ext hx_ hI.1 hY_by_
        replace hY_nu := y_ext hx_ hI.1 hY_nu
        obtain rfl := y_ansV rfl ho hr
        have hA_nu := hPf
        clear ho hr ha hE hP hI hx_
        rename x_I _ _ _ _ _ _ _ _ _ _ => hI
        refine lv_iconst hx hb xX_d46 (v := 0) (by decide) ?_
        refine lv_istore_n hx hb xX_d47 rfl hl (by decide) (lv' := [(3, .int (0 : Int32)), (2, .int r17), (1, .int r1), (0, .ref this)]) rfl fun ls hl => ?_
        have hk1 : (t_tok fy ln.toInt.toNat te.toInt.toNat).1 = 1 := by rw [hk1]; omega
        exact xX_L48 B rfl hs0 hn0 hl0 he0 hcn hA0 hln hte hle (by omega) (by omega) hk1 6 _ _ _ _ _ _ _ hI hY_this hY_by_ hY_nu hs_by_ hs_nu hsi_length hsi_tokenEnd hA_by_ hA_nu (lv_sub hl [0, 1, 2, 3] rfl) (by first | assumption | omega) (by show _ = (((t_tok fy ln.toInt.toNat te.toInt.toNat).2 : Nat) : Int); exact hte1 (by omega)) ⟨by have := hte1 (by omega); omega, by have := hte1 (by omega); have := t_tok_le (t := fy) (n := ln.toInt.toNat) (p := te.toInt.toNat) (by omega); omega⟩ (by rw [show t_cnt fy ln.toInt.toNat te.toInt.toNat - (0 : Int32).toInt.toNat = t_cnt fy ln.toInt.toNat te.toInt.toNat by rfl, show te1.toInt.toNat = (t_tok fy ln.toInt.toNat te.toInt.toNat).2 by have := hte1 (by omega); omega]) (fun j hj => by rw [if_neg (by omega)]; rfl) (by omega)
      · have q27_ : r17.toInt = ((-1) : Int32).toInt := by rw [q27]
        refine lv_bipush hx hb xX_d30 (v := (-10)) (by decide) ?_
        have ecm10 : ((-10) : Int32).toInt = (-10) := by decide
        refine lv_aload_n hx hb xX_d32 rfl (lv_at hl 2 rfl) ?_
        refine y_getf X (fl133 X.2.2.2.2.1) hI.1 hY_this rfl hsi_tokenAt xX_d33 ?_
        refine lv_isub hx hb xX_d36 ?_
        generalize hg_z36 : ((-10) : Int32) - ta1 = z36
        have h_z36 : z36.toInt = (-10) - ta1.toInt := by rw [← hg_z36]; have := y_sub (x := ((-10) : Int32)) (y := ta1) (by rw [ecm10]; omega) (by rw [ecm10]; omega); rw [ecm10] at this; exact this
        have hnx9 := t_nx_bad (t := fy) (n := ln.toInt.toNat) (p := te.toInt.toNat) (by rw [hk1]; omega) (fun q9 => by first | (have q8 := q9.1; rw [hk1] at q8; omega) | (have q8 := q9.2; rw [(show t_it fy ln.toInt.toNat te.toInt.toNat = t_item fy ta1.toInt.toNat (te1.toInt - ta1.toInt).toNat by unfold t_it t_len; rw [show (te1.toInt - ta1.toInt).toNat = (t_tok fy ln.toInt.toNat te.toInt.toNat).2 - t_at fy ln.toInt.toNat te.toInt.toNat by omega, show ta1.toInt.toNat = t_at fy ln.toInt.toNat te.toInt.toNat by omega])] at q8; rcases hit with ⟨a1, a2⟩ | ⟨a1, a2⟩; omega; omega))
        exact y_ireturn B hI rfl rfl rfl List.mem_cons_self ⟨_, rfl, ⟨_, rfl, x_i32 _⟩⟩ (x_cs.mono B.2.2.2.2.2 (y_mon B hI)) (fun t' b' nu' ln' te' fy' h1 h2 h3 h4 h5 h6 h7 => by cases h1; cases h2.symm.trans hs0; cases h3.symm.trans hn0; cases h4.symm.trans hl0; cases h5.symm.trans he0; cases t_uniq h7 hA0 h6 hcn; exact ⟨_, _, _, rfl, hsi_tokenEnd, hA_nu, ⟨fun q9 => by rw [hnx9] at q9; exact absurd (show (2 : Nat) = 0 from q9) (by decide), fun q9 => by rw [hnx9]; show _ = -10 - ((t_at _ _ _ : Nat) : Int); omega, fun q9 => by rw [hnx9] at q9; exact absurd (show (2 : Nat) = 1 from q9) (by decide)⟩⟩) (Nat.le_refl _) (Nat.le_refl _) xX_d37
  · have q6_ : r1.toInt = (0 : Int32).toInt := by rw [q6]
    refine lv_iconst hx hb xX_d9 (v := (-1)) (by decide) ?_
    have ecm1 : ((-1) : Int32).toInt = (-1) := by decide
    have hnx9 := t_nx_end (t := fy) (n := ln.toInt.toNat) (p := te.toInt.toNat) (by rw [hk1]; omega)
    exact y_ireturn B hI rfl rfl rfl List.mem_cons_self ⟨_, rfl, ⟨_, rfl, x_i32 _⟩⟩ (x_cs.mono B.2.2.2.2.2 (y_mon B hI)) (fun t' b' nu' ln' te' fy' h1 h2 h3 h4 h5 h6 h7 => by cases h1; cases h2.symm.trans hs0; cases h3.symm.trans hn0; cases h4.symm.trans hl0; cases h5.symm.trans he0; cases t_uniq h7 hA0 h6 hcn; exact ⟨_, _, _, rfl, hsi_tokenEnd, hA_nu, ⟨fun _ => rfl, fun q9 => by rw [hnx9] at q9; exact absurd (show (0 : Nat) = 2 from q9) (by decide), fun q9 => by rw [hnx9] at q9; exact absurd (show (0 : Nat) = 1 from q9) (by decide)⟩⟩) (Nat.le_refl _) (Nat.le_refl _) xX_d10
def z_PrwX : yP := fun D av _ _ _ _ H' => ∀ this : Nat, av = [.ref this] → x_sl D 7 4 this H' = some (.int 0)
theorem rX_d0 : decode xM60.2.1 0 = .ok (.aload_n 0, 1) := dz_ok (by decide +kernel)
theorem rX_d1 : decode xM60.2.1 1 = .ok (.iconst 0, 1) := dz_ok (by decide +kernel)
theorem rX_d2 : decode xM60.2.1 2 = .ok (.putfield 26, 3) := dz_ok (by decide +kernel)
theorem rX_d5 : decode xM60.2.1 5 = .ok (.return_, 1) := dz_ok (by decide +kernel)
theorem ym_rewX : y_Met vwCl x_G x_Zs x_Tb x_Nb xM60 y_T z_PrwX := by
  refine y_main (by decide +kernel) (by decide +kernel) x_Tb_good x_Nb_ok ?_
  intro p l e s m below meth c D U Y0 av ls B hI hpre hl
  have X := B.1
  have hx := X.1
  have hb := X.2.1
  have hY0 := B.2.2.2.2.1
  obtain ⟨v0, rfl, hv0⟩ := x_one B.2.2.2.2.2
  obtain ⟨this, t0, rfl, ht0, hY_this⟩ := x_ref_at hv0 rfl
  obtain rfl := List.mem_singleton.mp ht0
  replace hl : lv_has ls xM60.2.2.1 [(0, .ref this)] := hl
  refine lv_aload_n hx hb rX_d0 rfl (lv_at hl 0 rfl) ?_
  refine lv_iconst hx hb rX_d1 (v := 0) (by decide) ?_
  have ec0 : (0 : Int32).toInt = 0 := by decide
  refine y_putf X (fw129 X.2.2.2.2.1) hY0 hI hY_this rfl rfl ⟨_, rfl, by show (0 : Int) ≤ _; omega, by show _ ≤ (240 : Int); omega⟩ (by decide +kernel) rX_d2 fun H sl hI ho hs hk => ?_
  replace hs := hs
  have hs2 := hs
  exact y_return B hI rfl rfl List.mem_cons_self rfl (x_cs.mono B.2.2.2.2.2 (y_mon B hI)) (fun t' h1 => by cases h1; exact hs2) (Nat.le_refl _) (Nat.le_refl _) rX_d5

