theorem fw205 {s : State} {args : Array Value} {mn : String} (hts : ∀ w ∈ x_Tb, w.before args s = true) : x_pok vwCl x_G x_Tb s args "TwinFires$Rows" mn (27, 8, 1) := ⟨5, _, RX5, TX5, "TwinFires$Rows", tyX5, _, rfl, rfl, Nat.le_of_ble_eq_true rfl, iX5, (hts _ (x_bw15 5 rfl rfl)), fun x h => h, tyX5_ok, nmX5, rfl, x_fitI _ _, Or.inl rfl⟩
def xMga : xM := (⟨"TwinFires$Rows", "gather", "(LTwinFires$Eyes;I)V"⟩, prog_7_method_2_code, 5, none, [xR false [8], xR false [6], xI 0 10], [([xR false [8], xR false [6], xI 0 10], none)], [(8, 1), (35, 0)], (2, 43, 0, 0), none)
theorem ga_d0 : decode xMga.2.1 0 = .ok (.aload_n 0, 1) := dz_ok (by decide +kernel)
theorem ga_d1 : decode xMga.2.1 1 = .ok (.iconst 0, 1) := dz_ok (by decide +kernel)
theorem ga_d2 : decode xMga.2.1 2 = .ok (.putfield 27, 3) := dz_ok (by decide +kernel)
theorem ga_d5 : decode xMga.2.1 5 = .ok (.iconst 1, 1) := dz_ok (by decide +kernel)
theorem ga_d6 : decode xMga.2.1 6 = .ok (.iload_n 2, 1) := dz_ok (by decide +kernel)
theorem ga_d7 : decode xMga.2.1 7 = .ok (.ishl, 1) := dz_ok (by decide +kernel)
theorem ga_d8 : decode xMga.2.1 8 = .ok (.istore_n 3, 1) := dz_ok (by decide +kernel)
theorem ga_d9 : decode xMga.2.1 9 = .ok (.iconst 0, 1) := dz_ok (by decide +kernel)
theorem ga_d10 : decode xMga.2.1 10 = .ok (.istore 4, 2) := dz_ok (by decide +kernel)
theorem ga_d12 : decode xMga.2.1 12 = .ok (.iload 4, 2) := dz_ok (by decide +kernel)
theorem ga_d14 : decode xMga.2.1 14 = .ok (.iload_n 3, 1) := dz_ok (by decide +kernel)
theorem ga_d15 : decode xMga.2.1 15 = .ok (.if_icmp .ge 48, 3) := dz_ok (by decide +kernel)
theorem ga_d18 : decode xMga.2.1 18 = .ok (.iload 4, 2) := dz_ok (by decide +kernel)
theorem ga_d20 : decode xMga.2.1 20 = .ok (.sipush 1024, 3) := dz_ok (by decide +kernel)
theorem ga_d23 : decode xMga.2.1 23 = .ok (.if_icmp .ge 40, 3) := dz_ok (by decide +kernel)
theorem ga_d26 : decode xMga.2.1 26 = .ok (.aload_n 1, 1) := dz_ok (by decide +kernel)
theorem ga_d27 : decode xMga.2.1 27 = .ok (.iload 4, 2) := dz_ok (by decide +kernel)
theorem ga_d29 : decode xMga.2.1 29 = .ok (.invokevirtual 31, 3) := dz_ok (by decide +kernel)
theorem ga_d32 : decode xMga.2.1 32 = .ok (.iconst (-1), 1) := dz_ok (by decide +kernel)
theorem ga_d33 : decode xMga.2.1 33 = .ok (.if_icmp .ne 24, 3) := dz_ok (by decide +kernel)
theorem ga_d36 : decode xMga.2.1 36 = .ok (.aload_n 0, 1) := dz_ok (by decide +kernel)
theorem ga_d37 : decode xMga.2.1 37 = .ok (.getfield 9, 3) := dz_ok (by decide +kernel)
theorem ga_d40 : decode xMga.2.1 40 = .ok (.aload_n 0, 1) := dz_ok (by decide +kernel)
theorem ga_d41 : decode xMga.2.1 41 = .ok (.getfield 27, 3) := dz_ok (by decide +kernel)
theorem ga_d44 : decode xMga.2.1 44 = .ok (.iload 4, 2) := dz_ok (by decide +kernel)
theorem ga_d46 : decode xMga.2.1 46 = .ok (.iastore, 1) := dz_ok (by decide +kernel)
theorem ga_d47 : decode xMga.2.1 47 = .ok (.aload_n 0, 1) := dz_ok (by decide +kernel)
theorem ga_d48 : decode xMga.2.1 48 = .ok (.dup, 1) := dz_ok (by decide +kernel)
theorem ga_d49 : decode xMga.2.1 49 = .ok (.getfield 27, 3) := dz_ok (by decide +kernel)
theorem ga_d52 : decode xMga.2.1 52 = .ok (.iconst 1, 1) := dz_ok (by decide +kernel)
theorem ga_d53 : decode xMga.2.1 53 = .ok (.iadd, 1) := dz_ok (by decide +kernel)
theorem ga_d54 : decode xMga.2.1 54 = .ok (.putfield 27, 3) := dz_ok (by decide +kernel)
theorem ga_d57 : decode xMga.2.1 57 = .ok (.iinc 4 1, 3) := dz_ok (by decide +kernel)
theorem ga_d60 : decode xMga.2.1 60 = .ok (.goto (-48), 3) := dz_ok (by decide +kernel)
theorem ga_d63 : decode xMga.2.1 63 = .ok (.return_, 1) := dz_ok (by decide +kernel)
theorem ga_loop {p : Program} {l : Launch} {e : Env} {s : State} {m : MethodId} {below : List Frame} {meth : Method} {c : Code} {D : va_G} {U : State} {Y0 : xY} {av : List Value} (B : y_B vwCl x_Tb x_Nb xMga p s m meth c D U Y0 av) {this eyes : Nat} {hills all : Int32} : ∀ (j : Nat) (H : Heap) (Y : xY) (locs : List Loc) (ls : Array Slot) (set fd : Int32), x_I D x_G x_Zs U (x_efs xMga) Y0 s.heap Y H locs → Y this = some 8 → Y eyes = some 6 → lv_has ls xMga.2.2.1 [(4, .int set), (3, .int all), (0, .ref this), (1, .ref eyes), (2, .int hills)] → x_sl D 5 1 this H = some (.int fd) →
    0 ≤ fd.toInt → fd.toInt ≤ set.toInt → 0 ≤ set.toInt → set.toInt ≤ 1024 → (1024 - set.toInt).toNat < j → W p l e (x_rm xMga) s m av.toArray below meth c H locs 0 0 (y_QQ below D x_G x_Zs U xMga y_TP av Y0 s) (F0 m 12 ls []) := by
  have X := B.1
  have hx := X.1
  have hb := X.2.1
  have hY0 := B.2.2.2.2.1
  intro j
  induction j with
  | zero => intro H Y locs ls set fd hI hY_this hY_eyes hl hF h1 h2 h3 h4 h5; exact absurd h5 (Nat.not_lt_zero _)
  | succ j ih =>
    intro H Y locs ls set fd hI hY_this hY_eyes hl hF h1 h2 h3 h4 h5
    refine lv_iload hx hb ga_d12 (lv_at hl 0 rfl) ?_
    refine lv_iload_n hx hb ga_d14 rfl (lv_at hl 1 rfl) ?_
    refine lv_icmp_ge hx hb ga_d15 (tgt := 63) (by decide) (fun q1 => ?_) (fun q1 => ?_)
    · have q1_ : all.toInt ≤ set.toInt := x_le32.mp q1
      exact y_return B hI rfl rfl List.mem_cons_self rfl (x_cs.mono B.2.2.2.2.2 (y_mon B hI)) trivial (Nat.le_refl _) (Nat.le_refl _) ga_d63
    · have q1_ : set.toInt < all.toInt := Int.not_le.mp fun q => q1 (x_le32.mpr q)
      refine lv_iload hx hb ga_d18 (lv_at hl 0 rfl) ?_
      refine lv_sipush hx hb ga_d20 (v := 1024) (by decide) ?_
      have ec1024 : (1024 : Int32).toInt = 1024 := by decide
      refine lv_icmp_ge hx hb ga_d23 (tgt := 63) (by decide) (fun q2 => ?_) (fun q2 => ?_)
      · have q2_ : (1024 : Int32).toInt ≤ set.toInt := x_le32.mp q2
        exact y_return B hI rfl rfl List.mem_cons_self rfl (x_cs.mono B.2.2.2.2.2 (y_mon B hI)) trivial (Nat.le_refl _) (Nat.le_refl _) ga_d63
      · have q2_ : set.toInt < (1024 : Int32).toInt := Int.not_le.mp fun q => q2 (x_le32.mpr q)
        refine lv_aload_n hx hb ga_d26 rfl (lv_at hl 3 rfl) ?_
        refine lv_iload hx hb ga_d27 (lv_at hl 0 rfl) ?_
        refine y_call (z := (0, 31, 2, some 6, xM72)) (av := [.ref eyes, .int set]) (rest := []) (y_cok.of (x_cokV (n := 1) (ci := 0) X xm72 rfl rfl rfl (x_cons (x_bw44 4 rfl rfl) (x_cons (x_bw42 11 rfl rfl) (x_cons (x_bw42 12 rfl rfl) (x_cons (x_bw0 6 rfl rfl) x_nilm)))) (x_bw42 13 rfl rfl) (by decide +kernel) ⟨Nat.le_of_ble_eq_true rfl, Nat.le_of_ble_eq_true rfl⟩)) hY0 hI rfl ga_d29 hl.1 (by decide) (Nat.le_of_ble_eq_true rfl) (Nat.le_of_ble_eq_true rfl) (y_cons (y_cref hY_eyes rfl) (y_cons ⟨_, rfl, x_i32 _⟩ y_nil)) rfl (y_recv rfl hY_eyes) trivial (y_sub_ef rfl) fun v Yn o Hn L ho hr ha hIn hx_ hE hP => ?_
        replace hF := y_Efld hE hY_this rfl (by decide) (by decide) hF
        replace hY_this := y_ext hx_ hI.1 hY_this
        replace hY_eyes := y_ext hx_ hI.1 hY_eyes
        obtain ⟨r3, rfl, h_r3⟩ := y_ansI (lo := (-1)) (hi := 9) (by decide) ho hr
        clear ho hr ha hE hP hI hx_
        rename x_I _ _ _ _ _ _ _ _ _ _ => hI
        refine lv_iconst hx hb ga_d32 (v := (-1)) (by decide) ?_
        have ecm1 : ((-1) : Int32).toInt = (-1) := by decide
        refine lv_icmp_ne hx hb ga_d33 (tgt := 57) (by decide) (fun q4 => ?_) (fun q4 => ?_)
        · have q4_ : ¬ r3.toInt = ((-1) : Int32).toInt := fun q => q4 (Int32.toInt_inj.mp q)
          obtain ⟨z5, hg_z5⟩ : ∃ z5 : Int32, set + Int32.ofInt 1 = z5 := ⟨_, rfl⟩
          have h_z5 : z5.toInt = set.toInt + 1 := by rw [← hg_z5]; exact y_inc (by decide) (by omega) (by omega)
          refine lv_iinc hx hb ga_d57 hl (k := 0) rfl hg_z5 (by decide) (lv' := [(4, .int z5), (3, .int all), (0, .ref this), (1, .ref eyes), (2, .int hills)]) rfl fun ls hl => ?_
          refine lv_goto hx hb ga_d60 (tgt := 12) (by decide) ?_
          exact ih _ _ _ _ _ _ hI hY_this hY_eyes hl hF (by omega) (by omega) (by omega) (by omega) (by omega)
        · have q4_ : r3.toInt = ((-1) : Int32).toInt := by rw [q4]
          refine lv_aload_n hx hb ga_d36 rfl (lv_at hl 2 rfl) ?_
          obtain ⟨this_sets, hs_this_sets, hY_this_sets⟩ := y_fldR (k := 0) hI.1 hY_this rfl rfl
          refine y_getf X (fl135 X.2.2.2.2.1) hI.1 hY_this rfl hs_this_sets ga_d37 ?_
          refine lv_aload_n hx hb ga_d40 rfl (lv_at hl 2 rfl) ?_
          refine y_getf X (fl136 X.2.2.2.2.1) hI.1 hY_this rfl hF ga_d41 ?_
          refine lv_iload hx hb ga_d44 (lv_at hl 0 rfl) ?_
          obtain ⟨f_this_sets, hA_this_sets, hB_this_sets⟩ := y_arr hI.1 hY_this_sets rfl rfl
          replace hB_this_sets : ∀ j, j < 1024 → (0 : Int) ≤ (f_this_sets j).toInt ∧ (f_this_sets j).toInt ≤ 1023 := fun j hj => by obtain ⟨x, e0, e1⟩ := hB_this_sets j hj; cases e0; exact e1
          refine y_iast X hY0 hI hY_this_sets rfl hA_this_sets (by omega) (by show _ < (1024 : Int); omega) ⟨_, rfl, by show (0 : Int) ≤ _; omega, by show _ ≤ (1023 : Int); omega⟩ (by decide +kernel) ga_d46 fun H locs hI h_new ho => ?_
          replace hA_this_sets := h_new
          replace hB_this_sets := y_upb (i := fd.toInt.toNat) (v := set) hB_this_sets (by constructor <;> omega)
          generalize hf_f6 : y_up f_this_sets fd.toInt.toNat set = f6 at hA_this_sets hB_this_sets
          replace hF := y_slk hF (ho _ (y_ne hY_this hY_this_sets rfl))
          replace hs_this_sets := y_slk hs_this_sets (ho _ (y_ne hY_this hY_this_sets rfl))
          refine lv_aload_n hx hb ga_d47 rfl (lv_at hl 2 rfl) ?_
          refine lv_dup hx hb ga_d48 rfl ?_
          refine y_getf X (fl136 X.2.2.2.2.1) hI.1 hY_this rfl hF ga_d49 ?_
          refine lv_iconst hx hb ga_d52 (v := 1) (by decide) ?_
          have ec1 : (1 : Int32).toInt = 1 := by decide
          refine lv_iadd hx hb ga_d53 ?_
          generalize hg_z7 : fd + (1 : Int32) = z7
          have h_z7 : z7.toInt = fd.toInt + (1 : Int32).toInt := by rw [← hg_z7]; exact y_add (by omega) (by omega)
          refine y_putf X (fw205 X.2.2.2.2.1) hY0 hI hY_this rfl rfl ⟨_, rfl, by show (0 : Int) ≤ _; omega, by show _ ≤ (1024 : Int); omega⟩ (by decide +kernel) ga_d54 fun H sl hI ho hs hk => ?_
          replace hs_this_sets := hk _ _ (by decide +kernel) (by decide) hs_this_sets
          replace hA_this_sets := hA_this_sets.kept (ho _ (y_ne hY_this_sets hY_this rfl))
          replace hs := hs
          replace hF := hs
          obtain ⟨z8, hg_z8⟩ : ∃ z8 : Int32, set + Int32.ofInt 1 = z8 := ⟨_, rfl⟩
          have h_z8 : z8.toInt = set.toInt + 1 := by rw [← hg_z8]; exact y_inc (by decide) (by omega) (by omega)
          refine lv_iinc hx hb ga_d57 hl (k := 0) rfl hg_z8 (by decide) (lv' := [(4, .int z8), (3, .int all), (0, .ref this), (1, .ref eyes), (2, .int hills)]) rfl fun ls hl => ?_
          refine lv_goto hx hb ga_d60 (tgt := 12) (by decide) ?_
          exact ih _ _ _ _ _ _ hI hY_this hY_eyes hl hF (by omega) (by omega) (by omega) (by omega) (by omega)
theorem ym_gather : y_Met vwCl x_G x_Zs x_Tb x_Nb xMga y_T y_TP := by
  refine y_main (by decide +kernel) (by decide +kernel) x_Tb_good x_Nb_ok ?_
  intro p l e s m below meth c D U Y0 av ls B hI _ hl
  have X := B.1
  have hx := X.1
  have hb := X.2.1
  have hY0 := B.2.2.2.2.1
  obtain ⟨v0, v1, v2, rfl, hv0, hv1, hv2⟩ := y_three B.2.2.2.2.2
  obtain ⟨this, t0, rfl, ht0, hY_this⟩ := x_ref_at hv0 rfl
  obtain rfl := List.mem_singleton.mp ht0
  obtain ⟨eyes, t1, rfl, ht1, hY_eyes⟩ := x_ref_at hv1 rfl
  obtain rfl := List.mem_singleton.mp ht1
  obtain ⟨hills, rfl, hh⟩ := hv2
  replace hl : lv_has ls xMga.2.2.1 [(0, .ref this), (1, .ref eyes), (2, .int hills)] := hl
  refine lv_aload_n hx hb ga_d0 rfl (lv_at hl 0 rfl) ?_
  refine lv_iconst hx hb ga_d1 (v := 0) (by decide) ?_
  have ec0 : (0 : Int32).toInt = 0 := by decide
  refine y_putf X (fw205 X.2.2.2.2.1) hY0 hI hY_this rfl rfl ⟨_, rfl, by show (0 : Int) ≤ _; omega, by show _ ≤ (1024 : Int); omega⟩ (by decide +kernel) ga_d2 fun H sl hI ho hs hk => ?_
  replace hs := hs
  have hs9 := hs
  refine lv_iconst hx hb ga_d5 (v := 1) (by decide) ?_
  have ec1 : (1 : Int32).toInt = 1 := by decide
  refine lv_iload_n hx hb ga_d6 rfl (lv_at hl 2 rfl) ?_
  refine lv_ishl hx hb ga_d7 ?_
  generalize hg_z10 : (1 : Int32) <<< (hills &&& 31) = z10
  refine lv_istore_n hx hb ga_d8 rfl hl (by decide) (lv' := [(3, .int z10), (0, .ref this), (1, .ref eyes), (2, .int hills)]) rfl fun ls hl => ?_
  refine lv_iconst hx hb ga_d9 (v := 0) (by decide) ?_
  refine lv_istore hx hb ga_d10 hl (by decide) (lv' := [(4, .int (0 : Int32)), (3, .int z10), (0, .ref this), (1, .ref eyes), (2, .int hills)]) rfl fun ls hl => ?_
  exact ga_loop B 2000 _ _ _ _ _ _ hI hY_this hY_eyes hl hs9 (by omega) (by omega) (by omega) (by omega) (by omega)

