theorem fl_nx_214 {s : State} {args : Array Value} (hts : ∀ w ∈ x_Tb, w.before args s = true) : x_fok vwCl x_G x_Tb s args "TwinFires$Text" (15, 4, 1) := ⟨7, _, RX7, TX7, "TwinFires$Text", rfl, rfl, Nat.le_of_ble_eq_true rfl, iX7, (hts _ (x_bw10 8 rfl rfl)), fun x h => h⟩
def xMni : xM := (⟨"TwinFires$Text", "nextItem", "()I"⟩, prog_9_method_4_code, 4, some .int, [xR false [4]], [([xR false [4]], some (xF))], [(4, 3), (4, 4), (40, 0)], (6, 128, 0, 0), none)
theorem nx_d0 : decode xMni.2.1 0 = .ok (.aload_n 0, 1) := dz_ok (by decide +kernel)
theorem nx_d1 : decode xMni.2.1 1 = .ok (.invokevirtual 29, 3) := dz_ok (by decide +kernel)
theorem nx_d4 : decode xMni.2.1 4 = .ok (.istore_n 1, 1) := dz_ok (by decide +kernel)
theorem nx_d5 : decode xMni.2.1 5 = .ok (.iload_n 1, 1) := dz_ok (by decide +kernel)
theorem nx_d6 : decode xMni.2.1 6 = .ok (.ifCond .ne 5, 3) := dz_ok (by decide +kernel)
theorem nx_d9 : decode xMni.2.1 9 = .ok (.iconst (-1), 1) := dz_ok (by decide +kernel)
theorem nx_d10 : decode xMni.2.1 10 = .ok (.ireturn, 1) := dz_ok (by decide +kernel)
theorem nx_d11 : decode xMni.2.1 11 = .ok (.iload_n 1, 1) := dz_ok (by decide +kernel)
theorem nx_d12 : decode xMni.2.1 12 = .ok (.iconst 1, 1) := dz_ok (by decide +kernel)
theorem nx_d13 : decode xMni.2.1 13 = .ok (.if_icmp .ne 10, 3) := dz_ok (by decide +kernel)
theorem nx_d16 : decode xMni.2.1 16 = .ok (.aload_n 0, 1) := dz_ok (by decide +kernel)
theorem nx_d17 : decode xMni.2.1 17 = .ok (.invokevirtual 33, 3) := dz_ok (by decide +kernel)
theorem nx_d20 : decode xMni.2.1 20 = .ok (.goto 4, 3) := dz_ok (by decide +kernel)
theorem nx_d23 : decode xMni.2.1 23 = .ok (.iconst (-1), 1) := dz_ok (by decide +kernel)
theorem nx_d24 : decode xMni.2.1 24 = .ok (.istore_n 2, 1) := dz_ok (by decide +kernel)
theorem nx_d25 : decode xMni.2.1 25 = .ok (.iload_n 2, 1) := dz_ok (by decide +kernel)
theorem nx_d26 : decode xMni.2.1 26 = .ok (.iconst (-1), 1) := dz_ok (by decide +kernel)
theorem nx_d27 : decode xMni.2.1 27 = .ok (.if_icmp .ne 11, 3) := dz_ok (by decide +kernel)
theorem nx_d30 : decode xMni.2.1 30 = .ok (.bipush (-10), 2) := dz_ok (by decide +kernel)
theorem nx_d32 : decode xMni.2.1 32 = .ok (.aload_n 0, 1) := dz_ok (by decide +kernel)
theorem nx_d33 : decode xMni.2.1 33 = .ok (.getfield 36, 3) := dz_ok (by decide +kernel)
theorem nx_d36 : decode xMni.2.1 36 = .ok (.isub, 1) := dz_ok (by decide +kernel)
theorem nx_d37 : decode xMni.2.1 37 = .ok (.ireturn, 1) := dz_ok (by decide +kernel)
theorem nx_d38 : decode xMni.2.1 38 = .ok (.aload_n 0, 1) := dz_ok (by decide +kernel)
theorem nx_d39 : decode xMni.2.1 39 = .ok (.getfield 15, 3) := dz_ok (by decide +kernel)
theorem nx_d42 : decode xMni.2.1 42 = .ok (.iconst 0, 1) := dz_ok (by decide +kernel)
theorem nx_d43 : decode xMni.2.1 43 = .ok (.invokestatic 39, 3) := dz_ok (by decide +kernel)
theorem nx_d46 : decode xMni.2.1 46 = .ok (.iconst 0, 1) := dz_ok (by decide +kernel)
theorem nx_d47 : decode xMni.2.1 47 = .ok (.istore_n 3, 1) := dz_ok (by decide +kernel)
theorem nx_d48 : decode xMni.2.1 48 = .ok (.iload_n 3, 1) := dz_ok (by decide +kernel)
theorem nx_d49 : decode xMni.2.1 49 = .ok (.getstatic 45, 3) := dz_ok (by decide +kernel)
theorem nx_d52 : decode xMni.2.1 52 = .ok (.iload_n 2, 1) := dz_ok (by decide +kernel)
theorem nx_d53 : decode xMni.2.1 53 = .ok (.iaload, 1) := dz_ok (by decide +kernel)
theorem nx_d54 : decode xMni.2.1 54 = .ok (.if_icmp .ge 35, 3) := dz_ok (by decide +kernel)
theorem nx_d57 : decode xMni.2.1 57 = .ok (.aload_n 0, 1) := dz_ok (by decide +kernel)
theorem nx_d58 : decode xMni.2.1 58 = .ok (.invokevirtual 29, 3) := dz_ok (by decide +kernel)
theorem nx_d61 : decode xMni.2.1 61 = .ok (.iconst 2, 1) := dz_ok (by decide +kernel)
theorem nx_d62 : decode xMni.2.1 62 = .ok (.if_icmp .eq 11, 3) := dz_ok (by decide +kernel)
theorem nx_d65 : decode xMni.2.1 65 = .ok (.bipush (-10), 2) := dz_ok (by decide +kernel)
theorem nx_d67 : decode xMni.2.1 67 = .ok (.aload_n 0, 1) := dz_ok (by decide +kernel)
theorem nx_d68 : decode xMni.2.1 68 = .ok (.getfield 36, 3) := dz_ok (by decide +kernel)
theorem nx_d71 : decode xMni.2.1 71 = .ok (.isub, 1) := dz_ok (by decide +kernel)
theorem nx_d72 : decode xMni.2.1 72 = .ok (.ireturn, 1) := dz_ok (by decide +kernel)
theorem nx_d73 : decode xMni.2.1 73 = .ok (.aload_n 0, 1) := dz_ok (by decide +kernel)
theorem nx_d74 : decode xMni.2.1 74 = .ok (.getfield 15, 3) := dz_ok (by decide +kernel)
theorem nx_d77 : decode xMni.2.1 77 = .ok (.iload_n 3, 1) := dz_ok (by decide +kernel)
theorem nx_d78 : decode xMni.2.1 78 = .ok (.aload_n 0, 1) := dz_ok (by decide +kernel)
theorem nx_d79 : decode xMni.2.1 79 = .ok (.invokevirtual 48, 3) := dz_ok (by decide +kernel)
theorem nx_d82 : decode xMni.2.1 82 = .ok (.iastore, 1) := dz_ok (by decide +kernel)
theorem nx_d83 : decode xMni.2.1 83 = .ok (.iinc 3 1, 3) := dz_ok (by decide +kernel)
theorem nx_d86 : decode xMni.2.1 86 = .ok (.goto (-38), 3) := dz_ok (by decide +kernel)
theorem nx_d89 : decode xMni.2.1 89 = .ok (.aload_n 0, 1) := dz_ok (by decide +kernel)
theorem nx_d90 : decode xMni.2.1 90 = .ok (.invokevirtual 29, 3) := dz_ok (by decide +kernel)
theorem nx_d93 : decode xMni.2.1 93 = .ok (.iconst 3, 1) := dz_ok (by decide +kernel)
theorem nx_d94 : decode xMni.2.1 94 = .ok (.if_icmp .ne 7, 3) := dz_ok (by decide +kernel)
theorem nx_d97 : decode xMni.2.1 97 = .ok (.iload_n 2, 1) := dz_ok (by decide +kernel)
theorem nx_d98 : decode xMni.2.1 98 = .ok (.goto 10, 3) := dz_ok (by decide +kernel)
theorem nx_d101 : decode xMni.2.1 101 = .ok (.bipush (-10), 2) := dz_ok (by decide +kernel)
theorem nx_d103 : decode xMni.2.1 103 = .ok (.aload_n 0, 1) := dz_ok (by decide +kernel)
theorem nx_d104 : decode xMni.2.1 104 = .ok (.getfield 36, 3) := dz_ok (by decide +kernel)
theorem nx_d107 : decode xMni.2.1 107 = .ok (.isub, 1) := dz_ok (by decide +kernel)
theorem nx_d108 : decode xMni.2.1 108 = .ok (.ireturn, 1) := dz_ok (by decide +kernel)
theorem nx_L48 {p : Program} {l : Launch} {e : Env} {s : State} {m : MethodId} {below : List Frame} {meth : Method} {c : Code} {D : va_G} {U : State} {Y0 : xY} {av : List Value} (B : y_B vwCl x_Tb x_Nb xMni p s m meth c D U Y0 av) {this : Nat} {item : Int32} {tok : Int32} (hit : 0 ≤ item.toInt ∧ item.toInt ≤ 9)  :
    ∀ (n : Nat), ∀ (H : Heap) (Y : xY) (locs : List Loc) (ls : Array Slot) (k : Int32), x_I D x_G x_Zs U (x_efs xMni) Y0 s.heap Y H locs → Y this = some 4 → lv_has ls xMni.2.2.1 [(3, .int k), (2, .int item), (1, .int tok), (0, .ref this)] → (0 ≤ k.toInt ∧ k.toInt ≤ 4) → (5 - k.toInt).toNat < n → W p l e (x_rm xMni) s m av.toArray below meth c H locs 0 0 (y_QQ below D x_G x_Zs U xMni y_TP av Y0 s) (F0 m 48 ls []) := by
  have X := B.1
  have hx := X.1
  have hb := X.2.1
  have hY0 := B.2.2.2.2.1
  intro n
  induction n with
  | zero => intro _ _ _ _ _ _ _ _ _ h; exact absurd h (Nat.not_lt_zero _)
  | succ n ih =>
    intro H Y locs ls k  hI hY_this hl hk hn
    refine lv_iload_n hx hb nx_d48 rfl (lv_at hl 0 rfl) ?_
    refine z_gets (z := x_Zs[2]) X (List.mem_of_getElem? (i := 2) rfl) (X.2.2.2.2.1 _ (x_bw41 0 rfl rfl)) hI.1 nx_d49 fun b49 f_b49 hT_b49 hR_b49 => ?_
    refine lv_iload_n hx hb nx_d52 rfl (lv_at hl 1 rfl) ?_
    refine z_tld X hT_b49 (by omega) (by show _ < (10 : Int); omega) nx_d53 ?_
    obtain ⟨e53, hg_e53⟩ : ∃ e53 : Int32, f_b49 item.toInt.toNat = e53 := ⟨_, rfl⟩
    rw [hg_e53]
    have h_e53 : (0 : Int) ≤ e53.toInt ∧ e53.toInt ≤ 4 := by rw [← hg_e53]; exact hR_b49 _ (by show _ < 10; omega)
    refine lv_icmp_ge hx hb nx_d54 (tgt := 89) (by decide) (fun q54 => ?_) (fun q54 => ?_)
    · have q54_ : e53.toInt ≤ k.toInt := x_le32.mp q54
      refine lv_aload_n hx hb nx_d89 rfl (lv_at hl 3 rfl) ?_
      refine y_call (z := (0, 29, 1, some 4, xM64)) (av := [.ref this]) (rest := []) (y_cok.of (x_cokV (n := 0) (ci := 7) X xm64 rfl rfl rfl (x_cons (x_bw36 2 rfl rfl) (x_cons (x_bw36 4 rfl rfl) (x_cons (x_at 8 (by decide +kernel) rfl) (x_cons (x_bw0 5 rfl rfl) x_nilm)))) (x_bw36 5 rfl rfl) (by decide +kernel) ⟨Nat.le_of_ble_eq_true rfl, Nat.le_of_ble_eq_true rfl⟩)) hY0 hI rfl nx_d90 hl.1 (Nat.le_of_ble_eq_true rfl) (Nat.le_of_ble_eq_true rfl) (Nat.le_of_ble_eq_true rfl) (y_cons (y_cref hY_this rfl) y_nil) rfl (y_recv rfl hY_this) trivial (y_sub_ef rfl) fun v Yn o Hn L ho hr ha hIn hx_ hE hP => ?_
      replace hY_this := y_ext hx_ hI.1 hY_this
      obtain ⟨r90, rfl, h_r90⟩ := y_ansI (lo := 0) (hi := 4) (by decide) ho hr
      clear ho hr ha hE hP hI hx_
      rename x_I _ _ _ _ _ _ _ _ _ _ => hI
      refine lv_iconst hx hb nx_d93 (v := 3) (by decide) ?_
      have ec3 : (3 : Int32).toInt = 3 := by decide
      refine lv_icmp_ne hx hb nx_d94 (tgt := 101) (by decide) (fun q94 => ?_) (fun q94 => ?_)
      · have q94_ : ¬ r90.toInt = (3 : Int32).toInt := fun q => q94 (Int32.toInt_inj.mp q)
        refine lv_bipush hx hb nx_d101 (v := (-10)) (by decide) ?_
        have ecm10 : ((-10) : Int32).toInt = (-10) := by decide
        refine lv_aload_n hx hb nx_d103 rfl (lv_at hl 3 rfl) ?_
        obtain ⟨tokenAt_104, hs_this_tokenAt, h_tokenAt_104⟩ := y_fldI (k := 3) hI.1 hY_this rfl rfl
        replace h_tokenAt_104 : (0 : Int) ≤ tokenAt_104.toInt ∧ tokenAt_104.toInt ≤ 240 := h_tokenAt_104
        refine y_getf X (fl133 X.2.2.2.2.1) hI.1 hY_this rfl hs_this_tokenAt nx_d104 ?_
        refine lv_isub hx hb nx_d107 ?_
        generalize hg_z107 : ((-10) : Int32) - tokenAt_104 = z107
        exact y_ireturn B hI rfl rfl rfl List.mem_cons_self ⟨_, rfl, ⟨_, rfl, x_i32 _⟩⟩ (x_cs.mono B.2.2.2.2.2 (y_mon B hI)) trivial (Nat.le_refl _) (Nat.le_refl _) nx_d108
      · have q94_ : r90.toInt = (3 : Int32).toInt := by rw [q94]
        refine lv_iload_n hx hb nx_d97 rfl (lv_at hl 1 rfl) ?_
        refine lv_goto hx hb nx_d98 (tgt := 108) (by decide) ?_
        exact y_ireturn B hI rfl rfl rfl List.mem_cons_self ⟨_, rfl, ⟨_, rfl, x_i32 _⟩⟩ (x_cs.mono B.2.2.2.2.2 (y_mon B hI)) trivial (Nat.le_refl _) (Nat.le_refl _) nx_d108
    · have q54_ : k.toInt < e53.toInt := Int.not_le.mp fun q => q54 (x_le32.mpr q)
      refine lv_aload_n hx hb nx_d57 rfl (lv_at hl 3 rfl) ?_
      refine y_call (z := (0, 29, 1, some 4, xM64)) (av := [.ref this]) (rest := []) (y_cok.of (x_cokV (n := 0) (ci := 7) X xm64 rfl rfl rfl (x_cons (x_bw36 2 rfl rfl) (x_cons (x_bw36 4 rfl rfl) (x_cons (x_at 8 (by decide +kernel) rfl) (x_cons (x_bw0 5 rfl rfl) x_nilm)))) (x_bw36 5 rfl rfl) (by decide +kernel) ⟨Nat.le_of_ble_eq_true rfl, Nat.le_of_ble_eq_true rfl⟩)) hY0 hI rfl nx_d58 hl.1 (Nat.le_of_ble_eq_true rfl) (Nat.le_of_ble_eq_true rfl) (Nat.le_of_ble_eq_true rfl) (y_cons (y_cref hY_this rfl) y_nil) rfl (y_recv rfl hY_this) trivial (y_sub_ef rfl) fun v Yn o Hn L ho hr ha hIn hx_ hE hP => ?_
      replace hY_this := y_ext hx_ hI.1 hY_this
      obtain ⟨r58, rfl, h_r58⟩ := y_ansI (lo := 0) (hi := 4) (by decide) ho hr
      clear ho hr ha hE hP hI hx_
      rename x_I _ _ _ _ _ _ _ _ _ _ => hI
      refine lv_iconst hx hb nx_d61 (v := 2) (by decide) ?_
      have ec2 : (2 : Int32).toInt = 2 := by decide
      refine lv_icmp_eq hx hb nx_d62 (tgt := 73) (by decide) (fun q62 => ?_) (fun q62 => ?_)
      · have q62_ : r58.toInt = (2 : Int32).toInt := by rw [q62]
        refine lv_aload_n hx hb nx_d73 rfl (lv_at hl 3 rfl) ?_
        obtain ⟨this_numbers, hs_this_numbers, hY_this_numbers⟩ := y_fldR (k := 1) hI.1 hY_this rfl rfl
        refine y_getf X (fl_nx_214 X.2.2.2.2.1) hI.1 hY_this rfl hs_this_numbers nx_d74 ?_
        refine lv_iload_n hx hb nx_d77 rfl (lv_at hl 0 rfl) ?_
        refine lv_aload_n hx hb nx_d78 rfl (lv_at hl 3 rfl) ?_
        refine y_call (z := (0, 48, 1, some 4, xM65)) (av := [.ref this]) (rest := [.int k, .ref this_numbers]) (y_cok.of (x_cokV (n := 0) (ci := 7) X xm65 rfl rfl rfl (x_cons (x_bw41 2 rfl rfl) (x_cons (x_bw41 4 rfl rfl) (x_cons (x_at 12 (by decide +kernel) rfl) (x_cons (x_bw0 5 rfl rfl) x_nilm)))) (x_bw41 5 rfl rfl) (by decide +kernel) ⟨Nat.le_of_ble_eq_true rfl, Nat.le_of_ble_eq_true rfl⟩)) hY0 hI rfl nx_d79 hl.1 (Nat.le_of_ble_eq_true rfl) (Nat.le_of_ble_eq_true rfl) (Nat.le_of_ble_eq_true rfl) (y_cons (y_cref hY_this rfl) y_nil) rfl (y_recv rfl hY_this) trivial (y_sub_ef rfl) fun v Yn o Hn L ho hr ha hIn hx_ hE hP => ?_
        replace hs_this_numbers := y_Efld hE hY_this rfl (by decide) (by decide) hs_this_numbers
        replace hY_this := y_ext hx_ hI.1 hY_this
        replace hY_this_numbers := y_ext hx_ hI.1 hY_this_numbers
        obtain ⟨r79, rfl, h_r79⟩ := y_ansI (lo := (-2147483648)) (hi := 2147483647) (by decide) ho hr
        clear ho hr ha hE hP hI hx_
        rename x_I _ _ _ _ _ _ _ _ _ _ => hI
        obtain ⟨f_this_numbers, hA_this_numbers, hB_this_numbers⟩ := y_arr hI.1 hY_this_numbers rfl rfl
        refine y_iast X hY0 hI hY_this_numbers rfl hA_this_numbers (by omega) (by show _ < (4 : Int); omega) ⟨_, rfl, x_i32 _⟩ (by decide +kernel) nx_d82 fun H locs hI h_new ho => ?_
        replace hA_this_numbers := h_new
        generalize hf_f82 : y_up f_this_numbers k.toInt.toNat r79 = f82 at hA_this_numbers
        replace hs_this_numbers := y_slk hs_this_numbers (ho _ (y_ne hY_this hY_this_numbers rfl))
        obtain ⟨z83, hg_z83⟩ : ∃ z83 : Int32, k + Int32.ofInt 1 = z83 := ⟨_, rfl⟩
        have h_z83 : z83.toInt = k.toInt + 1 := by rw [← hg_z83]; exact y_inc (by decide) (by omega) (by omega)
        refine lv_iinc hx hb nx_d83 hl (k := 0) rfl hg_z83 (by decide) (lv' := [(3, .int z83), (2, .int item), (1, .int tok), (0, .ref this)]) rfl fun ls hl => ?_
        refine lv_goto hx hb nx_d86 (tgt := 48) (by decide) ?_
        exact ih _ _ _ _ _ hI hY_this (lv_sub hl [0, 1, 2, 3] rfl) (by first | assumption | omega) (by omega)
      · have q62_ : ¬ r58.toInt = (2 : Int32).toInt := fun q => q62 (Int32.toInt_inj.mp q)
        refine lv_bipush hx hb nx_d65 (v := (-10)) (by decide) ?_
        have ecm10 : ((-10) : Int32).toInt = (-10) := by decide
        refine lv_aload_n hx hb nx_d67 rfl (lv_at hl 3 rfl) ?_
        obtain ⟨tokenAt_68, hs_this_tokenAt, h_tokenAt_68⟩ := y_fldI (k := 3) hI.1 hY_this rfl rfl
        replace h_tokenAt_68 : (0 : Int) ≤ tokenAt_68.toInt ∧ tokenAt_68.toInt ≤ 240 := h_tokenAt_68
        refine y_getf X (fl133 X.2.2.2.2.1) hI.1 hY_this rfl hs_this_tokenAt nx_d68 ?_
        refine lv_isub hx hb nx_d71 ?_
        generalize hg_z71 : ((-10) : Int32) - tokenAt_68 = z71
        exact y_ireturn B hI rfl rfl rfl List.mem_cons_self ⟨_, rfl, ⟨_, rfl, x_i32 _⟩⟩ (x_cs.mono B.2.2.2.2.2 (y_mon B hI)) trivial (Nat.le_refl _) (Nat.le_refl _) nx_d72
theorem ym_nextItem : y_Met vwCl x_G x_Zs x_Tb x_Nb xMni y_T y_TP := by
  refine y_main (by decide +kernel) (by decide +kernel) x_Tb_good x_Nb_ok ?_
  intro p l e s m below meth c D U Y0 av ls B hI _ hl
  have X := B.1
  have hx := X.1
  have hb := X.2.1
  have hY0 := B.2.2.2.2.1
  obtain ⟨v0, rfl, hv0⟩ := x_one B.2.2.2.2.2
  obtain ⟨this, t0, rfl, ht0, hY_this⟩ := x_ref_at hv0 rfl
  obtain rfl := List.mem_singleton.mp ht0
  replace hl : lv_has ls xMni.2.2.1 [(0, .ref this)] := hl
  refine lv_aload_n hx hb nx_d0 rfl (lv_at hl 0 rfl) ?_
  refine y_call (z := (0, 29, 1, some 4, xM64)) (av := [.ref this]) (rest := []) (y_cok.of (x_cokV (n := 0) (ci := 7) X xm64 rfl rfl rfl (x_cons (x_bw36 2 rfl rfl) (x_cons (x_bw36 4 rfl rfl) (x_cons (x_at 8 (by decide +kernel) rfl) (x_cons (x_bw0 5 rfl rfl) x_nilm)))) (x_bw36 5 rfl rfl) (by decide +kernel) ⟨Nat.le_of_ble_eq_true rfl, Nat.le_of_ble_eq_true rfl⟩)) hY0 hI rfl nx_d1 hl.1 (Nat.le_of_ble_eq_true rfl) (Nat.le_of_ble_eq_true rfl) (Nat.le_of_ble_eq_true rfl) (y_cons (y_cref hY_this rfl) y_nil) rfl (y_recv rfl hY_this) trivial (y_sub_ef rfl) fun v Yn o Hn L ho hr ha hIn hx_ hE hP => ?_
  replace hY_this := y_ext hx_ hI.1 hY_this
  obtain ⟨r1, rfl, h_r1⟩ := y_ansI (lo := 0) (hi := 4) (by decide) ho hr
  clear ho hr ha hE hP hI hx_
  rename x_I _ _ _ _ _ _ _ _ _ _ => hI
  refine lv_istore_n hx hb nx_d4 rfl hl (by decide) (lv' := [(1, .int r1), (0, .ref this)]) rfl fun ls hl => ?_
  refine lv_iload_n hx hb nx_d5 rfl (lv_at hl 0 rfl) ?_
  have ec0 : (0 : Int32).toInt = 0 := by decide
  refine lv_if_ne hx hb nx_d6 (tgt := 11) (by decide) (fun q6 => ?_) (fun q6 => ?_)
  · have q6_ : ¬ r1.toInt = (0 : Int32).toInt := fun q => q6 (Int32.toInt_inj.mp q)
    refine lv_iload_n hx hb nx_d11 rfl (lv_at hl 0 rfl) ?_
    refine lv_iconst hx hb nx_d12 (v := 1) (by decide) ?_
    have ec1 : (1 : Int32).toInt = 1 := by decide
    refine lv_icmp_ne hx hb nx_d13 (tgt := 23) (by decide) (fun q13 => ?_) (fun q13 => ?_)
    · have q13_ : ¬ r1.toInt = (1 : Int32).toInt := fun q => q13 (Int32.toInt_inj.mp q)
      refine lv_iconst hx hb nx_d23 (v := (-1)) (by decide) ?_
      have ecm1 : ((-1) : Int32).toInt = (-1) := by decide
      refine lv_istore_n hx hb nx_d24 rfl hl (by decide) (lv' := [(2, .int ((-1) : Int32)), (1, .int r1), (0, .ref this)]) rfl fun ls hl => ?_
      refine lv_iload_n hx hb nx_d25 rfl (lv_at hl 0 rfl) ?_
      refine lv_iconst hx hb nx_d26 (v := (-1)) (by decide) ?_
      refine lv_icmp_ne hx hb nx_d27 (tgt := 38) (by decide) (fun q27 => ?_) (fun q27 => ?_)
      · have q27_ : ¬ ((-1) : Int32).toInt = ((-1) : Int32).toInt := fun q => q27 (Int32.toInt_inj.mp q)
        refine lv_aload_n hx hb nx_d38 rfl (lv_at hl 2 rfl) ?_
        obtain ⟨this_numbers, hs_this_numbers, hY_this_numbers⟩ := y_fldR (k := 1) hI.1 hY_this rfl rfl
        refine y_getf X (fl_nx_214 X.2.2.2.2.1) hI.1 hY_this rfl hs_this_numbers nx_d39 ?_
        refine lv_iconst hx hb nx_d42 (v := 0) (by decide) ?_
        refine y_call (z := (1, 39, 2, none, xM1017)) (av := [.ref this_numbers, .int (0 : Int32)]) (rest := []) (y_cok.of (x_cokS (n := 2) X xm1017 (x_cons (x_bw40 15 rfl rfl) (x_cons (x_bw2 7 rfl rfl) (x_cons (x_bw0 3 rfl rfl) x_nilm))) (x_bw2 8 rfl rfl) (by decide +kernel) ⟨Nat.le_of_ble_eq_true rfl, Nat.le_of_ble_eq_true rfl⟩)) hY0 hI rfl nx_d43 hl.1 (Nat.le_of_ble_eq_true rfl) (Nat.le_of_ble_eq_true rfl) (Nat.le_of_ble_eq_true rfl) (y_cons (y_cref hY_this_numbers rfl) (y_cons ⟨_, rfl, by show (0 : Int) ≤ _; omega, by show _ ≤ (0 : Int); omega⟩ y_nil)) rfl (y_norecv rfl) trivial (y_sub_ef rfl) fun v Yn o Hn L ho hr ha hIn hx_ hE hP => ?_
        replace hs_this_numbers := y_Efld hE hY_this rfl (by decide) (by decide) hs_this_numbers
        replace hY_this := y_ext hx_ hI.1 hY_this
        replace hY_this_numbers := y_ext hx_ hI.1 hY_this_numbers
        obtain rfl := y_ansV rfl ho hr
        clear ho hr ha hE hP hI hx_
        rename x_I _ _ _ _ _ _ _ _ _ _ => hI
        refine lv_iconst hx hb nx_d46 (v := 0) (by decide) ?_
        refine lv_istore_n hx hb nx_d47 rfl hl (by decide) (lv' := [(3, .int (0 : Int32)), (2, .int ((-1) : Int32)), (1, .int r1), (0, .ref this)]) rfl fun ls hl => ?_
        exact nx_L48 B (by omega) 6 _ _ _ _ _ hI hY_this (lv_sub hl [0, 1, 2, 3] rfl) (by first | assumption | omega) (by omega)
      · have q27_ : ((-1) : Int32).toInt = ((-1) : Int32).toInt := by rw [q27]
        refine lv_bipush hx hb nx_d30 (v := (-10)) (by decide) ?_
        have ecm10 : ((-10) : Int32).toInt = (-10) := by decide
        refine lv_aload_n hx hb nx_d32 rfl (lv_at hl 2 rfl) ?_
        obtain ⟨tokenAt_33, hs_this_tokenAt, h_tokenAt_33⟩ := y_fldI (k := 3) hI.1 hY_this rfl rfl
        replace h_tokenAt_33 : (0 : Int) ≤ tokenAt_33.toInt ∧ tokenAt_33.toInt ≤ 240 := h_tokenAt_33
        refine y_getf X (fl133 X.2.2.2.2.1) hI.1 hY_this rfl hs_this_tokenAt nx_d33 ?_
        refine lv_isub hx hb nx_d36 ?_
        generalize hg_z36 : ((-10) : Int32) - tokenAt_33 = z36
        exact y_ireturn B hI rfl rfl rfl List.mem_cons_self ⟨_, rfl, ⟨_, rfl, x_i32 _⟩⟩ (x_cs.mono B.2.2.2.2.2 (y_mon B hI)) trivial (Nat.le_refl _) (Nat.le_refl _) nx_d37
    · have q13_ : r1.toInt = (1 : Int32).toInt := by rw [q13]
      refine lv_aload_n hx hb nx_d16 rfl (lv_at hl 1 rfl) ?_
      refine y_call (z := (0, 33, 1, some 4, xMih)) (av := [.ref this]) (rest := []) (y_cokV (n := 0) (ci := 7) X ym_itemHere rfl rfl rfl (x_cons (x_bw36 10 rfl rfl) (x_cons (x_bw36 12 rfl rfl) (x_cons (x_at 10 (by decide +kernel) rfl) (x_cons (x_bw0 5 rfl rfl) x_nilm)))) (x_bw36 13 rfl rfl) (by decide +kernel) ⟨Nat.le_of_ble_eq_true rfl, Nat.le_of_ble_eq_true rfl⟩) hY0 hI rfl nx_d17 hl.1 (Nat.le_of_ble_eq_true rfl) (Nat.le_of_ble_eq_true rfl) (Nat.le_of_ble_eq_true rfl) (y_cons (y_cref hY_this rfl) y_nil) rfl (y_recv rfl hY_this) trivial (y_sub_ef rfl) fun v Yn o Hn L ho hr ha hIn hx_ hE hP => ?_
      replace hY_this := y_ext hx_ hI.1 hY_this
      obtain ⟨r17, rfl, h_r17⟩ := y_ansI (lo := (-1)) (hi := 9) (by decide) ho hr
      clear ho hr ha hE hP hI hx_
      rename x_I _ _ _ _ _ _ _ _ _ _ => hI
      refine lv_goto hx hb nx_d20 (tgt := 24) (by decide) ?_
      refine lv_istore_n hx hb nx_d24 rfl hl (by decide) (lv' := [(2, .int r17), (1, .int r1), (0, .ref this)]) rfl fun ls hl => ?_
      refine lv_iload_n hx hb nx_d25 rfl (lv_at hl 0 rfl) ?_
      refine lv_iconst hx hb nx_d26 (v := (-1)) (by decide) ?_
      have ecm1 : ((-1) : Int32).toInt = (-1) := by decide
      refine lv_icmp_ne hx hb nx_d27 (tgt := 38) (by decide) (fun q27 => ?_) (fun q27 => ?_)
      · have q27_ : ¬ r17.toInt = ((-1) : Int32).toInt := fun q => q27 (Int32.toInt_inj.mp q)
        refine lv_aload_n hx hb nx_d38 rfl (lv_at hl 2 rfl) ?_
        obtain ⟨this_numbers, hs_this_numbers, hY_this_numbers⟩ := y_fldR (k := 1) hI.1 hY_this rfl rfl
        refine y_getf X (fl_nx_214 X.2.2.2.2.1) hI.1 hY_this rfl hs_this_numbers nx_d39 ?_
        refine lv_iconst hx hb nx_d42 (v := 0) (by decide) ?_
        refine y_call (z := (1, 39, 2, none, xM1017)) (av := [.ref this_numbers, .int (0 : Int32)]) (rest := []) (y_cok.of (x_cokS (n := 2) X xm1017 (x_cons (x_bw40 15 rfl rfl) (x_cons (x_bw2 7 rfl rfl) (x_cons (x_bw0 3 rfl rfl) x_nilm))) (x_bw2 8 rfl rfl) (by decide +kernel) ⟨Nat.le_of_ble_eq_true rfl, Nat.le_of_ble_eq_true rfl⟩)) hY0 hI rfl nx_d43 hl.1 (Nat.le_of_ble_eq_true rfl) (Nat.le_of_ble_eq_true rfl) (Nat.le_of_ble_eq_true rfl) (y_cons (y_cref hY_this_numbers rfl) (y_cons ⟨_, rfl, by show (0 : Int) ≤ _; omega, by show _ ≤ (0 : Int); omega⟩ y_nil)) rfl (y_norecv rfl) trivial (y_sub_ef rfl) fun v Yn o Hn L ho hr ha hIn hx_ hE hP => ?_
        replace hs_this_numbers := y_Efld hE hY_this rfl (by decide) (by decide) hs_this_numbers
        replace hY_this := y_ext hx_ hI.1 hY_this
        replace hY_this_numbers := y_ext hx_ hI.1 hY_this_numbers
        obtain rfl := y_ansV rfl ho hr
        clear ho hr ha hE hP hI hx_
        rename x_I _ _ _ _ _ _ _ _ _ _ => hI
        refine lv_iconst hx hb nx_d46 (v := 0) (by decide) ?_
        refine lv_istore_n hx hb nx_d47 rfl hl (by decide) (lv' := [(3, .int (0 : Int32)), (2, .int r17), (1, .int r1), (0, .ref this)]) rfl fun ls hl => ?_
        exact nx_L48 B (by omega) 6 _ _ _ _ _ hI hY_this (lv_sub hl [0, 1, 2, 3] rfl) (by first | assumption | omega) (by omega)
      · have q27_ : r17.toInt = ((-1) : Int32).toInt := by rw [q27]
        refine lv_bipush hx hb nx_d30 (v := (-10)) (by decide) ?_
        have ecm10 : ((-10) : Int32).toInt = (-10) := by decide
        refine lv_aload_n hx hb nx_d32 rfl (lv_at hl 2 rfl) ?_
        obtain ⟨tokenAt_33, hs_this_tokenAt, h_tokenAt_33⟩ := y_fldI (k := 3) hI.1 hY_this rfl rfl
        replace h_tokenAt_33 : (0 : Int) ≤ tokenAt_33.toInt ∧ tokenAt_33.toInt ≤ 240 := h_tokenAt_33
        refine y_getf X (fl133 X.2.2.2.2.1) hI.1 hY_this rfl hs_this_tokenAt nx_d33 ?_
        refine lv_isub hx hb nx_d36 ?_
        generalize hg_z36 : ((-10) : Int32) - tokenAt_33 = z36
        exact y_ireturn B hI rfl rfl rfl List.mem_cons_self ⟨_, rfl, ⟨_, rfl, x_i32 _⟩⟩ (x_cs.mono B.2.2.2.2.2 (y_mon B hI)) trivial (Nat.le_refl _) (Nat.le_refl _) nx_d37
  · have q6_ : r1.toInt = (0 : Int32).toInt := by rw [q6]
    refine lv_iconst hx hb nx_d9 (v := (-1)) (by decide) ?_
    have ecm1 : ((-1) : Int32).toInt = (-1) := by decide
    exact y_ireturn B hI rfl rfl rfl List.mem_cons_self ⟨_, rfl, ⟨_, rfl, x_i32 _⟩⟩ (x_cs.mono B.2.2.2.2.2 (y_mon B hI)) trivial (Nat.le_refl _) (Nat.le_refl _) nx_d10
