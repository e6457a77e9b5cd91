theorem fw_ad_213 {s : State} {args : Array Value} {mn : String} (hts : ∀ w ∈ x_Tb, w.before args s = true) : x_pok vwCl x_G x_Tb s args "TwinFires$Text" mn (22, 4, 2) := ⟨7, _, RX7, TX7, "TwinFires$Text", tyX7, _, rfl, rfl, Nat.le_of_ble_eq_true rfl, iX7, (hts _ (x_bw10 10 rfl rfl)), fun x h => h, tyX7_ok, nmX7, rfl, x_fitI _ _, Or.inl rfl⟩
def xMih : xM := (⟨"TwinFires$Text", "itemHere", "()I"⟩, prog_9_method_8_code, 2, some .int, [xR false [4]], [([xR false [4]], some (xI (-1) 9))], [], (5, 107, 0, 0), none)
theorem ih_d0 : decode xMih.2.1 0 = .ok (.iconst 0, 1) := dz_ok (by decide +kernel)
theorem ih_d1 : decode xMih.2.1 1 = .ok (.istore_n 1, 1) := dz_ok (by decide +kernel)
theorem ih_d2 : decode xMih.2.1 2 = .ok (.iload_n 1, 1) := dz_ok (by decide +kernel)
theorem ih_d3 : decode xMih.2.1 3 = .ok (.bipush 10, 2) := dz_ok (by decide +kernel)
theorem ih_d5 : decode xMih.2.1 5 = .ok (.if_icmp .ge 22, 3) := dz_ok (by decide +kernel)
theorem ih_d8 : decode xMih.2.1 8 = .ok (.aload_n 0, 1) := dz_ok (by decide +kernel)
theorem ih_d9 : decode xMih.2.1 9 = .ok (.iload_n 1, 1) := dz_ok (by decide +kernel)
theorem ih_d10 : decode xMih.2.1 10 = .ok (.invokestatic 55, 3) := dz_ok (by decide +kernel)
theorem ih_d13 : decode xMih.2.1 13 = .ok (.invokevirtual 59, 3) := dz_ok (by decide +kernel)
theorem ih_d16 : decode xMih.2.1 16 = .ok (.ifCond .eq 5, 3) := dz_ok (by decide +kernel)
theorem ih_d19 : decode xMih.2.1 19 = .ok (.iload_n 1, 1) := dz_ok (by decide +kernel)
theorem ih_d20 : decode xMih.2.1 20 = .ok (.ireturn, 1) := dz_ok (by decide +kernel)
theorem ih_d21 : decode xMih.2.1 21 = .ok (.iinc 1 1, 3) := dz_ok (by decide +kernel)
theorem ih_d24 : decode xMih.2.1 24 = .ok (.goto (-22), 3) := dz_ok (by decide +kernel)
theorem ih_d27 : decode xMih.2.1 27 = .ok (.iconst (-1), 1) := dz_ok (by decide +kernel)
theorem ih_d28 : decode xMih.2.1 28 = .ok (.ireturn, 1) := dz_ok (by decide +kernel)
theorem ih_L2 {p : Program} {l : Launch} {e : Env} {s : State} {m : MethodId} {below : List Frame} {meth : Method} {c : Code} {D : va_G} {U : State} {Y0 : xY} {av : List Value} (B : y_B vwCl x_Tb x_Nb xMih p s m meth c D U Y0 av) {this : Nat}  :
    ∀ (n : Nat), ∀ (H : Heap) (Y : xY) (locs : List Loc) (ls : Array Slot) (item : Int32), x_I D x_G x_Zs U (x_efs xMih) Y0 s.heap Y H locs → Y this = some 4 → lv_has ls xMih.2.2.1 [(1, .int item), (0, .ref this)] → (0 ≤ item.toInt ∧ item.toInt ≤ 10) → (10 - item.toInt).toNat < n → W p l e (x_rm xMih) s m av.toArray below meth c H locs 0 0 (y_QQ below D x_G x_Zs U xMih y_TP av Y0 s) (F0 m 2 ls []) := by
  have X := B.1
  have hx := X.1
  have hb := X.2.1
  have hY0 := B.2.2.2.2.1
  intro n
  induction n with
  | zero => intro _ _ _ _ _ _ _ _ _ h; exact absurd h (Nat.not_lt_zero _)
  | succ n ih =>
    intro H Y locs ls item  hI hY_this hl hit hn
    refine lv_iload_n hx hb ih_d2 rfl (lv_at hl 0 rfl) ?_
    refine lv_bipush hx hb ih_d3 (v := 10) (by decide) ?_
    have ec10 : (10 : Int32).toInt = 10 := by decide
    refine lv_icmp_ge hx hb ih_d5 (tgt := 27) (by decide) (fun q5 => ?_) (fun q5 => ?_)
    · have q5_ : (10 : Int32).toInt ≤ item.toInt := x_le32.mp q5
      refine lv_iconst hx hb ih_d27 (v := (-1)) (by decide) ?_
      have ecm1 : ((-1) : Int32).toInt = (-1) := by decide
      exact y_ireturn B hI rfl rfl rfl List.mem_cons_self ⟨_, rfl, ⟨_, rfl, by show (-1 : Int) ≤ _; omega, by show _ ≤ (9 : Int); omega⟩⟩ (x_cs.mono B.2.2.2.2.2 (y_mon B hI)) trivial (Nat.le_refl _) (Nat.le_refl _) ih_d28
    · have q5_ : item.toInt < (10 : Int32).toInt := Int.not_le.mp fun q => q5 (x_le32.mpr q)
      refine lv_aload_n hx hb ih_d8 rfl (lv_at hl 1 rfl) ?_
      refine lv_iload_n hx hb ih_d9 rfl (lv_at hl 0 rfl) ?_
      refine p_runS (n := 1) (av := [.int item]) (rest := [.ref this]) (p_of X) pm7 ⟨item, Y, rfl, hI.1.2.2⟩ ⟨rfl, rfl⟩ (x_cons (x_bw36 14 rfl rfl) (x_cons (x_bw36 15 rfl rfl) (x_cons (x_bw0 5 rfl rfl) x_nilm))) (x_bw37 0 rfl rfl) (by decide +kernel) ⟨Nat.le_of_ble_eq_true rfl, Nat.le_of_ble_eq_true rfl⟩ rfl hl.1 (Nat.le_of_ble_eq_true rfl) (Nat.zero_le _) (Nat.zero_le _) ih_d10 fun v hv => ?_
      obtain ⟨A, q, b, n, f, rfl, hn, hS⟩ := hv
      refine p_runV (n := 1) (b := this) (As := [.ref q]) (rest := []) (p_of X) pm8 ⟨D, Y, this, q, b, n, A, f, rfl, X.2.2.2.2.2.2.1, hI.1, hY_this, hn, hS⟩ ⟨rfl, rfl⟩ (x_recv (q := (RX7, TX7, 5)) X.2.2.2.2.2.1 hI.1 hY_this rfl rfl) (x_cons (x_bw37 11 rfl rfl) (x_cons (x_bw37 13 rfl rfl) (x_cons (x_at 11 (by decide +kernel) rfl) (x_cons (x_bw0 5 rfl rfl) x_nilm)))) (x_bw37 14 rfl rfl) (by decide +kernel) ⟨Nat.le_of_ble_eq_true rfl, Nat.le_of_ble_eq_true rfl⟩ rfl hl.1 (Nat.le_of_ble_eq_true rfl) (Nat.zero_le _) (Nat.zero_le _) ih_d13 fun v hv => ?_
      obtain ⟨r13, rfl⟩ : ∃ r : Int32, v = some (.int r) := by rcases hv with h | h <;> exact ⟨_, h⟩
      have ec0 : (0 : Int32).toInt = 0 := by decide
      refine lv_if_eq hx hb ih_d16 (tgt := 21) (by decide) (fun q16 => ?_) (fun q16 => ?_)
      · have q16_ : r13.toInt = (0 : Int32).toInt := by rw [q16]
        obtain ⟨z21, hg_z21⟩ : ∃ z21 : Int32, item + Int32.ofInt 1 = z21 := ⟨_, rfl⟩
        have h_z21 : z21.toInt = item.toInt + 1 := by rw [← hg_z21]; exact y_inc (by decide) (by omega) (by omega)
        refine lv_iinc hx hb ih_d21 hl (k := 0) rfl hg_z21 (by decide) (lv' := [(1, .int z21), (0, .ref this)]) rfl fun ls hl => ?_
        refine lv_goto hx hb ih_d24 (tgt := 2) (by decide) ?_
        exact ih _ _ _ _ _ hI hY_this (lv_sub hl [0, 1] rfl) (by first | assumption | omega) (by omega)
      · have q16_ : ¬ r13.toInt = (0 : Int32).toInt := fun q => q16 (Int32.toInt_inj.mp q)
        refine lv_iload_n hx hb ih_d19 rfl (lv_at hl 0 rfl) ?_
        exact y_ireturn B hI rfl rfl rfl List.mem_cons_self ⟨_, rfl, ⟨_, rfl, by show (-1 : Int) ≤ _; omega, by show _ ≤ (9 : Int); omega⟩⟩ (x_cs.mono B.2.2.2.2.2 (y_mon B hI)) trivial (Nat.le_refl _) (Nat.le_refl _) ih_d20
theorem ym_itemHere : y_Met vwCl x_G x_Zs x_Tb x_Nb xMih y_T y_TP := by
  refine y_main (by decide +kernel) (by decide +kernel) x_Tb_good x_Nb_ok ?_
  intro p l e s m below meth c D U Y0 av ls B hI _ hl
  have X := B.1
  have hx := X.1
  have hb := X.2.1
  have hY0 := B.2.2.2.2.1
  obtain ⟨v0, rfl, hv0⟩ := x_one B.2.2.2.2.2
  obtain ⟨this, t0, rfl, ht0, hY_this⟩ := x_ref_at hv0 rfl
  obtain rfl := List.mem_singleton.mp ht0
  replace hl : lv_has ls xMih.2.2.1 [(0, .ref this)] := hl
  refine lv_iconst hx hb ih_d0 (v := 0) (by decide) ?_
  have ec0 : (0 : Int32).toInt = 0 := by decide
  refine lv_istore_n hx hb ih_d1 rfl hl (by decide) (lv' := [(1, .int (0 : Int32)), (0, .ref this)]) rfl fun ls hl => ?_
  exact ih_L2 B  12 _ _ _ _ _ hI hY_this (lv_sub hl [0, 1] rfl) (by first | assumption | omega) (by omega)
def xMad : xM := (⟨"TwinFires$Text", "add", "(JI)I"⟩, prog_9_method_2_code, 5, some .int, [xR false [4], xFL, xF], [([xR false [4], xFL, xF], some (xF))], [(4, 2), (39, 0)], (1, 22, 0, 0), none)
theorem ad_d0 : decode xMad.2.1 0 = .ok (.iload_n 3, 1) := dz_ok (by decide +kernel)
theorem ad_d1 : decode xMad.2.1 1 = .ok (.iconst 1, 1) := dz_ok (by decide +kernel)
theorem ad_d2 : decode xMad.2.1 2 = .ok (.bipush 8, 2) := dz_ok (by decide +kernel)
theorem ad_d4 : decode xMad.2.1 4 = .ok (.invokestatic 18, 3) := dz_ok (by decide +kernel)
theorem ad_d7 : decode xMad.2.1 7 = .ok (.ifCond .ne 6, 3) := dz_ok (by decide +kernel)
theorem ad_d10 : decode xMad.2.1 10 = .ok (.bipush (-2), 2) := dz_ok (by decide +kernel)
theorem ad_d12 : decode xMad.2.1 12 = .ok (.ireturn, 1) := dz_ok (by decide +kernel)
theorem ad_d13 : decode xMad.2.1 13 = .ok (.aload_n 0, 1) := dz_ok (by decide +kernel)
theorem ad_d14 : decode xMad.2.1 14 = .ok (.getfield 22, 3) := dz_ok (by decide +kernel)
theorem ad_d17 : decode xMad.2.1 17 = .ok (.iload_n 3, 1) := dz_ok (by decide +kernel)
theorem ad_d18 : decode xMad.2.1 18 = .ok (.iadd, 1) := dz_ok (by decide +kernel)
theorem ad_d19 : decode xMad.2.1 19 = .ok (.sipush 240, 3) := dz_ok (by decide +kernel)
theorem ad_d22 : decode xMad.2.1 22 = .ok (.if_icmp .le 6, 3) := dz_ok (by decide +kernel)
theorem ad_d25 : decode xMad.2.1 25 = .ok (.bipush (-4), 2) := dz_ok (by decide +kernel)
theorem ad_d27 : decode xMad.2.1 27 = .ok (.ireturn, 1) := dz_ok (by decide +kernel)
theorem ad_d28 : decode xMad.2.1 28 = .ok (.iload_n 3, 1) := dz_ok (by decide +kernel)
theorem ad_d29 : decode xMad.2.1 29 = .ok (.iconst 1, 1) := dz_ok (by decide +kernel)
theorem ad_d30 : decode xMad.2.1 30 = .ok (.isub, 1) := dz_ok (by decide +kernel)
theorem ad_d31 : decode xMad.2.1 31 = .ok (.istore 4, 2) := dz_ok (by decide +kernel)
theorem ad_d33 : decode xMad.2.1 33 = .ok (.iload 4, 2) := dz_ok (by decide +kernel)
theorem ad_d35 : decode xMad.2.1 35 = .ok (.ifCond .lt 40, 3) := dz_ok (by decide +kernel)
theorem ad_d38 : decode xMad.2.1 38 = .ok (.aload_n 0, 1) := dz_ok (by decide +kernel)
theorem ad_d39 : decode xMad.2.1 39 = .ok (.getfield 9, 3) := dz_ok (by decide +kernel)
theorem ad_d42 : decode xMad.2.1 42 = .ok (.aload_n 0, 1) := dz_ok (by decide +kernel)
theorem ad_d43 : decode xMad.2.1 43 = .ok (.getfield 22, 3) := dz_ok (by decide +kernel)
theorem ad_d46 : decode xMad.2.1 46 = .ok (.lload_n 1, 1) := dz_ok (by decide +kernel)
theorem ad_d47 : decode xMad.2.1 47 = .ok (.bipush 8, 2) := dz_ok (by decide +kernel)
theorem ad_d49 : decode xMad.2.1 49 = .ok (.iload 4, 2) := dz_ok (by decide +kernel)
theorem ad_d51 : decode xMad.2.1 51 = .ok (.imul, 1) := dz_ok (by decide +kernel)
theorem ad_d52 : decode xMad.2.1 52 = .ok (.lushr, 1) := dz_ok (by decide +kernel)
theorem ad_d53 : decode xMad.2.1 53 = .ok (.l2i, 1) := dz_ok (by decide +kernel)
theorem ad_d54 : decode xMad.2.1 54 = .ok (.sipush 255, 3) := dz_ok (by decide +kernel)
theorem ad_d57 : decode xMad.2.1 57 = .ok (.iand, 1) := dz_ok (by decide +kernel)
theorem ad_d58 : decode xMad.2.1 58 = .ok (.iastore, 1) := dz_ok (by decide +kernel)
theorem ad_d59 : decode xMad.2.1 59 = .ok (.aload_n 0, 1) := dz_ok (by decide +kernel)
theorem ad_d60 : decode xMad.2.1 60 = .ok (.dup, 1) := dz_ok (by decide +kernel)
theorem ad_d61 : decode xMad.2.1 61 = .ok (.getfield 22, 3) := dz_ok (by decide +kernel)
theorem ad_d64 : decode xMad.2.1 64 = .ok (.iconst 1, 1) := dz_ok (by decide +kernel)
theorem ad_d65 : decode xMad.2.1 65 = .ok (.iadd, 1) := dz_ok (by decide +kernel)
theorem ad_d66 : decode xMad.2.1 66 = .ok (.putfield 22, 3) := dz_ok (by decide +kernel)
theorem ad_d69 : decode xMad.2.1 69 = .ok (.iinc 4 (-1), 3) := dz_ok (by decide +kernel)
theorem ad_d72 : decode xMad.2.1 72 = .ok (.goto (-39), 3) := dz_ok (by decide +kernel)
theorem ad_d75 : decode xMad.2.1 75 = .ok (.aload_n 0, 1) := dz_ok (by decide +kernel)
theorem ad_d76 : decode xMad.2.1 76 = .ok (.getfield 22, 3) := dz_ok (by decide +kernel)
theorem ad_d79 : decode xMad.2.1 79 = .ok (.ireturn, 1) := dz_ok (by decide +kernel)
theorem ad_L33 {p : Program} {l : Launch} {e : Env} {s : State} {m : MethodId} {below : List Frame} {meth : Method} {c : Code} {D : va_G} {U : State} {Y0 : xY} {av : List Value} (B : y_B vwCl x_Tb x_Nb xMad p s m meth c D U Y0 av) {this : Nat} {v : Int64} {nn : Int32}  :
    ∀ (n : Nat), ∀ (H : Heap) (Y : xY) (locs : List Loc) (ls : Array Slot) (k : Int32) (ty : Int32), x_I D x_G x_Zs U (x_efs xMad) Y0 s.heap Y H locs → Y this = some 4 → x_sl D 7 2 this H = some (.int ty) → lv_has ls xMad.2.2.1 [(4, .int k), (0, .ref this), (1, .long v), (3, .int nn)] → (-1 ≤ k.toInt ∧ k.toInt ≤ 7) → (0 ≤ ty.toInt ∧ ty.toInt + k.toInt + 1 ≤ 240) → (k.toInt + 1).toNat < n → W p l e (x_rm xMad) s m av.toArray below meth c H locs 0 0 (y_QQ below D x_G x_Zs U xMad y_TP av Y0 s) (F0 m 33 ls []) := by
  have X := B.1
  have hx := X.1
  have hb := X.2.1
  have hY0 := B.2.2.2.2.1
  intro n
  induction n with
  | zero => intro _ _ _ _ _ _ _ _ _ _ _ _ h; exact absurd h (Nat.not_lt_zero _)
  | succ n ih =>
    intro H Y locs ls k ty  hI hY_this hsi_length hl hk hty hn
    refine lv_iload hx hb ad_d33 (lv_at hl 0 rfl) ?_
    have ec0 : (0 : Int32).toInt = 0 := by decide
    refine lv_if_lt hx hb ad_d35 (tgt := 75) (by decide) (fun q35 => ?_) (fun q35 => ?_)
    · have q35_ : k.toInt < (0 : Int32).toInt := x_lt32.mp q35
      refine lv_aload_n hx hb ad_d75 rfl (lv_at hl 1 rfl) ?_
      refine y_getf X (fl131 X.2.2.2.2.1) hI.1 hY_this rfl hsi_length ad_d76 ?_
      exact y_ireturn B hI rfl rfl rfl List.mem_cons_self ⟨_, rfl, ⟨_, rfl, x_i32 _⟩⟩ (x_cs.mono B.2.2.2.2.2 (y_mon B hI)) trivial (Nat.le_refl _) (Nat.le_refl _) ad_d79
    · have q35_ : (0 : Int32).toInt ≤ k.toInt := Int.not_lt.mp fun q => q35 (x_lt32.mpr q)
      refine lv_aload_n hx hb ad_d38 rfl (lv_at hl 1 rfl) ?_
      obtain ⟨this_bytes, hs_this_bytes, hY_this_bytes⟩ := y_fldR (k := 0) hI.1 hY_this rfl rfl
      refine y_getf X (fl130 X.2.2.2.2.1) hI.1 hY_this rfl hs_this_bytes ad_d39 ?_
      refine lv_aload_n hx hb ad_d42 rfl (lv_at hl 1 rfl) ?_
      refine y_getf X (fl131 X.2.2.2.2.1) hI.1 hY_this rfl hsi_length ad_d43 ?_
      refine lv_lload_n hx hb ad_d46 rfl (lv_at hl 2 rfl) ?_
      refine lv_bipush hx hb ad_d47 (v := 8) (by decide) ?_
      have ec8 : (8 : Int32).toInt = 8 := by decide
      refine lv_iload hx hb ad_d49 (lv_at hl 0 rfl) ?_
      refine lv_imul hx hb ad_d51 ?_
      generalize hg_z51 : (8 : Int32) * k = z51
      obtain ⟨z52, hg_z52⟩ : ∃ z52 : Int64, ((v).toUInt64 >>> ((z51).toInt64.toUInt64 &&& Int64.toUInt64 63)).toInt64 = z52 := ⟨_, rfl⟩
      refine lv_lushr hx hb ad_d52 (v := z52) hg_z52 ?_
      obtain ⟨z53, hg_z53⟩ : ∃ z53 : Int32, (z52).toInt32 = z53 := ⟨_, rfl⟩
      refine lv_l2i hx hb ad_d53 (v := z53) hg_z53 ?_
      refine lv_sipush hx hb ad_d54 (v := 255) (by decide) ?_
      have ec255 : (255 : Int32).toInt = 255 := by decide
      refine lv_iand hx hb ad_d57 ?_
      generalize hg_z57 : z53 &&& (255 : Int32) = z57
      obtain ⟨f_this_bytes, hA_this_bytes, hB_this_bytes⟩ := y_arr hI.1 hY_this_bytes rfl rfl
      refine y_iast X hY0 hI hY_this_bytes rfl hA_this_bytes (by omega) (by show _ < (240 : Int); omega) ⟨_, rfl, x_i32 _⟩ (by decide +kernel) ad_d58 fun H locs hI h_new ho => ?_
      replace hA_this_bytes := h_new
      generalize hf_f58 : y_up f_this_bytes ty.toInt.toNat z57 = f58 at hA_this_bytes
      replace hsi_length := y_slk hsi_length (ho _ (y_ne hY_this hY_this_bytes rfl))
      replace hs_this_bytes := y_slk hs_this_bytes (ho _ (y_ne hY_this hY_this_bytes rfl))
      refine lv_aload_n hx hb ad_d59 rfl (lv_at hl 1 rfl) ?_
      refine lv_dup hx hb ad_d60 rfl ?_
      refine y_getf X (fl131 X.2.2.2.2.1) hI.1 hY_this rfl hsi_length ad_d61 ?_
      refine lv_iconst hx hb ad_d64 (v := 1) (by decide) ?_
      have ec1 : (1 : Int32).toInt = 1 := by decide
      refine lv_iadd hx hb ad_d65 ?_
      generalize hg_z65 : ty + (1 : Int32) = z65
      have h_z65 : z65.toInt = ty.toInt + 1 := by rw [← hg_z65]; have := y_add (x := ty) (y := (1 : Int32)) (by rw [ec1]; omega) (by rw [ec1]; omega); rw [ec1] at this; exact this
      refine y_putf X (fw_ad_213 X.2.2.2.2.1) hY0 hI hY_this rfl rfl ⟨_, rfl, by show (0 : Int) ≤ _; omega, by show _ ≤ (240 : Int); omega⟩ (by decide +kernel) ad_d66 fun H sl hI ho hs hk => ?_
      replace hs_this_bytes := hk _ _ (by decide +kernel) (by decide) hs_this_bytes
      replace hA_this_bytes := hA_this_bytes.kept (ho _ (y_ne hY_this_bytes hY_this rfl))
      replace hs := hs
      replace hsi_length := hs
      obtain ⟨z69, hg_z69⟩ : ∃ z69 : Int32, k + Int32.ofInt (-1) = z69 := ⟨_, rfl⟩
      have h_z69 : z69.toInt = k.toInt + (-1) := by rw [← hg_z69]; exact y_inc (by decide) (by omega) (by omega)
      refine lv_iinc hx hb ad_d69 hl (k := 0) rfl hg_z69 (by decide) (lv' := [(4, .int z69), (0, .ref this), (1, .long v), (3, .int nn)]) rfl fun ls hl => ?_
      refine lv_goto hx hb ad_d72 (tgt := 33) (by decide) ?_
      exact ih _ _ _ _ _ _ hI hY_this hsi_length (lv_sub hl [0, 1, 2, 3] rfl) (by first | assumption | omega) (by first | assumption | omega) (by omega)
theorem ym_add : y_Met vwCl x_G x_Zs x_Tb x_Nb xMad y_T y_TP := by
  refine y_main (by decide +kernel) (by decide +kernel) x_Tb_good x_Nb_ok ?_
  intro p l e s m below meth c D U Y0 av ls B hI hpre hl
  have X := B.1
  have hx := X.1
  have hb := X.2.1
  have hY0 := B.2.2.2.2.1
  obtain ⟨v0, v1, v2, rfl, hv0, ⟨v, rfl, -⟩, ⟨nn, rfl, -⟩⟩ := y_three B.2.2.2.2.2
  obtain ⟨this, t0, rfl, ht0, hY_this⟩ := x_ref_at hv0 rfl
  obtain rfl := List.mem_singleton.mp ht0
  replace hl : lv_has ls xMad.2.2.1 [(0, .ref this), (1, .long v), (3, .int nn)] := hl
  obtain ⟨ty, hsi_length, h_ty⟩ := y_fldI (k := 2) hI.1 hY_this rfl rfl
  replace h_ty : (0 : Int) ≤ ty.toInt ∧ ty.toInt ≤ 240 := h_ty
  refine lv_iload_n hx hb ad_d0 rfl (lv_at hl 2 rfl) ?_
  refine lv_iconst hx hb ad_d1 (v := 1) (by decide) ?_
  have ec1 : (1 : Int32).toInt = 1 := by decide
  refine lv_bipush hx hb ad_d2 (v := 8) (by decide) ?_
  have ec8 : (8 : Int32).toInt = 8 := by decide
  refine y_call (z := (1, 18, 3, none, xM56)) (av := [.int nn, .int (1 : Int32), .int (8 : Int32)]) (rest := []) (y_cok.of (x_cokSN (n := 3) (host := "TwinFires") X xm56 (x_cons (x_bw19 1 rfl rfl) (x_cons (x_bw0 1 rfl rfl) x_nilm)) (x_bn34 6 rfl rfl) (x_bw19 2 rfl rfl) (by decide +kernel) ⟨Nat.le_of_ble_eq_true rfl, Nat.le_of_ble_eq_true rfl⟩)) hY0 hI rfl ad_d4 hl.1 (Nat.le_of_ble_eq_true rfl) (Nat.le_of_ble_eq_true rfl) (Nat.le_of_ble_eq_true rfl) (y_cons ⟨_, rfl, x_i32 _⟩ (y_cons ⟨_, rfl, by show (1 : Int) ≤ _; omega, by show _ ≤ (1 : Int); omega⟩ (y_cons ⟨_, rfl, by show (8 : Int) ≤ _; omega, by show _ ≤ (8 : Int); omega⟩ y_nil))) rfl (y_norecv rfl) trivial (y_sub_ef rfl) fun v Yn o Hn L ho hr ha hIn hx_ hE hP => ?_
  have hsi_length := y_Efld hE hY_this rfl (by decide) (by decide) hsi_length
  replace hY_this := y_ext hx_ hI.1 hY_this
  obtain ⟨r4, rfl, hin_r4⟩ := z_withR ho hr ha
  clear ho hr ha hE hP hI hx_
  rename x_I _ _ _ _ _ _ _ _ _ _ => hI
  have ec0 : (0 : Int32).toInt = 0 := by decide
  refine lv_if_ne hx hb ad_d7 (tgt := 13) (by decide) (fun q7 => ?_) (fun q7 => ?_)
  · have q7_ : ¬ r4.toInt = (0 : Int32).toInt := fun q => q7 (Int32.toInt_inj.mp q)
    have hnn := hin_r4 q7
    refine lv_aload_n hx hb ad_d13 rfl (lv_at hl 0 rfl) ?_
    refine y_getf X (fl131 X.2.2.2.2.1) hI.1 hY_this rfl hsi_length ad_d14 ?_
    refine lv_iload_n hx hb ad_d17 rfl (lv_at hl 2 rfl) ?_
    refine lv_iadd hx hb ad_d18 ?_
    generalize hg_z18 : ty + nn = z18
    have h_z18 : z18.toInt = ty.toInt + nn.toInt := by rw [← hg_z18]; have := y_add (x := ty) (y := nn) (by omega) (by omega); exact this
    refine lv_sipush hx hb ad_d19 (v := 240) (by decide) ?_
    have ec240 : (240 : Int32).toInt = 240 := by decide
    refine lv_icmp_le hx hb ad_d22 (tgt := 28) (by decide) (fun q22 => ?_) (fun q22 => ?_)
    · have q22_ : z18.toInt ≤ (240 : Int32).toInt := x_le32.mp q22
      refine lv_iload_n hx hb ad_d28 rfl (lv_at hl 2 rfl) ?_
      refine lv_iconst hx hb ad_d29 (v := 1) (by decide) ?_
      refine lv_isub hx hb ad_d30 ?_
      generalize hg_z30 : nn - (1 : Int32) = z30
      have h_z30 : z30.toInt = nn.toInt - 1 := by rw [← hg_z30]; have := y_sub (x := nn) (y := (1 : Int32)) (by rw [ec1]; omega) (by rw [ec1]; omega); rw [ec1] at this; exact this
      refine lv_istore hx hb ad_d31 hl (by decide) (lv' := [(4, .int z30), (0, .ref this), (1, .long v), (3, .int nn)]) rfl fun ls hl => ?_
      exact ad_L33 B  20 _ _ _ _ _ _ hI hY_this hsi_length (lv_sub hl [0, 1, 2, 3] rfl) (by first | assumption | omega) (by first | assumption | omega) (by omega)
    · have q22_ : (240 : Int32).toInt < z18.toInt := Int.not_le.mp fun q => q22 (x_le32.mpr q)
      refine lv_bipush hx hb ad_d25 (v := (-4)) (by decide) ?_
      have ecm4 : ((-4) : Int32).toInt = (-4) := by decide
      exact y_ireturn B hI rfl rfl rfl List.mem_cons_self ⟨_, rfl, ⟨_, rfl, x_i32 _⟩⟩ (x_cs.mono B.2.2.2.2.2 (y_mon B hI)) trivial (Nat.le_refl _) (Nat.le_refl _) ad_d27
  · have q7_ : r4.toInt = (0 : Int32).toInt := by rw [q7]
    refine lv_bipush hx hb ad_d10 (v := (-2)) (by decide) ?_
    have ecm2 : ((-2) : Int32).toInt = (-2) := by decide
    exact y_ireturn B hI rfl rfl rfl List.mem_cons_self ⟨_, rfl, ⟨_, rfl, x_i32 _⟩⟩ (x_cs.mono B.2.2.2.2.2 (y_mon B hI)) trivial (Nat.le_refl _) (Nat.le_refl _) ad_d12
