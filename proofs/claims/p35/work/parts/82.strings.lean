theorem z_vpin {i : Int32} {n : Nat} (h0 : 0 ≤ i.toInt) (h1 : i.toInt < (n : Int)) : vp_in i n := by
  have hcl : i.toNatClampNeg = i.toInt.toNat := rfl
  rintro (h | h)
  · have := Int32.lt_iff_toInt_lt.mp h
    have z0 : (0 : Int32).toInt = 0 := rfl
    omega
  · rw [hcl] at h; omega
def xMs0 : xM := (⟨"jdk/internal/util/Preconditions", "checkIndex", "(IILjava/util/function/BiFunction;)I"⟩, prog_22_method_11_code, 3, (some FieldType.int), [], [], [], (0, 0, 0, 0), none)
def xMs1 : xM := (⟨"java/lang/String", "checkIndex", "(II)V"⟩, prog_17_method_155_code, 2, none, [], [], [], (1, 22, 0, 0), none)
def xMs2 : xM := (⟨"java/lang/StringLatin1", "charAt", "([BI)C"⟩, prog_18_method_2_code, 2, (some FieldType.char), [], [], [], (2, 43, 0, 0), none)
def xMs3 : xM := (⟨"java/lang/String", "coder", "()B"⟩, prog_17_method_152_code, 1, (some FieldType.byte), [], [], [], (0, 0, 0, 0), none)
def xMs4 : xM := (⟨"java/lang/String", "isLatin1", "()Z"⟩, prog_17_method_154_code, 1, (some FieldType.boolean), [], [], [], (0, 0, 0, 0), none)
def xMs5 : xM := (⟨"java/lang/String", "length", "()I"⟩, prog_17_method_54_code, 1, (some FieldType.int), [], [], [], (1, 20, 0, 0), none)
def xMs6 : xM := (⟨"java/lang/String", "charAt", "(I)C"⟩, prog_17_method_56_code, 2, (some FieldType.char), [], [], [], (3, 64, 0, 0), none)
def xMs7 : xM := (⟨"TwinFires$Text", "wordOf", "(I)Ljava/lang/String;"⟩, prog_9_method_10_code, 1, (some (FieldType.object "java/lang/String")), [], [], [], (0, 0, 0, 0), none)
def xMs8 : xM := (⟨"TwinFires$Text", "isWordHere", "(Ljava/lang/String;)Z"⟩, prog_9_method_9_code, 3, (some FieldType.boolean), [], [], [], (4, 85, 0, 0), none)
def p_len (n : Nat) : pPre := fun U Hh av => ∃ (A : Nat → Prop) (q b : Nat) (f : Nat → Int32), av = [.ref q] ∧ s_S A U Hh q b n f
def p_A0 : pPre := fun _ _ av => ∃ (i n : Int32) (w : Value), av = [.int i, .int n, w] ∧ 0 ≤ i.toInt ∧ i.toInt < n.toInt ∧ (w = .null ∨ ∃ a, w = .ref a)
def p_P0 : pPost := fun _ _ _ v => ∃ x : Int32, v = some (.int x)
def p_A1 : pPre := fun U Hh av => ∃ (i n : Int32) (A : Nat → Prop) (v : Value), av = [.int i, .int n] ∧ 0 ≤ i.toInt ∧ i.toInt < n.toInt ∧ (v = .null ∨ ∃ a, v = .ref a) ∧ va_Z "jdk/internal/util/Preconditions" "SIOOBE_FORMATTER" "Ljava/util/function/BiFunction;" v A U Hh
def p_P1 : pPost := fun _ _ _ v => v = none
def p_A3 : pPre := fun U Hh av => ∃ (A : Nat → Prop) (q b n : Nat) (f : Nat → Int32), av = [.ref q] ∧ s_S A U Hh q b n f
def p_P3 : pPost := fun _ _ _ v => v = some (.int 0)
def p_A4 : pPre := fun U Hh av => ∃ (A : Nat → Prop) (q b n : Nat) (f : Nat → Int32), av = [.ref q] ∧ s_S A U Hh q b n f
def p_P4 : pPost := fun _ _ _ v => v = some (.int 1)
def p_A7 : pPre := fun U Hh av => ∃ (item : Int32) (Y : xY), av = [.int item] ∧ ∀ z ∈ x_Ss, x_s1 z U Y Hh
theorem s0_d0 : decode xMs0.2.1 0 = .ok (.iload_n 0, 1) := dz_ok (by decide +kernel)
theorem s0_d1 : decode xMs0.2.1 1 = .ok (.ifCond .lt 8, 3) := dz_ok (by decide +kernel)
theorem s0_d4 : decode xMs0.2.1 4 = .ok (.iload_n 0, 1) := dz_ok (by decide +kernel)
theorem s0_d5 : decode xMs0.2.1 5 = .ok (.iload_n 1, 1) := dz_ok (by decide +kernel)
theorem s0_d6 : decode xMs0.2.1 6 = .ok (.if_icmp .lt 10, 3) := dz_ok (by decide +kernel)
theorem s0_d16 : decode xMs0.2.1 16 = .ok (.iload_n 0, 1) := dz_ok (by decide +kernel)
theorem s0_d17 : decode xMs0.2.1 17 = .ok (.ireturn, 1) := dz_ok (by decide +kernel)
theorem pm0 : p_Met x_Tb x_Nb xMs0 p_A0 p_P0 := by
  refine p_main (by decide +kernel) (fun U Hh av h => ?_) x_Tb_good x_Nb_ok ?_
  · obtain ⟨i, n, w, rfl, -, -, hw⟩ := h
    rcases hw with rfl | ⟨a, rfl⟩ <;> exact Nat.le_of_ble_eq_true rfl
  intro p l e s m below meth c U av ls X hrt hlk hPre hl
  obtain ⟨hx, hb, hml, hown, hts, hU, hNw, hG, hN⟩ := id X
  obtain ⟨i, n, w, rfl, h0, h1, hw⟩ := hPre
  replace hl : lv_has ls xMs0.2.2.1 [(0, .int i), (1, .int n)] := by
    rcases hw with rfl | ⟨a, rfl⟩ <;> exact lv_sub hl [0, 1] rfl
  refine lv_iload_n hx hb s0_d0 rfl (lv_at hl 0 rfl) ?_
  have ec0 : (0 : Int32).toInt = 0 := by decide
  refine lv_if_lt hx hb s0_d1 (tgt := 9) (by decide) (fun q1 => ?_) (fun q1 => ?_)
  · have q1_ : i.toInt < (0 : Int32).toInt := x_lt32.mp q1
    exact (by omega : False).elim
  · have q1_ : (0 : Int32).toInt ≤ i.toInt := Int.not_lt.mp fun q => q1 (x_lt32.mpr q)
    refine lv_iload_n hx hb s0_d4 rfl (lv_at hl 0 rfl) ?_
    refine lv_iload_n hx hb s0_d5 rfl (lv_at hl 1 rfl) ?_
    refine lv_icmp_lt hx hb s0_d6 (tgt := 16) (by decide) (fun q6 => ?_) (fun q6 => ?_)
    · have q6_ : i.toInt < n.toInt := x_lt32.mp q6
      refine lv_iload_n hx hb s0_d16 rfl (lv_at hl 0 rfl) ?_
      exact p_iret hx hb hrt (by exact rfl) hlk (by exact ⟨_, rfl⟩) s0_d17
    · have q6_ : n.toInt ≤ i.toInt := Int.not_lt.mp fun q => q6 (x_lt32.mpr q)
      exact (by omega : False).elim
theorem s1_d0 : decode xMs1.2.1 0 = .ok (.iload_n 0, 1) := dz_ok (by decide +kernel)
theorem s1_d1 : decode xMs1.2.1 1 = .ok (.iload_n 1, 1) := dz_ok (by decide +kernel)
theorem s1_d2 : decode xMs1.2.1 2 = .ok (.getstatic 1053, 3) := dz_ok (by decide +kernel)
theorem s1_d5 : decode xMs1.2.1 5 = .ok (.invokestatic 1059, 3) := dz_ok (by decide +kernel)
theorem s1_d8 : decode xMs1.2.1 8 = .ok (.pop, 1) := dz_ok (by decide +kernel)
theorem s1_d9 : decode xMs1.2.1 9 = .ok (.return_, 1) := dz_ok (by decide +kernel)
theorem pm1 : p_Met x_Tb x_Nb xMs1 p_A1 p_P1 := by
  refine p_main (by decide +kernel) (fun U Hh av h => ?_) x_Tb_good x_Nb_ok ?_
  · obtain ⟨i, n, A, w, rfl, -⟩ := h; exact Nat.le_of_ble_eq_true rfl
  intro p l e s m below meth c U av ls X hrt hlk hPre hl
  obtain ⟨hx, hb, hml, hown, hts, hU, hNw, hG, hN⟩ := id X
  obtain ⟨i, n, A, w, rfl, h0, h1, hw, hZ⟩ := hPre
  replace hZ := va_Z.moved hU.alike hZ
  replace hl : lv_has ls xMs1.2.2.1 [(0, .int i), (1, .int n)] := hl
  refine lv_iload_n hx hb s1_d0 rfl (lv_at hl 0 rfl) ?_
  refine lv_iload_n hx hb s1_d1 rfl (lv_at hl 1 rfl) ?_
  refine p_gets hx hb hown (hts _ (x_bw39 7 rfl rfl)) hZ s1_d2 ?_
  refine p_runS (n := 3) (av := [.int i, .int n, w]) (rest := []) X pm0 ⟨i, n, w, rfl, h0, h1, hw⟩ ⟨rfl, rfl⟩ (x_cons (x_bw39 9 rfl rfl) (x_cons (x_bw39 10 rfl rfl) (x_cons (x_bw1 3 rfl rfl) x_nilm))) (x_bw39 11 rfl rfl) (by decide +kernel) ⟨Nat.le_of_ble_eq_true rfl, Nat.le_of_ble_eq_true rfl⟩ rfl hl.1 (Nat.le_of_ble_eq_true rfl) (Nat.zero_le _) (Nat.zero_le _) s1_d5 fun v hv => ?_
  obtain ⟨r5, rfl⟩ := hv
  refine lv_pop hx hb s1_d8 rfl ?_
  exact p_vret hx hb hrt hlk (by exact rfl) s1_d9
theorem s2_d0 : decode xMs2.2.1 0 = .ok (.iload_n 1, 1) := dz_ok (by decide +kernel)
theorem s2_d1 : decode xMs2.2.1 1 = .ok (.aload_n 0, 1) := dz_ok (by decide +kernel)
theorem s2_d2 : decode xMs2.2.1 2 = .ok (.arraylength, 1) := dz_ok (by decide +kernel)
theorem s2_d3 : decode xMs2.2.1 3 = .ok (.invokestatic 9, 3) := dz_ok (by decide +kernel)
theorem s2_d6 : decode xMs2.2.1 6 = .ok (.aload_n 0, 1) := dz_ok (by decide +kernel)
theorem s2_d7 : decode xMs2.2.1 7 = .ok (.iload_n 1, 1) := dz_ok (by decide +kernel)
theorem s2_d8 : decode xMs2.2.1 8 = .ok (.baload, 1) := dz_ok (by decide +kernel)
theorem s2_d9 : decode xMs2.2.1 9 = .ok (.sipush 255, 3) := dz_ok (by decide +kernel)
theorem s2_d12 : decode xMs2.2.1 12 = .ok (.iand, 1) := dz_ok (by decide +kernel)
theorem s2_d13 : decode xMs2.2.1 13 = .ok (.i2c, 1) := dz_ok (by decide +kernel)
theorem s2_d14 : decode xMs2.2.1 14 = .ok (.ireturn, 1) := dz_ok (by decide +kernel)
theorem s3_d0 : decode xMs3.2.1 0 = .ok (.getstatic 38, 3) := dz_ok (by decide +kernel)
theorem s3_d3 : decode xMs3.2.1 3 = .ok (.ifCond .eq 10, 3) := dz_ok (by decide +kernel)
theorem s3_d6 : decode xMs3.2.1 6 = .ok (.aload_n 0, 1) := dz_ok (by decide +kernel)
theorem s3_d7 : decode xMs3.2.1 7 = .ok (.getfield 15, 3) := dz_ok (by decide +kernel)
theorem s3_d10 : decode xMs3.2.1 10 = .ok (.goto 4, 3) := dz_ok (by decide +kernel)
theorem s3_d14 : decode xMs3.2.1 14 = .ok (.ireturn, 1) := dz_ok (by decide +kernel)
theorem pm3 : p_Met x_Tb x_Nb xMs3 p_A3 p_P3 := by
  refine p_main (by decide +kernel) (fun U Hh av h => ?_) x_Tb_good x_Nb_ok ?_
  · obtain ⟨A, q, b, n, f, rfl, -⟩ := h; exact Nat.le_of_ble_eq_true rfl
  intro p l e s m below meth c U av ls X hrt hlk hPre hl
  obtain ⟨hx, hb, hml, hown, hts, hU, hNw, hG, hN⟩ := id X
  obtain ⟨A, q, b, n, f, rfl, hS0⟩ := hPre
  have hS := hS0.moved hU
  obtain ⟨hO, hC, hV, hT, hZc, w, hw, hZ⟩ := hS
  obtain ⟨-, -, -, -, -, w0, hw0, hZ0⟩ := hS0
  replace hl : lv_has ls xMs3.2.2.1 [(0, .ref q)] := hl
  refine p_gets hx hb hown (hts _ (x_bw38 7 rfl rfl)) hZc s3_d0 ?_
  have ec1 : (1 : Int32).toInt = 1 := by decide
  have ec0 : (0 : Int32).toInt = 0 := by decide
  refine lv_if_eq hx hb s3_d3 (tgt := 13) (by decide) (fun q3 => ?_) (fun q3 => ?_)
  · have q3_ : (1 : Int32).toInt = (0 : Int32).toInt := by rw [q3]
    exact (by omega : False).elim
  · have q3_ : ¬ (1 : Int32).toInt = (0 : Int32).toInt := fun q => q3 (Int32.toInt_inj.mp q)
    refine lv_aload_n hx hb s3_d6 rfl (lv_at hl 0 rfl) ?_
    refine vk_getf hx hb hC va_S.rf hown (hts _ (x_bw89 9 rfl rfl)) (fun x h => h) s3_d7 ?_
    refine lv_goto hx hb s3_d10 (tgt := 14) (by decide) ?_
    exact p_iret hx hb hrt (by exact rfl) hlk (by exact rfl) s3_d14
theorem s4_d0 : decode xMs4.2.1 0 = .ok (.getstatic 38, 3) := dz_ok (by decide +kernel)
theorem s4_d3 : decode xMs4.2.1 3 = .ok (.ifCond .eq 14, 3) := dz_ok (by decide +kernel)
theorem s4_d6 : decode xMs4.2.1 6 = .ok (.aload_n 0, 1) := dz_ok (by decide +kernel)
theorem s4_d7 : decode xMs4.2.1 7 = .ok (.getfield 15, 3) := dz_ok (by decide +kernel)
theorem s4_d10 : decode xMs4.2.1 10 = .ok (.ifCond .ne 7, 3) := dz_ok (by decide +kernel)
theorem s4_d13 : decode xMs4.2.1 13 = .ok (.iconst 1, 1) := dz_ok (by decide +kernel)
theorem s4_d14 : decode xMs4.2.1 14 = .ok (.goto 4, 3) := dz_ok (by decide +kernel)
theorem s4_d18 : decode xMs4.2.1 18 = .ok (.ireturn, 1) := dz_ok (by decide +kernel)
theorem pm4 : p_Met x_Tb x_Nb xMs4 p_A4 p_P4 := by
  refine p_main (by decide +kernel) (fun U Hh av h => ?_) x_Tb_good x_Nb_ok ?_
  · obtain ⟨A, q, b, n, f, rfl, -⟩ := h; exact Nat.le_of_ble_eq_true rfl
  intro p l e s m below meth c U av ls X hrt hlk hPre hl
  obtain ⟨hx, hb, hml, hown, hts, hU, hNw, hG, hN⟩ := id X
  obtain ⟨A, q, b, n, f, rfl, hS0⟩ := hPre
  have hS := hS0.moved hU
  obtain ⟨hO, hC, hV, hT, hZc, w, hw, hZ⟩ := hS
  obtain ⟨-, -, -, -, -, w0, hw0, hZ0⟩ := hS0
  replace hl : lv_has ls xMs4.2.2.1 [(0, .ref q)] := hl
  refine p_gets hx hb hown (hts _ (x_bw38 7 rfl rfl)) hZc s4_d0 ?_
  have ec1 : (1 : Int32).toInt = 1 := by decide
  have ec0 : (0 : Int32).toInt = 0 := by decide
  refine lv_if_eq hx hb s4_d3 (tgt := 17) (by decide) (fun q3 => ?_) (fun q3 => ?_)
  · have q3_ : (1 : Int32).toInt = (0 : Int32).toInt := by rw [q3]
    exact (by omega : False).elim
  · have q3_ : ¬ (1 : Int32).toInt = (0 : Int32).toInt := fun q => q3 (Int32.toInt_inj.mp q)
    refine lv_aload_n hx hb s4_d6 rfl (lv_at hl 0 rfl) ?_
    refine vk_getf hx hb hC va_S.rf hown (hts _ (x_bw89 9 rfl rfl)) (fun x h => h) s4_d7 ?_
    refine lv_if_ne hx hb s4_d10 (tgt := 17) (by decide) (fun q10 => ?_) (fun q10 => ?_)
    · have q10_ : ¬ (0 : Int32).toInt = (0 : Int32).toInt := fun q => q10 (Int32.toInt_inj.mp q)
      exact (by omega : False).elim
    · have q10_ : (0 : Int32).toInt = (0 : Int32).toInt := by rw [q10]
      refine lv_iconst hx hb s4_d13 (v := 1) (by decide) ?_
      refine lv_goto hx hb s4_d14 (tgt := 18) (by decide) ?_
      exact p_iret hx hb hrt (by exact rfl) hlk (by exact rfl) s4_d18
theorem va_O.rec {E : String} {t : Nat} {A : Nat → Prop} {s : State} {H : Heap} (h : va_O E t A s H) : ∃ cellB : Cell, H[t]? = some cellB ∧ cellB.vm.isStatics = false ∧ s.vm.findClass E = some cellB.cls := by
  obtain ⟨cell, h1, h2, h3, -⟩ := h
  exact ⟨cell, h1, h2, h3⟩
theorem s5_d0 : decode xMs5.2.1 0 = .ok (.aload_n 0, 1) := dz_ok (by decide +kernel)
theorem s5_d1 : decode xMs5.2.1 1 = .ok (.getfield 9, 3) := dz_ok (by decide +kernel)
theorem s5_d4 : decode xMs5.2.1 4 = .ok (.arraylength, 1) := dz_ok (by decide +kernel)
theorem s5_d5 : decode xMs5.2.1 5 = .ok (.aload_n 0, 1) := dz_ok (by decide +kernel)
theorem s5_d6 : decode xMs5.2.1 6 = .ok (.invokevirtual 335, 3) := dz_ok (by decide +kernel)
theorem s5_d9 : decode xMs5.2.1 9 = .ok (.ishr, 1) := dz_ok (by decide +kernel)
theorem s5_d10 : decode xMs5.2.1 10 = .ok (.ireturn, 1) := dz_ok (by decide +kernel)
theorem pm5 {n : Nat} (hn : n ≤ 6) : p_Met x_Tb x_Nb xMs5 (p_len n) (fun _ _ _ v => v = some (.int (nI n))) := by
  refine p_main (by decide +kernel) (fun U Hh av h => ?_) x_Tb_good x_Nb_ok ?_
  · obtain ⟨A, q, b, f, rfl, -⟩ := h; exact Nat.le_of_ble_eq_true rfl
  intro p l e s m below meth c U av ls X hrt hlk hPre hl
  obtain ⟨hx, hb, hml, hown, hts, hU, hNw, hG, hN⟩ := id X
  obtain ⟨A, q, b, f, rfl, hS0⟩ := hPre
  have hSU := hS0
  have hS := hS0.moved hU
  obtain ⟨hO, hC, hV, hT, hZc, w, hw, hZ⟩ := hS
  obtain ⟨-, -, -, -, -, w0, hw0, hZ0⟩ := hS0
  replace hl : lv_has ls xMs5.2.2.1 [(0, .ref q)] := hl
  refine lv_aload_n hx hb s5_d0 rfl (lv_at hl 0 rfl) ?_
  refine vk_getf hx hb hV va_S.rf hown (hts _ (x_bw89 8 rfl rfl)) (fun x h => h) s5_d1 ?_
  refine va_tlen hx hb hT va_S.rf (v := nI n) rfl s5_d4 ?_
  refine lv_aload_n hx hb s5_d5 rfl (lv_at hl 0 rfl) ?_
  refine p_runV (n := 0) (b := q) (As := []) (rest := [.int (nI n)]) X pm3 ⟨A, q, b, n, f, rfl, hSU⟩ ⟨rfl, rfl⟩ hO.rec (x_cons (x_bw38 3 rfl rfl) (x_cons (x_bw38 4 rfl rfl) (x_cons (x_bw38 5 rfl rfl) (x_cons (x_bw1 1 rfl rfl) x_nilm)))) (x_bw38 6 rfl rfl) (by decide +kernel) ⟨Nat.le_of_ble_eq_true rfl, Nat.le_of_ble_eq_true rfl⟩ rfl hl.1 (Nat.le_of_ble_eq_true rfl) (Nat.zero_le _) (Nat.zero_le _) s5_d6 fun v hv => ?_
  obtain rfl := hv
  refine lv_ishr hx hb s5_d9 ?_
  rw [sc_shr0 (by omega)]
  exact p_iret hx hb hrt (by exact rfl) hlk (by exact rfl) s5_d10
theorem s6_d0 : decode xMs6.2.1 0 = .ok (.aload_n 0, 1) := dz_ok (by decide +kernel)
theorem s6_d1 : decode xMs6.2.1 1 = .ok (.invokevirtual 492, 3) := dz_ok (by decide +kernel)
theorem s6_d4 : decode xMs6.2.1 4 = .ok (.ifCond .eq 12, 3) := dz_ok (by decide +kernel)
theorem s6_d7 : decode xMs6.2.1 7 = .ok (.aload_n 0, 1) := dz_ok (by decide +kernel)
theorem s6_d8 : decode xMs6.2.1 8 = .ok (.getfield 9, 3) := dz_ok (by decide +kernel)
theorem s6_d11 : decode xMs6.2.1 11 = .ok (.iload_n 1, 1) := dz_ok (by decide +kernel)
theorem s6_d12 : decode xMs6.2.1 12 = .ok (.invokestatic 495, 3) := dz_ok (by decide +kernel)
theorem s6_d15 : decode xMs6.2.1 15 = .ok (.ireturn, 1) := dz_ok (by decide +kernel)
theorem s7_d0 : decode xMs7.2.1 0 = .ok (.iload_n 0, 1) := dz_ok (by decide +kernel)
theorem s7_d1 : decode xMs7.2.1 1 = .ok (.tableswitch 78 0 8 #[51, 54, 57, 60, 63, 66, 69, 72, 75], 51) := dz_ok (by decide +kernel)
theorem s7_d52 : decode xMs7.2.1 52 = .ok (.ldc 71, 2) := dz_ok (by decide +kernel)
theorem s7_d54 : decode xMs7.2.1 54 = .ok (.areturn, 1) := dz_ok (by decide +kernel)
theorem s7_d55 : decode xMs7.2.1 55 = .ok (.ldc 73, 2) := dz_ok (by decide +kernel)
theorem s7_d57 : decode xMs7.2.1 57 = .ok (.areturn, 1) := dz_ok (by decide +kernel)
theorem s7_d58 : decode xMs7.2.1 58 = .ok (.ldc 75, 2) := dz_ok (by decide +kernel)
theorem s7_d60 : decode xMs7.2.1 60 = .ok (.areturn, 1) := dz_ok (by decide +kernel)
theorem s7_d61 : decode xMs7.2.1 61 = .ok (.ldc 77, 2) := dz_ok (by decide +kernel)
theorem s7_d63 : decode xMs7.2.1 63 = .ok (.areturn, 1) := dz_ok (by decide +kernel)
theorem s7_d64 : decode xMs7.2.1 64 = .ok (.ldc 79, 2) := dz_ok (by decide +kernel)
theorem s7_d66 : decode xMs7.2.1 66 = .ok (.areturn, 1) := dz_ok (by decide +kernel)
theorem s7_d67 : decode xMs7.2.1 67 = .ok (.ldc 81, 2) := dz_ok (by decide +kernel)
theorem s7_d69 : decode xMs7.2.1 69 = .ok (.areturn, 1) := dz_ok (by decide +kernel)
theorem s7_d70 : decode xMs7.2.1 70 = .ok (.ldc 83, 2) := dz_ok (by decide +kernel)
theorem s7_d72 : decode xMs7.2.1 72 = .ok (.areturn, 1) := dz_ok (by decide +kernel)
theorem s7_d73 : decode xMs7.2.1 73 = .ok (.ldc 85, 2) := dz_ok (by decide +kernel)
theorem s7_d75 : decode xMs7.2.1 75 = .ok (.areturn, 1) := dz_ok (by decide +kernel)
theorem s7_d76 : decode xMs7.2.1 76 = .ok (.ldc 87, 2) := dz_ok (by decide +kernel)
theorem s7_d78 : decode xMs7.2.1 78 = .ok (.areturn, 1) := dz_ok (by decide +kernel)
theorem s7_d79 : decode xMs7.2.1 79 = .ok (.ldc 89, 2) := dz_ok (by decide +kernel)
theorem s7_d81 : decode xMs7.2.1 81 = .ok (.areturn, 1) := dz_ok (by decide +kernel)
theorem s8_d0 : decode xMs8.2.1 0 = .ok (.aload_n 1, 1) := dz_ok (by decide +kernel)
theorem s8_d1 : decode xMs8.2.1 1 = .ok (.invokevirtual 63, 3) := dz_ok (by decide +kernel)
theorem s8_d4 : decode xMs8.2.1 4 = .ok (.aload_n 0, 1) := dz_ok (by decide +kernel)
theorem s8_d5 : decode xMs8.2.1 5 = .ok (.getfield 26, 3) := dz_ok (by decide +kernel)
theorem s8_d8 : decode xMs8.2.1 8 = .ok (.aload_n 0, 1) := dz_ok (by decide +kernel)
theorem s8_d9 : decode xMs8.2.1 9 = .ok (.getfield 36, 3) := dz_ok (by decide +kernel)
theorem s8_d12 : decode xMs8.2.1 12 = .ok (.isub, 1) := dz_ok (by decide +kernel)
theorem s8_d13 : decode xMs8.2.1 13 = .ok (.if_icmp .eq 5, 3) := dz_ok (by decide +kernel)
theorem s8_d16 : decode xMs8.2.1 16 = .ok (.iconst 0, 1) := dz_ok (by decide +kernel)
theorem s8_d17 : decode xMs8.2.1 17 = .ok (.ireturn, 1) := dz_ok (by decide +kernel)
theorem s8_d18 : decode xMs8.2.1 18 = .ok (.iconst 0, 1) := dz_ok (by decide +kernel)
theorem s8_d19 : decode xMs8.2.1 19 = .ok (.istore_n 2, 1) := dz_ok (by decide +kernel)
theorem s8_d20 : decode xMs8.2.1 20 = .ok (.iload_n 2, 1) := dz_ok (by decide +kernel)
theorem s8_d21 : decode xMs8.2.1 21 = .ok (.aload_n 1, 1) := dz_ok (by decide +kernel)
theorem s8_d22 : decode xMs8.2.1 22 = .ok (.invokevirtual 63, 3) := dz_ok (by decide +kernel)
theorem s8_d25 : decode xMs8.2.1 25 = .ok (.if_icmp .ge 30, 3) := dz_ok (by decide +kernel)
theorem s8_d28 : decode xMs8.2.1 28 = .ok (.aload_n 0, 1) := dz_ok (by decide +kernel)
theorem s8_d29 : decode xMs8.2.1 29 = .ok (.getfield 9, 3) := dz_ok (by decide +kernel)
theorem s8_d32 : decode xMs8.2.1 32 = .ok (.aload_n 0, 1) := dz_ok (by decide +kernel)
theorem s8_d33 : decode xMs8.2.1 33 = .ok (.getfield 36, 3) := dz_ok (by decide +kernel)
theorem s8_d36 : decode xMs8.2.1 36 = .ok (.iload_n 2, 1) := dz_ok (by decide +kernel)
theorem s8_d37 : decode xMs8.2.1 37 = .ok (.iadd, 1) := dz_ok (by decide +kernel)
theorem s8_d38 : decode xMs8.2.1 38 = .ok (.iaload, 1) := dz_ok (by decide +kernel)
theorem s8_d39 : decode xMs8.2.1 39 = .ok (.aload_n 1, 1) := dz_ok (by decide +kernel)
theorem s8_d40 : decode xMs8.2.1 40 = .ok (.iload_n 2, 1) := dz_ok (by decide +kernel)
theorem s8_d41 : decode xMs8.2.1 41 = .ok (.invokevirtual 67, 3) := dz_ok (by decide +kernel)
theorem s8_d44 : decode xMs8.2.1 44 = .ok (.if_icmp .eq 5, 3) := dz_ok (by decide +kernel)
theorem s8_d47 : decode xMs8.2.1 47 = .ok (.iconst 0, 1) := dz_ok (by decide +kernel)
theorem s8_d48 : decode xMs8.2.1 48 = .ok (.ireturn, 1) := dz_ok (by decide +kernel)
theorem s8_d49 : decode xMs8.2.1 49 = .ok (.iinc 2 1, 3) := dz_ok (by decide +kernel)
theorem s8_d52 : decode xMs8.2.1 52 = .ok (.goto (-32), 3) := dz_ok (by decide +kernel)
theorem s8_d55 : decode xMs8.2.1 55 = .ok (.iconst 1, 1) := dz_ok (by decide +kernel)
theorem s8_d56 : decode xMs8.2.1 56 = .ok (.ireturn, 1) := dz_ok (by decide +kernel)
