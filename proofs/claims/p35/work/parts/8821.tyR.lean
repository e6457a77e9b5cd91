theorem fw_aX_240 {s : State} {args : Array Value} {mn : String} (hts : ∀ w ∈ x_Tb, w.before args s = true) : x_pok vwCl x_G x_Tb s args "TwinFires$Text" mn (22, 4, 2) := ⟨7, _, RX7, TX7, "TwinFires$Text", tyX7, _, rfl, rfl, Nat.le_of_ble_eq_true rfl, iX7, (hts _ (x_bw10 10 rfl rfl)), fun x h => h, tyX7_ok, nmX7, rfl, x_fitI _ _, Or.inl rfl⟩
theorem z_bitsX (x : BitVec 64) (a : Nat) (ha : a ≤ 56) : (BitVec.setWidth 32 (x >>> a)) &&& 255#32 = BitVec.setWidth 32 ((x.sshiftRight a) &&& 255#64) := by
  apply BitVec.eq_of_getLsbD_eq
  intro i hi
  by_cases h8 : i < 8
  · have h1 : a + i < 64 := by omega
    have h2 : i < 64 := by omega
    have e1 : (255#32).getLsbD i = true := by
      rcases (by omega : i = 0 ∨ i = 1 ∨ i = 2 ∨ i = 3 ∨ i = 4 ∨ i = 5 ∨ i = 6 ∨ i = 7) with rfl | rfl | rfl | rfl | rfl | rfl | rfl | rfl <;> decide
    have e2 : (255#64).getLsbD i = true := by
      rcases (by omega : i = 0 ∨ i = 1 ∨ i = 2 ∨ i = 3 ∨ i = 4 ∨ i = 5 ∨ i = 6 ∨ i = 7) with rfl | rfl | rfl | rfl | rfl | rfl | rfl | rfl <;> decide
    rw [BitVec.getLsbD_and, BitVec.getLsbD_setWidth, BitVec.getLsbD_ushiftRight, BitVec.getLsbD_setWidth, BitVec.getLsbD_and, BitVec.getLsbD_sshiftRight, e1, e2]
    simp [hi, h1]
    exact fun _ => h2
  · have e1 : (255#32).getLsbD i = false := by
      rw [BitVec.getLsbD_ofNat]
      have : Nat.testBit 255 i = false := Nat.testBit_lt_two_pow (Nat.lt_of_lt_of_le (by decide : 255 < 2 ^ 8) (Nat.pow_le_pow_right (by decide) (by omega)))
      simp [this]
    have e2 : (255#64).getLsbD i = false := by
      rw [BitVec.getLsbD_ofNat]
      have : Nat.testBit 255 i = false := Nat.testBit_lt_two_pow (Nat.lt_of_lt_of_le (by decide : 255 < 2 ^ 8) (Nat.pow_le_pow_right (by decide) (by omega)))
      simp [this]
    rw [BitVec.getLsbD_and, e1, Bool.and_false, BitVec.getLsbD_setWidth, BitVec.getLsbD_and, e2, Bool.and_false, Bool.and_false]
/-- a byte of a number -/
def t_by (v : Int64) (k : Int32) : Int32 := ((v >>> (((8 : Int32) * k).toInt64 &&& 63)) &&& 255).toInt32
def t_byC (v : Int64) (k : Int32) : Int32 := (v.toUInt64 >>> (((8 : Int32) * k).toInt64.toUInt64 &&& Int64.toUInt64 63)).toInt64.toInt32 &&& 255
theorem z_byte {v : Int64} {k : Int32} (h0 : 0 ≤ k.toInt) (h7 : k.toInt ≤ 7) : t_byC v k = t_by v k := by
  rcases (by omega : k.toInt = 0 ∨ k.toInt = 1 ∨ k.toInt = 2 ∨ k.toInt = 3 ∨ k.toInt = 4 ∨ k.toInt = 5 ∨ k.toInt = 6 ∨ k.toInt = 7) with q | q | q | q | q | q | q | q
  · have ek : k = 0 := Int32.toInt_inj.mp (by rw [q]; decide)
    subst ek
    apply Int32.toBitVec_inj.mp
    show (BitVec.signExtend 32 (v.toBitVec >>> 0)) &&& 255#32 = BitVec.signExtend 32 ((v.toBitVec.sshiftRight 0) &&& 255#64)
    rw [BitVec.signExtend_eq_setWidth_of_le _ (by decide), BitVec.signExtend_eq_setWidth_of_le _ (by decide)]
    exact z_bitsX v.toBitVec 0 (by decide)
  · have ek : k = 1 := Int32.toInt_inj.mp (by rw [q]; decide)
    subst ek
    apply Int32.toBitVec_inj.mp
    show (BitVec.signExtend 32 (v.toBitVec >>> 8)) &&& 255#32 = BitVec.signExtend 32 ((v.toBitVec.sshiftRight 8) &&& 255#64)
    rw [BitVec.signExtend_eq_setWidth_of_le _ (by decide), BitVec.signExtend_eq_setWidth_of_le _ (by decide)]
    exact z_bitsX v.toBitVec 8 (by decide)
  · have ek : k = 2 := Int32.toInt_inj.mp (by rw [q]; decide)
    subst ek
    apply Int32.toBitVec_inj.mp
    show (BitVec.signExtend 32 (v.toBitVec >>> 16)) &&& 255#32 = BitVec.signExtend 32 ((v.toBitVec.sshiftRight 16) &&& 255#64)
    rw [BitVec.signExtend_eq_setWidth_of_le _ (by decide), BitVec.signExtend_eq_setWidth_of_le _ (by decide)]
    exact z_bitsX v.toBitVec 16 (by decide)
  · have ek : k = 3 := Int32.toInt_inj.mp (by rw [q]; decide)
    subst ek
    apply Int32.toBitVec_inj.mp
    show (BitVec.signExtend 32 (v.toBitVec >>> 24)) &&& 255#32 = BitVec.signExtend 32 ((v.toBitVec.sshiftRight 24) &&& 255#64)
    rw [BitVec.signExtend_eq_setWidth_of_le _ (by decide), BitVec.signExtend_eq_setWidth_of_le _ (by decide)]
    exact z_bitsX v.toBitVec 24 (by decide)
  · have ek : k = 4 := Int32.toInt_inj.mp (by rw [q]; decide)
    subst ek
    apply Int32.toBitVec_inj.mp
    show (BitVec.signExtend 32 (v.toBitVec >>> 32)) &&& 255#32 = BitVec.signExtend 32 ((v.toBitVec.sshiftRight 32) &&& 255#64)
    rw [BitVec.signExtend_eq_setWidth_of_le _ (by decide), BitVec.signExtend_eq_setWidth_of_le _ (by decide)]
    exact z_bitsX v.toBitVec 32 (by decide)
  · have ek : k = 5 := Int32.toInt_inj.mp (by rw [q]; decide)
    subst ek
    apply Int32.toBitVec_inj.mp
    show (BitVec.signExtend 32 (v.toBitVec >>> 40)) &&& 255#32 = BitVec.signExtend 32 ((v.toBitVec.sshiftRight 40) &&& 255#64)
    rw [BitVec.signExtend_eq_setWidth_of_le _ (by decide), BitVec.signExtend_eq_setWidth_of_le _ (by decide)]
    exact z_bitsX v.toBitVec 40 (by decide)
  · have ek : k = 6 := Int32.toInt_inj.mp (by rw [q]; decide)
    subst ek
    apply Int32.toBitVec_inj.mp
    show (BitVec.signExtend 32 (v.toBitVec >>> 48)) &&& 255#32 = BitVec.signExtend 32 ((v.toBitVec.sshiftRight 48) &&& 255#64)
    rw [BitVec.signExtend_eq_setWidth_of_le _ (by decide), BitVec.signExtend_eq_setWidth_of_le _ (by decide)]
    exact z_bitsX v.toBitVec 48 (by decide)
  · have ek : k = 7 := Int32.toInt_inj.mp (by rw [q]; decide)
    subst ek
    apply Int32.toBitVec_inj.mp
    show (BitVec.signExtend 32 (v.toBitVec >>> 56)) &&& 255#32 = BitVec.signExtend 32 ((v.toBitVec.sshiftRight 56) &&& 255#64)
    rw [BitVec.signExtend_eq_setWidth_of_le _ (by decide), BitVec.signExtend_eq_setWidth_of_le _ (by decide)]
    exact z_bitsX v.toBitVec 56 (by decide)
def t_ty (t : Nat → Int32) (n e : Nat) (v : Int64) (m : Nat) : Nat → Int32 := fun j => if n ≤ j ∧ j < m then t_by v (Int32.ofInt ((e : Int) - 1 - j)) else t j
def m_type (t : Nat → Int32) (n : Int32) (v : Int64) (c r : Int32) (t' : Nat → Int32) (n' : Int32) : Prop := (¬ (1 ≤ c.toInt ∧ c.toInt ≤ 8) → r = -2 ∧ t' = t ∧ n' = n) ∧ (1 ≤ c.toInt ∧ c.toInt ≤ 8 → 240 < n.toInt + c.toInt → r = -4 ∧ t' = t ∧ n' = n) ∧ (1 ≤ c.toInt ∧ c.toInt ≤ 8 → n.toInt + c.toInt ≤ 240 → r.toInt = n.toInt + c.toInt ∧ t' = t_ty t n.toInt.toNat (n.toInt + c.toInt).toNat v (n.toInt + c.toInt).toNat ∧ n' = r)
theorem m_type.eq {t t1 t2 : Nat → Int32} {n n1 n2 c r1 r2 : Int32} {v : Int64} (h1 : m_type t n v c r1 t1 n1) (h2 : m_type t n v c r2 t2 n2) : r1 = r2 ∧ t1 = t2 ∧ n1 = n2 := by
  by_cases ho : 1 ≤ c.toInt ∧ c.toInt ≤ 8
  · by_cases hf : 240 < n.toInt + c.toInt
    · have a := h1.2.1 ho hf
      have b := h2.2.1 ho hf
      exact ⟨a.1.trans b.1.symm, a.2.1.trans b.2.1.symm, a.2.2.trans b.2.2.symm⟩
    · have a := h1.2.2 ho (by omega)
      have b := h2.2.2 ho (by omega)
      have e : r1 = r2 := Int32.toInt_inj.mp (a.1.trans b.1.symm)
      exact ⟨e, a.2.1.trans b.2.1.symm, a.2.2.trans (e.trans b.2.2.symm)⟩
  · have a := h1.1 ho
    have b := h2.1 ho
    exact ⟨a.1.trans b.1.symm, a.2.1.trans b.2.1.symm, a.2.2.trans b.2.2.symm⟩
theorem t_ty0 {t : Nat → Int32} {n e : Nat} {v : Int64} : t_ty t n e v n = t := by
  funext j
  unfold t_ty
  rw [if_neg (by omega)]
theorem t_tyS {t : Nat → Int32} {n e m : Nat} {v : Int64} {k : Int32} (hm : n ≤ m) (hk : k.toInt = (e : Int) - 1 - m) : y_up (t_ty t n e v m) m (t_by v k) = t_ty t n e v (m + 1) := by
  funext j
  by_cases ej : j = m
  · subst ej
    rw [y_up_at]
    unfold t_ty
    rw [if_pos (by omega), ← hk, Int32.ofInt_toInt]
  · rw [y_up_ne ej]
    unfold t_ty
    by_cases hj : n ≤ j ∧ j < m
    · rw [if_pos hj, if_pos (by omega)]
    · rw [if_neg hj, if_neg (by omega)]
theorem t_tyc {t : Nat → Int32} {n e m : Nat} {v : Int64} (ht : t_c t) (hm : m ≤ 240) : t_c (t_ty t n e v m) := fun p hp => by
  unfold t_ty
  rw [if_neg (by omega)]; exact ht p hp
def z_PadX : yP := fun D av _ H v _ H' => ∀ (this by_ : Nat) (v9 : Int64) (c ln : Int32) (fy : Nat → Int32), av = [.ref this, .long v9, .int c] → x_sl D 7 0 this H = some (.ref by_) → x_sl D 7 2 this H = some (.int ln) → t_c fy → y_A by_ 240 H fy → ∃ (r n1 : Int32) (t1 : Nat → Int32), v = some (.int r) ∧ x_sl D 7 2 this H' = some (.int n1) ∧ t_c t1 ∧ y_A by_ 240 H' t1 ∧ m_type fy ln v9 c r t1 n1
theorem aX_d0 : decode xMad.2.1 0 = .ok (.iload_n 3, 1) := dz_ok (by decide +kernel)
theorem aX_d1 : decode xMad.2.1 1 = .ok (.iconst 1, 1) := dz_ok (by decide +kernel)
theorem aX_d2 : decode xMad.2.1 2 = .ok (.bipush 8, 2) := dz_ok (by decide +kernel)
theorem aX_d4 : decode xMad.2.1 4 = .ok (.invokestatic 18, 3) := dz_ok (by decide +kernel)
theorem aX_d7 : decode xMad.2.1 7 = .ok (.ifCond .ne 6, 3) := dz_ok (by decide +kernel)
theorem aX_d10 : decode xMad.2.1 10 = .ok (.bipush (-2), 2) := dz_ok (by decide +kernel)
theorem aX_d12 : decode xMad.2.1 12 = .ok (.ireturn, 1) := dz_ok (by decide +kernel)
theorem aX_d13 : decode xMad.2.1 13 = .ok (.aload_n 0, 1) := dz_ok (by decide +kernel)
theorem aX_d14 : decode xMad.2.1 14 = .ok (.getfield 22, 3) := dz_ok (by decide +kernel)
theorem aX_d17 : decode xMad.2.1 17 = .ok (.iload_n 3, 1) := dz_ok (by decide +kernel)
theorem aX_d18 : decode xMad.2.1 18 = .ok (.iadd, 1) := dz_ok (by decide +kernel)
theorem aX_d19 : decode xMad.2.1 19 = .ok (.sipush 240, 3) := dz_ok (by decide +kernel)
theorem aX_d22 : decode xMad.2.1 22 = .ok (.if_icmp .le 6, 3) := dz_ok (by decide +kernel)
theorem aX_d25 : decode xMad.2.1 25 = .ok (.bipush (-4), 2) := dz_ok (by decide +kernel)
theorem aX_d27 : decode xMad.2.1 27 = .ok (.ireturn, 1) := dz_ok (by decide +kernel)
theorem aX_d28 : decode xMad.2.1 28 = .ok (.iload_n 3, 1) := dz_ok (by decide +kernel)
theorem aX_d29 : decode xMad.2.1 29 = .ok (.iconst 1, 1) := dz_ok (by decide +kernel)
theorem aX_d30 : decode xMad.2.1 30 = .ok (.isub, 1) := dz_ok (by decide +kernel)
theorem aX_d31 : decode xMad.2.1 31 = .ok (.istore 4, 2) := dz_ok (by decide +kernel)
theorem aX_d33 : decode xMad.2.1 33 = .ok (.iload 4, 2) := dz_ok (by decide +kernel)
theorem aX_d35 : decode xMad.2.1 35 = .ok (.ifCond .lt 40, 3) := dz_ok (by decide +kernel)
theorem aX_d38 : decode xMad.2.1 38 = .ok (.aload_n 0, 1) := dz_ok (by decide +kernel)
theorem aX_d39 : decode xMad.2.1 39 = .ok (.getfield 9, 3) := dz_ok (by decide +kernel)
theorem aX_d42 : decode xMad.2.1 42 = .ok (.aload_n 0, 1) := dz_ok (by decide +kernel)
theorem aX_d43 : decode xMad.2.1 43 = .ok (.getfield 22, 3) := dz_ok (by decide +kernel)
theorem aX_d46 : decode xMad.2.1 46 = .ok (.lload_n 1, 1) := dz_ok (by decide +kernel)
theorem aX_d47 : decode xMad.2.1 47 = .ok (.bipush 8, 2) := dz_ok (by decide +kernel)
theorem aX_d49 : decode xMad.2.1 49 = .ok (.iload 4, 2) := dz_ok (by decide +kernel)
theorem aX_d51 : decode xMad.2.1 51 = .ok (.imul, 1) := dz_ok (by decide +kernel)
theorem aX_d52 : decode xMad.2.1 52 = .ok (.lushr, 1) := dz_ok (by decide +kernel)
theorem aX_d53 : decode xMad.2.1 53 = .ok (.l2i, 1) := dz_ok (by decide +kernel)
theorem aX_d54 : decode xMad.2.1 54 = .ok (.sipush 255, 3) := dz_ok (by decide +kernel)
theorem aX_d57 : decode xMad.2.1 57 = .ok (.iand, 1) := dz_ok (by decide +kernel)
theorem aX_d58 : decode xMad.2.1 58 = .ok (.iastore, 1) := dz_ok (by decide +kernel)
theorem aX_d59 : decode xMad.2.1 59 = .ok (.aload_n 0, 1) := dz_ok (by decide +kernel)
theorem aX_d60 : decode xMad.2.1 60 = .ok (.dup, 1) := dz_ok (by decide +kernel)
theorem aX_d61 : decode xMad.2.1 61 = .ok (.getfield 22, 3) := dz_ok (by decide +kernel)
theorem aX_d64 : decode xMad.2.1 64 = .ok (.iconst 1, 1) := dz_ok (by decide +kernel)
theorem aX_d65 : decode xMad.2.1 65 = .ok (.iadd, 1) := dz_ok (by decide +kernel)
theorem aX_d66 : decode xMad.2.1 66 = .ok (.putfield 22, 3) := dz_ok (by decide +kernel)
theorem aX_d69 : decode xMad.2.1 69 = .ok (.iinc 4 (-1), 3) := dz_ok (by decide +kernel)
theorem aX_d72 : decode xMad.2.1 72 = .ok (.goto (-39), 3) := dz_ok (by decide +kernel)
theorem aX_d75 : decode xMad.2.1 75 = .ok (.aload_n 0, 1) := dz_ok (by decide +kernel)
theorem aX_d76 : decode xMad.2.1 76 = .ok (.getfield 22, 3) := dz_ok (by decide +kernel)
theorem aX_d79 : decode xMad.2.1 79 = .ok (.ireturn, 1) := dz_ok (by decide +kernel)
theorem aX_L33 {p : Program} {l : Launch} {e : Env} {s : State} {m : MethodId} {below : List Frame} {meth : Method} {c : Code} {D : va_G} {U : State} {Y0 : xY} {av : List Value} (B : y_B vwCl x_Tb x_Nb xMad p s m meth c D U Y0 av) {this by_ : Nat} {v9 : Int64} {c9 ln : Int32} {fy : Nat → Int32} (hav : av = [.ref this, .long v9, .int c9]) (hs0 : x_sl D 7 0 this s.heap = some (.ref by_)) (hl0 : x_sl D 7 2 this s.heap = some (.int ln)) (hcn : t_c fy) (hA0 : y_A by_ 240 s.heap fy) (hln : 0 ≤ ln.toInt ∧ ln.toInt ≤ 240) (hok : 1 ≤ c9.toInt ∧ c9.toInt ≤ 8) (hfit : ln.toInt + c9.toInt ≤ 240)  :
    ∀ (n : Nat), ∀ (H : Heap) (Y : xY) (locs : List Loc) (ls : Array Slot) (k : Int32) (ty : Int32) (fz : Nat → Int32), x_I D x_G x_Zs U (x_efs xMad) Y0 s.heap Y H locs → Y this = some 4 → Y by_ = some 39 → x_sl D 7 0 this H = some (.ref by_) → x_sl D 7 2 this H = some (.int ty) → y_A by_ 240 H fz → lv_has ls xMad.2.2.1 [(4, .int k), (0, .ref this), (1, .long v9), (3, .int c9)] → (-1 ≤ k.toInt ∧ k.toInt ≤ 7) → (ty.toInt = ln.toInt + c9.toInt - 1 - k.toInt) → (fz = t_ty fy ln.toInt.toNat (ln.toInt + c9.toInt).toNat v9 ty.toInt.toNat) → (ln.toInt ≤ ty.toInt) → (k.toInt + 1).toNat < n → W p l e (x_rm xMad) s m av.toArray below meth c H locs 0 0 (y_QQ below D x_G x_Zs U xMad z_PadX av Y0 s) (F0 m 33 ls []) := by
  have X := B.1
  have hx := X.1
  have hb := X.2.1
  have hY0 := B.2.2.2.2.1
  intro n
  induction n with
  | zero => intro _ _ _ _ _ _ _ _ _ _ _ _ _ _ _ _ _ _ h; exact absurd h (Nat.not_lt_zero _)
  | succ n ih =>
    intro H Y locs ls k ty fz hI hY_this hY_by_ hs_by_ hsi_length hA_by_ hl hk hty hfz hlo hn
    refine lv_iload hx hb aX_d33 (lv_at hl 0 rfl) ?_
    have ec0 : (0 : Int32).toInt = 0 := by decide
    refine lv_if_lt hx hb aX_d35 (tgt := 75) (by decide) (fun q35 => ?_) (fun q35 => ?_)
    · have q35_ : k.toInt < (0 : Int32).toInt := x_lt32.mp q35
      refine lv_aload_n hx hb aX_d75 rfl (lv_at hl 1 rfl) ?_
      refine y_getf X (fl131 X.2.2.2.2.1) hI.1 hY_this rfl hsi_length aX_d76 ?_
      subst hav
      exact y_ireturn B hI rfl rfl rfl List.mem_cons_self ⟨_, rfl, ⟨_, rfl, x_i32 _⟩⟩ (x_cs.mono B.2.2.2.2.2 (y_mon B hI)) (fun t' b' v' c' ln' fy' h1 h2 h3 h4 h5 => by cases h1; cases h2.symm.trans hs0; cases h3.symm.trans hl0; cases t_uniq h5 hA0 h4 hcn; exact ⟨_, _, _, rfl, hsi_length, t_tyc (n := ln.toInt.toNat) (e := (ln.toInt + c9.toInt).toNat) (v := v9) (m := ty.toInt.toNat) hcn (by omega), by rw [← hfz]; exact hA_by_, fun q9 => absurd hok q9, fun _ q9 => absurd q9 (by omega), fun _ _ => ⟨by omega, by rw [show ty.toInt.toNat = (ln.toInt + c9.toInt).toNat by omega], rfl⟩⟩) (Nat.le_refl _) (Nat.le_refl _) aX_d79
    · have q35_ : (0 : Int32).toInt ≤ k.toInt := Int.not_lt.mp fun q => q35 (x_lt32.mpr q)
      refine lv_aload_n hx hb aX_d38 rfl (lv_at hl 1 rfl) ?_
      refine y_getf X (fl130 X.2.2.2.2.1) hI.1 hY_this rfl hs_by_ aX_d39 ?_
      refine lv_aload_n hx hb aX_d42 rfl (lv_at hl 1 rfl) ?_
      refine y_getf X (fl131 X.2.2.2.2.1) hI.1 hY_this rfl hsi_length aX_d43 ?_
      refine lv_lload_n hx hb aX_d46 rfl (lv_at hl 2 rfl) ?_
      refine lv_bipush hx hb aX_d47 (v := 8) (by decide) ?_
      have ec8 : (8 : Int32).toInt = 8 := by decide
      refine lv_iload hx hb aX_d49 (lv_at hl 0 rfl) ?_
      refine lv_imul hx hb aX_d51 ?_
      generalize hg_z51 : (8 : Int32) * k = z51
      obtain ⟨z52, hg_z52⟩ : ∃ z52 : Int64, ((v9).toUInt64 >>> ((z51).toInt64.toUInt64 &&& Int64.toUInt64 63)).toInt64 = z52 := ⟨_, rfl⟩
      refine lv_lushr hx hb aX_d52 (v := z52) hg_z52 ?_
      obtain ⟨z53, hg_z53⟩ : ∃ z53 : Int32, (z52).toInt32 = z53 := ⟨_, rfl⟩
      refine lv_l2i hx hb aX_d53 (v := z53) hg_z53 ?_
      refine lv_sipush hx hb aX_d54 (v := 255) (by decide) ?_
      have ec255 : (255 : Int32).toInt = 255 := by decide
      refine lv_iand hx hb aX_d57 ?_
      generalize hg_z57 : z53 &&& (255 : Int32) = z57
      refine y_iast X hY0 hI hY_by_ rfl hA_by_ (by omega) (by show _ < (240 : Int); omega) ⟨_, rfl, x_i32 _⟩ (by decide +kernel) aX_d58 fun H locs hI h_new ho => ?_
      replace hA_by_ := h_new
      generalize hf_f58 : y_up fz ty.toInt.toNat z57 = f58 at hA_by_
      replace hs_by_ := y_slk hs_by_ (ho _ (y_ne hY_this hY_by_ rfl))
      replace hsi_length := y_slk hsi_length (ho _ (y_ne hY_this hY_by_ rfl))
      refine lv_aload_n hx hb aX_d59 rfl (lv_at hl 1 rfl) ?_
      refine lv_dup hx hb aX_d60 rfl ?_
      refine y_getf X (fl131 X.2.2.2.2.1) hI.1 hY_this rfl hsi_length aX_d61 ?_
      refine lv_iconst hx hb aX_d64 (v := 1) (by decide) ?_
      have ec1 : (1 : Int32).toInt = 1 := by decide
      refine lv_iadd hx hb aX_d65 ?_
      generalize hg_z65 : ty + (1 : Int32) = z65
      have h_z65 : z65.toInt = ty.toInt + 1 := by rw [← hg_z65]; have := y_add (x := ty) (y := (1 : Int32)) (by rw [ec1]; omega) (by rw [ec1]; omega); rw [ec1] at this; exact this
      refine y_putf X (fw_aX_240 X.2.2.2.2.1) hY0 hI hY_this rfl rfl ⟨_, rfl, by show (0 : Int) ≤ _; omega, by show _ ≤ (240 : Int); omega⟩ (by decide +kernel) aX_d66 fun H sl hI ho hs hk => ?_
      replace hs_by_ := hk _ _ (by decide +kernel) (by decide) hs_by_
      replace hA_by_ := hA_by_.kept (ho _ (y_ne hY_by_ hY_this rfl))
      replace hs := hs
      replace hsi_length := hs
      obtain ⟨z69, hg_z69⟩ : ∃ z69 : Int32, k + Int32.ofInt (-1) = z69 := ⟨_, rfl⟩
      have h_z69 : z69.toInt = k.toInt + (-1) := by rw [← hg_z69]; exact y_inc (by decide) (by omega) (by omega)
      refine lv_iinc hx hb aX_d69 hl (k := 0) rfl hg_z69 (by decide) (lv' := [(4, .int z69), (0, .ref this), (1, .long v9), (3, .int c9)]) rfl fun ls hl => ?_
      refine lv_goto hx hb aX_d72 (tgt := 33) (by decide) ?_
      have hby : z57 = t_by v9 k := by rw [← z_byte (by omega) (by omega)]; unfold t_byC; rw [hg_z51, hg_z52, hg_z53, hg_z57]
      exact ih _ _ _ _ _ _ _ hI hY_this hY_by_ hs_by_ hsi_length hA_by_ (lv_sub hl [0, 1, 2, 3] rfl) (by first | assumption | omega) (by first | assumption | omega) (by rw [← hf_f58, hfz, hby, show z65.toInt.toNat = ty.toInt.toNat + 1 by omega]; exact t_tyS (by omega) (by omega)) (by first | assumption | omega) (by omega)
theorem ym_addX : y_Met vwCl x_G x_Zs x_Tb x_Nb xMad y_T z_PadX := by
  refine y_main (by decide +kernel) (by decide +kernel) x_Tb_good x_Nb_ok ?_
  intro p l e s m below meth c D U Y0 av ls B hI hpre hl
  have X := B.1
  have hx := X.1
  have hb := X.2.1
  have hY0 := B.2.2.2.2.1
  obtain ⟨v0, v1, v2, rfl, hv0, ⟨v9, rfl, -⟩, ⟨c9, rfl, -⟩⟩ := y_three B.2.2.2.2.2
  obtain ⟨this, t0, rfl, ht0, hY_this⟩ := x_ref_at hv0 rfl
  obtain rfl := List.mem_singleton.mp ht0
  replace hl : lv_has ls xMad.2.2.1 [(0, .ref this), (1, .long v9), (3, .int c9)] := hl
  obtain ⟨ln, hsi_length, hln⟩ := y_fldI (k := 2) hI.1 hY_this rfl rfl
  replace hln : (0 : Int) ≤ ln.toInt ∧ ln.toInt ≤ 240 := hln
  have hl0 := hsi_length
  obtain ⟨by_, hs_by_, hY_by_⟩ := y_fldR (k := 0) hI.1 hY_this rfl rfl
  obtain ⟨fy9, hA9, -⟩ := y_arr hI.1 hY_by_ rfl rfl
  obtain ⟨fy, hcn, hA_by_⟩ := t_canon hA9
  have hs0 := hs_by_
  have hA0 := hA_by_
  refine lv_iload_n hx hb aX_d0 rfl (lv_at hl 2 rfl) ?_
  refine lv_iconst hx hb aX_d1 (v := 1) (by decide) ?_
  have ec1 : (1 : Int32).toInt = 1 := by decide
  refine lv_bipush hx hb aX_d2 (v := 8) (by decide) ?_
  have ec8 : (8 : Int32).toInt = 8 := by decide
  refine y_call (z := (1, 18, 3, none, xM10)) (av := [.int c9, .int (1 : Int32), .int (8 : Int32)]) (rest := []) (y_cokSN (n := 3) (host := "TwinFires") X ym_within (x_cons (x_bw19 1 rfl rfl) (x_cons (x_bw0 1 rfl rfl) x_nilm)) (x_bn34 6 rfl rfl) (x_bw19 2 rfl rfl) (by decide +kernel) ⟨Nat.le_of_ble_eq_true rfl, Nat.le_of_ble_eq_true rfl⟩) hY0 hI rfl aX_d4 hl.1 (Nat.le_of_ble_eq_true rfl) (Nat.le_of_ble_eq_true rfl) (Nat.le_of_ble_eq_true rfl) (y_cons ⟨_, rfl, x_i32 _⟩ (y_cons ⟨_, rfl, x_i32 _⟩ (y_cons ⟨_, rfl, x_i32 _⟩ y_nil))) rfl (y_norecv rfl) trivial (y_sub_ef rfl) fun v Yn o Hn L ho hr ha hIn hx_ hE hP => ?_
  replace hs_by_ := y_Efld hE hY_this rfl (by decide) (by decide) hs_by_
  replace hsi_length := y_Efld hE hY_this rfl (by decide) (by decide) hsi_length
  replace hA_by_ := hA_by_.kept (y_Earr hE hY_by_ rfl (by decide))
  replace hY_this := y_ext hx_ hI.1 hY_this
  replace hY_by_ := y_ext hx_ hI.1 hY_by_
  obtain ⟨r4, rfl, hin_r4, hout_r4⟩ := hP _ _ _ rfl
  clear ho hr ha hE hP hI hx_
  rename x_I _ _ _ _ _ _ _ _ _ _ => hI
  have ec0 : (0 : Int32).toInt = 0 := by decide
  refine lv_if_ne hx hb aX_d7 (tgt := 13) (by decide) (fun q7 => ?_) (fun q7 => ?_)
  · have q7_ : ¬ r4.toInt = (0 : Int32).toInt := fun q => q7 (Int32.toInt_inj.mp q)
    have hok := hin_r4 (by assumption)
    replace hok : 1 ≤ c9.toInt ∧ c9.toInt ≤ 8 := by omega
    refine lv_aload_n hx hb aX_d13 rfl (lv_at hl 0 rfl) ?_
    refine y_getf X (fl131 X.2.2.2.2.1) hI.1 hY_this rfl hsi_length aX_d14 ?_
    refine lv_iload_n hx hb aX_d17 rfl (lv_at hl 2 rfl) ?_
    refine lv_iadd hx hb aX_d18 ?_
    generalize hg_z18 : ln + c9 = z18
    have h_z18 : z18.toInt = ln.toInt + c9.toInt := by rw [← hg_z18]; have := y_add (x := ln) (y := c9) (by omega) (by omega); exact this
    refine lv_sipush hx hb aX_d19 (v := 240) (by decide) ?_
    have ec240 : (240 : Int32).toInt = 240 := by decide
    refine lv_icmp_le hx hb aX_d22 (tgt := 28) (by decide) (fun q22 => ?_) (fun q22 => ?_)
    · have q22_ : z18.toInt ≤ (240 : Int32).toInt := x_le32.mp q22
      have hfit : ln.toInt + c9.toInt ≤ 240 := by omega
      refine lv_iload_n hx hb aX_d28 rfl (lv_at hl 2 rfl) ?_
      refine lv_iconst hx hb aX_d29 (v := 1) (by decide) ?_
      refine lv_isub hx hb aX_d30 ?_
      generalize hg_z30 : c9 - (1 : Int32) = z30
      have h_z30 : z30.toInt = c9.toInt - 1 := by rw [← hg_z30]; have := y_sub (x := c9) (y := (1 : Int32)) (by rw [ec1]; omega) (by rw [ec1]; omega); rw [ec1] at this; exact this
      refine lv_istore hx hb aX_d31 hl (by decide) (lv' := [(4, .int z30), (0, .ref this), (1, .long v9), (3, .int c9)]) rfl fun ls hl => ?_
      exact aX_L33 B rfl hs0 hl0 hcn hA0 hln hok hfit 20 _ _ _ _ _ _ _ hI hY_this hY_by_ hs_by_ hsi_length hA_by_ (lv_sub hl [0, 1, 2, 3] rfl) (by first | assumption | omega) (by first | assumption | omega) t_ty0.symm (Int.le_refl _) (by omega)
    · have q22_ : (240 : Int32).toInt < z18.toInt := Int.not_le.mp fun q => q22 (x_le32.mpr q)
      refine lv_bipush hx hb aX_d25 (v := (-4)) (by decide) ?_
      have ecm4 : ((-4) : Int32).toInt = (-4) := by decide
      exact y_ireturn B hI rfl rfl rfl List.mem_cons_self ⟨_, rfl, ⟨_, rfl, x_i32 _⟩⟩ (x_cs.mono B.2.2.2.2.2 (y_mon B hI)) (fun t' b' v' c' ln' fy' h1 h2 h3 h4 h5 => by cases h1; cases h2.symm.trans hs0; cases h3.symm.trans hl0; cases t_uniq h5 hA0 h4 hcn; exact ⟨_, _, _, rfl, hsi_length, hcn, hA_by_, fun q9 => absurd hok q9, fun _ _ => ⟨rfl, rfl, rfl⟩, fun _ q9 => absurd q9 (by omega)⟩) (Nat.le_refl _) (Nat.le_refl _) aX_d27
  · have q7_ : r4.toInt = (0 : Int32).toInt := by rw [q7]
    have hno := hout_r4 (by assumption)
    replace hno : ¬ (1 ≤ c9.toInt ∧ c9.toInt ≤ 8) := by omega
    refine lv_bipush hx hb aX_d10 (v := (-2)) (by decide) ?_
    have ecm2 : ((-2) : Int32).toInt = (-2) := by decide
    exact y_ireturn B hI rfl rfl rfl List.mem_cons_self ⟨_, rfl, ⟨_, rfl, x_i32 _⟩⟩ (x_cs.mono B.2.2.2.2.2 (y_mon B hI)) (fun t' b' v' c' ln' fy' h1 h2 h3 h4 h5 => by cases h1; cases h2.symm.trans hs0; cases h3.symm.trans hl0; cases t_uniq h5 hA0 h4 hcn; exact ⟨_, _, _, rfl, hsi_length, hcn, hA_by_, fun _ => ⟨rfl, rfl, rfl⟩, fun q9 => absurd q9 hno, fun q9 => absurd q9 hno⟩) (Nat.le_refl _) (Nat.le_refl _) aX_d12
def z_PTty : yP := fun D av Y H v Y' H' => ∀ (this : Nat) (v9 : Int64) (c : Int32) (f : Nat → Int32) (K : Nat → Option (Nat → Int32)) (t9 : Nat → Int32) (n9 : Int32), av = [.ref this, .long v9, .int c] → z_RC D Y H this f K t9 n9 → ∃ (r n1 : Int32) (t1 : Nat → Int32), v = some (.int r) ∧ z_RC D Y' H' this f K t1 n1 ∧ m_type t9 n9 v9 c r t1 n1
def z_PTct : yP := fun D av Y H v Y' H' => ∀ (this : Nat) (f : Nat → Int32) (K : Nat → Option (Nat → Int32)) (t9 : Nat → Int32) (n9 : Int32), av = [.ref this] → z_RC D Y H this f K t9 n9 → v = some (.int n9) ∧ z_RC D Y' H' this f K t9 0
theorem Tty_d0 : decode xM1023.2.1 0 = .ok (.aload_n 0, 1) := dz_ok (by decide +kernel)
theorem Tty_d1 : decode xM1023.2.1 1 = .ok (.aload_n 0, 1) := dz_ok (by decide +kernel)
theorem Tty_d2 : decode xM1023.2.1 2 = .ok (.getfield 26, 3) := dz_ok (by decide +kernel)
theorem Tty_d5 : decode xM1023.2.1 5 = .ok (.lload_n 1, 1) := dz_ok (by decide +kernel)
theorem Tty_d6 : decode xM1023.2.1 6 = .ok (.iload_n 3, 1) := dz_ok (by decide +kernel)
theorem Tty_d7 : decode xM1023.2.1 7 = .ok (.invokevirtual 141, 3) := dz_ok (by decide +kernel)
theorem Tty_d10 : decode xM1023.2.1 10 = .ok (.invokevirtual 59, 3) := dz_ok (by decide +kernel)
theorem Tty_d13 : decode xM1023.2.1 13 = .ok (.ireturn, 1) := dz_ok (by decide +kernel)
theorem ym_Ttype : y_Met vwCl x_G x_Zs x_Tb x_Nb xM1023 z_ATF z_PTty := by
  refine y_main (by decide +kernel) (by decide +kernel) x_Tb_good x_Nb_ok ?_
  intro p l e s m below meth c D U Y0 av ls B hI hpre hl
  have X := B.1
  have hx := X.1
  have hb := X.2.1
  have hY0 := B.2.2.2.2.1
  obtain ⟨v0, v1, v2, rfl, hv0, ⟨v9, rfl, -⟩, ⟨c9, rfl, -⟩⟩ := y_three B.2.2.2.2.2
  obtain ⟨this, t0, rfl, ht0, hY_this⟩ := x_ref_at hv0 rfl
  obtain rfl := List.mem_singleton.mp ht0
  replace hl : lv_has ls xM1023.2.2.1 [(0, .ref this), (1, .long v9), (3, .int c9)] := hl
  obtain ⟨f, K, tt, nn, hR⟩ := hpre _ rfl
  have hR0 := hR
  obtain ⟨hd, dr, kp, tx, by_, kk, ⟨-, -, -, hs_tx, hs_by, hs_len⟩, ⟨-, -, -, hY_tx, hY_by, -⟩, -, -, -, -, htc, hA_by⟩ := id hR
  refine lv_aload_n hx hb Tty_d0 rfl (lv_at hl 0 rfl) ?_
  refine lv_aload_n hx hb Tty_d1 rfl (lv_at hl 0 rfl) ?_
  refine y_getf X (fl120 X.2.2.2.2.1) hI.1 hY_this rfl hs_tx Tty_d2 ?_
  refine lv_lload_n hx hb Tty_d5 rfl (lv_at hl 1 rfl) ?_
  refine lv_iload_n hx hb Tty_d6 rfl (lv_at hl 2 rfl) ?_
  refine y_call (z := (0, 141, 3, some 4, xMad)) (av := [.ref tx, .long v9, .int c9]) (rest := [.ref this]) (y_cokV (n := 2) (ci := 7) X ym_addX rfl rfl rfl (x_cons (x_bw34 2 rfl rfl) (x_cons (x_bw34 3 rfl rfl) (x_cons (x_bw34 4 rfl rfl) (x_cons (x_bw0 5 rfl rfl) x_nilm)))) (x_bw34 5 rfl rfl) (by decide +kernel) ⟨Nat.le_of_ble_eq_true rfl, Nat.le_of_ble_eq_true rfl⟩) hY0 hI rfl Tty_d7 hl.1 (Nat.le_of_ble_eq_true rfl) (Nat.le_of_ble_eq_true rfl) (Nat.le_of_ble_eq_true rfl) (y_cons (y_cref hY_tx rfl) (y_cons ⟨_, rfl, x_i64 _⟩ (y_cons ⟨_, rfl, x_i32 _⟩ y_nil))) rfl (y_recv rfl hY_tx) trivial (y_sub_ef rfl) fun v Yn o Hn L ho hr ha hIn hx_ hE hP => ?_
  obtain ⟨r9, n1, t1, rfl, e1, e2, e3, hm9⟩ := hP _ _ _ _ _ _ rfl hs_by hs_len htc hA_by
  replace hR := hR.text hY_this hE (fun q u h => y_ext hx_ hI.1 h) (by decide +kernel) e2 (fun tx9 by9 h1 h2 => by cases h1.symm.trans hs_tx; cases h2.symm.trans hs_by; exact ⟨e1, e3⟩)
  replace hs_tx := y_Efld hE hY_this rfl (by decide) (by decide) hs_tx
  replace hY_this := y_ext hx_ hI.1 hY_this
  replace hY_tx := y_ext hx_ hI.1 hY_tx
  clear ho hr ha hE hP hI hx_
  rename x_I _ _ _ _ _ _ _ _ _ _ => hI
  refine y_call (z := (0, 59, 2, some 0, xM8)) (av := [.ref this, .int r9]) (rest := []) (y_cokV (n := 1) (ci := 11) X ym_counted rfl rfl rfl (x_cons (x_bw19 7 rfl rfl) (x_cons (x_bw19 9 rfl rfl) (x_cons (x_at 1 (by decide +kernel) rfl) (x_cons (x_bw0 1 rfl rfl) x_nilm)))) (x_bw19 10 rfl rfl) (by decide +kernel) ⟨Nat.le_of_ble_eq_true rfl, Nat.le_of_ble_eq_true rfl⟩) hY0 hI rfl Tty_d10 hl.1 (Nat.le_of_ble_eq_true rfl) (Nat.le_of_ble_eq_true rfl) (Nat.le_of_ble_eq_true rfl) (y_cons (y_cref hY_this rfl) (y_cons ⟨_, rfl, x_i32 _⟩ y_nil)) rfl (y_recv rfl hY_this) trivial (y_sub_ef rfl) fun v Yn o Hn L ho hr ha hIn hx_ hE hP => ?_
  replace hR := hR.E hY_this hE (fun q u h => y_ext hx_ hI.1 h) (by decide +kernel)
  replace hs_tx := y_Efld hE hY_this rfl (by decide) (by decide) hs_tx
  replace hY_this := y_ext hx_ hI.1 hY_this
  replace hY_tx := y_ext hx_ hI.1 hY_tx
  obtain rfl := hP _ _ rfl
  clear ho hr ha hE hP hI hx_
  rename x_I _ _ _ _ _ _ _ _ _ _ => hI
  exact y_ireturn B hI rfl rfl rfl List.mem_cons_self ⟨_, rfl, ⟨_, rfl, x_i32 _⟩⟩ (x_cs.mono B.2.2.2.2.2 (y_mon B hI)) (fun t' v' c' f' K' tt' nn' h1 h2 => by cases h1; obtain ⟨ef, et, en, eK⟩ := hR0.eqs h2; subst ef et en; exact ⟨_, _, _, rfl, hR.congr eK, hm9⟩) (Nat.le_refl _) (Nat.le_refl _) Tty_d13
theorem z_RC.textI {D : va_G} {Y : xY} {H H' : Heap} {q tx : Nat} {f t : Nat → Int32} {K : Nat → Option (Nat → Int32)} {n n' : Int32} (h : z_RC D Y H q f K t n) (hq : Y q = some 0) (htx : x_sl D 11 3 q H = some (.ref tx)) (hY : Y tx = some 4) (h1 : x_sl D 7 2 tx H' = some (.int n')) (h2 : ∀ i w, i < 5 → i ≠ 2 → x_sl D 7 i tx H = w → x_sl D 7 i tx H' = w) (ho : ∀ b, b ≠ tx → H'[b]? = H[b]?) : z_RC D Y H' q f K t n' := by
  obtain ⟨hd, dr, kp, tx', by_, k, ⟨a1, a2, a3, a4, a5, a6⟩, ⟨b1, b2, b3, b4, b5, b6⟩, l1, ⟨f', l2⟩, kk, ⟨d1, d2, d3⟩, tc, ta⟩ := h
  cases a4.symm.trans htx
  have hk9 : ∀ b u, Y b = some u → u ≠ 4 → H'[b]? = H[b]? := fun b u hb hu => ho b (z_Yne hb hY hu)
  have hkL : ∀ r f9, Y r = some 2 → z_L D Y r H f9 → z_L D Y r H' f9 := fun r f9 hr h9 => by
    have h' := h9
    obtain ⟨-, k1, ⟨b, e1, e2, e3⟩, -⟩ := h'
    refine h9.kept (fun _ _ hh => hh) (hk9 r 2 hr (by decide)) (fun c hc a ha => ?_) (fun a ha => ?_)
    · obtain ⟨a', x1, x2, -⟩ := k1 c hc
      cases x1.symm.trans ha
      have := z_C_tag c hc
      exact hk9 a _ x2 (by omega)
    · cases e1.symm.trans ha
      refine ⟨hk9 b 24 e2 (by decide), fun j s hj hs => ?_⟩
      obtain ⟨s', s1, z, z1, z2, -⟩ := e3 j hj
      cases s1.symm.trans hs
      have := z_Kd_tag z z1
      exact hk9 s _ z2 (by omega)
  have hfl : ∀ r, Y r = some 2 → ∀ k, k < 16 → x_sl D 2 k r H' = x_sl D 2 k r H := fun r hr k _ => y_slk rfl (hk9 r 2 hr (by decide))
  have hdis : ∀ r r', Y r = some 2 → Y r' = some 2 → z_dis D H r r' → z_dis D H' r r' := fun r r' hr hr' h9 => h9.moved (fun k hk _ _ _ => hfl r hr k hk) (fun k hk _ _ _ => hfl r' hr' k hk)
  have hq0 := hk9 q 0 hq (by decide)
  refine ⟨hd, dr, kp, tx, by_, k, ⟨y_slk a1 hq0, y_slk a2 hq0, y_slk a3 hq0, y_slk a4 hq0, h2 0 _ (by decide) (by decide) a5, h1⟩, ⟨b1, b2, b3, b4, b5, b6⟩, hkL hd f b1 l1, ⟨f', hkL dr f' b2 l2⟩, fun i hi => ?_, ⟨hdis _ _ b1 b2 d1, fun i a hi hk => ⟨hdis _ _ b1 (b6 i a hk) (d2 i a hi hk).1, hdis _ _ b2 (b6 i a hk) (d2 i a hi hk).2⟩, fun a b e0 e1 => hdis _ _ (b6 0 a e0) (b6 1 b e1) (d3 a b e0 e1)⟩, tc, ta.kept (hk9 by_ 39 b5 (by decide))⟩
  refine ⟨by rw [z_atk (hk9 kp 41 b3 (by decide))]; exact (kk i hi).1, ?_⟩
  rcases (kk i hi).2 with h9 | ⟨a, g9, e1, e2, e3⟩
  · exact Or.inl h9
  · exact Or.inr ⟨a, g9, e1, e2, hkL a g9 (b6 i a e1) e3⟩
theorem Tct_d0 : decode xM57.2.1 0 = .ok (.aload_n 0, 1) := dz_ok (by decide +kernel)
theorem Tct_d1 : decode xM57.2.1 1 = .ok (.getfield 26, 3) := dz_ok (by decide +kernel)
theorem Tct_d4 : decode xM57.2.1 4 = .ok (.getfield 145, 3) := dz_ok (by decide +kernel)
theorem Tct_d7 : decode xM57.2.1 7 = .ok (.istore_n 1, 1) := dz_ok (by decide +kernel)
theorem Tct_d8 : decode xM57.2.1 8 = .ok (.aload_n 0, 1) := dz_ok (by decide +kernel)
theorem Tct_d9 : decode xM57.2.1 9 = .ok (.getfield 26, 3) := dz_ok (by decide +kernel)
theorem Tct_d12 : decode xM57.2.1 12 = .ok (.iconst 0, 1) := dz_ok (by decide +kernel)
theorem Tct_d13 : decode xM57.2.1 13 = .ok (.putfield 145, 3) := dz_ok (by decide +kernel)
theorem Tct_d16 : decode xM57.2.1 16 = .ok (.iload_n 1, 1) := dz_ok (by decide +kernel)
theorem Tct_d17 : decode xM57.2.1 17 = .ok (.ireturn, 1) := dz_ok (by decide +kernel)
theorem ym_TclearText : y_Met vwCl x_G x_Zs x_Tb x_Nb xM57 z_ATF z_PTct := by
  refine y_main (by decide +kernel) (by decide +kernel) x_Tb_good x_Nb_ok ?_
  intro p l e s m below meth c D U Y0 av ls B hI hpre hl
  have X := B.1
  have hx := X.1
  have hb := X.2.1
  have hY0 := B.2.2.2.2.1
  obtain ⟨v0, rfl, hv0⟩ := x_one B.2.2.2.2.2
  obtain ⟨this, t0, rfl, ht0, hY_this⟩ := x_ref_at hv0 rfl
  obtain rfl := List.mem_singleton.mp ht0
  replace hl : lv_has ls xM57.2.2.1 [(0, .ref this)] := hl
  obtain ⟨f, K, tt, nn, hR⟩ := hpre _ rfl
  have hR0 := hR
  obtain ⟨hd, dr, kp, tx, by_, kk, ⟨-, -, -, hs_tx, hs_by, hs_len⟩, ⟨-, -, -, hY_tx, hY_by, -⟩, -, -, -, -, htc, hA_by⟩ := id hR
  have hnb : 0 ≤ nn.toInt ∧ nn.toInt ≤ 240 := by obtain ⟨x9, e9, b9⟩ := y_fldI (k := 2) hI.1 hY_tx rfl rfl; rw [hs_len] at e9; cases e9; exact b9
  refine lv_aload_n hx hb Tct_d0 rfl (lv_at hl 0 rfl) ?_
  refine y_getf X (fl120 X.2.2.2.2.1) hI.1 hY_this rfl hs_tx Tct_d1 ?_
  refine y_getf X (fl121 X.2.2.2.2.1) hI.1 hY_tx rfl hs_len Tct_d4 ?_
  refine lv_istore_n hx hb Tct_d7 rfl hl (by decide) (lv' := [(1, .int nn), (0, .ref this)]) rfl fun ls hl => ?_
  refine lv_aload_n hx hb Tct_d8 rfl (lv_at hl 1 rfl) ?_
  refine y_getf X (fl120 X.2.2.2.2.1) hI.1 hY_this rfl hs_tx Tct_d9 ?_
  refine lv_iconst hx hb Tct_d12 (v := 0) (by decide) ?_
  have ec0 : (0 : Int32).toInt = 0 := by decide
  have hs_tx0 := hs_tx
  refine y_putf X (fw122 X.2.2.2.2.1) hY0 hI hY_tx rfl rfl ⟨_, rfl, by show (0 : Int) ≤ _; omega, by show _ ≤ (240 : Int); omega⟩ (by decide +kernel) Tct_d13 fun H sl hI ho hs hk => ?_
  replace hs_tx := y_slk hs_tx (ho _ (y_ne hY_this hY_tx rfl))
  replace hs := hs
  replace hs_len := hs
  refine lv_iload_n hx hb Tct_d16 rfl (lv_at hl 0 rfl) ?_
  have hR1 := hR.textI hY_this hs_tx0 hY_tx hs (fun i w hi hn h => hk i w hi hn h) ho
  exact y_ireturn B hI rfl rfl rfl List.mem_cons_self ⟨_, rfl, ⟨_, rfl, by show (0 : Int) ≤ _; omega, by show _ ≤ (240 : Int); omega⟩⟩ (x_cs.mono B.2.2.2.2.2 (y_mon B hI)) (fun t' f' K' tt' nn' h1 h2 => by cases h1; obtain ⟨ef, et, en, eK⟩ := hR0.eqs h2; subst ef et en; exact ⟨rfl, hR1.congr eK⟩) (Nat.le_refl _) (Nat.le_refl _) Tct_d17
def z_PtyX : yP := fun D av _ H v _ H' => ∀ (this by_ : Nat) (v9 : Int64) (c ln : Int32) (fy : Nat → Int32), av = [.ref this, .long v9, .int c] → x_sl D 12 9 this H = some (.ref by_) → x_sl D 12 10 this H = some (.int ln) → t_c fy → y_A by_ 240 H fy → ∃ (r n1 : Int32) (t1 : Nat → Int32), v = some (.int r) ∧ x_sl D 12 10 this H' = some (.int n1) ∧ t_c t1 ∧ y_A by_ 240 H' t1 ∧ m_type fy ln v9 c r t1 n1
theorem mtX_d0 : decode xMty.2.1 0 = .ok (.iload_n 3, 1) := dz_ok (by decide +kernel)
theorem mtX_d1 : decode xMty.2.1 1 = .ok (.i2l, 1) := dz_ok (by decide +kernel)
theorem mtX_d2 : decode xMty.2.1 2 = .ok (.lconst 1, 1) := dz_ok (by decide +kernel)
theorem mtX_d3 : decode xMty.2.1 3 = .ok (.ldc2_w 158, 3) := dz_ok (by decide +kernel)
theorem mtX_d6 : decode xMty.2.1 6 = .ok (.invokestatic 87, 3) := dz_ok (by decide +kernel)
theorem mtX_d9 : decode xMty.2.1 9 = .ok (.ifCond .ne 8, 3) := dz_ok (by decide +kernel)
theorem mtX_d12 : decode xMty.2.1 12 = .ok (.aload_n 0, 1) := dz_ok (by decide +kernel)
theorem mtX_d13 : decode xMty.2.1 13 = .ok (.invokevirtual 102, 3) := dz_ok (by decide +kernel)
theorem mtX_d16 : decode xMty.2.1 16 = .ok (.ireturn, 1) := dz_ok (by decide +kernel)
theorem mtX_d17 : decode xMty.2.1 17 = .ok (.aload_n 0, 1) := dz_ok (by decide +kernel)
theorem mtX_d18 : decode xMty.2.1 18 = .ok (.getfield 160, 3) := dz_ok (by decide +kernel)
theorem mtX_d21 : decode xMty.2.1 21 = .ok (.iload_n 3, 1) := dz_ok (by decide +kernel)
theorem mtX_d22 : decode xMty.2.1 22 = .ok (.iadd, 1) := dz_ok (by decide +kernel)
theorem mtX_d23 : decode xMty.2.1 23 = .ok (.sipush 240, 3) := dz_ok (by decide +kernel)
theorem mtX_d26 : decode xMty.2.1 26 = .ok (.if_icmp .le 8, 3) := dz_ok (by decide +kernel)
theorem mtX_d29 : decode xMty.2.1 29 = .ok (.aload_n 0, 1) := dz_ok (by decide +kernel)
theorem mtX_d30 : decode xMty.2.1 30 = .ok (.invokevirtual 105, 3) := dz_ok (by decide +kernel)
theorem mtX_d33 : decode xMty.2.1 33 = .ok (.ireturn, 1) := dz_ok (by decide +kernel)
theorem mtX_d34 : decode xMty.2.1 34 = .ok (.iload_n 3, 1) := dz_ok (by decide +kernel)
theorem mtX_d35 : decode xMty.2.1 35 = .ok (.iconst 1, 1) := dz_ok (by decide +kernel)
theorem mtX_d36 : decode xMty.2.1 36 = .ok (.isub, 1) := dz_ok (by decide +kernel)
theorem mtX_d37 : decode xMty.2.1 37 = .ok (.istore 4, 2) := dz_ok (by decide +kernel)
theorem mtX_d39 : decode xMty.2.1 39 = .ok (.iload 4, 2) := dz_ok (by decide +kernel)
theorem mtX_d41 : decode xMty.2.1 41 = .ok (.ifCond .lt 40, 3) := dz_ok (by decide +kernel)
theorem mtX_d44 : decode xMty.2.1 44 = .ok (.aload_n 0, 1) := dz_ok (by decide +kernel)
theorem mtX_d45 : decode xMty.2.1 45 = .ok (.getfield 29, 3) := dz_ok (by decide +kernel)
theorem mtX_d48 : decode xMty.2.1 48 = .ok (.aload_n 0, 1) := dz_ok (by decide +kernel)
theorem mtX_d49 : decode xMty.2.1 49 = .ok (.getfield 160, 3) := dz_ok (by decide +kernel)
theorem mtX_d52 : decode xMty.2.1 52 = .ok (.lload_n 1, 1) := dz_ok (by decide +kernel)
theorem mtX_d53 : decode xMty.2.1 53 = .ok (.bipush 8, 2) := dz_ok (by decide +kernel)
theorem mtX_d55 : decode xMty.2.1 55 = .ok (.iload 4, 2) := dz_ok (by decide +kernel)
theorem mtX_d57 : decode xMty.2.1 57 = .ok (.imul, 1) := dz_ok (by decide +kernel)
theorem mtX_d58 : decode xMty.2.1 58 = .ok (.lshr, 1) := dz_ok (by decide +kernel)
theorem mtX_d59 : decode xMty.2.1 59 = .ok (.ldc2_w 164, 3) := dz_ok (by decide +kernel)
theorem mtX_d62 : decode xMty.2.1 62 = .ok (.land, 1) := dz_ok (by decide +kernel)
theorem mtX_d63 : decode xMty.2.1 63 = .ok (.l2i, 1) := dz_ok (by decide +kernel)
theorem mtX_d64 : decode xMty.2.1 64 = .ok (.iastore, 1) := dz_ok (by decide +kernel)
theorem mtX_d65 : decode xMty.2.1 65 = .ok (.aload_n 0, 1) := dz_ok (by decide +kernel)
theorem mtX_d66 : decode xMty.2.1 66 = .ok (.dup, 1) := dz_ok (by decide +kernel)
theorem mtX_d67 : decode xMty.2.1 67 = .ok (.getfield 160, 3) := dz_ok (by decide +kernel)
theorem mtX_d70 : decode xMty.2.1 70 = .ok (.iconst 1, 1) := dz_ok (by decide +kernel)
theorem mtX_d71 : decode xMty.2.1 71 = .ok (.iadd, 1) := dz_ok (by decide +kernel)
theorem mtX_d72 : decode xMty.2.1 72 = .ok (.putfield 160, 3) := dz_ok (by decide +kernel)
theorem mtX_d75 : decode xMty.2.1 75 = .ok (.iinc 4 (-1), 3) := dz_ok (by decide +kernel)
theorem mtX_d78 : decode xMty.2.1 78 = .ok (.goto (-39), 3) := dz_ok (by decide +kernel)
theorem mtX_d81 : decode xMty.2.1 81 = .ok (.aload_n 0, 1) := dz_ok (by decide +kernel)
theorem mtX_d82 : decode xMty.2.1 82 = .ok (.getfield 160, 3) := dz_ok (by decide +kernel)
theorem mtX_d85 : decode xMty.2.1 85 = .ok (.ireturn, 1) := dz_ok (by decide +kernel)
theorem mtX_L39 {p : Program} {l : Launch} {e : Env} {s : State} {m : MethodId} {below : List Frame} {meth : Method} {c : Code} {D : va_G} {U : State} {Y0 : xY} {av : List Value} (B : y_B vwCl x_Tb x_Nb xMty p s m meth c D U Y0 av) {this by_ : Nat} {v9 : Int64} {c9 ln : Int32} {fy : Nat → Int32} (hav : av = [.ref this, .long v9, .int c9]) (hs0 : x_sl D 12 9 this s.heap = some (.ref by_)) (hl0 : x_sl D 12 10 this s.heap = some (.int ln)) (hcn : t_c fy) (hA0 : y_A by_ 240 s.heap fy) (hln : 0 ≤ ln.toInt ∧ ln.toInt ≤ 240) (hok : 1 ≤ c9.toInt ∧ c9.toInt ≤ 8) (hfit : ln.toInt + c9.toInt ≤ 240)  :
    ∀ (n : Nat), ∀ (H : Heap) (Y : xY) (locs : List Loc) (ls : Array Slot) (k : Int32) (ty : Int32) (fz : Nat → Int32), x_I D x_G x_Zs U (x_efs xMty) Y0 s.heap Y H locs → Y this = some 17 → Y by_ = some 52 → x_sl D 12 9 this H = some (.ref by_) → x_sl D 12 10 this H = some (.int ty) → y_A by_ 240 H fz → lv_has ls xMty.2.2.1 [(4, .int k), (0, .ref this), (1, .long v9), (3, .int c9)] → (-1 ≤ k.toInt ∧ k.toInt ≤ 7) → (ty.toInt = ln.toInt + c9.toInt - 1 - k.toInt) → (fz = t_ty fy ln.toInt.toNat (ln.toInt + c9.toInt).toNat v9 ty.toInt.toNat) → (ln.toInt ≤ ty.toInt) → (k.toInt + 1).toNat < n → W p l e (x_rm xMty) s m av.toArray below meth c H locs 0 0 (y_QQ below D x_G x_Zs U xMty z_PtyX av Y0 s) (F0 m 39 ls []) := by
  have X := B.1
  have hx := X.1
  have hb := X.2.1
  have hY0 := B.2.2.2.2.1
  intro n
  induction n with
  | zero => intro _ _ _ _ _ _ _ _ _ _ _ _ _ _ _ _ _ _ h; exact absurd h (Nat.not_lt_zero _)
  | succ n ih =>
    intro H Y locs ls k ty fz hI hY_this hY_by_ hs_by_ hsi_typed hA_by_ hl hk hty hfz hlo hn
    refine lv_iload hx hb mtX_d39 (lv_at hl 0 rfl) ?_
    have ec0 : (0 : Int32).toInt = 0 := by decide
    refine lv_if_lt hx hb mtX_d41 (tgt := 81) (by decide) (fun q41 => ?_) (fun q41 => ?_)
    · have q41_ : k.toInt < (0 : Int32).toInt := x_lt32.mp q41
      refine lv_aload_n hx hb mtX_d81 rfl (lv_at hl 1 rfl) ?_
      refine y_getf X (fl193 X.2.2.2.2.1) hI.1 hY_this rfl hsi_typed mtX_d82 ?_
      subst hav
      exact y_ireturn B hI rfl rfl rfl List.mem_cons_self ⟨_, rfl, ⟨_, rfl, x_i32 _⟩⟩ (x_cs.mono B.2.2.2.2.2 (y_mon B hI)) (fun t' b' v' c' ln' fy' h1 h2 h3 h4 h5 => by cases h1; cases h2.symm.trans hs0; cases h3.symm.trans hl0; cases t_uniq h5 hA0 h4 hcn; exact ⟨_, _, _, rfl, hsi_typed, t_tyc (n := ln.toInt.toNat) (e := (ln.toInt + c9.toInt).toNat) (v := v9) (m := ty.toInt.toNat) hcn (by omega), by rw [← hfz]; exact hA_by_, fun q9 => absurd hok q9, fun _ q9 => absurd q9 (by omega), fun _ _ => ⟨by omega, by rw [show ty.toInt.toNat = (ln.toInt + c9.toInt).toNat by omega], rfl⟩⟩) (Nat.le_refl _) (Nat.le_refl _) mtX_d85
    · have q41_ : (0 : Int32).toInt ≤ k.toInt := Int.not_lt.mp fun q => q41 (x_lt32.mpr q)
      refine lv_aload_n hx hb mtX_d44 rfl (lv_at hl 1 rfl) ?_
      refine y_getf X (fl195 X.2.2.2.2.1) hI.1 hY_this rfl hs_by_ mtX_d45 ?_
      refine lv_aload_n hx hb mtX_d48 rfl (lv_at hl 1 rfl) ?_
      refine y_getf X (fl193 X.2.2.2.2.1) hI.1 hY_this rfl hsi_typed mtX_d49 ?_
      refine lv_lload_n hx hb mtX_d52 rfl (lv_at hl 2 rfl) ?_
      refine lv_bipush hx hb mtX_d53 (v := 8) (by decide) ?_
      have ec8 : (8 : Int32).toInt = 8 := by decide
      refine lv_iload hx hb mtX_d55 (lv_at hl 0 rfl) ?_
      refine lv_imul hx hb mtX_d57 ?_
      generalize hg_z57 : (8 : Int32) * k = z57
      obtain ⟨z58, hg_z58⟩ : ∃ z58 : Int64, v9 >>> ((z57).toInt64 &&& 63) = z58 := ⟨_, rfl⟩
      refine lv_lshr hx hb mtX_d58 (v := z58) hg_z58 ?_
      refine lv_ldc2 hx hb X.2.2.2.1 (v := 255) (X.2.2.2.2.1 _ (x_bw73 14 rfl rfl)) mtX_d59 ?_
      have el255 : (255 : Int64).toInt = 255 := by decide
      refine lv_land hx hb mtX_d62 ?_
      generalize hg_z62 : z58 &&& (255 : Int64) = z62
      obtain ⟨z63, hg_z63⟩ : ∃ z63 : Int32, (z62).toInt32 = z63 := ⟨_, rfl⟩
      refine lv_l2i hx hb mtX_d63 (v := z63) hg_z63 ?_
      refine y_iast X hY0 hI hY_by_ rfl hA_by_ (by omega) (by show _ < (240 : Int); omega) ⟨_, rfl, x_i32 _⟩ (by decide +kernel) mtX_d64 fun H locs hI h_new ho => ?_
      replace hA_by_ := h_new
      generalize hf_f64 : y_up fz ty.toInt.toNat z63 = f64 at hA_by_
      replace hs_by_ := y_slk hs_by_ (ho _ (y_ne hY_this hY_by_ rfl))
      replace hsi_typed := y_slk hsi_typed (ho _ (y_ne hY_this hY_by_ rfl))
      refine lv_aload_n hx hb mtX_d65 rfl (lv_at hl 1 rfl) ?_
      refine lv_dup hx hb mtX_d66 rfl ?_
      refine y_getf X (fl193 X.2.2.2.2.1) hI.1 hY_this rfl hsi_typed mtX_d67 ?_
      refine lv_iconst hx hb mtX_d70 (v := 1) (by decide) ?_
      have ec1 : (1 : Int32).toInt = 1 := by decide
      refine lv_iadd hx hb mtX_d71 ?_
      generalize hg_z71 : ty + (1 : Int32) = z71
      have h_z71 : z71.toInt = ty.toInt + 1 := by rw [← hg_z71]; have := y_add (x := ty) (y := (1 : Int32)) (by rw [ec1]; omega) (by rw [ec1]; omega); rw [ec1] at this; exact this
      refine y_putf X (fw194 X.2.2.2.2.1) hY0 hI hY_this rfl rfl ⟨_, rfl, by show (0 : Int) ≤ _; omega, by show _ ≤ (240 : Int); omega⟩ (by decide +kernel) mtX_d72 fun H sl hI ho hs hk => ?_
      replace hs_by_ := hk _ _ (by decide +kernel) (by decide) hs_by_
      replace hA_by_ := hA_by_.kept (ho _ (y_ne hY_by_ hY_this rfl))
      replace hs := hs
      replace hsi_typed := hs
      obtain ⟨z75, hg_z75⟩ : ∃ z75 : Int32, k + Int32.ofInt (-1) = z75 := ⟨_, rfl⟩
      have h_z75 : z75.toInt = k.toInt + (-1) := by rw [← hg_z75]; exact y_inc (by decide) (by omega) (by omega)
      refine lv_iinc hx hb mtX_d75 hl (k := 0) rfl hg_z75 (by decide) (lv' := [(4, .int z75), (0, .ref this), (1, .long v9), (3, .int c9)]) rfl fun ls hl => ?_
      refine lv_goto hx hb mtX_d78 (tgt := 39) (by decide) ?_
      have hby : z63 = t_by v9 k := by unfold t_by; rw [hg_z57, hg_z58, hg_z62, hg_z63]
      exact ih _ _ _ _ _ _ _ hI hY_this hY_by_ hs_by_ hsi_typed hA_by_ (lv_sub hl [0, 1, 2, 3] rfl) (by first | assumption | omega) (by first | assumption | omega) (by rw [← hf_f64, hfz, hby, show z71.toInt.toNat = ty.toInt.toNat + 1 by omega]; exact t_tyS (by omega) (by omega)) (by first | assumption | omega) (by omega)
theorem ym_typeX : y_Met vwCl x_G x_Zs x_Tb x_Nb xMty y_T z_PtyX := by
  refine y_main (by decide +kernel) (by decide +kernel) x_Tb_good x_Nb_ok ?_
  intro p l e s m below meth c D U Y0 av ls B hI hpre hl
  have X := B.1
  have hx := X.1
  have hb := X.2.1
  have hY0 := B.2.2.2.2.1
  obtain ⟨v0, v1, v2, rfl, hv0, ⟨v9, rfl, -⟩, ⟨c9, rfl, -⟩⟩ := y_three B.2.2.2.2.2
  obtain ⟨this, t0, rfl, ht0, hY_this⟩ := x_ref_at hv0 rfl
  obtain rfl := List.mem_singleton.mp ht0
  replace hl : lv_has ls xMty.2.2.1 [(0, .ref this), (1, .long v9), (3, .int c9)] := hl
  obtain ⟨ln, hsi_typed, hln⟩ := y_fldI (k := 10) hI.1 hY_this rfl rfl
  replace hln : (0 : Int) ≤ ln.toInt ∧ ln.toInt ≤ 240 := hln
  have hl0 := hsi_typed
  obtain ⟨by_, hs_by_, hY_by_⟩ := y_fldR (k := 9) hI.1 hY_this rfl rfl
  obtain ⟨fy9, hA9, -⟩ := y_arr hI.1 hY_by_ rfl rfl
  obtain ⟨fy, hcn, hA_by_⟩ := t_canon hA9
  have hs0 := hs_by_
  have hA0 := hA_by_
  refine lv_iload_n hx hb mtX_d0 rfl (lv_at hl 2 rfl) ?_
  obtain ⟨z1, hg_z1⟩ : ∃ z1 : Int64, c9.toInt64 = z1 := ⟨_, rfl⟩
  have h_z1 : z1.toInt = (c9).toInt := by rw [← hg_z1]; exact Int32.toInt_toInt64 _
  refine lv_i2l hx hb mtX_d1 (v := z1) hg_z1 ?_
  refine lv_lconst hx hb mtX_d2 (v := 1) (by decide) ?_
  have el1 : (1 : Int64).toInt = 1 := by decide
  refine lv_ldc2 hx hb X.2.2.2.1 (v := 8) (X.2.2.2.2.1 _ (x_bw73 13 rfl rfl)) mtX_d3 ?_
  have el8 : (8 : Int64).toInt = 8 := by decide
  refine y_call (z := (1, 87, 3, none, xM148)) (av := [.long z1, .long (1 : Int64), .long (8 : Int64)]) (rest := []) (y_cokS (n := 3) X ym_in (x_cons (x_bw67 11 rfl rfl) (x_cons (x_bw67 12 rfl rfl) (x_cons (x_bw0 9 rfl rfl) x_nilm))) (x_bw67 13 rfl rfl) (by decide +kernel) ⟨Nat.le_of_ble_eq_true rfl, Nat.le_of_ble_eq_true rfl⟩) hY0 hI rfl mtX_d6 hl.1 (Nat.le_of_ble_eq_true rfl) (Nat.le_of_ble_eq_true rfl) (Nat.le_of_ble_eq_true rfl) (y_cons ⟨_, rfl, x_i64 _⟩ (y_cons ⟨_, rfl, x_i64 _⟩ (y_cons ⟨_, rfl, x_i64 _⟩ y_nil))) rfl (y_norecv rfl) trivial (y_sub_ef rfl) fun v Yn o Hn L ho hr ha hIn hx_ hE hP => ?_
  replace hs_by_ := y_Efld hE hY_this rfl (by decide) (by decide) hs_by_
  replace hsi_typed := y_Efld hE hY_this rfl (by decide) (by decide) hsi_typed
  replace hA_by_ := hA_by_.kept (y_Earr hE hY_by_ rfl (by decide))
  replace hY_this := y_ext hx_ hI.1 hY_this
  replace hY_by_ := y_ext hx_ hI.1 hY_by_
  obtain ⟨r6, rfl, hin_r6, hout_r6⟩ := z_inR2 (hP _ _ _ rfl)
  clear ho hr ha hE hP hI hx_
  rename x_I _ _ _ _ _ _ _ _ _ _ => hI
  have ec0 : (0 : Int32).toInt = 0 := by decide
  refine lv_if_ne hx hb mtX_d9 (tgt := 17) (by decide) (fun q9 => ?_) (fun q9 => ?_)
  · have q9_ : ¬ r6.toInt = (0 : Int32).toInt := fun q => q9 (Int32.toInt_inj.mp q)
    have hok := hin_r6 (by assumption)
    replace hok : 1 ≤ c9.toInt ∧ c9.toInt ≤ 8 := by omega
    refine lv_aload_n hx hb mtX_d17 rfl (lv_at hl 0 rfl) ?_
    refine y_getf X (fl193 X.2.2.2.2.1) hI.1 hY_this rfl hsi_typed mtX_d18 ?_
    refine lv_iload_n hx hb mtX_d21 rfl (lv_at hl 2 rfl) ?_
    refine lv_iadd hx hb mtX_d22 ?_
    generalize hg_z22 : ln + c9 = z22
    have h_z22 : z22.toInt = ln.toInt + c9.toInt := by rw [← hg_z22]; have := y_add (x := ln) (y := c9) (by omega) (by omega); exact this
    refine lv_sipush hx hb mtX_d23 (v := 240) (by decide) ?_
    have ec240 : (240 : Int32).toInt = 240 := by decide
    refine lv_icmp_le hx hb mtX_d26 (tgt := 34) (by decide) (fun q26 => ?_) (fun q26 => ?_)
    · have q26_ : z22.toInt ≤ (240 : Int32).toInt := x_le32.mp q26
      have hfit : ln.toInt + c9.toInt ≤ 240 := by omega
      refine lv_iload_n hx hb mtX_d34 rfl (lv_at hl 2 rfl) ?_
      refine lv_iconst hx hb mtX_d35 (v := 1) (by decide) ?_
      have ec1 : (1 : Int32).toInt = 1 := by decide
      refine lv_isub hx hb mtX_d36 ?_
      generalize hg_z36 : c9 - (1 : Int32) = z36
      have h_z36 : z36.toInt = c9.toInt - 1 := by rw [← hg_z36]; have := y_sub (x := c9) (y := (1 : Int32)) (by rw [ec1]; omega) (by rw [ec1]; omega); rw [ec1] at this; exact this
      refine lv_istore hx hb mtX_d37 hl (by decide) (lv' := [(4, .int z36), (0, .ref this), (1, .long v9), (3, .int c9)]) rfl fun ls hl => ?_
      exact mtX_L39 B rfl hs0 hl0 hcn hA0 hln hok hfit 20 _ _ _ _ _ _ _ hI hY_this hY_by_ hs_by_ hsi_typed hA_by_ (lv_sub hl [0, 1, 2, 3] rfl) (by first | assumption | omega) (by first | assumption | omega) t_ty0.symm (Int.le_refl _) (by omega)
    · have q26_ : (240 : Int32).toInt < z22.toInt := Int.not_le.mp fun q => q26 (x_le32.mpr q)
      refine lv_aload_n hx hb mtX_d29 rfl (lv_at hl 0 rfl) ?_
      refine y_call (z := (0, 105, 1, some 17, xM146)) (av := [.ref this]) (rest := []) (y_cokV (n := 0) (ci := 12) X ym_full rfl rfl rfl (x_cons (x_bw68 11 rfl rfl) (x_cons (x_bw68 13 rfl rfl) (x_cons (x_at 34 (by decide +kernel) rfl) (x_cons (x_bw0 9 rfl rfl) x_nilm)))) (x_bw68 14 rfl rfl) (by decide +kernel) ⟨Nat.le_of_ble_eq_true rfl, Nat.le_of_ble_eq_true rfl⟩) hY0 hI rfl mtX_d30 hl.1 (Nat.le_of_ble_eq_true rfl) (Nat.le_of_ble_eq_true rfl) (Nat.le_of_ble_eq_true rfl) (y_cons (y_cref hY_this rfl) y_nil) rfl (y_recv rfl hY_this) trivial (y_sub_ef rfl) fun v Yn o Hn L ho hr ha hIn hx_ hE hP => ?_
      replace hs_by_ := y_Efld hE hY_this rfl (by decide) (by decide) hs_by_
      replace hsi_typed := y_Efld hE hY_this rfl (by decide) (by decide) hsi_typed
      replace hA_by_ := hA_by_.kept (y_Earr hE hY_by_ rfl (by decide))
      replace hY_this := y_ext hx_ hI.1 hY_this
      replace hY_by_ := y_ext hx_ hI.1 hY_by_
      have hPb := hP
      obtain rfl := hPb
      clear ho hr ha hE hP hI hx_
      rename x_I _ _ _ _ _ _ _ _ _ _ => hI
      exact y_ireturn B hI rfl rfl rfl List.mem_cons_self ⟨_, rfl, ⟨_, rfl, x_i32 _⟩⟩ (x_cs.mono B.2.2.2.2.2 (y_mon B hI)) (fun t' b' v' c' ln' fy' h1 h2 h3 h4 h5 => by cases h1; cases h2.symm.trans hs0; cases h3.symm.trans hl0; cases t_uniq h5 hA0 h4 hcn; exact ⟨_, _, _, rfl, hsi_typed, hcn, hA_by_, fun q9 => absurd hok q9, fun _ _ => ⟨rfl, rfl, rfl⟩, fun _ q9 => absurd q9 (by omega)⟩) (Nat.le_refl _) (Nat.le_refl _) mtX_d33
  · have q9_ : r6.toInt = (0 : Int32).toInt := by rw [q9]
    have hno := hout_r6 (by assumption)
    replace hno : ¬ (1 ≤ c9.toInt ∧ c9.toInt ≤ 8) := by omega
    refine lv_aload_n hx hb mtX_d12 rfl (lv_at hl 0 rfl) ?_
    refine y_call (z := (0, 102, 1, some 17, xM143)) (av := [.ref this]) (rest := []) (y_cokV (n := 0) (ci := 12) X ym_bad rfl rfl rfl (x_cons (x_bw68 3 rfl rfl) (x_cons (x_bw68 5 rfl rfl) (x_cons (x_at 32 (by decide +kernel) rfl) (x_cons (x_bw0 9 rfl rfl) x_nilm)))) (x_bw68 6 rfl rfl) (by decide +kernel) ⟨Nat.le_of_ble_eq_true rfl, Nat.le_of_ble_eq_true rfl⟩) hY0 hI rfl mtX_d13 hl.1 (Nat.le_of_ble_eq_true rfl) (Nat.le_of_ble_eq_true rfl) (Nat.le_of_ble_eq_true rfl) (y_cons (y_cref hY_this rfl) y_nil) rfl (y_recv rfl hY_this) trivial (y_sub_ef rfl) fun v Yn o Hn L ho hr ha hIn hx_ hE hP => ?_
    replace hs_by_ := y_Efld hE hY_this rfl (by decide) (by decide) hs_by_
    replace hsi_typed := y_Efld hE hY_this rfl (by decide) (by decide) hsi_typed
    replace hA_by_ := hA_by_.kept (y_Earr hE hY_by_ rfl (by decide))
    replace hY_this := y_ext hx_ hI.1 hY_this
    replace hY_by_ := y_ext hx_ hI.1 hY_by_
    have hPb := hP
    obtain rfl := hPb
    clear ho hr ha hE hP hI hx_
    rename x_I _ _ _ _ _ _ _ _ _ _ => hI
    exact y_ireturn B hI rfl rfl rfl List.mem_cons_self ⟨_, rfl, ⟨_, rfl, x_i32 _⟩⟩ (x_cs.mono B.2.2.2.2.2 (y_mon B hI)) (fun t' b' v' c' ln' fy' h1 h2 h3 h4 h5 => by cases h1; cases h2.symm.trans hs0; cases h3.symm.trans hl0; cases t_uniq h5 hA0 h4 hcn; exact ⟨_, _, _, rfl, hsi_typed, hcn, hA_by_, fun _ => ⟨rfl, rfl, rfl⟩, fun q9 => absurd q9 hno, fun q9 => absurd q9 hno⟩) (Nat.le_refl _) (Nat.le_refl _) mtX_d16
def z_PctX : yP := fun D av _ H v _ H' => ∀ (this : Nat) (ln : Int32), av = [.ref this] → x_sl D 12 10 this H = some (.int ln) → v = some (.int ln) ∧ x_sl D 12 10 this H' = some (.int 0)
theorem mcX_d0 : decode xM176.2.1 0 = .ok (.aload_n 0, 1) := dz_ok (by decide +kernel)
theorem mcX_d1 : decode xM176.2.1 1 = .ok (.getfield 160, 3) := dz_ok (by decide +kernel)
theorem mcX_d4 : decode xM176.2.1 4 = .ok (.istore_n 1, 1) := dz_ok (by decide +kernel)
theorem mcX_d5 : decode xM176.2.1 5 = .ok (.aload_n 0, 1) := dz_ok (by decide +kernel)
theorem mcX_d6 : decode xM176.2.1 6 = .ok (.iconst 0, 1) := dz_ok (by decide +kernel)
theorem mcX_d7 : decode xM176.2.1 7 = .ok (.putfield 160, 3) := dz_ok (by decide +kernel)
theorem mcX_d10 : decode xM176.2.1 10 = .ok (.iload_n 1, 1) := dz_ok (by decide +kernel)
theorem mcX_d11 : decode xM176.2.1 11 = .ok (.ireturn, 1) := dz_ok (by decide +kernel)
theorem ym_clearX : y_Met vwCl x_G x_Zs x_Tb x_Nb xM176 y_T z_PctX := by
  refine y_main (by decide +kernel) (by decide +kernel) x_Tb_good x_Nb_ok ?_
  intro p l e s m below meth c D U Y0 av ls B hI hpre hl
  have X := B.1
  have hx := X.1
  have hb := X.2.1
  have hY0 := B.2.2.2.2.1
  obtain ⟨v0, rfl, hv0⟩ := x_one B.2.2.2.2.2
  obtain ⟨this, t0, rfl, ht0, hY_this⟩ := x_ref_at hv0 rfl
  obtain rfl := List.mem_singleton.mp ht0
  replace hl : lv_has ls xM176.2.2.1 [(0, .ref this)] := hl
  obtain ⟨ln, hs_len, hln⟩ := y_fldI (k := 10) hI.1 hY_this rfl rfl
  replace hln : (0 : Int) ≤ ln.toInt ∧ ln.toInt ≤ 240 := hln
  have hl0 := hs_len
  refine lv_aload_n hx hb mcX_d0 rfl (lv_at hl 0 rfl) ?_
  refine y_getf X (fl193 X.2.2.2.2.1) hI.1 hY_this rfl hs_len mcX_d1 ?_
  refine lv_istore_n hx hb mcX_d4 rfl hl (by decide) (lv' := [(1, .int ln), (0, .ref this)]) rfl fun ls hl => ?_
  refine lv_aload_n hx hb mcX_d5 rfl (lv_at hl 1 rfl) ?_
  refine lv_iconst hx hb mcX_d6 (v := 0) (by decide) ?_
  have ec0 : (0 : Int32).toInt = 0 := by decide
  refine y_putf X (fw194 X.2.2.2.2.1) hY0 hI hY_this rfl rfl ⟨_, rfl, by show (0 : Int) ≤ _; omega, by show _ ≤ (240 : Int); omega⟩ (by decide +kernel) mcX_d7 fun H sl hI ho hs hk => ?_
  replace hs := hs
  replace hs_len := hs
  refine lv_iload_n hx hb mcX_d10 rfl (lv_at hl 0 rfl) ?_
  exact y_ireturn B hI rfl rfl rfl List.mem_cons_self ⟨_, rfl, ⟨_, rfl, by show (0 : Int) ≤ _; omega, by show _ ≤ (240 : Int); omega⟩⟩ (x_cs.mono B.2.2.2.2.2 (y_mon B hI)) (fun t' l' h1 h2 => by cases h1; cases h2.symm.trans hl0; exact ⟨rfl, hs_len⟩) (Nat.le_refl _) (Nat.le_refl _) mcX_d11

