/-! WITHOUT LEAVE, the reference -/
def m_soR (f S : Nat → Int32) (lit : Int32) (d : Int32) (q : Nat) : Bool := !(decide (f (13 + 5 * q) = -1)) && decide (m_b (decide (z_bits (S q &&& lit) = f (13 + 5 * q))) = d)
def m_woB (f S : Nat → Int32) (w : Int32) (h : Nat) : Bool := !(m_has w (nI h)) && decide (m_cn (m_soR f S (w ||| m_sh (nI h)) 0) (f 0).toInt.toNat = 0)
def m_woR (f : Nat → Int32) (w r : Int32) : Prop := (m_isS f w → (m_lw (m_VR f (f 4) (f 5)) w (f 0).toInt.toNat = true → r = m_gg (m_woB f (m_VR f (f 4) (f 5)) w) 0 (f 0).toInt.toNat) ∧ (m_lw (m_VR f (f 4) (f 5)) w (f 0).toInt.toNat = false → r = -3)) ∧ (¬ m_isS f w → r = -2)
theorem m_cn_le2 {L : Nat → Bool} {k : Nat} (h : k ≤ 10) : m_cn L k ≤ 10 := by have := m_cn_b (L := L) (k := k); omega
def z_Psoq : yP := fun D av _ H v _ H' => ∀ (this bk : Nat) (w h d : Int32) (f : Nat → Int32), av = [.ref this, .int w, .int h, .int d] → x_sl D 12 0 this H = some (.ref bk) → z_c f → y_A bk 160 H f → ∀ (se : Nat) (S : Nat → Int32), x_sl D 12 8 this H = some (.ref se) → (∀ i, i < (f 0).toInt.toNat → y_at se i H = some (.int (S i))) → ∃ r : Int32, v = some (.int r) ∧ r.toInt = (m_cn (m_soR f S (w ||| m_sh h) d) (f 0).toInt.toNat : Nat)
theorem soX_d0 : decode xM215.2.1 0 = .ok (.iconst 0, 1) := dz_ok (by decide +kernel)
theorem soX_d1 : decode xM215.2.1 1 = .ok (.istore 4, 2) := dz_ok (by decide +kernel)
theorem soX_d3 : decode xM215.2.1 3 = .ok (.iconst 0, 1) := dz_ok (by decide +kernel)
theorem soX_d4 : decode xM215.2.1 4 = .ok (.istore 5, 2) := dz_ok (by decide +kernel)
theorem soX_d6 : decode xM215.2.1 6 = .ok (.iload 5, 2) := dz_ok (by decide +kernel)
theorem soX_d8 : decode xM215.2.1 8 = .ok (.aload_n 0, 1) := dz_ok (by decide +kernel)
theorem soX_d9 : decode xM215.2.1 9 = .ok (.getfield 7, 3) := dz_ok (by decide +kernel)
theorem soX_d12 : decode xM215.2.1 12 = .ok (.iconst 0, 1) := dz_ok (by decide +kernel)
theorem soX_d13 : decode xM215.2.1 13 = .ok (.iaload, 1) := dz_ok (by decide +kernel)
theorem soX_d14 : decode xM215.2.1 14 = .ok (.if_icmp .ge 65, 3) := dz_ok (by decide +kernel)
theorem soX_d17 : decode xM215.2.1 17 = .ok (.aload_n 0, 1) := dz_ok (by decide +kernel)
theorem soX_d18 : decode xM215.2.1 18 = .ok (.iload 5, 2) := dz_ok (by decide +kernel)
theorem soX_d20 : decode xM215.2.1 20 = .ok (.iconst 3, 1) := dz_ok (by decide +kernel)
theorem soX_d21 : decode xM215.2.1 21 = .ok (.invokevirtual 99, 3) := dz_ok (by decide +kernel)
theorem soX_d24 : decode xM215.2.1 24 = .ok (.iconst (-1), 1) := dz_ok (by decide +kernel)
theorem soX_d25 : decode xM215.2.1 25 = .ok (.if_icmp .eq 48, 3) := dz_ok (by decide +kernel)
theorem soX_d28 : decode xM215.2.1 28 = .ok (.iload 4, 2) := dz_ok (by decide +kernel)
theorem soX_d30 : decode xM215.2.1 30 = .ok (.aload_n 0, 1) := dz_ok (by decide +kernel)
theorem soX_d31 : decode xM215.2.1 31 = .ok (.getfield 26, 3) := dz_ok (by decide +kernel)
theorem soX_d34 : decode xM215.2.1 34 = .ok (.iload 5, 2) := dz_ok (by decide +kernel)
theorem soX_d36 : decode xM215.2.1 36 = .ok (.iaload, 1) := dz_ok (by decide +kernel)
theorem soX_d37 : decode xM215.2.1 37 = .ok (.iload_n 1, 1) := dz_ok (by decide +kernel)
theorem soX_d38 : decode xM215.2.1 38 = .ok (.iconst 1, 1) := dz_ok (by decide +kernel)
theorem soX_d39 : decode xM215.2.1 39 = .ok (.iload_n 2, 1) := dz_ok (by decide +kernel)
theorem soX_d40 : decode xM215.2.1 40 = .ok (.ishl, 1) := dz_ok (by decide +kernel)
theorem soX_d41 : decode xM215.2.1 41 = .ok (.ior, 1) := dz_ok (by decide +kernel)
theorem soX_d42 : decode xM215.2.1 42 = .ok (.iand, 1) := dz_ok (by decide +kernel)
theorem soX_d43 : decode xM215.2.1 43 = .ok (.invokestatic 148, 3) := dz_ok (by decide +kernel)
theorem soX_d46 : decode xM215.2.1 46 = .ok (.aload_n 0, 1) := dz_ok (by decide +kernel)
theorem soX_d47 : decode xM215.2.1 47 = .ok (.iload 5, 2) := dz_ok (by decide +kernel)
theorem soX_d49 : decode xM215.2.1 49 = .ok (.iconst 3, 1) := dz_ok (by decide +kernel)
theorem soX_d50 : decode xM215.2.1 50 = .ok (.invokevirtual 99, 3) := dz_ok (by decide +kernel)
theorem soX_d53 : decode xM215.2.1 53 = .ok (.if_icmp .ne 7, 3) := dz_ok (by decide +kernel)
theorem soX_d56 : decode xM215.2.1 56 = .ok (.iconst 1, 1) := dz_ok (by decide +kernel)
theorem soX_d57 : decode xM215.2.1 57 = .ok (.goto 4, 3) := dz_ok (by decide +kernel)
theorem soX_d60 : decode xM215.2.1 60 = .ok (.iconst 0, 1) := dz_ok (by decide +kernel)
theorem soX_d61 : decode xM215.2.1 61 = .ok (.iload_n 3, 1) := dz_ok (by decide +kernel)
theorem soX_d62 : decode xM215.2.1 62 = .ok (.if_icmp .ne 7, 3) := dz_ok (by decide +kernel)
theorem soX_d65 : decode xM215.2.1 65 = .ok (.iconst 1, 1) := dz_ok (by decide +kernel)
theorem soX_d66 : decode xM215.2.1 66 = .ok (.goto 4, 3) := dz_ok (by decide +kernel)
theorem soX_d69 : decode xM215.2.1 69 = .ok (.iconst 0, 1) := dz_ok (by decide +kernel)
theorem soX_d70 : decode xM215.2.1 70 = .ok (.iadd, 1) := dz_ok (by decide +kernel)
theorem soX_d71 : decode xM215.2.1 71 = .ok (.istore 4, 2) := dz_ok (by decide +kernel)
theorem soX_d73 : decode xM215.2.1 73 = .ok (.iinc 5 1, 3) := dz_ok (by decide +kernel)
theorem soX_d76 : decode xM215.2.1 76 = .ok (.goto (-70), 3) := dz_ok (by decide +kernel)
theorem soX_d79 : decode xM215.2.1 79 = .ok (.iload 4, 2) := dz_ok (by decide +kernel)
theorem soX_d81 : decode xM215.2.1 81 = .ok (.ireturn, 1) := dz_ok (by decide +kernel)
theorem soX_L6 {p : Program} {l : Launch} {e : Env} {s : State} {m : MethodId} {below : List Frame} {meth : Method} {c : Code} {D : va_G} {U : State} {Y0 : xY} {av : List Value} (B : y_B vwCl x_Tb x_Nb xM215 p s m meth c D U Y0 av) {this bk se : Nat} {w h d : Int32} {fb fs : Nat → Int32} (hav : av = [.ref this, .int w, .int h, .int d]) (hs0 : x_sl D 12 0 this s.heap = some (.ref bk)) (hA0 : y_A bk 160 s.heap fb) (hcn : z_c fb) (hd0 : 0 ≤ (fb 0).toInt ∧ (fb 0).toInt ≤ 10) (hs8 : x_sl D 12 8 this s.heap = some (.ref se)) (hAs0 : y_A se 10 s.heap fs)  :
    ∀ (n : Nat), ∀ (H : Heap) (Y : xY) (locs : List Loc) (ls : Array Slot) (j : Int32) (al : Int32), x_I D x_G x_Zs U (x_efs xM215) Y0 s.heap Y H locs → Y this = some 17 → Y bk = some 46 → Y se = some 51 → x_sl D 12 0 this H = some (.ref bk) → x_sl D 12 8 this H = some (.ref se) → y_A bk 160 H fb → y_A se 10 H fs → lv_has ls xM215.2.2.1 [(5, .int j), (4, .int al), (0, .ref this), (1, .int w), (2, .int h), (3, .int d)] → (0 ≤ j.toInt ∧ j.toInt ≤ (fb 0).toInt) → (al.toInt = (m_cn (m_soR fb fs (w ||| m_sh h) d) j.toInt.toNat : Nat)) → (11 - j.toInt).toNat < n → W p l e (x_rm xM215) s m av.toArray below meth c H locs 0 0 (y_QQ below D x_G x_Zs U xM215 z_Psoq av Y0 s) (F0 m 6 ls []) := by
  have X := B.1
  have hx := X.1
  have hb := X.2.1
  have hY0 := B.2.2.2.2.1
  intro n
  induction n with
  | zero => intro _ _ _ _ _ _ _ _ _ _ _ _ _ _ _ _ _ h; exact absurd h (Nat.not_lt_zero _)
  | succ n ih =>
    intro H Y locs ls j al  hI hY_this hY_bk hY_se hs_bk hs_se hA_bk hA_se hl hj hal hn
    have hcb := m_cn_b (L := (m_soR fb fs (w ||| m_sh h) d)) (k := j.toInt.toNat)
    refine lv_iload hx hb soX_d6 (lv_at hl 0 rfl) ?_
    refine lv_aload_n hx hb soX_d8 rfl (lv_at hl 2 rfl) ?_
    refine y_getf X (fl190 X.2.2.2.2.1) hI.1 hY_this rfl hs_bk soX_d9 ?_
    refine lv_iconst hx hb soX_d12 (v := 0) (by decide) ?_
    have ec0 : (0 : Int32).toInt = 0 := by decide
    refine y_iald X hI.1 hY_bk rfl hA_bk (by omega) (by show _ < (160 : Int); omega) soX_d13 ?_
    obtain ⟨e13, hg_e13⟩ : ∃ e13 : Int32, fb (0 : Int32).toInt.toNat = e13 := ⟨_, rfl⟩
    rw [hg_e13]
    rw [z_i0] at hg_e13
    have h_e13 : e13.toInt = (fb 0).toInt := by rw [hg_e13]
    refine lv_icmp_ge hx hb soX_d14 (tgt := 79) (by decide) (fun q14 => ?_) (fun q14 => ?_)
    · have q14_ : e13.toInt ≤ j.toInt := x_le32.mp q14
      refine lv_iload hx hb soX_d79 (lv_at hl 1 rfl) ?_
      have ek : j.toInt.toNat = (fb 0).toInt.toNat := by omega
      rw [ek] at hal
      subst hav
      exact y_ireturn B hI rfl rfl rfl List.mem_cons_self ⟨_, rfl, ⟨_, rfl, x_i32 _⟩⟩ (x_cs.mono B.2.2.2.2.2 (y_mon B hI)) (fun t' b' w0' w1' w2' f' h1 h2 h3 h4 se' S' h5 h6 => by cases h1; cases h2.symm.trans hs0; cases z_uniq h4 hA0 h3 hcn; cases h5.symm.trans hs8; have eS : ∀ i, i < (fb 0).toInt.toNat → S' i = fs i := (fun i hi => z_intI (h6 i hi) (hAs0 i (by omega))); refine ⟨_, rfl, hal.trans (congrArg (fun z : Nat => (z : Int)) (m_cn_congr _ fun i hi => by unfold m_soR; rw [eS i hi]))⟩) (Nat.le_refl _) (Nat.le_refl _) soX_d81
    · have q14_ : j.toInt < e13.toInt := Int.not_le.mp fun q => q14 (x_le32.mpr q)
      refine lv_aload_n hx hb soX_d17 rfl (lv_at hl 2 rfl) ?_
      refine lv_iload hx hb soX_d18 (lv_at hl 0 rfl) ?_
      refine lv_iconst hx hb soX_d20 (v := 3) (by decide) ?_
      have ec3 : (3 : Int32).toInt = 3 := by decide
      refine y_call (z := (0, 99, 3, some 17, xM145)) (av := [.ref this, .int j, .int (3 : Int32)]) (rest := []) (y_cokV (n := 2) (ci := 12) X ym_ofHill rfl rfl rfl (x_cons (x_bw67 15 rfl rfl) (x_cons (x_bw68 1 rfl rfl) (x_cons (x_at 31 (by decide +kernel) rfl) (x_cons (x_bw0 9 rfl rfl) x_nilm)))) (x_bw68 2 rfl rfl) (by decide +kernel) ⟨Nat.le_of_ble_eq_true rfl, Nat.le_of_ble_eq_true rfl⟩) hY0 hI rfl soX_d21 hl.1 (Nat.le_of_ble_eq_true rfl) (Nat.le_of_ble_eq_true rfl) (Nat.le_of_ble_eq_true rfl) (y_cons (y_cref hY_this rfl) (y_cons ⟨_, rfl, by show (0 : Int) ≤ _; omega, by show _ ≤ (9 : Int); omega⟩ (y_cons ⟨_, rfl, by show (0 : Int) ≤ _; omega, by show _ ≤ (4 : Int); omega⟩ y_nil))) rfl (y_recv rfl hY_this) trivial (y_sub_ef rfl) fun v Yn o Hn L ho hr ha hIn hx_ hE hP => ?_
      have hPo := hP _ _ _ _ _ rfl hs_bk hA_bk
      replace hs_bk := y_Efld hE hY_this rfl (by decide) (by decide) hs_bk
      replace hs_se := y_Efld hE hY_this rfl (by decide) (by decide) hs_se
      replace hA_bk := hA_bk.kept (y_Earr hE hY_bk rfl (by decide))
      replace hA_se := hA_se.kept (y_Earr hE hY_se rfl (by decide))
      replace hY_this := y_ext hx_ hI.1 hY_this
      replace hY_bk := y_ext hx_ hI.1 hY_bk
      replace hY_se := y_ext hx_ hI.1 hY_se
      obtain ⟨r21, hg_r21⟩ : ∃ r21 : Int32, fb (10 + 5 * (j).toInt.toNat + ((3 : Int32)).toInt.toNat) = r21 := ⟨_, rfl⟩
      rw [hg_r21] at hPo
      obtain rfl := hPo
      clear ho hr ha hE hP hI hx_
      rename x_I _ _ _ _ _ _ _ _ _ _ => hI
      replace hg_r21 : fb (13 + 5 * j.toInt.toNat) = r21 := by rw [← hg_r21]; exact congrArg _ (by rw [show (3 : Int32).toInt.toNat = 3 by decide]; omega)
      refine lv_iconst hx hb soX_d24 (v := (-1)) (by decide) ?_
      have ecm1 : ((-1) : Int32).toInt = (-1) := by decide
      refine lv_icmp_eq hx hb soX_d25 (tgt := 73) (by decide) (fun q25 => ?_) (fun q25 => ?_)
      · have q25_ : r21.toInt = ((-1) : Int32).toInt := by rw [q25]
        obtain ⟨z73, hg_z73⟩ : ∃ z73 : Int32, j + Int32.ofInt 1 = z73 := ⟨_, rfl⟩
        have h_z73 : z73.toInt = j.toInt + 1 := by rw [← hg_z73]; exact y_inc (by decide) (by omega) (by omega)
        refine lv_iinc hx hb soX_d73 hl (k := 0) rfl hg_z73 (by decide) (lv' := [(5, .int z73), (4, .int al), (0, .ref this), (1, .int w), (2, .int h), (3, .int d)]) rfl fun ls hl => ?_
        refine lv_goto hx hb soX_d76 (tgt := 6) (by decide) ?_
        have his : z73.toInt.toNat = j.toInt.toNat + 1 := by omega
        have hX : m_soR fb fs (w ||| m_sh h) d j.toInt.toNat = false := by unfold m_soR; rw [hg_r21, decide_eq_true (show r21 = -1 from by assumption)]; rfl
        exact ih _ _ _ _ _ _ hI hY_this hY_bk hY_se hs_bk hs_se hA_bk hA_se (lv_sub hl [0, 1, 2, 3, 4, 5] rfl) (by first | assumption | omega) (by rw [his, m_cn_F hX]; exact hal) (by omega)
      · have q25_ : ¬ r21.toInt = ((-1) : Int32).toInt := fun q => q25 (Int32.toInt_inj.mp q)
        refine lv_iload hx hb soX_d28 (lv_at hl 1 rfl) ?_
        refine lv_aload_n hx hb soX_d30 rfl (lv_at hl 2 rfl) ?_
        refine y_getf X (fl199 X.2.2.2.2.1) hI.1 hY_this rfl hs_se soX_d31 ?_
        refine lv_iload hx hb soX_d34 (lv_at hl 0 rfl) ?_
        refine y_iald X hI.1 hY_se rfl hA_se (by omega) (by show _ < (10 : Int); omega) soX_d36 ?_
        obtain ⟨e36, hg_e36⟩ : ∃ e36 : Int32, fs j.toInt.toNat = e36 := ⟨_, rfl⟩
        rw [hg_e36]
        refine lv_iload_n hx hb soX_d37 rfl (lv_at hl 3 rfl) ?_
        refine lv_iconst hx hb soX_d38 (v := 1) (by decide) ?_
        have ec1 : (1 : Int32).toInt = 1 := by decide
        refine lv_iload_n hx hb soX_d39 rfl (lv_at hl 4 rfl) ?_
        refine lv_ishl hx hb soX_d40 ?_
        generalize hg_z40 : (1 : Int32) <<< (h &&& 31) = z40
        refine lv_ior hx hb soX_d41 ?_
        generalize hg_z41 : w ||| z40 = z41
        refine lv_iand hx hb soX_d42 ?_
        generalize hg_z42 : e36 &&& z41 = z42
        refine y_call (z := (1, 148, 1, none, xM189)) (av := [.int z42]) (rest := [.int al]) (y_cokS (n := 1) X ym_bits (x_cons (x_bw78 4 rfl rfl) (x_cons (x_bw78 5 rfl rfl) (x_cons (x_bw0 9 rfl rfl) x_nilm))) (x_bw78 6 rfl rfl) (by decide +kernel) ⟨Nat.le_of_ble_eq_true rfl, Nat.le_of_ble_eq_true rfl⟩) hY0 hI rfl soX_d43 hl.1 (Nat.le_of_ble_eq_true rfl) (Nat.le_of_ble_eq_true rfl) (Nat.le_of_ble_eq_true rfl) (y_cons ⟨_, rfl, x_i32 _⟩ y_nil) rfl (y_norecv rfl) trivial (y_sub_ef rfl) fun v Yn o Hn L ho hr ha hIn hx_ hE hP => ?_
        have hPb9 := hP _ rfl
        obtain rfl := hPb9
        replace hs_bk := y_Efld hE hY_this rfl (by decide) (by decide) hs_bk
        replace hs_se := y_Efld hE hY_this rfl (by decide) (by decide) hs_se
        replace hA_bk := hA_bk.kept (y_Earr hE hY_bk rfl (by decide))
        replace hA_se := hA_se.kept (y_Earr hE hY_se rfl (by decide))
        replace hY_this := y_ext hx_ hI.1 hY_this
        replace hY_bk := y_ext hx_ hI.1 hY_bk
        replace hY_se := y_ext hx_ hI.1 hY_se
        generalize hg_r43 : z_bits z42 = r43
        clear ho hr ha hE hP hI hx_
        rename x_I _ _ _ _ _ _ _ _ _ _ => hI
        refine lv_aload_n hx hb soX_d46 rfl (lv_at hl 2 rfl) ?_
        refine lv_iload hx hb soX_d47 (lv_at hl 0 rfl) ?_
        refine lv_iconst hx hb soX_d49 (v := 3) (by decide) ?_
        refine y_call (z := (0, 99, 3, some 17, xM145)) (av := [.ref this, .int j, .int (3 : Int32)]) (rest := [.int r43, .int al]) (y_cokV (n := 2) (ci := 12) X ym_ofHill rfl rfl rfl (x_cons (x_bw67 15 rfl rfl) (x_cons (x_bw68 1 rfl rfl) (x_cons (x_at 31 (by decide +kernel) rfl) (x_cons (x_bw0 9 rfl rfl) x_nilm)))) (x_bw68 2 rfl rfl) (by decide +kernel) ⟨Nat.le_of_ble_eq_true rfl, Nat.le_of_ble_eq_true rfl⟩) hY0 hI rfl soX_d50 hl.1 (Nat.le_of_ble_eq_true rfl) (Nat.le_of_ble_eq_true rfl) (Nat.le_of_ble_eq_true rfl) (y_cons (y_cref hY_this rfl) (y_cons ⟨_, rfl, by show (0 : Int) ≤ _; omega, by show _ ≤ (9 : Int); omega⟩ (y_cons ⟨_, rfl, by show (0 : Int) ≤ _; omega, by show _ ≤ (4 : Int); omega⟩ y_nil))) rfl (y_recv rfl hY_this) trivial (y_sub_ef rfl) fun v Yn o Hn L ho hr ha hIn hx_ hE hP => ?_
        have hPo := hP _ _ _ _ _ rfl hs_bk hA_bk
        replace hs_bk := y_Efld hE hY_this rfl (by decide) (by decide) hs_bk
        replace hs_se := y_Efld hE hY_this rfl (by decide) (by decide) hs_se
        replace hA_bk := hA_bk.kept (y_Earr hE hY_bk rfl (by decide))
        replace hA_se := hA_se.kept (y_Earr hE hY_se rfl (by decide))
        replace hY_this := y_ext hx_ hI.1 hY_this
        replace hY_bk := y_ext hx_ hI.1 hY_bk
        replace hY_se := y_ext hx_ hI.1 hY_se
        obtain ⟨r50, hg_r50⟩ : ∃ r50 : Int32, fb (10 + 5 * (j).toInt.toNat + ((3 : Int32)).toInt.toNat) = r50 := ⟨_, rfl⟩
        rw [hg_r50] at hPo
        obtain rfl := hPo
        clear ho hr ha hE hP hI hx_
        rename x_I _ _ _ _ _ _ _ _ _ _ => hI
        replace hg_r50 : fb (13 + 5 * j.toInt.toNat) = r50 := by rw [← hg_r50]; exact congrArg _ (by rw [show (3 : Int32).toInt.toNat = 3 by decide]; omega)
        refine lv_icmp_ne hx hb soX_d53 (tgt := 60) (by decide) (fun q53 => ?_) (fun q53 => ?_)
        · have q53_ : ¬ r43.toInt = r50.toInt := fun q => q53 (Int32.toInt_inj.mp q)
          refine lv_iconst hx hb soX_d60 (v := 0) (by decide) ?_
          refine lv_iload_n hx hb soX_d61 rfl (lv_at hl 5 rfl) ?_
          refine lv_icmp_ne hx hb soX_d62 (tgt := 69) (by decide) (fun q62 => ?_) (fun q62 => ?_)
          · have q62_ : ¬ (0 : Int32).toInt = d.toInt := fun q => q62 (Int32.toInt_inj.mp q)
            refine lv_iconst hx hb soX_d69 (v := 0) (by decide) ?_
            refine lv_iadd hx hb soX_d70 ?_
            generalize hg_z70 : al + (0 : Int32) = z70
            have h_z70 : z70.toInt = al.toInt + 0 := by rw [← hg_z70]; have := y_add (x := al) (y := (0 : Int32)) (by rw [ec0]; omega) (by rw [ec0]; omega); rw [ec0] at this; exact this
            refine lv_istore hx hb soX_d71 hl (by decide) (lv' := [(4, .int z70), (5, .int j), (0, .ref this), (1, .int w), (2, .int h), (3, .int d)]) rfl fun ls hl => ?_
            obtain ⟨z73, hg_z73⟩ : ∃ z73 : Int32, j + Int32.ofInt 1 = z73 := ⟨_, rfl⟩
            have h_z73 : z73.toInt = j.toInt + 1 := by rw [← hg_z73]; exact y_inc (by decide) (by omega) (by omega)
            refine lv_iinc hx hb soX_d73 hl (k := 1) rfl hg_z73 (by decide) (lv' := [(5, .int z73), (4, .int z70), (0, .ref this), (1, .int w), (2, .int h), (3, .int d)]) rfl fun ls hl => ?_
            refine lv_goto hx hb soX_d76 (tgt := 6) (by decide) ?_
            have his : z73.toInt.toNat = j.toInt.toNat + 1 := by omega
            have hg8 : w ||| m_sh h = z41 := by rw [← hg_z41, ← hg_z40]; rfl
            have hX : m_soR fb fs (w ||| m_sh h) d j.toInt.toNat = true ∧ z70.toInt = al.toInt + 1 ∨ m_soR fb fs (w ||| m_sh h) d j.toInt.toNat = false ∧ z70.toInt = al.toInt := by
              unfold m_soR
              rw [hg8, hg_e36, hg_z42, hg_r43, hg_r21, decide_eq_false (show ¬ r21 = -1 from by assumption)]
              first | (rw [decide_eq_true (show r43 = r21 from (by assumption : r43 = r50).trans (hg_r50.symm.trans hg_r21))]; first | (exact Or.inl ⟨by rw [show d = 1 from by first | assumption | (exact Eq.symm (by assumption))]; rfl, by omega⟩) | (exact Or.inr ⟨decide_eq_false (fun q => absurd q (by first | assumption | (exact fun q9 => absurd q9.symm (by assumption)))), by omega⟩)) | (rw [decide_eq_false (show ¬ r43 = r21 from fun q => absurd (q.trans (hg_r21.symm.trans hg_r50)) (by assumption))]; first | (exact Or.inl ⟨by rw [show d = 0 from by first | assumption | (exact Eq.symm (by assumption))]; rfl, by omega⟩) | (exact Or.inr ⟨decide_eq_false (fun q => absurd q (by first | assumption | (exact fun q9 => absurd q9.symm (by assumption)))), by omega⟩))
            exact ih _ _ _ _ _ _ hI hY_this hY_bk hY_se hs_bk hs_se hA_bk hA_se (lv_sub hl [0, 1, 2, 3, 4, 5] rfl) (by first | assumption | omega) (by rw [his]; rcases hX with ⟨h1, h2⟩ | ⟨h1, h2⟩; (rw [m_cn_T h1]; omega); (rw [m_cn_F h1]; omega)) (by omega)
          · have q62_ : (0 : Int32).toInt = d.toInt := by rw [q62]
            refine lv_iconst hx hb soX_d65 (v := 1) (by decide) ?_
            refine lv_goto hx hb soX_d66 (tgt := 70) (by decide) ?_
            refine lv_iadd hx hb soX_d70 ?_
            generalize hg_z70 : al + (1 : Int32) = z70
            have h_z70 : z70.toInt = al.toInt + 1 := by rw [← hg_z70]; have := y_add (x := al) (y := (1 : Int32)) (by rw [ec1]; omega) (by rw [ec1]; omega); rw [ec1] at this; exact this
            refine lv_istore hx hb soX_d71 hl (by decide) (lv' := [(4, .int z70), (5, .int j), (0, .ref this), (1, .int w), (2, .int h), (3, .int d)]) rfl fun ls hl => ?_
            obtain ⟨z73, hg_z73⟩ : ∃ z73 : Int32, j + Int32.ofInt 1 = z73 := ⟨_, rfl⟩
            have h_z73 : z73.toInt = j.toInt + 1 := by rw [← hg_z73]; exact y_inc (by decide) (by omega) (by omega)
            refine lv_iinc hx hb soX_d73 hl (k := 1) rfl hg_z73 (by decide) (lv' := [(5, .int z73), (4, .int z70), (0, .ref this), (1, .int w), (2, .int h), (3, .int d)]) rfl fun ls hl => ?_
            refine lv_goto hx hb soX_d76 (tgt := 6) (by decide) ?_
            have his : z73.toInt.toNat = j.toInt.toNat + 1 := by omega
            have hg8 : w ||| m_sh h = z41 := by rw [← hg_z41, ← hg_z40]; rfl
            have hX : m_soR fb fs (w ||| m_sh h) d j.toInt.toNat = true ∧ z70.toInt = al.toInt + 1 ∨ m_soR fb fs (w ||| m_sh h) d j.toInt.toNat = false ∧ z70.toInt = al.toInt := by
              unfold m_soR
              rw [hg8, hg_e36, hg_z42, hg_r43, hg_r21, decide_eq_false (show ¬ r21 = -1 from by assumption)]
              first | (rw [decide_eq_true (show r43 = r21 from (by assumption : r43 = r50).trans (hg_r50.symm.trans hg_r21))]; first | (exact Or.inl ⟨by rw [show d = 1 from by first | assumption | (exact Eq.symm (by assumption))]; rfl, by omega⟩) | (exact Or.inr ⟨decide_eq_false (fun q => absurd q (by first | assumption | (exact fun q9 => absurd q9.symm (by assumption)))), by omega⟩)) | (rw [decide_eq_false (show ¬ r43 = r21 from fun q => absurd (q.trans (hg_r21.symm.trans hg_r50)) (by assumption))]; first | (exact Or.inl ⟨by rw [show d = 0 from by first | assumption | (exact Eq.symm (by assumption))]; rfl, by omega⟩) | (exact Or.inr ⟨decide_eq_false (fun q => absurd q (by first | assumption | (exact fun q9 => absurd q9.symm (by assumption)))), by omega⟩))
            exact ih _ _ _ _ _ _ hI hY_this hY_bk hY_se hs_bk hs_se hA_bk hA_se (lv_sub hl [0, 1, 2, 3, 4, 5] rfl) (by first | assumption | omega) (by rw [his]; rcases hX with ⟨h1, h2⟩ | ⟨h1, h2⟩; (rw [m_cn_T h1]; omega); (rw [m_cn_F h1]; omega)) (by omega)
        · have q53_ : r43.toInt = r50.toInt := by rw [q53]
          refine lv_iconst hx hb soX_d56 (v := 1) (by decide) ?_
          refine lv_goto hx hb soX_d57 (tgt := 61) (by decide) ?_
          refine lv_iload_n hx hb soX_d61 rfl (lv_at hl 5 rfl) ?_
          refine lv_icmp_ne hx hb soX_d62 (tgt := 69) (by decide) (fun q62 => ?_) (fun q62 => ?_)
          · have q62_ : ¬ (1 : Int32).toInt = d.toInt := fun q => q62 (Int32.toInt_inj.mp q)
            refine lv_iconst hx hb soX_d69 (v := 0) (by decide) ?_
            refine lv_iadd hx hb soX_d70 ?_
            generalize hg_z70 : al + (0 : Int32) = z70
            have h_z70 : z70.toInt = al.toInt + 0 := by rw [← hg_z70]; have := y_add (x := al) (y := (0 : Int32)) (by rw [ec0]; omega) (by rw [ec0]; omega); rw [ec0] at this; exact this
            refine lv_istore hx hb soX_d71 hl (by decide) (lv' := [(4, .int z70), (5, .int j), (0, .ref this), (1, .int w), (2, .int h), (3, .int d)]) rfl fun ls hl => ?_
            obtain ⟨z73, hg_z73⟩ : ∃ z73 : Int32, j + Int32.ofInt 1 = z73 := ⟨_, rfl⟩
            have h_z73 : z73.toInt = j.toInt + 1 := by rw [← hg_z73]; exact y_inc (by decide) (by omega) (by omega)
            refine lv_iinc hx hb soX_d73 hl (k := 1) rfl hg_z73 (by decide) (lv' := [(5, .int z73), (4, .int z70), (0, .ref this), (1, .int w), (2, .int h), (3, .int d)]) rfl fun ls hl => ?_
            refine lv_goto hx hb soX_d76 (tgt := 6) (by decide) ?_
            have his : z73.toInt.toNat = j.toInt.toNat + 1 := by omega
            have hg8 : w ||| m_sh h = z41 := by rw [← hg_z41, ← hg_z40]; rfl
            have hX : m_soR fb fs (w ||| m_sh h) d j.toInt.toNat = true ∧ z70.toInt = al.toInt + 1 ∨ m_soR fb fs (w ||| m_sh h) d j.toInt.toNat = false ∧ z70.toInt = al.toInt := by
              unfold m_soR
              rw [hg8, hg_e36, hg_z42, hg_r43, hg_r21, decide_eq_false (show ¬ r21 = -1 from by assumption)]
              first | (rw [decide_eq_true (show r43 = r21 from (by assumption : r43 = r50).trans (hg_r50.symm.trans hg_r21))]; first | (exact Or.inl ⟨by rw [show d = 1 from by first | assumption | (exact Eq.symm (by assumption))]; rfl, by omega⟩) | (exact Or.inr ⟨decide_eq_false (fun q => absurd q (by first | assumption | (exact fun q9 => absurd q9.symm (by assumption)))), by omega⟩)) | (rw [decide_eq_false (show ¬ r43 = r21 from fun q => absurd (q.trans (hg_r21.symm.trans hg_r50)) (by assumption))]; first | (exact Or.inl ⟨by rw [show d = 0 from by first | assumption | (exact Eq.symm (by assumption))]; rfl, by omega⟩) | (exact Or.inr ⟨decide_eq_false (fun q => absurd q (by first | assumption | (exact fun q9 => absurd q9.symm (by assumption)))), by omega⟩))
            exact ih _ _ _ _ _ _ hI hY_this hY_bk hY_se hs_bk hs_se hA_bk hA_se (lv_sub hl [0, 1, 2, 3, 4, 5] rfl) (by first | assumption | omega) (by rw [his]; rcases hX with ⟨h1, h2⟩ | ⟨h1, h2⟩; (rw [m_cn_T h1]; omega); (rw [m_cn_F h1]; omega)) (by omega)
          · have q62_ : (1 : Int32).toInt = d.toInt := by rw [q62]
            refine lv_iconst hx hb soX_d65 (v := 1) (by decide) ?_
            refine lv_goto hx hb soX_d66 (tgt := 70) (by decide) ?_
            refine lv_iadd hx hb soX_d70 ?_
            generalize hg_z70 : al + (1 : Int32) = z70
            have h_z70 : z70.toInt = al.toInt + 1 := by rw [← hg_z70]; have := y_add (x := al) (y := (1 : Int32)) (by rw [ec1]; omega) (by rw [ec1]; omega); rw [ec1] at this; exact this
            refine lv_istore hx hb soX_d71 hl (by decide) (lv' := [(4, .int z70), (5, .int j), (0, .ref this), (1, .int w), (2, .int h), (3, .int d)]) rfl fun ls hl => ?_
            obtain ⟨z73, hg_z73⟩ : ∃ z73 : Int32, j + Int32.ofInt 1 = z73 := ⟨_, rfl⟩
            have h_z73 : z73.toInt = j.toInt + 1 := by rw [← hg_z73]; exact y_inc (by decide) (by omega) (by omega)
            refine lv_iinc hx hb soX_d73 hl (k := 1) rfl hg_z73 (by decide) (lv' := [(5, .int z73), (4, .int z70), (0, .ref this), (1, .int w), (2, .int h), (3, .int d)]) rfl fun ls hl => ?_
            refine lv_goto hx hb soX_d76 (tgt := 6) (by decide) ?_
            have his : z73.toInt.toNat = j.toInt.toNat + 1 := by omega
            have hg8 : w ||| m_sh h = z41 := by rw [← hg_z41, ← hg_z40]; rfl
            have hX : m_soR fb fs (w ||| m_sh h) d j.toInt.toNat = true ∧ z70.toInt = al.toInt + 1 ∨ m_soR fb fs (w ||| m_sh h) d j.toInt.toNat = false ∧ z70.toInt = al.toInt := by
              unfold m_soR
              rw [hg8, hg_e36, hg_z42, hg_r43, hg_r21, decide_eq_false (show ¬ r21 = -1 from by assumption)]
              first | (rw [decide_eq_true (show r43 = r21 from (by assumption : r43 = r50).trans (hg_r50.symm.trans hg_r21))]; first | (exact Or.inl ⟨by rw [show d = 1 from by first | assumption | (exact Eq.symm (by assumption))]; rfl, by omega⟩) | (exact Or.inr ⟨decide_eq_false (fun q => absurd q (by first | assumption | (exact fun q9 => absurd q9.symm (by assumption)))), by omega⟩)) | (rw [decide_eq_false (show ¬ r43 = r21 from fun q => absurd (q.trans (hg_r21.symm.trans hg_r50)) (by assumption))]; first | (exact Or.inl ⟨by rw [show d = 0 from by first | assumption | (exact Eq.symm (by assumption))]; rfl, by omega⟩) | (exact Or.inr ⟨decide_eq_false (fun q => absurd q (by first | assumption | (exact fun q9 => absurd q9.symm (by assumption)))), by omega⟩))
            exact ih _ _ _ _ _ _ hI hY_this hY_bk hY_se hs_bk hs_se hA_bk hA_se (lv_sub hl [0, 1, 2, 3, 4, 5] rfl) (by first | assumption | omega) (by rw [his]; rcases hX with ⟨h1, h2⟩ | ⟨h1, h2⟩; (rw [m_cn_T h1]; omega); (rw [m_cn_F h1]; omega)) (by omega)
theorem ym_so : y_Met vwCl x_G x_Zs x_Tb x_Nb xM215 y_T z_Psoq := by
  refine y_main (by decide +kernel) (by decide +kernel) x_Tb_good x_Nb_ok ?_
  intro p l e s m below meth c D U Y0 av ls B hI _ hl
  have X := B.1
  have hx := X.1
  have hb := X.2.1
  have hY0 := B.2.2.2.2.1
  obtain ⟨v0, v1, v2, v3, rfl, hv0, ⟨w, rfl, -⟩, ⟨h, rfl, hh⟩, ⟨d, rfl, hd⟩⟩ := y_four B.2.2.2.2.2
  obtain ⟨this, t0, rfl, ht0, hY_this⟩ := x_ref_at hv0 rfl
  obtain rfl := List.mem_singleton.mp ht0
  replace hl : lv_has ls xM215.2.2.1 [(0, .ref this), (1, .int w), (2, .int h), (3, .int d)] := hl
  obtain ⟨bk, hs_bk, hY_bk⟩ := y_fldR (k := 0) hI.1 hY_this rfl rfl
  obtain ⟨fb9, hA9, hB9⟩ := y_arr hI.1 hY_bk rfl rfl
  obtain ⟨fb, hcn, hA_bk, hB_bk⟩ := z_canon (Y := Y0) (P := fun j v => x_c Y0 ([xI 0 10, xI 0 8, xI 0 8].getD j xF) (.int v)) hA9 hB9
  clear hA9 hB9 fb9
  have hs0 := hs_bk
  have hA0 := hA_bk
  have hd := z_hdr hB_bk
  have hd0 := hd.1
  have hd1 := hd.2.1
  obtain ⟨se, hs_se, hY_se⟩ := y_fldR (k := 8) hI.1 hY_this rfl rfl
  obtain ⟨fs, hA_se, -⟩ := y_arr hI.1 hY_se rfl rfl
  have hs8 := hs_se
  have hAs0 := hA_se
  refine lv_iconst hx hb soX_d0 (v := 0) (by decide) ?_
  have ec0 : (0 : Int32).toInt = 0 := by decide
  refine lv_istore hx hb soX_d1 hl (by decide) (lv' := [(4, .int (0 : Int32)), (0, .ref this), (1, .int w), (2, .int h), (3, .int d)]) rfl fun ls hl => ?_
  refine lv_iconst hx hb soX_d3 (v := 0) (by decide) ?_
  refine lv_istore hx hb soX_d4 hl (by decide) (lv' := [(5, .int (0 : Int32)), (4, .int (0 : Int32)), (0, .ref this), (1, .int w), (2, .int h), (3, .int d)]) rfl fun ls hl => ?_
  exact soX_L6 B rfl hs0 hA0 hcn hd0 hs8 hAs0 12 _ _ _ _ _ _ hI hY_this hY_bk hY_se hs_bk hs_se hA_bk hA_se (lv_sub hl [0, 1, 2, 3, 4, 5] rfl) (by first | assumption | omega) rfl (by omega)
def z_Pwo : yP := fun D av _ H v _ H' => ∀ (this bk : Nat) (w : Int32) (f : Nat → Int32), av = [.ref this, .int w] → x_sl D 12 0 this H = some (.ref bk) → z_c f → y_A bk 160 H f → ∀ (se : Nat) (S : Nat → Int32), x_sl D 12 8 this H = some (.ref se) → (∀ i, i < (f 0).toInt.toNat → y_at se i H = some (.int (S i))) → v = some (.int (m_gg (m_woB f S w) 0 (f 0).toInt.toNat))
theorem wfX_d0 : decode xM216.2.1 0 = .ok (.iconst 0, 1) := dz_ok (by decide +kernel)
theorem wfX_d1 : decode xM216.2.1 1 = .ok (.istore_n 2, 1) := dz_ok (by decide +kernel)
theorem wfX_d2 : decode xM216.2.1 2 = .ok (.iconst 0, 1) := dz_ok (by decide +kernel)
theorem wfX_d3 : decode xM216.2.1 3 = .ok (.istore_n 3, 1) := dz_ok (by decide +kernel)
theorem wfX_d4 : decode xM216.2.1 4 = .ok (.iload_n 3, 1) := dz_ok (by decide +kernel)
theorem wfX_d5 : decode xM216.2.1 5 = .ok (.aload_n 0, 1) := dz_ok (by decide +kernel)
theorem wfX_d6 : decode xM216.2.1 6 = .ok (.getfield 7, 3) := dz_ok (by decide +kernel)
theorem wfX_d9 : decode xM216.2.1 9 = .ok (.iconst 0, 1) := dz_ok (by decide +kernel)
theorem wfX_d10 : decode xM216.2.1 10 = .ok (.iaload, 1) := dz_ok (by decide +kernel)
theorem wfX_d11 : decode xM216.2.1 11 = .ok (.if_icmp .ge 37, 3) := dz_ok (by decide +kernel)
theorem wfX_d14 : decode xM216.2.1 14 = .ok (.iload_n 2, 1) := dz_ok (by decide +kernel)
theorem wfX_d15 : decode xM216.2.1 15 = .ok (.iload_n 1, 1) := dz_ok (by decide +kernel)
theorem wfX_d16 : decode xM216.2.1 16 = .ok (.iload_n 3, 1) := dz_ok (by decide +kernel)
theorem wfX_d17 : decode xM216.2.1 17 = .ok (.ishr, 1) := dz_ok (by decide +kernel)
theorem wfX_d18 : decode xM216.2.1 18 = .ok (.iconst 1, 1) := dz_ok (by decide +kernel)
theorem wfX_d19 : decode xM216.2.1 19 = .ok (.iand, 1) := dz_ok (by decide +kernel)
theorem wfX_d20 : decode xM216.2.1 20 = .ok (.ifCond .ne 19, 3) := dz_ok (by decide +kernel)
theorem wfX_d23 : decode xM216.2.1 23 = .ok (.aload_n 0, 1) := dz_ok (by decide +kernel)
theorem wfX_d24 : decode xM216.2.1 24 = .ok (.iload_n 1, 1) := dz_ok (by decide +kernel)
theorem wfX_d25 : decode xM216.2.1 25 = .ok (.iload_n 3, 1) := dz_ok (by decide +kernel)
theorem wfX_d26 : decode xM216.2.1 26 = .ok (.iconst 0, 1) := dz_ok (by decide +kernel)
theorem wfX_d27 : decode xM216.2.1 27 = .ok (.invokevirtual 275, 3) := dz_ok (by decide +kernel)
theorem wfX_d30 : decode xM216.2.1 30 = .ok (.ifCond .ne 9, 3) := dz_ok (by decide +kernel)
theorem wfX_d33 : decode xM216.2.1 33 = .ok (.iconst 1, 1) := dz_ok (by decide +kernel)
theorem wfX_d34 : decode xM216.2.1 34 = .ok (.iload_n 3, 1) := dz_ok (by decide +kernel)
theorem wfX_d35 : decode xM216.2.1 35 = .ok (.ishl, 1) := dz_ok (by decide +kernel)
theorem wfX_d36 : decode xM216.2.1 36 = .ok (.goto 4, 3) := dz_ok (by decide +kernel)
theorem wfX_d39 : decode xM216.2.1 39 = .ok (.iconst 0, 1) := dz_ok (by decide +kernel)
theorem wfX_d40 : decode xM216.2.1 40 = .ok (.ior, 1) := dz_ok (by decide +kernel)
theorem wfX_d41 : decode xM216.2.1 41 = .ok (.istore_n 2, 1) := dz_ok (by decide +kernel)
theorem wfX_d42 : decode xM216.2.1 42 = .ok (.iinc 3 1, 3) := dz_ok (by decide +kernel)
theorem wfX_d45 : decode xM216.2.1 45 = .ok (.goto (-41), 3) := dz_ok (by decide +kernel)
theorem wfX_d48 : decode xM216.2.1 48 = .ok (.iload_n 2, 1) := dz_ok (by decide +kernel)
theorem wfX_d49 : decode xM216.2.1 49 = .ok (.ireturn, 1) := dz_ok (by decide +kernel)
theorem wfX_L4 {p : Program} {l : Launch} {e : Env} {s : State} {m : MethodId} {below : List Frame} {meth : Method} {c : Code} {D : va_G} {U : State} {Y0 : xY} {av : List Value} (B : y_B vwCl x_Tb x_Nb xM216 p s m meth c D U Y0 av) {this bk se : Nat} {w : Int32} {fb fs : Nat → Int32} (hav : av = [.ref this, .int w]) (hs0 : x_sl D 12 0 this s.heap = some (.ref bk)) (hA0 : y_A bk 160 s.heap fb) (hcn : z_c fb) (hd0 : 0 ≤ (fb 0).toInt ∧ (fb 0).toInt ≤ 10) (hs8 : x_sl D 12 8 this s.heap = some (.ref se)) (hAs0 : y_A se 10 s.heap fs)  :
    ∀ (n : Nat), ∀ (H : Heap) (Y : xY) (locs : List Loc) (ls : Array Slot) (j : Int32) (al : Int32), x_I D x_G x_Zs U (x_efs xM216) Y0 s.heap Y H locs → Y this = some 17 → Y bk = some 46 → Y se = some 51 → x_sl D 12 0 this H = some (.ref bk) → x_sl D 12 8 this H = some (.ref se) → y_A bk 160 H fb → y_A se 10 H fs → lv_has ls xM216.2.2.1 [(3, .int j), (2, .int al), (0, .ref this), (1, .int w)] → (0 ≤ j.toInt ∧ j.toInt ≤ (fb 0).toInt) → (al = m_gg (m_woB fb fs w) 0 j.toInt.toNat) → (11 - j.toInt).toNat < n → W p l e (x_rm xM216) s m av.toArray below meth c H locs 0 0 (y_QQ below D x_G x_Zs U xM216 z_Pwo av Y0 s) (F0 m 4 ls []) := by
  have X := B.1
  have hx := X.1
  have hb := X.2.1
  have hY0 := B.2.2.2.2.1
  intro n
  induction n with
  | zero => intro _ _ _ _ _ _ _ _ _ _ _ _ _ _ _ _ _ h; exact absurd h (Nat.not_lt_zero _)
  | succ n ih =>
    intro H Y locs ls j al  hI hY_this hY_bk hY_se hs_bk hs_se hA_bk hA_se hl hj hal hn
    refine lv_iload_n hx hb wfX_d4 rfl (lv_at hl 0 rfl) ?_
    refine lv_aload_n hx hb wfX_d5 rfl (lv_at hl 2 rfl) ?_
    refine y_getf X (fl190 X.2.2.2.2.1) hI.1 hY_this rfl hs_bk wfX_d6 ?_
    refine lv_iconst hx hb wfX_d9 (v := 0) (by decide) ?_
    have ec0 : (0 : Int32).toInt = 0 := by decide
    refine y_iald X hI.1 hY_bk rfl hA_bk (by omega) (by show _ < (160 : Int); omega) wfX_d10 ?_
    obtain ⟨e10, hg_e10⟩ : ∃ e10 : Int32, fb (0 : Int32).toInt.toNat = e10 := ⟨_, rfl⟩
    rw [hg_e10]
    rw [z_i0] at hg_e10
    have h_e10 : e10.toInt = (fb 0).toInt := by rw [hg_e10]
    refine lv_icmp_ge hx hb wfX_d11 (tgt := 48) (by decide) (fun q11 => ?_) (fun q11 => ?_)
    · have q11_ : e10.toInt ≤ j.toInt := x_le32.mp q11
      refine lv_iload_n hx hb wfX_d48 rfl (lv_at hl 1 rfl) ?_
      have hrg := m_gg_1023 (c := m_woB fb fs w) (k := j.toInt.toNat) (by omega)
      rw [← hal] at hrg
      subst hav
      exact y_ireturn B hI rfl rfl rfl List.mem_cons_self ⟨_, rfl, ⟨_, rfl, by show (0 : Int) ≤ _; omega, by show _ ≤ (1023 : Int); omega⟩⟩ (x_cs.mono B.2.2.2.2.2 (y_mon B hI)) (fun t' b' w0' f' h1 h2 h3 h4 se' S' h5 h6 => by cases h1; cases h2.symm.trans hs0; cases z_uniq h4 hA0 h3 hcn; cases h5.symm.trans hs8; have eS : ∀ i, i < (fb 0).toInt.toNat → S' i = fs i := (fun i hi => z_intI (h6 i hi) (hAs0 i (by omega))); refine congrArg (fun x => some (Value.int x)) ?_; rw [hal, show j.toInt.toNat = (fb 0).toInt.toNat by omega]; refine m_gg_congr _ fun q hq => ?_; exact congrArg (fun z : Nat => !(m_has w (nI q)) && decide (z = 0)) (m_cn_congr (L := m_soR fb fs (w ||| m_sh (nI q)) 0) (L' := m_soR fb S' (w ||| m_sh (nI q)) 0) _ fun i hi => by unfold m_soR; rw [eS i hi])) (Nat.le_refl _) (Nat.le_refl _) wfX_d49
    · have q11_ : j.toInt < e10.toInt := Int.not_le.mp fun q => q11 (x_le32.mpr q)
      refine lv_iload_n hx hb wfX_d14 rfl (lv_at hl 1 rfl) ?_
      refine lv_iload_n hx hb wfX_d15 rfl (lv_at hl 3 rfl) ?_
      refine lv_iload_n hx hb wfX_d16 rfl (lv_at hl 0 rfl) ?_
      refine lv_ishr hx hb wfX_d17 ?_
      generalize hg_z17 : w >>> (j &&& 31) = z17
      refine lv_iconst hx hb wfX_d18 (v := 1) (by decide) ?_
      have ec1 : (1 : Int32).toInt = 1 := by decide
      refine lv_iand hx hb wfX_d19 ?_
      generalize hg_z19 : z17 &&& (1 : Int32) = z19
      refine lv_if_ne hx hb wfX_d20 (tgt := 39) (by decide) (fun q20 => ?_) (fun q20 => ?_)
      · have q20_ : ¬ z19.toInt = (0 : Int32).toInt := fun q => q20 (Int32.toInt_inj.mp q)
        refine lv_iconst hx hb wfX_d39 (v := 0) (by decide) ?_
        refine lv_ior hx hb wfX_d40 ?_
        generalize hg_z40 : al ||| (0 : Int32) = z40
        refine lv_istore_n hx hb wfX_d41 rfl hl (by decide) (lv' := [(2, .int z40), (3, .int j), (0, .ref this), (1, .int w)]) rfl fun ls hl => ?_
        obtain ⟨z42, hg_z42⟩ : ∃ z42 : Int32, j + Int32.ofInt 1 = z42 := ⟨_, rfl⟩
        have h_z42 : z42.toInt = j.toInt + 1 := by rw [← hg_z42]; exact y_inc (by decide) (by omega) (by omega)
        refine lv_iinc hx hb wfX_d42 hl (k := 1) rfl hg_z42 (by decide) (lv' := [(3, .int z42), (2, .int z40), (0, .ref this), (1, .int w)]) rfl fun ls hl => ?_
        refine lv_goto hx hb wfX_d45 (tgt := 4) (by decide) ?_
        have his : z42.toInt.toNat = j.toInt.toNat + 1 := by omega
        have hnj := m_nj hj.1
        have hc : m_woB fb fs w j.toInt.toNat = false := by unfold m_woB; rw [hnj]; first | (rw [show m_has w j = true by unfold m_has; rw [hg_z17, hg_z19]; exact decide_eq_true (by assumption)]; rfl) | (rw [decide_eq_false (show ¬ m_cn (m_soR fb fs (w ||| m_sh j) 0) (fb 0).toInt.toNat = 0 from fun q => absurd (Int32.toInt_inj.mp (h_r27.trans (by rw [q, m_c0]; rfl))) (by assumption)), Bool.and_false])
        exact ih _ _ _ _ _ _ hI hY_this hY_bk hY_se hs_bk hs_se hA_bk hA_se (lv_sub hl [0, 1, 2, 3] rfl) (by first | assumption | omega) (by rw [his, m_gg_F hc, ← hal, ← hg_z40]; exact m_or0) (by omega)
      · have q20_ : z19.toInt = (0 : Int32).toInt := by rw [q20]
        refine lv_aload_n hx hb wfX_d23 rfl (lv_at hl 2 rfl) ?_
        refine lv_iload_n hx hb wfX_d24 rfl (lv_at hl 3 rfl) ?_
        refine lv_iload_n hx hb wfX_d25 rfl (lv_at hl 0 rfl) ?_
        refine lv_iconst hx hb wfX_d26 (v := 0) (by decide) ?_
        refine y_call (z := (0, 275, 4, some 17, xM215)) (av := [.ref this, .int w, .int j, .int (0 : Int32)]) (rest := [.int al]) (y_cokV (n := 3) (ci := 12) X ym_so rfl rfl rfl (x_cons (x_bw85 5 rfl rfl) (x_cons (x_bw85 7 rfl rfl) (x_cons (x_at 60 (by decide +kernel) rfl) (x_cons (x_bw0 9 rfl rfl) x_nilm)))) (x_bw85 8 rfl rfl) (by decide +kernel) ⟨Nat.le_of_ble_eq_true rfl, Nat.le_of_ble_eq_true rfl⟩) hY0 hI rfl wfX_d27 hl.1 (Nat.le_of_ble_eq_true rfl) (Nat.le_of_ble_eq_true rfl) (Nat.le_of_ble_eq_true rfl) (y_cons (y_cref hY_this rfl) (y_cons ⟨_, rfl, x_i32 _⟩ (y_cons ⟨_, rfl, by show (0 : Int) ≤ _; omega, by show _ ≤ (9 : Int); omega⟩ (y_cons ⟨_, rfl, by show (0 : Int) ≤ _; omega, by show _ ≤ (1 : Int); omega⟩ y_nil)))) rfl (y_recv rfl hY_this) trivial (y_sub_ef rfl) fun v Yn o Hn L ho hr ha hIn hx_ hE hP => ?_
        obtain ⟨r27, rfl, h_r27⟩ := hP _ _ _ _ _ _ rfl hs_bk hcn hA_bk _ fs hs_se (fun i hi => hA_se i (by omega))
        replace hs_bk := y_Efld hE hY_this rfl (by decide) (by decide) hs_bk
        replace hs_se := y_Efld hE hY_this rfl (by decide) (by decide) hs_se
        replace hA_bk := hA_bk.kept (y_Earr hE hY_bk rfl (by decide))
        replace hA_se := hA_se.kept (y_Earr hE hY_se rfl (by decide))
        replace hY_this := y_ext hx_ hI.1 hY_this
        replace hY_bk := y_ext hx_ hI.1 hY_bk
        replace hY_se := y_ext hx_ hI.1 hY_se
        clear ho hr ha hE hP hI hx_
        rename x_I _ _ _ _ _ _ _ _ _ _ => hI
        refine lv_if_ne hx hb wfX_d30 (tgt := 39) (by decide) (fun q30 => ?_) (fun q30 => ?_)
        · have q30_ : ¬ r27.toInt = (0 : Int32).toInt := fun q => q30 (Int32.toInt_inj.mp q)
          refine lv_iconst hx hb wfX_d39 (v := 0) (by decide) ?_
          refine lv_ior hx hb wfX_d40 ?_
          generalize hg_z40 : al ||| (0 : Int32) = z40
          refine lv_istore_n hx hb wfX_d41 rfl hl (by decide) (lv' := [(2, .int z40), (3, .int j), (0, .ref this), (1, .int w)]) rfl fun ls hl => ?_
          obtain ⟨z42, hg_z42⟩ : ∃ z42 : Int32, j + Int32.ofInt 1 = z42 := ⟨_, rfl⟩
          have h_z42 : z42.toInt = j.toInt + 1 := by rw [← hg_z42]; exact y_inc (by decide) (by omega) (by omega)
          refine lv_iinc hx hb wfX_d42 hl (k := 1) rfl hg_z42 (by decide) (lv' := [(3, .int z42), (2, .int z40), (0, .ref this), (1, .int w)]) rfl fun ls hl => ?_
          refine lv_goto hx hb wfX_d45 (tgt := 4) (by decide) ?_
          have his : z42.toInt.toNat = j.toInt.toNat + 1 := by omega
          have hnj := m_nj hj.1
          have hc : m_woB fb fs w j.toInt.toNat = false := by unfold m_woB; rw [hnj]; first | (rw [show m_has w j = true by unfold m_has; rw [hg_z17, hg_z19]; exact decide_eq_true (by assumption)]; rfl) | (rw [decide_eq_false (show ¬ m_cn (m_soR fb fs (w ||| m_sh j) 0) (fb 0).toInt.toNat = 0 from fun q => absurd (Int32.toInt_inj.mp (h_r27.trans (by rw [q, m_c0]; rfl))) (by assumption)), Bool.and_false])
          exact ih _ _ _ _ _ _ hI hY_this hY_bk hY_se hs_bk hs_se hA_bk hA_se (lv_sub hl [0, 1, 2, 3] rfl) (by first | assumption | omega) (by rw [his, m_gg_F hc, ← hal, ← hg_z40]; exact m_or0) (by omega)
        · have q30_ : r27.toInt = (0 : Int32).toInt := by rw [q30]
          refine lv_iconst hx hb wfX_d33 (v := 1) (by decide) ?_
          refine lv_iload_n hx hb wfX_d34 rfl (lv_at hl 0 rfl) ?_
          refine lv_ishl hx hb wfX_d35 ?_
          generalize hg_z35 : (1 : Int32) <<< (j &&& 31) = z35
          refine lv_goto hx hb wfX_d36 (tgt := 40) (by decide) ?_
          refine lv_ior hx hb wfX_d40 ?_
          generalize hg_z40 : al ||| z35 = z40
          refine lv_istore_n hx hb wfX_d41 rfl hl (by decide) (lv' := [(2, .int z40), (3, .int j), (0, .ref this), (1, .int w)]) rfl fun ls hl => ?_
          obtain ⟨z42, hg_z42⟩ : ∃ z42 : Int32, j + Int32.ofInt 1 = z42 := ⟨_, rfl⟩
          have h_z42 : z42.toInt = j.toInt + 1 := by rw [← hg_z42]; exact y_inc (by decide) (by omega) (by omega)
          refine lv_iinc hx hb wfX_d42 hl (k := 1) rfl hg_z42 (by decide) (lv' := [(3, .int z42), (2, .int z40), (0, .ref this), (1, .int w)]) rfl fun ls hl => ?_
          refine lv_goto hx hb wfX_d45 (tgt := 4) (by decide) ?_
          have his : z42.toInt.toNat = j.toInt.toNat + 1 := by omega
          have hnj := m_nj hj.1
          have hz19 : m_has w j = false := by unfold m_has; rw [hg_z17, hg_z19]; exact decide_eq_false (fun q => q (by assumption))
          have h0 : r27.toInt = 0 := by rw [show r27 = 0 from by assumption]; decide
          have hc : m_woB fb fs w j.toInt.toNat = true := by unfold m_woB; rw [hnj, hz19]; exact decide_eq_true (by rw [m_c0] at *; show m_cn (m_soR fb fs (w ||| m_sh j) 0) _ = 0; omega)
          exact ih _ _ _ _ _ _ hI hY_this hY_bk hY_se hs_bk hs_se hA_bk hA_se (lv_sub hl [0, 1, 2, 3] rfl) (by first | assumption | omega) (by rw [his, m_gg_T hc, hnj, ← hal, ← hg_z40, ← hg_z35]; rfl) (by omega)
theorem ym_withoutOf : y_Met vwCl x_G x_Zs x_Tb x_Nb xM216 y_T z_Pwo := by
  refine y_main (by decide +kernel) (by decide +kernel) x_Tb_good x_Nb_ok ?_
  intro p l e s m below meth c D U Y0 av ls B hI _ hl
  have X := B.1
  have hx := X.1
  have hb := X.2.1
  have hY0 := B.2.2.2.2.1
  obtain ⟨v0, v1, rfl, hv0, ⟨w, rfl, -⟩⟩ := x_two B.2.2.2.2.2
  obtain ⟨this, t0, rfl, ht0, hY_this⟩ := x_ref_at hv0 rfl
  obtain rfl := List.mem_singleton.mp ht0
  replace hl : lv_has ls xM216.2.2.1 [(0, .ref this), (1, .int w)] := hl
  obtain ⟨bk, hs_bk, hY_bk⟩ := y_fldR (k := 0) hI.1 hY_this rfl rfl
  obtain ⟨fb9, hA9, hB9⟩ := y_arr hI.1 hY_bk rfl rfl
  obtain ⟨fb, hcn, hA_bk, hB_bk⟩ := z_canon (Y := Y0) (P := fun j v => x_c Y0 ([xI 0 10, xI 0 8, xI 0 8].getD j xF) (.int v)) hA9 hB9
  clear hA9 hB9 fb9
  have hs0 := hs_bk
  have hA0 := hA_bk
  have hd := z_hdr hB_bk
  have hd0 := hd.1
  have hd1 := hd.2.1
  obtain ⟨se, hs_se, hY_se⟩ := y_fldR (k := 8) hI.1 hY_this rfl rfl
  obtain ⟨fs, hA_se, -⟩ := y_arr hI.1 hY_se rfl rfl
  have hs8 := hs_se
  have hAs0 := hA_se
  refine lv_iconst hx hb wfX_d0 (v := 0) (by decide) ?_
  have ec0 : (0 : Int32).toInt = 0 := by decide
  refine lv_istore_n hx hb wfX_d1 rfl hl (by decide) (lv' := [(2, .int (0 : Int32)), (0, .ref this), (1, .int w)]) rfl fun ls hl => ?_
  refine lv_iconst hx hb wfX_d2 (v := 0) (by decide) ?_
  refine lv_istore_n hx hb wfX_d3 rfl hl (by decide) (lv' := [(3, .int (0 : Int32)), (2, .int (0 : Int32)), (0, .ref this), (1, .int w)]) rfl fun ls hl => ?_
  exact wfX_L4 B rfl hs0 hA0 hcn hd0 hs8 hAs0 12 _ _ _ _ _ _ hI hY_this hY_bk hY_se hs_bk hs_se hA_bk hA_se (lv_sub hl [0, 1, 2, 3] rfl) (by first | assumption | omega) rfl (by omega)
