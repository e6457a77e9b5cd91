/-! A ROW of the reference -/
theorem m_gl_b {x : Bool} : (!(decide (m_b x = 0))) = x := by cases x <;> decide
def z_Plws : yP := fun D av _ H v _ H' => ∀ (this bk : Nat)  (f : Nat → Int32), av = [.ref this] → x_sl D 12 0 this H = some (.ref bk) → z_c f → y_A bk 160 H f → (∀ (se : Nat), x_sl D 12 8 this H = some (.ref se) → ∀ i, i < (f 0).toInt.toNat → y_at se i H' = some (.int ((m_VR f (f 4) (f 5)) i))) ∧ (∀ lw : Nat, x_sl D 12 18 this H = some (.ref lw) → ∃ gl : Nat → Int32, y_A lw 1024 H' gl ∧ ∀ s9, s9 < (2 ^ (f 0).toInt.toNat) → m_gl gl s9 = (m_LR (m_VR f (f 4) (f 5)) (f 0).toInt.toNat) s9)
theorem lsX_d0 : decode xM204.2.1 0 = .ok (.aload_n 0, 1) := dz_ok (by decide +kernel)
theorem lsX_d1 : decode xM204.2.1 1 = .ok (.invokevirtual 240, 3) := dz_ok (by decide +kernel)
theorem lsX_d4 : decode xM204.2.1 4 = .ok (.iconst 0, 1) := dz_ok (by decide +kernel)
theorem lsX_d5 : decode xM204.2.1 5 = .ok (.istore_n 1, 1) := dz_ok (by decide +kernel)
theorem lsX_d6 : decode xM204.2.1 6 = .ok (.iload_n 1, 1) := dz_ok (by decide +kernel)
theorem lsX_d7 : decode xM204.2.1 7 = .ok (.aload_n 0, 1) := dz_ok (by decide +kernel)
theorem lsX_d8 : decode xM204.2.1 8 = .ok (.invokevirtual 91, 3) := dz_ok (by decide +kernel)
theorem lsX_d11 : decode xM204.2.1 11 = .ok (.if_icmp .gt 20, 3) := dz_ok (by decide +kernel)
theorem lsX_d14 : decode xM204.2.1 14 = .ok (.aload_n 0, 1) := dz_ok (by decide +kernel)
theorem lsX_d15 : decode xM204.2.1 15 = .ok (.getfield 38, 3) := dz_ok (by decide +kernel)
theorem lsX_d18 : decode xM204.2.1 18 = .ok (.iload_n 1, 1) := dz_ok (by decide +kernel)
theorem lsX_d19 : decode xM204.2.1 19 = .ok (.aload_n 0, 1) := dz_ok (by decide +kernel)
theorem lsX_d20 : decode xM204.2.1 20 = .ok (.iload_n 1, 1) := dz_ok (by decide +kernel)
theorem lsX_d21 : decode xM204.2.1 21 = .ok (.invokevirtual 243, 3) := dz_ok (by decide +kernel)
theorem lsX_d24 : decode xM204.2.1 24 = .ok (.bastore, 1) := dz_ok (by decide +kernel)
theorem lsX_d25 : decode xM204.2.1 25 = .ok (.iinc 1 1, 3) := dz_ok (by decide +kernel)
theorem lsX_d28 : decode xM204.2.1 28 = .ok (.goto (-22), 3) := dz_ok (by decide +kernel)
theorem lsX_d31 : decode xM204.2.1 31 = .ok (.return_, 1) := dz_ok (by decide +kernel)
theorem lsX_L6 {p : Program} {l : Launch} {e : Env} {s : State} {m : MethodId} {below : List Frame} {meth : Method} {c : Code} {D : va_G} {U : State} {Y0 : xY} {av : List Value} (B : y_B vwCl x_Tb x_Nb xM204 p s m meth c D U Y0 av) {this bk se lw : Nat} {fb : Nat → Int32} (hav : av = [.ref this]) (hs0 : x_sl D 12 0 this s.heap = some (.ref bk)) (hA0 : y_A bk 160 s.heap fb) (hcn : z_c fb) (hd0 : 0 ≤ (fb 0).toInt ∧ (fb 0).toInt ≤ 10) (hs8 : x_sl D 12 8 this s.heap = some (.ref se)) (hl8 : x_sl D 12 18 this s.heap = some (.ref lw))  :
    ∀ (n : Nat), ∀ (H : Heap) (Y : xY) (locs : List Loc) (ls : Array Slot) (k : Int32) (fs gl : Nat → Int32), x_I D x_G x_Zs U (x_efs xM204) Y0 s.heap Y H locs → Y this = some 17 → Y bk = some 46 → Y se = some 51 → Y lw = some 55 → x_sl D 12 0 this H = some (.ref bk) → x_sl D 12 8 this H = some (.ref se) → x_sl D 12 18 this H = some (.ref lw) → y_A bk 160 H fb → y_A se 10 H fs → y_A lw 1024 H gl → lv_has ls xM204.2.2.1 [(1, .int k), (0, .ref this)] → (∀ j, j < 1024 → (0 : Int) ≤ (gl j).toInt ∧ (gl j).toInt ≤ 1) → (0 ≤ k.toInt ∧ k.toInt ≤ (z_all (fb 0)).toInt + 1) → (∀ i, i < (fb 0).toInt.toNat → fs i = (m_VR fb (fb 4) (fb 5)) i) → (∀ s9 : Nat, (s9 : Int) < k.toInt → m_gl gl s9 = (m_LR (m_VR fb (fb 4) (fb 5)) (fb 0).toInt.toNat) s9) → (1025 - k.toInt).toNat < n → W p l e (x_rm xM204) s m av.toArray below meth c H locs 0 0 (y_QQ below D x_G x_Zs U xM204 z_Plws av Y0 s) (F0 m 6 ls []) := by
  have X := B.1
  have hx := X.1
  have hb := X.2.1
  have hY0 := B.2.2.2.2.1
  intro n
  induction n with
  | zero => intro _ _ _ _ _ _ _ _ _ _ _ _ _ _ _ _ _ _ _ _ _ _ _ h; exact absurd h (Nat.not_lt_zero _)
  | succ n ih =>
    intro H Y locs ls k fs gl hI hY_this hY_bk hY_se hY_lw hs_bk hs_se hs_lw hA_bk hA_se hA_lw hl hB_lw hk hVs hgl hn
    have hz9 := z_all_p hd0
    have hpw : (2 ^ (fb 0).toInt.toNat) ≤ 1024 := Nat.pow_le_pow_right (n := 2) (by decide) (show (fb 0).toInt.toNat ≤ 10 by omega)
    refine lv_iload_n hx hb lsX_d6 rfl (lv_at hl 0 rfl) ?_
    refine lv_aload_n hx hb lsX_d7 rfl (lv_at hl 1 rfl) ?_
    refine y_call (z := (0, 91, 1, some 17, xM182)) (av := [.ref this]) (rest := [.int k]) (y_cokV (n := 0) (ci := 12) X ym_all rfl rfl rfl (x_cons (x_bw77 4 rfl rfl) (x_cons (x_bw77 6 rfl rfl) (x_cons (x_at 49 (by decide +kernel) rfl) (x_cons (x_bw0 9 rfl rfl) x_nilm)))) (x_bw77 7 rfl rfl) (by decide +kernel) ⟨Nat.le_of_ble_eq_true rfl, Nat.le_of_ble_eq_true rfl⟩) hY0 hI rfl lsX_d8 hl.1 (Nat.le_of_ble_eq_true rfl) (Nat.le_of_ble_eq_true rfl) (Nat.le_of_ble_eq_true rfl) (y_cons (y_cref hY_this rfl) y_nil) rfl (y_recv rfl hY_this) trivial (y_sub_ef rfl) fun v Yn o Hn L ho hr ha hIn hx_ hE hP => ?_
    have hPv := hP _ _ _ rfl hs_bk (hA_bk 0 (by decide))
    replace hs_bk := y_Efld hE hY_this rfl (by decide) (by decide) hs_bk
    replace hs_se := y_Efld hE hY_this rfl (by decide) (by decide) hs_se
    replace hs_lw := y_Efld hE hY_this rfl (by decide) (by decide) hs_lw
    replace hA_bk := hA_bk.kept (y_Earr hE hY_bk rfl (by decide))
    replace hA_se := hA_se.kept (y_Earr hE hY_se rfl (by decide))
    replace hA_lw := hA_lw.kept (y_Earr hE hY_lw rfl (by decide))
    replace hY_this := y_ext hx_ hI.1 hY_this
    replace hY_bk := y_ext hx_ hI.1 hY_bk
    replace hY_se := y_ext hx_ hI.1 hY_se
    replace hY_lw := y_ext hx_ hI.1 hY_lw
    obtain rfl := hPv
    clear ho hr ha hE hP hI hx_
    rename x_I _ _ _ _ _ _ _ _ _ _ => hI
    refine lv_icmp_gt hx hb lsX_d11 (tgt := 31) (by decide) (fun q11 => ?_) (fun q11 => ?_)
    · have q11_ : (z_all (fb 0)).toInt < k.toInt := x_lt32.mp q11
      have hgl9 : ∀ s9, s9 < (2 ^ (fb 0).toInt.toNat) → m_gl gl s9 = (m_LR (m_VR fb (fb 4) (fb 5)) (fb 0).toInt.toNat) s9 := fun s9 h9 => hgl s9 (by omega)
      subst hav
      exact y_return B hI rfl rfl List.mem_cons_self rfl (x_cs.mono B.2.2.2.2.2 (y_mon B hI)) (fun t' b'  f' h1 h2 h3 h4 => by cases h1; cases h2.symm.trans hs0; cases z_uniq h4 hA0 h3 hcn; exact ⟨fun se' h5 i hi => by cases h5.symm.trans hs8; rw [hA_se i (by omega), hVs i hi], fun lw' h5 => by cases h5.symm.trans hl8; exact ⟨gl, hA_lw, hgl9⟩⟩) (Nat.le_refl _) (Nat.le_refl _) lsX_d31
    · have q11_ : k.toInt ≤ (z_all (fb 0)).toInt := Int.not_lt.mp fun q => q11 (x_lt32.mpr q)
      refine lv_aload_n hx hb lsX_d14 rfl (lv_at hl 1 rfl) ?_
      refine y_getf X (fl200 X.2.2.2.2.1) hI.1 hY_this rfl hs_lw lsX_d15 ?_
      refine lv_iload_n hx hb lsX_d18 rfl (lv_at hl 0 rfl) ?_
      refine lv_aload_n hx hb lsX_d19 rfl (lv_at hl 1 rfl) ?_
      refine lv_iload_n hx hb lsX_d20 rfl (lv_at hl 0 rfl) ?_
      refine y_call (z := (0, 243, 2, some 17, xM191)) (av := [.ref this, .int k]) (rest := [.int k, .ref lw]) (y_cokV (n := 1) (ci := 12) X ym_isLawfulX rfl rfl rfl (x_cons (x_bw78 11 rfl rfl) (x_cons (x_bw78 13 rfl rfl) (x_cons (x_at 52 (by decide +kernel) rfl) (x_cons (x_bw0 9 rfl rfl) x_nilm)))) (x_bw78 14 rfl rfl) (by decide +kernel) ⟨Nat.le_of_ble_eq_true rfl, Nat.le_of_ble_eq_true rfl⟩) hY0 hI rfl lsX_d21 hl.1 (Nat.le_of_ble_eq_true rfl) (Nat.le_of_ble_eq_true rfl) (Nat.le_of_ble_eq_true rfl) (y_cons (y_cref hY_this rfl) (y_cons ⟨_, rfl, x_i32 _⟩ y_nil)) rfl (y_recv rfl hY_this) trivial (y_sub_ef rfl) fun v Yn o Hn L ho hr ha hIn hx_ hE hP => ?_
      have hPs := hP _ _ _ _ rfl hs_bk hcn hA_bk _ (m_VR fb (fb 4) (fb 5)) hs_se (fun i hi => by rw [hA_se i (by omega), hVs i hi])
      obtain rfl := hPs
      replace hs_bk := y_Efld hE hY_this rfl (by decide) (by decide) hs_bk
      replace hs_se := y_Efld hE hY_this rfl (by decide) (by decide) hs_se
      replace hs_lw := y_Efld hE hY_this rfl (by decide) (by decide) hs_lw
      replace hA_bk := hA_bk.kept (y_Earr hE hY_bk rfl (by decide))
      replace hA_se := hA_se.kept (y_Earr hE hY_se rfl (by decide))
      replace hA_lw := hA_lw.kept (y_Earr hE hY_lw rfl (by decide))
      replace hY_this := y_ext hx_ hI.1 hY_this
      replace hY_bk := y_ext hx_ hI.1 hY_bk
      replace hY_se := y_ext hx_ hI.1 hY_se
      replace hY_lw := y_ext hx_ hI.1 hY_lw
      generalize hg_r21 : m_b (m_lw (m_VR fb (fb 4) (fb 5)) k (fb 0).toInt.toNat) = r21
      clear ho hr ha hE hP hI hx_
      rename x_I _ _ _ _ _ _ _ _ _ _ => hI
      have h_r21 : 0 ≤ r21.toInt ∧ r21.toInt ≤ 1 := by rw [← hg_r21]; unfold m_b; split <;> decide
      refine y_zast X hY0 hI hY_lw rfl hA_lw (by omega) (by show _ < (1024 : Int); omega) (y_01 (by omega) (by omega)) ⟨_, rfl, by show (0 : Int) ≤ _; omega, by show _ ≤ (1 : Int); omega⟩ (by decide +kernel) lsX_d24 fun H locs hI h_new ho => ?_
      replace hA_lw := h_new
      replace hB_lw := y_upb (i := k.toInt.toNat) (v := r21) hB_lw (by constructor <;> omega)
      generalize hf_f24 : y_up gl k.toInt.toNat r21 = f24 at hA_lw hB_lw
      replace hs_bk := y_slk hs_bk (ho _ (y_ne hY_this hY_lw rfl))
      replace hs_se := y_slk hs_se (ho _ (y_ne hY_this hY_lw rfl))
      replace hs_lw := y_slk hs_lw (ho _ (y_ne hY_this hY_lw rfl))
      replace hA_bk := hA_bk.kept (ho _ (y_ne hY_bk hY_lw rfl))
      replace hA_se := hA_se.kept (ho _ (y_ne hY_se hY_lw rfl))
      obtain ⟨z25, hg_z25⟩ : ∃ z25 : Int32, k + Int32.ofInt 1 = z25 := ⟨_, rfl⟩
      have h_z25 : z25.toInt = k.toInt + 1 := by rw [← hg_z25]; exact y_inc (by decide) (by omega) (by omega)
      refine lv_iinc hx hb lsX_d25 hl (k := 0) rfl hg_z25 (by decide) (lv' := [(1, .int z25), (0, .ref this)]) rfl fun ls hl => ?_
      refine lv_goto hx hb lsX_d28 (tgt := 6) (by decide) ?_
      exact ih _ _ _ _ _ _ _ hI hY_this hY_bk hY_se hY_lw hs_bk hs_se hs_lw hA_bk hA_se hA_lw (lv_sub hl [0, 1] rfl) (by first | assumption | omega) (by first | assumption | omega) (by first | assumption | omega) (fun s9 h9 => by by_cases e9 : s9 = k.toInt.toNat; (rw [e9]; unfold m_gl m_LR; rw [← hf_f24, y_up_at, ← hg_r21, m_nj hk.1]; exact m_gl_b); have h8 := hgl s9 (by omega); unfold m_gl at h8 ⊢; rw [← hf_f24, y_up_ne e9]; exact h8) (by omega)
theorem ym_lawsNow : y_Met vwCl x_G x_Zs x_Tb x_Nb xM204 y_T z_Plws := by
  refine y_main (by decide +kernel) (by decide +kernel) x_Tb_good x_Nb_ok ?_
  intro p l e s m below meth c D U Y0 av ls B hI _ hl
  have X := B.1
  have hx := X.1
  have hb := X.2.1
  have hY0 := B.2.2.2.2.1
  obtain ⟨v0, rfl, hv0⟩ := x_one B.2.2.2.2.2
  obtain ⟨this, t0, rfl, ht0, hY_this⟩ := x_ref_at hv0 rfl
  obtain rfl := List.mem_singleton.mp ht0
  replace hl : lv_has ls xM204.2.2.1 [(0, .ref this)] := hl
  obtain ⟨bk, hs_bk, hY_bk⟩ := y_fldR (k := 0) hI.1 hY_this rfl rfl
  obtain ⟨fb9, hA9, hB9⟩ := y_arr hI.1 hY_bk rfl rfl
  obtain ⟨fb, hcn, hA_bk, hB_bk⟩ := z_canon (Y := Y0) (P := fun j v => x_c Y0 ([xI 0 10, xI 0 8, xI 0 8].getD j xF) (.int v)) hA9 hB9
  clear hA9 hB9 fb9
  have hs0 := hs_bk
  have hA0 := hA_bk
  have hd := z_hdr hB_bk
  have hd0 := hd.1
  have hd1 := hd.2.1
  obtain ⟨se, hs_se, hY_se⟩ := y_fldR (k := 8) hI.1 hY_this rfl rfl
  obtain ⟨lw, hs_lw, hY_lw⟩ := y_fldR (k := 18) hI.1 hY_this rfl rfl
  obtain ⟨gl, hA_lw, hB_lw⟩ := y_arr hI.1 hY_lw rfl rfl
  replace hB_lw : ∀ j, j < 1024 → (0 : Int) ≤ (gl j).toInt ∧ (gl j).toInt ≤ 1 := fun j hj => by obtain ⟨x, e0, e1⟩ := hB_lw j hj; cases e0; exact e1
  have hs8 := hs_se
  have hl8 := hs_lw
  refine lv_aload_n hx hb lsX_d0 rfl (lv_at hl 0 rfl) ?_
  refine y_call (z := (0, 240, 1, some 17, xM186)) (av := [.ref this]) (rest := []) (y_cokV (n := 0) (ci := 12) X ym_looksNow rfl rfl rfl (x_cons (x_bw77 8 rfl rfl) (x_cons (x_bw77 10 rfl rfl) (x_cons (x_at 50 (by decide +kernel) rfl) (x_cons (x_bw0 9 rfl rfl) x_nilm)))) (x_bw77 11 rfl rfl) (by decide +kernel) ⟨Nat.le_of_ble_eq_true rfl, Nat.le_of_ble_eq_true rfl⟩) hY0 hI rfl lsX_d1 hl.1 (Nat.le_of_ble_eq_true rfl) (Nat.le_of_ble_eq_true rfl) (Nat.le_of_ble_eq_true rfl) (y_cons (y_cref hY_this rfl) y_nil) rfl (y_recv rfl hY_this) trivial (y_sub_ef rfl) fun v Yn o Hn L ho hr ha hIn hx_ hE hP => ?_
  have hPs := hP _ _ _ rfl hs_bk hcn hA_bk _ hs_se
  replace hs_bk := y_Efld hE hY_this rfl (by decide) (by decide) hs_bk
  replace hs_se := y_Efld hE hY_this rfl (by decide) (by decide) hs_se
  replace hs_lw := y_Efld hE hY_this rfl (by decide) (by decide) hs_lw
  replace hA_bk := hA_bk.kept (y_Earr hE hY_bk rfl (by decide))
  replace hA_lw := hA_lw.kept (y_Earr hE hY_lw rfl (by decide))
  replace hY_this := y_ext hx_ hI.1 hY_this
  replace hY_bk := y_ext hx_ hI.1 hY_bk
  replace hY_se := y_ext hx_ hI.1 hY_se
  replace hY_lw := y_ext hx_ hI.1 hY_lw
  obtain rfl := y_ansV rfl ho hr
  obtain ⟨fs, hA_se, -⟩ := y_arr hIn.1 hY_se rfl rfl
  have hVs : ∀ i, i < (fb 0).toInt.toNat → fs i = (m_VR fb (fb 4) (fb 5)) i := fun i hi => z_intI (hA_se i (by omega)) (hPs i hi)
  clear ho hr ha hE hP hI hx_
  rename x_I _ _ _ _ _ _ _ _ _ _ => hI
  refine lv_iconst hx hb lsX_d4 (v := 0) (by decide) ?_
  have ec0 : (0 : Int32).toInt = 0 := by decide
  refine lv_istore_n hx hb lsX_d5 rfl hl (by decide) (lv' := [(1, .int (0 : Int32)), (0, .ref this)]) rfl fun ls hl => ?_
  have hz9 := z_all_p hd0
  have hne9 : 0 < (2 ^ (fb 0).toInt.toNat) := Nat.pow_pos (by decide)
  exact lsX_L6 B rfl hs0 hA0 hcn hd0 hs8 hl8 1026 _ _ _ _ _ _ _ hI hY_this hY_bk hY_se hY_lw hs_bk hs_se hs_lw hA_bk hA_se hA_lw (lv_sub hl [0, 1] rfl) (by first | assumption | omega) (by first | assumption | omega) (by first | assumption | omega) (fun s9 h9 => absurd h9 (by omega)) (by omega)
def z_PMre : yP := fun D av _ H v _ H' => ∀ (this bk : Nat) (a nq : Int32) (f : Nat → Int32), av = [.ref this, .int a, .int nq] → x_sl D 12 0 this H = some (.ref bk) → z_c f → y_A bk 160 H f → ∃ r : Int32, v = some (.int r) ∧ m_reaS (m_LR (m_VR f (f 4) (f 5)) (f 0).toInt.toNat) (2 ^ (f 0).toInt.toNat) (m_isS f a ∧ 0 ≤ nq.toInt ∧ nq.toInt ≤ 99) a nq r
theorem reX_d0 : decode xM1012.2.1 0 = .ok (.aload_n 0, 1) := dz_ok (by decide +kernel)
theorem reX_d1 : decode xM1012.2.1 1 = .ok (.iload_n 1, 1) := dz_ok (by decide +kernel)
theorem reX_d2 : decode xM1012.2.1 2 = .ok (.invokevirtual 237, 3) := dz_ok (by decide +kernel)
theorem reX_d5 : decode xM1012.2.1 5 = .ok (.ifCond .eq 15, 3) := dz_ok (by decide +kernel)
theorem reX_d8 : decode xM1012.2.1 8 = .ok (.iload_n 2, 1) := dz_ok (by decide +kernel)
theorem reX_d9 : decode xM1012.2.1 9 = .ok (.i2l, 1) := dz_ok (by decide +kernel)
theorem reX_d10 : decode xM1012.2.1 10 = .ok (.lconst 0, 1) := dz_ok (by decide +kernel)
theorem reX_d11 : decode xM1012.2.1 11 = .ok (.ldc2_w 97, 3) := dz_ok (by decide +kernel)
theorem reX_d14 : decode xM1012.2.1 14 = .ok (.invokestatic 87, 3) := dz_ok (by decide +kernel)
theorem reX_d17 : decode xM1012.2.1 17 = .ok (.ifCond .ne 8, 3) := dz_ok (by decide +kernel)
theorem reX_d20 : decode xM1012.2.1 20 = .ok (.aload_n 0, 1) := dz_ok (by decide +kernel)
theorem reX_d21 : decode xM1012.2.1 21 = .ok (.invokevirtual 102, 3) := dz_ok (by decide +kernel)
theorem reX_d24 : decode xM1012.2.1 24 = .ok (.ireturn, 1) := dz_ok (by decide +kernel)
theorem reX_d25 : decode xM1012.2.1 25 = .ok (.aload_n 0, 1) := dz_ok (by decide +kernel)
theorem reX_d26 : decode xM1012.2.1 26 = .ok (.invokevirtual 260, 3) := dz_ok (by decide +kernel)
theorem reX_d29 : decode xM1012.2.1 29 = .ok (.aload_n 0, 1) := dz_ok (by decide +kernel)
theorem reX_d30 : decode xM1012.2.1 30 = .ok (.getfield 38, 3) := dz_ok (by decide +kernel)
theorem reX_d33 : decode xM1012.2.1 33 = .ok (.iload_n 1, 1) := dz_ok (by decide +kernel)
theorem reX_d34 : decode xM1012.2.1 34 = .ok (.baload, 1) := dz_ok (by decide +kernel)
theorem reX_d35 : decode xM1012.2.1 35 = .ok (.ifCond .ne 8, 3) := dz_ok (by decide +kernel)
theorem reX_d38 : decode xM1012.2.1 38 = .ok (.aload_n 0, 1) := dz_ok (by decide +kernel)
theorem reX_d39 : decode xM1012.2.1 39 = .ok (.invokevirtual 126, 3) := dz_ok (by decide +kernel)
theorem reX_d42 : decode xM1012.2.1 42 = .ok (.ireturn, 1) := dz_ok (by decide +kernel)
theorem reX_d43 : decode xM1012.2.1 43 = .ok (.aload_n 0, 1) := dz_ok (by decide +kernel)
theorem reX_d44 : decode xM1012.2.1 44 = .ok (.iload_n 1, 1) := dz_ok (by decide +kernel)
theorem reX_d45 : decode xM1012.2.1 45 = .ok (.invokevirtual 263, 3) := dz_ok (by decide +kernel)
theorem reX_d48 : decode xM1012.2.1 48 = .ok (.iconst 0, 1) := dz_ok (by decide +kernel)
theorem reX_d49 : decode xM1012.2.1 49 = .ok (.istore_n 3, 1) := dz_ok (by decide +kernel)
theorem reX_d50 : decode xM1012.2.1 50 = .ok (.iconst 0, 1) := dz_ok (by decide +kernel)
theorem reX_d51 : decode xM1012.2.1 51 = .ok (.istore 4, 2) := dz_ok (by decide +kernel)
theorem reX_d53 : decode xM1012.2.1 53 = .ok (.iload 4, 2) := dz_ok (by decide +kernel)
theorem reX_d55 : decode xM1012.2.1 55 = .ok (.aload_n 0, 1) := dz_ok (by decide +kernel)
theorem reX_d56 : decode xM1012.2.1 56 = .ok (.invokevirtual 91, 3) := dz_ok (by decide +kernel)
theorem reX_d59 : decode xM1012.2.1 59 = .ok (.if_icmp .gt 34, 3) := dz_ok (by decide +kernel)
theorem reX_d62 : decode xM1012.2.1 62 = .ok (.iload_n 3, 1) := dz_ok (by decide +kernel)
theorem reX_d63 : decode xM1012.2.1 63 = .ok (.aload_n 0, 1) := dz_ok (by decide +kernel)
theorem reX_d64 : decode xM1012.2.1 64 = .ok (.getfield 41, 3) := dz_ok (by decide +kernel)
theorem reX_d67 : decode xM1012.2.1 67 = .ok (.iload 4, 2) := dz_ok (by decide +kernel)
theorem reX_d69 : decode xM1012.2.1 69 = .ok (.iaload, 1) := dz_ok (by decide +kernel)
theorem reX_d70 : decode xM1012.2.1 70 = .ok (.i2l, 1) := dz_ok (by decide +kernel)
theorem reX_d71 : decode xM1012.2.1 71 = .ok (.lconst 0, 1) := dz_ok (by decide +kernel)
theorem reX_d72 : decode xM1012.2.1 72 = .ok (.iload_n 2, 1) := dz_ok (by decide +kernel)
theorem reX_d73 : decode xM1012.2.1 73 = .ok (.i2l, 1) := dz_ok (by decide +kernel)
theorem reX_d74 : decode xM1012.2.1 74 = .ok (.invokestatic 87, 3) := dz_ok (by decide +kernel)
theorem reX_d77 : decode xM1012.2.1 77 = .ok (.ifCond .eq 7, 3) := dz_ok (by decide +kernel)
theorem reX_d80 : decode xM1012.2.1 80 = .ok (.iconst 1, 1) := dz_ok (by decide +kernel)
theorem reX_d81 : decode xM1012.2.1 81 = .ok (.goto 4, 3) := dz_ok (by decide +kernel)
theorem reX_d84 : decode xM1012.2.1 84 = .ok (.iconst 0, 1) := dz_ok (by decide +kernel)
theorem reX_d85 : decode xM1012.2.1 85 = .ok (.iadd, 1) := dz_ok (by decide +kernel)
theorem reX_d86 : decode xM1012.2.1 86 = .ok (.istore_n 3, 1) := dz_ok (by decide +kernel)
theorem reX_d87 : decode xM1012.2.1 87 = .ok (.iinc 4 1, 3) := dz_ok (by decide +kernel)
theorem reX_d90 : decode xM1012.2.1 90 = .ok (.goto (-37), 3) := dz_ok (by decide +kernel)
theorem reX_d93 : decode xM1012.2.1 93 = .ok (.iload_n 3, 1) := dz_ok (by decide +kernel)
theorem reX_d94 : decode xM1012.2.1 94 = .ok (.ireturn, 1) := dz_ok (by decide +kernel)
theorem reX_L53 {p : Program} {l : Launch} {e : Env} {s : State} {m : MethodId} {below : List Frame} {meth : Method} {c : Code} {D : va_G} {U : State} {Y0 : xY} {av : List Value} (B : y_B vwCl x_Tb x_Nb xM1012 p s m meth c D U Y0 av) {this bk lw fr : Nat} {a nq : Int32} {fb : Nat → Int32} (hav : av = [.ref this, .int a, .int nq]) (hs0 : x_sl D 12 0 this s.heap = some (.ref bk)) (hA0 : y_A bk 160 s.heap fb) (hcn : z_c fb) (hd0 : 0 ≤ (fb 0).toInt ∧ (fb 0).toInt ≤ 10) (hok : m_isS fb a ∧ 0 ≤ nq.toInt ∧ nq.toInt ≤ 99) {gl ff : Nat → Int32} (hD : m_D (m_LR (m_VR fb (fb 4) (fb 5)) (fb 0).toInt.toNat) (2 ^ (fb 0).toInt.toNat) a.toInt.toNat ff) (hla : (m_LR (m_VR fb (fb 4) (fb 5)) (fb 0).toInt.toNat) a.toInt.toNat = true) :
    ∀ (n : Nat), ∀ (H : Heap) (Y : xY) (locs : List Loc) (ls : Array Slot) (k : Int32) (al : Int32), x_I D x_G x_Zs U (x_efs xM1012) Y0 s.heap Y H locs → Y this = some 17 → Y bk = some 46 → Y lw = some 55 → Y fr = some 56 → x_sl D 12 0 this H = some (.ref bk) → x_sl D 12 18 this H = some (.ref lw) → x_sl D 12 19 this H = some (.ref fr) → y_A bk 160 H fb → y_A lw 1024 H gl → y_A fr 1024 H ff → lv_has ls xM1012.2.2.1 [(4, .int k), (3, .int al), (0, .ref this), (1, .int a), (2, .int nq)] → (0 ≤ k.toInt ∧ k.toInt ≤ (z_all (fb 0)).toInt + 1) → (al.toInt = (m_cn (m_wi (m_LR (m_VR fb (fb 4) (fb 5)) (fb 0).toInt.toNat) ff nq) k.toInt.toNat : Nat)) → (1025 - k.toInt).toNat < n → W p l e (x_rm xM1012) s m av.toArray below meth c H locs 0 0 (y_QQ below D x_G x_Zs U xM1012 z_PMre av Y0 s) (F0 m 53 ls []) := by
  have X := B.1
  have hx := X.1
  have hb := X.2.1
  have hY0 := B.2.2.2.2.1
  intro n
  induction n with
  | zero => intro _ _ _ _ _ _ _ _ _ _ _ _ _ _ _ _ _ _ _ _ h; exact absurd h (Nat.not_lt_zero _)
  | succ n ih =>
    intro H Y locs ls k al  hI hY_this hY_bk hY_lw hY_fr hs_bk hs_lw hs_fr hA_bk hA_lw hA_fr hl hk hal hn
    have hz9 := z_all_p hd0
    have hpw : (2 ^ (fb 0).toInt.toNat) ≤ 1024 := Nat.pow_le_pow_right (n := 2) (by decide) (show (fb 0).toInt.toNat ≤ 10 by omega)
    have hcb := m_cn_b (L := (m_wi (m_LR (m_VR fb (fb 4) (fb 5)) (fb 0).toInt.toNat) ff nq)) (k := k.toInt.toNat)
    refine lv_iload hx hb reX_d53 (lv_at hl 0 rfl) ?_
    refine lv_aload_n hx hb reX_d55 rfl (lv_at hl 2 rfl) ?_
    refine y_call (z := (0, 91, 1, some 17, xM182)) (av := [.ref this]) (rest := [.int k]) (y_cokV (n := 0) (ci := 12) X ym_all rfl rfl rfl (x_cons (x_bw77 4 rfl rfl) (x_cons (x_bw77 6 rfl rfl) (x_cons (x_at 49 (by decide +kernel) rfl) (x_cons (x_bw0 9 rfl rfl) x_nilm)))) (x_bw77 7 rfl rfl) (by decide +kernel) ⟨Nat.le_of_ble_eq_true rfl, Nat.le_of_ble_eq_true rfl⟩) hY0 hI rfl reX_d56 hl.1 (Nat.le_of_ble_eq_true rfl) (Nat.le_of_ble_eq_true rfl) (Nat.le_of_ble_eq_true rfl) (y_cons (y_cref hY_this rfl) y_nil) rfl (y_recv rfl hY_this) trivial (y_sub_ef rfl) fun v Yn o Hn L ho hr ha hIn hx_ hE hP => ?_
    have hPv := hP _ _ _ rfl hs_bk (hA_bk 0 (by decide))
    replace hs_bk := y_Efld hE hY_this rfl (by decide) (by decide) hs_bk
    replace hs_lw := y_Efld hE hY_this rfl (by decide) (by decide) hs_lw
    replace hs_fr := y_Efld hE hY_this rfl (by decide) (by decide) hs_fr
    replace hA_bk := hA_bk.kept (y_Earr hE hY_bk rfl (by decide))
    replace hA_lw := hA_lw.kept (y_Earr hE hY_lw rfl (by decide))
    replace hA_fr := hA_fr.kept (y_Earr hE hY_fr rfl (by decide))
    replace hY_this := y_ext hx_ hI.1 hY_this
    replace hY_bk := y_ext hx_ hI.1 hY_bk
    replace hY_lw := y_ext hx_ hI.1 hY_lw
    replace hY_fr := y_ext hx_ hI.1 hY_fr
    obtain rfl := hPv
    clear ho hr ha hE hP hI hx_
    rename x_I _ _ _ _ _ _ _ _ _ _ => hI
    refine lv_icmp_gt hx hb reX_d59 (tgt := 93) (by decide) (fun q59 => ?_) (fun q59 => ?_)
    · have q59_ : (z_all (fb 0)).toInt < k.toInt := x_lt32.mp q59
      refine lv_iload_n hx hb reX_d93 rfl (lv_at hl 1 rfl) ?_
      have ek9 : k.toInt.toNat = (2 ^ (fb 0).toInt.toNat) := by omega
      rw [ek9] at hal
      subst hav
      exact y_ireturn B hI rfl rfl rfl List.mem_cons_self ⟨_, rfl, ⟨_, rfl, x_i32 _⟩⟩ (x_cs.mono B.2.2.2.2.2 (y_mon B hI)) (fun t' b' w0' w1' f' h1 h2 h3 h4 => by cases h1; cases h2.symm.trans hs0; cases z_uniq h4 hA0 h3 hcn; exact ⟨_, rfl, fun _ _ => ⟨ff, hD, hal⟩, fun _ q9 => (by rw [hla] at q9; cases q9), fun q9 => absurd hok q9⟩) (Nat.le_refl _) (Nat.le_refl _) reX_d94
    · have q59_ : k.toInt ≤ (z_all (fb 0)).toInt := Int.not_lt.mp fun q => q59 (x_lt32.mpr q)
      refine lv_iload_n hx hb reX_d62 rfl (lv_at hl 1 rfl) ?_
      refine lv_aload_n hx hb reX_d63 rfl (lv_at hl 2 rfl) ?_
      refine y_getf X (fl211 X.2.2.2.2.1) hI.1 hY_this rfl hs_fr reX_d64 ?_
      refine lv_iload hx hb reX_d67 (lv_at hl 0 rfl) ?_
      refine y_iald X hI.1 hY_fr rfl hA_fr (by omega) (by show _ < (1024 : Int); omega) reX_d69 ?_
      obtain ⟨e69, hg_e69⟩ : ∃ e69 : Int32, ff k.toInt.toNat = e69 := ⟨_, rfl⟩
      rw [hg_e69]
      obtain ⟨z70, hg_z70⟩ : ∃ z70 : Int64, e69.toInt64 = z70 := ⟨_, rfl⟩
      have h_z70 : z70.toInt = (e69).toInt := by rw [← hg_z70]; exact Int32.toInt_toInt64 _
      refine lv_i2l hx hb reX_d70 (v := z70) hg_z70 ?_
      refine lv_lconst hx hb reX_d71 (v := 0) (by decide) ?_
      have el0 : (0 : Int64).toInt = 0 := by decide
      refine lv_iload_n hx hb reX_d72 rfl (lv_at hl 4 rfl) ?_
      obtain ⟨z73, hg_z73⟩ : ∃ z73 : Int64, nq.toInt64 = z73 := ⟨_, rfl⟩
      have h_z73 : z73.toInt = (nq).toInt := by rw [← hg_z73]; exact Int32.toInt_toInt64 _
      refine lv_i2l hx hb reX_d73 (v := z73) hg_z73 ?_
      refine y_call (z := (1, 87, 3, none, xM148)) (av := [.long z70, .long (0 : Int64), .long z73]) (rest := [.int al]) (y_cokS (n := 3) X ym_in (x_cons (x_bw67 11 rfl rfl) (x_cons (x_bw67 12 rfl rfl) (x_cons (x_bw0 9 rfl rfl) x_nilm))) (x_bw67 13 rfl rfl) (by decide +kernel) ⟨Nat.le_of_ble_eq_true rfl, Nat.le_of_ble_eq_true rfl⟩) hY0 hI rfl reX_d74 hl.1 (Nat.le_of_ble_eq_true rfl) (Nat.le_of_ble_eq_true rfl) (Nat.le_of_ble_eq_true rfl) (y_cons ⟨_, rfl, x_i64 _⟩ (y_cons ⟨_, rfl, x_i64 _⟩ (y_cons ⟨_, rfl, x_i64 _⟩ y_nil))) rfl (y_norecv rfl) trivial (y_sub_ef rfl) fun v Yn o Hn L ho hr ha hIn hx_ hE hP => ?_
      replace hs_bk := y_Efld hE hY_this rfl (by decide) (by decide) hs_bk
      replace hs_lw := y_Efld hE hY_this rfl (by decide) (by decide) hs_lw
      replace hs_fr := y_Efld hE hY_this rfl (by decide) (by decide) hs_fr
      replace hA_bk := hA_bk.kept (y_Earr hE hY_bk rfl (by decide))
      replace hA_lw := hA_lw.kept (y_Earr hE hY_lw rfl (by decide))
      replace hA_fr := hA_fr.kept (y_Earr hE hY_fr rfl (by decide))
      replace hY_this := y_ext hx_ hI.1 hY_this
      replace hY_bk := y_ext hx_ hI.1 hY_bk
      replace hY_lw := y_ext hx_ hI.1 hY_lw
      replace hY_fr := y_ext hx_ hI.1 hY_fr
      obtain ⟨r74, rfl, hin_r74, hout_r74⟩ := z_inR2 (hP _ _ _ rfl)
      clear ho hr ha hE hP hI hx_
      rename x_I _ _ _ _ _ _ _ _ _ _ => hI
      have ec0 : (0 : Int32).toInt = 0 := by decide
      refine lv_if_eq hx hb reX_d77 (tgt := 84) (by decide) (fun q77 => ?_) (fun q77 => ?_)
      · have q77_ : r74.toInt = (0 : Int32).toInt := by rw [q77]
        refine lv_iconst hx hb reX_d84 (v := 0) (by decide) ?_
        refine lv_iadd hx hb reX_d85 ?_
        generalize hg_z85 : al + (0 : Int32) = z85
        have h_z85 : z85.toInt = al.toInt + 0 := by rw [← hg_z85]; have := y_add (x := al) (y := (0 : Int32)) (by rw [ec0]; omega) (by rw [ec0]; omega); rw [ec0] at this; exact this
        refine lv_istore_n hx hb reX_d86 rfl hl (by decide) (lv' := [(3, .int z85), (4, .int k), (0, .ref this), (1, .int a), (2, .int nq)]) rfl fun ls hl => ?_
        obtain ⟨z87, hg_z87⟩ : ∃ z87 : Int32, k + Int32.ofInt 1 = z87 := ⟨_, rfl⟩
        have h_z87 : z87.toInt = k.toInt + 1 := by rw [← hg_z87]; exact y_inc (by decide) (by omega) (by omega)
        refine lv_iinc hx hb reX_d87 hl (k := 1) rfl hg_z87 (by decide) (lv' := [(4, .int z87), (3, .int z85), (0, .ref this), (1, .int a), (2, .int nq)]) rfl fun ls hl => ?_
        refine lv_goto hx hb reX_d90 (tgt := 53) (by decide) ?_
        have his : z87.toInt.toNat = k.toInt.toNat + 1 := by omega
        have hx9 : (ff k.toInt.toNat).toInt = e69.toInt := by rw [hg_e69]
        exact ih _ _ _ _ _ _ hI hY_this hY_bk hY_lw hY_fr hs_bk hs_lw hs_fr hA_bk hA_lw hA_fr (lv_sub hl [0, 1, 2, 3, 4] rfl) (by first | assumption | omega) (by
                            rw [his]
                            first
                              | (have hw := hin_r74 (by assumption)
                                 have hX : (m_wi (m_LR (m_VR fb (fb 4) (fb 5)) (fb 0).toInt.toNat) ff nq) k.toInt.toNat = true := by unfold m_wi; rw [hD.1.lw (by omega) (by omega), decide_eq_true (by omega)]; rfl
                                 rw [m_cn_T hX]; omega)
                              | (have hw := hout_r74 (by assumption)
                                 have hX : (m_wi (m_LR (m_VR fb (fb 4) (fb 5)) (fb 0).toInt.toNat) ff nq) k.toInt.toNat = false := by unfold m_wi; rw [decide_eq_false (by omega), Bool.and_false]
                                 rw [m_cn_F hX]; omega)) (by omega)
      · have q77_ : ¬ r74.toInt = (0 : Int32).toInt := fun q => q77 (Int32.toInt_inj.mp q)
        refine lv_iconst hx hb reX_d80 (v := 1) (by decide) ?_
        have ec1 : (1 : Int32).toInt = 1 := by decide
        refine lv_goto hx hb reX_d81 (tgt := 85) (by decide) ?_
        refine lv_iadd hx hb reX_d85 ?_
        generalize hg_z85 : al + (1 : Int32) = z85
        have h_z85 : z85.toInt = al.toInt + 1 := by rw [← hg_z85]; have := y_add (x := al) (y := (1 : Int32)) (by rw [ec1]; omega) (by rw [ec1]; omega); rw [ec1] at this; exact this
        refine lv_istore_n hx hb reX_d86 rfl hl (by decide) (lv' := [(3, .int z85), (4, .int k), (0, .ref this), (1, .int a), (2, .int nq)]) rfl fun ls hl => ?_
        obtain ⟨z87, hg_z87⟩ : ∃ z87 : Int32, k + Int32.ofInt 1 = z87 := ⟨_, rfl⟩
        have h_z87 : z87.toInt = k.toInt + 1 := by rw [← hg_z87]; exact y_inc (by decide) (by omega) (by omega)
        refine lv_iinc hx hb reX_d87 hl (k := 1) rfl hg_z87 (by decide) (lv' := [(4, .int z87), (3, .int z85), (0, .ref this), (1, .int a), (2, .int nq)]) rfl fun ls hl => ?_
        refine lv_goto hx hb reX_d90 (tgt := 53) (by decide) ?_
        have his : z87.toInt.toNat = k.toInt.toNat + 1 := by omega
        have hx9 : (ff k.toInt.toNat).toInt = e69.toInt := by rw [hg_e69]
        exact ih _ _ _ _ _ _ hI hY_this hY_bk hY_lw hY_fr hs_bk hs_lw hs_fr hA_bk hA_lw hA_fr (lv_sub hl [0, 1, 2, 3, 4] rfl) (by first | assumption | omega) (by
                            rw [his]
                            first
                              | (have hw := hin_r74 (by assumption)
                                 have hX : (m_wi (m_LR (m_VR fb (fb 4) (fb 5)) (fb 0).toInt.toNat) ff nq) k.toInt.toNat = true := by unfold m_wi; rw [hD.1.lw (by omega) (by omega), decide_eq_true (by omega)]; rfl
                                 rw [m_cn_T hX]; omega)
                              | (have hw := hout_r74 (by assumption)
                                 have hX : (m_wi (m_LR (m_VR fb (fb 4) (fb 5)) (fb 0).toInt.toNat) ff nq) k.toInt.toNat = false := by unfold m_wi; rw [decide_eq_false (by omega), Bool.and_false]
                                 rw [m_cn_F hX]; omega)) (by omega)
theorem ym_reachM : y_Met vwCl x_G x_Zs x_Tb x_Nb xM1012 y_T z_PMre := by
  refine y_main (by decide +kernel) (by decide +kernel) x_Tb_good x_Nb_ok ?_
  intro p l e s m below meth c D U Y0 av ls B hI _ hl
  have X := B.1
  have hx := X.1
  have hb := X.2.1
  have hY0 := B.2.2.2.2.1
  obtain ⟨v0, v1, v2, rfl, hv0, ⟨a, rfl, -⟩, ⟨nq, rfl, -⟩⟩ := y_three B.2.2.2.2.2
  obtain ⟨this, t0, rfl, ht0, hY_this⟩ := x_ref_at hv0 rfl
  obtain rfl := List.mem_singleton.mp ht0
  replace hl : lv_has ls xM1012.2.2.1 [(0, .ref this), (1, .int a), (2, .int nq)] := hl
  obtain ⟨bk, hs_bk, hY_bk⟩ := y_fldR (k := 0) hI.1 hY_this rfl rfl
  obtain ⟨fb9, hA9, hB9⟩ := y_arr hI.1 hY_bk rfl rfl
  obtain ⟨fb, hcn, hA_bk, hB_bk⟩ := z_canon (Y := Y0) (P := fun j v => x_c Y0 ([xI 0 10, xI 0 8, xI 0 8].getD j xF) (.int v)) hA9 hB9
  clear hA9 hB9 fb9
  have hs0 := hs_bk
  have hA0 := hA_bk
  have hd := z_hdr hB_bk
  have hd0 := hd.1
  have hd1 := hd.2.1
  obtain ⟨se, hs_se, hY_se⟩ := y_fldR (k := 8) hI.1 hY_this rfl rfl
  obtain ⟨lw, hs_lw, hY_lw⟩ := y_fldR (k := 18) hI.1 hY_this rfl rfl
  obtain ⟨fr, hs_fr, hY_fr⟩ := y_fldR (k := 19) hI.1 hY_this rfl rfl
  refine lv_aload_n hx hb reX_d0 rfl (lv_at hl 0 rfl) ?_
  refine lv_iload_n hx hb reX_d1 rfl (lv_at hl 1 rfl) ?_
  refine y_call (z := (0, 237, 2, some 17, xM184)) (av := [.ref this, .int a]) (rest := []) (y_cokV (n := 1) (ci := 12) X ym_isSet rfl rfl rfl (x_cons (x_bw77 0 rfl rfl) (x_cons (x_bw77 2 rfl rfl) (x_cons (x_at 48 (by decide +kernel) rfl) (x_cons (x_bw0 9 rfl rfl) x_nilm)))) (x_bw77 3 rfl rfl) (by decide +kernel) ⟨Nat.le_of_ble_eq_true rfl, Nat.le_of_ble_eq_true rfl⟩) hY0 hI rfl reX_d2 hl.1 (Nat.le_of_ble_eq_true rfl) (Nat.le_of_ble_eq_true rfl) (Nat.le_of_ble_eq_true rfl) (y_cons (y_cref hY_this rfl) (y_cons ⟨_, rfl, x_i32 _⟩ y_nil)) rfl (y_recv rfl hY_this) trivial (y_sub_ef rfl) fun v Yn o Hn L ho hr ha hIn hx_ hE hP => ?_
  have hPv := hP _ _ _ _ rfl hs_bk (hA_bk 0 (by decide))
  replace hs_bk := y_Efld hE hY_this rfl (by decide) (by decide) hs_bk
  replace hs_se := y_Efld hE hY_this rfl (by decide) (by decide) hs_se
  replace hs_lw := y_Efld hE hY_this rfl (by decide) (by decide) hs_lw
  replace hs_fr := y_Efld hE hY_this rfl (by decide) (by decide) hs_fr
  replace hA_bk := hA_bk.kept (y_Earr hE hY_bk rfl (by decide))
  replace hY_this := y_ext hx_ hI.1 hY_this
  replace hY_bk := y_ext hx_ hI.1 hY_bk
  replace hY_se := y_ext hx_ hI.1 hY_se
  replace hY_lw := y_ext hx_ hI.1 hY_lw
  replace hY_fr := y_ext hx_ hI.1 hY_fr
  obtain ⟨r2, rfl, hin_r2, hout_r2⟩ := hPv
  clear ho hr ha hE hP hI hx_
  rename x_I _ _ _ _ _ _ _ _ _ _ => hI
  have ec0 : (0 : Int32).toInt = 0 := by decide
  refine lv_if_eq hx hb reX_d5 (tgt := 20) (by decide) (fun q5 => ?_) (fun q5 => ?_)
  · have q5_ : r2.toInt = (0 : Int32).toInt := by rw [q5]
    have hno : ¬ (m_isS fb a ∧ 0 ≤ nq.toInt ∧ nq.toInt ≤ 99) := fun q9 => by first | (have h8 := hout_r2 (by assumption); have h7 := q9.1; unfold m_isS at h7; omega) | (have h8 := hout_r14 (by assumption); omega)
    refine lv_aload_n hx hb reX_d20 rfl (lv_at hl 0 rfl) ?_
    refine y_call (z := (0, 102, 1, some 17, xM143)) (av := [.ref this]) (rest := []) (y_cokV (n := 0) (ci := 12) X ym_bad rfl rfl rfl (x_cons (x_bw68 3 rfl rfl) (x_cons (x_bw68 5 rfl rfl) (x_cons (x_at 32 (by decide +kernel) rfl) (x_cons (x_bw0 9 rfl rfl) x_nilm)))) (x_bw68 6 rfl rfl) (by decide +kernel) ⟨Nat.le_of_ble_eq_true rfl, Nat.le_of_ble_eq_true rfl⟩) hY0 hI rfl reX_d21 hl.1 (Nat.le_of_ble_eq_true rfl) (Nat.le_of_ble_eq_true rfl) (Nat.le_of_ble_eq_true rfl) (y_cons (y_cref hY_this rfl) y_nil) rfl (y_recv rfl hY_this) trivial (y_sub_ef rfl) fun v Yn o Hn L ho hr ha hIn hx_ hE hP => ?_
    replace hs_bk := y_Efld hE hY_this rfl (by decide) (by decide) hs_bk
    replace hs_se := y_Efld hE hY_this rfl (by decide) (by decide) hs_se
    replace hs_lw := y_Efld hE hY_this rfl (by decide) (by decide) hs_lw
    replace hs_fr := y_Efld hE hY_this rfl (by decide) (by decide) hs_fr
    replace hA_bk := hA_bk.kept (y_Earr hE hY_bk rfl (by decide))
    replace hY_this := y_ext hx_ hI.1 hY_this
    replace hY_bk := y_ext hx_ hI.1 hY_bk
    replace hY_se := y_ext hx_ hI.1 hY_se
    replace hY_lw := y_ext hx_ hI.1 hY_lw
    replace hY_fr := y_ext hx_ hI.1 hY_fr
    have hPb := hP
    obtain rfl := hPb
    clear ho hr ha hE hP hI hx_
    rename x_I _ _ _ _ _ _ _ _ _ _ => hI
    exact y_ireturn B hI rfl rfl rfl List.mem_cons_self ⟨_, rfl, ⟨_, rfl, x_i32 _⟩⟩ (x_cs.mono B.2.2.2.2.2 (y_mon B hI)) (fun t' b' w0' w1' f' h1 h2 h3 h4 => by cases h1; cases h2.symm.trans hs0; cases z_uniq h4 hA0 h3 hcn; exact ⟨_, rfl, fun q9 => absurd q9 hno, fun q9 => absurd q9 hno, fun _ => rfl⟩) (Nat.le_refl _) (Nat.le_refl _) reX_d24
  · have q5_ : ¬ r2.toInt = (0 : Int32).toInt := fun q => q5 (Int32.toInt_inj.mp q)
    refine lv_iload_n hx hb reX_d8 rfl (lv_at hl 2 rfl) ?_
    obtain ⟨z9, hg_z9⟩ : ∃ z9 : Int64, nq.toInt64 = z9 := ⟨_, rfl⟩
    have h_z9 : z9.toInt = (nq).toInt := by rw [← hg_z9]; exact Int32.toInt_toInt64 _
    refine lv_i2l hx hb reX_d9 (v := z9) hg_z9 ?_
    refine lv_lconst hx hb reX_d10 (v := 0) (by decide) ?_
    have el0 : (0 : Int64).toInt = 0 := by decide
    refine lv_ldc2 hx hb X.2.2.2.1 (v := 99) (X.2.2.2.2.1 _ (x_bw67 14 rfl rfl)) reX_d11 ?_
    have el99 : (99 : Int64).toInt = 99 := by decide
    refine y_call (z := (1, 87, 3, none, xM148)) (av := [.long z9, .long (0 : Int64), .long (99 : Int64)]) (rest := []) (y_cokS (n := 3) X ym_in (x_cons (x_bw67 11 rfl rfl) (x_cons (x_bw67 12 rfl rfl) (x_cons (x_bw0 9 rfl rfl) x_nilm))) (x_bw67 13 rfl rfl) (by decide +kernel) ⟨Nat.le_of_ble_eq_true rfl, Nat.le_of_ble_eq_true rfl⟩) hY0 hI rfl reX_d14 hl.1 (Nat.le_of_ble_eq_true rfl) (Nat.le_of_ble_eq_true rfl) (Nat.le_of_ble_eq_true rfl) (y_cons ⟨_, rfl, x_i64 _⟩ (y_cons ⟨_, rfl, x_i64 _⟩ (y_cons ⟨_, rfl, x_i64 _⟩ y_nil))) rfl (y_norecv rfl) trivial (y_sub_ef rfl) fun v Yn o Hn L ho hr ha hIn hx_ hE hP => ?_
    replace hs_bk := y_Efld hE hY_this rfl (by decide) (by decide) hs_bk
    replace hs_se := y_Efld hE hY_this rfl (by decide) (by decide) hs_se
    replace hs_lw := y_Efld hE hY_this rfl (by decide) (by decide) hs_lw
    replace hs_fr := y_Efld hE hY_this rfl (by decide) (by decide) hs_fr
    replace hA_bk := hA_bk.kept (y_Earr hE hY_bk rfl (by decide))
    replace hY_this := y_ext hx_ hI.1 hY_this
    replace hY_bk := y_ext hx_ hI.1 hY_bk
    replace hY_se := y_ext hx_ hI.1 hY_se
    replace hY_lw := y_ext hx_ hI.1 hY_lw
    replace hY_fr := y_ext hx_ hI.1 hY_fr
    obtain ⟨r14, rfl, hin_r14, hout_r14⟩ := z_inR2 (hP _ _ _ rfl)
    clear ho hr ha hE hP hI hx_
    rename x_I _ _ _ _ _ _ _ _ _ _ => hI
    refine lv_if_ne hx hb reX_d17 (tgt := 25) (by decide) (fun q17 => ?_) (fun q17 => ?_)
    · have q17_ : ¬ r14.toInt = (0 : Int32).toInt := fun q => q17 (Int32.toInt_inj.mp q)
      have hw9 := hin_r14 (by assumption)
      have hok : m_isS fb a ∧ 0 ≤ nq.toInt ∧ nq.toInt ≤ 99 := by first | exact ⟨hin_r2 (by assumption), by omega, by omega⟩ | exact ⟨hin_r2 (by assumption), hin_r10 (by assumption), by omega, by omega⟩
      have hs_a := hok.1
      unfold m_isS at hs_a
      have hz9 := z_all_p hd0
      have hpw : (2 ^ (fb 0).toInt.toNat) ≤ 1024 := Nat.pow_le_pow_right (n := 2) (by decide) (show (fb 0).toInt.toNat ≤ 10 by omega)
      have hNB : (z_all (fb 0)).toInt.toNat + 1 = (2 ^ (fb 0).toInt.toNat) := by omega
      refine lv_aload_n hx hb reX_d25 rfl (lv_at hl 0 rfl) ?_
      refine y_call (z := (0, 260, 1, some 17, xM204)) (av := [.ref this]) (rest := []) (y_cokV (n := 0) (ci := 12) X ym_lawsNow rfl rfl rfl (x_cons (x_bw81 9 rfl rfl) (x_cons (x_bw81 11 rfl rfl) (x_cons (x_at 55 (by decide +kernel) rfl) (x_cons (x_bw0 9 rfl rfl) x_nilm)))) (x_bw81 12 rfl rfl) (by decide +kernel) ⟨Nat.le_of_ble_eq_true rfl, Nat.le_of_ble_eq_true rfl⟩) hY0 hI rfl reX_d26 hl.1 (Nat.le_of_ble_eq_true rfl) (Nat.le_of_ble_eq_true rfl) (Nat.le_of_ble_eq_true rfl) (y_cons (y_cref hY_this rfl) y_nil) rfl (y_recv rfl hY_this) trivial (y_sub_ef rfl) fun v Yn o Hn L ho hr ha hIn hx_ hE hP => ?_
      have hPs := hP _ _ _ rfl hs_bk hcn hA_bk
      have hPl1 := hPs.1 _ hs_se
      have hPl2 := hPs.2 _ hs_lw
      replace hs_bk := y_Efld hE hY_this rfl (by decide) (by decide) hs_bk
      replace hs_se := y_Efld hE hY_this rfl (by decide) (by decide) hs_se
      replace hs_lw := y_Efld hE hY_this rfl (by decide) (by decide) hs_lw
      replace hs_fr := y_Efld hE hY_this rfl (by decide) (by decide) hs_fr
      replace hA_bk := hA_bk.kept (y_Earr hE hY_bk rfl (by decide))
      replace hY_this := y_ext hx_ hI.1 hY_this
      replace hY_bk := y_ext hx_ hI.1 hY_bk
      replace hY_se := y_ext hx_ hI.1 hY_se
      replace hY_lw := y_ext hx_ hI.1 hY_lw
      replace hY_fr := y_ext hx_ hI.1 hY_fr
      obtain rfl := y_ansV rfl ho hr
      obtain ⟨fs, hA_se, -⟩ := y_arr hIn.1 hY_se rfl rfl
      have hVs : ∀ i, i < (fb 0).toInt.toNat → fs i = (m_VR fb (fb 4) (fb 5)) i := fun i hi => z_intI (hA_se i (by omega)) (hPl1 i hi)
      obtain ⟨gl, hA_lw, hgl⟩ := hPl2
      obtain ⟨gl8, hA8, hB_lw⟩ := y_arr hIn.1 hY_lw rfl rfl
      replace hB_lw : ∀ j, j < 1024 → (0 : Int) ≤ (gl j).toInt ∧ (gl j).toInt ≤ 1 := fun j hj => by obtain ⟨x, e0, e1⟩ := hB_lw j hj; cases e0; rw [z_AR hA_lw hA8 hj]; exact e1
      clear hA8 gl8
      clear ho hr ha hE hP hI hx_
      rename x_I _ _ _ _ _ _ _ _ _ _ => hI
      refine lv_aload_n hx hb reX_d29 rfl (lv_at hl 0 rfl) ?_
      refine y_getf X (fl200 X.2.2.2.2.1) hI.1 hY_this rfl hs_lw reX_d30 ?_
      refine lv_iload_n hx hb reX_d33 rfl (lv_at hl 1 rfl) ?_
      refine y_zald X hI.1 hY_lw rfl hA_lw (by omega) (by show _ < (1024 : Int); omega) reX_d34 ?_
      obtain ⟨e34, hg_e34⟩ : ∃ e34 : Int32, gl a.toInt.toNat = e34 := ⟨_, rfl⟩
      rw [hg_e34]
      have h_e34 : (0 : Int) ≤ e34.toInt ∧ e34.toInt ≤ 1 := by rw [← hg_e34]; exact hB_lw _ (by omega)
      refine lv_if_ne hx hb reX_d35 (tgt := 43) (by decide) (fun q35 => ?_) (fun q35 => ?_)
      · have q35_ : ¬ e34.toInt = (0 : Int32).toInt := fun q => q35 (Int32.toInt_inj.mp q)
        have hla := (show (m_LR (m_VR fb (fb 4) (fb 5)) (fb 0).toInt.toNat) a.toInt.toNat = true by rw [← hgl _ (by omega)]; unfold m_gl; rw [hg_e34]; have h8 : ¬ e34 = 0 := (by assumption); rw [decide_eq_false h8]; rfl)
        refine lv_aload_n hx hb reX_d43 rfl (lv_at hl 0 rfl) ?_
        refine lv_iload_n hx hb reX_d44 rfl (lv_at hl 1 rfl) ?_
        refine y_call (z := (0, 263, 2, some 17, xMsp)) (av := [.ref this, .int a]) (rest := []) (y_cokV (n := 1) (ci := 12) X ym_spreads2 rfl rfl rfl (x_cons (x_bw81 13 rfl rfl) (x_cons (x_bw81 15 rfl rfl) (x_cons (x_at 56 (by decide +kernel) rfl) (x_cons (x_bw0 9 rfl rfl) x_nilm)))) (x_bw82 0 rfl rfl) (by decide +kernel) ⟨Nat.le_of_ble_eq_true rfl, Nat.le_of_ble_eq_true rfl⟩) hY0 hI rfl reX_d45 hl.1 (Nat.le_of_ble_eq_true rfl) (Nat.le_of_ble_eq_true rfl) (Nat.le_of_ble_eq_true rfl) (y_cons (y_cref hY_this rfl) (y_cons ⟨_, rfl, by show (0 : Int) ≤ _; omega, by show _ ≤ (1023 : Int); omega⟩ y_nil)) rfl (y_recv rfl hY_this) (fun t' l' b' m' g' c' h1 h2 h3 h4 h5 => by cases h1; cases h2.symm.trans hs_bk; cases h4.symm.trans hs_lw; rw [z_AR h3 hA_bk (show 0 < 160 by decide), z_AR h5 hA_lw (show a.toInt.toNat < 1024 by omega)]; exact ⟨by omega, by rw [hg_e34]; assumption⟩) (y_sub_ef rfl) fun v Yn o Hn L ho hr ha hIn hx_ hE hP => ?_
        have hPs2 := hP _ _ _ _ _ _ _ rfl hs_bk hA_bk hs_lw hA_lw hs_fr
        replace hs_bk := y_Efld hE hY_this rfl (by decide) (by decide) hs_bk
        replace hs_se := y_Efld hE hY_this rfl (by decide) (by decide) hs_se
        replace hs_lw := y_Efld hE hY_this rfl (by decide) (by decide) hs_lw
        replace hs_fr := y_Efld hE hY_this rfl (by decide) (by decide) hs_fr
        replace hA_bk := hA_bk.kept (y_Earr hE hY_bk rfl (by decide))
        replace hA_se := hA_se.kept (y_Earr hE hY_se rfl (by decide))
        replace hA_lw := hA_lw.kept (y_Earr hE hY_lw rfl (by decide))
        replace hY_this := y_ext hx_ hI.1 hY_this
        replace hY_bk := y_ext hx_ hI.1 hY_bk
        replace hY_se := y_ext hx_ hI.1 hY_se
        replace hY_lw := y_ext hx_ hI.1 hY_lw
        replace hY_fr := y_ext hx_ hI.1 hY_fr
        obtain rfl := y_ansV rfl ho hr
        obtain ⟨ff, hA_fr, hD0⟩ := hPs2
        rw [hNB] at hD0
        have hD : m_D (m_LR (m_VR fb (fb 4) (fb 5)) (fb 0).toInt.toNat) (2 ^ (fb 0).toInt.toNat) a.toInt.toNat ff := hD0.congrL hgl
        clear ho hr ha hE hP hI hx_
        rename x_I _ _ _ _ _ _ _ _ _ _ => hI
        refine lv_iconst hx hb reX_d48 (v := 0) (by decide) ?_
        refine lv_istore_n hx hb reX_d49 rfl hl (by decide) (lv' := [(3, .int (0 : Int32)), (0, .ref this), (1, .int a), (2, .int nq)]) rfl fun ls hl => ?_
        refine lv_iconst hx hb reX_d50 (v := 0) (by decide) ?_
        refine lv_istore hx hb reX_d51 hl (by decide) (lv' := [(4, .int (0 : Int32)), (3, .int (0 : Int32)), (0, .ref this), (1, .int a), (2, .int nq)]) rfl fun ls hl => ?_
        exact reX_L53 B rfl hs0 hA0 hcn hd0 hok hD hla 1026 _ _ _ _ _ _ hI hY_this hY_bk hY_lw hY_fr hs_bk hs_lw hs_fr hA_bk hA_lw hA_fr (lv_sub hl [0, 1, 2, 3, 4] rfl) (by first | assumption | omega) rfl (by omega)
      · have q35_ : e34.toInt = (0 : Int32).toInt := by rw [q35]
        have hla := (show (m_LR (m_VR fb (fb 4) (fb 5)) (fb 0).toInt.toNat) a.toInt.toNat = false by rw [← hgl _ (by omega)]; unfold m_gl; rw [hg_e34]; have h8 : e34 = 0 := (by assumption); rw [decide_eq_true h8]; rfl)
        refine lv_aload_n hx hb reX_d38 rfl (lv_at hl 0 rfl) ?_
        refine y_call (z := (0, 126, 1, some 17, xM164)) (av := [.ref this]) (rest := []) (y_cokV (n := 0) (ci := 12) X ym_no rfl rfl rfl (x_cons (x_bw70 11 rfl rfl) (x_cons (x_bw70 13 rfl rfl) (x_cons (x_at 38 (by decide +kernel) rfl) (x_cons (x_bw0 9 rfl rfl) x_nilm)))) (x_bw70 14 rfl rfl) (by decide +kernel) ⟨Nat.le_of_ble_eq_true rfl, Nat.le_of_ble_eq_true rfl⟩) hY0 hI rfl reX_d39 hl.1 (Nat.le_of_ble_eq_true rfl) (Nat.le_of_ble_eq_true rfl) (Nat.le_of_ble_eq_true rfl) (y_cons (y_cref hY_this rfl) y_nil) rfl (y_recv rfl hY_this) trivial (y_sub_ef rfl) fun v Yn o Hn L ho hr ha hIn hx_ hE hP => ?_
        replace hs_bk := y_Efld hE hY_this rfl (by decide) (by decide) hs_bk
        replace hs_se := y_Efld hE hY_this rfl (by decide) (by decide) hs_se
        replace hs_lw := y_Efld hE hY_this rfl (by decide) (by decide) hs_lw
        replace hs_fr := y_Efld hE hY_this rfl (by decide) (by decide) hs_fr
        replace hA_bk := hA_bk.kept (y_Earr hE hY_bk rfl (by decide))
        replace hA_se := hA_se.kept (y_Earr hE hY_se rfl (by decide))
        replace hA_lw := hA_lw.kept (y_Earr hE hY_lw rfl (by decide))
        replace hY_this := y_ext hx_ hI.1 hY_this
        replace hY_bk := y_ext hx_ hI.1 hY_bk
        replace hY_se := y_ext hx_ hI.1 hY_se
        replace hY_lw := y_ext hx_ hI.1 hY_lw
        replace hY_fr := y_ext hx_ hI.1 hY_fr
        have hPb := hP
        obtain rfl := hPb
        clear ho hr ha hE hP hI hx_
        rename x_I _ _ _ _ _ _ _ _ _ _ => hI
        exact y_ireturn B hI rfl rfl rfl List.mem_cons_self ⟨_, rfl, ⟨_, rfl, x_i32 _⟩⟩ (x_cs.mono B.2.2.2.2.2 (y_mon B hI)) (fun t' b' w0' w1' f' h1 h2 h3 h4 => by cases h1; cases h2.symm.trans hs0; cases z_uniq h4 hA0 h3 hcn; exact ⟨_, rfl, fun _ q9 => (by rw [hla] at q9; cases q9), fun _ _ => rfl, fun q9 => absurd hok q9⟩) (Nat.le_refl _) (Nat.le_refl _) reX_d42
    · have q17_ : r14.toInt = (0 : Int32).toInt := by rw [q17]
      have hno : ¬ (m_isS fb a ∧ 0 ≤ nq.toInt ∧ nq.toInt ≤ 99) := fun q9 => by first | (have h8 := hout_r2 (by assumption); have h7 := q9.1; unfold m_isS at h7; omega) | (have h8 := hout_r14 (by assumption); omega)
      refine lv_aload_n hx hb reX_d20 rfl (lv_at hl 0 rfl) ?_
      refine y_call (z := (0, 102, 1, some 17, xM143)) (av := [.ref this]) (rest := []) (y_cokV (n := 0) (ci := 12) X ym_bad rfl rfl rfl (x_cons (x_bw68 3 rfl rfl) (x_cons (x_bw68 5 rfl rfl) (x_cons (x_at 32 (by decide +kernel) rfl) (x_cons (x_bw0 9 rfl rfl) x_nilm)))) (x_bw68 6 rfl rfl) (by decide +kernel) ⟨Nat.le_of_ble_eq_true rfl, Nat.le_of_ble_eq_true rfl⟩) hY0 hI rfl reX_d21 hl.1 (Nat.le_of_ble_eq_true rfl) (Nat.le_of_ble_eq_true rfl) (Nat.le_of_ble_eq_true rfl) (y_cons (y_cref hY_this rfl) y_nil) rfl (y_recv rfl hY_this) trivial (y_sub_ef rfl) fun v Yn o Hn L ho hr ha hIn hx_ hE hP => ?_
      replace hs_bk := y_Efld hE hY_this rfl (by decide) (by decide) hs_bk
      replace hs_se := y_Efld hE hY_this rfl (by decide) (by decide) hs_se
      replace hs_lw := y_Efld hE hY_this rfl (by decide) (by decide) hs_lw
      replace hs_fr := y_Efld hE hY_this rfl (by decide) (by decide) hs_fr
      replace hA_bk := hA_bk.kept (y_Earr hE hY_bk rfl (by decide))
      replace hY_this := y_ext hx_ hI.1 hY_this
      replace hY_bk := y_ext hx_ hI.1 hY_bk
      replace hY_se := y_ext hx_ hI.1 hY_se
      replace hY_lw := y_ext hx_ hI.1 hY_lw
      replace hY_fr := y_ext hx_ hI.1 hY_fr
      have hPb := hP
      obtain rfl := hPb
      clear ho hr ha hE hP hI hx_
      rename x_I _ _ _ _ _ _ _ _ _ _ => hI
      exact y_ireturn B hI rfl rfl rfl List.mem_cons_self ⟨_, rfl, ⟨_, rfl, x_i32 _⟩⟩ (x_cs.mono B.2.2.2.2.2 (y_mon B hI)) (fun t' b' w0' w1' f' h1 h2 h3 h4 => by cases h1; cases h2.symm.trans hs0; cases z_uniq h4 hA0 h3 hcn; exact ⟨_, rfl, fun q9 => absurd q9 hno, fun q9 => absurd q9 hno, fun _ => rfl⟩) (Nat.le_refl _) (Nat.le_refl _) reX_d24
