/-! A ROW of the reference -/
theorem m_gl_b {x : Bool} : (!(decide (m_b x = 0))) = x := by cases x <;> decide
def z_Plws : yP := fun D av _ H v _ H' => ∀ (this bk : Nat)  (f : Nat → Int32), av = [.ref this] → x_sl D 12 0 this H = some (.ref bk) → z_c f → y_A bk 160 H f → (∀ (se : Nat), x_sl D 12 8 this H = some (.ref se) → ∀ i, i < (f 0).toInt.toNat → y_at se i H' = some (.int ((m_VR f (f 4) (f 5)) i))) ∧ (∀ lw : Nat, x_sl D 12 18 this H = some (.ref lw) → ∃ gl : Nat → Int32, y_A lw 1024 H' gl ∧ ∀ s9, s9 < (2 ^ (f 0).toInt.toNat) → m_gl gl s9 = (m_LR (m_VR f (f 4) (f 5)) (f 0).toInt.toNat) s9)
theorem lsX_d0 : decode xM204.2.1 0 = .ok (.aload_n 0, 1) := dz_ok (by decide +kernel)
theorem lsX_d1 : decode xM204.2.1 1 = .ok (.invokevirtual 240, 3) := dz_ok (by decide +kernel)
theorem lsX_d4 : decode xM204.2.1 4 = .ok (.iconst 0, 1) := dz_ok (by decide +kernel)
theorem lsX_d5 : decode xM204.2.1 5 = .ok (.istore_n 1, 1) := dz_ok (by decide +kernel)
theorem lsX_d6 : decode xM204.2.1 6 = .ok (.iload_n 1, 1) := dz_ok (by decide +kernel)
theorem lsX_d7 : decode xM204.2.1 7 = .ok (.aload_n 0, 1) := dz_ok (by decide +kernel)
theorem lsX_d8 : decode xM204.2.1 8 = .ok (.invokevirtual 91, 3) := dz_ok (by decide +kernel)
theorem lsX_d11 : decode xM204.2.1 11 = .ok (.if_icmp .gt 20, 3) := dz_ok (by decide +kernel)
theorem lsX_d14 : decode xM204.2.1 14 = .ok (.aload_n 0, 1) := dz_ok (by decide +kernel)
theorem lsX_d15 : decode xM204.2.1 15 = .ok (.getfield 38, 3) := dz_ok (by decide +kernel)
theorem lsX_d18 : decode xM204.2.1 18 = .ok (.iload_n 1, 1) := dz_ok (by decide +kernel)
theorem lsX_d19 : decode xM204.2.1 19 = .ok (.aload_n 0, 1) := dz_ok (by decide +kernel)
theorem lsX_d20 : decode xM204.2.1 20 = .ok (.iload_n 1, 1) := dz_ok (by decide +kernel)
theorem lsX_d21 : decode xM204.2.1 21 = .ok (.invokevirtual 243, 3) := dz_ok (by decide +kernel)
theorem lsX_d24 : decode xM204.2.1 24 = .ok (.bastore, 1) := dz_ok (by decide +kernel)
theorem lsX_d25 : decode xM204.2.1 25 = .ok (.iinc 1 1, 3) := dz_ok (by decide +kernel)
theorem lsX_d28 : decode xM204.2.1 28 = .ok (.goto (-22), 3) := dz_ok (by decide +kernel)
theorem lsX_d31 : decode xM204.2.1 31 = .ok (.return_, 1) := dz_ok (by decide +kernel)
theorem lsX_L6 {p : Program} {l : Launch} {e : Env} {s : State} {m : MethodId} {below : List Frame} {meth : Method} {c : Code} {D : va_G} {U : State} {Y0 : xY} {av : List Value} (B : y_B vwCl x_Tb x_Nb xM204 p s m meth c D U Y0 av) {this bk se lw : Nat} {fb : Nat → Int32} (hav : av = [.ref this]) (hs0 : x_sl D 12 0 this s.heap = some (.ref bk)) (hA0 : y_A bk 160 s.heap fb) (hcn : z_c fb) (hd0 : 0 ≤ (fb 0).toInt ∧ (fb 0).toInt ≤ 10) (hs8 : x_sl D 12 8 this s.heap = some (.ref se)) (hl8 : x_sl D 12 18 this s.heap = some (.ref lw))  :
    ∀ (n : Nat), ∀ (H : Heap) (Y : xY) (locs : List Loc) (ls : Array Slot) (k : Int32) (fs gl : Nat → Int32), x_I D x_G x_Zs U (x_efs xM204) Y0 s.heap Y H locs → Y this = some 17 → Y bk = some 46 → Y se = some 51 → Y lw = some 55 → x_sl D 12 0 this H = some (.ref bk) → x_sl D 12 8 this H = some (.ref se) → x_sl D 12 18 this H = some (.ref lw) → y_A bk 160 H fb → y_A se 10 H fs → y_A lw 1024 H gl → lv_has ls xM204.2.2.1 [(1, .int k), (0, .ref this)] → (∀ j, j < 1024 → (0 : Int) ≤ (gl j).toInt ∧ (gl j).toInt ≤ 1) → (0 ≤ k.toInt ∧ k.toInt ≤ (z_all (fb 0)).toInt + 1) → (∀ i, i < (fb 0).toInt.toNat → fs i = (m_VR fb (fb 4) (fb 5)) i) → (∀ s9 : Nat, (s9 : Int) < k.toInt → m_gl gl s9 = (m_LR (m_VR fb (fb 4) (fb 5)) (fb 0).toInt.toNat) s9) → (1025 - k.toInt).toNat < n → W p l e (x_rm xM204) s m av.toArray below meth c H locs 0 0 (y_QQ below D x_G x_Zs U xM204 z_Plws av Y0 s) (F0 m 6 ls []) := by
  have X := B.1
  have hx := X.1
  have hb := X.2.1
  have hY0 := B.2.2.2.2.1
  intro n
  induction n with
  | zero => intro _ _ _ _ _ _ _ _ _ _ _ _ _ _ _ _ _ _ _ _ _ _ _ h; exact absurd h (Nat.not_lt_zero _)
  | succ n ih =>
    intro H Y locs ls k fs gl hI hY_this hY_bk hY_se hY_lw hs_bk hs_se hs_lw hA_bk hA_se hA_lw hl hB_lw hk hVs hgl hn
    have hz9 := z_all_p hd0
    have hpw : (2 ^ (fb 0).toInt.toNat) ≤ 1024 := Nat.pow_le_pow_right (n := 2) (by decide) (show (fb 0).toInt.toNat ≤ 10 by omega)
    refine lv_iload_n hx hb lsX_d6 rfl (lv_at hl 0 rfl) ?_
    refine lv_aload_n hx hb lsX_d7 rfl (lv_at hl 1 rfl) ?_
    refine y_call (z := (0, 91, 1, some 17, xM182)) (av := [.ref this]) (rest := [.int k]) (y_cokV (n := 0) (ci := 12) X ym_all rfl rfl rfl (x_cons (x_bw77 4 rfl rfl) (x_cons (x_bw77 6 rfl rfl) (x_cons (x_at 49 (by decide +kernel) rfl) (x_cons (x_bw0 9 rfl rfl) x_nilm)))) (x_bw77 7 rfl rfl) (by decide +kernel) ⟨Nat.le_of_ble_eq_true rfl, Nat.le_of_ble_eq_true rfl⟩) hY0 hI rfl lsX_d8 hl.1 (Nat.le_of_ble_eq_true rfl) (Nat.le_of_ble_eq_true rfl) (Nat.le_of_ble_eq_true rfl) (y_cons (y_cref hY_this rfl) y_nil) rfl (y_recv rfl hY_this) trivial (y_sub_ef rfl) fun v Yn o Hn L ho hr ha hIn hx_ hE hP => ?_
    have hPv := hP _ _ _ rfl hs_bk (hA_bk 0 (by decide))
    replace hs_bk := y_Efld hE hY_this rfl (by decide) (by decide) hs_bk
    replace hs_se := y_Efld hE hY_this rfl (by decide) (by decide) hs_se
    replace hs_lw := y_Efld hE hY_this rfl (by decide) (by decide) hs_lw
    replace hA_bk := hA_bk.kept (y_Earr hE hY_bk rfl (by decide))
    replace hA_se := hA_se.kept (y_Earr hE hY_se rfl (by decide))
    replace hA_lw := hA_lw.kept (y_Earr hE hY_lw rfl (by decide))
    replace hY_this := y_ext hx_ hI.1 hY_this
    replace hY_bk := y_ext hx_ hI.1 hY_bk
    replace hY_se := y_ext hx_ hI.1 hY_se
    replace hY_lw := y_ext hx_ hI.1 hY_lw
    obtain rfl := hPv
    clear ho hr ha hE hP hI hx_
    rename x_I _ _ _ _ _ _ _ _ _ _ => hI
    refine lv_icmp_gt hx hb lsX_d11 (tgt := 31) (by decide) (fun q11 => ?_) (fun q11 => ?_)
    · have q11_ : (z_all (fb 0)).toInt < k.toInt := x_lt32.mp q11
      have hgl9 : ∀ s9, s9 < (2 ^ (fb 0).toInt.toNat) → m_gl gl s9 = (m_LR (m_VR fb (fb 4) (fb 5)) (fb 0).toInt.toNat) s9 := fun s9 h9 => hgl s9 (by omega)
      subst hav
      exact y_return B hI rfl rfl List.mem_cons_self rfl (x_cs.mono B.2.2.2.2.2 (y_mon B hI)) (fun t' b'  f' h1 h2 h3 h4 => by cases h1; cases h2.symm.trans hs0; cases z_uniq h4 hA0 h3 hcn; exact ⟨fun se' h5 i hi => by cases h5.symm.trans hs8; rw [hA_se i (by omega), hVs i hi], fun lw' h5 => by cases h5.symm.trans hl8; exact ⟨gl, hA_lw, hgl9⟩⟩) (Nat.le_refl _) (Nat.le_refl _) lsX_d31
    · have q11_ : k.toInt ≤ (z_all (fb 0)).toInt := Int.not_lt.mp fun q => q11 (x_lt32.mpr q)
      refine lv_aload_n hx hb lsX_d14 rfl (lv_at hl 1 rfl) ?_
      refine y_getf X (fl200 X.2.2.2.2.1) hI.1 hY_this rfl hs_lw lsX_d15 ?_
      refine lv_iload_n hx hb lsX_d18 rfl (lv_at hl 0 rfl) ?_
      refine lv_aload_n hx hb lsX_d19 rfl (lv_at hl 1 rfl) ?_
      refine lv_iload_n hx hb lsX_d20 rfl (lv_at hl 0 rfl) ?_
      refine y_call (z := (0, 243, 2, some 17, xM191)) (av := [.ref this, .int k]) (rest := [.int k, .ref lw]) (y_cokV (n := 1) (ci := 12) X ym_isLawfulX rfl rfl rfl (x_cons (x_bw78 11 rfl rfl) (x_cons (x_bw78 13 rfl rfl) (x_cons (x_at 52 (by decide +kernel) rfl) (x_cons (x_bw0 9 rfl rfl) x_nilm)))) (x_bw78 14 rfl rfl) (by decide +kernel) ⟨Nat.le_of_ble_eq_true rfl, Nat.le_of_ble_eq_true rfl⟩) hY0 hI rfl lsX_d21 hl.1 (Nat.le_of_ble_eq_true rfl) (Nat.le_of_ble_eq_true rfl) (Nat.le_of_ble_eq_true rfl) (y_cons (y_cref hY_this rfl) (y_cons ⟨_, rfl, x_i32 _⟩ y_nil)) rfl (y_recv rfl hY_this) trivial (y_sub_ef rfl) fun v Yn o Hn L ho hr ha hIn hx_ hE hP => ?_
      have hPs := hP _ _ _ _ rfl hs_bk hcn hA_bk _ (m_VR fb (fb 4) (fb 5)) hs_se (fun i hi => by rw [hA_se i (by omega), hVs i hi])
      obtain rfl := hPs
      replace hs_bk := y_Efld hE hY_this rfl (by decide) (by decide) hs_bk
      replace hs_se := y_Efld hE hY_this rfl (by decide) (by decide) hs_se
      replace hs_lw := y_Efld hE hY_this rfl (by decide) (by decide) hs_lw
      replace hA_bk := hA_bk.kept (y_Earr hE hY_bk rfl (by decide))
      replace hA_se := hA_se.kept (y_Earr hE hY_se rfl (by decide))
      replace hA_lw := hA_lw.kept (y_Earr hE hY_lw rfl (by decide))
      replace hY_this := y_ext hx_ hI.1 hY_this
      replace hY_bk := y_ext hx_ hI.1 hY_bk
      replace hY_se := y_ext hx_ hI.1 hY_se
      replace hY_lw := y_ext hx_ hI.1 hY_lw
      generalize hg_r21 : m_b (m_lw (m_VR fb (fb 4) (fb 5)) k (fb 0).toInt.toNat) = r21
      clear ho hr ha hE hP hI hx_
      rename x_I _ _ _ _ _ _ _ _ _ _ => hI
      have h_r21 : 0 ≤ r21.toInt ∧ r21.toInt ≤ 1 := by rw [← hg_r21]; unfold m_b; split <;> decide
      refine y_zast X hY0 hI hY_lw rfl hA_lw (by omega) (by show _ < (1024 : Int); omega) (y_01 (by omega) (by omega)) ⟨_, rfl, by show (0 : Int) ≤ _; omega, by show _ ≤ (1 : Int); omega⟩ (by decide +kernel) lsX_d24 fun H locs hI h_new ho => ?_
      replace hA_lw := h_new
      replace hB_lw := y_upb (i := k.toInt.toNat) (v := r21) hB_lw (by constructor <;> omega)
      generalize hf_f24 : y_up gl k.toInt.toNat r21 = f24 at hA_lw hB_lw
      replace hs_bk := y_slk hs_bk (ho _ (y_ne hY_this hY_lw rfl))
      replace hs_se := y_slk hs_se (ho _ (y_ne hY_this hY_lw rfl))
      replace hs_lw := y_slk hs_lw (ho _ (y_ne hY_this hY_lw rfl))
      replace hA_bk := hA_bk.kept (ho _ (y_ne hY_bk hY_lw rfl))
      replace hA_se := hA_se.kept (ho _ (y_ne hY_se hY_lw rfl))
      obtain ⟨z25, hg_z25⟩ : ∃ z25 : Int32, k + Int32.ofInt 1 = z25 := ⟨_, rfl⟩
      have h_z25 : z25.toInt = k.toInt + 1 := by rw [← hg_z25]; exact y_inc (by decide) (by omega) (by omega)
      refine lv_iinc hx hb lsX_d25 hl (k := 0) rfl hg_z25 (by decide) (lv' := [(1, .int z25), (0, .ref this)]) rfl fun ls hl => ?_
      refine lv_goto hx hb lsX_d28 (tgt := 6) (by decide) ?_
      exact ih _ _ _ _ _ _ _ hI hY_this hY_bk hY_se hY_lw hs_bk hs_se hs_lw hA_bk hA_se hA_lw (lv_sub hl [0, 1] rfl) (by first | assumption | omega) (by first | assumption | omega) (by first | assumption | omega) (fun s9 h9 => by by_cases e9 : s9 = k.toInt.toNat; (rw [e9]; unfold m_gl m_LR; rw [← hf_f24, y_up_at, ← hg_r21, m_nj hk.1]; exact m_gl_b); have h8 := hgl s9 (by omega); unfold m_gl at h8 ⊢; rw [← hf_f24, y_up_ne e9]; exact h8) (by omega)
theorem ym_lawsNow : y_Met vwCl x_G x_Zs x_Tb x_Nb xM204 y_T z_Plws := by
  refine y_main (by decide +kernel) (by decide +kernel) x_Tb_good x_Nb_ok ?_
  intro p l e s m below meth c D U Y0 av ls B hI _ hl
  have X := B.1
  have hx := X.1
  have hb := X.2.1
  have hY0 := B.2.2.2.2.1
  obtain ⟨v0, rfl, hv0⟩ := x_one B.2.2.2.2.2
  obtain ⟨this, t0, rfl, ht0, hY_this⟩ := x_ref_at hv0 rfl
  obtain rfl := List.mem_singleton.mp ht0
  replace hl : lv_has ls xM204.2.2.1 [(0, .ref this)] := hl
  obtain ⟨bk, hs_bk, hY_bk⟩ := y_fldR (k := 0) hI.1 hY_this rfl rfl
  obtain ⟨fb9, hA9, hB9⟩ := y_arr hI.1 hY_bk rfl rfl
  obtain ⟨fb, hcn, hA_bk, hB_bk⟩ := z_canon (Y := Y0) (P := fun j v => x_c Y0 ([xI 0 10, xI 0 8, xI 0 8].getD j xF) (.int v)) hA9 hB9
  clear hA9 hB9 fb9
  have hs0 := hs_bk
  have hA0 := hA_bk
  have hd := z_hdr hB_bk
  have hd0 := hd.1
  have hd1 := hd.2.1
  obtain ⟨se, hs_se, hY_se⟩ := y_fldR (k := 8) hI.1 hY_this rfl rfl
  obtain ⟨lw, hs_lw, hY_lw⟩ := y_fldR (k := 18) hI.1 hY_this rfl rfl
  obtain ⟨gl, hA_lw, hB_lw⟩ := y_arr hI.1 hY_lw rfl rfl
  replace hB_lw : ∀ j, j < 1024 → (0 : Int) ≤ (gl j).toInt ∧ (gl j).toInt ≤ 1 := fun j hj => by obtain ⟨x, e0, e1⟩ := hB_lw j hj; cases e0; exact e1
  have hs8 := hs_se
  have hl8 := hs_lw
  refine lv_aload_n hx hb lsX_d0 rfl (lv_at hl 0 rfl) ?_
  refine y_call (z := (0, 240, 1, some 17, xM186)) (av := [.ref this]) (rest := []) (y_cokV (n := 0) (ci := 12) X ym_looksNow rfl rfl rfl (x_cons (x_bw77 8 rfl rfl) (x_cons (x_bw77 10 rfl rfl) (x_cons (x_at 50 (by decide +kernel) rfl) (x_cons (x_bw0 9 rfl rfl) x_nilm)))) (x_bw77 11 rfl rfl) (by decide +kernel) ⟨Nat.le_of_ble_eq_true rfl, Nat.le_of_ble_eq_true rfl⟩) hY0 hI rfl lsX_d1 hl.1 (Nat.le_of_ble_eq_true rfl) (Nat.le_of_ble_eq_true rfl) (Nat.le_of_ble_eq_true rfl) (y_cons (y_cref hY_this rfl) y_nil) rfl (y_recv rfl hY_this) trivial (y_sub_ef rfl) fun v Yn o Hn L ho hr ha hIn hx_ hE hP => ?_
  have hPs := hP _ _ _ rfl hs_bk hcn hA_bk _ hs_se
  replace hs_bk := y_Efld hE hY_this rfl (by decide) (by decide) hs_bk
  replace hs_se := y_Efld hE hY_this rfl (by decide) (by decide) hs_se
  replace hs_lw := y_Efld hE hY_this rfl (by decide) (by decide) hs_lw
  replace hA_bk := hA_bk.kept (y_Earr hE hY_bk rfl (by decide))
  replace hA_lw := hA_lw.kept (y_Earr hE hY_lw rfl (by decide))
  replace hY_this := y_ext hx_ hI.1 hY_this
  replace hY_bk := y_ext hx_ hI.1 hY_bk
  replace hY_se := y_ext hx_ hI.1 hY_se
  replace hY_lw := y_ext hx_ hI.1 hY_lw
  obtain rfl := y_ansV rfl ho hr
  obtain ⟨fs, hA_se, -⟩ := y_arr hIn.1 hY_se rfl rfl
  have hVs : ∀ i, i < (fb 0).toInt.toNat → fs i = (m_VR fb (fb 4) (fb 5)) i := fun i hi => z_intI (hA_se i (by omega)) (hPs i hi)
  clear ho hr ha hE hP hI hx_
  rename x_I _ _ _ _ _ _ _ _ _ _ => hI
  refine lv_iconst hx hb lsX_d4 (v := 0) (by decide) ?_
  have ec0 : (0 : Int32).toInt = 0 := by decide
  refine lv_istore_n hx hb lsX_d5 rfl hl (by decide) (lv' := [(1, .int (0 : Int32)), (0, .ref this)]) rfl fun ls hl => ?_
  have hz9 := z_all_p hd0
  have hne9 : 0 < (2 ^ (fb 0).toInt.toNat) := Nat.pow_pos (by decide)
  exact lsX_L6 B rfl hs0 hA0 hcn hd0 hs8 hl8 1026 _ _ _ _ _ _ _ hI hY_this hY_bk hY_se hY_lw hs_bk hs_se hs_lw hA_bk hA_se hA_lw (lv_sub hl [0, 1] rfl) (by first | assumption | omega) (by first | assumption | omega) (by first | assumption | omega) (fun s9 h9 => absurd h9 (by omega)) (by omega)
def z_PMwo : yP := fun D av _ H v _ H' => ∀ (this bk : Nat) (a t nq : Int32) (f : Nat → Int32), av = [.ref this, .int a, .int t, .int nq] → x_sl D 12 0 this H = some (.ref bk) → z_c f → y_A bk 160 H f → ∃ r : Int32, v = some (.int r) ∧ m_worS (m_LR (m_VR f (f 4) (f 5)) (f 0).toInt.toNat) (2 ^ (f 0).toInt.toNat) (m_isS f a ∧ m_isH f t ∧ 0 ≤ nq.toInt ∧ nq.toInt ≤ 6) a nq (m_tw (m_VR f (f 4) (f 5)) t) r
theorem woX9_d0 : decode xM1014.2.1 0 = .ok (.aload_n 0, 1) := dz_ok (by decide +kernel)
theorem woX9_d1 : decode xM1014.2.1 1 = .ok (.iload_n 1, 1) := dz_ok (by decide +kernel)
theorem woX9_d2 : decode xM1014.2.1 2 = .ok (.invokevirtual 237, 3) := dz_ok (by decide +kernel)
theorem woX9_d5 : decode xM1014.2.1 5 = .ok (.ifCond .eq 23, 3) := dz_ok (by decide +kernel)
theorem woX9_d8 : decode xM1014.2.1 8 = .ok (.aload_n 0, 1) := dz_ok (by decide +kernel)
theorem woX9_d9 : decode xM1014.2.1 9 = .ok (.iload_n 2, 1) := dz_ok (by decide +kernel)
theorem woX9_d10 : decode xM1014.2.1 10 = .ok (.invokevirtual 151, 3) := dz_ok (by decide +kernel)
theorem woX9_d13 : decode xM1014.2.1 13 = .ok (.ifCond .eq 15, 3) := dz_ok (by decide +kernel)
theorem woX9_d16 : decode xM1014.2.1 16 = .ok (.iload_n 3, 1) := dz_ok (by decide +kernel)
theorem woX9_d17 : decode xM1014.2.1 17 = .ok (.i2l, 1) := dz_ok (by decide +kernel)
theorem woX9_d18 : decode xM1014.2.1 18 = .ok (.lconst 0, 1) := dz_ok (by decide +kernel)
theorem woX9_d19 : decode xM1014.2.1 19 = .ok (.ldc2_w 267, 3) := dz_ok (by decide +kernel)
theorem woX9_d22 : decode xM1014.2.1 22 = .ok (.invokestatic 87, 3) := dz_ok (by decide +kernel)
theorem woX9_d25 : decode xM1014.2.1 25 = .ok (.ifCond .ne 8, 3) := dz_ok (by decide +kernel)
theorem woX9_d28 : decode xM1014.2.1 28 = .ok (.aload_n 0, 1) := dz_ok (by decide +kernel)
theorem woX9_d29 : decode xM1014.2.1 29 = .ok (.invokevirtual 102, 3) := dz_ok (by decide +kernel)
theorem woX9_d32 : decode xM1014.2.1 32 = .ok (.ireturn, 1) := dz_ok (by decide +kernel)
theorem woX9_d33 : decode xM1014.2.1 33 = .ok (.aload_n 0, 1) := dz_ok (by decide +kernel)
theorem woX9_d34 : decode xM1014.2.1 34 = .ok (.invokevirtual 260, 3) := dz_ok (by decide +kernel)
theorem woX9_d37 : decode xM1014.2.1 37 = .ok (.aload_n 0, 1) := dz_ok (by decide +kernel)
theorem woX9_d38 : decode xM1014.2.1 38 = .ok (.getfield 38, 3) := dz_ok (by decide +kernel)
theorem woX9_d41 : decode xM1014.2.1 41 = .ok (.iload_n 1, 1) := dz_ok (by decide +kernel)
theorem woX9_d42 : decode xM1014.2.1 42 = .ok (.baload, 1) := dz_ok (by decide +kernel)
theorem woX9_d43 : decode xM1014.2.1 43 = .ok (.ifCond .ne 8, 3) := dz_ok (by decide +kernel)
theorem woX9_d46 : decode xM1014.2.1 46 = .ok (.aload_n 0, 1) := dz_ok (by decide +kernel)
theorem woX9_d47 : decode xM1014.2.1 47 = .ok (.invokevirtual 126, 3) := dz_ok (by decide +kernel)
theorem woX9_d50 : decode xM1014.2.1 50 = .ok (.ireturn, 1) := dz_ok (by decide +kernel)
theorem woX9_d51 : decode xM1014.2.1 51 = .ok (.aload_n 0, 1) := dz_ok (by decide +kernel)
theorem woX9_d52 : decode xM1014.2.1 52 = .ok (.iload_n 1, 1) := dz_ok (by decide +kernel)
theorem woX9_d53 : decode xM1014.2.1 53 = .ok (.invokevirtual 263, 3) := dz_ok (by decide +kernel)
theorem woX9_d56 : decode xM1014.2.1 56 = .ok (.iconst 0, 1) := dz_ok (by decide +kernel)
theorem woX9_d57 : decode xM1014.2.1 57 = .ok (.istore 4, 2) := dz_ok (by decide +kernel)
theorem woX9_d59 : decode xM1014.2.1 59 = .ok (.iload 4, 2) := dz_ok (by decide +kernel)
theorem woX9_d61 : decode xM1014.2.1 61 = .ok (.sipush 1024, 3) := dz_ok (by decide +kernel)
theorem woX9_d64 : decode xM1014.2.1 64 = .ok (.if_icmp .ge 17, 3) := dz_ok (by decide +kernel)
theorem woX9_d67 : decode xM1014.2.1 67 = .ok (.aload_n 0, 1) := dz_ok (by decide +kernel)
theorem woX9_d68 : decode xM1014.2.1 68 = .ok (.getfield 47, 3) := dz_ok (by decide +kernel)
theorem woX9_d71 : decode xM1014.2.1 71 = .ok (.iload 4, 2) := dz_ok (by decide +kernel)
theorem woX9_d73 : decode xM1014.2.1 73 = .ok (.iconst 0, 1) := dz_ok (by decide +kernel)
theorem woX9_d74 : decode xM1014.2.1 74 = .ok (.bastore, 1) := dz_ok (by decide +kernel)
theorem woX9_d75 : decode xM1014.2.1 75 = .ok (.iinc 4 1, 3) := dz_ok (by decide +kernel)
theorem woX9_d78 : decode xM1014.2.1 78 = .ok (.goto (-19), 3) := dz_ok (by decide +kernel)
theorem woX9_d81 : decode xM1014.2.1 81 = .ok (.iconst 0, 1) := dz_ok (by decide +kernel)
theorem woX9_d82 : decode xM1014.2.1 82 = .ok (.istore 4, 2) := dz_ok (by decide +kernel)
theorem woX9_d84 : decode xM1014.2.1 84 = .ok (.iload 4, 2) := dz_ok (by decide +kernel)
theorem woX9_d86 : decode xM1014.2.1 86 = .ok (.aload_n 0, 1) := dz_ok (by decide +kernel)
theorem woX9_d87 : decode xM1014.2.1 87 = .ok (.invokevirtual 91, 3) := dz_ok (by decide +kernel)
theorem woX9_d90 : decode xM1014.2.1 90 = .ok (.if_icmp .gt 45, 3) := dz_ok (by decide +kernel)
theorem woX9_d93 : decode xM1014.2.1 93 = .ok (.aload_n 0, 1) := dz_ok (by decide +kernel)
theorem woX9_d94 : decode xM1014.2.1 94 = .ok (.getfield 41, 3) := dz_ok (by decide +kernel)
theorem woX9_d97 : decode xM1014.2.1 97 = .ok (.iload 4, 2) := dz_ok (by decide +kernel)
theorem woX9_d99 : decode xM1014.2.1 99 = .ok (.iaload, 1) := dz_ok (by decide +kernel)
theorem woX9_d100 : decode xM1014.2.1 100 = .ok (.i2l, 1) := dz_ok (by decide +kernel)
theorem woX9_d101 : decode xM1014.2.1 101 = .ok (.lconst 0, 1) := dz_ok (by decide +kernel)
theorem woX9_d102 : decode xM1014.2.1 102 = .ok (.iload_n 3, 1) := dz_ok (by decide +kernel)
theorem woX9_d103 : decode xM1014.2.1 103 = .ok (.i2l, 1) := dz_ok (by decide +kernel)
theorem woX9_d104 : decode xM1014.2.1 104 = .ok (.invokestatic 87, 3) := dz_ok (by decide +kernel)
theorem woX9_d107 : decode xM1014.2.1 107 = .ok (.ifCond .eq 22, 3) := dz_ok (by decide +kernel)
theorem woX9_d110 : decode xM1014.2.1 110 = .ok (.aload_n 0, 1) := dz_ok (by decide +kernel)
theorem woX9_d111 : decode xM1014.2.1 111 = .ok (.getfield 47, 3) := dz_ok (by decide +kernel)
theorem woX9_d114 : decode xM1014.2.1 114 = .ok (.iload 4, 2) := dz_ok (by decide +kernel)
theorem woX9_d116 : decode xM1014.2.1 116 = .ok (.aload_n 0, 1) := dz_ok (by decide +kernel)
theorem woX9_d117 : decode xM1014.2.1 117 = .ok (.getfield 26, 3) := dz_ok (by decide +kernel)
theorem woX9_d120 : decode xM1014.2.1 120 = .ok (.iload_n 2, 1) := dz_ok (by decide +kernel)
theorem woX9_d121 : decode xM1014.2.1 121 = .ok (.iaload, 1) := dz_ok (by decide +kernel)
theorem woX9_d122 : decode xM1014.2.1 122 = .ok (.iconst 1, 1) := dz_ok (by decide +kernel)
theorem woX9_d123 : decode xM1014.2.1 123 = .ok (.iload_n 2, 1) := dz_ok (by decide +kernel)
theorem woX9_d124 : decode xM1014.2.1 124 = .ok (.ishl, 1) := dz_ok (by decide +kernel)
theorem woX9_d125 : decode xM1014.2.1 125 = .ok (.ior, 1) := dz_ok (by decide +kernel)
theorem woX9_d126 : decode xM1014.2.1 126 = .ok (.iand, 1) := dz_ok (by decide +kernel)
theorem woX9_d127 : decode xM1014.2.1 127 = .ok (.iconst 1, 1) := dz_ok (by decide +kernel)
theorem woX9_d128 : decode xM1014.2.1 128 = .ok (.bastore, 1) := dz_ok (by decide +kernel)
theorem woX9_d129 : decode xM1014.2.1 129 = .ok (.iinc 4 1, 3) := dz_ok (by decide +kernel)
theorem woX9_d132 : decode xM1014.2.1 132 = .ok (.goto (-48), 3) := dz_ok (by decide +kernel)
theorem woX9_d135 : decode xM1014.2.1 135 = .ok (.iconst 0, 1) := dz_ok (by decide +kernel)
theorem woX9_d136 : decode xM1014.2.1 136 = .ok (.istore 4, 2) := dz_ok (by decide +kernel)
theorem woX9_d138 : decode xM1014.2.1 138 = .ok (.iconst 0, 1) := dz_ok (by decide +kernel)
theorem woX9_d139 : decode xM1014.2.1 139 = .ok (.istore 5, 2) := dz_ok (by decide +kernel)
theorem woX9_d141 : decode xM1014.2.1 141 = .ok (.iload 5, 2) := dz_ok (by decide +kernel)
theorem woX9_d143 : decode xM1014.2.1 143 = .ok (.sipush 1024, 3) := dz_ok (by decide +kernel)
theorem woX9_d146 : decode xM1014.2.1 146 = .ok (.if_icmp .ge 29, 3) := dz_ok (by decide +kernel)
theorem woX9_d149 : decode xM1014.2.1 149 = .ok (.iload 4, 2) := dz_ok (by decide +kernel)
theorem woX9_d151 : decode xM1014.2.1 151 = .ok (.aload_n 0, 1) := dz_ok (by decide +kernel)
theorem woX9_d152 : decode xM1014.2.1 152 = .ok (.getfield 47, 3) := dz_ok (by decide +kernel)
theorem woX9_d155 : decode xM1014.2.1 155 = .ok (.iload 5, 2) := dz_ok (by decide +kernel)
theorem woX9_d157 : decode xM1014.2.1 157 = .ok (.baload, 1) := dz_ok (by decide +kernel)
theorem woX9_d158 : decode xM1014.2.1 158 = .ok (.ifCond .eq 7, 3) := dz_ok (by decide +kernel)
theorem woX9_d161 : decode xM1014.2.1 161 = .ok (.iconst 1, 1) := dz_ok (by decide +kernel)
theorem woX9_d162 : decode xM1014.2.1 162 = .ok (.goto 4, 3) := dz_ok (by decide +kernel)
theorem woX9_d165 : decode xM1014.2.1 165 = .ok (.iconst 0, 1) := dz_ok (by decide +kernel)
theorem woX9_d166 : decode xM1014.2.1 166 = .ok (.iadd, 1) := dz_ok (by decide +kernel)
theorem woX9_d167 : decode xM1014.2.1 167 = .ok (.istore 4, 2) := dz_ok (by decide +kernel)
theorem woX9_d169 : decode xM1014.2.1 169 = .ok (.iinc 5 1, 3) := dz_ok (by decide +kernel)
theorem woX9_d172 : decode xM1014.2.1 172 = .ok (.goto (-31), 3) := dz_ok (by decide +kernel)
theorem woX9_d175 : decode xM1014.2.1 175 = .ok (.iload 4, 2) := dz_ok (by decide +kernel)
theorem woX9_d177 : decode xM1014.2.1 177 = .ok (.ireturn, 1) := dz_ok (by decide +kernel)
theorem woX9_L141 {p : Program} {l : Launch} {e : Env} {s : State} {m : MethodId} {below : List Frame} {meth : Method} {c : Code} {D : va_G} {U : State} {Y0 : xY} {av : List Value} (B : y_B vwCl x_Tb x_Nb xM1014 p s m meth c D U Y0 av) {this bk fr se sn : Nat} {a t nq : Int32} {fb : Nat → Int32} (hav : av = [.ref this, .int a, .int t, .int nq]) (hs0 : x_sl D 12 0 this s.heap = some (.ref bk)) (hA0 : y_A bk 160 s.heap fb) (hcn : z_c fb) (hd0 : 0 ≤ (fb 0).toInt ∧ (fb 0).toInt ≤ 10) (hok : m_isS fb a ∧ m_isH fb t ∧ 0 ≤ nq.toInt ∧ nq.toInt ≤ 6) {ff fs : Nat → Int32} (hD : m_D (m_LR (m_VR fb (fb 4) (fb 5)) (fb 0).toInt.toNat) (2 ^ (fb 0).toInt.toNat) a.toInt.toNat ff) (hla : (m_LR (m_VR fb (fb 4) (fb 5)) (fb 0).toInt.toNat) a.toInt.toNat = true) (hVs : ∀ i, i < (fb 0).toInt.toNat → fs i = (m_VR fb (fb 4) (fb 5)) i) :
    ∀ (n : Nat), ∀ (H : Heap) (Y : xY) (locs : List Loc) (ls : Array Slot) (k : Int32) (al : Int32) (fn : Nat → Int32), x_I D x_G x_Zs U (x_efs xM1014) Y0 s.heap Y H locs → Y this = some 17 → Y bk = some 46 → Y fr = some 56 → Y se = some 51 → Y sn = some 58 → x_sl D 12 0 this H = some (.ref bk) → x_sl D 12 19 this H = some (.ref fr) → x_sl D 12 8 this H = some (.ref se) → x_sl D 12 21 this H = some (.ref sn) → y_A bk 160 H fb → y_A fr 1024 H ff → y_A se 10 H fs → y_A sn 1024 H fn → lv_has ls xM1014.2.2.1 [(5, .int k), (4, .int al), (0, .ref this), (1, .int a), (2, .int t), (3, .int nq)] → (∀ j, j < 1024 → (0 : Int) ≤ (fn j).toInt ∧ (fn j).toInt ≤ 1) → (0 ≤ k.toInt ∧ k.toInt ≤ 1024) → (∀ j, j < 1024 → fn j = m_fd (m_LR (m_VR fb (fb 4) (fb 5)) (fb 0).toInt.toNat) (m_snSt ff nq (m_tw (m_VR fb (fb 4) (fb 5)) t)) (fun _ => 0) (2 ^ (fb 0).toInt.toNat) j) → (al.toInt = (m_cn (m_nz fn) k.toInt.toNat : Nat)) → (1025 - k.toInt).toNat < n → W p l e (x_rm xM1014) s m av.toArray below meth c H locs 0 0 (y_QQ below D x_G x_Zs U xM1014 z_PMwo av Y0 s) (F0 m 141 ls []) := by
  have X := B.1
  have hx := X.1
  have hb := X.2.1
  have hY0 := B.2.2.2.2.1
  intro n
  induction n with
  | zero => intro _ _ _ _ _ _ _ _ _ _ _ _ _ _ _ _ _ _ _ _ _ _ _ _ _ _ h; exact absurd h (Nat.not_lt_zero _)
  | succ n ih =>
    intro H Y locs ls k al fn hI hY_this hY_bk hY_fr hY_se hY_sn hs_bk hs_fr hs_se hs_sn hA_bk hA_fr hA_se hA_sn hl hB_sn hk hsn hal hn
    have hz9 := z_all_p hd0
    have hpw : (2 ^ (fb 0).toInt.toNat) ≤ 1024 := Nat.pow_le_pow_right (n := 2) (by decide) (show (fb 0).toInt.toNat ≤ 10 by omega)
    have hh9 := hok.2.1
    unfold m_isH at hh9
    have hcb := m_cn_b (L := m_nz fn) (k := k.toInt.toNat)
    refine lv_iload hx hb woX9_d141 (lv_at hl 0 rfl) ?_
    refine lv_sipush hx hb woX9_d143 (v := 1024) (by decide) ?_
    have ec1024 : (1024 : Int32).toInt = 1024 := by decide
    refine lv_icmp_ge hx hb woX9_d146 (tgt := 175) (by decide) (fun q146 => ?_) (fun q146 => ?_)
    · have q146_ : (1024 : Int32).toInt ≤ k.toInt := x_le32.mp q146
      refine lv_iload hx hb woX9_d175 (lv_at hl 1 rfl) ?_
      have ek9 : k.toInt.toNat = 1024 := by omega
      rw [ek9] at hal
      have hal2 : al.toInt = (m_cn (m_nz (m_fd (m_LR (m_VR fb (fb 4) (fb 5)) (fb 0).toInt.toNat) (m_snSt ff nq (m_tw (m_VR fb (fb 4) (fb 5)) t)) (fun _ => 0) (2 ^ (fb 0).toInt.toNat))) 1024 : Nat) := hal.trans (congrArg (fun z : Nat => (z : Int)) (m_cn_congr _ fun j hj => by unfold m_nz; rw [hsn j hj]))
      subst hav
      exact y_ireturn B hI rfl rfl rfl List.mem_cons_self ⟨_, rfl, ⟨_, rfl, x_i32 _⟩⟩ (x_cs.mono B.2.2.2.2.2 (y_mon B hI)) (fun t' b' w0' w1' w2' f' h1 h2 h3 h4 => by cases h1; cases h2.symm.trans hs0; cases z_uniq h4 hA0 h3 hcn; exact ⟨_, rfl, fun _ _ => ⟨ff, hD, hal2⟩, fun _ q9 => (by rw [hla] at q9; cases q9), fun q9 => absurd hok q9⟩) (Nat.le_refl _) (Nat.le_refl _) woX9_d177
    · have q146_ : k.toInt < (1024 : Int32).toInt := Int.not_le.mp fun q => q146 (x_le32.mpr q)
      refine lv_iload hx hb woX9_d149 (lv_at hl 1 rfl) ?_
      refine lv_aload_n hx hb woX9_d151 rfl (lv_at hl 2 rfl) ?_
      refine y_getf X (fl212 X.2.2.2.2.1) hI.1 hY_this rfl hs_sn woX9_d152 ?_
      refine lv_iload hx hb woX9_d155 (lv_at hl 0 rfl) ?_
      refine y_zald X hI.1 hY_sn rfl hA_sn (by omega) (by show _ < (1024 : Int); omega) woX9_d157 ?_
      obtain ⟨e157, hg_e157⟩ : ∃ e157 : Int32, fn k.toInt.toNat = e157 := ⟨_, rfl⟩
      rw [hg_e157]
      have h_e157 : (0 : Int) ≤ e157.toInt ∧ e157.toInt ≤ 1 := by rw [← hg_e157]; exact hB_sn _ (by omega)
      have ec0 : (0 : Int32).toInt = 0 := by decide
      refine lv_if_eq hx hb woX9_d158 (tgt := 165) (by decide) (fun q158 => ?_) (fun q158 => ?_)
      · have q158_ : e157.toInt = (0 : Int32).toInt := by rw [q158]
        refine lv_iconst hx hb woX9_d165 (v := 0) (by decide) ?_
        refine lv_iadd hx hb woX9_d166 ?_
        generalize hg_z166 : al + (0 : Int32) = z166
        have h_z166 : z166.toInt = al.toInt + 0 := by rw [← hg_z166]; have := y_add (x := al) (y := (0 : Int32)) (by rw [ec0]; omega) (by rw [ec0]; omega); rw [ec0] at this; exact this
        refine lv_istore hx hb woX9_d167 hl (by decide) (lv' := [(4, .int z166), (5, .int k), (0, .ref this), (1, .int a), (2, .int t), (3, .int nq)]) rfl fun ls hl => ?_
        obtain ⟨z169, hg_z169⟩ : ∃ z169 : Int32, k + Int32.ofInt 1 = z169 := ⟨_, rfl⟩
        have h_z169 : z169.toInt = k.toInt + 1 := by rw [← hg_z169]; exact y_inc (by decide) (by omega) (by omega)
        refine lv_iinc hx hb woX9_d169 hl (k := 1) rfl hg_z169 (by decide) (lv' := [(5, .int z169), (4, .int z166), (0, .ref this), (1, .int a), (2, .int t), (3, .int nq)]) rfl fun ls hl => ?_
        refine lv_goto hx hb woX9_d172 (tgt := 141) (by decide) ?_
        have his : z169.toInt.toNat = k.toInt.toNat + 1 := by omega
        exact ih _ _ _ _ _ _ _ hI hY_this hY_bk hY_fr hY_se hY_sn hs_bk hs_fr hs_se hs_sn hA_bk hA_fr hA_se hA_sn (lv_sub hl [0, 1, 2, 3, 4, 5] rfl) (by first | assumption | omega) (by first | assumption | omega) (by first | assumption | omega) (by rw [his]; first | (rw [m_cn_T (show m_nz fn k.toInt.toNat = true by unfold m_nz; rw [hg_e157, decide_eq_false (show ¬ e157 = 0 by assumption)]; rfl)]; omega) | (rw [m_cn_F (show m_nz fn k.toInt.toNat = false by unfold m_nz; rw [hg_e157, decide_eq_true (show e157 = 0 by assumption)]; rfl)]; omega)) (by omega)
      · have q158_ : ¬ e157.toInt = (0 : Int32).toInt := fun q => q158 (Int32.toInt_inj.mp q)
        refine lv_iconst hx hb woX9_d161 (v := 1) (by decide) ?_
        have ec1 : (1 : Int32).toInt = 1 := by decide
        refine lv_goto hx hb woX9_d162 (tgt := 166) (by decide) ?_
        refine lv_iadd hx hb woX9_d166 ?_
        generalize hg_z166 : al + (1 : Int32) = z166
        have h_z166 : z166.toInt = al.toInt + 1 := by rw [← hg_z166]; have := y_add (x := al) (y := (1 : Int32)) (by rw [ec1]; omega) (by rw [ec1]; omega); rw [ec1] at this; exact this
        refine lv_istore hx hb woX9_d167 hl (by decide) (lv' := [(4, .int z166), (5, .int k), (0, .ref this), (1, .int a), (2, .int t), (3, .int nq)]) rfl fun ls hl => ?_
        obtain ⟨z169, hg_z169⟩ : ∃ z169 : Int32, k + Int32.ofInt 1 = z169 := ⟨_, rfl⟩
        have h_z169 : z169.toInt = k.toInt + 1 := by rw [← hg_z169]; exact y_inc (by decide) (by omega) (by omega)
        refine lv_iinc hx hb woX9_d169 hl (k := 1) rfl hg_z169 (by decide) (lv' := [(5, .int z169), (4, .int z166), (0, .ref this), (1, .int a), (2, .int t), (3, .int nq)]) rfl fun ls hl => ?_
        refine lv_goto hx hb woX9_d172 (tgt := 141) (by decide) ?_
        have his : z169.toInt.toNat = k.toInt.toNat + 1 := by omega
        exact ih _ _ _ _ _ _ _ hI hY_this hY_bk hY_fr hY_se hY_sn hs_bk hs_fr hs_se hs_sn hA_bk hA_fr hA_se hA_sn (lv_sub hl [0, 1, 2, 3, 4, 5] rfl) (by first | assumption | omega) (by first | assumption | omega) (by first | assumption | omega) (by rw [his]; first | (rw [m_cn_T (show m_nz fn k.toInt.toNat = true by unfold m_nz; rw [hg_e157, decide_eq_false (show ¬ e157 = 0 by assumption)]; rfl)]; omega) | (rw [m_cn_F (show m_nz fn k.toInt.toNat = false by unfold m_nz; rw [hg_e157, decide_eq_true (show e157 = 0 by assumption)]; rfl)]; omega)) (by omega)
theorem woX9_L84 {p : Program} {l : Launch} {e : Env} {s : State} {m : MethodId} {below : List Frame} {meth : Method} {c : Code} {D : va_G} {U : State} {Y0 : xY} {av : List Value} (B : y_B vwCl x_Tb x_Nb xM1014 p s m meth c D U Y0 av) {this bk fr se sn : Nat} {a t nq : Int32} {fb : Nat → Int32} (hav : av = [.ref this, .int a, .int t, .int nq]) (hs0 : x_sl D 12 0 this s.heap = some (.ref bk)) (hA0 : y_A bk 160 s.heap fb) (hcn : z_c fb) (hd0 : 0 ≤ (fb 0).toInt ∧ (fb 0).toInt ≤ 10) (hok : m_isS fb a ∧ m_isH fb t ∧ 0 ≤ nq.toInt ∧ nq.toInt ≤ 6) {ff fs : Nat → Int32} (hD : m_D (m_LR (m_VR fb (fb 4) (fb 5)) (fb 0).toInt.toNat) (2 ^ (fb 0).toInt.toNat) a.toInt.toNat ff) (hla : (m_LR (m_VR fb (fb 4) (fb 5)) (fb 0).toInt.toNat) a.toInt.toNat = true) (hVs : ∀ i, i < (fb 0).toInt.toNat → fs i = (m_VR fb (fb 4) (fb 5)) i) :
    ∀ (n : Nat), ∀ (H : Heap) (Y : xY) (locs : List Loc) (ls : Array Slot) (k : Int32) (fn : Nat → Int32), x_I D x_G x_Zs U (x_efs xM1014) Y0 s.heap Y H locs → Y this = some 17 → Y bk = some 46 → Y fr = some 56 → Y se = some 51 → Y sn = some 58 → x_sl D 12 0 this H = some (.ref bk) → x_sl D 12 19 this H = some (.ref fr) → x_sl D 12 8 this H = some (.ref se) → x_sl D 12 21 this H = some (.ref sn) → y_A bk 160 H fb → y_A fr 1024 H ff → y_A se 10 H fs → y_A sn 1024 H fn → lv_has ls xM1014.2.2.1 [(4, .int k), (0, .ref this), (1, .int a), (2, .int t), (3, .int nq)] → (∀ j, j < 1024 → (0 : Int) ≤ (fn j).toInt ∧ (fn j).toInt ≤ 1) → (0 ≤ k.toInt ∧ k.toInt ≤ (z_all (fb 0)).toInt + 1) → (∀ j, j < 1024 → fn j = m_fd (m_LR (m_VR fb (fb 4) (fb 5)) (fb 0).toInt.toNat) (m_snSt ff nq (m_tw (m_VR fb (fb 4) (fb 5)) t)) (fun _ => 0) k.toInt.toNat j) → (1025 - k.toInt).toNat < n → W p l e (x_rm xM1014) s m av.toArray below meth c H locs 0 0 (y_QQ below D x_G x_Zs U xM1014 z_PMwo av Y0 s) (F0 m 84 ls []) := by
  have X := B.1
  have hx := X.1
  have hb := X.2.1
  have hY0 := B.2.2.2.2.1
  intro n
  induction n with
  | zero => intro _ _ _ _ _ _ _ _ _ _ _ _ _ _ _ _ _ _ _ _ _ _ _ _ h; exact absurd h (Nat.not_lt_zero _)
  | succ n ih =>
    intro H Y locs ls k fn hI hY_this hY_bk hY_fr hY_se hY_sn hs_bk hs_fr hs_se hs_sn hA_bk hA_fr hA_se hA_sn hl hB_sn hk hsn hn
    have hz9 := z_all_p hd0
    have hpw : (2 ^ (fb 0).toInt.toNat) ≤ 1024 := Nat.pow_le_pow_right (n := 2) (by decide) (show (fb 0).toInt.toNat ≤ 10 by omega)
    have hh9 := hok.2.1
    unfold m_isH at hh9
    refine lv_iload hx hb woX9_d84 (lv_at hl 0 rfl) ?_
    refine lv_aload_n hx hb woX9_d86 rfl (lv_at hl 1 rfl) ?_
    refine y_call (z := (0, 91, 1, some 17, xM182)) (av := [.ref this]) (rest := [.int k]) (y_cokV (n := 0) (ci := 12) X ym_all rfl rfl rfl (x_cons (x_bw77 4 rfl rfl) (x_cons (x_bw77 6 rfl rfl) (x_cons (x_at 49 (by decide +kernel) rfl) (x_cons (x_bw0 9 rfl rfl) x_nilm)))) (x_bw77 7 rfl rfl) (by decide +kernel) ⟨Nat.le_of_ble_eq_true rfl, Nat.le_of_ble_eq_true rfl⟩) hY0 hI rfl woX9_d87 hl.1 (Nat.le_of_ble_eq_true rfl) (Nat.le_of_ble_eq_true rfl) (Nat.le_of_ble_eq_true rfl) (y_cons (y_cref hY_this rfl) y_nil) rfl (y_recv rfl hY_this) trivial (y_sub_ef rfl) fun v Yn o Hn L ho hr ha hIn hx_ hE hP => ?_
    have hPv := hP _ _ _ rfl hs_bk (hA_bk 0 (by decide))
    replace hs_bk := y_Efld hE hY_this rfl (by decide) (by decide) hs_bk
    replace hs_fr := y_Efld hE hY_this rfl (by decide) (by decide) hs_fr
    replace hs_se := y_Efld hE hY_this rfl (by decide) (by decide) hs_se
    replace hs_sn := y_Efld hE hY_this rfl (by decide) (by decide) hs_sn
    replace hA_bk := hA_bk.kept (y_Earr hE hY_bk rfl (by decide))
    replace hA_fr := hA_fr.kept (y_Earr hE hY_fr rfl (by decide))
    replace hA_se := hA_se.kept (y_Earr hE hY_se rfl (by decide))
    replace hA_sn := hA_sn.kept (y_Earr hE hY_sn rfl (by decide))
    replace hY_this := y_ext hx_ hI.1 hY_this
    replace hY_bk := y_ext hx_ hI.1 hY_bk
    replace hY_fr := y_ext hx_ hI.1 hY_fr
    replace hY_se := y_ext hx_ hI.1 hY_se
    replace hY_sn := y_ext hx_ hI.1 hY_sn
    obtain rfl := hPv
    clear ho hr ha hE hP hI hx_
    rename x_I _ _ _ _ _ _ _ _ _ _ => hI
    refine lv_icmp_gt hx hb woX9_d90 (tgt := 135) (by decide) (fun q90 => ?_) (fun q90 => ?_)
    · have q90_ : (z_all (fb 0)).toInt < k.toInt := x_lt32.mp q90
      refine lv_iconst hx hb woX9_d135 (v := 0) (by decide) ?_
      have ec0 : (0 : Int32).toInt = 0 := by decide
      refine lv_istore hx hb woX9_d136 hl (by decide) (lv' := [(4, .int (0 : Int32)), (0, .ref this), (1, .int a), (2, .int t), (3, .int nq)]) rfl fun ls hl => ?_
      refine lv_iconst hx hb woX9_d138 (v := 0) (by decide) ?_
      refine lv_istore hx hb woX9_d139 hl (by decide) (lv' := [(5, .int (0 : Int32)), (4, .int (0 : Int32)), (0, .ref this), (1, .int a), (2, .int t), (3, .int nq)]) rfl fun ls hl => ?_
      have ek9 : k.toInt.toNat = (2 ^ (fb 0).toInt.toNat) := by omega
      exact woX9_L141 B hav hs0 hA0 hcn hd0 hok hD hla hVs 1026 _ _ _ _ _ _ _ hI hY_this hY_bk hY_fr hY_se hY_sn hs_bk hs_fr hs_se hs_sn hA_bk hA_fr hA_se hA_sn (lv_sub hl [0, 1, 2, 3, 4, 5] rfl) (by first | assumption | omega) (by first | assumption | omega) (by rw [← ek9]; exact hsn) rfl (by omega)
    · have q90_ : k.toInt ≤ (z_all (fb 0)).toInt := Int.not_lt.mp fun q => q90 (x_lt32.mpr q)
      refine lv_aload_n hx hb woX9_d93 rfl (lv_at hl 1 rfl) ?_
      refine y_getf X (fl211 X.2.2.2.2.1) hI.1 hY_this rfl hs_fr woX9_d94 ?_
      refine lv_iload hx hb woX9_d97 (lv_at hl 0 rfl) ?_
      refine y_iald X hI.1 hY_fr rfl hA_fr (by omega) (by show _ < (1024 : Int); omega) woX9_d99 ?_
      obtain ⟨e99, hg_e99⟩ : ∃ e99 : Int32, ff k.toInt.toNat = e99 := ⟨_, rfl⟩
      rw [hg_e99]
      obtain ⟨z100, hg_z100⟩ : ∃ z100 : Int64, e99.toInt64 = z100 := ⟨_, rfl⟩
      have h_z100 : z100.toInt = (e99).toInt := by rw [← hg_z100]; exact Int32.toInt_toInt64 _
      refine lv_i2l hx hb woX9_d100 (v := z100) hg_z100 ?_
      refine lv_lconst hx hb woX9_d101 (v := 0) (by decide) ?_
      have el0 : (0 : Int64).toInt = 0 := by decide
      refine lv_iload_n hx hb woX9_d102 rfl (lv_at hl 4 rfl) ?_
      obtain ⟨z103, hg_z103⟩ : ∃ z103 : Int64, nq.toInt64 = z103 := ⟨_, rfl⟩
      have h_z103 : z103.toInt = (nq).toInt := by rw [← hg_z103]; exact Int32.toInt_toInt64 _
      refine lv_i2l hx hb woX9_d103 (v := z103) hg_z103 ?_
      refine y_call (z := (1, 87, 3, none, xM148)) (av := [.long z100, .long (0 : Int64), .long z103]) (rest := []) (y_cokS (n := 3) X ym_in (x_cons (x_bw67 11 rfl rfl) (x_cons (x_bw67 12 rfl rfl) (x_cons (x_bw0 9 rfl rfl) x_nilm))) (x_bw67 13 rfl rfl) (by decide +kernel) ⟨Nat.le_of_ble_eq_true rfl, Nat.le_of_ble_eq_true rfl⟩) hY0 hI rfl woX9_d104 hl.1 (Nat.le_of_ble_eq_true rfl) (Nat.le_of_ble_eq_true rfl) (Nat.le_of_ble_eq_true rfl) (y_cons ⟨_, rfl, x_i64 _⟩ (y_cons ⟨_, rfl, x_i64 _⟩ (y_cons ⟨_, rfl, x_i64 _⟩ y_nil))) rfl (y_norecv rfl) trivial (y_sub_ef rfl) fun v Yn o Hn L ho hr ha hIn hx_ hE hP => ?_
      replace hs_bk := y_Efld hE hY_this rfl (by decide) (by decide) hs_bk
      replace hs_fr := y_Efld hE hY_this rfl (by decide) (by decide) hs_fr
      replace hs_se := y_Efld hE hY_this rfl (by decide) (by decide) hs_se
      replace hs_sn := y_Efld hE hY_this rfl (by decide) (by decide) hs_sn
      replace hA_bk := hA_bk.kept (y_Earr hE hY_bk rfl (by decide))
      replace hA_fr := hA_fr.kept (y_Earr hE hY_fr rfl (by decide))
      replace hA_se := hA_se.kept (y_Earr hE hY_se rfl (by decide))
      replace hA_sn := hA_sn.kept (y_Earr hE hY_sn rfl (by decide))
      replace hY_this := y_ext hx_ hI.1 hY_this
      replace hY_bk := y_ext hx_ hI.1 hY_bk
      replace hY_fr := y_ext hx_ hI.1 hY_fr
      replace hY_se := y_ext hx_ hI.1 hY_se
      replace hY_sn := y_ext hx_ hI.1 hY_sn
      obtain ⟨r104, rfl, hin_r104, hout_r104⟩ := z_inR2 (hP _ _ _ rfl)
      clear ho hr ha hE hP hI hx_
      rename x_I _ _ _ _ _ _ _ _ _ _ => hI
      have ec0 : (0 : Int32).toInt = 0 := by decide
      refine lv_if_eq hx hb woX9_d107 (tgt := 129) (by decide) (fun q107 => ?_) (fun q107 => ?_)
      · have q107_ : r104.toInt = (0 : Int32).toInt := by rw [q107]
        obtain ⟨z129, hg_z129⟩ : ∃ z129 : Int32, k + Int32.ofInt 1 = z129 := ⟨_, rfl⟩
        have h_z129 : z129.toInt = k.toInt + 1 := by rw [← hg_z129]; exact y_inc (by decide) (by omega) (by omega)
        refine lv_iinc hx hb woX9_d129 hl (k := 0) rfl hg_z129 (by decide) (lv' := [(4, .int z129), (0, .ref this), (1, .int a), (2, .int t), (3, .int nq)]) rfl fun ls hl => ?_
        refine lv_goto hx hb woX9_d132 (tgt := 84) (by decide) ?_
        have his : z129.toInt.toNat = k.toInt.toNat + 1 := by omega
        have hx9 : (ff k.toInt.toNat).toInt = e99.toInt := by rw [hg_e99]
        have hw := hout_r104 (by assumption)
        exact ih _ _ _ _ _ _ hI hY_this hY_bk hY_fr hY_se hY_sn hs_bk hs_fr hs_se hs_sn hA_bk hA_fr hA_se hA_sn (lv_sub hl [0, 1, 2, 3, 4] rfl) (by first | assumption | omega) (by first | assumption | omega) (fun j hj => by
                              rw [his]
                              cases hL : (m_LR (m_VR fb (fb 4) (fb 5)) (fb 0).toInt.toNat) k.toInt.toNat with
                              | false => rw [m_fd_F hL]; exact hsn j hj
                              | true => rw [m_fd_T hL]; unfold m_snSt; rw [if_neg (by omega)]; exact hsn j hj) (by omega)
      · have q107_ : ¬ r104.toInt = (0 : Int32).toInt := fun q => q107 (Int32.toInt_inj.mp q)
        refine lv_aload_n hx hb woX9_d110 rfl (lv_at hl 1 rfl) ?_
        refine y_getf X (fl212 X.2.2.2.2.1) hI.1 hY_this rfl hs_sn woX9_d111 ?_
        refine lv_iload hx hb woX9_d114 (lv_at hl 0 rfl) ?_
        refine lv_aload_n hx hb woX9_d116 rfl (lv_at hl 1 rfl) ?_
        refine y_getf X (fl199 X.2.2.2.2.1) hI.1 hY_this rfl hs_se woX9_d117 ?_
        refine lv_iload_n hx hb woX9_d120 rfl (lv_at hl 3 rfl) ?_
        refine y_iald X hI.1 hY_se rfl hA_se (by omega) (by show _ < (10 : Int); omega) woX9_d121 ?_
        obtain ⟨e121, hg_e121⟩ : ∃ e121 : Int32, fs t.toInt.toNat = e121 := ⟨_, rfl⟩
        rw [hg_e121]
        refine lv_iconst hx hb woX9_d122 (v := 1) (by decide) ?_
        have ec1 : (1 : Int32).toInt = 1 := by decide
        refine lv_iload_n hx hb woX9_d123 rfl (lv_at hl 3 rfl) ?_
        refine lv_ishl hx hb woX9_d124 ?_
        generalize hg_z124 : (1 : Int32) <<< (t &&& 31) = z124
        refine lv_ior hx hb woX9_d125 ?_
        generalize hg_z125 : e121 ||| z124 = z125
        refine lv_iand hx hb woX9_d126 ?_
        generalize hg_z126 : k &&& z125 = z126
        have h_z126 : 0 ≤ z126.toInt ∧ z126.toInt ≤ 1023 := by have h9 := x_and1 (x := z125) (y := k) (by omega); rw [Int32.and_comm, hg_z126] at h9; omega
        refine lv_iconst hx hb woX9_d127 (v := 1) (by decide) ?_
        refine y_zast X hY0 hI hY_sn rfl hA_sn (by omega) (by show _ < (1024 : Int); omega) (y_01 (by omega) (by omega)) ⟨_, rfl, by show (0 : Int) ≤ _; omega, by show _ ≤ (1 : Int); omega⟩ (by decide +kernel) woX9_d128 fun H locs hI h_new ho => ?_
        replace hA_sn := h_new
        replace hB_sn := y_upb (i := z126.toInt.toNat) (v := (1 : Int32)) hB_sn (by constructor <;> omega)
        generalize hf_f128 : y_up fn z126.toInt.toNat (1 : Int32) = f128 at hA_sn hB_sn
        replace hs_bk := y_slk hs_bk (ho _ (y_ne hY_this hY_sn rfl))
        replace hs_fr := y_slk hs_fr (ho _ (y_ne hY_this hY_sn rfl))
        replace hs_se := y_slk hs_se (ho _ (y_ne hY_this hY_sn rfl))
        replace hs_sn := y_slk hs_sn (ho _ (y_ne hY_this hY_sn rfl))
        replace hA_bk := hA_bk.kept (ho _ (y_ne hY_bk hY_sn rfl))
        replace hA_fr := hA_fr.kept (ho _ (y_ne hY_fr hY_sn rfl))
        replace hA_se := hA_se.kept (ho _ (y_ne hY_se hY_sn rfl))
        obtain ⟨z129, hg_z129⟩ : ∃ z129 : Int32, k + Int32.ofInt 1 = z129 := ⟨_, rfl⟩
        have h_z129 : z129.toInt = k.toInt + 1 := by rw [← hg_z129]; exact y_inc (by decide) (by omega) (by omega)
        refine lv_iinc hx hb woX9_d129 hl (k := 0) rfl hg_z129 (by decide) (lv' := [(4, .int z129), (0, .ref this), (1, .int a), (2, .int t), (3, .int nq)]) rfl fun ls hl => ?_
        refine lv_goto hx hb woX9_d132 (tgt := 84) (by decide) ?_
        have his : z129.toInt.toNat = k.toInt.toNat + 1 := by omega
        have hx9 : (ff k.toInt.toNat).toInt = e99.toInt := by rw [hg_e99]
        have hw := hin_r104 (by assumption)
        have hL : (m_LR (m_VR fb (fb 4) (fb 5)) (fb 0).toInt.toNat) k.toInt.toNat = true := hD.1.lw (by omega) (by omega)
        have hix : z126 = nI k.toInt.toNat &&& (m_tw (m_VR fb (fb 4) (fb 5)) t) := by unfold m_tw; rw [m_nj hk.1, ← hVs _ (by omega), hg_e121, hg_z124, hg_z125]; exact (Eq.symm hg_z126)
        exact ih _ _ _ _ _ _ hI hY_this hY_bk hY_fr hY_se hY_sn hs_bk hs_fr hs_se hs_sn hA_bk hA_fr hA_se hA_sn (lv_sub hl [0, 1, 2, 3, 4] rfl) (by first | assumption | omega) (by first | assumption | omega) (fun j hj => by
                              rw [his, m_fd_T hL]
                              rw [show m_snSt ff nq (m_tw (m_VR fb (fb 4) (fb 5)) t) (m_fd (m_LR (m_VR fb (fb 4) (fb 5)) (fb 0).toInt.toNat) (m_snSt ff nq (m_tw (m_VR fb (fb 4) (fb 5)) t)) (fun _ => 0) k.toInt.toNat) k.toInt.toNat = y_up (m_fd (m_LR (m_VR fb (fb 4) (fb 5)) (fb 0).toInt.toNat) (m_snSt ff nq (m_tw (m_VR fb (fb 4) (fb 5)) t)) (fun _ => 0) k.toInt.toNat) (nI k.toInt.toNat &&& (m_tw (m_VR fb (fb 4) (fb 5)) t)).toInt.toNat 1 from if_pos (by omega), ← hix, ← hf_f128]
                              by_cases e9 : j = z126.toInt.toNat
                              · rw [e9, y_up_at, y_up_at]
                              · rw [y_up_ne e9, y_up_ne e9]; exact hsn j hj) (by omega)
theorem woX9_L59 {p : Program} {l : Launch} {e : Env} {s : State} {m : MethodId} {below : List Frame} {meth : Method} {c : Code} {D : va_G} {U : State} {Y0 : xY} {av : List Value} (B : y_B vwCl x_Tb x_Nb xM1014 p s m meth c D U Y0 av) {this bk fr se sn : Nat} {a t nq : Int32} {fb : Nat → Int32} (hav : av = [.ref this, .int a, .int t, .int nq]) (hs0 : x_sl D 12 0 this s.heap = some (.ref bk)) (hA0 : y_A bk 160 s.heap fb) (hcn : z_c fb) (hd0 : 0 ≤ (fb 0).toInt ∧ (fb 0).toInt ≤ 10) (hok : m_isS fb a ∧ m_isH fb t ∧ 0 ≤ nq.toInt ∧ nq.toInt ≤ 6) {ff fs : Nat → Int32} (hD : m_D (m_LR (m_VR fb (fb 4) (fb 5)) (fb 0).toInt.toNat) (2 ^ (fb 0).toInt.toNat) a.toInt.toNat ff) (hla : (m_LR (m_VR fb (fb 4) (fb 5)) (fb 0).toInt.toNat) a.toInt.toNat = true) (hVs : ∀ i, i < (fb 0).toInt.toNat → fs i = (m_VR fb (fb 4) (fb 5)) i) :
    ∀ (n : Nat), ∀ (H : Heap) (Y : xY) (locs : List Loc) (ls : Array Slot) (k : Int32) (fn : Nat → Int32), x_I D x_G x_Zs U (x_efs xM1014) Y0 s.heap Y H locs → Y this = some 17 → Y bk = some 46 → Y fr = some 56 → Y se = some 51 → Y sn = some 58 → x_sl D 12 0 this H = some (.ref bk) → x_sl D 12 19 this H = some (.ref fr) → x_sl D 12 8 this H = some (.ref se) → x_sl D 12 21 this H = some (.ref sn) → y_A bk 160 H fb → y_A fr 1024 H ff → y_A se 10 H fs → y_A sn 1024 H fn → lv_has ls xM1014.2.2.1 [(4, .int k), (0, .ref this), (1, .int a), (2, .int t), (3, .int nq)] → (∀ j, j < 1024 → (0 : Int) ≤ (fn j).toInt ∧ (fn j).toInt ≤ 1) → (0 ≤ k.toInt ∧ k.toInt ≤ 1024) → (∀ j : Nat, (j : Int) < k.toInt → fn j = 0) → (1025 - k.toInt).toNat < n → W p l e (x_rm xM1014) s m av.toArray below meth c H locs 0 0 (y_QQ below D x_G x_Zs U xM1014 z_PMwo av Y0 s) (F0 m 59 ls []) := by
  have X := B.1
  have hx := X.1
  have hb := X.2.1
  have hY0 := B.2.2.2.2.1
  intro n
  induction n with
  | zero => intro _ _ _ _ _ _ _ _ _ _ _ _ _ _ _ _ _ _ _ _ _ _ _ _ h; exact absurd h (Nat.not_lt_zero _)
  | succ n ih =>
    intro H Y locs ls k fn hI hY_this hY_bk hY_fr hY_se hY_sn hs_bk hs_fr hs_se hs_sn hA_bk hA_fr hA_se hA_sn hl hB_sn hk hz8 hn
    have hz9 := z_all_p hd0
    have hpw : (2 ^ (fb 0).toInt.toNat) ≤ 1024 := Nat.pow_le_pow_right (n := 2) (by decide) (show (fb 0).toInt.toNat ≤ 10 by omega)
    have hh9 := hok.2.1
    unfold m_isH at hh9
    refine lv_iload hx hb woX9_d59 (lv_at hl 0 rfl) ?_
    refine lv_sipush hx hb woX9_d61 (v := 1024) (by decide) ?_
    have ec1024 : (1024 : Int32).toInt = 1024 := by decide
    refine lv_icmp_ge hx hb woX9_d64 (tgt := 81) (by decide) (fun q64 => ?_) (fun q64 => ?_)
    · have q64_ : (1024 : Int32).toInt ≤ k.toInt := x_le32.mp q64
      refine lv_iconst hx hb woX9_d81 (v := 0) (by decide) ?_
      have ec0 : (0 : Int32).toInt = 0 := by decide
      refine lv_istore hx hb woX9_d82 hl (by decide) (lv' := [(4, .int (0 : Int32)), (0, .ref this), (1, .int a), (2, .int t), (3, .int nq)]) rfl fun ls hl => ?_
      have hne9 : 0 < (2 ^ (fb 0).toInt.toNat) := Nat.pow_pos (by decide)
      exact woX9_L84 B hav hs0 hA0 hcn hd0 hok hD hla hVs 1026 _ _ _ _ _ _ hI hY_this hY_bk hY_fr hY_se hY_sn hs_bk hs_fr hs_se hs_sn hA_bk hA_fr hA_se hA_sn (lv_sub hl [0, 1, 2, 3, 4] rfl) (by first | assumption | omega) (by first | assumption | omega) (fun j hj => hz8 j (by omega)) (by omega)
    · have q64_ : k.toInt < (1024 : Int32).toInt := Int.not_le.mp fun q => q64 (x_le32.mpr q)
      refine lv_aload_n hx hb woX9_d67 rfl (lv_at hl 1 rfl) ?_
      refine y_getf X (fl212 X.2.2.2.2.1) hI.1 hY_this rfl hs_sn woX9_d68 ?_
      refine lv_iload hx hb woX9_d71 (lv_at hl 0 rfl) ?_
      refine lv_iconst hx hb woX9_d73 (v := 0) (by decide) ?_
      have ec0 : (0 : Int32).toInt = 0 := by decide
      refine y_zast X hY0 hI hY_sn rfl hA_sn (by omega) (by show _ < (1024 : Int); omega) (y_01 (by omega) (by omega)) ⟨_, rfl, by show (0 : Int) ≤ _; omega, by show _ ≤ (1 : Int); omega⟩ (by decide +kernel) woX9_d74 fun H locs hI h_new ho => ?_
      replace hA_sn := h_new
      replace hB_sn := y_upb (i := k.toInt.toNat) (v := (0 : Int32)) hB_sn (by constructor <;> omega)
      generalize hf_f74 : y_up fn k.toInt.toNat (0 : Int32) = f74 at hA_sn hB_sn
      replace hs_bk := y_slk hs_bk (ho _ (y_ne hY_this hY_sn rfl))
      replace hs_fr := y_slk hs_fr (ho _ (y_ne hY_this hY_sn rfl))
      replace hs_se := y_slk hs_se (ho _ (y_ne hY_this hY_sn rfl))
      replace hs_sn := y_slk hs_sn (ho _ (y_ne hY_this hY_sn rfl))
      replace hA_bk := hA_bk.kept (ho _ (y_ne hY_bk hY_sn rfl))
      replace hA_fr := hA_fr.kept (ho _ (y_ne hY_fr hY_sn rfl))
      replace hA_se := hA_se.kept (ho _ (y_ne hY_se hY_sn rfl))
      obtain ⟨z75, hg_z75⟩ : ∃ z75 : Int32, k + Int32.ofInt 1 = z75 := ⟨_, rfl⟩
      have h_z75 : z75.toInt = k.toInt + 1 := by rw [← hg_z75]; exact y_inc (by decide) (by omega) (by omega)
      refine lv_iinc hx hb woX9_d75 hl (k := 0) rfl hg_z75 (by decide) (lv' := [(4, .int z75), (0, .ref this), (1, .int a), (2, .int t), (3, .int nq)]) rfl fun ls hl => ?_
      refine lv_goto hx hb woX9_d78 (tgt := 59) (by decide) ?_
      exact ih _ _ _ _ _ _ hI hY_this hY_bk hY_fr hY_se hY_sn hs_bk hs_fr hs_se hs_sn hA_bk hA_fr hA_se hA_sn (lv_sub hl [0, 1, 2, 3, 4] rfl) (by first | assumption | omega) (by first | assumption | omega) (fun j hj => by rw [← hf_f74]; by_cases e9 : j = k.toInt.toNat; (rw [e9, y_up_at]); rw [y_up_ne e9]; exact hz8 j (by omega)) (by omega)
theorem ym_wordsM : y_Met vwCl x_G x_Zs x_Tb x_Nb xM1014 y_T z_PMwo := by
  refine y_main (by decide +kernel) (by decide +kernel) x_Tb_good x_Nb_ok ?_
  intro p l e s m below meth c D U Y0 av ls B hI _ hl
  have X := B.1
  have hx := X.1
  have hb := X.2.1
  have hY0 := B.2.2.2.2.1
  obtain ⟨v0, v1, v2, v3, rfl, hv0, ⟨a, rfl, -⟩, ⟨t, rfl, -⟩, ⟨nq, rfl, -⟩⟩ := y_four B.2.2.2.2.2
  obtain ⟨this, t0, rfl, ht0, hY_this⟩ := x_ref_at hv0 rfl
  obtain rfl := List.mem_singleton.mp ht0
  replace hl : lv_has ls xM1014.2.2.1 [(0, .ref this), (1, .int a), (2, .int t), (3, .int nq)] := hl
  obtain ⟨bk, hs_bk, hY_bk⟩ := y_fldR (k := 0) hI.1 hY_this rfl rfl
  obtain ⟨fb9, hA9, hB9⟩ := y_arr hI.1 hY_bk rfl rfl
  obtain ⟨fb, hcn, hA_bk, hB_bk⟩ := z_canon (Y := Y0) (P := fun j v => x_c Y0 ([xI 0 10, xI 0 8, xI 0 8].getD j xF) (.int v)) hA9 hB9
  clear hA9 hB9 fb9
  have hs0 := hs_bk
  have hA0 := hA_bk
  have hd := z_hdr hB_bk
  have hd0 := hd.1
  have hd1 := hd.2.1
  obtain ⟨se, hs_se, hY_se⟩ := y_fldR (k := 8) hI.1 hY_this rfl rfl
  obtain ⟨lw, hs_lw, hY_lw⟩ := y_fldR (k := 18) hI.1 hY_this rfl rfl
  obtain ⟨fr, hs_fr, hY_fr⟩ := y_fldR (k := 19) hI.1 hY_this rfl rfl
  obtain ⟨sn, hs_sn, hY_sn⟩ := y_fldR (k := 21) hI.1 hY_this rfl rfl
  obtain ⟨fn, hA_sn, hB_sn⟩ := y_arr hI.1 hY_sn rfl rfl
  replace hB_sn : ∀ j, j < 1024 → (0 : Int) ≤ (fn j).toInt ∧ (fn j).toInt ≤ 1 := fun j hj => by obtain ⟨x, e0, e1⟩ := hB_sn j hj; cases e0; exact e1
  refine lv_aload_n hx hb woX9_d0 rfl (lv_at hl 0 rfl) ?_
  refine lv_iload_n hx hb woX9_d1 rfl (lv_at hl 1 rfl) ?_
  refine y_call (z := (0, 237, 2, some 17, xM184)) (av := [.ref this, .int a]) (rest := []) (y_cokV (n := 1) (ci := 12) X ym_isSet rfl rfl rfl (x_cons (x_bw77 0 rfl rfl) (x_cons (x_bw77 2 rfl rfl) (x_cons (x_at 48 (by decide +kernel) rfl) (x_cons (x_bw0 9 rfl rfl) x_nilm)))) (x_bw77 3 rfl rfl) (by decide +kernel) ⟨Nat.le_of_ble_eq_true rfl, Nat.le_of_ble_eq_true rfl⟩) hY0 hI rfl woX9_d2 hl.1 (Nat.le_of_ble_eq_true rfl) (Nat.le_of_ble_eq_true rfl) (Nat.le_of_ble_eq_true rfl) (y_cons (y_cref hY_this rfl) (y_cons ⟨_, rfl, x_i32 _⟩ y_nil)) rfl (y_recv rfl hY_this) trivial (y_sub_ef rfl) fun v Yn o Hn L ho hr ha hIn hx_ hE hP => ?_
  have hPv := hP _ _ _ _ rfl hs_bk (hA_bk 0 (by decide))
  replace hs_bk := y_Efld hE hY_this rfl (by decide) (by decide) hs_bk
  replace hs_se := y_Efld hE hY_this rfl (by decide) (by decide) hs_se
  replace hs_lw := y_Efld hE hY_this rfl (by decide) (by decide) hs_lw
  replace hs_fr := y_Efld hE hY_this rfl (by decide) (by decide) hs_fr
  replace hs_sn := y_Efld hE hY_this rfl (by decide) (by decide) hs_sn
  replace hA_bk := hA_bk.kept (y_Earr hE hY_bk rfl (by decide))
  replace hA_sn := hA_sn.kept (y_Earr hE hY_sn rfl (by decide))
  replace hY_this := y_ext hx_ hI.1 hY_this
  replace hY_bk := y_ext hx_ hI.1 hY_bk
  replace hY_se := y_ext hx_ hI.1 hY_se
  replace hY_lw := y_ext hx_ hI.1 hY_lw
  replace hY_fr := y_ext hx_ hI.1 hY_fr
  replace hY_sn := y_ext hx_ hI.1 hY_sn
  obtain ⟨r2, rfl, hin_r2, hout_r2⟩ := hPv
  clear ho hr ha hE hP hI hx_
  rename x_I _ _ _ _ _ _ _ _ _ _ => hI
  have ec0 : (0 : Int32).toInt = 0 := by decide
  refine lv_if_eq hx hb woX9_d5 (tgt := 28) (by decide) (fun q5 => ?_) (fun q5 => ?_)
  · have q5_ : r2.toInt = (0 : Int32).toInt := by rw [q5]
    have hno : ¬ (m_isS fb a ∧ m_isH fb t ∧ 0 ≤ nq.toInt ∧ nq.toInt ≤ 6) := fun q9 => by first | (have h8 := hout_r2 (by assumption); have h7 := q9.1; unfold m_isS at h7; omega) | exact hout_r10 (by assumption) q9.2.1 | (have h8 := hout_r22 (by assumption); omega)
    refine lv_aload_n hx hb woX9_d28 rfl (lv_at hl 0 rfl) ?_
    refine y_call (z := (0, 102, 1, some 17, xM143)) (av := [.ref this]) (rest := []) (y_cokV (n := 0) (ci := 12) X ym_bad rfl rfl rfl (x_cons (x_bw68 3 rfl rfl) (x_cons (x_bw68 5 rfl rfl) (x_cons (x_at 32 (by decide +kernel) rfl) (x_cons (x_bw0 9 rfl rfl) x_nilm)))) (x_bw68 6 rfl rfl) (by decide +kernel) ⟨Nat.le_of_ble_eq_true rfl, Nat.le_of_ble_eq_true rfl⟩) hY0 hI rfl woX9_d29 hl.1 (Nat.le_of_ble_eq_true rfl) (Nat.le_of_ble_eq_true rfl) (Nat.le_of_ble_eq_true rfl) (y_cons (y_cref hY_this rfl) y_nil) rfl (y_recv rfl hY_this) trivial (y_sub_ef rfl) fun v Yn o Hn L ho hr ha hIn hx_ hE hP => ?_
    replace hs_bk := y_Efld hE hY_this rfl (by decide) (by decide) hs_bk
    replace hs_se := y_Efld hE hY_this rfl (by decide) (by decide) hs_se
    replace hs_lw := y_Efld hE hY_this rfl (by decide) (by decide) hs_lw
    replace hs_fr := y_Efld hE hY_this rfl (by decide) (by decide) hs_fr
    replace hs_sn := y_Efld hE hY_this rfl (by decide) (by decide) hs_sn
    replace hA_bk := hA_bk.kept (y_Earr hE hY_bk rfl (by decide))
    replace hA_sn := hA_sn.kept (y_Earr hE hY_sn rfl (by decide))
    replace hY_this := y_ext hx_ hI.1 hY_this
    replace hY_bk := y_ext hx_ hI.1 hY_bk
    replace hY_se := y_ext hx_ hI.1 hY_se
    replace hY_lw := y_ext hx_ hI.1 hY_lw
    replace hY_fr := y_ext hx_ hI.1 hY_fr
    replace hY_sn := y_ext hx_ hI.1 hY_sn
    have hPb := hP
    obtain rfl := hPb
    clear ho hr ha hE hP hI hx_
    rename x_I _ _ _ _ _ _ _ _ _ _ => hI
    exact y_ireturn B hI rfl rfl rfl List.mem_cons_self ⟨_, rfl, ⟨_, rfl, x_i32 _⟩⟩ (x_cs.mono B.2.2.2.2.2 (y_mon B hI)) (fun t' b' w0' w1' w2' f' h1 h2 h3 h4 => by cases h1; cases h2.symm.trans hs0; cases z_uniq h4 hA0 h3 hcn; exact ⟨_, rfl, fun q9 => absurd q9 hno, fun q9 => absurd q9 hno, fun _ => rfl⟩) (Nat.le_refl _) (Nat.le_refl _) woX9_d32
  · have q5_ : ¬ r2.toInt = (0 : Int32).toInt := fun q => q5 (Int32.toInt_inj.mp q)
    refine lv_aload_n hx hb woX9_d8 rfl (lv_at hl 0 rfl) ?_
    refine lv_iload_n hx hb woX9_d9 rfl (lv_at hl 2 rfl) ?_
    refine y_call (z := (0, 151, 2, some 17, xM171)) (av := [.ref this, .int t]) (rest := []) (y_cokV (n := 1) (ci := 12) X ym_isHillX rfl rfl rfl (x_cons (x_bw72 2 rfl rfl) (x_cons (x_bw72 4 rfl rfl) (x_cons (x_at 40 (by decide +kernel) rfl) (x_cons (x_bw0 9 rfl rfl) x_nilm)))) (x_bw72 5 rfl rfl) (by decide +kernel) ⟨Nat.le_of_ble_eq_true rfl, Nat.le_of_ble_eq_true rfl⟩) hY0 hI rfl woX9_d10 hl.1 (Nat.le_of_ble_eq_true rfl) (Nat.le_of_ble_eq_true rfl) (Nat.le_of_ble_eq_true rfl) (y_cons (y_cref hY_this rfl) (y_cons ⟨_, rfl, x_i32 _⟩ y_nil)) rfl (y_recv rfl hY_this) trivial (y_sub_ef rfl) fun v Yn o Hn L ho hr ha hIn hx_ hE hP => ?_
    have hPq := hP _ _ _ _ rfl hs_bk hcn hA_bk
    replace hs_bk := y_Efld hE hY_this rfl (by decide) (by decide) hs_bk
    replace hs_se := y_Efld hE hY_this rfl (by decide) (by decide) hs_se
    replace hs_lw := y_Efld hE hY_this rfl (by decide) (by decide) hs_lw
    replace hs_fr := y_Efld hE hY_this rfl (by decide) (by decide) hs_fr
    replace hs_sn := y_Efld hE hY_this rfl (by decide) (by decide) hs_sn
    replace hA_bk := hA_bk.kept (y_Earr hE hY_bk rfl (by decide))
    replace hA_sn := hA_sn.kept (y_Earr hE hY_sn rfl (by decide))
    replace hY_this := y_ext hx_ hI.1 hY_this
    replace hY_bk := y_ext hx_ hI.1 hY_bk
    replace hY_se := y_ext hx_ hI.1 hY_se
    replace hY_lw := y_ext hx_ hI.1 hY_lw
    replace hY_fr := y_ext hx_ hI.1 hY_fr
    replace hY_sn := y_ext hx_ hI.1 hY_sn
    obtain ⟨r10, rfl, hin_r10, hout_r10⟩ := hPq
    clear ho hr ha hE hP hI hx_
    rename x_I _ _ _ _ _ _ _ _ _ _ => hI
    refine lv_if_eq hx hb woX9_d13 (tgt := 28) (by decide) (fun q13 => ?_) (fun q13 => ?_)
    · have q13_ : r10.toInt = (0 : Int32).toInt := by rw [q13]
      have hno : ¬ (m_isS fb a ∧ m_isH fb t ∧ 0 ≤ nq.toInt ∧ nq.toInt ≤ 6) := fun q9 => by first | (have h8 := hout_r2 (by assumption); have h7 := q9.1; unfold m_isS at h7; omega) | exact hout_r10 (by assumption) q9.2.1 | (have h8 := hout_r22 (by assumption); omega)
      refine lv_aload_n hx hb woX9_d28 rfl (lv_at hl 0 rfl) ?_
      refine y_call (z := (0, 102, 1, some 17, xM143)) (av := [.ref this]) (rest := []) (y_cokV (n := 0) (ci := 12) X ym_bad rfl rfl rfl (x_cons (x_bw68 3 rfl rfl) (x_cons (x_bw68 5 rfl rfl) (x_cons (x_at 32 (by decide +kernel) rfl) (x_cons (x_bw0 9 rfl rfl) x_nilm)))) (x_bw68 6 rfl rfl) (by decide +kernel) ⟨Nat.le_of_ble_eq_true rfl, Nat.le_of_ble_eq_true rfl⟩) hY0 hI rfl woX9_d29 hl.1 (Nat.le_of_ble_eq_true rfl) (Nat.le_of_ble_eq_true rfl) (Nat.le_of_ble_eq_true rfl) (y_cons (y_cref hY_this rfl) y_nil) rfl (y_recv rfl hY_this) trivial (y_sub_ef rfl) fun v Yn o Hn L ho hr ha hIn hx_ hE hP => ?_
      replace hs_bk := y_Efld hE hY_this rfl (by decide) (by decide) hs_bk
      replace hs_se := y_Efld hE hY_this rfl (by decide) (by decide) hs_se
      replace hs_lw := y_Efld hE hY_this rfl (by decide) (by decide) hs_lw
      replace hs_fr := y_Efld hE hY_this rfl (by decide) (by decide) hs_fr
      replace hs_sn := y_Efld hE hY_this rfl (by decide) (by decide) hs_sn
      replace hA_bk := hA_bk.kept (y_Earr hE hY_bk rfl (by decide))
      replace hA_sn := hA_sn.kept (y_Earr hE hY_sn rfl (by decide))
      replace hY_this := y_ext hx_ hI.1 hY_this
      replace hY_bk := y_ext hx_ hI.1 hY_bk
      replace hY_se := y_ext hx_ hI.1 hY_se
      replace hY_lw := y_ext hx_ hI.1 hY_lw
      replace hY_fr := y_ext hx_ hI.1 hY_fr
      replace hY_sn := y_ext hx_ hI.1 hY_sn
      have hPb := hP
      obtain rfl := hPb
      clear ho hr ha hE hP hI hx_
      rename x_I _ _ _ _ _ _ _ _ _ _ => hI
      exact y_ireturn B hI rfl rfl rfl List.mem_cons_self ⟨_, rfl, ⟨_, rfl, x_i32 _⟩⟩ (x_cs.mono B.2.2.2.2.2 (y_mon B hI)) (fun t' b' w0' w1' w2' f' h1 h2 h3 h4 => by cases h1; cases h2.symm.trans hs0; cases z_uniq h4 hA0 h3 hcn; exact ⟨_, rfl, fun q9 => absurd q9 hno, fun q9 => absurd q9 hno, fun _ => rfl⟩) (Nat.le_refl _) (Nat.le_refl _) woX9_d32
    · have q13_ : ¬ r10.toInt = (0 : Int32).toInt := fun q => q13 (Int32.toInt_inj.mp q)
      refine lv_iload_n hx hb woX9_d16 rfl (lv_at hl 3 rfl) ?_
      obtain ⟨z17, hg_z17⟩ : ∃ z17 : Int64, nq.toInt64 = z17 := ⟨_, rfl⟩
      have h_z17 : z17.toInt = (nq).toInt := by rw [← hg_z17]; exact Int32.toInt_toInt64 _
      refine lv_i2l hx hb woX9_d17 (v := z17) hg_z17 ?_
      refine lv_lconst hx hb woX9_d18 (v := 0) (by decide) ?_
      have el0 : (0 : Int64).toInt = 0 := by decide
      refine lv_ldc2 hx hb X.2.2.2.1 (v := 6) (X.2.2.2.2.1 _ (x_bw82 12 rfl rfl)) woX9_d19 ?_
      have el6 : (6 : Int64).toInt = 6 := by decide
      refine y_call (z := (1, 87, 3, none, xM148)) (av := [.long z17, .long (0 : Int64), .long (6 : Int64)]) (rest := []) (y_cokS (n := 3) X ym_in (x_cons (x_bw67 11 rfl rfl) (x_cons (x_bw67 12 rfl rfl) (x_cons (x_bw0 9 rfl rfl) x_nilm))) (x_bw67 13 rfl rfl) (by decide +kernel) ⟨Nat.le_of_ble_eq_true rfl, Nat.le_of_ble_eq_true rfl⟩) hY0 hI rfl woX9_d22 hl.1 (Nat.le_of_ble_eq_true rfl) (Nat.le_of_ble_eq_true rfl) (Nat.le_of_ble_eq_true rfl) (y_cons ⟨_, rfl, x_i64 _⟩ (y_cons ⟨_, rfl, x_i64 _⟩ (y_cons ⟨_, rfl, x_i64 _⟩ y_nil))) rfl (y_norecv rfl) trivial (y_sub_ef rfl) fun v Yn o Hn L ho hr ha hIn hx_ hE hP => ?_
      replace hs_bk := y_Efld hE hY_this rfl (by decide) (by decide) hs_bk
      replace hs_se := y_Efld hE hY_this rfl (by decide) (by decide) hs_se
      replace hs_lw := y_Efld hE hY_this rfl (by decide) (by decide) hs_lw
      replace hs_fr := y_Efld hE hY_this rfl (by decide) (by decide) hs_fr
      replace hs_sn := y_Efld hE hY_this rfl (by decide) (by decide) hs_sn
      replace hA_bk := hA_bk.kept (y_Earr hE hY_bk rfl (by decide))
      replace hA_sn := hA_sn.kept (y_Earr hE hY_sn rfl (by decide))
      replace hY_this := y_ext hx_ hI.1 hY_this
      replace hY_bk := y_ext hx_ hI.1 hY_bk
      replace hY_se := y_ext hx_ hI.1 hY_se
      replace hY_lw := y_ext hx_ hI.1 hY_lw
      replace hY_fr := y_ext hx_ hI.1 hY_fr
      replace hY_sn := y_ext hx_ hI.1 hY_sn
      obtain ⟨r22, rfl, hin_r22, hout_r22⟩ := z_inR2 (hP _ _ _ rfl)
      clear ho hr ha hE hP hI hx_
      rename x_I _ _ _ _ _ _ _ _ _ _ => hI
      refine lv_if_ne hx hb woX9_d25 (tgt := 33) (by decide) (fun q25 => ?_) (fun q25 => ?_)
      · have q25_ : ¬ r22.toInt = (0 : Int32).toInt := fun q => q25 (Int32.toInt_inj.mp q)
        have hw9 := hin_r22 (by assumption)
        have hok : m_isS fb a ∧ m_isH fb t ∧ 0 ≤ nq.toInt ∧ nq.toInt ≤ 6 := by first | exact ⟨hin_r2 (by assumption), by omega, by omega⟩ | exact ⟨hin_r2 (by assumption), hin_r10 (by assumption), by omega, by omega⟩
        have hs_a := hok.1
        unfold m_isS at hs_a
        have hz9 := z_all_p hd0
        have hpw : (2 ^ (fb 0).toInt.toNat) ≤ 1024 := Nat.pow_le_pow_right (n := 2) (by decide) (show (fb 0).toInt.toNat ≤ 10 by omega)
        have hNB : (z_all (fb 0)).toInt.toNat + 1 = (2 ^ (fb 0).toInt.toNat) := by omega
        refine lv_aload_n hx hb woX9_d33 rfl (lv_at hl 0 rfl) ?_
        refine y_call (z := (0, 260, 1, some 17, xM204)) (av := [.ref this]) (rest := []) (y_cokV (n := 0) (ci := 12) X ym_lawsNow rfl rfl rfl (x_cons (x_bw81 9 rfl rfl) (x_cons (x_bw81 11 rfl rfl) (x_cons (x_at 55 (by decide +kernel) rfl) (x_cons (x_bw0 9 rfl rfl) x_nilm)))) (x_bw81 12 rfl rfl) (by decide +kernel) ⟨Nat.le_of_ble_eq_true rfl, Nat.le_of_ble_eq_true rfl⟩) hY0 hI rfl woX9_d34 hl.1 (Nat.le_of_ble_eq_true rfl) (Nat.le_of_ble_eq_true rfl) (Nat.le_of_ble_eq_true rfl) (y_cons (y_cref hY_this rfl) y_nil) rfl (y_recv rfl hY_this) trivial (y_sub_ef rfl) fun v Yn o Hn L ho hr ha hIn hx_ hE hP => ?_
        have hPs := hP _ _ _ rfl hs_bk hcn hA_bk
        have hPl1 := hPs.1 _ hs_se
        have hPl2 := hPs.2 _ hs_lw
        replace hs_bk := y_Efld hE hY_this rfl (by decide) (by decide) hs_bk
        replace hs_se := y_Efld hE hY_this rfl (by decide) (by decide) hs_se
        replace hs_lw := y_Efld hE hY_this rfl (by decide) (by decide) hs_lw
        replace hs_fr := y_Efld hE hY_this rfl (by decide) (by decide) hs_fr
        replace hs_sn := y_Efld hE hY_this rfl (by decide) (by decide) hs_sn
        replace hA_bk := hA_bk.kept (y_Earr hE hY_bk rfl (by decide))
        replace hA_sn := hA_sn.kept (y_Earr hE hY_sn rfl (by decide))
        replace hY_this := y_ext hx_ hI.1 hY_this
        replace hY_bk := y_ext hx_ hI.1 hY_bk
        replace hY_se := y_ext hx_ hI.1 hY_se
        replace hY_lw := y_ext hx_ hI.1 hY_lw
        replace hY_fr := y_ext hx_ hI.1 hY_fr
        replace hY_sn := y_ext hx_ hI.1 hY_sn
        obtain rfl := y_ansV rfl ho hr
        obtain ⟨fs, hA_se, -⟩ := y_arr hIn.1 hY_se rfl rfl
        have hVs : ∀ i, i < (fb 0).toInt.toNat → fs i = (m_VR fb (fb 4) (fb 5)) i := fun i hi => z_intI (hA_se i (by omega)) (hPl1 i hi)
        obtain ⟨gl, hA_lw, hgl⟩ := hPl2
        obtain ⟨gl8, hA8, hB_lw⟩ := y_arr hIn.1 hY_lw rfl rfl
        replace hB_lw : ∀ j, j < 1024 → (0 : Int) ≤ (gl j).toInt ∧ (gl j).toInt ≤ 1 := fun j hj => by obtain ⟨x, e0, e1⟩ := hB_lw j hj; cases e0; rw [z_AR hA_lw hA8 hj]; exact e1
        clear hA8 gl8
        clear ho hr ha hE hP hI hx_
        rename x_I _ _ _ _ _ _ _ _ _ _ => hI
        refine lv_aload_n hx hb woX9_d37 rfl (lv_at hl 0 rfl) ?_
        refine y_getf X (fl200 X.2.2.2.2.1) hI.1 hY_this rfl hs_lw woX9_d38 ?_
        refine lv_iload_n hx hb woX9_d41 rfl (lv_at hl 1 rfl) ?_
        refine y_zald X hI.1 hY_lw rfl hA_lw (by omega) (by show _ < (1024 : Int); omega) woX9_d42 ?_
        obtain ⟨e42, hg_e42⟩ : ∃ e42 : Int32, gl a.toInt.toNat = e42 := ⟨_, rfl⟩
        rw [hg_e42]
        have h_e42 : (0 : Int) ≤ e42.toInt ∧ e42.toInt ≤ 1 := by rw [← hg_e42]; exact hB_lw _ (by omega)
        refine lv_if_ne hx hb woX9_d43 (tgt := 51) (by decide) (fun q43 => ?_) (fun q43 => ?_)
        · have q43_ : ¬ e42.toInt = (0 : Int32).toInt := fun q => q43 (Int32.toInt_inj.mp q)
          have hla := (show (m_LR (m_VR fb (fb 4) (fb 5)) (fb 0).toInt.toNat) a.toInt.toNat = true by rw [← hgl _ (by omega)]; unfold m_gl; rw [hg_e42]; have h8 : ¬ e42 = 0 := (by assumption); rw [decide_eq_false h8]; rfl)
          refine lv_aload_n hx hb woX9_d51 rfl (lv_at hl 0 rfl) ?_
          refine lv_iload_n hx hb woX9_d52 rfl (lv_at hl 1 rfl) ?_
          refine y_call (z := (0, 263, 2, some 17, xMsp)) (av := [.ref this, .int a]) (rest := []) (y_cokV (n := 1) (ci := 12) X ym_spreads2 rfl rfl rfl (x_cons (x_bw81 13 rfl rfl) (x_cons (x_bw81 15 rfl rfl) (x_cons (x_at 56 (by decide +kernel) rfl) (x_cons (x_bw0 9 rfl rfl) x_nilm)))) (x_bw82 0 rfl rfl) (by decide +kernel) ⟨Nat.le_of_ble_eq_true rfl, Nat.le_of_ble_eq_true rfl⟩) hY0 hI rfl woX9_d53 hl.1 (Nat.le_of_ble_eq_true rfl) (Nat.le_of_ble_eq_true rfl) (Nat.le_of_ble_eq_true rfl) (y_cons (y_cref hY_this rfl) (y_cons ⟨_, rfl, by show (0 : Int) ≤ _; omega, by show _ ≤ (1023 : Int); omega⟩ y_nil)) rfl (y_recv rfl hY_this) (fun t' l' b' m' g' c' h1 h2 h3 h4 h5 => by cases h1; cases h2.symm.trans hs_bk; cases h4.symm.trans hs_lw; rw [z_AR h3 hA_bk (show 0 < 160 by decide), z_AR h5 hA_lw (show a.toInt.toNat < 1024 by omega)]; exact ⟨by omega, by rw [hg_e42]; assumption⟩) (y_sub_ef rfl) fun v Yn o Hn L ho hr ha hIn hx_ hE hP => ?_
          have hPs2 := hP _ _ _ _ _ _ _ rfl hs_bk hA_bk hs_lw hA_lw hs_fr
          replace hs_bk := y_Efld hE hY_this rfl (by decide) (by decide) hs_bk
          replace hs_se := y_Efld hE hY_this rfl (by decide) (by decide) hs_se
          replace hs_lw := y_Efld hE hY_this rfl (by decide) (by decide) hs_lw
          replace hs_fr := y_Efld hE hY_this rfl (by decide) (by decide) hs_fr
          replace hs_sn := y_Efld hE hY_this rfl (by decide) (by decide) hs_sn
          replace hA_bk := hA_bk.kept (y_Earr hE hY_bk rfl (by decide))
          replace hA_sn := hA_sn.kept (y_Earr hE hY_sn rfl (by decide))
          replace hA_se := hA_se.kept (y_Earr hE hY_se rfl (by decide))
          replace hA_lw := hA_lw.kept (y_Earr hE hY_lw rfl (by decide))
          replace hY_this := y_ext hx_ hI.1 hY_this
          replace hY_bk := y_ext hx_ hI.1 hY_bk
          replace hY_se := y_ext hx_ hI.1 hY_se
          replace hY_lw := y_ext hx_ hI.1 hY_lw
          replace hY_fr := y_ext hx_ hI.1 hY_fr
          replace hY_sn := y_ext hx_ hI.1 hY_sn
          obtain rfl := y_ansV rfl ho hr
          obtain ⟨ff, hA_fr, hD0⟩ := hPs2
          rw [hNB] at hD0
          have hD : m_D (m_LR (m_VR fb (fb 4) (fb 5)) (fb 0).toInt.toNat) (2 ^ (fb 0).toInt.toNat) a.toInt.toNat ff := hD0.congrL hgl
          clear ho hr ha hE hP hI hx_
          rename x_I _ _ _ _ _ _ _ _ _ _ => hI
          refine lv_iconst hx hb woX9_d56 (v := 0) (by decide) ?_
          refine lv_istore hx hb woX9_d57 hl (by decide) (lv' := [(4, .int (0 : Int32)), (0, .ref this), (1, .int a), (2, .int t), (3, .int nq)]) rfl fun ls hl => ?_
          exact woX9_L59 B rfl hs0 hA0 hcn hd0 hok hD hla hVs 1026 _ _ _ _ _ _ hI hY_this hY_bk hY_fr hY_se hY_sn hs_bk hs_fr hs_se hs_sn hA_bk hA_fr hA_se hA_sn (lv_sub hl [0, 1, 2, 3, 4] rfl) (by first | assumption | omega) (by first | assumption | omega) (fun j hj => absurd hj (by omega)) (by omega)
        · have q43_ : e42.toInt = (0 : Int32).toInt := by rw [q43]
          have hla := (show (m_LR (m_VR fb (fb 4) (fb 5)) (fb 0).toInt.toNat) a.toInt.toNat = false by rw [← hgl _ (by omega)]; unfold m_gl; rw [hg_e42]; have h8 : e42 = 0 := (by assumption); rw [decide_eq_true h8]; rfl)
          refine lv_aload_n hx hb woX9_d46 rfl (lv_at hl 0 rfl) ?_
          refine y_call (z := (0, 126, 1, some 17, xM164)) (av := [.ref this]) (rest := []) (y_cokV (n := 0) (ci := 12) X ym_no rfl rfl rfl (x_cons (x_bw70 11 rfl rfl) (x_cons (x_bw70 13 rfl rfl) (x_cons (x_at 38 (by decide +kernel) rfl) (x_cons (x_bw0 9 rfl rfl) x_nilm)))) (x_bw70 14 rfl rfl) (by decide +kernel) ⟨Nat.le_of_ble_eq_true rfl, Nat.le_of_ble_eq_true rfl⟩) hY0 hI rfl woX9_d47 hl.1 (Nat.le_of_ble_eq_true rfl) (Nat.le_of_ble_eq_true rfl) (Nat.le_of_ble_eq_true rfl) (y_cons (y_cref hY_this rfl) y_nil) rfl (y_recv rfl hY_this) trivial (y_sub_ef rfl) fun v Yn o Hn L ho hr ha hIn hx_ hE hP => ?_
          replace hs_bk := y_Efld hE hY_this rfl (by decide) (by decide) hs_bk
          replace hs_se := y_Efld hE hY_this rfl (by decide) (by decide) hs_se
          replace hs_lw := y_Efld hE hY_this rfl (by decide) (by decide) hs_lw
          replace hs_fr := y_Efld hE hY_this rfl (by decide) (by decide) hs_fr
          replace hs_sn := y_Efld hE hY_this rfl (by decide) (by decide) hs_sn
          replace hA_bk := hA_bk.kept (y_Earr hE hY_bk rfl (by decide))
          replace hA_sn := hA_sn.kept (y_Earr hE hY_sn rfl (by decide))
          replace hA_se := hA_se.kept (y_Earr hE hY_se rfl (by decide))
          replace hA_lw := hA_lw.kept (y_Earr hE hY_lw rfl (by decide))
          replace hY_this := y_ext hx_ hI.1 hY_this
          replace hY_bk := y_ext hx_ hI.1 hY_bk
          replace hY_se := y_ext hx_ hI.1 hY_se
          replace hY_lw := y_ext hx_ hI.1 hY_lw
          replace hY_fr := y_ext hx_ hI.1 hY_fr
          replace hY_sn := y_ext hx_ hI.1 hY_sn
          have hPb := hP
          obtain rfl := hPb
          clear ho hr ha hE hP hI hx_
          rename x_I _ _ _ _ _ _ _ _ _ _ => hI
          exact y_ireturn B hI rfl rfl rfl List.mem_cons_self ⟨_, rfl, ⟨_, rfl, x_i32 _⟩⟩ (x_cs.mono B.2.2.2.2.2 (y_mon B hI)) (fun t' b' w0' w1' w2' f' h1 h2 h3 h4 => by cases h1; cases h2.symm.trans hs0; cases z_uniq h4 hA0 h3 hcn; exact ⟨_, rfl, fun _ q9 => (by rw [hla] at q9; cases q9), fun _ _ => rfl, fun q9 => absurd hok q9⟩) (Nat.le_refl _) (Nat.le_refl _) woX9_d50
      · have q25_ : r22.toInt = (0 : Int32).toInt := by rw [q25]
        have hno : ¬ (m_isS fb a ∧ m_isH fb t ∧ 0 ≤ nq.toInt ∧ nq.toInt ≤ 6) := fun q9 => by first | (have h8 := hout_r2 (by assumption); have h7 := q9.1; unfold m_isS at h7; omega) | exact hout_r10 (by assumption) q9.2.1 | (have h8 := hout_r22 (by assumption); omega)
        refine lv_aload_n hx hb woX9_d28 rfl (lv_at hl 0 rfl) ?_
        refine y_call (z := (0, 102, 1, some 17, xM143)) (av := [.ref this]) (rest := []) (y_cokV (n := 0) (ci := 12) X ym_bad rfl rfl rfl (x_cons (x_bw68 3 rfl rfl) (x_cons (x_bw68 5 rfl rfl) (x_cons (x_at 32 (by decide +kernel) rfl) (x_cons (x_bw0 9 rfl rfl) x_nilm)))) (x_bw68 6 rfl rfl) (by decide +kernel) ⟨Nat.le_of_ble_eq_true rfl, Nat.le_of_ble_eq_true rfl⟩) hY0 hI rfl woX9_d29 hl.1 (Nat.le_of_ble_eq_true rfl) (Nat.le_of_ble_eq_true rfl) (Nat.le_of_ble_eq_true rfl) (y_cons (y_cref hY_this rfl) y_nil) rfl (y_recv rfl hY_this) trivial (y_sub_ef rfl) fun v Yn o Hn L ho hr ha hIn hx_ hE hP => ?_
        replace hs_bk := y_Efld hE hY_this rfl (by decide) (by decide) hs_bk
        replace hs_se := y_Efld hE hY_this rfl (by decide) (by decide) hs_se
        replace hs_lw := y_Efld hE hY_this rfl (by decide) (by decide) hs_lw
        replace hs_fr := y_Efld hE hY_this rfl (by decide) (by decide) hs_fr
        replace hs_sn := y_Efld hE hY_this rfl (by decide) (by decide) hs_sn
        replace hA_bk := hA_bk.kept (y_Earr hE hY_bk rfl (by decide))
        replace hA_sn := hA_sn.kept (y_Earr hE hY_sn rfl (by decide))
        replace hY_this := y_ext hx_ hI.1 hY_this
        replace hY_bk := y_ext hx_ hI.1 hY_bk
        replace hY_se := y_ext hx_ hI.1 hY_se
        replace hY_lw := y_ext hx_ hI.1 hY_lw
        replace hY_fr := y_ext hx_ hI.1 hY_fr
        replace hY_sn := y_ext hx_ hI.1 hY_sn
        have hPb := hP
        obtain rfl := hPb
        clear ho hr ha hE hP hI hx_
        rename x_I _ _ _ _ _ _ _ _ _ _ => hI
        exact y_ireturn B hI rfl rfl rfl List.mem_cons_self ⟨_, rfl, ⟨_, rfl, x_i32 _⟩⟩ (x_cs.mono B.2.2.2.2.2 (y_mon B hI)) (fun t' b' w0' w1' w2' f' h1 h2 h3 h4 => by cases h1; cases h2.symm.trans hs0; cases z_uniq h4 hA0 h3 hcn; exact ⟨_, rfl, fun q9 => absurd q9 hno, fun q9 => absurd q9 hno, fun _ => rfl⟩) (Nat.le_refl _) (Nat.le_refl _) woX9_d32

