/-! A ROW of the reference -/
theorem m_gl_b {x : Bool} : (!(decide (m_b x = 0))) = x := by cases x <;> decide
def z_Plws : yP := fun D av _ H v _ H' => ∀ (this bk : Nat)  (f : Nat → Int32), av = [.ref this] → x_sl D 12 0 this H = some (.ref bk) → z_c f → y_A bk 160 H f → (∀ (se : Nat), x_sl D 12 8 this H = some (.ref se) → ∀ i, i < (f 0).toInt.toNat → y_at se i H' = some (.int ((m_VR f (f 4) (f 5)) i))) ∧ (∀ lw : Nat, x_sl D 12 18 this H = some (.ref lw) → ∃ gl : Nat → Int32, y_A lw 1024 H' gl ∧ ∀ s9, s9 < (2 ^ (f 0).toInt.toNat) → m_gl gl s9 = (m_LR (m_VR f (f 4) (f 5)) (f 0).toInt.toNat) s9)
theorem lsX_d0 : decode xM204.2.1 0 = .ok (.aload_n 0, 1) := dz_ok (by decide +kernel)
theorem lsX_d1 : decode xM204.2.1 1 = .ok (.invokevirtual 240, 3) := dz_ok (by decide +kernel)
theorem lsX_d4 : decode xM204.2.1 4 = .ok (.iconst 0, 1) := dz_ok (by decide +kernel)
theorem lsX_d5 : decode xM204.2.1 5 = .ok (.istore_n 1, 1) := dz_ok (by decide +kernel)
theorem lsX_d6 : decode xM204.2.1 6 = .ok (.iload_n 1, 1) := dz_ok (by decide +kernel)
theorem lsX_d7 : decode xM204.2.1 7 = .ok (.aload_n 0, 1) := dz_ok (by decide +kernel)
theorem lsX_d8 : decode xM204.2.1 8 = .ok (.invokevirtual 91, 3) := dz_ok (by decide +kernel)
theorem lsX_d11 : decode xM204.2.1 11 = .ok (.if_icmp .gt 20, 3) := dz_ok (by decide +kernel)
theorem lsX_d14 : decode xM204.2.1 14 = .ok (.aload_n 0, 1) := dz_ok (by decide +kernel)
theorem lsX_d15 : decode xM204.2.1 15 = .ok (.getfield 38, 3) := dz_ok (by decide +kernel)
theorem lsX_d18 : decode xM204.2.1 18 = .ok (.iload_n 1, 1) := dz_ok (by decide +kernel)
theorem lsX_d19 : decode xM204.2.1 19 = .ok (.aload_n 0, 1) := dz_ok (by decide +kernel)
theorem lsX_d20 : decode xM204.2.1 20 = .ok (.iload_n 1, 1) := dz_ok (by decide +kernel)
theorem lsX_d21 : decode xM204.2.1 21 = .ok (.invokevirtual 243, 3) := dz_ok (by decide +kernel)
theorem lsX_d24 : decode xM204.2.1 24 = .ok (.bastore, 1) := dz_ok (by decide +kernel)
theorem lsX_d25 : decode xM204.2.1 25 = .ok (.iinc 1 1, 3) := dz_ok (by decide +kernel)
theorem lsX_d28 : decode xM204.2.1 28 = .ok (.goto (-22), 3) := dz_ok (by decide +kernel)
theorem lsX_d31 : decode xM204.2.1 31 = .ok (.return_, 1) := dz_ok (by decide +kernel)
theorem lsX_L6 {p : Program} {l : Launch} {e : Env} {s : State} {m : MethodId} {below : List Frame} {meth : Method} {c : Code} {D : va_G} {U : State} {Y0 : xY} {av : List Value} (B : y_B vwCl x_Tb x_Nb xM204 p s m meth c D U Y0 av) {this bk se lw : Nat} {fb : Nat → Int32} (hav : av = [.ref this]) (hs0 : x_sl D 12 0 this s.heap = some (.ref bk)) (hA0 : y_A bk 160 s.heap fb) (hcn : z_c fb) (hd0 : 0 ≤ (fb 0).toInt ∧ (fb 0).toInt ≤ 10) (hs8 : x_sl D 12 8 this s.heap = some (.ref se)) (hl8 : x_sl D 12 18 this s.heap = some (.ref lw))  :
    ∀ (n : Nat), ∀ (H : Heap) (Y : xY) (locs : List Loc) (ls : Array Slot) (k : Int32) (fs gl : Nat → Int32), x_I D x_G x_Zs U (x_efs xM204) Y0 s.heap Y H locs → Y this = some 17 → Y bk = some 46 → Y se = some 51 → Y lw = some 55 → x_sl D 12 0 this H = some (.ref bk) → x_sl D 12 8 this H = some (.ref se) → x_sl D 12 18 this H = some (.ref lw) → y_A bk 160 H fb → y_A se 10 H fs → y_A lw 1024 H gl → lv_has ls xM204.2.2.1 [(1, .int k), (0, .ref this)] → (∀ j, j < 1024 → (0 : Int) ≤ (gl j).toInt ∧ (gl j).toInt ≤ 1) → (0 ≤ k.toInt ∧ k.toInt ≤ (z_all (fb 0)).toInt + 1) → (∀ i, i < (fb 0).toInt.toNat → fs i = (m_VR fb (fb 4) (fb 5)) i) → (∀ s9 : Nat, (s9 : Int) < k.toInt → m_gl gl s9 = (m_LR (m_VR fb (fb 4) (fb 5)) (fb 0).toInt.toNat) s9) → (1025 - k.toInt).toNat < n → W p l e (x_rm xM204) s m av.toArray below meth c H locs 0 0 (y_QQ below D x_G x_Zs U xM204 z_Plws av Y0 s) (F0 m 6 ls []) := by
  have X := B.1
  have hx := X.1
  have hb := X.2.1
  have hY0 := B.2.2.2.2.1
  intro n
  induction n with
  | zero => intro _ _ _ _ _ _ _ _ _ _ _ _ _ _ _ _ _ _ _ _ _ _ _ h; exact absurd h (Nat.not_lt_zero _)
  | succ n ih =>
    intro H Y locs ls k fs gl hI hY_this hY_bk hY_se hY_lw hs_bk hs_se hs_lw hA_bk hA_se hA_lw hl hB_lw hk hVs hgl hn
    have hz9 := z_all_p hd0
    have hpw : (2 ^ (fb 0).toInt.toNat) ≤ 1024 := Nat.pow_le_pow_right (n := 2) (by decide) (show (fb 0).toInt.toNat ≤ 10 by omega)
    refine lv_iload_n hx hb lsX_d6 rfl (lv_at hl 0 rfl) ?_
    refine lv_aload_n hx hb lsX_d7 rfl (lv_at hl 1 rfl) ?_
    refine y_call (z := (0, 91, 1, some 17, xM182)) (av := [.ref this]) (rest := [.int k]) (y_cokV (n := 0) (ci := 12) X ym_all rfl rfl rfl (x_cons (x_bw77 4 rfl rfl) (x_cons (x_bw77 6 rfl rfl) (x_cons (x_at 49 (by decide +kernel) rfl) (x_cons (x_bw0 9 rfl rfl) x_nilm)))) (x_bw77 7 rfl rfl) (by decide +kernel) ⟨Nat.le_of_ble_eq_true rfl, Nat.le_of_ble_eq_true rfl⟩) hY0 hI rfl lsX_d8 hl.1 (Nat.le_of_ble_eq_true rfl) (Nat.le_of_ble_eq_true rfl) (Nat.le_of_ble_eq_true rfl) (y_cons (y_cref hY_this rfl) y_nil) rfl (y_recv rfl hY_this) trivial (y_sub_ef rfl) fun v Yn o Hn L ho hr ha hIn hx_ hE hP => ?_
    have hPv := hP _ _ _ rfl hs_bk (hA_bk 0 (by decide))
    replace hs_bk := y_Efld hE hY_this rfl (by decide) (by decide) hs_bk
    replace hs_se := y_Efld hE hY_this rfl (by decide) (by decide) hs_se
    replace hs_lw := y_Efld hE hY_this rfl (by decide) (by decide) hs_lw
    replace hA_bk := hA_bk.kept (y_Earr hE hY_bk rfl (by decide))
    replace hA_se := hA_se.kept (y_Earr hE hY_se rfl (by decide))
    replace hA_lw := hA_lw.kept (y_Earr hE hY_lw rfl (by decide))
    replace hY_this := y_ext hx_ hI.1 hY_this
    replace hY_bk := y_ext hx_ hI.1 hY_bk
    replace hY_se := y_ext hx_ hI.1 hY_se
    replace hY_lw := y_ext hx_ hI.1 hY_lw
    obtain rfl := hPv
    clear ho hr ha hE hP hI hx_
    rename x_I _ _ _ _ _ _ _ _ _ _ => hI
    refine lv_icmp_gt hx hb lsX_d11 (tgt := 31) (by decide) (fun q11 => ?_) (fun q11 => ?_)
    · have q11_ : (z_all (fb 0)).toInt < k.toInt := x_lt32.mp q11
      have hgl9 : ∀ s9, s9 < (2 ^ (fb 0).toInt.toNat) → m_gl gl s9 = (m_LR (m_VR fb (fb 4) (fb 5)) (fb 0).toInt.toNat) s9 := fun s9 h9 => hgl s9 (by omega)
      subst hav
      exact y_return B hI rfl rfl List.mem_cons_self rfl (x_cs.mono B.2.2.2.2.2 (y_mon B hI)) (fun t' b'  f' h1 h2 h3 h4 => by cases h1; cases h2.symm.trans hs0; cases z_uniq h4 hA0 h3 hcn; exact ⟨fun se' h5 i hi => by cases h5.symm.trans hs8; rw [hA_se i (by omega), hVs i hi], fun lw' h5 => by cases h5.symm.trans hl8; exact ⟨gl, hA_lw, hgl9⟩⟩) (Nat.le_refl _) (Nat.le_refl _) lsX_d31
    · have q11_ : k.toInt ≤ (z_all (fb 0)).toInt := Int.not_lt.mp fun q => q11 (x_lt32.mpr q)
      refine lv_aload_n hx hb lsX_d14 rfl (lv_at hl 1 rfl) ?_
      refine y_getf X (fl200 X.2.2.2.2.1) hI.1 hY_this rfl hs_lw lsX_d15 ?_
      refine lv_iload_n hx hb lsX_d18 rfl (lv_at hl 0 rfl) ?_
      refine lv_aload_n hx hb lsX_d19 rfl (lv_at hl 1 rfl) ?_
      refine lv_iload_n hx hb lsX_d20 rfl (lv_at hl 0 rfl) ?_
      refine y_call (z := (0, 243, 2, some 17, xM191)) (av := [.ref this, .int k]) (rest := [.int k, .ref lw]) (y_cokV (n := 1) (ci := 12) X ym_isLawfulX rfl rfl rfl (x_cons (x_bw78 11 rfl rfl) (x_cons (x_bw78 13 rfl rfl) (x_cons (x_at 52 (by decide +kernel) rfl) (x_cons (x_bw0 9 rfl rfl) x_nilm)))) (x_bw78 14 rfl rfl) (by decide +kernel) ⟨Nat.le_of_ble_eq_true rfl, Nat.le_of_ble_eq_true rfl⟩) hY0 hI rfl lsX_d21 hl.1 (Nat.le_of_ble_eq_true rfl) (Nat.le_of_ble_eq_true rfl) (Nat.le_of_ble_eq_true rfl) (y_cons (y_cref hY_this rfl) (y_cons ⟨_, rfl, x_i32 _⟩ y_nil)) rfl (y_recv rfl hY_this) trivial (y_sub_ef rfl) fun v Yn o Hn L ho hr ha hIn hx_ hE hP => ?_
      have hPs := hP _ _ _ _ rfl hs_bk hcn hA_bk _ (m_VR fb (fb 4) (fb 5)) hs_se (fun i hi => by rw [hA_se i (by omega), hVs i hi])
      obtain rfl := hPs
      replace hs_bk := y_Efld hE hY_this rfl (by decide) (by decide) hs_bk
      replace hs_se := y_Efld hE hY_this rfl (by decide) (by decide) hs_se
      replace hs_lw := y_Efld hE hY_this rfl (by decide) (by decide) hs_lw
      replace hA_bk := hA_bk.kept (y_Earr hE hY_bk rfl (by decide))
      replace hA_se := hA_se.kept (y_Earr hE hY_se rfl (by decide))
      replace hA_lw := hA_lw.kept (y_Earr hE hY_lw rfl (by decide))
      replace hY_this := y_ext hx_ hI.1 hY_this
      replace hY_bk := y_ext hx_ hI.1 hY_bk
      replace hY_se := y_ext hx_ hI.1 hY_se
      replace hY_lw := y_ext hx_ hI.1 hY_lw
      generalize hg_r21 : m_b (m_lw (m_VR fb (fb 4) (fb 5)) k (fb 0).toInt.toNat) = r21
      clear ho hr ha hE hP hI hx_
      rename x_I _ _ _ _ _ _ _ _ _ _ => hI
      have h_r21 : 0 ≤ r21.toInt ∧ r21.toInt ≤ 1 := by rw [← hg_r21]; unfold m_b; split <;> decide
      refine y_zast X hY0 hI hY_lw rfl hA_lw (by omega) (by show _ < (1024 : Int); omega) (y_01 (by omega) (by omega)) ⟨_, rfl, by show (0 : Int) ≤ _; omega, by show _ ≤ (1 : Int); omega⟩ (by decide +kernel) lsX_d24 fun H locs hI h_new ho => ?_
      replace hA_lw := h_new
      replace hB_lw := y_upb (i := k.toInt.toNat) (v := r21) hB_lw (by constructor <;> omega)
      generalize hf_f24 : y_up gl k.toInt.toNat r21 = f24 at hA_lw hB_lw
      replace hs_bk := y_slk hs_bk (ho _ (y_ne hY_this hY_lw rfl))
      replace hs_se := y_slk hs_se (ho _ (y_ne hY_this hY_lw rfl))
      replace hs_lw := y_slk hs_lw (ho _ (y_ne hY_this hY_lw rfl))
      replace hA_bk := hA_bk.kept (ho _ (y_ne hY_bk hY_lw rfl))
      replace hA_se := hA_se.kept (ho _ (y_ne hY_se hY_lw rfl))
      obtain ⟨z25, hg_z25⟩ : ∃ z25 : Int32, k + Int32.ofInt 1 = z25 := ⟨_, rfl⟩
      have h_z25 : z25.toInt = k.toInt + 1 := by rw [← hg_z25]; exact y_inc (by decide) (by omega) (by omega)
      refine lv_iinc hx hb lsX_d25 hl (k := 0) rfl hg_z25 (by decide) (lv' := [(1, .int z25), (0, .ref this)]) rfl fun ls hl => ?_
      refine lv_goto hx hb lsX_d28 (tgt := 6) (by decide) ?_
      exact ih _ _ _ _ _ _ _ hI hY_this hY_bk hY_se hY_lw hs_bk hs_se hs_lw hA_bk hA_se hA_lw (lv_sub hl [0, 1] rfl) (by first | assumption | omega) (by first | assumption | omega) (by first | assumption | omega) (fun s9 h9 => by by_cases e9 : s9 = k.toInt.toNat; (rw [e9]; unfold m_gl m_LR; rw [← hf_f24, y_up_at, ← hg_r21, m_nj hk.1]; exact m_gl_b); have h8 := hgl s9 (by omega); unfold m_gl at h8 ⊢; rw [← hf_f24, y_up_ne e9]; exact h8) (by omega)
theorem ym_lawsNow : y_Met vwCl x_G x_Zs x_Tb x_Nb xM204 y_T z_Plws := by
  refine y_main (by decide +kernel) (by decide +kernel) x_Tb_good x_Nb_ok ?_
  intro p l e s m below meth c D U Y0 av ls B hI _ hl
  have X := B.1
  have hx := X.1
  have hb := X.2.1
  have hY0 := B.2.2.2.2.1
  obtain ⟨v0, rfl, hv0⟩ := x_one B.2.2.2.2.2
  obtain ⟨this, t0, rfl, ht0, hY_this⟩ := x_ref_at hv0 rfl
  obtain rfl := List.mem_singleton.mp ht0
  replace hl : lv_has ls xM204.2.2.1 [(0, .ref this)] := hl
  obtain ⟨bk, hs_bk, hY_bk⟩ := y_fldR (k := 0) hI.1 hY_this rfl rfl
  obtain ⟨fb9, hA9, hB9⟩ := y_arr hI.1 hY_bk rfl rfl
  obtain ⟨fb, hcn, hA_bk, hB_bk⟩ := z_canon (Y := Y0) (P := fun j v => x_c Y0 ([xI 0 10, xI 0 8, xI 0 8].getD j xF) (.int v)) hA9 hB9
  clear hA9 hB9 fb9
  have hs0 := hs_bk
  have hA0 := hA_bk
  have hd := z_hdr hB_bk
  have hd0 := hd.1
  have hd1 := hd.2.1
  obtain ⟨se, hs_se, hY_se⟩ := y_fldR (k := 8) hI.1 hY_this rfl rfl
  obtain ⟨lw, hs_lw, hY_lw⟩ := y_fldR (k := 18) hI.1 hY_this rfl rfl
  obtain ⟨gl, hA_lw, hB_lw⟩ := y_arr hI.1 hY_lw rfl rfl
  replace hB_lw : ∀ j, j < 1024 → (0 : Int) ≤ (gl j).toInt ∧ (gl j).toInt ≤ 1 := fun j hj => by obtain ⟨x, e0, e1⟩ := hB_lw j hj; cases e0; exact e1
  have hs8 := hs_se
  have hl8 := hs_lw
  refine lv_aload_n hx hb lsX_d0 rfl (lv_at hl 0 rfl) ?_
  refine y_call (z := (0, 240, 1, some 17, xM186)) (av := [.ref this]) (rest := []) (y_cokV (n := 0) (ci := 12) X ym_looksNow rfl rfl rfl (x_cons (x_bw77 8 rfl rfl) (x_cons (x_bw77 10 rfl rfl) (x_cons (x_at 50 (by decide +kernel) rfl) (x_cons (x_bw0 9 rfl rfl) x_nilm)))) (x_bw77 11 rfl rfl) (by decide +kernel) ⟨Nat.le_of_ble_eq_true rfl, Nat.le_of_ble_eq_true rfl⟩) hY0 hI rfl lsX_d1 hl.1 (Nat.le_of_ble_eq_true rfl) (Nat.le_of_ble_eq_true rfl) (Nat.le_of_ble_eq_true rfl) (y_cons (y_cref hY_this rfl) y_nil) rfl (y_recv rfl hY_this) trivial (y_sub_ef rfl) fun v Yn o Hn L ho hr ha hIn hx_ hE hP => ?_
  have hPs := hP _ _ _ rfl hs_bk hcn hA_bk _ hs_se
  replace hs_bk := y_Efld hE hY_this rfl (by decide) (by decide) hs_bk
  replace hs_se := y_Efld hE hY_this rfl (by decide) (by decide) hs_se
  replace hs_lw := y_Efld hE hY_this rfl (by decide) (by decide) hs_lw
  replace hA_bk := hA_bk.kept (y_Earr hE hY_bk rfl (by decide))
  replace hA_lw := hA_lw.kept (y_Earr hE hY_lw rfl (by decide))
  replace hY_this := y_ext hx_ hI.1 hY_this
  replace hY_bk := y_ext hx_ hI.1 hY_bk
  replace hY_se := y_ext hx_ hI.1 hY_se
  replace hY_lw := y_ext hx_ hI.1 hY_lw
  obtain rfl := y_ansV rfl ho hr
  obtain ⟨fs, hA_se, -⟩ := y_arr hIn.1 hY_se rfl rfl
  have hVs : ∀ i, i < (fb 0).toInt.toNat → fs i = (m_VR fb (fb 4) (fb 5)) i := fun i hi => z_intI (hA_se i (by omega)) (hPs i hi)
  clear ho hr ha hE hP hI hx_
  rename x_I _ _ _ _ _ _ _ _ _ _ => hI
  refine lv_iconst hx hb lsX_d4 (v := 0) (by decide) ?_
  have ec0 : (0 : Int32).toInt = 0 := by decide
  refine lv_istore_n hx hb lsX_d5 rfl hl (by decide) (lv' := [(1, .int (0 : Int32)), (0, .ref this)]) rfl fun ls hl => ?_
  have hz9 := z_all_p hd0
  have hne9 : 0 < (2 ^ (fb 0).toInt.toNat) := Nat.pow_pos (by decide)
  exact lsX_L6 B rfl hs0 hA0 hcn hd0 hs8 hl8 1026 _ _ _ _ _ _ _ hI hY_this hY_bk hY_se hY_lw hs_bk hs_se hs_lw hA_bk hA_se hA_lw (lv_sub hl [0, 1] rfl) (by first | assumption | omega) (by first | assumption | omega) (by first | assumption | omega) (fun s9 h9 => absurd h9 (by omega)) (by omega)
