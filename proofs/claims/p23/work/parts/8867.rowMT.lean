/-! A ROW of the reference -/
theorem m_gl_b {x : Bool} : (!(decide (m_b x = 0))) = x := by cases x <;> decide
def z_Plws : yP := fun D av _ H v _ H' => ∀ (this bk : Nat)  (f : Nat → Int32), av = [.ref this] → x_sl D 12 0 this H = some (.ref bk) → z_c f → y_A bk 160 H f → (∀ (se : Nat), x_sl D 12 8 this H = some (.ref se) → ∀ i, i < (f 0).toInt.toNat → y_at se i H' = some (.int ((m_VR f (f 4) (f 5)) i))) ∧ (∀ lw : Nat, x_sl D 12 18 this H = some (.ref lw) → ∃ gl : Nat → Int32, y_A lw 1024 H' gl ∧ ∀ s9, s9 < (2 ^ (f 0).toInt.toNat) → m_gl gl s9 = (m_LR (m_VR f (f 4) (f 5)) (f 0).toInt.toNat) s9)
theorem lsX_d0 : decode xM204.2.1 0 = .ok (.aload_n 0, 1) := dz_ok (by decide +kernel)
theorem lsX_d1 : decode xM204.2.1 1 = .ok (.invokevirtual 240, 3) := dz_ok (by decide +kernel)
theorem lsX_d4 : decode xM204.2.1 4 = .ok (.iconst 0, 1) := dz_ok (by decide +kernel)
theorem lsX_d5 : decode xM204.2.1 5 = .ok (.istore_n 1, 1) := dz_ok (by decide +kernel)
theorem lsX_d6 : decode xM204.2.1 6 = .ok (.iload_n 1, 1) := dz_ok (by decide +kernel)
theorem lsX_d7 : decode xM204.2.1 7 = .ok (.aload_n 0, 1) := dz_ok (by decide +kernel)
theorem lsX_d8 : decode xM204.2.1 8 = .ok (.invokevirtual 91, 3) := dz_ok (by decide +kernel)
theorem lsX_d11 : decode xM204.2.1 11 = .ok (.if_icmp .gt 20, 3) := dz_ok (by decide +kernel)
theorem lsX_d14 : decode xM204.2.1 14 = .ok (.aload_n 0, 1) := dz_ok (by decide +kernel)
theorem lsX_d15 : decode xM204.2.1 15 = .ok (.getfield 38, 3) := dz_ok (by decide +kernel)
theorem lsX_d18 : decode xM204.2.1 18 = .ok (.iload_n 1, 1) := dz_ok (by decide +kernel)
theorem lsX_d19 : decode xM204.2.1 19 = .ok (.aload_n 0, 1) := dz_ok (by decide +kernel)
theorem lsX_d20 : decode xM204.2.1 20 = .ok (.iload_n 1, 1) := dz_ok (by decide +kernel)
theorem lsX_d21 : decode xM204.2.1 21 = .ok (.invokevirtual 243, 3) := dz_ok (by decide +kernel)
theorem lsX_d24 : decode xM204.2.1 24 = .ok (.bastore, 1) := dz_ok (by decide +kernel)
theorem lsX_d25 : decode xM204.2.1 25 = .ok (.iinc 1 1, 3) := dz_ok (by decide +kernel)
theorem lsX_d28 : decode xM204.2.1 28 = .ok (.goto (-22), 3) := dz_ok (by decide +kernel)
theorem lsX_d31 : decode xM204.2.1 31 = .ok (.return_, 1) := dz_ok (by decide +kernel)
theorem lsX_L6 {p : Program} {l : Launch} {e : Env} {s : State} {m : MethodId} {below : List Frame} {meth : Method} {c : Code} {D : va_G} {U : State} {Y0 : xY} {av : List Value} (B : y_B vwCl x_Tb x_Nb xM204 p s m meth c D U Y0 av) {this bk se lw : Nat} {fb : Nat → Int32} (hav : av = [.ref this]) (hs0 : x_sl D 12 0 this s.heap = some (.ref bk)) (hA0 : y_A bk 160 s.heap fb) (hcn : z_c fb) (hd0 : 0 ≤ (fb 0).toInt ∧ (fb 0).toInt ≤ 10) (hs8 : x_sl D 12 8 this s.heap = some (.ref se)) (hl8 : x_sl D 12 18 this s.heap = some (.ref lw))  :
    ∀ (n : Nat), ∀ (H : Heap) (Y : xY) (locs : List Loc) (ls : Array Slot) (k : Int32) (fs gl : Nat → Int32), x_I D x_G x_Zs U (x_efs xM204) Y0 s.heap Y H locs → Y this = some 17 → Y bk = some 46 → Y se = some 51 → Y lw = some 55 → x_sl D 12 0 this H = some (.ref bk) → x_sl D 12 8 this H = some (.ref se) → x_sl D 12 18 this H = some (.ref lw) → y_A bk 160 H fb → y_A se 10 H fs → y_A lw 1024 H gl → lv_has ls xM204.2.2.1 [(1, .int k), (0, .ref this)] → (∀ j, j < 1024 → (0 : Int) ≤ (gl j).toInt ∧ (gl j).toInt ≤ 1) → (0 ≤ k.toInt ∧ k.toInt ≤ (z_all (fb 0)).toInt + 1) → (∀ i, i < (fb 0).toInt.toNat → fs i = (m_VR fb (fb 4) (fb 5)) i) → (∀ s9 : Nat, (s9 : Int) < k.toInt → m_gl gl s9 = (m_LR (m_VR fb (fb 4) (fb 5)) (fb 0).toInt.toNat) s9) → (1025 - k.toInt).toNat < n → W p l e (x_rm xM204) s m av.toArray below meth c H locs 0 0 (y_QQ below D x_G x_Zs U xM204 z_Plws av Y0 s) (F0 m 6 ls []) := by
  have X := B.1
  have hx := X.1
  have hb := X.2.1
  have hY0 := B.2.2.2.2.1
  intro n
  induction n with
  | zero => intro _ _ _ _ _ _ _ _ _ _ _ _ _ _ _ _ _ _ _ _ _ _ _ h; exact absurd h (Nat.not_lt_zero _)
  | succ n ih =>
    intro H Y locs ls k fs gl hI hY_this hY_bk hY_se hY_lw hs_bk hs_se hs_lw hA_bk hA_se hA_lw hl hB_lw hk hVs hgl hn
    have hz9 := z_all_p hd0
    have hpw : (2 ^ (fb 0).toInt.toNat) ≤ 1024 := Nat.pow_le_pow_right (n := 2) (by decide) (show (fb 0).toInt.toNat ≤ 10 by omega)
    refine lv_iload_n hx hb lsX_d6 rfl (lv_at hl 0 rfl) ?_
    refine lv_aload_n hx hb lsX_d7 rfl (lv_at hl 1 rfl) ?_
    refine y_call (z := (0, 91, 1, some 17, xM182)) (av := [.ref this]) (rest := [.int k]) (y_cokV (n := 0) (ci := 12) X ym_all rfl rfl rfl (x_cons (x_bw77 4 rfl rfl) (x_cons (x_bw77 6 rfl rfl) (x_cons (x_at 49 (by decide +kernel) rfl) (x_cons (x_bw0 9 rfl rfl) x_nilm)))) (x_bw77 7 rfl rfl) (by decide +kernel) ⟨Nat.le_of_ble_eq_true rfl, Nat.le_of_ble_eq_true rfl⟩) hY0 hI rfl lsX_d8 hl.1 (Nat.le_of_ble_eq_true rfl) (Nat.le_of_ble_eq_true rfl) (Nat.le_of_ble_eq_true rfl) (y_cons (y_cref hY_this rfl) y_nil) rfl (y_recv rfl hY_this) trivial (y_sub_ef rfl) fun v Yn o Hn L ho hr ha hIn hx_ hE hP => ?_
    have hPv := hP _ _ _ rfl hs_bk (hA_bk 0 (by decide))
    replace hs_bk := y_Efld hE hY_this rfl (by decide) (by decide) hs_bk
    replace hs_se := y_Efld hE hY_this rfl (by decide) (by decide) hs_se
    replace hs_lw := y_Efld hE hY_this rfl (by decide) (by decide) hs_lw
    replace hA_bk := hA_bk.kept (y_Earr hE hY_bk rfl (by decide))
    replace hA_se := hA_se.kept (y_Earr hE hY_se rfl (by decide))
    replace hA_lw := hA_lw.kept (y_Earr hE hY_lw rfl (by decide))
    replace hY_this := y_ext hx_ hI.1 hY_this
    replace hY_bk := y_ext hx_ hI.1 hY_bk
    replace hY_se := y_ext hx_ hI.1 hY_se
    replace hY_lw := y_ext hx_ hI.1 hY_lw
    obtain rfl := hPv
    clear ho hr ha hE hP hI hx_
    rename x_I _ _ _ _ _ _ _ _ _ _ => hI
    refine lv_icmp_gt hx hb lsX_d11 (tgt := 31) (by decide) (fun q11 => ?_) (fun q11 => ?_)
    · have q11_ : (z_all (fb 0)).toInt < k.toInt := x_lt32.mp q11
      have hgl9 : ∀ s9, s9 < (2 ^ (fb 0).toInt.toNat) → m_gl gl s9 = (m_LR (m_VR fb (fb 4) (fb 5)) (fb 0).toInt.toNat) s9 := fun s9 h9 => hgl s9 (by omega)
      subst hav
      exact y_return B hI rfl rfl List.mem_cons_self rfl (x_cs.mono B.2.2.2.2.2 (y_mon B hI)) (fun t' b'  f' h1 h2 h3 h4 => by cases h1; cases h2.symm.trans hs0; cases z_uniq h4 hA0 h3 hcn; exact ⟨fun se' h5 i hi => by cases h5.symm.trans hs8; rw [hA_se i (by omega), hVs i hi], fun lw' h5 => by cases h5.symm.trans hl8; exact ⟨gl, hA_lw, hgl9⟩⟩) (Nat.le_refl _) (Nat.le_refl _) lsX_d31
    · have q11_ : k.toInt ≤ (z_all (fb 0)).toInt := Int.not_lt.mp fun q => q11 (x_lt32.mpr q)
      refine lv_aload_n hx hb lsX_d14 rfl (lv_at hl 1 rfl) ?_
      refine y_getf X (fl200 X.2.2.2.2.1) hI.1 hY_this rfl hs_lw lsX_d15 ?_
      refine lv_iload_n hx hb lsX_d18 rfl (lv_at hl 0 rfl) ?_
      refine lv_aload_n hx hb lsX_d19 rfl (lv_at hl 1 rfl) ?_
      refine lv_iload_n hx hb lsX_d20 rfl (lv_at hl 0 rfl) ?_
      refine y_call (z := (0, 243, 2, some 17, xM191)) (av := [.ref this, .int k]) (rest := [.int k, .ref lw]) (y_cokV (n := 1) (ci := 12) X ym_isLawfulX rfl rfl rfl (x_cons (x_bw78 11 rfl rfl) (x_cons (x_bw78 13 rfl rfl) (x_cons (x_at 52 (by decide +kernel) rfl) (x_cons (x_bw0 9 rfl rfl) x_nilm)))) (x_bw78 14 rfl rfl) (by decide +kernel) ⟨Nat.le_of_ble_eq_true rfl, Nat.le_of_ble_eq_true rfl⟩) hY0 hI rfl lsX_d21 hl.1 (Nat.le_of_ble_eq_true rfl) (Nat.le_of_ble_eq_true rfl) (Nat.le_of_ble_eq_true rfl) (y_cons (y_cref hY_this rfl) (y_cons ⟨_, rfl, x_i32 _⟩ y_nil)) rfl (y_recv rfl hY_this) trivial (y_sub_ef rfl) fun v Yn o Hn L ho hr ha hIn hx_ hE hP => ?_
      have hPs := hP _ _ _ _ rfl hs_bk hcn hA_bk _ (m_VR fb (fb 4) (fb 5)) hs_se (fun i hi => by rw [hA_se i (by omega), hVs i hi])
      obtain rfl := hPs
      replace hs_bk := y_Efld hE hY_this rfl (by decide) (by decide) hs_bk
      replace hs_se := y_Efld hE hY_this rfl (by decide) (by decide) hs_se
      replace hs_lw := y_Efld hE hY_this rfl (by decide) (by decide) hs_lw
      replace hA_bk := hA_bk.kept (y_Earr hE hY_bk rfl (by decide))
      replace hA_se := hA_se.kept (y_Earr hE hY_se rfl (by decide))
      replace hA_lw := hA_lw.kept (y_Earr hE hY_lw rfl (by decide))
      replace hY_this := y_ext hx_ hI.1 hY_this
      replace hY_bk := y_ext hx_ hI.1 hY_bk
      replace hY_se := y_ext hx_ hI.1 hY_se
      replace hY_lw := y_ext hx_ hI.1 hY_lw
      generalize hg_r21 : m_b (m_lw (m_VR fb (fb 4) (fb 5)) k (fb 0).toInt.toNat) = r21
      clear ho hr ha hE hP hI hx_
      rename x_I _ _ _ _ _ _ _ _ _ _ => hI
      have h_r21 : 0 ≤ r21.toInt ∧ r21.toInt ≤ 1 := by rw [← hg_r21]; unfold m_b; split <;> decide
      refine y_zast X hY0 hI hY_lw rfl hA_lw (by omega) (by show _ < (1024 : Int); omega) (y_01 (by omega) (by omega)) ⟨_, rfl, by show (0 : Int) ≤ _; omega, by show _ ≤ (1 : Int); omega⟩ (by decide +kernel) lsX_d24 fun H locs hI h_new ho => ?_
      replace hA_lw := h_new
      replace hB_lw := y_upb (i := k.toInt.toNat) (v := r21) hB_lw (by constructor <;> omega)
      generalize hf_f24 : y_up gl k.toInt.toNat r21 = f24 at hA_lw hB_lw
      replace hs_bk := y_slk hs_bk (ho _ (y_ne hY_this hY_lw rfl))
      replace hs_se := y_slk hs_se (ho _ (y_ne hY_this hY_lw rfl))
      replace hs_lw := y_slk hs_lw (ho _ (y_ne hY_this hY_lw rfl))
      replace hA_bk := hA_bk.kept (ho _ (y_ne hY_bk hY_lw rfl))
      replace hA_se := hA_se.kept (ho _ (y_ne hY_se hY_lw rfl))
      obtain ⟨z25, hg_z25⟩ : ∃ z25 : Int32, k + Int32.ofInt 1 = z25 := ⟨_, rfl⟩
      have h_z25 : z25.toInt = k.toInt + 1 := by rw [← hg_z25]; exact y_inc (by decide) (by omega) (by omega)
      refine lv_iinc hx hb lsX_d25 hl (k := 0) rfl hg_z25 (by decide) (lv' := [(1, .int z25), (0, .ref this)]) rfl fun ls hl => ?_
      refine lv_goto hx hb lsX_d28 (tgt := 6) (by decide) ?_
      exact ih _ _ _ _ _ _ _ hI hY_this hY_bk hY_se hY_lw hs_bk hs_se hs_lw hA_bk hA_se hA_lw (lv_sub hl [0, 1] rfl) (by first | assumption | omega) (by first | assumption | omega) (by first | assumption | omega) (fun s9 h9 => by by_cases e9 : s9 = k.toInt.toNat; (rw [e9]; unfold m_gl m_LR; rw [← hf_f24, y_up_at, ← hg_r21, m_nj hk.1]; exact m_gl_b); have h8 := hgl s9 (by omega); unfold m_gl at h8 ⊢; rw [← hf_f24, y_up_ne e9]; exact h8) (by omega)
theorem ym_lawsNow : y_Met vwCl x_G x_Zs x_Tb x_Nb xM204 y_T z_Plws := by
  refine y_main (by decide +kernel) (by decide +kernel) x_Tb_good x_Nb_ok ?_
  intro p l e s m below meth c D U Y0 av ls B hI _ hl
  have X := B.1
  have hx := X.1
  have hb := X.2.1
  have hY0 := B.2.2.2.2.1
  obtain ⟨v0, rfl, hv0⟩ := x_one B.2.2.2.2.2
  obtain ⟨this, t0, rfl, ht0, hY_this⟩ := x_ref_at hv0 rfl
  obtain rfl := List.mem_singleton.mp ht0
  replace hl : lv_has ls xM204.2.2.1 [(0, .ref this)] := hl
  obtain ⟨bk, hs_bk, hY_bk⟩ := y_fldR (k := 0) hI.1 hY_this rfl rfl
  obtain ⟨fb9, hA9, hB9⟩ := y_arr hI.1 hY_bk rfl rfl
  obtain ⟨fb, hcn, hA_bk, hB_bk⟩ := z_canon (Y := Y0) (P := fun j v => x_c Y0 ([xI 0 10, xI 0 8, xI 0 8].getD j xF) (.int v)) hA9 hB9
  clear hA9 hB9 fb9
  have hs0 := hs_bk
  have hA0 := hA_bk
  have hd := z_hdr hB_bk
  have hd0 := hd.1
  have hd1 := hd.2.1
  obtain ⟨se, hs_se, hY_se⟩ := y_fldR (k := 8) hI.1 hY_this rfl rfl
  obtain ⟨lw, hs_lw, hY_lw⟩ := y_fldR (k := 18) hI.1 hY_this rfl rfl
  obtain ⟨gl, hA_lw, hB_lw⟩ := y_arr hI.1 hY_lw rfl rfl
  replace hB_lw : ∀ j, j < 1024 → (0 : Int) ≤ (gl j).toInt ∧ (gl j).toInt ≤ 1 := fun j hj => by obtain ⟨x, e0, e1⟩ := hB_lw j hj; cases e0; exact e1
  have hs8 := hs_se
  have hl8 := hs_lw
  refine lv_aload_n hx hb lsX_d0 rfl (lv_at hl 0 rfl) ?_
  refine y_call (z := (0, 240, 1, some 17, xM186)) (av := [.ref this]) (rest := []) (y_cokV (n := 0) (ci := 12) X ym_looksNow rfl rfl rfl (x_cons (x_bw77 8 rfl rfl) (x_cons (x_bw77 10 rfl rfl) (x_cons (x_at 50 (by decide +kernel) rfl) (x_cons (x_bw0 9 rfl rfl) x_nilm)))) (x_bw77 11 rfl rfl) (by decide +kernel) ⟨Nat.le_of_ble_eq_true rfl, Nat.le_of_ble_eq_true rfl⟩) hY0 hI rfl lsX_d1 hl.1 (Nat.le_of_ble_eq_true rfl) (Nat.le_of_ble_eq_true rfl) (Nat.le_of_ble_eq_true rfl) (y_cons (y_cref hY_this rfl) y_nil) rfl (y_recv rfl hY_this) trivial (y_sub_ef rfl) fun v Yn o Hn L ho hr ha hIn hx_ hE hP => ?_
  have hPs := hP _ _ _ rfl hs_bk hcn hA_bk _ hs_se
  replace hs_bk := y_Efld hE hY_this rfl (by decide) (by decide) hs_bk
  replace hs_se := y_Efld hE hY_this rfl (by decide) (by decide) hs_se
  replace hs_lw := y_Efld hE hY_this rfl (by decide) (by decide) hs_lw
  replace hA_bk := hA_bk.kept (y_Earr hE hY_bk rfl (by decide))
  replace hA_lw := hA_lw.kept (y_Earr hE hY_lw rfl (by decide))
  replace hY_this := y_ext hx_ hI.1 hY_this
  replace hY_bk := y_ext hx_ hI.1 hY_bk
  replace hY_se := y_ext hx_ hI.1 hY_se
  replace hY_lw := y_ext hx_ hI.1 hY_lw
  obtain rfl := y_ansV rfl ho hr
  obtain ⟨fs, hA_se, -⟩ := y_arr hIn.1 hY_se rfl rfl
  have hVs : ∀ i, i < (fb 0).toInt.toNat → fs i = (m_VR fb (fb 4) (fb 5)) i := fun i hi => z_intI (hA_se i (by omega)) (hPs i hi)
  clear ho hr ha hE hP hI hx_
  rename x_I _ _ _ _ _ _ _ _ _ _ => hI
  refine lv_iconst hx hb lsX_d4 (v := 0) (by decide) ?_
  have ec0 : (0 : Int32).toInt = 0 := by decide
  refine lv_istore_n hx hb lsX_d5 rfl hl (by decide) (lv' := [(1, .int (0 : Int32)), (0, .ref this)]) rfl fun ls hl => ?_
  have hz9 := z_all_p hd0
  have hne9 : 0 < (2 ^ (fb 0).toInt.toNat) := Nat.pow_pos (by decide)
  exact lsX_L6 B rfl hs0 hA0 hcn hd0 hs8 hl8 1026 _ _ _ _ _ _ _ hI hY_this hY_bk hY_se hY_lw hs_bk hs_se hs_lw hA_bk hA_se hA_lw (lv_sub hl [0, 1] rfl) (by first | assumption | omega) (by first | assumption | omega) (by first | assumption | omega) (fun s9 h9 => absurd h9 (by omega)) (by omega)
def z_PMro : yP := fun D av _ H v _ H' => ∀ (this bk : Nat) (a b i : Int32) (f : Nat → Int32), av = [.ref this, .int a, .int b, .int i] → x_sl D 12 0 this H = some (.ref bk) → z_c f → y_A bk 160 H f → ∃ r : Int32, v = some (.int r) ∧ m_rowS (m_LR (m_VR f (f 4) (f 5)) (f 0).toInt.toNat) (2 ^ (f 0).toInt.toNat) (m_isS f a ∧ m_isS f b ∧ -1 ≤ i.toInt) a b i r
theorem rwX_d0 : decode xMrw.2.1 0 = .ok (.aload_n 0, 1) := dz_ok (by decide +kernel)
theorem rwX_d1 : decode xMrw.2.1 1 = .ok (.iload_n 1, 1) := dz_ok (by decide +kernel)
theorem rwX_d2 : decode xMrw.2.1 2 = .ok (.invokevirtual 237, 3) := dz_ok (by decide +kernel)
theorem rwX_d5 : decode xMrw.2.1 5 = .ok (.ifCond .eq 16, 3) := dz_ok (by decide +kernel)
theorem rwX_d8 : decode xMrw.2.1 8 = .ok (.aload_n 0, 1) := dz_ok (by decide +kernel)
theorem rwX_d9 : decode xMrw.2.1 9 = .ok (.iload_n 2, 1) := dz_ok (by decide +kernel)
theorem rwX_d10 : decode xMrw.2.1 10 = .ok (.invokevirtual 237, 3) := dz_ok (by decide +kernel)
theorem rwX_d13 : decode xMrw.2.1 13 = .ok (.ifCond .eq 8, 3) := dz_ok (by decide +kernel)
theorem rwX_d16 : decode xMrw.2.1 16 = .ok (.iload_n 3, 1) := dz_ok (by decide +kernel)
theorem rwX_d17 : decode xMrw.2.1 17 = .ok (.iconst (-1), 1) := dz_ok (by decide +kernel)
theorem rwX_d18 : decode xMrw.2.1 18 = .ok (.if_icmp .ge 11, 3) := dz_ok (by decide +kernel)
theorem rwX_d21 : decode xMrw.2.1 21 = .ok (.aload_n 0, 1) := dz_ok (by decide +kernel)
theorem rwX_d22 : decode xMrw.2.1 22 = .ok (.iconst 0, 1) := dz_ok (by decide +kernel)
theorem rwX_d23 : decode xMrw.2.1 23 = .ok (.bipush (-10), 2) := dz_ok (by decide +kernel)
theorem rwX_d25 : decode xMrw.2.1 25 = .ok (.invokevirtual 76, 3) := dz_ok (by decide +kernel)
theorem rwX_d28 : decode xMrw.2.1 28 = .ok (.ireturn, 1) := dz_ok (by decide +kernel)
theorem rwX_d29 : decode xMrw.2.1 29 = .ok (.aload_n 0, 1) := dz_ok (by decide +kernel)
theorem rwX_d30 : decode xMrw.2.1 30 = .ok (.invokevirtual 260, 3) := dz_ok (by decide +kernel)
theorem rwX_d33 : decode xMrw.2.1 33 = .ok (.aload_n 0, 1) := dz_ok (by decide +kernel)
theorem rwX_d34 : decode xMrw.2.1 34 = .ok (.getfield 38, 3) := dz_ok (by decide +kernel)
theorem rwX_d37 : decode xMrw.2.1 37 = .ok (.iload_n 1, 1) := dz_ok (by decide +kernel)
theorem rwX_d38 : decode xMrw.2.1 38 = .ok (.baload, 1) := dz_ok (by decide +kernel)
theorem rwX_d39 : decode xMrw.2.1 39 = .ok (.ifCond .eq 12, 3) := dz_ok (by decide +kernel)
theorem rwX_d42 : decode xMrw.2.1 42 = .ok (.aload_n 0, 1) := dz_ok (by decide +kernel)
theorem rwX_d43 : decode xMrw.2.1 43 = .ok (.getfield 38, 3) := dz_ok (by decide +kernel)
theorem rwX_d46 : decode xMrw.2.1 46 = .ok (.iload_n 2, 1) := dz_ok (by decide +kernel)
theorem rwX_d47 : decode xMrw.2.1 47 = .ok (.baload, 1) := dz_ok (by decide +kernel)
theorem rwX_d48 : decode xMrw.2.1 48 = .ok (.ifCond .ne 11, 3) := dz_ok (by decide +kernel)
theorem rwX_d51 : decode xMrw.2.1 51 = .ok (.aload_n 0, 1) := dz_ok (by decide +kernel)
theorem rwX_d52 : decode xMrw.2.1 52 = .ok (.iconst 1, 1) := dz_ok (by decide +kernel)
theorem rwX_d53 : decode xMrw.2.1 53 = .ok (.bipush (-20), 2) := dz_ok (by decide +kernel)
theorem rwX_d55 : decode xMrw.2.1 55 = .ok (.invokevirtual 76, 3) := dz_ok (by decide +kernel)
theorem rwX_d58 : decode xMrw.2.1 58 = .ok (.ireturn, 1) := dz_ok (by decide +kernel)
theorem rwX_d59 : decode xMrw.2.1 59 = .ok (.aload_n 0, 1) := dz_ok (by decide +kernel)
theorem rwX_d60 : decode xMrw.2.1 60 = .ok (.iload_n 2, 1) := dz_ok (by decide +kernel)
theorem rwX_d61 : decode xMrw.2.1 61 = .ok (.invokevirtual 263, 3) := dz_ok (by decide +kernel)
theorem rwX_d64 : decode xMrw.2.1 64 = .ok (.aload_n 0, 1) := dz_ok (by decide +kernel)
theorem rwX_d65 : decode xMrw.2.1 65 = .ok (.getfield 41, 3) := dz_ok (by decide +kernel)
theorem rwX_d68 : decode xMrw.2.1 68 = .ok (.iload_n 1, 1) := dz_ok (by decide +kernel)
theorem rwX_d69 : decode xMrw.2.1 69 = .ok (.iaload, 1) := dz_ok (by decide +kernel)
theorem rwX_d70 : decode xMrw.2.1 70 = .ok (.iconst (-1), 1) := dz_ok (by decide +kernel)
theorem rwX_d71 : decode xMrw.2.1 71 = .ok (.if_icmp .ne 6, 3) := dz_ok (by decide +kernel)
theorem rwX_d74 : decode xMrw.2.1 74 = .ok (.bipush (-6), 2) := dz_ok (by decide +kernel)
theorem rwX_d76 : decode xMrw.2.1 76 = .ok (.ireturn, 1) := dz_ok (by decide +kernel)
theorem rwX_d77 : decode xMrw.2.1 77 = .ok (.iload_n 3, 1) := dz_ok (by decide +kernel)
theorem rwX_d78 : decode xMrw.2.1 78 = .ok (.iconst (-1), 1) := dz_ok (by decide +kernel)
theorem rwX_d79 : decode xMrw.2.1 79 = .ok (.if_icmp .ne 10, 3) := dz_ok (by decide +kernel)
theorem rwX_d82 : decode xMrw.2.1 82 = .ok (.aload_n 0, 1) := dz_ok (by decide +kernel)
theorem rwX_d83 : decode xMrw.2.1 83 = .ok (.getfield 41, 3) := dz_ok (by decide +kernel)
theorem rwX_d86 : decode xMrw.2.1 86 = .ok (.iload_n 1, 1) := dz_ok (by decide +kernel)
theorem rwX_d87 : decode xMrw.2.1 87 = .ok (.iaload, 1) := dz_ok (by decide +kernel)
theorem rwX_d88 : decode xMrw.2.1 88 = .ok (.ireturn, 1) := dz_ok (by decide +kernel)
theorem rwX_d89 : decode xMrw.2.1 89 = .ok (.iload_n 3, 1) := dz_ok (by decide +kernel)
theorem rwX_d90 : decode xMrw.2.1 90 = .ok (.aload_n 0, 1) := dz_ok (by decide +kernel)
theorem rwX_d91 : decode xMrw.2.1 91 = .ok (.getfield 41, 3) := dz_ok (by decide +kernel)
theorem rwX_d94 : decode xMrw.2.1 94 = .ok (.iload_n 1, 1) := dz_ok (by decide +kernel)
theorem rwX_d95 : decode xMrw.2.1 95 = .ok (.iaload, 1) := dz_ok (by decide +kernel)
theorem rwX_d96 : decode xMrw.2.1 96 = .ok (.if_icmp .le 6, 3) := dz_ok (by decide +kernel)
theorem rwX_d99 : decode xMrw.2.1 99 = .ok (.bipush (-5), 2) := dz_ok (by decide +kernel)
theorem rwX_d101 : decode xMrw.2.1 101 = .ok (.ireturn, 1) := dz_ok (by decide +kernel)
theorem rwX_d102 : decode xMrw.2.1 102 = .ok (.iload_n 1, 1) := dz_ok (by decide +kernel)
theorem rwX_d103 : decode xMrw.2.1 103 = .ok (.istore 4, 2) := dz_ok (by decide +kernel)
theorem rwX_d105 : decode xMrw.2.1 105 = .ok (.iconst 0, 1) := dz_ok (by decide +kernel)
theorem rwX_d106 : decode xMrw.2.1 106 = .ok (.istore 5, 2) := dz_ok (by decide +kernel)
theorem rwX_d108 : decode xMrw.2.1 108 = .ok (.iload 5, 2) := dz_ok (by decide +kernel)
theorem rwX_d110 : decode xMrw.2.1 110 = .ok (.iload_n 3, 1) := dz_ok (by decide +kernel)
theorem rwX_d111 : decode xMrw.2.1 111 = .ok (.if_icmp .ge 61, 3) := dz_ok (by decide +kernel)
theorem rwX_d114 : decode xMrw.2.1 114 = .ok (.iconst 0, 1) := dz_ok (by decide +kernel)
theorem rwX_d115 : decode xMrw.2.1 115 = .ok (.istore 6, 2) := dz_ok (by decide +kernel)
theorem rwX_d117 : decode xMrw.2.1 117 = .ok (.aload_n 0, 1) := dz_ok (by decide +kernel)
theorem rwX_d118 : decode xMrw.2.1 118 = .ok (.getfield 38, 3) := dz_ok (by decide +kernel)
theorem rwX_d121 : decode xMrw.2.1 121 = .ok (.iload 6, 2) := dz_ok (by decide +kernel)
theorem rwX_d123 : decode xMrw.2.1 123 = .ok (.baload, 1) := dz_ok (by decide +kernel)
theorem rwX_d124 : decode xMrw.2.1 124 = .ok (.ifCond .eq 32, 3) := dz_ok (by decide +kernel)
theorem rwX_d127 : decode xMrw.2.1 127 = .ok (.aload_n 0, 1) := dz_ok (by decide +kernel)
theorem rwX_d128 : decode xMrw.2.1 128 = .ok (.getfield 41, 3) := dz_ok (by decide +kernel)
theorem rwX_d131 : decode xMrw.2.1 131 = .ok (.iload 6, 2) := dz_ok (by decide +kernel)
theorem rwX_d133 : decode xMrw.2.1 133 = .ok (.iaload, 1) := dz_ok (by decide +kernel)
theorem rwX_d134 : decode xMrw.2.1 134 = .ok (.aload_n 0, 1) := dz_ok (by decide +kernel)
theorem rwX_d135 : decode xMrw.2.1 135 = .ok (.getfield 41, 3) := dz_ok (by decide +kernel)
theorem rwX_d138 : decode xMrw.2.1 138 = .ok (.iload 4, 2) := dz_ok (by decide +kernel)
theorem rwX_d140 : decode xMrw.2.1 140 = .ok (.iaload, 1) := dz_ok (by decide +kernel)
theorem rwX_d141 : decode xMrw.2.1 141 = .ok (.iconst 1, 1) := dz_ok (by decide +kernel)
theorem rwX_d142 : decode xMrw.2.1 142 = .ok (.isub, 1) := dz_ok (by decide +kernel)
theorem rwX_d143 : decode xMrw.2.1 143 = .ok (.if_icmp .ne 13, 3) := dz_ok (by decide +kernel)
theorem rwX_d146 : decode xMrw.2.1 146 = .ok (.iload 4, 2) := dz_ok (by decide +kernel)
theorem rwX_d148 : decode xMrw.2.1 148 = .ok (.iload 6, 2) := dz_ok (by decide +kernel)
theorem rwX_d150 : decode xMrw.2.1 150 = .ok (.invokestatic 257, 3) := dz_ok (by decide +kernel)
theorem rwX_d153 : decode xMrw.2.1 153 = .ok (.ifCond .ne 9, 3) := dz_ok (by decide +kernel)
theorem rwX_d156 : decode xMrw.2.1 156 = .ok (.iinc 6 1, 3) := dz_ok (by decide +kernel)
theorem rwX_d159 : decode xMrw.2.1 159 = .ok (.goto (-42), 3) := dz_ok (by decide +kernel)
theorem rwX_d162 : decode xMrw.2.1 162 = .ok (.iload 6, 2) := dz_ok (by decide +kernel)
theorem rwX_d164 : decode xMrw.2.1 164 = .ok (.istore 4, 2) := dz_ok (by decide +kernel)
theorem rwX_d166 : decode xMrw.2.1 166 = .ok (.iinc 5 1, 3) := dz_ok (by decide +kernel)
theorem rwX_d169 : decode xMrw.2.1 169 = .ok (.goto (-61), 3) := dz_ok (by decide +kernel)
theorem rwX_d172 : decode xMrw.2.1 172 = .ok (.iload 4, 2) := dz_ok (by decide +kernel)
theorem rwX_d174 : decode xMrw.2.1 174 = .ok (.ireturn, 1) := dz_ok (by decide +kernel)
theorem rwX_L117 {p : Program} {l : Launch} {e : Env} {s : State} {m : MethodId} {below : List Frame} {meth : Method} {c : Code} {D : va_G} {U : State} {Y0 : xY} {av : List Value} (B : y_B vwCl x_Tb x_Nb xMrw p s m meth c D U Y0 av) {this bk lw fr : Nat} {a b i : Int32} {fb : Nat → Int32} (hav : av = [.ref this, .int a, .int b, .int i]) (hs0 : x_sl D 12 0 this s.heap = some (.ref bk)) (hA0 : y_A bk 160 s.heap fb) (hcn : z_c fb) (hd0 : 0 ≤ (fb 0).toInt ∧ (fb 0).toInt ≤ 10) (hok : m_isS fb a ∧ m_isS fb b ∧ -1 ≤ i.toInt) {gl ff : Nat → Int32} (hgl : ∀ s9, s9 < (2 ^ (fb 0).toInt.toNat) → m_gl gl s9 = (m_LR (m_VR fb (fb 4) (fb 5)) (fb 0).toInt.toNat) s9) (hD : m_D (m_LR (m_VR fb (fb 4) (fb 5)) (fb 0).toInt.toNat) (2 ^ (fb 0).toInt.toNat) b.toInt.toNat ff) (hB_lw : ∀ j, j < 1024 → (0 : Int) ≤ (gl j).toInt ∧ (gl j).toInt ≤ 1) (hla : (m_LR (m_VR fb (fb 4) (fb 5)) (fb 0).toInt.toNat) a.toInt.toNat = true) (hlb : (m_LR (m_VR fb (fb 4) (fb 5)) (fb 0).toInt.toNat) b.toInt.toNat = true) (hia : 0 ≤ i.toInt ∧ i.toInt ≤ (ff a.toInt.toNat).toInt) {k se : Int32} (hk : 0 ≤ k.toInt ∧ k.toInt < i.toInt) (hse : 0 ≤ se.toInt ∧ se.toInt.toNat < (2 ^ (fb 0).toInt.toNat)) (hp : m_pth (m_LR (m_VR fb (fb 4) (fb 5)) (fb 0).toInt.toNat) (2 ^ (fb 0).toInt.toNat) ff k.toInt.toNat a.toInt.toNat se.toInt.toNat) (hfs : (ff se.toInt.toNat).toInt = (ff a.toInt.toNat).toInt - k.toInt) (hex : ∃ x, m_nxR (m_LR (m_VR fb (fb 4) (fb 5)) (fb 0).toInt.toNat) (2 ^ (fb 0).toInt.toNat) ff se.toInt.toNat x)
    (out108 : ∀ (H : Heap) (Y : xY) (locs : List Loc) (ls : Array Slot) (k1 : Int32) (se1 : Int32), x_I D x_G x_Zs U (x_efs xMrw) Y0 s.heap Y H locs → Y this = some 17 → Y bk = some 46 → Y lw = some 55 → Y fr = some 56 → x_sl D 12 0 this H = some (.ref bk) → x_sl D 12 18 this H = some (.ref lw) → x_sl D 12 19 this H = some (.ref fr) → y_A bk 160 H fb → y_A lw 1024 H gl → y_A fr 1024 H ff → lv_has ls xMrw.2.2.1 [(5, .int k1), (4, .int se1), (0, .ref this), (1, .int a), (2, .int b), (3, .int i)] → (0 ≤ k1.toInt ∧ k1.toInt ≤ i.toInt) → (0 ≤ se1.toInt ∧ se1.toInt.toNat < (2 ^ (fb 0).toInt.toNat)) → (m_pth (m_LR (m_VR fb (fb 4) (fb 5)) (fb 0).toInt.toNat) (2 ^ (fb 0).toInt.toNat) ff k1.toInt.toNat a.toInt.toNat se1.toInt.toNat) → ((ff se1.toInt.toNat).toInt = (ff a.toInt.toNat).toInt - k1.toInt) → (k1.toInt = k.toInt + 1) → W p l e (x_rm xMrw) s m av.toArray below meth c H locs 0 0 (y_QQ below D x_G x_Zs U xMrw z_PMro av Y0 s) (F0 m 108 ls [])) :
    ∀ (n : Nat), ∀ (H : Heap) (Y : xY) (locs : List Loc) (ls : Array Slot) (nx : Int32), x_I D x_G x_Zs U (x_efs xMrw) Y0 s.heap Y H locs → Y this = some 17 → Y bk = some 46 → Y lw = some 55 → Y fr = some 56 → x_sl D 12 0 this H = some (.ref bk) → x_sl D 12 18 this H = some (.ref lw) → x_sl D 12 19 this H = some (.ref fr) → y_A bk 160 H fb → y_A lw 1024 H gl → y_A fr 1024 H ff → lv_has ls xMrw.2.2.1 [(6, .int nx), (5, .int k), (4, .int se), (0, .ref this), (1, .int a), (2, .int b), (3, .int i)] → (0 ≤ nx.toInt ∧ nx.toInt ≤ 1024) → (∀ s9 : Nat, (s9 : Int) < nx.toInt → ¬ m_nx0 (m_LR (m_VR fb (fb 4) (fb 5)) (fb 0).toInt.toNat) ff se.toInt.toNat s9) → (1025 - nx.toInt).toNat < n → W p l e (x_rm xMrw) s m av.toArray below meth c H locs 0 0 (y_QQ below D x_G x_Zs U xMrw z_PMro av Y0 s) (F0 m 117 ls []) := by
  have X := B.1
  have hx := X.1
  have hb := X.2.1
  have hY0 := B.2.2.2.2.1
  intro n
  induction n with
  | zero => intro _ _ _ _ _ _ _ _ _ _ _ _ _ _ _ _ _ _ _ h; exact absurd h (Nat.not_lt_zero _)
  | succ n ih =>
    intro H Y locs ls nx  hI hY_this hY_bk hY_lw hY_fr hs_bk hs_lw hs_fr hA_bk hA_lw hA_fr hl hnx hno9 hn
    have hz9 := z_all_p hd0
    have hpw : (2 ^ (fb 0).toInt.toNat) ≤ 1024 := Nat.pow_le_pow_right (n := 2) (by decide) (show (fb 0).toInt.toNat ≤ 10 by omega)
    have hsa := hok.1
    unfold m_isS at hsa
    have hxi := x_rng i
    obtain ⟨x9, hx9⟩ := id hex
    have hx8 := hx9.1
    have hle9 : nx.toInt.toNat ≤ x9 := Nat.not_lt.mp (fun h => hno9 x9 (by omega) hx9.2.1)
    refine lv_aload_n hx hb rwX_d117 rfl (lv_at hl 3 rfl) ?_
    refine y_getf X (fl200 X.2.2.2.2.1) hI.1 hY_this rfl hs_lw rwX_d118 ?_
    refine lv_iload hx hb rwX_d121 (lv_at hl 0 rfl) ?_
    refine y_zald X hI.1 hY_lw rfl hA_lw (by omega) (by show _ < (1024 : Int); omega) rwX_d123 ?_
    obtain ⟨e123, hg_e123⟩ : ∃ e123 : Int32, gl nx.toInt.toNat = e123 := ⟨_, rfl⟩
    rw [hg_e123]
    have h_e123 : (0 : Int) ≤ e123.toInt ∧ e123.toInt ≤ 1 := by rw [← hg_e123]; exact hB_lw _ (by omega)
    have ec0 : (0 : Int32).toInt = 0 := by decide
    refine lv_if_eq hx hb rwX_d124 (tgt := 156) (by decide) (fun q124 => ?_) (fun q124 => ?_)
    · have q124_ : e123.toInt = (0 : Int32).toInt := by rw [q124]
      obtain ⟨z156, hg_z156⟩ : ∃ z156 : Int32, nx + Int32.ofInt 1 = z156 := ⟨_, rfl⟩
      have h_z156 : z156.toInt = nx.toInt + 1 := by rw [← hg_z156]; exact y_inc (by decide) (by omega) (by omega)
      refine lv_iinc hx hb rwX_d156 hl (k := 0) rfl hg_z156 (by decide) (lv' := [(6, .int z156), (5, .int k), (4, .int se), (0, .ref this), (1, .int a), (2, .int b), (3, .int i)]) rfl fun ls hl => ?_
      refine lv_goto hx hb rwX_d159 (tgt := 117) (by decide) ?_
      exact ih _ _ _ _ _ hI hY_this hY_bk hY_lw hY_fr hs_bk hs_lw hs_fr hA_bk hA_lw hA_fr (lv_sub hl [0, 1, 2, 3, 4, 5, 6] rfl) (by first | exact ⟨by omega, by omega⟩) (fun s9 h9 => by
                            by_cases e9 : s9 = nx.toInt.toNat
                            · rw [e9]
                              intro h7
                              have hl7 : m_gl gl nx.toInt.toNat = true := (hgl _ (by omega)).trans h7.1
                              unfold m_gl at hl7
                              rw [hg_e123] at hl7
                              have h6 := h7.2.1
                              have h5 := h7.2.2
                              unfold m_st at h5
                              rw [m_nj hse.1, m_nj hnx.1] at h5
                              first
                                | (rw [decide_eq_true (show e123 = 0 by assumption)] at hl7; cases hl7)
                                | (rw [hg_e133] at h6; exact absurd (show e133 = z142 from Int32.toInt_inj.mp (by omega)) (by assumption))
                                | exact absurd h5 (hns_r150 (by assumption))
                            · exact hno9 s9 (by omega)) (by omega)
    · have q124_ : ¬ e123.toInt = (0 : Int32).toInt := fun q => q124 (Int32.toInt_inj.mp q)
      refine lv_aload_n hx hb rwX_d127 rfl (lv_at hl 3 rfl) ?_
      refine y_getf X (fl211 X.2.2.2.2.1) hI.1 hY_this rfl hs_fr rwX_d128 ?_
      refine lv_iload hx hb rwX_d131 (lv_at hl 0 rfl) ?_
      refine y_iald X hI.1 hY_fr rfl hA_fr (by omega) (by show _ < (1024 : Int); omega) rwX_d133 ?_
      obtain ⟨e133, hg_e133⟩ : ∃ e133 : Int32, ff nx.toInt.toNat = e133 := ⟨_, rfl⟩
      rw [hg_e133]
      refine lv_aload_n hx hb rwX_d134 rfl (lv_at hl 3 rfl) ?_
      refine y_getf X (fl211 X.2.2.2.2.1) hI.1 hY_this rfl hs_fr rwX_d135 ?_
      refine lv_iload hx hb rwX_d138 (lv_at hl 2 rfl) ?_
      refine y_iald X hI.1 hY_fr rfl hA_fr (by omega) (by show _ < (1024 : Int); omega) rwX_d140 ?_
      obtain ⟨e140, hg_e140⟩ : ∃ e140 : Int32, ff se.toInt.toNat = e140 := ⟨_, rfl⟩
      rw [hg_e140]
      refine lv_iconst hx hb rwX_d141 (v := 1) (by decide) ?_
      have ec1 : (1 : Int32).toInt = 1 := by decide
      have h9e : (ff se.toInt.toNat).toInt = e140.toInt := by rw [hg_e140]
      have h9r := x_rng e140
      refine lv_isub hx hb rwX_d142 ?_
      generalize hg_z142 : e140 - (1 : Int32) = z142
      have h_z142 : z142.toInt = e140.toInt - 1 := by rw [← hg_z142]; have := y_sub (x := e140) (y := (1 : Int32)) (by rw [ec1]; omega) (by rw [ec1]; omega); rw [ec1] at this; exact this
      refine lv_icmp_ne hx hb rwX_d143 (tgt := 156) (by decide) (fun q143 => ?_) (fun q143 => ?_)
      · have q143_ : ¬ e133.toInt = z142.toInt := fun q => q143 (Int32.toInt_inj.mp q)
        obtain ⟨z156, hg_z156⟩ : ∃ z156 : Int32, nx + Int32.ofInt 1 = z156 := ⟨_, rfl⟩
        have h_z156 : z156.toInt = nx.toInt + 1 := by rw [← hg_z156]; exact y_inc (by decide) (by omega) (by omega)
        refine lv_iinc hx hb rwX_d156 hl (k := 0) rfl hg_z156 (by decide) (lv' := [(6, .int z156), (5, .int k), (4, .int se), (0, .ref this), (1, .int a), (2, .int b), (3, .int i)]) rfl fun ls hl => ?_
        refine lv_goto hx hb rwX_d159 (tgt := 117) (by decide) ?_
        exact ih _ _ _ _ _ hI hY_this hY_bk hY_lw hY_fr hs_bk hs_lw hs_fr hA_bk hA_lw hA_fr (lv_sub hl [0, 1, 2, 3, 4, 5, 6] rfl) (by first | exact ⟨by omega, by omega⟩) (fun s9 h9 => by
                            by_cases e9 : s9 = nx.toInt.toNat
                            · rw [e9]
                              intro h7
                              have hl7 : m_gl gl nx.toInt.toNat = true := (hgl _ (by omega)).trans h7.1
                              unfold m_gl at hl7
                              rw [hg_e123] at hl7
                              have h6 := h7.2.1
                              have h5 := h7.2.2
                              unfold m_st at h5
                              rw [m_nj hse.1, m_nj hnx.1] at h5
                              first
                                | (rw [decide_eq_true (show e123 = 0 by assumption)] at hl7; cases hl7)
                                | (rw [hg_e133] at h6; exact absurd (show e133 = z142 from Int32.toInt_inj.mp (by omega)) (by assumption))
                                | exact absurd h5 (hns_r150 (by assumption))
                            · exact hno9 s9 (by omega)) (by omega)
      · have q143_ : e133.toInt = z142.toInt := by rw [q143]
        refine lv_iload hx hb rwX_d146 (lv_at hl 2 rfl) ?_
        refine lv_iload hx hb rwX_d148 (lv_at hl 0 rfl) ?_
        refine y_call (z := (1, 257, 2, none, xM205)) (av := [.int se, .int nx]) (rest := []) (y_cokS (n := 2) X ym_isStep (x_cons (x_bw82 1 rfl rfl) (x_cons (x_bw82 2 rfl rfl) (x_cons (x_bw0 9 rfl rfl) x_nilm))) (x_bw82 3 rfl rfl) (by decide +kernel) ⟨Nat.le_of_ble_eq_true rfl, Nat.le_of_ble_eq_true rfl⟩) hY0 hI rfl rwX_d150 hl.1 (Nat.le_of_ble_eq_true rfl) (Nat.le_of_ble_eq_true rfl) (Nat.le_of_ble_eq_true rfl) (y_cons ⟨_, rfl, x_i32 _⟩ (y_cons ⟨_, rfl, x_i32 _⟩ y_nil)) rfl (y_norecv rfl) trivial (y_sub_ef rfl) fun v Yn o Hn L ho hr ha hIn hx_ hE hP => ?_
        replace hs_bk := y_Efld hE hY_this rfl (by decide) (by decide) hs_bk
        replace hs_lw := y_Efld hE hY_this rfl (by decide) (by decide) hs_lw
        replace hs_fr := y_Efld hE hY_this rfl (by decide) (by decide) hs_fr
        replace hA_bk := hA_bk.kept (y_Earr hE hY_bk rfl (by decide))
        replace hA_lw := hA_lw.kept (y_Earr hE hY_lw rfl (by decide))
        replace hA_fr := hA_fr.kept (y_Earr hE hY_fr rfl (by decide))
        replace hY_this := y_ext hx_ hI.1 hY_this
        replace hY_bk := y_ext hx_ hI.1 hY_bk
        replace hY_lw := y_ext hx_ hI.1 hY_lw
        replace hY_fr := y_ext hx_ hI.1 hY_fr
        obtain ⟨r150, rfl, hst_r150, hns_r150⟩ : ∃ r : Int32, v = some (.int r) ∧ (¬ r = 0 → z_step se nx) ∧ (r = 0 → ¬ z_step se nx) := z_stepR (hP _ _ rfl)
        clear ho hr ha hE hP hI hx_
        rename x_I _ _ _ _ _ _ _ _ _ _ => hI
        refine lv_if_ne hx hb rwX_d153 (tgt := 162) (by decide) (fun q153 => ?_) (fun q153 => ?_)
        · have q153_ : ¬ r150.toInt = (0 : Int32).toInt := fun q => q153 (Int32.toInt_inj.mp q)
          refine lv_iload hx hb rwX_d162 (lv_at hl 0 rfl) ?_
          refine lv_istore hx hb rwX_d164 hl (by decide) (lv' := [(4, .int nx), (6, .int nx), (5, .int k), (0, .ref this), (1, .int a), (2, .int b), (3, .int i)]) rfl fun ls hl => ?_
          obtain ⟨z166, hg_z166⟩ : ∃ z166 : Int32, k + Int32.ofInt 1 = z166 := ⟨_, rfl⟩
          have h_z166 : z166.toInt = k.toInt + 1 := by rw [← hg_z166]; exact y_inc (by decide) (by omega) (by omega)
          refine lv_iinc hx hb rwX_d166 hl (k := 2) rfl hg_z166 (by decide) (lv' := [(5, .int z166), (4, .int nx), (6, .int nx), (0, .ref this), (1, .int a), (2, .int b), (3, .int i)]) rfl fun ls hl => ?_
          refine lv_goto hx hb rwX_d169 (tgt := 108) (by decide) ?_
          have hl7 : (m_LR (m_VR fb (fb 4) (fb 5)) (fb 0).toInt.toNat) nx.toInt.toNat = true := by rw [← hgl _ (by omega)]; unfold m_gl; rw [hg_e123, decide_eq_false (show ¬ e123 = 0 by assumption)]; rfl
          have h6 : (ff nx.toInt.toNat).toInt = (ff se.toInt.toNat).toInt - 1 := by rw [hg_e133, show e133 = z142 by assumption]; omega
          have h5 : m_st se.toInt.toNat nx.toInt.toNat := by unfold m_st; rw [m_nj hse.1, m_nj hnx.1]; exact hst_r150 (by assumption)
          have hn5 : m_nxR (m_LR (m_VR fb (fb 4) (fb 5)) (fb 0).toInt.toNat) (2 ^ (fb 0).toInt.toNat) ff se.toInt.toNat nx.toInt.toNat := ⟨by omega, ⟨hl7, h6, h5⟩, fun s9 h9 => hno9 s9 (by omega)⟩
          have his : z166.toInt.toNat = k.toInt.toNat + 1 := by omega
          exact out108 _ _ _ _ _ _ hI hY_this hY_bk hY_lw hY_fr hs_bk hs_lw hs_fr hA_bk hA_lw hA_fr (lv_sub hl [0, 1, 3, 4, 5, 6] rfl) (by first | assumption | omega) ⟨hnx.1, by omega⟩ (by rw [his]; exact ⟨_, hp, hn5⟩) (by omega) (by omega)
        · have q153_ : r150.toInt = (0 : Int32).toInt := by rw [q153]
          obtain ⟨z156, hg_z156⟩ : ∃ z156 : Int32, nx + Int32.ofInt 1 = z156 := ⟨_, rfl⟩
          have h_z156 : z156.toInt = nx.toInt + 1 := by rw [← hg_z156]; exact y_inc (by decide) (by omega) (by omega)
          refine lv_iinc hx hb rwX_d156 hl (k := 0) rfl hg_z156 (by decide) (lv' := [(6, .int z156), (5, .int k), (4, .int se), (0, .ref this), (1, .int a), (2, .int b), (3, .int i)]) rfl fun ls hl => ?_
          refine lv_goto hx hb rwX_d159 (tgt := 117) (by decide) ?_
          exact ih _ _ _ _ _ hI hY_this hY_bk hY_lw hY_fr hs_bk hs_lw hs_fr hA_bk hA_lw hA_fr (lv_sub hl [0, 1, 2, 3, 4, 5, 6] rfl) (by first | exact ⟨by omega, by omega⟩) (fun s9 h9 => by
                            by_cases e9 : s9 = nx.toInt.toNat
                            · rw [e9]
                              intro h7
                              have hl7 : m_gl gl nx.toInt.toNat = true := (hgl _ (by omega)).trans h7.1
                              unfold m_gl at hl7
                              rw [hg_e123] at hl7
                              have h6 := h7.2.1
                              have h5 := h7.2.2
                              unfold m_st at h5
                              rw [m_nj hse.1, m_nj hnx.1] at h5
                              first
                                | (rw [decide_eq_true (show e123 = 0 by assumption)] at hl7; cases hl7)
                                | (rw [hg_e133] at h6; exact absurd (show e133 = z142 from Int32.toInt_inj.mp (by omega)) (by assumption))
                                | exact absurd h5 (hns_r150 (by assumption))
                            · exact hno9 s9 (by omega)) (by omega)
theorem rwX_L108 {p : Program} {l : Launch} {e : Env} {s : State} {m : MethodId} {below : List Frame} {meth : Method} {c : Code} {D : va_G} {U : State} {Y0 : xY} {av : List Value} (B : y_B vwCl x_Tb x_Nb xMrw p s m meth c D U Y0 av) {this bk lw fr : Nat} {a b i : Int32} {fb : Nat → Int32} (hav : av = [.ref this, .int a, .int b, .int i]) (hs0 : x_sl D 12 0 this s.heap = some (.ref bk)) (hA0 : y_A bk 160 s.heap fb) (hcn : z_c fb) (hd0 : 0 ≤ (fb 0).toInt ∧ (fb 0).toInt ≤ 10) (hok : m_isS fb a ∧ m_isS fb b ∧ -1 ≤ i.toInt) {gl ff : Nat → Int32} (hgl : ∀ s9, s9 < (2 ^ (fb 0).toInt.toNat) → m_gl gl s9 = (m_LR (m_VR fb (fb 4) (fb 5)) (fb 0).toInt.toNat) s9) (hD : m_D (m_LR (m_VR fb (fb 4) (fb 5)) (fb 0).toInt.toNat) (2 ^ (fb 0).toInt.toNat) b.toInt.toNat ff) (hB_lw : ∀ j, j < 1024 → (0 : Int) ≤ (gl j).toInt ∧ (gl j).toInt ≤ 1) (hla : (m_LR (m_VR fb (fb 4) (fb 5)) (fb 0).toInt.toNat) a.toInt.toNat = true) (hlb : (m_LR (m_VR fb (fb 4) (fb 5)) (fb 0).toInt.toNat) b.toInt.toNat = true) (hia : 0 ≤ i.toInt ∧ i.toInt ≤ (ff a.toInt.toNat).toInt) :
    ∀ (n : Nat), ∀ (H : Heap) (Y : xY) (locs : List Loc) (ls : Array Slot) (k : Int32) (se : Int32), x_I D x_G x_Zs U (x_efs xMrw) Y0 s.heap Y H locs → Y this = some 17 → Y bk = some 46 → Y lw = some 55 → Y fr = some 56 → x_sl D 12 0 this H = some (.ref bk) → x_sl D 12 18 this H = some (.ref lw) → x_sl D 12 19 this H = some (.ref fr) → y_A bk 160 H fb → y_A lw 1024 H gl → y_A fr 1024 H ff → lv_has ls xMrw.2.2.1 [(5, .int k), (4, .int se), (0, .ref this), (1, .int a), (2, .int b), (3, .int i)] → (0 ≤ k.toInt ∧ k.toInt ≤ i.toInt) → (0 ≤ se.toInt ∧ se.toInt.toNat < (2 ^ (fb 0).toInt.toNat)) → (m_pth (m_LR (m_VR fb (fb 4) (fb 5)) (fb 0).toInt.toNat) (2 ^ (fb 0).toInt.toNat) ff k.toInt.toNat a.toInt.toNat se.toInt.toNat) → ((ff se.toInt.toNat).toInt = (ff a.toInt.toNat).toInt - k.toInt) → (i.toInt - k.toInt).toNat < n → W p l e (x_rm xMrw) s m av.toArray below meth c H locs 0 0 (y_QQ below D x_G x_Zs U xMrw z_PMro av Y0 s) (F0 m 108 ls []) := by
  have X := B.1
  have hx := X.1
  have hb := X.2.1
  have hY0 := B.2.2.2.2.1
  intro n
  induction n with
  | zero => intro _ _ _ _ _ _ _ _ _ _ _ _ _ _ _ _ _ _ _ _ _ _ h; exact absurd h (Nat.not_lt_zero _)
  | succ n ih =>
    intro H Y locs ls k se  hI hY_this hY_bk hY_lw hY_fr hs_bk hs_lw hs_fr hA_bk hA_lw hA_fr hl hk hse hp hfs hn
    have hz9 := z_all_p hd0
    have hpw : (2 ^ (fb 0).toInt.toNat) ≤ 1024 := Nat.pow_le_pow_right (n := 2) (by decide) (show (fb 0).toInt.toNat ≤ 10 by omega)
    have hsa := hok.1
    unfold m_isS at hsa
    have hxi := x_rng i
    refine lv_iload hx hb rwX_d108 (lv_at hl 0 rfl) ?_
    refine lv_iload_n hx hb rwX_d110 rfl (lv_at hl 5 rfl) ?_
    refine lv_icmp_ge hx hb rwX_d111 (tgt := 172) (by decide) (fun q111 => ?_) (fun q111 => ?_)
    · have q111_ : i.toInt ≤ k.toInt := x_le32.mp q111
      refine lv_iload hx hb rwX_d172 (lv_at hl 1 rfl) ?_
      have ek9 : k.toInt.toNat = i.toInt.toNat := by omega
      rw [ek9] at hp
      have hi1 : ¬ i = -1 := fun q9 => by have h9 := congrArg Int32.toInt q9; rw [m_cm1] at h9; omega
      subst hav
      exact y_ireturn B hI rfl rfl rfl List.mem_cons_self ⟨_, rfl, ⟨_, rfl, x_i32 _⟩⟩ (x_cs.mono B.2.2.2.2.2 (y_mon B hI)) (fun t' b' w0' w1' w2' f' h1 h2 h3 h4 => by cases h1; cases h2.symm.trans hs0; cases z_uniq h4 hA0 h3 hcn; exact ⟨_, rfl, fun _ _ _ => ⟨ff, hD, fun q9 => by exfalso; omega, fun _ => ⟨fun q9 => absurd q9 hi1, fun _ => ⟨fun q9 => by exfalso; omega, fun _ => ⟨(m_nj hse.1).symm, hp⟩⟩⟩⟩, fun _ q9 => absurd ⟨hla, hlb⟩ q9, fun q9 => absurd hok q9⟩) (Nat.le_refl _) (Nat.le_refl _) rwX_d174
    · have q111_ : k.toInt < i.toInt := Int.not_le.mp fun q => q111 (x_le32.mpr q)
      refine lv_iconst hx hb rwX_d114 (v := 0) (by decide) ?_
      have ec0 : (0 : Int32).toInt = 0 := by decide
      refine lv_istore hx hb rwX_d115 hl (by decide) (lv' := [(6, .int (0 : Int32)), (5, .int k), (4, .int se), (0, .ref this), (1, .int a), (2, .int b), (3, .int i)]) rfl fun ls hl => ?_
      have hpos : 1 ≤ (ff se.toInt.toNat).toInt := by omega
      exact rwX_L117 B hav hs0 hA0 hcn hd0 hok hgl hD hB_lw hla hlb hia ⟨hk.1, by omega⟩ hse hp hfs (hD.nx hse.2 hpos) (fun H Y locs ls k1 se1 hI hY_this hY_bk hY_lw hY_fr hs_bk hs_lw hs_fr hA_bk hA_lw hA_fr hl hk hse hp hfs h_k1 => ih _ _ _ _ _ _ hI hY_this hY_bk hY_lw hY_fr hs_bk hs_lw hs_fr hA_bk hA_lw hA_fr hl ⟨by omega, by omega⟩ hse hp hfs (by omega)) 1026 _ _ _ _ _ hI hY_this hY_bk hY_lw hY_fr hs_bk hs_lw hs_fr hA_bk hA_lw hA_fr (lv_sub hl [0, 1, 2, 3, 4, 5, 6] rfl) (by first | assumption | omega) (fun s9 h9 => absurd h9 (by omega)) (by omega)
theorem ym_rowM : y_Met vwCl x_G x_Zs x_Tb x_Nb xMrw y_T z_PMro := by
  refine y_main (by decide +kernel) (by decide +kernel) x_Tb_good x_Nb_ok ?_
  intro p l e s m below meth c D U Y0 av ls B hI _ hl
  have X := B.1
  have hx := X.1
  have hb := X.2.1
  have hY0 := B.2.2.2.2.1
  obtain ⟨v0, v1, v2, v3, rfl, hv0, ⟨a, rfl, -⟩, ⟨b, rfl, -⟩, ⟨i, rfl, -⟩⟩ := y_four B.2.2.2.2.2
  obtain ⟨this, t0, rfl, ht0, hY_this⟩ := x_ref_at hv0 rfl
  obtain rfl := List.mem_singleton.mp ht0
  replace hl : lv_has ls xMrw.2.2.1 [(0, .ref this), (1, .int a), (2, .int b), (3, .int i)] := hl
  obtain ⟨bk, hs_bk, hY_bk⟩ := y_fldR (k := 0) hI.1 hY_this rfl rfl
  obtain ⟨fb9, hA9, hB9⟩ := y_arr hI.1 hY_bk rfl rfl
  obtain ⟨fb, hcn, hA_bk, hB_bk⟩ := z_canon (Y := Y0) (P := fun j v => x_c Y0 ([xI 0 10, xI 0 8, xI 0 8].getD j xF) (.int v)) hA9 hB9
  clear hA9 hB9 fb9
  have hs0 := hs_bk
  have hA0 := hA_bk
  have hd := z_hdr hB_bk
  have hd0 := hd.1
  have hd1 := hd.2.1
  obtain ⟨se, hs_se, hY_se⟩ := y_fldR (k := 8) hI.1 hY_this rfl rfl
  obtain ⟨lw, hs_lw, hY_lw⟩ := y_fldR (k := 18) hI.1 hY_this rfl rfl
  obtain ⟨fr, hs_fr, hY_fr⟩ := y_fldR (k := 19) hI.1 hY_this rfl rfl
  refine lv_aload_n hx hb rwX_d0 rfl (lv_at hl 0 rfl) ?_
  refine lv_iload_n hx hb rwX_d1 rfl (lv_at hl 1 rfl) ?_
  refine y_call (z := (0, 237, 2, some 17, xM184)) (av := [.ref this, .int a]) (rest := []) (y_cokV (n := 1) (ci := 12) X ym_isSet rfl rfl rfl (x_cons (x_bw77 0 rfl rfl) (x_cons (x_bw77 2 rfl rfl) (x_cons (x_at 48 (by decide +kernel) rfl) (x_cons (x_bw0 9 rfl rfl) x_nilm)))) (x_bw77 3 rfl rfl) (by decide +kernel) ⟨Nat.le_of_ble_eq_true rfl, Nat.le_of_ble_eq_true rfl⟩) hY0 hI rfl rwX_d2 hl.1 (Nat.le_of_ble_eq_true rfl) (Nat.le_of_ble_eq_true rfl) (Nat.le_of_ble_eq_true rfl) (y_cons (y_cref hY_this rfl) (y_cons ⟨_, rfl, x_i32 _⟩ y_nil)) rfl (y_recv rfl hY_this) trivial (y_sub_ef rfl) fun v Yn o Hn L ho hr ha hIn hx_ hE hP => ?_
  have hPv := hP _ _ _ _ rfl hs_bk (hA_bk 0 (by decide))
  replace hs_bk := y_Efld hE hY_this rfl (by decide) (by decide) hs_bk
  replace hs_se := y_Efld hE hY_this rfl (by decide) (by decide) hs_se
  replace hs_lw := y_Efld hE hY_this rfl (by decide) (by decide) hs_lw
  replace hs_fr := y_Efld hE hY_this rfl (by decide) (by decide) hs_fr
  replace hA_bk := hA_bk.kept (y_Earr hE hY_bk rfl (by decide))
  replace hY_this := y_ext hx_ hI.1 hY_this
  replace hY_bk := y_ext hx_ hI.1 hY_bk
  replace hY_se := y_ext hx_ hI.1 hY_se
  replace hY_lw := y_ext hx_ hI.1 hY_lw
  replace hY_fr := y_ext hx_ hI.1 hY_fr
  obtain ⟨r2, rfl, hin_r2, hout_r2⟩ := hPv
  clear ho hr ha hE hP hI hx_
  rename x_I _ _ _ _ _ _ _ _ _ _ => hI
  have ec0 : (0 : Int32).toInt = 0 := by decide
  refine lv_if_eq hx hb rwX_d5 (tgt := 21) (by decide) (fun q5 => ?_) (fun q5 => ?_)
  · have q5_ : r2.toInt = (0 : Int32).toInt := by rw [q5]
    have hno : ¬ (m_isS fb a ∧ m_isS fb b ∧ -1 ≤ i.toInt) := fun q9 => by first | (have h8 := hout_r2 (by assumption); have h7 := q9.1; unfold m_isS at h7; omega) | (have h8 := hout_r10 (by assumption); have h7 := q9.2.1; unfold m_isS at h7; omega) | (have h7 := q9.2.2; omega)
    refine lv_aload_n hx hb rwX_d21 rfl (lv_at hl 0 rfl) ?_
    refine lv_iconst hx hb rwX_d22 (v := 0) (by decide) ?_
    refine lv_bipush hx hb rwX_d23 (v := (-10)) (by decide) ?_
    have ecm10 : ((-10) : Int32).toInt = (-10) := by decide
    refine y_call (z := (0, 76, 3, some 17, xM142)) (av := [.ref this, .int (0 : Int32), .int ((-10) : Int32)]) (rest := []) (y_cokV (n := 2) (ci := 12) X ym_refuses rfl rfl rfl (x_cons (x_bw68 7 rfl rfl) (x_cons (x_bw68 9 rfl rfl) (x_cons (x_at 33 (by decide +kernel) rfl) (x_cons (x_bw0 9 rfl rfl) x_nilm)))) (x_bw68 10 rfl rfl) (by decide +kernel) ⟨Nat.le_of_ble_eq_true rfl, Nat.le_of_ble_eq_true rfl⟩) hY0 hI rfl rwX_d25 hl.1 (Nat.le_of_ble_eq_true rfl) (Nat.le_of_ble_eq_true rfl) (Nat.le_of_ble_eq_true rfl) (y_cons (y_cref hY_this rfl) (y_cons ⟨_, rfl, by show (0 : Int) ≤ _; omega, by show _ ≤ (2 : Int); omega⟩ (y_cons ⟨_, rfl, x_i32 _⟩ y_nil))) rfl (y_recv rfl hY_this) trivial (y_sub_ef rfl) fun v Yn o Hn L ho hr ha hIn hx_ hE hP => ?_
    replace hs_bk := y_Efld hE hY_this rfl (by decide) (by decide) hs_bk
    replace hs_se := y_Efld hE hY_this rfl (by decide) (by decide) hs_se
    replace hs_lw := y_Efld hE hY_this rfl (by decide) (by decide) hs_lw
    replace hs_fr := y_Efld hE hY_this rfl (by decide) (by decide) hs_fr
    replace hA_bk := hA_bk.kept (y_Earr hE hY_bk rfl (by decide))
    replace hY_this := y_ext hx_ hI.1 hY_this
    replace hY_bk := y_ext hx_ hI.1 hY_bk
    replace hY_se := y_ext hx_ hI.1 hY_se
    replace hY_lw := y_ext hx_ hI.1 hY_lw
    replace hY_fr := y_ext hx_ hI.1 hY_fr
    obtain rfl := hP _ _ _ rfl
    clear ho hr ha hE hP hI hx_
    rename x_I _ _ _ _ _ _ _ _ _ _ => hI
    exact y_ireturn B hI rfl rfl rfl List.mem_cons_self ⟨_, rfl, ⟨_, rfl, x_i32 _⟩⟩ (x_cs.mono B.2.2.2.2.2 (y_mon B hI)) (fun t' b' w0' w1' w2' f' h1 h2 h3 h4 => by cases h1; cases h2.symm.trans hs0; cases z_uniq h4 hA0 h3 hcn; exact ⟨_, rfl, fun q9 => absurd q9 hno, fun q9 => absurd q9 hno, fun _ => rfl⟩) (Nat.le_refl _) (Nat.le_refl _) rwX_d28
  · have q5_ : ¬ r2.toInt = (0 : Int32).toInt := fun q => q5 (Int32.toInt_inj.mp q)
    refine lv_aload_n hx hb rwX_d8 rfl (lv_at hl 0 rfl) ?_
    refine lv_iload_n hx hb rwX_d9 rfl (lv_at hl 2 rfl) ?_
    refine y_call (z := (0, 237, 2, some 17, xM184)) (av := [.ref this, .int b]) (rest := []) (y_cokV (n := 1) (ci := 12) X ym_isSet rfl rfl rfl (x_cons (x_bw77 0 rfl rfl) (x_cons (x_bw77 2 rfl rfl) (x_cons (x_at 48 (by decide +kernel) rfl) (x_cons (x_bw0 9 rfl rfl) x_nilm)))) (x_bw77 3 rfl rfl) (by decide +kernel) ⟨Nat.le_of_ble_eq_true rfl, Nat.le_of_ble_eq_true rfl⟩) hY0 hI rfl rwX_d10 hl.1 (Nat.le_of_ble_eq_true rfl) (Nat.le_of_ble_eq_true rfl) (Nat.le_of_ble_eq_true rfl) (y_cons (y_cref hY_this rfl) (y_cons ⟨_, rfl, x_i32 _⟩ y_nil)) rfl (y_recv rfl hY_this) trivial (y_sub_ef rfl) fun v Yn o Hn L ho hr ha hIn hx_ hE hP => ?_
    have hPv := hP _ _ _ _ rfl hs_bk (hA_bk 0 (by decide))
    replace hs_bk := y_Efld hE hY_this rfl (by decide) (by decide) hs_bk
    replace hs_se := y_Efld hE hY_this rfl (by decide) (by decide) hs_se
    replace hs_lw := y_Efld hE hY_this rfl (by decide) (by decide) hs_lw
    replace hs_fr := y_Efld hE hY_this rfl (by decide) (by decide) hs_fr
    replace hA_bk := hA_bk.kept (y_Earr hE hY_bk rfl (by decide))
    replace hY_this := y_ext hx_ hI.1 hY_this
    replace hY_bk := y_ext hx_ hI.1 hY_bk
    replace hY_se := y_ext hx_ hI.1 hY_se
    replace hY_lw := y_ext hx_ hI.1 hY_lw
    replace hY_fr := y_ext hx_ hI.1 hY_fr
    obtain ⟨r10, rfl, hin_r10, hout_r10⟩ := hPv
    clear ho hr ha hE hP hI hx_
    rename x_I _ _ _ _ _ _ _ _ _ _ => hI
    refine lv_if_eq hx hb rwX_d13 (tgt := 21) (by decide) (fun q13 => ?_) (fun q13 => ?_)
    · have q13_ : r10.toInt = (0 : Int32).toInt := by rw [q13]
      have hno : ¬ (m_isS fb a ∧ m_isS fb b ∧ -1 ≤ i.toInt) := fun q9 => by first | (have h8 := hout_r2 (by assumption); have h7 := q9.1; unfold m_isS at h7; omega) | (have h8 := hout_r10 (by assumption); have h7 := q9.2.1; unfold m_isS at h7; omega) | (have h7 := q9.2.2; omega)
      refine lv_aload_n hx hb rwX_d21 rfl (lv_at hl 0 rfl) ?_
      refine lv_iconst hx hb rwX_d22 (v := 0) (by decide) ?_
      refine lv_bipush hx hb rwX_d23 (v := (-10)) (by decide) ?_
      have ecm10 : ((-10) : Int32).toInt = (-10) := by decide
      refine y_call (z := (0, 76, 3, some 17, xM142)) (av := [.ref this, .int (0 : Int32), .int ((-10) : Int32)]) (rest := []) (y_cokV (n := 2) (ci := 12) X ym_refuses rfl rfl rfl (x_cons (x_bw68 7 rfl rfl) (x_cons (x_bw68 9 rfl rfl) (x_cons (x_at 33 (by decide +kernel) rfl) (x_cons (x_bw0 9 rfl rfl) x_nilm)))) (x_bw68 10 rfl rfl) (by decide +kernel) ⟨Nat.le_of_ble_eq_true rfl, Nat.le_of_ble_eq_true rfl⟩) hY0 hI rfl rwX_d25 hl.1 (Nat.le_of_ble_eq_true rfl) (Nat.le_of_ble_eq_true rfl) (Nat.le_of_ble_eq_true rfl) (y_cons (y_cref hY_this rfl) (y_cons ⟨_, rfl, by show (0 : Int) ≤ _; omega, by show _ ≤ (2 : Int); omega⟩ (y_cons ⟨_, rfl, x_i32 _⟩ y_nil))) rfl (y_recv rfl hY_this) trivial (y_sub_ef rfl) fun v Yn o Hn L ho hr ha hIn hx_ hE hP => ?_
      replace hs_bk := y_Efld hE hY_this rfl (by decide) (by decide) hs_bk
      replace hs_se := y_Efld hE hY_this rfl (by decide) (by decide) hs_se
      replace hs_lw := y_Efld hE hY_this rfl (by decide) (by decide) hs_lw
      replace hs_fr := y_Efld hE hY_this rfl (by decide) (by decide) hs_fr
      replace hA_bk := hA_bk.kept (y_Earr hE hY_bk rfl (by decide))
      replace hY_this := y_ext hx_ hI.1 hY_this
      replace hY_bk := y_ext hx_ hI.1 hY_bk
      replace hY_se := y_ext hx_ hI.1 hY_se
      replace hY_lw := y_ext hx_ hI.1 hY_lw
      replace hY_fr := y_ext hx_ hI.1 hY_fr
      obtain rfl := hP _ _ _ rfl
      clear ho hr ha hE hP hI hx_
      rename x_I _ _ _ _ _ _ _ _ _ _ => hI
      exact y_ireturn B hI rfl rfl rfl List.mem_cons_self ⟨_, rfl, ⟨_, rfl, x_i32 _⟩⟩ (x_cs.mono B.2.2.2.2.2 (y_mon B hI)) (fun t' b' w0' w1' w2' f' h1 h2 h3 h4 => by cases h1; cases h2.symm.trans hs0; cases z_uniq h4 hA0 h3 hcn; exact ⟨_, rfl, fun q9 => absurd q9 hno, fun q9 => absurd q9 hno, fun _ => rfl⟩) (Nat.le_refl _) (Nat.le_refl _) rwX_d28
    · have q13_ : ¬ r10.toInt = (0 : Int32).toInt := fun q => q13 (Int32.toInt_inj.mp q)
      refine lv_iload_n hx hb rwX_d16 rfl (lv_at hl 3 rfl) ?_
      refine lv_iconst hx hb rwX_d17 (v := (-1)) (by decide) ?_
      have ecm1 : ((-1) : Int32).toInt = (-1) := by decide
      refine lv_icmp_ge hx hb rwX_d18 (tgt := 29) (by decide) (fun q18 => ?_) (fun q18 => ?_)
      · have q18_ : ((-1) : Int32).toInt ≤ i.toInt := x_le32.mp q18
        have hok : m_isS fb a ∧ m_isS fb b ∧ -1 ≤ i.toInt := ⟨hin_r2 (by assumption), hin_r10 (by assumption), by omega⟩
        have hs_a := hok.1
        unfold m_isS at hs_a
        have hz9 := z_all_p hd0
        have hpw : (2 ^ (fb 0).toInt.toNat) ≤ 1024 := Nat.pow_le_pow_right (n := 2) (by decide) (show (fb 0).toInt.toNat ≤ 10 by omega)
        have hNB : (z_all (fb 0)).toInt.toNat + 1 = (2 ^ (fb 0).toInt.toNat) := by omega
        have hs_b := hok.2.1
        unfold m_isS at hs_b
        refine lv_aload_n hx hb rwX_d29 rfl (lv_at hl 0 rfl) ?_
        refine y_call (z := (0, 260, 1, some 17, xM204)) (av := [.ref this]) (rest := []) (y_cokV (n := 0) (ci := 12) X ym_lawsNow rfl rfl rfl (x_cons (x_bw81 9 rfl rfl) (x_cons (x_bw81 11 rfl rfl) (x_cons (x_at 55 (by decide +kernel) rfl) (x_cons (x_bw0 9 rfl rfl) x_nilm)))) (x_bw81 12 rfl rfl) (by decide +kernel) ⟨Nat.le_of_ble_eq_true rfl, Nat.le_of_ble_eq_true rfl⟩) hY0 hI rfl rwX_d30 hl.1 (Nat.le_of_ble_eq_true rfl) (Nat.le_of_ble_eq_true rfl) (Nat.le_of_ble_eq_true rfl) (y_cons (y_cref hY_this rfl) y_nil) rfl (y_recv rfl hY_this) trivial (y_sub_ef rfl) fun v Yn o Hn L ho hr ha hIn hx_ hE hP => ?_
        have hPs := hP _ _ _ rfl hs_bk hcn hA_bk
        have hPl1 := hPs.1 _ hs_se
        have hPl2 := hPs.2 _ hs_lw
        replace hs_bk := y_Efld hE hY_this rfl (by decide) (by decide) hs_bk
        replace hs_se := y_Efld hE hY_this rfl (by decide) (by decide) hs_se
        replace hs_lw := y_Efld hE hY_this rfl (by decide) (by decide) hs_lw
        replace hs_fr := y_Efld hE hY_this rfl (by decide) (by decide) hs_fr
        replace hA_bk := hA_bk.kept (y_Earr hE hY_bk rfl (by decide))
        replace hY_this := y_ext hx_ hI.1 hY_this
        replace hY_bk := y_ext hx_ hI.1 hY_bk
        replace hY_se := y_ext hx_ hI.1 hY_se
        replace hY_lw := y_ext hx_ hI.1 hY_lw
        replace hY_fr := y_ext hx_ hI.1 hY_fr
        obtain rfl := y_ansV rfl ho hr
        obtain ⟨fs, hA_se, -⟩ := y_arr hIn.1 hY_se rfl rfl
        have hVs : ∀ i, i < (fb 0).toInt.toNat → fs i = (m_VR fb (fb 4) (fb 5)) i := fun i hi => z_intI (hA_se i (by omega)) (hPl1 i hi)
        obtain ⟨gl, hA_lw, hgl⟩ := hPl2
        obtain ⟨gl8, hA8, hB_lw⟩ := y_arr hIn.1 hY_lw rfl rfl
        replace hB_lw : ∀ j, j < 1024 → (0 : Int) ≤ (gl j).toInt ∧ (gl j).toInt ≤ 1 := fun j hj => by obtain ⟨x, e0, e1⟩ := hB_lw j hj; cases e0; rw [z_AR hA_lw hA8 hj]; exact e1
        clear hA8 gl8
        clear ho hr ha hE hP hI hx_
        rename x_I _ _ _ _ _ _ _ _ _ _ => hI
        refine lv_aload_n hx hb rwX_d33 rfl (lv_at hl 0 rfl) ?_
        refine y_getf X (fl200 X.2.2.2.2.1) hI.1 hY_this rfl hs_lw rwX_d34 ?_
        refine lv_iload_n hx hb rwX_d37 rfl (lv_at hl 1 rfl) ?_
        refine y_zald X hI.1 hY_lw rfl hA_lw (by omega) (by show _ < (1024 : Int); omega) rwX_d38 ?_
        obtain ⟨e38, hg_e38⟩ : ∃ e38 : Int32, gl a.toInt.toNat = e38 := ⟨_, rfl⟩
        rw [hg_e38]
        have h_e38 : (0 : Int) ≤ e38.toInt ∧ e38.toInt ≤ 1 := by rw [← hg_e38]; exact hB_lw _ (by omega)
        refine lv_if_eq hx hb rwX_d39 (tgt := 51) (by decide) (fun q39 => ?_) (fun q39 => ?_)
        · have q39_ : e38.toInt = (0 : Int32).toInt := by rw [q39]
          have hnl : ¬ ((m_LR (m_VR fb (fb 4) (fb 5)) (fb 0).toInt.toNat) a.toInt.toNat = true ∧ (m_LR (m_VR fb (fb 4) (fb 5)) (fb 0).toInt.toNat) b.toInt.toNat = true) := fun q9 => by first | (have h7 := q9.1; rw [(show (m_LR (m_VR fb (fb 4) (fb 5)) (fb 0).toInt.toNat) a.toInt.toNat = false by rw [← hgl _ (by omega)]; unfold m_gl; rw [hg_e38]; have h8 : e38 = 0 := (by assumption); rw [decide_eq_true h8]; rfl)] at h7; cases h7) | (have h7 := q9.2; rw [(show (m_LR (m_VR fb (fb 4) (fb 5)) (fb 0).toInt.toNat) b.toInt.toNat = false by rw [← hgl _ (by omega)]; unfold m_gl; rw [hg_e47]; have h8 : e47 = 0 := (by assumption); rw [decide_eq_true h8]; rfl)] at h7; cases h7)
          refine lv_aload_n hx hb rwX_d51 rfl (lv_at hl 0 rfl) ?_
          refine lv_iconst hx hb rwX_d52 (v := 1) (by decide) ?_
          have ec1 : (1 : Int32).toInt = 1 := by decide
          refine lv_bipush hx hb rwX_d53 (v := (-20)) (by decide) ?_
          have ecm20 : ((-20) : Int32).toInt = (-20) := by decide
          refine y_call (z := (0, 76, 3, some 17, xM142)) (av := [.ref this, .int (1 : Int32), .int ((-20) : Int32)]) (rest := []) (y_cokV (n := 2) (ci := 12) X ym_refuses rfl rfl rfl (x_cons (x_bw68 7 rfl rfl) (x_cons (x_bw68 9 rfl rfl) (x_cons (x_at 33 (by decide +kernel) rfl) (x_cons (x_bw0 9 rfl rfl) x_nilm)))) (x_bw68 10 rfl rfl) (by decide +kernel) ⟨Nat.le_of_ble_eq_true rfl, Nat.le_of_ble_eq_true rfl⟩) hY0 hI rfl rwX_d55 hl.1 (Nat.le_of_ble_eq_true rfl) (Nat.le_of_ble_eq_true rfl) (Nat.le_of_ble_eq_true rfl) (y_cons (y_cref hY_this rfl) (y_cons ⟨_, rfl, by show (0 : Int) ≤ _; omega, by show _ ≤ (2 : Int); omega⟩ (y_cons ⟨_, rfl, x_i32 _⟩ y_nil))) rfl (y_recv rfl hY_this) trivial (y_sub_ef rfl) fun v Yn o Hn L ho hr ha hIn hx_ hE hP => ?_
          replace hs_bk := y_Efld hE hY_this rfl (by decide) (by decide) hs_bk
          replace hs_se := y_Efld hE hY_this rfl (by decide) (by decide) hs_se
          replace hs_lw := y_Efld hE hY_this rfl (by decide) (by decide) hs_lw
          replace hs_fr := y_Efld hE hY_this rfl (by decide) (by decide) hs_fr
          replace hA_bk := hA_bk.kept (y_Earr hE hY_bk rfl (by decide))
          replace hA_se := hA_se.kept (y_Earr hE hY_se rfl (by decide))
          replace hA_lw := hA_lw.kept (y_Earr hE hY_lw rfl (by decide))
          replace hY_this := y_ext hx_ hI.1 hY_this
          replace hY_bk := y_ext hx_ hI.1 hY_bk
          replace hY_se := y_ext hx_ hI.1 hY_se
          replace hY_lw := y_ext hx_ hI.1 hY_lw
          replace hY_fr := y_ext hx_ hI.1 hY_fr
          obtain rfl := hP _ _ _ rfl
          clear ho hr ha hE hP hI hx_
          rename x_I _ _ _ _ _ _ _ _ _ _ => hI
          exact y_ireturn B hI rfl rfl rfl List.mem_cons_self ⟨_, rfl, ⟨_, rfl, x_i32 _⟩⟩ (x_cs.mono B.2.2.2.2.2 (y_mon B hI)) (fun t' b' w0' w1' w2' f' h1 h2 h3 h4 => by cases h1; cases h2.symm.trans hs0; cases z_uniq h4 hA0 h3 hcn; exact ⟨_, rfl, fun _ q8 q9 => absurd ⟨q8, q9⟩ hnl, fun _ _ => rfl, fun q9 => absurd hok q9⟩) (Nat.le_refl _) (Nat.le_refl _) rwX_d58
        · have q39_ : ¬ e38.toInt = (0 : Int32).toInt := fun q => q39 (Int32.toInt_inj.mp q)
          refine lv_aload_n hx hb rwX_d42 rfl (lv_at hl 0 rfl) ?_
          refine y_getf X (fl200 X.2.2.2.2.1) hI.1 hY_this rfl hs_lw rwX_d43 ?_
          refine lv_iload_n hx hb rwX_d46 rfl (lv_at hl 2 rfl) ?_
          refine y_zald X hI.1 hY_lw rfl hA_lw (by omega) (by show _ < (1024 : Int); omega) rwX_d47 ?_
          obtain ⟨e47, hg_e47⟩ : ∃ e47 : Int32, gl b.toInt.toNat = e47 := ⟨_, rfl⟩
          rw [hg_e47]
          have h_e47 : (0 : Int) ≤ e47.toInt ∧ e47.toInt ≤ 1 := by rw [← hg_e47]; exact hB_lw _ (by omega)
          refine lv_if_ne hx hb rwX_d48 (tgt := 59) (by decide) (fun q48 => ?_) (fun q48 => ?_)
          · have q48_ : ¬ e47.toInt = (0 : Int32).toInt := fun q => q48 (Int32.toInt_inj.mp q)
            have hla := (show (m_LR (m_VR fb (fb 4) (fb 5)) (fb 0).toInt.toNat) a.toInt.toNat = true by rw [← hgl _ (by omega)]; unfold m_gl; rw [hg_e38]; have h8 : ¬ e38 = 0 := (by assumption); rw [decide_eq_false h8]; rfl)
            have hlb := (show (m_LR (m_VR fb (fb 4) (fb 5)) (fb 0).toInt.toNat) b.toInt.toNat = true by rw [← hgl _ (by omega)]; unfold m_gl; rw [hg_e47]; have h8 : ¬ e47 = 0 := (by assumption); rw [decide_eq_false h8]; rfl)
            refine lv_aload_n hx hb rwX_d59 rfl (lv_at hl 0 rfl) ?_
            refine lv_iload_n hx hb rwX_d60 rfl (lv_at hl 2 rfl) ?_
            refine y_call (z := (0, 263, 2, some 17, xMsp)) (av := [.ref this, .int b]) (rest := []) (y_cokV (n := 1) (ci := 12) X ym_spreads2 rfl rfl rfl (x_cons (x_bw81 13 rfl rfl) (x_cons (x_bw81 15 rfl rfl) (x_cons (x_at 56 (by decide +kernel) rfl) (x_cons (x_bw0 9 rfl rfl) x_nilm)))) (x_bw82 0 rfl rfl) (by decide +kernel) ⟨Nat.le_of_ble_eq_true rfl, Nat.le_of_ble_eq_true rfl⟩) hY0 hI rfl rwX_d61 hl.1 (Nat.le_of_ble_eq_true rfl) (Nat.le_of_ble_eq_true rfl) (Nat.le_of_ble_eq_true rfl) (y_cons (y_cref hY_this rfl) (y_cons ⟨_, rfl, by show (0 : Int) ≤ _; omega, by show _ ≤ (1023 : Int); omega⟩ y_nil)) rfl (y_recv rfl hY_this) (fun t' l' b' m' g' c' h1 h2 h3 h4 h5 => by cases h1; cases h2.symm.trans hs_bk; cases h4.symm.trans hs_lw; rw [z_AR h3 hA_bk (show 0 < 160 by decide), z_AR h5 hA_lw (show b.toInt.toNat < 1024 by omega)]; exact ⟨by omega, by rw [hg_e47]; assumption⟩) (y_sub_ef rfl) fun v Yn o Hn L ho hr ha hIn hx_ hE hP => ?_
            have hPs2 := hP _ _ _ _ _ _ _ rfl hs_bk hA_bk hs_lw hA_lw hs_fr
            replace hs_bk := y_Efld hE hY_this rfl (by decide) (by decide) hs_bk
            replace hs_se := y_Efld hE hY_this rfl (by decide) (by decide) hs_se
            replace hs_lw := y_Efld hE hY_this rfl (by decide) (by decide) hs_lw
            replace hs_fr := y_Efld hE hY_this rfl (by decide) (by decide) hs_fr
            replace hA_bk := hA_bk.kept (y_Earr hE hY_bk rfl (by decide))
            replace hA_se := hA_se.kept (y_Earr hE hY_se rfl (by decide))
            replace hA_lw := hA_lw.kept (y_Earr hE hY_lw rfl (by decide))
            replace hY_this := y_ext hx_ hI.1 hY_this
            replace hY_bk := y_ext hx_ hI.1 hY_bk
            replace hY_se := y_ext hx_ hI.1 hY_se
            replace hY_lw := y_ext hx_ hI.1 hY_lw
            replace hY_fr := y_ext hx_ hI.1 hY_fr
            obtain rfl := y_ansV rfl ho hr
            obtain ⟨ff, hA_fr, hD0⟩ := hPs2
            rw [hNB] at hD0
            have hD : m_D (m_LR (m_VR fb (fb 4) (fb 5)) (fb 0).toInt.toNat) (2 ^ (fb 0).toInt.toNat) b.toInt.toNat ff := hD0.congrL hgl
            clear ho hr ha hE hP hI hx_
            rename x_I _ _ _ _ _ _ _ _ _ _ => hI
            refine lv_aload_n hx hb rwX_d64 rfl (lv_at hl 0 rfl) ?_
            refine y_getf X (fl211 X.2.2.2.2.1) hI.1 hY_this rfl hs_fr rwX_d65 ?_
            refine lv_iload_n hx hb rwX_d68 rfl (lv_at hl 1 rfl) ?_
            refine y_iald X hI.1 hY_fr rfl hA_fr (by omega) (by show _ < (1024 : Int); omega) rwX_d69 ?_
            obtain ⟨e69, hg_e69⟩ : ∃ e69 : Int32, ff a.toInt.toNat = e69 := ⟨_, rfl⟩
            rw [hg_e69]
            refine lv_iconst hx hb rwX_d70 (v := (-1)) (by decide) ?_
            refine lv_icmp_ne hx hb rwX_d71 (tgt := 77) (by decide) (fun q71 => ?_) (fun q71 => ?_)
            · have q71_ : ¬ e69.toInt = ((-1) : Int32).toInt := fun q => q71 (Int32.toInt_inj.mp q)
              refine lv_iload_n hx hb rwX_d77 rfl (lv_at hl 3 rfl) ?_
              refine lv_iconst hx hb rwX_d78 (v := (-1)) (by decide) ?_
              refine lv_icmp_ne hx hb rwX_d79 (tgt := 89) (by decide) (fun q79 => ?_) (fun q79 => ?_)
              · have q79_ : ¬ i.toInt = ((-1) : Int32).toInt := fun q => q79 (Int32.toInt_inj.mp q)
                refine lv_iload_n hx hb rwX_d89 rfl (lv_at hl 3 rfl) ?_
                refine lv_aload_n hx hb rwX_d90 rfl (lv_at hl 0 rfl) ?_
                refine y_getf X (fl211 X.2.2.2.2.1) hI.1 hY_this rfl hs_fr rwX_d91 ?_
                refine lv_iload_n hx hb rwX_d94 rfl (lv_at hl 1 rfl) ?_
                refine y_iald X hI.1 hY_fr rfl hA_fr (by omega) (by show _ < (1024 : Int); omega) rwX_d95 ?_
                obtain ⟨e95, hg_e95⟩ : ∃ e95 : Int32, ff a.toInt.toNat = e95 := ⟨_, rfl⟩
                rw [hg_e95]
                refine lv_icmp_le hx hb rwX_d96 (tgt := 102) (by decide) (fun q96 => ?_) (fun q96 => ?_)
                · have q96_ : i.toInt ≤ e95.toInt := x_le32.mp q96
                  refine lv_iload_n hx hb rwX_d102 rfl (lv_at hl 1 rfl) ?_
                  refine lv_istore hx hb rwX_d103 hl (by decide) (lv' := [(4, .int a), (0, .ref this), (1, .int a), (2, .int b), (3, .int i)]) rfl fun ls hl => ?_
                  refine lv_iconst hx hb rwX_d105 (v := 0) (by decide) ?_
                  refine lv_istore hx hb rwX_d106 hl (by decide) (lv' := [(5, .int (0 : Int32)), (4, .int a), (0, .ref this), (1, .int a), (2, .int b), (3, .int i)]) rfl fun ls hl => ?_
                  have hx9 : (ff a.toInt.toNat).toInt = e69.toInt := by rw [hg_e69]
                  have hx8 : (ff a.toInt.toNat).toInt = e95.toInt := by rw [hg_e95]
                  have hi9 : ¬ i.toInt = -1 := fun q9 => absurd (show i = -1 from Int32.toInt_inj.mp (q9.trans m_cm1.symm)) (by assumption)
                  have hxi := x_rng i
                  exact rwX_L108 B rfl hs0 hA0 hcn hd0 hok hgl hD hB_lw hla hlb ⟨by have := hok.2.2; omega, by omega⟩ 2147483650 _ _ _ _ _ _ hI hY_this hY_bk hY_lw hY_fr hs_bk hs_lw hs_fr hA_bk hA_lw hA_fr (lv_sub hl [0, 1, 2, 3, 4, 5] rfl) ⟨by decide, by have := hok.2.2; rw [m_c0]; omega⟩ ⟨by omega, by omega⟩ (by rw [z_i0]; rfl) (by rw [m_c0]; omega) (by omega)
                · have q96_ : e95.toInt < i.toInt := Int.not_le.mp fun q => q96 (x_le32.mpr q)
                  refine lv_bipush hx hb rwX_d99 (v := (-5)) (by decide) ?_
                  have ecm5 : ((-5) : Int32).toInt = (-5) := by decide
                  have hx9 : (ff a.toInt.toNat).toInt = e69.toInt := by rw [hg_e69]
                  have hx8 : (ff a.toInt.toNat).toInt = e95.toInt := by rw [hg_e95]
                  exact y_ireturn B hI rfl rfl rfl List.mem_cons_self ⟨_, rfl, ⟨_, rfl, x_i32 _⟩⟩ (x_cs.mono B.2.2.2.2.2 (y_mon B hI)) (fun t' b' w0' w1' w2' f' h1 h2 h3 h4 => by cases h1; cases h2.symm.trans hs0; cases z_uniq h4 hA0 h3 hcn; exact ⟨_, rfl, fun _ _ _ => ⟨ff, hD, fun q9 => absurd (show e69 = -1 from Int32.toInt_inj.mp (by rw [m_cm1]; omega)) (by assumption), fun _ => ⟨fun q9 => absurd q9 (by assumption), fun _ => ⟨fun _ => rfl, fun q9 => by exfalso; omega⟩⟩⟩, fun _ q9 => absurd ⟨hla, hlb⟩ q9, fun q9 => absurd hok q9⟩) (Nat.le_refl _) (Nat.le_refl _) rwX_d101
              · have q79_ : i.toInt = ((-1) : Int32).toInt := by rw [q79]
                refine lv_aload_n hx hb rwX_d82 rfl (lv_at hl 0 rfl) ?_
                refine y_getf X (fl211 X.2.2.2.2.1) hI.1 hY_this rfl hs_fr rwX_d83 ?_
                refine lv_iload_n hx hb rwX_d86 rfl (lv_at hl 1 rfl) ?_
                refine y_iald X hI.1 hY_fr rfl hA_fr (by omega) (by show _ < (1024 : Int); omega) rwX_d87 ?_
                obtain ⟨e87, hg_e87⟩ : ∃ e87 : Int32, ff a.toInt.toNat = e87 := ⟨_, rfl⟩
                rw [hg_e87]
                have hx9 : (ff a.toInt.toNat).toInt = e69.toInt := by rw [hg_e69]
                exact y_ireturn B hI rfl rfl rfl List.mem_cons_self ⟨_, rfl, ⟨_, rfl, x_i32 _⟩⟩ (x_cs.mono B.2.2.2.2.2 (y_mon B hI)) (fun t' b' w0' w1' w2' f' h1 h2 h3 h4 => by cases h1; cases h2.symm.trans hs0; cases z_uniq h4 hA0 h3 hcn; exact ⟨_, rfl, fun _ _ _ => ⟨ff, hD, fun q9 => absurd (show e69 = -1 from Int32.toInt_inj.mp (by rw [m_cm1]; omega)) (by assumption), fun _ => ⟨fun _ => (Eq.symm hg_e87), fun q9 => absurd (by assumption) q9⟩⟩, fun _ q9 => absurd ⟨hla, hlb⟩ q9, fun q9 => absurd hok q9⟩) (Nat.le_refl _) (Nat.le_refl _) rwX_d88
            · have q71_ : e69.toInt = ((-1) : Int32).toInt := by rw [q71]
              refine lv_bipush hx hb rwX_d74 (v := (-6)) (by decide) ?_
              have ecm6 : ((-6) : Int32).toInt = (-6) := by decide
              have hx9 : (ff a.toInt.toNat).toInt = e69.toInt := by rw [hg_e69]
              exact y_ireturn B hI rfl rfl rfl List.mem_cons_self ⟨_, rfl, ⟨_, rfl, x_i32 _⟩⟩ (x_cs.mono B.2.2.2.2.2 (y_mon B hI)) (fun t' b' w0' w1' w2' f' h1 h2 h3 h4 => by cases h1; cases h2.symm.trans hs0; cases z_uniq h4 hA0 h3 hcn; exact ⟨_, rfl, fun _ _ _ => ⟨ff, hD, fun _ => rfl, fun q9 => absurd (by rw [hx9, show e69 = -1 by assumption]; exact m_cm1) q9⟩, fun _ q9 => absurd ⟨hla, hlb⟩ q9, fun q9 => absurd hok q9⟩) (Nat.le_refl _) (Nat.le_refl _) rwX_d76
          · have q48_ : e47.toInt = (0 : Int32).toInt := by rw [q48]
            have hnl : ¬ ((m_LR (m_VR fb (fb 4) (fb 5)) (fb 0).toInt.toNat) a.toInt.toNat = true ∧ (m_LR (m_VR fb (fb 4) (fb 5)) (fb 0).toInt.toNat) b.toInt.toNat = true) := fun q9 => by first | (have h7 := q9.1; rw [(show (m_LR (m_VR fb (fb 4) (fb 5)) (fb 0).toInt.toNat) a.toInt.toNat = false by rw [← hgl _ (by omega)]; unfold m_gl; rw [hg_e38]; have h8 : e38 = 0 := (by assumption); rw [decide_eq_true h8]; rfl)] at h7; cases h7) | (have h7 := q9.2; rw [(show (m_LR (m_VR fb (fb 4) (fb 5)) (fb 0).toInt.toNat) b.toInt.toNat = false by rw [← hgl _ (by omega)]; unfold m_gl; rw [hg_e47]; have h8 : e47 = 0 := (by assumption); rw [decide_eq_true h8]; rfl)] at h7; cases h7)
            refine lv_aload_n hx hb rwX_d51 rfl (lv_at hl 0 rfl) ?_
            refine lv_iconst hx hb rwX_d52 (v := 1) (by decide) ?_
            have ec1 : (1 : Int32).toInt = 1 := by decide
            refine lv_bipush hx hb rwX_d53 (v := (-20)) (by decide) ?_
            have ecm20 : ((-20) : Int32).toInt = (-20) := by decide
            refine y_call (z := (0, 76, 3, some 17, xM142)) (av := [.ref this, .int (1 : Int32), .int ((-20) : Int32)]) (rest := []) (y_cokV (n := 2) (ci := 12) X ym_refuses rfl rfl rfl (x_cons (x_bw68 7 rfl rfl) (x_cons (x_bw68 9 rfl rfl) (x_cons (x_at 33 (by decide +kernel) rfl) (x_cons (x_bw0 9 rfl rfl) x_nilm)))) (x_bw68 10 rfl rfl) (by decide +kernel) ⟨Nat.le_of_ble_eq_true rfl, Nat.le_of_ble_eq_true rfl⟩) hY0 hI rfl rwX_d55 hl.1 (Nat.le_of_ble_eq_true rfl) (Nat.le_of_ble_eq_true rfl) (Nat.le_of_ble_eq_true rfl) (y_cons (y_cref hY_this rfl) (y_cons ⟨_, rfl, by show (0 : Int) ≤ _; omega, by show _ ≤ (2 : Int); omega⟩ (y_cons ⟨_, rfl, x_i32 _⟩ y_nil))) rfl (y_recv rfl hY_this) trivial (y_sub_ef rfl) fun v Yn o Hn L ho hr ha hIn hx_ hE hP => ?_
            replace hs_bk := y_Efld hE hY_this rfl (by decide) (by decide) hs_bk
            replace hs_se := y_Efld hE hY_this rfl (by decide) (by decide) hs_se
            replace hs_lw := y_Efld hE hY_this rfl (by decide) (by decide) hs_lw
            replace hs_fr := y_Efld hE hY_this rfl (by decide) (by decide) hs_fr
            replace hA_bk := hA_bk.kept (y_Earr hE hY_bk rfl (by decide))
            replace hA_se := hA_se.kept (y_Earr hE hY_se rfl (by decide))
            replace hA_lw := hA_lw.kept (y_Earr hE hY_lw rfl (by decide))
            replace hY_this := y_ext hx_ hI.1 hY_this
            replace hY_bk := y_ext hx_ hI.1 hY_bk
            replace hY_se := y_ext hx_ hI.1 hY_se
            replace hY_lw := y_ext hx_ hI.1 hY_lw
            replace hY_fr := y_ext hx_ hI.1 hY_fr
            obtain rfl := hP _ _ _ rfl
            clear ho hr ha hE hP hI hx_
            rename x_I _ _ _ _ _ _ _ _ _ _ => hI
            exact y_ireturn B hI rfl rfl rfl List.mem_cons_self ⟨_, rfl, ⟨_, rfl, x_i32 _⟩⟩ (x_cs.mono B.2.2.2.2.2 (y_mon B hI)) (fun t' b' w0' w1' w2' f' h1 h2 h3 h4 => by cases h1; cases h2.symm.trans hs0; cases z_uniq h4 hA0 h3 hcn; exact ⟨_, rfl, fun _ q8 q9 => absurd ⟨q8, q9⟩ hnl, fun _ _ => rfl, fun q9 => absurd hok q9⟩) (Nat.le_refl _) (Nat.le_refl _) rwX_d58
      · have q18_ : i.toInt < ((-1) : Int32).toInt := Int.not_le.mp fun q => q18 (x_le32.mpr q)
        have hno : ¬ (m_isS fb a ∧ m_isS fb b ∧ -1 ≤ i.toInt) := fun q9 => by first | (have h8 := hout_r2 (by assumption); have h7 := q9.1; unfold m_isS at h7; omega) | (have h8 := hout_r10 (by assumption); have h7 := q9.2.1; unfold m_isS at h7; omega) | (have h7 := q9.2.2; omega)
        refine lv_aload_n hx hb rwX_d21 rfl (lv_at hl 0 rfl) ?_
        refine lv_iconst hx hb rwX_d22 (v := 0) (by decide) ?_
        refine lv_bipush hx hb rwX_d23 (v := (-10)) (by decide) ?_
        have ecm10 : ((-10) : Int32).toInt = (-10) := by decide
        refine y_call (z := (0, 76, 3, some 17, xM142)) (av := [.ref this, .int (0 : Int32), .int ((-10) : Int32)]) (rest := []) (y_cokV (n := 2) (ci := 12) X ym_refuses rfl rfl rfl (x_cons (x_bw68 7 rfl rfl) (x_cons (x_bw68 9 rfl rfl) (x_cons (x_at 33 (by decide +kernel) rfl) (x_cons (x_bw0 9 rfl rfl) x_nilm)))) (x_bw68 10 rfl rfl) (by decide +kernel) ⟨Nat.le_of_ble_eq_true rfl, Nat.le_of_ble_eq_true rfl⟩) hY0 hI rfl rwX_d25 hl.1 (Nat.le_of_ble_eq_true rfl) (Nat.le_of_ble_eq_true rfl) (Nat.le_of_ble_eq_true rfl) (y_cons (y_cref hY_this rfl) (y_cons ⟨_, rfl, by show (0 : Int) ≤ _; omega, by show _ ≤ (2 : Int); omega⟩ (y_cons ⟨_, rfl, x_i32 _⟩ y_nil))) rfl (y_recv rfl hY_this) trivial (y_sub_ef rfl) fun v Yn o Hn L ho hr ha hIn hx_ hE hP => ?_
        replace hs_bk := y_Efld hE hY_this rfl (by decide) (by decide) hs_bk
        replace hs_se := y_Efld hE hY_this rfl (by decide) (by decide) hs_se
        replace hs_lw := y_Efld hE hY_this rfl (by decide) (by decide) hs_lw
        replace hs_fr := y_Efld hE hY_this rfl (by decide) (by decide) hs_fr
        replace hA_bk := hA_bk.kept (y_Earr hE hY_bk rfl (by decide))
        replace hY_this := y_ext hx_ hI.1 hY_this
        replace hY_bk := y_ext hx_ hI.1 hY_bk
        replace hY_se := y_ext hx_ hI.1 hY_se
        replace hY_lw := y_ext hx_ hI.1 hY_lw
        replace hY_fr := y_ext hx_ hI.1 hY_fr
        obtain rfl := hP _ _ _ rfl
        clear ho hr ha hE hP hI hx_
        rename x_I _ _ _ _ _ _ _ _ _ _ => hI
        exact y_ireturn B hI rfl rfl rfl List.mem_cons_self ⟨_, rfl, ⟨_, rfl, x_i32 _⟩⟩ (x_cs.mono B.2.2.2.2.2 (y_mon B hI)) (fun t' b' w0' w1' w2' f' h1 h2 h3 h4 => by cases h1; cases h2.symm.trans hs0; cases z_uniq h4 hA0 h3 hcn; exact ⟨_, rfl, fun q9 => absurd q9 hno, fun q9 => absurd q9 hno, fun _ => rfl⟩) (Nat.le_refl _) (Nat.le_refl _) rwX_d28
