theorem fw_gr9_240 {s : State} {args : Array Value} {mn : String} (hts : ∀ w ∈ x_Tb, w.before args s = true) : x_pok vwCl x_G x_Tb s args "TwinFires$Rows" mn (27, 8, 1) := ⟨5, _, RX5, TX5, "TwinFires$Rows", tyX5, _, rfl, rfl, Nat.le_of_ble_eq_true rfl, iX5, (hts _ (x_bw15 5 rfl rfl)), fun x h => h, tyX5_ok, nmX5, rfl, x_fitI _ _, Or.inl rfl⟩
def z_Pga2 : yP := fun D av Y H _ _ H' => ∀ (this ey vw sr : Nat) (nh : Int32) (V : Nat → Int32), av = [.ref this, .ref ey, .int nh] → x_sl D 0 1 ey H = some (.ref vw) → y_A vw 10 H V → x_sl D 5 0 this H = some (.ref sr) → ∃ (fo : Int32) (fr : Nat → Int32), x_sl D 5 1 this H' = some (.int fo) ∧ y_A sr 1024 H' fr ∧ fo.toInt = (m_cn (m_LC V) (2 ^ nh.toInt.toNat) : Nat) ∧ m_sets (m_LC V) (2 ^ nh.toInt.toNat) fr
theorem m_any_congr {c c' : Nat → Bool} {n : Nat} (h : ∀ i, i < n → c i = c' i) : m_any c n = m_any c' n := by
  induction n with
  | zero => rfl
  | succ n ih =>
    show (m_any c n || c n) = (m_any c' n || c' n)
    rw [ih fun i hi => h i (by omega), h n (by omega)]
theorem z_all_1 {n : Int32} (h : 0 ≤ n.toInt ∧ n.toInt ≤ 10) : ((1 : Int32) <<< (n &&& 31)).toInt = ((2 ^ n.toInt.toNat : Nat) : Int) := by
  rw [m_sh1 h, z_all_p h]; omega
theorem gr9_d0 : decode xMga.2.1 0 = .ok (.aload_n 0, 1) := dz_ok (by decide +kernel)
theorem gr9_d1 : decode xMga.2.1 1 = .ok (.iconst 0, 1) := dz_ok (by decide +kernel)
theorem gr9_d2 : decode xMga.2.1 2 = .ok (.putfield 27, 3) := dz_ok (by decide +kernel)
theorem gr9_d5 : decode xMga.2.1 5 = .ok (.iconst 1, 1) := dz_ok (by decide +kernel)
theorem gr9_d6 : decode xMga.2.1 6 = .ok (.iload_n 2, 1) := dz_ok (by decide +kernel)
theorem gr9_d7 : decode xMga.2.1 7 = .ok (.ishl, 1) := dz_ok (by decide +kernel)
theorem gr9_d8 : decode xMga.2.1 8 = .ok (.istore_n 3, 1) := dz_ok (by decide +kernel)
theorem gr9_d9 : decode xMga.2.1 9 = .ok (.iconst 0, 1) := dz_ok (by decide +kernel)
theorem gr9_d10 : decode xMga.2.1 10 = .ok (.istore 4, 2) := dz_ok (by decide +kernel)
theorem gr9_d12 : decode xMga.2.1 12 = .ok (.iload 4, 2) := dz_ok (by decide +kernel)
theorem gr9_d14 : decode xMga.2.1 14 = .ok (.iload_n 3, 1) := dz_ok (by decide +kernel)
theorem gr9_d15 : decode xMga.2.1 15 = .ok (.if_icmp .ge 48, 3) := dz_ok (by decide +kernel)
theorem gr9_d18 : decode xMga.2.1 18 = .ok (.iload 4, 2) := dz_ok (by decide +kernel)
theorem gr9_d20 : decode xMga.2.1 20 = .ok (.sipush 1024, 3) := dz_ok (by decide +kernel)
theorem gr9_d23 : decode xMga.2.1 23 = .ok (.if_icmp .ge 40, 3) := dz_ok (by decide +kernel)
theorem gr9_d26 : decode xMga.2.1 26 = .ok (.aload_n 1, 1) := dz_ok (by decide +kernel)
theorem gr9_d27 : decode xMga.2.1 27 = .ok (.iload 4, 2) := dz_ok (by decide +kernel)
theorem gr9_d29 : decode xMga.2.1 29 = .ok (.invokevirtual 31, 3) := dz_ok (by decide +kernel)
theorem gr9_d32 : decode xMga.2.1 32 = .ok (.iconst (-1), 1) := dz_ok (by decide +kernel)
theorem gr9_d33 : decode xMga.2.1 33 = .ok (.if_icmp .ne 24, 3) := dz_ok (by decide +kernel)
theorem gr9_d36 : decode xMga.2.1 36 = .ok (.aload_n 0, 1) := dz_ok (by decide +kernel)
theorem gr9_d37 : decode xMga.2.1 37 = .ok (.getfield 9, 3) := dz_ok (by decide +kernel)
theorem gr9_d40 : decode xMga.2.1 40 = .ok (.aload_n 0, 1) := dz_ok (by decide +kernel)
theorem gr9_d41 : decode xMga.2.1 41 = .ok (.getfield 27, 3) := dz_ok (by decide +kernel)
theorem gr9_d44 : decode xMga.2.1 44 = .ok (.iload 4, 2) := dz_ok (by decide +kernel)
theorem gr9_d46 : decode xMga.2.1 46 = .ok (.iastore, 1) := dz_ok (by decide +kernel)
theorem gr9_d47 : decode xMga.2.1 47 = .ok (.aload_n 0, 1) := dz_ok (by decide +kernel)
theorem gr9_d48 : decode xMga.2.1 48 = .ok (.dup, 1) := dz_ok (by decide +kernel)
theorem gr9_d49 : decode xMga.2.1 49 = .ok (.getfield 27, 3) := dz_ok (by decide +kernel)
theorem gr9_d52 : decode xMga.2.1 52 = .ok (.iconst 1, 1) := dz_ok (by decide +kernel)
theorem gr9_d53 : decode xMga.2.1 53 = .ok (.iadd, 1) := dz_ok (by decide +kernel)
theorem gr9_d54 : decode xMga.2.1 54 = .ok (.putfield 27, 3) := dz_ok (by decide +kernel)
theorem gr9_d57 : decode xMga.2.1 57 = .ok (.iinc 4 1, 3) := dz_ok (by decide +kernel)
theorem gr9_d60 : decode xMga.2.1 60 = .ok (.goto (-48), 3) := dz_ok (by decide +kernel)
theorem gr9_d63 : decode xMga.2.1 63 = .ok (.return_, 1) := dz_ok (by decide +kernel)
theorem gr9_L12 {p : Program} {l : Launch} {e : Env} {s : State} {m : MethodId} {below : List Frame} {meth : Method} {c : Code} {D : va_G} {U : State} {Y0 : xY} {av : List Value} (B : y_B vwCl x_Tb x_Nb xMga p s m meth c D U Y0 av) {this ey vw sr : Nat} {nh : Int32} {V : Nat → Int32} (hav : av = [.ref this, .ref ey, .int nh]) (hs0 : x_sl D 0 1 ey s.heap = some (.ref vw)) (hA0 : y_A vw 10 s.heap V) (hsr : x_sl D 5 0 this s.heap = some (.ref sr)) (hnh : 0 ≤ nh.toInt ∧ nh.toInt ≤ 10)  :
    ∀ (n : Nat), ∀ (H : Heap) (Y : xY) (locs : List Loc) (ls : Array Slot) (k : Int32) (al : Int32) (fo : Int32) (fr : Nat → Int32), x_I D x_G x_Zs U (x_efs xMga) Y0 s.heap Y H locs → Y this = some 8 → Y ey = some 6 → Y vw = some 32 → Y sr = some 35 → x_sl D 5 0 this H = some (.ref sr) → x_sl D 0 1 ey H = some (.ref vw) → x_sl D 5 1 this H = some (.int fo) → y_A vw 10 H V → y_A sr 1024 H fr → lv_has ls xMga.2.2.1 [(4, .int k), (3, .int al), (0, .ref this), (1, .ref ey), (2, .int nh)] → (∀ j, j < 1024 → (0 : Int) ≤ (fr j).toInt ∧ (fr j).toInt ≤ 1023) → (al.toInt = ((2 ^ nh.toInt.toNat) : Nat)) → (0 ≤ k.toInt ∧ k.toInt ≤ al.toInt) → (fo.toInt = (m_cn (m_LC V) k.toInt.toNat : Nat)) → (m_sets (m_LC V) k.toInt.toNat fr) → (1025 - k.toInt).toNat < n → W p l e (x_rm xMga) s m av.toArray below meth c H locs 0 0 (y_QQ below D x_G x_Zs U xMga z_Pga2 av Y0 s) (F0 m 12 ls []) := by
  have X := B.1
  have hx := X.1
  have hb := X.2.1
  have hY0 := B.2.2.2.2.1
  intro n
  induction n with
  | zero => intro _ _ _ _ _ _ _ _ _ _ _ _ _ _ _ _ _ _ _ _ _ _ _ _ h; exact absurd h (Nat.not_lt_zero _)
  | succ n ih =>
    intro H Y locs ls k al fo fr hI hY_this hY_ey hY_vw hY_sr hs_sr hs_vw hsi_found hA_vw hA_sr hl hB_sr hal hk hfo hse hn
    have hpw : 2 ^ nh.toInt.toNat ≤ 1024 := Nat.pow_le_pow_right (n := 2) (by decide) (show nh.toInt.toNat ≤ 10 by omega)
    have hcb := m_cn_b (L := (m_LC V)) (k := k.toInt.toNat)
    refine lv_iload hx hb gr9_d12 (lv_at hl 0 rfl) ?_
    refine lv_iload_n hx hb gr9_d14 rfl (lv_at hl 1 rfl) ?_
    refine lv_icmp_ge hx hb gr9_d15 (tgt := 63) (by decide) (fun q15 => ?_) (fun q15 => ?_)
    · have q15_ : al.toInt ≤ k.toInt := x_le32.mp q15
      subst hav
      exact y_return B hI rfl rfl List.mem_cons_self rfl (x_cs.mono B.2.2.2.2.2 (y_mon B hI)) (fun t' e' v' s' n' V' h1 h2 h3 h4 => by cases h1; cases h2.symm.trans hs0; cases h4.symm.trans hsr; have eV : ∀ q, m_LC V' q = m_LC V q := fun q => (by unfold m_LC; rw [show m_any (m_wr V' (nI q)) 10 = m_any (m_wr V (nI q)) 10 from m_any_congr fun i hi => by unfold m_wr; rw [z_AR h3 hA0 hi]]); rw [show m_LC V' = m_LC V from funext eV]; have ek : k.toInt.toNat = 2 ^ nh.toInt.toNat := (by omega); rw [ek] at hfo hse; exact ⟨fo, fr, hsi_found, hA_sr, hfo, hse⟩) (Nat.le_refl _) (Nat.le_refl _) gr9_d63
    · have q15_ : k.toInt < al.toInt := Int.not_le.mp fun q => q15 (x_le32.mpr q)
      refine lv_iload hx hb gr9_d18 (lv_at hl 0 rfl) ?_
      refine lv_sipush hx hb gr9_d20 (v := 1024) (by decide) ?_
      have ec1024 : (1024 : Int32).toInt = 1024 := by decide
      refine lv_icmp_ge hx hb gr9_d23 (tgt := 63) (by decide) (fun q23 => ?_) (fun q23 => ?_)
      · have q23_ : (1024 : Int32).toInt ≤ k.toInt := x_le32.mp q23
        subst hav
        exact y_return B hI rfl rfl List.mem_cons_self rfl (x_cs.mono B.2.2.2.2.2 (y_mon B hI)) (fun t' e' v' s' n' V' h1 h2 h3 h4 => by cases h1; cases h2.symm.trans hs0; cases h4.symm.trans hsr; have eV : ∀ q, m_LC V' q = m_LC V q := fun q => (by unfold m_LC; rw [show m_any (m_wr V' (nI q)) 10 = m_any (m_wr V (nI q)) 10 from m_any_congr fun i hi => by unfold m_wr; rw [z_AR h3 hA0 hi]]); rw [show m_LC V' = m_LC V from funext eV]; have ek : k.toInt.toNat = 2 ^ nh.toInt.toNat := (by omega); rw [ek] at hfo hse; exact ⟨fo, fr, hsi_found, hA_sr, hfo, hse⟩) (Nat.le_refl _) (Nat.le_refl _) gr9_d63
      · have q23_ : k.toInt < (1024 : Int32).toInt := Int.not_le.mp fun q => q23 (x_le32.mpr q)
        refine lv_aload_n hx hb gr9_d26 rfl (lv_at hl 3 rfl) ?_
        refine lv_iload hx hb gr9_d27 (lv_at hl 0 rfl) ?_
        refine y_call (z := (0, 31, 2, some 6, xM72)) (av := [.ref ey, .int k]) (rest := []) (y_cokV (n := 1) (ci := 0) X ym_firstWrong rfl rfl rfl (x_cons (x_bw44 4 rfl rfl) (x_cons (x_bw42 11 rfl rfl) (x_cons (x_bw42 12 rfl rfl) (x_cons (x_bw0 6 rfl rfl) x_nilm)))) (x_bw42 13 rfl rfl) (by decide +kernel) ⟨Nat.le_of_ble_eq_true rfl, Nat.le_of_ble_eq_true rfl⟩) hY0 hI rfl gr9_d29 hl.1 (Nat.le_of_ble_eq_true rfl) (Nat.le_of_ble_eq_true rfl) (Nat.le_of_ble_eq_true rfl) (y_cons (y_cref hY_ey rfl) (y_cons ⟨_, rfl, x_i32 _⟩ y_nil)) rfl (y_recv rfl hY_ey) trivial (y_sub_ef rfl) fun v Yn o Hn L ho hr ha hIn hx_ hE hP => ?_
        have hPw := hP _ _ _ _ rfl hs_vw hA_vw
        replace hs_sr := y_Efld hE hY_this rfl (by decide) (by decide) hs_sr
        replace hs_vw := y_Efld hE hY_ey rfl (by decide) (by decide) hs_vw
        replace hsi_found := y_Efld hE hY_this rfl (by decide) (by decide) hsi_found
        replace hA_vw := hA_vw.kept (y_Earr hE hY_vw rfl (by decide))
        replace hA_sr := hA_sr.kept (y_Earr hE hY_sr rfl (by decide))
        replace hY_this := y_ext hx_ hI.1 hY_this
        replace hY_ey := y_ext hx_ hI.1 hY_ey
        replace hY_vw := y_ext hx_ hI.1 hY_vw
        replace hY_sr := y_ext hx_ hI.1 hY_sr
        obtain ⟨r29, rfl, hfw_29⟩ := hPw
        clear ho hr ha hE hP hI hx_
        rename x_I _ _ _ _ _ _ _ _ _ _ => hI
        have hnk := m_nj hk.1
        have hiff := m_fw_LC hfw_29
        refine lv_iconst hx hb gr9_d32 (v := (-1)) (by decide) ?_
        have ecm1 : ((-1) : Int32).toInt = (-1) := by decide
        refine lv_icmp_ne hx hb gr9_d33 (tgt := 57) (by decide) (fun q33 => ?_) (fun q33 => ?_)
        · have q33_ : ¬ r29.toInt = ((-1) : Int32).toInt := fun q => q33 (Int32.toInt_inj.mp q)
          obtain ⟨z57, hg_z57⟩ : ∃ z57 : Int32, k + Int32.ofInt 1 = z57 := ⟨_, rfl⟩
          have h_z57 : z57.toInt = k.toInt + 1 := by rw [← hg_z57]; exact y_inc (by decide) (by omega) (by omega)
          refine lv_iinc hx hb gr9_d57 hl (k := 0) rfl hg_z57 (by decide) (lv' := [(4, .int z57), (3, .int al), (0, .ref this), (1, .ref ey), (2, .int nh)]) rfl fun ls hl => ?_
          refine lv_goto hx hb gr9_d60 (tgt := 12) (by decide) ?_
          have his : z57.toInt.toNat = k.toInt.toNat + 1 := by omega
          have hL : m_LC V k.toInt.toNat = false := by unfold m_LC; rw [hnk]; cases hX : m_any (m_wr V k) 10 with | false => exact absurd (hiff.mpr hX) (by assumption) | true => rfl
          exact ih _ _ _ _ _ _ _ _ hI hY_this hY_ey hY_vw hY_sr hs_sr hs_vw hsi_found hA_vw hA_sr (lv_sub hl [0, 1, 2, 3, 4] rfl) (by first | assumption | omega) (by first | assumption | omega) (by first | assumption | omega) (by rw [his, m_cn_F hL]; exact hfo) (by rw [his]; exact m_sets_up hse (fun q => by rw [hL] at q; cases q) (fun _ _ => rfl)) (by omega)
        · have q33_ : r29.toInt = ((-1) : Int32).toInt := by rw [q33]
          refine lv_aload_n hx hb gr9_d36 rfl (lv_at hl 2 rfl) ?_
          refine y_getf X (fl135 X.2.2.2.2.1) hI.1 hY_this rfl hs_sr gr9_d37 ?_
          refine lv_aload_n hx hb gr9_d40 rfl (lv_at hl 2 rfl) ?_
          refine y_getf X (fl136 X.2.2.2.2.1) hI.1 hY_this rfl hsi_found gr9_d41 ?_
          refine lv_iload hx hb gr9_d44 (lv_at hl 0 rfl) ?_
          refine y_iast X hY0 hI hY_sr rfl hA_sr (by omega) (by show _ < (1024 : Int); omega) ⟨_, rfl, by show (0 : Int) ≤ _; omega, by show _ ≤ (1023 : Int); omega⟩ (by decide +kernel) gr9_d46 fun H locs hI h_new ho => ?_
          replace hA_sr := h_new
          replace hB_sr := y_upb (i := fo.toInt.toNat) (v := k) hB_sr (by constructor <;> omega)
          generalize hf_f46 : y_up fr fo.toInt.toNat k = f46 at hA_sr hB_sr
          replace hs_sr := y_slk hs_sr (ho _ (y_ne hY_this hY_sr rfl))
          replace hs_vw := y_slk hs_vw (ho _ (y_ne hY_ey hY_sr rfl))
          replace hsi_found := y_slk hsi_found (ho _ (y_ne hY_this hY_sr rfl))
          replace hA_vw := hA_vw.kept (ho _ (y_ne hY_vw hY_sr rfl))
          refine lv_aload_n hx hb gr9_d47 rfl (lv_at hl 2 rfl) ?_
          refine lv_dup hx hb gr9_d48 rfl ?_
          refine y_getf X (fl136 X.2.2.2.2.1) hI.1 hY_this rfl hsi_found gr9_d49 ?_
          refine lv_iconst hx hb gr9_d52 (v := 1) (by decide) ?_
          have ec1 : (1 : Int32).toInt = 1 := by decide
          refine lv_iadd hx hb gr9_d53 ?_
          generalize hg_z53 : fo + (1 : Int32) = z53
          have h_z53 : z53.toInt = fo.toInt + 1 := by rw [← hg_z53]; have := y_add (x := fo) (y := (1 : Int32)) (by rw [ec1]; omega) (by rw [ec1]; omega); rw [ec1] at this; exact this
          refine y_putf X (fw_gr9_240 X.2.2.2.2.1) hY0 hI hY_this rfl rfl ⟨_, rfl, by show (0 : Int) ≤ _; omega, by show _ ≤ (1024 : Int); omega⟩ (by decide +kernel) gr9_d54 fun H sl hI ho hs hk => ?_
          replace hs_sr := hk _ _ (by decide +kernel) (by decide) hs_sr
          replace hs_vw := y_slk hs_vw (ho _ (y_ne hY_ey hY_this rfl))
          replace hA_vw := hA_vw.kept (ho _ (y_ne hY_vw hY_this rfl))
          replace hA_sr := hA_sr.kept (ho _ (y_ne hY_sr hY_this rfl))
          replace hs := hs
          replace hsi_found := hs
          obtain ⟨z57, hg_z57⟩ : ∃ z57 : Int32, k + Int32.ofInt 1 = z57 := ⟨_, rfl⟩
          have h_z57 : z57.toInt = k.toInt + 1 := by rw [← hg_z57]; exact y_inc (by decide) (by omega) (by omega)
          refine lv_iinc hx hb gr9_d57 hl (k := 0) rfl hg_z57 (by decide) (lv' := [(4, .int z57), (3, .int al), (0, .ref this), (1, .ref ey), (2, .int nh)]) rfl fun ls hl => ?_
          refine lv_goto hx hb gr9_d60 (tgt := 12) (by decide) ?_
          have his : z57.toInt.toNat = k.toInt.toNat + 1 := by omega
          have hL : m_LC V k.toInt.toNat = true := by unfold m_LC; rw [hnk, hiff.mp (by assumption)]; rfl
          have hfe : z53.toInt = (m_cn (m_LC V) (k.toInt.toNat + 1) : Nat) := by rw [m_cn_T hL]; omega
          exact ih _ _ _ _ _ _ _ _ hI hY_this hY_ey hY_vw hY_sr hs_sr hs_vw hsi_found hA_vw hA_sr (lv_sub hl [0, 1, 2, 3, 4] rfl) (by first | assumption | omega) (by first | assumption | omega) (by first | assumption | omega) (by rw [his]; exact hfe) (by rw [his, ← hf_f46]; exact m_sets_up hse (fun _ => by rw [show fo.toInt.toNat = m_cn (m_LC V) k.toInt.toNat by omega, y_up_at, hnk]) (fun j hj => y_up_ne (by omega))) (by omega)
theorem ym_gatherR : y_Met vwCl x_G x_Zs x_Tb x_Nb xMga y_T z_Pga2 := by
  refine y_main (by decide +kernel) (by decide +kernel) x_Tb_good x_Nb_ok ?_
  intro p l e s m below meth c D U Y0 av ls B hI _ hl
  have X := B.1
  have hx := X.1
  have hb := X.2.1
  have hY0 := B.2.2.2.2.1
  obtain ⟨v0, v1, v2, rfl, hv0, hv1, ⟨nh, rfl, hnh⟩⟩ := y_three B.2.2.2.2.2
  replace hnh : (0 : Int) ≤ nh.toInt ∧ nh.toInt ≤ 10 := hnh
  obtain ⟨this, t0, rfl, ht0, hY_this⟩ := x_ref_at hv0 rfl
  obtain rfl := List.mem_singleton.mp ht0
  obtain ⟨ey, t1, rfl, ht1, hY_ey⟩ := x_ref_at hv1 rfl
  obtain rfl := List.mem_singleton.mp ht1
  replace hl : lv_has ls xMga.2.2.1 [(0, .ref this), (1, .ref ey), (2, .int nh)] := hl
  obtain ⟨vw, hs_vw, hY_vw⟩ := y_fldR (k := 1) hI.1 hY_ey rfl rfl
  obtain ⟨V, hA_vw, -⟩ := y_arr hI.1 hY_vw rfl rfl
  obtain ⟨sr, hs_sr, hY_sr⟩ := y_fldR (k := 0) hI.1 hY_this rfl rfl
  obtain ⟨fr0, hA_sr, hB_sr⟩ := y_arr hI.1 hY_sr rfl rfl
  replace hB_sr : ∀ j, j < 1024 → (0 : Int) ≤ (fr0 j).toInt ∧ (fr0 j).toInt ≤ 1023 := fun j hj => by obtain ⟨x, e0, e1⟩ := hB_sr j hj; cases e0; exact e1
  obtain ⟨fo0, hsi_found, -⟩ := y_fldI (k := 1) hI.1 hY_this rfl rfl
  have hs0 := hs_vw
  have hA0 := hA_vw
  have hsr := hs_sr
  refine lv_aload_n hx hb gr9_d0 rfl (lv_at hl 0 rfl) ?_
  refine lv_iconst hx hb gr9_d1 (v := 0) (by decide) ?_
  have ec0 : (0 : Int32).toInt = 0 := by decide
  refine y_putf X (fw_gr9_240 X.2.2.2.2.1) hY0 hI hY_this rfl rfl ⟨_, rfl, by show (0 : Int) ≤ _; omega, by show _ ≤ (1024 : Int); omega⟩ (by decide +kernel) gr9_d2 fun H sl hI ho hs hk => ?_
  replace hs_sr := hk _ _ (by decide +kernel) (by decide) hs_sr
  replace hs_vw := y_slk hs_vw (ho _ (y_ne hY_ey hY_this rfl))
  replace hA_vw := hA_vw.kept (ho _ (y_ne hY_vw hY_this rfl))
  replace hA_sr := hA_sr.kept (ho _ (y_ne hY_sr hY_this rfl))
  replace hs := hs
  replace hsi_found := hs
  refine lv_iconst hx hb gr9_d5 (v := 1) (by decide) ?_
  have ec1 : (1 : Int32).toInt = 1 := by decide
  refine lv_iload_n hx hb gr9_d6 rfl (lv_at hl 2 rfl) ?_
  refine lv_ishl hx hb gr9_d7 ?_
  generalize hg_z7 : (1 : Int32) <<< (nh &&& 31) = z7
  refine lv_istore_n hx hb gr9_d8 rfl hl (by decide) (lv' := [(3, .int z7), (0, .ref this), (1, .ref ey), (2, .int nh)]) rfl fun ls hl => ?_
  refine lv_iconst hx hb gr9_d9 (v := 0) (by decide) ?_
  refine lv_istore hx hb gr9_d10 hl (by decide) (lv' := [(4, .int (0 : Int32)), (3, .int z7), (0, .ref this), (1, .ref ey), (2, .int nh)]) rfl fun ls hl => ?_
  have hal9 : z7.toInt = ((2 ^ nh.toInt.toNat) : Nat) := by rw [← hg_z7]; exact z_all_1 hnh
  have hm9 : m_sets (m_LC V) 0 fr0 := fun k hk => absurd hk (by omega)
  exact gr9_L12 B rfl hs0 hA0 hsr hnh 1026 _ _ _ _ _ _ _ _ hI hY_this hY_ey hY_vw hY_sr hs_sr hs_vw hsi_found hA_vw hA_sr (lv_sub hl [0, 1, 2, 3, 4] rfl) (by first | assumption | omega) hal9 ⟨by decide, by rw [hal9, m_c0]; exact (fun m => by omega : ∀ m : Nat, (0 : Int) ≤ (m : Int)) _⟩ rfl hm9 (by omega)
def m_ofSt (w : Int32) (s : Int32) (k : Nat) : Int32 := s + (if m_bc (nI k) = w then 1 else 0)
def m_fuSt (w : Int32) (s : Int32) (k : Nat) : Int32 := if (nI k &&& w = w) ∧ (s = -1 ∨ (m_bc s).toInt < (m_bc (nI k)).toInt) then nI k else s
def z_Pof : yP := fun D av _ H v _ _ => ∀ (this : Nat) (w : Int32) (sr : Nat) (fo : Int32) (fr : Nat → Int32) (L : Nat → Bool) (N : Nat), av = [.ref this, .int w] → x_sl D 5 0 this H = some (.ref sr) → x_sl D 5 1 this H = some (.int fo) → y_A sr 1024 H fr → N ≤ 1024 → fo.toInt = (m_cn L N : Nat) → m_sets L N fr → v = some (.int (m_fd L (m_ofSt w) 0 N))
theorem ofq_d0 : decode xM76.2.1 0 = .ok (.iconst 0, 1) := dz_ok (by decide +kernel)
theorem ofq_d1 : decode xM76.2.1 1 = .ok (.istore_n 2, 1) := dz_ok (by decide +kernel)
theorem ofq_d2 : decode xM76.2.1 2 = .ok (.iconst 0, 1) := dz_ok (by decide +kernel)
theorem ofq_d3 : decode xM76.2.1 3 = .ok (.istore_n 3, 1) := dz_ok (by decide +kernel)
theorem ofq_d4 : decode xM76.2.1 4 = .ok (.iload_n 3, 1) := dz_ok (by decide +kernel)
theorem ofq_d5 : decode xM76.2.1 5 = .ok (.aload_n 0, 1) := dz_ok (by decide +kernel)
theorem ofq_d6 : decode xM76.2.1 6 = .ok (.getfield 27, 3) := dz_ok (by decide +kernel)
theorem ofq_d9 : decode xM76.2.1 9 = .ok (.if_icmp .ge 30, 3) := dz_ok (by decide +kernel)
theorem ofq_d12 : decode xM76.2.1 12 = .ok (.iload_n 2, 1) := dz_ok (by decide +kernel)
theorem ofq_d13 : decode xM76.2.1 13 = .ok (.aload_n 0, 1) := dz_ok (by decide +kernel)
theorem ofq_d14 : decode xM76.2.1 14 = .ok (.getfield 9, 3) := dz_ok (by decide +kernel)
theorem ofq_d17 : decode xM76.2.1 17 = .ok (.iload_n 3, 1) := dz_ok (by decide +kernel)
theorem ofq_d18 : decode xM76.2.1 18 = .ok (.iaload, 1) := dz_ok (by decide +kernel)
theorem ofq_d19 : decode xM76.2.1 19 = .ok (.invokestatic 37, 3) := dz_ok (by decide +kernel)
theorem ofq_d22 : decode xM76.2.1 22 = .ok (.iload_n 1, 1) := dz_ok (by decide +kernel)
theorem ofq_d23 : decode xM76.2.1 23 = .ok (.if_icmp .ne 7, 3) := dz_ok (by decide +kernel)
theorem ofq_d26 : decode xM76.2.1 26 = .ok (.iconst 1, 1) := dz_ok (by decide +kernel)
theorem ofq_d27 : decode xM76.2.1 27 = .ok (.goto 4, 3) := dz_ok (by decide +kernel)
theorem ofq_d30 : decode xM76.2.1 30 = .ok (.iconst 0, 1) := dz_ok (by decide +kernel)
theorem ofq_d31 : decode xM76.2.1 31 = .ok (.iadd, 1) := dz_ok (by decide +kernel)
theorem ofq_d32 : decode xM76.2.1 32 = .ok (.istore_n 2, 1) := dz_ok (by decide +kernel)
theorem ofq_d33 : decode xM76.2.1 33 = .ok (.iinc 3 1, 3) := dz_ok (by decide +kernel)
theorem ofq_d36 : decode xM76.2.1 36 = .ok (.goto (-32), 3) := dz_ok (by decide +kernel)
theorem ofq_d39 : decode xM76.2.1 39 = .ok (.iload_n 2, 1) := dz_ok (by decide +kernel)
theorem ofq_d40 : decode xM76.2.1 40 = .ok (.ireturn, 1) := dz_ok (by decide +kernel)
theorem ofq_L4 {p : Program} {l : Launch} {e : Env} {s : State} {m : MethodId} {below : List Frame} {meth : Method} {c : Code} {D : va_G} {U : State} {Y0 : xY} {av : List Value} (B : y_B vwCl x_Tb x_Nb xM76 p s m meth c D U Y0 av) {this sr : Nat} {w fo : Int32} {fr : Nat → Int32} (hav : av = [.ref this, .int w]) (hsr : x_sl D 5 0 this s.heap = some (.ref sr)) (hfo0 : x_sl D 5 1 this s.heap = some (.int fo)) (hA0 : y_A sr 1024 s.heap fr) (hfo9 : 0 ≤ fo.toInt ∧ fo.toInt ≤ 1024)  :
    ∀ (n : Nat), ∀ (H : Heap) (Y : xY) (locs : List Loc) (ls : Array Slot) (i : Int32) (al : Int32), x_I D x_G x_Zs U (x_efs xM76) Y0 s.heap Y H locs → Y this = some 8 → Y sr = some 35 → x_sl D 5 0 this H = some (.ref sr) → x_sl D 5 1 this H = some (.int fo) → y_A sr 1024 H fr → lv_has ls xM76.2.2.1 [(3, .int i), (2, .int al), (0, .ref this), (1, .int w)] → (0 ≤ i.toInt ∧ i.toInt ≤ fo.toInt) → (∀ j, j < 1024 → (0 : Int) ≤ (fr j).toInt ∧ (fr j).toInt ≤ 1023) → (∀ (L : Nat → Bool) (N : Nat), N ≤ 1024 → fo.toInt = (m_cn L N : Nat) → m_sets L N fr → ∃ k, k ≤ N ∧ m_cn L k = i.toInt.toNat ∧ al = m_fd L (m_ofSt w) 0 k) → (1025 - i.toInt).toNat < n → W p l e (x_rm xM76) s m av.toArray below meth c H locs 0 0 (y_QQ below D x_G x_Zs U xM76 z_Pof av Y0 s) (F0 m 4 ls []) := by
  have X := B.1
  have hx := X.1
  have hb := X.2.1
  have hY0 := B.2.2.2.2.1
  intro n
  induction n with
  | zero => intro _ _ _ _ _ _ _ _ _ _ _ _ _ _ _ _ h; exact absurd h (Nat.not_lt_zero _)
  | succ n ih =>
    intro H Y locs ls i al  hI hY_this hY_sr hs_sr hsi_found hA_sr hl hi hB_sr hq hn
    refine lv_iload_n hx hb ofq_d4 rfl (lv_at hl 0 rfl) ?_
    refine lv_aload_n hx hb ofq_d5 rfl (lv_at hl 2 rfl) ?_
    refine y_getf X (fl136 X.2.2.2.2.1) hI.1 hY_this rfl hsi_found ofq_d6 ?_
    refine lv_icmp_ge hx hb ofq_d9 (tgt := 39) (by decide) (fun q9 => ?_) (fun q9 => ?_)
    · have q9_ : fo.toInt ≤ i.toInt := x_le32.mp q9
      refine lv_iload_n hx hb ofq_d39 rfl (lv_at hl 1 rfl) ?_
      subst hav
      exact y_ireturn B hI rfl rfl rfl List.mem_cons_self ⟨_, rfl, ⟨_, rfl, x_i32 _⟩⟩ (x_cs.mono B.2.2.2.2.2 (y_mon B hI)) (fun t' w' s' o' r' L N h1 h2 h3 h4 h5 h6 h7 => by cases h1; cases h2.symm.trans hsr; cases h3.symm.trans hfo0; have h8 : m_sets L N fr := (fun k hk hL => by rw [z_AR hA0 h4 (show m_cn L k < 1024 by have := m_cn_lt hk hL; have := m_cn_b (L := L) (k := N); omega)]; exact h7 k hk hL); exact congrArg (fun x => some (Value.int x)) (m_fd_end (hq L N h5 h6 h8) (by omega))) (Nat.le_refl _) (Nat.le_refl _) ofq_d40
    · have q9_ : i.toInt < fo.toInt := Int.not_le.mp fun q => q9 (x_le32.mpr q)
      refine lv_iload_n hx hb ofq_d12 rfl (lv_at hl 1 rfl) ?_
      refine lv_aload_n hx hb ofq_d13 rfl (lv_at hl 2 rfl) ?_
      refine y_getf X (fl135 X.2.2.2.2.1) hI.1 hY_this rfl hs_sr ofq_d14 ?_
      refine lv_iload_n hx hb ofq_d17 rfl (lv_at hl 0 rfl) ?_
      refine y_iald X hI.1 hY_sr rfl hA_sr (by omega) (by show _ < (1024 : Int); omega) ofq_d18 ?_
      obtain ⟨e18, hg_e18⟩ : ∃ e18 : Int32, fr i.toInt.toNat = e18 := ⟨_, rfl⟩
      rw [hg_e18]
      have h_e18 : (0 : Int) ≤ e18.toInt ∧ e18.toInt ≤ 1023 := by rw [← hg_e18]; exact hB_sr _ (by omega)
      refine y_call (z := (1, 37, 1, none, xM71)) (av := [.int e18]) (rest := [.int al]) (y_cokS (n := 1) X ym_bitCount (x_cons (x_bw44 9 rfl rfl) (x_cons (x_bw43 2 rfl rfl) (x_cons (x_bw1 5 rfl rfl) x_nilm))) (x_bw43 3 rfl rfl) (by decide +kernel) ⟨Nat.le_of_ble_eq_true rfl, Nat.le_of_ble_eq_true rfl⟩) hY0 hI rfl ofq_d19 hl.1 (Nat.le_of_ble_eq_true rfl) (Nat.le_of_ble_eq_true rfl) (Nat.le_of_ble_eq_true rfl) (y_cons ⟨_, rfl, x_i32 _⟩ y_nil) rfl (y_norecv rfl) trivial (y_sub_ef rfl) fun v Yn o Hn L ho hr ha hIn hx_ hE hP => ?_
      have hPm := hP _ rfl
      obtain rfl := hPm
      replace hs_sr := y_Efld hE hY_this rfl (by decide) (by decide) hs_sr
      replace hsi_found := y_Efld hE hY_this rfl (by decide) (by decide) hsi_found
      replace hA_sr := hA_sr.kept (y_Earr hE hY_sr rfl (by decide))
      replace hY_this := y_ext hx_ hI.1 hY_this
      replace hY_sr := y_ext hx_ hI.1 hY_sr
      generalize hg_r19 : m_bc e18 = r19
      clear ho hr ha hE hP hI hx_
      rename x_I _ _ _ _ _ _ _ _ _ _ => hI
      refine lv_iload_n hx hb ofq_d22 rfl (lv_at hl 3 rfl) ?_
      refine lv_icmp_ne hx hb ofq_d23 (tgt := 30) (by decide) (fun q23 => ?_) (fun q23 => ?_)
      · have q23_ : ¬ r19.toInt = w.toInt := fun q => q23 (Int32.toInt_inj.mp q)
        refine lv_iconst hx hb ofq_d30 (v := 0) (by decide) ?_
        have ec0 : (0 : Int32).toInt = 0 := by decide
        refine lv_iadd hx hb ofq_d31 ?_
        generalize hg_z31 : al + (0 : Int32) = z31
        refine lv_istore_n hx hb ofq_d32 rfl hl (by decide) (lv' := [(2, .int z31), (3, .int i), (0, .ref this), (1, .int w)]) rfl fun ls hl => ?_
        obtain ⟨z33, hg_z33⟩ : ∃ z33 : Int32, i + Int32.ofInt 1 = z33 := ⟨_, rfl⟩
        have h_z33 : z33.toInt = i.toInt + 1 := by rw [← hg_z33]; exact y_inc (by decide) (by omega) (by omega)
        refine lv_iinc hx hb ofq_d33 hl (k := 1) rfl hg_z33 (by decide) (lv' := [(3, .int z33), (2, .int z31), (0, .ref this), (1, .int w)]) rfl fun ls hl => ?_
        refine lv_goto hx hb ofq_d36 (tgt := 4) (by decide) ?_
        have his : z33.toInt.toNat = i.toInt.toNat + 1 := by omega
        exact ih _ _ _ _ _ _ hI hY_this hY_sr hs_sr hsi_found hA_sr (lv_sub hl [0, 1, 2, 3] rfl) (by first | assumption | omega) hB_sr (fun L N h1 h2 h3 => by obtain ⟨q, q1, q2, q3, q4, q5⟩ := m_fd_step (hq L N h1 h2 h3) (by omega); rw [his]; obtain ⟨k, k1, k2, k3⟩ := q5; refine ⟨k, k1, k2, ?_⟩; rw [← k3]; show _ = m_ofSt w al q; have hfr := h3 q q1 q2; rw [q3] at hfr; rw [← hg_z31]; unfold m_ofSt; rw [← hfr, hg_e18, hg_r19]; first | rw [if_pos q23] | rw [if_neg q23]) (by omega)
      · have q23_ : r19.toInt = w.toInt := by rw [q23]
        refine lv_iconst hx hb ofq_d26 (v := 1) (by decide) ?_
        have ec1 : (1 : Int32).toInt = 1 := by decide
        refine lv_goto hx hb ofq_d27 (tgt := 31) (by decide) ?_
        refine lv_iadd hx hb ofq_d31 ?_
        generalize hg_z31 : al + (1 : Int32) = z31
        refine lv_istore_n hx hb ofq_d32 rfl hl (by decide) (lv' := [(2, .int z31), (3, .int i), (0, .ref this), (1, .int w)]) rfl fun ls hl => ?_
        obtain ⟨z33, hg_z33⟩ : ∃ z33 : Int32, i + Int32.ofInt 1 = z33 := ⟨_, rfl⟩
        have h_z33 : z33.toInt = i.toInt + 1 := by rw [← hg_z33]; exact y_inc (by decide) (by omega) (by omega)
        refine lv_iinc hx hb ofq_d33 hl (k := 1) rfl hg_z33 (by decide) (lv' := [(3, .int z33), (2, .int z31), (0, .ref this), (1, .int w)]) rfl fun ls hl => ?_
        refine lv_goto hx hb ofq_d36 (tgt := 4) (by decide) ?_
        have his : z33.toInt.toNat = i.toInt.toNat + 1 := by omega
        exact ih _ _ _ _ _ _ hI hY_this hY_sr hs_sr hsi_found hA_sr (lv_sub hl [0, 1, 2, 3] rfl) (by first | assumption | omega) hB_sr (fun L N h1 h2 h3 => by obtain ⟨q, q1, q2, q3, q4, q5⟩ := m_fd_step (hq L N h1 h2 h3) (by omega); rw [his]; obtain ⟨k, k1, k2, k3⟩ := q5; refine ⟨k, k1, k2, ?_⟩; rw [← k3]; show _ = m_ofSt w al q; have hfr := h3 q q1 q2; rw [q3] at hfr; rw [← hg_z31]; unfold m_ofSt; rw [← hfr, hg_e18, hg_r19]; first | rw [if_pos q23] | rw [if_neg q23]) (by omega)
theorem ym_ofFires : y_Met vwCl x_G x_Zs x_Tb x_Nb xM76 y_T z_Pof := by
  refine y_main (by decide +kernel) (by decide +kernel) x_Tb_good x_Nb_ok ?_
  intro p l e s m below meth c D U Y0 av ls B hI _ hl
  have X := B.1
  have hx := X.1
  have hb := X.2.1
  have hY0 := B.2.2.2.2.1
  obtain ⟨v0, v1, rfl, hv0, ⟨w, rfl, -⟩⟩ := x_two B.2.2.2.2.2
  obtain ⟨this, t0, rfl, ht0, hY_this⟩ := x_ref_at hv0 rfl
  obtain rfl := List.mem_singleton.mp ht0
  replace hl : lv_has ls xM76.2.2.1 [(0, .ref this), (1, .int w)] := hl
  obtain ⟨sr, hs_sr, hY_sr⟩ := y_fldR (k := 0) hI.1 hY_this rfl rfl
  obtain ⟨fr, hA_sr, hB_sr⟩ := y_arr hI.1 hY_sr rfl rfl
  replace hB_sr : ∀ j, j < 1024 → (0 : Int) ≤ (fr j).toInt ∧ (fr j).toInt ≤ 1023 := fun j hj => by obtain ⟨x, e0, e1⟩ := hB_sr j hj; cases e0; exact e1
  obtain ⟨fo, hsi_found, hfo9⟩ := y_fldI (k := 1) hI.1 hY_this rfl rfl
  replace hfo9 : (0 : Int) ≤ fo.toInt ∧ fo.toInt ≤ 1024 := hfo9
  have hsr := hs_sr
  have hA0 := hA_sr
  have hfo0 := hsi_found
  refine lv_iconst hx hb ofq_d0 (v := 0) (by decide) ?_
  have ec0 : (0 : Int32).toInt = 0 := by decide
  refine lv_istore_n hx hb ofq_d1 rfl hl (by decide) (lv' := [(2, .int (0 : Int32)), (0, .ref this), (1, .int w)]) rfl fun ls hl => ?_
  refine lv_iconst hx hb ofq_d2 (v := 0) (by decide) ?_
  refine lv_istore_n hx hb ofq_d3 rfl hl (by decide) (lv' := [(3, .int (0 : Int32)), (2, .int (0 : Int32)), (0, .ref this), (1, .int w)]) rfl fun ls hl => ?_
  exact ofq_L4 B rfl hsr hfo0 hA0 hfo9 1026 _ _ _ _ _ _ hI hY_this hY_sr hs_sr hsi_found hA_sr (lv_sub hl [0, 1, 2, 3] rfl) (by first | assumption | omega) hB_sr (fun L N _ _ _ => m_fd_0) (by omega)
