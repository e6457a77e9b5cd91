/-! WORK, CHEAPEST of the class -/
def z_Pwkb : yP := fun D av Y H v _ _ => ∀ (this : Nat) (f : Nat → Int32), av = [.ref this] → z_L D Y this H f → v = some (.int (m_can f))
theorem wbq_d0 : decode xM83.2.1 0 = .ok (.iconst 0, 1) := dz_ok (by decide +kernel)
theorem wbq_d1 : decode xM83.2.1 1 = .ok (.istore_n 1, 1) := dz_ok (by decide +kernel)
theorem wbq_d2 : decode xM83.2.1 2 = .ok (.iconst 0, 1) := dz_ok (by decide +kernel)
theorem wbq_d3 : decode xM83.2.1 3 = .ok (.istore_n 2, 1) := dz_ok (by decide +kernel)
theorem wbq_d4 : decode xM83.2.1 4 = .ok (.iload_n 2, 1) := dz_ok (by decide +kernel)
theorem wbq_d5 : decode xM83.2.1 5 = .ok (.aload_n 0, 1) := dz_ok (by decide +kernel)
theorem wbq_d6 : decode xM83.2.1 6 = .ok (.getfield 73, 3) := dz_ok (by decide +kernel)
theorem wbq_d9 : decode xM83.2.1 9 = .ok (.if_icmp .ge 40, 3) := dz_ok (by decide +kernel)
theorem wbq_d12 : decode xM83.2.1 12 = .ok (.iload_n 1, 1) := dz_ok (by decide +kernel)
theorem wbq_d13 : decode xM83.2.1 13 = .ok (.aload_n 0, 1) := dz_ok (by decide +kernel)
theorem wbq_d14 : decode xM83.2.1 14 = .ok (.getfield 29, 3) := dz_ok (by decide +kernel)
theorem wbq_d17 : decode xM83.2.1 17 = .ok (.iload_n 2, 1) := dz_ok (by decide +kernel)
theorem wbq_d18 : decode xM83.2.1 18 = .ok (.aaload, 1) := dz_ok (by decide +kernel)
theorem wbq_d19 : decode xM83.2.1 19 = .ok (.invokevirtual 129, 3) := dz_ok (by decide +kernel)
theorem wbq_d22 : decode xM83.2.1 22 = .ok (.ifCond .eq 18, 3) := dz_ok (by decide +kernel)
theorem wbq_d25 : decode xM83.2.1 25 = .ok (.aload_n 0, 1) := dz_ok (by decide +kernel)
theorem wbq_d26 : decode xM83.2.1 26 = .ok (.getfield 33, 3) := dz_ok (by decide +kernel)
theorem wbq_d29 : decode xM83.2.1 29 = .ok (.iload_n 2, 1) := dz_ok (by decide +kernel)
theorem wbq_d30 : decode xM83.2.1 30 = .ok (.iaload, 1) := dz_ok (by decide +kernel)
theorem wbq_d31 : decode xM83.2.1 31 = .ok (.ifCond .ne 9, 3) := dz_ok (by decide +kernel)
theorem wbq_d34 : decode xM83.2.1 34 = .ok (.iconst 1, 1) := dz_ok (by decide +kernel)
theorem wbq_d35 : decode xM83.2.1 35 = .ok (.iload_n 2, 1) := dz_ok (by decide +kernel)
theorem wbq_d36 : decode xM83.2.1 36 = .ok (.ishl, 1) := dz_ok (by decide +kernel)
theorem wbq_d37 : decode xM83.2.1 37 = .ok (.goto 4, 3) := dz_ok (by decide +kernel)
theorem wbq_d40 : decode xM83.2.1 40 = .ok (.iconst 0, 1) := dz_ok (by decide +kernel)
theorem wbq_d41 : decode xM83.2.1 41 = .ok (.ior, 1) := dz_ok (by decide +kernel)
theorem wbq_d42 : decode xM83.2.1 42 = .ok (.istore_n 1, 1) := dz_ok (by decide +kernel)
theorem wbq_d43 : decode xM83.2.1 43 = .ok (.iinc 2 1, 3) := dz_ok (by decide +kernel)
theorem wbq_d46 : decode xM83.2.1 46 = .ok (.goto (-42), 3) := dz_ok (by decide +kernel)
theorem wbq_d49 : decode xM83.2.1 49 = .ok (.iload_n 1, 1) := dz_ok (by decide +kernel)
theorem wbq_d50 : decode xM83.2.1 50 = .ok (.ireturn, 1) := dz_ok (by decide +kernel)
theorem wbq_L4 {p : Program} {l : Launch} {e : Env} {s : State} {m : MethodId} {below : List Frame} {meth : Method} {c : Code} {D : va_G} {U : State} {Y0 : xY} {av : List Value} (B : y_B vwCl x_Tb x_Nb xM83 p s m meth c D U Y0 av) {this adone astones : Nat} {f : Nat → Int32} (hav : av = [.ref this]) (hL0 : z_L D Y0 this s.heap f) (hb1 : 0 ≤ (f 1).toInt ∧ (f 1).toInt ≤ 8)  :
    ∀ (n : Nat), ∀ (H : Heap) (Y : xY) (locs : List Loc) (ls : Array Slot) (k : Int32) (al : Int32), x_I D x_G x_Zs U (x_efs xM83) Y0 s.heap Y H locs → Y this = some 2 → Y adone = some 25 → Y astones = some 24 → x_sl D 2 8 this H = some (.ref adone) → x_sl D 2 7 this H = some (.ref astones) → x_sl D 2 6 this H = some (.int (f 1)) → y_A adone 8 H (fun j => f (65 + 7 * j)) → z_L D Y this H f → lv_has ls xM83.2.2.1 [(2, .int k), (1, .int al), (0, .ref this)] → (0 ≤ k.toInt ∧ k.toInt ≤ (f 1).toInt) → (al = m_gg (m_cnB f) 0 k.toInt.toNat) → (9 - k.toInt).toNat < n → W p l e (x_rm xM83) s m av.toArray below meth c H locs 0 0 (y_QQ below D x_G x_Zs U xM83 z_Pwkb av Y0 s) (F0 m 4 ls []) := by
  have X := B.1
  have hx := X.1
  have hb := X.2.1
  have hY0 := B.2.2.2.2.1
  intro n
  induction n with
  | zero => intro _ _ _ _ _ _ _ _ _ _ _ _ _ _ _ _ _ _ h; exact absurd h (Nat.not_lt_zero _)
  | succ n ih =>
    intro H Y locs ls k al  hI hY_this hY_adone hY_astones hs_adone hs_astones hsi_things hA_adone hL hl hk hal hn
    refine lv_iload_n hx hb wbq_d4 rfl (lv_at hl 0 rfl) ?_
    refine lv_aload_n hx hb wbq_d5 rfl (lv_at hl 2 rfl) ?_
    refine y_getf X (fl42 X.2.2.2.2.1) hI.1 hY_this rfl hsi_things wbq_d6 ?_
    refine lv_icmp_ge hx hb wbq_d9 (tgt := 49) (by decide) (fun q9 => ?_) (fun q9 => ?_)
    · have q9_ : (f 1).toInt ≤ k.toInt := x_le32.mp q9
      refine lv_iload_n hx hb wbq_d49 rfl (lv_at hl 1 rfl) ?_
      have hcb := m_can_b hb1
      have hc9 : al = m_can f := by unfold m_can; rw [hal, show k.toInt.toNat = (f 1).toInt.toNat by omega]
      rw [← hc9] at hcb
      subst hav
      exact y_ireturn B hI rfl rfl rfl List.mem_cons_self ⟨_, rfl, ⟨_, rfl, by show (0 : Int) ≤ _; omega, by show _ ≤ (255 : Int); omega⟩⟩ (x_cs.mono B.2.2.2.2.2 (y_mon B hI)) (fun t' f' h1 h2 => by cases h1; cases h2.uniq hL0; exact congrArg (fun x => some (Value.int x)) hc9) (Nat.le_refl _) (Nat.le_refl _) wbq_d50
    · have q9_ : k.toInt < (f 1).toInt := Int.not_le.mp fun q => q9 (x_le32.mpr q)
      refine lv_iload_n hx hb wbq_d12 rfl (lv_at hl 1 rfl) ?_
      refine lv_aload_n hx hb wbq_d13 rfl (lv_at hl 2 rfl) ?_
      refine y_getf X (fl39 X.2.2.2.2.1) hI.1 hY_this rfl hs_astones wbq_d14 ?_
      refine lv_iload_n hx hb wbq_d17 rfl (lv_at hl 0 rfl) ?_
      obtain ⟨as9, e1, -, h3⟩ := hL.2.2.1
      cases e1.symm.trans hs_astones
      obtain ⟨sn, hat9, z9, hz9, hYz, hk9, -⟩ := h3 k.toInt.toNat (by omega)
      refine y_aald X hI.1 hY_astones rfl (by omega) (by show _ < (8 : Int); omega) hat9 wbq_d18 ?_
      simp only [z_Kd, List.mem_cons, List.not_mem_nil, or_false] at hz9
      rcases hz9 with rfl | rfl | rfl | rfl | rfl | rfl
      · replace hYz : _ = some 11 := hYz
        replace hk9 : ((11 : Nat) : Int) = 11 + (f (60 + 7 * k.toInt.toNat)).toInt := hk9
        refine y_call (z := (0, 129, 1, some 11, xM26)) (av := [.ref sn]) (rest := [.int al]) (y_cok.of (x_cokV (n := 0) (ci := 6) X xm26 rfl rfl rfl (x_cons (x_bw47 0 rfl rfl) (x_cons (x_bw25 9 rfl rfl) (x_cons (x_bw25 10 rfl rfl) (x_cons (x_bw0 4 rfl rfl) x_nilm)))) (x_bw26 5 rfl rfl) (by decide +kernel) ⟨Nat.le_of_ble_eq_true rfl, Nat.le_of_ble_eq_true rfl⟩)) hY0 hI rfl wbq_d19 hl.1 (Nat.le_of_ble_eq_true rfl) (Nat.le_of_ble_eq_true rfl) (Nat.le_of_ble_eq_true rfl) (y_cons (y_cref hYz rfl) y_nil) rfl (y_recv rfl hYz) trivial (y_sub_ef rfl) fun v Yn o Hn L ho hr ha hIn hx_ hE hP => ?_
        replace hs_adone := y_Efld hE hY_this rfl (by decide) (by decide) hs_adone
        replace hs_astones := y_Efld hE hY_this rfl (by decide) (by decide) hs_astones
        replace hsi_things := y_Efld hE hY_this rfl (by decide) (by decide) hsi_things
        replace hA_adone := hA_adone.kept (y_Earr hE hY_adone rfl (by decide))
        replace hL := hL.E hY_this hE (fun q u h => y_ext hx_ hI.1 h) (by decide +kernel)
        replace hY_this := y_ext hx_ hI.1 hY_this
        replace hY_adone := y_ext hx_ hI.1 hY_adone
        replace hY_astones := y_ext hx_ hI.1 hY_astones
        replace hYz := y_ext hx_ hI.1 hYz
        obtain ⟨r19, rfl, h_r19⟩ := y_ansI (lo := 0) (hi := 0) (by decide) ho hr
        clear ho hr ha hE hP hI hx_
        rename x_I _ _ _ _ _ _ _ _ _ _ => hI
        have ec0 : (0 : Int32).toInt = 0 := by decide
        refine lv_if_eq hx hb wbq_d22 (tgt := 40) (by decide) (fun q22 => ?_) (fun q22 => ?_)
        · have q22_ : r19.toInt = (0 : Int32).toInt := by rw [q22]
          refine lv_iconst hx hb wbq_d40 (v := 0) (by decide) ?_
          refine lv_ior hx hb wbq_d41 ?_
          generalize hg_z41 : al ||| (0 : Int32) = z41
          refine lv_istore_n hx hb wbq_d42 rfl hl (by decide) (lv' := [(1, .int z41), (2, .int k), (0, .ref this)]) rfl fun ls hl => ?_
          obtain ⟨z43, hg_z43⟩ : ∃ z43 : Int32, k + Int32.ofInt 1 = z43 := ⟨_, rfl⟩
          have h_z43 : z43.toInt = k.toInt + 1 := by rw [← hg_z43]; exact y_inc (by decide) (by omega) (by omega)
          refine lv_iinc hx hb wbq_d43 hl (k := 1) rfl hg_z43 (by decide) (lv' := [(2, .int z43), (1, .int z41), (0, .ref this)]) rfl fun ls hl => ?_
          refine lv_goto hx hb wbq_d46 (tgt := 4) (by decide) ?_
          have his : z43.toInt.toNat = k.toInt.toNat + 1 := by omega
          have hnj := m_nj hk.1
          have hc : m_cnB f k.toInt.toNat = false := by unfold m_cnB; first | (rw [decide_eq_true (by omega)]; rfl) | (rw [decide_eq_false (fun q9 => absurd ((Eq.trans (Eq.symm hg_e30)) q9) (fun q8 => by have h9 := congrArg Int32.toInt q8; rw [m_c0] at h9; omega)), Bool.and_false])
          exact ih _ _ _ _ _ _ hI hY_this hY_adone hY_astones hs_adone hs_astones hsi_things hA_adone hL (lv_sub hl [0, 1, 2] rfl) (by first | assumption | omega) (by rw [his, m_gg_F hc, ← hal, ← hg_z41]; exact m_or0) (by omega)
        · have q22_ : ¬ r19.toInt = (0 : Int32).toInt := fun q => q22 (Int32.toInt_inj.mp q)
          refine lv_aload_n hx hb wbq_d25 rfl (lv_at hl 2 rfl) ?_
          refine y_getf X (fl40 X.2.2.2.2.1) hI.1 hY_this rfl hs_adone wbq_d26 ?_
          refine lv_iload_n hx hb wbq_d29 rfl (lv_at hl 0 rfl) ?_
          refine y_iald X hI.1 hY_adone rfl hA_adone (by omega) (by show _ < (8 : Int); omega) wbq_d30 ?_
          obtain ⟨e30, hg_e30⟩ : ∃ e30 : Int32, f (65 + 7 * k.toInt.toNat) = e30 := ⟨_, rfl⟩
          rw [hg_e30]
          refine lv_if_ne hx hb wbq_d31 (tgt := 40) (by decide) (fun q31 => ?_) (fun q31 => ?_)
          · have q31_ : ¬ e30.toInt = (0 : Int32).toInt := fun q => q31 (Int32.toInt_inj.mp q)
            refine lv_iconst hx hb wbq_d40 (v := 0) (by decide) ?_
            refine lv_ior hx hb wbq_d41 ?_
            generalize hg_z41 : al ||| (0 : Int32) = z41
            refine lv_istore_n hx hb wbq_d42 rfl hl (by decide) (lv' := [(1, .int z41), (2, .int k), (0, .ref this)]) rfl fun ls hl => ?_
            obtain ⟨z43, hg_z43⟩ : ∃ z43 : Int32, k + Int32.ofInt 1 = z43 := ⟨_, rfl⟩
            have h_z43 : z43.toInt = k.toInt + 1 := by rw [← hg_z43]; exact y_inc (by decide) (by omega) (by omega)
            refine lv_iinc hx hb wbq_d43 hl (k := 1) rfl hg_z43 (by decide) (lv' := [(2, .int z43), (1, .int z41), (0, .ref this)]) rfl fun ls hl => ?_
            refine lv_goto hx hb wbq_d46 (tgt := 4) (by decide) ?_
            have his : z43.toInt.toNat = k.toInt.toNat + 1 := by omega
            have hnj := m_nj hk.1
            have hc : m_cnB f k.toInt.toNat = false := by unfold m_cnB; first | (rw [decide_eq_true (by omega)]; rfl) | (rw [decide_eq_false (fun q9 => absurd ((Eq.trans (Eq.symm hg_e30)) q9) (fun q8 => by have h9 := congrArg Int32.toInt q8; rw [m_c0] at h9; omega)), Bool.and_false])
            exact ih _ _ _ _ _ _ hI hY_this hY_adone hY_astones hs_adone hs_astones hsi_things hA_adone hL (lv_sub hl [0, 1, 2] rfl) (by first | assumption | omega) (by rw [his, m_gg_F hc, ← hal, ← hg_z41]; exact m_or0) (by omega)
          · have q31_ : e30.toInt = (0 : Int32).toInt := by rw [q31]
            refine lv_iconst hx hb wbq_d34 (v := 1) (by decide) ?_
            have ec1 : (1 : Int32).toInt = 1 := by decide
            refine lv_iload_n hx hb wbq_d35 rfl (lv_at hl 0 rfl) ?_
            refine lv_ishl hx hb wbq_d36 ?_
            generalize hg_z36 : (1 : Int32) <<< (k &&& 31) = z36
            refine lv_goto hx hb wbq_d37 (tgt := 41) (by decide) ?_
            refine lv_ior hx hb wbq_d41 ?_
            generalize hg_z41 : al ||| z36 = z41
            refine lv_istore_n hx hb wbq_d42 rfl hl (by decide) (lv' := [(1, .int z41), (2, .int k), (0, .ref this)]) rfl fun ls hl => ?_
            obtain ⟨z43, hg_z43⟩ : ∃ z43 : Int32, k + Int32.ofInt 1 = z43 := ⟨_, rfl⟩
            have h_z43 : z43.toInt = k.toInt + 1 := by rw [← hg_z43]; exact y_inc (by decide) (by omega) (by omega)
            refine lv_iinc hx hb wbq_d43 hl (k := 1) rfl hg_z43 (by decide) (lv' := [(2, .int z43), (1, .int z41), (0, .ref this)]) rfl fun ls hl => ?_
            refine lv_goto hx hb wbq_d46 (tgt := 4) (by decide) ?_
            have his : z43.toInt.toNat = k.toInt.toNat + 1 := by omega
            have hnj := m_nj hk.1
            have hc : m_cnB f k.toInt.toNat = true := by unfold m_cnB; rw [decide_eq_false (by omega), decide_eq_true ((Eq.trans hg_e30) (Int32.toInt_inj.mp (by rw [m_c0]; omega)))]; rfl
            exact ih _ _ _ _ _ _ hI hY_this hY_adone hY_astones hs_adone hs_astones hsi_things hA_adone hL (lv_sub hl [0, 1, 2] rfl) (by first | assumption | omega) (by rw [his, m_gg_T hc, hnj, ← hal, ← hg_z41, ← hg_z36]; rfl) (by omega)
      · replace hYz : _ = some 12 := hYz
        replace hk9 : ((12 : Nat) : Int) = 11 + (f (60 + 7 * k.toInt.toNat)).toInt := hk9
        refine y_call (z := (0, 129, 1, some 12, xM27)) (av := [.ref sn]) (rest := [.int al]) (y_cok.of (x_cokO (n := 0) (ci := 10) (x := ⟨"TwinFires$Stone", "isWorkable", "()Z"⟩) (b0 := prog_8_method_3_code) (m0 := 1) (r0 := some .boolean) X xm27 rfl rfl (x_bw26 5 rfl rfl) (x_cons (x_bw47 0 rfl rfl) (x_cons (x_bw25 11 rfl rfl) (x_cons (x_bw25 9 rfl rfl) (x_cons (x_bw26 4 rfl rfl) (x_cons (x_bw25 13 rfl rfl) (x_cons (x_bw0 10 rfl rfl) x_nilm)))))) (x_bw25 14 rfl rfl) (by decide +kernel) ⟨Nat.le_of_ble_eq_true rfl, Nat.le_of_ble_eq_true rfl⟩)) hY0 hI rfl wbq_d19 hl.1 (Nat.le_of_ble_eq_true rfl) (Nat.le_of_ble_eq_true rfl) (Nat.le_of_ble_eq_true rfl) (y_cons (y_cref hYz rfl) y_nil) rfl (y_recv rfl hYz) trivial (y_sub_ef rfl) fun v Yn o Hn L ho hr ha hIn hx_ hE hP => ?_
        replace hs_adone := y_Efld hE hY_this rfl (by decide) (by decide) hs_adone
        replace hs_astones := y_Efld hE hY_this rfl (by decide) (by decide) hs_astones
        replace hsi_things := y_Efld hE hY_this rfl (by decide) (by decide) hsi_things
        replace hA_adone := hA_adone.kept (y_Earr hE hY_adone rfl (by decide))
        replace hL := hL.E hY_this hE (fun q u h => y_ext hx_ hI.1 h) (by decide +kernel)
        replace hY_this := y_ext hx_ hI.1 hY_this
        replace hY_adone := y_ext hx_ hI.1 hY_adone
        replace hY_astones := y_ext hx_ hI.1 hY_astones
        replace hYz := y_ext hx_ hI.1 hYz
        obtain ⟨r19, rfl, h_r19⟩ := y_ansI (lo := 1) (hi := 1) (by decide) ho hr
        clear ho hr ha hE hP hI hx_
        rename x_I _ _ _ _ _ _ _ _ _ _ => hI
        have ec0 : (0 : Int32).toInt = 0 := by decide
        refine lv_if_eq hx hb wbq_d22 (tgt := 40) (by decide) (fun q22 => ?_) (fun q22 => ?_)
        · have q22_ : r19.toInt = (0 : Int32).toInt := by rw [q22]
          refine lv_iconst hx hb wbq_d40 (v := 0) (by decide) ?_
          refine lv_ior hx hb wbq_d41 ?_
          generalize hg_z41 : al ||| (0 : Int32) = z41
          refine lv_istore_n hx hb wbq_d42 rfl hl (by decide) (lv' := [(1, .int z41), (2, .int k), (0, .ref this)]) rfl fun ls hl => ?_
          obtain ⟨z43, hg_z43⟩ : ∃ z43 : Int32, k + Int32.ofInt 1 = z43 := ⟨_, rfl⟩
          have h_z43 : z43.toInt = k.toInt + 1 := by rw [← hg_z43]; exact y_inc (by decide) (by omega) (by omega)
          refine lv_iinc hx hb wbq_d43 hl (k := 1) rfl hg_z43 (by decide) (lv' := [(2, .int z43), (1, .int z41), (0, .ref this)]) rfl fun ls hl => ?_
          refine lv_goto hx hb wbq_d46 (tgt := 4) (by decide) ?_
          have his : z43.toInt.toNat = k.toInt.toNat + 1 := by omega
          have hnj := m_nj hk.1
          have hc : m_cnB f k.toInt.toNat = false := by unfold m_cnB; first | (rw [decide_eq_true (by omega)]; rfl) | (rw [decide_eq_false (fun q9 => absurd ((Eq.trans (Eq.symm hg_e30)) q9) (fun q8 => by have h9 := congrArg Int32.toInt q8; rw [m_c0] at h9; omega)), Bool.and_false])
          exact ih _ _ _ _ _ _ hI hY_this hY_adone hY_astones hs_adone hs_astones hsi_things hA_adone hL (lv_sub hl [0, 1, 2] rfl) (by first | assumption | omega) (by rw [his, m_gg_F hc, ← hal, ← hg_z41]; exact m_or0) (by omega)
        · have q22_ : ¬ r19.toInt = (0 : Int32).toInt := fun q => q22 (Int32.toInt_inj.mp q)
          refine lv_aload_n hx hb wbq_d25 rfl (lv_at hl 2 rfl) ?_
          refine y_getf X (fl40 X.2.2.2.2.1) hI.1 hY_this rfl hs_adone wbq_d26 ?_
          refine lv_iload_n hx hb wbq_d29 rfl (lv_at hl 0 rfl) ?_
          refine y_iald X hI.1 hY_adone rfl hA_adone (by omega) (by show _ < (8 : Int); omega) wbq_d30 ?_
          obtain ⟨e30, hg_e30⟩ : ∃ e30 : Int32, f (65 + 7 * k.toInt.toNat) = e30 := ⟨_, rfl⟩
          rw [hg_e30]
          refine lv_if_ne hx hb wbq_d31 (tgt := 40) (by decide) (fun q31 => ?_) (fun q31 => ?_)
          · have q31_ : ¬ e30.toInt = (0 : Int32).toInt := fun q => q31 (Int32.toInt_inj.mp q)
            refine lv_iconst hx hb wbq_d40 (v := 0) (by decide) ?_
            refine lv_ior hx hb wbq_d41 ?_
            generalize hg_z41 : al ||| (0 : Int32) = z41
            refine lv_istore_n hx hb wbq_d42 rfl hl (by decide) (lv' := [(1, .int z41), (2, .int k), (0, .ref this)]) rfl fun ls hl => ?_
            obtain ⟨z43, hg_z43⟩ : ∃ z43 : Int32, k + Int32.ofInt 1 = z43 := ⟨_, rfl⟩
            have h_z43 : z43.toInt = k.toInt + 1 := by rw [← hg_z43]; exact y_inc (by decide) (by omega) (by omega)
            refine lv_iinc hx hb wbq_d43 hl (k := 1) rfl hg_z43 (by decide) (lv' := [(2, .int z43), (1, .int z41), (0, .ref this)]) rfl fun ls hl => ?_
            refine lv_goto hx hb wbq_d46 (tgt := 4) (by decide) ?_
            have his : z43.toInt.toNat = k.toInt.toNat + 1 := by omega
            have hnj := m_nj hk.1
            have hc : m_cnB f k.toInt.toNat = false := by unfold m_cnB; first | (rw [decide_eq_true (by omega)]; rfl) | (rw [decide_eq_false (fun q9 => absurd ((Eq.trans (Eq.symm hg_e30)) q9) (fun q8 => by have h9 := congrArg Int32.toInt q8; rw [m_c0] at h9; omega)), Bool.and_false])
            exact ih _ _ _ _ _ _ hI hY_this hY_adone hY_astones hs_adone hs_astones hsi_things hA_adone hL (lv_sub hl [0, 1, 2] rfl) (by first | assumption | omega) (by rw [his, m_gg_F hc, ← hal, ← hg_z41]; exact m_or0) (by omega)
          · have q31_ : e30.toInt = (0 : Int32).toInt := by rw [q31]
            refine lv_iconst hx hb wbq_d34 (v := 1) (by decide) ?_
            have ec1 : (1 : Int32).toInt = 1 := by decide
            refine lv_iload_n hx hb wbq_d35 rfl (lv_at hl 0 rfl) ?_
            refine lv_ishl hx hb wbq_d36 ?_
            generalize hg_z36 : (1 : Int32) <<< (k &&& 31) = z36
            refine lv_goto hx hb wbq_d37 (tgt := 41) (by decide) ?_
            refine lv_ior hx hb wbq_d41 ?_
            generalize hg_z41 : al ||| z36 = z41
            refine lv_istore_n hx hb wbq_d42 rfl hl (by decide) (lv' := [(1, .int z41), (2, .int k), (0, .ref this)]) rfl fun ls hl => ?_
            obtain ⟨z43, hg_z43⟩ : ∃ z43 : Int32, k + Int32.ofInt 1 = z43 := ⟨_, rfl⟩
            have h_z43 : z43.toInt = k.toInt + 1 := by rw [← hg_z43]; exact y_inc (by decide) (by omega) (by omega)
            refine lv_iinc hx hb wbq_d43 hl (k := 1) rfl hg_z43 (by decide) (lv' := [(2, .int z43), (1, .int z41), (0, .ref this)]) rfl fun ls hl => ?_
            refine lv_goto hx hb wbq_d46 (tgt := 4) (by decide) ?_
            have his : z43.toInt.toNat = k.toInt.toNat + 1 := by omega
            have hnj := m_nj hk.1
            have hc : m_cnB f k.toInt.toNat = true := by unfold m_cnB; rw [decide_eq_false (by omega), decide_eq_true ((Eq.trans hg_e30) (Int32.toInt_inj.mp (by rw [m_c0]; omega)))]; rfl
            exact ih _ _ _ _ _ _ hI hY_this hY_adone hY_astones hs_adone hs_astones hsi_things hA_adone hL (lv_sub hl [0, 1, 2] rfl) (by first | assumption | omega) (by rw [his, m_gg_T hc, hnj, ← hal, ← hg_z41, ← hg_z36]; rfl) (by omega)
      · replace hYz : _ = some 13 := hYz
        replace hk9 : ((13 : Nat) : Int) = 11 + (f (60 + 7 * k.toInt.toNat)).toInt := hk9
        refine y_call (z := (0, 129, 1, some 13, xM27)) (av := [.ref sn]) (rest := [.int al]) (y_cok.of (x_cokO (n := 0) (ci := 4) (x := ⟨"TwinFires$Stone", "isWorkable", "()Z"⟩) (b0 := prog_8_method_3_code) (m0 := 1) (r0 := some .boolean) X xm27 rfl rfl (x_bw26 5 rfl rfl) (x_cons (x_bw47 0 rfl rfl) (x_cons (x_bw25 11 rfl rfl) (x_cons (x_bw25 9 rfl rfl) (x_cons (x_bw25 15 rfl rfl) (x_cons (x_bw25 13 rfl rfl) (x_cons (x_bw0 10 rfl rfl) x_nilm)))))) (x_bw25 14 rfl rfl) (by decide +kernel) ⟨Nat.le_of_ble_eq_true rfl, Nat.le_of_ble_eq_true rfl⟩)) hY0 hI rfl wbq_d19 hl.1 (Nat.le_of_ble_eq_true rfl) (Nat.le_of_ble_eq_true rfl) (Nat.le_of_ble_eq_true rfl) (y_cons (y_cref hYz rfl) y_nil) rfl (y_recv rfl hYz) trivial (y_sub_ef rfl) fun v Yn o Hn L ho hr ha hIn hx_ hE hP => ?_
        replace hs_adone := y_Efld hE hY_this rfl (by decide) (by decide) hs_adone
        replace hs_astones := y_Efld hE hY_this rfl (by decide) (by decide) hs_astones
        replace hsi_things := y_Efld hE hY_this rfl (by decide) (by decide) hsi_things
        replace hA_adone := hA_adone.kept (y_Earr hE hY_adone rfl (by decide))
        replace hL := hL.E hY_this hE (fun q u h => y_ext hx_ hI.1 h) (by decide +kernel)
        replace hY_this := y_ext hx_ hI.1 hY_this
        replace hY_adone := y_ext hx_ hI.1 hY_adone
        replace hY_astones := y_ext hx_ hI.1 hY_astones
        replace hYz := y_ext hx_ hI.1 hYz
        obtain ⟨r19, rfl, h_r19⟩ := y_ansI (lo := 1) (hi := 1) (by decide) ho hr
        clear ho hr ha hE hP hI hx_
        rename x_I _ _ _ _ _ _ _ _ _ _ => hI
        have ec0 : (0 : Int32).toInt = 0 := by decide
        refine lv_if_eq hx hb wbq_d22 (tgt := 40) (by decide) (fun q22 => ?_) (fun q22 => ?_)
        · have q22_ : r19.toInt = (0 : Int32).toInt := by rw [q22]
          refine lv_iconst hx hb wbq_d40 (v := 0) (by decide) ?_
          refine lv_ior hx hb wbq_d41 ?_
          generalize hg_z41 : al ||| (0 : Int32) = z41
          refine lv_istore_n hx hb wbq_d42 rfl hl (by decide) (lv' := [(1, .int z41), (2, .int k), (0, .ref this)]) rfl fun ls hl => ?_
          obtain ⟨z43, hg_z43⟩ : ∃ z43 : Int32, k + Int32.ofInt 1 = z43 := ⟨_, rfl⟩
          have h_z43 : z43.toInt = k.toInt + 1 := by rw [← hg_z43]; exact y_inc (by decide) (by omega) (by omega)
          refine lv_iinc hx hb wbq_d43 hl (k := 1) rfl hg_z43 (by decide) (lv' := [(2, .int z43), (1, .int z41), (0, .ref this)]) rfl fun ls hl => ?_
          refine lv_goto hx hb wbq_d46 (tgt := 4) (by decide) ?_
          have his : z43.toInt.toNat = k.toInt.toNat + 1 := by omega
          have hnj := m_nj hk.1
          have hc : m_cnB f k.toInt.toNat = false := by unfold m_cnB; first | (rw [decide_eq_true (by omega)]; rfl) | (rw [decide_eq_false (fun q9 => absurd ((Eq.trans (Eq.symm hg_e30)) q9) (fun q8 => by have h9 := congrArg Int32.toInt q8; rw [m_c0] at h9; omega)), Bool.and_false])
          exact ih _ _ _ _ _ _ hI hY_this hY_adone hY_astones hs_adone hs_astones hsi_things hA_adone hL (lv_sub hl [0, 1, 2] rfl) (by first | assumption | omega) (by rw [his, m_gg_F hc, ← hal, ← hg_z41]; exact m_or0) (by omega)
        · have q22_ : ¬ r19.toInt = (0 : Int32).toInt := fun q => q22 (Int32.toInt_inj.mp q)
          refine lv_aload_n hx hb wbq_d25 rfl (lv_at hl 2 rfl) ?_
          refine y_getf X (fl40 X.2.2.2.2.1) hI.1 hY_this rfl hs_adone wbq_d26 ?_
          refine lv_iload_n hx hb wbq_d29 rfl (lv_at hl 0 rfl) ?_
          refine y_iald X hI.1 hY_adone rfl hA_adone (by omega) (by show _ < (8 : Int); omega) wbq_d30 ?_
          obtain ⟨e30, hg_e30⟩ : ∃ e30 : Int32, f (65 + 7 * k.toInt.toNat) = e30 := ⟨_, rfl⟩
          rw [hg_e30]
          refine lv_if_ne hx hb wbq_d31 (tgt := 40) (by decide) (fun q31 => ?_) (fun q31 => ?_)
          · have q31_ : ¬ e30.toInt = (0 : Int32).toInt := fun q => q31 (Int32.toInt_inj.mp q)
            refine lv_iconst hx hb wbq_d40 (v := 0) (by decide) ?_
            refine lv_ior hx hb wbq_d41 ?_
            generalize hg_z41 : al ||| (0 : Int32) = z41
            refine lv_istore_n hx hb wbq_d42 rfl hl (by decide) (lv' := [(1, .int z41), (2, .int k), (0, .ref this)]) rfl fun ls hl => ?_
            obtain ⟨z43, hg_z43⟩ : ∃ z43 : Int32, k + Int32.ofInt 1 = z43 := ⟨_, rfl⟩
            have h_z43 : z43.toInt = k.toInt + 1 := by rw [← hg_z43]; exact y_inc (by decide) (by omega) (by omega)
            refine lv_iinc hx hb wbq_d43 hl (k := 1) rfl hg_z43 (by decide) (lv' := [(2, .int z43), (1, .int z41), (0, .ref this)]) rfl fun ls hl => ?_
            refine lv_goto hx hb wbq_d46 (tgt := 4) (by decide) ?_
            have his : z43.toInt.toNat = k.toInt.toNat + 1 := by omega
            have hnj := m_nj hk.1
            have hc : m_cnB f k.toInt.toNat = false := by unfold m_cnB; first | (rw [decide_eq_true (by omega)]; rfl) | (rw [decide_eq_false (fun q9 => absurd ((Eq.trans (Eq.symm hg_e30)) q9) (fun q8 => by have h9 := congrArg Int32.toInt q8; rw [m_c0] at h9; omega)), Bool.and_false])
            exact ih _ _ _ _ _ _ hI hY_this hY_adone hY_astones hs_adone hs_astones hsi_things hA_adone hL (lv_sub hl [0, 1, 2] rfl) (by first | assumption | omega) (by rw [his, m_gg_F hc, ← hal, ← hg_z41]; exact m_or0) (by omega)
          · have q31_ : e30.toInt = (0 : Int32).toInt := by rw [q31]
            refine lv_iconst hx hb wbq_d34 (v := 1) (by decide) ?_
            have ec1 : (1 : Int32).toInt = 1 := by decide
            refine lv_iload_n hx hb wbq_d35 rfl (lv_at hl 0 rfl) ?_
            refine lv_ishl hx hb wbq_d36 ?_
            generalize hg_z36 : (1 : Int32) <<< (k &&& 31) = z36
            refine lv_goto hx hb wbq_d37 (tgt := 41) (by decide) ?_
            refine lv_ior hx hb wbq_d41 ?_
            generalize hg_z41 : al ||| z36 = z41
            refine lv_istore_n hx hb wbq_d42 rfl hl (by decide) (lv' := [(1, .int z41), (2, .int k), (0, .ref this)]) rfl fun ls hl => ?_
            obtain ⟨z43, hg_z43⟩ : ∃ z43 : Int32, k + Int32.ofInt 1 = z43 := ⟨_, rfl⟩
            have h_z43 : z43.toInt = k.toInt + 1 := by rw [← hg_z43]; exact y_inc (by decide) (by omega) (by omega)
            refine lv_iinc hx hb wbq_d43 hl (k := 1) rfl hg_z43 (by decide) (lv' := [(2, .int z43), (1, .int z41), (0, .ref this)]) rfl fun ls hl => ?_
            refine lv_goto hx hb wbq_d46 (tgt := 4) (by decide) ?_
            have his : z43.toInt.toNat = k.toInt.toNat + 1 := by omega
            have hnj := m_nj hk.1
            have hc : m_cnB f k.toInt.toNat = true := by unfold m_cnB; rw [decide_eq_false (by omega), decide_eq_true ((Eq.trans hg_e30) (Int32.toInt_inj.mp (by rw [m_c0]; omega)))]; rfl
            exact ih _ _ _ _ _ _ hI hY_this hY_adone hY_astones hs_adone hs_astones hsi_things hA_adone hL (lv_sub hl [0, 1, 2] rfl) (by first | assumption | omega) (by rw [his, m_gg_T hc, hnj, ← hal, ← hg_z41, ← hg_z36]; rfl) (by omega)
      · replace hYz : _ = some 14 := hYz
        replace hk9 : ((14 : Nat) : Int) = 11 + (f (60 + 7 * k.toInt.toNat)).toInt := hk9
        refine y_call (z := (0, 129, 1, some 14, xM27)) (av := [.ref sn]) (rest := [.int al]) (y_cok.of (x_cokO (n := 0) (ci := 1) (x := ⟨"TwinFires$Stone", "isWorkable", "()Z"⟩) (b0 := prog_8_method_3_code) (m0 := 1) (r0 := some .boolean) X xm27 rfl rfl (x_bw26 5 rfl rfl) (x_cons (x_bw47 0 rfl rfl) (x_cons (x_bw25 11 rfl rfl) (x_cons (x_bw25 9 rfl rfl) (x_cons (x_bw25 12 rfl rfl) (x_cons (x_bw25 13 rfl rfl) (x_cons (x_bw0 10 rfl rfl) x_nilm)))))) (x_bw25 14 rfl rfl) (by decide +kernel) ⟨Nat.le_of_ble_eq_true rfl, Nat.le_of_ble_eq_true rfl⟩)) hY0 hI rfl wbq_d19 hl.1 (Nat.le_of_ble_eq_true rfl) (Nat.le_of_ble_eq_true rfl) (Nat.le_of_ble_eq_true rfl) (y_cons (y_cref hYz rfl) y_nil) rfl (y_recv rfl hYz) trivial (y_sub_ef rfl) fun v Yn o Hn L ho hr ha hIn hx_ hE hP => ?_
        replace hs_adone := y_Efld hE hY_this rfl (by decide) (by decide) hs_adone
        replace hs_astones := y_Efld hE hY_this rfl (by decide) (by decide) hs_astones
        replace hsi_things := y_Efld hE hY_this rfl (by decide) (by decide) hsi_things
        replace hA_adone := hA_adone.kept (y_Earr hE hY_adone rfl (by decide))
        replace hL := hL.E hY_this hE (fun q u h => y_ext hx_ hI.1 h) (by decide +kernel)
        replace hY_this := y_ext hx_ hI.1 hY_this
        replace hY_adone := y_ext hx_ hI.1 hY_adone
        replace hY_astones := y_ext hx_ hI.1 hY_astones
        replace hYz := y_ext hx_ hI.1 hYz
        obtain ⟨r19, rfl, h_r19⟩ := y_ansI (lo := 1) (hi := 1) (by decide) ho hr
        clear ho hr ha hE hP hI hx_
        rename x_I _ _ _ _ _ _ _ _ _ _ => hI
        have ec0 : (0 : Int32).toInt = 0 := by decide
        refine lv_if_eq hx hb wbq_d22 (tgt := 40) (by decide) (fun q22 => ?_) (fun q22 => ?_)
        · have q22_ : r19.toInt = (0 : Int32).toInt := by rw [q22]
          refine lv_iconst hx hb wbq_d40 (v := 0) (by decide) ?_
          refine lv_ior hx hb wbq_d41 ?_
          generalize hg_z41 : al ||| (0 : Int32) = z41
          refine lv_istore_n hx hb wbq_d42 rfl hl (by decide) (lv' := [(1, .int z41), (2, .int k), (0, .ref this)]) rfl fun ls hl => ?_
          obtain ⟨z43, hg_z43⟩ : ∃ z43 : Int32, k + Int32.ofInt 1 = z43 := ⟨_, rfl⟩
          have h_z43 : z43.toInt = k.toInt + 1 := by rw [← hg_z43]; exact y_inc (by decide) (by omega) (by omega)
          refine lv_iinc hx hb wbq_d43 hl (k := 1) rfl hg_z43 (by decide) (lv' := [(2, .int z43), (1, .int z41), (0, .ref this)]) rfl fun ls hl => ?_
          refine lv_goto hx hb wbq_d46 (tgt := 4) (by decide) ?_
          have his : z43.toInt.toNat = k.toInt.toNat + 1 := by omega
          have hnj := m_nj hk.1
          have hc : m_cnB f k.toInt.toNat = false := by unfold m_cnB; first | (rw [decide_eq_true (by omega)]; rfl) | (rw [decide_eq_false (fun q9 => absurd ((Eq.trans (Eq.symm hg_e30)) q9) (fun q8 => by have h9 := congrArg Int32.toInt q8; rw [m_c0] at h9; omega)), Bool.and_false])
          exact ih _ _ _ _ _ _ hI hY_this hY_adone hY_astones hs_adone hs_astones hsi_things hA_adone hL (lv_sub hl [0, 1, 2] rfl) (by first | assumption | omega) (by rw [his, m_gg_F hc, ← hal, ← hg_z41]; exact m_or0) (by omega)
        · have q22_ : ¬ r19.toInt = (0 : Int32).toInt := fun q => q22 (Int32.toInt_inj.mp q)
          refine lv_aload_n hx hb wbq_d25 rfl (lv_at hl 2 rfl) ?_
          refine y_getf X (fl40 X.2.2.2.2.1) hI.1 hY_this rfl hs_adone wbq_d26 ?_
          refine lv_iload_n hx hb wbq_d29 rfl (lv_at hl 0 rfl) ?_
          refine y_iald X hI.1 hY_adone rfl hA_adone (by omega) (by show _ < (8 : Int); omega) wbq_d30 ?_
          obtain ⟨e30, hg_e30⟩ : ∃ e30 : Int32, f (65 + 7 * k.toInt.toNat) = e30 := ⟨_, rfl⟩
          rw [hg_e30]
          refine lv_if_ne hx hb wbq_d31 (tgt := 40) (by decide) (fun q31 => ?_) (fun q31 => ?_)
          · have q31_ : ¬ e30.toInt = (0 : Int32).toInt := fun q => q31 (Int32.toInt_inj.mp q)
            refine lv_iconst hx hb wbq_d40 (v := 0) (by decide) ?_
            refine lv_ior hx hb wbq_d41 ?_
            generalize hg_z41 : al ||| (0 : Int32) = z41
            refine lv_istore_n hx hb wbq_d42 rfl hl (by decide) (lv' := [(1, .int z41), (2, .int k), (0, .ref this)]) rfl fun ls hl => ?_
            obtain ⟨z43, hg_z43⟩ : ∃ z43 : Int32, k + Int32.ofInt 1 = z43 := ⟨_, rfl⟩
            have h_z43 : z43.toInt = k.toInt + 1 := by rw [← hg_z43]; exact y_inc (by decide) (by omega) (by omega)
            refine lv_iinc hx hb wbq_d43 hl (k := 1) rfl hg_z43 (by decide) (lv' := [(2, .int z43), (1, .int z41), (0, .ref this)]) rfl fun ls hl => ?_
            refine lv_goto hx hb wbq_d46 (tgt := 4) (by decide) ?_
            have his : z43.toInt.toNat = k.toInt.toNat + 1 := by omega
            have hnj := m_nj hk.1
            have hc : m_cnB f k.toInt.toNat = false := by unfold m_cnB; first | (rw [decide_eq_true (by omega)]; rfl) | (rw [decide_eq_false (fun q9 => absurd ((Eq.trans (Eq.symm hg_e30)) q9) (fun q8 => by have h9 := congrArg Int32.toInt q8; rw [m_c0] at h9; omega)), Bool.and_false])
            exact ih _ _ _ _ _ _ hI hY_this hY_adone hY_astones hs_adone hs_astones hsi_things hA_adone hL (lv_sub hl [0, 1, 2] rfl) (by first | assumption | omega) (by rw [his, m_gg_F hc, ← hal, ← hg_z41]; exact m_or0) (by omega)
          · have q31_ : e30.toInt = (0 : Int32).toInt := by rw [q31]
            refine lv_iconst hx hb wbq_d34 (v := 1) (by decide) ?_
            have ec1 : (1 : Int32).toInt = 1 := by decide
            refine lv_iload_n hx hb wbq_d35 rfl (lv_at hl 0 rfl) ?_
            refine lv_ishl hx hb wbq_d36 ?_
            generalize hg_z36 : (1 : Int32) <<< (k &&& 31) = z36
            refine lv_goto hx hb wbq_d37 (tgt := 41) (by decide) ?_
            refine lv_ior hx hb wbq_d41 ?_
            generalize hg_z41 : al ||| z36 = z41
            refine lv_istore_n hx hb wbq_d42 rfl hl (by decide) (lv' := [(1, .int z41), (2, .int k), (0, .ref this)]) rfl fun ls hl => ?_
            obtain ⟨z43, hg_z43⟩ : ∃ z43 : Int32, k + Int32.ofInt 1 = z43 := ⟨_, rfl⟩
            have h_z43 : z43.toInt = k.toInt + 1 := by rw [← hg_z43]; exact y_inc (by decide) (by omega) (by omega)
            refine lv_iinc hx hb wbq_d43 hl (k := 1) rfl hg_z43 (by decide) (lv' := [(2, .int z43), (1, .int z41), (0, .ref this)]) rfl fun ls hl => ?_
            refine lv_goto hx hb wbq_d46 (tgt := 4) (by decide) ?_
            have his : z43.toInt.toNat = k.toInt.toNat + 1 := by omega
            have hnj := m_nj hk.1
            have hc : m_cnB f k.toInt.toNat = true := by unfold m_cnB; rw [decide_eq_false (by omega), decide_eq_true ((Eq.trans hg_e30) (Int32.toInt_inj.mp (by rw [m_c0]; omega)))]; rfl
            exact ih _ _ _ _ _ _ hI hY_this hY_adone hY_astones hs_adone hs_astones hsi_things hA_adone hL (lv_sub hl [0, 1, 2] rfl) (by first | assumption | omega) (by rw [his, m_gg_T hc, hnj, ← hal, ← hg_z41, ← hg_z36]; rfl) (by omega)
      · replace hYz : _ = some 15 := hYz
        replace hk9 : ((15 : Nat) : Int) = 11 + (f (60 + 7 * k.toInt.toNat)).toInt := hk9
        refine y_call (z := (0, 129, 1, some 15, xM27)) (av := [.ref sn]) (rest := [.int al]) (y_cok.of (x_cokO (n := 0) (ci := 8) (x := ⟨"TwinFires$Stone", "isWorkable", "()Z"⟩) (b0 := prog_8_method_3_code) (m0 := 1) (r0 := some .boolean) X xm27 rfl rfl (x_bw26 5 rfl rfl) (x_cons (x_bw47 0 rfl rfl) (x_cons (x_bw25 11 rfl rfl) (x_cons (x_bw25 9 rfl rfl) (x_cons (x_bw26 0 rfl rfl) (x_cons (x_bw25 13 rfl rfl) (x_cons (x_bw0 10 rfl rfl) x_nilm)))))) (x_bw25 14 rfl rfl) (by decide +kernel) ⟨Nat.le_of_ble_eq_true rfl, Nat.le_of_ble_eq_true rfl⟩)) hY0 hI rfl wbq_d19 hl.1 (Nat.le_of_ble_eq_true rfl) (Nat.le_of_ble_eq_true rfl) (Nat.le_of_ble_eq_true rfl) (y_cons (y_cref hYz rfl) y_nil) rfl (y_recv rfl hYz) trivial (y_sub_ef rfl) fun v Yn o Hn L ho hr ha hIn hx_ hE hP => ?_
        replace hs_adone := y_Efld hE hY_this rfl (by decide) (by decide) hs_adone
        replace hs_astones := y_Efld hE hY_this rfl (by decide) (by decide) hs_astones
        replace hsi_things := y_Efld hE hY_this rfl (by decide) (by decide) hsi_things
        replace hA_adone := hA_adone.kept (y_Earr hE hY_adone rfl (by decide))
        replace hL := hL.E hY_this hE (fun q u h => y_ext hx_ hI.1 h) (by decide +kernel)
        replace hY_this := y_ext hx_ hI.1 hY_this
        replace hY_adone := y_ext hx_ hI.1 hY_adone
        replace hY_astones := y_ext hx_ hI.1 hY_astones
        replace hYz := y_ext hx_ hI.1 hYz
        obtain ⟨r19, rfl, h_r19⟩ := y_ansI (lo := 1) (hi := 1) (by decide) ho hr
        clear ho hr ha hE hP hI hx_
        rename x_I _ _ _ _ _ _ _ _ _ _ => hI
        have ec0 : (0 : Int32).toInt = 0 := by decide
        refine lv_if_eq hx hb wbq_d22 (tgt := 40) (by decide) (fun q22 => ?_) (fun q22 => ?_)
        · have q22_ : r19.toInt = (0 : Int32).toInt := by rw [q22]
          refine lv_iconst hx hb wbq_d40 (v := 0) (by decide) ?_
          refine lv_ior hx hb wbq_d41 ?_
          generalize hg_z41 : al ||| (0 : Int32) = z41
          refine lv_istore_n hx hb wbq_d42 rfl hl (by decide) (lv' := [(1, .int z41), (2, .int k), (0, .ref this)]) rfl fun ls hl => ?_
          obtain ⟨z43, hg_z43⟩ : ∃ z43 : Int32, k + Int32.ofInt 1 = z43 := ⟨_, rfl⟩
          have h_z43 : z43.toInt = k.toInt + 1 := by rw [← hg_z43]; exact y_inc (by decide) (by omega) (by omega)
          refine lv_iinc hx hb wbq_d43 hl (k := 1) rfl hg_z43 (by decide) (lv' := [(2, .int z43), (1, .int z41), (0, .ref this)]) rfl fun ls hl => ?_
          refine lv_goto hx hb wbq_d46 (tgt := 4) (by decide) ?_
          have his : z43.toInt.toNat = k.toInt.toNat + 1 := by omega
          have hnj := m_nj hk.1
          have hc : m_cnB f k.toInt.toNat = false := by unfold m_cnB; first | (rw [decide_eq_true (by omega)]; rfl) | (rw [decide_eq_false (fun q9 => absurd ((Eq.trans (Eq.symm hg_e30)) q9) (fun q8 => by have h9 := congrArg Int32.toInt q8; rw [m_c0] at h9; omega)), Bool.and_false])
          exact ih _ _ _ _ _ _ hI hY_this hY_adone hY_astones hs_adone hs_astones hsi_things hA_adone hL (lv_sub hl [0, 1, 2] rfl) (by first | assumption | omega) (by rw [his, m_gg_F hc, ← hal, ← hg_z41]; exact m_or0) (by omega)
        · have q22_ : ¬ r19.toInt = (0 : Int32).toInt := fun q => q22 (Int32.toInt_inj.mp q)
          refine lv_aload_n hx hb wbq_d25 rfl (lv_at hl 2 rfl) ?_
          refine y_getf X (fl40 X.2.2.2.2.1) hI.1 hY_this rfl hs_adone wbq_d26 ?_
          refine lv_iload_n hx hb wbq_d29 rfl (lv_at hl 0 rfl) ?_
          refine y_iald X hI.1 hY_adone rfl hA_adone (by omega) (by show _ < (8 : Int); omega) wbq_d30 ?_
          obtain ⟨e30, hg_e30⟩ : ∃ e30 : Int32, f (65 + 7 * k.toInt.toNat) = e30 := ⟨_, rfl⟩
          rw [hg_e30]
          refine lv_if_ne hx hb wbq_d31 (tgt := 40) (by decide) (fun q31 => ?_) (fun q31 => ?_)
          · have q31_ : ¬ e30.toInt = (0 : Int32).toInt := fun q => q31 (Int32.toInt_inj.mp q)
            refine lv_iconst hx hb wbq_d40 (v := 0) (by decide) ?_
            refine lv_ior hx hb wbq_d41 ?_
            generalize hg_z41 : al ||| (0 : Int32) = z41
            refine lv_istore_n hx hb wbq_d42 rfl hl (by decide) (lv' := [(1, .int z41), (2, .int k), (0, .ref this)]) rfl fun ls hl => ?_
            obtain ⟨z43, hg_z43⟩ : ∃ z43 : Int32, k + Int32.ofInt 1 = z43 := ⟨_, rfl⟩
            have h_z43 : z43.toInt = k.toInt + 1 := by rw [← hg_z43]; exact y_inc (by decide) (by omega) (by omega)
            refine lv_iinc hx hb wbq_d43 hl (k := 1) rfl hg_z43 (by decide) (lv' := [(2, .int z43), (1, .int z41), (0, .ref this)]) rfl fun ls hl => ?_
            refine lv_goto hx hb wbq_d46 (tgt := 4) (by decide) ?_
            have his : z43.toInt.toNat = k.toInt.toNat + 1 := by omega
            have hnj := m_nj hk.1
            have hc : m_cnB f k.toInt.toNat = false := by unfold m_cnB; first | (rw [decide_eq_true (by omega)]; rfl) | (rw [decide_eq_false (fun q9 => absurd ((Eq.trans (Eq.symm hg_e30)) q9) (fun q8 => by have h9 := congrArg Int32.toInt q8; rw [m_c0] at h9; omega)), Bool.and_false])
            exact ih _ _ _ _ _ _ hI hY_this hY_adone hY_astones hs_adone hs_astones hsi_things hA_adone hL (lv_sub hl [0, 1, 2] rfl) (by first | assumption | omega) (by rw [his, m_gg_F hc, ← hal, ← hg_z41]; exact m_or0) (by omega)
          · have q31_ : e30.toInt = (0 : Int32).toInt := by rw [q31]
            refine lv_iconst hx hb wbq_d34 (v := 1) (by decide) ?_
            have ec1 : (1 : Int32).toInt = 1 := by decide
            refine lv_iload_n hx hb wbq_d35 rfl (lv_at hl 0 rfl) ?_
            refine lv_ishl hx hb wbq_d36 ?_
            generalize hg_z36 : (1 : Int32) <<< (k &&& 31) = z36
            refine lv_goto hx hb wbq_d37 (tgt := 41) (by decide) ?_
            refine lv_ior hx hb wbq_d41 ?_
            generalize hg_z41 : al ||| z36 = z41
            refine lv_istore_n hx hb wbq_d42 rfl hl (by decide) (lv' := [(1, .int z41), (2, .int k), (0, .ref this)]) rfl fun ls hl => ?_
            obtain ⟨z43, hg_z43⟩ : ∃ z43 : Int32, k + Int32.ofInt 1 = z43 := ⟨_, rfl⟩
            have h_z43 : z43.toInt = k.toInt + 1 := by rw [← hg_z43]; exact y_inc (by decide) (by omega) (by omega)
            refine lv_iinc hx hb wbq_d43 hl (k := 1) rfl hg_z43 (by decide) (lv' := [(2, .int z43), (1, .int z41), (0, .ref this)]) rfl fun ls hl => ?_
            refine lv_goto hx hb wbq_d46 (tgt := 4) (by decide) ?_
            have his : z43.toInt.toNat = k.toInt.toNat + 1 := by omega
            have hnj := m_nj hk.1
            have hc : m_cnB f k.toInt.toNat = true := by unfold m_cnB; rw [decide_eq_false (by omega), decide_eq_true ((Eq.trans hg_e30) (Int32.toInt_inj.mp (by rw [m_c0]; omega)))]; rfl
            exact ih _ _ _ _ _ _ hI hY_this hY_adone hY_astones hs_adone hs_astones hsi_things hA_adone hL (lv_sub hl [0, 1, 2] rfl) (by first | assumption | omega) (by rw [his, m_gg_T hc, hnj, ← hal, ← hg_z41, ← hg_z36]; rfl) (by omega)
      · replace hYz : _ = some 16 := hYz
        replace hk9 : ((16 : Nat) : Int) = 11 + (f (60 + 7 * k.toInt.toNat)).toInt := hk9
        refine y_call (z := (0, 129, 1, some 16, xM28)) (av := [.ref sn]) (rest := [.int al]) (y_cok.of (x_cokO (n := 0) (ci := 9) (x := ⟨"TwinFires$Stone", "isWorkable", "()Z"⟩) (b0 := prog_8_method_3_code) (m0 := 1) (r0 := some .boolean) X xm28 rfl rfl (x_bw26 5 rfl rfl) (x_cons (x_bw47 0 rfl rfl) (x_cons (x_bw25 11 rfl rfl) (x_cons (x_bw25 9 rfl rfl) (x_cons (x_bw26 1 rfl rfl) (x_cons (x_bw26 2 rfl rfl) (x_cons (x_bw0 14 rfl rfl) x_nilm)))))) (x_bw26 3 rfl rfl) (by decide +kernel) ⟨Nat.le_of_ble_eq_true rfl, Nat.le_of_ble_eq_true rfl⟩)) hY0 hI rfl wbq_d19 hl.1 (Nat.le_of_ble_eq_true rfl) (Nat.le_of_ble_eq_true rfl) (Nat.le_of_ble_eq_true rfl) (y_cons (y_cref hYz rfl) y_nil) rfl (y_recv rfl hYz) trivial (y_sub_ef rfl) fun v Yn o Hn L ho hr ha hIn hx_ hE hP => ?_
        replace hs_adone := y_Efld hE hY_this rfl (by decide) (by decide) hs_adone
        replace hs_astones := y_Efld hE hY_this rfl (by decide) (by decide) hs_astones
        replace hsi_things := y_Efld hE hY_this rfl (by decide) (by decide) hsi_things
        replace hA_adone := hA_adone.kept (y_Earr hE hY_adone rfl (by decide))
        replace hL := hL.E hY_this hE (fun q u h => y_ext hx_ hI.1 h) (by decide +kernel)
        replace hY_this := y_ext hx_ hI.1 hY_this
        replace hY_adone := y_ext hx_ hI.1 hY_adone
        replace hY_astones := y_ext hx_ hI.1 hY_astones
        replace hYz := y_ext hx_ hI.1 hYz
        obtain ⟨r19, rfl, h_r19⟩ := y_ansI (lo := 1) (hi := 1) (by decide) ho hr
        clear ho hr ha hE hP hI hx_
        rename x_I _ _ _ _ _ _ _ _ _ _ => hI
        have ec0 : (0 : Int32).toInt = 0 := by decide
        refine lv_if_eq hx hb wbq_d22 (tgt := 40) (by decide) (fun q22 => ?_) (fun q22 => ?_)
        · have q22_ : r19.toInt = (0 : Int32).toInt := by rw [q22]
          refine lv_iconst hx hb wbq_d40 (v := 0) (by decide) ?_
          refine lv_ior hx hb wbq_d41 ?_
          generalize hg_z41 : al ||| (0 : Int32) = z41
          refine lv_istore_n hx hb wbq_d42 rfl hl (by decide) (lv' := [(1, .int z41), (2, .int k), (0, .ref this)]) rfl fun ls hl => ?_
          obtain ⟨z43, hg_z43⟩ : ∃ z43 : Int32, k + Int32.ofInt 1 = z43 := ⟨_, rfl⟩
          have h_z43 : z43.toInt = k.toInt + 1 := by rw [← hg_z43]; exact y_inc (by decide) (by omega) (by omega)
          refine lv_iinc hx hb wbq_d43 hl (k := 1) rfl hg_z43 (by decide) (lv' := [(2, .int z43), (1, .int z41), (0, .ref this)]) rfl fun ls hl => ?_
          refine lv_goto hx hb wbq_d46 (tgt := 4) (by decide) ?_
          have his : z43.toInt.toNat = k.toInt.toNat + 1 := by omega
          have hnj := m_nj hk.1
          have hc : m_cnB f k.toInt.toNat = false := by unfold m_cnB; first | (rw [decide_eq_true (by omega)]; rfl) | (rw [decide_eq_false (fun q9 => absurd ((Eq.trans (Eq.symm hg_e30)) q9) (fun q8 => by have h9 := congrArg Int32.toInt q8; rw [m_c0] at h9; omega)), Bool.and_false])
          exact ih _ _ _ _ _ _ hI hY_this hY_adone hY_astones hs_adone hs_astones hsi_things hA_adone hL (lv_sub hl [0, 1, 2] rfl) (by first | assumption | omega) (by rw [his, m_gg_F hc, ← hal, ← hg_z41]; exact m_or0) (by omega)
        · have q22_ : ¬ r19.toInt = (0 : Int32).toInt := fun q => q22 (Int32.toInt_inj.mp q)
          refine lv_aload_n hx hb wbq_d25 rfl (lv_at hl 2 rfl) ?_
          refine y_getf X (fl40 X.2.2.2.2.1) hI.1 hY_this rfl hs_adone wbq_d26 ?_
          refine lv_iload_n hx hb wbq_d29 rfl (lv_at hl 0 rfl) ?_
          refine y_iald X hI.1 hY_adone rfl hA_adone (by omega) (by show _ < (8 : Int); omega) wbq_d30 ?_
          obtain ⟨e30, hg_e30⟩ : ∃ e30 : Int32, f (65 + 7 * k.toInt.toNat) = e30 := ⟨_, rfl⟩
          rw [hg_e30]
          refine lv_if_ne hx hb wbq_d31 (tgt := 40) (by decide) (fun q31 => ?_) (fun q31 => ?_)
          · have q31_ : ¬ e30.toInt = (0 : Int32).toInt := fun q => q31 (Int32.toInt_inj.mp q)
            refine lv_iconst hx hb wbq_d40 (v := 0) (by decide) ?_
            refine lv_ior hx hb wbq_d41 ?_
            generalize hg_z41 : al ||| (0 : Int32) = z41
            refine lv_istore_n hx hb wbq_d42 rfl hl (by decide) (lv' := [(1, .int z41), (2, .int k), (0, .ref this)]) rfl fun ls hl => ?_
            obtain ⟨z43, hg_z43⟩ : ∃ z43 : Int32, k + Int32.ofInt 1 = z43 := ⟨_, rfl⟩
            have h_z43 : z43.toInt = k.toInt + 1 := by rw [← hg_z43]; exact y_inc (by decide) (by omega) (by omega)
            refine lv_iinc hx hb wbq_d43 hl (k := 1) rfl hg_z43 (by decide) (lv' := [(2, .int z43), (1, .int z41), (0, .ref this)]) rfl fun ls hl => ?_
            refine lv_goto hx hb wbq_d46 (tgt := 4) (by decide) ?_
            have his : z43.toInt.toNat = k.toInt.toNat + 1 := by omega
            have hnj := m_nj hk.1
            have hc : m_cnB f k.toInt.toNat = false := by unfold m_cnB; first | (rw [decide_eq_true (by omega)]; rfl) | (rw [decide_eq_false (fun q9 => absurd ((Eq.trans (Eq.symm hg_e30)) q9) (fun q8 => by have h9 := congrArg Int32.toInt q8; rw [m_c0] at h9; omega)), Bool.and_false])
            exact ih _ _ _ _ _ _ hI hY_this hY_adone hY_astones hs_adone hs_astones hsi_things hA_adone hL (lv_sub hl [0, 1, 2] rfl) (by first | assumption | omega) (by rw [his, m_gg_F hc, ← hal, ← hg_z41]; exact m_or0) (by omega)
          · have q31_ : e30.toInt = (0 : Int32).toInt := by rw [q31]
            refine lv_iconst hx hb wbq_d34 (v := 1) (by decide) ?_
            have ec1 : (1 : Int32).toInt = 1 := by decide
            refine lv_iload_n hx hb wbq_d35 rfl (lv_at hl 0 rfl) ?_
            refine lv_ishl hx hb wbq_d36 ?_
            generalize hg_z36 : (1 : Int32) <<< (k &&& 31) = z36
            refine lv_goto hx hb wbq_d37 (tgt := 41) (by decide) ?_
            refine lv_ior hx hb wbq_d41 ?_
            generalize hg_z41 : al ||| z36 = z41
            refine lv_istore_n hx hb wbq_d42 rfl hl (by decide) (lv' := [(1, .int z41), (2, .int k), (0, .ref this)]) rfl fun ls hl => ?_
            obtain ⟨z43, hg_z43⟩ : ∃ z43 : Int32, k + Int32.ofInt 1 = z43 := ⟨_, rfl⟩
            have h_z43 : z43.toInt = k.toInt + 1 := by rw [← hg_z43]; exact y_inc (by decide) (by omega) (by omega)
            refine lv_iinc hx hb wbq_d43 hl (k := 1) rfl hg_z43 (by decide) (lv' := [(2, .int z43), (1, .int z41), (0, .ref this)]) rfl fun ls hl => ?_
            refine lv_goto hx hb wbq_d46 (tgt := 4) (by decide) ?_
            have his : z43.toInt.toNat = k.toInt.toNat + 1 := by omega
            have hnj := m_nj hk.1
            have hc : m_cnB f k.toInt.toNat = true := by unfold m_cnB; rw [decide_eq_false (by omega), decide_eq_true ((Eq.trans hg_e30) (Int32.toInt_inj.mp (by rw [m_c0]; omega)))]; rfl
            exact ih _ _ _ _ _ _ hI hY_this hY_adone hY_astones hs_adone hs_astones hsi_things hA_adone hL (lv_sub hl [0, 1, 2] rfl) (by first | assumption | omega) (by rw [his, m_gg_T hc, hnj, ← hal, ← hg_z41, ← hg_z36]; rfl) (by omega)
theorem ym_workable : y_Met vwCl x_G x_Zs x_Tb x_Nb xM83 z_AL z_Pwkb := by
  refine y_main (by decide +kernel) (by decide +kernel) x_Tb_good x_Nb_ok ?_
  intro p l e s m below meth c D U Y0 av ls B hI hAL hl
  have X := B.1
  have hx := X.1
  have hb := X.2.1
  have hY0 := B.2.2.2.2.1
  obtain ⟨v0, rfl, hv0⟩ := x_one B.2.2.2.2.2
  obtain ⟨this, t0, rfl, ht0, hY_this⟩ := x_ref_at hv0 rfl
  obtain rfl := List.mem_singleton.mp ht0
  replace hl : lv_has ls xM83.2.2.1 [(0, .ref this)] := hl
  obtain ⟨f, hL⟩ := hAL _ rfl
  have hL0 := hL
  have hn1 := hL.1.2.1
  have hb1 : 0 ≤ (f 1).toInt ∧ (f 1).toInt ≤ 8 := by obtain ⟨x9, e9, b9⟩ := y_fldI (k := 6) hI.1 hY_this rfl rfl; rw [hn1] at e9; cases e9; exact b9
  have hsi_things := hn1
  obtain ⟨adone, hs_adone, hY_adone, hA_adone⟩ := hL.2.1 (8, 25, 8, 65, 7) (by decide)
  replace hA_adone : y_A adone 8 s.heap (fun j => f (65 + 7 * j)) := hA_adone
  obtain ⟨astones, hs_astones, hY_astones, -⟩ := hL.2.2.1
  refine lv_iconst hx hb wbq_d0 (v := 0) (by decide) ?_
  have ec0 : (0 : Int32).toInt = 0 := by decide
  refine lv_istore_n hx hb wbq_d1 rfl hl (by decide) (lv' := [(1, .int (0 : Int32)), (0, .ref this)]) rfl fun ls hl => ?_
  refine lv_iconst hx hb wbq_d2 (v := 0) (by decide) ?_
  refine lv_istore_n hx hb wbq_d3 rfl hl (by decide) (lv' := [(2, .int (0 : Int32)), (1, .int (0 : Int32)), (0, .ref this)]) rfl fun ls hl => ?_
  exact wbq_L4 B rfl hL0 hb1 10 _ _ _ _ _ _ hI hY_this hY_adone hY_astones hs_adone hs_astones hsi_things hA_adone hL (lv_sub hl [0, 1, 2] rfl) (by first | assumption | omega) (by rw [z_i0]; rfl) (by omega)
def z_Ppr9 : yP := fun D av Y H v _ _ => ∀ (this : Nat) (w cs : Int32) (f : Nat → Int32), av = [.ref this, .int w, .int cs] → z_L D Y this H f → v = some (.int (m_prc f cs w))
theorem prq_d0 : decode xM84.2.1 0 = .ok (.iconst 0, 1) := dz_ok (by decide +kernel)
theorem prq_d1 : decode xM84.2.1 1 = .ok (.istore_n 3, 1) := dz_ok (by decide +kernel)
theorem prq_d2 : decode xM84.2.1 2 = .ok (.iconst 0, 1) := dz_ok (by decide +kernel)
theorem prq_d3 : decode xM84.2.1 3 = .ok (.istore 4, 2) := dz_ok (by decide +kernel)
theorem prq_d5 : decode xM84.2.1 5 = .ok (.iload 4, 2) := dz_ok (by decide +kernel)
theorem prq_d7 : decode xM84.2.1 7 = .ok (.aload_n 0, 1) := dz_ok (by decide +kernel)
theorem prq_d8 : decode xM84.2.1 8 = .ok (.getfield 73, 3) := dz_ok (by decide +kernel)
theorem prq_d11 : decode xM84.2.1 11 = .ok (.if_icmp .ge 36, 3) := dz_ok (by decide +kernel)
theorem prq_d14 : decode xM84.2.1 14 = .ok (.iload 4, 2) := dz_ok (by decide +kernel)
theorem prq_d16 : decode xM84.2.1 16 = .ok (.iload_n 1, 1) := dz_ok (by decide +kernel)
theorem prq_d17 : decode xM84.2.1 17 = .ok (.invokestatic 133, 3) := dz_ok (by decide +kernel)
theorem prq_d20 : decode xM84.2.1 20 = .ok (.ifCond .eq 21, 3) := dz_ok (by decide +kernel)
theorem prq_d23 : decode xM84.2.1 23 = .ok (.iload_n 3, 1) := dz_ok (by decide +kernel)
theorem prq_d24 : decode xM84.2.1 24 = .ok (.iload_n 2, 1) := dz_ok (by decide +kernel)
theorem prq_d25 : decode xM84.2.1 25 = .ok (.ifCond .eq 13, 3) := dz_ok (by decide +kernel)
theorem prq_d28 : decode xM84.2.1 28 = .ok (.aload_n 0, 1) := dz_ok (by decide +kernel)
theorem prq_d29 : decode xM84.2.1 29 = .ok (.getfield 36, 3) := dz_ok (by decide +kernel)
theorem prq_d32 : decode xM84.2.1 32 = .ok (.iload 4, 2) := dz_ok (by decide +kernel)
theorem prq_d34 : decode xM84.2.1 34 = .ok (.iaload, 1) := dz_ok (by decide +kernel)
theorem prq_d35 : decode xM84.2.1 35 = .ok (.goto 4, 3) := dz_ok (by decide +kernel)
theorem prq_d38 : decode xM84.2.1 38 = .ok (.iconst 1, 1) := dz_ok (by decide +kernel)
theorem prq_d39 : decode xM84.2.1 39 = .ok (.iadd, 1) := dz_ok (by decide +kernel)
theorem prq_d40 : decode xM84.2.1 40 = .ok (.istore_n 3, 1) := dz_ok (by decide +kernel)
theorem prq_d41 : decode xM84.2.1 41 = .ok (.iinc 4 1, 3) := dz_ok (by decide +kernel)
theorem prq_d44 : decode xM84.2.1 44 = .ok (.goto (-39), 3) := dz_ok (by decide +kernel)
theorem prq_d47 : decode xM84.2.1 47 = .ok (.iload_n 3, 1) := dz_ok (by decide +kernel)
theorem prq_d48 : decode xM84.2.1 48 = .ok (.ireturn, 1) := dz_ok (by decide +kernel)
theorem prq_L5 {p : Program} {l : Launch} {e : Env} {s : State} {m : MethodId} {below : List Frame} {meth : Method} {c : Code} {D : va_G} {U : State} {Y0 : xY} {av : List Value} (B : y_B vwCl x_Tb x_Nb xM84 p s m meth c D U Y0 av) {this acost : Nat} {w cs : Int32} {f : Nat → Int32} (hav : av = [.ref this, .int w, .int cs]) (hL0 : z_L D Y0 this s.heap f) (hb1 : 0 ≤ (f 1).toInt ∧ (f 1).toInt ≤ 8)  :
    ∀ (n : Nat), ∀ (H : Heap) (Y : xY) (locs : List Loc) (ls : Array Slot) (k : Int32) (al : Int32), x_I D x_G x_Zs U (x_efs xM84) Y0 s.heap Y H locs → Y this = some 2 → Y acost = some 26 → x_sl D 2 9 this H = some (.ref acost) → x_sl D 2 6 this H = some (.int (f 1)) → y_A acost 8 H (fun j => f (66 + 7 * j)) → z_L D Y this H f → lv_has ls xM84.2.2.1 [(4, .int k), (3, .int al), (0, .ref this), (1, .int w), (2, .int cs)] → (0 ≤ k.toInt ∧ k.toInt ≤ (f 1).toInt) → (al = m_prs f cs w k.toInt.toNat) → (9 - k.toInt).toNat < n → W p l e (x_rm xM84) s m av.toArray below meth c H locs 0 0 (y_QQ below D x_G x_Zs U xM84 z_Ppr9 av Y0 s) (F0 m 5 ls []) := by
  have X := B.1
  have hx := X.1
  have hb := X.2.1
  have hY0 := B.2.2.2.2.1
  intro n
  induction n with
  | zero => intro _ _ _ _ _ _ _ _ _ _ _ _ _ _ _ _ h; exact absurd h (Nat.not_lt_zero _)
  | succ n ih =>
    intro H Y locs ls k al  hI hY_this hY_acost hs_acost hsi_things hA_acost hL hl hk hal hn
    refine lv_iload hx hb prq_d5 (lv_at hl 0 rfl) ?_
    refine lv_aload_n hx hb prq_d7 rfl (lv_at hl 2 rfl) ?_
    refine y_getf X (fl42 X.2.2.2.2.1) hI.1 hY_this rfl hsi_things prq_d8 ?_
    refine lv_icmp_ge hx hb prq_d11 (tgt := 47) (by decide) (fun q11 => ?_) (fun q11 => ?_)
    · have q11_ : (f 1).toInt ≤ k.toInt := x_le32.mp q11
      refine lv_iload_n hx hb prq_d47 rfl (lv_at hl 1 rfl) ?_
      subst hav
      exact y_ireturn B hI rfl rfl rfl List.mem_cons_self ⟨_, rfl, ⟨_, rfl, x_i32 _⟩⟩ (x_cs.mono B.2.2.2.2.2 (y_mon B hI)) (fun t' w' c' f' h1 h2 => by cases h1; cases h2.uniq hL0; refine congrArg (fun x => some (Value.int x)) ?_; unfold m_prc; rw [hal, show k.toInt.toNat = (f 1).toInt.toNat by omega]) (Nat.le_refl _) (Nat.le_refl _) prq_d48
    · have q11_ : k.toInt < (f 1).toInt := Int.not_le.mp fun q => q11 (x_le32.mpr q)
      refine lv_iload hx hb prq_d14 (lv_at hl 0 rfl) ?_
      refine lv_iload_n hx hb prq_d16 rfl (lv_at hl 3 rfl) ?_
      refine y_call (z := (1, 133, 2, none, xM70)) (av := [.int k, .int w]) (rest := []) (y_cokSN (n := 2) (host := "TwinFires") X ym_isIn (x_cons (x_bw42 15 rfl rfl) (x_cons (x_bw0 1 rfl rfl) x_nilm)) (x_bn47 5 rfl rfl) (x_bw43 0 rfl rfl) (by decide +kernel) ⟨Nat.le_of_ble_eq_true rfl, Nat.le_of_ble_eq_true rfl⟩) hY0 hI rfl prq_d17 hl.1 (Nat.le_of_ble_eq_true rfl) (Nat.le_of_ble_eq_true rfl) (Nat.le_of_ble_eq_true rfl) (y_cons ⟨_, rfl, x_i32 _⟩ (y_cons ⟨_, rfl, x_i32 _⟩ y_nil)) rfl (y_norecv rfl) trivial (y_sub_ef rfl) fun v Yn o Hn L ho hr ha hIn hx_ hE hP => ?_
      have hPm := hP _ _ rfl
      obtain rfl := hPm
      replace hs_acost := y_Efld hE hY_this rfl (by decide) (by decide) hs_acost
      replace hsi_things := y_Efld hE hY_this rfl (by decide) (by decide) hsi_things
      replace hA_acost := hA_acost.kept (y_Earr hE hY_acost rfl (by decide))
      replace hL := hL.E hY_this hE (fun q u h => y_ext hx_ hI.1 h) (by decide +kernel)
      replace hY_this := y_ext hx_ hI.1 hY_this
      replace hY_acost := y_ext hx_ hI.1 hY_acost
      generalize hg_r17 : m_b (m_has w k) = r17
      clear ho hr ha hE hP hI hx_
      rename x_I _ _ _ _ _ _ _ _ _ _ => hI
      have ec0 : (0 : Int32).toInt = 0 := by decide
      refine lv_if_eq hx hb prq_d20 (tgt := 41) (by decide) (fun q20 => ?_) (fun q20 => ?_)
      · have q20_ : r17.toInt = (0 : Int32).toInt := by rw [q20]
        obtain ⟨z41, hg_z41⟩ : ∃ z41 : Int32, k + Int32.ofInt 1 = z41 := ⟨_, rfl⟩
        have h_z41 : z41.toInt = k.toInt + 1 := by rw [← hg_z41]; exact y_inc (by decide) (by omega) (by omega)
        refine lv_iinc hx hb prq_d41 hl (k := 0) rfl hg_z41 (by decide) (lv' := [(4, .int z41), (3, .int al), (0, .ref this), (1, .int w), (2, .int cs)]) rfl fun ls hl => ?_
        refine lv_goto hx hb prq_d44 (tgt := 5) (by decide) ?_
        have his : z41.toInt.toNat = k.toInt.toNat + 1 := by omega
        have hnj := m_nj hk.1
        exact ih _ _ _ _ _ _ hI hY_this hY_acost hs_acost hsi_things hA_acost hL (lv_sub hl [0, 1, 2, 3, 4] rfl) (by first | assumption | omega) (by
                          rw [his]
                          show _ = m_prs f cs w k.toInt.toNat + _ * _
                          rw [m_has_1 (by omega), hnj, hg_r17, ← hal]
                          first
                            | (rw [show r17 = 0 by assumption, Int32.zero_mul, Int32.add_zero])
                            | (rw [show r17 = 1 from by rw [← hg_r17, m_bn (fun q => absurd ((Eq.trans (Eq.symm hg_r17)) q) (by assumption))]; rfl, Int32.one_mul]
                               first
                                 | (rw [if_pos (show cs = 0 by assumption)]; exact (Eq.symm hg_z39))
                                 | (rw [if_neg (show ¬ cs = 0 by assumption), show f (66 + 7 * k.toInt.toNat) = e34 from hg_e34]; exact (Eq.symm hg_z39)))) (by omega)
      · have q20_ : ¬ r17.toInt = (0 : Int32).toInt := fun q => q20 (Int32.toInt_inj.mp q)
        refine lv_iload_n hx hb prq_d23 rfl (lv_at hl 1 rfl) ?_
        refine lv_iload_n hx hb prq_d24 rfl (lv_at hl 4 rfl) ?_
        refine lv_if_eq hx hb prq_d25 (tgt := 38) (by decide) (fun q25 => ?_) (fun q25 => ?_)
        · have q25_ : cs.toInt = (0 : Int32).toInt := by rw [q25]
          refine lv_iconst hx hb prq_d38 (v := 1) (by decide) ?_
          have ec1 : (1 : Int32).toInt = 1 := by decide
          refine lv_iadd hx hb prq_d39 ?_
          generalize hg_z39 : al + (1 : Int32) = z39
          refine lv_istore_n hx hb prq_d40 rfl hl (by decide) (lv' := [(3, .int z39), (4, .int k), (0, .ref this), (1, .int w), (2, .int cs)]) rfl fun ls hl => ?_
          obtain ⟨z41, hg_z41⟩ : ∃ z41 : Int32, k + Int32.ofInt 1 = z41 := ⟨_, rfl⟩
          have h_z41 : z41.toInt = k.toInt + 1 := by rw [← hg_z41]; exact y_inc (by decide) (by omega) (by omega)
          refine lv_iinc hx hb prq_d41 hl (k := 1) rfl hg_z41 (by decide) (lv' := [(4, .int z41), (3, .int z39), (0, .ref this), (1, .int w), (2, .int cs)]) rfl fun ls hl => ?_
          refine lv_goto hx hb prq_d44 (tgt := 5) (by decide) ?_
          have his : z41.toInt.toNat = k.toInt.toNat + 1 := by omega
          have hnj := m_nj hk.1
          exact ih _ _ _ _ _ _ hI hY_this hY_acost hs_acost hsi_things hA_acost hL (lv_sub hl [0, 1, 2, 3, 4] rfl) (by first | assumption | omega) (by
                          rw [his]
                          show _ = m_prs f cs w k.toInt.toNat + _ * _
                          rw [m_has_1 (by omega), hnj, hg_r17, ← hal]
                          first
                            | (rw [show r17 = 0 by assumption, Int32.zero_mul, Int32.add_zero])
                            | (rw [show r17 = 1 from by rw [← hg_r17, m_bn (fun q => absurd ((Eq.trans (Eq.symm hg_r17)) q) (by assumption))]; rfl, Int32.one_mul]
                               first
                                 | (rw [if_pos (show cs = 0 by assumption)]; exact (Eq.symm hg_z39))
                                 | (rw [if_neg (show ¬ cs = 0 by assumption), show f (66 + 7 * k.toInt.toNat) = e34 from hg_e34]; exact (Eq.symm hg_z39)))) (by omega)
        · have q25_ : ¬ cs.toInt = (0 : Int32).toInt := fun q => q25 (Int32.toInt_inj.mp q)
          refine lv_aload_n hx hb prq_d28 rfl (lv_at hl 2 rfl) ?_
          refine y_getf X (fl41 X.2.2.2.2.1) hI.1 hY_this rfl hs_acost prq_d29 ?_
          refine lv_iload hx hb prq_d32 (lv_at hl 0 rfl) ?_
          refine y_iald X hI.1 hY_acost rfl hA_acost (by omega) (by show _ < (8 : Int); omega) prq_d34 ?_
          obtain ⟨e34, hg_e34⟩ : ∃ e34 : Int32, f (66 + 7 * k.toInt.toNat) = e34 := ⟨_, rfl⟩
          rw [hg_e34]
          refine lv_goto hx hb prq_d35 (tgt := 39) (by decide) ?_
          refine lv_iadd hx hb prq_d39 ?_
          generalize hg_z39 : al + e34 = z39
          refine lv_istore_n hx hb prq_d40 rfl hl (by decide) (lv' := [(3, .int z39), (4, .int k), (0, .ref this), (1, .int w), (2, .int cs)]) rfl fun ls hl => ?_
          obtain ⟨z41, hg_z41⟩ : ∃ z41 : Int32, k + Int32.ofInt 1 = z41 := ⟨_, rfl⟩
          have h_z41 : z41.toInt = k.toInt + 1 := by rw [← hg_z41]; exact y_inc (by decide) (by omega) (by omega)
          refine lv_iinc hx hb prq_d41 hl (k := 1) rfl hg_z41 (by decide) (lv' := [(4, .int z41), (3, .int z39), (0, .ref this), (1, .int w), (2, .int cs)]) rfl fun ls hl => ?_
          refine lv_goto hx hb prq_d44 (tgt := 5) (by decide) ?_
          have his : z41.toInt.toNat = k.toInt.toNat + 1 := by omega
          have hnj := m_nj hk.1
          exact ih _ _ _ _ _ _ hI hY_this hY_acost hs_acost hsi_things hA_acost hL (lv_sub hl [0, 1, 2, 3, 4] rfl) (by first | assumption | omega) (by
                          rw [his]
                          show _ = m_prs f cs w k.toInt.toNat + _ * _
                          rw [m_has_1 (by omega), hnj, hg_r17, ← hal]
                          first
                            | (rw [show r17 = 0 by assumption, Int32.zero_mul, Int32.add_zero])
                            | (rw [show r17 = 1 from by rw [← hg_r17, m_bn (fun q => absurd ((Eq.trans (Eq.symm hg_r17)) q) (by assumption))]; rfl, Int32.one_mul]
                               first
                                 | (rw [if_pos (show cs = 0 by assumption)]; exact (Eq.symm hg_z39))
                                 | (rw [if_neg (show ¬ cs = 0 by assumption), show f (66 + 7 * k.toInt.toNat) = e34 from hg_e34]; exact (Eq.symm hg_z39)))) (by omega)
theorem ym_price : y_Met vwCl x_G x_Zs x_Tb x_Nb xM84 z_AL z_Ppr9 := by
  refine y_main (by decide +kernel) (by decide +kernel) x_Tb_good x_Nb_ok ?_
  intro p l e s m below meth c D U Y0 av ls B hI hAL hl
  have X := B.1
  have hx := X.1
  have hb := X.2.1
  have hY0 := B.2.2.2.2.1
  obtain ⟨v0, v1, v2, rfl, hv0, ⟨w, rfl, -⟩, ⟨cs, rfl, hcs⟩⟩ := y_three B.2.2.2.2.2
  replace hcs : (0 : Int) ≤ cs.toInt ∧ cs.toInt ≤ 1 := hcs
  obtain ⟨this, t0, rfl, ht0, hY_this⟩ := x_ref_at hv0 rfl
  obtain rfl := List.mem_singleton.mp ht0
  replace hl : lv_has ls xM84.2.2.1 [(0, .ref this), (1, .int w), (2, .int cs)] := hl
  obtain ⟨f, hL⟩ := hAL _ rfl
  have hL0 := hL
  have hn1 := hL.1.2.1
  have hb1 : 0 ≤ (f 1).toInt ∧ (f 1).toInt ≤ 8 := by obtain ⟨x9, e9, b9⟩ := y_fldI (k := 6) hI.1 hY_this rfl rfl; rw [hn1] at e9; cases e9; exact b9
  have hsi_things := hn1
  obtain ⟨acost, hs_acost, hY_acost, hA_acost⟩ := hL.2.1 (9, 26, 8, 66, 7) (by decide)
  replace hA_acost : y_A acost 8 s.heap (fun j => f (66 + 7 * j)) := hA_acost
  refine lv_iconst hx hb prq_d0 (v := 0) (by decide) ?_
  have ec0 : (0 : Int32).toInt = 0 := by decide
  refine lv_istore_n hx hb prq_d1 rfl hl (by decide) (lv' := [(3, .int (0 : Int32)), (0, .ref this), (1, .int w), (2, .int cs)]) rfl fun ls hl => ?_
  refine lv_iconst hx hb prq_d2 (v := 0) (by decide) ?_
  refine lv_istore hx hb prq_d3 hl (by decide) (lv' := [(4, .int (0 : Int32)), (3, .int (0 : Int32)), (0, .ref this), (1, .int w), (2, .int cs)]) rfl fun ls hl => ?_
  exact prq_L5 B rfl hL0 hb1 10 _ _ _ _ _ _ hI hY_this hY_acost hs_acost hsi_things hA_acost hL (lv_sub hl [0, 1, 2, 3, 4] rfl) (by first | assumption | omega) (by rw [z_i0]; rfl) (by omega)
def z_PTwf : yP := fun D av Y H v _ _ => ∀ (this : Nat) (w t cs : Int32) (f : Nat → Int32) (K : Nat → Option (Nat → Int32)) (t9 : Nat → Int32) (n9 : Int32), av = [.ref this, .int w, .int t, .int cs] → z_RC D Y H this f K t9 n9 → ∃ r : Int32, v = some (.int r) ∧ m_wk f cs (m_LWC f w) w t r
theorem wfq_d0 : decode xM85.2.1 0 = .ok (.aload_n 0, 1) := dz_ok (by decide +kernel)
theorem wfq_d1 : decode xM85.2.1 1 = .ok (.getfield 12, 3) := dz_ok (by decide +kernel)
theorem wfq_d4 : decode xM85.2.1 4 = .ok (.iload_n 1, 1) := dz_ok (by decide +kernel)
theorem wfq_d5 : decode xM85.2.1 5 = .ok (.invokevirtual 169, 3) := dz_ok (by decide +kernel)
theorem wfq_d8 : decode xM85.2.1 8 = .ok (.ifCond .eq 12, 3) := dz_ok (by decide +kernel)
theorem wfq_d11 : decode xM85.2.1 11 = .ok (.iload_n 2, 1) := dz_ok (by decide +kernel)
theorem wfq_d12 : decode xM85.2.1 12 = .ok (.iconst 0, 1) := dz_ok (by decide +kernel)
theorem wfq_d13 : decode xM85.2.1 13 = .ok (.iconst 1, 1) := dz_ok (by decide +kernel)
theorem wfq_d14 : decode xM85.2.1 14 = .ok (.invokestatic 88, 3) := dz_ok (by decide +kernel)
theorem wfq_d17 : decode xM85.2.1 17 = .ok (.ifCond .ne 10, 3) := dz_ok (by decide +kernel)
theorem wfq_d20 : decode xM85.2.1 20 = .ok (.aload_n 0, 1) := dz_ok (by decide +kernel)
theorem wfq_d21 : decode xM85.2.1 21 = .ok (.bipush (-2), 2) := dz_ok (by decide +kernel)
theorem wfq_d23 : decode xM85.2.1 23 = .ok (.invokevirtual 59, 3) := dz_ok (by decide +kernel)
theorem wfq_d26 : decode xM85.2.1 26 = .ok (.ireturn, 1) := dz_ok (by decide +kernel)
theorem wfq_d27 : decode xM85.2.1 27 = .ok (.aload_n 0, 1) := dz_ok (by decide +kernel)
theorem wfq_d28 : decode xM85.2.1 28 = .ok (.getfield 33, 3) := dz_ok (by decide +kernel)
theorem wfq_d31 : decode xM85.2.1 31 = .ok (.aload_n 0, 1) := dz_ok (by decide +kernel)
theorem wfq_d32 : decode xM85.2.1 32 = .ok (.getfield 12, 3) := dz_ok (by decide +kernel)
theorem wfq_d35 : decode xM85.2.1 35 = .ok (.aload_n 0, 1) := dz_ok (by decide +kernel)
theorem wfq_d36 : decode xM85.2.1 36 = .ok (.getfield 12, 3) := dz_ok (by decide +kernel)
theorem wfq_d39 : decode xM85.2.1 39 = .ok (.getfield 95, 3) := dz_ok (by decide +kernel)
theorem wfq_d42 : decode xM85.2.1 42 = .ok (.iconst 0, 1) := dz_ok (by decide +kernel)
theorem wfq_d43 : decode xM85.2.1 43 = .ok (.iaload, 1) := dz_ok (by decide +kernel)
theorem wfq_d44 : decode xM85.2.1 44 = .ok (.invokevirtual 200, 3) := dz_ok (by decide +kernel)
theorem wfq_d47 : decode xM85.2.1 47 = .ok (.aload_n 0, 1) := dz_ok (by decide +kernel)
theorem wfq_d48 : decode xM85.2.1 48 = .ok (.getfield 12, 3) := dz_ok (by decide +kernel)
theorem wfq_d51 : decode xM85.2.1 51 = .ok (.invokevirtual 320, 3) := dz_ok (by decide +kernel)
theorem wfq_d54 : decode xM85.2.1 54 = .ok (.istore 4, 2) := dz_ok (by decide +kernel)
theorem wfq_d56 : decode xM85.2.1 56 = .ok (.iconst (-1), 1) := dz_ok (by decide +kernel)
theorem wfq_d57 : decode xM85.2.1 57 = .ok (.istore 5, 2) := dz_ok (by decide +kernel)
theorem wfq_d59 : decode xM85.2.1 59 = .ok (.iconst 0, 1) := dz_ok (by decide +kernel)
theorem wfq_d60 : decode xM85.2.1 60 = .ok (.istore 6, 2) := dz_ok (by decide +kernel)
theorem wfq_d62 : decode xM85.2.1 62 = .ok (.iconst 0, 1) := dz_ok (by decide +kernel)
theorem wfq_d63 : decode xM85.2.1 63 = .ok (.istore 7, 2) := dz_ok (by decide +kernel)
theorem wfq_d65 : decode xM85.2.1 65 = .ok (.iload 7, 2) := dz_ok (by decide +kernel)
theorem wfq_d67 : decode xM85.2.1 67 = .ok (.iload 4, 2) := dz_ok (by decide +kernel)
theorem wfq_d69 : decode xM85.2.1 69 = .ok (.if_icmp .gt 92, 3) := dz_ok (by decide +kernel)
theorem wfq_d72 : decode xM85.2.1 72 = .ok (.iload 7, 2) := dz_ok (by decide +kernel)
theorem wfq_d74 : decode xM85.2.1 74 = .ok (.iload 4, 2) := dz_ok (by decide +kernel)
theorem wfq_d76 : decode xM85.2.1 76 = .ok (.iconst (-1), 1) := dz_ok (by decide +kernel)
theorem wfq_d77 : decode xM85.2.1 77 = .ok (.ixor, 1) := dz_ok (by decide +kernel)
theorem wfq_d78 : decode xM85.2.1 78 = .ok (.iand, 1) := dz_ok (by decide +kernel)
theorem wfq_d79 : decode xM85.2.1 79 = .ok (.ifCond .eq 6, 3) := dz_ok (by decide +kernel)
theorem wfq_d82 : decode xM85.2.1 82 = .ok (.goto 73, 3) := dz_ok (by decide +kernel)
theorem wfq_d85 : decode xM85.2.1 85 = .ok (.aload_n 0, 1) := dz_ok (by decide +kernel)
theorem wfq_d86 : decode xM85.2.1 86 = .ok (.getfield 12, 3) := dz_ok (by decide +kernel)
theorem wfq_d89 : decode xM85.2.1 89 = .ok (.iload 7, 2) := dz_ok (by decide +kernel)
theorem wfq_d91 : decode xM85.2.1 91 = .ok (.iload_n 3, 1) := dz_ok (by decide +kernel)
theorem wfq_d92 : decode xM85.2.1 92 = .ok (.invokevirtual 323, 3) := dz_ok (by decide +kernel)
theorem wfq_d95 : decode xM85.2.1 95 = .ok (.istore 8, 2) := dz_ok (by decide +kernel)
theorem wfq_d97 : decode xM85.2.1 97 = .ok (.iload 5, 2) := dz_ok (by decide +kernel)
theorem wfq_d99 : decode xM85.2.1 99 = .ok (.iconst (-1), 1) := dz_ok (by decide +kernel)
theorem wfq_d100 : decode xM85.2.1 100 = .ok (.if_icmp .eq 13, 3) := dz_ok (by decide +kernel)
theorem wfq_d103 : decode xM85.2.1 103 = .ok (.iload 8, 2) := dz_ok (by decide +kernel)
theorem wfq_d105 : decode xM85.2.1 105 = .ok (.iload 6, 2) := dz_ok (by decide +kernel)
theorem wfq_d107 : decode xM85.2.1 107 = .ok (.if_icmp .lt 6, 3) := dz_ok (by decide +kernel)
theorem wfq_d110 : decode xM85.2.1 110 = .ok (.goto 45, 3) := dz_ok (by decide +kernel)
theorem wfq_d113 : decode xM85.2.1 113 = .ok (.aload_n 0, 1) := dz_ok (by decide +kernel)
theorem wfq_d114 : decode xM85.2.1 114 = .ok (.getfield 33, 3) := dz_ok (by decide +kernel)
theorem wfq_d117 : decode xM85.2.1 117 = .ok (.aload_n 0, 1) := dz_ok (by decide +kernel)
theorem wfq_d118 : decode xM85.2.1 118 = .ok (.getfield 12, 3) := dz_ok (by decide +kernel)
theorem wfq_d121 : decode xM85.2.1 121 = .ok (.aload_n 0, 1) := dz_ok (by decide +kernel)
theorem wfq_d122 : decode xM85.2.1 122 = .ok (.getfield 12, 3) := dz_ok (by decide +kernel)
theorem wfq_d125 : decode xM85.2.1 125 = .ok (.getfield 95, 3) := dz_ok (by decide +kernel)
theorem wfq_d128 : decode xM85.2.1 128 = .ok (.iconst 1, 1) := dz_ok (by decide +kernel)
theorem wfq_d129 : decode xM85.2.1 129 = .ok (.iaload, 1) := dz_ok (by decide +kernel)
theorem wfq_d130 : decode xM85.2.1 130 = .ok (.iload 7, 2) := dz_ok (by decide +kernel)
theorem wfq_d132 : decode xM85.2.1 132 = .ok (.invokevirtual 204, 3) := dz_ok (by decide +kernel)
theorem wfq_d135 : decode xM85.2.1 135 = .ok (.aload_n 0, 1) := dz_ok (by decide +kernel)
theorem wfq_d136 : decode xM85.2.1 136 = .ok (.getfield 33, 3) := dz_ok (by decide +kernel)
theorem wfq_d139 : decode xM85.2.1 139 = .ok (.iload_n 1, 1) := dz_ok (by decide +kernel)
theorem wfq_d140 : decode xM85.2.1 140 = .ok (.invokevirtual 172, 3) := dz_ok (by decide +kernel)
theorem wfq_d143 : decode xM85.2.1 143 = .ok (.iconst (-1), 1) := dz_ok (by decide +kernel)
theorem wfq_d144 : decode xM85.2.1 144 = .ok (.if_icmp .ne 11, 3) := dz_ok (by decide +kernel)
theorem wfq_d147 : decode xM85.2.1 147 = .ok (.iload 7, 2) := dz_ok (by decide +kernel)
theorem wfq_d149 : decode xM85.2.1 149 = .ok (.istore 5, 2) := dz_ok (by decide +kernel)
theorem wfq_d151 : decode xM85.2.1 151 = .ok (.iload 8, 2) := dz_ok (by decide +kernel)
theorem wfq_d153 : decode xM85.2.1 153 = .ok (.istore 6, 2) := dz_ok (by decide +kernel)
theorem wfq_d155 : decode xM85.2.1 155 = .ok (.iinc 7 1, 3) := dz_ok (by decide +kernel)
theorem wfq_d158 : decode xM85.2.1 158 = .ok (.goto (-93), 3) := dz_ok (by decide +kernel)
theorem wfq_d161 : decode xM85.2.1 161 = .ok (.iload 5, 2) := dz_ok (by decide +kernel)
theorem wfq_d163 : decode xM85.2.1 163 = .ok (.iconst (-1), 1) := dz_ok (by decide +kernel)
theorem wfq_d164 : decode xM85.2.1 164 = .ok (.if_icmp .eq 8, 3) := dz_ok (by decide +kernel)
theorem wfq_d167 : decode xM85.2.1 167 = .ok (.iload_n 2, 1) := dz_ok (by decide +kernel)
theorem wfq_d168 : decode xM85.2.1 168 = .ok (.iconst 1, 1) := dz_ok (by decide +kernel)
theorem wfq_d169 : decode xM85.2.1 169 = .ok (.if_icmp .ne 8, 3) := dz_ok (by decide +kernel)
theorem wfq_d172 : decode xM85.2.1 172 = .ok (.iload 5, 2) := dz_ok (by decide +kernel)
theorem wfq_d174 : decode xM85.2.1 174 = .ok (.goto 5, 3) := dz_ok (by decide +kernel)
theorem wfq_d177 : decode xM85.2.1 177 = .ok (.iload 6, 2) := dz_ok (by decide +kernel)
theorem wfq_d179 : decode xM85.2.1 179 = .ok (.ireturn, 1) := dz_ok (by decide +kernel)
theorem wfq_L65 {p : Program} {l : Launch} {e : Env} {s : State} {m : MethodId} {below : List Frame} {meth : Method} {c : Code} {D : va_G} {U : State} {Y0 : xY} {av : List Value} (B : y_B vwCl x_Tb x_Nb xM85 p s m meth c D U Y0 av) {this ld ey vw en ed adial : Nat} {w t cs : Int32} {f : Nat → Int32} {K : Nat → Option (Nat → Int32)} {tt : Nat → Int32} {nn : Int32} (hav : av = [.ref this, .int w, .int t, .int cs]) (hR0 : z_RC D Y0 s.heap this f K tt nn) (hb0 : 0 ≤ (f 0).toInt ∧ (f 0).toInt ≤ 10) (hb1 : 0 ≤ (f 1).toInt ∧ (f 1).toInt ≤ 8) (hcs : 0 ≤ cs.toInt ∧ cs.toInt ≤ 1) (hok : m_isS f w ∧ 0 ≤ t.toInt ∧ t.toInt ≤ 1) {can : Int32} (hcan : can = m_can f) :
    ∀ (n : Nat), ∀ (H : Heap) (Y : xY) (locs : List Loc) (ls : Array Slot) (k : Int32) (le : Int32) (be : Int32) (fn fd : Nat → Int32), x_I D x_G x_Zs U (x_efs xM85) Y0 s.heap Y H locs → Y this = some 0 → Y ld = some 2 → Y ey = some 6 → Y vw = some 32 → Y en = some 33 → Y ed = some 34 → Y adial = some 27 → x_sl D 11 0 this H = some (.ref ld) → x_sl D 11 4 this H = some (.ref ey) → x_sl D 0 1 ey H = some (.ref vw) → x_sl D 0 2 ey H = some (.ref en) → x_sl D 0 3 ey H = some (.ref ed) → x_sl D 2 10 ld H = some (.ref adial) → y_A en 100 H fn → y_A ed 100 H fd → y_A adial 4 H (fun j => f (4 + 1 * j)) → z_L D Y ld H f → lv_has ls xM85.2.2.1 [(7, .int k), (6, .int le), (5, .int be), (0, .ref this), (1, .int w), (2, .int t), (3, .int cs), (4, .int can)] → (0 ≤ k.toInt ∧ k.toInt ≤ can.toInt + 1) → (∀ p q : Nat, p < q → (q : Int) < (f 0).toInt → m_gok fn fd f (f 4) p q) → (be = m_wkF f cs (m_LWC f w) k.toInt.toNat) → (¬ be = -1 → le = m_prc f cs be) → (257 - k.toInt).toNat < n → W p l e (x_rm xM85) s m av.toArray below meth c H locs 0 0 (y_QQ below D x_G x_Zs U xM85 z_PTwf av Y0 s) (F0 m 65 ls []) := by
  have X := B.1
  have hx := X.1
  have hb := X.2.1
  have hY0 := B.2.2.2.2.1
  intro n
  induction n with
  | zero => intro _ _ _ _ _ _ _ _ _ _ _ _ _ _ _ _ _ _ _ _ _ _ _ _ _ _ _ _ _ _ _ _ h; exact absurd h (Nat.not_lt_zero _)
  | succ n ih =>
    intro H Y locs ls k le be fn fd hI hY_this hY_ld hY_ey hY_vw hY_en hY_ed hY_adial hs_ld hs_ey hs_vw hs_en hs_ed hs_adial hA_en hA_ed hA_adial hL hl hk hok9 hbe hle hn
    have hcb := m_can_b hb1
    rw [← hcan] at hcb
    refine lv_iload hx hb wfq_d65 (lv_at hl 0 rfl) ?_
    refine lv_iload hx hb wfq_d67 (lv_at hl 7 rfl) ?_
    refine lv_icmp_gt hx hb wfq_d69 (tgt := 161) (by decide) (fun q69 => ?_) (fun q69 => ?_)
    · have q69_ : can.toInt < k.toInt := x_lt32.mp q69
      refine lv_iload hx hb wfq_d161 (lv_at hl 2 rfl) ?_
      refine lv_iconst hx hb wfq_d163 (v := (-1)) (by decide) ?_
      have ecm1 : ((-1) : Int32).toInt = (-1) := by decide
      refine lv_icmp_eq hx hb wfq_d164 (tgt := 172) (by decide) (fun q164 => ?_) (fun q164 => ?_)
      · have q164_ : be.toInt = ((-1) : Int32).toInt := by rw [q164]
        refine lv_iload hx hb wfq_d172 (lv_at hl 2 rfl) ?_
        refine lv_goto hx hb wfq_d174 (tgt := 179) (by decide) ?_
        have hB9 : be = m_wkB f cs (m_LWC f w) := by unfold m_wkB; rw [hbe, ← hcan]; congr 1; omega
        subst hav
        exact y_ireturn B hI rfl rfl rfl List.mem_cons_self ⟨_, rfl, ⟨_, rfl, x_i32 _⟩⟩ (x_cs.mono B.2.2.2.2.2 (y_mon B hI)) (fun t' w0' w1' w2' f' K' tt' nn' h1 h2 => by cases h1; obtain ⟨ef, -⟩ := hR0.eqs h2; subst ef; exact ⟨_, rfl, fun _ => ⟨fun _ => hB9, fun q8 q9 => by first | exact absurd (hB9.symm.trans (show be = -1 by assumption)) q8 | exact absurd (show t = 1 by assumption) q9⟩, fun q9 => absurd hok q9⟩) (Nat.le_refl _) (Nat.le_refl _) wfq_d179
      · have q164_ : ¬ be.toInt = ((-1) : Int32).toInt := fun q => q164 (Int32.toInt_inj.mp q)
        refine lv_iload_n hx hb wfq_d167 rfl (lv_at hl 5 rfl) ?_
        refine lv_iconst hx hb wfq_d168 (v := 1) (by decide) ?_
        have ec1 : (1 : Int32).toInt = 1 := by decide
        refine lv_icmp_ne hx hb wfq_d169 (tgt := 177) (by decide) (fun q169 => ?_) (fun q169 => ?_)
        · have q169_ : ¬ t.toInt = (1 : Int32).toInt := fun q => q169 (Int32.toInt_inj.mp q)
          refine lv_iload hx hb wfq_d177 (lv_at hl 1 rfl) ?_
          have hB9 : be = m_wkB f cs (m_LWC f w) := by unfold m_wkB; rw [hbe, ← hcan]; congr 1; omega
          subst hav
          exact y_ireturn B hI rfl rfl rfl List.mem_cons_self ⟨_, rfl, ⟨_, rfl, x_i32 _⟩⟩ (x_cs.mono B.2.2.2.2.2 (y_mon B hI)) (fun t' w0' w1' w2' f' K' tt' nn' h1 h2 => by cases h1; obtain ⟨ef, -⟩ := hR0.eqs h2; subst ef; exact ⟨_, rfl, fun _ => ⟨fun q9 => by rcases q9 with q9 | q9; exact absurd (hB9.trans q9) (by assumption); exact absurd q9 (by assumption), fun _ _ => by rw [← hB9]; exact hle (by assumption)⟩, fun q9 => absurd hok q9⟩) (Nat.le_refl _) (Nat.le_refl _) wfq_d179
        · have q169_ : t.toInt = (1 : Int32).toInt := by rw [q169]
          refine lv_iload hx hb wfq_d172 (lv_at hl 2 rfl) ?_
          refine lv_goto hx hb wfq_d174 (tgt := 179) (by decide) ?_
          have hB9 : be = m_wkB f cs (m_LWC f w) := by unfold m_wkB; rw [hbe, ← hcan]; congr 1; omega
          subst hav
          exact y_ireturn B hI rfl rfl rfl List.mem_cons_self ⟨_, rfl, ⟨_, rfl, x_i32 _⟩⟩ (x_cs.mono B.2.2.2.2.2 (y_mon B hI)) (fun t' w0' w1' w2' f' K' tt' nn' h1 h2 => by cases h1; obtain ⟨ef, -⟩ := hR0.eqs h2; subst ef; exact ⟨_, rfl, fun _ => ⟨fun _ => hB9, fun q8 q9 => by first | exact absurd (hB9.symm.trans (show be = -1 by assumption)) q8 | exact absurd (show t = 1 by assumption) q9⟩, fun q9 => absurd hok q9⟩) (Nat.le_refl _) (Nat.le_refl _) wfq_d179
    · have q69_ : k.toInt ≤ can.toInt := Int.not_lt.mp fun q => q69 (x_lt32.mpr q)
      refine lv_iload hx hb wfq_d72 (lv_at hl 0 rfl) ?_
      refine lv_iload hx hb wfq_d74 (lv_at hl 7 rfl) ?_
      refine lv_iconst hx hb wfq_d76 (v := (-1)) (by decide) ?_
      have ecm1 : ((-1) : Int32).toInt = (-1) := by decide
      refine lv_ixor hx hb wfq_d77 ?_
      generalize hg_z77 : can ^^^ ((-1) : Int32) = z77
      refine lv_iand hx hb wfq_d78 ?_
      generalize hg_z78 : k &&& z77 = z78
      have ec0 : (0 : Int32).toInt = 0 := by decide
      refine lv_if_eq hx hb wfq_d79 (tgt := 85) (by decide) (fun q79 => ?_) (fun q79 => ?_)
      · have q79_ : z78.toInt = (0 : Int32).toInt := by rw [q79]
        refine lv_aload_n hx hb wfq_d85 rfl (lv_at hl 3 rfl) ?_
        refine y_getf X (fl8 X.2.2.2.2.1) hI.1 hY_this rfl hs_ld wfq_d86 ?_
        refine lv_iload hx hb wfq_d89 (lv_at hl 0 rfl) ?_
        refine lv_iload_n hx hb wfq_d91 rfl (lv_at hl 6 rfl) ?_
        refine y_call (z := (0, 323, 3, some 2, xM84)) (av := [.ref ld, .int k, .int cs]) (rest := []) (y_cokV (n := 2) (ci := 2) X ym_price rfl rfl rfl (x_cons (x_bw47 1 rfl rfl) (x_cons (x_bw47 2 rfl rfl) (x_cons (x_bw47 3 rfl rfl) (x_cons (x_bw0 2 rfl rfl) x_nilm)))) (x_bw47 4 rfl rfl) (by decide +kernel) ⟨Nat.le_of_ble_eq_true rfl, Nat.le_of_ble_eq_true rfl⟩) hY0 hI rfl wfq_d92 hl.1 (Nat.le_of_ble_eq_true rfl) (Nat.le_of_ble_eq_true rfl) (Nat.le_of_ble_eq_true rfl) (y_cons (y_cref hY_ld rfl) (y_cons ⟨_, rfl, x_i32 _⟩ (y_cons ⟨_, rfl, by show (0 : Int) ≤ _; omega, by show _ ≤ (1 : Int); omega⟩ y_nil))) rfl (y_recv rfl hY_ld) (fun t' h1 => by cases h1; exact ⟨_, hL⟩) (y_sub_ef rfl) fun v Yn o Hn L ho hr ha hIn hx_ hE hP => ?_
        have hPp := hP _ _ _ _ rfl hL
        obtain rfl := hPp
        replace hs_ld := y_Efld hE hY_this rfl (by decide) (by decide) hs_ld
        replace hs_ey := y_Efld hE hY_this rfl (by decide) (by decide) hs_ey
        replace hs_vw := y_Efld hE hY_ey rfl (by decide) (by decide) hs_vw
        replace hs_en := y_Efld hE hY_ey rfl (by decide) (by decide) hs_en
        replace hs_ed := y_Efld hE hY_ey rfl (by decide) (by decide) hs_ed
        replace hs_adial := y_Efld hE hY_ld rfl (by decide) (by decide) hs_adial
        replace hA_en := hA_en.kept (y_Earr hE hY_en rfl (by decide))
        replace hA_ed := hA_ed.kept (y_Earr hE hY_ed rfl (by decide))
        replace hA_adial := hA_adial.kept (y_Earr hE hY_adial rfl (by decide))
        replace hL := hL.E hY_ld hE (fun q u h => y_ext hx_ hI.1 h) (by decide +kernel)
        replace hY_this := y_ext hx_ hI.1 hY_this
        replace hY_ld := y_ext hx_ hI.1 hY_ld
        replace hY_ey := y_ext hx_ hI.1 hY_ey
        replace hY_vw := y_ext hx_ hI.1 hY_vw
        replace hY_en := y_ext hx_ hI.1 hY_en
        replace hY_ed := y_ext hx_ hI.1 hY_ed
        replace hY_adial := y_ext hx_ hI.1 hY_adial
        generalize hg_r92 : m_prc f cs k = r92
        clear ho hr ha hE hP hI hx_
        rename x_I _ _ _ _ _ _ _ _ _ _ => hI
        refine lv_istore hx hb wfq_d95 hl (by decide) (lv' := [(8, .int r92), (7, .int k), (6, .int le), (5, .int be), (0, .ref this), (1, .int w), (2, .int t), (3, .int cs), (4, .int can)]) rfl fun ls hl => ?_
        refine lv_iload hx hb wfq_d97 (lv_at hl 3 rfl) ?_
        refine lv_iconst hx hb wfq_d99 (v := (-1)) (by decide) ?_
        refine lv_icmp_eq hx hb wfq_d100 (tgt := 113) (by decide) (fun q100 => ?_) (fun q100 => ?_)
        · have q100_ : be.toInt = ((-1) : Int32).toInt := by rw [q100]
          refine lv_aload_n hx hb wfq_d113 rfl (lv_at hl 4 rfl) ?_
          refine y_getf X (fl102 X.2.2.2.2.1) hI.1 hY_this rfl hs_ey wfq_d114 ?_
          refine lv_aload_n hx hb wfq_d117 rfl (lv_at hl 4 rfl) ?_
          refine y_getf X (fl8 X.2.2.2.2.1) hI.1 hY_this rfl hs_ld wfq_d118 ?_
          refine lv_aload_n hx hb wfq_d121 rfl (lv_at hl 4 rfl) ?_
          refine y_getf X (fl8 X.2.2.2.2.1) hI.1 hY_this rfl hs_ld wfq_d122 ?_
          refine y_getf X (fl58 X.2.2.2.2.1) hI.1 hY_ld rfl hs_adial wfq_d125 ?_
          refine lv_iconst hx hb wfq_d128 (v := 1) (by decide) ?_
          have ec1 : (1 : Int32).toInt = 1 := by decide
          refine y_iald X hI.1 hY_adial rfl hA_adial (by omega) (by show _ < (4 : Int); omega) wfq_d129 ?_
          obtain ⟨e129, hg_e129⟩ : ∃ e129 : Int32, f (4 + 1 * (1 : Int32).toInt.toNat) = e129 := ⟨_, rfl⟩
          rw [hg_e129]
          refine lv_iload hx hb wfq_d130 (lv_at hl 1 rfl) ?_
          have hm9 : e129 = f 5 := (Eq.symm hg_e129)
          subst hm9
          refine y_call (z := (0, 204, 4, some 6, xM51)) (av := [.ref ey, .ref ld, .int (f 5), .int k]) (rest := []) (y_cokV (n := 3) (ci := 0) X ym_veil rfl rfl rfl (x_cons (x_bw32 11 rfl rfl) (x_cons (x_bw32 12 rfl rfl) (x_cons (x_bw32 13 rfl rfl) (x_cons (x_bw0 6 rfl rfl) x_nilm)))) (x_bw32 14 rfl rfl) (by decide +kernel) ⟨Nat.le_of_ble_eq_true rfl, Nat.le_of_ble_eq_true rfl⟩) hY0 hI rfl wfq_d132 hl.1 (Nat.le_of_ble_eq_true rfl) (Nat.le_of_ble_eq_true rfl) (Nat.le_of_ble_eq_true rfl) (y_cons (y_cref hY_ey rfl) (y_cons (y_cref hY_ld rfl) (y_cons ⟨_, rfl, x_i32 _⟩ (y_cons ⟨_, rfl, x_i32 _⟩ y_nil)))) rfl (y_recv rfl hY_ey) (fun t' h1 => by cases h1; exact ⟨_, hL⟩) (y_sub_ef rfl) fun v Yn o Hn L ho hr ha hIn hx_ hE hP => ?_
          have hPv := hP _ _ _ _ _ _ _ _ _ _ rfl hs_vw hs_en hs_ed hL hA_en hA_ed
          replace hs_ld := y_Efld hE hY_this rfl (by decide) (by decide) hs_ld
          replace hs_ey := y_Efld hE hY_this rfl (by decide) (by decide) hs_ey
          replace hs_vw := y_Efld hE hY_ey rfl (by decide) (by decide) hs_vw
          replace hs_en := y_Efld hE hY_ey rfl (by decide) (by decide) hs_en
          replace hs_ed := y_Efld hE hY_ey rfl (by decide) (by decide) hs_ed
          replace hs_adial := y_Efld hE hY_ld rfl (by decide) (by decide) hs_adial
          replace hA_en := hA_en.kept (y_Earr hE hY_en rfl (by decide))
          replace hA_ed := hA_ed.kept (y_Earr hE hY_ed rfl (by decide))
          replace hA_adial := hA_adial.kept (y_Earr hE hY_adial rfl (by decide))
          replace hL := hL.E hY_ld hE (fun q u h => y_ext hx_ hI.1 h) (by decide +kernel)
          replace hY_this := y_ext hx_ hI.1 hY_this
          replace hY_ld := y_ext hx_ hI.1 hY_ld
          replace hY_ey := y_ext hx_ hI.1 hY_ey
          replace hY_vw := y_ext hx_ hI.1 hY_vw
          replace hY_en := y_ext hx_ hI.1 hY_en
          replace hY_ed := y_ext hx_ hI.1 hY_ed
          replace hY_adial := y_ext hx_ hI.1 hY_adial
          obtain rfl := y_ansV rfl ho hr
          have hA_vw : y_A vw 10 Hn (m_VC f (f 4) (f 5) k) := z_cpA hPv (fun i hi => (m_vw_congr fun p q h8 h9 => by rw [m_vk_ok (hok9 p q h8 (by omega))]).symm)
          clear ho hr ha hE hP hI hx_
          rename x_I _ _ _ _ _ _ _ _ _ _ => hI
          refine lv_aload_n hx hb wfq_d135 rfl (lv_at hl 4 rfl) ?_
          refine y_getf X (fl102 X.2.2.2.2.1) hI.1 hY_this rfl hs_ey wfq_d136 ?_
          refine lv_iload_n hx hb wfq_d139 rfl (lv_at hl 5 rfl) ?_
          refine y_call (z := (0, 172, 2, some 6, xM72)) (av := [.ref ey, .int w]) (rest := []) (y_cokV (n := 1) (ci := 0) X ym_firstWrong rfl rfl rfl (x_cons (x_bw42 10 rfl rfl) (x_cons (x_bw42 11 rfl rfl) (x_cons (x_bw42 12 rfl rfl) (x_cons (x_bw0 6 rfl rfl) x_nilm)))) (x_bw42 13 rfl rfl) (by decide +kernel) ⟨Nat.le_of_ble_eq_true rfl, Nat.le_of_ble_eq_true rfl⟩) hY0 hI rfl wfq_d140 hl.1 (Nat.le_of_ble_eq_true rfl) (Nat.le_of_ble_eq_true rfl) (Nat.le_of_ble_eq_true rfl) (y_cons (y_cref hY_ey rfl) (y_cons ⟨_, rfl, x_i32 _⟩ y_nil)) rfl (y_recv rfl hY_ey) trivial (y_sub_ef rfl) fun v Yn o Hn L ho hr ha hIn hx_ hE hP => ?_
          have hPw := hP _ _ _ _ rfl hs_vw hA_vw
          replace hs_ld := y_Efld hE hY_this rfl (by decide) (by decide) hs_ld
          replace hs_ey := y_Efld hE hY_this rfl (by decide) (by decide) hs_ey
          replace hs_vw := y_Efld hE hY_ey rfl (by decide) (by decide) hs_vw
          replace hs_en := y_Efld hE hY_ey rfl (by decide) (by decide) hs_en
          replace hs_ed := y_Efld hE hY_ey rfl (by decide) (by decide) hs_ed
          replace hs_adial := y_Efld hE hY_ld rfl (by decide) (by decide) hs_adial
          replace hA_en := hA_en.kept (y_Earr hE hY_en rfl (by decide))
          replace hA_ed := hA_ed.kept (y_Earr hE hY_ed rfl (by decide))
          replace hA_adial := hA_adial.kept (y_Earr hE hY_adial rfl (by decide))
          replace hA_vw := hA_vw.kept (y_Earr hE hY_vw rfl (by decide))
          replace hL := hL.E hY_ld hE (fun q u h => y_ext hx_ hI.1 h) (by decide +kernel)
          replace hY_this := y_ext hx_ hI.1 hY_this
          replace hY_ld := y_ext hx_ hI.1 hY_ld
          replace hY_ey := y_ext hx_ hI.1 hY_ey
          replace hY_vw := y_ext hx_ hI.1 hY_vw
          replace hY_en := y_ext hx_ hI.1 hY_en
          replace hY_ed := y_ext hx_ hI.1 hY_ed
          replace hY_adial := y_ext hx_ hI.1 hY_adial
          obtain ⟨r140, rfl, hfw_140⟩ := hPw
          clear ho hr ha hE hP hI hx_
          rename x_I _ _ _ _ _ _ _ _ _ _ => hI
          refine lv_iconst hx hb wfq_d143 (v := (-1)) (by decide) ?_
          refine lv_icmp_ne hx hb wfq_d144 (tgt := 155) (by decide) (fun q144 => ?_) (fun q144 => ?_)
          · have q144_ : ¬ r140.toInt = ((-1) : Int32).toInt := fun q => q144 (Int32.toInt_inj.mp q)
            obtain ⟨z155, hg_z155⟩ : ∃ z155 : Int32, k + Int32.ofInt 1 = z155 := ⟨_, rfl⟩
            have h_z155 : z155.toInt = k.toInt + 1 := by rw [← hg_z155]; exact y_inc (by decide) (by omega) (by omega)
            refine lv_iinc hx hb wfq_d155 hl (k := 1) rfl hg_z155 (by decide) (lv' := [(7, .int z155), (8, .int r92), (6, .int le), (5, .int be), (0, .ref this), (1, .int w), (2, .int t), (3, .int cs), (4, .int can)]) rfl fun ls hl => ?_
            refine lv_goto hx hb wfq_d158 (tgt := 65) (by decide) ?_
            have his : z155.toInt.toNat = k.toInt.toNat + 1 := by omega
            have hnj := m_nj hk.1
            exact ih _ _ _ _ _ _ _ _ _ hI hY_this hY_ld hY_ey hY_vw hY_en hY_ed hY_adial hs_ld hs_ey hs_vw hs_en hs_ed hs_adial hA_en hA_ed hA_adial hL (lv_sub hl [0, 2, 3, 4, 5, 6, 7, 8] rfl) (by first | assumption | omega) hok9 (by rw [his, m_wkF_s, ← hbe]; unfold m_wkSt; rw [hnj, ← hcan, hg_z77, hg_z78]; first | (rw [if_neg (fun h9 => absurd h9.1 (by assumption))]) | (rw [if_neg (fun h9 => by rcases h9.2.1 with h8 | h8; exact absurd h8 (by assumption); rw [hg_r92, ← hle (by assumption)] at h8; omega)]) | (rw [if_neg (fun h9 => by have h8 := h9.2.2; unfold m_LWC at h8; rw [hnj, Bool.not_eq_true'] at h8; exact absurd ((m_fw_LC hfw_140).mpr h8) (by assumption))])) hle (by omega)
          · have q144_ : r140.toInt = ((-1) : Int32).toInt := by rw [q144]
            refine lv_iload hx hb wfq_d147 (lv_at hl 1 rfl) ?_
            refine lv_istore hx hb wfq_d149 hl (by decide) (lv' := [(5, .int k), (8, .int r92), (7, .int k), (6, .int le), (0, .ref this), (1, .int w), (2, .int t), (3, .int cs), (4, .int can)]) rfl fun ls hl => ?_
            refine lv_iload hx hb wfq_d151 (lv_at hl 1 rfl) ?_
            refine lv_istore hx hb wfq_d153 hl (by decide) (lv' := [(6, .int r92), (5, .int k), (8, .int r92), (7, .int k), (0, .ref this), (1, .int w), (2, .int t), (3, .int cs), (4, .int can)]) rfl fun ls hl => ?_
            obtain ⟨z155, hg_z155⟩ : ∃ z155 : Int32, k + Int32.ofInt 1 = z155 := ⟨_, rfl⟩
            have h_z155 : z155.toInt = k.toInt + 1 := by rw [← hg_z155]; exact y_inc (by decide) (by omega) (by omega)
            refine lv_iinc hx hb wfq_d155 hl (k := 3) rfl hg_z155 (by decide) (lv' := [(7, .int z155), (6, .int r92), (5, .int k), (8, .int r92), (0, .ref this), (1, .int w), (2, .int t), (3, .int cs), (4, .int can)]) rfl fun ls hl => ?_
            refine lv_goto hx hb wfq_d158 (tgt := 65) (by decide) ?_
            have his : z155.toInt.toNat = k.toInt.toNat + 1 := by omega
            have hnj := m_nj hk.1
            have hlw : m_LWC f w k.toInt.toNat = true := by unfold m_LWC; rw [hnj, (m_fw_LC hfw_140).mp (by assumption)]; rfl
            exact ih _ _ _ _ _ _ _ _ _ hI hY_this hY_ld hY_ey hY_vw hY_en hY_ed hY_adial hs_ld hs_ey hs_vw hs_en hs_ed hs_adial hA_en hA_ed hA_adial hL (lv_sub hl [0, 1, 2, 4, 5, 6, 7, 8] rfl) (by first | assumption | omega) hok9 (by rw [his, m_wkF_s, ← hbe]; unfold m_wkSt; rw [hnj, ← hcan, hg_z77, hg_z78]; rw [if_pos ⟨by assumption, by first | exact Or.inl (by assumption) | exact Or.inr (by rw [hg_r92, ← hle (by assumption)]; omega), hlw⟩]) (fun _ => (Eq.symm hg_r92)) (by omega)
        · have q100_ : ¬ be.toInt = ((-1) : Int32).toInt := fun q => q100 (Int32.toInt_inj.mp q)
          refine lv_iload hx hb wfq_d103 (lv_at hl 0 rfl) ?_
          refine lv_iload hx hb wfq_d105 (lv_at hl 2 rfl) ?_
          refine lv_icmp_lt hx hb wfq_d107 (tgt := 113) (by decide) (fun q107 => ?_) (fun q107 => ?_)
          · have q107_ : r92.toInt < le.toInt := x_lt32.mp q107
            refine lv_aload_n hx hb wfq_d113 rfl (lv_at hl 4 rfl) ?_
            refine y_getf X (fl102 X.2.2.2.2.1) hI.1 hY_this rfl hs_ey wfq_d114 ?_
            refine lv_aload_n hx hb wfq_d117 rfl (lv_at hl 4 rfl) ?_
            refine y_getf X (fl8 X.2.2.2.2.1) hI.1 hY_this rfl hs_ld wfq_d118 ?_
            refine lv_aload_n hx hb wfq_d121 rfl (lv_at hl 4 rfl) ?_
            refine y_getf X (fl8 X.2.2.2.2.1) hI.1 hY_this rfl hs_ld wfq_d122 ?_
            refine y_getf X (fl58 X.2.2.2.2.1) hI.1 hY_ld rfl hs_adial wfq_d125 ?_
            refine lv_iconst hx hb wfq_d128 (v := 1) (by decide) ?_
            have ec1 : (1 : Int32).toInt = 1 := by decide
            refine y_iald X hI.1 hY_adial rfl hA_adial (by omega) (by show _ < (4 : Int); omega) wfq_d129 ?_
            obtain ⟨e129, hg_e129⟩ : ∃ e129 : Int32, f (4 + 1 * (1 : Int32).toInt.toNat) = e129 := ⟨_, rfl⟩
            rw [hg_e129]
            refine lv_iload hx hb wfq_d130 (lv_at hl 1 rfl) ?_
            have hm9 : e129 = f 5 := (Eq.symm hg_e129)
            subst hm9
            refine y_call (z := (0, 204, 4, some 6, xM51)) (av := [.ref ey, .ref ld, .int (f 5), .int k]) (rest := []) (y_cokV (n := 3) (ci := 0) X ym_veil rfl rfl rfl (x_cons (x_bw32 11 rfl rfl) (x_cons (x_bw32 12 rfl rfl) (x_cons (x_bw32 13 rfl rfl) (x_cons (x_bw0 6 rfl rfl) x_nilm)))) (x_bw32 14 rfl rfl) (by decide +kernel) ⟨Nat.le_of_ble_eq_true rfl, Nat.le_of_ble_eq_true rfl⟩) hY0 hI rfl wfq_d132 hl.1 (Nat.le_of_ble_eq_true rfl) (Nat.le_of_ble_eq_true rfl) (Nat.le_of_ble_eq_true rfl) (y_cons (y_cref hY_ey rfl) (y_cons (y_cref hY_ld rfl) (y_cons ⟨_, rfl, x_i32 _⟩ (y_cons ⟨_, rfl, x_i32 _⟩ y_nil)))) rfl (y_recv rfl hY_ey) (fun t' h1 => by cases h1; exact ⟨_, hL⟩) (y_sub_ef rfl) fun v Yn o Hn L ho hr ha hIn hx_ hE hP => ?_
            have hPv := hP _ _ _ _ _ _ _ _ _ _ rfl hs_vw hs_en hs_ed hL hA_en hA_ed
            replace hs_ld := y_Efld hE hY_this rfl (by decide) (by decide) hs_ld
            replace hs_ey := y_Efld hE hY_this rfl (by decide) (by decide) hs_ey
            replace hs_vw := y_Efld hE hY_ey rfl (by decide) (by decide) hs_vw
            replace hs_en := y_Efld hE hY_ey rfl (by decide) (by decide) hs_en
            replace hs_ed := y_Efld hE hY_ey rfl (by decide) (by decide) hs_ed
            replace hs_adial := y_Efld hE hY_ld rfl (by decide) (by decide) hs_adial
            replace hA_en := hA_en.kept (y_Earr hE hY_en rfl (by decide))
            replace hA_ed := hA_ed.kept (y_Earr hE hY_ed rfl (by decide))
            replace hA_adial := hA_adial.kept (y_Earr hE hY_adial rfl (by decide))
            replace hL := hL.E hY_ld hE (fun q u h => y_ext hx_ hI.1 h) (by decide +kernel)
            replace hY_this := y_ext hx_ hI.1 hY_this
            replace hY_ld := y_ext hx_ hI.1 hY_ld
            replace hY_ey := y_ext hx_ hI.1 hY_ey
            replace hY_vw := y_ext hx_ hI.1 hY_vw
            replace hY_en := y_ext hx_ hI.1 hY_en
            replace hY_ed := y_ext hx_ hI.1 hY_ed
            replace hY_adial := y_ext hx_ hI.1 hY_adial
            obtain rfl := y_ansV rfl ho hr
            have hA_vw : y_A vw 10 Hn (m_VC f (f 4) (f 5) k) := z_cpA hPv (fun i hi => (m_vw_congr fun p q h8 h9 => by rw [m_vk_ok (hok9 p q h8 (by omega))]).symm)
            clear ho hr ha hE hP hI hx_
            rename x_I _ _ _ _ _ _ _ _ _ _ => hI
            refine lv_aload_n hx hb wfq_d135 rfl (lv_at hl 4 rfl) ?_
            refine y_getf X (fl102 X.2.2.2.2.1) hI.1 hY_this rfl hs_ey wfq_d136 ?_
            refine lv_iload_n hx hb wfq_d139 rfl (lv_at hl 5 rfl) ?_
            refine y_call (z := (0, 172, 2, some 6, xM72)) (av := [.ref ey, .int w]) (rest := []) (y_cokV (n := 1) (ci := 0) X ym_firstWrong rfl rfl rfl (x_cons (x_bw42 10 rfl rfl) (x_cons (x_bw42 11 rfl rfl) (x_cons (x_bw42 12 rfl rfl) (x_cons (x_bw0 6 rfl rfl) x_nilm)))) (x_bw42 13 rfl rfl) (by decide +kernel) ⟨Nat.le_of_ble_eq_true rfl, Nat.le_of_ble_eq_true rfl⟩) hY0 hI rfl wfq_d140 hl.1 (Nat.le_of_ble_eq_true rfl) (Nat.le_of_ble_eq_true rfl) (Nat.le_of_ble_eq_true rfl) (y_cons (y_cref hY_ey rfl) (y_cons ⟨_, rfl, x_i32 _⟩ y_nil)) rfl (y_recv rfl hY_ey) trivial (y_sub_ef rfl) fun v Yn o Hn L ho hr ha hIn hx_ hE hP => ?_
            have hPw := hP _ _ _ _ rfl hs_vw hA_vw
            replace hs_ld := y_Efld hE hY_this rfl (by decide) (by decide) hs_ld
            replace hs_ey := y_Efld hE hY_this rfl (by decide) (by decide) hs_ey
            replace hs_vw := y_Efld hE hY_ey rfl (by decide) (by decide) hs_vw
            replace hs_en := y_Efld hE hY_ey rfl (by decide) (by decide) hs_en
            replace hs_ed := y_Efld hE hY_ey rfl (by decide) (by decide) hs_ed
            replace hs_adial := y_Efld hE hY_ld rfl (by decide) (by decide) hs_adial
            replace hA_en := hA_en.kept (y_Earr hE hY_en rfl (by decide))
            replace hA_ed := hA_ed.kept (y_Earr hE hY_ed rfl (by decide))
            replace hA_adial := hA_adial.kept (y_Earr hE hY_adial rfl (by decide))
            replace hA_vw := hA_vw.kept (y_Earr hE hY_vw rfl (by decide))
            replace hL := hL.E hY_ld hE (fun q u h => y_ext hx_ hI.1 h) (by decide +kernel)
            replace hY_this := y_ext hx_ hI.1 hY_this
            replace hY_ld := y_ext hx_ hI.1 hY_ld
            replace hY_ey := y_ext hx_ hI.1 hY_ey
            replace hY_vw := y_ext hx_ hI.1 hY_vw
            replace hY_en := y_ext hx_ hI.1 hY_en
            replace hY_ed := y_ext hx_ hI.1 hY_ed
            replace hY_adial := y_ext hx_ hI.1 hY_adial
            obtain ⟨r140, rfl, hfw_140⟩ := hPw
            clear ho hr ha hE hP hI hx_
            rename x_I _ _ _ _ _ _ _ _ _ _ => hI
            refine lv_iconst hx hb wfq_d143 (v := (-1)) (by decide) ?_
            refine lv_icmp_ne hx hb wfq_d144 (tgt := 155) (by decide) (fun q144 => ?_) (fun q144 => ?_)
            · have q144_ : ¬ r140.toInt = ((-1) : Int32).toInt := fun q => q144 (Int32.toInt_inj.mp q)
              obtain ⟨z155, hg_z155⟩ : ∃ z155 : Int32, k + Int32.ofInt 1 = z155 := ⟨_, rfl⟩
              have h_z155 : z155.toInt = k.toInt + 1 := by rw [← hg_z155]; exact y_inc (by decide) (by omega) (by omega)
              refine lv_iinc hx hb wfq_d155 hl (k := 1) rfl hg_z155 (by decide) (lv' := [(7, .int z155), (8, .int r92), (6, .int le), (5, .int be), (0, .ref this), (1, .int w), (2, .int t), (3, .int cs), (4, .int can)]) rfl fun ls hl => ?_
              refine lv_goto hx hb wfq_d158 (tgt := 65) (by decide) ?_
              have his : z155.toInt.toNat = k.toInt.toNat + 1 := by omega
              have hnj := m_nj hk.1
              exact ih _ _ _ _ _ _ _ _ _ hI hY_this hY_ld hY_ey hY_vw hY_en hY_ed hY_adial hs_ld hs_ey hs_vw hs_en hs_ed hs_adial hA_en hA_ed hA_adial hL (lv_sub hl [0, 2, 3, 4, 5, 6, 7, 8] rfl) (by first | assumption | omega) hok9 (by rw [his, m_wkF_s, ← hbe]; unfold m_wkSt; rw [hnj, ← hcan, hg_z77, hg_z78]; first | (rw [if_neg (fun h9 => absurd h9.1 (by assumption))]) | (rw [if_neg (fun h9 => by rcases h9.2.1 with h8 | h8; exact absurd h8 (by assumption); rw [hg_r92, ← hle (by assumption)] at h8; omega)]) | (rw [if_neg (fun h9 => by have h8 := h9.2.2; unfold m_LWC at h8; rw [hnj, Bool.not_eq_true'] at h8; exact absurd ((m_fw_LC hfw_140).mpr h8) (by assumption))])) hle (by omega)
            · have q144_ : r140.toInt = ((-1) : Int32).toInt := by rw [q144]
              refine lv_iload hx hb wfq_d147 (lv_at hl 1 rfl) ?_
              refine lv_istore hx hb wfq_d149 hl (by decide) (lv' := [(5, .int k), (8, .int r92), (7, .int k), (6, .int le), (0, .ref this), (1, .int w), (2, .int t), (3, .int cs), (4, .int can)]) rfl fun ls hl => ?_
              refine lv_iload hx hb wfq_d151 (lv_at hl 1 rfl) ?_
              refine lv_istore hx hb wfq_d153 hl (by decide) (lv' := [(6, .int r92), (5, .int k), (8, .int r92), (7, .int k), (0, .ref this), (1, .int w), (2, .int t), (3, .int cs), (4, .int can)]) rfl fun ls hl => ?_
              obtain ⟨z155, hg_z155⟩ : ∃ z155 : Int32, k + Int32.ofInt 1 = z155 := ⟨_, rfl⟩
              have h_z155 : z155.toInt = k.toInt + 1 := by rw [← hg_z155]; exact y_inc (by decide) (by omega) (by omega)
              refine lv_iinc hx hb wfq_d155 hl (k := 3) rfl hg_z155 (by decide) (lv' := [(7, .int z155), (6, .int r92), (5, .int k), (8, .int r92), (0, .ref this), (1, .int w), (2, .int t), (3, .int cs), (4, .int can)]) rfl fun ls hl => ?_
              refine lv_goto hx hb wfq_d158 (tgt := 65) (by decide) ?_
              have his : z155.toInt.toNat = k.toInt.toNat + 1 := by omega
              have hnj := m_nj hk.1
              have hlw : m_LWC f w k.toInt.toNat = true := by unfold m_LWC; rw [hnj, (m_fw_LC hfw_140).mp (by assumption)]; rfl
              exact ih _ _ _ _ _ _ _ _ _ hI hY_this hY_ld hY_ey hY_vw hY_en hY_ed hY_adial hs_ld hs_ey hs_vw hs_en hs_ed hs_adial hA_en hA_ed hA_adial hL (lv_sub hl [0, 1, 2, 4, 5, 6, 7, 8] rfl) (by first | assumption | omega) hok9 (by rw [his, m_wkF_s, ← hbe]; unfold m_wkSt; rw [hnj, ← hcan, hg_z77, hg_z78]; rw [if_pos ⟨by assumption, by first | exact Or.inl (by assumption) | exact Or.inr (by rw [hg_r92, ← hle (by assumption)]; omega), hlw⟩]) (fun _ => (Eq.symm hg_r92)) (by omega)
          · have q107_ : le.toInt ≤ r92.toInt := Int.not_lt.mp fun q => q107 (x_lt32.mpr q)
            refine lv_goto hx hb wfq_d110 (tgt := 155) (by decide) ?_
            obtain ⟨z155, hg_z155⟩ : ∃ z155 : Int32, k + Int32.ofInt 1 = z155 := ⟨_, rfl⟩
            have h_z155 : z155.toInt = k.toInt + 1 := by rw [← hg_z155]; exact y_inc (by decide) (by omega) (by omega)
            refine lv_iinc hx hb wfq_d155 hl (k := 1) rfl hg_z155 (by decide) (lv' := [(7, .int z155), (8, .int r92), (6, .int le), (5, .int be), (0, .ref this), (1, .int w), (2, .int t), (3, .int cs), (4, .int can)]) rfl fun ls hl => ?_
            refine lv_goto hx hb wfq_d158 (tgt := 65) (by decide) ?_
            have his : z155.toInt.toNat = k.toInt.toNat + 1 := by omega
            have hnj := m_nj hk.1
            exact ih _ _ _ _ _ _ _ _ _ hI hY_this hY_ld hY_ey hY_vw hY_en hY_ed hY_adial hs_ld hs_ey hs_vw hs_en hs_ed hs_adial hA_en hA_ed hA_adial hL (lv_sub hl [0, 2, 3, 4, 5, 6, 7, 8] rfl) (by first | assumption | omega) hok9 (by rw [his, m_wkF_s, ← hbe]; unfold m_wkSt; rw [hnj, ← hcan, hg_z77, hg_z78]; first | (rw [if_neg (fun h9 => absurd h9.1 (by assumption))]) | (rw [if_neg (fun h9 => by rcases h9.2.1 with h8 | h8; exact absurd h8 (by assumption); rw [hg_r92, ← hle (by assumption)] at h8; omega)]) | (rw [if_neg (fun h9 => by have h8 := h9.2.2; unfold m_LWC at h8; rw [hnj, Bool.not_eq_true'] at h8; exact absurd ((m_fw_LC hfw_140).mpr h8) (by assumption))])) hle (by omega)
      · have q79_ : ¬ z78.toInt = (0 : Int32).toInt := fun q => q79 (Int32.toInt_inj.mp q)
        refine lv_goto hx hb wfq_d82 (tgt := 155) (by decide) ?_
        obtain ⟨z155, hg_z155⟩ : ∃ z155 : Int32, k + Int32.ofInt 1 = z155 := ⟨_, rfl⟩
        have h_z155 : z155.toInt = k.toInt + 1 := by rw [← hg_z155]; exact y_inc (by decide) (by omega) (by omega)
        refine lv_iinc hx hb wfq_d155 hl (k := 0) rfl hg_z155 (by decide) (lv' := [(7, .int z155), (6, .int le), (5, .int be), (0, .ref this), (1, .int w), (2, .int t), (3, .int cs), (4, .int can)]) rfl fun ls hl => ?_
        refine lv_goto hx hb wfq_d158 (tgt := 65) (by decide) ?_
        have his : z155.toInt.toNat = k.toInt.toNat + 1 := by omega
        have hnj := m_nj hk.1
        exact ih _ _ _ _ _ _ _ _ _ hI hY_this hY_ld hY_ey hY_vw hY_en hY_ed hY_adial hs_ld hs_ey hs_vw hs_en hs_ed hs_adial hA_en hA_ed hA_adial hL (lv_sub hl [0, 1, 2, 3, 4, 5, 6, 7] rfl) (by first | assumption | omega) hok9 (by rw [his, m_wkF_s, ← hbe]; unfold m_wkSt; rw [hnj, ← hcan, hg_z77, hg_z78]; first | (rw [if_neg (fun h9 => absurd h9.1 (by assumption))]) | (rw [if_neg (fun h9 => by rcases h9.2.1 with h8 | h8; exact absurd h8 (by assumption); rw [hg_r92, ← hle (by assumption)] at h8; omega)]) | (rw [if_neg (fun h9 => by have h8 := h9.2.2; unfold m_LWC at h8; rw [hnj, Bool.not_eq_true'] at h8; exact absurd ((m_fw_LC hfw_140).mpr h8) (by assumption))])) hle (by omega)
theorem ym_TworksFor : y_Met vwCl x_G x_Zs x_Tb x_Nb xM85 z_ATF z_PTwf := by
  refine y_main (by decide +kernel) (by decide +kernel) x_Tb_good x_Nb_ok ?_
  intro p l e s m below meth c D U Y0 av ls B hI hpre hl
  have X := B.1
  have hx := X.1
  have hb := X.2.1
  have hY0 := B.2.2.2.2.1
  obtain ⟨v0, v1, v2, v3, rfl, hv0, ⟨w, rfl, -⟩, ⟨t, rfl, -⟩, ⟨cs, rfl, hcs⟩⟩ := y_four B.2.2.2.2.2
  replace hcs : (0 : Int) ≤ cs.toInt ∧ cs.toInt ≤ 1 := hcs
  obtain ⟨this, t0, rfl, ht0, hY_this⟩ := x_ref_at hv0 rfl
  obtain rfl := List.mem_singleton.mp ht0
  replace hl : lv_has ls xM85.2.2.1 [(0, .ref this), (1, .int w), (2, .int t), (3, .int cs)] := hl
  obtain ⟨f, K, tt, nn, hR0⟩ := hpre _ rfl
  obtain ⟨ld, dr, kp, tx, by_, kk, ⟨hs_ld, -⟩, ⟨hY_ld, -⟩, hL, -⟩ := id hR0
  obtain ⟨ey, hs_ey, hY_ey⟩ := y_fldR (k := 4) hI.1 hY_this rfl rfl
  obtain ⟨vw, hs_vw, hY_vw⟩ := y_fldR (k := 1) hI.1 hY_ey rfl rfl
  obtain ⟨en, hs_en, hY_en⟩ := y_fldR (k := 2) hI.1 hY_ey rfl rfl
  obtain ⟨ed, hs_ed, hY_ed⟩ := y_fldR (k := 3) hI.1 hY_ey rfl rfl
  have hn0 := hL.1.1
  have hn1 := hL.1.2.1
  have hn2 := hL.1.2.2
  have hb0 : 0 ≤ (f 0).toInt ∧ (f 0).toInt ≤ 10 := by obtain ⟨x9, e9, b9⟩ := y_fldI (k := 0) hI.1 hY_ld rfl rfl; rw [hn0] at e9; cases e9; exact b9
  have hb1 : 0 ≤ (f 1).toInt ∧ (f 1).toInt ≤ 8 := by obtain ⟨x9, e9, b9⟩ := y_fldI (k := 6) hI.1 hY_ld rfl rfl; rw [hn1] at e9; cases e9; exact b9
  have hb2 : 0 ≤ (f 2).toInt ∧ (f 2).toInt ≤ 8 := by obtain ⟨x9, e9, b9⟩ := y_fldI (k := 12) hI.1 hY_ld rfl rfl; rw [hn2] at e9; cases e9; exact b9
  obtain ⟨adial, hs_adial, hY_adial, hA_adial⟩ := hL.2.1 (10, 27, 4, 4, 1) (by decide)
  replace hA_adial : y_A adial 4 s.heap (fun j => f (4 + 1 * j)) := hA_adial
  refine lv_aload_n hx hb wfq_d0 rfl (lv_at hl 0 rfl) ?_
  refine y_getf X (fl8 X.2.2.2.2.1) hI.1 hY_this rfl hs_ld wfq_d1 ?_
  refine lv_iload_n hx hb wfq_d4 rfl (lv_at hl 1 rfl) ?_
  refine y_call (z := (0, 169, 2, some 2, xM67)) (av := [.ref ld, .int w]) (rest := []) (y_cokV (n := 1) (ci := 2) X ym_hasSet rfl rfl rfl (x_cons (x_bw42 2 rfl rfl) (x_cons (x_bw42 3 rfl rfl) (x_cons (x_bw42 4 rfl rfl) (x_cons (x_bw0 2 rfl rfl) x_nilm)))) (x_bw42 5 rfl rfl) (by decide +kernel) ⟨Nat.le_of_ble_eq_true rfl, Nat.le_of_ble_eq_true rfl⟩) hY0 hI rfl wfq_d5 hl.1 (Nat.le_of_ble_eq_true rfl) (Nat.le_of_ble_eq_true rfl) (Nat.le_of_ble_eq_true rfl) (y_cons (y_cref hY_ld rfl) (y_cons ⟨_, rfl, x_i32 _⟩ y_nil)) rfl (y_recv rfl hY_ld) trivial (y_sub_ef rfl) fun v Yn o Hn L ho hr ha hIn hx_ hE hP => ?_
  have hPh := hP _ _ _ rfl hn0
  replace hs_ld := y_Efld hE hY_this rfl (by decide) (by decide) hs_ld
  replace hs_ey := y_Efld hE hY_this rfl (by decide) (by decide) hs_ey
  replace hs_vw := y_Efld hE hY_ey rfl (by decide) (by decide) hs_vw
  replace hs_en := y_Efld hE hY_ey rfl (by decide) (by decide) hs_en
  replace hs_ed := y_Efld hE hY_ey rfl (by decide) (by decide) hs_ed
  replace hs_adial := y_Efld hE hY_ld rfl (by decide) (by decide) hs_adial
  replace hn0 := y_Efld hE hY_ld rfl (by decide) (by decide) hn0
  replace hA_adial := hA_adial.kept (y_Earr hE hY_adial rfl (by decide))
  replace hL := hL.E hY_ld hE (fun q u h => y_ext hx_ hI.1 h) (by decide +kernel)
  replace hY_this := y_ext hx_ hI.1 hY_this
  replace hY_ld := y_ext hx_ hI.1 hY_ld
  replace hY_ey := y_ext hx_ hI.1 hY_ey
  replace hY_vw := y_ext hx_ hI.1 hY_vw
  replace hY_en := y_ext hx_ hI.1 hY_en
  replace hY_ed := y_ext hx_ hI.1 hY_ed
  replace hY_adial := y_ext hx_ hI.1 hY_adial
  obtain ⟨r5, rfl, hin_r5, hout_r5⟩ := hPh
  clear ho hr ha hE hP hI hx_
  rename x_I _ _ _ _ _ _ _ _ _ _ => hI
  have ec0 : (0 : Int32).toInt = 0 := by decide
  refine lv_if_eq hx hb wfq_d8 (tgt := 20) (by decide) (fun q8 => ?_) (fun q8 => ?_)
  · have q8_ : r5.toInt = (0 : Int32).toInt := by rw [q8]
    have hno : ¬ (m_isS f w ∧ 0 ≤ t.toInt ∧ t.toInt ≤ 1) := fun q9 => by first | exact hout_r5 (by assumption) q9.1 | (have h9 := hout_r14 (by assumption); omega)
    refine lv_aload_n hx hb wfq_d20 rfl (lv_at hl 0 rfl) ?_
    refine lv_bipush hx hb wfq_d21 (v := (-2)) (by decide) ?_
    have ecm2 : ((-2) : Int32).toInt = (-2) := by decide
    refine y_call (z := (0, 59, 2, some 0, xM8)) (av := [.ref this, .int ((-2) : Int32)]) (rest := []) (y_cokV (n := 1) (ci := 11) X ym_counted rfl rfl rfl (x_cons (x_bw19 7 rfl rfl) (x_cons (x_bw19 9 rfl rfl) (x_cons (x_at 1 (by decide +kernel) rfl) (x_cons (x_bw0 1 rfl rfl) x_nilm)))) (x_bw19 10 rfl rfl) (by decide +kernel) ⟨Nat.le_of_ble_eq_true rfl, Nat.le_of_ble_eq_true rfl⟩) hY0 hI rfl wfq_d23 hl.1 (Nat.le_of_ble_eq_true rfl) (Nat.le_of_ble_eq_true rfl) (Nat.le_of_ble_eq_true rfl) (y_cons (y_cref hY_this rfl) (y_cons ⟨_, rfl, x_i32 _⟩ y_nil)) rfl (y_recv rfl hY_this) trivial (y_sub_ef rfl) fun v Yn o Hn L ho hr ha hIn hx_ hE hP => ?_
    replace hs_ld := y_Efld hE hY_this rfl (by decide) (by decide) hs_ld
    replace hs_ey := y_Efld hE hY_this rfl (by decide) (by decide) hs_ey
    replace hs_vw := y_Efld hE hY_ey rfl (by decide) (by decide) hs_vw
    replace hs_en := y_Efld hE hY_ey rfl (by decide) (by decide) hs_en
    replace hs_ed := y_Efld hE hY_ey rfl (by decide) (by decide) hs_ed
    replace hs_adial := y_Efld hE hY_ld rfl (by decide) (by decide) hs_adial
    replace hn0 := y_Efld hE hY_ld rfl (by decide) (by decide) hn0
    replace hA_adial := hA_adial.kept (y_Earr hE hY_adial rfl (by decide))
    replace hL := hL.E hY_ld hE (fun q u h => y_ext hx_ hI.1 h) (by decide +kernel)
    replace hY_this := y_ext hx_ hI.1 hY_this
    replace hY_ld := y_ext hx_ hI.1 hY_ld
    replace hY_ey := y_ext hx_ hI.1 hY_ey
    replace hY_vw := y_ext hx_ hI.1 hY_vw
    replace hY_en := y_ext hx_ hI.1 hY_en
    replace hY_ed := y_ext hx_ hI.1 hY_ed
    replace hY_adial := y_ext hx_ hI.1 hY_adial
    obtain rfl := hP _ _ rfl
    clear ho hr ha hE hP hI hx_
    rename x_I _ _ _ _ _ _ _ _ _ _ => hI
    exact y_ireturn B hI rfl rfl rfl List.mem_cons_self ⟨_, rfl, ⟨_, rfl, x_i32 _⟩⟩ (x_cs.mono B.2.2.2.2.2 (y_mon B hI)) (fun t' w0' w1' w2' f' K' tt' nn' h1 h2 => by cases h1; obtain ⟨ef, -⟩ := hR0.eqs h2; subst ef; exact ⟨_, rfl, fun q9 => absurd q9 hno, fun _ => rfl⟩) (Nat.le_refl _) (Nat.le_refl _) wfq_d26
  · have q8_ : ¬ r5.toInt = (0 : Int32).toInt := fun q => q8 (Int32.toInt_inj.mp q)
    refine lv_iload_n hx hb wfq_d11 rfl (lv_at hl 2 rfl) ?_
    refine lv_iconst hx hb wfq_d12 (v := 0) (by decide) ?_
    refine lv_iconst hx hb wfq_d13 (v := 1) (by decide) ?_
    have ec1 : (1 : Int32).toInt = 1 := by decide
    refine y_call (z := (1, 88, 3, none, xM10)) (av := [.int t, .int (0 : Int32), .int (1 : Int32)]) (rest := []) (y_cokS (n := 3) X ym_within (x_cons (x_bw19 15 rfl rfl) (x_cons (x_bw19 1 rfl rfl) (x_cons (x_bw0 1 rfl rfl) x_nilm))) (x_bw19 2 rfl rfl) (by decide +kernel) ⟨Nat.le_of_ble_eq_true rfl, Nat.le_of_ble_eq_true rfl⟩) hY0 hI rfl wfq_d14 hl.1 (Nat.le_of_ble_eq_true rfl) (Nat.le_of_ble_eq_true rfl) (Nat.le_of_ble_eq_true rfl) (y_cons ⟨_, rfl, x_i32 _⟩ (y_cons ⟨_, rfl, x_i32 _⟩ (y_cons ⟨_, rfl, x_i32 _⟩ y_nil))) rfl (y_norecv rfl) trivial (y_sub_ef rfl) fun v Yn o Hn L ho hr ha hIn hx_ hE hP => ?_
    replace hs_ld := y_Efld hE hY_this rfl (by decide) (by decide) hs_ld
    replace hs_ey := y_Efld hE hY_this rfl (by decide) (by decide) hs_ey
    replace hs_vw := y_Efld hE hY_ey rfl (by decide) (by decide) hs_vw
    replace hs_en := y_Efld hE hY_ey rfl (by decide) (by decide) hs_en
    replace hs_ed := y_Efld hE hY_ey rfl (by decide) (by decide) hs_ed
    replace hs_adial := y_Efld hE hY_ld rfl (by decide) (by decide) hs_adial
    replace hn0 := y_Efld hE hY_ld rfl (by decide) (by decide) hn0
    replace hA_adial := hA_adial.kept (y_Earr hE hY_adial rfl (by decide))
    replace hL := hL.E hY_ld hE (fun q u h => y_ext hx_ hI.1 h) (by decide +kernel)
    replace hY_this := y_ext hx_ hI.1 hY_this
    replace hY_ld := y_ext hx_ hI.1 hY_ld
    replace hY_ey := y_ext hx_ hI.1 hY_ey
    replace hY_vw := y_ext hx_ hI.1 hY_vw
    replace hY_en := y_ext hx_ hI.1 hY_en
    replace hY_ed := y_ext hx_ hI.1 hY_ed
    replace hY_adial := y_ext hx_ hI.1 hY_adial
    obtain ⟨r14, rfl, hin_r14, hout_r14⟩ := hP _ _ _ rfl
    clear ho hr ha hE hP hI hx_
    rename x_I _ _ _ _ _ _ _ _ _ _ => hI
    refine lv_if_ne hx hb wfq_d17 (tgt := 27) (by decide) (fun q17 => ?_) (fun q17 => ?_)
    · have q17_ : ¬ r14.toInt = (0 : Int32).toInt := fun q => q17 (Int32.toInt_inj.mp q)
      have hw9 := hin_r14 (by assumption)
      have hok : m_isS f w ∧ 0 ≤ t.toInt ∧ t.toInt ≤ 1 := ⟨hin_r5 (by assumption), by omega, by omega⟩
      refine lv_aload_n hx hb wfq_d27 rfl (lv_at hl 0 rfl) ?_
      refine y_getf X (fl102 X.2.2.2.2.1) hI.1 hY_this rfl hs_ey wfq_d28 ?_
      refine lv_aload_n hx hb wfq_d31 rfl (lv_at hl 0 rfl) ?_
      refine y_getf X (fl8 X.2.2.2.2.1) hI.1 hY_this rfl hs_ld wfq_d32 ?_
      refine lv_aload_n hx hb wfq_d35 rfl (lv_at hl 0 rfl) ?_
      refine y_getf X (fl8 X.2.2.2.2.1) hI.1 hY_this rfl hs_ld wfq_d36 ?_
      refine y_getf X (fl58 X.2.2.2.2.1) hI.1 hY_ld rfl hs_adial wfq_d39 ?_
      refine lv_iconst hx hb wfq_d42 (v := 0) (by decide) ?_
      refine y_iald X hI.1 hY_adial rfl hA_adial (by omega) (by show _ < (4 : Int); omega) wfq_d43 ?_
      obtain ⟨e43, hg_e43⟩ : ∃ e43 : Int32, f (4 + 1 * (0 : Int32).toInt.toNat) = e43 := ⟨_, rfl⟩
      rw [hg_e43]
      have hy9 : e43 = f 4 := (Eq.symm hg_e43)
      subst hy9
      refine y_call (z := (0, 200, 3, some 6, xM49)) (av := [.ref ey, .ref ld, .int (f 4)]) (rest := []) (y_cokV (n := 2) (ci := 0) X ym_gatherE rfl rfl rfl (x_cons (x_bw30 0 rfl rfl) (x_cons (x_bw30 1 rfl rfl) (x_cons (x_bw30 2 rfl rfl) (x_cons (x_bw0 6 rfl rfl) x_nilm)))) (x_bw30 3 rfl rfl) (by decide +kernel) ⟨Nat.le_of_ble_eq_true rfl, Nat.le_of_ble_eq_true rfl⟩) hY0 hI rfl wfq_d44 hl.1 (Nat.le_of_ble_eq_true rfl) (Nat.le_of_ble_eq_true rfl) (Nat.le_of_ble_eq_true rfl) (y_cons (y_cref hY_ey rfl) (y_cons (y_cref hY_ld rfl) (y_cons ⟨_, rfl, x_i32 _⟩ y_nil))) rfl (y_recv rfl hY_ey) (fun t' h1 => by cases h1; exact ⟨_, hL⟩) (y_sub_ef rfl) fun v Yn o Hn L ho hr ha hIn hx_ hE hP => ?_
      have hPg := hP _ _ _ _ _ _ rfl hs_en hs_ed hL
      replace hs_ld := y_Efld hE hY_this rfl (by decide) (by decide) hs_ld
      replace hs_ey := y_Efld hE hY_this rfl (by decide) (by decide) hs_ey
      replace hs_vw := y_Efld hE hY_ey rfl (by decide) (by decide) hs_vw
      replace hs_en := y_Efld hE hY_ey rfl (by decide) (by decide) hs_en
      replace hs_ed := y_Efld hE hY_ey rfl (by decide) (by decide) hs_ed
      replace hs_adial := y_Efld hE hY_ld rfl (by decide) (by decide) hs_adial
      replace hn0 := y_Efld hE hY_ld rfl (by decide) (by decide) hn0
      replace hA_adial := hA_adial.kept (y_Earr hE hY_adial rfl (by decide))
      replace hL := hL.E hY_ld hE (fun q u h => y_ext hx_ hI.1 h) (by decide +kernel)
      replace hY_this := y_ext hx_ hI.1 hY_this
      replace hY_ld := y_ext hx_ hI.1 hY_ld
      replace hY_ey := y_ext hx_ hI.1 hY_ey
      replace hY_vw := y_ext hx_ hI.1 hY_vw
      replace hY_en := y_ext hx_ hI.1 hY_en
      replace hY_ed := y_ext hx_ hI.1 hY_ed
      replace hY_adial := y_ext hx_ hI.1 hY_adial
      obtain rfl := y_ansV rfl ho hr
      obtain ⟨fn, fd, hA_en, hA_ed, hok9⟩ := hPg
      have hd09 : True := trivial
      clear ho hr ha hE hP hI hx_
      rename x_I _ _ _ _ _ _ _ _ _ _ => hI
      refine lv_aload_n hx hb wfq_d47 rfl (lv_at hl 0 rfl) ?_
      refine y_getf X (fl8 X.2.2.2.2.1) hI.1 hY_this rfl hs_ld wfq_d48 ?_
      refine y_call (z := (0, 320, 1, some 2, xM83)) (av := [.ref ld]) (rest := []) (y_cokV (n := 0) (ci := 2) X ym_workable rfl rfl rfl (x_cons (x_bw46 12 rfl rfl) (x_cons (x_bw46 13 rfl rfl) (x_cons (x_bw46 14 rfl rfl) (x_cons (x_bw0 2 rfl rfl) x_nilm)))) (x_bw46 15 rfl rfl) (by decide +kernel) ⟨Nat.le_of_ble_eq_true rfl, Nat.le_of_ble_eq_true rfl⟩) hY0 hI rfl wfq_d51 hl.1 (Nat.le_of_ble_eq_true rfl) (Nat.le_of_ble_eq_true rfl) (Nat.le_of_ble_eq_true rfl) (y_cons (y_cref hY_ld rfl) y_nil) rfl (y_recv rfl hY_ld) (fun t' h1 => by cases h1; exact ⟨_, hL⟩) (y_sub_ef rfl) fun v Yn o Hn L ho hr ha hIn hx_ hE hP => ?_
      have hPw := hP _ _ rfl hL
      obtain rfl := hPw
      replace hs_ld := y_Efld hE hY_this rfl (by decide) (by decide) hs_ld
      replace hs_ey := y_Efld hE hY_this rfl (by decide) (by decide) hs_ey
      replace hs_vw := y_Efld hE hY_ey rfl (by decide) (by decide) hs_vw
      replace hs_en := y_Efld hE hY_ey rfl (by decide) (by decide) hs_en
      replace hs_ed := y_Efld hE hY_ey rfl (by decide) (by decide) hs_ed
      replace hs_adial := y_Efld hE hY_ld rfl (by decide) (by decide) hs_adial
      replace hn0 := y_Efld hE hY_ld rfl (by decide) (by decide) hn0
      replace hA_adial := hA_adial.kept (y_Earr hE hY_adial rfl (by decide))
      replace hA_en := hA_en.kept (y_Earr hE hY_en rfl (by decide))
      replace hA_ed := hA_ed.kept (y_Earr hE hY_ed rfl (by decide))
      replace hL := hL.E hY_ld hE (fun q u h => y_ext hx_ hI.1 h) (by decide +kernel)
      replace hY_this := y_ext hx_ hI.1 hY_this
      replace hY_ld := y_ext hx_ hI.1 hY_ld
      replace hY_ey := y_ext hx_ hI.1 hY_ey
      replace hY_vw := y_ext hx_ hI.1 hY_vw
      replace hY_en := y_ext hx_ hI.1 hY_en
      replace hY_ed := y_ext hx_ hI.1 hY_ed
      replace hY_adial := y_ext hx_ hI.1 hY_adial
      generalize hg_r51 : m_can f = r51
      clear ho hr ha hE hP hI hx_
      rename x_I _ _ _ _ _ _ _ _ _ _ => hI
      refine lv_istore hx hb wfq_d54 hl (by decide) (lv' := [(4, .int r51), (0, .ref this), (1, .int w), (2, .int t), (3, .int cs)]) rfl fun ls hl => ?_
      refine lv_iconst hx hb wfq_d56 (v := (-1)) (by decide) ?_
      have ecm1 : ((-1) : Int32).toInt = (-1) := by decide
      refine lv_istore hx hb wfq_d57 hl (by decide) (lv' := [(5, .int ((-1) : Int32)), (4, .int r51), (0, .ref this), (1, .int w), (2, .int t), (3, .int cs)]) rfl fun ls hl => ?_
      refine lv_iconst hx hb wfq_d59 (v := 0) (by decide) ?_
      refine lv_istore hx hb wfq_d60 hl (by decide) (lv' := [(6, .int (0 : Int32)), (5, .int ((-1) : Int32)), (4, .int r51), (0, .ref this), (1, .int w), (2, .int t), (3, .int cs)]) rfl fun ls hl => ?_
      refine lv_iconst hx hb wfq_d62 (v := 0) (by decide) ?_
      refine lv_istore hx hb wfq_d63 hl (by decide) (lv' := [(7, .int (0 : Int32)), (6, .int (0 : Int32)), (5, .int ((-1) : Int32)), (4, .int r51), (0, .ref this), (1, .int w), (2, .int t), (3, .int cs)]) rfl fun ls hl => ?_
      have hcb := m_can_b hb1
      rw [hg_r51] at hcb
      exact wfq_L65 B rfl hR0 hb0 hb1 hcs hok (Eq.symm hg_r51) 258 _ _ _ _ _ _ _ _ _ hI hY_this hY_ld hY_ey hY_vw hY_en hY_ed hY_adial hs_ld hs_ey hs_vw hs_en hs_ed hs_adial hA_en hA_ed hA_adial hL (lv_sub hl [0, 1, 2, 4, 5, 6, 7, 3] rfl) (by first | assumption | omega) hok9 (by rw [z_i0]; rfl) (fun q9 => absurd rfl q9) (by omega)
    · have q17_ : r14.toInt = (0 : Int32).toInt := by rw [q17]
      have hno : ¬ (m_isS f w ∧ 0 ≤ t.toInt ∧ t.toInt ≤ 1) := fun q9 => by first | exact hout_r5 (by assumption) q9.1 | (have h9 := hout_r14 (by assumption); omega)
      refine lv_aload_n hx hb wfq_d20 rfl (lv_at hl 0 rfl) ?_
      refine lv_bipush hx hb wfq_d21 (v := (-2)) (by decide) ?_
      have ecm2 : ((-2) : Int32).toInt = (-2) := by decide
      refine y_call (z := (0, 59, 2, some 0, xM8)) (av := [.ref this, .int ((-2) : Int32)]) (rest := []) (y_cokV (n := 1) (ci := 11) X ym_counted rfl rfl rfl (x_cons (x_bw19 7 rfl rfl) (x_cons (x_bw19 9 rfl rfl) (x_cons (x_at 1 (by decide +kernel) rfl) (x_cons (x_bw0 1 rfl rfl) x_nilm)))) (x_bw19 10 rfl rfl) (by decide +kernel) ⟨Nat.le_of_ble_eq_true rfl, Nat.le_of_ble_eq_true rfl⟩) hY0 hI rfl wfq_d23 hl.1 (Nat.le_of_ble_eq_true rfl) (Nat.le_of_ble_eq_true rfl) (Nat.le_of_ble_eq_true rfl) (y_cons (y_cref hY_this rfl) (y_cons ⟨_, rfl, x_i32 _⟩ y_nil)) rfl (y_recv rfl hY_this) trivial (y_sub_ef rfl) fun v Yn o Hn L ho hr ha hIn hx_ hE hP => ?_
      replace hs_ld := y_Efld hE hY_this rfl (by decide) (by decide) hs_ld
      replace hs_ey := y_Efld hE hY_this rfl (by decide) (by decide) hs_ey
      replace hs_vw := y_Efld hE hY_ey rfl (by decide) (by decide) hs_vw
      replace hs_en := y_Efld hE hY_ey rfl (by decide) (by decide) hs_en
      replace hs_ed := y_Efld hE hY_ey rfl (by decide) (by decide) hs_ed
      replace hs_adial := y_Efld hE hY_ld rfl (by decide) (by decide) hs_adial
      replace hn0 := y_Efld hE hY_ld rfl (by decide) (by decide) hn0
      replace hA_adial := hA_adial.kept (y_Earr hE hY_adial rfl (by decide))
      replace hL := hL.E hY_ld hE (fun q u h => y_ext hx_ hI.1 h) (by decide +kernel)
      replace hY_this := y_ext hx_ hI.1 hY_this
      replace hY_ld := y_ext hx_ hI.1 hY_ld
      replace hY_ey := y_ext hx_ hI.1 hY_ey
      replace hY_vw := y_ext hx_ hI.1 hY_vw
      replace hY_en := y_ext hx_ hI.1 hY_en
      replace hY_ed := y_ext hx_ hI.1 hY_ed
      replace hY_adial := y_ext hx_ hI.1 hY_adial
      obtain rfl := hP _ _ rfl
      clear ho hr ha hE hP hI hx_
      rename x_I _ _ _ _ _ _ _ _ _ _ => hI
      exact y_ireturn B hI rfl rfl rfl List.mem_cons_self ⟨_, rfl, ⟨_, rfl, x_i32 _⟩⟩ (x_cs.mono B.2.2.2.2.2 (y_mon B hI)) (fun t' w0' w1' w2' f' K' tt' nn' h1 h2 => by cases h1; obtain ⟨ef, -⟩ := hR0.eqs h2; subst ef; exact ⟨_, rfl, fun q9 => absurd q9 hno, fun _ => rfl⟩) (Nat.le_refl _) (Nat.le_refl _) wfq_d26
def z_PTch9 : yP := fun D av Y H v _ _ => ∀ (this : Nat) (w t : Int32) (f : Nat → Int32) (K : Nat → Option (Nat → Int32)) (t9 : Nat → Int32) (n9 : Int32), av = [.ref this, .int w, .int t] → z_RC D Y H this f K t9 n9 → ∃ r : Int32, v = some (.int r) ∧ m_wk f 1 (m_LWC f w) w t r
theorem chq9_d0 : decode xM87.2.1 0 = .ok (.aload_n 0, 1) := dz_ok (by decide +kernel)
theorem chq9_d1 : decode xM87.2.1 1 = .ok (.iload_n 1, 1) := dz_ok (by decide +kernel)
theorem chq9_d2 : decode xM87.2.1 2 = .ok (.iload_n 2, 1) := dz_ok (by decide +kernel)
theorem chq9_d3 : decode xM87.2.1 3 = .ok (.iconst 1, 1) := dz_ok (by decide +kernel)
theorem chq9_d4 : decode xM87.2.1 4 = .ok (.invokevirtual 213, 3) := dz_ok (by decide +kernel)
theorem chq9_d7 : decode xM87.2.1 7 = .ok (.ireturn, 1) := dz_ok (by decide +kernel)
theorem ym_Tcheapest : y_Met vwCl x_G x_Zs x_Tb x_Nb xM87 z_ATF z_PTch9 := by
  refine y_main (by decide +kernel) (by decide +kernel) x_Tb_good x_Nb_ok ?_
  intro p l e s m below meth c D U Y0 av ls B hI hpre hl
  have X := B.1
  have hx := X.1
  have hb := X.2.1
  have hY0 := B.2.2.2.2.1
  obtain ⟨v0, v1, v2, rfl, hv0, ⟨w, rfl, -⟩, ⟨t, rfl, -⟩⟩ := y_three B.2.2.2.2.2
  obtain ⟨this, t0, rfl, ht0, hY_this⟩ := x_ref_at hv0 rfl
  obtain rfl := List.mem_singleton.mp ht0
  replace hl : lv_has ls xM87.2.2.1 [(0, .ref this), (1, .int w), (2, .int t)] := hl
  obtain ⟨f, K, tt, nn, hR0⟩ := hpre _ rfl
  refine lv_aload_n hx hb chq9_d0 rfl (lv_at hl 0 rfl) ?_
  refine lv_iload_n hx hb chq9_d1 rfl (lv_at hl 1 rfl) ?_
  refine lv_iload_n hx hb chq9_d2 rfl (lv_at hl 2 rfl) ?_
  refine lv_iconst hx hb chq9_d3 (v := 1) (by decide) ?_
  have ec1 : (1 : Int32).toInt = 1 := by decide
  refine y_call (z := (0, 213, 4, some 0, xM85)) (av := [.ref this, .int w, .int t, .int (1 : Int32)]) (rest := []) (y_cokV (n := 3) (ci := 11) X ym_TworksFor rfl rfl rfl (x_cons (x_bw46 8 rfl rfl) (x_cons (x_bw46 10 rfl rfl) (x_cons (x_at 15 (by decide +kernel) rfl) (x_cons (x_bw0 1 rfl rfl) x_nilm)))) (x_bw46 11 rfl rfl) (by decide +kernel) ⟨Nat.le_of_ble_eq_true rfl, Nat.le_of_ble_eq_true rfl⟩) hY0 hI rfl chq9_d4 hl.1 (Nat.le_of_ble_eq_true rfl) (Nat.le_of_ble_eq_true rfl) (Nat.le_of_ble_eq_true rfl) (y_cons (y_cref hY_this rfl) (y_cons ⟨_, rfl, x_i32 _⟩ (y_cons ⟨_, rfl, x_i32 _⟩ (y_cons ⟨_, rfl, by show (0 : Int) ≤ _; omega, by show _ ≤ (1 : Int); omega⟩ y_nil)))) rfl (y_recv rfl hY_this) (fun t' h1 => by cases h1; exact ⟨_, _, _, _, hR0⟩) (y_sub_ef rfl) fun v Yn o Hn L ho hr ha hIn hx_ hE hP => ?_
  obtain ⟨r4, rfl, hwk⟩ := hP _ _ _ _ _ _ _ _ rfl hR0
  replace hY_this := y_ext hx_ hI.1 hY_this
  clear ho hr ha hE hP hI hx_
  rename x_I _ _ _ _ _ _ _ _ _ _ => hI
  exact y_ireturn B hI rfl rfl rfl List.mem_cons_self ⟨_, rfl, ⟨_, rfl, x_i32 _⟩⟩ (x_cs.mono B.2.2.2.2.2 (y_mon B hI)) (fun t' w0' w1' f' K' tt' nn' h1 h2 => by cases h1; obtain ⟨ef, -⟩ := hR0.eqs h2; subst ef; exact ⟨_, rfl, hwk⟩) (Nat.le_refl _) (Nat.le_refl _) chq9_d7

