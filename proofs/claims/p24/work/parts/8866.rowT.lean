def z_Pwi : yP := fun D av _ H v _ _ => ∀ (this sr hr : Nat) (nq fo : Int32) (fr F : Nat → Int32), av = [.ref this, .int nq] → x_sl D 5 0 this H = some (.ref sr) → x_sl D 5 1 this H = some (.int fo) → y_A sr 1024 H fr → x_sl D 5 2 this H = some (.ref hr) → y_A hr 1024 H F → ∀ (L : Nat → Bool) (N : Nat), m_W L N fo fr → v = some (.int (m_fd L (m_wiSt F nq) 0 N))
theorem wiq_d0 : decode xM99.2.1 0 = .ok (.iconst 0, 1) := dz_ok (by decide +kernel)
theorem wiq_d1 : decode xM99.2.1 1 = .ok (.istore_n 2, 1) := dz_ok (by decide +kernel)
theorem wiq_d2 : decode xM99.2.1 2 = .ok (.iconst 0, 1) := dz_ok (by decide +kernel)
theorem wiq_d3 : decode xM99.2.1 3 = .ok (.istore_n 3, 1) := dz_ok (by decide +kernel)
theorem wiq_d4 : decode xM99.2.1 4 = .ok (.iload_n 3, 1) := dz_ok (by decide +kernel)
theorem wiq_d5 : decode xM99.2.1 5 = .ok (.aload_n 0, 1) := dz_ok (by decide +kernel)
theorem wiq_d6 : decode xM99.2.1 6 = .ok (.getfield 27, 3) := dz_ok (by decide +kernel)
theorem wiq_d9 : decode xM99.2.1 9 = .ok (.if_icmp .ge 36, 3) := dz_ok (by decide +kernel)
theorem wiq_d12 : decode xM99.2.1 12 = .ok (.iload_n 2, 1) := dz_ok (by decide +kernel)
theorem wiq_d13 : decode xM99.2.1 13 = .ok (.aload_n 0, 1) := dz_ok (by decide +kernel)
theorem wiq_d14 : decode xM99.2.1 14 = .ok (.getfield 15, 3) := dz_ok (by decide +kernel)
theorem wiq_d17 : decode xM99.2.1 17 = .ok (.aload_n 0, 1) := dz_ok (by decide +kernel)
theorem wiq_d18 : decode xM99.2.1 18 = .ok (.getfield 9, 3) := dz_ok (by decide +kernel)
theorem wiq_d21 : decode xM99.2.1 21 = .ok (.iload_n 3, 1) := dz_ok (by decide +kernel)
theorem wiq_d22 : decode xM99.2.1 22 = .ok (.iaload, 1) := dz_ok (by decide +kernel)
theorem wiq_d23 : decode xM99.2.1 23 = .ok (.iaload, 1) := dz_ok (by decide +kernel)
theorem wiq_d24 : decode xM99.2.1 24 = .ok (.iconst 0, 1) := dz_ok (by decide +kernel)
theorem wiq_d25 : decode xM99.2.1 25 = .ok (.iload_n 1, 1) := dz_ok (by decide +kernel)
theorem wiq_d26 : decode xM99.2.1 26 = .ok (.invokestatic 59, 3) := dz_ok (by decide +kernel)
theorem wiq_d29 : decode xM99.2.1 29 = .ok (.ifCond .eq 7, 3) := dz_ok (by decide +kernel)
theorem wiq_d32 : decode xM99.2.1 32 = .ok (.iconst 1, 1) := dz_ok (by decide +kernel)
theorem wiq_d33 : decode xM99.2.1 33 = .ok (.goto 4, 3) := dz_ok (by decide +kernel)
theorem wiq_d36 : decode xM99.2.1 36 = .ok (.iconst 0, 1) := dz_ok (by decide +kernel)
theorem wiq_d37 : decode xM99.2.1 37 = .ok (.iadd, 1) := dz_ok (by decide +kernel)
theorem wiq_d38 : decode xM99.2.1 38 = .ok (.istore_n 2, 1) := dz_ok (by decide +kernel)
theorem wiq_d39 : decode xM99.2.1 39 = .ok (.iinc 3 1, 3) := dz_ok (by decide +kernel)
theorem wiq_d42 : decode xM99.2.1 42 = .ok (.goto (-38), 3) := dz_ok (by decide +kernel)
theorem wiq_d45 : decode xM99.2.1 45 = .ok (.iload_n 2, 1) := dz_ok (by decide +kernel)
theorem wiq_d46 : decode xM99.2.1 46 = .ok (.ireturn, 1) := dz_ok (by decide +kernel)
theorem wiq_L4 {p : Program} {l : Launch} {e : Env} {s : State} {m : MethodId} {below : List Frame} {meth : Method} {c : Code} {D : va_G} {U : State} {Y0 : xY} {av : List Value} (B : y_B vwCl x_Tb x_Nb xM99 p s m meth c D U Y0 av) {this sr hr : Nat} {nq fo : Int32} {fr Fz : Nat → Int32} (hav : av = [.ref this, .int nq]) (hsr : x_sl D 5 0 this s.heap = some (.ref sr)) (hfo0 : x_sl D 5 1 this s.heap = some (.int fo)) (hA0 : y_A sr 1024 s.heap fr) (hsh0 : x_sl D 5 2 this s.heap = some (.ref hr)) (hAh0 : y_A hr 1024 s.heap Fz) (hfo9 : 0 ≤ fo.toInt ∧ fo.toInt ≤ 1024) (hB_sr : ∀ j, j < 1024 → (0 : Int) ≤ (fr j).toInt ∧ (fr j).toInt ≤ 1023)  :
    ∀ (n : Nat), ∀ (H : Heap) (Y : xY) (locs : List Loc) (ls : Array Slot) (i : Int32) (al : Int32), x_I D x_G x_Zs U (x_efs xM99) Y0 s.heap Y H locs → Y this = some 8 → Y sr = some 35 → Y hr = some 36 → x_sl D 5 0 this H = some (.ref sr) → x_sl D 5 2 this H = some (.ref hr) → x_sl D 5 1 this H = some (.int fo) → y_A sr 1024 H fr → y_A hr 1024 H Fz → lv_has ls xM99.2.2.1 [(3, .int i), (2, .int al), (0, .ref this), (1, .int nq)] → (0 ≤ i.toInt ∧ i.toInt ≤ fo.toInt) → (∀ (L : Nat → Bool) (N : Nat), m_W L N fo fr → ∃ k, k ≤ N ∧ m_cn L k = i.toInt.toNat ∧ al = m_fd L (m_wiSt Fz nq) 0 k) → (1025 - i.toInt).toNat < n → W p l e (x_rm xM99) s m av.toArray below meth c H locs 0 0 (y_QQ below D x_G x_Zs U xM99 z_Pwi av Y0 s) (F0 m 4 ls []) := by
  have X := B.1
  have hx := X.1
  have hb := X.2.1
  have hY0 := B.2.2.2.2.1
  intro n
  induction n with
  | zero => intro _ _ _ _ _ _ _ _ _ _ _ _ _ _ _ _ _ _ h; exact absurd h (Nat.not_lt_zero _)
  | succ n ih =>
    intro H Y locs ls i al  hI hY_this hY_sr hY_hr hs_sr hs_hr hsi_found hA_sr hA_hr hl hi hq hn
    refine lv_iload_n hx hb wiq_d4 rfl (lv_at hl 0 rfl) ?_
    refine lv_aload_n hx hb wiq_d5 rfl (lv_at hl 2 rfl) ?_
    refine y_getf X (fl136 X.2.2.2.2.1) hI.1 hY_this rfl hsi_found wiq_d6 ?_
    refine lv_icmp_ge hx hb wiq_d9 (tgt := 45) (by decide) (fun q9 => ?_) (fun q9 => ?_)
    · have q9_ : fo.toInt ≤ i.toInt := x_le32.mp q9
      refine lv_iload_n hx hb wiq_d45 rfl (lv_at hl 1 rfl) ?_
      subst hav
      exact y_ireturn B hI rfl rfl rfl List.mem_cons_self ⟨_, rfl, ⟨_, rfl, x_i32 _⟩⟩ (x_cs.mono B.2.2.2.2.2 (y_mon B hI)) (fun t' s' h' w0' o' r' F' h1 h2 h3 h4 h5 h6 => by cases h1; cases h2.symm.trans hsr; cases h3.symm.trans hfo0; cases h5.symm.trans hsh0; have eF : ∀ q, q < 1024 → F' q = Fz q := fun q hq1 => z_AR h6 hAh0 hq1; have tW : ∀ (L : Nat → Bool) (N : Nat), m_W L N fo r' → m_W L N fo fr := fun L N a1 => ⟨a1.1, a1.2.1, fun q hq1 hL => by have := m_cn_lt hq1 hL; have := m_cn_b (L := L) (k := N); have := a1.1; rw [z_AR hA0 h4 (show m_cn L q < 1024 by omega)]; exact a1.2.2 q hq1 hL⟩; refine (fun L N a1 => ?_); have a1 := tW L N a1; have hN := a1.1; refine congrArg (fun x => some (Value.int x)) ?_; rw [m_fd_congr (L := L) (L' := L) (st := m_wiSt F' nq) (st' := m_wiSt Fz nq) (s0 := (0 : Int32)) N (fun _ _ => rfl) (fun s k hk _ => by unfold m_wiSt; rw [eF k (by omega)])]; exact m_fd_end (hq L N a1) (by have := a1.2.1; omega)) (Nat.le_refl _) (Nat.le_refl _) wiq_d46
    · have q9_ : i.toInt < fo.toInt := Int.not_le.mp fun q => q9 (x_le32.mpr q)
      refine lv_iload_n hx hb wiq_d12 rfl (lv_at hl 1 rfl) ?_
      refine lv_aload_n hx hb wiq_d13 rfl (lv_at hl 2 rfl) ?_
      refine y_getf X (fl139 X.2.2.2.2.1) hI.1 hY_this rfl hs_hr wiq_d14 ?_
      refine lv_aload_n hx hb wiq_d17 rfl (lv_at hl 2 rfl) ?_
      refine y_getf X (fl135 X.2.2.2.2.1) hI.1 hY_this rfl hs_sr wiq_d18 ?_
      refine lv_iload_n hx hb wiq_d21 rfl (lv_at hl 0 rfl) ?_
      refine y_iald X hI.1 hY_sr rfl hA_sr (by omega) (by show _ < (1024 : Int); omega) wiq_d22 ?_
      obtain ⟨e22, hg_e22⟩ : ∃ e22 : Int32, fr i.toInt.toNat = e22 := ⟨_, rfl⟩
      rw [hg_e22]
      have h_e22 : (0 : Int) ≤ e22.toInt ∧ e22.toInt ≤ 1023 := by rw [← hg_e22]; exact hB_sr _ (by omega)
      refine y_iald X hI.1 hY_hr rfl hA_hr (by omega) (by show _ < (1024 : Int); omega) wiq_d23 ?_
      obtain ⟨e23, hg_e23⟩ : ∃ e23 : Int32, Fz e22.toInt.toNat = e23 := ⟨_, rfl⟩
      rw [hg_e23]
      refine lv_iconst hx hb wiq_d24 (v := 0) (by decide) ?_
      have ec0 : (0 : Int32).toInt = 0 := by decide
      refine lv_iload_n hx hb wiq_d25 rfl (lv_at hl 3 rfl) ?_
      refine y_call (z := (1, 59, 3, none, xM10)) (av := [.int e23, .int (0 : Int32), .int nq]) (rest := [.int al]) (y_cokSN (n := 3) (host := "TwinFires") X ym_within (x_cons (x_bw19 1 rfl rfl) (x_cons (x_bw0 1 rfl rfl) x_nilm)) (x_bn51 1 rfl rfl) (x_bw19 2 rfl rfl) (by decide +kernel) ⟨Nat.le_of_ble_eq_true rfl, Nat.le_of_ble_eq_true rfl⟩) hY0 hI rfl wiq_d26 hl.1 (Nat.le_of_ble_eq_true rfl) (Nat.le_of_ble_eq_true rfl) (Nat.le_of_ble_eq_true rfl) (y_cons ⟨_, rfl, x_i32 _⟩ (y_cons ⟨_, rfl, x_i32 _⟩ (y_cons ⟨_, rfl, x_i32 _⟩ y_nil))) rfl (y_norecv rfl) trivial (y_sub_ef rfl) fun v Yn o Hn L ho hr ha hIn hx_ hE hP => ?_
      replace hs_sr := y_Efld hE hY_this rfl (by decide) (by decide) hs_sr
      replace hs_hr := y_Efld hE hY_this rfl (by decide) (by decide) hs_hr
      replace hsi_found := y_Efld hE hY_this rfl (by decide) (by decide) hsi_found
      replace hA_sr := hA_sr.kept (y_Earr hE hY_sr rfl (by decide))
      replace hA_hr := hA_hr.kept (y_Earr hE hY_hr rfl (by decide))
      replace hY_this := y_ext hx_ hI.1 hY_this
      replace hY_sr := y_ext hx_ hI.1 hY_sr
      replace hY_hr := y_ext hx_ hI.1 hY_hr
      obtain ⟨r26, rfl, hin_r26, hout_r26⟩ := hP _ _ _ rfl
      clear ho hr ha hE hP hI hx_
      rename x_I _ _ _ _ _ _ _ _ _ _ => hI
      refine lv_if_eq hx hb wiq_d29 (tgt := 36) (by decide) (fun q29 => ?_) (fun q29 => ?_)
      · have q29_ : r26.toInt = (0 : Int32).toInt := by rw [q29]
        refine lv_iconst hx hb wiq_d36 (v := 0) (by decide) ?_
        refine lv_iadd hx hb wiq_d37 ?_
        generalize hg_z37 : al + (0 : Int32) = z37
        refine lv_istore_n hx hb wiq_d38 rfl hl (by decide) (lv' := [(2, .int z37), (3, .int i), (0, .ref this), (1, .int nq)]) rfl fun ls hl => ?_
        obtain ⟨z39, hg_z39⟩ : ∃ z39 : Int32, i + Int32.ofInt 1 = z39 := ⟨_, rfl⟩
        have h_z39 : z39.toInt = i.toInt + 1 := by rw [← hg_z39]; exact y_inc (by decide) (by omega) (by omega)
        refine lv_iinc hx hb wiq_d39 hl (k := 1) rfl hg_z39 (by decide) (lv' := [(3, .int z39), (2, .int z37), (0, .ref this), (1, .int nq)]) rfl fun ls hl => ?_
        refine lv_goto hx hb wiq_d42 (tgt := 4) (by decide) ?_
        have his : z39.toInt.toNat = i.toInt.toNat + 1 := by omega
        exact ih _ _ _ _ _ _ hI hY_this hY_sr hY_hr hs_sr hs_hr hsi_found hA_sr hA_hr (lv_sub hl [0, 1, 2, 3] rfl) (by first | assumption | omega) (fun L N h1 => by
                          have hN := h1.1
                          have hf9 := h1.2.1
                          obtain ⟨q, q1, q2, q3, q4, q5⟩ := m_fd_step (hq L N h1) (by omega)
                          rw [his]
                          obtain ⟨k, k1, k2, k3⟩ := q5
                          refine ⟨k, k1, k2, ?_⟩
                          rw [← k3]
                          have hfr := h1.2.2 q q1 q2
                          rw [q3, hg_e22] at hfr
                          have ce : e22.toInt.toNat = q := by rw [hfr]; exact m_nIn (by omega)
                          have c2 : Fz q = e23 := by rw [← ce, hg_e23]
                          unfold m_wiSt
                          rw [← hg_z37, c2]
                          first
                            | rw [if_pos (by have h8 := hin_r26 (by assumption); omega)]
                            | rw [if_neg (by have h8 := hout_r26 (by assumption); omega)]) (by omega)
      · have q29_ : ¬ r26.toInt = (0 : Int32).toInt := fun q => q29 (Int32.toInt_inj.mp q)
        refine lv_iconst hx hb wiq_d32 (v := 1) (by decide) ?_
        have ec1 : (1 : Int32).toInt = 1 := by decide
        refine lv_goto hx hb wiq_d33 (tgt := 37) (by decide) ?_
        refine lv_iadd hx hb wiq_d37 ?_
        generalize hg_z37 : al + (1 : Int32) = z37
        refine lv_istore_n hx hb wiq_d38 rfl hl (by decide) (lv' := [(2, .int z37), (3, .int i), (0, .ref this), (1, .int nq)]) rfl fun ls hl => ?_
        obtain ⟨z39, hg_z39⟩ : ∃ z39 : Int32, i + Int32.ofInt 1 = z39 := ⟨_, rfl⟩
        have h_z39 : z39.toInt = i.toInt + 1 := by rw [← hg_z39]; exact y_inc (by decide) (by omega) (by omega)
        refine lv_iinc hx hb wiq_d39 hl (k := 1) rfl hg_z39 (by decide) (lv' := [(3, .int z39), (2, .int z37), (0, .ref this), (1, .int nq)]) rfl fun ls hl => ?_
        refine lv_goto hx hb wiq_d42 (tgt := 4) (by decide) ?_
        have his : z39.toInt.toNat = i.toInt.toNat + 1 := by omega
        exact ih _ _ _ _ _ _ hI hY_this hY_sr hY_hr hs_sr hs_hr hsi_found hA_sr hA_hr (lv_sub hl [0, 1, 2, 3] rfl) (by first | assumption | omega) (fun L N h1 => by
                          have hN := h1.1
                          have hf9 := h1.2.1
                          obtain ⟨q, q1, q2, q3, q4, q5⟩ := m_fd_step (hq L N h1) (by omega)
                          rw [his]
                          obtain ⟨k, k1, k2, k3⟩ := q5
                          refine ⟨k, k1, k2, ?_⟩
                          rw [← k3]
                          have hfr := h1.2.2 q q1 q2
                          rw [q3, hg_e22] at hfr
                          have ce : e22.toInt.toNat = q := by rw [hfr]; exact m_nIn (by omega)
                          have c2 : Fz q = e23 := by rw [← ce, hg_e23]
                          unfold m_wiSt
                          rw [← hg_z37, c2]
                          first
                            | rw [if_pos (by have h8 := hin_r26 (by assumption); omega)]
                            | rw [if_neg (by have h8 := hout_r26 (by assumption); omega)]) (by omega)
theorem ym_withinR : y_Met vwCl x_G x_Zs x_Tb x_Nb xM99 y_T z_Pwi := by
  refine y_main (by decide +kernel) (by decide +kernel) x_Tb_good x_Nb_ok ?_
  intro p l e s m below meth c D U Y0 av ls B hI _ hl
  have X := B.1
  have hx := X.1
  have hb := X.2.1
  have hY0 := B.2.2.2.2.1
  obtain ⟨v0, v1, rfl, hv0, ⟨nq, rfl, -⟩⟩ := x_two B.2.2.2.2.2
  obtain ⟨this, t0, rfl, ht0, hY_this⟩ := x_ref_at hv0 rfl
  obtain rfl := List.mem_singleton.mp ht0
  replace hl : lv_has ls xM99.2.2.1 [(0, .ref this), (1, .int nq)] := hl
  obtain ⟨sr, hs_sr, hY_sr⟩ := y_fldR (k := 0) hI.1 hY_this rfl rfl
  obtain ⟨hr, hs_hr, hY_hr⟩ := y_fldR (k := 2) hI.1 hY_this rfl rfl
  obtain ⟨fr, hA_sr, hB_sr⟩ := y_arr hI.1 hY_sr rfl rfl
  replace hB_sr : ∀ j, j < 1024 → (0 : Int) ≤ (fr j).toInt ∧ (fr j).toInt ≤ 1023 := fun j hj => by obtain ⟨x, e0, e1⟩ := hB_sr j hj; cases e0; exact e1
  obtain ⟨Fz, hA_hr, -⟩ := y_arr hI.1 hY_hr rfl rfl
  obtain ⟨fo, hsi_found, hfo9⟩ := y_fldI (k := 1) hI.1 hY_this rfl rfl
  replace hfo9 : (0 : Int) ≤ fo.toInt ∧ fo.toInt ≤ 1024 := hfo9
  have hsr := hs_sr
  have hA0 := hA_sr
  have hfo0 := hsi_found
  have hsh0 := hs_hr
  have hAh0 := hA_hr
  refine lv_iconst hx hb wiq_d0 (v := 0) (by decide) ?_
  have ec0 : (0 : Int32).toInt = 0 := by decide
  refine lv_istore_n hx hb wiq_d1 rfl hl (by decide) (lv' := [(2, .int (0 : Int32)), (0, .ref this), (1, .int nq)]) rfl fun ls hl => ?_
  refine lv_iconst hx hb wiq_d2 (v := 0) (by decide) ?_
  refine lv_istore_n hx hb wiq_d3 rfl hl (by decide) (lv' := [(3, .int (0 : Int32)), (2, .int (0 : Int32)), (0, .ref this), (1, .int nq)]) rfl fun ls hl => ?_
  exact wiq_L4 B rfl hsr hfo0 hA0 hsh0 hAh0 hfo9 hB_sr 1026 _ _ _ _ _ _ hI hY_this hY_sr hY_hr hs_sr hs_hr hsi_found hA_sr hA_hr (lv_sub hl [0, 1, 2, 3] rfl) (by first | assumption | omega) (fun L N _ => m_fd_0) (by omega)
def m_reaS (L : Nat → Bool) (N : Nat) (ok : Prop) (a n r : Int32) : Prop := (ok → L a.toInt.toNat = true → ∃ F : Nat → Int32, m_D L N a.toInt.toNat F ∧ r.toInt = (m_cn (m_wi L F n) N : Nat)) ∧ (ok → L a.toInt.toNat = false → r = -3) ∧ (¬ ok → r = -2)
def z_PTreach : yP := fun D av Y H v _ _ => ∀ (this : Nat) (a n : Int32) (f : Nat → Int32) (K : Nat → Option (Nat → Int32)) (t9 : Nat → Int32) (n9 : Int32), av = [.ref this, .int a, .int n] → z_RC D Y H this f K t9 n9 → ∃ r : Int32, v = some (.int r) ∧ m_reaS (m_LC (m_VC f (f 4) (f 5) 0)) (2 ^ (f 0).toInt.toNat) (m_isS f a ∧ 0 ≤ n.toInt ∧ n.toInt ≤ 99) a n r
theorem reQ_d0 : decode xM1004.2.1 0 = .ok (.aload_n 0, 1) := dz_ok (by decide +kernel)
theorem reQ_d1 : decode xM1004.2.1 1 = .ok (.getfield 12, 3) := dz_ok (by decide +kernel)
theorem reQ_d4 : decode xM1004.2.1 4 = .ok (.iload_n 1, 1) := dz_ok (by decide +kernel)
theorem reQ_d5 : decode xM1004.2.1 5 = .ok (.invokevirtual 169, 3) := dz_ok (by decide +kernel)
theorem reQ_d8 : decode xM1004.2.1 8 = .ok (.ifCond .eq 13, 3) := dz_ok (by decide +kernel)
theorem reQ_d11 : decode xM1004.2.1 11 = .ok (.iload_n 2, 1) := dz_ok (by decide +kernel)
theorem reQ_d12 : decode xM1004.2.1 12 = .ok (.iconst 0, 1) := dz_ok (by decide +kernel)
theorem reQ_d13 : decode xM1004.2.1 13 = .ok (.bipush 99, 2) := dz_ok (by decide +kernel)
theorem reQ_d15 : decode xM1004.2.1 15 = .ok (.invokestatic 88, 3) := dz_ok (by decide +kernel)
theorem reQ_d18 : decode xM1004.2.1 18 = .ok (.ifCond .ne 10, 3) := dz_ok (by decide +kernel)
theorem reQ_d21 : decode xM1004.2.1 21 = .ok (.aload_n 0, 1) := dz_ok (by decide +kernel)
theorem reQ_d22 : decode xM1004.2.1 22 = .ok (.bipush (-2), 2) := dz_ok (by decide +kernel)
theorem reQ_d24 : decode xM1004.2.1 24 = .ok (.invokevirtual 59, 3) := dz_ok (by decide +kernel)
theorem reQ_d27 : decode xM1004.2.1 27 = .ok (.ireturn, 1) := dz_ok (by decide +kernel)
theorem reQ_d28 : decode xM1004.2.1 28 = .ok (.aload_n 0, 1) := dz_ok (by decide +kernel)
theorem reQ_d29 : decode xM1004.2.1 29 = .ok (.invokevirtual 180, 3) := dz_ok (by decide +kernel)
theorem reQ_d32 : decode xM1004.2.1 32 = .ok (.aload_n 0, 1) := dz_ok (by decide +kernel)
theorem reQ_d33 : decode xM1004.2.1 33 = .ok (.iload_n 1, 1) := dz_ok (by decide +kernel)
theorem reQ_d34 : decode xM1004.2.1 34 = .ok (.invokevirtual 224, 3) := dz_ok (by decide +kernel)
theorem reQ_d37 : decode xM1004.2.1 37 = .ok (.ifCond .ne 10, 3) := dz_ok (by decide +kernel)
theorem reQ_d40 : decode xM1004.2.1 40 = .ok (.aload_n 0, 1) := dz_ok (by decide +kernel)
theorem reQ_d41 : decode xM1004.2.1 41 = .ok (.bipush (-3), 2) := dz_ok (by decide +kernel)
theorem reQ_d43 : decode xM1004.2.1 43 = .ok (.invokevirtual 59, 3) := dz_ok (by decide +kernel)
theorem reQ_d46 : decode xM1004.2.1 46 = .ok (.ireturn, 1) := dz_ok (by decide +kernel)
theorem reQ_d47 : decode xM1004.2.1 47 = .ok (.aload_n 0, 1) := dz_ok (by decide +kernel)
theorem reQ_d48 : decode xM1004.2.1 48 = .ok (.getfield 40, 3) := dz_ok (by decide +kernel)
theorem reQ_d51 : decode xM1004.2.1 51 = .ok (.iload_n 1, 1) := dz_ok (by decide +kernel)
theorem reQ_d52 : decode xM1004.2.1 52 = .ok (.invokevirtual 227, 3) := dz_ok (by decide +kernel)
theorem reQ_d55 : decode xM1004.2.1 55 = .ok (.aload_n 0, 1) := dz_ok (by decide +kernel)
theorem reQ_d56 : decode xM1004.2.1 56 = .ok (.getfield 40, 3) := dz_ok (by decide +kernel)
theorem reQ_d59 : decode xM1004.2.1 59 = .ok (.iload_n 2, 1) := dz_ok (by decide +kernel)
theorem reQ_d60 : decode xM1004.2.1 60 = .ok (.invokevirtual 237, 3) := dz_ok (by decide +kernel)
theorem reQ_d63 : decode xM1004.2.1 63 = .ok (.ireturn, 1) := dz_ok (by decide +kernel)
theorem ym_Treach : y_Met vwCl x_G x_Zs x_Tb x_Nb xM1004 z_ATF z_PTreach := by
  refine y_main (by decide +kernel) (by decide +kernel) x_Tb_good x_Nb_ok ?_
  intro p l e s m below meth c D U Y0 av ls B hI hpre hl
  have X := B.1
  have hx := X.1
  have hb := X.2.1
  have hY0 := B.2.2.2.2.1
  obtain ⟨v0, v1, v2, rfl, hv0, ⟨a, rfl, -⟩, ⟨n, rfl, -⟩⟩ := y_three B.2.2.2.2.2
  obtain ⟨this, t0, rfl, ht0, hY_this⟩ := x_ref_at hv0 rfl
  obtain rfl := List.mem_singleton.mp ht0
  replace hl : lv_has ls xM1004.2.2.1 [(0, .ref this), (1, .int a), (2, .int n)] := hl
  obtain ⟨f, K, tt, nn, hR0⟩ := hpre _ rfl
  obtain ⟨hd, dr, kp, tx, by_, kk, ⟨hs_hd, -⟩, ⟨hY_hd, -⟩, hL, -⟩ := id hR0
  obtain ⟨ey, hs_ey, hY_ey⟩ := y_fldR (k := 4) hI.1 hY_this rfl rfl
  obtain ⟨vw, hs_vw, hY_vw⟩ := y_fldR (k := 1) hI.1 hY_ey rfl rfl
  have hn0 := hL.1.1
  have hn1 := hL.1.2.1
  have hn2 := hL.1.2.2
  have hb0 : 0 ≤ (f 0).toInt ∧ (f 0).toInt ≤ 10 := by obtain ⟨x9, e9, b9⟩ := y_fldI (k := 0) hI.1 hY_hd rfl rfl; rw [hn0] at e9; cases e9; exact b9
  have hb1 : 0 ≤ (f 1).toInt ∧ (f 1).toInt ≤ 8 := by obtain ⟨x9, e9, b9⟩ := y_fldI (k := 6) hI.1 hY_hd rfl rfl; rw [hn1] at e9; cases e9; exact b9
  have hb2 : 0 ≤ (f 2).toInt ∧ (f 2).toInt ≤ 8 := by obtain ⟨x9, e9, b9⟩ := y_fldI (k := 12) hI.1 hY_hd rfl rfl; rw [hn2] at e9; cases e9; exact b9
  obtain ⟨ro, hs_ro, hY_ro⟩ := y_fldR (k := 5) hI.1 hY_this rfl rfl
  obtain ⟨sr, hs_sr, hY_sr⟩ := y_fldR (k := 0) hI.1 hY_ro rfl rfl
  obtain ⟨hr, hs_hr, hY_hr⟩ := y_fldR (k := 2) hI.1 hY_ro rfl rfl
  refine lv_aload_n hx hb reQ_d0 rfl (lv_at hl 0 rfl) ?_
  refine y_getf X (fl8 X.2.2.2.2.1) hI.1 hY_this rfl hs_hd reQ_d1 ?_
  refine lv_iload_n hx hb reQ_d4 rfl (lv_at hl 1 rfl) ?_
  refine y_call (z := (0, 169, 2, some 2, xM67)) (av := [.ref hd, .int a]) (rest := []) (y_cokV (n := 1) (ci := 2) X ym_hasSet rfl rfl rfl (x_cons (x_bw42 2 rfl rfl) (x_cons (x_bw42 3 rfl rfl) (x_cons (x_bw42 4 rfl rfl) (x_cons (x_bw0 2 rfl rfl) x_nilm)))) (x_bw42 5 rfl rfl) (by decide +kernel) ⟨Nat.le_of_ble_eq_true rfl, Nat.le_of_ble_eq_true rfl⟩) hY0 hI rfl reQ_d5 hl.1 (Nat.le_of_ble_eq_true rfl) (Nat.le_of_ble_eq_true rfl) (Nat.le_of_ble_eq_true rfl) (y_cons (y_cref hY_hd rfl) (y_cons ⟨_, rfl, x_i32 _⟩ y_nil)) rfl (y_recv rfl hY_hd) trivial (y_sub_ef rfl) fun v Yn o Hn L ho hr ha hIn hx_ hE hP => ?_
  have hPh := hP _ _ _ rfl hn0
  replace hs_hd := y_Efld hE hY_this rfl (by decide) (by decide) hs_hd
  replace hs_ey := y_Efld hE hY_this rfl (by decide) (by decide) hs_ey
  replace hs_vw := y_Efld hE hY_ey rfl (by decide) (by decide) hs_vw
  replace hn0 := y_Efld hE hY_hd rfl (by decide) (by decide) hn0
  replace hs_ro := y_Efld hE hY_this rfl (by decide) (by decide) hs_ro
  replace hs_sr := y_Efld hE hY_ro rfl (by decide) (by decide) hs_sr
  replace hs_hr := y_Efld hE hY_ro rfl (by decide) (by decide) hs_hr
  replace hL := hL.E hY_hd hE (fun q u h => y_ext hx_ hI.1 h) (by decide +kernel)
  replace hY_this := y_ext hx_ hI.1 hY_this
  replace hY_hd := y_ext hx_ hI.1 hY_hd
  replace hY_ey := y_ext hx_ hI.1 hY_ey
  replace hY_vw := y_ext hx_ hI.1 hY_vw
  replace hY_ro := y_ext hx_ hI.1 hY_ro
  replace hY_sr := y_ext hx_ hI.1 hY_sr
  replace hY_hr := y_ext hx_ hI.1 hY_hr
  obtain ⟨r5, rfl, hin_r5, hout_r5⟩ := hPh
  clear ho hr ha hE hP hI hx_
  rename x_I _ _ _ _ _ _ _ _ _ _ => hI
  have ec0 : (0 : Int32).toInt = 0 := by decide
  refine lv_if_eq hx hb reQ_d8 (tgt := 21) (by decide) (fun q8 => ?_) (fun q8 => ?_)
  · have q8_ : r5.toInt = (0 : Int32).toInt := by rw [q8]
    have hno : ¬ (m_isS f a ∧ 0 ≤ n.toInt ∧ n.toInt ≤ 99) := fun q9 => by first | exact hout_r5 (by assumption) q9.1 | (have h9 := hout_r15 (by assumption); omega)
    refine lv_aload_n hx hb reQ_d21 rfl (lv_at hl 0 rfl) ?_
    refine lv_bipush hx hb reQ_d22 (v := (-2)) (by decide) ?_
    have ecm2 : ((-2) : Int32).toInt = (-2) := by decide
    refine y_call (z := (0, 59, 2, some 0, xM8)) (av := [.ref this, .int ((-2) : Int32)]) (rest := []) (y_cokV (n := 1) (ci := 11) X ym_counted rfl rfl rfl (x_cons (x_bw19 7 rfl rfl) (x_cons (x_bw19 9 rfl rfl) (x_cons (x_at 1 (by decide +kernel) rfl) (x_cons (x_bw0 1 rfl rfl) x_nilm)))) (x_bw19 10 rfl rfl) (by decide +kernel) ⟨Nat.le_of_ble_eq_true rfl, Nat.le_of_ble_eq_true rfl⟩) hY0 hI rfl reQ_d24 hl.1 (Nat.le_of_ble_eq_true rfl) (Nat.le_of_ble_eq_true rfl) (Nat.le_of_ble_eq_true rfl) (y_cons (y_cref hY_this rfl) (y_cons ⟨_, rfl, x_i32 _⟩ y_nil)) rfl (y_recv rfl hY_this) trivial (y_sub_ef rfl) fun v Yn o Hn L ho hr ha hIn hx_ hE hP => ?_
    replace hs_hd := y_Efld hE hY_this rfl (by decide) (by decide) hs_hd
    replace hs_ey := y_Efld hE hY_this rfl (by decide) (by decide) hs_ey
    replace hs_vw := y_Efld hE hY_ey rfl (by decide) (by decide) hs_vw
    replace hn0 := y_Efld hE hY_hd rfl (by decide) (by decide) hn0
    replace hs_ro := y_Efld hE hY_this rfl (by decide) (by decide) hs_ro
    replace hs_sr := y_Efld hE hY_ro rfl (by decide) (by decide) hs_sr
    replace hs_hr := y_Efld hE hY_ro rfl (by decide) (by decide) hs_hr
    replace hL := hL.E hY_hd hE (fun q u h => y_ext hx_ hI.1 h) (by decide +kernel)
    replace hY_this := y_ext hx_ hI.1 hY_this
    replace hY_hd := y_ext hx_ hI.1 hY_hd
    replace hY_ey := y_ext hx_ hI.1 hY_ey
    replace hY_vw := y_ext hx_ hI.1 hY_vw
    replace hY_ro := y_ext hx_ hI.1 hY_ro
    replace hY_sr := y_ext hx_ hI.1 hY_sr
    replace hY_hr := y_ext hx_ hI.1 hY_hr
    obtain rfl := hP _ _ rfl
    clear ho hr ha hE hP hI hx_
    rename x_I _ _ _ _ _ _ _ _ _ _ => hI
    exact y_ireturn B hI rfl rfl rfl List.mem_cons_self ⟨_, rfl, ⟨_, rfl, x_i32 _⟩⟩ (x_cs.mono B.2.2.2.2.2 (y_mon B hI)) (fun t' w0' w1' f' K' tt' nn' h1 h2 => by cases h1; obtain ⟨ef, -⟩ := hR0.eqs h2; subst ef; exact ⟨_, rfl, fun q9 => absurd q9 hno, fun q9 => absurd q9 hno, fun _ => rfl⟩) (Nat.le_refl _) (Nat.le_refl _) reQ_d27
  · have q8_ : ¬ r5.toInt = (0 : Int32).toInt := fun q => q8 (Int32.toInt_inj.mp q)
    refine lv_iload_n hx hb reQ_d11 rfl (lv_at hl 2 rfl) ?_
    refine lv_iconst hx hb reQ_d12 (v := 0) (by decide) ?_
    refine lv_bipush hx hb reQ_d13 (v := 99) (by decide) ?_
    have ec99 : (99 : Int32).toInt = 99 := by decide
    refine y_call (z := (1, 88, 3, none, xM10)) (av := [.int n, .int (0 : Int32), .int (99 : Int32)]) (rest := []) (y_cokS (n := 3) X ym_within (x_cons (x_bw19 15 rfl rfl) (x_cons (x_bw19 1 rfl rfl) (x_cons (x_bw0 1 rfl rfl) x_nilm))) (x_bw19 2 rfl rfl) (by decide +kernel) ⟨Nat.le_of_ble_eq_true rfl, Nat.le_of_ble_eq_true rfl⟩) hY0 hI rfl reQ_d15 hl.1 (Nat.le_of_ble_eq_true rfl) (Nat.le_of_ble_eq_true rfl) (Nat.le_of_ble_eq_true rfl) (y_cons ⟨_, rfl, x_i32 _⟩ (y_cons ⟨_, rfl, x_i32 _⟩ (y_cons ⟨_, rfl, x_i32 _⟩ y_nil))) rfl (y_norecv rfl) trivial (y_sub_ef rfl) fun v Yn o Hn L ho hr ha hIn hx_ hE hP => ?_
    replace hs_hd := y_Efld hE hY_this rfl (by decide) (by decide) hs_hd
    replace hs_ey := y_Efld hE hY_this rfl (by decide) (by decide) hs_ey
    replace hs_vw := y_Efld hE hY_ey rfl (by decide) (by decide) hs_vw
    replace hn0 := y_Efld hE hY_hd rfl (by decide) (by decide) hn0
    replace hs_ro := y_Efld hE hY_this rfl (by decide) (by decide) hs_ro
    replace hs_sr := y_Efld hE hY_ro rfl (by decide) (by decide) hs_sr
    replace hs_hr := y_Efld hE hY_ro rfl (by decide) (by decide) hs_hr
    replace hL := hL.E hY_hd hE (fun q u h => y_ext hx_ hI.1 h) (by decide +kernel)
    replace hY_this := y_ext hx_ hI.1 hY_this
    replace hY_hd := y_ext hx_ hI.1 hY_hd
    replace hY_ey := y_ext hx_ hI.1 hY_ey
    replace hY_vw := y_ext hx_ hI.1 hY_vw
    replace hY_ro := y_ext hx_ hI.1 hY_ro
    replace hY_sr := y_ext hx_ hI.1 hY_sr
    replace hY_hr := y_ext hx_ hI.1 hY_hr
    obtain ⟨r15, rfl, hin_r15, hout_r15⟩ := hP _ _ _ rfl
    clear ho hr ha hE hP hI hx_
    rename x_I _ _ _ _ _ _ _ _ _ _ => hI
    refine lv_if_ne hx hb reQ_d18 (tgt := 28) (by decide) (fun q18 => ?_) (fun q18 => ?_)
    · have q18_ : ¬ r15.toInt = (0 : Int32).toInt := fun q => q18 (Int32.toInt_inj.mp q)
      have hw9 := hin_r15 (by assumption)
      have hok : m_isS f a ∧ 0 ≤ n.toInt ∧ n.toInt ≤ 99 := by first | exact ⟨hin_r5 (by assumption), by omega, by omega⟩ | exact ⟨hin_r5 (by assumption), hin_r16 (by assumption), by omega, by omega⟩
      have hs_a := hok.1
      have hz9 := z_all_p hb0
      have hpw9 : 2 ^ (f 0).toInt.toNat ≤ 1024 := Nat.pow_le_pow_right (n := 2) (by decide) (show (f 0).toInt.toNat ≤ 10 by omega)
      unfold m_isS at hs_a
      have hlt_a : a.toInt.toNat < (2 ^ (f 0).toInt.toNat) := by omega
      refine lv_aload_n hx hb reQ_d28 rfl (lv_at hl 0 rfl) ?_
      refine y_call (z := (0, 180, 1, some 0, xM1000)) (av := [.ref this]) (rest := []) (y_cokV (n := 0) (ci := 11) X ym_gatherNow rfl rfl rfl (x_cons (x_bw43 12 rfl rfl) (x_cons (x_bw43 14 rfl rfl) (x_cons (x_at 13 (by decide +kernel) rfl) (x_cons (x_bw0 1 rfl rfl) x_nilm)))) (x_bw43 15 rfl rfl) (by decide +kernel) ⟨Nat.le_of_ble_eq_true rfl, Nat.le_of_ble_eq_true rfl⟩) hY0 hI rfl reQ_d29 hl.1 (Nat.le_of_ble_eq_true rfl) (Nat.le_of_ble_eq_true rfl) (Nat.le_of_ble_eq_true rfl) (y_cons (y_cref hY_this rfl) y_nil) rfl (y_recv rfl hY_this) (fun t' hd' h1 h2 => by cases h1; cases h2.symm.trans hs_hd; exact ⟨_, hL⟩) (y_sub_ef rfl) fun v Yn o Hn L ho hr ha hIn hx_ hE hP => ?_
      have hPg := hP _ _ _ _ _ _ _ rfl hs_hd hs_ey hs_vw hs_ro hs_sr hL
      replace hs_hd := y_Efld hE hY_this rfl (by decide) (by decide) hs_hd
      replace hs_ey := y_Efld hE hY_this rfl (by decide) (by decide) hs_ey
      replace hs_vw := y_Efld hE hY_ey rfl (by decide) (by decide) hs_vw
      replace hn0 := y_Efld hE hY_hd rfl (by decide) (by decide) hn0
      replace hs_ro := y_Efld hE hY_this rfl (by decide) (by decide) hs_ro
      replace hs_sr := y_Efld hE hY_ro rfl (by decide) (by decide) hs_sr
      replace hs_hr := y_Efld hE hY_ro rfl (by decide) (by decide) hs_hr
      replace hL := hL.E hY_hd hE (fun q u h => y_ext hx_ hI.1 h) (by decide +kernel)
      replace hY_this := y_ext hx_ hI.1 hY_this
      replace hY_hd := y_ext hx_ hI.1 hY_hd
      replace hY_ey := y_ext hx_ hI.1 hY_ey
      replace hY_vw := y_ext hx_ hI.1 hY_vw
      replace hY_ro := y_ext hx_ hI.1 hY_ro
      replace hY_sr := y_ext hx_ hI.1 hY_sr
      replace hY_hr := y_ext hx_ hI.1 hY_hr
      obtain rfl := y_ansV rfl ho hr
      obtain ⟨hA_vw, fo, fr, hsi_found, hA_sr, hfo, hse⟩ := hPg
      have hpw : 2 ^ (f 0).toInt.toNat ≤ 1024 := Nat.pow_le_pow_right (n := 2) (by decide) (show (f 0).toInt.toNat ≤ 10 by omega)
      clear ho hr ha hE hP hI hx_
      rename x_I _ _ _ _ _ _ _ _ _ _ => hI
      refine lv_aload_n hx hb reQ_d32 rfl (lv_at hl 0 rfl) ?_
      refine lv_iload_n hx hb reQ_d33 rfl (lv_at hl 1 rfl) ?_
      refine y_call (z := (0, 224, 2, some 0, xM92)) (av := [.ref this, .int a]) (rest := []) (y_cokV (n := 1) (ci := 11) X ym_isLawNow rfl rfl rfl (x_cons (x_bw49 1 rfl rfl) (x_cons (x_bw49 3 rfl rfl) (x_cons (x_at 17 (by decide +kernel) rfl) (x_cons (x_bw0 1 rfl rfl) x_nilm)))) (x_bw49 4 rfl rfl) (by decide +kernel) ⟨Nat.le_of_ble_eq_true rfl, Nat.le_of_ble_eq_true rfl⟩) hY0 hI rfl reQ_d34 hl.1 (Nat.le_of_ble_eq_true rfl) (Nat.le_of_ble_eq_true rfl) (Nat.le_of_ble_eq_true rfl) (y_cons (y_cref hY_this rfl) (y_cons ⟨_, rfl, x_i32 _⟩ y_nil)) rfl (y_recv rfl hY_this) trivial (y_sub_ef rfl) fun v Yn o Hn L ho hr ha hIn hx_ hE hP => ?_
      have hPl := hP _ _ _ _ _ rfl hs_ey hs_vw hA_vw
      obtain rfl := hPl
      replace hs_hd := y_Efld hE hY_this rfl (by decide) (by decide) hs_hd
      replace hs_ey := y_Efld hE hY_this rfl (by decide) (by decide) hs_ey
      replace hs_vw := y_Efld hE hY_ey rfl (by decide) (by decide) hs_vw
      replace hn0 := y_Efld hE hY_hd rfl (by decide) (by decide) hn0
      replace hs_ro := y_Efld hE hY_this rfl (by decide) (by decide) hs_ro
      replace hs_sr := y_Efld hE hY_ro rfl (by decide) (by decide) hs_sr
      replace hs_hr := y_Efld hE hY_ro rfl (by decide) (by decide) hs_hr
      replace hsi_found := y_Efld hE hY_ro rfl (by decide) (by decide) hsi_found
      replace hA_vw := hA_vw.kept (y_Earr hE hY_vw rfl (by decide))
      replace hA_sr := hA_sr.kept (y_Earr hE hY_sr rfl (by decide))
      replace hL := hL.E hY_hd hE (fun q u h => y_ext hx_ hI.1 h) (by decide +kernel)
      replace hY_this := y_ext hx_ hI.1 hY_this
      replace hY_hd := y_ext hx_ hI.1 hY_hd
      replace hY_ey := y_ext hx_ hI.1 hY_ey
      replace hY_vw := y_ext hx_ hI.1 hY_vw
      replace hY_ro := y_ext hx_ hI.1 hY_ro
      replace hY_sr := y_ext hx_ hI.1 hY_sr
      replace hY_hr := y_ext hx_ hI.1 hY_hr
      generalize hg_r34 : m_b (!(m_any (m_wr (m_VC f (f 4) (f 5) 0) a) 10)) = r34
      clear ho hr ha hE hP hI hx_
      rename x_I _ _ _ _ _ _ _ _ _ _ => hI
      refine lv_if_ne hx hb reQ_d37 (tgt := 47) (by decide) (fun q37 => ?_) (fun q37 => ?_)
      · have q37_ : ¬ r34.toInt = (0 : Int32).toInt := fun q => q37 (Int32.toInt_inj.mp q)
        have hLa := (show (m_LC (m_VC f (f 4) (f 5) 0)) a.toInt.toNat = true by unfold m_LC; rw [m_nj (by omega)]; exact m_bn (fun q => absurd ((Eq.trans (Eq.symm hg_r34)) q) (by assumption)))
        refine lv_aload_n hx hb reQ_d47 rfl (lv_at hl 0 rfl) ?_
        refine y_getf X (fl205 X.2.2.2.2.1) hI.1 hY_this rfl hs_ro reQ_d48 ?_
        refine lv_iload_n hx hb reQ_d51 rfl (lv_at hl 1 rfl) ?_
        refine y_call (z := (0, 227, 2, some 8, xM96)) (av := [.ref ro, .int a]) (rest := []) (y_cokV (n := 1) (ci := 5) X ym_spread rfl rfl rfl (x_cons (x_bw49 5 rfl rfl) (x_cons (x_bw49 6 rfl rfl) (x_cons (x_bw49 7 rfl rfl) (x_cons (x_bw0 8 rfl rfl) x_nilm)))) (x_bw49 8 rfl rfl) (by decide +kernel) ⟨Nat.le_of_ble_eq_true rfl, Nat.le_of_ble_eq_true rfl⟩) hY0 hI rfl reQ_d52 hl.1 (Nat.le_of_ble_eq_true rfl) (Nat.le_of_ble_eq_true rfl) (Nat.le_of_ble_eq_true rfl) (y_cons (y_cref hY_ro rfl) (y_cons ⟨_, rfl, by show (0 : Int) ≤ _; omega, by show _ ≤ (1023 : Int); omega⟩ y_nil)) rfl (y_recv rfl hY_ro) trivial (y_sub_ef rfl) fun v Yn o Hn L ho hr ha hIn hx_ hE hP => ?_
        have hPs := hP _ _ _ _ _ _ rfl hs_sr hsi_found hA_sr hs_hr
        replace hs_hd := y_Efld hE hY_this rfl (by decide) (by decide) hs_hd
        replace hs_ey := y_Efld hE hY_this rfl (by decide) (by decide) hs_ey
        replace hs_vw := y_Efld hE hY_ey rfl (by decide) (by decide) hs_vw
        replace hn0 := y_Efld hE hY_hd rfl (by decide) (by decide) hn0
        replace hs_ro := y_Efld hE hY_this rfl (by decide) (by decide) hs_ro
        replace hs_sr := y_Efld hE hY_ro rfl (by decide) (by decide) hs_sr
        replace hs_hr := y_Efld hE hY_ro rfl (by decide) (by decide) hs_hr
        replace hsi_found := y_Efld hE hY_ro rfl (by decide) (by decide) hsi_found
        replace hA_vw := hA_vw.kept (y_Earr hE hY_vw rfl (by decide))
        replace hA_sr := hA_sr.kept (y_Earr hE hY_sr rfl (by decide))
        replace hL := hL.E hY_hd hE (fun q u h => y_ext hx_ hI.1 h) (by decide +kernel)
        replace hY_this := y_ext hx_ hI.1 hY_this
        replace hY_hd := y_ext hx_ hI.1 hY_hd
        replace hY_ey := y_ext hx_ hI.1 hY_ey
        replace hY_vw := y_ext hx_ hI.1 hY_vw
        replace hY_ro := y_ext hx_ hI.1 hY_ro
        replace hY_sr := y_ext hx_ hI.1 hY_sr
        replace hY_hr := y_ext hx_ hI.1 hY_hr
        obtain rfl := y_ansV rfl ho hr
        obtain ⟨F9, hA_hr, hDD⟩ := hPs
        have hD9 := hDD (m_LC (m_VC f (f 4) (f 5) 0)) (2 ^ (f 0).toInt.toNat) ⟨hpw, hfo, hse⟩ (by omega) (by assumption)
        clear ho hr ha hE hP hI hx_
        rename x_I _ _ _ _ _ _ _ _ _ _ => hI
        refine lv_aload_n hx hb reQ_d55 rfl (lv_at hl 0 rfl) ?_
        refine y_getf X (fl205 X.2.2.2.2.1) hI.1 hY_this rfl hs_ro reQ_d56 ?_
        refine lv_iload_n hx hb reQ_d59 rfl (lv_at hl 2 rfl) ?_
        refine y_call (z := (0, 237, 2, some 8, xM99)) (av := [.ref ro, .int n]) (rest := []) (y_cokV (n := 1) (ci := 5) X ym_withinR rfl rfl rfl (x_cons (x_bw50 13 rfl rfl) (x_cons (x_bw50 14 rfl rfl) (x_cons (x_bw50 15 rfl rfl) (x_cons (x_bw0 8 rfl rfl) x_nilm)))) (x_bw51 0 rfl rfl) (by decide +kernel) ⟨Nat.le_of_ble_eq_true rfl, Nat.le_of_ble_eq_true rfl⟩) hY0 hI rfl reQ_d60 hl.1 (Nat.le_of_ble_eq_true rfl) (Nat.le_of_ble_eq_true rfl) (Nat.le_of_ble_eq_true rfl) (y_cons (y_cref hY_ro rfl) (y_cons ⟨_, rfl, x_i32 _⟩ y_nil)) rfl (y_recv rfl hY_ro) trivial (y_sub_ef rfl) fun v Yn o Hn L ho hr ha hIn hx_ hE hP => ?_
        have hPw := hP _ _ _ _ _ _ _ rfl hs_sr hsi_found hA_sr hs_hr hA_hr (m_LC (m_VC f (f 4) (f 5) 0)) (2 ^ (f 0).toInt.toNat) ⟨hpw, hfo, hse⟩
        obtain rfl := hPw
        replace hs_hd := y_Efld hE hY_this rfl (by decide) (by decide) hs_hd
        replace hs_ey := y_Efld hE hY_this rfl (by decide) (by decide) hs_ey
        replace hs_vw := y_Efld hE hY_ey rfl (by decide) (by decide) hs_vw
        replace hn0 := y_Efld hE hY_hd rfl (by decide) (by decide) hn0
        replace hs_ro := y_Efld hE hY_this rfl (by decide) (by decide) hs_ro
        replace hs_sr := y_Efld hE hY_ro rfl (by decide) (by decide) hs_sr
        replace hs_hr := y_Efld hE hY_ro rfl (by decide) (by decide) hs_hr
        replace hsi_found := y_Efld hE hY_ro rfl (by decide) (by decide) hsi_found
        replace hA_vw := hA_vw.kept (y_Earr hE hY_vw rfl (by decide))
        replace hA_sr := hA_sr.kept (y_Earr hE hY_sr rfl (by decide))
        replace hA_hr := hA_hr.kept (y_Earr hE hY_hr rfl (by decide))
        replace hL := hL.E hY_hd hE (fun q u h => y_ext hx_ hI.1 h) (by decide +kernel)
        replace hY_this := y_ext hx_ hI.1 hY_this
        replace hY_hd := y_ext hx_ hI.1 hY_hd
        replace hY_ey := y_ext hx_ hI.1 hY_ey
        replace hY_vw := y_ext hx_ hI.1 hY_vw
        replace hY_ro := y_ext hx_ hI.1 hY_ro
        replace hY_sr := y_ext hx_ hI.1 hY_sr
        replace hY_hr := y_ext hx_ hI.1 hY_hr
        generalize hg_r60 : m_fd (m_LC (m_VC f (f 4) (f 5) 0)) (m_wiSt F9 n) 0 (2 ^ (f 0).toInt.toNat) = r60
        clear ho hr ha hE hP hI hx_
        rename x_I _ _ _ _ _ _ _ _ _ _ => hI
        exact y_ireturn B hI rfl rfl rfl List.mem_cons_self ⟨_, rfl, ⟨_, rfl, x_i32 _⟩⟩ (x_cs.mono B.2.2.2.2.2 (y_mon B hI)) (fun t' w0' w1' f' K' tt' nn' h1 h2 => by cases h1; obtain ⟨ef, -⟩ := hR0.eqs h2; subst ef; exact ⟨_, rfl, fun _ _ => ⟨F9, hD9, by rw [← hg_r60]; exact m_wi_cn hpw _ (Nat.le_refl _)⟩, fun _ q9 => (by rw [hLa] at q9; cases q9), fun q9 => absurd hok q9⟩) (Nat.le_refl _) (Nat.le_refl _) reQ_d63
      · have q37_ : r34.toInt = (0 : Int32).toInt := by rw [q37]
        have hLa := (show (m_LC (m_VC f (f 4) (f 5) 0)) a.toInt.toNat = false by unfold m_LC; rw [m_nj (by omega)]; exact m_b0 ((Eq.trans hg_r34) (by assumption)))
        refine lv_aload_n hx hb reQ_d40 rfl (lv_at hl 0 rfl) ?_
        refine lv_bipush hx hb reQ_d41 (v := (-3)) (by decide) ?_
        have ecm3 : ((-3) : Int32).toInt = (-3) := by decide
        refine y_call (z := (0, 59, 2, some 0, xM8)) (av := [.ref this, .int ((-3) : Int32)]) (rest := []) (y_cokV (n := 1) (ci := 11) X ym_counted rfl rfl rfl (x_cons (x_bw19 7 rfl rfl) (x_cons (x_bw19 9 rfl rfl) (x_cons (x_at 1 (by decide +kernel) rfl) (x_cons (x_bw0 1 rfl rfl) x_nilm)))) (x_bw19 10 rfl rfl) (by decide +kernel) ⟨Nat.le_of_ble_eq_true rfl, Nat.le_of_ble_eq_true rfl⟩) hY0 hI rfl reQ_d43 hl.1 (Nat.le_of_ble_eq_true rfl) (Nat.le_of_ble_eq_true rfl) (Nat.le_of_ble_eq_true rfl) (y_cons (y_cref hY_this rfl) (y_cons ⟨_, rfl, x_i32 _⟩ y_nil)) rfl (y_recv rfl hY_this) trivial (y_sub_ef rfl) fun v Yn o Hn L ho hr ha hIn hx_ hE hP => ?_
        replace hs_hd := y_Efld hE hY_this rfl (by decide) (by decide) hs_hd
        replace hs_ey := y_Efld hE hY_this rfl (by decide) (by decide) hs_ey
        replace hs_vw := y_Efld hE hY_ey rfl (by decide) (by decide) hs_vw
        replace hn0 := y_Efld hE hY_hd rfl (by decide) (by decide) hn0
        replace hs_ro := y_Efld hE hY_this rfl (by decide) (by decide) hs_ro
        replace hs_sr := y_Efld hE hY_ro rfl (by decide) (by decide) hs_sr
        replace hs_hr := y_Efld hE hY_ro rfl (by decide) (by decide) hs_hr
        replace hsi_found := y_Efld hE hY_ro rfl (by decide) (by decide) hsi_found
        replace hA_vw := hA_vw.kept (y_Earr hE hY_vw rfl (by decide))
        replace hA_sr := hA_sr.kept (y_Earr hE hY_sr rfl (by decide))
        replace hL := hL.E hY_hd hE (fun q u h => y_ext hx_ hI.1 h) (by decide +kernel)
        replace hY_this := y_ext hx_ hI.1 hY_this
        replace hY_hd := y_ext hx_ hI.1 hY_hd
        replace hY_ey := y_ext hx_ hI.1 hY_ey
        replace hY_vw := y_ext hx_ hI.1 hY_vw
        replace hY_ro := y_ext hx_ hI.1 hY_ro
        replace hY_sr := y_ext hx_ hI.1 hY_sr
        replace hY_hr := y_ext hx_ hI.1 hY_hr
        obtain rfl := hP _ _ rfl
        clear ho hr ha hE hP hI hx_
        rename x_I _ _ _ _ _ _ _ _ _ _ => hI
        exact y_ireturn B hI rfl rfl rfl List.mem_cons_self ⟨_, rfl, ⟨_, rfl, x_i32 _⟩⟩ (x_cs.mono B.2.2.2.2.2 (y_mon B hI)) (fun t' w0' w1' f' K' tt' nn' h1 h2 => by cases h1; obtain ⟨ef, -⟩ := hR0.eqs h2; subst ef; exact ⟨_, rfl, fun _ q9 => (by rw [hLa] at q9; cases q9), fun _ _ => rfl, fun q9 => absurd hok q9⟩) (Nat.le_refl _) (Nat.le_refl _) reQ_d46
    · have q18_ : r15.toInt = (0 : Int32).toInt := by rw [q18]
      have hno : ¬ (m_isS f a ∧ 0 ≤ n.toInt ∧ n.toInt ≤ 99) := fun q9 => by first | exact hout_r5 (by assumption) q9.1 | (have h9 := hout_r15 (by assumption); omega)
      refine lv_aload_n hx hb reQ_d21 rfl (lv_at hl 0 rfl) ?_
      refine lv_bipush hx hb reQ_d22 (v := (-2)) (by decide) ?_
      have ecm2 : ((-2) : Int32).toInt = (-2) := by decide
      refine y_call (z := (0, 59, 2, some 0, xM8)) (av := [.ref this, .int ((-2) : Int32)]) (rest := []) (y_cokV (n := 1) (ci := 11) X ym_counted rfl rfl rfl (x_cons (x_bw19 7 rfl rfl) (x_cons (x_bw19 9 rfl rfl) (x_cons (x_at 1 (by decide +kernel) rfl) (x_cons (x_bw0 1 rfl rfl) x_nilm)))) (x_bw19 10 rfl rfl) (by decide +kernel) ⟨Nat.le_of_ble_eq_true rfl, Nat.le_of_ble_eq_true rfl⟩) hY0 hI rfl reQ_d24 hl.1 (Nat.le_of_ble_eq_true rfl) (Nat.le_of_ble_eq_true rfl) (Nat.le_of_ble_eq_true rfl) (y_cons (y_cref hY_this rfl) (y_cons ⟨_, rfl, x_i32 _⟩ y_nil)) rfl (y_recv rfl hY_this) trivial (y_sub_ef rfl) fun v Yn o Hn L ho hr ha hIn hx_ hE hP => ?_
      replace hs_hd := y_Efld hE hY_this rfl (by decide) (by decide) hs_hd
      replace hs_ey := y_Efld hE hY_this rfl (by decide) (by decide) hs_ey
      replace hs_vw := y_Efld hE hY_ey rfl (by decide) (by decide) hs_vw
      replace hn0 := y_Efld hE hY_hd rfl (by decide) (by decide) hn0
      replace hs_ro := y_Efld hE hY_this rfl (by decide) (by decide) hs_ro
      replace hs_sr := y_Efld hE hY_ro rfl (by decide) (by decide) hs_sr
      replace hs_hr := y_Efld hE hY_ro rfl (by decide) (by decide) hs_hr
      replace hL := hL.E hY_hd hE (fun q u h => y_ext hx_ hI.1 h) (by decide +kernel)
      replace hY_this := y_ext hx_ hI.1 hY_this
      replace hY_hd := y_ext hx_ hI.1 hY_hd
      replace hY_ey := y_ext hx_ hI.1 hY_ey
      replace hY_vw := y_ext hx_ hI.1 hY_vw
      replace hY_ro := y_ext hx_ hI.1 hY_ro
      replace hY_sr := y_ext hx_ hI.1 hY_sr
      replace hY_hr := y_ext hx_ hI.1 hY_hr
      obtain rfl := hP _ _ rfl
      clear ho hr ha hE hP hI hx_
      rename x_I _ _ _ _ _ _ _ _ _ _ => hI
      exact y_ireturn B hI rfl rfl rfl List.mem_cons_self ⟨_, rfl, ⟨_, rfl, x_i32 _⟩⟩ (x_cs.mono B.2.2.2.2.2 (y_mon B hI)) (fun t' w0' w1' f' K' tt' nn' h1 h2 => by cases h1; obtain ⟨ef, -⟩ := hR0.eqs h2; subst ef; exact ⟨_, rfl, fun q9 => absurd q9 hno, fun q9 => absurd q9 hno, fun _ => rfl⟩) (Nat.le_refl _) (Nat.le_refl _) reQ_d27
