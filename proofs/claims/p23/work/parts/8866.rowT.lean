/-! A ROW of the class -/
def z_Pnn : yP := fun D av _ H v _ _ => ∀ (this sr hr : Nat) (u fo : Int32) (fr F : Nat → Int32), av = [.ref this, .int u] → x_sl D 5 0 this H = some (.ref sr) → x_sl D 5 1 this H = some (.int fo) → y_A sr 1024 H fr → x_sl D 5 2 this H = some (.ref hr) → y_A hr 1024 H F → ∃ r : Int32, v = some (.int r) ∧ (0 ≤ r.toInt ∧ r.toInt ≤ 1023) ∧ ∀ (L : Nat → Bool) (N : Nat), m_W L N fo fr → u.toInt.toNat < N → 1 ≤ (F u.toInt.toNat).toInt → (∃ x, m_nxR L N F u.toInt.toNat x) → m_nxR L N F u.toInt.toNat r.toInt.toNat
theorem nnq_d0 : decode xM97.2.1 0 = .ok (.iconst 0, 1) := dz_ok (by decide +kernel)
theorem nnq_d1 : decode xM97.2.1 1 = .ok (.istore_n 2, 1) := dz_ok (by decide +kernel)
theorem nnq_d2 : decode xM97.2.1 2 = .ok (.iload_n 2, 1) := dz_ok (by decide +kernel)
theorem nnq_d3 : decode xM97.2.1 3 = .ok (.aload_n 0, 1) := dz_ok (by decide +kernel)
theorem nnq_d4 : decode xM97.2.1 4 = .ok (.getfield 27, 3) := dz_ok (by decide +kernel)
theorem nnq_d7 : decode xM97.2.1 7 = .ok (.if_icmp .ge 51, 3) := dz_ok (by decide +kernel)
theorem nnq_d10 : decode xM97.2.1 10 = .ok (.aload_n 0, 1) := dz_ok (by decide +kernel)
theorem nnq_d11 : decode xM97.2.1 11 = .ok (.getfield 15, 3) := dz_ok (by decide +kernel)
theorem nnq_d14 : decode xM97.2.1 14 = .ok (.aload_n 0, 1) := dz_ok (by decide +kernel)
theorem nnq_d15 : decode xM97.2.1 15 = .ok (.getfield 9, 3) := dz_ok (by decide +kernel)
theorem nnq_d18 : decode xM97.2.1 18 = .ok (.iload_n 2, 1) := dz_ok (by decide +kernel)
theorem nnq_d19 : decode xM97.2.1 19 = .ok (.iaload, 1) := dz_ok (by decide +kernel)
theorem nnq_d20 : decode xM97.2.1 20 = .ok (.iaload, 1) := dz_ok (by decide +kernel)
theorem nnq_d21 : decode xM97.2.1 21 = .ok (.aload_n 0, 1) := dz_ok (by decide +kernel)
theorem nnq_d22 : decode xM97.2.1 22 = .ok (.getfield 15, 3) := dz_ok (by decide +kernel)
theorem nnq_d25 : decode xM97.2.1 25 = .ok (.iload_n 1, 1) := dz_ok (by decide +kernel)
theorem nnq_d26 : decode xM97.2.1 26 = .ok (.iaload, 1) := dz_ok (by decide +kernel)
theorem nnq_d27 : decode xM97.2.1 27 = .ok (.iconst 1, 1) := dz_ok (by decide +kernel)
theorem nnq_d28 : decode xM97.2.1 28 = .ok (.isub, 1) := dz_ok (by decide +kernel)
theorem nnq_d29 : decode xM97.2.1 29 = .ok (.if_icmp .ne 23, 3) := dz_ok (by decide +kernel)
theorem nnq_d32 : decode xM97.2.1 32 = .ok (.iload_n 1, 1) := dz_ok (by decide +kernel)
theorem nnq_d33 : decode xM97.2.1 33 = .ok (.aload_n 0, 1) := dz_ok (by decide +kernel)
theorem nnq_d34 : decode xM97.2.1 34 = .ok (.getfield 9, 3) := dz_ok (by decide +kernel)
theorem nnq_d37 : decode xM97.2.1 37 = .ok (.iload_n 2, 1) := dz_ok (by decide +kernel)
theorem nnq_d38 : decode xM97.2.1 38 = .ok (.iaload, 1) := dz_ok (by decide +kernel)
theorem nnq_d39 : decode xM97.2.1 39 = .ok (.invokestatic 52, 3) := dz_ok (by decide +kernel)
theorem nnq_d42 : decode xM97.2.1 42 = .ok (.ifCond .eq 10, 3) := dz_ok (by decide +kernel)
theorem nnq_d45 : decode xM97.2.1 45 = .ok (.aload_n 0, 1) := dz_ok (by decide +kernel)
theorem nnq_d46 : decode xM97.2.1 46 = .ok (.getfield 9, 3) := dz_ok (by decide +kernel)
theorem nnq_d49 : decode xM97.2.1 49 = .ok (.iload_n 2, 1) := dz_ok (by decide +kernel)
theorem nnq_d50 : decode xM97.2.1 50 = .ok (.iaload, 1) := dz_ok (by decide +kernel)
theorem nnq_d51 : decode xM97.2.1 51 = .ok (.ireturn, 1) := dz_ok (by decide +kernel)
theorem nnq_d52 : decode xM97.2.1 52 = .ok (.iinc 2 1, 3) := dz_ok (by decide +kernel)
theorem nnq_d55 : decode xM97.2.1 55 = .ok (.goto (-53), 3) := dz_ok (by decide +kernel)
theorem nnq_d58 : decode xM97.2.1 58 = .ok (.iload_n 1, 1) := dz_ok (by decide +kernel)
theorem nnq_d59 : decode xM97.2.1 59 = .ok (.ireturn, 1) := dz_ok (by decide +kernel)
theorem nnq_L2 {p : Program} {l : Launch} {e : Env} {s : State} {m : MethodId} {below : List Frame} {meth : Method} {c : Code} {D : va_G} {U : State} {Y0 : xY} {av : List Value} (B : y_B vwCl x_Tb x_Nb xM97 p s m meth c D U Y0 av) {this sr hr : Nat} {u fo : Int32} {fr Fz : Nat → Int32} (hav : av = [.ref this, .int u]) (hsr : x_sl D 5 0 this s.heap = some (.ref sr)) (hfo0 : x_sl D 5 1 this s.heap = some (.int fo)) (hA0 : y_A sr 1024 s.heap fr) (hsh0 : x_sl D 5 2 this s.heap = some (.ref hr)) (hAh0 : y_A hr 1024 s.heap Fz) (hfo9 : 0 ≤ fo.toInt ∧ fo.toInt ≤ 1024) (hB_sr : ∀ j, j < 1024 → (0 : Int) ≤ (fr j).toInt ∧ (fr j).toInt ≤ 1023) (hu : 0 ≤ u.toInt ∧ u.toInt ≤ 1023)  :
    ∀ (n : Nat), ∀ (H : Heap) (Y : xY) (locs : List Loc) (ls : Array Slot) (i : Int32), x_I D x_G x_Zs U (x_efs xM97) Y0 s.heap Y H locs → Y this = some 8 → Y sr = some 35 → Y hr = some 36 → x_sl D 5 0 this H = some (.ref sr) → x_sl D 5 2 this H = some (.ref hr) → x_sl D 5 1 this H = some (.int fo) → y_A sr 1024 H fr → y_A hr 1024 H Fz → lv_has ls xM97.2.2.1 [(2, .int i), (0, .ref this), (1, .int u)] → (0 ≤ i.toInt ∧ i.toInt ≤ fo.toInt) → (∀ (L : Nat → Bool) (N : Nat), m_W L N fo fr → u.toInt.toNat < N → 1 ≤ (Fz u.toInt.toNat).toInt → ∀ s : Nat, s < N → L s = true → (m_cn L s : Int) < i.toInt → ¬ m_nx0 L Fz u.toInt.toNat s) → (1025 - i.toInt).toNat < n → W p l e (x_rm xM97) s m av.toArray below meth c H locs 0 0 (y_QQ below D x_G x_Zs U xM97 z_Pnn av Y0 s) (F0 m 2 ls []) := by
  have X := B.1
  have hx := X.1
  have hb := X.2.1
  have hY0 := B.2.2.2.2.1
  intro n
  induction n with
  | zero => intro _ _ _ _ _ _ _ _ _ _ _ _ _ _ _ _ _ h; exact absurd h (Nat.not_lt_zero _)
  | succ n ih =>
    intro H Y locs ls i  hI hY_this hY_sr hY_hr hs_sr hs_hr hsi_found hA_sr hA_hr hl hi hq hn
    refine lv_iload_n hx hb nnq_d2 rfl (lv_at hl 0 rfl) ?_
    refine lv_aload_n hx hb nnq_d3 rfl (lv_at hl 1 rfl) ?_
    refine y_getf X (fl136 X.2.2.2.2.1) hI.1 hY_this rfl hsi_found nnq_d4 ?_
    refine lv_icmp_ge hx hb nnq_d7 (tgt := 58) (by decide) (fun q7 => ?_) (fun q7 => ?_)
    · have q7_ : fo.toInt ≤ i.toInt := x_le32.mp q7
      refine lv_iload_n hx hb nnq_d58 rfl (lv_at hl 2 rfl) ?_
      subst hav
      exact y_ireturn B hI rfl rfl rfl List.mem_cons_self ⟨_, rfl, ⟨_, rfl, by show (0 : Int) ≤ _; omega, by show _ ≤ (1023 : Int); omega⟩⟩ (x_cs.mono B.2.2.2.2.2 (y_mon B hI)) (fun t' s' h' w0' o' r' F' h1 h2 h3 h4 h5 h6 => by cases h1; cases h2.symm.trans hsr; cases h3.symm.trans hfo0; cases h5.symm.trans hsh0; have eF : ∀ q, q < 1024 → F' q = Fz q := fun q hq1 => z_AR h6 hAh0 hq1; have tW : ∀ (L : Nat → Bool) (N : Nat), m_W L N fo r' → m_W L N fo fr := fun L N a1 => ⟨a1.1, a1.2.1, fun q hq1 hL => by have := m_cn_lt hq1 hL; have := m_cn_b (L := L) (k := N); have := a1.1; rw [z_AR hA0 h4 (show m_cn L q < 1024 by omega)]; exact a1.2.2 q hq1 hL⟩; refine ⟨_, rfl, hu, fun L N a1 a2 a3 a4 => ?_⟩; have a1 := tW L N a1; have hN := a1.1; rw [eF _ (by omega)] at a3; obtain ⟨x, hx9⟩ := a4; have hx8 := m_nxR.congr (L := L) (L' := L) (F := F') (F' := Fz) a2 (fun _ _ => rfl) (fun q hq1 => eF q (by omega)) hx9; exfalso; exact hq L N a1 a2 a3 x hx8.1 hx8.2.1.1 (by have := m_cn_lt hx8.1 hx8.2.1.1; have := a1.2.1; omega) hx8.2.1) (Nat.le_refl _) (Nat.le_refl _) nnq_d59
    · have q7_ : i.toInt < fo.toInt := Int.not_le.mp fun q => q7 (x_le32.mpr q)
      refine lv_aload_n hx hb nnq_d10 rfl (lv_at hl 1 rfl) ?_
      refine y_getf X (fl139 X.2.2.2.2.1) hI.1 hY_this rfl hs_hr nnq_d11 ?_
      refine lv_aload_n hx hb nnq_d14 rfl (lv_at hl 1 rfl) ?_
      refine y_getf X (fl135 X.2.2.2.2.1) hI.1 hY_this rfl hs_sr nnq_d15 ?_
      refine lv_iload_n hx hb nnq_d18 rfl (lv_at hl 0 rfl) ?_
      refine y_iald X hI.1 hY_sr rfl hA_sr (by omega) (by show _ < (1024 : Int); omega) nnq_d19 ?_
      obtain ⟨e19, hg_e19⟩ : ∃ e19 : Int32, fr i.toInt.toNat = e19 := ⟨_, rfl⟩
      rw [hg_e19]
      have h_e19 : (0 : Int) ≤ e19.toInt ∧ e19.toInt ≤ 1023 := by rw [← hg_e19]; exact hB_sr _ (by omega)
      refine y_iald X hI.1 hY_hr rfl hA_hr (by omega) (by show _ < (1024 : Int); omega) nnq_d20 ?_
      obtain ⟨e20, hg_e20⟩ : ∃ e20 : Int32, Fz e19.toInt.toNat = e20 := ⟨_, rfl⟩
      rw [hg_e20]
      refine lv_aload_n hx hb nnq_d21 rfl (lv_at hl 1 rfl) ?_
      refine y_getf X (fl139 X.2.2.2.2.1) hI.1 hY_this rfl hs_hr nnq_d22 ?_
      refine lv_iload_n hx hb nnq_d25 rfl (lv_at hl 2 rfl) ?_
      refine y_iald X hI.1 hY_hr rfl hA_hr (by omega) (by show _ < (1024 : Int); omega) nnq_d26 ?_
      obtain ⟨e26, hg_e26⟩ : ∃ e26 : Int32, Fz u.toInt.toNat = e26 := ⟨_, rfl⟩
      rw [hg_e26]
      refine lv_iconst hx hb nnq_d27 (v := 1) (by decide) ?_
      have ec1 : (1 : Int32).toInt = 1 := by decide
      refine lv_isub hx hb nnq_d28 ?_
      generalize hg_z28 : e26 - (1 : Int32) = z28
      refine lv_icmp_ne hx hb nnq_d29 (tgt := 52) (by decide) (fun q29 => ?_) (fun q29 => ?_)
      · have q29_ : ¬ e20.toInt = z28.toInt := fun q => q29 (Int32.toInt_inj.mp q)
        obtain ⟨z52, hg_z52⟩ : ∃ z52 : Int32, i + Int32.ofInt 1 = z52 := ⟨_, rfl⟩
        have h_z52 : z52.toInt = i.toInt + 1 := by rw [← hg_z52]; exact y_inc (by decide) (by omega) (by omega)
        refine lv_iinc hx hb nnq_d52 hl (k := 0) rfl hg_z52 (by decide) (lv' := [(2, .int z52), (0, .ref this), (1, .int u)]) rfl fun ls hl => ?_
        refine lv_goto hx hb nnq_d55 (tgt := 2) (by decide) ?_
        have his : z52.toInt = i.toInt + 1 := by omega
        exact ih _ _ _ _ _ hI hY_this hY_sr hY_hr hs_sr hs_hr hsi_found hA_sr hA_hr (lv_sub hl [0, 1, 2] rfl) (by first | assumption | omega) (fun L N a1 a2 a3 s s1 s2 s3 h9 => by
                          have hN := a1.1
                          by_cases e : (m_cn L s : Int) = i.toInt
                          · have c := a1.2.2 s s1 s2
                            rw [show m_cn L s = i.toInt.toNat by omega, hg_e19] at c
                            have ce : e19.toInt.toNat = s := by rw [c]; exact m_nIn (by omega)
                            have c2 : (Fz s).toInt = e20.toInt := by rw [← ce, hg_e20]
                            have c3 : (Fz u.toInt.toNat).toInt = e26.toInt := by rw [hg_e26]
                            have x9 := x_rng e26
                            have c4 : z28.toInt = e26.toInt - 1 := by rw [← hg_z28]; have := y_sub (x := e26) (y := (1 : Int32)) (by rw [m_c1]; omega) (by rw [m_c1]; omega); rw [m_c1] at this; exact this
                            have h8 := h9.2.1
                            first
                              | exact absurd (Int32.toInt_inj.mp (by omega) : e20 = z28) (by assumption)
                              | (have h7 : m_nr u e38 = false := m_b0 ((Eq.trans hg_r39) (by assumption))
                                 rw [(Eq.trans (Eq.symm hg_e19)) hg_e38] at c
                                 rw [c, show u = nI u.toInt.toNat from (m_nj hu.1).symm, (m_nr_st (by omega) (by omega)).mpr (Or.inr h9.2.2)] at h7
                                 cases h7)
                          · exact hq L N a1 a2 a3 s s1 s2 (by omega) h9) (by omega)
      · have q29_ : e20.toInt = z28.toInt := by rw [q29]
        refine lv_iload_n hx hb nnq_d32 rfl (lv_at hl 2 rfl) ?_
        refine lv_aload_n hx hb nnq_d33 rfl (lv_at hl 1 rfl) ?_
        refine y_getf X (fl135 X.2.2.2.2.1) hI.1 hY_this rfl hs_sr nnq_d34 ?_
        refine lv_iload_n hx hb nnq_d37 rfl (lv_at hl 0 rfl) ?_
        refine y_iald X hI.1 hY_sr rfl hA_sr (by omega) (by show _ < (1024 : Int); omega) nnq_d38 ?_
        obtain ⟨e38, hg_e38⟩ : ∃ e38 : Int32, fr i.toInt.toNat = e38 := ⟨_, rfl⟩
        rw [hg_e38]
        have h_e38 : (0 : Int) ≤ e38.toInt ∧ e38.toInt ≤ 1023 := by rw [← hg_e38]; exact hB_sr _ (by omega)
        refine y_call (z := (1, 52, 2, none, xM94)) (av := [.int u, .int e38]) (rest := []) (y_cokS (n := 2) X ym_isNear (x_cons (x_bw49 14 rfl rfl) (x_cons (x_bw49 15 rfl rfl) (x_cons (x_bw0 8 rfl rfl) x_nilm))) (x_bw50 0 rfl rfl) (by decide +kernel) ⟨Nat.le_of_ble_eq_true rfl, Nat.le_of_ble_eq_true rfl⟩) hY0 hI rfl nnq_d39 hl.1 (Nat.le_of_ble_eq_true rfl) (Nat.le_of_ble_eq_true rfl) (Nat.le_of_ble_eq_true rfl) (y_cons ⟨_, rfl, x_i32 _⟩ (y_cons ⟨_, rfl, x_i32 _⟩ y_nil)) rfl (y_norecv rfl) trivial (y_sub_ef rfl) fun v Yn o Hn L ho hr ha hIn hx_ hE hP => ?_
        have hPn := hP _ _ rfl
        obtain rfl := hPn
        replace hs_sr := y_Efld hE hY_this rfl (by decide) (by decide) hs_sr
        replace hs_hr := y_Efld hE hY_this rfl (by decide) (by decide) hs_hr
        replace hsi_found := y_Efld hE hY_this rfl (by decide) (by decide) hsi_found
        replace hA_sr := hA_sr.kept (y_Earr hE hY_sr rfl (by decide))
        replace hA_hr := hA_hr.kept (y_Earr hE hY_hr rfl (by decide))
        replace hY_this := y_ext hx_ hI.1 hY_this
        replace hY_sr := y_ext hx_ hI.1 hY_sr
        replace hY_hr := y_ext hx_ hI.1 hY_hr
        generalize hg_r39 : m_b (m_nr u e38) = r39
        clear ho hr ha hE hP hI hx_
        rename x_I _ _ _ _ _ _ _ _ _ _ => hI
        have ec0 : (0 : Int32).toInt = 0 := by decide
        refine lv_if_eq hx hb nnq_d42 (tgt := 52) (by decide) (fun q42 => ?_) (fun q42 => ?_)
        · have q42_ : r39.toInt = (0 : Int32).toInt := by rw [q42]
          obtain ⟨z52, hg_z52⟩ : ∃ z52 : Int32, i + Int32.ofInt 1 = z52 := ⟨_, rfl⟩
          have h_z52 : z52.toInt = i.toInt + 1 := by rw [← hg_z52]; exact y_inc (by decide) (by omega) (by omega)
          refine lv_iinc hx hb nnq_d52 hl (k := 0) rfl hg_z52 (by decide) (lv' := [(2, .int z52), (0, .ref this), (1, .int u)]) rfl fun ls hl => ?_
          refine lv_goto hx hb nnq_d55 (tgt := 2) (by decide) ?_
          have his : z52.toInt = i.toInt + 1 := by omega
          exact ih _ _ _ _ _ hI hY_this hY_sr hY_hr hs_sr hs_hr hsi_found hA_sr hA_hr (lv_sub hl [0, 1, 2] rfl) (by first | assumption | omega) (fun L N a1 a2 a3 s s1 s2 s3 h9 => by
                          have hN := a1.1
                          by_cases e : (m_cn L s : Int) = i.toInt
                          · have c := a1.2.2 s s1 s2
                            rw [show m_cn L s = i.toInt.toNat by omega, hg_e19] at c
                            have ce : e19.toInt.toNat = s := by rw [c]; exact m_nIn (by omega)
                            have c2 : (Fz s).toInt = e20.toInt := by rw [← ce, hg_e20]
                            have c3 : (Fz u.toInt.toNat).toInt = e26.toInt := by rw [hg_e26]
                            have x9 := x_rng e26
                            have c4 : z28.toInt = e26.toInt - 1 := by rw [← hg_z28]; have := y_sub (x := e26) (y := (1 : Int32)) (by rw [m_c1]; omega) (by rw [m_c1]; omega); rw [m_c1] at this; exact this
                            have h8 := h9.2.1
                            first
                              | exact absurd (Int32.toInt_inj.mp (by omega) : e20 = z28) (by assumption)
                              | (have h7 : m_nr u e38 = false := m_b0 ((Eq.trans hg_r39) (by assumption))
                                 rw [(Eq.trans (Eq.symm hg_e19)) hg_e38] at c
                                 rw [c, show u = nI u.toInt.toNat from (m_nj hu.1).symm, (m_nr_st (by omega) (by omega)).mpr (Or.inr h9.2.2)] at h7
                                 cases h7)
                          · exact hq L N a1 a2 a3 s s1 s2 (by omega) h9) (by omega)
        · have q42_ : ¬ r39.toInt = (0 : Int32).toInt := fun q => q42 (Int32.toInt_inj.mp q)
          refine lv_aload_n hx hb nnq_d45 rfl (lv_at hl 1 rfl) ?_
          refine y_getf X (fl135 X.2.2.2.2.1) hI.1 hY_this rfl hs_sr nnq_d46 ?_
          refine lv_iload_n hx hb nnq_d49 rfl (lv_at hl 0 rfl) ?_
          refine y_iald X hI.1 hY_sr rfl hA_sr (by omega) (by show _ < (1024 : Int); omega) nnq_d50 ?_
          obtain ⟨e50, hg_e50⟩ : ∃ e50 : Int32, fr i.toInt.toNat = e50 := ⟨_, rfl⟩
          rw [hg_e50]
          have h_e50 : (0 : Int) ≤ e50.toInt ∧ e50.toInt ≤ 1023 := by rw [← hg_e50]; exact hB_sr _ (by omega)
          subst hav
          exact y_ireturn B hI rfl rfl rfl List.mem_cons_self ⟨_, rfl, ⟨_, rfl, by show (0 : Int) ≤ _; omega, by show _ ≤ (1023 : Int); omega⟩⟩ (x_cs.mono B.2.2.2.2.2 (y_mon B hI)) (fun t' s' h' w0' o' r' F' h1 h2 h3 h4 h5 h6 => by cases h1; cases h2.symm.trans hsr; cases h3.symm.trans hfo0; cases h5.symm.trans hsh0; have eF : ∀ q, q < 1024 → F' q = Fz q := fun q hq1 => z_AR h6 hAh0 hq1; have tW : ∀ (L : Nat → Bool) (N : Nat), m_W L N fo r' → m_W L N fo fr := fun L N a1 => ⟨a1.1, a1.2.1, fun q hq1 hL => by have := m_cn_lt hq1 hL; have := m_cn_b (L := L) (k := N); have := a1.1; rw [z_AR hA0 h4 (show m_cn L q < 1024 by omega)]; exact a1.2.2 q hq1 hL⟩; refine ⟨_, rfl, h_e50, fun L N a1 a2 a3 a4 => ?_⟩; have a1 := tW L N a1; have hN := a1.1; rw [eF _ (by omega)] at a3; refine (m_nxR.congr (L := L) (L' := L) (F := Fz) (F' := F') a2 (fun _ _ => rfl) (fun q hq1 => (eF q (by omega)).symm) ?_); obtain ⟨s, s1, s2, s3, s4⟩ := a1.ati (i := i.toInt.toNat) (by omega); have ce : e50.toInt.toNat = s := (by rw [← hg_e50, s4]; exact m_nIn (by omega)); have ce2 : e19.toInt.toNat = s := (by rw [← hg_e19, s4]; exact m_nIn (by omega)); have x9 := x_rng e26; have c4 : z28.toInt = e26.toInt - 1 := (by rw [← hg_z28]; have := y_sub (x := e26) (y := (1 : Int32)) (by rw [m_c1]; rw [hg_e26] at a3; omega) (by rw [m_c1]; rw [hg_e26] at a3; omega); rw [m_c1] at this; exact this); have c5 : (Fz s).toInt = (Fz u.toInt.toNat).toInt - 1 := (by rw [← ce2, hg_e20, hg_e26, ← c4, show e20 = z28 by assumption]); have h7 : m_nr u e38 = true := m_bn (fun q => absurd ((Eq.trans (Eq.symm hg_r39)) q) (by assumption)); rw [show u = nI u.toInt.toNat from (m_nj hu.1).symm, show e38 = nI s from (Eq.trans (Eq.symm hg_e38)) s4] at h7; have h8 := ((m_nr_st (by omega) (by omega)).mp h7).resolve_left (fun q => by rw [q] at c5; omega); rw [ce]; exact ⟨s1, ⟨s2, c5, h8⟩, fun t ht h9 => hq L N a1 a2 a3 t (by omega) h9.1 (by have := m_cn_lt ht h9.1; omega) h9⟩) (Nat.le_refl _) (Nat.le_refl _) nnq_d51
theorem ym_nextNearer : y_Met vwCl x_G x_Zs x_Tb x_Nb xM97 y_T z_Pnn := by
  refine y_main (by decide +kernel) (by decide +kernel) x_Tb_good x_Nb_ok ?_
  intro p l e s m below meth c D U Y0 av ls B hI _ hl
  have X := B.1
  have hx := X.1
  have hb := X.2.1
  have hY0 := B.2.2.2.2.1
  obtain ⟨v0, v1, rfl, hv0, ⟨u, rfl, hu⟩⟩ := x_two B.2.2.2.2.2
  obtain ⟨this, t0, rfl, ht0, hY_this⟩ := x_ref_at hv0 rfl
  obtain rfl := List.mem_singleton.mp ht0
  replace hl : lv_has ls xM97.2.2.1 [(0, .ref this), (1, .int u)] := hl
  obtain ⟨sr, hs_sr, hY_sr⟩ := y_fldR (k := 0) hI.1 hY_this rfl rfl
  obtain ⟨hr, hs_hr, hY_hr⟩ := y_fldR (k := 2) hI.1 hY_this rfl rfl
  obtain ⟨fr, hA_sr, hB_sr⟩ := y_arr hI.1 hY_sr rfl rfl
  replace hB_sr : ∀ j, j < 1024 → (0 : Int) ≤ (fr j).toInt ∧ (fr j).toInt ≤ 1023 := fun j hj => by obtain ⟨x, e0, e1⟩ := hB_sr j hj; cases e0; exact e1
  obtain ⟨Fz, hA_hr, -⟩ := y_arr hI.1 hY_hr rfl rfl
  obtain ⟨fo, hsi_found, hfo9⟩ := y_fldI (k := 1) hI.1 hY_this rfl rfl
  replace hfo9 : (0 : Int) ≤ fo.toInt ∧ fo.toInt ≤ 1024 := hfo9
  have hsr := hs_sr
  have hA0 := hA_sr
  have hfo0 := hsi_found
  have hsh0 := hs_hr
  have hAh0 := hA_hr
  replace hu : (0 : Int) ≤ u.toInt ∧ u.toInt ≤ 1023 := hu
  refine lv_iconst hx hb nnq_d0 (v := 0) (by decide) ?_
  have ec0 : (0 : Int32).toInt = 0 := by decide
  refine lv_istore_n hx hb nnq_d1 rfl hl (by decide) (lv' := [(2, .int (0 : Int32)), (0, .ref this), (1, .int u)]) rfl fun ls hl => ?_
  exact nnq_L2 B rfl hsr hfo0 hA0 hsh0 hAh0 hfo9 hB_sr hu 1026 _ _ _ _ _ hI hY_this hY_sr hY_hr hs_sr hs_hr hsi_found hA_sr hA_hr (lv_sub hl [0, 1, 2] rfl) (by first | assumption | omega) (fun L N _ _ _ s _ _ s3 => absurd s3 (by omega)) (by omega)
def z_Pne : yP := fun D av _ H v _ _ => ∀ (this sr hr : Nat) (u nq fo : Int32) (fr F : Nat → Int32), av = [.ref this, .int u, .int nq] → x_sl D 5 0 this H = some (.ref sr) → x_sl D 5 1 this H = some (.int fo) → y_A sr 1024 H fr → x_sl D 5 2 this H = some (.ref hr) → y_A hr 1024 H F → ∃ r : Int32, v = some (.int r) ∧ ∀ (L : Nat → Bool) (N st : Nat), m_W L N fo fr → m_D L N st F → u.toInt.toNat < N → 0 ≤ (F u.toInt.toNat).toInt → 0 ≤ nq.toInt → nq.toInt ≤ (F u.toInt.toNat).toInt → r = nI r.toInt.toNat ∧ m_pth L N F nq.toInt.toNat u.toInt.toNat r.toInt.toNat
theorem neq_d0 : decode xM98.2.1 0 = .ok (.iload_n 1, 1) := dz_ok (by decide +kernel)
theorem neq_d1 : decode xM98.2.1 1 = .ok (.istore_n 3, 1) := dz_ok (by decide +kernel)
theorem neq_d2 : decode xM98.2.1 2 = .ok (.iconst 0, 1) := dz_ok (by decide +kernel)
theorem neq_d3 : decode xM98.2.1 3 = .ok (.istore 4, 2) := dz_ok (by decide +kernel)
theorem neq_d5 : decode xM98.2.1 5 = .ok (.iload 4, 2) := dz_ok (by decide +kernel)
theorem neq_d7 : decode xM98.2.1 7 = .ok (.iload_n 2, 1) := dz_ok (by decide +kernel)
theorem neq_d8 : decode xM98.2.1 8 = .ok (.if_icmp .ge 24, 3) := dz_ok (by decide +kernel)
theorem neq_d11 : decode xM98.2.1 11 = .ok (.aload_n 0, 1) := dz_ok (by decide +kernel)
theorem neq_d12 : decode xM98.2.1 12 = .ok (.getfield 15, 3) := dz_ok (by decide +kernel)
theorem neq_d15 : decode xM98.2.1 15 = .ok (.iload_n 3, 1) := dz_ok (by decide +kernel)
theorem neq_d16 : decode xM98.2.1 16 = .ok (.iaload, 1) := dz_ok (by decide +kernel)
theorem neq_d17 : decode xM98.2.1 17 = .ok (.ifCond .le 15, 3) := dz_ok (by decide +kernel)
theorem neq_d20 : decode xM98.2.1 20 = .ok (.aload_n 0, 1) := dz_ok (by decide +kernel)
theorem neq_d21 : decode xM98.2.1 21 = .ok (.iload_n 3, 1) := dz_ok (by decide +kernel)
theorem neq_d22 : decode xM98.2.1 22 = .ok (.invokevirtual 56, 3) := dz_ok (by decide +kernel)
theorem neq_d25 : decode xM98.2.1 25 = .ok (.istore_n 3, 1) := dz_ok (by decide +kernel)
theorem neq_d26 : decode xM98.2.1 26 = .ok (.iinc 4 1, 3) := dz_ok (by decide +kernel)
theorem neq_d29 : decode xM98.2.1 29 = .ok (.goto (-24), 3) := dz_ok (by decide +kernel)
theorem neq_d32 : decode xM98.2.1 32 = .ok (.iload_n 3, 1) := dz_ok (by decide +kernel)
theorem neq_d33 : decode xM98.2.1 33 = .ok (.ireturn, 1) := dz_ok (by decide +kernel)
theorem neq_L5 {p : Program} {l : Launch} {e : Env} {s : State} {m : MethodId} {below : List Frame} {meth : Method} {c : Code} {D : va_G} {U : State} {Y0 : xY} {av : List Value} (B : y_B vwCl x_Tb x_Nb xM98 p s m meth c D U Y0 av) {this sr hr : Nat} {u nq fo : Int32} {fr Fz : Nat → Int32} (hav : av = [.ref this, .int u, .int nq]) (hsr : x_sl D 5 0 this s.heap = some (.ref sr)) (hfo0 : x_sl D 5 1 this s.heap = some (.int fo)) (hA0 : y_A sr 1024 s.heap fr) (hsh0 : x_sl D 5 2 this s.heap = some (.ref hr)) (hAh0 : y_A hr 1024 s.heap Fz) (hfo9 : 0 ≤ fo.toInt ∧ fo.toInt ≤ 1024) (hB_sr : ∀ j, j < 1024 → (0 : Int) ≤ (fr j).toInt ∧ (fr j).toInt ≤ 1023) (hu : 0 ≤ u.toInt ∧ u.toInt ≤ 1023)  :
    ∀ (n : Nat), ∀ (H : Heap) (Y : xY) (locs : List Loc) (ls : Array Slot) (k : Int32) (se : Int32), x_I D x_G x_Zs U (x_efs xM98) Y0 s.heap Y H locs → Y this = some 8 → Y sr = some 35 → Y hr = some 36 → x_sl D 5 0 this H = some (.ref sr) → x_sl D 5 2 this H = some (.ref hr) → x_sl D 5 1 this H = some (.int fo) → y_A sr 1024 H fr → y_A hr 1024 H Fz → lv_has ls xM98.2.2.1 [(4, .int k), (3, .int se), (0, .ref this), (1, .int u), (2, .int nq)] → (0 ≤ k.toInt) → (0 ≤ se.toInt ∧ se.toInt ≤ 1023) → (∀ (L : Nat → Bool) (N st : Nat), m_W L N fo fr → m_D L N st Fz → u.toInt.toNat < N → 0 ≤ (Fz u.toInt.toNat).toInt → 0 ≤ nq.toInt → nq.toInt ≤ (Fz u.toInt.toNat).toInt → k.toInt ≤ nq.toInt ∧ m_pth L N Fz k.toInt.toNat u.toInt.toNat se.toInt.toNat ∧ (Fz se.toInt.toNat).toInt = (Fz u.toInt.toNat).toInt - k.toInt) → (nq.toInt - k.toInt).toNat < n → W p l e (x_rm xM98) s m av.toArray below meth c H locs 0 0 (y_QQ below D x_G x_Zs U xM98 z_Pne av Y0 s) (F0 m 5 ls []) := by
  have X := B.1
  have hx := X.1
  have hb := X.2.1
  have hY0 := B.2.2.2.2.1
  intro n
  induction n with
  | zero => intro _ _ _ _ _ _ _ _ _ _ _ _ _ _ _ _ _ _ _ h; exact absurd h (Nat.not_lt_zero _)
  | succ n ih =>
    intro H Y locs ls k se  hI hY_this hY_sr hY_hr hs_sr hs_hr hsi_found hA_sr hA_hr hl hk hse hq hn
    have hxn := x_rng nq
    refine lv_iload hx hb neq_d5 (lv_at hl 0 rfl) ?_
    refine lv_iload_n hx hb neq_d7 rfl (lv_at hl 4 rfl) ?_
    refine lv_icmp_ge hx hb neq_d8 (tgt := 32) (by decide) (fun q8 => ?_) (fun q8 => ?_)
    · have q8_ : nq.toInt ≤ k.toInt := x_le32.mp q8
      refine lv_iload_n hx hb neq_d32 rfl (lv_at hl 1 rfl) ?_
      subst hav
      exact y_ireturn B hI rfl rfl rfl List.mem_cons_self ⟨_, rfl, ⟨_, rfl, by show (0 : Int) ≤ _; omega, by show _ ≤ (1023 : Int); omega⟩⟩ (x_cs.mono B.2.2.2.2.2 (y_mon B hI)) (fun t' s' h' w0' w1' o' r' F' h1 h2 h3 h4 h5 h6 => by cases h1; cases h2.symm.trans hsr; cases h3.symm.trans hfo0; cases h5.symm.trans hsh0; have eF : ∀ q, q < 1024 → F' q = Fz q := fun q hq1 => z_AR h6 hAh0 hq1; have tW : ∀ (L : Nat → Bool) (N : Nat), m_W L N fo r' → m_W L N fo fr := fun L N a1 => ⟨a1.1, a1.2.1, fun q hq1 hL => by have := m_cn_lt hq1 hL; have := m_cn_b (L := L) (k := N); have := a1.1; rw [z_AR hA0 h4 (show m_cn L q < 1024 by omega)]; exact a1.2.2 q hq1 hL⟩; refine ⟨_, rfl, fun L N st a1 a2 a3 a4 a5 a6 => ?_⟩; have a1 := tW L N a1; have hN := a1.1; have a2 := a2.congr (G := Fz) (fun q hq1 => eF q (by omega)); rw [eF _ (by omega)] at a4 a6; obtain ⟨b1, b2, b3⟩ := hq L N st a1 a2 a3 a4 a5 a6; have ek : k.toInt = nq.toInt := (by first | omega | (have h9 := hg_e16; rw [h9] at b3; omega)); rw [show k.toInt.toNat = nq.toInt.toNat by omega] at b2; exact ⟨(m_nj hse.1).symm, b2.congr a3 (fun _ _ => rfl) (fun q hq1 => (eF q (by omega)).symm)⟩) (Nat.le_refl _) (Nat.le_refl _) neq_d33
    · have q8_ : k.toInt < nq.toInt := Int.not_le.mp fun q => q8 (x_le32.mpr q)
      refine lv_aload_n hx hb neq_d11 rfl (lv_at hl 2 rfl) ?_
      refine y_getf X (fl139 X.2.2.2.2.1) hI.1 hY_this rfl hs_hr neq_d12 ?_
      refine lv_iload_n hx hb neq_d15 rfl (lv_at hl 1 rfl) ?_
      refine y_iald X hI.1 hY_hr rfl hA_hr (by omega) (by show _ < (1024 : Int); omega) neq_d16 ?_
      obtain ⟨e16, hg_e16⟩ : ∃ e16 : Int32, Fz se.toInt.toNat = e16 := ⟨_, rfl⟩
      rw [hg_e16]
      have ec0 : (0 : Int32).toInt = 0 := by decide
      refine lv_if_le hx hb neq_d17 (tgt := 32) (by decide) (fun q17 => ?_) (fun q17 => ?_)
      · have q17_ : e16.toInt ≤ (0 : Int32).toInt := x_le32.mp q17
        refine lv_iload_n hx hb neq_d32 rfl (lv_at hl 1 rfl) ?_
        subst hav
        exact y_ireturn B hI rfl rfl rfl List.mem_cons_self ⟨_, rfl, ⟨_, rfl, by show (0 : Int) ≤ _; omega, by show _ ≤ (1023 : Int); omega⟩⟩ (x_cs.mono B.2.2.2.2.2 (y_mon B hI)) (fun t' s' h' w0' w1' o' r' F' h1 h2 h3 h4 h5 h6 => by cases h1; cases h2.symm.trans hsr; cases h3.symm.trans hfo0; cases h5.symm.trans hsh0; have eF : ∀ q, q < 1024 → F' q = Fz q := fun q hq1 => z_AR h6 hAh0 hq1; have tW : ∀ (L : Nat → Bool) (N : Nat), m_W L N fo r' → m_W L N fo fr := fun L N a1 => ⟨a1.1, a1.2.1, fun q hq1 hL => by have := m_cn_lt hq1 hL; have := m_cn_b (L := L) (k := N); have := a1.1; rw [z_AR hA0 h4 (show m_cn L q < 1024 by omega)]; exact a1.2.2 q hq1 hL⟩; refine ⟨_, rfl, fun L N st a1 a2 a3 a4 a5 a6 => ?_⟩; have a1 := tW L N a1; have hN := a1.1; have a2 := a2.congr (G := Fz) (fun q hq1 => eF q (by omega)); rw [eF _ (by omega)] at a4 a6; obtain ⟨b1, b2, b3⟩ := hq L N st a1 a2 a3 a4 a5 a6; have ek : k.toInt = nq.toInt := (by first | omega | (have h9 := hg_e16; rw [h9] at b3; omega)); rw [show k.toInt.toNat = nq.toInt.toNat by omega] at b2; exact ⟨(m_nj hse.1).symm, b2.congr a3 (fun _ _ => rfl) (fun q hq1 => (eF q (by omega)).symm)⟩) (Nat.le_refl _) (Nat.le_refl _) neq_d33
      · have q17_ : (0 : Int32).toInt < e16.toInt := Int.not_le.mp fun q => q17 (x_le32.mpr q)
        refine lv_aload_n hx hb neq_d20 rfl (lv_at hl 2 rfl) ?_
        refine lv_iload_n hx hb neq_d21 rfl (lv_at hl 1 rfl) ?_
        refine y_call (z := (0, 56, 2, some 8, xM97)) (av := [.ref this, .int se]) (rest := []) (y_cokV (n := 1) (ci := 5) X ym_nextNearer rfl rfl rfl (x_cons (x_bw50 5 rfl rfl) (x_cons (x_bw50 7 rfl rfl) (x_cons (x_at 19 (by decide +kernel) rfl) (x_cons (x_bw0 8 rfl rfl) x_nilm)))) (x_bw50 8 rfl rfl) (by decide +kernel) ⟨Nat.le_of_ble_eq_true rfl, Nat.le_of_ble_eq_true rfl⟩) hY0 hI rfl neq_d22 hl.1 (Nat.le_of_ble_eq_true rfl) (Nat.le_of_ble_eq_true rfl) (Nat.le_of_ble_eq_true rfl) (y_cons (y_cref hY_this rfl) (y_cons ⟨_, rfl, by show (0 : Int) ≤ _; omega, by show _ ≤ (1023 : Int); omega⟩ y_nil)) rfl (y_recv rfl hY_this) trivial (y_sub_ef rfl) fun v Yn o Hn L ho hr ha hIn hx_ hE hP => ?_
        have hPn := hP _ _ _ _ _ _ _ rfl hs_sr hsi_found hA_sr hs_hr hA_hr
        replace hs_sr := y_Efld hE hY_this rfl (by decide) (by decide) hs_sr
        replace hs_hr := y_Efld hE hY_this rfl (by decide) (by decide) hs_hr
        replace hsi_found := y_Efld hE hY_this rfl (by decide) (by decide) hsi_found
        replace hA_sr := hA_sr.kept (y_Earr hE hY_sr rfl (by decide))
        replace hA_hr := hA_hr.kept (y_Earr hE hY_hr rfl (by decide))
        replace hY_this := y_ext hx_ hI.1 hY_this
        replace hY_sr := y_ext hx_ hI.1 hY_sr
        replace hY_hr := y_ext hx_ hI.1 hY_hr
        obtain ⟨r22, rfl, h_r22, hnn⟩ := hPn
        clear ho hr ha hE hP hI hx_
        rename x_I _ _ _ _ _ _ _ _ _ _ => hI
        refine lv_istore_n hx hb neq_d25 rfl hl (by decide) (lv' := [(3, .int r22), (4, .int k), (0, .ref this), (1, .int u), (2, .int nq)]) rfl fun ls hl => ?_
        obtain ⟨z26, hg_z26⟩ : ∃ z26 : Int32, k + Int32.ofInt 1 = z26 := ⟨_, rfl⟩
        have h_z26 : z26.toInt = k.toInt + 1 := by rw [← hg_z26]; exact y_inc (by decide) (by omega) (by omega)
        refine lv_iinc hx hb neq_d26 hl (k := 1) rfl hg_z26 (by decide) (lv' := [(4, .int z26), (3, .int r22), (0, .ref this), (1, .int u), (2, .int nq)]) rfl fun ls hl => ?_
        refine lv_goto hx hb neq_d29 (tgt := 5) (by decide) ?_
        have his : z26.toInt.toNat = k.toInt.toNat + 1 := by omega
        exact ih _ _ _ _ _ _ hI hY_this hY_sr hY_hr hs_sr hs_hr hsi_found hA_sr hA_hr (lv_sub hl [0, 1, 2, 3, 4] rfl) (by first | assumption | omega) (by first | assumption | omega) (fun L N st a1 a2 a3 a4 a5 a6 => by
                          obtain ⟨b1, b2, b3⟩ := hq L N st a1 a2 a3 a4 a5 a6
                          have hpos : 1 ≤ (Fz se.toInt.toNat).toInt := by rw [hg_e16]; omega
                          have hlt := b2.lt a3
                          have hn9 := hnn L N a1 hlt hpos (a2.nx hlt hpos)
                          refine ⟨by omega, ?_, ?_⟩
                          · rw [his]; exact ⟨_, b2, hn9⟩
                          · have := hn9.2.1.2.1; omega) (by omega)
theorem ym_nearer : y_Met vwCl x_G x_Zs x_Tb x_Nb xM98 y_T z_Pne := by
  refine y_main (by decide +kernel) (by decide +kernel) x_Tb_good x_Nb_ok ?_
  intro p l e s m below meth c D U Y0 av ls B hI _ hl
  have X := B.1
  have hx := X.1
  have hb := X.2.1
  have hY0 := B.2.2.2.2.1
  obtain ⟨v0, v1, v2, rfl, hv0, ⟨u, rfl, hu⟩, ⟨nq, rfl, -⟩⟩ := y_three B.2.2.2.2.2
  obtain ⟨this, t0, rfl, ht0, hY_this⟩ := x_ref_at hv0 rfl
  obtain rfl := List.mem_singleton.mp ht0
  replace hl : lv_has ls xM98.2.2.1 [(0, .ref this), (1, .int u), (2, .int nq)] := hl
  obtain ⟨sr, hs_sr, hY_sr⟩ := y_fldR (k := 0) hI.1 hY_this rfl rfl
  obtain ⟨hr, hs_hr, hY_hr⟩ := y_fldR (k := 2) hI.1 hY_this rfl rfl
  obtain ⟨fr, hA_sr, hB_sr⟩ := y_arr hI.1 hY_sr rfl rfl
  replace hB_sr : ∀ j, j < 1024 → (0 : Int) ≤ (fr j).toInt ∧ (fr j).toInt ≤ 1023 := fun j hj => by obtain ⟨x, e0, e1⟩ := hB_sr j hj; cases e0; exact e1
  obtain ⟨Fz, hA_hr, -⟩ := y_arr hI.1 hY_hr rfl rfl
  obtain ⟨fo, hsi_found, hfo9⟩ := y_fldI (k := 1) hI.1 hY_this rfl rfl
  replace hfo9 : (0 : Int) ≤ fo.toInt ∧ fo.toInt ≤ 1024 := hfo9
  have hsr := hs_sr
  have hA0 := hA_sr
  have hfo0 := hsi_found
  have hsh0 := hs_hr
  have hAh0 := hA_hr
  replace hu : (0 : Int) ≤ u.toInt ∧ u.toInt ≤ 1023 := hu
  refine lv_iload_n hx hb neq_d0 rfl (lv_at hl 1 rfl) ?_
  refine lv_istore_n hx hb neq_d1 rfl hl (by decide) (lv' := [(3, .int u), (0, .ref this), (1, .int u), (2, .int nq)]) rfl fun ls hl => ?_
  refine lv_iconst hx hb neq_d2 (v := 0) (by decide) ?_
  have ec0 : (0 : Int32).toInt = 0 := by decide
  refine lv_istore hx hb neq_d3 hl (by decide) (lv' := [(4, .int (0 : Int32)), (3, .int u), (0, .ref this), (1, .int u), (2, .int nq)]) rfl fun ls hl => ?_
  have hxn := x_rng nq
  exact neq_L5 B rfl hsr hfo0 hA0 hsh0 hAh0 hfo9 hB_sr hu 2147483650 _ _ _ _ _ _ hI hY_this hY_sr hY_hr hs_sr hs_hr hsi_found hA_sr hA_hr (lv_sub hl [0, 1, 2, 3, 4] rfl) (by first | assumption | omega) (by first | assumption | omega) (fun L N st _ _ _ _ a5 _ => ⟨by rw [m_c0]; omega, by rw [z_i0]; rfl, by rw [m_c0]; omega⟩) (by omega)
def m_rowS (L : Nat → Bool) (N : Nat) (ok : Prop) (a b i r : Int32) : Prop := (ok → L a.toInt.toNat = true → L b.toInt.toNat = true → ∃ F : Nat → Int32, m_D L N b.toInt.toNat F ∧ ((F a.toInt.toNat).toInt = -1 → r = -6) ∧ (¬ (F a.toInt.toNat).toInt = -1 → (i = -1 → r = F a.toInt.toNat) ∧ (¬ i = -1 → ((F a.toInt.toNat).toInt < i.toInt → r = -5) ∧ (i.toInt ≤ (F a.toInt.toNat).toInt → r = nI r.toInt.toNat ∧ m_pth L N F i.toInt.toNat a.toInt.toNat r.toInt.toNat)))) ∧ (ok → ¬ (L a.toInt.toNat = true ∧ L b.toInt.toNat = true) → r = -20) ∧ (¬ ok → r = -10)
def z_PTrow : yP := fun D av Y H v _ _ => ∀ (this : Nat) (a b i : Int32) (f : Nat → Int32) (K : Nat → Option (Nat → Int32)) (t9 : Nat → Int32) (n9 : Int32), av = [.ref this, .int a, .int b, .int i] → z_RC D Y H this f K t9 n9 → ∃ r : Int32, v = some (.int r) ∧ m_rowS (m_LC (m_VC f (f 4) (f 5) 0)) (2 ^ (f 0).toInt.toNat) (m_isS f a ∧ m_isS f b ∧ -1 ≤ i.toInt) a b i r
theorem roQ_d0 : decode xM1003.2.1 0 = .ok (.aload_n 0, 1) := dz_ok (by decide +kernel)
theorem roQ_d1 : decode xM1003.2.1 1 = .ok (.getfield 12, 3) := dz_ok (by decide +kernel)
theorem roQ_d4 : decode xM1003.2.1 4 = .ok (.iload_n 1, 1) := dz_ok (by decide +kernel)
theorem roQ_d5 : decode xM1003.2.1 5 = .ok (.invokevirtual 169, 3) := dz_ok (by decide +kernel)
theorem roQ_d8 : decode xM1003.2.1 8 = .ok (.ifCond .eq 19, 3) := dz_ok (by decide +kernel)
theorem roQ_d11 : decode xM1003.2.1 11 = .ok (.aload_n 0, 1) := dz_ok (by decide +kernel)
theorem roQ_d12 : decode xM1003.2.1 12 = .ok (.getfield 12, 3) := dz_ok (by decide +kernel)
theorem roQ_d15 : decode xM1003.2.1 15 = .ok (.iload_n 2, 1) := dz_ok (by decide +kernel)
theorem roQ_d16 : decode xM1003.2.1 16 = .ok (.invokevirtual 169, 3) := dz_ok (by decide +kernel)
theorem roQ_d19 : decode xM1003.2.1 19 = .ok (.ifCond .eq 8, 3) := dz_ok (by decide +kernel)
theorem roQ_d22 : decode xM1003.2.1 22 = .ok (.iload_n 3, 1) := dz_ok (by decide +kernel)
theorem roQ_d23 : decode xM1003.2.1 23 = .ok (.iconst (-1), 1) := dz_ok (by decide +kernel)
theorem roQ_d24 : decode xM1003.2.1 24 = .ok (.if_icmp .ge 12, 3) := dz_ok (by decide +kernel)
theorem roQ_d27 : decode xM1003.2.1 27 = .ok (.aload_n 0, 1) := dz_ok (by decide +kernel)
theorem roQ_d28 : decode xM1003.2.1 28 = .ok (.bipush (-2), 2) := dz_ok (by decide +kernel)
theorem roQ_d30 : decode xM1003.2.1 30 = .ok (.bipush (-10), 2) := dz_ok (by decide +kernel)
theorem roQ_d32 : decode xM1003.2.1 32 = .ok (.invokevirtual 221, 3) := dz_ok (by decide +kernel)
theorem roQ_d35 : decode xM1003.2.1 35 = .ok (.ireturn, 1) := dz_ok (by decide +kernel)
theorem roQ_d36 : decode xM1003.2.1 36 = .ok (.aload_n 0, 1) := dz_ok (by decide +kernel)
theorem roQ_d37 : decode xM1003.2.1 37 = .ok (.invokevirtual 180, 3) := dz_ok (by decide +kernel)
theorem roQ_d40 : decode xM1003.2.1 40 = .ok (.aload_n 0, 1) := dz_ok (by decide +kernel)
theorem roQ_d41 : decode xM1003.2.1 41 = .ok (.iload_n 1, 1) := dz_ok (by decide +kernel)
theorem roQ_d42 : decode xM1003.2.1 42 = .ok (.invokevirtual 224, 3) := dz_ok (by decide +kernel)
theorem roQ_d45 : decode xM1003.2.1 45 = .ok (.ifCond .eq 11, 3) := dz_ok (by decide +kernel)
theorem roQ_d48 : decode xM1003.2.1 48 = .ok (.aload_n 0, 1) := dz_ok (by decide +kernel)
theorem roQ_d49 : decode xM1003.2.1 49 = .ok (.iload_n 2, 1) := dz_ok (by decide +kernel)
theorem roQ_d50 : decode xM1003.2.1 50 = .ok (.invokevirtual 224, 3) := dz_ok (by decide +kernel)
theorem roQ_d53 : decode xM1003.2.1 53 = .ok (.ifCond .ne 12, 3) := dz_ok (by decide +kernel)
theorem roQ_d56 : decode xM1003.2.1 56 = .ok (.aload_n 0, 1) := dz_ok (by decide +kernel)
theorem roQ_d57 : decode xM1003.2.1 57 = .ok (.bipush (-3), 2) := dz_ok (by decide +kernel)
theorem roQ_d59 : decode xM1003.2.1 59 = .ok (.bipush (-20), 2) := dz_ok (by decide +kernel)
theorem roQ_d61 : decode xM1003.2.1 61 = .ok (.invokevirtual 221, 3) := dz_ok (by decide +kernel)
theorem roQ_d64 : decode xM1003.2.1 64 = .ok (.ireturn, 1) := dz_ok (by decide +kernel)
theorem roQ_d65 : decode xM1003.2.1 65 = .ok (.aload_n 0, 1) := dz_ok (by decide +kernel)
theorem roQ_d66 : decode xM1003.2.1 66 = .ok (.getfield 40, 3) := dz_ok (by decide +kernel)
theorem roQ_d69 : decode xM1003.2.1 69 = .ok (.iload_n 2, 1) := dz_ok (by decide +kernel)
theorem roQ_d70 : decode xM1003.2.1 70 = .ok (.invokevirtual 227, 3) := dz_ok (by decide +kernel)
theorem roQ_d73 : decode xM1003.2.1 73 = .ok (.aload_n 0, 1) := dz_ok (by decide +kernel)
theorem roQ_d74 : decode xM1003.2.1 74 = .ok (.getfield 40, 3) := dz_ok (by decide +kernel)
theorem roQ_d77 : decode xM1003.2.1 77 = .ok (.getfield 231, 3) := dz_ok (by decide +kernel)
theorem roQ_d80 : decode xM1003.2.1 80 = .ok (.iload_n 1, 1) := dz_ok (by decide +kernel)
theorem roQ_d81 : decode xM1003.2.1 81 = .ok (.iaload, 1) := dz_ok (by decide +kernel)
theorem roQ_d82 : decode xM1003.2.1 82 = .ok (.istore 4, 2) := dz_ok (by decide +kernel)
theorem roQ_d84 : decode xM1003.2.1 84 = .ok (.iload 4, 2) := dz_ok (by decide +kernel)
theorem roQ_d86 : decode xM1003.2.1 86 = .ok (.iconst (-1), 1) := dz_ok (by decide +kernel)
theorem roQ_d87 : decode xM1003.2.1 87 = .ok (.if_icmp .ne 6, 3) := dz_ok (by decide +kernel)
theorem roQ_d90 : decode xM1003.2.1 90 = .ok (.bipush (-6), 2) := dz_ok (by decide +kernel)
theorem roQ_d92 : decode xM1003.2.1 92 = .ok (.ireturn, 1) := dz_ok (by decide +kernel)
theorem roQ_d93 : decode xM1003.2.1 93 = .ok (.iload_n 3, 1) := dz_ok (by decide +kernel)
theorem roQ_d94 : decode xM1003.2.1 94 = .ok (.iconst (-1), 1) := dz_ok (by decide +kernel)
theorem roQ_d95 : decode xM1003.2.1 95 = .ok (.if_icmp .ne 6, 3) := dz_ok (by decide +kernel)
theorem roQ_d98 : decode xM1003.2.1 98 = .ok (.iload 4, 2) := dz_ok (by decide +kernel)
theorem roQ_d100 : decode xM1003.2.1 100 = .ok (.ireturn, 1) := dz_ok (by decide +kernel)
theorem roQ_d101 : decode xM1003.2.1 101 = .ok (.iload_n 3, 1) := dz_ok (by decide +kernel)
theorem roQ_d102 : decode xM1003.2.1 102 = .ok (.iload 4, 2) := dz_ok (by decide +kernel)
theorem roQ_d104 : decode xM1003.2.1 104 = .ok (.if_icmp .le 8, 3) := dz_ok (by decide +kernel)
theorem roQ_d107 : decode xM1003.2.1 107 = .ok (.bipush (-5), 2) := dz_ok (by decide +kernel)
theorem roQ_d109 : decode xM1003.2.1 109 = .ok (.goto 12, 3) := dz_ok (by decide +kernel)
theorem roQ_d112 : decode xM1003.2.1 112 = .ok (.aload_n 0, 1) := dz_ok (by decide +kernel)
theorem roQ_d113 : decode xM1003.2.1 113 = .ok (.getfield 40, 3) := dz_ok (by decide +kernel)
theorem roQ_d116 : decode xM1003.2.1 116 = .ok (.iload_n 1, 1) := dz_ok (by decide +kernel)
theorem roQ_d117 : decode xM1003.2.1 117 = .ok (.iload_n 3, 1) := dz_ok (by decide +kernel)
theorem roQ_d118 : decode xM1003.2.1 118 = .ok (.invokevirtual 234, 3) := dz_ok (by decide +kernel)
theorem roQ_d121 : decode xM1003.2.1 121 = .ok (.ireturn, 1) := dz_ok (by decide +kernel)
theorem ym_Trow : y_Met vwCl x_G x_Zs x_Tb x_Nb xM1003 z_ATF z_PTrow := by
  refine y_main (by decide +kernel) (by decide +kernel) x_Tb_good x_Nb_ok ?_
  intro p l e s m below meth c D U Y0 av ls B hI hpre hl
  have X := B.1
  have hx := X.1
  have hb := X.2.1
  have hY0 := B.2.2.2.2.1
  obtain ⟨v0, v1, v2, v3, rfl, hv0, ⟨a, rfl, -⟩, ⟨b, rfl, -⟩, ⟨i, rfl, -⟩⟩ := y_four B.2.2.2.2.2
  obtain ⟨this, t0, rfl, ht0, hY_this⟩ := x_ref_at hv0 rfl
  obtain rfl := List.mem_singleton.mp ht0
  replace hl : lv_has ls xM1003.2.2.1 [(0, .ref this), (1, .int a), (2, .int b), (3, .int i)] := hl
  obtain ⟨f, K, tt, nn, hR0⟩ := hpre _ rfl
  obtain ⟨hd, dr, kp, tx, by_, kk, ⟨hs_hd, -⟩, ⟨hY_hd, -⟩, hL, -⟩ := id hR0
  obtain ⟨ey, hs_ey, hY_ey⟩ := y_fldR (k := 4) hI.1 hY_this rfl rfl
  obtain ⟨vw, hs_vw, hY_vw⟩ := y_fldR (k := 1) hI.1 hY_ey rfl rfl
  have hn0 := hL.1.1
  have hn1 := hL.1.2.1
  have hn2 := hL.1.2.2
  have hb0 : 0 ≤ (f 0).toInt ∧ (f 0).toInt ≤ 10 := by obtain ⟨x9, e9, b9⟩ := y_fldI (k := 0) hI.1 hY_hd rfl rfl; rw [hn0] at e9; cases e9; exact b9
  have hb1 : 0 ≤ (f 1).toInt ∧ (f 1).toInt ≤ 8 := by obtain ⟨x9, e9, b9⟩ := y_fldI (k := 6) hI.1 hY_hd rfl rfl; rw [hn1] at e9; cases e9; exact b9
  have hb2 : 0 ≤ (f 2).toInt ∧ (f 2).toInt ≤ 8 := by obtain ⟨x9, e9, b9⟩ := y_fldI (k := 12) hI.1 hY_hd rfl rfl; rw [hn2] at e9; cases e9; exact b9
  obtain ⟨ro, hs_ro, hY_ro⟩ := y_fldR (k := 5) hI.1 hY_this rfl rfl
  obtain ⟨sr, hs_sr, hY_sr⟩ := y_fldR (k := 0) hI.1 hY_ro rfl rfl
  obtain ⟨hr, hs_hr, hY_hr⟩ := y_fldR (k := 2) hI.1 hY_ro rfl rfl
  refine lv_aload_n hx hb roQ_d0 rfl (lv_at hl 0 rfl) ?_
  refine y_getf X (fl8 X.2.2.2.2.1) hI.1 hY_this rfl hs_hd roQ_d1 ?_
  refine lv_iload_n hx hb roQ_d4 rfl (lv_at hl 1 rfl) ?_
  refine y_call (z := (0, 169, 2, some 2, xM67)) (av := [.ref hd, .int a]) (rest := []) (y_cokV (n := 1) (ci := 2) X ym_hasSet rfl rfl rfl (x_cons (x_bw42 2 rfl rfl) (x_cons (x_bw42 3 rfl rfl) (x_cons (x_bw42 4 rfl rfl) (x_cons (x_bw0 2 rfl rfl) x_nilm)))) (x_bw42 5 rfl rfl) (by decide +kernel) ⟨Nat.le_of_ble_eq_true rfl, Nat.le_of_ble_eq_true rfl⟩) hY0 hI rfl roQ_d5 hl.1 (Nat.le_of_ble_eq_true rfl) (Nat.le_of_ble_eq_true rfl) (Nat.le_of_ble_eq_true rfl) (y_cons (y_cref hY_hd rfl) (y_cons ⟨_, rfl, x_i32 _⟩ y_nil)) rfl (y_recv rfl hY_hd) trivial (y_sub_ef rfl) fun v Yn o Hn L ho hr ha hIn hx_ hE hP => ?_
  have hPh := hP _ _ _ rfl hn0
  replace hs_hd := y_Efld hE hY_this rfl (by decide) (by decide) hs_hd
  replace hs_ey := y_Efld hE hY_this rfl (by decide) (by decide) hs_ey
  replace hs_vw := y_Efld hE hY_ey rfl (by decide) (by decide) hs_vw
  replace hn0 := y_Efld hE hY_hd rfl (by decide) (by decide) hn0
  replace hs_ro := y_Efld hE hY_this rfl (by decide) (by decide) hs_ro
  replace hs_sr := y_Efld hE hY_ro rfl (by decide) (by decide) hs_sr
  replace hs_hr := y_Efld hE hY_ro rfl (by decide) (by decide) hs_hr
  replace hL := hL.E hY_hd hE (fun q u h => y_ext hx_ hI.1 h) (by decide +kernel)
  replace hY_this := y_ext hx_ hI.1 hY_this
  replace hY_hd := y_ext hx_ hI.1 hY_hd
  replace hY_ey := y_ext hx_ hI.1 hY_ey
  replace hY_vw := y_ext hx_ hI.1 hY_vw
  replace hY_ro := y_ext hx_ hI.1 hY_ro
  replace hY_sr := y_ext hx_ hI.1 hY_sr
  replace hY_hr := y_ext hx_ hI.1 hY_hr
  obtain ⟨r5, rfl, hin_r5, hout_r5⟩ := hPh
  clear ho hr ha hE hP hI hx_
  rename x_I _ _ _ _ _ _ _ _ _ _ => hI
  have ec0 : (0 : Int32).toInt = 0 := by decide
  refine lv_if_eq hx hb roQ_d8 (tgt := 27) (by decide) (fun q8 => ?_) (fun q8 => ?_)
  · have q8_ : r5.toInt = (0 : Int32).toInt := by rw [q8]
    have hno : ¬ (m_isS f a ∧ m_isS f b ∧ -1 ≤ i.toInt) := fun q9 => by first | exact hout_r5 (by assumption) q9.1 | exact hout_r16 (by assumption) q9.2.1 | (have h7 := q9.2.2; omega)
    refine lv_aload_n hx hb roQ_d27 rfl (lv_at hl 0 rfl) ?_
    refine lv_bipush hx hb roQ_d28 (v := (-2)) (by decide) ?_
    have ecm2 : ((-2) : Int32).toInt = (-2) := by decide
    refine lv_bipush hx hb roQ_d30 (v := (-10)) (by decide) ?_
    have ecm10 : ((-10) : Int32).toInt = (-10) := by decide
    refine y_call (z := (0, 221, 3, some 0, xM7)) (av := [.ref this, .int ((-2) : Int32), .int ((-10) : Int32)]) (rest := []) (y_cokV (n := 2) (ci := 11) X ym_countedAs rfl rfl rfl (x_cons (x_bw19 11 rfl rfl) (x_cons (x_bw19 13 rfl rfl) (x_cons (x_at 2 (by decide +kernel) rfl) (x_cons (x_bw0 1 rfl rfl) x_nilm)))) (x_bw19 14 rfl rfl) (by decide +kernel) ⟨Nat.le_of_ble_eq_true rfl, Nat.le_of_ble_eq_true rfl⟩) hY0 hI rfl roQ_d32 hl.1 (Nat.le_of_ble_eq_true rfl) (Nat.le_of_ble_eq_true rfl) (Nat.le_of_ble_eq_true rfl) (y_cons (y_cref hY_this rfl) (y_cons ⟨_, rfl, x_i32 _⟩ (y_cons ⟨_, rfl, x_i32 _⟩ y_nil))) rfl (y_recv rfl hY_this) trivial (y_sub_ef rfl) fun v Yn o Hn L ho hr ha hIn hx_ hE hP => ?_
    replace hs_hd := y_Efld hE hY_this rfl (by decide) (by decide) hs_hd
    replace hs_ey := y_Efld hE hY_this rfl (by decide) (by decide) hs_ey
    replace hs_vw := y_Efld hE hY_ey rfl (by decide) (by decide) hs_vw
    replace hn0 := y_Efld hE hY_hd rfl (by decide) (by decide) hn0
    replace hs_ro := y_Efld hE hY_this rfl (by decide) (by decide) hs_ro
    replace hs_sr := y_Efld hE hY_ro rfl (by decide) (by decide) hs_sr
    replace hs_hr := y_Efld hE hY_ro rfl (by decide) (by decide) hs_hr
    replace hL := hL.E hY_hd hE (fun q u h => y_ext hx_ hI.1 h) (by decide +kernel)
    replace hY_this := y_ext hx_ hI.1 hY_this
    replace hY_hd := y_ext hx_ hI.1 hY_hd
    replace hY_ey := y_ext hx_ hI.1 hY_ey
    replace hY_vw := y_ext hx_ hI.1 hY_vw
    replace hY_ro := y_ext hx_ hI.1 hY_ro
    replace hY_sr := y_ext hx_ hI.1 hY_sr
    replace hY_hr := y_ext hx_ hI.1 hY_hr
    obtain rfl := hP _ _ _ rfl
    clear ho hr ha hE hP hI hx_
    rename x_I _ _ _ _ _ _ _ _ _ _ => hI
    exact y_ireturn B hI rfl rfl rfl List.mem_cons_self ⟨_, rfl, ⟨_, rfl, x_i32 _⟩⟩ (x_cs.mono B.2.2.2.2.2 (y_mon B hI)) (fun t' w0' w1' w2' f' K' tt' nn' h1 h2 => by cases h1; obtain ⟨ef, -⟩ := hR0.eqs h2; subst ef; exact ⟨_, rfl, fun q9 => absurd q9 hno, fun q9 => absurd q9 hno, fun _ => rfl⟩) (Nat.le_refl _) (Nat.le_refl _) roQ_d35
  · have q8_ : ¬ r5.toInt = (0 : Int32).toInt := fun q => q8 (Int32.toInt_inj.mp q)
    refine lv_aload_n hx hb roQ_d11 rfl (lv_at hl 0 rfl) ?_
    refine y_getf X (fl8 X.2.2.2.2.1) hI.1 hY_this rfl hs_hd roQ_d12 ?_
    refine lv_iload_n hx hb roQ_d15 rfl (lv_at hl 2 rfl) ?_
    refine y_call (z := (0, 169, 2, some 2, xM67)) (av := [.ref hd, .int b]) (rest := []) (y_cokV (n := 1) (ci := 2) X ym_hasSet rfl rfl rfl (x_cons (x_bw42 2 rfl rfl) (x_cons (x_bw42 3 rfl rfl) (x_cons (x_bw42 4 rfl rfl) (x_cons (x_bw0 2 rfl rfl) x_nilm)))) (x_bw42 5 rfl rfl) (by decide +kernel) ⟨Nat.le_of_ble_eq_true rfl, Nat.le_of_ble_eq_true rfl⟩) hY0 hI rfl roQ_d16 hl.1 (Nat.le_of_ble_eq_true rfl) (Nat.le_of_ble_eq_true rfl) (Nat.le_of_ble_eq_true rfl) (y_cons (y_cref hY_hd rfl) (y_cons ⟨_, rfl, x_i32 _⟩ y_nil)) rfl (y_recv rfl hY_hd) trivial (y_sub_ef rfl) fun v Yn o Hn L ho hr ha hIn hx_ hE hP => ?_
    have hPh := hP _ _ _ rfl hn0
    replace hs_hd := y_Efld hE hY_this rfl (by decide) (by decide) hs_hd
    replace hs_ey := y_Efld hE hY_this rfl (by decide) (by decide) hs_ey
    replace hs_vw := y_Efld hE hY_ey rfl (by decide) (by decide) hs_vw
    replace hn0 := y_Efld hE hY_hd rfl (by decide) (by decide) hn0
    replace hs_ro := y_Efld hE hY_this rfl (by decide) (by decide) hs_ro
    replace hs_sr := y_Efld hE hY_ro rfl (by decide) (by decide) hs_sr
    replace hs_hr := y_Efld hE hY_ro rfl (by decide) (by decide) hs_hr
    replace hL := hL.E hY_hd hE (fun q u h => y_ext hx_ hI.1 h) (by decide +kernel)
    replace hY_this := y_ext hx_ hI.1 hY_this
    replace hY_hd := y_ext hx_ hI.1 hY_hd
    replace hY_ey := y_ext hx_ hI.1 hY_ey
    replace hY_vw := y_ext hx_ hI.1 hY_vw
    replace hY_ro := y_ext hx_ hI.1 hY_ro
    replace hY_sr := y_ext hx_ hI.1 hY_sr
    replace hY_hr := y_ext hx_ hI.1 hY_hr
    obtain ⟨r16, rfl, hin_r16, hout_r16⟩ := hPh
    clear ho hr ha hE hP hI hx_
    rename x_I _ _ _ _ _ _ _ _ _ _ => hI
    refine lv_if_eq hx hb roQ_d19 (tgt := 27) (by decide) (fun q19 => ?_) (fun q19 => ?_)
    · have q19_ : r16.toInt = (0 : Int32).toInt := by rw [q19]
      have hno : ¬ (m_isS f a ∧ m_isS f b ∧ -1 ≤ i.toInt) := fun q9 => by first | exact hout_r5 (by assumption) q9.1 | exact hout_r16 (by assumption) q9.2.1 | (have h7 := q9.2.2; omega)
      refine lv_aload_n hx hb roQ_d27 rfl (lv_at hl 0 rfl) ?_
      refine lv_bipush hx hb roQ_d28 (v := (-2)) (by decide) ?_
      have ecm2 : ((-2) : Int32).toInt = (-2) := by decide
      refine lv_bipush hx hb roQ_d30 (v := (-10)) (by decide) ?_
      have ecm10 : ((-10) : Int32).toInt = (-10) := by decide
      refine y_call (z := (0, 221, 3, some 0, xM7)) (av := [.ref this, .int ((-2) : Int32), .int ((-10) : Int32)]) (rest := []) (y_cokV (n := 2) (ci := 11) X ym_countedAs rfl rfl rfl (x_cons (x_bw19 11 rfl rfl) (x_cons (x_bw19 13 rfl rfl) (x_cons (x_at 2 (by decide +kernel) rfl) (x_cons (x_bw0 1 rfl rfl) x_nilm)))) (x_bw19 14 rfl rfl) (by decide +kernel) ⟨Nat.le_of_ble_eq_true rfl, Nat.le_of_ble_eq_true rfl⟩) hY0 hI rfl roQ_d32 hl.1 (Nat.le_of_ble_eq_true rfl) (Nat.le_of_ble_eq_true rfl) (Nat.le_of_ble_eq_true rfl) (y_cons (y_cref hY_this rfl) (y_cons ⟨_, rfl, x_i32 _⟩ (y_cons ⟨_, rfl, x_i32 _⟩ y_nil))) rfl (y_recv rfl hY_this) trivial (y_sub_ef rfl) fun v Yn o Hn L ho hr ha hIn hx_ hE hP => ?_
      replace hs_hd := y_Efld hE hY_this rfl (by decide) (by decide) hs_hd
      replace hs_ey := y_Efld hE hY_this rfl (by decide) (by decide) hs_ey
      replace hs_vw := y_Efld hE hY_ey rfl (by decide) (by decide) hs_vw
      replace hn0 := y_Efld hE hY_hd rfl (by decide) (by decide) hn0
      replace hs_ro := y_Efld hE hY_this rfl (by decide) (by decide) hs_ro
      replace hs_sr := y_Efld hE hY_ro rfl (by decide) (by decide) hs_sr
      replace hs_hr := y_Efld hE hY_ro rfl (by decide) (by decide) hs_hr
      replace hL := hL.E hY_hd hE (fun q u h => y_ext hx_ hI.1 h) (by decide +kernel)
      replace hY_this := y_ext hx_ hI.1 hY_this
      replace hY_hd := y_ext hx_ hI.1 hY_hd
      replace hY_ey := y_ext hx_ hI.1 hY_ey
      replace hY_vw := y_ext hx_ hI.1 hY_vw
      replace hY_ro := y_ext hx_ hI.1 hY_ro
      replace hY_sr := y_ext hx_ hI.1 hY_sr
      replace hY_hr := y_ext hx_ hI.1 hY_hr
      obtain rfl := hP _ _ _ rfl
      clear ho hr ha hE hP hI hx_
      rename x_I _ _ _ _ _ _ _ _ _ _ => hI
      exact y_ireturn B hI rfl rfl rfl List.mem_cons_self ⟨_, rfl, ⟨_, rfl, x_i32 _⟩⟩ (x_cs.mono B.2.2.2.2.2 (y_mon B hI)) (fun t' w0' w1' w2' f' K' tt' nn' h1 h2 => by cases h1; obtain ⟨ef, -⟩ := hR0.eqs h2; subst ef; exact ⟨_, rfl, fun q9 => absurd q9 hno, fun q9 => absurd q9 hno, fun _ => rfl⟩) (Nat.le_refl _) (Nat.le_refl _) roQ_d35
    · have q19_ : ¬ r16.toInt = (0 : Int32).toInt := fun q => q19 (Int32.toInt_inj.mp q)
      refine lv_iload_n hx hb roQ_d22 rfl (lv_at hl 3 rfl) ?_
      refine lv_iconst hx hb roQ_d23 (v := (-1)) (by decide) ?_
      have ecm1 : ((-1) : Int32).toInt = (-1) := by decide
      refine lv_icmp_ge hx hb roQ_d24 (tgt := 36) (by decide) (fun q24 => ?_) (fun q24 => ?_)
      · have q24_ : ((-1) : Int32).toInt ≤ i.toInt := x_le32.mp q24
        have hok : m_isS f a ∧ m_isS f b ∧ -1 ≤ i.toInt := ⟨hin_r5 (by assumption), hin_r16 (by assumption), by omega⟩
        have hs_a := hok.1
        have hz9 := z_all_p hb0
        have hpw9 : 2 ^ (f 0).toInt.toNat ≤ 1024 := Nat.pow_le_pow_right (n := 2) (by decide) (show (f 0).toInt.toNat ≤ 10 by omega)
        unfold m_isS at hs_a
        have hlt_a : a.toInt.toNat < (2 ^ (f 0).toInt.toNat) := by omega
        have hs_b := hok.2.1
        have hz9 := z_all_p hb0
        have hpw9 : 2 ^ (f 0).toInt.toNat ≤ 1024 := Nat.pow_le_pow_right (n := 2) (by decide) (show (f 0).toInt.toNat ≤ 10 by omega)
        unfold m_isS at hs_b
        have hlt_b : b.toInt.toNat < (2 ^ (f 0).toInt.toNat) := by omega
        refine lv_aload_n hx hb roQ_d36 rfl (lv_at hl 0 rfl) ?_
        refine y_call (z := (0, 180, 1, some 0, xM1000)) (av := [.ref this]) (rest := []) (y_cokV (n := 0) (ci := 11) X ym_gatherNow rfl rfl rfl (x_cons (x_bw43 12 rfl rfl) (x_cons (x_bw43 14 rfl rfl) (x_cons (x_at 13 (by decide +kernel) rfl) (x_cons (x_bw0 1 rfl rfl) x_nilm)))) (x_bw43 15 rfl rfl) (by decide +kernel) ⟨Nat.le_of_ble_eq_true rfl, Nat.le_of_ble_eq_true rfl⟩) hY0 hI rfl roQ_d37 hl.1 (Nat.le_of_ble_eq_true rfl) (Nat.le_of_ble_eq_true rfl) (Nat.le_of_ble_eq_true rfl) (y_cons (y_cref hY_this rfl) y_nil) rfl (y_recv rfl hY_this) (fun t' hd' h1 h2 => by cases h1; cases h2.symm.trans hs_hd; exact ⟨_, hL⟩) (y_sub_ef rfl) fun v Yn o Hn L ho hr ha hIn hx_ hE hP => ?_
        have hPg := hP _ _ _ _ _ _ _ rfl hs_hd hs_ey hs_vw hs_ro hs_sr hL
        replace hs_hd := y_Efld hE hY_this rfl (by decide) (by decide) hs_hd
        replace hs_ey := y_Efld hE hY_this rfl (by decide) (by decide) hs_ey
        replace hs_vw := y_Efld hE hY_ey rfl (by decide) (by decide) hs_vw
        replace hn0 := y_Efld hE hY_hd rfl (by decide) (by decide) hn0
        replace hs_ro := y_Efld hE hY_this rfl (by decide) (by decide) hs_ro
        replace hs_sr := y_Efld hE hY_ro rfl (by decide) (by decide) hs_sr
        replace hs_hr := y_Efld hE hY_ro rfl (by decide) (by decide) hs_hr
        replace hL := hL.E hY_hd hE (fun q u h => y_ext hx_ hI.1 h) (by decide +kernel)
        replace hY_this := y_ext hx_ hI.1 hY_this
        replace hY_hd := y_ext hx_ hI.1 hY_hd
        replace hY_ey := y_ext hx_ hI.1 hY_ey
        replace hY_vw := y_ext hx_ hI.1 hY_vw
        replace hY_ro := y_ext hx_ hI.1 hY_ro
        replace hY_sr := y_ext hx_ hI.1 hY_sr
        replace hY_hr := y_ext hx_ hI.1 hY_hr
        obtain rfl := y_ansV rfl ho hr
        obtain ⟨hA_vw, fo, fr, hsi_found, hA_sr, hfo, hse⟩ := hPg
        have hpw : 2 ^ (f 0).toInt.toNat ≤ 1024 := Nat.pow_le_pow_right (n := 2) (by decide) (show (f 0).toInt.toNat ≤ 10 by omega)
        clear ho hr ha hE hP hI hx_
        rename x_I _ _ _ _ _ _ _ _ _ _ => hI
        refine lv_aload_n hx hb roQ_d40 rfl (lv_at hl 0 rfl) ?_
        refine lv_iload_n hx hb roQ_d41 rfl (lv_at hl 1 rfl) ?_
        refine y_call (z := (0, 224, 2, some 0, xM92)) (av := [.ref this, .int a]) (rest := []) (y_cokV (n := 1) (ci := 11) X ym_isLawNow rfl rfl rfl (x_cons (x_bw49 1 rfl rfl) (x_cons (x_bw49 3 rfl rfl) (x_cons (x_at 17 (by decide +kernel) rfl) (x_cons (x_bw0 1 rfl rfl) x_nilm)))) (x_bw49 4 rfl rfl) (by decide +kernel) ⟨Nat.le_of_ble_eq_true rfl, Nat.le_of_ble_eq_true rfl⟩) hY0 hI rfl roQ_d42 hl.1 (Nat.le_of_ble_eq_true rfl) (Nat.le_of_ble_eq_true rfl) (Nat.le_of_ble_eq_true rfl) (y_cons (y_cref hY_this rfl) (y_cons ⟨_, rfl, x_i32 _⟩ y_nil)) rfl (y_recv rfl hY_this) trivial (y_sub_ef rfl) fun v Yn o Hn L ho hr ha hIn hx_ hE hP => ?_
        have hPl := hP _ _ _ _ _ rfl hs_ey hs_vw hA_vw
        obtain rfl := hPl
        replace hs_hd := y_Efld hE hY_this rfl (by decide) (by decide) hs_hd
        replace hs_ey := y_Efld hE hY_this rfl (by decide) (by decide) hs_ey
        replace hs_vw := y_Efld hE hY_ey rfl (by decide) (by decide) hs_vw
        replace hn0 := y_Efld hE hY_hd rfl (by decide) (by decide) hn0
        replace hs_ro := y_Efld hE hY_this rfl (by decide) (by decide) hs_ro
        replace hs_sr := y_Efld hE hY_ro rfl (by decide) (by decide) hs_sr
        replace hs_hr := y_Efld hE hY_ro rfl (by decide) (by decide) hs_hr
        replace hsi_found := y_Efld hE hY_ro rfl (by decide) (by decide) hsi_found
        replace hA_vw := hA_vw.kept (y_Earr hE hY_vw rfl (by decide))
        replace hA_sr := hA_sr.kept (y_Earr hE hY_sr rfl (by decide))
        replace hL := hL.E hY_hd hE (fun q u h => y_ext hx_ hI.1 h) (by decide +kernel)
        replace hY_this := y_ext hx_ hI.1 hY_this
        replace hY_hd := y_ext hx_ hI.1 hY_hd
        replace hY_ey := y_ext hx_ hI.1 hY_ey
        replace hY_vw := y_ext hx_ hI.1 hY_vw
        replace hY_ro := y_ext hx_ hI.1 hY_ro
        replace hY_sr := y_ext hx_ hI.1 hY_sr
        replace hY_hr := y_ext hx_ hI.1 hY_hr
        generalize hg_r42 : m_b (!(m_any (m_wr (m_VC f (f 4) (f 5) 0) a) 10)) = r42
        clear ho hr ha hE hP hI hx_
        rename x_I _ _ _ _ _ _ _ _ _ _ => hI
        refine lv_if_eq hx hb roQ_d45 (tgt := 56) (by decide) (fun q45 => ?_) (fun q45 => ?_)
        · have q45_ : r42.toInt = (0 : Int32).toInt := by rw [q45]
          have hnl : ¬ ((m_LC (m_VC f (f 4) (f 5) 0)) a.toInt.toNat = true ∧ (m_LC (m_VC f (f 4) (f 5) 0)) b.toInt.toNat = true) := fun q9 => by first | (have h7 := q9.1; rw [(show (m_LC (m_VC f (f 4) (f 5) 0)) a.toInt.toNat = false by unfold m_LC; rw [m_nj (by omega)]; exact m_b0 ((Eq.trans hg_r42) (by assumption)))] at h7; cases h7) | (have h7 := q9.2; rw [(show (m_LC (m_VC f (f 4) (f 5) 0)) b.toInt.toNat = false by unfold m_LC; rw [m_nj (by omega)]; exact m_b0 ((Eq.trans hg_r50) (by assumption)))] at h7; cases h7)
          refine lv_aload_n hx hb roQ_d56 rfl (lv_at hl 0 rfl) ?_
          refine lv_bipush hx hb roQ_d57 (v := (-3)) (by decide) ?_
          have ecm3 : ((-3) : Int32).toInt = (-3) := by decide
          refine lv_bipush hx hb roQ_d59 (v := (-20)) (by decide) ?_
          have ecm20 : ((-20) : Int32).toInt = (-20) := by decide
          refine y_call (z := (0, 221, 3, some 0, xM7)) (av := [.ref this, .int ((-3) : Int32), .int ((-20) : Int32)]) (rest := []) (y_cokV (n := 2) (ci := 11) X ym_countedAs rfl rfl rfl (x_cons (x_bw19 11 rfl rfl) (x_cons (x_bw19 13 rfl rfl) (x_cons (x_at 2 (by decide +kernel) rfl) (x_cons (x_bw0 1 rfl rfl) x_nilm)))) (x_bw19 14 rfl rfl) (by decide +kernel) ⟨Nat.le_of_ble_eq_true rfl, Nat.le_of_ble_eq_true rfl⟩) hY0 hI rfl roQ_d61 hl.1 (Nat.le_of_ble_eq_true rfl) (Nat.le_of_ble_eq_true rfl) (Nat.le_of_ble_eq_true rfl) (y_cons (y_cref hY_this rfl) (y_cons ⟨_, rfl, x_i32 _⟩ (y_cons ⟨_, rfl, x_i32 _⟩ y_nil))) rfl (y_recv rfl hY_this) trivial (y_sub_ef rfl) fun v Yn o Hn L ho hr ha hIn hx_ hE hP => ?_
          replace hs_hd := y_Efld hE hY_this rfl (by decide) (by decide) hs_hd
          replace hs_ey := y_Efld hE hY_this rfl (by decide) (by decide) hs_ey
          replace hs_vw := y_Efld hE hY_ey rfl (by decide) (by decide) hs_vw
          replace hn0 := y_Efld hE hY_hd rfl (by decide) (by decide) hn0
          replace hs_ro := y_Efld hE hY_this rfl (by decide) (by decide) hs_ro
          replace hs_sr := y_Efld hE hY_ro rfl (by decide) (by decide) hs_sr
          replace hs_hr := y_Efld hE hY_ro rfl (by decide) (by decide) hs_hr
          replace hsi_found := y_Efld hE hY_ro rfl (by decide) (by decide) hsi_found
          replace hA_vw := hA_vw.kept (y_Earr hE hY_vw rfl (by decide))
          replace hA_sr := hA_sr.kept (y_Earr hE hY_sr rfl (by decide))
          replace hL := hL.E hY_hd hE (fun q u h => y_ext hx_ hI.1 h) (by decide +kernel)
          replace hY_this := y_ext hx_ hI.1 hY_this
          replace hY_hd := y_ext hx_ hI.1 hY_hd
          replace hY_ey := y_ext hx_ hI.1 hY_ey
          replace hY_vw := y_ext hx_ hI.1 hY_vw
          replace hY_ro := y_ext hx_ hI.1 hY_ro
          replace hY_sr := y_ext hx_ hI.1 hY_sr
          replace hY_hr := y_ext hx_ hI.1 hY_hr
          obtain rfl := hP _ _ _ rfl
          clear ho hr ha hE hP hI hx_
          rename x_I _ _ _ _ _ _ _ _ _ _ => hI
          exact y_ireturn B hI rfl rfl rfl List.mem_cons_self ⟨_, rfl, ⟨_, rfl, x_i32 _⟩⟩ (x_cs.mono B.2.2.2.2.2 (y_mon B hI)) (fun t' w0' w1' w2' f' K' tt' nn' h1 h2 => by cases h1; obtain ⟨ef, -⟩ := hR0.eqs h2; subst ef; exact ⟨_, rfl, fun _ q8 q9 => absurd ⟨q8, q9⟩ hnl, fun _ _ => rfl, fun q9 => absurd hok q9⟩) (Nat.le_refl _) (Nat.le_refl _) roQ_d64
        · have q45_ : ¬ r42.toInt = (0 : Int32).toInt := fun q => q45 (Int32.toInt_inj.mp q)
          refine lv_aload_n hx hb roQ_d48 rfl (lv_at hl 0 rfl) ?_
          refine lv_iload_n hx hb roQ_d49 rfl (lv_at hl 2 rfl) ?_
          refine y_call (z := (0, 224, 2, some 0, xM92)) (av := [.ref this, .int b]) (rest := []) (y_cokV (n := 1) (ci := 11) X ym_isLawNow rfl rfl rfl (x_cons (x_bw49 1 rfl rfl) (x_cons (x_bw49 3 rfl rfl) (x_cons (x_at 17 (by decide +kernel) rfl) (x_cons (x_bw0 1 rfl rfl) x_nilm)))) (x_bw49 4 rfl rfl) (by decide +kernel) ⟨Nat.le_of_ble_eq_true rfl, Nat.le_of_ble_eq_true rfl⟩) hY0 hI rfl roQ_d50 hl.1 (Nat.le_of_ble_eq_true rfl) (Nat.le_of_ble_eq_true rfl) (Nat.le_of_ble_eq_true rfl) (y_cons (y_cref hY_this rfl) (y_cons ⟨_, rfl, x_i32 _⟩ y_nil)) rfl (y_recv rfl hY_this) trivial (y_sub_ef rfl) fun v Yn o Hn L ho hr ha hIn hx_ hE hP => ?_
          have hPl := hP _ _ _ _ _ rfl hs_ey hs_vw hA_vw
          obtain rfl := hPl
          replace hs_hd := y_Efld hE hY_this rfl (by decide) (by decide) hs_hd
          replace hs_ey := y_Efld hE hY_this rfl (by decide) (by decide) hs_ey
          replace hs_vw := y_Efld hE hY_ey rfl (by decide) (by decide) hs_vw
          replace hn0 := y_Efld hE hY_hd rfl (by decide) (by decide) hn0
          replace hs_ro := y_Efld hE hY_this rfl (by decide) (by decide) hs_ro
          replace hs_sr := y_Efld hE hY_ro rfl (by decide) (by decide) hs_sr
          replace hs_hr := y_Efld hE hY_ro rfl (by decide) (by decide) hs_hr
          replace hsi_found := y_Efld hE hY_ro rfl (by decide) (by decide) hsi_found
          replace hA_vw := hA_vw.kept (y_Earr hE hY_vw rfl (by decide))
          replace hA_sr := hA_sr.kept (y_Earr hE hY_sr rfl (by decide))
          replace hL := hL.E hY_hd hE (fun q u h => y_ext hx_ hI.1 h) (by decide +kernel)
          replace hY_this := y_ext hx_ hI.1 hY_this
          replace hY_hd := y_ext hx_ hI.1 hY_hd
          replace hY_ey := y_ext hx_ hI.1 hY_ey
          replace hY_vw := y_ext hx_ hI.1 hY_vw
          replace hY_ro := y_ext hx_ hI.1 hY_ro
          replace hY_sr := y_ext hx_ hI.1 hY_sr
          replace hY_hr := y_ext hx_ hI.1 hY_hr
          generalize hg_r50 : m_b (!(m_any (m_wr (m_VC f (f 4) (f 5) 0) b) 10)) = r50
          clear ho hr ha hE hP hI hx_
          rename x_I _ _ _ _ _ _ _ _ _ _ => hI
          refine lv_if_ne hx hb roQ_d53 (tgt := 65) (by decide) (fun q53 => ?_) (fun q53 => ?_)
          · have q53_ : ¬ r50.toInt = (0 : Int32).toInt := fun q => q53 (Int32.toInt_inj.mp q)
            have hLa := (show (m_LC (m_VC f (f 4) (f 5) 0)) a.toInt.toNat = true by unfold m_LC; rw [m_nj (by omega)]; exact m_bn (fun q => absurd ((Eq.trans (Eq.symm hg_r42)) q) (by assumption)))
            have hLb := (show (m_LC (m_VC f (f 4) (f 5) 0)) b.toInt.toNat = true by unfold m_LC; rw [m_nj (by omega)]; exact m_bn (fun q => absurd ((Eq.trans (Eq.symm hg_r50)) q) (by assumption)))
            refine lv_aload_n hx hb roQ_d65 rfl (lv_at hl 0 rfl) ?_
            refine y_getf X (fl205 X.2.2.2.2.1) hI.1 hY_this rfl hs_ro roQ_d66 ?_
            refine lv_iload_n hx hb roQ_d69 rfl (lv_at hl 2 rfl) ?_
            refine y_call (z := (0, 227, 2, some 8, xM96)) (av := [.ref ro, .int b]) (rest := []) (y_cokV (n := 1) (ci := 5) X ym_spread rfl rfl rfl (x_cons (x_bw49 5 rfl rfl) (x_cons (x_bw49 6 rfl rfl) (x_cons (x_bw49 7 rfl rfl) (x_cons (x_bw0 8 rfl rfl) x_nilm)))) (x_bw49 8 rfl rfl) (by decide +kernel) ⟨Nat.le_of_ble_eq_true rfl, Nat.le_of_ble_eq_true rfl⟩) hY0 hI rfl roQ_d70 hl.1 (Nat.le_of_ble_eq_true rfl) (Nat.le_of_ble_eq_true rfl) (Nat.le_of_ble_eq_true rfl) (y_cons (y_cref hY_ro rfl) (y_cons ⟨_, rfl, by show (0 : Int) ≤ _; omega, by show _ ≤ (1023 : Int); omega⟩ y_nil)) rfl (y_recv rfl hY_ro) trivial (y_sub_ef rfl) fun v Yn o Hn L ho hr ha hIn hx_ hE hP => ?_
            have hPs := hP _ _ _ _ _ _ rfl hs_sr hsi_found hA_sr hs_hr
            replace hs_hd := y_Efld hE hY_this rfl (by decide) (by decide) hs_hd
            replace hs_ey := y_Efld hE hY_this rfl (by decide) (by decide) hs_ey
            replace hs_vw := y_Efld hE hY_ey rfl (by decide) (by decide) hs_vw
            replace hn0 := y_Efld hE hY_hd rfl (by decide) (by decide) hn0
            replace hs_ro := y_Efld hE hY_this rfl (by decide) (by decide) hs_ro
            replace hs_sr := y_Efld hE hY_ro rfl (by decide) (by decide) hs_sr
            replace hs_hr := y_Efld hE hY_ro rfl (by decide) (by decide) hs_hr
            replace hsi_found := y_Efld hE hY_ro rfl (by decide) (by decide) hsi_found
            replace hA_vw := hA_vw.kept (y_Earr hE hY_vw rfl (by decide))
            replace hA_sr := hA_sr.kept (y_Earr hE hY_sr rfl (by decide))
            replace hL := hL.E hY_hd hE (fun q u h => y_ext hx_ hI.1 h) (by decide +kernel)
            replace hY_this := y_ext hx_ hI.1 hY_this
            replace hY_hd := y_ext hx_ hI.1 hY_hd
            replace hY_ey := y_ext hx_ hI.1 hY_ey
            replace hY_vw := y_ext hx_ hI.1 hY_vw
            replace hY_ro := y_ext hx_ hI.1 hY_ro
            replace hY_sr := y_ext hx_ hI.1 hY_sr
            replace hY_hr := y_ext hx_ hI.1 hY_hr
            obtain rfl := y_ansV rfl ho hr
            obtain ⟨F9, hA_hr, hDD⟩ := hPs
            have hD9 := hDD (m_LC (m_VC f (f 4) (f 5) 0)) (2 ^ (f 0).toInt.toNat) ⟨hpw, hfo, hse⟩ (by omega) (by assumption)
            clear ho hr ha hE hP hI hx_
            rename x_I _ _ _ _ _ _ _ _ _ _ => hI
            refine lv_aload_n hx hb roQ_d73 rfl (lv_at hl 0 rfl) ?_
            refine y_getf X (fl205 X.2.2.2.2.1) hI.1 hY_this rfl hs_ro roQ_d74 ?_
            refine y_getf X (fl207 X.2.2.2.2.1) hI.1 hY_ro rfl hs_hr roQ_d77 ?_
            refine lv_iload_n hx hb roQ_d80 rfl (lv_at hl 1 rfl) ?_
            refine y_iald X hI.1 hY_hr rfl hA_hr (by omega) (by show _ < (1024 : Int); omega) roQ_d81 ?_
            obtain ⟨e81, hg_e81⟩ : ∃ e81 : Int32, F9 a.toInt.toNat = e81 := ⟨_, rfl⟩
            rw [hg_e81]
            refine lv_istore hx hb roQ_d82 hl (by decide) (lv' := [(4, .int e81), (0, .ref this), (1, .int a), (2, .int b), (3, .int i)]) rfl fun ls hl => ?_
            refine lv_iload hx hb roQ_d84 (lv_at hl 0 rfl) ?_
            refine lv_iconst hx hb roQ_d86 (v := (-1)) (by decide) ?_
            refine lv_icmp_ne hx hb roQ_d87 (tgt := 93) (by decide) (fun q87 => ?_) (fun q87 => ?_)
            · have q87_ : ¬ e81.toInt = ((-1) : Int32).toInt := fun q => q87 (Int32.toInt_inj.mp q)
              refine lv_iload_n hx hb roQ_d93 rfl (lv_at hl 4 rfl) ?_
              refine lv_iconst hx hb roQ_d94 (v := (-1)) (by decide) ?_
              refine lv_icmp_ne hx hb roQ_d95 (tgt := 101) (by decide) (fun q95 => ?_) (fun q95 => ?_)
              · have q95_ : ¬ i.toInt = ((-1) : Int32).toInt := fun q => q95 (Int32.toInt_inj.mp q)
                refine lv_iload_n hx hb roQ_d101 rfl (lv_at hl 4 rfl) ?_
                refine lv_iload hx hb roQ_d102 (lv_at hl 0 rfl) ?_
                refine lv_icmp_le hx hb roQ_d104 (tgt := 112) (by decide) (fun q104 => ?_) (fun q104 => ?_)
                · have q104_ : i.toInt ≤ e81.toInt := x_le32.mp q104
                  refine lv_aload_n hx hb roQ_d112 rfl (lv_at hl 1 rfl) ?_
                  refine y_getf X (fl205 X.2.2.2.2.1) hI.1 hY_this rfl hs_ro roQ_d113 ?_
                  refine lv_iload_n hx hb roQ_d116 rfl (lv_at hl 2 rfl) ?_
                  refine lv_iload_n hx hb roQ_d117 rfl (lv_at hl 4 rfl) ?_
                  refine y_call (z := (0, 234, 3, some 8, xM98)) (av := [.ref ro, .int a, .int i]) (rest := []) (y_cokV (n := 2) (ci := 5) X ym_nearer rfl rfl rfl (x_cons (x_bw50 1 rfl rfl) (x_cons (x_bw50 2 rfl rfl) (x_cons (x_bw50 3 rfl rfl) (x_cons (x_bw0 8 rfl rfl) x_nilm)))) (x_bw50 4 rfl rfl) (by decide +kernel) ⟨Nat.le_of_ble_eq_true rfl, Nat.le_of_ble_eq_true rfl⟩) hY0 hI rfl roQ_d118 hl.1 (Nat.le_of_ble_eq_true rfl) (Nat.le_of_ble_eq_true rfl) (Nat.le_of_ble_eq_true rfl) (y_cons (y_cref hY_ro rfl) (y_cons ⟨_, rfl, by show (0 : Int) ≤ _; omega, by show _ ≤ (1023 : Int); omega⟩ (y_cons ⟨_, rfl, x_i32 _⟩ y_nil))) rfl (y_recv rfl hY_ro) trivial (y_sub_ef rfl) fun v Yn o Hn L ho hr ha hIn hx_ hE hP => ?_
                  have hPn := hP _ _ _ _ _ _ _ _ rfl hs_sr hsi_found hA_sr hs_hr hA_hr
                  replace hs_hd := y_Efld hE hY_this rfl (by decide) (by decide) hs_hd
                  replace hs_ey := y_Efld hE hY_this rfl (by decide) (by decide) hs_ey
                  replace hs_vw := y_Efld hE hY_ey rfl (by decide) (by decide) hs_vw
                  replace hn0 := y_Efld hE hY_hd rfl (by decide) (by decide) hn0
                  replace hs_ro := y_Efld hE hY_this rfl (by decide) (by decide) hs_ro
                  replace hs_sr := y_Efld hE hY_ro rfl (by decide) (by decide) hs_sr
                  replace hs_hr := y_Efld hE hY_ro rfl (by decide) (by decide) hs_hr
                  replace hsi_found := y_Efld hE hY_ro rfl (by decide) (by decide) hsi_found
                  replace hA_vw := hA_vw.kept (y_Earr hE hY_vw rfl (by decide))
                  replace hA_sr := hA_sr.kept (y_Earr hE hY_sr rfl (by decide))
                  replace hA_hr := hA_hr.kept (y_Earr hE hY_hr rfl (by decide))
                  replace hL := hL.E hY_hd hE (fun q u h => y_ext hx_ hI.1 h) (by decide +kernel)
                  replace hY_this := y_ext hx_ hI.1 hY_this
                  replace hY_hd := y_ext hx_ hI.1 hY_hd
                  replace hY_ey := y_ext hx_ hI.1 hY_ey
                  replace hY_vw := y_ext hx_ hI.1 hY_vw
                  replace hY_ro := y_ext hx_ hI.1 hY_ro
                  replace hY_sr := y_ext hx_ hI.1 hY_sr
                  replace hY_hr := y_ext hx_ hI.1 hY_hr
                  obtain ⟨r118, rfl, hne9⟩ := hPn
                  clear ho hr ha hE hP hI hx_
                  rename x_I _ _ _ _ _ _ _ _ _ _ => hI
                  have he81 : (F9 a.toInt.toNat).toInt = e81.toInt := by rw [hg_e81]
                  have hi9 : ¬ i.toInt = -1 := fun q9 => absurd (show i = -1 from Int32.toInt_inj.mp (q9.trans m_cm1.symm)) (by assumption)
                  have hge := hD9.1.ge hlt_a
                  have hnm : ¬ e81.toInt = -1 := fun q9 => absurd (show e81 = -1 from Int32.toInt_inj.mp (q9.trans m_cm1.symm)) (by assumption)
                  have hn8 := hne9 (m_LC (m_VC f (f 4) (f 5) 0)) (2 ^ (f 0).toInt.toNat) _ ⟨hpw, hfo, hse⟩ hD9 hlt_a (by omega) (by have := hok.2.2; omega) (by omega)
                  exact y_ireturn B hI rfl rfl rfl List.mem_cons_self ⟨_, rfl, ⟨_, rfl, x_i32 _⟩⟩ (x_cs.mono B.2.2.2.2.2 (y_mon B hI)) (fun t' w0' w1' w2' f' K' tt' nn' h1 h2 => by cases h1; obtain ⟨ef, -⟩ := hR0.eqs h2; subst ef; exact ⟨_, rfl, fun _ _ _ => ⟨F9, hD9, fun q9 => absurd (show e81 = -1 from Int32.toInt_inj.mp (by rw [m_cm1]; omega)) (by assumption), fun _ => ⟨fun q9 => absurd q9 (by assumption), fun _ => ⟨fun q9 => by exfalso; omega, fun _ => hn8⟩⟩⟩, fun _ q9 => absurd ⟨hLa, hLb⟩ q9, fun q9 => absurd hok q9⟩) (Nat.le_refl _) (Nat.le_refl _) roQ_d121
                · have q104_ : e81.toInt < i.toInt := Int.not_le.mp fun q => q104 (x_le32.mpr q)
                  refine lv_bipush hx hb roQ_d107 (v := (-5)) (by decide) ?_
                  have ecm5 : ((-5) : Int32).toInt = (-5) := by decide
                  refine lv_goto hx hb roQ_d109 (tgt := 121) (by decide) ?_
                  have he81 : (F9 a.toInt.toNat).toInt = e81.toInt := by rw [hg_e81]
                  exact y_ireturn B hI rfl rfl rfl List.mem_cons_self ⟨_, rfl, ⟨_, rfl, x_i32 _⟩⟩ (x_cs.mono B.2.2.2.2.2 (y_mon B hI)) (fun t' w0' w1' w2' f' K' tt' nn' h1 h2 => by cases h1; obtain ⟨ef, -⟩ := hR0.eqs h2; subst ef; exact ⟨_, rfl, fun _ _ _ => ⟨F9, hD9, fun q9 => absurd (show e81 = -1 from Int32.toInt_inj.mp (by rw [m_cm1]; omega)) (by assumption), fun _ => ⟨fun q9 => absurd q9 (by assumption), fun _ => ⟨fun _ => rfl, fun q9 => by exfalso; omega⟩⟩⟩, fun _ q9 => absurd ⟨hLa, hLb⟩ q9, fun q9 => absurd hok q9⟩) (Nat.le_refl _) (Nat.le_refl _) roQ_d121
              · have q95_ : i.toInt = ((-1) : Int32).toInt := by rw [q95]
                refine lv_iload hx hb roQ_d98 (lv_at hl 0 rfl) ?_
                have he81 : (F9 a.toInt.toNat).toInt = e81.toInt := by rw [hg_e81]
                exact y_ireturn B hI rfl rfl rfl List.mem_cons_self ⟨_, rfl, ⟨_, rfl, x_i32 _⟩⟩ (x_cs.mono B.2.2.2.2.2 (y_mon B hI)) (fun t' w0' w1' w2' f' K' tt' nn' h1 h2 => by cases h1; obtain ⟨ef, -⟩ := hR0.eqs h2; subst ef; exact ⟨_, rfl, fun _ _ _ => ⟨F9, hD9, fun q9 => absurd (show e81 = -1 from Int32.toInt_inj.mp (by rw [m_cm1]; omega)) (by assumption), fun _ => ⟨fun _ => (Eq.symm hg_e81), fun q9 => absurd (by assumption) q9⟩⟩, fun _ q9 => absurd ⟨hLa, hLb⟩ q9, fun q9 => absurd hok q9⟩) (Nat.le_refl _) (Nat.le_refl _) roQ_d100
            · have q87_ : e81.toInt = ((-1) : Int32).toInt := by rw [q87]
              refine lv_bipush hx hb roQ_d90 (v := (-6)) (by decide) ?_
              have ecm6 : ((-6) : Int32).toInt = (-6) := by decide
              have he81 : (F9 a.toInt.toNat).toInt = e81.toInt := by rw [hg_e81]
              exact y_ireturn B hI rfl rfl rfl List.mem_cons_self ⟨_, rfl, ⟨_, rfl, x_i32 _⟩⟩ (x_cs.mono B.2.2.2.2.2 (y_mon B hI)) (fun t' w0' w1' w2' f' K' tt' nn' h1 h2 => by cases h1; obtain ⟨ef, -⟩ := hR0.eqs h2; subst ef; exact ⟨_, rfl, fun _ _ _ => ⟨F9, hD9, fun _ => rfl, fun q9 => absurd (by rw [he81, show e81 = -1 by assumption]; exact m_cm1) q9⟩, fun _ q9 => absurd ⟨hLa, hLb⟩ q9, fun q9 => absurd hok q9⟩) (Nat.le_refl _) (Nat.le_refl _) roQ_d92
          · have q53_ : r50.toInt = (0 : Int32).toInt := by rw [q53]
            have hnl : ¬ ((m_LC (m_VC f (f 4) (f 5) 0)) a.toInt.toNat = true ∧ (m_LC (m_VC f (f 4) (f 5) 0)) b.toInt.toNat = true) := fun q9 => by first | (have h7 := q9.1; rw [(show (m_LC (m_VC f (f 4) (f 5) 0)) a.toInt.toNat = false by unfold m_LC; rw [m_nj (by omega)]; exact m_b0 ((Eq.trans hg_r42) (by assumption)))] at h7; cases h7) | (have h7 := q9.2; rw [(show (m_LC (m_VC f (f 4) (f 5) 0)) b.toInt.toNat = false by unfold m_LC; rw [m_nj (by omega)]; exact m_b0 ((Eq.trans hg_r50) (by assumption)))] at h7; cases h7)
            refine lv_aload_n hx hb roQ_d56 rfl (lv_at hl 0 rfl) ?_
            refine lv_bipush hx hb roQ_d57 (v := (-3)) (by decide) ?_
            have ecm3 : ((-3) : Int32).toInt = (-3) := by decide
            refine lv_bipush hx hb roQ_d59 (v := (-20)) (by decide) ?_
            have ecm20 : ((-20) : Int32).toInt = (-20) := by decide
            refine y_call (z := (0, 221, 3, some 0, xM7)) (av := [.ref this, .int ((-3) : Int32), .int ((-20) : Int32)]) (rest := []) (y_cokV (n := 2) (ci := 11) X ym_countedAs rfl rfl rfl (x_cons (x_bw19 11 rfl rfl) (x_cons (x_bw19 13 rfl rfl) (x_cons (x_at 2 (by decide +kernel) rfl) (x_cons (x_bw0 1 rfl rfl) x_nilm)))) (x_bw19 14 rfl rfl) (by decide +kernel) ⟨Nat.le_of_ble_eq_true rfl, Nat.le_of_ble_eq_true rfl⟩) hY0 hI rfl roQ_d61 hl.1 (Nat.le_of_ble_eq_true rfl) (Nat.le_of_ble_eq_true rfl) (Nat.le_of_ble_eq_true rfl) (y_cons (y_cref hY_this rfl) (y_cons ⟨_, rfl, x_i32 _⟩ (y_cons ⟨_, rfl, x_i32 _⟩ y_nil))) rfl (y_recv rfl hY_this) trivial (y_sub_ef rfl) fun v Yn o Hn L ho hr ha hIn hx_ hE hP => ?_
            replace hs_hd := y_Efld hE hY_this rfl (by decide) (by decide) hs_hd
            replace hs_ey := y_Efld hE hY_this rfl (by decide) (by decide) hs_ey
            replace hs_vw := y_Efld hE hY_ey rfl (by decide) (by decide) hs_vw
            replace hn0 := y_Efld hE hY_hd rfl (by decide) (by decide) hn0
            replace hs_ro := y_Efld hE hY_this rfl (by decide) (by decide) hs_ro
            replace hs_sr := y_Efld hE hY_ro rfl (by decide) (by decide) hs_sr
            replace hs_hr := y_Efld hE hY_ro rfl (by decide) (by decide) hs_hr
            replace hsi_found := y_Efld hE hY_ro rfl (by decide) (by decide) hsi_found
            replace hA_vw := hA_vw.kept (y_Earr hE hY_vw rfl (by decide))
            replace hA_sr := hA_sr.kept (y_Earr hE hY_sr rfl (by decide))
            replace hL := hL.E hY_hd hE (fun q u h => y_ext hx_ hI.1 h) (by decide +kernel)
            replace hY_this := y_ext hx_ hI.1 hY_this
            replace hY_hd := y_ext hx_ hI.1 hY_hd
            replace hY_ey := y_ext hx_ hI.1 hY_ey
            replace hY_vw := y_ext hx_ hI.1 hY_vw
            replace hY_ro := y_ext hx_ hI.1 hY_ro
            replace hY_sr := y_ext hx_ hI.1 hY_sr
            replace hY_hr := y_ext hx_ hI.1 hY_hr
            obtain rfl := hP _ _ _ rfl
            clear ho hr ha hE hP hI hx_
            rename x_I _ _ _ _ _ _ _ _ _ _ => hI
            exact y_ireturn B hI rfl rfl rfl List.mem_cons_self ⟨_, rfl, ⟨_, rfl, x_i32 _⟩⟩ (x_cs.mono B.2.2.2.2.2 (y_mon B hI)) (fun t' w0' w1' w2' f' K' tt' nn' h1 h2 => by cases h1; obtain ⟨ef, -⟩ := hR0.eqs h2; subst ef; exact ⟨_, rfl, fun _ q8 q9 => absurd ⟨q8, q9⟩ hnl, fun _ _ => rfl, fun q9 => absurd hok q9⟩) (Nat.le_refl _) (Nat.le_refl _) roQ_d64
      · have q24_ : i.toInt < ((-1) : Int32).toInt := Int.not_le.mp fun q => q24 (x_le32.mpr q)
        have hno : ¬ (m_isS f a ∧ m_isS f b ∧ -1 ≤ i.toInt) := fun q9 => by first | exact hout_r5 (by assumption) q9.1 | exact hout_r16 (by assumption) q9.2.1 | (have h7 := q9.2.2; omega)
        refine lv_aload_n hx hb roQ_d27 rfl (lv_at hl 0 rfl) ?_
        refine lv_bipush hx hb roQ_d28 (v := (-2)) (by decide) ?_
        have ecm2 : ((-2) : Int32).toInt = (-2) := by decide
        refine lv_bipush hx hb roQ_d30 (v := (-10)) (by decide) ?_
        have ecm10 : ((-10) : Int32).toInt = (-10) := by decide
        refine y_call (z := (0, 221, 3, some 0, xM7)) (av := [.ref this, .int ((-2) : Int32), .int ((-10) : Int32)]) (rest := []) (y_cokV (n := 2) (ci := 11) X ym_countedAs rfl rfl rfl (x_cons (x_bw19 11 rfl rfl) (x_cons (x_bw19 13 rfl rfl) (x_cons (x_at 2 (by decide +kernel) rfl) (x_cons (x_bw0 1 rfl rfl) x_nilm)))) (x_bw19 14 rfl rfl) (by decide +kernel) ⟨Nat.le_of_ble_eq_true rfl, Nat.le_of_ble_eq_true rfl⟩) hY0 hI rfl roQ_d32 hl.1 (Nat.le_of_ble_eq_true rfl) (Nat.le_of_ble_eq_true rfl) (Nat.le_of_ble_eq_true rfl) (y_cons (y_cref hY_this rfl) (y_cons ⟨_, rfl, x_i32 _⟩ (y_cons ⟨_, rfl, x_i32 _⟩ y_nil))) rfl (y_recv rfl hY_this) trivial (y_sub_ef rfl) fun v Yn o Hn L ho hr ha hIn hx_ hE hP => ?_
        replace hs_hd := y_Efld hE hY_this rfl (by decide) (by decide) hs_hd
        replace hs_ey := y_Efld hE hY_this rfl (by decide) (by decide) hs_ey
        replace hs_vw := y_Efld hE hY_ey rfl (by decide) (by decide) hs_vw
        replace hn0 := y_Efld hE hY_hd rfl (by decide) (by decide) hn0
        replace hs_ro := y_Efld hE hY_this rfl (by decide) (by decide) hs_ro
        replace hs_sr := y_Efld hE hY_ro rfl (by decide) (by decide) hs_sr
        replace hs_hr := y_Efld hE hY_ro rfl (by decide) (by decide) hs_hr
        replace hL := hL.E hY_hd hE (fun q u h => y_ext hx_ hI.1 h) (by decide +kernel)
        replace hY_this := y_ext hx_ hI.1 hY_this
        replace hY_hd := y_ext hx_ hI.1 hY_hd
        replace hY_ey := y_ext hx_ hI.1 hY_ey
        replace hY_vw := y_ext hx_ hI.1 hY_vw
        replace hY_ro := y_ext hx_ hI.1 hY_ro
        replace hY_sr := y_ext hx_ hI.1 hY_sr
        replace hY_hr := y_ext hx_ hI.1 hY_hr
        obtain rfl := hP _ _ _ rfl
        clear ho hr ha hE hP hI hx_
        rename x_I _ _ _ _ _ _ _ _ _ _ => hI
        exact y_ireturn B hI rfl rfl rfl List.mem_cons_self ⟨_, rfl, ⟨_, rfl, x_i32 _⟩⟩ (x_cs.mono B.2.2.2.2.2 (y_mon B hI)) (fun t' w0' w1' w2' f' K' tt' nn' h1 h2 => by cases h1; obtain ⟨ef, -⟩ := hR0.eqs h2; subst ef; exact ⟨_, rfl, fun q9 => absurd q9 hno, fun q9 => absurd q9 hno, fun _ => rfl⟩) (Nat.le_refl _) (Nat.le_refl _) roQ_d35
