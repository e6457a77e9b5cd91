def z_Piln : yP := fun D av _ H v _ _ => ∀ (this ey vw : Nat) (w : Int32) (V : Nat → Int32), av = [.ref this, .int w] → x_sl D 11 4 this H = some (.ref ey) → x_sl D 0 1 ey H = some (.ref vw) → y_A vw 10 H V → v = some (.int (m_b (!(m_any (m_wr V w) 10))))
theorem ilq_d0 : decode xM92.2.1 0 = .ok (.aload_n 0, 1) := dz_ok (by decide +kernel)
theorem ilq_d1 : decode xM92.2.1 1 = .ok (.getfield 33, 3) := dz_ok (by decide +kernel)
theorem ilq_d4 : decode xM92.2.1 4 = .ok (.iload_n 1, 1) := dz_ok (by decide +kernel)
theorem ilq_d5 : decode xM92.2.1 5 = .ok (.invokevirtual 172, 3) := dz_ok (by decide +kernel)
theorem ilq_d8 : decode xM92.2.1 8 = .ok (.iconst (-1), 1) := dz_ok (by decide +kernel)
theorem ilq_d9 : decode xM92.2.1 9 = .ok (.if_icmp .ne 7, 3) := dz_ok (by decide +kernel)
theorem ilq_d12 : decode xM92.2.1 12 = .ok (.iconst 1, 1) := dz_ok (by decide +kernel)
theorem ilq_d13 : decode xM92.2.1 13 = .ok (.goto 4, 3) := dz_ok (by decide +kernel)
theorem ilq_d16 : decode xM92.2.1 16 = .ok (.iconst 0, 1) := dz_ok (by decide +kernel)
theorem ilq_d17 : decode xM92.2.1 17 = .ok (.ireturn, 1) := dz_ok (by decide +kernel)
theorem ym_isLawNow : y_Met vwCl x_G x_Zs x_Tb x_Nb xM92 y_T z_Piln := by
  refine y_main (by decide +kernel) (by decide +kernel) x_Tb_good x_Nb_ok ?_
  intro p l e s m below meth c D U Y0 av ls B hI _ hl
  have X := B.1
  have hx := X.1
  have hb := X.2.1
  have hY0 := B.2.2.2.2.1
  obtain ⟨v0, v1, rfl, hv0, ⟨w, rfl, -⟩⟩ := x_two B.2.2.2.2.2
  obtain ⟨this, t0, rfl, ht0, hY_this⟩ := x_ref_at hv0 rfl
  obtain rfl := List.mem_singleton.mp ht0
  replace hl : lv_has ls xM92.2.2.1 [(0, .ref this), (1, .int w)] := hl
  obtain ⟨ey, hs_ey, hY_ey⟩ := y_fldR (k := 4) hI.1 hY_this rfl rfl
  obtain ⟨vw, hs_vw, hY_vw⟩ := y_fldR (k := 1) hI.1 hY_ey rfl rfl
  obtain ⟨V, hA_vw, -⟩ := y_arr hI.1 hY_vw rfl rfl
  have hs4 := hs_ey
  have hs1 := hs_vw
  have hA0 := hA_vw
  refine lv_aload_n hx hb ilq_d0 rfl (lv_at hl 0 rfl) ?_
  refine y_getf X (fl102 X.2.2.2.2.1) hI.1 hY_this rfl hs_ey ilq_d1 ?_
  refine lv_iload_n hx hb ilq_d4 rfl (lv_at hl 1 rfl) ?_
  refine y_call (z := (0, 172, 2, some 6, xM72)) (av := [.ref ey, .int w]) (rest := []) (y_cokV (n := 1) (ci := 0) X ym_firstWrong rfl rfl rfl (x_cons (x_bw42 10 rfl rfl) (x_cons (x_bw42 11 rfl rfl) (x_cons (x_bw42 12 rfl rfl) (x_cons (x_bw0 6 rfl rfl) x_nilm)))) (x_bw42 13 rfl rfl) (by decide +kernel) ⟨Nat.le_of_ble_eq_true rfl, Nat.le_of_ble_eq_true rfl⟩) hY0 hI rfl ilq_d5 hl.1 (Nat.le_of_ble_eq_true rfl) (Nat.le_of_ble_eq_true rfl) (Nat.le_of_ble_eq_true rfl) (y_cons (y_cref hY_ey rfl) (y_cons ⟨_, rfl, x_i32 _⟩ y_nil)) rfl (y_recv rfl hY_ey) trivial (y_sub_ef rfl) fun v Yn o Hn L ho hr ha hIn hx_ hE hP => ?_
  have hPw := hP _ _ _ _ rfl hs_vw hA_vw
  replace hs_ey := y_Efld hE hY_this rfl (by decide) (by decide) hs_ey
  replace hs_vw := y_Efld hE hY_ey rfl (by decide) (by decide) hs_vw
  replace hA_vw := hA_vw.kept (y_Earr hE hY_vw rfl (by decide))
  replace hY_this := y_ext hx_ hI.1 hY_this
  replace hY_ey := y_ext hx_ hI.1 hY_ey
  replace hY_vw := y_ext hx_ hI.1 hY_vw
  obtain ⟨r5, rfl, hfw_5⟩ := hPw
  clear ho hr ha hE hP hI hx_
  rename x_I _ _ _ _ _ _ _ _ _ _ => hI
  refine lv_iconst hx hb ilq_d8 (v := (-1)) (by decide) ?_
  have ecm1 : ((-1) : Int32).toInt = (-1) := by decide
  refine lv_icmp_ne hx hb ilq_d9 (tgt := 16) (by decide) (fun q9 => ?_) (fun q9 => ?_)
  · have q9_ : ¬ r5.toInt = ((-1) : Int32).toInt := fun q => q9 (Int32.toInt_inj.mp q)
    refine lv_iconst hx hb ilq_d16 (v := 0) (by decide) ?_
    have ec0 : (0 : Int32).toInt = 0 := by decide
    have he : m_b (!(m_any (m_wr V w) 10)) = 0 := by cases hX : m_any (m_wr V w) 10 with | false => exact absurd ((m_fw_LC hfw_5).mpr hX) q9 | true => rfl
    exact y_ireturn B hI rfl rfl rfl (List.mem_cons_of_mem _ List.mem_cons_self) ⟨_, rfl, ⟨_, rfl, by decide, by decide⟩⟩ (x_cs.mono B.2.2.2.2.2 (y_mon B hI)) (fun t' e' v' w' V' h1 h2 h3 h4 => by cases h1; cases h2.symm.trans hs4; cases h3.symm.trans hs1; rw [show m_any (m_wr V' w) 10 = m_any (m_wr V w) 10 from m_any_congr fun i hi => by unfold m_wr; rw [z_AR h4 hA0 hi], he]) (Nat.le_refl _) (Nat.le_refl _) ilq_d17
  · have q9_ : r5.toInt = ((-1) : Int32).toInt := by rw [q9]
    refine lv_iconst hx hb ilq_d12 (v := 1) (by decide) ?_
    have ec1 : (1 : Int32).toInt = 1 := by decide
    refine lv_goto hx hb ilq_d13 (tgt := 17) (by decide) ?_
    have he : m_b (!(m_any (m_wr V w) 10)) = 1 := by rw [(m_fw_LC hfw_5).mp q9]; rfl
    exact y_ireturn B hI rfl rfl rfl List.mem_cons_self ⟨_, rfl, ⟨_, rfl, by decide, by decide⟩⟩ (x_cs.mono B.2.2.2.2.2 (y_mon B hI)) (fun t' e' v' w' V' h1 h2 h3 h4 => by cases h1; cases h2.symm.trans hs4; cases h3.symm.trans hs1; rw [show m_any (m_wr V' w) 10 = m_any (m_wr V w) 10 from m_any_congr fun i hi => by unfold m_wr; rw [z_AR h4 hA0 hi], he]) (Nat.le_refl _) (Nat.le_refl _) ilq_d17
def m_alC (f : Nat → Int32) (n r : Int32) : Prop := (-1 ≤ n.toInt ∧ n.toInt ≤ 10 → (n = -1 → r.toInt = (m_cn (m_LC (m_VC f (f 4) (f 5) 0)) (2 ^ (f 0).toInt.toNat) : Nat)) ∧ (¬ n = -1 → r = m_fd (m_LC (m_VC f (f 4) (f 5) 0)) (m_ofSt n) 0 (2 ^ (f 0).toInt.toNat))) ∧ (¬ (-1 ≤ n.toInt ∧ n.toInt ≤ 10) → r = -2)
def m_amOk (f : Nat → Int32) (h t : Int32) : Prop := (h = -1 ∨ m_isH f h) ∧ 0 ≤ t.toInt ∧ t.toInt ≤ 1
def m_amW (h : Int32) : Int32 := if h = -1 then 0 else 1 <<< (h &&& 31)
def m_amC (f : Nat → Int32) (h t r : Int32) : Prop := (m_amOk f h t → (m_fd (m_LC (m_VC f (f 4) (f 5) 0)) (m_fuSt (m_amW h)) (-1) (2 ^ (f 0).toInt.toNat) = -1 → r = -3) ∧ (¬ m_fd (m_LC (m_VC f (f 4) (f 5) 0)) (m_fuSt (m_amW h)) (-1) (2 ^ (f 0).toInt.toNat) = -1 → (t = 0 → r = m_bc (m_fd (m_LC (m_VC f (f 4) (f 5) 0)) (m_fuSt (m_amW h)) (-1) (2 ^ (f 0).toInt.toNat))) ∧ (¬ t = 0 → r = m_fd (m_LC (m_VC f (f 4) (f 5) 0)) (m_fuSt (m_amW h)) (-1) (2 ^ (f 0).toInt.toNat)))) ∧ (¬ m_amOk f h t → r = -2)
