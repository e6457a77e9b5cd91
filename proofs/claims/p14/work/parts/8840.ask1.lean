/-! WHAT A CALL ANSWERS of sight: V what each hill sees, n what bits it counts by -/
def m_isS (f : Nat → Int32) (s : Int32) : Prop := 0 ≤ s.toInt ∧ s.toInt ≤ (z_all (f 0)).toInt
theorem m_shB : ∀ k : Fin 11, ((1 : Int32) <<< (nI k &&& 31)).toInt = (z_all (nI k)).toInt + 1 := by decide
theorem m_sh1 {n : Int32} (h : 0 ≤ n.toInt ∧ n.toInt ≤ 10) : ((1 : Int32) <<< (n &&& 31)).toInt = (z_all n).toInt + 1 := by
  have := m_shB ⟨n.toInt.toNat, by omega⟩
  rw [m_nj h.1] at this; exact this
def m_asC (f : Nat → Int32) (a b r : Int32) : Prop := (m_isH f a ∧ m_isH f b ∧ ¬ a = b → r = ((m_VC f (f 4) (f 5) 0) a.toInt.toNat >>> (b &&& 31)) &&& 1) ∧ (¬ (m_isH f a ∧ m_isH f b ∧ ¬ a = b) → r = -2)
def m_aeC (f : Nat → Int32) (h w r : Int32) : Prop := (m_isH f h ∧ m_isS f w → r = (m_VC f (f 4) (f 5) 0) h.toInt.toNat &&& w) ∧ (¬ (m_isH f h ∧ m_isS f w) → r = -2)
def m_ajC (f : Nat → Int32) (w t r : Int32) : Prop := (m_isS f w ∧ 0 ≤ t.toInt ∧ t.toInt ≤ 1 → ∃ k : Int32, m_fw (m_VC f (f 4) (f 5) 0) w k ∧ (k = -1 ∨ t = 0 → r = k) ∧ (¬ k = -1 → ¬ t = 0 → r = m_bc ((m_VC f (f 4) (f 5) 0) k.toInt.toNat &&& w))) ∧ (¬ (m_isS f w ∧ 0 ≤ t.toInt ∧ t.toInt ≤ 1) → r = -2)
def z_Phset : yP := fun D av Y H v _ _ => ∀ (this : Nat) (i : Int32) (f : Nat → Int32), av = [.ref this, .int i] → x_sl D 2 0 this H = some (.int (f 0)) → ∃ r : Int32, v = some (.int r) ∧ (¬ r = 0 → m_isS f i) ∧ (r = 0 → ¬ m_isS f i)
theorem hsetq_d0 : decode xM67.2.1 0 = .ok (.iload_n 1, 1) := dz_ok (by decide +kernel)
theorem hsetq_d1 : decode xM67.2.1 1 = .ok (.ifCond .lt 17, 3) := dz_ok (by decide +kernel)
theorem hsetq_d4 : decode xM67.2.1 4 = .ok (.iload_n 1, 1) := dz_ok (by decide +kernel)
theorem hsetq_d5 : decode xM67.2.1 5 = .ok (.iconst 1, 1) := dz_ok (by decide +kernel)
theorem hsetq_d6 : decode xM67.2.1 6 = .ok (.aload_n 0, 1) := dz_ok (by decide +kernel)
theorem hsetq_d7 : decode xM67.2.1 7 = .ok (.getfield 63, 3) := dz_ok (by decide +kernel)
theorem hsetq_d10 : decode xM67.2.1 10 = .ok (.ishl, 1) := dz_ok (by decide +kernel)
theorem hsetq_d11 : decode xM67.2.1 11 = .ok (.if_icmp .ge 7, 3) := dz_ok (by decide +kernel)
theorem hsetq_d14 : decode xM67.2.1 14 = .ok (.iconst 1, 1) := dz_ok (by decide +kernel)
theorem hsetq_d15 : decode xM67.2.1 15 = .ok (.goto 4, 3) := dz_ok (by decide +kernel)
theorem hsetq_d18 : decode xM67.2.1 18 = .ok (.iconst 0, 1) := dz_ok (by decide +kernel)
theorem hsetq_d19 : decode xM67.2.1 19 = .ok (.ireturn, 1) := dz_ok (by decide +kernel)
theorem ym_hasSet : y_Met vwCl x_G x_Zs x_Tb x_Nb xM67 y_T z_Phset := by
  refine y_main (by decide +kernel) (by decide +kernel) x_Tb_good x_Nb_ok ?_
  intro p l e s m below meth c D U Y0 av ls B hI _ hl
  have X := B.1
  have hx := X.1
  have hb := X.2.1
  have hY0 := B.2.2.2.2.1
  obtain ⟨v0, v1, rfl, hv0, ⟨i, rfl, -⟩⟩ := x_two B.2.2.2.2.2
  obtain ⟨this, t0, rfl, ht0, hY_this⟩ := x_ref_at hv0 rfl
  obtain rfl := List.mem_singleton.mp ht0
  replace hl : lv_has ls xM67.2.2.1 [(0, .ref this), (1, .int i)] := hl
  obtain ⟨n9, hn9, hb9⟩ := y_fldI (k := 0) hI.1 hY_this rfl rfl
  replace hb9 : (0 : Int) ≤ n9.toInt ∧ n9.toInt ≤ 10 := hb9
  have hn0 := hn9
  refine lv_iload_n hx hb hsetq_d0 rfl (lv_at hl 1 rfl) ?_
  have ec0 : (0 : Int32).toInt = 0 := by decide
  refine lv_if_lt hx hb hsetq_d1 (tgt := 18) (by decide) (fun q1 => ?_) (fun q1 => ?_)
  · have q1_ : i.toInt < (0 : Int32).toInt := x_lt32.mp q1
    refine lv_iconst hx hb hsetq_d18 (v := 0) (by decide) ?_
    exact y_ireturn B hI rfl rfl rfl (List.mem_cons_of_mem _ List.mem_cons_self) ⟨_, rfl, ⟨_, rfl, by decide, by decide⟩⟩ (x_cs.mono B.2.2.2.2.2 (y_mon B hI)) (fun t' i' f' h1 h2 => by cases h1; have e9 := z_intI hn0 h2; exact ⟨_, rfl, fun q9 => absurd rfl q9, fun _ q9 => by have h7 := m_sh1 hb9; have h8 := q9.1; have h6 := q9.2; rw [← e9] at h6; omega⟩) (Nat.le_refl _) (Nat.le_refl _) hsetq_d19
  · have q1_ : (0 : Int32).toInt ≤ i.toInt := Int.not_lt.mp fun q => q1 (x_lt32.mpr q)
    refine lv_iload_n hx hb hsetq_d4 rfl (lv_at hl 1 rfl) ?_
    refine lv_iconst hx hb hsetq_d5 (v := 1) (by decide) ?_
    have ec1 : (1 : Int32).toInt = 1 := by decide
    refine lv_aload_n hx hb hsetq_d6 rfl (lv_at hl 0 rfl) ?_
    refine y_getf X (fl2 X.2.2.2.2.1) hI.1 hY_this rfl hn9 hsetq_d7 ?_
    refine lv_ishl hx hb hsetq_d10 ?_
    generalize hg_z10 : (1 : Int32) <<< (n9 &&& 31) = z10
    refine lv_icmp_ge hx hb hsetq_d11 (tgt := 18) (by decide) (fun q11 => ?_) (fun q11 => ?_)
    · have q11_ : z10.toInt ≤ i.toInt := x_le32.mp q11
      refine lv_iconst hx hb hsetq_d18 (v := 0) (by decide) ?_
      subst hg_z10
      exact y_ireturn B hI rfl rfl rfl (List.mem_cons_of_mem _ List.mem_cons_self) ⟨_, rfl, ⟨_, rfl, by decide, by decide⟩⟩ (x_cs.mono B.2.2.2.2.2 (y_mon B hI)) (fun t' i' f' h1 h2 => by cases h1; have e9 := z_intI hn0 h2; exact ⟨_, rfl, fun q9 => absurd rfl q9, fun _ q9 => by have h7 := m_sh1 hb9; have h8 := q9.1; have h6 := q9.2; rw [← e9] at h6; omega⟩) (Nat.le_refl _) (Nat.le_refl _) hsetq_d19
    · have q11_ : i.toInt < z10.toInt := Int.not_le.mp fun q => q11 (x_le32.mpr q)
      refine lv_iconst hx hb hsetq_d14 (v := 1) (by decide) ?_
      refine lv_goto hx hb hsetq_d15 (tgt := 19) (by decide) ?_
      subst hg_z10
      exact y_ireturn B hI rfl rfl rfl List.mem_cons_self ⟨_, rfl, ⟨_, rfl, by decide, by decide⟩⟩ (z_cs22 (y_cref hY_this rfl) ⟨_, rfl, by show (0 : Int) ≤ _; omega, by show _ ≤ (1023 : Int); have h7 := m_sh1 hb9; have h6 := z_all_b hb9; omega⟩) (fun t' i' f' h1 h2 => by cases h1; have e9 := z_intI hn0 h2; exact ⟨_, rfl, fun _ => ⟨by omega, by have h7 := m_sh1 hb9; rw [← e9]; omega⟩, fun q9 => absurd q9 (by decide)⟩) (Nat.le_refl _) (Nat.le_refl _) hsetq_d19
def z_PTjudge : yP := fun D av Y H v _ _ => ∀ (this : Nat) (w t : Int32) (f : Nat → Int32) (K : Nat → Option (Nat → Int32)) (t9 : Nat → Int32) (n9 : Int32), av = [.ref this, .int w, .int t] → z_RC D Y H this f K t9 n9 → ∃ r : Int32, v = some (.int r) ∧ m_ajC f w t r
theorem m_fw_rg {V : Nat → Int32} {w r : Int32} (h : m_fw V w r) (hn : ¬ r = -1) : 0 ≤ r.toInt ∧ r.toInt ≤ 9 := by
  rcases h with ⟨k, h1, h2, -⟩ | ⟨h1, -⟩
  · omega
  · exact absurd h1 hn
theorem juQ_d0 : decode xM73.2.1 0 = .ok (.aload_n 0, 1) := dz_ok (by decide +kernel)
theorem juQ_d1 : decode xM73.2.1 1 = .ok (.getfield 12, 3) := dz_ok (by decide +kernel)
theorem juQ_d4 : decode xM73.2.1 4 = .ok (.iload_n 1, 1) := dz_ok (by decide +kernel)
theorem juQ_d5 : decode xM73.2.1 5 = .ok (.invokevirtual 169, 3) := dz_ok (by decide +kernel)
theorem juQ_d8 : decode xM73.2.1 8 = .ok (.ifCond .eq 12, 3) := dz_ok (by decide +kernel)
theorem juQ_d11 : decode xM73.2.1 11 = .ok (.iload_n 2, 1) := dz_ok (by decide +kernel)
theorem juQ_d12 : decode xM73.2.1 12 = .ok (.iconst 0, 1) := dz_ok (by decide +kernel)
theorem juQ_d13 : decode xM73.2.1 13 = .ok (.iconst 1, 1) := dz_ok (by decide +kernel)
theorem juQ_d14 : decode xM73.2.1 14 = .ok (.invokestatic 88, 3) := dz_ok (by decide +kernel)
theorem juQ_d17 : decode xM73.2.1 17 = .ok (.ifCond .ne 10, 3) := dz_ok (by decide +kernel)
theorem juQ_d20 : decode xM73.2.1 20 = .ok (.aload_n 0, 1) := dz_ok (by decide +kernel)
theorem juQ_d21 : decode xM73.2.1 21 = .ok (.bipush (-2), 2) := dz_ok (by decide +kernel)
theorem juQ_d23 : decode xM73.2.1 23 = .ok (.invokevirtual 59, 3) := dz_ok (by decide +kernel)
theorem juQ_d26 : decode xM73.2.1 26 = .ok (.ireturn, 1) := dz_ok (by decide +kernel)
theorem juQ_d27 : decode xM73.2.1 27 = .ok (.aload_n 0, 1) := dz_ok (by decide +kernel)
theorem juQ_d28 : decode xM73.2.1 28 = .ok (.invokevirtual 104, 3) := dz_ok (by decide +kernel)
theorem juQ_d31 : decode xM73.2.1 31 = .ok (.aload_n 0, 1) := dz_ok (by decide +kernel)
theorem juQ_d32 : decode xM73.2.1 32 = .ok (.getfield 33, 3) := dz_ok (by decide +kernel)
theorem juQ_d35 : decode xM73.2.1 35 = .ok (.iload_n 1, 1) := dz_ok (by decide +kernel)
theorem juQ_d36 : decode xM73.2.1 36 = .ok (.invokevirtual 172, 3) := dz_ok (by decide +kernel)
theorem juQ_d39 : decode xM73.2.1 39 = .ok (.istore_n 3, 1) := dz_ok (by decide +kernel)
theorem juQ_d40 : decode xM73.2.1 40 = .ok (.iload_n 3, 1) := dz_ok (by decide +kernel)
theorem juQ_d41 : decode xM73.2.1 41 = .ok (.iconst (-1), 1) := dz_ok (by decide +kernel)
theorem juQ_d42 : decode xM73.2.1 42 = .ok (.if_icmp .eq 7, 3) := dz_ok (by decide +kernel)
theorem juQ_d45 : decode xM73.2.1 45 = .ok (.iload_n 2, 1) := dz_ok (by decide +kernel)
theorem juQ_d46 : decode xM73.2.1 46 = .ok (.ifCond .ne 7, 3) := dz_ok (by decide +kernel)
theorem juQ_d49 : decode xM73.2.1 49 = .ok (.iload_n 3, 1) := dz_ok (by decide +kernel)
theorem juQ_d50 : decode xM73.2.1 50 = .ok (.goto 17, 3) := dz_ok (by decide +kernel)
theorem juQ_d53 : decode xM73.2.1 53 = .ok (.aload_n 0, 1) := dz_ok (by decide +kernel)
theorem juQ_d54 : decode xM73.2.1 54 = .ok (.getfield 33, 3) := dz_ok (by decide +kernel)
theorem juQ_d57 : decode xM73.2.1 57 = .ok (.getfield 107, 3) := dz_ok (by decide +kernel)
theorem juQ_d60 : decode xM73.2.1 60 = .ok (.iload_n 3, 1) := dz_ok (by decide +kernel)
theorem juQ_d61 : decode xM73.2.1 61 = .ok (.iaload, 1) := dz_ok (by decide +kernel)
theorem juQ_d62 : decode xM73.2.1 62 = .ok (.iload_n 1, 1) := dz_ok (by decide +kernel)
theorem juQ_d63 : decode xM73.2.1 63 = .ok (.iand, 1) := dz_ok (by decide +kernel)
theorem juQ_d64 : decode xM73.2.1 64 = .ok (.invokestatic 175, 3) := dz_ok (by decide +kernel)
theorem juQ_d67 : decode xM73.2.1 67 = .ok (.ireturn, 1) := dz_ok (by decide +kernel)
theorem ym_Tjudge : y_Met vwCl x_G x_Zs x_Tb x_Nb xM73 z_ATF z_PTjudge := by
  refine y_main (by decide +kernel) (by decide +kernel) x_Tb_good x_Nb_ok ?_
  intro p l e s m below meth c D U Y0 av ls B hI hpre hl
  have X := B.1
  have hx := X.1
  have hb := X.2.1
  have hY0 := B.2.2.2.2.1
  obtain ⟨v0, v1, v2, rfl, hv0, ⟨w, rfl, -⟩, ⟨t, rfl, -⟩⟩ := y_three B.2.2.2.2.2
  obtain ⟨this, t0, rfl, ht0, hY_this⟩ := x_ref_at hv0 rfl
  obtain rfl := List.mem_singleton.mp ht0
  replace hl : lv_has ls xM73.2.2.1 [(0, .ref this), (1, .int w), (2, .int t)] := hl
  obtain ⟨f, K, tt, nn, hR0⟩ := hpre _ rfl
  obtain ⟨hd, dr, kp, tx, by_, kk, ⟨hs_hd, -⟩, ⟨hY_hd, -⟩, hL, -⟩ := id hR0
  obtain ⟨ey, hs_ey, hY_ey⟩ := y_fldR (k := 4) hI.1 hY_this rfl rfl
  obtain ⟨vw, hs_vw, hY_vw⟩ := y_fldR (k := 1) hI.1 hY_ey rfl rfl
  have hn0 := hL.1.1
  have hn1 := hL.1.2.1
  have hn2 := hL.1.2.2
  have hb0 : 0 ≤ (f 0).toInt ∧ (f 0).toInt ≤ 10 := by obtain ⟨x9, e9, b9⟩ := y_fldI (k := 0) hI.1 hY_hd rfl rfl; rw [hn0] at e9; cases e9; exact b9
  have hb1 : 0 ≤ (f 1).toInt ∧ (f 1).toInt ≤ 8 := by obtain ⟨x9, e9, b9⟩ := y_fldI (k := 6) hI.1 hY_hd rfl rfl; rw [hn1] at e9; cases e9; exact b9
  have hb2 : 0 ≤ (f 2).toInt ∧ (f 2).toInt ≤ 8 := by obtain ⟨x9, e9, b9⟩ := y_fldI (k := 12) hI.1 hY_hd rfl rfl; rw [hn2] at e9; cases e9; exact b9
  refine lv_aload_n hx hb juQ_d0 rfl (lv_at hl 0 rfl) ?_
  refine y_getf X (fl8 X.2.2.2.2.1) hI.1 hY_this rfl hs_hd juQ_d1 ?_
  refine lv_iload_n hx hb juQ_d4 rfl (lv_at hl 1 rfl) ?_
  refine y_call (z := (0, 169, 2, some 2, xM67)) (av := [.ref hd, .int w]) (rest := []) (y_cokV (n := 1) (ci := 2) X ym_hasSet rfl rfl rfl (x_cons (x_bw42 2 rfl rfl) (x_cons (x_bw42 3 rfl rfl) (x_cons (x_bw42 4 rfl rfl) (x_cons (x_bw0 2 rfl rfl) x_nilm)))) (x_bw42 5 rfl rfl) (by decide +kernel) ⟨Nat.le_of_ble_eq_true rfl, Nat.le_of_ble_eq_true rfl⟩) hY0 hI rfl juQ_d5 hl.1 (Nat.le_of_ble_eq_true rfl) (Nat.le_of_ble_eq_true rfl) (Nat.le_of_ble_eq_true rfl) (y_cons (y_cref hY_hd rfl) (y_cons ⟨_, rfl, x_i32 _⟩ y_nil)) rfl (y_recv rfl hY_hd) trivial (y_sub_ef rfl) fun v Yn o Hn L ho hr ha hIn hx_ hE hP => ?_
  have hPh := hP _ _ _ rfl hn0
  replace hs_hd := y_Efld hE hY_this rfl (by decide) (by decide) hs_hd
  replace hs_ey := y_Efld hE hY_this rfl (by decide) (by decide) hs_ey
  replace hs_vw := y_Efld hE hY_ey rfl (by decide) (by decide) hs_vw
  replace hn0 := y_Efld hE hY_hd rfl (by decide) (by decide) hn0
  replace hL := hL.E hY_hd hE (fun q u h => y_ext hx_ hI.1 h) (by decide +kernel)
  replace hY_this := y_ext hx_ hI.1 hY_this
  replace hY_hd := y_ext hx_ hI.1 hY_hd
  replace hY_ey := y_ext hx_ hI.1 hY_ey
  replace hY_vw := y_ext hx_ hI.1 hY_vw
  obtain ⟨r5, rfl, hin_r5, hout_r5⟩ := hPh
  clear ho hr ha hE hP hI hx_
  rename x_I _ _ _ _ _ _ _ _ _ _ => hI
  have ec0 : (0 : Int32).toInt = 0 := by decide
  refine lv_if_eq hx hb juQ_d8 (tgt := 20) (by decide) (fun q8 => ?_) (fun q8 => ?_)
  · have q8_ : r5.toInt = (0 : Int32).toInt := by rw [q8]
    have hno : ¬ (m_isS f w ∧ 0 ≤ t.toInt ∧ t.toInt ≤ 1) := fun q9 => by first | exact hout_r5 (by assumption) q9.1 | (have h9 := hout_r14 (by assumption); omega)
    refine lv_aload_n hx hb juQ_d20 rfl (lv_at hl 0 rfl) ?_
    refine lv_bipush hx hb juQ_d21 (v := (-2)) (by decide) ?_
    have ecm2 : ((-2) : Int32).toInt = (-2) := by decide
    refine y_call (z := (0, 59, 2, some 0, xM8)) (av := [.ref this, .int ((-2) : Int32)]) (rest := []) (y_cokV (n := 1) (ci := 11) X ym_counted rfl rfl rfl (x_cons (x_bw19 7 rfl rfl) (x_cons (x_bw19 9 rfl rfl) (x_cons (x_at 1 (by decide +kernel) rfl) (x_cons (x_bw0 1 rfl rfl) x_nilm)))) (x_bw19 10 rfl rfl) (by decide +kernel) ⟨Nat.le_of_ble_eq_true rfl, Nat.le_of_ble_eq_true rfl⟩) hY0 hI rfl juQ_d23 hl.1 (Nat.le_of_ble_eq_true rfl) (Nat.le_of_ble_eq_true rfl) (Nat.le_of_ble_eq_true rfl) (y_cons (y_cref hY_this rfl) (y_cons ⟨_, rfl, x_i32 _⟩ y_nil)) rfl (y_recv rfl hY_this) trivial (y_sub_ef rfl) fun v Yn o Hn L ho hr ha hIn hx_ hE hP => ?_
    replace hs_hd := y_Efld hE hY_this rfl (by decide) (by decide) hs_hd
    replace hs_ey := y_Efld hE hY_this rfl (by decide) (by decide) hs_ey
    replace hs_vw := y_Efld hE hY_ey rfl (by decide) (by decide) hs_vw
    replace hn0 := y_Efld hE hY_hd rfl (by decide) (by decide) hn0
    replace hL := hL.E hY_hd hE (fun q u h => y_ext hx_ hI.1 h) (by decide +kernel)
    replace hY_this := y_ext hx_ hI.1 hY_this
    replace hY_hd := y_ext hx_ hI.1 hY_hd
    replace hY_ey := y_ext hx_ hI.1 hY_ey
    replace hY_vw := y_ext hx_ hI.1 hY_vw
    obtain rfl := hP _ _ rfl
    clear ho hr ha hE hP hI hx_
    rename x_I _ _ _ _ _ _ _ _ _ _ => hI
    exact y_ireturn B hI rfl rfl rfl List.mem_cons_self ⟨_, rfl, ⟨_, rfl, x_i32 _⟩⟩ (x_cs.mono B.2.2.2.2.2 (y_mon B hI)) (fun t' w0' w1' f' K' tt' nn' h1 h2 => by cases h1; obtain ⟨ef, -⟩ := hR0.eqs h2; subst ef; exact ⟨_, rfl, fun q9 => absurd q9 hno, fun _ => rfl⟩) (Nat.le_refl _) (Nat.le_refl _) juQ_d26
  · have q8_ : ¬ r5.toInt = (0 : Int32).toInt := fun q => q8 (Int32.toInt_inj.mp q)
    refine lv_iload_n hx hb juQ_d11 rfl (lv_at hl 2 rfl) ?_
    refine lv_iconst hx hb juQ_d12 (v := 0) (by decide) ?_
    refine lv_iconst hx hb juQ_d13 (v := 1) (by decide) ?_
    have ec1 : (1 : Int32).toInt = 1 := by decide
    refine y_call (z := (1, 88, 3, none, xM10)) (av := [.int t, .int (0 : Int32), .int (1 : Int32)]) (rest := []) (y_cokS (n := 3) X ym_within (x_cons (x_bw19 15 rfl rfl) (x_cons (x_bw19 1 rfl rfl) (x_cons (x_bw0 1 rfl rfl) x_nilm))) (x_bw19 2 rfl rfl) (by decide +kernel) ⟨Nat.le_of_ble_eq_true rfl, Nat.le_of_ble_eq_true rfl⟩) hY0 hI rfl juQ_d14 hl.1 (Nat.le_of_ble_eq_true rfl) (Nat.le_of_ble_eq_true rfl) (Nat.le_of_ble_eq_true rfl) (y_cons ⟨_, rfl, x_i32 _⟩ (y_cons ⟨_, rfl, x_i32 _⟩ (y_cons ⟨_, rfl, x_i32 _⟩ y_nil))) rfl (y_norecv rfl) trivial (y_sub_ef rfl) fun v Yn o Hn L ho hr ha hIn hx_ hE hP => ?_
    replace hs_hd := y_Efld hE hY_this rfl (by decide) (by decide) hs_hd
    replace hs_ey := y_Efld hE hY_this rfl (by decide) (by decide) hs_ey
    replace hs_vw := y_Efld hE hY_ey rfl (by decide) (by decide) hs_vw
    replace hn0 := y_Efld hE hY_hd rfl (by decide) (by decide) hn0
    replace hL := hL.E hY_hd hE (fun q u h => y_ext hx_ hI.1 h) (by decide +kernel)
    replace hY_this := y_ext hx_ hI.1 hY_this
    replace hY_hd := y_ext hx_ hI.1 hY_hd
    replace hY_ey := y_ext hx_ hI.1 hY_ey
    replace hY_vw := y_ext hx_ hI.1 hY_vw
    obtain ⟨r14, rfl, hin_r14, hout_r14⟩ := hP _ _ _ rfl
    clear ho hr ha hE hP hI hx_
    rename x_I _ _ _ _ _ _ _ _ _ _ => hI
    refine lv_if_ne hx hb juQ_d17 (tgt := 27) (by decide) (fun q17 => ?_) (fun q17 => ?_)
    · have q17_ : ¬ r14.toInt = (0 : Int32).toInt := fun q => q17 (Int32.toInt_inj.mp q)
      have hw9 := hin_r14 (by assumption)
      have hok : m_isS f w ∧ 0 ≤ t.toInt ∧ t.toInt ≤ 1 := ⟨hin_r5 (by assumption), by omega, by omega⟩
      refine lv_aload_n hx hb juQ_d27 rfl (lv_at hl 0 rfl) ?_
      refine y_call (z := (0, 104, 1, some 0, xM52)) (av := [.ref this]) (rest := []) (y_cokV (n := 0) (ci := 11) X ym_lookNow rfl rfl rfl (x_cons (x_bw29 12 rfl rfl) (x_cons (x_bw29 14 rfl rfl) (x_cons (x_at 3 (by decide +kernel) rfl) (x_cons (x_bw0 1 rfl rfl) x_nilm)))) (x_bw29 15 rfl rfl) (by decide +kernel) ⟨Nat.le_of_ble_eq_true rfl, Nat.le_of_ble_eq_true rfl⟩) hY0 hI rfl juQ_d28 hl.1 (Nat.le_of_ble_eq_true rfl) (Nat.le_of_ble_eq_true rfl) (Nat.le_of_ble_eq_true rfl) (y_cons (y_cref hY_this rfl) y_nil) rfl (y_recv rfl hY_this) (fun t' hd' h1 h2 => by cases h1; cases h2.symm.trans hs_hd; exact ⟨_, hL⟩) (y_sub_ef rfl) fun v Yn o Hn L ho hr ha hIn hx_ hE hP => ?_
      have hPk := hP _ _ _ _ _ rfl hs_hd hs_ey hs_vw hL
      replace hs_hd := y_Efld hE hY_this rfl (by decide) (by decide) hs_hd
      replace hs_ey := y_Efld hE hY_this rfl (by decide) (by decide) hs_ey
      replace hs_vw := y_Efld hE hY_ey rfl (by decide) (by decide) hs_vw
      replace hn0 := y_Efld hE hY_hd rfl (by decide) (by decide) hn0
      replace hL := hL.E hY_hd hE (fun q u h => y_ext hx_ hI.1 h) (by decide +kernel)
      replace hY_this := y_ext hx_ hI.1 hY_this
      replace hY_hd := y_ext hx_ hI.1 hY_hd
      replace hY_ey := y_ext hx_ hI.1 hY_ey
      replace hY_vw := y_ext hx_ hI.1 hY_vw
      obtain rfl := y_ansV rfl ho hr
      have hA_vw := hPk
      clear ho hr ha hE hP hI hx_
      rename x_I _ _ _ _ _ _ _ _ _ _ => hI
      refine lv_aload_n hx hb juQ_d31 rfl (lv_at hl 0 rfl) ?_
      refine y_getf X (fl102 X.2.2.2.2.1) hI.1 hY_this rfl hs_ey juQ_d32 ?_
      refine lv_iload_n hx hb juQ_d35 rfl (lv_at hl 1 rfl) ?_
      refine y_call (z := (0, 172, 2, some 6, xM72)) (av := [.ref ey, .int w]) (rest := []) (y_cokV (n := 1) (ci := 0) X ym_firstWrong rfl rfl rfl (x_cons (x_bw42 10 rfl rfl) (x_cons (x_bw42 11 rfl rfl) (x_cons (x_bw42 12 rfl rfl) (x_cons (x_bw0 6 rfl rfl) x_nilm)))) (x_bw42 13 rfl rfl) (by decide +kernel) ⟨Nat.le_of_ble_eq_true rfl, Nat.le_of_ble_eq_true rfl⟩) hY0 hI rfl juQ_d36 hl.1 (Nat.le_of_ble_eq_true rfl) (Nat.le_of_ble_eq_true rfl) (Nat.le_of_ble_eq_true rfl) (y_cons (y_cref hY_ey rfl) (y_cons ⟨_, rfl, x_i32 _⟩ y_nil)) rfl (y_recv rfl hY_ey) trivial (y_sub_ef rfl) fun v Yn o Hn L ho hr ha hIn hx_ hE hP => ?_
      have hPw := hP _ _ _ _ rfl hs_vw hA_vw
      replace hs_hd := y_Efld hE hY_this rfl (by decide) (by decide) hs_hd
      replace hs_ey := y_Efld hE hY_this rfl (by decide) (by decide) hs_ey
      replace hs_vw := y_Efld hE hY_ey rfl (by decide) (by decide) hs_vw
      replace hn0 := y_Efld hE hY_hd rfl (by decide) (by decide) hn0
      replace hA_vw := hA_vw.kept (y_Earr hE hY_vw rfl (by decide))
      replace hL := hL.E hY_hd hE (fun q u h => y_ext hx_ hI.1 h) (by decide +kernel)
      replace hY_this := y_ext hx_ hI.1 hY_this
      replace hY_hd := y_ext hx_ hI.1 hY_hd
      replace hY_ey := y_ext hx_ hI.1 hY_ey
      replace hY_vw := y_ext hx_ hI.1 hY_vw
      obtain ⟨r36, rfl, hfw_36⟩ := hPw
      clear ho hr ha hE hP hI hx_
      rename x_I _ _ _ _ _ _ _ _ _ _ => hI
      refine lv_istore_n hx hb juQ_d39 rfl hl (by decide) (lv' := [(3, .int r36), (0, .ref this), (1, .int w), (2, .int t)]) rfl fun ls hl => ?_
      refine lv_iload_n hx hb juQ_d40 rfl (lv_at hl 0 rfl) ?_
      refine lv_iconst hx hb juQ_d41 (v := (-1)) (by decide) ?_
      have ecm1 : ((-1) : Int32).toInt = (-1) := by decide
      refine lv_icmp_eq hx hb juQ_d42 (tgt := 49) (by decide) (fun q42 => ?_) (fun q42 => ?_)
      · have q42_ : r36.toInt = ((-1) : Int32).toInt := by rw [q42]
        refine lv_iload_n hx hb juQ_d49 rfl (lv_at hl 0 rfl) ?_
        refine lv_goto hx hb juQ_d50 (tgt := 67) (by decide) ?_
        exact y_ireturn B hI rfl rfl rfl List.mem_cons_self ⟨_, rfl, ⟨_, rfl, x_i32 _⟩⟩ (x_cs.mono B.2.2.2.2.2 (y_mon B hI)) (fun t' w0' w1' f' K' tt' nn' h1 h2 => by cases h1; obtain ⟨ef, -⟩ := hR0.eqs h2; subst ef; exact ⟨_, rfl, fun _ => ⟨r36, hfw_36, fun _ => rfl, fun q8 q9 => by first | exact absurd (by assumption) q8 | exact absurd (by assumption) q9⟩, fun q9 => absurd hok q9⟩) (Nat.le_refl _) (Nat.le_refl _) juQ_d67
      · have q42_ : ¬ r36.toInt = ((-1) : Int32).toInt := fun q => q42 (Int32.toInt_inj.mp q)
        refine lv_iload_n hx hb juQ_d45 rfl (lv_at hl 3 rfl) ?_
        refine lv_if_ne hx hb juQ_d46 (tgt := 53) (by decide) (fun q46 => ?_) (fun q46 => ?_)
        · have q46_ : ¬ t.toInt = (0 : Int32).toInt := fun q => q46 (Int32.toInt_inj.mp q)
          have hrg := m_fw_rg hfw_36 q42
          refine lv_aload_n hx hb juQ_d53 rfl (lv_at hl 1 rfl) ?_
          refine y_getf X (fl102 X.2.2.2.2.1) hI.1 hY_this rfl hs_ey juQ_d54 ?_
          refine y_getf X (fl103 X.2.2.2.2.1) hI.1 hY_ey rfl hs_vw juQ_d57 ?_
          refine lv_iload_n hx hb juQ_d60 rfl (lv_at hl 0 rfl) ?_
          refine y_iald X hI.1 hY_vw rfl hA_vw (by omega) (by show _ < (10 : Int); omega) juQ_d61 ?_
          obtain ⟨e61, hg_e61⟩ : ∃ e61 : Int32, (m_VC f (f 4) (f 5) 0) r36.toInt.toNat = e61 := ⟨_, rfl⟩
          rw [hg_e61]
          refine lv_iload_n hx hb juQ_d62 rfl (lv_at hl 2 rfl) ?_
          refine lv_iand hx hb juQ_d63 ?_
          generalize hg_z63 : e61 &&& w = z63
          refine y_call (z := (1, 175, 1, none, xM71)) (av := [.int z63]) (rest := []) (y_cokS (n := 1) X ym_bitCount (x_cons (x_bw43 7 rfl rfl) (x_cons (x_bw43 2 rfl rfl) (x_cons (x_bw1 5 rfl rfl) x_nilm))) (x_bw43 3 rfl rfl) (by decide +kernel) ⟨Nat.le_of_ble_eq_true rfl, Nat.le_of_ble_eq_true rfl⟩) hY0 hI rfl juQ_d64 hl.1 (Nat.le_of_ble_eq_true rfl) (Nat.le_of_ble_eq_true rfl) (Nat.le_of_ble_eq_true rfl) (y_cons ⟨_, rfl, x_i32 _⟩ y_nil) rfl (y_norecv rfl) trivial (y_sub_ef rfl) fun v Yn o Hn L ho hr ha hIn hx_ hE hP => ?_
          have hPm := hP _ rfl
          obtain rfl := hPm
          replace hs_hd := y_Efld hE hY_this rfl (by decide) (by decide) hs_hd
          replace hs_ey := y_Efld hE hY_this rfl (by decide) (by decide) hs_ey
          replace hs_vw := y_Efld hE hY_ey rfl (by decide) (by decide) hs_vw
          replace hn0 := y_Efld hE hY_hd rfl (by decide) (by decide) hn0
          replace hA_vw := hA_vw.kept (y_Earr hE hY_vw rfl (by decide))
          replace hL := hL.E hY_hd hE (fun q u h => y_ext hx_ hI.1 h) (by decide +kernel)
          replace hY_this := y_ext hx_ hI.1 hY_this
          replace hY_hd := y_ext hx_ hI.1 hY_hd
          replace hY_ey := y_ext hx_ hI.1 hY_ey
          replace hY_vw := y_ext hx_ hI.1 hY_vw
          generalize hg_r64 : m_bc z63 = r64
          clear ho hr ha hE hP hI hx_
          rename x_I _ _ _ _ _ _ _ _ _ _ => hI
          exact y_ireturn B hI rfl rfl rfl List.mem_cons_self ⟨_, rfl, ⟨_, rfl, x_i32 _⟩⟩ (x_cs.mono B.2.2.2.2.2 (y_mon B hI)) (fun t' w0' w1' f' K' tt' nn' h1 h2 => by cases h1; obtain ⟨ef, -⟩ := hR0.eqs h2; subst ef; exact ⟨_, rfl, fun _ => ⟨r36, hfw_36, fun q9 => by rcases q9 with q9 | q9; exact absurd q9 (by assumption); exact absurd q9 (by assumption), fun _ _ => by rw [← hg_r64, ← hg_z63, ← hg_e61]⟩, fun q9 => absurd hok q9⟩) (Nat.le_refl _) (Nat.le_refl _) juQ_d67
        · have q46_ : t.toInt = (0 : Int32).toInt := by rw [q46]
          refine lv_iload_n hx hb juQ_d49 rfl (lv_at hl 0 rfl) ?_
          refine lv_goto hx hb juQ_d50 (tgt := 67) (by decide) ?_
          exact y_ireturn B hI rfl rfl rfl List.mem_cons_self ⟨_, rfl, ⟨_, rfl, x_i32 _⟩⟩ (x_cs.mono B.2.2.2.2.2 (y_mon B hI)) (fun t' w0' w1' f' K' tt' nn' h1 h2 => by cases h1; obtain ⟨ef, -⟩ := hR0.eqs h2; subst ef; exact ⟨_, rfl, fun _ => ⟨r36, hfw_36, fun _ => rfl, fun q8 q9 => by first | exact absurd (by assumption) q8 | exact absurd (by assumption) q9⟩, fun q9 => absurd hok q9⟩) (Nat.le_refl _) (Nat.le_refl _) juQ_d67
    · have q17_ : r14.toInt = (0 : Int32).toInt := by rw [q17]
      have hno : ¬ (m_isS f w ∧ 0 ≤ t.toInt ∧ t.toInt ≤ 1) := fun q9 => by first | exact hout_r5 (by assumption) q9.1 | (have h9 := hout_r14 (by assumption); omega)
      refine lv_aload_n hx hb juQ_d20 rfl (lv_at hl 0 rfl) ?_
      refine lv_bipush hx hb juQ_d21 (v := (-2)) (by decide) ?_
      have ecm2 : ((-2) : Int32).toInt = (-2) := by decide
      refine y_call (z := (0, 59, 2, some 0, xM8)) (av := [.ref this, .int ((-2) : Int32)]) (rest := []) (y_cokV (n := 1) (ci := 11) X ym_counted rfl rfl rfl (x_cons (x_bw19 7 rfl rfl) (x_cons (x_bw19 9 rfl rfl) (x_cons (x_at 1 (by decide +kernel) rfl) (x_cons (x_bw0 1 rfl rfl) x_nilm)))) (x_bw19 10 rfl rfl) (by decide +kernel) ⟨Nat.le_of_ble_eq_true rfl, Nat.le_of_ble_eq_true rfl⟩) hY0 hI rfl juQ_d23 hl.1 (Nat.le_of_ble_eq_true rfl) (Nat.le_of_ble_eq_true rfl) (Nat.le_of_ble_eq_true rfl) (y_cons (y_cref hY_this rfl) (y_cons ⟨_, rfl, x_i32 _⟩ y_nil)) rfl (y_recv rfl hY_this) trivial (y_sub_ef rfl) fun v Yn o Hn L ho hr ha hIn hx_ hE hP => ?_
      replace hs_hd := y_Efld hE hY_this rfl (by decide) (by decide) hs_hd
      replace hs_ey := y_Efld hE hY_this rfl (by decide) (by decide) hs_ey
      replace hs_vw := y_Efld hE hY_ey rfl (by decide) (by decide) hs_vw
      replace hn0 := y_Efld hE hY_hd rfl (by decide) (by decide) hn0
      replace hL := hL.E hY_hd hE (fun q u h => y_ext hx_ hI.1 h) (by decide +kernel)
      replace hY_this := y_ext hx_ hI.1 hY_this
      replace hY_hd := y_ext hx_ hI.1 hY_hd
      replace hY_ey := y_ext hx_ hI.1 hY_ey
      replace hY_vw := y_ext hx_ hI.1 hY_vw
      obtain rfl := hP _ _ rfl
      clear ho hr ha hE hP hI hx_
      rename x_I _ _ _ _ _ _ _ _ _ _ => hI
      exact y_ireturn B hI rfl rfl rfl List.mem_cons_self ⟨_, rfl, ⟨_, rfl, x_i32 _⟩⟩ (x_cs.mono B.2.2.2.2.2 (y_mon B hI)) (fun t' w0' w1' f' K' tt' nn' h1 h2 => by cases h1; obtain ⟨ef, -⟩ := hR0.eqs h2; subst ef; exact ⟨_, rfl, fun q9 => absurd q9 hno, fun _ => rfl⟩) (Nat.le_refl _) (Nat.le_refl _) juQ_d26

