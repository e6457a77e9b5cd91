/-! WITHOUT LEAVE: what the keepers saw -/
def m_tru (f V : Nat → Int32) (lit : Int32) (k : Nat) : Bool := decide (f (13 + 5 * k) = m_bc (V k &&& lit))
def m_rep1 (f V : Nat → Int32) (lit : Int32) (k : Nat) : Bool := decide (f (13 + 5 * k) = -1) || m_tru f V lit k
def m_asr (f V : Nat → Int32) (lit : Int32) : Bool := !(m_any (fun k => !(m_rep1 f V lit k)) (f 0).toInt.toNat)
def m_sus (f V : Nat → Int32) (w : Int32) (h : Nat) : Bool := !(m_has w (nI h)) && m_asr f V (w ||| m_sh (nI h))
def m_woC (f : Nat → Int32) (w r : Int32) : Prop := (m_isS f w → (m_any (m_wr (m_VC f (f 4) (f 5) 0) w) 10 = false → r = m_gg (m_sus f (m_VC f (f 4) (f 5) 0) w) 0 (f 0).toInt.toNat) ∧ (m_any (m_wr (m_VC f (f 4) (f 5) 0) w) 10 = true → r = -3)) ∧ (¬ m_isS f w → r = -2)
def z_Ptr : yP := fun D av Y H v _ _ => ∀ (this ld ey vw : Nat) (k lit : Int32) (f V : Nat → Int32), av = [.ref this, .int k, .int lit] → x_sl D 11 0 this H = some (.ref ld) → x_sl D 11 4 this H = some (.ref ey) → x_sl D 0 1 ey H = some (.ref vw) → z_L D Y ld H f → y_A vw 10 H V → v = some (.int (m_b (m_tru f V lit k.toInt.toNat)))
theorem trq_d0 : decode xM119.2.1 0 = .ok (.aload_n 0, 1) := dz_ok (by decide +kernel)
theorem trq_d1 : decode xM119.2.1 1 = .ok (.getfield 12, 3) := dz_ok (by decide +kernel)
theorem trq_d4 : decode xM119.2.1 4 = .ok (.getfield 264, 3) := dz_ok (by decide +kernel)
theorem trq_d7 : decode xM119.2.1 7 = .ok (.iload_n 1, 1) := dz_ok (by decide +kernel)
theorem trq_d8 : decode xM119.2.1 8 = .ok (.iaload, 1) := dz_ok (by decide +kernel)
theorem trq_d9 : decode xM119.2.1 9 = .ok (.aload_n 0, 1) := dz_ok (by decide +kernel)
theorem trq_d10 : decode xM119.2.1 10 = .ok (.getfield 33, 3) := dz_ok (by decide +kernel)
theorem trq_d13 : decode xM119.2.1 13 = .ok (.getfield 107, 3) := dz_ok (by decide +kernel)
theorem trq_d16 : decode xM119.2.1 16 = .ok (.iload_n 1, 1) := dz_ok (by decide +kernel)
theorem trq_d17 : decode xM119.2.1 17 = .ok (.iaload, 1) := dz_ok (by decide +kernel)
theorem trq_d18 : decode xM119.2.1 18 = .ok (.iload_n 2, 1) := dz_ok (by decide +kernel)
theorem trq_d19 : decode xM119.2.1 19 = .ok (.iand, 1) := dz_ok (by decide +kernel)
theorem trq_d20 : decode xM119.2.1 20 = .ok (.invokestatic 175, 3) := dz_ok (by decide +kernel)
theorem trq_d23 : decode xM119.2.1 23 = .ok (.if_icmp .ne 7, 3) := dz_ok (by decide +kernel)
theorem trq_d26 : decode xM119.2.1 26 = .ok (.iconst 1, 1) := dz_ok (by decide +kernel)
theorem trq_d27 : decode xM119.2.1 27 = .ok (.goto 4, 3) := dz_ok (by decide +kernel)
theorem trq_d30 : decode xM119.2.1 30 = .ok (.iconst 0, 1) := dz_ok (by decide +kernel)
theorem trq_d31 : decode xM119.2.1 31 = .ok (.ireturn, 1) := dz_ok (by decide +kernel)
theorem ym_isTrue : y_Met vwCl x_G x_Zs x_Tb x_Nb xM119 z_AT1 z_Ptr := by
  refine y_main (by decide +kernel) (by decide +kernel) x_Tb_good x_Nb_ok ?_
  intro p l e s m below meth c D U Y0 av ls B hI hpre hl
  have X := B.1
  have hx := X.1
  have hb := X.2.1
  have hY0 := B.2.2.2.2.1
  obtain ⟨v0, v1, v2, rfl, hv0, ⟨k, rfl, hk⟩, ⟨lit, rfl, -⟩⟩ := y_three B.2.2.2.2.2
  replace hk : (0 : Int) ≤ k.toInt ∧ k.toInt ≤ 9 := hk
  obtain ⟨this, t0, rfl, ht0, hY_this⟩ := x_ref_at hv0 rfl
  obtain rfl := List.mem_singleton.mp ht0
  replace hl : lv_has ls xM119.2.2.1 [(0, .ref this), (1, .int k), (2, .int lit)] := hl
  obtain ⟨ld, hs_ld, hY_ld⟩ := y_fldR (k := 0) hI.1 hY_this rfl rfl
  obtain ⟨ey, hs_ey, hY_ey⟩ := y_fldR (k := 4) hI.1 hY_this rfl rfl
  obtain ⟨vw, hs_vw, hY_vw⟩ := y_fldR (k := 1) hI.1 hY_ey rfl rfl
  obtain ⟨V, hA_vw, -⟩ := y_arr hI.1 hY_vw rfl rfl
  obtain ⟨f, hL⟩ := hpre _ _ rfl hs_ld
  have hL0 := hL
  have hn0 := hL.1.1
  have hb0 : 0 ≤ (f 0).toInt ∧ (f 0).toInt ≤ 10 := by obtain ⟨x9, e9, b9⟩ := y_fldI (k := 0) hI.1 hY_ld rfl rfl; rw [hn0] at e9; cases e9; exact b9
  have hs0 := hs_ld
  have hs4 := hs_ey
  have hs1 := hs_vw
  have hA0 := hA_vw
  have hsi_hills := hn0
  obtain ⟨ar, hs_ar, hY_ar, hA_ar⟩ := hL.2.1 (4, 22, 10, 13, 5) (by decide)
  replace hA_ar : y_A ar 10 s.heap (fun j => f (13 + 5 * j)) := hA_ar
  refine lv_aload_n hx hb trq_d0 rfl (lv_at hl 0 rfl) ?_
  refine y_getf X (fl8 X.2.2.2.2.1) hI.1 hY_this rfl hs_ld trq_d1 ?_
  refine y_getf X (fl151 X.2.2.2.2.1) hI.1 hY_ld rfl hs_ar trq_d4 ?_
  refine lv_iload_n hx hb trq_d7 rfl (lv_at hl 1 rfl) ?_
  refine y_iald X hI.1 hY_ar rfl hA_ar (by omega) (by show _ < (10 : Int); omega) trq_d8 ?_
  obtain ⟨e8, hg_e8⟩ : ∃ e8 : Int32, f (13 + 5 * k.toInt.toNat) = e8 := ⟨_, rfl⟩
  rw [hg_e8]
  refine lv_aload_n hx hb trq_d9 rfl (lv_at hl 0 rfl) ?_
  refine y_getf X (fl102 X.2.2.2.2.1) hI.1 hY_this rfl hs_ey trq_d10 ?_
  refine y_getf X (fl103 X.2.2.2.2.1) hI.1 hY_ey rfl hs_vw trq_d13 ?_
  refine lv_iload_n hx hb trq_d16 rfl (lv_at hl 1 rfl) ?_
  refine y_iald X hI.1 hY_vw rfl hA_vw (by omega) (by show _ < (10 : Int); omega) trq_d17 ?_
  obtain ⟨e17, hg_e17⟩ : ∃ e17 : Int32, V k.toInt.toNat = e17 := ⟨_, rfl⟩
  rw [hg_e17]
  refine lv_iload_n hx hb trq_d18 rfl (lv_at hl 2 rfl) ?_
  refine lv_iand hx hb trq_d19 ?_
  generalize hg_z19 : e17 &&& lit = z19
  refine y_call (z := (1, 175, 1, none, xM71)) (av := [.int z19]) (rest := [.int e8]) (y_cokS (n := 1) X ym_bitCount (x_cons (x_bw43 7 rfl rfl) (x_cons (x_bw43 2 rfl rfl) (x_cons (x_bw1 5 rfl rfl) x_nilm))) (x_bw43 3 rfl rfl) (by decide +kernel) ⟨Nat.le_of_ble_eq_true rfl, Nat.le_of_ble_eq_true rfl⟩) hY0 hI rfl trq_d20 hl.1 (Nat.le_of_ble_eq_true rfl) (Nat.le_of_ble_eq_true rfl) (Nat.le_of_ble_eq_true rfl) (y_cons ⟨_, rfl, x_i32 _⟩ y_nil) rfl (y_norecv rfl) trivial (y_sub_ef rfl) fun v Yn o Hn L ho hr ha hIn hx_ hE hP => ?_
  have hPm := hP _ rfl
  obtain rfl := hPm
  replace hs_ld := y_Efld hE hY_this rfl (by decide) (by decide) hs_ld
  replace hs_ey := y_Efld hE hY_this rfl (by decide) (by decide) hs_ey
  replace hs_vw := y_Efld hE hY_ey rfl (by decide) (by decide) hs_vw
  replace hs_ar := y_Efld hE hY_ld rfl (by decide) (by decide) hs_ar
  replace hA_vw := hA_vw.kept (y_Earr hE hY_vw rfl (by decide))
  replace hA_ar := hA_ar.kept (y_Earr hE hY_ar rfl (by decide))
  replace hL := hL.E hY_ld hE (fun q u h => y_ext hx_ hI.1 h) (by decide +kernel)
  replace hY_this := y_ext hx_ hI.1 hY_this
  replace hY_ld := y_ext hx_ hI.1 hY_ld
  replace hY_ey := y_ext hx_ hI.1 hY_ey
  replace hY_vw := y_ext hx_ hI.1 hY_vw
  replace hY_ar := y_ext hx_ hI.1 hY_ar
  generalize hg_r20 : m_bc z19 = r20
  clear ho hr ha hE hP hI hx_
  rename x_I _ _ _ _ _ _ _ _ _ _ => hI
  refine lv_icmp_ne hx hb trq_d23 (tgt := 30) (by decide) (fun q23 => ?_) (fun q23 => ?_)
  · have q23_ : ¬ e8.toInt = r20.toInt := fun q => q23 (Int32.toInt_inj.mp q)
    refine lv_iconst hx hb trq_d30 (v := 0) (by decide) ?_
    have ec0 : (0 : Int32).toInt = 0 := by decide
    exact y_ireturn B hI rfl rfl rfl (List.mem_cons_of_mem _ List.mem_cons_self) ⟨_, rfl, ⟨_, rfl, by decide, by decide⟩⟩ (x_cs.mono B.2.2.2.2.2 (y_mon B hI)) (fun t' d' e' v' k' l' f' V' h1 h2 h3 h4 h5 h6 => by cases h1; cases h2.symm.trans hs0; cases h3.symm.trans hs4; cases h4.symm.trans hs1; cases h5.uniq hL0; have eV : ∀ i, i < 10 → V' i = V i := fun i hi => z_AR h6 hA0 hi; refine congrArg (fun x => some (Value.int x)) ?_; unfold m_tru; rw [eV k.toInt.toNat (by omega), show f (13 + 5 * k.toInt.toNat) = e8 from hg_e8, hg_e17, hg_z19, hg_r20]; rw [decide_eq_false q23]; rfl) (Nat.le_refl _) (Nat.le_refl _) trq_d31
  · have q23_ : e8.toInt = r20.toInt := by rw [q23]
    refine lv_iconst hx hb trq_d26 (v := 1) (by decide) ?_
    have ec1 : (1 : Int32).toInt = 1 := by decide
    refine lv_goto hx hb trq_d27 (tgt := 31) (by decide) ?_
    exact y_ireturn B hI rfl rfl rfl List.mem_cons_self ⟨_, rfl, ⟨_, rfl, by decide, by decide⟩⟩ (x_cs.mono B.2.2.2.2.2 (y_mon B hI)) (fun t' d' e' v' k' l' f' V' h1 h2 h3 h4 h5 h6 => by cases h1; cases h2.symm.trans hs0; cases h3.symm.trans hs4; cases h4.symm.trans hs1; cases h5.uniq hL0; have eV : ∀ i, i < 10 → V' i = V i := fun i hi => z_AR h6 hA0 hi; refine congrArg (fun x => some (Value.int x)) ?_; unfold m_tru; rw [eV k.toInt.toNat (by omega), show f (13 + 5 * k.toInt.toNat) = e8 from hg_e8, hg_e17, hg_z19, hg_r20]; rw [decide_eq_true q23]; rfl) (Nat.le_refl _) (Nat.le_refl _) trq_d31
