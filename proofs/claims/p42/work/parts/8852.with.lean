/-! WITHOUT LEAVE: what the keepers saw -/
def m_tru (f V : Nat → Int32) (lit : Int32) (k : Nat) : Bool := decide (f (13 + 5 * k) = m_bc (V k &&& lit))
def m_rep1 (f V : Nat → Int32) (lit : Int32) (k : Nat) : Bool := decide (f (13 + 5 * k) = -1) || m_tru f V lit k
def m_asr (f V : Nat → Int32) (lit : Int32) : Bool := !(m_any (fun k => !(m_rep1 f V lit k)) (f 0).toInt.toNat)
def m_sus (f V : Nat → Int32) (w : Int32) (h : Nat) : Bool := !(m_has w (nI h)) && m_asr f V (w ||| m_sh (nI h))
def m_woC (f : Nat → Int32) (w r : Int32) : Prop := (m_isS f w → (m_any (m_wr (m_VC f (f 4) (f 5) 0) w) 10 = false → r = m_gg (m_sus f (m_VC f (f 4) (f 5) 0) w) 0 (f 0).toInt.toNat) ∧ (m_any (m_wr (m_VC f (f 4) (f 5) 0) w) 10 = true → r = -3)) ∧ (¬ m_isS f w → r = -2)
def z_Ptr : yP := fun D av Y H v _ _ => ∀ (this ld ey vw : Nat) (k lit : Int32) (f V : Nat → Int32), av = [.ref this, .int k, .int lit] → x_sl D 11 0 this H = some (.ref ld) → x_sl D 11 4 this H = some (.ref ey) → x_sl D 0 1 ey H = some (.ref vw) → z_L D Y ld H f → y_A vw 10 H V → v = some (.int (m_b (m_tru f V lit k.toInt.toNat)))
theorem trq_d0 : decode xM119.2.1 0 = .ok (.aload_n 0, 1) := dz_ok (by decide +kernel)
theorem trq_d1 : decode xM119.2.1 1 = .ok (.getfield 12, 3) := dz_ok (by decide +kernel)
theorem trq_d4 : decode xM119.2.1 4 = .ok (.getfield 264, 3) := dz_ok (by decide +kernel)
theorem trq_d7 : decode xM119.2.1 7 = .ok (.iload_n 1, 1) := dz_ok (by decide +kernel)
theorem trq_d8 : decode xM119.2.1 8 = .ok (.iaload, 1) := dz_ok (by decide +kernel)
theorem trq_d9 : decode xM119.2.1 9 = .ok (.aload_n 0, 1) := dz_ok (by decide +kernel)
theorem trq_d10 : decode xM119.2.1 10 = .ok (.getfield 33, 3) := dz_ok (by decide +kernel)
theorem trq_d13 : decode xM119.2.1 13 = .ok (.getfield 107, 3) := dz_ok (by decide +kernel)
theorem trq_d16 : decode xM119.2.1 16 = .ok (.iload_n 1, 1) := dz_ok (by decide +kernel)
theorem trq_d17 : decode xM119.2.1 17 = .ok (.iaload, 1) := dz_ok (by decide +kernel)
theorem trq_d18 : decode xM119.2.1 18 = .ok (.iload_n 2, 1) := dz_ok (by decide +kernel)
theorem trq_d19 : decode xM119.2.1 19 = .ok (.iand, 1) := dz_ok (by decide +kernel)
theorem trq_d20 : decode xM119.2.1 20 = .ok (.invokestatic 175, 3) := dz_ok (by decide +kernel)
theorem trq_d23 : decode xM119.2.1 23 = .ok (.if_icmp .ne 7, 3) := dz_ok (by decide +kernel)
theorem trq_d26 : decode xM119.2.1 26 = .ok (.iconst 1, 1) := dz_ok (by decide +kernel)
theorem trq_d27 : decode xM119.2.1 27 = .ok (.goto 4, 3) := dz_ok (by decide +kernel)
theorem trq_d30 : decode xM119.2.1 30 = .ok (.iconst 0, 1) := dz_ok (by decide +kernel)
theorem trq_d31 : decode xM119.2.1 31 = .ok (.ireturn, 1) := dz_ok (by decide +kernel)
theorem ym_isTrue : y_Met vwCl x_G x_Zs x_Tb x_Nb xM119 z_AT1 z_Ptr := by
  refine y_main (by decide +kernel) (by decide +kernel) x_Tb_good x_Nb_ok ?_
  intro p l e s m below meth c D U Y0 av ls B hI hpre hl
  have X := B.1
  have hx := X.1
  have hb := X.2.1
  have hY0 := B.2.2.2.2.1
  obtain ⟨v0, v1, v2, rfl, hv0, ⟨k, rfl, hk⟩, ⟨lit, rfl, -⟩⟩ := y_three B.2.2.2.2.2
  replace hk : (0 : Int) ≤ k.toInt ∧ k.toInt ≤ 9 := hk
  obtain ⟨this, t0, rfl, ht0, hY_this⟩ := x_ref_at hv0 rfl
  obtain rfl := List.mem_singleton.mp ht0
  replace hl : lv_has ls xM119.2.2.1 [(0, .ref this), (1, .int k), (2, .int lit)] := hl
  obtain ⟨ld, hs_ld, hY_ld⟩ := y_fldR (k := 0) hI.1 hY_this rfl rfl
  obtain ⟨ey, hs_ey, hY_ey⟩ := y_fldR (k := 4) hI.1 hY_this rfl rfl
  obtain ⟨vw, hs_vw, hY_vw⟩ := y_fldR (k := 1) hI.1 hY_ey rfl rfl
  obtain ⟨V, hA_vw, -⟩ := y_arr hI.1 hY_vw rfl rfl
  obtain ⟨f, hL⟩ := hpre _ _ rfl hs_ld
  have hL0 := hL
  have hn0 := hL.1.1
  have hb0 : 0 ≤ (f 0).toInt ∧ (f 0).toInt ≤ 10 := by obtain ⟨x9, e9, b9⟩ := y_fldI (k := 0) hI.1 hY_ld rfl rfl; rw [hn0] at e9; cases e9; exact b9
  have hs0 := hs_ld
  have hs4 := hs_ey
  have hs1 := hs_vw
  have hA0 := hA_vw
  have hsi_hills := hn0
  obtain ⟨ar, hs_ar, hY_ar, hA_ar⟩ := hL.2.1 (4, 22, 10, 13, 5) (by decide)
  replace hA_ar : y_A ar 10 s.heap (fun j => f (13 + 5 * j)) := hA_ar
  refine lv_aload_n hx hb trq_d0 rfl (lv_at hl 0 rfl) ?_
  refine y_getf X (fl8 X.2.2.2.2.1) hI.1 hY_this rfl hs_ld trq_d1 ?_
  refine y_getf X (fl151 X.2.2.2.2.1) hI.1 hY_ld rfl hs_ar trq_d4 ?_
  refine lv_iload_n hx hb trq_d7 rfl (lv_at hl 1 rfl) ?_
  refine y_iald X hI.1 hY_ar rfl hA_ar (by omega) (by show _ < (10 : Int); omega) trq_d8 ?_
  obtain ⟨e8, hg_e8⟩ : ∃ e8 : Int32, f (13 + 5 * k.toInt.toNat) = e8 := ⟨_, rfl⟩
  rw [hg_e8]
  refine lv_aload_n hx hb trq_d9 rfl (lv_at hl 0 rfl) ?_
  refine y_getf X (fl102 X.2.2.2.2.1) hI.1 hY_this rfl hs_ey trq_d10 ?_
  refine y_getf X (fl103 X.2.2.2.2.1) hI.1 hY_ey rfl hs_vw trq_d13 ?_
  refine lv_iload_n hx hb trq_d16 rfl (lv_at hl 1 rfl) ?_
  refine y_iald X hI.1 hY_vw rfl hA_vw (by omega) (by show _ < (10 : Int); omega) trq_d17 ?_
  obtain ⟨e17, hg_e17⟩ : ∃ e17 : Int32, V k.toInt.toNat = e17 := ⟨_, rfl⟩
  rw [hg_e17]
  refine lv_iload_n hx hb trq_d18 rfl (lv_at hl 2 rfl) ?_
  refine lv_iand hx hb trq_d19 ?_
  generalize hg_z19 : e17 &&& lit = z19
  refine y_call (z := (1, 175, 1, none, xM71)) (av := [.int z19]) (rest := [.int e8]) (y_cokS (n := 1) X ym_bitCount (x_cons (x_bw43 7 rfl rfl) (x_cons (x_bw43 2 rfl rfl) (x_cons (x_bw1 5 rfl rfl) x_nilm))) (x_bw43 3 rfl rfl) (by decide +kernel) ⟨Nat.le_of_ble_eq_true rfl, Nat.le_of_ble_eq_true rfl⟩) hY0 hI rfl trq_d20 hl.1 (Nat.le_of_ble_eq_true rfl) (Nat.le_of_ble_eq_true rfl) (Nat.le_of_ble_eq_true rfl) (y_cons ⟨_, rfl, x_i32 _⟩ y_nil) rfl (y_norecv rfl) trivial (y_sub_ef rfl) fun v Yn o Hn L ho hr ha hIn hx_ hE hP => ?_
  have hPm := hP _ rfl
  obtain rfl := hPm
  replace hs_ld := y_Efld hE hY_this rfl (by decide) (by decide) hs_ld
  replace hs_ey := y_Efld hE hY_this rfl (by decide) (by decide) hs_ey
  replace hs_vw := y_Efld hE hY_ey rfl (by decide) (by decide) hs_vw
  replace hs_ar := y_Efld hE hY_ld rfl (by decide) (by decide) hs_ar
  replace hA_vw := hA_vw.kept (y_Earr hE hY_vw rfl (by decide))
  replace hA_ar := hA_ar.kept (y_Earr hE hY_ar rfl (by decide))
  replace hL := hL.E hY_ld hE (fun q u h => y_ext hx_ hI.1 h) (by decide +kernel)
  replace hY_this := y_ext hx_ hI.1 hY_this
  replace hY_ld := y_ext hx_ hI.1 hY_ld
  replace hY_ey := y_ext hx_ hI.1 hY_ey
  replace hY_vw := y_ext hx_ hI.1 hY_vw
  replace hY_ar := y_ext hx_ hI.1 hY_ar
  generalize hg_r20 : m_bc z19 = r20
  clear ho hr ha hE hP hI hx_
  rename x_I _ _ _ _ _ _ _ _ _ _ => hI
  refine lv_icmp_ne hx hb trq_d23 (tgt := 30) (by decide) (fun q23 => ?_) (fun q23 => ?_)
  · have q23_ : ¬ e8.toInt = r20.toInt := fun q => q23 (Int32.toInt_inj.mp q)
    refine lv_iconst hx hb trq_d30 (v := 0) (by decide) ?_
    have ec0 : (0 : Int32).toInt = 0 := by decide
    exact y_ireturn B hI rfl rfl rfl (List.mem_cons_of_mem _ List.mem_cons_self) ⟨_, rfl, ⟨_, rfl, by decide, by decide⟩⟩ (x_cs.mono B.2.2.2.2.2 (y_mon B hI)) (fun t' d' e' v' k' l' f' V' h1 h2 h3 h4 h5 h6 => by cases h1; cases h2.symm.trans hs0; cases h3.symm.trans hs4; cases h4.symm.trans hs1; cases h5.uniq hL0; have eV : ∀ i, i < 10 → V' i = V i := fun i hi => z_AR h6 hA0 hi; refine congrArg (fun x => some (Value.int x)) ?_; unfold m_tru; rw [eV k.toInt.toNat (by omega), show f (13 + 5 * k.toInt.toNat) = e8 from hg_e8, hg_e17, hg_z19, hg_r20]; rw [decide_eq_false q23]; rfl) (Nat.le_refl _) (Nat.le_refl _) trq_d31
  · have q23_ : e8.toInt = r20.toInt := by rw [q23]
    refine lv_iconst hx hb trq_d26 (v := 1) (by decide) ?_
    have ec1 : (1 : Int32).toInt = 1 := by decide
    refine lv_goto hx hb trq_d27 (tgt := 31) (by decide) ?_
    exact y_ireturn B hI rfl rfl rfl List.mem_cons_self ⟨_, rfl, ⟨_, rfl, by decide, by decide⟩⟩ (x_cs.mono B.2.2.2.2.2 (y_mon B hI)) (fun t' d' e' v' k' l' f' V' h1 h2 h3 h4 h5 h6 => by cases h1; cases h2.symm.trans hs0; cases h3.symm.trans hs4; cases h4.symm.trans hs1; cases h5.uniq hL0; have eV : ∀ i, i < 10 → V' i = V i := fun i hi => z_AR h6 hA0 hi; refine congrArg (fun x => some (Value.int x)) ?_; unfold m_tru; rw [eV k.toInt.toNat (by omega), show f (13 + 5 * k.toInt.toNat) = e8 from hg_e8, hg_e17, hg_z19, hg_r20]; rw [decide_eq_true q23]; rfl) (Nat.le_refl _) (Nat.le_refl _) trq_d31
def z_Par : yP := fun D av Y H v _ _ => ∀ (this ld ey vw : Nat) (lit : Int32) (f V : Nat → Int32), av = [.ref this, .int lit] → x_sl D 11 0 this H = some (.ref ld) → x_sl D 11 4 this H = some (.ref ey) → x_sl D 0 1 ey H = some (.ref vw) → z_L D Y ld H f → y_A vw 10 H V → v = some (.int (m_b (m_asr f V lit)))
theorem arq_d0 : decode xM120.2.1 0 = .ok (.iconst 0, 1) := dz_ok (by decide +kernel)
theorem arq_d1 : decode xM120.2.1 1 = .ok (.istore_n 2, 1) := dz_ok (by decide +kernel)
theorem arq_d2 : decode xM120.2.1 2 = .ok (.iload_n 2, 1) := dz_ok (by decide +kernel)
theorem arq_d3 : decode xM120.2.1 3 = .ok (.aload_n 0, 1) := dz_ok (by decide +kernel)
theorem arq_d4 : decode xM120.2.1 4 = .ok (.getfield 12, 3) := dz_ok (by decide +kernel)
theorem arq_d7 : decode xM120.2.1 7 = .ok (.getfield 273, 3) := dz_ok (by decide +kernel)
theorem arq_d10 : decode xM120.2.1 10 = .ok (.if_icmp .ge 33, 3) := dz_ok (by decide +kernel)
theorem arq_d13 : decode xM120.2.1 13 = .ok (.aload_n 0, 1) := dz_ok (by decide +kernel)
theorem arq_d14 : decode xM120.2.1 14 = .ok (.getfield 12, 3) := dz_ok (by decide +kernel)
theorem arq_d17 : decode xM120.2.1 17 = .ok (.getfield 264, 3) := dz_ok (by decide +kernel)
theorem arq_d20 : decode xM120.2.1 20 = .ok (.iload_n 2, 1) := dz_ok (by decide +kernel)
theorem arq_d21 : decode xM120.2.1 21 = .ok (.iaload, 1) := dz_ok (by decide +kernel)
theorem arq_d22 : decode xM120.2.1 22 = .ok (.iconst (-1), 1) := dz_ok (by decide +kernel)
theorem arq_d23 : decode xM120.2.1 23 = .ok (.if_icmp .eq 14, 3) := dz_ok (by decide +kernel)
theorem arq_d26 : decode xM120.2.1 26 = .ok (.aload_n 0, 1) := dz_ok (by decide +kernel)
theorem arq_d27 : decode xM120.2.1 27 = .ok (.iload_n 2, 1) := dz_ok (by decide +kernel)
theorem arq_d28 : decode xM120.2.1 28 = .ok (.iload_n 1, 1) := dz_ok (by decide +kernel)
theorem arq_d29 : decode xM120.2.1 29 = .ok (.invokevirtual 330, 3) := dz_ok (by decide +kernel)
theorem arq_d32 : decode xM120.2.1 32 = .ok (.ifCond .ne 5, 3) := dz_ok (by decide +kernel)
theorem arq_d35 : decode xM120.2.1 35 = .ok (.iconst 0, 1) := dz_ok (by decide +kernel)
theorem arq_d36 : decode xM120.2.1 36 = .ok (.ireturn, 1) := dz_ok (by decide +kernel)
theorem arq_d37 : decode xM120.2.1 37 = .ok (.iinc 2 1, 3) := dz_ok (by decide +kernel)
theorem arq_d40 : decode xM120.2.1 40 = .ok (.goto (-38), 3) := dz_ok (by decide +kernel)
theorem arq_d43 : decode xM120.2.1 43 = .ok (.iconst 1, 1) := dz_ok (by decide +kernel)
theorem arq_d44 : decode xM120.2.1 44 = .ok (.ireturn, 1) := dz_ok (by decide +kernel)
theorem arq_L2 {p : Program} {l : Launch} {e : Env} {s : State} {m : MethodId} {below : List Frame} {meth : Method} {c : Code} {D : va_G} {U : State} {Y0 : xY} {av : List Value} (B : y_B vwCl x_Tb x_Nb xM120 p s m meth c D U Y0 av) {this ld ey vw ar : Nat} {lit : Int32} {f V : Nat → Int32} (hav : av = [.ref this, .int lit]) (hs0 : x_sl D 11 0 this s.heap = some (.ref ld)) (hs4 : x_sl D 11 4 this s.heap = some (.ref ey)) (hs1 : x_sl D 0 1 ey s.heap = some (.ref vw)) (hL0 : z_L D Y0 ld s.heap f) (hA0 : y_A vw 10 s.heap V) (hb0 : 0 ≤ (f 0).toInt ∧ (f 0).toInt ≤ 10)  :
    ∀ (n : Nat), ∀ (H : Heap) (Y : xY) (locs : List Loc) (ls : Array Slot) (j : Int32), x_I D x_G x_Zs U (x_efs xM120) Y0 s.heap Y H locs → Y this = some 0 → Y ld = some 2 → Y ey = some 6 → Y vw = some 32 → Y ar = some 22 → x_sl D 11 0 this H = some (.ref ld) → x_sl D 11 4 this H = some (.ref ey) → x_sl D 0 1 ey H = some (.ref vw) → x_sl D 2 4 ld H = some (.ref ar) → x_sl D 2 0 ld H = some (.int (f 0)) → y_A vw 10 H V → y_A ar 10 H (fun j => f (13 + 5 * j)) → z_L D Y ld H f → lv_has ls xM120.2.2.1 [(2, .int j), (0, .ref this), (1, .int lit)] → (0 ≤ j.toInt ∧ j.toInt ≤ (f 0).toInt) → (∀ i : Nat, (i : Int) < j.toInt → m_rep1 f V lit i = true) → (11 - j.toInt).toNat < n → W p l e (x_rm xM120) s m av.toArray below meth c H locs 0 0 (y_QQ below D x_G x_Zs U xM120 z_Par av Y0 s) (F0 m 2 ls []) := by
  have X := B.1
  have hx := X.1
  have hb := X.2.1
  have hY0 := B.2.2.2.2.1
  intro n
  induction n with
  | zero => intro _ _ _ _ _ _ _ _ _ _ _ _ _ _ _ _ _ _ _ _ _ _ h; exact absurd h (Nat.not_lt_zero _)
  | succ n ih =>
    intro H Y locs ls j  hI hY_this hY_ld hY_ey hY_vw hY_ar hs_ld hs_ey hs_vw hs_ar hsi_hills hA_vw hA_ar hL hl hj hno hn
    refine lv_iload_n hx hb arq_d2 rfl (lv_at hl 0 rfl) ?_
    refine lv_aload_n hx hb arq_d3 rfl (lv_at hl 1 rfl) ?_
    refine y_getf X (fl8 X.2.2.2.2.1) hI.1 hY_this rfl hs_ld arq_d4 ?_
    refine y_getf X (fl153 X.2.2.2.2.1) hI.1 hY_ld rfl hsi_hills arq_d7 ?_
    refine lv_icmp_ge hx hb arq_d10 (tgt := 43) (by decide) (fun q10 => ?_) (fun q10 => ?_)
    · have q10_ : (f 0).toInt ≤ j.toInt := x_le32.mp q10
      refine lv_iconst hx hb arq_d43 (v := 1) (by decide) ?_
      have ec1 : (1 : Int32).toInt = 1 := by decide
      subst hav
      exact y_ireturn B hI rfl rfl rfl (List.mem_cons_of_mem _ List.mem_cons_self) ⟨_, rfl, ⟨_, rfl, by decide, by decide⟩⟩ (x_cs.mono B.2.2.2.2.2 (y_mon B hI)) (fun t' d' e' v' l' f' V' h1 h2 h3 h4 h5 h6 => by cases h1; cases h2.symm.trans hs0; cases h3.symm.trans hs4; cases h4.symm.trans hs1; cases h5.uniq hL0; have eV : ∀ i, i < 10 → V' i = V i := fun i hi => z_AR h6 hA0 hi; refine congrArg (fun x => some (Value.int x)) ?_; rw [show m_asr f V' lit = m_asr f V lit from congrArg (fun b => !b) (m_any_congr (n := (f 0).toInt.toNat) (c := fun k => !(m_rep1 f V' lit k)) (c' := fun k => !(m_rep1 f V lit k)) fun i hi => by show (!(m_rep1 f V' lit i)) = !(m_rep1 f V lit i); unfold m_rep1 m_tru; rw [eV i (by omega)])]; unfold m_asr; rw [m_any_F _ fun i hi => by rw [hno i (by omega)]; rfl]; rfl) (Nat.le_refl _) (Nat.le_refl _) arq_d44
    · have q10_ : j.toInt < (f 0).toInt := Int.not_le.mp fun q => q10 (x_le32.mpr q)
      refine lv_aload_n hx hb arq_d13 rfl (lv_at hl 1 rfl) ?_
      refine y_getf X (fl8 X.2.2.2.2.1) hI.1 hY_this rfl hs_ld arq_d14 ?_
      refine y_getf X (fl151 X.2.2.2.2.1) hI.1 hY_ld rfl hs_ar arq_d17 ?_
      refine lv_iload_n hx hb arq_d20 rfl (lv_at hl 0 rfl) ?_
      refine y_iald X hI.1 hY_ar rfl hA_ar (by omega) (by show _ < (10 : Int); omega) arq_d21 ?_
      obtain ⟨e21, hg_e21⟩ : ∃ e21 : Int32, f (13 + 5 * j.toInt.toNat) = e21 := ⟨_, rfl⟩
      rw [hg_e21]
      refine lv_iconst hx hb arq_d22 (v := (-1)) (by decide) ?_
      have ecm1 : ((-1) : Int32).toInt = (-1) := by decide
      refine lv_icmp_eq hx hb arq_d23 (tgt := 37) (by decide) (fun q23 => ?_) (fun q23 => ?_)
      · have q23_ : e21.toInt = ((-1) : Int32).toInt := by rw [q23]
        obtain ⟨z37, hg_z37⟩ : ∃ z37 : Int32, j + Int32.ofInt 1 = z37 := ⟨_, rfl⟩
        have h_z37 : z37.toInt = j.toInt + 1 := by rw [← hg_z37]; exact y_inc (by decide) (by omega) (by omega)
        refine lv_iinc hx hb arq_d37 hl (k := 0) rfl hg_z37 (by decide) (lv' := [(2, .int z37), (0, .ref this), (1, .int lit)]) rfl fun ls hl => ?_
        refine lv_goto hx hb arq_d40 (tgt := 2) (by decide) ?_
        exact ih _ _ _ _ _ hI hY_this hY_ld hY_ey hY_vw hY_ar hs_ld hs_ey hs_vw hs_ar hsi_hills hA_vw hA_ar hL (lv_sub hl [0, 1, 2] rfl) (by first | assumption | omega) (fun i hi => by by_cases ei : (i : Int) = j.toInt; (have ej : i = j.toInt.toNat := (by omega); subst ej; unfold m_rep1; first | (rw [show f (13 + 5 * j.toInt.toNat) = e21 from hg_e21, decide_eq_true (show e21 = -1 from by assumption), Bool.true_or]) | (rw [m_bn (fun q => q32 (hg_r29.symm.trans q)), Bool.or_true])); exact hno i (by omega)) (by omega)
      · have q23_ : ¬ e21.toInt = ((-1) : Int32).toInt := fun q => q23 (Int32.toInt_inj.mp q)
        refine lv_aload_n hx hb arq_d26 rfl (lv_at hl 1 rfl) ?_
        refine lv_iload_n hx hb arq_d27 rfl (lv_at hl 0 rfl) ?_
        refine lv_iload_n hx hb arq_d28 rfl (lv_at hl 2 rfl) ?_
        refine y_call (z := (0, 330, 3, some 0, xM119)) (av := [.ref this, .int j, .int lit]) (rest := []) (y_cokV (n := 2) (ci := 11) X ym_isTrue rfl rfl rfl (x_cons (x_bw56 13 rfl rfl) (x_cons (x_bw56 15 rfl rfl) (x_cons (x_at 28 (by decide +kernel) rfl) (x_cons (x_bw0 1 rfl rfl) x_nilm)))) (x_bw57 0 rfl rfl) (by decide +kernel) ⟨Nat.le_of_ble_eq_true rfl, Nat.le_of_ble_eq_true rfl⟩) hY0 hI rfl arq_d29 hl.1 (Nat.le_of_ble_eq_true rfl) (Nat.le_of_ble_eq_true rfl) (Nat.le_of_ble_eq_true rfl) (y_cons (y_cref hY_this rfl) (y_cons ⟨_, rfl, by show (0 : Int) ≤ _; omega, by show _ ≤ (9 : Int); omega⟩ (y_cons ⟨_, rfl, x_i32 _⟩ y_nil))) rfl (y_recv rfl hY_this) (fun t' hd' h1 h2 => by cases h1; cases h2.symm.trans hs_ld; exact ⟨_, hL⟩) (y_sub_ef rfl) fun v Yn o Hn L ho hr ha hIn hx_ hE hP => ?_
        have hPt := hP _ _ _ _ _ _ _ _ rfl hs_ld hs_ey hs_vw hL hA_vw
        obtain rfl := hPt
        replace hs_ld := y_Efld hE hY_this rfl (by decide) (by decide) hs_ld
        replace hs_ey := y_Efld hE hY_this rfl (by decide) (by decide) hs_ey
        replace hs_vw := y_Efld hE hY_ey rfl (by decide) (by decide) hs_vw
        replace hs_ar := y_Efld hE hY_ld rfl (by decide) (by decide) hs_ar
        replace hsi_hills := y_Efld hE hY_ld rfl (by decide) (by decide) hsi_hills
        replace hA_vw := hA_vw.kept (y_Earr hE hY_vw rfl (by decide))
        replace hA_ar := hA_ar.kept (y_Earr hE hY_ar rfl (by decide))
        replace hL := hL.E hY_ld hE (fun q u h => y_ext hx_ hI.1 h) (by decide +kernel)
        replace hY_this := y_ext hx_ hI.1 hY_this
        replace hY_ld := y_ext hx_ hI.1 hY_ld
        replace hY_ey := y_ext hx_ hI.1 hY_ey
        replace hY_vw := y_ext hx_ hI.1 hY_vw
        replace hY_ar := y_ext hx_ hI.1 hY_ar
        generalize hg_r29 : m_b (m_tru f V lit j.toInt.toNat) = r29
        clear ho hr ha hE hP hI hx_
        rename x_I _ _ _ _ _ _ _ _ _ _ => hI
        have ec0 : (0 : Int32).toInt = 0 := by decide
        refine lv_if_ne hx hb arq_d32 (tgt := 37) (by decide) (fun q32 => ?_) (fun q32 => ?_)
        · have q32_ : ¬ r29.toInt = (0 : Int32).toInt := fun q => q32 (Int32.toInt_inj.mp q)
          obtain ⟨z37, hg_z37⟩ : ∃ z37 : Int32, j + Int32.ofInt 1 = z37 := ⟨_, rfl⟩
          have h_z37 : z37.toInt = j.toInt + 1 := by rw [← hg_z37]; exact y_inc (by decide) (by omega) (by omega)
          refine lv_iinc hx hb arq_d37 hl (k := 0) rfl hg_z37 (by decide) (lv' := [(2, .int z37), (0, .ref this), (1, .int lit)]) rfl fun ls hl => ?_
          refine lv_goto hx hb arq_d40 (tgt := 2) (by decide) ?_
          exact ih _ _ _ _ _ hI hY_this hY_ld hY_ey hY_vw hY_ar hs_ld hs_ey hs_vw hs_ar hsi_hills hA_vw hA_ar hL (lv_sub hl [0, 1, 2] rfl) (by first | assumption | omega) (fun i hi => by by_cases ei : (i : Int) = j.toInt; (have ej : i = j.toInt.toNat := (by omega); subst ej; unfold m_rep1; first | (rw [show f (13 + 5 * j.toInt.toNat) = e21 from hg_e21, decide_eq_true (show e21 = -1 from by assumption), Bool.true_or]) | (rw [m_bn (fun q => q32 (hg_r29.symm.trans q)), Bool.or_true])); exact hno i (by omega)) (by omega)
        · have q32_ : r29.toInt = (0 : Int32).toInt := by rw [q32]
          refine lv_iconst hx hb arq_d35 (v := 0) (by decide) ?_
          have hf9 : m_rep1 f V lit j.toInt.toNat = false := by unfold m_rep1; rw [show f (13 + 5 * j.toInt.toNat) = e21 from hg_e21, decide_eq_false (show ¬ e21 = -1 from by assumption), m_b0 (hg_r29.trans q32)]; rfl
          subst hav
          exact y_ireturn B hI rfl rfl rfl List.mem_cons_self ⟨_, rfl, ⟨_, rfl, by decide, by decide⟩⟩ (x_cs.mono B.2.2.2.2.2 (y_mon B hI)) (fun t' d' e' v' l' f' V' h1 h2 h3 h4 h5 h6 => by cases h1; cases h2.symm.trans hs0; cases h3.symm.trans hs4; cases h4.symm.trans hs1; cases h5.uniq hL0; have eV : ∀ i, i < 10 → V' i = V i := fun i hi => z_AR h6 hA0 hi; refine congrArg (fun x => some (Value.int x)) ?_; rw [show m_asr f V' lit = m_asr f V lit from congrArg (fun b => !b) (m_any_congr (n := (f 0).toInt.toNat) (c := fun k => !(m_rep1 f V' lit k)) (c' := fun k => !(m_rep1 f V lit k)) fun i hi => by show (!(m_rep1 f V' lit i)) = !(m_rep1 f V lit i); unfold m_rep1 m_tru; rw [eV i (by omega)])]; unfold m_asr; rw [m_any_T (i := j.toInt.toNat) (by rw [hf9]; rfl) _ (by omega)]; rfl) (Nat.le_refl _) (Nat.le_refl _) arq_d36
theorem ym_asRep : y_Met vwCl x_G x_Zs x_Tb x_Nb xM120 z_AT1 z_Par := by
  refine y_main (by decide +kernel) (by decide +kernel) x_Tb_good x_Nb_ok ?_
  intro p l e s m below meth c D U Y0 av ls B hI hpre hl
  have X := B.1
  have hx := X.1
  have hb := X.2.1
  have hY0 := B.2.2.2.2.1
  obtain ⟨v0, v1, rfl, hv0, ⟨lit, rfl, -⟩⟩ := x_two B.2.2.2.2.2
  obtain ⟨this, t0, rfl, ht0, hY_this⟩ := x_ref_at hv0 rfl
  obtain rfl := List.mem_singleton.mp ht0
  replace hl : lv_has ls xM120.2.2.1 [(0, .ref this), (1, .int lit)] := hl
  obtain ⟨ld, hs_ld, hY_ld⟩ := y_fldR (k := 0) hI.1 hY_this rfl rfl
  obtain ⟨ey, hs_ey, hY_ey⟩ := y_fldR (k := 4) hI.1 hY_this rfl rfl
  obtain ⟨vw, hs_vw, hY_vw⟩ := y_fldR (k := 1) hI.1 hY_ey rfl rfl
  obtain ⟨V, hA_vw, -⟩ := y_arr hI.1 hY_vw rfl rfl
  obtain ⟨f, hL⟩ := hpre _ _ rfl hs_ld
  have hL0 := hL
  have hn0 := hL.1.1
  have hb0 : 0 ≤ (f 0).toInt ∧ (f 0).toInt ≤ 10 := by obtain ⟨x9, e9, b9⟩ := y_fldI (k := 0) hI.1 hY_ld rfl rfl; rw [hn0] at e9; cases e9; exact b9
  have hs0 := hs_ld
  have hs4 := hs_ey
  have hs1 := hs_vw
  have hA0 := hA_vw
  have hsi_hills := hn0
  obtain ⟨ar, hs_ar, hY_ar, hA_ar⟩ := hL.2.1 (4, 22, 10, 13, 5) (by decide)
  replace hA_ar : y_A ar 10 s.heap (fun j => f (13 + 5 * j)) := hA_ar
  refine lv_iconst hx hb arq_d0 (v := 0) (by decide) ?_
  have ec0 : (0 : Int32).toInt = 0 := by decide
  refine lv_istore_n hx hb arq_d1 rfl hl (by decide) (lv' := [(2, .int (0 : Int32)), (0, .ref this), (1, .int lit)]) rfl fun ls hl => ?_
  exact arq_L2 B rfl hs0 hs4 hs1 hL0 hA0 hb0 12 _ _ _ _ _ hI hY_this hY_ld hY_ey hY_vw hY_ar hs_ld hs_ey hs_vw hs_ar hsi_hills hA_vw hA_ar hL (lv_sub hl [0, 1, 2] rfl) (by first | assumption | omega) (fun i hi => absurd hi (by omega)) (by omega)
theorem m_gg_1023 {c : Nat → Bool} {k : Nat} (h : k ≤ 10) : 0 ≤ (m_gg c 0 k).toInt ∧ (m_gg c 0 k).toInt ≤ 1023 := m_bi_lt fun j hj => by rw [m_gg_bi k (by omega), m_bi_0, decide_eq_false (by omega)]; rfl
def z_Psu : yP := fun D av Y H v _ _ => ∀ (this ld ey vw : Nat) (w : Int32) (f V : Nat → Int32), av = [.ref this, .int w] → x_sl D 11 0 this H = some (.ref ld) → x_sl D 11 4 this H = some (.ref ey) → x_sl D 0 1 ey H = some (.ref vw) → z_L D Y ld H f → y_A vw 10 H V → v = some (.int (m_gg (m_sus f V w) 0 (f 0).toInt.toNat))
theorem suq_d0 : decode xM121.2.1 0 = .ok (.iconst 0, 1) := dz_ok (by decide +kernel)
theorem suq_d1 : decode xM121.2.1 1 = .ok (.istore_n 2, 1) := dz_ok (by decide +kernel)
theorem suq_d2 : decode xM121.2.1 2 = .ok (.iconst 0, 1) := dz_ok (by decide +kernel)
theorem suq_d3 : decode xM121.2.1 3 = .ok (.istore_n 3, 1) := dz_ok (by decide +kernel)
theorem suq_d4 : decode xM121.2.1 4 = .ok (.iload_n 3, 1) := dz_ok (by decide +kernel)
theorem suq_d5 : decode xM121.2.1 5 = .ok (.aload_n 0, 1) := dz_ok (by decide +kernel)
theorem suq_d6 : decode xM121.2.1 6 = .ok (.getfield 12, 3) := dz_ok (by decide +kernel)
theorem suq_d9 : decode xM121.2.1 9 = .ok (.getfield 273, 3) := dz_ok (by decide +kernel)
theorem suq_d12 : decode xM121.2.1 12 = .ok (.if_icmp .ge 39, 3) := dz_ok (by decide +kernel)
theorem suq_d15 : decode xM121.2.1 15 = .ok (.iload_n 2, 1) := dz_ok (by decide +kernel)
theorem suq_d16 : decode xM121.2.1 16 = .ok (.iload_n 3, 1) := dz_ok (by decide +kernel)
theorem suq_d17 : decode xM121.2.1 17 = .ok (.iload_n 1, 1) := dz_ok (by decide +kernel)
theorem suq_d18 : decode xM121.2.1 18 = .ok (.invokestatic 276, 3) := dz_ok (by decide +kernel)
theorem suq_d21 : decode xM121.2.1 21 = .ok (.ifCond .ne 21, 3) := dz_ok (by decide +kernel)
theorem suq_d24 : decode xM121.2.1 24 = .ok (.aload_n 0, 1) := dz_ok (by decide +kernel)
theorem suq_d25 : decode xM121.2.1 25 = .ok (.iload_n 1, 1) := dz_ok (by decide +kernel)
theorem suq_d26 : decode xM121.2.1 26 = .ok (.iconst 1, 1) := dz_ok (by decide +kernel)
theorem suq_d27 : decode xM121.2.1 27 = .ok (.iload_n 3, 1) := dz_ok (by decide +kernel)
theorem suq_d28 : decode xM121.2.1 28 = .ok (.ishl, 1) := dz_ok (by decide +kernel)
theorem suq_d29 : decode xM121.2.1 29 = .ok (.ior, 1) := dz_ok (by decide +kernel)
theorem suq_d30 : decode xM121.2.1 30 = .ok (.invokevirtual 327, 3) := dz_ok (by decide +kernel)
theorem suq_d33 : decode xM121.2.1 33 = .ok (.ifCond .eq 9, 3) := dz_ok (by decide +kernel)
theorem suq_d36 : decode xM121.2.1 36 = .ok (.iconst 1, 1) := dz_ok (by decide +kernel)
theorem suq_d37 : decode xM121.2.1 37 = .ok (.iload_n 3, 1) := dz_ok (by decide +kernel)
theorem suq_d38 : decode xM121.2.1 38 = .ok (.ishl, 1) := dz_ok (by decide +kernel)
theorem suq_d39 : decode xM121.2.1 39 = .ok (.goto 4, 3) := dz_ok (by decide +kernel)
theorem suq_d42 : decode xM121.2.1 42 = .ok (.iconst 0, 1) := dz_ok (by decide +kernel)
theorem suq_d43 : decode xM121.2.1 43 = .ok (.ior, 1) := dz_ok (by decide +kernel)
theorem suq_d44 : decode xM121.2.1 44 = .ok (.istore_n 2, 1) := dz_ok (by decide +kernel)
theorem suq_d45 : decode xM121.2.1 45 = .ok (.iinc 3 1, 3) := dz_ok (by decide +kernel)
theorem suq_d48 : decode xM121.2.1 48 = .ok (.goto (-44), 3) := dz_ok (by decide +kernel)
theorem suq_d51 : decode xM121.2.1 51 = .ok (.iload_n 2, 1) := dz_ok (by decide +kernel)
theorem suq_d52 : decode xM121.2.1 52 = .ok (.ireturn, 1) := dz_ok (by decide +kernel)
theorem suq_L4 {p : Program} {l : Launch} {e : Env} {s : State} {m : MethodId} {below : List Frame} {meth : Method} {c : Code} {D : va_G} {U : State} {Y0 : xY} {av : List Value} (B : y_B vwCl x_Tb x_Nb xM121 p s m meth c D U Y0 av) {this ld ey vw ar : Nat} {w : Int32} {f V : Nat → Int32} (hav : av = [.ref this, .int w]) (hs0 : x_sl D 11 0 this s.heap = some (.ref ld)) (hs4 : x_sl D 11 4 this s.heap = some (.ref ey)) (hs1 : x_sl D 0 1 ey s.heap = some (.ref vw)) (hL0 : z_L D Y0 ld s.heap f) (hA0 : y_A vw 10 s.heap V) (hb0 : 0 ≤ (f 0).toInt ∧ (f 0).toInt ≤ 10)  :
    ∀ (n : Nat), ∀ (H : Heap) (Y : xY) (locs : List Loc) (ls : Array Slot) (j : Int32) (al : Int32), x_I D x_G x_Zs U (x_efs xM121) Y0 s.heap Y H locs → Y this = some 0 → Y ld = some 2 → Y ey = some 6 → Y vw = some 32 → Y ar = some 22 → x_sl D 11 0 this H = some (.ref ld) → x_sl D 11 4 this H = some (.ref ey) → x_sl D 0 1 ey H = some (.ref vw) → x_sl D 2 4 ld H = some (.ref ar) → x_sl D 2 0 ld H = some (.int (f 0)) → y_A vw 10 H V → y_A ar 10 H (fun j => f (13 + 5 * j)) → z_L D Y ld H f → lv_has ls xM121.2.2.1 [(3, .int j), (2, .int al), (0, .ref this), (1, .int w)] → (0 ≤ j.toInt ∧ j.toInt ≤ (f 0).toInt) → (al = m_gg (m_sus f V w) 0 j.toInt.toNat) → (11 - j.toInt).toNat < n → W p l e (x_rm xM121) s m av.toArray below meth c H locs 0 0 (y_QQ below D x_G x_Zs U xM121 z_Psu av Y0 s) (F0 m 4 ls []) := by
  have X := B.1
  have hx := X.1
  have hb := X.2.1
  have hY0 := B.2.2.2.2.1
  intro n
  induction n with
  | zero => intro _ _ _ _ _ _ _ _ _ _ _ _ _ _ _ _ _ _ _ _ _ _ _ h; exact absurd h (Nat.not_lt_zero _)
  | succ n ih =>
    intro H Y locs ls j al  hI hY_this hY_ld hY_ey hY_vw hY_ar hs_ld hs_ey hs_vw hs_ar hsi_hills hA_vw hA_ar hL hl hj hal hn
    refine lv_iload_n hx hb suq_d4 rfl (lv_at hl 0 rfl) ?_
    refine lv_aload_n hx hb suq_d5 rfl (lv_at hl 2 rfl) ?_
    refine y_getf X (fl8 X.2.2.2.2.1) hI.1 hY_this rfl hs_ld suq_d6 ?_
    refine y_getf X (fl153 X.2.2.2.2.1) hI.1 hY_ld rfl hsi_hills suq_d9 ?_
    refine lv_icmp_ge hx hb suq_d12 (tgt := 51) (by decide) (fun q12 => ?_) (fun q12 => ?_)
    · have q12_ : (f 0).toInt ≤ j.toInt := x_le32.mp q12
      refine lv_iload_n hx hb suq_d51 rfl (lv_at hl 1 rfl) ?_
      have hrg := m_gg_1023 (c := m_sus f V w) (k := j.toInt.toNat) (by omega)
      rw [← hal] at hrg
      subst hav
      exact y_ireturn B hI rfl rfl rfl List.mem_cons_self ⟨_, rfl, ⟨_, rfl, by show (0 : Int) ≤ _; omega, by show _ ≤ (1023 : Int); omega⟩⟩ (x_cs.mono B.2.2.2.2.2 (y_mon B hI)) (fun t' d' e' v' l' f' V' h1 h2 h3 h4 h5 h6 => by cases h1; cases h2.symm.trans hs0; cases h3.symm.trans hs4; cases h4.symm.trans hs1; cases h5.uniq hL0; have eV : ∀ i, i < 10 → V' i = V i := fun i hi => z_AR h6 hA0 hi; refine congrArg (fun x => some (Value.int x)) ?_; rw [hal, show j.toInt.toNat = (f 0).toInt.toNat by omega]; refine m_gg_congr _ fun q hq => ?_; show (!(m_has w (nI q)) && m_asr f V (w ||| m_sh (nI q))) = (!(m_has w (nI q)) && m_asr f V' (w ||| m_sh (nI q))); refine congrArg _ ?_; show (!(m_any _ _)) = !(m_any _ _); exact congrArg _ (m_any_congr (n := (f 0).toInt.toNat) (c := fun k => !(m_rep1 f V' (w ||| m_sh (nI q)) k)) (c' := fun k => !(m_rep1 f V (w ||| m_sh (nI q)) k)) fun i hi => by show (!(m_rep1 f V' (w ||| m_sh (nI q)) i)) = !(m_rep1 f V (w ||| m_sh (nI q)) i); unfold m_rep1 m_tru; rw [eV i (by omega)]).symm) (Nat.le_refl _) (Nat.le_refl _) suq_d52
    · have q12_ : j.toInt < (f 0).toInt := Int.not_le.mp fun q => q12 (x_le32.mpr q)
      refine lv_iload_n hx hb suq_d15 rfl (lv_at hl 1 rfl) ?_
      refine lv_iload_n hx hb suq_d16 rfl (lv_at hl 0 rfl) ?_
      refine lv_iload_n hx hb suq_d17 rfl (lv_at hl 3 rfl) ?_
      refine y_call (z := (1, 276, 2, none, xM70)) (av := [.int j, .int w]) (rest := [.int al]) (y_cokS (n := 2) X ym_isIn (x_cons (x_bw56 8 rfl rfl) (x_cons (x_bw42 15 rfl rfl) (x_cons (x_bw0 1 rfl rfl) x_nilm))) (x_bw43 0 rfl rfl) (by decide +kernel) ⟨Nat.le_of_ble_eq_true rfl, Nat.le_of_ble_eq_true rfl⟩) hY0 hI rfl suq_d18 hl.1 (Nat.le_of_ble_eq_true rfl) (Nat.le_of_ble_eq_true rfl) (Nat.le_of_ble_eq_true rfl) (y_cons ⟨_, rfl, x_i32 _⟩ (y_cons ⟨_, rfl, x_i32 _⟩ y_nil)) rfl (y_norecv rfl) trivial (y_sub_ef rfl) fun v Yn o Hn L ho hr ha hIn hx_ hE hP => ?_
      have hPm := hP _ _ rfl
      obtain rfl := hPm
      replace hs_ld := y_Efld hE hY_this rfl (by decide) (by decide) hs_ld
      replace hs_ey := y_Efld hE hY_this rfl (by decide) (by decide) hs_ey
      replace hs_vw := y_Efld hE hY_ey rfl (by decide) (by decide) hs_vw
      replace hs_ar := y_Efld hE hY_ld rfl (by decide) (by decide) hs_ar
      replace hsi_hills := y_Efld hE hY_ld rfl (by decide) (by decide) hsi_hills
      replace hA_vw := hA_vw.kept (y_Earr hE hY_vw rfl (by decide))
      replace hA_ar := hA_ar.kept (y_Earr hE hY_ar rfl (by decide))
      replace hL := hL.E hY_ld hE (fun q u h => y_ext hx_ hI.1 h) (by decide +kernel)
      replace hY_this := y_ext hx_ hI.1 hY_this
      replace hY_ld := y_ext hx_ hI.1 hY_ld
      replace hY_ey := y_ext hx_ hI.1 hY_ey
      replace hY_vw := y_ext hx_ hI.1 hY_vw
      replace hY_ar := y_ext hx_ hI.1 hY_ar
      generalize hg_r18 : m_b (m_has w j) = r18
      clear ho hr ha hE hP hI hx_
      rename x_I _ _ _ _ _ _ _ _ _ _ => hI
      have ec0 : (0 : Int32).toInt = 0 := by decide
      refine lv_if_ne hx hb suq_d21 (tgt := 42) (by decide) (fun q21 => ?_) (fun q21 => ?_)
      · have q21_ : ¬ r18.toInt = (0 : Int32).toInt := fun q => q21 (Int32.toInt_inj.mp q)
        refine lv_iconst hx hb suq_d42 (v := 0) (by decide) ?_
        refine lv_ior hx hb suq_d43 ?_
        generalize hg_z43 : al ||| (0 : Int32) = z43
        refine lv_istore_n hx hb suq_d44 rfl hl (by decide) (lv' := [(2, .int z43), (3, .int j), (0, .ref this), (1, .int w)]) rfl fun ls hl => ?_
        obtain ⟨z45, hg_z45⟩ : ∃ z45 : Int32, j + Int32.ofInt 1 = z45 := ⟨_, rfl⟩
        have h_z45 : z45.toInt = j.toInt + 1 := by rw [← hg_z45]; exact y_inc (by decide) (by omega) (by omega)
        refine lv_iinc hx hb suq_d45 hl (k := 1) rfl hg_z45 (by decide) (lv' := [(3, .int z45), (2, .int z43), (0, .ref this), (1, .int w)]) rfl fun ls hl => ?_
        refine lv_goto hx hb suq_d48 (tgt := 4) (by decide) ?_
        have his : z45.toInt.toNat = j.toInt.toNat + 1 := by omega
        have hnj := m_nj hj.1
        have hc : m_sus f V w j.toInt.toNat = false := by unfold m_sus; rw [hnj]; first | (rw [m_bn (fun q => absurd (hg_r18.symm.trans q) (by assumption))]; rfl) | (rw [show w ||| m_sh j = z29 from by rw [← hg_z29, ← hg_z28]; rfl, m_b0 (hg_r30.trans q33), Bool.and_false])
        exact ih _ _ _ _ _ _ hI hY_this hY_ld hY_ey hY_vw hY_ar hs_ld hs_ey hs_vw hs_ar hsi_hills hA_vw hA_ar hL (lv_sub hl [0, 1, 2, 3] rfl) (by first | assumption | omega) (by rw [his, m_gg_F hc, ← hal, ← hg_z43]; exact m_or0) (by omega)
      · have q21_ : r18.toInt = (0 : Int32).toInt := by rw [q21]
        refine lv_aload_n hx hb suq_d24 rfl (lv_at hl 2 rfl) ?_
        refine lv_iload_n hx hb suq_d25 rfl (lv_at hl 3 rfl) ?_
        refine lv_iconst hx hb suq_d26 (v := 1) (by decide) ?_
        have ec1 : (1 : Int32).toInt = 1 := by decide
        refine lv_iload_n hx hb suq_d27 rfl (lv_at hl 0 rfl) ?_
        refine lv_ishl hx hb suq_d28 ?_
        generalize hg_z28 : (1 : Int32) <<< (j &&& 31) = z28
        refine lv_ior hx hb suq_d29 ?_
        generalize hg_z29 : w ||| z28 = z29
        refine y_call (z := (0, 327, 2, some 0, xM120)) (av := [.ref this, .int z29]) (rest := [.int al]) (y_cokV (n := 1) (ci := 11) X ym_asRep rfl rfl rfl (x_cons (x_bw56 9 rfl rfl) (x_cons (x_bw56 11 rfl rfl) (x_cons (x_at 27 (by decide +kernel) rfl) (x_cons (x_bw0 1 rfl rfl) x_nilm)))) (x_bw56 12 rfl rfl) (by decide +kernel) ⟨Nat.le_of_ble_eq_true rfl, Nat.le_of_ble_eq_true rfl⟩) hY0 hI rfl suq_d30 hl.1 (Nat.le_of_ble_eq_true rfl) (Nat.le_of_ble_eq_true rfl) (Nat.le_of_ble_eq_true rfl) (y_cons (y_cref hY_this rfl) (y_cons ⟨_, rfl, x_i32 _⟩ y_nil)) rfl (y_recv rfl hY_this) (fun t' hd' h1 h2 => by cases h1; cases h2.symm.trans hs_ld; exact ⟨_, hL⟩) (y_sub_ef rfl) fun v Yn o Hn L ho hr ha hIn hx_ hE hP => ?_
        have hPt := hP _ _ _ _ _ _ _ rfl hs_ld hs_ey hs_vw hL hA_vw
        obtain rfl := hPt
        replace hs_ld := y_Efld hE hY_this rfl (by decide) (by decide) hs_ld
        replace hs_ey := y_Efld hE hY_this rfl (by decide) (by decide) hs_ey
        replace hs_vw := y_Efld hE hY_ey rfl (by decide) (by decide) hs_vw
        replace hs_ar := y_Efld hE hY_ld rfl (by decide) (by decide) hs_ar
        replace hsi_hills := y_Efld hE hY_ld rfl (by decide) (by decide) hsi_hills
        replace hA_vw := hA_vw.kept (y_Earr hE hY_vw rfl (by decide))
        replace hA_ar := hA_ar.kept (y_Earr hE hY_ar rfl (by decide))
        replace hL := hL.E hY_ld hE (fun q u h => y_ext hx_ hI.1 h) (by decide +kernel)
        replace hY_this := y_ext hx_ hI.1 hY_this
        replace hY_ld := y_ext hx_ hI.1 hY_ld
        replace hY_ey := y_ext hx_ hI.1 hY_ey
        replace hY_vw := y_ext hx_ hI.1 hY_vw
        replace hY_ar := y_ext hx_ hI.1 hY_ar
        generalize hg_r30 : m_b (m_asr f V z29) = r30
        clear ho hr ha hE hP hI hx_
        rename x_I _ _ _ _ _ _ _ _ _ _ => hI
        refine lv_if_eq hx hb suq_d33 (tgt := 42) (by decide) (fun q33 => ?_) (fun q33 => ?_)
        · have q33_ : r30.toInt = (0 : Int32).toInt := by rw [q33]
          refine lv_iconst hx hb suq_d42 (v := 0) (by decide) ?_
          refine lv_ior hx hb suq_d43 ?_
          generalize hg_z43 : al ||| (0 : Int32) = z43
          refine lv_istore_n hx hb suq_d44 rfl hl (by decide) (lv' := [(2, .int z43), (3, .int j), (0, .ref this), (1, .int w)]) rfl fun ls hl => ?_
          obtain ⟨z45, hg_z45⟩ : ∃ z45 : Int32, j + Int32.ofInt 1 = z45 := ⟨_, rfl⟩
          have h_z45 : z45.toInt = j.toInt + 1 := by rw [← hg_z45]; exact y_inc (by decide) (by omega) (by omega)
          refine lv_iinc hx hb suq_d45 hl (k := 1) rfl hg_z45 (by decide) (lv' := [(3, .int z45), (2, .int z43), (0, .ref this), (1, .int w)]) rfl fun ls hl => ?_
          refine lv_goto hx hb suq_d48 (tgt := 4) (by decide) ?_
          have his : z45.toInt.toNat = j.toInt.toNat + 1 := by omega
          have hnj := m_nj hj.1
          have hc : m_sus f V w j.toInt.toNat = false := by unfold m_sus; rw [hnj]; first | (rw [m_bn (fun q => absurd (hg_r18.symm.trans q) (by assumption))]; rfl) | (rw [show w ||| m_sh j = z29 from by rw [← hg_z29, ← hg_z28]; rfl, m_b0 (hg_r30.trans q33), Bool.and_false])
          exact ih _ _ _ _ _ _ hI hY_this hY_ld hY_ey hY_vw hY_ar hs_ld hs_ey hs_vw hs_ar hsi_hills hA_vw hA_ar hL (lv_sub hl [0, 1, 2, 3] rfl) (by first | assumption | omega) (by rw [his, m_gg_F hc, ← hal, ← hg_z43]; exact m_or0) (by omega)
        · have q33_ : ¬ r30.toInt = (0 : Int32).toInt := fun q => q33 (Int32.toInt_inj.mp q)
          refine lv_iconst hx hb suq_d36 (v := 1) (by decide) ?_
          refine lv_iload_n hx hb suq_d37 rfl (lv_at hl 0 rfl) ?_
          refine lv_ishl hx hb suq_d38 ?_
          generalize hg_z38 : (1 : Int32) <<< (j &&& 31) = z38
          refine lv_goto hx hb suq_d39 (tgt := 43) (by decide) ?_
          refine lv_ior hx hb suq_d43 ?_
          generalize hg_z43 : al ||| z38 = z43
          refine lv_istore_n hx hb suq_d44 rfl hl (by decide) (lv' := [(2, .int z43), (3, .int j), (0, .ref this), (1, .int w)]) rfl fun ls hl => ?_
          obtain ⟨z45, hg_z45⟩ : ∃ z45 : Int32, j + Int32.ofInt 1 = z45 := ⟨_, rfl⟩
          have h_z45 : z45.toInt = j.toInt + 1 := by rw [← hg_z45]; exact y_inc (by decide) (by omega) (by omega)
          refine lv_iinc hx hb suq_d45 hl (k := 1) rfl hg_z45 (by decide) (lv' := [(3, .int z45), (2, .int z43), (0, .ref this), (1, .int w)]) rfl fun ls hl => ?_
          refine lv_goto hx hb suq_d48 (tgt := 4) (by decide) ?_
          have his : z45.toInt.toNat = j.toInt.toNat + 1 := by omega
          have hnj := m_nj hj.1
          have hc : m_sus f V w j.toInt.toNat = true := by unfold m_sus; rw [hnj, m_b0 (hg_r18.trans (by assumption)), show w ||| m_sh j = z29 from by rw [← hg_z29, ← hg_z28]; rfl, m_bn (fun q => q33 (hg_r30.symm.trans q))]; rfl
          exact ih _ _ _ _ _ _ hI hY_this hY_ld hY_ey hY_vw hY_ar hs_ld hs_ey hs_vw hs_ar hsi_hills hA_vw hA_ar hL (lv_sub hl [0, 1, 2, 3] rfl) (by first | assumption | omega) (by rw [his, m_gg_T hc, hnj, ← hal, ← hg_z43, ← hg_z38]; rfl) (by omega)
theorem ym_suspects : y_Met vwCl x_G x_Zs x_Tb x_Nb xM121 z_AT1 z_Psu := by
  refine y_main (by decide +kernel) (by decide +kernel) x_Tb_good x_Nb_ok ?_
  intro p l e s m below meth c D U Y0 av ls B hI hpre hl
  have X := B.1
  have hx := X.1
  have hb := X.2.1
  have hY0 := B.2.2.2.2.1
  obtain ⟨v0, v1, rfl, hv0, ⟨w, rfl, -⟩⟩ := x_two B.2.2.2.2.2
  obtain ⟨this, t0, rfl, ht0, hY_this⟩ := x_ref_at hv0 rfl
  obtain rfl := List.mem_singleton.mp ht0
  replace hl : lv_has ls xM121.2.2.1 [(0, .ref this), (1, .int w)] := hl
  obtain ⟨ld, hs_ld, hY_ld⟩ := y_fldR (k := 0) hI.1 hY_this rfl rfl
  obtain ⟨ey, hs_ey, hY_ey⟩ := y_fldR (k := 4) hI.1 hY_this rfl rfl
  obtain ⟨vw, hs_vw, hY_vw⟩ := y_fldR (k := 1) hI.1 hY_ey rfl rfl
  obtain ⟨V, hA_vw, -⟩ := y_arr hI.1 hY_vw rfl rfl
  obtain ⟨f, hL⟩ := hpre _ _ rfl hs_ld
  have hL0 := hL
  have hn0 := hL.1.1
  have hb0 : 0 ≤ (f 0).toInt ∧ (f 0).toInt ≤ 10 := by obtain ⟨x9, e9, b9⟩ := y_fldI (k := 0) hI.1 hY_ld rfl rfl; rw [hn0] at e9; cases e9; exact b9
  have hs0 := hs_ld
  have hs4 := hs_ey
  have hs1 := hs_vw
  have hA0 := hA_vw
  have hsi_hills := hn0
  obtain ⟨ar, hs_ar, hY_ar, hA_ar⟩ := hL.2.1 (4, 22, 10, 13, 5) (by decide)
  replace hA_ar : y_A ar 10 s.heap (fun j => f (13 + 5 * j)) := hA_ar
  refine lv_iconst hx hb suq_d0 (v := 0) (by decide) ?_
  have ec0 : (0 : Int32).toInt = 0 := by decide
  refine lv_istore_n hx hb suq_d1 rfl hl (by decide) (lv' := [(2, .int (0 : Int32)), (0, .ref this), (1, .int w)]) rfl fun ls hl => ?_
  refine lv_iconst hx hb suq_d2 (v := 0) (by decide) ?_
  refine lv_istore_n hx hb suq_d3 rfl hl (by decide) (lv' := [(3, .int (0 : Int32)), (2, .int (0 : Int32)), (0, .ref this), (1, .int w)]) rfl fun ls hl => ?_
  exact suq_L4 B rfl hs0 hs4 hs1 hL0 hA0 hb0 12 _ _ _ _ _ _ hI hY_this hY_ld hY_ey hY_vw hY_ar hs_ld hs_ey hs_vw hs_ar hsi_hills hA_vw hA_ar hL (lv_sub hl [0, 1, 2, 3] rfl) (by first | assumption | omega) rfl (by omega)
