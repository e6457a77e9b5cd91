/-! HOW HIGH A THING STANDS: p the place of its kind -/
def m_99 (v : Int32) : Int32 := if v < 99 then v else 99
def m_gr (k : Int) (g y : Int32) : Int32 := if k = 1 then g * y else if k = 3 then g * (y - y / 5 * 5) else 2 * g * y
def m_wd (f : Nat → Int32) (p : Nat) (y d : Int32) : Int32 := if d = 0 then m_99 (f (p + 3) + m_gr (f p).toInt (f (p + 4)) y) else 0
def m_stn (f : Nat → Int32) (p : Nat) (y d : Int32) : Int32 := if (f p).toInt = 0 then f (p + 3) else if (f p).toInt = 5 then (if d = 0 then 0 else f (p + 3)) else if (f p).toInt = 4 then m_wd f p y d / 2 else m_wd f p y d
def m_hgh (f : Nat → Int32) (t : Nat) (y : Int32) : Int32 := m_stn f (60 + 7 * t) y (if f (65 + 7 * t) = 1 then 1 else 0)
theorem z_st.at {D : va_G} {Y : xY} {H : Heap} {f : Nat → Int32} {s p : Nat} {z : Nat × Nat} (h : z_st D Y s H f p) (hz : z ∈ z_Kd) (hY : Y s = some z.1) : (z.1 : Int) = 11 + (f p).toInt ∧ ∀ k, k < 5 → x_sl D z.2 k s H = some (.int (f (p + k))) := by
  obtain ⟨z', z1, z2, z3, z4⟩ := h
  have e0 : z'.1 = z.1 := by
    rw [z2] at hY
    injection hY
  have hzk : ∀ u ∈ z_Kd, ∀ v ∈ z_Kd, u.1 = v.1 → u = v := by decide
  cases hzk z' z1 z hz e0
  exact ⟨z3, z4⟩
theorem z_intI {o : Option Value} {u v : Int32} (h1 : o = some (.int u)) (h2 : o = some (.int v)) : u = v := by
  rw [h1] at h2
  injection h2 with h2
  injection h2
def z_Pgr : yP := fun D av Y H v _ _ => ∀ (this : Nat) (y : Int32) (f : Nat → Int32) (p : Nat), av = [.ref this, .int y] → z_st D Y this H f p → v = some (.int (m_gr (f p).toInt (f (p + 4)) y))
def z_Pwd : yP := fun D av Y H v _ _ => ∀ (this : Nat) (y d : Int32) (f : Nat → Int32) (p : Nat), av = [.ref this, .int y, .int d] → z_st D Y this H f p → v = some (.int (m_wd f p y d))
def z_Psn : yP := fun D av Y H v _ _ => ∀ (this : Nat) (y d : Int32) (f : Nat → Int32) (p : Nat), av = [.ref this, .int y, .int d] → z_st D Y this H f p → v = some (.int (m_stn f p y d))
theorem gwq_d0 : decode xM34.2.1 0 = .ok (.aload_n 0, 1) := dz_ok (by decide +kernel)
theorem gwq_d1 : decode xM34.2.1 1 = .ok (.getfield 25, 3) := dz_ok (by decide +kernel)
theorem gwq_d4 : decode xM34.2.1 4 = .ok (.iload_n 1, 1) := dz_ok (by decide +kernel)
theorem gwq_d5 : decode xM34.2.1 5 = .ok (.imul, 1) := dz_ok (by decide +kernel)
theorem gwq_d6 : decode xM34.2.1 6 = .ok (.ireturn, 1) := dz_ok (by decide +kernel)
theorem ym_gw : y_Met vwCl x_G x_Zs x_Tb x_Nb xM34 y_T z_Pgr := by
  refine y_main (by decide +kernel) (by decide +kernel) x_Tb_good x_Nb_ok ?_
  intro p l e s m below meth c D U Y0 av ls B hI _ hl
  have X := B.1
  have hx := X.1
  have hb := X.2.1
  have hY0 := B.2.2.2.2.1
  obtain ⟨v0, v1, rfl, hv0, ⟨y, rfl, -⟩⟩ := x_two B.2.2.2.2.2
  obtain ⟨this, t0, rfl, ht0, hY_this⟩ := x_ref_at hv0 rfl
  replace hl : lv_has ls xM34.2.2.1 [(0, .ref this), (1, .int y)] := hl
  obtain rfl := List.mem_singleton.mp ht0
  obtain ⟨vg, hs_g, -⟩ := y_fldI (k := 4) hI.1 hY_this rfl rfl
  have hs0_g := hs_g
  have hY0_this := hY_this
  refine lv_aload_n hx hb gwq_d0 rfl (lv_at hl 0 rfl) ?_
  refine y_getf X (fl52 X.2.2.2.2.1) hI.1 hY_this rfl hs_g gwq_d1 ?_
  refine lv_iload_n hx hb gwq_d4 rfl (lv_at hl 1 rfl) ?_
  refine lv_imul hx hb gwq_d5 ?_
  generalize hg_z5 : vg * y = z5
  subst hg_z5
  exact y_ireturn B hI rfl rfl rfl List.mem_cons_self ⟨_, rfl, ⟨_, rfl, x_i32 _⟩⟩ (x_cs.mono B.2.2.2.2.2 (y_mon B hI)) (fun t' y0' f' p' h1 h2 => by cases h1; obtain ⟨e1, e2⟩ := h2.at (z := (12, 10)) (by decide) hY0_this; cases z_intI (e2 4 (by decide)) hs0_g; rw [show (f' p').toInt = 1 by omega]; rfl) (Nat.le_refl _) (Nat.le_refl _) gwq_d6
theorem gpq_d0 : decode xM32.2.1 0 = .ok (.iconst 2, 1) := dz_ok (by decide +kernel)
theorem gpq_d1 : decode xM32.2.1 1 = .ok (.aload_n 0, 1) := dz_ok (by decide +kernel)
theorem gpq_d2 : decode xM32.2.1 2 = .ok (.getfield 7, 3) := dz_ok (by decide +kernel)
theorem gpq_d5 : decode xM32.2.1 5 = .ok (.imul, 1) := dz_ok (by decide +kernel)
theorem gpq_d6 : decode xM32.2.1 6 = .ok (.iload_n 1, 1) := dz_ok (by decide +kernel)
theorem gpq_d7 : decode xM32.2.1 7 = .ok (.imul, 1) := dz_ok (by decide +kernel)
theorem gpq_d8 : decode xM32.2.1 8 = .ok (.ireturn, 1) := dz_ok (by decide +kernel)
theorem ym_gp : y_Met vwCl x_G x_Zs x_Tb x_Nb xM32 y_T z_Pgr := by
  refine y_main (by decide +kernel) (by decide +kernel) x_Tb_good x_Nb_ok ?_
  intro p l e s m below meth c D U Y0 av ls B hI _ hl
  have X := B.1
  have hx := X.1
  have hb := X.2.1
  have hY0 := B.2.2.2.2.1
  obtain ⟨v0, v1, rfl, hv0, ⟨y, rfl, -⟩⟩ := x_two B.2.2.2.2.2
  obtain ⟨this, t0, rfl, ht0, hY_this⟩ := x_ref_at hv0 rfl
  replace hl : lv_has ls xM32.2.2.1 [(0, .ref this), (1, .int y)] := hl
  simp only [List.mem_cons, List.not_mem_nil, or_false] at ht0
  rcases ht0 with rfl | rfl
  · obtain ⟨vg, hs_g, -⟩ := y_fldI (k := 4) hI.1 hY_this rfl rfl
    have hs0_g := hs_g
    have hY0_this := hY_this
    refine lv_iconst hx hb gpq_d0 (v := 2) (by decide) ?_
    have ec2 : (2 : Int32).toInt = 2 := by decide
    refine lv_aload_n hx hb gpq_d1 rfl (lv_at hl 0 rfl) ?_
    refine y_getf X (fl49 X.2.2.2.2.1) hI.1 hY_this rfl hs_g gpq_d2 ?_
    refine lv_imul hx hb gpq_d5 ?_
    generalize hg_z5 : (2 : Int32) * vg = z5
    refine lv_iload_n hx hb gpq_d6 rfl (lv_at hl 1 rfl) ?_
    refine lv_imul hx hb gpq_d7 ?_
    generalize hg_z7 : z5 * y = z7
    subst hg_z5
    subst hg_z7
    exact y_ireturn B hI rfl rfl rfl List.mem_cons_self ⟨_, rfl, ⟨_, rfl, x_i32 _⟩⟩ (x_cs.mono B.2.2.2.2.2 (y_mon B hI)) (fun t' y0' f' p' h1 h2 => by cases h1; obtain ⟨e1, e2⟩ := h2.at (z := (13, 4)) (by decide) hY0_this; cases z_intI (e2 4 (by decide)) hs0_g; first | (rw [show (f' p').toInt = 2 by omega]; rfl) | (rw [show (f' p').toInt = 4 by omega]; rfl)) (Nat.le_refl _) (Nat.le_refl _) gpq_d8
  · obtain ⟨vg, hs_g, -⟩ := y_fldI (k := 4) hI.1 hY_this rfl rfl
    have hs0_g := hs_g
    have hY0_this := hY_this
    refine lv_iconst hx hb gpq_d0 (v := 2) (by decide) ?_
    have ec2 : (2 : Int32).toInt = 2 := by decide
    refine lv_aload_n hx hb gpq_d1 rfl (lv_at hl 0 rfl) ?_
    refine y_getf X (fl50 X.2.2.2.2.1) hI.1 hY_this rfl hs_g gpq_d2 ?_
    refine lv_imul hx hb gpq_d5 ?_
    generalize hg_z5 : (2 : Int32) * vg = z5
    refine lv_iload_n hx hb gpq_d6 rfl (lv_at hl 1 rfl) ?_
    refine lv_imul hx hb gpq_d7 ?_
    generalize hg_z7 : z5 * y = z7
    subst hg_z5
    subst hg_z7
    exact y_ireturn B hI rfl rfl rfl List.mem_cons_self ⟨_, rfl, ⟨_, rfl, x_i32 _⟩⟩ (x_cs.mono B.2.2.2.2.2 (y_mon B hI)) (fun t' y0' f' p' h1 h2 => by cases h1; obtain ⟨e1, e2⟩ := h2.at (z := (15, 8)) (by decide) hY0_this; cases z_intI (e2 4 (by decide)) hs0_g; first | (rw [show (f' p').toInt = 2 by omega]; rfl) | (rw [show (f' p').toInt = 4 by omega]; rfl)) (Nat.le_refl _) (Nat.le_refl _) gpq_d8
theorem ghq_d0 : decode xM33.2.1 0 = .ok (.aload_n 0, 1) := dz_ok (by decide +kernel)
theorem ghq_d1 : decode xM33.2.1 1 = .ok (.getfield 7, 3) := dz_ok (by decide +kernel)
theorem ghq_d4 : decode xM33.2.1 4 = .ok (.iload_n 1, 1) := dz_ok (by decide +kernel)
theorem ghq_d5 : decode xM33.2.1 5 = .ok (.iconst 5, 1) := dz_ok (by decide +kernel)
theorem ghq_d6 : decode xM33.2.1 6 = .ok (.irem, 1) := dz_ok (by decide +kernel)
theorem ghq_d7 : decode xM33.2.1 7 = .ok (.imul, 1) := dz_ok (by decide +kernel)
theorem ghq_d8 : decode xM33.2.1 8 = .ok (.ireturn, 1) := dz_ok (by decide +kernel)
theorem ym_gh : y_Met vwCl x_G x_Zs x_Tb x_Nb xM33 y_T z_Pgr := by
  refine y_main (by decide +kernel) (by decide +kernel) x_Tb_good x_Nb_ok ?_
  intro p l e s m below meth c D U Y0 av ls B hI _ hl
  have X := B.1
  have hx := X.1
  have hb := X.2.1
  have hY0 := B.2.2.2.2.1
  obtain ⟨v0, v1, rfl, hv0, ⟨y, rfl, -⟩⟩ := x_two B.2.2.2.2.2
  obtain ⟨this, t0, rfl, ht0, hY_this⟩ := x_ref_at hv0 rfl
  replace hl : lv_has ls xM33.2.2.1 [(0, .ref this), (1, .int y)] := hl
  obtain rfl := List.mem_singleton.mp ht0
  obtain ⟨vg, hs_g, -⟩ := y_fldI (k := 4) hI.1 hY_this rfl rfl
  have hs0_g := hs_g
  have hY0_this := hY_this
  refine lv_aload_n hx hb ghq_d0 rfl (lv_at hl 0 rfl) ?_
  refine y_getf X (fl51 X.2.2.2.2.1) hI.1 hY_this rfl hs_g ghq_d1 ?_
  refine lv_iload_n hx hb ghq_d4 rfl (lv_at hl 1 rfl) ?_
  refine lv_iconst hx hb ghq_d5 (v := 5) (by decide) ?_
  have ec5 : (5 : Int32).toInt = 5 := by decide
  refine lv_irem hx hb ghq_d6 (by decide) ?_
  generalize hg_z6 : y - y / (5 : Int32) * (5 : Int32) = z6
  refine lv_imul hx hb ghq_d7 ?_
  generalize hg_z7 : vg * z6 = z7
  subst hg_z6
  subst hg_z7
  exact y_ireturn B hI rfl rfl rfl List.mem_cons_self ⟨_, rfl, ⟨_, rfl, x_i32 _⟩⟩ (x_cs.mono B.2.2.2.2.2 (y_mon B hI)) (fun t' y0' f' p' h1 h2 => by cases h1; obtain ⟨e1, e2⟩ := h2.at (z := (14, 1)) (by decide) hY0_this; cases z_intI (e2 4 (by decide)) hs0_g; rw [show (f' p').toInt = 3 by omega]; rfl) (Nat.le_refl _) (Nat.le_refl _) ghq_d8
theorem sSq_d0 : decode xM31.2.1 0 = .ok (.aload_n 0, 1) := dz_ok (by decide +kernel)
theorem sSq_d1 : decode xM31.2.1 1 = .ok (.getfield 19, 3) := dz_ok (by decide +kernel)
theorem sSq_d4 : decode xM31.2.1 4 = .ok (.ireturn, 1) := dz_ok (by decide +kernel)
theorem ym_sS : y_Met vwCl x_G x_Zs x_Tb x_Nb xM31 y_T z_Psn := by
  refine y_main (by decide +kernel) (by decide +kernel) x_Tb_good x_Nb_ok ?_
  intro p l e s m below meth c D U Y0 av ls B hI _ hl
  have X := B.1
  have hx := X.1
  have hb := X.2.1
  have hY0 := B.2.2.2.2.1
  obtain ⟨v0, v1, v2, rfl, hv0, ⟨y, rfl, -⟩, ⟨d, rfl, hd9⟩⟩ := y_three B.2.2.2.2.2
  obtain ⟨this, t0, rfl, ht0, hY_this⟩ := x_ref_at hv0 rfl
  replace hl : lv_has ls xM31.2.2.1 [(0, .ref this), (1, .int y), (2, .int d)] := hl
  obtain rfl := List.mem_singleton.mp ht0
  obtain ⟨vh, hs_h, -⟩ := y_fldI (k := 3) hI.1 hY_this rfl rfl
  have hs0_h := hs_h
  have hY0_this := hY_this
  refine lv_aload_n hx hb sSq_d0 rfl (lv_at hl 0 rfl) ?_
  refine y_getf X (fl48 X.2.2.2.2.1) hI.1 hY_this rfl hs_h sSq_d1 ?_
  exact y_ireturn B hI rfl rfl rfl List.mem_cons_self ⟨_, rfl, ⟨_, rfl, x_i32 _⟩⟩ (x_cs.mono B.2.2.2.2.2 (y_mon B hI)) (fun t' y0' y1' f' p' h1 h2 => by cases h1; obtain ⟨e1, e2⟩ := h2.at (z := (11, 6)) (by decide) hY0_this; cases z_intI (e2 3 (by decide)) hs0_h; show _ = some (Value.int (m_stn _ _ _ _)); unfold m_stn; rw [if_pos (show (f' p').toInt = 0 by omega)]) (Nat.le_refl _) (Nat.le_refl _) sSq_d4
theorem sAq_d0 : decode xM37.2.1 0 = .ok (.iload_n 2, 1) := dz_ok (by decide +kernel)
theorem sAq_d1 : decode xM37.2.1 1 = .ok (.ifCond .eq 10, 3) := dz_ok (by decide +kernel)
theorem sAq_d4 : decode xM37.2.1 4 = .ok (.aload_n 0, 1) := dz_ok (by decide +kernel)
theorem sAq_d5 : decode xM37.2.1 5 = .ok (.getfield 7, 3) := dz_ok (by decide +kernel)
theorem sAq_d8 : decode xM37.2.1 8 = .ok (.goto 4, 3) := dz_ok (by decide +kernel)
theorem sAq_d11 : decode xM37.2.1 11 = .ok (.iconst 0, 1) := dz_ok (by decide +kernel)
theorem sAq_d12 : decode xM37.2.1 12 = .ok (.ireturn, 1) := dz_ok (by decide +kernel)
theorem ym_sA : y_Met vwCl x_G x_Zs x_Tb x_Nb xM37 y_T z_Psn := by
  refine y_main (by decide +kernel) (by decide +kernel) x_Tb_good x_Nb_ok ?_
  intro p l e s m below meth c D U Y0 av ls B hI _ hl
  have X := B.1
  have hx := X.1
  have hb := X.2.1
  have hY0 := B.2.2.2.2.1
  obtain ⟨v0, v1, v2, rfl, hv0, ⟨y, rfl, -⟩, ⟨d, rfl, hd9⟩⟩ := y_three B.2.2.2.2.2
  obtain ⟨this, t0, rfl, ht0, hY_this⟩ := x_ref_at hv0 rfl
  replace hl : lv_has ls xM37.2.2.1 [(0, .ref this), (1, .int y), (2, .int d)] := hl
  obtain rfl := List.mem_singleton.mp ht0
  obtain ⟨vh, hs_h, -⟩ := y_fldI (k := 3) hI.1 hY_this rfl rfl
  have hs0_h := hs_h
  have hY0_this := hY_this
  refine lv_iload_n hx hb sAq_d0 rfl (lv_at hl 2 rfl) ?_
  have ec0 : (0 : Int32).toInt = 0 := by decide
  refine lv_if_eq hx hb sAq_d1 (tgt := 11) (by decide) (fun q1 => ?_) (fun q1 => ?_)
  · have q1_ : d.toInt = (0 : Int32).toInt := by rw [q1]
    refine lv_iconst hx hb sAq_d11 (v := 0) (by decide) ?_
    exact y_ireturn B hI rfl rfl rfl List.mem_cons_self ⟨_, rfl, ⟨_, rfl, x_i32 _⟩⟩ (x_cs.mono B.2.2.2.2.2 (y_mon B hI)) (fun t' y0' y1' f' p' h1 h2 => by cases h1; obtain ⟨e1, e2⟩ := h2.at (z := (16, 9)) (by decide) hY0_this; cases z_intI (e2 3 (by decide)) hs0_h; show _ = some (Value.int (m_stn _ _ _ _)); unfold m_stn; rw [if_neg (show ¬ (f' p').toInt = 0 by omega), if_pos (show (f' p').toInt = 5 by omega)]; rw [if_pos q1]) (Nat.le_refl _) (Nat.le_refl _) sAq_d12
  · have q1_ : ¬ d.toInt = (0 : Int32).toInt := fun q => q1 (Int32.toInt_inj.mp q)
    refine lv_aload_n hx hb sAq_d4 rfl (lv_at hl 0 rfl) ?_
    refine y_getf X (fl57 X.2.2.2.2.1) hI.1 hY_this rfl hs_h sAq_d5 ?_
    refine lv_goto hx hb sAq_d8 (tgt := 12) (by decide) ?_
    exact y_ireturn B hI rfl rfl rfl List.mem_cons_self ⟨_, rfl, ⟨_, rfl, x_i32 _⟩⟩ (x_cs.mono B.2.2.2.2.2 (y_mon B hI)) (fun t' y0' y1' f' p' h1 h2 => by cases h1; obtain ⟨e1, e2⟩ := h2.at (z := (16, 9)) (by decide) hY0_this; cases z_intI (e2 3 (by decide)) hs0_h; show _ = some (Value.int (m_stn _ _ _ _)); unfold m_stn; rw [if_neg (show ¬ (f' p').toInt = 0 by omega), if_pos (show (f' p').toInt = 5 by omega)]; rw [if_neg q1]) (Nat.le_refl _) (Nat.le_refl _) sAq_d12
theorem sWq_d0 : decode xM35.2.1 0 = .ok (.iload_n 2, 1) := dz_ok (by decide +kernel)
theorem sWq_d1 : decode xM35.2.1 1 = .ok (.ifCond .eq 7, 3) := dz_ok (by decide +kernel)
theorem sWq_d4 : decode xM35.2.1 4 = .ok (.iconst 0, 1) := dz_ok (by decide +kernel)
theorem sWq_d5 : decode xM35.2.1 5 = .ok (.goto 18, 3) := dz_ok (by decide +kernel)
theorem sWq_d8 : decode xM35.2.1 8 = .ok (.bipush 99, 2) := dz_ok (by decide +kernel)
theorem sWq_d10 : decode xM35.2.1 10 = .ok (.aload_n 0, 1) := dz_ok (by decide +kernel)
theorem sWq_d11 : decode xM35.2.1 11 = .ok (.getfield 9, 3) := dz_ok (by decide +kernel)
theorem sWq_d14 : decode xM35.2.1 14 = .ok (.aload_n 0, 1) := dz_ok (by decide +kernel)
theorem sWq_d15 : decode xM35.2.1 15 = .ok (.iload_n 1, 1) := dz_ok (by decide +kernel)
theorem sWq_d16 : decode xM35.2.1 16 = .ok (.invokevirtual 15, 3) := dz_ok (by decide +kernel)
theorem sWq_d19 : decode xM35.2.1 19 = .ok (.iadd, 1) := dz_ok (by decide +kernel)
theorem sWq_d20 : decode xM35.2.1 20 = .ok (.invokestatic 19, 3) := dz_ok (by decide +kernel)
theorem sWq_d23 : decode xM35.2.1 23 = .ok (.ireturn, 1) := dz_ok (by decide +kernel)
theorem ym_sW : y_Met vwCl x_G x_Zs x_Tb x_Nb xM35 y_T z_Pwd := by
  refine y_main (by decide +kernel) (by decide +kernel) x_Tb_good x_Nb_ok ?_
  intro p l e s m below meth c D U Y0 av ls B hI _ hl
  have X := B.1
  have hx := X.1
  have hb := X.2.1
  have hY0 := B.2.2.2.2.1
  obtain ⟨v0, v1, v2, rfl, hv0, ⟨y, rfl, -⟩, ⟨d, rfl, hd9⟩⟩ := y_three B.2.2.2.2.2
  obtain ⟨this, t0, rfl, ht0, hY_this⟩ := x_ref_at hv0 rfl
  replace hl : lv_has ls xM35.2.2.1 [(0, .ref this), (1, .int y), (2, .int d)] := hl
  simp only [List.mem_cons, List.not_mem_nil, or_false] at ht0
  rcases ht0 with rfl | rfl | rfl | rfl
  · obtain ⟨vh, hs_h, -⟩ := y_fldI (k := 3) hI.1 hY_this rfl rfl
    have hs0_h := hs_h
    have hY0_this := hY_this
    refine lv_iload_n hx hb sWq_d0 rfl (lv_at hl 2 rfl) ?_
    have ec0 : (0 : Int32).toInt = 0 := by decide
    refine lv_if_eq hx hb sWq_d1 (tgt := 8) (by decide) (fun q1 => ?_) (fun q1 => ?_)
    · have q1_ : d.toInt = (0 : Int32).toInt := by rw [q1]
      refine lv_bipush hx hb sWq_d8 (v := 99) (by decide) ?_
      have ec99 : (99 : Int32).toInt = 99 := by decide
      refine lv_aload_n hx hb sWq_d10 rfl (lv_at hl 0 rfl) ?_
      refine y_getf X (fl53 X.2.2.2.2.1) hI.1 hY_this rfl hs_h sWq_d11 ?_
      refine lv_aload_n hx hb sWq_d14 rfl (lv_at hl 0 rfl) ?_
      refine lv_iload_n hx hb sWq_d15 rfl (lv_at hl 1 rfl) ?_
      refine y_call (z := (0, 15, 2, some 12, xM34)) (av := [.ref this, .int y]) (rest := [.int vh, .int (99 : Int32)]) (y_cokV (n := 1) (ci := 10) X ym_gw rfl rfl rfl (x_cons (x_bw27 9 rfl rfl) (x_cons (x_bw27 10 rfl rfl) (x_cons (x_bw27 11 rfl rfl) (x_cons (x_bw0 10 rfl rfl) x_nilm)))) (x_bw28 4 rfl rfl) (by decide +kernel) ⟨Nat.le_of_ble_eq_true rfl, Nat.le_of_ble_eq_true rfl⟩) hY0 hI rfl sWq_d16 hl.1 (Nat.le_of_ble_eq_true rfl) (Nat.le_of_ble_eq_true rfl) (Nat.le_of_ble_eq_true rfl) (y_cons (y_cref hY_this rfl) (y_cons ⟨_, rfl, x_i32 _⟩ y_nil)) rfl (y_recv rfl hY_this) trivial (y_sub_ef rfl) fun v Yn o Hn L ho hr ha hIn hx_ hE hP => ?_
      have hPg := hP
      replace hs_h := y_Efld hE hY_this rfl (by decide) (by decide) hs_h
      replace hY_this := y_ext hx_ hI.1 hY_this
      obtain ⟨r16, hr16⟩ : ∃ r : Int32, v = some (.int r) := by obtain ⟨r9, e9, -⟩ := y_ansI (lo := -2147483648) (hi := 2147483647) (by decide) ho hr; exact ⟨r9, e9⟩
      subst hr16
      clear ho hr ha hE hP hI hx_
      rename x_I _ _ _ _ _ _ _ _ _ _ => hI
      refine lv_iadd hx hb sWq_d19 ?_
      generalize hg_z19 : vh + r16 = z19
      refine y_call (z := (1, 19, 2, none, (xMm2 Lib.Math.min.name prog_16_method_69_code))) (av := [.int (99 : Int32), .int z19]) (rest := []) (y_cokMin X (by decide +kernel) (x_cons (x_bw28 5 rfl rfl) (x_cons (x_bw28 6 rfl rfl) (x_cons (x_bw0 15 rfl rfl) (x_cons (x_bw28 7 rfl rfl) x_nilm)))) ⟨Nat.le_of_ble_eq_true rfl, Nat.le_of_ble_eq_true rfl⟩) hY0 hI rfl sWq_d20 hl.1 (Nat.le_of_ble_eq_true rfl) (Nat.le_of_ble_eq_true rfl) (Nat.le_of_ble_eq_true rfl) (y_cons ⟨_, rfl, x_i32 _⟩ (y_cons ⟨_, rfl, x_i32 _⟩ y_nil)) rfl (y_norecv rfl) trivial (y_sub_ef rfl) fun v Yn o Hn L ho hr ha hIn hx_ hE hP => ?_
      replace hs_h := y_Efld hE hY_this rfl (by decide) (by decide) hs_h
      replace hY_this := y_ext hx_ hI.1 hY_this
      obtain rfl := hP _ _ rfl
      generalize hg_r20 : (if z19 < (99 : Int32) then z19 else (99 : Int32)) = r20
      clear ho hr ha hE hP hI hx_
      rename x_I _ _ _ _ _ _ _ _ _ _ => hI
      subst hg_z19
      subst hg_r20
      exact y_ireturn B hI rfl rfl rfl List.mem_cons_self ⟨_, rfl, ⟨_, rfl, x_i32 _⟩⟩ (x_cs.mono B.2.2.2.2.2 (y_mon B hI)) (fun t' y0' y1' f' p' h1 h2 => by cases h1; obtain ⟨e1, e2⟩ := h2.at (z := (12, 10)) (by decide) hY0_this; cases z_intI (e2 3 (by decide)) hs0_h; cases hPg _ _ _ _ rfl h2; show _ = some (Value.int (m_wd _ _ _ _)); unfold m_wd; rw [if_pos q1]; rfl) (Nat.le_refl _) (Nat.le_refl _) sWq_d23
    · have q1_ : ¬ d.toInt = (0 : Int32).toInt := fun q => q1 (Int32.toInt_inj.mp q)
      refine lv_iconst hx hb sWq_d4 (v := 0) (by decide) ?_
      refine lv_goto hx hb sWq_d5 (tgt := 23) (by decide) ?_
      exact y_ireturn B hI rfl rfl rfl List.mem_cons_self ⟨_, rfl, ⟨_, rfl, x_i32 _⟩⟩ (x_cs.mono B.2.2.2.2.2 (y_mon B hI)) (fun t' y0' y1' f' p' h1 h2 => by cases h1; obtain ⟨e1, e2⟩ := h2.at (z := (12, 10)) (by decide) hY0_this; cases z_intI (e2 3 (by decide)) hs0_h; show _ = some (Value.int (m_wd _ _ _ _)); unfold m_wd; rw [if_neg q1]) (Nat.le_refl _) (Nat.le_refl _) sWq_d23
  · obtain ⟨vh, hs_h, -⟩ := y_fldI (k := 3) hI.1 hY_this rfl rfl
    have hs0_h := hs_h
    have hY0_this := hY_this
    refine lv_iload_n hx hb sWq_d0 rfl (lv_at hl 2 rfl) ?_
    have ec0 : (0 : Int32).toInt = 0 := by decide
    refine lv_if_eq hx hb sWq_d1 (tgt := 8) (by decide) (fun q1 => ?_) (fun q1 => ?_)
    · have q1_ : d.toInt = (0 : Int32).toInt := by rw [q1]
      refine lv_bipush hx hb sWq_d8 (v := 99) (by decide) ?_
      have ec99 : (99 : Int32).toInt = 99 := by decide
      refine lv_aload_n hx hb sWq_d10 rfl (lv_at hl 0 rfl) ?_
      refine y_getf X (fl54 X.2.2.2.2.1) hI.1 hY_this rfl hs_h sWq_d11 ?_
      refine lv_aload_n hx hb sWq_d14 rfl (lv_at hl 0 rfl) ?_
      refine lv_iload_n hx hb sWq_d15 rfl (lv_at hl 1 rfl) ?_
      refine y_call (z := (0, 15, 2, some 13, xM32)) (av := [.ref this, .int y]) (rest := [.int vh, .int (99 : Int32)]) (y_cokO (n := 1) (ci := 4) (x := ⟨"TwinFires$Wood", "grownBy", "(I)I"⟩) (b0 := prog_12_method_3_code) (m0 := 2) (r0 := some .int) X ym_gp rfl rfl (x_bw28 4 rfl rfl) (x_cons (x_bw27 9 rfl rfl) (x_cons (x_bw27 12 rfl rfl) (x_cons (x_bw27 10 rfl rfl) (x_cons (x_bw28 0 rfl rfl) (x_cons (x_bw28 1 rfl rfl) (x_cons (x_bw0 11 rfl rfl) x_nilm)))))) (x_bw28 2 rfl rfl) (by decide +kernel) ⟨Nat.le_of_ble_eq_true rfl, Nat.le_of_ble_eq_true rfl⟩) hY0 hI rfl sWq_d16 hl.1 (Nat.le_of_ble_eq_true rfl) (Nat.le_of_ble_eq_true rfl) (Nat.le_of_ble_eq_true rfl) (y_cons (y_cref hY_this rfl) (y_cons ⟨_, rfl, x_i32 _⟩ y_nil)) rfl (y_recv rfl hY_this) trivial (y_sub_ef rfl) fun v Yn o Hn L ho hr ha hIn hx_ hE hP => ?_
      have hPg := hP
      replace hs_h := y_Efld hE hY_this rfl (by decide) (by decide) hs_h
      replace hY_this := y_ext hx_ hI.1 hY_this
      obtain ⟨r16, hr16⟩ : ∃ r : Int32, v = some (.int r) := by obtain ⟨r9, e9, -⟩ := y_ansI (lo := -2147483648) (hi := 2147483647) (by decide) ho hr; exact ⟨r9, e9⟩
      subst hr16
      clear ho hr ha hE hP hI hx_
      rename x_I _ _ _ _ _ _ _ _ _ _ => hI
      refine lv_iadd hx hb sWq_d19 ?_
      generalize hg_z19 : vh + r16 = z19
      refine y_call (z := (1, 19, 2, none, (xMm2 Lib.Math.min.name prog_16_method_69_code))) (av := [.int (99 : Int32), .int z19]) (rest := []) (y_cokMin X (by decide +kernel) (x_cons (x_bw28 5 rfl rfl) (x_cons (x_bw28 6 rfl rfl) (x_cons (x_bw0 15 rfl rfl) (x_cons (x_bw28 7 rfl rfl) x_nilm)))) ⟨Nat.le_of_ble_eq_true rfl, Nat.le_of_ble_eq_true rfl⟩) hY0 hI rfl sWq_d20 hl.1 (Nat.le_of_ble_eq_true rfl) (Nat.le_of_ble_eq_true rfl) (Nat.le_of_ble_eq_true rfl) (y_cons ⟨_, rfl, x_i32 _⟩ (y_cons ⟨_, rfl, x_i32 _⟩ y_nil)) rfl (y_norecv rfl) trivial (y_sub_ef rfl) fun v Yn o Hn L ho hr ha hIn hx_ hE hP => ?_
      replace hs_h := y_Efld hE hY_this rfl (by decide) (by decide) hs_h
      replace hY_this := y_ext hx_ hI.1 hY_this
      obtain rfl := hP _ _ rfl
      generalize hg_r20 : (if z19 < (99 : Int32) then z19 else (99 : Int32)) = r20
      clear ho hr ha hE hP hI hx_
      rename x_I _ _ _ _ _ _ _ _ _ _ => hI
      subst hg_z19
      subst hg_r20
      exact y_ireturn B hI rfl rfl rfl List.mem_cons_self ⟨_, rfl, ⟨_, rfl, x_i32 _⟩⟩ (x_cs.mono B.2.2.2.2.2 (y_mon B hI)) (fun t' y0' y1' f' p' h1 h2 => by cases h1; obtain ⟨e1, e2⟩ := h2.at (z := (13, 4)) (by decide) hY0_this; cases z_intI (e2 3 (by decide)) hs0_h; cases hPg _ _ _ _ rfl h2; show _ = some (Value.int (m_wd _ _ _ _)); unfold m_wd; rw [if_pos q1]; rfl) (Nat.le_refl _) (Nat.le_refl _) sWq_d23
    · have q1_ : ¬ d.toInt = (0 : Int32).toInt := fun q => q1 (Int32.toInt_inj.mp q)
      refine lv_iconst hx hb sWq_d4 (v := 0) (by decide) ?_
      refine lv_goto hx hb sWq_d5 (tgt := 23) (by decide) ?_
      exact y_ireturn B hI rfl rfl rfl List.mem_cons_self ⟨_, rfl, ⟨_, rfl, x_i32 _⟩⟩ (x_cs.mono B.2.2.2.2.2 (y_mon B hI)) (fun t' y0' y1' f' p' h1 h2 => by cases h1; obtain ⟨e1, e2⟩ := h2.at (z := (13, 4)) (by decide) hY0_this; cases z_intI (e2 3 (by decide)) hs0_h; show _ = some (Value.int (m_wd _ _ _ _)); unfold m_wd; rw [if_neg q1]) (Nat.le_refl _) (Nat.le_refl _) sWq_d23
  · obtain ⟨vh, hs_h, -⟩ := y_fldI (k := 3) hI.1 hY_this rfl rfl
    have hs0_h := hs_h
    have hY0_this := hY_this
    refine lv_iload_n hx hb sWq_d0 rfl (lv_at hl 2 rfl) ?_
    have ec0 : (0 : Int32).toInt = 0 := by decide
    refine lv_if_eq hx hb sWq_d1 (tgt := 8) (by decide) (fun q1 => ?_) (fun q1 => ?_)
    · have q1_ : d.toInt = (0 : Int32).toInt := by rw [q1]
      refine lv_bipush hx hb sWq_d8 (v := 99) (by decide) ?_
      have ec99 : (99 : Int32).toInt = 99 := by decide
      refine lv_aload_n hx hb sWq_d10 rfl (lv_at hl 0 rfl) ?_
      refine y_getf X (fl55 X.2.2.2.2.1) hI.1 hY_this rfl hs_h sWq_d11 ?_
      refine lv_aload_n hx hb sWq_d14 rfl (lv_at hl 0 rfl) ?_
      refine lv_iload_n hx hb sWq_d15 rfl (lv_at hl 1 rfl) ?_
      refine y_call (z := (0, 15, 2, some 14, xM33)) (av := [.ref this, .int y]) (rest := [.int vh, .int (99 : Int32)]) (y_cokO (n := 1) (ci := 1) (x := ⟨"TwinFires$Wood", "grownBy", "(I)I"⟩) (b0 := prog_12_method_3_code) (m0 := 2) (r0 := some .int) X ym_gh rfl rfl (x_bw28 4 rfl rfl) (x_cons (x_bw27 9 rfl rfl) (x_cons (x_bw27 12 rfl rfl) (x_cons (x_bw27 10 rfl rfl) (x_cons (x_bw27 13 rfl rfl) (x_cons (x_bw27 14 rfl rfl) (x_cons (x_bw0 12 rfl rfl) x_nilm)))))) (x_bw27 15 rfl rfl) (by decide +kernel) ⟨Nat.le_of_ble_eq_true rfl, Nat.le_of_ble_eq_true rfl⟩) hY0 hI rfl sWq_d16 hl.1 (Nat.le_of_ble_eq_true rfl) (Nat.le_of_ble_eq_true rfl) (Nat.le_of_ble_eq_true rfl) (y_cons (y_cref hY_this rfl) (y_cons ⟨_, rfl, x_i32 _⟩ y_nil)) rfl (y_recv rfl hY_this) trivial (y_sub_ef rfl) fun v Yn o Hn L ho hr ha hIn hx_ hE hP => ?_
      have hPg := hP
      replace hs_h := y_Efld hE hY_this rfl (by decide) (by decide) hs_h
      replace hY_this := y_ext hx_ hI.1 hY_this
      obtain ⟨r16, hr16⟩ : ∃ r : Int32, v = some (.int r) := by obtain ⟨r9, e9, -⟩ := y_ansI (lo := -2147483648) (hi := 2147483647) (by decide) ho hr; exact ⟨r9, e9⟩
      subst hr16
      clear ho hr ha hE hP hI hx_
      rename x_I _ _ _ _ _ _ _ _ _ _ => hI
      refine lv_iadd hx hb sWq_d19 ?_
      generalize hg_z19 : vh + r16 = z19
      refine y_call (z := (1, 19, 2, none, (xMm2 Lib.Math.min.name prog_16_method_69_code))) (av := [.int (99 : Int32), .int z19]) (rest := []) (y_cokMin X (by decide +kernel) (x_cons (x_bw28 5 rfl rfl) (x_cons (x_bw28 6 rfl rfl) (x_cons (x_bw0 15 rfl rfl) (x_cons (x_bw28 7 rfl rfl) x_nilm)))) ⟨Nat.le_of_ble_eq_true rfl, Nat.le_of_ble_eq_true rfl⟩) hY0 hI rfl sWq_d20 hl.1 (Nat.le_of_ble_eq_true rfl) (Nat.le_of_ble_eq_true rfl) (Nat.le_of_ble_eq_true rfl) (y_cons ⟨_, rfl, x_i32 _⟩ (y_cons ⟨_, rfl, x_i32 _⟩ y_nil)) rfl (y_norecv rfl) trivial (y_sub_ef rfl) fun v Yn o Hn L ho hr ha hIn hx_ hE hP => ?_
      replace hs_h := y_Efld hE hY_this rfl (by decide) (by decide) hs_h
      replace hY_this := y_ext hx_ hI.1 hY_this
      obtain rfl := hP _ _ rfl
      generalize hg_r20 : (if z19 < (99 : Int32) then z19 else (99 : Int32)) = r20
      clear ho hr ha hE hP hI hx_
      rename x_I _ _ _ _ _ _ _ _ _ _ => hI
      subst hg_z19
      subst hg_r20
      exact y_ireturn B hI rfl rfl rfl List.mem_cons_self ⟨_, rfl, ⟨_, rfl, x_i32 _⟩⟩ (x_cs.mono B.2.2.2.2.2 (y_mon B hI)) (fun t' y0' y1' f' p' h1 h2 => by cases h1; obtain ⟨e1, e2⟩ := h2.at (z := (14, 1)) (by decide) hY0_this; cases z_intI (e2 3 (by decide)) hs0_h; cases hPg _ _ _ _ rfl h2; show _ = some (Value.int (m_wd _ _ _ _)); unfold m_wd; rw [if_pos q1]; rfl) (Nat.le_refl _) (Nat.le_refl _) sWq_d23
    · have q1_ : ¬ d.toInt = (0 : Int32).toInt := fun q => q1 (Int32.toInt_inj.mp q)
      refine lv_iconst hx hb sWq_d4 (v := 0) (by decide) ?_
      refine lv_goto hx hb sWq_d5 (tgt := 23) (by decide) ?_
      exact y_ireturn B hI rfl rfl rfl List.mem_cons_self ⟨_, rfl, ⟨_, rfl, x_i32 _⟩⟩ (x_cs.mono B.2.2.2.2.2 (y_mon B hI)) (fun t' y0' y1' f' p' h1 h2 => by cases h1; obtain ⟨e1, e2⟩ := h2.at (z := (14, 1)) (by decide) hY0_this; cases z_intI (e2 3 (by decide)) hs0_h; show _ = some (Value.int (m_wd _ _ _ _)); unfold m_wd; rw [if_neg q1]) (Nat.le_refl _) (Nat.le_refl _) sWq_d23
  · obtain ⟨vh, hs_h, -⟩ := y_fldI (k := 3) hI.1 hY_this rfl rfl
    have hs0_h := hs_h
    have hY0_this := hY_this
    refine lv_iload_n hx hb sWq_d0 rfl (lv_at hl 2 rfl) ?_
    have ec0 : (0 : Int32).toInt = 0 := by decide
    refine lv_if_eq hx hb sWq_d1 (tgt := 8) (by decide) (fun q1 => ?_) (fun q1 => ?_)
    · have q1_ : d.toInt = (0 : Int32).toInt := by rw [q1]
      refine lv_bipush hx hb sWq_d8 (v := 99) (by decide) ?_
      have ec99 : (99 : Int32).toInt = 99 := by decide
      refine lv_aload_n hx hb sWq_d10 rfl (lv_at hl 0 rfl) ?_
      refine y_getf X (fl56 X.2.2.2.2.1) hI.1 hY_this rfl hs_h sWq_d11 ?_
      refine lv_aload_n hx hb sWq_d14 rfl (lv_at hl 0 rfl) ?_
      refine lv_iload_n hx hb sWq_d15 rfl (lv_at hl 1 rfl) ?_
      refine y_call (z := (0, 15, 2, some 15, xM32)) (av := [.ref this, .int y]) (rest := [.int vh, .int (99 : Int32)]) (y_cokO (n := 1) (ci := 8) (x := ⟨"TwinFires$Wood", "grownBy", "(I)I"⟩) (b0 := prog_12_method_3_code) (m0 := 2) (r0 := some .int) X ym_gp rfl rfl (x_bw28 4 rfl rfl) (x_cons (x_bw27 9 rfl rfl) (x_cons (x_bw27 12 rfl rfl) (x_cons (x_bw27 10 rfl rfl) (x_cons (x_bw28 3 rfl rfl) (x_cons (x_bw28 1 rfl rfl) (x_cons (x_bw0 11 rfl rfl) x_nilm)))))) (x_bw28 2 rfl rfl) (by decide +kernel) ⟨Nat.le_of_ble_eq_true rfl, Nat.le_of_ble_eq_true rfl⟩) hY0 hI rfl sWq_d16 hl.1 (Nat.le_of_ble_eq_true rfl) (Nat.le_of_ble_eq_true rfl) (Nat.le_of_ble_eq_true rfl) (y_cons (y_cref hY_this rfl) (y_cons ⟨_, rfl, x_i32 _⟩ y_nil)) rfl (y_recv rfl hY_this) trivial (y_sub_ef rfl) fun v Yn o Hn L ho hr ha hIn hx_ hE hP => ?_
      have hPg := hP
      replace hs_h := y_Efld hE hY_this rfl (by decide) (by decide) hs_h
      replace hY_this := y_ext hx_ hI.1 hY_this
      obtain ⟨r16, hr16⟩ : ∃ r : Int32, v = some (.int r) := by obtain ⟨r9, e9, -⟩ := y_ansI (lo := -2147483648) (hi := 2147483647) (by decide) ho hr; exact ⟨r9, e9⟩
      subst hr16
      clear ho hr ha hE hP hI hx_
      rename x_I _ _ _ _ _ _ _ _ _ _ => hI
      refine lv_iadd hx hb sWq_d19 ?_
      generalize hg_z19 : vh + r16 = z19
      refine y_call (z := (1, 19, 2, none, (xMm2 Lib.Math.min.name prog_16_method_69_code))) (av := [.int (99 : Int32), .int z19]) (rest := []) (y_cokMin X (by decide +kernel) (x_cons (x_bw28 5 rfl rfl) (x_cons (x_bw28 6 rfl rfl) (x_cons (x_bw0 15 rfl rfl) (x_cons (x_bw28 7 rfl rfl) x_nilm)))) ⟨Nat.le_of_ble_eq_true rfl, Nat.le_of_ble_eq_true rfl⟩) hY0 hI rfl sWq_d20 hl.1 (Nat.le_of_ble_eq_true rfl) (Nat.le_of_ble_eq_true rfl) (Nat.le_of_ble_eq_true rfl) (y_cons ⟨_, rfl, x_i32 _⟩ (y_cons ⟨_, rfl, x_i32 _⟩ y_nil)) rfl (y_norecv rfl) trivial (y_sub_ef rfl) fun v Yn o Hn L ho hr ha hIn hx_ hE hP => ?_
      replace hs_h := y_Efld hE hY_this rfl (by decide) (by decide) hs_h
      replace hY_this := y_ext hx_ hI.1 hY_this
      obtain rfl := hP _ _ rfl
      generalize hg_r20 : (if z19 < (99 : Int32) then z19 else (99 : Int32)) = r20
      clear ho hr ha hE hP hI hx_
      rename x_I _ _ _ _ _ _ _ _ _ _ => hI
      subst hg_z19
      subst hg_r20
      exact y_ireturn B hI rfl rfl rfl List.mem_cons_self ⟨_, rfl, ⟨_, rfl, x_i32 _⟩⟩ (x_cs.mono B.2.2.2.2.2 (y_mon B hI)) (fun t' y0' y1' f' p' h1 h2 => by cases h1; obtain ⟨e1, e2⟩ := h2.at (z := (15, 8)) (by decide) hY0_this; cases z_intI (e2 3 (by decide)) hs0_h; cases hPg _ _ _ _ rfl h2; show _ = some (Value.int (m_wd _ _ _ _)); unfold m_wd; rw [if_pos q1]; rfl) (Nat.le_refl _) (Nat.le_refl _) sWq_d23
    · have q1_ : ¬ d.toInt = (0 : Int32).toInt := fun q => q1 (Int32.toInt_inj.mp q)
      refine lv_iconst hx hb sWq_d4 (v := 0) (by decide) ?_
      refine lv_goto hx hb sWq_d5 (tgt := 23) (by decide) ?_
      exact y_ireturn B hI rfl rfl rfl List.mem_cons_self ⟨_, rfl, ⟨_, rfl, x_i32 _⟩⟩ (x_cs.mono B.2.2.2.2.2 (y_mon B hI)) (fun t' y0' y1' f' p' h1 h2 => by cases h1; obtain ⟨e1, e2⟩ := h2.at (z := (15, 8)) (by decide) hY0_this; cases z_intI (e2 3 (by decide)) hs0_h; show _ = some (Value.int (m_wd _ _ _ _)); unfold m_wd; rw [if_neg q1]) (Nat.le_refl _) (Nat.le_refl _) sWq_d23
theorem sTq_d0 : decode xM36.2.1 0 = .ok (.aload_n 0, 1) := dz_ok (by decide +kernel)
theorem sTq_d1 : decode xM36.2.1 1 = .ok (.iload_n 1, 1) := dz_ok (by decide +kernel)
theorem sTq_d2 : decode xM36.2.1 2 = .ok (.iload_n 2, 1) := dz_ok (by decide +kernel)
theorem sTq_d3 : decode xM36.2.1 3 = .ok (.invokespecial 7, 3) := dz_ok (by decide +kernel)
theorem sTq_d6 : decode xM36.2.1 6 = .ok (.iconst 2, 1) := dz_ok (by decide +kernel)
theorem sTq_d7 : decode xM36.2.1 7 = .ok (.idiv, 1) := dz_ok (by decide +kernel)
theorem sTq_d8 : decode xM36.2.1 8 = .ok (.ireturn, 1) := dz_ok (by decide +kernel)
theorem ym_sT : y_Met vwCl x_G x_Zs x_Tb x_Nb xM36 y_T z_Psn := by
  refine y_main (by decide +kernel) (by decide +kernel) x_Tb_good x_Nb_ok ?_
  intro p l e s m below meth c D U Y0 av ls B hI _ hl
  have X := B.1
  have hx := X.1
  have hb := X.2.1
  have hY0 := B.2.2.2.2.1
  obtain ⟨v0, v1, v2, rfl, hv0, ⟨y, rfl, -⟩, ⟨d, rfl, hd9⟩⟩ := y_three B.2.2.2.2.2
  obtain ⟨this, t0, rfl, ht0, hY_this⟩ := x_ref_at hv0 rfl
  replace hl : lv_has ls xM36.2.2.1 [(0, .ref this), (1, .int y), (2, .int d)] := hl
  replace hd9 : (0 : Int) ≤ d.toInt ∧ d.toInt ≤ 1 := hd9
  obtain rfl := List.mem_singleton.mp ht0
  have hY0_this := hY_this
  refine lv_aload_n hx hb sTq_d0 rfl (lv_at hl 0 rfl) ?_
  refine lv_iload_n hx hb sTq_d1 rfl (lv_at hl 1 rfl) ?_
  refine lv_iload_n hx hb sTq_d2 rfl (lv_at hl 2 rfl) ?_
  refine y_call (z := (2, 7, 3, none, xM35)) (av := [.ref this, .int y, .int d]) (rest := []) (y_cokSUP (n := 2) (x := ⟨"TwinFires$Pine", "stands", "(IZ)I"⟩) X ym_sW rfl rfl (by decide +kernel) (x_cons (x_bw28 12 rfl rfl) (x_cons (x_bw28 13 rfl rfl) (x_cons (x_bw23 7 rfl rfl) (x_cons (x_bw21 15 rfl rfl) (x_cons (x_bw27 7 rfl rfl) (x_cons (x_bw0 10 rfl rfl) x_nilm)))))) (x_bw27 8 rfl rfl) (by decide +kernel) ⟨Nat.le_of_ble_eq_true rfl, Nat.le_of_ble_eq_true rfl⟩) hY0 hI rfl sTq_d3 hl.1 (Nat.le_of_ble_eq_true rfl) (Nat.le_of_ble_eq_true rfl) (Nat.le_of_ble_eq_true rfl) (y_cons (y_cref hY_this rfl) (y_cons ⟨_, rfl, x_i32 _⟩ (y_cons ⟨_, rfl, by show (0 : Int) ≤ _; omega, by show _ ≤ (1 : Int); omega⟩ y_nil))) rfl (y_norecv rfl) trivial (y_sub_ef rfl) fun v Yn o Hn L ho hr ha hIn hx_ hE hP => ?_
  have hPg := hP
  replace hY_this := y_ext hx_ hI.1 hY_this
  obtain ⟨r3, hr3⟩ : ∃ r : Int32, v = some (.int r) := by obtain ⟨r9, e9, -⟩ := y_ansI (lo := -2147483648) (hi := 2147483647) (by decide) ho hr; exact ⟨r9, e9⟩
  subst hr3
  clear ho hr ha hE hP hI hx_
  rename x_I _ _ _ _ _ _ _ _ _ _ => hI
  refine lv_iconst hx hb sTq_d6 (v := 2) (by decide) ?_
  have ec2 : (2 : Int32).toInt = 2 := by decide
  refine lv_idiv hx hb sTq_d7 (by decide) ?_
  generalize hg_z7 : r3 / (2 : Int32) = z7
  subst hg_z7
  exact y_ireturn B hI rfl rfl rfl List.mem_cons_self ⟨_, rfl, ⟨_, rfl, x_i32 _⟩⟩ (x_cs.mono B.2.2.2.2.2 (y_mon B hI)) (fun t' y0' y1' f' p' h1 h2 => by cases h1; obtain ⟨e1, e2⟩ := h2.at (z := (15, 8)) (by decide) hY0_this; cases hPg _ _ _ _ _ rfl h2; show _ = some (Value.int (m_stn _ _ _ _)); unfold m_stn; rw [if_neg (show ¬ (f' p').toInt = 0 by omega), if_neg (show ¬ (f' p').toInt = 5 by omega), if_pos (show (f' p').toInt = 4 by omega)]) (Nat.le_refl _) (Nat.le_refl _) sTq_d8
theorem z_wd_stn {f : Nat → Int32} {p : Nat} {y d : Int32} (h : (f p).toInt = 1 ∨ (f p).toInt = 2 ∨ (f p).toInt = 3) : m_stn f p y d = m_wd f p y d := by
  unfold m_stn
  rw [if_neg (by omega), if_neg (by omega), if_neg (by omega)]
