/-! THE FRACTION of clear, the class -/
def m_clB (f : Nat → Int32) (a b t : Nat) : Bool := m_bt (m_ln f a b) (f (61 + 7 * t)) (f (62 + 7 * t))
def m_clOk (f : Nat → Int32) (a b t : Int32) : Prop := m_isH f a ∧ m_isH f b ∧ m_isT f t ∧ m_clB f a.toInt.toNat b.toInt.toNat t.toInt.toNat = true
def m_clT (f : Nat → Int32) (a b t r : Int32) : Prop := (m_clOk f a b t → r = 1) ∧ (¬ m_clOk f a b t → ¬ r = 1)
def m_clU (f : Nat → Int32) (a b t : Nat) : Int64 := (m_ov (m_ln f a b) (f (61 + 7 * t)) (f (62 + 7 * t)) (m_hgh f t (f 4))).toInt64
def m_clD (f : Nat → Int32) (a b : Nat) : Int64 := (m_ln f a b 7).toInt64
def z_PTclear : yP := fun D av Y H v _ H' => ∀ (this : Nat) (a b t : Int32) (f : Nat → Int32) (K : Nat → Option (Nat → Int32)) (t9 : Nat → Int32) (n9 : Int32), av = [.ref this, .int a, .int b, .int t] → z_RC D Y H this f K t9 n9 → ∃ r : Int32, v = some (.int r) ∧ m_clT f a b t r ∧ z_fx D H H' this r (m_clU f a.toInt.toNat b.toInt.toNat t.toInt.toNat) (m_clD f a.toInt.toNat b.toInt.toNat)
theorem gst_TwinFires_120 {p : Program} {l : Launch} {e : Env} {R : Room} {s : State} {m : MethodId} {args : Array Value} {below : List Frame} {meth : Method} {c : Code} {Q : State → Prop} {D : va_G} {U : State} {cc : ByteArray} {nL : Nat} {Y : xY} {H : Heap} {locs : List Loc} {cells slots pc : Nat} {ls : Array Slot} {rest : List Value} {sn q : Nat} {f : Nat → Int32} (X : x_cx p s m args c D U cc nL vwCl x_Tb x_Nb "TwinFires") (hst : z_st D Y sn H f q) (hH : x_H D x_G x_Zs U Y H) (hd : decode cc pc = .ok (.getfield 120, 3)) (kk : W p l e R s m args below meth c H locs cells slots Q (F0 m (pc + 3) ls (.int (f (q + 1)) :: rest))) : W p l e R s m args below meth c H locs cells slots Q (F0 m pc ls (.ref sn :: rest)) := by
  obtain ⟨z, hz, hY, -, z4⟩ := hst
  simp only [z_Kd, List.mem_cons, List.not_mem_nil, or_false] at hz
  rcases hz with rfl | rfl | rfl | rfl | rfl | rfl
  · exact y_getf X (fl107 X.2.2.2.2.1) hH hY rfl (z4 1 (by decide)) hd kk
  · exact y_getf X (fl108 X.2.2.2.2.1) hH hY rfl (z4 1 (by decide)) hd kk
  · exact y_getf X (fl109 X.2.2.2.2.1) hH hY rfl (z4 1 (by decide)) hd kk
  · exact y_getf X (fl110 X.2.2.2.2.1) hH hY rfl (z4 1 (by decide)) hd kk
  · exact y_getf X (fl111 X.2.2.2.2.1) hH hY rfl (z4 1 (by decide)) hd kk
  · exact y_getf X (fl112 X.2.2.2.2.1) hH hY rfl (z4 1 (by decide)) hd kk
theorem gst_TwinFires_124 {p : Program} {l : Launch} {e : Env} {R : Room} {s : State} {m : MethodId} {args : Array Value} {below : List Frame} {meth : Method} {c : Code} {Q : State → Prop} {D : va_G} {U : State} {cc : ByteArray} {nL : Nat} {Y : xY} {H : Heap} {locs : List Loc} {cells slots pc : Nat} {ls : Array Slot} {rest : List Value} {sn q : Nat} {f : Nat → Int32} (X : x_cx p s m args c D U cc nL vwCl x_Tb x_Nb "TwinFires") (hst : z_st D Y sn H f q) (hH : x_H D x_G x_Zs U Y H) (hd : decode cc pc = .ok (.getfield 124, 3)) (kk : W p l e R s m args below meth c H locs cells slots Q (F0 m (pc + 3) ls (.int (f (q + 2)) :: rest))) : W p l e R s m args below meth c H locs cells slots Q (F0 m pc ls (.ref sn :: rest)) := by
  obtain ⟨z, hz, hY, -, z4⟩ := hst
  simp only [z_Kd, List.mem_cons, List.not_mem_nil, or_false] at hz
  rcases hz with rfl | rfl | rfl | rfl | rfl | rfl
  · exact y_getf X (fl113 X.2.2.2.2.1) hH hY rfl (z4 2 (by decide)) hd kk
  · exact y_getf X (fl114 X.2.2.2.2.1) hH hY rfl (z4 2 (by decide)) hd kk
  · exact y_getf X (fl115 X.2.2.2.2.1) hH hY rfl (z4 2 (by decide)) hd kk
  · exact y_getf X (fl116 X.2.2.2.2.1) hH hY rfl (z4 2 (by decide)) hd kk
  · exact y_getf X (fl117 X.2.2.2.2.1) hH hY rfl (z4 2 (by decide)) hd kk
  · exact y_getf X (fl118 X.2.2.2.2.1) hH hY rfl (z4 2 (by decide)) hd kk
theorem clq_d0 : decode xM55.2.1 0 = .ok (.aload_n 0, 1) := dz_ok (by decide +kernel)
theorem clq_d1 : decode xM55.2.1 1 = .ok (.getfield 12, 3) := dz_ok (by decide +kernel)
theorem clq_d4 : decode xM55.2.1 4 = .ok (.iload_n 1, 1) := dz_ok (by decide +kernel)
theorem clq_d5 : decode xM55.2.1 5 = .ok (.invokevirtual 101, 3) := dz_ok (by decide +kernel)
theorem clq_d8 : decode xM55.2.1 8 = .ok (.ifCond .eq 25, 3) := dz_ok (by decide +kernel)
theorem clq_d11 : decode xM55.2.1 11 = .ok (.aload_n 0, 1) := dz_ok (by decide +kernel)
theorem clq_d12 : decode xM55.2.1 12 = .ok (.getfield 12, 3) := dz_ok (by decide +kernel)
theorem clq_d15 : decode xM55.2.1 15 = .ok (.iload_n 2, 1) := dz_ok (by decide +kernel)
theorem clq_d16 : decode xM55.2.1 16 = .ok (.invokevirtual 101, 3) := dz_ok (by decide +kernel)
theorem clq_d19 : decode xM55.2.1 19 = .ok (.ifCond .eq 14, 3) := dz_ok (by decide +kernel)
theorem clq_d22 : decode xM55.2.1 22 = .ok (.aload_n 0, 1) := dz_ok (by decide +kernel)
theorem clq_d23 : decode xM55.2.1 23 = .ok (.getfield 12, 3) := dz_ok (by decide +kernel)
theorem clq_d26 : decode xM55.2.1 26 = .ok (.iload_n 3, 1) := dz_ok (by decide +kernel)
theorem clq_d27 : decode xM55.2.1 27 = .ok (.invokevirtual 71, 3) := dz_ok (by decide +kernel)
theorem clq_d30 : decode xM55.2.1 30 = .ok (.ifCond .ne 10, 3) := dz_ok (by decide +kernel)
theorem clq_d33 : decode xM55.2.1 33 = .ok (.aload_n 0, 1) := dz_ok (by decide +kernel)
theorem clq_d34 : decode xM55.2.1 34 = .ok (.bipush (-2), 2) := dz_ok (by decide +kernel)
theorem clq_d36 : decode xM55.2.1 36 = .ok (.invokevirtual 59, 3) := dz_ok (by decide +kernel)
theorem clq_d39 : decode xM55.2.1 39 = .ok (.ireturn, 1) := dz_ok (by decide +kernel)
theorem clq_d40 : decode xM55.2.1 40 = .ok (.aload_n 0, 1) := dz_ok (by decide +kernel)
theorem clq_d41 : decode xM55.2.1 41 = .ok (.getfield 33, 3) := dz_ok (by decide +kernel)
theorem clq_d44 : decode xM55.2.1 44 = .ok (.getfield 110, 3) := dz_ok (by decide +kernel)
theorem clq_d47 : decode xM55.2.1 47 = .ok (.astore 4, 2) := dz_ok (by decide +kernel)
theorem clq_d49 : decode xM55.2.1 49 = .ok (.aload 4, 2) := dz_ok (by decide +kernel)
theorem clq_d51 : decode xM55.2.1 51 = .ok (.aload_n 0, 1) := dz_ok (by decide +kernel)
theorem clq_d52 : decode xM55.2.1 52 = .ok (.getfield 12, 3) := dz_ok (by decide +kernel)
theorem clq_d55 : decode xM55.2.1 55 = .ok (.iload_n 1, 1) := dz_ok (by decide +kernel)
theorem clq_d56 : decode xM55.2.1 56 = .ok (.iload_n 2, 1) := dz_ok (by decide +kernel)
theorem clq_d57 : decode xM55.2.1 57 = .ok (.invokevirtual 114, 3) := dz_ok (by decide +kernel)
theorem clq_d60 : decode xM55.2.1 60 = .ok (.aload_n 0, 1) := dz_ok (by decide +kernel)
theorem clq_d61 : decode xM55.2.1 61 = .ok (.getfield 12, 3) := dz_ok (by decide +kernel)
theorem clq_d64 : decode xM55.2.1 64 = .ok (.getfield 75, 3) := dz_ok (by decide +kernel)
theorem clq_d67 : decode xM55.2.1 67 = .ok (.iload_n 3, 1) := dz_ok (by decide +kernel)
theorem clq_d68 : decode xM55.2.1 68 = .ok (.aaload, 1) := dz_ok (by decide +kernel)
theorem clq_d69 : decode xM55.2.1 69 = .ok (.astore 5, 2) := dz_ok (by decide +kernel)
theorem clq_d71 : decode xM55.2.1 71 = .ok (.aload 4, 2) := dz_ok (by decide +kernel)
theorem clq_d73 : decode xM55.2.1 73 = .ok (.aload 5, 2) := dz_ok (by decide +kernel)
theorem clq_d75 : decode xM55.2.1 75 = .ok (.getfield 120, 3) := dz_ok (by decide +kernel)
theorem clq_d78 : decode xM55.2.1 78 = .ok (.aload 5, 2) := dz_ok (by decide +kernel)
theorem clq_d80 : decode xM55.2.1 80 = .ok (.getfield 124, 3) := dz_ok (by decide +kernel)
theorem clq_d83 : decode xM55.2.1 83 = .ok (.invokevirtual 127, 3) := dz_ok (by decide +kernel)
theorem clq_d86 : decode xM55.2.1 86 = .ok (.ifCond .ne 10, 3) := dz_ok (by decide +kernel)
theorem clq_d89 : decode xM55.2.1 89 = .ok (.aload_n 0, 1) := dz_ok (by decide +kernel)
theorem clq_d90 : decode xM55.2.1 90 = .ok (.bipush (-3), 2) := dz_ok (by decide +kernel)
theorem clq_d92 : decode xM55.2.1 92 = .ok (.invokevirtual 59, 3) := dz_ok (by decide +kernel)
theorem clq_d95 : decode xM55.2.1 95 = .ok (.ireturn, 1) := dz_ok (by decide +kernel)
theorem clq_d96 : decode xM55.2.1 96 = .ok (.aload_n 0, 1) := dz_ok (by decide +kernel)
theorem clq_d97 : decode xM55.2.1 97 = .ok (.aload 4, 2) := dz_ok (by decide +kernel)
theorem clq_d99 : decode xM55.2.1 99 = .ok (.aload 5, 2) := dz_ok (by decide +kernel)
theorem clq_d101 : decode xM55.2.1 101 = .ok (.getfield 120, 3) := dz_ok (by decide +kernel)
theorem clq_d104 : decode xM55.2.1 104 = .ok (.aload 5, 2) := dz_ok (by decide +kernel)
theorem clq_d106 : decode xM55.2.1 106 = .ok (.getfield 124, 3) := dz_ok (by decide +kernel)
theorem clq_d109 : decode xM55.2.1 109 = .ok (.aload_n 0, 1) := dz_ok (by decide +kernel)
theorem clq_d110 : decode xM55.2.1 110 = .ok (.getfield 12, 3) := dz_ok (by decide +kernel)
theorem clq_d113 : decode xM55.2.1 113 = .ok (.iload_n 3, 1) := dz_ok (by decide +kernel)
theorem clq_d114 : decode xM55.2.1 114 = .ok (.aload_n 0, 1) := dz_ok (by decide +kernel)
theorem clq_d115 : decode xM55.2.1 115 = .ok (.getfield 12, 3) := dz_ok (by decide +kernel)
theorem clq_d118 : decode xM55.2.1 118 = .ok (.getfield 95, 3) := dz_ok (by decide +kernel)
theorem clq_d121 : decode xM55.2.1 121 = .ok (.iconst 0, 1) := dz_ok (by decide +kernel)
theorem clq_d122 : decode xM55.2.1 122 = .ok (.iaload, 1) := dz_ok (by decide +kernel)
theorem clq_d123 : decode xM55.2.1 123 = .ok (.invokevirtual 98, 3) := dz_ok (by decide +kernel)
theorem clq_d126 : decode xM55.2.1 126 = .ok (.invokevirtual 131, 3) := dz_ok (by decide +kernel)
theorem clq_d129 : decode xM55.2.1 129 = .ok (.i2l, 1) := dz_ok (by decide +kernel)
theorem clq_d130 : decode xM55.2.1 130 = .ok (.aload 4, 2) := dz_ok (by decide +kernel)
theorem clq_d132 : decode xM55.2.1 132 = .ok (.getfield 134, 3) := dz_ok (by decide +kernel)
theorem clq_d135 : decode xM55.2.1 135 = .ok (.i2l, 1) := dz_ok (by decide +kernel)
theorem clq_d136 : decode xM55.2.1 136 = .ok (.invokevirtual 137, 3) := dz_ok (by decide +kernel)
theorem clq_d139 : decode xM55.2.1 139 = .ok (.iconst 1, 1) := dz_ok (by decide +kernel)
theorem clq_d140 : decode xM55.2.1 140 = .ok (.ireturn, 1) := dz_ok (by decide +kernel)
theorem ym_Tclear9 : y_Met vwCl x_G x_Zs x_Tb x_Nb xM55 z_ATF z_PTclear := by
  refine y_main (by decide +kernel) (by decide +kernel) x_Tb_good x_Nb_ok ?_
  intro p l e s m below meth c D U Y0 av ls B hI hpre hl
  have X := B.1
  have hx := X.1
  have hb := X.2.1
  have hY0 := B.2.2.2.2.1
  obtain ⟨v0, v1, v2, v3, rfl, hv0, ⟨a, rfl, -⟩, ⟨b, rfl, -⟩, ⟨t, rfl, -⟩⟩ := y_four B.2.2.2.2.2
  obtain ⟨this, t0, rfl, ht0, hY_this⟩ := x_ref_at hv0 rfl
  obtain rfl := List.mem_singleton.mp ht0
  replace hl : lv_has ls xM55.2.2.1 [(0, .ref this), (1, .int a), (2, .int b), (3, .int t)] := hl
  obtain ⟨f, K, tt, nn, hR0⟩ := hpre _ rfl
  obtain ⟨hd, dr, kp, tx, by_, kk, ⟨hs_hd, -⟩, ⟨hY_hd, -⟩, hL, -⟩ := id hR0
  obtain ⟨ey, hs_ey, hY_ey⟩ := y_fldR (k := 4) hI.1 hY_this rfl rfl
  obtain ⟨vw, hs_vw, hY_vw⟩ := y_fldR (k := 1) hI.1 hY_ey rfl rfl
  have hn0 := hL.1.1
  have hn1 := hL.1.2.1
  have hn2 := hL.1.2.2
  have hb0 : 0 ≤ (f 0).toInt ∧ (f 0).toInt ≤ 10 := by obtain ⟨x9, e9, b9⟩ := y_fldI (k := 0) hI.1 hY_hd rfl rfl; rw [hn0] at e9; cases e9; exact b9
  have hb1 : 0 ≤ (f 1).toInt ∧ (f 1).toInt ≤ 8 := by obtain ⟨x9, e9, b9⟩ := y_fldI (k := 6) hI.1 hY_hd rfl rfl; rw [hn1] at e9; cases e9; exact b9
  have hb2 : 0 ≤ (f 2).toInt ∧ (f 2).toInt ≤ 8 := by obtain ⟨x9, e9, b9⟩ := y_fldI (k := 12) hI.1 hY_hd rfl rfl; rw [hn2] at e9; cases e9; exact b9
  obtain ⟨fa, hs_fa⟩ := y_fldL (k := 7) hI.1 hY_this rfl rfl
  obtain ⟨fb, hs_fb⟩ := y_fldL (k := 8) hI.1 hY_this rfl rfl
  have hfa0 := hs_fa
  have hfb0 := hs_fb
  obtain ⟨ln, hs_ln, hY_ln⟩ := y_fldR (k := 0) hI.1 hY_ey rfl rfl
  obtain ⟨lq, hLn⟩ := z_LnE hI.1 hY_ln
  obtain ⟨astones, hs_astones, hY_astones, -⟩ := hL.2.2.1
  obtain ⟨adial, hs_adial, hY_adial, hA_adial⟩ := hL.2.1 (10, 27, 4, 4, 1) (by decide)
  replace hA_adial : y_A adial 4 s.heap (fun j => f (4 + 1 * j)) := hA_adial
  refine lv_aload_n hx hb clq_d0 rfl (lv_at hl 0 rfl) ?_
  refine y_getf X (fl8 X.2.2.2.2.1) hI.1 hY_this rfl hs_hd clq_d1 ?_
  refine lv_iload_n hx hb clq_d4 rfl (lv_at hl 1 rfl) ?_
  refine y_call (z := (0, 101, 2, some 2, xM40)) (av := [.ref hd, .int a]) (rest := []) (y_cokV (n := 1) (ci := 2) X ym_hasHill rfl rfl rfl (x_cons (x_bw29 8 rfl rfl) (x_cons (x_bw29 9 rfl rfl) (x_cons (x_bw29 10 rfl rfl) (x_cons (x_bw0 2 rfl rfl) x_nilm)))) (x_bw29 11 rfl rfl) (by decide +kernel) ⟨Nat.le_of_ble_eq_true rfl, Nat.le_of_ble_eq_true rfl⟩) hY0 hI rfl clq_d5 hl.1 (Nat.le_of_ble_eq_true rfl) (Nat.le_of_ble_eq_true rfl) (Nat.le_of_ble_eq_true rfl) (y_cons (y_cref hY_hd rfl) (y_cons ⟨_, rfl, x_i32 _⟩ y_nil)) rfl (y_recv rfl hY_hd) trivial (y_sub_ef rfl) fun v Yn o Hn L ho hr ha hIn hx_ hE hP => ?_
  have hPh := hP _ _ _ rfl hn0
  replace hs_hd := y_Efld hE hY_this rfl (by decide) (by decide) hs_hd
  replace hs_ey := y_Efld hE hY_this rfl (by decide) (by decide) hs_ey
  replace hn0 := y_Efld hE hY_hd rfl (by decide) (by decide) hn0
  replace hn1 := y_Efld hE hY_hd rfl (by decide) (by decide) hn1
  replace hs_ln := y_Efld hE hY_ey rfl (by decide) (by decide) hs_ln
  replace hs_astones := y_Efld hE hY_hd rfl (by decide) (by decide) hs_astones
  replace hs_adial := y_Efld hE hY_hd rfl (by decide) (by decide) hs_adial
  replace hs_fa := y_Efld hE hY_this rfl (by decide) (by decide) hs_fa
  replace hs_fb := y_Efld hE hY_this rfl (by decide) (by decide) hs_fb
  replace hA_adial := hA_adial.kept (y_Earr hE hY_adial rfl (by decide))
  replace hL := hL.E hY_hd hE (fun q u h => y_ext hx_ hI.1 h) (by decide +kernel)
  replace hLn := hLn.E hY_ln hE (by decide)
  replace hY_this := y_ext hx_ hI.1 hY_this
  replace hY_hd := y_ext hx_ hI.1 hY_hd
  replace hY_ey := y_ext hx_ hI.1 hY_ey
  replace hY_ln := y_ext hx_ hI.1 hY_ln
  replace hY_astones := y_ext hx_ hI.1 hY_astones
  replace hY_adial := y_ext hx_ hI.1 hY_adial
  obtain ⟨r5, rfl, hin_r5, hout_r5⟩ := hPh
  clear ho hr ha hE hP hI hx_
  rename x_I _ _ _ _ _ _ _ _ _ _ => hI
  have ec0 : (0 : Int32).toInt = 0 := by decide
  refine lv_if_eq hx hb clq_d8 (tgt := 33) (by decide) (fun q8 => ?_) (fun q8 => ?_)
  · have q8_ : r5.toInt = (0 : Int32).toInt := by rw [q8]
    have hno : ¬ m_clOk f a b t := fun q9 => by first | exact hout_r5 (by assumption) q9.1 | exact hout_r16 (by assumption) q9.2.1 | exact hout_r27 (by assumption) q9.2.2.1
    refine lv_aload_n hx hb clq_d33 rfl (lv_at hl 0 rfl) ?_
    refine lv_bipush hx hb clq_d34 (v := (-2)) (by decide) ?_
    have ecm2 : ((-2) : Int32).toInt = (-2) := by decide
    refine y_call (z := (0, 59, 2, some 0, xM8)) (av := [.ref this, .int ((-2) : Int32)]) (rest := []) (y_cokV (n := 1) (ci := 11) X ym_counted rfl rfl rfl (x_cons (x_bw19 7 rfl rfl) (x_cons (x_bw19 9 rfl rfl) (x_cons (x_at 1 (by decide +kernel) rfl) (x_cons (x_bw0 1 rfl rfl) x_nilm)))) (x_bw19 10 rfl rfl) (by decide +kernel) ⟨Nat.le_of_ble_eq_true rfl, Nat.le_of_ble_eq_true rfl⟩) hY0 hI rfl clq_d36 hl.1 (Nat.le_of_ble_eq_true rfl) (Nat.le_of_ble_eq_true rfl) (Nat.le_of_ble_eq_true rfl) (y_cons (y_cref hY_this rfl) (y_cons ⟨_, rfl, x_i32 _⟩ y_nil)) rfl (y_recv rfl hY_this) trivial (y_sub_ef rfl) fun v Yn o Hn L ho hr ha hIn hx_ hE hP => ?_
    replace hs_hd := y_Efld hE hY_this rfl (by decide) (by decide) hs_hd
    replace hs_ey := y_Efld hE hY_this rfl (by decide) (by decide) hs_ey
    replace hn0 := y_Efld hE hY_hd rfl (by decide) (by decide) hn0
    replace hn1 := y_Efld hE hY_hd rfl (by decide) (by decide) hn1
    replace hs_ln := y_Efld hE hY_ey rfl (by decide) (by decide) hs_ln
    replace hs_astones := y_Efld hE hY_hd rfl (by decide) (by decide) hs_astones
    replace hs_adial := y_Efld hE hY_hd rfl (by decide) (by decide) hs_adial
    replace hs_fa := y_Efld hE hY_this rfl (by decide) (by decide) hs_fa
    replace hs_fb := y_Efld hE hY_this rfl (by decide) (by decide) hs_fb
    replace hA_adial := hA_adial.kept (y_Earr hE hY_adial rfl (by decide))
    replace hL := hL.E hY_hd hE (fun q u h => y_ext hx_ hI.1 h) (by decide +kernel)
    replace hLn := hLn.E hY_ln hE (by decide)
    replace hY_this := y_ext hx_ hI.1 hY_this
    replace hY_hd := y_ext hx_ hI.1 hY_hd
    replace hY_ey := y_ext hx_ hI.1 hY_ey
    replace hY_ln := y_ext hx_ hI.1 hY_ln
    replace hY_astones := y_ext hx_ hI.1 hY_astones
    replace hY_adial := y_ext hx_ hI.1 hY_adial
    obtain rfl := hP _ _ rfl
    clear ho hr ha hE hP hI hx_
    rename x_I _ _ _ _ _ _ _ _ _ _ => hI
    exact y_ireturn B hI rfl rfl rfl List.mem_cons_self ⟨_, rfl, ⟨_, rfl, x_i32 _⟩⟩ (x_cs.mono B.2.2.2.2.2 (y_mon B hI)) (fun t' w0' w1' w2' f' K' tt' nn' h1 h2 => by cases h1; obtain ⟨ef, -⟩ := hR0.eqs h2; subst ef; exact ⟨_, rfl, ⟨fun q9 => absurd q9 hno, fun _ => by decide⟩, ⟨fun _ a9 b9 h9 => by cases hfa0.symm.trans h9.1; cases hfb0.symm.trans h9.2; exact ⟨hs_fa, hs_fb⟩, fun q9 => absurd q9 (by decide)⟩⟩) (Nat.le_refl _) (Nat.le_refl _) clq_d39
  · have q8_ : ¬ r5.toInt = (0 : Int32).toInt := fun q => q8 (Int32.toInt_inj.mp q)
    refine lv_aload_n hx hb clq_d11 rfl (lv_at hl 0 rfl) ?_
    refine y_getf X (fl8 X.2.2.2.2.1) hI.1 hY_this rfl hs_hd clq_d12 ?_
    refine lv_iload_n hx hb clq_d15 rfl (lv_at hl 2 rfl) ?_
    refine y_call (z := (0, 101, 2, some 2, xM40)) (av := [.ref hd, .int b]) (rest := []) (y_cokV (n := 1) (ci := 2) X ym_hasHill rfl rfl rfl (x_cons (x_bw29 8 rfl rfl) (x_cons (x_bw29 9 rfl rfl) (x_cons (x_bw29 10 rfl rfl) (x_cons (x_bw0 2 rfl rfl) x_nilm)))) (x_bw29 11 rfl rfl) (by decide +kernel) ⟨Nat.le_of_ble_eq_true rfl, Nat.le_of_ble_eq_true rfl⟩) hY0 hI rfl clq_d16 hl.1 (Nat.le_of_ble_eq_true rfl) (Nat.le_of_ble_eq_true rfl) (Nat.le_of_ble_eq_true rfl) (y_cons (y_cref hY_hd rfl) (y_cons ⟨_, rfl, x_i32 _⟩ y_nil)) rfl (y_recv rfl hY_hd) trivial (y_sub_ef rfl) fun v Yn o Hn L ho hr ha hIn hx_ hE hP => ?_
    have hPh := hP _ _ _ rfl hn0
    replace hs_hd := y_Efld hE hY_this rfl (by decide) (by decide) hs_hd
    replace hs_ey := y_Efld hE hY_this rfl (by decide) (by decide) hs_ey
    replace hn0 := y_Efld hE hY_hd rfl (by decide) (by decide) hn0
    replace hn1 := y_Efld hE hY_hd rfl (by decide) (by decide) hn1
    replace hs_ln := y_Efld hE hY_ey rfl (by decide) (by decide) hs_ln
    replace hs_astones := y_Efld hE hY_hd rfl (by decide) (by decide) hs_astones
    replace hs_adial := y_Efld hE hY_hd rfl (by decide) (by decide) hs_adial
    replace hs_fa := y_Efld hE hY_this rfl (by decide) (by decide) hs_fa
    replace hs_fb := y_Efld hE hY_this rfl (by decide) (by decide) hs_fb
    replace hA_adial := hA_adial.kept (y_Earr hE hY_adial rfl (by decide))
    replace hL := hL.E hY_hd hE (fun q u h => y_ext hx_ hI.1 h) (by decide +kernel)
    replace hLn := hLn.E hY_ln hE (by decide)
    replace hY_this := y_ext hx_ hI.1 hY_this
    replace hY_hd := y_ext hx_ hI.1 hY_hd
    replace hY_ey := y_ext hx_ hI.1 hY_ey
    replace hY_ln := y_ext hx_ hI.1 hY_ln
    replace hY_astones := y_ext hx_ hI.1 hY_astones
    replace hY_adial := y_ext hx_ hI.1 hY_adial
    obtain ⟨r16, rfl, hin_r16, hout_r16⟩ := hPh
    clear ho hr ha hE hP hI hx_
    rename x_I _ _ _ _ _ _ _ _ _ _ => hI
    refine lv_if_eq hx hb clq_d19 (tgt := 33) (by decide) (fun q19 => ?_) (fun q19 => ?_)
    · have q19_ : r16.toInt = (0 : Int32).toInt := by rw [q19]
      have hno : ¬ m_clOk f a b t := fun q9 => by first | exact hout_r5 (by assumption) q9.1 | exact hout_r16 (by assumption) q9.2.1 | exact hout_r27 (by assumption) q9.2.2.1
      refine lv_aload_n hx hb clq_d33 rfl (lv_at hl 0 rfl) ?_
      refine lv_bipush hx hb clq_d34 (v := (-2)) (by decide) ?_
      have ecm2 : ((-2) : Int32).toInt = (-2) := by decide
      refine y_call (z := (0, 59, 2, some 0, xM8)) (av := [.ref this, .int ((-2) : Int32)]) (rest := []) (y_cokV (n := 1) (ci := 11) X ym_counted rfl rfl rfl (x_cons (x_bw19 7 rfl rfl) (x_cons (x_bw19 9 rfl rfl) (x_cons (x_at 1 (by decide +kernel) rfl) (x_cons (x_bw0 1 rfl rfl) x_nilm)))) (x_bw19 10 rfl rfl) (by decide +kernel) ⟨Nat.le_of_ble_eq_true rfl, Nat.le_of_ble_eq_true rfl⟩) hY0 hI rfl clq_d36 hl.1 (Nat.le_of_ble_eq_true rfl) (Nat.le_of_ble_eq_true rfl) (Nat.le_of_ble_eq_true rfl) (y_cons (y_cref hY_this rfl) (y_cons ⟨_, rfl, x_i32 _⟩ y_nil)) rfl (y_recv rfl hY_this) trivial (y_sub_ef rfl) fun v Yn o Hn L ho hr ha hIn hx_ hE hP => ?_
      replace hs_hd := y_Efld hE hY_this rfl (by decide) (by decide) hs_hd
      replace hs_ey := y_Efld hE hY_this rfl (by decide) (by decide) hs_ey
      replace hn0 := y_Efld hE hY_hd rfl (by decide) (by decide) hn0
      replace hn1 := y_Efld hE hY_hd rfl (by decide) (by decide) hn1
      replace hs_ln := y_Efld hE hY_ey rfl (by decide) (by decide) hs_ln
      replace hs_astones := y_Efld hE hY_hd rfl (by decide) (by decide) hs_astones
      replace hs_adial := y_Efld hE hY_hd rfl (by decide) (by decide) hs_adial
      replace hs_fa := y_Efld hE hY_this rfl (by decide) (by decide) hs_fa
      replace hs_fb := y_Efld hE hY_this rfl (by decide) (by decide) hs_fb
      replace hA_adial := hA_adial.kept (y_Earr hE hY_adial rfl (by decide))
      replace hL := hL.E hY_hd hE (fun q u h => y_ext hx_ hI.1 h) (by decide +kernel)
      replace hLn := hLn.E hY_ln hE (by decide)
      replace hY_this := y_ext hx_ hI.1 hY_this
      replace hY_hd := y_ext hx_ hI.1 hY_hd
      replace hY_ey := y_ext hx_ hI.1 hY_ey
      replace hY_ln := y_ext hx_ hI.1 hY_ln
      replace hY_astones := y_ext hx_ hI.1 hY_astones
      replace hY_adial := y_ext hx_ hI.1 hY_adial
      obtain rfl := hP _ _ rfl
      clear ho hr ha hE hP hI hx_
      rename x_I _ _ _ _ _ _ _ _ _ _ => hI
      exact y_ireturn B hI rfl rfl rfl List.mem_cons_self ⟨_, rfl, ⟨_, rfl, x_i32 _⟩⟩ (x_cs.mono B.2.2.2.2.2 (y_mon B hI)) (fun t' w0' w1' w2' f' K' tt' nn' h1 h2 => by cases h1; obtain ⟨ef, -⟩ := hR0.eqs h2; subst ef; exact ⟨_, rfl, ⟨fun q9 => absurd q9 hno, fun _ => by decide⟩, ⟨fun _ a9 b9 h9 => by cases hfa0.symm.trans h9.1; cases hfb0.symm.trans h9.2; exact ⟨hs_fa, hs_fb⟩, fun q9 => absurd q9 (by decide)⟩⟩) (Nat.le_refl _) (Nat.le_refl _) clq_d39
    · have q19_ : ¬ r16.toInt = (0 : Int32).toInt := fun q => q19 (Int32.toInt_inj.mp q)
      refine lv_aload_n hx hb clq_d22 rfl (lv_at hl 0 rfl) ?_
      refine y_getf X (fl8 X.2.2.2.2.1) hI.1 hY_this rfl hs_hd clq_d23 ?_
      refine lv_iload_n hx hb clq_d26 rfl (lv_at hl 3 rfl) ?_
      refine y_call (z := (0, 71, 2, some 2, xM25)) (av := [.ref hd, .int t]) (rest := []) (y_cokV (n := 1) (ci := 2) X ym_hasThing rfl rfl rfl (x_cons (x_bw25 4 rfl rfl) (x_cons (x_bw25 5 rfl rfl) (x_cons (x_bw25 6 rfl rfl) (x_cons (x_bw0 2 rfl rfl) x_nilm)))) (x_bw25 7 rfl rfl) (by decide +kernel) ⟨Nat.le_of_ble_eq_true rfl, Nat.le_of_ble_eq_true rfl⟩) hY0 hI rfl clq_d27 hl.1 (Nat.le_of_ble_eq_true rfl) (Nat.le_of_ble_eq_true rfl) (Nat.le_of_ble_eq_true rfl) (y_cons (y_cref hY_hd rfl) (y_cons ⟨_, rfl, x_i32 _⟩ y_nil)) rfl (y_recv rfl hY_hd) trivial (y_sub_ef rfl) fun v Yn o Hn L ho hr ha hIn hx_ hE hP => ?_
      have hPh := hP _ _ _ rfl hn1
      replace hs_hd := y_Efld hE hY_this rfl (by decide) (by decide) hs_hd
      replace hs_ey := y_Efld hE hY_this rfl (by decide) (by decide) hs_ey
      replace hn0 := y_Efld hE hY_hd rfl (by decide) (by decide) hn0
      replace hn1 := y_Efld hE hY_hd rfl (by decide) (by decide) hn1
      replace hs_ln := y_Efld hE hY_ey rfl (by decide) (by decide) hs_ln
      replace hs_astones := y_Efld hE hY_hd rfl (by decide) (by decide) hs_astones
      replace hs_adial := y_Efld hE hY_hd rfl (by decide) (by decide) hs_adial
      replace hs_fa := y_Efld hE hY_this rfl (by decide) (by decide) hs_fa
      replace hs_fb := y_Efld hE hY_this rfl (by decide) (by decide) hs_fb
      replace hA_adial := hA_adial.kept (y_Earr hE hY_adial rfl (by decide))
      replace hL := hL.E hY_hd hE (fun q u h => y_ext hx_ hI.1 h) (by decide +kernel)
      replace hLn := hLn.E hY_ln hE (by decide)
      replace hY_this := y_ext hx_ hI.1 hY_this
      replace hY_hd := y_ext hx_ hI.1 hY_hd
      replace hY_ey := y_ext hx_ hI.1 hY_ey
      replace hY_ln := y_ext hx_ hI.1 hY_ln
      replace hY_astones := y_ext hx_ hI.1 hY_astones
      replace hY_adial := y_ext hx_ hI.1 hY_adial
      obtain ⟨r27, rfl, hin_r27, hout_r27⟩ := hPh
      clear ho hr ha hE hP hI hx_
      rename x_I _ _ _ _ _ _ _ _ _ _ => hI
      refine lv_if_ne hx hb clq_d30 (tgt := 40) (by decide) (fun q30 => ?_) (fun q30 => ?_)
      · have q30_ : ¬ r27.toInt = (0 : Int32).toInt := fun q => q30 (Int32.toInt_inj.mp q)
        have ha9 := hin_r5 (by assumption)
        have hb9 := hin_r16 (by assumption)
        have ht9 := hin_r27 (by assumption)
        have hh9 := And.intro ha9 (And.intro hb9 ht9)
        unfold m_isH at ha9 hb9
        unfold m_isT at ht9
        refine lv_aload_n hx hb clq_d40 rfl (lv_at hl 0 rfl) ?_
        refine y_getf X (fl102 X.2.2.2.2.1) hI.1 hY_this rfl hs_ey clq_d41 ?_
        refine y_getf X (fl106 X.2.2.2.2.1) hI.1 hY_ey rfl hs_ln clq_d44 ?_
        refine lv_astore hx hb clq_d47 hl (by decide) (lv' := [(4, .ref ln), (0, .ref this), (1, .int a), (2, .int b), (3, .int t)]) rfl fun ls hl => ?_
        refine lv_aload hx hb clq_d49 (lv_at hl 0 rfl) ?_
        refine lv_aload_n hx hb clq_d51 rfl (lv_at hl 1 rfl) ?_
        refine y_getf X (fl8 X.2.2.2.2.1) hI.1 hY_this rfl hs_hd clq_d52 ?_
        refine lv_iload_n hx hb clq_d55 rfl (lv_at hl 2 rfl) ?_
        refine lv_iload_n hx hb clq_d56 rfl (lv_at hl 3 rfl) ?_
        refine y_call (z := (0, 114, 4, some 10, xM41)) (av := [.ref ln, .ref hd, .int a, .int b]) (rest := []) (y_cokV (n := 3) (ci := 3) X ym_draw rfl rfl rfl (x_cons (x_bw33 4 rfl rfl) (x_cons (x_bw30 5 rfl rfl) (x_cons (x_bw30 6 rfl rfl) (x_cons (x_bw0 7 rfl rfl) x_nilm)))) (x_bw30 7 rfl rfl) (by decide +kernel) ⟨Nat.le_of_ble_eq_true rfl, Nat.le_of_ble_eq_true rfl⟩) hY0 hI rfl clq_d57 hl.1 (Nat.le_of_ble_eq_true rfl) (Nat.le_of_ble_eq_true rfl) (Nat.le_of_ble_eq_true rfl) (y_cons (y_cref hY_ln rfl) (y_cons (y_cref hY_hd rfl) (y_cons ⟨_, rfl, by show (0 : Int) ≤ _; omega, by show _ ≤ (9 : Int); omega⟩ (y_cons ⟨_, rfl, by show (0 : Int) ≤ _; omega, by show _ ≤ (9 : Int); omega⟩ y_nil)))) rfl (y_recv rfl hY_ln) (fun t' h1 => by cases h1; exact ⟨_, hL⟩) (y_sub_ef rfl) fun v Yn o Hn L ho hr ha hIn hx_ hE hP => ?_
        have hLn := hP _ _ _ _ _ rfl hL
        replace hs_hd := y_Efld hE hY_this rfl (by decide) (by decide) hs_hd
        replace hs_ey := y_Efld hE hY_this rfl (by decide) (by decide) hs_ey
        replace hn0 := y_Efld hE hY_hd rfl (by decide) (by decide) hn0
        replace hn1 := y_Efld hE hY_hd rfl (by decide) (by decide) hn1
        replace hs_ln := y_Efld hE hY_ey rfl (by decide) (by decide) hs_ln
        replace hs_astones := y_Efld hE hY_hd rfl (by decide) (by decide) hs_astones
        replace hs_adial := y_Efld hE hY_hd rfl (by decide) (by decide) hs_adial
        replace hs_fa := y_Efld hE hY_this rfl (by decide) (by decide) hs_fa
        replace hs_fb := y_Efld hE hY_this rfl (by decide) (by decide) hs_fb
        replace hA_adial := hA_adial.kept (y_Earr hE hY_adial rfl (by decide))
        replace hL := hL.E hY_hd hE (fun q u h => y_ext hx_ hI.1 h) (by decide +kernel)
        replace hY_this := y_ext hx_ hI.1 hY_this
        replace hY_hd := y_ext hx_ hI.1 hY_hd
        replace hY_ey := y_ext hx_ hI.1 hY_ey
        replace hY_ln := y_ext hx_ hI.1 hY_ln
        replace hY_astones := y_ext hx_ hI.1 hY_astones
        replace hY_adial := y_ext hx_ hI.1 hY_adial
        obtain rfl := y_ansV rfl ho hr
        clear ho hr ha hE hP hI hx_
        rename x_I _ _ _ _ _ _ _ _ _ _ => hI
        refine lv_aload_n hx hb clq_d60 rfl (lv_at hl 1 rfl) ?_
        refine y_getf X (fl8 X.2.2.2.2.1) hI.1 hY_this rfl hs_hd clq_d61 ?_
        refine y_getf X (fl45 X.2.2.2.2.1) hI.1 hY_hd rfl hs_astones clq_d64 ?_
        refine lv_iload_n hx hb clq_d67 rfl (lv_at hl 4 rfl) ?_
        obtain ⟨as9, e1, -, h3⟩ := hL.2.2.1
        cases e1.symm.trans hs_astones
        obtain ⟨sn, hat9, hst9⟩ := h3 t.toInt.toNat (by omega)
        refine y_aald X hI.1 hY_astones rfl (by omega) (by show _ < (8 : Int); omega) hat9 clq_d68 ?_
        clear hat9 h3 e1
        refine lv_astore hx hb clq_d69 hl (by decide) (lv' := [(5, .ref sn), (4, .ref ln), (0, .ref this), (1, .int a), (2, .int b), (3, .int t)]) rfl fun ls hl => ?_
        refine lv_aload hx hb clq_d71 (lv_at hl 1 rfl) ?_
        refine lv_aload hx hb clq_d73 (lv_at hl 0 rfl) ?_
        refine gst_TwinFires_120 X hst9 hI.1 clq_d75 ?_
        obtain ⟨e75, hg_e75⟩ : ∃ e75 : Int32, f (60 + 7 * t.toInt.toNat + 1) = e75 := ⟨_, rfl⟩
        rw [hg_e75]
        refine lv_aload hx hb clq_d78 (lv_at hl 0 rfl) ?_
        refine gst_TwinFires_124 X hst9 hI.1 clq_d80 ?_
        obtain ⟨e80, hg_e80⟩ : ∃ e80 : Int32, f (60 + 7 * t.toInt.toNat + 2) = e80 := ⟨_, rfl⟩
        rw [hg_e80]
        refine y_call (z := (0, 127, 3, some 10, xM43)) (av := [.ref ln, .int e75, .int e80]) (rest := []) (y_cokV (n := 2) (ci := 3) X ym_isBetween rfl rfl rfl (x_cons (x_bw33 5 rfl rfl) (x_cons (x_bw31 7 rfl rfl) (x_cons (x_bw31 8 rfl rfl) (x_cons (x_bw0 7 rfl rfl) x_nilm)))) (x_bw31 9 rfl rfl) (by decide +kernel) ⟨Nat.le_of_ble_eq_true rfl, Nat.le_of_ble_eq_true rfl⟩) hY0 hI rfl clq_d83 hl.1 (Nat.le_of_ble_eq_true rfl) (Nat.le_of_ble_eq_true rfl) (Nat.le_of_ble_eq_true rfl) (y_cons (y_cref hY_ln rfl) (y_cons ⟨_, rfl, x_i32 _⟩ (y_cons ⟨_, rfl, x_i32 _⟩ y_nil))) rfl (y_recv rfl hY_ln) trivial (y_sub_ef rfl) fun v Yn o Hn L ho hr ha hIn hx_ hE hP => ?_
        have hPl := hP _ _ _ _ rfl hLn
        obtain rfl := hPl
        replace hs_hd := y_Efld hE hY_this rfl (by decide) (by decide) hs_hd
        replace hs_ey := y_Efld hE hY_this rfl (by decide) (by decide) hs_ey
        replace hn0 := y_Efld hE hY_hd rfl (by decide) (by decide) hn0
        replace hn1 := y_Efld hE hY_hd rfl (by decide) (by decide) hn1
        replace hs_ln := y_Efld hE hY_ey rfl (by decide) (by decide) hs_ln
        replace hs_astones := y_Efld hE hY_hd rfl (by decide) (by decide) hs_astones
        replace hs_adial := y_Efld hE hY_hd rfl (by decide) (by decide) hs_adial
        replace hs_fa := y_Efld hE hY_this rfl (by decide) (by decide) hs_fa
        replace hs_fb := y_Efld hE hY_this rfl (by decide) (by decide) hs_fb
        replace hA_adial := hA_adial.kept (y_Earr hE hY_adial rfl (by decide))
        replace hL := hL.E hY_hd hE (fun q u h => y_ext hx_ hI.1 h) (by decide +kernel)
        replace hLn := hLn.E hY_ln hE (by decide)
        replace hst9 := hst9.E hE (fun q u h => y_ext hx_ hI.1 h) (by decide +kernel)
        replace hY_this := y_ext hx_ hI.1 hY_this
        replace hY_hd := y_ext hx_ hI.1 hY_hd
        replace hY_ey := y_ext hx_ hI.1 hY_ey
        replace hY_ln := y_ext hx_ hI.1 hY_ln
        replace hY_astones := y_ext hx_ hI.1 hY_astones
        replace hY_adial := y_ext hx_ hI.1 hY_adial
        generalize hg_r83 : m_b (m_bt (m_ln f a.toInt.toNat b.toInt.toNat) e75 e80) = r83
        clear ho hr ha hE hP hI hx_
        rename x_I _ _ _ _ _ _ _ _ _ _ => hI
        refine lv_if_ne hx hb clq_d86 (tgt := 96) (by decide) (fun q86 => ?_) (fun q86 => ?_)
        · have q86_ : ¬ r83.toInt = (0 : Int32).toInt := fun q => q86 (Int32.toInt_inj.mp q)
          have hxt : f (61 + 7 * t.toInt.toNat) = e75 := by rw [← hg_e75]; congr 1; omega
          have hyt : f (62 + 7 * t.toInt.toNat) = e80 := by rw [← hg_e80]; congr 1; omega
          have hbt : m_clB f a.toInt.toNat b.toInt.toNat t.toInt.toNat = true := by unfold m_clB; rw [hxt, hyt]; exact m_bn (fun q => absurd ((Eq.trans (Eq.symm hg_r83)) q) (by assumption))
          have hok : m_clOk f a b t := ⟨hh9.1, hh9.2.1, hh9.2.2, hbt⟩
          refine lv_aload_n hx hb clq_d96 rfl (lv_at hl 2 rfl) ?_
          refine lv_aload hx hb clq_d97 (lv_at hl 1 rfl) ?_
          refine lv_aload hx hb clq_d99 (lv_at hl 0 rfl) ?_
          refine gst_TwinFires_120 X hst9 hI.1 clq_d101 ?_
          obtain ⟨e101, hg_e101⟩ : ∃ e101 : Int32, f (60 + 7 * t.toInt.toNat + 1) = e101 := ⟨_, rfl⟩
          rw [hg_e101]
          refine lv_aload hx hb clq_d104 (lv_at hl 0 rfl) ?_
          refine gst_TwinFires_124 X hst9 hI.1 clq_d106 ?_
          obtain ⟨e106, hg_e106⟩ : ∃ e106 : Int32, f (60 + 7 * t.toInt.toNat + 2) = e106 := ⟨_, rfl⟩
          rw [hg_e106]
          refine lv_aload_n hx hb clq_d109 rfl (lv_at hl 2 rfl) ?_
          refine y_getf X (fl8 X.2.2.2.2.1) hI.1 hY_this rfl hs_hd clq_d110 ?_
          refine lv_iload_n hx hb clq_d113 rfl (lv_at hl 5 rfl) ?_
          refine lv_aload_n hx hb clq_d114 rfl (lv_at hl 2 rfl) ?_
          refine y_getf X (fl8 X.2.2.2.2.1) hI.1 hY_this rfl hs_hd clq_d115 ?_
          refine y_getf X (fl58 X.2.2.2.2.1) hI.1 hY_hd rfl hs_adial clq_d118 ?_
          refine lv_iconst hx hb clq_d121 (v := 0) (by decide) ?_
          refine y_iald X hI.1 hY_adial rfl hA_adial (by omega) (by show _ < (4 : Int); omega) clq_d122 ?_
          obtain ⟨e122, hg_e122⟩ : ∃ e122 : Int32, f (4 + 1 * (0 : Int32).toInt.toNat) = e122 := ⟨_, rfl⟩
          rw [hg_e122]
          refine y_call (z := (0, 98, 3, some 2, xM38)) (av := [.ref hd, .int t, .int e122]) (rest := [.int e106, .int e101, .ref ln, .ref this]) (y_cokV (n := 2) (ci := 2) X ym_standing rfl rfl rfl (x_cons (x_bw26 14 rfl rfl) (x_cons (x_bw26 15 rfl rfl) (x_cons (x_bw27 0 rfl rfl) (x_cons (x_bw0 2 rfl rfl) x_nilm)))) (x_bw27 1 rfl rfl) (by decide +kernel) ⟨Nat.le_of_ble_eq_true rfl, Nat.le_of_ble_eq_true rfl⟩) hY0 hI rfl clq_d123 hl.1 (Nat.le_of_ble_eq_true rfl) (Nat.le_of_ble_eq_true rfl) (Nat.le_of_ble_eq_true rfl) (y_cons (y_cref hY_hd rfl) (y_cons ⟨_, rfl, by show (0 : Int) ≤ _; omega, by show _ ≤ (7 : Int); omega⟩ (y_cons ⟨_, rfl, x_i32 _⟩ y_nil))) rfl (y_recv rfl hY_hd) (fun t' h1 => by cases h1; exact ⟨_, hL⟩) (y_sub_ef rfl) fun v Yn o Hn L ho hr ha hIn hx_ hE hP => ?_
          have hPs := hP _ _ _ _ rfl hL
          obtain rfl := hPs
          replace hs_hd := y_Efld hE hY_this rfl (by decide) (by decide) hs_hd
          replace hs_ey := y_Efld hE hY_this rfl (by decide) (by decide) hs_ey
          replace hn0 := y_Efld hE hY_hd rfl (by decide) (by decide) hn0
          replace hn1 := y_Efld hE hY_hd rfl (by decide) (by decide) hn1
          replace hs_ln := y_Efld hE hY_ey rfl (by decide) (by decide) hs_ln
          replace hs_astones := y_Efld hE hY_hd rfl (by decide) (by decide) hs_astones
          replace hs_adial := y_Efld hE hY_hd rfl (by decide) (by decide) hs_adial
          replace hs_fa := y_Efld hE hY_this rfl (by decide) (by decide) hs_fa
          replace hs_fb := y_Efld hE hY_this rfl (by decide) (by decide) hs_fb
          replace hA_adial := hA_adial.kept (y_Earr hE hY_adial rfl (by decide))
          replace hL := hL.E hY_hd hE (fun q u h => y_ext hx_ hI.1 h) (by decide +kernel)
          replace hLn := hLn.E hY_ln hE (by decide)
          replace hst9 := hst9.E hE (fun q u h => y_ext hx_ hI.1 h) (by decide +kernel)
          replace hY_this := y_ext hx_ hI.1 hY_this
          replace hY_hd := y_ext hx_ hI.1 hY_hd
          replace hY_ey := y_ext hx_ hI.1 hY_ey
          replace hY_ln := y_ext hx_ hI.1 hY_ln
          replace hY_astones := y_ext hx_ hI.1 hY_astones
          replace hY_adial := y_ext hx_ hI.1 hY_adial
          generalize hg_r123 : m_hgh f t.toInt.toNat e122 = r123
          clear ho hr ha hE hP hI hx_
          rename x_I _ _ _ _ _ _ _ _ _ _ => hI
          refine y_call (z := (0, 131, 4, some 10, xM45)) (av := [.ref ln, .int e101, .int e106, .int r123]) (rest := [.ref this]) (y_cokV (n := 3) (ci := 3) X ym_over rfl rfl rfl (x_cons (x_bw33 6 rfl rfl) (x_cons (x_bw32 3 rfl rfl) (x_cons (x_bw32 4 rfl rfl) (x_cons (x_bw0 7 rfl rfl) x_nilm)))) (x_bw32 5 rfl rfl) (by decide +kernel) ⟨Nat.le_of_ble_eq_true rfl, Nat.le_of_ble_eq_true rfl⟩) hY0 hI rfl clq_d126 hl.1 (Nat.le_of_ble_eq_true rfl) (Nat.le_of_ble_eq_true rfl) (Nat.le_of_ble_eq_true rfl) (y_cons (y_cref hY_ln rfl) (y_cons ⟨_, rfl, x_i32 _⟩ (y_cons ⟨_, rfl, x_i32 _⟩ (y_cons ⟨_, rfl, x_i32 _⟩ y_nil)))) rfl (y_recv rfl hY_ln) trivial (y_sub_ef rfl) fun v Yn o Hn L ho hr ha hIn hx_ hE hP => ?_
          have hPl := hP _ _ _ _ _ rfl hLn
          obtain rfl := hPl
          replace hs_hd := y_Efld hE hY_this rfl (by decide) (by decide) hs_hd
          replace hs_ey := y_Efld hE hY_this rfl (by decide) (by decide) hs_ey
          replace hn0 := y_Efld hE hY_hd rfl (by decide) (by decide) hn0
          replace hn1 := y_Efld hE hY_hd rfl (by decide) (by decide) hn1
          replace hs_ln := y_Efld hE hY_ey rfl (by decide) (by decide) hs_ln
          replace hs_astones := y_Efld hE hY_hd rfl (by decide) (by decide) hs_astones
          replace hs_adial := y_Efld hE hY_hd rfl (by decide) (by decide) hs_adial
          replace hs_fa := y_Efld hE hY_this rfl (by decide) (by decide) hs_fa
          replace hs_fb := y_Efld hE hY_this rfl (by decide) (by decide) hs_fb
          replace hA_adial := hA_adial.kept (y_Earr hE hY_adial rfl (by decide))
          replace hL := hL.E hY_hd hE (fun q u h => y_ext hx_ hI.1 h) (by decide +kernel)
          replace hLn := hLn.E hY_ln hE (by decide)
          replace hst9 := hst9.E hE (fun q u h => y_ext hx_ hI.1 h) (by decide +kernel)
          replace hY_this := y_ext hx_ hI.1 hY_this
          replace hY_hd := y_ext hx_ hI.1 hY_hd
          replace hY_ey := y_ext hx_ hI.1 hY_ey
          replace hY_ln := y_ext hx_ hI.1 hY_ln
          replace hY_astones := y_ext hx_ hI.1 hY_astones
          replace hY_adial := y_ext hx_ hI.1 hY_adial
          generalize hg_r126 : m_ov (m_ln f a.toInt.toNat b.toInt.toNat) e101 e106 r123 = r126
          clear ho hr ha hE hP hI hx_
          rename x_I _ _ _ _ _ _ _ _ _ _ => hI
          obtain ⟨z129, hg_z129⟩ : ∃ z129 : Int64, r126.toInt64 = z129 := ⟨_, rfl⟩
          have h_z129 : z129.toInt = (r126).toInt := by rw [← hg_z129]; exact Int32.toInt_toInt64 _
          refine lv_i2l hx hb clq_d129 (v := z129) hg_z129 ?_
          refine lv_aload hx hb clq_d130 (lv_at hl 1 rfl) ?_
          have hs_sq := hLn.1 7 (by decide)
          obtain ⟨sq, hsq9⟩ : ∃ sq : Int32, (m_ln f a.toInt.toNat b.toInt.toNat) 7 = sq := ⟨_, rfl⟩
          rw [hsq9] at hs_sq
          refine y_getf X (fl119 X.2.2.2.2.1) hI.1 hY_ln rfl hs_sq clq_d132 ?_
          obtain ⟨z135, hg_z135⟩ : ∃ z135 : Int64, sq.toInt64 = z135 := ⟨_, rfl⟩
          have h_z135 : z135.toInt = (sq).toInt := by rw [← hg_z135]; exact Int32.toInt_toInt64 _
          refine lv_i2l hx hb clq_d135 (v := z135) hg_z135 ?_
          refine y_call (z := (0, 137, 3, some 0, xM54)) (av := [.ref this, .long z129, .long z135]) (rest := []) (y_cokV (n := 2) (ci := 11) X ym_setFraction rfl rfl rfl (x_cons (x_bw33 7 rfl rfl) (x_cons (x_bw33 9 rfl rfl) (x_cons (x_at 7 (by decide +kernel) rfl) (x_cons (x_bw0 1 rfl rfl) x_nilm)))) (x_bw33 10 rfl rfl) (by decide +kernel) ⟨Nat.le_of_ble_eq_true rfl, Nat.le_of_ble_eq_true rfl⟩) hY0 hI rfl clq_d136 hl.1 (Nat.le_of_ble_eq_true rfl) (Nat.le_of_ble_eq_true rfl) (Nat.le_of_ble_eq_true rfl) (y_cons (y_cref hY_this rfl) (y_cons ⟨_, rfl, x_i64 _⟩ (y_cons ⟨_, rfl, x_i64 _⟩ y_nil))) rfl (y_recv rfl hY_this) trivial (y_sub_ef rfl) fun v Yn o Hn L ho hr ha hIn hx_ hE hP => ?_
          have hPf := hP _ _ _ rfl
          replace hs_hd := y_Efld hE hY_this rfl (by decide) (by decide) hs_hd
          replace hs_ey := y_Efld hE hY_this rfl (by decide) (by decide) hs_ey
          replace hn0 := y_Efld hE hY_hd rfl (by decide) (by decide) hn0
          replace hn1 := y_Efld hE hY_hd rfl (by decide) (by decide) hn1
          replace hs_ln := y_Efld hE hY_ey rfl (by decide) (by decide) hs_ln
          replace hs_astones := y_Efld hE hY_hd rfl (by decide) (by decide) hs_astones
          replace hs_adial := y_Efld hE hY_hd rfl (by decide) (by decide) hs_adial
          replace hs_sq := y_Efld hE hY_ln rfl (by decide) (by decide) hs_sq
          replace hA_adial := hA_adial.kept (y_Earr hE hY_adial rfl (by decide))
          replace hL := hL.E hY_hd hE (fun q u h => y_ext hx_ hI.1 h) (by decide +kernel)
          replace hLn := hLn.E hY_ln hE (by decide)
          replace hst9 := hst9.E hE (fun q u h => y_ext hx_ hI.1 h) (by decide +kernel)
          replace hY_this := y_ext hx_ hI.1 hY_this
          replace hY_hd := y_ext hx_ hI.1 hY_hd
          replace hY_ey := y_ext hx_ hI.1 hY_ey
          replace hY_ln := y_ext hx_ hI.1 hY_ln
          replace hY_astones := y_ext hx_ hI.1 hY_astones
          replace hY_adial := y_ext hx_ hI.1 hY_adial
          obtain rfl := y_ansV rfl ho hr
          clear ho hr ha hE hP hI hx_
          rename x_I _ _ _ _ _ _ _ _ _ _ => hI
          have hU9 : m_clU f a.toInt.toNat b.toInt.toNat t.toInt.toNat = z129 := by unfold m_clU; rw [hxt, hyt, show f 4 = e122 from hg_e122, hg_r123, show e75 = e101 from (Eq.trans (Eq.symm hg_e75)) hg_e101, show e80 = e106 from (Eq.trans (Eq.symm hg_e80)) hg_e106, hg_r126]; exact hg_z129
          have hD9 : m_clD f a.toInt.toNat b.toInt.toNat = z135 := by unfold m_clD; rw [hsq9]; exact hg_z135
          rw [← hU9, ← hD9] at hPf
          refine lv_iconst hx hb clq_d139 (v := 1) (by decide) ?_
          have ec1 : (1 : Int32).toInt = 1 := by decide
          exact y_ireturn B hI rfl rfl rfl List.mem_cons_self ⟨_, rfl, ⟨_, rfl, x_i32 _⟩⟩ (x_cs.mono B.2.2.2.2.2 (y_mon B hI)) (fun t' w0' w1' w2' f' K' tt' nn' h1 h2 => by cases h1; obtain ⟨ef, -⟩ := hR0.eqs h2; subst ef; exact ⟨_, rfl, ⟨fun _ => rfl, fun q9 => absurd hok q9⟩, ⟨fun q9 => absurd rfl q9, fun _ => hPf⟩⟩) (Nat.le_refl _) (Nat.le_refl _) clq_d140
        · have q86_ : r83.toInt = (0 : Int32).toInt := by rw [q86]
          have hxt : f (61 + 7 * t.toInt.toNat) = e75 := by rw [← hg_e75]; congr 1; omega
          have hyt : f (62 + 7 * t.toInt.toNat) = e80 := by rw [← hg_e80]; congr 1; omega
          have hbt : m_clB f a.toInt.toNat b.toInt.toNat t.toInt.toNat = false := by unfold m_clB; rw [hxt, hyt]; exact m_b0 ((Eq.trans hg_r83) (by assumption))
          have hno : ¬ m_clOk f a b t := fun q9 => by have h7 := q9.2.2.2; rw [hbt] at h7; cases h7
          refine lv_aload_n hx hb clq_d89 rfl (lv_at hl 2 rfl) ?_
          refine lv_bipush hx hb clq_d90 (v := (-3)) (by decide) ?_
          have ecm3 : ((-3) : Int32).toInt = (-3) := by decide
          refine y_call (z := (0, 59, 2, some 0, xM8)) (av := [.ref this, .int ((-3) : Int32)]) (rest := []) (y_cokV (n := 1) (ci := 11) X ym_counted rfl rfl rfl (x_cons (x_bw19 7 rfl rfl) (x_cons (x_bw19 9 rfl rfl) (x_cons (x_at 1 (by decide +kernel) rfl) (x_cons (x_bw0 1 rfl rfl) x_nilm)))) (x_bw19 10 rfl rfl) (by decide +kernel) ⟨Nat.le_of_ble_eq_true rfl, Nat.le_of_ble_eq_true rfl⟩) hY0 hI rfl clq_d92 hl.1 (Nat.le_of_ble_eq_true rfl) (Nat.le_of_ble_eq_true rfl) (Nat.le_of_ble_eq_true rfl) (y_cons (y_cref hY_this rfl) (y_cons ⟨_, rfl, x_i32 _⟩ y_nil)) rfl (y_recv rfl hY_this) trivial (y_sub_ef rfl) fun v Yn o Hn L ho hr ha hIn hx_ hE hP => ?_
          replace hs_hd := y_Efld hE hY_this rfl (by decide) (by decide) hs_hd
          replace hs_ey := y_Efld hE hY_this rfl (by decide) (by decide) hs_ey
          replace hn0 := y_Efld hE hY_hd rfl (by decide) (by decide) hn0
          replace hn1 := y_Efld hE hY_hd rfl (by decide) (by decide) hn1
          replace hs_ln := y_Efld hE hY_ey rfl (by decide) (by decide) hs_ln
          replace hs_astones := y_Efld hE hY_hd rfl (by decide) (by decide) hs_astones
          replace hs_adial := y_Efld hE hY_hd rfl (by decide) (by decide) hs_adial
          replace hs_fa := y_Efld hE hY_this rfl (by decide) (by decide) hs_fa
          replace hs_fb := y_Efld hE hY_this rfl (by decide) (by decide) hs_fb
          replace hA_adial := hA_adial.kept (y_Earr hE hY_adial rfl (by decide))
          replace hL := hL.E hY_hd hE (fun q u h => y_ext hx_ hI.1 h) (by decide +kernel)
          replace hLn := hLn.E hY_ln hE (by decide)
          replace hst9 := hst9.E hE (fun q u h => y_ext hx_ hI.1 h) (by decide +kernel)
          replace hY_this := y_ext hx_ hI.1 hY_this
          replace hY_hd := y_ext hx_ hI.1 hY_hd
          replace hY_ey := y_ext hx_ hI.1 hY_ey
          replace hY_ln := y_ext hx_ hI.1 hY_ln
          replace hY_astones := y_ext hx_ hI.1 hY_astones
          replace hY_adial := y_ext hx_ hI.1 hY_adial
          obtain rfl := hP _ _ rfl
          clear ho hr ha hE hP hI hx_
          rename x_I _ _ _ _ _ _ _ _ _ _ => hI
          exact y_ireturn B hI rfl rfl rfl List.mem_cons_self ⟨_, rfl, ⟨_, rfl, x_i32 _⟩⟩ (x_cs.mono B.2.2.2.2.2 (y_mon B hI)) (fun t' w0' w1' w2' f' K' tt' nn' h1 h2 => by cases h1; obtain ⟨ef, -⟩ := hR0.eqs h2; subst ef; exact ⟨_, rfl, ⟨fun q9 => absurd q9 hno, fun _ => by decide⟩, ⟨fun _ a9 b9 h9 => by cases hfa0.symm.trans h9.1; cases hfb0.symm.trans h9.2; exact ⟨hs_fa, hs_fb⟩, fun q9 => absurd q9 (by decide)⟩⟩) (Nat.le_refl _) (Nat.le_refl _) clq_d95
      · have q30_ : r27.toInt = (0 : Int32).toInt := by rw [q30]
        have hno : ¬ m_clOk f a b t := fun q9 => by first | exact hout_r5 (by assumption) q9.1 | exact hout_r16 (by assumption) q9.2.1 | exact hout_r27 (by assumption) q9.2.2.1
        refine lv_aload_n hx hb clq_d33 rfl (lv_at hl 0 rfl) ?_
        refine lv_bipush hx hb clq_d34 (v := (-2)) (by decide) ?_
        have ecm2 : ((-2) : Int32).toInt = (-2) := by decide
        refine y_call (z := (0, 59, 2, some 0, xM8)) (av := [.ref this, .int ((-2) : Int32)]) (rest := []) (y_cokV (n := 1) (ci := 11) X ym_counted rfl rfl rfl (x_cons (x_bw19 7 rfl rfl) (x_cons (x_bw19 9 rfl rfl) (x_cons (x_at 1 (by decide +kernel) rfl) (x_cons (x_bw0 1 rfl rfl) x_nilm)))) (x_bw19 10 rfl rfl) (by decide +kernel) ⟨Nat.le_of_ble_eq_true rfl, Nat.le_of_ble_eq_true rfl⟩) hY0 hI rfl clq_d36 hl.1 (Nat.le_of_ble_eq_true rfl) (Nat.le_of_ble_eq_true rfl) (Nat.le_of_ble_eq_true rfl) (y_cons (y_cref hY_this rfl) (y_cons ⟨_, rfl, x_i32 _⟩ y_nil)) rfl (y_recv rfl hY_this) trivial (y_sub_ef rfl) fun v Yn o Hn L ho hr ha hIn hx_ hE hP => ?_
        replace hs_hd := y_Efld hE hY_this rfl (by decide) (by decide) hs_hd
        replace hs_ey := y_Efld hE hY_this rfl (by decide) (by decide) hs_ey
        replace hn0 := y_Efld hE hY_hd rfl (by decide) (by decide) hn0
        replace hn1 := y_Efld hE hY_hd rfl (by decide) (by decide) hn1
        replace hs_ln := y_Efld hE hY_ey rfl (by decide) (by decide) hs_ln
        replace hs_astones := y_Efld hE hY_hd rfl (by decide) (by decide) hs_astones
        replace hs_adial := y_Efld hE hY_hd rfl (by decide) (by decide) hs_adial
        replace hs_fa := y_Efld hE hY_this rfl (by decide) (by decide) hs_fa
        replace hs_fb := y_Efld hE hY_this rfl (by decide) (by decide) hs_fb
        replace hA_adial := hA_adial.kept (y_Earr hE hY_adial rfl (by decide))
        replace hL := hL.E hY_hd hE (fun q u h => y_ext hx_ hI.1 h) (by decide +kernel)
        replace hLn := hLn.E hY_ln hE (by decide)
        replace hY_this := y_ext hx_ hI.1 hY_this
        replace hY_hd := y_ext hx_ hI.1 hY_hd
        replace hY_ey := y_ext hx_ hI.1 hY_ey
        replace hY_ln := y_ext hx_ hI.1 hY_ln
        replace hY_astones := y_ext hx_ hI.1 hY_astones
        replace hY_adial := y_ext hx_ hI.1 hY_adial
        obtain rfl := hP _ _ rfl
        clear ho hr ha hE hP hI hx_
        rename x_I _ _ _ _ _ _ _ _ _ _ => hI
        exact y_ireturn B hI rfl rfl rfl List.mem_cons_self ⟨_, rfl, ⟨_, rfl, x_i32 _⟩⟩ (x_cs.mono B.2.2.2.2.2 (y_mon B hI)) (fun t' w0' w1' w2' f' K' tt' nn' h1 h2 => by cases h1; obtain ⟨ef, -⟩ := hR0.eqs h2; subst ef; exact ⟨_, rfl, ⟨fun q9 => absurd q9 hno, fun _ => by decide⟩, ⟨fun _ a9 b9 h9 => by cases hfa0.symm.trans h9.1; cases hfb0.symm.trans h9.2; exact ⟨hs_fa, hs_fb⟩, fun q9 => absurd q9 (by decide)⟩⟩) (Nat.le_refl _) (Nat.le_refl _) clq_d39

