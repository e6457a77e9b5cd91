def z_Pso : yP := fun D av Y H _ _ H' => ∀ (this : Nat) (k x y h g : Int32), av = [.ref this, .int k, .int x, .int y, .int h, .int g] → (∀ z ∈ z_Kd, Y this = some z.1 → x_sl D z.2 0 this H' = some (.int k) ∧ x_sl D z.2 1 this H' = some (.int x) ∧ x_sl D z.2 2 this H' = some (.int y) ∧ x_sl D z.2 3 this H' = some (.int h) ∧ x_sl D z.2 4 this H' = some (.int g)) ∧ ∀ b, b ≠ this → H'[b]? = H[b]?
theorem y_six9 {Y : xY} {t u w x y z : xV} {av : List Value} (h : x_cs Y [t, u, w, x, y, z] av) : ∃ a b c d e g, av = [a, b, c, d, e, g] ∧ x_c Y t a ∧ x_c Y u b ∧ x_c Y w c ∧ x_c Y x d ∧ x_c Y y e ∧ x_c Y z g := by
  obtain ⟨h1, h2⟩ := h
  match av, h1 with
  | [a, b, c, d, e, g], _ => exact ⟨a, b, c, d, e, g, rfl, h2 0 t a rfl rfl, h2 1 u b rfl rfl, h2 2 w c rfl rfl, h2 3 x d rfl rfl, h2 4 y e rfl rfl, h2 5 z g rfl rfl⟩
theorem z_Kcl {Y : xY} {b t ci : Nat} (hY : Y b = some t) (hz : (t, ci) ∈ z_Kd) : ∀ z ∈ z_Kd, Y b = some z.1 → z.2 = ci := fun z h1 h2 => by
  rw [hY] at h2
  injection h2 with h2
  have hk : ∀ u ∈ z_Kd, ∀ v ∈ z_Kd, u.1 = v.1 → u.2 = v.2 := by decide
  exact hk z h1 _ hz h2.symm
theorem so_d0 : decode xM13.2.1 0 = .ok (.aload_n 0, 1) := dz_ok (by decide +kernel)
theorem so_d1 : decode xM13.2.1 1 = .ok (.invokespecial 1, 3) := dz_ok (by decide +kernel)
theorem so_d4 : decode xM13.2.1 4 = .ok (.aload_n 0, 1) := dz_ok (by decide +kernel)
theorem so_d5 : decode xM13.2.1 5 = .ok (.iload_n 1, 1) := dz_ok (by decide +kernel)
theorem so_d6 : decode xM13.2.1 6 = .ok (.putfield 7, 3) := dz_ok (by decide +kernel)
theorem so_d9 : decode xM13.2.1 9 = .ok (.aload_n 0, 1) := dz_ok (by decide +kernel)
theorem so_d10 : decode xM13.2.1 10 = .ok (.iload_n 2, 1) := dz_ok (by decide +kernel)
theorem so_d11 : decode xM13.2.1 11 = .ok (.putfield 13, 3) := dz_ok (by decide +kernel)
theorem so_d14 : decode xM13.2.1 14 = .ok (.aload_n 0, 1) := dz_ok (by decide +kernel)
theorem so_d15 : decode xM13.2.1 15 = .ok (.iload_n 3, 1) := dz_ok (by decide +kernel)
theorem so_d16 : decode xM13.2.1 16 = .ok (.putfield 16, 3) := dz_ok (by decide +kernel)
theorem so_d19 : decode xM13.2.1 19 = .ok (.aload_n 0, 1) := dz_ok (by decide +kernel)
theorem so_d20 : decode xM13.2.1 20 = .ok (.iload 4, 2) := dz_ok (by decide +kernel)
theorem so_d22 : decode xM13.2.1 22 = .ok (.putfield 19, 3) := dz_ok (by decide +kernel)
theorem so_d25 : decode xM13.2.1 25 = .ok (.aload_n 0, 1) := dz_ok (by decide +kernel)
theorem so_d26 : decode xM13.2.1 26 = .ok (.iload 5, 2) := dz_ok (by decide +kernel)
theorem so_d28 : decode xM13.2.1 28 = .ok (.putfield 22, 3) := dz_ok (by decide +kernel)
theorem so_d31 : decode xM13.2.1 31 = .ok (.return_, 1) := dz_ok (by decide +kernel)
theorem ym_stone : y_Met vwCl x_G x_Zs x_Tb x_Nb xM13 y_T z_Pso := by
  refine y_main (by decide +kernel) (by decide +kernel) x_Tb_good x_Nb_ok ?_
  intro p l e s m below meth c D U Y0 av ls B hI _ hl
  have X := B.1
  have hx := X.1
  have hb := X.2.1
  have hY0 := B.2.2.2.2.1
  have hts := X.2.2.2.2.1
  have hnm := B.2.2.2.1
  obtain ⟨v0, v1, v2, v3, v4, v5, rfl, hv0, ⟨k, rfl, -⟩, ⟨x, rfl, -⟩, ⟨y, rfl, -⟩, ⟨h, rfl, -⟩, ⟨g, rfl, -⟩⟩ := y_six9 B.2.2.2.2.2
  obtain ⟨this, t0, rfl, ht0, hY_this⟩ := x_ref_at hv0 rfl
  replace hl : lv_has ls xM13.2.2.1 [(0, .ref this), (1, .int k), (2, .int x), (3, .int y), (4, .int h), (5, .int g)] := hl
  have hYt := hY_this
  have hF : ∀ b, b ≠ this → s.heap[b]? = s.heap[b]? := fun _ _ => rfl
  simp only [List.mem_cons, List.not_mem_nil, or_false] at ht0
  rcases ht0 with rfl | rfl | rfl | rfl | rfl | rfl
  · refine lv_aload_n hx hb so_d0 rfl (lv_at hl 0 rfl) ?_
    refine y_oi X (hts _ (x_bw2 13 rfl rfl)) (hts _ (x_bw1 12 rfl rfl)) (hts _ (x_bw1 13 rfl rfl)) (Nat.le_of_ble_eq_true rfl) (Nat.le_of_ble_eq_true rfl) hl.1 (Nat.le_of_ble_eq_true rfl) so_d1 ?_
    refine lv_aload_n hx hb so_d4 rfl (lv_at hl 0 rfl) ?_
    refine lv_iload_n hx hb so_d5 rfl (lv_at hl 1 rfl) ?_
    refine y_putf X (fw9 X.2.2.2.2.1 hnm) hY0 hI hY_this rfl rfl ⟨_, rfl, x_i32 _⟩ (by decide +kernel) so_d6 fun H sl hI ho hs hk => ?_
    replace hF := fun b (hb : b ≠ this) => Eq.trans (ho b hb) (hF b hb)
    replace hs := hs
    have hs6 := hs
    refine lv_aload_n hx hb so_d9 rfl (lv_at hl 0 rfl) ?_
    refine lv_iload_n hx hb so_d10 rfl (lv_at hl 2 rfl) ?_
    refine y_putf X (fw15 X.2.2.2.2.1 hnm) hY0 hI hY_this rfl rfl ⟨_, rfl, x_i32 _⟩ (by decide +kernel) so_d11 fun H sl hI ho hs hk => ?_
    replace hs6 := hk _ _ (by decide +kernel) (by decide) hs6
    replace hF := fun b (hb : b ≠ this) => Eq.trans (ho b hb) (hF b hb)
    replace hs := hs
    have hs11 := hs
    refine lv_aload_n hx hb so_d14 rfl (lv_at hl 0 rfl) ?_
    refine lv_iload_n hx hb so_d15 rfl (lv_at hl 3 rfl) ?_
    refine y_putf X (fw21 X.2.2.2.2.1 hnm) hY0 hI hY_this rfl rfl ⟨_, rfl, x_i32 _⟩ (by decide +kernel) so_d16 fun H sl hI ho hs hk => ?_
    replace hs6 := hk _ _ (by decide +kernel) (by decide) hs6
    replace hs11 := hk _ _ (by decide +kernel) (by decide) hs11
    replace hF := fun b (hb : b ≠ this) => Eq.trans (ho b hb) (hF b hb)
    replace hs := hs
    have hs16 := hs
    refine lv_aload_n hx hb so_d19 rfl (lv_at hl 0 rfl) ?_
    refine lv_iload hx hb so_d20 (lv_at hl 4 rfl) ?_
    refine y_putf X (fw27 X.2.2.2.2.1 hnm) hY0 hI hY_this rfl rfl ⟨_, rfl, x_i32 _⟩ (by decide +kernel) so_d22 fun H sl hI ho hs hk => ?_
    replace hs6 := hk _ _ (by decide +kernel) (by decide) hs6
    replace hs11 := hk _ _ (by decide +kernel) (by decide) hs11
    replace hs16 := hk _ _ (by decide +kernel) (by decide) hs16
    replace hF := fun b (hb : b ≠ this) => Eq.trans (ho b hb) (hF b hb)
    replace hs := hs
    have hs22 := hs
    refine lv_aload_n hx hb so_d25 rfl (lv_at hl 0 rfl) ?_
    refine lv_iload hx hb so_d26 (lv_at hl 5 rfl) ?_
    refine y_putf X (fw33 X.2.2.2.2.1 hnm) hY0 hI hY_this rfl rfl ⟨_, rfl, x_i32 _⟩ (by decide +kernel) so_d28 fun H sl hI ho hs hk => ?_
    replace hs6 := hk _ _ (by decide +kernel) (by decide) hs6
    replace hs11 := hk _ _ (by decide +kernel) (by decide) hs11
    replace hs16 := hk _ _ (by decide +kernel) (by decide) hs16
    replace hs22 := hk _ _ (by decide +kernel) (by decide) hs22
    replace hF := fun b (hb : b ≠ this) => Eq.trans (ho b hb) (hF b hb)
    replace hs := hs
    have hs28 := hs
    exact y_return B hI rfl rfl List.mem_cons_self rfl (x_cs.mono B.2.2.2.2.2 (y_mon B hI)) (fun t' k' x' y' h' g' h1 => by cases h1; exact ⟨fun z hz hzY => by rw [z_Kcl hYt (show (11, 6) ∈ z_Kd by decide) z hz hzY]; exact ⟨hs6, hs11, hs16, hs22, hs28⟩, hF⟩) (Nat.le_refl _) (Nat.le_refl _) so_d31
  · refine lv_aload_n hx hb so_d0 rfl (lv_at hl 0 rfl) ?_
    refine y_oi X (hts _ (x_bw2 13 rfl rfl)) (hts _ (x_bw1 12 rfl rfl)) (hts _ (x_bw1 13 rfl rfl)) (Nat.le_of_ble_eq_true rfl) (Nat.le_of_ble_eq_true rfl) hl.1 (Nat.le_of_ble_eq_true rfl) so_d1 ?_
    refine lv_aload_n hx hb so_d4 rfl (lv_at hl 0 rfl) ?_
    refine lv_iload_n hx hb so_d5 rfl (lv_at hl 1 rfl) ?_
    refine y_putf X (fw10 X.2.2.2.2.1 hnm) hY0 hI hY_this rfl rfl ⟨_, rfl, x_i32 _⟩ (by decide +kernel) so_d6 fun H sl hI ho hs hk => ?_
    replace hF := fun b (hb : b ≠ this) => Eq.trans (ho b hb) (hF b hb)
    replace hs := hs
    have hs6 := hs
    refine lv_aload_n hx hb so_d9 rfl (lv_at hl 0 rfl) ?_
    refine lv_iload_n hx hb so_d10 rfl (lv_at hl 2 rfl) ?_
    refine y_putf X (fw16 X.2.2.2.2.1 hnm) hY0 hI hY_this rfl rfl ⟨_, rfl, x_i32 _⟩ (by decide +kernel) so_d11 fun H sl hI ho hs hk => ?_
    replace hs6 := hk _ _ (by decide +kernel) (by decide) hs6
    replace hF := fun b (hb : b ≠ this) => Eq.trans (ho b hb) (hF b hb)
    replace hs := hs
    have hs11 := hs
    refine lv_aload_n hx hb so_d14 rfl (lv_at hl 0 rfl) ?_
    refine lv_iload_n hx hb so_d15 rfl (lv_at hl 3 rfl) ?_
    refine y_putf X (fw22 X.2.2.2.2.1 hnm) hY0 hI hY_this rfl rfl ⟨_, rfl, x_i32 _⟩ (by decide +kernel) so_d16 fun H sl hI ho hs hk => ?_
    replace hs6 := hk _ _ (by decide +kernel) (by decide) hs6
    replace hs11 := hk _ _ (by decide +kernel) (by decide) hs11
    replace hF := fun b (hb : b ≠ this) => Eq.trans (ho b hb) (hF b hb)
    replace hs := hs
    have hs16 := hs
    refine lv_aload_n hx hb so_d19 rfl (lv_at hl 0 rfl) ?_
    refine lv_iload hx hb so_d20 (lv_at hl 4 rfl) ?_
    refine y_putf X (fw28 X.2.2.2.2.1 hnm) hY0 hI hY_this rfl rfl ⟨_, rfl, x_i32 _⟩ (by decide +kernel) so_d22 fun H sl hI ho hs hk => ?_
    replace hs6 := hk _ _ (by decide +kernel) (by decide) hs6
    replace hs11 := hk _ _ (by decide +kernel) (by decide) hs11
    replace hs16 := hk _ _ (by decide +kernel) (by decide) hs16
    replace hF := fun b (hb : b ≠ this) => Eq.trans (ho b hb) (hF b hb)
    replace hs := hs
    have hs22 := hs
    refine lv_aload_n hx hb so_d25 rfl (lv_at hl 0 rfl) ?_
    refine lv_iload hx hb so_d26 (lv_at hl 5 rfl) ?_
    refine y_putf X (fw34 X.2.2.2.2.1 hnm) hY0 hI hY_this rfl rfl ⟨_, rfl, x_i32 _⟩ (by decide +kernel) so_d28 fun H sl hI ho hs hk => ?_
    replace hs6 := hk _ _ (by decide +kernel) (by decide) hs6
    replace hs11 := hk _ _ (by decide +kernel) (by decide) hs11
    replace hs16 := hk _ _ (by decide +kernel) (by decide) hs16
    replace hs22 := hk _ _ (by decide +kernel) (by decide) hs22
    replace hF := fun b (hb : b ≠ this) => Eq.trans (ho b hb) (hF b hb)
    replace hs := hs
    have hs28 := hs
    exact y_return B hI rfl rfl List.mem_cons_self rfl (x_cs.mono B.2.2.2.2.2 (y_mon B hI)) (fun t' k' x' y' h' g' h1 => by cases h1; exact ⟨fun z hz hzY => by rw [z_Kcl hYt (show (12, 10) ∈ z_Kd by decide) z hz hzY]; exact ⟨hs6, hs11, hs16, hs22, hs28⟩, hF⟩) (Nat.le_refl _) (Nat.le_refl _) so_d31
  · refine lv_aload_n hx hb so_d0 rfl (lv_at hl 0 rfl) ?_
    refine y_oi X (hts _ (x_bw2 13 rfl rfl)) (hts _ (x_bw1 12 rfl rfl)) (hts _ (x_bw1 13 rfl rfl)) (Nat.le_of_ble_eq_true rfl) (Nat.le_of_ble_eq_true rfl) hl.1 (Nat.le_of_ble_eq_true rfl) so_d1 ?_
    refine lv_aload_n hx hb so_d4 rfl (lv_at hl 0 rfl) ?_
    refine lv_iload_n hx hb so_d5 rfl (lv_at hl 1 rfl) ?_
    refine y_putf X (fw11 X.2.2.2.2.1 hnm) hY0 hI hY_this rfl rfl ⟨_, rfl, x_i32 _⟩ (by decide +kernel) so_d6 fun H sl hI ho hs hk => ?_
    replace hF := fun b (hb : b ≠ this) => Eq.trans (ho b hb) (hF b hb)
    replace hs := hs
    have hs6 := hs
    refine lv_aload_n hx hb so_d9 rfl (lv_at hl 0 rfl) ?_
    refine lv_iload_n hx hb so_d10 rfl (lv_at hl 2 rfl) ?_
    refine y_putf X (fw17 X.2.2.2.2.1 hnm) hY0 hI hY_this rfl rfl ⟨_, rfl, x_i32 _⟩ (by decide +kernel) so_d11 fun H sl hI ho hs hk => ?_
    replace hs6 := hk _ _ (by decide +kernel) (by decide) hs6
    replace hF := fun b (hb : b ≠ this) => Eq.trans (ho b hb) (hF b hb)
    replace hs := hs
    have hs11 := hs
    refine lv_aload_n hx hb so_d14 rfl (lv_at hl 0 rfl) ?_
    refine lv_iload_n hx hb so_d15 rfl (lv_at hl 3 rfl) ?_
    refine y_putf X (fw23 X.2.2.2.2.1 hnm) hY0 hI hY_this rfl rfl ⟨_, rfl, x_i32 _⟩ (by decide +kernel) so_d16 fun H sl hI ho hs hk => ?_
    replace hs6 := hk _ _ (by decide +kernel) (by decide) hs6
    replace hs11 := hk _ _ (by decide +kernel) (by decide) hs11
    replace hF := fun b (hb : b ≠ this) => Eq.trans (ho b hb) (hF b hb)
    replace hs := hs
    have hs16 := hs
    refine lv_aload_n hx hb so_d19 rfl (lv_at hl 0 rfl) ?_
    refine lv_iload hx hb so_d20 (lv_at hl 4 rfl) ?_
    refine y_putf X (fw29 X.2.2.2.2.1 hnm) hY0 hI hY_this rfl rfl ⟨_, rfl, x_i32 _⟩ (by decide +kernel) so_d22 fun H sl hI ho hs hk => ?_
    replace hs6 := hk _ _ (by decide +kernel) (by decide) hs6
    replace hs11 := hk _ _ (by decide +kernel) (by decide) hs11
    replace hs16 := hk _ _ (by decide +kernel) (by decide) hs16
    replace hF := fun b (hb : b ≠ this) => Eq.trans (ho b hb) (hF b hb)
    replace hs := hs
    have hs22 := hs
    refine lv_aload_n hx hb so_d25 rfl (lv_at hl 0 rfl) ?_
    refine lv_iload hx hb so_d26 (lv_at hl 5 rfl) ?_
    refine y_putf X (fw35 X.2.2.2.2.1 hnm) hY0 hI hY_this rfl rfl ⟨_, rfl, x_i32 _⟩ (by decide +kernel) so_d28 fun H sl hI ho hs hk => ?_
    replace hs6 := hk _ _ (by decide +kernel) (by decide) hs6
    replace hs11 := hk _ _ (by decide +kernel) (by decide) hs11
    replace hs16 := hk _ _ (by decide +kernel) (by decide) hs16
    replace hs22 := hk _ _ (by decide +kernel) (by decide) hs22
    replace hF := fun b (hb : b ≠ this) => Eq.trans (ho b hb) (hF b hb)
    replace hs := hs
    have hs28 := hs
    exact y_return B hI rfl rfl List.mem_cons_self rfl (x_cs.mono B.2.2.2.2.2 (y_mon B hI)) (fun t' k' x' y' h' g' h1 => by cases h1; exact ⟨fun z hz hzY => by rw [z_Kcl hYt (show (13, 4) ∈ z_Kd by decide) z hz hzY]; exact ⟨hs6, hs11, hs16, hs22, hs28⟩, hF⟩) (Nat.le_refl _) (Nat.le_refl _) so_d31
  · refine lv_aload_n hx hb so_d0 rfl (lv_at hl 0 rfl) ?_
    refine y_oi X (hts _ (x_bw2 13 rfl rfl)) (hts _ (x_bw1 12 rfl rfl)) (hts _ (x_bw1 13 rfl rfl)) (Nat.le_of_ble_eq_true rfl) (Nat.le_of_ble_eq_true rfl) hl.1 (Nat.le_of_ble_eq_true rfl) so_d1 ?_
    refine lv_aload_n hx hb so_d4 rfl (lv_at hl 0 rfl) ?_
    refine lv_iload_n hx hb so_d5 rfl (lv_at hl 1 rfl) ?_
    refine y_putf X (fw12 X.2.2.2.2.1 hnm) hY0 hI hY_this rfl rfl ⟨_, rfl, x_i32 _⟩ (by decide +kernel) so_d6 fun H sl hI ho hs hk => ?_
    replace hF := fun b (hb : b ≠ this) => Eq.trans (ho b hb) (hF b hb)
    replace hs := hs
    have hs6 := hs
    refine lv_aload_n hx hb so_d9 rfl (lv_at hl 0 rfl) ?_
    refine lv_iload_n hx hb so_d10 rfl (lv_at hl 2 rfl) ?_
    refine y_putf X (fw18 X.2.2.2.2.1 hnm) hY0 hI hY_this rfl rfl ⟨_, rfl, x_i32 _⟩ (by decide +kernel) so_d11 fun H sl hI ho hs hk => ?_
    replace hs6 := hk _ _ (by decide +kernel) (by decide) hs6
    replace hF := fun b (hb : b ≠ this) => Eq.trans (ho b hb) (hF b hb)
    replace hs := hs
    have hs11 := hs
    refine lv_aload_n hx hb so_d14 rfl (lv_at hl 0 rfl) ?_
    refine lv_iload_n hx hb so_d15 rfl (lv_at hl 3 rfl) ?_
    refine y_putf X (fw24 X.2.2.2.2.1 hnm) hY0 hI hY_this rfl rfl ⟨_, rfl, x_i32 _⟩ (by decide +kernel) so_d16 fun H sl hI ho hs hk => ?_
    replace hs6 := hk _ _ (by decide +kernel) (by decide) hs6
    replace hs11 := hk _ _ (by decide +kernel) (by decide) hs11
    replace hF := fun b (hb : b ≠ this) => Eq.trans (ho b hb) (hF b hb)
    replace hs := hs
    have hs16 := hs
    refine lv_aload_n hx hb so_d19 rfl (lv_at hl 0 rfl) ?_
    refine lv_iload hx hb so_d20 (lv_at hl 4 rfl) ?_
    refine y_putf X (fw30 X.2.2.2.2.1 hnm) hY0 hI hY_this rfl rfl ⟨_, rfl, x_i32 _⟩ (by decide +kernel) so_d22 fun H sl hI ho hs hk => ?_
    replace hs6 := hk _ _ (by decide +kernel) (by decide) hs6
    replace hs11 := hk _ _ (by decide +kernel) (by decide) hs11
    replace hs16 := hk _ _ (by decide +kernel) (by decide) hs16
    replace hF := fun b (hb : b ≠ this) => Eq.trans (ho b hb) (hF b hb)
    replace hs := hs
    have hs22 := hs
    refine lv_aload_n hx hb so_d25 rfl (lv_at hl 0 rfl) ?_
    refine lv_iload hx hb so_d26 (lv_at hl 5 rfl) ?_
    refine y_putf X (fw36 X.2.2.2.2.1 hnm) hY0 hI hY_this rfl rfl ⟨_, rfl, x_i32 _⟩ (by decide +kernel) so_d28 fun H sl hI ho hs hk => ?_
    replace hs6 := hk _ _ (by decide +kernel) (by decide) hs6
    replace hs11 := hk _ _ (by decide +kernel) (by decide) hs11
    replace hs16 := hk _ _ (by decide +kernel) (by decide) hs16
    replace hs22 := hk _ _ (by decide +kernel) (by decide) hs22
    replace hF := fun b (hb : b ≠ this) => Eq.trans (ho b hb) (hF b hb)
    replace hs := hs
    have hs28 := hs
    exact y_return B hI rfl rfl List.mem_cons_self rfl (x_cs.mono B.2.2.2.2.2 (y_mon B hI)) (fun t' k' x' y' h' g' h1 => by cases h1; exact ⟨fun z hz hzY => by rw [z_Kcl hYt (show (14, 1) ∈ z_Kd by decide) z hz hzY]; exact ⟨hs6, hs11, hs16, hs22, hs28⟩, hF⟩) (Nat.le_refl _) (Nat.le_refl _) so_d31
  · refine lv_aload_n hx hb so_d0 rfl (lv_at hl 0 rfl) ?_
    refine y_oi X (hts _ (x_bw2 13 rfl rfl)) (hts _ (x_bw1 12 rfl rfl)) (hts _ (x_bw1 13 rfl rfl)) (Nat.le_of_ble_eq_true rfl) (Nat.le_of_ble_eq_true rfl) hl.1 (Nat.le_of_ble_eq_true rfl) so_d1 ?_
    refine lv_aload_n hx hb so_d4 rfl (lv_at hl 0 rfl) ?_
    refine lv_iload_n hx hb so_d5 rfl (lv_at hl 1 rfl) ?_
    refine y_putf X (fw13 X.2.2.2.2.1 hnm) hY0 hI hY_this rfl rfl ⟨_, rfl, x_i32 _⟩ (by decide +kernel) so_d6 fun H sl hI ho hs hk => ?_
    replace hF := fun b (hb : b ≠ this) => Eq.trans (ho b hb) (hF b hb)
    replace hs := hs
    have hs6 := hs
    refine lv_aload_n hx hb so_d9 rfl (lv_at hl 0 rfl) ?_
    refine lv_iload_n hx hb so_d10 rfl (lv_at hl 2 rfl) ?_
    refine y_putf X (fw19 X.2.2.2.2.1 hnm) hY0 hI hY_this rfl rfl ⟨_, rfl, x_i32 _⟩ (by decide +kernel) so_d11 fun H sl hI ho hs hk => ?_
    replace hs6 := hk _ _ (by decide +kernel) (by decide) hs6
    replace hF := fun b (hb : b ≠ this) => Eq.trans (ho b hb) (hF b hb)
    replace hs := hs
    have hs11 := hs
    refine lv_aload_n hx hb so_d14 rfl (lv_at hl 0 rfl) ?_
    refine lv_iload_n hx hb so_d15 rfl (lv_at hl 3 rfl) ?_
    refine y_putf X (fw25 X.2.2.2.2.1 hnm) hY0 hI hY_this rfl rfl ⟨_, rfl, x_i32 _⟩ (by decide +kernel) so_d16 fun H sl hI ho hs hk => ?_
    replace hs6 := hk _ _ (by decide +kernel) (by decide) hs6
    replace hs11 := hk _ _ (by decide +kernel) (by decide) hs11
    replace hF := fun b (hb : b ≠ this) => Eq.trans (ho b hb) (hF b hb)
    replace hs := hs
    have hs16 := hs
    refine lv_aload_n hx hb so_d19 rfl (lv_at hl 0 rfl) ?_
    refine lv_iload hx hb so_d20 (lv_at hl 4 rfl) ?_
    refine y_putf X (fw31 X.2.2.2.2.1 hnm) hY0 hI hY_this rfl rfl ⟨_, rfl, x_i32 _⟩ (by decide +kernel) so_d22 fun H sl hI ho hs hk => ?_
    replace hs6 := hk _ _ (by decide +kernel) (by decide) hs6
    replace hs11 := hk _ _ (by decide +kernel) (by decide) hs11
    replace hs16 := hk _ _ (by decide +kernel) (by decide) hs16
    replace hF := fun b (hb : b ≠ this) => Eq.trans (ho b hb) (hF b hb)
    replace hs := hs
    have hs22 := hs
    refine lv_aload_n hx hb so_d25 rfl (lv_at hl 0 rfl) ?_
    refine lv_iload hx hb so_d26 (lv_at hl 5 rfl) ?_
    refine y_putf X (fw37 X.2.2.2.2.1 hnm) hY0 hI hY_this rfl rfl ⟨_, rfl, x_i32 _⟩ (by decide +kernel) so_d28 fun H sl hI ho hs hk => ?_
    replace hs6 := hk _ _ (by decide +kernel) (by decide) hs6
    replace hs11 := hk _ _ (by decide +kernel) (by decide) hs11
    replace hs16 := hk _ _ (by decide +kernel) (by decide) hs16
    replace hs22 := hk _ _ (by decide +kernel) (by decide) hs22
    replace hF := fun b (hb : b ≠ this) => Eq.trans (ho b hb) (hF b hb)
    replace hs := hs
    have hs28 := hs
    exact y_return B hI rfl rfl List.mem_cons_self rfl (x_cs.mono B.2.2.2.2.2 (y_mon B hI)) (fun t' k' x' y' h' g' h1 => by cases h1; exact ⟨fun z hz hzY => by rw [z_Kcl hYt (show (15, 8) ∈ z_Kd by decide) z hz hzY]; exact ⟨hs6, hs11, hs16, hs22, hs28⟩, hF⟩) (Nat.le_refl _) (Nat.le_refl _) so_d31
  · refine lv_aload_n hx hb so_d0 rfl (lv_at hl 0 rfl) ?_
    refine y_oi X (hts _ (x_bw2 13 rfl rfl)) (hts _ (x_bw1 12 rfl rfl)) (hts _ (x_bw1 13 rfl rfl)) (Nat.le_of_ble_eq_true rfl) (Nat.le_of_ble_eq_true rfl) hl.1 (Nat.le_of_ble_eq_true rfl) so_d1 ?_
    refine lv_aload_n hx hb so_d4 rfl (lv_at hl 0 rfl) ?_
    refine lv_iload_n hx hb so_d5 rfl (lv_at hl 1 rfl) ?_
    refine y_putf X (fw14 X.2.2.2.2.1 hnm) hY0 hI hY_this rfl rfl ⟨_, rfl, x_i32 _⟩ (by decide +kernel) so_d6 fun H sl hI ho hs hk => ?_
    replace hF := fun b (hb : b ≠ this) => Eq.trans (ho b hb) (hF b hb)
    replace hs := hs
    have hs6 := hs
    refine lv_aload_n hx hb so_d9 rfl (lv_at hl 0 rfl) ?_
    refine lv_iload_n hx hb so_d10 rfl (lv_at hl 2 rfl) ?_
    refine y_putf X (fw20 X.2.2.2.2.1 hnm) hY0 hI hY_this rfl rfl ⟨_, rfl, x_i32 _⟩ (by decide +kernel) so_d11 fun H sl hI ho hs hk => ?_
    replace hs6 := hk _ _ (by decide +kernel) (by decide) hs6
    replace hF := fun b (hb : b ≠ this) => Eq.trans (ho b hb) (hF b hb)
    replace hs := hs
    have hs11 := hs
    refine lv_aload_n hx hb so_d14 rfl (lv_at hl 0 rfl) ?_
    refine lv_iload_n hx hb so_d15 rfl (lv_at hl 3 rfl) ?_
    refine y_putf X (fw26 X.2.2.2.2.1 hnm) hY0 hI hY_this rfl rfl ⟨_, rfl, x_i32 _⟩ (by decide +kernel) so_d16 fun H sl hI ho hs hk => ?_
    replace hs6 := hk _ _ (by decide +kernel) (by decide) hs6
    replace hs11 := hk _ _ (by decide +kernel) (by decide) hs11
    replace hF := fun b (hb : b ≠ this) => Eq.trans (ho b hb) (hF b hb)
    replace hs := hs
    have hs16 := hs
    refine lv_aload_n hx hb so_d19 rfl (lv_at hl 0 rfl) ?_
    refine lv_iload hx hb so_d20 (lv_at hl 4 rfl) ?_
    refine y_putf X (fw32 X.2.2.2.2.1 hnm) hY0 hI hY_this rfl rfl ⟨_, rfl, x_i32 _⟩ (by decide +kernel) so_d22 fun H sl hI ho hs hk => ?_
    replace hs6 := hk _ _ (by decide +kernel) (by decide) hs6
    replace hs11 := hk _ _ (by decide +kernel) (by decide) hs11
    replace hs16 := hk _ _ (by decide +kernel) (by decide) hs16
    replace hF := fun b (hb : b ≠ this) => Eq.trans (ho b hb) (hF b hb)
    replace hs := hs
    have hs22 := hs
    refine lv_aload_n hx hb so_d25 rfl (lv_at hl 0 rfl) ?_
    refine lv_iload hx hb so_d26 (lv_at hl 5 rfl) ?_
    refine y_putf X (fw38 X.2.2.2.2.1 hnm) hY0 hI hY_this rfl rfl ⟨_, rfl, x_i32 _⟩ (by decide +kernel) so_d28 fun H sl hI ho hs hk => ?_
    replace hs6 := hk _ _ (by decide +kernel) (by decide) hs6
    replace hs11 := hk _ _ (by decide +kernel) (by decide) hs11
    replace hs16 := hk _ _ (by decide +kernel) (by decide) hs16
    replace hs22 := hk _ _ (by decide +kernel) (by decide) hs22
    replace hF := fun b (hb : b ≠ this) => Eq.trans (ho b hb) (hF b hb)
    replace hs := hs
    have hs28 := hs
    exact y_return B hI rfl rfl List.mem_cons_self rfl (x_cs.mono B.2.2.2.2.2 (y_mon B hI)) (fun t' k' x' y' h' g' h1 => by cases h1; exact ⟨fun z hz hzY => by rw [z_Kcl hYt (show (16, 9) ∈ z_Kd by decide) z hz hzY]; exact ⟨hs6, hs11, hs16, hs22, hs28⟩, hF⟩) (Nat.le_refl _) (Nat.le_refl _) so_d31
theorem wo_d0 : decode xM14.2.1 0 = .ok (.aload_n 0, 1) := dz_ok (by decide +kernel)
theorem wo_d1 : decode xM14.2.1 1 = .ok (.iload_n 1, 1) := dz_ok (by decide +kernel)
theorem wo_d2 : decode xM14.2.1 2 = .ok (.iload_n 2, 1) := dz_ok (by decide +kernel)
theorem wo_d3 : decode xM14.2.1 3 = .ok (.iload_n 3, 1) := dz_ok (by decide +kernel)
theorem wo_d4 : decode xM14.2.1 4 = .ok (.iload 4, 2) := dz_ok (by decide +kernel)
theorem wo_d6 : decode xM14.2.1 6 = .ok (.iload 5, 2) := dz_ok (by decide +kernel)
theorem wo_d8 : decode xM14.2.1 8 = .ok (.invokespecial 3, 3) := dz_ok (by decide +kernel)
theorem wo_d11 : decode xM14.2.1 11 = .ok (.return_, 1) := dz_ok (by decide +kernel)
theorem ym_wood : y_Met vwCl x_G x_Zs x_Tb x_Nb xM14 y_T z_Pso := by
  refine y_main (by decide +kernel) (by decide +kernel) x_Tb_good x_Nb_ok ?_
  intro p l e s m below meth c D U Y0 av ls B hI _ hl
  have X := B.1
  have hx := X.1
  have hb := X.2.1
  have hY0 := B.2.2.2.2.1
  have hts := X.2.2.2.2.1
  have hnm := B.2.2.2.1
  obtain ⟨v0, v1, v2, v3, v4, v5, rfl, hv0, ⟨k, rfl, -⟩, ⟨x, rfl, -⟩, ⟨y, rfl, -⟩, ⟨h, rfl, -⟩, ⟨g, rfl, -⟩⟩ := y_six9 B.2.2.2.2.2
  obtain ⟨this, t0, rfl, ht0, hY_this⟩ := x_ref_at hv0 rfl
  replace hl : lv_has ls xM14.2.2.1 [(0, .ref this), (1, .int k), (2, .int x), (3, .int y), (4, .int h), (5, .int g)] := hl
  have hYt := hY_this
  have hF : ∀ b, b ≠ this → s.heap[b]? = s.heap[b]? := fun _ _ => rfl
  refine lv_aload_n hx hb wo_d0 rfl (lv_at hl 0 rfl) ?_
  refine lv_iload_n hx hb wo_d1 rfl (lv_at hl 1 rfl) ?_
  refine lv_iload_n hx hb wo_d2 rfl (lv_at hl 2 rfl) ?_
  refine lv_iload_n hx hb wo_d3 rfl (lv_at hl 3 rfl) ?_
  refine lv_iload hx hb wo_d4 (lv_at hl 4 rfl) ?_
  refine lv_iload hx hb wo_d6 (lv_at hl 5 rfl) ?_
  refine y_call (z := (2, 3, 6, none, xM13)) (av := [.ref this, .int k, .int x, .int y, .int h, .int g]) (rest := []) (y_cokI (n := 5) X ym_stone rfl (x_cons (x_bw20 13 rfl rfl) (x_cons (x_bw2 11 rfl rfl) (x_cons (x_bw0 4 rfl rfl) x_nilm))) (x_bw2 12 rfl rfl) rfl (fun Y av h => x_this h) (by decide +kernel) ⟨Nat.le_of_ble_eq_true rfl, Nat.le_of_ble_eq_true rfl⟩) hY0 hI rfl wo_d8 hl.1 (Nat.le_of_ble_eq_true rfl) (Nat.le_of_ble_eq_true rfl) (Nat.le_of_ble_eq_true rfl) (y_cons (x_le_ok (t := xR false [12, 13, 14, 15]) (by decide) hv0) (y_cons ⟨_, rfl, x_i32 _⟩ (y_cons ⟨_, rfl, x_i32 _⟩ (y_cons ⟨_, rfl, x_i32 _⟩ (y_cons ⟨_, rfl, x_i32 _⟩ (y_cons ⟨_, rfl, x_i32 _⟩ y_nil)))))) rfl (y_norecv rfl) trivial (y_sub_ef rfl) fun v_ Yn o_ Hn L_ ho hr ha hIn hx_ hE hP => ?_
  obtain rfl := y_ansV rfl ho hr
  exact y_return B hIn rfl rfl List.mem_cons_self rfl (x_cs.mono B.2.2.2.2.2 (y_mon B hIn)) (fun t' k' x' y' h' g' h1 => by cases h1; exact hP _ _ _ _ _ _ rfl) (Nat.le_refl _) (Nat.le_refl _) wo_d11
theorem pi_d0 : decode xM15.2.1 0 = .ok (.aload_n 0, 1) := dz_ok (by decide +kernel)
theorem pi_d1 : decode xM15.2.1 1 = .ok (.iload_n 1, 1) := dz_ok (by decide +kernel)
theorem pi_d2 : decode xM15.2.1 2 = .ok (.iload_n 2, 1) := dz_ok (by decide +kernel)
theorem pi_d3 : decode xM15.2.1 3 = .ok (.iload_n 3, 1) := dz_ok (by decide +kernel)
theorem pi_d4 : decode xM15.2.1 4 = .ok (.iload 4, 2) := dz_ok (by decide +kernel)
theorem pi_d6 : decode xM15.2.1 6 = .ok (.iload 5, 2) := dz_ok (by decide +kernel)
theorem pi_d8 : decode xM15.2.1 8 = .ok (.invokespecial 1, 3) := dz_ok (by decide +kernel)
theorem pi_d11 : decode xM15.2.1 11 = .ok (.return_, 1) := dz_ok (by decide +kernel)
theorem ym_pine : y_Met vwCl x_G x_Zs x_Tb x_Nb xM15 y_T z_Pso := by
  refine y_main (by decide +kernel) (by decide +kernel) x_Tb_good x_Nb_ok ?_
  intro p l e s m below meth c D U Y0 av ls B hI _ hl
  have X := B.1
  have hx := X.1
  have hb := X.2.1
  have hY0 := B.2.2.2.2.1
  have hts := X.2.2.2.2.1
  have hnm := B.2.2.2.1
  obtain ⟨v0, v1, v2, v3, v4, v5, rfl, hv0, ⟨k, rfl, -⟩, ⟨x, rfl, -⟩, ⟨y, rfl, -⟩, ⟨h, rfl, -⟩, ⟨g, rfl, -⟩⟩ := y_six9 B.2.2.2.2.2
  obtain ⟨this, t0, rfl, ht0, hY_this⟩ := x_ref_at hv0 rfl
  replace hl : lv_has ls xM15.2.2.1 [(0, .ref this), (1, .int k), (2, .int x), (3, .int y), (4, .int h), (5, .int g)] := hl
  have hYt := hY_this
  have hF : ∀ b, b ≠ this → s.heap[b]? = s.heap[b]? := fun _ _ => rfl
  refine lv_aload_n hx hb pi_d0 rfl (lv_at hl 0 rfl) ?_
  refine lv_iload_n hx hb pi_d1 rfl (lv_at hl 1 rfl) ?_
  refine lv_iload_n hx hb pi_d2 rfl (lv_at hl 2 rfl) ?_
  refine lv_iload_n hx hb pi_d3 rfl (lv_at hl 3 rfl) ?_
  refine lv_iload hx hb pi_d4 (lv_at hl 4 rfl) ?_
  refine lv_iload hx hb pi_d6 (lv_at hl 5 rfl) ?_
  refine y_call (z := (2, 1, 6, none, xM14)) (av := [.ref this, .int k, .int x, .int y, .int h, .int g]) (rest := []) (y_cokI (n := 5) X ym_wood rfl (x_cons (x_bw21 9 rfl rfl) (x_cons (x_bw20 11 rfl rfl) (x_cons (x_bw0 10 rfl rfl) x_nilm))) (x_bw20 12 rfl rfl) rfl (fun Y av h => x_this h) (by decide +kernel) ⟨Nat.le_of_ble_eq_true rfl, Nat.le_of_ble_eq_true rfl⟩) hY0 hI rfl pi_d8 hl.1 (Nat.le_of_ble_eq_true rfl) (Nat.le_of_ble_eq_true rfl) (Nat.le_of_ble_eq_true rfl) (y_cons (x_le_ok (t := xR false [13, 15]) (by decide) hv0) (y_cons ⟨_, rfl, x_i32 _⟩ (y_cons ⟨_, rfl, x_i32 _⟩ (y_cons ⟨_, rfl, x_i32 _⟩ (y_cons ⟨_, rfl, x_i32 _⟩ (y_cons ⟨_, rfl, x_i32 _⟩ y_nil)))))) rfl (y_norecv rfl) trivial (y_sub_ef rfl) fun v_ Yn o_ Hn L_ ho hr ha hIn hx_ hE hP => ?_
  obtain rfl := y_ansV rfl ho hr
  exact y_return B hIn rfl rfl List.mem_cons_self rfl (x_cs.mono B.2.2.2.2.2 (y_mon B hIn)) (fun t' k' x' y' h' g' h1 => by cases h1; exact hP _ _ _ _ _ _ rfl) (Nat.le_refl _) (Nat.le_refl _) pi_d11
theorem hg_d0 : decode xM16.2.1 0 = .ok (.aload_n 0, 1) := dz_ok (by decide +kernel)
theorem hg_d1 : decode xM16.2.1 1 = .ok (.iload_n 1, 1) := dz_ok (by decide +kernel)
theorem hg_d2 : decode xM16.2.1 2 = .ok (.iload_n 2, 1) := dz_ok (by decide +kernel)
theorem hg_d3 : decode xM16.2.1 3 = .ok (.iload_n 3, 1) := dz_ok (by decide +kernel)
theorem hg_d4 : decode xM16.2.1 4 = .ok (.iload 4, 2) := dz_ok (by decide +kernel)
theorem hg_d6 : decode xM16.2.1 6 = .ok (.iload 5, 2) := dz_ok (by decide +kernel)
theorem hg_d8 : decode xM16.2.1 8 = .ok (.invokespecial 1, 3) := dz_ok (by decide +kernel)
theorem hg_d11 : decode xM16.2.1 11 = .ok (.return_, 1) := dz_ok (by decide +kernel)
theorem ym_hedge : y_Met vwCl x_G x_Zs x_Tb x_Nb xM16 y_T z_Pso := by
  refine y_main (by decide +kernel) (by decide +kernel) x_Tb_good x_Nb_ok ?_
  intro p l e s m below meth c D U Y0 av ls B hI _ hl
  have X := B.1
  have hx := X.1
  have hb := X.2.1
  have hY0 := B.2.2.2.2.1
  have hts := X.2.2.2.2.1
  have hnm := B.2.2.2.1
  obtain ⟨v0, v1, v2, v3, v4, v5, rfl, hv0, ⟨k, rfl, -⟩, ⟨x, rfl, -⟩, ⟨y, rfl, -⟩, ⟨h, rfl, -⟩, ⟨g, rfl, -⟩⟩ := y_six9 B.2.2.2.2.2
  obtain ⟨this, t0, rfl, ht0, hY_this⟩ := x_ref_at hv0 rfl
  replace hl : lv_has ls xM16.2.2.1 [(0, .ref this), (1, .int k), (2, .int x), (3, .int y), (4, .int h), (5, .int g)] := hl
  have hYt := hY_this
  have hF : ∀ b, b ≠ this → s.heap[b]? = s.heap[b]? := fun _ _ => rfl
  refine lv_aload_n hx hb hg_d0 rfl (lv_at hl 0 rfl) ?_
  refine lv_iload_n hx hb hg_d1 rfl (lv_at hl 1 rfl) ?_
  refine lv_iload_n hx hb hg_d2 rfl (lv_at hl 2 rfl) ?_
  refine lv_iload_n hx hb hg_d3 rfl (lv_at hl 3 rfl) ?_
  refine lv_iload hx hb hg_d4 (lv_at hl 4 rfl) ?_
  refine lv_iload hx hb hg_d6 (lv_at hl 5 rfl) ?_
  refine y_call (z := (2, 1, 6, none, xM14)) (av := [.ref this, .int k, .int x, .int y, .int h, .int g]) (rest := []) (y_cokI (n := 5) X ym_wood rfl (x_cons (x_bw22 5 rfl rfl) (x_cons (x_bw20 11 rfl rfl) (x_cons (x_bw0 10 rfl rfl) x_nilm))) (x_bw20 12 rfl rfl) rfl (fun Y av h => x_this h) (by decide +kernel) ⟨Nat.le_of_ble_eq_true rfl, Nat.le_of_ble_eq_true rfl⟩) hY0 hI rfl hg_d8 hl.1 (Nat.le_of_ble_eq_true rfl) (Nat.le_of_ble_eq_true rfl) (Nat.le_of_ble_eq_true rfl) (y_cons (x_le_ok (t := xR false [14]) (by decide) hv0) (y_cons ⟨_, rfl, x_i32 _⟩ (y_cons ⟨_, rfl, x_i32 _⟩ (y_cons ⟨_, rfl, x_i32 _⟩ (y_cons ⟨_, rfl, x_i32 _⟩ (y_cons ⟨_, rfl, x_i32 _⟩ y_nil)))))) rfl (y_norecv rfl) trivial (y_sub_ef rfl) fun v_ Yn o_ Hn L_ ho hr ha hIn hx_ hE hP => ?_
  obtain rfl := y_ansV rfl ho hr
  exact y_return B hIn rfl rfl List.mem_cons_self rfl (x_cs.mono B.2.2.2.2.2 (y_mon B hIn)) (fun t' k' x' y' h' g' h1 => by cases h1; exact hP _ _ _ _ _ _ rfl) (Nat.le_refl _) (Nat.le_refl _) hg_d11
theorem tp_d0 : decode xM17.2.1 0 = .ok (.aload_n 0, 1) := dz_ok (by decide +kernel)
theorem tp_d1 : decode xM17.2.1 1 = .ok (.iload_n 1, 1) := dz_ok (by decide +kernel)
theorem tp_d2 : decode xM17.2.1 2 = .ok (.iload_n 2, 1) := dz_ok (by decide +kernel)
theorem tp_d3 : decode xM17.2.1 3 = .ok (.iload_n 3, 1) := dz_ok (by decide +kernel)
theorem tp_d4 : decode xM17.2.1 4 = .ok (.iload 4, 2) := dz_ok (by decide +kernel)
theorem tp_d6 : decode xM17.2.1 6 = .ok (.iload 5, 2) := dz_ok (by decide +kernel)
theorem tp_d8 : decode xM17.2.1 8 = .ok (.invokespecial 1, 3) := dz_ok (by decide +kernel)
theorem tp_d11 : decode xM17.2.1 11 = .ok (.return_, 1) := dz_ok (by decide +kernel)
theorem ym_topped : y_Met vwCl x_G x_Zs x_Tb x_Nb xM17 y_T z_Pso := by
  refine y_main (by decide +kernel) (by decide +kernel) x_Tb_good x_Nb_ok ?_
  intro p l e s m below meth c D U Y0 av ls B hI _ hl
  have X := B.1
  have hx := X.1
  have hb := X.2.1
  have hY0 := B.2.2.2.2.1
  have hts := X.2.2.2.2.1
  have hnm := B.2.2.2.1
  obtain ⟨v0, v1, v2, v3, v4, v5, rfl, hv0, ⟨k, rfl, -⟩, ⟨x, rfl, -⟩, ⟨y, rfl, -⟩, ⟨h, rfl, -⟩, ⟨g, rfl, -⟩⟩ := y_six9 B.2.2.2.2.2
  obtain ⟨this, t0, rfl, ht0, hY_this⟩ := x_ref_at hv0 rfl
  replace hl : lv_has ls xM17.2.2.1 [(0, .ref this), (1, .int k), (2, .int x), (3, .int y), (4, .int h), (5, .int g)] := hl
  have hYt := hY_this
  have hF : ∀ b, b ≠ this → s.heap[b]? = s.heap[b]? := fun _ _ => rfl
  refine lv_aload_n hx hb tp_d0 rfl (lv_at hl 0 rfl) ?_
  refine lv_iload_n hx hb tp_d1 rfl (lv_at hl 1 rfl) ?_
  refine lv_iload_n hx hb tp_d2 rfl (lv_at hl 2 rfl) ?_
  refine lv_iload_n hx hb tp_d3 rfl (lv_at hl 3 rfl) ?_
  refine lv_iload hx hb tp_d4 (lv_at hl 4 rfl) ?_
  refine lv_iload hx hb tp_d6 (lv_at hl 5 rfl) ?_
  refine y_call (z := (2, 1, 6, none, xM15)) (av := [.ref this, .int k, .int x, .int y, .int h, .int g]) (rest := []) (y_cokI (n := 5) X ym_pine rfl (x_cons (x_bw23 1 rfl rfl) (x_cons (x_bw21 7 rfl rfl) (x_cons (x_bw0 11 rfl rfl) x_nilm))) (x_bw21 8 rfl rfl) rfl (fun Y av h => x_this h) (by decide +kernel) ⟨Nat.le_of_ble_eq_true rfl, Nat.le_of_ble_eq_true rfl⟩) hY0 hI rfl tp_d8 hl.1 (Nat.le_of_ble_eq_true rfl) (Nat.le_of_ble_eq_true rfl) (Nat.le_of_ble_eq_true rfl) (y_cons (x_le_ok (t := xR false [15]) (by decide) hv0) (y_cons ⟨_, rfl, x_i32 _⟩ (y_cons ⟨_, rfl, x_i32 _⟩ (y_cons ⟨_, rfl, x_i32 _⟩ (y_cons ⟨_, rfl, x_i32 _⟩ (y_cons ⟨_, rfl, x_i32 _⟩ y_nil)))))) rfl (y_norecv rfl) trivial (y_sub_ef rfl) fun v_ Yn o_ Hn L_ ho hr ha hIn hx_ hE hP => ?_
  obtain rfl := y_ansV rfl ho hr
  exact y_return B hIn rfl rfl List.mem_cons_self rfl (x_cs.mono B.2.2.2.2.2 (y_mon B hIn)) (fun t' k' x' y' h' g' h1 => by cases h1; exact hP _ _ _ _ _ _ rfl) (Nat.le_refl _) (Nat.le_refl _) tp_d11
theorem wa_d0 : decode xM18.2.1 0 = .ok (.aload_n 0, 1) := dz_ok (by decide +kernel)
theorem wa_d1 : decode xM18.2.1 1 = .ok (.iload_n 1, 1) := dz_ok (by decide +kernel)
theorem wa_d2 : decode xM18.2.1 2 = .ok (.iload_n 2, 1) := dz_ok (by decide +kernel)
theorem wa_d3 : decode xM18.2.1 3 = .ok (.iload_n 3, 1) := dz_ok (by decide +kernel)
theorem wa_d4 : decode xM18.2.1 4 = .ok (.iload 4, 2) := dz_ok (by decide +kernel)
theorem wa_d6 : decode xM18.2.1 6 = .ok (.iload 5, 2) := dz_ok (by decide +kernel)
theorem wa_d8 : decode xM18.2.1 8 = .ok (.invokespecial 1, 3) := dz_ok (by decide +kernel)
theorem wa_d11 : decode xM18.2.1 11 = .ok (.return_, 1) := dz_ok (by decide +kernel)
theorem ym_wall : y_Met vwCl x_G x_Zs x_Tb x_Nb xM18 y_T z_Pso := by
  refine y_main (by decide +kernel) (by decide +kernel) x_Tb_good x_Nb_ok ?_
  intro p l e s m below meth c D U Y0 av ls B hI _ hl
  have X := B.1
  have hx := X.1
  have hb := X.2.1
  have hY0 := B.2.2.2.2.1
  have hts := X.2.2.2.2.1
  have hnm := B.2.2.2.1
  obtain ⟨v0, v1, v2, v3, v4, v5, rfl, hv0, ⟨k, rfl, -⟩, ⟨x, rfl, -⟩, ⟨y, rfl, -⟩, ⟨h, rfl, -⟩, ⟨g, rfl, -⟩⟩ := y_six9 B.2.2.2.2.2
  obtain ⟨this, t0, rfl, ht0, hY_this⟩ := x_ref_at hv0 rfl
  replace hl : lv_has ls xM18.2.2.1 [(0, .ref this), (1, .int k), (2, .int x), (3, .int y), (4, .int h), (5, .int g)] := hl
  have hYt := hY_this
  have hF : ∀ b, b ≠ this → s.heap[b]? = s.heap[b]? := fun _ _ => rfl
  refine lv_aload_n hx hb wa_d0 rfl (lv_at hl 0 rfl) ?_
  refine lv_iload_n hx hb wa_d1 rfl (lv_at hl 1 rfl) ?_
  refine lv_iload_n hx hb wa_d2 rfl (lv_at hl 2 rfl) ?_
  refine lv_iload_n hx hb wa_d3 rfl (lv_at hl 3 rfl) ?_
  refine lv_iload hx hb wa_d4 (lv_at hl 4 rfl) ?_
  refine lv_iload hx hb wa_d6 (lv_at hl 5 rfl) ?_
  refine y_call (z := (2, 1, 6, none, xM13)) (av := [.ref this, .int k, .int x, .int y, .int h, .int g]) (rest := []) (y_cokI (n := 5) X ym_stone rfl (x_cons (x_bw23 13 rfl rfl) (x_cons (x_bw2 11 rfl rfl) (x_cons (x_bw0 4 rfl rfl) x_nilm))) (x_bw2 12 rfl rfl) rfl (fun Y av h => x_this h) (by decide +kernel) ⟨Nat.le_of_ble_eq_true rfl, Nat.le_of_ble_eq_true rfl⟩) hY0 hI rfl wa_d8 hl.1 (Nat.le_of_ble_eq_true rfl) (Nat.le_of_ble_eq_true rfl) (Nat.le_of_ble_eq_true rfl) (y_cons (x_le_ok (t := xR false [16]) (by decide) hv0) (y_cons ⟨_, rfl, x_i32 _⟩ (y_cons ⟨_, rfl, x_i32 _⟩ (y_cons ⟨_, rfl, x_i32 _⟩ (y_cons ⟨_, rfl, x_i32 _⟩ (y_cons ⟨_, rfl, x_i32 _⟩ y_nil)))))) rfl (y_norecv rfl) trivial (y_sub_ef rfl) fun v_ Yn o_ Hn L_ ho hr ha hIn hx_ hE hP => ?_
  obtain rfl := y_ansV rfl ho hr
  exact y_return B hIn rfl rfl List.mem_cons_self rfl (x_cs.mono B.2.2.2.2.2 (y_mon B hIn)) (fun t' k' x' y' h' g' h1 => by cases h1; exact hP _ _ _ _ _ _ rfl) (Nat.le_refl _) (Nat.le_refl _) wa_d11

