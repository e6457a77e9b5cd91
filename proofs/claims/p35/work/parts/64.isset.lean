theorem y_cmp (x y : Int64) : ((lg_cmp x y).toInt = -1 ∧ x.toInt < y.toInt) ∨ ((lg_cmp x y).toInt = 0 ∧ x.toInt = y.toInt) ∨ ((lg_cmp x y).toInt = 1 ∧ y.toInt < x.toInt) := by
  unfold lg_cmp
  have h1 : (x > y) ↔ y.toInt < x.toInt := Int64.lt_iff_toInt_lt
  have h2 : (x = y) ↔ x.toInt = y.toInt := Int64.toInt_inj.symm
  by_cases q1 : x > y
  · rw [if_pos q1]; exact Or.inr (Or.inr ⟨by decide, h1.mp q1⟩)
  · rw [if_neg q1]
    by_cases q2 : x = y
    · rw [if_pos q2]; exact Or.inr (Or.inl ⟨by decide, h2.mp q2⟩)
    · rw [if_neg q2]
      refine Or.inl ⟨by decide, ?_⟩
      have q3 : ¬ y.toInt < x.toInt := fun q => q1 (h1.mpr q)
      have q4 : ¬ x.toInt = y.toInt := fun q => q2 (h2.mpr q)
      omega
def z_Pin : yP := fun _ av _ _ v _ _ => ∀ x lo hi : Int64, av = [.long x, .long lo, .long hi] → (v = some (.int 1) ∧ lo.toInt ≤ x.toInt ∧ x.toInt ≤ hi.toInt) ∨ (v = some (.int 0) ∧ (x.toInt < lo.toInt ∨ hi.toInt < x.toInt))
theorem ni_d0 : decode xM148.2.1 0 = .ok (.lload_n 0, 1) := dz_ok (by decide +kernel)
theorem ni_d1 : decode xM148.2.1 1 = .ok (.lload_n 2, 1) := dz_ok (by decide +kernel)
theorem ni_d2 : decode xM148.2.1 2 = .ok (.lcmp, 1) := dz_ok (by decide +kernel)
theorem ni_d3 : decode xM148.2.1 3 = .ok (.ifCond .lt 14, 3) := dz_ok (by decide +kernel)
theorem ni_d6 : decode xM148.2.1 6 = .ok (.lload_n 0, 1) := dz_ok (by decide +kernel)
theorem ni_d7 : decode xM148.2.1 7 = .ok (.lload 4, 2) := dz_ok (by decide +kernel)
theorem ni_d9 : decode xM148.2.1 9 = .ok (.lcmp, 1) := dz_ok (by decide +kernel)
theorem ni_d10 : decode xM148.2.1 10 = .ok (.ifCond .gt 7, 3) := dz_ok (by decide +kernel)
theorem ni_d13 : decode xM148.2.1 13 = .ok (.iconst 1, 1) := dz_ok (by decide +kernel)
theorem ni_d14 : decode xM148.2.1 14 = .ok (.goto 4, 3) := dz_ok (by decide +kernel)
theorem ni_d17 : decode xM148.2.1 17 = .ok (.iconst 0, 1) := dz_ok (by decide +kernel)
theorem ni_d18 : decode xM148.2.1 18 = .ok (.ireturn, 1) := dz_ok (by decide +kernel)
theorem ym_in : y_Met vwCl x_G x_Zs x_Tb x_Nb xM148 y_T z_Pin := by
  refine y_main (by decide +kernel) (by decide +kernel) x_Tb_good x_Nb_ok ?_
  intro p l e s m below meth c D U Y0 av ls B hI _ hl
  have X := B.1
  have hx := X.1
  have hb := X.2.1
  have hY0 := B.2.2.2.2.1
  obtain ⟨v0, v1, v2, rfl, ⟨x, rfl, -⟩, ⟨lo, rfl, -⟩, ⟨hi, rfl, -⟩⟩ := y_three B.2.2.2.2.2
  replace hl : lv_has ls xM148.2.2.1 [(0, .long x), (2, .long lo), (4, .long hi)] := hl
  refine lv_lload_n hx hb ni_d0 rfl (lv_at hl 0 rfl) ?_
  refine lv_lload_n hx hb ni_d1 rfl (lv_at hl 1 rfl) ?_
  refine W.lcmp hx hb ni_d2 ?_
  have h_z2 := y_cmp x lo
  generalize hg_z2 : lg_cmp x lo = z2 at h_z2 ⊢
  have ec0 : (0 : Int32).toInt = 0 := by decide
  refine lv_if_lt hx hb ni_d3 (tgt := 17) (by decide) (fun q3 => ?_) (fun q3 => ?_)
  · have q3_ : z2.toInt < (0 : Int32).toInt := x_lt32.mp q3
    refine lv_iconst hx hb ni_d17 (v := 0) (by decide) ?_
    exact y_ireturn (o := (x_args xM148, some (xI 0 0))) B hI rfl rfl rfl (List.mem_of_getElem? (i := 1) rfl) ⟨_, rfl, ⟨_, rfl, by decide, by decide⟩⟩ B.2.2.2.2.2 (fun x1 lo1 hi1 h1 => by cases h1; exact Or.inr ⟨rfl, by omega⟩) (Nat.le_refl _) (Nat.le_refl _) ni_d18
  · have q3_ : (0 : Int32).toInt ≤ z2.toInt := Int.not_lt.mp fun q => q3 (x_lt32.mpr q)
    refine lv_lload_n hx hb ni_d6 rfl (lv_at hl 0 rfl) ?_
    refine lv_lload hx hb ni_d7 (lv_at hl 2 rfl) ?_
    refine W.lcmp hx hb ni_d9 ?_
    have h_z9 := y_cmp x hi
    generalize hg_z9 : lg_cmp x hi = z9 at h_z9 ⊢
    refine lv_if_gt hx hb ni_d10 (tgt := 17) (by decide) (fun q10 => ?_) (fun q10 => ?_)
    · have q10_ : (0 : Int32).toInt < z9.toInt := x_lt32.mp q10
      refine lv_iconst hx hb ni_d17 (v := 0) (by decide) ?_
      exact y_ireturn (o := (x_args xM148, some (xI 0 0))) B hI rfl rfl rfl (List.mem_of_getElem? (i := 1) rfl) ⟨_, rfl, ⟨_, rfl, by decide, by decide⟩⟩ B.2.2.2.2.2 (fun x1 lo1 hi1 h1 => by cases h1; exact Or.inr ⟨rfl, by omega⟩) (Nat.le_refl _) (Nat.le_refl _) ni_d18
    · have q10_ : z9.toInt ≤ (0 : Int32).toInt := Int.not_lt.mp fun q => q10 (x_lt32.mpr q)
      refine lv_iconst hx hb ni_d13 (v := 1) (by decide) ?_
      refine lv_goto hx hb ni_d14 (tgt := 18) (by decide) ?_
      exact y_ireturn (o := (x_args xM148, some (xI 1 1))) B hI rfl rfl rfl (List.mem_of_getElem? (i := 0) rfl) ⟨_, rfl, ⟨_, rfl, by decide, by decide⟩⟩ B.2.2.2.2.2 (fun x1 lo1 hi1 h1 => by cases h1; exact Or.inl ⟨rfl, by omega, by omega⟩) (Nat.le_refl _) (Nat.le_refl _) ni_d18
def z_Pset : yP := fun D av Y H v _ _ => ∀ (this bk : Nat) (x b0 : Int32), av = [.ref this, .int x] → x_sl D 12 0 this H = some (.ref bk) → y_at bk 0 H = some (.int b0) → ∃ r : Int32, v = some (.int r) ∧ (¬ r = 0 → 0 ≤ x.toInt ∧ x.toInt ≤ (z_all b0).toInt) ∧ (r = 0 → x.toInt < 0 ∨ (z_all b0).toInt < x.toInt)
theorem st_d0 : decode xM184.2.1 0 = .ok (.iload_n 1, 1) := dz_ok (by decide +kernel)
theorem st_d1 : decode xM184.2.1 1 = .ok (.i2l, 1) := dz_ok (by decide +kernel)
theorem st_d2 : decode xM184.2.1 2 = .ok (.lconst 0, 1) := dz_ok (by decide +kernel)
theorem st_d3 : decode xM184.2.1 3 = .ok (.aload_n 0, 1) := dz_ok (by decide +kernel)
theorem st_d4 : decode xM184.2.1 4 = .ok (.invokevirtual 91, 3) := dz_ok (by decide +kernel)
theorem st_d7 : decode xM184.2.1 7 = .ok (.i2l, 1) := dz_ok (by decide +kernel)
theorem st_d8 : decode xM184.2.1 8 = .ok (.invokestatic 87, 3) := dz_ok (by decide +kernel)
theorem st_d11 : decode xM184.2.1 11 = .ok (.ireturn, 1) := dz_ok (by decide +kernel)
theorem z_inR {v : Option Value} {x lo hi : Int64} (h : (v = some (.int 1) ∧ lo.toInt ≤ x.toInt ∧ x.toInt ≤ hi.toInt) ∨ (v = some (.int 0) ∧ (x.toInt < lo.toInt ∨ hi.toInt < x.toInt))) : ∃ r : Int32, v = some (.int r) ∧ (¬ r = 0 → lo.toInt ≤ x.toInt ∧ x.toInt ≤ hi.toInt) ∧ (r = 0 → x.toInt < lo.toInt ∨ hi.toInt < x.toInt) ∧ (r = 0 ∨ r = 1) := by
  rcases h with ⟨h1, h2⟩ | ⟨h1, h2⟩
  · exact ⟨1, h1, fun _ => h2, fun q => absurd q (by decide), Or.inr rfl⟩
  · exact ⟨0, h1, fun q => absurd rfl q, fun _ => h2, Or.inl rfl⟩
theorem ym_isSet : y_Met vwCl x_G x_Zs x_Tb x_Nb xM184 y_T z_Pset := by
  refine y_main (by decide +kernel) (by decide +kernel) x_Tb_good x_Nb_ok ?_
  intro p l e s m below meth c D U Y0 av ls B hI _ hl
  have X := B.1
  have hx := X.1
  have hb := X.2.1
  have hY0 := B.2.2.2.2.1
  obtain ⟨v0, v1, rfl, hv0, ⟨x, rfl, -⟩⟩ := x_two B.2.2.2.2.2
  obtain ⟨this, t0, rfl, ht0, hY_this⟩ := x_ref_at hv0 rfl
  obtain rfl := List.mem_singleton.mp ht0
  replace hl : lv_has ls xM184.2.2.1 [(0, .ref this), (1, .int x)] := hl
  obtain ⟨bk, hs_book, hY_bk⟩ := y_fldR (k := 0) hI.1 hY_this rfl rfl
  obtain ⟨fb, hA_bk, hB_bk⟩ := y_arr hI.1 hY_bk rfl rfl
  have hN : 0 ≤ (z_all (fb 0)).toInt ∧ (z_all (fb 0)).toInt ≤ 1023 := z_all_b (by obtain ⟨x, e0, e1⟩ := hB_bk 0 (by decide); cases e0; exact e1)
  have hs0 := hs_book
  have hA0 := hA_bk
  refine lv_iload_n hx hb st_d0 rfl (lv_at hl 1 rfl) ?_
  obtain ⟨z1, hg_z1⟩ : ∃ z1 : Int64, x.toInt64 = z1 := ⟨_, rfl⟩
  have h_z1 : z1.toInt = (x).toInt := by rw [← hg_z1]; exact Int32.toInt_toInt64 _
  refine lv_i2l hx hb st_d1 (v := z1) hg_z1 ?_
  refine lv_lconst hx hb st_d2 (v := 0) (by decide) ?_
  have el0 : (0 : Int64).toInt = 0 := by decide
  refine lv_aload_n hx hb st_d3 rfl (lv_at hl 0 rfl) ?_
  refine y_call (z := (0, 91, 1, some 17, xM182)) (av := [.ref this]) (rest := [.long (0 : Int64), .long z1]) (y_cokV (n := 0) (ci := 12) X ym_all rfl rfl rfl (x_cons (x_bw77 4 rfl rfl) (x_cons (x_bw77 6 rfl rfl) (x_cons (x_at 49 (by decide +kernel) rfl) (x_cons (x_bw0 9 rfl rfl) x_nilm)))) (x_bw77 7 rfl rfl) (by decide +kernel) ⟨Nat.le_of_ble_eq_true rfl, Nat.le_of_ble_eq_true rfl⟩) hY0 hI rfl st_d4 hl.1 (Nat.le_of_ble_eq_true rfl) (Nat.le_of_ble_eq_true rfl) (Nat.le_of_ble_eq_true rfl) (y_cons (y_cref hY_this rfl) y_nil) rfl (y_recv rfl hY_this) trivial (y_sub_ef rfl) fun v Yn o Hn L ho hr ha hIn hx_ hE hP => ?_
  have hPv := hP _ _ _ rfl hs_book (hA_bk 0 (by decide))
  replace hs_book := y_Efld hE hY_this rfl (by decide) (by decide) hs_book
  replace hA_bk := hA_bk.kept (y_Earr hE hY_bk rfl (by decide))
  replace hY_this := y_ext hx_ hI.1 hY_this
  replace hY_bk := y_ext hx_ hI.1 hY_bk
  obtain rfl := hPv
  clear ho hr ha hE hP hI hx_
  rename x_I _ _ _ _ _ _ _ _ _ _ => hI
  obtain ⟨z7, hg_z7⟩ : ∃ z7 : Int64, ((z_all (fb 0))).toInt64 = z7 := ⟨_, rfl⟩
  have h_z7 : z7.toInt = ((z_all (fb 0))).toInt := by rw [← hg_z7]; exact Int32.toInt_toInt64 _
  refine lv_i2l hx hb st_d7 (v := z7) hg_z7 ?_
  refine y_call (z := (1, 87, 3, none, xM148)) (av := [.long z1, .long (0 : Int64), .long z7]) (rest := []) (y_cokS (n := 3) X ym_in (x_cons (x_bw67 11 rfl rfl) (x_cons (x_bw67 12 rfl rfl) (x_cons (x_bw0 9 rfl rfl) x_nilm))) (x_bw67 13 rfl rfl) (by decide +kernel) ⟨Nat.le_of_ble_eq_true rfl, Nat.le_of_ble_eq_true rfl⟩) hY0 hI rfl st_d8 hl.1 (Nat.le_of_ble_eq_true rfl) (Nat.le_of_ble_eq_true rfl) (Nat.le_of_ble_eq_true rfl) (y_cons ⟨_, rfl, x_i64 _⟩ (y_cons ⟨_, rfl, x_i64 _⟩ (y_cons ⟨_, rfl, x_i64 _⟩ y_nil))) rfl (y_norecv rfl) trivial (y_sub_ef rfl) fun v Yn o Hn L ho hr ha hIn hx_ hE hP => ?_
  replace hs_book := y_Efld hE hY_this rfl (by decide) (by decide) hs_book
  replace hA_bk := hA_bk.kept (y_Earr hE hY_bk rfl (by decide))
  replace hY_this := y_ext hx_ hI.1 hY_this
  replace hY_bk := y_ext hx_ hI.1 hY_bk
  obtain ⟨r8, rfl, hin, hout, h01⟩ : ∃ r : Int32, v = some (.int r) ∧ (¬ r = 0 → (0 : Int64).toInt ≤ z1.toInt ∧ z1.toInt ≤ z7.toInt) ∧ (r = 0 → z1.toInt < (0 : Int64).toInt ∨ z7.toInt < z1.toInt) ∧ (r = 0 ∨ r = 1) := z_inR (hP _ _ _ rfl)
  clear ho hr ha hE hP hI hx_
  rename x_I _ _ _ _ _ _ _ _ _ _ => hI
  have hP9 : z_Pset D [.ref this, .int x] Y0 s.heap (some (.int r8)) Yn Hn := by
    intro t b y b0 h1 h2 h3
    cases h1
    cases h2.symm.trans hs0
    have := (hA0 0 (by decide)).symm.trans h3
    injection this with this; injection this with this
    subst this
    exact ⟨r8, rfl, fun q => by have := hin q; omega, fun q => by have := hout q; omega⟩
  rcases h01 with q | q
  · subst q
    exact y_ireturn (o := ([xR false [17], xF], some (xI 0 0))) B hI rfl rfl rfl (List.mem_of_getElem? (i := 0) rfl) ⟨_, rfl, ⟨_, rfl, by decide, by decide⟩⟩ (x_cs.mono B.2.2.2.2.2 (y_mon B hI)) hP9 (Nat.le_refl _) (Nat.le_refl _) st_d11
  · have := hin (by rw [q]; decide)
    subst q
    exact y_ireturn (o := ([xR false [17], xI 0 1023], some (xI 1 1))) B hI rfl rfl rfl (List.mem_of_getElem? (i := 1) rfl) ⟨_, rfl, ⟨_, rfl, by decide, by decide⟩⟩ (y_cons (y_cref hY_this rfl) (y_cons ⟨_, rfl, by show (0 : Int) ≤ _; omega, by show _ ≤ (1023 : Int); omega⟩ y_nil)) hP9 (Nat.le_refl _) (Nat.le_refl _) st_d11

