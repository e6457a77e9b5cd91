/-! THE FRACTION of clear, the reference -/
def m_clOkR (f : Nat → Int32) (a b t : Int32) : Prop := m_isH f a ∧ m_isH f b ∧ ¬ a = b ∧ m_isT f t ∧ m_clB f a.toInt.toNat b.toInt.toNat t.toInt.toNat = true
def m_clTR (f : Nat → Int32) (a b t r : Int32) : Prop := (m_clOkR f a b t → r = 1) ∧ (¬ m_clOkR f a b t → ¬ r = 1)
def m_clUR (f : Nat → Int32) (a b t : Nat) : Int64 := (f (12 + 5 * a) * m_ln f a b 7 + (f (12 + 5 * b) - f (12 + 5 * a)) * m_al (m_ln f a b) (f (61 + 7 * t)) (f (62 + 7 * t)) - m_hr (f (60 + 7 * t)) (f (65 + 7 * t)) (f (63 + 7 * t)) (f (64 + 7 * t)) (f 4) * m_ln f a b 7).toInt64
def z_PMcl : yP := fun D av _ H v _ H' => ∀ (this bk : Nat) (a b t : Int32) (f : Nat → Int32), av = [.ref this, .int a, .int b, .int t] → x_sl D 12 0 this H = some (.ref bk) → z_c f → y_A bk 160 H f → ∃ r : Int32, v = some (.int r) ∧ m_clTR f a b t r ∧ z_fxM D H H' this r (m_clUR f a.toInt.toNat b.toInt.toNat t.toInt.toNat) (m_clD f a.toInt.toNat b.toInt.toNat)
theorem clX_d0 : decode xM1010.2.1 0 = .ok (.aload_n 0, 1) := dz_ok (by decide +kernel)
theorem clX_d1 : decode xM1010.2.1 1 = .ok (.iload_n 1, 1) := dz_ok (by decide +kernel)
theorem clX_d2 : decode xM1010.2.1 2 = .ok (.invokevirtual 151, 3) := dz_ok (by decide +kernel)
theorem clX_d5 : decode xM1010.2.1 5 = .ok (.ifCond .eq 24, 3) := dz_ok (by decide +kernel)
theorem clX_d8 : decode xM1010.2.1 8 = .ok (.aload_n 0, 1) := dz_ok (by decide +kernel)
theorem clX_d9 : decode xM1010.2.1 9 = .ok (.iload_n 2, 1) := dz_ok (by decide +kernel)
theorem clX_d10 : decode xM1010.2.1 10 = .ok (.invokevirtual 151, 3) := dz_ok (by decide +kernel)
theorem clX_d13 : decode xM1010.2.1 13 = .ok (.ifCond .eq 16, 3) := dz_ok (by decide +kernel)
theorem clX_d16 : decode xM1010.2.1 16 = .ok (.iload_n 1, 1) := dz_ok (by decide +kernel)
theorem clX_d17 : decode xM1010.2.1 17 = .ok (.iload_n 2, 1) := dz_ok (by decide +kernel)
theorem clX_d18 : decode xM1010.2.1 18 = .ok (.if_icmp .eq 11, 3) := dz_ok (by decide +kernel)
theorem clX_d21 : decode xM1010.2.1 21 = .ok (.aload_n 0, 1) := dz_ok (by decide +kernel)
theorem clX_d22 : decode xM1010.2.1 22 = .ok (.iload_n 3, 1) := dz_ok (by decide +kernel)
theorem clX_d23 : decode xM1010.2.1 23 = .ok (.invokevirtual 119, 3) := dz_ok (by decide +kernel)
theorem clX_d26 : decode xM1010.2.1 26 = .ok (.ifCond .ne 8, 3) := dz_ok (by decide +kernel)
theorem clX_d29 : decode xM1010.2.1 29 = .ok (.aload_n 0, 1) := dz_ok (by decide +kernel)
theorem clX_d30 : decode xM1010.2.1 30 = .ok (.invokevirtual 102, 3) := dz_ok (by decide +kernel)
theorem clX_d33 : decode xM1010.2.1 33 = .ok (.ireturn, 1) := dz_ok (by decide +kernel)
theorem clX_d34 : decode xM1010.2.1 34 = .ok (.aload_n 0, 1) := dz_ok (by decide +kernel)
theorem clX_d35 : decode xM1010.2.1 35 = .ok (.iload_n 2, 1) := dz_ok (by decide +kernel)
theorem clX_d36 : decode xM1010.2.1 36 = .ok (.iconst 0, 1) := dz_ok (by decide +kernel)
theorem clX_d37 : decode xM1010.2.1 37 = .ok (.invokevirtual 99, 3) := dz_ok (by decide +kernel)
theorem clX_d40 : decode xM1010.2.1 40 = .ok (.aload_n 0, 1) := dz_ok (by decide +kernel)
theorem clX_d41 : decode xM1010.2.1 41 = .ok (.iload_n 1, 1) := dz_ok (by decide +kernel)
theorem clX_d42 : decode xM1010.2.1 42 = .ok (.iconst 0, 1) := dz_ok (by decide +kernel)
theorem clX_d43 : decode xM1010.2.1 43 = .ok (.invokevirtual 99, 3) := dz_ok (by decide +kernel)
theorem clX_d46 : decode xM1010.2.1 46 = .ok (.isub, 1) := dz_ok (by decide +kernel)
theorem clX_d47 : decode xM1010.2.1 47 = .ok (.istore 4, 2) := dz_ok (by decide +kernel)
theorem clX_d49 : decode xM1010.2.1 49 = .ok (.aload_n 0, 1) := dz_ok (by decide +kernel)
theorem clX_d50 : decode xM1010.2.1 50 = .ok (.iload_n 2, 1) := dz_ok (by decide +kernel)
theorem clX_d51 : decode xM1010.2.1 51 = .ok (.iconst 1, 1) := dz_ok (by decide +kernel)
theorem clX_d52 : decode xM1010.2.1 52 = .ok (.invokevirtual 99, 3) := dz_ok (by decide +kernel)
theorem clX_d55 : decode xM1010.2.1 55 = .ok (.aload_n 0, 1) := dz_ok (by decide +kernel)
theorem clX_d56 : decode xM1010.2.1 56 = .ok (.iload_n 1, 1) := dz_ok (by decide +kernel)
theorem clX_d57 : decode xM1010.2.1 57 = .ok (.iconst 1, 1) := dz_ok (by decide +kernel)
theorem clX_d58 : decode xM1010.2.1 58 = .ok (.invokevirtual 99, 3) := dz_ok (by decide +kernel)
theorem clX_d61 : decode xM1010.2.1 61 = .ok (.isub, 1) := dz_ok (by decide +kernel)
theorem clX_d62 : decode xM1010.2.1 62 = .ok (.istore 5, 2) := dz_ok (by decide +kernel)
theorem clX_d64 : decode xM1010.2.1 64 = .ok (.iload 4, 2) := dz_ok (by decide +kernel)
theorem clX_d66 : decode xM1010.2.1 66 = .ok (.iload 4, 2) := dz_ok (by decide +kernel)
theorem clX_d68 : decode xM1010.2.1 68 = .ok (.imul, 1) := dz_ok (by decide +kernel)
theorem clX_d69 : decode xM1010.2.1 69 = .ok (.iload 5, 2) := dz_ok (by decide +kernel)
theorem clX_d71 : decode xM1010.2.1 71 = .ok (.iload 5, 2) := dz_ok (by decide +kernel)
theorem clX_d73 : decode xM1010.2.1 73 = .ok (.imul, 1) := dz_ok (by decide +kernel)
theorem clX_d74 : decode xM1010.2.1 74 = .ok (.iadd, 1) := dz_ok (by decide +kernel)
theorem clX_d75 : decode xM1010.2.1 75 = .ok (.istore 6, 2) := dz_ok (by decide +kernel)
theorem clX_d77 : decode xM1010.2.1 77 = .ok (.aload_n 0, 1) := dz_ok (by decide +kernel)
theorem clX_d78 : decode xM1010.2.1 78 = .ok (.iload_n 3, 1) := dz_ok (by decide +kernel)
theorem clX_d79 : decode xM1010.2.1 79 = .ok (.iconst 1, 1) := dz_ok (by decide +kernel)
theorem clX_d80 : decode xM1010.2.1 80 = .ok (.invokevirtual 123, 3) := dz_ok (by decide +kernel)
theorem clX_d83 : decode xM1010.2.1 83 = .ok (.aload_n 0, 1) := dz_ok (by decide +kernel)
theorem clX_d84 : decode xM1010.2.1 84 = .ok (.iload_n 1, 1) := dz_ok (by decide +kernel)
theorem clX_d85 : decode xM1010.2.1 85 = .ok (.iconst 0, 1) := dz_ok (by decide +kernel)
theorem clX_d86 : decode xM1010.2.1 86 = .ok (.invokevirtual 99, 3) := dz_ok (by decide +kernel)
theorem clX_d89 : decode xM1010.2.1 89 = .ok (.isub, 1) := dz_ok (by decide +kernel)
theorem clX_d90 : decode xM1010.2.1 90 = .ok (.iload 4, 2) := dz_ok (by decide +kernel)
theorem clX_d92 : decode xM1010.2.1 92 = .ok (.imul, 1) := dz_ok (by decide +kernel)
theorem clX_d93 : decode xM1010.2.1 93 = .ok (.aload_n 0, 1) := dz_ok (by decide +kernel)
theorem clX_d94 : decode xM1010.2.1 94 = .ok (.iload_n 3, 1) := dz_ok (by decide +kernel)
theorem clX_d95 : decode xM1010.2.1 95 = .ok (.iconst 2, 1) := dz_ok (by decide +kernel)
theorem clX_d96 : decode xM1010.2.1 96 = .ok (.invokevirtual 123, 3) := dz_ok (by decide +kernel)
theorem clX_d99 : decode xM1010.2.1 99 = .ok (.aload_n 0, 1) := dz_ok (by decide +kernel)
theorem clX_d100 : decode xM1010.2.1 100 = .ok (.iload_n 1, 1) := dz_ok (by decide +kernel)
theorem clX_d101 : decode xM1010.2.1 101 = .ok (.iconst 1, 1) := dz_ok (by decide +kernel)
theorem clX_d102 : decode xM1010.2.1 102 = .ok (.invokevirtual 99, 3) := dz_ok (by decide +kernel)
theorem clX_d105 : decode xM1010.2.1 105 = .ok (.isub, 1) := dz_ok (by decide +kernel)
theorem clX_d106 : decode xM1010.2.1 106 = .ok (.iload 5, 2) := dz_ok (by decide +kernel)
theorem clX_d108 : decode xM1010.2.1 108 = .ok (.imul, 1) := dz_ok (by decide +kernel)
theorem clX_d109 : decode xM1010.2.1 109 = .ok (.iadd, 1) := dz_ok (by decide +kernel)
theorem clX_d110 : decode xM1010.2.1 110 = .ok (.istore 7, 2) := dz_ok (by decide +kernel)
theorem clX_d112 : decode xM1010.2.1 112 = .ok (.iload 7, 2) := dz_ok (by decide +kernel)
theorem clX_d114 : decode xM1010.2.1 114 = .ok (.ifCond .le 10, 3) := dz_ok (by decide +kernel)
theorem clX_d117 : decode xM1010.2.1 117 = .ok (.iload 7, 2) := dz_ok (by decide +kernel)
theorem clX_d119 : decode xM1010.2.1 119 = .ok (.iload 6, 2) := dz_ok (by decide +kernel)
theorem clX_d121 : decode xM1010.2.1 121 = .ok (.if_icmp .lt 8, 3) := dz_ok (by decide +kernel)
theorem clX_d124 : decode xM1010.2.1 124 = .ok (.aload_n 0, 1) := dz_ok (by decide +kernel)
theorem clX_d125 : decode xM1010.2.1 125 = .ok (.invokevirtual 126, 3) := dz_ok (by decide +kernel)
theorem clX_d128 : decode xM1010.2.1 128 = .ok (.ireturn, 1) := dz_ok (by decide +kernel)
theorem clX_d129 : decode xM1010.2.1 129 = .ok (.aload_n 0, 1) := dz_ok (by decide +kernel)
theorem clX_d130 : decode xM1010.2.1 130 = .ok (.aload_n 0, 1) := dz_ok (by decide +kernel)
theorem clX_d131 : decode xM1010.2.1 131 = .ok (.iload_n 1, 1) := dz_ok (by decide +kernel)
theorem clX_d132 : decode xM1010.2.1 132 = .ok (.iconst 2, 1) := dz_ok (by decide +kernel)
theorem clX_d133 : decode xM1010.2.1 133 = .ok (.invokevirtual 99, 3) := dz_ok (by decide +kernel)
theorem clX_d136 : decode xM1010.2.1 136 = .ok (.iload 6, 2) := dz_ok (by decide +kernel)
theorem clX_d138 : decode xM1010.2.1 138 = .ok (.imul, 1) := dz_ok (by decide +kernel)
theorem clX_d139 : decode xM1010.2.1 139 = .ok (.aload_n 0, 1) := dz_ok (by decide +kernel)
theorem clX_d140 : decode xM1010.2.1 140 = .ok (.iload_n 2, 1) := dz_ok (by decide +kernel)
theorem clX_d141 : decode xM1010.2.1 141 = .ok (.iconst 2, 1) := dz_ok (by decide +kernel)
theorem clX_d142 : decode xM1010.2.1 142 = .ok (.invokevirtual 99, 3) := dz_ok (by decide +kernel)
theorem clX_d145 : decode xM1010.2.1 145 = .ok (.aload_n 0, 1) := dz_ok (by decide +kernel)
theorem clX_d146 : decode xM1010.2.1 146 = .ok (.iload_n 1, 1) := dz_ok (by decide +kernel)
theorem clX_d147 : decode xM1010.2.1 147 = .ok (.iconst 2, 1) := dz_ok (by decide +kernel)
theorem clX_d148 : decode xM1010.2.1 148 = .ok (.invokevirtual 99, 3) := dz_ok (by decide +kernel)
theorem clX_d151 : decode xM1010.2.1 151 = .ok (.isub, 1) := dz_ok (by decide +kernel)
theorem clX_d152 : decode xM1010.2.1 152 = .ok (.iload 7, 2) := dz_ok (by decide +kernel)
theorem clX_d154 : decode xM1010.2.1 154 = .ok (.imul, 1) := dz_ok (by decide +kernel)
theorem clX_d155 : decode xM1010.2.1 155 = .ok (.iadd, 1) := dz_ok (by decide +kernel)
theorem clX_d156 : decode xM1010.2.1 156 = .ok (.aload_n 0, 1) := dz_ok (by decide +kernel)
theorem clX_d157 : decode xM1010.2.1 157 = .ok (.iload_n 3, 1) := dz_ok (by decide +kernel)
theorem clX_d158 : decode xM1010.2.1 158 = .ok (.aload_n 0, 1) := dz_ok (by decide +kernel)
theorem clX_d159 : decode xM1010.2.1 159 = .ok (.getfield 7, 3) := dz_ok (by decide +kernel)
theorem clX_d162 : decode xM1010.2.1 162 = .ok (.iconst 4, 1) := dz_ok (by decide +kernel)
theorem clX_d163 : decode xM1010.2.1 163 = .ok (.iaload, 1) := dz_ok (by decide +kernel)
theorem clX_d164 : decode xM1010.2.1 164 = .ok (.invokevirtual 133, 3) := dz_ok (by decide +kernel)
theorem clX_d167 : decode xM1010.2.1 167 = .ok (.iload 6, 2) := dz_ok (by decide +kernel)
theorem clX_d169 : decode xM1010.2.1 169 = .ok (.imul, 1) := dz_ok (by decide +kernel)
theorem clX_d170 : decode xM1010.2.1 170 = .ok (.isub, 1) := dz_ok (by decide +kernel)
theorem clX_d171 : decode xM1010.2.1 171 = .ok (.i2l, 1) := dz_ok (by decide +kernel)
theorem clX_d172 : decode xM1010.2.1 172 = .ok (.iload 6, 2) := dz_ok (by decide +kernel)
theorem clX_d174 : decode xM1010.2.1 174 = .ok (.i2l, 1) := dz_ok (by decide +kernel)
theorem clX_d175 : decode xM1010.2.1 175 = .ok (.invokevirtual 154, 3) := dz_ok (by decide +kernel)
theorem clX_d178 : decode xM1010.2.1 178 = .ok (.ireturn, 1) := dz_ok (by decide +kernel)
theorem ym_clearM : y_Met vwCl x_G x_Zs x_Tb x_Nb xM1010 y_T z_PMcl := by
  refine y_main (by decide +kernel) (by decide +kernel) x_Tb_good x_Nb_ok ?_
  intro p l e s m below meth c D U Y0 av ls B hI _ hl
  have X := B.1
  have hx := X.1
  have hb := X.2.1
  have hY0 := B.2.2.2.2.1
  obtain ⟨v0, v1, v2, v3, rfl, hv0, ⟨a, rfl, -⟩, ⟨b, rfl, -⟩, ⟨t, rfl, -⟩⟩ := y_four B.2.2.2.2.2
  obtain ⟨this, t0, rfl, ht0, hY_this⟩ := x_ref_at hv0 rfl
  obtain rfl := List.mem_singleton.mp ht0
  replace hl : lv_has ls xM1010.2.2.1 [(0, .ref this), (1, .int a), (2, .int b), (3, .int t)] := hl
  obtain ⟨bk, hs_bk, hY_bk⟩ := y_fldR (k := 0) hI.1 hY_this rfl rfl
  obtain ⟨fb9, hA9, hB9⟩ := y_arr hI.1 hY_bk rfl rfl
  obtain ⟨fb, hcn, hA_bk, hB_bk⟩ := z_canon (Y := Y0) (P := fun j v => x_c Y0 ([xI 0 10, xI 0 8, xI 0 8].getD j xF) (.int v)) hA9 hB9
  clear hA9 hB9 fb9
  have hs0 := hs_bk
  have hA0 := hA_bk
  have hd := z_hdr hB_bk
  have hd0 := hd.1
  have hd1 := hd.2.1
  obtain ⟨ga, hs_fa⟩ := y_fldL (k := 6) hI.1 hY_this rfl rfl
  obtain ⟨gb, hs_fb⟩ := y_fldL (k := 7) hI.1 hY_this rfl rfl
  have hfa0 := hs_fa
  have hfb0 := hs_fb
  refine lv_aload_n hx hb clX_d0 rfl (lv_at hl 0 rfl) ?_
  refine lv_iload_n hx hb clX_d1 rfl (lv_at hl 1 rfl) ?_
  refine y_call (z := (0, 151, 2, some 17, xM171)) (av := [.ref this, .int a]) (rest := []) (y_cokV (n := 1) (ci := 12) X ym_isHillX rfl rfl rfl (x_cons (x_bw72 2 rfl rfl) (x_cons (x_bw72 4 rfl rfl) (x_cons (x_at 40 (by decide +kernel) rfl) (x_cons (x_bw0 9 rfl rfl) x_nilm)))) (x_bw72 5 rfl rfl) (by decide +kernel) ⟨Nat.le_of_ble_eq_true rfl, Nat.le_of_ble_eq_true rfl⟩) hY0 hI rfl clX_d2 hl.1 (Nat.le_of_ble_eq_true rfl) (Nat.le_of_ble_eq_true rfl) (Nat.le_of_ble_eq_true rfl) (y_cons (y_cref hY_this rfl) (y_cons ⟨_, rfl, x_i32 _⟩ y_nil)) rfl (y_recv rfl hY_this) trivial (y_sub_ef rfl) fun v Yn o Hn L ho hr ha hIn hx_ hE hP => ?_
  have hPq := hP _ _ _ _ rfl hs_bk hcn hA_bk
  replace hs_bk := y_Efld hE hY_this rfl (by decide) (by decide) hs_bk
  replace hs_fa := y_Efld hE hY_this rfl (by decide) (by decide) hs_fa
  replace hs_fb := y_Efld hE hY_this rfl (by decide) (by decide) hs_fb
  replace hA_bk := hA_bk.kept (y_Earr hE hY_bk rfl (by decide))
  replace hY_this := y_ext hx_ hI.1 hY_this
  replace hY_bk := y_ext hx_ hI.1 hY_bk
  obtain ⟨r2, rfl, hin_r2, hout_r2⟩ := hPq
  clear ho hr ha hE hP hI hx_
  rename x_I _ _ _ _ _ _ _ _ _ _ => hI
  have ec0 : (0 : Int32).toInt = 0 := by decide
  refine lv_if_eq hx hb clX_d5 (tgt := 29) (by decide) (fun q5 => ?_) (fun q5 => ?_)
  · have q5_ : r2.toInt = (0 : Int32).toInt := by rw [q5]
    have hno : ¬ m_clOkR fb a b t := fun q9 => by first | exact hout_r2 (by assumption) q9.1 | exact hout_r10 (by assumption) q9.2.1 | exact q9.2.2.1 (by assumption) | exact hout_r23 (by assumption) q9.2.2.2.1
    refine lv_aload_n hx hb clX_d29 rfl (lv_at hl 0 rfl) ?_
    refine y_call (z := (0, 102, 1, some 17, xM143)) (av := [.ref this]) (rest := []) (y_cokV (n := 0) (ci := 12) X ym_bad rfl rfl rfl (x_cons (x_bw68 3 rfl rfl) (x_cons (x_bw68 5 rfl rfl) (x_cons (x_at 32 (by decide +kernel) rfl) (x_cons (x_bw0 9 rfl rfl) x_nilm)))) (x_bw68 6 rfl rfl) (by decide +kernel) ⟨Nat.le_of_ble_eq_true rfl, Nat.le_of_ble_eq_true rfl⟩) hY0 hI rfl clX_d30 hl.1 (Nat.le_of_ble_eq_true rfl) (Nat.le_of_ble_eq_true rfl) (Nat.le_of_ble_eq_true rfl) (y_cons (y_cref hY_this rfl) y_nil) rfl (y_recv rfl hY_this) trivial (y_sub_ef rfl) fun v Yn o Hn L ho hr ha hIn hx_ hE hP => ?_
    replace hs_bk := y_Efld hE hY_this rfl (by decide) (by decide) hs_bk
    replace hs_fa := y_Efld hE hY_this rfl (by decide) (by decide) hs_fa
    replace hs_fb := y_Efld hE hY_this rfl (by decide) (by decide) hs_fb
    replace hA_bk := hA_bk.kept (y_Earr hE hY_bk rfl (by decide))
    replace hY_this := y_ext hx_ hI.1 hY_this
    replace hY_bk := y_ext hx_ hI.1 hY_bk
    have hPb := hP
    obtain rfl := hPb
    clear ho hr ha hE hP hI hx_
    rename x_I _ _ _ _ _ _ _ _ _ _ => hI
    exact y_ireturn B hI rfl rfl rfl List.mem_cons_self ⟨_, rfl, ⟨_, rfl, x_i32 _⟩⟩ (x_cs.mono B.2.2.2.2.2 (y_mon B hI)) (fun t' b' w0' w1' w2' f' h1 h2 h3 h4 => by cases h1; cases h2.symm.trans hs0; cases z_uniq h4 hA0 h3 hcn; exact ⟨_, rfl, ⟨fun q9 => absurd q9 hno, fun _ => by decide⟩, ⟨fun _ a9 b9 h9 => by cases hfa0.symm.trans h9.1; cases hfb0.symm.trans h9.2; exact ⟨hs_fa, hs_fb⟩, fun q9 => absurd q9 (by decide)⟩⟩) (Nat.le_refl _) (Nat.le_refl _) clX_d33
  · have q5_ : ¬ r2.toInt = (0 : Int32).toInt := fun q => q5 (Int32.toInt_inj.mp q)
    refine lv_aload_n hx hb clX_d8 rfl (lv_at hl 0 rfl) ?_
    refine lv_iload_n hx hb clX_d9 rfl (lv_at hl 2 rfl) ?_
    refine y_call (z := (0, 151, 2, some 17, xM171)) (av := [.ref this, .int b]) (rest := []) (y_cokV (n := 1) (ci := 12) X ym_isHillX rfl rfl rfl (x_cons (x_bw72 2 rfl rfl) (x_cons (x_bw72 4 rfl rfl) (x_cons (x_at 40 (by decide +kernel) rfl) (x_cons (x_bw0 9 rfl rfl) x_nilm)))) (x_bw72 5 rfl rfl) (by decide +kernel) ⟨Nat.le_of_ble_eq_true rfl, Nat.le_of_ble_eq_true rfl⟩) hY0 hI rfl clX_d10 hl.1 (Nat.le_of_ble_eq_true rfl) (Nat.le_of_ble_eq_true rfl) (Nat.le_of_ble_eq_true rfl) (y_cons (y_cref hY_this rfl) (y_cons ⟨_, rfl, x_i32 _⟩ y_nil)) rfl (y_recv rfl hY_this) trivial (y_sub_ef rfl) fun v Yn o Hn L ho hr ha hIn hx_ hE hP => ?_
    have hPq := hP _ _ _ _ rfl hs_bk hcn hA_bk
    replace hs_bk := y_Efld hE hY_this rfl (by decide) (by decide) hs_bk
    replace hs_fa := y_Efld hE hY_this rfl (by decide) (by decide) hs_fa
    replace hs_fb := y_Efld hE hY_this rfl (by decide) (by decide) hs_fb
    replace hA_bk := hA_bk.kept (y_Earr hE hY_bk rfl (by decide))
    replace hY_this := y_ext hx_ hI.1 hY_this
    replace hY_bk := y_ext hx_ hI.1 hY_bk
    obtain ⟨r10, rfl, hin_r10, hout_r10⟩ := hPq
    clear ho hr ha hE hP hI hx_
    rename x_I _ _ _ _ _ _ _ _ _ _ => hI
    refine lv_if_eq hx hb clX_d13 (tgt := 29) (by decide) (fun q13 => ?_) (fun q13 => ?_)
    · have q13_ : r10.toInt = (0 : Int32).toInt := by rw [q13]
      have hno : ¬ m_clOkR fb a b t := fun q9 => by first | exact hout_r2 (by assumption) q9.1 | exact hout_r10 (by assumption) q9.2.1 | exact q9.2.2.1 (by assumption) | exact hout_r23 (by assumption) q9.2.2.2.1
      refine lv_aload_n hx hb clX_d29 rfl (lv_at hl 0 rfl) ?_
      refine y_call (z := (0, 102, 1, some 17, xM143)) (av := [.ref this]) (rest := []) (y_cokV (n := 0) (ci := 12) X ym_bad rfl rfl rfl (x_cons (x_bw68 3 rfl rfl) (x_cons (x_bw68 5 rfl rfl) (x_cons (x_at 32 (by decide +kernel) rfl) (x_cons (x_bw0 9 rfl rfl) x_nilm)))) (x_bw68 6 rfl rfl) (by decide +kernel) ⟨Nat.le_of_ble_eq_true rfl, Nat.le_of_ble_eq_true rfl⟩) hY0 hI rfl clX_d30 hl.1 (Nat.le_of_ble_eq_true rfl) (Nat.le_of_ble_eq_true rfl) (Nat.le_of_ble_eq_true rfl) (y_cons (y_cref hY_this rfl) y_nil) rfl (y_recv rfl hY_this) trivial (y_sub_ef rfl) fun v Yn o Hn L ho hr ha hIn hx_ hE hP => ?_
      replace hs_bk := y_Efld hE hY_this rfl (by decide) (by decide) hs_bk
      replace hs_fa := y_Efld hE hY_this rfl (by decide) (by decide) hs_fa
      replace hs_fb := y_Efld hE hY_this rfl (by decide) (by decide) hs_fb
      replace hA_bk := hA_bk.kept (y_Earr hE hY_bk rfl (by decide))
      replace hY_this := y_ext hx_ hI.1 hY_this
      replace hY_bk := y_ext hx_ hI.1 hY_bk
      have hPb := hP
      obtain rfl := hPb
      clear ho hr ha hE hP hI hx_
      rename x_I _ _ _ _ _ _ _ _ _ _ => hI
      exact y_ireturn B hI rfl rfl rfl List.mem_cons_self ⟨_, rfl, ⟨_, rfl, x_i32 _⟩⟩ (x_cs.mono B.2.2.2.2.2 (y_mon B hI)) (fun t' b' w0' w1' w2' f' h1 h2 h3 h4 => by cases h1; cases h2.symm.trans hs0; cases z_uniq h4 hA0 h3 hcn; exact ⟨_, rfl, ⟨fun q9 => absurd q9 hno, fun _ => by decide⟩, ⟨fun _ a9 b9 h9 => by cases hfa0.symm.trans h9.1; cases hfb0.symm.trans h9.2; exact ⟨hs_fa, hs_fb⟩, fun q9 => absurd q9 (by decide)⟩⟩) (Nat.le_refl _) (Nat.le_refl _) clX_d33
    · have q13_ : ¬ r10.toInt = (0 : Int32).toInt := fun q => q13 (Int32.toInt_inj.mp q)
      refine lv_iload_n hx hb clX_d16 rfl (lv_at hl 1 rfl) ?_
      refine lv_iload_n hx hb clX_d17 rfl (lv_at hl 2 rfl) ?_
      refine lv_icmp_eq hx hb clX_d18 (tgt := 29) (by decide) (fun q18 => ?_) (fun q18 => ?_)
      · have q18_ : a.toInt = b.toInt := by rw [q18]
        have hno : ¬ m_clOkR fb a b t := fun q9 => by first | exact hout_r2 (by assumption) q9.1 | exact hout_r10 (by assumption) q9.2.1 | exact q9.2.2.1 (by assumption) | exact hout_r23 (by assumption) q9.2.2.2.1
        refine lv_aload_n hx hb clX_d29 rfl (lv_at hl 0 rfl) ?_
        refine y_call (z := (0, 102, 1, some 17, xM143)) (av := [.ref this]) (rest := []) (y_cokV (n := 0) (ci := 12) X ym_bad rfl rfl rfl (x_cons (x_bw68 3 rfl rfl) (x_cons (x_bw68 5 rfl rfl) (x_cons (x_at 32 (by decide +kernel) rfl) (x_cons (x_bw0 9 rfl rfl) x_nilm)))) (x_bw68 6 rfl rfl) (by decide +kernel) ⟨Nat.le_of_ble_eq_true rfl, Nat.le_of_ble_eq_true rfl⟩) hY0 hI rfl clX_d30 hl.1 (Nat.le_of_ble_eq_true rfl) (Nat.le_of_ble_eq_true rfl) (Nat.le_of_ble_eq_true rfl) (y_cons (y_cref hY_this rfl) y_nil) rfl (y_recv rfl hY_this) trivial (y_sub_ef rfl) fun v Yn o Hn L ho hr ha hIn hx_ hE hP => ?_
        replace hs_bk := y_Efld hE hY_this rfl (by decide) (by decide) hs_bk
        replace hs_fa := y_Efld hE hY_this rfl (by decide) (by decide) hs_fa
        replace hs_fb := y_Efld hE hY_this rfl (by decide) (by decide) hs_fb
        replace hA_bk := hA_bk.kept (y_Earr hE hY_bk rfl (by decide))
        replace hY_this := y_ext hx_ hI.1 hY_this
        replace hY_bk := y_ext hx_ hI.1 hY_bk
        have hPb := hP
        obtain rfl := hPb
        clear ho hr ha hE hP hI hx_
        rename x_I _ _ _ _ _ _ _ _ _ _ => hI
        exact y_ireturn B hI rfl rfl rfl List.mem_cons_self ⟨_, rfl, ⟨_, rfl, x_i32 _⟩⟩ (x_cs.mono B.2.2.2.2.2 (y_mon B hI)) (fun t' b' w0' w1' w2' f' h1 h2 h3 h4 => by cases h1; cases h2.symm.trans hs0; cases z_uniq h4 hA0 h3 hcn; exact ⟨_, rfl, ⟨fun q9 => absurd q9 hno, fun _ => by decide⟩, ⟨fun _ a9 b9 h9 => by cases hfa0.symm.trans h9.1; cases hfb0.symm.trans h9.2; exact ⟨hs_fa, hs_fb⟩, fun q9 => absurd q9 (by decide)⟩⟩) (Nat.le_refl _) (Nat.le_refl _) clX_d33
      · have q18_ : ¬ a.toInt = b.toInt := fun q => q18 (Int32.toInt_inj.mp q)
        refine lv_aload_n hx hb clX_d21 rfl (lv_at hl 0 rfl) ?_
        refine lv_iload_n hx hb clX_d22 rfl (lv_at hl 3 rfl) ?_
        refine y_call (z := (0, 119, 2, some 17, xM162)) (av := [.ref this, .int t]) (rest := []) (y_cokV (n := 1) (ci := 12) X ym_isThingX rfl rfl rfl (x_cons (x_bw70 3 rfl rfl) (x_cons (x_bw70 5 rfl rfl) (x_cons (x_at 36 (by decide +kernel) rfl) (x_cons (x_bw0 9 rfl rfl) x_nilm)))) (x_bw70 6 rfl rfl) (by decide +kernel) ⟨Nat.le_of_ble_eq_true rfl, Nat.le_of_ble_eq_true rfl⟩) hY0 hI rfl clX_d23 hl.1 (Nat.le_of_ble_eq_true rfl) (Nat.le_of_ble_eq_true rfl) (Nat.le_of_ble_eq_true rfl) (y_cons (y_cref hY_this rfl) (y_cons ⟨_, rfl, x_i32 _⟩ y_nil)) rfl (y_recv rfl hY_this) trivial (y_sub_ef rfl) fun v Yn o Hn L ho hr ha hIn hx_ hE hP => ?_
        have hPq := hP _ _ _ _ rfl hs_bk hcn hA_bk
        replace hs_bk := y_Efld hE hY_this rfl (by decide) (by decide) hs_bk
        replace hs_fa := y_Efld hE hY_this rfl (by decide) (by decide) hs_fa
        replace hs_fb := y_Efld hE hY_this rfl (by decide) (by decide) hs_fb
        replace hA_bk := hA_bk.kept (y_Earr hE hY_bk rfl (by decide))
        replace hY_this := y_ext hx_ hI.1 hY_this
        replace hY_bk := y_ext hx_ hI.1 hY_bk
        obtain ⟨r23, rfl, hin_r23, hout_r23⟩ := hPq
        clear ho hr ha hE hP hI hx_
        rename x_I _ _ _ _ _ _ _ _ _ _ => hI
        refine lv_if_ne hx hb clX_d26 (tgt := 34) (by decide) (fun q26 => ?_) (fun q26 => ?_)
        · have q26_ : ¬ r23.toInt = (0 : Int32).toInt := fun q => q26 (Int32.toInt_inj.mp q)
          have ha9 := hin_r2 (by assumption)
          have hb9 := hin_r10 (by assumption)
          have hne9 : ¬ a = b := by assumption
          have ht9 := hin_r23 (by assumption)
          have hh9 := And.intro ha9 (And.intro hb9 (And.intro hne9 ht9))
          unfold m_isH at ha9 hb9
          unfold m_isT at ht9
          refine lv_aload_n hx hb clX_d34 rfl (lv_at hl 0 rfl) ?_
          refine lv_iload_n hx hb clX_d35 rfl (lv_at hl 2 rfl) ?_
          refine lv_iconst hx hb clX_d36 (v := 0) (by decide) ?_
          refine y_call (z := (0, 99, 3, some 17, xM145)) (av := [.ref this, .int b, .int (0 : Int32)]) (rest := []) (y_cokV (n := 2) (ci := 12) X ym_ofHill rfl rfl rfl (x_cons (x_bw67 15 rfl rfl) (x_cons (x_bw68 1 rfl rfl) (x_cons (x_at 31 (by decide +kernel) rfl) (x_cons (x_bw0 9 rfl rfl) x_nilm)))) (x_bw68 2 rfl rfl) (by decide +kernel) ⟨Nat.le_of_ble_eq_true rfl, Nat.le_of_ble_eq_true rfl⟩) hY0 hI rfl clX_d37 hl.1 (Nat.le_of_ble_eq_true rfl) (Nat.le_of_ble_eq_true rfl) (Nat.le_of_ble_eq_true rfl) (y_cons (y_cref hY_this rfl) (y_cons ⟨_, rfl, by show (0 : Int) ≤ _; omega, by show _ ≤ (9 : Int); omega⟩ (y_cons ⟨_, rfl, by show (0 : Int) ≤ _; omega, by show _ ≤ (4 : Int); omega⟩ y_nil))) rfl (y_recv rfl hY_this) trivial (y_sub_ef rfl) fun v Yn o Hn L ho hr ha hIn hx_ hE hP => ?_
          have hPo := hP _ _ _ _ _ rfl hs_bk hA_bk
          replace hs_bk := y_Efld hE hY_this rfl (by decide) (by decide) hs_bk
          replace hs_fa := y_Efld hE hY_this rfl (by decide) (by decide) hs_fa
          replace hs_fb := y_Efld hE hY_this rfl (by decide) (by decide) hs_fb
          replace hA_bk := hA_bk.kept (y_Earr hE hY_bk rfl (by decide))
          replace hY_this := y_ext hx_ hI.1 hY_this
          replace hY_bk := y_ext hx_ hI.1 hY_bk
          obtain ⟨r37, hg_r37⟩ : ∃ r37 : Int32, fb (10 + 5 * (b).toInt.toNat + ((0 : Int32)).toInt.toNat) = r37 := ⟨_, rfl⟩
          rw [hg_r37] at hPo
          obtain rfl := hPo
          clear ho hr ha hE hP hI hx_
          rename x_I _ _ _ _ _ _ _ _ _ _ => hI
          replace hg_r37 : fb (10 + 5 * b.toInt.toNat) = r37 := by rw [← hg_r37]; exact congrArg _ (by rw [show (0 : Int32).toInt.toNat = 0 by decide]; omega)
          refine lv_aload_n hx hb clX_d40 rfl (lv_at hl 0 rfl) ?_
          refine lv_iload_n hx hb clX_d41 rfl (lv_at hl 1 rfl) ?_
          refine lv_iconst hx hb clX_d42 (v := 0) (by decide) ?_
          refine y_call (z := (0, 99, 3, some 17, xM145)) (av := [.ref this, .int a, .int (0 : Int32)]) (rest := [.int r37]) (y_cokV (n := 2) (ci := 12) X ym_ofHill rfl rfl rfl (x_cons (x_bw67 15 rfl rfl) (x_cons (x_bw68 1 rfl rfl) (x_cons (x_at 31 (by decide +kernel) rfl) (x_cons (x_bw0 9 rfl rfl) x_nilm)))) (x_bw68 2 rfl rfl) (by decide +kernel) ⟨Nat.le_of_ble_eq_true rfl, Nat.le_of_ble_eq_true rfl⟩) hY0 hI rfl clX_d43 hl.1 (Nat.le_of_ble_eq_true rfl) (Nat.le_of_ble_eq_true rfl) (Nat.le_of_ble_eq_true rfl) (y_cons (y_cref hY_this rfl) (y_cons ⟨_, rfl, by show (0 : Int) ≤ _; omega, by show _ ≤ (9 : Int); omega⟩ (y_cons ⟨_, rfl, by show (0 : Int) ≤ _; omega, by show _ ≤ (4 : Int); omega⟩ y_nil))) rfl (y_recv rfl hY_this) trivial (y_sub_ef rfl) fun v Yn o Hn L ho hr ha hIn hx_ hE hP => ?_
          have hPo := hP _ _ _ _ _ rfl hs_bk hA_bk
          replace hs_bk := y_Efld hE hY_this rfl (by decide) (by decide) hs_bk
          replace hs_fa := y_Efld hE hY_this rfl (by decide) (by decide) hs_fa
          replace hs_fb := y_Efld hE hY_this rfl (by decide) (by decide) hs_fb
          replace hA_bk := hA_bk.kept (y_Earr hE hY_bk rfl (by decide))
          replace hY_this := y_ext hx_ hI.1 hY_this
          replace hY_bk := y_ext hx_ hI.1 hY_bk
          obtain ⟨r43, hg_r43⟩ : ∃ r43 : Int32, fb (10 + 5 * (a).toInt.toNat + ((0 : Int32)).toInt.toNat) = r43 := ⟨_, rfl⟩
          rw [hg_r43] at hPo
          obtain rfl := hPo
          clear ho hr ha hE hP hI hx_
          rename x_I _ _ _ _ _ _ _ _ _ _ => hI
          replace hg_r43 : fb (10 + 5 * a.toInt.toNat) = r43 := by rw [← hg_r43]; exact congrArg _ (by rw [show (0 : Int32).toInt.toNat = 0 by decide]; omega)
          refine lv_isub hx hb clX_d46 ?_
          generalize hg_z46 : r37 - r43 = z46
          refine lv_istore hx hb clX_d47 hl (by decide) (lv' := [(4, .int z46), (0, .ref this), (1, .int a), (2, .int b), (3, .int t)]) rfl fun ls hl => ?_
          refine lv_aload_n hx hb clX_d49 rfl (lv_at hl 1 rfl) ?_
          refine lv_iload_n hx hb clX_d50 rfl (lv_at hl 3 rfl) ?_
          refine lv_iconst hx hb clX_d51 (v := 1) (by decide) ?_
          have ec1 : (1 : Int32).toInt = 1 := by decide
          refine y_call (z := (0, 99, 3, some 17, xM145)) (av := [.ref this, .int b, .int (1 : Int32)]) (rest := []) (y_cokV (n := 2) (ci := 12) X ym_ofHill rfl rfl rfl (x_cons (x_bw67 15 rfl rfl) (x_cons (x_bw68 1 rfl rfl) (x_cons (x_at 31 (by decide +kernel) rfl) (x_cons (x_bw0 9 rfl rfl) x_nilm)))) (x_bw68 2 rfl rfl) (by decide +kernel) ⟨Nat.le_of_ble_eq_true rfl, Nat.le_of_ble_eq_true rfl⟩) hY0 hI rfl clX_d52 hl.1 (Nat.le_of_ble_eq_true rfl) (Nat.le_of_ble_eq_true rfl) (Nat.le_of_ble_eq_true rfl) (y_cons (y_cref hY_this rfl) (y_cons ⟨_, rfl, by show (0 : Int) ≤ _; omega, by show _ ≤ (9 : Int); omega⟩ (y_cons ⟨_, rfl, by show (0 : Int) ≤ _; omega, by show _ ≤ (4 : Int); omega⟩ y_nil))) rfl (y_recv rfl hY_this) trivial (y_sub_ef rfl) fun v Yn o Hn L ho hr ha hIn hx_ hE hP => ?_
          have hPo := hP _ _ _ _ _ rfl hs_bk hA_bk
          replace hs_bk := y_Efld hE hY_this rfl (by decide) (by decide) hs_bk
          replace hs_fa := y_Efld hE hY_this rfl (by decide) (by decide) hs_fa
          replace hs_fb := y_Efld hE hY_this rfl (by decide) (by decide) hs_fb
          replace hA_bk := hA_bk.kept (y_Earr hE hY_bk rfl (by decide))
          replace hY_this := y_ext hx_ hI.1 hY_this
          replace hY_bk := y_ext hx_ hI.1 hY_bk
          obtain ⟨r52, hg_r52⟩ : ∃ r52 : Int32, fb (10 + 5 * (b).toInt.toNat + ((1 : Int32)).toInt.toNat) = r52 := ⟨_, rfl⟩
          rw [hg_r52] at hPo
          obtain rfl := hPo
          clear ho hr ha hE hP hI hx_
          rename x_I _ _ _ _ _ _ _ _ _ _ => hI
          replace hg_r52 : fb (11 + 5 * b.toInt.toNat) = r52 := by rw [← hg_r52]; exact congrArg _ (by rw [show (1 : Int32).toInt.toNat = 1 by decide]; omega)
          refine lv_aload_n hx hb clX_d55 rfl (lv_at hl 1 rfl) ?_
          refine lv_iload_n hx hb clX_d56 rfl (lv_at hl 2 rfl) ?_
          refine lv_iconst hx hb clX_d57 (v := 1) (by decide) ?_
          refine y_call (z := (0, 99, 3, some 17, xM145)) (av := [.ref this, .int a, .int (1 : Int32)]) (rest := [.int r52]) (y_cokV (n := 2) (ci := 12) X ym_ofHill rfl rfl rfl (x_cons (x_bw67 15 rfl rfl) (x_cons (x_bw68 1 rfl rfl) (x_cons (x_at 31 (by decide +kernel) rfl) (x_cons (x_bw0 9 rfl rfl) x_nilm)))) (x_bw68 2 rfl rfl) (by decide +kernel) ⟨Nat.le_of_ble_eq_true rfl, Nat.le_of_ble_eq_true rfl⟩) hY0 hI rfl clX_d58 hl.1 (Nat.le_of_ble_eq_true rfl) (Nat.le_of_ble_eq_true rfl) (Nat.le_of_ble_eq_true rfl) (y_cons (y_cref hY_this rfl) (y_cons ⟨_, rfl, by show (0 : Int) ≤ _; omega, by show _ ≤ (9 : Int); omega⟩ (y_cons ⟨_, rfl, by show (0 : Int) ≤ _; omega, by show _ ≤ (4 : Int); omega⟩ y_nil))) rfl (y_recv rfl hY_this) trivial (y_sub_ef rfl) fun v Yn o Hn L ho hr ha hIn hx_ hE hP => ?_
          have hPo := hP _ _ _ _ _ rfl hs_bk hA_bk
          replace hs_bk := y_Efld hE hY_this rfl (by decide) (by decide) hs_bk
          replace hs_fa := y_Efld hE hY_this rfl (by decide) (by decide) hs_fa
          replace hs_fb := y_Efld hE hY_this rfl (by decide) (by decide) hs_fb
          replace hA_bk := hA_bk.kept (y_Earr hE hY_bk rfl (by decide))
          replace hY_this := y_ext hx_ hI.1 hY_this
          replace hY_bk := y_ext hx_ hI.1 hY_bk
          obtain ⟨r58, hg_r58⟩ : ∃ r58 : Int32, fb (10 + 5 * (a).toInt.toNat + ((1 : Int32)).toInt.toNat) = r58 := ⟨_, rfl⟩
          rw [hg_r58] at hPo
          obtain rfl := hPo
          clear ho hr ha hE hP hI hx_
          rename x_I _ _ _ _ _ _ _ _ _ _ => hI
          replace hg_r58 : fb (11 + 5 * a.toInt.toNat) = r58 := by rw [← hg_r58]; exact congrArg _ (by rw [show (1 : Int32).toInt.toNat = 1 by decide]; omega)
          refine lv_isub hx hb clX_d61 ?_
          generalize hg_z61 : r52 - r58 = z61
          refine lv_istore hx hb clX_d62 hl (by decide) (lv' := [(5, .int z61), (4, .int z46), (0, .ref this), (1, .int a), (2, .int b), (3, .int t)]) rfl fun ls hl => ?_
          refine lv_iload hx hb clX_d64 (lv_at hl 1 rfl) ?_
          refine lv_iload hx hb clX_d66 (lv_at hl 1 rfl) ?_
          refine lv_imul hx hb clX_d68 ?_
          generalize hg_z68 : z46 * z46 = z68
          refine lv_iload hx hb clX_d69 (lv_at hl 0 rfl) ?_
          refine lv_iload hx hb clX_d71 (lv_at hl 0 rfl) ?_
          refine lv_imul hx hb clX_d73 ?_
          generalize hg_z73 : z61 * z61 = z73
          refine lv_iadd hx hb clX_d74 ?_
          generalize hg_z74 : z68 + z73 = z74
          refine lv_istore hx hb clX_d75 hl (by decide) (lv' := [(6, .int z74), (5, .int z61), (4, .int z46), (0, .ref this), (1, .int a), (2, .int b), (3, .int t)]) rfl fun ls hl => ?_
          refine lv_aload_n hx hb clX_d77 rfl (lv_at hl 3 rfl) ?_
          refine lv_iload_n hx hb clX_d78 rfl (lv_at hl 6 rfl) ?_
          refine lv_iconst hx hb clX_d79 (v := 1) (by decide) ?_
          refine y_call (z := (0, 123, 3, some 17, xM163)) (av := [.ref this, .int t, .int (1 : Int32)]) (rest := []) (y_cokV (n := 2) (ci := 12) X ym_ofThing rfl rfl rfl (x_cons (x_bw70 7 rfl rfl) (x_cons (x_bw70 9 rfl rfl) (x_cons (x_at 37 (by decide +kernel) rfl) (x_cons (x_bw0 9 rfl rfl) x_nilm)))) (x_bw70 10 rfl rfl) (by decide +kernel) ⟨Nat.le_of_ble_eq_true rfl, Nat.le_of_ble_eq_true rfl⟩) hY0 hI rfl clX_d80 hl.1 (Nat.le_of_ble_eq_true rfl) (Nat.le_of_ble_eq_true rfl) (Nat.le_of_ble_eq_true rfl) (y_cons (y_cref hY_this rfl) (y_cons ⟨_, rfl, by show (0 : Int) ≤ _; omega, by show _ ≤ (7 : Int); omega⟩ (y_cons ⟨_, rfl, by show (0 : Int) ≤ _; omega, by show _ ≤ (6 : Int); omega⟩ y_nil))) rfl (y_recv rfl hY_this) trivial (y_sub_ef rfl) fun v Yn o Hn L ho hr ha hIn hx_ hE hP => ?_
          have hPo := hP _ _ _ _ _ rfl hs_bk hA_bk
          replace hs_bk := y_Efld hE hY_this rfl (by decide) (by decide) hs_bk
          replace hs_fa := y_Efld hE hY_this rfl (by decide) (by decide) hs_fa
          replace hs_fb := y_Efld hE hY_this rfl (by decide) (by decide) hs_fb
          replace hA_bk := hA_bk.kept (y_Earr hE hY_bk rfl (by decide))
          replace hY_this := y_ext hx_ hI.1 hY_this
          replace hY_bk := y_ext hx_ hI.1 hY_bk
          obtain ⟨r80, hg_r80⟩ : ∃ r80 : Int32, fb (60 + 7 * (t).toInt.toNat + ((1 : Int32)).toInt.toNat) = r80 := ⟨_, rfl⟩
          rw [hg_r80] at hPo
          obtain rfl := hPo
          clear ho hr ha hE hP hI hx_
          rename x_I _ _ _ _ _ _ _ _ _ _ => hI
          replace hg_r80 : fb (61 + 7 * t.toInt.toNat) = r80 := by rw [← hg_r80]; exact congrArg _ (by rw [show (1 : Int32).toInt.toNat = 1 by decide]; omega)
          refine lv_aload_n hx hb clX_d83 rfl (lv_at hl 3 rfl) ?_
          refine lv_iload_n hx hb clX_d84 rfl (lv_at hl 4 rfl) ?_
          refine lv_iconst hx hb clX_d85 (v := 0) (by decide) ?_
          refine y_call (z := (0, 99, 3, some 17, xM145)) (av := [.ref this, .int a, .int (0 : Int32)]) (rest := [.int r80]) (y_cokV (n := 2) (ci := 12) X ym_ofHill rfl rfl rfl (x_cons (x_bw67 15 rfl rfl) (x_cons (x_bw68 1 rfl rfl) (x_cons (x_at 31 (by decide +kernel) rfl) (x_cons (x_bw0 9 rfl rfl) x_nilm)))) (x_bw68 2 rfl rfl) (by decide +kernel) ⟨Nat.le_of_ble_eq_true rfl, Nat.le_of_ble_eq_true rfl⟩) hY0 hI rfl clX_d86 hl.1 (Nat.le_of_ble_eq_true rfl) (Nat.le_of_ble_eq_true rfl) (Nat.le_of_ble_eq_true rfl) (y_cons (y_cref hY_this rfl) (y_cons ⟨_, rfl, by show (0 : Int) ≤ _; omega, by show _ ≤ (9 : Int); omega⟩ (y_cons ⟨_, rfl, by show (0 : Int) ≤ _; omega, by show _ ≤ (4 : Int); omega⟩ y_nil))) rfl (y_recv rfl hY_this) trivial (y_sub_ef rfl) fun v Yn o Hn L ho hr ha hIn hx_ hE hP => ?_
          have hPo := hP _ _ _ _ _ rfl hs_bk hA_bk
          replace hs_bk := y_Efld hE hY_this rfl (by decide) (by decide) hs_bk
          replace hs_fa := y_Efld hE hY_this rfl (by decide) (by decide) hs_fa
          replace hs_fb := y_Efld hE hY_this rfl (by decide) (by decide) hs_fb
          replace hA_bk := hA_bk.kept (y_Earr hE hY_bk rfl (by decide))
          replace hY_this := y_ext hx_ hI.1 hY_this
          replace hY_bk := y_ext hx_ hI.1 hY_bk
          obtain ⟨r86, hg_r86⟩ : ∃ r86 : Int32, fb (10 + 5 * (a).toInt.toNat + ((0 : Int32)).toInt.toNat) = r86 := ⟨_, rfl⟩
          rw [hg_r86] at hPo
          obtain rfl := hPo
          clear ho hr ha hE hP hI hx_
          rename x_I _ _ _ _ _ _ _ _ _ _ => hI
          replace hg_r86 : fb (10 + 5 * a.toInt.toNat) = r86 := by rw [← hg_r86]; exact congrArg _ (by rw [show (0 : Int32).toInt.toNat = 0 by decide]; omega)
          refine lv_isub hx hb clX_d89 ?_
          generalize hg_z89 : r80 - r86 = z89
          refine lv_iload hx hb clX_d90 (lv_at hl 2 rfl) ?_
          refine lv_imul hx hb clX_d92 ?_
          generalize hg_z92 : z89 * z46 = z92
          refine lv_aload_n hx hb clX_d93 rfl (lv_at hl 3 rfl) ?_
          refine lv_iload_n hx hb clX_d94 rfl (lv_at hl 6 rfl) ?_
          refine lv_iconst hx hb clX_d95 (v := 2) (by decide) ?_
          have ec2 : (2 : Int32).toInt = 2 := by decide
          refine y_call (z := (0, 123, 3, some 17, xM163)) (av := [.ref this, .int t, .int (2 : Int32)]) (rest := [.int z92]) (y_cokV (n := 2) (ci := 12) X ym_ofThing rfl rfl rfl (x_cons (x_bw70 7 rfl rfl) (x_cons (x_bw70 9 rfl rfl) (x_cons (x_at 37 (by decide +kernel) rfl) (x_cons (x_bw0 9 rfl rfl) x_nilm)))) (x_bw70 10 rfl rfl) (by decide +kernel) ⟨Nat.le_of_ble_eq_true rfl, Nat.le_of_ble_eq_true rfl⟩) hY0 hI rfl clX_d96 hl.1 (Nat.le_of_ble_eq_true rfl) (Nat.le_of_ble_eq_true rfl) (Nat.le_of_ble_eq_true rfl) (y_cons (y_cref hY_this rfl) (y_cons ⟨_, rfl, by show (0 : Int) ≤ _; omega, by show _ ≤ (7 : Int); omega⟩ (y_cons ⟨_, rfl, by show (0 : Int) ≤ _; omega, by show _ ≤ (6 : Int); omega⟩ y_nil))) rfl (y_recv rfl hY_this) trivial (y_sub_ef rfl) fun v Yn o Hn L ho hr ha hIn hx_ hE hP => ?_
          have hPo := hP _ _ _ _ _ rfl hs_bk hA_bk
          replace hs_bk := y_Efld hE hY_this rfl (by decide) (by decide) hs_bk
          replace hs_fa := y_Efld hE hY_this rfl (by decide) (by decide) hs_fa
          replace hs_fb := y_Efld hE hY_this rfl (by decide) (by decide) hs_fb
          replace hA_bk := hA_bk.kept (y_Earr hE hY_bk rfl (by decide))
          replace hY_this := y_ext hx_ hI.1 hY_this
          replace hY_bk := y_ext hx_ hI.1 hY_bk
          obtain ⟨r96, hg_r96⟩ : ∃ r96 : Int32, fb (60 + 7 * (t).toInt.toNat + ((2 : Int32)).toInt.toNat) = r96 := ⟨_, rfl⟩
          rw [hg_r96] at hPo
          obtain rfl := hPo
          clear ho hr ha hE hP hI hx_
          rename x_I _ _ _ _ _ _ _ _ _ _ => hI
          replace hg_r96 : fb (62 + 7 * t.toInt.toNat) = r96 := by rw [← hg_r96]; exact congrArg _ (by rw [show (2 : Int32).toInt.toNat = 2 by decide]; omega)
          refine lv_aload_n hx hb clX_d99 rfl (lv_at hl 3 rfl) ?_
          refine lv_iload_n hx hb clX_d100 rfl (lv_at hl 4 rfl) ?_
          refine lv_iconst hx hb clX_d101 (v := 1) (by decide) ?_
          refine y_call (z := (0, 99, 3, some 17, xM145)) (av := [.ref this, .int a, .int (1 : Int32)]) (rest := [.int r96, .int z92]) (y_cokV (n := 2) (ci := 12) X ym_ofHill rfl rfl rfl (x_cons (x_bw67 15 rfl rfl) (x_cons (x_bw68 1 rfl rfl) (x_cons (x_at 31 (by decide +kernel) rfl) (x_cons (x_bw0 9 rfl rfl) x_nilm)))) (x_bw68 2 rfl rfl) (by decide +kernel) ⟨Nat.le_of_ble_eq_true rfl, Nat.le_of_ble_eq_true rfl⟩) hY0 hI rfl clX_d102 hl.1 (Nat.le_of_ble_eq_true rfl) (Nat.le_of_ble_eq_true rfl) (Nat.le_of_ble_eq_true rfl) (y_cons (y_cref hY_this rfl) (y_cons ⟨_, rfl, by show (0 : Int) ≤ _; omega, by show _ ≤ (9 : Int); omega⟩ (y_cons ⟨_, rfl, by show (0 : Int) ≤ _; omega, by show _ ≤ (4 : Int); omega⟩ y_nil))) rfl (y_recv rfl hY_this) trivial (y_sub_ef rfl) fun v Yn o Hn L ho hr ha hIn hx_ hE hP => ?_
          have hPo := hP _ _ _ _ _ rfl hs_bk hA_bk
          replace hs_bk := y_Efld hE hY_this rfl (by decide) (by decide) hs_bk
          replace hs_fa := y_Efld hE hY_this rfl (by decide) (by decide) hs_fa
          replace hs_fb := y_Efld hE hY_this rfl (by decide) (by decide) hs_fb
          replace hA_bk := hA_bk.kept (y_Earr hE hY_bk rfl (by decide))
          replace hY_this := y_ext hx_ hI.1 hY_this
          replace hY_bk := y_ext hx_ hI.1 hY_bk
          obtain ⟨r102, hg_r102⟩ : ∃ r102 : Int32, fb (10 + 5 * (a).toInt.toNat + ((1 : Int32)).toInt.toNat) = r102 := ⟨_, rfl⟩
          rw [hg_r102] at hPo
          obtain rfl := hPo
          clear ho hr ha hE hP hI hx_
          rename x_I _ _ _ _ _ _ _ _ _ _ => hI
          replace hg_r102 : fb (11 + 5 * a.toInt.toNat) = r102 := by rw [← hg_r102]; exact congrArg _ (by rw [show (1 : Int32).toInt.toNat = 1 by decide]; omega)
          refine lv_isub hx hb clX_d105 ?_
          generalize hg_z105 : r96 - r102 = z105
          refine lv_iload hx hb clX_d106 (lv_at hl 1 rfl) ?_
          refine lv_imul hx hb clX_d108 ?_
          generalize hg_z108 : z105 * z61 = z108
          refine lv_iadd hx hb clX_d109 ?_
          generalize hg_z109 : z92 + z108 = z109
          refine lv_istore hx hb clX_d110 hl (by decide) (lv' := [(7, .int z109), (6, .int z74), (5, .int z61), (4, .int z46), (0, .ref this), (1, .int a), (2, .int b), (3, .int t)]) rfl fun ls hl => ?_
          refine lv_iload hx hb clX_d112 (lv_at hl 0 rfl) ?_
          refine lv_if_le hx hb clX_d114 (tgt := 124) (by decide) (fun q114 => ?_) (fun q114 => ?_)
          · have q114_ : z109.toInt ≤ (0 : Int32).toInt := x_le32.mp q114
            have hdx : m_ln fb a.toInt.toNat b.toInt.toNat 2 = z46 := by rw [← hg_z46, ← hg_r37, ← hg_r43]; rfl
            have hdy : m_ln fb a.toInt.toNat b.toInt.toNat 3 = z61 := by rw [← hg_z61, ← hg_r52, ← hg_r58]; rfl
            have hdd : m_ln fb a.toInt.toNat b.toInt.toNat 7 = z74 := by rw [← hg_z74, ← hg_z68, ← hg_z73, ← hdx, ← hdy]; rfl
            have hal : m_al (m_ln fb a.toInt.toNat b.toInt.toNat) (fb (61 + 7 * t.toInt.toNat)) (fb (62 + 7 * t.toInt.toNat)) = z109 := by rw [← hg_z109, ← hg_z92, ← hg_z108, ← hg_z89, ← hg_z105, ← hg_r80, ← hg_r86, ← hg_r96, ← hg_r102, ← hdx, ← hdy]; rfl
            have hno : ¬ m_clOkR fb a b t := fun q9 => by have h7 := q9.2.2.2.2; unfold m_clB m_bt at h7; rw [hal, hdd, Bool.and_eq_true, decide_eq_true_eq, decide_eq_true_eq] at h7; omega
            refine lv_aload_n hx hb clX_d124 rfl (lv_at hl 4 rfl) ?_
            refine y_call (z := (0, 126, 1, some 17, xM164)) (av := [.ref this]) (rest := []) (y_cokV (n := 0) (ci := 12) X ym_no rfl rfl rfl (x_cons (x_bw70 11 rfl rfl) (x_cons (x_bw70 13 rfl rfl) (x_cons (x_at 38 (by decide +kernel) rfl) (x_cons (x_bw0 9 rfl rfl) x_nilm)))) (x_bw70 14 rfl rfl) (by decide +kernel) ⟨Nat.le_of_ble_eq_true rfl, Nat.le_of_ble_eq_true rfl⟩) hY0 hI rfl clX_d125 hl.1 (Nat.le_of_ble_eq_true rfl) (Nat.le_of_ble_eq_true rfl) (Nat.le_of_ble_eq_true rfl) (y_cons (y_cref hY_this rfl) y_nil) rfl (y_recv rfl hY_this) trivial (y_sub_ef rfl) fun v Yn o Hn L ho hr ha hIn hx_ hE hP => ?_
            replace hs_bk := y_Efld hE hY_this rfl (by decide) (by decide) hs_bk
            replace hs_fa := y_Efld hE hY_this rfl (by decide) (by decide) hs_fa
            replace hs_fb := y_Efld hE hY_this rfl (by decide) (by decide) hs_fb
            replace hA_bk := hA_bk.kept (y_Earr hE hY_bk rfl (by decide))
            replace hY_this := y_ext hx_ hI.1 hY_this
            replace hY_bk := y_ext hx_ hI.1 hY_bk
            have hPb := hP
            obtain rfl := hPb
            clear ho hr ha hE hP hI hx_
            rename x_I _ _ _ _ _ _ _ _ _ _ => hI
            exact y_ireturn B hI rfl rfl rfl List.mem_cons_self ⟨_, rfl, ⟨_, rfl, x_i32 _⟩⟩ (x_cs.mono B.2.2.2.2.2 (y_mon B hI)) (fun t' b' w0' w1' w2' f' h1 h2 h3 h4 => by cases h1; cases h2.symm.trans hs0; cases z_uniq h4 hA0 h3 hcn; exact ⟨_, rfl, ⟨fun q9 => absurd q9 hno, fun _ => by decide⟩, ⟨fun _ a9 b9 h9 => by cases hfa0.symm.trans h9.1; cases hfb0.symm.trans h9.2; exact ⟨hs_fa, hs_fb⟩, fun q9 => absurd q9 (by decide)⟩⟩) (Nat.le_refl _) (Nat.le_refl _) clX_d128
          · have q114_ : (0 : Int32).toInt < z109.toInt := Int.not_le.mp fun q => q114 (x_le32.mpr q)
            refine lv_iload hx hb clX_d117 (lv_at hl 0 rfl) ?_
            refine lv_iload hx hb clX_d119 (lv_at hl 1 rfl) ?_
            refine lv_icmp_lt hx hb clX_d121 (tgt := 129) (by decide) (fun q121 => ?_) (fun q121 => ?_)
            · have q121_ : z109.toInt < z74.toInt := x_lt32.mp q121
              have hdx : m_ln fb a.toInt.toNat b.toInt.toNat 2 = z46 := by rw [← hg_z46, ← hg_r37, ← hg_r43]; rfl
              have hdy : m_ln fb a.toInt.toNat b.toInt.toNat 3 = z61 := by rw [← hg_z61, ← hg_r52, ← hg_r58]; rfl
              have hdd : m_ln fb a.toInt.toNat b.toInt.toNat 7 = z74 := by rw [← hg_z74, ← hg_z68, ← hg_z73, ← hdx, ← hdy]; rfl
              have hal : m_al (m_ln fb a.toInt.toNat b.toInt.toNat) (fb (61 + 7 * t.toInt.toNat)) (fb (62 + 7 * t.toInt.toNat)) = z109 := by rw [← hg_z109, ← hg_z92, ← hg_z108, ← hg_z89, ← hg_z105, ← hg_r80, ← hg_r86, ← hg_r96, ← hg_r102, ← hdx, ← hdy]; rfl
              have hok : m_clOkR fb a b t := ⟨hh9.1, hh9.2.1, hh9.2.2.1, hh9.2.2.2, by unfold m_clB m_bt; rw [hal, hdd, decide_eq_true (by omega), decide_eq_true (by omega)]; rfl⟩
              refine lv_aload_n hx hb clX_d129 rfl (lv_at hl 4 rfl) ?_
              refine lv_aload_n hx hb clX_d130 rfl (lv_at hl 4 rfl) ?_
              refine lv_iload_n hx hb clX_d131 rfl (lv_at hl 5 rfl) ?_
              refine lv_iconst hx hb clX_d132 (v := 2) (by decide) ?_
              refine y_call (z := (0, 99, 3, some 17, xM145)) (av := [.ref this, .int a, .int (2 : Int32)]) (rest := [.ref this]) (y_cokV (n := 2) (ci := 12) X ym_ofHill rfl rfl rfl (x_cons (x_bw67 15 rfl rfl) (x_cons (x_bw68 1 rfl rfl) (x_cons (x_at 31 (by decide +kernel) rfl) (x_cons (x_bw0 9 rfl rfl) x_nilm)))) (x_bw68 2 rfl rfl) (by decide +kernel) ⟨Nat.le_of_ble_eq_true rfl, Nat.le_of_ble_eq_true rfl⟩) hY0 hI rfl clX_d133 hl.1 (Nat.le_of_ble_eq_true rfl) (Nat.le_of_ble_eq_true rfl) (Nat.le_of_ble_eq_true rfl) (y_cons (y_cref hY_this rfl) (y_cons ⟨_, rfl, by show (0 : Int) ≤ _; omega, by show _ ≤ (9 : Int); omega⟩ (y_cons ⟨_, rfl, by show (0 : Int) ≤ _; omega, by show _ ≤ (4 : Int); omega⟩ y_nil))) rfl (y_recv rfl hY_this) trivial (y_sub_ef rfl) fun v Yn o Hn L ho hr ha hIn hx_ hE hP => ?_
              have hPo := hP _ _ _ _ _ rfl hs_bk hA_bk
              replace hs_bk := y_Efld hE hY_this rfl (by decide) (by decide) hs_bk
              replace hs_fa := y_Efld hE hY_this rfl (by decide) (by decide) hs_fa
              replace hs_fb := y_Efld hE hY_this rfl (by decide) (by decide) hs_fb
              replace hA_bk := hA_bk.kept (y_Earr hE hY_bk rfl (by decide))
              replace hY_this := y_ext hx_ hI.1 hY_this
              replace hY_bk := y_ext hx_ hI.1 hY_bk
              obtain ⟨r133, hg_r133⟩ : ∃ r133 : Int32, fb (10 + 5 * (a).toInt.toNat + ((2 : Int32)).toInt.toNat) = r133 := ⟨_, rfl⟩
              rw [hg_r133] at hPo
              obtain rfl := hPo
              clear ho hr ha hE hP hI hx_
              rename x_I _ _ _ _ _ _ _ _ _ _ => hI
              replace hg_r133 : fb (12 + 5 * a.toInt.toNat) = r133 := by rw [← hg_r133]; exact congrArg _ (by rw [show (2 : Int32).toInt.toNat = 2 by decide]; omega)
              refine lv_iload hx hb clX_d136 (lv_at hl 1 rfl) ?_
              refine lv_imul hx hb clX_d138 ?_
              generalize hg_z138 : r133 * z74 = z138
              refine lv_aload_n hx hb clX_d139 rfl (lv_at hl 4 rfl) ?_
              refine lv_iload_n hx hb clX_d140 rfl (lv_at hl 6 rfl) ?_
              refine lv_iconst hx hb clX_d141 (v := 2) (by decide) ?_
              refine y_call (z := (0, 99, 3, some 17, xM145)) (av := [.ref this, .int b, .int (2 : Int32)]) (rest := [.int z138, .ref this]) (y_cokV (n := 2) (ci := 12) X ym_ofHill rfl rfl rfl (x_cons (x_bw67 15 rfl rfl) (x_cons (x_bw68 1 rfl rfl) (x_cons (x_at 31 (by decide +kernel) rfl) (x_cons (x_bw0 9 rfl rfl) x_nilm)))) (x_bw68 2 rfl rfl) (by decide +kernel) ⟨Nat.le_of_ble_eq_true rfl, Nat.le_of_ble_eq_true rfl⟩) hY0 hI rfl clX_d142 hl.1 (Nat.le_of_ble_eq_true rfl) (Nat.le_of_ble_eq_true rfl) (Nat.le_of_ble_eq_true rfl) (y_cons (y_cref hY_this rfl) (y_cons ⟨_, rfl, by show (0 : Int) ≤ _; omega, by show _ ≤ (9 : Int); omega⟩ (y_cons ⟨_, rfl, by show (0 : Int) ≤ _; omega, by show _ ≤ (4 : Int); omega⟩ y_nil))) rfl (y_recv rfl hY_this) trivial (y_sub_ef rfl) fun v Yn o Hn L ho hr ha hIn hx_ hE hP => ?_
              have hPo := hP _ _ _ _ _ rfl hs_bk hA_bk
              replace hs_bk := y_Efld hE hY_this rfl (by decide) (by decide) hs_bk
              replace hs_fa := y_Efld hE hY_this rfl (by decide) (by decide) hs_fa
              replace hs_fb := y_Efld hE hY_this rfl (by decide) (by decide) hs_fb
              replace hA_bk := hA_bk.kept (y_Earr hE hY_bk rfl (by decide))
              replace hY_this := y_ext hx_ hI.1 hY_this
              replace hY_bk := y_ext hx_ hI.1 hY_bk
              obtain ⟨r142, hg_r142⟩ : ∃ r142 : Int32, fb (10 + 5 * (b).toInt.toNat + ((2 : Int32)).toInt.toNat) = r142 := ⟨_, rfl⟩
              rw [hg_r142] at hPo
              obtain rfl := hPo
              clear ho hr ha hE hP hI hx_
              rename x_I _ _ _ _ _ _ _ _ _ _ => hI
              replace hg_r142 : fb (12 + 5 * b.toInt.toNat) = r142 := by rw [← hg_r142]; exact congrArg _ (by rw [show (2 : Int32).toInt.toNat = 2 by decide]; omega)
              refine lv_aload_n hx hb clX_d145 rfl (lv_at hl 4 rfl) ?_
              refine lv_iload_n hx hb clX_d146 rfl (lv_at hl 5 rfl) ?_
              refine lv_iconst hx hb clX_d147 (v := 2) (by decide) ?_
              refine y_call (z := (0, 99, 3, some 17, xM145)) (av := [.ref this, .int a, .int (2 : Int32)]) (rest := [.int r142, .int z138, .ref this]) (y_cokV (n := 2) (ci := 12) X ym_ofHill rfl rfl rfl (x_cons (x_bw67 15 rfl rfl) (x_cons (x_bw68 1 rfl rfl) (x_cons (x_at 31 (by decide +kernel) rfl) (x_cons (x_bw0 9 rfl rfl) x_nilm)))) (x_bw68 2 rfl rfl) (by decide +kernel) ⟨Nat.le_of_ble_eq_true rfl, Nat.le_of_ble_eq_true rfl⟩) hY0 hI rfl clX_d148 hl.1 (Nat.le_of_ble_eq_true rfl) (Nat.le_of_ble_eq_true rfl) (Nat.le_of_ble_eq_true rfl) (y_cons (y_cref hY_this rfl) (y_cons ⟨_, rfl, by show (0 : Int) ≤ _; omega, by show _ ≤ (9 : Int); omega⟩ (y_cons ⟨_, rfl, by show (0 : Int) ≤ _; omega, by show _ ≤ (4 : Int); omega⟩ y_nil))) rfl (y_recv rfl hY_this) trivial (y_sub_ef rfl) fun v Yn o Hn L ho hr ha hIn hx_ hE hP => ?_
              have hPo := hP _ _ _ _ _ rfl hs_bk hA_bk
              replace hs_bk := y_Efld hE hY_this rfl (by decide) (by decide) hs_bk
              replace hs_fa := y_Efld hE hY_this rfl (by decide) (by decide) hs_fa
              replace hs_fb := y_Efld hE hY_this rfl (by decide) (by decide) hs_fb
              replace hA_bk := hA_bk.kept (y_Earr hE hY_bk rfl (by decide))
              replace hY_this := y_ext hx_ hI.1 hY_this
              replace hY_bk := y_ext hx_ hI.1 hY_bk
              obtain ⟨r148, hg_r148⟩ : ∃ r148 : Int32, fb (10 + 5 * (a).toInt.toNat + ((2 : Int32)).toInt.toNat) = r148 := ⟨_, rfl⟩
              rw [hg_r148] at hPo
              obtain rfl := hPo
              clear ho hr ha hE hP hI hx_
              rename x_I _ _ _ _ _ _ _ _ _ _ => hI
              replace hg_r148 : fb (12 + 5 * a.toInt.toNat) = r148 := by rw [← hg_r148]; exact congrArg _ (by rw [show (2 : Int32).toInt.toNat = 2 by decide]; omega)
              refine lv_isub hx hb clX_d151 ?_
              generalize hg_z151 : r142 - r148 = z151
              refine lv_iload hx hb clX_d152 (lv_at hl 0 rfl) ?_
              refine lv_imul hx hb clX_d154 ?_
              generalize hg_z154 : z151 * z109 = z154
              refine lv_iadd hx hb clX_d155 ?_
              generalize hg_z155 : z138 + z154 = z155
              refine lv_aload_n hx hb clX_d156 rfl (lv_at hl 4 rfl) ?_
              refine lv_iload_n hx hb clX_d157 rfl (lv_at hl 7 rfl) ?_
              refine lv_aload_n hx hb clX_d158 rfl (lv_at hl 4 rfl) ?_
              refine y_getf X (fl190 X.2.2.2.2.1) hI.1 hY_this rfl hs_bk clX_d159 ?_
              refine lv_iconst hx hb clX_d162 (v := 4) (by decide) ?_
              have ec4 : (4 : Int32).toInt = 4 := by decide
              refine y_iald X hI.1 hY_bk rfl hA_bk (by omega) (by show _ < (160 : Int); omega) clX_d163 ?_
              obtain ⟨e163, hg_e163⟩ : ∃ e163 : Int32, fb (4 : Int32).toInt.toNat = e163 := ⟨_, rfl⟩
              rw [hg_e163]
              refine y_call (z := (0, 133, 3, some 17, xM168)) (av := [.ref this, .int t, .int e163]) (rest := [.int z155, .ref this]) (y_cokV (n := 2) (ci := 12) X ym_highIn rfl rfl rfl (x_cons (x_bw71 7 rfl rfl) (x_cons (x_bw71 9 rfl rfl) (x_cons (x_at 39 (by decide +kernel) rfl) (x_cons (x_bw0 9 rfl rfl) x_nilm)))) (x_bw71 10 rfl rfl) (by decide +kernel) ⟨Nat.le_of_ble_eq_true rfl, Nat.le_of_ble_eq_true rfl⟩) hY0 hI rfl clX_d164 hl.1 (Nat.le_of_ble_eq_true rfl) (Nat.le_of_ble_eq_true rfl) (Nat.le_of_ble_eq_true rfl) (y_cons (y_cref hY_this rfl) (y_cons ⟨_, rfl, by show (0 : Int) ≤ _; omega, by show _ ≤ (7 : Int); omega⟩ (y_cons ⟨_, rfl, x_i32 _⟩ y_nil))) rfl (y_recv rfl hY_this) trivial (y_sub_ef rfl) fun v Yn o Hn L ho hr ha hIn hx_ hE hP => ?_
              have hPg := hP _ _ _ _ _ rfl hs_bk hcn hA_bk
              obtain rfl := hPg
              replace hs_bk := y_Efld hE hY_this rfl (by decide) (by decide) hs_bk
              replace hs_fa := y_Efld hE hY_this rfl (by decide) (by decide) hs_fa
              replace hs_fb := y_Efld hE hY_this rfl (by decide) (by decide) hs_fb
              replace hA_bk := hA_bk.kept (y_Earr hE hY_bk rfl (by decide))
              replace hY_this := y_ext hx_ hI.1 hY_this
              replace hY_bk := y_ext hx_ hI.1 hY_bk
              generalize hg_r164 : m_hr (fb (60 + 7 * t.toInt.toNat)) (fb (65 + 7 * t.toInt.toNat)) (fb (63 + 7 * t.toInt.toNat)) (fb (64 + 7 * t.toInt.toNat)) e163 = r164
              clear ho hr ha hE hP hI hx_
              rename x_I _ _ _ _ _ _ _ _ _ _ => hI
              refine lv_iload hx hb clX_d167 (lv_at hl 1 rfl) ?_
              refine lv_imul hx hb clX_d169 ?_
              generalize hg_z169 : r164 * z74 = z169
              refine lv_isub hx hb clX_d170 ?_
              generalize hg_z170 : z155 - z169 = z170
              obtain ⟨z171, hg_z171⟩ : ∃ z171 : Int64, z170.toInt64 = z171 := ⟨_, rfl⟩
              have h_z171 : z171.toInt = (z170).toInt := by rw [← hg_z171]; exact Int32.toInt_toInt64 _
              refine lv_i2l hx hb clX_d171 (v := z171) hg_z171 ?_
              refine lv_iload hx hb clX_d172 (lv_at hl 1 rfl) ?_
              obtain ⟨z174, hg_z174⟩ : ∃ z174 : Int64, z74.toInt64 = z174 := ⟨_, rfl⟩
              have h_z174 : z174.toInt = (z74).toInt := by rw [← hg_z174]; exact Int32.toInt_toInt64 _
              refine lv_i2l hx hb clX_d174 (v := z174) hg_z174 ?_
              have hU9 : m_clUR fb a.toInt.toNat b.toInt.toNat t.toInt.toNat = z171 := by unfold m_clUR; rw [← hg_z171, ← hg_z170, ← hg_z155, ← hg_z138, ← hg_z154, ← hg_z151, ← hg_z169, hal, hdd, show fb 4 = e163 from hg_e163, hg_r164, hg_r142, ← hg_r133, ← hg_r148]
              have hD9 : m_clD fb a.toInt.toNat b.toInt.toNat = z174 := by unfold m_clD; rw [hdd]; exact hg_z174
              have rs := x_rng z74
              refine y_call (z := (0, 154, 3, some 17, xM1009)) (av := [.ref this, .long z171, .long z174]) (rest := []) (y_cokV (n := 2) (ci := 12) X ym_tellsF rfl rfl rfl (x_cons (x_bw73 2 rfl rfl) (x_cons (x_bw73 4 rfl rfl) (x_cons (x_at 43 (by decide +kernel) rfl) (x_cons (x_bw0 9 rfl rfl) x_nilm)))) (x_bw73 5 rfl rfl) (by decide +kernel) ⟨Nat.le_of_ble_eq_true rfl, Nat.le_of_ble_eq_true rfl⟩) hY0 hI rfl clX_d175 hl.1 (Nat.le_of_ble_eq_true rfl) (Nat.le_of_ble_eq_true rfl) (Nat.le_of_ble_eq_true rfl) (y_cons (y_cref hY_this rfl) (y_cons ⟨_, rfl, x_i64 _⟩ (y_cons ⟨_, rfl, by show (1 : Int) ≤ _; omega, by show _ ≤ (9223372036854775807 : Int); omega⟩ y_nil))) rfl (y_recv rfl hY_this) trivial (y_sub_ef rfl) fun v Yn o Hn L ho hr ha hIn hx_ hE hP => ?_
              obtain ⟨hv9, hPf⟩ := hP _ _ _ rfl
              subst hv9
              replace hs_bk := y_Efld hE hY_this rfl (by decide) (by decide) hs_bk
              replace hA_bk := hA_bk.kept (y_Earr hE hY_bk rfl (by decide))
              replace hY_this := y_ext hx_ hI.1 hY_this
              replace hY_bk := y_ext hx_ hI.1 hY_bk
              clear ho hr ha hE hP hI hx_
              rename x_I _ _ _ _ _ _ _ _ _ _ => hI
              rw [← hU9, ← hD9] at hPf
              exact y_ireturn B hI rfl rfl rfl List.mem_cons_self ⟨_, rfl, ⟨_, rfl, x_i32 _⟩⟩ (x_cs.mono B.2.2.2.2.2 (y_mon B hI)) (fun t' b' w0' w1' w2' f' h1 h2 h3 h4 => by cases h1; cases h2.symm.trans hs0; cases z_uniq h4 hA0 h3 hcn; exact ⟨_, rfl, ⟨fun _ => rfl, fun q9 => absurd hok q9⟩, ⟨fun q9 => absurd rfl q9, fun _ => hPf⟩⟩) (Nat.le_refl _) (Nat.le_refl _) clX_d178
            · have q121_ : z74.toInt ≤ z109.toInt := Int.not_lt.mp fun q => q121 (x_lt32.mpr q)
              have hdx : m_ln fb a.toInt.toNat b.toInt.toNat 2 = z46 := by rw [← hg_z46, ← hg_r37, ← hg_r43]; rfl
              have hdy : m_ln fb a.toInt.toNat b.toInt.toNat 3 = z61 := by rw [← hg_z61, ← hg_r52, ← hg_r58]; rfl
              have hdd : m_ln fb a.toInt.toNat b.toInt.toNat 7 = z74 := by rw [← hg_z74, ← hg_z68, ← hg_z73, ← hdx, ← hdy]; rfl
              have hal : m_al (m_ln fb a.toInt.toNat b.toInt.toNat) (fb (61 + 7 * t.toInt.toNat)) (fb (62 + 7 * t.toInt.toNat)) = z109 := by rw [← hg_z109, ← hg_z92, ← hg_z108, ← hg_z89, ← hg_z105, ← hg_r80, ← hg_r86, ← hg_r96, ← hg_r102, ← hdx, ← hdy]; rfl
              have hno : ¬ m_clOkR fb a b t := fun q9 => by have h7 := q9.2.2.2.2; unfold m_clB m_bt at h7; rw [hal, hdd, Bool.and_eq_true, decide_eq_true_eq, decide_eq_true_eq] at h7; omega
              refine lv_aload_n hx hb clX_d124 rfl (lv_at hl 4 rfl) ?_
              refine y_call (z := (0, 126, 1, some 17, xM164)) (av := [.ref this]) (rest := []) (y_cokV (n := 0) (ci := 12) X ym_no rfl rfl rfl (x_cons (x_bw70 11 rfl rfl) (x_cons (x_bw70 13 rfl rfl) (x_cons (x_at 38 (by decide +kernel) rfl) (x_cons (x_bw0 9 rfl rfl) x_nilm)))) (x_bw70 14 rfl rfl) (by decide +kernel) ⟨Nat.le_of_ble_eq_true rfl, Nat.le_of_ble_eq_true rfl⟩) hY0 hI rfl clX_d125 hl.1 (Nat.le_of_ble_eq_true rfl) (Nat.le_of_ble_eq_true rfl) (Nat.le_of_ble_eq_true rfl) (y_cons (y_cref hY_this rfl) y_nil) rfl (y_recv rfl hY_this) trivial (y_sub_ef rfl) fun v Yn o Hn L ho hr ha hIn hx_ hE hP => ?_
              replace hs_bk := y_Efld hE hY_this rfl (by decide) (by decide) hs_bk
              replace hs_fa := y_Efld hE hY_this rfl (by decide) (by decide) hs_fa
              replace hs_fb := y_Efld hE hY_this rfl (by decide) (by decide) hs_fb
              replace hA_bk := hA_bk.kept (y_Earr hE hY_bk rfl (by decide))
              replace hY_this := y_ext hx_ hI.1 hY_this
              replace hY_bk := y_ext hx_ hI.1 hY_bk
              have hPb := hP
              obtain rfl := hPb
              clear ho hr ha hE hP hI hx_
              rename x_I _ _ _ _ _ _ _ _ _ _ => hI
              exact y_ireturn B hI rfl rfl rfl List.mem_cons_self ⟨_, rfl, ⟨_, rfl, x_i32 _⟩⟩ (x_cs.mono B.2.2.2.2.2 (y_mon B hI)) (fun t' b' w0' w1' w2' f' h1 h2 h3 h4 => by cases h1; cases h2.symm.trans hs0; cases z_uniq h4 hA0 h3 hcn; exact ⟨_, rfl, ⟨fun q9 => absurd q9 hno, fun _ => by decide⟩, ⟨fun _ a9 b9 h9 => by cases hfa0.symm.trans h9.1; cases hfb0.symm.trans h9.2; exact ⟨hs_fa, hs_fb⟩, fun q9 => absurd q9 (by decide)⟩⟩) (Nat.le_refl _) (Nat.le_refl _) clX_d128
        · have q26_ : r23.toInt = (0 : Int32).toInt := by rw [q26]
          have hno : ¬ m_clOkR fb a b t := fun q9 => by first | exact hout_r2 (by assumption) q9.1 | exact hout_r10 (by assumption) q9.2.1 | exact q9.2.2.1 (by assumption) | exact hout_r23 (by assumption) q9.2.2.2.1
          refine lv_aload_n hx hb clX_d29 rfl (lv_at hl 0 rfl) ?_
          refine y_call (z := (0, 102, 1, some 17, xM143)) (av := [.ref this]) (rest := []) (y_cokV (n := 0) (ci := 12) X ym_bad rfl rfl rfl (x_cons (x_bw68 3 rfl rfl) (x_cons (x_bw68 5 rfl rfl) (x_cons (x_at 32 (by decide +kernel) rfl) (x_cons (x_bw0 9 rfl rfl) x_nilm)))) (x_bw68 6 rfl rfl) (by decide +kernel) ⟨Nat.le_of_ble_eq_true rfl, Nat.le_of_ble_eq_true rfl⟩) hY0 hI rfl clX_d30 hl.1 (Nat.le_of_ble_eq_true rfl) (Nat.le_of_ble_eq_true rfl) (Nat.le_of_ble_eq_true rfl) (y_cons (y_cref hY_this rfl) y_nil) rfl (y_recv rfl hY_this) trivial (y_sub_ef rfl) fun v Yn o Hn L ho hr ha hIn hx_ hE hP => ?_
          replace hs_bk := y_Efld hE hY_this rfl (by decide) (by decide) hs_bk
          replace hs_fa := y_Efld hE hY_this rfl (by decide) (by decide) hs_fa
          replace hs_fb := y_Efld hE hY_this rfl (by decide) (by decide) hs_fb
          replace hA_bk := hA_bk.kept (y_Earr hE hY_bk rfl (by decide))
          replace hY_this := y_ext hx_ hI.1 hY_this
          replace hY_bk := y_ext hx_ hI.1 hY_bk
          have hPb := hP
          obtain rfl := hPb
          clear ho hr ha hE hP hI hx_
          rename x_I _ _ _ _ _ _ _ _ _ _ => hI
          exact y_ireturn B hI rfl rfl rfl List.mem_cons_self ⟨_, rfl, ⟨_, rfl, x_i32 _⟩⟩ (x_cs.mono B.2.2.2.2.2 (y_mon B hI)) (fun t' b' w0' w1' w2' f' h1 h2 h3 h4 => by cases h1; cases h2.symm.trans hs0; cases z_uniq h4 hA0 h3 hcn; exact ⟨_, rfl, ⟨fun q9 => absurd q9 hno, fun _ => by decide⟩, ⟨fun _ a9 b9 h9 => by cases hfa0.symm.trans h9.1; cases hfb0.symm.trans h9.2; exact ⟨hs_fa, hs_fb⟩, fun q9 => absurd q9 (by decide)⟩⟩) (Nat.le_refl _) (Nat.le_refl _) clX_d33

