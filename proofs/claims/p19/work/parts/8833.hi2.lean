def m_ahi (f : Nat → Int32) (t r : Int32) : Prop := (m_isT f t → r = m_hgh f t.toInt.toNat (f 4)) ∧ (¬ m_isT f t → r = -2)
theorem m_ahi.eq {f : Nat → Int32} {t r r' : Int32} (h1 : m_ahi f t r) (h2 : m_ahi f t r') : r = r' := by
  by_cases h : m_isT f t
  · exact (h1.1 h).trans (h2.1 h).symm
  · exact (h1.2 h).trans (h2.2 h).symm
theorem m_99_lt {v : Int32} (h : 99 < v.toInt) : m_99 v = 99 := by
  unfold m_99
  rw [if_neg (fun q => by have := x_lt32.mp q; rw [show (99 : Int32).toInt = 99 by decide] at this; omega)]
theorem m_99_le {v : Int32} (h : v.toInt ≤ 99) : m_99 v = v := by
  unfold m_99
  by_cases q : v < 99
  · rw [if_pos q]
  · rw [if_neg q]
    refine Int32.toInt_inj.mp ?_
    have : ¬ v.toInt < (99 : Int32).toInt := fun q1 => q (x_lt32.mpr q1)
    rw [show (99 : Int32).toInt = 99 by decide] at this ⊢
    omega
def z_Pm9 : yP := fun _ av _ _ v _ _ => ∀ x : Int32, av = [.int x] → v = some (.int (m_99 x))
theorem m9_d0 : decode xM167.2.1 0 = .ok (.iload_n 0, 1) := dz_ok (by decide +kernel)
theorem m9_d1 : decode xM167.2.1 1 = .ok (.bipush 99, 2) := dz_ok (by decide +kernel)
theorem m9_d3 : decode xM167.2.1 3 = .ok (.if_icmp .le 8, 3) := dz_ok (by decide +kernel)
theorem m9_d6 : decode xM167.2.1 6 = .ok (.bipush 99, 2) := dz_ok (by decide +kernel)
theorem m9_d8 : decode xM167.2.1 8 = .ok (.goto 4, 3) := dz_ok (by decide +kernel)
theorem m9_d11 : decode xM167.2.1 11 = .ok (.iload_n 0, 1) := dz_ok (by decide +kernel)
theorem m9_d12 : decode xM167.2.1 12 = .ok (.ireturn, 1) := dz_ok (by decide +kernel)
theorem ym_most99 : y_Met vwCl x_G x_Zs x_Tb x_Nb xM167 y_T z_Pm9 := by
  refine y_main (by decide +kernel) (by decide +kernel) x_Tb_good x_Nb_ok ?_
  intro p l e s m below meth c D U Y0 av ls B hI _ hl
  have X := B.1
  have hx := X.1
  have hb := X.2.1
  have hY0 := B.2.2.2.2.1
  obtain ⟨v0, rfl, ⟨x, rfl, -⟩⟩ := x_one B.2.2.2.2.2
  replace hl : lv_has ls xM167.2.2.1 [(0, .int x)] := hl
  refine lv_iload_n hx hb m9_d0 rfl (lv_at hl 0 rfl) ?_
  refine lv_bipush hx hb m9_d1 (v := 99) (by decide) ?_
  have ec99 : (99 : Int32).toInt = 99 := by decide
  refine lv_icmp_le hx hb m9_d3 (tgt := 11) (by decide) (fun q3 => ?_) (fun q3 => ?_)
  · have q3_ : x.toInt ≤ (99 : Int32).toInt := x_le32.mp q3
    refine lv_iload_n hx hb m9_d11 rfl (lv_at hl 0 rfl) ?_
    exact y_ireturn B hI rfl rfl rfl List.mem_cons_self ⟨_, rfl, ⟨_, rfl, by have := x_i32 x; show (-2147483648 : Int) ≤ _; omega, by show _ ≤ (99 : Int); omega⟩⟩ (x_cs.mono B.2.2.2.2.2 (y_mon B hI)) (fun x' h1 => by cases h1; rw [m_99_le (by omega)]) (Nat.le_refl _) (Nat.le_refl _) m9_d12
  · have q3_ : (99 : Int32).toInt < x.toInt := Int.not_le.mp fun q => q3 (x_le32.mpr q)
    refine lv_bipush hx hb m9_d6 (v := 99) (by decide) ?_
    refine lv_goto hx hb m9_d8 (tgt := 12) (by decide) ?_
    exact y_ireturn B hI rfl rfl rfl List.mem_cons_self ⟨_, rfl, ⟨_, rfl, by decide, by decide⟩⟩ (x_cs.mono B.2.2.2.2.2 (y_mon B hI)) (fun x' h1 => by cases h1; rw [m_99_lt (by omega)]) (Nat.le_refl _) (Nat.le_refl _) m9_d12
/-- the reference's own cases: k the kind, dn what is done, h and g its numbers -/
def m_hr (k dn h g y : Int32) : Int32 := if k.toInt = 0 then h else if k.toInt = 5 then (if dn = 1 then h else 0) else if dn = 1 then 0 else if k.toInt = 1 then m_99 (h + g * y) else if k.toInt = 2 then m_99 (h + 2 * g * y) else if k.toInt = 3 then m_99 (h + g * (y - y / 5 * 5)) else m_99 (h + 2 * g * y) / 2
theorem m_hr_eq {f : Nat → Int32} {t : Nat} {y : Int32} (hk : 0 ≤ (f (60 + 7 * t)).toInt ∧ (f (60 + 7 * t)).toInt ≤ 5) : m_hr (f (60 + 7 * t)) (f (65 + 7 * t)) (f (63 + 7 * t)) (f (64 + 7 * t)) y = m_hgh f t y := by
  unfold m_hr m_hgh m_stn m_wd m_gr
  rw [show 60 + 7 * t + 3 = 63 + 7 * t by omega, show 60 + 7 * t + 4 = 64 + 7 * t by omega]
  by_cases hd : f (65 + 7 * t) = 1
  · simp only [if_pos hd, show ¬ ((1 : Int32) = 0) by decide, if_false]
    by_cases h0 : (f (60 + 7 * t)).toInt = 0
    · rw [if_pos h0, if_pos h0]
    · rw [if_neg h0, if_neg h0]
      by_cases h5 : (f (60 + 7 * t)).toInt = 5
      · rw [if_pos h5, if_pos h5]
      · rw [if_neg h5, if_neg h5]
        split
        · decide
        · rfl
  · simp only [if_neg hd, if_true]
    rcases (by omega : (f (60 + 7 * t)).toInt = 0 ∨ (f (60 + 7 * t)).toInt = 1 ∨ (f (60 + 7 * t)).toInt = 2 ∨ (f (60 + 7 * t)).toInt = 3 ∨ (f (60 + 7 * t)).toInt = 4 ∨ (f (60 + 7 * t)).toInt = 5) with q | q | q | q | q | q <;> rw [q] <;> rfl

def z_Phn : yP := fun D av _ H v _ H' => ∀ (this bk : Nat) (t y : Int32) (f : Nat → Int32), av = [.ref this, .int t, .int y] → x_sl D 12 0 this H = some (.ref bk) → z_c f → y_A bk 160 H f → v = some (.int (m_hr (f (60 + 7 * t.toInt.toNat)) (f (65 + 7 * t.toInt.toNat)) (f (63 + 7 * t.toInt.toNat)) (f (64 + 7 * t.toInt.toNat)) y))
theorem hnq_d0 : decode xM168.2.1 0 = .ok (.aload_n 0, 1) := dz_ok (by decide +kernel)
theorem hnq_d1 : decode xM168.2.1 1 = .ok (.iload_n 1, 1) := dz_ok (by decide +kernel)
theorem hnq_d2 : decode xM168.2.1 2 = .ok (.iconst 0, 1) := dz_ok (by decide +kernel)
theorem hnq_d3 : decode xM168.2.1 3 = .ok (.invokevirtual 123, 3) := dz_ok (by decide +kernel)
theorem hnq_d6 : decode xM168.2.1 6 = .ok (.istore_n 3, 1) := dz_ok (by decide +kernel)
theorem hnq_d7 : decode xM168.2.1 7 = .ok (.aload_n 0, 1) := dz_ok (by decide +kernel)
theorem hnq_d8 : decode xM168.2.1 8 = .ok (.iload_n 1, 1) := dz_ok (by decide +kernel)
theorem hnq_d9 : decode xM168.2.1 9 = .ok (.iconst 5, 1) := dz_ok (by decide +kernel)
theorem hnq_d10 : decode xM168.2.1 10 = .ok (.invokevirtual 123, 3) := dz_ok (by decide +kernel)
theorem hnq_d13 : decode xM168.2.1 13 = .ok (.iconst 1, 1) := dz_ok (by decide +kernel)
theorem hnq_d14 : decode xM168.2.1 14 = .ok (.if_icmp .ne 7, 3) := dz_ok (by decide +kernel)
theorem hnq_d17 : decode xM168.2.1 17 = .ok (.iconst 1, 1) := dz_ok (by decide +kernel)
theorem hnq_d18 : decode xM168.2.1 18 = .ok (.goto 4, 3) := dz_ok (by decide +kernel)
theorem hnq_d21 : decode xM168.2.1 21 = .ok (.iconst 0, 1) := dz_ok (by decide +kernel)
theorem hnq_d22 : decode xM168.2.1 22 = .ok (.istore 4, 2) := dz_ok (by decide +kernel)
theorem hnq_d24 : decode xM168.2.1 24 = .ok (.aload_n 0, 1) := dz_ok (by decide +kernel)
theorem hnq_d25 : decode xM168.2.1 25 = .ok (.iload_n 1, 1) := dz_ok (by decide +kernel)
theorem hnq_d26 : decode xM168.2.1 26 = .ok (.iconst 3, 1) := dz_ok (by decide +kernel)
theorem hnq_d27 : decode xM168.2.1 27 = .ok (.invokevirtual 123, 3) := dz_ok (by decide +kernel)
theorem hnq_d30 : decode xM168.2.1 30 = .ok (.istore 5, 2) := dz_ok (by decide +kernel)
theorem hnq_d32 : decode xM168.2.1 32 = .ok (.aload_n 0, 1) := dz_ok (by decide +kernel)
theorem hnq_d33 : decode xM168.2.1 33 = .ok (.iload_n 1, 1) := dz_ok (by decide +kernel)
theorem hnq_d34 : decode xM168.2.1 34 = .ok (.iconst 4, 1) := dz_ok (by decide +kernel)
theorem hnq_d35 : decode xM168.2.1 35 = .ok (.invokevirtual 123, 3) := dz_ok (by decide +kernel)
theorem hnq_d38 : decode xM168.2.1 38 = .ok (.istore 6, 2) := dz_ok (by decide +kernel)
theorem hnq_d40 : decode xM168.2.1 40 = .ok (.iload_n 3, 1) := dz_ok (by decide +kernel)
theorem hnq_d41 : decode xM168.2.1 41 = .ok (.ifCond .ne 6, 3) := dz_ok (by decide +kernel)
theorem hnq_d44 : decode xM168.2.1 44 = .ok (.iload 5, 2) := dz_ok (by decide +kernel)
theorem hnq_d46 : decode xM168.2.1 46 = .ok (.ireturn, 1) := dz_ok (by decide +kernel)
theorem hnq_d47 : decode xM168.2.1 47 = .ok (.iload_n 3, 1) := dz_ok (by decide +kernel)
theorem hnq_d48 : decode xM168.2.1 48 = .ok (.iconst 5, 1) := dz_ok (by decide +kernel)
theorem hnq_d49 : decode xM168.2.1 49 = .ok (.if_icmp .ne 15, 3) := dz_ok (by decide +kernel)
theorem hnq_d52 : decode xM168.2.1 52 = .ok (.iload 4, 2) := dz_ok (by decide +kernel)
theorem hnq_d54 : decode xM168.2.1 54 = .ok (.ifCond .eq 8, 3) := dz_ok (by decide +kernel)
theorem hnq_d57 : decode xM168.2.1 57 = .ok (.iload 5, 2) := dz_ok (by decide +kernel)
theorem hnq_d59 : decode xM168.2.1 59 = .ok (.goto 4, 3) := dz_ok (by decide +kernel)
theorem hnq_d62 : decode xM168.2.1 62 = .ok (.iconst 0, 1) := dz_ok (by decide +kernel)
theorem hnq_d63 : decode xM168.2.1 63 = .ok (.ireturn, 1) := dz_ok (by decide +kernel)
theorem hnq_d64 : decode xM168.2.1 64 = .ok (.iload 4, 2) := dz_ok (by decide +kernel)
theorem hnq_d66 : decode xM168.2.1 66 = .ok (.ifCond .eq 5, 3) := dz_ok (by decide +kernel)
theorem hnq_d69 : decode xM168.2.1 69 = .ok (.iconst 0, 1) := dz_ok (by decide +kernel)
theorem hnq_d70 : decode xM168.2.1 70 = .ok (.ireturn, 1) := dz_ok (by decide +kernel)
theorem hnq_d71 : decode xM168.2.1 71 = .ok (.iload 5, 2) := dz_ok (by decide +kernel)
theorem hnq_d73 : decode xM168.2.1 73 = .ok (.iconst 2, 1) := dz_ok (by decide +kernel)
theorem hnq_d74 : decode xM168.2.1 74 = .ok (.iload 6, 2) := dz_ok (by decide +kernel)
theorem hnq_d76 : decode xM168.2.1 76 = .ok (.imul, 1) := dz_ok (by decide +kernel)
theorem hnq_d77 : decode xM168.2.1 77 = .ok (.iload_n 2, 1) := dz_ok (by decide +kernel)
theorem hnq_d78 : decode xM168.2.1 78 = .ok (.imul, 1) := dz_ok (by decide +kernel)
theorem hnq_d79 : decode xM168.2.1 79 = .ok (.iadd, 1) := dz_ok (by decide +kernel)
theorem hnq_d80 : decode xM168.2.1 80 = .ok (.invokestatic 129, 3) := dz_ok (by decide +kernel)
theorem hnq_d83 : decode xM168.2.1 83 = .ok (.istore 7, 2) := dz_ok (by decide +kernel)
theorem hnq_d85 : decode xM168.2.1 85 = .ok (.iload_n 3, 1) := dz_ok (by decide +kernel)
theorem hnq_d86 : decode xM168.2.1 86 = .ok (.iconst 1, 1) := dz_ok (by decide +kernel)
theorem hnq_d87 : decode xM168.2.1 87 = .ok (.if_icmp .ne 16, 3) := dz_ok (by decide +kernel)
theorem hnq_d90 : decode xM168.2.1 90 = .ok (.iload 5, 2) := dz_ok (by decide +kernel)
theorem hnq_d92 : decode xM168.2.1 92 = .ok (.iload 6, 2) := dz_ok (by decide +kernel)
theorem hnq_d94 : decode xM168.2.1 94 = .ok (.iload_n 2, 1) := dz_ok (by decide +kernel)
theorem hnq_d95 : decode xM168.2.1 95 = .ok (.imul, 1) := dz_ok (by decide +kernel)
theorem hnq_d96 : decode xM168.2.1 96 = .ok (.iadd, 1) := dz_ok (by decide +kernel)
theorem hnq_d97 : decode xM168.2.1 97 = .ok (.invokestatic 129, 3) := dz_ok (by decide +kernel)
theorem hnq_d100 : decode xM168.2.1 100 = .ok (.goto 37, 3) := dz_ok (by decide +kernel)
theorem hnq_d103 : decode xM168.2.1 103 = .ok (.iload_n 3, 1) := dz_ok (by decide +kernel)
theorem hnq_d104 : decode xM168.2.1 104 = .ok (.iconst 2, 1) := dz_ok (by decide +kernel)
theorem hnq_d105 : decode xM168.2.1 105 = .ok (.if_icmp .ne 8, 3) := dz_ok (by decide +kernel)
theorem hnq_d108 : decode xM168.2.1 108 = .ok (.iload 7, 2) := dz_ok (by decide +kernel)
theorem hnq_d110 : decode xM168.2.1 110 = .ok (.goto 27, 3) := dz_ok (by decide +kernel)
theorem hnq_d113 : decode xM168.2.1 113 = .ok (.iload_n 3, 1) := dz_ok (by decide +kernel)
theorem hnq_d114 : decode xM168.2.1 114 = .ok (.iconst 3, 1) := dz_ok (by decide +kernel)
theorem hnq_d115 : decode xM168.2.1 115 = .ok (.if_icmp .ne 18, 3) := dz_ok (by decide +kernel)
theorem hnq_d118 : decode xM168.2.1 118 = .ok (.iload 5, 2) := dz_ok (by decide +kernel)
theorem hnq_d120 : decode xM168.2.1 120 = .ok (.iload 6, 2) := dz_ok (by decide +kernel)
theorem hnq_d122 : decode xM168.2.1 122 = .ok (.iload_n 2, 1) := dz_ok (by decide +kernel)
theorem hnq_d123 : decode xM168.2.1 123 = .ok (.iconst 5, 1) := dz_ok (by decide +kernel)
theorem hnq_d124 : decode xM168.2.1 124 = .ok (.irem, 1) := dz_ok (by decide +kernel)
theorem hnq_d125 : decode xM168.2.1 125 = .ok (.imul, 1) := dz_ok (by decide +kernel)
theorem hnq_d126 : decode xM168.2.1 126 = .ok (.iadd, 1) := dz_ok (by decide +kernel)
theorem hnq_d127 : decode xM168.2.1 127 = .ok (.invokestatic 129, 3) := dz_ok (by decide +kernel)
theorem hnq_d130 : decode xM168.2.1 130 = .ok (.goto 7, 3) := dz_ok (by decide +kernel)
theorem hnq_d133 : decode xM168.2.1 133 = .ok (.iload 7, 2) := dz_ok (by decide +kernel)
theorem hnq_d135 : decode xM168.2.1 135 = .ok (.iconst 2, 1) := dz_ok (by decide +kernel)
theorem hnq_d136 : decode xM168.2.1 136 = .ok (.idiv, 1) := dz_ok (by decide +kernel)
theorem hnq_d137 : decode xM168.2.1 137 = .ok (.ireturn, 1) := dz_ok (by decide +kernel)
theorem ym_highIn : y_Met vwCl x_G x_Zs x_Tb x_Nb xM168 y_T z_Phn := by
  refine y_main (by decide +kernel) (by decide +kernel) x_Tb_good x_Nb_ok ?_
  intro p l e s m below meth c D U Y0 av ls B hI _ hl
  have X := B.1
  have hx := X.1
  have hb := X.2.1
  have hY0 := B.2.2.2.2.1
  obtain ⟨v0, v1, v2, rfl, hv0, ⟨t, rfl, ht9⟩, ⟨y, rfl, -⟩⟩ := y_three B.2.2.2.2.2
  replace ht9 : (0 : Int) ≤ t.toInt ∧ t.toInt ≤ 7 := ht9
  obtain ⟨this, t0, rfl, ht0, hY_this⟩ := x_ref_at hv0 rfl
  obtain rfl := List.mem_singleton.mp ht0
  replace hl : lv_has ls xM168.2.2.1 [(0, .ref this), (1, .int t), (2, .int y)] := hl
  obtain ⟨bk, hs_bk, hY_bk⟩ := y_fldR (k := 0) hI.1 hY_this rfl rfl
  obtain ⟨fb9, hA9, hB9⟩ := y_arr hI.1 hY_bk rfl rfl
  obtain ⟨fb, hcn, hA_bk, hB_bk⟩ := z_canon (Y := Y0) (P := fun j v => x_c Y0 ([xI 0 10, xI 0 8, xI 0 8].getD j xF) (.int v)) hA9 hB9
  clear hA9 hB9 fb9
  have hs0 := hs_bk
  have hA0 := hA_bk
  have hd := z_hdr hB_bk
  have hd0 := hd.1
  have hd1 := hd.2.1
  refine lv_aload_n hx hb hnq_d0 rfl (lv_at hl 0 rfl) ?_
  refine lv_iload_n hx hb hnq_d1 rfl (lv_at hl 1 rfl) ?_
  refine lv_iconst hx hb hnq_d2 (v := 0) (by decide) ?_
  have ec0 : (0 : Int32).toInt = 0 := by decide
  refine y_call (z := (0, 123, 3, some 17, xM163)) (av := [.ref this, .int t, .int (0 : Int32)]) (rest := []) (y_cokV (n := 2) (ci := 12) X ym_ofThing rfl rfl rfl (x_cons (x_bw70 7 rfl rfl) (x_cons (x_bw70 9 rfl rfl) (x_cons (x_at 37 (by decide +kernel) rfl) (x_cons (x_bw0 9 rfl rfl) x_nilm)))) (x_bw70 10 rfl rfl) (by decide +kernel) ⟨Nat.le_of_ble_eq_true rfl, Nat.le_of_ble_eq_true rfl⟩) hY0 hI rfl hnq_d3 hl.1 (Nat.le_of_ble_eq_true rfl) (Nat.le_of_ble_eq_true rfl) (Nat.le_of_ble_eq_true rfl) (y_cons (y_cref hY_this rfl) (y_cons ⟨_, rfl, by show (0 : Int) ≤ _; omega, by show _ ≤ (7 : Int); omega⟩ (y_cons ⟨_, rfl, by show (0 : Int) ≤ _; omega, by show _ ≤ (6 : Int); omega⟩ y_nil))) rfl (y_recv rfl hY_this) trivial (y_sub_ef rfl) fun v Yn o Hn L ho hr ha hIn hx_ hE hP => ?_
  have hPo := hP _ _ _ _ _ rfl hs_bk hA_bk
  replace hs_bk := y_Efld hE hY_this rfl (by decide) (by decide) hs_bk
  replace hA_bk := hA_bk.kept (y_Earr hE hY_bk rfl (by decide))
  replace hY_this := y_ext hx_ hI.1 hY_this
  replace hY_bk := y_ext hx_ hI.1 hY_bk
  obtain ⟨r3, hg_r3⟩ : ∃ r3 : Int32, fb (60 + 7 * (t).toInt.toNat + ((0 : Int32)).toInt.toNat) = r3 := ⟨_, rfl⟩
  rw [hg_r3] at hPo
  obtain rfl := hPo
  clear ho hr ha hE hP hI hx_
  rename x_I _ _ _ _ _ _ _ _ _ _ => hI
  replace hg_r3 : fb (60 + 7 * t.toInt.toNat) = r3 := by rw [← hg_r3]; exact congrArg _ (by rw [show (0 : Int32).toInt.toNat = 0 by decide]; omega)
  refine lv_istore_n hx hb hnq_d6 rfl hl (by decide) (lv' := [(3, .int r3), (0, .ref this), (1, .int t), (2, .int y)]) rfl fun ls hl => ?_
  refine lv_aload_n hx hb hnq_d7 rfl (lv_at hl 1 rfl) ?_
  refine lv_iload_n hx hb hnq_d8 rfl (lv_at hl 2 rfl) ?_
  refine lv_iconst hx hb hnq_d9 (v := 5) (by decide) ?_
  have ec5 : (5 : Int32).toInt = 5 := by decide
  refine y_call (z := (0, 123, 3, some 17, xM163)) (av := [.ref this, .int t, .int (5 : Int32)]) (rest := []) (y_cokV (n := 2) (ci := 12) X ym_ofThing rfl rfl rfl (x_cons (x_bw70 7 rfl rfl) (x_cons (x_bw70 9 rfl rfl) (x_cons (x_at 37 (by decide +kernel) rfl) (x_cons (x_bw0 9 rfl rfl) x_nilm)))) (x_bw70 10 rfl rfl) (by decide +kernel) ⟨Nat.le_of_ble_eq_true rfl, Nat.le_of_ble_eq_true rfl⟩) hY0 hI rfl hnq_d10 hl.1 (Nat.le_of_ble_eq_true rfl) (Nat.le_of_ble_eq_true rfl) (Nat.le_of_ble_eq_true rfl) (y_cons (y_cref hY_this rfl) (y_cons ⟨_, rfl, by show (0 : Int) ≤ _; omega, by show _ ≤ (7 : Int); omega⟩ (y_cons ⟨_, rfl, by show (0 : Int) ≤ _; omega, by show _ ≤ (6 : Int); omega⟩ y_nil))) rfl (y_recv rfl hY_this) trivial (y_sub_ef rfl) fun v Yn o Hn L ho hr ha hIn hx_ hE hP => ?_
  have hPo := hP _ _ _ _ _ rfl hs_bk hA_bk
  replace hs_bk := y_Efld hE hY_this rfl (by decide) (by decide) hs_bk
  replace hA_bk := hA_bk.kept (y_Earr hE hY_bk rfl (by decide))
  replace hY_this := y_ext hx_ hI.1 hY_this
  replace hY_bk := y_ext hx_ hI.1 hY_bk
  obtain ⟨r10, hg_r10⟩ : ∃ r10 : Int32, fb (60 + 7 * (t).toInt.toNat + ((5 : Int32)).toInt.toNat) = r10 := ⟨_, rfl⟩
  rw [hg_r10] at hPo
  obtain rfl := hPo
  clear ho hr ha hE hP hI hx_
  rename x_I _ _ _ _ _ _ _ _ _ _ => hI
  replace hg_r10 : fb (65 + 7 * t.toInt.toNat) = r10 := by rw [← hg_r10]; exact congrArg _ (by rw [show (5 : Int32).toInt.toNat = 5 by decide]; omega)
  refine lv_iconst hx hb hnq_d13 (v := 1) (by decide) ?_
  have ec1 : (1 : Int32).toInt = 1 := by decide
  refine lv_icmp_ne hx hb hnq_d14 (tgt := 21) (by decide) (fun q14 => ?_) (fun q14 => ?_)
  · have q14_ : ¬ r10.toInt = (1 : Int32).toInt := fun q => q14 (Int32.toInt_inj.mp q)
    refine lv_iconst hx hb hnq_d21 (v := 0) (by decide) ?_
    refine lv_istore hx hb hnq_d22 hl (by decide) (lv' := [(4, .int (0 : Int32)), (3, .int r3), (0, .ref this), (1, .int t), (2, .int y)]) rfl fun ls hl => ?_
    refine lv_aload_n hx hb hnq_d24 rfl (lv_at hl 2 rfl) ?_
    refine lv_iload_n hx hb hnq_d25 rfl (lv_at hl 3 rfl) ?_
    refine lv_iconst hx hb hnq_d26 (v := 3) (by decide) ?_
    have ec3 : (3 : Int32).toInt = 3 := by decide
    refine y_call (z := (0, 123, 3, some 17, xM163)) (av := [.ref this, .int t, .int (3 : Int32)]) (rest := []) (y_cokV (n := 2) (ci := 12) X ym_ofThing rfl rfl rfl (x_cons (x_bw70 7 rfl rfl) (x_cons (x_bw70 9 rfl rfl) (x_cons (x_at 37 (by decide +kernel) rfl) (x_cons (x_bw0 9 rfl rfl) x_nilm)))) (x_bw70 10 rfl rfl) (by decide +kernel) ⟨Nat.le_of_ble_eq_true rfl, Nat.le_of_ble_eq_true rfl⟩) hY0 hI rfl hnq_d27 hl.1 (Nat.le_of_ble_eq_true rfl) (Nat.le_of_ble_eq_true rfl) (Nat.le_of_ble_eq_true rfl) (y_cons (y_cref hY_this rfl) (y_cons ⟨_, rfl, by show (0 : Int) ≤ _; omega, by show _ ≤ (7 : Int); omega⟩ (y_cons ⟨_, rfl, by show (0 : Int) ≤ _; omega, by show _ ≤ (6 : Int); omega⟩ y_nil))) rfl (y_recv rfl hY_this) trivial (y_sub_ef rfl) fun v Yn o Hn L ho hr ha hIn hx_ hE hP => ?_
    have hPo := hP _ _ _ _ _ rfl hs_bk hA_bk
    replace hs_bk := y_Efld hE hY_this rfl (by decide) (by decide) hs_bk
    replace hA_bk := hA_bk.kept (y_Earr hE hY_bk rfl (by decide))
    replace hY_this := y_ext hx_ hI.1 hY_this
    replace hY_bk := y_ext hx_ hI.1 hY_bk
    obtain ⟨r27, hg_r27⟩ : ∃ r27 : Int32, fb (60 + 7 * (t).toInt.toNat + ((3 : Int32)).toInt.toNat) = r27 := ⟨_, rfl⟩
    rw [hg_r27] at hPo
    obtain rfl := hPo
    clear ho hr ha hE hP hI hx_
    rename x_I _ _ _ _ _ _ _ _ _ _ => hI
    replace hg_r27 : fb (63 + 7 * t.toInt.toNat) = r27 := by rw [← hg_r27]; exact congrArg _ (by rw [show (3 : Int32).toInt.toNat = 3 by decide]; omega)
    refine lv_istore hx hb hnq_d30 hl (by decide) (lv' := [(5, .int r27), (4, .int (0 : Int32)), (3, .int r3), (0, .ref this), (1, .int t), (2, .int y)]) rfl fun ls hl => ?_
    refine lv_aload_n hx hb hnq_d32 rfl (lv_at hl 3 rfl) ?_
    refine lv_iload_n hx hb hnq_d33 rfl (lv_at hl 4 rfl) ?_
    refine lv_iconst hx hb hnq_d34 (v := 4) (by decide) ?_
    have ec4 : (4 : Int32).toInt = 4 := by decide
    refine y_call (z := (0, 123, 3, some 17, xM163)) (av := [.ref this, .int t, .int (4 : Int32)]) (rest := []) (y_cokV (n := 2) (ci := 12) X ym_ofThing rfl rfl rfl (x_cons (x_bw70 7 rfl rfl) (x_cons (x_bw70 9 rfl rfl) (x_cons (x_at 37 (by decide +kernel) rfl) (x_cons (x_bw0 9 rfl rfl) x_nilm)))) (x_bw70 10 rfl rfl) (by decide +kernel) ⟨Nat.le_of_ble_eq_true rfl, Nat.le_of_ble_eq_true rfl⟩) hY0 hI rfl hnq_d35 hl.1 (Nat.le_of_ble_eq_true rfl) (Nat.le_of_ble_eq_true rfl) (Nat.le_of_ble_eq_true rfl) (y_cons (y_cref hY_this rfl) (y_cons ⟨_, rfl, by show (0 : Int) ≤ _; omega, by show _ ≤ (7 : Int); omega⟩ (y_cons ⟨_, rfl, by show (0 : Int) ≤ _; omega, by show _ ≤ (6 : Int); omega⟩ y_nil))) rfl (y_recv rfl hY_this) trivial (y_sub_ef rfl) fun v Yn o Hn L ho hr ha hIn hx_ hE hP => ?_
    have hPo := hP _ _ _ _ _ rfl hs_bk hA_bk
    replace hs_bk := y_Efld hE hY_this rfl (by decide) (by decide) hs_bk
    replace hA_bk := hA_bk.kept (y_Earr hE hY_bk rfl (by decide))
    replace hY_this := y_ext hx_ hI.1 hY_this
    replace hY_bk := y_ext hx_ hI.1 hY_bk
    obtain ⟨r35, hg_r35⟩ : ∃ r35 : Int32, fb (60 + 7 * (t).toInt.toNat + ((4 : Int32)).toInt.toNat) = r35 := ⟨_, rfl⟩
    rw [hg_r35] at hPo
    obtain rfl := hPo
    clear ho hr ha hE hP hI hx_
    rename x_I _ _ _ _ _ _ _ _ _ _ => hI
    replace hg_r35 : fb (64 + 7 * t.toInt.toNat) = r35 := by rw [← hg_r35]; exact congrArg _ (by rw [show (4 : Int32).toInt.toNat = 4 by decide]; omega)
    refine lv_istore hx hb hnq_d38 hl (by decide) (lv' := [(6, .int r35), (5, .int r27), (4, .int (0 : Int32)), (3, .int r3), (0, .ref this), (1, .int t), (2, .int y)]) rfl fun ls hl => ?_
    refine lv_iload_n hx hb hnq_d40 rfl (lv_at hl 3 rfl) ?_
    refine lv_if_ne hx hb hnq_d41 (tgt := 47) (by decide) (fun q41 => ?_) (fun q41 => ?_)
    · have q41_ : ¬ r3.toInt = (0 : Int32).toInt := fun q => q41 (Int32.toInt_inj.mp q)
      refine lv_iload_n hx hb hnq_d47 rfl (lv_at hl 3 rfl) ?_
      refine lv_iconst hx hb hnq_d48 (v := 5) (by decide) ?_
      refine lv_icmp_ne hx hb hnq_d49 (tgt := 64) (by decide) (fun q49 => ?_) (fun q49 => ?_)
      · have q49_ : ¬ r3.toInt = (5 : Int32).toInt := fun q => q49 (Int32.toInt_inj.mp q)
        refine lv_iload hx hb hnq_d64 (lv_at hl 2 rfl) ?_
        refine lv_if_eq hx hb hnq_d66 (tgt := 71) (by decide) (fun q66 => ?_) (fun q66 => ?_)
        · have q66_ : (0 : Int32).toInt = (0 : Int32).toInt := by rw [q66]
          refine lv_iload hx hb hnq_d71 (lv_at hl 1 rfl) ?_
          refine lv_iconst hx hb hnq_d73 (v := 2) (by decide) ?_
          have ec2 : (2 : Int32).toInt = 2 := by decide
          refine lv_iload hx hb hnq_d74 (lv_at hl 0 rfl) ?_
          refine lv_imul hx hb hnq_d76 ?_
          generalize hg_z76 : (2 : Int32) * r35 = z76
          refine lv_iload_n hx hb hnq_d77 rfl (lv_at hl 6 rfl) ?_
          refine lv_imul hx hb hnq_d78 ?_
          generalize hg_z78 : z76 * y = z78
          refine lv_iadd hx hb hnq_d79 ?_
          generalize hg_z79 : r27 + z78 = z79
          refine y_call (z := (1, 129, 1, none, xM167)) (av := [.int z79]) (rest := []) (y_cokS (n := 1) X ym_most99 (x_cons (x_bw71 11 rfl rfl) (x_cons (x_bw71 12 rfl rfl) (x_cons (x_bw0 9 rfl rfl) x_nilm))) (x_bw71 13 rfl rfl) (by decide +kernel) ⟨Nat.le_of_ble_eq_true rfl, Nat.le_of_ble_eq_true rfl⟩) hY0 hI rfl hnq_d80 hl.1 (Nat.le_of_ble_eq_true rfl) (Nat.le_of_ble_eq_true rfl) (Nat.le_of_ble_eq_true rfl) (y_cons ⟨_, rfl, x_i32 _⟩ y_nil) rfl (y_norecv rfl) trivial (y_sub_ef rfl) fun v Yn o Hn L ho hr ha hIn hx_ hE hP => ?_
          have hPm := hP _ rfl
          obtain rfl := hPm
          replace hs_bk := y_Efld hE hY_this rfl (by decide) (by decide) hs_bk
          replace hA_bk := hA_bk.kept (y_Earr hE hY_bk rfl (by decide))
          replace hY_this := y_ext hx_ hI.1 hY_this
          replace hY_bk := y_ext hx_ hI.1 hY_bk
          generalize hg_r80 : m_99 z79 = r80
          clear ho hr ha hE hP hI hx_
          rename x_I _ _ _ _ _ _ _ _ _ _ => hI
          refine lv_istore hx hb hnq_d83 hl (by decide) (lv' := [(7, .int r80), (6, .int r35), (5, .int r27), (4, .int (0 : Int32)), (3, .int r3), (0, .ref this), (1, .int t), (2, .int y)]) rfl fun ls hl => ?_
          refine lv_iload_n hx hb hnq_d85 rfl (lv_at hl 4 rfl) ?_
          refine lv_iconst hx hb hnq_d86 (v := 1) (by decide) ?_
          refine lv_icmp_ne hx hb hnq_d87 (tgt := 103) (by decide) (fun q87 => ?_) (fun q87 => ?_)
          · have q87_ : ¬ r3.toInt = (1 : Int32).toInt := fun q => q87 (Int32.toInt_inj.mp q)
            refine lv_iload_n hx hb hnq_d103 rfl (lv_at hl 4 rfl) ?_
            refine lv_iconst hx hb hnq_d104 (v := 2) (by decide) ?_
            refine lv_icmp_ne hx hb hnq_d105 (tgt := 113) (by decide) (fun q105 => ?_) (fun q105 => ?_)
            · have q105_ : ¬ r3.toInt = (2 : Int32).toInt := fun q => q105 (Int32.toInt_inj.mp q)
              refine lv_iload_n hx hb hnq_d113 rfl (lv_at hl 4 rfl) ?_
              refine lv_iconst hx hb hnq_d114 (v := 3) (by decide) ?_
              refine lv_icmp_ne hx hb hnq_d115 (tgt := 133) (by decide) (fun q115 => ?_) (fun q115 => ?_)
              · have q115_ : ¬ r3.toInt = (3 : Int32).toInt := fun q => q115 (Int32.toInt_inj.mp q)
                refine lv_iload hx hb hnq_d133 (lv_at hl 0 rfl) ?_
                refine lv_iconst hx hb hnq_d135 (v := 2) (by decide) ?_
                refine lv_idiv hx hb hnq_d136 (by decide) ?_
                generalize hg_z136 : r80 / (2 : Int32) = z136
                subst hg_z76
                subst hg_z78
                subst hg_z79
                subst hg_r80
                subst hg_z136
                exact y_ireturn B hI rfl rfl rfl List.mem_cons_self ⟨_, rfl, ⟨_, rfl, x_i32 _⟩⟩ (x_cs.mono B.2.2.2.2.2 (y_mon B hI)) (fun t' b' w0' w1' f' h1 h2 h3 h4 => by cases h1; cases h2.symm.trans hs0; cases z_uniq h4 hA0 h3 hcn; exact (by rw [hg_r3, hg_r10, hg_r27, hg_r35]; unfold m_hr; rw [if_neg (by omega), if_neg (by omega), if_neg q14, if_neg (by omega), if_neg (by omega), if_neg (by omega)])) (Nat.le_refl _) (Nat.le_refl _) hnq_d137
              · have q115_ : r3.toInt = (3 : Int32).toInt := by rw [q115]
                refine lv_iload hx hb hnq_d118 (lv_at hl 2 rfl) ?_
                refine lv_iload hx hb hnq_d120 (lv_at hl 1 rfl) ?_
                refine lv_iload_n hx hb hnq_d122 rfl (lv_at hl 7 rfl) ?_
                refine lv_iconst hx hb hnq_d123 (v := 5) (by decide) ?_
                refine lv_irem hx hb hnq_d124 (by decide) ?_
                generalize hg_z124 : y - y / (5 : Int32) * (5 : Int32) = z124
                refine lv_imul hx hb hnq_d125 ?_
                generalize hg_z125 : r35 * z124 = z125
                refine lv_iadd hx hb hnq_d126 ?_
                generalize hg_z126 : r27 + z125 = z126
                refine y_call (z := (1, 129, 1, none, xM167)) (av := [.int z126]) (rest := []) (y_cokS (n := 1) X ym_most99 (x_cons (x_bw71 11 rfl rfl) (x_cons (x_bw71 12 rfl rfl) (x_cons (x_bw0 9 rfl rfl) x_nilm))) (x_bw71 13 rfl rfl) (by decide +kernel) ⟨Nat.le_of_ble_eq_true rfl, Nat.le_of_ble_eq_true rfl⟩) hY0 hI rfl hnq_d127 hl.1 (Nat.le_of_ble_eq_true rfl) (Nat.le_of_ble_eq_true rfl) (Nat.le_of_ble_eq_true rfl) (y_cons ⟨_, rfl, x_i32 _⟩ y_nil) rfl (y_norecv rfl) trivial (y_sub_ef rfl) fun v Yn o Hn L ho hr ha hIn hx_ hE hP => ?_
                have hPm := hP _ rfl
                obtain rfl := hPm
                replace hs_bk := y_Efld hE hY_this rfl (by decide) (by decide) hs_bk
                replace hA_bk := hA_bk.kept (y_Earr hE hY_bk rfl (by decide))
                replace hY_this := y_ext hx_ hI.1 hY_this
                replace hY_bk := y_ext hx_ hI.1 hY_bk
                generalize hg_r127 : m_99 z126 = r127
                clear ho hr ha hE hP hI hx_
                rename x_I _ _ _ _ _ _ _ _ _ _ => hI
                refine lv_goto hx hb hnq_d130 (tgt := 137) (by decide) ?_
                subst hg_z76
                subst hg_z78
                subst hg_z79
                subst hg_r80
                subst hg_z124
                subst hg_z125
                subst hg_z126
                subst hg_r127
                exact y_ireturn B hI rfl rfl rfl List.mem_cons_self ⟨_, rfl, ⟨_, rfl, x_i32 _⟩⟩ (x_cs.mono B.2.2.2.2.2 (y_mon B hI)) (fun t' b' w0' w1' f' h1 h2 h3 h4 => by cases h1; cases h2.symm.trans hs0; cases z_uniq h4 hA0 h3 hcn; exact (by rw [hg_r3, hg_r10, hg_r27, hg_r35]; unfold m_hr; rw [if_neg (by omega), if_neg (by omega), if_neg q14, if_neg (by omega), if_neg (by omega), if_pos (by omega)])) (Nat.le_refl _) (Nat.le_refl _) hnq_d137
            · have q105_ : r3.toInt = (2 : Int32).toInt := by rw [q105]
              refine lv_iload hx hb hnq_d108 (lv_at hl 0 rfl) ?_
              refine lv_goto hx hb hnq_d110 (tgt := 137) (by decide) ?_
              subst hg_z76
              subst hg_z78
              subst hg_z79
              subst hg_r80
              exact y_ireturn B hI rfl rfl rfl List.mem_cons_self ⟨_, rfl, ⟨_, rfl, x_i32 _⟩⟩ (x_cs.mono B.2.2.2.2.2 (y_mon B hI)) (fun t' b' w0' w1' f' h1 h2 h3 h4 => by cases h1; cases h2.symm.trans hs0; cases z_uniq h4 hA0 h3 hcn; exact (by rw [hg_r3, hg_r10, hg_r27, hg_r35]; unfold m_hr; rw [if_neg (by omega), if_neg (by omega), if_neg q14, if_neg (by omega), if_pos (by omega)])) (Nat.le_refl _) (Nat.le_refl _) hnq_d137
          · have q87_ : r3.toInt = (1 : Int32).toInt := by rw [q87]
            refine lv_iload hx hb hnq_d90 (lv_at hl 2 rfl) ?_
            refine lv_iload hx hb hnq_d92 (lv_at hl 1 rfl) ?_
            refine lv_iload_n hx hb hnq_d94 rfl (lv_at hl 7 rfl) ?_
            refine lv_imul hx hb hnq_d95 ?_
            generalize hg_z95 : r35 * y = z95
            refine lv_iadd hx hb hnq_d96 ?_
            generalize hg_z96 : r27 + z95 = z96
            refine y_call (z := (1, 129, 1, none, xM167)) (av := [.int z96]) (rest := []) (y_cokS (n := 1) X ym_most99 (x_cons (x_bw71 11 rfl rfl) (x_cons (x_bw71 12 rfl rfl) (x_cons (x_bw0 9 rfl rfl) x_nilm))) (x_bw71 13 rfl rfl) (by decide +kernel) ⟨Nat.le_of_ble_eq_true rfl, Nat.le_of_ble_eq_true rfl⟩) hY0 hI rfl hnq_d97 hl.1 (Nat.le_of_ble_eq_true rfl) (Nat.le_of_ble_eq_true rfl) (Nat.le_of_ble_eq_true rfl) (y_cons ⟨_, rfl, x_i32 _⟩ y_nil) rfl (y_norecv rfl) trivial (y_sub_ef rfl) fun v Yn o Hn L ho hr ha hIn hx_ hE hP => ?_
            have hPm := hP _ rfl
            obtain rfl := hPm
            replace hs_bk := y_Efld hE hY_this rfl (by decide) (by decide) hs_bk
            replace hA_bk := hA_bk.kept (y_Earr hE hY_bk rfl (by decide))
            replace hY_this := y_ext hx_ hI.1 hY_this
            replace hY_bk := y_ext hx_ hI.1 hY_bk
            generalize hg_r97 : m_99 z96 = r97
            clear ho hr ha hE hP hI hx_
            rename x_I _ _ _ _ _ _ _ _ _ _ => hI
            refine lv_goto hx hb hnq_d100 (tgt := 137) (by decide) ?_
            subst hg_z76
            subst hg_z78
            subst hg_z79
            subst hg_r80
            subst hg_z95
            subst hg_z96
            subst hg_r97
            exact y_ireturn B hI rfl rfl rfl List.mem_cons_self ⟨_, rfl, ⟨_, rfl, x_i32 _⟩⟩ (x_cs.mono B.2.2.2.2.2 (y_mon B hI)) (fun t' b' w0' w1' f' h1 h2 h3 h4 => by cases h1; cases h2.symm.trans hs0; cases z_uniq h4 hA0 h3 hcn; exact (by rw [hg_r3, hg_r10, hg_r27, hg_r35]; unfold m_hr; rw [if_neg (by omega), if_neg (by omega), if_neg q14, if_pos (by omega)])) (Nat.le_refl _) (Nat.le_refl _) hnq_d137
        · have q66_ : ¬ (0 : Int32).toInt = (0 : Int32).toInt := fun q => q66 (Int32.toInt_inj.mp q)
          refine lv_iconst hx hb hnq_d69 (v := 0) (by decide) ?_
          exact absurd rfl (by assumption : ¬ (0 : Int32) = 0)
      · have q49_ : r3.toInt = (5 : Int32).toInt := by rw [q49]
        refine lv_iload hx hb hnq_d52 (lv_at hl 2 rfl) ?_
        refine lv_if_eq hx hb hnq_d54 (tgt := 62) (by decide) (fun q54 => ?_) (fun q54 => ?_)
        · have q54_ : (0 : Int32).toInt = (0 : Int32).toInt := by rw [q54]
          refine lv_iconst hx hb hnq_d62 (v := 0) (by decide) ?_
          exact y_ireturn B hI rfl rfl rfl List.mem_cons_self ⟨_, rfl, ⟨_, rfl, x_i32 _⟩⟩ (x_cs.mono B.2.2.2.2.2 (y_mon B hI)) (fun t' b' w0' w1' f' h1 h2 h3 h4 => by cases h1; cases h2.symm.trans hs0; cases z_uniq h4 hA0 h3 hcn; exact (by rw [hg_r3, hg_r10, hg_r27, hg_r35]; unfold m_hr; rw [if_neg (by omega), if_pos (by omega), if_neg q14])) (Nat.le_refl _) (Nat.le_refl _) hnq_d63
        · have q54_ : ¬ (0 : Int32).toInt = (0 : Int32).toInt := fun q => q54 (Int32.toInt_inj.mp q)
          refine lv_iload hx hb hnq_d57 (lv_at hl 1 rfl) ?_
          refine lv_goto hx hb hnq_d59 (tgt := 63) (by decide) ?_
          exfalso
          first | exact (by assumption : ¬ (0 : Int32) = 0) rfl | exact absurd (by assumption : (1 : Int32) = 0) (by decide)
    · have q41_ : r3.toInt = (0 : Int32).toInt := by rw [q41]
      refine lv_iload hx hb hnq_d44 (lv_at hl 1 rfl) ?_
      exact y_ireturn B hI rfl rfl rfl List.mem_cons_self ⟨_, rfl, ⟨_, rfl, x_i32 _⟩⟩ (x_cs.mono B.2.2.2.2.2 (y_mon B hI)) (fun t' b' w0' w1' f' h1 h2 h3 h4 => by cases h1; cases h2.symm.trans hs0; cases z_uniq h4 hA0 h3 hcn; exact (by rw [hg_r3, hg_r10, hg_r27, hg_r35]; unfold m_hr; rw [if_pos (by omega)])) (Nat.le_refl _) (Nat.le_refl _) hnq_d46
  · have q14_ : r10.toInt = (1 : Int32).toInt := by rw [q14]
    refine lv_iconst hx hb hnq_d17 (v := 1) (by decide) ?_
    refine lv_goto hx hb hnq_d18 (tgt := 22) (by decide) ?_
    refine lv_istore hx hb hnq_d22 hl (by decide) (lv' := [(4, .int (1 : Int32)), (3, .int r3), (0, .ref this), (1, .int t), (2, .int y)]) rfl fun ls hl => ?_
    refine lv_aload_n hx hb hnq_d24 rfl (lv_at hl 2 rfl) ?_
    refine lv_iload_n hx hb hnq_d25 rfl (lv_at hl 3 rfl) ?_
    refine lv_iconst hx hb hnq_d26 (v := 3) (by decide) ?_
    have ec3 : (3 : Int32).toInt = 3 := by decide
    refine y_call (z := (0, 123, 3, some 17, xM163)) (av := [.ref this, .int t, .int (3 : Int32)]) (rest := []) (y_cokV (n := 2) (ci := 12) X ym_ofThing rfl rfl rfl (x_cons (x_bw70 7 rfl rfl) (x_cons (x_bw70 9 rfl rfl) (x_cons (x_at 37 (by decide +kernel) rfl) (x_cons (x_bw0 9 rfl rfl) x_nilm)))) (x_bw70 10 rfl rfl) (by decide +kernel) ⟨Nat.le_of_ble_eq_true rfl, Nat.le_of_ble_eq_true rfl⟩) hY0 hI rfl hnq_d27 hl.1 (Nat.le_of_ble_eq_true rfl) (Nat.le_of_ble_eq_true rfl) (Nat.le_of_ble_eq_true rfl) (y_cons (y_cref hY_this rfl) (y_cons ⟨_, rfl, by show (0 : Int) ≤ _; omega, by show _ ≤ (7 : Int); omega⟩ (y_cons ⟨_, rfl, by show (0 : Int) ≤ _; omega, by show _ ≤ (6 : Int); omega⟩ y_nil))) rfl (y_recv rfl hY_this) trivial (y_sub_ef rfl) fun v Yn o Hn L ho hr ha hIn hx_ hE hP => ?_
    have hPo := hP _ _ _ _ _ rfl hs_bk hA_bk
    replace hs_bk := y_Efld hE hY_this rfl (by decide) (by decide) hs_bk
    replace hA_bk := hA_bk.kept (y_Earr hE hY_bk rfl (by decide))
    replace hY_this := y_ext hx_ hI.1 hY_this
    replace hY_bk := y_ext hx_ hI.1 hY_bk
    obtain ⟨r27, hg_r27⟩ : ∃ r27 : Int32, fb (60 + 7 * (t).toInt.toNat + ((3 : Int32)).toInt.toNat) = r27 := ⟨_, rfl⟩
    rw [hg_r27] at hPo
    obtain rfl := hPo
    clear ho hr ha hE hP hI hx_
    rename x_I _ _ _ _ _ _ _ _ _ _ => hI
    replace hg_r27 : fb (63 + 7 * t.toInt.toNat) = r27 := by rw [← hg_r27]; exact congrArg _ (by rw [show (3 : Int32).toInt.toNat = 3 by decide]; omega)
    refine lv_istore hx hb hnq_d30 hl (by decide) (lv' := [(5, .int r27), (4, .int (1 : Int32)), (3, .int r3), (0, .ref this), (1, .int t), (2, .int y)]) rfl fun ls hl => ?_
    refine lv_aload_n hx hb hnq_d32 rfl (lv_at hl 3 rfl) ?_
    refine lv_iload_n hx hb hnq_d33 rfl (lv_at hl 4 rfl) ?_
    refine lv_iconst hx hb hnq_d34 (v := 4) (by decide) ?_
    have ec4 : (4 : Int32).toInt = 4 := by decide
    refine y_call (z := (0, 123, 3, some 17, xM163)) (av := [.ref this, .int t, .int (4 : Int32)]) (rest := []) (y_cokV (n := 2) (ci := 12) X ym_ofThing rfl rfl rfl (x_cons (x_bw70 7 rfl rfl) (x_cons (x_bw70 9 rfl rfl) (x_cons (x_at 37 (by decide +kernel) rfl) (x_cons (x_bw0 9 rfl rfl) x_nilm)))) (x_bw70 10 rfl rfl) (by decide +kernel) ⟨Nat.le_of_ble_eq_true rfl, Nat.le_of_ble_eq_true rfl⟩) hY0 hI rfl hnq_d35 hl.1 (Nat.le_of_ble_eq_true rfl) (Nat.le_of_ble_eq_true rfl) (Nat.le_of_ble_eq_true rfl) (y_cons (y_cref hY_this rfl) (y_cons ⟨_, rfl, by show (0 : Int) ≤ _; omega, by show _ ≤ (7 : Int); omega⟩ (y_cons ⟨_, rfl, by show (0 : Int) ≤ _; omega, by show _ ≤ (6 : Int); omega⟩ y_nil))) rfl (y_recv rfl hY_this) trivial (y_sub_ef rfl) fun v Yn o Hn L ho hr ha hIn hx_ hE hP => ?_
    have hPo := hP _ _ _ _ _ rfl hs_bk hA_bk
    replace hs_bk := y_Efld hE hY_this rfl (by decide) (by decide) hs_bk
    replace hA_bk := hA_bk.kept (y_Earr hE hY_bk rfl (by decide))
    replace hY_this := y_ext hx_ hI.1 hY_this
    replace hY_bk := y_ext hx_ hI.1 hY_bk
    obtain ⟨r35, hg_r35⟩ : ∃ r35 : Int32, fb (60 + 7 * (t).toInt.toNat + ((4 : Int32)).toInt.toNat) = r35 := ⟨_, rfl⟩
    rw [hg_r35] at hPo
    obtain rfl := hPo
    clear ho hr ha hE hP hI hx_
    rename x_I _ _ _ _ _ _ _ _ _ _ => hI
    replace hg_r35 : fb (64 + 7 * t.toInt.toNat) = r35 := by rw [← hg_r35]; exact congrArg _ (by rw [show (4 : Int32).toInt.toNat = 4 by decide]; omega)
    refine lv_istore hx hb hnq_d38 hl (by decide) (lv' := [(6, .int r35), (5, .int r27), (4, .int (1 : Int32)), (3, .int r3), (0, .ref this), (1, .int t), (2, .int y)]) rfl fun ls hl => ?_
    refine lv_iload_n hx hb hnq_d40 rfl (lv_at hl 3 rfl) ?_
    refine lv_if_ne hx hb hnq_d41 (tgt := 47) (by decide) (fun q41 => ?_) (fun q41 => ?_)
    · have q41_ : ¬ r3.toInt = (0 : Int32).toInt := fun q => q41 (Int32.toInt_inj.mp q)
      refine lv_iload_n hx hb hnq_d47 rfl (lv_at hl 3 rfl) ?_
      refine lv_iconst hx hb hnq_d48 (v := 5) (by decide) ?_
      refine lv_icmp_ne hx hb hnq_d49 (tgt := 64) (by decide) (fun q49 => ?_) (fun q49 => ?_)
      · have q49_ : ¬ r3.toInt = (5 : Int32).toInt := fun q => q49 (Int32.toInt_inj.mp q)
        refine lv_iload hx hb hnq_d64 (lv_at hl 2 rfl) ?_
        refine lv_if_eq hx hb hnq_d66 (tgt := 71) (by decide) (fun q66 => ?_) (fun q66 => ?_)
        · have q66_ : (1 : Int32).toInt = (0 : Int32).toInt := by rw [q66]
          refine lv_iload hx hb hnq_d71 (lv_at hl 1 rfl) ?_
          refine lv_iconst hx hb hnq_d73 (v := 2) (by decide) ?_
          have ec2 : (2 : Int32).toInt = 2 := by decide
          refine lv_iload hx hb hnq_d74 (lv_at hl 0 rfl) ?_
          refine lv_imul hx hb hnq_d76 ?_
          generalize hg_z76 : (2 : Int32) * r35 = z76
          refine lv_iload_n hx hb hnq_d77 rfl (lv_at hl 6 rfl) ?_
          refine lv_imul hx hb hnq_d78 ?_
          generalize hg_z78 : z76 * y = z78
          refine lv_iadd hx hb hnq_d79 ?_
          generalize hg_z79 : r27 + z78 = z79
          refine y_call (z := (1, 129, 1, none, xM167)) (av := [.int z79]) (rest := []) (y_cokS (n := 1) X ym_most99 (x_cons (x_bw71 11 rfl rfl) (x_cons (x_bw71 12 rfl rfl) (x_cons (x_bw0 9 rfl rfl) x_nilm))) (x_bw71 13 rfl rfl) (by decide +kernel) ⟨Nat.le_of_ble_eq_true rfl, Nat.le_of_ble_eq_true rfl⟩) hY0 hI rfl hnq_d80 hl.1 (Nat.le_of_ble_eq_true rfl) (Nat.le_of_ble_eq_true rfl) (Nat.le_of_ble_eq_true rfl) (y_cons ⟨_, rfl, x_i32 _⟩ y_nil) rfl (y_norecv rfl) trivial (y_sub_ef rfl) fun v Yn o Hn L ho hr ha hIn hx_ hE hP => ?_
          have hPm := hP _ rfl
          obtain rfl := hPm
          replace hs_bk := y_Efld hE hY_this rfl (by decide) (by decide) hs_bk
          replace hA_bk := hA_bk.kept (y_Earr hE hY_bk rfl (by decide))
          replace hY_this := y_ext hx_ hI.1 hY_this
          replace hY_bk := y_ext hx_ hI.1 hY_bk
          generalize hg_r80 : m_99 z79 = r80
          clear ho hr ha hE hP hI hx_
          rename x_I _ _ _ _ _ _ _ _ _ _ => hI
          refine lv_istore hx hb hnq_d83 hl (by decide) (lv' := [(7, .int r80), (6, .int r35), (5, .int r27), (4, .int (1 : Int32)), (3, .int r3), (0, .ref this), (1, .int t), (2, .int y)]) rfl fun ls hl => ?_
          refine lv_iload_n hx hb hnq_d85 rfl (lv_at hl 4 rfl) ?_
          refine lv_iconst hx hb hnq_d86 (v := 1) (by decide) ?_
          refine lv_icmp_ne hx hb hnq_d87 (tgt := 103) (by decide) (fun q87 => ?_) (fun q87 => ?_)
          · have q87_ : ¬ r3.toInt = (1 : Int32).toInt := fun q => q87 (Int32.toInt_inj.mp q)
            refine lv_iload_n hx hb hnq_d103 rfl (lv_at hl 4 rfl) ?_
            refine lv_iconst hx hb hnq_d104 (v := 2) (by decide) ?_
            refine lv_icmp_ne hx hb hnq_d105 (tgt := 113) (by decide) (fun q105 => ?_) (fun q105 => ?_)
            · have q105_ : ¬ r3.toInt = (2 : Int32).toInt := fun q => q105 (Int32.toInt_inj.mp q)
              refine lv_iload_n hx hb hnq_d113 rfl (lv_at hl 4 rfl) ?_
              refine lv_iconst hx hb hnq_d114 (v := 3) (by decide) ?_
              refine lv_icmp_ne hx hb hnq_d115 (tgt := 133) (by decide) (fun q115 => ?_) (fun q115 => ?_)
              · have q115_ : ¬ r3.toInt = (3 : Int32).toInt := fun q => q115 (Int32.toInt_inj.mp q)
                refine lv_iload hx hb hnq_d133 (lv_at hl 0 rfl) ?_
                refine lv_iconst hx hb hnq_d135 (v := 2) (by decide) ?_
                refine lv_idiv hx hb hnq_d136 (by decide) ?_
                generalize hg_z136 : r80 / (2 : Int32) = z136
                exact absurd (by assumption : (1 : Int32) = 0) (by decide)
              · have q115_ : r3.toInt = (3 : Int32).toInt := by rw [q115]
                refine lv_iload hx hb hnq_d118 (lv_at hl 2 rfl) ?_
                refine lv_iload hx hb hnq_d120 (lv_at hl 1 rfl) ?_
                refine lv_iload_n hx hb hnq_d122 rfl (lv_at hl 7 rfl) ?_
                refine lv_iconst hx hb hnq_d123 (v := 5) (by decide) ?_
                refine lv_irem hx hb hnq_d124 (by decide) ?_
                generalize hg_z124 : y - y / (5 : Int32) * (5 : Int32) = z124
                refine lv_imul hx hb hnq_d125 ?_
                generalize hg_z125 : r35 * z124 = z125
                refine lv_iadd hx hb hnq_d126 ?_
                generalize hg_z126 : r27 + z125 = z126
                refine y_call (z := (1, 129, 1, none, xM167)) (av := [.int z126]) (rest := []) (y_cokS (n := 1) X ym_most99 (x_cons (x_bw71 11 rfl rfl) (x_cons (x_bw71 12 rfl rfl) (x_cons (x_bw0 9 rfl rfl) x_nilm))) (x_bw71 13 rfl rfl) (by decide +kernel) ⟨Nat.le_of_ble_eq_true rfl, Nat.le_of_ble_eq_true rfl⟩) hY0 hI rfl hnq_d127 hl.1 (Nat.le_of_ble_eq_true rfl) (Nat.le_of_ble_eq_true rfl) (Nat.le_of_ble_eq_true rfl) (y_cons ⟨_, rfl, x_i32 _⟩ y_nil) rfl (y_norecv rfl) trivial (y_sub_ef rfl) fun v Yn o Hn L ho hr ha hIn hx_ hE hP => ?_
                have hPm := hP _ rfl
                obtain rfl := hPm
                replace hs_bk := y_Efld hE hY_this rfl (by decide) (by decide) hs_bk
                replace hA_bk := hA_bk.kept (y_Earr hE hY_bk rfl (by decide))
                replace hY_this := y_ext hx_ hI.1 hY_this
                replace hY_bk := y_ext hx_ hI.1 hY_bk
                generalize hg_r127 : m_99 z126 = r127
                clear ho hr ha hE hP hI hx_
                rename x_I _ _ _ _ _ _ _ _ _ _ => hI
                refine lv_goto hx hb hnq_d130 (tgt := 137) (by decide) ?_
                exact absurd (by assumption : (1 : Int32) = 0) (by decide)
            · have q105_ : r3.toInt = (2 : Int32).toInt := by rw [q105]
              refine lv_iload hx hb hnq_d108 (lv_at hl 0 rfl) ?_
              refine lv_goto hx hb hnq_d110 (tgt := 137) (by decide) ?_
              exact absurd (by assumption : (1 : Int32) = 0) (by decide)
          · have q87_ : r3.toInt = (1 : Int32).toInt := by rw [q87]
            refine lv_iload hx hb hnq_d90 (lv_at hl 2 rfl) ?_
            refine lv_iload hx hb hnq_d92 (lv_at hl 1 rfl) ?_
            refine lv_iload_n hx hb hnq_d94 rfl (lv_at hl 7 rfl) ?_
            refine lv_imul hx hb hnq_d95 ?_
            generalize hg_z95 : r35 * y = z95
            refine lv_iadd hx hb hnq_d96 ?_
            generalize hg_z96 : r27 + z95 = z96
            refine y_call (z := (1, 129, 1, none, xM167)) (av := [.int z96]) (rest := []) (y_cokS (n := 1) X ym_most99 (x_cons (x_bw71 11 rfl rfl) (x_cons (x_bw71 12 rfl rfl) (x_cons (x_bw0 9 rfl rfl) x_nilm))) (x_bw71 13 rfl rfl) (by decide +kernel) ⟨Nat.le_of_ble_eq_true rfl, Nat.le_of_ble_eq_true rfl⟩) hY0 hI rfl hnq_d97 hl.1 (Nat.le_of_ble_eq_true rfl) (Nat.le_of_ble_eq_true rfl) (Nat.le_of_ble_eq_true rfl) (y_cons ⟨_, rfl, x_i32 _⟩ y_nil) rfl (y_norecv rfl) trivial (y_sub_ef rfl) fun v Yn o Hn L ho hr ha hIn hx_ hE hP => ?_
            have hPm := hP _ rfl
            obtain rfl := hPm
            replace hs_bk := y_Efld hE hY_this rfl (by decide) (by decide) hs_bk
            replace hA_bk := hA_bk.kept (y_Earr hE hY_bk rfl (by decide))
            replace hY_this := y_ext hx_ hI.1 hY_this
            replace hY_bk := y_ext hx_ hI.1 hY_bk
            generalize hg_r97 : m_99 z96 = r97
            clear ho hr ha hE hP hI hx_
            rename x_I _ _ _ _ _ _ _ _ _ _ => hI
            refine lv_goto hx hb hnq_d100 (tgt := 137) (by decide) ?_
            exact absurd (by assumption : (1 : Int32) = 0) (by decide)
        · have q66_ : ¬ (1 : Int32).toInt = (0 : Int32).toInt := fun q => q66 (Int32.toInt_inj.mp q)
          refine lv_iconst hx hb hnq_d69 (v := 0) (by decide) ?_
          exact y_ireturn B hI rfl rfl rfl List.mem_cons_self ⟨_, rfl, ⟨_, rfl, x_i32 _⟩⟩ (x_cs.mono B.2.2.2.2.2 (y_mon B hI)) (fun t' b' w0' w1' f' h1 h2 h3 h4 => by cases h1; cases h2.symm.trans hs0; cases z_uniq h4 hA0 h3 hcn; exact (by rw [hg_r3, hg_r10, hg_r27, hg_r35]; unfold m_hr; rw [if_neg (by omega), if_neg (by omega), if_pos q14])) (Nat.le_refl _) (Nat.le_refl _) hnq_d70
      · have q49_ : r3.toInt = (5 : Int32).toInt := by rw [q49]
        refine lv_iload hx hb hnq_d52 (lv_at hl 2 rfl) ?_
        refine lv_if_eq hx hb hnq_d54 (tgt := 62) (by decide) (fun q54 => ?_) (fun q54 => ?_)
        · have q54_ : (1 : Int32).toInt = (0 : Int32).toInt := by rw [q54]
          refine lv_iconst hx hb hnq_d62 (v := 0) (by decide) ?_
          exfalso
          first | exact (by assumption : ¬ (0 : Int32) = 0) rfl | exact absurd (by assumption : (1 : Int32) = 0) (by decide)
        · have q54_ : ¬ (1 : Int32).toInt = (0 : Int32).toInt := fun q => q54 (Int32.toInt_inj.mp q)
          refine lv_iload hx hb hnq_d57 (lv_at hl 1 rfl) ?_
          refine lv_goto hx hb hnq_d59 (tgt := 63) (by decide) ?_
          exact y_ireturn B hI rfl rfl rfl List.mem_cons_self ⟨_, rfl, ⟨_, rfl, x_i32 _⟩⟩ (x_cs.mono B.2.2.2.2.2 (y_mon B hI)) (fun t' b' w0' w1' f' h1 h2 h3 h4 => by cases h1; cases h2.symm.trans hs0; cases z_uniq h4 hA0 h3 hcn; exact (by rw [hg_r3, hg_r10, hg_r27, hg_r35]; unfold m_hr; rw [if_neg (by omega), if_pos (by omega), if_pos q14])) (Nat.le_refl _) (Nat.le_refl _) hnq_d63
    · have q41_ : r3.toInt = (0 : Int32).toInt := by rw [q41]
      refine lv_iload hx hb hnq_d44 (lv_at hl 1 rfl) ?_
      exact y_ireturn B hI rfl rfl rfl List.mem_cons_self ⟨_, rfl, ⟨_, rfl, x_i32 _⟩⟩ (x_cs.mono B.2.2.2.2.2 (y_mon B hI)) (fun t' b' w0' w1' f' h1 h2 h3 h4 => by cases h1; cases h2.symm.trans hs0; cases z_uniq h4 hA0 h3 hcn; exact (by rw [hg_r3, hg_r10, hg_r27, hg_r35]; unfold m_hr; rw [if_pos (by omega)])) (Nat.le_refl _) (Nat.le_refl _) hnq_d46
