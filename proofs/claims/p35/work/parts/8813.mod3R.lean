theorem fl_rd_234v {s : State} {args : Array Value} (hts : ∀ w ∈ x_Tb, w.before args s = true) : x_fok vwCl x_G x_Tb s args "TwinFiresModel" (210, 17, 17) := ⟨12, _, RX12, TX12, "TwinFiresModel", rfl, rfl, Nat.le_of_ble_eq_true rfl, iX12, (hts _ (x_bw63 4 rfl rfl)), fun x h => h⟩
theorem fl_lX_240 {s : State} {args : Array Value} (hts : ∀ w ∈ x_Tb, w.before args s = true) : x_fok vwCl x_G x_Tb s args "TwinFiresModel" (20, 17, 3) := ⟨12, _, RX12, TX12, "TwinFiresModel", rfl, rfl, Nat.le_of_ble_eq_true rfl, iX12, (hts _ (x_bw62 6 rfl rfl)), fun x h => h⟩
theorem fw_lX_241 {s : State} {args : Array Value} {mn : String} (hts : ∀ w ∈ x_Tb, w.before args s = true) : x_pok vwCl x_G x_Tb s args "TwinFiresModel" mn (72, 17, 5) := ⟨12, _, RX12, TX12, "TwinFiresModel", tyX12, _, rfl, rfl, Nat.le_of_ble_eq_true rfl, iX12, (hts _ (x_bw62 8 rfl rfl)), fun x h => h, tyX12_ok, nmX12, rfl, x_fitB, Or.inl rfl⟩
theorem fl_lX_242 {s : State} {args : Array Value} (hts : ∀ w ∈ x_Tb, w.before args s = true) : x_fok vwCl x_G x_Tb s args "TwinFiresModel" (193, 17, 12) := ⟨12, _, RX12, TX12, "TwinFiresModel", rfl, rfl, Nat.le_of_ble_eq_true rfl, iX12, (hts _ (x_bw62 15 rfl rfl)), fun x h => h⟩
theorem t_tc_c : ∀ k, k < 10 → (k = 0 ∧ t_tc k = 20) ∨ ((1 ≤ k ∧ k ≤ 6) ∧ t_tc k = 9 + (k : Int)) ∨ (7 ≤ k ∧ t_tc k = 23 + (k : Int)) := by decide
theorem t_NUM_c : ∀ k, k < 10 → (k = 0 → t_NUM.getD k 0 = 3) ∧ (1 ≤ k → k ≤ 6 → 3 ≤ t_NUM.getD k 0) ∧ (7 ≤ k → t_NUM.getD k 0 = 1) := by decide
theorem z_ofi {x : Int32} {z : Int} (h : x.toInt = z) : Int32.ofInt z = x := by
  rw [← h]; exact Int32.ofInt_toInt x
section TEL
variable {ft f fu g : Nat → Int32} {n p j : Nat} {verb a b c d w r : Int32}
theorem t_tell_put (hk : t_it ft n p < 10) (hv : verb.toInt = t_tc (t_it ft n p)) (hn : ∀ l, l < 4 → (l < t_cnt ft n p ∨ l = 3) → (fu (4 * j + l)).toInt = t_arg ft n p l) (h30 : 30 ≤ verb.toInt) (ha : fu (4 * j) = a) (hw : w.toInt = verb.toInt - 30) (hm : m_put f w a r g) : m_tell ft n p f r g := by
  have hc := t_tc_c _ hk
  have hN := t_NUM_c _ hk
  refine ⟨fun q => ?_, fun q1 q2 => ?_, fun q => ?_⟩
  · exfalso; omega
  · exfalso; omega
  · rw [z_ofi (x := w) (by omega), z_ofi (x := a) (by rw [← ha]; exact hn 0 (by decide) (Or.inl (by unfold t_cnt; rw [hN.2.2 q]; decide)))]; exact hm
theorem t_tell_hill (hk : t_it ft n p < 10) (hv : verb.toInt = t_tc (t_it ft n p)) (hn : ∀ l, l < 4 → (l < t_cnt ft n p ∨ l = 3) → (fu (4 * j + l)).toInt = t_arg ft n p l) (h20 : verb.toInt = 20) (ha : fu (4 * j) = a) (hb : fu (4 * j + 1) = b) (hc9 : fu (4 * j + 2) = c) (hm : m_hill f a b c r g) : m_tell ft n p f r g := by
  have hc := t_tc_c _ hk
  have hN := t_NUM_c _ hk
  have h0 : t_it ft n p = 0 := by omega
  have h3 : t_cnt ft n p = 3 := hN.1 h0
  refine ⟨fun q => ?_, fun q1 q2 => ?_, fun q => ?_⟩
  · rw [z_ofi (x := a) (by rw [← ha]; exact hn 0 (by decide) (Or.inl (by omega))), z_ofi (x := b) (by rw [← hb]; exact hn 1 (by decide) (Or.inl (by omega))), z_ofi (x := c) (by rw [← hc9]; exact hn 2 (by decide) (Or.inl (by omega)))]; exact hm
  · exfalso; omega
  · exfalso; omega
theorem t_tell_thing (hk : t_it ft n p < 10) (hv : verb.toInt = t_tc (t_it ft n p)) (hn : ∀ l, l < 4 → (l < t_cnt ft n p ∨ l = 3) → (fu (4 * j + l)).toInt = t_arg ft n p l) (h20 : ¬ verb.toInt = 20) (h30 : verb.toInt < 30) (ha : fu (4 * j) = a) (hb : fu (4 * j + 1) = b) (hc9 : fu (4 * j + 2) = c) (hd : fu (4 * j + 3) = d) (hw : w.toInt = verb.toInt - 10) (hm : m_thing f w a b c d r g) : m_tell ft n p f r g := by
  have hc := t_tc_c _ hk
  have hN := t_NUM_c _ hk
  have h3 : 3 ≤ t_cnt ft n p := hN.2.1 (by omega) (by omega)
  refine ⟨fun q => ?_, fun q1 q2 => ?_, fun q => ?_⟩
  · exfalso; omega
  · rw [z_ofi (x := w) (by omega), z_ofi (x := a) (by rw [← ha]; exact hn 0 (by decide) (Or.inl (by omega))), z_ofi (x := b) (by rw [← hb]; exact hn 1 (by decide) (Or.inl (by omega))), z_ofi (x := c) (by rw [← hc9]; exact hn 2 (by decide) (Or.inl (by omega))), z_ofi (x := d) (by rw [← hd]; exact hn 3 (by decide) (Or.inr rfl))]; exact hm
  · exfalso; omega
end TEL
theorem z_c.up {f : Nat → Int32} {p : Nat} {v : Int32} (h : z_c f) (hp : p < 160) : z_c (y_up f p v) := fun q hq => by
  rw [y_up_ne (by omega)]; exact h q hq
theorem m_hill.zc {f g : Nat → Int32} {x y h r : Int32} (hb : (f 0).toInt ≤ 10) (hf : z_c f) (hm : m_hill f x y h r g) : z_c g := by
  by_cases ho : m_hOk f x y h
  · by_cases h0 : (f 0).toInt = 10
    · rw [(hm.2.1 ho h0).2]; exact hf
    · rw [(hm.2.2 ho (by omega)).2]
      unfold m_hUp
      exact (((((hf.up (by omega)).up (by omega)).up (by omega)).up (by omega)).up (by omega)).up (by omega)
  · rw [(hm.1 ho).2]; exact hf
theorem m_thing.zc {f g : Nat → Int32} {k x y h w r : Int32} (hb : (f 1).toInt ≤ 8) (hf : z_c f) (hm : m_thing f k x y h w r g) : z_c g := by
  by_cases ho : m_tOk k x y h w
  · by_cases h0 : (f 1).toInt = 8
    · rw [(hm.2.1 ho h0).2]; exact hf
    · rw [(hm.2.2 ho (by omega)).2]
      unfold m_tUp
      exact (((((((hf.up (by omega)).up (by omega)).up (by omega)).up (by omega)).up (by omega)).up (by omega)).up (by omega)).up (by omega)
  · rw [(hm.1 ho).2]; exact hf
theorem m_put.zc {f g : Nat → Int32} {w v r : Int32} (hf : z_c f) (hm : m_put f w v r g) : z_c g := by
  by_cases ho : m_pOk w v
  · rw [(hm.2 ho).2]
    exact hf.up (by unfold m_pOk at ho; omega)
  · rw [(hm.1 ho).2]; exact hf
theorem m_tell.zc {t : Nat → Int32} {n p : Nat} {f g : Nat → Int32} {r : Int32} (hb : m_bd f) (hf : z_c f) (h : m_tell t n p f r g) : z_c g := by
  by_cases h0 : t_it t n p = 0
  · exact (h.1 h0).zc hb.1 hf
  by_cases h1 : t_it t n p ≤ 6
  · exact (h.2.1 (by omega) h1).zc hb.2 hf
  · exact (h.2.2 (by omega)).zc hf
theorem m_beg.zc {f : Nat → Int32} (hf : z_c f) : z_c (m_beg f) := by
  unfold m_beg
  exact ((((hf.up (by omega)).up (by omega)).up (by omega)).up (by omega)).up (by omega)
def z_PtiX : yP := fun D av _ H v _ H' => ∀ (this bk ve nu n N : Nat) (i : Int32) (f fv fu ft : Nat → Int32), av = [.ref this, .int i] → x_sl D 12 0 this H = some (.ref bk) → x_sl D 12 15 this H = some (.ref ve) → x_sl D 12 16 this H = some (.ref nu) → z_c f → y_A bk 160 H f → y_A ve 240 H fv → y_A nu 960 H fu → t_vn ft n N fv fu → t_good ft n N → i.toInt.toNat < N → ∃ (r r1 : Int32) (g : Nat → Int32), v = some (.int r) ∧ y_A bk 160 H' g ∧ m_tell ft n (t_ip ft n i.toInt.toNat) f r1 g ∧ (¬ r = 0 → 0 ≤ r1.toInt) ∧ (r = 0 → r1.toInt < 0)
theorem tiX_d0 : decode xM181.2.1 0 = .ok (.aload_n 0, 1) := dz_ok (by decide +kernel)
theorem tiX_d1 : decode xM181.2.1 1 = .ok (.getfield 35, 3) := dz_ok (by decide +kernel)
theorem tiX_d4 : decode xM181.2.1 4 = .ok (.iconst 4, 1) := dz_ok (by decide +kernel)
theorem tiX_d5 : decode xM181.2.1 5 = .ok (.iload_n 1, 1) := dz_ok (by decide +kernel)
theorem tiX_d6 : decode xM181.2.1 6 = .ok (.imul, 1) := dz_ok (by decide +kernel)
theorem tiX_d7 : decode xM181.2.1 7 = .ok (.iaload, 1) := dz_ok (by decide +kernel)
theorem tiX_d8 : decode xM181.2.1 8 = .ok (.istore_n 2, 1) := dz_ok (by decide +kernel)
theorem tiX_d9 : decode xM181.2.1 9 = .ok (.aload_n 0, 1) := dz_ok (by decide +kernel)
theorem tiX_d10 : decode xM181.2.1 10 = .ok (.getfield 35, 3) := dz_ok (by decide +kernel)
theorem tiX_d13 : decode xM181.2.1 13 = .ok (.iconst 4, 1) := dz_ok (by decide +kernel)
theorem tiX_d14 : decode xM181.2.1 14 = .ok (.iload_n 1, 1) := dz_ok (by decide +kernel)
theorem tiX_d15 : decode xM181.2.1 15 = .ok (.imul, 1) := dz_ok (by decide +kernel)
theorem tiX_d16 : decode xM181.2.1 16 = .ok (.iconst 1, 1) := dz_ok (by decide +kernel)
theorem tiX_d17 : decode xM181.2.1 17 = .ok (.iadd, 1) := dz_ok (by decide +kernel)
theorem tiX_d18 : decode xM181.2.1 18 = .ok (.iaload, 1) := dz_ok (by decide +kernel)
theorem tiX_d19 : decode xM181.2.1 19 = .ok (.istore_n 3, 1) := dz_ok (by decide +kernel)
theorem tiX_d20 : decode xM181.2.1 20 = .ok (.aload_n 0, 1) := dz_ok (by decide +kernel)
theorem tiX_d21 : decode xM181.2.1 21 = .ok (.getfield 35, 3) := dz_ok (by decide +kernel)
theorem tiX_d24 : decode xM181.2.1 24 = .ok (.iconst 4, 1) := dz_ok (by decide +kernel)
theorem tiX_d25 : decode xM181.2.1 25 = .ok (.iload_n 1, 1) := dz_ok (by decide +kernel)
theorem tiX_d26 : decode xM181.2.1 26 = .ok (.imul, 1) := dz_ok (by decide +kernel)
theorem tiX_d27 : decode xM181.2.1 27 = .ok (.iconst 2, 1) := dz_ok (by decide +kernel)
theorem tiX_d28 : decode xM181.2.1 28 = .ok (.iadd, 1) := dz_ok (by decide +kernel)
theorem tiX_d29 : decode xM181.2.1 29 = .ok (.iaload, 1) := dz_ok (by decide +kernel)
theorem tiX_d30 : decode xM181.2.1 30 = .ok (.istore 4, 2) := dz_ok (by decide +kernel)
theorem tiX_d32 : decode xM181.2.1 32 = .ok (.aload_n 0, 1) := dz_ok (by decide +kernel)
theorem tiX_d33 : decode xM181.2.1 33 = .ok (.getfield 32, 3) := dz_ok (by decide +kernel)
theorem tiX_d36 : decode xM181.2.1 36 = .ok (.iload_n 1, 1) := dz_ok (by decide +kernel)
theorem tiX_d37 : decode xM181.2.1 37 = .ok (.iaload, 1) := dz_ok (by decide +kernel)
theorem tiX_d38 : decode xM181.2.1 38 = .ok (.istore 5, 2) := dz_ok (by decide +kernel)
theorem tiX_d40 : decode xM181.2.1 40 = .ok (.iload 5, 2) := dz_ok (by decide +kernel)
theorem tiX_d42 : decode xM181.2.1 42 = .ok (.bipush 30, 2) := dz_ok (by decide +kernel)
theorem tiX_d44 : decode xM181.2.1 44 = .ok (.if_icmp .lt 16, 3) := dz_ok (by decide +kernel)
theorem tiX_d47 : decode xM181.2.1 47 = .ok (.aload_n 0, 1) := dz_ok (by decide +kernel)
theorem tiX_d48 : decode xM181.2.1 48 = .ok (.iload 5, 2) := dz_ok (by decide +kernel)
theorem tiX_d50 : decode xM181.2.1 50 = .ok (.bipush 30, 2) := dz_ok (by decide +kernel)
theorem tiX_d52 : decode xM181.2.1 52 = .ok (.isub, 1) := dz_ok (by decide +kernel)
theorem tiX_d53 : decode xM181.2.1 53 = .ok (.iload_n 2, 1) := dz_ok (by decide +kernel)
theorem tiX_d54 : decode xM181.2.1 54 = .ok (.invokevirtual 219, 3) := dz_ok (by decide +kernel)
theorem tiX_d57 : decode xM181.2.1 57 = .ok (.goto 44, 3) := dz_ok (by decide +kernel)
theorem tiX_d60 : decode xM181.2.1 60 = .ok (.iload 5, 2) := dz_ok (by decide +kernel)
theorem tiX_d62 : decode xM181.2.1 62 = .ok (.bipush 20, 2) := dz_ok (by decide +kernel)
theorem tiX_d64 : decode xM181.2.1 64 = .ok (.if_icmp .ne 14, 3) := dz_ok (by decide +kernel)
theorem tiX_d67 : decode xM181.2.1 67 = .ok (.aload_n 0, 1) := dz_ok (by decide +kernel)
theorem tiX_d68 : decode xM181.2.1 68 = .ok (.iload_n 2, 1) := dz_ok (by decide +kernel)
theorem tiX_d69 : decode xM181.2.1 69 = .ok (.iload_n 3, 1) := dz_ok (by decide +kernel)
theorem tiX_d70 : decode xM181.2.1 70 = .ok (.iload 4, 2) := dz_ok (by decide +kernel)
theorem tiX_d72 : decode xM181.2.1 72 = .ok (.invokevirtual 222, 3) := dz_ok (by decide +kernel)
theorem tiX_d75 : decode xM181.2.1 75 = .ok (.goto 26, 3) := dz_ok (by decide +kernel)
theorem tiX_d78 : decode xM181.2.1 78 = .ok (.aload_n 0, 1) := dz_ok (by decide +kernel)
theorem tiX_d79 : decode xM181.2.1 79 = .ok (.iload 5, 2) := dz_ok (by decide +kernel)
theorem tiX_d81 : decode xM181.2.1 81 = .ok (.bipush 10, 2) := dz_ok (by decide +kernel)
theorem tiX_d83 : decode xM181.2.1 83 = .ok (.isub, 1) := dz_ok (by decide +kernel)
theorem tiX_d84 : decode xM181.2.1 84 = .ok (.iload_n 2, 1) := dz_ok (by decide +kernel)
theorem tiX_d85 : decode xM181.2.1 85 = .ok (.iload_n 3, 1) := dz_ok (by decide +kernel)
theorem tiX_d86 : decode xM181.2.1 86 = .ok (.iload 4, 2) := dz_ok (by decide +kernel)
theorem tiX_d88 : decode xM181.2.1 88 = .ok (.aload_n 0, 1) := dz_ok (by decide +kernel)
theorem tiX_d89 : decode xM181.2.1 89 = .ok (.getfield 35, 3) := dz_ok (by decide +kernel)
theorem tiX_d92 : decode xM181.2.1 92 = .ok (.iconst 4, 1) := dz_ok (by decide +kernel)
theorem tiX_d93 : decode xM181.2.1 93 = .ok (.iload_n 1, 1) := dz_ok (by decide +kernel)
theorem tiX_d94 : decode xM181.2.1 94 = .ok (.imul, 1) := dz_ok (by decide +kernel)
theorem tiX_d95 : decode xM181.2.1 95 = .ok (.iconst 3, 1) := dz_ok (by decide +kernel)
theorem tiX_d96 : decode xM181.2.1 96 = .ok (.iadd, 1) := dz_ok (by decide +kernel)
theorem tiX_d97 : decode xM181.2.1 97 = .ok (.iaload, 1) := dz_ok (by decide +kernel)
theorem tiX_d98 : decode xM181.2.1 98 = .ok (.invokevirtual 226, 3) := dz_ok (by decide +kernel)
theorem tiX_d101 : decode xM181.2.1 101 = .ok (.ifCond .lt 7, 3) := dz_ok (by decide +kernel)
theorem tiX_d104 : decode xM181.2.1 104 = .ok (.iconst 1, 1) := dz_ok (by decide +kernel)
theorem tiX_d105 : decode xM181.2.1 105 = .ok (.goto 4, 3) := dz_ok (by decide +kernel)
theorem tiX_d108 : decode xM181.2.1 108 = .ok (.iconst 0, 1) := dz_ok (by decide +kernel)
theorem tiX_d109 : decode xM181.2.1 109 = .ok (.ireturn, 1) := dz_ok (by decide +kernel)
theorem ym_tellsX : y_Met vwCl x_G x_Zs x_Tb x_Nb xM181 y_T z_PtiX := by
  refine y_main (by decide +kernel) (by decide +kernel) x_Tb_good x_Nb_ok ?_
  intro p l e s m below meth c D U Y0 av ls B hI _ hl
  have X := B.1
  have hx := X.1
  have hb := X.2.1
  have hY0 := B.2.2.2.2.1
  obtain ⟨v0, v1, rfl, hv0, ⟨i, rfl, hi⟩⟩ := x_two B.2.2.2.2.2
  replace hi : (0 : Int) ≤ i.toInt ∧ i.toInt ≤ 239 := hi
  obtain ⟨this, t0, rfl, ht0, hY_this⟩ := x_ref_at hv0 rfl
  obtain rfl := List.mem_singleton.mp ht0
  replace hl : lv_has ls xM181.2.2.1 [(0, .ref this), (1, .int i)] := hl
  obtain ⟨bk, hs_bk, hY_bk⟩ := y_fldR (k := 0) hI.1 hY_this rfl rfl
  obtain ⟨fb9, hA9, hB9⟩ := y_arr hI.1 hY_bk rfl rfl
  obtain ⟨fb, hcn, hA_bk, hB_bk⟩ := z_canon (Y := Y0) (P := fun j v => x_c Y0 ([xI 0 10, xI 0 8, xI 0 8].getD j xF) (.int v)) hA9 hB9
  clear hA9 hB9 fb9
  have hs0 := hs_bk
  have hA0 := hA_bk
  have hd := z_hdr hB_bk
  have hd0 := hd.1
  have hd1 := hd.2.1
  obtain ⟨ve, hs_ve, hY_ve⟩ := y_fldR (k := 15) hI.1 hY_this rfl rfl
  obtain ⟨nu, hs_nu, hY_nu⟩ := y_fldR (k := 16) hI.1 hY_this rfl rfl
  obtain ⟨fv, hA_ve, -⟩ := y_arr hI.1 hY_ve rfl rfl
  obtain ⟨fu, hA_nu, -⟩ := y_arr hI.1 hY_nu rfl rfl
  have hve0 := hs_ve
  have hnu0 := hs_nu
  have hVE := hA_ve
  have hNU := hA_nu
  refine lv_aload_n hx hb tiX_d0 rfl (lv_at hl 0 rfl) ?_
  refine y_getf X (fl198 X.2.2.2.2.1) hI.1 hY_this rfl hs_nu tiX_d1 ?_
  refine lv_iconst hx hb tiX_d4 (v := 4) (by decide) ?_
  have ec4 : (4 : Int32).toInt = 4 := by decide
  refine lv_iload_n hx hb tiX_d5 rfl (lv_at hl 1 rfl) ?_
  refine lv_imul hx hb tiX_d6 ?_
  generalize hg_z6 : (4 : Int32) * i = z6
  have h_z6 : z6.toInt = 4 * i.toInt := by rw [← hg_z6]; have := y_mul (x := (4 : Int32)) (y := i) (by rw [ec4]; omega) (by rw [ec4]; omega); rw [ec4] at this; exact this
  refine y_iald X hI.1 hY_nu rfl hA_nu (by omega) (by show _ < (960 : Int); omega) tiX_d7 ?_
  obtain ⟨e7, hg_e7⟩ : ∃ e7 : Int32, fu z6.toInt.toNat = e7 := ⟨_, rfl⟩
  rw [hg_e7]
  refine lv_istore_n hx hb tiX_d8 rfl hl (by decide) (lv' := [(2, .int e7), (0, .ref this), (1, .int i)]) rfl fun ls hl => ?_
  refine lv_aload_n hx hb tiX_d9 rfl (lv_at hl 1 rfl) ?_
  refine y_getf X (fl198 X.2.2.2.2.1) hI.1 hY_this rfl hs_nu tiX_d10 ?_
  refine lv_iconst hx hb tiX_d13 (v := 4) (by decide) ?_
  refine lv_iload_n hx hb tiX_d14 rfl (lv_at hl 2 rfl) ?_
  refine lv_imul hx hb tiX_d15 ?_
  generalize hg_z15 : (4 : Int32) * i = z15
  have h_z15 : z15.toInt = 4 * i.toInt := by rw [← hg_z15]; have := y_mul (x := (4 : Int32)) (y := i) (by rw [ec4]; omega) (by rw [ec4]; omega); rw [ec4] at this; exact this
  refine lv_iconst hx hb tiX_d16 (v := 1) (by decide) ?_
  have ec1 : (1 : Int32).toInt = 1 := by decide
  refine lv_iadd hx hb tiX_d17 ?_
  generalize hg_z17 : z15 + (1 : Int32) = z17
  have h_z17 : z17.toInt = z15.toInt + 1 := by rw [← hg_z17]; have := y_add (x := z15) (y := (1 : Int32)) (by rw [ec1]; omega) (by rw [ec1]; omega); rw [ec1] at this; exact this
  refine y_iald X hI.1 hY_nu rfl hA_nu (by omega) (by show _ < (960 : Int); omega) tiX_d18 ?_
  obtain ⟨e18, hg_e18⟩ : ∃ e18 : Int32, fu z17.toInt.toNat = e18 := ⟨_, rfl⟩
  rw [hg_e18]
  refine lv_istore_n hx hb tiX_d19 rfl hl (by decide) (lv' := [(3, .int e18), (2, .int e7), (0, .ref this), (1, .int i)]) rfl fun ls hl => ?_
  refine lv_aload_n hx hb tiX_d20 rfl (lv_at hl 2 rfl) ?_
  refine y_getf X (fl198 X.2.2.2.2.1) hI.1 hY_this rfl hs_nu tiX_d21 ?_
  refine lv_iconst hx hb tiX_d24 (v := 4) (by decide) ?_
  refine lv_iload_n hx hb tiX_d25 rfl (lv_at hl 3 rfl) ?_
  refine lv_imul hx hb tiX_d26 ?_
  generalize hg_z26 : (4 : Int32) * i = z26
  have h_z26 : z26.toInt = 4 * i.toInt := by rw [← hg_z26]; have := y_mul (x := (4 : Int32)) (y := i) (by rw [ec4]; omega) (by rw [ec4]; omega); rw [ec4] at this; exact this
  refine lv_iconst hx hb tiX_d27 (v := 2) (by decide) ?_
  have ec2 : (2 : Int32).toInt = 2 := by decide
  refine lv_iadd hx hb tiX_d28 ?_
  generalize hg_z28 : z26 + (2 : Int32) = z28
  have h_z28 : z28.toInt = z26.toInt + 2 := by rw [← hg_z28]; have := y_add (x := z26) (y := (2 : Int32)) (by rw [ec2]; omega) (by rw [ec2]; omega); rw [ec2] at this; exact this
  refine y_iald X hI.1 hY_nu rfl hA_nu (by omega) (by show _ < (960 : Int); omega) tiX_d29 ?_
  obtain ⟨e29, hg_e29⟩ : ∃ e29 : Int32, fu z28.toInt.toNat = e29 := ⟨_, rfl⟩
  rw [hg_e29]
  refine lv_istore hx hb tiX_d30 hl (by decide) (lv' := [(4, .int e29), (3, .int e18), (2, .int e7), (0, .ref this), (1, .int i)]) rfl fun ls hl => ?_
  refine lv_aload_n hx hb tiX_d32 rfl (lv_at hl 3 rfl) ?_
  refine y_getf X (fl197 X.2.2.2.2.1) hI.1 hY_this rfl hs_ve tiX_d33 ?_
  refine lv_iload_n hx hb tiX_d36 rfl (lv_at hl 4 rfl) ?_
  refine y_iald X hI.1 hY_ve rfl hA_ve (by omega) (by show _ < (240 : Int); omega) tiX_d37 ?_
  obtain ⟨e37, hg_e37⟩ : ∃ e37 : Int32, fv i.toInt.toNat = e37 := ⟨_, rfl⟩
  rw [hg_e37]
  refine lv_istore hx hb tiX_d38 hl (by decide) (lv' := [(5, .int e37), (4, .int e29), (3, .int e18), (2, .int e7), (0, .ref this), (1, .int i)]) rfl fun ls hl => ?_
  refine lv_iload hx hb tiX_d40 (lv_at hl 0 rfl) ?_
  refine lv_bipush hx hb tiX_d42 (v := 30) (by decide) ?_
  have ec30 : (30 : Int32).toInt = 30 := by decide
  refine lv_icmp_lt hx hb tiX_d44 (tgt := 60) (by decide) (fun q44 => ?_) (fun q44 => ?_)
  · have q44_ : e37.toInt < (30 : Int32).toInt := x_lt32.mp q44
    refine lv_iload hx hb tiX_d60 (lv_at hl 0 rfl) ?_
    refine lv_bipush hx hb tiX_d62 (v := 20) (by decide) ?_
    have ec20 : (20 : Int32).toInt = 20 := by decide
    refine lv_icmp_ne hx hb tiX_d64 (tgt := 78) (by decide) (fun q64 => ?_) (fun q64 => ?_)
    · have q64_ : ¬ e37.toInt = (20 : Int32).toInt := fun q => q64 (Int32.toInt_inj.mp q)
      refine lv_aload_n hx hb tiX_d78 rfl (lv_at hl 4 rfl) ?_
      refine lv_iload hx hb tiX_d79 (lv_at hl 0 rfl) ?_
      refine lv_bipush hx hb tiX_d81 (v := 10) (by decide) ?_
      have ec10 : (10 : Int32).toInt = 10 := by decide
      refine lv_isub hx hb tiX_d83 ?_
      generalize hg_z83 : e37 - (10 : Int32) = z83
      refine lv_iload_n hx hb tiX_d84 rfl (lv_at hl 3 rfl) ?_
      refine lv_iload_n hx hb tiX_d85 rfl (lv_at hl 2 rfl) ?_
      refine lv_iload hx hb tiX_d86 (lv_at hl 1 rfl) ?_
      refine lv_aload_n hx hb tiX_d88 rfl (lv_at hl 4 rfl) ?_
      refine y_getf X (fl198 X.2.2.2.2.1) hI.1 hY_this rfl hs_nu tiX_d89 ?_
      refine lv_iconst hx hb tiX_d92 (v := 4) (by decide) ?_
      refine lv_iload_n hx hb tiX_d93 rfl (lv_at hl 5 rfl) ?_
      refine lv_imul hx hb tiX_d94 ?_
      generalize hg_z94 : (4 : Int32) * i = z94
      have h_z94 : z94.toInt = 4 * i.toInt := by rw [← hg_z94]; have := y_mul (x := (4 : Int32)) (y := i) (by rw [ec4]; omega) (by rw [ec4]; omega); rw [ec4] at this; exact this
      refine lv_iconst hx hb tiX_d95 (v := 3) (by decide) ?_
      have ec3 : (3 : Int32).toInt = 3 := by decide
      refine lv_iadd hx hb tiX_d96 ?_
      generalize hg_z96 : z94 + (3 : Int32) = z96
      have h_z96 : z96.toInt = z94.toInt + 3 := by rw [← hg_z96]; have := y_add (x := z94) (y := (3 : Int32)) (by rw [ec3]; omega) (by rw [ec3]; omega); rw [ec3] at this; exact this
      refine y_iald X hI.1 hY_nu rfl hA_nu (by omega) (by show _ < (960 : Int); omega) tiX_d97 ?_
      obtain ⟨e97, hg_e97⟩ : ∃ e97 : Int32, fu z96.toInt.toNat = e97 := ⟨_, rfl⟩
      rw [hg_e97]
      refine y_call (z := (0, 226, 6, some 17, xM152)) (av := [.ref this, .int z83, .int e7, .int e18, .int e29, .int e97]) (rest := []) (y_cokV (n := 5) (ci := 12) X ym_mthing rfl rfl rfl (x_cons (x_bw76 11 rfl rfl) (x_cons (x_bw69 0 rfl rfl) (x_cons (x_bw69 1 rfl rfl) (x_cons (x_bw0 9 rfl rfl) x_nilm)))) (x_bw69 2 rfl rfl) (by decide +kernel) ⟨Nat.le_of_ble_eq_true rfl, Nat.le_of_ble_eq_true rfl⟩) hY0 hI rfl tiX_d98 hl.1 (Nat.le_of_ble_eq_true rfl) (Nat.le_of_ble_eq_true rfl) (Nat.le_of_ble_eq_true rfl) (y_cons (y_cref hY_this rfl) (y_cons ⟨_, rfl, x_i32 _⟩ (y_cons ⟨_, rfl, x_i32 _⟩ (y_cons ⟨_, rfl, x_i32 _⟩ (y_cons ⟨_, rfl, x_i32 _⟩ (y_cons ⟨_, rfl, x_i32 _⟩ y_nil)))))) rfl (y_recv rfl hY_this) trivial (y_sub_ef rfl) fun v Yn o Hn L ho hr ha hIn hx_ hE hP => ?_
      have hPm := hP _ _ _ _ _ _ _ _ rfl hs_bk hcn hA_bk
      replace hs_bk := y_Efld hE hY_this rfl (by decide) (by decide) hs_bk
      replace hs_ve := y_Efld hE hY_this rfl (by decide) (by decide) hs_ve
      replace hs_nu := y_Efld hE hY_this rfl (by decide) (by decide) hs_nu
      replace hA_ve := hA_ve.kept (y_Earr hE hY_ve rfl (by decide))
      replace hA_nu := hA_nu.kept (y_Earr hE hY_nu rfl (by decide))
      replace hY_this := y_ext hx_ hI.1 hY_this
      replace hY_bk := y_ext hx_ hI.1 hY_bk
      replace hY_ve := y_ext hx_ hI.1 hY_ve
      replace hY_nu := y_ext hx_ hI.1 hY_nu
      obtain ⟨r98, gN, rfl, hA_bk, hm⟩ := hPm
      clear ho hr ha hE hP hI hx_
      rename x_I _ _ _ _ _ _ _ _ _ _ => hI
      have ec0 : (0 : Int32).toInt = 0 := by decide
      refine lv_if_lt hx hb tiX_d101 (tgt := 108) (by decide) (fun q101 => ?_) (fun q101 => ?_)
      · have q101_ : r98.toInt < (0 : Int32).toInt := x_lt32.mp q101
        refine lv_iconst hx hb tiX_d108 (v := 0) (by decide) ?_
        exact y_ireturn B hI rfl rfl rfl (List.mem_cons_of_mem _ List.mem_cons_self) ⟨_, rfl, ⟨_, rfl, by decide, by decide⟩⟩ (x_cs.mono B.2.2.2.2.2 (y_mon B hI)) (fun t' b' ve' nu' n' N' i' f' fv' fu' ft' h1 h2 h3 h4 h5 h6 h7 h8 h9 h10 h11 => by cases h1; cases h2.symm.trans hs0; cases h3.symm.trans hve0; cases h4.symm.trans hnu0; cases z_uniq h6 hA0 h5 hcn; obtain ⟨hv9, hn9⟩ := h9 i.toInt.toNat h11; have hk9 := (t_nx_lt (t_good_le _ (fun j hj => h10 j (by omega))).2 (h10 i.toInt.toNat h11)).2.2.2; rw [(z_AR h7 hVE (by omega)).trans hg_e37] at hv9; have hu9 : ∀ j, j < 960 → fu' j = fu j := fun j hj => z_AR h8 hNU hj; exact ⟨_, _, _, rfl, hA_bk, t_tell_thing hk9 hv9 hn9 (by omega) (by omega) (by rw [hu9 _ (by omega), show 4 * i.toInt.toNat = z6.toInt.toNat by omega]; exact hg_e7) (by rw [hu9 _ (by omega), show 4 * i.toInt.toNat + 1 = z17.toInt.toNat by omega]; exact hg_e18) (by rw [hu9 _ (by omega), show 4 * i.toInt.toNat + 2 = z28.toInt.toNat by omega]; exact hg_e29) (by rw [hu9 _ (by omega), show 4 * i.toInt.toNat + 3 = z96.toInt.toNat by omega]; exact hg_e97) (by rw [← hg_z83]; have h8 := t_tc_c _ hk9; have h7 := y_sub (x := e37) (y := 10) (by omega) (by omega); omega) hm, fun q9 => by first | omega | exact absurd rfl q9, fun q9 => by first | omega | exact absurd q9 (by decide)⟩) (Nat.le_refl _) (Nat.le_refl _) tiX_d109
      · have q101_ : (0 : Int32).toInt ≤ r98.toInt := Int.not_lt.mp fun q => q101 (x_lt32.mpr q)
        refine lv_iconst hx hb tiX_d104 (v := 1) (by decide) ?_
        refine lv_goto hx hb tiX_d105 (tgt := 109) (by decide) ?_
        exact y_ireturn B hI rfl rfl rfl List.mem_cons_self ⟨_, rfl, ⟨_, rfl, by decide, by decide⟩⟩ (x_cs.mono B.2.2.2.2.2 (y_mon B hI)) (fun t' b' ve' nu' n' N' i' f' fv' fu' ft' h1 h2 h3 h4 h5 h6 h7 h8 h9 h10 h11 => by cases h1; cases h2.symm.trans hs0; cases h3.symm.trans hve0; cases h4.symm.trans hnu0; cases z_uniq h6 hA0 h5 hcn; obtain ⟨hv9, hn9⟩ := h9 i.toInt.toNat h11; have hk9 := (t_nx_lt (t_good_le _ (fun j hj => h10 j (by omega))).2 (h10 i.toInt.toNat h11)).2.2.2; rw [(z_AR h7 hVE (by omega)).trans hg_e37] at hv9; have hu9 : ∀ j, j < 960 → fu' j = fu j := fun j hj => z_AR h8 hNU hj; exact ⟨_, _, _, rfl, hA_bk, t_tell_thing hk9 hv9 hn9 (by omega) (by omega) (by rw [hu9 _ (by omega), show 4 * i.toInt.toNat = z6.toInt.toNat by omega]; exact hg_e7) (by rw [hu9 _ (by omega), show 4 * i.toInt.toNat + 1 = z17.toInt.toNat by omega]; exact hg_e18) (by rw [hu9 _ (by omega), show 4 * i.toInt.toNat + 2 = z28.toInt.toNat by omega]; exact hg_e29) (by rw [hu9 _ (by omega), show 4 * i.toInt.toNat + 3 = z96.toInt.toNat by omega]; exact hg_e97) (by rw [← hg_z83]; have h8 := t_tc_c _ hk9; have h7 := y_sub (x := e37) (y := 10) (by omega) (by omega); omega) hm, fun q9 => by first | omega | exact absurd rfl q9, fun q9 => by first | omega | exact absurd q9 (by decide)⟩) (Nat.le_refl _) (Nat.le_refl _) tiX_d109
    · have q64_ : e37.toInt = (20 : Int32).toInt := by rw [q64]
      refine lv_aload_n hx hb tiX_d67 rfl (lv_at hl 4 rfl) ?_
      refine lv_iload_n hx hb tiX_d68 rfl (lv_at hl 3 rfl) ?_
      refine lv_iload_n hx hb tiX_d69 rfl (lv_at hl 2 rfl) ?_
      refine lv_iload hx hb tiX_d70 (lv_at hl 1 rfl) ?_
      refine y_call (z := (0, 222, 4, some 17, xM147)) (av := [.ref this, .int e7, .int e18, .int e29]) (rest := []) (y_cokV (n := 3) (ci := 12) X ym_mhill rfl rfl rfl (x_cons (x_bw76 10 rfl rfl) (x_cons (x_bw67 7 rfl rfl) (x_cons (x_bw67 8 rfl rfl) (x_cons (x_bw0 9 rfl rfl) x_nilm)))) (x_bw67 9 rfl rfl) (by decide +kernel) ⟨Nat.le_of_ble_eq_true rfl, Nat.le_of_ble_eq_true rfl⟩) hY0 hI rfl tiX_d72 hl.1 (Nat.le_of_ble_eq_true rfl) (Nat.le_of_ble_eq_true rfl) (Nat.le_of_ble_eq_true rfl) (y_cons (y_cref hY_this rfl) (y_cons ⟨_, rfl, x_i32 _⟩ (y_cons ⟨_, rfl, x_i32 _⟩ (y_cons ⟨_, rfl, x_i32 _⟩ y_nil)))) rfl (y_recv rfl hY_this) trivial (y_sub_ef rfl) fun v Yn o Hn L ho hr ha hIn hx_ hE hP => ?_
      have hPm := hP _ _ _ _ _ _ rfl hs_bk hcn hA_bk
      replace hs_bk := y_Efld hE hY_this rfl (by decide) (by decide) hs_bk
      replace hs_ve := y_Efld hE hY_this rfl (by decide) (by decide) hs_ve
      replace hs_nu := y_Efld hE hY_this rfl (by decide) (by decide) hs_nu
      replace hA_ve := hA_ve.kept (y_Earr hE hY_ve rfl (by decide))
      replace hA_nu := hA_nu.kept (y_Earr hE hY_nu rfl (by decide))
      replace hY_this := y_ext hx_ hI.1 hY_this
      replace hY_bk := y_ext hx_ hI.1 hY_bk
      replace hY_ve := y_ext hx_ hI.1 hY_ve
      replace hY_nu := y_ext hx_ hI.1 hY_nu
      obtain ⟨r72, gN, rfl, hA_bk, hm⟩ := hPm
      clear ho hr ha hE hP hI hx_
      rename x_I _ _ _ _ _ _ _ _ _ _ => hI
      refine lv_goto hx hb tiX_d75 (tgt := 101) (by decide) ?_
      have ec0 : (0 : Int32).toInt = 0 := by decide
      refine lv_if_lt hx hb tiX_d101 (tgt := 108) (by decide) (fun q101 => ?_) (fun q101 => ?_)
      · have q101_ : r72.toInt < (0 : Int32).toInt := x_lt32.mp q101
        refine lv_iconst hx hb tiX_d108 (v := 0) (by decide) ?_
        exact y_ireturn B hI rfl rfl rfl (List.mem_cons_of_mem _ List.mem_cons_self) ⟨_, rfl, ⟨_, rfl, by decide, by decide⟩⟩ (x_cs.mono B.2.2.2.2.2 (y_mon B hI)) (fun t' b' ve' nu' n' N' i' f' fv' fu' ft' h1 h2 h3 h4 h5 h6 h7 h8 h9 h10 h11 => by cases h1; cases h2.symm.trans hs0; cases h3.symm.trans hve0; cases h4.symm.trans hnu0; cases z_uniq h6 hA0 h5 hcn; obtain ⟨hv9, hn9⟩ := h9 i.toInt.toNat h11; have hk9 := (t_nx_lt (t_good_le _ (fun j hj => h10 j (by omega))).2 (h10 i.toInt.toNat h11)).2.2.2; rw [(z_AR h7 hVE (by omega)).trans hg_e37] at hv9; have hu9 : ∀ j, j < 960 → fu' j = fu j := fun j hj => z_AR h8 hNU hj; exact ⟨_, _, _, rfl, hA_bk, t_tell_hill hk9 hv9 hn9 (by omega) (by rw [hu9 _ (by omega), show 4 * i.toInt.toNat = z6.toInt.toNat by omega]; exact hg_e7) (by rw [hu9 _ (by omega), show 4 * i.toInt.toNat + 1 = z17.toInt.toNat by omega]; exact hg_e18) (by rw [hu9 _ (by omega), show 4 * i.toInt.toNat + 2 = z28.toInt.toNat by omega]; exact hg_e29) hm, fun q9 => by first | omega | exact absurd rfl q9, fun q9 => by first | omega | exact absurd q9 (by decide)⟩) (Nat.le_refl _) (Nat.le_refl _) tiX_d109
      · have q101_ : (0 : Int32).toInt ≤ r72.toInt := Int.not_lt.mp fun q => q101 (x_lt32.mpr q)
        refine lv_iconst hx hb tiX_d104 (v := 1) (by decide) ?_
        refine lv_goto hx hb tiX_d105 (tgt := 109) (by decide) ?_
        exact y_ireturn B hI rfl rfl rfl List.mem_cons_self ⟨_, rfl, ⟨_, rfl, by decide, by decide⟩⟩ (x_cs.mono B.2.2.2.2.2 (y_mon B hI)) (fun t' b' ve' nu' n' N' i' f' fv' fu' ft' h1 h2 h3 h4 h5 h6 h7 h8 h9 h10 h11 => by cases h1; cases h2.symm.trans hs0; cases h3.symm.trans hve0; cases h4.symm.trans hnu0; cases z_uniq h6 hA0 h5 hcn; obtain ⟨hv9, hn9⟩ := h9 i.toInt.toNat h11; have hk9 := (t_nx_lt (t_good_le _ (fun j hj => h10 j (by omega))).2 (h10 i.toInt.toNat h11)).2.2.2; rw [(z_AR h7 hVE (by omega)).trans hg_e37] at hv9; have hu9 : ∀ j, j < 960 → fu' j = fu j := fun j hj => z_AR h8 hNU hj; exact ⟨_, _, _, rfl, hA_bk, t_tell_hill hk9 hv9 hn9 (by omega) (by rw [hu9 _ (by omega), show 4 * i.toInt.toNat = z6.toInt.toNat by omega]; exact hg_e7) (by rw [hu9 _ (by omega), show 4 * i.toInt.toNat + 1 = z17.toInt.toNat by omega]; exact hg_e18) (by rw [hu9 _ (by omega), show 4 * i.toInt.toNat + 2 = z28.toInt.toNat by omega]; exact hg_e29) hm, fun q9 => by first | omega | exact absurd rfl q9, fun q9 => by first | omega | exact absurd q9 (by decide)⟩) (Nat.le_refl _) (Nat.le_refl _) tiX_d109
  · have q44_ : (30 : Int32).toInt ≤ e37.toInt := Int.not_lt.mp fun q => q44 (x_lt32.mpr q)
    refine lv_aload_n hx hb tiX_d47 rfl (lv_at hl 4 rfl) ?_
    refine lv_iload hx hb tiX_d48 (lv_at hl 0 rfl) ?_
    refine lv_bipush hx hb tiX_d50 (v := 30) (by decide) ?_
    refine lv_isub hx hb tiX_d52 ?_
    generalize hg_z52 : e37 - (30 : Int32) = z52
    refine lv_iload_n hx hb tiX_d53 rfl (lv_at hl 3 rfl) ?_
    refine y_call (z := (0, 219, 3, some 17, xM159)) (av := [.ref this, .int z52, .int e7]) (rest := []) (y_cokV (n := 2) (ci := 12) X ym_mput rfl rfl rfl (x_cons (x_bw76 9 rfl rfl) (x_cons (x_bw69 6 rfl rfl) (x_cons (x_bw69 7 rfl rfl) (x_cons (x_bw0 9 rfl rfl) x_nilm)))) (x_bw69 8 rfl rfl) (by decide +kernel) ⟨Nat.le_of_ble_eq_true rfl, Nat.le_of_ble_eq_true rfl⟩) hY0 hI rfl tiX_d54 hl.1 (Nat.le_of_ble_eq_true rfl) (Nat.le_of_ble_eq_true rfl) (Nat.le_of_ble_eq_true rfl) (y_cons (y_cref hY_this rfl) (y_cons ⟨_, rfl, x_i32 _⟩ (y_cons ⟨_, rfl, x_i32 _⟩ y_nil))) rfl (y_recv rfl hY_this) trivial (y_sub_ef rfl) fun v Yn o Hn L ho hr ha hIn hx_ hE hP => ?_
    have hPm := hP _ _ _ _ _ rfl hs_bk hcn hA_bk
    replace hs_bk := y_Efld hE hY_this rfl (by decide) (by decide) hs_bk
    replace hs_ve := y_Efld hE hY_this rfl (by decide) (by decide) hs_ve
    replace hs_nu := y_Efld hE hY_this rfl (by decide) (by decide) hs_nu
    replace hA_ve := hA_ve.kept (y_Earr hE hY_ve rfl (by decide))
    replace hA_nu := hA_nu.kept (y_Earr hE hY_nu rfl (by decide))
    replace hY_this := y_ext hx_ hI.1 hY_this
    replace hY_bk := y_ext hx_ hI.1 hY_bk
    replace hY_ve := y_ext hx_ hI.1 hY_ve
    replace hY_nu := y_ext hx_ hI.1 hY_nu
    obtain ⟨r54, gN, rfl, hA_bk, hm⟩ := hPm
    clear ho hr ha hE hP hI hx_
    rename x_I _ _ _ _ _ _ _ _ _ _ => hI
    refine lv_goto hx hb tiX_d57 (tgt := 101) (by decide) ?_
    have ec0 : (0 : Int32).toInt = 0 := by decide
    refine lv_if_lt hx hb tiX_d101 (tgt := 108) (by decide) (fun q101 => ?_) (fun q101 => ?_)
    · have q101_ : r54.toInt < (0 : Int32).toInt := x_lt32.mp q101
      refine lv_iconst hx hb tiX_d108 (v := 0) (by decide) ?_
      exact y_ireturn B hI rfl rfl rfl (List.mem_cons_of_mem _ List.mem_cons_self) ⟨_, rfl, ⟨_, rfl, by decide, by decide⟩⟩ (x_cs.mono B.2.2.2.2.2 (y_mon B hI)) (fun t' b' ve' nu' n' N' i' f' fv' fu' ft' h1 h2 h3 h4 h5 h6 h7 h8 h9 h10 h11 => by cases h1; cases h2.symm.trans hs0; cases h3.symm.trans hve0; cases h4.symm.trans hnu0; cases z_uniq h6 hA0 h5 hcn; obtain ⟨hv9, hn9⟩ := h9 i.toInt.toNat h11; have hk9 := (t_nx_lt (t_good_le _ (fun j hj => h10 j (by omega))).2 (h10 i.toInt.toNat h11)).2.2.2; rw [(z_AR h7 hVE (by omega)).trans hg_e37] at hv9; have hu9 : ∀ j, j < 960 → fu' j = fu j := fun j hj => z_AR h8 hNU hj; exact ⟨_, _, _, rfl, hA_bk, t_tell_put hk9 hv9 hn9 (by omega) (by rw [hu9 _ (by omega), show 4 * i.toInt.toNat = z6.toInt.toNat by omega]; exact hg_e7) (by rw [← hg_z52]; have h8 := t_tc_c _ hk9; have h7 := y_sub (x := e37) (y := 30) (by omega) (by omega); omega) hm, fun q9 => by first | omega | exact absurd rfl q9, fun q9 => by first | omega | exact absurd q9 (by decide)⟩) (Nat.le_refl _) (Nat.le_refl _) tiX_d109
    · have q101_ : (0 : Int32).toInt ≤ r54.toInt := Int.not_lt.mp fun q => q101 (x_lt32.mpr q)
      refine lv_iconst hx hb tiX_d104 (v := 1) (by decide) ?_
      refine lv_goto hx hb tiX_d105 (tgt := 109) (by decide) ?_
      exact y_ireturn B hI rfl rfl rfl List.mem_cons_self ⟨_, rfl, ⟨_, rfl, by decide, by decide⟩⟩ (x_cs.mono B.2.2.2.2.2 (y_mon B hI)) (fun t' b' ve' nu' n' N' i' f' fv' fu' ft' h1 h2 h3 h4 h5 h6 h7 h8 h9 h10 h11 => by cases h1; cases h2.symm.trans hs0; cases h3.symm.trans hve0; cases h4.symm.trans hnu0; cases z_uniq h6 hA0 h5 hcn; obtain ⟨hv9, hn9⟩ := h9 i.toInt.toNat h11; have hk9 := (t_nx_lt (t_good_le _ (fun j hj => h10 j (by omega))).2 (h10 i.toInt.toNat h11)).2.2.2; rw [(z_AR h7 hVE (by omega)).trans hg_e37] at hv9; have hu9 : ∀ j, j < 960 → fu' j = fu j := fun j hj => z_AR h8 hNU hj; exact ⟨_, _, _, rfl, hA_bk, t_tell_put hk9 hv9 hn9 (by omega) (by rw [hu9 _ (by omega), show 4 * i.toInt.toNat = z6.toInt.toNat by omega]; exact hg_e7) (by rw [← hg_z52]; have h8 := t_tc_c _ hk9; have h7 := y_sub (x := e37) (y := 30) (by omega) (by omega); omega) hm, fun q9 => by first | omega | exact absurd rfl q9, fun q9 => by first | omega | exact absurd q9 (by decide)⟩) (Nat.le_refl _) (Nat.le_refl _) tiX_d109
def z_PldX : yP := fun D av _ H v _ H' => ∀ (this bk tx : Nat) (ty : Int32) (f ft : Nat → Int32), av = [.ref this] → x_sl D 12 0 this H = some (.ref bk) → x_sl D 12 10 this H = some (.int ty) → x_sl D 12 9 this H = some (.ref tx) → z_c f → y_A bk 160 H f → t_c ft → y_A tx 240 H ft → ∃ (r : Int32) (g : Nat → Int32), v = some (.int r) ∧ y_A bk 160 H' g ∧ m_land ft ty.toInt.toNat f r g
theorem lX_d0 : decode xMld.2.1 0 = .ok (.aload_n 0, 1) := dz_ok (by decide +kernel)
theorem lX_d1 : decode xMld.2.1 1 = .ok (.invokevirtual 230, 3) := dz_ok (by decide +kernel)
theorem lX_d4 : decode xMld.2.1 4 = .ok (.ifCond .ne 11, 3) := dz_ok (by decide +kernel)
theorem lX_d7 : decode xMld.2.1 7 = .ok (.bipush (-10), 2) := dz_ok (by decide +kernel)
theorem lX_d9 : decode xMld.2.1 9 = .ok (.aload_n 0, 1) := dz_ok (by decide +kernel)
theorem lX_d10 : decode xMld.2.1 10 = .ok (.getfield 193, 3) := dz_ok (by decide +kernel)
theorem lX_d13 : decode xMld.2.1 13 = .ok (.isub, 1) := dz_ok (by decide +kernel)
theorem lX_d14 : decode xMld.2.1 14 = .ok (.ireturn, 1) := dz_ok (by decide +kernel)
theorem lX_d15 : decode xMld.2.1 15 = .ok (.iconst 0, 1) := dz_ok (by decide +kernel)
theorem lX_d16 : decode xMld.2.1 16 = .ok (.istore_n 1, 1) := dz_ok (by decide +kernel)
theorem lX_d17 : decode xMld.2.1 17 = .ok (.iload_n 1, 1) := dz_ok (by decide +kernel)
theorem lX_d18 : decode xMld.2.1 18 = .ok (.sipush 160, 3) := dz_ok (by decide +kernel)
theorem lX_d21 : decode xMld.2.1 21 = .ok (.if_icmp .ge 21, 3) := dz_ok (by decide +kernel)
theorem lX_d24 : decode xMld.2.1 24 = .ok (.aload_n 0, 1) := dz_ok (by decide +kernel)
theorem lX_d25 : decode xMld.2.1 25 = .ok (.getfield 20, 3) := dz_ok (by decide +kernel)
theorem lX_d28 : decode xMld.2.1 28 = .ok (.iload_n 1, 1) := dz_ok (by decide +kernel)
theorem lX_d29 : decode xMld.2.1 29 = .ok (.aload_n 0, 1) := dz_ok (by decide +kernel)
theorem lX_d30 : decode xMld.2.1 30 = .ok (.getfield 7, 3) := dz_ok (by decide +kernel)
theorem lX_d33 : decode xMld.2.1 33 = .ok (.iload_n 1, 1) := dz_ok (by decide +kernel)
theorem lX_d34 : decode xMld.2.1 34 = .ok (.iaload, 1) := dz_ok (by decide +kernel)
theorem lX_d35 : decode xMld.2.1 35 = .ok (.iastore, 1) := dz_ok (by decide +kernel)
theorem lX_d36 : decode xMld.2.1 36 = .ok (.iinc 1 1, 3) := dz_ok (by decide +kernel)
theorem lX_d39 : decode xMld.2.1 39 = .ok (.goto (-22), 3) := dz_ok (by decide +kernel)
theorem lX_d42 : decode xMld.2.1 42 = .ok (.aload_n 0, 1) := dz_ok (by decide +kernel)
theorem lX_d43 : decode xMld.2.1 43 = .ok (.invokevirtual 65, 3) := dz_ok (by decide +kernel)
theorem lX_d46 : decode xMld.2.1 46 = .ok (.aload_n 0, 1) := dz_ok (by decide +kernel)
theorem lX_d47 : decode xMld.2.1 47 = .ok (.iconst 1, 1) := dz_ok (by decide +kernel)
theorem lX_d48 : decode xMld.2.1 48 = .ok (.putfield 72, 3) := dz_ok (by decide +kernel)
theorem lX_d51 : decode xMld.2.1 51 = .ok (.iconst 0, 1) := dz_ok (by decide +kernel)
theorem lX_d52 : decode xMld.2.1 52 = .ok (.istore_n 1, 1) := dz_ok (by decide +kernel)
theorem lX_d53 : decode xMld.2.1 53 = .ok (.iload_n 1, 1) := dz_ok (by decide +kernel)
theorem lX_d54 : decode xMld.2.1 54 = .ok (.aload_n 0, 1) := dz_ok (by decide +kernel)
theorem lX_d55 : decode xMld.2.1 55 = .ok (.getfield 210, 3) := dz_ok (by decide +kernel)
theorem lX_d58 : decode xMld.2.1 58 = .ok (.if_icmp .ge 17, 3) := dz_ok (by decide +kernel)
theorem lX_d61 : decode xMld.2.1 61 = .ok (.aload_n 0, 1) := dz_ok (by decide +kernel)
theorem lX_d62 : decode xMld.2.1 62 = .ok (.iload_n 1, 1) := dz_ok (by decide +kernel)
theorem lX_d63 : decode xMld.2.1 63 = .ok (.invokevirtual 234, 3) := dz_ok (by decide +kernel)
theorem lX_d66 : decode xMld.2.1 66 = .ok (.ifCond .eq 9, 3) := dz_ok (by decide +kernel)
theorem lX_d69 : decode xMld.2.1 69 = .ok (.iinc 1 1, 3) := dz_ok (by decide +kernel)
theorem lX_d72 : decode xMld.2.1 72 = .ok (.goto (-19), 3) := dz_ok (by decide +kernel)
theorem lX_d75 : decode xMld.2.1 75 = .ok (.aload_n 0, 1) := dz_ok (by decide +kernel)
theorem lX_d76 : decode xMld.2.1 76 = .ok (.iconst 0, 1) := dz_ok (by decide +kernel)
theorem lX_d77 : decode xMld.2.1 77 = .ok (.putfield 72, 3) := dz_ok (by decide +kernel)
theorem lX_d80 : decode xMld.2.1 80 = .ok (.iload_n 1, 1) := dz_ok (by decide +kernel)
theorem lX_d81 : decode xMld.2.1 81 = .ok (.aload_n 0, 1) := dz_ok (by decide +kernel)
theorem lX_d82 : decode xMld.2.1 82 = .ok (.getfield 210, 3) := dz_ok (by decide +kernel)
theorem lX_d85 : decode xMld.2.1 85 = .ok (.if_icmp .ne 8, 3) := dz_ok (by decide +kernel)
theorem lX_d88 : decode xMld.2.1 88 = .ok (.aload_n 0, 1) := dz_ok (by decide +kernel)
theorem lX_d89 : decode xMld.2.1 89 = .ok (.getfield 210, 3) := dz_ok (by decide +kernel)
theorem lX_d92 : decode xMld.2.1 92 = .ok (.ireturn, 1) := dz_ok (by decide +kernel)
theorem lX_d93 : decode xMld.2.1 93 = .ok (.iconst 0, 1) := dz_ok (by decide +kernel)
theorem lX_d94 : decode xMld.2.1 94 = .ok (.istore_n 2, 1) := dz_ok (by decide +kernel)
theorem lX_d95 : decode xMld.2.1 95 = .ok (.iload_n 2, 1) := dz_ok (by decide +kernel)
theorem lX_d96 : decode xMld.2.1 96 = .ok (.sipush 160, 3) := dz_ok (by decide +kernel)
theorem lX_d99 : decode xMld.2.1 99 = .ok (.if_icmp .ge 21, 3) := dz_ok (by decide +kernel)
theorem lX_d102 : decode xMld.2.1 102 = .ok (.aload_n 0, 1) := dz_ok (by decide +kernel)
theorem lX_d103 : decode xMld.2.1 103 = .ok (.getfield 7, 3) := dz_ok (by decide +kernel)
theorem lX_d106 : decode xMld.2.1 106 = .ok (.iload_n 2, 1) := dz_ok (by decide +kernel)
theorem lX_d107 : decode xMld.2.1 107 = .ok (.aload_n 0, 1) := dz_ok (by decide +kernel)
theorem lX_d108 : decode xMld.2.1 108 = .ok (.getfield 20, 3) := dz_ok (by decide +kernel)
theorem lX_d111 : decode xMld.2.1 111 = .ok (.iload_n 2, 1) := dz_ok (by decide +kernel)
theorem lX_d112 : decode xMld.2.1 112 = .ok (.iaload, 1) := dz_ok (by decide +kernel)
theorem lX_d113 : decode xMld.2.1 113 = .ok (.iastore, 1) := dz_ok (by decide +kernel)
theorem lX_d114 : decode xMld.2.1 114 = .ok (.iinc 2 1, 3) := dz_ok (by decide +kernel)
theorem lX_d117 : decode xMld.2.1 117 = .ok (.goto (-22), 3) := dz_ok (by decide +kernel)
theorem lX_d120 : decode xMld.2.1 120 = .ok (.sipush (-1000), 3) := dz_ok (by decide +kernel)
theorem lX_d123 : decode xMld.2.1 123 = .ok (.iload_n 1, 1) := dz_ok (by decide +kernel)
theorem lX_d124 : decode xMld.2.1 124 = .ok (.isub, 1) := dz_ok (by decide +kernel)
theorem lX_d125 : decode xMld.2.1 125 = .ok (.ireturn, 1) := dz_ok (by decide +kernel)
theorem lX_L95 {p : Program} {l : Launch} {e : Env} {s : State} {m : MethodId} {below : List Frame} {meth : Method} {c : Code} {D : va_G} {U : State} {Y0 : xY} {av : List Value} (B : y_B vwCl x_Tb x_Nb xMld p s m meth c D U Y0 av) {this bk be ve nu tx N q : Nat} {ty it : Int32} {f0 ft fv fu : Nat → Int32} (hav : av = [.ref this]) (hs0 : x_sl D 12 0 this s.heap = some (.ref bk)) (ht0 : x_sl D 12 10 this s.heap = some (.int ty)) (hx0 : x_sl D 12 9 this s.heap = some (.ref tx)) (hcn0 : z_c f0) (hA0 : y_A bk 160 s.heap f0) (hct : t_c ft) (hAt : y_A tx 240 s.heap ft) (hres : t_res ft ty.toInt.toNat N 0 q) (hit : it.toInt = N) (hit2 : it.toInt ≤ 240) (hvn : t_vn ft ty.toInt.toNat N fv fu) {told : Int32} {fq : Nat → Int32} (hfq : ∀ j, j < 160 → fq j = f0 j) (hh : z_hd fq) (hto : 0 ≤ told.toInt ∧ told.toInt < it.toInt) (href : m_ref ft ty.toInt.toNat (m_beg f0) told.toInt.toNat)  :
    ∀ (n : Nat), ∀ (H : Heap) (Y : xY) (locs : List Loc) (ls : Array Slot) (k : Int32) (fb : Nat → Int32), x_I D x_G x_Zs U (x_efs xMld) Y0 s.heap Y H locs → Y this = some 17 → Y bk = some 46 → Y be = some 49 → Y ve = some 53 → Y nu = some 54 → x_sl D 12 0 this H = some (.ref bk) → x_sl D 12 3 this H = some (.ref be) → x_sl D 12 15 this H = some (.ref ve) → x_sl D 12 16 this H = some (.ref nu) → x_sl D 12 17 this H = some (.int it) → y_A bk 160 H fb → y_A be 160 H fq → y_A ve 240 H fv → y_A nu 960 H fu → lv_has ls xMld.2.2.1 [(2, .int k), (1, .int told), (0, .ref this)] → (0 ≤ k.toInt ∧ k.toInt ≤ 160) → (∀ j : Nat, (j : Int) < k.toInt → fb j = fq j) → (160 - k.toInt).toNat < n → W p l e (x_rm xMld) s m av.toArray below meth c H locs 0 0 (y_QQ below D x_G x_Zs U xMld z_PldX av Y0 s) (F0 m 95 ls []) := by
  have X := B.1
  have hx := X.1
  have hb := X.2.1
  have hY0 := B.2.2.2.2.1
  intro n
  induction n with
  | zero => intro _ _ _ _ _ _ _ _ _ _ _ _ _ _ _ _ _ _ _ _ _ _ _ _ h; exact absurd h (Nat.not_lt_zero _)
  | succ n ih =>
    intro H Y locs ls k fb hI hY_this hY_bk hY_be hY_ve hY_nu hs_bk hs_be hs_ve hs_nu hsi_items hA_bk hA_be hA_ve hA_nu hl hk hfb hn
    refine lv_iload_n hx hb lX_d95 rfl (lv_at hl 0 rfl) ?_
    refine lv_sipush hx hb lX_d96 (v := 160) (by decide) ?_
    have ec160 : (160 : Int32).toInt = 160 := by decide
    refine lv_icmp_ge hx hb lX_d99 (tgt := 120) (by decide) (fun q99 => ?_) (fun q99 => ?_)
    · have q99_ : (160 : Int32).toInt ≤ k.toInt := x_le32.mp q99
      refine lv_sipush hx hb lX_d120 (v := (-1000)) (by decide) ?_
      have ecm1000 : ((-1000) : Int32).toInt = (-1000) := by decide
      refine lv_iload_n hx hb lX_d123 rfl (lv_at hl 1 rfl) ?_
      refine lv_isub hx hb lX_d124 ?_
      generalize hg_z124 : ((-1000) : Int32) - told = z124
      have h_z124 : z124.toInt = (-1000) - told.toInt := by rw [← hg_z124]; have := y_sub (x := ((-1000) : Int32)) (y := told) (by rw [ecm1000]; omega) (by rw [ecm1000]; omega); rw [ecm1000] at this; exact this
      subst hav
      exact y_ireturn B hI rfl rfl rfl List.mem_cons_self ⟨_, rfl, ⟨_, rfl, x_i32 _⟩⟩ (x_cs.mono B.2.2.2.2.2 (y_mon B hI)) (fun t' b' x' ty' f' ft' h1 h2 h3 h4 h5 h6 h7 h8 => by cases h1; cases h2.symm.trans hs0; cases h3.symm.trans ht0; cases h4.symm.trans hx0; cases z_uniq h6 hA0 h5 hcn0; cases t_uniq h8 hAt h7 hct; exact ⟨_, f0, rfl, fun j hj => by rw [hA_bk j hj, hfb j (by omega), hfq j hj], N, 0, q, hres, fun q9 => absurd q9 (by decide), fun _ => Or.inr ⟨told.toInt.toNat, by omega, href, by omega, rfl⟩⟩) (Nat.le_refl _) (Nat.le_refl _) lX_d125
    · have q99_ : k.toInt < (160 : Int32).toInt := Int.not_le.mp fun q => q99 (x_le32.mpr q)
      refine lv_aload_n hx hb lX_d102 rfl (lv_at hl 2 rfl) ?_
      refine y_getf X (fl190 X.2.2.2.2.1) hI.1 hY_this rfl hs_bk lX_d103 ?_
      refine lv_iload_n hx hb lX_d106 rfl (lv_at hl 0 rfl) ?_
      refine lv_aload_n hx hb lX_d107 rfl (lv_at hl 2 rfl) ?_
      refine y_getf X (fl_lX_240 X.2.2.2.2.1) hI.1 hY_this rfl hs_be lX_d108 ?_
      refine lv_iload_n hx hb lX_d111 rfl (lv_at hl 0 rfl) ?_
      refine y_iald X hI.1 hY_be rfl hA_be (by omega) (by show _ < (160 : Int); omega) lX_d112 ?_
      obtain ⟨e112, hg_e112⟩ : ∃ e112 : Int32, fq k.toInt.toNat = e112 := ⟨_, rfl⟩
      rw [hg_e112]
      refine y_iast X hY0 hI hY_bk rfl hA_bk (by omega) (by show _ < (160 : Int); omega) (by have := z_hdc (Y := Y) hh k.toInt.toNat; rw [hg_e112] at this; exact this) (by decide +kernel) lX_d113 fun H locs hI h_new ho => ?_
      replace hA_bk := h_new
      generalize hf_f113 : y_up fb k.toInt.toNat e112 = f113 at hA_bk
      replace hs_bk := y_slk hs_bk (ho _ (y_ne hY_this hY_bk rfl))
      replace hs_be := y_slk hs_be (ho _ (y_ne hY_this hY_bk rfl))
      replace hs_ve := y_slk hs_ve (ho _ (y_ne hY_this hY_bk rfl))
      replace hs_nu := y_slk hs_nu (ho _ (y_ne hY_this hY_bk rfl))
      replace hsi_items := y_slk hsi_items (ho _ (y_ne hY_this hY_bk rfl))
      replace hA_be := hA_be.kept (ho _ (y_ne hY_be hY_bk rfl))
      replace hA_ve := hA_ve.kept (ho _ (y_ne hY_ve hY_bk rfl))
      replace hA_nu := hA_nu.kept (ho _ (y_ne hY_nu hY_bk rfl))
      obtain ⟨z114, hg_z114⟩ : ∃ z114 : Int32, k + Int32.ofInt 1 = z114 := ⟨_, rfl⟩
      have h_z114 : z114.toInt = k.toInt + 1 := by rw [← hg_z114]; exact y_inc (by decide) (by omega) (by omega)
      refine lv_iinc hx hb lX_d114 hl (k := 0) rfl hg_z114 (by decide) (lv' := [(2, .int z114), (1, .int told), (0, .ref this)]) rfl fun ls hl => ?_
      refine lv_goto hx hb lX_d117 (tgt := 95) (by decide) ?_
      exact ih _ _ _ _ _ _ hI hY_this hY_bk hY_be hY_ve hY_nu hs_bk hs_be hs_ve hs_nu hsi_items hA_bk hA_be hA_ve hA_nu (lv_sub hl [0, 1, 2] rfl) (by first | assumption | omega) (fun j hj => by rw [← hf_f113]; by_cases ej : j = k.toInt.toNat; (rw [ej, y_up_at, hg_e112]); rw [y_up_ne ej]; exact hfb j (by omega)) (by omega)
theorem lX_L53 {p : Program} {l : Launch} {e : Env} {s : State} {m : MethodId} {below : List Frame} {meth : Method} {c : Code} {D : va_G} {U : State} {Y0 : xY} {av : List Value} (B : y_B vwCl x_Tb x_Nb xMld p s m meth c D U Y0 av) {this bk be ve nu tx N q : Nat} {ty it : Int32} {f0 ft fv fu : Nat → Int32} (hav : av = [.ref this]) (hs0 : x_sl D 12 0 this s.heap = some (.ref bk)) (ht0 : x_sl D 12 10 this s.heap = some (.int ty)) (hx0 : x_sl D 12 9 this s.heap = some (.ref tx)) (hcn0 : z_c f0) (hA0 : y_A bk 160 s.heap f0) (hct : t_c ft) (hAt : y_A tx 240 s.heap ft) (hres : t_res ft ty.toInt.toNat N 0 q) (hit : it.toInt = N) (hit2 : it.toInt ≤ 240) (hvn : t_vn ft ty.toInt.toNat N fv fu) {fq : Nat → Int32} (hfq : ∀ j, j < 160 → fq j = f0 j) (hh : z_hd fq)  :
    ∀ (n : Nat), ∀ (H : Heap) (Y : xY) (locs : List Loc) (ls : Array Slot) (told : Int32) (fb : Nat → Int32), x_I D x_G x_Zs U (x_efs xMld) Y0 s.heap Y H locs → Y this = some 17 → Y bk = some 46 → Y be = some 49 → Y ve = some 53 → Y nu = some 54 → x_sl D 12 0 this H = some (.ref bk) → x_sl D 12 3 this H = some (.ref be) → x_sl D 12 15 this H = some (.ref ve) → x_sl D 12 16 this H = some (.ref nu) → x_sl D 12 17 this H = some (.int it) → y_A bk 160 H fb → y_A be 160 H fq → y_A ve 240 H fv → y_A nu 960 H fu → lv_has ls xMld.2.2.1 [(1, .int told), (0, .ref this)] → (0 ≤ told.toInt ∧ told.toInt ≤ it.toInt) → (z_c fb) → (m_seq ft ty.toInt.toNat (m_beg f0) told.toInt.toNat fb) → (241 - told.toInt).toNat < n → W p l e (x_rm xMld) s m av.toArray below meth c H locs 0 0 (y_QQ below D x_G x_Zs U xMld z_PldX av Y0 s) (F0 m 53 ls []) := by
  have X := B.1
  have hx := X.1
  have hb := X.2.1
  have hY0 := B.2.2.2.2.1
  intro n
  induction n with
  | zero => intro _ _ _ _ _ _ _ _ _ _ _ _ _ _ _ _ _ _ _ _ _ _ _ _ _ h; exact absurd h (Nat.not_lt_zero _)
  | succ n ih =>
    intro H Y locs ls told fb hI hY_this hY_bk hY_be hY_ve hY_nu hs_bk hs_be hs_ve hs_nu hsi_items hA_bk hA_be hA_ve hA_nu hl ht hcn hsq hn
    have hgd := hres.1
    have hdb : z_hd fb := by obtain ⟨f9, h9, hB9⟩ := y_arr hI.1 hY_bk rfl rfl; exact z_hdf (z_hdr hB9) (fun j hj => (z_AR hA_bk h9 (by omega)))
    have hbd : m_bd fb := ⟨hdb.1.2, hdb.2.1.2⟩
    refine lv_iload_n hx hb lX_d53 rfl (lv_at hl 0 rfl) ?_
    refine lv_aload_n hx hb lX_d54 rfl (lv_at hl 1 rfl) ?_
    refine y_getf X (fl_rd_234v X.2.2.2.2.1) hI.1 hY_this rfl hsi_items lX_d55 ?_
    refine lv_icmp_ge hx hb lX_d58 (tgt := 75) (by decide) (fun q58 => ?_) (fun q58 => ?_)
    · have q58_ : it.toInt ≤ told.toInt := x_le32.mp q58
      refine lv_aload_n hx hb lX_d75 rfl (lv_at hl 1 rfl) ?_
      refine lv_iconst hx hb lX_d76 (v := 0) (by decide) ?_
      have ec0 : (0 : Int32).toInt = 0 := by decide
      refine y_putf X (fw_lX_241 X.2.2.2.2.1) hY0 hI hY_this rfl rfl ⟨_, rfl, by show (0 : Int) ≤ _; omega, by show _ ≤ (1 : Int); omega⟩ (by decide +kernel) lX_d77 fun H sl hI ho hs hk => ?_
      replace hs_bk := hk _ _ (by decide +kernel) (by decide) hs_bk
      replace hs_be := hk _ _ (by decide +kernel) (by decide) hs_be
      replace hs_ve := hk _ _ (by decide +kernel) (by decide) hs_ve
      replace hs_nu := hk _ _ (by decide +kernel) (by decide) hs_nu
      replace hsi_items := hk _ _ (by decide +kernel) (by decide) hsi_items
      replace hA_bk := hA_bk.kept (ho _ (y_ne hY_bk hY_this rfl))
      replace hA_be := hA_be.kept (ho _ (y_ne hY_be hY_this rfl))
      replace hA_ve := hA_ve.kept (ho _ (y_ne hY_ve hY_this rfl))
      replace hA_nu := hA_nu.kept (ho _ (y_ne hY_nu hY_this rfl))
      replace hs := hs
      have hs77 := hs
      refine lv_iload_n hx hb lX_d80 rfl (lv_at hl 0 rfl) ?_
      refine lv_aload_n hx hb lX_d81 rfl (lv_at hl 1 rfl) ?_
      refine y_getf X (fl_rd_234v X.2.2.2.2.1) hI.1 hY_this rfl hsi_items lX_d82 ?_
      refine lv_icmp_ne hx hb lX_d85 (tgt := 93) (by decide) (fun q85 => ?_) (fun q85 => ?_)
      · have q85_ : ¬ told.toInt = it.toInt := fun q => q85 (Int32.toInt_inj.mp q)
        refine lv_iconst hx hb lX_d93 (v := 0) (by decide) ?_
        refine lv_istore_n hx hb lX_d94 rfl hl (by decide) (lv' := [(2, .int (0 : Int32)), (1, .int told), (0, .ref this)]) rfl fun ls hl => ?_
        first
          | exact absurd (by omega : told.toInt = it.toInt) q85_
          | exact lX_L95 B hav hs0 ht0 hx0 hcn0 hA0 hct hAt hres hit hit2 hvn hfq hh (by omega) ⟨fb, r9, gN, hsq, hbd, hmt, hr0 q66⟩ 161 _ _ _ _ _ _ hI hY_this hY_bk hY_be hY_ve hY_nu hs_bk hs_be hs_ve hs_nu hsi_items hA_bk hA_be hA_ve hA_nu (lv_sub hl [0, 1, 2] rfl) (by first | assumption | omega) (fun j hj => absurd hj (by omega)) (by omega)
      · have q85_ : told.toInt = it.toInt := by rw [q85]
        refine lv_aload_n hx hb lX_d88 rfl (lv_at hl 1 rfl) ?_
        refine y_getf X (fl_rd_234v X.2.2.2.2.1) hI.1 hY_this rfl hsi_items lX_d89 ?_
        by_cases e8 : told.toInt < it.toInt
        · exact absurd q85_ (by omega)
        · have e9 : told.toInt = it.toInt := by first | omega | exact q85_
          subst hav
          first | (exfalso; omega) | exact y_ireturn B hI rfl rfl rfl List.mem_cons_self ⟨_, rfl, ⟨_, rfl, x_i32 _⟩⟩ (x_cs.mono B.2.2.2.2.2 (y_mon B hI)) (fun t' b' x' ty' f' ft' h1 h2 h3 h4 h5 h6 h7 h8 => by cases h1; cases h2.symm.trans hs0; cases h3.symm.trans ht0; cases h4.symm.trans hx0; cases z_uniq h6 hA0 h5 hcn0; cases t_uniq h8 hAt h7 hct; exact ⟨_, _, rfl, hA_bk, N, 0, q, hres, fun q9 => absurd q9 (by decide), fun _ => Or.inl ⟨by rw [show N = told.toInt.toNat by omega]; exact hsq, by omega⟩⟩) (Nat.le_refl _) (Nat.le_refl _) lX_d92
    · have q58_ : told.toInt < it.toInt := Int.not_le.mp fun q => q58 (x_le32.mpr q)
      refine lv_aload_n hx hb lX_d61 rfl (lv_at hl 1 rfl) ?_
      refine lv_iload_n hx hb lX_d62 rfl (lv_at hl 0 rfl) ?_
      refine y_call (z := (0, 234, 2, some 17, xM181)) (av := [.ref this, .int told]) (rest := []) (y_cokV (n := 1) (ci := 12) X ym_tellsX rfl rfl rfl (x_cons (x_bw76 5 rfl rfl) (x_cons (x_bw76 7 rfl rfl) (x_cons (x_at 47 (by decide +kernel) rfl) (x_cons (x_bw0 9 rfl rfl) x_nilm)))) (x_bw76 8 rfl rfl) (by decide +kernel) ⟨Nat.le_of_ble_eq_true rfl, Nat.le_of_ble_eq_true rfl⟩) hY0 hI rfl lX_d63 hl.1 (Nat.le_of_ble_eq_true rfl) (Nat.le_of_ble_eq_true rfl) (Nat.le_of_ble_eq_true rfl) (y_cons (y_cref hY_this rfl) (y_cons ⟨_, rfl, by show (0 : Int) ≤ _; omega, by show _ ≤ (239 : Int); omega⟩ y_nil)) rfl (y_recv rfl hY_this) trivial (y_sub_ef rfl) fun v Yn o Hn L ho hr ha hIn hx_ hE hP => ?_
      have hPt := hP _ _ _ _ ty.toInt.toNat N _ _ _ _ ft rfl hs_bk hs_ve hs_nu hcn hA_bk hA_ve hA_nu hvn hgd (by omega)
      replace hs_bk := y_Efld hE hY_this rfl (by decide) (by decide) hs_bk
      replace hs_be := y_Efld hE hY_this rfl (by decide) (by decide) hs_be
      replace hs_ve := y_Efld hE hY_this rfl (by decide) (by decide) hs_ve
      replace hs_nu := y_Efld hE hY_this rfl (by decide) (by decide) hs_nu
      replace hsi_items := y_Efld hE hY_this rfl (by decide) (by decide) hsi_items
      replace hA_be := hA_be.kept (y_Earr hE hY_be rfl (by decide))
      replace hA_ve := hA_ve.kept (y_Earr hE hY_ve rfl (by decide))
      replace hA_nu := hA_nu.kept (y_Earr hE hY_nu rfl (by decide))
      replace hY_this := y_ext hx_ hI.1 hY_this
      replace hY_bk := y_ext hx_ hI.1 hY_bk
      replace hY_be := y_ext hx_ hI.1 hY_be
      replace hY_ve := y_ext hx_ hI.1 hY_ve
      replace hY_nu := y_ext hx_ hI.1 hY_nu
      obtain ⟨r63, r9, gN, rfl, hA_bk, hmt, hr1, hr0⟩ := hPt
      clear ho hr ha hE hP hI hx_
      rename x_I _ _ _ _ _ _ _ _ _ _ => hI
      have ec0 : (0 : Int32).toInt = 0 := by decide
      refine lv_if_eq hx hb lX_d66 (tgt := 75) (by decide) (fun q66 => ?_) (fun q66 => ?_)
      · have q66_ : r63.toInt = (0 : Int32).toInt := by rw [q66]
        refine lv_aload_n hx hb lX_d75 rfl (lv_at hl 1 rfl) ?_
        refine lv_iconst hx hb lX_d76 (v := 0) (by decide) ?_
        refine y_putf X (fw_lX_241 X.2.2.2.2.1) hY0 hI hY_this rfl rfl ⟨_, rfl, by show (0 : Int) ≤ _; omega, by show _ ≤ (1 : Int); omega⟩ (by decide +kernel) lX_d77 fun H sl hI ho hs hk => ?_
        replace hs_bk := hk _ _ (by decide +kernel) (by decide) hs_bk
        replace hs_be := hk _ _ (by decide +kernel) (by decide) hs_be
        replace hs_ve := hk _ _ (by decide +kernel) (by decide) hs_ve
        replace hs_nu := hk _ _ (by decide +kernel) (by decide) hs_nu
        replace hsi_items := hk _ _ (by decide +kernel) (by decide) hsi_items
        replace hA_be := hA_be.kept (ho _ (y_ne hY_be hY_this rfl))
        replace hA_ve := hA_ve.kept (ho _ (y_ne hY_ve hY_this rfl))
        replace hA_nu := hA_nu.kept (ho _ (y_ne hY_nu hY_this rfl))
        replace hA_bk := hA_bk.kept (ho _ (y_ne hY_bk hY_this rfl))
        replace hs := hs
        have hs77 := hs
        refine lv_iload_n hx hb lX_d80 rfl (lv_at hl 0 rfl) ?_
        refine lv_aload_n hx hb lX_d81 rfl (lv_at hl 1 rfl) ?_
        refine y_getf X (fl_rd_234v X.2.2.2.2.1) hI.1 hY_this rfl hsi_items lX_d82 ?_
        refine lv_icmp_ne hx hb lX_d85 (tgt := 93) (by decide) (fun q85 => ?_) (fun q85 => ?_)
        · have q85_ : ¬ told.toInt = it.toInt := fun q => q85 (Int32.toInt_inj.mp q)
          refine lv_iconst hx hb lX_d93 (v := 0) (by decide) ?_
          refine lv_istore_n hx hb lX_d94 rfl hl (by decide) (lv' := [(2, .int (0 : Int32)), (1, .int told), (0, .ref this)]) rfl fun ls hl => ?_
          first
            | exact absurd (by omega : told.toInt = it.toInt) q85_
            | exact lX_L95 B hav hs0 ht0 hx0 hcn0 hA0 hct hAt hres hit hit2 hvn hfq hh (by omega) ⟨fb, r9, gN, hsq, hbd, hmt, hr0 q66⟩ 161 _ _ _ _ _ _ hI hY_this hY_bk hY_be hY_ve hY_nu hs_bk hs_be hs_ve hs_nu hsi_items hA_bk hA_be hA_ve hA_nu (lv_sub hl [0, 1, 2] rfl) (by first | assumption | omega) (fun j hj => absurd hj (by omega)) (by omega)
        · have q85_ : told.toInt = it.toInt := by rw [q85]
          refine lv_aload_n hx hb lX_d88 rfl (lv_at hl 1 rfl) ?_
          refine y_getf X (fl_rd_234v X.2.2.2.2.1) hI.1 hY_this rfl hsi_items lX_d89 ?_
          by_cases e8 : told.toInt < it.toInt
          · exact absurd q85_ (by omega)
          · have e9 : told.toInt = it.toInt := by first | omega | exact q85_
            subst hav
            first | (exfalso; omega) | exact y_ireturn B hI rfl rfl rfl List.mem_cons_self ⟨_, rfl, ⟨_, rfl, x_i32 _⟩⟩ (x_cs.mono B.2.2.2.2.2 (y_mon B hI)) (fun t' b' x' ty' f' ft' h1 h2 h3 h4 h5 h6 h7 h8 => by cases h1; cases h2.symm.trans hs0; cases h3.symm.trans ht0; cases h4.symm.trans hx0; cases z_uniq h6 hA0 h5 hcn0; cases t_uniq h8 hAt h7 hct; exact ⟨_, _, rfl, hA_bk, N, 0, q, hres, fun q9 => absurd q9 (by decide), fun _ => Or.inl ⟨by rw [show N = told.toInt.toNat by omega]; exact hsq, by omega⟩⟩) (Nat.le_refl _) (Nat.le_refl _) lX_d92
      · have q66_ : ¬ r63.toInt = (0 : Int32).toInt := fun q => q66 (Int32.toInt_inj.mp q)
        obtain ⟨z69, hg_z69⟩ : ∃ z69 : Int32, told + Int32.ofInt 1 = z69 := ⟨_, rfl⟩
        have h_z69 : z69.toInt = told.toInt + 1 := by rw [← hg_z69]; exact y_inc (by decide) (by omega) (by omega)
        refine lv_iinc hx hb lX_d69 hl (k := 0) rfl hg_z69 (by decide) (lv' := [(1, .int z69), (0, .ref this)]) rfl fun ls hl => ?_
        refine lv_goto hx hb lX_d72 (tgt := 53) (by decide) ?_
        exact ih _ _ _ _ _ _ hI hY_this hY_bk hY_be hY_ve hY_nu hs_bk hs_be hs_ve hs_nu hsi_items hA_bk hA_be hA_ve hA_nu (lv_sub hl [0, 1] rfl) (by first | assumption | omega) (hmt.zc hbd hcn) (by rw [show z69.toInt.toNat = told.toInt.toNat + 1 by omega]; exact ⟨fb, r9, hsq, hbd, hmt, hr1 q66⟩) (by omega)
theorem lX_L17 {p : Program} {l : Launch} {e : Env} {s : State} {m : MethodId} {below : List Frame} {meth : Method} {c : Code} {D : va_G} {U : State} {Y0 : xY} {av : List Value} (B : y_B vwCl x_Tb x_Nb xMld p s m meth c D U Y0 av) {this bk be ve nu tx N q : Nat} {ty it : Int32} {f0 ft fv fu : Nat → Int32} (hav : av = [.ref this]) (hs0 : x_sl D 12 0 this s.heap = some (.ref bk)) (ht0 : x_sl D 12 10 this s.heap = some (.int ty)) (hx0 : x_sl D 12 9 this s.heap = some (.ref tx)) (hcn0 : z_c f0) (hA0 : y_A bk 160 s.heap f0) (hct : t_c ft) (hAt : y_A tx 240 s.heap ft) (hres : t_res ft ty.toInt.toNat N 0 q) (hit : it.toInt = N) (hit2 : it.toInt ≤ 240) (hvn : t_vn ft ty.toInt.toNat N fv fu) (hh : z_hd f0)  :
    ∀ (n : Nat), ∀ (H : Heap) (Y : xY) (locs : List Loc) (ls : Array Slot) (k : Int32) (fq : Nat → Int32), x_I D x_G x_Zs U (x_efs xMld) Y0 s.heap Y H locs → Y this = some 17 → Y bk = some 46 → Y be = some 49 → Y ve = some 53 → Y nu = some 54 → x_sl D 12 0 this H = some (.ref bk) → x_sl D 12 3 this H = some (.ref be) → x_sl D 12 15 this H = some (.ref ve) → x_sl D 12 16 this H = some (.ref nu) → x_sl D 12 17 this H = some (.int it) → y_A bk 160 H f0 → y_A be 160 H fq → y_A ve 240 H fv → y_A nu 960 H fu → lv_has ls xMld.2.2.1 [(1, .int k), (0, .ref this)] → (0 ≤ k.toInt ∧ k.toInt ≤ 160) → (∀ j : Nat, (j : Int) < k.toInt → fq j = f0 j) → (160 - k.toInt).toNat < n → W p l e (x_rm xMld) s m av.toArray below meth c H locs 0 0 (y_QQ below D x_G x_Zs U xMld z_PldX av Y0 s) (F0 m 17 ls []) := by
  have X := B.1
  have hx := X.1
  have hb := X.2.1
  have hY0 := B.2.2.2.2.1
  intro n
  induction n with
  | zero => intro _ _ _ _ _ _ _ _ _ _ _ _ _ _ _ _ _ _ _ _ _ _ _ _ h; exact absurd h (Nat.not_lt_zero _)
  | succ n ih =>
    intro H Y locs ls k fq hI hY_this hY_bk hY_be hY_ve hY_nu hs_bk hs_be hs_ve hs_nu hsi_items hA_bk hA_be hA_ve hA_nu hl hk hfq hn
    refine lv_iload_n hx hb lX_d17 rfl (lv_at hl 0 rfl) ?_
    refine lv_sipush hx hb lX_d18 (v := 160) (by decide) ?_
    have ec160 : (160 : Int32).toInt = 160 := by decide
    refine lv_icmp_ge hx hb lX_d21 (tgt := 42) (by decide) (fun q21 => ?_) (fun q21 => ?_)
    · have q21_ : (160 : Int32).toInt ≤ k.toInt := x_le32.mp q21
      have hcn := hcn0
      refine lv_aload_n hx hb lX_d42 rfl (lv_at hl 1 rfl) ?_
      refine y_call (z := (0, 65, 1, some 17, xM140)) (av := [.ref this]) (rest := []) (y_cokV (n := 0) (ci := 12) X ym_begX rfl rfl rfl (x_cons (x_bw61 15 rfl rfl) (x_cons (x_bw62 1 rfl rfl) (x_cons (x_at 30 (by decide +kernel) rfl) (x_cons (x_bw0 9 rfl rfl) x_nilm)))) (x_bw62 2 rfl rfl) (by decide +kernel) ⟨Nat.le_of_ble_eq_true rfl, Nat.le_of_ble_eq_true rfl⟩) hY0 hI rfl lX_d43 hl.1 (Nat.le_of_ble_eq_true rfl) (Nat.le_of_ble_eq_true rfl) (Nat.le_of_ble_eq_true rfl) (y_cons (y_cref hY_this rfl) y_nil) rfl (y_recv rfl hY_this) trivial (y_sub_ef rfl) fun v Yn o Hn L ho hr ha hIn hx_ hE hP => ?_
      have hPb := hP _ _ _ rfl hs_bk hcn hA_bk
      replace hs_bk := y_Efld hE hY_this rfl (by decide) (by decide) hs_bk
      replace hs_be := y_Efld hE hY_this rfl (by decide) (by decide) hs_be
      replace hs_ve := y_Efld hE hY_this rfl (by decide) (by decide) hs_ve
      replace hs_nu := y_Efld hE hY_this rfl (by decide) (by decide) hs_nu
      replace hsi_items := y_Efld hE hY_this rfl (by decide) (by decide) hsi_items
      replace hA_be := hA_be.kept (y_Earr hE hY_be rfl (by decide))
      replace hA_ve := hA_ve.kept (y_Earr hE hY_ve rfl (by decide))
      replace hA_nu := hA_nu.kept (y_Earr hE hY_nu rfl (by decide))
      replace hY_this := y_ext hx_ hI.1 hY_this
      replace hY_bk := y_ext hx_ hI.1 hY_bk
      replace hY_be := y_ext hx_ hI.1 hY_be
      replace hY_ve := y_ext hx_ hI.1 hY_ve
      replace hY_nu := y_ext hx_ hI.1 hY_nu
      obtain rfl := y_ansV rfl ho hr
      have hA_bk := hPb
      clear ho hr ha hE hP hI hx_
      rename x_I _ _ _ _ _ _ _ _ _ _ => hI
      refine lv_aload_n hx hb lX_d46 rfl (lv_at hl 1 rfl) ?_
      refine lv_iconst hx hb lX_d47 (v := 1) (by decide) ?_
      have ec1 : (1 : Int32).toInt = 1 := by decide
      refine y_putf X (fw_lX_241 X.2.2.2.2.1) hY0 hI hY_this rfl rfl ⟨_, rfl, by show (0 : Int) ≤ _; omega, by show _ ≤ (1 : Int); omega⟩ (by decide +kernel) lX_d48 fun H sl hI ho hs hk => ?_
      replace hs_bk := hk _ _ (by decide +kernel) (by decide) hs_bk
      replace hs_be := hk _ _ (by decide +kernel) (by decide) hs_be
      replace hs_ve := hk _ _ (by decide +kernel) (by decide) hs_ve
      replace hs_nu := hk _ _ (by decide +kernel) (by decide) hs_nu
      replace hsi_items := hk _ _ (by decide +kernel) (by decide) hsi_items
      replace hA_be := hA_be.kept (ho _ (y_ne hY_be hY_this rfl))
      replace hA_ve := hA_ve.kept (ho _ (y_ne hY_ve hY_this rfl))
      replace hA_nu := hA_nu.kept (ho _ (y_ne hY_nu hY_this rfl))
      replace hA_bk := hA_bk.kept (ho _ (y_ne hY_bk hY_this rfl))
      replace hs := hs
      have hs48 := hs
      refine lv_iconst hx hb lX_d51 (v := 0) (by decide) ?_
      have ec0 : (0 : Int32).toInt = 0 := by decide
      refine lv_istore_n hx hb lX_d52 rfl hl (by decide) (lv' := [(1, .int (0 : Int32)), (0, .ref this)]) rfl fun ls hl => ?_
      have hfq9 : ∀ j, j < 160 → fq j = f0 j := fun j hj => hfq j (by omega)
      have hh9 : z_hd fq := z_hdf hh (fun j hj => hfq9 j (by omega))
      exact lX_L53 B hav hs0 ht0 hx0 hcn0 hA0 hct hAt hres hit hit2 hvn hfq9 hh9 242 _ _ _ _ _ _ hI hY_this hY_bk hY_be hY_ve hY_nu hs_bk hs_be hs_ve hs_nu hsi_items hA_bk hA_be hA_ve hA_nu (lv_sub hl [0, 1] rfl) ⟨by decide, by omega⟩ (m_beg.zc hcn0) rfl (by omega)
    · have q21_ : k.toInt < (160 : Int32).toInt := Int.not_le.mp fun q => q21 (x_le32.mpr q)
      refine lv_aload_n hx hb lX_d24 rfl (lv_at hl 1 rfl) ?_
      refine y_getf X (fl_lX_240 X.2.2.2.2.1) hI.1 hY_this rfl hs_be lX_d25 ?_
      refine lv_iload_n hx hb lX_d28 rfl (lv_at hl 0 rfl) ?_
      refine lv_aload_n hx hb lX_d29 rfl (lv_at hl 1 rfl) ?_
      refine y_getf X (fl190 X.2.2.2.2.1) hI.1 hY_this rfl hs_bk lX_d30 ?_
      refine lv_iload_n hx hb lX_d33 rfl (lv_at hl 0 rfl) ?_
      refine y_iald X hI.1 hY_bk rfl hA_bk (by omega) (by show _ < (160 : Int); omega) lX_d34 ?_
      obtain ⟨e34, hg_e34⟩ : ∃ e34 : Int32, f0 k.toInt.toNat = e34 := ⟨_, rfl⟩
      rw [hg_e34]
      refine y_iast X hY0 hI hY_be rfl hA_be (by omega) (by show _ < (160 : Int); omega) (by have := z_hdc (Y := Y) hh k.toInt.toNat; rw [hg_e34] at this; exact this) (by decide +kernel) lX_d35 fun H locs hI h_new ho => ?_
      replace hA_be := h_new
      generalize hf_f35 : y_up fq k.toInt.toNat e34 = f35 at hA_be
      replace hs_bk := y_slk hs_bk (ho _ (y_ne hY_this hY_be rfl))
      replace hs_be := y_slk hs_be (ho _ (y_ne hY_this hY_be rfl))
      replace hs_ve := y_slk hs_ve (ho _ (y_ne hY_this hY_be rfl))
      replace hs_nu := y_slk hs_nu (ho _ (y_ne hY_this hY_be rfl))
      replace hsi_items := y_slk hsi_items (ho _ (y_ne hY_this hY_be rfl))
      replace hA_bk := hA_bk.kept (ho _ (y_ne hY_bk hY_be rfl))
      replace hA_ve := hA_ve.kept (ho _ (y_ne hY_ve hY_be rfl))
      replace hA_nu := hA_nu.kept (ho _ (y_ne hY_nu hY_be rfl))
      obtain ⟨z36, hg_z36⟩ : ∃ z36 : Int32, k + Int32.ofInt 1 = z36 := ⟨_, rfl⟩
      have h_z36 : z36.toInt = k.toInt + 1 := by rw [← hg_z36]; exact y_inc (by decide) (by omega) (by omega)
      refine lv_iinc hx hb lX_d36 hl (k := 0) rfl hg_z36 (by decide) (lv' := [(1, .int z36), (0, .ref this)]) rfl fun ls hl => ?_
      refine lv_goto hx hb lX_d39 (tgt := 17) (by decide) ?_
      exact ih _ _ _ _ _ _ hI hY_this hY_bk hY_be hY_ve hY_nu hs_bk hs_be hs_ve hs_nu hsi_items hA_bk hA_be hA_ve hA_nu (lv_sub hl [0, 1] rfl) (by first | assumption | omega) (fun j hj => by rw [← hf_f35]; by_cases ej : j = k.toInt.toNat; (rw [ej, y_up_at, hg_e34]); rw [y_up_ne ej]; exact hfq j (by omega)) (by omega)
theorem ym_landX : y_Met vwCl x_G x_Zs x_Tb x_Nb xMld y_T z_PldX := by
  refine y_main (by decide +kernel) (by decide +kernel) x_Tb_good x_Nb_ok ?_
  intro p l e s m below meth c D U Y0 av ls B hI hpre hl
  have X := B.1
  have hx := X.1
  have hb := X.2.1
  have hY0 := B.2.2.2.2.1
  obtain ⟨v0, rfl, hv0⟩ := x_one B.2.2.2.2.2
  obtain ⟨this, t0, rfl, ht0, hY_this⟩ := x_ref_at hv0 rfl
  obtain rfl := List.mem_singleton.mp ht0
  replace hl : lv_has ls xMld.2.2.1 [(0, .ref this)] := hl
  obtain ⟨bk, hs_bk, hY_bk⟩ := y_fldR (k := 0) hI.1 hY_this rfl rfl
  obtain ⟨fb9, hA9, hB9⟩ := y_arr hI.1 hY_bk rfl rfl
  obtain ⟨f0, hcn0, hA_bk, hB_bk⟩ := z_canon (Y := Y0) (P := fun j v => x_c Y0 ([xI 0 10, xI 0 8, xI 0 8].getD j xF) (.int v)) hA9 hB9
  clear hA9 hB9 fb9
  have hs0 := hs_bk
  have hA0 := hA_bk
  have hd := z_hdr hB_bk
  have hd0 := hd.1
  have hd1 := hd.2.1
  have hh := z_hdr hB_bk
  have hcn := hcn0
  obtain ⟨be, hs_be, hY_be⟩ := y_fldR (k := 3) hI.1 hY_this rfl rfl
  obtain ⟨fq, hA_be, -⟩ := y_arr hI.1 hY_be rfl rfl
  obtain ⟨ve, hs_ve, hY_ve⟩ := y_fldR (k := 15) hI.1 hY_this rfl rfl
  obtain ⟨nu, hs_nu, hY_nu⟩ := y_fldR (k := 16) hI.1 hY_this rfl rfl
  obtain ⟨fv, hA_ve, -⟩ := y_arr hI.1 hY_ve rfl rfl
  obtain ⟨fu, hA_nu, -⟩ := y_arr hI.1 hY_nu rfl rfl
  obtain ⟨tx, hs_tx, hY_tx⟩ := y_fldR (k := 9) hI.1 hY_this rfl rfl
  obtain ⟨ft9, hA9, -⟩ := y_arr hI.1 hY_tx rfl rfl
  obtain ⟨ft, hct, hA_tx⟩ := t_canon hA9
  obtain ⟨ty, hsi_typed, hty⟩ := y_fldI (k := 10) hI.1 hY_this rfl rfl
  replace hty : (0 : Int) ≤ ty.toInt ∧ ty.toInt ≤ 240 := hty
  have ht0 := hsi_typed
  have hx0 := hs_tx
  have hAt := hA_tx
  refine lv_aload_n hx hb lX_d0 rfl (lv_at hl 0 rfl) ?_
  refine y_call (z := (0, 230, 1, some 17, xMrd)) (av := [.ref this]) (rest := []) (y_cokV (n := 0) (ci := 12) X ym_readX rfl rfl rfl (x_cons (x_bw74 7 rfl rfl) (x_cons (x_bw74 9 rfl rfl) (x_cons (x_at 44 (by decide +kernel) rfl) (x_cons (x_bw0 9 rfl rfl) x_nilm)))) (x_bw74 10 rfl rfl) (by decide +kernel) ⟨Nat.le_of_ble_eq_true rfl, Nat.le_of_ble_eq_true rfl⟩) hY0 hI rfl lX_d1 hl.1 (Nat.le_of_ble_eq_true rfl) (Nat.le_of_ble_eq_true rfl) (Nat.le_of_ble_eq_true rfl) (y_cons (y_cref hY_this rfl) y_nil) rfl (y_recv rfl hY_this) trivial (y_sub_ef rfl) fun v Yn o Hn L ho hr ha hIn hx_ hE hP => ?_
  have hPr := hP _ _ _ _ _ _ rfl hsi_typed hs_tx hs_ve hs_nu hct hA_tx
  replace hs_bk := y_Efld hE hY_this rfl (by decide) (by decide) hs_bk
  replace hs_be := y_Efld hE hY_this rfl (by decide) (by decide) hs_be
  replace hs_ve := y_Efld hE hY_this rfl (by decide) (by decide) hs_ve
  replace hs_nu := y_Efld hE hY_this rfl (by decide) (by decide) hs_nu
  replace hs_tx := y_Efld hE hY_this rfl (by decide) (by decide) hs_tx
  replace hsi_typed := y_Efld hE hY_this rfl (by decide) (by decide) hsi_typed
  replace hA_bk := hA_bk.kept (y_Earr hE hY_bk rfl (by decide))
  replace hA_be := hA_be.kept (y_Earr hE hY_be rfl (by decide))
  replace hA_tx := hA_tx.kept (y_Earr hE hY_tx rfl (by decide))
  replace hY_this := y_ext hx_ hI.1 hY_this
  replace hY_bk := y_ext hx_ hI.1 hY_bk
  replace hY_be := y_ext hx_ hI.1 hY_be
  replace hY_ve := y_ext hx_ hI.1 hY_ve
  replace hY_nu := y_ext hx_ hI.1 hY_nu
  replace hY_tx := y_ext hx_ hI.1 hY_tx
  obtain ⟨N, c9, q, r1, it, st, fv, fu, rfl, hres, hc0, hc2, hit, hsi_items, hsi_start, hA_ve, hA_nu, hvn⟩ := hPr
  clear ho hr ha hE hP hI hx_
  rename x_I _ _ _ _ _ _ _ _ _ _ => hI
  have ec0 : (0 : Int32).toInt = 0 := by decide
  refine lv_if_ne hx hb lX_d4 (tgt := 15) (by decide) (fun q4 => ?_) (fun q4 => ?_)
  · have q4_ : ¬ r1.toInt = (0 : Int32).toInt := fun q => q4 (Int32.toInt_inj.mp q)
    have hc02 : c9 = 0 ∨ c9 = 2 := by have h1 := hres.2.2; have h2 := t_nx_c (t := ft) (n := ty.toInt.toNat) (p := t_ip ft ty.toInt.toNat N); rw [hres.2.1] at h2; dsimp only at h2; omega
    have h0c : c9 = 0 := by rcases hc02 with e0 | e0; exact e0; (have := (hc2 e0).1; exact absurd this q4)
    subst h0c
    have hit2 : it.toInt ≤ 240 := by have h1 := t_good_le N hres.1; omega
    refine lv_iconst hx hb lX_d15 (v := 0) (by decide) ?_
    refine lv_istore_n hx hb lX_d16 rfl hl (by decide) (lv' := [(1, .int (0 : Int32)), (0, .ref this)]) rfl fun ls hl => ?_
    exact lX_L17 B rfl hs0 ht0 hx0 hcn0 hA0 hct hAt hres hit hit2 hvn hh 161 _ _ _ _ _ _ hI hY_this hY_bk hY_be hY_ve hY_nu hs_bk hs_be hs_ve hs_nu hsi_items hA_bk hA_be hA_ve hA_nu (lv_sub hl [0, 1] rfl) (by first | assumption | omega) (fun j hj => absurd hj (by omega)) (by omega)
  · have q4_ : r1.toInt = (0 : Int32).toInt := by rw [q4]
    have hc02 : c9 = 0 ∨ c9 = 2 := by have h1 := hres.2.2; have h2 := t_nx_c (t := ft) (n := ty.toInt.toNat) (p := t_ip ft ty.toInt.toNat N); rw [hres.2.1] at h2; dsimp only at h2; omega
    have hq8 : r1 = 0 := Int32.toInt_inj.mp (by omega)
    have h2c : c9 = 2 := by rcases hc02 with e0 | e0; (have := hc0 e0; rw [this] at hq8; exact absurd hq8 (by decide)); exact e0
    have hst9 := (hc2 h2c).2
    have hq9 : q ≤ 240 := by have h1 := t_nx_le (t := ft) (t_good_le N hres.1).2; rw [hres.2.1] at h1; dsimp only at h1; omega
    refine lv_bipush hx hb lX_d7 (v := (-10)) (by decide) ?_
    have ecm10 : ((-10) : Int32).toInt = (-10) := by decide
    refine lv_aload_n hx hb lX_d9 rfl (lv_at hl 0 rfl) ?_
    refine y_getf X (fl_lX_242 X.2.2.2.2.1) hI.1 hY_this rfl hsi_start lX_d10 ?_
    refine lv_isub hx hb lX_d13 ?_
    generalize hg_z13 : ((-10) : Int32) - st = z13
    have h_z13 : z13.toInt = (-10) - st.toInt := by rw [← hg_z13]; have := y_sub (x := ((-10) : Int32)) (y := st) (by rw [ecm10]; omega) (by rw [ecm10]; omega); rw [ecm10] at this; exact this
    exact y_ireturn B hI rfl rfl rfl List.mem_cons_self ⟨_, rfl, ⟨_, rfl, x_i32 _⟩⟩ (x_cs.mono B.2.2.2.2.2 (y_mon B hI)) (fun t' b' x' ty' f' ft' h1 h2 h3 h4 h5 h6 h7 h8 => by cases h1; cases h2.symm.trans hs0; cases h3.symm.trans ht0; cases h4.symm.trans hx0; cases z_uniq h6 hA0 h5 hcn0; cases t_uniq h8 hAt h7 hct; exact ⟨_, f0, rfl, hA_bk, N, c9, q, hres, fun _ => ⟨by omega, rfl⟩, fun q9 => absurd q9 (by omega)⟩) (Nat.le_refl _) (Nat.le_refl _) lX_d14

