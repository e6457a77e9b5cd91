
/-! THE NIGHT, the reference -/
def m_nbadR (f : Nat → Int32) (w : Int32) (k : Nat) : Prop := m_isH f (f (136 + 2 * k)) ∧ (m_lit f w k >>> (f (136 + 2 * k) &&& 31)) &&& 1 = f (137 + 2 * k)
def m_ntRc (f : Nat → Int32) (w : Int32) (k : Nat) : Bool := m_lw (m_VR f (f 4) (f (116 + k))) w (f 0).toInt.toNat
def m_ntR (f : Nat → Int32) (w t r : Int32) : Prop := (m_isS f w ∧ 0 ≤ t.toInt ∧ t.toInt ≤ 2 → (∀ k, k < 12 → (∀ j, j < k → ¬ m_nbadR f w j) → m_nbadR f w k → r = -3) ∧ ((∀ k, k < 12 → ¬ m_nbadR f w k) → (t = 0 → r = m_nfst (m_nok (m_ntRc f) f w) 12) ∧ (t = 1 → r = m_ngd (m_nok (m_ntRc f) f w) 12) ∧ (¬ t = 0 → ¬ t = 1 → r = m_lit f w 12))) ∧ (¬ (m_isS f w ∧ 0 ≤ t.toInt ∧ t.toInt ≤ 2) → r = -2)
theorem m_xor0 {x : Int32} : x ^^^ 0 = x := m_bi_ext fun j _ => by rw [m_bi_xor, m_bi_0, Bool.xor_false]
def z_PMni : yP := fun D av _ H v _ H' => ∀ (this bk : Nat) (w t : Int32) (f : Nat → Int32), av = [.ref this, .int w, .int t] → x_sl D 12 0 this H = some (.ref bk) → z_c f → y_A bk 160 H f → ∃ r : Int32, v = some (.int r) ∧ m_ntR f w t r
theorem niX_d0 : decode xM221.2.1 0 = .ok (.aload_n 0, 1) := dz_ok (by decide +kernel)
theorem niX_d1 : decode xM221.2.1 1 = .ok (.iload_n 1, 1) := dz_ok (by decide +kernel)
theorem niX_d2 : decode xM221.2.1 2 = .ok (.invokevirtual 237, 3) := dz_ok (by decide +kernel)
theorem niX_d5 : decode xM221.2.1 5 = .ok (.ifCond .eq 15, 3) := dz_ok (by decide +kernel)
theorem niX_d8 : decode xM221.2.1 8 = .ok (.iload_n 2, 1) := dz_ok (by decide +kernel)
theorem niX_d9 : decode xM221.2.1 9 = .ok (.i2l, 1) := dz_ok (by decide +kernel)
theorem niX_d10 : decode xM221.2.1 10 = .ok (.lconst 0, 1) := dz_ok (by decide +kernel)
theorem niX_d11 : decode xM221.2.1 11 = .ok (.ldc2_w 286, 3) := dz_ok (by decide +kernel)
theorem niX_d14 : decode xM221.2.1 14 = .ok (.invokestatic 87, 3) := dz_ok (by decide +kernel)
theorem niX_d17 : decode xM221.2.1 17 = .ok (.ifCond .ne 8, 3) := dz_ok (by decide +kernel)
theorem niX_d20 : decode xM221.2.1 20 = .ok (.aload_n 0, 1) := dz_ok (by decide +kernel)
theorem niX_d21 : decode xM221.2.1 21 = .ok (.invokevirtual 102, 3) := dz_ok (by decide +kernel)
theorem niX_d24 : decode xM221.2.1 24 = .ok (.ireturn, 1) := dz_ok (by decide +kernel)
theorem niX_d25 : decode xM221.2.1 25 = .ok (.iload_n 1, 1) := dz_ok (by decide +kernel)
theorem niX_d26 : decode xM221.2.1 26 = .ok (.istore_n 3, 1) := dz_ok (by decide +kernel)
theorem niX_d27 : decode xM221.2.1 27 = .ok (.iconst (-1), 1) := dz_ok (by decide +kernel)
theorem niX_d28 : decode xM221.2.1 28 = .ok (.istore 4, 2) := dz_ok (by decide +kernel)
theorem niX_d30 : decode xM221.2.1 30 = .ok (.iconst 0, 1) := dz_ok (by decide +kernel)
theorem niX_d31 : decode xM221.2.1 31 = .ok (.istore 5, 2) := dz_ok (by decide +kernel)
theorem niX_d33 : decode xM221.2.1 33 = .ok (.iconst 0, 1) := dz_ok (by decide +kernel)
theorem niX_d34 : decode xM221.2.1 34 = .ok (.istore 6, 2) := dz_ok (by decide +kernel)
theorem niX_d36 : decode xM221.2.1 36 = .ok (.iload 6, 2) := dz_ok (by decide +kernel)
theorem niX_d38 : decode xM221.2.1 38 = .ok (.bipush 12, 2) := dz_ok (by decide +kernel)
theorem niX_d40 : decode xM221.2.1 40 = .ok (.if_icmp .ge 131, 3) := dz_ok (by decide +kernel)
theorem niX_d43 : decode xM221.2.1 43 = .ok (.aload_n 0, 1) := dz_ok (by decide +kernel)
theorem niX_d44 : decode xM221.2.1 44 = .ok (.getfield 7, 3) := dz_ok (by decide +kernel)
theorem niX_d47 : decode xM221.2.1 47 = .ok (.sipush 136, 3) := dz_ok (by decide +kernel)
theorem niX_d50 : decode xM221.2.1 50 = .ok (.iconst 2, 1) := dz_ok (by decide +kernel)
theorem niX_d51 : decode xM221.2.1 51 = .ok (.iload 6, 2) := dz_ok (by decide +kernel)
theorem niX_d53 : decode xM221.2.1 53 = .ok (.imul, 1) := dz_ok (by decide +kernel)
theorem niX_d54 : decode xM221.2.1 54 = .ok (.iadd, 1) := dz_ok (by decide +kernel)
theorem niX_d55 : decode xM221.2.1 55 = .ok (.iaload, 1) := dz_ok (by decide +kernel)
theorem niX_d56 : decode xM221.2.1 56 = .ok (.istore 7, 2) := dz_ok (by decide +kernel)
theorem niX_d58 : decode xM221.2.1 58 = .ok (.aload_n 0, 1) := dz_ok (by decide +kernel)
theorem niX_d59 : decode xM221.2.1 59 = .ok (.iload 7, 2) := dz_ok (by decide +kernel)
theorem niX_d61 : decode xM221.2.1 61 = .ok (.invokevirtual 151, 3) := dz_ok (by decide +kernel)
theorem niX_d64 : decode xM221.2.1 64 = .ok (.ifCond .eq 39, 3) := dz_ok (by decide +kernel)
theorem niX_d67 : decode xM221.2.1 67 = .ok (.iload_n 3, 1) := dz_ok (by decide +kernel)
theorem niX_d68 : decode xM221.2.1 68 = .ok (.iload 7, 2) := dz_ok (by decide +kernel)
theorem niX_d70 : decode xM221.2.1 70 = .ok (.ishr, 1) := dz_ok (by decide +kernel)
theorem niX_d71 : decode xM221.2.1 71 = .ok (.iconst 1, 1) := dz_ok (by decide +kernel)
theorem niX_d72 : decode xM221.2.1 72 = .ok (.iand, 1) := dz_ok (by decide +kernel)
theorem niX_d73 : decode xM221.2.1 73 = .ok (.aload_n 0, 1) := dz_ok (by decide +kernel)
theorem niX_d74 : decode xM221.2.1 74 = .ok (.getfield 7, 3) := dz_ok (by decide +kernel)
theorem niX_d77 : decode xM221.2.1 77 = .ok (.sipush 136, 3) := dz_ok (by decide +kernel)
theorem niX_d80 : decode xM221.2.1 80 = .ok (.iconst 2, 1) := dz_ok (by decide +kernel)
theorem niX_d81 : decode xM221.2.1 81 = .ok (.iload 6, 2) := dz_ok (by decide +kernel)
theorem niX_d83 : decode xM221.2.1 83 = .ok (.imul, 1) := dz_ok (by decide +kernel)
theorem niX_d84 : decode xM221.2.1 84 = .ok (.iadd, 1) := dz_ok (by decide +kernel)
theorem niX_d85 : decode xM221.2.1 85 = .ok (.iconst 1, 1) := dz_ok (by decide +kernel)
theorem niX_d86 : decode xM221.2.1 86 = .ok (.iadd, 1) := dz_ok (by decide +kernel)
theorem niX_d87 : decode xM221.2.1 87 = .ok (.iaload, 1) := dz_ok (by decide +kernel)
theorem niX_d88 : decode xM221.2.1 88 = .ok (.if_icmp .ne 8, 3) := dz_ok (by decide +kernel)
theorem niX_d91 : decode xM221.2.1 91 = .ok (.aload_n 0, 1) := dz_ok (by decide +kernel)
theorem niX_d92 : decode xM221.2.1 92 = .ok (.invokevirtual 126, 3) := dz_ok (by decide +kernel)
theorem niX_d95 : decode xM221.2.1 95 = .ok (.ireturn, 1) := dz_ok (by decide +kernel)
theorem niX_d96 : decode xM221.2.1 96 = .ok (.iload_n 3, 1) := dz_ok (by decide +kernel)
theorem niX_d97 : decode xM221.2.1 97 = .ok (.iconst 1, 1) := dz_ok (by decide +kernel)
theorem niX_d98 : decode xM221.2.1 98 = .ok (.iload 7, 2) := dz_ok (by decide +kernel)
theorem niX_d100 : decode xM221.2.1 100 = .ok (.ishl, 1) := dz_ok (by decide +kernel)
theorem niX_d101 : decode xM221.2.1 101 = .ok (.ixor, 1) := dz_ok (by decide +kernel)
theorem niX_d102 : decode xM221.2.1 102 = .ok (.istore_n 3, 1) := dz_ok (by decide +kernel)
theorem niX_d103 : decode xM221.2.1 103 = .ok (.aload_n 0, 1) := dz_ok (by decide +kernel)
theorem niX_d104 : decode xM221.2.1 104 = .ok (.aload_n 0, 1) := dz_ok (by decide +kernel)
theorem niX_d105 : decode xM221.2.1 105 = .ok (.getfield 7, 3) := dz_ok (by decide +kernel)
theorem niX_d108 : decode xM221.2.1 108 = .ok (.iconst 4, 1) := dz_ok (by decide +kernel)
theorem niX_d109 : decode xM221.2.1 109 = .ok (.iaload, 1) := dz_ok (by decide +kernel)
theorem niX_d110 : decode xM221.2.1 110 = .ok (.aload_n 0, 1) := dz_ok (by decide +kernel)
theorem niX_d111 : decode xM221.2.1 111 = .ok (.getfield 7, 3) := dz_ok (by decide +kernel)
theorem niX_d114 : decode xM221.2.1 114 = .ok (.bipush 116, 2) := dz_ok (by decide +kernel)
theorem niX_d116 : decode xM221.2.1 116 = .ok (.iload 6, 2) := dz_ok (by decide +kernel)
theorem niX_d118 : decode xM221.2.1 118 = .ok (.iadd, 1) := dz_ok (by decide +kernel)
theorem niX_d119 : decode xM221.2.1 119 = .ok (.iaload, 1) := dz_ok (by decide +kernel)
theorem niX_d120 : decode xM221.2.1 120 = .ok (.invokevirtual 144, 3) := dz_ok (by decide +kernel)
theorem niX_d123 : decode xM221.2.1 123 = .ok (.aload_n 0, 1) := dz_ok (by decide +kernel)
theorem niX_d124 : decode xM221.2.1 124 = .ok (.iload_n 3, 1) := dz_ok (by decide +kernel)
theorem niX_d125 : decode xM221.2.1 125 = .ok (.invokevirtual 243, 3) := dz_ok (by decide +kernel)
theorem niX_d128 : decode xM221.2.1 128 = .ok (.istore 8, 2) := dz_ok (by decide +kernel)
theorem niX_d130 : decode xM221.2.1 130 = .ok (.iload 8, 2) := dz_ok (by decide +kernel)
theorem niX_d132 : decode xM221.2.1 132 = .ok (.ifCond .ne 14, 3) := dz_ok (by decide +kernel)
theorem niX_d135 : decode xM221.2.1 135 = .ok (.iload 4, 2) := dz_ok (by decide +kernel)
theorem niX_d137 : decode xM221.2.1 137 = .ok (.iconst (-1), 1) := dz_ok (by decide +kernel)
theorem niX_d138 : decode xM221.2.1 138 = .ok (.if_icmp .ne 8, 3) := dz_ok (by decide +kernel)
theorem niX_d141 : decode xM221.2.1 141 = .ok (.iload 6, 2) := dz_ok (by decide +kernel)
theorem niX_d143 : decode xM221.2.1 143 = .ok (.goto 5, 3) := dz_ok (by decide +kernel)
theorem niX_d146 : decode xM221.2.1 146 = .ok (.iload 4, 2) := dz_ok (by decide +kernel)
theorem niX_d148 : decode xM221.2.1 148 = .ok (.istore 4, 2) := dz_ok (by decide +kernel)
theorem niX_d150 : decode xM221.2.1 150 = .ok (.iload 5, 2) := dz_ok (by decide +kernel)
theorem niX_d152 : decode xM221.2.1 152 = .ok (.iload 8, 2) := dz_ok (by decide +kernel)
theorem niX_d154 : decode xM221.2.1 154 = .ok (.ifCond .eq 7, 3) := dz_ok (by decide +kernel)
theorem niX_d157 : decode xM221.2.1 157 = .ok (.iconst 1, 1) := dz_ok (by decide +kernel)
theorem niX_d158 : decode xM221.2.1 158 = .ok (.goto 4, 3) := dz_ok (by decide +kernel)
theorem niX_d161 : decode xM221.2.1 161 = .ok (.iconst 0, 1) := dz_ok (by decide +kernel)
theorem niX_d162 : decode xM221.2.1 162 = .ok (.iadd, 1) := dz_ok (by decide +kernel)
theorem niX_d163 : decode xM221.2.1 163 = .ok (.istore 5, 2) := dz_ok (by decide +kernel)
theorem niX_d165 : decode xM221.2.1 165 = .ok (.iinc 6 1, 3) := dz_ok (by decide +kernel)
theorem niX_d168 : decode xM221.2.1 168 = .ok (.goto (-132), 3) := dz_ok (by decide +kernel)
theorem niX_d171 : decode xM221.2.1 171 = .ok (.iload_n 2, 1) := dz_ok (by decide +kernel)
theorem niX_d172 : decode xM221.2.1 172 = .ok (.ifCond .ne 8, 3) := dz_ok (by decide +kernel)
theorem niX_d175 : decode xM221.2.1 175 = .ok (.iload 4, 2) := dz_ok (by decide +kernel)
theorem niX_d177 : decode xM221.2.1 177 = .ok (.goto 14, 3) := dz_ok (by decide +kernel)
theorem niX_d180 : decode xM221.2.1 180 = .ok (.iload_n 2, 1) := dz_ok (by decide +kernel)
theorem niX_d181 : decode xM221.2.1 181 = .ok (.iconst 1, 1) := dz_ok (by decide +kernel)
theorem niX_d182 : decode xM221.2.1 182 = .ok (.if_icmp .ne 8, 3) := dz_ok (by decide +kernel)
theorem niX_d185 : decode xM221.2.1 185 = .ok (.iload 5, 2) := dz_ok (by decide +kernel)
theorem niX_d187 : decode xM221.2.1 187 = .ok (.goto 4, 3) := dz_ok (by decide +kernel)
theorem niX_d190 : decode xM221.2.1 190 = .ok (.iload_n 3, 1) := dz_ok (by decide +kernel)
theorem niX_d191 : decode xM221.2.1 191 = .ok (.ireturn, 1) := dz_ok (by decide +kernel)
theorem niX_L103 {p : Program} {l : Launch} {e : Env} {s : State} {m : MethodId} {below : List Frame} {meth : Method} {c : Code} {D : va_G} {U : State} {Y0 : xY} {av : List Value} (B : y_B vwCl x_Tb x_Nb xM221 p s m meth c D U Y0 av) {this bk se : Nat} {w t : Int32} {fb : Nat → Int32} (hav : av = [.ref this, .int w, .int t]) (hs0 : x_sl D 12 0 this s.heap = some (.ref bk)) (hA0 : y_A bk 160 s.heap fb) (hcn : z_c fb) (hd0 : 0 ≤ (fb 0).toInt ∧ (fb 0).toInt ≤ 10) (hok : m_isS fb w ∧ 0 ≤ t.toInt ∧ t.toInt ≤ 2) {k : Int32} (hk : 0 ≤ k.toInt ∧ k.toInt ≤ 11)
    (out36 : ∀ (H : Heap) (Y : xY) (locs : List Loc) (ls : Array Slot) (k1 : Int32) (gd1 : Int32) (fi1 : Int32) (li1 : Int32), x_I D x_G x_Zs U (x_efs xM221) Y0 s.heap Y H locs → Y this = some 17 → Y bk = some 46 → Y se = some 51 → x_sl D 12 0 this H = some (.ref bk) → x_sl D 12 8 this H = some (.ref se) → y_A bk 160 H fb → lv_has ls xM221.2.2.1 [(6, .int k1), (5, .int gd1), (4, .int fi1), (3, .int li1), (0, .ref this), (1, .int w), (2, .int t)] → (0 ≤ k1.toInt ∧ k1.toInt ≤ 12) → (li1 = m_lit fb w k1.toInt.toNat) → (fi1 = m_nfst (m_nok (m_ntRc fb) fb w) k1.toInt.toNat) → (gd1 = m_ngd (m_nok (m_ntRc fb) fb w) k1.toInt.toNat) → (∀ j : Nat, (j : Int) < k1.toInt → ¬ m_nbadR fb w j) → (0 ≤ gd1.toInt ∧ gd1.toInt ≤ k1.toInt) → (k1.toInt = k.toInt + 1) → W p l e (x_rm xM221) s m av.toArray below meth c H locs 0 0 (y_QQ below D x_G x_Zs U xM221 z_PMni av Y0 s) (F0 m 36 ls [])) :
    ∀ (H : Heap) (Y : xY) (locs : List Loc) (ls : Array Slot) (gd : Int32) (fi : Int32) (li : Int32), x_I D x_G x_Zs U (x_efs xM221) Y0 s.heap Y H locs → Y this = some 17 → Y bk = some 46 → Y se = some 51 → x_sl D 12 0 this H = some (.ref bk) → x_sl D 12 8 this H = some (.ref se) → y_A bk 160 H fb → lv_has ls xM221.2.2.1 [(6, .int k), (5, .int gd), (4, .int fi), (3, .int li), (0, .ref this), (1, .int w), (2, .int t)] → (li = m_lit fb w (k.toInt.toNat + 1)) → (fi = m_nfst (m_nok (m_ntRc fb) fb w) k.toInt.toNat) → (gd = m_ngd (m_nok (m_ntRc fb) fb w) k.toInt.toNat) → (∀ j : Nat, (j : Int) < k.toInt → ¬ m_nbadR fb w j) → (0 ≤ gd.toInt ∧ gd.toInt ≤ k.toInt) → (¬ m_nbadR fb w k.toInt.toNat) → W p l e (x_rm xM221) s m av.toArray below meth c H locs 0 0 (y_QQ below D x_G x_Zs U xM221 z_PMni av Y0 s) (F0 m 103 ls []) := by
  have X := B.1
  have hx := X.1
  have hb := X.2.1
  have hY0 := B.2.2.2.2.1
  intro H Y locs ls gd fi li  hI hY_this hY_bk hY_se hs_bk hs_se hA_bk hl hli hfi hgd hnb hgb hnk
  refine lv_aload_n hx hb niX_d103 rfl (lv_at hl 4 rfl) ?_
  refine lv_aload_n hx hb niX_d104 rfl (lv_at hl 4 rfl) ?_
  refine y_getf X (fl190 X.2.2.2.2.1) hI.1 hY_this rfl hs_bk niX_d105 ?_
  refine lv_iconst hx hb niX_d108 (v := 4) (by decide) ?_
  have ec4 : (4 : Int32).toInt = 4 := by decide
  refine y_iald X hI.1 hY_bk rfl hA_bk (by omega) (by show _ < (160 : Int); omega) niX_d109 ?_
  obtain ⟨e109, hg_e109⟩ : ∃ e109 : Int32, fb (4 : Int32).toInt.toNat = e109 := ⟨_, rfl⟩
  rw [hg_e109]
  refine lv_aload_n hx hb niX_d110 rfl (lv_at hl 4 rfl) ?_
  refine y_getf X (fl190 X.2.2.2.2.1) hI.1 hY_this rfl hs_bk niX_d111 ?_
  refine lv_bipush hx hb niX_d114 (v := 116) (by decide) ?_
  have ec116 : (116 : Int32).toInt = 116 := by decide
  refine lv_iload hx hb niX_d116 (lv_at hl 0 rfl) ?_
  refine lv_iadd hx hb niX_d118 ?_
  generalize hg_z118 : (116 : Int32) + k = z118
  have h_z118 : z118.toInt = 116 + k.toInt := by rw [← hg_z118]; have := y_add (x := (116 : Int32)) (y := k) (by rw [ec116]; omega) (by rw [ec116]; omega); rw [ec116] at this; exact this
  refine y_iald X hI.1 hY_bk rfl hA_bk (by omega) (by show _ < (160 : Int); omega) niX_d119 ?_
  obtain ⟨e119, hg_e119⟩ : ∃ e119 : Int32, fb z118.toInt.toNat = e119 := ⟨_, rfl⟩
  rw [hg_e119]
  have hy9 : e109 = fb 4 := hg_e109.symm
  subst hy9
  have hm9 : e119 = fb (116 + k.toInt.toNat) := by rw [← hg_e119]; congr 1; omega
  subst hm9
  refine y_call (z := (0, 144, 3, some 17, xM185)) (av := [.ref this, .int (fb 4), .int (fb (116 + k.toInt.toNat))]) (rest := []) (y_cokV (n := 2) (ci := 12) X ym_looks rfl rfl rfl (x_cons (x_bw77 12 rfl rfl) (x_cons (x_bw77 14 rfl rfl) (x_cons (x_at 51 (by decide +kernel) rfl) (x_cons (x_bw0 9 rfl rfl) x_nilm)))) (x_bw77 15 rfl rfl) (by decide +kernel) ⟨Nat.le_of_ble_eq_true rfl, Nat.le_of_ble_eq_true rfl⟩) hY0 hI rfl niX_d120 hl.1 (Nat.le_of_ble_eq_true rfl) (Nat.le_of_ble_eq_true rfl) (Nat.le_of_ble_eq_true rfl) (y_cons (y_cref hY_this rfl) (y_cons ⟨_, rfl, x_i32 _⟩ (y_cons ⟨_, rfl, x_i32 _⟩ y_nil))) rfl (y_recv rfl hY_this) trivial (y_sub_ef rfl) fun v Yn o Hn L ho hr ha hIn hx_ hE hP => ?_
  have hPs := hP _ _ _ _ _ rfl hs_bk hcn hA_bk _ hs_se
  replace hs_bk := y_Efld hE hY_this rfl (by decide) (by decide) hs_bk
  replace hs_se := y_Efld hE hY_this rfl (by decide) (by decide) hs_se
  replace hA_bk := hA_bk.kept (y_Earr hE hY_bk rfl (by decide))
  replace hY_this := y_ext hx_ hI.1 hY_this
  replace hY_bk := y_ext hx_ hI.1 hY_bk
  replace hY_se := y_ext hx_ hI.1 hY_se
  obtain rfl := y_ansV rfl ho hr
  obtain ⟨fs, hA_se, -⟩ := y_arr hIn.1 hY_se rfl rfl
  have hVs : ∀ i, i < (fb 0).toInt.toNat → fs i = (m_VR fb (fb 4) (fb (116 + k.toInt.toNat))) i := fun i hi => z_intI (hA_se i (by omega)) (hPs i hi)
  clear ho hr ha hE hP hI hx_
  rename x_I _ _ _ _ _ _ _ _ _ _ => hI
  refine lv_aload_n hx hb niX_d123 rfl (lv_at hl 4 rfl) ?_
  refine lv_iload_n hx hb niX_d124 rfl (lv_at hl 3 rfl) ?_
  refine y_call (z := (0, 243, 2, some 17, xM191)) (av := [.ref this, .int li]) (rest := []) (y_cokV (n := 1) (ci := 12) X ym_isLawfulX rfl rfl rfl (x_cons (x_bw78 11 rfl rfl) (x_cons (x_bw78 13 rfl rfl) (x_cons (x_at 52 (by decide +kernel) rfl) (x_cons (x_bw0 9 rfl rfl) x_nilm)))) (x_bw78 14 rfl rfl) (by decide +kernel) ⟨Nat.le_of_ble_eq_true rfl, Nat.le_of_ble_eq_true rfl⟩) hY0 hI rfl niX_d125 hl.1 (Nat.le_of_ble_eq_true rfl) (Nat.le_of_ble_eq_true rfl) (Nat.le_of_ble_eq_true rfl) (y_cons (y_cref hY_this rfl) (y_cons ⟨_, rfl, x_i32 _⟩ y_nil)) rfl (y_recv rfl hY_this) trivial (y_sub_ef rfl) fun v Yn o Hn L ho hr ha hIn hx_ hE hP => ?_
  have hPs := hP _ _ _ _ rfl hs_bk hcn hA_bk _ (m_VR fb (fb 4) (fb (116 + k.toInt.toNat))) hs_se (fun i hi => by rw [hA_se i (by omega), hVs i hi])
  obtain rfl := hPs
  replace hs_bk := y_Efld hE hY_this rfl (by decide) (by decide) hs_bk
  replace hs_se := y_Efld hE hY_this rfl (by decide) (by decide) hs_se
  replace hA_bk := hA_bk.kept (y_Earr hE hY_bk rfl (by decide))
  replace hA_se := hA_se.kept (y_Earr hE hY_se rfl (by decide))
  replace hY_this := y_ext hx_ hI.1 hY_this
  replace hY_bk := y_ext hx_ hI.1 hY_bk
  replace hY_se := y_ext hx_ hI.1 hY_se
  generalize hg_r125 : m_b (m_lw (m_VR fb (fb 4) (fb (116 + k.toInt.toNat))) li (fb 0).toInt.toNat) = r125
  clear ho hr ha hE hP hI hx_
  rename x_I _ _ _ _ _ _ _ _ _ _ => hI
  refine lv_istore hx hb niX_d128 hl (by decide) (lv' := [(8, .int r125), (6, .int k), (5, .int gd), (4, .int fi), (3, .int li), (0, .ref this), (1, .int w), (2, .int t)]) rfl fun ls hl => ?_
  have hnj := m_nj hk.1
  refine lv_iload hx hb niX_d130 (lv_at hl 0 rfl) ?_
  have ec0 : (0 : Int32).toInt = 0 := by decide
  refine lv_if_ne hx hb niX_d132 (tgt := 146) (by decide) (fun q132 => ?_) (fun q132 => ?_)
  · have q132_ : ¬ r125.toInt = (0 : Int32).toInt := fun q => q132 (Int32.toInt_inj.mp q)
    have hc : (m_nok (m_ntRc fb) fb w) k.toInt.toNat = true := by unfold m_nok m_ntRc; rw [← hli]; exact m_bn (fun q => q132 (hg_r125.symm.trans q))
    refine lv_iload hx hb niX_d146 (lv_at hl 3 rfl) ?_
    refine lv_istore hx hb niX_d148 hl (by decide) (lv' := [(4, .int fi), (8, .int r125), (6, .int k), (5, .int gd), (3, .int li), (0, .ref this), (1, .int w), (2, .int t)]) rfl fun ls hl => ?_
    refine lv_iload hx hb niX_d150 (lv_at hl 3 rfl) ?_
    refine lv_iload hx hb niX_d152 (lv_at hl 1 rfl) ?_
    refine lv_if_eq hx hb niX_d154 (tgt := 161) (by decide) (fun q154 => ?_) (fun q154 => ?_)
    · have q154_ : r125.toInt = (0 : Int32).toInt := by rw [q154]
      exact absurd (by assumption : r125 = 0) (by assumption)
    · have q154_ : ¬ r125.toInt = (0 : Int32).toInt := fun q => q154 (Int32.toInt_inj.mp q)
      refine lv_iconst hx hb niX_d157 (v := 1) (by decide) ?_
      have ec1 : (1 : Int32).toInt = 1 := by decide
      refine lv_goto hx hb niX_d158 (tgt := 162) (by decide) ?_
      refine lv_iadd hx hb niX_d162 ?_
      generalize hg_z162 : gd + (1 : Int32) = z162
      have h_z162 : z162.toInt = gd.toInt + 1 := by rw [← hg_z162]; have := y_add (x := gd) (y := (1 : Int32)) (by rw [ec1]; omega) (by rw [ec1]; omega); rw [ec1] at this; exact this
      refine lv_istore hx hb niX_d163 hl (by decide) (lv' := [(5, .int z162), (4, .int fi), (8, .int r125), (6, .int k), (3, .int li), (0, .ref this), (1, .int w), (2, .int t)]) rfl fun ls hl => ?_
      obtain ⟨z165, hg_z165⟩ : ∃ z165 : Int32, k + Int32.ofInt 1 = z165 := ⟨_, rfl⟩
      have h_z165 : z165.toInt = k.toInt + 1 := by rw [← hg_z165]; exact y_inc (by decide) (by omega) (by omega)
      refine lv_iinc hx hb niX_d165 hl (k := 3) rfl hg_z165 (by decide) (lv' := [(6, .int z165), (5, .int z162), (4, .int fi), (8, .int r125), (3, .int li), (0, .ref this), (1, .int w), (2, .int t)]) rfl fun ls hl => ?_
      refine lv_goto hx hb niX_d168 (tgt := 36) (by decide) ?_
      have his : z165.toInt.toNat = k.toInt.toNat + 1 := by omega
      exact out36 _ _ _ _ _ _ _ _ hI hY_this hY_bk hY_se hs_bk hs_se hA_bk (lv_sub hl [0, 1, 2, 4, 5, 6, 7] rfl) (by first | assumption | omega) (by rw [his]; exact hli) (by rw [his]; show _ = (if _ ∧ (m_nok (m_ntRc fb) fb w) k.toInt.toNat = false then _ else _); rw [if_neg (fun h9 => by rw [hc] at h9; cases h9.2)]; exact hfi) (by rw [his]; show _ = (if (m_nok (m_ntRc fb) fb w) k.toInt.toNat then _ else _); rw [hc, ← hgd, ← hg_z162]; rfl) (fun j hj => by by_cases e : (j : Int) = k.toInt; (rw [show j = k.toInt.toNat by omega]; exact hnk); exact hnb j (by omega)) (by first | assumption | omega) (by first | assumption | omega)
  · have q132_ : r125.toInt = (0 : Int32).toInt := by rw [q132]
    have hc : (m_nok (m_ntRc fb) fb w) k.toInt.toNat = false := by unfold m_nok m_ntRc; rw [← hli]; exact m_b0 (hg_r125.trans q132)
    refine lv_iload hx hb niX_d135 (lv_at hl 3 rfl) ?_
    refine lv_iconst hx hb niX_d137 (v := (-1)) (by decide) ?_
    have ecm1 : ((-1) : Int32).toInt = (-1) := by decide
    refine lv_icmp_ne hx hb niX_d138 (tgt := 146) (by decide) (fun q138 => ?_) (fun q138 => ?_)
    · have q138_ : ¬ fi.toInt = ((-1) : Int32).toInt := fun q => q138 (Int32.toInt_inj.mp q)
      refine lv_iload hx hb niX_d146 (lv_at hl 3 rfl) ?_
      refine lv_istore hx hb niX_d148 hl (by decide) (lv' := [(4, .int fi), (8, .int r125), (6, .int k), (5, .int gd), (3, .int li), (0, .ref this), (1, .int w), (2, .int t)]) rfl fun ls hl => ?_
      refine lv_iload hx hb niX_d150 (lv_at hl 3 rfl) ?_
      refine lv_iload hx hb niX_d152 (lv_at hl 1 rfl) ?_
      refine lv_if_eq hx hb niX_d154 (tgt := 161) (by decide) (fun q154 => ?_) (fun q154 => ?_)
      · have q154_ : r125.toInt = (0 : Int32).toInt := by rw [q154]
        refine lv_iconst hx hb niX_d161 (v := 0) (by decide) ?_
        refine lv_iadd hx hb niX_d162 ?_
        generalize hg_z162 : gd + (0 : Int32) = z162
        have h_z162 : z162.toInt = gd.toInt + 0 := by rw [← hg_z162]; have := y_add (x := gd) (y := (0 : Int32)) (by rw [ec0]; omega) (by rw [ec0]; omega); rw [ec0] at this; exact this
        refine lv_istore hx hb niX_d163 hl (by decide) (lv' := [(5, .int z162), (4, .int fi), (8, .int r125), (6, .int k), (3, .int li), (0, .ref this), (1, .int w), (2, .int t)]) rfl fun ls hl => ?_
        obtain ⟨z165, hg_z165⟩ : ∃ z165 : Int32, k + Int32.ofInt 1 = z165 := ⟨_, rfl⟩
        have h_z165 : z165.toInt = k.toInt + 1 := by rw [← hg_z165]; exact y_inc (by decide) (by omega) (by omega)
        refine lv_iinc hx hb niX_d165 hl (k := 3) rfl hg_z165 (by decide) (lv' := [(6, .int z165), (5, .int z162), (4, .int fi), (8, .int r125), (3, .int li), (0, .ref this), (1, .int w), (2, .int t)]) rfl fun ls hl => ?_
        refine lv_goto hx hb niX_d168 (tgt := 36) (by decide) ?_
        have his : z165.toInt.toNat = k.toInt.toNat + 1 := by omega
        have hz0 : z162 = gd := by rw [← hg_z162]; exact Int32.add_zero gd
        exact out36 _ _ _ _ _ _ _ _ hI hY_this hY_bk hY_se hs_bk hs_se hA_bk (lv_sub hl [0, 1, 2, 4, 5, 6, 7] rfl) (by first | assumption | omega) (by rw [his]; exact hli) (by rw [his]; show _ = (if _ ∧ (m_nok (m_ntRc fb) fb w) k.toInt.toNat = false then _ else _); first | (rw [if_pos ⟨hfi.symm.trans (by assumption), hc⟩, hnj]) | (rw [if_neg (fun h9 => absurd (hfi.trans h9.1) (by assumption))]; exact hfi)) (by rw [his, hz0]; show _ = (if (m_nok (m_ntRc fb) fb w) k.toInt.toNat then _ else _); rw [hc]; exact hgd) (fun j hj => by by_cases e : (j : Int) = k.toInt; (rw [show j = k.toInt.toNat by omega]; exact hnk); exact hnb j (by omega)) (by first | assumption | omega) (by first | assumption | omega)
      · have q154_ : ¬ r125.toInt = (0 : Int32).toInt := fun q => q154 (Int32.toInt_inj.mp q)
        exact absurd (by assumption : r125 = 0) (by assumption)
    · have q138_ : fi.toInt = ((-1) : Int32).toInt := by rw [q138]
      refine lv_iload hx hb niX_d141 (lv_at hl 1 rfl) ?_
      refine lv_goto hx hb niX_d143 (tgt := 148) (by decide) ?_
      refine lv_istore hx hb niX_d148 hl (by decide) (lv' := [(4, .int k), (8, .int r125), (6, .int k), (5, .int gd), (3, .int li), (0, .ref this), (1, .int w), (2, .int t)]) rfl fun ls hl => ?_
      refine lv_iload hx hb niX_d150 (lv_at hl 3 rfl) ?_
      refine lv_iload hx hb niX_d152 (lv_at hl 1 rfl) ?_
      refine lv_if_eq hx hb niX_d154 (tgt := 161) (by decide) (fun q154 => ?_) (fun q154 => ?_)
      · have q154_ : r125.toInt = (0 : Int32).toInt := by rw [q154]
        refine lv_iconst hx hb niX_d161 (v := 0) (by decide) ?_
        refine lv_iadd hx hb niX_d162 ?_
        generalize hg_z162 : gd + (0 : Int32) = z162
        have h_z162 : z162.toInt = gd.toInt + 0 := by rw [← hg_z162]; have := y_add (x := gd) (y := (0 : Int32)) (by rw [ec0]; omega) (by rw [ec0]; omega); rw [ec0] at this; exact this
        refine lv_istore hx hb niX_d163 hl (by decide) (lv' := [(5, .int z162), (4, .int k), (8, .int r125), (6, .int k), (3, .int li), (0, .ref this), (1, .int w), (2, .int t)]) rfl fun ls hl => ?_
        obtain ⟨z165, hg_z165⟩ : ∃ z165 : Int32, k + Int32.ofInt 1 = z165 := ⟨_, rfl⟩
        have h_z165 : z165.toInt = k.toInt + 1 := by rw [← hg_z165]; exact y_inc (by decide) (by omega) (by omega)
        refine lv_iinc hx hb niX_d165 hl (k := 3) rfl hg_z165 (by decide) (lv' := [(6, .int z165), (5, .int z162), (4, .int k), (8, .int r125), (3, .int li), (0, .ref this), (1, .int w), (2, .int t)]) rfl fun ls hl => ?_
        refine lv_goto hx hb niX_d168 (tgt := 36) (by decide) ?_
        have his : z165.toInt.toNat = k.toInt.toNat + 1 := by omega
        have hz0 : z162 = gd := by rw [← hg_z162]; exact Int32.add_zero gd
        exact out36 _ _ _ _ _ _ _ _ hI hY_this hY_bk hY_se hs_bk hs_se hA_bk (lv_sub hl [0, 1, 2, 4, 5, 6, 7] rfl) (by first | assumption | omega) (by rw [his]; exact hli) (by rw [his]; show _ = (if _ ∧ (m_nok (m_ntRc fb) fb w) k.toInt.toNat = false then _ else _); first | (rw [if_pos ⟨hfi.symm.trans (by assumption), hc⟩, hnj]) | (rw [if_neg (fun h9 => absurd (hfi.trans h9.1) (by assumption))]; exact hfi)) (by rw [his, hz0]; show _ = (if (m_nok (m_ntRc fb) fb w) k.toInt.toNat then _ else _); rw [hc]; exact hgd) (fun j hj => by by_cases e : (j : Int) = k.toInt; (rw [show j = k.toInt.toNat by omega]; exact hnk); exact hnb j (by omega)) (by first | assumption | omega) (by first | assumption | omega)
      · have q154_ : ¬ r125.toInt = (0 : Int32).toInt := fun q => q154 (Int32.toInt_inj.mp q)
        exact absurd (by assumption : r125 = 0) (by assumption)
theorem niX_L36 {p : Program} {l : Launch} {e : Env} {s : State} {m : MethodId} {below : List Frame} {meth : Method} {c : Code} {D : va_G} {U : State} {Y0 : xY} {av : List Value} (B : y_B vwCl x_Tb x_Nb xM221 p s m meth c D U Y0 av) {this bk se : Nat} {w t : Int32} {fb : Nat → Int32} (hav : av = [.ref this, .int w, .int t]) (hs0 : x_sl D 12 0 this s.heap = some (.ref bk)) (hA0 : y_A bk 160 s.heap fb) (hcn : z_c fb) (hd0 : 0 ≤ (fb 0).toInt ∧ (fb 0).toInt ≤ 10) (hok : m_isS fb w ∧ 0 ≤ t.toInt ∧ t.toInt ≤ 2)  :
    ∀ (n : Nat), ∀ (H : Heap) (Y : xY) (locs : List Loc) (ls : Array Slot) (k : Int32) (gd : Int32) (fi : Int32) (li : Int32), x_I D x_G x_Zs U (x_efs xM221) Y0 s.heap Y H locs → Y this = some 17 → Y bk = some 46 → Y se = some 51 → x_sl D 12 0 this H = some (.ref bk) → x_sl D 12 8 this H = some (.ref se) → y_A bk 160 H fb → lv_has ls xM221.2.2.1 [(6, .int k), (5, .int gd), (4, .int fi), (3, .int li), (0, .ref this), (1, .int w), (2, .int t)] → (0 ≤ k.toInt ∧ k.toInt ≤ 12) → (li = m_lit fb w k.toInt.toNat) → (fi = m_nfst (m_nok (m_ntRc fb) fb w) k.toInt.toNat) → (gd = m_ngd (m_nok (m_ntRc fb) fb w) k.toInt.toNat) → (∀ j : Nat, (j : Int) < k.toInt → ¬ m_nbadR fb w j) → (0 ≤ gd.toInt ∧ gd.toInt ≤ k.toInt) → (13 - k.toInt).toNat < n → W p l e (x_rm xM221) s m av.toArray below meth c H locs 0 0 (y_QQ below D x_G x_Zs U xM221 z_PMni av Y0 s) (F0 m 36 ls []) := by
  have X := B.1
  have hx := X.1
  have hb := X.2.1
  have hY0 := B.2.2.2.2.1
  intro n
  induction n with
  | zero => intro _ _ _ _ _ _ _ _ _ _ _ _ _ _ _ _ _ _ _ _ _ _ h; exact absurd h (Nat.not_lt_zero _)
  | succ n ih =>
    intro H Y locs ls k gd fi li  hI hY_this hY_bk hY_se hs_bk hs_se hA_bk hl hk hli hfi hgd hnb hgb hn
    refine lv_iload hx hb niX_d36 (lv_at hl 0 rfl) ?_
    refine lv_bipush hx hb niX_d38 (v := 12) (by decide) ?_
    have ec12 : (12 : Int32).toInt = 12 := by decide
    refine lv_icmp_ge hx hb niX_d40 (tgt := 171) (by decide) (fun q40 => ?_) (fun q40 => ?_)
    · have q40_ : (12 : Int32).toInt ≤ k.toInt := x_le32.mp q40
      refine lv_iload_n hx hb niX_d171 rfl (lv_at hl 6 rfl) ?_
      have ec0 : (0 : Int32).toInt = 0 := by decide
      refine lv_if_ne hx hb niX_d172 (tgt := 180) (by decide) (fun q172 => ?_) (fun q172 => ?_)
      · have q172_ : ¬ t.toInt = (0 : Int32).toInt := fun q => q172 (Int32.toInt_inj.mp q)
        refine lv_iload_n hx hb niX_d180 rfl (lv_at hl 6 rfl) ?_
        refine lv_iconst hx hb niX_d181 (v := 1) (by decide) ?_
        have ec1 : (1 : Int32).toInt = 1 := by decide
        refine lv_icmp_ne hx hb niX_d182 (tgt := 190) (by decide) (fun q182 => ?_) (fun q182 => ?_)
        · have q182_ : ¬ t.toInt = (1 : Int32).toInt := fun q => q182 (Int32.toInt_inj.mp q)
          refine lv_iload_n hx hb niX_d190 rfl (lv_at hl 3 rfl) ?_
          have hk12 : k.toInt.toNat = 12 := by omega
          rw [hk12] at hli hfi hgd
          have hnb9 : ∀ j, j < 12 → ¬ m_nbadR fb w j := fun j hj => hnb j (by omega)
          subst hav
          exact y_ireturn B hI rfl rfl rfl List.mem_cons_self ⟨_, rfl, ⟨_, rfl, x_i32 _⟩⟩ (x_cs.mono B.2.2.2.2.2 (y_mon B hI)) (fun t' b' w0' w1' f' h1 h2 h3 h4 => by cases h1; cases h2.symm.trans hs0; cases z_uniq h4 hA0 h3 hcn; exact ⟨_, rfl, fun _ => ⟨fun k9 h7 _ h9 => absurd h9 (hnb9 k9 h7), fun _ => ⟨fun h9 => absurd h9 (by assumption), fun h9 => absurd h9 (by assumption), fun _ _ => hli⟩⟩, fun q9 => absurd hok q9⟩) (Nat.le_refl _) (Nat.le_refl _) niX_d191
        · have q182_ : t.toInt = (1 : Int32).toInt := by rw [q182]
          refine lv_iload hx hb niX_d185 (lv_at hl 1 rfl) ?_
          refine lv_goto hx hb niX_d187 (tgt := 191) (by decide) ?_
          have hk12 : k.toInt.toNat = 12 := by omega
          rw [hk12] at hli hfi hgd
          have hnb9 : ∀ j, j < 12 → ¬ m_nbadR fb w j := fun j hj => hnb j (by omega)
          subst hav
          exact y_ireturn B hI rfl rfl rfl List.mem_cons_self ⟨_, rfl, ⟨_, rfl, x_i32 _⟩⟩ (x_cs.mono B.2.2.2.2.2 (y_mon B hI)) (fun t' b' w0' w1' f' h1 h2 h3 h4 => by cases h1; cases h2.symm.trans hs0; cases z_uniq h4 hA0 h3 hcn; exact ⟨_, rfl, fun _ => ⟨fun k9 h7 _ h9 => absurd h9 (hnb9 k9 h7), fun _ => ⟨fun h9 => absurd h9 (by assumption), fun _ => hgd, fun _ h9 => absurd (by assumption) h9⟩⟩, fun q9 => absurd hok q9⟩) (Nat.le_refl _) (Nat.le_refl _) niX_d191
      · have q172_ : t.toInt = (0 : Int32).toInt := by rw [q172]
        refine lv_iload hx hb niX_d175 (lv_at hl 2 rfl) ?_
        refine lv_goto hx hb niX_d177 (tgt := 191) (by decide) ?_
        have hk12 : k.toInt.toNat = 12 := by omega
        rw [hk12] at hli hfi hgd
        have hnb9 : ∀ j, j < 12 → ¬ m_nbadR fb w j := fun j hj => hnb j (by omega)
        subst hav
        exact y_ireturn B hI rfl rfl rfl List.mem_cons_self ⟨_, rfl, ⟨_, rfl, x_i32 _⟩⟩ (x_cs.mono B.2.2.2.2.2 (y_mon B hI)) (fun t' b' w0' w1' f' h1 h2 h3 h4 => by cases h1; cases h2.symm.trans hs0; cases z_uniq h4 hA0 h3 hcn; exact ⟨_, rfl, fun _ => ⟨fun k9 h7 _ h9 => absurd h9 (hnb9 k9 h7), fun _ => ⟨fun _ => hfi, fun h9 => absurd (h9.symm.trans (show t = (0 : Int32) by assumption)) (by decide), fun h9 => absurd (by assumption) h9⟩⟩, fun q9 => absurd hok q9⟩) (Nat.le_refl _) (Nat.le_refl _) niX_d191
    · have q40_ : k.toInt < (12 : Int32).toInt := Int.not_le.mp fun q => q40 (x_le32.mpr q)
      refine lv_aload_n hx hb niX_d43 rfl (lv_at hl 4 rfl) ?_
      refine y_getf X (fl190 X.2.2.2.2.1) hI.1 hY_this rfl hs_bk niX_d44 ?_
      refine lv_sipush hx hb niX_d47 (v := 136) (by decide) ?_
      have ec136 : (136 : Int32).toInt = 136 := by decide
      refine lv_iconst hx hb niX_d50 (v := 2) (by decide) ?_
      have ec2 : (2 : Int32).toInt = 2 := by decide
      refine lv_iload hx hb niX_d51 (lv_at hl 0 rfl) ?_
      refine lv_imul hx hb niX_d53 ?_
      generalize hg_z53 : (2 : Int32) * k = z53
      have h_z53 : z53.toInt = 2 * k.toInt := by rw [← hg_z53]; have := y_mul (x := (2 : Int32)) (y := k) (by rw [ec2]; omega) (by rw [ec2]; omega); rw [ec2] at this; exact this
      refine lv_iadd hx hb niX_d54 ?_
      generalize hg_z54 : (136 : Int32) + z53 = z54
      have h_z54 : z54.toInt = 136 + z53.toInt := by rw [← hg_z54]; have := y_add (x := (136 : Int32)) (y := z53) (by rw [ec136]; omega) (by rw [ec136]; omega); rw [ec136] at this; exact this
      refine y_iald X hI.1 hY_bk rfl hA_bk (by omega) (by show _ < (160 : Int); omega) niX_d55 ?_
      obtain ⟨e55, hg_e55⟩ : ∃ e55 : Int32, fb z54.toInt.toNat = e55 := ⟨_, rfl⟩
      rw [hg_e55]
      have he55 : fb (136 + 2 * k.toInt.toNat) = e55 := by rw [← hg_e55]; congr 1; omega
      refine lv_istore hx hb niX_d56 hl (by decide) (lv' := [(7, .int e55), (6, .int k), (5, .int gd), (4, .int fi), (3, .int li), (0, .ref this), (1, .int w), (2, .int t)]) rfl fun ls hl => ?_
      refine lv_aload_n hx hb niX_d58 rfl (lv_at hl 5 rfl) ?_
      refine lv_iload hx hb niX_d59 (lv_at hl 0 rfl) ?_
      refine y_call (z := (0, 151, 2, some 17, xM171)) (av := [.ref this, .int e55]) (rest := []) (y_cokV (n := 1) (ci := 12) X ym_isHillX rfl rfl rfl (x_cons (x_bw72 2 rfl rfl) (x_cons (x_bw72 4 rfl rfl) (x_cons (x_at 40 (by decide +kernel) rfl) (x_cons (x_bw0 9 rfl rfl) x_nilm)))) (x_bw72 5 rfl rfl) (by decide +kernel) ⟨Nat.le_of_ble_eq_true rfl, Nat.le_of_ble_eq_true rfl⟩) hY0 hI rfl niX_d61 hl.1 (Nat.le_of_ble_eq_true rfl) (Nat.le_of_ble_eq_true rfl) (Nat.le_of_ble_eq_true rfl) (y_cons (y_cref hY_this rfl) (y_cons ⟨_, rfl, x_i32 _⟩ y_nil)) rfl (y_recv rfl hY_this) trivial (y_sub_ef rfl) fun v Yn o Hn L ho hr ha hIn hx_ hE hP => ?_
      have hPq := hP _ _ _ _ rfl hs_bk hcn hA_bk
      replace hs_bk := y_Efld hE hY_this rfl (by decide) (by decide) hs_bk
      replace hs_se := y_Efld hE hY_this rfl (by decide) (by decide) hs_se
      replace hA_bk := hA_bk.kept (y_Earr hE hY_bk rfl (by decide))
      replace hY_this := y_ext hx_ hI.1 hY_this
      replace hY_bk := y_ext hx_ hI.1 hY_bk
      replace hY_se := y_ext hx_ hI.1 hY_se
      obtain ⟨r61, rfl, hin_r61, hout_r61⟩ := hPq
      clear ho hr ha hE hP hI hx_
      rename x_I _ _ _ _ _ _ _ _ _ _ => hI
      have ec0 : (0 : Int32).toInt = 0 := by decide
      refine lv_if_eq hx hb niX_d64 (tgt := 103) (by decide) (fun q64 => ?_) (fun q64 => ?_)
      · have q64_ : r61.toInt = (0 : Int32).toInt := by rw [q64]
        exact niX_L103 B hav hs0 hA0 hcn hd0 hok (by first | assumption | omega) (fun H Y locs ls k1 gd1 fi1 li1 hI hY_this hY_bk hY_se hs_bk hs_se hA_bk hl hk hli hfi hgd hnb hgb h_k1 => ih _ _ _ _ _ _ _ _ hI hY_this hY_bk hY_se hs_bk hs_se hA_bk hl hk hli hfi hgd hnb hgb (by omega)) _ _ _ _ _ _ _ hI hY_this hY_bk hY_se hs_bk hs_se hA_bk (lv_sub hl [1, 2, 3, 4, 5, 6, 7] rfl) (by show _ = m_lit fb w k.toInt.toNat ^^^ m_chg fb k.toInt.toNat; unfold m_chg; rw [he55, if_neg (show ¬ (0 ≤ e55.toInt ∧ e55.toInt < (fb 0).toInt) from hout_r61 (by assumption)), m_xor0]; exact hli) (by first | assumption | omega) (by first | assumption | omega) (by first | assumption | omega) (by first | assumption | omega) (fun h9 => absurd (show m_isH fb e55 by rw [← he55]; exact h9.1) (hout_r61 (by assumption)))
      · have q64_ : ¬ r61.toInt = (0 : Int32).toInt := fun q => q64 (Int32.toInt_inj.mp q)
        refine lv_iload_n hx hb niX_d67 rfl (lv_at hl 4 rfl) ?_
        refine lv_iload hx hb niX_d68 (lv_at hl 0 rfl) ?_
        refine lv_ishr hx hb niX_d70 ?_
        generalize hg_z70 : li >>> (e55 &&& 31) = z70
        refine lv_iconst hx hb niX_d71 (v := 1) (by decide) ?_
        have ec1 : (1 : Int32).toInt = 1 := by decide
        refine lv_iand hx hb niX_d72 ?_
        generalize hg_z72 : z70 &&& (1 : Int32) = z72
        refine lv_aload_n hx hb niX_d73 rfl (lv_at hl 5 rfl) ?_
        refine y_getf X (fl190 X.2.2.2.2.1) hI.1 hY_this rfl hs_bk niX_d74 ?_
        refine lv_sipush hx hb niX_d77 (v := 136) (by decide) ?_
        refine lv_iconst hx hb niX_d80 (v := 2) (by decide) ?_
        refine lv_iload hx hb niX_d81 (lv_at hl 1 rfl) ?_
        refine lv_imul hx hb niX_d83 ?_
        generalize hg_z83 : (2 : Int32) * k = z83
        have h_z83 : z83.toInt = 2 * k.toInt := by rw [← hg_z83]; have := y_mul (x := (2 : Int32)) (y := k) (by rw [ec2]; omega) (by rw [ec2]; omega); rw [ec2] at this; exact this
        refine lv_iadd hx hb niX_d84 ?_
        generalize hg_z84 : (136 : Int32) + z83 = z84
        have h_z84 : z84.toInt = 136 + z83.toInt := by rw [← hg_z84]; have := y_add (x := (136 : Int32)) (y := z83) (by rw [ec136]; omega) (by rw [ec136]; omega); rw [ec136] at this; exact this
        refine lv_iconst hx hb niX_d85 (v := 1) (by decide) ?_
        refine lv_iadd hx hb niX_d86 ?_
        generalize hg_z86 : z84 + (1 : Int32) = z86
        have h_z86 : z86.toInt = z84.toInt + 1 := by rw [← hg_z86]; have := y_add (x := z84) (y := (1 : Int32)) (by rw [ec1]; omega) (by rw [ec1]; omega); rw [ec1] at this; exact this
        refine y_iald X hI.1 hY_bk rfl hA_bk (by omega) (by show _ < (160 : Int); omega) niX_d87 ?_
        obtain ⟨e87, hg_e87⟩ : ∃ e87 : Int32, fb z86.toInt.toNat = e87 := ⟨_, rfl⟩
        rw [hg_e87]
        have he87 : fb (137 + 2 * k.toInt.toNat) = e87 := by rw [← hg_e87]; congr 1; omega
        have hih := hin_r61 (by assumption)
        refine lv_icmp_ne hx hb niX_d88 (tgt := 96) (by decide) (fun q88 => ?_) (fun q88 => ?_)
        · have q88_ : ¬ z72.toInt = e87.toInt := fun q => q88 (Int32.toInt_inj.mp q)
          refine lv_iload_n hx hb niX_d96 rfl (lv_at hl 4 rfl) ?_
          refine lv_iconst hx hb niX_d97 (v := 1) (by decide) ?_
          refine lv_iload hx hb niX_d98 (lv_at hl 0 rfl) ?_
          refine lv_ishl hx hb niX_d100 ?_
          generalize hg_z100 : (1 : Int32) <<< (e55 &&& 31) = z100
          refine lv_ixor hx hb niX_d101 ?_
          generalize hg_z101 : li ^^^ z100 = z101
          refine lv_istore_n hx hb niX_d102 rfl hl (by decide) (lv' := [(3, .int z101), (7, .int e55), (6, .int k), (5, .int gd), (4, .int fi), (0, .ref this), (1, .int w), (2, .int t)]) rfl fun ls hl => ?_
          exact niX_L103 B hav hs0 hA0 hcn hd0 hok (by first | assumption | omega) (fun H Y locs ls k1 gd1 fi1 li1 hI hY_this hY_bk hY_se hs_bk hs_se hA_bk hl hk hli hfi hgd hnb hgb h_k1 => ih _ _ _ _ _ _ _ _ hI hY_this hY_bk hY_se hs_bk hs_se hA_bk hl hk hli hfi hgd hnb hgb (by omega)) _ _ _ _ _ _ _ hI hY_this hY_bk hY_se hs_bk hs_se hA_bk (lv_sub hl [2, 3, 4, 0, 5, 6, 7] rfl) (by show _ = m_lit fb w k.toInt.toNat ^^^ m_chg fb k.toInt.toNat; unfold m_chg; rw [he55, if_pos (show 0 ≤ e55.toInt ∧ e55.toInt < (fb 0).toInt from hih), ← hli, hg_z100, hg_z101]) (by first | assumption | omega) (by first | assumption | omega) (by first | assumption | omega) (by first | assumption | omega) (fun h9 => by have h8 := h9.2; rw [he55, he87, ← hli, hg_z70, hg_z72] at h8; exact absurd h8 (by assumption))
        · have q88_ : z72.toInt = e87.toInt := by rw [q88]
          refine lv_aload_n hx hb niX_d91 rfl (lv_at hl 5 rfl) ?_
          refine y_call (z := (0, 126, 1, some 17, xM164)) (av := [.ref this]) (rest := []) (y_cokV (n := 0) (ci := 12) X ym_no rfl rfl rfl (x_cons (x_bw70 11 rfl rfl) (x_cons (x_bw70 13 rfl rfl) (x_cons (x_at 38 (by decide +kernel) rfl) (x_cons (x_bw0 9 rfl rfl) x_nilm)))) (x_bw70 14 rfl rfl) (by decide +kernel) ⟨Nat.le_of_ble_eq_true rfl, Nat.le_of_ble_eq_true rfl⟩) hY0 hI rfl niX_d92 hl.1 (Nat.le_of_ble_eq_true rfl) (Nat.le_of_ble_eq_true rfl) (Nat.le_of_ble_eq_true rfl) (y_cons (y_cref hY_this rfl) y_nil) rfl (y_recv rfl hY_this) trivial (y_sub_ef rfl) fun v Yn o Hn L ho hr ha hIn hx_ hE hP => ?_
          replace hs_bk := y_Efld hE hY_this rfl (by decide) (by decide) hs_bk
          replace hs_se := y_Efld hE hY_this rfl (by decide) (by decide) hs_se
          replace hA_bk := hA_bk.kept (y_Earr hE hY_bk rfl (by decide))
          replace hY_this := y_ext hx_ hI.1 hY_this
          replace hY_bk := y_ext hx_ hI.1 hY_bk
          replace hY_se := y_ext hx_ hI.1 hY_se
          have hPb := hP
          obtain rfl := hPb
          clear ho hr ha hE hP hI hx_
          rename x_I _ _ _ _ _ _ _ _ _ _ => hI
          have hbad : m_nbadR fb w k.toInt.toNat := ⟨by rw [he55]; exact hih, by rw [he55, he87, ← hli, hg_z70, hg_z72]; assumption⟩
          subst hav
          exact y_ireturn B hI rfl rfl rfl List.mem_cons_self ⟨_, rfl, ⟨_, rfl, x_i32 _⟩⟩ (x_cs.mono B.2.2.2.2.2 (y_mon B hI)) (fun t' b' w0' w1' f' h1 h2 h3 h4 => by cases h1; cases h2.symm.trans hs0; cases z_uniq h4 hA0 h3 hcn; exact ⟨_, rfl, fun _ => ⟨fun _ _ _ _ => rfl, fun h9 => absurd hbad (h9 _ (by omega))⟩, fun q9 => absurd hok q9⟩) (Nat.le_refl _) (Nat.le_refl _) niX_d95
theorem ym_nightM : y_Met vwCl x_G x_Zs x_Tb x_Nb xM221 y_T z_PMni := by
  refine y_main (by decide +kernel) (by decide +kernel) x_Tb_good x_Nb_ok ?_
  intro p l e s m below meth c D U Y0 av ls B hI _ hl
  have X := B.1
  have hx := X.1
  have hb := X.2.1
  have hY0 := B.2.2.2.2.1
  obtain ⟨v0, v1, v2, rfl, hv0, ⟨w, rfl, -⟩, ⟨t, rfl, -⟩⟩ := y_three B.2.2.2.2.2
  obtain ⟨this, t0, rfl, ht0, hY_this⟩ := x_ref_at hv0 rfl
  obtain rfl := List.mem_singleton.mp ht0
  replace hl : lv_has ls xM221.2.2.1 [(0, .ref this), (1, .int w), (2, .int t)] := hl
  obtain ⟨bk, hs_bk, hY_bk⟩ := y_fldR (k := 0) hI.1 hY_this rfl rfl
  obtain ⟨fb9, hA9, hB9⟩ := y_arr hI.1 hY_bk rfl rfl
  obtain ⟨fb, hcn, hA_bk, hB_bk⟩ := z_canon (Y := Y0) (P := fun j v => x_c Y0 ([xI 0 10, xI 0 8, xI 0 8].getD j xF) (.int v)) hA9 hB9
  clear hA9 hB9 fb9
  have hs0 := hs_bk
  have hA0 := hA_bk
  have hd := z_hdr hB_bk
  have hd0 := hd.1
  have hd1 := hd.2.1
  obtain ⟨se, hs_se, hY_se⟩ := y_fldR (k := 8) hI.1 hY_this rfl rfl
  refine lv_aload_n hx hb niX_d0 rfl (lv_at hl 0 rfl) ?_
  refine lv_iload_n hx hb niX_d1 rfl (lv_at hl 1 rfl) ?_
  refine y_call (z := (0, 237, 2, some 17, xM184)) (av := [.ref this, .int w]) (rest := []) (y_cokV (n := 1) (ci := 12) X ym_isSet rfl rfl rfl (x_cons (x_bw77 0 rfl rfl) (x_cons (x_bw77 2 rfl rfl) (x_cons (x_at 48 (by decide +kernel) rfl) (x_cons (x_bw0 9 rfl rfl) x_nilm)))) (x_bw77 3 rfl rfl) (by decide +kernel) ⟨Nat.le_of_ble_eq_true rfl, Nat.le_of_ble_eq_true rfl⟩) hY0 hI rfl niX_d2 hl.1 (Nat.le_of_ble_eq_true rfl) (Nat.le_of_ble_eq_true rfl) (Nat.le_of_ble_eq_true rfl) (y_cons (y_cref hY_this rfl) (y_cons ⟨_, rfl, x_i32 _⟩ y_nil)) rfl (y_recv rfl hY_this) trivial (y_sub_ef rfl) fun v Yn o Hn L ho hr ha hIn hx_ hE hP => ?_
  have hPv := hP _ _ _ _ rfl hs_bk (hA_bk 0 (by decide))
  replace hs_bk := y_Efld hE hY_this rfl (by decide) (by decide) hs_bk
  replace hs_se := y_Efld hE hY_this rfl (by decide) (by decide) hs_se
  replace hA_bk := hA_bk.kept (y_Earr hE hY_bk rfl (by decide))
  replace hY_this := y_ext hx_ hI.1 hY_this
  replace hY_bk := y_ext hx_ hI.1 hY_bk
  replace hY_se := y_ext hx_ hI.1 hY_se
  obtain ⟨r2, rfl, hin_r2, hout_r2⟩ := hPv
  clear ho hr ha hE hP hI hx_
  rename x_I _ _ _ _ _ _ _ _ _ _ => hI
  have ec0 : (0 : Int32).toInt = 0 := by decide
  refine lv_if_eq hx hb niX_d5 (tgt := 20) (by decide) (fun q5 => ?_) (fun q5 => ?_)
  · have q5_ : r2.toInt = (0 : Int32).toInt := by rw [q5]
    have hno : ¬ (m_isS fb w ∧ 0 ≤ t.toInt ∧ t.toInt ≤ 2) := fun q9 => by first | (have h8 := hout_r2 (by assumption); have h7 := q9.1; unfold m_isS at h7; omega) | (have h8 := hout_r14 (by assumption); omega)
    refine lv_aload_n hx hb niX_d20 rfl (lv_at hl 0 rfl) ?_
    refine y_call (z := (0, 102, 1, some 17, xM143)) (av := [.ref this]) (rest := []) (y_cokV (n := 0) (ci := 12) X ym_bad rfl rfl rfl (x_cons (x_bw68 3 rfl rfl) (x_cons (x_bw68 5 rfl rfl) (x_cons (x_at 32 (by decide +kernel) rfl) (x_cons (x_bw0 9 rfl rfl) x_nilm)))) (x_bw68 6 rfl rfl) (by decide +kernel) ⟨Nat.le_of_ble_eq_true rfl, Nat.le_of_ble_eq_true rfl⟩) hY0 hI rfl niX_d21 hl.1 (Nat.le_of_ble_eq_true rfl) (Nat.le_of_ble_eq_true rfl) (Nat.le_of_ble_eq_true rfl) (y_cons (y_cref hY_this rfl) y_nil) rfl (y_recv rfl hY_this) trivial (y_sub_ef rfl) fun v Yn o Hn L ho hr ha hIn hx_ hE hP => ?_
    replace hs_bk := y_Efld hE hY_this rfl (by decide) (by decide) hs_bk
    replace hs_se := y_Efld hE hY_this rfl (by decide) (by decide) hs_se
    replace hA_bk := hA_bk.kept (y_Earr hE hY_bk rfl (by decide))
    replace hY_this := y_ext hx_ hI.1 hY_this
    replace hY_bk := y_ext hx_ hI.1 hY_bk
    replace hY_se := y_ext hx_ hI.1 hY_se
    have hPb := hP
    obtain rfl := hPb
    clear ho hr ha hE hP hI hx_
    rename x_I _ _ _ _ _ _ _ _ _ _ => hI
    exact y_ireturn B hI rfl rfl rfl List.mem_cons_self ⟨_, rfl, ⟨_, rfl, x_i32 _⟩⟩ (x_cs.mono B.2.2.2.2.2 (y_mon B hI)) (fun t' b' w0' w1' f' h1 h2 h3 h4 => by cases h1; cases h2.symm.trans hs0; cases z_uniq h4 hA0 h3 hcn; exact ⟨_, rfl, fun q9 => absurd q9 hno, fun _ => rfl⟩) (Nat.le_refl _) (Nat.le_refl _) niX_d24
  · have q5_ : ¬ r2.toInt = (0 : Int32).toInt := fun q => q5 (Int32.toInt_inj.mp q)
    refine lv_iload_n hx hb niX_d8 rfl (lv_at hl 2 rfl) ?_
    obtain ⟨z9, hg_z9⟩ : ∃ z9 : Int64, t.toInt64 = z9 := ⟨_, rfl⟩
    have h_z9 : z9.toInt = (t).toInt := by rw [← hg_z9]; exact Int32.toInt_toInt64 _
    refine lv_i2l hx hb niX_d9 (v := z9) hg_z9 ?_
    refine lv_lconst hx hb niX_d10 (v := 0) (by decide) ?_
    have el0 : (0 : Int64).toInt = 0 := by decide
    refine lv_ldc2 hx hb X.2.2.2.1 (v := 2) (X.2.2.2.2.1 _ (x_bw86 13 rfl rfl)) niX_d11 ?_
    have el2 : (2 : Int64).toInt = 2 := by decide
    refine y_call (z := (1, 87, 3, none, xM148)) (av := [.long z9, .long (0 : Int64), .long (2 : Int64)]) (rest := []) (y_cokS (n := 3) X ym_in (x_cons (x_bw67 11 rfl rfl) (x_cons (x_bw67 12 rfl rfl) (x_cons (x_bw0 9 rfl rfl) x_nilm))) (x_bw67 13 rfl rfl) (by decide +kernel) ⟨Nat.le_of_ble_eq_true rfl, Nat.le_of_ble_eq_true rfl⟩) hY0 hI rfl niX_d14 hl.1 (Nat.le_of_ble_eq_true rfl) (Nat.le_of_ble_eq_true rfl) (Nat.le_of_ble_eq_true rfl) (y_cons ⟨_, rfl, x_i64 _⟩ (y_cons ⟨_, rfl, x_i64 _⟩ (y_cons ⟨_, rfl, x_i64 _⟩ y_nil))) rfl (y_norecv rfl) trivial (y_sub_ef rfl) fun v Yn o Hn L ho hr ha hIn hx_ hE hP => ?_
    replace hs_bk := y_Efld hE hY_this rfl (by decide) (by decide) hs_bk
    replace hs_se := y_Efld hE hY_this rfl (by decide) (by decide) hs_se
    replace hA_bk := hA_bk.kept (y_Earr hE hY_bk rfl (by decide))
    replace hY_this := y_ext hx_ hI.1 hY_this
    replace hY_bk := y_ext hx_ hI.1 hY_bk
    replace hY_se := y_ext hx_ hI.1 hY_se
    obtain ⟨r14, rfl, hin_r14, hout_r14⟩ := z_inR2 (hP _ _ _ rfl)
    clear ho hr ha hE hP hI hx_
    rename x_I _ _ _ _ _ _ _ _ _ _ => hI
    refine lv_if_ne hx hb niX_d17 (tgt := 25) (by decide) (fun q17 => ?_) (fun q17 => ?_)
    · have q17_ : ¬ r14.toInt = (0 : Int32).toInt := fun q => q17 (Int32.toInt_inj.mp q)
      have hw9 := hin_r14 (by assumption)
      have hok : m_isS fb w ∧ 0 ≤ t.toInt ∧ t.toInt ≤ 2 := ⟨hin_r2 (by assumption), by omega, by omega⟩
      refine lv_iload_n hx hb niX_d25 rfl (lv_at hl 1 rfl) ?_
      refine lv_istore_n hx hb niX_d26 rfl hl (by decide) (lv' := [(3, .int w), (0, .ref this), (1, .int w), (2, .int t)]) rfl fun ls hl => ?_
      refine lv_iconst hx hb niX_d27 (v := (-1)) (by decide) ?_
      have ecm1 : ((-1) : Int32).toInt = (-1) := by decide
      refine lv_istore hx hb niX_d28 hl (by decide) (lv' := [(4, .int ((-1) : Int32)), (3, .int w), (0, .ref this), (1, .int w), (2, .int t)]) rfl fun ls hl => ?_
      refine lv_iconst hx hb niX_d30 (v := 0) (by decide) ?_
      refine lv_istore hx hb niX_d31 hl (by decide) (lv' := [(5, .int (0 : Int32)), (4, .int ((-1) : Int32)), (3, .int w), (0, .ref this), (1, .int w), (2, .int t)]) rfl fun ls hl => ?_
      refine lv_iconst hx hb niX_d33 (v := 0) (by decide) ?_
      refine lv_istore hx hb niX_d34 hl (by decide) (lv' := [(6, .int (0 : Int32)), (5, .int (0 : Int32)), (4, .int ((-1) : Int32)), (3, .int w), (0, .ref this), (1, .int w), (2, .int t)]) rfl fun ls hl => ?_
      exact niX_L36 B rfl hs0 hA0 hcn hd0 hok 14 _ _ _ _ _ _ _ _ hI hY_this hY_bk hY_se hs_bk hs_se hA_bk (lv_sub hl [0, 1, 2, 3, 4, 5, 6] rfl) (by first | assumption | omega) rfl rfl rfl (fun j hj => absurd hj (by omega)) (by first | assumption | omega) (by omega)
    · have q17_ : r14.toInt = (0 : Int32).toInt := by rw [q17]
      have hno : ¬ (m_isS fb w ∧ 0 ≤ t.toInt ∧ t.toInt ≤ 2) := fun q9 => by first | (have h8 := hout_r2 (by assumption); have h7 := q9.1; unfold m_isS at h7; omega) | (have h8 := hout_r14 (by assumption); omega)
      refine lv_aload_n hx hb niX_d20 rfl (lv_at hl 0 rfl) ?_
      refine y_call (z := (0, 102, 1, some 17, xM143)) (av := [.ref this]) (rest := []) (y_cokV (n := 0) (ci := 12) X ym_bad rfl rfl rfl (x_cons (x_bw68 3 rfl rfl) (x_cons (x_bw68 5 rfl rfl) (x_cons (x_at 32 (by decide +kernel) rfl) (x_cons (x_bw0 9 rfl rfl) x_nilm)))) (x_bw68 6 rfl rfl) (by decide +kernel) ⟨Nat.le_of_ble_eq_true rfl, Nat.le_of_ble_eq_true rfl⟩) hY0 hI rfl niX_d21 hl.1 (Nat.le_of_ble_eq_true rfl) (Nat.le_of_ble_eq_true rfl) (Nat.le_of_ble_eq_true rfl) (y_cons (y_cref hY_this rfl) y_nil) rfl (y_recv rfl hY_this) trivial (y_sub_ef rfl) fun v Yn o Hn L ho hr ha hIn hx_ hE hP => ?_
      replace hs_bk := y_Efld hE hY_this rfl (by decide) (by decide) hs_bk
      replace hs_se := y_Efld hE hY_this rfl (by decide) (by decide) hs_se
      replace hA_bk := hA_bk.kept (y_Earr hE hY_bk rfl (by decide))
      replace hY_this := y_ext hx_ hI.1 hY_this
      replace hY_bk := y_ext hx_ hI.1 hY_bk
      replace hY_se := y_ext hx_ hI.1 hY_se
      have hPb := hP
      obtain rfl := hPb
      clear ho hr ha hE hP hI hx_
      rename x_I _ _ _ _ _ _ _ _ _ _ => hI
      exact y_ireturn B hI rfl rfl rfl List.mem_cons_self ⟨_, rfl, ⟨_, rfl, x_i32 _⟩⟩ (x_cs.mono B.2.2.2.2.2 (y_mon B hI)) (fun t' b' w0' w1' f' h1 h2 h3 h4 => by cases h1; cases h2.symm.trans hs0; cases z_uniq h4 hA0 h3 hcn; exact ⟨_, rfl, fun q9 => absurd q9 hno, fun _ => rfl⟩) (Nat.le_refl _) (Nat.le_refl _) niX_d24
