/-! lawful, most: the reference's loops over all sets -/
def m_laR (f : Nat → Int32) (n : Int32) (k : Nat) : Bool := (decide (n = -1) || decide (z_bits (nI k) = n)) && m_lw (m_VR f (f 4) (f 5)) (nI k) (f 0).toInt.toNat
def m_alR (f : Nat → Int32) (n r : Int32) : Prop := (-1 ≤ n.toInt ∧ n.toInt ≤ 10 → r.toInt = (m_cn (m_laR f n) (2 ^ (f 0).toInt.toNat) : Nat)) ∧ (¬ (-1 ≤ n.toInt ∧ n.toInt ≤ 10) → r = -2)
def m_mw (h : Int32) (k : Nat) : Bool := decide (h = -1) || decide ((nI k >>> ((if h.toInt < 0 then 0 else h) &&& 31)) &&& 1 = 1)
def m_mSt (s : Int32) (k : Nat) : Int32 := if s = -1 ∨ (z_bits s).toInt < (z_bits (nI k)).toInt then nI k else s
def m_mL (f : Nat → Int32) (h : Int32) (k : Nat) : Bool := m_mw h k && m_lw (m_VR f (f 4) (f 5)) (nI k) (f 0).toInt.toNat
def m_mB (f : Nat → Int32) (h : Int32) : Int32 := m_fd (m_mL f h) m_mSt (-1) (2 ^ (f 0).toInt.toNat)
def m_amR (f : Nat → Int32) (h t r : Int32) : Prop := (m_amOk f h t → (m_mB f h = -1 → r = -3) ∧ (¬ m_mB f h = -1 → (t = 0 → r = z_bits (m_mB f h)) ∧ (¬ t = 0 → r = m_mB f h))) ∧ (¬ m_amOk f h t → r = -2)
def z_PMmo : yP := fun D av _ H v _ H' => ∀ (this bk : Nat) (h t : Int32) (f : Nat → Int32), av = [.ref this, .int h, .int t] → x_sl D 12 0 this H = some (.ref bk) → z_c f → y_A bk 160 H f → ∃ r : Int32, v = some (.int r) ∧ m_amR f h t r
theorem moX_d0 : decode xM192.2.1 0 = .ok (.iload_n 1, 1) := dz_ok (by decide +kernel)
theorem moX_d1 : decode xM192.2.1 1 = .ok (.iconst (-1), 1) := dz_ok (by decide +kernel)
theorem moX_d2 : decode xM192.2.1 2 = .ok (.if_icmp .eq 11, 3) := dz_ok (by decide +kernel)
theorem moX_d5 : decode xM192.2.1 5 = .ok (.aload_n 0, 1) := dz_ok (by decide +kernel)
theorem moX_d6 : decode xM192.2.1 6 = .ok (.iload_n 1, 1) := dz_ok (by decide +kernel)
theorem moX_d7 : decode xM192.2.1 7 = .ok (.invokevirtual 151, 3) := dz_ok (by decide +kernel)
theorem moX_d10 : decode xM192.2.1 10 = .ok (.ifCond .eq 13, 3) := dz_ok (by decide +kernel)
theorem moX_d13 : decode xM192.2.1 13 = .ok (.iload_n 2, 1) := dz_ok (by decide +kernel)
theorem moX_d14 : decode xM192.2.1 14 = .ok (.i2l, 1) := dz_ok (by decide +kernel)
theorem moX_d15 : decode xM192.2.1 15 = .ok (.lconst 0, 1) := dz_ok (by decide +kernel)
theorem moX_d16 : decode xM192.2.1 16 = .ok (.lconst 1, 1) := dz_ok (by decide +kernel)
theorem moX_d17 : decode xM192.2.1 17 = .ok (.invokestatic 87, 3) := dz_ok (by decide +kernel)
theorem moX_d20 : decode xM192.2.1 20 = .ok (.ifCond .ne 8, 3) := dz_ok (by decide +kernel)
theorem moX_d23 : decode xM192.2.1 23 = .ok (.aload_n 0, 1) := dz_ok (by decide +kernel)
theorem moX_d24 : decode xM192.2.1 24 = .ok (.invokevirtual 102, 3) := dz_ok (by decide +kernel)
theorem moX_d27 : decode xM192.2.1 27 = .ok (.ireturn, 1) := dz_ok (by decide +kernel)
theorem moX_d28 : decode xM192.2.1 28 = .ok (.aload_n 0, 1) := dz_ok (by decide +kernel)
theorem moX_d29 : decode xM192.2.1 29 = .ok (.invokevirtual 240, 3) := dz_ok (by decide +kernel)
theorem moX_d32 : decode xM192.2.1 32 = .ok (.iconst (-1), 1) := dz_ok (by decide +kernel)
theorem moX_d33 : decode xM192.2.1 33 = .ok (.istore_n 3, 1) := dz_ok (by decide +kernel)
theorem moX_d34 : decode xM192.2.1 34 = .ok (.iconst 0, 1) := dz_ok (by decide +kernel)
theorem moX_d35 : decode xM192.2.1 35 = .ok (.istore 4, 2) := dz_ok (by decide +kernel)
theorem moX_d37 : decode xM192.2.1 37 = .ok (.iload 4, 2) := dz_ok (by decide +kernel)
theorem moX_d39 : decode xM192.2.1 39 = .ok (.aload_n 0, 1) := dz_ok (by decide +kernel)
theorem moX_d40 : decode xM192.2.1 40 = .ok (.invokevirtual 91, 3) := dz_ok (by decide +kernel)
theorem moX_d43 : decode xM192.2.1 43 = .ok (.if_icmp .gt 73, 3) := dz_ok (by decide +kernel)
theorem moX_d46 : decode xM192.2.1 46 = .ok (.iload_n 1, 1) := dz_ok (by decide +kernel)
theorem moX_d47 : decode xM192.2.1 47 = .ok (.iconst (-1), 1) := dz_ok (by decide +kernel)
theorem moX_d48 : decode xM192.2.1 48 = .ok (.if_icmp .eq 21, 3) := dz_ok (by decide +kernel)
theorem moX_d51 : decode xM192.2.1 51 = .ok (.iload 4, 2) := dz_ok (by decide +kernel)
theorem moX_d53 : decode xM192.2.1 53 = .ok (.iload_n 1, 1) := dz_ok (by decide +kernel)
theorem moX_d54 : decode xM192.2.1 54 = .ok (.ifCond .ge 7, 3) := dz_ok (by decide +kernel)
theorem moX_d57 : decode xM192.2.1 57 = .ok (.iconst 0, 1) := dz_ok (by decide +kernel)
theorem moX_d58 : decode xM192.2.1 58 = .ok (.goto 4, 3) := dz_ok (by decide +kernel)
theorem moX_d61 : decode xM192.2.1 61 = .ok (.iload_n 1, 1) := dz_ok (by decide +kernel)
theorem moX_d62 : decode xM192.2.1 62 = .ok (.ishr, 1) := dz_ok (by decide +kernel)
theorem moX_d63 : decode xM192.2.1 63 = .ok (.iconst 1, 1) := dz_ok (by decide +kernel)
theorem moX_d64 : decode xM192.2.1 64 = .ok (.iand, 1) := dz_ok (by decide +kernel)
theorem moX_d65 : decode xM192.2.1 65 = .ok (.iconst 1, 1) := dz_ok (by decide +kernel)
theorem moX_d66 : decode xM192.2.1 66 = .ok (.if_icmp .ne 7, 3) := dz_ok (by decide +kernel)
theorem moX_d69 : decode xM192.2.1 69 = .ok (.iconst 1, 1) := dz_ok (by decide +kernel)
theorem moX_d70 : decode xM192.2.1 70 = .ok (.goto 4, 3) := dz_ok (by decide +kernel)
theorem moX_d73 : decode xM192.2.1 73 = .ok (.iconst 0, 1) := dz_ok (by decide +kernel)
theorem moX_d74 : decode xM192.2.1 74 = .ok (.istore 5, 2) := dz_ok (by decide +kernel)
theorem moX_d76 : decode xM192.2.1 76 = .ok (.iload 5, 2) := dz_ok (by decide +kernel)
theorem moX_d78 : decode xM192.2.1 78 = .ok (.ifCond .eq 32, 3) := dz_ok (by decide +kernel)
theorem moX_d81 : decode xM192.2.1 81 = .ok (.aload_n 0, 1) := dz_ok (by decide +kernel)
theorem moX_d82 : decode xM192.2.1 82 = .ok (.iload 4, 2) := dz_ok (by decide +kernel)
theorem moX_d84 : decode xM192.2.1 84 = .ok (.invokevirtual 243, 3) := dz_ok (by decide +kernel)
theorem moX_d87 : decode xM192.2.1 87 = .ok (.ifCond .eq 23, 3) := dz_ok (by decide +kernel)
theorem moX_d90 : decode xM192.2.1 90 = .ok (.iload_n 3, 1) := dz_ok (by decide +kernel)
theorem moX_d91 : decode xM192.2.1 91 = .ok (.iconst (-1), 1) := dz_ok (by decide +kernel)
theorem moX_d92 : decode xM192.2.1 92 = .ok (.if_icmp .eq 15, 3) := dz_ok (by decide +kernel)
theorem moX_d95 : decode xM192.2.1 95 = .ok (.iload 4, 2) := dz_ok (by decide +kernel)
theorem moX_d97 : decode xM192.2.1 97 = .ok (.invokestatic 148, 3) := dz_ok (by decide +kernel)
theorem moX_d100 : decode xM192.2.1 100 = .ok (.iload_n 3, 1) := dz_ok (by decide +kernel)
theorem moX_d101 : decode xM192.2.1 101 = .ok (.invokestatic 148, 3) := dz_ok (by decide +kernel)
theorem moX_d104 : decode xM192.2.1 104 = .ok (.if_icmp .le 6, 3) := dz_ok (by decide +kernel)
theorem moX_d107 : decode xM192.2.1 107 = .ok (.iload 4, 2) := dz_ok (by decide +kernel)
theorem moX_d109 : decode xM192.2.1 109 = .ok (.istore_n 3, 1) := dz_ok (by decide +kernel)
theorem moX_d110 : decode xM192.2.1 110 = .ok (.iinc 4 1, 3) := dz_ok (by decide +kernel)
theorem moX_d113 : decode xM192.2.1 113 = .ok (.goto (-76), 3) := dz_ok (by decide +kernel)
theorem moX_d116 : decode xM192.2.1 116 = .ok (.iload_n 3, 1) := dz_ok (by decide +kernel)
theorem moX_d117 : decode xM192.2.1 117 = .ok (.iconst (-1), 1) := dz_ok (by decide +kernel)
theorem moX_d118 : decode xM192.2.1 118 = .ok (.if_icmp .ne 10, 3) := dz_ok (by decide +kernel)
theorem moX_d121 : decode xM192.2.1 121 = .ok (.aload_n 0, 1) := dz_ok (by decide +kernel)
theorem moX_d122 : decode xM192.2.1 122 = .ok (.invokevirtual 126, 3) := dz_ok (by decide +kernel)
theorem moX_d125 : decode xM192.2.1 125 = .ok (.goto 15, 3) := dz_ok (by decide +kernel)
theorem moX_d128 : decode xM192.2.1 128 = .ok (.iload_n 2, 1) := dz_ok (by decide +kernel)
theorem moX_d129 : decode xM192.2.1 129 = .ok (.ifCond .ne 10, 3) := dz_ok (by decide +kernel)
theorem moX_d132 : decode xM192.2.1 132 = .ok (.iload_n 3, 1) := dz_ok (by decide +kernel)
theorem moX_d133 : decode xM192.2.1 133 = .ok (.invokestatic 148, 3) := dz_ok (by decide +kernel)
theorem moX_d136 : decode xM192.2.1 136 = .ok (.goto 4, 3) := dz_ok (by decide +kernel)
theorem moX_d139 : decode xM192.2.1 139 = .ok (.iload_n 3, 1) := dz_ok (by decide +kernel)
theorem moX_d140 : decode xM192.2.1 140 = .ok (.ireturn, 1) := dz_ok (by decide +kernel)
theorem moX_L76 {p : Program} {l : Launch} {e : Env} {s : State} {m : MethodId} {below : List Frame} {meth : Method} {c : Code} {D : va_G} {U : State} {Y0 : xY} {av : List Value} (B : y_B vwCl x_Tb x_Nb xM192 p s m meth c D U Y0 av) {this bk se : Nat} {h t : Int32} {fb : Nat → Int32} (hav : av = [.ref this, .int h, .int t]) (hs0 : x_sl D 12 0 this s.heap = some (.ref bk)) (hA0 : y_A bk 160 s.heap fb) (hcn : z_c fb) (hd0 : 0 ≤ (fb 0).toInt ∧ (fb 0).toInt ≤ 10) (hok : m_amOk fb h t) {k : Int32} (hk : 0 ≤ k.toInt ∧ k.toInt ≤ (z_all (fb 0)).toInt)
    (out37 : ∀ (H : Heap) (Y : xY) (locs : List Loc) (ls : Array Slot) (k1 : Int32) (al1 : Int32) (fs : Nat → Int32), x_I D x_G x_Zs U (x_efs xM192) Y0 s.heap Y H locs → Y this = some 17 → Y bk = some 46 → Y se = some 51 → x_sl D 12 0 this H = some (.ref bk) → x_sl D 12 8 this H = some (.ref se) → y_A bk 160 H fb → y_A se 10 H fs → lv_has ls xM192.2.2.1 [(4, .int k1), (3, .int al1), (0, .ref this), (1, .int h), (2, .int t)] → (0 ≤ k1.toInt ∧ k1.toInt ≤ (z_all (fb 0)).toInt + 1) → (∀ i, i < (fb 0).toInt.toNat → fs i = (m_VR fb (fb 4) (fb 5)) i) → (al1 = m_fd (m_mL fb h) m_mSt (-1) k1.toInt.toNat) → (k1.toInt = k.toInt + 1) → W p l e (x_rm xM192) s m av.toArray below meth c H locs 0 0 (y_QQ below D x_G x_Zs U xM192 z_PMmo av Y0 s) (F0 m 37 ls [])) :
    ∀ (H : Heap) (Y : xY) (locs : List Loc) (ls : Array Slot) (wi : Int32) (al : Int32) (fs : Nat → Int32), x_I D x_G x_Zs U (x_efs xM192) Y0 s.heap Y H locs → Y this = some 17 → Y bk = some 46 → Y se = some 51 → x_sl D 12 0 this H = some (.ref bk) → x_sl D 12 8 this H = some (.ref se) → y_A bk 160 H fb → y_A se 10 H fs → lv_has ls xM192.2.2.1 [(5, .int wi), (4, .int k), (3, .int al), (0, .ref this), (1, .int h), (2, .int t)] → (∀ i, i < (fb 0).toInt.toNat → fs i = (m_VR fb (fb 4) (fb 5)) i) → (wi = m_b (m_mw h k.toInt.toNat)) → (al = m_fd (m_mL fb h) m_mSt (-1) k.toInt.toNat) → W p l e (x_rm xM192) s m av.toArray below meth c H locs 0 0 (y_QQ below D x_G x_Zs U xM192 z_PMmo av Y0 s) (F0 m 76 ls []) := by
  have X := B.1
  have hx := X.1
  have hb := X.2.1
  have hY0 := B.2.2.2.2.1
  intro H Y locs ls wi al fs hI hY_this hY_bk hY_se hs_bk hs_se hA_bk hA_se hl hVs hwi hal
  have hz9 := z_all_p hd0
  have hpw : 2 ^ (fb 0).toInt.toNat ≤ 1024 := Nat.pow_le_pow_right (n := 2) (by decide) (show (fb 0).toInt.toNat ≤ 10 by omega)
  refine lv_iload hx hb moX_d76 (lv_at hl 0 rfl) ?_
  have ec0 : (0 : Int32).toInt = 0 := by decide
  refine lv_if_eq hx hb moX_d78 (tgt := 110) (by decide) (fun q78 => ?_) (fun q78 => ?_)
  · have q78_ : wi.toInt = (0 : Int32).toInt := by rw [q78]
    obtain ⟨z110, hg_z110⟩ : ∃ z110 : Int32, k + Int32.ofInt 1 = z110 := ⟨_, rfl⟩
    have h_z110 : z110.toInt = k.toInt + 1 := by rw [← hg_z110]; exact y_inc (by decide) (by omega) (by omega)
    refine lv_iinc hx hb moX_d110 hl (k := 1) rfl hg_z110 (by decide) (lv' := [(4, .int z110), (5, .int wi), (3, .int al), (0, .ref this), (1, .int h), (2, .int t)]) rfl fun ls hl => ?_
    refine lv_goto hx hb moX_d113 (tgt := 37) (by decide) ?_
    have his : z110.toInt.toNat = k.toInt.toNat + 1 := by omega
    have hnk := m_nj hk.1
    exact out37 _ _ _ _ _ _ _ hI hY_this hY_bk hY_se hs_bk hs_se hA_bk hA_se (lv_sub hl [0, 2, 3, 4, 5] rfl) (by first | assumption | omega) (by first | assumption | omega) (by rw [his]; first | (rw [m_fd_F (show m_mL fb h k.toInt.toNat = false by unfold m_mL; rw [m_b0 (hwi.symm.trans (by assumption)), Bool.false_and])]; exact hal) | (rw [m_fd_F (show m_mL fb h k.toInt.toNat = false by unfold m_mL; rw [hnk, m_b0 (hg_r84.trans q87), Bool.and_false])]; exact hal) | (rw [m_fd_T (show m_mL fb h k.toInt.toNat = true by unfold m_mL; rw [m_bn (fun q => q78 (hwi.trans q)), hnk, m_bn (fun q => q87 (hg_r84.symm.trans q))]; rfl), ← hal]; unfold m_mSt; rw [hnk]; first | (rw [if_pos (Or.inl (by assumption))]) | (rw [if_pos (Or.inr (by rw [hg_r97, hg_r101]; assumption))]) | (rw [if_neg (fun h9 => by rcases h9 with h9 | h9; exact absurd h9 (by assumption); rw [hg_r97, hg_r101] at h9; omega)]))) (by first | assumption | omega)
  · have q78_ : ¬ wi.toInt = (0 : Int32).toInt := fun q => q78 (Int32.toInt_inj.mp q)
    refine lv_aload_n hx hb moX_d81 rfl (lv_at hl 3 rfl) ?_
    refine lv_iload hx hb moX_d82 (lv_at hl 1 rfl) ?_
    refine y_call (z := (0, 243, 2, some 17, xM191)) (av := [.ref this, .int k]) (rest := []) (y_cokV (n := 1) (ci := 12) X ym_isLawfulX rfl rfl rfl (x_cons (x_bw78 11 rfl rfl) (x_cons (x_bw78 13 rfl rfl) (x_cons (x_at 52 (by decide +kernel) rfl) (x_cons (x_bw0 9 rfl rfl) x_nilm)))) (x_bw78 14 rfl rfl) (by decide +kernel) ⟨Nat.le_of_ble_eq_true rfl, Nat.le_of_ble_eq_true rfl⟩) hY0 hI rfl moX_d84 hl.1 (Nat.le_of_ble_eq_true rfl) (Nat.le_of_ble_eq_true rfl) (Nat.le_of_ble_eq_true rfl) (y_cons (y_cref hY_this rfl) (y_cons ⟨_, rfl, x_i32 _⟩ y_nil)) rfl (y_recv rfl hY_this) trivial (y_sub_ef rfl) fun v Yn o Hn L ho hr ha hIn hx_ hE hP => ?_
    have hPs := hP _ _ _ _ rfl hs_bk hcn hA_bk _ (m_VR fb (fb 4) (fb 5)) hs_se (fun i hi => by rw [hA_se i (by omega), hVs i hi])
    obtain rfl := hPs
    replace hs_bk := y_Efld hE hY_this rfl (by decide) (by decide) hs_bk
    replace hs_se := y_Efld hE hY_this rfl (by decide) (by decide) hs_se
    replace hA_bk := hA_bk.kept (y_Earr hE hY_bk rfl (by decide))
    replace hA_se := hA_se.kept (y_Earr hE hY_se rfl (by decide))
    replace hY_this := y_ext hx_ hI.1 hY_this
    replace hY_bk := y_ext hx_ hI.1 hY_bk
    replace hY_se := y_ext hx_ hI.1 hY_se
    generalize hg_r84 : m_b (m_lw (m_VR fb (fb 4) (fb 5)) k (fb 0).toInt.toNat) = r84
    clear ho hr ha hE hP hI hx_
    rename x_I _ _ _ _ _ _ _ _ _ _ => hI
    refine lv_if_eq hx hb moX_d87 (tgt := 110) (by decide) (fun q87 => ?_) (fun q87 => ?_)
    · have q87_ : r84.toInt = (0 : Int32).toInt := by rw [q87]
      obtain ⟨z110, hg_z110⟩ : ∃ z110 : Int32, k + Int32.ofInt 1 = z110 := ⟨_, rfl⟩
      have h_z110 : z110.toInt = k.toInt + 1 := by rw [← hg_z110]; exact y_inc (by decide) (by omega) (by omega)
      refine lv_iinc hx hb moX_d110 hl (k := 1) rfl hg_z110 (by decide) (lv' := [(4, .int z110), (5, .int wi), (3, .int al), (0, .ref this), (1, .int h), (2, .int t)]) rfl fun ls hl => ?_
      refine lv_goto hx hb moX_d113 (tgt := 37) (by decide) ?_
      have his : z110.toInt.toNat = k.toInt.toNat + 1 := by omega
      have hnk := m_nj hk.1
      exact out37 _ _ _ _ _ _ _ hI hY_this hY_bk hY_se hs_bk hs_se hA_bk hA_se (lv_sub hl [0, 2, 3, 4, 5] rfl) (by first | assumption | omega) (by first | assumption | omega) (by rw [his]; first | (rw [m_fd_F (show m_mL fb h k.toInt.toNat = false by unfold m_mL; rw [m_b0 (hwi.symm.trans (by assumption)), Bool.false_and])]; exact hal) | (rw [m_fd_F (show m_mL fb h k.toInt.toNat = false by unfold m_mL; rw [hnk, m_b0 (hg_r84.trans q87), Bool.and_false])]; exact hal) | (rw [m_fd_T (show m_mL fb h k.toInt.toNat = true by unfold m_mL; rw [m_bn (fun q => q78 (hwi.trans q)), hnk, m_bn (fun q => q87 (hg_r84.symm.trans q))]; rfl), ← hal]; unfold m_mSt; rw [hnk]; first | (rw [if_pos (Or.inl (by assumption))]) | (rw [if_pos (Or.inr (by rw [hg_r97, hg_r101]; assumption))]) | (rw [if_neg (fun h9 => by rcases h9 with h9 | h9; exact absurd h9 (by assumption); rw [hg_r97, hg_r101] at h9; omega)]))) (by first | assumption | omega)
    · have q87_ : ¬ r84.toInt = (0 : Int32).toInt := fun q => q87 (Int32.toInt_inj.mp q)
      refine lv_iload_n hx hb moX_d90 rfl (lv_at hl 2 rfl) ?_
      refine lv_iconst hx hb moX_d91 (v := (-1)) (by decide) ?_
      have ecm1 : ((-1) : Int32).toInt = (-1) := by decide
      refine lv_icmp_eq hx hb moX_d92 (tgt := 107) (by decide) (fun q92 => ?_) (fun q92 => ?_)
      · have q92_ : al.toInt = ((-1) : Int32).toInt := by rw [q92]
        refine lv_iload hx hb moX_d107 (lv_at hl 1 rfl) ?_
        refine lv_istore_n hx hb moX_d109 rfl hl (by decide) (lv' := [(3, .int k), (5, .int wi), (4, .int k), (0, .ref this), (1, .int h), (2, .int t)]) rfl fun ls hl => ?_
        obtain ⟨z110, hg_z110⟩ : ∃ z110 : Int32, k + Int32.ofInt 1 = z110 := ⟨_, rfl⟩
        have h_z110 : z110.toInt = k.toInt + 1 := by rw [← hg_z110]; exact y_inc (by decide) (by omega) (by omega)
        refine lv_iinc hx hb moX_d110 hl (k := 2) rfl hg_z110 (by decide) (lv' := [(4, .int z110), (3, .int k), (5, .int wi), (0, .ref this), (1, .int h), (2, .int t)]) rfl fun ls hl => ?_
        refine lv_goto hx hb moX_d113 (tgt := 37) (by decide) ?_
        have his : z110.toInt.toNat = k.toInt.toNat + 1 := by omega
        have hnk := m_nj hk.1
        exact out37 _ _ _ _ _ _ _ hI hY_this hY_bk hY_se hs_bk hs_se hA_bk hA_se (lv_sub hl [0, 1, 3, 4, 5] rfl) (by first | assumption | omega) (by first | assumption | omega) (by rw [his]; first | (rw [m_fd_F (show m_mL fb h k.toInt.toNat = false by unfold m_mL; rw [m_b0 (hwi.symm.trans (by assumption)), Bool.false_and])]; exact hal) | (rw [m_fd_F (show m_mL fb h k.toInt.toNat = false by unfold m_mL; rw [hnk, m_b0 (hg_r84.trans q87), Bool.and_false])]; exact hal) | (rw [m_fd_T (show m_mL fb h k.toInt.toNat = true by unfold m_mL; rw [m_bn (fun q => q78 (hwi.trans q)), hnk, m_bn (fun q => q87 (hg_r84.symm.trans q))]; rfl), ← hal]; unfold m_mSt; rw [hnk]; first | (rw [if_pos (Or.inl (by assumption))]) | (rw [if_pos (Or.inr (by rw [hg_r97, hg_r101]; assumption))]) | (rw [if_neg (fun h9 => by rcases h9 with h9 | h9; exact absurd h9 (by assumption); rw [hg_r97, hg_r101] at h9; omega)]))) (by first | assumption | omega)
      · have q92_ : ¬ al.toInt = ((-1) : Int32).toInt := fun q => q92 (Int32.toInt_inj.mp q)
        refine lv_iload hx hb moX_d95 (lv_at hl 1 rfl) ?_
        refine y_call (z := (1, 148, 1, none, xM189)) (av := [.int k]) (rest := []) (y_cokS (n := 1) X ym_bits (x_cons (x_bw78 4 rfl rfl) (x_cons (x_bw78 5 rfl rfl) (x_cons (x_bw0 9 rfl rfl) x_nilm))) (x_bw78 6 rfl rfl) (by decide +kernel) ⟨Nat.le_of_ble_eq_true rfl, Nat.le_of_ble_eq_true rfl⟩) hY0 hI rfl moX_d97 hl.1 (Nat.le_of_ble_eq_true rfl) (Nat.le_of_ble_eq_true rfl) (Nat.le_of_ble_eq_true rfl) (y_cons ⟨_, rfl, x_i32 _⟩ y_nil) rfl (y_norecv rfl) trivial (y_sub_ef rfl) fun v Yn o Hn L ho hr ha hIn hx_ hE hP => ?_
        have hPb9 := hP _ rfl
        obtain rfl := hPb9
        replace hs_bk := y_Efld hE hY_this rfl (by decide) (by decide) hs_bk
        replace hs_se := y_Efld hE hY_this rfl (by decide) (by decide) hs_se
        replace hA_bk := hA_bk.kept (y_Earr hE hY_bk rfl (by decide))
        replace hA_se := hA_se.kept (y_Earr hE hY_se rfl (by decide))
        replace hY_this := y_ext hx_ hI.1 hY_this
        replace hY_bk := y_ext hx_ hI.1 hY_bk
        replace hY_se := y_ext hx_ hI.1 hY_se
        generalize hg_r97 : z_bits k = r97
        clear ho hr ha hE hP hI hx_
        rename x_I _ _ _ _ _ _ _ _ _ _ => hI
        refine lv_iload_n hx hb moX_d100 rfl (lv_at hl 2 rfl) ?_
        refine y_call (z := (1, 148, 1, none, xM189)) (av := [.int al]) (rest := [.int r97]) (y_cokS (n := 1) X ym_bits (x_cons (x_bw78 4 rfl rfl) (x_cons (x_bw78 5 rfl rfl) (x_cons (x_bw0 9 rfl rfl) x_nilm))) (x_bw78 6 rfl rfl) (by decide +kernel) ⟨Nat.le_of_ble_eq_true rfl, Nat.le_of_ble_eq_true rfl⟩) hY0 hI rfl moX_d101 hl.1 (Nat.le_of_ble_eq_true rfl) (Nat.le_of_ble_eq_true rfl) (Nat.le_of_ble_eq_true rfl) (y_cons ⟨_, rfl, x_i32 _⟩ y_nil) rfl (y_norecv rfl) trivial (y_sub_ef rfl) fun v Yn o Hn L ho hr ha hIn hx_ hE hP => ?_
        have hPb9 := hP _ rfl
        obtain rfl := hPb9
        replace hs_bk := y_Efld hE hY_this rfl (by decide) (by decide) hs_bk
        replace hs_se := y_Efld hE hY_this rfl (by decide) (by decide) hs_se
        replace hA_bk := hA_bk.kept (y_Earr hE hY_bk rfl (by decide))
        replace hA_se := hA_se.kept (y_Earr hE hY_se rfl (by decide))
        replace hY_this := y_ext hx_ hI.1 hY_this
        replace hY_bk := y_ext hx_ hI.1 hY_bk
        replace hY_se := y_ext hx_ hI.1 hY_se
        generalize hg_r101 : z_bits al = r101
        clear ho hr ha hE hP hI hx_
        rename x_I _ _ _ _ _ _ _ _ _ _ => hI
        refine lv_icmp_le hx hb moX_d104 (tgt := 110) (by decide) (fun q104 => ?_) (fun q104 => ?_)
        · have q104_ : r97.toInt ≤ r101.toInt := x_le32.mp q104
          obtain ⟨z110, hg_z110⟩ : ∃ z110 : Int32, k + Int32.ofInt 1 = z110 := ⟨_, rfl⟩
          have h_z110 : z110.toInt = k.toInt + 1 := by rw [← hg_z110]; exact y_inc (by decide) (by omega) (by omega)
          refine lv_iinc hx hb moX_d110 hl (k := 1) rfl hg_z110 (by decide) (lv' := [(4, .int z110), (5, .int wi), (3, .int al), (0, .ref this), (1, .int h), (2, .int t)]) rfl fun ls hl => ?_
          refine lv_goto hx hb moX_d113 (tgt := 37) (by decide) ?_
          have his : z110.toInt.toNat = k.toInt.toNat + 1 := by omega
          have hnk := m_nj hk.1
          exact out37 _ _ _ _ _ _ _ hI hY_this hY_bk hY_se hs_bk hs_se hA_bk hA_se (lv_sub hl [0, 2, 3, 4, 5] rfl) (by first | assumption | omega) (by first | assumption | omega) (by rw [his]; first | (rw [m_fd_F (show m_mL fb h k.toInt.toNat = false by unfold m_mL; rw [m_b0 (hwi.symm.trans (by assumption)), Bool.false_and])]; exact hal) | (rw [m_fd_F (show m_mL fb h k.toInt.toNat = false by unfold m_mL; rw [hnk, m_b0 (hg_r84.trans q87), Bool.and_false])]; exact hal) | (rw [m_fd_T (show m_mL fb h k.toInt.toNat = true by unfold m_mL; rw [m_bn (fun q => q78 (hwi.trans q)), hnk, m_bn (fun q => q87 (hg_r84.symm.trans q))]; rfl), ← hal]; unfold m_mSt; rw [hnk]; first | (rw [if_pos (Or.inl (by assumption))]) | (rw [if_pos (Or.inr (by rw [hg_r97, hg_r101]; assumption))]) | (rw [if_neg (fun h9 => by rcases h9 with h9 | h9; exact absurd h9 (by assumption); rw [hg_r97, hg_r101] at h9; omega)]))) (by first | assumption | omega)
        · have q104_ : r101.toInt < r97.toInt := Int.not_le.mp fun q => q104 (x_le32.mpr q)
          refine lv_iload hx hb moX_d107 (lv_at hl 1 rfl) ?_
          refine lv_istore_n hx hb moX_d109 rfl hl (by decide) (lv' := [(3, .int k), (5, .int wi), (4, .int k), (0, .ref this), (1, .int h), (2, .int t)]) rfl fun ls hl => ?_
          obtain ⟨z110, hg_z110⟩ : ∃ z110 : Int32, k + Int32.ofInt 1 = z110 := ⟨_, rfl⟩
          have h_z110 : z110.toInt = k.toInt + 1 := by rw [← hg_z110]; exact y_inc (by decide) (by omega) (by omega)
          refine lv_iinc hx hb moX_d110 hl (k := 2) rfl hg_z110 (by decide) (lv' := [(4, .int z110), (3, .int k), (5, .int wi), (0, .ref this), (1, .int h), (2, .int t)]) rfl fun ls hl => ?_
          refine lv_goto hx hb moX_d113 (tgt := 37) (by decide) ?_
          have his : z110.toInt.toNat = k.toInt.toNat + 1 := by omega
          have hnk := m_nj hk.1
          exact out37 _ _ _ _ _ _ _ hI hY_this hY_bk hY_se hs_bk hs_se hA_bk hA_se (lv_sub hl [0, 1, 3, 4, 5] rfl) (by first | assumption | omega) (by first | assumption | omega) (by rw [his]; first | (rw [m_fd_F (show m_mL fb h k.toInt.toNat = false by unfold m_mL; rw [m_b0 (hwi.symm.trans (by assumption)), Bool.false_and])]; exact hal) | (rw [m_fd_F (show m_mL fb h k.toInt.toNat = false by unfold m_mL; rw [hnk, m_b0 (hg_r84.trans q87), Bool.and_false])]; exact hal) | (rw [m_fd_T (show m_mL fb h k.toInt.toNat = true by unfold m_mL; rw [m_bn (fun q => q78 (hwi.trans q)), hnk, m_bn (fun q => q87 (hg_r84.symm.trans q))]; rfl), ← hal]; unfold m_mSt; rw [hnk]; first | (rw [if_pos (Or.inl (by assumption))]) | (rw [if_pos (Or.inr (by rw [hg_r97, hg_r101]; assumption))]) | (rw [if_neg (fun h9 => by rcases h9 with h9 | h9; exact absurd h9 (by assumption); rw [hg_r97, hg_r101] at h9; omega)]))) (by first | assumption | omega)
theorem moX_L37 {p : Program} {l : Launch} {e : Env} {s : State} {m : MethodId} {below : List Frame} {meth : Method} {c : Code} {D : va_G} {U : State} {Y0 : xY} {av : List Value} (B : y_B vwCl x_Tb x_Nb xM192 p s m meth c D U Y0 av) {this bk se : Nat} {h t : Int32} {fb : Nat → Int32} (hav : av = [.ref this, .int h, .int t]) (hs0 : x_sl D 12 0 this s.heap = some (.ref bk)) (hA0 : y_A bk 160 s.heap fb) (hcn : z_c fb) (hd0 : 0 ≤ (fb 0).toInt ∧ (fb 0).toInt ≤ 10) (hok : m_amOk fb h t)  :
    ∀ (n : Nat), ∀ (H : Heap) (Y : xY) (locs : List Loc) (ls : Array Slot) (k : Int32) (al : Int32) (fs : Nat → Int32), x_I D x_G x_Zs U (x_efs xM192) Y0 s.heap Y H locs → Y this = some 17 → Y bk = some 46 → Y se = some 51 → x_sl D 12 0 this H = some (.ref bk) → x_sl D 12 8 this H = some (.ref se) → y_A bk 160 H fb → y_A se 10 H fs → lv_has ls xM192.2.2.1 [(4, .int k), (3, .int al), (0, .ref this), (1, .int h), (2, .int t)] → (0 ≤ k.toInt ∧ k.toInt ≤ (z_all (fb 0)).toInt + 1) → (∀ i, i < (fb 0).toInt.toNat → fs i = (m_VR fb (fb 4) (fb 5)) i) → (al = m_fd (m_mL fb h) m_mSt (-1) k.toInt.toNat) → (1025 - k.toInt).toNat < n → W p l e (x_rm xM192) s m av.toArray below meth c H locs 0 0 (y_QQ below D x_G x_Zs U xM192 z_PMmo av Y0 s) (F0 m 37 ls []) := by
  have X := B.1
  have hx := X.1
  have hb := X.2.1
  have hY0 := B.2.2.2.2.1
  intro n
  induction n with
  | zero => intro _ _ _ _ _ _ _ _ _ _ _ _ _ _ _ _ _ _ _ h; exact absurd h (Nat.not_lt_zero _)
  | succ n ih =>
    intro H Y locs ls k al fs hI hY_this hY_bk hY_se hs_bk hs_se hA_bk hA_se hl hk hVs hal hn
    have hz9 := z_all_p hd0
    have hpw : 2 ^ (fb 0).toInt.toNat ≤ 1024 := Nat.pow_le_pow_right (n := 2) (by decide) (show (fb 0).toInt.toNat ≤ 10 by omega)
    refine lv_iload hx hb moX_d37 (lv_at hl 0 rfl) ?_
    refine lv_aload_n hx hb moX_d39 rfl (lv_at hl 2 rfl) ?_
    refine y_call (z := (0, 91, 1, some 17, xM182)) (av := [.ref this]) (rest := [.int k]) (y_cokV (n := 0) (ci := 12) X ym_all rfl rfl rfl (x_cons (x_bw77 4 rfl rfl) (x_cons (x_bw77 6 rfl rfl) (x_cons (x_at 49 (by decide +kernel) rfl) (x_cons (x_bw0 9 rfl rfl) x_nilm)))) (x_bw77 7 rfl rfl) (by decide +kernel) ⟨Nat.le_of_ble_eq_true rfl, Nat.le_of_ble_eq_true rfl⟩) hY0 hI rfl moX_d40 hl.1 (Nat.le_of_ble_eq_true rfl) (Nat.le_of_ble_eq_true rfl) (Nat.le_of_ble_eq_true rfl) (y_cons (y_cref hY_this rfl) y_nil) rfl (y_recv rfl hY_this) trivial (y_sub_ef rfl) fun v Yn o Hn L ho hr ha hIn hx_ hE hP => ?_
    have hPv := hP _ _ _ rfl hs_bk (hA_bk 0 (by decide))
    replace hs_bk := y_Efld hE hY_this rfl (by decide) (by decide) hs_bk
    replace hs_se := y_Efld hE hY_this rfl (by decide) (by decide) hs_se
    replace hA_bk := hA_bk.kept (y_Earr hE hY_bk rfl (by decide))
    replace hA_se := hA_se.kept (y_Earr hE hY_se rfl (by decide))
    replace hY_this := y_ext hx_ hI.1 hY_this
    replace hY_bk := y_ext hx_ hI.1 hY_bk
    replace hY_se := y_ext hx_ hI.1 hY_se
    obtain rfl := hPv
    clear ho hr ha hE hP hI hx_
    rename x_I _ _ _ _ _ _ _ _ _ _ => hI
    refine lv_icmp_gt hx hb moX_d43 (tgt := 116) (by decide) (fun q43 => ?_) (fun q43 => ?_)
    · have q43_ : (z_all (fb 0)).toInt < k.toInt := x_lt32.mp q43
      refine lv_iload_n hx hb moX_d116 rfl (lv_at hl 1 rfl) ?_
      refine lv_iconst hx hb moX_d117 (v := (-1)) (by decide) ?_
      have ecm1 : ((-1) : Int32).toInt = (-1) := by decide
      refine lv_icmp_ne hx hb moX_d118 (tgt := 128) (by decide) (fun q118 => ?_) (fun q118 => ?_)
      · have q118_ : ¬ al.toInt = ((-1) : Int32).toInt := fun q => q118 (Int32.toInt_inj.mp q)
        refine lv_iload_n hx hb moX_d128 rfl (lv_at hl 4 rfl) ?_
        have ec0 : (0 : Int32).toInt = 0 := by decide
        refine lv_if_ne hx hb moX_d129 (tgt := 139) (by decide) (fun q129 => ?_) (fun q129 => ?_)
        · have q129_ : ¬ t.toInt = (0 : Int32).toInt := fun q => q129 (Int32.toInt_inj.mp q)
          refine lv_iload_n hx hb moX_d139 rfl (lv_at hl 1 rfl) ?_
          have hfin : m_mB fb h = al := by rw [hal]; unfold m_mB; rw [show k.toInt.toNat = 2 ^ (fb 0).toInt.toNat by omega]
          subst hav
          exact y_ireturn B hI rfl rfl rfl List.mem_cons_self ⟨_, rfl, ⟨_, rfl, x_i32 _⟩⟩ (x_cs.mono B.2.2.2.2.2 (y_mon B hI)) (fun t' b' w0' w1' f' h1 h2 h3 h4 => by cases h1; cases h2.symm.trans hs0; cases z_uniq h4 hA0 h3 hcn; exact ⟨_, rfl, fun _ => ⟨fun q9 => absurd (hfin.symm.trans q9) (by assumption), fun _ => ⟨fun q9 => absurd q9 (by assumption), fun _ => hfin.symm⟩⟩, fun q9 => absurd hok q9⟩) (Nat.le_refl _) (Nat.le_refl _) moX_d140
        · have q129_ : t.toInt = (0 : Int32).toInt := by rw [q129]
          refine lv_iload_n hx hb moX_d132 rfl (lv_at hl 1 rfl) ?_
          refine y_call (z := (1, 148, 1, none, xM189)) (av := [.int al]) (rest := []) (y_cokS (n := 1) X ym_bits (x_cons (x_bw78 4 rfl rfl) (x_cons (x_bw78 5 rfl rfl) (x_cons (x_bw0 9 rfl rfl) x_nilm))) (x_bw78 6 rfl rfl) (by decide +kernel) ⟨Nat.le_of_ble_eq_true rfl, Nat.le_of_ble_eq_true rfl⟩) hY0 hI rfl moX_d133 hl.1 (Nat.le_of_ble_eq_true rfl) (Nat.le_of_ble_eq_true rfl) (Nat.le_of_ble_eq_true rfl) (y_cons ⟨_, rfl, x_i32 _⟩ y_nil) rfl (y_norecv rfl) trivial (y_sub_ef rfl) fun v Yn o Hn L ho hr ha hIn hx_ hE hP => ?_
          have hPb9 := hP _ rfl
          obtain rfl := hPb9
          replace hs_bk := y_Efld hE hY_this rfl (by decide) (by decide) hs_bk
          replace hs_se := y_Efld hE hY_this rfl (by decide) (by decide) hs_se
          replace hA_bk := hA_bk.kept (y_Earr hE hY_bk rfl (by decide))
          replace hA_se := hA_se.kept (y_Earr hE hY_se rfl (by decide))
          replace hY_this := y_ext hx_ hI.1 hY_this
          replace hY_bk := y_ext hx_ hI.1 hY_bk
          replace hY_se := y_ext hx_ hI.1 hY_se
          generalize hg_r133 : z_bits al = r133
          clear ho hr ha hE hP hI hx_
          rename x_I _ _ _ _ _ _ _ _ _ _ => hI
          refine lv_goto hx hb moX_d136 (tgt := 140) (by decide) ?_
          have hfin : m_mB fb h = al := by rw [hal]; unfold m_mB; rw [show k.toInt.toNat = 2 ^ (fb 0).toInt.toNat by omega]
          subst hav
          exact y_ireturn B hI rfl rfl rfl List.mem_cons_self ⟨_, rfl, ⟨_, rfl, x_i32 _⟩⟩ (x_cs.mono B.2.2.2.2.2 (y_mon B hI)) (fun t' b' w0' w1' f' h1 h2 h3 h4 => by cases h1; cases h2.symm.trans hs0; cases z_uniq h4 hA0 h3 hcn; exact ⟨_, rfl, fun _ => ⟨fun q9 => absurd (hfin.symm.trans q9) (by assumption), fun _ => ⟨fun _ => by rw [hfin, hg_r133], fun q9 => absurd (by assumption) q9⟩⟩, fun q9 => absurd hok q9⟩) (Nat.le_refl _) (Nat.le_refl _) moX_d140
      · have q118_ : al.toInt = ((-1) : Int32).toInt := by rw [q118]
        refine lv_aload_n hx hb moX_d121 rfl (lv_at hl 2 rfl) ?_
        refine y_call (z := (0, 126, 1, some 17, xM164)) (av := [.ref this]) (rest := []) (y_cokV (n := 0) (ci := 12) X ym_no rfl rfl rfl (x_cons (x_bw70 11 rfl rfl) (x_cons (x_bw70 13 rfl rfl) (x_cons (x_at 38 (by decide +kernel) rfl) (x_cons (x_bw0 9 rfl rfl) x_nilm)))) (x_bw70 14 rfl rfl) (by decide +kernel) ⟨Nat.le_of_ble_eq_true rfl, Nat.le_of_ble_eq_true rfl⟩) hY0 hI rfl moX_d122 hl.1 (Nat.le_of_ble_eq_true rfl) (Nat.le_of_ble_eq_true rfl) (Nat.le_of_ble_eq_true rfl) (y_cons (y_cref hY_this rfl) y_nil) rfl (y_recv rfl hY_this) trivial (y_sub_ef rfl) fun v Yn o Hn L ho hr ha hIn hx_ hE hP => ?_
        replace hs_bk := y_Efld hE hY_this rfl (by decide) (by decide) hs_bk
        replace hs_se := y_Efld hE hY_this rfl (by decide) (by decide) hs_se
        replace hA_bk := hA_bk.kept (y_Earr hE hY_bk rfl (by decide))
        replace hA_se := hA_se.kept (y_Earr hE hY_se rfl (by decide))
        replace hY_this := y_ext hx_ hI.1 hY_this
        replace hY_bk := y_ext hx_ hI.1 hY_bk
        replace hY_se := y_ext hx_ hI.1 hY_se
        have hPb := hP
        obtain rfl := hPb
        clear ho hr ha hE hP hI hx_
        rename x_I _ _ _ _ _ _ _ _ _ _ => hI
        refine lv_goto hx hb moX_d125 (tgt := 140) (by decide) ?_
        have hfin : m_mB fb h = al := by rw [hal]; unfold m_mB; rw [show k.toInt.toNat = 2 ^ (fb 0).toInt.toNat by omega]
        subst hav
        exact y_ireturn B hI rfl rfl rfl List.mem_cons_self ⟨_, rfl, ⟨_, rfl, x_i32 _⟩⟩ (x_cs.mono B.2.2.2.2.2 (y_mon B hI)) (fun t' b' w0' w1' f' h1 h2 h3 h4 => by cases h1; cases h2.symm.trans hs0; cases z_uniq h4 hA0 h3 hcn; exact ⟨_, rfl, fun _ => ⟨fun _ => rfl, fun q9 => absurd (hfin.trans (by assumption)) q9⟩, fun q9 => absurd hok q9⟩) (Nat.le_refl _) (Nat.le_refl _) moX_d140
    · have q43_ : k.toInt ≤ (z_all (fb 0)).toInt := Int.not_lt.mp fun q => q43 (x_lt32.mpr q)
      refine lv_iload_n hx hb moX_d46 rfl (lv_at hl 3 rfl) ?_
      refine lv_iconst hx hb moX_d47 (v := (-1)) (by decide) ?_
      have ecm1 : ((-1) : Int32).toInt = (-1) := by decide
      refine lv_icmp_eq hx hb moX_d48 (tgt := 69) (by decide) (fun q48 => ?_) (fun q48 => ?_)
      · have q48_ : h.toInt = ((-1) : Int32).toInt := by rw [q48]
        refine lv_iconst hx hb moX_d69 (v := 1) (by decide) ?_
        have ec1 : (1 : Int32).toInt = 1 := by decide
        refine lv_goto hx hb moX_d70 (tgt := 74) (by decide) ?_
        refine lv_istore hx hb moX_d74 hl (by decide) (lv' := [(5, .int (1 : Int32)), (4, .int k), (3, .int al), (0, .ref this), (1, .int h), (2, .int t)]) rfl fun ls hl => ?_
        have hnk := m_nj hk.1
        exact moX_L76 B hav hs0 hA0 hcn hd0 hok (by first | assumption | omega) (fun H Y locs ls k1 al1 fs hI hY_this hY_bk hY_se hs_bk hs_se hA_bk hA_se hl hk hVs hal h_k1 => ih _ _ _ _ _ _ _ hI hY_this hY_bk hY_se hs_bk hs_se hA_bk hA_se hl hk hVs hal (by omega)) _ _ _ _ _ _ _ hI hY_this hY_bk hY_se hs_bk hs_se hA_bk hA_se (lv_sub hl [0, 1, 2, 3, 4, 5] rfl) (by first | assumption | omega) (by show _ = m_b (m_mw h k.toInt.toNat); unfold m_mw; rw [hnk]; first | (rw [show h = -1 from by assumption]; rfl) | (rw [decide_eq_false (show ¬ h = -1 by assumption), Bool.false_or]; (first | (rw [if_pos (show h.toInt < 0 by omega)]) | (rw [if_neg (show ¬ h.toInt < 0 by omega)])); rw [hg_z62, hg_z64]; first | (rw [show z64 = 1 from by assumption]; rfl) | (rw [decide_eq_false (show ¬ z64 = 1 by assumption)]; rfl))) (by first | assumption | omega)
      · have q48_ : ¬ h.toInt = ((-1) : Int32).toInt := fun q => q48 (Int32.toInt_inj.mp q)
        refine lv_iload hx hb moX_d51 (lv_at hl 0 rfl) ?_
        refine lv_iload_n hx hb moX_d53 rfl (lv_at hl 3 rfl) ?_
        have ec0 : (0 : Int32).toInt = 0 := by decide
        refine lv_if_ge hx hb moX_d54 (tgt := 61) (by decide) (fun q54 => ?_) (fun q54 => ?_)
        · have q54_ : (0 : Int32).toInt ≤ h.toInt := x_le32.mp q54
          refine lv_iload_n hx hb moX_d61 rfl (lv_at hl 3 rfl) ?_
          refine lv_ishr hx hb moX_d62 ?_
          generalize hg_z62 : k >>> (h &&& 31) = z62
          refine lv_iconst hx hb moX_d63 (v := 1) (by decide) ?_
          have ec1 : (1 : Int32).toInt = 1 := by decide
          refine lv_iand hx hb moX_d64 ?_
          generalize hg_z64 : z62 &&& (1 : Int32) = z64
          refine lv_iconst hx hb moX_d65 (v := 1) (by decide) ?_
          refine lv_icmp_ne hx hb moX_d66 (tgt := 73) (by decide) (fun q66 => ?_) (fun q66 => ?_)
          · have q66_ : ¬ z64.toInt = (1 : Int32).toInt := fun q => q66 (Int32.toInt_inj.mp q)
            refine lv_iconst hx hb moX_d73 (v := 0) (by decide) ?_
            refine lv_istore hx hb moX_d74 hl (by decide) (lv' := [(5, .int (0 : Int32)), (4, .int k), (3, .int al), (0, .ref this), (1, .int h), (2, .int t)]) rfl fun ls hl => ?_
            have hnk := m_nj hk.1
            exact moX_L76 B hav hs0 hA0 hcn hd0 hok (by first | assumption | omega) (fun H Y locs ls k1 al1 fs hI hY_this hY_bk hY_se hs_bk hs_se hA_bk hA_se hl hk hVs hal h_k1 => ih _ _ _ _ _ _ _ hI hY_this hY_bk hY_se hs_bk hs_se hA_bk hA_se hl hk hVs hal (by omega)) _ _ _ _ _ _ _ hI hY_this hY_bk hY_se hs_bk hs_se hA_bk hA_se (lv_sub hl [0, 1, 2, 3, 4, 5] rfl) (by first | assumption | omega) (by show _ = m_b (m_mw h k.toInt.toNat); unfold m_mw; rw [hnk]; first | (rw [show h = -1 from by assumption]; rfl) | (rw [decide_eq_false (show ¬ h = -1 by assumption), Bool.false_or]; (first | (rw [if_pos (show h.toInt < 0 by omega)]) | (rw [if_neg (show ¬ h.toInt < 0 by omega)])); rw [hg_z62, hg_z64]; first | (rw [show z64 = 1 from by assumption]; rfl) | (rw [decide_eq_false (show ¬ z64 = 1 by assumption)]; rfl))) (by first | assumption | omega)
          · have q66_ : z64.toInt = (1 : Int32).toInt := by rw [q66]
            refine lv_iconst hx hb moX_d69 (v := 1) (by decide) ?_
            refine lv_goto hx hb moX_d70 (tgt := 74) (by decide) ?_
            refine lv_istore hx hb moX_d74 hl (by decide) (lv' := [(5, .int (1 : Int32)), (4, .int k), (3, .int al), (0, .ref this), (1, .int h), (2, .int t)]) rfl fun ls hl => ?_
            have hnk := m_nj hk.1
            exact moX_L76 B hav hs0 hA0 hcn hd0 hok (by first | assumption | omega) (fun H Y locs ls k1 al1 fs hI hY_this hY_bk hY_se hs_bk hs_se hA_bk hA_se hl hk hVs hal h_k1 => ih _ _ _ _ _ _ _ hI hY_this hY_bk hY_se hs_bk hs_se hA_bk hA_se hl hk hVs hal (by omega)) _ _ _ _ _ _ _ hI hY_this hY_bk hY_se hs_bk hs_se hA_bk hA_se (lv_sub hl [0, 1, 2, 3, 4, 5] rfl) (by first | assumption | omega) (by show _ = m_b (m_mw h k.toInt.toNat); unfold m_mw; rw [hnk]; first | (rw [show h = -1 from by assumption]; rfl) | (rw [decide_eq_false (show ¬ h = -1 by assumption), Bool.false_or]; (first | (rw [if_pos (show h.toInt < 0 by omega)]) | (rw [if_neg (show ¬ h.toInt < 0 by omega)])); rw [hg_z62, hg_z64]; first | (rw [show z64 = 1 from by assumption]; rfl) | (rw [decide_eq_false (show ¬ z64 = 1 by assumption)]; rfl))) (by first | assumption | omega)
        · have q54_ : h.toInt < (0 : Int32).toInt := Int.not_le.mp fun q => q54 (x_le32.mpr q)
          refine lv_iconst hx hb moX_d57 (v := 0) (by decide) ?_
          refine lv_goto hx hb moX_d58 (tgt := 62) (by decide) ?_
          refine lv_ishr hx hb moX_d62 ?_
          generalize hg_z62 : k >>> ((0 : Int32) &&& 31) = z62
          refine lv_iconst hx hb moX_d63 (v := 1) (by decide) ?_
          have ec1 : (1 : Int32).toInt = 1 := by decide
          refine lv_iand hx hb moX_d64 ?_
          generalize hg_z64 : z62 &&& (1 : Int32) = z64
          refine lv_iconst hx hb moX_d65 (v := 1) (by decide) ?_
          refine lv_icmp_ne hx hb moX_d66 (tgt := 73) (by decide) (fun q66 => ?_) (fun q66 => ?_)
          · have q66_ : ¬ z64.toInt = (1 : Int32).toInt := fun q => q66 (Int32.toInt_inj.mp q)
            refine lv_iconst hx hb moX_d73 (v := 0) (by decide) ?_
            refine lv_istore hx hb moX_d74 hl (by decide) (lv' := [(5, .int (0 : Int32)), (4, .int k), (3, .int al), (0, .ref this), (1, .int h), (2, .int t)]) rfl fun ls hl => ?_
            have hnk := m_nj hk.1
            exact moX_L76 B hav hs0 hA0 hcn hd0 hok (by first | assumption | omega) (fun H Y locs ls k1 al1 fs hI hY_this hY_bk hY_se hs_bk hs_se hA_bk hA_se hl hk hVs hal h_k1 => ih _ _ _ _ _ _ _ hI hY_this hY_bk hY_se hs_bk hs_se hA_bk hA_se hl hk hVs hal (by omega)) _ _ _ _ _ _ _ hI hY_this hY_bk hY_se hs_bk hs_se hA_bk hA_se (lv_sub hl [0, 1, 2, 3, 4, 5] rfl) (by first | assumption | omega) (by show _ = m_b (m_mw h k.toInt.toNat); unfold m_mw; rw [hnk]; first | (rw [show h = -1 from by assumption]; rfl) | (rw [decide_eq_false (show ¬ h = -1 by assumption), Bool.false_or]; (first | (rw [if_pos (show h.toInt < 0 by omega)]) | (rw [if_neg (show ¬ h.toInt < 0 by omega)])); rw [hg_z62, hg_z64]; first | (rw [show z64 = 1 from by assumption]; rfl) | (rw [decide_eq_false (show ¬ z64 = 1 by assumption)]; rfl))) (by first | assumption | omega)
          · have q66_ : z64.toInt = (1 : Int32).toInt := by rw [q66]
            refine lv_iconst hx hb moX_d69 (v := 1) (by decide) ?_
            refine lv_goto hx hb moX_d70 (tgt := 74) (by decide) ?_
            refine lv_istore hx hb moX_d74 hl (by decide) (lv' := [(5, .int (1 : Int32)), (4, .int k), (3, .int al), (0, .ref this), (1, .int h), (2, .int t)]) rfl fun ls hl => ?_
            have hnk := m_nj hk.1
            exact moX_L76 B hav hs0 hA0 hcn hd0 hok (by first | assumption | omega) (fun H Y locs ls k1 al1 fs hI hY_this hY_bk hY_se hs_bk hs_se hA_bk hA_se hl hk hVs hal h_k1 => ih _ _ _ _ _ _ _ hI hY_this hY_bk hY_se hs_bk hs_se hA_bk hA_se hl hk hVs hal (by omega)) _ _ _ _ _ _ _ hI hY_this hY_bk hY_se hs_bk hs_se hA_bk hA_se (lv_sub hl [0, 1, 2, 3, 4, 5] rfl) (by first | assumption | omega) (by show _ = m_b (m_mw h k.toInt.toNat); unfold m_mw; rw [hnk]; first | (rw [show h = -1 from by assumption]; rfl) | (rw [decide_eq_false (show ¬ h = -1 by assumption), Bool.false_or]; (first | (rw [if_pos (show h.toInt < 0 by omega)]) | (rw [if_neg (show ¬ h.toInt < 0 by omega)])); rw [hg_z62, hg_z64]; first | (rw [show z64 = 1 from by assumption]; rfl) | (rw [decide_eq_false (show ¬ z64 = 1 by assumption)]; rfl))) (by first | assumption | omega)
theorem ym_mostM : y_Met vwCl x_G x_Zs x_Tb x_Nb xM192 y_T z_PMmo := by
  refine y_main (by decide +kernel) (by decide +kernel) x_Tb_good x_Nb_ok ?_
  intro p l e s m below meth c D U Y0 av ls B hI _ hl
  have X := B.1
  have hx := X.1
  have hb := X.2.1
  have hY0 := B.2.2.2.2.1
  obtain ⟨v0, v1, v2, rfl, hv0, ⟨h, rfl, -⟩, ⟨t, rfl, -⟩⟩ := y_three B.2.2.2.2.2
  obtain ⟨this, t0, rfl, ht0, hY_this⟩ := x_ref_at hv0 rfl
  obtain rfl := List.mem_singleton.mp ht0
  replace hl : lv_has ls xM192.2.2.1 [(0, .ref this), (1, .int h), (2, .int t)] := hl
  obtain ⟨bk, hs_bk, hY_bk⟩ := y_fldR (k := 0) hI.1 hY_this rfl rfl
  obtain ⟨fb9, hA9, hB9⟩ := y_arr hI.1 hY_bk rfl rfl
  obtain ⟨fb, hcn, hA_bk, hB_bk⟩ := z_canon (Y := Y0) (P := fun j v => x_c Y0 ([xI 0 10, xI 0 8, xI 0 8].getD j xF) (.int v)) hA9 hB9
  clear hA9 hB9 fb9
  have hs0 := hs_bk
  have hA0 := hA_bk
  have hd := z_hdr hB_bk
  have hd0 := hd.1
  have hd1 := hd.2.1
  obtain ⟨se, hs_se, hY_se⟩ := y_fldR (k := 8) hI.1 hY_this rfl rfl
  refine lv_iload_n hx hb moX_d0 rfl (lv_at hl 1 rfl) ?_
  refine lv_iconst hx hb moX_d1 (v := (-1)) (by decide) ?_
  have ecm1 : ((-1) : Int32).toInt = (-1) := by decide
  refine lv_icmp_eq hx hb moX_d2 (tgt := 13) (by decide) (fun q2 => ?_) (fun q2 => ?_)
  · have q2_ : h.toInt = ((-1) : Int32).toInt := by rw [q2]
    refine lv_iload_n hx hb moX_d13 rfl (lv_at hl 2 rfl) ?_
    obtain ⟨z14, hg_z14⟩ : ∃ z14 : Int64, t.toInt64 = z14 := ⟨_, rfl⟩
    have h_z14 : z14.toInt = (t).toInt := by rw [← hg_z14]; exact Int32.toInt_toInt64 _
    refine lv_i2l hx hb moX_d14 (v := z14) hg_z14 ?_
    refine lv_lconst hx hb moX_d15 (v := 0) (by decide) ?_
    have el0 : (0 : Int64).toInt = 0 := by decide
    refine lv_lconst hx hb moX_d16 (v := 1) (by decide) ?_
    have el1 : (1 : Int64).toInt = 1 := by decide
    refine y_call (z := (1, 87, 3, none, xM148)) (av := [.long z14, .long (0 : Int64), .long (1 : Int64)]) (rest := []) (y_cokS (n := 3) X ym_in (x_cons (x_bw67 11 rfl rfl) (x_cons (x_bw67 12 rfl rfl) (x_cons (x_bw0 9 rfl rfl) x_nilm))) (x_bw67 13 rfl rfl) (by decide +kernel) ⟨Nat.le_of_ble_eq_true rfl, Nat.le_of_ble_eq_true rfl⟩) hY0 hI rfl moX_d17 hl.1 (Nat.le_of_ble_eq_true rfl) (Nat.le_of_ble_eq_true rfl) (Nat.le_of_ble_eq_true rfl) (y_cons ⟨_, rfl, x_i64 _⟩ (y_cons ⟨_, rfl, x_i64 _⟩ (y_cons ⟨_, rfl, x_i64 _⟩ y_nil))) rfl (y_norecv rfl) trivial (y_sub_ef rfl) fun v Yn o Hn L ho hr ha hIn hx_ hE hP => ?_
    replace hs_bk := y_Efld hE hY_this rfl (by decide) (by decide) hs_bk
    replace hs_se := y_Efld hE hY_this rfl (by decide) (by decide) hs_se
    replace hA_bk := hA_bk.kept (y_Earr hE hY_bk rfl (by decide))
    replace hY_this := y_ext hx_ hI.1 hY_this
    replace hY_bk := y_ext hx_ hI.1 hY_bk
    replace hY_se := y_ext hx_ hI.1 hY_se
    obtain ⟨r17, rfl, hin_r17, hout_r17⟩ := z_inR2 (hP _ _ _ rfl)
    clear ho hr ha hE hP hI hx_
    rename x_I _ _ _ _ _ _ _ _ _ _ => hI
    have ec0 : (0 : Int32).toInt = 0 := by decide
    refine lv_if_ne hx hb moX_d20 (tgt := 28) (by decide) (fun q20 => ?_) (fun q20 => ?_)
    · have q20_ : ¬ r17.toInt = (0 : Int32).toInt := fun q => q20 (Int32.toInt_inj.mp q)
      have hw9 := hin_r17 (by assumption)
      have hok : m_amOk fb h t := ⟨by first | exact Or.inl (by assumption) | exact Or.inr (hin_r7 (by assumption)), by omega, by omega⟩
      have hz9 := z_all_p hd0
      refine lv_aload_n hx hb moX_d28 rfl (lv_at hl 0 rfl) ?_
      refine y_call (z := (0, 240, 1, some 17, xM186)) (av := [.ref this]) (rest := []) (y_cokV (n := 0) (ci := 12) X ym_looksNow rfl rfl rfl (x_cons (x_bw77 8 rfl rfl) (x_cons (x_bw77 10 rfl rfl) (x_cons (x_at 50 (by decide +kernel) rfl) (x_cons (x_bw0 9 rfl rfl) x_nilm)))) (x_bw77 11 rfl rfl) (by decide +kernel) ⟨Nat.le_of_ble_eq_true rfl, Nat.le_of_ble_eq_true rfl⟩) hY0 hI rfl moX_d29 hl.1 (Nat.le_of_ble_eq_true rfl) (Nat.le_of_ble_eq_true rfl) (Nat.le_of_ble_eq_true rfl) (y_cons (y_cref hY_this rfl) y_nil) rfl (y_recv rfl hY_this) trivial (y_sub_ef rfl) fun v Yn o Hn L ho hr ha hIn hx_ hE hP => ?_
      have hPs := hP _ _ _ rfl hs_bk hcn hA_bk _ hs_se
      replace hs_bk := y_Efld hE hY_this rfl (by decide) (by decide) hs_bk
      replace hs_se := y_Efld hE hY_this rfl (by decide) (by decide) hs_se
      replace hA_bk := hA_bk.kept (y_Earr hE hY_bk rfl (by decide))
      replace hY_this := y_ext hx_ hI.1 hY_this
      replace hY_bk := y_ext hx_ hI.1 hY_bk
      replace hY_se := y_ext hx_ hI.1 hY_se
      obtain rfl := y_ansV rfl ho hr
      obtain ⟨fs, hA_se, -⟩ := y_arr hIn.1 hY_se rfl rfl
      have hVs : ∀ i, i < (fb 0).toInt.toNat → fs i = (m_VR fb (fb 4) (fb 5)) i := fun i hi => z_intI (hA_se i (by omega)) (hPs i hi)
      clear ho hr ha hE hP hI hx_
      rename x_I _ _ _ _ _ _ _ _ _ _ => hI
      refine lv_iconst hx hb moX_d32 (v := (-1)) (by decide) ?_
      refine lv_istore_n hx hb moX_d33 rfl hl (by decide) (lv' := [(3, .int ((-1) : Int32)), (0, .ref this), (1, .int h), (2, .int t)]) rfl fun ls hl => ?_
      refine lv_iconst hx hb moX_d34 (v := 0) (by decide) ?_
      refine lv_istore hx hb moX_d35 hl (by decide) (lv' := [(4, .int (0 : Int32)), (3, .int ((-1) : Int32)), (0, .ref this), (1, .int h), (2, .int t)]) rfl fun ls hl => ?_
      exact moX_L37 B rfl hs0 hA0 hcn hd0 hok 1026 _ _ _ _ _ _ _ hI hY_this hY_bk hY_se hs_bk hs_se hA_bk hA_se (lv_sub hl [0, 1, 2, 3, 4] rfl) ⟨by decide, by have h9 := (z_all_b hd0).1; rw [m_c0]; omega⟩ (by first | assumption | omega) rfl (by omega)
    · have q20_ : r17.toInt = (0 : Int32).toInt := by rw [q20]
      have hno : ¬ m_amOk fb h t := fun q9 => by first | (have h8 := hout_r17 (by assumption); have h7 := q9.2; omega) | (rcases q9.1 with h8 | h8; exact absurd h8 (by assumption); exact hout_r7 (by assumption) h8)
      refine lv_aload_n hx hb moX_d23 rfl (lv_at hl 0 rfl) ?_
      refine y_call (z := (0, 102, 1, some 17, xM143)) (av := [.ref this]) (rest := []) (y_cokV (n := 0) (ci := 12) X ym_bad rfl rfl rfl (x_cons (x_bw68 3 rfl rfl) (x_cons (x_bw68 5 rfl rfl) (x_cons (x_at 32 (by decide +kernel) rfl) (x_cons (x_bw0 9 rfl rfl) x_nilm)))) (x_bw68 6 rfl rfl) (by decide +kernel) ⟨Nat.le_of_ble_eq_true rfl, Nat.le_of_ble_eq_true rfl⟩) hY0 hI rfl moX_d24 hl.1 (Nat.le_of_ble_eq_true rfl) (Nat.le_of_ble_eq_true rfl) (Nat.le_of_ble_eq_true rfl) (y_cons (y_cref hY_this rfl) y_nil) rfl (y_recv rfl hY_this) trivial (y_sub_ef rfl) fun v Yn o Hn L ho hr ha hIn hx_ hE hP => ?_
      replace hs_bk := y_Efld hE hY_this rfl (by decide) (by decide) hs_bk
      replace hs_se := y_Efld hE hY_this rfl (by decide) (by decide) hs_se
      replace hA_bk := hA_bk.kept (y_Earr hE hY_bk rfl (by decide))
      replace hY_this := y_ext hx_ hI.1 hY_this
      replace hY_bk := y_ext hx_ hI.1 hY_bk
      replace hY_se := y_ext hx_ hI.1 hY_se
      have hPb := hP
      obtain rfl := hPb
      clear ho hr ha hE hP hI hx_
      rename x_I _ _ _ _ _ _ _ _ _ _ => hI
      exact y_ireturn B hI rfl rfl rfl List.mem_cons_self ⟨_, rfl, ⟨_, rfl, x_i32 _⟩⟩ (x_cs.mono B.2.2.2.2.2 (y_mon B hI)) (fun t' b' w0' w1' f' h1 h2 h3 h4 => by cases h1; cases h2.symm.trans hs0; cases z_uniq h4 hA0 h3 hcn; exact ⟨_, rfl, fun q9 => absurd q9 hno, fun _ => rfl⟩) (Nat.le_refl _) (Nat.le_refl _) moX_d27
  · have q2_ : ¬ h.toInt = ((-1) : Int32).toInt := fun q => q2 (Int32.toInt_inj.mp q)
    refine lv_aload_n hx hb moX_d5 rfl (lv_at hl 0 rfl) ?_
    refine lv_iload_n hx hb moX_d6 rfl (lv_at hl 1 rfl) ?_
    refine y_call (z := (0, 151, 2, some 17, xM171)) (av := [.ref this, .int h]) (rest := []) (y_cokV (n := 1) (ci := 12) X ym_isHillX rfl rfl rfl (x_cons (x_bw72 2 rfl rfl) (x_cons (x_bw72 4 rfl rfl) (x_cons (x_at 40 (by decide +kernel) rfl) (x_cons (x_bw0 9 rfl rfl) x_nilm)))) (x_bw72 5 rfl rfl) (by decide +kernel) ⟨Nat.le_of_ble_eq_true rfl, Nat.le_of_ble_eq_true rfl⟩) hY0 hI rfl moX_d7 hl.1 (Nat.le_of_ble_eq_true rfl) (Nat.le_of_ble_eq_true rfl) (Nat.le_of_ble_eq_true rfl) (y_cons (y_cref hY_this rfl) (y_cons ⟨_, rfl, x_i32 _⟩ y_nil)) rfl (y_recv rfl hY_this) trivial (y_sub_ef rfl) fun v Yn o Hn L ho hr ha hIn hx_ hE hP => ?_
    have hPq := hP _ _ _ _ rfl hs_bk hcn hA_bk
    replace hs_bk := y_Efld hE hY_this rfl (by decide) (by decide) hs_bk
    replace hs_se := y_Efld hE hY_this rfl (by decide) (by decide) hs_se
    replace hA_bk := hA_bk.kept (y_Earr hE hY_bk rfl (by decide))
    replace hY_this := y_ext hx_ hI.1 hY_this
    replace hY_bk := y_ext hx_ hI.1 hY_bk
    replace hY_se := y_ext hx_ hI.1 hY_se
    obtain ⟨r7, rfl, hin_r7, hout_r7⟩ := hPq
    clear ho hr ha hE hP hI hx_
    rename x_I _ _ _ _ _ _ _ _ _ _ => hI
    have ec0 : (0 : Int32).toInt = 0 := by decide
    refine lv_if_eq hx hb moX_d10 (tgt := 23) (by decide) (fun q10 => ?_) (fun q10 => ?_)
    · have q10_ : r7.toInt = (0 : Int32).toInt := by rw [q10]
      have hno : ¬ m_amOk fb h t := fun q9 => by first | (have h8 := hout_r17 (by assumption); have h7 := q9.2; omega) | (rcases q9.1 with h8 | h8; exact absurd h8 (by assumption); exact hout_r7 (by assumption) h8)
      refine lv_aload_n hx hb moX_d23 rfl (lv_at hl 0 rfl) ?_
      refine y_call (z := (0, 102, 1, some 17, xM143)) (av := [.ref this]) (rest := []) (y_cokV (n := 0) (ci := 12) X ym_bad rfl rfl rfl (x_cons (x_bw68 3 rfl rfl) (x_cons (x_bw68 5 rfl rfl) (x_cons (x_at 32 (by decide +kernel) rfl) (x_cons (x_bw0 9 rfl rfl) x_nilm)))) (x_bw68 6 rfl rfl) (by decide +kernel) ⟨Nat.le_of_ble_eq_true rfl, Nat.le_of_ble_eq_true rfl⟩) hY0 hI rfl moX_d24 hl.1 (Nat.le_of_ble_eq_true rfl) (Nat.le_of_ble_eq_true rfl) (Nat.le_of_ble_eq_true rfl) (y_cons (y_cref hY_this rfl) y_nil) rfl (y_recv rfl hY_this) trivial (y_sub_ef rfl) fun v Yn o Hn L ho hr ha hIn hx_ hE hP => ?_
      replace hs_bk := y_Efld hE hY_this rfl (by decide) (by decide) hs_bk
      replace hs_se := y_Efld hE hY_this rfl (by decide) (by decide) hs_se
      replace hA_bk := hA_bk.kept (y_Earr hE hY_bk rfl (by decide))
      replace hY_this := y_ext hx_ hI.1 hY_this
      replace hY_bk := y_ext hx_ hI.1 hY_bk
      replace hY_se := y_ext hx_ hI.1 hY_se
      have hPb := hP
      obtain rfl := hPb
      clear ho hr ha hE hP hI hx_
      rename x_I _ _ _ _ _ _ _ _ _ _ => hI
      exact y_ireturn B hI rfl rfl rfl List.mem_cons_self ⟨_, rfl, ⟨_, rfl, x_i32 _⟩⟩ (x_cs.mono B.2.2.2.2.2 (y_mon B hI)) (fun t' b' w0' w1' f' h1 h2 h3 h4 => by cases h1; cases h2.symm.trans hs0; cases z_uniq h4 hA0 h3 hcn; exact ⟨_, rfl, fun q9 => absurd q9 hno, fun _ => rfl⟩) (Nat.le_refl _) (Nat.le_refl _) moX_d27
    · have q10_ : ¬ r7.toInt = (0 : Int32).toInt := fun q => q10 (Int32.toInt_inj.mp q)
      refine lv_iload_n hx hb moX_d13 rfl (lv_at hl 2 rfl) ?_
      obtain ⟨z14, hg_z14⟩ : ∃ z14 : Int64, t.toInt64 = z14 := ⟨_, rfl⟩
      have h_z14 : z14.toInt = (t).toInt := by rw [← hg_z14]; exact Int32.toInt_toInt64 _
      refine lv_i2l hx hb moX_d14 (v := z14) hg_z14 ?_
      refine lv_lconst hx hb moX_d15 (v := 0) (by decide) ?_
      have el0 : (0 : Int64).toInt = 0 := by decide
      refine lv_lconst hx hb moX_d16 (v := 1) (by decide) ?_
      have el1 : (1 : Int64).toInt = 1 := by decide
      refine y_call (z := (1, 87, 3, none, xM148)) (av := [.long z14, .long (0 : Int64), .long (1 : Int64)]) (rest := []) (y_cokS (n := 3) X ym_in (x_cons (x_bw67 11 rfl rfl) (x_cons (x_bw67 12 rfl rfl) (x_cons (x_bw0 9 rfl rfl) x_nilm))) (x_bw67 13 rfl rfl) (by decide +kernel) ⟨Nat.le_of_ble_eq_true rfl, Nat.le_of_ble_eq_true rfl⟩) hY0 hI rfl moX_d17 hl.1 (Nat.le_of_ble_eq_true rfl) (Nat.le_of_ble_eq_true rfl) (Nat.le_of_ble_eq_true rfl) (y_cons ⟨_, rfl, x_i64 _⟩ (y_cons ⟨_, rfl, x_i64 _⟩ (y_cons ⟨_, rfl, x_i64 _⟩ y_nil))) rfl (y_norecv rfl) trivial (y_sub_ef rfl) fun v Yn o Hn L ho hr ha hIn hx_ hE hP => ?_
      replace hs_bk := y_Efld hE hY_this rfl (by decide) (by decide) hs_bk
      replace hs_se := y_Efld hE hY_this rfl (by decide) (by decide) hs_se
      replace hA_bk := hA_bk.kept (y_Earr hE hY_bk rfl (by decide))
      replace hY_this := y_ext hx_ hI.1 hY_this
      replace hY_bk := y_ext hx_ hI.1 hY_bk
      replace hY_se := y_ext hx_ hI.1 hY_se
      obtain ⟨r17, rfl, hin_r17, hout_r17⟩ := z_inR2 (hP _ _ _ rfl)
      clear ho hr ha hE hP hI hx_
      rename x_I _ _ _ _ _ _ _ _ _ _ => hI
      refine lv_if_ne hx hb moX_d20 (tgt := 28) (by decide) (fun q20 => ?_) (fun q20 => ?_)
      · have q20_ : ¬ r17.toInt = (0 : Int32).toInt := fun q => q20 (Int32.toInt_inj.mp q)
        have hw9 := hin_r17 (by assumption)
        have hok : m_amOk fb h t := ⟨by first | exact Or.inl (by assumption) | exact Or.inr (hin_r7 (by assumption)), by omega, by omega⟩
        have hz9 := z_all_p hd0
        refine lv_aload_n hx hb moX_d28 rfl (lv_at hl 0 rfl) ?_
        refine y_call (z := (0, 240, 1, some 17, xM186)) (av := [.ref this]) (rest := []) (y_cokV (n := 0) (ci := 12) X ym_looksNow rfl rfl rfl (x_cons (x_bw77 8 rfl rfl) (x_cons (x_bw77 10 rfl rfl) (x_cons (x_at 50 (by decide +kernel) rfl) (x_cons (x_bw0 9 rfl rfl) x_nilm)))) (x_bw77 11 rfl rfl) (by decide +kernel) ⟨Nat.le_of_ble_eq_true rfl, Nat.le_of_ble_eq_true rfl⟩) hY0 hI rfl moX_d29 hl.1 (Nat.le_of_ble_eq_true rfl) (Nat.le_of_ble_eq_true rfl) (Nat.le_of_ble_eq_true rfl) (y_cons (y_cref hY_this rfl) y_nil) rfl (y_recv rfl hY_this) trivial (y_sub_ef rfl) fun v Yn o Hn L ho hr ha hIn hx_ hE hP => ?_
        have hPs := hP _ _ _ rfl hs_bk hcn hA_bk _ hs_se
        replace hs_bk := y_Efld hE hY_this rfl (by decide) (by decide) hs_bk
        replace hs_se := y_Efld hE hY_this rfl (by decide) (by decide) hs_se
        replace hA_bk := hA_bk.kept (y_Earr hE hY_bk rfl (by decide))
        replace hY_this := y_ext hx_ hI.1 hY_this
        replace hY_bk := y_ext hx_ hI.1 hY_bk
        replace hY_se := y_ext hx_ hI.1 hY_se
        obtain rfl := y_ansV rfl ho hr
        obtain ⟨fs, hA_se, -⟩ := y_arr hIn.1 hY_se rfl rfl
        have hVs : ∀ i, i < (fb 0).toInt.toNat → fs i = (m_VR fb (fb 4) (fb 5)) i := fun i hi => z_intI (hA_se i (by omega)) (hPs i hi)
        clear ho hr ha hE hP hI hx_
        rename x_I _ _ _ _ _ _ _ _ _ _ => hI
        refine lv_iconst hx hb moX_d32 (v := (-1)) (by decide) ?_
        refine lv_istore_n hx hb moX_d33 rfl hl (by decide) (lv' := [(3, .int ((-1) : Int32)), (0, .ref this), (1, .int h), (2, .int t)]) rfl fun ls hl => ?_
        refine lv_iconst hx hb moX_d34 (v := 0) (by decide) ?_
        refine lv_istore hx hb moX_d35 hl (by decide) (lv' := [(4, .int (0 : Int32)), (3, .int ((-1) : Int32)), (0, .ref this), (1, .int h), (2, .int t)]) rfl fun ls hl => ?_
        exact moX_L37 B rfl hs0 hA0 hcn hd0 hok 1026 _ _ _ _ _ _ _ hI hY_this hY_bk hY_se hs_bk hs_se hA_bk hA_se (lv_sub hl [0, 1, 2, 3, 4] rfl) ⟨by decide, by have h9 := (z_all_b hd0).1; rw [m_c0]; omega⟩ (by first | assumption | omega) rfl (by omega)
      · have q20_ : r17.toInt = (0 : Int32).toInt := by rw [q20]
        have hno : ¬ m_amOk fb h t := fun q9 => by first | (have h8 := hout_r17 (by assumption); have h7 := q9.2; omega) | (rcases q9.1 with h8 | h8; exact absurd h8 (by assumption); exact hout_r7 (by assumption) h8)
        refine lv_aload_n hx hb moX_d23 rfl (lv_at hl 0 rfl) ?_
        refine y_call (z := (0, 102, 1, some 17, xM143)) (av := [.ref this]) (rest := []) (y_cokV (n := 0) (ci := 12) X ym_bad rfl rfl rfl (x_cons (x_bw68 3 rfl rfl) (x_cons (x_bw68 5 rfl rfl) (x_cons (x_at 32 (by decide +kernel) rfl) (x_cons (x_bw0 9 rfl rfl) x_nilm)))) (x_bw68 6 rfl rfl) (by decide +kernel) ⟨Nat.le_of_ble_eq_true rfl, Nat.le_of_ble_eq_true rfl⟩) hY0 hI rfl moX_d24 hl.1 (Nat.le_of_ble_eq_true rfl) (Nat.le_of_ble_eq_true rfl) (Nat.le_of_ble_eq_true rfl) (y_cons (y_cref hY_this rfl) y_nil) rfl (y_recv rfl hY_this) trivial (y_sub_ef rfl) fun v Yn o Hn L ho hr ha hIn hx_ hE hP => ?_
        replace hs_bk := y_Efld hE hY_this rfl (by decide) (by decide) hs_bk
        replace hs_se := y_Efld hE hY_this rfl (by decide) (by decide) hs_se
        replace hA_bk := hA_bk.kept (y_Earr hE hY_bk rfl (by decide))
        replace hY_this := y_ext hx_ hI.1 hY_this
        replace hY_bk := y_ext hx_ hI.1 hY_bk
        replace hY_se := y_ext hx_ hI.1 hY_se
        have hPb := hP
        obtain rfl := hPb
        clear ho hr ha hE hP hI hx_
        rename x_I _ _ _ _ _ _ _ _ _ _ => hI
        exact y_ireturn B hI rfl rfl rfl List.mem_cons_self ⟨_, rfl, ⟨_, rfl, x_i32 _⟩⟩ (x_cs.mono B.2.2.2.2.2 (y_mon B hI)) (fun t' b' w0' w1' f' h1 h2 h3 h4 => by cases h1; cases h2.symm.trans hs0; cases z_uniq h4 hA0 h3 hcn; exact ⟨_, rfl, fun q9 => absurd q9 hno, fun _ => rfl⟩) (Nat.le_refl _) (Nat.le_refl _) moX_d27

