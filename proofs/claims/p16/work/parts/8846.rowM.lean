/-! lawful, most: the reference's loops over all sets -/
def m_laR (f : Nat → Int32) (n : Int32) (k : Nat) : Bool := (decide (n = -1) || decide (z_bits (nI k) = n)) && m_lw (m_VR f (f 4) (f 5)) (nI k) (f 0).toInt.toNat
def m_alR (f : Nat → Int32) (n r : Int32) : Prop := (-1 ≤ n.toInt ∧ n.toInt ≤ 10 → r.toInt = (m_cn (m_laR f n) (2 ^ (f 0).toInt.toNat) : Nat)) ∧ (¬ (-1 ≤ n.toInt ∧ n.toInt ≤ 10) → r = -2)
def m_mw (h : Int32) (k : Nat) : Bool := decide (h = -1) || decide ((nI k >>> ((if h.toInt < 0 then 0 else h) &&& 31)) &&& 1 = 1)
def m_mSt (s : Int32) (k : Nat) : Int32 := if s = -1 ∨ (z_bits s).toInt < (z_bits (nI k)).toInt then nI k else s
def m_mL (f : Nat → Int32) (h : Int32) (k : Nat) : Bool := m_mw h k && m_lw (m_VR f (f 4) (f 5)) (nI k) (f 0).toInt.toNat
def m_mB (f : Nat → Int32) (h : Int32) : Int32 := m_fd (m_mL f h) m_mSt (-1) (2 ^ (f 0).toInt.toNat)
def m_amR (f : Nat → Int32) (h t r : Int32) : Prop := (m_amOk f h t → (m_mB f h = -1 → r = -3) ∧ (¬ m_mB f h = -1 → (t = 0 → r = z_bits (m_mB f h)) ∧ (¬ t = 0 → r = m_mB f h))) ∧ (¬ m_amOk f h t → r = -2)
def z_PMla : yP := fun D av _ H v _ H' => ∀ (this bk : Nat) (nq : Int32) (f : Nat → Int32), av = [.ref this, .int nq] → x_sl D 12 0 this H = some (.ref bk) → z_c f → y_A bk 160 H f → ∃ r : Int32, v = some (.int r) ∧ m_alR f nq r
theorem laX_d0 : decode xM194.2.1 0 = .ok (.iload_n 1, 1) := dz_ok (by decide +kernel)
theorem laX_d1 : decode xM194.2.1 1 = .ok (.i2l, 1) := dz_ok (by decide +kernel)
theorem laX_d2 : decode xM194.2.1 2 = .ok (.ldc2_w 246, 3) := dz_ok (by decide +kernel)
theorem laX_d5 : decode xM194.2.1 5 = .ok (.ldc2_w 114, 3) := dz_ok (by decide +kernel)
theorem laX_d8 : decode xM194.2.1 8 = .ok (.invokestatic 87, 3) := dz_ok (by decide +kernel)
theorem laX_d11 : decode xM194.2.1 11 = .ok (.ifCond .ne 8, 3) := dz_ok (by decide +kernel)
theorem laX_d14 : decode xM194.2.1 14 = .ok (.aload_n 0, 1) := dz_ok (by decide +kernel)
theorem laX_d15 : decode xM194.2.1 15 = .ok (.invokevirtual 102, 3) := dz_ok (by decide +kernel)
theorem laX_d18 : decode xM194.2.1 18 = .ok (.ireturn, 1) := dz_ok (by decide +kernel)
theorem laX_d19 : decode xM194.2.1 19 = .ok (.aload_n 0, 1) := dz_ok (by decide +kernel)
theorem laX_d20 : decode xM194.2.1 20 = .ok (.invokevirtual 240, 3) := dz_ok (by decide +kernel)
theorem laX_d23 : decode xM194.2.1 23 = .ok (.iconst 0, 1) := dz_ok (by decide +kernel)
theorem laX_d24 : decode xM194.2.1 24 = .ok (.istore_n 2, 1) := dz_ok (by decide +kernel)
theorem laX_d25 : decode xM194.2.1 25 = .ok (.iconst 0, 1) := dz_ok (by decide +kernel)
theorem laX_d26 : decode xM194.2.1 26 = .ok (.istore_n 3, 1) := dz_ok (by decide +kernel)
theorem laX_d27 : decode xM194.2.1 27 = .ok (.iload_n 3, 1) := dz_ok (by decide +kernel)
theorem laX_d28 : decode xM194.2.1 28 = .ok (.aload_n 0, 1) := dz_ok (by decide +kernel)
theorem laX_d29 : decode xM194.2.1 29 = .ok (.invokevirtual 91, 3) := dz_ok (by decide +kernel)
theorem laX_d32 : decode xM194.2.1 32 = .ok (.if_icmp .gt 38, 3) := dz_ok (by decide +kernel)
theorem laX_d35 : decode xM194.2.1 35 = .ok (.iload_n 2, 1) := dz_ok (by decide +kernel)
theorem laX_d36 : decode xM194.2.1 36 = .ok (.iload_n 1, 1) := dz_ok (by decide +kernel)
theorem laX_d37 : decode xM194.2.1 37 = .ok (.iconst (-1), 1) := dz_ok (by decide +kernel)
theorem laX_d38 : decode xM194.2.1 38 = .ok (.if_icmp .eq 11, 3) := dz_ok (by decide +kernel)
theorem laX_d41 : decode xM194.2.1 41 = .ok (.iload_n 3, 1) := dz_ok (by decide +kernel)
theorem laX_d42 : decode xM194.2.1 42 = .ok (.invokestatic 148, 3) := dz_ok (by decide +kernel)
theorem laX_d45 : decode xM194.2.1 45 = .ok (.iload_n 1, 1) := dz_ok (by decide +kernel)
theorem laX_d46 : decode xM194.2.1 46 = .ok (.if_icmp .ne 15, 3) := dz_ok (by decide +kernel)
theorem laX_d49 : decode xM194.2.1 49 = .ok (.aload_n 0, 1) := dz_ok (by decide +kernel)
theorem laX_d50 : decode xM194.2.1 50 = .ok (.iload_n 3, 1) := dz_ok (by decide +kernel)
theorem laX_d51 : decode xM194.2.1 51 = .ok (.invokevirtual 243, 3) := dz_ok (by decide +kernel)
theorem laX_d54 : decode xM194.2.1 54 = .ok (.ifCond .eq 7, 3) := dz_ok (by decide +kernel)
theorem laX_d57 : decode xM194.2.1 57 = .ok (.iconst 1, 1) := dz_ok (by decide +kernel)
theorem laX_d58 : decode xM194.2.1 58 = .ok (.goto 4, 3) := dz_ok (by decide +kernel)
theorem laX_d61 : decode xM194.2.1 61 = .ok (.iconst 0, 1) := dz_ok (by decide +kernel)
theorem laX_d62 : decode xM194.2.1 62 = .ok (.iadd, 1) := dz_ok (by decide +kernel)
theorem laX_d63 : decode xM194.2.1 63 = .ok (.istore_n 2, 1) := dz_ok (by decide +kernel)
theorem laX_d64 : decode xM194.2.1 64 = .ok (.iinc 3 1, 3) := dz_ok (by decide +kernel)
theorem laX_d67 : decode xM194.2.1 67 = .ok (.goto (-40), 3) := dz_ok (by decide +kernel)
theorem laX_d70 : decode xM194.2.1 70 = .ok (.iload_n 2, 1) := dz_ok (by decide +kernel)
theorem laX_d71 : decode xM194.2.1 71 = .ok (.ireturn, 1) := dz_ok (by decide +kernel)
theorem laX_L27 {p : Program} {l : Launch} {e : Env} {s : State} {m : MethodId} {below : List Frame} {meth : Method} {c : Code} {D : va_G} {U : State} {Y0 : xY} {av : List Value} (B : y_B vwCl x_Tb x_Nb xM194 p s m meth c D U Y0 av) {this bk se : Nat} {nq : Int32} {fb : Nat → Int32} (hav : av = [.ref this, .int nq]) (hs0 : x_sl D 12 0 this s.heap = some (.ref bk)) (hA0 : y_A bk 160 s.heap fb) (hcn : z_c fb) (hd0 : 0 ≤ (fb 0).toInt ∧ (fb 0).toInt ≤ 10) (hok : -1 ≤ nq.toInt ∧ nq.toInt ≤ 10)  :
    ∀ (n : Nat), ∀ (H : Heap) (Y : xY) (locs : List Loc) (ls : Array Slot) (k : Int32) (al : Int32) (fs : Nat → Int32), x_I D x_G x_Zs U (x_efs xM194) Y0 s.heap Y H locs → Y this = some 17 → Y bk = some 46 → Y se = some 51 → x_sl D 12 0 this H = some (.ref bk) → x_sl D 12 8 this H = some (.ref se) → y_A bk 160 H fb → y_A se 10 H fs → lv_has ls xM194.2.2.1 [(3, .int k), (2, .int al), (0, .ref this), (1, .int nq)] → (0 ≤ k.toInt ∧ k.toInt ≤ (z_all (fb 0)).toInt + 1) → (∀ i, i < (fb 0).toInt.toNat → fs i = (m_VR fb (fb 4) (fb 5)) i) → (al.toInt = (m_cn (m_laR fb nq) k.toInt.toNat : Nat)) → (1025 - k.toInt).toNat < n → W p l e (x_rm xM194) s m av.toArray below meth c H locs 0 0 (y_QQ below D x_G x_Zs U xM194 z_PMla av Y0 s) (F0 m 27 ls []) := by
  have X := B.1
  have hx := X.1
  have hb := X.2.1
  have hY0 := B.2.2.2.2.1
  intro n
  induction n with
  | zero => intro _ _ _ _ _ _ _ _ _ _ _ _ _ _ _ _ _ _ _ h; exact absurd h (Nat.not_lt_zero _)
  | succ n ih =>
    intro H Y locs ls k al fs hI hY_this hY_bk hY_se hs_bk hs_se hA_bk hA_se hl hk hVs hal hn
    have hz9 := z_all_p hd0
    have hpw : 2 ^ (fb 0).toInt.toNat ≤ 1024 := Nat.pow_le_pow_right (n := 2) (by decide) (show (fb 0).toInt.toNat ≤ 10 by omega)
    have hcb := m_cn_b (L := m_laR fb nq) (k := k.toInt.toNat)
    refine lv_iload_n hx hb laX_d27 rfl (lv_at hl 0 rfl) ?_
    refine lv_aload_n hx hb laX_d28 rfl (lv_at hl 2 rfl) ?_
    refine y_call (z := (0, 91, 1, some 17, xM182)) (av := [.ref this]) (rest := [.int k]) (y_cokV (n := 0) (ci := 12) X ym_all rfl rfl rfl (x_cons (x_bw77 4 rfl rfl) (x_cons (x_bw77 6 rfl rfl) (x_cons (x_at 49 (by decide +kernel) rfl) (x_cons (x_bw0 9 rfl rfl) x_nilm)))) (x_bw77 7 rfl rfl) (by decide +kernel) ⟨Nat.le_of_ble_eq_true rfl, Nat.le_of_ble_eq_true rfl⟩) hY0 hI rfl laX_d29 hl.1 (Nat.le_of_ble_eq_true rfl) (Nat.le_of_ble_eq_true rfl) (Nat.le_of_ble_eq_true rfl) (y_cons (y_cref hY_this rfl) y_nil) rfl (y_recv rfl hY_this) trivial (y_sub_ef rfl) fun v Yn o Hn L ho hr ha hIn hx_ hE hP => ?_
    have hPv := hP _ _ _ rfl hs_bk (hA_bk 0 (by decide))
    replace hs_bk := y_Efld hE hY_this rfl (by decide) (by decide) hs_bk
    replace hs_se := y_Efld hE hY_this rfl (by decide) (by decide) hs_se
    replace hA_bk := hA_bk.kept (y_Earr hE hY_bk rfl (by decide))
    replace hA_se := hA_se.kept (y_Earr hE hY_se rfl (by decide))
    replace hY_this := y_ext hx_ hI.1 hY_this
    replace hY_bk := y_ext hx_ hI.1 hY_bk
    replace hY_se := y_ext hx_ hI.1 hY_se
    obtain rfl := hPv
    clear ho hr ha hE hP hI hx_
    rename x_I _ _ _ _ _ _ _ _ _ _ => hI
    refine lv_icmp_gt hx hb laX_d32 (tgt := 70) (by decide) (fun q32 => ?_) (fun q32 => ?_)
    · have q32_ : (z_all (fb 0)).toInt < k.toInt := x_lt32.mp q32
      refine lv_iload_n hx hb laX_d70 rfl (lv_at hl 1 rfl) ?_
      have ek : k.toInt.toNat = 2 ^ (fb 0).toInt.toNat := by omega
      rw [ek] at hal
      subst hav
      exact y_ireturn B hI rfl rfl rfl List.mem_cons_self ⟨_, rfl, ⟨_, rfl, x_i32 _⟩⟩ (x_cs.mono B.2.2.2.2.2 (y_mon B hI)) (fun t' b' w0' f' h1 h2 h3 h4 => by cases h1; cases h2.symm.trans hs0; cases z_uniq h4 hA0 h3 hcn; exact ⟨_, rfl, fun _ => hal, fun q9 => absurd hok q9⟩) (Nat.le_refl _) (Nat.le_refl _) laX_d71
    · have q32_ : k.toInt ≤ (z_all (fb 0)).toInt := Int.not_lt.mp fun q => q32 (x_lt32.mpr q)
      refine lv_iload_n hx hb laX_d35 rfl (lv_at hl 1 rfl) ?_
      refine lv_iload_n hx hb laX_d36 rfl (lv_at hl 3 rfl) ?_
      refine lv_iconst hx hb laX_d37 (v := (-1)) (by decide) ?_
      have ecm1 : ((-1) : Int32).toInt = (-1) := by decide
      refine lv_icmp_eq hx hb laX_d38 (tgt := 49) (by decide) (fun q38 => ?_) (fun q38 => ?_)
      · have q38_ : nq.toInt = ((-1) : Int32).toInt := by rw [q38]
        refine lv_aload_n hx hb laX_d49 rfl (lv_at hl 2 rfl) ?_
        refine lv_iload_n hx hb laX_d50 rfl (lv_at hl 0 rfl) ?_
        refine y_call (z := (0, 243, 2, some 17, xM191)) (av := [.ref this, .int k]) (rest := [.int al]) (y_cokV (n := 1) (ci := 12) X ym_isLawfulX rfl rfl rfl (x_cons (x_bw78 11 rfl rfl) (x_cons (x_bw78 13 rfl rfl) (x_cons (x_at 52 (by decide +kernel) rfl) (x_cons (x_bw0 9 rfl rfl) x_nilm)))) (x_bw78 14 rfl rfl) (by decide +kernel) ⟨Nat.le_of_ble_eq_true rfl, Nat.le_of_ble_eq_true rfl⟩) hY0 hI rfl laX_d51 hl.1 (Nat.le_of_ble_eq_true rfl) (Nat.le_of_ble_eq_true rfl) (Nat.le_of_ble_eq_true rfl) (y_cons (y_cref hY_this rfl) (y_cons ⟨_, rfl, x_i32 _⟩ y_nil)) rfl (y_recv rfl hY_this) trivial (y_sub_ef rfl) fun v Yn o Hn L ho hr ha hIn hx_ hE hP => ?_
        have hPs := hP _ _ _ _ rfl hs_bk hcn hA_bk _ (m_VR fb (fb 4) (fb 5)) hs_se (fun i hi => by rw [hA_se i (by omega), hVs i hi])
        obtain rfl := hPs
        replace hs_bk := y_Efld hE hY_this rfl (by decide) (by decide) hs_bk
        replace hs_se := y_Efld hE hY_this rfl (by decide) (by decide) hs_se
        replace hA_bk := hA_bk.kept (y_Earr hE hY_bk rfl (by decide))
        replace hA_se := hA_se.kept (y_Earr hE hY_se rfl (by decide))
        replace hY_this := y_ext hx_ hI.1 hY_this
        replace hY_bk := y_ext hx_ hI.1 hY_bk
        replace hY_se := y_ext hx_ hI.1 hY_se
        generalize hg_r51 : m_b (m_lw (m_VR fb (fb 4) (fb 5)) k (fb 0).toInt.toNat) = r51
        clear ho hr ha hE hP hI hx_
        rename x_I _ _ _ _ _ _ _ _ _ _ => hI
        have ec0 : (0 : Int32).toInt = 0 := by decide
        refine lv_if_eq hx hb laX_d54 (tgt := 61) (by decide) (fun q54 => ?_) (fun q54 => ?_)
        · have q54_ : r51.toInt = (0 : Int32).toInt := by rw [q54]
          refine lv_iconst hx hb laX_d61 (v := 0) (by decide) ?_
          refine lv_iadd hx hb laX_d62 ?_
          generalize hg_z62 : al + (0 : Int32) = z62
          have h_z62 : z62.toInt = al.toInt + 0 := by rw [← hg_z62]; have := y_add (x := al) (y := (0 : Int32)) (by rw [ec0]; omega) (by rw [ec0]; omega); rw [ec0] at this; exact this
          refine lv_istore_n hx hb laX_d63 rfl hl (by decide) (lv' := [(2, .int z62), (3, .int k), (0, .ref this), (1, .int nq)]) rfl fun ls hl => ?_
          obtain ⟨z64, hg_z64⟩ : ∃ z64 : Int32, k + Int32.ofInt 1 = z64 := ⟨_, rfl⟩
          have h_z64 : z64.toInt = k.toInt + 1 := by rw [← hg_z64]; exact y_inc (by decide) (by omega) (by omega)
          refine lv_iinc hx hb laX_d64 hl (k := 1) rfl hg_z64 (by decide) (lv' := [(3, .int z64), (2, .int z62), (0, .ref this), (1, .int nq)]) rfl fun ls hl => ?_
          refine lv_goto hx hb laX_d67 (tgt := 27) (by decide) ?_
          have his : z64.toInt.toNat = k.toInt.toNat + 1 := by omega
          have hnk := m_nj hk.1
          have hX : m_laR fb nq k.toInt.toNat = true ∧ z62.toInt = al.toInt + 1 ∨ m_laR fb nq k.toInt.toNat = false ∧ z62.toInt = al.toInt := by
            unfold m_laR
            rw [hnk]
            first | (exact Or.inl ⟨by rw [m_bn (fun q => q54 (hg_r51.symm.trans q)), show nq = -1 from by assumption]; rfl, by omega⟩) | (exact Or.inl ⟨by rw [m_bn (fun q => q54 (hg_r51.symm.trans q)), decide_eq_true (show z_bits k = nq from hg_r42.trans (by assumption)), Bool.or_true]; rfl, by omega⟩) | (exact Or.inr ⟨by rw [m_b0 (hg_r51.trans q54), Bool.and_false], by omega⟩) | (exact Or.inr ⟨by rw [decide_eq_false (show ¬ nq = -1 by assumption), decide_eq_false (show ¬ z_bits k = nq from fun q => absurd (hg_r42.symm.trans q) (by assumption))]; rfl, by omega⟩)
          exact ih _ _ _ _ _ _ _ hI hY_this hY_bk hY_se hs_bk hs_se hA_bk hA_se (lv_sub hl [0, 1, 2, 3] rfl) (by first | assumption | omega) (by first | assumption | omega) (by rw [his]; rcases hX with ⟨h1, h2⟩ | ⟨h1, h2⟩; (rw [m_cn_T h1]; omega); (rw [m_cn_F h1]; omega)) (by omega)
        · have q54_ : ¬ r51.toInt = (0 : Int32).toInt := fun q => q54 (Int32.toInt_inj.mp q)
          refine lv_iconst hx hb laX_d57 (v := 1) (by decide) ?_
          have ec1 : (1 : Int32).toInt = 1 := by decide
          refine lv_goto hx hb laX_d58 (tgt := 62) (by decide) ?_
          refine lv_iadd hx hb laX_d62 ?_
          generalize hg_z62 : al + (1 : Int32) = z62
          have h_z62 : z62.toInt = al.toInt + 1 := by rw [← hg_z62]; have := y_add (x := al) (y := (1 : Int32)) (by rw [ec1]; omega) (by rw [ec1]; omega); rw [ec1] at this; exact this
          refine lv_istore_n hx hb laX_d63 rfl hl (by decide) (lv' := [(2, .int z62), (3, .int k), (0, .ref this), (1, .int nq)]) rfl fun ls hl => ?_
          obtain ⟨z64, hg_z64⟩ : ∃ z64 : Int32, k + Int32.ofInt 1 = z64 := ⟨_, rfl⟩
          have h_z64 : z64.toInt = k.toInt + 1 := by rw [← hg_z64]; exact y_inc (by decide) (by omega) (by omega)
          refine lv_iinc hx hb laX_d64 hl (k := 1) rfl hg_z64 (by decide) (lv' := [(3, .int z64), (2, .int z62), (0, .ref this), (1, .int nq)]) rfl fun ls hl => ?_
          refine lv_goto hx hb laX_d67 (tgt := 27) (by decide) ?_
          have his : z64.toInt.toNat = k.toInt.toNat + 1 := by omega
          have hnk := m_nj hk.1
          have hX : m_laR fb nq k.toInt.toNat = true ∧ z62.toInt = al.toInt + 1 ∨ m_laR fb nq k.toInt.toNat = false ∧ z62.toInt = al.toInt := by
            unfold m_laR
            rw [hnk]
            first | (exact Or.inl ⟨by rw [m_bn (fun q => q54 (hg_r51.symm.trans q)), show nq = -1 from by assumption]; rfl, by omega⟩) | (exact Or.inl ⟨by rw [m_bn (fun q => q54 (hg_r51.symm.trans q)), decide_eq_true (show z_bits k = nq from hg_r42.trans (by assumption)), Bool.or_true]; rfl, by omega⟩) | (exact Or.inr ⟨by rw [m_b0 (hg_r51.trans q54), Bool.and_false], by omega⟩) | (exact Or.inr ⟨by rw [decide_eq_false (show ¬ nq = -1 by assumption), decide_eq_false (show ¬ z_bits k = nq from fun q => absurd (hg_r42.symm.trans q) (by assumption))]; rfl, by omega⟩)
          exact ih _ _ _ _ _ _ _ hI hY_this hY_bk hY_se hs_bk hs_se hA_bk hA_se (lv_sub hl [0, 1, 2, 3] rfl) (by first | assumption | omega) (by first | assumption | omega) (by rw [his]; rcases hX with ⟨h1, h2⟩ | ⟨h1, h2⟩; (rw [m_cn_T h1]; omega); (rw [m_cn_F h1]; omega)) (by omega)
      · have q38_ : ¬ nq.toInt = ((-1) : Int32).toInt := fun q => q38 (Int32.toInt_inj.mp q)
        refine lv_iload_n hx hb laX_d41 rfl (lv_at hl 0 rfl) ?_
        refine y_call (z := (1, 148, 1, none, xM189)) (av := [.int k]) (rest := [.int al]) (y_cokS (n := 1) X ym_bits (x_cons (x_bw78 4 rfl rfl) (x_cons (x_bw78 5 rfl rfl) (x_cons (x_bw0 9 rfl rfl) x_nilm))) (x_bw78 6 rfl rfl) (by decide +kernel) ⟨Nat.le_of_ble_eq_true rfl, Nat.le_of_ble_eq_true rfl⟩) hY0 hI rfl laX_d42 hl.1 (Nat.le_of_ble_eq_true rfl) (Nat.le_of_ble_eq_true rfl) (Nat.le_of_ble_eq_true rfl) (y_cons ⟨_, rfl, x_i32 _⟩ y_nil) rfl (y_norecv rfl) trivial (y_sub_ef rfl) fun v Yn o Hn L ho hr ha hIn hx_ hE hP => ?_
        have hPb9 := hP _ rfl
        obtain rfl := hPb9
        replace hs_bk := y_Efld hE hY_this rfl (by decide) (by decide) hs_bk
        replace hs_se := y_Efld hE hY_this rfl (by decide) (by decide) hs_se
        replace hA_bk := hA_bk.kept (y_Earr hE hY_bk rfl (by decide))
        replace hA_se := hA_se.kept (y_Earr hE hY_se rfl (by decide))
        replace hY_this := y_ext hx_ hI.1 hY_this
        replace hY_bk := y_ext hx_ hI.1 hY_bk
        replace hY_se := y_ext hx_ hI.1 hY_se
        generalize hg_r42 : z_bits k = r42
        clear ho hr ha hE hP hI hx_
        rename x_I _ _ _ _ _ _ _ _ _ _ => hI
        refine lv_iload_n hx hb laX_d45 rfl (lv_at hl 3 rfl) ?_
        refine lv_icmp_ne hx hb laX_d46 (tgt := 61) (by decide) (fun q46 => ?_) (fun q46 => ?_)
        · have q46_ : ¬ r42.toInt = nq.toInt := fun q => q46 (Int32.toInt_inj.mp q)
          refine lv_iconst hx hb laX_d61 (v := 0) (by decide) ?_
          have ec0 : (0 : Int32).toInt = 0 := by decide
          refine lv_iadd hx hb laX_d62 ?_
          generalize hg_z62 : al + (0 : Int32) = z62
          have h_z62 : z62.toInt = al.toInt + 0 := by rw [← hg_z62]; have := y_add (x := al) (y := (0 : Int32)) (by rw [ec0]; omega) (by rw [ec0]; omega); rw [ec0] at this; exact this
          refine lv_istore_n hx hb laX_d63 rfl hl (by decide) (lv' := [(2, .int z62), (3, .int k), (0, .ref this), (1, .int nq)]) rfl fun ls hl => ?_
          obtain ⟨z64, hg_z64⟩ : ∃ z64 : Int32, k + Int32.ofInt 1 = z64 := ⟨_, rfl⟩
          have h_z64 : z64.toInt = k.toInt + 1 := by rw [← hg_z64]; exact y_inc (by decide) (by omega) (by omega)
          refine lv_iinc hx hb laX_d64 hl (k := 1) rfl hg_z64 (by decide) (lv' := [(3, .int z64), (2, .int z62), (0, .ref this), (1, .int nq)]) rfl fun ls hl => ?_
          refine lv_goto hx hb laX_d67 (tgt := 27) (by decide) ?_
          have his : z64.toInt.toNat = k.toInt.toNat + 1 := by omega
          have hnk := m_nj hk.1
          have hX : m_laR fb nq k.toInt.toNat = true ∧ z62.toInt = al.toInt + 1 ∨ m_laR fb nq k.toInt.toNat = false ∧ z62.toInt = al.toInt := by
            unfold m_laR
            rw [hnk]
            first | (exact Or.inl ⟨by rw [m_bn (fun q => q54 (hg_r51.symm.trans q)), show nq = -1 from by assumption]; rfl, by omega⟩) | (exact Or.inl ⟨by rw [m_bn (fun q => q54 (hg_r51.symm.trans q)), decide_eq_true (show z_bits k = nq from hg_r42.trans (by assumption)), Bool.or_true]; rfl, by omega⟩) | (exact Or.inr ⟨by rw [m_b0 (hg_r51.trans q54), Bool.and_false], by omega⟩) | (exact Or.inr ⟨by rw [decide_eq_false (show ¬ nq = -1 by assumption), decide_eq_false (show ¬ z_bits k = nq from fun q => absurd (hg_r42.symm.trans q) (by assumption))]; rfl, by omega⟩)
          exact ih _ _ _ _ _ _ _ hI hY_this hY_bk hY_se hs_bk hs_se hA_bk hA_se (lv_sub hl [0, 1, 2, 3] rfl) (by first | assumption | omega) (by first | assumption | omega) (by rw [his]; rcases hX with ⟨h1, h2⟩ | ⟨h1, h2⟩; (rw [m_cn_T h1]; omega); (rw [m_cn_F h1]; omega)) (by omega)
        · have q46_ : r42.toInt = nq.toInt := by rw [q46]
          refine lv_aload_n hx hb laX_d49 rfl (lv_at hl 2 rfl) ?_
          refine lv_iload_n hx hb laX_d50 rfl (lv_at hl 0 rfl) ?_
          refine y_call (z := (0, 243, 2, some 17, xM191)) (av := [.ref this, .int k]) (rest := [.int al]) (y_cokV (n := 1) (ci := 12) X ym_isLawfulX rfl rfl rfl (x_cons (x_bw78 11 rfl rfl) (x_cons (x_bw78 13 rfl rfl) (x_cons (x_at 52 (by decide +kernel) rfl) (x_cons (x_bw0 9 rfl rfl) x_nilm)))) (x_bw78 14 rfl rfl) (by decide +kernel) ⟨Nat.le_of_ble_eq_true rfl, Nat.le_of_ble_eq_true rfl⟩) hY0 hI rfl laX_d51 hl.1 (Nat.le_of_ble_eq_true rfl) (Nat.le_of_ble_eq_true rfl) (Nat.le_of_ble_eq_true rfl) (y_cons (y_cref hY_this rfl) (y_cons ⟨_, rfl, x_i32 _⟩ y_nil)) rfl (y_recv rfl hY_this) trivial (y_sub_ef rfl) fun v Yn o Hn L ho hr ha hIn hx_ hE hP => ?_
          have hPs := hP _ _ _ _ rfl hs_bk hcn hA_bk _ (m_VR fb (fb 4) (fb 5)) hs_se (fun i hi => by rw [hA_se i (by omega), hVs i hi])
          obtain rfl := hPs
          replace hs_bk := y_Efld hE hY_this rfl (by decide) (by decide) hs_bk
          replace hs_se := y_Efld hE hY_this rfl (by decide) (by decide) hs_se
          replace hA_bk := hA_bk.kept (y_Earr hE hY_bk rfl (by decide))
          replace hA_se := hA_se.kept (y_Earr hE hY_se rfl (by decide))
          replace hY_this := y_ext hx_ hI.1 hY_this
          replace hY_bk := y_ext hx_ hI.1 hY_bk
          replace hY_se := y_ext hx_ hI.1 hY_se
          generalize hg_r51 : m_b (m_lw (m_VR fb (fb 4) (fb 5)) k (fb 0).toInt.toNat) = r51
          clear ho hr ha hE hP hI hx_
          rename x_I _ _ _ _ _ _ _ _ _ _ => hI
          have ec0 : (0 : Int32).toInt = 0 := by decide
          refine lv_if_eq hx hb laX_d54 (tgt := 61) (by decide) (fun q54 => ?_) (fun q54 => ?_)
          · have q54_ : r51.toInt = (0 : Int32).toInt := by rw [q54]
            refine lv_iconst hx hb laX_d61 (v := 0) (by decide) ?_
            refine lv_iadd hx hb laX_d62 ?_
            generalize hg_z62 : al + (0 : Int32) = z62
            have h_z62 : z62.toInt = al.toInt + 0 := by rw [← hg_z62]; have := y_add (x := al) (y := (0 : Int32)) (by rw [ec0]; omega) (by rw [ec0]; omega); rw [ec0] at this; exact this
            refine lv_istore_n hx hb laX_d63 rfl hl (by decide) (lv' := [(2, .int z62), (3, .int k), (0, .ref this), (1, .int nq)]) rfl fun ls hl => ?_
            obtain ⟨z64, hg_z64⟩ : ∃ z64 : Int32, k + Int32.ofInt 1 = z64 := ⟨_, rfl⟩
            have h_z64 : z64.toInt = k.toInt + 1 := by rw [← hg_z64]; exact y_inc (by decide) (by omega) (by omega)
            refine lv_iinc hx hb laX_d64 hl (k := 1) rfl hg_z64 (by decide) (lv' := [(3, .int z64), (2, .int z62), (0, .ref this), (1, .int nq)]) rfl fun ls hl => ?_
            refine lv_goto hx hb laX_d67 (tgt := 27) (by decide) ?_
            have his : z64.toInt.toNat = k.toInt.toNat + 1 := by omega
            have hnk := m_nj hk.1
            have hX : m_laR fb nq k.toInt.toNat = true ∧ z62.toInt = al.toInt + 1 ∨ m_laR fb nq k.toInt.toNat = false ∧ z62.toInt = al.toInt := by
              unfold m_laR
              rw [hnk]
              first | (exact Or.inl ⟨by rw [m_bn (fun q => q54 (hg_r51.symm.trans q)), show nq = -1 from by assumption]; rfl, by omega⟩) | (exact Or.inl ⟨by rw [m_bn (fun q => q54 (hg_r51.symm.trans q)), decide_eq_true (show z_bits k = nq from hg_r42.trans (by assumption)), Bool.or_true]; rfl, by omega⟩) | (exact Or.inr ⟨by rw [m_b0 (hg_r51.trans q54), Bool.and_false], by omega⟩) | (exact Or.inr ⟨by rw [decide_eq_false (show ¬ nq = -1 by assumption), decide_eq_false (show ¬ z_bits k = nq from fun q => absurd (hg_r42.symm.trans q) (by assumption))]; rfl, by omega⟩)
            exact ih _ _ _ _ _ _ _ hI hY_this hY_bk hY_se hs_bk hs_se hA_bk hA_se (lv_sub hl [0, 1, 2, 3] rfl) (by first | assumption | omega) (by first | assumption | omega) (by rw [his]; rcases hX with ⟨h1, h2⟩ | ⟨h1, h2⟩; (rw [m_cn_T h1]; omega); (rw [m_cn_F h1]; omega)) (by omega)
          · have q54_ : ¬ r51.toInt = (0 : Int32).toInt := fun q => q54 (Int32.toInt_inj.mp q)
            refine lv_iconst hx hb laX_d57 (v := 1) (by decide) ?_
            have ec1 : (1 : Int32).toInt = 1 := by decide
            refine lv_goto hx hb laX_d58 (tgt := 62) (by decide) ?_
            refine lv_iadd hx hb laX_d62 ?_
            generalize hg_z62 : al + (1 : Int32) = z62
            have h_z62 : z62.toInt = al.toInt + 1 := by rw [← hg_z62]; have := y_add (x := al) (y := (1 : Int32)) (by rw [ec1]; omega) (by rw [ec1]; omega); rw [ec1] at this; exact this
            refine lv_istore_n hx hb laX_d63 rfl hl (by decide) (lv' := [(2, .int z62), (3, .int k), (0, .ref this), (1, .int nq)]) rfl fun ls hl => ?_
            obtain ⟨z64, hg_z64⟩ : ∃ z64 : Int32, k + Int32.ofInt 1 = z64 := ⟨_, rfl⟩
            have h_z64 : z64.toInt = k.toInt + 1 := by rw [← hg_z64]; exact y_inc (by decide) (by omega) (by omega)
            refine lv_iinc hx hb laX_d64 hl (k := 1) rfl hg_z64 (by decide) (lv' := [(3, .int z64), (2, .int z62), (0, .ref this), (1, .int nq)]) rfl fun ls hl => ?_
            refine lv_goto hx hb laX_d67 (tgt := 27) (by decide) ?_
            have his : z64.toInt.toNat = k.toInt.toNat + 1 := by omega
            have hnk := m_nj hk.1
            have hX : m_laR fb nq k.toInt.toNat = true ∧ z62.toInt = al.toInt + 1 ∨ m_laR fb nq k.toInt.toNat = false ∧ z62.toInt = al.toInt := by
              unfold m_laR
              rw [hnk]
              first | (exact Or.inl ⟨by rw [m_bn (fun q => q54 (hg_r51.symm.trans q)), show nq = -1 from by assumption]; rfl, by omega⟩) | (exact Or.inl ⟨by rw [m_bn (fun q => q54 (hg_r51.symm.trans q)), decide_eq_true (show z_bits k = nq from hg_r42.trans (by assumption)), Bool.or_true]; rfl, by omega⟩) | (exact Or.inr ⟨by rw [m_b0 (hg_r51.trans q54), Bool.and_false], by omega⟩) | (exact Or.inr ⟨by rw [decide_eq_false (show ¬ nq = -1 by assumption), decide_eq_false (show ¬ z_bits k = nq from fun q => absurd (hg_r42.symm.trans q) (by assumption))]; rfl, by omega⟩)
            exact ih _ _ _ _ _ _ _ hI hY_this hY_bk hY_se hs_bk hs_se hA_bk hA_se (lv_sub hl [0, 1, 2, 3] rfl) (by first | assumption | omega) (by first | assumption | omega) (by rw [his]; rcases hX with ⟨h1, h2⟩ | ⟨h1, h2⟩; (rw [m_cn_T h1]; omega); (rw [m_cn_F h1]; omega)) (by omega)
theorem ym_lawfulM : y_Met vwCl x_G x_Zs x_Tb x_Nb xM194 y_T z_PMla := by
  refine y_main (by decide +kernel) (by decide +kernel) x_Tb_good x_Nb_ok ?_
  intro p l e s m below meth c D U Y0 av ls B hI _ hl
  have X := B.1
  have hx := X.1
  have hb := X.2.1
  have hY0 := B.2.2.2.2.1
  obtain ⟨v0, v1, rfl, hv0, ⟨nq, rfl, -⟩⟩ := x_two B.2.2.2.2.2
  obtain ⟨this, t0, rfl, ht0, hY_this⟩ := x_ref_at hv0 rfl
  obtain rfl := List.mem_singleton.mp ht0
  replace hl : lv_has ls xM194.2.2.1 [(0, .ref this), (1, .int nq)] := hl
  obtain ⟨bk, hs_bk, hY_bk⟩ := y_fldR (k := 0) hI.1 hY_this rfl rfl
  obtain ⟨fb9, hA9, hB9⟩ := y_arr hI.1 hY_bk rfl rfl
  obtain ⟨fb, hcn, hA_bk, hB_bk⟩ := z_canon (Y := Y0) (P := fun j v => x_c Y0 ([xI 0 10, xI 0 8, xI 0 8].getD j xF) (.int v)) hA9 hB9
  clear hA9 hB9 fb9
  have hs0 := hs_bk
  have hA0 := hA_bk
  have hd := z_hdr hB_bk
  have hd0 := hd.1
  have hd1 := hd.2.1
  obtain ⟨se, hs_se, hY_se⟩ := y_fldR (k := 8) hI.1 hY_this rfl rfl
  refine lv_iload_n hx hb laX_d0 rfl (lv_at hl 1 rfl) ?_
  obtain ⟨z1, hg_z1⟩ : ∃ z1 : Int64, nq.toInt64 = z1 := ⟨_, rfl⟩
  have h_z1 : z1.toInt = (nq).toInt := by rw [← hg_z1]; exact Int32.toInt_toInt64 _
  refine lv_i2l hx hb laX_d1 (v := z1) hg_z1 ?_
  refine lv_ldc2 hx hb X.2.2.2.1 (v := (-1)) (X.2.2.2.2.1 _ (x_bw79 3 rfl rfl)) laX_d2 ?_
  have elm1 : ((-1) : Int64).toInt = (-1) := by decide
  refine lv_ldc2 hx hb X.2.2.2.1 (v := 10) (X.2.2.2.2.1 _ (x_bw69 10 rfl rfl)) laX_d5 ?_
  have el10 : (10 : Int64).toInt = 10 := by decide
  refine y_call (z := (1, 87, 3, none, xM148)) (av := [.long z1, .long ((-1) : Int64), .long (10 : Int64)]) (rest := []) (y_cokS (n := 3) X ym_in (x_cons (x_bw67 11 rfl rfl) (x_cons (x_bw67 12 rfl rfl) (x_cons (x_bw0 9 rfl rfl) x_nilm))) (x_bw67 13 rfl rfl) (by decide +kernel) ⟨Nat.le_of_ble_eq_true rfl, Nat.le_of_ble_eq_true rfl⟩) hY0 hI rfl laX_d8 hl.1 (Nat.le_of_ble_eq_true rfl) (Nat.le_of_ble_eq_true rfl) (Nat.le_of_ble_eq_true rfl) (y_cons ⟨_, rfl, x_i64 _⟩ (y_cons ⟨_, rfl, x_i64 _⟩ (y_cons ⟨_, rfl, x_i64 _⟩ y_nil))) rfl (y_norecv rfl) trivial (y_sub_ef rfl) fun v Yn o Hn L ho hr ha hIn hx_ hE hP => ?_
  replace hs_bk := y_Efld hE hY_this rfl (by decide) (by decide) hs_bk
  replace hs_se := y_Efld hE hY_this rfl (by decide) (by decide) hs_se
  replace hA_bk := hA_bk.kept (y_Earr hE hY_bk rfl (by decide))
  replace hY_this := y_ext hx_ hI.1 hY_this
  replace hY_bk := y_ext hx_ hI.1 hY_bk
  replace hY_se := y_ext hx_ hI.1 hY_se
  obtain ⟨r8, rfl, hin_r8, hout_r8⟩ := z_inR2 (hP _ _ _ rfl)
  clear ho hr ha hE hP hI hx_
  rename x_I _ _ _ _ _ _ _ _ _ _ => hI
  have ec0 : (0 : Int32).toInt = 0 := by decide
  refine lv_if_ne hx hb laX_d11 (tgt := 19) (by decide) (fun q11 => ?_) (fun q11 => ?_)
  · have q11_ : ¬ r8.toInt = (0 : Int32).toInt := fun q => q11 (Int32.toInt_inj.mp q)
    have hw9 := hin_r8 (by assumption)
    have hok : -1 ≤ nq.toInt ∧ nq.toInt ≤ 10 := by omega
    have hz9 := z_all_p hd0
    refine lv_aload_n hx hb laX_d19 rfl (lv_at hl 0 rfl) ?_
    refine y_call (z := (0, 240, 1, some 17, xM186)) (av := [.ref this]) (rest := []) (y_cokV (n := 0) (ci := 12) X ym_looksNow rfl rfl rfl (x_cons (x_bw77 8 rfl rfl) (x_cons (x_bw77 10 rfl rfl) (x_cons (x_at 50 (by decide +kernel) rfl) (x_cons (x_bw0 9 rfl rfl) x_nilm)))) (x_bw77 11 rfl rfl) (by decide +kernel) ⟨Nat.le_of_ble_eq_true rfl, Nat.le_of_ble_eq_true rfl⟩) hY0 hI rfl laX_d20 hl.1 (Nat.le_of_ble_eq_true rfl) (Nat.le_of_ble_eq_true rfl) (Nat.le_of_ble_eq_true rfl) (y_cons (y_cref hY_this rfl) y_nil) rfl (y_recv rfl hY_this) trivial (y_sub_ef rfl) fun v Yn o Hn L ho hr ha hIn hx_ hE hP => ?_
    have hPs := hP _ _ _ rfl hs_bk hcn hA_bk _ hs_se
    replace hs_bk := y_Efld hE hY_this rfl (by decide) (by decide) hs_bk
    replace hs_se := y_Efld hE hY_this rfl (by decide) (by decide) hs_se
    replace hA_bk := hA_bk.kept (y_Earr hE hY_bk rfl (by decide))
    replace hY_this := y_ext hx_ hI.1 hY_this
    replace hY_bk := y_ext hx_ hI.1 hY_bk
    replace hY_se := y_ext hx_ hI.1 hY_se
    obtain rfl := y_ansV rfl ho hr
    obtain ⟨fs, hA_se, -⟩ := y_arr hIn.1 hY_se rfl rfl
    have hVs : ∀ i, i < (fb 0).toInt.toNat → fs i = (m_VR fb (fb 4) (fb 5)) i := fun i hi => z_intI (hA_se i (by omega)) (hPs i hi)
    clear ho hr ha hE hP hI hx_
    rename x_I _ _ _ _ _ _ _ _ _ _ => hI
    refine lv_iconst hx hb laX_d23 (v := 0) (by decide) ?_
    refine lv_istore_n hx hb laX_d24 rfl hl (by decide) (lv' := [(2, .int (0 : Int32)), (0, .ref this), (1, .int nq)]) rfl fun ls hl => ?_
    refine lv_iconst hx hb laX_d25 (v := 0) (by decide) ?_
    refine lv_istore_n hx hb laX_d26 rfl hl (by decide) (lv' := [(3, .int (0 : Int32)), (2, .int (0 : Int32)), (0, .ref this), (1, .int nq)]) rfl fun ls hl => ?_
    exact laX_L27 B rfl hs0 hA0 hcn hd0 hok 1026 _ _ _ _ _ _ _ hI hY_this hY_bk hY_se hs_bk hs_se hA_bk hA_se (lv_sub hl [0, 1, 2, 3] rfl) ⟨by decide, by have h9 := (z_all_b hd0).1; rw [m_c0]; omega⟩ (by first | assumption | omega) rfl (by omega)
  · have q11_ : r8.toInt = (0 : Int32).toInt := by rw [q11]
    have hw9 := hout_r8 (by assumption)
    have hno : ¬ (-1 ≤ nq.toInt ∧ nq.toInt ≤ 10) := by omega
    refine lv_aload_n hx hb laX_d14 rfl (lv_at hl 0 rfl) ?_
    refine y_call (z := (0, 102, 1, some 17, xM143)) (av := [.ref this]) (rest := []) (y_cokV (n := 0) (ci := 12) X ym_bad rfl rfl rfl (x_cons (x_bw68 3 rfl rfl) (x_cons (x_bw68 5 rfl rfl) (x_cons (x_at 32 (by decide +kernel) rfl) (x_cons (x_bw0 9 rfl rfl) x_nilm)))) (x_bw68 6 rfl rfl) (by decide +kernel) ⟨Nat.le_of_ble_eq_true rfl, Nat.le_of_ble_eq_true rfl⟩) hY0 hI rfl laX_d15 hl.1 (Nat.le_of_ble_eq_true rfl) (Nat.le_of_ble_eq_true rfl) (Nat.le_of_ble_eq_true rfl) (y_cons (y_cref hY_this rfl) y_nil) rfl (y_recv rfl hY_this) trivial (y_sub_ef rfl) fun v Yn o Hn L ho hr ha hIn hx_ hE hP => ?_
    replace hs_bk := y_Efld hE hY_this rfl (by decide) (by decide) hs_bk
    replace hs_se := y_Efld hE hY_this rfl (by decide) (by decide) hs_se
    replace hA_bk := hA_bk.kept (y_Earr hE hY_bk rfl (by decide))
    replace hY_this := y_ext hx_ hI.1 hY_this
    replace hY_bk := y_ext hx_ hI.1 hY_bk
    replace hY_se := y_ext hx_ hI.1 hY_se
    have hPb := hP
    obtain rfl := hPb
    clear ho hr ha hE hP hI hx_
    rename x_I _ _ _ _ _ _ _ _ _ _ => hI
    exact y_ireturn B hI rfl rfl rfl List.mem_cons_self ⟨_, rfl, ⟨_, rfl, x_i32 _⟩⟩ (x_cs.mono B.2.2.2.2.2 (y_mon B hI)) (fun t' b' w0' f' h1 h2 h3 h4 => by cases h1; cases h2.symm.trans hs0; cases z_uniq h4 hA0 h3 hcn; exact ⟨_, rfl, fun q9 => absurd q9 hno, fun _ => rfl⟩) (Nat.le_refl _) (Nat.le_refl _) laX_d18
