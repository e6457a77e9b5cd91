/-! WHAT A CALL OF THE REFERENCE ANSWERS of sight -/
def m_asR (f : Nat → Int32) (a b r : Int32) : Prop := (m_isH f a ∧ m_isH f b ∧ ¬ a = b → r = m_b (m_ss f a.toInt.toNat b.toInt.toNat (f 4) (f 5))) ∧ (¬ (m_isH f a ∧ m_isH f b ∧ ¬ a = b) → r = -2)
def m_aeR (f : Nat → Int32) (h w r : Int32) : Prop := (m_isH f h ∧ m_isS f w → r = m_VR f (f 4) (f 5) h.toInt.toNat &&& w) ∧ (¬ (m_isH f h ∧ m_isS f w) → r = -2)
def m_wrR (V : Nat → Int32) (w : Int32) (i : Nat) : Bool := m_has w (nI i) && !(decide (z_bits (V i &&& w) = 1))
def m_fwR (V : Nat → Int32) (w : Int32) (n : Nat) (r : Int32) : Prop := (∃ k : Nat, k < n ∧ r.toInt = (k : Int) ∧ m_wrR V w k = true ∧ ∀ i, i < k → m_wrR V w i = false) ∨ (r = -1 ∧ ∀ i, i < n → m_wrR V w i = false)
def m_ajR (f : Nat → Int32) (w t r : Int32) : Prop := (m_isS f w ∧ 0 ≤ t.toInt ∧ t.toInt ≤ 1 → ∃ k : Int32, m_fwR (m_VR f (f 4) (f 5)) w (f 0).toInt.toNat k ∧ (k = -1 ∨ t = 0 → r = k) ∧ (¬ k = -1 → ¬ t = 0 → r = z_bits (m_VR f (f 4) (f 5) k.toInt.toNat &&& w))) ∧ (¬ (m_isS f w ∧ 0 ≤ t.toInt ∧ t.toInt ≤ 1) → r = -2)
theorem m_and1 (x : Int32) : x &&& 1 = 0 ∨ x &&& 1 = 1 := by
  have h := x_and1 (x := x) (y := (1 : Int32)) (by decide)
  rw [m_c1] at h
  exact y_01 h.1 h.2
def z_PMju : yP := fun D av _ H v _ H' => ∀ (this bk : Nat) (w t : Int32) (f : Nat → Int32), av = [.ref this, .int w, .int t] → x_sl D 12 0 this H = some (.ref bk) → z_c f → y_A bk 160 H f → ∃ r : Int32, v = some (.int r) ∧ m_ajR f w t r
theorem juX_d0 : decode xM190.2.1 0 = .ok (.aload_n 0, 1) := dz_ok (by decide +kernel)
theorem juX_d1 : decode xM190.2.1 1 = .ok (.iload_n 1, 1) := dz_ok (by decide +kernel)
theorem juX_d2 : decode xM190.2.1 2 = .ok (.invokevirtual 237, 3) := dz_ok (by decide +kernel)
theorem juX_d5 : decode xM190.2.1 5 = .ok (.ifCond .eq 13, 3) := dz_ok (by decide +kernel)
theorem juX_d8 : decode xM190.2.1 8 = .ok (.iload_n 2, 1) := dz_ok (by decide +kernel)
theorem juX_d9 : decode xM190.2.1 9 = .ok (.i2l, 1) := dz_ok (by decide +kernel)
theorem juX_d10 : decode xM190.2.1 10 = .ok (.lconst 0, 1) := dz_ok (by decide +kernel)
theorem juX_d11 : decode xM190.2.1 11 = .ok (.lconst 1, 1) := dz_ok (by decide +kernel)
theorem juX_d12 : decode xM190.2.1 12 = .ok (.invokestatic 87, 3) := dz_ok (by decide +kernel)
theorem juX_d15 : decode xM190.2.1 15 = .ok (.ifCond .ne 8, 3) := dz_ok (by decide +kernel)
theorem juX_d18 : decode xM190.2.1 18 = .ok (.aload_n 0, 1) := dz_ok (by decide +kernel)
theorem juX_d19 : decode xM190.2.1 19 = .ok (.invokevirtual 102, 3) := dz_ok (by decide +kernel)
theorem juX_d22 : decode xM190.2.1 22 = .ok (.ireturn, 1) := dz_ok (by decide +kernel)
theorem juX_d23 : decode xM190.2.1 23 = .ok (.aload_n 0, 1) := dz_ok (by decide +kernel)
theorem juX_d24 : decode xM190.2.1 24 = .ok (.invokevirtual 240, 3) := dz_ok (by decide +kernel)
theorem juX_d27 : decode xM190.2.1 27 = .ok (.iconst 0, 1) := dz_ok (by decide +kernel)
theorem juX_d28 : decode xM190.2.1 28 = .ok (.istore_n 3, 1) := dz_ok (by decide +kernel)
theorem juX_d29 : decode xM190.2.1 29 = .ok (.iload_n 3, 1) := dz_ok (by decide +kernel)
theorem juX_d30 : decode xM190.2.1 30 = .ok (.aload_n 0, 1) := dz_ok (by decide +kernel)
theorem juX_d31 : decode xM190.2.1 31 = .ok (.getfield 7, 3) := dz_ok (by decide +kernel)
theorem juX_d34 : decode xM190.2.1 34 = .ok (.iconst 0, 1) := dz_ok (by decide +kernel)
theorem juX_d35 : decode xM190.2.1 35 = .ok (.iaload, 1) := dz_ok (by decide +kernel)
theorem juX_d36 : decode xM190.2.1 36 = .ok (.if_icmp .ge 48, 3) := dz_ok (by decide +kernel)
theorem juX_d39 : decode xM190.2.1 39 = .ok (.aload_n 0, 1) := dz_ok (by decide +kernel)
theorem juX_d40 : decode xM190.2.1 40 = .ok (.getfield 26, 3) := dz_ok (by decide +kernel)
theorem juX_d43 : decode xM190.2.1 43 = .ok (.iload_n 3, 1) := dz_ok (by decide +kernel)
theorem juX_d44 : decode xM190.2.1 44 = .ok (.iaload, 1) := dz_ok (by decide +kernel)
theorem juX_d45 : decode xM190.2.1 45 = .ok (.iload_n 1, 1) := dz_ok (by decide +kernel)
theorem juX_d46 : decode xM190.2.1 46 = .ok (.iand, 1) := dz_ok (by decide +kernel)
theorem juX_d47 : decode xM190.2.1 47 = .ok (.invokestatic 148, 3) := dz_ok (by decide +kernel)
theorem juX_d50 : decode xM190.2.1 50 = .ok (.istore 4, 2) := dz_ok (by decide +kernel)
theorem juX_d52 : decode xM190.2.1 52 = .ok (.iload_n 1, 1) := dz_ok (by decide +kernel)
theorem juX_d53 : decode xM190.2.1 53 = .ok (.iload_n 3, 1) := dz_ok (by decide +kernel)
theorem juX_d54 : decode xM190.2.1 54 = .ok (.ishr, 1) := dz_ok (by decide +kernel)
theorem juX_d55 : decode xM190.2.1 55 = .ok (.iconst 1, 1) := dz_ok (by decide +kernel)
theorem juX_d56 : decode xM190.2.1 56 = .ok (.iand, 1) := dz_ok (by decide +kernel)
theorem juX_d57 : decode xM190.2.1 57 = .ok (.iconst 1, 1) := dz_ok (by decide +kernel)
theorem juX_d58 : decode xM190.2.1 58 = .ok (.if_icmp .ne 20, 3) := dz_ok (by decide +kernel)
theorem juX_d61 : decode xM190.2.1 61 = .ok (.iload 4, 2) := dz_ok (by decide +kernel)
theorem juX_d63 : decode xM190.2.1 63 = .ok (.iconst 1, 1) := dz_ok (by decide +kernel)
theorem juX_d64 : decode xM190.2.1 64 = .ok (.if_icmp .eq 14, 3) := dz_ok (by decide +kernel)
theorem juX_d67 : decode xM190.2.1 67 = .ok (.iload_n 2, 1) := dz_ok (by decide +kernel)
theorem juX_d68 : decode xM190.2.1 68 = .ok (.ifCond .ne 7, 3) := dz_ok (by decide +kernel)
theorem juX_d71 : decode xM190.2.1 71 = .ok (.iload_n 3, 1) := dz_ok (by decide +kernel)
theorem juX_d72 : decode xM190.2.1 72 = .ok (.goto 5, 3) := dz_ok (by decide +kernel)
theorem juX_d75 : decode xM190.2.1 75 = .ok (.iload 4, 2) := dz_ok (by decide +kernel)
theorem juX_d77 : decode xM190.2.1 77 = .ok (.ireturn, 1) := dz_ok (by decide +kernel)
theorem juX_d78 : decode xM190.2.1 78 = .ok (.iinc 3 1, 3) := dz_ok (by decide +kernel)
theorem juX_d81 : decode xM190.2.1 81 = .ok (.goto (-52), 3) := dz_ok (by decide +kernel)
theorem juX_d84 : decode xM190.2.1 84 = .ok (.iconst (-1), 1) := dz_ok (by decide +kernel)
theorem juX_d85 : decode xM190.2.1 85 = .ok (.ireturn, 1) := dz_ok (by decide +kernel)
theorem juX_L29 {p : Program} {l : Launch} {e : Env} {s : State} {m : MethodId} {below : List Frame} {meth : Method} {c : Code} {D : va_G} {U : State} {Y0 : xY} {av : List Value} (B : y_B vwCl x_Tb x_Nb xM190 p s m meth c D U Y0 av) {this bk se : Nat} {w t : Int32} {fb : Nat → Int32} (hav : av = [.ref this, .int w, .int t]) (hs0 : x_sl D 12 0 this s.heap = some (.ref bk)) (hA0 : y_A bk 160 s.heap fb) (hcn : z_c fb) (hd0 : 0 ≤ (fb 0).toInt ∧ (fb 0).toInt ≤ 10) (hok : m_isS fb w ∧ 0 ≤ t.toInt ∧ t.toInt ≤ 1)  :
    ∀ (n : Nat), ∀ (H : Heap) (Y : xY) (locs : List Loc) (ls : Array Slot) (j : Int32) (fs : Nat → Int32), x_I D x_G x_Zs U (x_efs xM190) Y0 s.heap Y H locs → Y this = some 17 → Y bk = some 46 → Y se = some 51 → x_sl D 12 0 this H = some (.ref bk) → x_sl D 12 8 this H = some (.ref se) → y_A bk 160 H fb → y_A se 10 H fs → lv_has ls xM190.2.2.1 [(3, .int j), (0, .ref this), (1, .int w), (2, .int t)] → (0 ≤ j.toInt ∧ j.toInt ≤ (fb 0).toInt) → (∀ i, i < (fb 0).toInt.toNat → fs i = (m_VR fb (fb 4) (fb 5)) i) → (∀ i : Nat, (i : Int) < j.toInt → m_wrR (m_VR fb (fb 4) (fb 5)) w i = false) → (11 - j.toInt).toNat < n → W p l e (x_rm xM190) s m av.toArray below meth c H locs 0 0 (y_QQ below D x_G x_Zs U xM190 z_PMju av Y0 s) (F0 m 29 ls []) := by
  have X := B.1
  have hx := X.1
  have hb := X.2.1
  have hY0 := B.2.2.2.2.1
  intro n
  induction n with
  | zero => intro _ _ _ _ _ _ _ _ _ _ _ _ _ _ _ _ _ _ h; exact absurd h (Nat.not_lt_zero _)
  | succ n ih =>
    intro H Y locs ls j fs hI hY_this hY_bk hY_se hs_bk hs_se hA_bk hA_se hl hj hVs hno hn
    refine lv_iload_n hx hb juX_d29 rfl (lv_at hl 0 rfl) ?_
    refine lv_aload_n hx hb juX_d30 rfl (lv_at hl 1 rfl) ?_
    refine y_getf X (fl190 X.2.2.2.2.1) hI.1 hY_this rfl hs_bk juX_d31 ?_
    refine lv_iconst hx hb juX_d34 (v := 0) (by decide) ?_
    have ec0 : (0 : Int32).toInt = 0 := by decide
    refine y_iald X hI.1 hY_bk rfl hA_bk (by omega) (by show _ < (160 : Int); omega) juX_d35 ?_
    obtain ⟨e35, hg_e35⟩ : ∃ e35 : Int32, fb (0 : Int32).toInt.toNat = e35 := ⟨_, rfl⟩
    rw [hg_e35]
    rw [z_i0] at hg_e35
    have h_e35 : e35.toInt = (fb 0).toInt := by rw [hg_e35]
    refine lv_icmp_ge hx hb juX_d36 (tgt := 84) (by decide) (fun q36 => ?_) (fun q36 => ?_)
    · have q36_ : e35.toInt ≤ j.toInt := x_le32.mp q36
      refine lv_iconst hx hb juX_d84 (v := (-1)) (by decide) ?_
      have ecm1 : ((-1) : Int32).toInt = (-1) := by decide
      subst hav
      exact y_ireturn B hI rfl rfl rfl List.mem_cons_self ⟨_, rfl, ⟨_, rfl, x_i32 _⟩⟩ (x_cs.mono B.2.2.2.2.2 (y_mon B hI)) (fun t' b' w0' w1' f' h1 h2 h3 h4 => by cases h1; cases h2.symm.trans hs0; cases z_uniq h4 hA0 h3 hcn; exact ⟨_, rfl, fun _ => ⟨-1, Or.inr ⟨rfl, fun i hi => hno i (by omega)⟩, fun _ => rfl, fun q8 => absurd rfl q8⟩, fun q9 => absurd hok q9⟩) (Nat.le_refl _) (Nat.le_refl _) juX_d85
    · have q36_ : j.toInt < e35.toInt := Int.not_le.mp fun q => q36 (x_le32.mpr q)
      refine lv_aload_n hx hb juX_d39 rfl (lv_at hl 1 rfl) ?_
      refine y_getf X (fl199 X.2.2.2.2.1) hI.1 hY_this rfl hs_se juX_d40 ?_
      refine lv_iload_n hx hb juX_d43 rfl (lv_at hl 0 rfl) ?_
      refine y_iald X hI.1 hY_se rfl hA_se (by omega) (by show _ < (10 : Int); omega) juX_d44 ?_
      obtain ⟨e44, hg_e44⟩ : ∃ e44 : Int32, fs j.toInt.toNat = e44 := ⟨_, rfl⟩
      rw [hg_e44]
      refine lv_iload_n hx hb juX_d45 rfl (lv_at hl 2 rfl) ?_
      refine lv_iand hx hb juX_d46 ?_
      generalize hg_z46 : e44 &&& w = z46
      refine y_call (z := (1, 148, 1, none, xM189)) (av := [.int z46]) (rest := []) (y_cokS (n := 1) X ym_bits (x_cons (x_bw78 4 rfl rfl) (x_cons (x_bw78 5 rfl rfl) (x_cons (x_bw0 9 rfl rfl) x_nilm))) (x_bw78 6 rfl rfl) (by decide +kernel) ⟨Nat.le_of_ble_eq_true rfl, Nat.le_of_ble_eq_true rfl⟩) hY0 hI rfl juX_d47 hl.1 (Nat.le_of_ble_eq_true rfl) (Nat.le_of_ble_eq_true rfl) (Nat.le_of_ble_eq_true rfl) (y_cons ⟨_, rfl, x_i32 _⟩ y_nil) rfl (y_norecv rfl) trivial (y_sub_ef rfl) fun v Yn o Hn L ho hr ha hIn hx_ hE hP => ?_
      have hPb9 := hP _ rfl
      obtain rfl := hPb9
      replace hs_bk := y_Efld hE hY_this rfl (by decide) (by decide) hs_bk
      replace hs_se := y_Efld hE hY_this rfl (by decide) (by decide) hs_se
      replace hA_bk := hA_bk.kept (y_Earr hE hY_bk rfl (by decide))
      replace hA_se := hA_se.kept (y_Earr hE hY_se rfl (by decide))
      replace hY_this := y_ext hx_ hI.1 hY_this
      replace hY_bk := y_ext hx_ hI.1 hY_bk
      replace hY_se := y_ext hx_ hI.1 hY_se
      generalize hg_r47 : z_bits z46 = r47
      clear ho hr ha hE hP hI hx_
      rename x_I _ _ _ _ _ _ _ _ _ _ => hI
      refine lv_istore hx hb juX_d50 hl (by decide) (lv' := [(4, .int r47), (3, .int j), (0, .ref this), (1, .int w), (2, .int t)]) rfl fun ls hl => ?_
      refine lv_iload_n hx hb juX_d52 rfl (lv_at hl 3 rfl) ?_
      refine lv_iload_n hx hb juX_d53 rfl (lv_at hl 1 rfl) ?_
      refine lv_ishr hx hb juX_d54 ?_
      generalize hg_z54 : w >>> (j &&& 31) = z54
      refine lv_iconst hx hb juX_d55 (v := 1) (by decide) ?_
      have ec1 : (1 : Int32).toInt = 1 := by decide
      refine lv_iand hx hb juX_d56 ?_
      generalize hg_z56 : z54 &&& (1 : Int32) = z56
      refine lv_iconst hx hb juX_d57 (v := 1) (by decide) ?_
      refine lv_icmp_ne hx hb juX_d58 (tgt := 78) (by decide) (fun q58 => ?_) (fun q58 => ?_)
      · have q58_ : ¬ z56.toInt = (1 : Int32).toInt := fun q => q58 (Int32.toInt_inj.mp q)
        obtain ⟨z78, hg_z78⟩ : ∃ z78 : Int32, j + Int32.ofInt 1 = z78 := ⟨_, rfl⟩
        have h_z78 : z78.toInt = j.toInt + 1 := by rw [← hg_z78]; exact y_inc (by decide) (by omega) (by omega)
        refine lv_iinc hx hb juX_d78 hl (k := 1) rfl hg_z78 (by decide) (lv' := [(3, .int z78), (4, .int r47), (0, .ref this), (1, .int w), (2, .int t)]) rfl fun ls hl => ?_
        refine lv_goto hx hb juX_d81 (tgt := 29) (by decide) ?_
        have hnj := m_nj hj.1
        have hVj := hVs j.toInt.toNat (by omega)
        exact ih _ _ _ _ _ _ hI hY_this hY_bk hY_se hs_bk hs_se hA_bk hA_se (lv_sub hl [0, 2, 3, 4] rfl) (by first | assumption | omega) (by first | assumption | omega) (fun i hi => by by_cases ei : (i : Int) = j.toInt; (have ej : i = j.toInt.toNat := (by omega); subst ej; unfold m_wrR; rw [hnj, ← hVj, hg_e44, hg_z46, hg_r47]; first | (rw [show m_has w j = false by unfold m_has; rw [hg_z54, hg_z56]; exact decide_eq_false (fun q => q (by rcases m_and1 z54 with h8 | h8; (rw [hg_z56] at h8; exact h8); (rw [hg_z56] at h8; exact absurd h8 q58))), Bool.false_and]) | (rw [show r47 = 1 from by assumption, decide_eq_true rfl, Bool.not_true, Bool.and_false])); exact hno i (by omega)) (by omega)
      · have q58_ : z56.toInt = (1 : Int32).toInt := by rw [q58]
        refine lv_iload hx hb juX_d61 (lv_at hl 0 rfl) ?_
        refine lv_iconst hx hb juX_d63 (v := 1) (by decide) ?_
        refine lv_icmp_eq hx hb juX_d64 (tgt := 78) (by decide) (fun q64 => ?_) (fun q64 => ?_)
        · have q64_ : r47.toInt = (1 : Int32).toInt := by rw [q64]
          obtain ⟨z78, hg_z78⟩ : ∃ z78 : Int32, j + Int32.ofInt 1 = z78 := ⟨_, rfl⟩
          have h_z78 : z78.toInt = j.toInt + 1 := by rw [← hg_z78]; exact y_inc (by decide) (by omega) (by omega)
          refine lv_iinc hx hb juX_d78 hl (k := 1) rfl hg_z78 (by decide) (lv' := [(3, .int z78), (4, .int r47), (0, .ref this), (1, .int w), (2, .int t)]) rfl fun ls hl => ?_
          refine lv_goto hx hb juX_d81 (tgt := 29) (by decide) ?_
          have hnj := m_nj hj.1
          have hVj := hVs j.toInt.toNat (by omega)
          exact ih _ _ _ _ _ _ hI hY_this hY_bk hY_se hs_bk hs_se hA_bk hA_se (lv_sub hl [0, 2, 3, 4] rfl) (by first | assumption | omega) (by first | assumption | omega) (fun i hi => by by_cases ei : (i : Int) = j.toInt; (have ej : i = j.toInt.toNat := (by omega); subst ej; unfold m_wrR; rw [hnj, ← hVj, hg_e44, hg_z46, hg_r47]; first | (rw [show m_has w j = false by unfold m_has; rw [hg_z54, hg_z56]; exact decide_eq_false (fun q => q (by rcases m_and1 z54 with h8 | h8; (rw [hg_z56] at h8; exact h8); (rw [hg_z56] at h8; exact absurd h8 q58))), Bool.false_and]) | (rw [show r47 = 1 from by assumption, decide_eq_true rfl, Bool.not_true, Bool.and_false])); exact hno i (by omega)) (by omega)
        · have q64_ : ¬ r47.toInt = (1 : Int32).toInt := fun q => q64 (Int32.toInt_inj.mp q)
          refine lv_iload_n hx hb juX_d67 rfl (lv_at hl 4 rfl) ?_
          refine lv_if_ne hx hb juX_d68 (tgt := 75) (by decide) (fun q68 => ?_) (fun q68 => ?_)
          · have q68_ : ¬ t.toInt = (0 : Int32).toInt := fun q => q68 (Int32.toInt_inj.mp q)
            refine lv_iload hx hb juX_d75 (lv_at hl 0 rfl) ?_
            have hnj := m_nj hj.1
            have hVj := hVs j.toInt.toNat (by omega)
            have hwr : m_wrR (m_VR fb (fb 4) (fb 5)) w j.toInt.toNat = true := by unfold m_wrR; rw [hnj, ← hVj, hg_e44, hg_z46, hg_r47, show m_has w j = true by unfold m_has; rw [hg_z54, hg_z56, q58]; decide, Bool.true_and, Bool.not_eq_true']; exact decide_eq_false q64
            have hfw : m_fwR (m_VR fb (fb 4) (fb 5)) w (fb 0).toInt.toNat j := Or.inl ⟨j.toInt.toNat, by omega, by omega, hwr, fun i hi => hno i (by omega)⟩
            have hjn : ¬ j = -1 := fun q => by have := congrArg Int32.toInt q; rw [m_cm1] at this; omega
            subst hav
            exact y_ireturn B hI rfl rfl rfl List.mem_cons_self ⟨_, rfl, ⟨_, rfl, x_i32 _⟩⟩ (x_cs.mono B.2.2.2.2.2 (y_mon B hI)) (fun t' b' w0' w1' f' h1 h2 h3 h4 => by cases h1; cases h2.symm.trans hs0; cases z_uniq h4 hA0 h3 hcn; exact ⟨_, rfl, fun _ => ⟨j, hfw, fun q9 => by rcases q9 with q9 | q9; exact absurd q9 hjn; exact absurd q9 (by assumption), fun _ _ => by rw [← hVj, hg_e44, hg_z46, hg_r47]⟩, fun q9 => absurd hok q9⟩) (Nat.le_refl _) (Nat.le_refl _) juX_d77
          · have q68_ : t.toInt = (0 : Int32).toInt := by rw [q68]
            refine lv_iload_n hx hb juX_d71 rfl (lv_at hl 1 rfl) ?_
            refine lv_goto hx hb juX_d72 (tgt := 77) (by decide) ?_
            have hnj := m_nj hj.1
            have hVj := hVs j.toInt.toNat (by omega)
            have hwr : m_wrR (m_VR fb (fb 4) (fb 5)) w j.toInt.toNat = true := by unfold m_wrR; rw [hnj, ← hVj, hg_e44, hg_z46, hg_r47, show m_has w j = true by unfold m_has; rw [hg_z54, hg_z56, q58]; decide, Bool.true_and, Bool.not_eq_true']; exact decide_eq_false q64
            have hfw : m_fwR (m_VR fb (fb 4) (fb 5)) w (fb 0).toInt.toNat j := Or.inl ⟨j.toInt.toNat, by omega, by omega, hwr, fun i hi => hno i (by omega)⟩
            have hjn : ¬ j = -1 := fun q => by have := congrArg Int32.toInt q; rw [m_cm1] at this; omega
            subst hav
            exact y_ireturn B hI rfl rfl rfl List.mem_cons_self ⟨_, rfl, ⟨_, rfl, x_i32 _⟩⟩ (x_cs.mono B.2.2.2.2.2 (y_mon B hI)) (fun t' b' w0' w1' f' h1 h2 h3 h4 => by cases h1; cases h2.symm.trans hs0; cases z_uniq h4 hA0 h3 hcn; exact ⟨_, rfl, fun _ => ⟨j, hfw, fun _ => rfl, fun q8 q9 => absurd (by assumption) q9⟩, fun q9 => absurd hok q9⟩) (Nat.le_refl _) (Nat.le_refl _) juX_d77
theorem ym_judgeX : y_Met vwCl x_G x_Zs x_Tb x_Nb xM190 y_T z_PMju := by
  refine y_main (by decide +kernel) (by decide +kernel) x_Tb_good x_Nb_ok ?_
  intro p l e s m below meth c D U Y0 av ls B hI _ hl
  have X := B.1
  have hx := X.1
  have hb := X.2.1
  have hY0 := B.2.2.2.2.1
  obtain ⟨v0, v1, v2, rfl, hv0, ⟨w, rfl, -⟩, ⟨t, rfl, -⟩⟩ := y_three B.2.2.2.2.2
  obtain ⟨this, t0, rfl, ht0, hY_this⟩ := x_ref_at hv0 rfl
  obtain rfl := List.mem_singleton.mp ht0
  replace hl : lv_has ls xM190.2.2.1 [(0, .ref this), (1, .int w), (2, .int t)] := hl
  obtain ⟨bk, hs_bk, hY_bk⟩ := y_fldR (k := 0) hI.1 hY_this rfl rfl
  obtain ⟨fb9, hA9, hB9⟩ := y_arr hI.1 hY_bk rfl rfl
  obtain ⟨fb, hcn, hA_bk, hB_bk⟩ := z_canon (Y := Y0) (P := fun j v => x_c Y0 ([xI 0 10, xI 0 8, xI 0 8].getD j xF) (.int v)) hA9 hB9
  clear hA9 hB9 fb9
  have hs0 := hs_bk
  have hA0 := hA_bk
  have hd := z_hdr hB_bk
  have hd0 := hd.1
  have hd1 := hd.2.1
  obtain ⟨se, hs_se, hY_se⟩ := y_fldR (k := 8) hI.1 hY_this rfl rfl
  refine lv_aload_n hx hb juX_d0 rfl (lv_at hl 0 rfl) ?_
  refine lv_iload_n hx hb juX_d1 rfl (lv_at hl 1 rfl) ?_
  refine y_call (z := (0, 237, 2, some 17, xM184)) (av := [.ref this, .int w]) (rest := []) (y_cokV (n := 1) (ci := 12) X ym_isSet rfl rfl rfl (x_cons (x_bw77 0 rfl rfl) (x_cons (x_bw77 2 rfl rfl) (x_cons (x_at 48 (by decide +kernel) rfl) (x_cons (x_bw0 9 rfl rfl) x_nilm)))) (x_bw77 3 rfl rfl) (by decide +kernel) ⟨Nat.le_of_ble_eq_true rfl, Nat.le_of_ble_eq_true rfl⟩) hY0 hI rfl juX_d2 hl.1 (Nat.le_of_ble_eq_true rfl) (Nat.le_of_ble_eq_true rfl) (Nat.le_of_ble_eq_true rfl) (y_cons (y_cref hY_this rfl) (y_cons ⟨_, rfl, x_i32 _⟩ y_nil)) rfl (y_recv rfl hY_this) trivial (y_sub_ef rfl) fun v Yn o Hn L ho hr ha hIn hx_ hE hP => ?_
  have hPv := hP _ _ _ _ rfl hs_bk (hA_bk 0 (by decide))
  replace hs_bk := y_Efld hE hY_this rfl (by decide) (by decide) hs_bk
  replace hs_se := y_Efld hE hY_this rfl (by decide) (by decide) hs_se
  replace hA_bk := hA_bk.kept (y_Earr hE hY_bk rfl (by decide))
  replace hY_this := y_ext hx_ hI.1 hY_this
  replace hY_bk := y_ext hx_ hI.1 hY_bk
  replace hY_se := y_ext hx_ hI.1 hY_se
  obtain ⟨r2, rfl, hin_r2, hout_r2⟩ := hPv
  clear ho hr ha hE hP hI hx_
  rename x_I _ _ _ _ _ _ _ _ _ _ => hI
  have ec0 : (0 : Int32).toInt = 0 := by decide
  refine lv_if_eq hx hb juX_d5 (tgt := 18) (by decide) (fun q5 => ?_) (fun q5 => ?_)
  · have q5_ : r2.toInt = (0 : Int32).toInt := by rw [q5]
    have hno : ¬ (m_isS fb w ∧ 0 ≤ t.toInt ∧ t.toInt ≤ 1) := fun q9 => by first | (have h8 := hout_r2 (by assumption); have h7 := q9.1; unfold m_isS at h7; omega) | (have h8 := hout_r12 (by assumption); omega)
    refine lv_aload_n hx hb juX_d18 rfl (lv_at hl 0 rfl) ?_
    refine y_call (z := (0, 102, 1, some 17, xM143)) (av := [.ref this]) (rest := []) (y_cokV (n := 0) (ci := 12) X ym_bad rfl rfl rfl (x_cons (x_bw68 3 rfl rfl) (x_cons (x_bw68 5 rfl rfl) (x_cons (x_at 32 (by decide +kernel) rfl) (x_cons (x_bw0 9 rfl rfl) x_nilm)))) (x_bw68 6 rfl rfl) (by decide +kernel) ⟨Nat.le_of_ble_eq_true rfl, Nat.le_of_ble_eq_true rfl⟩) hY0 hI rfl juX_d19 hl.1 (Nat.le_of_ble_eq_true rfl) (Nat.le_of_ble_eq_true rfl) (Nat.le_of_ble_eq_true rfl) (y_cons (y_cref hY_this rfl) y_nil) rfl (y_recv rfl hY_this) trivial (y_sub_ef rfl) fun v Yn o Hn L ho hr ha hIn hx_ hE hP => ?_
    replace hs_bk := y_Efld hE hY_this rfl (by decide) (by decide) hs_bk
    replace hs_se := y_Efld hE hY_this rfl (by decide) (by decide) hs_se
    replace hA_bk := hA_bk.kept (y_Earr hE hY_bk rfl (by decide))
    replace hY_this := y_ext hx_ hI.1 hY_this
    replace hY_bk := y_ext hx_ hI.1 hY_bk
    replace hY_se := y_ext hx_ hI.1 hY_se
    have hPb := hP
    obtain rfl := hPb
    clear ho hr ha hE hP hI hx_
    rename x_I _ _ _ _ _ _ _ _ _ _ => hI
    exact y_ireturn B hI rfl rfl rfl List.mem_cons_self ⟨_, rfl, ⟨_, rfl, x_i32 _⟩⟩ (x_cs.mono B.2.2.2.2.2 (y_mon B hI)) (fun t' b' w0' w1' f' h1 h2 h3 h4 => by cases h1; cases h2.symm.trans hs0; cases z_uniq h4 hA0 h3 hcn; exact ⟨_, rfl, fun q9 => absurd q9 hno, fun _ => rfl⟩) (Nat.le_refl _) (Nat.le_refl _) juX_d22
  · have q5_ : ¬ r2.toInt = (0 : Int32).toInt := fun q => q5 (Int32.toInt_inj.mp q)
    refine lv_iload_n hx hb juX_d8 rfl (lv_at hl 2 rfl) ?_
    obtain ⟨z9, hg_z9⟩ : ∃ z9 : Int64, t.toInt64 = z9 := ⟨_, rfl⟩
    have h_z9 : z9.toInt = (t).toInt := by rw [← hg_z9]; exact Int32.toInt_toInt64 _
    refine lv_i2l hx hb juX_d9 (v := z9) hg_z9 ?_
    refine lv_lconst hx hb juX_d10 (v := 0) (by decide) ?_
    have el0 : (0 : Int64).toInt = 0 := by decide
    refine lv_lconst hx hb juX_d11 (v := 1) (by decide) ?_
    have el1 : (1 : Int64).toInt = 1 := by decide
    refine y_call (z := (1, 87, 3, none, xM148)) (av := [.long z9, .long (0 : Int64), .long (1 : Int64)]) (rest := []) (y_cokS (n := 3) X ym_in (x_cons (x_bw67 11 rfl rfl) (x_cons (x_bw67 12 rfl rfl) (x_cons (x_bw0 9 rfl rfl) x_nilm))) (x_bw67 13 rfl rfl) (by decide +kernel) ⟨Nat.le_of_ble_eq_true rfl, Nat.le_of_ble_eq_true rfl⟩) hY0 hI rfl juX_d12 hl.1 (Nat.le_of_ble_eq_true rfl) (Nat.le_of_ble_eq_true rfl) (Nat.le_of_ble_eq_true rfl) (y_cons ⟨_, rfl, x_i64 _⟩ (y_cons ⟨_, rfl, x_i64 _⟩ (y_cons ⟨_, rfl, x_i64 _⟩ y_nil))) rfl (y_norecv rfl) trivial (y_sub_ef rfl) fun v Yn o Hn L ho hr ha hIn hx_ hE hP => ?_
    replace hs_bk := y_Efld hE hY_this rfl (by decide) (by decide) hs_bk
    replace hs_se := y_Efld hE hY_this rfl (by decide) (by decide) hs_se
    replace hA_bk := hA_bk.kept (y_Earr hE hY_bk rfl (by decide))
    replace hY_this := y_ext hx_ hI.1 hY_this
    replace hY_bk := y_ext hx_ hI.1 hY_bk
    replace hY_se := y_ext hx_ hI.1 hY_se
    obtain ⟨r12, rfl, hin_r12, hout_r12⟩ := z_inR2 (hP _ _ _ rfl)
    clear ho hr ha hE hP hI hx_
    rename x_I _ _ _ _ _ _ _ _ _ _ => hI
    refine lv_if_ne hx hb juX_d15 (tgt := 23) (by decide) (fun q15 => ?_) (fun q15 => ?_)
    · have q15_ : ¬ r12.toInt = (0 : Int32).toInt := fun q => q15 (Int32.toInt_inj.mp q)
      have hw9 := hin_r12 (by assumption)
      have hok : m_isS fb w ∧ 0 ≤ t.toInt ∧ t.toInt ≤ 1 := ⟨hin_r2 (by assumption), by omega, by omega⟩
      refine lv_aload_n hx hb juX_d23 rfl (lv_at hl 0 rfl) ?_
      refine y_call (z := (0, 240, 1, some 17, xM186)) (av := [.ref this]) (rest := []) (y_cokV (n := 0) (ci := 12) X ym_looksNow rfl rfl rfl (x_cons (x_bw77 8 rfl rfl) (x_cons (x_bw77 10 rfl rfl) (x_cons (x_at 50 (by decide +kernel) rfl) (x_cons (x_bw0 9 rfl rfl) x_nilm)))) (x_bw77 11 rfl rfl) (by decide +kernel) ⟨Nat.le_of_ble_eq_true rfl, Nat.le_of_ble_eq_true rfl⟩) hY0 hI rfl juX_d24 hl.1 (Nat.le_of_ble_eq_true rfl) (Nat.le_of_ble_eq_true rfl) (Nat.le_of_ble_eq_true rfl) (y_cons (y_cref hY_this rfl) y_nil) rfl (y_recv rfl hY_this) trivial (y_sub_ef rfl) fun v Yn o Hn L ho hr ha hIn hx_ hE hP => ?_
      have hPs := hP _ _ _ rfl hs_bk hcn hA_bk _ hs_se
      replace hs_bk := y_Efld hE hY_this rfl (by decide) (by decide) hs_bk
      replace hs_se := y_Efld hE hY_this rfl (by decide) (by decide) hs_se
      replace hA_bk := hA_bk.kept (y_Earr hE hY_bk rfl (by decide))
      replace hY_this := y_ext hx_ hI.1 hY_this
      replace hY_bk := y_ext hx_ hI.1 hY_bk
      replace hY_se := y_ext hx_ hI.1 hY_se
      obtain rfl := y_ansV rfl ho hr
      obtain ⟨fs, hA_se, -⟩ := y_arr hIn.1 hY_se rfl rfl
      have hVs : ∀ i, i < (fb 0).toInt.toNat → fs i = (m_VR fb (fb 4) (fb 5)) i := fun i hi => z_intI (hA_se i (by omega)) (hPs i hi)
      clear ho hr ha hE hP hI hx_
      rename x_I _ _ _ _ _ _ _ _ _ _ => hI
      refine lv_iconst hx hb juX_d27 (v := 0) (by decide) ?_
      refine lv_istore_n hx hb juX_d28 rfl hl (by decide) (lv' := [(3, .int (0 : Int32)), (0, .ref this), (1, .int w), (2, .int t)]) rfl fun ls hl => ?_
      exact juX_L29 B rfl hs0 hA0 hcn hd0 hok 12 _ _ _ _ _ _ hI hY_this hY_bk hY_se hs_bk hs_se hA_bk hA_se (lv_sub hl [0, 1, 2, 3] rfl) (by first | assumption | omega) (by first | assumption | omega) (fun i hi => absurd hi (by omega)) (by omega)
    · have q15_ : r12.toInt = (0 : Int32).toInt := by rw [q15]
      have hno : ¬ (m_isS fb w ∧ 0 ≤ t.toInt ∧ t.toInt ≤ 1) := fun q9 => by first | (have h8 := hout_r2 (by assumption); have h7 := q9.1; unfold m_isS at h7; omega) | (have h8 := hout_r12 (by assumption); omega)
      refine lv_aload_n hx hb juX_d18 rfl (lv_at hl 0 rfl) ?_
      refine y_call (z := (0, 102, 1, some 17, xM143)) (av := [.ref this]) (rest := []) (y_cokV (n := 0) (ci := 12) X ym_bad rfl rfl rfl (x_cons (x_bw68 3 rfl rfl) (x_cons (x_bw68 5 rfl rfl) (x_cons (x_at 32 (by decide +kernel) rfl) (x_cons (x_bw0 9 rfl rfl) x_nilm)))) (x_bw68 6 rfl rfl) (by decide +kernel) ⟨Nat.le_of_ble_eq_true rfl, Nat.le_of_ble_eq_true rfl⟩) hY0 hI rfl juX_d19 hl.1 (Nat.le_of_ble_eq_true rfl) (Nat.le_of_ble_eq_true rfl) (Nat.le_of_ble_eq_true rfl) (y_cons (y_cref hY_this rfl) y_nil) rfl (y_recv rfl hY_this) trivial (y_sub_ef rfl) fun v Yn o Hn L ho hr ha hIn hx_ hE hP => ?_
      replace hs_bk := y_Efld hE hY_this rfl (by decide) (by decide) hs_bk
      replace hs_se := y_Efld hE hY_this rfl (by decide) (by decide) hs_se
      replace hA_bk := hA_bk.kept (y_Earr hE hY_bk rfl (by decide))
      replace hY_this := y_ext hx_ hI.1 hY_this
      replace hY_bk := y_ext hx_ hI.1 hY_bk
      replace hY_se := y_ext hx_ hI.1 hY_se
      have hPb := hP
      obtain rfl := hPb
      clear ho hr ha hE hP hI hx_
      rename x_I _ _ _ _ _ _ _ _ _ _ => hI
      exact y_ireturn B hI rfl rfl rfl List.mem_cons_self ⟨_, rfl, ⟨_, rfl, x_i32 _⟩⟩ (x_cs.mono B.2.2.2.2.2 (y_mon B hI)) (fun t' b' w0' w1' f' h1 h2 h3 h4 => by cases h1; cases h2.symm.trans hs0; cases z_uniq h4 hA0 h3 hcn; exact ⟨_, rfl, fun q9 => absurd q9 hno, fun _ => rfl⟩) (Nat.le_refl _) (Nat.le_refl _) juX_d22

