def m_hrR (f : Nat → Int32) (w : Int32) (k : Nat) : Bool := m_lw (m_VR f (f 4) (f (116 + k))) w (f 0).toInt.toNat
def z_PMhours : yP := fun D av _ H v _ H' => ∀ (this bk : Nat) (w : Int32) (f : Nat → Int32), av = [.ref this, .int w] → x_sl D 12 0 this H = some (.ref bk) → z_c f → y_A bk 160 H f → ∃ r : Int32, v = some (.int r) ∧ m_bitsOf (m_isS f w) (m_hrR f w) 12 r
theorem hoX_d0 : decode xM198.2.1 0 = .ok (.aload_n 0, 1) := dz_ok (by decide +kernel)
theorem hoX_d1 : decode xM198.2.1 1 = .ok (.iload_n 1, 1) := dz_ok (by decide +kernel)
theorem hoX_d2 : decode xM198.2.1 2 = .ok (.invokevirtual 237, 3) := dz_ok (by decide +kernel)
theorem hoX_d5 : decode xM198.2.1 5 = .ok (.ifCond .ne 8, 3) := dz_ok (by decide +kernel)
theorem hoX_d8 : decode xM198.2.1 8 = .ok (.aload_n 0, 1) := dz_ok (by decide +kernel)
theorem hoX_d9 : decode xM198.2.1 9 = .ok (.invokevirtual 102, 3) := dz_ok (by decide +kernel)
theorem hoX_d12 : decode xM198.2.1 12 = .ok (.ireturn, 1) := dz_ok (by decide +kernel)
theorem hoX_d13 : decode xM198.2.1 13 = .ok (.iconst 0, 1) := dz_ok (by decide +kernel)
theorem hoX_d14 : decode xM198.2.1 14 = .ok (.istore_n 2, 1) := dz_ok (by decide +kernel)
theorem hoX_d15 : decode xM198.2.1 15 = .ok (.iconst 0, 1) := dz_ok (by decide +kernel)
theorem hoX_d16 : decode xM198.2.1 16 = .ok (.istore_n 3, 1) := dz_ok (by decide +kernel)
theorem hoX_d17 : decode xM198.2.1 17 = .ok (.iload_n 3, 1) := dz_ok (by decide +kernel)
theorem hoX_d18 : decode xM198.2.1 18 = .ok (.bipush 12, 2) := dz_ok (by decide +kernel)
theorem hoX_d20 : decode xM198.2.1 20 = .ok (.if_icmp .ge 46, 3) := dz_ok (by decide +kernel)
theorem hoX_d23 : decode xM198.2.1 23 = .ok (.aload_n 0, 1) := dz_ok (by decide +kernel)
theorem hoX_d24 : decode xM198.2.1 24 = .ok (.aload_n 0, 1) := dz_ok (by decide +kernel)
theorem hoX_d25 : decode xM198.2.1 25 = .ok (.getfield 7, 3) := dz_ok (by decide +kernel)
theorem hoX_d28 : decode xM198.2.1 28 = .ok (.iconst 4, 1) := dz_ok (by decide +kernel)
theorem hoX_d29 : decode xM198.2.1 29 = .ok (.iaload, 1) := dz_ok (by decide +kernel)
theorem hoX_d30 : decode xM198.2.1 30 = .ok (.aload_n 0, 1) := dz_ok (by decide +kernel)
theorem hoX_d31 : decode xM198.2.1 31 = .ok (.getfield 7, 3) := dz_ok (by decide +kernel)
theorem hoX_d34 : decode xM198.2.1 34 = .ok (.bipush 116, 2) := dz_ok (by decide +kernel)
theorem hoX_d36 : decode xM198.2.1 36 = .ok (.iload_n 3, 1) := dz_ok (by decide +kernel)
theorem hoX_d37 : decode xM198.2.1 37 = .ok (.iadd, 1) := dz_ok (by decide +kernel)
theorem hoX_d38 : decode xM198.2.1 38 = .ok (.iaload, 1) := dz_ok (by decide +kernel)
theorem hoX_d39 : decode xM198.2.1 39 = .ok (.invokevirtual 144, 3) := dz_ok (by decide +kernel)
theorem hoX_d42 : decode xM198.2.1 42 = .ok (.iload_n 2, 1) := dz_ok (by decide +kernel)
theorem hoX_d43 : decode xM198.2.1 43 = .ok (.aload_n 0, 1) := dz_ok (by decide +kernel)
theorem hoX_d44 : decode xM198.2.1 44 = .ok (.iload_n 1, 1) := dz_ok (by decide +kernel)
theorem hoX_d45 : decode xM198.2.1 45 = .ok (.invokevirtual 243, 3) := dz_ok (by decide +kernel)
theorem hoX_d48 : decode xM198.2.1 48 = .ok (.ifCond .eq 9, 3) := dz_ok (by decide +kernel)
theorem hoX_d51 : decode xM198.2.1 51 = .ok (.iconst 1, 1) := dz_ok (by decide +kernel)
theorem hoX_d52 : decode xM198.2.1 52 = .ok (.iload_n 3, 1) := dz_ok (by decide +kernel)
theorem hoX_d53 : decode xM198.2.1 53 = .ok (.ishl, 1) := dz_ok (by decide +kernel)
theorem hoX_d54 : decode xM198.2.1 54 = .ok (.goto 4, 3) := dz_ok (by decide +kernel)
theorem hoX_d57 : decode xM198.2.1 57 = .ok (.iconst 0, 1) := dz_ok (by decide +kernel)
theorem hoX_d58 : decode xM198.2.1 58 = .ok (.ior, 1) := dz_ok (by decide +kernel)
theorem hoX_d59 : decode xM198.2.1 59 = .ok (.istore_n 2, 1) := dz_ok (by decide +kernel)
theorem hoX_d60 : decode xM198.2.1 60 = .ok (.iinc 3 1, 3) := dz_ok (by decide +kernel)
theorem hoX_d63 : decode xM198.2.1 63 = .ok (.goto (-46), 3) := dz_ok (by decide +kernel)
theorem hoX_d66 : decode xM198.2.1 66 = .ok (.iload_n 2, 1) := dz_ok (by decide +kernel)
theorem hoX_d67 : decode xM198.2.1 67 = .ok (.ireturn, 1) := dz_ok (by decide +kernel)
theorem hoX_L17 {p : Program} {l : Launch} {e : Env} {s : State} {m : MethodId} {below : List Frame} {meth : Method} {c : Code} {D : va_G} {U : State} {Y0 : xY} {av : List Value} (B : y_B vwCl x_Tb x_Nb xM198 p s m meth c D U Y0 av) {this bk se : Nat} {w : Int32} {fb : Nat → Int32} (hav : av = [.ref this, .int w]) (hs0 : x_sl D 12 0 this s.heap = some (.ref bk)) (hA0 : y_A bk 160 s.heap fb) (hcn : z_c fb) (hd0 : 0 ≤ (fb 0).toInt ∧ (fb 0).toInt ≤ 10) (hok : m_isS fb w)  :
    ∀ (n : Nat), ∀ (H : Heap) (Y : xY) (locs : List Loc) (ls : Array Slot) (k : Int32) (al : Int32), x_I D x_G x_Zs U (x_efs xM198) Y0 s.heap Y H locs → Y this = some 17 → Y bk = some 46 → Y se = some 51 → x_sl D 12 0 this H = some (.ref bk) → x_sl D 12 8 this H = some (.ref se) → y_A bk 160 H fb → lv_has ls xM198.2.2.1 [(3, .int k), (2, .int al), (0, .ref this), (1, .int w)] → (0 ≤ k.toInt ∧ k.toInt ≤ 12) → (al = m_gg (m_hrR fb w) 0 k.toInt.toNat) → (13 - k.toInt).toNat < n → W p l e (x_rm xM198) s m av.toArray below meth c H locs 0 0 (y_QQ below D x_G x_Zs U xM198 z_PMhours av Y0 s) (F0 m 17 ls []) := by
  have X := B.1
  have hx := X.1
  have hb := X.2.1
  have hY0 := B.2.2.2.2.1
  intro n
  induction n with
  | zero => intro _ _ _ _ _ _ _ _ _ _ _ _ _ _ _ _ h; exact absurd h (Nat.not_lt_zero _)
  | succ n ih =>
    intro H Y locs ls k al  hI hY_this hY_bk hY_se hs_bk hs_se hA_bk hl hk hal hn
    refine lv_iload_n hx hb hoX_d17 rfl (lv_at hl 0 rfl) ?_
    refine lv_bipush hx hb hoX_d18 (v := 12) (by decide) ?_
    have ec12 : (12 : Int32).toInt = 12 := by decide
    refine lv_icmp_ge hx hb hoX_d20 (tgt := 66) (by decide) (fun q20 => ?_) (fun q20 => ?_)
    · have q20_ : (12 : Int32).toInt ≤ k.toInt := x_le32.mp q20
      refine lv_iload_n hx hb hoX_d66 rfl (lv_at hl 1 rfl) ?_
      have hr9 : al = m_gg (m_hrR fb w) 0 12 := by rw [hal, show k.toInt.toNat = 12 by omega]
      subst hav
      exact y_ireturn B hI rfl rfl rfl List.mem_cons_self ⟨_, rfl, ⟨_, rfl, x_i32 _⟩⟩ (x_cs.mono B.2.2.2.2.2 (y_mon B hI)) (fun t' b' w0' f' h1 h2 h3 h4 => by cases h1; cases h2.symm.trans hs0; cases z_uniq h4 hA0 h3 hcn; exact ⟨_, rfl, fun _ => hr9, fun q9 => absurd hok q9⟩) (Nat.le_refl _) (Nat.le_refl _) hoX_d67
    · have q20_ : k.toInt < (12 : Int32).toInt := Int.not_le.mp fun q => q20 (x_le32.mpr q)
      refine lv_aload_n hx hb hoX_d23 rfl (lv_at hl 2 rfl) ?_
      refine lv_aload_n hx hb hoX_d24 rfl (lv_at hl 2 rfl) ?_
      refine y_getf X (fl190 X.2.2.2.2.1) hI.1 hY_this rfl hs_bk hoX_d25 ?_
      refine lv_iconst hx hb hoX_d28 (v := 4) (by decide) ?_
      have ec4 : (4 : Int32).toInt = 4 := by decide
      refine y_iald X hI.1 hY_bk rfl hA_bk (by omega) (by show _ < (160 : Int); omega) hoX_d29 ?_
      obtain ⟨e29, hg_e29⟩ : ∃ e29 : Int32, fb (4 : Int32).toInt.toNat = e29 := ⟨_, rfl⟩
      rw [hg_e29]
      refine lv_aload_n hx hb hoX_d30 rfl (lv_at hl 2 rfl) ?_
      refine y_getf X (fl190 X.2.2.2.2.1) hI.1 hY_this rfl hs_bk hoX_d31 ?_
      refine lv_bipush hx hb hoX_d34 (v := 116) (by decide) ?_
      have ec116 : (116 : Int32).toInt = 116 := by decide
      refine lv_iload_n hx hb hoX_d36 rfl (lv_at hl 0 rfl) ?_
      refine lv_iadd hx hb hoX_d37 ?_
      generalize hg_z37 : (116 : Int32) + k = z37
      have h_z37 : z37.toInt = 116 + k.toInt := by rw [← hg_z37]; have := y_add (x := (116 : Int32)) (y := k) (by rw [ec116]; omega) (by rw [ec116]; omega); rw [ec116] at this; exact this
      refine y_iald X hI.1 hY_bk rfl hA_bk (by omega) (by show _ < (160 : Int); omega) hoX_d38 ?_
      obtain ⟨e38, hg_e38⟩ : ∃ e38 : Int32, fb z37.toInt.toNat = e38 := ⟨_, rfl⟩
      rw [hg_e38]
      have hnk := m_nj hk.1
      have hy9 : e29 = fb 4 := hg_e29.symm
      subst hy9
      have hm9 : e38 = fb (116 + k.toInt.toNat) := by rw [← hg_e38]; congr 1; omega
      subst hm9
      refine y_call (z := (0, 144, 3, some 17, xM185)) (av := [.ref this, .int (fb 4), .int (fb (116 + k.toInt.toNat))]) (rest := []) (y_cokV (n := 2) (ci := 12) X ym_looks rfl rfl rfl (x_cons (x_bw77 12 rfl rfl) (x_cons (x_bw77 14 rfl rfl) (x_cons (x_at 51 (by decide +kernel) rfl) (x_cons (x_bw0 9 rfl rfl) x_nilm)))) (x_bw77 15 rfl rfl) (by decide +kernel) ⟨Nat.le_of_ble_eq_true rfl, Nat.le_of_ble_eq_true rfl⟩) hY0 hI rfl hoX_d39 hl.1 (Nat.le_of_ble_eq_true rfl) (Nat.le_of_ble_eq_true rfl) (Nat.le_of_ble_eq_true rfl) (y_cons (y_cref hY_this rfl) (y_cons ⟨_, rfl, x_i32 _⟩ (y_cons ⟨_, rfl, x_i32 _⟩ y_nil))) rfl (y_recv rfl hY_this) trivial (y_sub_ef rfl) fun v Yn o Hn L ho hr ha hIn hx_ hE hP => ?_
      have hPs := hP _ _ _ _ _ rfl hs_bk hcn hA_bk _ hs_se
      replace hs_bk := y_Efld hE hY_this rfl (by decide) (by decide) hs_bk
      replace hs_se := y_Efld hE hY_this rfl (by decide) (by decide) hs_se
      replace hA_bk := hA_bk.kept (y_Earr hE hY_bk rfl (by decide))
      replace hY_this := y_ext hx_ hI.1 hY_this
      replace hY_bk := y_ext hx_ hI.1 hY_bk
      replace hY_se := y_ext hx_ hI.1 hY_se
      obtain rfl := y_ansV rfl ho hr
      obtain ⟨fs, hA_se, -⟩ := y_arr hIn.1 hY_se rfl rfl
      have hVs : ∀ i, i < (fb 0).toInt.toNat → fs i = (m_VR fb (fb 4) (fb (116 + k.toInt.toNat))) i := fun i hi => z_intI (hA_se i (by omega)) (hPs i hi)
      clear ho hr ha hE hP hI hx_
      rename x_I _ _ _ _ _ _ _ _ _ _ => hI
      refine lv_iload_n hx hb hoX_d42 rfl (lv_at hl 1 rfl) ?_
      refine lv_aload_n hx hb hoX_d43 rfl (lv_at hl 2 rfl) ?_
      refine lv_iload_n hx hb hoX_d44 rfl (lv_at hl 3 rfl) ?_
      refine y_call (z := (0, 243, 2, some 17, xM191)) (av := [.ref this, .int w]) (rest := [.int al]) (y_cokV (n := 1) (ci := 12) X ym_isLawfulX rfl rfl rfl (x_cons (x_bw78 11 rfl rfl) (x_cons (x_bw78 13 rfl rfl) (x_cons (x_at 52 (by decide +kernel) rfl) (x_cons (x_bw0 9 rfl rfl) x_nilm)))) (x_bw78 14 rfl rfl) (by decide +kernel) ⟨Nat.le_of_ble_eq_true rfl, Nat.le_of_ble_eq_true rfl⟩) hY0 hI rfl hoX_d45 hl.1 (Nat.le_of_ble_eq_true rfl) (Nat.le_of_ble_eq_true rfl) (Nat.le_of_ble_eq_true rfl) (y_cons (y_cref hY_this rfl) (y_cons ⟨_, rfl, x_i32 _⟩ y_nil)) rfl (y_recv rfl hY_this) trivial (y_sub_ef rfl) fun v Yn o Hn L ho hr ha hIn hx_ hE hP => ?_
      have hPs := hP _ _ _ _ rfl hs_bk hcn hA_bk _ (m_VR fb (fb 4) (fb (116 + k.toInt.toNat))) hs_se (fun i hi => by rw [hA_se i (by omega), hVs i hi])
      obtain rfl := hPs
      replace hs_bk := y_Efld hE hY_this rfl (by decide) (by decide) hs_bk
      replace hs_se := y_Efld hE hY_this rfl (by decide) (by decide) hs_se
      replace hA_bk := hA_bk.kept (y_Earr hE hY_bk rfl (by decide))
      replace hA_se := hA_se.kept (y_Earr hE hY_se rfl (by decide))
      replace hY_this := y_ext hx_ hI.1 hY_this
      replace hY_bk := y_ext hx_ hI.1 hY_bk
      replace hY_se := y_ext hx_ hI.1 hY_se
      generalize hg_r45 : m_b (m_lw (m_VR fb (fb 4) (fb (116 + k.toInt.toNat))) w (fb 0).toInt.toNat) = r45
      clear ho hr ha hE hP hI hx_
      rename x_I _ _ _ _ _ _ _ _ _ _ => hI
      have ec0 : (0 : Int32).toInt = 0 := by decide
      refine lv_if_eq hx hb hoX_d48 (tgt := 57) (by decide) (fun q48 => ?_) (fun q48 => ?_)
      · have q48_ : r45.toInt = (0 : Int32).toInt := by rw [q48]
        refine lv_iconst hx hb hoX_d57 (v := 0) (by decide) ?_
        refine lv_ior hx hb hoX_d58 ?_
        generalize hg_z58 : al ||| (0 : Int32) = z58
        refine lv_istore_n hx hb hoX_d59 rfl hl (by decide) (lv' := [(2, .int z58), (3, .int k), (0, .ref this), (1, .int w)]) rfl fun ls hl => ?_
        obtain ⟨z60, hg_z60⟩ : ∃ z60 : Int32, k + Int32.ofInt 1 = z60 := ⟨_, rfl⟩
        have h_z60 : z60.toInt = k.toInt + 1 := by rw [← hg_z60]; exact y_inc (by decide) (by omega) (by omega)
        refine lv_iinc hx hb hoX_d60 hl (k := 1) rfl hg_z60 (by decide) (lv' := [(3, .int z60), (2, .int z58), (0, .ref this), (1, .int w)]) rfl fun ls hl => ?_
        refine lv_goto hx hb hoX_d63 (tgt := 17) (by decide) ?_
        have his : z60.toInt.toNat = k.toInt.toNat + 1 := by omega
        have hc : m_hrR fb w k.toInt.toNat = false := m_b0 (hg_r45.trans q48)
        exact ih _ _ _ _ _ _ hI hY_this hY_bk hY_se hs_bk hs_se hA_bk (lv_sub hl [0, 1, 2, 3] rfl) (by first | assumption | omega) (by rw [his, m_gg_F hc, ← hal, ← hg_z58]; exact m_or0) (by omega)
      · have q48_ : ¬ r45.toInt = (0 : Int32).toInt := fun q => q48 (Int32.toInt_inj.mp q)
        refine lv_iconst hx hb hoX_d51 (v := 1) (by decide) ?_
        have ec1 : (1 : Int32).toInt = 1 := by decide
        refine lv_iload_n hx hb hoX_d52 rfl (lv_at hl 0 rfl) ?_
        refine lv_ishl hx hb hoX_d53 ?_
        generalize hg_z53 : (1 : Int32) <<< (k &&& 31) = z53
        refine lv_goto hx hb hoX_d54 (tgt := 58) (by decide) ?_
        refine lv_ior hx hb hoX_d58 ?_
        generalize hg_z58 : al ||| z53 = z58
        refine lv_istore_n hx hb hoX_d59 rfl hl (by decide) (lv' := [(2, .int z58), (3, .int k), (0, .ref this), (1, .int w)]) rfl fun ls hl => ?_
        obtain ⟨z60, hg_z60⟩ : ∃ z60 : Int32, k + Int32.ofInt 1 = z60 := ⟨_, rfl⟩
        have h_z60 : z60.toInt = k.toInt + 1 := by rw [← hg_z60]; exact y_inc (by decide) (by omega) (by omega)
        refine lv_iinc hx hb hoX_d60 hl (k := 1) rfl hg_z60 (by decide) (lv' := [(3, .int z60), (2, .int z58), (0, .ref this), (1, .int w)]) rfl fun ls hl => ?_
        refine lv_goto hx hb hoX_d63 (tgt := 17) (by decide) ?_
        have his : z60.toInt.toNat = k.toInt.toNat + 1 := by omega
        have hc : m_hrR fb w k.toInt.toNat = true := m_bn (fun q => q48 (hg_r45.symm.trans q))
        exact ih _ _ _ _ _ _ hI hY_this hY_bk hY_se hs_bk hs_se hA_bk (lv_sub hl [0, 1, 2, 3] rfl) (by first | assumption | omega) (by rw [his, m_gg_T hc, hnk, ← hal, ← hg_z58, ← hg_z53]; rfl) (by omega)
theorem ym_hoursM : y_Met vwCl x_G x_Zs x_Tb x_Nb xM198 y_T z_PMhours := by
  refine y_main (by decide +kernel) (by decide +kernel) x_Tb_good x_Nb_ok ?_
  intro p l e s m below meth c D U Y0 av ls B hI _ hl
  have X := B.1
  have hx := X.1
  have hb := X.2.1
  have hY0 := B.2.2.2.2.1
  obtain ⟨v0, v1, rfl, hv0, ⟨w, rfl, -⟩⟩ := x_two B.2.2.2.2.2
  obtain ⟨this, t0, rfl, ht0, hY_this⟩ := x_ref_at hv0 rfl
  obtain rfl := List.mem_singleton.mp ht0
  replace hl : lv_has ls xM198.2.2.1 [(0, .ref this), (1, .int w)] := hl
  obtain ⟨bk, hs_bk, hY_bk⟩ := y_fldR (k := 0) hI.1 hY_this rfl rfl
  obtain ⟨fb9, hA9, hB9⟩ := y_arr hI.1 hY_bk rfl rfl
  obtain ⟨fb, hcn, hA_bk, hB_bk⟩ := z_canon (Y := Y0) (P := fun j v => x_c Y0 ([xI 0 10, xI 0 8, xI 0 8].getD j xF) (.int v)) hA9 hB9
  clear hA9 hB9 fb9
  have hs0 := hs_bk
  have hA0 := hA_bk
  have hd := z_hdr hB_bk
  have hd0 := hd.1
  have hd1 := hd.2.1
  obtain ⟨se, hs_se, hY_se⟩ := y_fldR (k := 8) hI.1 hY_this rfl rfl
  refine lv_aload_n hx hb hoX_d0 rfl (lv_at hl 0 rfl) ?_
  refine lv_iload_n hx hb hoX_d1 rfl (lv_at hl 1 rfl) ?_
  refine y_call (z := (0, 237, 2, some 17, xM184)) (av := [.ref this, .int w]) (rest := []) (y_cokV (n := 1) (ci := 12) X ym_isSet rfl rfl rfl (x_cons (x_bw77 0 rfl rfl) (x_cons (x_bw77 2 rfl rfl) (x_cons (x_at 48 (by decide +kernel) rfl) (x_cons (x_bw0 9 rfl rfl) x_nilm)))) (x_bw77 3 rfl rfl) (by decide +kernel) ⟨Nat.le_of_ble_eq_true rfl, Nat.le_of_ble_eq_true rfl⟩) hY0 hI rfl hoX_d2 hl.1 (Nat.le_of_ble_eq_true rfl) (Nat.le_of_ble_eq_true rfl) (Nat.le_of_ble_eq_true rfl) (y_cons (y_cref hY_this rfl) (y_cons ⟨_, rfl, x_i32 _⟩ y_nil)) rfl (y_recv rfl hY_this) trivial (y_sub_ef rfl) fun v Yn o Hn L ho hr ha hIn hx_ hE hP => ?_
  have hPv := hP _ _ _ _ rfl hs_bk (hA_bk 0 (by decide))
  replace hs_bk := y_Efld hE hY_this rfl (by decide) (by decide) hs_bk
  replace hs_se := y_Efld hE hY_this rfl (by decide) (by decide) hs_se
  replace hA_bk := hA_bk.kept (y_Earr hE hY_bk rfl (by decide))
  replace hY_this := y_ext hx_ hI.1 hY_this
  replace hY_bk := y_ext hx_ hI.1 hY_bk
  replace hY_se := y_ext hx_ hI.1 hY_se
  obtain ⟨r2, rfl, hin_r2, hout_r2⟩ := hPv
  clear ho hr ha hE hP hI hx_
  rename x_I _ _ _ _ _ _ _ _ _ _ => hI
  have ec0 : (0 : Int32).toInt = 0 := by decide
  refine lv_if_ne hx hb hoX_d5 (tgt := 13) (by decide) (fun q5 => ?_) (fun q5 => ?_)
  · have q5_ : ¬ r2.toInt = (0 : Int32).toInt := fun q => q5 (Int32.toInt_inj.mp q)
    have hok : m_isS fb w := hin_r2 (by assumption)
    refine lv_iconst hx hb hoX_d13 (v := 0) (by decide) ?_
    refine lv_istore_n hx hb hoX_d14 rfl hl (by decide) (lv' := [(2, .int (0 : Int32)), (0, .ref this), (1, .int w)]) rfl fun ls hl => ?_
    refine lv_iconst hx hb hoX_d15 (v := 0) (by decide) ?_
    refine lv_istore_n hx hb hoX_d16 rfl hl (by decide) (lv' := [(3, .int (0 : Int32)), (2, .int (0 : Int32)), (0, .ref this), (1, .int w)]) rfl fun ls hl => ?_
    exact hoX_L17 B rfl hs0 hA0 hcn hd0 hok 14 _ _ _ _ _ _ hI hY_this hY_bk hY_se hs_bk hs_se hA_bk (lv_sub hl [0, 1, 2, 3] rfl) (by first | assumption | omega) rfl (by omega)
  · have q5_ : r2.toInt = (0 : Int32).toInt := by rw [q5]
    have hno : ¬ m_isS fb w := fun h7 => by have h8 := hout_r2 (by assumption); unfold m_isS at h7; omega
    refine lv_aload_n hx hb hoX_d8 rfl (lv_at hl 0 rfl) ?_
    refine y_call (z := (0, 102, 1, some 17, xM143)) (av := [.ref this]) (rest := []) (y_cokV (n := 0) (ci := 12) X ym_bad rfl rfl rfl (x_cons (x_bw68 3 rfl rfl) (x_cons (x_bw68 5 rfl rfl) (x_cons (x_at 32 (by decide +kernel) rfl) (x_cons (x_bw0 9 rfl rfl) x_nilm)))) (x_bw68 6 rfl rfl) (by decide +kernel) ⟨Nat.le_of_ble_eq_true rfl, Nat.le_of_ble_eq_true rfl⟩) hY0 hI rfl hoX_d9 hl.1 (Nat.le_of_ble_eq_true rfl) (Nat.le_of_ble_eq_true rfl) (Nat.le_of_ble_eq_true rfl) (y_cons (y_cref hY_this rfl) y_nil) rfl (y_recv rfl hY_this) trivial (y_sub_ef rfl) fun v Yn o Hn L ho hr ha hIn hx_ hE hP => ?_
    replace hs_bk := y_Efld hE hY_this rfl (by decide) (by decide) hs_bk
    replace hs_se := y_Efld hE hY_this rfl (by decide) (by decide) hs_se
    replace hA_bk := hA_bk.kept (y_Earr hE hY_bk rfl (by decide))
    replace hY_this := y_ext hx_ hI.1 hY_this
    replace hY_bk := y_ext hx_ hI.1 hY_bk
    replace hY_se := y_ext hx_ hI.1 hY_se
    have hPb := hP
    obtain rfl := hPb
    clear ho hr ha hE hP hI hx_
    rename x_I _ _ _ _ _ _ _ _ _ _ => hI
    exact y_ireturn B hI rfl rfl rfl List.mem_cons_self ⟨_, rfl, ⟨_, rfl, x_i32 _⟩⟩ (x_cs.mono B.2.2.2.2.2 (y_mon B hI)) (fun t' b' w0' f' h1 h2 h3 h4 => by cases h1; cases h2.symm.trans hs0; cases z_uniq h4 hA0 h3 hcn; exact ⟨_, rfl, fun q9 => absurd q9 hno, fun _ => rfl⟩) (Nat.le_refl _) (Nat.le_refl _) hoX_d12

