theorem fl_tlX_240 {s : State} {args : Array Value} (hts : ∀ w ∈ x_Tb, w.before args s = true) : x_fok vwCl x_G x_Tb s args "TwinFires" (16, 0, 1) := ⟨11, _, RX11, TX11, "TwinFires", rfl, rfl, Nat.le_of_ble_eq_true rfl, iX11, (hts _ (x_bw16 10 rfl rfl)), fun x h => h⟩
theorem fw_tlX_241 {s : State} {args : Array Value} {mn : String} (hts : ∀ w ∈ x_Tb, w.before args s = true) : x_pok vwCl x_G x_Tb s args "TwinFires" mn (12, 0, 0) := ⟨11, _, RX11, TX11, "TwinFires", tyX11, _, rfl, rfl, Nat.le_of_ble_eq_true rfl, iX11, (hts _ (x_bw16 9 rfl rfl)), fun x h => h, tyX11_ok, nmX11, rfl, x_fitO _ _, Or.inl rfl⟩
theorem fw_tlX_242 {s : State} {args : Array Value} {mn : String} (hts : ∀ w ∈ x_Tb, w.before args s = true) : x_pok vwCl x_G x_Tb s args "TwinFires" mn (16, 0, 1) := ⟨11, _, RX11, TX11, "TwinFires", tyX11, _, rfl, rfl, Nat.le_of_ble_eq_true rfl, iX11, (hts _ (x_bw16 10 rfl rfl)), fun x h => h, tyX11_ok, nmX11, rfl, x_fitO _ _, Or.inl rfl⟩
theorem fl_tlX_243 {s : State} {args : Array Value} (hts : ∀ w ∈ x_Tb, w.before args s = true) : x_fok vwCl x_G x_Tb s args "TwinFires" (162, 4, 1) := ⟨7, _, RX7, TX7, "TwinFires$Text", rfl, rfl, Nat.le_of_ble_eq_true rfl, iX7, (hts _ (x_bw10 9 rfl rfl)), fun x h => h⟩
def z_PTld : yP := fun D av Y H v Y' H' => ∀ (this : Nat) (f : Nat → Int32) (K : Nat → Option (Nat → Int32)) (t9 : Nat → Int32) (n9 : Int32), av = [.ref this] → z_RC D Y H this f K t9 n9 → ∃ (r : Int32) (g : Nat → Int32), v = some (.int r) ∧ z_RC D Y' H' this g K t9 n9 ∧ m_land t9 n9.toInt.toNat f r g
theorem z_L.bd {D : va_G} {Zs : List xZ} {U : State} {Y : xY} {H : Heap} {q : Nat} {f : Nat → Int32} (h : z_L D Y q H f) (hq : Y q = some 2) (hH : x_H D x_G Zs U Y H) : m_bd f := by
  obtain ⟨x9, e9, b9⟩ := y_fldI (k := 0) hH hq rfl rfl
  rw [h.1.1] at e9
  cases e9
  obtain ⟨x8, e8, b8⟩ := y_fldI (k := 6) hH hq rfl rfl
  rw [h.1.2.1] at e8
  cases e8
  exact ⟨b9.2, b8.2⟩
theorem t_ni_neg {t : Nat → Int32} {n p : Nat} {r te : Int32} {fn : Nat → Int32} (h : t_ni t n p r te fn) (hr : 0 ≤ r.toInt) : (t_nx t n p).1 = 1 := by
  have hc := t_nx_c (t := t) (n := n) (p := p)
  by_cases h0 : (t_nx t n p).1 = 0
  · rw [h.1 h0] at hr
    exact absurd hr (by decide)
  by_cases h2 : (t_nx t n p).1 = 2
  · have := h.2.1 h2
    omega
  omega
theorem tlX_d0 : decode xMtl.2.1 0 = .ok (.aload_n 0, 1) := dz_ok (by decide +kernel)
theorem tlX_d1 : decode xMtl.2.1 1 = .ok (.getfield 16, 3) := dz_ok (by decide +kernel)
theorem tlX_d4 : decode xMtl.2.1 4 = .ok (.aload_n 0, 1) := dz_ok (by decide +kernel)
theorem tlX_d5 : decode xMtl.2.1 5 = .ok (.getfield 12, 3) := dz_ok (by decide +kernel)
theorem tlX_d8 : decode xMtl.2.1 8 = .ok (.invokevirtual 148, 3) := dz_ok (by decide +kernel)
theorem tlX_d11 : decode xMtl.2.1 11 = .ok (.aload_n 0, 1) := dz_ok (by decide +kernel)
theorem tlX_d12 : decode xMtl.2.1 12 = .ok (.getfield 16, 3) := dz_ok (by decide +kernel)
theorem tlX_d15 : decode xMtl.2.1 15 = .ok (.invokevirtual 152, 3) := dz_ok (by decide +kernel)
theorem tlX_d18 : decode xMtl.2.1 18 = .ok (.aload_n 0, 1) := dz_ok (by decide +kernel)
theorem tlX_d19 : decode xMtl.2.1 19 = .ok (.getfield 26, 3) := dz_ok (by decide +kernel)
theorem tlX_d22 : decode xMtl.2.1 22 = .ok (.invokevirtual 155, 3) := dz_ok (by decide +kernel)
theorem tlX_d25 : decode xMtl.2.1 25 = .ok (.iconst 0, 1) := dz_ok (by decide +kernel)
theorem tlX_d26 : decode xMtl.2.1 26 = .ok (.istore_n 1, 1) := dz_ok (by decide +kernel)
theorem tlX_d27 : decode xMtl.2.1 27 = .ok (.iconst (-1), 1) := dz_ok (by decide +kernel)
theorem tlX_d28 : decode xMtl.2.1 28 = .ok (.istore_n 2, 1) := dz_ok (by decide +kernel)
theorem tlX_d29 : decode xMtl.2.1 29 = .ok (.aload_n 0, 1) := dz_ok (by decide +kernel)
theorem tlX_d30 : decode xMtl.2.1 30 = .ok (.getfield 26, 3) := dz_ok (by decide +kernel)
theorem tlX_d33 : decode xMtl.2.1 33 = .ok (.invokevirtual 158, 3) := dz_ok (by decide +kernel)
theorem tlX_d36 : decode xMtl.2.1 36 = .ok (.istore_n 3, 1) := dz_ok (by decide +kernel)
theorem tlX_d37 : decode xMtl.2.1 37 = .ok (.iload_n 3, 1) := dz_ok (by decide +kernel)
theorem tlX_d38 : decode xMtl.2.1 38 = .ok (.ifCond .lt 49, 3) := dz_ok (by decide +kernel)
theorem tlX_d41 : decode xMtl.2.1 41 = .ok (.iload_n 1, 1) := dz_ok (by decide +kernel)
theorem tlX_d42 : decode xMtl.2.1 42 = .ok (.sipush 240, 3) := dz_ok (by decide +kernel)
theorem tlX_d45 : decode xMtl.2.1 45 = .ok (.if_icmp .ge 42, 3) := dz_ok (by decide +kernel)
theorem tlX_d48 : decode xMtl.2.1 48 = .ok (.iload_n 2, 1) := dz_ok (by decide +kernel)
theorem tlX_d49 : decode xMtl.2.1 49 = .ok (.iconst (-1), 1) := dz_ok (by decide +kernel)
theorem tlX_d50 : decode xMtl.2.1 50 = .ok (.if_icmp .ne 23, 3) := dz_ok (by decide +kernel)
theorem tlX_d53 : decode xMtl.2.1 53 = .ok (.aload_n 0, 1) := dz_ok (by decide +kernel)
theorem tlX_d54 : decode xMtl.2.1 54 = .ok (.getfield 16, 3) := dz_ok (by decide +kernel)
theorem tlX_d57 : decode xMtl.2.1 57 = .ok (.iload_n 3, 1) := dz_ok (by decide +kernel)
theorem tlX_d58 : decode xMtl.2.1 58 = .ok (.aload_n 0, 1) := dz_ok (by decide +kernel)
theorem tlX_d59 : decode xMtl.2.1 59 = .ok (.getfield 26, 3) := dz_ok (by decide +kernel)
theorem tlX_d62 : decode xMtl.2.1 62 = .ok (.getfield 162, 3) := dz_ok (by decide +kernel)
theorem tlX_d65 : decode xMtl.2.1 65 = .ok (.invokevirtual 165, 3) := dz_ok (by decide +kernel)
theorem tlX_d68 : decode xMtl.2.1 68 = .ok (.ifCond .ge 5, 3) := dz_ok (by decide +kernel)
theorem tlX_d71 : decode xMtl.2.1 71 = .ok (.iload_n 1, 1) := dz_ok (by decide +kernel)
theorem tlX_d72 : decode xMtl.2.1 72 = .ok (.istore_n 2, 1) := dz_ok (by decide +kernel)
theorem tlX_d73 : decode xMtl.2.1 73 = .ok (.iinc 1 1, 3) := dz_ok (by decide +kernel)
theorem tlX_d76 : decode xMtl.2.1 76 = .ok (.aload_n 0, 1) := dz_ok (by decide +kernel)
theorem tlX_d77 : decode xMtl.2.1 77 = .ok (.getfield 26, 3) := dz_ok (by decide +kernel)
theorem tlX_d80 : decode xMtl.2.1 80 = .ok (.invokevirtual 158, 3) := dz_ok (by decide +kernel)
theorem tlX_d83 : decode xMtl.2.1 83 = .ok (.istore_n 3, 1) := dz_ok (by decide +kernel)
theorem tlX_d84 : decode xMtl.2.1 84 = .ok (.goto (-47), 3) := dz_ok (by decide +kernel)
theorem tlX_d87 : decode xMtl.2.1 87 = .ok (.iload_n 3, 1) := dz_ok (by decide +kernel)
theorem tlX_d88 : decode xMtl.2.1 88 = .ok (.iconst (-1), 1) := dz_ok (by decide +kernel)
theorem tlX_d89 : decode xMtl.2.1 89 = .ok (.if_icmp .eq 5, 3) := dz_ok (by decide +kernel)
theorem tlX_d92 : decode xMtl.2.1 92 = .ok (.iload_n 3, 1) := dz_ok (by decide +kernel)
theorem tlX_d93 : decode xMtl.2.1 93 = .ok (.ireturn, 1) := dz_ok (by decide +kernel)
theorem tlX_d94 : decode xMtl.2.1 94 = .ok (.iload_n 2, 1) := dz_ok (by decide +kernel)
theorem tlX_d95 : decode xMtl.2.1 95 = .ok (.iconst (-1), 1) := dz_ok (by decide +kernel)
theorem tlX_d96 : decode xMtl.2.1 96 = .ok (.if_icmp .eq 9, 3) := dz_ok (by decide +kernel)
theorem tlX_d99 : decode xMtl.2.1 99 = .ok (.sipush (-1000), 3) := dz_ok (by decide +kernel)
theorem tlX_d102 : decode xMtl.2.1 102 = .ok (.iload_n 2, 1) := dz_ok (by decide +kernel)
theorem tlX_d103 : decode xMtl.2.1 103 = .ok (.isub, 1) := dz_ok (by decide +kernel)
theorem tlX_d104 : decode xMtl.2.1 104 = .ok (.ireturn, 1) := dz_ok (by decide +kernel)
theorem tlX_d105 : decode xMtl.2.1 105 = .ok (.aload_n 0, 1) := dz_ok (by decide +kernel)
theorem tlX_d106 : decode xMtl.2.1 106 = .ok (.getfield 12, 3) := dz_ok (by decide +kernel)
theorem tlX_d109 : decode xMtl.2.1 109 = .ok (.astore 4, 2) := dz_ok (by decide +kernel)
theorem tlX_d111 : decode xMtl.2.1 111 = .ok (.aload_n 0, 1) := dz_ok (by decide +kernel)
theorem tlX_d112 : decode xMtl.2.1 112 = .ok (.aload_n 0, 1) := dz_ok (by decide +kernel)
theorem tlX_d113 : decode xMtl.2.1 113 = .ok (.getfield 16, 3) := dz_ok (by decide +kernel)
theorem tlX_d116 : decode xMtl.2.1 116 = .ok (.putfield 12, 3) := dz_ok (by decide +kernel)
theorem tlX_d119 : decode xMtl.2.1 119 = .ok (.aload_n 0, 1) := dz_ok (by decide +kernel)
theorem tlX_d120 : decode xMtl.2.1 120 = .ok (.aload 4, 2) := dz_ok (by decide +kernel)
theorem tlX_d122 : decode xMtl.2.1 122 = .ok (.putfield 16, 3) := dz_ok (by decide +kernel)
theorem tlX_d125 : decode xMtl.2.1 125 = .ok (.iload_n 1, 1) := dz_ok (by decide +kernel)
theorem tlX_d126 : decode xMtl.2.1 126 = .ok (.ireturn, 1) := dz_ok (by decide +kernel)
theorem tlX_L37 {p : Program} {l : Launch} {e : Env} {s : State} {m : MethodId} {below : List Frame} {meth : Method} {c : Code} {D : va_G} {U : State} {Y0 : xY} {av : List Value} (B : y_B vwCl x_Tb x_Nb xMtl p s m meth c D U Y0 av) {this dr tx by_ nu : Nat} {f tt : Nat → Int32} {K : Nat → Option (Nat → Int32)} {nn : Int32} (hav : av = [.ref this]) (hR0 : z_RC D Y0 s.heap this f K tt nn) (htc : t_c tt) (hnn : 0 ≤ nn.toInt ∧ nn.toInt ≤ 240)  :
    ∀ (n : Nat), ∀ (H : Heap) (Y : xY) (locs : List Loc) (ls : Array Slot) (item : Int32) (rf : Int32) (its : Int32) (te : Int32) (k : Nat) (gd : Nat → Int32) (fn : Nat → Int32), x_I D x_G x_Zs U (x_efs xMtl) Y0 s.heap Y H locs → Y this = some 0 → Y dr = some 2 → Y tx = some 4 → Y by_ = some 39 → Y nu = some 40 → x_sl D 11 1 this H = some (.ref dr) → x_sl D 11 3 this H = some (.ref tx) → x_sl D 7 0 tx H = some (.ref by_) → x_sl D 7 1 tx H = some (.ref nu) → x_sl D 7 2 tx H = some (.int nn) → x_sl D 7 4 tx H = some (.int te) → y_A by_ 240 H tt → y_A nu 4 H fn → lv_has ls xMtl.2.2.1 [(3, .int item), (2, .int rf), (1, .int its), (0, .ref this)] → (its.toInt = (k : Int)) → (k ≤ 240) → (z_RC D Y H this f K tt nn) → (z_L D Y dr H gd) → (t_good tt nn.toInt.toNat its.toInt.toNat) → (t_ni tt nn.toInt.toNat (t_ip tt nn.toInt.toNat its.toInt.toNat) item te fn) → ((rf.toInt = -1 ∧ m_seq tt nn.toInt.toNat (m_beg f) its.toInt.toNat gd) ∨ (0 ≤ rf.toInt ∧ rf.toInt < its.toInt ∧ m_ref tt nn.toInt.toNat (m_beg f) rf.toInt.toNat)) → (241 - its.toInt).toNat < n → W p l e (x_rm xMtl) s m av.toArray below meth c H locs k (5 * k) (y_QQ below D x_G x_Zs U xMtl z_PTld av Y0 s) (F0 m 37 ls []) := by
  have X := B.1
  have hx := X.1
  have hb := X.2.1
  have hY0 := B.2.2.2.2.1
  intro n
  induction n with
  | zero => intro _ _ _ _ _ _ _ _ _ _ _ _ _ _ _ _ _ _ _ _ _ _ _ _ _ _ _ _ _ _ _ _ _ h; exact absurd h (Nat.not_lt_zero _)
  | succ n ih =>
    intro H Y locs ls item rf its te k gd fn hI hY_this hY_dr hY_tx hY_by_ hY_nu hs_dr hs_tx hs_by_ hs_nu hsi_length hsi_tokenEnd hA_by_ hA_nu hl hk hk2 hR hLd hgd hni hrf hn
    have hgl := t_good_le its.toInt.toNat hgd
    refine lv_iload_n hx hb tlX_d37 rfl (lv_at hl 0 rfl) ?_
    have ec0 : (0 : Int32).toInt = 0 := by decide
    refine lv_if_lt hx hb tlX_d38 (tgt := 87) (by decide) (fun q38 => ?_) (fun q38 => ?_)
    · have q38_ : item.toInt < (0 : Int32).toInt := x_lt32.mp q38
      have hc1 : ¬ (t_nx tt nn.toInt.toNat (t_ip tt nn.toInt.toNat its.toInt.toNat)).1 = 1 := fun q9 => by have h9 := t_nx_lt hgl.2 q9; have h8 := hni.2.2 q9; omega
      have hcc := t_nx_c (t := tt) (n := nn.toInt.toNat) (p := (t_ip tt nn.toInt.toNat its.toInt.toNat))
      refine lv_iload_n hx hb tlX_d87 rfl (lv_at hl 0 rfl) ?_
      refine lv_iconst hx hb tlX_d88 (v := (-1)) (by decide) ?_
      have ecm1 : ((-1) : Int32).toInt = (-1) := by decide
      refine lv_icmp_eq hx hb tlX_d89 (tgt := 94) (by decide) (fun q89 => ?_) (fun q89 => ?_)
      · have q89_ : item.toInt = ((-1) : Int32).toInt := by rw [q89]
        have h0c : (t_nx tt nn.toInt.toNat (t_ip tt nn.toInt.toNat its.toInt.toNat)).1 = 0 := by by_cases h2 : (t_nx tt nn.toInt.toNat (t_ip tt nn.toInt.toNat its.toInt.toNat)).1 = 2; (have h9 := hni.2.1 h2; omega); omega
        refine lv_iload_n hx hb tlX_d94 rfl (lv_at hl 1 rfl) ?_
        refine lv_iconst hx hb tlX_d95 (v := (-1)) (by decide) ?_
        refine lv_icmp_eq hx hb tlX_d96 (tgt := 105) (by decide) (fun q96 => ?_) (fun q96 => ?_)
        · have q96_ : rf.toInt = ((-1) : Int32).toInt := by rw [q96]
          refine lv_aload_n hx hb tlX_d105 rfl (lv_at hl 3 rfl) ?_
          obtain ⟨this_here, hs_this_here, hY_this_here⟩ := y_fldR (k := 0) hI.1 hY_this rfl rfl
          refine y_getf X (fl8 X.2.2.2.2.1) hI.1 hY_this rfl hs_this_here tlX_d106 ?_
          refine lv_astore hx hb tlX_d109 hl (by decide) (lv' := [(4, .ref this_here), (3, .int item), (2, .int rf), (1, .int its), (0, .ref this)]) rfl fun ls hl => ?_
          refine lv_aload_n hx hb tlX_d111 rfl (lv_at hl 4 rfl) ?_
          refine lv_aload_n hx hb tlX_d112 rfl (lv_at hl 4 rfl) ?_
          refine y_getf X (fl_tlX_240 X.2.2.2.2.1) hI.1 hY_this rfl hs_dr tlX_d113 ?_
          have hs_dr0 := hs_dr
          have hs_hd0 := hs_this_here
          refine y_putf X (fw_tlX_241 X.2.2.2.2.1) hY0 hI hY_this rfl rfl (y_crefA hY_dr rfl) (by decide +kernel) tlX_d116 fun H sl hI ho hs hk => ?_
          replace hs_dr := hk _ _ (by decide +kernel) (by decide) hs_dr
          replace hs_tx := hk _ _ (by decide +kernel) (by decide) hs_tx
          replace hs_by_ := y_slk hs_by_ (ho _ (y_ne hY_tx hY_this rfl))
          replace hs_nu := y_slk hs_nu (ho _ (y_ne hY_tx hY_this rfl))
          replace hsi_length := y_slk hsi_length (ho _ (y_ne hY_tx hY_this rfl))
          replace hsi_tokenEnd := y_slk hsi_tokenEnd (ho _ (y_ne hY_tx hY_this rfl))
          replace hA_by_ := hA_by_.kept (ho _ (y_ne hY_by_ hY_this rfl))
          replace hA_nu := hA_nu.kept (ho _ (y_ne hY_nu hY_this rfl))
          replace hs := hs
          replace hs_this_here := hs
          have ho1 := ho
          have hk1 := hk
          refine lv_aload_n hx hb tlX_d119 rfl (lv_at hl 4 rfl) ?_
          refine lv_aload hx hb tlX_d120 (lv_at hl 0 rfl) ?_
          refine y_putf X (fw_tlX_242 X.2.2.2.2.1) hY0 hI hY_this rfl rfl (y_crefA hY_this_here rfl) (by decide +kernel) tlX_d122 fun H sl hI ho hs hk => ?_
          replace hs_tx := hk _ _ (by decide +kernel) (by decide) hs_tx
          replace hs_by_ := y_slk hs_by_ (ho _ (y_ne hY_tx hY_this rfl))
          replace hs_nu := y_slk hs_nu (ho _ (y_ne hY_tx hY_this rfl))
          replace hsi_length := y_slk hsi_length (ho _ (y_ne hY_tx hY_this rfl))
          replace hsi_tokenEnd := y_slk hsi_tokenEnd (ho _ (y_ne hY_tx hY_this rfl))
          replace hs_this_here := hk _ _ (by decide +kernel) (by decide) hs_this_here
          replace hA_by_ := hA_by_.kept (ho _ (y_ne hY_by_ hY_this rfl))
          replace hA_nu := hA_nu.kept (ho _ (y_ne hY_nu hY_this rfl))
          replace hs := hs
          replace hs_dr := hs
          refine lv_iload_n hx hb tlX_d125 rfl (lv_at hl 3 rfl) ?_
          have hsq : m_seq tt nn.toInt.toNat (m_beg f) its.toInt.toNat gd := by rcases hrf with hrf | hrf; exact hrf.2; exact absurd hrf.1 (by omega)
          have hRs := hR.swap hY_this hs_hd0 hs_dr0 hLd hs_this_here hs_dr (hk 2 _ (by decide) (by decide) (hk1 2 _ (by decide) (by decide) rfl)) (hk 3 _ (by decide) (by decide) (hk1 3 _ (by decide) (by decide) rfl)) (fun b hb => (ho b hb).trans (ho1 b hb))
          subst hav
          exact y_ireturn B hI rfl rfl rfl List.mem_cons_self ⟨_, rfl, ⟨_, rfl, x_i32 _⟩⟩ (x_cs.mono B.2.2.2.2.2 (y_mon B hI)) (fun t' f' K' tt' nn' h1 h2 => by cases h1; obtain ⟨ef, et, en, eK⟩ := hR0.eqs h2; subst ef et en; exact ⟨_, _, rfl, (hRs).congr eK, its.toInt.toNat, (t_nx tt nn.toInt.toNat (t_ip tt nn.toInt.toNat its.toInt.toNat)).1, (t_nx tt nn.toInt.toNat (t_ip tt nn.toInt.toNat its.toInt.toNat)).2, ⟨hgd, rfl, hc1⟩, fun q9 => absurd q9 (by omega), fun _ => Or.inl ⟨hsq, by omega⟩⟩) (by show k ≤ 240; omega) (by show 5 * k ≤ 1200; omega) tlX_d126
        · have q96_ : ¬ rf.toInt = ((-1) : Int32).toInt := fun q => q96 (Int32.toInt_inj.mp q)
          have href : 0 ≤ rf.toInt ∧ rf.toInt < its.toInt ∧ m_ref tt nn.toInt.toNat (m_beg f) rf.toInt.toNat := by rcases hrf with hrf | hrf; exact absurd hrf.1 (by omega); exact hrf
          refine lv_sipush hx hb tlX_d99 (v := (-1000)) (by decide) ?_
          have ecm1000 : ((-1000) : Int32).toInt = (-1000) := by decide
          refine lv_iload_n hx hb tlX_d102 rfl (lv_at hl 1 rfl) ?_
          refine lv_isub hx hb tlX_d103 ?_
          generalize hg_z103 : ((-1000) : Int32) - rf = z103
          have h_z103 : z103.toInt = (-1000) - rf.toInt := by rw [← hg_z103]; have := y_sub (x := ((-1000) : Int32)) (y := rf) (by rw [ecm1000]; omega) (by rw [ecm1000]; omega); rw [ecm1000] at this; exact this
          subst hav
          exact y_ireturn B hI rfl rfl rfl List.mem_cons_self ⟨_, rfl, ⟨_, rfl, x_i32 _⟩⟩ (x_cs.mono B.2.2.2.2.2 (y_mon B hI)) (fun t' f' K' tt' nn' h1 h2 => by cases h1; obtain ⟨ef, et, en, eK⟩ := hR0.eqs h2; subst ef et en; exact ⟨_, _, rfl, (hR).congr eK, its.toInt.toNat, (t_nx tt nn.toInt.toNat (t_ip tt nn.toInt.toNat its.toInt.toNat)).1, (t_nx tt nn.toInt.toNat (t_ip tt nn.toInt.toNat its.toInt.toNat)).2, ⟨hgd, rfl, hc1⟩, fun q9 => absurd q9 (by omega), fun _ => Or.inr ⟨rf.toInt.toNat, by omega, href.2.2, by omega, rfl⟩⟩) (by show k ≤ 240; omega) (by show 5 * k ≤ 1200; omega) tlX_d104
      · have q89_ : ¬ item.toInt = ((-1) : Int32).toInt := fun q => q89 (Int32.toInt_inj.mp q)
        have h2c : (t_nx tt nn.toInt.toNat (t_ip tt nn.toInt.toNat its.toInt.toNat)).1 = 2 := by by_cases h0 : (t_nx tt nn.toInt.toNat (t_ip tt nn.toInt.toNat its.toInt.toNat)).1 = 0; (exact absurd (hni.1 h0) q89); omega
        refine lv_iload_n hx hb tlX_d92 rfl (lv_at hl 0 rfl) ?_
        subst hav
        exact y_ireturn B hI rfl rfl rfl List.mem_cons_self ⟨_, rfl, ⟨_, rfl, x_i32 _⟩⟩ (x_cs.mono B.2.2.2.2.2 (y_mon B hI)) (fun t' f' K' tt' nn' h1 h2 => by cases h1; obtain ⟨ef, et, en, eK⟩ := hR0.eqs h2; subst ef et en; exact ⟨_, _, rfl, (hR).congr eK, its.toInt.toNat, (t_nx tt nn.toInt.toNat (t_ip tt nn.toInt.toNat its.toInt.toNat)).1, (t_nx tt nn.toInt.toNat (t_ip tt nn.toInt.toNat its.toInt.toNat)).2, ⟨hgd, rfl, hc1⟩, fun _ => ⟨hni.2.1 h2c, rfl⟩, fun q9 => absurd q9 (by omega)⟩) (by show k ≤ 240; omega) (by show 5 * k ≤ 1200; omega) tlX_d93
    · have q38_ : (0 : Int32).toInt ≤ item.toInt := Int.not_lt.mp fun q => q38 (x_lt32.mpr q)
      refine lv_iload_n hx hb tlX_d41 rfl (lv_at hl 2 rfl) ?_
      refine lv_sipush hx hb tlX_d42 (v := 240) (by decide) ?_
      have ec240 : (240 : Int32).toInt = 240 := by decide
      refine lv_icmp_ge hx hb tlX_d45 (tgt := 87) (by decide) (fun q45 => ?_) (fun q45 => ?_)
      · have q45_ : (240 : Int32).toInt ≤ its.toInt := x_le32.mp q45
        have hc1 : ¬ (t_nx tt nn.toInt.toNat (t_ip tt nn.toInt.toNat its.toInt.toNat)).1 = 1 := fun q9 => by have h9 := t_nx_lt hgl.2 q9; have h8 := hni.2.2 q9; omega
        have hcc := t_nx_c (t := tt) (n := nn.toInt.toNat) (p := (t_ip tt nn.toInt.toNat its.toInt.toNat))
        refine lv_iload_n hx hb tlX_d87 rfl (lv_at hl 0 rfl) ?_
        refine lv_iconst hx hb tlX_d88 (v := (-1)) (by decide) ?_
        have ecm1 : ((-1) : Int32).toInt = (-1) := by decide
        refine lv_icmp_eq hx hb tlX_d89 (tgt := 94) (by decide) (fun q89 => ?_) (fun q89 => ?_)
        · have q89_ : item.toInt = ((-1) : Int32).toInt := by rw [q89]
          have h0c : (t_nx tt nn.toInt.toNat (t_ip tt nn.toInt.toNat its.toInt.toNat)).1 = 0 := by by_cases h2 : (t_nx tt nn.toInt.toNat (t_ip tt nn.toInt.toNat its.toInt.toNat)).1 = 2; (have h9 := hni.2.1 h2; omega); omega
          refine lv_iload_n hx hb tlX_d94 rfl (lv_at hl 1 rfl) ?_
          refine lv_iconst hx hb tlX_d95 (v := (-1)) (by decide) ?_
          refine lv_icmp_eq hx hb tlX_d96 (tgt := 105) (by decide) (fun q96 => ?_) (fun q96 => ?_)
          · have q96_ : rf.toInt = ((-1) : Int32).toInt := by rw [q96]
            refine lv_aload_n hx hb tlX_d105 rfl (lv_at hl 3 rfl) ?_
            obtain ⟨this_here, hs_this_here, hY_this_here⟩ := y_fldR (k := 0) hI.1 hY_this rfl rfl
            refine y_getf X (fl8 X.2.2.2.2.1) hI.1 hY_this rfl hs_this_here tlX_d106 ?_
            refine lv_astore hx hb tlX_d109 hl (by decide) (lv' := [(4, .ref this_here), (3, .int item), (2, .int rf), (1, .int its), (0, .ref this)]) rfl fun ls hl => ?_
            refine lv_aload_n hx hb tlX_d111 rfl (lv_at hl 4 rfl) ?_
            refine lv_aload_n hx hb tlX_d112 rfl (lv_at hl 4 rfl) ?_
            refine y_getf X (fl_tlX_240 X.2.2.2.2.1) hI.1 hY_this rfl hs_dr tlX_d113 ?_
            have hs_dr0 := hs_dr
            have hs_hd0 := hs_this_here
            refine y_putf X (fw_tlX_241 X.2.2.2.2.1) hY0 hI hY_this rfl rfl (y_crefA hY_dr rfl) (by decide +kernel) tlX_d116 fun H sl hI ho hs hk => ?_
            replace hs_dr := hk _ _ (by decide +kernel) (by decide) hs_dr
            replace hs_tx := hk _ _ (by decide +kernel) (by decide) hs_tx
            replace hs_by_ := y_slk hs_by_ (ho _ (y_ne hY_tx hY_this rfl))
            replace hs_nu := y_slk hs_nu (ho _ (y_ne hY_tx hY_this rfl))
            replace hsi_length := y_slk hsi_length (ho _ (y_ne hY_tx hY_this rfl))
            replace hsi_tokenEnd := y_slk hsi_tokenEnd (ho _ (y_ne hY_tx hY_this rfl))
            replace hA_by_ := hA_by_.kept (ho _ (y_ne hY_by_ hY_this rfl))
            replace hA_nu := hA_nu.kept (ho _ (y_ne hY_nu hY_this rfl))
            replace hs := hs
            replace hs_this_here := hs
            have ho1 := ho
            have hk1 := hk
            refine lv_aload_n hx hb tlX_d119 rfl (lv_at hl 4 rfl) ?_
            refine lv_aload hx hb tlX_d120 (lv_at hl 0 rfl) ?_
            refine y_putf X (fw_tlX_242 X.2.2.2.2.1) hY0 hI hY_this rfl rfl (y_crefA hY_this_here rfl) (by decide +kernel) tlX_d122 fun H sl hI ho hs hk => ?_
            replace hs_tx := hk _ _ (by decide +kernel) (by decide) hs_tx
            replace hs_by_ := y_slk hs_by_ (ho _ (y_ne hY_tx hY_this rfl))
            replace hs_nu := y_slk hs_nu (ho _ (y_ne hY_tx hY_this rfl))
            replace hsi_length := y_slk hsi_length (ho _ (y_ne hY_tx hY_this rfl))
            replace hsi_tokenEnd := y_slk hsi_tokenEnd (ho _ (y_ne hY_tx hY_this rfl))
            replace hs_this_here := hk _ _ (by decide +kernel) (by decide) hs_this_here
            replace hA_by_ := hA_by_.kept (ho _ (y_ne hY_by_ hY_this rfl))
            replace hA_nu := hA_nu.kept (ho _ (y_ne hY_nu hY_this rfl))
            replace hs := hs
            replace hs_dr := hs
            refine lv_iload_n hx hb tlX_d125 rfl (lv_at hl 3 rfl) ?_
            have hsq : m_seq tt nn.toInt.toNat (m_beg f) its.toInt.toNat gd := by rcases hrf with hrf | hrf; exact hrf.2; exact absurd hrf.1 (by omega)
            have hRs := hR.swap hY_this hs_hd0 hs_dr0 hLd hs_this_here hs_dr (hk 2 _ (by decide) (by decide) (hk1 2 _ (by decide) (by decide) rfl)) (hk 3 _ (by decide) (by decide) (hk1 3 _ (by decide) (by decide) rfl)) (fun b hb => (ho b hb).trans (ho1 b hb))
            subst hav
            exact y_ireturn B hI rfl rfl rfl List.mem_cons_self ⟨_, rfl, ⟨_, rfl, x_i32 _⟩⟩ (x_cs.mono B.2.2.2.2.2 (y_mon B hI)) (fun t' f' K' tt' nn' h1 h2 => by cases h1; obtain ⟨ef, et, en, eK⟩ := hR0.eqs h2; subst ef et en; exact ⟨_, _, rfl, (hRs).congr eK, its.toInt.toNat, (t_nx tt nn.toInt.toNat (t_ip tt nn.toInt.toNat its.toInt.toNat)).1, (t_nx tt nn.toInt.toNat (t_ip tt nn.toInt.toNat its.toInt.toNat)).2, ⟨hgd, rfl, hc1⟩, fun q9 => absurd q9 (by omega), fun _ => Or.inl ⟨hsq, by omega⟩⟩) (by show k ≤ 240; omega) (by show 5 * k ≤ 1200; omega) tlX_d126
          · have q96_ : ¬ rf.toInt = ((-1) : Int32).toInt := fun q => q96 (Int32.toInt_inj.mp q)
            have href : 0 ≤ rf.toInt ∧ rf.toInt < its.toInt ∧ m_ref tt nn.toInt.toNat (m_beg f) rf.toInt.toNat := by rcases hrf with hrf | hrf; exact absurd hrf.1 (by omega); exact hrf
            refine lv_sipush hx hb tlX_d99 (v := (-1000)) (by decide) ?_
            have ecm1000 : ((-1000) : Int32).toInt = (-1000) := by decide
            refine lv_iload_n hx hb tlX_d102 rfl (lv_at hl 1 rfl) ?_
            refine lv_isub hx hb tlX_d103 ?_
            generalize hg_z103 : ((-1000) : Int32) - rf = z103
            have h_z103 : z103.toInt = (-1000) - rf.toInt := by rw [← hg_z103]; have := y_sub (x := ((-1000) : Int32)) (y := rf) (by rw [ecm1000]; omega) (by rw [ecm1000]; omega); rw [ecm1000] at this; exact this
            subst hav
            exact y_ireturn B hI rfl rfl rfl List.mem_cons_self ⟨_, rfl, ⟨_, rfl, x_i32 _⟩⟩ (x_cs.mono B.2.2.2.2.2 (y_mon B hI)) (fun t' f' K' tt' nn' h1 h2 => by cases h1; obtain ⟨ef, et, en, eK⟩ := hR0.eqs h2; subst ef et en; exact ⟨_, _, rfl, (hR).congr eK, its.toInt.toNat, (t_nx tt nn.toInt.toNat (t_ip tt nn.toInt.toNat its.toInt.toNat)).1, (t_nx tt nn.toInt.toNat (t_ip tt nn.toInt.toNat its.toInt.toNat)).2, ⟨hgd, rfl, hc1⟩, fun q9 => absurd q9 (by omega), fun _ => Or.inr ⟨rf.toInt.toNat, by omega, href.2.2, by omega, rfl⟩⟩) (by show k ≤ 240; omega) (by show 5 * k ≤ 1200; omega) tlX_d104
        · have q89_ : ¬ item.toInt = ((-1) : Int32).toInt := fun q => q89 (Int32.toInt_inj.mp q)
          have h2c : (t_nx tt nn.toInt.toNat (t_ip tt nn.toInt.toNat its.toInt.toNat)).1 = 2 := by by_cases h0 : (t_nx tt nn.toInt.toNat (t_ip tt nn.toInt.toNat its.toInt.toNat)).1 = 0; (exact absurd (hni.1 h0) q89); omega
          refine lv_iload_n hx hb tlX_d92 rfl (lv_at hl 0 rfl) ?_
          subst hav
          exact y_ireturn B hI rfl rfl rfl List.mem_cons_self ⟨_, rfl, ⟨_, rfl, x_i32 _⟩⟩ (x_cs.mono B.2.2.2.2.2 (y_mon B hI)) (fun t' f' K' tt' nn' h1 h2 => by cases h1; obtain ⟨ef, et, en, eK⟩ := hR0.eqs h2; subst ef et en; exact ⟨_, _, rfl, (hR).congr eK, its.toInt.toNat, (t_nx tt nn.toInt.toNat (t_ip tt nn.toInt.toNat its.toInt.toNat)).1, (t_nx tt nn.toInt.toNat (t_ip tt nn.toInt.toNat its.toInt.toNat)).2, ⟨hgd, rfl, hc1⟩, fun _ => ⟨hni.2.1 h2c, rfl⟩, fun q9 => absurd q9 (by omega)⟩) (by show k ≤ 240; omega) (by show 5 * k ≤ 1200; omega) tlX_d93
      · have q45_ : its.toInt < (240 : Int32).toInt := Int.not_le.mp fun q => q45 (x_le32.mpr q)
        have hc1 := t_ni_neg hni (by omega)
        obtain ⟨hit9, hte9, hfn9⟩ := hni.2.2 hc1
        have hlt9 := t_nx_lt hgl.2 hc1
        have hbd9 := hLd.bd hY_dr hI.1
        have hle9 : te.toInt ≤ nn.toInt := by omega
        refine lv_iload_n hx hb tlX_d48 rfl (lv_at hl 1 rfl) ?_
        refine lv_iconst hx hb tlX_d49 (v := (-1)) (by decide) ?_
        have ecm1 : ((-1) : Int32).toInt = (-1) := by decide
        refine lv_icmp_ne hx hb tlX_d50 (tgt := 73) (by decide) (fun q50 => ?_) (fun q50 => ?_)
        · have q50_ : ¬ rf.toInt = ((-1) : Int32).toInt := fun q => q50 (Int32.toInt_inj.mp q)
          obtain ⟨z73, hg_z73⟩ : ∃ z73 : Int32, its + Int32.ofInt 1 = z73 := ⟨_, rfl⟩
          have h_z73 : z73.toInt = its.toInt + 1 := by rw [← hg_z73]; exact y_inc (by decide) (by omega) (by omega)
          refine lv_iinc hx hb tlX_d73 hl (k := 2) rfl hg_z73 (by decide) (lv' := [(1, .int z73), (3, .int item), (2, .int rf), (0, .ref this)]) rfl fun ls hl => ?_
          refine lv_aload_n hx hb tlX_d76 rfl (lv_at hl 3 rfl) ?_
          refine y_getf X (fl120 X.2.2.2.2.1) hI.1 hY_this rfl hs_tx tlX_d77 ?_
          refine y_call (z := (0, 158, 1, some 4, xMni)) (av := [.ref tx]) (rest := []) (y_cokV (n := 0) (ci := 7) X ym_nextX rfl rfl rfl (x_cons (x_bw35 14 rfl rfl) (x_cons (x_bw35 15 rfl rfl) (x_cons (x_bw36 0 rfl rfl) (x_cons (x_bw0 5 rfl rfl) x_nilm)))) (x_bw36 1 rfl rfl) (by decide +kernel) ⟨Nat.le_of_ble_eq_true rfl, Nat.le_of_ble_eq_true rfl⟩) hY0 hI rfl tlX_d80 hl.1 (Nat.le_of_ble_eq_true rfl) (by show k + _ ≤ 240; first | exact Nat.le_of_lt_succ (by show k + 0 < 241; omega) | (show k + 1 ≤ 240; omega) | (show k + 1 + 0 ≤ 240; omega)) (by show 5 * k + _ ≤ 1200; first | (show 5 * k + 0 ≤ 1200; omega) | (show 5 * k + 5 ≤ 1200; omega) | (show 5 * k + 5 + 0 ≤ 1200; omega)) (y_cons (y_cref hY_tx rfl) y_nil) rfl (y_recv rfl hY_tx) (fun t' ln' te' h1 h2 h3 => by cases h1; cases h2.symm.trans hsi_length; cases h3.symm.trans hsi_tokenEnd; exact hle9) (y_sub_ef rfl) fun v Yn o Hn L ho hr ha hIn hx_ hE hP => ?_
          have hPn := hP _ _ _ _ _ _ rfl hs_by_ hs_nu hsi_length hsi_tokenEnd htc hA_by_
          replace hs_dr := y_Efld hE hY_this rfl (by decide) (by decide) hs_dr
          replace hs_tx := y_Efld hE hY_this rfl (by decide) (by decide) hs_tx
          replace hs_by_ := y_Efld hE hY_tx rfl (by decide) (by decide) hs_by_
          replace hs_nu := y_Efld hE hY_tx rfl (by decide) (by decide) hs_nu
          replace hsi_length := y_Efld hE hY_tx rfl (by decide) (by decide) hsi_length
          replace hA_by_ := hA_by_.kept (y_Earr hE hY_by_ rfl (by decide))
          replace hR := hR.E hY_this hE (fun q u h => y_ext hx_ hI.1 h) (by decide +kernel)
          replace hLd := hLd.E hY_dr hE (fun q u h => y_ext hx_ hI.1 h) (by decide +kernel)
          replace hY_this := y_ext hx_ hI.1 hY_this
          replace hY_dr := y_ext hx_ hI.1 hY_dr
          replace hY_tx := y_ext hx_ hI.1 hY_tx
          replace hY_by_ := y_ext hx_ hI.1 hY_by_
          replace hY_nu := y_ext hx_ hI.1 hY_nu
          obtain ⟨r80, te80, fn80, rfl, hsi_tokenEnd, hA_nu, hni80⟩ := hPn
          clear ho hr ha hE hP hI hx_
          rename x_I _ _ _ _ _ _ _ _ _ _ => hI
          refine lv_istore_n hx hb tlX_d83 rfl hl (by decide) (lv' := [(3, .int r80), (1, .int z73), (2, .int rf), (0, .ref this)]) rfl fun ls hl => ?_
          refine lv_goto hx hb tlX_d84 (tgt := 37) (by decide) ?_
          refine W.widen (k := k + 1) (n := 5 * (k + 1)) (by first | (show k + 0 ≤ k + 1; omega) | (show k + 1 + 0 ≤ k + 1; omega)) (by first | (show 5 * k + 0 ≤ 5 * (k + 1); omega) | (show 5 * k + 5 + 0 ≤ 5 * (k + 1); omega)) ?_
          have his : z73.toInt.toNat = its.toInt.toNat + 1 := by omega
          have hip : t_ip tt nn.toInt.toNat z73.toInt.toNat = te.toInt.toNat := by rw [his]; show (t_nx tt nn.toInt.toNat (t_ip tt nn.toInt.toNat its.toInt.toNat)).2 = _; omega
          exact ih _ _ _ _ _ _ _ _ _ _ _ hI hY_this hY_dr hY_tx hY_by_ hY_nu hs_dr hs_tx hs_by_ hs_nu hsi_length hsi_tokenEnd hA_by_ hA_nu (lv_sub hl [0, 2, 1, 3] rfl) (by first | assumption | omega) (by first | assumption | omega) hR hLd (by rw [his]; exact t_good_S hgd hc1) (by rw [hip]; exact hni80) (by rcases hrf with hrf | hrf; (first | exact Or.inl ⟨hrf.1, by rw [his]; exact ⟨_, r9, hrf.2, hbd9, hm9, by omega⟩⟩ | exact absurd hrf.1 (by omega)); exact Or.inr ⟨hrf.1, by omega, hrf.2.2⟩) (by omega)
        · have q50_ : rf.toInt = ((-1) : Int32).toInt := by rw [q50]
          refine lv_aload_n hx hb tlX_d53 rfl (lv_at hl 3 rfl) ?_
          refine y_getf X (fl_tlX_240 X.2.2.2.2.1) hI.1 hY_this rfl hs_dr tlX_d54 ?_
          refine lv_iload_n hx hb tlX_d57 rfl (lv_at hl 0 rfl) ?_
          refine lv_aload_n hx hb tlX_d58 rfl (lv_at hl 3 rfl) ?_
          refine y_getf X (fl120 X.2.2.2.2.1) hI.1 hY_this rfl hs_tx tlX_d59 ?_
          refine y_getf X (fl_tlX_243 X.2.2.2.2.1) hI.1 hY_tx rfl hs_nu tlX_d62 ?_
          refine y_call (z := (0, 165, 3, some 2, xM66)) (av := [.ref dr, .int item, .ref nu]) (rest := []) (y_cokV (n := 2) (ci := 2) X ym_tellItem rfl rfl rfl (x_cons (x_bw41 6 rfl rfl) (x_cons (x_bw41 7 rfl rfl) (x_cons (x_bw41 8 rfl rfl) (x_cons (x_bw0 2 rfl rfl) x_nilm)))) (x_bw41 9 rfl rfl) (by decide +kernel) ⟨Nat.le_of_ble_eq_true rfl, Nat.le_of_ble_eq_true rfl⟩) hY0 hI rfl tlX_d65 hl.1 (Nat.le_of_ble_eq_true rfl) (by show k + _ ≤ 240; first | exact Nat.le_of_lt_succ (by show k + 0 < 241; omega) | (show k + 1 ≤ 240; omega) | (show k + 1 + 0 ≤ 240; omega)) (by show 5 * k + _ ≤ 1200; first | (show 5 * k + 0 ≤ 1200; omega) | (show 5 * k + 5 ≤ 1200; omega) | (show 5 * k + 5 + 0 ≤ 1200; omega)) (y_cons (y_cref hY_dr rfl) (y_cons ⟨_, rfl, x_i32 _⟩ (y_cons (y_cref hY_nu rfl) y_nil))) rfl (y_recv rfl hY_dr) (fun t' h1 => by cases h1; exact ⟨_, hLd⟩) (y_sub_ef rfl) fun v Yn o Hn L ho hr ha hIn hx_ hE hP => ?_
          obtain ⟨hF9, r9, g9, rfl, hL9, hm9⟩ := hP _ _ nn.toInt.toNat (t_ip tt nn.toInt.toNat its.toInt.toNat) _ _ _ tt rfl hLd hA_nu hit9 hfn9
          replace hR := hR.finD hY_this hs_dr hF9.toq hL9 (z_fldE hE hY_dr (by decide +kernel)) (fun q u h => y_ext hx_ hI.1 h)
          replace hLd := hL9
          replace hs_dr := y_Efld hE hY_this rfl (by decide) (by decide) hs_dr
          replace hs_tx := y_Efld hE hY_this rfl (by decide) (by decide) hs_tx
          replace hs_by_ := y_Efld hE hY_tx rfl (by decide) (by decide) hs_by_
          replace hs_nu := y_Efld hE hY_tx rfl (by decide) (by decide) hs_nu
          replace hsi_length := y_Efld hE hY_tx rfl (by decide) (by decide) hsi_length
          replace hsi_tokenEnd := y_Efld hE hY_tx rfl (by decide) (by decide) hsi_tokenEnd
          replace hA_by_ := hA_by_.kept (y_Earr hE hY_by_ rfl (by decide))
          replace hA_nu := hA_nu.kept (y_Earr hE hY_nu rfl (by decide))
          replace hY_this := y_ext hx_ hI.1 hY_this
          replace hY_dr := y_ext hx_ hI.1 hY_dr
          replace hY_tx := y_ext hx_ hI.1 hY_tx
          replace hY_by_ := y_ext hx_ hI.1 hY_by_
          replace hY_nu := y_ext hx_ hI.1 hY_nu
          clear ho hr ha hE hP hI hx_
          rename x_I _ _ _ _ _ _ _ _ _ _ => hI
          refine lv_if_ge hx hb tlX_d68 (tgt := 73) (by decide) (fun q68 => ?_) (fun q68 => ?_)
          · have q68_ : (0 : Int32).toInt ≤ r9.toInt := x_le32.mp q68
            obtain ⟨z73, hg_z73⟩ : ∃ z73 : Int32, its + Int32.ofInt 1 = z73 := ⟨_, rfl⟩
            have h_z73 : z73.toInt = its.toInt + 1 := by rw [← hg_z73]; exact y_inc (by decide) (by omega) (by omega)
            refine lv_iinc hx hb tlX_d73 hl (k := 2) rfl hg_z73 (by decide) (lv' := [(1, .int z73), (3, .int item), (2, .int rf), (0, .ref this)]) rfl fun ls hl => ?_
            refine lv_aload_n hx hb tlX_d76 rfl (lv_at hl 3 rfl) ?_
            refine y_getf X (fl120 X.2.2.2.2.1) hI.1 hY_this rfl hs_tx tlX_d77 ?_
            refine y_call (z := (0, 158, 1, some 4, xMni)) (av := [.ref tx]) (rest := []) (y_cokV (n := 0) (ci := 7) X ym_nextX rfl rfl rfl (x_cons (x_bw35 14 rfl rfl) (x_cons (x_bw35 15 rfl rfl) (x_cons (x_bw36 0 rfl rfl) (x_cons (x_bw0 5 rfl rfl) x_nilm)))) (x_bw36 1 rfl rfl) (by decide +kernel) ⟨Nat.le_of_ble_eq_true rfl, Nat.le_of_ble_eq_true rfl⟩) hY0 hI rfl tlX_d80 hl.1 (Nat.le_of_ble_eq_true rfl) (by show k + _ ≤ 240; first | exact Nat.le_of_lt_succ (by show k + 0 < 241; omega) | (show k + 1 ≤ 240; omega) | (show k + 1 + 0 ≤ 240; omega)) (by show 5 * k + _ ≤ 1200; first | (show 5 * k + 0 ≤ 1200; omega) | (show 5 * k + 5 ≤ 1200; omega) | (show 5 * k + 5 + 0 ≤ 1200; omega)) (y_cons (y_cref hY_tx rfl) y_nil) rfl (y_recv rfl hY_tx) (fun t' ln' te' h1 h2 h3 => by cases h1; cases h2.symm.trans hsi_length; cases h3.symm.trans hsi_tokenEnd; exact hle9) (y_sub_ef rfl) fun v Yn o Hn L ho hr ha hIn hx_ hE hP => ?_
            have hPn := hP _ _ _ _ _ _ rfl hs_by_ hs_nu hsi_length hsi_tokenEnd htc hA_by_
            replace hs_dr := y_Efld hE hY_this rfl (by decide) (by decide) hs_dr
            replace hs_tx := y_Efld hE hY_this rfl (by decide) (by decide) hs_tx
            replace hs_by_ := y_Efld hE hY_tx rfl (by decide) (by decide) hs_by_
            replace hs_nu := y_Efld hE hY_tx rfl (by decide) (by decide) hs_nu
            replace hsi_length := y_Efld hE hY_tx rfl (by decide) (by decide) hsi_length
            replace hA_by_ := hA_by_.kept (y_Earr hE hY_by_ rfl (by decide))
            replace hR := hR.E hY_this hE (fun q u h => y_ext hx_ hI.1 h) (by decide +kernel)
            replace hLd := hLd.E hY_dr hE (fun q u h => y_ext hx_ hI.1 h) (by decide +kernel)
            replace hY_this := y_ext hx_ hI.1 hY_this
            replace hY_dr := y_ext hx_ hI.1 hY_dr
            replace hY_tx := y_ext hx_ hI.1 hY_tx
            replace hY_by_ := y_ext hx_ hI.1 hY_by_
            replace hY_nu := y_ext hx_ hI.1 hY_nu
            obtain ⟨r80, te80, fn80, rfl, hsi_tokenEnd, hA_nu, hni80⟩ := hPn
            clear ho hr ha hE hP hI hx_
            rename x_I _ _ _ _ _ _ _ _ _ _ => hI
            refine lv_istore_n hx hb tlX_d83 rfl hl (by decide) (lv' := [(3, .int r80), (1, .int z73), (2, .int rf), (0, .ref this)]) rfl fun ls hl => ?_
            refine lv_goto hx hb tlX_d84 (tgt := 37) (by decide) ?_
            refine W.widen (k := k + 1) (n := 5 * (k + 1)) (by first | (show k + 0 ≤ k + 1; omega) | (show k + 1 + 0 ≤ k + 1; omega)) (by first | (show 5 * k + 0 ≤ 5 * (k + 1); omega) | (show 5 * k + 5 + 0 ≤ 5 * (k + 1); omega)) ?_
            have his : z73.toInt.toNat = its.toInt.toNat + 1 := by omega
            have hip : t_ip tt nn.toInt.toNat z73.toInt.toNat = te.toInt.toNat := by rw [his]; show (t_nx tt nn.toInt.toNat (t_ip tt nn.toInt.toNat its.toInt.toNat)).2 = _; omega
            exact ih _ _ _ _ _ _ _ _ _ _ _ hI hY_this hY_dr hY_tx hY_by_ hY_nu hs_dr hs_tx hs_by_ hs_nu hsi_length hsi_tokenEnd hA_by_ hA_nu (lv_sub hl [0, 2, 1, 3] rfl) (by first | assumption | omega) (by first | assumption | omega) hR hLd (by rw [his]; exact t_good_S hgd hc1) (by rw [hip]; exact hni80) (by rcases hrf with hrf | hrf; (first | exact Or.inl ⟨hrf.1, by rw [his]; exact ⟨_, r9, hrf.2, hbd9, hm9, by omega⟩⟩ | exact absurd hrf.1 (by omega)); exact Or.inr ⟨hrf.1, by omega, hrf.2.2⟩) (by omega)
          · have q68_ : r9.toInt < (0 : Int32).toInt := Int.not_le.mp fun q => q68 (x_le32.mpr q)
            refine lv_iload_n hx hb tlX_d71 rfl (lv_at hl 2 rfl) ?_
            refine lv_istore_n hx hb tlX_d72 rfl hl (by decide) (lv' := [(2, .int its), (3, .int item), (1, .int its), (0, .ref this)]) rfl fun ls hl => ?_
            obtain ⟨z73, hg_z73⟩ : ∃ z73 : Int32, its + Int32.ofInt 1 = z73 := ⟨_, rfl⟩
            have h_z73 : z73.toInt = its.toInt + 1 := by rw [← hg_z73]; exact y_inc (by decide) (by omega) (by omega)
            refine lv_iinc hx hb tlX_d73 hl (k := 2) rfl hg_z73 (by decide) (lv' := [(1, .int z73), (2, .int its), (3, .int item), (0, .ref this)]) rfl fun ls hl => ?_
            refine lv_aload_n hx hb tlX_d76 rfl (lv_at hl 3 rfl) ?_
            refine y_getf X (fl120 X.2.2.2.2.1) hI.1 hY_this rfl hs_tx tlX_d77 ?_
            refine y_call (z := (0, 158, 1, some 4, xMni)) (av := [.ref tx]) (rest := []) (y_cokV (n := 0) (ci := 7) X ym_nextX rfl rfl rfl (x_cons (x_bw35 14 rfl rfl) (x_cons (x_bw35 15 rfl rfl) (x_cons (x_bw36 0 rfl rfl) (x_cons (x_bw0 5 rfl rfl) x_nilm)))) (x_bw36 1 rfl rfl) (by decide +kernel) ⟨Nat.le_of_ble_eq_true rfl, Nat.le_of_ble_eq_true rfl⟩) hY0 hI rfl tlX_d80 hl.1 (Nat.le_of_ble_eq_true rfl) (by show k + _ ≤ 240; first | exact Nat.le_of_lt_succ (by show k + 0 < 241; omega) | (show k + 1 ≤ 240; omega) | (show k + 1 + 0 ≤ 240; omega)) (by show 5 * k + _ ≤ 1200; first | (show 5 * k + 0 ≤ 1200; omega) | (show 5 * k + 5 ≤ 1200; omega) | (show 5 * k + 5 + 0 ≤ 1200; omega)) (y_cons (y_cref hY_tx rfl) y_nil) rfl (y_recv rfl hY_tx) (fun t' ln' te' h1 h2 h3 => by cases h1; cases h2.symm.trans hsi_length; cases h3.symm.trans hsi_tokenEnd; exact hle9) (y_sub_ef rfl) fun v Yn o Hn L ho hr ha hIn hx_ hE hP => ?_
            have hPn := hP _ _ _ _ _ _ rfl hs_by_ hs_nu hsi_length hsi_tokenEnd htc hA_by_
            replace hs_dr := y_Efld hE hY_this rfl (by decide) (by decide) hs_dr
            replace hs_tx := y_Efld hE hY_this rfl (by decide) (by decide) hs_tx
            replace hs_by_ := y_Efld hE hY_tx rfl (by decide) (by decide) hs_by_
            replace hs_nu := y_Efld hE hY_tx rfl (by decide) (by decide) hs_nu
            replace hsi_length := y_Efld hE hY_tx rfl (by decide) (by decide) hsi_length
            replace hA_by_ := hA_by_.kept (y_Earr hE hY_by_ rfl (by decide))
            replace hR := hR.E hY_this hE (fun q u h => y_ext hx_ hI.1 h) (by decide +kernel)
            replace hLd := hLd.E hY_dr hE (fun q u h => y_ext hx_ hI.1 h) (by decide +kernel)
            replace hY_this := y_ext hx_ hI.1 hY_this
            replace hY_dr := y_ext hx_ hI.1 hY_dr
            replace hY_tx := y_ext hx_ hI.1 hY_tx
            replace hY_by_ := y_ext hx_ hI.1 hY_by_
            replace hY_nu := y_ext hx_ hI.1 hY_nu
            obtain ⟨r80, te80, fn80, rfl, hsi_tokenEnd, hA_nu, hni80⟩ := hPn
            clear ho hr ha hE hP hI hx_
            rename x_I _ _ _ _ _ _ _ _ _ _ => hI
            refine lv_istore_n hx hb tlX_d83 rfl hl (by decide) (lv' := [(3, .int r80), (1, .int z73), (2, .int its), (0, .ref this)]) rfl fun ls hl => ?_
            refine lv_goto hx hb tlX_d84 (tgt := 37) (by decide) ?_
            refine W.widen (k := k + 1) (n := 5 * (k + 1)) (by first | (show k + 0 ≤ k + 1; omega) | (show k + 1 + 0 ≤ k + 1; omega)) (by first | (show 5 * k + 0 ≤ 5 * (k + 1); omega) | (show 5 * k + 5 + 0 ≤ 5 * (k + 1); omega)) ?_
            have his : z73.toInt.toNat = its.toInt.toNat + 1 := by omega
            have hip : t_ip tt nn.toInt.toNat z73.toInt.toNat = te.toInt.toNat := by rw [his]; show (t_nx tt nn.toInt.toNat (t_ip tt nn.toInt.toNat its.toInt.toNat)).2 = _; omega
            exact ih _ _ _ _ _ _ _ _ _ _ _ hI hY_this hY_dr hY_tx hY_by_ hY_nu hs_dr hs_tx hs_by_ hs_nu hsi_length hsi_tokenEnd hA_by_ hA_nu (lv_sub hl [0, 2, 1, 3] rfl) (by first | assumption | omega) (by first | assumption | omega) hR hLd (by rw [his]; exact t_good_S hgd hc1) (by rw [hip]; exact hni80) (Or.inr ⟨by omega, by omega, by rcases hrf with hrf | hrf; exact ⟨_, r9, _, hrf.2, hbd9, hm9, by omega⟩; exact absurd hrf.1 (by omega)⟩) (by omega)
theorem ym_Tland : y_Met vwCl x_G x_Zs x_Tb x_Nb xMtl z_ATF z_PTld := by
  refine y_main (by decide +kernel) (by decide +kernel) x_Tb_good x_Nb_ok ?_
  intro p l e s m below meth c D U Y0 av ls B hI hpre hl
  have X := B.1
  have hx := X.1
  have hb := X.2.1
  have hY0 := B.2.2.2.2.1
  obtain ⟨v0, rfl, hv0⟩ := x_one B.2.2.2.2.2
  obtain ⟨this, t0, rfl, ht0, hY_this⟩ := x_ref_at hv0 rfl
  obtain rfl := List.mem_singleton.mp ht0
  replace hl : lv_has ls xMtl.2.2.1 [(0, .ref this)] := hl
  obtain ⟨f, K, tt, nn, hR⟩ := hpre _ rfl
  have hR0 := hR
  obtain ⟨hd, dr, kp, tx, by_, kk, ⟨hs_hd, hs_dr, -, hs_tx, hs_by_, hsi_length⟩, ⟨hY_hd, hY_dr, -, hY_tx, hY_by_, -⟩, hL, -, -, ⟨hdis, -⟩, htc, hA_by_⟩ := id hR
  obtain ⟨nu, hs_nu, hY_nu⟩ := y_fldR (k := 1) hI.1 hY_tx rfl rfl
  have hnn : 0 ≤ nn.toInt ∧ nn.toInt ≤ 240 := by obtain ⟨x9, e9, b9⟩ := y_fldI (k := 2) hI.1 hY_tx rfl rfl; rw [hsi_length] at e9; cases e9; exact b9
  refine lv_aload_n hx hb tlX_d0 rfl (lv_at hl 0 rfl) ?_
  refine y_getf X (fl_tlX_240 X.2.2.2.2.1) hI.1 hY_this rfl hs_dr tlX_d1 ?_
  refine lv_aload_n hx hb tlX_d4 rfl (lv_at hl 0 rfl) ?_
  refine y_getf X (fl8 X.2.2.2.2.1) hI.1 hY_this rfl hs_hd tlX_d5 ?_
  refine y_call (z := (0, 148, 2, some 2, xM58)) (av := [.ref dr, .ref hd]) (rest := []) (y_cokV (n := 1) (ci := 2) X ym_copyX rfl rfl rfl (x_cons (x_bw34 15 rfl rfl) (x_cons (x_bw35 0 rfl rfl) (x_cons (x_bw35 1 rfl rfl) (x_cons (x_bw0 2 rfl rfl) x_nilm)))) (x_bw35 2 rfl rfl) (by decide +kernel) ⟨Nat.le_of_ble_eq_true rfl, Nat.le_of_ble_eq_true rfl⟩) hY0 hI rfl tlX_d8 hl.1 (Nat.le_of_ble_eq_true rfl) (Nat.le_of_ble_eq_true rfl) (Nat.le_of_ble_eq_true rfl) (y_cons (y_cref hY_dr rfl) (y_cons (y_cref hY_hd rfl) y_nil)) rfl (y_recv rfl hY_dr) (fun t' o' h1 => by cases h1; exact ⟨_, hL, hdis⟩) (y_sub_ef rfl) fun v Yn o Hn L ho hr ha hIn hx_ hE hP => ?_
  obtain ⟨hF9, hL9, hf9⟩ := hP _ _ _ rfl hL
  replace hR := hR.finD hY_this hs_dr hF9.toq hL9 hf9 (fun q u h => y_ext hx_ hI.1 h)
  have hLd := hL9
  replace hs_hd := y_Efld hE hY_this rfl (by decide) (by decide) hs_hd
  replace hs_dr := y_Efld hE hY_this rfl (by decide) (by decide) hs_dr
  replace hs_tx := y_Efld hE hY_this rfl (by decide) (by decide) hs_tx
  replace hs_by_ := y_Efld hE hY_tx rfl (by decide) (by decide) hs_by_
  replace hs_nu := y_Efld hE hY_tx rfl (by decide) (by decide) hs_nu
  replace hsi_length := y_Efld hE hY_tx rfl (by decide) (by decide) hsi_length
  replace hA_by_ := hA_by_.kept (y_Earr hE hY_by_ rfl (by decide))
  replace hY_this := y_ext hx_ hI.1 hY_this
  replace hY_dr := y_ext hx_ hI.1 hY_dr
  replace hY_hd := y_ext hx_ hI.1 hY_hd
  replace hY_tx := y_ext hx_ hI.1 hY_tx
  replace hY_by_ := y_ext hx_ hI.1 hY_by_
  replace hY_nu := y_ext hx_ hI.1 hY_nu
  obtain rfl := y_ansV rfl ho hr
  clear ho hr ha hE hP hI hx_
  rename x_I _ _ _ _ _ _ _ _ _ _ => hI
  refine lv_aload_n hx hb tlX_d11 rfl (lv_at hl 0 rfl) ?_
  refine y_getf X (fl_tlX_240 X.2.2.2.2.1) hI.1 hY_this rfl hs_dr tlX_d12 ?_
  refine y_call (z := (0, 152, 1, some 2, xM59)) (av := [.ref dr]) (rest := []) (y_cokV (n := 0) (ci := 2) X ym_forget rfl rfl rfl (x_cons (x_bw35 6 rfl rfl) (x_cons (x_bw35 7 rfl rfl) (x_cons (x_bw35 8 rfl rfl) (x_cons (x_bw0 2 rfl rfl) x_nilm)))) (x_bw35 9 rfl rfl) (by decide +kernel) ⟨Nat.le_of_ble_eq_true rfl, Nat.le_of_ble_eq_true rfl⟩) hY0 hI rfl tlX_d15 hl.1 (Nat.le_of_ble_eq_true rfl) (Nat.le_of_ble_eq_true rfl) (Nat.le_of_ble_eq_true rfl) (y_cons (y_cref hY_dr rfl) y_nil) rfl (y_recv rfl hY_dr) (fun t' h1 => by cases h1; exact ⟨_, hLd⟩) (y_sub_ef rfl) fun v Yn o Hn L ho hr ha hIn hx_ hE hP => ?_
  obtain ⟨hF9, hL9⟩ := hP _ _ rfl hLd
  replace hR := hR.finD hY_this hs_dr hF9.toq hL9 (z_fldE hE hY_dr (by decide +kernel)) (fun q u h => y_ext hx_ hI.1 h)
  replace hLd := hL9
  replace hs_hd := y_Efld hE hY_this rfl (by decide) (by decide) hs_hd
  replace hs_dr := y_Efld hE hY_this rfl (by decide) (by decide) hs_dr
  replace hs_tx := y_Efld hE hY_this rfl (by decide) (by decide) hs_tx
  replace hs_by_ := y_Efld hE hY_tx rfl (by decide) (by decide) hs_by_
  replace hs_nu := y_Efld hE hY_tx rfl (by decide) (by decide) hs_nu
  replace hsi_length := y_Efld hE hY_tx rfl (by decide) (by decide) hsi_length
  replace hA_by_ := hA_by_.kept (y_Earr hE hY_by_ rfl (by decide))
  replace hY_this := y_ext hx_ hI.1 hY_this
  replace hY_dr := y_ext hx_ hI.1 hY_dr
  replace hY_hd := y_ext hx_ hI.1 hY_hd
  replace hY_tx := y_ext hx_ hI.1 hY_tx
  replace hY_by_ := y_ext hx_ hI.1 hY_by_
  replace hY_nu := y_ext hx_ hI.1 hY_nu
  obtain rfl := y_ansV rfl ho hr
  clear ho hr ha hE hP hI hx_
  rename x_I _ _ _ _ _ _ _ _ _ _ => hI
  refine lv_aload_n hx hb tlX_d18 rfl (lv_at hl 0 rfl) ?_
  refine y_getf X (fl120 X.2.2.2.2.1) hI.1 hY_this rfl hs_tx tlX_d19 ?_
  refine y_call (z := (0, 155, 1, some 4, xM60)) (av := [.ref tx]) (rest := []) (y_cokV (n := 0) (ci := 7) X ym_rewX rfl rfl rfl (x_cons (x_bw35 10 rfl rfl) (x_cons (x_bw35 11 rfl rfl) (x_cons (x_bw35 12 rfl rfl) (x_cons (x_bw0 5 rfl rfl) x_nilm)))) (x_bw35 13 rfl rfl) (by decide +kernel) ⟨Nat.le_of_ble_eq_true rfl, Nat.le_of_ble_eq_true rfl⟩) hY0 hI rfl tlX_d22 hl.1 (Nat.le_of_ble_eq_true rfl) (Nat.le_of_ble_eq_true rfl) (Nat.le_of_ble_eq_true rfl) (y_cons (y_cref hY_tx rfl) y_nil) rfl (y_recv rfl hY_tx) trivial (y_sub_ef rfl) fun v Yn o Hn L ho hr ha hIn hx_ hE hP => ?_
  have hPr := hP _ rfl
  replace hs_hd := y_Efld hE hY_this rfl (by decide) (by decide) hs_hd
  replace hs_dr := y_Efld hE hY_this rfl (by decide) (by decide) hs_dr
  replace hs_tx := y_Efld hE hY_this rfl (by decide) (by decide) hs_tx
  replace hs_by_ := y_Efld hE hY_tx rfl (by decide) (by decide) hs_by_
  replace hs_nu := y_Efld hE hY_tx rfl (by decide) (by decide) hs_nu
  replace hsi_length := y_Efld hE hY_tx rfl (by decide) (by decide) hsi_length
  replace hA_by_ := hA_by_.kept (y_Earr hE hY_by_ rfl (by decide))
  replace hR := hR.E hY_this hE (fun q u h => y_ext hx_ hI.1 h) (by decide +kernel)
  replace hLd := hLd.E hY_dr hE (fun q u h => y_ext hx_ hI.1 h) (by decide +kernel)
  replace hY_this := y_ext hx_ hI.1 hY_this
  replace hY_dr := y_ext hx_ hI.1 hY_dr
  replace hY_hd := y_ext hx_ hI.1 hY_hd
  replace hY_tx := y_ext hx_ hI.1 hY_tx
  replace hY_by_ := y_ext hx_ hI.1 hY_by_
  replace hY_nu := y_ext hx_ hI.1 hY_nu
  obtain rfl := y_ansV rfl ho hr
  have hsi_tokenEnd := hPr
  clear ho hr ha hE hP hI hx_
  rename x_I _ _ _ _ _ _ _ _ _ _ => hI
  refine lv_iconst hx hb tlX_d25 (v := 0) (by decide) ?_
  have ec0 : (0 : Int32).toInt = 0 := by decide
  refine lv_istore_n hx hb tlX_d26 rfl hl (by decide) (lv' := [(1, .int (0 : Int32)), (0, .ref this)]) rfl fun ls hl => ?_
  refine lv_iconst hx hb tlX_d27 (v := (-1)) (by decide) ?_
  have ecm1 : ((-1) : Int32).toInt = (-1) := by decide
  refine lv_istore_n hx hb tlX_d28 rfl hl (by decide) (lv' := [(2, .int ((-1) : Int32)), (1, .int (0 : Int32)), (0, .ref this)]) rfl fun ls hl => ?_
  refine lv_aload_n hx hb tlX_d29 rfl (lv_at hl 2 rfl) ?_
  refine y_getf X (fl120 X.2.2.2.2.1) hI.1 hY_this rfl hs_tx tlX_d30 ?_
  have ez0 : (0 : Int32).toInt = 0 := by decide
  have hle9 : (0 : Int32).toInt ≤ nn.toInt := by omega
  refine y_call (z := (0, 158, 1, some 4, xMni)) (av := [.ref tx]) (rest := []) (y_cokV (n := 0) (ci := 7) X ym_nextX rfl rfl rfl (x_cons (x_bw35 14 rfl rfl) (x_cons (x_bw35 15 rfl rfl) (x_cons (x_bw36 0 rfl rfl) (x_cons (x_bw0 5 rfl rfl) x_nilm)))) (x_bw36 1 rfl rfl) (by decide +kernel) ⟨Nat.le_of_ble_eq_true rfl, Nat.le_of_ble_eq_true rfl⟩) hY0 hI rfl tlX_d33 hl.1 (Nat.le_of_ble_eq_true rfl) (Nat.le_of_ble_eq_true rfl) (Nat.le_of_ble_eq_true rfl) (y_cons (y_cref hY_tx rfl) y_nil) rfl (y_recv rfl hY_tx) (fun t' ln' te' h1 h2 h3 => by cases h1; cases h2.symm.trans hsi_length; cases h3.symm.trans hsi_tokenEnd; exact hle9) (y_sub_ef rfl) fun v Yn o Hn L ho hr ha hIn hx_ hE hP => ?_
  have hPn := hP _ _ _ _ _ _ rfl hs_by_ hs_nu hsi_length hsi_tokenEnd htc hA_by_
  replace hs_hd := y_Efld hE hY_this rfl (by decide) (by decide) hs_hd
  replace hs_dr := y_Efld hE hY_this rfl (by decide) (by decide) hs_dr
  replace hs_tx := y_Efld hE hY_this rfl (by decide) (by decide) hs_tx
  replace hs_by_ := y_Efld hE hY_tx rfl (by decide) (by decide) hs_by_
  replace hs_nu := y_Efld hE hY_tx rfl (by decide) (by decide) hs_nu
  replace hsi_length := y_Efld hE hY_tx rfl (by decide) (by decide) hsi_length
  replace hA_by_ := hA_by_.kept (y_Earr hE hY_by_ rfl (by decide))
  replace hR := hR.E hY_this hE (fun q u h => y_ext hx_ hI.1 h) (by decide +kernel)
  replace hLd := hLd.E hY_dr hE (fun q u h => y_ext hx_ hI.1 h) (by decide +kernel)
  replace hY_this := y_ext hx_ hI.1 hY_this
  replace hY_dr := y_ext hx_ hI.1 hY_dr
  replace hY_hd := y_ext hx_ hI.1 hY_hd
  replace hY_tx := y_ext hx_ hI.1 hY_tx
  replace hY_by_ := y_ext hx_ hI.1 hY_by_
  replace hY_nu := y_ext hx_ hI.1 hY_nu
  obtain ⟨r33, te33, fn33, rfl, hsi_tokenEnd, hA_nu, hni33⟩ := hPn
  clear ho hr ha hE hP hI hx_
  rename x_I _ _ _ _ _ _ _ _ _ _ => hI
  refine lv_istore_n hx hb tlX_d36 rfl hl (by decide) (lv' := [(3, .int r33), (2, .int ((-1) : Int32)), (1, .int (0 : Int32)), (0, .ref this)]) rfl fun ls hl => ?_
  refine W.widen (k := 0) (n := 5 * 0) (Nat.le_of_ble_eq_true rfl) (Nat.le_of_ble_eq_true rfl) ?_
  exact tlX_L37 B rfl hR0 htc hnn 242 _ _ _ _ _ _ _ _ _ _ _ hI hY_this hY_dr hY_tx hY_by_ hY_nu hs_dr hs_tx hs_by_ hs_nu hsi_length hsi_tokenEnd hA_by_ hA_nu (lv_sub hl [0, 1, 2, 3] rfl) (by first | assumption | omega) (by first | assumption | omega) hR hLd (fun j hj => absurd hj (Nat.not_lt_zero _)) hni33 (Or.inl ⟨by decide, rfl⟩) (by omega)

