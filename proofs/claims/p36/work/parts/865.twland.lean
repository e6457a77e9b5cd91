theorem fl_tl_233 {s : State} {args : Array Value} (hts : ∀ w ∈ x_Tb, w.before args s = true) : x_fok vwCl x_G x_Tb s args "TwinFires" (16, 0, 1) := ⟨11, _, RX11, TX11, "TwinFires", rfl, rfl, Nat.le_of_ble_eq_true rfl, iX11, (hts _ (x_bw16 10 rfl rfl)), fun x h => h⟩
theorem fw_tl_234 {s : State} {args : Array Value} {mn : String} (hts : ∀ w ∈ x_Tb, w.before args s = true) : x_pok vwCl x_G x_Tb s args "TwinFires" mn (12, 0, 0) := ⟨11, _, RX11, TX11, "TwinFires", tyX11, _, rfl, rfl, Nat.le_of_ble_eq_true rfl, iX11, (hts _ (x_bw16 9 rfl rfl)), fun x h => h, tyX11_ok, nmX11, rfl, x_fitO _ _, Or.inl rfl⟩
theorem fw_tl_235 {s : State} {args : Array Value} {mn : String} (hts : ∀ w ∈ x_Tb, w.before args s = true) : x_pok vwCl x_G x_Tb s args "TwinFires" mn (16, 0, 1) := ⟨11, _, RX11, TX11, "TwinFires", tyX11, _, rfl, rfl, Nat.le_of_ble_eq_true rfl, iX11, (hts _ (x_bw16 10 rfl rfl)), fun x h => h, tyX11_ok, nmX11, rfl, x_fitO _ _, Or.inl rfl⟩
theorem fl_tl_236 {s : State} {args : Array Value} (hts : ∀ w ∈ x_Tb, w.before args s = true) : x_fok vwCl x_G x_Tb s args "TwinFires" (162, 4, 1) := ⟨7, _, RX7, TX7, "TwinFires$Text", rfl, rfl, Nat.le_of_ble_eq_true rfl, iX7, (hts _ (x_bw10 9 rfl rfl)), fun x h => h⟩
def xMtl : xM := (⟨"TwinFires", "land", "()I"⟩, prog_1_method_12_code, 5, some .int, [xR false [0]], [([xR false [0]], some (xF))], [(0, 0), (0, 1), (2, 0), (2, 6), (2, 12), (4, 3), (4, 4), (11, 0), (11, 1), (11, 2), (11, 3), (11, 4), (12, 0), (12, 1), (12, 2), (12, 3), (12, 4), (13, 0), (13, 1), (13, 2), (13, 3), (13, 4), (14, 0), (14, 1), (14, 2), (14, 3), (14, 4), (15, 0), (15, 1), (15, 2), (15, 3), (15, 4), (16, 0), (16, 1), (16, 2), (16, 3), (16, 4), (19, 0), (20, 0), (21, 0), (22, 0), (23, 0), (24, 0), (25, 0), (26, 0), (27, 0), (28, 0), (29, 0), (30, 0), (31, 0), (40, 0)], (7, 168, 240, 1200), none)
theorem tl_d0 : decode xMtl.2.1 0 = .ok (.aload_n 0, 1) := dz_ok (by decide +kernel)
theorem tl_d1 : decode xMtl.2.1 1 = .ok (.getfield 16, 3) := dz_ok (by decide +kernel)
theorem tl_d4 : decode xMtl.2.1 4 = .ok (.aload_n 0, 1) := dz_ok (by decide +kernel)
theorem tl_d5 : decode xMtl.2.1 5 = .ok (.getfield 12, 3) := dz_ok (by decide +kernel)
theorem tl_d8 : decode xMtl.2.1 8 = .ok (.invokevirtual 148, 3) := dz_ok (by decide +kernel)
theorem tl_d11 : decode xMtl.2.1 11 = .ok (.aload_n 0, 1) := dz_ok (by decide +kernel)
theorem tl_d12 : decode xMtl.2.1 12 = .ok (.getfield 16, 3) := dz_ok (by decide +kernel)
theorem tl_d15 : decode xMtl.2.1 15 = .ok (.invokevirtual 152, 3) := dz_ok (by decide +kernel)
theorem tl_d18 : decode xMtl.2.1 18 = .ok (.aload_n 0, 1) := dz_ok (by decide +kernel)
theorem tl_d19 : decode xMtl.2.1 19 = .ok (.getfield 26, 3) := dz_ok (by decide +kernel)
theorem tl_d22 : decode xMtl.2.1 22 = .ok (.invokevirtual 155, 3) := dz_ok (by decide +kernel)
theorem tl_d25 : decode xMtl.2.1 25 = .ok (.iconst 0, 1) := dz_ok (by decide +kernel)
theorem tl_d26 : decode xMtl.2.1 26 = .ok (.istore_n 1, 1) := dz_ok (by decide +kernel)
theorem tl_d27 : decode xMtl.2.1 27 = .ok (.iconst (-1), 1) := dz_ok (by decide +kernel)
theorem tl_d28 : decode xMtl.2.1 28 = .ok (.istore_n 2, 1) := dz_ok (by decide +kernel)
theorem tl_d29 : decode xMtl.2.1 29 = .ok (.aload_n 0, 1) := dz_ok (by decide +kernel)
theorem tl_d30 : decode xMtl.2.1 30 = .ok (.getfield 26, 3) := dz_ok (by decide +kernel)
theorem tl_d33 : decode xMtl.2.1 33 = .ok (.invokevirtual 158, 3) := dz_ok (by decide +kernel)
theorem tl_d36 : decode xMtl.2.1 36 = .ok (.istore_n 3, 1) := dz_ok (by decide +kernel)
theorem tl_d37 : decode xMtl.2.1 37 = .ok (.iload_n 3, 1) := dz_ok (by decide +kernel)
theorem tl_d38 : decode xMtl.2.1 38 = .ok (.ifCond .lt 49, 3) := dz_ok (by decide +kernel)
theorem tl_d41 : decode xMtl.2.1 41 = .ok (.iload_n 1, 1) := dz_ok (by decide +kernel)
theorem tl_d42 : decode xMtl.2.1 42 = .ok (.sipush 240, 3) := dz_ok (by decide +kernel)
theorem tl_d45 : decode xMtl.2.1 45 = .ok (.if_icmp .ge 42, 3) := dz_ok (by decide +kernel)
theorem tl_d48 : decode xMtl.2.1 48 = .ok (.iload_n 2, 1) := dz_ok (by decide +kernel)
theorem tl_d49 : decode xMtl.2.1 49 = .ok (.iconst (-1), 1) := dz_ok (by decide +kernel)
theorem tl_d50 : decode xMtl.2.1 50 = .ok (.if_icmp .ne 23, 3) := dz_ok (by decide +kernel)
theorem tl_d53 : decode xMtl.2.1 53 = .ok (.aload_n 0, 1) := dz_ok (by decide +kernel)
theorem tl_d54 : decode xMtl.2.1 54 = .ok (.getfield 16, 3) := dz_ok (by decide +kernel)
theorem tl_d57 : decode xMtl.2.1 57 = .ok (.iload_n 3, 1) := dz_ok (by decide +kernel)
theorem tl_d58 : decode xMtl.2.1 58 = .ok (.aload_n 0, 1) := dz_ok (by decide +kernel)
theorem tl_d59 : decode xMtl.2.1 59 = .ok (.getfield 26, 3) := dz_ok (by decide +kernel)
theorem tl_d62 : decode xMtl.2.1 62 = .ok (.getfield 162, 3) := dz_ok (by decide +kernel)
theorem tl_d65 : decode xMtl.2.1 65 = .ok (.invokevirtual 165, 3) := dz_ok (by decide +kernel)
theorem tl_d68 : decode xMtl.2.1 68 = .ok (.ifCond .ge 5, 3) := dz_ok (by decide +kernel)
theorem tl_d71 : decode xMtl.2.1 71 = .ok (.iload_n 1, 1) := dz_ok (by decide +kernel)
theorem tl_d72 : decode xMtl.2.1 72 = .ok (.istore_n 2, 1) := dz_ok (by decide +kernel)
theorem tl_d73 : decode xMtl.2.1 73 = .ok (.iinc 1 1, 3) := dz_ok (by decide +kernel)
theorem tl_d76 : decode xMtl.2.1 76 = .ok (.aload_n 0, 1) := dz_ok (by decide +kernel)
theorem tl_d77 : decode xMtl.2.1 77 = .ok (.getfield 26, 3) := dz_ok (by decide +kernel)
theorem tl_d80 : decode xMtl.2.1 80 = .ok (.invokevirtual 158, 3) := dz_ok (by decide +kernel)
theorem tl_d83 : decode xMtl.2.1 83 = .ok (.istore_n 3, 1) := dz_ok (by decide +kernel)
theorem tl_d84 : decode xMtl.2.1 84 = .ok (.goto (-47), 3) := dz_ok (by decide +kernel)
theorem tl_d87 : decode xMtl.2.1 87 = .ok (.iload_n 3, 1) := dz_ok (by decide +kernel)
theorem tl_d88 : decode xMtl.2.1 88 = .ok (.iconst (-1), 1) := dz_ok (by decide +kernel)
theorem tl_d89 : decode xMtl.2.1 89 = .ok (.if_icmp .eq 5, 3) := dz_ok (by decide +kernel)
theorem tl_d92 : decode xMtl.2.1 92 = .ok (.iload_n 3, 1) := dz_ok (by decide +kernel)
theorem tl_d93 : decode xMtl.2.1 93 = .ok (.ireturn, 1) := dz_ok (by decide +kernel)
theorem tl_d94 : decode xMtl.2.1 94 = .ok (.iload_n 2, 1) := dz_ok (by decide +kernel)
theorem tl_d95 : decode xMtl.2.1 95 = .ok (.iconst (-1), 1) := dz_ok (by decide +kernel)
theorem tl_d96 : decode xMtl.2.1 96 = .ok (.if_icmp .eq 9, 3) := dz_ok (by decide +kernel)
theorem tl_d99 : decode xMtl.2.1 99 = .ok (.sipush (-1000), 3) := dz_ok (by decide +kernel)
theorem tl_d102 : decode xMtl.2.1 102 = .ok (.iload_n 2, 1) := dz_ok (by decide +kernel)
theorem tl_d103 : decode xMtl.2.1 103 = .ok (.isub, 1) := dz_ok (by decide +kernel)
theorem tl_d104 : decode xMtl.2.1 104 = .ok (.ireturn, 1) := dz_ok (by decide +kernel)
theorem tl_d105 : decode xMtl.2.1 105 = .ok (.aload_n 0, 1) := dz_ok (by decide +kernel)
theorem tl_d106 : decode xMtl.2.1 106 = .ok (.getfield 12, 3) := dz_ok (by decide +kernel)
theorem tl_d109 : decode xMtl.2.1 109 = .ok (.astore 4, 2) := dz_ok (by decide +kernel)
theorem tl_d111 : decode xMtl.2.1 111 = .ok (.aload_n 0, 1) := dz_ok (by decide +kernel)
theorem tl_d112 : decode xMtl.2.1 112 = .ok (.aload_n 0, 1) := dz_ok (by decide +kernel)
theorem tl_d113 : decode xMtl.2.1 113 = .ok (.getfield 16, 3) := dz_ok (by decide +kernel)
theorem tl_d116 : decode xMtl.2.1 116 = .ok (.putfield 12, 3) := dz_ok (by decide +kernel)
theorem tl_d119 : decode xMtl.2.1 119 = .ok (.aload_n 0, 1) := dz_ok (by decide +kernel)
theorem tl_d120 : decode xMtl.2.1 120 = .ok (.aload 4, 2) := dz_ok (by decide +kernel)
theorem tl_d122 : decode xMtl.2.1 122 = .ok (.putfield 16, 3) := dz_ok (by decide +kernel)
theorem tl_d125 : decode xMtl.2.1 125 = .ok (.iload_n 1, 1) := dz_ok (by decide +kernel)
theorem tl_d126 : decode xMtl.2.1 126 = .ok (.ireturn, 1) := dz_ok (by decide +kernel)
theorem tl_L37 {p : Program} {l : Launch} {e : Env} {s : State} {m : MethodId} {below : List Frame} {meth : Method} {c : Code} {D : va_G} {U : State} {Y0 : xY} {av : List Value} (B : y_B vwCl x_Tb x_Nb xMtl p s m meth c D U Y0 av) {this dr tx : Nat}  :
    ∀ (n : Nat), ∀ (H : Heap) (Y : xY) (locs : List Loc) (ls : Array Slot) (item : Int32) (ref_ : Int32) (items : Int32) (k : Nat), x_I D x_G x_Zs U (x_efs xMtl) Y0 s.heap Y H locs → Y this = some 0 → Y dr = some 2 → Y tx = some 4 → x_sl D 11 1 this H = some (.ref dr) → x_sl D 11 3 this H = some (.ref tx) → lv_has ls xMtl.2.2.1 [(3, .int item), (2, .int ref_), (1, .int items), (0, .ref this)] → (items.toInt = (k : Int)) → (k ≤ 240) → (241 - items.toInt).toNat < n → W p l e (x_rm xMtl) s m av.toArray below meth c H locs k (5 * k) (y_QQ below D x_G x_Zs U xMtl y_TP av Y0 s) (F0 m 37 ls []) := by
  have X := B.1
  have hx := X.1
  have hb := X.2.1
  have hY0 := B.2.2.2.2.1
  intro n
  induction n with
  | zero => intro _ _ _ _ _ _ _ _ _ _ _ _ _ _ _ _ _ h; exact absurd h (Nat.not_lt_zero _)
  | succ n ih =>
    intro H Y locs ls item ref_ items k  hI hY_this hY_dr hY_tx hs_dr hs_tx hl hk hk2 hn
    refine lv_iload_n hx hb tl_d37 rfl (lv_at hl 0 rfl) ?_
    have ec0 : (0 : Int32).toInt = 0 := by decide
    refine lv_if_lt hx hb tl_d38 (tgt := 87) (by decide) (fun q38 => ?_) (fun q38 => ?_)
    · have q38_ : item.toInt < (0 : Int32).toInt := x_lt32.mp q38
      refine lv_iload_n hx hb tl_d87 rfl (lv_at hl 0 rfl) ?_
      refine lv_iconst hx hb tl_d88 (v := (-1)) (by decide) ?_
      have ecm1 : ((-1) : Int32).toInt = (-1) := by decide
      refine lv_icmp_eq hx hb tl_d89 (tgt := 94) (by decide) (fun q89 => ?_) (fun q89 => ?_)
      · have q89_ : item.toInt = ((-1) : Int32).toInt := by rw [q89]
        refine lv_iload_n hx hb tl_d94 rfl (lv_at hl 1 rfl) ?_
        refine lv_iconst hx hb tl_d95 (v := (-1)) (by decide) ?_
        refine lv_icmp_eq hx hb tl_d96 (tgt := 105) (by decide) (fun q96 => ?_) (fun q96 => ?_)
        · have q96_ : ref_.toInt = ((-1) : Int32).toInt := by rw [q96]
          refine lv_aload_n hx hb tl_d105 rfl (lv_at hl 3 rfl) ?_
          obtain ⟨this_here, hs_this_here, hY_this_here⟩ := y_fldR (k := 0) hI.1 hY_this rfl rfl
          refine y_getf X (fl8 X.2.2.2.2.1) hI.1 hY_this rfl hs_this_here tl_d106 ?_
          refine lv_astore hx hb tl_d109 hl (by decide) (lv' := [(4, .ref this_here), (3, .int item), (2, .int ref_), (1, .int items), (0, .ref this)]) rfl fun ls hl => ?_
          refine lv_aload_n hx hb tl_d111 rfl (lv_at hl 4 rfl) ?_
          refine lv_aload_n hx hb tl_d112 rfl (lv_at hl 4 rfl) ?_
          refine y_getf X (fl_tl_233 X.2.2.2.2.1) hI.1 hY_this rfl hs_dr tl_d113 ?_
          refine y_putf X (fw_tl_234 X.2.2.2.2.1) hY0 hI hY_this rfl rfl (y_crefA hY_dr rfl) (by decide +kernel) tl_d116 fun H sl hI ho hs hk => ?_
          replace hs_dr := hk _ _ (by decide +kernel) (by decide) hs_dr
          replace hs_tx := hk _ _ (by decide +kernel) (by decide) hs_tx
          replace hs := hs
          replace hs_this_here := hs
          refine lv_aload_n hx hb tl_d119 rfl (lv_at hl 4 rfl) ?_
          refine lv_aload hx hb tl_d120 (lv_at hl 0 rfl) ?_
          refine y_putf X (fw_tl_235 X.2.2.2.2.1) hY0 hI hY_this rfl rfl (y_crefA hY_this_here rfl) (by decide +kernel) tl_d122 fun H sl hI ho hs hk => ?_
          replace hs_tx := hk _ _ (by decide +kernel) (by decide) hs_tx
          replace hs_this_here := hk _ _ (by decide +kernel) (by decide) hs_this_here
          replace hs := hs
          replace hs_dr := hs
          refine lv_iload_n hx hb tl_d125 rfl (lv_at hl 3 rfl) ?_
          exact y_ireturn B hI rfl rfl rfl List.mem_cons_self ⟨_, rfl, ⟨_, rfl, x_i32 _⟩⟩ (x_cs.mono B.2.2.2.2.2 (y_mon B hI)) trivial (by show k ≤ 240; omega) (by show 5 * k ≤ 1200; omega) tl_d126
        · have q96_ : ¬ ref_.toInt = ((-1) : Int32).toInt := fun q => q96 (Int32.toInt_inj.mp q)
          refine lv_sipush hx hb tl_d99 (v := (-1000)) (by decide) ?_
          have ecm1000 : ((-1000) : Int32).toInt = (-1000) := by decide
          refine lv_iload_n hx hb tl_d102 rfl (lv_at hl 1 rfl) ?_
          refine lv_isub hx hb tl_d103 ?_
          generalize hg_z103 : ((-1000) : Int32) - ref_ = z103
          exact y_ireturn B hI rfl rfl rfl List.mem_cons_self ⟨_, rfl, ⟨_, rfl, x_i32 _⟩⟩ (x_cs.mono B.2.2.2.2.2 (y_mon B hI)) trivial (by show k ≤ 240; omega) (by show 5 * k ≤ 1200; omega) tl_d104
      · have q89_ : ¬ item.toInt = ((-1) : Int32).toInt := fun q => q89 (Int32.toInt_inj.mp q)
        refine lv_iload_n hx hb tl_d92 rfl (lv_at hl 0 rfl) ?_
        exact y_ireturn B hI rfl rfl rfl List.mem_cons_self ⟨_, rfl, ⟨_, rfl, x_i32 _⟩⟩ (x_cs.mono B.2.2.2.2.2 (y_mon B hI)) trivial (by show k ≤ 240; omega) (by show 5 * k ≤ 1200; omega) tl_d93
    · have q38_ : (0 : Int32).toInt ≤ item.toInt := Int.not_lt.mp fun q => q38 (x_lt32.mpr q)
      refine lv_iload_n hx hb tl_d41 rfl (lv_at hl 2 rfl) ?_
      refine lv_sipush hx hb tl_d42 (v := 240) (by decide) ?_
      have ec240 : (240 : Int32).toInt = 240 := by decide
      refine lv_icmp_ge hx hb tl_d45 (tgt := 87) (by decide) (fun q45 => ?_) (fun q45 => ?_)
      · have q45_ : (240 : Int32).toInt ≤ items.toInt := x_le32.mp q45
        refine lv_iload_n hx hb tl_d87 rfl (lv_at hl 0 rfl) ?_
        refine lv_iconst hx hb tl_d88 (v := (-1)) (by decide) ?_
        have ecm1 : ((-1) : Int32).toInt = (-1) := by decide
        refine lv_icmp_eq hx hb tl_d89 (tgt := 94) (by decide) (fun q89 => ?_) (fun q89 => ?_)
        · have q89_ : item.toInt = ((-1) : Int32).toInt := by rw [q89]
          refine lv_iload_n hx hb tl_d94 rfl (lv_at hl 1 rfl) ?_
          refine lv_iconst hx hb tl_d95 (v := (-1)) (by decide) ?_
          refine lv_icmp_eq hx hb tl_d96 (tgt := 105) (by decide) (fun q96 => ?_) (fun q96 => ?_)
          · have q96_ : ref_.toInt = ((-1) : Int32).toInt := by rw [q96]
            refine lv_aload_n hx hb tl_d105 rfl (lv_at hl 3 rfl) ?_
            obtain ⟨this_here, hs_this_here, hY_this_here⟩ := y_fldR (k := 0) hI.1 hY_this rfl rfl
            refine y_getf X (fl8 X.2.2.2.2.1) hI.1 hY_this rfl hs_this_here tl_d106 ?_
            refine lv_astore hx hb tl_d109 hl (by decide) (lv' := [(4, .ref this_here), (3, .int item), (2, .int ref_), (1, .int items), (0, .ref this)]) rfl fun ls hl => ?_
            refine lv_aload_n hx hb tl_d111 rfl (lv_at hl 4 rfl) ?_
            refine lv_aload_n hx hb tl_d112 rfl (lv_at hl 4 rfl) ?_
            refine y_getf X (fl_tl_233 X.2.2.2.2.1) hI.1 hY_this rfl hs_dr tl_d113 ?_
            refine y_putf X (fw_tl_234 X.2.2.2.2.1) hY0 hI hY_this rfl rfl (y_crefA hY_dr rfl) (by decide +kernel) tl_d116 fun H sl hI ho hs hk => ?_
            replace hs_dr := hk _ _ (by decide +kernel) (by decide) hs_dr
            replace hs_tx := hk _ _ (by decide +kernel) (by decide) hs_tx
            replace hs := hs
            replace hs_this_here := hs
            refine lv_aload_n hx hb tl_d119 rfl (lv_at hl 4 rfl) ?_
            refine lv_aload hx hb tl_d120 (lv_at hl 0 rfl) ?_
            refine y_putf X (fw_tl_235 X.2.2.2.2.1) hY0 hI hY_this rfl rfl (y_crefA hY_this_here rfl) (by decide +kernel) tl_d122 fun H sl hI ho hs hk => ?_
            replace hs_tx := hk _ _ (by decide +kernel) (by decide) hs_tx
            replace hs_this_here := hk _ _ (by decide +kernel) (by decide) hs_this_here
            replace hs := hs
            replace hs_dr := hs
            refine lv_iload_n hx hb tl_d125 rfl (lv_at hl 3 rfl) ?_
            exact y_ireturn B hI rfl rfl rfl List.mem_cons_self ⟨_, rfl, ⟨_, rfl, x_i32 _⟩⟩ (x_cs.mono B.2.2.2.2.2 (y_mon B hI)) trivial (by show k ≤ 240; omega) (by show 5 * k ≤ 1200; omega) tl_d126
          · have q96_ : ¬ ref_.toInt = ((-1) : Int32).toInt := fun q => q96 (Int32.toInt_inj.mp q)
            refine lv_sipush hx hb tl_d99 (v := (-1000)) (by decide) ?_
            have ecm1000 : ((-1000) : Int32).toInt = (-1000) := by decide
            refine lv_iload_n hx hb tl_d102 rfl (lv_at hl 1 rfl) ?_
            refine lv_isub hx hb tl_d103 ?_
            generalize hg_z103 : ((-1000) : Int32) - ref_ = z103
            exact y_ireturn B hI rfl rfl rfl List.mem_cons_self ⟨_, rfl, ⟨_, rfl, x_i32 _⟩⟩ (x_cs.mono B.2.2.2.2.2 (y_mon B hI)) trivial (by show k ≤ 240; omega) (by show 5 * k ≤ 1200; omega) tl_d104
        · have q89_ : ¬ item.toInt = ((-1) : Int32).toInt := fun q => q89 (Int32.toInt_inj.mp q)
          refine lv_iload_n hx hb tl_d92 rfl (lv_at hl 0 rfl) ?_
          exact y_ireturn B hI rfl rfl rfl List.mem_cons_self ⟨_, rfl, ⟨_, rfl, x_i32 _⟩⟩ (x_cs.mono B.2.2.2.2.2 (y_mon B hI)) trivial (by show k ≤ 240; omega) (by show 5 * k ≤ 1200; omega) tl_d93
      · have q45_ : items.toInt < (240 : Int32).toInt := Int.not_le.mp fun q => q45 (x_le32.mpr q)
        refine lv_iload_n hx hb tl_d48 rfl (lv_at hl 1 rfl) ?_
        refine lv_iconst hx hb tl_d49 (v := (-1)) (by decide) ?_
        have ecm1 : ((-1) : Int32).toInt = (-1) := by decide
        refine lv_icmp_ne hx hb tl_d50 (tgt := 73) (by decide) (fun q50 => ?_) (fun q50 => ?_)
        · have q50_ : ¬ ref_.toInt = ((-1) : Int32).toInt := fun q => q50 (Int32.toInt_inj.mp q)
          obtain ⟨z73, hg_z73⟩ : ∃ z73 : Int32, items + Int32.ofInt 1 = z73 := ⟨_, rfl⟩
          have h_z73 : z73.toInt = items.toInt + 1 := by rw [← hg_z73]; exact y_inc (by decide) (by omega) (by omega)
          refine lv_iinc hx hb tl_d73 hl (k := 2) rfl hg_z73 (by decide) (lv' := [(1, .int z73), (3, .int item), (2, .int ref_), (0, .ref this)]) rfl fun ls hl => ?_
          refine lv_aload_n hx hb tl_d76 rfl (lv_at hl 3 rfl) ?_
          refine y_getf X (fl120 X.2.2.2.2.1) hI.1 hY_this rfl hs_tx tl_d77 ?_
          refine y_call (z := (0, 158, 1, some 4, xMni)) (av := [.ref tx]) (rest := []) (y_cokV (n := 0) (ci := 7) X ym_nextItem rfl rfl rfl (x_cons (x_bw35 14 rfl rfl) (x_cons (x_bw35 15 rfl rfl) (x_cons (x_bw36 0 rfl rfl) (x_cons (x_bw0 5 rfl rfl) x_nilm)))) (x_bw36 1 rfl rfl) (by decide +kernel) ⟨Nat.le_of_ble_eq_true rfl, Nat.le_of_ble_eq_true rfl⟩) hY0 hI rfl tl_d80 hl.1 (Nat.le_of_ble_eq_true rfl) (by show k + _ ≤ 240; first | exact Nat.le_of_lt_succ (by show k + 0 < 241; omega) | (show k + 1 ≤ 240; omega) | (show k + 1 + 0 ≤ 240; omega)) (by show 5 * k + _ ≤ 1200; first | (show 5 * k + 0 ≤ 1200; omega) | (show 5 * k + 5 ≤ 1200; omega) | (show 5 * k + 5 + 0 ≤ 1200; omega)) (y_cons (y_cref hY_tx rfl) y_nil) rfl (y_recv rfl hY_tx) trivial (y_sub_ef rfl) fun v Yn o Hn L ho hr ha hIn hx_ hE hP => ?_
          replace hs_dr := y_Efld hE hY_this rfl (by decide) (by decide) hs_dr
          replace hs_tx := y_Efld hE hY_this rfl (by decide) (by decide) hs_tx
          replace hY_this := y_ext hx_ hI.1 hY_this
          replace hY_dr := y_ext hx_ hI.1 hY_dr
          replace hY_tx := y_ext hx_ hI.1 hY_tx
          obtain ⟨r80, rfl, h_r80⟩ := y_ansI (lo := (-2147483648)) (hi := 2147483647) (by decide) ho hr
          clear ho hr ha hE hP hI hx_
          rename x_I _ _ _ _ _ _ _ _ _ _ => hI
          refine lv_istore_n hx hb tl_d83 rfl hl (by decide) (lv' := [(3, .int r80), (1, .int z73), (2, .int ref_), (0, .ref this)]) rfl fun ls hl => ?_
          refine lv_goto hx hb tl_d84 (tgt := 37) (by decide) ?_
          refine W.widen (k := k + 1) (n := 5 * (k + 1)) (by first | (show k + 0 ≤ k + 1; omega) | (show k + 1 + 0 ≤ k + 1; omega)) (by first | (show 5 * k + 0 ≤ 5 * (k + 1); omega) | (show 5 * k + 5 + 0 ≤ 5 * (k + 1); omega)) ?_
          exact ih _ _ _ _ _ _ _ _ hI hY_this hY_dr hY_tx hs_dr hs_tx (lv_sub hl [0, 2, 1, 3] rfl) (by first | assumption | omega) (by first | assumption | omega) (by omega)
        · have q50_ : ref_.toInt = ((-1) : Int32).toInt := by rw [q50]
          refine lv_aload_n hx hb tl_d53 rfl (lv_at hl 3 rfl) ?_
          refine y_getf X (fl_tl_233 X.2.2.2.2.1) hI.1 hY_this rfl hs_dr tl_d54 ?_
          refine lv_iload_n hx hb tl_d57 rfl (lv_at hl 0 rfl) ?_
          refine lv_aload_n hx hb tl_d58 rfl (lv_at hl 3 rfl) ?_
          refine y_getf X (fl120 X.2.2.2.2.1) hI.1 hY_this rfl hs_tx tl_d59 ?_
          obtain ⟨tx_numbers, hs_tx_numbers, hY_tx_numbers⟩ := y_fldR (k := 1) hI.1 hY_tx rfl rfl
          refine y_getf X (fl_tl_236 X.2.2.2.2.1) hI.1 hY_tx rfl hs_tx_numbers tl_d62 ?_
          refine y_call (z := (0, 165, 3, some 2, xM66)) (av := [.ref dr, .int item, .ref tx_numbers]) (rest := []) (y_cok.of (x_cokV (n := 2) (ci := 2) X xm66 rfl rfl rfl (x_cons (x_bw41 6 rfl rfl) (x_cons (x_bw41 7 rfl rfl) (x_cons (x_bw41 8 rfl rfl) (x_cons (x_bw0 2 rfl rfl) x_nilm)))) (x_bw41 9 rfl rfl) (by decide +kernel) ⟨Nat.le_of_ble_eq_true rfl, Nat.le_of_ble_eq_true rfl⟩)) hY0 hI rfl tl_d65 hl.1 (Nat.le_of_ble_eq_true rfl) (by show k + _ ≤ 240; first | exact Nat.le_of_lt_succ (by show k + 0 < 241; omega) | (show k + 1 ≤ 240; omega) | (show k + 1 + 0 ≤ 240; omega)) (by show 5 * k + _ ≤ 1200; first | (show 5 * k + 0 ≤ 1200; omega) | (show 5 * k + 5 ≤ 1200; omega) | (show 5 * k + 5 + 0 ≤ 1200; omega)) (y_cons (y_cref hY_dr rfl) (y_cons ⟨_, rfl, x_i32 _⟩ (y_cons (y_cref hY_tx_numbers rfl) y_nil))) rfl (y_recv rfl hY_dr) trivial (y_sub_ef rfl) fun v Yn o Hn L ho hr ha hIn hx_ hE hP => ?_
          replace hs_dr := y_Efld hE hY_this rfl (by decide) (by decide) hs_dr
          replace hs_tx := y_Efld hE hY_this rfl (by decide) (by decide) hs_tx
          replace hs_tx_numbers := y_Efld hE hY_tx rfl (by decide) (by decide) hs_tx_numbers
          replace hY_this := y_ext hx_ hI.1 hY_this
          replace hY_dr := y_ext hx_ hI.1 hY_dr
          replace hY_tx := y_ext hx_ hI.1 hY_tx
          replace hY_tx_numbers := y_ext hx_ hI.1 hY_tx_numbers
          obtain ⟨r65, rfl, h_r65⟩ := y_ansI (lo := (-2147483648)) (hi := 2147483647) (by decide) ho hr
          clear ho hr ha hE hP hI hx_
          rename x_I _ _ _ _ _ _ _ _ _ _ => hI
          refine lv_if_ge hx hb tl_d68 (tgt := 73) (by decide) (fun q68 => ?_) (fun q68 => ?_)
          · have q68_ : (0 : Int32).toInt ≤ r65.toInt := x_le32.mp q68
            obtain ⟨z73, hg_z73⟩ : ∃ z73 : Int32, items + Int32.ofInt 1 = z73 := ⟨_, rfl⟩
            have h_z73 : z73.toInt = items.toInt + 1 := by rw [← hg_z73]; exact y_inc (by decide) (by omega) (by omega)
            refine lv_iinc hx hb tl_d73 hl (k := 2) rfl hg_z73 (by decide) (lv' := [(1, .int z73), (3, .int item), (2, .int ref_), (0, .ref this)]) rfl fun ls hl => ?_
            refine lv_aload_n hx hb tl_d76 rfl (lv_at hl 3 rfl) ?_
            refine y_getf X (fl120 X.2.2.2.2.1) hI.1 hY_this rfl hs_tx tl_d77 ?_
            refine y_call (z := (0, 158, 1, some 4, xMni)) (av := [.ref tx]) (rest := []) (y_cokV (n := 0) (ci := 7) X ym_nextItem rfl rfl rfl (x_cons (x_bw35 14 rfl rfl) (x_cons (x_bw35 15 rfl rfl) (x_cons (x_bw36 0 rfl rfl) (x_cons (x_bw0 5 rfl rfl) x_nilm)))) (x_bw36 1 rfl rfl) (by decide +kernel) ⟨Nat.le_of_ble_eq_true rfl, Nat.le_of_ble_eq_true rfl⟩) hY0 hI rfl tl_d80 hl.1 (Nat.le_of_ble_eq_true rfl) (by show k + _ ≤ 240; first | exact Nat.le_of_lt_succ (by show k + 0 < 241; omega) | (show k + 1 ≤ 240; omega) | (show k + 1 + 0 ≤ 240; omega)) (by show 5 * k + _ ≤ 1200; first | (show 5 * k + 0 ≤ 1200; omega) | (show 5 * k + 5 ≤ 1200; omega) | (show 5 * k + 5 + 0 ≤ 1200; omega)) (y_cons (y_cref hY_tx rfl) y_nil) rfl (y_recv rfl hY_tx) trivial (y_sub_ef rfl) fun v Yn o Hn L ho hr ha hIn hx_ hE hP => ?_
            replace hs_dr := y_Efld hE hY_this rfl (by decide) (by decide) hs_dr
            replace hs_tx := y_Efld hE hY_this rfl (by decide) (by decide) hs_tx
            replace hs_tx_numbers := y_Efld hE hY_tx rfl (by decide) (by decide) hs_tx_numbers
            replace hY_this := y_ext hx_ hI.1 hY_this
            replace hY_dr := y_ext hx_ hI.1 hY_dr
            replace hY_tx := y_ext hx_ hI.1 hY_tx
            replace hY_tx_numbers := y_ext hx_ hI.1 hY_tx_numbers
            obtain ⟨r80, rfl, h_r80⟩ := y_ansI (lo := (-2147483648)) (hi := 2147483647) (by decide) ho hr
            clear ho hr ha hE hP hI hx_
            rename x_I _ _ _ _ _ _ _ _ _ _ => hI
            refine lv_istore_n hx hb tl_d83 rfl hl (by decide) (lv' := [(3, .int r80), (1, .int z73), (2, .int ref_), (0, .ref this)]) rfl fun ls hl => ?_
            refine lv_goto hx hb tl_d84 (tgt := 37) (by decide) ?_
            refine W.widen (k := k + 1) (n := 5 * (k + 1)) (by first | (show k + 0 ≤ k + 1; omega) | (show k + 1 + 0 ≤ k + 1; omega)) (by first | (show 5 * k + 0 ≤ 5 * (k + 1); omega) | (show 5 * k + 5 + 0 ≤ 5 * (k + 1); omega)) ?_
            exact ih _ _ _ _ _ _ _ _ hI hY_this hY_dr hY_tx hs_dr hs_tx (lv_sub hl [0, 2, 1, 3] rfl) (by first | assumption | omega) (by first | assumption | omega) (by omega)
          · have q68_ : r65.toInt < (0 : Int32).toInt := Int.not_le.mp fun q => q68 (x_le32.mpr q)
            refine lv_iload_n hx hb tl_d71 rfl (lv_at hl 2 rfl) ?_
            refine lv_istore_n hx hb tl_d72 rfl hl (by decide) (lv' := [(2, .int items), (3, .int item), (1, .int items), (0, .ref this)]) rfl fun ls hl => ?_
            obtain ⟨z73, hg_z73⟩ : ∃ z73 : Int32, items + Int32.ofInt 1 = z73 := ⟨_, rfl⟩
            have h_z73 : z73.toInt = items.toInt + 1 := by rw [← hg_z73]; exact y_inc (by decide) (by omega) (by omega)
            refine lv_iinc hx hb tl_d73 hl (k := 2) rfl hg_z73 (by decide) (lv' := [(1, .int z73), (2, .int items), (3, .int item), (0, .ref this)]) rfl fun ls hl => ?_
            refine lv_aload_n hx hb tl_d76 rfl (lv_at hl 3 rfl) ?_
            refine y_getf X (fl120 X.2.2.2.2.1) hI.1 hY_this rfl hs_tx tl_d77 ?_
            refine y_call (z := (0, 158, 1, some 4, xMni)) (av := [.ref tx]) (rest := []) (y_cokV (n := 0) (ci := 7) X ym_nextItem rfl rfl rfl (x_cons (x_bw35 14 rfl rfl) (x_cons (x_bw35 15 rfl rfl) (x_cons (x_bw36 0 rfl rfl) (x_cons (x_bw0 5 rfl rfl) x_nilm)))) (x_bw36 1 rfl rfl) (by decide +kernel) ⟨Nat.le_of_ble_eq_true rfl, Nat.le_of_ble_eq_true rfl⟩) hY0 hI rfl tl_d80 hl.1 (Nat.le_of_ble_eq_true rfl) (by show k + _ ≤ 240; first | exact Nat.le_of_lt_succ (by show k + 0 < 241; omega) | (show k + 1 ≤ 240; omega) | (show k + 1 + 0 ≤ 240; omega)) (by show 5 * k + _ ≤ 1200; first | (show 5 * k + 0 ≤ 1200; omega) | (show 5 * k + 5 ≤ 1200; omega) | (show 5 * k + 5 + 0 ≤ 1200; omega)) (y_cons (y_cref hY_tx rfl) y_nil) rfl (y_recv rfl hY_tx) trivial (y_sub_ef rfl) fun v Yn o Hn L ho hr ha hIn hx_ hE hP => ?_
            replace hs_dr := y_Efld hE hY_this rfl (by decide) (by decide) hs_dr
            replace hs_tx := y_Efld hE hY_this rfl (by decide) (by decide) hs_tx
            replace hs_tx_numbers := y_Efld hE hY_tx rfl (by decide) (by decide) hs_tx_numbers
            replace hY_this := y_ext hx_ hI.1 hY_this
            replace hY_dr := y_ext hx_ hI.1 hY_dr
            replace hY_tx := y_ext hx_ hI.1 hY_tx
            replace hY_tx_numbers := y_ext hx_ hI.1 hY_tx_numbers
            obtain ⟨r80, rfl, h_r80⟩ := y_ansI (lo := (-2147483648)) (hi := 2147483647) (by decide) ho hr
            clear ho hr ha hE hP hI hx_
            rename x_I _ _ _ _ _ _ _ _ _ _ => hI
            refine lv_istore_n hx hb tl_d83 rfl hl (by decide) (lv' := [(3, .int r80), (1, .int z73), (2, .int items), (0, .ref this)]) rfl fun ls hl => ?_
            refine lv_goto hx hb tl_d84 (tgt := 37) (by decide) ?_
            refine W.widen (k := k + 1) (n := 5 * (k + 1)) (by first | (show k + 0 ≤ k + 1; omega) | (show k + 1 + 0 ≤ k + 1; omega)) (by first | (show 5 * k + 0 ≤ 5 * (k + 1); omega) | (show 5 * k + 5 + 0 ≤ 5 * (k + 1); omega)) ?_
            exact ih _ _ _ _ _ _ _ _ hI hY_this hY_dr hY_tx hs_dr hs_tx (lv_sub hl [0, 2, 1, 3] rfl) (by first | assumption | omega) (by first | assumption | omega) (by omega)
theorem ym_twLand : y_Met vwCl x_G x_Zs x_Tb x_Nb xMtl y_T y_TP := by
  refine y_main (by decide +kernel) (by decide +kernel) x_Tb_good x_Nb_ok ?_
  intro p l e s m below meth c D U Y0 av ls B hI _ hl
  have X := B.1
  have hx := X.1
  have hb := X.2.1
  have hY0 := B.2.2.2.2.1
  obtain ⟨v0, rfl, hv0⟩ := x_one B.2.2.2.2.2
  obtain ⟨this, t0, rfl, ht0, hY_this⟩ := x_ref_at hv0 rfl
  obtain rfl := List.mem_singleton.mp ht0
  replace hl : lv_has ls xMtl.2.2.1 [(0, .ref this)] := hl
  obtain ⟨dr, hs_dr, hY_dr⟩ := y_fldR (k := 1) hI.1 hY_this rfl rfl
  obtain ⟨tx, hs_tx, hY_tx⟩ := y_fldR (k := 3) hI.1 hY_this rfl rfl
  refine lv_aload_n hx hb tl_d0 rfl (lv_at hl 0 rfl) ?_
  refine y_getf X (fl_tl_233 X.2.2.2.2.1) hI.1 hY_this rfl hs_dr tl_d1 ?_
  refine lv_aload_n hx hb tl_d4 rfl (lv_at hl 0 rfl) ?_
  obtain ⟨this_here, hs_this_here, hY_this_here⟩ := y_fldR (k := 0) hI.1 hY_this rfl rfl
  refine y_getf X (fl8 X.2.2.2.2.1) hI.1 hY_this rfl hs_this_here tl_d5 ?_
  refine y_call (z := (0, 148, 2, some 2, xM58)) (av := [.ref dr, .ref this_here]) (rest := []) (y_cok.of (x_cokV (n := 1) (ci := 2) X xm58 rfl rfl rfl (x_cons (x_bw34 15 rfl rfl) (x_cons (x_bw35 0 rfl rfl) (x_cons (x_bw35 1 rfl rfl) (x_cons (x_bw0 2 rfl rfl) x_nilm)))) (x_bw35 2 rfl rfl) (by decide +kernel) ⟨Nat.le_of_ble_eq_true rfl, Nat.le_of_ble_eq_true rfl⟩)) hY0 hI rfl tl_d8 hl.1 (Nat.le_of_ble_eq_true rfl) (Nat.le_of_ble_eq_true rfl) (Nat.le_of_ble_eq_true rfl) (y_cons (y_cref hY_dr rfl) (y_cons (y_cref hY_this_here rfl) y_nil)) rfl (y_recv rfl hY_dr) trivial (y_sub_ef rfl) fun v Yn o Hn L ho hr ha hIn hx_ hE hP => ?_
  replace hs_dr := y_Efld hE hY_this rfl (by decide) (by decide) hs_dr
  replace hs_tx := y_Efld hE hY_this rfl (by decide) (by decide) hs_tx
  replace hs_this_here := y_Efld hE hY_this rfl (by decide) (by decide) hs_this_here
  replace hY_this := y_ext hx_ hI.1 hY_this
  replace hY_dr := y_ext hx_ hI.1 hY_dr
  replace hY_tx := y_ext hx_ hI.1 hY_tx
  replace hY_this_here := y_ext hx_ hI.1 hY_this_here
  obtain rfl := y_ansV rfl ho hr
  clear ho hr ha hE hP hI hx_
  rename x_I _ _ _ _ _ _ _ _ _ _ => hI
  refine lv_aload_n hx hb tl_d11 rfl (lv_at hl 0 rfl) ?_
  refine y_getf X (fl_tl_233 X.2.2.2.2.1) hI.1 hY_this rfl hs_dr tl_d12 ?_
  refine y_call (z := (0, 152, 1, some 2, xM59)) (av := [.ref dr]) (rest := []) (y_cok.of (x_cokV (n := 0) (ci := 2) X xm59 rfl rfl rfl (x_cons (x_bw35 6 rfl rfl) (x_cons (x_bw35 7 rfl rfl) (x_cons (x_bw35 8 rfl rfl) (x_cons (x_bw0 2 rfl rfl) x_nilm)))) (x_bw35 9 rfl rfl) (by decide +kernel) ⟨Nat.le_of_ble_eq_true rfl, Nat.le_of_ble_eq_true rfl⟩)) hY0 hI rfl tl_d15 hl.1 (Nat.le_of_ble_eq_true rfl) (Nat.le_of_ble_eq_true rfl) (Nat.le_of_ble_eq_true rfl) (y_cons (y_cref hY_dr rfl) y_nil) rfl (y_recv rfl hY_dr) trivial (y_sub_ef rfl) fun v Yn o Hn L ho hr ha hIn hx_ hE hP => ?_
  replace hs_dr := y_Efld hE hY_this rfl (by decide) (by decide) hs_dr
  replace hs_tx := y_Efld hE hY_this rfl (by decide) (by decide) hs_tx
  replace hs_this_here := y_Efld hE hY_this rfl (by decide) (by decide) hs_this_here
  replace hY_this := y_ext hx_ hI.1 hY_this
  replace hY_dr := y_ext hx_ hI.1 hY_dr
  replace hY_tx := y_ext hx_ hI.1 hY_tx
  replace hY_this_here := y_ext hx_ hI.1 hY_this_here
  obtain rfl := y_ansV rfl ho hr
  clear ho hr ha hE hP hI hx_
  rename x_I _ _ _ _ _ _ _ _ _ _ => hI
  refine lv_aload_n hx hb tl_d18 rfl (lv_at hl 0 rfl) ?_
  refine y_getf X (fl120 X.2.2.2.2.1) hI.1 hY_this rfl hs_tx tl_d19 ?_
  refine y_call (z := (0, 155, 1, some 4, xM60)) (av := [.ref tx]) (rest := []) (y_cok.of (x_cokV (n := 0) (ci := 7) X xm60 rfl rfl rfl (x_cons (x_bw35 10 rfl rfl) (x_cons (x_bw35 11 rfl rfl) (x_cons (x_bw35 12 rfl rfl) (x_cons (x_bw0 5 rfl rfl) x_nilm)))) (x_bw35 13 rfl rfl) (by decide +kernel) ⟨Nat.le_of_ble_eq_true rfl, Nat.le_of_ble_eq_true rfl⟩)) hY0 hI rfl tl_d22 hl.1 (Nat.le_of_ble_eq_true rfl) (Nat.le_of_ble_eq_true rfl) (Nat.le_of_ble_eq_true rfl) (y_cons (y_cref hY_tx rfl) y_nil) rfl (y_recv rfl hY_tx) trivial (y_sub_ef rfl) fun v Yn o Hn L ho hr ha hIn hx_ hE hP => ?_
  replace hs_dr := y_Efld hE hY_this rfl (by decide) (by decide) hs_dr
  replace hs_tx := y_Efld hE hY_this rfl (by decide) (by decide) hs_tx
  replace hs_this_here := y_Efld hE hY_this rfl (by decide) (by decide) hs_this_here
  replace hY_this := y_ext hx_ hI.1 hY_this
  replace hY_dr := y_ext hx_ hI.1 hY_dr
  replace hY_tx := y_ext hx_ hI.1 hY_tx
  replace hY_this_here := y_ext hx_ hI.1 hY_this_here
  obtain rfl := y_ansV rfl ho hr
  clear ho hr ha hE hP hI hx_
  rename x_I _ _ _ _ _ _ _ _ _ _ => hI
  refine lv_iconst hx hb tl_d25 (v := 0) (by decide) ?_
  have ec0 : (0 : Int32).toInt = 0 := by decide
  refine lv_istore_n hx hb tl_d26 rfl hl (by decide) (lv' := [(1, .int (0 : Int32)), (0, .ref this)]) rfl fun ls hl => ?_
  refine lv_iconst hx hb tl_d27 (v := (-1)) (by decide) ?_
  have ecm1 : ((-1) : Int32).toInt = (-1) := by decide
  refine lv_istore_n hx hb tl_d28 rfl hl (by decide) (lv' := [(2, .int ((-1) : Int32)), (1, .int (0 : Int32)), (0, .ref this)]) rfl fun ls hl => ?_
  refine lv_aload_n hx hb tl_d29 rfl (lv_at hl 2 rfl) ?_
  refine y_getf X (fl120 X.2.2.2.2.1) hI.1 hY_this rfl hs_tx tl_d30 ?_
  refine y_call (z := (0, 158, 1, some 4, xMni)) (av := [.ref tx]) (rest := []) (y_cokV (n := 0) (ci := 7) X ym_nextItem rfl rfl rfl (x_cons (x_bw35 14 rfl rfl) (x_cons (x_bw35 15 rfl rfl) (x_cons (x_bw36 0 rfl rfl) (x_cons (x_bw0 5 rfl rfl) x_nilm)))) (x_bw36 1 rfl rfl) (by decide +kernel) ⟨Nat.le_of_ble_eq_true rfl, Nat.le_of_ble_eq_true rfl⟩) hY0 hI rfl tl_d33 hl.1 (Nat.le_of_ble_eq_true rfl) (Nat.le_of_ble_eq_true rfl) (Nat.le_of_ble_eq_true rfl) (y_cons (y_cref hY_tx rfl) y_nil) rfl (y_recv rfl hY_tx) trivial (y_sub_ef rfl) fun v Yn o Hn L ho hr ha hIn hx_ hE hP => ?_
  replace hs_dr := y_Efld hE hY_this rfl (by decide) (by decide) hs_dr
  replace hs_tx := y_Efld hE hY_this rfl (by decide) (by decide) hs_tx
  replace hs_this_here := y_Efld hE hY_this rfl (by decide) (by decide) hs_this_here
  replace hY_this := y_ext hx_ hI.1 hY_this
  replace hY_dr := y_ext hx_ hI.1 hY_dr
  replace hY_tx := y_ext hx_ hI.1 hY_tx
  replace hY_this_here := y_ext hx_ hI.1 hY_this_here
  obtain ⟨r33, rfl, h_r33⟩ := y_ansI (lo := (-2147483648)) (hi := 2147483647) (by decide) ho hr
  clear ho hr ha hE hP hI hx_
  rename x_I _ _ _ _ _ _ _ _ _ _ => hI
  refine lv_istore_n hx hb tl_d36 rfl hl (by decide) (lv' := [(3, .int r33), (2, .int ((-1) : Int32)), (1, .int (0 : Int32)), (0, .ref this)]) rfl fun ls hl => ?_
  refine W.widen (k := 0) (n := 5 * 0) (Nat.le_of_ble_eq_true rfl) (Nat.le_of_ble_eq_true rfl) ?_
  exact tl_L37 B  242 _ _ _ _ _ _ _ _ hI hY_this hY_dr hY_tx hs_dr hs_tx (lv_sub hl [0, 1, 2, 3] rfl) (by first | assumption | omega) (by first | assumption | omega) (by omega)
