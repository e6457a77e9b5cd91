theorem fl_rd_209 {s : State} {args : Array Value} (hts : ∀ w ∈ x_Tb, w.before args s = true) : x_fok vwCl x_G x_Tb s args "TwinFiresModel" (196, 17, 13) := ⟨12, _, RX12, TX12, "TwinFiresModel", rfl, rfl, Nat.le_of_ble_eq_true rfl, iX12, (hts _ (x_bw63 0 rfl rfl)), fun x h => h⟩
theorem fl_rd_210 {s : State} {args : Array Value} (hts : ∀ w ∈ x_Tb, w.before args s = true) : x_fok vwCl x_G x_Tb s args "TwinFiresModel" (210, 17, 17) := ⟨12, _, RX12, TX12, "TwinFiresModel", rfl, rfl, Nat.le_of_ble_eq_true rfl, iX12, (hts _ (x_bw63 4 rfl rfl)), fun x h => h⟩
theorem fw_rd_211 {s : State} {args : Array Value} {mn : String} (hts : ∀ w ∈ x_Tb, w.before args s = true) : x_pok vwCl x_G x_Tb s args "TwinFiresModel" mn (210, 17, 17) := ⟨12, _, RX12, TX12, "TwinFiresModel", tyX12, _, rfl, rfl, Nat.le_of_ble_eq_true rfl, iX12, (hts _ (x_bw63 4 rfl rfl)), fun x h => h, tyX12_ok, nmX12, rfl, x_fitI _ _, Or.inl rfl⟩
theorem fl_rd_212 {s : State} {args : Array Value} (hts : ∀ w ∈ x_Tb, w.before args s = true) : x_fok vwCl x_G x_Tb s args "TwinFiresModel" (207, 17, 14) := ⟨12, _, RX12, TX12, "TwinFiresModel", rfl, rfl, Nat.le_of_ble_eq_true rfl, iX12, (hts _ (x_bw63 1 rfl rfl)), fun x h => h⟩
theorem fw_rd_213 {s : State} {args : Array Value} {mn : String} (hts : ∀ w ∈ x_Tb, w.before args s = true) : x_pok vwCl x_G x_Tb s args "TwinFiresModel" mn (166, 17, 11) := ⟨12, _, RX12, TX12, "TwinFiresModel", tyX12, _, rfl, rfl, Nat.le_of_ble_eq_true rfl, iX12, (hts _ (x_bw62 14 rfl rfl)), fun x h => h, tyX12_ok, nmX12, rfl, x_fitI _ _, Or.inl rfl⟩
theorem fl_im_214 {s : State} {args : Array Value} (hts : ∀ w ∈ x_Tb, w.before args s = true) : x_fok vwCl x_G x_Tb s args "TwinFiresModel" (16, 17, 2) := ⟨12, _, RX12, TX12, "TwinFiresModel", rfl, rfl, Nat.le_of_ble_eq_true rfl, iX12, (hts _ (x_bw62 5 rfl rfl)), fun x h => h⟩
theorem fl_im_215 {s : State} {args : Array Value} (hts : ∀ w ∈ x_Tb, w.before args s = true) : x_fok vwCl x_G x_Tb s args "TwinFiresModel" (13, 17, 1) := ⟨12, _, RX12, TX12, "TwinFiresModel", rfl, rfl, Nat.le_of_ble_eq_true rfl, iX12, (hts _ (x_bw62 4 rfl rfl)), fun x h => h⟩
def z_hd (f : Nat → Int32) : Prop := (0 ≤ (f 0).toInt ∧ (f 0).toInt ≤ 10) ∧ (0 ≤ (f 1).toInt ∧ (f 1).toInt ≤ 8) ∧ (0 ≤ (f 2).toInt ∧ (f 2).toInt ≤ 8)
theorem z_hdc {Y : xY} {f : Nat → Int32} (h : z_hd f) : ∀ k : Nat, x_c Y ([xI 0 10, xI 0 8, xI 0 8].getD k xF) (.int (f k))
  | 0 => ⟨_, rfl, h.1⟩
  | 1 => ⟨_, rfl, h.2.1⟩
  | 2 => ⟨_, rfl, h.2.2⟩
  | n + 3 => ⟨_, rfl, x_i32 _⟩
theorem z_hdr {Y : xY} {f : Nat → Int32} (h : ∀ j, j < 160 → x_c Y ([xI 0 10, xI 0 8, xI 0 8].getD j xF) (.int (f j))) : z_hd f := by
  refine ⟨?_, ?_, ?_⟩
  · obtain ⟨x, e0, e1⟩ := h 0 (by decide); cases e0; exact e1
  · obtain ⟨x, e0, e1⟩ := h 1 (by decide); cases e0; exact e1
  · obtain ⟨x, e0, e1⟩ := h 2 (by decide); cases e0; exact e1
abbrev z_preI : List xV := [xI 0 10, xI 0 8, xI 0 8, xF, xF, xF, xF, xF, xF, xF, xF, xF, xF, xF, xF, xF, xF, xF, xF, xF, xF, xF, xF, xF, xF, xF, xF, xF, xF, xF, xF, xF, xF, xF, xF, xF, xF, xF, xF, xF, xF, xF, xF, xF, xF, xF, xF, xF, xF, xF, xF, xF, xF, xF, xF, xF, xF, xF, xF, xF, xF, xF, xF, xF, xF, xF, xF, xF, xF, xF, xF, xF, xF, xF, xF, xF, xF, xF, xF, xF, xF, xF, xF, xF, xF, xF, xF, xF, xF, xF, xF, xF, xF, xF, xF, xF, xF, xF, xF, xF, xF, xF, xF, xF, xF, xF, xF, xF, xF, xF, xF, xF, xF, xF, xF, xF, xF, xF, xF, xF, xF, xF, xF, xF, xF, xF, xF, xF, xF, xF, xF, xF, xF, xF, xF, xF, xF, xF, xF, xF, xF, xF, xF, xF, xF, xF, xF, xF, xF, xF, xF, xF, xF, xF, xF, xF, xF, xF, xF, xF, xI 0 10, xI 0 8, xI 0 8]
theorem z_preI_at : ∀ i : Fin 2, ∀ k : Fin 160, z_preI.getD (160 * i.val + k.val) xF = [xI 0 10, xI 0 8, xI 0 8].getD k.val xF := by decide +kernel
theorem z_preI_i {i k : Int32} (h0 : 0 ≤ i.toInt) (h1 : i.toInt ≤ 1) (k0 : 0 ≤ k.toInt) (k1 : k.toInt < 160) {x : Int32} (hx : x.toInt = 160 * i.toInt + k.toInt) : z_preI.getD x.toInt.toNat xF = [xI 0 10, xI 0 8, xI 0 8].getD k.toInt.toNat xF := by
  have := z_preI_at ⟨i.toInt.toNat, by omega⟩ ⟨k.toInt.toNat, by omega⟩
  rw [← this]
  congr 1
  show x.toInt.toNat = 160 * i.toInt.toNat + k.toInt.toNat
  omega
def xMrd : xM := (⟨"TwinFiresModel", "reads", "()Z"⟩, prog_14_method_40_code, 3, some .boolean, [xR false [17]], [([xR false [17]], some (xI 0 1))], [(17, 11), (17, 12), (17, 13), (17, 14), (17, 17), (53, 0), (54, 0)], (3, 69, 0, 0), none)
theorem rd_d0 : decode xMrd.2.1 0 = .ok (.aload_n 0, 1) := dz_ok (by decide +kernel)
theorem rd_d1 : decode xMrd.2.1 1 = .ok (.iconst 0, 1) := dz_ok (by decide +kernel)
theorem rd_d2 : decode xMrd.2.1 2 = .ok (.putfield 166, 3) := dz_ok (by decide +kernel)
theorem rd_d5 : decode xMrd.2.1 5 = .ok (.aload_n 0, 1) := dz_ok (by decide +kernel)
theorem rd_d6 : decode xMrd.2.1 6 = .ok (.iconst 0, 1) := dz_ok (by decide +kernel)
theorem rd_d7 : decode xMrd.2.1 7 = .ok (.putfield 210, 3) := dz_ok (by decide +kernel)
theorem rd_d10 : decode xMrd.2.1 10 = .ok (.aload_n 0, 1) := dz_ok (by decide +kernel)
theorem rd_d11 : decode xMrd.2.1 11 = .ok (.invokevirtual 213, 3) := dz_ok (by decide +kernel)
theorem rd_d14 : decode xMrd.2.1 14 = .ok (.aload_n 0, 1) := dz_ok (by decide +kernel)
theorem rd_d15 : decode xMrd.2.1 15 = .ok (.getfield 196, 3) := dz_ok (by decide +kernel)
theorem rd_d18 : decode xMrd.2.1 18 = .ok (.ifCond .eq 118, 3) := dz_ok (by decide +kernel)
theorem rd_d21 : decode xMrd.2.1 21 = .ok (.aload_n 0, 1) := dz_ok (by decide +kernel)
theorem rd_d22 : decode xMrd.2.1 22 = .ok (.getfield 196, 3) := dz_ok (by decide +kernel)
theorem rd_d25 : decode xMrd.2.1 25 = .ok (.istore_n 1, 1) := dz_ok (by decide +kernel)
theorem rd_d26 : decode xMrd.2.1 26 = .ok (.iload_n 1, 1) := dz_ok (by decide +kernel)
theorem rd_d27 : decode xMrd.2.1 27 = .ok (.bipush 10, 2) := dz_ok (by decide +kernel)
theorem rd_d29 : decode xMrd.2.1 29 = .ok (.if_icmp .ge 5, 3) := dz_ok (by decide +kernel)
theorem rd_d32 : decode xMrd.2.1 32 = .ok (.iconst 0, 1) := dz_ok (by decide +kernel)
theorem rd_d33 : decode xMrd.2.1 33 = .ok (.ireturn, 1) := dz_ok (by decide +kernel)
theorem rd_d34 : decode xMrd.2.1 34 = .ok (.aload_n 0, 1) := dz_ok (by decide +kernel)
theorem rd_d35 : decode xMrd.2.1 35 = .ok (.invokevirtual 213, 3) := dz_ok (by decide +kernel)
theorem rd_d38 : decode xMrd.2.1 38 = .ok (.aload_n 0, 1) := dz_ok (by decide +kernel)
theorem rd_d39 : decode xMrd.2.1 39 = .ok (.getfield 35, 3) := dz_ok (by decide +kernel)
theorem rd_d42 : decode xMrd.2.1 42 = .ok (.iconst 4, 1) := dz_ok (by decide +kernel)
theorem rd_d43 : decode xMrd.2.1 43 = .ok (.aload_n 0, 1) := dz_ok (by decide +kernel)
theorem rd_d44 : decode xMrd.2.1 44 = .ok (.getfield 210, 3) := dz_ok (by decide +kernel)
theorem rd_d47 : decode xMrd.2.1 47 = .ok (.imul, 1) := dz_ok (by decide +kernel)
theorem rd_d48 : decode xMrd.2.1 48 = .ok (.iconst 3, 1) := dz_ok (by decide +kernel)
theorem rd_d49 : decode xMrd.2.1 49 = .ok (.iadd, 1) := dz_ok (by decide +kernel)
theorem rd_d50 : decode xMrd.2.1 50 = .ok (.iconst 0, 1) := dz_ok (by decide +kernel)
theorem rd_d51 : decode xMrd.2.1 51 = .ok (.iastore, 1) := dz_ok (by decide +kernel)
theorem rd_d52 : decode xMrd.2.1 52 = .ok (.iconst 0, 1) := dz_ok (by decide +kernel)
theorem rd_d53 : decode xMrd.2.1 53 = .ok (.istore_n 2, 1) := dz_ok (by decide +kernel)
theorem rd_d54 : decode xMrd.2.1 54 = .ok (.iload_n 2, 1) := dz_ok (by decide +kernel)
theorem rd_d55 : decode xMrd.2.1 55 = .ok (.iload_n 1, 1) := dz_ok (by decide +kernel)
theorem rd_d56 : decode xMrd.2.1 56 = .ok (.invokestatic 216, 3) := dz_ok (by decide +kernel)
theorem rd_d59 : decode xMrd.2.1 59 = .ok (.if_icmp .ge 40, 3) := dz_ok (by decide +kernel)
theorem rd_d62 : decode xMrd.2.1 62 = .ok (.aload_n 0, 1) := dz_ok (by decide +kernel)
theorem rd_d63 : decode xMrd.2.1 63 = .ok (.getfield 196, 3) := dz_ok (by decide +kernel)
theorem rd_d66 : decode xMrd.2.1 66 = .ok (.iconst 2, 1) := dz_ok (by decide +kernel)
theorem rd_d67 : decode xMrd.2.1 67 = .ok (.if_icmp .eq 5, 3) := dz_ok (by decide +kernel)
theorem rd_d70 : decode xMrd.2.1 70 = .ok (.iconst 0, 1) := dz_ok (by decide +kernel)
theorem rd_d71 : decode xMrd.2.1 71 = .ok (.ireturn, 1) := dz_ok (by decide +kernel)
theorem rd_d72 : decode xMrd.2.1 72 = .ok (.aload_n 0, 1) := dz_ok (by decide +kernel)
theorem rd_d73 : decode xMrd.2.1 73 = .ok (.getfield 35, 3) := dz_ok (by decide +kernel)
theorem rd_d76 : decode xMrd.2.1 76 = .ok (.iconst 4, 1) := dz_ok (by decide +kernel)
theorem rd_d77 : decode xMrd.2.1 77 = .ok (.aload_n 0, 1) := dz_ok (by decide +kernel)
theorem rd_d78 : decode xMrd.2.1 78 = .ok (.getfield 210, 3) := dz_ok (by decide +kernel)
theorem rd_d81 : decode xMrd.2.1 81 = .ok (.imul, 1) := dz_ok (by decide +kernel)
theorem rd_d82 : decode xMrd.2.1 82 = .ok (.iload_n 2, 1) := dz_ok (by decide +kernel)
theorem rd_d83 : decode xMrd.2.1 83 = .ok (.iadd, 1) := dz_ok (by decide +kernel)
theorem rd_d84 : decode xMrd.2.1 84 = .ok (.aload_n 0, 1) := dz_ok (by decide +kernel)
theorem rd_d85 : decode xMrd.2.1 85 = .ok (.getfield 207, 3) := dz_ok (by decide +kernel)
theorem rd_d88 : decode xMrd.2.1 88 = .ok (.iastore, 1) := dz_ok (by decide +kernel)
theorem rd_d89 : decode xMrd.2.1 89 = .ok (.aload_n 0, 1) := dz_ok (by decide +kernel)
theorem rd_d90 : decode xMrd.2.1 90 = .ok (.invokevirtual 213, 3) := dz_ok (by decide +kernel)
theorem rd_d93 : decode xMrd.2.1 93 = .ok (.iinc 2 1, 3) := dz_ok (by decide +kernel)
theorem rd_d96 : decode xMrd.2.1 96 = .ok (.goto (-42), 3) := dz_ok (by decide +kernel)
theorem rd_d99 : decode xMrd.2.1 99 = .ok (.aload_n 0, 1) := dz_ok (by decide +kernel)
theorem rd_d100 : decode xMrd.2.1 100 = .ok (.getfield 196, 3) := dz_ok (by decide +kernel)
theorem rd_d103 : decode xMrd.2.1 103 = .ok (.iconst 3, 1) := dz_ok (by decide +kernel)
theorem rd_d104 : decode xMrd.2.1 104 = .ok (.if_icmp .eq 5, 3) := dz_ok (by decide +kernel)
theorem rd_d107 : decode xMrd.2.1 107 = .ok (.iconst 0, 1) := dz_ok (by decide +kernel)
theorem rd_d108 : decode xMrd.2.1 108 = .ok (.ireturn, 1) := dz_ok (by decide +kernel)
theorem rd_d109 : decode xMrd.2.1 109 = .ok (.aload_n 0, 1) := dz_ok (by decide +kernel)
theorem rd_d110 : decode xMrd.2.1 110 = .ok (.getfield 32, 3) := dz_ok (by decide +kernel)
theorem rd_d113 : decode xMrd.2.1 113 = .ok (.aload_n 0, 1) := dz_ok (by decide +kernel)
theorem rd_d114 : decode xMrd.2.1 114 = .ok (.getfield 210, 3) := dz_ok (by decide +kernel)
theorem rd_d117 : decode xMrd.2.1 117 = .ok (.iload_n 1, 1) := dz_ok (by decide +kernel)
theorem rd_d118 : decode xMrd.2.1 118 = .ok (.iastore, 1) := dz_ok (by decide +kernel)
theorem rd_d119 : decode xMrd.2.1 119 = .ok (.aload_n 0, 1) := dz_ok (by decide +kernel)
theorem rd_d120 : decode xMrd.2.1 120 = .ok (.dup, 1) := dz_ok (by decide +kernel)
theorem rd_d121 : decode xMrd.2.1 121 = .ok (.getfield 210, 3) := dz_ok (by decide +kernel)
theorem rd_d124 : decode xMrd.2.1 124 = .ok (.iconst 1, 1) := dz_ok (by decide +kernel)
theorem rd_d125 : decode xMrd.2.1 125 = .ok (.iadd, 1) := dz_ok (by decide +kernel)
theorem rd_d126 : decode xMrd.2.1 126 = .ok (.putfield 210, 3) := dz_ok (by decide +kernel)
theorem rd_d129 : decode xMrd.2.1 129 = .ok (.aload_n 0, 1) := dz_ok (by decide +kernel)
theorem rd_d130 : decode xMrd.2.1 130 = .ok (.invokevirtual 213, 3) := dz_ok (by decide +kernel)
theorem rd_d133 : decode xMrd.2.1 133 = .ok (.goto (-119), 3) := dz_ok (by decide +kernel)
theorem rd_d136 : decode xMrd.2.1 136 = .ok (.iconst 1, 1) := dz_ok (by decide +kernel)
theorem rd_d137 : decode xMrd.2.1 137 = .ok (.ireturn, 1) := dz_ok (by decide +kernel)
theorem rd_L54 {p : Program} {l : Launch} {e : Env} {s : State} {m : MethodId} {below : List Frame} {meth : Method} {c : Code} {D : va_G} {U : State} {Y0 : xY} {av : List Value} (B : y_B vwCl x_Tb x_Nb xMrd p s m meth c D U Y0 av) {this : Nat} {ty : Int32} (hty : 0 ≤ ty.toInt ∧ ty.toInt ≤ 240) {verb it : Int32} (hit0 : 0 ≤ it.toInt)
    (out14 : ∀ (H : Heap) (Y : xY) (locs : List Loc) (ls : Array Slot) (at1 : Int32) (tk1 : Int32) (it1 : Int32), x_I D x_G x_Zs U (x_efs xMrd) Y0 s.heap Y H locs → Y this = some 17 → x_sl D 12 11 this H = some (.int at1) → x_sl D 12 10 this H = some (.int ty) → x_sl D 12 13 this H = some (.int tk1) → x_sl D 12 17 this H = some (.int it1) → lv_has ls xMrd.2.2.1 [(0, .ref this)] → (0 ≤ at1.toInt ∧ at1.toInt ≤ ty.toInt) → (0 ≤ it1.toInt ∧ it1.toInt ≤ at1.toInt) → (¬ tk1 = 0 → it1.toInt + 1 ≤ at1.toInt) → (it1.toInt = it.toInt + 1) → W p l e (x_rm xMrd) s m av.toArray below meth c H locs 0 0 (y_QQ below D x_G x_Zs U xMrd y_TP av Y0 s) (F0 m 14 ls [])) :
    ∀ (n : Nat), ∀ (H : Heap) (Y : xY) (locs : List Loc) (ls : Array Slot) (k : Int32) (at_ : Int32) (tk : Int32), x_I D x_G x_Zs U (x_efs xMrd) Y0 s.heap Y H locs → Y this = some 17 → x_sl D 12 11 this H = some (.int at_) → x_sl D 12 10 this H = some (.int ty) → x_sl D 12 13 this H = some (.int tk) → x_sl D 12 17 this H = some (.int it) → lv_has ls xMrd.2.2.1 [(2, .int k), (1, .int verb), (0, .ref this)] → (at_.toInt ≤ ty.toInt ∧ it.toInt + 1 ≤ at_.toInt) → (0 ≤ k.toInt ∧ k.toInt ≤ 4) → (5 - k.toInt).toNat < n → W p l e (x_rm xMrd) s m av.toArray below meth c H locs 0 0 (y_QQ below D x_G x_Zs U xMrd y_TP av Y0 s) (F0 m 54 ls []) := by
  have X := B.1
  have hx := X.1
  have hb := X.2.1
  have hY0 := B.2.2.2.2.1
  intro n
  induction n with
  | zero => intro _ _ _ _ _ _ _ _ _ _ _ _ _ _ _ _ h; exact absurd h (Nat.not_lt_zero _)
  | succ n ih =>
    intro H Y locs ls k at_ tk  hI hY_this hsi_at hsi_typed hsi_token hsi_items hl hat hk hn
    refine lv_iload_n hx hb rd_d54 rfl (lv_at hl 0 rfl) ?_
    refine lv_iload_n hx hb rd_d55 rfl (lv_at hl 1 rfl) ?_
    refine y_call (z := (1, 216, 1, none, xM180)) (av := [.int verb]) (rest := [.int k]) (y_cok.of (x_cokS (n := 1) X xm180 (x_cons (x_bw76 2 rfl rfl) (x_cons (x_bw76 3 rfl rfl) (x_cons (x_bw0 9 rfl rfl) x_nilm))) (x_bw76 4 rfl rfl) (by decide +kernel) ⟨Nat.le_of_ble_eq_true rfl, Nat.le_of_ble_eq_true rfl⟩)) hY0 hI rfl rd_d56 hl.1 (Nat.le_of_ble_eq_true rfl) (Nat.le_of_ble_eq_true rfl) (Nat.le_of_ble_eq_true rfl) (y_cons ⟨_, rfl, x_i32 _⟩ y_nil) rfl (y_norecv rfl) trivial (y_sub_ef rfl) fun v Yn o Hn L ho hr ha hIn hx_ hE hP => ?_
    replace hsi_at := y_Efld hE hY_this rfl (by decide) (by decide) hsi_at
    replace hsi_typed := y_Efld hE hY_this rfl (by decide) (by decide) hsi_typed
    replace hsi_token := y_Efld hE hY_this rfl (by decide) (by decide) hsi_token
    replace hsi_items := y_Efld hE hY_this rfl (by decide) (by decide) hsi_items
    replace hY_this := y_ext hx_ hI.1 hY_this
    obtain ⟨r56, rfl, h_r56⟩ := y_ansI (lo := 1) (hi := 4) (by decide) ho hr
    clear ho hr ha hE hP hI hx_
    rename x_I _ _ _ _ _ _ _ _ _ _ => hI
    refine lv_icmp_ge hx hb rd_d59 (tgt := 99) (by decide) (fun q59 => ?_) (fun q59 => ?_)
    · have q59_ : r56.toInt ≤ k.toInt := x_le32.mp q59
      refine lv_aload_n hx hb rd_d99 rfl (lv_at hl 2 rfl) ?_
      refine y_getf X (fl_rd_209 X.2.2.2.2.1) hI.1 hY_this rfl hsi_token rd_d100 ?_
      refine lv_iconst hx hb rd_d103 (v := 3) (by decide) ?_
      have ec3 : (3 : Int32).toInt = 3 := by decide
      refine lv_icmp_eq hx hb rd_d104 (tgt := 109) (by decide) (fun q104 => ?_) (fun q104 => ?_)
      · have q104_ : tk.toInt = (3 : Int32).toInt := by rw [q104]
        refine lv_aload_n hx hb rd_d109 rfl (lv_at hl 2 rfl) ?_
        obtain ⟨this_verbs, hs_this_verbs, hY_this_verbs⟩ := y_fldR (k := 15) hI.1 hY_this rfl rfl
        refine y_getf X (fl197 X.2.2.2.2.1) hI.1 hY_this rfl hs_this_verbs rd_d110 ?_
        refine lv_aload_n hx hb rd_d113 rfl (lv_at hl 2 rfl) ?_
        refine y_getf X (fl_rd_210 X.2.2.2.2.1) hI.1 hY_this rfl hsi_items rd_d114 ?_
        refine lv_iload_n hx hb rd_d117 rfl (lv_at hl 1 rfl) ?_
        obtain ⟨f_this_verbs, hA_this_verbs, hB_this_verbs⟩ := y_arr hI.1 hY_this_verbs rfl rfl
        refine y_iast X hY0 hI hY_this_verbs rfl hA_this_verbs (by omega) (by show _ < (240 : Int); omega) ⟨_, rfl, x_i32 _⟩ (by decide +kernel) rd_d118 fun H locs hI h_new ho => ?_
        replace hA_this_verbs := h_new
        generalize hf_f118 : y_up f_this_verbs it.toInt.toNat verb = f118 at hA_this_verbs
        replace hsi_at := y_slk hsi_at (ho _ (y_ne hY_this hY_this_verbs rfl))
        replace hsi_typed := y_slk hsi_typed (ho _ (y_ne hY_this hY_this_verbs rfl))
        replace hsi_token := y_slk hsi_token (ho _ (y_ne hY_this hY_this_verbs rfl))
        replace hsi_items := y_slk hsi_items (ho _ (y_ne hY_this hY_this_verbs rfl))
        replace hs_this_verbs := y_slk hs_this_verbs (ho _ (y_ne hY_this hY_this_verbs rfl))
        refine lv_aload_n hx hb rd_d119 rfl (lv_at hl 2 rfl) ?_
        refine lv_dup hx hb rd_d120 rfl ?_
        refine y_getf X (fl_rd_210 X.2.2.2.2.1) hI.1 hY_this rfl hsi_items rd_d121 ?_
        refine lv_iconst hx hb rd_d124 (v := 1) (by decide) ?_
        have ec1 : (1 : Int32).toInt = 1 := by decide
        refine lv_iadd hx hb rd_d125 ?_
        generalize hg_z125 : it + (1 : Int32) = z125
        have h_z125 : z125.toInt = it.toInt + 1 := by rw [← hg_z125]; have := y_add (x := it) (y := (1 : Int32)) (by rw [ec1]; omega) (by rw [ec1]; omega); rw [ec1] at this; exact this
        refine y_putf X (fw_rd_211 X.2.2.2.2.1) hY0 hI hY_this rfl rfl ⟨_, rfl, by show (0 : Int) ≤ _; omega, by show _ ≤ (240 : Int); omega⟩ (by decide +kernel) rd_d126 fun H sl hI ho hs hk => ?_
        replace hsi_at := hk _ _ (by decide +kernel) (by decide) hsi_at
        replace hsi_typed := hk _ _ (by decide +kernel) (by decide) hsi_typed
        replace hsi_token := hk _ _ (by decide +kernel) (by decide) hsi_token
        replace hs_this_verbs := hk _ _ (by decide +kernel) (by decide) hs_this_verbs
        replace hA_this_verbs := hA_this_verbs.kept (ho _ (y_ne hY_this_verbs hY_this rfl))
        replace hs := hs
        replace hsi_items := hs
        refine lv_aload_n hx hb rd_d129 rfl (lv_at hl 2 rfl) ?_
        refine y_call (z := (0, 213, 1, some 17, xMsc)) (av := [.ref this]) (rest := []) (y_cokV (n := 0) (ci := 12) X ym_scans rfl rfl rfl (x_cons (x_bw74 11 rfl rfl) (x_cons (x_bw74 13 rfl rfl) (x_cons (x_at 45 (by decide +kernel) rfl) (x_cons (x_bw0 9 rfl rfl) x_nilm)))) (x_bw74 14 rfl rfl) (by decide +kernel) ⟨Nat.le_of_ble_eq_true rfl, Nat.le_of_ble_eq_true rfl⟩) hY0 hI rfl rd_d130 hl.1 (Nat.le_of_ble_eq_true rfl) (Nat.le_of_ble_eq_true rfl) (Nat.le_of_ble_eq_true rfl) (y_cons (y_cref hY_this rfl) y_nil) rfl (y_recv rfl hY_this) (fun this' at' ty' h1 h2 h3 => by cases h1; cases h2.symm.trans hsi_at; cases h3.symm.trans hsi_typed; omega) (y_sub_ef rfl) fun v Yn o Hn L ho hr ha hIn hx_ hE hP => ?_
        have hPs := hP _ _ _ rfl hsi_at hsi_typed
        replace hsi_typed := y_Efld hE hY_this rfl (by decide) (by decide) hsi_typed
        replace hsi_items := y_Efld hE hY_this rfl (by decide) (by decide) hsi_items
        replace hs_this_verbs := y_Efld hE hY_this rfl (by decide) (by decide) hs_this_verbs
        replace hA_this_verbs := hA_this_verbs.kept (y_Earr hE hY_this_verbs rfl (by decide))
        replace hY_this := y_ext hx_ hI.1 hY_this
        replace hY_this_verbs := y_ext hx_ hI.1 hY_this_verbs
        obtain rfl := y_ansV rfl ho hr
        obtain ⟨at_130, tk_130, hsi_at, hsi_token, hat_130, hat2_130, htk_130⟩ := hPs
        clear ho hr ha hE hP hI hx_
        rename x_I _ _ _ _ _ _ _ _ _ _ => hI
        refine lv_goto hx hb rd_d133 (tgt := 14) (by decide) ?_
        exact out14 _ _ _ _ _ _ _ hI hY_this hsi_at hsi_typed hsi_token hsi_items (lv_sub hl [2] rfl) (by first | assumption | omega) (by first | assumption | omega) (fun q => by have := htk_130 q; omega) (by first | assumption | omega)
      · have q104_ : ¬ tk.toInt = (3 : Int32).toInt := fun q => q104 (Int32.toInt_inj.mp q)
        refine lv_iconst hx hb rd_d107 (v := 0) (by decide) ?_
        have ec0 : (0 : Int32).toInt = 0 := by decide
        exact y_ireturn B hI rfl rfl rfl List.mem_cons_self ⟨_, rfl, ⟨_, rfl, by decide, by decide⟩⟩ (x_cs.mono B.2.2.2.2.2 (y_mon B hI)) trivial (Nat.le_refl _) (Nat.le_refl _) rd_d108
    · have q59_ : k.toInt < r56.toInt := Int.not_le.mp fun q => q59 (x_le32.mpr q)
      refine lv_aload_n hx hb rd_d62 rfl (lv_at hl 2 rfl) ?_
      refine y_getf X (fl_rd_209 X.2.2.2.2.1) hI.1 hY_this rfl hsi_token rd_d63 ?_
      refine lv_iconst hx hb rd_d66 (v := 2) (by decide) ?_
      have ec2 : (2 : Int32).toInt = 2 := by decide
      refine lv_icmp_eq hx hb rd_d67 (tgt := 72) (by decide) (fun q67 => ?_) (fun q67 => ?_)
      · have q67_ : tk.toInt = (2 : Int32).toInt := by rw [q67]
        refine lv_aload_n hx hb rd_d72 rfl (lv_at hl 2 rfl) ?_
        obtain ⟨this_nums, hs_this_nums, hY_this_nums⟩ := y_fldR (k := 16) hI.1 hY_this rfl rfl
        refine y_getf X (fl198 X.2.2.2.2.1) hI.1 hY_this rfl hs_this_nums rd_d73 ?_
        refine lv_iconst hx hb rd_d76 (v := 4) (by decide) ?_
        have ec4 : (4 : Int32).toInt = 4 := by decide
        refine lv_aload_n hx hb rd_d77 rfl (lv_at hl 2 rfl) ?_
        refine y_getf X (fl_rd_210 X.2.2.2.2.1) hI.1 hY_this rfl hsi_items rd_d78 ?_
        refine lv_imul hx hb rd_d81 ?_
        generalize hg_z81 : (4 : Int32) * it = z81
        have h_z81 : z81.toInt = 4 * it.toInt := by rw [← hg_z81]; have := y_mul (x := (4 : Int32)) (y := it) (by rw [ec4]; omega) (by rw [ec4]; omega); rw [ec4] at this; exact this
        refine lv_iload_n hx hb rd_d82 rfl (lv_at hl 0 rfl) ?_
        refine lv_iadd hx hb rd_d83 ?_
        generalize hg_z83 : z81 + k = z83
        have h_z83 : z83.toInt = z81.toInt + k.toInt := by rw [← hg_z83]; have := y_add (x := z81) (y := k) (by omega) (by omega); exact this
        refine lv_aload_n hx hb rd_d84 rfl (lv_at hl 2 rfl) ?_
        obtain ⟨value_85, hs_this_value, h_value_85⟩ := y_fldI (k := 14) hI.1 hY_this rfl rfl
        refine y_getf X (fl_rd_212 X.2.2.2.2.1) hI.1 hY_this rfl hs_this_value rd_d85 ?_
        obtain ⟨f_this_nums, hA_this_nums, hB_this_nums⟩ := y_arr hI.1 hY_this_nums rfl rfl
        refine y_iast X hY0 hI hY_this_nums rfl hA_this_nums (by omega) (by show _ < (960 : Int); omega) ⟨_, rfl, x_i32 _⟩ (by decide +kernel) rd_d88 fun H locs hI h_new ho => ?_
        replace hA_this_nums := h_new
        generalize hf_f88 : y_up f_this_nums z83.toInt.toNat value_85 = f88 at hA_this_nums
        replace hsi_at := y_slk hsi_at (ho _ (y_ne hY_this hY_this_nums rfl))
        replace hsi_typed := y_slk hsi_typed (ho _ (y_ne hY_this hY_this_nums rfl))
        replace hsi_token := y_slk hsi_token (ho _ (y_ne hY_this hY_this_nums rfl))
        replace hsi_items := y_slk hsi_items (ho _ (y_ne hY_this hY_this_nums rfl))
        replace hs_this_nums := y_slk hs_this_nums (ho _ (y_ne hY_this hY_this_nums rfl))
        replace hs_this_value := y_slk hs_this_value (ho _ (y_ne hY_this hY_this_nums rfl))
        refine lv_aload_n hx hb rd_d89 rfl (lv_at hl 2 rfl) ?_
        refine y_call (z := (0, 213, 1, some 17, xMsc)) (av := [.ref this]) (rest := []) (y_cokV (n := 0) (ci := 12) X ym_scans rfl rfl rfl (x_cons (x_bw74 11 rfl rfl) (x_cons (x_bw74 13 rfl rfl) (x_cons (x_at 45 (by decide +kernel) rfl) (x_cons (x_bw0 9 rfl rfl) x_nilm)))) (x_bw74 14 rfl rfl) (by decide +kernel) ⟨Nat.le_of_ble_eq_true rfl, Nat.le_of_ble_eq_true rfl⟩) hY0 hI rfl rd_d90 hl.1 (Nat.le_of_ble_eq_true rfl) (Nat.le_of_ble_eq_true rfl) (Nat.le_of_ble_eq_true rfl) (y_cons (y_cref hY_this rfl) y_nil) rfl (y_recv rfl hY_this) (fun this' at' ty' h1 h2 h3 => by cases h1; cases h2.symm.trans hsi_at; cases h3.symm.trans hsi_typed; omega) (y_sub_ef rfl) fun v Yn o Hn L ho hr ha hIn hx_ hE hP => ?_
        have hPs := hP _ _ _ rfl hsi_at hsi_typed
        replace hsi_typed := y_Efld hE hY_this rfl (by decide) (by decide) hsi_typed
        replace hsi_items := y_Efld hE hY_this rfl (by decide) (by decide) hsi_items
        replace hs_this_nums := y_Efld hE hY_this rfl (by decide) (by decide) hs_this_nums
        replace hA_this_nums := hA_this_nums.kept (y_Earr hE hY_this_nums rfl (by decide))
        replace hY_this := y_ext hx_ hI.1 hY_this
        replace hY_this_nums := y_ext hx_ hI.1 hY_this_nums
        obtain rfl := y_ansV rfl ho hr
        obtain ⟨at_90, tk_90, hsi_at, hsi_token, hat_90, hat2_90, htk_90⟩ := hPs
        clear ho hr ha hE hP hI hx_
        rename x_I _ _ _ _ _ _ _ _ _ _ => hI
        obtain ⟨z93, hg_z93⟩ : ∃ z93 : Int32, k + Int32.ofInt 1 = z93 := ⟨_, rfl⟩
        have h_z93 : z93.toInt = k.toInt + 1 := by rw [← hg_z93]; exact y_inc (by decide) (by omega) (by omega)
        refine lv_iinc hx hb rd_d93 hl (k := 0) rfl hg_z93 (by decide) (lv' := [(2, .int z93), (1, .int verb), (0, .ref this)]) rfl fun ls hl => ?_
        refine lv_goto hx hb rd_d96 (tgt := 54) (by decide) ?_
        exact ih _ _ _ _ _ _ _ hI hY_this hsi_at hsi_typed hsi_token hsi_items (lv_sub hl [0, 1, 2] rfl) (by first | assumption | omega) (by first | assumption | omega) (by omega)
      · have q67_ : ¬ tk.toInt = (2 : Int32).toInt := fun q => q67 (Int32.toInt_inj.mp q)
        refine lv_iconst hx hb rd_d70 (v := 0) (by decide) ?_
        have ec0 : (0 : Int32).toInt = 0 := by decide
        exact y_ireturn B hI rfl rfl rfl List.mem_cons_self ⟨_, rfl, ⟨_, rfl, by decide, by decide⟩⟩ (x_cs.mono B.2.2.2.2.2 (y_mon B hI)) trivial (Nat.le_refl _) (Nat.le_refl _) rd_d71
theorem rd_L14 {p : Program} {l : Launch} {e : Env} {s : State} {m : MethodId} {below : List Frame} {meth : Method} {c : Code} {D : va_G} {U : State} {Y0 : xY} {av : List Value} (B : y_B vwCl x_Tb x_Nb xMrd p s m meth c D U Y0 av) {this : Nat} {ty : Int32} (hty : 0 ≤ ty.toInt ∧ ty.toInt ≤ 240)  :
    ∀ (n : Nat), ∀ (H : Heap) (Y : xY) (locs : List Loc) (ls : Array Slot) (at_ : Int32) (tk : Int32) (it : Int32), x_I D x_G x_Zs U (x_efs xMrd) Y0 s.heap Y H locs → Y this = some 17 → x_sl D 12 11 this H = some (.int at_) → x_sl D 12 10 this H = some (.int ty) → x_sl D 12 13 this H = some (.int tk) → x_sl D 12 17 this H = some (.int it) → lv_has ls xMrd.2.2.1 [(0, .ref this)] → (0 ≤ at_.toInt ∧ at_.toInt ≤ ty.toInt) → (0 ≤ it.toInt ∧ it.toInt ≤ at_.toInt) → (¬ tk = 0 → it.toInt + 1 ≤ at_.toInt) → (241 - it.toInt).toNat < n → W p l e (x_rm xMrd) s m av.toArray below meth c H locs 0 0 (y_QQ below D x_G x_Zs U xMrd y_TP av Y0 s) (F0 m 14 ls []) := by
  have X := B.1
  have hx := X.1
  have hb := X.2.1
  have hY0 := B.2.2.2.2.1
  intro n
  induction n with
  | zero => intro _ _ _ _ _ _ _ _ _ _ _ _ _ _ _ _ _ h; exact absurd h (Nat.not_lt_zero _)
  | succ n ih =>
    intro H Y locs ls at_ tk it  hI hY_this hsi_at hsi_typed hsi_token hsi_items hl hat hit htk hn
    refine lv_aload_n hx hb rd_d14 rfl (lv_at hl 0 rfl) ?_
    refine y_getf X (fl_rd_209 X.2.2.2.2.1) hI.1 hY_this rfl hsi_token rd_d15 ?_
    have ec0 : (0 : Int32).toInt = 0 := by decide
    refine lv_if_eq hx hb rd_d18 (tgt := 136) (by decide) (fun q18 => ?_) (fun q18 => ?_)
    · have q18_ : tk.toInt = (0 : Int32).toInt := by rw [q18]
      refine lv_iconst hx hb rd_d136 (v := 1) (by decide) ?_
      have ec1 : (1 : Int32).toInt = 1 := by decide
      exact y_ireturn B hI rfl rfl rfl List.mem_cons_self ⟨_, rfl, ⟨_, rfl, by decide, by decide⟩⟩ (x_cs.mono B.2.2.2.2.2 (y_mon B hI)) trivial (Nat.le_refl _) (Nat.le_refl _) rd_d137
    · have q18_ : ¬ tk.toInt = (0 : Int32).toInt := fun q => q18 (Int32.toInt_inj.mp q)
      have htk1 := htk q18
      refine lv_aload_n hx hb rd_d21 rfl (lv_at hl 0 rfl) ?_
      refine y_getf X (fl_rd_209 X.2.2.2.2.1) hI.1 hY_this rfl hsi_token rd_d22 ?_
      refine lv_istore_n hx hb rd_d25 rfl hl (by decide) (lv' := [(1, .int tk), (0, .ref this)]) rfl fun ls hl => ?_
      refine lv_iload_n hx hb rd_d26 rfl (lv_at hl 0 rfl) ?_
      refine lv_bipush hx hb rd_d27 (v := 10) (by decide) ?_
      have ec10 : (10 : Int32).toInt = 10 := by decide
      refine lv_icmp_ge hx hb rd_d29 (tgt := 34) (by decide) (fun q29 => ?_) (fun q29 => ?_)
      · have q29_ : (10 : Int32).toInt ≤ tk.toInt := x_le32.mp q29
        refine lv_aload_n hx hb rd_d34 rfl (lv_at hl 1 rfl) ?_
        refine y_call (z := (0, 213, 1, some 17, xMsc)) (av := [.ref this]) (rest := []) (y_cokV (n := 0) (ci := 12) X ym_scans rfl rfl rfl (x_cons (x_bw74 11 rfl rfl) (x_cons (x_bw74 13 rfl rfl) (x_cons (x_at 45 (by decide +kernel) rfl) (x_cons (x_bw0 9 rfl rfl) x_nilm)))) (x_bw74 14 rfl rfl) (by decide +kernel) ⟨Nat.le_of_ble_eq_true rfl, Nat.le_of_ble_eq_true rfl⟩) hY0 hI rfl rd_d35 hl.1 (Nat.le_of_ble_eq_true rfl) (Nat.le_of_ble_eq_true rfl) (Nat.le_of_ble_eq_true rfl) (y_cons (y_cref hY_this rfl) y_nil) rfl (y_recv rfl hY_this) (fun this' at' ty' h1 h2 h3 => by cases h1; cases h2.symm.trans hsi_at; cases h3.symm.trans hsi_typed; omega) (y_sub_ef rfl) fun v Yn o Hn L ho hr ha hIn hx_ hE hP => ?_
        have hPs := hP _ _ _ rfl hsi_at hsi_typed
        replace hsi_typed := y_Efld hE hY_this rfl (by decide) (by decide) hsi_typed
        replace hsi_items := y_Efld hE hY_this rfl (by decide) (by decide) hsi_items
        replace hY_this := y_ext hx_ hI.1 hY_this
        obtain rfl := y_ansV rfl ho hr
        obtain ⟨at_35, tk_35, hsi_at, hsi_token, hat_35, hat2_35, htk_35⟩ := hPs
        clear ho hr ha hE hP hI hx_
        rename x_I _ _ _ _ _ _ _ _ _ _ => hI
        refine lv_aload_n hx hb rd_d38 rfl (lv_at hl 1 rfl) ?_
        obtain ⟨this_nums, hs_this_nums, hY_this_nums⟩ := y_fldR (k := 16) hI.1 hY_this rfl rfl
        refine y_getf X (fl198 X.2.2.2.2.1) hI.1 hY_this rfl hs_this_nums rd_d39 ?_
        refine lv_iconst hx hb rd_d42 (v := 4) (by decide) ?_
        have ec4 : (4 : Int32).toInt = 4 := by decide
        refine lv_aload_n hx hb rd_d43 rfl (lv_at hl 1 rfl) ?_
        refine y_getf X (fl_rd_210 X.2.2.2.2.1) hI.1 hY_this rfl hsi_items rd_d44 ?_
        refine lv_imul hx hb rd_d47 ?_
        generalize hg_z47 : (4 : Int32) * it = z47
        have h_z47 : z47.toInt = 4 * it.toInt := by rw [← hg_z47]; have := y_mul (x := (4 : Int32)) (y := it) (by rw [ec4]; omega) (by rw [ec4]; omega); rw [ec4] at this; exact this
        refine lv_iconst hx hb rd_d48 (v := 3) (by decide) ?_
        have ec3 : (3 : Int32).toInt = 3 := by decide
        refine lv_iadd hx hb rd_d49 ?_
        generalize hg_z49 : z47 + (3 : Int32) = z49
        have h_z49 : z49.toInt = z47.toInt + 3 := by rw [← hg_z49]; have := y_add (x := z47) (y := (3 : Int32)) (by rw [ec3]; omega) (by rw [ec3]; omega); rw [ec3] at this; exact this
        refine lv_iconst hx hb rd_d50 (v := 0) (by decide) ?_
        obtain ⟨f_this_nums, hA_this_nums, hB_this_nums⟩ := y_arr hI.1 hY_this_nums rfl rfl
        refine y_iast X hY0 hI hY_this_nums rfl hA_this_nums (by omega) (by show _ < (960 : Int); omega) ⟨_, rfl, x_i32 _⟩ (by decide +kernel) rd_d51 fun H locs hI h_new ho => ?_
        replace hA_this_nums := h_new
        generalize hf_f51 : y_up f_this_nums z49.toInt.toNat (0 : Int32) = f51 at hA_this_nums
        replace hsi_typed := y_slk hsi_typed (ho _ (y_ne hY_this hY_this_nums rfl))
        replace hsi_items := y_slk hsi_items (ho _ (y_ne hY_this hY_this_nums rfl))
        replace hsi_at := y_slk hsi_at (ho _ (y_ne hY_this hY_this_nums rfl))
        replace hsi_token := y_slk hsi_token (ho _ (y_ne hY_this hY_this_nums rfl))
        replace hs_this_nums := y_slk hs_this_nums (ho _ (y_ne hY_this hY_this_nums rfl))
        refine lv_iconst hx hb rd_d52 (v := 0) (by decide) ?_
        refine lv_istore_n hx hb rd_d53 rfl hl (by decide) (lv' := [(2, .int (0 : Int32)), (1, .int tk), (0, .ref this)]) rfl fun ls hl => ?_
        exact rd_L54 B hty (by first | assumption | omega) (fun H Y locs ls at1 tk1 it1 hI hY_this hsi_at hsi_typed hsi_token hsi_items hl hat hit htk hi1 => ih _ _ _ _ _ _ _ hI hY_this hsi_at hsi_typed hsi_token hsi_items hl hat hit htk (by omega)) 6 _ _ _ _ _ _ _ hI hY_this hsi_at hsi_typed hsi_token hsi_items (lv_sub hl [0, 1, 2] rfl) (by first | assumption | omega) (by first | assumption | omega) (by omega)
      · have q29_ : tk.toInt < (10 : Int32).toInt := Int.not_le.mp fun q => q29 (x_le32.mpr q)
        refine lv_iconst hx hb rd_d32 (v := 0) (by decide) ?_
        exact y_ireturn B hI rfl rfl rfl List.mem_cons_self ⟨_, rfl, ⟨_, rfl, by decide, by decide⟩⟩ (x_cs.mono B.2.2.2.2.2 (y_mon B hI)) trivial (Nat.le_refl _) (Nat.le_refl _) rd_d33
theorem ym_reads : y_Met vwCl x_G x_Zs x_Tb x_Nb xMrd y_T y_TP := by
  refine y_main (by decide +kernel) (by decide +kernel) x_Tb_good x_Nb_ok ?_
  intro p l e s m below meth c D U Y0 av ls B hI hpre hl
  have X := B.1
  have hx := X.1
  have hb := X.2.1
  have hY0 := B.2.2.2.2.1
  obtain ⟨v0, rfl, hv0⟩ := x_one B.2.2.2.2.2
  obtain ⟨this, t0, rfl, ht0, hY_this⟩ := x_ref_at hv0 rfl
  obtain rfl := List.mem_singleton.mp ht0
  replace hl : lv_has ls xMrd.2.2.1 [(0, .ref this)] := hl
  obtain ⟨ty, hsi_typed, h_ty⟩ := y_fldI (k := 10) hI.1 hY_this rfl rfl
  replace h_ty : (0 : Int) ≤ ty.toInt ∧ ty.toInt ≤ 240 := h_ty
  have hty := h_ty
  refine lv_aload_n hx hb rd_d0 rfl (lv_at hl 0 rfl) ?_
  refine lv_iconst hx hb rd_d1 (v := 0) (by decide) ?_
  have ec0 : (0 : Int32).toInt = 0 := by decide
  refine y_putf X (fw_rd_213 X.2.2.2.2.1) hY0 hI hY_this rfl rfl ⟨_, rfl, by show (0 : Int) ≤ _; omega, by show _ ≤ (240 : Int); omega⟩ (by decide +kernel) rd_d2 fun H sl hI ho hs hk => ?_
  replace hsi_typed := hk _ _ (by decide +kernel) (by decide) hsi_typed
  replace hs := hs
  have hs2 := hs
  refine lv_aload_n hx hb rd_d5 rfl (lv_at hl 0 rfl) ?_
  refine lv_iconst hx hb rd_d6 (v := 0) (by decide) ?_
  refine y_putf X (fw_rd_211 X.2.2.2.2.1) hY0 hI hY_this rfl rfl ⟨_, rfl, by show (0 : Int) ≤ _; omega, by show _ ≤ (240 : Int); omega⟩ (by decide +kernel) rd_d7 fun H sl hI ho hs hk => ?_
  replace hsi_typed := hk _ _ (by decide +kernel) (by decide) hsi_typed
  replace hs2 := hk _ _ (by decide +kernel) (by decide) hs2
  replace hs := hs
  have hs7 := hs
  refine lv_aload_n hx hb rd_d10 rfl (lv_at hl 0 rfl) ?_
  refine y_call (z := (0, 213, 1, some 17, xMsc)) (av := [.ref this]) (rest := []) (y_cokV (n := 0) (ci := 12) X ym_scans rfl rfl rfl (x_cons (x_bw74 11 rfl rfl) (x_cons (x_bw74 13 rfl rfl) (x_cons (x_at 45 (by decide +kernel) rfl) (x_cons (x_bw0 9 rfl rfl) x_nilm)))) (x_bw74 14 rfl rfl) (by decide +kernel) ⟨Nat.le_of_ble_eq_true rfl, Nat.le_of_ble_eq_true rfl⟩) hY0 hI rfl rd_d11 hl.1 (Nat.le_of_ble_eq_true rfl) (Nat.le_of_ble_eq_true rfl) (Nat.le_of_ble_eq_true rfl) (y_cons (y_cref hY_this rfl) y_nil) rfl (y_recv rfl hY_this) (fun this' at' ty' h1 h2 h3 => by cases h1; cases h2.symm.trans hs2; cases h3.symm.trans hsi_typed; omega) (y_sub_ef rfl) fun v Yn o Hn L ho hr ha hIn hx_ hE hP => ?_
  have hPs := hP _ _ _ rfl hs2 hsi_typed
  replace hsi_typed := y_Efld hE hY_this rfl (by decide) (by decide) hsi_typed
  replace hs7 := y_Efld hE hY_this rfl (by decide) (by decide) hs7
  replace hY_this := y_ext hx_ hI.1 hY_this
  obtain rfl := y_ansV rfl ho hr
  obtain ⟨at_11, tk_11, hsi_at, hsi_token, hat_11, hat2_11, htk_11⟩ := hPs
  clear ho hr ha hE hP hI hx_
  rename x_I _ _ _ _ _ _ _ _ _ _ => hI
  have hsi_items := hs7
  exact rd_L14 B hty 242 _ _ _ _ _ _ _ hI hY_this hsi_at hsi_typed hsi_token hsi_items (lv_sub hl [0] rfl) (by first | assumption | omega) (by first | assumption | omega) (fun q => by have := htk_11 q; omega) (by omega)
def xMty : xM := (⟨"TwinFiresModel", "type", "(JI)I"⟩, prog_14_method_34_code, 5, some .int, [xR false [17], xFL, xF], [([xR false [17], xFL, xF], some (xF))], [(17, 10), (50, 0), (52, 0)], (2, 42, 0, 0), none)
theorem ty_d0 : decode xMty.2.1 0 = .ok (.iload_n 3, 1) := dz_ok (by decide +kernel)
theorem ty_d1 : decode xMty.2.1 1 = .ok (.i2l, 1) := dz_ok (by decide +kernel)
theorem ty_d2 : decode xMty.2.1 2 = .ok (.lconst 1, 1) := dz_ok (by decide +kernel)
theorem ty_d3 : decode xMty.2.1 3 = .ok (.ldc2_w 158, 3) := dz_ok (by decide +kernel)
theorem ty_d6 : decode xMty.2.1 6 = .ok (.invokestatic 87, 3) := dz_ok (by decide +kernel)
theorem ty_d9 : decode xMty.2.1 9 = .ok (.ifCond .ne 8, 3) := dz_ok (by decide +kernel)
theorem ty_d12 : decode xMty.2.1 12 = .ok (.aload_n 0, 1) := dz_ok (by decide +kernel)
theorem ty_d13 : decode xMty.2.1 13 = .ok (.invokevirtual 102, 3) := dz_ok (by decide +kernel)
theorem ty_d16 : decode xMty.2.1 16 = .ok (.ireturn, 1) := dz_ok (by decide +kernel)
theorem ty_d17 : decode xMty.2.1 17 = .ok (.aload_n 0, 1) := dz_ok (by decide +kernel)
theorem ty_d18 : decode xMty.2.1 18 = .ok (.getfield 160, 3) := dz_ok (by decide +kernel)
theorem ty_d21 : decode xMty.2.1 21 = .ok (.iload_n 3, 1) := dz_ok (by decide +kernel)
theorem ty_d22 : decode xMty.2.1 22 = .ok (.iadd, 1) := dz_ok (by decide +kernel)
theorem ty_d23 : decode xMty.2.1 23 = .ok (.sipush 240, 3) := dz_ok (by decide +kernel)
theorem ty_d26 : decode xMty.2.1 26 = .ok (.if_icmp .le 8, 3) := dz_ok (by decide +kernel)
theorem ty_d29 : decode xMty.2.1 29 = .ok (.aload_n 0, 1) := dz_ok (by decide +kernel)
theorem ty_d30 : decode xMty.2.1 30 = .ok (.invokevirtual 105, 3) := dz_ok (by decide +kernel)
theorem ty_d33 : decode xMty.2.1 33 = .ok (.ireturn, 1) := dz_ok (by decide +kernel)
theorem ty_d34 : decode xMty.2.1 34 = .ok (.iload_n 3, 1) := dz_ok (by decide +kernel)
theorem ty_d35 : decode xMty.2.1 35 = .ok (.iconst 1, 1) := dz_ok (by decide +kernel)
theorem ty_d36 : decode xMty.2.1 36 = .ok (.isub, 1) := dz_ok (by decide +kernel)
theorem ty_d37 : decode xMty.2.1 37 = .ok (.istore 4, 2) := dz_ok (by decide +kernel)
theorem ty_d39 : decode xMty.2.1 39 = .ok (.iload 4, 2) := dz_ok (by decide +kernel)
theorem ty_d41 : decode xMty.2.1 41 = .ok (.ifCond .lt 40, 3) := dz_ok (by decide +kernel)
theorem ty_d44 : decode xMty.2.1 44 = .ok (.aload_n 0, 1) := dz_ok (by decide +kernel)
theorem ty_d45 : decode xMty.2.1 45 = .ok (.getfield 29, 3) := dz_ok (by decide +kernel)
theorem ty_d48 : decode xMty.2.1 48 = .ok (.aload_n 0, 1) := dz_ok (by decide +kernel)
theorem ty_d49 : decode xMty.2.1 49 = .ok (.getfield 160, 3) := dz_ok (by decide +kernel)
theorem ty_d52 : decode xMty.2.1 52 = .ok (.lload_n 1, 1) := dz_ok (by decide +kernel)
theorem ty_d53 : decode xMty.2.1 53 = .ok (.bipush 8, 2) := dz_ok (by decide +kernel)
theorem ty_d55 : decode xMty.2.1 55 = .ok (.iload 4, 2) := dz_ok (by decide +kernel)
theorem ty_d57 : decode xMty.2.1 57 = .ok (.imul, 1) := dz_ok (by decide +kernel)
theorem ty_d58 : decode xMty.2.1 58 = .ok (.lshr, 1) := dz_ok (by decide +kernel)
theorem ty_d59 : decode xMty.2.1 59 = .ok (.ldc2_w 164, 3) := dz_ok (by decide +kernel)
theorem ty_d62 : decode xMty.2.1 62 = .ok (.land, 1) := dz_ok (by decide +kernel)
theorem ty_d63 : decode xMty.2.1 63 = .ok (.l2i, 1) := dz_ok (by decide +kernel)
theorem ty_d64 : decode xMty.2.1 64 = .ok (.iastore, 1) := dz_ok (by decide +kernel)
theorem ty_d65 : decode xMty.2.1 65 = .ok (.aload_n 0, 1) := dz_ok (by decide +kernel)
theorem ty_d66 : decode xMty.2.1 66 = .ok (.dup, 1) := dz_ok (by decide +kernel)
theorem ty_d67 : decode xMty.2.1 67 = .ok (.getfield 160, 3) := dz_ok (by decide +kernel)
theorem ty_d70 : decode xMty.2.1 70 = .ok (.iconst 1, 1) := dz_ok (by decide +kernel)
theorem ty_d71 : decode xMty.2.1 71 = .ok (.iadd, 1) := dz_ok (by decide +kernel)
theorem ty_d72 : decode xMty.2.1 72 = .ok (.putfield 160, 3) := dz_ok (by decide +kernel)
theorem ty_d75 : decode xMty.2.1 75 = .ok (.iinc 4 (-1), 3) := dz_ok (by decide +kernel)
theorem ty_d78 : decode xMty.2.1 78 = .ok (.goto (-39), 3) := dz_ok (by decide +kernel)
theorem ty_d81 : decode xMty.2.1 81 = .ok (.aload_n 0, 1) := dz_ok (by decide +kernel)
theorem ty_d82 : decode xMty.2.1 82 = .ok (.getfield 160, 3) := dz_ok (by decide +kernel)
theorem ty_d85 : decode xMty.2.1 85 = .ok (.ireturn, 1) := dz_ok (by decide +kernel)
theorem ty_L39 {p : Program} {l : Launch} {e : Env} {s : State} {m : MethodId} {below : List Frame} {meth : Method} {c : Code} {D : va_G} {U : State} {Y0 : xY} {av : List Value} (B : y_B vwCl x_Tb x_Nb xMty p s m meth c D U Y0 av) {this : Nat} {v : Int64} {nn : Int32}  :
    ∀ (n : Nat), ∀ (H : Heap) (Y : xY) (locs : List Loc) (ls : Array Slot) (k : Int32) (ty : Int32), x_I D x_G x_Zs U (x_efs xMty) Y0 s.heap Y H locs → Y this = some 17 → x_sl D 12 10 this H = some (.int ty) → lv_has ls xMty.2.2.1 [(4, .int k), (0, .ref this), (1, .long v), (3, .int nn)] → (-1 ≤ k.toInt ∧ k.toInt ≤ 7) → (0 ≤ ty.toInt ∧ ty.toInt + k.toInt + 1 ≤ 240) → (k.toInt + 1).toNat < n → W p l e (x_rm xMty) s m av.toArray below meth c H locs 0 0 (y_QQ below D x_G x_Zs U xMty y_TP av Y0 s) (F0 m 39 ls []) := by
  have X := B.1
  have hx := X.1
  have hb := X.2.1
  have hY0 := B.2.2.2.2.1
  intro n
  induction n with
  | zero => intro _ _ _ _ _ _ _ _ _ _ _ _ h; exact absurd h (Nat.not_lt_zero _)
  | succ n ih =>
    intro H Y locs ls k ty  hI hY_this hsi_typed hl hk hty hn
    refine lv_iload hx hb ty_d39 (lv_at hl 0 rfl) ?_
    have ec0 : (0 : Int32).toInt = 0 := by decide
    refine lv_if_lt hx hb ty_d41 (tgt := 81) (by decide) (fun q41 => ?_) (fun q41 => ?_)
    · have q41_ : k.toInt < (0 : Int32).toInt := x_lt32.mp q41
      refine lv_aload_n hx hb ty_d81 rfl (lv_at hl 1 rfl) ?_
      refine y_getf X (fl193 X.2.2.2.2.1) hI.1 hY_this rfl hsi_typed ty_d82 ?_
      exact y_ireturn B hI rfl rfl rfl List.mem_cons_self ⟨_, rfl, ⟨_, rfl, x_i32 _⟩⟩ (x_cs.mono B.2.2.2.2.2 (y_mon B hI)) trivial (Nat.le_refl _) (Nat.le_refl _) ty_d85
    · have q41_ : (0 : Int32).toInt ≤ k.toInt := Int.not_lt.mp fun q => q41 (x_lt32.mpr q)
      refine lv_aload_n hx hb ty_d44 rfl (lv_at hl 1 rfl) ?_
      obtain ⟨this_text, hs_this_text, hY_this_text⟩ := y_fldR (k := 9) hI.1 hY_this rfl rfl
      refine y_getf X (fl195 X.2.2.2.2.1) hI.1 hY_this rfl hs_this_text ty_d45 ?_
      refine lv_aload_n hx hb ty_d48 rfl (lv_at hl 1 rfl) ?_
      refine y_getf X (fl193 X.2.2.2.2.1) hI.1 hY_this rfl hsi_typed ty_d49 ?_
      refine lv_lload_n hx hb ty_d52 rfl (lv_at hl 2 rfl) ?_
      refine lv_bipush hx hb ty_d53 (v := 8) (by decide) ?_
      have ec8 : (8 : Int32).toInt = 8 := by decide
      refine lv_iload hx hb ty_d55 (lv_at hl 0 rfl) ?_
      refine lv_imul hx hb ty_d57 ?_
      generalize hg_z57 : (8 : Int32) * k = z57
      obtain ⟨z58, hg_z58⟩ : ∃ z58 : Int64, v >>> ((z57).toInt64 &&& 63) = z58 := ⟨_, rfl⟩
      refine lv_lshr hx hb ty_d58 (v := z58) hg_z58 ?_
      refine lv_ldc2 hx hb X.2.2.2.1 (v := 255) (X.2.2.2.2.1 _ (x_bw73 14 rfl rfl)) ty_d59 ?_
      have el255 : (255 : Int64).toInt = 255 := by decide
      refine lv_land hx hb ty_d62 ?_
      generalize hg_z62 : z58 &&& (255 : Int64) = z62
      obtain ⟨z63, hg_z63⟩ : ∃ z63 : Int32, (z62).toInt32 = z63 := ⟨_, rfl⟩
      refine lv_l2i hx hb ty_d63 (v := z63) hg_z63 ?_
      obtain ⟨f_this_text, hA_this_text, hB_this_text⟩ := y_arr hI.1 hY_this_text rfl rfl
      refine y_iast X hY0 hI hY_this_text rfl hA_this_text (by omega) (by show _ < (240 : Int); omega) ⟨_, rfl, x_i32 _⟩ (by decide +kernel) ty_d64 fun H locs hI h_new ho => ?_
      replace hA_this_text := h_new
      generalize hf_f64 : y_up f_this_text ty.toInt.toNat z63 = f64 at hA_this_text
      replace hsi_typed := y_slk hsi_typed (ho _ (y_ne hY_this hY_this_text rfl))
      replace hs_this_text := y_slk hs_this_text (ho _ (y_ne hY_this hY_this_text rfl))
      refine lv_aload_n hx hb ty_d65 rfl (lv_at hl 1 rfl) ?_
      refine lv_dup hx hb ty_d66 rfl ?_
      refine y_getf X (fl193 X.2.2.2.2.1) hI.1 hY_this rfl hsi_typed ty_d67 ?_
      refine lv_iconst hx hb ty_d70 (v := 1) (by decide) ?_
      have ec1 : (1 : Int32).toInt = 1 := by decide
      refine lv_iadd hx hb ty_d71 ?_
      generalize hg_z71 : ty + (1 : Int32) = z71
      have h_z71 : z71.toInt = ty.toInt + 1 := by rw [← hg_z71]; have := y_add (x := ty) (y := (1 : Int32)) (by rw [ec1]; omega) (by rw [ec1]; omega); rw [ec1] at this; exact this
      refine y_putf X (fw194 X.2.2.2.2.1) hY0 hI hY_this rfl rfl ⟨_, rfl, by show (0 : Int) ≤ _; omega, by show _ ≤ (240 : Int); omega⟩ (by decide +kernel) ty_d72 fun H sl hI ho hs hk => ?_
      replace hs_this_text := hk _ _ (by decide +kernel) (by decide) hs_this_text
      replace hA_this_text := hA_this_text.kept (ho _ (y_ne hY_this_text hY_this rfl))
      replace hs := hs
      replace hsi_typed := hs
      obtain ⟨z75, hg_z75⟩ : ∃ z75 : Int32, k + Int32.ofInt (-1) = z75 := ⟨_, rfl⟩
      have h_z75 : z75.toInt = k.toInt + (-1) := by rw [← hg_z75]; exact y_inc (by decide) (by omega) (by omega)
      refine lv_iinc hx hb ty_d75 hl (k := 0) rfl hg_z75 (by decide) (lv' := [(4, .int z75), (0, .ref this), (1, .long v), (3, .int nn)]) rfl fun ls hl => ?_
      refine lv_goto hx hb ty_d78 (tgt := 39) (by decide) ?_
      exact ih _ _ _ _ _ _ hI hY_this hsi_typed (lv_sub hl [0, 1, 2, 3] rfl) (by first | assumption | omega) (by first | assumption | omega) (by omega)
theorem ym_type : y_Met vwCl x_G x_Zs x_Tb x_Nb xMty y_T y_TP := by
  refine y_main (by decide +kernel) (by decide +kernel) x_Tb_good x_Nb_ok ?_
  intro p l e s m below meth c D U Y0 av ls B hI hpre hl
  have X := B.1
  have hx := X.1
  have hb := X.2.1
  have hY0 := B.2.2.2.2.1
  obtain ⟨v0, v1, v2, rfl, hv0, ⟨v, rfl, -⟩, ⟨nn, rfl, -⟩⟩ := y_three B.2.2.2.2.2
  obtain ⟨this, t0, rfl, ht0, hY_this⟩ := x_ref_at hv0 rfl
  obtain rfl := List.mem_singleton.mp ht0
  replace hl : lv_has ls xMty.2.2.1 [(0, .ref this), (1, .long v), (3, .int nn)] := hl
  obtain ⟨ty, hsi_typed, h_ty⟩ := y_fldI (k := 10) hI.1 hY_this rfl rfl
  replace h_ty : (0 : Int) ≤ ty.toInt ∧ ty.toInt ≤ 240 := h_ty
  refine lv_iload_n hx hb ty_d0 rfl (lv_at hl 2 rfl) ?_
  obtain ⟨z1, hg_z1⟩ : ∃ z1 : Int64, nn.toInt64 = z1 := ⟨_, rfl⟩
  have h_z1 : z1.toInt = (nn).toInt := by rw [← hg_z1]; exact Int32.toInt_toInt64 _
  refine lv_i2l hx hb ty_d1 (v := z1) hg_z1 ?_
  refine lv_lconst hx hb ty_d2 (v := 1) (by decide) ?_
  have el1 : (1 : Int64).toInt = 1 := by decide
  refine lv_ldc2 hx hb X.2.2.2.1 (v := 8) (X.2.2.2.2.1 _ (x_bw73 13 rfl rfl)) ty_d3 ?_
  have el8 : (8 : Int64).toInt = 8 := by decide
  refine y_call (z := (1, 87, 3, none, xM148)) (av := [.long z1, .long (1 : Int64), .long (8 : Int64)]) (rest := []) (y_cokS (n := 3) X ym_in (x_cons (x_bw67 11 rfl rfl) (x_cons (x_bw67 12 rfl rfl) (x_cons (x_bw0 9 rfl rfl) x_nilm))) (x_bw67 13 rfl rfl) (by decide +kernel) ⟨Nat.le_of_ble_eq_true rfl, Nat.le_of_ble_eq_true rfl⟩) hY0 hI rfl ty_d6 hl.1 (Nat.le_of_ble_eq_true rfl) (Nat.le_of_ble_eq_true rfl) (Nat.le_of_ble_eq_true rfl) (y_cons ⟨_, rfl, x_i64 _⟩ (y_cons ⟨_, rfl, x_i64 _⟩ (y_cons ⟨_, rfl, x_i64 _⟩ y_nil))) rfl (y_norecv rfl) trivial (y_sub_ef rfl) fun v Yn o Hn L ho hr ha hIn hx_ hE hP => ?_
  replace hsi_typed := y_Efld hE hY_this rfl (by decide) (by decide) hsi_typed
  replace hY_this := y_ext hx_ hI.1 hY_this
  obtain ⟨r6, rfl, hin_r6, hout_r6⟩ := z_inR2 (hP _ _ _ rfl)
  clear ho hr ha hE hP hI hx_
  rename x_I _ _ _ _ _ _ _ _ _ _ => hI
  have ec0 : (0 : Int32).toInt = 0 := by decide
  refine lv_if_ne hx hb ty_d9 (tgt := 17) (by decide) (fun q9 => ?_) (fun q9 => ?_)
  · have q9_ : ¬ r6.toInt = (0 : Int32).toInt := fun q => q9 (Int32.toInt_inj.mp q)
    have hnn := hin_r6 q9
    refine lv_aload_n hx hb ty_d17 rfl (lv_at hl 0 rfl) ?_
    refine y_getf X (fl193 X.2.2.2.2.1) hI.1 hY_this rfl hsi_typed ty_d18 ?_
    refine lv_iload_n hx hb ty_d21 rfl (lv_at hl 2 rfl) ?_
    refine lv_iadd hx hb ty_d22 ?_
    generalize hg_z22 : ty + nn = z22
    have h_z22 : z22.toInt = ty.toInt + nn.toInt := by rw [← hg_z22]; have := y_add (x := ty) (y := nn) (by omega) (by omega); exact this
    refine lv_sipush hx hb ty_d23 (v := 240) (by decide) ?_
    have ec240 : (240 : Int32).toInt = 240 := by decide
    refine lv_icmp_le hx hb ty_d26 (tgt := 34) (by decide) (fun q26 => ?_) (fun q26 => ?_)
    · have q26_ : z22.toInt ≤ (240 : Int32).toInt := x_le32.mp q26
      refine lv_iload_n hx hb ty_d34 rfl (lv_at hl 2 rfl) ?_
      refine lv_iconst hx hb ty_d35 (v := 1) (by decide) ?_
      have ec1 : (1 : Int32).toInt = 1 := by decide
      refine lv_isub hx hb ty_d36 ?_
      generalize hg_z36 : nn - (1 : Int32) = z36
      have h_z36 : z36.toInt = nn.toInt - 1 := by rw [← hg_z36]; have := y_sub (x := nn) (y := (1 : Int32)) (by rw [ec1]; omega) (by rw [ec1]; omega); rw [ec1] at this; exact this
      refine lv_istore hx hb ty_d37 hl (by decide) (lv' := [(4, .int z36), (0, .ref this), (1, .long v), (3, .int nn)]) rfl fun ls hl => ?_
      exact ty_L39 B  20 _ _ _ _ _ _ hI hY_this hsi_typed (lv_sub hl [0, 1, 2, 3] rfl) (by first | assumption | omega) (by first | assumption | omega) (by omega)
    · have q26_ : (240 : Int32).toInt < z22.toInt := Int.not_le.mp fun q => q26 (x_le32.mpr q)
      refine lv_aload_n hx hb ty_d29 rfl (lv_at hl 0 rfl) ?_
      refine y_call (z := (0, 105, 1, some 17, xM146)) (av := [.ref this]) (rest := []) (y_cok.of (x_cokV (n := 0) (ci := 12) X xm146 rfl rfl rfl (x_cons (x_bw68 11 rfl rfl) (x_cons (x_bw68 13 rfl rfl) (x_cons (x_at 34 (by decide +kernel) rfl) (x_cons (x_bw0 9 rfl rfl) x_nilm)))) (x_bw68 14 rfl rfl) (by decide +kernel) ⟨Nat.le_of_ble_eq_true rfl, Nat.le_of_ble_eq_true rfl⟩)) hY0 hI rfl ty_d30 hl.1 (Nat.le_of_ble_eq_true rfl) (Nat.le_of_ble_eq_true rfl) (Nat.le_of_ble_eq_true rfl) (y_cons (y_cref hY_this rfl) y_nil) rfl (y_recv rfl hY_this) trivial (y_sub_ef rfl) fun v Yn o Hn L ho hr ha hIn hx_ hE hP => ?_
      replace hsi_typed := y_Efld hE hY_this rfl (by decide) (by decide) hsi_typed
      replace hY_this := y_ext hx_ hI.1 hY_this
      obtain ⟨r30, rfl, h_r30⟩ := y_ansI (lo := (-2147483648)) (hi := 2147483647) (by decide) ho hr
      clear ho hr ha hE hP hI hx_
      rename x_I _ _ _ _ _ _ _ _ _ _ => hI
      exact y_ireturn B hI rfl rfl rfl List.mem_cons_self ⟨_, rfl, ⟨_, rfl, x_i32 _⟩⟩ (x_cs.mono B.2.2.2.2.2 (y_mon B hI)) trivial (Nat.le_refl _) (Nat.le_refl _) ty_d33
  · have q9_ : r6.toInt = (0 : Int32).toInt := by rw [q9]
    refine lv_aload_n hx hb ty_d12 rfl (lv_at hl 0 rfl) ?_
    refine y_call (z := (0, 102, 1, some 17, xM143)) (av := [.ref this]) (rest := []) (y_cok.of (x_cokV (n := 0) (ci := 12) X xm143 rfl rfl rfl (x_cons (x_bw68 3 rfl rfl) (x_cons (x_bw68 5 rfl rfl) (x_cons (x_at 32 (by decide +kernel) rfl) (x_cons (x_bw0 9 rfl rfl) x_nilm)))) (x_bw68 6 rfl rfl) (by decide +kernel) ⟨Nat.le_of_ble_eq_true rfl, Nat.le_of_ble_eq_true rfl⟩)) hY0 hI rfl ty_d13 hl.1 (Nat.le_of_ble_eq_true rfl) (Nat.le_of_ble_eq_true rfl) (Nat.le_of_ble_eq_true rfl) (y_cons (y_cref hY_this rfl) y_nil) rfl (y_recv rfl hY_this) trivial (y_sub_ef rfl) fun v Yn o Hn L ho hr ha hIn hx_ hE hP => ?_
    replace hsi_typed := y_Efld hE hY_this rfl (by decide) (by decide) hsi_typed
    replace hY_this := y_ext hx_ hI.1 hY_this
    obtain ⟨r13, rfl, h_r13⟩ := y_ansI (lo := (-2147483648)) (hi := 2147483647) (by decide) ho hr
    clear ho hr ha hE hP hI hx_
    rename x_I _ _ _ _ _ _ _ _ _ _ => hI
    exact y_ireturn B hI rfl rfl rfl List.mem_cons_self ⟨_, rfl, ⟨_, rfl, x_i32 _⟩⟩ (x_cs.mono B.2.2.2.2.2 (y_mon B hI)) trivial (Nat.le_refl _) (Nat.le_refl _) ty_d16
def xMim : xM := (⟨"TwinFiresModel", "image", "(I)I"⟩, prog_14_method_78_code, 3, some .int, [xR false [17], xF], [([xR false [17], xF], some (xF))], [(47, 0), (48, 0), (50, 0)], (2, 42, 0, 0), none)
def xMfr : xM := (⟨"TwinFiresModel", "from", "(I)I"⟩, prog_14_method_79_code, 3, some .int, [xR false [17], xF], [([xR false [17], xF], some (xF))], [(46, 0), (50, 0)], (2, 42, 0, 0), none)
theorem im_d0 : decode xMim.2.1 0 = .ok (.iload_n 1, 1) := dz_ok (by decide +kernel)
theorem im_d1 : decode xMim.2.1 1 = .ok (.i2l, 1) := dz_ok (by decide +kernel)
theorem im_d2 : decode xMim.2.1 2 = .ok (.lconst 0, 1) := dz_ok (by decide +kernel)
theorem im_d3 : decode xMim.2.1 3 = .ok (.lconst 1, 1) := dz_ok (by decide +kernel)
theorem im_d4 : decode xMim.2.1 4 = .ok (.invokestatic 87, 3) := dz_ok (by decide +kernel)
theorem im_d7 : decode xMim.2.1 7 = .ok (.ifCond .ne 8, 3) := dz_ok (by decide +kernel)
theorem im_d10 : decode xMim.2.1 10 = .ok (.aload_n 0, 1) := dz_ok (by decide +kernel)
theorem im_d11 : decode xMim.2.1 11 = .ok (.invokevirtual 102, 3) := dz_ok (by decide +kernel)
theorem im_d14 : decode xMim.2.1 14 = .ok (.ireturn, 1) := dz_ok (by decide +kernel)
theorem im_d15 : decode xMim.2.1 15 = .ok (.iconst 0, 1) := dz_ok (by decide +kernel)
theorem im_d16 : decode xMim.2.1 16 = .ok (.istore_n 2, 1) := dz_ok (by decide +kernel)
theorem im_d17 : decode xMim.2.1 17 = .ok (.iload_n 2, 1) := dz_ok (by decide +kernel)
theorem im_d18 : decode xMim.2.1 18 = .ok (.sipush 160, 3) := dz_ok (by decide +kernel)
theorem im_d21 : decode xMim.2.1 21 = .ok (.if_icmp .ge 27, 3) := dz_ok (by decide +kernel)
theorem im_d24 : decode xMim.2.1 24 = .ok (.aload_n 0, 1) := dz_ok (by decide +kernel)
theorem im_d25 : decode xMim.2.1 25 = .ok (.getfield 13, 3) := dz_ok (by decide +kernel)
theorem im_d28 : decode xMim.2.1 28 = .ok (.sipush 160, 3) := dz_ok (by decide +kernel)
theorem im_d31 : decode xMim.2.1 31 = .ok (.iload_n 1, 1) := dz_ok (by decide +kernel)
theorem im_d32 : decode xMim.2.1 32 = .ok (.imul, 1) := dz_ok (by decide +kernel)
theorem im_d33 : decode xMim.2.1 33 = .ok (.iload_n 2, 1) := dz_ok (by decide +kernel)
theorem im_d34 : decode xMim.2.1 34 = .ok (.iadd, 1) := dz_ok (by decide +kernel)
theorem im_d35 : decode xMim.2.1 35 = .ok (.aload_n 0, 1) := dz_ok (by decide +kernel)
theorem im_d36 : decode xMim.2.1 36 = .ok (.getfield 7, 3) := dz_ok (by decide +kernel)
theorem im_d39 : decode xMim.2.1 39 = .ok (.iload_n 2, 1) := dz_ok (by decide +kernel)
theorem im_d40 : decode xMim.2.1 40 = .ok (.iaload, 1) := dz_ok (by decide +kernel)
theorem im_d41 : decode xMim.2.1 41 = .ok (.iastore, 1) := dz_ok (by decide +kernel)
theorem im_d42 : decode xMim.2.1 42 = .ok (.iinc 2 1, 3) := dz_ok (by decide +kernel)
theorem im_d45 : decode xMim.2.1 45 = .ok (.goto (-28), 3) := dz_ok (by decide +kernel)
theorem im_d48 : decode xMim.2.1 48 = .ok (.aload_n 0, 1) := dz_ok (by decide +kernel)
theorem im_d49 : decode xMim.2.1 49 = .ok (.getfield 16, 3) := dz_ok (by decide +kernel)
theorem im_d52 : decode xMim.2.1 52 = .ok (.iload_n 1, 1) := dz_ok (by decide +kernel)
theorem im_d53 : decode xMim.2.1 53 = .ok (.iconst 1, 1) := dz_ok (by decide +kernel)
theorem im_d54 : decode xMim.2.1 54 = .ok (.bastore, 1) := dz_ok (by decide +kernel)
theorem im_d55 : decode xMim.2.1 55 = .ok (.iconst 1, 1) := dz_ok (by decide +kernel)
theorem im_d56 : decode xMim.2.1 56 = .ok (.ireturn, 1) := dz_ok (by decide +kernel)
theorem im_L17 {p : Program} {l : Launch} {e : Env} {s : State} {m : MethodId} {below : List Frame} {meth : Method} {c : Code} {D : va_G} {U : State} {Y0 : xY} {av : List Value} (B : y_B vwCl x_Tb x_Nb xMim p s m meth c D U Y0 av) {this bk im : Nat} {i : Int32} {fb : Nat → Int32} (hi : 0 ≤ i.toInt ∧ i.toInt ≤ 1) (hh : z_hd fb)  :
    ∀ (n : Nat), ∀ (H : Heap) (Y : xY) (locs : List Loc) (ls : Array Slot) (k : Int32) (fi : Nat → Int32), x_I D x_G x_Zs U (x_efs xMim) Y0 s.heap Y H locs → Y this = some 17 → Y bk = some 46 → Y im = some 47 → x_sl D 12 0 this H = some (.ref bk) → x_sl D 12 1 this H = some (.ref im) → y_A bk 160 H fb → y_A im 320 H fi → lv_has ls xMim.2.2.1 [(2, .int k), (0, .ref this), (1, .int i)] → (0 ≤ k.toInt ∧ k.toInt ≤ 160) → (160 - k.toInt).toNat < n → W p l e (x_rm xMim) s m av.toArray below meth c H locs 0 0 (y_QQ below D x_G x_Zs U xMim y_TP av Y0 s) (F0 m 17 ls []) := by
  have X := B.1
  have hx := X.1
  have hb := X.2.1
  have hY0 := B.2.2.2.2.1
  intro n
  induction n with
  | zero => intro _ _ _ _ _ _ _ _ _ _ _ _ _ _ _ _ h; exact absurd h (Nat.not_lt_zero _)
  | succ n ih =>
    intro H Y locs ls k fi hI hY_this hY_bk hY_im hs_bk hs_im hA_bk hA_im hl hk hn
    refine lv_iload_n hx hb im_d17 rfl (lv_at hl 0 rfl) ?_
    refine lv_sipush hx hb im_d18 (v := 160) (by decide) ?_
    have ec160 : (160 : Int32).toInt = 160 := by decide
    refine lv_icmp_ge hx hb im_d21 (tgt := 48) (by decide) (fun q21 => ?_) (fun q21 => ?_)
    · have q21_ : (160 : Int32).toInt ≤ k.toInt := x_le32.mp q21
      refine lv_aload_n hx hb im_d48 rfl (lv_at hl 1 rfl) ?_
      obtain ⟨this_kept, hs_this_kept, hY_this_kept⟩ := y_fldR (k := 2) hI.1 hY_this rfl rfl
      refine y_getf X (fl_im_214 X.2.2.2.2.1) hI.1 hY_this rfl hs_this_kept im_d49 ?_
      refine lv_iload_n hx hb im_d52 rfl (lv_at hl 2 rfl) ?_
      refine lv_iconst hx hb im_d53 (v := 1) (by decide) ?_
      have ec1 : (1 : Int32).toInt = 1 := by decide
      obtain ⟨f_this_kept, hA_this_kept, hB_this_kept⟩ := y_arr hI.1 hY_this_kept rfl rfl
      replace hB_this_kept : ∀ j, j < 2 → (0 : Int) ≤ (f_this_kept j).toInt ∧ (f_this_kept j).toInt ≤ 1 := fun j hj => by obtain ⟨x, e0, e1⟩ := hB_this_kept j hj; cases e0; exact e1
      refine y_zast X hY0 hI hY_this_kept rfl hA_this_kept (by omega) (by show _ < (2 : Int); omega) (y_01 (by omega) (by omega)) ⟨_, rfl, by show (0 : Int) ≤ _; omega, by show _ ≤ (1 : Int); omega⟩ (by decide +kernel) im_d54 fun H locs hI h_new ho => ?_
      replace hA_this_kept := h_new
      replace hB_this_kept := y_upb (i := i.toInt.toNat) (v := (1 : Int32)) hB_this_kept (by constructor <;> omega)
      generalize hf_f54 : y_up f_this_kept i.toInt.toNat (1 : Int32) = f54 at hA_this_kept hB_this_kept
      replace hs_bk := y_slk hs_bk (ho _ (y_ne hY_this hY_this_kept rfl))
      replace hs_im := y_slk hs_im (ho _ (y_ne hY_this hY_this_kept rfl))
      replace hs_this_kept := y_slk hs_this_kept (ho _ (y_ne hY_this hY_this_kept rfl))
      replace hA_bk := hA_bk.kept (ho _ (y_ne hY_bk hY_this_kept rfl))
      replace hA_im := hA_im.kept (ho _ (y_ne hY_im hY_this_kept rfl))
      refine lv_iconst hx hb im_d55 (v := 1) (by decide) ?_
      exact y_ireturn B hI rfl rfl rfl List.mem_cons_self ⟨_, rfl, ⟨_, rfl, x_i32 _⟩⟩ (x_cs.mono B.2.2.2.2.2 (y_mon B hI)) trivial (Nat.le_refl _) (Nat.le_refl _) im_d56
    · have q21_ : k.toInt < (160 : Int32).toInt := Int.not_le.mp fun q => q21 (x_le32.mpr q)
      refine lv_aload_n hx hb im_d24 rfl (lv_at hl 1 rfl) ?_
      refine y_getf X (fl_im_215 X.2.2.2.2.1) hI.1 hY_this rfl hs_im im_d25 ?_
      refine lv_sipush hx hb im_d28 (v := 160) (by decide) ?_
      refine lv_iload_n hx hb im_d31 rfl (lv_at hl 2 rfl) ?_
      refine lv_imul hx hb im_d32 ?_
      generalize hg_z32 : (160 : Int32) * i = z32
      have h_z32 : z32.toInt = 160 * i.toInt := by rw [← hg_z32]; have := y_mul (x := (160 : Int32)) (y := i) (by rw [ec160]; omega) (by rw [ec160]; omega); rw [ec160] at this; exact this
      refine lv_iload_n hx hb im_d33 rfl (lv_at hl 0 rfl) ?_
      refine lv_iadd hx hb im_d34 ?_
      generalize hg_z34 : z32 + k = z34
      have h_z34 : z34.toInt = z32.toInt + k.toInt := by rw [← hg_z34]; have := y_add (x := z32) (y := k) (by omega) (by omega); exact this
      refine lv_aload_n hx hb im_d35 rfl (lv_at hl 1 rfl) ?_
      refine y_getf X (fl190 X.2.2.2.2.1) hI.1 hY_this rfl hs_bk im_d36 ?_
      refine lv_iload_n hx hb im_d39 rfl (lv_at hl 0 rfl) ?_
      refine y_iald X hI.1 hY_bk rfl hA_bk (by omega) (by show _ < (160 : Int); omega) im_d40 ?_
      obtain ⟨e40, hg_e40⟩ : ∃ e40 : Int32, fb k.toInt.toNat = e40 := ⟨_, rfl⟩
      rw [hg_e40]
      refine y_iast X hY0 hI hY_im rfl hA_im (by omega) (by show _ < (320 : Int); omega) (by rw [z_preI_i hi.1 hi.2 (k := k) (by omega) (by omega) (by omega)]; have := z_hdc (Y := Y) hh k.toInt.toNat; rw [hg_e40] at this; exact this) (by decide +kernel) im_d41 fun H locs hI h_new ho => ?_
      replace hA_im := h_new
      generalize hf_f41 : y_up fi z34.toInt.toNat e40 = f41 at hA_im
      replace hs_bk := y_slk hs_bk (ho _ (y_ne hY_this hY_im rfl))
      replace hs_im := y_slk hs_im (ho _ (y_ne hY_this hY_im rfl))
      replace hA_bk := hA_bk.kept (ho _ (y_ne hY_bk hY_im rfl))
      obtain ⟨z42, hg_z42⟩ : ∃ z42 : Int32, k + Int32.ofInt 1 = z42 := ⟨_, rfl⟩
      have h_z42 : z42.toInt = k.toInt + 1 := by rw [← hg_z42]; exact y_inc (by decide) (by omega) (by omega)
      refine lv_iinc hx hb im_d42 hl (k := 0) rfl hg_z42 (by decide) (lv' := [(2, .int z42), (0, .ref this), (1, .int i)]) rfl fun ls hl => ?_
      refine lv_goto hx hb im_d45 (tgt := 17) (by decide) ?_
      exact ih _ _ _ _ _ _ hI hY_this hY_bk hY_im hs_bk hs_im hA_bk hA_im (lv_sub hl [0, 1, 2] rfl) (by first | assumption | omega) (by omega)
theorem ym_image : y_Met vwCl x_G x_Zs x_Tb x_Nb xMim y_T y_TP := by
  refine y_main (by decide +kernel) (by decide +kernel) x_Tb_good x_Nb_ok ?_
  intro p l e s m below meth c D U Y0 av ls B hI hpre hl
  have X := B.1
  have hx := X.1
  have hb := X.2.1
  have hY0 := B.2.2.2.2.1
  obtain ⟨v0, v1, rfl, hv0, ⟨i, rfl, -⟩⟩ := x_two B.2.2.2.2.2
  obtain ⟨this, t0, rfl, ht0, hY_this⟩ := x_ref_at hv0 rfl
  obtain rfl := List.mem_singleton.mp ht0
  replace hl : lv_has ls xMim.2.2.1 [(0, .ref this), (1, .int i)] := hl
  obtain ⟨bk, hs_bk, hY_bk⟩ := y_fldR (k := 0) hI.1 hY_this rfl rfl
  obtain ⟨im, hs_im, hY_im⟩ := y_fldR (k := 1) hI.1 hY_this rfl rfl
  obtain ⟨fb, hA_bk, hB_bk⟩ := y_arr hI.1 hY_bk rfl rfl
  obtain ⟨fi, hA_im, hB_im⟩ := y_arr hI.1 hY_im rfl rfl
  have hh := z_hdr hB_bk
  refine lv_iload_n hx hb im_d0 rfl (lv_at hl 1 rfl) ?_
  obtain ⟨z1, hg_z1⟩ : ∃ z1 : Int64, i.toInt64 = z1 := ⟨_, rfl⟩
  have h_z1 : z1.toInt = (i).toInt := by rw [← hg_z1]; exact Int32.toInt_toInt64 _
  refine lv_i2l hx hb im_d1 (v := z1) hg_z1 ?_
  refine lv_lconst hx hb im_d2 (v := 0) (by decide) ?_
  have el0 : (0 : Int64).toInt = 0 := by decide
  refine lv_lconst hx hb im_d3 (v := 1) (by decide) ?_
  have el1 : (1 : Int64).toInt = 1 := by decide
  refine y_call (z := (1, 87, 3, none, xM148)) (av := [.long z1, .long (0 : Int64), .long (1 : Int64)]) (rest := []) (y_cokS (n := 3) X ym_in (x_cons (x_bw67 11 rfl rfl) (x_cons (x_bw67 12 rfl rfl) (x_cons (x_bw0 9 rfl rfl) x_nilm))) (x_bw67 13 rfl rfl) (by decide +kernel) ⟨Nat.le_of_ble_eq_true rfl, Nat.le_of_ble_eq_true rfl⟩) hY0 hI rfl im_d4 hl.1 (Nat.le_of_ble_eq_true rfl) (Nat.le_of_ble_eq_true rfl) (Nat.le_of_ble_eq_true rfl) (y_cons ⟨_, rfl, x_i64 _⟩ (y_cons ⟨_, rfl, x_i64 _⟩ (y_cons ⟨_, rfl, x_i64 _⟩ y_nil))) rfl (y_norecv rfl) trivial (y_sub_ef rfl) fun v Yn o Hn L ho hr ha hIn hx_ hE hP => ?_
  replace hs_bk := y_Efld hE hY_this rfl (by decide) (by decide) hs_bk
  replace hs_im := y_Efld hE hY_this rfl (by decide) (by decide) hs_im
  replace hA_bk := hA_bk.kept (y_Earr hE hY_bk rfl (by decide))
  replace hA_im := hA_im.kept (y_Earr hE hY_im rfl (by decide))
  replace hY_this := y_ext hx_ hI.1 hY_this
  replace hY_bk := y_ext hx_ hI.1 hY_bk
  replace hY_im := y_ext hx_ hI.1 hY_im
  obtain ⟨r4, rfl, hin_r4, hout_r4⟩ := z_inR2 (hP _ _ _ rfl)
  clear ho hr ha hE hP hI hx_
  rename x_I _ _ _ _ _ _ _ _ _ _ => hI
  have ec0 : (0 : Int32).toInt = 0 := by decide
  refine lv_if_ne hx hb im_d7 (tgt := 15) (by decide) (fun q7 => ?_) (fun q7 => ?_)
  · have q7_ : ¬ r4.toInt = (0 : Int32).toInt := fun q => q7 (Int32.toInt_inj.mp q)
    have hi1 := hin_r4 q7
    have hi : 0 ≤ i.toInt ∧ i.toInt ≤ 1 := by omega
    refine lv_iconst hx hb im_d15 (v := 0) (by decide) ?_
    refine lv_istore_n hx hb im_d16 rfl hl (by decide) (lv' := [(2, .int (0 : Int32)), (0, .ref this), (1, .int i)]) rfl fun ls hl => ?_
    exact im_L17 B hi hh 161 _ _ _ _ _ _ hI hY_this hY_bk hY_im hs_bk hs_im hA_bk hA_im (lv_sub hl [0, 1, 2] rfl) (by first | assumption | omega) (by omega)
  · have q7_ : r4.toInt = (0 : Int32).toInt := by rw [q7]
    refine lv_aload_n hx hb im_d10 rfl (lv_at hl 0 rfl) ?_
    refine y_call (z := (0, 102, 1, some 17, xM143)) (av := [.ref this]) (rest := []) (y_cok.of (x_cokV (n := 0) (ci := 12) X xm143 rfl rfl rfl (x_cons (x_bw68 3 rfl rfl) (x_cons (x_bw68 5 rfl rfl) (x_cons (x_at 32 (by decide +kernel) rfl) (x_cons (x_bw0 9 rfl rfl) x_nilm)))) (x_bw68 6 rfl rfl) (by decide +kernel) ⟨Nat.le_of_ble_eq_true rfl, Nat.le_of_ble_eq_true rfl⟩)) hY0 hI rfl im_d11 hl.1 (Nat.le_of_ble_eq_true rfl) (Nat.le_of_ble_eq_true rfl) (Nat.le_of_ble_eq_true rfl) (y_cons (y_cref hY_this rfl) y_nil) rfl (y_recv rfl hY_this) trivial (y_sub_ef rfl) fun v Yn o Hn L ho hr ha hIn hx_ hE hP => ?_
    replace hs_bk := y_Efld hE hY_this rfl (by decide) (by decide) hs_bk
    replace hs_im := y_Efld hE hY_this rfl (by decide) (by decide) hs_im
    replace hA_bk := hA_bk.kept (y_Earr hE hY_bk rfl (by decide))
    replace hA_im := hA_im.kept (y_Earr hE hY_im rfl (by decide))
    replace hY_this := y_ext hx_ hI.1 hY_this
    replace hY_bk := y_ext hx_ hI.1 hY_bk
    replace hY_im := y_ext hx_ hI.1 hY_im
    obtain ⟨r11, rfl, h_r11⟩ := y_ansI (lo := (-2147483648)) (hi := 2147483647) (by decide) ho hr
    clear ho hr ha hE hP hI hx_
    rename x_I _ _ _ _ _ _ _ _ _ _ => hI
    exact y_ireturn B hI rfl rfl rfl List.mem_cons_self ⟨_, rfl, ⟨_, rfl, x_i32 _⟩⟩ (x_cs.mono B.2.2.2.2.2 (y_mon B hI)) trivial (Nat.le_refl _) (Nat.le_refl _) im_d14
theorem z_hdi {Y : xY} {fi : Nat → Int32} {i : Int32} (hi : 0 ≤ i.toInt ∧ i.toInt ≤ 1) (h : ∀ j, j < 320 → x_c Y (z_preI.getD j xF) (.int (fi j))) : z_hd fun k => fi (160 * i.toInt + k).toNat := by
  have hz : ∀ j, j < 160 → x_c Y ([xI 0 10, xI 0 8, xI 0 8].getD j xF) (.int (fi (160 * i.toInt + j).toNat)) := fun j hj => by
    have e := z_preI_at ⟨i.toInt.toNat, by omega⟩ ⟨j, hj⟩
    have := h (160 * i.toInt + j).toNat (by omega)
    rw [show (160 * i.toInt + (j : Int)).toNat = 160 * i.toInt.toNat + j by omega] at this ⊢
    have e2 : z_preI.getD (160 * i.toInt.toNat + j) xF = [xI 0 10, xI 0 8, xI 0 8].getD j xF := e
    rw [e2] at this
    exact this
  exact z_hdr hz
theorem fr_d0 : decode xMfr.2.1 0 = .ok (.iload_n 1, 1) := dz_ok (by decide +kernel)
theorem fr_d1 : decode xMfr.2.1 1 = .ok (.i2l, 1) := dz_ok (by decide +kernel)
theorem fr_d2 : decode xMfr.2.1 2 = .ok (.lconst 0, 1) := dz_ok (by decide +kernel)
theorem fr_d3 : decode xMfr.2.1 3 = .ok (.lconst 1, 1) := dz_ok (by decide +kernel)
theorem fr_d4 : decode xMfr.2.1 4 = .ok (.invokestatic 87, 3) := dz_ok (by decide +kernel)
theorem fr_d7 : decode xMfr.2.1 7 = .ok (.ifCond .ne 8, 3) := dz_ok (by decide +kernel)
theorem fr_d10 : decode xMfr.2.1 10 = .ok (.aload_n 0, 1) := dz_ok (by decide +kernel)
theorem fr_d11 : decode xMfr.2.1 11 = .ok (.invokevirtual 102, 3) := dz_ok (by decide +kernel)
theorem fr_d14 : decode xMfr.2.1 14 = .ok (.ireturn, 1) := dz_ok (by decide +kernel)
theorem fr_d15 : decode xMfr.2.1 15 = .ok (.aload_n 0, 1) := dz_ok (by decide +kernel)
theorem fr_d16 : decode xMfr.2.1 16 = .ok (.getfield 16, 3) := dz_ok (by decide +kernel)
theorem fr_d19 : decode xMfr.2.1 19 = .ok (.iload_n 1, 1) := dz_ok (by decide +kernel)
theorem fr_d20 : decode xMfr.2.1 20 = .ok (.baload, 1) := dz_ok (by decide +kernel)
theorem fr_d21 : decode xMfr.2.1 21 = .ok (.ifCond .ne 8, 3) := dz_ok (by decide +kernel)
theorem fr_d24 : decode xMfr.2.1 24 = .ok (.aload_n 0, 1) := dz_ok (by decide +kernel)
theorem fr_d25 : decode xMfr.2.1 25 = .ok (.invokevirtual 126, 3) := dz_ok (by decide +kernel)
theorem fr_d28 : decode xMfr.2.1 28 = .ok (.ireturn, 1) := dz_ok (by decide +kernel)
theorem fr_d29 : decode xMfr.2.1 29 = .ok (.iconst 0, 1) := dz_ok (by decide +kernel)
theorem fr_d30 : decode xMfr.2.1 30 = .ok (.istore_n 2, 1) := dz_ok (by decide +kernel)
theorem fr_d31 : decode xMfr.2.1 31 = .ok (.iload_n 2, 1) := dz_ok (by decide +kernel)
theorem fr_d32 : decode xMfr.2.1 32 = .ok (.sipush 160, 3) := dz_ok (by decide +kernel)
theorem fr_d35 : decode xMfr.2.1 35 = .ok (.if_icmp .ge 27, 3) := dz_ok (by decide +kernel)
theorem fr_d38 : decode xMfr.2.1 38 = .ok (.aload_n 0, 1) := dz_ok (by decide +kernel)
theorem fr_d39 : decode xMfr.2.1 39 = .ok (.getfield 7, 3) := dz_ok (by decide +kernel)
theorem fr_d42 : decode xMfr.2.1 42 = .ok (.iload_n 2, 1) := dz_ok (by decide +kernel)
theorem fr_d43 : decode xMfr.2.1 43 = .ok (.aload_n 0, 1) := dz_ok (by decide +kernel)
theorem fr_d44 : decode xMfr.2.1 44 = .ok (.getfield 13, 3) := dz_ok (by decide +kernel)
theorem fr_d47 : decode xMfr.2.1 47 = .ok (.sipush 160, 3) := dz_ok (by decide +kernel)
theorem fr_d50 : decode xMfr.2.1 50 = .ok (.iload_n 1, 1) := dz_ok (by decide +kernel)
theorem fr_d51 : decode xMfr.2.1 51 = .ok (.imul, 1) := dz_ok (by decide +kernel)
theorem fr_d52 : decode xMfr.2.1 52 = .ok (.iload_n 2, 1) := dz_ok (by decide +kernel)
theorem fr_d53 : decode xMfr.2.1 53 = .ok (.iadd, 1) := dz_ok (by decide +kernel)
theorem fr_d54 : decode xMfr.2.1 54 = .ok (.iaload, 1) := dz_ok (by decide +kernel)
theorem fr_d55 : decode xMfr.2.1 55 = .ok (.iastore, 1) := dz_ok (by decide +kernel)
theorem fr_d56 : decode xMfr.2.1 56 = .ok (.iinc 2 1, 3) := dz_ok (by decide +kernel)
theorem fr_d59 : decode xMfr.2.1 59 = .ok (.goto (-28), 3) := dz_ok (by decide +kernel)
theorem fr_d62 : decode xMfr.2.1 62 = .ok (.iconst 1, 1) := dz_ok (by decide +kernel)
theorem fr_d63 : decode xMfr.2.1 63 = .ok (.ireturn, 1) := dz_ok (by decide +kernel)
theorem fr_L31 {p : Program} {l : Launch} {e : Env} {s : State} {m : MethodId} {below : List Frame} {meth : Method} {c : Code} {D : va_G} {U : State} {Y0 : xY} {av : List Value} (B : y_B vwCl x_Tb x_Nb xMfr p s m meth c D U Y0 av) {this bk im : Nat} {i : Int32} {fi : Nat → Int32} (hi : 0 ≤ i.toInt ∧ i.toInt ≤ 1) (hh : z_hd fun k => fi (160 * i.toInt + k).toNat)  :
    ∀ (n : Nat), ∀ (H : Heap) (Y : xY) (locs : List Loc) (ls : Array Slot) (k : Int32) (fb : Nat → Int32), x_I D x_G x_Zs U (x_efs xMfr) Y0 s.heap Y H locs → Y this = some 17 → Y bk = some 46 → Y im = some 47 → x_sl D 12 0 this H = some (.ref bk) → x_sl D 12 1 this H = some (.ref im) → y_A bk 160 H fb → y_A im 320 H fi → lv_has ls xMfr.2.2.1 [(2, .int k), (0, .ref this), (1, .int i)] → (0 ≤ k.toInt ∧ k.toInt ≤ 160) → (160 - k.toInt).toNat < n → W p l e (x_rm xMfr) s m av.toArray below meth c H locs 0 0 (y_QQ below D x_G x_Zs U xMfr y_TP av Y0 s) (F0 m 31 ls []) := by
  have X := B.1
  have hx := X.1
  have hb := X.2.1
  have hY0 := B.2.2.2.2.1
  intro n
  induction n with
  | zero => intro _ _ _ _ _ _ _ _ _ _ _ _ _ _ _ _ h; exact absurd h (Nat.not_lt_zero _)
  | succ n ih =>
    intro H Y locs ls k fb hI hY_this hY_bk hY_im hs_bk hs_im hA_bk hA_im hl hk hn
    refine lv_iload_n hx hb fr_d31 rfl (lv_at hl 0 rfl) ?_
    refine lv_sipush hx hb fr_d32 (v := 160) (by decide) ?_
    have ec160 : (160 : Int32).toInt = 160 := by decide
    refine lv_icmp_ge hx hb fr_d35 (tgt := 62) (by decide) (fun q35 => ?_) (fun q35 => ?_)
    · have q35_ : (160 : Int32).toInt ≤ k.toInt := x_le32.mp q35
      refine lv_iconst hx hb fr_d62 (v := 1) (by decide) ?_
      have ec1 : (1 : Int32).toInt = 1 := by decide
      exact y_ireturn B hI rfl rfl rfl List.mem_cons_self ⟨_, rfl, ⟨_, rfl, x_i32 _⟩⟩ (x_cs.mono B.2.2.2.2.2 (y_mon B hI)) trivial (Nat.le_refl _) (Nat.le_refl _) fr_d63
    · have q35_ : k.toInt < (160 : Int32).toInt := Int.not_le.mp fun q => q35 (x_le32.mpr q)
      refine lv_aload_n hx hb fr_d38 rfl (lv_at hl 1 rfl) ?_
      refine y_getf X (fl190 X.2.2.2.2.1) hI.1 hY_this rfl hs_bk fr_d39 ?_
      refine lv_iload_n hx hb fr_d42 rfl (lv_at hl 0 rfl) ?_
      refine lv_aload_n hx hb fr_d43 rfl (lv_at hl 1 rfl) ?_
      refine y_getf X (fl_im_215 X.2.2.2.2.1) hI.1 hY_this rfl hs_im fr_d44 ?_
      refine lv_sipush hx hb fr_d47 (v := 160) (by decide) ?_
      refine lv_iload_n hx hb fr_d50 rfl (lv_at hl 2 rfl) ?_
      refine lv_imul hx hb fr_d51 ?_
      generalize hg_z51 : (160 : Int32) * i = z51
      have h_z51 : z51.toInt = 160 * i.toInt := by rw [← hg_z51]; have := y_mul (x := (160 : Int32)) (y := i) (by rw [ec160]; omega) (by rw [ec160]; omega); rw [ec160] at this; exact this
      refine lv_iload_n hx hb fr_d52 rfl (lv_at hl 0 rfl) ?_
      refine lv_iadd hx hb fr_d53 ?_
      generalize hg_z53 : z51 + k = z53
      have h_z53 : z53.toInt = z51.toInt + k.toInt := by rw [← hg_z53]; have := y_add (x := z51) (y := k) (by omega) (by omega); exact this
      refine y_iald X hI.1 hY_im rfl hA_im (by omega) (by show _ < (320 : Int); omega) fr_d54 ?_
      obtain ⟨e54, hg_e54⟩ : ∃ e54 : Int32, fi z53.toInt.toNat = e54 := ⟨_, rfl⟩
      rw [hg_e54]
      refine y_iast X hY0 hI hY_bk rfl hA_bk (by omega) (by show _ < (160 : Int); omega) (by have := z_hdc (Y := Y) hh k.toInt.toNat; rw [show (160 * i.toInt + (k.toInt.toNat : Int)).toNat = z53.toInt.toNat by omega, hg_e54] at this; exact this) (by decide +kernel) fr_d55 fun H locs hI h_new ho => ?_
      replace hA_bk := h_new
      generalize hf_f55 : y_up fb k.toInt.toNat e54 = f55 at hA_bk
      replace hs_bk := y_slk hs_bk (ho _ (y_ne hY_this hY_bk rfl))
      replace hs_im := y_slk hs_im (ho _ (y_ne hY_this hY_bk rfl))
      replace hA_im := hA_im.kept (ho _ (y_ne hY_im hY_bk rfl))
      obtain ⟨z56, hg_z56⟩ : ∃ z56 : Int32, k + Int32.ofInt 1 = z56 := ⟨_, rfl⟩
      have h_z56 : z56.toInt = k.toInt + 1 := by rw [← hg_z56]; exact y_inc (by decide) (by omega) (by omega)
      refine lv_iinc hx hb fr_d56 hl (k := 0) rfl hg_z56 (by decide) (lv' := [(2, .int z56), (0, .ref this), (1, .int i)]) rfl fun ls hl => ?_
      refine lv_goto hx hb fr_d59 (tgt := 31) (by decide) ?_
      exact ih _ _ _ _ _ _ hI hY_this hY_bk hY_im hs_bk hs_im hA_bk hA_im (lv_sub hl [0, 1, 2] rfl) (by first | assumption | omega) (by omega)
theorem ym_from : y_Met vwCl x_G x_Zs x_Tb x_Nb xMfr y_T y_TP := by
  refine y_main (by decide +kernel) (by decide +kernel) x_Tb_good x_Nb_ok ?_
  intro p l e s m below meth c D U Y0 av ls B hI hpre hl
  have X := B.1
  have hx := X.1
  have hb := X.2.1
  have hY0 := B.2.2.2.2.1
  obtain ⟨v0, v1, rfl, hv0, ⟨i, rfl, -⟩⟩ := x_two B.2.2.2.2.2
  obtain ⟨this, t0, rfl, ht0, hY_this⟩ := x_ref_at hv0 rfl
  obtain rfl := List.mem_singleton.mp ht0
  replace hl : lv_has ls xMfr.2.2.1 [(0, .ref this), (1, .int i)] := hl
  obtain ⟨bk, hs_bk, hY_bk⟩ := y_fldR (k := 0) hI.1 hY_this rfl rfl
  obtain ⟨im, hs_im, hY_im⟩ := y_fldR (k := 1) hI.1 hY_this rfl rfl
  obtain ⟨fb, hA_bk, hB_bk⟩ := y_arr hI.1 hY_bk rfl rfl
  obtain ⟨fi, hA_im, hB_im⟩ := y_arr hI.1 hY_im rfl rfl
  refine lv_iload_n hx hb fr_d0 rfl (lv_at hl 1 rfl) ?_
  obtain ⟨z1, hg_z1⟩ : ∃ z1 : Int64, i.toInt64 = z1 := ⟨_, rfl⟩
  have h_z1 : z1.toInt = (i).toInt := by rw [← hg_z1]; exact Int32.toInt_toInt64 _
  refine lv_i2l hx hb fr_d1 (v := z1) hg_z1 ?_
  refine lv_lconst hx hb fr_d2 (v := 0) (by decide) ?_
  have el0 : (0 : Int64).toInt = 0 := by decide
  refine lv_lconst hx hb fr_d3 (v := 1) (by decide) ?_
  have el1 : (1 : Int64).toInt = 1 := by decide
  refine y_call (z := (1, 87, 3, none, xM148)) (av := [.long z1, .long (0 : Int64), .long (1 : Int64)]) (rest := []) (y_cokS (n := 3) X ym_in (x_cons (x_bw67 11 rfl rfl) (x_cons (x_bw67 12 rfl rfl) (x_cons (x_bw0 9 rfl rfl) x_nilm))) (x_bw67 13 rfl rfl) (by decide +kernel) ⟨Nat.le_of_ble_eq_true rfl, Nat.le_of_ble_eq_true rfl⟩) hY0 hI rfl fr_d4 hl.1 (Nat.le_of_ble_eq_true rfl) (Nat.le_of_ble_eq_true rfl) (Nat.le_of_ble_eq_true rfl) (y_cons ⟨_, rfl, x_i64 _⟩ (y_cons ⟨_, rfl, x_i64 _⟩ (y_cons ⟨_, rfl, x_i64 _⟩ y_nil))) rfl (y_norecv rfl) trivial (y_sub_ef rfl) fun v Yn o Hn L ho hr ha hIn hx_ hE hP => ?_
  replace hs_bk := y_Efld hE hY_this rfl (by decide) (by decide) hs_bk
  replace hs_im := y_Efld hE hY_this rfl (by decide) (by decide) hs_im
  replace hA_bk := hA_bk.kept (y_Earr hE hY_bk rfl (by decide))
  replace hA_im := hA_im.kept (y_Earr hE hY_im rfl (by decide))
  replace hY_this := y_ext hx_ hI.1 hY_this
  replace hY_bk := y_ext hx_ hI.1 hY_bk
  replace hY_im := y_ext hx_ hI.1 hY_im
  obtain ⟨r4, rfl, hin_r4, hout_r4⟩ := z_inR2 (hP _ _ _ rfl)
  clear ho hr ha hE hP hI hx_
  rename x_I _ _ _ _ _ _ _ _ _ _ => hI
  have ec0 : (0 : Int32).toInt = 0 := by decide
  refine lv_if_ne hx hb fr_d7 (tgt := 15) (by decide) (fun q7 => ?_) (fun q7 => ?_)
  · have q7_ : ¬ r4.toInt = (0 : Int32).toInt := fun q => q7 (Int32.toInt_inj.mp q)
    have hi1 := hin_r4 q7
    have hi : 0 ≤ i.toInt ∧ i.toInt ≤ 1 := by omega
    have hh := z_hdi hi hB_im
    refine lv_aload_n hx hb fr_d15 rfl (lv_at hl 0 rfl) ?_
    obtain ⟨this_kept, hs_this_kept, hY_this_kept⟩ := y_fldR (k := 2) hI.1 hY_this rfl rfl
    refine y_getf X (fl_im_214 X.2.2.2.2.1) hI.1 hY_this rfl hs_this_kept fr_d16 ?_
    refine lv_iload_n hx hb fr_d19 rfl (lv_at hl 1 rfl) ?_
    obtain ⟨f_this_kept, hA_this_kept, hB_this_kept⟩ := y_arr hI.1 hY_this_kept rfl rfl
    replace hB_this_kept : ∀ j, j < 2 → (0 : Int) ≤ (f_this_kept j).toInt ∧ (f_this_kept j).toInt ≤ 1 := fun j hj => by obtain ⟨x, e0, e1⟩ := hB_this_kept j hj; cases e0; exact e1
    refine y_zald X hI.1 hY_this_kept rfl hA_this_kept (by omega) (by show _ < (2 : Int); omega) fr_d20 ?_
    obtain ⟨e20, hg_e20⟩ : ∃ e20 : Int32, f_this_kept i.toInt.toNat = e20 := ⟨_, rfl⟩
    rw [hg_e20]
    have h_e20 : (0 : Int) ≤ e20.toInt ∧ e20.toInt ≤ 1 := by rw [← hg_e20]; exact hB_this_kept _ (by omega)
    refine lv_if_ne hx hb fr_d21 (tgt := 29) (by decide) (fun q21 => ?_) (fun q21 => ?_)
    · have q21_ : ¬ e20.toInt = (0 : Int32).toInt := fun q => q21 (Int32.toInt_inj.mp q)
      refine lv_iconst hx hb fr_d29 (v := 0) (by decide) ?_
      refine lv_istore_n hx hb fr_d30 rfl hl (by decide) (lv' := [(2, .int (0 : Int32)), (0, .ref this), (1, .int i)]) rfl fun ls hl => ?_
      exact fr_L31 B hi hh 161 _ _ _ _ _ _ hI hY_this hY_bk hY_im hs_bk hs_im hA_bk hA_im (lv_sub hl [0, 1, 2] rfl) (by first | assumption | omega) (by omega)
    · have q21_ : e20.toInt = (0 : Int32).toInt := by rw [q21]
      refine lv_aload_n hx hb fr_d24 rfl (lv_at hl 0 rfl) ?_
      refine y_call (z := (0, 126, 1, some 17, xM164)) (av := [.ref this]) (rest := []) (y_cok.of (x_cokV (n := 0) (ci := 12) X xm164 rfl rfl rfl (x_cons (x_bw70 11 rfl rfl) (x_cons (x_bw70 13 rfl rfl) (x_cons (x_at 38 (by decide +kernel) rfl) (x_cons (x_bw0 9 rfl rfl) x_nilm)))) (x_bw70 14 rfl rfl) (by decide +kernel) ⟨Nat.le_of_ble_eq_true rfl, Nat.le_of_ble_eq_true rfl⟩)) hY0 hI rfl fr_d25 hl.1 (Nat.le_of_ble_eq_true rfl) (Nat.le_of_ble_eq_true rfl) (Nat.le_of_ble_eq_true rfl) (y_cons (y_cref hY_this rfl) y_nil) rfl (y_recv rfl hY_this) trivial (y_sub_ef rfl) fun v Yn o Hn L ho hr ha hIn hx_ hE hP => ?_
      replace hs_bk := y_Efld hE hY_this rfl (by decide) (by decide) hs_bk
      replace hs_im := y_Efld hE hY_this rfl (by decide) (by decide) hs_im
      replace hs_this_kept := y_Efld hE hY_this rfl (by decide) (by decide) hs_this_kept
      replace hA_bk := hA_bk.kept (y_Earr hE hY_bk rfl (by decide))
      replace hA_im := hA_im.kept (y_Earr hE hY_im rfl (by decide))
      replace hA_this_kept := hA_this_kept.kept (y_Earr hE hY_this_kept rfl (by decide))
      replace hY_this := y_ext hx_ hI.1 hY_this
      replace hY_bk := y_ext hx_ hI.1 hY_bk
      replace hY_im := y_ext hx_ hI.1 hY_im
      replace hY_this_kept := y_ext hx_ hI.1 hY_this_kept
      obtain ⟨r25, rfl, h_r25⟩ := y_ansI (lo := (-2147483648)) (hi := 2147483647) (by decide) ho hr
      clear ho hr ha hE hP hI hx_
      rename x_I _ _ _ _ _ _ _ _ _ _ => hI
      exact y_ireturn B hI rfl rfl rfl List.mem_cons_self ⟨_, rfl, ⟨_, rfl, x_i32 _⟩⟩ (x_cs.mono B.2.2.2.2.2 (y_mon B hI)) trivial (Nat.le_refl _) (Nat.le_refl _) fr_d28
  · have q7_ : r4.toInt = (0 : Int32).toInt := by rw [q7]
    refine lv_aload_n hx hb fr_d10 rfl (lv_at hl 0 rfl) ?_
    refine y_call (z := (0, 102, 1, some 17, xM143)) (av := [.ref this]) (rest := []) (y_cok.of (x_cokV (n := 0) (ci := 12) X xm143 rfl rfl rfl (x_cons (x_bw68 3 rfl rfl) (x_cons (x_bw68 5 rfl rfl) (x_cons (x_at 32 (by decide +kernel) rfl) (x_cons (x_bw0 9 rfl rfl) x_nilm)))) (x_bw68 6 rfl rfl) (by decide +kernel) ⟨Nat.le_of_ble_eq_true rfl, Nat.le_of_ble_eq_true rfl⟩)) hY0 hI rfl fr_d11 hl.1 (Nat.le_of_ble_eq_true rfl) (Nat.le_of_ble_eq_true rfl) (Nat.le_of_ble_eq_true rfl) (y_cons (y_cref hY_this rfl) y_nil) rfl (y_recv rfl hY_this) trivial (y_sub_ef rfl) fun v Yn o Hn L ho hr ha hIn hx_ hE hP => ?_
    replace hs_bk := y_Efld hE hY_this rfl (by decide) (by decide) hs_bk
    replace hs_im := y_Efld hE hY_this rfl (by decide) (by decide) hs_im
    replace hA_bk := hA_bk.kept (y_Earr hE hY_bk rfl (by decide))
    replace hA_im := hA_im.kept (y_Earr hE hY_im rfl (by decide))
    replace hY_this := y_ext hx_ hI.1 hY_this
    replace hY_bk := y_ext hx_ hI.1 hY_bk
    replace hY_im := y_ext hx_ hI.1 hY_im
    obtain ⟨r11, rfl, h_r11⟩ := y_ansI (lo := (-2147483648)) (hi := 2147483647) (by decide) ho hr
    clear ho hr ha hE hP hI hx_
    rename x_I _ _ _ _ _ _ _ _ _ _ => hI
    exact y_ireturn B hI rfl rfl rfl List.mem_cons_self ⟨_, rfl, ⟨_, rfl, x_i32 _⟩⟩ (x_cs.mono B.2.2.2.2.2 (y_mon B hI)) trivial (Nat.le_refl _) (Nat.le_refl _) fr_d14
