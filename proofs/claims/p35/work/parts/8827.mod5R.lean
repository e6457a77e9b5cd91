theorem fl_im_238y {s : State} {args : Array Value} (hts : ∀ w ∈ x_Tb, w.before args s = true) : x_fok vwCl x_G x_Tb s args "TwinFiresModel" (16, 17, 2) := ⟨12, _, RX12, TX12, "TwinFiresModel", rfl, rfl, Nat.le_of_ble_eq_true rfl, iX12, (hts _ (x_bw62 5 rfl rfl)), fun x h => h⟩
theorem fl_im_239y {s : State} {args : Array Value} (hts : ∀ w ∈ x_Tb, w.before args s = true) : x_fok vwCl x_G x_Tb s args "TwinFiresModel" (13, 17, 1) := ⟨12, _, RX12, TX12, "TwinFiresModel", rfl, rfl, Nat.le_of_ble_eq_true rfl, iX12, (hts _ (x_bw62 4 rfl rfl)), fun x h => h⟩
theorem fl_bZ_240 {s : State} {args : Array Value} (hts : ∀ w ∈ x_Tb, w.before args s = true) : x_fok vwCl x_G x_Tb s args "TwinFiresModel" (7, 18, 0) := ⟨12, _, RX12, TX12, "TwinFiresModel", rfl, rfl, Nat.le_of_ble_eq_true rfl, iX12, (hts _ (x_bw62 3 rfl rfl)), fun x h => h⟩
theorem fw_mZ_241 {s : State} {args : Array Value} {mn : String} (hts : ∀ w ∈ x_Tb, w.before args s = true) : x_pok vwCl x_G x_Tb s args "TwinFiresModel" mn (68, 18, 7) := ⟨12, _, RX12, TX12, "TwinFiresModel", tyX12, _, rfl, rfl, Nat.le_of_ble_eq_true rfl, iX12, (hts _ (x_bw62 10 rfl rfl)), fun x h => h, tyX12_ok, nmX12, rfl, x_fitL _ _, Or.inl rfl⟩
theorem fw_mZ_242 {s : State} {args : Array Value} {mn : String} (hts : ∀ w ∈ x_Tb, w.before args s = true) (hn : mn = "<init>") : x_pok vwCl x_G x_Tb s args "TwinFiresModel" mn (7, 18, 0) := ⟨12, _, RX12, TX12, "TwinFiresModel", tyX12, _, rfl, rfl, Nat.le_of_ble_eq_true rfl, iX12, (hts _ (x_bw62 3 rfl rfl)), fun x h => h, tyX12_ok, nmX12, rfl, x_fitA1 _ _, Or.inr ⟨rfl, hn, rfl⟩⟩
theorem fw_mZ_243 {s : State} {args : Array Value} {mn : String} (hts : ∀ w ∈ x_Tb, w.before args s = true) (hn : mn = "<init>") : x_pok vwCl x_G x_Tb s args "TwinFiresModel" mn (13, 18, 1) := ⟨12, _, RX12, TX12, "TwinFiresModel", tyX12, _, rfl, rfl, Nat.le_of_ble_eq_true rfl, iX12, (hts _ (x_bw62 4 rfl rfl)), fun x h => h, tyX12_ok, nmX12, rfl, x_fitA1 _ _, Or.inr ⟨rfl, hn, rfl⟩⟩
theorem fw_mZ_244 {s : State} {args : Array Value} {mn : String} (hts : ∀ w ∈ x_Tb, w.before args s = true) (hn : mn = "<init>") : x_pok vwCl x_G x_Tb s args "TwinFiresModel" mn (16, 18, 2) := ⟨12, _, RX12, TX12, "TwinFiresModel", tyX12, _, rfl, rfl, Nat.le_of_ble_eq_true rfl, iX12, (hts _ (x_bw62 5 rfl rfl)), fun x h => h, tyX12_ok, nmX12, rfl, x_fitA1 _ _, Or.inr ⟨rfl, hn, rfl⟩⟩
theorem fw_mZ_245 {s : State} {args : Array Value} {mn : String} (hts : ∀ w ∈ x_Tb, w.before args s = true) (hn : mn = "<init>") : x_pok vwCl x_G x_Tb s args "TwinFiresModel" mn (20, 18, 3) := ⟨12, _, RX12, TX12, "TwinFiresModel", tyX12, _, rfl, rfl, Nat.le_of_ble_eq_true rfl, iX12, (hts _ (x_bw62 6 rfl rfl)), fun x h => h, tyX12_ok, nmX12, rfl, x_fitA1 _ _, Or.inr ⟨rfl, hn, rfl⟩⟩
theorem fw_mZ_246 {s : State} {args : Array Value} {mn : String} (hts : ∀ w ∈ x_Tb, w.before args s = true) (hn : mn = "<init>") : x_pok vwCl x_G x_Tb s args "TwinFiresModel" mn (23, 18, 4) := ⟨12, _, RX12, TX12, "TwinFiresModel", tyX12, _, rfl, rfl, Nat.le_of_ble_eq_true rfl, iX12, (hts _ (x_bw62 7 rfl rfl)), fun x h => h, tyX12_ok, nmX12, rfl, x_fitA1 _ _, Or.inr ⟨rfl, hn, rfl⟩⟩
theorem fw_mZ_247 {s : State} {args : Array Value} {mn : String} (hts : ∀ w ∈ x_Tb, w.before args s = true) (hn : mn = "<init>") : x_pok vwCl x_G x_Tb s args "TwinFiresModel" mn (26, 18, 8) := ⟨12, _, RX12, TX12, "TwinFiresModel", tyX12, _, rfl, rfl, Nat.le_of_ble_eq_true rfl, iX12, (hts _ (x_bw62 11 rfl rfl)), fun x h => h, tyX12_ok, nmX12, rfl, x_fitA1 _ _, Or.inr ⟨rfl, hn, rfl⟩⟩
theorem fw_mZ_248 {s : State} {args : Array Value} {mn : String} (hts : ∀ w ∈ x_Tb, w.before args s = true) (hn : mn = "<init>") : x_pok vwCl x_G x_Tb s args "TwinFiresModel" mn (29, 18, 9) := ⟨12, _, RX12, TX12, "TwinFiresModel", tyX12, _, rfl, rfl, Nat.le_of_ble_eq_true rfl, iX12, (hts _ (x_bw62 12 rfl rfl)), fun x h => h, tyX12_ok, nmX12, rfl, x_fitA1 _ _, Or.inr ⟨rfl, hn, rfl⟩⟩
theorem fw_mZ_249 {s : State} {args : Array Value} {mn : String} (hts : ∀ w ∈ x_Tb, w.before args s = true) (hn : mn = "<init>") : x_pok vwCl x_G x_Tb s args "TwinFiresModel" mn (32, 18, 15) := ⟨12, _, RX12, TX12, "TwinFiresModel", tyX12, _, rfl, rfl, Nat.le_of_ble_eq_true rfl, iX12, (hts _ (x_bw63 2 rfl rfl)), fun x h => h, tyX12_ok, nmX12, rfl, x_fitA1 _ _, Or.inr ⟨rfl, hn, rfl⟩⟩
theorem fw_mZ_250 {s : State} {args : Array Value} {mn : String} (hts : ∀ w ∈ x_Tb, w.before args s = true) (hn : mn = "<init>") : x_pok vwCl x_G x_Tb s args "TwinFiresModel" mn (35, 18, 16) := ⟨12, _, RX12, TX12, "TwinFiresModel", tyX12, _, rfl, rfl, Nat.le_of_ble_eq_true rfl, iX12, (hts _ (x_bw63 3 rfl rfl)), fun x h => h, tyX12_ok, nmX12, rfl, x_fitA1 _ _, Or.inr ⟨rfl, hn, rfl⟩⟩
theorem fw_mZ_251 {s : State} {args : Array Value} {mn : String} (hts : ∀ w ∈ x_Tb, w.before args s = true) (hn : mn = "<init>") : x_pok vwCl x_G x_Tb s args "TwinFiresModel" mn (38, 18, 18) := ⟨12, _, RX12, TX12, "TwinFiresModel", tyX12, _, rfl, rfl, Nat.le_of_ble_eq_true rfl, iX12, (hts _ (x_bw63 5 rfl rfl)), fun x h => h, tyX12_ok, nmX12, rfl, x_fitA1 _ _, Or.inr ⟨rfl, hn, rfl⟩⟩
theorem fw_mZ_252 {s : State} {args : Array Value} {mn : String} (hts : ∀ w ∈ x_Tb, w.before args s = true) (hn : mn = "<init>") : x_pok vwCl x_G x_Tb s args "TwinFiresModel" mn (41, 18, 19) := ⟨12, _, RX12, TX12, "TwinFiresModel", tyX12, _, rfl, rfl, Nat.le_of_ble_eq_true rfl, iX12, (hts _ (x_bw63 6 rfl rfl)), fun x h => h, tyX12_ok, nmX12, rfl, x_fitA1 _ _, Or.inr ⟨rfl, hn, rfl⟩⟩
theorem fw_mZ_253 {s : State} {args : Array Value} {mn : String} (hts : ∀ w ∈ x_Tb, w.before args s = true) (hn : mn = "<init>") : x_pok vwCl x_G x_Tb s args "TwinFiresModel" mn (44, 18, 20) := ⟨12, _, RX12, TX12, "TwinFiresModel", tyX12, _, rfl, rfl, Nat.le_of_ble_eq_true rfl, iX12, (hts _ (x_bw63 7 rfl rfl)), fun x h => h, tyX12_ok, nmX12, rfl, x_fitA1 _ _, Or.inr ⟨rfl, hn, rfl⟩⟩
theorem fw_mZ_254 {s : State} {args : Array Value} {mn : String} (hts : ∀ w ∈ x_Tb, w.before args s = true) (hn : mn = "<init>") : x_pok vwCl x_G x_Tb s args "TwinFiresModel" mn (47, 18, 21) := ⟨12, _, RX12, TX12, "TwinFiresModel", tyX12, _, rfl, rfl, Nat.le_of_ble_eq_true rfl, iX12, (hts _ (x_bw63 8 rfl rfl)), fun x h => h, tyX12_ok, nmX12, rfl, x_fitA1 _ _, Or.inr ⟨rfl, hn, rfl⟩⟩
theorem fw_mZ_255 {s : State} {args : Array Value} {mn : String} (hts : ∀ w ∈ x_Tb, w.before args s = true) (hn : mn = "<init>") : x_pok vwCl x_G x_Tb s args "TwinFiresModel" mn (50, 18, 22) := ⟨12, _, RX12, TX12, "TwinFiresModel", tyX12, _, rfl, rfl, Nat.le_of_ble_eq_true rfl, iX12, (hts _ (x_bw63 9 rfl rfl)), fun x h => h, tyX12_ok, nmX12, rfl, x_fitA1 _ _, Or.inr ⟨rfl, hn, rfl⟩⟩
theorem fw_mZ_256 {s : State} {args : Array Value} {mn : String} (hts : ∀ w ∈ x_Tb, w.before args s = true) (hn : mn = "<init>") : x_pok vwCl x_G x_Tb s args "TwinFiresModel" mn (53, 18, 23) := ⟨12, _, RX12, TX12, "TwinFiresModel", tyX12, _, rfl, rfl, Nat.le_of_ble_eq_true rfl, iX12, (hts _ (x_bw63 10 rfl rfl)), fun x h => h, tyX12_ok, nmX12, rfl, x_fitA1 _ _, Or.inr ⟨rfl, hn, rfl⟩⟩
theorem fw_mZ_257 {s : State} {args : Array Value} {mn : String} (hts : ∀ w ∈ x_Tb, w.before args s = true) (hn : mn = "<init>") : x_pok vwCl x_G x_Tb s args "TwinFiresModel" mn (56, 18, 24) := ⟨12, _, RX12, TX12, "TwinFiresModel", tyX12, _, rfl, rfl, Nat.le_of_ble_eq_true rfl, iX12, (hts _ (x_bw63 11 rfl rfl)), fun x h => h, tyX12_ok, nmX12, rfl, x_fitA1 _ _, Or.inr ⟨rfl, hn, rfl⟩⟩
theorem fw_mZ_258 {s : State} {args : Array Value} {mn : String} (hts : ∀ w ∈ x_Tb, w.before args s = true) (hn : mn = "<init>") : x_pok vwCl x_G x_Tb s args "TwinFiresModel" mn (59, 18, 25) := ⟨12, _, RX12, TX12, "TwinFiresModel", tyX12, _, rfl, rfl, Nat.le_of_ble_eq_true rfl, iX12, (hts _ (x_bw63 12 rfl rfl)), fun x h => h, tyX12_ok, nmX12, rfl, x_fitA1 _ _, Or.inr ⟨rfl, hn, rfl⟩⟩
theorem fw_mZ_259 {s : State} {args : Array Value} {mn : String} (hts : ∀ w ∈ x_Tb, w.before args s = true) (hn : mn = "<init>") : x_pok vwCl x_G x_Tb s args "TwinFiresModel" mn (62, 18, 26) := ⟨12, _, RX12, TX12, "TwinFiresModel", tyX12, _, rfl, rfl, Nat.le_of_ble_eq_true rfl, iX12, (hts _ (x_bw63 13 rfl rfl)), fun x h => h, tyX12_ok, nmX12, rfl, x_fitA1 _ _, Or.inr ⟨rfl, hn, rfl⟩⟩
def z_PimX : yP := fun D av _ H v _ H' => ∀ (this bk im mk : Nat) (i : Int32) (f fi fk : Nat → Int32), av = [.ref this, .int i] → x_sl D 12 0 this H = some (.ref bk) → x_sl D 12 1 this H = some (.ref im) → x_sl D 12 2 this H = some (.ref mk) → z_c f → y_A bk 160 H f → y_A im 320 H fi → y_A mk 2 H fk → v = some (.int (m_imgR i)) ∧ y_A bk 160 H' f ∧ (¬ (0 ≤ i.toInt ∧ i.toInt ≤ 1) → y_A im 320 H' fi ∧ y_A mk 2 H' fk) ∧ (0 ≤ i.toInt ∧ i.toInt ≤ 1 → (∀ j, j < 2 → y_at mk j H' = some (.int (if j = i.toInt.toNat then 1 else fk j))) ∧ (∀ j, j < 160 → y_at im (160 * i.toInt.toNat + j) H' = some (.int (f j))) ∧ ∀ j, j < 320 → (j < 160 * i.toInt.toNat ∨ 160 * i.toInt.toNat + 160 ≤ j) → y_at im j H' = some (.int (fi j)))
theorem jZ_d0 : decode xMi2.2.1 0 = .ok (.iload_n 1, 1) := dz_ok (by decide +kernel)
theorem jZ_d1 : decode xMi2.2.1 1 = .ok (.i2l, 1) := dz_ok (by decide +kernel)
theorem jZ_d2 : decode xMi2.2.1 2 = .ok (.lconst 0, 1) := dz_ok (by decide +kernel)
theorem jZ_d3 : decode xMi2.2.1 3 = .ok (.lconst 1, 1) := dz_ok (by decide +kernel)
theorem jZ_d4 : decode xMi2.2.1 4 = .ok (.invokestatic 87, 3) := dz_ok (by decide +kernel)
theorem jZ_d7 : decode xMi2.2.1 7 = .ok (.ifCond .ne 8, 3) := dz_ok (by decide +kernel)
theorem jZ_d10 : decode xMi2.2.1 10 = .ok (.aload_n 0, 1) := dz_ok (by decide +kernel)
theorem jZ_d11 : decode xMi2.2.1 11 = .ok (.invokevirtual 102, 3) := dz_ok (by decide +kernel)
theorem jZ_d14 : decode xMi2.2.1 14 = .ok (.ireturn, 1) := dz_ok (by decide +kernel)
theorem jZ_d15 : decode xMi2.2.1 15 = .ok (.iconst 0, 1) := dz_ok (by decide +kernel)
theorem jZ_d16 : decode xMi2.2.1 16 = .ok (.istore_n 2, 1) := dz_ok (by decide +kernel)
theorem jZ_d17 : decode xMi2.2.1 17 = .ok (.iload_n 2, 1) := dz_ok (by decide +kernel)
theorem jZ_d18 : decode xMi2.2.1 18 = .ok (.sipush 160, 3) := dz_ok (by decide +kernel)
theorem jZ_d21 : decode xMi2.2.1 21 = .ok (.if_icmp .ge 27, 3) := dz_ok (by decide +kernel)
theorem jZ_d24 : decode xMi2.2.1 24 = .ok (.aload_n 0, 1) := dz_ok (by decide +kernel)
theorem jZ_d25 : decode xMi2.2.1 25 = .ok (.getfield 13, 3) := dz_ok (by decide +kernel)
theorem jZ_d28 : decode xMi2.2.1 28 = .ok (.sipush 160, 3) := dz_ok (by decide +kernel)
theorem jZ_d31 : decode xMi2.2.1 31 = .ok (.iload_n 1, 1) := dz_ok (by decide +kernel)
theorem jZ_d32 : decode xMi2.2.1 32 = .ok (.imul, 1) := dz_ok (by decide +kernel)
theorem jZ_d33 : decode xMi2.2.1 33 = .ok (.iload_n 2, 1) := dz_ok (by decide +kernel)
theorem jZ_d34 : decode xMi2.2.1 34 = .ok (.iadd, 1) := dz_ok (by decide +kernel)
theorem jZ_d35 : decode xMi2.2.1 35 = .ok (.aload_n 0, 1) := dz_ok (by decide +kernel)
theorem jZ_d36 : decode xMi2.2.1 36 = .ok (.getfield 7, 3) := dz_ok (by decide +kernel)
theorem jZ_d39 : decode xMi2.2.1 39 = .ok (.iload_n 2, 1) := dz_ok (by decide +kernel)
theorem jZ_d40 : decode xMi2.2.1 40 = .ok (.iaload, 1) := dz_ok (by decide +kernel)
theorem jZ_d41 : decode xMi2.2.1 41 = .ok (.iastore, 1) := dz_ok (by decide +kernel)
theorem jZ_d42 : decode xMi2.2.1 42 = .ok (.iinc 2 1, 3) := dz_ok (by decide +kernel)
theorem jZ_d45 : decode xMi2.2.1 45 = .ok (.goto (-28), 3) := dz_ok (by decide +kernel)
theorem jZ_d48 : decode xMi2.2.1 48 = .ok (.aload_n 0, 1) := dz_ok (by decide +kernel)
theorem jZ_d49 : decode xMi2.2.1 49 = .ok (.getfield 16, 3) := dz_ok (by decide +kernel)
theorem jZ_d52 : decode xMi2.2.1 52 = .ok (.iload_n 1, 1) := dz_ok (by decide +kernel)
theorem jZ_d53 : decode xMi2.2.1 53 = .ok (.iconst 1, 1) := dz_ok (by decide +kernel)
theorem jZ_d54 : decode xMi2.2.1 54 = .ok (.bastore, 1) := dz_ok (by decide +kernel)
theorem jZ_d55 : decode xMi2.2.1 55 = .ok (.iconst 1, 1) := dz_ok (by decide +kernel)
theorem jZ_d56 : decode xMi2.2.1 56 = .ok (.ireturn, 1) := dz_ok (by decide +kernel)
theorem jZ_L17 {p : Program} {l : Launch} {e : Env} {s : State} {m : MethodId} {below : List Frame} {meth : Method} {c : Code} {D : va_G} {U : State} {Y0 : xY} {av : List Value} (B : y_B vwCl x_Tb x_Nb xMi2 p s m meth c D U Y0 av) {this bk im mk : Nat} {i : Int32} {fb fi0 fk : Nat → Int32} (hav : av = [.ref this, .int i]) (hs0 : x_sl D 12 0 this s.heap = some (.ref bk)) (hs1 : x_sl D 12 1 this s.heap = some (.ref im)) (hs2 : x_sl D 12 2 this s.heap = some (.ref mk)) (hcn : z_c fb) (hA0 : y_A bk 160 s.heap fb) (hA1 : y_A im 320 s.heap fi0) (hA2 : y_A mk 2 s.heap fk) (hi : 0 ≤ i.toInt ∧ i.toInt ≤ 1) (hh : z_hd fb) (hB_mk : ∀ j, j < 2 → (0 : Int) ≤ (fk j).toInt ∧ (fk j).toInt ≤ 1)  :
    ∀ (n : Nat), ∀ (H : Heap) (Y : xY) (locs : List Loc) (ls : Array Slot) (k : Int32) (fi : Nat → Int32), x_I D x_G x_Zs U (x_efs xMi2) Y0 s.heap Y H locs → Y this = some 17 → Y bk = some 46 → Y im = some 47 → Y mk = some 48 → x_sl D 12 0 this H = some (.ref bk) → x_sl D 12 1 this H = some (.ref im) → x_sl D 12 2 this H = some (.ref mk) → y_A bk 160 H fb → y_A im 320 H fi → y_A mk 2 H fk → lv_has ls xMi2.2.2.1 [(2, .int k), (0, .ref this), (1, .int i)] → (0 ≤ k.toInt ∧ k.toInt ≤ 160) → (∀ j : Nat, (j : Int) < k.toInt → fi (160 * i.toInt.toNat + j) = fb j) → (∀ j : Nat, (j < 160 * i.toInt.toNat ∨ 160 * i.toInt.toNat + 160 ≤ j) → fi j = fi0 j) → (160 - k.toInt).toNat < n → W p l e (x_rm xMi2) s m av.toArray below meth c H locs 0 0 (y_QQ below D x_G x_Zs U xMi2 z_PimX av Y0 s) (F0 m 17 ls []) := by
  have X := B.1
  have hx := X.1
  have hb := X.2.1
  have hY0 := B.2.2.2.2.1
  intro n
  induction n with
  | zero => intro _ _ _ _ _ _ _ _ _ _ _ _ _ _ _ _ _ _ _ _ _ h; exact absurd h (Nat.not_lt_zero _)
  | succ n ih =>
    intro H Y locs ls k fi hI hY_this hY_bk hY_im hY_mk hs_bk hs_im hs_mk hA_bk hA_im hA_mk hl hk hfi hfo hn
    refine lv_iload_n hx hb jZ_d17 rfl (lv_at hl 0 rfl) ?_
    refine lv_sipush hx hb jZ_d18 (v := 160) (by decide) ?_
    have ec160 : (160 : Int32).toInt = 160 := by decide
    refine lv_icmp_ge hx hb jZ_d21 (tgt := 48) (by decide) (fun q21 => ?_) (fun q21 => ?_)
    · have q21_ : (160 : Int32).toInt ≤ k.toInt := x_le32.mp q21
      refine lv_aload_n hx hb jZ_d48 rfl (lv_at hl 1 rfl) ?_
      refine y_getf X (fl_im_238y X.2.2.2.2.1) hI.1 hY_this rfl hs_mk jZ_d49 ?_
      refine lv_iload_n hx hb jZ_d52 rfl (lv_at hl 2 rfl) ?_
      refine lv_iconst hx hb jZ_d53 (v := 1) (by decide) ?_
      have ec1 : (1 : Int32).toInt = 1 := by decide
      refine y_zast X hY0 hI hY_mk rfl hA_mk (by omega) (by show _ < (2 : Int); omega) (y_01 (by omega) (by omega)) ⟨_, rfl, by show (0 : Int) ≤ _; omega, by show _ ≤ (1 : Int); omega⟩ (by decide +kernel) jZ_d54 fun H locs hI h_new ho => ?_
      replace hA_mk := h_new
      replace hB_mk := y_upb (i := i.toInt.toNat) (v := (1 : Int32)) hB_mk (by constructor <;> omega)
      generalize hf_f54 : y_up fk i.toInt.toNat (1 : Int32) = f54 at hA_mk hB_mk
      replace hs_bk := y_slk hs_bk (ho _ (y_ne hY_this hY_mk rfl))
      replace hs_im := y_slk hs_im (ho _ (y_ne hY_this hY_mk rfl))
      replace hs_mk := y_slk hs_mk (ho _ (y_ne hY_this hY_mk rfl))
      replace hA_bk := hA_bk.kept (ho _ (y_ne hY_bk hY_mk rfl))
      replace hA_im := hA_im.kept (ho _ (y_ne hY_im hY_mk rfl))
      refine lv_iconst hx hb jZ_d55 (v := 1) (by decide) ?_
      subst hav
      exact y_ireturn B hI rfl rfl rfl List.mem_cons_self ⟨_, rfl, ⟨_, rfl, x_i32 _⟩⟩ (x_cs.mono B.2.2.2.2.2 (y_mon B hI)) (fun t' b' m' k' i' f' fi' fk' h1 h2 h3 h4 h5 h6 h7 h8 => by cases h1; cases h2.symm.trans hs0; cases h3.symm.trans hs1; cases h4.symm.trans hs2; cases z_uniq h6 hA0 h5 hcn; exact ⟨by unfold m_imgR; rw [if_pos hi], hA_bk, fun q9 => absurd hi q9, fun _ => ⟨fun j hj => by rw [hA_mk j hj, ← hf_f54]; by_cases ej : j = i.toInt.toNat; (rw [ej, y_up_at, if_pos rfl]); rw [y_up_ne ej, if_neg ej, z_AR hA2 h8 hj], fun j hj => by rw [hA_im _ (by omega), hfi j (by omega)], fun j h9 hj => by rw [hA_im j h9, hfo j hj, z_AR hA1 h7 h9]⟩⟩) (Nat.le_refl _) (Nat.le_refl _) jZ_d56
    · have q21_ : k.toInt < (160 : Int32).toInt := Int.not_le.mp fun q => q21 (x_le32.mpr q)
      refine lv_aload_n hx hb jZ_d24 rfl (lv_at hl 1 rfl) ?_
      refine y_getf X (fl_im_239y X.2.2.2.2.1) hI.1 hY_this rfl hs_im jZ_d25 ?_
      refine lv_sipush hx hb jZ_d28 (v := 160) (by decide) ?_
      refine lv_iload_n hx hb jZ_d31 rfl (lv_at hl 2 rfl) ?_
      refine lv_imul hx hb jZ_d32 ?_
      generalize hg_z32 : (160 : Int32) * i = z32
      have h_z32 : z32.toInt = 160 * i.toInt := by rw [← hg_z32]; have := y_mul (x := (160 : Int32)) (y := i) (by rw [ec160]; omega) (by rw [ec160]; omega); rw [ec160] at this; exact this
      refine lv_iload_n hx hb jZ_d33 rfl (lv_at hl 0 rfl) ?_
      refine lv_iadd hx hb jZ_d34 ?_
      generalize hg_z34 : z32 + k = z34
      have h_z34 : z34.toInt = z32.toInt + k.toInt := by rw [← hg_z34]; have := y_add (x := z32) (y := k) (by omega) (by omega); exact this
      refine lv_aload_n hx hb jZ_d35 rfl (lv_at hl 1 rfl) ?_
      refine y_getf X (fl190 X.2.2.2.2.1) hI.1 hY_this rfl hs_bk jZ_d36 ?_
      refine lv_iload_n hx hb jZ_d39 rfl (lv_at hl 0 rfl) ?_
      refine y_iald X hI.1 hY_bk rfl hA_bk (by omega) (by show _ < (160 : Int); omega) jZ_d40 ?_
      obtain ⟨e40, hg_e40⟩ : ∃ e40 : Int32, fb k.toInt.toNat = e40 := ⟨_, rfl⟩
      rw [hg_e40]
      refine y_iast X hY0 hI hY_im rfl hA_im (by omega) (by show _ < (320 : Int); omega) (by rw [z_preI_i hi.1 hi.2 (k := k) (by omega) (by omega) (by omega)]; have := z_hdc (Y := Y) hh k.toInt.toNat; rw [hg_e40] at this; exact this) (by decide +kernel) jZ_d41 fun H locs hI h_new ho => ?_
      replace hA_im := h_new
      generalize hf_f41 : y_up fi z34.toInt.toNat e40 = f41 at hA_im
      replace hs_bk := y_slk hs_bk (ho _ (y_ne hY_this hY_im rfl))
      replace hs_im := y_slk hs_im (ho _ (y_ne hY_this hY_im rfl))
      replace hs_mk := y_slk hs_mk (ho _ (y_ne hY_this hY_im rfl))
      replace hA_bk := hA_bk.kept (ho _ (y_ne hY_bk hY_im rfl))
      replace hA_mk := hA_mk.kept (ho _ (y_ne hY_mk hY_im rfl))
      obtain ⟨z42, hg_z42⟩ : ∃ z42 : Int32, k + Int32.ofInt 1 = z42 := ⟨_, rfl⟩
      have h_z42 : z42.toInt = k.toInt + 1 := by rw [← hg_z42]; exact y_inc (by decide) (by omega) (by omega)
      refine lv_iinc hx hb jZ_d42 hl (k := 0) rfl hg_z42 (by decide) (lv' := [(2, .int z42), (0, .ref this), (1, .int i)]) rfl fun ls hl => ?_
      refine lv_goto hx hb jZ_d45 (tgt := 17) (by decide) ?_
      exact ih _ _ _ _ _ _ hI hY_this hY_bk hY_im hY_mk hs_bk hs_im hs_mk hA_bk hA_im hA_mk (lv_sub hl [0, 1, 2] rfl) (by first | assumption | omega) (fun j hj => by rw [← hf_f41]; by_cases ej : (j : Int) = k.toInt; (rw [show 160 * i.toInt.toNat + j = z34.toInt.toNat by omega, y_up_at, ← hg_e40]; congr 1; omega); rw [y_up_ne (by omega)]; exact hfi j (by omega)) (fun j hj => by rw [← hf_f41, y_up_ne (by omega)]; exact hfo j hj) (by omega)
theorem ym_imageX : y_Met vwCl x_G x_Zs x_Tb x_Nb xMi2 y_T z_PimX := by
  refine y_main (by decide +kernel) (by decide +kernel) x_Tb_good x_Nb_ok ?_
  intro p l e s m below meth c D U Y0 av ls B hI _ hl
  have X := B.1
  have hx := X.1
  have hb := X.2.1
  have hY0 := B.2.2.2.2.1
  obtain ⟨v0, v1, rfl, hv0, ⟨i, rfl, -⟩⟩ := x_two B.2.2.2.2.2
  obtain ⟨this, t0, rfl, ht0, hY_this⟩ := x_ref_at hv0 rfl
  obtain rfl := List.mem_singleton.mp ht0
  replace hl : lv_has ls xMi2.2.2.1 [(0, .ref this), (1, .int i)] := hl
  obtain ⟨bk, hs_bk, hY_bk⟩ := y_fldR (k := 0) hI.1 hY_this rfl rfl
  obtain ⟨fb9, hA9, hB9⟩ := y_arr hI.1 hY_bk rfl rfl
  obtain ⟨fb, hcn, hA_bk, hB_bk⟩ := z_canon (Y := Y0) (P := fun j v => x_c Y0 ([xI 0 10, xI 0 8, xI 0 8].getD j xF) (.int v)) hA9 hB9
  clear hA9 hB9 fb9
  have hs0 := hs_bk
  have hA0 := hA_bk
  have hd := z_hdr hB_bk
  have hd0 := hd.1
  have hd1 := hd.2.1
  have hh := z_hdr hB_bk
  obtain ⟨im, hs_im, hY_im⟩ := y_fldR (k := 1) hI.1 hY_this rfl rfl
  obtain ⟨mk, hs_mk, hY_mk⟩ := y_fldR (k := 2) hI.1 hY_this rfl rfl
  obtain ⟨fi0, hA_im, hB_im⟩ := y_arr hI.1 hY_im rfl rfl
  obtain ⟨fk, hA_mk, hB_mk⟩ := y_arr hI.1 hY_mk rfl rfl
  replace hB_mk : ∀ j, j < 2 → (0 : Int) ≤ (fk j).toInt ∧ (fk j).toInt ≤ 1 := fun j hj => by obtain ⟨x, e0, e1⟩ := hB_mk j hj; cases e0; exact e1
  have hs1 := hs_im
  have hs2 := hs_mk
  have hA1 := hA_im
  have hA2 := hA_mk
  refine lv_iload_n hx hb jZ_d0 rfl (lv_at hl 1 rfl) ?_
  obtain ⟨z1, hg_z1⟩ : ∃ z1 : Int64, i.toInt64 = z1 := ⟨_, rfl⟩
  have h_z1 : z1.toInt = (i).toInt := by rw [← hg_z1]; exact Int32.toInt_toInt64 _
  refine lv_i2l hx hb jZ_d1 (v := z1) hg_z1 ?_
  refine lv_lconst hx hb jZ_d2 (v := 0) (by decide) ?_
  have el0 : (0 : Int64).toInt = 0 := by decide
  refine lv_lconst hx hb jZ_d3 (v := 1) (by decide) ?_
  have el1 : (1 : Int64).toInt = 1 := by decide
  refine y_call (z := (1, 87, 3, none, xM148)) (av := [.long z1, .long (0 : Int64), .long (1 : Int64)]) (rest := []) (y_cokS (n := 3) X ym_in (x_cons (x_bw67 11 rfl rfl) (x_cons (x_bw67 12 rfl rfl) (x_cons (x_bw0 9 rfl rfl) x_nilm))) (x_bw67 13 rfl rfl) (by decide +kernel) ⟨Nat.le_of_ble_eq_true rfl, Nat.le_of_ble_eq_true rfl⟩) hY0 hI rfl jZ_d4 hl.1 (Nat.le_of_ble_eq_true rfl) (Nat.le_of_ble_eq_true rfl) (Nat.le_of_ble_eq_true rfl) (y_cons ⟨_, rfl, x_i64 _⟩ (y_cons ⟨_, rfl, x_i64 _⟩ (y_cons ⟨_, rfl, x_i64 _⟩ y_nil))) rfl (y_norecv rfl) trivial (y_sub_ef rfl) fun v Yn o Hn L ho hr ha hIn hx_ hE hP => ?_
  replace hs_bk := y_Efld hE hY_this rfl (by decide) (by decide) hs_bk
  replace hs_im := y_Efld hE hY_this rfl (by decide) (by decide) hs_im
  replace hs_mk := y_Efld hE hY_this rfl (by decide) (by decide) hs_mk
  replace hA_bk := hA_bk.kept (y_Earr hE hY_bk rfl (by decide))
  replace hA_im := hA_im.kept (y_Earr hE hY_im rfl (by decide))
  replace hA_mk := hA_mk.kept (y_Earr hE hY_mk rfl (by decide))
  replace hY_this := y_ext hx_ hI.1 hY_this
  replace hY_bk := y_ext hx_ hI.1 hY_bk
  replace hY_im := y_ext hx_ hI.1 hY_im
  replace hY_mk := y_ext hx_ hI.1 hY_mk
  obtain ⟨r4, rfl, hin_r4, hout_r4⟩ := z_inR2 (hP _ _ _ rfl)
  clear ho hr ha hE hP hI hx_
  rename x_I _ _ _ _ _ _ _ _ _ _ => hI
  have ec0 : (0 : Int32).toInt = 0 := by decide
  refine lv_if_ne hx hb jZ_d7 (tgt := 15) (by decide) (fun q7 => ?_) (fun q7 => ?_)
  · have q7_ : ¬ r4.toInt = (0 : Int32).toInt := fun q => q7 (Int32.toInt_inj.mp q)
    have hi1 := hin_r4 (by assumption)
    have hi : 0 ≤ i.toInt ∧ i.toInt ≤ 1 := by omega
    refine lv_iconst hx hb jZ_d15 (v := 0) (by decide) ?_
    refine lv_istore_n hx hb jZ_d16 rfl hl (by decide) (lv' := [(2, .int (0 : Int32)), (0, .ref this), (1, .int i)]) rfl fun ls hl => ?_
    exact jZ_L17 B rfl hs0 hs1 hs2 hcn hA0 hA1 hA2 hi hh hB_mk 161 _ _ _ _ _ _ hI hY_this hY_bk hY_im hY_mk hs_bk hs_im hs_mk hA_bk hA_im hA_mk (lv_sub hl [0, 1, 2] rfl) (by first | assumption | omega) (fun j hj => absurd hj (by omega)) (fun j _ => rfl) (by omega)
  · have q7_ : r4.toInt = (0 : Int32).toInt := by rw [q7]
    have hi1 := hout_r4 (by assumption)
    refine lv_aload_n hx hb jZ_d10 rfl (lv_at hl 0 rfl) ?_
    refine y_call (z := (0, 102, 1, some 17, xM143)) (av := [.ref this]) (rest := []) (y_cokV (n := 0) (ci := 12) X ym_bad rfl rfl rfl (x_cons (x_bw68 3 rfl rfl) (x_cons (x_bw68 5 rfl rfl) (x_cons (x_at 32 (by decide +kernel) rfl) (x_cons (x_bw0 9 rfl rfl) x_nilm)))) (x_bw68 6 rfl rfl) (by decide +kernel) ⟨Nat.le_of_ble_eq_true rfl, Nat.le_of_ble_eq_true rfl⟩) hY0 hI rfl jZ_d11 hl.1 (Nat.le_of_ble_eq_true rfl) (Nat.le_of_ble_eq_true rfl) (Nat.le_of_ble_eq_true rfl) (y_cons (y_cref hY_this rfl) y_nil) rfl (y_recv rfl hY_this) trivial (y_sub_ef rfl) fun v Yn o Hn L ho hr ha hIn hx_ hE hP => ?_
    replace hs_bk := y_Efld hE hY_this rfl (by decide) (by decide) hs_bk
    replace hs_im := y_Efld hE hY_this rfl (by decide) (by decide) hs_im
    replace hs_mk := y_Efld hE hY_this rfl (by decide) (by decide) hs_mk
    replace hA_bk := hA_bk.kept (y_Earr hE hY_bk rfl (by decide))
    replace hA_im := hA_im.kept (y_Earr hE hY_im rfl (by decide))
    replace hA_mk := hA_mk.kept (y_Earr hE hY_mk rfl (by decide))
    replace hY_this := y_ext hx_ hI.1 hY_this
    replace hY_bk := y_ext hx_ hI.1 hY_bk
    replace hY_im := y_ext hx_ hI.1 hY_im
    replace hY_mk := y_ext hx_ hI.1 hY_mk
    have hPb := hP
    obtain rfl := hPb
    clear ho hr ha hE hP hI hx_
    rename x_I _ _ _ _ _ _ _ _ _ _ => hI
    exact y_ireturn B hI rfl rfl rfl List.mem_cons_self ⟨_, rfl, ⟨_, rfl, x_i32 _⟩⟩ (x_cs.mono B.2.2.2.2.2 (y_mon B hI)) (fun t' b' m' k' i' f' fi' fk' h1 h2 h3 h4 h5 h6 h7 h8 => by cases h1; cases h2.symm.trans hs0; cases h3.symm.trans hs1; cases h4.symm.trans hs2; cases z_uniq h6 hA0 h5 hcn; exact ⟨by unfold m_imgR; rw [if_neg (by omega)], hA_bk, fun _ => ⟨fun j hj => by rw [hA_im j hj, z_AR hA1 h7 hj], fun j hj => by rw [hA_mk j hj, z_AR hA2 h8 hj]⟩, fun q9 => absurd q9 (by omega)⟩) (Nat.le_refl _) (Nat.le_refl _) jZ_d14
def z_PfrX : yP := fun D av _ H v _ H' => ∀ (this bk im mk : Nat) (i : Int32) (f fi fk : Nat → Int32), av = [.ref this, .int i] → x_sl D 12 0 this H = some (.ref bk) → x_sl D 12 1 this H = some (.ref im) → x_sl D 12 2 this H = some (.ref mk) → z_c f → y_A bk 160 H f → y_A im 320 H fi → y_A mk 2 H fk → (¬ (0 ≤ i.toInt ∧ i.toInt ≤ 1) → v = some (.int (-2)) ∧ y_A bk 160 H' f) ∧ (0 ≤ i.toInt ∧ i.toInt ≤ 1 → fk i.toInt.toNat = 0 → v = some (.int (-3)) ∧ y_A bk 160 H' f) ∧ (0 ≤ i.toInt ∧ i.toInt ≤ 1 → ¬ fk i.toInt.toNat = 0 → v = some (.int 1) ∧ y_A bk 160 H' (fun j => fi (160 * i.toInt.toNat + j)))
theorem kZ_d0 : decode xMfr.2.1 0 = .ok (.iload_n 1, 1) := dz_ok (by decide +kernel)
theorem kZ_d1 : decode xMfr.2.1 1 = .ok (.i2l, 1) := dz_ok (by decide +kernel)
theorem kZ_d2 : decode xMfr.2.1 2 = .ok (.lconst 0, 1) := dz_ok (by decide +kernel)
theorem kZ_d3 : decode xMfr.2.1 3 = .ok (.lconst 1, 1) := dz_ok (by decide +kernel)
theorem kZ_d4 : decode xMfr.2.1 4 = .ok (.invokestatic 87, 3) := dz_ok (by decide +kernel)
theorem kZ_d7 : decode xMfr.2.1 7 = .ok (.ifCond .ne 8, 3) := dz_ok (by decide +kernel)
theorem kZ_d10 : decode xMfr.2.1 10 = .ok (.aload_n 0, 1) := dz_ok (by decide +kernel)
theorem kZ_d11 : decode xMfr.2.1 11 = .ok (.invokevirtual 102, 3) := dz_ok (by decide +kernel)
theorem kZ_d14 : decode xMfr.2.1 14 = .ok (.ireturn, 1) := dz_ok (by decide +kernel)
theorem kZ_d15 : decode xMfr.2.1 15 = .ok (.aload_n 0, 1) := dz_ok (by decide +kernel)
theorem kZ_d16 : decode xMfr.2.1 16 = .ok (.getfield 16, 3) := dz_ok (by decide +kernel)
theorem kZ_d19 : decode xMfr.2.1 19 = .ok (.iload_n 1, 1) := dz_ok (by decide +kernel)
theorem kZ_d20 : decode xMfr.2.1 20 = .ok (.baload, 1) := dz_ok (by decide +kernel)
theorem kZ_d21 : decode xMfr.2.1 21 = .ok (.ifCond .ne 8, 3) := dz_ok (by decide +kernel)
theorem kZ_d24 : decode xMfr.2.1 24 = .ok (.aload_n 0, 1) := dz_ok (by decide +kernel)
theorem kZ_d25 : decode xMfr.2.1 25 = .ok (.invokevirtual 126, 3) := dz_ok (by decide +kernel)
theorem kZ_d28 : decode xMfr.2.1 28 = .ok (.ireturn, 1) := dz_ok (by decide +kernel)
theorem kZ_d29 : decode xMfr.2.1 29 = .ok (.iconst 0, 1) := dz_ok (by decide +kernel)
theorem kZ_d30 : decode xMfr.2.1 30 = .ok (.istore_n 2, 1) := dz_ok (by decide +kernel)
theorem kZ_d31 : decode xMfr.2.1 31 = .ok (.iload_n 2, 1) := dz_ok (by decide +kernel)
theorem kZ_d32 : decode xMfr.2.1 32 = .ok (.sipush 160, 3) := dz_ok (by decide +kernel)
theorem kZ_d35 : decode xMfr.2.1 35 = .ok (.if_icmp .ge 27, 3) := dz_ok (by decide +kernel)
theorem kZ_d38 : decode xMfr.2.1 38 = .ok (.aload_n 0, 1) := dz_ok (by decide +kernel)
theorem kZ_d39 : decode xMfr.2.1 39 = .ok (.getfield 7, 3) := dz_ok (by decide +kernel)
theorem kZ_d42 : decode xMfr.2.1 42 = .ok (.iload_n 2, 1) := dz_ok (by decide +kernel)
theorem kZ_d43 : decode xMfr.2.1 43 = .ok (.aload_n 0, 1) := dz_ok (by decide +kernel)
theorem kZ_d44 : decode xMfr.2.1 44 = .ok (.getfield 13, 3) := dz_ok (by decide +kernel)
theorem kZ_d47 : decode xMfr.2.1 47 = .ok (.sipush 160, 3) := dz_ok (by decide +kernel)
theorem kZ_d50 : decode xMfr.2.1 50 = .ok (.iload_n 1, 1) := dz_ok (by decide +kernel)
theorem kZ_d51 : decode xMfr.2.1 51 = .ok (.imul, 1) := dz_ok (by decide +kernel)
theorem kZ_d52 : decode xMfr.2.1 52 = .ok (.iload_n 2, 1) := dz_ok (by decide +kernel)
theorem kZ_d53 : decode xMfr.2.1 53 = .ok (.iadd, 1) := dz_ok (by decide +kernel)
theorem kZ_d54 : decode xMfr.2.1 54 = .ok (.iaload, 1) := dz_ok (by decide +kernel)
theorem kZ_d55 : decode xMfr.2.1 55 = .ok (.iastore, 1) := dz_ok (by decide +kernel)
theorem kZ_d56 : decode xMfr.2.1 56 = .ok (.iinc 2 1, 3) := dz_ok (by decide +kernel)
theorem kZ_d59 : decode xMfr.2.1 59 = .ok (.goto (-28), 3) := dz_ok (by decide +kernel)
theorem kZ_d62 : decode xMfr.2.1 62 = .ok (.iconst 1, 1) := dz_ok (by decide +kernel)
theorem kZ_d63 : decode xMfr.2.1 63 = .ok (.ireturn, 1) := dz_ok (by decide +kernel)
theorem kZ_L31 {p : Program} {l : Launch} {e : Env} {s : State} {m : MethodId} {below : List Frame} {meth : Method} {c : Code} {D : va_G} {U : State} {Y0 : xY} {av : List Value} (B : y_B vwCl x_Tb x_Nb xMfr p s m meth c D U Y0 av) {this bk im mk : Nat} {i : Int32} {fb fi0 fk : Nat → Int32} (hav : av = [.ref this, .int i]) (hs0 : x_sl D 12 0 this s.heap = some (.ref bk)) (hs1 : x_sl D 12 1 this s.heap = some (.ref im)) (hs2 : x_sl D 12 2 this s.heap = some (.ref mk)) (hcn : z_c fb) (hA0 : y_A bk 160 s.heap fb) (hA1 : y_A im 320 s.heap fi0) (hA2 : y_A mk 2 s.heap fk) (hi : 0 ≤ i.toInt ∧ i.toInt ≤ 1) (hh : z_hd fun k => fi0 (160 * i.toInt + k).toNat) (hki : ¬ fk i.toInt.toNat = 0)  :
    ∀ (n : Nat), ∀ (H : Heap) (Y : xY) (locs : List Loc) (ls : Array Slot) (k : Int32) (fz : Nat → Int32), x_I D x_G x_Zs U (x_efs xMfr) Y0 s.heap Y H locs → Y this = some 17 → Y bk = some 46 → Y im = some 47 → Y mk = some 48 → x_sl D 12 0 this H = some (.ref bk) → x_sl D 12 1 this H = some (.ref im) → x_sl D 12 2 this H = some (.ref mk) → y_A bk 160 H fz → y_A im 320 H fi0 → y_A mk 2 H fk → lv_has ls xMfr.2.2.1 [(2, .int k), (0, .ref this), (1, .int i)] → (0 ≤ k.toInt ∧ k.toInt ≤ 160) → (∀ j : Nat, (j : Int) < k.toInt → fz j = fi0 (160 * i.toInt.toNat + j)) → (160 - k.toInt).toNat < n → W p l e (x_rm xMfr) s m av.toArray below meth c H locs 0 0 (y_QQ below D x_G x_Zs U xMfr z_PfrX av Y0 s) (F0 m 31 ls []) := by
  have X := B.1
  have hx := X.1
  have hb := X.2.1
  have hY0 := B.2.2.2.2.1
  intro n
  induction n with
  | zero => intro _ _ _ _ _ _ _ _ _ _ _ _ _ _ _ _ _ _ _ _ h; exact absurd h (Nat.not_lt_zero _)
  | succ n ih =>
    intro H Y locs ls k fz hI hY_this hY_bk hY_im hY_mk hs_bk hs_im hs_mk hA_bk hA_im hA_mk hl hk hfz hn
    refine lv_iload_n hx hb kZ_d31 rfl (lv_at hl 0 rfl) ?_
    refine lv_sipush hx hb kZ_d32 (v := 160) (by decide) ?_
    have ec160 : (160 : Int32).toInt = 160 := by decide
    refine lv_icmp_ge hx hb kZ_d35 (tgt := 62) (by decide) (fun q35 => ?_) (fun q35 => ?_)
    · have q35_ : (160 : Int32).toInt ≤ k.toInt := x_le32.mp q35
      refine lv_iconst hx hb kZ_d62 (v := 1) (by decide) ?_
      have ec1 : (1 : Int32).toInt = 1 := by decide
      subst hav
      exact y_ireturn B hI rfl rfl rfl List.mem_cons_self ⟨_, rfl, ⟨_, rfl, x_i32 _⟩⟩ (x_cs.mono B.2.2.2.2.2 (y_mon B hI)) (fun t' b' m' k' i' f' fi' fk' h1 h2 h3 h4 h5 h6 h7 h8 => by cases h1; cases h2.symm.trans hs0; cases h3.symm.trans hs1; cases h4.symm.trans hs2; cases z_uniq h6 hA0 h5 hcn; exact ⟨fun q9 => absurd hi q9, fun _ q9 => absurd ((z_AR hA2 h8 (by omega)).trans q9) hki, fun _ _ => ⟨rfl, fun j hj => by rw [hA_bk j hj, hfz j (by omega), z_AR hA1 h7 (by omega)]⟩⟩) (Nat.le_refl _) (Nat.le_refl _) kZ_d63
    · have q35_ : k.toInt < (160 : Int32).toInt := Int.not_le.mp fun q => q35 (x_le32.mpr q)
      refine lv_aload_n hx hb kZ_d38 rfl (lv_at hl 1 rfl) ?_
      refine y_getf X (fl190 X.2.2.2.2.1) hI.1 hY_this rfl hs_bk kZ_d39 ?_
      refine lv_iload_n hx hb kZ_d42 rfl (lv_at hl 0 rfl) ?_
      refine lv_aload_n hx hb kZ_d43 rfl (lv_at hl 1 rfl) ?_
      refine y_getf X (fl_im_239y X.2.2.2.2.1) hI.1 hY_this rfl hs_im kZ_d44 ?_
      refine lv_sipush hx hb kZ_d47 (v := 160) (by decide) ?_
      refine lv_iload_n hx hb kZ_d50 rfl (lv_at hl 2 rfl) ?_
      refine lv_imul hx hb kZ_d51 ?_
      generalize hg_z51 : (160 : Int32) * i = z51
      have h_z51 : z51.toInt = 160 * i.toInt := by rw [← hg_z51]; have := y_mul (x := (160 : Int32)) (y := i) (by rw [ec160]; omega) (by rw [ec160]; omega); rw [ec160] at this; exact this
      refine lv_iload_n hx hb kZ_d52 rfl (lv_at hl 0 rfl) ?_
      refine lv_iadd hx hb kZ_d53 ?_
      generalize hg_z53 : z51 + k = z53
      have h_z53 : z53.toInt = z51.toInt + k.toInt := by rw [← hg_z53]; have := y_add (x := z51) (y := k) (by omega) (by omega); exact this
      refine y_iald X hI.1 hY_im rfl hA_im (by omega) (by show _ < (320 : Int); omega) kZ_d54 ?_
      obtain ⟨e54, hg_e54⟩ : ∃ e54 : Int32, fi0 z53.toInt.toNat = e54 := ⟨_, rfl⟩
      rw [hg_e54]
      refine y_iast X hY0 hI hY_bk rfl hA_bk (by omega) (by show _ < (160 : Int); omega) (by have := z_hdc (Y := Y) hh k.toInt.toNat; rw [show (160 * i.toInt + (k.toInt.toNat : Int)).toNat = z53.toInt.toNat by omega, hg_e54] at this; exact this) (by decide +kernel) kZ_d55 fun H locs hI h_new ho => ?_
      replace hA_bk := h_new
      generalize hf_f55 : y_up fz k.toInt.toNat e54 = f55 at hA_bk
      replace hs_bk := y_slk hs_bk (ho _ (y_ne hY_this hY_bk rfl))
      replace hs_im := y_slk hs_im (ho _ (y_ne hY_this hY_bk rfl))
      replace hs_mk := y_slk hs_mk (ho _ (y_ne hY_this hY_bk rfl))
      replace hA_im := hA_im.kept (ho _ (y_ne hY_im hY_bk rfl))
      replace hA_mk := hA_mk.kept (ho _ (y_ne hY_mk hY_bk rfl))
      obtain ⟨z56, hg_z56⟩ : ∃ z56 : Int32, k + Int32.ofInt 1 = z56 := ⟨_, rfl⟩
      have h_z56 : z56.toInt = k.toInt + 1 := by rw [← hg_z56]; exact y_inc (by decide) (by omega) (by omega)
      refine lv_iinc hx hb kZ_d56 hl (k := 0) rfl hg_z56 (by decide) (lv' := [(2, .int z56), (0, .ref this), (1, .int i)]) rfl fun ls hl => ?_
      refine lv_goto hx hb kZ_d59 (tgt := 31) (by decide) ?_
      exact ih _ _ _ _ _ _ hI hY_this hY_bk hY_im hY_mk hs_bk hs_im hs_mk hA_bk hA_im hA_mk (lv_sub hl [0, 1, 2] rfl) (by first | assumption | omega) (fun j hj => by rw [← hf_f55]; by_cases ej : (j : Int) = k.toInt; (rw [show j = k.toInt.toNat by omega, y_up_at, ← hg_e54]; congr 1; omega); rw [y_up_ne (by omega)]; exact hfz j (by omega)) (by omega)
theorem ym_fromX : y_Met vwCl x_G x_Zs x_Tb x_Nb xMfr y_T z_PfrX := by
  refine y_main (by decide +kernel) (by decide +kernel) x_Tb_good x_Nb_ok ?_
  intro p l e s m below meth c D U Y0 av ls B hI _ hl
  have X := B.1
  have hx := X.1
  have hb := X.2.1
  have hY0 := B.2.2.2.2.1
  obtain ⟨v0, v1, rfl, hv0, ⟨i, rfl, -⟩⟩ := x_two B.2.2.2.2.2
  obtain ⟨this, t0, rfl, ht0, hY_this⟩ := x_ref_at hv0 rfl
  obtain rfl := List.mem_singleton.mp ht0
  replace hl : lv_has ls xMfr.2.2.1 [(0, .ref this), (1, .int i)] := hl
  obtain ⟨bk, hs_bk, hY_bk⟩ := y_fldR (k := 0) hI.1 hY_this rfl rfl
  obtain ⟨fb9, hA9, hB9⟩ := y_arr hI.1 hY_bk rfl rfl
  obtain ⟨fb, hcn, hA_bk, hB_bk⟩ := z_canon (Y := Y0) (P := fun j v => x_c Y0 ([xI 0 10, xI 0 8, xI 0 8].getD j xF) (.int v)) hA9 hB9
  clear hA9 hB9 fb9
  have hs0 := hs_bk
  have hA0 := hA_bk
  have hd := z_hdr hB_bk
  have hd0 := hd.1
  have hd1 := hd.2.1
  have hh := z_hdr hB_bk
  obtain ⟨im, hs_im, hY_im⟩ := y_fldR (k := 1) hI.1 hY_this rfl rfl
  obtain ⟨mk, hs_mk, hY_mk⟩ := y_fldR (k := 2) hI.1 hY_this rfl rfl
  obtain ⟨fi0, hA_im, hB_im⟩ := y_arr hI.1 hY_im rfl rfl
  obtain ⟨fk, hA_mk, hB_mk⟩ := y_arr hI.1 hY_mk rfl rfl
  replace hB_mk : ∀ j, j < 2 → (0 : Int) ≤ (fk j).toInt ∧ (fk j).toInt ≤ 1 := fun j hj => by obtain ⟨x, e0, e1⟩ := hB_mk j hj; cases e0; exact e1
  have hs1 := hs_im
  have hs2 := hs_mk
  have hA1 := hA_im
  have hA2 := hA_mk
  refine lv_iload_n hx hb kZ_d0 rfl (lv_at hl 1 rfl) ?_
  obtain ⟨z1, hg_z1⟩ : ∃ z1 : Int64, i.toInt64 = z1 := ⟨_, rfl⟩
  have h_z1 : z1.toInt = (i).toInt := by rw [← hg_z1]; exact Int32.toInt_toInt64 _
  refine lv_i2l hx hb kZ_d1 (v := z1) hg_z1 ?_
  refine lv_lconst hx hb kZ_d2 (v := 0) (by decide) ?_
  have el0 : (0 : Int64).toInt = 0 := by decide
  refine lv_lconst hx hb kZ_d3 (v := 1) (by decide) ?_
  have el1 : (1 : Int64).toInt = 1 := by decide
  refine y_call (z := (1, 87, 3, none, xM148)) (av := [.long z1, .long (0 : Int64), .long (1 : Int64)]) (rest := []) (y_cokS (n := 3) X ym_in (x_cons (x_bw67 11 rfl rfl) (x_cons (x_bw67 12 rfl rfl) (x_cons (x_bw0 9 rfl rfl) x_nilm))) (x_bw67 13 rfl rfl) (by decide +kernel) ⟨Nat.le_of_ble_eq_true rfl, Nat.le_of_ble_eq_true rfl⟩) hY0 hI rfl kZ_d4 hl.1 (Nat.le_of_ble_eq_true rfl) (Nat.le_of_ble_eq_true rfl) (Nat.le_of_ble_eq_true rfl) (y_cons ⟨_, rfl, x_i64 _⟩ (y_cons ⟨_, rfl, x_i64 _⟩ (y_cons ⟨_, rfl, x_i64 _⟩ y_nil))) rfl (y_norecv rfl) trivial (y_sub_ef rfl) fun v Yn o Hn L ho hr ha hIn hx_ hE hP => ?_
  replace hs_bk := y_Efld hE hY_this rfl (by decide) (by decide) hs_bk
  replace hs_im := y_Efld hE hY_this rfl (by decide) (by decide) hs_im
  replace hs_mk := y_Efld hE hY_this rfl (by decide) (by decide) hs_mk
  replace hA_bk := hA_bk.kept (y_Earr hE hY_bk rfl (by decide))
  replace hA_im := hA_im.kept (y_Earr hE hY_im rfl (by decide))
  replace hA_mk := hA_mk.kept (y_Earr hE hY_mk rfl (by decide))
  replace hY_this := y_ext hx_ hI.1 hY_this
  replace hY_bk := y_ext hx_ hI.1 hY_bk
  replace hY_im := y_ext hx_ hI.1 hY_im
  replace hY_mk := y_ext hx_ hI.1 hY_mk
  obtain ⟨r4, rfl, hin_r4, hout_r4⟩ := z_inR2 (hP _ _ _ rfl)
  clear ho hr ha hE hP hI hx_
  rename x_I _ _ _ _ _ _ _ _ _ _ => hI
  have ec0 : (0 : Int32).toInt = 0 := by decide
  refine lv_if_ne hx hb kZ_d7 (tgt := 15) (by decide) (fun q7 => ?_) (fun q7 => ?_)
  · have q7_ : ¬ r4.toInt = (0 : Int32).toInt := fun q => q7 (Int32.toInt_inj.mp q)
    have hi1 := hin_r4 (by assumption)
    have hi : 0 ≤ i.toInt ∧ i.toInt ≤ 1 := by omega
    have hh := z_hdi hi hB_im
    refine lv_aload_n hx hb kZ_d15 rfl (lv_at hl 0 rfl) ?_
    refine y_getf X (fl_im_238y X.2.2.2.2.1) hI.1 hY_this rfl hs_mk kZ_d16 ?_
    refine lv_iload_n hx hb kZ_d19 rfl (lv_at hl 1 rfl) ?_
    refine y_zald X hI.1 hY_mk rfl hA_mk (by omega) (by show _ < (2 : Int); omega) kZ_d20 ?_
    obtain ⟨e20, hg_e20⟩ : ∃ e20 : Int32, fk i.toInt.toNat = e20 := ⟨_, rfl⟩
    rw [hg_e20]
    have h_e20 : (0 : Int) ≤ e20.toInt ∧ e20.toInt ≤ 1 := by rw [← hg_e20]; exact hB_mk _ (by omega)
    refine lv_if_ne hx hb kZ_d21 (tgt := 29) (by decide) (fun q21 => ?_) (fun q21 => ?_)
    · have q21_ : ¬ e20.toInt = (0 : Int32).toInt := fun q => q21 (Int32.toInt_inj.mp q)
      have hki : ¬ fk i.toInt.toNat = 0 := fun q9 => (by assumption : ¬ e20 = 0) (hg_e20.symm.trans q9)
      refine lv_iconst hx hb kZ_d29 (v := 0) (by decide) ?_
      refine lv_istore_n hx hb kZ_d30 rfl hl (by decide) (lv' := [(2, .int (0 : Int32)), (0, .ref this), (1, .int i)]) rfl fun ls hl => ?_
      exact kZ_L31 B rfl hs0 hs1 hs2 hcn hA0 hA1 hA2 hi hh hki 161 _ _ _ _ _ _ hI hY_this hY_bk hY_im hY_mk hs_bk hs_im hs_mk hA_bk hA_im hA_mk (lv_sub hl [0, 1, 2] rfl) (by first | assumption | omega) (fun j hj => absurd hj (by omega)) (by omega)
    · have q21_ : e20.toInt = (0 : Int32).toInt := by rw [q21]
      refine lv_aload_n hx hb kZ_d24 rfl (lv_at hl 0 rfl) ?_
      refine y_call (z := (0, 126, 1, some 17, xM164)) (av := [.ref this]) (rest := []) (y_cokV (n := 0) (ci := 12) X ym_no rfl rfl rfl (x_cons (x_bw70 11 rfl rfl) (x_cons (x_bw70 13 rfl rfl) (x_cons (x_at 38 (by decide +kernel) rfl) (x_cons (x_bw0 9 rfl rfl) x_nilm)))) (x_bw70 14 rfl rfl) (by decide +kernel) ⟨Nat.le_of_ble_eq_true rfl, Nat.le_of_ble_eq_true rfl⟩) hY0 hI rfl kZ_d25 hl.1 (Nat.le_of_ble_eq_true rfl) (Nat.le_of_ble_eq_true rfl) (Nat.le_of_ble_eq_true rfl) (y_cons (y_cref hY_this rfl) y_nil) rfl (y_recv rfl hY_this) trivial (y_sub_ef rfl) fun v Yn o Hn L ho hr ha hIn hx_ hE hP => ?_
      replace hs_bk := y_Efld hE hY_this rfl (by decide) (by decide) hs_bk
      replace hs_im := y_Efld hE hY_this rfl (by decide) (by decide) hs_im
      replace hs_mk := y_Efld hE hY_this rfl (by decide) (by decide) hs_mk
      replace hA_bk := hA_bk.kept (y_Earr hE hY_bk rfl (by decide))
      replace hA_im := hA_im.kept (y_Earr hE hY_im rfl (by decide))
      replace hA_mk := hA_mk.kept (y_Earr hE hY_mk rfl (by decide))
      replace hY_this := y_ext hx_ hI.1 hY_this
      replace hY_bk := y_ext hx_ hI.1 hY_bk
      replace hY_im := y_ext hx_ hI.1 hY_im
      replace hY_mk := y_ext hx_ hI.1 hY_mk
      have hPb := hP
      obtain rfl := hPb
      clear ho hr ha hE hP hI hx_
      rename x_I _ _ _ _ _ _ _ _ _ _ => hI
      have hk0 : fk i.toInt.toNat = 0 := hg_e20.trans (Int32.toInt_inj.mp (by omega))
      exact y_ireturn B hI rfl rfl rfl List.mem_cons_self ⟨_, rfl, ⟨_, rfl, x_i32 _⟩⟩ (x_cs.mono B.2.2.2.2.2 (y_mon B hI)) (fun t' b' m' k' i' f' fi' fk' h1 h2 h3 h4 h5 h6 h7 h8 => by cases h1; cases h2.symm.trans hs0; cases h3.symm.trans hs1; cases h4.symm.trans hs2; cases z_uniq h6 hA0 h5 hcn; exact ⟨fun q9 => absurd hi q9, fun _ _ => ⟨rfl, hA_bk⟩, fun _ q9 => absurd ((z_AR h8 hA2 (by omega)).trans hk0) q9⟩) (Nat.le_refl _) (Nat.le_refl _) kZ_d28
  · have q7_ : r4.toInt = (0 : Int32).toInt := by rw [q7]
    have hi1 := hout_r4 (by assumption)
    refine lv_aload_n hx hb kZ_d10 rfl (lv_at hl 0 rfl) ?_
    refine y_call (z := (0, 102, 1, some 17, xM143)) (av := [.ref this]) (rest := []) (y_cokV (n := 0) (ci := 12) X ym_bad rfl rfl rfl (x_cons (x_bw68 3 rfl rfl) (x_cons (x_bw68 5 rfl rfl) (x_cons (x_at 32 (by decide +kernel) rfl) (x_cons (x_bw0 9 rfl rfl) x_nilm)))) (x_bw68 6 rfl rfl) (by decide +kernel) ⟨Nat.le_of_ble_eq_true rfl, Nat.le_of_ble_eq_true rfl⟩) hY0 hI rfl kZ_d11 hl.1 (Nat.le_of_ble_eq_true rfl) (Nat.le_of_ble_eq_true rfl) (Nat.le_of_ble_eq_true rfl) (y_cons (y_cref hY_this rfl) y_nil) rfl (y_recv rfl hY_this) trivial (y_sub_ef rfl) fun v Yn o Hn L ho hr ha hIn hx_ hE hP => ?_
    replace hs_bk := y_Efld hE hY_this rfl (by decide) (by decide) hs_bk
    replace hs_im := y_Efld hE hY_this rfl (by decide) (by decide) hs_im
    replace hs_mk := y_Efld hE hY_this rfl (by decide) (by decide) hs_mk
    replace hA_bk := hA_bk.kept (y_Earr hE hY_bk rfl (by decide))
    replace hA_im := hA_im.kept (y_Earr hE hY_im rfl (by decide))
    replace hA_mk := hA_mk.kept (y_Earr hE hY_mk rfl (by decide))
    replace hY_this := y_ext hx_ hI.1 hY_this
    replace hY_bk := y_ext hx_ hI.1 hY_bk
    replace hY_im := y_ext hx_ hI.1 hY_im
    replace hY_mk := y_ext hx_ hI.1 hY_mk
    have hPb := hP
    obtain rfl := hPb
    clear ho hr ha hE hP hI hx_
    rename x_I _ _ _ _ _ _ _ _ _ _ => hI
    exact y_ireturn B hI rfl rfl rfl List.mem_cons_self ⟨_, rfl, ⟨_, rfl, x_i32 _⟩⟩ (x_cs.mono B.2.2.2.2.2 (y_mon B hI)) (fun t' b' m' k' i' f' fi' fk' h1 h2 h3 h4 h5 h6 h7 h8 => by cases h1; cases h2.symm.trans hs0; cases h3.symm.trans hs1; cases h4.symm.trans hs2; cases z_uniq h6 hA0 h5 hcn; exact ⟨fun _ => ⟨rfl, hA_bk⟩, fun q9 => absurd q9 (by omega), fun q9 => absurd q9 (by omega)⟩) (Nat.le_refl _) (Nat.le_refl _) kZ_d14
def z_PbrX : yP := fun D av _ H _ _ H' => ∀ (this bk : Nat) (f : Nat → Int32), av = [.ref this] → x_sl D 12 0 this H = some (.ref bk) → z_c f → y_A bk 160 H f → y_A bk 160 H' (m_beg f)
def m_rowi (i : Nat) : Nat → Int32 := fun p => if p = 7 then 9 else if (136 ≤ p ∧ p < 136 + 2 * i) ∧ p % 2 = 0 then -1 else 0
theorem m_rowi0 : y_up (m_beg (fun _ => 0)) 7 9 = m_rowi 0 := by
  funext p
  unfold m_rowi
  by_cases h : p = 7
  · subst h; rw [y_up_at, if_pos rfl]
  · rw [y_up_ne h, if_neg h, if_neg (by omega)]
    unfold m_beg y_up
    repeat' split
    all_goals rfl
theorem m_rowiS {i : Nat} : y_up (m_rowi i) (136 + 2 * i) (-1) = m_rowi (i + 1) := by
  funext p
  by_cases h : p = 136 + 2 * i
  · subst h
    rw [y_up_at]
    unfold m_rowi
    rw [if_neg (by omega), if_pos (by omega)]
  · rw [y_up_ne h]
    unfold m_rowi
    by_cases h7 : p = 7
    · rw [if_pos h7, if_pos h7]
    · rw [if_neg h7, if_neg h7]
      by_cases h9 : (136 ≤ p ∧ p < 136 + 2 * i) ∧ p % 2 = 0
      · rw [if_pos h9, if_pos (by omega)]
      · rw [if_neg h9, if_neg (by omega)]
theorem m_row0c : z_c m_row0 := fun p hp => by
  unfold m_row0
  rw [if_neg (by omega), if_neg (by omega)]
def z_AmiX : yA := fun D av _ H => ∀ this : Nat, av = [.ref this] → x_sl D 12 10 this H = some (.int 0)
def z_PmiX : yP := fun D av _ _ _ Y' H' => ∀ this : Nat, av = [.ref this] → z_RM D Y' H' this m_row0 (fun _ => none) (fun _ => 0) 0
theorem bZ_d0 : decode xMbr.2.1 0 = .ok (.aload_n 0, 1) := dz_ok (by decide +kernel)
theorem bZ_d1 : decode xMbr.2.1 1 = .ok (.getfield 7, 3) := dz_ok (by decide +kernel)
theorem bZ_d4 : decode xMbr.2.1 4 = .ok (.iconst 0, 1) := dz_ok (by decide +kernel)
theorem bZ_d5 : decode xMbr.2.1 5 = .ok (.iconst 0, 1) := dz_ok (by decide +kernel)
theorem bZ_d6 : decode xMbr.2.1 6 = .ok (.iastore, 1) := dz_ok (by decide +kernel)
theorem bZ_d7 : decode xMbr.2.1 7 = .ok (.aload_n 0, 1) := dz_ok (by decide +kernel)
theorem bZ_d8 : decode xMbr.2.1 8 = .ok (.getfield 7, 3) := dz_ok (by decide +kernel)
theorem bZ_d11 : decode xMbr.2.1 11 = .ok (.iconst 1, 1) := dz_ok (by decide +kernel)
theorem bZ_d12 : decode xMbr.2.1 12 = .ok (.iconst 0, 1) := dz_ok (by decide +kernel)
theorem bZ_d13 : decode xMbr.2.1 13 = .ok (.iastore, 1) := dz_ok (by decide +kernel)
theorem bZ_d14 : decode xMbr.2.1 14 = .ok (.aload_n 0, 1) := dz_ok (by decide +kernel)
theorem bZ_d15 : decode xMbr.2.1 15 = .ok (.getfield 7, 3) := dz_ok (by decide +kernel)
theorem bZ_d18 : decode xMbr.2.1 18 = .ok (.iconst 4, 1) := dz_ok (by decide +kernel)
theorem bZ_d19 : decode xMbr.2.1 19 = .ok (.iconst 0, 1) := dz_ok (by decide +kernel)
theorem bZ_d20 : decode xMbr.2.1 20 = .ok (.iastore, 1) := dz_ok (by decide +kernel)
theorem bZ_d21 : decode xMbr.2.1 21 = .ok (.aload_n 0, 1) := dz_ok (by decide +kernel)
theorem bZ_d22 : decode xMbr.2.1 22 = .ok (.getfield 7, 3) := dz_ok (by decide +kernel)
theorem bZ_d25 : decode xMbr.2.1 25 = .ok (.iconst 5, 1) := dz_ok (by decide +kernel)
theorem bZ_d26 : decode xMbr.2.1 26 = .ok (.iconst 0, 1) := dz_ok (by decide +kernel)
theorem bZ_d27 : decode xMbr.2.1 27 = .ok (.iastore, 1) := dz_ok (by decide +kernel)
theorem bZ_d28 : decode xMbr.2.1 28 = .ok (.aload_n 0, 1) := dz_ok (by decide +kernel)
theorem bZ_d29 : decode xMbr.2.1 29 = .ok (.getfield 7, 3) := dz_ok (by decide +kernel)
theorem bZ_d32 : decode xMbr.2.1 32 = .ok (.bipush 6, 2) := dz_ok (by decide +kernel)
theorem bZ_d34 : decode xMbr.2.1 34 = .ok (.iconst 0, 1) := dz_ok (by decide +kernel)
theorem bZ_d35 : decode xMbr.2.1 35 = .ok (.iastore, 1) := dz_ok (by decide +kernel)
theorem bZ_d36 : decode xMbr.2.1 36 = .ok (.return_, 1) := dz_ok (by decide +kernel)
theorem ym_begRawX : y_Met vwCl x_G x_Zs x_Tb x_Nb xMbr z_Abr z_PbrX := by
  refine y_main (by decide +kernel) (by decide +kernel) x_Tb_good x_Nb_ok ?_
  intro p l e s m below meth c D U Y0 av ls B hI hA0 hl
  have X := B.1
  have hx := X.1
  have hb := X.2.1
  have hY0 := B.2.2.2.2.1
  obtain ⟨v0, rfl, hv0⟩ := x_one B.2.2.2.2.2
  obtain ⟨this, t0, rfl, ht0, hY_this⟩ := x_ref_at hv0 rfl
  obtain rfl := List.mem_singleton.mp ht0
  replace hl : lv_has ls xMbr.2.2.1 [(0, .ref this)] := hl
  obtain ⟨bk, hs_bk, hY_bk⟩ := hA0 _ rfl
  obtain ⟨fb8, hA8, hB8⟩ := y_arr hI.1 hY_bk rfl rfl
  obtain ⟨fb, hcn, hA_bk, hB_bk⟩ := z_canon (Y := Y0) (P := fun j v => x_c Y0 ([xI 0 10, xI 0 8, xI 0 8].getD j xF) (.int v)) hA8 hB8
  have hs0 := hs_bk
  have hA9 := hA_bk
  refine lv_aload_n hx hb bZ_d0 rfl (lv_at hl 0 rfl) ?_
  refine y_getf X (fl_bZ_240 X.2.2.2.2.1) hI.1 hY_this rfl hs_bk bZ_d1 ?_
  refine lv_iconst hx hb bZ_d4 (v := 0) (by decide) ?_
  have ec0 : (0 : Int32).toInt = 0 := by decide
  refine lv_iconst hx hb bZ_d5 (v := 0) (by decide) ?_
  refine y_iast X hY0 hI hY_bk rfl hA_bk (by omega) (by show _ < (160 : Int); omega) (by show x_c _ (xI 0 10) _; exact ⟨_, rfl, by decide, by decide⟩) (by decide +kernel) bZ_d6 fun H locs hI h_new ho => ?_
  replace hA_bk := h_new
  generalize hf_f6 : y_up fb (0 : Int32).toInt.toNat (0 : Int32) = f6 at hA_bk
  replace hs_bk := y_slk hs_bk (ho _ (y_ne hY_this hY_bk rfl))
  refine lv_aload_n hx hb bZ_d7 rfl (lv_at hl 0 rfl) ?_
  refine y_getf X (fl_bZ_240 X.2.2.2.2.1) hI.1 hY_this rfl hs_bk bZ_d8 ?_
  refine lv_iconst hx hb bZ_d11 (v := 1) (by decide) ?_
  have ec1 : (1 : Int32).toInt = 1 := by decide
  refine lv_iconst hx hb bZ_d12 (v := 0) (by decide) ?_
  refine y_iast X hY0 hI hY_bk rfl hA_bk (by omega) (by show _ < (160 : Int); omega) (by show x_c _ (xI 0 8) _; exact ⟨_, rfl, by decide, by decide⟩) (by decide +kernel) bZ_d13 fun H locs hI h_new ho => ?_
  replace hA_bk := h_new
  generalize hf_f13 : y_up f6 (1 : Int32).toInt.toNat (0 : Int32) = f13 at hA_bk
  replace hs_bk := y_slk hs_bk (ho _ (y_ne hY_this hY_bk rfl))
  refine lv_aload_n hx hb bZ_d14 rfl (lv_at hl 0 rfl) ?_
  refine y_getf X (fl_bZ_240 X.2.2.2.2.1) hI.1 hY_this rfl hs_bk bZ_d15 ?_
  refine lv_iconst hx hb bZ_d18 (v := 4) (by decide) ?_
  have ec4 : (4 : Int32).toInt = 4 := by decide
  refine lv_iconst hx hb bZ_d19 (v := 0) (by decide) ?_
  refine y_iast X hY0 hI hY_bk rfl hA_bk (by omega) (by show _ < (160 : Int); omega) (by show x_c _ (xF) _; exact ⟨_, rfl, by decide, by decide⟩) (by decide +kernel) bZ_d20 fun H locs hI h_new ho => ?_
  replace hA_bk := h_new
  generalize hf_f20 : y_up f13 (4 : Int32).toInt.toNat (0 : Int32) = f20 at hA_bk
  replace hs_bk := y_slk hs_bk (ho _ (y_ne hY_this hY_bk rfl))
  refine lv_aload_n hx hb bZ_d21 rfl (lv_at hl 0 rfl) ?_
  refine y_getf X (fl_bZ_240 X.2.2.2.2.1) hI.1 hY_this rfl hs_bk bZ_d22 ?_
  refine lv_iconst hx hb bZ_d25 (v := 5) (by decide) ?_
  have ec5 : (5 : Int32).toInt = 5 := by decide
  refine lv_iconst hx hb bZ_d26 (v := 0) (by decide) ?_
  refine y_iast X hY0 hI hY_bk rfl hA_bk (by omega) (by show _ < (160 : Int); omega) (by show x_c _ (xF) _; exact ⟨_, rfl, by decide, by decide⟩) (by decide +kernel) bZ_d27 fun H locs hI h_new ho => ?_
  replace hA_bk := h_new
  generalize hf_f27 : y_up f20 (5 : Int32).toInt.toNat (0 : Int32) = f27 at hA_bk
  replace hs_bk := y_slk hs_bk (ho _ (y_ne hY_this hY_bk rfl))
  refine lv_aload_n hx hb bZ_d28 rfl (lv_at hl 0 rfl) ?_
  refine y_getf X (fl_bZ_240 X.2.2.2.2.1) hI.1 hY_this rfl hs_bk bZ_d29 ?_
  refine lv_bipush hx hb bZ_d32 (v := 6) (by decide) ?_
  have ec6 : (6 : Int32).toInt = 6 := by decide
  refine lv_iconst hx hb bZ_d34 (v := 0) (by decide) ?_
  refine y_iast X hY0 hI hY_bk rfl hA_bk (by omega) (by show _ < (160 : Int); omega) (by show x_c _ (xF) _; exact ⟨_, rfl, by decide, by decide⟩) (by decide +kernel) bZ_d35 fun H locs hI h_new ho => ?_
  replace hA_bk := h_new
  generalize hf_f35 : y_up f27 (6 : Int32).toInt.toNat (0 : Int32) = f35 at hA_bk
  replace hs_bk := y_slk hs_bk (ho _ (y_ne hY_this hY_bk rfl))
  exact y_return B hI rfl rfl List.mem_cons_self rfl (x_cs.mono B.2.2.2.2.2 (y_mon B hI)) (fun t' b' f' h1 h2 h3 h4 => by cases h1; cases h2.symm.trans hs0; cases z_uniq h4 hA9 h3 hcn; unfold m_beg; rw [show (0 : Nat) = (0 : Int32).toInt.toNat by decide, show (1 : Nat) = (1 : Int32).toInt.toNat by decide, show (4 : Nat) = (4 : Int32).toInt.toNat by decide, show (5 : Nat) = (5 : Int32).toInt.toNat by decide, show (6 : Nat) = (6 : Int32).toInt.toNat by decide, hf_f6, hf_f13, hf_f20, hf_f27, hf_f35]; exact hA_bk) (Nat.le_refl _) (Nat.le_refl _) bZ_d36
theorem mZ_d0 : decode xMmx.2.1 0 = .ok (.aload_n 0, 1) := dz_ok (by decide +kernel)
theorem mZ_d1 : decode xMmx.2.1 1 = .ok (.invokespecial 1, 3) := dz_ok (by decide +kernel)
theorem mZ_d4 : decode xMmx.2.1 4 = .ok (.aload_n 0, 1) := dz_ok (by decide +kernel)
theorem mZ_d5 : decode xMmx.2.1 5 = .ok (.sipush 160, 3) := dz_ok (by decide +kernel)
theorem mZ_d8 : decode xMmx.2.1 8 = .ok (.newarray .int, 2) := dz_ok (by decide +kernel)
theorem mZ_d10 : decode xMmx.2.1 10 = .ok (.putfield 7, 3) := dz_ok (by decide +kernel)
theorem mZ_d13 : decode xMmx.2.1 13 = .ok (.aload_n 0, 1) := dz_ok (by decide +kernel)
theorem mZ_d14 : decode xMmx.2.1 14 = .ok (.sipush 320, 3) := dz_ok (by decide +kernel)
theorem mZ_d17 : decode xMmx.2.1 17 = .ok (.newarray .int, 2) := dz_ok (by decide +kernel)
theorem mZ_d19 : decode xMmx.2.1 19 = .ok (.putfield 13, 3) := dz_ok (by decide +kernel)
theorem mZ_d22 : decode xMmx.2.1 22 = .ok (.aload_n 0, 1) := dz_ok (by decide +kernel)
theorem mZ_d23 : decode xMmx.2.1 23 = .ok (.iconst 2, 1) := dz_ok (by decide +kernel)
theorem mZ_d24 : decode xMmx.2.1 24 = .ok (.newarray .boolean, 2) := dz_ok (by decide +kernel)
theorem mZ_d26 : decode xMmx.2.1 26 = .ok (.putfield 16, 3) := dz_ok (by decide +kernel)
theorem mZ_d29 : decode xMmx.2.1 29 = .ok (.aload_n 0, 1) := dz_ok (by decide +kernel)
theorem mZ_d30 : decode xMmx.2.1 30 = .ok (.sipush 160, 3) := dz_ok (by decide +kernel)
theorem mZ_d33 : decode xMmx.2.1 33 = .ok (.newarray .int, 2) := dz_ok (by decide +kernel)
theorem mZ_d35 : decode xMmx.2.1 35 = .ok (.putfield 20, 3) := dz_ok (by decide +kernel)
theorem mZ_d38 : decode xMmx.2.1 38 = .ok (.aload_n 0, 1) := dz_ok (by decide +kernel)
theorem mZ_d39 : decode xMmx.2.1 39 = .ok (.iconst 3, 1) := dz_ok (by decide +kernel)
theorem mZ_d40 : decode xMmx.2.1 40 = .ok (.newarray .int, 2) := dz_ok (by decide +kernel)
theorem mZ_d42 : decode xMmx.2.1 42 = .ok (.putfield 23, 3) := dz_ok (by decide +kernel)
theorem mZ_d45 : decode xMmx.2.1 45 = .ok (.aload_n 0, 1) := dz_ok (by decide +kernel)
theorem mZ_d46 : decode xMmx.2.1 46 = .ok (.bipush 10, 2) := dz_ok (by decide +kernel)
theorem mZ_d48 : decode xMmx.2.1 48 = .ok (.newarray .int, 2) := dz_ok (by decide +kernel)
theorem mZ_d50 : decode xMmx.2.1 50 = .ok (.putfield 26, 3) := dz_ok (by decide +kernel)
theorem mZ_d53 : decode xMmx.2.1 53 = .ok (.aload_n 0, 1) := dz_ok (by decide +kernel)
theorem mZ_d54 : decode xMmx.2.1 54 = .ok (.sipush 240, 3) := dz_ok (by decide +kernel)
theorem mZ_d57 : decode xMmx.2.1 57 = .ok (.newarray .int, 2) := dz_ok (by decide +kernel)
theorem mZ_d59 : decode xMmx.2.1 59 = .ok (.putfield 29, 3) := dz_ok (by decide +kernel)
theorem mZ_d62 : decode xMmx.2.1 62 = .ok (.aload_n 0, 1) := dz_ok (by decide +kernel)
theorem mZ_d63 : decode xMmx.2.1 63 = .ok (.sipush 240, 3) := dz_ok (by decide +kernel)
theorem mZ_d66 : decode xMmx.2.1 66 = .ok (.newarray .int, 2) := dz_ok (by decide +kernel)
theorem mZ_d68 : decode xMmx.2.1 68 = .ok (.putfield 32, 3) := dz_ok (by decide +kernel)
theorem mZ_d71 : decode xMmx.2.1 71 = .ok (.aload_n 0, 1) := dz_ok (by decide +kernel)
theorem mZ_d72 : decode xMmx.2.1 72 = .ok (.sipush 960, 3) := dz_ok (by decide +kernel)
theorem mZ_d75 : decode xMmx.2.1 75 = .ok (.newarray .int, 2) := dz_ok (by decide +kernel)
theorem mZ_d77 : decode xMmx.2.1 77 = .ok (.putfield 35, 3) := dz_ok (by decide +kernel)
theorem mZ_d80 : decode xMmx.2.1 80 = .ok (.aload_n 0, 1) := dz_ok (by decide +kernel)
theorem mZ_d81 : decode xMmx.2.1 81 = .ok (.sipush 1024, 3) := dz_ok (by decide +kernel)
theorem mZ_d84 : decode xMmx.2.1 84 = .ok (.newarray .boolean, 2) := dz_ok (by decide +kernel)
theorem mZ_d86 : decode xMmx.2.1 86 = .ok (.putfield 38, 3) := dz_ok (by decide +kernel)
theorem mZ_d89 : decode xMmx.2.1 89 = .ok (.aload_n 0, 1) := dz_ok (by decide +kernel)
theorem mZ_d90 : decode xMmx.2.1 90 = .ok (.sipush 1024, 3) := dz_ok (by decide +kernel)
theorem mZ_d93 : decode xMmx.2.1 93 = .ok (.newarray .int, 2) := dz_ok (by decide +kernel)
theorem mZ_d95 : decode xMmx.2.1 95 = .ok (.putfield 41, 3) := dz_ok (by decide +kernel)
theorem mZ_d98 : decode xMmx.2.1 98 = .ok (.aload_n 0, 1) := dz_ok (by decide +kernel)
theorem mZ_d99 : decode xMmx.2.1 99 = .ok (.sipush 1024, 3) := dz_ok (by decide +kernel)
theorem mZ_d102 : decode xMmx.2.1 102 = .ok (.newarray .int, 2) := dz_ok (by decide +kernel)
theorem mZ_d104 : decode xMmx.2.1 104 = .ok (.putfield 44, 3) := dz_ok (by decide +kernel)
theorem mZ_d107 : decode xMmx.2.1 107 = .ok (.aload_n 0, 1) := dz_ok (by decide +kernel)
theorem mZ_d108 : decode xMmx.2.1 108 = .ok (.sipush 1024, 3) := dz_ok (by decide +kernel)
theorem mZ_d111 : decode xMmx.2.1 111 = .ok (.newarray .boolean, 2) := dz_ok (by decide +kernel)
theorem mZ_d113 : decode xMmx.2.1 113 = .ok (.putfield 47, 3) := dz_ok (by decide +kernel)
theorem mZ_d116 : decode xMmx.2.1 116 = .ok (.aload_n 0, 1) := dz_ok (by decide +kernel)
theorem mZ_d117 : decode xMmx.2.1 117 = .ok (.sipush 12288, 3) := dz_ok (by decide +kernel)
theorem mZ_d120 : decode xMmx.2.1 120 = .ok (.newarray .boolean, 2) := dz_ok (by decide +kernel)
theorem mZ_d122 : decode xMmx.2.1 122 = .ok (.putfield 50, 3) := dz_ok (by decide +kernel)
theorem mZ_d125 : decode xMmx.2.1 125 = .ok (.aload_n 0, 1) := dz_ok (by decide +kernel)
theorem mZ_d126 : decode xMmx.2.1 126 = .ok (.sipush 12288, 3) := dz_ok (by decide +kernel)
theorem mZ_d129 : decode xMmx.2.1 129 = .ok (.newarray .boolean, 2) := dz_ok (by decide +kernel)
theorem mZ_d131 : decode xMmx.2.1 131 = .ok (.putfield 53, 3) := dz_ok (by decide +kernel)
theorem mZ_d134 : decode xMmx.2.1 134 = .ok (.aload_n 0, 1) := dz_ok (by decide +kernel)
theorem mZ_d135 : decode xMmx.2.1 135 = .ok (.sipush 12288, 3) := dz_ok (by decide +kernel)
theorem mZ_d138 : decode xMmx.2.1 138 = .ok (.newarray .boolean, 2) := dz_ok (by decide +kernel)
theorem mZ_d140 : decode xMmx.2.1 140 = .ok (.putfield 56, 3) := dz_ok (by decide +kernel)
theorem mZ_d143 : decode xMmx.2.1 143 = .ok (.aload_n 0, 1) := dz_ok (by decide +kernel)
theorem mZ_d144 : decode xMmx.2.1 144 = .ok (.sipush 9216, 3) := dz_ok (by decide +kernel)
theorem mZ_d147 : decode xMmx.2.1 147 = .ok (.newarray .int, 2) := dz_ok (by decide +kernel)
theorem mZ_d149 : decode xMmx.2.1 149 = .ok (.putfield 59, 3) := dz_ok (by decide +kernel)
theorem mZ_d152 : decode xMmx.2.1 152 = .ok (.aload_n 0, 1) := dz_ok (by decide +kernel)
theorem mZ_d153 : decode xMmx.2.1 153 = .ok (.sipush 9216, 3) := dz_ok (by decide +kernel)
theorem mZ_d156 : decode xMmx.2.1 156 = .ok (.newarray .int, 2) := dz_ok (by decide +kernel)
theorem mZ_d158 : decode xMmx.2.1 158 = .ok (.putfield 62, 3) := dz_ok (by decide +kernel)
theorem mZ_d161 : decode xMmx.2.1 161 = .ok (.aload_n 0, 1) := dz_ok (by decide +kernel)
theorem mZ_d162 : decode xMmx.2.1 162 = .ok (.invokevirtual 65, 3) := dz_ok (by decide +kernel)
theorem mZ_d165 : decode xMmx.2.1 165 = .ok (.aload_n 0, 1) := dz_ok (by decide +kernel)
theorem mZ_d166 : decode xMmx.2.1 166 = .ok (.getfield 7, 3) := dz_ok (by decide +kernel)
theorem mZ_d169 : decode xMmx.2.1 169 = .ok (.bipush 7, 2) := dz_ok (by decide +kernel)
theorem mZ_d171 : decode xMmx.2.1 171 = .ok (.bipush 9, 2) := dz_ok (by decide +kernel)
theorem mZ_d173 : decode xMmx.2.1 173 = .ok (.iastore, 1) := dz_ok (by decide +kernel)
theorem mZ_d174 : decode xMmx.2.1 174 = .ok (.iconst 0, 1) := dz_ok (by decide +kernel)
theorem mZ_d175 : decode xMmx.2.1 175 = .ok (.istore_n 1, 1) := dz_ok (by decide +kernel)
theorem mZ_d176 : decode xMmx.2.1 176 = .ok (.iload_n 1, 1) := dz_ok (by decide +kernel)
theorem mZ_d177 : decode xMmx.2.1 177 = .ok (.bipush 12, 2) := dz_ok (by decide +kernel)
theorem mZ_d179 : decode xMmx.2.1 179 = .ok (.if_icmp .ge 22, 3) := dz_ok (by decide +kernel)
theorem mZ_d182 : decode xMmx.2.1 182 = .ok (.aload_n 0, 1) := dz_ok (by decide +kernel)
theorem mZ_d183 : decode xMmx.2.1 183 = .ok (.getfield 7, 3) := dz_ok (by decide +kernel)
theorem mZ_d186 : decode xMmx.2.1 186 = .ok (.sipush 136, 3) := dz_ok (by decide +kernel)
theorem mZ_d189 : decode xMmx.2.1 189 = .ok (.iconst 2, 1) := dz_ok (by decide +kernel)
theorem mZ_d190 : decode xMmx.2.1 190 = .ok (.iload_n 1, 1) := dz_ok (by decide +kernel)
theorem mZ_d191 : decode xMmx.2.1 191 = .ok (.imul, 1) := dz_ok (by decide +kernel)
theorem mZ_d192 : decode xMmx.2.1 192 = .ok (.iadd, 1) := dz_ok (by decide +kernel)
theorem mZ_d193 : decode xMmx.2.1 193 = .ok (.iconst (-1), 1) := dz_ok (by decide +kernel)
theorem mZ_d194 : decode xMmx.2.1 194 = .ok (.iastore, 1) := dz_ok (by decide +kernel)
theorem mZ_d195 : decode xMmx.2.1 195 = .ok (.iinc 1 1, 3) := dz_ok (by decide +kernel)
theorem mZ_d198 : decode xMmx.2.1 198 = .ok (.goto (-22), 3) := dz_ok (by decide +kernel)
theorem mZ_d201 : decode xMmx.2.1 201 = .ok (.aload_n 0, 1) := dz_ok (by decide +kernel)
theorem mZ_d202 : decode xMmx.2.1 202 = .ok (.lconst 1, 1) := dz_ok (by decide +kernel)
theorem mZ_d203 : decode xMmx.2.1 203 = .ok (.putfield 68, 3) := dz_ok (by decide +kernel)
theorem mZ_d206 : decode xMmx.2.1 206 = .ok (.return_, 1) := dz_ok (by decide +kernel)
theorem mZ_L176 {p : Program} {l : Launch} {e : Env} {s : State} {m : MethodId} {below : List Frame} {meth : Method} {c : Code} {D : va_G} {U : State} {Y0 : xY} {av : List Value} (B : y_B vwCl x_Tb x_Nb xMmx p s m meth c D U Y0 av) {this n8 n17 n24 n33 n40 n48 n57 n66 n75 n84 n93 n102 n111 n120 n129 n138 n147 n156 : Nat} (hav : av = [.ref this])  :
    ∀ (n : Nat), ∀ (H : Heap) (Y : xY) (locs : List Loc) (ls : Array Slot) (i : Int32) (fb : Nat → Int32), x_I D x_G x_Zs U (x_efs xMmx) Y0 s.heap Y H locs → Y this = some 18 → Y n8 = some 46 → Y n17 = some 47 → Y n24 = some 48 → Y n33 = some 49 → Y n40 = some 50 → Y n48 = some 51 → Y n57 = some 52 → Y n66 = some 53 → Y n75 = some 54 → Y n84 = some 55 → Y n93 = some 56 → Y n102 = some 57 → Y n111 = some 58 → Y n120 = some 59 → Y n129 = some 60 → Y n138 = some 61 → Y n147 = some 62 → Y n156 = some 63 → x_sl D 12 0 this H = some (.ref n8) → x_sl D 12 1 this H = some (.ref n17) → x_sl D 12 2 this H = some (.ref n24) → x_sl D 12 3 this H = some (.ref n33) → x_sl D 12 4 this H = some (.ref n40) → x_sl D 12 8 this H = some (.ref n48) → x_sl D 12 9 this H = some (.ref n57) → x_sl D 12 15 this H = some (.ref n66) → x_sl D 12 16 this H = some (.ref n75) → x_sl D 12 18 this H = some (.ref n84) → x_sl D 12 19 this H = some (.ref n93) → x_sl D 12 20 this H = some (.ref n102) → x_sl D 12 21 this H = some (.ref n111) → x_sl D 12 22 this H = some (.ref n120) → x_sl D 12 23 this H = some (.ref n129) → x_sl D 12 24 this H = some (.ref n138) → x_sl D 12 25 this H = some (.ref n147) → x_sl D 12 26 this H = some (.ref n156) → x_sl D 12 10 this H = some (.int 0) → y_A n8 160 H fb → y_A n24 2 H (fun _ => 0) → y_A n57 240 H (fun _ => 0) → lv_has ls xMmx.2.2.1 [(1, .int i), (0, .ref this)] → (0 ≤ i.toInt ∧ i.toInt ≤ 12) → (fb = m_rowi i.toInt.toNat) → (12 - i.toInt).toNat < n → W p l e (x_rm xMmx) s m av.toArray below meth c H locs 18 61487 (y_QQ below D x_G x_Zs U xMmx z_PmiX av Y0 s) (F0 m 176 ls []) := by
  have X := B.1
  have hx := X.1
  have hb := X.2.1
  have hY0 := B.2.2.2.2.1
  have hts := X.2.2.2.2.1
  have hnm := B.2.2.2.1
  intro n
  induction n with
  | zero => intro _ _ _ _ _ _ _ _ _ _ _ _ _ _ _ _ _ _ _ _ _ _ _ _ _ _ _ _ _ _ _ _ _ _ _ _ _ _ _ _ _ _ _ _ _ _ _ _ _ _ _ h; exact absurd h (Nat.not_lt_zero _)
  | succ n ih =>
    intro H Y locs ls i fb hI hY_this hY_n8 hY_n17 hY_n24 hY_n33 hY_n40 hY_n48 hY_n57 hY_n66 hY_n75 hY_n84 hY_n93 hY_n102 hY_n111 hY_n120 hY_n129 hY_n138 hY_n147 hY_n156 hs_n8 hs_n17 hs_n24 hs_n33 hs_n40 hs_n48 hs_n57 hs_n66 hs_n75 hs_n84 hs_n93 hs_n102 hs_n111 hs_n120 hs_n129 hs_n138 hs_n147 hs_n156 hsi_typed hA_n8 hA_n24 hA_n57 hl hi hfb hn
    refine lv_iload_n hx hb mZ_d176 rfl (lv_at hl 0 rfl) ?_
    refine lv_bipush hx hb mZ_d177 (v := 12) (by decide) ?_
    have ec12 : (12 : Int32).toInt = 12 := by decide
    refine lv_icmp_ge hx hb mZ_d179 (tgt := 201) (by decide) (fun q179 => ?_) (fun q179 => ?_)
    · have q179_ : (12 : Int32).toInt ≤ i.toInt := x_le32.mp q179
      refine lv_aload_n hx hb mZ_d201 rfl (lv_at hl 1 rfl) ?_
      refine lv_lconst hx hb mZ_d202 (v := 1) (by decide) ?_
      have el1 : (1 : Int64).toInt = 1 := by decide
      refine y_putf X (fw_mZ_241 X.2.2.2.2.1) hY0 hI hY_this rfl rfl ⟨_, rfl, x_i64 _⟩ (by decide +kernel) mZ_d203 fun H sl hI ho hs hk => ?_
      replace hs_n8 := hk _ _ (by decide +kernel) (by decide) hs_n8
      replace hs_n17 := hk _ _ (by decide +kernel) (by decide) hs_n17
      replace hs_n24 := hk _ _ (by decide +kernel) (by decide) hs_n24
      replace hs_n33 := hk _ _ (by decide +kernel) (by decide) hs_n33
      replace hs_n40 := hk _ _ (by decide +kernel) (by decide) hs_n40
      replace hs_n48 := hk _ _ (by decide +kernel) (by decide) hs_n48
      replace hs_n57 := hk _ _ (by decide +kernel) (by decide) hs_n57
      replace hs_n66 := hk _ _ (by decide +kernel) (by decide) hs_n66
      replace hs_n75 := hk _ _ (by decide +kernel) (by decide) hs_n75
      replace hs_n84 := hk _ _ (by decide +kernel) (by decide) hs_n84
      replace hs_n93 := hk _ _ (by decide +kernel) (by decide) hs_n93
      replace hs_n102 := hk _ _ (by decide +kernel) (by decide) hs_n102
      replace hs_n111 := hk _ _ (by decide +kernel) (by decide) hs_n111
      replace hs_n120 := hk _ _ (by decide +kernel) (by decide) hs_n120
      replace hs_n129 := hk _ _ (by decide +kernel) (by decide) hs_n129
      replace hs_n138 := hk _ _ (by decide +kernel) (by decide) hs_n138
      replace hs_n147 := hk _ _ (by decide +kernel) (by decide) hs_n147
      replace hs_n156 := hk _ _ (by decide +kernel) (by decide) hs_n156
      replace hsi_typed := hk _ _ (by decide +kernel) (by decide) hsi_typed
      replace hA_n8 := hA_n8.kept (ho _ (y_ne hY_n8 hY_this rfl))
      replace hA_n24 := hA_n24.kept (ho _ (y_ne hY_n24 hY_this rfl))
      replace hA_n57 := hA_n57.kept (ho _ (y_ne hY_n57 hY_this rfl))
      replace hs := hs
      have hs203 := hs
      subst hav
      have hYC := hY_this
      have hf : ∀ (k : Nat) (ft : xV), ([xR false [46], xR false [47], xR false [48], xR false [49], xR false [50], xI 0 1, xFL, xFL, xR false [51], xR false [52], xI 0 240, xI 0 240, xF, xF, xF, xR false [53], xR false [54], xI 0 240, xR false [55], xR false [56], xR false [57], xR false [58], xR false [59], xR false [60], xR false [61], xR false [62], xR false [63]])[k]? = some ft → ∃ v : Value, x_sl D 12 k this H = some v ∧ x_c Y ft v ∧ x_nrT 18 ft = true := fun k ft hk => match k, hk with
          | 0, hk => by cases hk; exact ⟨_, hs_n8, y_crefA hY_n8 rfl, rfl⟩
          | 1, hk => by cases hk; exact ⟨_, hs_n17, y_crefA hY_n17 rfl, rfl⟩
          | 2, hk => by cases hk; exact ⟨_, hs_n24, y_crefA hY_n24 rfl, rfl⟩
          | 3, hk => by cases hk; exact ⟨_, hs_n33, y_crefA hY_n33 rfl, rfl⟩
          | 4, hk => by cases hk; exact ⟨_, hs_n40, y_crefA hY_n40 rfl, rfl⟩
          | 5, hk => by cases hk; obtain ⟨v, e1, e2⟩ := y_fld (k := 5) hI.1 hYC rfl rfl; exact ⟨v, e1, e2, rfl⟩
          | 6, hk => by cases hk; obtain ⟨v, e1, e2⟩ := y_fld (k := 6) hI.1 hYC rfl rfl; exact ⟨v, e1, e2, rfl⟩
          | 7, hk => by cases hk; obtain ⟨v, e1, e2⟩ := y_fld (k := 7) hI.1 hYC rfl rfl; exact ⟨v, e1, e2, rfl⟩
          | 8, hk => by cases hk; exact ⟨_, hs_n48, y_crefA hY_n48 rfl, rfl⟩
          | 9, hk => by cases hk; exact ⟨_, hs_n57, y_crefA hY_n57 rfl, rfl⟩
          | 10, hk => by cases hk; obtain ⟨v, e1, e2⟩ := y_fld (k := 10) hI.1 hYC rfl rfl; exact ⟨v, e1, e2, rfl⟩
          | 11, hk => by cases hk; obtain ⟨v, e1, e2⟩ := y_fld (k := 11) hI.1 hYC rfl rfl; exact ⟨v, e1, e2, rfl⟩
          | 12, hk => by cases hk; obtain ⟨v, e1, e2⟩ := y_fld (k := 12) hI.1 hYC rfl rfl; exact ⟨v, e1, e2, rfl⟩
          | 13, hk => by cases hk; obtain ⟨v, e1, e2⟩ := y_fld (k := 13) hI.1 hYC rfl rfl; exact ⟨v, e1, e2, rfl⟩
          | 14, hk => by cases hk; obtain ⟨v, e1, e2⟩ := y_fld (k := 14) hI.1 hYC rfl rfl; exact ⟨v, e1, e2, rfl⟩
          | 15, hk => by cases hk; exact ⟨_, hs_n66, y_crefA hY_n66 rfl, rfl⟩
          | 16, hk => by cases hk; exact ⟨_, hs_n75, y_crefA hY_n75 rfl, rfl⟩
          | 17, hk => by cases hk; obtain ⟨v, e1, e2⟩ := y_fld (k := 17) hI.1 hYC rfl rfl; exact ⟨v, e1, e2, rfl⟩
          | 18, hk => by cases hk; exact ⟨_, hs_n84, y_crefA hY_n84 rfl, rfl⟩
          | 19, hk => by cases hk; exact ⟨_, hs_n93, y_crefA hY_n93 rfl, rfl⟩
          | 20, hk => by cases hk; exact ⟨_, hs_n102, y_crefA hY_n102 rfl, rfl⟩
          | 21, hk => by cases hk; exact ⟨_, hs_n111, y_crefA hY_n111 rfl, rfl⟩
          | 22, hk => by cases hk; exact ⟨_, hs_n120, y_crefA hY_n120 rfl, rfl⟩
          | 23, hk => by cases hk; exact ⟨_, hs_n129, y_crefA hY_n129 rfl, rfl⟩
          | 24, hk => by cases hk; exact ⟨_, hs_n138, y_crefA hY_n138 rfl, rfl⟩
          | 25, hk => by cases hk; exact ⟨_, hs_n147, y_crefA hY_n147 rfl, rfl⟩
          | 26, hk => by cases hk; exact ⟨_, hs_n156, y_crefA hY_n156 rfl, rfl⟩
          | k + 27, hk => by cases hk
      exact y_retC (o := (12, [xR false [46], xR false [47], xR false [48], xR false [49], xR false [50], xI 0 1, xFL, xFL, xR false [51], xR false [52], xI 0 240, xI 0 240, xF, xF, xF, xR false [53], xR false [54], xI 0 240, xR false [55], xR false [56], xR false [57], xR false [58], xR false [59], xR false [60], xR false [61], xR false [62], xR false [63]])) B hI rfl rfl hYC rfl rfl rfl rfl (by decide +kernel) (by decide +kernel) List.mem_cons_self hf (fun t' h1 => by cases h1; exact ⟨n8, n17, n24, n57, ⟨hs_n8, hs_n17, hs_n24, hs_n57, hsi_typed⟩, ⟨(x_up_ne (y_ne hY_n8 hYC rfl)).trans hY_n8, (x_up_ne (y_ne hY_n17 hYC rfl)).trans hY_n17, (x_up_ne (y_ne hY_n24 hYC rfl)).trans hY_n24, (x_up_ne (y_ne hY_n57 hYC rfl)).trans hY_n57⟩, m_row0c, fun j hj => by rw [hA_n8 j hj, hfb, show i.toInt.toNat = 12 by omega]; rfl, fun j hj => Or.inl ⟨rfl, hA_n24 j hj⟩, fun _ _ => rfl, hA_n57⟩) (by exact Nat.le_of_ble_eq_true rfl) (by exact Nat.le_of_ble_eq_true rfl) mZ_d206
    · have q179_ : i.toInt < (12 : Int32).toInt := Int.not_le.mp fun q => q179 (x_le32.mpr q)
      refine lv_aload_n hx hb mZ_d182 rfl (lv_at hl 1 rfl) ?_
      refine y_getf X (fl_bZ_240 X.2.2.2.2.1) hI.1 hY_this rfl hs_n8 mZ_d183 ?_
      refine lv_sipush hx hb mZ_d186 (v := 136) (by decide) ?_
      have ec136 : (136 : Int32).toInt = 136 := by decide
      refine lv_iconst hx hb mZ_d189 (v := 2) (by decide) ?_
      have ec2 : (2 : Int32).toInt = 2 := by decide
      refine lv_iload_n hx hb mZ_d190 rfl (lv_at hl 0 rfl) ?_
      refine lv_imul hx hb mZ_d191 ?_
      generalize hg_z191 : (2 : Int32) * i = z191
      have h_z191 : z191.toInt = 2 * i.toInt := by rw [← hg_z191]; have := y_mul (x := (2 : Int32)) (y := i) (by rw [ec2]; omega) (by rw [ec2]; omega); rw [ec2] at this; exact this
      refine lv_iadd hx hb mZ_d192 ?_
      generalize hg_z192 : (136 : Int32) + z191 = z192
      have h_z192 : z192.toInt = 136 + z191.toInt := by rw [← hg_z192]; have := y_add (x := (136 : Int32)) (y := z191) (by rw [ec136]; omega) (by rw [ec136]; omega); rw [ec136] at this; exact this
      refine lv_iconst hx hb mZ_d193 (v := (-1)) (by decide) ?_
      have ecm1 : ((-1) : Int32).toInt = (-1) := by decide
      refine y_iast X hY0 hI hY_n8 rfl hA_n8 (by omega) (by show _ < (160 : Int); omega) (by rw [z_get3 (by omega)]; exact ⟨_, rfl, x_i32 _⟩) (by decide +kernel) mZ_d194 fun H locs hI h_new ho => ?_
      replace hA_n8 := h_new
      generalize hf_f194 : y_up fb z192.toInt.toNat ((-1) : Int32) = f194 at hA_n8
      replace hs_n8 := y_slk hs_n8 (ho _ (y_ne hY_this hY_n8 rfl))
      replace hs_n17 := y_slk hs_n17 (ho _ (y_ne hY_this hY_n8 rfl))
      replace hs_n24 := y_slk hs_n24 (ho _ (y_ne hY_this hY_n8 rfl))
      replace hs_n33 := y_slk hs_n33 (ho _ (y_ne hY_this hY_n8 rfl))
      replace hs_n40 := y_slk hs_n40 (ho _ (y_ne hY_this hY_n8 rfl))
      replace hs_n48 := y_slk hs_n48 (ho _ (y_ne hY_this hY_n8 rfl))
      replace hs_n57 := y_slk hs_n57 (ho _ (y_ne hY_this hY_n8 rfl))
      replace hs_n66 := y_slk hs_n66 (ho _ (y_ne hY_this hY_n8 rfl))
      replace hs_n75 := y_slk hs_n75 (ho _ (y_ne hY_this hY_n8 rfl))
      replace hs_n84 := y_slk hs_n84 (ho _ (y_ne hY_this hY_n8 rfl))
      replace hs_n93 := y_slk hs_n93 (ho _ (y_ne hY_this hY_n8 rfl))
      replace hs_n102 := y_slk hs_n102 (ho _ (y_ne hY_this hY_n8 rfl))
      replace hs_n111 := y_slk hs_n111 (ho _ (y_ne hY_this hY_n8 rfl))
      replace hs_n120 := y_slk hs_n120 (ho _ (y_ne hY_this hY_n8 rfl))
      replace hs_n129 := y_slk hs_n129 (ho _ (y_ne hY_this hY_n8 rfl))
      replace hs_n138 := y_slk hs_n138 (ho _ (y_ne hY_this hY_n8 rfl))
      replace hs_n147 := y_slk hs_n147 (ho _ (y_ne hY_this hY_n8 rfl))
      replace hs_n156 := y_slk hs_n156 (ho _ (y_ne hY_this hY_n8 rfl))
      replace hsi_typed := y_slk hsi_typed (ho _ (y_ne hY_this hY_n8 rfl))
      replace hA_n24 := hA_n24.kept (ho _ (y_ne hY_n24 hY_n8 rfl))
      replace hA_n57 := hA_n57.kept (ho _ (y_ne hY_n57 hY_n8 rfl))
      obtain ⟨z195, hg_z195⟩ : ∃ z195 : Int32, i + Int32.ofInt 1 = z195 := ⟨_, rfl⟩
      have h_z195 : z195.toInt = i.toInt + 1 := by rw [← hg_z195]; exact y_inc (by decide) (by omega) (by omega)
      refine lv_iinc hx hb mZ_d195 hl (k := 0) rfl hg_z195 (by decide) (lv' := [(1, .int z195), (0, .ref this)]) rfl fun ls hl => ?_
      refine lv_goto hx hb mZ_d198 (tgt := 176) (by decide) ?_
      exact ih _ _ _ _ _ _ hI hY_this hY_n8 hY_n17 hY_n24 hY_n33 hY_n40 hY_n48 hY_n57 hY_n66 hY_n75 hY_n84 hY_n93 hY_n102 hY_n111 hY_n120 hY_n129 hY_n138 hY_n147 hY_n156 hs_n8 hs_n17 hs_n24 hs_n33 hs_n40 hs_n48 hs_n57 hs_n66 hs_n75 hs_n84 hs_n93 hs_n102 hs_n111 hs_n120 hs_n129 hs_n138 hs_n147 hs_n156 hsi_typed hA_n8 hA_n24 hA_n57 (lv_sub hl [0, 1] rfl) (by first | assumption | omega) (by rw [← hf_f194, hfb, show z195.toInt.toNat = i.toInt.toNat + 1 by omega, show z192.toInt.toNat = 136 + 2 * i.toInt.toNat by omega]; exact m_rowiS) (by omega)
theorem ym_modInitX : y_Met vwCl x_G x_Zs x_Tb x_Nb xMmx z_AmiX z_PmiX := by
  refine y_main (by decide +kernel) (by decide +kernel) x_Tb_good x_Nb_ok ?_
  intro p l e s m below meth c D U Y0 av ls B hI hpre hl
  have X := B.1
  have hx := X.1
  have hb := X.2.1
  have hY0 := B.2.2.2.2.1
  have hts := X.2.2.2.2.1
  have hnm := B.2.2.2.1
  obtain ⟨v0, rfl, hv0⟩ := x_one B.2.2.2.2.2
  obtain ⟨this, t0, rfl, ht0, hY_this⟩ := x_ref_at hv0 rfl
  obtain rfl := List.mem_singleton.mp ht0
  replace hl : lv_has ls xMmx.2.2.1 [(0, .ref this)] := hl
  have hsi_typed := hpre _ rfl
  refine lv_aload_n hx hb mZ_d0 rfl (lv_at hl 0 rfl) ?_
  refine y_oi X (hts _ (x_bw61 14 rfl rfl)) (hts _ (x_bw1 12 rfl rfl)) (hts _ (x_bw1 13 rfl rfl)) (Nat.le_of_ble_eq_true rfl) (Nat.le_of_ble_eq_true rfl) hl.1 (Nat.le_of_ble_eq_true rfl) mZ_d1 ?_
  refine lv_aload_n hx hb mZ_d4 rfl (lv_at hl 0 rfl) ?_
  refine lv_sipush hx hb mZ_d5 (v := 160) (by decide) ?_
  have ec160 : (160 : Int32).toInt = 160 := by decide
  refine y_newaC (tag := 46) (k := 160) X hY0 hI rfl rfl (by decide) (hts _ (x_bw5 1 rfl rfl)) (fun Y j => x_dfa (by decide +kernel) Y j) (by decide) (Nat.le_of_ble_eq_true rfl) (Nat.le_of_ble_eq_true rfl) mZ_d8 fun Yn H n8 hnw hct => ?_
  obtain ⟨hIn, hmo, hY_n8, hfr_n8, hke⟩ := hnw
  replace hsi_typed := y_slk hsi_typed (hke _ _ hY_this)
  replace hY_this := hmo _ _ hY_this
  replace hI := hIn
  clear hIn hmo hke
  have hA_n8 : y_A n8 160 H (fun _ => 0) := fun j hj => hct j hj
  clear hct
  refine y_putf X (fw_mZ_242 X.2.2.2.2.1 hnm) hY0 hI hY_this rfl rfl (y_crefA hY_n8 rfl) (by decide +kernel) mZ_d10 fun H sl hI ho hs hk => ?_
  replace hsi_typed := hk _ _ (by decide +kernel) (by decide) hsi_typed
  replace hA_n8 := hA_n8.kept (ho _ (y_ne hY_n8 hY_this rfl))
  replace hs := hs
  have hs10 := hs
  refine lv_aload_n hx hb mZ_d13 rfl (lv_at hl 0 rfl) ?_
  refine lv_sipush hx hb mZ_d14 (v := 320) (by decide) ?_
  have ec320 : (320 : Int32).toInt = 320 := by decide
  refine y_newaC (tag := 47) (k := 320) X hY0 hI rfl rfl (by decide) (hts _ (x_bw5 1 rfl rfl)) (fun Y j => x_dfa (by decide +kernel) Y j) (by decide) (Nat.le_of_ble_eq_true rfl) (Nat.le_of_ble_eq_true rfl) mZ_d17 fun Yn H n17 hnw hct => ?_
  obtain ⟨hIn, hmo, hY_n17, hfr_n17, hke⟩ := hnw
  replace hsi_typed := y_slk hsi_typed (hke _ _ hY_this)
  replace hs10 := y_slk hs10 (hke _ _ hY_this)
  replace hA_n8 := hA_n8.kept (hke _ _ hY_n8)
  replace hY_this := hmo _ _ hY_this
  replace hY_n8 := hmo _ _ hY_n8
  replace hI := hIn
  clear hIn hmo hke
  clear hct
  refine y_putf X (fw_mZ_243 X.2.2.2.2.1 hnm) hY0 hI hY_this rfl rfl (y_crefA hY_n17 rfl) (by decide +kernel) mZ_d19 fun H sl hI ho hs hk => ?_
  replace hsi_typed := hk _ _ (by decide +kernel) (by decide) hsi_typed
  replace hs10 := hk _ _ (by decide +kernel) (by decide) hs10
  replace hA_n8 := hA_n8.kept (ho _ (y_ne hY_n8 hY_this rfl))
  replace hs := hs
  have hs19 := hs
  refine lv_aload_n hx hb mZ_d22 rfl (lv_at hl 0 rfl) ?_
  refine lv_iconst hx hb mZ_d23 (v := 2) (by decide) ?_
  have ec2 : (2 : Int32).toInt = 2 := by decide
  refine y_newaC (tag := 48) (k := 2) X hY0 hI rfl rfl (by decide) (hts _ (x_bw67 5 rfl rfl)) (fun Y j => x_dfa (by decide +kernel) Y j) (by decide) (Nat.le_of_ble_eq_true rfl) (Nat.le_of_ble_eq_true rfl) mZ_d24 fun Yn H n24 hnw hct => ?_
  obtain ⟨hIn, hmo, hY_n24, hfr_n24, hke⟩ := hnw
  replace hsi_typed := y_slk hsi_typed (hke _ _ hY_this)
  replace hs10 := y_slk hs10 (hke _ _ hY_this)
  replace hs19 := y_slk hs19 (hke _ _ hY_this)
  replace hA_n8 := hA_n8.kept (hke _ _ hY_n8)
  replace hY_this := hmo _ _ hY_this
  replace hY_n8 := hmo _ _ hY_n8
  replace hY_n17 := hmo _ _ hY_n17
  replace hI := hIn
  clear hIn hmo hke
  have hA_n24 : y_A n24 2 H (fun _ => 0) := fun j hj => hct j hj
  clear hct
  refine y_putf X (fw_mZ_244 X.2.2.2.2.1 hnm) hY0 hI hY_this rfl rfl (y_crefA hY_n24 rfl) (by decide +kernel) mZ_d26 fun H sl hI ho hs hk => ?_
  replace hsi_typed := hk _ _ (by decide +kernel) (by decide) hsi_typed
  replace hs10 := hk _ _ (by decide +kernel) (by decide) hs10
  replace hs19 := hk _ _ (by decide +kernel) (by decide) hs19
  replace hA_n8 := hA_n8.kept (ho _ (y_ne hY_n8 hY_this rfl))
  replace hA_n24 := hA_n24.kept (ho _ (y_ne hY_n24 hY_this rfl))
  replace hs := hs
  have hs26 := hs
  refine lv_aload_n hx hb mZ_d29 rfl (lv_at hl 0 rfl) ?_
  refine lv_sipush hx hb mZ_d30 (v := 160) (by decide) ?_
  refine y_newaC (tag := 49) (k := 160) X hY0 hI rfl rfl (by decide) (hts _ (x_bw5 1 rfl rfl)) (fun Y j => x_dfa (by decide +kernel) Y j) (by decide) (Nat.le_of_ble_eq_true rfl) (Nat.le_of_ble_eq_true rfl) mZ_d33 fun Yn H n33 hnw hct => ?_
  obtain ⟨hIn, hmo, hY_n33, hfr_n33, hke⟩ := hnw
  replace hsi_typed := y_slk hsi_typed (hke _ _ hY_this)
  replace hs10 := y_slk hs10 (hke _ _ hY_this)
  replace hs19 := y_slk hs19 (hke _ _ hY_this)
  replace hs26 := y_slk hs26 (hke _ _ hY_this)
  replace hA_n8 := hA_n8.kept (hke _ _ hY_n8)
  replace hA_n24 := hA_n24.kept (hke _ _ hY_n24)
  replace hY_this := hmo _ _ hY_this
  replace hY_n8 := hmo _ _ hY_n8
  replace hY_n17 := hmo _ _ hY_n17
  replace hY_n24 := hmo _ _ hY_n24
  replace hI := hIn
  clear hIn hmo hke
  clear hct
  refine y_putf X (fw_mZ_245 X.2.2.2.2.1 hnm) hY0 hI hY_this rfl rfl (y_crefA hY_n33 rfl) (by decide +kernel) mZ_d35 fun H sl hI ho hs hk => ?_
  replace hsi_typed := hk _ _ (by decide +kernel) (by decide) hsi_typed
  replace hs10 := hk _ _ (by decide +kernel) (by decide) hs10
  replace hs19 := hk _ _ (by decide +kernel) (by decide) hs19
  replace hs26 := hk _ _ (by decide +kernel) (by decide) hs26
  replace hA_n8 := hA_n8.kept (ho _ (y_ne hY_n8 hY_this rfl))
  replace hA_n24 := hA_n24.kept (ho _ (y_ne hY_n24 hY_this rfl))
  replace hs := hs
  have hs35 := hs
  refine lv_aload_n hx hb mZ_d38 rfl (lv_at hl 0 rfl) ?_
  refine lv_iconst hx hb mZ_d39 (v := 3) (by decide) ?_
  have ec3 : (3 : Int32).toInt = 3 := by decide
  refine y_newaC (tag := 50) (k := 3) X hY0 hI rfl rfl (by decide) (hts _ (x_bw5 1 rfl rfl)) (fun Y j => x_dfa (by decide +kernel) Y j) (by decide) (Nat.le_of_ble_eq_true rfl) (Nat.le_of_ble_eq_true rfl) mZ_d40 fun Yn H n40 hnw hct => ?_
  obtain ⟨hIn, hmo, hY_n40, hfr_n40, hke⟩ := hnw
  replace hsi_typed := y_slk hsi_typed (hke _ _ hY_this)
  replace hs10 := y_slk hs10 (hke _ _ hY_this)
  replace hs19 := y_slk hs19 (hke _ _ hY_this)
  replace hs26 := y_slk hs26 (hke _ _ hY_this)
  replace hs35 := y_slk hs35 (hke _ _ hY_this)
  replace hA_n8 := hA_n8.kept (hke _ _ hY_n8)
  replace hA_n24 := hA_n24.kept (hke _ _ hY_n24)
  replace hY_this := hmo _ _ hY_this
  replace hY_n8 := hmo _ _ hY_n8
  replace hY_n17 := hmo _ _ hY_n17
  replace hY_n24 := hmo _ _ hY_n24
  replace hY_n33 := hmo _ _ hY_n33
  replace hI := hIn
  clear hIn hmo hke
  clear hct
  refine y_putf X (fw_mZ_246 X.2.2.2.2.1 hnm) hY0 hI hY_this rfl rfl (y_crefA hY_n40 rfl) (by decide +kernel) mZ_d42 fun H sl hI ho hs hk => ?_
  replace hsi_typed := hk _ _ (by decide +kernel) (by decide) hsi_typed
  replace hs10 := hk _ _ (by decide +kernel) (by decide) hs10
  replace hs19 := hk _ _ (by decide +kernel) (by decide) hs19
  replace hs26 := hk _ _ (by decide +kernel) (by decide) hs26
  replace hs35 := hk _ _ (by decide +kernel) (by decide) hs35
  replace hA_n8 := hA_n8.kept (ho _ (y_ne hY_n8 hY_this rfl))
  replace hA_n24 := hA_n24.kept (ho _ (y_ne hY_n24 hY_this rfl))
  replace hs := hs
  have hs42 := hs
  refine lv_aload_n hx hb mZ_d45 rfl (lv_at hl 0 rfl) ?_
  refine lv_bipush hx hb mZ_d46 (v := 10) (by decide) ?_
  have ec10 : (10 : Int32).toInt = 10 := by decide
  refine y_newaC (tag := 51) (k := 10) X hY0 hI rfl rfl (by decide) (hts _ (x_bw5 1 rfl rfl)) (fun Y j => x_dfa (by decide +kernel) Y j) (by decide) (Nat.le_of_ble_eq_true rfl) (Nat.le_of_ble_eq_true rfl) mZ_d48 fun Yn H n48 hnw hct => ?_
  obtain ⟨hIn, hmo, hY_n48, hfr_n48, hke⟩ := hnw
  replace hsi_typed := y_slk hsi_typed (hke _ _ hY_this)
  replace hs10 := y_slk hs10 (hke _ _ hY_this)
  replace hs19 := y_slk hs19 (hke _ _ hY_this)
  replace hs26 := y_slk hs26 (hke _ _ hY_this)
  replace hs35 := y_slk hs35 (hke _ _ hY_this)
  replace hs42 := y_slk hs42 (hke _ _ hY_this)
  replace hA_n8 := hA_n8.kept (hke _ _ hY_n8)
  replace hA_n24 := hA_n24.kept (hke _ _ hY_n24)
  replace hY_this := hmo _ _ hY_this
  replace hY_n8 := hmo _ _ hY_n8
  replace hY_n17 := hmo _ _ hY_n17
  replace hY_n24 := hmo _ _ hY_n24
  replace hY_n33 := hmo _ _ hY_n33
  replace hY_n40 := hmo _ _ hY_n40
  replace hI := hIn
  clear hIn hmo hke
  clear hct
  refine y_putf X (fw_mZ_247 X.2.2.2.2.1 hnm) hY0 hI hY_this rfl rfl (y_crefA hY_n48 rfl) (by decide +kernel) mZ_d50 fun H sl hI ho hs hk => ?_
  replace hsi_typed := hk _ _ (by decide +kernel) (by decide) hsi_typed
  replace hs10 := hk _ _ (by decide +kernel) (by decide) hs10
  replace hs19 := hk _ _ (by decide +kernel) (by decide) hs19
  replace hs26 := hk _ _ (by decide +kernel) (by decide) hs26
  replace hs35 := hk _ _ (by decide +kernel) (by decide) hs35
  replace hs42 := hk _ _ (by decide +kernel) (by decide) hs42
  replace hA_n8 := hA_n8.kept (ho _ (y_ne hY_n8 hY_this rfl))
  replace hA_n24 := hA_n24.kept (ho _ (y_ne hY_n24 hY_this rfl))
  replace hs := hs
  have hs50 := hs
  refine lv_aload_n hx hb mZ_d53 rfl (lv_at hl 0 rfl) ?_
  refine lv_sipush hx hb mZ_d54 (v := 240) (by decide) ?_
  have ec240 : (240 : Int32).toInt = 240 := by decide
  refine y_newaC (tag := 52) (k := 240) X hY0 hI rfl rfl (by decide) (hts _ (x_bw5 1 rfl rfl)) (fun Y j => x_dfa (by decide +kernel) Y j) (by decide) (Nat.le_of_ble_eq_true rfl) (Nat.le_of_ble_eq_true rfl) mZ_d57 fun Yn H n57 hnw hct => ?_
  obtain ⟨hIn, hmo, hY_n57, hfr_n57, hke⟩ := hnw
  replace hsi_typed := y_slk hsi_typed (hke _ _ hY_this)
  replace hs10 := y_slk hs10 (hke _ _ hY_this)
  replace hs19 := y_slk hs19 (hke _ _ hY_this)
  replace hs26 := y_slk hs26 (hke _ _ hY_this)
  replace hs35 := y_slk hs35 (hke _ _ hY_this)
  replace hs42 := y_slk hs42 (hke _ _ hY_this)
  replace hs50 := y_slk hs50 (hke _ _ hY_this)
  replace hA_n8 := hA_n8.kept (hke _ _ hY_n8)
  replace hA_n24 := hA_n24.kept (hke _ _ hY_n24)
  replace hY_this := hmo _ _ hY_this
  replace hY_n8 := hmo _ _ hY_n8
  replace hY_n17 := hmo _ _ hY_n17
  replace hY_n24 := hmo _ _ hY_n24
  replace hY_n33 := hmo _ _ hY_n33
  replace hY_n40 := hmo _ _ hY_n40
  replace hY_n48 := hmo _ _ hY_n48
  replace hI := hIn
  clear hIn hmo hke
  have hA_n57 : y_A n57 240 H (fun _ => 0) := fun j hj => hct j hj
  clear hct
  refine y_putf X (fw_mZ_248 X.2.2.2.2.1 hnm) hY0 hI hY_this rfl rfl (y_crefA hY_n57 rfl) (by decide +kernel) mZ_d59 fun H sl hI ho hs hk => ?_
  replace hsi_typed := hk _ _ (by decide +kernel) (by decide) hsi_typed
  replace hs10 := hk _ _ (by decide +kernel) (by decide) hs10
  replace hs19 := hk _ _ (by decide +kernel) (by decide) hs19
  replace hs26 := hk _ _ (by decide +kernel) (by decide) hs26
  replace hs35 := hk _ _ (by decide +kernel) (by decide) hs35
  replace hs42 := hk _ _ (by decide +kernel) (by decide) hs42
  replace hs50 := hk _ _ (by decide +kernel) (by decide) hs50
  replace hA_n8 := hA_n8.kept (ho _ (y_ne hY_n8 hY_this rfl))
  replace hA_n24 := hA_n24.kept (ho _ (y_ne hY_n24 hY_this rfl))
  replace hA_n57 := hA_n57.kept (ho _ (y_ne hY_n57 hY_this rfl))
  replace hs := hs
  have hs59 := hs
  refine lv_aload_n hx hb mZ_d62 rfl (lv_at hl 0 rfl) ?_
  refine lv_sipush hx hb mZ_d63 (v := 240) (by decide) ?_
  refine y_newaC (tag := 53) (k := 240) X hY0 hI rfl rfl (by decide) (hts _ (x_bw5 1 rfl rfl)) (fun Y j => x_dfa (by decide +kernel) Y j) (by decide) (Nat.le_of_ble_eq_true rfl) (Nat.le_of_ble_eq_true rfl) mZ_d66 fun Yn H n66 hnw hct => ?_
  obtain ⟨hIn, hmo, hY_n66, hfr_n66, hke⟩ := hnw
  replace hsi_typed := y_slk hsi_typed (hke _ _ hY_this)
  replace hs10 := y_slk hs10 (hke _ _ hY_this)
  replace hs19 := y_slk hs19 (hke _ _ hY_this)
  replace hs26 := y_slk hs26 (hke _ _ hY_this)
  replace hs35 := y_slk hs35 (hke _ _ hY_this)
  replace hs42 := y_slk hs42 (hke _ _ hY_this)
  replace hs50 := y_slk hs50 (hke _ _ hY_this)
  replace hs59 := y_slk hs59 (hke _ _ hY_this)
  replace hA_n8 := hA_n8.kept (hke _ _ hY_n8)
  replace hA_n24 := hA_n24.kept (hke _ _ hY_n24)
  replace hA_n57 := hA_n57.kept (hke _ _ hY_n57)
  replace hY_this := hmo _ _ hY_this
  replace hY_n8 := hmo _ _ hY_n8
  replace hY_n17 := hmo _ _ hY_n17
  replace hY_n24 := hmo _ _ hY_n24
  replace hY_n33 := hmo _ _ hY_n33
  replace hY_n40 := hmo _ _ hY_n40
  replace hY_n48 := hmo _ _ hY_n48
  replace hY_n57 := hmo _ _ hY_n57
  replace hI := hIn
  clear hIn hmo hke
  clear hct
  refine y_putf X (fw_mZ_249 X.2.2.2.2.1 hnm) hY0 hI hY_this rfl rfl (y_crefA hY_n66 rfl) (by decide +kernel) mZ_d68 fun H sl hI ho hs hk => ?_
  replace hsi_typed := hk _ _ (by decide +kernel) (by decide) hsi_typed
  replace hs10 := hk _ _ (by decide +kernel) (by decide) hs10
  replace hs19 := hk _ _ (by decide +kernel) (by decide) hs19
  replace hs26 := hk _ _ (by decide +kernel) (by decide) hs26
  replace hs35 := hk _ _ (by decide +kernel) (by decide) hs35
  replace hs42 := hk _ _ (by decide +kernel) (by decide) hs42
  replace hs50 := hk _ _ (by decide +kernel) (by decide) hs50
  replace hs59 := hk _ _ (by decide +kernel) (by decide) hs59
  replace hA_n8 := hA_n8.kept (ho _ (y_ne hY_n8 hY_this rfl))
  replace hA_n24 := hA_n24.kept (ho _ (y_ne hY_n24 hY_this rfl))
  replace hA_n57 := hA_n57.kept (ho _ (y_ne hY_n57 hY_this rfl))
  replace hs := hs
  have hs68 := hs
  refine lv_aload_n hx hb mZ_d71 rfl (lv_at hl 0 rfl) ?_
  refine lv_sipush hx hb mZ_d72 (v := 960) (by decide) ?_
  have ec960 : (960 : Int32).toInt = 960 := by decide
  refine y_newaC (tag := 54) (k := 960) X hY0 hI rfl rfl (by decide) (hts _ (x_bw5 1 rfl rfl)) (fun Y j => x_dfa (by decide +kernel) Y j) (by decide) (Nat.le_of_ble_eq_true rfl) (Nat.le_of_ble_eq_true rfl) mZ_d75 fun Yn H n75 hnw hct => ?_
  obtain ⟨hIn, hmo, hY_n75, hfr_n75, hke⟩ := hnw
  replace hsi_typed := y_slk hsi_typed (hke _ _ hY_this)
  replace hs10 := y_slk hs10 (hke _ _ hY_this)
  replace hs19 := y_slk hs19 (hke _ _ hY_this)
  replace hs26 := y_slk hs26 (hke _ _ hY_this)
  replace hs35 := y_slk hs35 (hke _ _ hY_this)
  replace hs42 := y_slk hs42 (hke _ _ hY_this)
  replace hs50 := y_slk hs50 (hke _ _ hY_this)
  replace hs59 := y_slk hs59 (hke _ _ hY_this)
  replace hs68 := y_slk hs68 (hke _ _ hY_this)
  replace hA_n8 := hA_n8.kept (hke _ _ hY_n8)
  replace hA_n24 := hA_n24.kept (hke _ _ hY_n24)
  replace hA_n57 := hA_n57.kept (hke _ _ hY_n57)
  replace hY_this := hmo _ _ hY_this
  replace hY_n8 := hmo _ _ hY_n8
  replace hY_n17 := hmo _ _ hY_n17
  replace hY_n24 := hmo _ _ hY_n24
  replace hY_n33 := hmo _ _ hY_n33
  replace hY_n40 := hmo _ _ hY_n40
  replace hY_n48 := hmo _ _ hY_n48
  replace hY_n57 := hmo _ _ hY_n57
  replace hY_n66 := hmo _ _ hY_n66
  replace hI := hIn
  clear hIn hmo hke
  clear hct
  refine y_putf X (fw_mZ_250 X.2.2.2.2.1 hnm) hY0 hI hY_this rfl rfl (y_crefA hY_n75 rfl) (by decide +kernel) mZ_d77 fun H sl hI ho hs hk => ?_
  replace hsi_typed := hk _ _ (by decide +kernel) (by decide) hsi_typed
  replace hs10 := hk _ _ (by decide +kernel) (by decide) hs10
  replace hs19 := hk _ _ (by decide +kernel) (by decide) hs19
  replace hs26 := hk _ _ (by decide +kernel) (by decide) hs26
  replace hs35 := hk _ _ (by decide +kernel) (by decide) hs35
  replace hs42 := hk _ _ (by decide +kernel) (by decide) hs42
  replace hs50 := hk _ _ (by decide +kernel) (by decide) hs50
  replace hs59 := hk _ _ (by decide +kernel) (by decide) hs59
  replace hs68 := hk _ _ (by decide +kernel) (by decide) hs68
  replace hA_n8 := hA_n8.kept (ho _ (y_ne hY_n8 hY_this rfl))
  replace hA_n24 := hA_n24.kept (ho _ (y_ne hY_n24 hY_this rfl))
  replace hA_n57 := hA_n57.kept (ho _ (y_ne hY_n57 hY_this rfl))
  replace hs := hs
  have hs77 := hs
  refine lv_aload_n hx hb mZ_d80 rfl (lv_at hl 0 rfl) ?_
  refine lv_sipush hx hb mZ_d81 (v := 1024) (by decide) ?_
  have ec1024 : (1024 : Int32).toInt = 1024 := by decide
  refine y_newaC (tag := 55) (k := 1024) X hY0 hI rfl rfl (by decide) (hts _ (x_bw67 5 rfl rfl)) (fun Y j => x_dfa (by decide +kernel) Y j) (by decide) (Nat.le_of_ble_eq_true rfl) (Nat.le_of_ble_eq_true rfl) mZ_d84 fun Yn H n84 hnw hct => ?_
  obtain ⟨hIn, hmo, hY_n84, hfr_n84, hke⟩ := hnw
  replace hsi_typed := y_slk hsi_typed (hke _ _ hY_this)
  replace hs10 := y_slk hs10 (hke _ _ hY_this)
  replace hs19 := y_slk hs19 (hke _ _ hY_this)
  replace hs26 := y_slk hs26 (hke _ _ hY_this)
  replace hs35 := y_slk hs35 (hke _ _ hY_this)
  replace hs42 := y_slk hs42 (hke _ _ hY_this)
  replace hs50 := y_slk hs50 (hke _ _ hY_this)
  replace hs59 := y_slk hs59 (hke _ _ hY_this)
  replace hs68 := y_slk hs68 (hke _ _ hY_this)
  replace hs77 := y_slk hs77 (hke _ _ hY_this)
  replace hA_n8 := hA_n8.kept (hke _ _ hY_n8)
  replace hA_n24 := hA_n24.kept (hke _ _ hY_n24)
  replace hA_n57 := hA_n57.kept (hke _ _ hY_n57)
  replace hY_this := hmo _ _ hY_this
  replace hY_n8 := hmo _ _ hY_n8
  replace hY_n17 := hmo _ _ hY_n17
  replace hY_n24 := hmo _ _ hY_n24
  replace hY_n33 := hmo _ _ hY_n33
  replace hY_n40 := hmo _ _ hY_n40
  replace hY_n48 := hmo _ _ hY_n48
  replace hY_n57 := hmo _ _ hY_n57
  replace hY_n66 := hmo _ _ hY_n66
  replace hY_n75 := hmo _ _ hY_n75
  replace hI := hIn
  clear hIn hmo hke
  clear hct
  refine y_putf X (fw_mZ_251 X.2.2.2.2.1 hnm) hY0 hI hY_this rfl rfl (y_crefA hY_n84 rfl) (by decide +kernel) mZ_d86 fun H sl hI ho hs hk => ?_
  replace hsi_typed := hk _ _ (by decide +kernel) (by decide) hsi_typed
  replace hs10 := hk _ _ (by decide +kernel) (by decide) hs10
  replace hs19 := hk _ _ (by decide +kernel) (by decide) hs19
  replace hs26 := hk _ _ (by decide +kernel) (by decide) hs26
  replace hs35 := hk _ _ (by decide +kernel) (by decide) hs35
  replace hs42 := hk _ _ (by decide +kernel) (by decide) hs42
  replace hs50 := hk _ _ (by decide +kernel) (by decide) hs50
  replace hs59 := hk _ _ (by decide +kernel) (by decide) hs59
  replace hs68 := hk _ _ (by decide +kernel) (by decide) hs68
  replace hs77 := hk _ _ (by decide +kernel) (by decide) hs77
  replace hA_n8 := hA_n8.kept (ho _ (y_ne hY_n8 hY_this rfl))
  replace hA_n24 := hA_n24.kept (ho _ (y_ne hY_n24 hY_this rfl))
  replace hA_n57 := hA_n57.kept (ho _ (y_ne hY_n57 hY_this rfl))
  replace hs := hs
  have hs86 := hs
  refine lv_aload_n hx hb mZ_d89 rfl (lv_at hl 0 rfl) ?_
  refine lv_sipush hx hb mZ_d90 (v := 1024) (by decide) ?_
  refine y_newaC (tag := 56) (k := 1024) X hY0 hI rfl rfl (by decide) (hts _ (x_bw5 1 rfl rfl)) (fun Y j => x_dfa (by decide +kernel) Y j) (by decide) (Nat.le_of_ble_eq_true rfl) (Nat.le_of_ble_eq_true rfl) mZ_d93 fun Yn H n93 hnw hct => ?_
  obtain ⟨hIn, hmo, hY_n93, hfr_n93, hke⟩ := hnw
  replace hsi_typed := y_slk hsi_typed (hke _ _ hY_this)
  replace hs10 := y_slk hs10 (hke _ _ hY_this)
  replace hs19 := y_slk hs19 (hke _ _ hY_this)
  replace hs26 := y_slk hs26 (hke _ _ hY_this)
  replace hs35 := y_slk hs35 (hke _ _ hY_this)
  replace hs42 := y_slk hs42 (hke _ _ hY_this)
  replace hs50 := y_slk hs50 (hke _ _ hY_this)
  replace hs59 := y_slk hs59 (hke _ _ hY_this)
  replace hs68 := y_slk hs68 (hke _ _ hY_this)
  replace hs77 := y_slk hs77 (hke _ _ hY_this)
  replace hs86 := y_slk hs86 (hke _ _ hY_this)
  replace hA_n8 := hA_n8.kept (hke _ _ hY_n8)
  replace hA_n24 := hA_n24.kept (hke _ _ hY_n24)
  replace hA_n57 := hA_n57.kept (hke _ _ hY_n57)
  replace hY_this := hmo _ _ hY_this
  replace hY_n8 := hmo _ _ hY_n8
  replace hY_n17 := hmo _ _ hY_n17
  replace hY_n24 := hmo _ _ hY_n24
  replace hY_n33 := hmo _ _ hY_n33
  replace hY_n40 := hmo _ _ hY_n40
  replace hY_n48 := hmo _ _ hY_n48
  replace hY_n57 := hmo _ _ hY_n57
  replace hY_n66 := hmo _ _ hY_n66
  replace hY_n75 := hmo _ _ hY_n75
  replace hY_n84 := hmo _ _ hY_n84
  replace hI := hIn
  clear hIn hmo hke
  clear hct
  refine y_putf X (fw_mZ_252 X.2.2.2.2.1 hnm) hY0 hI hY_this rfl rfl (y_crefA hY_n93 rfl) (by decide +kernel) mZ_d95 fun H sl hI ho hs hk => ?_
  replace hsi_typed := hk _ _ (by decide +kernel) (by decide) hsi_typed
  replace hs10 := hk _ _ (by decide +kernel) (by decide) hs10
  replace hs19 := hk _ _ (by decide +kernel) (by decide) hs19
  replace hs26 := hk _ _ (by decide +kernel) (by decide) hs26
  replace hs35 := hk _ _ (by decide +kernel) (by decide) hs35
  replace hs42 := hk _ _ (by decide +kernel) (by decide) hs42
  replace hs50 := hk _ _ (by decide +kernel) (by decide) hs50
  replace hs59 := hk _ _ (by decide +kernel) (by decide) hs59
  replace hs68 := hk _ _ (by decide +kernel) (by decide) hs68
  replace hs77 := hk _ _ (by decide +kernel) (by decide) hs77
  replace hs86 := hk _ _ (by decide +kernel) (by decide) hs86
  replace hA_n8 := hA_n8.kept (ho _ (y_ne hY_n8 hY_this rfl))
  replace hA_n24 := hA_n24.kept (ho _ (y_ne hY_n24 hY_this rfl))
  replace hA_n57 := hA_n57.kept (ho _ (y_ne hY_n57 hY_this rfl))
  replace hs := hs
  have hs95 := hs
  refine lv_aload_n hx hb mZ_d98 rfl (lv_at hl 0 rfl) ?_
  refine lv_sipush hx hb mZ_d99 (v := 1024) (by decide) ?_
  refine y_newaC (tag := 57) (k := 1024) X hY0 hI rfl rfl (by decide) (hts _ (x_bw5 1 rfl rfl)) (fun Y j => x_dfa (by decide +kernel) Y j) (by decide) (Nat.le_of_ble_eq_true rfl) (Nat.le_of_ble_eq_true rfl) mZ_d102 fun Yn H n102 hnw hct => ?_
  obtain ⟨hIn, hmo, hY_n102, hfr_n102, hke⟩ := hnw
  replace hsi_typed := y_slk hsi_typed (hke _ _ hY_this)
  replace hs10 := y_slk hs10 (hke _ _ hY_this)
  replace hs19 := y_slk hs19 (hke _ _ hY_this)
  replace hs26 := y_slk hs26 (hke _ _ hY_this)
  replace hs35 := y_slk hs35 (hke _ _ hY_this)
  replace hs42 := y_slk hs42 (hke _ _ hY_this)
  replace hs50 := y_slk hs50 (hke _ _ hY_this)
  replace hs59 := y_slk hs59 (hke _ _ hY_this)
  replace hs68 := y_slk hs68 (hke _ _ hY_this)
  replace hs77 := y_slk hs77 (hke _ _ hY_this)
  replace hs86 := y_slk hs86 (hke _ _ hY_this)
  replace hs95 := y_slk hs95 (hke _ _ hY_this)
  replace hA_n8 := hA_n8.kept (hke _ _ hY_n8)
  replace hA_n24 := hA_n24.kept (hke _ _ hY_n24)
  replace hA_n57 := hA_n57.kept (hke _ _ hY_n57)
  replace hY_this := hmo _ _ hY_this
  replace hY_n8 := hmo _ _ hY_n8
  replace hY_n17 := hmo _ _ hY_n17
  replace hY_n24 := hmo _ _ hY_n24
  replace hY_n33 := hmo _ _ hY_n33
  replace hY_n40 := hmo _ _ hY_n40
  replace hY_n48 := hmo _ _ hY_n48
  replace hY_n57 := hmo _ _ hY_n57
  replace hY_n66 := hmo _ _ hY_n66
  replace hY_n75 := hmo _ _ hY_n75
  replace hY_n84 := hmo _ _ hY_n84
  replace hY_n93 := hmo _ _ hY_n93
  replace hI := hIn
  clear hIn hmo hke
  clear hct
  refine y_putf X (fw_mZ_253 X.2.2.2.2.1 hnm) hY0 hI hY_this rfl rfl (y_crefA hY_n102 rfl) (by decide +kernel) mZ_d104 fun H sl hI ho hs hk => ?_
  replace hsi_typed := hk _ _ (by decide +kernel) (by decide) hsi_typed
  replace hs10 := hk _ _ (by decide +kernel) (by decide) hs10
  replace hs19 := hk _ _ (by decide +kernel) (by decide) hs19
  replace hs26 := hk _ _ (by decide +kernel) (by decide) hs26
  replace hs35 := hk _ _ (by decide +kernel) (by decide) hs35
  replace hs42 := hk _ _ (by decide +kernel) (by decide) hs42
  replace hs50 := hk _ _ (by decide +kernel) (by decide) hs50
  replace hs59 := hk _ _ (by decide +kernel) (by decide) hs59
  replace hs68 := hk _ _ (by decide +kernel) (by decide) hs68
  replace hs77 := hk _ _ (by decide +kernel) (by decide) hs77
  replace hs86 := hk _ _ (by decide +kernel) (by decide) hs86
  replace hs95 := hk _ _ (by decide +kernel) (by decide) hs95
  replace hA_n8 := hA_n8.kept (ho _ (y_ne hY_n8 hY_this rfl))
  replace hA_n24 := hA_n24.kept (ho _ (y_ne hY_n24 hY_this rfl))
  replace hA_n57 := hA_n57.kept (ho _ (y_ne hY_n57 hY_this rfl))
  replace hs := hs
  have hs104 := hs
  refine lv_aload_n hx hb mZ_d107 rfl (lv_at hl 0 rfl) ?_
  refine lv_sipush hx hb mZ_d108 (v := 1024) (by decide) ?_
  refine y_newaC (tag := 58) (k := 1024) X hY0 hI rfl rfl (by decide) (hts _ (x_bw67 5 rfl rfl)) (fun Y j => x_dfa (by decide +kernel) Y j) (by decide) (Nat.le_of_ble_eq_true rfl) (Nat.le_of_ble_eq_true rfl) mZ_d111 fun Yn H n111 hnw hct => ?_
  obtain ⟨hIn, hmo, hY_n111, hfr_n111, hke⟩ := hnw
  replace hsi_typed := y_slk hsi_typed (hke _ _ hY_this)
  replace hs10 := y_slk hs10 (hke _ _ hY_this)
  replace hs19 := y_slk hs19 (hke _ _ hY_this)
  replace hs26 := y_slk hs26 (hke _ _ hY_this)
  replace hs35 := y_slk hs35 (hke _ _ hY_this)
  replace hs42 := y_slk hs42 (hke _ _ hY_this)
  replace hs50 := y_slk hs50 (hke _ _ hY_this)
  replace hs59 := y_slk hs59 (hke _ _ hY_this)
  replace hs68 := y_slk hs68 (hke _ _ hY_this)
  replace hs77 := y_slk hs77 (hke _ _ hY_this)
  replace hs86 := y_slk hs86 (hke _ _ hY_this)
  replace hs95 := y_slk hs95 (hke _ _ hY_this)
  replace hs104 := y_slk hs104 (hke _ _ hY_this)
  replace hA_n8 := hA_n8.kept (hke _ _ hY_n8)
  replace hA_n24 := hA_n24.kept (hke _ _ hY_n24)
  replace hA_n57 := hA_n57.kept (hke _ _ hY_n57)
  replace hY_this := hmo _ _ hY_this
  replace hY_n8 := hmo _ _ hY_n8
  replace hY_n17 := hmo _ _ hY_n17
  replace hY_n24 := hmo _ _ hY_n24
  replace hY_n33 := hmo _ _ hY_n33
  replace hY_n40 := hmo _ _ hY_n40
  replace hY_n48 := hmo _ _ hY_n48
  replace hY_n57 := hmo _ _ hY_n57
  replace hY_n66 := hmo _ _ hY_n66
  replace hY_n75 := hmo _ _ hY_n75
  replace hY_n84 := hmo _ _ hY_n84
  replace hY_n93 := hmo _ _ hY_n93
  replace hY_n102 := hmo _ _ hY_n102
  replace hI := hIn
  clear hIn hmo hke
  clear hct
  refine y_putf X (fw_mZ_254 X.2.2.2.2.1 hnm) hY0 hI hY_this rfl rfl (y_crefA hY_n111 rfl) (by decide +kernel) mZ_d113 fun H sl hI ho hs hk => ?_
  replace hsi_typed := hk _ _ (by decide +kernel) (by decide) hsi_typed
  replace hs10 := hk _ _ (by decide +kernel) (by decide) hs10
  replace hs19 := hk _ _ (by decide +kernel) (by decide) hs19
  replace hs26 := hk _ _ (by decide +kernel) (by decide) hs26
  replace hs35 := hk _ _ (by decide +kernel) (by decide) hs35
  replace hs42 := hk _ _ (by decide +kernel) (by decide) hs42
  replace hs50 := hk _ _ (by decide +kernel) (by decide) hs50
  replace hs59 := hk _ _ (by decide +kernel) (by decide) hs59
  replace hs68 := hk _ _ (by decide +kernel) (by decide) hs68
  replace hs77 := hk _ _ (by decide +kernel) (by decide) hs77
  replace hs86 := hk _ _ (by decide +kernel) (by decide) hs86
  replace hs95 := hk _ _ (by decide +kernel) (by decide) hs95
  replace hs104 := hk _ _ (by decide +kernel) (by decide) hs104
  replace hA_n8 := hA_n8.kept (ho _ (y_ne hY_n8 hY_this rfl))
  replace hA_n24 := hA_n24.kept (ho _ (y_ne hY_n24 hY_this rfl))
  replace hA_n57 := hA_n57.kept (ho _ (y_ne hY_n57 hY_this rfl))
  replace hs := hs
  have hs113 := hs
  refine lv_aload_n hx hb mZ_d116 rfl (lv_at hl 0 rfl) ?_
  refine lv_sipush hx hb mZ_d117 (v := 12288) (by decide) ?_
  have ec12288 : (12288 : Int32).toInt = 12288 := by decide
  refine y_newaC (tag := 59) (k := 12288) X hY0 hI rfl rfl (by decide) (hts _ (x_bw67 5 rfl rfl)) (fun Y j => x_dfa (by decide +kernel) Y j) (by decide) (Nat.le_of_ble_eq_true rfl) (Nat.le_of_ble_eq_true rfl) mZ_d120 fun Yn H n120 hnw hct => ?_
  obtain ⟨hIn, hmo, hY_n120, hfr_n120, hke⟩ := hnw
  replace hsi_typed := y_slk hsi_typed (hke _ _ hY_this)
  replace hs10 := y_slk hs10 (hke _ _ hY_this)
  replace hs19 := y_slk hs19 (hke _ _ hY_this)
  replace hs26 := y_slk hs26 (hke _ _ hY_this)
  replace hs35 := y_slk hs35 (hke _ _ hY_this)
  replace hs42 := y_slk hs42 (hke _ _ hY_this)
  replace hs50 := y_slk hs50 (hke _ _ hY_this)
  replace hs59 := y_slk hs59 (hke _ _ hY_this)
  replace hs68 := y_slk hs68 (hke _ _ hY_this)
  replace hs77 := y_slk hs77 (hke _ _ hY_this)
  replace hs86 := y_slk hs86 (hke _ _ hY_this)
  replace hs95 := y_slk hs95 (hke _ _ hY_this)
  replace hs104 := y_slk hs104 (hke _ _ hY_this)
  replace hs113 := y_slk hs113 (hke _ _ hY_this)
  replace hA_n8 := hA_n8.kept (hke _ _ hY_n8)
  replace hA_n24 := hA_n24.kept (hke _ _ hY_n24)
  replace hA_n57 := hA_n57.kept (hke _ _ hY_n57)
  replace hY_this := hmo _ _ hY_this
  replace hY_n8 := hmo _ _ hY_n8
  replace hY_n17 := hmo _ _ hY_n17
  replace hY_n24 := hmo _ _ hY_n24
  replace hY_n33 := hmo _ _ hY_n33
  replace hY_n40 := hmo _ _ hY_n40
  replace hY_n48 := hmo _ _ hY_n48
  replace hY_n57 := hmo _ _ hY_n57
  replace hY_n66 := hmo _ _ hY_n66
  replace hY_n75 := hmo _ _ hY_n75
  replace hY_n84 := hmo _ _ hY_n84
  replace hY_n93 := hmo _ _ hY_n93
  replace hY_n102 := hmo _ _ hY_n102
  replace hY_n111 := hmo _ _ hY_n111
  replace hI := hIn
  clear hIn hmo hke
  clear hct
  refine y_putf X (fw_mZ_255 X.2.2.2.2.1 hnm) hY0 hI hY_this rfl rfl (y_crefA hY_n120 rfl) (by decide +kernel) mZ_d122 fun H sl hI ho hs hk => ?_
  replace hsi_typed := hk _ _ (by decide +kernel) (by decide) hsi_typed
  replace hs10 := hk _ _ (by decide +kernel) (by decide) hs10
  replace hs19 := hk _ _ (by decide +kernel) (by decide) hs19
  replace hs26 := hk _ _ (by decide +kernel) (by decide) hs26
  replace hs35 := hk _ _ (by decide +kernel) (by decide) hs35
  replace hs42 := hk _ _ (by decide +kernel) (by decide) hs42
  replace hs50 := hk _ _ (by decide +kernel) (by decide) hs50
  replace hs59 := hk _ _ (by decide +kernel) (by decide) hs59
  replace hs68 := hk _ _ (by decide +kernel) (by decide) hs68
  replace hs77 := hk _ _ (by decide +kernel) (by decide) hs77
  replace hs86 := hk _ _ (by decide +kernel) (by decide) hs86
  replace hs95 := hk _ _ (by decide +kernel) (by decide) hs95
  replace hs104 := hk _ _ (by decide +kernel) (by decide) hs104
  replace hs113 := hk _ _ (by decide +kernel) (by decide) hs113
  replace hA_n8 := hA_n8.kept (ho _ (y_ne hY_n8 hY_this rfl))
  replace hA_n24 := hA_n24.kept (ho _ (y_ne hY_n24 hY_this rfl))
  replace hA_n57 := hA_n57.kept (ho _ (y_ne hY_n57 hY_this rfl))
  replace hs := hs
  have hs122 := hs
  refine lv_aload_n hx hb mZ_d125 rfl (lv_at hl 0 rfl) ?_
  refine lv_sipush hx hb mZ_d126 (v := 12288) (by decide) ?_
  refine y_newaC (tag := 60) (k := 12288) X hY0 hI rfl rfl (by decide) (hts _ (x_bw67 5 rfl rfl)) (fun Y j => x_dfa (by decide +kernel) Y j) (by decide) (Nat.le_of_ble_eq_true rfl) (Nat.le_of_ble_eq_true rfl) mZ_d129 fun Yn H n129 hnw hct => ?_
  obtain ⟨hIn, hmo, hY_n129, hfr_n129, hke⟩ := hnw
  replace hsi_typed := y_slk hsi_typed (hke _ _ hY_this)
  replace hs10 := y_slk hs10 (hke _ _ hY_this)
  replace hs19 := y_slk hs19 (hke _ _ hY_this)
  replace hs26 := y_slk hs26 (hke _ _ hY_this)
  replace hs35 := y_slk hs35 (hke _ _ hY_this)
  replace hs42 := y_slk hs42 (hke _ _ hY_this)
  replace hs50 := y_slk hs50 (hke _ _ hY_this)
  replace hs59 := y_slk hs59 (hke _ _ hY_this)
  replace hs68 := y_slk hs68 (hke _ _ hY_this)
  replace hs77 := y_slk hs77 (hke _ _ hY_this)
  replace hs86 := y_slk hs86 (hke _ _ hY_this)
  replace hs95 := y_slk hs95 (hke _ _ hY_this)
  replace hs104 := y_slk hs104 (hke _ _ hY_this)
  replace hs113 := y_slk hs113 (hke _ _ hY_this)
  replace hs122 := y_slk hs122 (hke _ _ hY_this)
  replace hA_n8 := hA_n8.kept (hke _ _ hY_n8)
  replace hA_n24 := hA_n24.kept (hke _ _ hY_n24)
  replace hA_n57 := hA_n57.kept (hke _ _ hY_n57)
  replace hY_this := hmo _ _ hY_this
  replace hY_n8 := hmo _ _ hY_n8
  replace hY_n17 := hmo _ _ hY_n17
  replace hY_n24 := hmo _ _ hY_n24
  replace hY_n33 := hmo _ _ hY_n33
  replace hY_n40 := hmo _ _ hY_n40
  replace hY_n48 := hmo _ _ hY_n48
  replace hY_n57 := hmo _ _ hY_n57
  replace hY_n66 := hmo _ _ hY_n66
  replace hY_n75 := hmo _ _ hY_n75
  replace hY_n84 := hmo _ _ hY_n84
  replace hY_n93 := hmo _ _ hY_n93
  replace hY_n102 := hmo _ _ hY_n102
  replace hY_n111 := hmo _ _ hY_n111
  replace hY_n120 := hmo _ _ hY_n120
  replace hI := hIn
  clear hIn hmo hke
  clear hct
  refine y_putf X (fw_mZ_256 X.2.2.2.2.1 hnm) hY0 hI hY_this rfl rfl (y_crefA hY_n129 rfl) (by decide +kernel) mZ_d131 fun H sl hI ho hs hk => ?_
  replace hsi_typed := hk _ _ (by decide +kernel) (by decide) hsi_typed
  replace hs10 := hk _ _ (by decide +kernel) (by decide) hs10
  replace hs19 := hk _ _ (by decide +kernel) (by decide) hs19
  replace hs26 := hk _ _ (by decide +kernel) (by decide) hs26
  replace hs35 := hk _ _ (by decide +kernel) (by decide) hs35
  replace hs42 := hk _ _ (by decide +kernel) (by decide) hs42
  replace hs50 := hk _ _ (by decide +kernel) (by decide) hs50
  replace hs59 := hk _ _ (by decide +kernel) (by decide) hs59
  replace hs68 := hk _ _ (by decide +kernel) (by decide) hs68
  replace hs77 := hk _ _ (by decide +kernel) (by decide) hs77
  replace hs86 := hk _ _ (by decide +kernel) (by decide) hs86
  replace hs95 := hk _ _ (by decide +kernel) (by decide) hs95
  replace hs104 := hk _ _ (by decide +kernel) (by decide) hs104
  replace hs113 := hk _ _ (by decide +kernel) (by decide) hs113
  replace hs122 := hk _ _ (by decide +kernel) (by decide) hs122
  replace hA_n8 := hA_n8.kept (ho _ (y_ne hY_n8 hY_this rfl))
  replace hA_n24 := hA_n24.kept (ho _ (y_ne hY_n24 hY_this rfl))
  replace hA_n57 := hA_n57.kept (ho _ (y_ne hY_n57 hY_this rfl))
  replace hs := hs
  have hs131 := hs
  refine lv_aload_n hx hb mZ_d134 rfl (lv_at hl 0 rfl) ?_
  refine lv_sipush hx hb mZ_d135 (v := 12288) (by decide) ?_
  refine y_newaC (tag := 61) (k := 12288) X hY0 hI rfl rfl (by decide) (hts _ (x_bw67 5 rfl rfl)) (fun Y j => x_dfa (by decide +kernel) Y j) (by decide) (Nat.le_of_ble_eq_true rfl) (Nat.le_of_ble_eq_true rfl) mZ_d138 fun Yn H n138 hnw hct => ?_
  obtain ⟨hIn, hmo, hY_n138, hfr_n138, hke⟩ := hnw
  replace hsi_typed := y_slk hsi_typed (hke _ _ hY_this)
  replace hs10 := y_slk hs10 (hke _ _ hY_this)
  replace hs19 := y_slk hs19 (hke _ _ hY_this)
  replace hs26 := y_slk hs26 (hke _ _ hY_this)
  replace hs35 := y_slk hs35 (hke _ _ hY_this)
  replace hs42 := y_slk hs42 (hke _ _ hY_this)
  replace hs50 := y_slk hs50 (hke _ _ hY_this)
  replace hs59 := y_slk hs59 (hke _ _ hY_this)
  replace hs68 := y_slk hs68 (hke _ _ hY_this)
  replace hs77 := y_slk hs77 (hke _ _ hY_this)
  replace hs86 := y_slk hs86 (hke _ _ hY_this)
  replace hs95 := y_slk hs95 (hke _ _ hY_this)
  replace hs104 := y_slk hs104 (hke _ _ hY_this)
  replace hs113 := y_slk hs113 (hke _ _ hY_this)
  replace hs122 := y_slk hs122 (hke _ _ hY_this)
  replace hs131 := y_slk hs131 (hke _ _ hY_this)
  replace hA_n8 := hA_n8.kept (hke _ _ hY_n8)
  replace hA_n24 := hA_n24.kept (hke _ _ hY_n24)
  replace hA_n57 := hA_n57.kept (hke _ _ hY_n57)
  replace hY_this := hmo _ _ hY_this
  replace hY_n8 := hmo _ _ hY_n8
  replace hY_n17 := hmo _ _ hY_n17
  replace hY_n24 := hmo _ _ hY_n24
  replace hY_n33 := hmo _ _ hY_n33
  replace hY_n40 := hmo _ _ hY_n40
  replace hY_n48 := hmo _ _ hY_n48
  replace hY_n57 := hmo _ _ hY_n57
  replace hY_n66 := hmo _ _ hY_n66
  replace hY_n75 := hmo _ _ hY_n75
  replace hY_n84 := hmo _ _ hY_n84
  replace hY_n93 := hmo _ _ hY_n93
  replace hY_n102 := hmo _ _ hY_n102
  replace hY_n111 := hmo _ _ hY_n111
  replace hY_n120 := hmo _ _ hY_n120
  replace hY_n129 := hmo _ _ hY_n129
  replace hI := hIn
  clear hIn hmo hke
  clear hct
  refine y_putf X (fw_mZ_257 X.2.2.2.2.1 hnm) hY0 hI hY_this rfl rfl (y_crefA hY_n138 rfl) (by decide +kernel) mZ_d140 fun H sl hI ho hs hk => ?_
  replace hsi_typed := hk _ _ (by decide +kernel) (by decide) hsi_typed
  replace hs10 := hk _ _ (by decide +kernel) (by decide) hs10
  replace hs19 := hk _ _ (by decide +kernel) (by decide) hs19
  replace hs26 := hk _ _ (by decide +kernel) (by decide) hs26
  replace hs35 := hk _ _ (by decide +kernel) (by decide) hs35
  replace hs42 := hk _ _ (by decide +kernel) (by decide) hs42
  replace hs50 := hk _ _ (by decide +kernel) (by decide) hs50
  replace hs59 := hk _ _ (by decide +kernel) (by decide) hs59
  replace hs68 := hk _ _ (by decide +kernel) (by decide) hs68
  replace hs77 := hk _ _ (by decide +kernel) (by decide) hs77
  replace hs86 := hk _ _ (by decide +kernel) (by decide) hs86
  replace hs95 := hk _ _ (by decide +kernel) (by decide) hs95
  replace hs104 := hk _ _ (by decide +kernel) (by decide) hs104
  replace hs113 := hk _ _ (by decide +kernel) (by decide) hs113
  replace hs122 := hk _ _ (by decide +kernel) (by decide) hs122
  replace hs131 := hk _ _ (by decide +kernel) (by decide) hs131
  replace hA_n8 := hA_n8.kept (ho _ (y_ne hY_n8 hY_this rfl))
  replace hA_n24 := hA_n24.kept (ho _ (y_ne hY_n24 hY_this rfl))
  replace hA_n57 := hA_n57.kept (ho _ (y_ne hY_n57 hY_this rfl))
  replace hs := hs
  have hs140 := hs
  refine lv_aload_n hx hb mZ_d143 rfl (lv_at hl 0 rfl) ?_
  refine lv_sipush hx hb mZ_d144 (v := 9216) (by decide) ?_
  have ec9216 : (9216 : Int32).toInt = 9216 := by decide
  refine y_newaC (tag := 62) (k := 9216) X hY0 hI rfl rfl (by decide) (hts _ (x_bw5 1 rfl rfl)) (fun Y j => x_dfa (by decide +kernel) Y j) (by decide) (Nat.le_of_ble_eq_true rfl) (Nat.le_of_ble_eq_true rfl) mZ_d147 fun Yn H n147 hnw hct => ?_
  obtain ⟨hIn, hmo, hY_n147, hfr_n147, hke⟩ := hnw
  replace hsi_typed := y_slk hsi_typed (hke _ _ hY_this)
  replace hs10 := y_slk hs10 (hke _ _ hY_this)
  replace hs19 := y_slk hs19 (hke _ _ hY_this)
  replace hs26 := y_slk hs26 (hke _ _ hY_this)
  replace hs35 := y_slk hs35 (hke _ _ hY_this)
  replace hs42 := y_slk hs42 (hke _ _ hY_this)
  replace hs50 := y_slk hs50 (hke _ _ hY_this)
  replace hs59 := y_slk hs59 (hke _ _ hY_this)
  replace hs68 := y_slk hs68 (hke _ _ hY_this)
  replace hs77 := y_slk hs77 (hke _ _ hY_this)
  replace hs86 := y_slk hs86 (hke _ _ hY_this)
  replace hs95 := y_slk hs95 (hke _ _ hY_this)
  replace hs104 := y_slk hs104 (hke _ _ hY_this)
  replace hs113 := y_slk hs113 (hke _ _ hY_this)
  replace hs122 := y_slk hs122 (hke _ _ hY_this)
  replace hs131 := y_slk hs131 (hke _ _ hY_this)
  replace hs140 := y_slk hs140 (hke _ _ hY_this)
  replace hA_n8 := hA_n8.kept (hke _ _ hY_n8)
  replace hA_n24 := hA_n24.kept (hke _ _ hY_n24)
  replace hA_n57 := hA_n57.kept (hke _ _ hY_n57)
  replace hY_this := hmo _ _ hY_this
  replace hY_n8 := hmo _ _ hY_n8
  replace hY_n17 := hmo _ _ hY_n17
  replace hY_n24 := hmo _ _ hY_n24
  replace hY_n33 := hmo _ _ hY_n33
  replace hY_n40 := hmo _ _ hY_n40
  replace hY_n48 := hmo _ _ hY_n48
  replace hY_n57 := hmo _ _ hY_n57
  replace hY_n66 := hmo _ _ hY_n66
  replace hY_n75 := hmo _ _ hY_n75
  replace hY_n84 := hmo _ _ hY_n84
  replace hY_n93 := hmo _ _ hY_n93
  replace hY_n102 := hmo _ _ hY_n102
  replace hY_n111 := hmo _ _ hY_n111
  replace hY_n120 := hmo _ _ hY_n120
  replace hY_n129 := hmo _ _ hY_n129
  replace hY_n138 := hmo _ _ hY_n138
  replace hI := hIn
  clear hIn hmo hke
  clear hct
  refine y_putf X (fw_mZ_258 X.2.2.2.2.1 hnm) hY0 hI hY_this rfl rfl (y_crefA hY_n147 rfl) (by decide +kernel) mZ_d149 fun H sl hI ho hs hk => ?_
  replace hsi_typed := hk _ _ (by decide +kernel) (by decide) hsi_typed
  replace hs10 := hk _ _ (by decide +kernel) (by decide) hs10
  replace hs19 := hk _ _ (by decide +kernel) (by decide) hs19
  replace hs26 := hk _ _ (by decide +kernel) (by decide) hs26
  replace hs35 := hk _ _ (by decide +kernel) (by decide) hs35
  replace hs42 := hk _ _ (by decide +kernel) (by decide) hs42
  replace hs50 := hk _ _ (by decide +kernel) (by decide) hs50
  replace hs59 := hk _ _ (by decide +kernel) (by decide) hs59
  replace hs68 := hk _ _ (by decide +kernel) (by decide) hs68
  replace hs77 := hk _ _ (by decide +kernel) (by decide) hs77
  replace hs86 := hk _ _ (by decide +kernel) (by decide) hs86
  replace hs95 := hk _ _ (by decide +kernel) (by decide) hs95
  replace hs104 := hk _ _ (by decide +kernel) (by decide) hs104
  replace hs113 := hk _ _ (by decide +kernel) (by decide) hs113
  replace hs122 := hk _ _ (by decide +kernel) (by decide) hs122
  replace hs131 := hk _ _ (by decide +kernel) (by decide) hs131
  replace hs140 := hk _ _ (by decide +kernel) (by decide) hs140
  replace hA_n8 := hA_n8.kept (ho _ (y_ne hY_n8 hY_this rfl))
  replace hA_n24 := hA_n24.kept (ho _ (y_ne hY_n24 hY_this rfl))
  replace hA_n57 := hA_n57.kept (ho _ (y_ne hY_n57 hY_this rfl))
  replace hs := hs
  have hs149 := hs
  refine lv_aload_n hx hb mZ_d152 rfl (lv_at hl 0 rfl) ?_
  refine lv_sipush hx hb mZ_d153 (v := 9216) (by decide) ?_
  refine y_newaC (tag := 63) (k := 9216) X hY0 hI rfl rfl (by decide) (hts _ (x_bw5 1 rfl rfl)) (fun Y j => x_dfa (by decide +kernel) Y j) (by decide) (Nat.le_of_ble_eq_true rfl) (Nat.le_of_ble_eq_true rfl) mZ_d156 fun Yn H n156 hnw hct => ?_
  obtain ⟨hIn, hmo, hY_n156, hfr_n156, hke⟩ := hnw
  replace hsi_typed := y_slk hsi_typed (hke _ _ hY_this)
  replace hs10 := y_slk hs10 (hke _ _ hY_this)
  replace hs19 := y_slk hs19 (hke _ _ hY_this)
  replace hs26 := y_slk hs26 (hke _ _ hY_this)
  replace hs35 := y_slk hs35 (hke _ _ hY_this)
  replace hs42 := y_slk hs42 (hke _ _ hY_this)
  replace hs50 := y_slk hs50 (hke _ _ hY_this)
  replace hs59 := y_slk hs59 (hke _ _ hY_this)
  replace hs68 := y_slk hs68 (hke _ _ hY_this)
  replace hs77 := y_slk hs77 (hke _ _ hY_this)
  replace hs86 := y_slk hs86 (hke _ _ hY_this)
  replace hs95 := y_slk hs95 (hke _ _ hY_this)
  replace hs104 := y_slk hs104 (hke _ _ hY_this)
  replace hs113 := y_slk hs113 (hke _ _ hY_this)
  replace hs122 := y_slk hs122 (hke _ _ hY_this)
  replace hs131 := y_slk hs131 (hke _ _ hY_this)
  replace hs140 := y_slk hs140 (hke _ _ hY_this)
  replace hs149 := y_slk hs149 (hke _ _ hY_this)
  replace hA_n8 := hA_n8.kept (hke _ _ hY_n8)
  replace hA_n24 := hA_n24.kept (hke _ _ hY_n24)
  replace hA_n57 := hA_n57.kept (hke _ _ hY_n57)
  replace hY_this := hmo _ _ hY_this
  replace hY_n8 := hmo _ _ hY_n8
  replace hY_n17 := hmo _ _ hY_n17
  replace hY_n24 := hmo _ _ hY_n24
  replace hY_n33 := hmo _ _ hY_n33
  replace hY_n40 := hmo _ _ hY_n40
  replace hY_n48 := hmo _ _ hY_n48
  replace hY_n57 := hmo _ _ hY_n57
  replace hY_n66 := hmo _ _ hY_n66
  replace hY_n75 := hmo _ _ hY_n75
  replace hY_n84 := hmo _ _ hY_n84
  replace hY_n93 := hmo _ _ hY_n93
  replace hY_n102 := hmo _ _ hY_n102
  replace hY_n111 := hmo _ _ hY_n111
  replace hY_n120 := hmo _ _ hY_n120
  replace hY_n129 := hmo _ _ hY_n129
  replace hY_n138 := hmo _ _ hY_n138
  replace hY_n147 := hmo _ _ hY_n147
  replace hI := hIn
  clear hIn hmo hke
  clear hct
  refine y_putf X (fw_mZ_259 X.2.2.2.2.1 hnm) hY0 hI hY_this rfl rfl (y_crefA hY_n156 rfl) (by decide +kernel) mZ_d158 fun H sl hI ho hs hk => ?_
  replace hsi_typed := hk _ _ (by decide +kernel) (by decide) hsi_typed
  replace hs10 := hk _ _ (by decide +kernel) (by decide) hs10
  replace hs19 := hk _ _ (by decide +kernel) (by decide) hs19
  replace hs26 := hk _ _ (by decide +kernel) (by decide) hs26
  replace hs35 := hk _ _ (by decide +kernel) (by decide) hs35
  replace hs42 := hk _ _ (by decide +kernel) (by decide) hs42
  replace hs50 := hk _ _ (by decide +kernel) (by decide) hs50
  replace hs59 := hk _ _ (by decide +kernel) (by decide) hs59
  replace hs68 := hk _ _ (by decide +kernel) (by decide) hs68
  replace hs77 := hk _ _ (by decide +kernel) (by decide) hs77
  replace hs86 := hk _ _ (by decide +kernel) (by decide) hs86
  replace hs95 := hk _ _ (by decide +kernel) (by decide) hs95
  replace hs104 := hk _ _ (by decide +kernel) (by decide) hs104
  replace hs113 := hk _ _ (by decide +kernel) (by decide) hs113
  replace hs122 := hk _ _ (by decide +kernel) (by decide) hs122
  replace hs131 := hk _ _ (by decide +kernel) (by decide) hs131
  replace hs140 := hk _ _ (by decide +kernel) (by decide) hs140
  replace hs149 := hk _ _ (by decide +kernel) (by decide) hs149
  replace hA_n8 := hA_n8.kept (ho _ (y_ne hY_n8 hY_this rfl))
  replace hA_n24 := hA_n24.kept (ho _ (y_ne hY_n24 hY_this rfl))
  replace hA_n57 := hA_n57.kept (ho _ (y_ne hY_n57 hY_this rfl))
  replace hs := hs
  have hs158 := hs
  refine lv_aload_n hx hb mZ_d161 rfl (lv_at hl 0 rfl) ?_
  refine y_call (z := (0, 65, 1, some 18, xMbr)) (av := [.ref this]) (rest := []) (y_cokV (n := 0) (ci := 12) X ym_begRawX rfl rfl rfl (x_cons (x_bw61 15 rfl rfl) (x_cons (x_bw62 1 rfl rfl) (x_cons (x_at 30 (by decide +kernel) rfl) (x_cons (x_bw0 9 rfl rfl) x_nilm)))) (x_bw62 2 rfl rfl) (by decide +kernel) ⟨Nat.le_of_ble_eq_true rfl, Nat.le_of_ble_eq_true rfl⟩) hY0 hI rfl mZ_d162 hl.1 (Nat.le_of_ble_eq_true rfl) (Nat.le_of_ble_eq_true rfl) (Nat.le_of_ble_eq_true rfl) (y_cons (y_cref hY_this rfl) y_nil) rfl (y_recv rfl hY_this) (fun this' h1 => by cases h1; exact ⟨n8, hs10, hY_n8⟩) (y_sub_ef rfl) fun v Yn o Hn L ho hr ha hIn hx_ hE hP => ?_
  have hb2 := hP _ _ (fun _ => 0) rfl hs10 (fun _ _ => rfl) hA_n8
  replace hsi_typed := y_Efld hE hY_this rfl (by decide) (by decide) hsi_typed
  replace hs10 := y_Efld hE hY_this rfl (by decide) (by decide) hs10
  replace hs19 := y_Efld hE hY_this rfl (by decide) (by decide) hs19
  replace hs26 := y_Efld hE hY_this rfl (by decide) (by decide) hs26
  replace hs35 := y_Efld hE hY_this rfl (by decide) (by decide) hs35
  replace hs42 := y_Efld hE hY_this rfl (by decide) (by decide) hs42
  replace hs50 := y_Efld hE hY_this rfl (by decide) (by decide) hs50
  replace hs59 := y_Efld hE hY_this rfl (by decide) (by decide) hs59
  replace hs68 := y_Efld hE hY_this rfl (by decide) (by decide) hs68
  replace hs77 := y_Efld hE hY_this rfl (by decide) (by decide) hs77
  replace hs86 := y_Efld hE hY_this rfl (by decide) (by decide) hs86
  replace hs95 := y_Efld hE hY_this rfl (by decide) (by decide) hs95
  replace hs104 := y_Efld hE hY_this rfl (by decide) (by decide) hs104
  replace hs113 := y_Efld hE hY_this rfl (by decide) (by decide) hs113
  replace hs122 := y_Efld hE hY_this rfl (by decide) (by decide) hs122
  replace hs131 := y_Efld hE hY_this rfl (by decide) (by decide) hs131
  replace hs140 := y_Efld hE hY_this rfl (by decide) (by decide) hs140
  replace hs149 := y_Efld hE hY_this rfl (by decide) (by decide) hs149
  replace hs158 := y_Efld hE hY_this rfl (by decide) (by decide) hs158
  replace hA_n24 := hA_n24.kept (y_Earr hE hY_n24 rfl (by decide))
  replace hA_n57 := hA_n57.kept (y_Earr hE hY_n57 rfl (by decide))
  replace hY_this := y_ext hx_ hI.1 hY_this
  replace hY_n8 := y_ext hx_ hI.1 hY_n8
  replace hY_n17 := y_ext hx_ hI.1 hY_n17
  replace hY_n24 := y_ext hx_ hI.1 hY_n24
  replace hY_n33 := y_ext hx_ hI.1 hY_n33
  replace hY_n40 := y_ext hx_ hI.1 hY_n40
  replace hY_n48 := y_ext hx_ hI.1 hY_n48
  replace hY_n57 := y_ext hx_ hI.1 hY_n57
  replace hY_n66 := y_ext hx_ hI.1 hY_n66
  replace hY_n75 := y_ext hx_ hI.1 hY_n75
  replace hY_n84 := y_ext hx_ hI.1 hY_n84
  replace hY_n93 := y_ext hx_ hI.1 hY_n93
  replace hY_n102 := y_ext hx_ hI.1 hY_n102
  replace hY_n111 := y_ext hx_ hI.1 hY_n111
  replace hY_n120 := y_ext hx_ hI.1 hY_n120
  replace hY_n129 := y_ext hx_ hI.1 hY_n129
  replace hY_n138 := y_ext hx_ hI.1 hY_n138
  replace hY_n147 := y_ext hx_ hI.1 hY_n147
  replace hY_n156 := y_ext hx_ hI.1 hY_n156
  obtain rfl := y_ansV rfl ho hr
  have hA_n8 := hb2
  clear ho hr ha hE hP hI hx_
  rename x_I _ _ _ _ _ _ _ _ _ _ => hI
  refine lv_aload_n hx hb mZ_d165 rfl (lv_at hl 0 rfl) ?_
  refine y_getf X (fl_bZ_240 X.2.2.2.2.1) hI.1 hY_this rfl hs10 mZ_d166 ?_
  refine lv_bipush hx hb mZ_d169 (v := 7) (by decide) ?_
  have ec7 : (7 : Int32).toInt = 7 := by decide
  refine lv_bipush hx hb mZ_d171 (v := 9) (by decide) ?_
  have ec9 : (9 : Int32).toInt = 9 := by decide
  refine y_iast X hY0 hI hY_n8 rfl hA_n8 (by omega) (by show _ < (160 : Int); omega) (by show x_c _ (xF) _; exact ⟨_, rfl, by decide, by decide⟩) (by decide +kernel) mZ_d173 fun H locs hI h_new ho => ?_
  replace hA_n8 := h_new
  generalize hf_f173 : y_up (m_beg (fun _ => 0)) (7 : Int32).toInt.toNat (9 : Int32) = f173 at hA_n8
  replace hsi_typed := y_slk hsi_typed (ho _ (y_ne hY_this hY_n8 rfl))
  replace hs10 := y_slk hs10 (ho _ (y_ne hY_this hY_n8 rfl))
  replace hs19 := y_slk hs19 (ho _ (y_ne hY_this hY_n8 rfl))
  replace hs26 := y_slk hs26 (ho _ (y_ne hY_this hY_n8 rfl))
  replace hs35 := y_slk hs35 (ho _ (y_ne hY_this hY_n8 rfl))
  replace hs42 := y_slk hs42 (ho _ (y_ne hY_this hY_n8 rfl))
  replace hs50 := y_slk hs50 (ho _ (y_ne hY_this hY_n8 rfl))
  replace hs59 := y_slk hs59 (ho _ (y_ne hY_this hY_n8 rfl))
  replace hs68 := y_slk hs68 (ho _ (y_ne hY_this hY_n8 rfl))
  replace hs77 := y_slk hs77 (ho _ (y_ne hY_this hY_n8 rfl))
  replace hs86 := y_slk hs86 (ho _ (y_ne hY_this hY_n8 rfl))
  replace hs95 := y_slk hs95 (ho _ (y_ne hY_this hY_n8 rfl))
  replace hs104 := y_slk hs104 (ho _ (y_ne hY_this hY_n8 rfl))
  replace hs113 := y_slk hs113 (ho _ (y_ne hY_this hY_n8 rfl))
  replace hs122 := y_slk hs122 (ho _ (y_ne hY_this hY_n8 rfl))
  replace hs131 := y_slk hs131 (ho _ (y_ne hY_this hY_n8 rfl))
  replace hs140 := y_slk hs140 (ho _ (y_ne hY_this hY_n8 rfl))
  replace hs149 := y_slk hs149 (ho _ (y_ne hY_this hY_n8 rfl))
  replace hs158 := y_slk hs158 (ho _ (y_ne hY_this hY_n8 rfl))
  replace hA_n24 := hA_n24.kept (ho _ (y_ne hY_n24 hY_n8 rfl))
  replace hA_n57 := hA_n57.kept (ho _ (y_ne hY_n57 hY_n8 rfl))
  refine lv_iconst hx hb mZ_d174 (v := 0) (by decide) ?_
  have ec0 : (0 : Int32).toInt = 0 := by decide
  refine lv_istore_n hx hb mZ_d175 rfl hl (by decide) (lv' := [(1, .int (0 : Int32)), (0, .ref this)]) rfl fun ls hl => ?_
  have hs_n8 := hs10
  have hs_n17 := hs19
  have hs_n24 := hs26
  have hs_n33 := hs35
  have hs_n40 := hs42
  have hs_n48 := hs50
  have hs_n57 := hs59
  have hs_n66 := hs68
  have hs_n75 := hs77
  have hs_n84 := hs86
  have hs_n93 := hs95
  have hs_n102 := hs104
  have hs_n111 := hs113
  have hs_n120 := hs122
  have hs_n129 := hs131
  have hs_n138 := hs140
  have hs_n147 := hs149
  have hs_n156 := hs158
  have hA_n8 := hA_n8
  exact mZ_L176 B rfl 13 _ _ _ _ _ _ hI hY_this hY_n8 hY_n17 hY_n24 hY_n33 hY_n40 hY_n48 hY_n57 hY_n66 hY_n75 hY_n84 hY_n93 hY_n102 hY_n111 hY_n120 hY_n129 hY_n138 hY_n147 hY_n156 hs_n8 hs_n17 hs_n24 hs_n33 hs_n40 hs_n48 hs_n57 hs_n66 hs_n75 hs_n84 hs_n93 hs_n102 hs_n111 hs_n120 hs_n129 hs_n138 hs_n147 hs_n156 hsi_typed hA_n8 hA_n24 hA_n57 (lv_sub hl [0, 1] rfl) (by first | assumption | omega) (by rw [← hf_f173, show (7 : Int32).toInt.toNat = 7 by decide]; exact m_rowi0) (by omega)

