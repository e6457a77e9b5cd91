theorem fw_mx_233 {s : State} {args : Array Value} {mn : String} (hts : ∀ w ∈ x_Tb, w.before args s = true) : x_pok vwCl x_G x_Tb s args "TwinFiresModel" mn (68, 18, 7) := ⟨12, _, RX12, TX12, "TwinFiresModel", tyX12, _, rfl, rfl, Nat.le_of_ble_eq_true rfl, iX12, (hts _ (x_bw62 10 rfl rfl)), fun x h => h, tyX12_ok, nmX12, rfl, x_fitL _ _, Or.inl rfl⟩
theorem fl_mx_234 {s : State} {args : Array Value} (hts : ∀ w ∈ x_Tb, w.before args s = true) : x_fok vwCl x_G x_Tb s args "TwinFiresModel" (7, 18, 0) := ⟨12, _, RX12, TX12, "TwinFiresModel", rfl, rfl, Nat.le_of_ble_eq_true rfl, iX12, (hts _ (x_bw62 3 rfl rfl)), fun x h => h⟩
theorem fw_mx_235 {s : State} {args : Array Value} {mn : String} (hts : ∀ w ∈ x_Tb, w.before args s = true) (hn : mn = "<init>") : x_pok vwCl x_G x_Tb s args "TwinFiresModel" mn (7, 18, 0) := ⟨12, _, RX12, TX12, "TwinFiresModel", tyX12, _, rfl, rfl, Nat.le_of_ble_eq_true rfl, iX12, (hts _ (x_bw62 3 rfl rfl)), fun x h => h, tyX12_ok, nmX12, rfl, x_fitA1 _ _, Or.inr ⟨rfl, hn, rfl⟩⟩
theorem fw_mx_236 {s : State} {args : Array Value} {mn : String} (hts : ∀ w ∈ x_Tb, w.before args s = true) (hn : mn = "<init>") : x_pok vwCl x_G x_Tb s args "TwinFiresModel" mn (13, 18, 1) := ⟨12, _, RX12, TX12, "TwinFiresModel", tyX12, _, rfl, rfl, Nat.le_of_ble_eq_true rfl, iX12, (hts _ (x_bw62 4 rfl rfl)), fun x h => h, tyX12_ok, nmX12, rfl, x_fitA1 _ _, Or.inr ⟨rfl, hn, rfl⟩⟩
theorem fw_mx_237 {s : State} {args : Array Value} {mn : String} (hts : ∀ w ∈ x_Tb, w.before args s = true) (hn : mn = "<init>") : x_pok vwCl x_G x_Tb s args "TwinFiresModel" mn (16, 18, 2) := ⟨12, _, RX12, TX12, "TwinFiresModel", tyX12, _, rfl, rfl, Nat.le_of_ble_eq_true rfl, iX12, (hts _ (x_bw62 5 rfl rfl)), fun x h => h, tyX12_ok, nmX12, rfl, x_fitA1 _ _, Or.inr ⟨rfl, hn, rfl⟩⟩
theorem fw_mx_238 {s : State} {args : Array Value} {mn : String} (hts : ∀ w ∈ x_Tb, w.before args s = true) (hn : mn = "<init>") : x_pok vwCl x_G x_Tb s args "TwinFiresModel" mn (20, 18, 3) := ⟨12, _, RX12, TX12, "TwinFiresModel", tyX12, _, rfl, rfl, Nat.le_of_ble_eq_true rfl, iX12, (hts _ (x_bw62 6 rfl rfl)), fun x h => h, tyX12_ok, nmX12, rfl, x_fitA1 _ _, Or.inr ⟨rfl, hn, rfl⟩⟩
theorem fw_mx_239 {s : State} {args : Array Value} {mn : String} (hts : ∀ w ∈ x_Tb, w.before args s = true) (hn : mn = "<init>") : x_pok vwCl x_G x_Tb s args "TwinFiresModel" mn (23, 18, 4) := ⟨12, _, RX12, TX12, "TwinFiresModel", tyX12, _, rfl, rfl, Nat.le_of_ble_eq_true rfl, iX12, (hts _ (x_bw62 7 rfl rfl)), fun x h => h, tyX12_ok, nmX12, rfl, x_fitA1 _ _, Or.inr ⟨rfl, hn, rfl⟩⟩
theorem fw_mx_240 {s : State} {args : Array Value} {mn : String} (hts : ∀ w ∈ x_Tb, w.before args s = true) (hn : mn = "<init>") : x_pok vwCl x_G x_Tb s args "TwinFiresModel" mn (26, 18, 8) := ⟨12, _, RX12, TX12, "TwinFiresModel", tyX12, _, rfl, rfl, Nat.le_of_ble_eq_true rfl, iX12, (hts _ (x_bw62 11 rfl rfl)), fun x h => h, tyX12_ok, nmX12, rfl, x_fitA1 _ _, Or.inr ⟨rfl, hn, rfl⟩⟩
theorem fw_mx_241 {s : State} {args : Array Value} {mn : String} (hts : ∀ w ∈ x_Tb, w.before args s = true) (hn : mn = "<init>") : x_pok vwCl x_G x_Tb s args "TwinFiresModel" mn (29, 18, 9) := ⟨12, _, RX12, TX12, "TwinFiresModel", tyX12, _, rfl, rfl, Nat.le_of_ble_eq_true rfl, iX12, (hts _ (x_bw62 12 rfl rfl)), fun x h => h, tyX12_ok, nmX12, rfl, x_fitA1 _ _, Or.inr ⟨rfl, hn, rfl⟩⟩
theorem fw_mx_242 {s : State} {args : Array Value} {mn : String} (hts : ∀ w ∈ x_Tb, w.before args s = true) (hn : mn = "<init>") : x_pok vwCl x_G x_Tb s args "TwinFiresModel" mn (32, 18, 15) := ⟨12, _, RX12, TX12, "TwinFiresModel", tyX12, _, rfl, rfl, Nat.le_of_ble_eq_true rfl, iX12, (hts _ (x_bw63 2 rfl rfl)), fun x h => h, tyX12_ok, nmX12, rfl, x_fitA1 _ _, Or.inr ⟨rfl, hn, rfl⟩⟩
theorem fw_mx_243 {s : State} {args : Array Value} {mn : String} (hts : ∀ w ∈ x_Tb, w.before args s = true) (hn : mn = "<init>") : x_pok vwCl x_G x_Tb s args "TwinFiresModel" mn (35, 18, 16) := ⟨12, _, RX12, TX12, "TwinFiresModel", tyX12, _, rfl, rfl, Nat.le_of_ble_eq_true rfl, iX12, (hts _ (x_bw63 3 rfl rfl)), fun x h => h, tyX12_ok, nmX12, rfl, x_fitA1 _ _, Or.inr ⟨rfl, hn, rfl⟩⟩
theorem fw_mx_244 {s : State} {args : Array Value} {mn : String} (hts : ∀ w ∈ x_Tb, w.before args s = true) (hn : mn = "<init>") : x_pok vwCl x_G x_Tb s args "TwinFiresModel" mn (38, 18, 18) := ⟨12, _, RX12, TX12, "TwinFiresModel", tyX12, _, rfl, rfl, Nat.le_of_ble_eq_true rfl, iX12, (hts _ (x_bw63 5 rfl rfl)), fun x h => h, tyX12_ok, nmX12, rfl, x_fitA1 _ _, Or.inr ⟨rfl, hn, rfl⟩⟩
theorem fw_mx_245 {s : State} {args : Array Value} {mn : String} (hts : ∀ w ∈ x_Tb, w.before args s = true) (hn : mn = "<init>") : x_pok vwCl x_G x_Tb s args "TwinFiresModel" mn (41, 18, 19) := ⟨12, _, RX12, TX12, "TwinFiresModel", tyX12, _, rfl, rfl, Nat.le_of_ble_eq_true rfl, iX12, (hts _ (x_bw63 6 rfl rfl)), fun x h => h, tyX12_ok, nmX12, rfl, x_fitA1 _ _, Or.inr ⟨rfl, hn, rfl⟩⟩
theorem fw_mx_246 {s : State} {args : Array Value} {mn : String} (hts : ∀ w ∈ x_Tb, w.before args s = true) (hn : mn = "<init>") : x_pok vwCl x_G x_Tb s args "TwinFiresModel" mn (44, 18, 20) := ⟨12, _, RX12, TX12, "TwinFiresModel", tyX12, _, rfl, rfl, Nat.le_of_ble_eq_true rfl, iX12, (hts _ (x_bw63 7 rfl rfl)), fun x h => h, tyX12_ok, nmX12, rfl, x_fitA1 _ _, Or.inr ⟨rfl, hn, rfl⟩⟩
theorem fw_mx_247 {s : State} {args : Array Value} {mn : String} (hts : ∀ w ∈ x_Tb, w.before args s = true) (hn : mn = "<init>") : x_pok vwCl x_G x_Tb s args "TwinFiresModel" mn (47, 18, 21) := ⟨12, _, RX12, TX12, "TwinFiresModel", tyX12, _, rfl, rfl, Nat.le_of_ble_eq_true rfl, iX12, (hts _ (x_bw63 8 rfl rfl)), fun x h => h, tyX12_ok, nmX12, rfl, x_fitA1 _ _, Or.inr ⟨rfl, hn, rfl⟩⟩
theorem fw_mx_248 {s : State} {args : Array Value} {mn : String} (hts : ∀ w ∈ x_Tb, w.before args s = true) (hn : mn = "<init>") : x_pok vwCl x_G x_Tb s args "TwinFiresModel" mn (50, 18, 22) := ⟨12, _, RX12, TX12, "TwinFiresModel", tyX12, _, rfl, rfl, Nat.le_of_ble_eq_true rfl, iX12, (hts _ (x_bw63 9 rfl rfl)), fun x h => h, tyX12_ok, nmX12, rfl, x_fitA1 _ _, Or.inr ⟨rfl, hn, rfl⟩⟩
theorem fw_mx_249 {s : State} {args : Array Value} {mn : String} (hts : ∀ w ∈ x_Tb, w.before args s = true) (hn : mn = "<init>") : x_pok vwCl x_G x_Tb s args "TwinFiresModel" mn (53, 18, 23) := ⟨12, _, RX12, TX12, "TwinFiresModel", tyX12, _, rfl, rfl, Nat.le_of_ble_eq_true rfl, iX12, (hts _ (x_bw63 10 rfl rfl)), fun x h => h, tyX12_ok, nmX12, rfl, x_fitA1 _ _, Or.inr ⟨rfl, hn, rfl⟩⟩
theorem fw_mx_250 {s : State} {args : Array Value} {mn : String} (hts : ∀ w ∈ x_Tb, w.before args s = true) (hn : mn = "<init>") : x_pok vwCl x_G x_Tb s args "TwinFiresModel" mn (56, 18, 24) := ⟨12, _, RX12, TX12, "TwinFiresModel", tyX12, _, rfl, rfl, Nat.le_of_ble_eq_true rfl, iX12, (hts _ (x_bw63 11 rfl rfl)), fun x h => h, tyX12_ok, nmX12, rfl, x_fitA1 _ _, Or.inr ⟨rfl, hn, rfl⟩⟩
theorem fw_mx_251 {s : State} {args : Array Value} {mn : String} (hts : ∀ w ∈ x_Tb, w.before args s = true) (hn : mn = "<init>") : x_pok vwCl x_G x_Tb s args "TwinFiresModel" mn (59, 18, 25) := ⟨12, _, RX12, TX12, "TwinFiresModel", tyX12, _, rfl, rfl, Nat.le_of_ble_eq_true rfl, iX12, (hts _ (x_bw63 12 rfl rfl)), fun x h => h, tyX12_ok, nmX12, rfl, x_fitA1 _ _, Or.inr ⟨rfl, hn, rfl⟩⟩
theorem fw_mx_252 {s : State} {args : Array Value} {mn : String} (hts : ∀ w ∈ x_Tb, w.before args s = true) (hn : mn = "<init>") : x_pok vwCl x_G x_Tb s args "TwinFiresModel" mn (62, 18, 26) := ⟨12, _, RX12, TX12, "TwinFiresModel", tyX12, _, rfl, rfl, Nat.le_of_ble_eq_true rfl, iX12, (hts _ (x_bw63 13 rfl rfl)), fun x h => h, tyX12_ok, nmX12, rfl, x_fitA1 _ _, Or.inr ⟨rfl, hn, rfl⟩⟩
def z_Pti : yP := fun D av Y H v Y' H' => ∀ this : Nat, av = [.ref this] → ∃ kp tx : Nat, x_sl D 11 2 this H' = some (.ref kp) ∧ x_sl D 11 3 this H' = some (.ref tx) ∧ (∀ j, j < 2 → y_at kp j H' = some .null) ∧ x_sl D 7 2 tx H' = some (.int 0)
def z_Pmi : yP := fun D av Y H v Y' H' => ∀ this : Nat, av = [.ref this] → x_sl D 12 10 this H = some (.int 0) → ∃ mk : Nat, x_sl D 12 2 this H' = some (.ref mk) ∧ y_A mk 2 H' (fun _ => 0) ∧ x_sl D 12 10 this H' = some (.int 0)
def xMtx : xM := (⟨"TwinFires", "<init>", "()V"⟩, prog_1_method_1_code, 1, none, [xR false [1]], [([xR false [0]], none)], [(1, 0), (1, 1), (1, 2), (1, 3), (1, 4), (1, 5), (1, 6), (1, 7), (1, 8), (3, 0), (3, 1), (3, 2), (3, 3), (3, 4), (3, 5), (3, 6), (3, 7), (3, 8), (3, 9), (3, 10), (3, 11), (3, 12), (3, 13), (3, 14), (3, 15), (5, 0), (5, 1), (7, 0), (7, 1), (7, 2), (7, 3), (9, 0), (9, 2), (9, 3), (9, 4), (9, 5), (11, 0), (11, 1), (11, 2), (11, 3), (11, 4), (12, 0), (12, 1), (12, 2), (12, 3), (12, 4), (13, 0), (13, 1), (13, 2), (13, 3), (13, 4), (14, 0), (14, 1), (14, 2), (14, 3), (14, 4), (15, 0), (15, 1), (15, 2), (15, 3), (15, 4), (16, 0), (16, 1), (16, 2), (16, 3), (16, 4), (27, 0), (30, 0), (64, 0)], (3, 67, 46, 5888), some 0)
theorem tx_d0 : decode xMtx.2.1 0 = .ok (.aload_n 0, 1) := dz_ok (by decide +kernel)
theorem tx_d1 : decode xMtx.2.1 1 = .ok (.invokespecial 3, 3) := dz_ok (by decide +kernel)
theorem tx_d4 : decode xMtx.2.1 4 = .ok (.aload_n 0, 1) := dz_ok (by decide +kernel)
theorem tx_d5 : decode xMtx.2.1 5 = .ok (.new 9, 3) := dz_ok (by decide +kernel)
theorem tx_d8 : decode xMtx.2.1 8 = .ok (.dup, 1) := dz_ok (by decide +kernel)
theorem tx_d9 : decode xMtx.2.1 9 = .ok (.invokespecial 11, 3) := dz_ok (by decide +kernel)
theorem tx_d12 : decode xMtx.2.1 12 = .ok (.putfield 12, 3) := dz_ok (by decide +kernel)
theorem tx_d15 : decode xMtx.2.1 15 = .ok (.aload_n 0, 1) := dz_ok (by decide +kernel)
theorem tx_d16 : decode xMtx.2.1 16 = .ok (.new 9, 3) := dz_ok (by decide +kernel)
theorem tx_d19 : decode xMtx.2.1 19 = .ok (.dup, 1) := dz_ok (by decide +kernel)
theorem tx_d20 : decode xMtx.2.1 20 = .ok (.invokespecial 11, 3) := dz_ok (by decide +kernel)
theorem tx_d23 : decode xMtx.2.1 23 = .ok (.putfield 16, 3) := dz_ok (by decide +kernel)
theorem tx_d26 : decode xMtx.2.1 26 = .ok (.aload_n 0, 1) := dz_ok (by decide +kernel)
theorem tx_d27 : decode xMtx.2.1 27 = .ok (.iconst 2, 1) := dz_ok (by decide +kernel)
theorem tx_d28 : decode xMtx.2.1 28 = .ok (.anewarray 9, 3) := dz_ok (by decide +kernel)
theorem tx_d31 : decode xMtx.2.1 31 = .ok (.putfield 19, 3) := dz_ok (by decide +kernel)
theorem tx_d34 : decode xMtx.2.1 34 = .ok (.aload_n 0, 1) := dz_ok (by decide +kernel)
theorem tx_d35 : decode xMtx.2.1 35 = .ok (.new 23, 3) := dz_ok (by decide +kernel)
theorem tx_d38 : decode xMtx.2.1 38 = .ok (.dup, 1) := dz_ok (by decide +kernel)
theorem tx_d39 : decode xMtx.2.1 39 = .ok (.invokespecial 25, 3) := dz_ok (by decide +kernel)
theorem tx_d42 : decode xMtx.2.1 42 = .ok (.putfield 26, 3) := dz_ok (by decide +kernel)
theorem tx_d45 : decode xMtx.2.1 45 = .ok (.aload_n 0, 1) := dz_ok (by decide +kernel)
theorem tx_d46 : decode xMtx.2.1 46 = .ok (.new 30, 3) := dz_ok (by decide +kernel)
theorem tx_d49 : decode xMtx.2.1 49 = .ok (.dup, 1) := dz_ok (by decide +kernel)
theorem tx_d50 : decode xMtx.2.1 50 = .ok (.invokespecial 32, 3) := dz_ok (by decide +kernel)
theorem tx_d53 : decode xMtx.2.1 53 = .ok (.putfield 33, 3) := dz_ok (by decide +kernel)
theorem tx_d56 : decode xMtx.2.1 56 = .ok (.aload_n 0, 1) := dz_ok (by decide +kernel)
theorem tx_d57 : decode xMtx.2.1 57 = .ok (.new 37, 3) := dz_ok (by decide +kernel)
theorem tx_d60 : decode xMtx.2.1 60 = .ok (.dup, 1) := dz_ok (by decide +kernel)
theorem tx_d61 : decode xMtx.2.1 61 = .ok (.invokespecial 39, 3) := dz_ok (by decide +kernel)
theorem tx_d64 : decode xMtx.2.1 64 = .ok (.putfield 40, 3) := dz_ok (by decide +kernel)
theorem tx_d67 : decode xMtx.2.1 67 = .ok (.aload_n 0, 1) := dz_ok (by decide +kernel)
theorem tx_d68 : decode xMtx.2.1 68 = .ok (.iconst 3, 1) := dz_ok (by decide +kernel)
theorem tx_d69 : decode xMtx.2.1 69 = .ok (.newarray .int, 2) := dz_ok (by decide +kernel)
theorem tx_d71 : decode xMtx.2.1 71 = .ok (.putfield 44, 3) := dz_ok (by decide +kernel)
theorem tx_d74 : decode xMtx.2.1 74 = .ok (.aload_n 0, 1) := dz_ok (by decide +kernel)
theorem tx_d75 : decode xMtx.2.1 75 = .ok (.lconst 0, 1) := dz_ok (by decide +kernel)
theorem tx_d76 : decode xMtx.2.1 76 = .ok (.putfield 48, 3) := dz_ok (by decide +kernel)
theorem tx_d79 : decode xMtx.2.1 79 = .ok (.aload_n 0, 1) := dz_ok (by decide +kernel)
theorem tx_d80 : decode xMtx.2.1 80 = .ok (.lconst 1, 1) := dz_ok (by decide +kernel)
theorem tx_d81 : decode xMtx.2.1 81 = .ok (.putfield 52, 3) := dz_ok (by decide +kernel)
theorem tx_d84 : decode xMtx.2.1 84 = .ok (.return_, 1) := dz_ok (by decide +kernel)
theorem ym_twInit : y_Met vwCl x_G x_Zs x_Tb x_Nb xMtx y_T z_Pti := by
  refine y_main (by decide +kernel) (by decide +kernel) x_Tb_good x_Nb_ok ?_
  intro p l e s m below meth c D U Y0 av ls B hI _ hl
  have X := B.1
  have hx := X.1
  have hb := X.2.1
  have hY0 := B.2.2.2.2.1
  have hts := X.2.2.2.2.1
  have hnm := B.2.2.2.1
  obtain ⟨v0, rfl, hv0⟩ := x_one B.2.2.2.2.2
  obtain ⟨this, t0, rfl, ht0, hY_this⟩ := x_ref_at hv0 rfl
  obtain rfl := List.mem_singleton.mp ht0
  replace hl : lv_has ls xMtx.2.2.1 [(0, .ref this)] := hl
  refine lv_aload_n hx hb tx_d0 rfl (lv_at hl 0 rfl) ?_
  refine y_oi X (hts _ (x_bw1 11 rfl rfl)) (hts _ (x_bw1 12 rfl rfl)) (hts _ (x_bw1 13 rfl rfl)) (Nat.le_of_ble_eq_true rfl) (Nat.le_of_ble_eq_true rfl) hl.1 (Nat.le_of_ble_eq_true rfl) tx_d1 ?_
  refine lv_aload_n hx hb tx_d4 rfl (lv_at hl 0 rfl) ?_
  refine y_newo (tag := 3) X hY0 hI rfl ⟨2, _, RX2, TX2, tyX2, rfl, rfl, iX2, tyX2_ok, (hts _ (x_bw1 14 rfl rfl)), (hts _ (x_bw1 15 rfl rfl)), (hts _ (x_bw0 2 rfl rfl)), x_dfl (by decide +kernel)⟩ (Nat.le_of_ble_eq_true rfl) (Nat.le_of_ble_eq_true rfl) tx_d5 fun Yn H n5 hnw => ?_
  obtain ⟨hIn, hmo, hY_n5, hfr_n5, hke⟩ := hnw
  replace hY_this := hmo _ _ hY_this
  replace hI := hIn
  clear hIn hmo hke
  refine lv_dup hx hb tx_d8 rfl ?_
  refine y_callC (z := (2, 11, 1, none, xMli)) (b := n5) (rest := [.ref n5, .ref this]) (y_cokI (n := 0) X ym_landInit rfl (x_cons (x_bw2 0 rfl rfl) (x_cons (x_bw2 1 rfl rfl) (x_cons (x_bw0 2 rfl rfl) x_nilm))) (x_bw2 2 rfl rfl) rfl (fun Y av h => x_this h) (by decide +kernel) ⟨Nat.le_of_ble_eq_true rfl, Nat.le_of_ble_eq_true rfl⟩) hY0 hI rfl tx_d9 hl.1 (Nat.le_of_ble_eq_true rfl) (Nat.le_of_ble_eq_true rfl) (Nat.le_of_ble_eq_true rfl) (y_cons (y_cref hY_n5 rfl) y_nil) rfl rfl trivial (y_sub_ef (by decide +kernel)) hfr_n5 rfl fun Yn Hn L hIn hY_n hk hE => ?_
  replace hY_this := hk _ _ (y_ne hY_this hY_n5 rfl) hY_this
  replace hY_n5 := hY_n
  clear hI hE hk hY_n
  rename x_I _ _ _ _ _ _ _ _ _ _ => hI
  refine y_putf X (fw224 X.2.2.2.2.1) hY0 hI hY_this rfl rfl (y_crefA hY_n5 rfl) (by decide +kernel) tx_d12 fun H sl hI ho hs hk => ?_
  replace hs := hs
  have hs12 := hs
  refine lv_aload_n hx hb tx_d15 rfl (lv_at hl 0 rfl) ?_
  refine y_newo (tag := 3) X hY0 hI rfl ⟨2, _, RX2, TX2, tyX2, rfl, rfl, iX2, tyX2_ok, (hts _ (x_bw1 14 rfl rfl)), (hts _ (x_bw1 15 rfl rfl)), (hts _ (x_bw0 2 rfl rfl)), x_dfl (by decide +kernel)⟩ (Nat.le_of_ble_eq_true rfl) (Nat.le_of_ble_eq_true rfl) tx_d16 fun Yn H n16 hnw => ?_
  obtain ⟨hIn, hmo, hY_n16, hfr_n16, hke⟩ := hnw
  replace hs12 := y_slk hs12 (hke _ _ hY_this)
  replace hY_this := hmo _ _ hY_this
  replace hY_n5 := hmo _ _ hY_n5
  replace hI := hIn
  clear hIn hmo hke
  refine lv_dup hx hb tx_d19 rfl ?_
  refine y_callC (z := (2, 11, 1, none, xMli)) (b := n16) (rest := [.ref n16, .ref this]) (y_cokI (n := 0) X ym_landInit rfl (x_cons (x_bw2 0 rfl rfl) (x_cons (x_bw2 1 rfl rfl) (x_cons (x_bw0 2 rfl rfl) x_nilm))) (x_bw2 2 rfl rfl) rfl (fun Y av h => x_this h) (by decide +kernel) ⟨Nat.le_of_ble_eq_true rfl, Nat.le_of_ble_eq_true rfl⟩) hY0 hI rfl tx_d20 hl.1 (Nat.le_of_ble_eq_true rfl) (Nat.le_of_ble_eq_true rfl) (Nat.le_of_ble_eq_true rfl) (y_cons (y_cref hY_n16 rfl) y_nil) rfl rfl trivial (y_sub_ef (by decide +kernel)) hfr_n16 rfl fun Yn Hn L hIn hY_n hk hE => ?_
  replace hs12 := y_Efld hE hY_this rfl (by decide) (by decide) hs12
  replace hY_this := hk _ _ (y_ne hY_this hY_n16 rfl) hY_this
  replace hY_n5 := hk _ _ (y_ne hY_n5 hY_n16 rfl) hY_n5
  replace hY_n16 := hY_n
  clear hI hE hk hY_n
  rename x_I _ _ _ _ _ _ _ _ _ _ => hI
  refine y_putf X (fw225 X.2.2.2.2.1) hY0 hI hY_this rfl rfl (y_crefA hY_n16 rfl) (by decide +kernel) tx_d23 fun H sl hI ho hs hk => ?_
  replace hs12 := hk _ _ (by decide +kernel) (by decide) hs12
  replace hs := hs
  have hs23 := hs
  refine lv_aload_n hx hb tx_d26 rfl (lv_at hl 0 rfl) ?_
  refine lv_iconst hx hb tx_d27 (v := 2) (by decide) ?_
  have ec2 : (2 : Int32).toInt = 2 := by decide
  refine y_newrC (tag := 41) (k := 2) (C := "TwinFires$Land") X hY0 hI rfl (by decide) (hts _ (x_bw1 14 rfl rfl)) (va_AO.use (X.2.2.2.2.2.2.2.2.1 _ (x_bn10 0 rfl rfl))) (fun Y j => x_dfa (ty := .object "TwinFires$Land") (by decide +kernel) Y j) (by decide) (Nat.le_of_ble_eq_true rfl) (Nat.le_of_ble_eq_true rfl) tx_d28 fun Yn H n28 hnw hct => ?_
  obtain ⟨hIn, hmo, hY_n28, hfr_n28, hke⟩ := hnw
  replace hs12 := y_slk hs12 (hke _ _ hY_this)
  replace hs23 := y_slk hs23 (hke _ _ hY_this)
  replace hY_this := hmo _ _ hY_this
  replace hY_n5 := hmo _ _ hY_n5
  replace hY_n16 := hmo _ _ hY_n16
  replace hI := hIn
  clear hIn hmo hke
  have hn_n28 := hct
  clear hct
  refine y_putf X (fw226 X.2.2.2.2.1 hnm) hY0 hI hY_this rfl rfl (y_crefA hY_n28 rfl) (by decide +kernel) tx_d31 fun H sl hI ho hs hk => ?_
  replace hs12 := hk _ _ (by decide +kernel) (by decide) hs12
  replace hs23 := hk _ _ (by decide +kernel) (by decide) hs23
  replace hn_n28 := fun j hj => (z_atk (ho _ (y_ne hY_n28 hY_this rfl))).trans (hn_n28 j hj)
  replace hs := hs
  have hs31 := hs
  refine lv_aload_n hx hb tx_d34 rfl (lv_at hl 0 rfl) ?_
  refine y_newoC (tag := 5) (ty := tyX7) X hY0 hI rfl rfl iX7 tyX7_ok (hts _ (x_bw10 1 rfl rfl)) (hts _ (x_bw10 2 rfl rfl)) (hts _ (x_bw0 5 rfl rfl)) (x_dfl (by decide +kernel)) (Nat.le_of_ble_eq_true rfl) (Nat.le_of_ble_eq_true rfl) tx_d35 fun Yn H n35 hnw hct => ?_
  obtain ⟨hIn, hmo, hY_n35, hfr_n35, hke⟩ := hnw
  replace hs12 := y_slk hs12 (hke _ _ hY_this)
  replace hs23 := y_slk hs23 (hke _ _ hY_this)
  replace hs31 := y_slk hs31 (hke _ _ hY_this)
  replace hn_n28 := fun j hj => (z_atk (hke _ _ hY_n28)).trans (hn_n28 j hj)
  replace hY_this := hmo _ _ hY_this
  replace hY_n5 := hmo _ _ hY_n5
  replace hY_n16 := hmo _ _ hY_n16
  replace hY_n28 := hmo _ _ hY_n28
  replace hI := hIn
  clear hIn hmo hke
  have hd_n35_2 := hct 2 (by decide)
  clear hct
  refine lv_dup hx hb tx_d38 rfl ?_
  refine y_callC (z := (2, 25, 1, none, xM1018)) (b := n35) (rest := [.ref n35, .ref this]) (y_cok.of (x_cokIN (n := 0) (host := "TwinFires") X xm1018 rfl (x_cons (x_bw10 4 rfl rfl) (x_cons (x_bw0 5 rfl rfl) x_nilm)) (x_bn10 3 rfl rfl) (x_bw10 5 rfl rfl) rfl (fun Y av h => x_this h) (by decide +kernel) ⟨Nat.le_of_ble_eq_true rfl, Nat.le_of_ble_eq_true rfl⟩)) hY0 hI rfl tx_d39 hl.1 (Nat.le_of_ble_eq_true rfl) (Nat.le_of_ble_eq_true rfl) (Nat.le_of_ble_eq_true rfl) (y_cons (y_cref hY_n35 rfl) y_nil) rfl rfl trivial (y_sub_ef (by decide +kernel)) hfr_n35 rfl fun Yn Hn L hIn hY_n hk hE => ?_
  replace hs12 := y_Efld hE hY_this rfl (by decide) (by decide) hs12
  replace hs23 := y_Efld hE hY_this rfl (by decide) (by decide) hs23
  replace hs31 := y_Efld hE hY_this rfl (by decide) (by decide) hs31
  replace hd_n35_2 := y_Efld hE hY_n35 rfl (by decide) (by decide) hd_n35_2
  replace hn_n28 := fun j hj => (z_atk (y_Earr hE hY_n28 rfl (by decide))).trans (hn_n28 j hj)
  replace hY_this := hk _ _ (y_ne hY_this hY_n35 rfl) hY_this
  replace hY_n5 := hk _ _ (y_ne hY_n5 hY_n35 rfl) hY_n5
  replace hY_n16 := hk _ _ (y_ne hY_n16 hY_n35 rfl) hY_n16
  replace hY_n28 := hk _ _ (y_ne hY_n28 hY_n35 rfl) hY_n28
  replace hY_n35 := hY_n
  clear hI hE hk hY_n
  rename x_I _ _ _ _ _ _ _ _ _ _ => hI
  refine y_putf X (fw227 X.2.2.2.2.1 hnm) hY0 hI hY_this rfl rfl (y_crefA hY_n35 rfl) (by decide +kernel) tx_d42 fun H sl hI ho hs hk => ?_
  replace hs12 := hk _ _ (by decide +kernel) (by decide) hs12
  replace hs23 := hk _ _ (by decide +kernel) (by decide) hs23
  replace hs31 := hk _ _ (by decide +kernel) (by decide) hs31
  replace hd_n35_2 := y_slk hd_n35_2 (ho _ (y_ne hY_n35 hY_this rfl))
  replace hn_n28 := fun j hj => (z_atk (ho _ (y_ne hY_n28 hY_this rfl))).trans (hn_n28 j hj)
  replace hs := hs
  have hs42 := hs
  refine lv_aload_n hx hb tx_d45 rfl (lv_at hl 0 rfl) ?_
  refine y_newo (tag := 7) X hY0 hI rfl ⟨0, _, RX0, TX0, tyX0, rfl, rfl, iX0, tyX0_ok, (hts _ (x_bw11 9 rfl rfl)), (hts _ (x_bw11 10 rfl rfl)), (hts _ (x_bw0 6 rfl rfl)), x_dfl (by decide +kernel)⟩ (Nat.le_of_ble_eq_true rfl) (Nat.le_of_ble_eq_true rfl) tx_d46 fun Yn H n46 hnw => ?_
  obtain ⟨hIn, hmo, hY_n46, hfr_n46, hke⟩ := hnw
  replace hs12 := y_slk hs12 (hke _ _ hY_this)
  replace hs23 := y_slk hs23 (hke _ _ hY_this)
  replace hs31 := y_slk hs31 (hke _ _ hY_this)
  replace hd_n35_2 := y_slk hd_n35_2 (hke _ _ hY_n35)
  replace hs42 := y_slk hs42 (hke _ _ hY_this)
  replace hn_n28 := fun j hj => (z_atk (hke _ _ hY_n28)).trans (hn_n28 j hj)
  replace hY_this := hmo _ _ hY_this
  replace hY_n5 := hmo _ _ hY_n5
  replace hY_n16 := hmo _ _ hY_n16
  replace hY_n28 := hmo _ _ hY_n28
  replace hY_n35 := hmo _ _ hY_n35
  replace hI := hIn
  clear hIn hmo hke
  refine lv_dup hx hb tx_d49 rfl ?_
  refine y_callC (z := (2, 32, 1, none, xM1020)) (b := n46) (rest := [.ref n46, .ref this]) (y_cok.of (x_cokIN (n := 0) (host := "TwinFires") X xm1020 rfl (x_cons (x_bw11 12 rfl rfl) (x_cons (x_bw0 6 rfl rfl) x_nilm)) (x_bn11 11 rfl rfl) (x_bw11 13 rfl rfl) rfl (fun Y av h => x_this h) (by decide +kernel) ⟨Nat.le_of_ble_eq_true rfl, Nat.le_of_ble_eq_true rfl⟩)) hY0 hI rfl tx_d50 hl.1 (Nat.le_of_ble_eq_true rfl) (Nat.le_of_ble_eq_true rfl) (Nat.le_of_ble_eq_true rfl) (y_cons (y_cref hY_n46 rfl) y_nil) rfl rfl trivial (y_sub_ef (by decide +kernel)) hfr_n46 rfl fun Yn Hn L hIn hY_n hk hE => ?_
  replace hs12 := y_Efld hE hY_this rfl (by decide) (by decide) hs12
  replace hs23 := y_Efld hE hY_this rfl (by decide) (by decide) hs23
  replace hs31 := y_Efld hE hY_this rfl (by decide) (by decide) hs31
  replace hd_n35_2 := y_Efld hE hY_n35 rfl (by decide) (by decide) hd_n35_2
  replace hs42 := y_Efld hE hY_this rfl (by decide) (by decide) hs42
  replace hn_n28 := fun j hj => (z_atk (y_Earr hE hY_n28 rfl (by decide))).trans (hn_n28 j hj)
  replace hY_this := hk _ _ (y_ne hY_this hY_n46 rfl) hY_this
  replace hY_n5 := hk _ _ (y_ne hY_n5 hY_n46 rfl) hY_n5
  replace hY_n16 := hk _ _ (y_ne hY_n16 hY_n46 rfl) hY_n16
  replace hY_n28 := hk _ _ (y_ne hY_n28 hY_n46 rfl) hY_n28
  replace hY_n35 := hk _ _ (y_ne hY_n35 hY_n46 rfl) hY_n35
  replace hY_n46 := hY_n
  clear hI hE hk hY_n
  rename x_I _ _ _ _ _ _ _ _ _ _ => hI
  refine y_putf X (fw228 X.2.2.2.2.1 hnm) hY0 hI hY_this rfl rfl (y_crefA hY_n46 rfl) (by decide +kernel) tx_d53 fun H sl hI ho hs hk => ?_
  replace hs12 := hk _ _ (by decide +kernel) (by decide) hs12
  replace hs23 := hk _ _ (by decide +kernel) (by decide) hs23
  replace hs31 := hk _ _ (by decide +kernel) (by decide) hs31
  replace hd_n35_2 := y_slk hd_n35_2 (ho _ (y_ne hY_n35 hY_this rfl))
  replace hs42 := hk _ _ (by decide +kernel) (by decide) hs42
  replace hn_n28 := fun j hj => (z_atk (ho _ (y_ne hY_n28 hY_this rfl))).trans (hn_n28 j hj)
  replace hs := hs
  have hs53 := hs
  refine lv_aload_n hx hb tx_d56 rfl (lv_at hl 0 rfl) ?_
  refine y_newo (tag := 9) X hY0 hI rfl ⟨5, _, RX5, TX5, tyX5, rfl, rfl, iX5, tyX5_ok, (hts _ (x_bw14 14 rfl rfl)), (hts _ (x_bw14 15 rfl rfl)), (hts _ (x_bw0 8 rfl rfl)), x_dfl (by decide +kernel)⟩ (Nat.le_of_ble_eq_true rfl) (Nat.le_of_ble_eq_true rfl) tx_d57 fun Yn H n57 hnw => ?_
  obtain ⟨hIn, hmo, hY_n57, hfr_n57, hke⟩ := hnw
  replace hs12 := y_slk hs12 (hke _ _ hY_this)
  replace hs23 := y_slk hs23 (hke _ _ hY_this)
  replace hs31 := y_slk hs31 (hke _ _ hY_this)
  replace hd_n35_2 := y_slk hd_n35_2 (hke _ _ hY_n35)
  replace hs42 := y_slk hs42 (hke _ _ hY_this)
  replace hs53 := y_slk hs53 (hke _ _ hY_this)
  replace hn_n28 := fun j hj => (z_atk (hke _ _ hY_n28)).trans (hn_n28 j hj)
  replace hY_this := hmo _ _ hY_this
  replace hY_n5 := hmo _ _ hY_n5
  replace hY_n16 := hmo _ _ hY_n16
  replace hY_n28 := hmo _ _ hY_n28
  replace hY_n35 := hmo _ _ hY_n35
  replace hY_n46 := hmo _ _ hY_n46
  replace hI := hIn
  clear hIn hmo hke
  refine lv_dup hx hb tx_d60 rfl ?_
  refine y_callC (z := (2, 39, 1, none, xM1021)) (b := n57) (rest := [.ref n57, .ref this]) (y_cok.of (x_cokIN (n := 0) (host := "TwinFires") X xm1021 rfl (x_cons (x_bw15 1 rfl rfl) (x_cons (x_bw0 8 rfl rfl) x_nilm)) (x_bn15 0 rfl rfl) (x_bw15 2 rfl rfl) rfl (fun Y av h => x_this h) (by decide +kernel) ⟨Nat.le_of_ble_eq_true rfl, Nat.le_of_ble_eq_true rfl⟩)) hY0 hI rfl tx_d61 hl.1 (Nat.le_of_ble_eq_true rfl) (Nat.le_of_ble_eq_true rfl) (Nat.le_of_ble_eq_true rfl) (y_cons (y_cref hY_n57 rfl) y_nil) rfl rfl trivial (y_sub_ef (by decide +kernel)) hfr_n57 rfl fun Yn Hn L hIn hY_n hk hE => ?_
  replace hs12 := y_Efld hE hY_this rfl (by decide) (by decide) hs12
  replace hs23 := y_Efld hE hY_this rfl (by decide) (by decide) hs23
  replace hs31 := y_Efld hE hY_this rfl (by decide) (by decide) hs31
  replace hd_n35_2 := y_Efld hE hY_n35 rfl (by decide) (by decide) hd_n35_2
  replace hs42 := y_Efld hE hY_this rfl (by decide) (by decide) hs42
  replace hs53 := y_Efld hE hY_this rfl (by decide) (by decide) hs53
  replace hn_n28 := fun j hj => (z_atk (y_Earr hE hY_n28 rfl (by decide))).trans (hn_n28 j hj)
  replace hY_this := hk _ _ (y_ne hY_this hY_n57 rfl) hY_this
  replace hY_n5 := hk _ _ (y_ne hY_n5 hY_n57 rfl) hY_n5
  replace hY_n16 := hk _ _ (y_ne hY_n16 hY_n57 rfl) hY_n16
  replace hY_n28 := hk _ _ (y_ne hY_n28 hY_n57 rfl) hY_n28
  replace hY_n35 := hk _ _ (y_ne hY_n35 hY_n57 rfl) hY_n35
  replace hY_n46 := hk _ _ (y_ne hY_n46 hY_n57 rfl) hY_n46
  replace hY_n57 := hY_n
  clear hI hE hk hY_n
  rename x_I _ _ _ _ _ _ _ _ _ _ => hI
  refine y_putf X (fw229 X.2.2.2.2.1 hnm) hY0 hI hY_this rfl rfl (y_crefA hY_n57 rfl) (by decide +kernel) tx_d64 fun H sl hI ho hs hk => ?_
  replace hs12 := hk _ _ (by decide +kernel) (by decide) hs12
  replace hs23 := hk _ _ (by decide +kernel) (by decide) hs23
  replace hs31 := hk _ _ (by decide +kernel) (by decide) hs31
  replace hd_n35_2 := y_slk hd_n35_2 (ho _ (y_ne hY_n35 hY_this rfl))
  replace hs42 := hk _ _ (by decide +kernel) (by decide) hs42
  replace hs53 := hk _ _ (by decide +kernel) (by decide) hs53
  replace hn_n28 := fun j hj => (z_atk (ho _ (y_ne hY_n28 hY_this rfl))).trans (hn_n28 j hj)
  replace hs := hs
  have hs64 := hs
  refine lv_aload_n hx hb tx_d67 rfl (lv_at hl 0 rfl) ?_
  refine lv_iconst hx hb tx_d68 (v := 3) (by decide) ?_
  have ec3 : (3 : Int32).toInt = 3 := by decide
  refine y_newaC (tag := 42) (k := 3) X hY0 hI rfl rfl (by decide) (hts _ (x_bw5 1 rfl rfl)) (fun Y j => x_dfa (by decide +kernel) Y j) (by decide) (Nat.le_of_ble_eq_true rfl) (Nat.le_of_ble_eq_true rfl) tx_d69 fun Yn H n69 hnw hct => ?_
  obtain ⟨hIn, hmo, hY_n69, hfr_n69, hke⟩ := hnw
  replace hs12 := y_slk hs12 (hke _ _ hY_this)
  replace hs23 := y_slk hs23 (hke _ _ hY_this)
  replace hs31 := y_slk hs31 (hke _ _ hY_this)
  replace hd_n35_2 := y_slk hd_n35_2 (hke _ _ hY_n35)
  replace hs42 := y_slk hs42 (hke _ _ hY_this)
  replace hs53 := y_slk hs53 (hke _ _ hY_this)
  replace hs64 := y_slk hs64 (hke _ _ hY_this)
  replace hn_n28 := fun j hj => (z_atk (hke _ _ hY_n28)).trans (hn_n28 j hj)
  replace hY_this := hmo _ _ hY_this
  replace hY_n5 := hmo _ _ hY_n5
  replace hY_n16 := hmo _ _ hY_n16
  replace hY_n28 := hmo _ _ hY_n28
  replace hY_n35 := hmo _ _ hY_n35
  replace hY_n46 := hmo _ _ hY_n46
  replace hY_n57 := hmo _ _ hY_n57
  replace hI := hIn
  clear hIn hmo hke
  clear hct
  refine y_putf X (fw230 X.2.2.2.2.1 hnm) hY0 hI hY_this rfl rfl (y_crefA hY_n69 rfl) (by decide +kernel) tx_d71 fun H sl hI ho hs hk => ?_
  replace hs12 := hk _ _ (by decide +kernel) (by decide) hs12
  replace hs23 := hk _ _ (by decide +kernel) (by decide) hs23
  replace hs31 := hk _ _ (by decide +kernel) (by decide) hs31
  replace hd_n35_2 := y_slk hd_n35_2 (ho _ (y_ne hY_n35 hY_this rfl))
  replace hs42 := hk _ _ (by decide +kernel) (by decide) hs42
  replace hs53 := hk _ _ (by decide +kernel) (by decide) hs53
  replace hs64 := hk _ _ (by decide +kernel) (by decide) hs64
  replace hn_n28 := fun j hj => (z_atk (ho _ (y_ne hY_n28 hY_this rfl))).trans (hn_n28 j hj)
  replace hs := hs
  have hs71 := hs
  refine lv_aload_n hx hb tx_d74 rfl (lv_at hl 0 rfl) ?_
  refine lv_lconst hx hb tx_d75 (v := 0) (by decide) ?_
  have el0 : (0 : Int64).toInt = 0 := by decide
  refine y_putf X (fw231 X.2.2.2.2.1) hY0 hI hY_this rfl rfl ⟨_, rfl, x_i64 _⟩ (by decide +kernel) tx_d76 fun H sl hI ho hs hk => ?_
  replace hs12 := hk _ _ (by decide +kernel) (by decide) hs12
  replace hs23 := hk _ _ (by decide +kernel) (by decide) hs23
  replace hs31 := hk _ _ (by decide +kernel) (by decide) hs31
  replace hd_n35_2 := y_slk hd_n35_2 (ho _ (y_ne hY_n35 hY_this rfl))
  replace hs42 := hk _ _ (by decide +kernel) (by decide) hs42
  replace hs53 := hk _ _ (by decide +kernel) (by decide) hs53
  replace hs64 := hk _ _ (by decide +kernel) (by decide) hs64
  replace hs71 := hk _ _ (by decide +kernel) (by decide) hs71
  replace hn_n28 := fun j hj => (z_atk (ho _ (y_ne hY_n28 hY_this rfl))).trans (hn_n28 j hj)
  replace hs := hs
  have hs76 := hs
  refine lv_aload_n hx hb tx_d79 rfl (lv_at hl 0 rfl) ?_
  refine lv_lconst hx hb tx_d80 (v := 1) (by decide) ?_
  have el1 : (1 : Int64).toInt = 1 := by decide
  refine y_putf X (fw232 X.2.2.2.2.1) hY0 hI hY_this rfl rfl ⟨_, rfl, x_i64 _⟩ (by decide +kernel) tx_d81 fun H sl hI ho hs hk => ?_
  replace hs12 := hk _ _ (by decide +kernel) (by decide) hs12
  replace hs23 := hk _ _ (by decide +kernel) (by decide) hs23
  replace hs31 := hk _ _ (by decide +kernel) (by decide) hs31
  replace hd_n35_2 := y_slk hd_n35_2 (ho _ (y_ne hY_n35 hY_this rfl))
  replace hs42 := hk _ _ (by decide +kernel) (by decide) hs42
  replace hs53 := hk _ _ (by decide +kernel) (by decide) hs53
  replace hs64 := hk _ _ (by decide +kernel) (by decide) hs64
  replace hs71 := hk _ _ (by decide +kernel) (by decide) hs71
  replace hs76 := hk _ _ (by decide +kernel) (by decide) hs76
  replace hn_n28 := fun j hj => (z_atk (ho _ (y_ne hY_n28 hY_this rfl))).trans (hn_n28 j hj)
  replace hs := hs
  have hs81 := hs
  have hYC := hY_this
  have hf : ∀ (k : Nat) (ft : xV), ([xR false [2], xR false [2], xR false [41], xR false [4], xR false [6], xR false [8], xR false [42], xFL, xFL])[k]? = some ft → ∃ v : Value, x_sl D 11 k this H = some v ∧ x_c Yn ft v ∧ x_nrT 1 ft = true := fun k ft hk => match k, hk with
      | 0, hk => by cases hk; exact ⟨_, hs12, y_crefA hY_n5 rfl, rfl⟩
      | 1, hk => by cases hk; exact ⟨_, hs23, y_crefA hY_n16 rfl, rfl⟩
      | 2, hk => by cases hk; exact ⟨_, hs31, y_crefA hY_n28 rfl, rfl⟩
      | 3, hk => by cases hk; exact ⟨_, hs42, y_crefA hY_n35 rfl, rfl⟩
      | 4, hk => by cases hk; exact ⟨_, hs53, y_crefA hY_n46 rfl, rfl⟩
      | 5, hk => by cases hk; exact ⟨_, hs64, y_crefA hY_n57 rfl, rfl⟩
      | 6, hk => by cases hk; exact ⟨_, hs71, y_crefA hY_n69 rfl, rfl⟩
      | 7, hk => by cases hk; obtain ⟨v, e1, e2⟩ := y_fld (k := 7) hI.1 hYC rfl rfl; exact ⟨v, e1, e2, rfl⟩
      | 8, hk => by cases hk; obtain ⟨v, e1, e2⟩ := y_fld (k := 8) hI.1 hYC rfl rfl; exact ⟨v, e1, e2, rfl⟩
      | k + 9, hk => by cases hk
  exact y_retC (o := (11, [xR false [2], xR false [2], xR false [41], xR false [4], xR false [6], xR false [8], xR false [42], xFL, xFL])) B hI rfl rfl hYC rfl rfl rfl rfl (by decide +kernel) (by decide +kernel) List.mem_cons_self hf (fun t' h1 => by cases h1; exact ⟨n28, n35, hs31, hs42, hn_n28, hd_n35_2⟩) (by exact Nat.le_of_ble_eq_true rfl) (by exact Nat.le_of_ble_eq_true rfl) tx_d84
def xMmx : xM := (⟨"TwinFiresModel", "<init>", "()V"⟩, prog_14_method_3_code, 2, none, [xR false [18]], [([xR false [17]], none)], [(18, 0), (18, 1), (18, 2), (18, 3), (18, 4), (18, 5), (18, 6), (18, 7), (18, 8), (18, 9), (18, 10), (18, 11), (18, 12), (18, 13), (18, 14), (18, 15), (18, 16), (18, 17), (18, 18), (18, 19), (18, 20), (18, 21), (18, 22), (18, 23), (18, 24), (18, 25), (18, 26), (46, 0)], (1, 20, 18, 61487), some 17)
theorem mx_d0 : decode xMmx.2.1 0 = .ok (.aload_n 0, 1) := dz_ok (by decide +kernel)
theorem mx_d1 : decode xMmx.2.1 1 = .ok (.invokespecial 1, 3) := dz_ok (by decide +kernel)
theorem mx_d4 : decode xMmx.2.1 4 = .ok (.aload_n 0, 1) := dz_ok (by decide +kernel)
theorem mx_d5 : decode xMmx.2.1 5 = .ok (.sipush 160, 3) := dz_ok (by decide +kernel)
theorem mx_d8 : decode xMmx.2.1 8 = .ok (.newarray .int, 2) := dz_ok (by decide +kernel)
theorem mx_d10 : decode xMmx.2.1 10 = .ok (.putfield 7, 3) := dz_ok (by decide +kernel)
theorem mx_d13 : decode xMmx.2.1 13 = .ok (.aload_n 0, 1) := dz_ok (by decide +kernel)
theorem mx_d14 : decode xMmx.2.1 14 = .ok (.sipush 320, 3) := dz_ok (by decide +kernel)
theorem mx_d17 : decode xMmx.2.1 17 = .ok (.newarray .int, 2) := dz_ok (by decide +kernel)
theorem mx_d19 : decode xMmx.2.1 19 = .ok (.putfield 13, 3) := dz_ok (by decide +kernel)
theorem mx_d22 : decode xMmx.2.1 22 = .ok (.aload_n 0, 1) := dz_ok (by decide +kernel)
theorem mx_d23 : decode xMmx.2.1 23 = .ok (.iconst 2, 1) := dz_ok (by decide +kernel)
theorem mx_d24 : decode xMmx.2.1 24 = .ok (.newarray .boolean, 2) := dz_ok (by decide +kernel)
theorem mx_d26 : decode xMmx.2.1 26 = .ok (.putfield 16, 3) := dz_ok (by decide +kernel)
theorem mx_d29 : decode xMmx.2.1 29 = .ok (.aload_n 0, 1) := dz_ok (by decide +kernel)
theorem mx_d30 : decode xMmx.2.1 30 = .ok (.sipush 160, 3) := dz_ok (by decide +kernel)
theorem mx_d33 : decode xMmx.2.1 33 = .ok (.newarray .int, 2) := dz_ok (by decide +kernel)
theorem mx_d35 : decode xMmx.2.1 35 = .ok (.putfield 20, 3) := dz_ok (by decide +kernel)
theorem mx_d38 : decode xMmx.2.1 38 = .ok (.aload_n 0, 1) := dz_ok (by decide +kernel)
theorem mx_d39 : decode xMmx.2.1 39 = .ok (.iconst 3, 1) := dz_ok (by decide +kernel)
theorem mx_d40 : decode xMmx.2.1 40 = .ok (.newarray .int, 2) := dz_ok (by decide +kernel)
theorem mx_d42 : decode xMmx.2.1 42 = .ok (.putfield 23, 3) := dz_ok (by decide +kernel)
theorem mx_d45 : decode xMmx.2.1 45 = .ok (.aload_n 0, 1) := dz_ok (by decide +kernel)
theorem mx_d46 : decode xMmx.2.1 46 = .ok (.bipush 10, 2) := dz_ok (by decide +kernel)
theorem mx_d48 : decode xMmx.2.1 48 = .ok (.newarray .int, 2) := dz_ok (by decide +kernel)
theorem mx_d50 : decode xMmx.2.1 50 = .ok (.putfield 26, 3) := dz_ok (by decide +kernel)
theorem mx_d53 : decode xMmx.2.1 53 = .ok (.aload_n 0, 1) := dz_ok (by decide +kernel)
theorem mx_d54 : decode xMmx.2.1 54 = .ok (.sipush 240, 3) := dz_ok (by decide +kernel)
theorem mx_d57 : decode xMmx.2.1 57 = .ok (.newarray .int, 2) := dz_ok (by decide +kernel)
theorem mx_d59 : decode xMmx.2.1 59 = .ok (.putfield 29, 3) := dz_ok (by decide +kernel)
theorem mx_d62 : decode xMmx.2.1 62 = .ok (.aload_n 0, 1) := dz_ok (by decide +kernel)
theorem mx_d63 : decode xMmx.2.1 63 = .ok (.sipush 240, 3) := dz_ok (by decide +kernel)
theorem mx_d66 : decode xMmx.2.1 66 = .ok (.newarray .int, 2) := dz_ok (by decide +kernel)
theorem mx_d68 : decode xMmx.2.1 68 = .ok (.putfield 32, 3) := dz_ok (by decide +kernel)
theorem mx_d71 : decode xMmx.2.1 71 = .ok (.aload_n 0, 1) := dz_ok (by decide +kernel)
theorem mx_d72 : decode xMmx.2.1 72 = .ok (.sipush 960, 3) := dz_ok (by decide +kernel)
theorem mx_d75 : decode xMmx.2.1 75 = .ok (.newarray .int, 2) := dz_ok (by decide +kernel)
theorem mx_d77 : decode xMmx.2.1 77 = .ok (.putfield 35, 3) := dz_ok (by decide +kernel)
theorem mx_d80 : decode xMmx.2.1 80 = .ok (.aload_n 0, 1) := dz_ok (by decide +kernel)
theorem mx_d81 : decode xMmx.2.1 81 = .ok (.sipush 1024, 3) := dz_ok (by decide +kernel)
theorem mx_d84 : decode xMmx.2.1 84 = .ok (.newarray .boolean, 2) := dz_ok (by decide +kernel)
theorem mx_d86 : decode xMmx.2.1 86 = .ok (.putfield 38, 3) := dz_ok (by decide +kernel)
theorem mx_d89 : decode xMmx.2.1 89 = .ok (.aload_n 0, 1) := dz_ok (by decide +kernel)
theorem mx_d90 : decode xMmx.2.1 90 = .ok (.sipush 1024, 3) := dz_ok (by decide +kernel)
theorem mx_d93 : decode xMmx.2.1 93 = .ok (.newarray .int, 2) := dz_ok (by decide +kernel)
theorem mx_d95 : decode xMmx.2.1 95 = .ok (.putfield 41, 3) := dz_ok (by decide +kernel)
theorem mx_d98 : decode xMmx.2.1 98 = .ok (.aload_n 0, 1) := dz_ok (by decide +kernel)
theorem mx_d99 : decode xMmx.2.1 99 = .ok (.sipush 1024, 3) := dz_ok (by decide +kernel)
theorem mx_d102 : decode xMmx.2.1 102 = .ok (.newarray .int, 2) := dz_ok (by decide +kernel)
theorem mx_d104 : decode xMmx.2.1 104 = .ok (.putfield 44, 3) := dz_ok (by decide +kernel)
theorem mx_d107 : decode xMmx.2.1 107 = .ok (.aload_n 0, 1) := dz_ok (by decide +kernel)
theorem mx_d108 : decode xMmx.2.1 108 = .ok (.sipush 1024, 3) := dz_ok (by decide +kernel)
theorem mx_d111 : decode xMmx.2.1 111 = .ok (.newarray .boolean, 2) := dz_ok (by decide +kernel)
theorem mx_d113 : decode xMmx.2.1 113 = .ok (.putfield 47, 3) := dz_ok (by decide +kernel)
theorem mx_d116 : decode xMmx.2.1 116 = .ok (.aload_n 0, 1) := dz_ok (by decide +kernel)
theorem mx_d117 : decode xMmx.2.1 117 = .ok (.sipush 12288, 3) := dz_ok (by decide +kernel)
theorem mx_d120 : decode xMmx.2.1 120 = .ok (.newarray .boolean, 2) := dz_ok (by decide +kernel)
theorem mx_d122 : decode xMmx.2.1 122 = .ok (.putfield 50, 3) := dz_ok (by decide +kernel)
theorem mx_d125 : decode xMmx.2.1 125 = .ok (.aload_n 0, 1) := dz_ok (by decide +kernel)
theorem mx_d126 : decode xMmx.2.1 126 = .ok (.sipush 12288, 3) := dz_ok (by decide +kernel)
theorem mx_d129 : decode xMmx.2.1 129 = .ok (.newarray .boolean, 2) := dz_ok (by decide +kernel)
theorem mx_d131 : decode xMmx.2.1 131 = .ok (.putfield 53, 3) := dz_ok (by decide +kernel)
theorem mx_d134 : decode xMmx.2.1 134 = .ok (.aload_n 0, 1) := dz_ok (by decide +kernel)
theorem mx_d135 : decode xMmx.2.1 135 = .ok (.sipush 12288, 3) := dz_ok (by decide +kernel)
theorem mx_d138 : decode xMmx.2.1 138 = .ok (.newarray .boolean, 2) := dz_ok (by decide +kernel)
theorem mx_d140 : decode xMmx.2.1 140 = .ok (.putfield 56, 3) := dz_ok (by decide +kernel)
theorem mx_d143 : decode xMmx.2.1 143 = .ok (.aload_n 0, 1) := dz_ok (by decide +kernel)
theorem mx_d144 : decode xMmx.2.1 144 = .ok (.sipush 9216, 3) := dz_ok (by decide +kernel)
theorem mx_d147 : decode xMmx.2.1 147 = .ok (.newarray .int, 2) := dz_ok (by decide +kernel)
theorem mx_d149 : decode xMmx.2.1 149 = .ok (.putfield 59, 3) := dz_ok (by decide +kernel)
theorem mx_d152 : decode xMmx.2.1 152 = .ok (.aload_n 0, 1) := dz_ok (by decide +kernel)
theorem mx_d153 : decode xMmx.2.1 153 = .ok (.sipush 9216, 3) := dz_ok (by decide +kernel)
theorem mx_d156 : decode xMmx.2.1 156 = .ok (.newarray .int, 2) := dz_ok (by decide +kernel)
theorem mx_d158 : decode xMmx.2.1 158 = .ok (.putfield 62, 3) := dz_ok (by decide +kernel)
theorem mx_d161 : decode xMmx.2.1 161 = .ok (.aload_n 0, 1) := dz_ok (by decide +kernel)
theorem mx_d162 : decode xMmx.2.1 162 = .ok (.invokevirtual 65, 3) := dz_ok (by decide +kernel)
theorem mx_d165 : decode xMmx.2.1 165 = .ok (.aload_n 0, 1) := dz_ok (by decide +kernel)
theorem mx_d166 : decode xMmx.2.1 166 = .ok (.getfield 7, 3) := dz_ok (by decide +kernel)
theorem mx_d169 : decode xMmx.2.1 169 = .ok (.bipush 7, 2) := dz_ok (by decide +kernel)
theorem mx_d171 : decode xMmx.2.1 171 = .ok (.bipush 9, 2) := dz_ok (by decide +kernel)
theorem mx_d173 : decode xMmx.2.1 173 = .ok (.iastore, 1) := dz_ok (by decide +kernel)
theorem mx_d174 : decode xMmx.2.1 174 = .ok (.iconst 0, 1) := dz_ok (by decide +kernel)
theorem mx_d175 : decode xMmx.2.1 175 = .ok (.istore_n 1, 1) := dz_ok (by decide +kernel)
theorem mx_d176 : decode xMmx.2.1 176 = .ok (.iload_n 1, 1) := dz_ok (by decide +kernel)
theorem mx_d177 : decode xMmx.2.1 177 = .ok (.bipush 12, 2) := dz_ok (by decide +kernel)
theorem mx_d179 : decode xMmx.2.1 179 = .ok (.if_icmp .ge 22, 3) := dz_ok (by decide +kernel)
theorem mx_d182 : decode xMmx.2.1 182 = .ok (.aload_n 0, 1) := dz_ok (by decide +kernel)
theorem mx_d183 : decode xMmx.2.1 183 = .ok (.getfield 7, 3) := dz_ok (by decide +kernel)
theorem mx_d186 : decode xMmx.2.1 186 = .ok (.sipush 136, 3) := dz_ok (by decide +kernel)
theorem mx_d189 : decode xMmx.2.1 189 = .ok (.iconst 2, 1) := dz_ok (by decide +kernel)
theorem mx_d190 : decode xMmx.2.1 190 = .ok (.iload_n 1, 1) := dz_ok (by decide +kernel)
theorem mx_d191 : decode xMmx.2.1 191 = .ok (.imul, 1) := dz_ok (by decide +kernel)
theorem mx_d192 : decode xMmx.2.1 192 = .ok (.iadd, 1) := dz_ok (by decide +kernel)
theorem mx_d193 : decode xMmx.2.1 193 = .ok (.iconst (-1), 1) := dz_ok (by decide +kernel)
theorem mx_d194 : decode xMmx.2.1 194 = .ok (.iastore, 1) := dz_ok (by decide +kernel)
theorem mx_d195 : decode xMmx.2.1 195 = .ok (.iinc 1 1, 3) := dz_ok (by decide +kernel)
theorem mx_d198 : decode xMmx.2.1 198 = .ok (.goto (-22), 3) := dz_ok (by decide +kernel)
theorem mx_d201 : decode xMmx.2.1 201 = .ok (.aload_n 0, 1) := dz_ok (by decide +kernel)
theorem mx_d202 : decode xMmx.2.1 202 = .ok (.lconst 1, 1) := dz_ok (by decide +kernel)
theorem mx_d203 : decode xMmx.2.1 203 = .ok (.putfield 68, 3) := dz_ok (by decide +kernel)
theorem mx_d206 : decode xMmx.2.1 206 = .ok (.return_, 1) := dz_ok (by decide +kernel)
theorem mx_L176 {p : Program} {l : Launch} {e : Env} {s : State} {m : MethodId} {below : List Frame} {meth : Method} {c : Code} {D : va_G} {U : State} {Y0 : xY} {av : List Value} (B : y_B vwCl x_Tb x_Nb xMmx p s m meth c D U Y0 av) {this n8 n17 n24 n33 n40 n48 n57 n66 n75 n84 n93 n102 n111 n120 n129 n138 n147 n156 : Nat} {ty : Int32} (hav : av = [.ref this]) (hty : x_sl D 12 10 this s.heap = some (.int ty))  :
    ∀ (n : Nat), ∀ (H : Heap) (Y : xY) (locs : List Loc) (ls : Array Slot) (i : Int32) (fb : Nat → Int32), x_I D x_G x_Zs U (x_efs xMmx) Y0 s.heap Y H locs → Y this = some 18 → Y n8 = some 46 → Y n17 = some 47 → Y n24 = some 48 → Y n33 = some 49 → Y n40 = some 50 → Y n48 = some 51 → Y n57 = some 52 → Y n66 = some 53 → Y n75 = some 54 → Y n84 = some 55 → Y n93 = some 56 → Y n102 = some 57 → Y n111 = some 58 → Y n120 = some 59 → Y n129 = some 60 → Y n138 = some 61 → Y n147 = some 62 → Y n156 = some 63 → x_sl D 12 0 this H = some (.ref n8) → x_sl D 12 1 this H = some (.ref n17) → x_sl D 12 2 this H = some (.ref n24) → x_sl D 12 3 this H = some (.ref n33) → x_sl D 12 4 this H = some (.ref n40) → x_sl D 12 8 this H = some (.ref n48) → x_sl D 12 9 this H = some (.ref n57) → x_sl D 12 15 this H = some (.ref n66) → x_sl D 12 16 this H = some (.ref n75) → x_sl D 12 18 this H = some (.ref n84) → x_sl D 12 19 this H = some (.ref n93) → x_sl D 12 20 this H = some (.ref n102) → x_sl D 12 21 this H = some (.ref n111) → x_sl D 12 22 this H = some (.ref n120) → x_sl D 12 23 this H = some (.ref n129) → x_sl D 12 24 this H = some (.ref n138) → x_sl D 12 25 this H = some (.ref n147) → x_sl D 12 26 this H = some (.ref n156) → x_sl D 12 10 this H = some (.int ty) → y_A n8 160 H fb → y_A n24 2 H (fun _ => 0) → lv_has ls xMmx.2.2.1 [(1, .int i), (0, .ref this)] → (0 ≤ i.toInt ∧ i.toInt ≤ 12) → (12 - i.toInt).toNat < n → W p l e (x_rm xMmx) s m av.toArray below meth c H locs 18 61487 (y_QQ below D x_G x_Zs U xMmx z_Pmi av Y0 s) (F0 m 176 ls []) := by
  have X := B.1
  have hx := X.1
  have hb := X.2.1
  have hY0 := B.2.2.2.2.1
  have hts := X.2.2.2.2.1
  have hnm := B.2.2.2.1
  intro n
  induction n with
  | zero => intro _ _ _ _ _ _ _ _ _ _ _ _ _ _ _ _ _ _ _ _ _ _ _ _ _ _ _ _ _ _ _ _ _ _ _ _ _ _ _ _ _ _ _ _ _ _ _ _ _ h; exact absurd h (Nat.not_lt_zero _)
  | succ n ih =>
    intro H Y locs ls i fb hI hY_this hY_n8 hY_n17 hY_n24 hY_n33 hY_n40 hY_n48 hY_n57 hY_n66 hY_n75 hY_n84 hY_n93 hY_n102 hY_n111 hY_n120 hY_n129 hY_n138 hY_n147 hY_n156 hs_n8 hs_n17 hs_n24 hs_n33 hs_n40 hs_n48 hs_n57 hs_n66 hs_n75 hs_n84 hs_n93 hs_n102 hs_n111 hs_n120 hs_n129 hs_n138 hs_n147 hs_n156 hsi_typed hA_n8 hA_n24 hl hi hn
    refine lv_iload_n hx hb mx_d176 rfl (lv_at hl 0 rfl) ?_
    refine lv_bipush hx hb mx_d177 (v := 12) (by decide) ?_
    have ec12 : (12 : Int32).toInt = 12 := by decide
    refine lv_icmp_ge hx hb mx_d179 (tgt := 201) (by decide) (fun q179 => ?_) (fun q179 => ?_)
    · have q179_ : (12 : Int32).toInt ≤ i.toInt := x_le32.mp q179
      refine lv_aload_n hx hb mx_d201 rfl (lv_at hl 1 rfl) ?_
      refine lv_lconst hx hb mx_d202 (v := 1) (by decide) ?_
      have el1 : (1 : Int64).toInt = 1 := by decide
      refine y_putf X (fw_mx_233 X.2.2.2.2.1) hY0 hI hY_this rfl rfl ⟨_, rfl, x_i64 _⟩ (by decide +kernel) mx_d203 fun H sl hI ho hs hk => ?_
      replace hs_n8 := hk _ _ (by decide +kernel) (by decide) hs_n8
      replace hs_n17 := hk _ _ (by decide +kernel) (by decide) hs_n17
      replace hs_n24 := hk _ _ (by decide +kernel) (by decide) hs_n24
      replace hs_n33 := hk _ _ (by decide +kernel) (by decide) hs_n33
      replace hs_n40 := hk _ _ (by decide +kernel) (by decide) hs_n40
      replace hs_n48 := hk _ _ (by decide +kernel) (by decide) hs_n48
      replace hs_n57 := hk _ _ (by decide +kernel) (by decide) hs_n57
      replace hs_n66 := hk _ _ (by decide +kernel) (by decide) hs_n66
      replace hs_n75 := hk _ _ (by decide +kernel) (by decide) hs_n75
      replace hs_n84 := hk _ _ (by decide +kernel) (by decide) hs_n84
      replace hs_n93 := hk _ _ (by decide +kernel) (by decide) hs_n93
      replace hs_n102 := hk _ _ (by decide +kernel) (by decide) hs_n102
      replace hs_n111 := hk _ _ (by decide +kernel) (by decide) hs_n111
      replace hs_n120 := hk _ _ (by decide +kernel) (by decide) hs_n120
      replace hs_n129 := hk _ _ (by decide +kernel) (by decide) hs_n129
      replace hs_n138 := hk _ _ (by decide +kernel) (by decide) hs_n138
      replace hs_n147 := hk _ _ (by decide +kernel) (by decide) hs_n147
      replace hs_n156 := hk _ _ (by decide +kernel) (by decide) hs_n156
      replace hsi_typed := hk _ _ (by decide +kernel) (by decide) hsi_typed
      replace hA_n8 := hA_n8.kept (ho _ (y_ne hY_n8 hY_this rfl))
      replace hA_n24 := hA_n24.kept (ho _ (y_ne hY_n24 hY_this rfl))
      replace hs := hs
      have hs203 := hs
      subst hav
      have hYC := hY_this
      have hf : ∀ (k : Nat) (ft : xV), ([xR false [46], xR false [47], xR false [48], xR false [49], xR false [50], xI 0 1, xFL, xFL, xR false [51], xR false [52], xI 0 240, xI 0 240, xF, xF, xF, xR false [53], xR false [54], xI 0 240, xR false [55], xR false [56], xR false [57], xR false [58], xR false [59], xR false [60], xR false [61], xR false [62], xR false [63]])[k]? = some ft → ∃ v : Value, x_sl D 12 k this H = some v ∧ x_c Y ft v ∧ x_nrT 18 ft = true := fun k ft hk => match k, hk with
          | 0, hk => by cases hk; exact ⟨_, hs_n8, y_crefA hY_n8 rfl, rfl⟩
          | 1, hk => by cases hk; exact ⟨_, hs_n17, y_crefA hY_n17 rfl, rfl⟩
          | 2, hk => by cases hk; exact ⟨_, hs_n24, y_crefA hY_n24 rfl, rfl⟩
          | 3, hk => by cases hk; exact ⟨_, hs_n33, y_crefA hY_n33 rfl, rfl⟩
          | 4, hk => by cases hk; exact ⟨_, hs_n40, y_crefA hY_n40 rfl, rfl⟩
          | 5, hk => by cases hk; obtain ⟨v, e1, e2⟩ := y_fld (k := 5) hI.1 hYC rfl rfl; exact ⟨v, e1, e2, rfl⟩
          | 6, hk => by cases hk; obtain ⟨v, e1, e2⟩ := y_fld (k := 6) hI.1 hYC rfl rfl; exact ⟨v, e1, e2, rfl⟩
          | 7, hk => by cases hk; obtain ⟨v, e1, e2⟩ := y_fld (k := 7) hI.1 hYC rfl rfl; exact ⟨v, e1, e2, rfl⟩
          | 8, hk => by cases hk; exact ⟨_, hs_n48, y_crefA hY_n48 rfl, rfl⟩
          | 9, hk => by cases hk; exact ⟨_, hs_n57, y_crefA hY_n57 rfl, rfl⟩
          | 10, hk => by cases hk; obtain ⟨v, e1, e2⟩ := y_fld (k := 10) hI.1 hYC rfl rfl; exact ⟨v, e1, e2, rfl⟩
          | 11, hk => by cases hk; obtain ⟨v, e1, e2⟩ := y_fld (k := 11) hI.1 hYC rfl rfl; exact ⟨v, e1, e2, rfl⟩
          | 12, hk => by cases hk; obtain ⟨v, e1, e2⟩ := y_fld (k := 12) hI.1 hYC rfl rfl; exact ⟨v, e1, e2, rfl⟩
          | 13, hk => by cases hk; obtain ⟨v, e1, e2⟩ := y_fld (k := 13) hI.1 hYC rfl rfl; exact ⟨v, e1, e2, rfl⟩
          | 14, hk => by cases hk; obtain ⟨v, e1, e2⟩ := y_fld (k := 14) hI.1 hYC rfl rfl; exact ⟨v, e1, e2, rfl⟩
          | 15, hk => by cases hk; exact ⟨_, hs_n66, y_crefA hY_n66 rfl, rfl⟩
          | 16, hk => by cases hk; exact ⟨_, hs_n75, y_crefA hY_n75 rfl, rfl⟩
          | 17, hk => by cases hk; obtain ⟨v, e1, e2⟩ := y_fld (k := 17) hI.1 hYC rfl rfl; exact ⟨v, e1, e2, rfl⟩
          | 18, hk => by cases hk; exact ⟨_, hs_n84, y_crefA hY_n84 rfl, rfl⟩
          | 19, hk => by cases hk; exact ⟨_, hs_n93, y_crefA hY_n93 rfl, rfl⟩
          | 20, hk => by cases hk; exact ⟨_, hs_n102, y_crefA hY_n102 rfl, rfl⟩
          | 21, hk => by cases hk; exact ⟨_, hs_n111, y_crefA hY_n111 rfl, rfl⟩
          | 22, hk => by cases hk; exact ⟨_, hs_n120, y_crefA hY_n120 rfl, rfl⟩
          | 23, hk => by cases hk; exact ⟨_, hs_n129, y_crefA hY_n129 rfl, rfl⟩
          | 24, hk => by cases hk; exact ⟨_, hs_n138, y_crefA hY_n138 rfl, rfl⟩
          | 25, hk => by cases hk; exact ⟨_, hs_n147, y_crefA hY_n147 rfl, rfl⟩
          | 26, hk => by cases hk; exact ⟨_, hs_n156, y_crefA hY_n156 rfl, rfl⟩
          | k + 27, hk => by cases hk
      exact y_retC (o := (12, [xR false [46], xR false [47], xR false [48], xR false [49], xR false [50], xI 0 1, xFL, xFL, xR false [51], xR false [52], xI 0 240, xI 0 240, xF, xF, xF, xR false [53], xR false [54], xI 0 240, xR false [55], xR false [56], xR false [57], xR false [58], xR false [59], xR false [60], xR false [61], xR false [62], xR false [63]])) B hI rfl rfl hYC rfl rfl rfl rfl (by decide +kernel) (by decide +kernel) List.mem_cons_self hf (fun t' h1 h2 => by cases h1; cases hty.symm.trans h2; exact ⟨n24, hs_n24, hA_n24, hsi_typed⟩) (by exact Nat.le_of_ble_eq_true rfl) (by exact Nat.le_of_ble_eq_true rfl) mx_d206
    · have q179_ : i.toInt < (12 : Int32).toInt := Int.not_le.mp fun q => q179 (x_le32.mpr q)
      refine lv_aload_n hx hb mx_d182 rfl (lv_at hl 1 rfl) ?_
      refine y_getf X (fl_mx_234 X.2.2.2.2.1) hI.1 hY_this rfl hs_n8 mx_d183 ?_
      refine lv_sipush hx hb mx_d186 (v := 136) (by decide) ?_
      have ec136 : (136 : Int32).toInt = 136 := by decide
      refine lv_iconst hx hb mx_d189 (v := 2) (by decide) ?_
      have ec2 : (2 : Int32).toInt = 2 := by decide
      refine lv_iload_n hx hb mx_d190 rfl (lv_at hl 0 rfl) ?_
      refine lv_imul hx hb mx_d191 ?_
      generalize hg_z191 : (2 : Int32) * i = z191
      have h_z191 : z191.toInt = 2 * i.toInt := by rw [← hg_z191]; have := y_mul (x := (2 : Int32)) (y := i) (by rw [ec2]; omega) (by rw [ec2]; omega); rw [ec2] at this; exact this
      refine lv_iadd hx hb mx_d192 ?_
      generalize hg_z192 : (136 : Int32) + z191 = z192
      have h_z192 : z192.toInt = 136 + z191.toInt := by rw [← hg_z192]; have := y_add (x := (136 : Int32)) (y := z191) (by rw [ec136]; omega) (by rw [ec136]; omega); rw [ec136] at this; exact this
      refine lv_iconst hx hb mx_d193 (v := (-1)) (by decide) ?_
      have ecm1 : ((-1) : Int32).toInt = (-1) := by decide
      refine y_iast X hY0 hI hY_n8 rfl hA_n8 (by omega) (by show _ < (160 : Int); omega) (by rw [z_get3 (by omega)]; exact ⟨_, rfl, x_i32 _⟩) (by decide +kernel) mx_d194 fun H locs hI h_new ho => ?_
      replace hA_n8 := h_new
      generalize hf_f194 : y_up fb z192.toInt.toNat ((-1) : Int32) = f194 at hA_n8
      replace hs_n8 := y_slk hs_n8 (ho _ (y_ne hY_this hY_n8 rfl))
      replace hs_n17 := y_slk hs_n17 (ho _ (y_ne hY_this hY_n8 rfl))
      replace hs_n24 := y_slk hs_n24 (ho _ (y_ne hY_this hY_n8 rfl))
      replace hs_n33 := y_slk hs_n33 (ho _ (y_ne hY_this hY_n8 rfl))
      replace hs_n40 := y_slk hs_n40 (ho _ (y_ne hY_this hY_n8 rfl))
      replace hs_n48 := y_slk hs_n48 (ho _ (y_ne hY_this hY_n8 rfl))
      replace hs_n57 := y_slk hs_n57 (ho _ (y_ne hY_this hY_n8 rfl))
      replace hs_n66 := y_slk hs_n66 (ho _ (y_ne hY_this hY_n8 rfl))
      replace hs_n75 := y_slk hs_n75 (ho _ (y_ne hY_this hY_n8 rfl))
      replace hs_n84 := y_slk hs_n84 (ho _ (y_ne hY_this hY_n8 rfl))
      replace hs_n93 := y_slk hs_n93 (ho _ (y_ne hY_this hY_n8 rfl))
      replace hs_n102 := y_slk hs_n102 (ho _ (y_ne hY_this hY_n8 rfl))
      replace hs_n111 := y_slk hs_n111 (ho _ (y_ne hY_this hY_n8 rfl))
      replace hs_n120 := y_slk hs_n120 (ho _ (y_ne hY_this hY_n8 rfl))
      replace hs_n129 := y_slk hs_n129 (ho _ (y_ne hY_this hY_n8 rfl))
      replace hs_n138 := y_slk hs_n138 (ho _ (y_ne hY_this hY_n8 rfl))
      replace hs_n147 := y_slk hs_n147 (ho _ (y_ne hY_this hY_n8 rfl))
      replace hs_n156 := y_slk hs_n156 (ho _ (y_ne hY_this hY_n8 rfl))
      replace hsi_typed := y_slk hsi_typed (ho _ (y_ne hY_this hY_n8 rfl))
      replace hA_n24 := hA_n24.kept (ho _ (y_ne hY_n24 hY_n8 rfl))
      obtain ⟨z195, hg_z195⟩ : ∃ z195 : Int32, i + Int32.ofInt 1 = z195 := ⟨_, rfl⟩
      have h_z195 : z195.toInt = i.toInt + 1 := by rw [← hg_z195]; exact y_inc (by decide) (by omega) (by omega)
      refine lv_iinc hx hb mx_d195 hl (k := 0) rfl hg_z195 (by decide) (lv' := [(1, .int z195), (0, .ref this)]) rfl fun ls hl => ?_
      refine lv_goto hx hb mx_d198 (tgt := 176) (by decide) ?_
      exact ih _ _ _ _ _ _ hI hY_this hY_n8 hY_n17 hY_n24 hY_n33 hY_n40 hY_n48 hY_n57 hY_n66 hY_n75 hY_n84 hY_n93 hY_n102 hY_n111 hY_n120 hY_n129 hY_n138 hY_n147 hY_n156 hs_n8 hs_n17 hs_n24 hs_n33 hs_n40 hs_n48 hs_n57 hs_n66 hs_n75 hs_n84 hs_n93 hs_n102 hs_n111 hs_n120 hs_n129 hs_n138 hs_n147 hs_n156 hsi_typed hA_n8 hA_n24 (lv_sub hl [0, 1] rfl) (by first | assumption | omega) (by omega)
theorem ym_modInit : y_Met vwCl x_G x_Zs x_Tb x_Nb xMmx y_T z_Pmi := by
  refine y_main (by decide +kernel) (by decide +kernel) x_Tb_good x_Nb_ok ?_
  intro p l e s m below meth c D U Y0 av ls B hI _ hl
  have X := B.1
  have hx := X.1
  have hb := X.2.1
  have hY0 := B.2.2.2.2.1
  have hts := X.2.2.2.2.1
  have hnm := B.2.2.2.1
  obtain ⟨v0, rfl, hv0⟩ := x_one B.2.2.2.2.2
  obtain ⟨this, t0, rfl, ht0, hY_this⟩ := x_ref_at hv0 rfl
  obtain rfl := List.mem_singleton.mp ht0
  replace hl : lv_has ls xMmx.2.2.1 [(0, .ref this)] := hl
  obtain ⟨ty, hsi_typed, -⟩ := y_fldI (k := 10) hI.1 hY_this rfl rfl
  have hty0 := hsi_typed
  refine lv_aload_n hx hb mx_d0 rfl (lv_at hl 0 rfl) ?_
  refine y_oi X (hts _ (x_bw61 14 rfl rfl)) (hts _ (x_bw1 12 rfl rfl)) (hts _ (x_bw1 13 rfl rfl)) (Nat.le_of_ble_eq_true rfl) (Nat.le_of_ble_eq_true rfl) hl.1 (Nat.le_of_ble_eq_true rfl) mx_d1 ?_
  refine lv_aload_n hx hb mx_d4 rfl (lv_at hl 0 rfl) ?_
  refine lv_sipush hx hb mx_d5 (v := 160) (by decide) ?_
  have ec160 : (160 : Int32).toInt = 160 := by decide
  refine y_newaC (tag := 46) (k := 160) X hY0 hI rfl rfl (by decide) (hts _ (x_bw5 1 rfl rfl)) (fun Y j => x_dfa (by decide +kernel) Y j) (by decide) (Nat.le_of_ble_eq_true rfl) (Nat.le_of_ble_eq_true rfl) mx_d8 fun Yn H n8 hnw hct => ?_
  obtain ⟨hIn, hmo, hY_n8, hfr_n8, hke⟩ := hnw
  replace hsi_typed := y_slk hsi_typed (hke _ _ hY_this)
  replace hY_this := hmo _ _ hY_this
  replace hI := hIn
  clear hIn hmo hke
  clear hct
  refine y_putf X (fw_mx_235 X.2.2.2.2.1 hnm) hY0 hI hY_this rfl rfl (y_crefA hY_n8 rfl) (by decide +kernel) mx_d10 fun H sl hI ho hs hk => ?_
  replace hsi_typed := hk _ _ (by decide +kernel) (by decide) hsi_typed
  replace hs := hs
  have hs10 := hs
  refine lv_aload_n hx hb mx_d13 rfl (lv_at hl 0 rfl) ?_
  refine lv_sipush hx hb mx_d14 (v := 320) (by decide) ?_
  have ec320 : (320 : Int32).toInt = 320 := by decide
  refine y_newaC (tag := 47) (k := 320) X hY0 hI rfl rfl (by decide) (hts _ (x_bw5 1 rfl rfl)) (fun Y j => x_dfa (by decide +kernel) Y j) (by decide) (Nat.le_of_ble_eq_true rfl) (Nat.le_of_ble_eq_true rfl) mx_d17 fun Yn H n17 hnw hct => ?_
  obtain ⟨hIn, hmo, hY_n17, hfr_n17, hke⟩ := hnw
  replace hsi_typed := y_slk hsi_typed (hke _ _ hY_this)
  replace hs10 := y_slk hs10 (hke _ _ hY_this)
  replace hY_this := hmo _ _ hY_this
  replace hY_n8 := hmo _ _ hY_n8
  replace hI := hIn
  clear hIn hmo hke
  clear hct
  refine y_putf X (fw_mx_236 X.2.2.2.2.1 hnm) hY0 hI hY_this rfl rfl (y_crefA hY_n17 rfl) (by decide +kernel) mx_d19 fun H sl hI ho hs hk => ?_
  replace hsi_typed := hk _ _ (by decide +kernel) (by decide) hsi_typed
  replace hs10 := hk _ _ (by decide +kernel) (by decide) hs10
  replace hs := hs
  have hs19 := hs
  refine lv_aload_n hx hb mx_d22 rfl (lv_at hl 0 rfl) ?_
  refine lv_iconst hx hb mx_d23 (v := 2) (by decide) ?_
  have ec2 : (2 : Int32).toInt = 2 := by decide
  refine y_newaC (tag := 48) (k := 2) X hY0 hI rfl rfl (by decide) (hts _ (x_bw67 5 rfl rfl)) (fun Y j => x_dfa (by decide +kernel) Y j) (by decide) (Nat.le_of_ble_eq_true rfl) (Nat.le_of_ble_eq_true rfl) mx_d24 fun Yn H n24 hnw hct => ?_
  obtain ⟨hIn, hmo, hY_n24, hfr_n24, hke⟩ := hnw
  replace hsi_typed := y_slk hsi_typed (hke _ _ hY_this)
  replace hs10 := y_slk hs10 (hke _ _ hY_this)
  replace hs19 := y_slk hs19 (hke _ _ hY_this)
  replace hY_this := hmo _ _ hY_this
  replace hY_n8 := hmo _ _ hY_n8
  replace hY_n17 := hmo _ _ hY_n17
  replace hI := hIn
  clear hIn hmo hke
  have hA_n24 : y_A n24 2 H (fun _ => 0) := fun j hj => hct j hj
  clear hct
  refine y_putf X (fw_mx_237 X.2.2.2.2.1 hnm) hY0 hI hY_this rfl rfl (y_crefA hY_n24 rfl) (by decide +kernel) mx_d26 fun H sl hI ho hs hk => ?_
  replace hsi_typed := hk _ _ (by decide +kernel) (by decide) hsi_typed
  replace hs10 := hk _ _ (by decide +kernel) (by decide) hs10
  replace hs19 := hk _ _ (by decide +kernel) (by decide) hs19
  replace hA_n24 := hA_n24.kept (ho _ (y_ne hY_n24 hY_this rfl))
  replace hs := hs
  have hs26 := hs
  refine lv_aload_n hx hb mx_d29 rfl (lv_at hl 0 rfl) ?_
  refine lv_sipush hx hb mx_d30 (v := 160) (by decide) ?_
  refine y_newaC (tag := 49) (k := 160) X hY0 hI rfl rfl (by decide) (hts _ (x_bw5 1 rfl rfl)) (fun Y j => x_dfa (by decide +kernel) Y j) (by decide) (Nat.le_of_ble_eq_true rfl) (Nat.le_of_ble_eq_true rfl) mx_d33 fun Yn H n33 hnw hct => ?_
  obtain ⟨hIn, hmo, hY_n33, hfr_n33, hke⟩ := hnw
  replace hsi_typed := y_slk hsi_typed (hke _ _ hY_this)
  replace hs10 := y_slk hs10 (hke _ _ hY_this)
  replace hs19 := y_slk hs19 (hke _ _ hY_this)
  replace hs26 := y_slk hs26 (hke _ _ hY_this)
  replace hA_n24 := hA_n24.kept (hke _ _ hY_n24)
  replace hY_this := hmo _ _ hY_this
  replace hY_n8 := hmo _ _ hY_n8
  replace hY_n17 := hmo _ _ hY_n17
  replace hY_n24 := hmo _ _ hY_n24
  replace hI := hIn
  clear hIn hmo hke
  clear hct
  refine y_putf X (fw_mx_238 X.2.2.2.2.1 hnm) hY0 hI hY_this rfl rfl (y_crefA hY_n33 rfl) (by decide +kernel) mx_d35 fun H sl hI ho hs hk => ?_
  replace hsi_typed := hk _ _ (by decide +kernel) (by decide) hsi_typed
  replace hs10 := hk _ _ (by decide +kernel) (by decide) hs10
  replace hs19 := hk _ _ (by decide +kernel) (by decide) hs19
  replace hs26 := hk _ _ (by decide +kernel) (by decide) hs26
  replace hA_n24 := hA_n24.kept (ho _ (y_ne hY_n24 hY_this rfl))
  replace hs := hs
  have hs35 := hs
  refine lv_aload_n hx hb mx_d38 rfl (lv_at hl 0 rfl) ?_
  refine lv_iconst hx hb mx_d39 (v := 3) (by decide) ?_
  have ec3 : (3 : Int32).toInt = 3 := by decide
  refine y_newaC (tag := 50) (k := 3) X hY0 hI rfl rfl (by decide) (hts _ (x_bw5 1 rfl rfl)) (fun Y j => x_dfa (by decide +kernel) Y j) (by decide) (Nat.le_of_ble_eq_true rfl) (Nat.le_of_ble_eq_true rfl) mx_d40 fun Yn H n40 hnw hct => ?_
  obtain ⟨hIn, hmo, hY_n40, hfr_n40, hke⟩ := hnw
  replace hsi_typed := y_slk hsi_typed (hke _ _ hY_this)
  replace hs10 := y_slk hs10 (hke _ _ hY_this)
  replace hs19 := y_slk hs19 (hke _ _ hY_this)
  replace hs26 := y_slk hs26 (hke _ _ hY_this)
  replace hs35 := y_slk hs35 (hke _ _ hY_this)
  replace hA_n24 := hA_n24.kept (hke _ _ hY_n24)
  replace hY_this := hmo _ _ hY_this
  replace hY_n8 := hmo _ _ hY_n8
  replace hY_n17 := hmo _ _ hY_n17
  replace hY_n24 := hmo _ _ hY_n24
  replace hY_n33 := hmo _ _ hY_n33
  replace hI := hIn
  clear hIn hmo hke
  clear hct
  refine y_putf X (fw_mx_239 X.2.2.2.2.1 hnm) hY0 hI hY_this rfl rfl (y_crefA hY_n40 rfl) (by decide +kernel) mx_d42 fun H sl hI ho hs hk => ?_
  replace hsi_typed := hk _ _ (by decide +kernel) (by decide) hsi_typed
  replace hs10 := hk _ _ (by decide +kernel) (by decide) hs10
  replace hs19 := hk _ _ (by decide +kernel) (by decide) hs19
  replace hs26 := hk _ _ (by decide +kernel) (by decide) hs26
  replace hs35 := hk _ _ (by decide +kernel) (by decide) hs35
  replace hA_n24 := hA_n24.kept (ho _ (y_ne hY_n24 hY_this rfl))
  replace hs := hs
  have hs42 := hs
  refine lv_aload_n hx hb mx_d45 rfl (lv_at hl 0 rfl) ?_
  refine lv_bipush hx hb mx_d46 (v := 10) (by decide) ?_
  have ec10 : (10 : Int32).toInt = 10 := by decide
  refine y_newaC (tag := 51) (k := 10) X hY0 hI rfl rfl (by decide) (hts _ (x_bw5 1 rfl rfl)) (fun Y j => x_dfa (by decide +kernel) Y j) (by decide) (Nat.le_of_ble_eq_true rfl) (Nat.le_of_ble_eq_true rfl) mx_d48 fun Yn H n48 hnw hct => ?_
  obtain ⟨hIn, hmo, hY_n48, hfr_n48, hke⟩ := hnw
  replace hsi_typed := y_slk hsi_typed (hke _ _ hY_this)
  replace hs10 := y_slk hs10 (hke _ _ hY_this)
  replace hs19 := y_slk hs19 (hke _ _ hY_this)
  replace hs26 := y_slk hs26 (hke _ _ hY_this)
  replace hs35 := y_slk hs35 (hke _ _ hY_this)
  replace hs42 := y_slk hs42 (hke _ _ hY_this)
  replace hA_n24 := hA_n24.kept (hke _ _ hY_n24)
  replace hY_this := hmo _ _ hY_this
  replace hY_n8 := hmo _ _ hY_n8
  replace hY_n17 := hmo _ _ hY_n17
  replace hY_n24 := hmo _ _ hY_n24
  replace hY_n33 := hmo _ _ hY_n33
  replace hY_n40 := hmo _ _ hY_n40
  replace hI := hIn
  clear hIn hmo hke
  clear hct
  refine y_putf X (fw_mx_240 X.2.2.2.2.1 hnm) hY0 hI hY_this rfl rfl (y_crefA hY_n48 rfl) (by decide +kernel) mx_d50 fun H sl hI ho hs hk => ?_
  replace hsi_typed := hk _ _ (by decide +kernel) (by decide) hsi_typed
  replace hs10 := hk _ _ (by decide +kernel) (by decide) hs10
  replace hs19 := hk _ _ (by decide +kernel) (by decide) hs19
  replace hs26 := hk _ _ (by decide +kernel) (by decide) hs26
  replace hs35 := hk _ _ (by decide +kernel) (by decide) hs35
  replace hs42 := hk _ _ (by decide +kernel) (by decide) hs42
  replace hA_n24 := hA_n24.kept (ho _ (y_ne hY_n24 hY_this rfl))
  replace hs := hs
  have hs50 := hs
  refine lv_aload_n hx hb mx_d53 rfl (lv_at hl 0 rfl) ?_
  refine lv_sipush hx hb mx_d54 (v := 240) (by decide) ?_
  have ec240 : (240 : Int32).toInt = 240 := by decide
  refine y_newaC (tag := 52) (k := 240) X hY0 hI rfl rfl (by decide) (hts _ (x_bw5 1 rfl rfl)) (fun Y j => x_dfa (by decide +kernel) Y j) (by decide) (Nat.le_of_ble_eq_true rfl) (Nat.le_of_ble_eq_true rfl) mx_d57 fun Yn H n57 hnw hct => ?_
  obtain ⟨hIn, hmo, hY_n57, hfr_n57, hke⟩ := hnw
  replace hsi_typed := y_slk hsi_typed (hke _ _ hY_this)
  replace hs10 := y_slk hs10 (hke _ _ hY_this)
  replace hs19 := y_slk hs19 (hke _ _ hY_this)
  replace hs26 := y_slk hs26 (hke _ _ hY_this)
  replace hs35 := y_slk hs35 (hke _ _ hY_this)
  replace hs42 := y_slk hs42 (hke _ _ hY_this)
  replace hs50 := y_slk hs50 (hke _ _ hY_this)
  replace hA_n24 := hA_n24.kept (hke _ _ hY_n24)
  replace hY_this := hmo _ _ hY_this
  replace hY_n8 := hmo _ _ hY_n8
  replace hY_n17 := hmo _ _ hY_n17
  replace hY_n24 := hmo _ _ hY_n24
  replace hY_n33 := hmo _ _ hY_n33
  replace hY_n40 := hmo _ _ hY_n40
  replace hY_n48 := hmo _ _ hY_n48
  replace hI := hIn
  clear hIn hmo hke
  clear hct
  refine y_putf X (fw_mx_241 X.2.2.2.2.1 hnm) hY0 hI hY_this rfl rfl (y_crefA hY_n57 rfl) (by decide +kernel) mx_d59 fun H sl hI ho hs hk => ?_
  replace hsi_typed := hk _ _ (by decide +kernel) (by decide) hsi_typed
  replace hs10 := hk _ _ (by decide +kernel) (by decide) hs10
  replace hs19 := hk _ _ (by decide +kernel) (by decide) hs19
  replace hs26 := hk _ _ (by decide +kernel) (by decide) hs26
  replace hs35 := hk _ _ (by decide +kernel) (by decide) hs35
  replace hs42 := hk _ _ (by decide +kernel) (by decide) hs42
  replace hs50 := hk _ _ (by decide +kernel) (by decide) hs50
  replace hA_n24 := hA_n24.kept (ho _ (y_ne hY_n24 hY_this rfl))
  replace hs := hs
  have hs59 := hs
  refine lv_aload_n hx hb mx_d62 rfl (lv_at hl 0 rfl) ?_
  refine lv_sipush hx hb mx_d63 (v := 240) (by decide) ?_
  refine y_newaC (tag := 53) (k := 240) X hY0 hI rfl rfl (by decide) (hts _ (x_bw5 1 rfl rfl)) (fun Y j => x_dfa (by decide +kernel) Y j) (by decide) (Nat.le_of_ble_eq_true rfl) (Nat.le_of_ble_eq_true rfl) mx_d66 fun Yn H n66 hnw hct => ?_
  obtain ⟨hIn, hmo, hY_n66, hfr_n66, hke⟩ := hnw
  replace hsi_typed := y_slk hsi_typed (hke _ _ hY_this)
  replace hs10 := y_slk hs10 (hke _ _ hY_this)
  replace hs19 := y_slk hs19 (hke _ _ hY_this)
  replace hs26 := y_slk hs26 (hke _ _ hY_this)
  replace hs35 := y_slk hs35 (hke _ _ hY_this)
  replace hs42 := y_slk hs42 (hke _ _ hY_this)
  replace hs50 := y_slk hs50 (hke _ _ hY_this)
  replace hs59 := y_slk hs59 (hke _ _ hY_this)
  replace hA_n24 := hA_n24.kept (hke _ _ hY_n24)
  replace hY_this := hmo _ _ hY_this
  replace hY_n8 := hmo _ _ hY_n8
  replace hY_n17 := hmo _ _ hY_n17
  replace hY_n24 := hmo _ _ hY_n24
  replace hY_n33 := hmo _ _ hY_n33
  replace hY_n40 := hmo _ _ hY_n40
  replace hY_n48 := hmo _ _ hY_n48
  replace hY_n57 := hmo _ _ hY_n57
  replace hI := hIn
  clear hIn hmo hke
  clear hct
  refine y_putf X (fw_mx_242 X.2.2.2.2.1 hnm) hY0 hI hY_this rfl rfl (y_crefA hY_n66 rfl) (by decide +kernel) mx_d68 fun H sl hI ho hs hk => ?_
  replace hsi_typed := hk _ _ (by decide +kernel) (by decide) hsi_typed
  replace hs10 := hk _ _ (by decide +kernel) (by decide) hs10
  replace hs19 := hk _ _ (by decide +kernel) (by decide) hs19
  replace hs26 := hk _ _ (by decide +kernel) (by decide) hs26
  replace hs35 := hk _ _ (by decide +kernel) (by decide) hs35
  replace hs42 := hk _ _ (by decide +kernel) (by decide) hs42
  replace hs50 := hk _ _ (by decide +kernel) (by decide) hs50
  replace hs59 := hk _ _ (by decide +kernel) (by decide) hs59
  replace hA_n24 := hA_n24.kept (ho _ (y_ne hY_n24 hY_this rfl))
  replace hs := hs
  have hs68 := hs
  refine lv_aload_n hx hb mx_d71 rfl (lv_at hl 0 rfl) ?_
  refine lv_sipush hx hb mx_d72 (v := 960) (by decide) ?_
  have ec960 : (960 : Int32).toInt = 960 := by decide
  refine y_newaC (tag := 54) (k := 960) X hY0 hI rfl rfl (by decide) (hts _ (x_bw5 1 rfl rfl)) (fun Y j => x_dfa (by decide +kernel) Y j) (by decide) (Nat.le_of_ble_eq_true rfl) (Nat.le_of_ble_eq_true rfl) mx_d75 fun Yn H n75 hnw hct => ?_
  obtain ⟨hIn, hmo, hY_n75, hfr_n75, hke⟩ := hnw
  replace hsi_typed := y_slk hsi_typed (hke _ _ hY_this)
  replace hs10 := y_slk hs10 (hke _ _ hY_this)
  replace hs19 := y_slk hs19 (hke _ _ hY_this)
  replace hs26 := y_slk hs26 (hke _ _ hY_this)
  replace hs35 := y_slk hs35 (hke _ _ hY_this)
  replace hs42 := y_slk hs42 (hke _ _ hY_this)
  replace hs50 := y_slk hs50 (hke _ _ hY_this)
  replace hs59 := y_slk hs59 (hke _ _ hY_this)
  replace hs68 := y_slk hs68 (hke _ _ hY_this)
  replace hA_n24 := hA_n24.kept (hke _ _ hY_n24)
  replace hY_this := hmo _ _ hY_this
  replace hY_n8 := hmo _ _ hY_n8
  replace hY_n17 := hmo _ _ hY_n17
  replace hY_n24 := hmo _ _ hY_n24
  replace hY_n33 := hmo _ _ hY_n33
  replace hY_n40 := hmo _ _ hY_n40
  replace hY_n48 := hmo _ _ hY_n48
  replace hY_n57 := hmo _ _ hY_n57
  replace hY_n66 := hmo _ _ hY_n66
  replace hI := hIn
  clear hIn hmo hke
  clear hct
  refine y_putf X (fw_mx_243 X.2.2.2.2.1 hnm) hY0 hI hY_this rfl rfl (y_crefA hY_n75 rfl) (by decide +kernel) mx_d77 fun H sl hI ho hs hk => ?_
  replace hsi_typed := hk _ _ (by decide +kernel) (by decide) hsi_typed
  replace hs10 := hk _ _ (by decide +kernel) (by decide) hs10
  replace hs19 := hk _ _ (by decide +kernel) (by decide) hs19
  replace hs26 := hk _ _ (by decide +kernel) (by decide) hs26
  replace hs35 := hk _ _ (by decide +kernel) (by decide) hs35
  replace hs42 := hk _ _ (by decide +kernel) (by decide) hs42
  replace hs50 := hk _ _ (by decide +kernel) (by decide) hs50
  replace hs59 := hk _ _ (by decide +kernel) (by decide) hs59
  replace hs68 := hk _ _ (by decide +kernel) (by decide) hs68
  replace hA_n24 := hA_n24.kept (ho _ (y_ne hY_n24 hY_this rfl))
  replace hs := hs
  have hs77 := hs
  refine lv_aload_n hx hb mx_d80 rfl (lv_at hl 0 rfl) ?_
  refine lv_sipush hx hb mx_d81 (v := 1024) (by decide) ?_
  have ec1024 : (1024 : Int32).toInt = 1024 := by decide
  refine y_newaC (tag := 55) (k := 1024) X hY0 hI rfl rfl (by decide) (hts _ (x_bw67 5 rfl rfl)) (fun Y j => x_dfa (by decide +kernel) Y j) (by decide) (Nat.le_of_ble_eq_true rfl) (Nat.le_of_ble_eq_true rfl) mx_d84 fun Yn H n84 hnw hct => ?_
  obtain ⟨hIn, hmo, hY_n84, hfr_n84, hke⟩ := hnw
  replace hsi_typed := y_slk hsi_typed (hke _ _ hY_this)
  replace hs10 := y_slk hs10 (hke _ _ hY_this)
  replace hs19 := y_slk hs19 (hke _ _ hY_this)
  replace hs26 := y_slk hs26 (hke _ _ hY_this)
  replace hs35 := y_slk hs35 (hke _ _ hY_this)
  replace hs42 := y_slk hs42 (hke _ _ hY_this)
  replace hs50 := y_slk hs50 (hke _ _ hY_this)
  replace hs59 := y_slk hs59 (hke _ _ hY_this)
  replace hs68 := y_slk hs68 (hke _ _ hY_this)
  replace hs77 := y_slk hs77 (hke _ _ hY_this)
  replace hA_n24 := hA_n24.kept (hke _ _ hY_n24)
  replace hY_this := hmo _ _ hY_this
  replace hY_n8 := hmo _ _ hY_n8
  replace hY_n17 := hmo _ _ hY_n17
  replace hY_n24 := hmo _ _ hY_n24
  replace hY_n33 := hmo _ _ hY_n33
  replace hY_n40 := hmo _ _ hY_n40
  replace hY_n48 := hmo _ _ hY_n48
  replace hY_n57 := hmo _ _ hY_n57
  replace hY_n66 := hmo _ _ hY_n66
  replace hY_n75 := hmo _ _ hY_n75
  replace hI := hIn
  clear hIn hmo hke
  clear hct
  refine y_putf X (fw_mx_244 X.2.2.2.2.1 hnm) hY0 hI hY_this rfl rfl (y_crefA hY_n84 rfl) (by decide +kernel) mx_d86 fun H sl hI ho hs hk => ?_
  replace hsi_typed := hk _ _ (by decide +kernel) (by decide) hsi_typed
  replace hs10 := hk _ _ (by decide +kernel) (by decide) hs10
  replace hs19 := hk _ _ (by decide +kernel) (by decide) hs19
  replace hs26 := hk _ _ (by decide +kernel) (by decide) hs26
  replace hs35 := hk _ _ (by decide +kernel) (by decide) hs35
  replace hs42 := hk _ _ (by decide +kernel) (by decide) hs42
  replace hs50 := hk _ _ (by decide +kernel) (by decide) hs50
  replace hs59 := hk _ _ (by decide +kernel) (by decide) hs59
  replace hs68 := hk _ _ (by decide +kernel) (by decide) hs68
  replace hs77 := hk _ _ (by decide +kernel) (by decide) hs77
  replace hA_n24 := hA_n24.kept (ho _ (y_ne hY_n24 hY_this rfl))
  replace hs := hs
  have hs86 := hs
  refine lv_aload_n hx hb mx_d89 rfl (lv_at hl 0 rfl) ?_
  refine lv_sipush hx hb mx_d90 (v := 1024) (by decide) ?_
  refine y_newaC (tag := 56) (k := 1024) X hY0 hI rfl rfl (by decide) (hts _ (x_bw5 1 rfl rfl)) (fun Y j => x_dfa (by decide +kernel) Y j) (by decide) (Nat.le_of_ble_eq_true rfl) (Nat.le_of_ble_eq_true rfl) mx_d93 fun Yn H n93 hnw hct => ?_
  obtain ⟨hIn, hmo, hY_n93, hfr_n93, hke⟩ := hnw
  replace hsi_typed := y_slk hsi_typed (hke _ _ hY_this)
  replace hs10 := y_slk hs10 (hke _ _ hY_this)
  replace hs19 := y_slk hs19 (hke _ _ hY_this)
  replace hs26 := y_slk hs26 (hke _ _ hY_this)
  replace hs35 := y_slk hs35 (hke _ _ hY_this)
  replace hs42 := y_slk hs42 (hke _ _ hY_this)
  replace hs50 := y_slk hs50 (hke _ _ hY_this)
  replace hs59 := y_slk hs59 (hke _ _ hY_this)
  replace hs68 := y_slk hs68 (hke _ _ hY_this)
  replace hs77 := y_slk hs77 (hke _ _ hY_this)
  replace hs86 := y_slk hs86 (hke _ _ hY_this)
  replace hA_n24 := hA_n24.kept (hke _ _ hY_n24)
  replace hY_this := hmo _ _ hY_this
  replace hY_n8 := hmo _ _ hY_n8
  replace hY_n17 := hmo _ _ hY_n17
  replace hY_n24 := hmo _ _ hY_n24
  replace hY_n33 := hmo _ _ hY_n33
  replace hY_n40 := hmo _ _ hY_n40
  replace hY_n48 := hmo _ _ hY_n48
  replace hY_n57 := hmo _ _ hY_n57
  replace hY_n66 := hmo _ _ hY_n66
  replace hY_n75 := hmo _ _ hY_n75
  replace hY_n84 := hmo _ _ hY_n84
  replace hI := hIn
  clear hIn hmo hke
  clear hct
  refine y_putf X (fw_mx_245 X.2.2.2.2.1 hnm) hY0 hI hY_this rfl rfl (y_crefA hY_n93 rfl) (by decide +kernel) mx_d95 fun H sl hI ho hs hk => ?_
  replace hsi_typed := hk _ _ (by decide +kernel) (by decide) hsi_typed
  replace hs10 := hk _ _ (by decide +kernel) (by decide) hs10
  replace hs19 := hk _ _ (by decide +kernel) (by decide) hs19
  replace hs26 := hk _ _ (by decide +kernel) (by decide) hs26
  replace hs35 := hk _ _ (by decide +kernel) (by decide) hs35
  replace hs42 := hk _ _ (by decide +kernel) (by decide) hs42
  replace hs50 := hk _ _ (by decide +kernel) (by decide) hs50
  replace hs59 := hk _ _ (by decide +kernel) (by decide) hs59
  replace hs68 := hk _ _ (by decide +kernel) (by decide) hs68
  replace hs77 := hk _ _ (by decide +kernel) (by decide) hs77
  replace hs86 := hk _ _ (by decide +kernel) (by decide) hs86
  replace hA_n24 := hA_n24.kept (ho _ (y_ne hY_n24 hY_this rfl))
  replace hs := hs
  have hs95 := hs
  refine lv_aload_n hx hb mx_d98 rfl (lv_at hl 0 rfl) ?_
  refine lv_sipush hx hb mx_d99 (v := 1024) (by decide) ?_
  refine y_newaC (tag := 57) (k := 1024) X hY0 hI rfl rfl (by decide) (hts _ (x_bw5 1 rfl rfl)) (fun Y j => x_dfa (by decide +kernel) Y j) (by decide) (Nat.le_of_ble_eq_true rfl) (Nat.le_of_ble_eq_true rfl) mx_d102 fun Yn H n102 hnw hct => ?_
  obtain ⟨hIn, hmo, hY_n102, hfr_n102, hke⟩ := hnw
  replace hsi_typed := y_slk hsi_typed (hke _ _ hY_this)
  replace hs10 := y_slk hs10 (hke _ _ hY_this)
  replace hs19 := y_slk hs19 (hke _ _ hY_this)
  replace hs26 := y_slk hs26 (hke _ _ hY_this)
  replace hs35 := y_slk hs35 (hke _ _ hY_this)
  replace hs42 := y_slk hs42 (hke _ _ hY_this)
  replace hs50 := y_slk hs50 (hke _ _ hY_this)
  replace hs59 := y_slk hs59 (hke _ _ hY_this)
  replace hs68 := y_slk hs68 (hke _ _ hY_this)
  replace hs77 := y_slk hs77 (hke _ _ hY_this)
  replace hs86 := y_slk hs86 (hke _ _ hY_this)
  replace hs95 := y_slk hs95 (hke _ _ hY_this)
  replace hA_n24 := hA_n24.kept (hke _ _ hY_n24)
  replace hY_this := hmo _ _ hY_this
  replace hY_n8 := hmo _ _ hY_n8
  replace hY_n17 := hmo _ _ hY_n17
  replace hY_n24 := hmo _ _ hY_n24
  replace hY_n33 := hmo _ _ hY_n33
  replace hY_n40 := hmo _ _ hY_n40
  replace hY_n48 := hmo _ _ hY_n48
  replace hY_n57 := hmo _ _ hY_n57
  replace hY_n66 := hmo _ _ hY_n66
  replace hY_n75 := hmo _ _ hY_n75
  replace hY_n84 := hmo _ _ hY_n84
  replace hY_n93 := hmo _ _ hY_n93
  replace hI := hIn
  clear hIn hmo hke
  clear hct
  refine y_putf X (fw_mx_246 X.2.2.2.2.1 hnm) hY0 hI hY_this rfl rfl (y_crefA hY_n102 rfl) (by decide +kernel) mx_d104 fun H sl hI ho hs hk => ?_
  replace hsi_typed := hk _ _ (by decide +kernel) (by decide) hsi_typed
  replace hs10 := hk _ _ (by decide +kernel) (by decide) hs10
  replace hs19 := hk _ _ (by decide +kernel) (by decide) hs19
  replace hs26 := hk _ _ (by decide +kernel) (by decide) hs26
  replace hs35 := hk _ _ (by decide +kernel) (by decide) hs35
  replace hs42 := hk _ _ (by decide +kernel) (by decide) hs42
  replace hs50 := hk _ _ (by decide +kernel) (by decide) hs50
  replace hs59 := hk _ _ (by decide +kernel) (by decide) hs59
  replace hs68 := hk _ _ (by decide +kernel) (by decide) hs68
  replace hs77 := hk _ _ (by decide +kernel) (by decide) hs77
  replace hs86 := hk _ _ (by decide +kernel) (by decide) hs86
  replace hs95 := hk _ _ (by decide +kernel) (by decide) hs95
  replace hA_n24 := hA_n24.kept (ho _ (y_ne hY_n24 hY_this rfl))
  replace hs := hs
  have hs104 := hs
  refine lv_aload_n hx hb mx_d107 rfl (lv_at hl 0 rfl) ?_
  refine lv_sipush hx hb mx_d108 (v := 1024) (by decide) ?_
  refine y_newaC (tag := 58) (k := 1024) X hY0 hI rfl rfl (by decide) (hts _ (x_bw67 5 rfl rfl)) (fun Y j => x_dfa (by decide +kernel) Y j) (by decide) (Nat.le_of_ble_eq_true rfl) (Nat.le_of_ble_eq_true rfl) mx_d111 fun Yn H n111 hnw hct => ?_
  obtain ⟨hIn, hmo, hY_n111, hfr_n111, hke⟩ := hnw
  replace hsi_typed := y_slk hsi_typed (hke _ _ hY_this)
  replace hs10 := y_slk hs10 (hke _ _ hY_this)
  replace hs19 := y_slk hs19 (hke _ _ hY_this)
  replace hs26 := y_slk hs26 (hke _ _ hY_this)
  replace hs35 := y_slk hs35 (hke _ _ hY_this)
  replace hs42 := y_slk hs42 (hke _ _ hY_this)
  replace hs50 := y_slk hs50 (hke _ _ hY_this)
  replace hs59 := y_slk hs59 (hke _ _ hY_this)
  replace hs68 := y_slk hs68 (hke _ _ hY_this)
  replace hs77 := y_slk hs77 (hke _ _ hY_this)
  replace hs86 := y_slk hs86 (hke _ _ hY_this)
  replace hs95 := y_slk hs95 (hke _ _ hY_this)
  replace hs104 := y_slk hs104 (hke _ _ hY_this)
  replace hA_n24 := hA_n24.kept (hke _ _ hY_n24)
  replace hY_this := hmo _ _ hY_this
  replace hY_n8 := hmo _ _ hY_n8
  replace hY_n17 := hmo _ _ hY_n17
  replace hY_n24 := hmo _ _ hY_n24
  replace hY_n33 := hmo _ _ hY_n33
  replace hY_n40 := hmo _ _ hY_n40
  replace hY_n48 := hmo _ _ hY_n48
  replace hY_n57 := hmo _ _ hY_n57
  replace hY_n66 := hmo _ _ hY_n66
  replace hY_n75 := hmo _ _ hY_n75
  replace hY_n84 := hmo _ _ hY_n84
  replace hY_n93 := hmo _ _ hY_n93
  replace hY_n102 := hmo _ _ hY_n102
  replace hI := hIn
  clear hIn hmo hke
  clear hct
  refine y_putf X (fw_mx_247 X.2.2.2.2.1 hnm) hY0 hI hY_this rfl rfl (y_crefA hY_n111 rfl) (by decide +kernel) mx_d113 fun H sl hI ho hs hk => ?_
  replace hsi_typed := hk _ _ (by decide +kernel) (by decide) hsi_typed
  replace hs10 := hk _ _ (by decide +kernel) (by decide) hs10
  replace hs19 := hk _ _ (by decide +kernel) (by decide) hs19
  replace hs26 := hk _ _ (by decide +kernel) (by decide) hs26
  replace hs35 := hk _ _ (by decide +kernel) (by decide) hs35
  replace hs42 := hk _ _ (by decide +kernel) (by decide) hs42
  replace hs50 := hk _ _ (by decide +kernel) (by decide) hs50
  replace hs59 := hk _ _ (by decide +kernel) (by decide) hs59
  replace hs68 := hk _ _ (by decide +kernel) (by decide) hs68
  replace hs77 := hk _ _ (by decide +kernel) (by decide) hs77
  replace hs86 := hk _ _ (by decide +kernel) (by decide) hs86
  replace hs95 := hk _ _ (by decide +kernel) (by decide) hs95
  replace hs104 := hk _ _ (by decide +kernel) (by decide) hs104
  replace hA_n24 := hA_n24.kept (ho _ (y_ne hY_n24 hY_this rfl))
  replace hs := hs
  have hs113 := hs
  refine lv_aload_n hx hb mx_d116 rfl (lv_at hl 0 rfl) ?_
  refine lv_sipush hx hb mx_d117 (v := 12288) (by decide) ?_
  have ec12288 : (12288 : Int32).toInt = 12288 := by decide
  refine y_newaC (tag := 59) (k := 12288) X hY0 hI rfl rfl (by decide) (hts _ (x_bw67 5 rfl rfl)) (fun Y j => x_dfa (by decide +kernel) Y j) (by decide) (Nat.le_of_ble_eq_true rfl) (Nat.le_of_ble_eq_true rfl) mx_d120 fun Yn H n120 hnw hct => ?_
  obtain ⟨hIn, hmo, hY_n120, hfr_n120, hke⟩ := hnw
  replace hsi_typed := y_slk hsi_typed (hke _ _ hY_this)
  replace hs10 := y_slk hs10 (hke _ _ hY_this)
  replace hs19 := y_slk hs19 (hke _ _ hY_this)
  replace hs26 := y_slk hs26 (hke _ _ hY_this)
  replace hs35 := y_slk hs35 (hke _ _ hY_this)
  replace hs42 := y_slk hs42 (hke _ _ hY_this)
  replace hs50 := y_slk hs50 (hke _ _ hY_this)
  replace hs59 := y_slk hs59 (hke _ _ hY_this)
  replace hs68 := y_slk hs68 (hke _ _ hY_this)
  replace hs77 := y_slk hs77 (hke _ _ hY_this)
  replace hs86 := y_slk hs86 (hke _ _ hY_this)
  replace hs95 := y_slk hs95 (hke _ _ hY_this)
  replace hs104 := y_slk hs104 (hke _ _ hY_this)
  replace hs113 := y_slk hs113 (hke _ _ hY_this)
  replace hA_n24 := hA_n24.kept (hke _ _ hY_n24)
  replace hY_this := hmo _ _ hY_this
  replace hY_n8 := hmo _ _ hY_n8
  replace hY_n17 := hmo _ _ hY_n17
  replace hY_n24 := hmo _ _ hY_n24
  replace hY_n33 := hmo _ _ hY_n33
  replace hY_n40 := hmo _ _ hY_n40
  replace hY_n48 := hmo _ _ hY_n48
  replace hY_n57 := hmo _ _ hY_n57
  replace hY_n66 := hmo _ _ hY_n66
  replace hY_n75 := hmo _ _ hY_n75
  replace hY_n84 := hmo _ _ hY_n84
  replace hY_n93 := hmo _ _ hY_n93
  replace hY_n102 := hmo _ _ hY_n102
  replace hY_n111 := hmo _ _ hY_n111
  replace hI := hIn
  clear hIn hmo hke
  clear hct
  refine y_putf X (fw_mx_248 X.2.2.2.2.1 hnm) hY0 hI hY_this rfl rfl (y_crefA hY_n120 rfl) (by decide +kernel) mx_d122 fun H sl hI ho hs hk => ?_
  replace hsi_typed := hk _ _ (by decide +kernel) (by decide) hsi_typed
  replace hs10 := hk _ _ (by decide +kernel) (by decide) hs10
  replace hs19 := hk _ _ (by decide +kernel) (by decide) hs19
  replace hs26 := hk _ _ (by decide +kernel) (by decide) hs26
  replace hs35 := hk _ _ (by decide +kernel) (by decide) hs35
  replace hs42 := hk _ _ (by decide +kernel) (by decide) hs42
  replace hs50 := hk _ _ (by decide +kernel) (by decide) hs50
  replace hs59 := hk _ _ (by decide +kernel) (by decide) hs59
  replace hs68 := hk _ _ (by decide +kernel) (by decide) hs68
  replace hs77 := hk _ _ (by decide +kernel) (by decide) hs77
  replace hs86 := hk _ _ (by decide +kernel) (by decide) hs86
  replace hs95 := hk _ _ (by decide +kernel) (by decide) hs95
  replace hs104 := hk _ _ (by decide +kernel) (by decide) hs104
  replace hs113 := hk _ _ (by decide +kernel) (by decide) hs113
  replace hA_n24 := hA_n24.kept (ho _ (y_ne hY_n24 hY_this rfl))
  replace hs := hs
  have hs122 := hs
  refine lv_aload_n hx hb mx_d125 rfl (lv_at hl 0 rfl) ?_
  refine lv_sipush hx hb mx_d126 (v := 12288) (by decide) ?_
  refine y_newaC (tag := 60) (k := 12288) X hY0 hI rfl rfl (by decide) (hts _ (x_bw67 5 rfl rfl)) (fun Y j => x_dfa (by decide +kernel) Y j) (by decide) (Nat.le_of_ble_eq_true rfl) (Nat.le_of_ble_eq_true rfl) mx_d129 fun Yn H n129 hnw hct => ?_
  obtain ⟨hIn, hmo, hY_n129, hfr_n129, hke⟩ := hnw
  replace hsi_typed := y_slk hsi_typed (hke _ _ hY_this)
  replace hs10 := y_slk hs10 (hke _ _ hY_this)
  replace hs19 := y_slk hs19 (hke _ _ hY_this)
  replace hs26 := y_slk hs26 (hke _ _ hY_this)
  replace hs35 := y_slk hs35 (hke _ _ hY_this)
  replace hs42 := y_slk hs42 (hke _ _ hY_this)
  replace hs50 := y_slk hs50 (hke _ _ hY_this)
  replace hs59 := y_slk hs59 (hke _ _ hY_this)
  replace hs68 := y_slk hs68 (hke _ _ hY_this)
  replace hs77 := y_slk hs77 (hke _ _ hY_this)
  replace hs86 := y_slk hs86 (hke _ _ hY_this)
  replace hs95 := y_slk hs95 (hke _ _ hY_this)
  replace hs104 := y_slk hs104 (hke _ _ hY_this)
  replace hs113 := y_slk hs113 (hke _ _ hY_this)
  replace hs122 := y_slk hs122 (hke _ _ hY_this)
  replace hA_n24 := hA_n24.kept (hke _ _ hY_n24)
  replace hY_this := hmo _ _ hY_this
  replace hY_n8 := hmo _ _ hY_n8
  replace hY_n17 := hmo _ _ hY_n17
  replace hY_n24 := hmo _ _ hY_n24
  replace hY_n33 := hmo _ _ hY_n33
  replace hY_n40 := hmo _ _ hY_n40
  replace hY_n48 := hmo _ _ hY_n48
  replace hY_n57 := hmo _ _ hY_n57
  replace hY_n66 := hmo _ _ hY_n66
  replace hY_n75 := hmo _ _ hY_n75
  replace hY_n84 := hmo _ _ hY_n84
  replace hY_n93 := hmo _ _ hY_n93
  replace hY_n102 := hmo _ _ hY_n102
  replace hY_n111 := hmo _ _ hY_n111
  replace hY_n120 := hmo _ _ hY_n120
  replace hI := hIn
  clear hIn hmo hke
  clear hct
  refine y_putf X (fw_mx_249 X.2.2.2.2.1 hnm) hY0 hI hY_this rfl rfl (y_crefA hY_n129 rfl) (by decide +kernel) mx_d131 fun H sl hI ho hs hk => ?_
  replace hsi_typed := hk _ _ (by decide +kernel) (by decide) hsi_typed
  replace hs10 := hk _ _ (by decide +kernel) (by decide) hs10
  replace hs19 := hk _ _ (by decide +kernel) (by decide) hs19
  replace hs26 := hk _ _ (by decide +kernel) (by decide) hs26
  replace hs35 := hk _ _ (by decide +kernel) (by decide) hs35
  replace hs42 := hk _ _ (by decide +kernel) (by decide) hs42
  replace hs50 := hk _ _ (by decide +kernel) (by decide) hs50
  replace hs59 := hk _ _ (by decide +kernel) (by decide) hs59
  replace hs68 := hk _ _ (by decide +kernel) (by decide) hs68
  replace hs77 := hk _ _ (by decide +kernel) (by decide) hs77
  replace hs86 := hk _ _ (by decide +kernel) (by decide) hs86
  replace hs95 := hk _ _ (by decide +kernel) (by decide) hs95
  replace hs104 := hk _ _ (by decide +kernel) (by decide) hs104
  replace hs113 := hk _ _ (by decide +kernel) (by decide) hs113
  replace hs122 := hk _ _ (by decide +kernel) (by decide) hs122
  replace hA_n24 := hA_n24.kept (ho _ (y_ne hY_n24 hY_this rfl))
  replace hs := hs
  have hs131 := hs
  refine lv_aload_n hx hb mx_d134 rfl (lv_at hl 0 rfl) ?_
  refine lv_sipush hx hb mx_d135 (v := 12288) (by decide) ?_
  refine y_newaC (tag := 61) (k := 12288) X hY0 hI rfl rfl (by decide) (hts _ (x_bw67 5 rfl rfl)) (fun Y j => x_dfa (by decide +kernel) Y j) (by decide) (Nat.le_of_ble_eq_true rfl) (Nat.le_of_ble_eq_true rfl) mx_d138 fun Yn H n138 hnw hct => ?_
  obtain ⟨hIn, hmo, hY_n138, hfr_n138, hke⟩ := hnw
  replace hsi_typed := y_slk hsi_typed (hke _ _ hY_this)
  replace hs10 := y_slk hs10 (hke _ _ hY_this)
  replace hs19 := y_slk hs19 (hke _ _ hY_this)
  replace hs26 := y_slk hs26 (hke _ _ hY_this)
  replace hs35 := y_slk hs35 (hke _ _ hY_this)
  replace hs42 := y_slk hs42 (hke _ _ hY_this)
  replace hs50 := y_slk hs50 (hke _ _ hY_this)
  replace hs59 := y_slk hs59 (hke _ _ hY_this)
  replace hs68 := y_slk hs68 (hke _ _ hY_this)
  replace hs77 := y_slk hs77 (hke _ _ hY_this)
  replace hs86 := y_slk hs86 (hke _ _ hY_this)
  replace hs95 := y_slk hs95 (hke _ _ hY_this)
  replace hs104 := y_slk hs104 (hke _ _ hY_this)
  replace hs113 := y_slk hs113 (hke _ _ hY_this)
  replace hs122 := y_slk hs122 (hke _ _ hY_this)
  replace hs131 := y_slk hs131 (hke _ _ hY_this)
  replace hA_n24 := hA_n24.kept (hke _ _ hY_n24)
  replace hY_this := hmo _ _ hY_this
  replace hY_n8 := hmo _ _ hY_n8
  replace hY_n17 := hmo _ _ hY_n17
  replace hY_n24 := hmo _ _ hY_n24
  replace hY_n33 := hmo _ _ hY_n33
  replace hY_n40 := hmo _ _ hY_n40
  replace hY_n48 := hmo _ _ hY_n48
  replace hY_n57 := hmo _ _ hY_n57
  replace hY_n66 := hmo _ _ hY_n66
  replace hY_n75 := hmo _ _ hY_n75
  replace hY_n84 := hmo _ _ hY_n84
  replace hY_n93 := hmo _ _ hY_n93
  replace hY_n102 := hmo _ _ hY_n102
  replace hY_n111 := hmo _ _ hY_n111
  replace hY_n120 := hmo _ _ hY_n120
  replace hY_n129 := hmo _ _ hY_n129
  replace hI := hIn
  clear hIn hmo hke
  clear hct
  refine y_putf X (fw_mx_250 X.2.2.2.2.1 hnm) hY0 hI hY_this rfl rfl (y_crefA hY_n138 rfl) (by decide +kernel) mx_d140 fun H sl hI ho hs hk => ?_
  replace hsi_typed := hk _ _ (by decide +kernel) (by decide) hsi_typed
  replace hs10 := hk _ _ (by decide +kernel) (by decide) hs10
  replace hs19 := hk _ _ (by decide +kernel) (by decide) hs19
  replace hs26 := hk _ _ (by decide +kernel) (by decide) hs26
  replace hs35 := hk _ _ (by decide +kernel) (by decide) hs35
  replace hs42 := hk _ _ (by decide +kernel) (by decide) hs42
  replace hs50 := hk _ _ (by decide +kernel) (by decide) hs50
  replace hs59 := hk _ _ (by decide +kernel) (by decide) hs59
  replace hs68 := hk _ _ (by decide +kernel) (by decide) hs68
  replace hs77 := hk _ _ (by decide +kernel) (by decide) hs77
  replace hs86 := hk _ _ (by decide +kernel) (by decide) hs86
  replace hs95 := hk _ _ (by decide +kernel) (by decide) hs95
  replace hs104 := hk _ _ (by decide +kernel) (by decide) hs104
  replace hs113 := hk _ _ (by decide +kernel) (by decide) hs113
  replace hs122 := hk _ _ (by decide +kernel) (by decide) hs122
  replace hs131 := hk _ _ (by decide +kernel) (by decide) hs131
  replace hA_n24 := hA_n24.kept (ho _ (y_ne hY_n24 hY_this rfl))
  replace hs := hs
  have hs140 := hs
  refine lv_aload_n hx hb mx_d143 rfl (lv_at hl 0 rfl) ?_
  refine lv_sipush hx hb mx_d144 (v := 9216) (by decide) ?_
  have ec9216 : (9216 : Int32).toInt = 9216 := by decide
  refine y_newaC (tag := 62) (k := 9216) X hY0 hI rfl rfl (by decide) (hts _ (x_bw5 1 rfl rfl)) (fun Y j => x_dfa (by decide +kernel) Y j) (by decide) (Nat.le_of_ble_eq_true rfl) (Nat.le_of_ble_eq_true rfl) mx_d147 fun Yn H n147 hnw hct => ?_
  obtain ⟨hIn, hmo, hY_n147, hfr_n147, hke⟩ := hnw
  replace hsi_typed := y_slk hsi_typed (hke _ _ hY_this)
  replace hs10 := y_slk hs10 (hke _ _ hY_this)
  replace hs19 := y_slk hs19 (hke _ _ hY_this)
  replace hs26 := y_slk hs26 (hke _ _ hY_this)
  replace hs35 := y_slk hs35 (hke _ _ hY_this)
  replace hs42 := y_slk hs42 (hke _ _ hY_this)
  replace hs50 := y_slk hs50 (hke _ _ hY_this)
  replace hs59 := y_slk hs59 (hke _ _ hY_this)
  replace hs68 := y_slk hs68 (hke _ _ hY_this)
  replace hs77 := y_slk hs77 (hke _ _ hY_this)
  replace hs86 := y_slk hs86 (hke _ _ hY_this)
  replace hs95 := y_slk hs95 (hke _ _ hY_this)
  replace hs104 := y_slk hs104 (hke _ _ hY_this)
  replace hs113 := y_slk hs113 (hke _ _ hY_this)
  replace hs122 := y_slk hs122 (hke _ _ hY_this)
  replace hs131 := y_slk hs131 (hke _ _ hY_this)
  replace hs140 := y_slk hs140 (hke _ _ hY_this)
  replace hA_n24 := hA_n24.kept (hke _ _ hY_n24)
  replace hY_this := hmo _ _ hY_this
  replace hY_n8 := hmo _ _ hY_n8
  replace hY_n17 := hmo _ _ hY_n17
  replace hY_n24 := hmo _ _ hY_n24
  replace hY_n33 := hmo _ _ hY_n33
  replace hY_n40 := hmo _ _ hY_n40
  replace hY_n48 := hmo _ _ hY_n48
  replace hY_n57 := hmo _ _ hY_n57
  replace hY_n66 := hmo _ _ hY_n66
  replace hY_n75 := hmo _ _ hY_n75
  replace hY_n84 := hmo _ _ hY_n84
  replace hY_n93 := hmo _ _ hY_n93
  replace hY_n102 := hmo _ _ hY_n102
  replace hY_n111 := hmo _ _ hY_n111
  replace hY_n120 := hmo _ _ hY_n120
  replace hY_n129 := hmo _ _ hY_n129
  replace hY_n138 := hmo _ _ hY_n138
  replace hI := hIn
  clear hIn hmo hke
  clear hct
  refine y_putf X (fw_mx_251 X.2.2.2.2.1 hnm) hY0 hI hY_this rfl rfl (y_crefA hY_n147 rfl) (by decide +kernel) mx_d149 fun H sl hI ho hs hk => ?_
  replace hsi_typed := hk _ _ (by decide +kernel) (by decide) hsi_typed
  replace hs10 := hk _ _ (by decide +kernel) (by decide) hs10
  replace hs19 := hk _ _ (by decide +kernel) (by decide) hs19
  replace hs26 := hk _ _ (by decide +kernel) (by decide) hs26
  replace hs35 := hk _ _ (by decide +kernel) (by decide) hs35
  replace hs42 := hk _ _ (by decide +kernel) (by decide) hs42
  replace hs50 := hk _ _ (by decide +kernel) (by decide) hs50
  replace hs59 := hk _ _ (by decide +kernel) (by decide) hs59
  replace hs68 := hk _ _ (by decide +kernel) (by decide) hs68
  replace hs77 := hk _ _ (by decide +kernel) (by decide) hs77
  replace hs86 := hk _ _ (by decide +kernel) (by decide) hs86
  replace hs95 := hk _ _ (by decide +kernel) (by decide) hs95
  replace hs104 := hk _ _ (by decide +kernel) (by decide) hs104
  replace hs113 := hk _ _ (by decide +kernel) (by decide) hs113
  replace hs122 := hk _ _ (by decide +kernel) (by decide) hs122
  replace hs131 := hk _ _ (by decide +kernel) (by decide) hs131
  replace hs140 := hk _ _ (by decide +kernel) (by decide) hs140
  replace hA_n24 := hA_n24.kept (ho _ (y_ne hY_n24 hY_this rfl))
  replace hs := hs
  have hs149 := hs
  refine lv_aload_n hx hb mx_d152 rfl (lv_at hl 0 rfl) ?_
  refine lv_sipush hx hb mx_d153 (v := 9216) (by decide) ?_
  refine y_newaC (tag := 63) (k := 9216) X hY0 hI rfl rfl (by decide) (hts _ (x_bw5 1 rfl rfl)) (fun Y j => x_dfa (by decide +kernel) Y j) (by decide) (Nat.le_of_ble_eq_true rfl) (Nat.le_of_ble_eq_true rfl) mx_d156 fun Yn H n156 hnw hct => ?_
  obtain ⟨hIn, hmo, hY_n156, hfr_n156, hke⟩ := hnw
  replace hsi_typed := y_slk hsi_typed (hke _ _ hY_this)
  replace hs10 := y_slk hs10 (hke _ _ hY_this)
  replace hs19 := y_slk hs19 (hke _ _ hY_this)
  replace hs26 := y_slk hs26 (hke _ _ hY_this)
  replace hs35 := y_slk hs35 (hke _ _ hY_this)
  replace hs42 := y_slk hs42 (hke _ _ hY_this)
  replace hs50 := y_slk hs50 (hke _ _ hY_this)
  replace hs59 := y_slk hs59 (hke _ _ hY_this)
  replace hs68 := y_slk hs68 (hke _ _ hY_this)
  replace hs77 := y_slk hs77 (hke _ _ hY_this)
  replace hs86 := y_slk hs86 (hke _ _ hY_this)
  replace hs95 := y_slk hs95 (hke _ _ hY_this)
  replace hs104 := y_slk hs104 (hke _ _ hY_this)
  replace hs113 := y_slk hs113 (hke _ _ hY_this)
  replace hs122 := y_slk hs122 (hke _ _ hY_this)
  replace hs131 := y_slk hs131 (hke _ _ hY_this)
  replace hs140 := y_slk hs140 (hke _ _ hY_this)
  replace hs149 := y_slk hs149 (hke _ _ hY_this)
  replace hA_n24 := hA_n24.kept (hke _ _ hY_n24)
  replace hY_this := hmo _ _ hY_this
  replace hY_n8 := hmo _ _ hY_n8
  replace hY_n17 := hmo _ _ hY_n17
  replace hY_n24 := hmo _ _ hY_n24
  replace hY_n33 := hmo _ _ hY_n33
  replace hY_n40 := hmo _ _ hY_n40
  replace hY_n48 := hmo _ _ hY_n48
  replace hY_n57 := hmo _ _ hY_n57
  replace hY_n66 := hmo _ _ hY_n66
  replace hY_n75 := hmo _ _ hY_n75
  replace hY_n84 := hmo _ _ hY_n84
  replace hY_n93 := hmo _ _ hY_n93
  replace hY_n102 := hmo _ _ hY_n102
  replace hY_n111 := hmo _ _ hY_n111
  replace hY_n120 := hmo _ _ hY_n120
  replace hY_n129 := hmo _ _ hY_n129
  replace hY_n138 := hmo _ _ hY_n138
  replace hY_n147 := hmo _ _ hY_n147
  replace hI := hIn
  clear hIn hmo hke
  clear hct
  refine y_putf X (fw_mx_252 X.2.2.2.2.1 hnm) hY0 hI hY_this rfl rfl (y_crefA hY_n156 rfl) (by decide +kernel) mx_d158 fun H sl hI ho hs hk => ?_
  replace hsi_typed := hk _ _ (by decide +kernel) (by decide) hsi_typed
  replace hs10 := hk _ _ (by decide +kernel) (by decide) hs10
  replace hs19 := hk _ _ (by decide +kernel) (by decide) hs19
  replace hs26 := hk _ _ (by decide +kernel) (by decide) hs26
  replace hs35 := hk _ _ (by decide +kernel) (by decide) hs35
  replace hs42 := hk _ _ (by decide +kernel) (by decide) hs42
  replace hs50 := hk _ _ (by decide +kernel) (by decide) hs50
  replace hs59 := hk _ _ (by decide +kernel) (by decide) hs59
  replace hs68 := hk _ _ (by decide +kernel) (by decide) hs68
  replace hs77 := hk _ _ (by decide +kernel) (by decide) hs77
  replace hs86 := hk _ _ (by decide +kernel) (by decide) hs86
  replace hs95 := hk _ _ (by decide +kernel) (by decide) hs95
  replace hs104 := hk _ _ (by decide +kernel) (by decide) hs104
  replace hs113 := hk _ _ (by decide +kernel) (by decide) hs113
  replace hs122 := hk _ _ (by decide +kernel) (by decide) hs122
  replace hs131 := hk _ _ (by decide +kernel) (by decide) hs131
  replace hs140 := hk _ _ (by decide +kernel) (by decide) hs140
  replace hs149 := hk _ _ (by decide +kernel) (by decide) hs149
  replace hA_n24 := hA_n24.kept (ho _ (y_ne hY_n24 hY_this rfl))
  replace hs := hs
  have hs158 := hs
  refine lv_aload_n hx hb mx_d161 rfl (lv_at hl 0 rfl) ?_
  refine y_call (z := (0, 65, 1, some 18, xMbr)) (av := [.ref this]) (rest := []) (y_cokV (n := 0) (ci := 12) X ym_beginsRaw rfl rfl rfl (x_cons (x_bw61 15 rfl rfl) (x_cons (x_bw62 1 rfl rfl) (x_cons (x_at 30 (by decide +kernel) rfl) (x_cons (x_bw0 9 rfl rfl) x_nilm)))) (x_bw62 2 rfl rfl) (by decide +kernel) ⟨Nat.le_of_ble_eq_true rfl, Nat.le_of_ble_eq_true rfl⟩) hY0 hI rfl mx_d162 hl.1 (Nat.le_of_ble_eq_true rfl) (Nat.le_of_ble_eq_true rfl) (Nat.le_of_ble_eq_true rfl) (y_cons (y_cref hY_this rfl) y_nil) rfl (y_recv rfl hY_this) (fun this' h1 => by cases h1; exact ⟨n8, hs10, hY_n8⟩) (y_sub_ef rfl) fun v Yn o Hn L ho hr ha hIn hx_ hE hP => ?_
  replace hsi_typed := y_Efld hE hY_this rfl (by decide) (by decide) hsi_typed
  replace hs10 := y_Efld hE hY_this rfl (by decide) (by decide) hs10
  replace hs19 := y_Efld hE hY_this rfl (by decide) (by decide) hs19
  replace hs26 := y_Efld hE hY_this rfl (by decide) (by decide) hs26
  replace hs35 := y_Efld hE hY_this rfl (by decide) (by decide) hs35
  replace hs42 := y_Efld hE hY_this rfl (by decide) (by decide) hs42
  replace hs50 := y_Efld hE hY_this rfl (by decide) (by decide) hs50
  replace hs59 := y_Efld hE hY_this rfl (by decide) (by decide) hs59
  replace hs68 := y_Efld hE hY_this rfl (by decide) (by decide) hs68
  replace hs77 := y_Efld hE hY_this rfl (by decide) (by decide) hs77
  replace hs86 := y_Efld hE hY_this rfl (by decide) (by decide) hs86
  replace hs95 := y_Efld hE hY_this rfl (by decide) (by decide) hs95
  replace hs104 := y_Efld hE hY_this rfl (by decide) (by decide) hs104
  replace hs113 := y_Efld hE hY_this rfl (by decide) (by decide) hs113
  replace hs122 := y_Efld hE hY_this rfl (by decide) (by decide) hs122
  replace hs131 := y_Efld hE hY_this rfl (by decide) (by decide) hs131
  replace hs140 := y_Efld hE hY_this rfl (by decide) (by decide) hs140
  replace hs149 := y_Efld hE hY_this rfl (by decide) (by decide) hs149
  replace hs158 := y_Efld hE hY_this rfl (by decide) (by decide) hs158
  replace hA_n24 := hA_n24.kept (y_Earr hE hY_n24 rfl (by decide))
  replace hY_this := y_ext hx_ hI.1 hY_this
  replace hY_n8 := y_ext hx_ hI.1 hY_n8
  replace hY_n17 := y_ext hx_ hI.1 hY_n17
  replace hY_n24 := y_ext hx_ hI.1 hY_n24
  replace hY_n33 := y_ext hx_ hI.1 hY_n33
  replace hY_n40 := y_ext hx_ hI.1 hY_n40
  replace hY_n48 := y_ext hx_ hI.1 hY_n48
  replace hY_n57 := y_ext hx_ hI.1 hY_n57
  replace hY_n66 := y_ext hx_ hI.1 hY_n66
  replace hY_n75 := y_ext hx_ hI.1 hY_n75
  replace hY_n84 := y_ext hx_ hI.1 hY_n84
  replace hY_n93 := y_ext hx_ hI.1 hY_n93
  replace hY_n102 := y_ext hx_ hI.1 hY_n102
  replace hY_n111 := y_ext hx_ hI.1 hY_n111
  replace hY_n120 := y_ext hx_ hI.1 hY_n120
  replace hY_n129 := y_ext hx_ hI.1 hY_n129
  replace hY_n138 := y_ext hx_ hI.1 hY_n138
  replace hY_n147 := y_ext hx_ hI.1 hY_n147
  replace hY_n156 := y_ext hx_ hI.1 hY_n156
  obtain rfl := y_ansV rfl ho hr
  clear ho hr ha hE hP hI hx_
  rename x_I _ _ _ _ _ _ _ _ _ _ => hI
  refine lv_aload_n hx hb mx_d165 rfl (lv_at hl 0 rfl) ?_
  refine y_getf X (fl_mx_234 X.2.2.2.2.1) hI.1 hY_this rfl hs10 mx_d166 ?_
  refine lv_bipush hx hb mx_d169 (v := 7) (by decide) ?_
  have ec7 : (7 : Int32).toInt = 7 := by decide
  refine lv_bipush hx hb mx_d171 (v := 9) (by decide) ?_
  have ec9 : (9 : Int32).toInt = 9 := by decide
  obtain ⟨f_n8, hA_n8, hB_n8⟩ := y_arr hI.1 hY_n8 rfl rfl
  refine y_iast X hY0 hI hY_n8 rfl hA_n8 (by omega) (by show _ < (160 : Int); omega) (by show x_c _ (xF) _; exact ⟨_, rfl, by decide, by decide⟩) (by decide +kernel) mx_d173 fun H locs hI h_new ho => ?_
  replace hA_n8 := h_new
  generalize hf_f173 : y_up f_n8 (7 : Int32).toInt.toNat (9 : Int32) = f173 at hA_n8
  replace hsi_typed := y_slk hsi_typed (ho _ (y_ne hY_this hY_n8 rfl))
  replace hs10 := y_slk hs10 (ho _ (y_ne hY_this hY_n8 rfl))
  replace hs19 := y_slk hs19 (ho _ (y_ne hY_this hY_n8 rfl))
  replace hs26 := y_slk hs26 (ho _ (y_ne hY_this hY_n8 rfl))
  replace hs35 := y_slk hs35 (ho _ (y_ne hY_this hY_n8 rfl))
  replace hs42 := y_slk hs42 (ho _ (y_ne hY_this hY_n8 rfl))
  replace hs50 := y_slk hs50 (ho _ (y_ne hY_this hY_n8 rfl))
  replace hs59 := y_slk hs59 (ho _ (y_ne hY_this hY_n8 rfl))
  replace hs68 := y_slk hs68 (ho _ (y_ne hY_this hY_n8 rfl))
  replace hs77 := y_slk hs77 (ho _ (y_ne hY_this hY_n8 rfl))
  replace hs86 := y_slk hs86 (ho _ (y_ne hY_this hY_n8 rfl))
  replace hs95 := y_slk hs95 (ho _ (y_ne hY_this hY_n8 rfl))
  replace hs104 := y_slk hs104 (ho _ (y_ne hY_this hY_n8 rfl))
  replace hs113 := y_slk hs113 (ho _ (y_ne hY_this hY_n8 rfl))
  replace hs122 := y_slk hs122 (ho _ (y_ne hY_this hY_n8 rfl))
  replace hs131 := y_slk hs131 (ho _ (y_ne hY_this hY_n8 rfl))
  replace hs140 := y_slk hs140 (ho _ (y_ne hY_this hY_n8 rfl))
  replace hs149 := y_slk hs149 (ho _ (y_ne hY_this hY_n8 rfl))
  replace hs158 := y_slk hs158 (ho _ (y_ne hY_this hY_n8 rfl))
  replace hA_n24 := hA_n24.kept (ho _ (y_ne hY_n24 hY_n8 rfl))
  refine lv_iconst hx hb mx_d174 (v := 0) (by decide) ?_
  have ec0 : (0 : Int32).toInt = 0 := by decide
  refine lv_istore_n hx hb mx_d175 rfl hl (by decide) (lv' := [(1, .int (0 : Int32)), (0, .ref this)]) rfl fun ls hl => ?_
  have hs_n8 := hs10
  have hs_n17 := hs19
  have hs_n24 := hs26
  have hs_n33 := hs35
  have hs_n40 := hs42
  have hs_n48 := hs50
  have hs_n57 := hs59
  have hs_n66 := hs68
  have hs_n75 := hs77
  have hs_n84 := hs86
  have hs_n93 := hs95
  have hs_n102 := hs104
  have hs_n111 := hs113
  have hs_n120 := hs122
  have hs_n129 := hs131
  have hs_n138 := hs140
  have hs_n147 := hs149
  have hs_n156 := hs158
  have hA_n8 := hA_n8
  exact mx_L176 B rfl hty0 13 _ _ _ _ _ _ hI hY_this hY_n8 hY_n17 hY_n24 hY_n33 hY_n40 hY_n48 hY_n57 hY_n66 hY_n75 hY_n84 hY_n93 hY_n102 hY_n111 hY_n120 hY_n129 hY_n138 hY_n147 hY_n156 hs_n8 hs_n17 hs_n24 hs_n33 hs_n40 hs_n48 hs_n57 hs_n66 hs_n75 hs_n84 hs_n93 hs_n102 hs_n111 hs_n120 hs_n129 hs_n138 hs_n147 hs_n156 hsi_typed hA_n8 hA_n24 (lv_sub hl [0, 1] rfl) (by first | assumption | omega) (by omega)
