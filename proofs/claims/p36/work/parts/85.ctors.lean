theorem fl_li_213 {s : State} {args : Array Value} (hts : ∀ w ∈ x_Tb, w.before args s = true) : x_fok vwCl x_G x_Tb s args "TwinFires$Land" (29, 3, 7) := ⟨2, _, RX2, TX2, "TwinFires$Land", rfl, rfl, Nat.le_of_ble_eq_true rfl, iX2, (hts _ (x_bw6 6 rfl rfl)), fun x h => h⟩
theorem fw_li_214 {s : State} {args : Array Value} {mn : String} (hts : ∀ w ∈ x_Tb, w.before args s = true) (hn : mn = "<init>") : x_pok vwCl x_G x_Tb s args "TwinFires$Land" mn (9, 3, 1) := ⟨2, _, RX2, TX2, "TwinFires$Land", tyX2, _, rfl, rfl, Nat.le_of_ble_eq_true rfl, iX2, (hts _ (x_bw5 6 rfl rfl)), fun x h => h, tyX2_ok, nmX2, rfl, x_fitA1 _ _, Or.inr ⟨rfl, hn, rfl⟩⟩
theorem fw_li_215 {s : State} {args : Array Value} {mn : String} (hts : ∀ w ∈ x_Tb, w.before args s = true) (hn : mn = "<init>") : x_pok vwCl x_G x_Tb s args "TwinFires$Land" mn (15, 3, 2) := ⟨2, _, RX2, TX2, "TwinFires$Land", tyX2, _, rfl, rfl, Nat.le_of_ble_eq_true rfl, iX2, (hts _ (x_bw5 9 rfl rfl)), fun x h => h, tyX2_ok, nmX2, rfl, x_fitA1 _ _, Or.inr ⟨rfl, hn, rfl⟩⟩
theorem fw_li_216 {s : State} {args : Array Value} {mn : String} (hts : ∀ w ∈ x_Tb, w.before args s = true) (hn : mn = "<init>") : x_pok vwCl x_G x_Tb s args "TwinFires$Land" mn (18, 3, 3) := ⟨2, _, RX2, TX2, "TwinFires$Land", tyX2, _, rfl, rfl, Nat.le_of_ble_eq_true rfl, iX2, (hts _ (x_bw5 12 rfl rfl)), fun x h => h, tyX2_ok, nmX2, rfl, x_fitA1 _ _, Or.inr ⟨rfl, hn, rfl⟩⟩
theorem fw_li_217 {s : State} {args : Array Value} {mn : String} (hts : ∀ w ∈ x_Tb, w.before args s = true) (hn : mn = "<init>") : x_pok vwCl x_G x_Tb s args "TwinFires$Land" mn (21, 3, 4) := ⟨2, _, RX2, TX2, "TwinFires$Land", tyX2, _, rfl, rfl, Nat.le_of_ble_eq_true rfl, iX2, (hts _ (x_bw5 15 rfl rfl)), fun x h => h, tyX2_ok, nmX2, rfl, x_fitA1 _ _, Or.inr ⟨rfl, hn, rfl⟩⟩
theorem fw_li_218 {s : State} {args : Array Value} {mn : String} (hts : ∀ w ∈ x_Tb, w.before args s = true) (hn : mn = "<init>") : x_pok vwCl x_G x_Tb s args "TwinFires$Land" mn (24, 3, 5) := ⟨2, _, RX2, TX2, "TwinFires$Land", tyX2, _, rfl, rfl, Nat.le_of_ble_eq_true rfl, iX2, (hts _ (x_bw6 1 rfl rfl)), fun x h => h, tyX2_ok, nmX2, rfl, x_fitA1 _ _, Or.inr ⟨rfl, hn, rfl⟩⟩
theorem fw_li_219 {s : State} {args : Array Value} {mn : String} (hts : ∀ w ∈ x_Tb, w.before args s = true) (hn : mn = "<init>") : x_pok vwCl x_G x_Tb s args "TwinFires$Land" mn (29, 3, 7) := ⟨2, _, RX2, TX2, "TwinFires$Land", tyX2, _, rfl, rfl, Nat.le_of_ble_eq_true rfl, iX2, (hts _ (x_bw6 6 rfl rfl)), fun x h => h, tyX2_ok, nmX2, rfl, x_fitA1 _ _, Or.inr ⟨rfl, hn, rfl⟩⟩
theorem fw_li_220 {s : State} {args : Array Value} {mn : String} (hts : ∀ w ∈ x_Tb, w.before args s = true) (hn : mn = "<init>") : x_pok vwCl x_G x_Tb s args "TwinFires$Land" mn (33, 3, 8) := ⟨2, _, RX2, TX2, "TwinFires$Land", tyX2, _, rfl, rfl, Nat.le_of_ble_eq_true rfl, iX2, (hts _ (x_bw6 9 rfl rfl)), fun x h => h, tyX2_ok, nmX2, rfl, x_fitA1 _ _, Or.inr ⟨rfl, hn, rfl⟩⟩
theorem fw_li_221 {s : State} {args : Array Value} {mn : String} (hts : ∀ w ∈ x_Tb, w.before args s = true) (hn : mn = "<init>") : x_pok vwCl x_G x_Tb s args "TwinFires$Land" mn (36, 3, 9) := ⟨2, _, RX2, TX2, "TwinFires$Land", tyX2, _, rfl, rfl, Nat.le_of_ble_eq_true rfl, iX2, (hts _ (x_bw6 12 rfl rfl)), fun x h => h, tyX2_ok, nmX2, rfl, x_fitA1 _ _, Or.inr ⟨rfl, hn, rfl⟩⟩
theorem fw_li_222 {s : State} {args : Array Value} {mn : String} (hts : ∀ w ∈ x_Tb, w.before args s = true) (hn : mn = "<init>") : x_pok vwCl x_G x_Tb s args "TwinFires$Land" mn (39, 3, 10) := ⟨2, _, RX2, TX2, "TwinFires$Land", tyX2, _, rfl, rfl, Nat.le_of_ble_eq_true rfl, iX2, (hts _ (x_bw6 14 rfl rfl)), fun x h => h, tyX2_ok, nmX2, rfl, x_fitA1 _ _, Or.inr ⟨rfl, hn, rfl⟩⟩
theorem fw_li_223 {s : State} {args : Array Value} {mn : String} (hts : ∀ w ∈ x_Tb, w.before args s = true) (hn : mn = "<init>") : x_pok vwCl x_G x_Tb s args "TwinFires$Land" mn (42, 3, 11) := ⟨2, _, RX2, TX2, "TwinFires$Land", tyX2, _, rfl, rfl, Nat.le_of_ble_eq_true rfl, iX2, (hts _ (x_bw7 2 rfl rfl)), fun x h => h, tyX2_ok, nmX2, rfl, x_fitA1 _ _, Or.inr ⟨rfl, hn, rfl⟩⟩
theorem fw_li_224 {s : State} {args : Array Value} {mn : String} (hts : ∀ w ∈ x_Tb, w.before args s = true) (hn : mn = "<init>") : x_pok vwCl x_G x_Tb s args "TwinFires$Land" mn (45, 3, 13) := ⟨2, _, RX2, TX2, "TwinFires$Land", tyX2, _, rfl, rfl, Nat.le_of_ble_eq_true rfl, iX2, (hts _ (x_bw7 8 rfl rfl)), fun x h => h, tyX2_ok, nmX2, rfl, x_fitA1 _ _, Or.inr ⟨rfl, hn, rfl⟩⟩
theorem fw_li_225 {s : State} {args : Array Value} {mn : String} (hts : ∀ w ∈ x_Tb, w.before args s = true) (hn : mn = "<init>") : x_pok vwCl x_G x_Tb s args "TwinFires$Land" mn (48, 3, 14) := ⟨2, _, RX2, TX2, "TwinFires$Land", tyX2, _, rfl, rfl, Nat.le_of_ble_eq_true rfl, iX2, (hts _ (x_bw7 11 rfl rfl)), fun x h => h, tyX2_ok, nmX2, rfl, x_fitA1 _ _, Or.inr ⟨rfl, hn, rfl⟩⟩
theorem fw_li_226 {s : State} {args : Array Value} {mn : String} (hts : ∀ w ∈ x_Tb, w.before args s = true) (hn : mn = "<init>") : x_pok vwCl x_G x_Tb s args "TwinFires$Land" mn (51, 3, 15) := ⟨2, _, RX2, TX2, "TwinFires$Land", tyX2, _, rfl, rfl, Nat.le_of_ble_eq_true rfl, iX2, (hts _ (x_bw7 13 rfl rfl)), fun x h => h, tyX2_ok, nmX2, rfl, x_fitA1 _ _, Or.inr ⟨rfl, hn, rfl⟩⟩
theorem fl_li_227 {s : State} {args : Array Value} (hts : ∀ w ∈ x_Tb, w.before args s = true) : x_fok vwCl x_G x_Tb s args "TwinFires$Land" (39, 3, 10) := ⟨2, _, RX2, TX2, "TwinFires$Land", rfl, rfl, Nat.le_of_ble_eq_true rfl, iX2, (hts _ (x_bw6 14 rfl rfl)), fun x h => h⟩
theorem fl_li_228 {s : State} {args : Array Value} (hts : ∀ w ∈ x_Tb, w.before args s = true) : x_fok vwCl x_G x_Tb s args "TwinFires$Land" (48, 3, 14) := ⟨2, _, RX2, TX2, "TwinFires$Land", rfl, rfl, Nat.le_of_ble_eq_true rfl, iX2, (hts _ (x_bw7 11 rfl rfl)), fun x h => h⟩
theorem fl_br_229 {s : State} {args : Array Value} (hts : ∀ w ∈ x_Tb, w.before args s = true) : x_fok vwCl x_G x_Tb s args "TwinFiresModel" (7, 18, 0) := ⟨12, _, RX12, TX12, "TwinFiresModel", rfl, rfl, Nat.le_of_ble_eq_true rfl, iX12, (hts _ (x_bw62 3 rfl rfl)), fun x h => h⟩
theorem fw_mn_230 {s : State} {args : Array Value} {mn : String} (hts : ∀ w ∈ x_Tb, w.before args s = true) : x_pok vwCl x_G x_Tb s args "TwinFiresModel" mn (68, 18, 7) := ⟨12, _, RX12, TX12, "TwinFiresModel", tyX12, _, rfl, rfl, Nat.le_of_ble_eq_true rfl, iX12, (hts _ (x_bw62 10 rfl rfl)), fun x h => h, tyX12_ok, nmX12, rfl, x_fitL _ _, Or.inl rfl⟩
theorem fw_mn_231 {s : State} {args : Array Value} {mn : String} (hts : ∀ w ∈ x_Tb, w.before args s = true) (hn : mn = "<init>") : x_pok vwCl x_G x_Tb s args "TwinFiresModel" mn (7, 18, 0) := ⟨12, _, RX12, TX12, "TwinFiresModel", tyX12, _, rfl, rfl, Nat.le_of_ble_eq_true rfl, iX12, (hts _ (x_bw62 3 rfl rfl)), fun x h => h, tyX12_ok, nmX12, rfl, x_fitA1 _ _, Or.inr ⟨rfl, hn, rfl⟩⟩
theorem fw_mn_232 {s : State} {args : Array Value} {mn : String} (hts : ∀ w ∈ x_Tb, w.before args s = true) (hn : mn = "<init>") : x_pok vwCl x_G x_Tb s args "TwinFiresModel" mn (13, 18, 1) := ⟨12, _, RX12, TX12, "TwinFiresModel", tyX12, _, rfl, rfl, Nat.le_of_ble_eq_true rfl, iX12, (hts _ (x_bw62 4 rfl rfl)), fun x h => h, tyX12_ok, nmX12, rfl, x_fitA1 _ _, Or.inr ⟨rfl, hn, rfl⟩⟩
theorem fw_mn_233 {s : State} {args : Array Value} {mn : String} (hts : ∀ w ∈ x_Tb, w.before args s = true) (hn : mn = "<init>") : x_pok vwCl x_G x_Tb s args "TwinFiresModel" mn (16, 18, 2) := ⟨12, _, RX12, TX12, "TwinFiresModel", tyX12, _, rfl, rfl, Nat.le_of_ble_eq_true rfl, iX12, (hts _ (x_bw62 5 rfl rfl)), fun x h => h, tyX12_ok, nmX12, rfl, x_fitA1 _ _, Or.inr ⟨rfl, hn, rfl⟩⟩
theorem fw_mn_234 {s : State} {args : Array Value} {mn : String} (hts : ∀ w ∈ x_Tb, w.before args s = true) (hn : mn = "<init>") : x_pok vwCl x_G x_Tb s args "TwinFiresModel" mn (20, 18, 3) := ⟨12, _, RX12, TX12, "TwinFiresModel", tyX12, _, rfl, rfl, Nat.le_of_ble_eq_true rfl, iX12, (hts _ (x_bw62 6 rfl rfl)), fun x h => h, tyX12_ok, nmX12, rfl, x_fitA1 _ _, Or.inr ⟨rfl, hn, rfl⟩⟩
theorem fw_mn_235 {s : State} {args : Array Value} {mn : String} (hts : ∀ w ∈ x_Tb, w.before args s = true) (hn : mn = "<init>") : x_pok vwCl x_G x_Tb s args "TwinFiresModel" mn (23, 18, 4) := ⟨12, _, RX12, TX12, "TwinFiresModel", tyX12, _, rfl, rfl, Nat.le_of_ble_eq_true rfl, iX12, (hts _ (x_bw62 7 rfl rfl)), fun x h => h, tyX12_ok, nmX12, rfl, x_fitA1 _ _, Or.inr ⟨rfl, hn, rfl⟩⟩
theorem fw_mn_236 {s : State} {args : Array Value} {mn : String} (hts : ∀ w ∈ x_Tb, w.before args s = true) (hn : mn = "<init>") : x_pok vwCl x_G x_Tb s args "TwinFiresModel" mn (26, 18, 8) := ⟨12, _, RX12, TX12, "TwinFiresModel", tyX12, _, rfl, rfl, Nat.le_of_ble_eq_true rfl, iX12, (hts _ (x_bw62 11 rfl rfl)), fun x h => h, tyX12_ok, nmX12, rfl, x_fitA1 _ _, Or.inr ⟨rfl, hn, rfl⟩⟩
theorem fw_mn_237 {s : State} {args : Array Value} {mn : String} (hts : ∀ w ∈ x_Tb, w.before args s = true) (hn : mn = "<init>") : x_pok vwCl x_G x_Tb s args "TwinFiresModel" mn (29, 18, 9) := ⟨12, _, RX12, TX12, "TwinFiresModel", tyX12, _, rfl, rfl, Nat.le_of_ble_eq_true rfl, iX12, (hts _ (x_bw62 12 rfl rfl)), fun x h => h, tyX12_ok, nmX12, rfl, x_fitA1 _ _, Or.inr ⟨rfl, hn, rfl⟩⟩
theorem fw_mn_238 {s : State} {args : Array Value} {mn : String} (hts : ∀ w ∈ x_Tb, w.before args s = true) (hn : mn = "<init>") : x_pok vwCl x_G x_Tb s args "TwinFiresModel" mn (32, 18, 15) := ⟨12, _, RX12, TX12, "TwinFiresModel", tyX12, _, rfl, rfl, Nat.le_of_ble_eq_true rfl, iX12, (hts _ (x_bw63 2 rfl rfl)), fun x h => h, tyX12_ok, nmX12, rfl, x_fitA1 _ _, Or.inr ⟨rfl, hn, rfl⟩⟩
theorem fw_mn_239 {s : State} {args : Array Value} {mn : String} (hts : ∀ w ∈ x_Tb, w.before args s = true) (hn : mn = "<init>") : x_pok vwCl x_G x_Tb s args "TwinFiresModel" mn (35, 18, 16) := ⟨12, _, RX12, TX12, "TwinFiresModel", tyX12, _, rfl, rfl, Nat.le_of_ble_eq_true rfl, iX12, (hts _ (x_bw63 3 rfl rfl)), fun x h => h, tyX12_ok, nmX12, rfl, x_fitA1 _ _, Or.inr ⟨rfl, hn, rfl⟩⟩
theorem fw_mn_240 {s : State} {args : Array Value} {mn : String} (hts : ∀ w ∈ x_Tb, w.before args s = true) (hn : mn = "<init>") : x_pok vwCl x_G x_Tb s args "TwinFiresModel" mn (38, 18, 18) := ⟨12, _, RX12, TX12, "TwinFiresModel", tyX12, _, rfl, rfl, Nat.le_of_ble_eq_true rfl, iX12, (hts _ (x_bw63 5 rfl rfl)), fun x h => h, tyX12_ok, nmX12, rfl, x_fitA1 _ _, Or.inr ⟨rfl, hn, rfl⟩⟩
theorem fw_mn_241 {s : State} {args : Array Value} {mn : String} (hts : ∀ w ∈ x_Tb, w.before args s = true) (hn : mn = "<init>") : x_pok vwCl x_G x_Tb s args "TwinFiresModel" mn (41, 18, 19) := ⟨12, _, RX12, TX12, "TwinFiresModel", tyX12, _, rfl, rfl, Nat.le_of_ble_eq_true rfl, iX12, (hts _ (x_bw63 6 rfl rfl)), fun x h => h, tyX12_ok, nmX12, rfl, x_fitA1 _ _, Or.inr ⟨rfl, hn, rfl⟩⟩
theorem fw_mn_242 {s : State} {args : Array Value} {mn : String} (hts : ∀ w ∈ x_Tb, w.before args s = true) (hn : mn = "<init>") : x_pok vwCl x_G x_Tb s args "TwinFiresModel" mn (44, 18, 20) := ⟨12, _, RX12, TX12, "TwinFiresModel", tyX12, _, rfl, rfl, Nat.le_of_ble_eq_true rfl, iX12, (hts _ (x_bw63 7 rfl rfl)), fun x h => h, tyX12_ok, nmX12, rfl, x_fitA1 _ _, Or.inr ⟨rfl, hn, rfl⟩⟩
theorem fw_mn_243 {s : State} {args : Array Value} {mn : String} (hts : ∀ w ∈ x_Tb, w.before args s = true) (hn : mn = "<init>") : x_pok vwCl x_G x_Tb s args "TwinFiresModel" mn (47, 18, 21) := ⟨12, _, RX12, TX12, "TwinFiresModel", tyX12, _, rfl, rfl, Nat.le_of_ble_eq_true rfl, iX12, (hts _ (x_bw63 8 rfl rfl)), fun x h => h, tyX12_ok, nmX12, rfl, x_fitA1 _ _, Or.inr ⟨rfl, hn, rfl⟩⟩
theorem fw_mn_244 {s : State} {args : Array Value} {mn : String} (hts : ∀ w ∈ x_Tb, w.before args s = true) (hn : mn = "<init>") : x_pok vwCl x_G x_Tb s args "TwinFiresModel" mn (50, 18, 22) := ⟨12, _, RX12, TX12, "TwinFiresModel", tyX12, _, rfl, rfl, Nat.le_of_ble_eq_true rfl, iX12, (hts _ (x_bw63 9 rfl rfl)), fun x h => h, tyX12_ok, nmX12, rfl, x_fitA1 _ _, Or.inr ⟨rfl, hn, rfl⟩⟩
theorem fw_mn_245 {s : State} {args : Array Value} {mn : String} (hts : ∀ w ∈ x_Tb, w.before args s = true) (hn : mn = "<init>") : x_pok vwCl x_G x_Tb s args "TwinFiresModel" mn (53, 18, 23) := ⟨12, _, RX12, TX12, "TwinFiresModel", tyX12, _, rfl, rfl, Nat.le_of_ble_eq_true rfl, iX12, (hts _ (x_bw63 10 rfl rfl)), fun x h => h, tyX12_ok, nmX12, rfl, x_fitA1 _ _, Or.inr ⟨rfl, hn, rfl⟩⟩
theorem fw_mn_246 {s : State} {args : Array Value} {mn : String} (hts : ∀ w ∈ x_Tb, w.before args s = true) (hn : mn = "<init>") : x_pok vwCl x_G x_Tb s args "TwinFiresModel" mn (56, 18, 24) := ⟨12, _, RX12, TX12, "TwinFiresModel", tyX12, _, rfl, rfl, Nat.le_of_ble_eq_true rfl, iX12, (hts _ (x_bw63 11 rfl rfl)), fun x h => h, tyX12_ok, nmX12, rfl, x_fitA1 _ _, Or.inr ⟨rfl, hn, rfl⟩⟩
theorem fw_mn_247 {s : State} {args : Array Value} {mn : String} (hts : ∀ w ∈ x_Tb, w.before args s = true) (hn : mn = "<init>") : x_pok vwCl x_G x_Tb s args "TwinFiresModel" mn (59, 18, 25) := ⟨12, _, RX12, TX12, "TwinFiresModel", tyX12, _, rfl, rfl, Nat.le_of_ble_eq_true rfl, iX12, (hts _ (x_bw63 12 rfl rfl)), fun x h => h, tyX12_ok, nmX12, rfl, x_fitA1 _ _, Or.inr ⟨rfl, hn, rfl⟩⟩
theorem fw_mn_248 {s : State} {args : Array Value} {mn : String} (hts : ∀ w ∈ x_Tb, w.before args s = true) (hn : mn = "<init>") : x_pok vwCl x_G x_Tb s args "TwinFiresModel" mn (62, 18, 26) := ⟨12, _, RX12, TX12, "TwinFiresModel", tyX12, _, rfl, rfl, Nat.le_of_ble_eq_true rfl, iX12, (hts _ (x_bw63 13 rfl rfl)), fun x h => h, tyX12_ok, nmX12, rfl, x_fitA1 _ _, Or.inr ⟨rfl, hn, rfl⟩⟩
def xMli : xM := (⟨"TwinFires$Land", "<init>", "()V"⟩, prog_4_method_1_code, 3, none, [xR false [3]], [([xR false [2]], none)], [(3, 0), (3, 1), (3, 2), (3, 3), (3, 4), (3, 5), (3, 6), (3, 7), (3, 8), (3, 9), (3, 10), (3, 11), (3, 12), (3, 13), (3, 14), (3, 15), (11, 0), (11, 1), (11, 2), (11, 3), (11, 4), (12, 0), (12, 1), (12, 2), (12, 3), (12, 4), (13, 0), (13, 1), (13, 2), (13, 3), (13, 4), (14, 0), (14, 1), (14, 2), (14, 3), (14, 4), (15, 0), (15, 1), (15, 2), (15, 3), (15, 4), (16, 0), (16, 1), (16, 2), (16, 3), (16, 4), (27, 0), (30, 0), (64, 0)], (2, 45, 14, 127), some 2)
theorem li_d0 : decode xMli.2.1 0 = .ok (.aload_n 0, 1) := dz_ok (by decide +kernel)
theorem li_d1 : decode xMli.2.1 1 = .ok (.invokespecial 3, 3) := dz_ok (by decide +kernel)
theorem li_d4 : decode xMli.2.1 4 = .ok (.aload_n 0, 1) := dz_ok (by decide +kernel)
theorem li_d5 : decode xMli.2.1 5 = .ok (.bipush 10, 2) := dz_ok (by decide +kernel)
theorem li_d7 : decode xMli.2.1 7 = .ok (.newarray .int, 2) := dz_ok (by decide +kernel)
theorem li_d9 : decode xMli.2.1 9 = .ok (.putfield 9, 3) := dz_ok (by decide +kernel)
theorem li_d12 : decode xMli.2.1 12 = .ok (.aload_n 0, 1) := dz_ok (by decide +kernel)
theorem li_d13 : decode xMli.2.1 13 = .ok (.bipush 10, 2) := dz_ok (by decide +kernel)
theorem li_d15 : decode xMli.2.1 15 = .ok (.newarray .int, 2) := dz_ok (by decide +kernel)
theorem li_d17 : decode xMli.2.1 17 = .ok (.putfield 15, 3) := dz_ok (by decide +kernel)
theorem li_d20 : decode xMli.2.1 20 = .ok (.aload_n 0, 1) := dz_ok (by decide +kernel)
theorem li_d21 : decode xMli.2.1 21 = .ok (.bipush 10, 2) := dz_ok (by decide +kernel)
theorem li_d23 : decode xMli.2.1 23 = .ok (.newarray .int, 2) := dz_ok (by decide +kernel)
theorem li_d25 : decode xMli.2.1 25 = .ok (.putfield 18, 3) := dz_ok (by decide +kernel)
theorem li_d28 : decode xMli.2.1 28 = .ok (.aload_n 0, 1) := dz_ok (by decide +kernel)
theorem li_d29 : decode xMli.2.1 29 = .ok (.bipush 10, 2) := dz_ok (by decide +kernel)
theorem li_d31 : decode xMli.2.1 31 = .ok (.newarray .int, 2) := dz_ok (by decide +kernel)
theorem li_d33 : decode xMli.2.1 33 = .ok (.putfield 21, 3) := dz_ok (by decide +kernel)
theorem li_d36 : decode xMli.2.1 36 = .ok (.aload_n 0, 1) := dz_ok (by decide +kernel)
theorem li_d37 : decode xMli.2.1 37 = .ok (.bipush 10, 2) := dz_ok (by decide +kernel)
theorem li_d39 : decode xMli.2.1 39 = .ok (.newarray .int, 2) := dz_ok (by decide +kernel)
theorem li_d41 : decode xMli.2.1 41 = .ok (.putfield 24, 3) := dz_ok (by decide +kernel)
theorem li_d44 : decode xMli.2.1 44 = .ok (.aload_n 0, 1) := dz_ok (by decide +kernel)
theorem li_d45 : decode xMli.2.1 45 = .ok (.bipush 8, 2) := dz_ok (by decide +kernel)
theorem li_d47 : decode xMli.2.1 47 = .ok (.anewarray 27, 3) := dz_ok (by decide +kernel)
theorem li_d50 : decode xMli.2.1 50 = .ok (.putfield 29, 3) := dz_ok (by decide +kernel)
theorem li_d53 : decode xMli.2.1 53 = .ok (.aload_n 0, 1) := dz_ok (by decide +kernel)
theorem li_d54 : decode xMli.2.1 54 = .ok (.bipush 8, 2) := dz_ok (by decide +kernel)
theorem li_d56 : decode xMli.2.1 56 = .ok (.newarray .int, 2) := dz_ok (by decide +kernel)
theorem li_d58 : decode xMli.2.1 58 = .ok (.putfield 33, 3) := dz_ok (by decide +kernel)
theorem li_d61 : decode xMli.2.1 61 = .ok (.aload_n 0, 1) := dz_ok (by decide +kernel)
theorem li_d62 : decode xMli.2.1 62 = .ok (.bipush 8, 2) := dz_ok (by decide +kernel)
theorem li_d64 : decode xMli.2.1 64 = .ok (.newarray .int, 2) := dz_ok (by decide +kernel)
theorem li_d66 : decode xMli.2.1 66 = .ok (.putfield 36, 3) := dz_ok (by decide +kernel)
theorem li_d69 : decode xMli.2.1 69 = .ok (.aload_n 0, 1) := dz_ok (by decide +kernel)
theorem li_d70 : decode xMli.2.1 70 = .ok (.iconst 4, 1) := dz_ok (by decide +kernel)
theorem li_d71 : decode xMli.2.1 71 = .ok (.newarray .int, 2) := dz_ok (by decide +kernel)
theorem li_d73 : decode xMli.2.1 73 = .ok (.putfield 39, 3) := dz_ok (by decide +kernel)
theorem li_d76 : decode xMli.2.1 76 = .ok (.aload_n 0, 1) := dz_ok (by decide +kernel)
theorem li_d77 : decode xMli.2.1 77 = .ok (.bipush 12, 2) := dz_ok (by decide +kernel)
theorem li_d79 : decode xMli.2.1 79 = .ok (.newarray .int, 2) := dz_ok (by decide +kernel)
theorem li_d81 : decode xMli.2.1 81 = .ok (.putfield 42, 3) := dz_ok (by decide +kernel)
theorem li_d84 : decode xMli.2.1 84 = .ok (.aload_n 0, 1) := dz_ok (by decide +kernel)
theorem li_d85 : decode xMli.2.1 85 = .ok (.bipush 8, 2) := dz_ok (by decide +kernel)
theorem li_d87 : decode xMli.2.1 87 = .ok (.newarray .int, 2) := dz_ok (by decide +kernel)
theorem li_d89 : decode xMli.2.1 89 = .ok (.putfield 45, 3) := dz_ok (by decide +kernel)
theorem li_d92 : decode xMli.2.1 92 = .ok (.aload_n 0, 1) := dz_ok (by decide +kernel)
theorem li_d93 : decode xMli.2.1 93 = .ok (.bipush 12, 2) := dz_ok (by decide +kernel)
theorem li_d95 : decode xMli.2.1 95 = .ok (.newarray .int, 2) := dz_ok (by decide +kernel)
theorem li_d97 : decode xMli.2.1 97 = .ok (.putfield 48, 3) := dz_ok (by decide +kernel)
theorem li_d100 : decode xMli.2.1 100 = .ok (.aload_n 0, 1) := dz_ok (by decide +kernel)
theorem li_d101 : decode xMli.2.1 101 = .ok (.bipush 12, 2) := dz_ok (by decide +kernel)
theorem li_d103 : decode xMli.2.1 103 = .ok (.newarray .int, 2) := dz_ok (by decide +kernel)
theorem li_d105 : decode xMli.2.1 105 = .ok (.putfield 51, 3) := dz_ok (by decide +kernel)
theorem li_d108 : decode xMli.2.1 108 = .ok (.aload_n 0, 1) := dz_ok (by decide +kernel)
theorem li_d109 : decode xMli.2.1 109 = .ok (.getfield 39, 3) := dz_ok (by decide +kernel)
theorem li_d112 : decode xMli.2.1 112 = .ok (.iconst 3, 1) := dz_ok (by decide +kernel)
theorem li_d113 : decode xMli.2.1 113 = .ok (.bipush 9, 2) := dz_ok (by decide +kernel)
theorem li_d115 : decode xMli.2.1 115 = .ok (.iastore, 1) := dz_ok (by decide +kernel)
theorem li_d116 : decode xMli.2.1 116 = .ok (.aload_n 0, 1) := dz_ok (by decide +kernel)
theorem li_d117 : decode xMli.2.1 117 = .ok (.getfield 48, 3) := dz_ok (by decide +kernel)
theorem li_d120 : decode xMli.2.1 120 = .ok (.iconst (-1), 1) := dz_ok (by decide +kernel)
theorem li_d121 : decode xMli.2.1 121 = .ok (.invokestatic 54, 3) := dz_ok (by decide +kernel)
theorem li_d124 : decode xMli.2.1 124 = .ok (.new 27, 3) := dz_ok (by decide +kernel)
theorem li_d127 : decode xMli.2.1 127 = .ok (.dup, 1) := dz_ok (by decide +kernel)
theorem li_d128 : decode xMli.2.1 128 = .ok (.iconst 0, 1) := dz_ok (by decide +kernel)
theorem li_d129 : decode xMli.2.1 129 = .ok (.iconst 0, 1) := dz_ok (by decide +kernel)
theorem li_d130 : decode xMli.2.1 130 = .ok (.iconst 0, 1) := dz_ok (by decide +kernel)
theorem li_d131 : decode xMli.2.1 131 = .ok (.iconst 0, 1) := dz_ok (by decide +kernel)
theorem li_d132 : decode xMli.2.1 132 = .ok (.iconst 0, 1) := dz_ok (by decide +kernel)
theorem li_d133 : decode xMli.2.1 133 = .ok (.invokespecial 60, 3) := dz_ok (by decide +kernel)
theorem li_d136 : decode xMli.2.1 136 = .ok (.astore_n 1, 1) := dz_ok (by decide +kernel)
theorem li_d137 : decode xMli.2.1 137 = .ok (.iconst 0, 1) := dz_ok (by decide +kernel)
theorem li_d138 : decode xMli.2.1 138 = .ok (.istore_n 2, 1) := dz_ok (by decide +kernel)
theorem li_d139 : decode xMli.2.1 139 = .ok (.iload_n 2, 1) := dz_ok (by decide +kernel)
theorem li_d140 : decode xMli.2.1 140 = .ok (.bipush 8, 2) := dz_ok (by decide +kernel)
theorem li_d142 : decode xMli.2.1 142 = .ok (.if_icmp .ge 16, 3) := dz_ok (by decide +kernel)
theorem li_d145 : decode xMli.2.1 145 = .ok (.aload_n 0, 1) := dz_ok (by decide +kernel)
theorem li_d146 : decode xMli.2.1 146 = .ok (.getfield 29, 3) := dz_ok (by decide +kernel)
theorem li_d149 : decode xMli.2.1 149 = .ok (.iload_n 2, 1) := dz_ok (by decide +kernel)
theorem li_d150 : decode xMli.2.1 150 = .ok (.aload_n 1, 1) := dz_ok (by decide +kernel)
theorem li_d151 : decode xMli.2.1 151 = .ok (.aastore, 1) := dz_ok (by decide +kernel)
theorem li_d152 : decode xMli.2.1 152 = .ok (.iinc 2 1, 3) := dz_ok (by decide +kernel)
theorem li_d155 : decode xMli.2.1 155 = .ok (.goto (-16), 3) := dz_ok (by decide +kernel)
theorem li_d158 : decode xMli.2.1 158 = .ok (.return_, 1) := dz_ok (by decide +kernel)
theorem li_L139 {p : Program} {l : Launch} {e : Env} {s : State} {m : MethodId} {below : List Frame} {meth : Method} {c : Code} {D : va_G} {U : State} {Y0 : xY} {av : List Value} (B : y_B vwCl x_Tb x_Nb xMli p s m meth c D U Y0 av) {this n7 n15 n23 n31 n39 n47 n56 n64 n71 n79 n87 n95 n103 n124 : Nat} (hav : av = [.ref this]) (hfr_n47 : s.heap.size ≤ n47)  :
    ∀ (n : Nat), ∀ (H : Heap) (Y : xY) (locs : List Loc) (ls : Array Slot) (i : Int32), x_I D x_G x_Zs U (x_efs xMli) Y0 s.heap Y H locs → Y this = some 3 → Y n7 = some 19 → Y n15 = some 20 → Y n23 = some 21 → Y n31 = some 22 → Y n39 = some 23 → Y n47 = some 64 → Y n56 = some 25 → Y n64 = some 26 → Y n71 = some 27 → Y n79 = some 28 → Y n87 = some 29 → Y n95 = some 30 → Y n103 = some 31 → Y n124 = some 11 → x_sl D 2 1 this H = some (.ref n7) → x_sl D 2 2 this H = some (.ref n15) → x_sl D 2 3 this H = some (.ref n23) → x_sl D 2 4 this H = some (.ref n31) → x_sl D 2 5 this H = some (.ref n39) → x_sl D 2 7 this H = some (.ref n47) → x_sl D 2 8 this H = some (.ref n56) → x_sl D 2 9 this H = some (.ref n64) → x_sl D 2 10 this H = some (.ref n71) → x_sl D 2 11 this H = some (.ref n79) → x_sl D 2 13 this H = some (.ref n87) → x_sl D 2 14 this H = some (.ref n95) → x_sl D 2 15 this H = some (.ref n103) → lv_has ls xMli.2.2.1 [(2, .int i), (1, .ref n124), (0, .ref this)] → (0 ≤ i.toInt ∧ i.toInt ≤ 8) → (∀ j : Nat, (j : Int) < i.toInt → y_at n47 j H = some (.ref n124)) → (8 - i.toInt).toNat < n → W p l e (x_rm xMli) s m av.toArray below meth c H locs 14 127 (y_QQ below D x_G x_Zs U xMli y_TP av Y0 s) (F0 m 139 ls []) := by
  have X := B.1
  have hx := X.1
  have hb := X.2.1
  have hY0 := B.2.2.2.2.1
  have hts := X.2.2.2.2.1
  have hnm := B.2.2.2.1
  intro n
  induction n with
  | zero => intro _ _ _ _ _ _ _ _ _ _ _ _ _ _ _ _ _ _ _ _ _ _ _ _ _ _ _ _ _ _ _ _ _ _ _ _ _ h; exact absurd h (Nat.not_lt_zero _)
  | succ n ih =>
    intro H Y locs ls i  hI hY_this hY_n7 hY_n15 hY_n23 hY_n31 hY_n39 hY_n47 hY_n56 hY_n64 hY_n71 hY_n79 hY_n87 hY_n95 hY_n103 hY_n124 hs_n7 hs_n15 hs_n23 hs_n31 hs_n39 hs_n47 hs_n56 hs_n64 hs_n71 hs_n79 hs_n87 hs_n95 hs_n103 hl hi hq hn
    refine lv_iload_n hx hb li_d139 rfl (lv_at hl 0 rfl) ?_
    refine lv_bipush hx hb li_d140 (v := 8) (by decide) ?_
    have ec8 : (8 : Int32).toInt = 8 := by decide
    refine lv_icmp_ge hx hb li_d142 (tgt := 158) (by decide) (fun q142 => ?_) (fun q142 => ?_)
    · have q142_ : (8 : Int32).toInt ≤ i.toInt := x_le32.mp q142
      subst hav
      have hYn : ∀ q u, q ≠ n47 → Y q = some u → x_up Y n47 24 q = some u := fun q u h1 h2 => by rw [x_up_ne h1]; exact h2
      have hI0 := hI
      replace hI := y_retag (t2 := 24) hI0 hY_n47 hfr_n47 rfl rfl (by decide +kernel) (by decide +kernel) (by decide +kernel) (fun j v hj hv => by rw [hq j (by omega)] at hv; cases hv; exact y_crefA hY_n124 rfl)
      have hYC := hYn _ _ (y_ne hY_this hY_n47 rfl) hY_this
      have hf : ∀ (k : Nat) (ft : xV), ([xI 0 10, xR false [19], xR false [20], xR false [21], xR false [22], xR false [23], xI 0 8, xR false [24], xR false [25], xR false [26], xR false [27], xR false [28], xI 0 8, xR false [29], xR false [30], xR false [31]])[k]? = some ft → ∃ v : Value, x_sl D 2 k this H = some v ∧ x_c (x_up Y n47 24) ft v ∧ x_nrT 3 ft = true := fun k ft hk => match k, hk with
          | 0, hk => by cases hk; obtain ⟨v, e1, e2⟩ := y_fld (k := 0) hI.1 hYC rfl rfl; exact ⟨v, e1, e2, rfl⟩
          | 1, hk => by cases hk; exact ⟨_, hs_n7, y_crefA (hYn _ _ (y_ne hY_n7 hY_n47 rfl) hY_n7) rfl, rfl⟩
          | 2, hk => by cases hk; exact ⟨_, hs_n15, y_crefA (hYn _ _ (y_ne hY_n15 hY_n47 rfl) hY_n15) rfl, rfl⟩
          | 3, hk => by cases hk; exact ⟨_, hs_n23, y_crefA (hYn _ _ (y_ne hY_n23 hY_n47 rfl) hY_n23) rfl, rfl⟩
          | 4, hk => by cases hk; exact ⟨_, hs_n31, y_crefA (hYn _ _ (y_ne hY_n31 hY_n47 rfl) hY_n31) rfl, rfl⟩
          | 5, hk => by cases hk; exact ⟨_, hs_n39, y_crefA (hYn _ _ (y_ne hY_n39 hY_n47 rfl) hY_n39) rfl, rfl⟩
          | 6, hk => by cases hk; obtain ⟨v, e1, e2⟩ := y_fld (k := 6) hI.1 hYC rfl rfl; exact ⟨v, e1, e2, rfl⟩
          | 7, hk => by cases hk; exact ⟨_, hs_n47, y_crefA (x_up_self _ _ _) rfl, rfl⟩
          | 8, hk => by cases hk; exact ⟨_, hs_n56, y_crefA (hYn _ _ (y_ne hY_n56 hY_n47 rfl) hY_n56) rfl, rfl⟩
          | 9, hk => by cases hk; exact ⟨_, hs_n64, y_crefA (hYn _ _ (y_ne hY_n64 hY_n47 rfl) hY_n64) rfl, rfl⟩
          | 10, hk => by cases hk; exact ⟨_, hs_n71, y_crefA (hYn _ _ (y_ne hY_n71 hY_n47 rfl) hY_n71) rfl, rfl⟩
          | 11, hk => by cases hk; exact ⟨_, hs_n79, y_crefA (hYn _ _ (y_ne hY_n79 hY_n47 rfl) hY_n79) rfl, rfl⟩
          | 12, hk => by cases hk; obtain ⟨v, e1, e2⟩ := y_fld (k := 12) hI.1 hYC rfl rfl; exact ⟨v, e1, e2, rfl⟩
          | 13, hk => by cases hk; exact ⟨_, hs_n87, y_crefA (hYn _ _ (y_ne hY_n87 hY_n47 rfl) hY_n87) rfl, rfl⟩
          | 14, hk => by cases hk; exact ⟨_, hs_n95, y_crefA (hYn _ _ (y_ne hY_n95 hY_n47 rfl) hY_n95) rfl, rfl⟩
          | 15, hk => by cases hk; exact ⟨_, hs_n103, y_crefA (hYn _ _ (y_ne hY_n103 hY_n47 rfl) hY_n103) rfl, rfl⟩
          | k + 16, hk => by cases hk
      exact y_retC (o := (2, [xI 0 10, xR false [19], xR false [20], xR false [21], xR false [22], xR false [23], xI 0 8, xR false [24], xR false [25], xR false [26], xR false [27], xR false [28], xI 0 8, xR false [29], xR false [30], xR false [31]])) B hI rfl rfl hYC rfl rfl rfl rfl (by decide +kernel) (by decide +kernel) List.mem_cons_self hf trivial (by exact Nat.le_of_ble_eq_true rfl) (by exact Nat.le_of_ble_eq_true rfl) li_d158
    · have q142_ : i.toInt < (8 : Int32).toInt := Int.not_le.mp fun q => q142 (x_le32.mpr q)
      refine lv_aload_n hx hb li_d145 rfl (lv_at hl 2 rfl) ?_
      refine y_getf X (fl_li_213 X.2.2.2.2.1) hI.1 hY_this rfl hs_n47 li_d146 ?_
      refine lv_iload_n hx hb li_d149 rfl (lv_at hl 0 rfl) ?_
      refine lv_aload_n hx hb li_d150 rfl (lv_at hl 1 rfl) ?_
      refine y_aast X hY0 hI hY_n47 rfl hY_n124 rfl rfl (x_castSelf (X.2.2.2.2.2.1.1 6 _ rfl).2) (by omega) (by show _ < (8 : Int); omega) (y_crefA hY_n124 rfl) (by decide +kernel) li_d151 fun H locs hI h_at h_ne ho => ?_
      replace hs_n7 := y_slk hs_n7 (ho _ (y_ne hY_this hY_n47 rfl))
      replace hs_n15 := y_slk hs_n15 (ho _ (y_ne hY_this hY_n47 rfl))
      replace hs_n23 := y_slk hs_n23 (ho _ (y_ne hY_this hY_n47 rfl))
      replace hs_n31 := y_slk hs_n31 (ho _ (y_ne hY_this hY_n47 rfl))
      replace hs_n39 := y_slk hs_n39 (ho _ (y_ne hY_this hY_n47 rfl))
      replace hs_n47 := y_slk hs_n47 (ho _ (y_ne hY_this hY_n47 rfl))
      replace hs_n56 := y_slk hs_n56 (ho _ (y_ne hY_this hY_n47 rfl))
      replace hs_n64 := y_slk hs_n64 (ho _ (y_ne hY_this hY_n47 rfl))
      replace hs_n71 := y_slk hs_n71 (ho _ (y_ne hY_this hY_n47 rfl))
      replace hs_n79 := y_slk hs_n79 (ho _ (y_ne hY_this hY_n47 rfl))
      replace hs_n87 := y_slk hs_n87 (ho _ (y_ne hY_this hY_n47 rfl))
      replace hs_n95 := y_slk hs_n95 (ho _ (y_ne hY_this hY_n47 rfl))
      replace hs_n103 := y_slk hs_n103 (ho _ (y_ne hY_this hY_n47 rfl))
      obtain ⟨z152, hg_z152⟩ : ∃ z152 : Int32, i + Int32.ofInt 1 = z152 := ⟨_, rfl⟩
      have h_z152 : z152.toInt = i.toInt + 1 := by rw [← hg_z152]; exact y_inc (by decide) (by omega) (by omega)
      refine lv_iinc hx hb li_d152 hl (k := 0) rfl hg_z152 (by decide) (lv' := [(2, .int z152), (1, .ref n124), (0, .ref this)]) rfl fun ls hl => ?_
      refine lv_goto hx hb li_d155 (tgt := 139) (by decide) ?_
      exact ih _ _ _ _ _ hI hY_this hY_n7 hY_n15 hY_n23 hY_n31 hY_n39 hY_n47 hY_n56 hY_n64 hY_n71 hY_n79 hY_n87 hY_n95 hY_n103 hY_n124 hs_n7 hs_n15 hs_n23 hs_n31 hs_n39 hs_n47 hs_n56 hs_n64 hs_n71 hs_n79 hs_n87 hs_n95 hs_n103 (lv_sub hl [0, 1, 2] rfl) (by first | assumption | omega) (fun j hj => by by_cases e0 : j = i.toInt.toNat; (rw [e0]; exact h_at); rw [h_ne j e0]; exact hq j (by omega)) (by omega)
theorem ym_landInit : y_Met vwCl x_G x_Zs x_Tb x_Nb xMli y_T y_TP := by
  refine y_main (by decide +kernel) (by decide +kernel) x_Tb_good x_Nb_ok ?_
  intro p l e s m below meth c D U Y0 av ls B hI _ hl
  have X := B.1
  have hx := X.1
  have hb := X.2.1
  have hY0 := B.2.2.2.2.1
  have hts := X.2.2.2.2.1
  have hnm := B.2.2.2.1
  obtain ⟨v0, rfl, hv0⟩ := x_one B.2.2.2.2.2
  obtain ⟨this, t0, rfl, ht0, hY_this⟩ := x_ref_at hv0 rfl
  obtain rfl := List.mem_singleton.mp ht0
  replace hl : lv_has ls xMli.2.2.1 [(0, .ref this)] := hl
  refine lv_aload_n hx hb li_d0 rfl (lv_at hl 0 rfl) ?_
  refine y_oi X (hts _ (x_bw2 3 rfl rfl)) (hts _ (x_bw1 12 rfl rfl)) (hts _ (x_bw1 13 rfl rfl)) (Nat.le_of_ble_eq_true rfl) (Nat.le_of_ble_eq_true rfl) hl.1 (Nat.le_of_ble_eq_true rfl) li_d1 ?_
  refine lv_aload_n hx hb li_d4 rfl (lv_at hl 0 rfl) ?_
  refine lv_bipush hx hb li_d5 (v := 10) (by decide) ?_
  have ec10 : (10 : Int32).toInt = 10 := by decide
  refine y_newa (tag := 19) (k := 10) X hY0 hI rfl rfl (by decide) (hts _ (x_bw5 1 rfl rfl)) (fun Y j => x_dfa (by decide +kernel) Y j) (by decide) (Nat.le_of_ble_eq_true rfl) (Nat.le_of_ble_eq_true rfl) li_d7 fun Yn H n7 hnw => ?_
  obtain ⟨hIn, hmo, hY_n7, hfr_n7, hke⟩ := hnw
  replace hY_this := hmo _ _ hY_this
  replace hI := hIn
  clear hIn hmo hke
  refine y_putf X (fw_li_214 X.2.2.2.2.1 hnm) hY0 hI hY_this rfl rfl (y_crefA hY_n7 rfl) (by decide +kernel) li_d9 fun H sl hI ho hs hk => ?_
  replace hs := hs
  have hs9 := hs
  refine lv_aload_n hx hb li_d12 rfl (lv_at hl 0 rfl) ?_
  refine lv_bipush hx hb li_d13 (v := 10) (by decide) ?_
  refine y_newa (tag := 20) (k := 10) X hY0 hI rfl rfl (by decide) (hts _ (x_bw5 1 rfl rfl)) (fun Y j => x_dfa (by decide +kernel) Y j) (by decide) (Nat.le_of_ble_eq_true rfl) (Nat.le_of_ble_eq_true rfl) li_d15 fun Yn H n15 hnw => ?_
  obtain ⟨hIn, hmo, hY_n15, hfr_n15, hke⟩ := hnw
  replace hs9 := y_slk hs9 (hke _ _ hY_this)
  replace hY_this := hmo _ _ hY_this
  replace hY_n7 := hmo _ _ hY_n7
  replace hI := hIn
  clear hIn hmo hke
  refine y_putf X (fw_li_215 X.2.2.2.2.1 hnm) hY0 hI hY_this rfl rfl (y_crefA hY_n15 rfl) (by decide +kernel) li_d17 fun H sl hI ho hs hk => ?_
  replace hs9 := hk _ _ (by decide +kernel) (by decide) hs9
  replace hs := hs
  have hs17 := hs
  refine lv_aload_n hx hb li_d20 rfl (lv_at hl 0 rfl) ?_
  refine lv_bipush hx hb li_d21 (v := 10) (by decide) ?_
  refine y_newa (tag := 21) (k := 10) X hY0 hI rfl rfl (by decide) (hts _ (x_bw5 1 rfl rfl)) (fun Y j => x_dfa (by decide +kernel) Y j) (by decide) (Nat.le_of_ble_eq_true rfl) (Nat.le_of_ble_eq_true rfl) li_d23 fun Yn H n23 hnw => ?_
  obtain ⟨hIn, hmo, hY_n23, hfr_n23, hke⟩ := hnw
  replace hs9 := y_slk hs9 (hke _ _ hY_this)
  replace hs17 := y_slk hs17 (hke _ _ hY_this)
  replace hY_this := hmo _ _ hY_this
  replace hY_n7 := hmo _ _ hY_n7
  replace hY_n15 := hmo _ _ hY_n15
  replace hI := hIn
  clear hIn hmo hke
  refine y_putf X (fw_li_216 X.2.2.2.2.1 hnm) hY0 hI hY_this rfl rfl (y_crefA hY_n23 rfl) (by decide +kernel) li_d25 fun H sl hI ho hs hk => ?_
  replace hs9 := hk _ _ (by decide +kernel) (by decide) hs9
  replace hs17 := hk _ _ (by decide +kernel) (by decide) hs17
  replace hs := hs
  have hs25 := hs
  refine lv_aload_n hx hb li_d28 rfl (lv_at hl 0 rfl) ?_
  refine lv_bipush hx hb li_d29 (v := 10) (by decide) ?_
  refine y_newa (tag := 22) (k := 10) X hY0 hI rfl rfl (by decide) (hts _ (x_bw5 1 rfl rfl)) (fun Y j => x_dfa (by decide +kernel) Y j) (by decide) (Nat.le_of_ble_eq_true rfl) (Nat.le_of_ble_eq_true rfl) li_d31 fun Yn H n31 hnw => ?_
  obtain ⟨hIn, hmo, hY_n31, hfr_n31, hke⟩ := hnw
  replace hs9 := y_slk hs9 (hke _ _ hY_this)
  replace hs17 := y_slk hs17 (hke _ _ hY_this)
  replace hs25 := y_slk hs25 (hke _ _ hY_this)
  replace hY_this := hmo _ _ hY_this
  replace hY_n7 := hmo _ _ hY_n7
  replace hY_n15 := hmo _ _ hY_n15
  replace hY_n23 := hmo _ _ hY_n23
  replace hI := hIn
  clear hIn hmo hke
  refine y_putf X (fw_li_217 X.2.2.2.2.1 hnm) hY0 hI hY_this rfl rfl (y_crefA hY_n31 rfl) (by decide +kernel) li_d33 fun H sl hI ho hs hk => ?_
  replace hs9 := hk _ _ (by decide +kernel) (by decide) hs9
  replace hs17 := hk _ _ (by decide +kernel) (by decide) hs17
  replace hs25 := hk _ _ (by decide +kernel) (by decide) hs25
  replace hs := hs
  have hs33 := hs
  refine lv_aload_n hx hb li_d36 rfl (lv_at hl 0 rfl) ?_
  refine lv_bipush hx hb li_d37 (v := 10) (by decide) ?_
  refine y_newa (tag := 23) (k := 10) X hY0 hI rfl rfl (by decide) (hts _ (x_bw5 1 rfl rfl)) (fun Y j => x_dfa (by decide +kernel) Y j) (by decide) (Nat.le_of_ble_eq_true rfl) (Nat.le_of_ble_eq_true rfl) li_d39 fun Yn H n39 hnw => ?_
  obtain ⟨hIn, hmo, hY_n39, hfr_n39, hke⟩ := hnw
  replace hs9 := y_slk hs9 (hke _ _ hY_this)
  replace hs17 := y_slk hs17 (hke _ _ hY_this)
  replace hs25 := y_slk hs25 (hke _ _ hY_this)
  replace hs33 := y_slk hs33 (hke _ _ hY_this)
  replace hY_this := hmo _ _ hY_this
  replace hY_n7 := hmo _ _ hY_n7
  replace hY_n15 := hmo _ _ hY_n15
  replace hY_n23 := hmo _ _ hY_n23
  replace hY_n31 := hmo _ _ hY_n31
  replace hI := hIn
  clear hIn hmo hke
  refine y_putf X (fw_li_218 X.2.2.2.2.1 hnm) hY0 hI hY_this rfl rfl (y_crefA hY_n39 rfl) (by decide +kernel) li_d41 fun H sl hI ho hs hk => ?_
  replace hs9 := hk _ _ (by decide +kernel) (by decide) hs9
  replace hs17 := hk _ _ (by decide +kernel) (by decide) hs17
  replace hs25 := hk _ _ (by decide +kernel) (by decide) hs25
  replace hs33 := hk _ _ (by decide +kernel) (by decide) hs33
  replace hs := hs
  have hs41 := hs
  refine lv_aload_n hx hb li_d44 rfl (lv_at hl 0 rfl) ?_
  refine lv_bipush hx hb li_d45 (v := 8) (by decide) ?_
  have ec8 : (8 : Int32).toInt = 8 := by decide
  refine y_newr (tag := 64) (k := 8) (C := "TwinFires$Stone") X hY0 hI rfl (by decide) (hts _ (x_bw2 4 rfl rfl)) (va_AO.use (X.2.2.2.2.2.2.2.2.1 _ (x_bn2 5 rfl rfl))) (fun Y j => x_dfa (ty := .object "TwinFires$Stone") (by decide +kernel) Y j) (by decide) (Nat.le_of_ble_eq_true rfl) (Nat.le_of_ble_eq_true rfl) li_d47 fun Yn H n47 hnw => ?_
  obtain ⟨hIn, hmo, hY_n47, hfr_n47, hke⟩ := hnw
  replace hs9 := y_slk hs9 (hke _ _ hY_this)
  replace hs17 := y_slk hs17 (hke _ _ hY_this)
  replace hs25 := y_slk hs25 (hke _ _ hY_this)
  replace hs33 := y_slk hs33 (hke _ _ hY_this)
  replace hs41 := y_slk hs41 (hke _ _ hY_this)
  replace hY_this := hmo _ _ hY_this
  replace hY_n7 := hmo _ _ hY_n7
  replace hY_n15 := hmo _ _ hY_n15
  replace hY_n23 := hmo _ _ hY_n23
  replace hY_n31 := hmo _ _ hY_n31
  replace hY_n39 := hmo _ _ hY_n39
  replace hI := hIn
  clear hIn hmo hke
  refine y_putf X (fw_li_219 X.2.2.2.2.1 hnm) hY0 hI hY_this rfl rfl (y_crefA hY_n47 rfl) (by decide +kernel) li_d50 fun H sl hI ho hs hk => ?_
  replace hs9 := hk _ _ (by decide +kernel) (by decide) hs9
  replace hs17 := hk _ _ (by decide +kernel) (by decide) hs17
  replace hs25 := hk _ _ (by decide +kernel) (by decide) hs25
  replace hs33 := hk _ _ (by decide +kernel) (by decide) hs33
  replace hs41 := hk _ _ (by decide +kernel) (by decide) hs41
  replace hs := hs
  have hs50 := hs
  refine lv_aload_n hx hb li_d53 rfl (lv_at hl 0 rfl) ?_
  refine lv_bipush hx hb li_d54 (v := 8) (by decide) ?_
  refine y_newa (tag := 25) (k := 8) X hY0 hI rfl rfl (by decide) (hts _ (x_bw5 1 rfl rfl)) (fun Y j => x_dfa (by decide +kernel) Y j) (by decide) (Nat.le_of_ble_eq_true rfl) (Nat.le_of_ble_eq_true rfl) li_d56 fun Yn H n56 hnw => ?_
  obtain ⟨hIn, hmo, hY_n56, hfr_n56, hke⟩ := hnw
  replace hs9 := y_slk hs9 (hke _ _ hY_this)
  replace hs17 := y_slk hs17 (hke _ _ hY_this)
  replace hs25 := y_slk hs25 (hke _ _ hY_this)
  replace hs33 := y_slk hs33 (hke _ _ hY_this)
  replace hs41 := y_slk hs41 (hke _ _ hY_this)
  replace hs50 := y_slk hs50 (hke _ _ hY_this)
  replace hY_this := hmo _ _ hY_this
  replace hY_n7 := hmo _ _ hY_n7
  replace hY_n15 := hmo _ _ hY_n15
  replace hY_n23 := hmo _ _ hY_n23
  replace hY_n31 := hmo _ _ hY_n31
  replace hY_n39 := hmo _ _ hY_n39
  replace hY_n47 := hmo _ _ hY_n47
  replace hI := hIn
  clear hIn hmo hke
  refine y_putf X (fw_li_220 X.2.2.2.2.1 hnm) hY0 hI hY_this rfl rfl (y_crefA hY_n56 rfl) (by decide +kernel) li_d58 fun H sl hI ho hs hk => ?_
  replace hs9 := hk _ _ (by decide +kernel) (by decide) hs9
  replace hs17 := hk _ _ (by decide +kernel) (by decide) hs17
  replace hs25 := hk _ _ (by decide +kernel) (by decide) hs25
  replace hs33 := hk _ _ (by decide +kernel) (by decide) hs33
  replace hs41 := hk _ _ (by decide +kernel) (by decide) hs41
  replace hs50 := hk _ _ (by decide +kernel) (by decide) hs50
  replace hs := hs
  have hs58 := hs
  refine lv_aload_n hx hb li_d61 rfl (lv_at hl 0 rfl) ?_
  refine lv_bipush hx hb li_d62 (v := 8) (by decide) ?_
  refine y_newa (tag := 26) (k := 8) X hY0 hI rfl rfl (by decide) (hts _ (x_bw5 1 rfl rfl)) (fun Y j => x_dfa (by decide +kernel) Y j) (by decide) (Nat.le_of_ble_eq_true rfl) (Nat.le_of_ble_eq_true rfl) li_d64 fun Yn H n64 hnw => ?_
  obtain ⟨hIn, hmo, hY_n64, hfr_n64, hke⟩ := hnw
  replace hs9 := y_slk hs9 (hke _ _ hY_this)
  replace hs17 := y_slk hs17 (hke _ _ hY_this)
  replace hs25 := y_slk hs25 (hke _ _ hY_this)
  replace hs33 := y_slk hs33 (hke _ _ hY_this)
  replace hs41 := y_slk hs41 (hke _ _ hY_this)
  replace hs50 := y_slk hs50 (hke _ _ hY_this)
  replace hs58 := y_slk hs58 (hke _ _ hY_this)
  replace hY_this := hmo _ _ hY_this
  replace hY_n7 := hmo _ _ hY_n7
  replace hY_n15 := hmo _ _ hY_n15
  replace hY_n23 := hmo _ _ hY_n23
  replace hY_n31 := hmo _ _ hY_n31
  replace hY_n39 := hmo _ _ hY_n39
  replace hY_n47 := hmo _ _ hY_n47
  replace hY_n56 := hmo _ _ hY_n56
  replace hI := hIn
  clear hIn hmo hke
  refine y_putf X (fw_li_221 X.2.2.2.2.1 hnm) hY0 hI hY_this rfl rfl (y_crefA hY_n64 rfl) (by decide +kernel) li_d66 fun H sl hI ho hs hk => ?_
  replace hs9 := hk _ _ (by decide +kernel) (by decide) hs9
  replace hs17 := hk _ _ (by decide +kernel) (by decide) hs17
  replace hs25 := hk _ _ (by decide +kernel) (by decide) hs25
  replace hs33 := hk _ _ (by decide +kernel) (by decide) hs33
  replace hs41 := hk _ _ (by decide +kernel) (by decide) hs41
  replace hs50 := hk _ _ (by decide +kernel) (by decide) hs50
  replace hs58 := hk _ _ (by decide +kernel) (by decide) hs58
  replace hs := hs
  have hs66 := hs
  refine lv_aload_n hx hb li_d69 rfl (lv_at hl 0 rfl) ?_
  refine lv_iconst hx hb li_d70 (v := 4) (by decide) ?_
  have ec4 : (4 : Int32).toInt = 4 := by decide
  refine y_newa (tag := 27) (k := 4) X hY0 hI rfl rfl (by decide) (hts _ (x_bw5 1 rfl rfl)) (fun Y j => x_dfa (by decide +kernel) Y j) (by decide) (Nat.le_of_ble_eq_true rfl) (Nat.le_of_ble_eq_true rfl) li_d71 fun Yn H n71 hnw => ?_
  obtain ⟨hIn, hmo, hY_n71, hfr_n71, hke⟩ := hnw
  replace hs9 := y_slk hs9 (hke _ _ hY_this)
  replace hs17 := y_slk hs17 (hke _ _ hY_this)
  replace hs25 := y_slk hs25 (hke _ _ hY_this)
  replace hs33 := y_slk hs33 (hke _ _ hY_this)
  replace hs41 := y_slk hs41 (hke _ _ hY_this)
  replace hs50 := y_slk hs50 (hke _ _ hY_this)
  replace hs58 := y_slk hs58 (hke _ _ hY_this)
  replace hs66 := y_slk hs66 (hke _ _ hY_this)
  replace hY_this := hmo _ _ hY_this
  replace hY_n7 := hmo _ _ hY_n7
  replace hY_n15 := hmo _ _ hY_n15
  replace hY_n23 := hmo _ _ hY_n23
  replace hY_n31 := hmo _ _ hY_n31
  replace hY_n39 := hmo _ _ hY_n39
  replace hY_n47 := hmo _ _ hY_n47
  replace hY_n56 := hmo _ _ hY_n56
  replace hY_n64 := hmo _ _ hY_n64
  replace hI := hIn
  clear hIn hmo hke
  refine y_putf X (fw_li_222 X.2.2.2.2.1 hnm) hY0 hI hY_this rfl rfl (y_crefA hY_n71 rfl) (by decide +kernel) li_d73 fun H sl hI ho hs hk => ?_
  replace hs9 := hk _ _ (by decide +kernel) (by decide) hs9
  replace hs17 := hk _ _ (by decide +kernel) (by decide) hs17
  replace hs25 := hk _ _ (by decide +kernel) (by decide) hs25
  replace hs33 := hk _ _ (by decide +kernel) (by decide) hs33
  replace hs41 := hk _ _ (by decide +kernel) (by decide) hs41
  replace hs50 := hk _ _ (by decide +kernel) (by decide) hs50
  replace hs58 := hk _ _ (by decide +kernel) (by decide) hs58
  replace hs66 := hk _ _ (by decide +kernel) (by decide) hs66
  replace hs := hs
  have hs73 := hs
  refine lv_aload_n hx hb li_d76 rfl (lv_at hl 0 rfl) ?_
  refine lv_bipush hx hb li_d77 (v := 12) (by decide) ?_
  have ec12 : (12 : Int32).toInt = 12 := by decide
  refine y_newa (tag := 28) (k := 12) X hY0 hI rfl rfl (by decide) (hts _ (x_bw5 1 rfl rfl)) (fun Y j => x_dfa (by decide +kernel) Y j) (by decide) (Nat.le_of_ble_eq_true rfl) (Nat.le_of_ble_eq_true rfl) li_d79 fun Yn H n79 hnw => ?_
  obtain ⟨hIn, hmo, hY_n79, hfr_n79, hke⟩ := hnw
  replace hs9 := y_slk hs9 (hke _ _ hY_this)
  replace hs17 := y_slk hs17 (hke _ _ hY_this)
  replace hs25 := y_slk hs25 (hke _ _ hY_this)
  replace hs33 := y_slk hs33 (hke _ _ hY_this)
  replace hs41 := y_slk hs41 (hke _ _ hY_this)
  replace hs50 := y_slk hs50 (hke _ _ hY_this)
  replace hs58 := y_slk hs58 (hke _ _ hY_this)
  replace hs66 := y_slk hs66 (hke _ _ hY_this)
  replace hs73 := y_slk hs73 (hke _ _ hY_this)
  replace hY_this := hmo _ _ hY_this
  replace hY_n7 := hmo _ _ hY_n7
  replace hY_n15 := hmo _ _ hY_n15
  replace hY_n23 := hmo _ _ hY_n23
  replace hY_n31 := hmo _ _ hY_n31
  replace hY_n39 := hmo _ _ hY_n39
  replace hY_n47 := hmo _ _ hY_n47
  replace hY_n56 := hmo _ _ hY_n56
  replace hY_n64 := hmo _ _ hY_n64
  replace hY_n71 := hmo _ _ hY_n71
  replace hI := hIn
  clear hIn hmo hke
  refine y_putf X (fw_li_223 X.2.2.2.2.1 hnm) hY0 hI hY_this rfl rfl (y_crefA hY_n79 rfl) (by decide +kernel) li_d81 fun H sl hI ho hs hk => ?_
  replace hs9 := hk _ _ (by decide +kernel) (by decide) hs9
  replace hs17 := hk _ _ (by decide +kernel) (by decide) hs17
  replace hs25 := hk _ _ (by decide +kernel) (by decide) hs25
  replace hs33 := hk _ _ (by decide +kernel) (by decide) hs33
  replace hs41 := hk _ _ (by decide +kernel) (by decide) hs41
  replace hs50 := hk _ _ (by decide +kernel) (by decide) hs50
  replace hs58 := hk _ _ (by decide +kernel) (by decide) hs58
  replace hs66 := hk _ _ (by decide +kernel) (by decide) hs66
  replace hs73 := hk _ _ (by decide +kernel) (by decide) hs73
  replace hs := hs
  have hs81 := hs
  refine lv_aload_n hx hb li_d84 rfl (lv_at hl 0 rfl) ?_
  refine lv_bipush hx hb li_d85 (v := 8) (by decide) ?_
  refine y_newa (tag := 29) (k := 8) X hY0 hI rfl rfl (by decide) (hts _ (x_bw5 1 rfl rfl)) (fun Y j => x_dfa (by decide +kernel) Y j) (by decide) (Nat.le_of_ble_eq_true rfl) (Nat.le_of_ble_eq_true rfl) li_d87 fun Yn H n87 hnw => ?_
  obtain ⟨hIn, hmo, hY_n87, hfr_n87, hke⟩ := hnw
  replace hs9 := y_slk hs9 (hke _ _ hY_this)
  replace hs17 := y_slk hs17 (hke _ _ hY_this)
  replace hs25 := y_slk hs25 (hke _ _ hY_this)
  replace hs33 := y_slk hs33 (hke _ _ hY_this)
  replace hs41 := y_slk hs41 (hke _ _ hY_this)
  replace hs50 := y_slk hs50 (hke _ _ hY_this)
  replace hs58 := y_slk hs58 (hke _ _ hY_this)
  replace hs66 := y_slk hs66 (hke _ _ hY_this)
  replace hs73 := y_slk hs73 (hke _ _ hY_this)
  replace hs81 := y_slk hs81 (hke _ _ hY_this)
  replace hY_this := hmo _ _ hY_this
  replace hY_n7 := hmo _ _ hY_n7
  replace hY_n15 := hmo _ _ hY_n15
  replace hY_n23 := hmo _ _ hY_n23
  replace hY_n31 := hmo _ _ hY_n31
  replace hY_n39 := hmo _ _ hY_n39
  replace hY_n47 := hmo _ _ hY_n47
  replace hY_n56 := hmo _ _ hY_n56
  replace hY_n64 := hmo _ _ hY_n64
  replace hY_n71 := hmo _ _ hY_n71
  replace hY_n79 := hmo _ _ hY_n79
  replace hI := hIn
  clear hIn hmo hke
  refine y_putf X (fw_li_224 X.2.2.2.2.1 hnm) hY0 hI hY_this rfl rfl (y_crefA hY_n87 rfl) (by decide +kernel) li_d89 fun H sl hI ho hs hk => ?_
  replace hs9 := hk _ _ (by decide +kernel) (by decide) hs9
  replace hs17 := hk _ _ (by decide +kernel) (by decide) hs17
  replace hs25 := hk _ _ (by decide +kernel) (by decide) hs25
  replace hs33 := hk _ _ (by decide +kernel) (by decide) hs33
  replace hs41 := hk _ _ (by decide +kernel) (by decide) hs41
  replace hs50 := hk _ _ (by decide +kernel) (by decide) hs50
  replace hs58 := hk _ _ (by decide +kernel) (by decide) hs58
  replace hs66 := hk _ _ (by decide +kernel) (by decide) hs66
  replace hs73 := hk _ _ (by decide +kernel) (by decide) hs73
  replace hs81 := hk _ _ (by decide +kernel) (by decide) hs81
  replace hs := hs
  have hs89 := hs
  refine lv_aload_n hx hb li_d92 rfl (lv_at hl 0 rfl) ?_
  refine lv_bipush hx hb li_d93 (v := 12) (by decide) ?_
  refine y_newa (tag := 30) (k := 12) X hY0 hI rfl rfl (by decide) (hts _ (x_bw5 1 rfl rfl)) (fun Y j => x_dfa (by decide +kernel) Y j) (by decide) (Nat.le_of_ble_eq_true rfl) (Nat.le_of_ble_eq_true rfl) li_d95 fun Yn H n95 hnw => ?_
  obtain ⟨hIn, hmo, hY_n95, hfr_n95, hke⟩ := hnw
  replace hs9 := y_slk hs9 (hke _ _ hY_this)
  replace hs17 := y_slk hs17 (hke _ _ hY_this)
  replace hs25 := y_slk hs25 (hke _ _ hY_this)
  replace hs33 := y_slk hs33 (hke _ _ hY_this)
  replace hs41 := y_slk hs41 (hke _ _ hY_this)
  replace hs50 := y_slk hs50 (hke _ _ hY_this)
  replace hs58 := y_slk hs58 (hke _ _ hY_this)
  replace hs66 := y_slk hs66 (hke _ _ hY_this)
  replace hs73 := y_slk hs73 (hke _ _ hY_this)
  replace hs81 := y_slk hs81 (hke _ _ hY_this)
  replace hs89 := y_slk hs89 (hke _ _ hY_this)
  replace hY_this := hmo _ _ hY_this
  replace hY_n7 := hmo _ _ hY_n7
  replace hY_n15 := hmo _ _ hY_n15
  replace hY_n23 := hmo _ _ hY_n23
  replace hY_n31 := hmo _ _ hY_n31
  replace hY_n39 := hmo _ _ hY_n39
  replace hY_n47 := hmo _ _ hY_n47
  replace hY_n56 := hmo _ _ hY_n56
  replace hY_n64 := hmo _ _ hY_n64
  replace hY_n71 := hmo _ _ hY_n71
  replace hY_n79 := hmo _ _ hY_n79
  replace hY_n87 := hmo _ _ hY_n87
  replace hI := hIn
  clear hIn hmo hke
  refine y_putf X (fw_li_225 X.2.2.2.2.1 hnm) hY0 hI hY_this rfl rfl (y_crefA hY_n95 rfl) (by decide +kernel) li_d97 fun H sl hI ho hs hk => ?_
  replace hs9 := hk _ _ (by decide +kernel) (by decide) hs9
  replace hs17 := hk _ _ (by decide +kernel) (by decide) hs17
  replace hs25 := hk _ _ (by decide +kernel) (by decide) hs25
  replace hs33 := hk _ _ (by decide +kernel) (by decide) hs33
  replace hs41 := hk _ _ (by decide +kernel) (by decide) hs41
  replace hs50 := hk _ _ (by decide +kernel) (by decide) hs50
  replace hs58 := hk _ _ (by decide +kernel) (by decide) hs58
  replace hs66 := hk _ _ (by decide +kernel) (by decide) hs66
  replace hs73 := hk _ _ (by decide +kernel) (by decide) hs73
  replace hs81 := hk _ _ (by decide +kernel) (by decide) hs81
  replace hs89 := hk _ _ (by decide +kernel) (by decide) hs89
  replace hs := hs
  have hs97 := hs
  refine lv_aload_n hx hb li_d100 rfl (lv_at hl 0 rfl) ?_
  refine lv_bipush hx hb li_d101 (v := 12) (by decide) ?_
  refine y_newa (tag := 31) (k := 12) X hY0 hI rfl rfl (by decide) (hts _ (x_bw5 1 rfl rfl)) (fun Y j => x_dfa (by decide +kernel) Y j) (by decide) (Nat.le_of_ble_eq_true rfl) (Nat.le_of_ble_eq_true rfl) li_d103 fun Yn H n103 hnw => ?_
  obtain ⟨hIn, hmo, hY_n103, hfr_n103, hke⟩ := hnw
  replace hs9 := y_slk hs9 (hke _ _ hY_this)
  replace hs17 := y_slk hs17 (hke _ _ hY_this)
  replace hs25 := y_slk hs25 (hke _ _ hY_this)
  replace hs33 := y_slk hs33 (hke _ _ hY_this)
  replace hs41 := y_slk hs41 (hke _ _ hY_this)
  replace hs50 := y_slk hs50 (hke _ _ hY_this)
  replace hs58 := y_slk hs58 (hke _ _ hY_this)
  replace hs66 := y_slk hs66 (hke _ _ hY_this)
  replace hs73 := y_slk hs73 (hke _ _ hY_this)
  replace hs81 := y_slk hs81 (hke _ _ hY_this)
  replace hs89 := y_slk hs89 (hke _ _ hY_this)
  replace hs97 := y_slk hs97 (hke _ _ hY_this)
  replace hY_this := hmo _ _ hY_this
  replace hY_n7 := hmo _ _ hY_n7
  replace hY_n15 := hmo _ _ hY_n15
  replace hY_n23 := hmo _ _ hY_n23
  replace hY_n31 := hmo _ _ hY_n31
  replace hY_n39 := hmo _ _ hY_n39
  replace hY_n47 := hmo _ _ hY_n47
  replace hY_n56 := hmo _ _ hY_n56
  replace hY_n64 := hmo _ _ hY_n64
  replace hY_n71 := hmo _ _ hY_n71
  replace hY_n79 := hmo _ _ hY_n79
  replace hY_n87 := hmo _ _ hY_n87
  replace hY_n95 := hmo _ _ hY_n95
  replace hI := hIn
  clear hIn hmo hke
  refine y_putf X (fw_li_226 X.2.2.2.2.1 hnm) hY0 hI hY_this rfl rfl (y_crefA hY_n103 rfl) (by decide +kernel) li_d105 fun H sl hI ho hs hk => ?_
  replace hs9 := hk _ _ (by decide +kernel) (by decide) hs9
  replace hs17 := hk _ _ (by decide +kernel) (by decide) hs17
  replace hs25 := hk _ _ (by decide +kernel) (by decide) hs25
  replace hs33 := hk _ _ (by decide +kernel) (by decide) hs33
  replace hs41 := hk _ _ (by decide +kernel) (by decide) hs41
  replace hs50 := hk _ _ (by decide +kernel) (by decide) hs50
  replace hs58 := hk _ _ (by decide +kernel) (by decide) hs58
  replace hs66 := hk _ _ (by decide +kernel) (by decide) hs66
  replace hs73 := hk _ _ (by decide +kernel) (by decide) hs73
  replace hs81 := hk _ _ (by decide +kernel) (by decide) hs81
  replace hs89 := hk _ _ (by decide +kernel) (by decide) hs89
  replace hs97 := hk _ _ (by decide +kernel) (by decide) hs97
  replace hs := hs
  have hs105 := hs
  refine lv_aload_n hx hb li_d108 rfl (lv_at hl 0 rfl) ?_
  refine y_getf X (fl_li_227 X.2.2.2.2.1) hI.1 hY_this rfl hs73 li_d109 ?_
  refine lv_iconst hx hb li_d112 (v := 3) (by decide) ?_
  have ec3 : (3 : Int32).toInt = 3 := by decide
  refine lv_bipush hx hb li_d113 (v := 9) (by decide) ?_
  have ec9 : (9 : Int32).toInt = 9 := by decide
  obtain ⟨f_n71, hA_n71, hB_n71⟩ := y_arr hI.1 hY_n71 rfl rfl
  refine y_iast X hY0 hI hY_n71 rfl hA_n71 (by omega) (by show _ < (4 : Int); omega) ⟨_, rfl, x_i32 _⟩ (by decide +kernel) li_d115 fun H locs hI h_new ho => ?_
  replace hA_n71 := h_new
  generalize hf_f115 : y_up f_n71 (3 : Int32).toInt.toNat (9 : Int32) = f115 at hA_n71
  replace hs9 := y_slk hs9 (ho _ (y_ne hY_this hY_n71 rfl))
  replace hs17 := y_slk hs17 (ho _ (y_ne hY_this hY_n71 rfl))
  replace hs25 := y_slk hs25 (ho _ (y_ne hY_this hY_n71 rfl))
  replace hs33 := y_slk hs33 (ho _ (y_ne hY_this hY_n71 rfl))
  replace hs41 := y_slk hs41 (ho _ (y_ne hY_this hY_n71 rfl))
  replace hs50 := y_slk hs50 (ho _ (y_ne hY_this hY_n71 rfl))
  replace hs58 := y_slk hs58 (ho _ (y_ne hY_this hY_n71 rfl))
  replace hs66 := y_slk hs66 (ho _ (y_ne hY_this hY_n71 rfl))
  replace hs73 := y_slk hs73 (ho _ (y_ne hY_this hY_n71 rfl))
  replace hs81 := y_slk hs81 (ho _ (y_ne hY_this hY_n71 rfl))
  replace hs89 := y_slk hs89 (ho _ (y_ne hY_this hY_n71 rfl))
  replace hs97 := y_slk hs97 (ho _ (y_ne hY_this hY_n71 rfl))
  replace hs105 := y_slk hs105 (ho _ (y_ne hY_this hY_n71 rfl))
  refine lv_aload_n hx hb li_d116 rfl (lv_at hl 0 rfl) ?_
  refine y_getf X (fl_li_228 X.2.2.2.2.1) hI.1 hY_this rfl hs97 li_d117 ?_
  refine lv_iconst hx hb li_d120 (v := (-1)) (by decide) ?_
  have ecm1 : ((-1) : Int32).toInt = (-1) := by decide
  refine y_call (z := (1, 54, 2, none, xM130)) (av := [.ref n95, .int ((-1) : Int32)]) (rest := []) (y_cok.of (x_cokS (n := 2) X xm130 (x_cons (x_bw2 6 rfl rfl) (x_cons (x_bw2 7 rfl rfl) (x_cons (x_bw0 3 rfl rfl) x_nilm))) (x_bw2 8 rfl rfl) (by decide +kernel) ⟨Nat.le_of_ble_eq_true rfl, Nat.le_of_ble_eq_true rfl⟩)) hY0 hI rfl li_d121 hl.1 (Nat.le_of_ble_eq_true rfl) (Nat.le_of_ble_eq_true rfl) (Nat.le_of_ble_eq_true rfl) (y_cons (y_cref hY_n95 rfl) (y_cons ⟨_, rfl, by show ((-1) : Int) ≤ _; omega, by show _ ≤ ((-1) : Int); omega⟩ y_nil)) rfl (y_norecv rfl) trivial (y_sub_ef rfl) fun v Yn o Hn L ho hr ha hIn hx_ hE hP => ?_
  replace hs9 := y_Efld hE hY_this rfl (by decide) (by decide) hs9
  replace hs17 := y_Efld hE hY_this rfl (by decide) (by decide) hs17
  replace hs25 := y_Efld hE hY_this rfl (by decide) (by decide) hs25
  replace hs33 := y_Efld hE hY_this rfl (by decide) (by decide) hs33
  replace hs41 := y_Efld hE hY_this rfl (by decide) (by decide) hs41
  replace hs50 := y_Efld hE hY_this rfl (by decide) (by decide) hs50
  replace hs58 := y_Efld hE hY_this rfl (by decide) (by decide) hs58
  replace hs66 := y_Efld hE hY_this rfl (by decide) (by decide) hs66
  replace hs73 := y_Efld hE hY_this rfl (by decide) (by decide) hs73
  replace hs81 := y_Efld hE hY_this rfl (by decide) (by decide) hs81
  replace hs89 := y_Efld hE hY_this rfl (by decide) (by decide) hs89
  replace hs97 := y_Efld hE hY_this rfl (by decide) (by decide) hs97
  replace hs105 := y_Efld hE hY_this rfl (by decide) (by decide) hs105
  replace hA_n71 := hA_n71.kept (y_Earr hE hY_n71 rfl (by decide))
  replace hY_this := y_ext hx_ hI.1 hY_this
  replace hY_n7 := y_ext hx_ hI.1 hY_n7
  replace hY_n15 := y_ext hx_ hI.1 hY_n15
  replace hY_n23 := y_ext hx_ hI.1 hY_n23
  replace hY_n31 := y_ext hx_ hI.1 hY_n31
  replace hY_n39 := y_ext hx_ hI.1 hY_n39
  replace hY_n47 := y_ext hx_ hI.1 hY_n47
  replace hY_n56 := y_ext hx_ hI.1 hY_n56
  replace hY_n64 := y_ext hx_ hI.1 hY_n64
  replace hY_n71 := y_ext hx_ hI.1 hY_n71
  replace hY_n79 := y_ext hx_ hI.1 hY_n79
  replace hY_n87 := y_ext hx_ hI.1 hY_n87
  replace hY_n95 := y_ext hx_ hI.1 hY_n95
  replace hY_n103 := y_ext hx_ hI.1 hY_n103
  obtain rfl := y_ansV rfl ho hr
  clear ho hr ha hE hP hI hx_
  rename x_I _ _ _ _ _ _ _ _ _ _ => hI
  refine y_newo (tag := 11) X hY0 hI rfl ⟨6, _, RX6, TX6, tyX6, rfl, rfl, iX6, tyX6_ok, (hts _ (x_bw2 4 rfl rfl)), (hts _ (x_bw2 9 rfl rfl)), (hts _ (x_bw0 4 rfl rfl)), x_dfl (by decide +kernel)⟩ (Nat.le_of_ble_eq_true rfl) (Nat.le_of_ble_eq_true rfl) li_d124 fun Yn H n124 hnw => ?_
  obtain ⟨hIn, hmo, hY_n124, hfr_n124, hke⟩ := hnw
  replace hs9 := y_slk hs9 (hke _ _ hY_this)
  replace hs17 := y_slk hs17 (hke _ _ hY_this)
  replace hs25 := y_slk hs25 (hke _ _ hY_this)
  replace hs33 := y_slk hs33 (hke _ _ hY_this)
  replace hs41 := y_slk hs41 (hke _ _ hY_this)
  replace hs50 := y_slk hs50 (hke _ _ hY_this)
  replace hs58 := y_slk hs58 (hke _ _ hY_this)
  replace hs66 := y_slk hs66 (hke _ _ hY_this)
  replace hs73 := y_slk hs73 (hke _ _ hY_this)
  replace hs81 := y_slk hs81 (hke _ _ hY_this)
  replace hs89 := y_slk hs89 (hke _ _ hY_this)
  replace hs97 := y_slk hs97 (hke _ _ hY_this)
  replace hs105 := y_slk hs105 (hke _ _ hY_this)
  replace hA_n71 := hA_n71.kept (hke _ _ hY_n71)
  replace hY_this := hmo _ _ hY_this
  replace hY_n7 := hmo _ _ hY_n7
  replace hY_n15 := hmo _ _ hY_n15
  replace hY_n23 := hmo _ _ hY_n23
  replace hY_n31 := hmo _ _ hY_n31
  replace hY_n39 := hmo _ _ hY_n39
  replace hY_n47 := hmo _ _ hY_n47
  replace hY_n56 := hmo _ _ hY_n56
  replace hY_n64 := hmo _ _ hY_n64
  replace hY_n71 := hmo _ _ hY_n71
  replace hY_n79 := hmo _ _ hY_n79
  replace hY_n87 := hmo _ _ hY_n87
  replace hY_n95 := hmo _ _ hY_n95
  replace hY_n103 := hmo _ _ hY_n103
  replace hI := hIn
  clear hIn hmo hke
  refine lv_dup hx hb li_d127 rfl ?_
  refine lv_iconst hx hb li_d128 (v := 0) (by decide) ?_
  have ec0 : (0 : Int32).toInt = 0 := by decide
  refine lv_iconst hx hb li_d129 (v := 0) (by decide) ?_
  refine lv_iconst hx hb li_d130 (v := 0) (by decide) ?_
  refine lv_iconst hx hb li_d131 (v := 0) (by decide) ?_
  refine lv_iconst hx hb li_d132 (v := 0) (by decide) ?_
  refine y_call (z := (2, 60, 6, none, xM13)) (av := [.ref n124, .int (0 : Int32), .int (0 : Int32), .int (0 : Int32), .int (0 : Int32), .int (0 : Int32)]) (rest := [.ref n124]) (y_cok.of (x_cokI (n := 5) X xm13 rfl (x_cons (x_bw2 10 rfl rfl) (x_cons (x_bw2 11 rfl rfl) (x_cons (x_bw0 4 rfl rfl) x_nilm))) (x_bw2 12 rfl rfl) rfl (fun Y av h => x_this h) (by decide +kernel) ⟨Nat.le_of_ble_eq_true rfl, Nat.le_of_ble_eq_true rfl⟩)) hY0 hI rfl li_d133 hl.1 (Nat.le_of_ble_eq_true rfl) (Nat.le_of_ble_eq_true rfl) (Nat.le_of_ble_eq_true rfl) (y_cons (y_cref hY_n124 rfl) (y_cons ⟨_, rfl, x_i32 _⟩ (y_cons ⟨_, rfl, x_i32 _⟩ (y_cons ⟨_, rfl, x_i32 _⟩ (y_cons ⟨_, rfl, x_i32 _⟩ (y_cons ⟨_, rfl, x_i32 _⟩ y_nil)))))) rfl (y_norecv rfl) trivial (y_sub_ef rfl) fun v Yn o Hn L ho hr ha hIn hx_ hE hP => ?_
  replace hs9 := y_Efld hE hY_this rfl (by decide) (by decide) hs9
  replace hs17 := y_Efld hE hY_this rfl (by decide) (by decide) hs17
  replace hs25 := y_Efld hE hY_this rfl (by decide) (by decide) hs25
  replace hs33 := y_Efld hE hY_this rfl (by decide) (by decide) hs33
  replace hs41 := y_Efld hE hY_this rfl (by decide) (by decide) hs41
  replace hs50 := y_Efld hE hY_this rfl (by decide) (by decide) hs50
  replace hs58 := y_Efld hE hY_this rfl (by decide) (by decide) hs58
  replace hs66 := y_Efld hE hY_this rfl (by decide) (by decide) hs66
  replace hs73 := y_Efld hE hY_this rfl (by decide) (by decide) hs73
  replace hs81 := y_Efld hE hY_this rfl (by decide) (by decide) hs81
  replace hs89 := y_Efld hE hY_this rfl (by decide) (by decide) hs89
  replace hs97 := y_Efld hE hY_this rfl (by decide) (by decide) hs97
  replace hs105 := y_Efld hE hY_this rfl (by decide) (by decide) hs105
  replace hA_n71 := hA_n71.kept (y_Earr hE hY_n71 rfl (by decide))
  replace hY_this := y_ext hx_ hI.1 hY_this
  replace hY_n7 := y_ext hx_ hI.1 hY_n7
  replace hY_n15 := y_ext hx_ hI.1 hY_n15
  replace hY_n23 := y_ext hx_ hI.1 hY_n23
  replace hY_n31 := y_ext hx_ hI.1 hY_n31
  replace hY_n39 := y_ext hx_ hI.1 hY_n39
  replace hY_n47 := y_ext hx_ hI.1 hY_n47
  replace hY_n56 := y_ext hx_ hI.1 hY_n56
  replace hY_n64 := y_ext hx_ hI.1 hY_n64
  replace hY_n71 := y_ext hx_ hI.1 hY_n71
  replace hY_n79 := y_ext hx_ hI.1 hY_n79
  replace hY_n87 := y_ext hx_ hI.1 hY_n87
  replace hY_n95 := y_ext hx_ hI.1 hY_n95
  replace hY_n103 := y_ext hx_ hI.1 hY_n103
  replace hY_n124 := y_ext hx_ hI.1 hY_n124
  obtain rfl := y_ansV rfl ho hr
  clear ho hr ha hE hP hI hx_
  rename x_I _ _ _ _ _ _ _ _ _ _ => hI
  refine lv_astore_n hx hb li_d136 rfl hl (by decide) (lv' := [(1, .ref n124), (0, .ref this)]) rfl fun ls hl => ?_
  refine lv_iconst hx hb li_d137 (v := 0) (by decide) ?_
  refine lv_istore_n hx hb li_d138 rfl hl (by decide) (lv' := [(2, .int (0 : Int32)), (1, .ref n124), (0, .ref this)]) rfl fun ls hl => ?_
  have hs_n7 := hs9
  have hs_n15 := hs17
  have hs_n23 := hs25
  have hs_n31 := hs33
  have hs_n39 := hs41
  have hs_n47 := hs50
  have hs_n56 := hs58
  have hs_n64 := hs66
  have hs_n71 := hs73
  have hs_n79 := hs81
  have hs_n87 := hs89
  have hs_n95 := hs97
  have hs_n103 := hs105
  exact li_L139 B rfl hfr_n47 9 _ _ _ _ _ hI hY_this hY_n7 hY_n15 hY_n23 hY_n31 hY_n39 hY_n47 hY_n56 hY_n64 hY_n71 hY_n79 hY_n87 hY_n95 hY_n103 hY_n124 hs_n7 hs_n15 hs_n23 hs_n31 hs_n39 hs_n47 hs_n56 hs_n64 hs_n71 hs_n79 hs_n87 hs_n95 hs_n103 (lv_sub hl [0, 1, 2] rfl) (by first | assumption | omega) (fun j hj => absurd hj (by omega)) (by omega)
def xMbr : xM := (⟨"TwinFiresModel", "begins", "()V"⟩, prog_14_method_4_code, 1, none, [xR false [18]], [([xR false [18]], none)], [(46, 0)], (0, 0, 0, 0), none)
def z_Abr : yA := fun D av Y H => ∀ this : Nat, av = [.ref this] → ∃ bk : Nat, x_sl D 12 0 this H = some (.ref bk) ∧ Y bk = some 46
theorem br_d0 : decode xMbr.2.1 0 = .ok (.aload_n 0, 1) := dz_ok (by decide +kernel)
theorem br_d1 : decode xMbr.2.1 1 = .ok (.getfield 7, 3) := dz_ok (by decide +kernel)
theorem br_d4 : decode xMbr.2.1 4 = .ok (.iconst 0, 1) := dz_ok (by decide +kernel)
theorem br_d5 : decode xMbr.2.1 5 = .ok (.iconst 0, 1) := dz_ok (by decide +kernel)
theorem br_d6 : decode xMbr.2.1 6 = .ok (.iastore, 1) := dz_ok (by decide +kernel)
theorem br_d7 : decode xMbr.2.1 7 = .ok (.aload_n 0, 1) := dz_ok (by decide +kernel)
theorem br_d8 : decode xMbr.2.1 8 = .ok (.getfield 7, 3) := dz_ok (by decide +kernel)
theorem br_d11 : decode xMbr.2.1 11 = .ok (.iconst 1, 1) := dz_ok (by decide +kernel)
theorem br_d12 : decode xMbr.2.1 12 = .ok (.iconst 0, 1) := dz_ok (by decide +kernel)
theorem br_d13 : decode xMbr.2.1 13 = .ok (.iastore, 1) := dz_ok (by decide +kernel)
theorem br_d14 : decode xMbr.2.1 14 = .ok (.aload_n 0, 1) := dz_ok (by decide +kernel)
theorem br_d15 : decode xMbr.2.1 15 = .ok (.getfield 7, 3) := dz_ok (by decide +kernel)
theorem br_d18 : decode xMbr.2.1 18 = .ok (.iconst 4, 1) := dz_ok (by decide +kernel)
theorem br_d19 : decode xMbr.2.1 19 = .ok (.iconst 0, 1) := dz_ok (by decide +kernel)
theorem br_d20 : decode xMbr.2.1 20 = .ok (.iastore, 1) := dz_ok (by decide +kernel)
theorem br_d21 : decode xMbr.2.1 21 = .ok (.aload_n 0, 1) := dz_ok (by decide +kernel)
theorem br_d22 : decode xMbr.2.1 22 = .ok (.getfield 7, 3) := dz_ok (by decide +kernel)
theorem br_d25 : decode xMbr.2.1 25 = .ok (.iconst 5, 1) := dz_ok (by decide +kernel)
theorem br_d26 : decode xMbr.2.1 26 = .ok (.iconst 0, 1) := dz_ok (by decide +kernel)
theorem br_d27 : decode xMbr.2.1 27 = .ok (.iastore, 1) := dz_ok (by decide +kernel)
theorem br_d28 : decode xMbr.2.1 28 = .ok (.aload_n 0, 1) := dz_ok (by decide +kernel)
theorem br_d29 : decode xMbr.2.1 29 = .ok (.getfield 7, 3) := dz_ok (by decide +kernel)
theorem br_d32 : decode xMbr.2.1 32 = .ok (.bipush 6, 2) := dz_ok (by decide +kernel)
theorem br_d34 : decode xMbr.2.1 34 = .ok (.iconst 0, 1) := dz_ok (by decide +kernel)
theorem br_d35 : decode xMbr.2.1 35 = .ok (.iastore, 1) := dz_ok (by decide +kernel)
theorem br_d36 : decode xMbr.2.1 36 = .ok (.return_, 1) := dz_ok (by decide +kernel)
theorem ym_beginsRaw : y_Met vwCl x_G x_Zs x_Tb x_Nb xMbr z_Abr y_TP := by
  refine y_main (by decide +kernel) (by decide +kernel) x_Tb_good x_Nb_ok ?_
  intro p l e s m below meth c D U Y0 av ls B hI hA0 hl
  have X := B.1
  have hx := X.1
  have hb := X.2.1
  have hY0 := B.2.2.2.2.1
  obtain ⟨v0, rfl, hv0⟩ := x_one B.2.2.2.2.2
  obtain ⟨this, t0, rfl, ht0, hY_this⟩ := x_ref_at hv0 rfl
  obtain rfl := List.mem_singleton.mp ht0
  replace hl : lv_has ls xMbr.2.2.1 [(0, .ref this)] := hl
  obtain ⟨bk, hs_bk, hY_bk⟩ := hA0 _ rfl
  obtain ⟨fb, hA_bk, hB_bk⟩ := y_arr hI.1 hY_bk rfl rfl
  refine lv_aload_n hx hb br_d0 rfl (lv_at hl 0 rfl) ?_
  refine y_getf X (fl_br_229 X.2.2.2.2.1) hI.1 hY_this rfl hs_bk br_d1 ?_
  refine lv_iconst hx hb br_d4 (v := 0) (by decide) ?_
  have ec0 : (0 : Int32).toInt = 0 := by decide
  refine lv_iconst hx hb br_d5 (v := 0) (by decide) ?_
  refine y_iast X hY0 hI hY_bk rfl hA_bk (by omega) (by show _ < (160 : Int); omega) (by show x_c _ (xI 0 10) _; exact ⟨_, rfl, by decide, by decide⟩) (by decide +kernel) br_d6 fun H locs hI h_new ho => ?_
  replace hA_bk := h_new
  generalize hf_f6 : y_up fb (0 : Int32).toInt.toNat (0 : Int32) = f6 at hA_bk
  replace hs_bk := y_slk hs_bk (ho _ (y_ne hY_this hY_bk rfl))
  refine lv_aload_n hx hb br_d7 rfl (lv_at hl 0 rfl) ?_
  refine y_getf X (fl_br_229 X.2.2.2.2.1) hI.1 hY_this rfl hs_bk br_d8 ?_
  refine lv_iconst hx hb br_d11 (v := 1) (by decide) ?_
  have ec1 : (1 : Int32).toInt = 1 := by decide
  refine lv_iconst hx hb br_d12 (v := 0) (by decide) ?_
  refine y_iast X hY0 hI hY_bk rfl hA_bk (by omega) (by show _ < (160 : Int); omega) (by show x_c _ (xI 0 8) _; exact ⟨_, rfl, by decide, by decide⟩) (by decide +kernel) br_d13 fun H locs hI h_new ho => ?_
  replace hA_bk := h_new
  generalize hf_f13 : y_up f6 (1 : Int32).toInt.toNat (0 : Int32) = f13 at hA_bk
  replace hs_bk := y_slk hs_bk (ho _ (y_ne hY_this hY_bk rfl))
  refine lv_aload_n hx hb br_d14 rfl (lv_at hl 0 rfl) ?_
  refine y_getf X (fl_br_229 X.2.2.2.2.1) hI.1 hY_this rfl hs_bk br_d15 ?_
  refine lv_iconst hx hb br_d18 (v := 4) (by decide) ?_
  have ec4 : (4 : Int32).toInt = 4 := by decide
  refine lv_iconst hx hb br_d19 (v := 0) (by decide) ?_
  refine y_iast X hY0 hI hY_bk rfl hA_bk (by omega) (by show _ < (160 : Int); omega) (by show x_c _ (xF) _; exact ⟨_, rfl, by decide, by decide⟩) (by decide +kernel) br_d20 fun H locs hI h_new ho => ?_
  replace hA_bk := h_new
  generalize hf_f20 : y_up f13 (4 : Int32).toInt.toNat (0 : Int32) = f20 at hA_bk
  replace hs_bk := y_slk hs_bk (ho _ (y_ne hY_this hY_bk rfl))
  refine lv_aload_n hx hb br_d21 rfl (lv_at hl 0 rfl) ?_
  refine y_getf X (fl_br_229 X.2.2.2.2.1) hI.1 hY_this rfl hs_bk br_d22 ?_
  refine lv_iconst hx hb br_d25 (v := 5) (by decide) ?_
  have ec5 : (5 : Int32).toInt = 5 := by decide
  refine lv_iconst hx hb br_d26 (v := 0) (by decide) ?_
  refine y_iast X hY0 hI hY_bk rfl hA_bk (by omega) (by show _ < (160 : Int); omega) (by show x_c _ (xF) _; exact ⟨_, rfl, by decide, by decide⟩) (by decide +kernel) br_d27 fun H locs hI h_new ho => ?_
  replace hA_bk := h_new
  generalize hf_f27 : y_up f20 (5 : Int32).toInt.toNat (0 : Int32) = f27 at hA_bk
  replace hs_bk := y_slk hs_bk (ho _ (y_ne hY_this hY_bk rfl))
  refine lv_aload_n hx hb br_d28 rfl (lv_at hl 0 rfl) ?_
  refine y_getf X (fl_br_229 X.2.2.2.2.1) hI.1 hY_this rfl hs_bk br_d29 ?_
  refine lv_bipush hx hb br_d32 (v := 6) (by decide) ?_
  have ec6 : (6 : Int32).toInt = 6 := by decide
  refine lv_iconst hx hb br_d34 (v := 0) (by decide) ?_
  refine y_iast X hY0 hI hY_bk rfl hA_bk (by omega) (by show _ < (160 : Int); omega) (by show x_c _ (xF) _; exact ⟨_, rfl, by decide, by decide⟩) (by decide +kernel) br_d35 fun H locs hI h_new ho => ?_
  replace hA_bk := h_new
  generalize hf_f35 : y_up f27 (6 : Int32).toInt.toNat (0 : Int32) = f35 at hA_bk
  replace hs_bk := y_slk hs_bk (ho _ (y_ne hY_this hY_bk rfl))
  exact y_return B hI rfl rfl List.mem_cons_self rfl (x_cs.mono B.2.2.2.2.2 (y_mon B hI)) trivial (Nat.le_refl _) (Nat.le_refl _) br_d36
def xMmi : xM := (⟨"TwinFiresModel", "<init>", "()V"⟩, prog_14_method_3_code, 2, none, [xR false [18]], [([xR false [17]], none)], [(18, 0), (18, 1), (18, 2), (18, 3), (18, 4), (18, 5), (18, 6), (18, 7), (18, 8), (18, 9), (18, 10), (18, 11), (18, 12), (18, 13), (18, 14), (18, 15), (18, 16), (18, 17), (18, 18), (18, 19), (18, 20), (18, 21), (18, 22), (18, 23), (18, 24), (18, 25), (18, 26), (46, 0)], (1, 20, 18, 61487), some 17)
theorem mn_d0 : decode xMmi.2.1 0 = .ok (.aload_n 0, 1) := dz_ok (by decide +kernel)
theorem mn_d1 : decode xMmi.2.1 1 = .ok (.invokespecial 1, 3) := dz_ok (by decide +kernel)
theorem mn_d4 : decode xMmi.2.1 4 = .ok (.aload_n 0, 1) := dz_ok (by decide +kernel)
theorem mn_d5 : decode xMmi.2.1 5 = .ok (.sipush 160, 3) := dz_ok (by decide +kernel)
theorem mn_d8 : decode xMmi.2.1 8 = .ok (.newarray .int, 2) := dz_ok (by decide +kernel)
theorem mn_d10 : decode xMmi.2.1 10 = .ok (.putfield 7, 3) := dz_ok (by decide +kernel)
theorem mn_d13 : decode xMmi.2.1 13 = .ok (.aload_n 0, 1) := dz_ok (by decide +kernel)
theorem mn_d14 : decode xMmi.2.1 14 = .ok (.sipush 320, 3) := dz_ok (by decide +kernel)
theorem mn_d17 : decode xMmi.2.1 17 = .ok (.newarray .int, 2) := dz_ok (by decide +kernel)
theorem mn_d19 : decode xMmi.2.1 19 = .ok (.putfield 13, 3) := dz_ok (by decide +kernel)
theorem mn_d22 : decode xMmi.2.1 22 = .ok (.aload_n 0, 1) := dz_ok (by decide +kernel)
theorem mn_d23 : decode xMmi.2.1 23 = .ok (.iconst 2, 1) := dz_ok (by decide +kernel)
theorem mn_d24 : decode xMmi.2.1 24 = .ok (.newarray .boolean, 2) := dz_ok (by decide +kernel)
theorem mn_d26 : decode xMmi.2.1 26 = .ok (.putfield 16, 3) := dz_ok (by decide +kernel)
theorem mn_d29 : decode xMmi.2.1 29 = .ok (.aload_n 0, 1) := dz_ok (by decide +kernel)
theorem mn_d30 : decode xMmi.2.1 30 = .ok (.sipush 160, 3) := dz_ok (by decide +kernel)
theorem mn_d33 : decode xMmi.2.1 33 = .ok (.newarray .int, 2) := dz_ok (by decide +kernel)
theorem mn_d35 : decode xMmi.2.1 35 = .ok (.putfield 20, 3) := dz_ok (by decide +kernel)
theorem mn_d38 : decode xMmi.2.1 38 = .ok (.aload_n 0, 1) := dz_ok (by decide +kernel)
theorem mn_d39 : decode xMmi.2.1 39 = .ok (.iconst 3, 1) := dz_ok (by decide +kernel)
theorem mn_d40 : decode xMmi.2.1 40 = .ok (.newarray .int, 2) := dz_ok (by decide +kernel)
theorem mn_d42 : decode xMmi.2.1 42 = .ok (.putfield 23, 3) := dz_ok (by decide +kernel)
theorem mn_d45 : decode xMmi.2.1 45 = .ok (.aload_n 0, 1) := dz_ok (by decide +kernel)
theorem mn_d46 : decode xMmi.2.1 46 = .ok (.bipush 10, 2) := dz_ok (by decide +kernel)
theorem mn_d48 : decode xMmi.2.1 48 = .ok (.newarray .int, 2) := dz_ok (by decide +kernel)
theorem mn_d50 : decode xMmi.2.1 50 = .ok (.putfield 26, 3) := dz_ok (by decide +kernel)
theorem mn_d53 : decode xMmi.2.1 53 = .ok (.aload_n 0, 1) := dz_ok (by decide +kernel)
theorem mn_d54 : decode xMmi.2.1 54 = .ok (.sipush 240, 3) := dz_ok (by decide +kernel)
theorem mn_d57 : decode xMmi.2.1 57 = .ok (.newarray .int, 2) := dz_ok (by decide +kernel)
theorem mn_d59 : decode xMmi.2.1 59 = .ok (.putfield 29, 3) := dz_ok (by decide +kernel)
theorem mn_d62 : decode xMmi.2.1 62 = .ok (.aload_n 0, 1) := dz_ok (by decide +kernel)
theorem mn_d63 : decode xMmi.2.1 63 = .ok (.sipush 240, 3) := dz_ok (by decide +kernel)
theorem mn_d66 : decode xMmi.2.1 66 = .ok (.newarray .int, 2) := dz_ok (by decide +kernel)
theorem mn_d68 : decode xMmi.2.1 68 = .ok (.putfield 32, 3) := dz_ok (by decide +kernel)
theorem mn_d71 : decode xMmi.2.1 71 = .ok (.aload_n 0, 1) := dz_ok (by decide +kernel)
theorem mn_d72 : decode xMmi.2.1 72 = .ok (.sipush 960, 3) := dz_ok (by decide +kernel)
theorem mn_d75 : decode xMmi.2.1 75 = .ok (.newarray .int, 2) := dz_ok (by decide +kernel)
theorem mn_d77 : decode xMmi.2.1 77 = .ok (.putfield 35, 3) := dz_ok (by decide +kernel)
theorem mn_d80 : decode xMmi.2.1 80 = .ok (.aload_n 0, 1) := dz_ok (by decide +kernel)
theorem mn_d81 : decode xMmi.2.1 81 = .ok (.sipush 1024, 3) := dz_ok (by decide +kernel)
theorem mn_d84 : decode xMmi.2.1 84 = .ok (.newarray .boolean, 2) := dz_ok (by decide +kernel)
theorem mn_d86 : decode xMmi.2.1 86 = .ok (.putfield 38, 3) := dz_ok (by decide +kernel)
theorem mn_d89 : decode xMmi.2.1 89 = .ok (.aload_n 0, 1) := dz_ok (by decide +kernel)
theorem mn_d90 : decode xMmi.2.1 90 = .ok (.sipush 1024, 3) := dz_ok (by decide +kernel)
theorem mn_d93 : decode xMmi.2.1 93 = .ok (.newarray .int, 2) := dz_ok (by decide +kernel)
theorem mn_d95 : decode xMmi.2.1 95 = .ok (.putfield 41, 3) := dz_ok (by decide +kernel)
theorem mn_d98 : decode xMmi.2.1 98 = .ok (.aload_n 0, 1) := dz_ok (by decide +kernel)
theorem mn_d99 : decode xMmi.2.1 99 = .ok (.sipush 1024, 3) := dz_ok (by decide +kernel)
theorem mn_d102 : decode xMmi.2.1 102 = .ok (.newarray .int, 2) := dz_ok (by decide +kernel)
theorem mn_d104 : decode xMmi.2.1 104 = .ok (.putfield 44, 3) := dz_ok (by decide +kernel)
theorem mn_d107 : decode xMmi.2.1 107 = .ok (.aload_n 0, 1) := dz_ok (by decide +kernel)
theorem mn_d108 : decode xMmi.2.1 108 = .ok (.sipush 1024, 3) := dz_ok (by decide +kernel)
theorem mn_d111 : decode xMmi.2.1 111 = .ok (.newarray .boolean, 2) := dz_ok (by decide +kernel)
theorem mn_d113 : decode xMmi.2.1 113 = .ok (.putfield 47, 3) := dz_ok (by decide +kernel)
theorem mn_d116 : decode xMmi.2.1 116 = .ok (.aload_n 0, 1) := dz_ok (by decide +kernel)
theorem mn_d117 : decode xMmi.2.1 117 = .ok (.sipush 12288, 3) := dz_ok (by decide +kernel)
theorem mn_d120 : decode xMmi.2.1 120 = .ok (.newarray .boolean, 2) := dz_ok (by decide +kernel)
theorem mn_d122 : decode xMmi.2.1 122 = .ok (.putfield 50, 3) := dz_ok (by decide +kernel)
theorem mn_d125 : decode xMmi.2.1 125 = .ok (.aload_n 0, 1) := dz_ok (by decide +kernel)
theorem mn_d126 : decode xMmi.2.1 126 = .ok (.sipush 12288, 3) := dz_ok (by decide +kernel)
theorem mn_d129 : decode xMmi.2.1 129 = .ok (.newarray .boolean, 2) := dz_ok (by decide +kernel)
theorem mn_d131 : decode xMmi.2.1 131 = .ok (.putfield 53, 3) := dz_ok (by decide +kernel)
theorem mn_d134 : decode xMmi.2.1 134 = .ok (.aload_n 0, 1) := dz_ok (by decide +kernel)
theorem mn_d135 : decode xMmi.2.1 135 = .ok (.sipush 12288, 3) := dz_ok (by decide +kernel)
theorem mn_d138 : decode xMmi.2.1 138 = .ok (.newarray .boolean, 2) := dz_ok (by decide +kernel)
theorem mn_d140 : decode xMmi.2.1 140 = .ok (.putfield 56, 3) := dz_ok (by decide +kernel)
theorem mn_d143 : decode xMmi.2.1 143 = .ok (.aload_n 0, 1) := dz_ok (by decide +kernel)
theorem mn_d144 : decode xMmi.2.1 144 = .ok (.sipush 9216, 3) := dz_ok (by decide +kernel)
theorem mn_d147 : decode xMmi.2.1 147 = .ok (.newarray .int, 2) := dz_ok (by decide +kernel)
theorem mn_d149 : decode xMmi.2.1 149 = .ok (.putfield 59, 3) := dz_ok (by decide +kernel)
theorem mn_d152 : decode xMmi.2.1 152 = .ok (.aload_n 0, 1) := dz_ok (by decide +kernel)
theorem mn_d153 : decode xMmi.2.1 153 = .ok (.sipush 9216, 3) := dz_ok (by decide +kernel)
theorem mn_d156 : decode xMmi.2.1 156 = .ok (.newarray .int, 2) := dz_ok (by decide +kernel)
theorem mn_d158 : decode xMmi.2.1 158 = .ok (.putfield 62, 3) := dz_ok (by decide +kernel)
theorem mn_d161 : decode xMmi.2.1 161 = .ok (.aload_n 0, 1) := dz_ok (by decide +kernel)
theorem mn_d162 : decode xMmi.2.1 162 = .ok (.invokevirtual 65, 3) := dz_ok (by decide +kernel)
theorem mn_d165 : decode xMmi.2.1 165 = .ok (.aload_n 0, 1) := dz_ok (by decide +kernel)
theorem mn_d166 : decode xMmi.2.1 166 = .ok (.getfield 7, 3) := dz_ok (by decide +kernel)
theorem mn_d169 : decode xMmi.2.1 169 = .ok (.bipush 7, 2) := dz_ok (by decide +kernel)
theorem mn_d171 : decode xMmi.2.1 171 = .ok (.bipush 9, 2) := dz_ok (by decide +kernel)
theorem mn_d173 : decode xMmi.2.1 173 = .ok (.iastore, 1) := dz_ok (by decide +kernel)
theorem mn_d174 : decode xMmi.2.1 174 = .ok (.iconst 0, 1) := dz_ok (by decide +kernel)
theorem mn_d175 : decode xMmi.2.1 175 = .ok (.istore_n 1, 1) := dz_ok (by decide +kernel)
theorem mn_d176 : decode xMmi.2.1 176 = .ok (.iload_n 1, 1) := dz_ok (by decide +kernel)
theorem mn_d177 : decode xMmi.2.1 177 = .ok (.bipush 12, 2) := dz_ok (by decide +kernel)
theorem mn_d179 : decode xMmi.2.1 179 = .ok (.if_icmp .ge 22, 3) := dz_ok (by decide +kernel)
theorem mn_d182 : decode xMmi.2.1 182 = .ok (.aload_n 0, 1) := dz_ok (by decide +kernel)
theorem mn_d183 : decode xMmi.2.1 183 = .ok (.getfield 7, 3) := dz_ok (by decide +kernel)
theorem mn_d186 : decode xMmi.2.1 186 = .ok (.sipush 136, 3) := dz_ok (by decide +kernel)
theorem mn_d189 : decode xMmi.2.1 189 = .ok (.iconst 2, 1) := dz_ok (by decide +kernel)
theorem mn_d190 : decode xMmi.2.1 190 = .ok (.iload_n 1, 1) := dz_ok (by decide +kernel)
theorem mn_d191 : decode xMmi.2.1 191 = .ok (.imul, 1) := dz_ok (by decide +kernel)
theorem mn_d192 : decode xMmi.2.1 192 = .ok (.iadd, 1) := dz_ok (by decide +kernel)
theorem mn_d193 : decode xMmi.2.1 193 = .ok (.iconst (-1), 1) := dz_ok (by decide +kernel)
theorem mn_d194 : decode xMmi.2.1 194 = .ok (.iastore, 1) := dz_ok (by decide +kernel)
theorem mn_d195 : decode xMmi.2.1 195 = .ok (.iinc 1 1, 3) := dz_ok (by decide +kernel)
theorem mn_d198 : decode xMmi.2.1 198 = .ok (.goto (-22), 3) := dz_ok (by decide +kernel)
theorem mn_d201 : decode xMmi.2.1 201 = .ok (.aload_n 0, 1) := dz_ok (by decide +kernel)
theorem mn_d202 : decode xMmi.2.1 202 = .ok (.lconst 1, 1) := dz_ok (by decide +kernel)
theorem mn_d203 : decode xMmi.2.1 203 = .ok (.putfield 68, 3) := dz_ok (by decide +kernel)
theorem mn_d206 : decode xMmi.2.1 206 = .ok (.return_, 1) := dz_ok (by decide +kernel)
theorem mn_L176 {p : Program} {l : Launch} {e : Env} {s : State} {m : MethodId} {below : List Frame} {meth : Method} {c : Code} {D : va_G} {U : State} {Y0 : xY} {av : List Value} (B : y_B vwCl x_Tb x_Nb xMmi p s m meth c D U Y0 av) {this n8 n17 n24 n33 n40 n48 n57 n66 n75 n84 n93 n102 n111 n120 n129 n138 n147 n156 : Nat} (hav : av = [.ref this])  :
    ∀ (n : Nat), ∀ (H : Heap) (Y : xY) (locs : List Loc) (ls : Array Slot) (i : Int32) (fb : Nat → Int32), x_I D x_G x_Zs U (x_efs xMmi) Y0 s.heap Y H locs → Y this = some 18 → Y n8 = some 46 → Y n17 = some 47 → Y n24 = some 48 → Y n33 = some 49 → Y n40 = some 50 → Y n48 = some 51 → Y n57 = some 52 → Y n66 = some 53 → Y n75 = some 54 → Y n84 = some 55 → Y n93 = some 56 → Y n102 = some 57 → Y n111 = some 58 → Y n120 = some 59 → Y n129 = some 60 → Y n138 = some 61 → Y n147 = some 62 → Y n156 = some 63 → x_sl D 12 0 this H = some (.ref n8) → x_sl D 12 1 this H = some (.ref n17) → x_sl D 12 2 this H = some (.ref n24) → x_sl D 12 3 this H = some (.ref n33) → x_sl D 12 4 this H = some (.ref n40) → x_sl D 12 8 this H = some (.ref n48) → x_sl D 12 9 this H = some (.ref n57) → x_sl D 12 15 this H = some (.ref n66) → x_sl D 12 16 this H = some (.ref n75) → x_sl D 12 18 this H = some (.ref n84) → x_sl D 12 19 this H = some (.ref n93) → x_sl D 12 20 this H = some (.ref n102) → x_sl D 12 21 this H = some (.ref n111) → x_sl D 12 22 this H = some (.ref n120) → x_sl D 12 23 this H = some (.ref n129) → x_sl D 12 24 this H = some (.ref n138) → x_sl D 12 25 this H = some (.ref n147) → x_sl D 12 26 this H = some (.ref n156) → y_A n8 160 H fb → lv_has ls xMmi.2.2.1 [(1, .int i), (0, .ref this)] → (0 ≤ i.toInt ∧ i.toInt ≤ 12) → (12 - i.toInt).toNat < n → W p l e (x_rm xMmi) s m av.toArray below meth c H locs 18 61487 (y_QQ below D x_G x_Zs U xMmi y_TP av Y0 s) (F0 m 176 ls []) := by
  have X := B.1
  have hx := X.1
  have hb := X.2.1
  have hY0 := B.2.2.2.2.1
  have hts := X.2.2.2.2.1
  have hnm := B.2.2.2.1
  intro n
  induction n with
  | zero => intro _ _ _ _ _ _ _ _ _ _ _ _ _ _ _ _ _ _ _ _ _ _ _ _ _ _ _ _ _ _ _ _ _ _ _ _ _ _ _ _ _ _ _ _ _ _ _ h; exact absurd h (Nat.not_lt_zero _)
  | succ n ih =>
    intro H Y locs ls i fb hI hY_this hY_n8 hY_n17 hY_n24 hY_n33 hY_n40 hY_n48 hY_n57 hY_n66 hY_n75 hY_n84 hY_n93 hY_n102 hY_n111 hY_n120 hY_n129 hY_n138 hY_n147 hY_n156 hs_n8 hs_n17 hs_n24 hs_n33 hs_n40 hs_n48 hs_n57 hs_n66 hs_n75 hs_n84 hs_n93 hs_n102 hs_n111 hs_n120 hs_n129 hs_n138 hs_n147 hs_n156 hA_n8 hl hi hn
    refine lv_iload_n hx hb mn_d176 rfl (lv_at hl 0 rfl) ?_
    refine lv_bipush hx hb mn_d177 (v := 12) (by decide) ?_
    have ec12 : (12 : Int32).toInt = 12 := by decide
    refine lv_icmp_ge hx hb mn_d179 (tgt := 201) (by decide) (fun q179 => ?_) (fun q179 => ?_)
    · have q179_ : (12 : Int32).toInt ≤ i.toInt := x_le32.mp q179
      refine lv_aload_n hx hb mn_d201 rfl (lv_at hl 1 rfl) ?_
      refine lv_lconst hx hb mn_d202 (v := 1) (by decide) ?_
      have el1 : (1 : Int64).toInt = 1 := by decide
      refine y_putf X (fw_mn_230 X.2.2.2.2.1) hY0 hI hY_this rfl rfl ⟨_, rfl, x_i64 _⟩ (by decide +kernel) mn_d203 fun H sl hI ho hs hk => ?_
      replace hs_n8 := hk _ _ (by decide +kernel) (by decide) hs_n8
      replace hs_n17 := hk _ _ (by decide +kernel) (by decide) hs_n17
      replace hs_n24 := hk _ _ (by decide +kernel) (by decide) hs_n24
      replace hs_n33 := hk _ _ (by decide +kernel) (by decide) hs_n33
      replace hs_n40 := hk _ _ (by decide +kernel) (by decide) hs_n40
      replace hs_n48 := hk _ _ (by decide +kernel) (by decide) hs_n48
      replace hs_n57 := hk _ _ (by decide +kernel) (by decide) hs_n57
      replace hs_n66 := hk _ _ (by decide +kernel) (by decide) hs_n66
      replace hs_n75 := hk _ _ (by decide +kernel) (by decide) hs_n75
      replace hs_n84 := hk _ _ (by decide +kernel) (by decide) hs_n84
      replace hs_n93 := hk _ _ (by decide +kernel) (by decide) hs_n93
      replace hs_n102 := hk _ _ (by decide +kernel) (by decide) hs_n102
      replace hs_n111 := hk _ _ (by decide +kernel) (by decide) hs_n111
      replace hs_n120 := hk _ _ (by decide +kernel) (by decide) hs_n120
      replace hs_n129 := hk _ _ (by decide +kernel) (by decide) hs_n129
      replace hs_n138 := hk _ _ (by decide +kernel) (by decide) hs_n138
      replace hs_n147 := hk _ _ (by decide +kernel) (by decide) hs_n147
      replace hs_n156 := hk _ _ (by decide +kernel) (by decide) hs_n156
      replace hA_n8 := hA_n8.kept (ho _ (y_ne hY_n8 hY_this rfl))
      replace hs := hs
      have hs203 := hs
      subst hav
      have hYC := hY_this
      have hf : ∀ (k : Nat) (ft : xV), ([xR false [46], xR false [47], xR false [48], xR false [49], xR false [50], xI 0 1, xFL, xFL, xR false [51], xR false [52], xI 0 240, xI 0 240, xF, xF, xF, xR false [53], xR false [54], xI 0 240, xR false [55], xR false [56], xR false [57], xR false [58], xR false [59], xR false [60], xR false [61], xR false [62], xR false [63]])[k]? = some ft → ∃ v : Value, x_sl D 12 k this H = some v ∧ x_c Y ft v ∧ x_nrT 18 ft = true := fun k ft hk => match k, hk with
          | 0, hk => by cases hk; exact ⟨_, hs_n8, y_crefA hY_n8 rfl, rfl⟩
          | 1, hk => by cases hk; exact ⟨_, hs_n17, y_crefA hY_n17 rfl, rfl⟩
          | 2, hk => by cases hk; exact ⟨_, hs_n24, y_crefA hY_n24 rfl, rfl⟩
          | 3, hk => by cases hk; exact ⟨_, hs_n33, y_crefA hY_n33 rfl, rfl⟩
          | 4, hk => by cases hk; exact ⟨_, hs_n40, y_crefA hY_n40 rfl, rfl⟩
          | 5, hk => by cases hk; obtain ⟨v, e1, e2⟩ := y_fld (k := 5) hI.1 hYC rfl rfl; exact ⟨v, e1, e2, rfl⟩
          | 6, hk => by cases hk; obtain ⟨v, e1, e2⟩ := y_fld (k := 6) hI.1 hYC rfl rfl; exact ⟨v, e1, e2, rfl⟩
          | 7, hk => by cases hk; obtain ⟨v, e1, e2⟩ := y_fld (k := 7) hI.1 hYC rfl rfl; exact ⟨v, e1, e2, rfl⟩
          | 8, hk => by cases hk; exact ⟨_, hs_n48, y_crefA hY_n48 rfl, rfl⟩
          | 9, hk => by cases hk; exact ⟨_, hs_n57, y_crefA hY_n57 rfl, rfl⟩
          | 10, hk => by cases hk; obtain ⟨v, e1, e2⟩ := y_fld (k := 10) hI.1 hYC rfl rfl; exact ⟨v, e1, e2, rfl⟩
          | 11, hk => by cases hk; obtain ⟨v, e1, e2⟩ := y_fld (k := 11) hI.1 hYC rfl rfl; exact ⟨v, e1, e2, rfl⟩
          | 12, hk => by cases hk; obtain ⟨v, e1, e2⟩ := y_fld (k := 12) hI.1 hYC rfl rfl; exact ⟨v, e1, e2, rfl⟩
          | 13, hk => by cases hk; obtain ⟨v, e1, e2⟩ := y_fld (k := 13) hI.1 hYC rfl rfl; exact ⟨v, e1, e2, rfl⟩
          | 14, hk => by cases hk; obtain ⟨v, e1, e2⟩ := y_fld (k := 14) hI.1 hYC rfl rfl; exact ⟨v, e1, e2, rfl⟩
          | 15, hk => by cases hk; exact ⟨_, hs_n66, y_crefA hY_n66 rfl, rfl⟩
          | 16, hk => by cases hk; exact ⟨_, hs_n75, y_crefA hY_n75 rfl, rfl⟩
          | 17, hk => by cases hk; obtain ⟨v, e1, e2⟩ := y_fld (k := 17) hI.1 hYC rfl rfl; exact ⟨v, e1, e2, rfl⟩
          | 18, hk => by cases hk; exact ⟨_, hs_n84, y_crefA hY_n84 rfl, rfl⟩
          | 19, hk => by cases hk; exact ⟨_, hs_n93, y_crefA hY_n93 rfl, rfl⟩
          | 20, hk => by cases hk; exact ⟨_, hs_n102, y_crefA hY_n102 rfl, rfl⟩
          | 21, hk => by cases hk; exact ⟨_, hs_n111, y_crefA hY_n111 rfl, rfl⟩
          | 22, hk => by cases hk; exact ⟨_, hs_n120, y_crefA hY_n120 rfl, rfl⟩
          | 23, hk => by cases hk; exact ⟨_, hs_n129, y_crefA hY_n129 rfl, rfl⟩
          | 24, hk => by cases hk; exact ⟨_, hs_n138, y_crefA hY_n138 rfl, rfl⟩
          | 25, hk => by cases hk; exact ⟨_, hs_n147, y_crefA hY_n147 rfl, rfl⟩
          | 26, hk => by cases hk; exact ⟨_, hs_n156, y_crefA hY_n156 rfl, rfl⟩
          | k + 27, hk => by cases hk
      exact y_retC (o := (12, [xR false [46], xR false [47], xR false [48], xR false [49], xR false [50], xI 0 1, xFL, xFL, xR false [51], xR false [52], xI 0 240, xI 0 240, xF, xF, xF, xR false [53], xR false [54], xI 0 240, xR false [55], xR false [56], xR false [57], xR false [58], xR false [59], xR false [60], xR false [61], xR false [62], xR false [63]])) B hI rfl rfl hYC rfl rfl rfl rfl (by decide +kernel) (by decide +kernel) List.mem_cons_self hf trivial (by exact Nat.le_of_ble_eq_true rfl) (by exact Nat.le_of_ble_eq_true rfl) mn_d206
    · have q179_ : i.toInt < (12 : Int32).toInt := Int.not_le.mp fun q => q179 (x_le32.mpr q)
      refine lv_aload_n hx hb mn_d182 rfl (lv_at hl 1 rfl) ?_
      refine y_getf X (fl_br_229 X.2.2.2.2.1) hI.1 hY_this rfl hs_n8 mn_d183 ?_
      refine lv_sipush hx hb mn_d186 (v := 136) (by decide) ?_
      have ec136 : (136 : Int32).toInt = 136 := by decide
      refine lv_iconst hx hb mn_d189 (v := 2) (by decide) ?_
      have ec2 : (2 : Int32).toInt = 2 := by decide
      refine lv_iload_n hx hb mn_d190 rfl (lv_at hl 0 rfl) ?_
      refine lv_imul hx hb mn_d191 ?_
      generalize hg_z191 : (2 : Int32) * i = z191
      have h_z191 : z191.toInt = 2 * i.toInt := by rw [← hg_z191]; have := y_mul (x := (2 : Int32)) (y := i) (by rw [ec2]; omega) (by rw [ec2]; omega); rw [ec2] at this; exact this
      refine lv_iadd hx hb mn_d192 ?_
      generalize hg_z192 : (136 : Int32) + z191 = z192
      have h_z192 : z192.toInt = 136 + z191.toInt := by rw [← hg_z192]; have := y_add (x := (136 : Int32)) (y := z191) (by rw [ec136]; omega) (by rw [ec136]; omega); rw [ec136] at this; exact this
      refine lv_iconst hx hb mn_d193 (v := (-1)) (by decide) ?_
      have ecm1 : ((-1) : Int32).toInt = (-1) := by decide
      refine y_iast X hY0 hI hY_n8 rfl hA_n8 (by omega) (by show _ < (160 : Int); omega) (by rw [z_get3 (by omega)]; exact ⟨_, rfl, x_i32 _⟩) (by decide +kernel) mn_d194 fun H locs hI h_new ho => ?_
      replace hA_n8 := h_new
      generalize hf_f194 : y_up fb z192.toInt.toNat ((-1) : Int32) = f194 at hA_n8
      replace hs_n8 := y_slk hs_n8 (ho _ (y_ne hY_this hY_n8 rfl))
      replace hs_n17 := y_slk hs_n17 (ho _ (y_ne hY_this hY_n8 rfl))
      replace hs_n24 := y_slk hs_n24 (ho _ (y_ne hY_this hY_n8 rfl))
      replace hs_n33 := y_slk hs_n33 (ho _ (y_ne hY_this hY_n8 rfl))
      replace hs_n40 := y_slk hs_n40 (ho _ (y_ne hY_this hY_n8 rfl))
      replace hs_n48 := y_slk hs_n48 (ho _ (y_ne hY_this hY_n8 rfl))
      replace hs_n57 := y_slk hs_n57 (ho _ (y_ne hY_this hY_n8 rfl))
      replace hs_n66 := y_slk hs_n66 (ho _ (y_ne hY_this hY_n8 rfl))
      replace hs_n75 := y_slk hs_n75 (ho _ (y_ne hY_this hY_n8 rfl))
      replace hs_n84 := y_slk hs_n84 (ho _ (y_ne hY_this hY_n8 rfl))
      replace hs_n93 := y_slk hs_n93 (ho _ (y_ne hY_this hY_n8 rfl))
      replace hs_n102 := y_slk hs_n102 (ho _ (y_ne hY_this hY_n8 rfl))
      replace hs_n111 := y_slk hs_n111 (ho _ (y_ne hY_this hY_n8 rfl))
      replace hs_n120 := y_slk hs_n120 (ho _ (y_ne hY_this hY_n8 rfl))
      replace hs_n129 := y_slk hs_n129 (ho _ (y_ne hY_this hY_n8 rfl))
      replace hs_n138 := y_slk hs_n138 (ho _ (y_ne hY_this hY_n8 rfl))
      replace hs_n147 := y_slk hs_n147 (ho _ (y_ne hY_this hY_n8 rfl))
      replace hs_n156 := y_slk hs_n156 (ho _ (y_ne hY_this hY_n8 rfl))
      obtain ⟨z195, hg_z195⟩ : ∃ z195 : Int32, i + Int32.ofInt 1 = z195 := ⟨_, rfl⟩
      have h_z195 : z195.toInt = i.toInt + 1 := by rw [← hg_z195]; exact y_inc (by decide) (by omega) (by omega)
      refine lv_iinc hx hb mn_d195 hl (k := 0) rfl hg_z195 (by decide) (lv' := [(1, .int z195), (0, .ref this)]) rfl fun ls hl => ?_
      refine lv_goto hx hb mn_d198 (tgt := 176) (by decide) ?_
      exact ih _ _ _ _ _ _ hI hY_this hY_n8 hY_n17 hY_n24 hY_n33 hY_n40 hY_n48 hY_n57 hY_n66 hY_n75 hY_n84 hY_n93 hY_n102 hY_n111 hY_n120 hY_n129 hY_n138 hY_n147 hY_n156 hs_n8 hs_n17 hs_n24 hs_n33 hs_n40 hs_n48 hs_n57 hs_n66 hs_n75 hs_n84 hs_n93 hs_n102 hs_n111 hs_n120 hs_n129 hs_n138 hs_n147 hs_n156 hA_n8 (lv_sub hl [0, 1] rfl) (by first | assumption | omega) (by omega)
theorem ym_modelInit : y_Met vwCl x_G x_Zs x_Tb x_Nb xMmi y_T y_TP := by
  refine y_main (by decide +kernel) (by decide +kernel) x_Tb_good x_Nb_ok ?_
  intro p l e s m below meth c D U Y0 av ls B hI _ hl
  have X := B.1
  have hx := X.1
  have hb := X.2.1
  have hY0 := B.2.2.2.2.1
  have hts := X.2.2.2.2.1
  have hnm := B.2.2.2.1
  obtain ⟨v0, rfl, hv0⟩ := x_one B.2.2.2.2.2
  obtain ⟨this, t0, rfl, ht0, hY_this⟩ := x_ref_at hv0 rfl
  obtain rfl := List.mem_singleton.mp ht0
  replace hl : lv_has ls xMmi.2.2.1 [(0, .ref this)] := hl
  refine lv_aload_n hx hb mn_d0 rfl (lv_at hl 0 rfl) ?_
  refine y_oi X (hts _ (x_bw61 14 rfl rfl)) (hts _ (x_bw1 12 rfl rfl)) (hts _ (x_bw1 13 rfl rfl)) (Nat.le_of_ble_eq_true rfl) (Nat.le_of_ble_eq_true rfl) hl.1 (Nat.le_of_ble_eq_true rfl) mn_d1 ?_
  refine lv_aload_n hx hb mn_d4 rfl (lv_at hl 0 rfl) ?_
  refine lv_sipush hx hb mn_d5 (v := 160) (by decide) ?_
  have ec160 : (160 : Int32).toInt = 160 := by decide
  refine y_newa (tag := 46) (k := 160) X hY0 hI rfl rfl (by decide) (hts _ (x_bw5 1 rfl rfl)) (fun Y j => x_dfa (by decide +kernel) Y j) (by decide) (Nat.le_of_ble_eq_true rfl) (Nat.le_of_ble_eq_true rfl) mn_d8 fun Yn H n8 hnw => ?_
  obtain ⟨hIn, hmo, hY_n8, hfr_n8, hke⟩ := hnw
  replace hY_this := hmo _ _ hY_this
  replace hI := hIn
  clear hIn hmo hke
  refine y_putf X (fw_mn_231 X.2.2.2.2.1 hnm) hY0 hI hY_this rfl rfl (y_crefA hY_n8 rfl) (by decide +kernel) mn_d10 fun H sl hI ho hs hk => ?_
  replace hs := hs
  have hs10 := hs
  refine lv_aload_n hx hb mn_d13 rfl (lv_at hl 0 rfl) ?_
  refine lv_sipush hx hb mn_d14 (v := 320) (by decide) ?_
  have ec320 : (320 : Int32).toInt = 320 := by decide
  refine y_newa (tag := 47) (k := 320) X hY0 hI rfl rfl (by decide) (hts _ (x_bw5 1 rfl rfl)) (fun Y j => x_dfa (by decide +kernel) Y j) (by decide) (Nat.le_of_ble_eq_true rfl) (Nat.le_of_ble_eq_true rfl) mn_d17 fun Yn H n17 hnw => ?_
  obtain ⟨hIn, hmo, hY_n17, hfr_n17, hke⟩ := hnw
  replace hs10 := y_slk hs10 (hke _ _ hY_this)
  replace hY_this := hmo _ _ hY_this
  replace hY_n8 := hmo _ _ hY_n8
  replace hI := hIn
  clear hIn hmo hke
  refine y_putf X (fw_mn_232 X.2.2.2.2.1 hnm) hY0 hI hY_this rfl rfl (y_crefA hY_n17 rfl) (by decide +kernel) mn_d19 fun H sl hI ho hs hk => ?_
  replace hs10 := hk _ _ (by decide +kernel) (by decide) hs10
  replace hs := hs
  have hs19 := hs
  refine lv_aload_n hx hb mn_d22 rfl (lv_at hl 0 rfl) ?_
  refine lv_iconst hx hb mn_d23 (v := 2) (by decide) ?_
  have ec2 : (2 : Int32).toInt = 2 := by decide
  refine y_newa (tag := 48) (k := 2) X hY0 hI rfl rfl (by decide) (hts _ (x_bw67 5 rfl rfl)) (fun Y j => x_dfa (by decide +kernel) Y j) (by decide) (Nat.le_of_ble_eq_true rfl) (Nat.le_of_ble_eq_true rfl) mn_d24 fun Yn H n24 hnw => ?_
  obtain ⟨hIn, hmo, hY_n24, hfr_n24, hke⟩ := hnw
  replace hs10 := y_slk hs10 (hke _ _ hY_this)
  replace hs19 := y_slk hs19 (hke _ _ hY_this)
  replace hY_this := hmo _ _ hY_this
  replace hY_n8 := hmo _ _ hY_n8
  replace hY_n17 := hmo _ _ hY_n17
  replace hI := hIn
  clear hIn hmo hke
  refine y_putf X (fw_mn_233 X.2.2.2.2.1 hnm) hY0 hI hY_this rfl rfl (y_crefA hY_n24 rfl) (by decide +kernel) mn_d26 fun H sl hI ho hs hk => ?_
  replace hs10 := hk _ _ (by decide +kernel) (by decide) hs10
  replace hs19 := hk _ _ (by decide +kernel) (by decide) hs19
  replace hs := hs
  have hs26 := hs
  refine lv_aload_n hx hb mn_d29 rfl (lv_at hl 0 rfl) ?_
  refine lv_sipush hx hb mn_d30 (v := 160) (by decide) ?_
  refine y_newa (tag := 49) (k := 160) X hY0 hI rfl rfl (by decide) (hts _ (x_bw5 1 rfl rfl)) (fun Y j => x_dfa (by decide +kernel) Y j) (by decide) (Nat.le_of_ble_eq_true rfl) (Nat.le_of_ble_eq_true rfl) mn_d33 fun Yn H n33 hnw => ?_
  obtain ⟨hIn, hmo, hY_n33, hfr_n33, hke⟩ := hnw
  replace hs10 := y_slk hs10 (hke _ _ hY_this)
  replace hs19 := y_slk hs19 (hke _ _ hY_this)
  replace hs26 := y_slk hs26 (hke _ _ hY_this)
  replace hY_this := hmo _ _ hY_this
  replace hY_n8 := hmo _ _ hY_n8
  replace hY_n17 := hmo _ _ hY_n17
  replace hY_n24 := hmo _ _ hY_n24
  replace hI := hIn
  clear hIn hmo hke
  refine y_putf X (fw_mn_234 X.2.2.2.2.1 hnm) hY0 hI hY_this rfl rfl (y_crefA hY_n33 rfl) (by decide +kernel) mn_d35 fun H sl hI ho hs hk => ?_
  replace hs10 := hk _ _ (by decide +kernel) (by decide) hs10
  replace hs19 := hk _ _ (by decide +kernel) (by decide) hs19
  replace hs26 := hk _ _ (by decide +kernel) (by decide) hs26
  replace hs := hs
  have hs35 := hs
  refine lv_aload_n hx hb mn_d38 rfl (lv_at hl 0 rfl) ?_
  refine lv_iconst hx hb mn_d39 (v := 3) (by decide) ?_
  have ec3 : (3 : Int32).toInt = 3 := by decide
  refine y_newa (tag := 50) (k := 3) X hY0 hI rfl rfl (by decide) (hts _ (x_bw5 1 rfl rfl)) (fun Y j => x_dfa (by decide +kernel) Y j) (by decide) (Nat.le_of_ble_eq_true rfl) (Nat.le_of_ble_eq_true rfl) mn_d40 fun Yn H n40 hnw => ?_
  obtain ⟨hIn, hmo, hY_n40, hfr_n40, hke⟩ := hnw
  replace hs10 := y_slk hs10 (hke _ _ hY_this)
  replace hs19 := y_slk hs19 (hke _ _ hY_this)
  replace hs26 := y_slk hs26 (hke _ _ hY_this)
  replace hs35 := y_slk hs35 (hke _ _ hY_this)
  replace hY_this := hmo _ _ hY_this
  replace hY_n8 := hmo _ _ hY_n8
  replace hY_n17 := hmo _ _ hY_n17
  replace hY_n24 := hmo _ _ hY_n24
  replace hY_n33 := hmo _ _ hY_n33
  replace hI := hIn
  clear hIn hmo hke
  refine y_putf X (fw_mn_235 X.2.2.2.2.1 hnm) hY0 hI hY_this rfl rfl (y_crefA hY_n40 rfl) (by decide +kernel) mn_d42 fun H sl hI ho hs hk => ?_
  replace hs10 := hk _ _ (by decide +kernel) (by decide) hs10
  replace hs19 := hk _ _ (by decide +kernel) (by decide) hs19
  replace hs26 := hk _ _ (by decide +kernel) (by decide) hs26
  replace hs35 := hk _ _ (by decide +kernel) (by decide) hs35
  replace hs := hs
  have hs42 := hs
  refine lv_aload_n hx hb mn_d45 rfl (lv_at hl 0 rfl) ?_
  refine lv_bipush hx hb mn_d46 (v := 10) (by decide) ?_
  have ec10 : (10 : Int32).toInt = 10 := by decide
  refine y_newa (tag := 51) (k := 10) X hY0 hI rfl rfl (by decide) (hts _ (x_bw5 1 rfl rfl)) (fun Y j => x_dfa (by decide +kernel) Y j) (by decide) (Nat.le_of_ble_eq_true rfl) (Nat.le_of_ble_eq_true rfl) mn_d48 fun Yn H n48 hnw => ?_
  obtain ⟨hIn, hmo, hY_n48, hfr_n48, hke⟩ := hnw
  replace hs10 := y_slk hs10 (hke _ _ hY_this)
  replace hs19 := y_slk hs19 (hke _ _ hY_this)
  replace hs26 := y_slk hs26 (hke _ _ hY_this)
  replace hs35 := y_slk hs35 (hke _ _ hY_this)
  replace hs42 := y_slk hs42 (hke _ _ hY_this)
  replace hY_this := hmo _ _ hY_this
  replace hY_n8 := hmo _ _ hY_n8
  replace hY_n17 := hmo _ _ hY_n17
  replace hY_n24 := hmo _ _ hY_n24
  replace hY_n33 := hmo _ _ hY_n33
  replace hY_n40 := hmo _ _ hY_n40
  replace hI := hIn
  clear hIn hmo hke
  refine y_putf X (fw_mn_236 X.2.2.2.2.1 hnm) hY0 hI hY_this rfl rfl (y_crefA hY_n48 rfl) (by decide +kernel) mn_d50 fun H sl hI ho hs hk => ?_
  replace hs10 := hk _ _ (by decide +kernel) (by decide) hs10
  replace hs19 := hk _ _ (by decide +kernel) (by decide) hs19
  replace hs26 := hk _ _ (by decide +kernel) (by decide) hs26
  replace hs35 := hk _ _ (by decide +kernel) (by decide) hs35
  replace hs42 := hk _ _ (by decide +kernel) (by decide) hs42
  replace hs := hs
  have hs50 := hs
  refine lv_aload_n hx hb mn_d53 rfl (lv_at hl 0 rfl) ?_
  refine lv_sipush hx hb mn_d54 (v := 240) (by decide) ?_
  have ec240 : (240 : Int32).toInt = 240 := by decide
  refine y_newa (tag := 52) (k := 240) X hY0 hI rfl rfl (by decide) (hts _ (x_bw5 1 rfl rfl)) (fun Y j => x_dfa (by decide +kernel) Y j) (by decide) (Nat.le_of_ble_eq_true rfl) (Nat.le_of_ble_eq_true rfl) mn_d57 fun Yn H n57 hnw => ?_
  obtain ⟨hIn, hmo, hY_n57, hfr_n57, hke⟩ := hnw
  replace hs10 := y_slk hs10 (hke _ _ hY_this)
  replace hs19 := y_slk hs19 (hke _ _ hY_this)
  replace hs26 := y_slk hs26 (hke _ _ hY_this)
  replace hs35 := y_slk hs35 (hke _ _ hY_this)
  replace hs42 := y_slk hs42 (hke _ _ hY_this)
  replace hs50 := y_slk hs50 (hke _ _ hY_this)
  replace hY_this := hmo _ _ hY_this
  replace hY_n8 := hmo _ _ hY_n8
  replace hY_n17 := hmo _ _ hY_n17
  replace hY_n24 := hmo _ _ hY_n24
  replace hY_n33 := hmo _ _ hY_n33
  replace hY_n40 := hmo _ _ hY_n40
  replace hY_n48 := hmo _ _ hY_n48
  replace hI := hIn
  clear hIn hmo hke
  refine y_putf X (fw_mn_237 X.2.2.2.2.1 hnm) hY0 hI hY_this rfl rfl (y_crefA hY_n57 rfl) (by decide +kernel) mn_d59 fun H sl hI ho hs hk => ?_
  replace hs10 := hk _ _ (by decide +kernel) (by decide) hs10
  replace hs19 := hk _ _ (by decide +kernel) (by decide) hs19
  replace hs26 := hk _ _ (by decide +kernel) (by decide) hs26
  replace hs35 := hk _ _ (by decide +kernel) (by decide) hs35
  replace hs42 := hk _ _ (by decide +kernel) (by decide) hs42
  replace hs50 := hk _ _ (by decide +kernel) (by decide) hs50
  replace hs := hs
  have hs59 := hs
  refine lv_aload_n hx hb mn_d62 rfl (lv_at hl 0 rfl) ?_
  refine lv_sipush hx hb mn_d63 (v := 240) (by decide) ?_
  refine y_newa (tag := 53) (k := 240) X hY0 hI rfl rfl (by decide) (hts _ (x_bw5 1 rfl rfl)) (fun Y j => x_dfa (by decide +kernel) Y j) (by decide) (Nat.le_of_ble_eq_true rfl) (Nat.le_of_ble_eq_true rfl) mn_d66 fun Yn H n66 hnw => ?_
  obtain ⟨hIn, hmo, hY_n66, hfr_n66, hke⟩ := hnw
  replace hs10 := y_slk hs10 (hke _ _ hY_this)
  replace hs19 := y_slk hs19 (hke _ _ hY_this)
  replace hs26 := y_slk hs26 (hke _ _ hY_this)
  replace hs35 := y_slk hs35 (hke _ _ hY_this)
  replace hs42 := y_slk hs42 (hke _ _ hY_this)
  replace hs50 := y_slk hs50 (hke _ _ hY_this)
  replace hs59 := y_slk hs59 (hke _ _ hY_this)
  replace hY_this := hmo _ _ hY_this
  replace hY_n8 := hmo _ _ hY_n8
  replace hY_n17 := hmo _ _ hY_n17
  replace hY_n24 := hmo _ _ hY_n24
  replace hY_n33 := hmo _ _ hY_n33
  replace hY_n40 := hmo _ _ hY_n40
  replace hY_n48 := hmo _ _ hY_n48
  replace hY_n57 := hmo _ _ hY_n57
  replace hI := hIn
  clear hIn hmo hke
  refine y_putf X (fw_mn_238 X.2.2.2.2.1 hnm) hY0 hI hY_this rfl rfl (y_crefA hY_n66 rfl) (by decide +kernel) mn_d68 fun H sl hI ho hs hk => ?_
  replace hs10 := hk _ _ (by decide +kernel) (by decide) hs10
  replace hs19 := hk _ _ (by decide +kernel) (by decide) hs19
  replace hs26 := hk _ _ (by decide +kernel) (by decide) hs26
  replace hs35 := hk _ _ (by decide +kernel) (by decide) hs35
  replace hs42 := hk _ _ (by decide +kernel) (by decide) hs42
  replace hs50 := hk _ _ (by decide +kernel) (by decide) hs50
  replace hs59 := hk _ _ (by decide +kernel) (by decide) hs59
  replace hs := hs
  have hs68 := hs
  refine lv_aload_n hx hb mn_d71 rfl (lv_at hl 0 rfl) ?_
  refine lv_sipush hx hb mn_d72 (v := 960) (by decide) ?_
  have ec960 : (960 : Int32).toInt = 960 := by decide
  refine y_newa (tag := 54) (k := 960) X hY0 hI rfl rfl (by decide) (hts _ (x_bw5 1 rfl rfl)) (fun Y j => x_dfa (by decide +kernel) Y j) (by decide) (Nat.le_of_ble_eq_true rfl) (Nat.le_of_ble_eq_true rfl) mn_d75 fun Yn H n75 hnw => ?_
  obtain ⟨hIn, hmo, hY_n75, hfr_n75, hke⟩ := hnw
  replace hs10 := y_slk hs10 (hke _ _ hY_this)
  replace hs19 := y_slk hs19 (hke _ _ hY_this)
  replace hs26 := y_slk hs26 (hke _ _ hY_this)
  replace hs35 := y_slk hs35 (hke _ _ hY_this)
  replace hs42 := y_slk hs42 (hke _ _ hY_this)
  replace hs50 := y_slk hs50 (hke _ _ hY_this)
  replace hs59 := y_slk hs59 (hke _ _ hY_this)
  replace hs68 := y_slk hs68 (hke _ _ hY_this)
  replace hY_this := hmo _ _ hY_this
  replace hY_n8 := hmo _ _ hY_n8
  replace hY_n17 := hmo _ _ hY_n17
  replace hY_n24 := hmo _ _ hY_n24
  replace hY_n33 := hmo _ _ hY_n33
  replace hY_n40 := hmo _ _ hY_n40
  replace hY_n48 := hmo _ _ hY_n48
  replace hY_n57 := hmo _ _ hY_n57
  replace hY_n66 := hmo _ _ hY_n66
  replace hI := hIn
  clear hIn hmo hke
  refine y_putf X (fw_mn_239 X.2.2.2.2.1 hnm) hY0 hI hY_this rfl rfl (y_crefA hY_n75 rfl) (by decide +kernel) mn_d77 fun H sl hI ho hs hk => ?_
  replace hs10 := hk _ _ (by decide +kernel) (by decide) hs10
  replace hs19 := hk _ _ (by decide +kernel) (by decide) hs19
  replace hs26 := hk _ _ (by decide +kernel) (by decide) hs26
  replace hs35 := hk _ _ (by decide +kernel) (by decide) hs35
  replace hs42 := hk _ _ (by decide +kernel) (by decide) hs42
  replace hs50 := hk _ _ (by decide +kernel) (by decide) hs50
  replace hs59 := hk _ _ (by decide +kernel) (by decide) hs59
  replace hs68 := hk _ _ (by decide +kernel) (by decide) hs68
  replace hs := hs
  have hs77 := hs
  refine lv_aload_n hx hb mn_d80 rfl (lv_at hl 0 rfl) ?_
  refine lv_sipush hx hb mn_d81 (v := 1024) (by decide) ?_
  have ec1024 : (1024 : Int32).toInt = 1024 := by decide
  refine y_newa (tag := 55) (k := 1024) X hY0 hI rfl rfl (by decide) (hts _ (x_bw67 5 rfl rfl)) (fun Y j => x_dfa (by decide +kernel) Y j) (by decide) (Nat.le_of_ble_eq_true rfl) (Nat.le_of_ble_eq_true rfl) mn_d84 fun Yn H n84 hnw => ?_
  obtain ⟨hIn, hmo, hY_n84, hfr_n84, hke⟩ := hnw
  replace hs10 := y_slk hs10 (hke _ _ hY_this)
  replace hs19 := y_slk hs19 (hke _ _ hY_this)
  replace hs26 := y_slk hs26 (hke _ _ hY_this)
  replace hs35 := y_slk hs35 (hke _ _ hY_this)
  replace hs42 := y_slk hs42 (hke _ _ hY_this)
  replace hs50 := y_slk hs50 (hke _ _ hY_this)
  replace hs59 := y_slk hs59 (hke _ _ hY_this)
  replace hs68 := y_slk hs68 (hke _ _ hY_this)
  replace hs77 := y_slk hs77 (hke _ _ hY_this)
  replace hY_this := hmo _ _ hY_this
  replace hY_n8 := hmo _ _ hY_n8
  replace hY_n17 := hmo _ _ hY_n17
  replace hY_n24 := hmo _ _ hY_n24
  replace hY_n33 := hmo _ _ hY_n33
  replace hY_n40 := hmo _ _ hY_n40
  replace hY_n48 := hmo _ _ hY_n48
  replace hY_n57 := hmo _ _ hY_n57
  replace hY_n66 := hmo _ _ hY_n66
  replace hY_n75 := hmo _ _ hY_n75
  replace hI := hIn
  clear hIn hmo hke
  refine y_putf X (fw_mn_240 X.2.2.2.2.1 hnm) hY0 hI hY_this rfl rfl (y_crefA hY_n84 rfl) (by decide +kernel) mn_d86 fun H sl hI ho hs hk => ?_
  replace hs10 := hk _ _ (by decide +kernel) (by decide) hs10
  replace hs19 := hk _ _ (by decide +kernel) (by decide) hs19
  replace hs26 := hk _ _ (by decide +kernel) (by decide) hs26
  replace hs35 := hk _ _ (by decide +kernel) (by decide) hs35
  replace hs42 := hk _ _ (by decide +kernel) (by decide) hs42
  replace hs50 := hk _ _ (by decide +kernel) (by decide) hs50
  replace hs59 := hk _ _ (by decide +kernel) (by decide) hs59
  replace hs68 := hk _ _ (by decide +kernel) (by decide) hs68
  replace hs77 := hk _ _ (by decide +kernel) (by decide) hs77
  replace hs := hs
  have hs86 := hs
  refine lv_aload_n hx hb mn_d89 rfl (lv_at hl 0 rfl) ?_
  refine lv_sipush hx hb mn_d90 (v := 1024) (by decide) ?_
  refine y_newa (tag := 56) (k := 1024) X hY0 hI rfl rfl (by decide) (hts _ (x_bw5 1 rfl rfl)) (fun Y j => x_dfa (by decide +kernel) Y j) (by decide) (Nat.le_of_ble_eq_true rfl) (Nat.le_of_ble_eq_true rfl) mn_d93 fun Yn H n93 hnw => ?_
  obtain ⟨hIn, hmo, hY_n93, hfr_n93, hke⟩ := hnw
  replace hs10 := y_slk hs10 (hke _ _ hY_this)
  replace hs19 := y_slk hs19 (hke _ _ hY_this)
  replace hs26 := y_slk hs26 (hke _ _ hY_this)
  replace hs35 := y_slk hs35 (hke _ _ hY_this)
  replace hs42 := y_slk hs42 (hke _ _ hY_this)
  replace hs50 := y_slk hs50 (hke _ _ hY_this)
  replace hs59 := y_slk hs59 (hke _ _ hY_this)
  replace hs68 := y_slk hs68 (hke _ _ hY_this)
  replace hs77 := y_slk hs77 (hke _ _ hY_this)
  replace hs86 := y_slk hs86 (hke _ _ hY_this)
  replace hY_this := hmo _ _ hY_this
  replace hY_n8 := hmo _ _ hY_n8
  replace hY_n17 := hmo _ _ hY_n17
  replace hY_n24 := hmo _ _ hY_n24
  replace hY_n33 := hmo _ _ hY_n33
  replace hY_n40 := hmo _ _ hY_n40
  replace hY_n48 := hmo _ _ hY_n48
  replace hY_n57 := hmo _ _ hY_n57
  replace hY_n66 := hmo _ _ hY_n66
  replace hY_n75 := hmo _ _ hY_n75
  replace hY_n84 := hmo _ _ hY_n84
  replace hI := hIn
  clear hIn hmo hke
  refine y_putf X (fw_mn_241 X.2.2.2.2.1 hnm) hY0 hI hY_this rfl rfl (y_crefA hY_n93 rfl) (by decide +kernel) mn_d95 fun H sl hI ho hs hk => ?_
  replace hs10 := hk _ _ (by decide +kernel) (by decide) hs10
  replace hs19 := hk _ _ (by decide +kernel) (by decide) hs19
  replace hs26 := hk _ _ (by decide +kernel) (by decide) hs26
  replace hs35 := hk _ _ (by decide +kernel) (by decide) hs35
  replace hs42 := hk _ _ (by decide +kernel) (by decide) hs42
  replace hs50 := hk _ _ (by decide +kernel) (by decide) hs50
  replace hs59 := hk _ _ (by decide +kernel) (by decide) hs59
  replace hs68 := hk _ _ (by decide +kernel) (by decide) hs68
  replace hs77 := hk _ _ (by decide +kernel) (by decide) hs77
  replace hs86 := hk _ _ (by decide +kernel) (by decide) hs86
  replace hs := hs
  have hs95 := hs
  refine lv_aload_n hx hb mn_d98 rfl (lv_at hl 0 rfl) ?_
  refine lv_sipush hx hb mn_d99 (v := 1024) (by decide) ?_
  refine y_newa (tag := 57) (k := 1024) X hY0 hI rfl rfl (by decide) (hts _ (x_bw5 1 rfl rfl)) (fun Y j => x_dfa (by decide +kernel) Y j) (by decide) (Nat.le_of_ble_eq_true rfl) (Nat.le_of_ble_eq_true rfl) mn_d102 fun Yn H n102 hnw => ?_
  obtain ⟨hIn, hmo, hY_n102, hfr_n102, hke⟩ := hnw
  replace hs10 := y_slk hs10 (hke _ _ hY_this)
  replace hs19 := y_slk hs19 (hke _ _ hY_this)
  replace hs26 := y_slk hs26 (hke _ _ hY_this)
  replace hs35 := y_slk hs35 (hke _ _ hY_this)
  replace hs42 := y_slk hs42 (hke _ _ hY_this)
  replace hs50 := y_slk hs50 (hke _ _ hY_this)
  replace hs59 := y_slk hs59 (hke _ _ hY_this)
  replace hs68 := y_slk hs68 (hke _ _ hY_this)
  replace hs77 := y_slk hs77 (hke _ _ hY_this)
  replace hs86 := y_slk hs86 (hke _ _ hY_this)
  replace hs95 := y_slk hs95 (hke _ _ hY_this)
  replace hY_this := hmo _ _ hY_this
  replace hY_n8 := hmo _ _ hY_n8
  replace hY_n17 := hmo _ _ hY_n17
  replace hY_n24 := hmo _ _ hY_n24
  replace hY_n33 := hmo _ _ hY_n33
  replace hY_n40 := hmo _ _ hY_n40
  replace hY_n48 := hmo _ _ hY_n48
  replace hY_n57 := hmo _ _ hY_n57
  replace hY_n66 := hmo _ _ hY_n66
  replace hY_n75 := hmo _ _ hY_n75
  replace hY_n84 := hmo _ _ hY_n84
  replace hY_n93 := hmo _ _ hY_n93
  replace hI := hIn
  clear hIn hmo hke
  refine y_putf X (fw_mn_242 X.2.2.2.2.1 hnm) hY0 hI hY_this rfl rfl (y_crefA hY_n102 rfl) (by decide +kernel) mn_d104 fun H sl hI ho hs hk => ?_
  replace hs10 := hk _ _ (by decide +kernel) (by decide) hs10
  replace hs19 := hk _ _ (by decide +kernel) (by decide) hs19
  replace hs26 := hk _ _ (by decide +kernel) (by decide) hs26
  replace hs35 := hk _ _ (by decide +kernel) (by decide) hs35
  replace hs42 := hk _ _ (by decide +kernel) (by decide) hs42
  replace hs50 := hk _ _ (by decide +kernel) (by decide) hs50
  replace hs59 := hk _ _ (by decide +kernel) (by decide) hs59
  replace hs68 := hk _ _ (by decide +kernel) (by decide) hs68
  replace hs77 := hk _ _ (by decide +kernel) (by decide) hs77
  replace hs86 := hk _ _ (by decide +kernel) (by decide) hs86
  replace hs95 := hk _ _ (by decide +kernel) (by decide) hs95
  replace hs := hs
  have hs104 := hs
  refine lv_aload_n hx hb mn_d107 rfl (lv_at hl 0 rfl) ?_
  refine lv_sipush hx hb mn_d108 (v := 1024) (by decide) ?_
  refine y_newa (tag := 58) (k := 1024) X hY0 hI rfl rfl (by decide) (hts _ (x_bw67 5 rfl rfl)) (fun Y j => x_dfa (by decide +kernel) Y j) (by decide) (Nat.le_of_ble_eq_true rfl) (Nat.le_of_ble_eq_true rfl) mn_d111 fun Yn H n111 hnw => ?_
  obtain ⟨hIn, hmo, hY_n111, hfr_n111, hke⟩ := hnw
  replace hs10 := y_slk hs10 (hke _ _ hY_this)
  replace hs19 := y_slk hs19 (hke _ _ hY_this)
  replace hs26 := y_slk hs26 (hke _ _ hY_this)
  replace hs35 := y_slk hs35 (hke _ _ hY_this)
  replace hs42 := y_slk hs42 (hke _ _ hY_this)
  replace hs50 := y_slk hs50 (hke _ _ hY_this)
  replace hs59 := y_slk hs59 (hke _ _ hY_this)
  replace hs68 := y_slk hs68 (hke _ _ hY_this)
  replace hs77 := y_slk hs77 (hke _ _ hY_this)
  replace hs86 := y_slk hs86 (hke _ _ hY_this)
  replace hs95 := y_slk hs95 (hke _ _ hY_this)
  replace hs104 := y_slk hs104 (hke _ _ hY_this)
  replace hY_this := hmo _ _ hY_this
  replace hY_n8 := hmo _ _ hY_n8
  replace hY_n17 := hmo _ _ hY_n17
  replace hY_n24 := hmo _ _ hY_n24
  replace hY_n33 := hmo _ _ hY_n33
  replace hY_n40 := hmo _ _ hY_n40
  replace hY_n48 := hmo _ _ hY_n48
  replace hY_n57 := hmo _ _ hY_n57
  replace hY_n66 := hmo _ _ hY_n66
  replace hY_n75 := hmo _ _ hY_n75
  replace hY_n84 := hmo _ _ hY_n84
  replace hY_n93 := hmo _ _ hY_n93
  replace hY_n102 := hmo _ _ hY_n102
  replace hI := hIn
  clear hIn hmo hke
  refine y_putf X (fw_mn_243 X.2.2.2.2.1 hnm) hY0 hI hY_this rfl rfl (y_crefA hY_n111 rfl) (by decide +kernel) mn_d113 fun H sl hI ho hs hk => ?_
  replace hs10 := hk _ _ (by decide +kernel) (by decide) hs10
  replace hs19 := hk _ _ (by decide +kernel) (by decide) hs19
  replace hs26 := hk _ _ (by decide +kernel) (by decide) hs26
  replace hs35 := hk _ _ (by decide +kernel) (by decide) hs35
  replace hs42 := hk _ _ (by decide +kernel) (by decide) hs42
  replace hs50 := hk _ _ (by decide +kernel) (by decide) hs50
  replace hs59 := hk _ _ (by decide +kernel) (by decide) hs59
  replace hs68 := hk _ _ (by decide +kernel) (by decide) hs68
  replace hs77 := hk _ _ (by decide +kernel) (by decide) hs77
  replace hs86 := hk _ _ (by decide +kernel) (by decide) hs86
  replace hs95 := hk _ _ (by decide +kernel) (by decide) hs95
  replace hs104 := hk _ _ (by decide +kernel) (by decide) hs104
  replace hs := hs
  have hs113 := hs
  refine lv_aload_n hx hb mn_d116 rfl (lv_at hl 0 rfl) ?_
  refine lv_sipush hx hb mn_d117 (v := 12288) (by decide) ?_
  have ec12288 : (12288 : Int32).toInt = 12288 := by decide
  refine y_newa (tag := 59) (k := 12288) X hY0 hI rfl rfl (by decide) (hts _ (x_bw67 5 rfl rfl)) (fun Y j => x_dfa (by decide +kernel) Y j) (by decide) (Nat.le_of_ble_eq_true rfl) (Nat.le_of_ble_eq_true rfl) mn_d120 fun Yn H n120 hnw => ?_
  obtain ⟨hIn, hmo, hY_n120, hfr_n120, hke⟩ := hnw
  replace hs10 := y_slk hs10 (hke _ _ hY_this)
  replace hs19 := y_slk hs19 (hke _ _ hY_this)
  replace hs26 := y_slk hs26 (hke _ _ hY_this)
  replace hs35 := y_slk hs35 (hke _ _ hY_this)
  replace hs42 := y_slk hs42 (hke _ _ hY_this)
  replace hs50 := y_slk hs50 (hke _ _ hY_this)
  replace hs59 := y_slk hs59 (hke _ _ hY_this)
  replace hs68 := y_slk hs68 (hke _ _ hY_this)
  replace hs77 := y_slk hs77 (hke _ _ hY_this)
  replace hs86 := y_slk hs86 (hke _ _ hY_this)
  replace hs95 := y_slk hs95 (hke _ _ hY_this)
  replace hs104 := y_slk hs104 (hke _ _ hY_this)
  replace hs113 := y_slk hs113 (hke _ _ hY_this)
  replace hY_this := hmo _ _ hY_this
  replace hY_n8 := hmo _ _ hY_n8
  replace hY_n17 := hmo _ _ hY_n17
  replace hY_n24 := hmo _ _ hY_n24
  replace hY_n33 := hmo _ _ hY_n33
  replace hY_n40 := hmo _ _ hY_n40
  replace hY_n48 := hmo _ _ hY_n48
  replace hY_n57 := hmo _ _ hY_n57
  replace hY_n66 := hmo _ _ hY_n66
  replace hY_n75 := hmo _ _ hY_n75
  replace hY_n84 := hmo _ _ hY_n84
  replace hY_n93 := hmo _ _ hY_n93
  replace hY_n102 := hmo _ _ hY_n102
  replace hY_n111 := hmo _ _ hY_n111
  replace hI := hIn
  clear hIn hmo hke
  refine y_putf X (fw_mn_244 X.2.2.2.2.1 hnm) hY0 hI hY_this rfl rfl (y_crefA hY_n120 rfl) (by decide +kernel) mn_d122 fun H sl hI ho hs hk => ?_
  replace hs10 := hk _ _ (by decide +kernel) (by decide) hs10
  replace hs19 := hk _ _ (by decide +kernel) (by decide) hs19
  replace hs26 := hk _ _ (by decide +kernel) (by decide) hs26
  replace hs35 := hk _ _ (by decide +kernel) (by decide) hs35
  replace hs42 := hk _ _ (by decide +kernel) (by decide) hs42
  replace hs50 := hk _ _ (by decide +kernel) (by decide) hs50
  replace hs59 := hk _ _ (by decide +kernel) (by decide) hs59
  replace hs68 := hk _ _ (by decide +kernel) (by decide) hs68
  replace hs77 := hk _ _ (by decide +kernel) (by decide) hs77
  replace hs86 := hk _ _ (by decide +kernel) (by decide) hs86
  replace hs95 := hk _ _ (by decide +kernel) (by decide) hs95
  replace hs104 := hk _ _ (by decide +kernel) (by decide) hs104
  replace hs113 := hk _ _ (by decide +kernel) (by decide) hs113
  replace hs := hs
  have hs122 := hs
  refine lv_aload_n hx hb mn_d125 rfl (lv_at hl 0 rfl) ?_
  refine lv_sipush hx hb mn_d126 (v := 12288) (by decide) ?_
  refine y_newa (tag := 60) (k := 12288) X hY0 hI rfl rfl (by decide) (hts _ (x_bw67 5 rfl rfl)) (fun Y j => x_dfa (by decide +kernel) Y j) (by decide) (Nat.le_of_ble_eq_true rfl) (Nat.le_of_ble_eq_true rfl) mn_d129 fun Yn H n129 hnw => ?_
  obtain ⟨hIn, hmo, hY_n129, hfr_n129, hke⟩ := hnw
  replace hs10 := y_slk hs10 (hke _ _ hY_this)
  replace hs19 := y_slk hs19 (hke _ _ hY_this)
  replace hs26 := y_slk hs26 (hke _ _ hY_this)
  replace hs35 := y_slk hs35 (hke _ _ hY_this)
  replace hs42 := y_slk hs42 (hke _ _ hY_this)
  replace hs50 := y_slk hs50 (hke _ _ hY_this)
  replace hs59 := y_slk hs59 (hke _ _ hY_this)
  replace hs68 := y_slk hs68 (hke _ _ hY_this)
  replace hs77 := y_slk hs77 (hke _ _ hY_this)
  replace hs86 := y_slk hs86 (hke _ _ hY_this)
  replace hs95 := y_slk hs95 (hke _ _ hY_this)
  replace hs104 := y_slk hs104 (hke _ _ hY_this)
  replace hs113 := y_slk hs113 (hke _ _ hY_this)
  replace hs122 := y_slk hs122 (hke _ _ hY_this)
  replace hY_this := hmo _ _ hY_this
  replace hY_n8 := hmo _ _ hY_n8
  replace hY_n17 := hmo _ _ hY_n17
  replace hY_n24 := hmo _ _ hY_n24
  replace hY_n33 := hmo _ _ hY_n33
  replace hY_n40 := hmo _ _ hY_n40
  replace hY_n48 := hmo _ _ hY_n48
  replace hY_n57 := hmo _ _ hY_n57
  replace hY_n66 := hmo _ _ hY_n66
  replace hY_n75 := hmo _ _ hY_n75
  replace hY_n84 := hmo _ _ hY_n84
  replace hY_n93 := hmo _ _ hY_n93
  replace hY_n102 := hmo _ _ hY_n102
  replace hY_n111 := hmo _ _ hY_n111
  replace hY_n120 := hmo _ _ hY_n120
  replace hI := hIn
  clear hIn hmo hke
  refine y_putf X (fw_mn_245 X.2.2.2.2.1 hnm) hY0 hI hY_this rfl rfl (y_crefA hY_n129 rfl) (by decide +kernel) mn_d131 fun H sl hI ho hs hk => ?_
  replace hs10 := hk _ _ (by decide +kernel) (by decide) hs10
  replace hs19 := hk _ _ (by decide +kernel) (by decide) hs19
  replace hs26 := hk _ _ (by decide +kernel) (by decide) hs26
  replace hs35 := hk _ _ (by decide +kernel) (by decide) hs35
  replace hs42 := hk _ _ (by decide +kernel) (by decide) hs42
  replace hs50 := hk _ _ (by decide +kernel) (by decide) hs50
  replace hs59 := hk _ _ (by decide +kernel) (by decide) hs59
  replace hs68 := hk _ _ (by decide +kernel) (by decide) hs68
  replace hs77 := hk _ _ (by decide +kernel) (by decide) hs77
  replace hs86 := hk _ _ (by decide +kernel) (by decide) hs86
  replace hs95 := hk _ _ (by decide +kernel) (by decide) hs95
  replace hs104 := hk _ _ (by decide +kernel) (by decide) hs104
  replace hs113 := hk _ _ (by decide +kernel) (by decide) hs113
  replace hs122 := hk _ _ (by decide +kernel) (by decide) hs122
  replace hs := hs
  have hs131 := hs
  refine lv_aload_n hx hb mn_d134 rfl (lv_at hl 0 rfl) ?_
  refine lv_sipush hx hb mn_d135 (v := 12288) (by decide) ?_
  refine y_newa (tag := 61) (k := 12288) X hY0 hI rfl rfl (by decide) (hts _ (x_bw67 5 rfl rfl)) (fun Y j => x_dfa (by decide +kernel) Y j) (by decide) (Nat.le_of_ble_eq_true rfl) (Nat.le_of_ble_eq_true rfl) mn_d138 fun Yn H n138 hnw => ?_
  obtain ⟨hIn, hmo, hY_n138, hfr_n138, hke⟩ := hnw
  replace hs10 := y_slk hs10 (hke _ _ hY_this)
  replace hs19 := y_slk hs19 (hke _ _ hY_this)
  replace hs26 := y_slk hs26 (hke _ _ hY_this)
  replace hs35 := y_slk hs35 (hke _ _ hY_this)
  replace hs42 := y_slk hs42 (hke _ _ hY_this)
  replace hs50 := y_slk hs50 (hke _ _ hY_this)
  replace hs59 := y_slk hs59 (hke _ _ hY_this)
  replace hs68 := y_slk hs68 (hke _ _ hY_this)
  replace hs77 := y_slk hs77 (hke _ _ hY_this)
  replace hs86 := y_slk hs86 (hke _ _ hY_this)
  replace hs95 := y_slk hs95 (hke _ _ hY_this)
  replace hs104 := y_slk hs104 (hke _ _ hY_this)
  replace hs113 := y_slk hs113 (hke _ _ hY_this)
  replace hs122 := y_slk hs122 (hke _ _ hY_this)
  replace hs131 := y_slk hs131 (hke _ _ hY_this)
  replace hY_this := hmo _ _ hY_this
  replace hY_n8 := hmo _ _ hY_n8
  replace hY_n17 := hmo _ _ hY_n17
  replace hY_n24 := hmo _ _ hY_n24
  replace hY_n33 := hmo _ _ hY_n33
  replace hY_n40 := hmo _ _ hY_n40
  replace hY_n48 := hmo _ _ hY_n48
  replace hY_n57 := hmo _ _ hY_n57
  replace hY_n66 := hmo _ _ hY_n66
  replace hY_n75 := hmo _ _ hY_n75
  replace hY_n84 := hmo _ _ hY_n84
  replace hY_n93 := hmo _ _ hY_n93
  replace hY_n102 := hmo _ _ hY_n102
  replace hY_n111 := hmo _ _ hY_n111
  replace hY_n120 := hmo _ _ hY_n120
  replace hY_n129 := hmo _ _ hY_n129
  replace hI := hIn
  clear hIn hmo hke
  refine y_putf X (fw_mn_246 X.2.2.2.2.1 hnm) hY0 hI hY_this rfl rfl (y_crefA hY_n138 rfl) (by decide +kernel) mn_d140 fun H sl hI ho hs hk => ?_
  replace hs10 := hk _ _ (by decide +kernel) (by decide) hs10
  replace hs19 := hk _ _ (by decide +kernel) (by decide) hs19
  replace hs26 := hk _ _ (by decide +kernel) (by decide) hs26
  replace hs35 := hk _ _ (by decide +kernel) (by decide) hs35
  replace hs42 := hk _ _ (by decide +kernel) (by decide) hs42
  replace hs50 := hk _ _ (by decide +kernel) (by decide) hs50
  replace hs59 := hk _ _ (by decide +kernel) (by decide) hs59
  replace hs68 := hk _ _ (by decide +kernel) (by decide) hs68
  replace hs77 := hk _ _ (by decide +kernel) (by decide) hs77
  replace hs86 := hk _ _ (by decide +kernel) (by decide) hs86
  replace hs95 := hk _ _ (by decide +kernel) (by decide) hs95
  replace hs104 := hk _ _ (by decide +kernel) (by decide) hs104
  replace hs113 := hk _ _ (by decide +kernel) (by decide) hs113
  replace hs122 := hk _ _ (by decide +kernel) (by decide) hs122
  replace hs131 := hk _ _ (by decide +kernel) (by decide) hs131
  replace hs := hs
  have hs140 := hs
  refine lv_aload_n hx hb mn_d143 rfl (lv_at hl 0 rfl) ?_
  refine lv_sipush hx hb mn_d144 (v := 9216) (by decide) ?_
  have ec9216 : (9216 : Int32).toInt = 9216 := by decide
  refine y_newa (tag := 62) (k := 9216) X hY0 hI rfl rfl (by decide) (hts _ (x_bw5 1 rfl rfl)) (fun Y j => x_dfa (by decide +kernel) Y j) (by decide) (Nat.le_of_ble_eq_true rfl) (Nat.le_of_ble_eq_true rfl) mn_d147 fun Yn H n147 hnw => ?_
  obtain ⟨hIn, hmo, hY_n147, hfr_n147, hke⟩ := hnw
  replace hs10 := y_slk hs10 (hke _ _ hY_this)
  replace hs19 := y_slk hs19 (hke _ _ hY_this)
  replace hs26 := y_slk hs26 (hke _ _ hY_this)
  replace hs35 := y_slk hs35 (hke _ _ hY_this)
  replace hs42 := y_slk hs42 (hke _ _ hY_this)
  replace hs50 := y_slk hs50 (hke _ _ hY_this)
  replace hs59 := y_slk hs59 (hke _ _ hY_this)
  replace hs68 := y_slk hs68 (hke _ _ hY_this)
  replace hs77 := y_slk hs77 (hke _ _ hY_this)
  replace hs86 := y_slk hs86 (hke _ _ hY_this)
  replace hs95 := y_slk hs95 (hke _ _ hY_this)
  replace hs104 := y_slk hs104 (hke _ _ hY_this)
  replace hs113 := y_slk hs113 (hke _ _ hY_this)
  replace hs122 := y_slk hs122 (hke _ _ hY_this)
  replace hs131 := y_slk hs131 (hke _ _ hY_this)
  replace hs140 := y_slk hs140 (hke _ _ hY_this)
  replace hY_this := hmo _ _ hY_this
  replace hY_n8 := hmo _ _ hY_n8
  replace hY_n17 := hmo _ _ hY_n17
  replace hY_n24 := hmo _ _ hY_n24
  replace hY_n33 := hmo _ _ hY_n33
  replace hY_n40 := hmo _ _ hY_n40
  replace hY_n48 := hmo _ _ hY_n48
  replace hY_n57 := hmo _ _ hY_n57
  replace hY_n66 := hmo _ _ hY_n66
  replace hY_n75 := hmo _ _ hY_n75
  replace hY_n84 := hmo _ _ hY_n84
  replace hY_n93 := hmo _ _ hY_n93
  replace hY_n102 := hmo _ _ hY_n102
  replace hY_n111 := hmo _ _ hY_n111
  replace hY_n120 := hmo _ _ hY_n120
  replace hY_n129 := hmo _ _ hY_n129
  replace hY_n138 := hmo _ _ hY_n138
  replace hI := hIn
  clear hIn hmo hke
  refine y_putf X (fw_mn_247 X.2.2.2.2.1 hnm) hY0 hI hY_this rfl rfl (y_crefA hY_n147 rfl) (by decide +kernel) mn_d149 fun H sl hI ho hs hk => ?_
  replace hs10 := hk _ _ (by decide +kernel) (by decide) hs10
  replace hs19 := hk _ _ (by decide +kernel) (by decide) hs19
  replace hs26 := hk _ _ (by decide +kernel) (by decide) hs26
  replace hs35 := hk _ _ (by decide +kernel) (by decide) hs35
  replace hs42 := hk _ _ (by decide +kernel) (by decide) hs42
  replace hs50 := hk _ _ (by decide +kernel) (by decide) hs50
  replace hs59 := hk _ _ (by decide +kernel) (by decide) hs59
  replace hs68 := hk _ _ (by decide +kernel) (by decide) hs68
  replace hs77 := hk _ _ (by decide +kernel) (by decide) hs77
  replace hs86 := hk _ _ (by decide +kernel) (by decide) hs86
  replace hs95 := hk _ _ (by decide +kernel) (by decide) hs95
  replace hs104 := hk _ _ (by decide +kernel) (by decide) hs104
  replace hs113 := hk _ _ (by decide +kernel) (by decide) hs113
  replace hs122 := hk _ _ (by decide +kernel) (by decide) hs122
  replace hs131 := hk _ _ (by decide +kernel) (by decide) hs131
  replace hs140 := hk _ _ (by decide +kernel) (by decide) hs140
  replace hs := hs
  have hs149 := hs
  refine lv_aload_n hx hb mn_d152 rfl (lv_at hl 0 rfl) ?_
  refine lv_sipush hx hb mn_d153 (v := 9216) (by decide) ?_
  refine y_newa (tag := 63) (k := 9216) X hY0 hI rfl rfl (by decide) (hts _ (x_bw5 1 rfl rfl)) (fun Y j => x_dfa (by decide +kernel) Y j) (by decide) (Nat.le_of_ble_eq_true rfl) (Nat.le_of_ble_eq_true rfl) mn_d156 fun Yn H n156 hnw => ?_
  obtain ⟨hIn, hmo, hY_n156, hfr_n156, hke⟩ := hnw
  replace hs10 := y_slk hs10 (hke _ _ hY_this)
  replace hs19 := y_slk hs19 (hke _ _ hY_this)
  replace hs26 := y_slk hs26 (hke _ _ hY_this)
  replace hs35 := y_slk hs35 (hke _ _ hY_this)
  replace hs42 := y_slk hs42 (hke _ _ hY_this)
  replace hs50 := y_slk hs50 (hke _ _ hY_this)
  replace hs59 := y_slk hs59 (hke _ _ hY_this)
  replace hs68 := y_slk hs68 (hke _ _ hY_this)
  replace hs77 := y_slk hs77 (hke _ _ hY_this)
  replace hs86 := y_slk hs86 (hke _ _ hY_this)
  replace hs95 := y_slk hs95 (hke _ _ hY_this)
  replace hs104 := y_slk hs104 (hke _ _ hY_this)
  replace hs113 := y_slk hs113 (hke _ _ hY_this)
  replace hs122 := y_slk hs122 (hke _ _ hY_this)
  replace hs131 := y_slk hs131 (hke _ _ hY_this)
  replace hs140 := y_slk hs140 (hke _ _ hY_this)
  replace hs149 := y_slk hs149 (hke _ _ hY_this)
  replace hY_this := hmo _ _ hY_this
  replace hY_n8 := hmo _ _ hY_n8
  replace hY_n17 := hmo _ _ hY_n17
  replace hY_n24 := hmo _ _ hY_n24
  replace hY_n33 := hmo _ _ hY_n33
  replace hY_n40 := hmo _ _ hY_n40
  replace hY_n48 := hmo _ _ hY_n48
  replace hY_n57 := hmo _ _ hY_n57
  replace hY_n66 := hmo _ _ hY_n66
  replace hY_n75 := hmo _ _ hY_n75
  replace hY_n84 := hmo _ _ hY_n84
  replace hY_n93 := hmo _ _ hY_n93
  replace hY_n102 := hmo _ _ hY_n102
  replace hY_n111 := hmo _ _ hY_n111
  replace hY_n120 := hmo _ _ hY_n120
  replace hY_n129 := hmo _ _ hY_n129
  replace hY_n138 := hmo _ _ hY_n138
  replace hY_n147 := hmo _ _ hY_n147
  replace hI := hIn
  clear hIn hmo hke
  refine y_putf X (fw_mn_248 X.2.2.2.2.1 hnm) hY0 hI hY_this rfl rfl (y_crefA hY_n156 rfl) (by decide +kernel) mn_d158 fun H sl hI ho hs hk => ?_
  replace hs10 := hk _ _ (by decide +kernel) (by decide) hs10
  replace hs19 := hk _ _ (by decide +kernel) (by decide) hs19
  replace hs26 := hk _ _ (by decide +kernel) (by decide) hs26
  replace hs35 := hk _ _ (by decide +kernel) (by decide) hs35
  replace hs42 := hk _ _ (by decide +kernel) (by decide) hs42
  replace hs50 := hk _ _ (by decide +kernel) (by decide) hs50
  replace hs59 := hk _ _ (by decide +kernel) (by decide) hs59
  replace hs68 := hk _ _ (by decide +kernel) (by decide) hs68
  replace hs77 := hk _ _ (by decide +kernel) (by decide) hs77
  replace hs86 := hk _ _ (by decide +kernel) (by decide) hs86
  replace hs95 := hk _ _ (by decide +kernel) (by decide) hs95
  replace hs104 := hk _ _ (by decide +kernel) (by decide) hs104
  replace hs113 := hk _ _ (by decide +kernel) (by decide) hs113
  replace hs122 := hk _ _ (by decide +kernel) (by decide) hs122
  replace hs131 := hk _ _ (by decide +kernel) (by decide) hs131
  replace hs140 := hk _ _ (by decide +kernel) (by decide) hs140
  replace hs149 := hk _ _ (by decide +kernel) (by decide) hs149
  replace hs := hs
  have hs158 := hs
  refine lv_aload_n hx hb mn_d161 rfl (lv_at hl 0 rfl) ?_
  refine y_call (z := (0, 65, 1, some 18, xMbr)) (av := [.ref this]) (rest := []) (y_cokV (n := 0) (ci := 12) X ym_beginsRaw rfl rfl rfl (x_cons (x_bw61 15 rfl rfl) (x_cons (x_bw62 1 rfl rfl) (x_cons (x_at 30 (by decide +kernel) rfl) (x_cons (x_bw0 9 rfl rfl) x_nilm)))) (x_bw62 2 rfl rfl) (by decide +kernel) ⟨Nat.le_of_ble_eq_true rfl, Nat.le_of_ble_eq_true rfl⟩) hY0 hI rfl mn_d162 hl.1 (Nat.le_of_ble_eq_true rfl) (Nat.le_of_ble_eq_true rfl) (Nat.le_of_ble_eq_true rfl) (y_cons (y_cref hY_this rfl) y_nil) rfl (y_recv rfl hY_this) (fun this' h1 => by cases h1; exact ⟨n8, hs10, hY_n8⟩) (y_sub_ef rfl) fun v Yn o Hn L ho hr ha hIn hx_ hE hP => ?_
  replace hs10 := y_Efld hE hY_this rfl (by decide) (by decide) hs10
  replace hs19 := y_Efld hE hY_this rfl (by decide) (by decide) hs19
  replace hs26 := y_Efld hE hY_this rfl (by decide) (by decide) hs26
  replace hs35 := y_Efld hE hY_this rfl (by decide) (by decide) hs35
  replace hs42 := y_Efld hE hY_this rfl (by decide) (by decide) hs42
  replace hs50 := y_Efld hE hY_this rfl (by decide) (by decide) hs50
  replace hs59 := y_Efld hE hY_this rfl (by decide) (by decide) hs59
  replace hs68 := y_Efld hE hY_this rfl (by decide) (by decide) hs68
  replace hs77 := y_Efld hE hY_this rfl (by decide) (by decide) hs77
  replace hs86 := y_Efld hE hY_this rfl (by decide) (by decide) hs86
  replace hs95 := y_Efld hE hY_this rfl (by decide) (by decide) hs95
  replace hs104 := y_Efld hE hY_this rfl (by decide) (by decide) hs104
  replace hs113 := y_Efld hE hY_this rfl (by decide) (by decide) hs113
  replace hs122 := y_Efld hE hY_this rfl (by decide) (by decide) hs122
  replace hs131 := y_Efld hE hY_this rfl (by decide) (by decide) hs131
  replace hs140 := y_Efld hE hY_this rfl (by decide) (by decide) hs140
  replace hs149 := y_Efld hE hY_this rfl (by decide) (by decide) hs149
  replace hs158 := y_Efld hE hY_this rfl (by decide) (by decide) hs158
  replace hY_this := y_ext hx_ hI.1 hY_this
  replace hY_n8 := y_ext hx_ hI.1 hY_n8
  replace hY_n17 := y_ext hx_ hI.1 hY_n17
  replace hY_n24 := y_ext hx_ hI.1 hY_n24
  replace hY_n33 := y_ext hx_ hI.1 hY_n33
  replace hY_n40 := y_ext hx_ hI.1 hY_n40
  replace hY_n48 := y_ext hx_ hI.1 hY_n48
  replace hY_n57 := y_ext hx_ hI.1 hY_n57
  replace hY_n66 := y_ext hx_ hI.1 hY_n66
  replace hY_n75 := y_ext hx_ hI.1 hY_n75
  replace hY_n84 := y_ext hx_ hI.1 hY_n84
  replace hY_n93 := y_ext hx_ hI.1 hY_n93
  replace hY_n102 := y_ext hx_ hI.1 hY_n102
  replace hY_n111 := y_ext hx_ hI.1 hY_n111
  replace hY_n120 := y_ext hx_ hI.1 hY_n120
  replace hY_n129 := y_ext hx_ hI.1 hY_n129
  replace hY_n138 := y_ext hx_ hI.1 hY_n138
  replace hY_n147 := y_ext hx_ hI.1 hY_n147
  replace hY_n156 := y_ext hx_ hI.1 hY_n156
  obtain rfl := y_ansV rfl ho hr
  clear ho hr ha hE hP hI hx_
  rename x_I _ _ _ _ _ _ _ _ _ _ => hI
  refine lv_aload_n hx hb mn_d165 rfl (lv_at hl 0 rfl) ?_
  refine y_getf X (fl_br_229 X.2.2.2.2.1) hI.1 hY_this rfl hs10 mn_d166 ?_
  refine lv_bipush hx hb mn_d169 (v := 7) (by decide) ?_
  have ec7 : (7 : Int32).toInt = 7 := by decide
  refine lv_bipush hx hb mn_d171 (v := 9) (by decide) ?_
  have ec9 : (9 : Int32).toInt = 9 := by decide
  obtain ⟨f_n8, hA_n8, hB_n8⟩ := y_arr hI.1 hY_n8 rfl rfl
  refine y_iast X hY0 hI hY_n8 rfl hA_n8 (by omega) (by show _ < (160 : Int); omega) (by show x_c _ (xF) _; exact ⟨_, rfl, by decide, by decide⟩) (by decide +kernel) mn_d173 fun H locs hI h_new ho => ?_
  replace hA_n8 := h_new
  generalize hf_f173 : y_up f_n8 (7 : Int32).toInt.toNat (9 : Int32) = f173 at hA_n8
  replace hs10 := y_slk hs10 (ho _ (y_ne hY_this hY_n8 rfl))
  replace hs19 := y_slk hs19 (ho _ (y_ne hY_this hY_n8 rfl))
  replace hs26 := y_slk hs26 (ho _ (y_ne hY_this hY_n8 rfl))
  replace hs35 := y_slk hs35 (ho _ (y_ne hY_this hY_n8 rfl))
  replace hs42 := y_slk hs42 (ho _ (y_ne hY_this hY_n8 rfl))
  replace hs50 := y_slk hs50 (ho _ (y_ne hY_this hY_n8 rfl))
  replace hs59 := y_slk hs59 (ho _ (y_ne hY_this hY_n8 rfl))
  replace hs68 := y_slk hs68 (ho _ (y_ne hY_this hY_n8 rfl))
  replace hs77 := y_slk hs77 (ho _ (y_ne hY_this hY_n8 rfl))
  replace hs86 := y_slk hs86 (ho _ (y_ne hY_this hY_n8 rfl))
  replace hs95 := y_slk hs95 (ho _ (y_ne hY_this hY_n8 rfl))
  replace hs104 := y_slk hs104 (ho _ (y_ne hY_this hY_n8 rfl))
  replace hs113 := y_slk hs113 (ho _ (y_ne hY_this hY_n8 rfl))
  replace hs122 := y_slk hs122 (ho _ (y_ne hY_this hY_n8 rfl))
  replace hs131 := y_slk hs131 (ho _ (y_ne hY_this hY_n8 rfl))
  replace hs140 := y_slk hs140 (ho _ (y_ne hY_this hY_n8 rfl))
  replace hs149 := y_slk hs149 (ho _ (y_ne hY_this hY_n8 rfl))
  replace hs158 := y_slk hs158 (ho _ (y_ne hY_this hY_n8 rfl))
  refine lv_iconst hx hb mn_d174 (v := 0) (by decide) ?_
  have ec0 : (0 : Int32).toInt = 0 := by decide
  refine lv_istore_n hx hb mn_d175 rfl hl (by decide) (lv' := [(1, .int (0 : Int32)), (0, .ref this)]) rfl fun ls hl => ?_
  have hs_n8 := hs10
  have hs_n17 := hs19
  have hs_n24 := hs26
  have hs_n33 := hs35
  have hs_n40 := hs42
  have hs_n48 := hs50
  have hs_n57 := hs59
  have hs_n66 := hs68
  have hs_n75 := hs77
  have hs_n84 := hs86
  have hs_n93 := hs95
  have hs_n102 := hs104
  have hs_n111 := hs113
  have hs_n120 := hs122
  have hs_n129 := hs131
  have hs_n138 := hs140
  have hs_n147 := hs149
  have hs_n156 := hs158
  have hA_n8 := hA_n8
  exact mn_L176 B rfl 13 _ _ _ _ _ _ hI hY_this hY_n8 hY_n17 hY_n24 hY_n33 hY_n40 hY_n48 hY_n57 hY_n66 hY_n75 hY_n84 hY_n93 hY_n102 hY_n111 hY_n120 hY_n129 hY_n138 hY_n147 hY_n156 hs_n8 hs_n17 hs_n24 hs_n33 hs_n40 hs_n48 hs_n57 hs_n66 hs_n75 hs_n84 hs_n93 hs_n102 hs_n111 hs_n120 hs_n129 hs_n138 hs_n147 hs_n156 hA_n8 (lv_sub hl [0, 1] rfl) (by first | assumption | omega) (by omega)
