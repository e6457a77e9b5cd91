theorem fw_mF9_240 {s : State} {args : Array Value} {mn : String} (hts : ∀ w ∈ x_Tb, w.before args s = true) : x_pok vwCl x_G x_Tb s args "TwinFiresModel" mn (68, 18, 7) := ⟨12, _, RX12, TX12, "TwinFiresModel", tyX12, _, rfl, rfl, Nat.le_of_ble_eq_true rfl, iX12, (hts _ (x_bw62 10 rfl rfl)), fun x h => h, tyX12_ok, nmX12, rfl, x_fitL _ _, Or.inl rfl⟩
theorem fl_mF9_241 {s : State} {args : Array Value} (hts : ∀ w ∈ x_Tb, w.before args s = true) : x_fok vwCl x_G x_Tb s args "TwinFiresModel" (7, 18, 0) := ⟨12, _, RX12, TX12, "TwinFiresModel", rfl, rfl, Nat.le_of_ble_eq_true rfl, iX12, (hts _ (x_bw62 3 rfl rfl)), fun x h => h⟩
theorem fw_mF9_242 {s : State} {args : Array Value} {mn : String} (hts : ∀ w ∈ x_Tb, w.before args s = true) (hn : mn = "<init>") : x_pok vwCl x_G x_Tb s args "TwinFiresModel" mn (7, 18, 0) := ⟨12, _, RX12, TX12, "TwinFiresModel", tyX12, _, rfl, rfl, Nat.le_of_ble_eq_true rfl, iX12, (hts _ (x_bw62 3 rfl rfl)), fun x h => h, tyX12_ok, nmX12, rfl, x_fitA1 _ _, Or.inr ⟨rfl, hn, rfl⟩⟩
theorem fw_mF9_243 {s : State} {args : Array Value} {mn : String} (hts : ∀ w ∈ x_Tb, w.before args s = true) (hn : mn = "<init>") : x_pok vwCl x_G x_Tb s args "TwinFiresModel" mn (13, 18, 1) := ⟨12, _, RX12, TX12, "TwinFiresModel", tyX12, _, rfl, rfl, Nat.le_of_ble_eq_true rfl, iX12, (hts _ (x_bw62 4 rfl rfl)), fun x h => h, tyX12_ok, nmX12, rfl, x_fitA1 _ _, Or.inr ⟨rfl, hn, rfl⟩⟩
theorem fw_mF9_244 {s : State} {args : Array Value} {mn : String} (hts : ∀ w ∈ x_Tb, w.before args s = true) (hn : mn = "<init>") : x_pok vwCl x_G x_Tb s args "TwinFiresModel" mn (16, 18, 2) := ⟨12, _, RX12, TX12, "TwinFiresModel", tyX12, _, rfl, rfl, Nat.le_of_ble_eq_true rfl, iX12, (hts _ (x_bw62 5 rfl rfl)), fun x h => h, tyX12_ok, nmX12, rfl, x_fitA1 _ _, Or.inr ⟨rfl, hn, rfl⟩⟩
theorem fw_mF9_245 {s : State} {args : Array Value} {mn : String} (hts : ∀ w ∈ x_Tb, w.before args s = true) (hn : mn = "<init>") : x_pok vwCl x_G x_Tb s args "TwinFiresModel" mn (20, 18, 3) := ⟨12, _, RX12, TX12, "TwinFiresModel", tyX12, _, rfl, rfl, Nat.le_of_ble_eq_true rfl, iX12, (hts _ (x_bw62 6 rfl rfl)), fun x h => h, tyX12_ok, nmX12, rfl, x_fitA1 _ _, Or.inr ⟨rfl, hn, rfl⟩⟩
theorem fw_mF9_246 {s : State} {args : Array Value} {mn : String} (hts : ∀ w ∈ x_Tb, w.before args s = true) (hn : mn = "<init>") : x_pok vwCl x_G x_Tb s args "TwinFiresModel" mn (23, 18, 4) := ⟨12, _, RX12, TX12, "TwinFiresModel", tyX12, _, rfl, rfl, Nat.le_of_ble_eq_true rfl, iX12, (hts _ (x_bw62 7 rfl rfl)), fun x h => h, tyX12_ok, nmX12, rfl, x_fitA1 _ _, Or.inr ⟨rfl, hn, rfl⟩⟩
theorem fw_mF9_247 {s : State} {args : Array Value} {mn : String} (hts : ∀ w ∈ x_Tb, w.before args s = true) (hn : mn = "<init>") : x_pok vwCl x_G x_Tb s args "TwinFiresModel" mn (26, 18, 8) := ⟨12, _, RX12, TX12, "TwinFiresModel", tyX12, _, rfl, rfl, Nat.le_of_ble_eq_true rfl, iX12, (hts _ (x_bw62 11 rfl rfl)), fun x h => h, tyX12_ok, nmX12, rfl, x_fitA1 _ _, Or.inr ⟨rfl, hn, rfl⟩⟩
theorem fw_mF9_248 {s : State} {args : Array Value} {mn : String} (hts : ∀ w ∈ x_Tb, w.before args s = true) (hn : mn = "<init>") : x_pok vwCl x_G x_Tb s args "TwinFiresModel" mn (29, 18, 9) := ⟨12, _, RX12, TX12, "TwinFiresModel", tyX12, _, rfl, rfl, Nat.le_of_ble_eq_true rfl, iX12, (hts _ (x_bw62 12 rfl rfl)), fun x h => h, tyX12_ok, nmX12, rfl, x_fitA1 _ _, Or.inr ⟨rfl, hn, rfl⟩⟩
theorem fw_mF9_249 {s : State} {args : Array Value} {mn : String} (hts : ∀ w ∈ x_Tb, w.before args s = true) (hn : mn = "<init>") : x_pok vwCl x_G x_Tb s args "TwinFiresModel" mn (32, 18, 15) := ⟨12, _, RX12, TX12, "TwinFiresModel", tyX12, _, rfl, rfl, Nat.le_of_ble_eq_true rfl, iX12, (hts _ (x_bw63 2 rfl rfl)), fun x h => h, tyX12_ok, nmX12, rfl, x_fitA1 _ _, Or.inr ⟨rfl, hn, rfl⟩⟩
theorem fw_mF9_250 {s : State} {args : Array Value} {mn : String} (hts : ∀ w ∈ x_Tb, w.before args s = true) (hn : mn = "<init>") : x_pok vwCl x_G x_Tb s args "TwinFiresModel" mn (35, 18, 16) := ⟨12, _, RX12, TX12, "TwinFiresModel", tyX12, _, rfl, rfl, Nat.le_of_ble_eq_true rfl, iX12, (hts _ (x_bw63 3 rfl rfl)), fun x h => h, tyX12_ok, nmX12, rfl, x_fitA1 _ _, Or.inr ⟨rfl, hn, rfl⟩⟩
theorem fw_mF9_251 {s : State} {args : Array Value} {mn : String} (hts : ∀ w ∈ x_Tb, w.before args s = true) (hn : mn = "<init>") : x_pok vwCl x_G x_Tb s args "TwinFiresModel" mn (38, 18, 18) := ⟨12, _, RX12, TX12, "TwinFiresModel", tyX12, _, rfl, rfl, Nat.le_of_ble_eq_true rfl, iX12, (hts _ (x_bw63 5 rfl rfl)), fun x h => h, tyX12_ok, nmX12, rfl, x_fitA1 _ _, Or.inr ⟨rfl, hn, rfl⟩⟩
theorem fw_mF9_252 {s : State} {args : Array Value} {mn : String} (hts : ∀ w ∈ x_Tb, w.before args s = true) (hn : mn = "<init>") : x_pok vwCl x_G x_Tb s args "TwinFiresModel" mn (41, 18, 19) := ⟨12, _, RX12, TX12, "TwinFiresModel", tyX12, _, rfl, rfl, Nat.le_of_ble_eq_true rfl, iX12, (hts _ (x_bw63 6 rfl rfl)), fun x h => h, tyX12_ok, nmX12, rfl, x_fitA1 _ _, Or.inr ⟨rfl, hn, rfl⟩⟩
theorem fw_mF9_253 {s : State} {args : Array Value} {mn : String} (hts : ∀ w ∈ x_Tb, w.before args s = true) (hn : mn = "<init>") : x_pok vwCl x_G x_Tb s args "TwinFiresModel" mn (44, 18, 20) := ⟨12, _, RX12, TX12, "TwinFiresModel", tyX12, _, rfl, rfl, Nat.le_of_ble_eq_true rfl, iX12, (hts _ (x_bw63 7 rfl rfl)), fun x h => h, tyX12_ok, nmX12, rfl, x_fitA1 _ _, Or.inr ⟨rfl, hn, rfl⟩⟩
theorem fw_mF9_254 {s : State} {args : Array Value} {mn : String} (hts : ∀ w ∈ x_Tb, w.before args s = true) (hn : mn = "<init>") : x_pok vwCl x_G x_Tb s args "TwinFiresModel" mn (47, 18, 21) := ⟨12, _, RX12, TX12, "TwinFiresModel", tyX12, _, rfl, rfl, Nat.le_of_ble_eq_true rfl, iX12, (hts _ (x_bw63 8 rfl rfl)), fun x h => h, tyX12_ok, nmX12, rfl, x_fitA1 _ _, Or.inr ⟨rfl, hn, rfl⟩⟩
theorem fw_mF9_255 {s : State} {args : Array Value} {mn : String} (hts : ∀ w ∈ x_Tb, w.before args s = true) (hn : mn = "<init>") : x_pok vwCl x_G x_Tb s args "TwinFiresModel" mn (50, 18, 22) := ⟨12, _, RX12, TX12, "TwinFiresModel", tyX12, _, rfl, rfl, Nat.le_of_ble_eq_true rfl, iX12, (hts _ (x_bw63 9 rfl rfl)), fun x h => h, tyX12_ok, nmX12, rfl, x_fitA1 _ _, Or.inr ⟨rfl, hn, rfl⟩⟩
theorem fw_mF9_256 {s : State} {args : Array Value} {mn : String} (hts : ∀ w ∈ x_Tb, w.before args s = true) (hn : mn = "<init>") : x_pok vwCl x_G x_Tb s args "TwinFiresModel" mn (53, 18, 23) := ⟨12, _, RX12, TX12, "TwinFiresModel", tyX12, _, rfl, rfl, Nat.le_of_ble_eq_true rfl, iX12, (hts _ (x_bw63 10 rfl rfl)), fun x h => h, tyX12_ok, nmX12, rfl, x_fitA1 _ _, Or.inr ⟨rfl, hn, rfl⟩⟩
theorem fw_mF9_257 {s : State} {args : Array Value} {mn : String} (hts : ∀ w ∈ x_Tb, w.before args s = true) (hn : mn = "<init>") : x_pok vwCl x_G x_Tb s args "TwinFiresModel" mn (56, 18, 24) := ⟨12, _, RX12, TX12, "TwinFiresModel", tyX12, _, rfl, rfl, Nat.le_of_ble_eq_true rfl, iX12, (hts _ (x_bw63 11 rfl rfl)), fun x h => h, tyX12_ok, nmX12, rfl, x_fitA1 _ _, Or.inr ⟨rfl, hn, rfl⟩⟩
theorem fw_mF9_258 {s : State} {args : Array Value} {mn : String} (hts : ∀ w ∈ x_Tb, w.before args s = true) (hn : mn = "<init>") : x_pok vwCl x_G x_Tb s args "TwinFiresModel" mn (59, 18, 25) := ⟨12, _, RX12, TX12, "TwinFiresModel", tyX12, _, rfl, rfl, Nat.le_of_ble_eq_true rfl, iX12, (hts _ (x_bw63 12 rfl rfl)), fun x h => h, tyX12_ok, nmX12, rfl, x_fitA1 _ _, Or.inr ⟨rfl, hn, rfl⟩⟩
theorem fw_mF9_259 {s : State} {args : Array Value} {mn : String} (hts : ∀ w ∈ x_Tb, w.before args s = true) (hn : mn = "<init>") : x_pok vwCl x_G x_Tb s args "TwinFiresModel" mn (62, 18, 26) := ⟨12, _, RX12, TX12, "TwinFiresModel", tyX12, _, rfl, rfl, Nat.le_of_ble_eq_true rfl, iX12, (hts _ (x_bw63 13 rfl rfl)), fun x h => h, tyX12_ok, nmX12, rfl, x_fitA1 _ _, Or.inr ⟨rfl, hn, rfl⟩⟩
def z_AmiF : yA := fun D av _ H => ∀ this : Nat, av = [.ref this] → x_sl D 12 10 this H = some (.int 0) ∧ x_sl D 12 6 this H = some (.long 0)
def z_PmiF : yP := fun D av _ _ _ Y' H' => ∀ this : Nat, av = [.ref this] → z_RM D Y' H' this m_row0 (fun _ => none) (fun _ => 0) 0 ∧ z_FM D H' this 0 1
theorem mF9_d0 : decode xMmx.2.1 0 = .ok (.aload_n 0, 1) := dz_ok (by decide +kernel)
theorem mF9_d1 : decode xMmx.2.1 1 = .ok (.invokespecial 1, 3) := dz_ok (by decide +kernel)
theorem mF9_d4 : decode xMmx.2.1 4 = .ok (.aload_n 0, 1) := dz_ok (by decide +kernel)
theorem mF9_d5 : decode xMmx.2.1 5 = .ok (.sipush 160, 3) := dz_ok (by decide +kernel)
theorem mF9_d8 : decode xMmx.2.1 8 = .ok (.newarray .int, 2) := dz_ok (by decide +kernel)
theorem mF9_d10 : decode xMmx.2.1 10 = .ok (.putfield 7, 3) := dz_ok (by decide +kernel)
theorem mF9_d13 : decode xMmx.2.1 13 = .ok (.aload_n 0, 1) := dz_ok (by decide +kernel)
theorem mF9_d14 : decode xMmx.2.1 14 = .ok (.sipush 320, 3) := dz_ok (by decide +kernel)
theorem mF9_d17 : decode xMmx.2.1 17 = .ok (.newarray .int, 2) := dz_ok (by decide +kernel)
theorem mF9_d19 : decode xMmx.2.1 19 = .ok (.putfield 13, 3) := dz_ok (by decide +kernel)
theorem mF9_d22 : decode xMmx.2.1 22 = .ok (.aload_n 0, 1) := dz_ok (by decide +kernel)
theorem mF9_d23 : decode xMmx.2.1 23 = .ok (.iconst 2, 1) := dz_ok (by decide +kernel)
theorem mF9_d24 : decode xMmx.2.1 24 = .ok (.newarray .boolean, 2) := dz_ok (by decide +kernel)
theorem mF9_d26 : decode xMmx.2.1 26 = .ok (.putfield 16, 3) := dz_ok (by decide +kernel)
theorem mF9_d29 : decode xMmx.2.1 29 = .ok (.aload_n 0, 1) := dz_ok (by decide +kernel)
theorem mF9_d30 : decode xMmx.2.1 30 = .ok (.sipush 160, 3) := dz_ok (by decide +kernel)
theorem mF9_d33 : decode xMmx.2.1 33 = .ok (.newarray .int, 2) := dz_ok (by decide +kernel)
theorem mF9_d35 : decode xMmx.2.1 35 = .ok (.putfield 20, 3) := dz_ok (by decide +kernel)
theorem mF9_d38 : decode xMmx.2.1 38 = .ok (.aload_n 0, 1) := dz_ok (by decide +kernel)
theorem mF9_d39 : decode xMmx.2.1 39 = .ok (.iconst 3, 1) := dz_ok (by decide +kernel)
theorem mF9_d40 : decode xMmx.2.1 40 = .ok (.newarray .int, 2) := dz_ok (by decide +kernel)
theorem mF9_d42 : decode xMmx.2.1 42 = .ok (.putfield 23, 3) := dz_ok (by decide +kernel)
theorem mF9_d45 : decode xMmx.2.1 45 = .ok (.aload_n 0, 1) := dz_ok (by decide +kernel)
theorem mF9_d46 : decode xMmx.2.1 46 = .ok (.bipush 10, 2) := dz_ok (by decide +kernel)
theorem mF9_d48 : decode xMmx.2.1 48 = .ok (.newarray .int, 2) := dz_ok (by decide +kernel)
theorem mF9_d50 : decode xMmx.2.1 50 = .ok (.putfield 26, 3) := dz_ok (by decide +kernel)
theorem mF9_d53 : decode xMmx.2.1 53 = .ok (.aload_n 0, 1) := dz_ok (by decide +kernel)
theorem mF9_d54 : decode xMmx.2.1 54 = .ok (.sipush 240, 3) := dz_ok (by decide +kernel)
theorem mF9_d57 : decode xMmx.2.1 57 = .ok (.newarray .int, 2) := dz_ok (by decide +kernel)
theorem mF9_d59 : decode xMmx.2.1 59 = .ok (.putfield 29, 3) := dz_ok (by decide +kernel)
theorem mF9_d62 : decode xMmx.2.1 62 = .ok (.aload_n 0, 1) := dz_ok (by decide +kernel)
theorem mF9_d63 : decode xMmx.2.1 63 = .ok (.sipush 240, 3) := dz_ok (by decide +kernel)
theorem mF9_d66 : decode xMmx.2.1 66 = .ok (.newarray .int, 2) := dz_ok (by decide +kernel)
theorem mF9_d68 : decode xMmx.2.1 68 = .ok (.putfield 32, 3) := dz_ok (by decide +kernel)
theorem mF9_d71 : decode xMmx.2.1 71 = .ok (.aload_n 0, 1) := dz_ok (by decide +kernel)
theorem mF9_d72 : decode xMmx.2.1 72 = .ok (.sipush 960, 3) := dz_ok (by decide +kernel)
theorem mF9_d75 : decode xMmx.2.1 75 = .ok (.newarray .int, 2) := dz_ok (by decide +kernel)
theorem mF9_d77 : decode xMmx.2.1 77 = .ok (.putfield 35, 3) := dz_ok (by decide +kernel)
theorem mF9_d80 : decode xMmx.2.1 80 = .ok (.aload_n 0, 1) := dz_ok (by decide +kernel)
theorem mF9_d81 : decode xMmx.2.1 81 = .ok (.sipush 1024, 3) := dz_ok (by decide +kernel)
theorem mF9_d84 : decode xMmx.2.1 84 = .ok (.newarray .boolean, 2) := dz_ok (by decide +kernel)
theorem mF9_d86 : decode xMmx.2.1 86 = .ok (.putfield 38, 3) := dz_ok (by decide +kernel)
theorem mF9_d89 : decode xMmx.2.1 89 = .ok (.aload_n 0, 1) := dz_ok (by decide +kernel)
theorem mF9_d90 : decode xMmx.2.1 90 = .ok (.sipush 1024, 3) := dz_ok (by decide +kernel)
theorem mF9_d93 : decode xMmx.2.1 93 = .ok (.newarray .int, 2) := dz_ok (by decide +kernel)
theorem mF9_d95 : decode xMmx.2.1 95 = .ok (.putfield 41, 3) := dz_ok (by decide +kernel)
theorem mF9_d98 : decode xMmx.2.1 98 = .ok (.aload_n 0, 1) := dz_ok (by decide +kernel)
theorem mF9_d99 : decode xMmx.2.1 99 = .ok (.sipush 1024, 3) := dz_ok (by decide +kernel)
theorem mF9_d102 : decode xMmx.2.1 102 = .ok (.newarray .int, 2) := dz_ok (by decide +kernel)
theorem mF9_d104 : decode xMmx.2.1 104 = .ok (.putfield 44, 3) := dz_ok (by decide +kernel)
theorem mF9_d107 : decode xMmx.2.1 107 = .ok (.aload_n 0, 1) := dz_ok (by decide +kernel)
theorem mF9_d108 : decode xMmx.2.1 108 = .ok (.sipush 1024, 3) := dz_ok (by decide +kernel)
theorem mF9_d111 : decode xMmx.2.1 111 = .ok (.newarray .boolean, 2) := dz_ok (by decide +kernel)
theorem mF9_d113 : decode xMmx.2.1 113 = .ok (.putfield 47, 3) := dz_ok (by decide +kernel)
theorem mF9_d116 : decode xMmx.2.1 116 = .ok (.aload_n 0, 1) := dz_ok (by decide +kernel)
theorem mF9_d117 : decode xMmx.2.1 117 = .ok (.sipush 12288, 3) := dz_ok (by decide +kernel)
theorem mF9_d120 : decode xMmx.2.1 120 = .ok (.newarray .boolean, 2) := dz_ok (by decide +kernel)
theorem mF9_d122 : decode xMmx.2.1 122 = .ok (.putfield 50, 3) := dz_ok (by decide +kernel)
theorem mF9_d125 : decode xMmx.2.1 125 = .ok (.aload_n 0, 1) := dz_ok (by decide +kernel)
theorem mF9_d126 : decode xMmx.2.1 126 = .ok (.sipush 12288, 3) := dz_ok (by decide +kernel)
theorem mF9_d129 : decode xMmx.2.1 129 = .ok (.newarray .boolean, 2) := dz_ok (by decide +kernel)
theorem mF9_d131 : decode xMmx.2.1 131 = .ok (.putfield 53, 3) := dz_ok (by decide +kernel)
theorem mF9_d134 : decode xMmx.2.1 134 = .ok (.aload_n 0, 1) := dz_ok (by decide +kernel)
theorem mF9_d135 : decode xMmx.2.1 135 = .ok (.sipush 12288, 3) := dz_ok (by decide +kernel)
theorem mF9_d138 : decode xMmx.2.1 138 = .ok (.newarray .boolean, 2) := dz_ok (by decide +kernel)
theorem mF9_d140 : decode xMmx.2.1 140 = .ok (.putfield 56, 3) := dz_ok (by decide +kernel)
theorem mF9_d143 : decode xMmx.2.1 143 = .ok (.aload_n 0, 1) := dz_ok (by decide +kernel)
theorem mF9_d144 : decode xMmx.2.1 144 = .ok (.sipush 9216, 3) := dz_ok (by decide +kernel)
theorem mF9_d147 : decode xMmx.2.1 147 = .ok (.newarray .int, 2) := dz_ok (by decide +kernel)
theorem mF9_d149 : decode xMmx.2.1 149 = .ok (.putfield 59, 3) := dz_ok (by decide +kernel)
theorem mF9_d152 : decode xMmx.2.1 152 = .ok (.aload_n 0, 1) := dz_ok (by decide +kernel)
theorem mF9_d153 : decode xMmx.2.1 153 = .ok (.sipush 9216, 3) := dz_ok (by decide +kernel)
theorem mF9_d156 : decode xMmx.2.1 156 = .ok (.newarray .int, 2) := dz_ok (by decide +kernel)
theorem mF9_d158 : decode xMmx.2.1 158 = .ok (.putfield 62, 3) := dz_ok (by decide +kernel)
theorem mF9_d161 : decode xMmx.2.1 161 = .ok (.aload_n 0, 1) := dz_ok (by decide +kernel)
theorem mF9_d162 : decode xMmx.2.1 162 = .ok (.invokevirtual 65, 3) := dz_ok (by decide +kernel)
theorem mF9_d165 : decode xMmx.2.1 165 = .ok (.aload_n 0, 1) := dz_ok (by decide +kernel)
theorem mF9_d166 : decode xMmx.2.1 166 = .ok (.getfield 7, 3) := dz_ok (by decide +kernel)
theorem mF9_d169 : decode xMmx.2.1 169 = .ok (.bipush 7, 2) := dz_ok (by decide +kernel)
theorem mF9_d171 : decode xMmx.2.1 171 = .ok (.bipush 9, 2) := dz_ok (by decide +kernel)
theorem mF9_d173 : decode xMmx.2.1 173 = .ok (.iastore, 1) := dz_ok (by decide +kernel)
theorem mF9_d174 : decode xMmx.2.1 174 = .ok (.iconst 0, 1) := dz_ok (by decide +kernel)
theorem mF9_d175 : decode xMmx.2.1 175 = .ok (.istore_n 1, 1) := dz_ok (by decide +kernel)
theorem mF9_d176 : decode xMmx.2.1 176 = .ok (.iload_n 1, 1) := dz_ok (by decide +kernel)
theorem mF9_d177 : decode xMmx.2.1 177 = .ok (.bipush 12, 2) := dz_ok (by decide +kernel)
theorem mF9_d179 : decode xMmx.2.1 179 = .ok (.if_icmp .ge 22, 3) := dz_ok (by decide +kernel)
theorem mF9_d182 : decode xMmx.2.1 182 = .ok (.aload_n 0, 1) := dz_ok (by decide +kernel)
theorem mF9_d183 : decode xMmx.2.1 183 = .ok (.getfield 7, 3) := dz_ok (by decide +kernel)
theorem mF9_d186 : decode xMmx.2.1 186 = .ok (.sipush 136, 3) := dz_ok (by decide +kernel)
theorem mF9_d189 : decode xMmx.2.1 189 = .ok (.iconst 2, 1) := dz_ok (by decide +kernel)
theorem mF9_d190 : decode xMmx.2.1 190 = .ok (.iload_n 1, 1) := dz_ok (by decide +kernel)
theorem mF9_d191 : decode xMmx.2.1 191 = .ok (.imul, 1) := dz_ok (by decide +kernel)
theorem mF9_d192 : decode xMmx.2.1 192 = .ok (.iadd, 1) := dz_ok (by decide +kernel)
theorem mF9_d193 : decode xMmx.2.1 193 = .ok (.iconst (-1), 1) := dz_ok (by decide +kernel)
theorem mF9_d194 : decode xMmx.2.1 194 = .ok (.iastore, 1) := dz_ok (by decide +kernel)
theorem mF9_d195 : decode xMmx.2.1 195 = .ok (.iinc 1 1, 3) := dz_ok (by decide +kernel)
theorem mF9_d198 : decode xMmx.2.1 198 = .ok (.goto (-22), 3) := dz_ok (by decide +kernel)
theorem mF9_d201 : decode xMmx.2.1 201 = .ok (.aload_n 0, 1) := dz_ok (by decide +kernel)
theorem mF9_d202 : decode xMmx.2.1 202 = .ok (.lconst 1, 1) := dz_ok (by decide +kernel)
theorem mF9_d203 : decode xMmx.2.1 203 = .ok (.putfield 68, 3) := dz_ok (by decide +kernel)
theorem mF9_d206 : decode xMmx.2.1 206 = .ok (.return_, 1) := dz_ok (by decide +kernel)
theorem mF9_L176 {p : Program} {l : Launch} {e : Env} {s : State} {m : MethodId} {below : List Frame} {meth : Method} {c : Code} {D : va_G} {U : State} {Y0 : xY} {av : List Value} (B : y_B vwCl x_Tb x_Nb xMmx p s m meth c D U Y0 av) {this n8 n17 n24 n33 n40 n48 n57 n66 n75 n84 n93 n102 n111 n120 n129 n138 n147 n156 : Nat} (hav : av = [.ref this])  :
    ∀ (n : Nat), ∀ (H : Heap) (Y : xY) (locs : List Loc) (ls : Array Slot) (i : Int32) (fb : Nat → Int32), x_I D x_G x_Zs U (x_efs xMmx) Y0 s.heap Y H locs → Y this = some 18 → Y n8 = some 46 → Y n17 = some 47 → Y n24 = some 48 → Y n33 = some 49 → Y n40 = some 50 → Y n48 = some 51 → Y n57 = some 52 → Y n66 = some 53 → Y n75 = some 54 → Y n84 = some 55 → Y n93 = some 56 → Y n102 = some 57 → Y n111 = some 58 → Y n120 = some 59 → Y n129 = some 60 → Y n138 = some 61 → Y n147 = some 62 → Y n156 = some 63 → x_sl D 12 0 this H = some (.ref n8) → x_sl D 12 1 this H = some (.ref n17) → x_sl D 12 2 this H = some (.ref n24) → x_sl D 12 3 this H = some (.ref n33) → x_sl D 12 4 this H = some (.ref n40) → x_sl D 12 8 this H = some (.ref n48) → x_sl D 12 9 this H = some (.ref n57) → x_sl D 12 15 this H = some (.ref n66) → x_sl D 12 16 this H = some (.ref n75) → x_sl D 12 18 this H = some (.ref n84) → x_sl D 12 19 this H = some (.ref n93) → x_sl D 12 20 this H = some (.ref n102) → x_sl D 12 21 this H = some (.ref n111) → x_sl D 12 22 this H = some (.ref n120) → x_sl D 12 23 this H = some (.ref n129) → x_sl D 12 24 this H = some (.ref n138) → x_sl D 12 25 this H = some (.ref n147) → x_sl D 12 26 this H = some (.ref n156) → x_sl D 12 10 this H = some (.int 0) → y_A n8 160 H fb → y_A n24 2 H (fun _ => 0) → y_A n57 240 H (fun _ => 0) → x_sl D 12 6 this H = some (.long 0) → lv_has ls xMmx.2.2.1 [(1, .int i), (0, .ref this)] → (0 ≤ i.toInt ∧ i.toInt ≤ 12) → (fb = m_rowi i.toInt.toNat) → (12 - i.toInt).toNat < n → W p l e (x_rm xMmx) s m av.toArray below meth c H locs 18 61487 (y_QQ below D x_G x_Zs U xMmx z_PmiF av Y0 s) (F0 m 176 ls []) := by
  have X := B.1
  have hx := X.1
  have hb := X.2.1
  have hY0 := B.2.2.2.2.1
  have hts := X.2.2.2.2.1
  have hnm := B.2.2.2.1
  intro n
  induction n with
  | zero => intro _ _ _ _ _ _ _ _ _ _ _ _ _ _ _ _ _ _ _ _ _ _ _ _ _ _ _ _ _ _ _ _ _ _ _ _ _ _ _ _ _ _ _ _ _ _ _ _ _ _ _ _ h; exact absurd h (Nat.not_lt_zero _)
  | succ n ih =>
    intro H Y locs ls i fb hI hY_this hY_n8 hY_n17 hY_n24 hY_n33 hY_n40 hY_n48 hY_n57 hY_n66 hY_n75 hY_n84 hY_n93 hY_n102 hY_n111 hY_n120 hY_n129 hY_n138 hY_n147 hY_n156 hs_n8 hs_n17 hs_n24 hs_n33 hs_n40 hs_n48 hs_n57 hs_n66 hs_n75 hs_n84 hs_n93 hs_n102 hs_n111 hs_n120 hs_n129 hs_n138 hs_n147 hs_n156 hsi_typed hA_n8 hA_n24 hA_n57 hs_fa hl hi hfb hn
    refine lv_iload_n hx hb mF9_d176 rfl (lv_at hl 0 rfl) ?_
    refine lv_bipush hx hb mF9_d177 (v := 12) (by decide) ?_
    have ec12 : (12 : Int32).toInt = 12 := by decide
    refine lv_icmp_ge hx hb mF9_d179 (tgt := 201) (by decide) (fun q179 => ?_) (fun q179 => ?_)
    · have q179_ : (12 : Int32).toInt ≤ i.toInt := x_le32.mp q179
      refine lv_aload_n hx hb mF9_d201 rfl (lv_at hl 1 rfl) ?_
      refine lv_lconst hx hb mF9_d202 (v := 1) (by decide) ?_
      have el1 : (1 : Int64).toInt = 1 := by decide
      refine y_putf X (fw_mF9_240 X.2.2.2.2.1) hY0 hI hY_this rfl rfl ⟨_, rfl, x_i64 _⟩ (by decide +kernel) mF9_d203 fun H sl hI ho hs hk => ?_
      replace hs_n8 := hk _ _ (by decide +kernel) (by decide) hs_n8
      replace hs_n17 := hk _ _ (by decide +kernel) (by decide) hs_n17
      replace hs_n24 := hk _ _ (by decide +kernel) (by decide) hs_n24
      replace hs_n33 := hk _ _ (by decide +kernel) (by decide) hs_n33
      replace hs_n40 := hk _ _ (by decide +kernel) (by decide) hs_n40
      replace hs_n48 := hk _ _ (by decide +kernel) (by decide) hs_n48
      replace hs_n57 := hk _ _ (by decide +kernel) (by decide) hs_n57
      replace hs_n66 := hk _ _ (by decide +kernel) (by decide) hs_n66
      replace hs_n75 := hk _ _ (by decide +kernel) (by decide) hs_n75
      replace hs_n84 := hk _ _ (by decide +kernel) (by decide) hs_n84
      replace hs_n93 := hk _ _ (by decide +kernel) (by decide) hs_n93
      replace hs_n102 := hk _ _ (by decide +kernel) (by decide) hs_n102
      replace hs_n111 := hk _ _ (by decide +kernel) (by decide) hs_n111
      replace hs_n120 := hk _ _ (by decide +kernel) (by decide) hs_n120
      replace hs_n129 := hk _ _ (by decide +kernel) (by decide) hs_n129
      replace hs_n138 := hk _ _ (by decide +kernel) (by decide) hs_n138
      replace hs_n147 := hk _ _ (by decide +kernel) (by decide) hs_n147
      replace hs_n156 := hk _ _ (by decide +kernel) (by decide) hs_n156
      replace hsi_typed := hk _ _ (by decide +kernel) (by decide) hsi_typed
      replace hs_fa := hk _ _ (by decide +kernel) (by decide) hs_fa
      replace hA_n8 := hA_n8.kept (ho _ (y_ne hY_n8 hY_this rfl))
      replace hA_n24 := hA_n24.kept (ho _ (y_ne hY_n24 hY_this rfl))
      replace hA_n57 := hA_n57.kept (ho _ (y_ne hY_n57 hY_this rfl))
      replace hs := hs
      have hs203 := hs
      subst hav
      have hYC := hY_this
      have hf : ∀ (k : Nat) (ft : xV), ([xR false [46], xR false [47], xR false [48], xR false [49], xR false [50], xI 0 1, xFL, xFL, xR false [51], xR false [52], xI 0 240, xI 0 240, xF, xF, xF, xR false [53], xR false [54], xI 0 240, xR false [55], xR false [56], xR false [57], xR false [58], xR false [59], xR false [60], xR false [61], xR false [62], xR false [63]])[k]? = some ft → ∃ v : Value, x_sl D 12 k this H = some v ∧ x_c Y ft v ∧ x_nrT 18 ft = true := fun k ft hk => match k, hk with
          | 0, hk => by cases hk; exact ⟨_, hs_n8, y_crefA hY_n8 rfl, rfl⟩
          | 1, hk => by cases hk; exact ⟨_, hs_n17, y_crefA hY_n17 rfl, rfl⟩
          | 2, hk => by cases hk; exact ⟨_, hs_n24, y_crefA hY_n24 rfl, rfl⟩
          | 3, hk => by cases hk; exact ⟨_, hs_n33, y_crefA hY_n33 rfl, rfl⟩
          | 4, hk => by cases hk; exact ⟨_, hs_n40, y_crefA hY_n40 rfl, rfl⟩
          | 5, hk => by cases hk; obtain ⟨v, e1, e2⟩ := y_fld (k := 5) hI.1 hYC rfl rfl; exact ⟨v, e1, e2, rfl⟩
          | 6, hk => by cases hk; obtain ⟨v, e1, e2⟩ := y_fld (k := 6) hI.1 hYC rfl rfl; exact ⟨v, e1, e2, rfl⟩
          | 7, hk => by cases hk; obtain ⟨v, e1, e2⟩ := y_fld (k := 7) hI.1 hYC rfl rfl; exact ⟨v, e1, e2, rfl⟩
          | 8, hk => by cases hk; exact ⟨_, hs_n48, y_crefA hY_n48 rfl, rfl⟩
          | 9, hk => by cases hk; exact ⟨_, hs_n57, y_crefA hY_n57 rfl, rfl⟩
          | 10, hk => by cases hk; obtain ⟨v, e1, e2⟩ := y_fld (k := 10) hI.1 hYC rfl rfl; exact ⟨v, e1, e2, rfl⟩
          | 11, hk => by cases hk; obtain ⟨v, e1, e2⟩ := y_fld (k := 11) hI.1 hYC rfl rfl; exact ⟨v, e1, e2, rfl⟩
          | 12, hk => by cases hk; obtain ⟨v, e1, e2⟩ := y_fld (k := 12) hI.1 hYC rfl rfl; exact ⟨v, e1, e2, rfl⟩
          | 13, hk => by cases hk; obtain ⟨v, e1, e2⟩ := y_fld (k := 13) hI.1 hYC rfl rfl; exact ⟨v, e1, e2, rfl⟩
          | 14, hk => by cases hk; obtain ⟨v, e1, e2⟩ := y_fld (k := 14) hI.1 hYC rfl rfl; exact ⟨v, e1, e2, rfl⟩
          | 15, hk => by cases hk; exact ⟨_, hs_n66, y_crefA hY_n66 rfl, rfl⟩
          | 16, hk => by cases hk; exact ⟨_, hs_n75, y_crefA hY_n75 rfl, rfl⟩
          | 17, hk => by cases hk; obtain ⟨v, e1, e2⟩ := y_fld (k := 17) hI.1 hYC rfl rfl; exact ⟨v, e1, e2, rfl⟩
          | 18, hk => by cases hk; exact ⟨_, hs_n84, y_crefA hY_n84 rfl, rfl⟩
          | 19, hk => by cases hk; exact ⟨_, hs_n93, y_crefA hY_n93 rfl, rfl⟩
          | 20, hk => by cases hk; exact ⟨_, hs_n102, y_crefA hY_n102 rfl, rfl⟩
          | 21, hk => by cases hk; exact ⟨_, hs_n111, y_crefA hY_n111 rfl, rfl⟩
          | 22, hk => by cases hk; exact ⟨_, hs_n120, y_crefA hY_n120 rfl, rfl⟩
          | 23, hk => by cases hk; exact ⟨_, hs_n129, y_crefA hY_n129 rfl, rfl⟩
          | 24, hk => by cases hk; exact ⟨_, hs_n138, y_crefA hY_n138 rfl, rfl⟩
          | 25, hk => by cases hk; exact ⟨_, hs_n147, y_crefA hY_n147 rfl, rfl⟩
          | 26, hk => by cases hk; exact ⟨_, hs_n156, y_crefA hY_n156 rfl, rfl⟩
          | k + 27, hk => by cases hk
      exact y_retC (o := (12, [xR false [46], xR false [47], xR false [48], xR false [49], xR false [50], xI 0 1, xFL, xFL, xR false [51], xR false [52], xI 0 240, xI 0 240, xF, xF, xF, xR false [53], xR false [54], xI 0 240, xR false [55], xR false [56], xR false [57], xR false [58], xR false [59], xR false [60], xR false [61], xR false [62], xR false [63]])) B hI rfl rfl hYC rfl rfl rfl rfl (by decide +kernel) (by decide +kernel) List.mem_cons_self hf (fun t' h1 => by cases h1; exact ⟨⟨n8, n17, n24, n57, ⟨hs_n8, hs_n17, hs_n24, hs_n57, hsi_typed⟩, ⟨(x_up_ne (y_ne hY_n8 hYC rfl)).trans hY_n8, (x_up_ne (y_ne hY_n17 hYC rfl)).trans hY_n17, (x_up_ne (y_ne hY_n24 hYC rfl)).trans hY_n24, (x_up_ne (y_ne hY_n57 hYC rfl)).trans hY_n57⟩, m_row0c, fun j hj => by rw [hA_n8 j hj, hfb, show i.toInt.toNat = 12 by omega]; rfl, fun j hj => Or.inl ⟨rfl, hA_n24 j hj⟩, fun _ _ => rfl, hA_n57⟩, ⟨hs_fa, hs203⟩⟩) (by exact Nat.le_of_ble_eq_true rfl) (by exact Nat.le_of_ble_eq_true rfl) mF9_d206
    · have q179_ : i.toInt < (12 : Int32).toInt := Int.not_le.mp fun q => q179 (x_le32.mpr q)
      refine lv_aload_n hx hb mF9_d182 rfl (lv_at hl 1 rfl) ?_
      refine y_getf X (fl_mF9_241 X.2.2.2.2.1) hI.1 hY_this rfl hs_n8 mF9_d183 ?_
      refine lv_sipush hx hb mF9_d186 (v := 136) (by decide) ?_
      have ec136 : (136 : Int32).toInt = 136 := by decide
      refine lv_iconst hx hb mF9_d189 (v := 2) (by decide) ?_
      have ec2 : (2 : Int32).toInt = 2 := by decide
      refine lv_iload_n hx hb mF9_d190 rfl (lv_at hl 0 rfl) ?_
      refine lv_imul hx hb mF9_d191 ?_
      generalize hg_z191 : (2 : Int32) * i = z191
      have h_z191 : z191.toInt = 2 * i.toInt := by rw [← hg_z191]; have := y_mul (x := (2 : Int32)) (y := i) (by rw [ec2]; omega) (by rw [ec2]; omega); rw [ec2] at this; exact this
      refine lv_iadd hx hb mF9_d192 ?_
      generalize hg_z192 : (136 : Int32) + z191 = z192
      have h_z192 : z192.toInt = 136 + z191.toInt := by rw [← hg_z192]; have := y_add (x := (136 : Int32)) (y := z191) (by rw [ec136]; omega) (by rw [ec136]; omega); rw [ec136] at this; exact this
      refine lv_iconst hx hb mF9_d193 (v := (-1)) (by decide) ?_
      have ecm1 : ((-1) : Int32).toInt = (-1) := by decide
      refine y_iast X hY0 hI hY_n8 rfl hA_n8 (by omega) (by show _ < (160 : Int); omega) (by rw [z_get3 (by omega)]; exact ⟨_, rfl, x_i32 _⟩) (by decide +kernel) mF9_d194 fun H locs hI h_new ho => ?_
      replace hA_n8 := h_new
      generalize hf_f194 : y_up fb z192.toInt.toNat ((-1) : Int32) = f194 at hA_n8
      replace hs_n8 := y_slk hs_n8 (ho _ (y_ne hY_this hY_n8 rfl))
      replace hs_n17 := y_slk hs_n17 (ho _ (y_ne hY_this hY_n8 rfl))
      replace hs_n24 := y_slk hs_n24 (ho _ (y_ne hY_this hY_n8 rfl))
      replace hs_n33 := y_slk hs_n33 (ho _ (y_ne hY_this hY_n8 rfl))
      replace hs_n40 := y_slk hs_n40 (ho _ (y_ne hY_this hY_n8 rfl))
      replace hs_n48 := y_slk hs_n48 (ho _ (y_ne hY_this hY_n8 rfl))
      replace hs_n57 := y_slk hs_n57 (ho _ (y_ne hY_this hY_n8 rfl))
      replace hs_n66 := y_slk hs_n66 (ho _ (y_ne hY_this hY_n8 rfl))
      replace hs_n75 := y_slk hs_n75 (ho _ (y_ne hY_this hY_n8 rfl))
      replace hs_n84 := y_slk hs_n84 (ho _ (y_ne hY_this hY_n8 rfl))
      replace hs_n93 := y_slk hs_n93 (ho _ (y_ne hY_this hY_n8 rfl))
      replace hs_n102 := y_slk hs_n102 (ho _ (y_ne hY_this hY_n8 rfl))
      replace hs_n111 := y_slk hs_n111 (ho _ (y_ne hY_this hY_n8 rfl))
      replace hs_n120 := y_slk hs_n120 (ho _ (y_ne hY_this hY_n8 rfl))
      replace hs_n129 := y_slk hs_n129 (ho _ (y_ne hY_this hY_n8 rfl))
      replace hs_n138 := y_slk hs_n138 (ho _ (y_ne hY_this hY_n8 rfl))
      replace hs_n147 := y_slk hs_n147 (ho _ (y_ne hY_this hY_n8 rfl))
      replace hs_n156 := y_slk hs_n156 (ho _ (y_ne hY_this hY_n8 rfl))
      replace hsi_typed := y_slk hsi_typed (ho _ (y_ne hY_this hY_n8 rfl))
      replace hs_fa := y_slk hs_fa (ho _ (y_ne hY_this hY_n8 rfl))
      replace hA_n24 := hA_n24.kept (ho _ (y_ne hY_n24 hY_n8 rfl))
      replace hA_n57 := hA_n57.kept (ho _ (y_ne hY_n57 hY_n8 rfl))
      obtain ⟨z195, hg_z195⟩ : ∃ z195 : Int32, i + Int32.ofInt 1 = z195 := ⟨_, rfl⟩
      have h_z195 : z195.toInt = i.toInt + 1 := by rw [← hg_z195]; exact y_inc (by decide) (by omega) (by omega)
      refine lv_iinc hx hb mF9_d195 hl (k := 0) rfl hg_z195 (by decide) (lv' := [(1, .int z195), (0, .ref this)]) rfl fun ls hl => ?_
      refine lv_goto hx hb mF9_d198 (tgt := 176) (by decide) ?_
      exact ih _ _ _ _ _ _ hI hY_this hY_n8 hY_n17 hY_n24 hY_n33 hY_n40 hY_n48 hY_n57 hY_n66 hY_n75 hY_n84 hY_n93 hY_n102 hY_n111 hY_n120 hY_n129 hY_n138 hY_n147 hY_n156 hs_n8 hs_n17 hs_n24 hs_n33 hs_n40 hs_n48 hs_n57 hs_n66 hs_n75 hs_n84 hs_n93 hs_n102 hs_n111 hs_n120 hs_n129 hs_n138 hs_n147 hs_n156 hsi_typed hA_n8 hA_n24 hA_n57 hs_fa (lv_sub hl [0, 1] rfl) (by first | assumption | omega) (by rw [← hf_f194, hfb, show z195.toInt.toNat = i.toInt.toNat + 1 by omega, show z192.toInt.toNat = 136 + 2 * i.toInt.toNat by omega]; exact m_rowiS) (by omega)
theorem ym_modInitF : y_Met vwCl x_G x_Zs x_Tb x_Nb xMmx z_AmiF z_PmiF := by
  refine y_main (by decide +kernel) (by decide +kernel) x_Tb_good x_Nb_ok ?_
  intro p l e s m below meth c D U Y0 av ls B hI hpre hl
  have X := B.1
  have hx := X.1
  have hb := X.2.1
  have hY0 := B.2.2.2.2.1
  have hts := X.2.2.2.2.1
  have hnm := B.2.2.2.1
  obtain ⟨v0, rfl, hv0⟩ := x_one B.2.2.2.2.2
  obtain ⟨this, t0, rfl, ht0, hY_this⟩ := x_ref_at hv0 rfl
  obtain rfl := List.mem_singleton.mp ht0
  replace hl : lv_has ls xMmx.2.2.1 [(0, .ref this)] := hl
  obtain ⟨hsi_typed, hs_fa⟩ := hpre _ rfl
  refine lv_aload_n hx hb mF9_d0 rfl (lv_at hl 0 rfl) ?_
  refine y_oi X (hts _ (x_bw61 14 rfl rfl)) (hts _ (x_bw1 12 rfl rfl)) (hts _ (x_bw1 13 rfl rfl)) (Nat.le_of_ble_eq_true rfl) (Nat.le_of_ble_eq_true rfl) hl.1 (Nat.le_of_ble_eq_true rfl) mF9_d1 ?_
  refine lv_aload_n hx hb mF9_d4 rfl (lv_at hl 0 rfl) ?_
  refine lv_sipush hx hb mF9_d5 (v := 160) (by decide) ?_
  have ec160 : (160 : Int32).toInt = 160 := by decide
  refine y_newaC (tag := 46) (k := 160) X hY0 hI rfl rfl (by decide) (hts _ (x_bw5 1 rfl rfl)) (fun Y j => x_dfa (by decide +kernel) Y j) (by decide) (Nat.le_of_ble_eq_true rfl) (Nat.le_of_ble_eq_true rfl) mF9_d8 fun Yn H n8 hnw hct => ?_
  obtain ⟨hIn, hmo, hY_n8, hfr_n8, hke⟩ := hnw
  replace hsi_typed := y_slk hsi_typed (hke _ _ hY_this)
  replace hs_fa := y_slk hs_fa (hke _ _ hY_this)
  replace hY_this := hmo _ _ hY_this
  replace hI := hIn
  clear hIn hmo hke
  have hA_n8 : y_A n8 160 H (fun _ => 0) := fun j hj => hct j hj
  clear hct
  refine y_putf X (fw_mF9_242 X.2.2.2.2.1 hnm) hY0 hI hY_this rfl rfl (y_crefA hY_n8 rfl) (by decide +kernel) mF9_d10 fun H sl hI ho hs hk => ?_
  replace hsi_typed := hk _ _ (by decide +kernel) (by decide) hsi_typed
  replace hs_fa := hk _ _ (by decide +kernel) (by decide) hs_fa
  replace hA_n8 := hA_n8.kept (ho _ (y_ne hY_n8 hY_this rfl))
  replace hs := hs
  have hs10 := hs
  refine lv_aload_n hx hb mF9_d13 rfl (lv_at hl 0 rfl) ?_
  refine lv_sipush hx hb mF9_d14 (v := 320) (by decide) ?_
  have ec320 : (320 : Int32).toInt = 320 := by decide
  refine y_newaC (tag := 47) (k := 320) X hY0 hI rfl rfl (by decide) (hts _ (x_bw5 1 rfl rfl)) (fun Y j => x_dfa (by decide +kernel) Y j) (by decide) (Nat.le_of_ble_eq_true rfl) (Nat.le_of_ble_eq_true rfl) mF9_d17 fun Yn H n17 hnw hct => ?_
  obtain ⟨hIn, hmo, hY_n17, hfr_n17, hke⟩ := hnw
  replace hsi_typed := y_slk hsi_typed (hke _ _ hY_this)
  replace hs_fa := y_slk hs_fa (hke _ _ hY_this)
  replace hs10 := y_slk hs10 (hke _ _ hY_this)
  replace hA_n8 := hA_n8.kept (hke _ _ hY_n8)
  replace hY_this := hmo _ _ hY_this
  replace hY_n8 := hmo _ _ hY_n8
  replace hI := hIn
  clear hIn hmo hke
  clear hct
  refine y_putf X (fw_mF9_243 X.2.2.2.2.1 hnm) hY0 hI hY_this rfl rfl (y_crefA hY_n17 rfl) (by decide +kernel) mF9_d19 fun H sl hI ho hs hk => ?_
  replace hsi_typed := hk _ _ (by decide +kernel) (by decide) hsi_typed
  replace hs_fa := hk _ _ (by decide +kernel) (by decide) hs_fa
  replace hs10 := hk _ _ (by decide +kernel) (by decide) hs10
  replace hA_n8 := hA_n8.kept (ho _ (y_ne hY_n8 hY_this rfl))
  replace hs := hs
  have hs19 := hs
  refine lv_aload_n hx hb mF9_d22 rfl (lv_at hl 0 rfl) ?_
  refine lv_iconst hx hb mF9_d23 (v := 2) (by decide) ?_
  have ec2 : (2 : Int32).toInt = 2 := by decide
  refine y_newaC (tag := 48) (k := 2) X hY0 hI rfl rfl (by decide) (hts _ (x_bw67 5 rfl rfl)) (fun Y j => x_dfa (by decide +kernel) Y j) (by decide) (Nat.le_of_ble_eq_true rfl) (Nat.le_of_ble_eq_true rfl) mF9_d24 fun Yn H n24 hnw hct => ?_
  obtain ⟨hIn, hmo, hY_n24, hfr_n24, hke⟩ := hnw
  replace hsi_typed := y_slk hsi_typed (hke _ _ hY_this)
  replace hs_fa := y_slk hs_fa (hke _ _ hY_this)
  replace hs10 := y_slk hs10 (hke _ _ hY_this)
  replace hs19 := y_slk hs19 (hke _ _ hY_this)
  replace hA_n8 := hA_n8.kept (hke _ _ hY_n8)
  replace hY_this := hmo _ _ hY_this
  replace hY_n8 := hmo _ _ hY_n8
  replace hY_n17 := hmo _ _ hY_n17
  replace hI := hIn
  clear hIn hmo hke
  have hA_n24 : y_A n24 2 H (fun _ => 0) := fun j hj => hct j hj
  clear hct
  refine y_putf X (fw_mF9_244 X.2.2.2.2.1 hnm) hY0 hI hY_this rfl rfl (y_crefA hY_n24 rfl) (by decide +kernel) mF9_d26 fun H sl hI ho hs hk => ?_
  replace hsi_typed := hk _ _ (by decide +kernel) (by decide) hsi_typed
  replace hs_fa := hk _ _ (by decide +kernel) (by decide) hs_fa
  replace hs10 := hk _ _ (by decide +kernel) (by decide) hs10
  replace hs19 := hk _ _ (by decide +kernel) (by decide) hs19
  replace hA_n8 := hA_n8.kept (ho _ (y_ne hY_n8 hY_this rfl))
  replace hA_n24 := hA_n24.kept (ho _ (y_ne hY_n24 hY_this rfl))
  replace hs := hs
  have hs26 := hs
  refine lv_aload_n hx hb mF9_d29 rfl (lv_at hl 0 rfl) ?_
  refine lv_sipush hx hb mF9_d30 (v := 160) (by decide) ?_
  refine y_newaC (tag := 49) (k := 160) X hY0 hI rfl rfl (by decide) (hts _ (x_bw5 1 rfl rfl)) (fun Y j => x_dfa (by decide +kernel) Y j) (by decide) (Nat.le_of_ble_eq_true rfl) (Nat.le_of_ble_eq_true rfl) mF9_d33 fun Yn H n33 hnw hct => ?_
  obtain ⟨hIn, hmo, hY_n33, hfr_n33, hke⟩ := hnw
  replace hsi_typed := y_slk hsi_typed (hke _ _ hY_this)
  replace hs_fa := y_slk hs_fa (hke _ _ hY_this)
  replace hs10 := y_slk hs10 (hke _ _ hY_this)
  replace hs19 := y_slk hs19 (hke _ _ hY_this)
  replace hs26 := y_slk hs26 (hke _ _ hY_this)
  replace hA_n8 := hA_n8.kept (hke _ _ hY_n8)
  replace hA_n24 := hA_n24.kept (hke _ _ hY_n24)
  replace hY_this := hmo _ _ hY_this
  replace hY_n8 := hmo _ _ hY_n8
  replace hY_n17 := hmo _ _ hY_n17
  replace hY_n24 := hmo _ _ hY_n24
  replace hI := hIn
  clear hIn hmo hke
  clear hct
  refine y_putf X (fw_mF9_245 X.2.2.2.2.1 hnm) hY0 hI hY_this rfl rfl (y_crefA hY_n33 rfl) (by decide +kernel) mF9_d35 fun H sl hI ho hs hk => ?_
  replace hsi_typed := hk _ _ (by decide +kernel) (by decide) hsi_typed
  replace hs_fa := hk _ _ (by decide +kernel) (by decide) hs_fa
  replace hs10 := hk _ _ (by decide +kernel) (by decide) hs10
  replace hs19 := hk _ _ (by decide +kernel) (by decide) hs19
  replace hs26 := hk _ _ (by decide +kernel) (by decide) hs26
  replace hA_n8 := hA_n8.kept (ho _ (y_ne hY_n8 hY_this rfl))
  replace hA_n24 := hA_n24.kept (ho _ (y_ne hY_n24 hY_this rfl))
  replace hs := hs
  have hs35 := hs
  refine lv_aload_n hx hb mF9_d38 rfl (lv_at hl 0 rfl) ?_
  refine lv_iconst hx hb mF9_d39 (v := 3) (by decide) ?_
  have ec3 : (3 : Int32).toInt = 3 := by decide
  refine y_newaC (tag := 50) (k := 3) X hY0 hI rfl rfl (by decide) (hts _ (x_bw5 1 rfl rfl)) (fun Y j => x_dfa (by decide +kernel) Y j) (by decide) (Nat.le_of_ble_eq_true rfl) (Nat.le_of_ble_eq_true rfl) mF9_d40 fun Yn H n40 hnw hct => ?_
  obtain ⟨hIn, hmo, hY_n40, hfr_n40, hke⟩ := hnw
  replace hsi_typed := y_slk hsi_typed (hke _ _ hY_this)
  replace hs_fa := y_slk hs_fa (hke _ _ hY_this)
  replace hs10 := y_slk hs10 (hke _ _ hY_this)
  replace hs19 := y_slk hs19 (hke _ _ hY_this)
  replace hs26 := y_slk hs26 (hke _ _ hY_this)
  replace hs35 := y_slk hs35 (hke _ _ hY_this)
  replace hA_n8 := hA_n8.kept (hke _ _ hY_n8)
  replace hA_n24 := hA_n24.kept (hke _ _ hY_n24)
  replace hY_this := hmo _ _ hY_this
  replace hY_n8 := hmo _ _ hY_n8
  replace hY_n17 := hmo _ _ hY_n17
  replace hY_n24 := hmo _ _ hY_n24
  replace hY_n33 := hmo _ _ hY_n33
  replace hI := hIn
  clear hIn hmo hke
  clear hct
  refine y_putf X (fw_mF9_246 X.2.2.2.2.1 hnm) hY0 hI hY_this rfl rfl (y_crefA hY_n40 rfl) (by decide +kernel) mF9_d42 fun H sl hI ho hs hk => ?_
  replace hsi_typed := hk _ _ (by decide +kernel) (by decide) hsi_typed
  replace hs_fa := hk _ _ (by decide +kernel) (by decide) hs_fa
  replace hs10 := hk _ _ (by decide +kernel) (by decide) hs10
  replace hs19 := hk _ _ (by decide +kernel) (by decide) hs19
  replace hs26 := hk _ _ (by decide +kernel) (by decide) hs26
  replace hs35 := hk _ _ (by decide +kernel) (by decide) hs35
  replace hA_n8 := hA_n8.kept (ho _ (y_ne hY_n8 hY_this rfl))
  replace hA_n24 := hA_n24.kept (ho _ (y_ne hY_n24 hY_this rfl))
  replace hs := hs
  have hs42 := hs
  refine lv_aload_n hx hb mF9_d45 rfl (lv_at hl 0 rfl) ?_
  refine lv_bipush hx hb mF9_d46 (v := 10) (by decide) ?_
  have ec10 : (10 : Int32).toInt = 10 := by decide
  refine y_newaC (tag := 51) (k := 10) X hY0 hI rfl rfl (by decide) (hts _ (x_bw5 1 rfl rfl)) (fun Y j => x_dfa (by decide +kernel) Y j) (by decide) (Nat.le_of_ble_eq_true rfl) (Nat.le_of_ble_eq_true rfl) mF9_d48 fun Yn H n48 hnw hct => ?_
  obtain ⟨hIn, hmo, hY_n48, hfr_n48, hke⟩ := hnw
  replace hsi_typed := y_slk hsi_typed (hke _ _ hY_this)
  replace hs_fa := y_slk hs_fa (hke _ _ hY_this)
  replace hs10 := y_slk hs10 (hke _ _ hY_this)
  replace hs19 := y_slk hs19 (hke _ _ hY_this)
  replace hs26 := y_slk hs26 (hke _ _ hY_this)
  replace hs35 := y_slk hs35 (hke _ _ hY_this)
  replace hs42 := y_slk hs42 (hke _ _ hY_this)
  replace hA_n8 := hA_n8.kept (hke _ _ hY_n8)
  replace hA_n24 := hA_n24.kept (hke _ _ hY_n24)
  replace hY_this := hmo _ _ hY_this
  replace hY_n8 := hmo _ _ hY_n8
  replace hY_n17 := hmo _ _ hY_n17
  replace hY_n24 := hmo _ _ hY_n24
  replace hY_n33 := hmo _ _ hY_n33
  replace hY_n40 := hmo _ _ hY_n40
  replace hI := hIn
  clear hIn hmo hke
  clear hct
  refine y_putf X (fw_mF9_247 X.2.2.2.2.1 hnm) hY0 hI hY_this rfl rfl (y_crefA hY_n48 rfl) (by decide +kernel) mF9_d50 fun H sl hI ho hs hk => ?_
  replace hsi_typed := hk _ _ (by decide +kernel) (by decide) hsi_typed
  replace hs_fa := hk _ _ (by decide +kernel) (by decide) hs_fa
  replace hs10 := hk _ _ (by decide +kernel) (by decide) hs10
  replace hs19 := hk _ _ (by decide +kernel) (by decide) hs19
  replace hs26 := hk _ _ (by decide +kernel) (by decide) hs26
  replace hs35 := hk _ _ (by decide +kernel) (by decide) hs35
  replace hs42 := hk _ _ (by decide +kernel) (by decide) hs42
  replace hA_n8 := hA_n8.kept (ho _ (y_ne hY_n8 hY_this rfl))
  replace hA_n24 := hA_n24.kept (ho _ (y_ne hY_n24 hY_this rfl))
  replace hs := hs
  have hs50 := hs
  refine lv_aload_n hx hb mF9_d53 rfl (lv_at hl 0 rfl) ?_
  refine lv_sipush hx hb mF9_d54 (v := 240) (by decide) ?_
  have ec240 : (240 : Int32).toInt = 240 := by decide
  refine y_newaC (tag := 52) (k := 240) X hY0 hI rfl rfl (by decide) (hts _ (x_bw5 1 rfl rfl)) (fun Y j => x_dfa (by decide +kernel) Y j) (by decide) (Nat.le_of_ble_eq_true rfl) (Nat.le_of_ble_eq_true rfl) mF9_d57 fun Yn H n57 hnw hct => ?_
  obtain ⟨hIn, hmo, hY_n57, hfr_n57, hke⟩ := hnw
  replace hsi_typed := y_slk hsi_typed (hke _ _ hY_this)
  replace hs_fa := y_slk hs_fa (hke _ _ hY_this)
  replace hs10 := y_slk hs10 (hke _ _ hY_this)
  replace hs19 := y_slk hs19 (hke _ _ hY_this)
  replace hs26 := y_slk hs26 (hke _ _ hY_this)
  replace hs35 := y_slk hs35 (hke _ _ hY_this)
  replace hs42 := y_slk hs42 (hke _ _ hY_this)
  replace hs50 := y_slk hs50 (hke _ _ hY_this)
  replace hA_n8 := hA_n8.kept (hke _ _ hY_n8)
  replace hA_n24 := hA_n24.kept (hke _ _ hY_n24)
  replace hY_this := hmo _ _ hY_this
  replace hY_n8 := hmo _ _ hY_n8
  replace hY_n17 := hmo _ _ hY_n17
  replace hY_n24 := hmo _ _ hY_n24
  replace hY_n33 := hmo _ _ hY_n33
  replace hY_n40 := hmo _ _ hY_n40
  replace hY_n48 := hmo _ _ hY_n48
  replace hI := hIn
  clear hIn hmo hke
  have hA_n57 : y_A n57 240 H (fun _ => 0) := fun j hj => hct j hj
  clear hct
  refine y_putf X (fw_mF9_248 X.2.2.2.2.1 hnm) hY0 hI hY_this rfl rfl (y_crefA hY_n57 rfl) (by decide +kernel) mF9_d59 fun H sl hI ho hs hk => ?_
  replace hsi_typed := hk _ _ (by decide +kernel) (by decide) hsi_typed
  replace hs_fa := hk _ _ (by decide +kernel) (by decide) hs_fa
  replace hs10 := hk _ _ (by decide +kernel) (by decide) hs10
  replace hs19 := hk _ _ (by decide +kernel) (by decide) hs19
  replace hs26 := hk _ _ (by decide +kernel) (by decide) hs26
  replace hs35 := hk _ _ (by decide +kernel) (by decide) hs35
  replace hs42 := hk _ _ (by decide +kernel) (by decide) hs42
  replace hs50 := hk _ _ (by decide +kernel) (by decide) hs50
  replace hA_n8 := hA_n8.kept (ho _ (y_ne hY_n8 hY_this rfl))
  replace hA_n24 := hA_n24.kept (ho _ (y_ne hY_n24 hY_this rfl))
  replace hA_n57 := hA_n57.kept (ho _ (y_ne hY_n57 hY_this rfl))
  replace hs := hs
  have hs59 := hs
  refine lv_aload_n hx hb mF9_d62 rfl (lv_at hl 0 rfl) ?_
  refine lv_sipush hx hb mF9_d63 (v := 240) (by decide) ?_
  refine y_newaC (tag := 53) (k := 240) X hY0 hI rfl rfl (by decide) (hts _ (x_bw5 1 rfl rfl)) (fun Y j => x_dfa (by decide +kernel) Y j) (by decide) (Nat.le_of_ble_eq_true rfl) (Nat.le_of_ble_eq_true rfl) mF9_d66 fun Yn H n66 hnw hct => ?_
  obtain ⟨hIn, hmo, hY_n66, hfr_n66, hke⟩ := hnw
  replace hsi_typed := y_slk hsi_typed (hke _ _ hY_this)
  replace hs_fa := y_slk hs_fa (hke _ _ hY_this)
  replace hs10 := y_slk hs10 (hke _ _ hY_this)
  replace hs19 := y_slk hs19 (hke _ _ hY_this)
  replace hs26 := y_slk hs26 (hke _ _ hY_this)
  replace hs35 := y_slk hs35 (hke _ _ hY_this)
  replace hs42 := y_slk hs42 (hke _ _ hY_this)
  replace hs50 := y_slk hs50 (hke _ _ hY_this)
  replace hs59 := y_slk hs59 (hke _ _ hY_this)
  replace hA_n8 := hA_n8.kept (hke _ _ hY_n8)
  replace hA_n24 := hA_n24.kept (hke _ _ hY_n24)
  replace hA_n57 := hA_n57.kept (hke _ _ hY_n57)
  replace hY_this := hmo _ _ hY_this
  replace hY_n8 := hmo _ _ hY_n8
  replace hY_n17 := hmo _ _ hY_n17
  replace hY_n24 := hmo _ _ hY_n24
  replace hY_n33 := hmo _ _ hY_n33
  replace hY_n40 := hmo _ _ hY_n40
  replace hY_n48 := hmo _ _ hY_n48
  replace hY_n57 := hmo _ _ hY_n57
  replace hI := hIn
  clear hIn hmo hke
  clear hct
  refine y_putf X (fw_mF9_249 X.2.2.2.2.1 hnm) hY0 hI hY_this rfl rfl (y_crefA hY_n66 rfl) (by decide +kernel) mF9_d68 fun H sl hI ho hs hk => ?_
  replace hsi_typed := hk _ _ (by decide +kernel) (by decide) hsi_typed
  replace hs_fa := hk _ _ (by decide +kernel) (by decide) hs_fa
  replace hs10 := hk _ _ (by decide +kernel) (by decide) hs10
  replace hs19 := hk _ _ (by decide +kernel) (by decide) hs19
  replace hs26 := hk _ _ (by decide +kernel) (by decide) hs26
  replace hs35 := hk _ _ (by decide +kernel) (by decide) hs35
  replace hs42 := hk _ _ (by decide +kernel) (by decide) hs42
  replace hs50 := hk _ _ (by decide +kernel) (by decide) hs50
  replace hs59 := hk _ _ (by decide +kernel) (by decide) hs59
  replace hA_n8 := hA_n8.kept (ho _ (y_ne hY_n8 hY_this rfl))
  replace hA_n24 := hA_n24.kept (ho _ (y_ne hY_n24 hY_this rfl))
  replace hA_n57 := hA_n57.kept (ho _ (y_ne hY_n57 hY_this rfl))
  replace hs := hs
  have hs68 := hs
  refine lv_aload_n hx hb mF9_d71 rfl (lv_at hl 0 rfl) ?_
  refine lv_sipush hx hb mF9_d72 (v := 960) (by decide) ?_
  have ec960 : (960 : Int32).toInt = 960 := by decide
  refine y_newaC (tag := 54) (k := 960) X hY0 hI rfl rfl (by decide) (hts _ (x_bw5 1 rfl rfl)) (fun Y j => x_dfa (by decide +kernel) Y j) (by decide) (Nat.le_of_ble_eq_true rfl) (Nat.le_of_ble_eq_true rfl) mF9_d75 fun Yn H n75 hnw hct => ?_
  obtain ⟨hIn, hmo, hY_n75, hfr_n75, hke⟩ := hnw
  replace hsi_typed := y_slk hsi_typed (hke _ _ hY_this)
  replace hs_fa := y_slk hs_fa (hke _ _ hY_this)
  replace hs10 := y_slk hs10 (hke _ _ hY_this)
  replace hs19 := y_slk hs19 (hke _ _ hY_this)
  replace hs26 := y_slk hs26 (hke _ _ hY_this)
  replace hs35 := y_slk hs35 (hke _ _ hY_this)
  replace hs42 := y_slk hs42 (hke _ _ hY_this)
  replace hs50 := y_slk hs50 (hke _ _ hY_this)
  replace hs59 := y_slk hs59 (hke _ _ hY_this)
  replace hs68 := y_slk hs68 (hke _ _ hY_this)
  replace hA_n8 := hA_n8.kept (hke _ _ hY_n8)
  replace hA_n24 := hA_n24.kept (hke _ _ hY_n24)
  replace hA_n57 := hA_n57.kept (hke _ _ hY_n57)
  replace hY_this := hmo _ _ hY_this
  replace hY_n8 := hmo _ _ hY_n8
  replace hY_n17 := hmo _ _ hY_n17
  replace hY_n24 := hmo _ _ hY_n24
  replace hY_n33 := hmo _ _ hY_n33
  replace hY_n40 := hmo _ _ hY_n40
  replace hY_n48 := hmo _ _ hY_n48
  replace hY_n57 := hmo _ _ hY_n57
  replace hY_n66 := hmo _ _ hY_n66
  replace hI := hIn
  clear hIn hmo hke
  clear hct
  refine y_putf X (fw_mF9_250 X.2.2.2.2.1 hnm) hY0 hI hY_this rfl rfl (y_crefA hY_n75 rfl) (by decide +kernel) mF9_d77 fun H sl hI ho hs hk => ?_
  replace hsi_typed := hk _ _ (by decide +kernel) (by decide) hsi_typed
  replace hs_fa := hk _ _ (by decide +kernel) (by decide) hs_fa
  replace hs10 := hk _ _ (by decide +kernel) (by decide) hs10
  replace hs19 := hk _ _ (by decide +kernel) (by decide) hs19
  replace hs26 := hk _ _ (by decide +kernel) (by decide) hs26
  replace hs35 := hk _ _ (by decide +kernel) (by decide) hs35
  replace hs42 := hk _ _ (by decide +kernel) (by decide) hs42
  replace hs50 := hk _ _ (by decide +kernel) (by decide) hs50
  replace hs59 := hk _ _ (by decide +kernel) (by decide) hs59
  replace hs68 := hk _ _ (by decide +kernel) (by decide) hs68
  replace hA_n8 := hA_n8.kept (ho _ (y_ne hY_n8 hY_this rfl))
  replace hA_n24 := hA_n24.kept (ho _ (y_ne hY_n24 hY_this rfl))
  replace hA_n57 := hA_n57.kept (ho _ (y_ne hY_n57 hY_this rfl))
  replace hs := hs
  have hs77 := hs
  refine lv_aload_n hx hb mF9_d80 rfl (lv_at hl 0 rfl) ?_
  refine lv_sipush hx hb mF9_d81 (v := 1024) (by decide) ?_
  have ec1024 : (1024 : Int32).toInt = 1024 := by decide
  refine y_newaC (tag := 55) (k := 1024) X hY0 hI rfl rfl (by decide) (hts _ (x_bw67 5 rfl rfl)) (fun Y j => x_dfa (by decide +kernel) Y j) (by decide) (Nat.le_of_ble_eq_true rfl) (Nat.le_of_ble_eq_true rfl) mF9_d84 fun Yn H n84 hnw hct => ?_
  obtain ⟨hIn, hmo, hY_n84, hfr_n84, hke⟩ := hnw
  replace hsi_typed := y_slk hsi_typed (hke _ _ hY_this)
  replace hs_fa := y_slk hs_fa (hke _ _ hY_this)
  replace hs10 := y_slk hs10 (hke _ _ hY_this)
  replace hs19 := y_slk hs19 (hke _ _ hY_this)
  replace hs26 := y_slk hs26 (hke _ _ hY_this)
  replace hs35 := y_slk hs35 (hke _ _ hY_this)
  replace hs42 := y_slk hs42 (hke _ _ hY_this)
  replace hs50 := y_slk hs50 (hke _ _ hY_this)
  replace hs59 := y_slk hs59 (hke _ _ hY_this)
  replace hs68 := y_slk hs68 (hke _ _ hY_this)
  replace hs77 := y_slk hs77 (hke _ _ hY_this)
  replace hA_n8 := hA_n8.kept (hke _ _ hY_n8)
  replace hA_n24 := hA_n24.kept (hke _ _ hY_n24)
  replace hA_n57 := hA_n57.kept (hke _ _ hY_n57)
  replace hY_this := hmo _ _ hY_this
  replace hY_n8 := hmo _ _ hY_n8
  replace hY_n17 := hmo _ _ hY_n17
  replace hY_n24 := hmo _ _ hY_n24
  replace hY_n33 := hmo _ _ hY_n33
  replace hY_n40 := hmo _ _ hY_n40
  replace hY_n48 := hmo _ _ hY_n48
  replace hY_n57 := hmo _ _ hY_n57
  replace hY_n66 := hmo _ _ hY_n66
  replace hY_n75 := hmo _ _ hY_n75
  replace hI := hIn
  clear hIn hmo hke
  clear hct
  refine y_putf X (fw_mF9_251 X.2.2.2.2.1 hnm) hY0 hI hY_this rfl rfl (y_crefA hY_n84 rfl) (by decide +kernel) mF9_d86 fun H sl hI ho hs hk => ?_
  replace hsi_typed := hk _ _ (by decide +kernel) (by decide) hsi_typed
  replace hs_fa := hk _ _ (by decide +kernel) (by decide) hs_fa
  replace hs10 := hk _ _ (by decide +kernel) (by decide) hs10
  replace hs19 := hk _ _ (by decide +kernel) (by decide) hs19
  replace hs26 := hk _ _ (by decide +kernel) (by decide) hs26
  replace hs35 := hk _ _ (by decide +kernel) (by decide) hs35
  replace hs42 := hk _ _ (by decide +kernel) (by decide) hs42
  replace hs50 := hk _ _ (by decide +kernel) (by decide) hs50
  replace hs59 := hk _ _ (by decide +kernel) (by decide) hs59
  replace hs68 := hk _ _ (by decide +kernel) (by decide) hs68
  replace hs77 := hk _ _ (by decide +kernel) (by decide) hs77
  replace hA_n8 := hA_n8.kept (ho _ (y_ne hY_n8 hY_this rfl))
  replace hA_n24 := hA_n24.kept (ho _ (y_ne hY_n24 hY_this rfl))
  replace hA_n57 := hA_n57.kept (ho _ (y_ne hY_n57 hY_this rfl))
  replace hs := hs
  have hs86 := hs
  refine lv_aload_n hx hb mF9_d89 rfl (lv_at hl 0 rfl) ?_
  refine lv_sipush hx hb mF9_d90 (v := 1024) (by decide) ?_
  refine y_newaC (tag := 56) (k := 1024) X hY0 hI rfl rfl (by decide) (hts _ (x_bw5 1 rfl rfl)) (fun Y j => x_dfa (by decide +kernel) Y j) (by decide) (Nat.le_of_ble_eq_true rfl) (Nat.le_of_ble_eq_true rfl) mF9_d93 fun Yn H n93 hnw hct => ?_
  obtain ⟨hIn, hmo, hY_n93, hfr_n93, hke⟩ := hnw
  replace hsi_typed := y_slk hsi_typed (hke _ _ hY_this)
  replace hs_fa := y_slk hs_fa (hke _ _ hY_this)
  replace hs10 := y_slk hs10 (hke _ _ hY_this)
  replace hs19 := y_slk hs19 (hke _ _ hY_this)
  replace hs26 := y_slk hs26 (hke _ _ hY_this)
  replace hs35 := y_slk hs35 (hke _ _ hY_this)
  replace hs42 := y_slk hs42 (hke _ _ hY_this)
  replace hs50 := y_slk hs50 (hke _ _ hY_this)
  replace hs59 := y_slk hs59 (hke _ _ hY_this)
  replace hs68 := y_slk hs68 (hke _ _ hY_this)
  replace hs77 := y_slk hs77 (hke _ _ hY_this)
  replace hs86 := y_slk hs86 (hke _ _ hY_this)
  replace hA_n8 := hA_n8.kept (hke _ _ hY_n8)
  replace hA_n24 := hA_n24.kept (hke _ _ hY_n24)
  replace hA_n57 := hA_n57.kept (hke _ _ hY_n57)
  replace hY_this := hmo _ _ hY_this
  replace hY_n8 := hmo _ _ hY_n8
  replace hY_n17 := hmo _ _ hY_n17
  replace hY_n24 := hmo _ _ hY_n24
  replace hY_n33 := hmo _ _ hY_n33
  replace hY_n40 := hmo _ _ hY_n40
  replace hY_n48 := hmo _ _ hY_n48
  replace hY_n57 := hmo _ _ hY_n57
  replace hY_n66 := hmo _ _ hY_n66
  replace hY_n75 := hmo _ _ hY_n75
  replace hY_n84 := hmo _ _ hY_n84
  replace hI := hIn
  clear hIn hmo hke
  clear hct
  refine y_putf X (fw_mF9_252 X.2.2.2.2.1 hnm) hY0 hI hY_this rfl rfl (y_crefA hY_n93 rfl) (by decide +kernel) mF9_d95 fun H sl hI ho hs hk => ?_
  replace hsi_typed := hk _ _ (by decide +kernel) (by decide) hsi_typed
  replace hs_fa := hk _ _ (by decide +kernel) (by decide) hs_fa
  replace hs10 := hk _ _ (by decide +kernel) (by decide) hs10
  replace hs19 := hk _ _ (by decide +kernel) (by decide) hs19
  replace hs26 := hk _ _ (by decide +kernel) (by decide) hs26
  replace hs35 := hk _ _ (by decide +kernel) (by decide) hs35
  replace hs42 := hk _ _ (by decide +kernel) (by decide) hs42
  replace hs50 := hk _ _ (by decide +kernel) (by decide) hs50
  replace hs59 := hk _ _ (by decide +kernel) (by decide) hs59
  replace hs68 := hk _ _ (by decide +kernel) (by decide) hs68
  replace hs77 := hk _ _ (by decide +kernel) (by decide) hs77
  replace hs86 := hk _ _ (by decide +kernel) (by decide) hs86
  replace hA_n8 := hA_n8.kept (ho _ (y_ne hY_n8 hY_this rfl))
  replace hA_n24 := hA_n24.kept (ho _ (y_ne hY_n24 hY_this rfl))
  replace hA_n57 := hA_n57.kept (ho _ (y_ne hY_n57 hY_this rfl))
  replace hs := hs
  have hs95 := hs
  refine lv_aload_n hx hb mF9_d98 rfl (lv_at hl 0 rfl) ?_
  refine lv_sipush hx hb mF9_d99 (v := 1024) (by decide) ?_
  refine y_newaC (tag := 57) (k := 1024) X hY0 hI rfl rfl (by decide) (hts _ (x_bw5 1 rfl rfl)) (fun Y j => x_dfa (by decide +kernel) Y j) (by decide) (Nat.le_of_ble_eq_true rfl) (Nat.le_of_ble_eq_true rfl) mF9_d102 fun Yn H n102 hnw hct => ?_
  obtain ⟨hIn, hmo, hY_n102, hfr_n102, hke⟩ := hnw
  replace hsi_typed := y_slk hsi_typed (hke _ _ hY_this)
  replace hs_fa := y_slk hs_fa (hke _ _ hY_this)
  replace hs10 := y_slk hs10 (hke _ _ hY_this)
  replace hs19 := y_slk hs19 (hke _ _ hY_this)
  replace hs26 := y_slk hs26 (hke _ _ hY_this)
  replace hs35 := y_slk hs35 (hke _ _ hY_this)
  replace hs42 := y_slk hs42 (hke _ _ hY_this)
  replace hs50 := y_slk hs50 (hke _ _ hY_this)
  replace hs59 := y_slk hs59 (hke _ _ hY_this)
  replace hs68 := y_slk hs68 (hke _ _ hY_this)
  replace hs77 := y_slk hs77 (hke _ _ hY_this)
  replace hs86 := y_slk hs86 (hke _ _ hY_this)
  replace hs95 := y_slk hs95 (hke _ _ hY_this)
  replace hA_n8 := hA_n8.kept (hke _ _ hY_n8)
  replace hA_n24 := hA_n24.kept (hke _ _ hY_n24)
  replace hA_n57 := hA_n57.kept (hke _ _ hY_n57)
  replace hY_this := hmo _ _ hY_this
  replace hY_n8 := hmo _ _ hY_n8
  replace hY_n17 := hmo _ _ hY_n17
  replace hY_n24 := hmo _ _ hY_n24
  replace hY_n33 := hmo _ _ hY_n33
  replace hY_n40 := hmo _ _ hY_n40
  replace hY_n48 := hmo _ _ hY_n48
  replace hY_n57 := hmo _ _ hY_n57
  replace hY_n66 := hmo _ _ hY_n66
  replace hY_n75 := hmo _ _ hY_n75
  replace hY_n84 := hmo _ _ hY_n84
  replace hY_n93 := hmo _ _ hY_n93
  replace hI := hIn
  clear hIn hmo hke
  clear hct
  refine y_putf X (fw_mF9_253 X.2.2.2.2.1 hnm) hY0 hI hY_this rfl rfl (y_crefA hY_n102 rfl) (by decide +kernel) mF9_d104 fun H sl hI ho hs hk => ?_
  replace hsi_typed := hk _ _ (by decide +kernel) (by decide) hsi_typed
  replace hs_fa := hk _ _ (by decide +kernel) (by decide) hs_fa
  replace hs10 := hk _ _ (by decide +kernel) (by decide) hs10
  replace hs19 := hk _ _ (by decide +kernel) (by decide) hs19
  replace hs26 := hk _ _ (by decide +kernel) (by decide) hs26
  replace hs35 := hk _ _ (by decide +kernel) (by decide) hs35
  replace hs42 := hk _ _ (by decide +kernel) (by decide) hs42
  replace hs50 := hk _ _ (by decide +kernel) (by decide) hs50
  replace hs59 := hk _ _ (by decide +kernel) (by decide) hs59
  replace hs68 := hk _ _ (by decide +kernel) (by decide) hs68
  replace hs77 := hk _ _ (by decide +kernel) (by decide) hs77
  replace hs86 := hk _ _ (by decide +kernel) (by decide) hs86
  replace hs95 := hk _ _ (by decide +kernel) (by decide) hs95
  replace hA_n8 := hA_n8.kept (ho _ (y_ne hY_n8 hY_this rfl))
  replace hA_n24 := hA_n24.kept (ho _ (y_ne hY_n24 hY_this rfl))
  replace hA_n57 := hA_n57.kept (ho _ (y_ne hY_n57 hY_this rfl))
  replace hs := hs
  have hs104 := hs
  refine lv_aload_n hx hb mF9_d107 rfl (lv_at hl 0 rfl) ?_
  refine lv_sipush hx hb mF9_d108 (v := 1024) (by decide) ?_
  refine y_newaC (tag := 58) (k := 1024) X hY0 hI rfl rfl (by decide) (hts _ (x_bw67 5 rfl rfl)) (fun Y j => x_dfa (by decide +kernel) Y j) (by decide) (Nat.le_of_ble_eq_true rfl) (Nat.le_of_ble_eq_true rfl) mF9_d111 fun Yn H n111 hnw hct => ?_
  obtain ⟨hIn, hmo, hY_n111, hfr_n111, hke⟩ := hnw
  replace hsi_typed := y_slk hsi_typed (hke _ _ hY_this)
  replace hs_fa := y_slk hs_fa (hke _ _ hY_this)
  replace hs10 := y_slk hs10 (hke _ _ hY_this)
  replace hs19 := y_slk hs19 (hke _ _ hY_this)
  replace hs26 := y_slk hs26 (hke _ _ hY_this)
  replace hs35 := y_slk hs35 (hke _ _ hY_this)
  replace hs42 := y_slk hs42 (hke _ _ hY_this)
  replace hs50 := y_slk hs50 (hke _ _ hY_this)
  replace hs59 := y_slk hs59 (hke _ _ hY_this)
  replace hs68 := y_slk hs68 (hke _ _ hY_this)
  replace hs77 := y_slk hs77 (hke _ _ hY_this)
  replace hs86 := y_slk hs86 (hke _ _ hY_this)
  replace hs95 := y_slk hs95 (hke _ _ hY_this)
  replace hs104 := y_slk hs104 (hke _ _ hY_this)
  replace hA_n8 := hA_n8.kept (hke _ _ hY_n8)
  replace hA_n24 := hA_n24.kept (hke _ _ hY_n24)
  replace hA_n57 := hA_n57.kept (hke _ _ hY_n57)
  replace hY_this := hmo _ _ hY_this
  replace hY_n8 := hmo _ _ hY_n8
  replace hY_n17 := hmo _ _ hY_n17
  replace hY_n24 := hmo _ _ hY_n24
  replace hY_n33 := hmo _ _ hY_n33
  replace hY_n40 := hmo _ _ hY_n40
  replace hY_n48 := hmo _ _ hY_n48
  replace hY_n57 := hmo _ _ hY_n57
  replace hY_n66 := hmo _ _ hY_n66
  replace hY_n75 := hmo _ _ hY_n75
  replace hY_n84 := hmo _ _ hY_n84
  replace hY_n93 := hmo _ _ hY_n93
  replace hY_n102 := hmo _ _ hY_n102
  replace hI := hIn
  clear hIn hmo hke
  clear hct
  refine y_putf X (fw_mF9_254 X.2.2.2.2.1 hnm) hY0 hI hY_this rfl rfl (y_crefA hY_n111 rfl) (by decide +kernel) mF9_d113 fun H sl hI ho hs hk => ?_
  replace hsi_typed := hk _ _ (by decide +kernel) (by decide) hsi_typed
  replace hs_fa := hk _ _ (by decide +kernel) (by decide) hs_fa
  replace hs10 := hk _ _ (by decide +kernel) (by decide) hs10
  replace hs19 := hk _ _ (by decide +kernel) (by decide) hs19
  replace hs26 := hk _ _ (by decide +kernel) (by decide) hs26
  replace hs35 := hk _ _ (by decide +kernel) (by decide) hs35
  replace hs42 := hk _ _ (by decide +kernel) (by decide) hs42
  replace hs50 := hk _ _ (by decide +kernel) (by decide) hs50
  replace hs59 := hk _ _ (by decide +kernel) (by decide) hs59
  replace hs68 := hk _ _ (by decide +kernel) (by decide) hs68
  replace hs77 := hk _ _ (by decide +kernel) (by decide) hs77
  replace hs86 := hk _ _ (by decide +kernel) (by decide) hs86
  replace hs95 := hk _ _ (by decide +kernel) (by decide) hs95
  replace hs104 := hk _ _ (by decide +kernel) (by decide) hs104
  replace hA_n8 := hA_n8.kept (ho _ (y_ne hY_n8 hY_this rfl))
  replace hA_n24 := hA_n24.kept (ho _ (y_ne hY_n24 hY_this rfl))
  replace hA_n57 := hA_n57.kept (ho _ (y_ne hY_n57 hY_this rfl))
  replace hs := hs
  have hs113 := hs
  refine lv_aload_n hx hb mF9_d116 rfl (lv_at hl 0 rfl) ?_
  refine lv_sipush hx hb mF9_d117 (v := 12288) (by decide) ?_
  have ec12288 : (12288 : Int32).toInt = 12288 := by decide
  refine y_newaC (tag := 59) (k := 12288) X hY0 hI rfl rfl (by decide) (hts _ (x_bw67 5 rfl rfl)) (fun Y j => x_dfa (by decide +kernel) Y j) (by decide) (Nat.le_of_ble_eq_true rfl) (Nat.le_of_ble_eq_true rfl) mF9_d120 fun Yn H n120 hnw hct => ?_
  obtain ⟨hIn, hmo, hY_n120, hfr_n120, hke⟩ := hnw
  replace hsi_typed := y_slk hsi_typed (hke _ _ hY_this)
  replace hs_fa := y_slk hs_fa (hke _ _ hY_this)
  replace hs10 := y_slk hs10 (hke _ _ hY_this)
  replace hs19 := y_slk hs19 (hke _ _ hY_this)
  replace hs26 := y_slk hs26 (hke _ _ hY_this)
  replace hs35 := y_slk hs35 (hke _ _ hY_this)
  replace hs42 := y_slk hs42 (hke _ _ hY_this)
  replace hs50 := y_slk hs50 (hke _ _ hY_this)
  replace hs59 := y_slk hs59 (hke _ _ hY_this)
  replace hs68 := y_slk hs68 (hke _ _ hY_this)
  replace hs77 := y_slk hs77 (hke _ _ hY_this)
  replace hs86 := y_slk hs86 (hke _ _ hY_this)
  replace hs95 := y_slk hs95 (hke _ _ hY_this)
  replace hs104 := y_slk hs104 (hke _ _ hY_this)
  replace hs113 := y_slk hs113 (hke _ _ hY_this)
  replace hA_n8 := hA_n8.kept (hke _ _ hY_n8)
  replace hA_n24 := hA_n24.kept (hke _ _ hY_n24)
  replace hA_n57 := hA_n57.kept (hke _ _ hY_n57)
  replace hY_this := hmo _ _ hY_this
  replace hY_n8 := hmo _ _ hY_n8
  replace hY_n17 := hmo _ _ hY_n17
  replace hY_n24 := hmo _ _ hY_n24
  replace hY_n33 := hmo _ _ hY_n33
  replace hY_n40 := hmo _ _ hY_n40
  replace hY_n48 := hmo _ _ hY_n48
  replace hY_n57 := hmo _ _ hY_n57
  replace hY_n66 := hmo _ _ hY_n66
  replace hY_n75 := hmo _ _ hY_n75
  replace hY_n84 := hmo _ _ hY_n84
  replace hY_n93 := hmo _ _ hY_n93
  replace hY_n102 := hmo _ _ hY_n102
  replace hY_n111 := hmo _ _ hY_n111
  replace hI := hIn
  clear hIn hmo hke
  clear hct
  refine y_putf X (fw_mF9_255 X.2.2.2.2.1 hnm) hY0 hI hY_this rfl rfl (y_crefA hY_n120 rfl) (by decide +kernel) mF9_d122 fun H sl hI ho hs hk => ?_
  replace hsi_typed := hk _ _ (by decide +kernel) (by decide) hsi_typed
  replace hs_fa := hk _ _ (by decide +kernel) (by decide) hs_fa
  replace hs10 := hk _ _ (by decide +kernel) (by decide) hs10
  replace hs19 := hk _ _ (by decide +kernel) (by decide) hs19
  replace hs26 := hk _ _ (by decide +kernel) (by decide) hs26
  replace hs35 := hk _ _ (by decide +kernel) (by decide) hs35
  replace hs42 := hk _ _ (by decide +kernel) (by decide) hs42
  replace hs50 := hk _ _ (by decide +kernel) (by decide) hs50
  replace hs59 := hk _ _ (by decide +kernel) (by decide) hs59
  replace hs68 := hk _ _ (by decide +kernel) (by decide) hs68
  replace hs77 := hk _ _ (by decide +kernel) (by decide) hs77
  replace hs86 := hk _ _ (by decide +kernel) (by decide) hs86
  replace hs95 := hk _ _ (by decide +kernel) (by decide) hs95
  replace hs104 := hk _ _ (by decide +kernel) (by decide) hs104
  replace hs113 := hk _ _ (by decide +kernel) (by decide) hs113
  replace hA_n8 := hA_n8.kept (ho _ (y_ne hY_n8 hY_this rfl))
  replace hA_n24 := hA_n24.kept (ho _ (y_ne hY_n24 hY_this rfl))
  replace hA_n57 := hA_n57.kept (ho _ (y_ne hY_n57 hY_this rfl))
  replace hs := hs
  have hs122 := hs
  refine lv_aload_n hx hb mF9_d125 rfl (lv_at hl 0 rfl) ?_
  refine lv_sipush hx hb mF9_d126 (v := 12288) (by decide) ?_
  refine y_newaC (tag := 60) (k := 12288) X hY0 hI rfl rfl (by decide) (hts _ (x_bw67 5 rfl rfl)) (fun Y j => x_dfa (by decide +kernel) Y j) (by decide) (Nat.le_of_ble_eq_true rfl) (Nat.le_of_ble_eq_true rfl) mF9_d129 fun Yn H n129 hnw hct => ?_
  obtain ⟨hIn, hmo, hY_n129, hfr_n129, hke⟩ := hnw
  replace hsi_typed := y_slk hsi_typed (hke _ _ hY_this)
  replace hs_fa := y_slk hs_fa (hke _ _ hY_this)
  replace hs10 := y_slk hs10 (hke _ _ hY_this)
  replace hs19 := y_slk hs19 (hke _ _ hY_this)
  replace hs26 := y_slk hs26 (hke _ _ hY_this)
  replace hs35 := y_slk hs35 (hke _ _ hY_this)
  replace hs42 := y_slk hs42 (hke _ _ hY_this)
  replace hs50 := y_slk hs50 (hke _ _ hY_this)
  replace hs59 := y_slk hs59 (hke _ _ hY_this)
  replace hs68 := y_slk hs68 (hke _ _ hY_this)
  replace hs77 := y_slk hs77 (hke _ _ hY_this)
  replace hs86 := y_slk hs86 (hke _ _ hY_this)
  replace hs95 := y_slk hs95 (hke _ _ hY_this)
  replace hs104 := y_slk hs104 (hke _ _ hY_this)
  replace hs113 := y_slk hs113 (hke _ _ hY_this)
  replace hs122 := y_slk hs122 (hke _ _ hY_this)
  replace hA_n8 := hA_n8.kept (hke _ _ hY_n8)
  replace hA_n24 := hA_n24.kept (hke _ _ hY_n24)
  replace hA_n57 := hA_n57.kept (hke _ _ hY_n57)
  replace hY_this := hmo _ _ hY_this
  replace hY_n8 := hmo _ _ hY_n8
  replace hY_n17 := hmo _ _ hY_n17
  replace hY_n24 := hmo _ _ hY_n24
  replace hY_n33 := hmo _ _ hY_n33
  replace hY_n40 := hmo _ _ hY_n40
  replace hY_n48 := hmo _ _ hY_n48
  replace hY_n57 := hmo _ _ hY_n57
  replace hY_n66 := hmo _ _ hY_n66
  replace hY_n75 := hmo _ _ hY_n75
  replace hY_n84 := hmo _ _ hY_n84
  replace hY_n93 := hmo _ _ hY_n93
  replace hY_n102 := hmo _ _ hY_n102
  replace hY_n111 := hmo _ _ hY_n111
  replace hY_n120 := hmo _ _ hY_n120
  replace hI := hIn
  clear hIn hmo hke
  clear hct
  refine y_putf X (fw_mF9_256 X.2.2.2.2.1 hnm) hY0 hI hY_this rfl rfl (y_crefA hY_n129 rfl) (by decide +kernel) mF9_d131 fun H sl hI ho hs hk => ?_
  replace hsi_typed := hk _ _ (by decide +kernel) (by decide) hsi_typed
  replace hs_fa := hk _ _ (by decide +kernel) (by decide) hs_fa
  replace hs10 := hk _ _ (by decide +kernel) (by decide) hs10
  replace hs19 := hk _ _ (by decide +kernel) (by decide) hs19
  replace hs26 := hk _ _ (by decide +kernel) (by decide) hs26
  replace hs35 := hk _ _ (by decide +kernel) (by decide) hs35
  replace hs42 := hk _ _ (by decide +kernel) (by decide) hs42
  replace hs50 := hk _ _ (by decide +kernel) (by decide) hs50
  replace hs59 := hk _ _ (by decide +kernel) (by decide) hs59
  replace hs68 := hk _ _ (by decide +kernel) (by decide) hs68
  replace hs77 := hk _ _ (by decide +kernel) (by decide) hs77
  replace hs86 := hk _ _ (by decide +kernel) (by decide) hs86
  replace hs95 := hk _ _ (by decide +kernel) (by decide) hs95
  replace hs104 := hk _ _ (by decide +kernel) (by decide) hs104
  replace hs113 := hk _ _ (by decide +kernel) (by decide) hs113
  replace hs122 := hk _ _ (by decide +kernel) (by decide) hs122
  replace hA_n8 := hA_n8.kept (ho _ (y_ne hY_n8 hY_this rfl))
  replace hA_n24 := hA_n24.kept (ho _ (y_ne hY_n24 hY_this rfl))
  replace hA_n57 := hA_n57.kept (ho _ (y_ne hY_n57 hY_this rfl))
  replace hs := hs
  have hs131 := hs
  refine lv_aload_n hx hb mF9_d134 rfl (lv_at hl 0 rfl) ?_
  refine lv_sipush hx hb mF9_d135 (v := 12288) (by decide) ?_
  refine y_newaC (tag := 61) (k := 12288) X hY0 hI rfl rfl (by decide) (hts _ (x_bw67 5 rfl rfl)) (fun Y j => x_dfa (by decide +kernel) Y j) (by decide) (Nat.le_of_ble_eq_true rfl) (Nat.le_of_ble_eq_true rfl) mF9_d138 fun Yn H n138 hnw hct => ?_
  obtain ⟨hIn, hmo, hY_n138, hfr_n138, hke⟩ := hnw
  replace hsi_typed := y_slk hsi_typed (hke _ _ hY_this)
  replace hs_fa := y_slk hs_fa (hke _ _ hY_this)
  replace hs10 := y_slk hs10 (hke _ _ hY_this)
  replace hs19 := y_slk hs19 (hke _ _ hY_this)
  replace hs26 := y_slk hs26 (hke _ _ hY_this)
  replace hs35 := y_slk hs35 (hke _ _ hY_this)
  replace hs42 := y_slk hs42 (hke _ _ hY_this)
  replace hs50 := y_slk hs50 (hke _ _ hY_this)
  replace hs59 := y_slk hs59 (hke _ _ hY_this)
  replace hs68 := y_slk hs68 (hke _ _ hY_this)
  replace hs77 := y_slk hs77 (hke _ _ hY_this)
  replace hs86 := y_slk hs86 (hke _ _ hY_this)
  replace hs95 := y_slk hs95 (hke _ _ hY_this)
  replace hs104 := y_slk hs104 (hke _ _ hY_this)
  replace hs113 := y_slk hs113 (hke _ _ hY_this)
  replace hs122 := y_slk hs122 (hke _ _ hY_this)
  replace hs131 := y_slk hs131 (hke _ _ hY_this)
  replace hA_n8 := hA_n8.kept (hke _ _ hY_n8)
  replace hA_n24 := hA_n24.kept (hke _ _ hY_n24)
  replace hA_n57 := hA_n57.kept (hke _ _ hY_n57)
  replace hY_this := hmo _ _ hY_this
  replace hY_n8 := hmo _ _ hY_n8
  replace hY_n17 := hmo _ _ hY_n17
  replace hY_n24 := hmo _ _ hY_n24
  replace hY_n33 := hmo _ _ hY_n33
  replace hY_n40 := hmo _ _ hY_n40
  replace hY_n48 := hmo _ _ hY_n48
  replace hY_n57 := hmo _ _ hY_n57
  replace hY_n66 := hmo _ _ hY_n66
  replace hY_n75 := hmo _ _ hY_n75
  replace hY_n84 := hmo _ _ hY_n84
  replace hY_n93 := hmo _ _ hY_n93
  replace hY_n102 := hmo _ _ hY_n102
  replace hY_n111 := hmo _ _ hY_n111
  replace hY_n120 := hmo _ _ hY_n120
  replace hY_n129 := hmo _ _ hY_n129
  replace hI := hIn
  clear hIn hmo hke
  clear hct
  refine y_putf X (fw_mF9_257 X.2.2.2.2.1 hnm) hY0 hI hY_this rfl rfl (y_crefA hY_n138 rfl) (by decide +kernel) mF9_d140 fun H sl hI ho hs hk => ?_
  replace hsi_typed := hk _ _ (by decide +kernel) (by decide) hsi_typed
  replace hs_fa := hk _ _ (by decide +kernel) (by decide) hs_fa
  replace hs10 := hk _ _ (by decide +kernel) (by decide) hs10
  replace hs19 := hk _ _ (by decide +kernel) (by decide) hs19
  replace hs26 := hk _ _ (by decide +kernel) (by decide) hs26
  replace hs35 := hk _ _ (by decide +kernel) (by decide) hs35
  replace hs42 := hk _ _ (by decide +kernel) (by decide) hs42
  replace hs50 := hk _ _ (by decide +kernel) (by decide) hs50
  replace hs59 := hk _ _ (by decide +kernel) (by decide) hs59
  replace hs68 := hk _ _ (by decide +kernel) (by decide) hs68
  replace hs77 := hk _ _ (by decide +kernel) (by decide) hs77
  replace hs86 := hk _ _ (by decide +kernel) (by decide) hs86
  replace hs95 := hk _ _ (by decide +kernel) (by decide) hs95
  replace hs104 := hk _ _ (by decide +kernel) (by decide) hs104
  replace hs113 := hk _ _ (by decide +kernel) (by decide) hs113
  replace hs122 := hk _ _ (by decide +kernel) (by decide) hs122
  replace hs131 := hk _ _ (by decide +kernel) (by decide) hs131
  replace hA_n8 := hA_n8.kept (ho _ (y_ne hY_n8 hY_this rfl))
  replace hA_n24 := hA_n24.kept (ho _ (y_ne hY_n24 hY_this rfl))
  replace hA_n57 := hA_n57.kept (ho _ (y_ne hY_n57 hY_this rfl))
  replace hs := hs
  have hs140 := hs
  refine lv_aload_n hx hb mF9_d143 rfl (lv_at hl 0 rfl) ?_
  refine lv_sipush hx hb mF9_d144 (v := 9216) (by decide) ?_
  have ec9216 : (9216 : Int32).toInt = 9216 := by decide
  refine y_newaC (tag := 62) (k := 9216) X hY0 hI rfl rfl (by decide) (hts _ (x_bw5 1 rfl rfl)) (fun Y j => x_dfa (by decide +kernel) Y j) (by decide) (Nat.le_of_ble_eq_true rfl) (Nat.le_of_ble_eq_true rfl) mF9_d147 fun Yn H n147 hnw hct => ?_
  obtain ⟨hIn, hmo, hY_n147, hfr_n147, hke⟩ := hnw
  replace hsi_typed := y_slk hsi_typed (hke _ _ hY_this)
  replace hs_fa := y_slk hs_fa (hke _ _ hY_this)
  replace hs10 := y_slk hs10 (hke _ _ hY_this)
  replace hs19 := y_slk hs19 (hke _ _ hY_this)
  replace hs26 := y_slk hs26 (hke _ _ hY_this)
  replace hs35 := y_slk hs35 (hke _ _ hY_this)
  replace hs42 := y_slk hs42 (hke _ _ hY_this)
  replace hs50 := y_slk hs50 (hke _ _ hY_this)
  replace hs59 := y_slk hs59 (hke _ _ hY_this)
  replace hs68 := y_slk hs68 (hke _ _ hY_this)
  replace hs77 := y_slk hs77 (hke _ _ hY_this)
  replace hs86 := y_slk hs86 (hke _ _ hY_this)
  replace hs95 := y_slk hs95 (hke _ _ hY_this)
  replace hs104 := y_slk hs104 (hke _ _ hY_this)
  replace hs113 := y_slk hs113 (hke _ _ hY_this)
  replace hs122 := y_slk hs122 (hke _ _ hY_this)
  replace hs131 := y_slk hs131 (hke _ _ hY_this)
  replace hs140 := y_slk hs140 (hke _ _ hY_this)
  replace hA_n8 := hA_n8.kept (hke _ _ hY_n8)
  replace hA_n24 := hA_n24.kept (hke _ _ hY_n24)
  replace hA_n57 := hA_n57.kept (hke _ _ hY_n57)
  replace hY_this := hmo _ _ hY_this
  replace hY_n8 := hmo _ _ hY_n8
  replace hY_n17 := hmo _ _ hY_n17
  replace hY_n24 := hmo _ _ hY_n24
  replace hY_n33 := hmo _ _ hY_n33
  replace hY_n40 := hmo _ _ hY_n40
  replace hY_n48 := hmo _ _ hY_n48
  replace hY_n57 := hmo _ _ hY_n57
  replace hY_n66 := hmo _ _ hY_n66
  replace hY_n75 := hmo _ _ hY_n75
  replace hY_n84 := hmo _ _ hY_n84
  replace hY_n93 := hmo _ _ hY_n93
  replace hY_n102 := hmo _ _ hY_n102
  replace hY_n111 := hmo _ _ hY_n111
  replace hY_n120 := hmo _ _ hY_n120
  replace hY_n129 := hmo _ _ hY_n129
  replace hY_n138 := hmo _ _ hY_n138
  replace hI := hIn
  clear hIn hmo hke
  clear hct
  refine y_putf X (fw_mF9_258 X.2.2.2.2.1 hnm) hY0 hI hY_this rfl rfl (y_crefA hY_n147 rfl) (by decide +kernel) mF9_d149 fun H sl hI ho hs hk => ?_
  replace hsi_typed := hk _ _ (by decide +kernel) (by decide) hsi_typed
  replace hs_fa := hk _ _ (by decide +kernel) (by decide) hs_fa
  replace hs10 := hk _ _ (by decide +kernel) (by decide) hs10
  replace hs19 := hk _ _ (by decide +kernel) (by decide) hs19
  replace hs26 := hk _ _ (by decide +kernel) (by decide) hs26
  replace hs35 := hk _ _ (by decide +kernel) (by decide) hs35
  replace hs42 := hk _ _ (by decide +kernel) (by decide) hs42
  replace hs50 := hk _ _ (by decide +kernel) (by decide) hs50
  replace hs59 := hk _ _ (by decide +kernel) (by decide) hs59
  replace hs68 := hk _ _ (by decide +kernel) (by decide) hs68
  replace hs77 := hk _ _ (by decide +kernel) (by decide) hs77
  replace hs86 := hk _ _ (by decide +kernel) (by decide) hs86
  replace hs95 := hk _ _ (by decide +kernel) (by decide) hs95
  replace hs104 := hk _ _ (by decide +kernel) (by decide) hs104
  replace hs113 := hk _ _ (by decide +kernel) (by decide) hs113
  replace hs122 := hk _ _ (by decide +kernel) (by decide) hs122
  replace hs131 := hk _ _ (by decide +kernel) (by decide) hs131
  replace hs140 := hk _ _ (by decide +kernel) (by decide) hs140
  replace hA_n8 := hA_n8.kept (ho _ (y_ne hY_n8 hY_this rfl))
  replace hA_n24 := hA_n24.kept (ho _ (y_ne hY_n24 hY_this rfl))
  replace hA_n57 := hA_n57.kept (ho _ (y_ne hY_n57 hY_this rfl))
  replace hs := hs
  have hs149 := hs
  refine lv_aload_n hx hb mF9_d152 rfl (lv_at hl 0 rfl) ?_
  refine lv_sipush hx hb mF9_d153 (v := 9216) (by decide) ?_
  refine y_newaC (tag := 63) (k := 9216) X hY0 hI rfl rfl (by decide) (hts _ (x_bw5 1 rfl rfl)) (fun Y j => x_dfa (by decide +kernel) Y j) (by decide) (Nat.le_of_ble_eq_true rfl) (Nat.le_of_ble_eq_true rfl) mF9_d156 fun Yn H n156 hnw hct => ?_
  obtain ⟨hIn, hmo, hY_n156, hfr_n156, hke⟩ := hnw
  replace hsi_typed := y_slk hsi_typed (hke _ _ hY_this)
  replace hs_fa := y_slk hs_fa (hke _ _ hY_this)
  replace hs10 := y_slk hs10 (hke _ _ hY_this)
  replace hs19 := y_slk hs19 (hke _ _ hY_this)
  replace hs26 := y_slk hs26 (hke _ _ hY_this)
  replace hs35 := y_slk hs35 (hke _ _ hY_this)
  replace hs42 := y_slk hs42 (hke _ _ hY_this)
  replace hs50 := y_slk hs50 (hke _ _ hY_this)
  replace hs59 := y_slk hs59 (hke _ _ hY_this)
  replace hs68 := y_slk hs68 (hke _ _ hY_this)
  replace hs77 := y_slk hs77 (hke _ _ hY_this)
  replace hs86 := y_slk hs86 (hke _ _ hY_this)
  replace hs95 := y_slk hs95 (hke _ _ hY_this)
  replace hs104 := y_slk hs104 (hke _ _ hY_this)
  replace hs113 := y_slk hs113 (hke _ _ hY_this)
  replace hs122 := y_slk hs122 (hke _ _ hY_this)
  replace hs131 := y_slk hs131 (hke _ _ hY_this)
  replace hs140 := y_slk hs140 (hke _ _ hY_this)
  replace hs149 := y_slk hs149 (hke _ _ hY_this)
  replace hA_n8 := hA_n8.kept (hke _ _ hY_n8)
  replace hA_n24 := hA_n24.kept (hke _ _ hY_n24)
  replace hA_n57 := hA_n57.kept (hke _ _ hY_n57)
  replace hY_this := hmo _ _ hY_this
  replace hY_n8 := hmo _ _ hY_n8
  replace hY_n17 := hmo _ _ hY_n17
  replace hY_n24 := hmo _ _ hY_n24
  replace hY_n33 := hmo _ _ hY_n33
  replace hY_n40 := hmo _ _ hY_n40
  replace hY_n48 := hmo _ _ hY_n48
  replace hY_n57 := hmo _ _ hY_n57
  replace hY_n66 := hmo _ _ hY_n66
  replace hY_n75 := hmo _ _ hY_n75
  replace hY_n84 := hmo _ _ hY_n84
  replace hY_n93 := hmo _ _ hY_n93
  replace hY_n102 := hmo _ _ hY_n102
  replace hY_n111 := hmo _ _ hY_n111
  replace hY_n120 := hmo _ _ hY_n120
  replace hY_n129 := hmo _ _ hY_n129
  replace hY_n138 := hmo _ _ hY_n138
  replace hY_n147 := hmo _ _ hY_n147
  replace hI := hIn
  clear hIn hmo hke
  clear hct
  refine y_putf X (fw_mF9_259 X.2.2.2.2.1 hnm) hY0 hI hY_this rfl rfl (y_crefA hY_n156 rfl) (by decide +kernel) mF9_d158 fun H sl hI ho hs hk => ?_
  replace hsi_typed := hk _ _ (by decide +kernel) (by decide) hsi_typed
  replace hs_fa := hk _ _ (by decide +kernel) (by decide) hs_fa
  replace hs10 := hk _ _ (by decide +kernel) (by decide) hs10
  replace hs19 := hk _ _ (by decide +kernel) (by decide) hs19
  replace hs26 := hk _ _ (by decide +kernel) (by decide) hs26
  replace hs35 := hk _ _ (by decide +kernel) (by decide) hs35
  replace hs42 := hk _ _ (by decide +kernel) (by decide) hs42
  replace hs50 := hk _ _ (by decide +kernel) (by decide) hs50
  replace hs59 := hk _ _ (by decide +kernel) (by decide) hs59
  replace hs68 := hk _ _ (by decide +kernel) (by decide) hs68
  replace hs77 := hk _ _ (by decide +kernel) (by decide) hs77
  replace hs86 := hk _ _ (by decide +kernel) (by decide) hs86
  replace hs95 := hk _ _ (by decide +kernel) (by decide) hs95
  replace hs104 := hk _ _ (by decide +kernel) (by decide) hs104
  replace hs113 := hk _ _ (by decide +kernel) (by decide) hs113
  replace hs122 := hk _ _ (by decide +kernel) (by decide) hs122
  replace hs131 := hk _ _ (by decide +kernel) (by decide) hs131
  replace hs140 := hk _ _ (by decide +kernel) (by decide) hs140
  replace hs149 := hk _ _ (by decide +kernel) (by decide) hs149
  replace hA_n8 := hA_n8.kept (ho _ (y_ne hY_n8 hY_this rfl))
  replace hA_n24 := hA_n24.kept (ho _ (y_ne hY_n24 hY_this rfl))
  replace hA_n57 := hA_n57.kept (ho _ (y_ne hY_n57 hY_this rfl))
  replace hs := hs
  have hs158 := hs
  refine lv_aload_n hx hb mF9_d161 rfl (lv_at hl 0 rfl) ?_
  refine y_call (z := (0, 65, 1, some 18, xMbr)) (av := [.ref this]) (rest := []) (y_cokV (n := 0) (ci := 12) X ym_begRawX rfl rfl rfl (x_cons (x_bw61 15 rfl rfl) (x_cons (x_bw62 1 rfl rfl) (x_cons (x_at 30 (by decide +kernel) rfl) (x_cons (x_bw0 9 rfl rfl) x_nilm)))) (x_bw62 2 rfl rfl) (by decide +kernel) ⟨Nat.le_of_ble_eq_true rfl, Nat.le_of_ble_eq_true rfl⟩) hY0 hI rfl mF9_d162 hl.1 (Nat.le_of_ble_eq_true rfl) (Nat.le_of_ble_eq_true rfl) (Nat.le_of_ble_eq_true rfl) (y_cons (y_cref hY_this rfl) y_nil) rfl (y_recv rfl hY_this) (fun this' h1 => by cases h1; exact ⟨n8, hs10, hY_n8⟩) (y_sub_ef rfl) fun v Yn o Hn L ho hr ha hIn hx_ hE hP => ?_
  have hb2 := hP _ _ (fun _ => 0) rfl hs10 (fun _ _ => rfl) hA_n8
  replace hsi_typed := y_Efld hE hY_this rfl (by decide) (by decide) hsi_typed
  replace hs_fa := y_Efld hE hY_this rfl (by decide) (by decide) hs_fa
  replace hs10 := y_Efld hE hY_this rfl (by decide) (by decide) hs10
  replace hs19 := y_Efld hE hY_this rfl (by decide) (by decide) hs19
  replace hs26 := y_Efld hE hY_this rfl (by decide) (by decide) hs26
  replace hs35 := y_Efld hE hY_this rfl (by decide) (by decide) hs35
  replace hs42 := y_Efld hE hY_this rfl (by decide) (by decide) hs42
  replace hs50 := y_Efld hE hY_this rfl (by decide) (by decide) hs50
  replace hs59 := y_Efld hE hY_this rfl (by decide) (by decide) hs59
  replace hs68 := y_Efld hE hY_this rfl (by decide) (by decide) hs68
  replace hs77 := y_Efld hE hY_this rfl (by decide) (by decide) hs77
  replace hs86 := y_Efld hE hY_this rfl (by decide) (by decide) hs86
  replace hs95 := y_Efld hE hY_this rfl (by decide) (by decide) hs95
  replace hs104 := y_Efld hE hY_this rfl (by decide) (by decide) hs104
  replace hs113 := y_Efld hE hY_this rfl (by decide) (by decide) hs113
  replace hs122 := y_Efld hE hY_this rfl (by decide) (by decide) hs122
  replace hs131 := y_Efld hE hY_this rfl (by decide) (by decide) hs131
  replace hs140 := y_Efld hE hY_this rfl (by decide) (by decide) hs140
  replace hs149 := y_Efld hE hY_this rfl (by decide) (by decide) hs149
  replace hs158 := y_Efld hE hY_this rfl (by decide) (by decide) hs158
  replace hA_n24 := hA_n24.kept (y_Earr hE hY_n24 rfl (by decide))
  replace hA_n57 := hA_n57.kept (y_Earr hE hY_n57 rfl (by decide))
  replace hY_this := y_ext hx_ hI.1 hY_this
  replace hY_n8 := y_ext hx_ hI.1 hY_n8
  replace hY_n17 := y_ext hx_ hI.1 hY_n17
  replace hY_n24 := y_ext hx_ hI.1 hY_n24
  replace hY_n33 := y_ext hx_ hI.1 hY_n33
  replace hY_n40 := y_ext hx_ hI.1 hY_n40
  replace hY_n48 := y_ext hx_ hI.1 hY_n48
  replace hY_n57 := y_ext hx_ hI.1 hY_n57
  replace hY_n66 := y_ext hx_ hI.1 hY_n66
  replace hY_n75 := y_ext hx_ hI.1 hY_n75
  replace hY_n84 := y_ext hx_ hI.1 hY_n84
  replace hY_n93 := y_ext hx_ hI.1 hY_n93
  replace hY_n102 := y_ext hx_ hI.1 hY_n102
  replace hY_n111 := y_ext hx_ hI.1 hY_n111
  replace hY_n120 := y_ext hx_ hI.1 hY_n120
  replace hY_n129 := y_ext hx_ hI.1 hY_n129
  replace hY_n138 := y_ext hx_ hI.1 hY_n138
  replace hY_n147 := y_ext hx_ hI.1 hY_n147
  replace hY_n156 := y_ext hx_ hI.1 hY_n156
  obtain rfl := y_ansV rfl ho hr
  have hA_n8 := hb2
  clear ho hr ha hE hP hI hx_
  rename x_I _ _ _ _ _ _ _ _ _ _ => hI
  refine lv_aload_n hx hb mF9_d165 rfl (lv_at hl 0 rfl) ?_
  refine y_getf X (fl_mF9_241 X.2.2.2.2.1) hI.1 hY_this rfl hs10 mF9_d166 ?_
  refine lv_bipush hx hb mF9_d169 (v := 7) (by decide) ?_
  have ec7 : (7 : Int32).toInt = 7 := by decide
  refine lv_bipush hx hb mF9_d171 (v := 9) (by decide) ?_
  have ec9 : (9 : Int32).toInt = 9 := by decide
  refine y_iast X hY0 hI hY_n8 rfl hA_n8 (by omega) (by show _ < (160 : Int); omega) (by show x_c _ (xF) _; exact ⟨_, rfl, by decide, by decide⟩) (by decide +kernel) mF9_d173 fun H locs hI h_new ho => ?_
  replace hA_n8 := h_new
  generalize hf_f173 : y_up (m_beg (fun _ => 0)) (7 : Int32).toInt.toNat (9 : Int32) = f173 at hA_n8
  replace hsi_typed := y_slk hsi_typed (ho _ (y_ne hY_this hY_n8 rfl))
  replace hs_fa := y_slk hs_fa (ho _ (y_ne hY_this hY_n8 rfl))
  replace hs10 := y_slk hs10 (ho _ (y_ne hY_this hY_n8 rfl))
  replace hs19 := y_slk hs19 (ho _ (y_ne hY_this hY_n8 rfl))
  replace hs26 := y_slk hs26 (ho _ (y_ne hY_this hY_n8 rfl))
  replace hs35 := y_slk hs35 (ho _ (y_ne hY_this hY_n8 rfl))
  replace hs42 := y_slk hs42 (ho _ (y_ne hY_this hY_n8 rfl))
  replace hs50 := y_slk hs50 (ho _ (y_ne hY_this hY_n8 rfl))
  replace hs59 := y_slk hs59 (ho _ (y_ne hY_this hY_n8 rfl))
  replace hs68 := y_slk hs68 (ho _ (y_ne hY_this hY_n8 rfl))
  replace hs77 := y_slk hs77 (ho _ (y_ne hY_this hY_n8 rfl))
  replace hs86 := y_slk hs86 (ho _ (y_ne hY_this hY_n8 rfl))
  replace hs95 := y_slk hs95 (ho _ (y_ne hY_this hY_n8 rfl))
  replace hs104 := y_slk hs104 (ho _ (y_ne hY_this hY_n8 rfl))
  replace hs113 := y_slk hs113 (ho _ (y_ne hY_this hY_n8 rfl))
  replace hs122 := y_slk hs122 (ho _ (y_ne hY_this hY_n8 rfl))
  replace hs131 := y_slk hs131 (ho _ (y_ne hY_this hY_n8 rfl))
  replace hs140 := y_slk hs140 (ho _ (y_ne hY_this hY_n8 rfl))
  replace hs149 := y_slk hs149 (ho _ (y_ne hY_this hY_n8 rfl))
  replace hs158 := y_slk hs158 (ho _ (y_ne hY_this hY_n8 rfl))
  replace hA_n24 := hA_n24.kept (ho _ (y_ne hY_n24 hY_n8 rfl))
  replace hA_n57 := hA_n57.kept (ho _ (y_ne hY_n57 hY_n8 rfl))
  refine lv_iconst hx hb mF9_d174 (v := 0) (by decide) ?_
  have ec0 : (0 : Int32).toInt = 0 := by decide
  refine lv_istore_n hx hb mF9_d175 rfl hl (by decide) (lv' := [(1, .int (0 : Int32)), (0, .ref this)]) rfl fun ls hl => ?_
  have hs_n8 := hs10
  have hs_n17 := hs19
  have hs_n24 := hs26
  have hs_n33 := hs35
  have hs_n40 := hs42
  have hs_n48 := hs50
  have hs_n57 := hs59
  have hs_n66 := hs68
  have hs_n75 := hs77
  have hs_n84 := hs86
  have hs_n93 := hs95
  have hs_n102 := hs104
  have hs_n111 := hs113
  have hs_n120 := hs122
  have hs_n129 := hs131
  have hs_n138 := hs140
  have hs_n147 := hs149
  have hs_n156 := hs158
  have hA_n8 := hA_n8
  exact mF9_L176 B rfl 13 _ _ _ _ _ _ hI hY_this hY_n8 hY_n17 hY_n24 hY_n33 hY_n40 hY_n48 hY_n57 hY_n66 hY_n75 hY_n84 hY_n93 hY_n102 hY_n111 hY_n120 hY_n129 hY_n138 hY_n147 hY_n156 hs_n8 hs_n17 hs_n24 hs_n33 hs_n40 hs_n48 hs_n57 hs_n66 hs_n75 hs_n84 hs_n93 hs_n102 hs_n111 hs_n120 hs_n129 hs_n138 hs_n147 hs_n156 hsi_typed hA_n8 hA_n24 hA_n57 hs_fa (lv_sub hl [0, 1] rfl) (by first | assumption | omega) (by rw [← hf_f173, show (7 : Int32).toInt.toNat = 7 by decide]; exact m_rowi0) (by omega)

