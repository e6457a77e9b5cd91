theorem fl_l8_240 {s : State} {args : Array Value} (hts : ∀ w ∈ x_Tb, w.before args s = true) : x_fok vwCl x_G x_Tb s args "TwinFires$Land" (29, 3, 7) := ⟨2, _, RX2, TX2, "TwinFires$Land", rfl, rfl, Nat.le_of_ble_eq_true rfl, iX2, (hts _ (x_at 166 (by decide +kernel) rfl)), fun x h => h⟩
theorem fw_l8_241 {s : State} {args : Array Value} {mn : String} (hts : ∀ w ∈ x_Tb, w.before args s = true) (hn : mn = "<init>") : x_pok vwCl x_G x_Tb s args "TwinFires$Land" mn (9, 3, 1) := ⟨2, _, RX2, TX2, "TwinFires$Land", tyX2, _, rfl, rfl, Nat.le_of_ble_eq_true rfl, iX2, (hts _ (x_at 150 (by decide +kernel) rfl)), fun x h => h, tyX2_ok, nmX2, rfl, x_fitA1 _ _, Or.inr ⟨rfl, hn, rfl⟩⟩
theorem fw_l8_242 {s : State} {args : Array Value} {mn : String} (hts : ∀ w ∈ x_Tb, w.before args s = true) (hn : mn = "<init>") : x_pok vwCl x_G x_Tb s args "TwinFires$Land" mn (15, 3, 2) := ⟨2, _, RX2, TX2, "TwinFires$Land", tyX2, _, rfl, rfl, Nat.le_of_ble_eq_true rfl, iX2, (hts _ (x_at 153 (by decide +kernel) rfl)), fun x h => h, tyX2_ok, nmX2, rfl, x_fitA1 _ _, Or.inr ⟨rfl, hn, rfl⟩⟩
theorem fw_l8_243 {s : State} {args : Array Value} {mn : String} (hts : ∀ w ∈ x_Tb, w.before args s = true) (hn : mn = "<init>") : x_pok vwCl x_G x_Tb s args "TwinFires$Land" mn (18, 3, 3) := ⟨2, _, RX2, TX2, "TwinFires$Land", tyX2, _, rfl, rfl, Nat.le_of_ble_eq_true rfl, iX2, (hts _ (x_at 156 (by decide +kernel) rfl)), fun x h => h, tyX2_ok, nmX2, rfl, x_fitA1 _ _, Or.inr ⟨rfl, hn, rfl⟩⟩
theorem fw_l8_244 {s : State} {args : Array Value} {mn : String} (hts : ∀ w ∈ x_Tb, w.before args s = true) (hn : mn = "<init>") : x_pok vwCl x_G x_Tb s args "TwinFires$Land" mn (21, 3, 4) := ⟨2, _, RX2, TX2, "TwinFires$Land", tyX2, _, rfl, rfl, Nat.le_of_ble_eq_true rfl, iX2, (hts _ (x_at 159 (by decide +kernel) rfl)), fun x h => h, tyX2_ok, nmX2, rfl, x_fitA1 _ _, Or.inr ⟨rfl, hn, rfl⟩⟩
theorem fw_l8_245 {s : State} {args : Array Value} {mn : String} (hts : ∀ w ∈ x_Tb, w.before args s = true) (hn : mn = "<init>") : x_pok vwCl x_G x_Tb s args "TwinFires$Land" mn (24, 3, 5) := ⟨2, _, RX2, TX2, "TwinFires$Land", tyX2, _, rfl, rfl, Nat.le_of_ble_eq_true rfl, iX2, (hts _ (x_at 161 (by decide +kernel) rfl)), fun x h => h, tyX2_ok, nmX2, rfl, x_fitA1 _ _, Or.inr ⟨rfl, hn, rfl⟩⟩
theorem fw_l8_246 {s : State} {args : Array Value} {mn : String} (hts : ∀ w ∈ x_Tb, w.before args s = true) (hn : mn = "<init>") : x_pok vwCl x_G x_Tb s args "TwinFires$Land" mn (29, 3, 7) := ⟨2, _, RX2, TX2, "TwinFires$Land", tyX2, _, rfl, rfl, Nat.le_of_ble_eq_true rfl, iX2, (hts _ (x_at 166 (by decide +kernel) rfl)), fun x h => h, tyX2_ok, nmX2, rfl, x_fitA1 _ _, Or.inr ⟨rfl, hn, rfl⟩⟩
theorem fw_l8_247 {s : State} {args : Array Value} {mn : String} (hts : ∀ w ∈ x_Tb, w.before args s = true) (hn : mn = "<init>") : x_pok vwCl x_G x_Tb s args "TwinFires$Land" mn (33, 3, 8) := ⟨2, _, RX2, TX2, "TwinFires$Land", tyX2, _, rfl, rfl, Nat.le_of_ble_eq_true rfl, iX2, (hts _ (x_at 169 (by decide +kernel) rfl)), fun x h => h, tyX2_ok, nmX2, rfl, x_fitA1 _ _, Or.inr ⟨rfl, hn, rfl⟩⟩
theorem fw_l8_248 {s : State} {args : Array Value} {mn : String} (hts : ∀ w ∈ x_Tb, w.before args s = true) (hn : mn = "<init>") : x_pok vwCl x_G x_Tb s args "TwinFires$Land" mn (36, 3, 9) := ⟨2, _, RX2, TX2, "TwinFires$Land", tyX2, _, rfl, rfl, Nat.le_of_ble_eq_true rfl, iX2, (hts _ (x_at 172 (by decide +kernel) rfl)), fun x h => h, tyX2_ok, nmX2, rfl, x_fitA1 _ _, Or.inr ⟨rfl, hn, rfl⟩⟩
theorem fw_l8_249 {s : State} {args : Array Value} {mn : String} (hts : ∀ w ∈ x_Tb, w.before args s = true) (hn : mn = "<init>") : x_pok vwCl x_G x_Tb s args "TwinFires$Land" mn (39, 3, 10) := ⟨2, _, RX2, TX2, "TwinFires$Land", tyX2, _, rfl, rfl, Nat.le_of_ble_eq_true rfl, iX2, (hts _ (x_at 174 (by decide +kernel) rfl)), fun x h => h, tyX2_ok, nmX2, rfl, x_fitA1 _ _, Or.inr ⟨rfl, hn, rfl⟩⟩
theorem fw_l8_250 {s : State} {args : Array Value} {mn : String} (hts : ∀ w ∈ x_Tb, w.before args s = true) (hn : mn = "<init>") : x_pok vwCl x_G x_Tb s args "TwinFires$Land" mn (42, 3, 11) := ⟨2, _, RX2, TX2, "TwinFires$Land", tyX2, _, rfl, rfl, Nat.le_of_ble_eq_true rfl, iX2, (hts _ (x_at 178 (by decide +kernel) rfl)), fun x h => h, tyX2_ok, nmX2, rfl, x_fitA1 _ _, Or.inr ⟨rfl, hn, rfl⟩⟩
theorem fw_l8_251 {s : State} {args : Array Value} {mn : String} (hts : ∀ w ∈ x_Tb, w.before args s = true) (hn : mn = "<init>") : x_pok vwCl x_G x_Tb s args "TwinFires$Land" mn (45, 3, 13) := ⟨2, _, RX2, TX2, "TwinFires$Land", tyX2, _, rfl, rfl, Nat.le_of_ble_eq_true rfl, iX2, (hts _ (x_at 184 (by decide +kernel) rfl)), fun x h => h, tyX2_ok, nmX2, rfl, x_fitA1 _ _, Or.inr ⟨rfl, hn, rfl⟩⟩
theorem fw_l8_252 {s : State} {args : Array Value} {mn : String} (hts : ∀ w ∈ x_Tb, w.before args s = true) (hn : mn = "<init>") : x_pok vwCl x_G x_Tb s args "TwinFires$Land" mn (48, 3, 14) := ⟨2, _, RX2, TX2, "TwinFires$Land", tyX2, _, rfl, rfl, Nat.le_of_ble_eq_true rfl, iX2, (hts _ (x_at 187 (by decide +kernel) rfl)), fun x h => h, tyX2_ok, nmX2, rfl, x_fitA1 _ _, Or.inr ⟨rfl, hn, rfl⟩⟩
theorem fw_l8_253 {s : State} {args : Array Value} {mn : String} (hts : ∀ w ∈ x_Tb, w.before args s = true) (hn : mn = "<init>") : x_pok vwCl x_G x_Tb s args "TwinFires$Land" mn (51, 3, 15) := ⟨2, _, RX2, TX2, "TwinFires$Land", tyX2, _, rfl, rfl, Nat.le_of_ble_eq_true rfl, iX2, (hts _ (x_at 189 (by decide +kernel) rfl)), fun x h => h, tyX2_ok, nmX2, rfl, x_fitA1 _ _, Or.inr ⟨rfl, hn, rfl⟩⟩
theorem fl_l8_254 {s : State} {args : Array Value} (hts : ∀ w ∈ x_Tb, w.before args s = true) : x_fok vwCl x_G x_Tb s args "TwinFires$Land" (39, 3, 10) := ⟨2, _, RX2, TX2, "TwinFires$Land", rfl, rfl, Nat.le_of_ble_eq_true rfl, iX2, (hts _ (x_at 174 (by decide +kernel) rfl)), fun x h => h⟩
theorem fl_l8_255 {s : State} {args : Array Value} (hts : ∀ w ∈ x_Tb, w.before args s = true) : x_fok vwCl x_G x_Tb s args "TwinFires$Land" (48, 3, 14) := ⟨2, _, RX2, TX2, "TwinFires$Land", rfl, rfl, Nat.le_of_ble_eq_true rfl, iX2, (hts _ (x_at 187 (by decide +kernel) rfl)), fun x h => h⟩
theorem fl_tz_256 {s : State} {args : Array Value} (hts : ∀ w ∈ x_Tb, w.before args s = true) : x_fok vwCl x_G x_Tb s args "TwinFires" (16, 0, 1) := ⟨11, _, RX11, TX11, "TwinFires", rfl, rfl, Nat.le_of_ble_eq_true rfl, iX11, (hts _ (x_at 330 (by decide +kernel) rfl)), fun x h => h⟩
theorem fw_tz_257 {s : State} {args : Array Value} {mn : String} (hts : ∀ w ∈ x_Tb, w.before args s = true) : x_pok vwCl x_G x_Tb s args "TwinFires" mn (12, 0, 0) := ⟨11, _, RX11, TX11, "TwinFires", tyX11, _, rfl, rfl, Nat.le_of_ble_eq_true rfl, iX11, (hts _ (x_at 329 (by decide +kernel) rfl)), fun x h => h, tyX11_ok, nmX11, rfl, x_fitO _ _, Or.inl rfl⟩
theorem fw_tz_258 {s : State} {args : Array Value} {mn : String} (hts : ∀ w ∈ x_Tb, w.before args s = true) : x_pok vwCl x_G x_Tb s args "TwinFires" mn (16, 0, 1) := ⟨11, _, RX11, TX11, "TwinFires", tyX11, _, rfl, rfl, Nat.le_of_ble_eq_true rfl, iX11, (hts _ (x_at 330 (by decide +kernel) rfl)), fun x h => h, tyX11_ok, nmX11, rfl, x_fitO _ _, Or.inl rfl⟩
theorem fl_tz_259 {s : State} {args : Array Value} (hts : ∀ w ∈ x_Tb, w.before args s = true) : x_fok vwCl x_G x_Tb s args "TwinFires" (162, 4, 1) := ⟨7, _, RX7, TX7, "TwinFires$Text", rfl, rfl, Nat.le_of_ble_eq_true rfl, iX7, (hts _ (x_at 233 (by decide +kernel) rfl)), fun x h => h⟩
theorem l8_d0 : decode xMli.2.1 0 = .ok (.aload_n 0, 1) := by decide +kernel
theorem l8_d1 : decode xMli.2.1 1 = .ok (.invokespecial 3, 3) := by decide +kernel
theorem l8_d4 : decode xMli.2.1 4 = .ok (.aload_n 0, 1) := by decide +kernel
theorem l8_d5 : decode xMli.2.1 5 = .ok (.bipush 10, 2) := by decide +kernel
theorem l8_d7 : decode xMli.2.1 7 = .ok (.newarray .int, 2) := by decide +kernel
theorem l8_d9 : decode xMli.2.1 9 = .ok (.putfield 9, 3) := by decide +kernel
theorem l8_d12 : decode xMli.2.1 12 = .ok (.aload_n 0, 1) := by decide +kernel
theorem l8_d13 : decode xMli.2.1 13 = .ok (.bipush 10, 2) := by decide +kernel
theorem l8_d15 : decode xMli.2.1 15 = .ok (.newarray .int, 2) := by decide +kernel
theorem l8_d17 : decode xMli.2.1 17 = .ok (.putfield 15, 3) := by decide +kernel
theorem l8_d20 : decode xMli.2.1 20 = .ok (.aload_n 0, 1) := by decide +kernel
theorem l8_d21 : decode xMli.2.1 21 = .ok (.bipush 10, 2) := by decide +kernel
theorem l8_d23 : decode xMli.2.1 23 = .ok (.newarray .int, 2) := by decide +kernel
theorem l8_d25 : decode xMli.2.1 25 = .ok (.putfield 18, 3) := by decide +kernel
theorem l8_d28 : decode xMli.2.1 28 = .ok (.aload_n 0, 1) := by decide +kernel
theorem l8_d29 : decode xMli.2.1 29 = .ok (.bipush 10, 2) := by decide +kernel
theorem l8_d31 : decode xMli.2.1 31 = .ok (.newarray .int, 2) := by decide +kernel
theorem l8_d33 : decode xMli.2.1 33 = .ok (.putfield 21, 3) := by decide +kernel
theorem l8_d36 : decode xMli.2.1 36 = .ok (.aload_n 0, 1) := by decide +kernel
theorem l8_d37 : decode xMli.2.1 37 = .ok (.bipush 10, 2) := by decide +kernel
theorem l8_d39 : decode xMli.2.1 39 = .ok (.newarray .int, 2) := by decide +kernel
theorem l8_d41 : decode xMli.2.1 41 = .ok (.putfield 24, 3) := by decide +kernel
theorem l8_d44 : decode xMli.2.1 44 = .ok (.aload_n 0, 1) := by decide +kernel
theorem l8_d45 : decode xMli.2.1 45 = .ok (.bipush 8, 2) := by decide +kernel
theorem l8_d47 : decode xMli.2.1 47 = .ok (.anewarray 27, 3) := by decide +kernel
theorem l8_d50 : decode xMli.2.1 50 = .ok (.putfield 29, 3) := by decide +kernel
theorem l8_d53 : decode xMli.2.1 53 = .ok (.aload_n 0, 1) := by decide +kernel
theorem l8_d54 : decode xMli.2.1 54 = .ok (.bipush 8, 2) := by decide +kernel
theorem l8_d56 : decode xMli.2.1 56 = .ok (.newarray .int, 2) := by decide +kernel
theorem l8_d58 : decode xMli.2.1 58 = .ok (.putfield 33, 3) := by decide +kernel
theorem l8_d61 : decode xMli.2.1 61 = .ok (.aload_n 0, 1) := by decide +kernel
theorem l8_d62 : decode xMli.2.1 62 = .ok (.bipush 8, 2) := by decide +kernel
theorem l8_d64 : decode xMli.2.1 64 = .ok (.newarray .int, 2) := by decide +kernel
theorem l8_d66 : decode xMli.2.1 66 = .ok (.putfield 36, 3) := by decide +kernel
theorem l8_d69 : decode xMli.2.1 69 = .ok (.aload_n 0, 1) := by decide +kernel
theorem l8_d70 : decode xMli.2.1 70 = .ok (.iconst 4, 1) := by decide +kernel
theorem l8_d71 : decode xMli.2.1 71 = .ok (.newarray .int, 2) := by decide +kernel
theorem l8_d73 : decode xMli.2.1 73 = .ok (.putfield 39, 3) := by decide +kernel
theorem l8_d76 : decode xMli.2.1 76 = .ok (.aload_n 0, 1) := by decide +kernel
theorem l8_d77 : decode xMli.2.1 77 = .ok (.bipush 12, 2) := by decide +kernel
theorem l8_d79 : decode xMli.2.1 79 = .ok (.newarray .int, 2) := by decide +kernel
theorem l8_d81 : decode xMli.2.1 81 = .ok (.putfield 42, 3) := by decide +kernel
theorem l8_d84 : decode xMli.2.1 84 = .ok (.aload_n 0, 1) := by decide +kernel
theorem l8_d85 : decode xMli.2.1 85 = .ok (.bipush 8, 2) := by decide +kernel
theorem l8_d87 : decode xMli.2.1 87 = .ok (.newarray .int, 2) := by decide +kernel
theorem l8_d89 : decode xMli.2.1 89 = .ok (.putfield 45, 3) := by decide +kernel
theorem l8_d92 : decode xMli.2.1 92 = .ok (.aload_n 0, 1) := by decide +kernel
theorem l8_d93 : decode xMli.2.1 93 = .ok (.bipush 12, 2) := by decide +kernel
theorem l8_d95 : decode xMli.2.1 95 = .ok (.newarray .int, 2) := by decide +kernel
theorem l8_d97 : decode xMli.2.1 97 = .ok (.putfield 48, 3) := by decide +kernel
theorem l8_d100 : decode xMli.2.1 100 = .ok (.aload_n 0, 1) := by decide +kernel
theorem l8_d101 : decode xMli.2.1 101 = .ok (.bipush 12, 2) := by decide +kernel
theorem l8_d103 : decode xMli.2.1 103 = .ok (.newarray .int, 2) := by decide +kernel
theorem l8_d105 : decode xMli.2.1 105 = .ok (.putfield 51, 3) := by decide +kernel
theorem l8_d108 : decode xMli.2.1 108 = .ok (.aload_n 0, 1) := by decide +kernel
theorem l8_d109 : decode xMli.2.1 109 = .ok (.getfield 39, 3) := by decide +kernel
theorem l8_d112 : decode xMli.2.1 112 = .ok (.iconst 3, 1) := by decide +kernel
theorem l8_d113 : decode xMli.2.1 113 = .ok (.bipush 9, 2) := by decide +kernel
theorem l8_d115 : decode xMli.2.1 115 = .ok (.iastore, 1) := by decide +kernel
theorem l8_d116 : decode xMli.2.1 116 = .ok (.aload_n 0, 1) := by decide +kernel
theorem l8_d117 : decode xMli.2.1 117 = .ok (.getfield 48, 3) := by decide +kernel
theorem l8_d120 : decode xMli.2.1 120 = .ok (.iconst (-1), 1) := by decide +kernel
theorem l8_d121 : decode xMli.2.1 121 = .ok (.invokestatic 54, 3) := by decide +kernel
theorem l8_d124 : decode xMli.2.1 124 = .ok (.new 27, 3) := by decide +kernel
theorem l8_d127 : decode xMli.2.1 127 = .ok (.dup, 1) := by decide +kernel
theorem l8_d128 : decode xMli.2.1 128 = .ok (.iconst 0, 1) := by decide +kernel
theorem l8_d129 : decode xMli.2.1 129 = .ok (.iconst 0, 1) := by decide +kernel
theorem l8_d130 : decode xMli.2.1 130 = .ok (.iconst 0, 1) := by decide +kernel
theorem l8_d131 : decode xMli.2.1 131 = .ok (.iconst 0, 1) := by decide +kernel
theorem l8_d132 : decode xMli.2.1 132 = .ok (.iconst 0, 1) := by decide +kernel
theorem l8_d133 : decode xMli.2.1 133 = .ok (.invokespecial 60, 3) := by decide +kernel
theorem l8_d136 : decode xMli.2.1 136 = .ok (.astore_n 1, 1) := by decide +kernel
theorem l8_d137 : decode xMli.2.1 137 = .ok (.iconst 0, 1) := by decide +kernel
theorem l8_d138 : decode xMli.2.1 138 = .ok (.istore_n 2, 1) := by decide +kernel
theorem l8_d139 : decode xMli.2.1 139 = .ok (.iload_n 2, 1) := by decide +kernel
theorem l8_d140 : decode xMli.2.1 140 = .ok (.bipush 8, 2) := by decide +kernel
theorem l8_d142 : decode xMli.2.1 142 = .ok (.if_icmp .ge 16, 3) := by decide +kernel
theorem l8_d145 : decode xMli.2.1 145 = .ok (.aload_n 0, 1) := by decide +kernel
theorem l8_d146 : decode xMli.2.1 146 = .ok (.getfield 29, 3) := by decide +kernel
theorem l8_d149 : decode xMli.2.1 149 = .ok (.iload_n 2, 1) := by decide +kernel
theorem l8_d150 : decode xMli.2.1 150 = .ok (.aload_n 1, 1) := by decide +kernel
theorem l8_d151 : decode xMli.2.1 151 = .ok (.aastore, 1) := by decide +kernel
theorem l8_d152 : decode xMli.2.1 152 = .ok (.iinc 2 1, 3) := by decide +kernel
theorem l8_d155 : decode xMli.2.1 155 = .ok (.goto (-16), 3) := by decide +kernel
theorem l8_d158 : decode xMli.2.1 158 = .ok (.return_, 1) := by decide +kernel
theorem l8_L139 {p : Program} {l : Launch} {e : Env} {s : State} {m : MethodId} {below : List Frame} {meth : Method} {c : Code} {D : va_G} {U : State} {Y0 : xY} {av : List Value} (B : y_B vwCl x_Tb x_Nb xMli p s m meth c D U Y0 av) {this n7 n15 n23 n31 n39 n47 n56 n64 n71 n79 n87 n95 n103 n124 : Nat} (hav : av = [.ref this]) (hfr_n47 : s.heap.size ≤ n47) (hfr_n79 : s.heap.size ≤ n79)  :
    ∀ (n : Nat), ∀ (H : Heap) (Y : xY) (locs : List Loc) (ls : Array Slot) (i : Int32), x_I D x_G x_Zs U (x_efs xMli) Y0 s.heap Y H locs → Y this = some 3 → Y n7 = some 19 → Y n15 = some 20 → Y n23 = some 21 → Y n31 = some 22 → Y n39 = some 23 → Y n47 = some 64 → Y n56 = some 25 → Y n64 = some 26 → Y n71 = some 27 → Y n79 = some 28 → Y n87 = some 29 → Y n95 = some 30 → Y n103 = some 31 → Y n124 = some 11 → x_sl D 2 1 this H = some (.ref n7) → x_sl D 2 2 this H = some (.ref n15) → x_sl D 2 3 this H = some (.ref n23) → x_sl D 2 4 this H = some (.ref n31) → x_sl D 2 5 this H = some (.ref n39) → x_sl D 2 7 this H = some (.ref n47) → x_sl D 2 8 this H = some (.ref n56) → x_sl D 2 9 this H = some (.ref n64) → x_sl D 2 10 this H = some (.ref n71) → x_sl D 2 11 this H = some (.ref n79) → x_sl D 2 13 this H = some (.ref n87) → x_sl D 2 14 this H = some (.ref n95) → x_sl D 2 15 this H = some (.ref n103) → y_A n79 12 H (fun _ => 0) → lv_has ls xMli.2.2.1 [(2, .int i), (1, .ref n124), (0, .ref this)] → (0 ≤ i.toInt ∧ i.toInt ≤ 8) → (∀ j : Nat, (j : Int) < i.toInt → y_at n47 j H = some (.ref n124)) → (8 - i.toInt).toNat < n → W p l e (x_rm xMli) s m av.toArray below meth c H locs 14 127 (y_QQ below D x_G x_Zs U xMli z_Pli8 av Y0 s) (F0 m 139 ls []) := by
  have X := B.1
  have hx := X.1
  have hb := X.2.1
  have hY0 := B.2.2.2.2.1
  have hts := X.2.2.2.2.1
  have hnm := B.2.2.2.1
  intro n
  induction n with
  | zero => intro _ _ _ _ _ _ _ _ _ _ _ _ _ _ _ _ _ _ _ _ _ _ _ _ _ _ _ _ _ _ _ _ _ _ _ _ _ _ h; exact absurd h (Nat.not_lt_zero _)
  | succ n ih =>
    intro H Y locs ls i  hI hY_this hY_n7 hY_n15 hY_n23 hY_n31 hY_n39 hY_n47 hY_n56 hY_n64 hY_n71 hY_n79 hY_n87 hY_n95 hY_n103 hY_n124 hs_n7 hs_n15 hs_n23 hs_n31 hs_n39 hs_n47 hs_n56 hs_n64 hs_n71 hs_n79 hs_n87 hs_n95 hs_n103 hA_n79 hl hi hq hn
    refine lv_iload_n hx hb l8_d139 rfl (lv_at hl 0 rfl) ?_
    refine lv_bipush hx hb l8_d140 (v := 8) (by decide) ?_
    have ec8 : (8 : Int32).toInt = 8 := by decide
    refine lv_icmp_ge hx hb l8_d142 (tgt := 158) (by decide) (fun q142 => ?_) (fun q142 => ?_)
    · have q142_ : (8 : Int32).toInt ≤ i.toInt := x_le32.mp q142
      subst hav
      have hYn : ∀ q u, q ≠ n47 → Y q = some u → x_up Y n47 24 q = some u := fun q u h1 h2 => by rw [x_up_ne h1]; exact h2
      have hI0 := hI
      replace hI := y_retag (t2 := 24) hI0 hY_n47 hfr_n47 rfl rfl (by decide +kernel) (by decide +kernel) (by decide +kernel) (fun j v hj hv => by rw [hq j (by omega)] at hv; cases hv; exact y_crefA hY_n124 rfl)
      have hYC := hYn _ _ (y_ne hY_this hY_n47 rfl) hY_this
      have hY79 := hYn _ _ (y_ne hY_n79 hY_n47 rfl) hY_n79
      have hf : ∀ (k : Nat) (ft : xV), ([xI 0 10, xR false [19], xR false [20], xR false [21], xR false [22], xR false [23], xI 0 8, xR false [24], xR false [25], xR false [26], xR false [27], xR false [28], xI 0 8, xR false [29], xR false [30], xR false [31]])[k]? = some ft → ∃ v : Value, x_sl D 2 k this H = some v ∧ x_c (x_up Y n47 24) ft v ∧ x_nrT 3 ft = true := fun k ft hk => match k, hk with
          | 0, hk => by cases hk; obtain ⟨v, e1, e2⟩ := y_fld (k := 0) hI.1 hYC rfl rfl; exact ⟨v, e1, e2, rfl⟩
          | 1, hk => by cases hk; exact ⟨_, hs_n7, y_crefA (hYn _ _ (y_ne hY_n7 hY_n47 rfl) hY_n7) rfl, rfl⟩
          | 2, hk => by cases hk; exact ⟨_, hs_n15, y_crefA (hYn _ _ (y_ne hY_n15 hY_n47 rfl) hY_n15) rfl, rfl⟩
          | 3, hk => by cases hk; exact ⟨_, hs_n23, y_crefA (hYn _ _ (y_ne hY_n23 hY_n47 rfl) hY_n23) rfl, rfl⟩
          | 4, hk => by cases hk; exact ⟨_, hs_n31, y_crefA (hYn _ _ (y_ne hY_n31 hY_n47 rfl) hY_n31) rfl, rfl⟩
          | 5, hk => by cases hk; exact ⟨_, hs_n39, y_crefA (hYn _ _ (y_ne hY_n39 hY_n47 rfl) hY_n39) rfl, rfl⟩
          | 6, hk => by cases hk; obtain ⟨v, e1, e2⟩ := y_fld (k := 6) hI.1 hYC rfl rfl; exact ⟨v, e1, e2, rfl⟩
          | 7, hk => by cases hk; exact ⟨_, hs_n47, y_crefA (x_up_self _ _ _) rfl, rfl⟩
          | 8, hk => by cases hk; exact ⟨_, hs_n56, y_crefA (hYn _ _ (y_ne hY_n56 hY_n47 rfl) hY_n56) rfl, rfl⟩
          | 9, hk => by cases hk; exact ⟨_, hs_n64, y_crefA (hYn _ _ (y_ne hY_n64 hY_n47 rfl) hY_n64) rfl, rfl⟩
          | 10, hk => by cases hk; exact ⟨_, hs_n71, y_crefA (hYn _ _ (y_ne hY_n71 hY_n47 rfl) hY_n71) rfl, rfl⟩
          | 11, hk => by cases hk; exact ⟨_, hs_n79, y_crefA (hYn _ _ (y_ne hY_n79 hY_n47 rfl) hY_n79) rfl, rfl⟩
          | 12, hk => by cases hk; obtain ⟨v, e1, e2⟩ := y_fld (k := 12) hI.1 hYC rfl rfl; exact ⟨v, e1, e2, rfl⟩
          | 13, hk => by cases hk; exact ⟨_, hs_n87, y_crefA (hYn _ _ (y_ne hY_n87 hY_n47 rfl) hY_n87) rfl, rfl⟩
          | 14, hk => by cases hk; exact ⟨_, hs_n95, y_crefA (hYn _ _ (y_ne hY_n95 hY_n47 rfl) hY_n95) rfl, rfl⟩
          | 15, hk => by cases hk; exact ⟨_, hs_n103, y_crefA (hYn _ _ (y_ne hY_n103 hY_n47 rfl) hY_n103) rfl, rfl⟩
          | k + 16, hk => by cases hk
      exact y_retC (o := (2, [xI 0 10, xR false [19], xR false [20], xR false [21], xR false [22], xR false [23], xI 0 8, xR false [24], xR false [25], xR false [26], xR false [27], xR false [28], xI 0 8, xR false [29], xR false [30], xR false [31]])) B hI rfl rfl hYC rfl rfl rfl rfl (by decide +kernel) (by decide +kernel) List.mem_cons_self hf (fun t' h1 => by cases h1; exact ⟨n79, hs_n79, (x_up_ne (y_ne hY79 hYC rfl)).trans hY79, hfr_n79, hA_n79⟩) (by exact Nat.le_of_ble_eq_true rfl) (by exact Nat.le_of_ble_eq_true rfl) l8_d158
    · have q142_ : i.toInt < (8 : Int32).toInt := Int.not_le.mp fun q => q142 (x_le32.mpr q)
      refine lv_aload_n hx hb l8_d145 rfl (lv_at hl 2 rfl) ?_
      refine y_getf X (fl_l8_240 X.2.2.2.2.1) hI.1 hY_this rfl hs_n47 l8_d146 ?_
      refine lv_iload_n hx hb l8_d149 rfl (lv_at hl 0 rfl) ?_
      refine lv_aload_n hx hb l8_d150 rfl (lv_at hl 1 rfl) ?_
      refine y_aast X hY0 hI hY_n47 rfl hY_n124 rfl rfl (x_castSelf (X.2.2.2.2.2.1.1 6 _ rfl).2) (by omega) (by show _ < (8 : Int); omega) (y_crefA hY_n124 rfl) (by decide +kernel) l8_d151 fun H locs hI h_at h_ne ho => ?_
      replace hs_n7 := y_slk hs_n7 (ho _ (y_ne hY_this hY_n47 rfl))
      replace hs_n15 := y_slk hs_n15 (ho _ (y_ne hY_this hY_n47 rfl))
      replace hs_n23 := y_slk hs_n23 (ho _ (y_ne hY_this hY_n47 rfl))
      replace hs_n31 := y_slk hs_n31 (ho _ (y_ne hY_this hY_n47 rfl))
      replace hs_n39 := y_slk hs_n39 (ho _ (y_ne hY_this hY_n47 rfl))
      replace hs_n47 := y_slk hs_n47 (ho _ (y_ne hY_this hY_n47 rfl))
      replace hs_n56 := y_slk hs_n56 (ho _ (y_ne hY_this hY_n47 rfl))
      replace hs_n64 := y_slk hs_n64 (ho _ (y_ne hY_this hY_n47 rfl))
      replace hs_n71 := y_slk hs_n71 (ho _ (y_ne hY_this hY_n47 rfl))
      replace hs_n79 := y_slk hs_n79 (ho _ (y_ne hY_this hY_n47 rfl))
      replace hs_n87 := y_slk hs_n87 (ho _ (y_ne hY_this hY_n47 rfl))
      replace hs_n95 := y_slk hs_n95 (ho _ (y_ne hY_this hY_n47 rfl))
      replace hs_n103 := y_slk hs_n103 (ho _ (y_ne hY_this hY_n47 rfl))
      replace hA_n79 := hA_n79.kept (ho _ (y_ne hY_n79 hY_n47 rfl))
      obtain ⟨z152, hg_z152⟩ : ∃ z152 : Int32, i + Int32.ofInt 1 = z152 := ⟨_, rfl⟩
      have h_z152 : z152.toInt = i.toInt + 1 := by rw [← hg_z152]; exact y_inc (by decide) (by omega) (by omega)
      refine lv_iinc hx hb l8_d152 hl (k := 0) rfl hg_z152 (by decide) (lv' := [(2, .int z152), (1, .ref n124), (0, .ref this)]) rfl fun ls hl => ?_
      refine lv_goto hx hb l8_d155 (tgt := 139) (by decide) ?_
      exact ih _ _ _ _ _ hI hY_this hY_n7 hY_n15 hY_n23 hY_n31 hY_n39 hY_n47 hY_n56 hY_n64 hY_n71 hY_n79 hY_n87 hY_n95 hY_n103 hY_n124 hs_n7 hs_n15 hs_n23 hs_n31 hs_n39 hs_n47 hs_n56 hs_n64 hs_n71 hs_n79 hs_n87 hs_n95 hs_n103 hA_n79 (lv_sub hl [0, 1, 2] rfl) (by first | assumption | omega) (fun j hj => by by_cases e0 : j = i.toInt.toNat; (rw [e0]; exact h_at); rw [h_ne j e0]; exact hq j (by omega)) (by omega)
theorem ym_landInit8 : y_Met vwCl x_G x_Zs x_Tb x_Nb xMli y_T z_Pli8 := by
  refine y_main (by decide +kernel) (by decide +kernel) x_Tb_good x_Nb_ok ?_
  intro p l e s m below meth c D U Y0 av ls B hI _ hl
  have X := B.1
  have hx := X.1
  have hb := X.2.1
  have hY0 := B.2.2.2.2.1
  have hts := X.2.2.2.2.1
  have hnm := B.2.2.2.1
  obtain ⟨v0, rfl, hv0⟩ := x_one B.2.2.2.2.2
  obtain ⟨this, t0, rfl, ht0, hY_this⟩ := x_ref_at hv0 rfl
  obtain rfl := List.mem_singleton.mp ht0
  replace hl : lv_has ls xMli.2.2.1 [(0, .ref this)] := hl
  refine lv_aload_n hx hb l8_d0 rfl (lv_at hl 0 rfl) ?_
  refine y_oi X (hts _ (x_at 99 (by decide +kernel) rfl)) (hts _ (x_at 92 (by decide +kernel) rfl)) (hts _ (x_at 93 (by decide +kernel) rfl)) (Nat.le_of_ble_eq_true rfl) (Nat.le_of_ble_eq_true rfl) hl.1 (Nat.le_of_ble_eq_true rfl) l8_d1 ?_
  refine lv_aload_n hx hb l8_d4 rfl (lv_at hl 0 rfl) ?_
  refine lv_bipush hx hb l8_d5 (v := 10) (by decide) ?_
  have ec10 : (10 : Int32).toInt = 10 := by decide
  refine y_newaC (tag := 19) (k := 10) X hY0 hI rfl rfl (by decide) (hts _ (x_at 145 (by decide +kernel) rfl)) (fun Y j => x_dfa (by decide +kernel) Y j) (by decide) (Nat.le_of_ble_eq_true rfl) (Nat.le_of_ble_eq_true rfl) l8_d7 fun Yn H n7 hnw hct => ?_
  obtain ⟨hIn, hmo, hY_n7, hfr_n7, hke⟩ := hnw
  replace hY_this := hmo _ _ hY_this
  replace hI := hIn
  clear hIn hmo hke
  clear hct
  refine y_putf X (fw_l8_241 X.2.2.2.2.1 hnm) hY0 hI hY_this rfl rfl (y_crefA hY_n7 rfl) (by decide +kernel) l8_d9 fun H sl hI ho hs hk => ?_
  replace hs := hs
  have hs9 := hs
  refine lv_aload_n hx hb l8_d12 rfl (lv_at hl 0 rfl) ?_
  refine lv_bipush hx hb l8_d13 (v := 10) (by decide) ?_
  refine y_newaC (tag := 20) (k := 10) X hY0 hI rfl rfl (by decide) (hts _ (x_at 145 (by decide +kernel) rfl)) (fun Y j => x_dfa (by decide +kernel) Y j) (by decide) (Nat.le_of_ble_eq_true rfl) (Nat.le_of_ble_eq_true rfl) l8_d15 fun Yn H n15 hnw hct => ?_
  obtain ⟨hIn, hmo, hY_n15, hfr_n15, hke⟩ := hnw
  replace hs9 := y_slk hs9 (hke _ _ hY_this)
  replace hY_this := hmo _ _ hY_this
  replace hY_n7 := hmo _ _ hY_n7
  replace hI := hIn
  clear hIn hmo hke
  clear hct
  refine y_putf X (fw_l8_242 X.2.2.2.2.1 hnm) hY0 hI hY_this rfl rfl (y_crefA hY_n15 rfl) (by decide +kernel) l8_d17 fun H sl hI ho hs hk => ?_
  replace hs9 := hk _ _ (by decide +kernel) (by decide) hs9
  replace hs := hs
  have hs17 := hs
  refine lv_aload_n hx hb l8_d20 rfl (lv_at hl 0 rfl) ?_
  refine lv_bipush hx hb l8_d21 (v := 10) (by decide) ?_
  refine y_newaC (tag := 21) (k := 10) X hY0 hI rfl rfl (by decide) (hts _ (x_at 145 (by decide +kernel) rfl)) (fun Y j => x_dfa (by decide +kernel) Y j) (by decide) (Nat.le_of_ble_eq_true rfl) (Nat.le_of_ble_eq_true rfl) l8_d23 fun Yn H n23 hnw hct => ?_
  obtain ⟨hIn, hmo, hY_n23, hfr_n23, hke⟩ := hnw
  replace hs9 := y_slk hs9 (hke _ _ hY_this)
  replace hs17 := y_slk hs17 (hke _ _ hY_this)
  replace hY_this := hmo _ _ hY_this
  replace hY_n7 := hmo _ _ hY_n7
  replace hY_n15 := hmo _ _ hY_n15
  replace hI := hIn
  clear hIn hmo hke
  clear hct
  refine y_putf X (fw_l8_243 X.2.2.2.2.1 hnm) hY0 hI hY_this rfl rfl (y_crefA hY_n23 rfl) (by decide +kernel) l8_d25 fun H sl hI ho hs hk => ?_
  replace hs9 := hk _ _ (by decide +kernel) (by decide) hs9
  replace hs17 := hk _ _ (by decide +kernel) (by decide) hs17
  replace hs := hs
  have hs25 := hs
  refine lv_aload_n hx hb l8_d28 rfl (lv_at hl 0 rfl) ?_
  refine lv_bipush hx hb l8_d29 (v := 10) (by decide) ?_
  refine y_newaC (tag := 22) (k := 10) X hY0 hI rfl rfl (by decide) (hts _ (x_at 145 (by decide +kernel) rfl)) (fun Y j => x_dfa (by decide +kernel) Y j) (by decide) (Nat.le_of_ble_eq_true rfl) (Nat.le_of_ble_eq_true rfl) l8_d31 fun Yn H n31 hnw hct => ?_
  obtain ⟨hIn, hmo, hY_n31, hfr_n31, hke⟩ := hnw
  replace hs9 := y_slk hs9 (hke _ _ hY_this)
  replace hs17 := y_slk hs17 (hke _ _ hY_this)
  replace hs25 := y_slk hs25 (hke _ _ hY_this)
  replace hY_this := hmo _ _ hY_this
  replace hY_n7 := hmo _ _ hY_n7
  replace hY_n15 := hmo _ _ hY_n15
  replace hY_n23 := hmo _ _ hY_n23
  replace hI := hIn
  clear hIn hmo hke
  clear hct
  refine y_putf X (fw_l8_244 X.2.2.2.2.1 hnm) hY0 hI hY_this rfl rfl (y_crefA hY_n31 rfl) (by decide +kernel) l8_d33 fun H sl hI ho hs hk => ?_
  replace hs9 := hk _ _ (by decide +kernel) (by decide) hs9
  replace hs17 := hk _ _ (by decide +kernel) (by decide) hs17
  replace hs25 := hk _ _ (by decide +kernel) (by decide) hs25
  replace hs := hs
  have hs33 := hs
  refine lv_aload_n hx hb l8_d36 rfl (lv_at hl 0 rfl) ?_
  refine lv_bipush hx hb l8_d37 (v := 10) (by decide) ?_
  refine y_newaC (tag := 23) (k := 10) X hY0 hI rfl rfl (by decide) (hts _ (x_at 145 (by decide +kernel) rfl)) (fun Y j => x_dfa (by decide +kernel) Y j) (by decide) (Nat.le_of_ble_eq_true rfl) (Nat.le_of_ble_eq_true rfl) l8_d39 fun Yn H n39 hnw hct => ?_
  obtain ⟨hIn, hmo, hY_n39, hfr_n39, hke⟩ := hnw
  replace hs9 := y_slk hs9 (hke _ _ hY_this)
  replace hs17 := y_slk hs17 (hke _ _ hY_this)
  replace hs25 := y_slk hs25 (hke _ _ hY_this)
  replace hs33 := y_slk hs33 (hke _ _ hY_this)
  replace hY_this := hmo _ _ hY_this
  replace hY_n7 := hmo _ _ hY_n7
  replace hY_n15 := hmo _ _ hY_n15
  replace hY_n23 := hmo _ _ hY_n23
  replace hY_n31 := hmo _ _ hY_n31
  replace hI := hIn
  clear hIn hmo hke
  clear hct
  refine y_putf X (fw_l8_245 X.2.2.2.2.1 hnm) hY0 hI hY_this rfl rfl (y_crefA hY_n39 rfl) (by decide +kernel) l8_d41 fun H sl hI ho hs hk => ?_
  replace hs9 := hk _ _ (by decide +kernel) (by decide) hs9
  replace hs17 := hk _ _ (by decide +kernel) (by decide) hs17
  replace hs25 := hk _ _ (by decide +kernel) (by decide) hs25
  replace hs33 := hk _ _ (by decide +kernel) (by decide) hs33
  replace hs := hs
  have hs41 := hs
  refine lv_aload_n hx hb l8_d44 rfl (lv_at hl 0 rfl) ?_
  refine lv_bipush hx hb l8_d45 (v := 8) (by decide) ?_
  have ec8 : (8 : Int32).toInt = 8 := by decide
  refine y_newrC (tag := 64) (k := 8) (C := "TwinFires$Stone") X hY0 hI rfl (by decide) (hts _ (x_at 100 (by decide +kernel) rfl)) (va_AO.use (X.2.2.2.2.2.2.2.2.1 _ (x_nt 101 (by decide +kernel) rfl))) (fun Y j => x_dfa (ty := .object "TwinFires$Stone") (by decide +kernel) Y j) (by decide) (Nat.le_of_ble_eq_true rfl) (Nat.le_of_ble_eq_true rfl) l8_d47 fun Yn H n47 hnw hct => ?_
  obtain ⟨hIn, hmo, hY_n47, hfr_n47, hke⟩ := hnw
  replace hs9 := y_slk hs9 (hke _ _ hY_this)
  replace hs17 := y_slk hs17 (hke _ _ hY_this)
  replace hs25 := y_slk hs25 (hke _ _ hY_this)
  replace hs33 := y_slk hs33 (hke _ _ hY_this)
  replace hs41 := y_slk hs41 (hke _ _ hY_this)
  replace hY_this := hmo _ _ hY_this
  replace hY_n7 := hmo _ _ hY_n7
  replace hY_n15 := hmo _ _ hY_n15
  replace hY_n23 := hmo _ _ hY_n23
  replace hY_n31 := hmo _ _ hY_n31
  replace hY_n39 := hmo _ _ hY_n39
  replace hI := hIn
  clear hIn hmo hke
  clear hct
  refine y_putf X (fw_l8_246 X.2.2.2.2.1 hnm) hY0 hI hY_this rfl rfl (y_crefA hY_n47 rfl) (by decide +kernel) l8_d50 fun H sl hI ho hs hk => ?_
  replace hs9 := hk _ _ (by decide +kernel) (by decide) hs9
  replace hs17 := hk _ _ (by decide +kernel) (by decide) hs17
  replace hs25 := hk _ _ (by decide +kernel) (by decide) hs25
  replace hs33 := hk _ _ (by decide +kernel) (by decide) hs33
  replace hs41 := hk _ _ (by decide +kernel) (by decide) hs41
  replace hs := hs
  have hs50 := hs
  refine lv_aload_n hx hb l8_d53 rfl (lv_at hl 0 rfl) ?_
  refine lv_bipush hx hb l8_d54 (v := 8) (by decide) ?_
  refine y_newaC (tag := 25) (k := 8) X hY0 hI rfl rfl (by decide) (hts _ (x_at 145 (by decide +kernel) rfl)) (fun Y j => x_dfa (by decide +kernel) Y j) (by decide) (Nat.le_of_ble_eq_true rfl) (Nat.le_of_ble_eq_true rfl) l8_d56 fun Yn H n56 hnw hct => ?_
  obtain ⟨hIn, hmo, hY_n56, hfr_n56, hke⟩ := hnw
  replace hs9 := y_slk hs9 (hke _ _ hY_this)
  replace hs17 := y_slk hs17 (hke _ _ hY_this)
  replace hs25 := y_slk hs25 (hke _ _ hY_this)
  replace hs33 := y_slk hs33 (hke _ _ hY_this)
  replace hs41 := y_slk hs41 (hke _ _ hY_this)
  replace hs50 := y_slk hs50 (hke _ _ hY_this)
  replace hY_this := hmo _ _ hY_this
  replace hY_n7 := hmo _ _ hY_n7
  replace hY_n15 := hmo _ _ hY_n15
  replace hY_n23 := hmo _ _ hY_n23
  replace hY_n31 := hmo _ _ hY_n31
  replace hY_n39 := hmo _ _ hY_n39
  replace hY_n47 := hmo _ _ hY_n47
  replace hI := hIn
  clear hIn hmo hke
  clear hct
  refine y_putf X (fw_l8_247 X.2.2.2.2.1 hnm) hY0 hI hY_this rfl rfl (y_crefA hY_n56 rfl) (by decide +kernel) l8_d58 fun H sl hI ho hs hk => ?_
  replace hs9 := hk _ _ (by decide +kernel) (by decide) hs9
  replace hs17 := hk _ _ (by decide +kernel) (by decide) hs17
  replace hs25 := hk _ _ (by decide +kernel) (by decide) hs25
  replace hs33 := hk _ _ (by decide +kernel) (by decide) hs33
  replace hs41 := hk _ _ (by decide +kernel) (by decide) hs41
  replace hs50 := hk _ _ (by decide +kernel) (by decide) hs50
  replace hs := hs
  have hs58 := hs
  refine lv_aload_n hx hb l8_d61 rfl (lv_at hl 0 rfl) ?_
  refine lv_bipush hx hb l8_d62 (v := 8) (by decide) ?_
  refine y_newaC (tag := 26) (k := 8) X hY0 hI rfl rfl (by decide) (hts _ (x_at 145 (by decide +kernel) rfl)) (fun Y j => x_dfa (by decide +kernel) Y j) (by decide) (Nat.le_of_ble_eq_true rfl) (Nat.le_of_ble_eq_true rfl) l8_d64 fun Yn H n64 hnw hct => ?_
  obtain ⟨hIn, hmo, hY_n64, hfr_n64, hke⟩ := hnw
  replace hs9 := y_slk hs9 (hke _ _ hY_this)
  replace hs17 := y_slk hs17 (hke _ _ hY_this)
  replace hs25 := y_slk hs25 (hke _ _ hY_this)
  replace hs33 := y_slk hs33 (hke _ _ hY_this)
  replace hs41 := y_slk hs41 (hke _ _ hY_this)
  replace hs50 := y_slk hs50 (hke _ _ hY_this)
  replace hs58 := y_slk hs58 (hke _ _ hY_this)
  replace hY_this := hmo _ _ hY_this
  replace hY_n7 := hmo _ _ hY_n7
  replace hY_n15 := hmo _ _ hY_n15
  replace hY_n23 := hmo _ _ hY_n23
  replace hY_n31 := hmo _ _ hY_n31
  replace hY_n39 := hmo _ _ hY_n39
  replace hY_n47 := hmo _ _ hY_n47
  replace hY_n56 := hmo _ _ hY_n56
  replace hI := hIn
  clear hIn hmo hke
  clear hct
  refine y_putf X (fw_l8_248 X.2.2.2.2.1 hnm) hY0 hI hY_this rfl rfl (y_crefA hY_n64 rfl) (by decide +kernel) l8_d66 fun H sl hI ho hs hk => ?_
  replace hs9 := hk _ _ (by decide +kernel) (by decide) hs9
  replace hs17 := hk _ _ (by decide +kernel) (by decide) hs17
  replace hs25 := hk _ _ (by decide +kernel) (by decide) hs25
  replace hs33 := hk _ _ (by decide +kernel) (by decide) hs33
  replace hs41 := hk _ _ (by decide +kernel) (by decide) hs41
  replace hs50 := hk _ _ (by decide +kernel) (by decide) hs50
  replace hs58 := hk _ _ (by decide +kernel) (by decide) hs58
  replace hs := hs
  have hs66 := hs
  refine lv_aload_n hx hb l8_d69 rfl (lv_at hl 0 rfl) ?_
  refine lv_iconst hx hb l8_d70 (v := 4) (by decide) ?_
  have ec4 : (4 : Int32).toInt = 4 := by decide
  refine y_newaC (tag := 27) (k := 4) X hY0 hI rfl rfl (by decide) (hts _ (x_at 145 (by decide +kernel) rfl)) (fun Y j => x_dfa (by decide +kernel) Y j) (by decide) (Nat.le_of_ble_eq_true rfl) (Nat.le_of_ble_eq_true rfl) l8_d71 fun Yn H n71 hnw hct => ?_
  obtain ⟨hIn, hmo, hY_n71, hfr_n71, hke⟩ := hnw
  replace hs9 := y_slk hs9 (hke _ _ hY_this)
  replace hs17 := y_slk hs17 (hke _ _ hY_this)
  replace hs25 := y_slk hs25 (hke _ _ hY_this)
  replace hs33 := y_slk hs33 (hke _ _ hY_this)
  replace hs41 := y_slk hs41 (hke _ _ hY_this)
  replace hs50 := y_slk hs50 (hke _ _ hY_this)
  replace hs58 := y_slk hs58 (hke _ _ hY_this)
  replace hs66 := y_slk hs66 (hke _ _ hY_this)
  replace hY_this := hmo _ _ hY_this
  replace hY_n7 := hmo _ _ hY_n7
  replace hY_n15 := hmo _ _ hY_n15
  replace hY_n23 := hmo _ _ hY_n23
  replace hY_n31 := hmo _ _ hY_n31
  replace hY_n39 := hmo _ _ hY_n39
  replace hY_n47 := hmo _ _ hY_n47
  replace hY_n56 := hmo _ _ hY_n56
  replace hY_n64 := hmo _ _ hY_n64
  replace hI := hIn
  clear hIn hmo hke
  clear hct
  refine y_putf X (fw_l8_249 X.2.2.2.2.1 hnm) hY0 hI hY_this rfl rfl (y_crefA hY_n71 rfl) (by decide +kernel) l8_d73 fun H sl hI ho hs hk => ?_
  replace hs9 := hk _ _ (by decide +kernel) (by decide) hs9
  replace hs17 := hk _ _ (by decide +kernel) (by decide) hs17
  replace hs25 := hk _ _ (by decide +kernel) (by decide) hs25
  replace hs33 := hk _ _ (by decide +kernel) (by decide) hs33
  replace hs41 := hk _ _ (by decide +kernel) (by decide) hs41
  replace hs50 := hk _ _ (by decide +kernel) (by decide) hs50
  replace hs58 := hk _ _ (by decide +kernel) (by decide) hs58
  replace hs66 := hk _ _ (by decide +kernel) (by decide) hs66
  replace hs := hs
  have hs73 := hs
  refine lv_aload_n hx hb l8_d76 rfl (lv_at hl 0 rfl) ?_
  refine lv_bipush hx hb l8_d77 (v := 12) (by decide) ?_
  have ec12 : (12 : Int32).toInt = 12 := by decide
  refine y_newaC (tag := 28) (k := 12) X hY0 hI rfl rfl (by decide) (hts _ (x_at 145 (by decide +kernel) rfl)) (fun Y j => x_dfa (by decide +kernel) Y j) (by decide) (Nat.le_of_ble_eq_true rfl) (Nat.le_of_ble_eq_true rfl) l8_d79 fun Yn H n79 hnw hct => ?_
  obtain ⟨hIn, hmo, hY_n79, hfr_n79, hke⟩ := hnw
  replace hs9 := y_slk hs9 (hke _ _ hY_this)
  replace hs17 := y_slk hs17 (hke _ _ hY_this)
  replace hs25 := y_slk hs25 (hke _ _ hY_this)
  replace hs33 := y_slk hs33 (hke _ _ hY_this)
  replace hs41 := y_slk hs41 (hke _ _ hY_this)
  replace hs50 := y_slk hs50 (hke _ _ hY_this)
  replace hs58 := y_slk hs58 (hke _ _ hY_this)
  replace hs66 := y_slk hs66 (hke _ _ hY_this)
  replace hs73 := y_slk hs73 (hke _ _ hY_this)
  replace hY_this := hmo _ _ hY_this
  replace hY_n7 := hmo _ _ hY_n7
  replace hY_n15 := hmo _ _ hY_n15
  replace hY_n23 := hmo _ _ hY_n23
  replace hY_n31 := hmo _ _ hY_n31
  replace hY_n39 := hmo _ _ hY_n39
  replace hY_n47 := hmo _ _ hY_n47
  replace hY_n56 := hmo _ _ hY_n56
  replace hY_n64 := hmo _ _ hY_n64
  replace hY_n71 := hmo _ _ hY_n71
  replace hI := hIn
  clear hIn hmo hke
  have hA_n79 : y_A n79 12 H (fun _ => 0) := fun j hj => hct j hj
  clear hct
  refine y_putf X (fw_l8_250 X.2.2.2.2.1 hnm) hY0 hI hY_this rfl rfl (y_crefA hY_n79 rfl) (by decide +kernel) l8_d81 fun H sl hI ho hs hk => ?_
  replace hs9 := hk _ _ (by decide +kernel) (by decide) hs9
  replace hs17 := hk _ _ (by decide +kernel) (by decide) hs17
  replace hs25 := hk _ _ (by decide +kernel) (by decide) hs25
  replace hs33 := hk _ _ (by decide +kernel) (by decide) hs33
  replace hs41 := hk _ _ (by decide +kernel) (by decide) hs41
  replace hs50 := hk _ _ (by decide +kernel) (by decide) hs50
  replace hs58 := hk _ _ (by decide +kernel) (by decide) hs58
  replace hs66 := hk _ _ (by decide +kernel) (by decide) hs66
  replace hs73 := hk _ _ (by decide +kernel) (by decide) hs73
  replace hA_n79 := hA_n79.kept (ho _ (y_ne hY_n79 hY_this rfl))
  replace hs := hs
  have hs81 := hs
  refine lv_aload_n hx hb l8_d84 rfl (lv_at hl 0 rfl) ?_
  refine lv_bipush hx hb l8_d85 (v := 8) (by decide) ?_
  refine y_newaC (tag := 29) (k := 8) X hY0 hI rfl rfl (by decide) (hts _ (x_at 145 (by decide +kernel) rfl)) (fun Y j => x_dfa (by decide +kernel) Y j) (by decide) (Nat.le_of_ble_eq_true rfl) (Nat.le_of_ble_eq_true rfl) l8_d87 fun Yn H n87 hnw hct => ?_
  obtain ⟨hIn, hmo, hY_n87, hfr_n87, hke⟩ := hnw
  replace hs9 := y_slk hs9 (hke _ _ hY_this)
  replace hs17 := y_slk hs17 (hke _ _ hY_this)
  replace hs25 := y_slk hs25 (hke _ _ hY_this)
  replace hs33 := y_slk hs33 (hke _ _ hY_this)
  replace hs41 := y_slk hs41 (hke _ _ hY_this)
  replace hs50 := y_slk hs50 (hke _ _ hY_this)
  replace hs58 := y_slk hs58 (hke _ _ hY_this)
  replace hs66 := y_slk hs66 (hke _ _ hY_this)
  replace hs73 := y_slk hs73 (hke _ _ hY_this)
  replace hs81 := y_slk hs81 (hke _ _ hY_this)
  replace hA_n79 := hA_n79.kept (hke _ _ hY_n79)
  replace hY_this := hmo _ _ hY_this
  replace hY_n7 := hmo _ _ hY_n7
  replace hY_n15 := hmo _ _ hY_n15
  replace hY_n23 := hmo _ _ hY_n23
  replace hY_n31 := hmo _ _ hY_n31
  replace hY_n39 := hmo _ _ hY_n39
  replace hY_n47 := hmo _ _ hY_n47
  replace hY_n56 := hmo _ _ hY_n56
  replace hY_n64 := hmo _ _ hY_n64
  replace hY_n71 := hmo _ _ hY_n71
  replace hY_n79 := hmo _ _ hY_n79
  replace hI := hIn
  clear hIn hmo hke
  clear hct
  refine y_putf X (fw_l8_251 X.2.2.2.2.1 hnm) hY0 hI hY_this rfl rfl (y_crefA hY_n87 rfl) (by decide +kernel) l8_d89 fun H sl hI ho hs hk => ?_
  replace hs9 := hk _ _ (by decide +kernel) (by decide) hs9
  replace hs17 := hk _ _ (by decide +kernel) (by decide) hs17
  replace hs25 := hk _ _ (by decide +kernel) (by decide) hs25
  replace hs33 := hk _ _ (by decide +kernel) (by decide) hs33
  replace hs41 := hk _ _ (by decide +kernel) (by decide) hs41
  replace hs50 := hk _ _ (by decide +kernel) (by decide) hs50
  replace hs58 := hk _ _ (by decide +kernel) (by decide) hs58
  replace hs66 := hk _ _ (by decide +kernel) (by decide) hs66
  replace hs73 := hk _ _ (by decide +kernel) (by decide) hs73
  replace hs81 := hk _ _ (by decide +kernel) (by decide) hs81
  replace hA_n79 := hA_n79.kept (ho _ (y_ne hY_n79 hY_this rfl))
  replace hs := hs
  have hs89 := hs
  refine lv_aload_n hx hb l8_d92 rfl (lv_at hl 0 rfl) ?_
  refine lv_bipush hx hb l8_d93 (v := 12) (by decide) ?_
  refine y_newaC (tag := 30) (k := 12) X hY0 hI rfl rfl (by decide) (hts _ (x_at 145 (by decide +kernel) rfl)) (fun Y j => x_dfa (by decide +kernel) Y j) (by decide) (Nat.le_of_ble_eq_true rfl) (Nat.le_of_ble_eq_true rfl) l8_d95 fun Yn H n95 hnw hct => ?_
  obtain ⟨hIn, hmo, hY_n95, hfr_n95, hke⟩ := hnw
  replace hs9 := y_slk hs9 (hke _ _ hY_this)
  replace hs17 := y_slk hs17 (hke _ _ hY_this)
  replace hs25 := y_slk hs25 (hke _ _ hY_this)
  replace hs33 := y_slk hs33 (hke _ _ hY_this)
  replace hs41 := y_slk hs41 (hke _ _ hY_this)
  replace hs50 := y_slk hs50 (hke _ _ hY_this)
  replace hs58 := y_slk hs58 (hke _ _ hY_this)
  replace hs66 := y_slk hs66 (hke _ _ hY_this)
  replace hs73 := y_slk hs73 (hke _ _ hY_this)
  replace hs81 := y_slk hs81 (hke _ _ hY_this)
  replace hs89 := y_slk hs89 (hke _ _ hY_this)
  replace hA_n79 := hA_n79.kept (hke _ _ hY_n79)
  replace hY_this := hmo _ _ hY_this
  replace hY_n7 := hmo _ _ hY_n7
  replace hY_n15 := hmo _ _ hY_n15
  replace hY_n23 := hmo _ _ hY_n23
  replace hY_n31 := hmo _ _ hY_n31
  replace hY_n39 := hmo _ _ hY_n39
  replace hY_n47 := hmo _ _ hY_n47
  replace hY_n56 := hmo _ _ hY_n56
  replace hY_n64 := hmo _ _ hY_n64
  replace hY_n71 := hmo _ _ hY_n71
  replace hY_n79 := hmo _ _ hY_n79
  replace hY_n87 := hmo _ _ hY_n87
  replace hI := hIn
  clear hIn hmo hke
  clear hct
  refine y_putf X (fw_l8_252 X.2.2.2.2.1 hnm) hY0 hI hY_this rfl rfl (y_crefA hY_n95 rfl) (by decide +kernel) l8_d97 fun H sl hI ho hs hk => ?_
  replace hs9 := hk _ _ (by decide +kernel) (by decide) hs9
  replace hs17 := hk _ _ (by decide +kernel) (by decide) hs17
  replace hs25 := hk _ _ (by decide +kernel) (by decide) hs25
  replace hs33 := hk _ _ (by decide +kernel) (by decide) hs33
  replace hs41 := hk _ _ (by decide +kernel) (by decide) hs41
  replace hs50 := hk _ _ (by decide +kernel) (by decide) hs50
  replace hs58 := hk _ _ (by decide +kernel) (by decide) hs58
  replace hs66 := hk _ _ (by decide +kernel) (by decide) hs66
  replace hs73 := hk _ _ (by decide +kernel) (by decide) hs73
  replace hs81 := hk _ _ (by decide +kernel) (by decide) hs81
  replace hs89 := hk _ _ (by decide +kernel) (by decide) hs89
  replace hA_n79 := hA_n79.kept (ho _ (y_ne hY_n79 hY_this rfl))
  replace hs := hs
  have hs97 := hs
  refine lv_aload_n hx hb l8_d100 rfl (lv_at hl 0 rfl) ?_
  refine lv_bipush hx hb l8_d101 (v := 12) (by decide) ?_
  refine y_newaC (tag := 31) (k := 12) X hY0 hI rfl rfl (by decide) (hts _ (x_at 145 (by decide +kernel) rfl)) (fun Y j => x_dfa (by decide +kernel) Y j) (by decide) (Nat.le_of_ble_eq_true rfl) (Nat.le_of_ble_eq_true rfl) l8_d103 fun Yn H n103 hnw hct => ?_
  obtain ⟨hIn, hmo, hY_n103, hfr_n103, hke⟩ := hnw
  replace hs9 := y_slk hs9 (hke _ _ hY_this)
  replace hs17 := y_slk hs17 (hke _ _ hY_this)
  replace hs25 := y_slk hs25 (hke _ _ hY_this)
  replace hs33 := y_slk hs33 (hke _ _ hY_this)
  replace hs41 := y_slk hs41 (hke _ _ hY_this)
  replace hs50 := y_slk hs50 (hke _ _ hY_this)
  replace hs58 := y_slk hs58 (hke _ _ hY_this)
  replace hs66 := y_slk hs66 (hke _ _ hY_this)
  replace hs73 := y_slk hs73 (hke _ _ hY_this)
  replace hs81 := y_slk hs81 (hke _ _ hY_this)
  replace hs89 := y_slk hs89 (hke _ _ hY_this)
  replace hs97 := y_slk hs97 (hke _ _ hY_this)
  replace hA_n79 := hA_n79.kept (hke _ _ hY_n79)
  replace hY_this := hmo _ _ hY_this
  replace hY_n7 := hmo _ _ hY_n7
  replace hY_n15 := hmo _ _ hY_n15
  replace hY_n23 := hmo _ _ hY_n23
  replace hY_n31 := hmo _ _ hY_n31
  replace hY_n39 := hmo _ _ hY_n39
  replace hY_n47 := hmo _ _ hY_n47
  replace hY_n56 := hmo _ _ hY_n56
  replace hY_n64 := hmo _ _ hY_n64
  replace hY_n71 := hmo _ _ hY_n71
  replace hY_n79 := hmo _ _ hY_n79
  replace hY_n87 := hmo _ _ hY_n87
  replace hY_n95 := hmo _ _ hY_n95
  replace hI := hIn
  clear hIn hmo hke
  clear hct
  refine y_putf X (fw_l8_253 X.2.2.2.2.1 hnm) hY0 hI hY_this rfl rfl (y_crefA hY_n103 rfl) (by decide +kernel) l8_d105 fun H sl hI ho hs hk => ?_
  replace hs9 := hk _ _ (by decide +kernel) (by decide) hs9
  replace hs17 := hk _ _ (by decide +kernel) (by decide) hs17
  replace hs25 := hk _ _ (by decide +kernel) (by decide) hs25
  replace hs33 := hk _ _ (by decide +kernel) (by decide) hs33
  replace hs41 := hk _ _ (by decide +kernel) (by decide) hs41
  replace hs50 := hk _ _ (by decide +kernel) (by decide) hs50
  replace hs58 := hk _ _ (by decide +kernel) (by decide) hs58
  replace hs66 := hk _ _ (by decide +kernel) (by decide) hs66
  replace hs73 := hk _ _ (by decide +kernel) (by decide) hs73
  replace hs81 := hk _ _ (by decide +kernel) (by decide) hs81
  replace hs89 := hk _ _ (by decide +kernel) (by decide) hs89
  replace hs97 := hk _ _ (by decide +kernel) (by decide) hs97
  replace hA_n79 := hA_n79.kept (ho _ (y_ne hY_n79 hY_this rfl))
  replace hs := hs
  have hs105 := hs
  refine lv_aload_n hx hb l8_d108 rfl (lv_at hl 0 rfl) ?_
  refine y_getf X (fl_l8_254 X.2.2.2.2.1) hI.1 hY_this rfl hs73 l8_d109 ?_
  refine lv_iconst hx hb l8_d112 (v := 3) (by decide) ?_
  have ec3 : (3 : Int32).toInt = 3 := by decide
  refine lv_bipush hx hb l8_d113 (v := 9) (by decide) ?_
  have ec9 : (9 : Int32).toInt = 9 := by decide
  obtain ⟨f_n71, hA_n71, hB_n71⟩ := y_arr hI.1 hY_n71 rfl rfl
  refine y_iast X hY0 hI hY_n71 rfl hA_n71 (by omega) (by show _ < (4 : Int); omega) ⟨_, rfl, x_i32 _⟩ (by decide +kernel) l8_d115 fun H locs hI h_new ho => ?_
  replace hA_n71 := h_new
  generalize hf_f115 : y_up f_n71 (3 : Int32).toInt.toNat (9 : Int32) = f115 at hA_n71
  replace hs9 := y_slk hs9 (ho _ (y_ne hY_this hY_n71 rfl))
  replace hs17 := y_slk hs17 (ho _ (y_ne hY_this hY_n71 rfl))
  replace hs25 := y_slk hs25 (ho _ (y_ne hY_this hY_n71 rfl))
  replace hs33 := y_slk hs33 (ho _ (y_ne hY_this hY_n71 rfl))
  replace hs41 := y_slk hs41 (ho _ (y_ne hY_this hY_n71 rfl))
  replace hs50 := y_slk hs50 (ho _ (y_ne hY_this hY_n71 rfl))
  replace hs58 := y_slk hs58 (ho _ (y_ne hY_this hY_n71 rfl))
  replace hs66 := y_slk hs66 (ho _ (y_ne hY_this hY_n71 rfl))
  replace hs73 := y_slk hs73 (ho _ (y_ne hY_this hY_n71 rfl))
  replace hs81 := y_slk hs81 (ho _ (y_ne hY_this hY_n71 rfl))
  replace hs89 := y_slk hs89 (ho _ (y_ne hY_this hY_n71 rfl))
  replace hs97 := y_slk hs97 (ho _ (y_ne hY_this hY_n71 rfl))
  replace hs105 := y_slk hs105 (ho _ (y_ne hY_this hY_n71 rfl))
  replace hA_n79 := hA_n79.kept (ho _ (y_ne hY_n79 hY_n71 rfl))
  refine lv_aload_n hx hb l8_d116 rfl (lv_at hl 0 rfl) ?_
  refine y_getf X (fl_l8_255 X.2.2.2.2.1) hI.1 hY_this rfl hs97 l8_d117 ?_
  refine lv_iconst hx hb l8_d120 (v := (-1)) (by decide) ?_
  have ecm1 : ((-1) : Int32).toInt = (-1) := by decide
  refine y_call (z := (1, 54, 2, none, xM130)) (av := [.ref n95, .int ((-1) : Int32)]) (rest := []) (y_cok.of (x_cokS (n := 2) X xm130 (x_cons (x_at 102 (by decide +kernel) rfl) (x_cons (x_at 103 (by decide +kernel) rfl) (x_cons (x_at 67 (by decide +kernel) rfl) x_nilm))) (x_at 104 (by decide +kernel) rfl) (by decide +kernel) ⟨Nat.le_of_ble_eq_true rfl, Nat.le_of_ble_eq_true rfl⟩)) hY0 hI rfl l8_d121 hl.1 (Nat.le_of_ble_eq_true rfl) (Nat.le_of_ble_eq_true rfl) (Nat.le_of_ble_eq_true rfl) (y_cons (y_cref hY_n95 rfl) (y_cons ⟨_, rfl, by show ((-1) : Int) ≤ _; omega, by show _ ≤ ((-1) : Int); omega⟩ y_nil)) rfl (y_norecv rfl) trivial (y_sub_ef rfl) fun v Yn o Hn L ho hr ha hIn hx_ hE hP => ?_
  replace hs9 := y_Efld hE hY_this rfl (by decide) (by decide) hs9
  replace hs17 := y_Efld hE hY_this rfl (by decide) (by decide) hs17
  replace hs25 := y_Efld hE hY_this rfl (by decide) (by decide) hs25
  replace hs33 := y_Efld hE hY_this rfl (by decide) (by decide) hs33
  replace hs41 := y_Efld hE hY_this rfl (by decide) (by decide) hs41
  replace hs50 := y_Efld hE hY_this rfl (by decide) (by decide) hs50
  replace hs58 := y_Efld hE hY_this rfl (by decide) (by decide) hs58
  replace hs66 := y_Efld hE hY_this rfl (by decide) (by decide) hs66
  replace hs73 := y_Efld hE hY_this rfl (by decide) (by decide) hs73
  replace hs81 := y_Efld hE hY_this rfl (by decide) (by decide) hs81
  replace hs89 := y_Efld hE hY_this rfl (by decide) (by decide) hs89
  replace hs97 := y_Efld hE hY_this rfl (by decide) (by decide) hs97
  replace hs105 := y_Efld hE hY_this rfl (by decide) (by decide) hs105
  replace hA_n79 := hA_n79.kept (y_Earr hE hY_n79 rfl (by decide))
  replace hA_n71 := hA_n71.kept (y_Earr hE hY_n71 rfl (by decide))
  replace hY_this := y_ext hx_ hI.1 hY_this
  replace hY_n7 := y_ext hx_ hI.1 hY_n7
  replace hY_n15 := y_ext hx_ hI.1 hY_n15
  replace hY_n23 := y_ext hx_ hI.1 hY_n23
  replace hY_n31 := y_ext hx_ hI.1 hY_n31
  replace hY_n39 := y_ext hx_ hI.1 hY_n39
  replace hY_n47 := y_ext hx_ hI.1 hY_n47
  replace hY_n56 := y_ext hx_ hI.1 hY_n56
  replace hY_n64 := y_ext hx_ hI.1 hY_n64
  replace hY_n71 := y_ext hx_ hI.1 hY_n71
  replace hY_n79 := y_ext hx_ hI.1 hY_n79
  replace hY_n87 := y_ext hx_ hI.1 hY_n87
  replace hY_n95 := y_ext hx_ hI.1 hY_n95
  replace hY_n103 := y_ext hx_ hI.1 hY_n103
  obtain rfl := y_ansV rfl ho hr
  clear ho hr ha hE hP hI hx_
  rename x_I _ _ _ _ _ _ _ _ _ _ => hI
  refine y_newo (tag := 11) X hY0 hI rfl ⟨6, _, RX6, TX6, tyX6, rfl, rfl, iX6, tyX6_ok, (hts _ (x_at 100 (by decide +kernel) rfl)), (hts _ (x_at 105 (by decide +kernel) rfl)), (hts _ (x_at 68 (by decide +kernel) rfl)), x_dfl (by decide +kernel)⟩ (Nat.le_of_ble_eq_true rfl) (Nat.le_of_ble_eq_true rfl) l8_d124 fun Yn H n124 hnw => ?_
  obtain ⟨hIn, hmo, hY_n124, hfr_n124, hke⟩ := hnw
  replace hs9 := y_slk hs9 (hke _ _ hY_this)
  replace hs17 := y_slk hs17 (hke _ _ hY_this)
  replace hs25 := y_slk hs25 (hke _ _ hY_this)
  replace hs33 := y_slk hs33 (hke _ _ hY_this)
  replace hs41 := y_slk hs41 (hke _ _ hY_this)
  replace hs50 := y_slk hs50 (hke _ _ hY_this)
  replace hs58 := y_slk hs58 (hke _ _ hY_this)
  replace hs66 := y_slk hs66 (hke _ _ hY_this)
  replace hs73 := y_slk hs73 (hke _ _ hY_this)
  replace hs81 := y_slk hs81 (hke _ _ hY_this)
  replace hs89 := y_slk hs89 (hke _ _ hY_this)
  replace hs97 := y_slk hs97 (hke _ _ hY_this)
  replace hs105 := y_slk hs105 (hke _ _ hY_this)
  replace hA_n79 := hA_n79.kept (hke _ _ hY_n79)
  replace hA_n71 := hA_n71.kept (hke _ _ hY_n71)
  replace hY_this := hmo _ _ hY_this
  replace hY_n7 := hmo _ _ hY_n7
  replace hY_n15 := hmo _ _ hY_n15
  replace hY_n23 := hmo _ _ hY_n23
  replace hY_n31 := hmo _ _ hY_n31
  replace hY_n39 := hmo _ _ hY_n39
  replace hY_n47 := hmo _ _ hY_n47
  replace hY_n56 := hmo _ _ hY_n56
  replace hY_n64 := hmo _ _ hY_n64
  replace hY_n71 := hmo _ _ hY_n71
  replace hY_n79 := hmo _ _ hY_n79
  replace hY_n87 := hmo _ _ hY_n87
  replace hY_n95 := hmo _ _ hY_n95
  replace hY_n103 := hmo _ _ hY_n103
  replace hI := hIn
  clear hIn hmo hke
  refine lv_dup hx hb l8_d127 rfl ?_
  refine lv_iconst hx hb l8_d128 (v := 0) (by decide) ?_
  have ec0 : (0 : Int32).toInt = 0 := by decide
  refine lv_iconst hx hb l8_d129 (v := 0) (by decide) ?_
  refine lv_iconst hx hb l8_d130 (v := 0) (by decide) ?_
  refine lv_iconst hx hb l8_d131 (v := 0) (by decide) ?_
  refine lv_iconst hx hb l8_d132 (v := 0) (by decide) ?_
  refine y_call (z := (2, 60, 6, none, xM13)) (av := [.ref n124, .int (0 : Int32), .int (0 : Int32), .int (0 : Int32), .int (0 : Int32), .int (0 : Int32)]) (rest := [.ref n124]) (y_cok.of (x_cokI (n := 5) X xm13 rfl (x_cons (x_at 106 (by decide +kernel) rfl) (x_cons (x_at 107 (by decide +kernel) rfl) (x_cons (x_at 68 (by decide +kernel) rfl) x_nilm))) (x_at 108 (by decide +kernel) rfl) rfl (fun Y av h => x_this h) (by decide +kernel) ⟨Nat.le_of_ble_eq_true rfl, Nat.le_of_ble_eq_true rfl⟩)) hY0 hI rfl l8_d133 hl.1 (Nat.le_of_ble_eq_true rfl) (Nat.le_of_ble_eq_true rfl) (Nat.le_of_ble_eq_true rfl) (y_cons (y_cref hY_n124 rfl) (y_cons ⟨_, rfl, x_i32 _⟩ (y_cons ⟨_, rfl, x_i32 _⟩ (y_cons ⟨_, rfl, x_i32 _⟩ (y_cons ⟨_, rfl, x_i32 _⟩ (y_cons ⟨_, rfl, x_i32 _⟩ y_nil)))))) rfl (y_norecv rfl) trivial (y_sub_ef rfl) fun v Yn o Hn L ho hr ha hIn hx_ hE hP => ?_
  replace hs9 := y_Efld hE hY_this rfl (by decide) (by decide) hs9
  replace hs17 := y_Efld hE hY_this rfl (by decide) (by decide) hs17
  replace hs25 := y_Efld hE hY_this rfl (by decide) (by decide) hs25
  replace hs33 := y_Efld hE hY_this rfl (by decide) (by decide) hs33
  replace hs41 := y_Efld hE hY_this rfl (by decide) (by decide) hs41
  replace hs50 := y_Efld hE hY_this rfl (by decide) (by decide) hs50
  replace hs58 := y_Efld hE hY_this rfl (by decide) (by decide) hs58
  replace hs66 := y_Efld hE hY_this rfl (by decide) (by decide) hs66
  replace hs73 := y_Efld hE hY_this rfl (by decide) (by decide) hs73
  replace hs81 := y_Efld hE hY_this rfl (by decide) (by decide) hs81
  replace hs89 := y_Efld hE hY_this rfl (by decide) (by decide) hs89
  replace hs97 := y_Efld hE hY_this rfl (by decide) (by decide) hs97
  replace hs105 := y_Efld hE hY_this rfl (by decide) (by decide) hs105
  replace hA_n79 := hA_n79.kept (y_Earr hE hY_n79 rfl (by decide))
  replace hA_n71 := hA_n71.kept (y_Earr hE hY_n71 rfl (by decide))
  replace hY_this := y_ext hx_ hI.1 hY_this
  replace hY_n7 := y_ext hx_ hI.1 hY_n7
  replace hY_n15 := y_ext hx_ hI.1 hY_n15
  replace hY_n23 := y_ext hx_ hI.1 hY_n23
  replace hY_n31 := y_ext hx_ hI.1 hY_n31
  replace hY_n39 := y_ext hx_ hI.1 hY_n39
  replace hY_n47 := y_ext hx_ hI.1 hY_n47
  replace hY_n56 := y_ext hx_ hI.1 hY_n56
  replace hY_n64 := y_ext hx_ hI.1 hY_n64
  replace hY_n71 := y_ext hx_ hI.1 hY_n71
  replace hY_n79 := y_ext hx_ hI.1 hY_n79
  replace hY_n87 := y_ext hx_ hI.1 hY_n87
  replace hY_n95 := y_ext hx_ hI.1 hY_n95
  replace hY_n103 := y_ext hx_ hI.1 hY_n103
  replace hY_n124 := y_ext hx_ hI.1 hY_n124
  obtain rfl := y_ansV rfl ho hr
  clear ho hr ha hE hP hI hx_
  rename x_I _ _ _ _ _ _ _ _ _ _ => hI
  refine lv_astore_n hx hb l8_d136 rfl hl (by decide) (lv' := [(1, .ref n124), (0, .ref this)]) rfl fun ls hl => ?_
  refine lv_iconst hx hb l8_d137 (v := 0) (by decide) ?_
  refine lv_istore_n hx hb l8_d138 rfl hl (by decide) (lv' := [(2, .int (0 : Int32)), (1, .ref n124), (0, .ref this)]) rfl fun ls hl => ?_
  have hs_n7 := hs9
  have hs_n15 := hs17
  have hs_n23 := hs25
  have hs_n31 := hs33
  have hs_n39 := hs41
  have hs_n47 := hs50
  have hs_n56 := hs58
  have hs_n64 := hs66
  have hs_n71 := hs73
  have hs_n79 := hs81
  have hs_n87 := hs89
  have hs_n95 := hs97
  have hs_n103 := hs105
  exact l8_L139 B rfl hfr_n47 hfr_n79 9 _ _ _ _ _ hI hY_this hY_n7 hY_n15 hY_n23 hY_n31 hY_n39 hY_n47 hY_n56 hY_n64 hY_n71 hY_n79 hY_n87 hY_n95 hY_n103 hY_n124 hs_n7 hs_n15 hs_n23 hs_n31 hs_n39 hs_n47 hs_n56 hs_n64 hs_n71 hs_n79 hs_n87 hs_n95 hs_n103 hA_n79 (lv_sub hl [0, 1, 2] rfl) (by first | assumption | omega) (fun j hj => absurd hj (by omega)) (by omega)
theorem t8_d0 : decode xMtx.2.1 0 = .ok (.aload_n 0, 1) := by decide +kernel
theorem t8_d1 : decode xMtx.2.1 1 = .ok (.invokespecial 3, 3) := by decide +kernel
theorem t8_d4 : decode xMtx.2.1 4 = .ok (.aload_n 0, 1) := by decide +kernel
theorem t8_d5 : decode xMtx.2.1 5 = .ok (.new 9, 3) := by decide +kernel
theorem t8_d8 : decode xMtx.2.1 8 = .ok (.dup, 1) := by decide +kernel
theorem t8_d9 : decode xMtx.2.1 9 = .ok (.invokespecial 11, 3) := by decide +kernel
theorem t8_d12 : decode xMtx.2.1 12 = .ok (.putfield 12, 3) := by decide +kernel
theorem t8_d15 : decode xMtx.2.1 15 = .ok (.aload_n 0, 1) := by decide +kernel
theorem t8_d16 : decode xMtx.2.1 16 = .ok (.new 9, 3) := by decide +kernel
theorem t8_d19 : decode xMtx.2.1 19 = .ok (.dup, 1) := by decide +kernel
theorem t8_d20 : decode xMtx.2.1 20 = .ok (.invokespecial 11, 3) := by decide +kernel
theorem t8_d23 : decode xMtx.2.1 23 = .ok (.putfield 16, 3) := by decide +kernel
theorem t8_d26 : decode xMtx.2.1 26 = .ok (.aload_n 0, 1) := by decide +kernel
theorem t8_d27 : decode xMtx.2.1 27 = .ok (.iconst 2, 1) := by decide +kernel
theorem t8_d28 : decode xMtx.2.1 28 = .ok (.anewarray 9, 3) := by decide +kernel
theorem t8_d31 : decode xMtx.2.1 31 = .ok (.putfield 19, 3) := by decide +kernel
theorem t8_d34 : decode xMtx.2.1 34 = .ok (.aload_n 0, 1) := by decide +kernel
theorem t8_d35 : decode xMtx.2.1 35 = .ok (.new 23, 3) := by decide +kernel
theorem t8_d38 : decode xMtx.2.1 38 = .ok (.dup, 1) := by decide +kernel
theorem t8_d39 : decode xMtx.2.1 39 = .ok (.invokespecial 25, 3) := by decide +kernel
theorem t8_d42 : decode xMtx.2.1 42 = .ok (.putfield 26, 3) := by decide +kernel
theorem t8_d45 : decode xMtx.2.1 45 = .ok (.aload_n 0, 1) := by decide +kernel
theorem t8_d46 : decode xMtx.2.1 46 = .ok (.new 30, 3) := by decide +kernel
theorem t8_d49 : decode xMtx.2.1 49 = .ok (.dup, 1) := by decide +kernel
theorem t8_d50 : decode xMtx.2.1 50 = .ok (.invokespecial 32, 3) := by decide +kernel
theorem t8_d53 : decode xMtx.2.1 53 = .ok (.putfield 33, 3) := by decide +kernel
theorem t8_d56 : decode xMtx.2.1 56 = .ok (.aload_n 0, 1) := by decide +kernel
theorem t8_d57 : decode xMtx.2.1 57 = .ok (.new 37, 3) := by decide +kernel
theorem t8_d60 : decode xMtx.2.1 60 = .ok (.dup, 1) := by decide +kernel
theorem t8_d61 : decode xMtx.2.1 61 = .ok (.invokespecial 39, 3) := by decide +kernel
theorem t8_d64 : decode xMtx.2.1 64 = .ok (.putfield 40, 3) := by decide +kernel
theorem t8_d67 : decode xMtx.2.1 67 = .ok (.aload_n 0, 1) := by decide +kernel
theorem t8_d68 : decode xMtx.2.1 68 = .ok (.iconst 3, 1) := by decide +kernel
theorem t8_d69 : decode xMtx.2.1 69 = .ok (.newarray .int, 2) := by decide +kernel
theorem t8_d71 : decode xMtx.2.1 71 = .ok (.putfield 44, 3) := by decide +kernel
theorem t8_d74 : decode xMtx.2.1 74 = .ok (.aload_n 0, 1) := by decide +kernel
theorem t8_d75 : decode xMtx.2.1 75 = .ok (.lconst 0, 1) := by decide +kernel
theorem t8_d76 : decode xMtx.2.1 76 = .ok (.putfield 48, 3) := by decide +kernel
theorem t8_d79 : decode xMtx.2.1 79 = .ok (.aload_n 0, 1) := by decide +kernel
theorem t8_d80 : decode xMtx.2.1 80 = .ok (.lconst 1, 1) := by decide +kernel
theorem t8_d81 : decode xMtx.2.1 81 = .ok (.putfield 52, 3) := by decide +kernel
theorem t8_d84 : decode xMtx.2.1 84 = .ok (.return_, 1) := by decide +kernel
theorem ym_twInit8 : y_Met vwCl x_G x_Zs x_Tb x_Nb xMtx y_T z_Pt8 := by
  refine y_main (by decide +kernel) (by decide +kernel) x_Tb_good x_Nb_ok ?_
  intro p l e s m below meth c D U Y0 av ls B hI _ hl
  have X := B.1
  have hx := X.1
  have hb := X.2.1
  have hY0 := B.2.2.2.2.1
  have hts := X.2.2.2.2.1
  have hnm := B.2.2.2.1
  obtain ⟨v0, rfl, hv0⟩ := x_one B.2.2.2.2.2
  obtain ⟨this, t0, rfl, ht0, hY_this⟩ := x_ref_at hv0 rfl
  obtain rfl := List.mem_singleton.mp ht0
  replace hl : lv_has ls xMtx.2.2.1 [(0, .ref this)] := hl
  refine lv_aload_n hx hb t8_d0 rfl (lv_at hl 0 rfl) ?_
  refine y_oi X (hts _ (x_at 91 (by decide +kernel) rfl)) (hts _ (x_at 92 (by decide +kernel) rfl)) (hts _ (x_at 93 (by decide +kernel) rfl)) (Nat.le_of_ble_eq_true rfl) (Nat.le_of_ble_eq_true rfl) hl.1 (Nat.le_of_ble_eq_true rfl) t8_d1 ?_
  refine lv_aload_n hx hb t8_d4 rfl (lv_at hl 0 rfl) ?_
  refine y_newo (tag := 3) X hY0 hI rfl ⟨2, _, RX2, TX2, tyX2, rfl, rfl, iX2, tyX2_ok, (hts _ (x_at 94 (by decide +kernel) rfl)), (hts _ (x_at 95 (by decide +kernel) rfl)), (hts _ (x_at 66 (by decide +kernel) rfl)), x_dfl (by decide +kernel)⟩ (Nat.le_of_ble_eq_true rfl) (Nat.le_of_ble_eq_true rfl) t8_d5 fun Yn H n5 hnw => ?_
  obtain ⟨hIn, hmo, hY_n5, hfr_n5, hke⟩ := hnw
  replace hY_this := hmo _ _ hY_this
  replace hI := hIn
  clear hIn hmo hke
  refine lv_dup hx hb t8_d8 rfl ?_
  refine y_callCP (z := (2, 11, 1, none, xMli)) (b := n5) (rest := [.ref n5, .ref this]) (y_cokI (n := 0) X ym_landInit8 rfl (x_cons (x_at 96 (by decide +kernel) rfl) (x_cons (x_at 97 (by decide +kernel) rfl) (x_cons (x_at 66 (by decide +kernel) rfl) x_nilm))) (x_at 98 (by decide +kernel) rfl) rfl (fun Y av h => x_this h) (by decide +kernel) ⟨Nat.le_of_ble_eq_true rfl, Nat.le_of_ble_eq_true rfl⟩) hY0 hI rfl t8_d9 hl.1 (Nat.le_of_ble_eq_true rfl) (Nat.le_of_ble_eq_true rfl) (Nat.le_of_ble_eq_true rfl) (y_cons (y_cref hY_n5 rfl) y_nil) rfl rfl trivial (y_sub_ef (by decide +kernel)) hfr_n5 rfl fun Yn Hn L hIn hY_n hk hE hP => ?_
  obtain ⟨mn5, hs_mn5, hY_mn5, hfr_mn5, hA_mn5⟩ := hP _ rfl
  replace hY_this := hk _ _ (y_ne hY_this hY_n5 rfl) hY_this
  replace hY_n5 := hY_n
  clear hI hE hk hY_n hP
  rename x_I _ _ _ _ _ _ _ _ _ _ => hI
  refine y_putf X (fw224 X.2.2.2.2.1) hY0 hI hY_this rfl rfl (y_crefA hY_n5 rfl) (by decide +kernel) t8_d12 fun H sl hI ho hs hk => ?_
  replace hs_mn5 := y_slk hs_mn5 (ho _ (y_ne hY_n5 hY_this rfl))
  replace hA_mn5 := hA_mn5.kept (ho _ (y_ne hY_mn5 hY_this rfl))
  replace hs := hs
  have hs12 := hs
  refine lv_aload_n hx hb t8_d15 rfl (lv_at hl 0 rfl) ?_
  refine y_newo (tag := 3) X hY0 hI rfl ⟨2, _, RX2, TX2, tyX2, rfl, rfl, iX2, tyX2_ok, (hts _ (x_at 94 (by decide +kernel) rfl)), (hts _ (x_at 95 (by decide +kernel) rfl)), (hts _ (x_at 66 (by decide +kernel) rfl)), x_dfl (by decide +kernel)⟩ (Nat.le_of_ble_eq_true rfl) (Nat.le_of_ble_eq_true rfl) t8_d16 fun Yn H n16 hnw => ?_
  obtain ⟨hIn, hmo, hY_n16, hfr_n16, hke⟩ := hnw
  replace hs_mn5 := y_slk hs_mn5 (hke _ _ hY_n5)
  replace hs12 := y_slk hs12 (hke _ _ hY_this)
  replace hA_mn5 := hA_mn5.kept (hke _ _ hY_mn5)
  replace hY_this := hmo _ _ hY_this
  replace hY_n5 := hmo _ _ hY_n5
  replace hY_mn5 := hmo _ _ hY_mn5
  replace hI := hIn
  clear hIn hmo hke
  refine lv_dup hx hb t8_d19 rfl ?_
  refine y_callCP (z := (2, 11, 1, none, xMli)) (b := n16) (rest := [.ref n16, .ref this]) (y_cokI (n := 0) X ym_landInit8 rfl (x_cons (x_at 96 (by decide +kernel) rfl) (x_cons (x_at 97 (by decide +kernel) rfl) (x_cons (x_at 66 (by decide +kernel) rfl) x_nilm))) (x_at 98 (by decide +kernel) rfl) rfl (fun Y av h => x_this h) (by decide +kernel) ⟨Nat.le_of_ble_eq_true rfl, Nat.le_of_ble_eq_true rfl⟩) hY0 hI rfl t8_d20 hl.1 (Nat.le_of_ble_eq_true rfl) (Nat.le_of_ble_eq_true rfl) (Nat.le_of_ble_eq_true rfl) (y_cons (y_cref hY_n16 rfl) y_nil) rfl rfl trivial (y_sub_ef (by decide +kernel)) hfr_n16 rfl fun Yn Hn L hIn hY_n hk hE hP => ?_
  obtain ⟨mn16, hs_mn16, hY_mn16, hfr_mn16, hA_mn16⟩ := hP _ rfl
  have hne : mn5 ≠ mn16 := fun e0 => by have := hI.1.lt hY_mn5; omega
  replace hs_mn5 := y_Efld hE hY_n5 rfl (by decide) (by decide) hs_mn5
  replace hs12 := y_Efld hE hY_this rfl (by decide) (by decide) hs12
  replace hA_mn5 := hA_mn5.kept (y_Earr hE hY_mn5 rfl (by decide))
  replace hY_this := hk _ _ (y_ne hY_this hY_n16 rfl) hY_this
  replace hY_n5 := hk _ _ (y_ne hY_n5 hY_n16 rfl) hY_n5
  replace hY_mn5 := hk _ _ (y_ne hY_mn5 hY_n16 rfl) hY_mn5
  replace hY_n16 := hY_n
  clear hI hE hk hY_n hP
  rename x_I _ _ _ _ _ _ _ _ _ _ => hI
  refine y_putf X (fw225 X.2.2.2.2.1) hY0 hI hY_this rfl rfl (y_crefA hY_n16 rfl) (by decide +kernel) t8_d23 fun H sl hI ho hs hk => ?_
  replace hs_mn5 := y_slk hs_mn5 (ho _ (y_ne hY_n5 hY_this rfl))
  replace hs12 := hk _ _ (by decide +kernel) (by decide) hs12
  replace hs_mn16 := y_slk hs_mn16 (ho _ (y_ne hY_n16 hY_this rfl))
  replace hA_mn5 := hA_mn5.kept (ho _ (y_ne hY_mn5 hY_this rfl))
  replace hs := hs
  have hs23 := hs
  refine lv_aload_n hx hb t8_d26 rfl (lv_at hl 0 rfl) ?_
  refine lv_iconst hx hb t8_d27 (v := 2) (by decide) ?_
  have ec2 : (2 : Int32).toInt = 2 := by decide
  refine y_newrC (tag := 41) (k := 2) (C := "TwinFires$Land") X hY0 hI rfl (by decide) (hts _ (x_at 94 (by decide +kernel) rfl)) (va_AO.use (X.2.2.2.2.2.2.2.2.1 _ (x_nt 224 (by decide +kernel) rfl))) (fun Y j => x_dfa (ty := .object "TwinFires$Land") (by decide +kernel) Y j) (by decide) (Nat.le_of_ble_eq_true rfl) (Nat.le_of_ble_eq_true rfl) t8_d28 fun Yn H n28 hnw hct => ?_
  obtain ⟨hIn, hmo, hY_n28, hfr_n28, hke⟩ := hnw
  replace hs_mn5 := y_slk hs_mn5 (hke _ _ hY_n5)
  replace hs12 := y_slk hs12 (hke _ _ hY_this)
  replace hs_mn16 := y_slk hs_mn16 (hke _ _ hY_n16)
  replace hs23 := y_slk hs23 (hke _ _ hY_this)
  replace hA_mn5 := hA_mn5.kept (hke _ _ hY_mn5)
  replace hY_this := hmo _ _ hY_this
  replace hY_n5 := hmo _ _ hY_n5
  replace hY_mn5 := hmo _ _ hY_mn5
  replace hY_n16 := hmo _ _ hY_n16
  replace hY_mn16 := hmo _ _ hY_mn16
  replace hI := hIn
  clear hIn hmo hke
  have hn_n28 := hct
  clear hct
  refine y_putf X (fw226 X.2.2.2.2.1 hnm) hY0 hI hY_this rfl rfl (y_crefA hY_n28 rfl) (by decide +kernel) t8_d31 fun H sl hI ho hs hk => ?_
  replace hs_mn5 := y_slk hs_mn5 (ho _ (y_ne hY_n5 hY_this rfl))
  replace hs12 := hk _ _ (by decide +kernel) (by decide) hs12
  replace hs_mn16 := y_slk hs_mn16 (ho _ (y_ne hY_n16 hY_this rfl))
  replace hs23 := hk _ _ (by decide +kernel) (by decide) hs23
  replace hA_mn5 := hA_mn5.kept (ho _ (y_ne hY_mn5 hY_this rfl))
  replace hn_n28 := fun j hj => (z_atk (ho _ (y_ne hY_n28 hY_this rfl))).trans (hn_n28 j hj)
  replace hs := hs
  have hs31 := hs
  refine lv_aload_n hx hb t8_d34 rfl (lv_at hl 0 rfl) ?_
  refine y_newo (tag := 5) X hY0 hI rfl ⟨7, _, RX7, TX7, tyX7, rfl, rfl, iX7, tyX7_ok, (hts _ (x_at 225 (by decide +kernel) rfl)), (hts _ (x_at 226 (by decide +kernel) rfl)), (hts _ (x_at 69 (by decide +kernel) rfl)), x_dfl (by decide +kernel)⟩ (Nat.le_of_ble_eq_true rfl) (Nat.le_of_ble_eq_true rfl) t8_d35 fun Yn H n35 hnw => ?_
  obtain ⟨hIn, hmo, hY_n35, hfr_n35, hke⟩ := hnw
  replace hs_mn5 := y_slk hs_mn5 (hke _ _ hY_n5)
  replace hs12 := y_slk hs12 (hke _ _ hY_this)
  replace hs_mn16 := y_slk hs_mn16 (hke _ _ hY_n16)
  replace hs23 := y_slk hs23 (hke _ _ hY_this)
  replace hs31 := y_slk hs31 (hke _ _ hY_this)
  replace hA_mn5 := hA_mn5.kept (hke _ _ hY_mn5)
  replace hn_n28 := fun j hj => (z_atk (hke _ _ hY_n28)).trans (hn_n28 j hj)
  replace hY_this := hmo _ _ hY_this
  replace hY_n5 := hmo _ _ hY_n5
  replace hY_mn5 := hmo _ _ hY_mn5
  replace hY_n16 := hmo _ _ hY_n16
  replace hY_mn16 := hmo _ _ hY_mn16
  replace hY_n28 := hmo _ _ hY_n28
  replace hI := hIn
  clear hIn hmo hke
  refine lv_dup hx hb t8_d38 rfl ?_
  refine y_callCP (z := (2, 25, 1, none, xM1018)) (b := n35) (rest := [.ref n35, .ref this]) (y_cok.of (x_cokIN (n := 0) (host := "TwinFires") X xm1018 rfl (x_cons (x_at 228 (by decide +kernel) rfl) (x_cons (x_at 69 (by decide +kernel) rfl) x_nilm)) (x_nt 227 (by decide +kernel) rfl) (x_at 229 (by decide +kernel) rfl) rfl (fun Y av h => x_this h) (by decide +kernel) ⟨Nat.le_of_ble_eq_true rfl, Nat.le_of_ble_eq_true rfl⟩)) hY0 hI rfl t8_d39 hl.1 (Nat.le_of_ble_eq_true rfl) (Nat.le_of_ble_eq_true rfl) (Nat.le_of_ble_eq_true rfl) (y_cons (y_cref hY_n35 rfl) y_nil) rfl rfl trivial (y_sub_ef (by decide +kernel)) hfr_n35 rfl fun Yn Hn L hIn hY_n hk hE hP => ?_
  replace hs_mn5 := y_Efld hE hY_n5 rfl (by decide) (by decide) hs_mn5
  replace hs12 := y_Efld hE hY_this rfl (by decide) (by decide) hs12
  replace hs_mn16 := y_Efld hE hY_n16 rfl (by decide) (by decide) hs_mn16
  replace hs23 := y_Efld hE hY_this rfl (by decide) (by decide) hs23
  replace hs31 := y_Efld hE hY_this rfl (by decide) (by decide) hs31
  replace hA_mn5 := hA_mn5.kept (y_Earr hE hY_mn5 rfl (by decide))
  replace hn_n28 := fun j hj => (z_atk (y_Earr hE hY_n28 rfl (by decide))).trans (hn_n28 j hj)
  replace hY_this := hk _ _ (y_ne hY_this hY_n35 rfl) hY_this
  replace hY_n5 := hk _ _ (y_ne hY_n5 hY_n35 rfl) hY_n5
  replace hY_mn5 := hk _ _ (y_ne hY_mn5 hY_n35 rfl) hY_mn5
  replace hY_n16 := hk _ _ (y_ne hY_n16 hY_n35 rfl) hY_n16
  replace hY_mn16 := hk _ _ (y_ne hY_mn16 hY_n35 rfl) hY_mn16
  replace hY_n28 := hk _ _ (y_ne hY_n28 hY_n35 rfl) hY_n28
  replace hY_n35 := hY_n
  clear hI hE hk hY_n hP
  rename x_I _ _ _ _ _ _ _ _ _ _ => hI
  refine y_putf X (fw227 X.2.2.2.2.1 hnm) hY0 hI hY_this rfl rfl (y_crefA hY_n35 rfl) (by decide +kernel) t8_d42 fun H sl hI ho hs hk => ?_
  replace hs_mn5 := y_slk hs_mn5 (ho _ (y_ne hY_n5 hY_this rfl))
  replace hs12 := hk _ _ (by decide +kernel) (by decide) hs12
  replace hs_mn16 := y_slk hs_mn16 (ho _ (y_ne hY_n16 hY_this rfl))
  replace hs23 := hk _ _ (by decide +kernel) (by decide) hs23
  replace hs31 := hk _ _ (by decide +kernel) (by decide) hs31
  replace hA_mn5 := hA_mn5.kept (ho _ (y_ne hY_mn5 hY_this rfl))
  replace hn_n28 := fun j hj => (z_atk (ho _ (y_ne hY_n28 hY_this rfl))).trans (hn_n28 j hj)
  replace hs := hs
  have hs42 := hs
  refine lv_aload_n hx hb t8_d45 rfl (lv_at hl 0 rfl) ?_
  refine y_newo (tag := 7) X hY0 hI rfl ⟨0, _, RX0, TX0, tyX0, rfl, rfl, iX0, tyX0_ok, (hts _ (x_at 249 (by decide +kernel) rfl)), (hts _ (x_at 250 (by decide +kernel) rfl)), (hts _ (x_at 70 (by decide +kernel) rfl)), x_dfl (by decide +kernel)⟩ (Nat.le_of_ble_eq_true rfl) (Nat.le_of_ble_eq_true rfl) t8_d46 fun Yn H n46 hnw => ?_
  obtain ⟨hIn, hmo, hY_n46, hfr_n46, hke⟩ := hnw
  replace hs_mn5 := y_slk hs_mn5 (hke _ _ hY_n5)
  replace hs12 := y_slk hs12 (hke _ _ hY_this)
  replace hs_mn16 := y_slk hs_mn16 (hke _ _ hY_n16)
  replace hs23 := y_slk hs23 (hke _ _ hY_this)
  replace hs31 := y_slk hs31 (hke _ _ hY_this)
  replace hs42 := y_slk hs42 (hke _ _ hY_this)
  replace hA_mn5 := hA_mn5.kept (hke _ _ hY_mn5)
  replace hn_n28 := fun j hj => (z_atk (hke _ _ hY_n28)).trans (hn_n28 j hj)
  replace hY_this := hmo _ _ hY_this
  replace hY_n5 := hmo _ _ hY_n5
  replace hY_mn5 := hmo _ _ hY_mn5
  replace hY_n16 := hmo _ _ hY_n16
  replace hY_mn16 := hmo _ _ hY_mn16
  replace hY_n28 := hmo _ _ hY_n28
  replace hY_n35 := hmo _ _ hY_n35
  replace hI := hIn
  clear hIn hmo hke
  refine lv_dup hx hb t8_d49 rfl ?_
  refine y_callCP (z := (2, 32, 1, none, xM1020)) (b := n46) (rest := [.ref n46, .ref this]) (y_cok.of (x_cokIN (n := 0) (host := "TwinFires") X xm1020 rfl (x_cons (x_at 252 (by decide +kernel) rfl) (x_cons (x_at 70 (by decide +kernel) rfl) x_nilm)) (x_nt 251 (by decide +kernel) rfl) (x_at 253 (by decide +kernel) rfl) rfl (fun Y av h => x_this h) (by decide +kernel) ⟨Nat.le_of_ble_eq_true rfl, Nat.le_of_ble_eq_true rfl⟩)) hY0 hI rfl t8_d50 hl.1 (Nat.le_of_ble_eq_true rfl) (Nat.le_of_ble_eq_true rfl) (Nat.le_of_ble_eq_true rfl) (y_cons (y_cref hY_n46 rfl) y_nil) rfl rfl trivial (y_sub_ef (by decide +kernel)) hfr_n46 rfl fun Yn Hn L hIn hY_n hk hE hP => ?_
  replace hs_mn5 := y_Efld hE hY_n5 rfl (by decide) (by decide) hs_mn5
  replace hs12 := y_Efld hE hY_this rfl (by decide) (by decide) hs12
  replace hs_mn16 := y_Efld hE hY_n16 rfl (by decide) (by decide) hs_mn16
  replace hs23 := y_Efld hE hY_this rfl (by decide) (by decide) hs23
  replace hs31 := y_Efld hE hY_this rfl (by decide) (by decide) hs31
  replace hs42 := y_Efld hE hY_this rfl (by decide) (by decide) hs42
  replace hA_mn5 := hA_mn5.kept (y_Earr hE hY_mn5 rfl (by decide))
  replace hn_n28 := fun j hj => (z_atk (y_Earr hE hY_n28 rfl (by decide))).trans (hn_n28 j hj)
  replace hY_this := hk _ _ (y_ne hY_this hY_n46 rfl) hY_this
  replace hY_n5 := hk _ _ (y_ne hY_n5 hY_n46 rfl) hY_n5
  replace hY_mn5 := hk _ _ (y_ne hY_mn5 hY_n46 rfl) hY_mn5
  replace hY_n16 := hk _ _ (y_ne hY_n16 hY_n46 rfl) hY_n16
  replace hY_mn16 := hk _ _ (y_ne hY_mn16 hY_n46 rfl) hY_mn16
  replace hY_n28 := hk _ _ (y_ne hY_n28 hY_n46 rfl) hY_n28
  replace hY_n35 := hk _ _ (y_ne hY_n35 hY_n46 rfl) hY_n35
  replace hY_n46 := hY_n
  clear hI hE hk hY_n hP
  rename x_I _ _ _ _ _ _ _ _ _ _ => hI
  refine y_putf X (fw228 X.2.2.2.2.1 hnm) hY0 hI hY_this rfl rfl (y_crefA hY_n46 rfl) (by decide +kernel) t8_d53 fun H sl hI ho hs hk => ?_
  replace hs_mn5 := y_slk hs_mn5 (ho _ (y_ne hY_n5 hY_this rfl))
  replace hs12 := hk _ _ (by decide +kernel) (by decide) hs12
  replace hs_mn16 := y_slk hs_mn16 (ho _ (y_ne hY_n16 hY_this rfl))
  replace hs23 := hk _ _ (by decide +kernel) (by decide) hs23
  replace hs31 := hk _ _ (by decide +kernel) (by decide) hs31
  replace hs42 := hk _ _ (by decide +kernel) (by decide) hs42
  replace hA_mn5 := hA_mn5.kept (ho _ (y_ne hY_mn5 hY_this rfl))
  replace hn_n28 := fun j hj => (z_atk (ho _ (y_ne hY_n28 hY_this rfl))).trans (hn_n28 j hj)
  replace hs := hs
  have hs53 := hs
  refine lv_aload_n hx hb t8_d56 rfl (lv_at hl 0 rfl) ?_
  refine y_newo (tag := 9) X hY0 hI rfl ⟨5, _, RX5, TX5, tyX5, rfl, rfl, iX5, tyX5_ok, (hts _ (x_at 302 (by decide +kernel) rfl)), (hts _ (x_at 303 (by decide +kernel) rfl)), (hts _ (x_at 72 (by decide +kernel) rfl)), x_dfl (by decide +kernel)⟩ (Nat.le_of_ble_eq_true rfl) (Nat.le_of_ble_eq_true rfl) t8_d57 fun Yn H n57 hnw => ?_
  obtain ⟨hIn, hmo, hY_n57, hfr_n57, hke⟩ := hnw
  replace hs_mn5 := y_slk hs_mn5 (hke _ _ hY_n5)
  replace hs12 := y_slk hs12 (hke _ _ hY_this)
  replace hs_mn16 := y_slk hs_mn16 (hke _ _ hY_n16)
  replace hs23 := y_slk hs23 (hke _ _ hY_this)
  replace hs31 := y_slk hs31 (hke _ _ hY_this)
  replace hs42 := y_slk hs42 (hke _ _ hY_this)
  replace hs53 := y_slk hs53 (hke _ _ hY_this)
  replace hA_mn5 := hA_mn5.kept (hke _ _ hY_mn5)
  replace hn_n28 := fun j hj => (z_atk (hke _ _ hY_n28)).trans (hn_n28 j hj)
  replace hY_this := hmo _ _ hY_this
  replace hY_n5 := hmo _ _ hY_n5
  replace hY_mn5 := hmo _ _ hY_mn5
  replace hY_n16 := hmo _ _ hY_n16
  replace hY_mn16 := hmo _ _ hY_mn16
  replace hY_n28 := hmo _ _ hY_n28
  replace hY_n35 := hmo _ _ hY_n35
  replace hY_n46 := hmo _ _ hY_n46
  replace hI := hIn
  clear hIn hmo hke
  refine lv_dup hx hb t8_d60 rfl ?_
  refine y_callCP (z := (2, 39, 1, none, xM1021)) (b := n57) (rest := [.ref n57, .ref this]) (y_cok.of (x_cokIN (n := 0) (host := "TwinFires") X xm1021 rfl (x_cons (x_at 305 (by decide +kernel) rfl) (x_cons (x_at 72 (by decide +kernel) rfl) x_nilm)) (x_nt 304 (by decide +kernel) rfl) (x_at 306 (by decide +kernel) rfl) rfl (fun Y av h => x_this h) (by decide +kernel) ⟨Nat.le_of_ble_eq_true rfl, Nat.le_of_ble_eq_true rfl⟩)) hY0 hI rfl t8_d61 hl.1 (Nat.le_of_ble_eq_true rfl) (Nat.le_of_ble_eq_true rfl) (Nat.le_of_ble_eq_true rfl) (y_cons (y_cref hY_n57 rfl) y_nil) rfl rfl trivial (y_sub_ef (by decide +kernel)) hfr_n57 rfl fun Yn Hn L hIn hY_n hk hE hP => ?_
  replace hs_mn5 := y_Efld hE hY_n5 rfl (by decide) (by decide) hs_mn5
  replace hs12 := y_Efld hE hY_this rfl (by decide) (by decide) hs12
  replace hs_mn16 := y_Efld hE hY_n16 rfl (by decide) (by decide) hs_mn16
  replace hs23 := y_Efld hE hY_this rfl (by decide) (by decide) hs23
  replace hs31 := y_Efld hE hY_this rfl (by decide) (by decide) hs31
  replace hs42 := y_Efld hE hY_this rfl (by decide) (by decide) hs42
  replace hs53 := y_Efld hE hY_this rfl (by decide) (by decide) hs53
  replace hA_mn5 := hA_mn5.kept (y_Earr hE hY_mn5 rfl (by decide))
  replace hn_n28 := fun j hj => (z_atk (y_Earr hE hY_n28 rfl (by decide))).trans (hn_n28 j hj)
  replace hY_this := hk _ _ (y_ne hY_this hY_n57 rfl) hY_this
  replace hY_n5 := hk _ _ (y_ne hY_n5 hY_n57 rfl) hY_n5
  replace hY_mn5 := hk _ _ (y_ne hY_mn5 hY_n57 rfl) hY_mn5
  replace hY_n16 := hk _ _ (y_ne hY_n16 hY_n57 rfl) hY_n16
  replace hY_mn16 := hk _ _ (y_ne hY_mn16 hY_n57 rfl) hY_mn16
  replace hY_n28 := hk _ _ (y_ne hY_n28 hY_n57 rfl) hY_n28
  replace hY_n35 := hk _ _ (y_ne hY_n35 hY_n57 rfl) hY_n35
  replace hY_n46 := hk _ _ (y_ne hY_n46 hY_n57 rfl) hY_n46
  replace hY_n57 := hY_n
  clear hI hE hk hY_n hP
  rename x_I _ _ _ _ _ _ _ _ _ _ => hI
  refine y_putf X (fw229 X.2.2.2.2.1 hnm) hY0 hI hY_this rfl rfl (y_crefA hY_n57 rfl) (by decide +kernel) t8_d64 fun H sl hI ho hs hk => ?_
  replace hs_mn5 := y_slk hs_mn5 (ho _ (y_ne hY_n5 hY_this rfl))
  replace hs12 := hk _ _ (by decide +kernel) (by decide) hs12
  replace hs_mn16 := y_slk hs_mn16 (ho _ (y_ne hY_n16 hY_this rfl))
  replace hs23 := hk _ _ (by decide +kernel) (by decide) hs23
  replace hs31 := hk _ _ (by decide +kernel) (by decide) hs31
  replace hs42 := hk _ _ (by decide +kernel) (by decide) hs42
  replace hs53 := hk _ _ (by decide +kernel) (by decide) hs53
  replace hA_mn5 := hA_mn5.kept (ho _ (y_ne hY_mn5 hY_this rfl))
  replace hn_n28 := fun j hj => (z_atk (ho _ (y_ne hY_n28 hY_this rfl))).trans (hn_n28 j hj)
  replace hs := hs
  have hs64 := hs
  refine lv_aload_n hx hb t8_d67 rfl (lv_at hl 0 rfl) ?_
  refine lv_iconst hx hb t8_d68 (v := 3) (by decide) ?_
  have ec3 : (3 : Int32).toInt = 3 := by decide
  refine y_newaC (tag := 42) (k := 3) X hY0 hI rfl rfl (by decide) (hts _ (x_at 145 (by decide +kernel) rfl)) (fun Y j => x_dfa (by decide +kernel) Y j) (by decide) (Nat.le_of_ble_eq_true rfl) (Nat.le_of_ble_eq_true rfl) t8_d69 fun Yn H n69 hnw hct => ?_
  obtain ⟨hIn, hmo, hY_n69, hfr_n69, hke⟩ := hnw
  replace hs_mn5 := y_slk hs_mn5 (hke _ _ hY_n5)
  replace hs12 := y_slk hs12 (hke _ _ hY_this)
  replace hs_mn16 := y_slk hs_mn16 (hke _ _ hY_n16)
  replace hs23 := y_slk hs23 (hke _ _ hY_this)
  replace hs31 := y_slk hs31 (hke _ _ hY_this)
  replace hs42 := y_slk hs42 (hke _ _ hY_this)
  replace hs53 := y_slk hs53 (hke _ _ hY_this)
  replace hs64 := y_slk hs64 (hke _ _ hY_this)
  replace hA_mn5 := hA_mn5.kept (hke _ _ hY_mn5)
  replace hn_n28 := fun j hj => (z_atk (hke _ _ hY_n28)).trans (hn_n28 j hj)
  replace hY_this := hmo _ _ hY_this
  replace hY_n5 := hmo _ _ hY_n5
  replace hY_mn5 := hmo _ _ hY_mn5
  replace hY_n16 := hmo _ _ hY_n16
  replace hY_mn16 := hmo _ _ hY_mn16
  replace hY_n28 := hmo _ _ hY_n28
  replace hY_n35 := hmo _ _ hY_n35
  replace hY_n46 := hmo _ _ hY_n46
  replace hY_n57 := hmo _ _ hY_n57
  replace hI := hIn
  clear hIn hmo hke
  clear hct
  refine y_putf X (fw230 X.2.2.2.2.1 hnm) hY0 hI hY_this rfl rfl (y_crefA hY_n69 rfl) (by decide +kernel) t8_d71 fun H sl hI ho hs hk => ?_
  replace hs_mn5 := y_slk hs_mn5 (ho _ (y_ne hY_n5 hY_this rfl))
  replace hs12 := hk _ _ (by decide +kernel) (by decide) hs12
  replace hs_mn16 := y_slk hs_mn16 (ho _ (y_ne hY_n16 hY_this rfl))
  replace hs23 := hk _ _ (by decide +kernel) (by decide) hs23
  replace hs31 := hk _ _ (by decide +kernel) (by decide) hs31
  replace hs42 := hk _ _ (by decide +kernel) (by decide) hs42
  replace hs53 := hk _ _ (by decide +kernel) (by decide) hs53
  replace hs64 := hk _ _ (by decide +kernel) (by decide) hs64
  replace hA_mn5 := hA_mn5.kept (ho _ (y_ne hY_mn5 hY_this rfl))
  replace hn_n28 := fun j hj => (z_atk (ho _ (y_ne hY_n28 hY_this rfl))).trans (hn_n28 j hj)
  replace hs := hs
  have hs71 := hs
  refine lv_aload_n hx hb t8_d74 rfl (lv_at hl 0 rfl) ?_
  refine lv_lconst hx hb t8_d75 (v := 0) (by decide) ?_
  have el0 : (0 : Int64).toInt = 0 := by decide
  refine y_putf X (fw231 X.2.2.2.2.1) hY0 hI hY_this rfl rfl ⟨_, rfl, x_i64 _⟩ (by decide +kernel) t8_d76 fun H sl hI ho hs hk => ?_
  replace hs_mn5 := y_slk hs_mn5 (ho _ (y_ne hY_n5 hY_this rfl))
  replace hs12 := hk _ _ (by decide +kernel) (by decide) hs12
  replace hs_mn16 := y_slk hs_mn16 (ho _ (y_ne hY_n16 hY_this rfl))
  replace hs23 := hk _ _ (by decide +kernel) (by decide) hs23
  replace hs31 := hk _ _ (by decide +kernel) (by decide) hs31
  replace hs42 := hk _ _ (by decide +kernel) (by decide) hs42
  replace hs53 := hk _ _ (by decide +kernel) (by decide) hs53
  replace hs64 := hk _ _ (by decide +kernel) (by decide) hs64
  replace hs71 := hk _ _ (by decide +kernel) (by decide) hs71
  replace hA_mn5 := hA_mn5.kept (ho _ (y_ne hY_mn5 hY_this rfl))
  replace hn_n28 := fun j hj => (z_atk (ho _ (y_ne hY_n28 hY_this rfl))).trans (hn_n28 j hj)
  replace hs := hs
  have hs76 := hs
  refine lv_aload_n hx hb t8_d79 rfl (lv_at hl 0 rfl) ?_
  refine lv_lconst hx hb t8_d80 (v := 1) (by decide) ?_
  have el1 : (1 : Int64).toInt = 1 := by decide
  refine y_putf X (fw232 X.2.2.2.2.1) hY0 hI hY_this rfl rfl ⟨_, rfl, x_i64 _⟩ (by decide +kernel) t8_d81 fun H sl hI ho hs hk => ?_
  replace hs_mn5 := y_slk hs_mn5 (ho _ (y_ne hY_n5 hY_this rfl))
  replace hs12 := hk _ _ (by decide +kernel) (by decide) hs12
  replace hs_mn16 := y_slk hs_mn16 (ho _ (y_ne hY_n16 hY_this rfl))
  replace hs23 := hk _ _ (by decide +kernel) (by decide) hs23
  replace hs31 := hk _ _ (by decide +kernel) (by decide) hs31
  replace hs42 := hk _ _ (by decide +kernel) (by decide) hs42
  replace hs53 := hk _ _ (by decide +kernel) (by decide) hs53
  replace hs64 := hk _ _ (by decide +kernel) (by decide) hs64
  replace hs71 := hk _ _ (by decide +kernel) (by decide) hs71
  replace hs76 := hk _ _ (by decide +kernel) (by decide) hs76
  replace hA_mn5 := hA_mn5.kept (ho _ (y_ne hY_mn5 hY_this rfl))
  replace hn_n28 := fun j hj => (z_atk (ho _ (y_ne hY_n28 hY_this rfl))).trans (hn_n28 j hj)
  replace hs := hs
  have hs81 := hs
  have hYC := hY_this
  have hf : ∀ (k : Nat) (ft : xV), ([xR false [2], xR false [2], xR false [41], xR false [4], xR false [6], xR false [8], xR false [42], xFL, xFL])[k]? = some ft → ∃ v : Value, x_sl D 11 k this H = some v ∧ x_c Yn ft v ∧ x_nrT 1 ft = true := fun k ft hk => match k, hk with
      | 0, hk => by cases hk; exact ⟨_, hs12, y_crefA hY_n5 rfl, rfl⟩
      | 1, hk => by cases hk; exact ⟨_, hs23, y_crefA hY_n16 rfl, rfl⟩
      | 2, hk => by cases hk; exact ⟨_, hs31, y_crefA hY_n28 rfl, rfl⟩
      | 3, hk => by cases hk; exact ⟨_, hs42, y_crefA hY_n35 rfl, rfl⟩
      | 4, hk => by cases hk; exact ⟨_, hs53, y_crefA hY_n46 rfl, rfl⟩
      | 5, hk => by cases hk; exact ⟨_, hs64, y_crefA hY_n57 rfl, rfl⟩
      | 6, hk => by cases hk; exact ⟨_, hs71, y_crefA hY_n69 rfl, rfl⟩
      | 7, hk => by cases hk; obtain ⟨v, e1, e2⟩ := y_fld (k := 7) hI.1 hYC rfl rfl; exact ⟨v, e1, e2, rfl⟩
      | 8, hk => by cases hk; obtain ⟨v, e1, e2⟩ := y_fld (k := 8) hI.1 hYC rfl rfl; exact ⟨v, e1, e2, rfl⟩
      | k + 9, hk => by cases hk
  exact y_retC (o := (11, [xR false [2], xR false [2], xR false [41], xR false [4], xR false [6], xR false [8], xR false [42], xFL, xFL])) B hI rfl rfl hYC rfl rfl rfl rfl (by decide +kernel) (by decide +kernel) List.mem_cons_self hf (fun t' h1 => by cases h1; exact ⟨n5, n16, n28, mn5, mn16, hs12, hs23, hs31, (x_up_ne (y_ne hY_n5 hYC rfl)).trans hY_n5, (x_up_ne (y_ne hY_n16 hYC rfl)).trans hY_n16, (x_up_ne (y_ne hY_n28 hYC rfl)).trans hY_n28, hs_mn5, hs_mn16, (x_up_ne (y_ne hY_mn5 hYC rfl)).trans hY_mn5, (x_up_ne (y_ne hY_mn16 hYC rfl)).trans hY_mn16, hne, hA_mn5, fun j hj => Or.inl ⟨rfl, hn_n28 j hj⟩, fun q q' m g1 => by rw [hn_n28 0 (by decide)] at g1; cases g1⟩) (by exact Nat.le_of_ble_eq_true rfl) (by exact Nat.le_of_ble_eq_true rfl) t8_d84
theorem tz_d0 : decode xMtl.2.1 0 = .ok (.aload_n 0, 1) := by decide +kernel
theorem tz_d1 : decode xMtl.2.1 1 = .ok (.getfield 16, 3) := by decide +kernel
theorem tz_d4 : decode xMtl.2.1 4 = .ok (.aload_n 0, 1) := by decide +kernel
theorem tz_d5 : decode xMtl.2.1 5 = .ok (.getfield 12, 3) := by decide +kernel
theorem tz_d8 : decode xMtl.2.1 8 = .ok (.invokevirtual 148, 3) := by decide +kernel
theorem tz_d11 : decode xMtl.2.1 11 = .ok (.aload_n 0, 1) := by decide +kernel
theorem tz_d12 : decode xMtl.2.1 12 = .ok (.getfield 16, 3) := by decide +kernel
theorem tz_d15 : decode xMtl.2.1 15 = .ok (.invokevirtual 152, 3) := by decide +kernel
theorem tz_d18 : decode xMtl.2.1 18 = .ok (.aload_n 0, 1) := by decide +kernel
theorem tz_d19 : decode xMtl.2.1 19 = .ok (.getfield 26, 3) := by decide +kernel
theorem tz_d22 : decode xMtl.2.1 22 = .ok (.invokevirtual 155, 3) := by decide +kernel
theorem tz_d25 : decode xMtl.2.1 25 = .ok (.iconst 0, 1) := by decide +kernel
theorem tz_d26 : decode xMtl.2.1 26 = .ok (.istore_n 1, 1) := by decide +kernel
theorem tz_d27 : decode xMtl.2.1 27 = .ok (.iconst (-1), 1) := by decide +kernel
theorem tz_d28 : decode xMtl.2.1 28 = .ok (.istore_n 2, 1) := by decide +kernel
theorem tz_d29 : decode xMtl.2.1 29 = .ok (.aload_n 0, 1) := by decide +kernel
theorem tz_d30 : decode xMtl.2.1 30 = .ok (.getfield 26, 3) := by decide +kernel
theorem tz_d33 : decode xMtl.2.1 33 = .ok (.invokevirtual 158, 3) := by decide +kernel
theorem tz_d36 : decode xMtl.2.1 36 = .ok (.istore_n 3, 1) := by decide +kernel
theorem tz_d37 : decode xMtl.2.1 37 = .ok (.iload_n 3, 1) := by decide +kernel
theorem tz_d38 : decode xMtl.2.1 38 = .ok (.ifCond .lt 49, 3) := by decide +kernel
theorem tz_d41 : decode xMtl.2.1 41 = .ok (.iload_n 1, 1) := by decide +kernel
theorem tz_d42 : decode xMtl.2.1 42 = .ok (.sipush 240, 3) := by decide +kernel
theorem tz_d45 : decode xMtl.2.1 45 = .ok (.if_icmp .ge 42, 3) := by decide +kernel
theorem tz_d48 : decode xMtl.2.1 48 = .ok (.iload_n 2, 1) := by decide +kernel
theorem tz_d49 : decode xMtl.2.1 49 = .ok (.iconst (-1), 1) := by decide +kernel
theorem tz_d50 : decode xMtl.2.1 50 = .ok (.if_icmp .ne 23, 3) := by decide +kernel
theorem tz_d53 : decode xMtl.2.1 53 = .ok (.aload_n 0, 1) := by decide +kernel
theorem tz_d54 : decode xMtl.2.1 54 = .ok (.getfield 16, 3) := by decide +kernel
theorem tz_d57 : decode xMtl.2.1 57 = .ok (.iload_n 3, 1) := by decide +kernel
theorem tz_d58 : decode xMtl.2.1 58 = .ok (.aload_n 0, 1) := by decide +kernel
theorem tz_d59 : decode xMtl.2.1 59 = .ok (.getfield 26, 3) := by decide +kernel
theorem tz_d62 : decode xMtl.2.1 62 = .ok (.getfield 162, 3) := by decide +kernel
theorem tz_d65 : decode xMtl.2.1 65 = .ok (.invokevirtual 165, 3) := by decide +kernel
theorem tz_d68 : decode xMtl.2.1 68 = .ok (.ifCond .ge 5, 3) := by decide +kernel
theorem tz_d71 : decode xMtl.2.1 71 = .ok (.iload_n 1, 1) := by decide +kernel
theorem tz_d72 : decode xMtl.2.1 72 = .ok (.istore_n 2, 1) := by decide +kernel
theorem tz_d73 : decode xMtl.2.1 73 = .ok (.iinc 1 1, 3) := by decide +kernel
theorem tz_d76 : decode xMtl.2.1 76 = .ok (.aload_n 0, 1) := by decide +kernel
theorem tz_d77 : decode xMtl.2.1 77 = .ok (.getfield 26, 3) := by decide +kernel
theorem tz_d80 : decode xMtl.2.1 80 = .ok (.invokevirtual 158, 3) := by decide +kernel
theorem tz_d83 : decode xMtl.2.1 83 = .ok (.istore_n 3, 1) := by decide +kernel
theorem tz_d84 : decode xMtl.2.1 84 = .ok (.goto (-47), 3) := by decide +kernel
theorem tz_d87 : decode xMtl.2.1 87 = .ok (.iload_n 3, 1) := by decide +kernel
theorem tz_d88 : decode xMtl.2.1 88 = .ok (.iconst (-1), 1) := by decide +kernel
theorem tz_d89 : decode xMtl.2.1 89 = .ok (.if_icmp .eq 5, 3) := by decide +kernel
theorem tz_d92 : decode xMtl.2.1 92 = .ok (.iload_n 3, 1) := by decide +kernel
theorem tz_d93 : decode xMtl.2.1 93 = .ok (.ireturn, 1) := by decide +kernel
theorem tz_d94 : decode xMtl.2.1 94 = .ok (.iload_n 2, 1) := by decide +kernel
theorem tz_d95 : decode xMtl.2.1 95 = .ok (.iconst (-1), 1) := by decide +kernel
theorem tz_d96 : decode xMtl.2.1 96 = .ok (.if_icmp .eq 9, 3) := by decide +kernel
theorem tz_d99 : decode xMtl.2.1 99 = .ok (.sipush (-1000), 3) := by decide +kernel
theorem tz_d102 : decode xMtl.2.1 102 = .ok (.iload_n 2, 1) := by decide +kernel
theorem tz_d103 : decode xMtl.2.1 103 = .ok (.isub, 1) := by decide +kernel
theorem tz_d104 : decode xMtl.2.1 104 = .ok (.ireturn, 1) := by decide +kernel
theorem tz_d105 : decode xMtl.2.1 105 = .ok (.aload_n 0, 1) := by decide +kernel
theorem tz_d106 : decode xMtl.2.1 106 = .ok (.getfield 12, 3) := by decide +kernel
theorem tz_d109 : decode xMtl.2.1 109 = .ok (.astore 4, 2) := by decide +kernel
theorem tz_d111 : decode xMtl.2.1 111 = .ok (.aload_n 0, 1) := by decide +kernel
theorem tz_d112 : decode xMtl.2.1 112 = .ok (.aload_n 0, 1) := by decide +kernel
theorem tz_d113 : decode xMtl.2.1 113 = .ok (.getfield 16, 3) := by decide +kernel
theorem tz_d116 : decode xMtl.2.1 116 = .ok (.putfield 12, 3) := by decide +kernel
theorem tz_d119 : decode xMtl.2.1 119 = .ok (.aload_n 0, 1) := by decide +kernel
theorem tz_d120 : decode xMtl.2.1 120 = .ok (.aload 4, 2) := by decide +kernel
theorem tz_d122 : decode xMtl.2.1 122 = .ok (.putfield 16, 3) := by decide +kernel
theorem tz_d125 : decode xMtl.2.1 125 = .ok (.iload_n 1, 1) := by decide +kernel
theorem tz_d126 : decode xMtl.2.1 126 = .ok (.ireturn, 1) := by decide +kernel
theorem tz_L37 {p : Program} {l : Launch} {e : Env} {s : State} {m : MethodId} {below : List Frame} {meth : Method} {c : Code} {D : va_G} {U : State} {Y0 : xY} {av : List Value} (B : y_B vwCl x_Tb x_Nb xMtl p s m meth c D U Y0 av) {this hd dr tx mh md : Nat} (hav : av = [.ref this]) (hs00 : x_sl D 11 0 this s.heap = some (.ref hd)) (hs01 : x_sl D 11 1 this s.heap = some (.ref dr)) (hsmh : x_sl D 2 11 hd s.heap = some (.ref mh)) (hsmd : x_sl D 2 11 dr s.heap = some (.ref md))  :
    ∀ (n : Nat), ∀ (H : Heap) (Y : xY) (locs : List Loc) (ls : Array Slot) (item : Int32) (ref_ : Int32) (items : Int32) (k : Nat), x_I D x_G x_Zs U (x_efs xMtl) Y0 s.heap Y H locs → Y this = some 0 → Y hd = some 2 → Y dr = some 2 → Y tx = some 4 → Y md = some 28 → x_sl D 11 0 this H = some (.ref hd) → x_sl D 11 1 this H = some (.ref dr) → x_sl D 11 3 this H = some (.ref tx) → lv_has ls xMtl.2.2.1 [(3, .int item), (2, .int ref_), (1, .int items), (0, .ref this)] → (items.toInt = (k : Int)) → (k ≤ 240) → (∀ q, Y0 q = some 28 → q ≠ md → H[q]? = s.heap[q]?) → (∀ f, y_A mh 12 s.heap f → y_A md 12 H f) → (241 - items.toInt).toNat < n → W p l e (x_rm xMtl) s m av.toArray below meth c H locs k (5 * k) (y_QQ below D x_G x_Zs U xMtl z_Ptl8 av Y0 s) (F0 m 37 ls []) := by
  have X := B.1
  have hx := X.1
  have hb := X.2.1
  have hY0 := B.2.2.2.2.1
  intro n
  induction n with
  | zero => intro _ _ _ _ _ _ _ _ _ _ _ _ _ _ _ _ _ _ _ _ _ _ h; exact absurd h (Nat.not_lt_zero _)
  | succ n ih =>
    intro H Y locs ls item ref_ items k  hI hY_this hY_hd hY_dr hY_tx hY_md hs_hd hs_dr hs_tx hl hk hk2 h28 hv28 hn
    refine lv_iload_n hx hb tz_d37 rfl (lv_at hl 0 rfl) ?_
    have ec0 : (0 : Int32).toInt = 0 := by decide
    refine lv_if_lt hx hb tz_d38 (tgt := 87) (by decide) (fun q38 => ?_) (fun q38 => ?_)
    · have q38_ : item.toInt < (0 : Int32).toInt := x_lt32.mp q38
      refine lv_iload_n hx hb tz_d87 rfl (lv_at hl 0 rfl) ?_
      refine lv_iconst hx hb tz_d88 (v := (-1)) (by decide) ?_
      have ecm1 : ((-1) : Int32).toInt = (-1) := by decide
      refine lv_icmp_eq hx hb tz_d89 (tgt := 94) (by decide) (fun q89 => ?_) (fun q89 => ?_)
      · have q89_ : item.toInt = ((-1) : Int32).toInt := by rw [q89]
        refine lv_iload_n hx hb tz_d94 rfl (lv_at hl 1 rfl) ?_
        refine lv_iconst hx hb tz_d95 (v := (-1)) (by decide) ?_
        refine lv_icmp_eq hx hb tz_d96 (tgt := 105) (by decide) (fun q96 => ?_) (fun q96 => ?_)
        · have q96_ : ref_.toInt = ((-1) : Int32).toInt := by rw [q96]
          refine lv_aload_n hx hb tz_d105 rfl (lv_at hl 3 rfl) ?_
          refine y_getf X (fl8 X.2.2.2.2.1) hI.1 hY_this rfl hs_hd tz_d106 ?_
          refine lv_astore hx hb tz_d109 hl (by decide) (lv' := [(4, .ref hd), (3, .int item), (2, .int ref_), (1, .int items), (0, .ref this)]) rfl fun ls hl => ?_
          refine lv_aload_n hx hb tz_d111 rfl (lv_at hl 4 rfl) ?_
          refine lv_aload_n hx hb tz_d112 rfl (lv_at hl 4 rfl) ?_
          refine y_getf X (fl_tz_256 X.2.2.2.2.1) hI.1 hY_this rfl hs_dr tz_d113 ?_
          refine y_putf X (fw_tz_257 X.2.2.2.2.1) hY0 hI hY_this rfl rfl (y_crefA hY_dr rfl) (by decide +kernel) tz_d116 fun H sl hI ho hs hk => ?_
          replace hs_dr := hk _ _ (by decide +kernel) (by decide) hs_dr
          replace hs_tx := hk _ _ (by decide +kernel) (by decide) hs_tx
          replace h28 := fun (q : Nat) (hq : Y0 q = some 28) (hnq : q ≠ md) => Eq.trans (ho q (y_ne (y_mon B hI _ _ hq) hY_this rfl)) (h28 q hq hnq)
          replace hv28 := fun (f : Nat → Int32) hf => (hv28 f hf).kept (ho _ (y_ne hY_md hY_this rfl))
          replace hs := hs
          replace hs_hd := hs
          refine lv_aload_n hx hb tz_d119 rfl (lv_at hl 4 rfl) ?_
          refine lv_aload hx hb tz_d120 (lv_at hl 0 rfl) ?_
          refine y_putf X (fw_tz_258 X.2.2.2.2.1) hY0 hI hY_this rfl rfl (y_crefA hY_hd rfl) (by decide +kernel) tz_d122 fun H sl hI ho hs hk => ?_
          replace hs_hd := hk _ _ (by decide +kernel) (by decide) hs_hd
          replace hs_tx := hk _ _ (by decide +kernel) (by decide) hs_tx
          replace h28 := fun (q : Nat) (hq : Y0 q = some 28) (hnq : q ≠ md) => Eq.trans (ho q (y_ne (y_mon B hI _ _ hq) hY_this rfl)) (h28 q hq hnq)
          replace hv28 := fun (f : Nat → Int32) hf => (hv28 f hf).kept (ho _ (y_ne hY_md hY_this rfl))
          replace hs := hs
          replace hs_dr := hs
          refine lv_iload_n hx hb tz_d125 rfl (lv_at hl 3 rfl) ?_
          subst hav
          exact y_ireturn B hI rfl rfl rfl List.mem_cons_self ⟨_, rfl, ⟨_, rfl, x_i32 _⟩⟩ (x_cs.mono B.2.2.2.2.2 (y_mon B hI)) (fun t' d' r' m1 m2 h1 h2 h3 h4 h5 => by cases h1; cases h2.symm.trans hs00; cases h3.symm.trans hs01; cases h4.symm.trans hsmh; cases h5.symm.trans hsmd; exact ⟨Or.inr ⟨hs_hd, hs_dr⟩, hv28, h28⟩) (by show k ≤ 240; omega) (by show 5 * k ≤ 1200; omega) tz_d126
        · have q96_ : ¬ ref_.toInt = ((-1) : Int32).toInt := fun q => q96 (Int32.toInt_inj.mp q)
          refine lv_sipush hx hb tz_d99 (v := (-1000)) (by decide) ?_
          have ecm1000 : ((-1000) : Int32).toInt = (-1000) := by decide
          refine lv_iload_n hx hb tz_d102 rfl (lv_at hl 1 rfl) ?_
          refine lv_isub hx hb tz_d103 ?_
          generalize hg_z103 : ((-1000) : Int32) - ref_ = z103
          subst hav
          exact y_ireturn B hI rfl rfl rfl List.mem_cons_self ⟨_, rfl, ⟨_, rfl, x_i32 _⟩⟩ (x_cs.mono B.2.2.2.2.2 (y_mon B hI)) (fun t' d' r' m1 m2 h1 h2 h3 h4 h5 => by cases h1; cases h2.symm.trans hs00; cases h3.symm.trans hs01; cases h4.symm.trans hsmh; cases h5.symm.trans hsmd; exact ⟨Or.inl ⟨hs_hd, hs_dr⟩, hv28, h28⟩) (by show k ≤ 240; omega) (by show 5 * k ≤ 1200; omega) tz_d104
      · have q89_ : ¬ item.toInt = ((-1) : Int32).toInt := fun q => q89 (Int32.toInt_inj.mp q)
        refine lv_iload_n hx hb tz_d92 rfl (lv_at hl 0 rfl) ?_
        subst hav
        exact y_ireturn B hI rfl rfl rfl List.mem_cons_self ⟨_, rfl, ⟨_, rfl, x_i32 _⟩⟩ (x_cs.mono B.2.2.2.2.2 (y_mon B hI)) (fun t' d' r' m1 m2 h1 h2 h3 h4 h5 => by cases h1; cases h2.symm.trans hs00; cases h3.symm.trans hs01; cases h4.symm.trans hsmh; cases h5.symm.trans hsmd; exact ⟨Or.inl ⟨hs_hd, hs_dr⟩, hv28, h28⟩) (by show k ≤ 240; omega) (by show 5 * k ≤ 1200; omega) tz_d93
    · have q38_ : (0 : Int32).toInt ≤ item.toInt := Int.not_lt.mp fun q => q38 (x_lt32.mpr q)
      refine lv_iload_n hx hb tz_d41 rfl (lv_at hl 2 rfl) ?_
      refine lv_sipush hx hb tz_d42 (v := 240) (by decide) ?_
      have ec240 : (240 : Int32).toInt = 240 := by decide
      refine lv_icmp_ge hx hb tz_d45 (tgt := 87) (by decide) (fun q45 => ?_) (fun q45 => ?_)
      · have q45_ : (240 : Int32).toInt ≤ items.toInt := x_le32.mp q45
        refine lv_iload_n hx hb tz_d87 rfl (lv_at hl 0 rfl) ?_
        refine lv_iconst hx hb tz_d88 (v := (-1)) (by decide) ?_
        have ecm1 : ((-1) : Int32).toInt = (-1) := by decide
        refine lv_icmp_eq hx hb tz_d89 (tgt := 94) (by decide) (fun q89 => ?_) (fun q89 => ?_)
        · have q89_ : item.toInt = ((-1) : Int32).toInt := by rw [q89]
          refine lv_iload_n hx hb tz_d94 rfl (lv_at hl 1 rfl) ?_
          refine lv_iconst hx hb tz_d95 (v := (-1)) (by decide) ?_
          refine lv_icmp_eq hx hb tz_d96 (tgt := 105) (by decide) (fun q96 => ?_) (fun q96 => ?_)
          · have q96_ : ref_.toInt = ((-1) : Int32).toInt := by rw [q96]
            refine lv_aload_n hx hb tz_d105 rfl (lv_at hl 3 rfl) ?_
            refine y_getf X (fl8 X.2.2.2.2.1) hI.1 hY_this rfl hs_hd tz_d106 ?_
            refine lv_astore hx hb tz_d109 hl (by decide) (lv' := [(4, .ref hd), (3, .int item), (2, .int ref_), (1, .int items), (0, .ref this)]) rfl fun ls hl => ?_
            refine lv_aload_n hx hb tz_d111 rfl (lv_at hl 4 rfl) ?_
            refine lv_aload_n hx hb tz_d112 rfl (lv_at hl 4 rfl) ?_
            refine y_getf X (fl_tz_256 X.2.2.2.2.1) hI.1 hY_this rfl hs_dr tz_d113 ?_
            refine y_putf X (fw_tz_257 X.2.2.2.2.1) hY0 hI hY_this rfl rfl (y_crefA hY_dr rfl) (by decide +kernel) tz_d116 fun H sl hI ho hs hk => ?_
            replace hs_dr := hk _ _ (by decide +kernel) (by decide) hs_dr
            replace hs_tx := hk _ _ (by decide +kernel) (by decide) hs_tx
            replace h28 := fun (q : Nat) (hq : Y0 q = some 28) (hnq : q ≠ md) => Eq.trans (ho q (y_ne (y_mon B hI _ _ hq) hY_this rfl)) (h28 q hq hnq)
            replace hv28 := fun (f : Nat → Int32) hf => (hv28 f hf).kept (ho _ (y_ne hY_md hY_this rfl))
            replace hs := hs
            replace hs_hd := hs
            refine lv_aload_n hx hb tz_d119 rfl (lv_at hl 4 rfl) ?_
            refine lv_aload hx hb tz_d120 (lv_at hl 0 rfl) ?_
            refine y_putf X (fw_tz_258 X.2.2.2.2.1) hY0 hI hY_this rfl rfl (y_crefA hY_hd rfl) (by decide +kernel) tz_d122 fun H sl hI ho hs hk => ?_
            replace hs_hd := hk _ _ (by decide +kernel) (by decide) hs_hd
            replace hs_tx := hk _ _ (by decide +kernel) (by decide) hs_tx
            replace h28 := fun (q : Nat) (hq : Y0 q = some 28) (hnq : q ≠ md) => Eq.trans (ho q (y_ne (y_mon B hI _ _ hq) hY_this rfl)) (h28 q hq hnq)
            replace hv28 := fun (f : Nat → Int32) hf => (hv28 f hf).kept (ho _ (y_ne hY_md hY_this rfl))
            replace hs := hs
            replace hs_dr := hs
            refine lv_iload_n hx hb tz_d125 rfl (lv_at hl 3 rfl) ?_
            subst hav
            exact y_ireturn B hI rfl rfl rfl List.mem_cons_self ⟨_, rfl, ⟨_, rfl, x_i32 _⟩⟩ (x_cs.mono B.2.2.2.2.2 (y_mon B hI)) (fun t' d' r' m1 m2 h1 h2 h3 h4 h5 => by cases h1; cases h2.symm.trans hs00; cases h3.symm.trans hs01; cases h4.symm.trans hsmh; cases h5.symm.trans hsmd; exact ⟨Or.inr ⟨hs_hd, hs_dr⟩, hv28, h28⟩) (by show k ≤ 240; omega) (by show 5 * k ≤ 1200; omega) tz_d126
          · have q96_ : ¬ ref_.toInt = ((-1) : Int32).toInt := fun q => q96 (Int32.toInt_inj.mp q)
            refine lv_sipush hx hb tz_d99 (v := (-1000)) (by decide) ?_
            have ecm1000 : ((-1000) : Int32).toInt = (-1000) := by decide
            refine lv_iload_n hx hb tz_d102 rfl (lv_at hl 1 rfl) ?_
            refine lv_isub hx hb tz_d103 ?_
            generalize hg_z103 : ((-1000) : Int32) - ref_ = z103
            subst hav
            exact y_ireturn B hI rfl rfl rfl List.mem_cons_self ⟨_, rfl, ⟨_, rfl, x_i32 _⟩⟩ (x_cs.mono B.2.2.2.2.2 (y_mon B hI)) (fun t' d' r' m1 m2 h1 h2 h3 h4 h5 => by cases h1; cases h2.symm.trans hs00; cases h3.symm.trans hs01; cases h4.symm.trans hsmh; cases h5.symm.trans hsmd; exact ⟨Or.inl ⟨hs_hd, hs_dr⟩, hv28, h28⟩) (by show k ≤ 240; omega) (by show 5 * k ≤ 1200; omega) tz_d104
        · have q89_ : ¬ item.toInt = ((-1) : Int32).toInt := fun q => q89 (Int32.toInt_inj.mp q)
          refine lv_iload_n hx hb tz_d92 rfl (lv_at hl 0 rfl) ?_
          subst hav
          exact y_ireturn B hI rfl rfl rfl List.mem_cons_self ⟨_, rfl, ⟨_, rfl, x_i32 _⟩⟩ (x_cs.mono B.2.2.2.2.2 (y_mon B hI)) (fun t' d' r' m1 m2 h1 h2 h3 h4 h5 => by cases h1; cases h2.symm.trans hs00; cases h3.symm.trans hs01; cases h4.symm.trans hsmh; cases h5.symm.trans hsmd; exact ⟨Or.inl ⟨hs_hd, hs_dr⟩, hv28, h28⟩) (by show k ≤ 240; omega) (by show 5 * k ≤ 1200; omega) tz_d93
      · have q45_ : items.toInt < (240 : Int32).toInt := Int.not_le.mp fun q => q45 (x_le32.mpr q)
        refine lv_iload_n hx hb tz_d48 rfl (lv_at hl 1 rfl) ?_
        refine lv_iconst hx hb tz_d49 (v := (-1)) (by decide) ?_
        have ecm1 : ((-1) : Int32).toInt = (-1) := by decide
        refine lv_icmp_ne hx hb tz_d50 (tgt := 73) (by decide) (fun q50 => ?_) (fun q50 => ?_)
        · have q50_ : ¬ ref_.toInt = ((-1) : Int32).toInt := fun q => q50 (Int32.toInt_inj.mp q)
          obtain ⟨z73, hg_z73⟩ : ∃ z73 : Int32, items + Int32.ofInt 1 = z73 := ⟨_, rfl⟩
          have h_z73 : z73.toInt = items.toInt + 1 := by rw [← hg_z73]; exact y_inc (by decide) (by omega) (by omega)
          refine lv_iinc hx hb tz_d73 hl (k := 2) rfl hg_z73 (by decide) (lv' := [(1, .int z73), (3, .int item), (2, .int ref_), (0, .ref this)]) rfl fun ls hl => ?_
          refine lv_aload_n hx hb tz_d76 rfl (lv_at hl 3 rfl) ?_
          refine y_getf X (fl120 X.2.2.2.2.1) hI.1 hY_this rfl hs_tx tz_d77 ?_
          refine y_call (z := (0, 158, 1, some 4, xMni)) (av := [.ref tx]) (rest := []) (y_cokV (n := 0) (ci := 7) X ym_nextItem rfl rfl rfl (x_cons (x_at 638 (by decide +kernel) rfl) (x_cons (x_at 639 (by decide +kernel) rfl) (x_cons (x_at 640 (by decide +kernel) rfl) (x_cons (x_at 69 (by decide +kernel) rfl) x_nilm)))) (x_at 641 (by decide +kernel) rfl) (by decide +kernel) ⟨Nat.le_of_ble_eq_true rfl, Nat.le_of_ble_eq_true rfl⟩) hY0 hI rfl tz_d80 hl.1 (Nat.le_of_ble_eq_true rfl) (by show k + _ ≤ 240; first | exact Nat.le_of_lt_succ (by show k + 0 < 241; omega) | (show k + 1 ≤ 240; omega) | (show k + 1 + 0 ≤ 240; omega)) (by show 5 * k + _ ≤ 1200; first | (show 5 * k + 0 ≤ 1200; omega) | (show 5 * k + 5 ≤ 1200; omega) | (show 5 * k + 5 + 0 ≤ 1200; omega)) (y_cons (y_cref hY_tx rfl) y_nil) rfl (y_recv rfl hY_tx) trivial (y_sub_ef rfl) fun v Yn o Hn L ho hr ha hIn hx_ hE hP => ?_
          replace hs_hd := y_Efld hE hY_this rfl (by decide) (by decide) hs_hd
          replace hs_dr := y_Efld hE hY_this rfl (by decide) (by decide) hs_dr
          replace hs_tx := y_Efld hE hY_this rfl (by decide) (by decide) hs_tx
          replace h28 := fun (q : Nat) (hq : Y0 q = some 28) (hnq : q ≠ md) => Eq.trans (y_Earr hE (y_mon B hI _ _ hq) rfl (by decide)) (h28 q hq hnq)
          replace hv28 := fun (f : Nat → Int32) hf => (hv28 f hf).kept (y_Earr hE hY_md rfl (by decide))
          replace hY_this := y_ext hx_ hI.1 hY_this
          replace hY_hd := y_ext hx_ hI.1 hY_hd
          replace hY_dr := y_ext hx_ hI.1 hY_dr
          replace hY_tx := y_ext hx_ hI.1 hY_tx
          replace hY_md := y_ext hx_ hI.1 hY_md
          obtain ⟨r80, rfl, h_r80⟩ := y_ansI (lo := (-2147483648)) (hi := 2147483647) (by decide) ho hr
          clear ho hr ha hE hP hI hx_
          rename x_I _ _ _ _ _ _ _ _ _ _ => hI
          refine lv_istore_n hx hb tz_d83 rfl hl (by decide) (lv' := [(3, .int r80), (1, .int z73), (2, .int ref_), (0, .ref this)]) rfl fun ls hl => ?_
          refine lv_goto hx hb tz_d84 (tgt := 37) (by decide) ?_
          refine W.widen (k := k + 1) (n := 5 * (k + 1)) (by first | (show k + 0 ≤ k + 1; omega) | (show k + 1 + 0 ≤ k + 1; omega)) (by first | (show 5 * k + 0 ≤ 5 * (k + 1); omega) | (show 5 * k + 5 + 0 ≤ 5 * (k + 1); omega)) ?_
          exact ih _ _ _ _ _ _ _ _ hI hY_this hY_hd hY_dr hY_tx hY_md hs_hd hs_dr hs_tx (lv_sub hl [0, 2, 1, 3] rfl) (by first | assumption | omega) (by first | assumption | omega) h28 hv28 (by omega)
        · have q50_ : ref_.toInt = ((-1) : Int32).toInt := by rw [q50]
          refine lv_aload_n hx hb tz_d53 rfl (lv_at hl 3 rfl) ?_
          refine y_getf X (fl_tz_256 X.2.2.2.2.1) hI.1 hY_this rfl hs_dr tz_d54 ?_
          refine lv_iload_n hx hb tz_d57 rfl (lv_at hl 0 rfl) ?_
          refine lv_aload_n hx hb tz_d58 rfl (lv_at hl 3 rfl) ?_
          refine y_getf X (fl120 X.2.2.2.2.1) hI.1 hY_this rfl hs_tx tz_d59 ?_
          obtain ⟨tx_numbers, hs_tx_numbers, hY_tx_numbers⟩ := y_fldR (k := 1) hI.1 hY_tx rfl rfl
          refine y_getf X (fl_tz_259 X.2.2.2.2.1) hI.1 hY_tx rfl hs_tx_numbers tz_d62 ?_
          refine y_call (z := (0, 165, 3, some 2, xM66)) (av := [.ref dr, .int item, .ref tx_numbers]) (rest := []) (y_cok.of (x_cokV (n := 2) (ci := 2) X xm66 rfl rfl rfl (x_cons (x_at 726 (by decide +kernel) rfl) (x_cons (x_at 727 (by decide +kernel) rfl) (x_cons (x_at 728 (by decide +kernel) rfl) (x_cons (x_at 66 (by decide +kernel) rfl) x_nilm)))) (x_at 729 (by decide +kernel) rfl) (by decide +kernel) ⟨Nat.le_of_ble_eq_true rfl, Nat.le_of_ble_eq_true rfl⟩)) hY0 hI rfl tz_d65 hl.1 (Nat.le_of_ble_eq_true rfl) (by show k + _ ≤ 240; first | exact Nat.le_of_lt_succ (by show k + 0 < 241; omega) | (show k + 1 ≤ 240; omega) | (show k + 1 + 0 ≤ 240; omega)) (by show 5 * k + _ ≤ 1200; first | (show 5 * k + 0 ≤ 1200; omega) | (show 5 * k + 5 ≤ 1200; omega) | (show 5 * k + 5 + 0 ≤ 1200; omega)) (y_cons (y_cref hY_dr rfl) (y_cons ⟨_, rfl, x_i32 _⟩ (y_cons (y_cref hY_tx_numbers rfl) y_nil))) rfl (y_recv rfl hY_dr) trivial (y_sub_ef rfl) fun v Yn o Hn L ho hr ha hIn hx_ hE hP => ?_
          replace hs_hd := y_Efld hE hY_this rfl (by decide) (by decide) hs_hd
          replace hs_dr := y_Efld hE hY_this rfl (by decide) (by decide) hs_dr
          replace hs_tx := y_Efld hE hY_this rfl (by decide) (by decide) hs_tx
          replace hs_tx_numbers := y_Efld hE hY_tx rfl (by decide) (by decide) hs_tx_numbers
          replace h28 := fun (q : Nat) (hq : Y0 q = some 28) (hnq : q ≠ md) => Eq.trans (y_Earr hE (y_mon B hI _ _ hq) rfl (by decide)) (h28 q hq hnq)
          replace hv28 := fun (f : Nat → Int32) hf => (hv28 f hf).kept (y_Earr hE hY_md rfl (by decide))
          replace hY_this := y_ext hx_ hI.1 hY_this
          replace hY_hd := y_ext hx_ hI.1 hY_hd
          replace hY_dr := y_ext hx_ hI.1 hY_dr
          replace hY_tx := y_ext hx_ hI.1 hY_tx
          replace hY_md := y_ext hx_ hI.1 hY_md
          replace hY_tx_numbers := y_ext hx_ hI.1 hY_tx_numbers
          obtain ⟨r65, rfl, h_r65⟩ := y_ansI (lo := (-2147483648)) (hi := 2147483647) (by decide) ho hr
          clear ho hr ha hE hP hI hx_
          rename x_I _ _ _ _ _ _ _ _ _ _ => hI
          refine lv_if_ge hx hb tz_d68 (tgt := 73) (by decide) (fun q68 => ?_) (fun q68 => ?_)
          · have q68_ : (0 : Int32).toInt ≤ r65.toInt := x_le32.mp q68
            obtain ⟨z73, hg_z73⟩ : ∃ z73 : Int32, items + Int32.ofInt 1 = z73 := ⟨_, rfl⟩
            have h_z73 : z73.toInt = items.toInt + 1 := by rw [← hg_z73]; exact y_inc (by decide) (by omega) (by omega)
            refine lv_iinc hx hb tz_d73 hl (k := 2) rfl hg_z73 (by decide) (lv' := [(1, .int z73), (3, .int item), (2, .int ref_), (0, .ref this)]) rfl fun ls hl => ?_
            refine lv_aload_n hx hb tz_d76 rfl (lv_at hl 3 rfl) ?_
            refine y_getf X (fl120 X.2.2.2.2.1) hI.1 hY_this rfl hs_tx tz_d77 ?_
            refine y_call (z := (0, 158, 1, some 4, xMni)) (av := [.ref tx]) (rest := []) (y_cokV (n := 0) (ci := 7) X ym_nextItem rfl rfl rfl (x_cons (x_at 638 (by decide +kernel) rfl) (x_cons (x_at 639 (by decide +kernel) rfl) (x_cons (x_at 640 (by decide +kernel) rfl) (x_cons (x_at 69 (by decide +kernel) rfl) x_nilm)))) (x_at 641 (by decide +kernel) rfl) (by decide +kernel) ⟨Nat.le_of_ble_eq_true rfl, Nat.le_of_ble_eq_true rfl⟩) hY0 hI rfl tz_d80 hl.1 (Nat.le_of_ble_eq_true rfl) (by show k + _ ≤ 240; first | exact Nat.le_of_lt_succ (by show k + 0 < 241; omega) | (show k + 1 ≤ 240; omega) | (show k + 1 + 0 ≤ 240; omega)) (by show 5 * k + _ ≤ 1200; first | (show 5 * k + 0 ≤ 1200; omega) | (show 5 * k + 5 ≤ 1200; omega) | (show 5 * k + 5 + 0 ≤ 1200; omega)) (y_cons (y_cref hY_tx rfl) y_nil) rfl (y_recv rfl hY_tx) trivial (y_sub_ef rfl) fun v Yn o Hn L ho hr ha hIn hx_ hE hP => ?_
            replace hs_hd := y_Efld hE hY_this rfl (by decide) (by decide) hs_hd
            replace hs_dr := y_Efld hE hY_this rfl (by decide) (by decide) hs_dr
            replace hs_tx := y_Efld hE hY_this rfl (by decide) (by decide) hs_tx
            replace hs_tx_numbers := y_Efld hE hY_tx rfl (by decide) (by decide) hs_tx_numbers
            replace h28 := fun (q : Nat) (hq : Y0 q = some 28) (hnq : q ≠ md) => Eq.trans (y_Earr hE (y_mon B hI _ _ hq) rfl (by decide)) (h28 q hq hnq)
            replace hv28 := fun (f : Nat → Int32) hf => (hv28 f hf).kept (y_Earr hE hY_md rfl (by decide))
            replace hY_this := y_ext hx_ hI.1 hY_this
            replace hY_hd := y_ext hx_ hI.1 hY_hd
            replace hY_dr := y_ext hx_ hI.1 hY_dr
            replace hY_tx := y_ext hx_ hI.1 hY_tx
            replace hY_md := y_ext hx_ hI.1 hY_md
            replace hY_tx_numbers := y_ext hx_ hI.1 hY_tx_numbers
            obtain ⟨r80, rfl, h_r80⟩ := y_ansI (lo := (-2147483648)) (hi := 2147483647) (by decide) ho hr
            clear ho hr ha hE hP hI hx_
            rename x_I _ _ _ _ _ _ _ _ _ _ => hI
            refine lv_istore_n hx hb tz_d83 rfl hl (by decide) (lv' := [(3, .int r80), (1, .int z73), (2, .int ref_), (0, .ref this)]) rfl fun ls hl => ?_
            refine lv_goto hx hb tz_d84 (tgt := 37) (by decide) ?_
            refine W.widen (k := k + 1) (n := 5 * (k + 1)) (by first | (show k + 0 ≤ k + 1; omega) | (show k + 1 + 0 ≤ k + 1; omega)) (by first | (show 5 * k + 0 ≤ 5 * (k + 1); omega) | (show 5 * k + 5 + 0 ≤ 5 * (k + 1); omega)) ?_
            exact ih _ _ _ _ _ _ _ _ hI hY_this hY_hd hY_dr hY_tx hY_md hs_hd hs_dr hs_tx (lv_sub hl [0, 2, 1, 3] rfl) (by first | assumption | omega) (by first | assumption | omega) h28 hv28 (by omega)
          · have q68_ : r65.toInt < (0 : Int32).toInt := Int.not_le.mp fun q => q68 (x_le32.mpr q)
            refine lv_iload_n hx hb tz_d71 rfl (lv_at hl 2 rfl) ?_
            refine lv_istore_n hx hb tz_d72 rfl hl (by decide) (lv' := [(2, .int items), (3, .int item), (1, .int items), (0, .ref this)]) rfl fun ls hl => ?_
            obtain ⟨z73, hg_z73⟩ : ∃ z73 : Int32, items + Int32.ofInt 1 = z73 := ⟨_, rfl⟩
            have h_z73 : z73.toInt = items.toInt + 1 := by rw [← hg_z73]; exact y_inc (by decide) (by omega) (by omega)
            refine lv_iinc hx hb tz_d73 hl (k := 2) rfl hg_z73 (by decide) (lv' := [(1, .int z73), (2, .int items), (3, .int item), (0, .ref this)]) rfl fun ls hl => ?_
            refine lv_aload_n hx hb tz_d76 rfl (lv_at hl 3 rfl) ?_
            refine y_getf X (fl120 X.2.2.2.2.1) hI.1 hY_this rfl hs_tx tz_d77 ?_
            refine y_call (z := (0, 158, 1, some 4, xMni)) (av := [.ref tx]) (rest := []) (y_cokV (n := 0) (ci := 7) X ym_nextItem rfl rfl rfl (x_cons (x_at 638 (by decide +kernel) rfl) (x_cons (x_at 639 (by decide +kernel) rfl) (x_cons (x_at 640 (by decide +kernel) rfl) (x_cons (x_at 69 (by decide +kernel) rfl) x_nilm)))) (x_at 641 (by decide +kernel) rfl) (by decide +kernel) ⟨Nat.le_of_ble_eq_true rfl, Nat.le_of_ble_eq_true rfl⟩) hY0 hI rfl tz_d80 hl.1 (Nat.le_of_ble_eq_true rfl) (by show k + _ ≤ 240; first | exact Nat.le_of_lt_succ (by show k + 0 < 241; omega) | (show k + 1 ≤ 240; omega) | (show k + 1 + 0 ≤ 240; omega)) (by show 5 * k + _ ≤ 1200; first | (show 5 * k + 0 ≤ 1200; omega) | (show 5 * k + 5 ≤ 1200; omega) | (show 5 * k + 5 + 0 ≤ 1200; omega)) (y_cons (y_cref hY_tx rfl) y_nil) rfl (y_recv rfl hY_tx) trivial (y_sub_ef rfl) fun v Yn o Hn L ho hr ha hIn hx_ hE hP => ?_
            replace hs_hd := y_Efld hE hY_this rfl (by decide) (by decide) hs_hd
            replace hs_dr := y_Efld hE hY_this rfl (by decide) (by decide) hs_dr
            replace hs_tx := y_Efld hE hY_this rfl (by decide) (by decide) hs_tx
            replace hs_tx_numbers := y_Efld hE hY_tx rfl (by decide) (by decide) hs_tx_numbers
            replace h28 := fun (q : Nat) (hq : Y0 q = some 28) (hnq : q ≠ md) => Eq.trans (y_Earr hE (y_mon B hI _ _ hq) rfl (by decide)) (h28 q hq hnq)
            replace hv28 := fun (f : Nat → Int32) hf => (hv28 f hf).kept (y_Earr hE hY_md rfl (by decide))
            replace hY_this := y_ext hx_ hI.1 hY_this
            replace hY_hd := y_ext hx_ hI.1 hY_hd
            replace hY_dr := y_ext hx_ hI.1 hY_dr
            replace hY_tx := y_ext hx_ hI.1 hY_tx
            replace hY_md := y_ext hx_ hI.1 hY_md
            replace hY_tx_numbers := y_ext hx_ hI.1 hY_tx_numbers
            obtain ⟨r80, rfl, h_r80⟩ := y_ansI (lo := (-2147483648)) (hi := 2147483647) (by decide) ho hr
            clear ho hr ha hE hP hI hx_
            rename x_I _ _ _ _ _ _ _ _ _ _ => hI
            refine lv_istore_n hx hb tz_d83 rfl hl (by decide) (lv' := [(3, .int r80), (1, .int z73), (2, .int items), (0, .ref this)]) rfl fun ls hl => ?_
            refine lv_goto hx hb tz_d84 (tgt := 37) (by decide) ?_
            refine W.widen (k := k + 1) (n := 5 * (k + 1)) (by first | (show k + 0 ≤ k + 1; omega) | (show k + 1 + 0 ≤ k + 1; omega)) (by first | (show 5 * k + 0 ≤ 5 * (k + 1); omega) | (show 5 * k + 5 + 0 ≤ 5 * (k + 1); omega)) ?_
            exact ih _ _ _ _ _ _ _ _ hI hY_this hY_hd hY_dr hY_tx hY_md hs_hd hs_dr hs_tx (lv_sub hl [0, 2, 1, 3] rfl) (by first | assumption | omega) (by first | assumption | omega) h28 hv28 (by omega)
theorem ym_twLand8 : y_Met vwCl x_G x_Zs x_Tb x_Nb xMtl y_T z_Ptl8 := by
  refine y_main (by decide +kernel) (by decide +kernel) x_Tb_good x_Nb_ok ?_
  intro p l e s m below meth c D U Y0 av ls B hI _ hl
  have X := B.1
  have hx := X.1
  have hb := X.2.1
  have hY0 := B.2.2.2.2.1
  obtain ⟨v0, rfl, hv0⟩ := x_one B.2.2.2.2.2
  obtain ⟨this, t0, rfl, ht0, hY_this⟩ := x_ref_at hv0 rfl
  obtain rfl := List.mem_singleton.mp ht0
  replace hl : lv_has ls xMtl.2.2.1 [(0, .ref this)] := hl
  obtain ⟨hd, hs_hd, hY_hd⟩ := y_fldR (k := 0) hI.1 hY_this rfl rfl
  obtain ⟨dr, hs_dr, hY_dr⟩ := y_fldR (k := 1) hI.1 hY_this rfl rfl
  obtain ⟨tx, hs_tx, hY_tx⟩ := y_fldR (k := 3) hI.1 hY_this rfl rfl
  obtain ⟨mh, hs_mh, hY_mh⟩ := y_fldR (k := 11) hI.1 hY_hd rfl rfl
  obtain ⟨md, hs_md, hY_md⟩ := y_fldR (k := 11) hI.1 hY_dr rfl rfl
  have hs00 := hs_hd
  have hs01 := hs_dr
  have hsmh := hs_mh
  have hsmd := hs_md
  have hYm0 := hY_mh
  have h28 : ∀ q, Y0 q = some 28 → s.heap[q]? = s.heap[q]? := fun _ _ => rfl
  refine lv_aload_n hx hb tz_d0 rfl (lv_at hl 0 rfl) ?_
  refine y_getf X (fl_tz_256 X.2.2.2.2.1) hI.1 hY_this rfl hs_dr tz_d1 ?_
  refine lv_aload_n hx hb tz_d4 rfl (lv_at hl 0 rfl) ?_
  refine y_getf X (fl8 X.2.2.2.2.1) hI.1 hY_this rfl hs_hd tz_d5 ?_
  refine y_call (z := (0, 148, 2, some 2, xM58)) (av := [.ref dr, .ref hd]) (rest := []) (y_cokV (n := 1) (ci := 2) X ym_copyFrom8 rfl rfl rfl (x_cons (x_at 623 (by decide +kernel) rfl) (x_cons (x_at 624 (by decide +kernel) rfl) (x_cons (x_at 625 (by decide +kernel) rfl) (x_cons (x_at 66 (by decide +kernel) rfl) x_nilm)))) (x_at 626 (by decide +kernel) rfl) (by decide +kernel) ⟨Nat.le_of_ble_eq_true rfl, Nat.le_of_ble_eq_true rfl⟩) hY0 hI rfl tz_d8 hl.1 (Nat.le_of_ble_eq_true rfl) (Nat.le_of_ble_eq_true rfl) (Nat.le_of_ble_eq_true rfl) (y_cons (y_cref hY_dr rfl) (y_cons (y_cref hY_hd rfl) y_nil)) rfl (y_recv rfl hY_dr) trivial (y_sub_ef rfl) fun v Yn o Hn L ho hr ha hIn hx_ hE hP => ?_
  have hPc := hP _ _ _ _ rfl hs_md hs_mh
  replace hs_hd := y_Efld hE hY_this rfl (by decide) (by decide) hs_hd
  replace hs_dr := y_Efld hE hY_this rfl (by decide) (by decide) hs_dr
  replace hs_tx := y_Efld hE hY_this rfl (by decide) (by decide) hs_tx
  replace hs_mh := y_Efld hE hY_hd rfl (by decide) (by decide) hs_mh
  replace hs_md := y_Efld hE hY_dr rfl (by decide) (by decide) hs_md
  have hv28 := fun (f : Nat → Int32) hf => hPc.1 f (y_A.kept hf (h28 _ hYm0))
  replace h28 := fun (q : Nat) (hq : Y0 q = some 28) (hnq : q ≠ md) => Eq.trans (hPc.2 q (y_mon B hI _ _ hq) hnq) (h28 q hq)
  replace hY_this := y_ext hx_ hI.1 hY_this
  replace hY_hd := y_ext hx_ hI.1 hY_hd
  replace hY_dr := y_ext hx_ hI.1 hY_dr
  replace hY_tx := y_ext hx_ hI.1 hY_tx
  replace hY_mh := y_ext hx_ hI.1 hY_mh
  replace hY_md := y_ext hx_ hI.1 hY_md
  obtain rfl := y_ansV rfl ho hr
  clear ho hr ha hE hP hI hx_
  rename x_I _ _ _ _ _ _ _ _ _ _ => hI
  refine lv_aload_n hx hb tz_d11 rfl (lv_at hl 0 rfl) ?_
  refine y_getf X (fl_tz_256 X.2.2.2.2.1) hI.1 hY_this rfl hs_dr tz_d12 ?_
  refine y_call (z := (0, 152, 1, some 2, xM59)) (av := [.ref dr]) (rest := []) (y_cok.of (x_cokV (n := 0) (ci := 2) X xm59 rfl rfl rfl (x_cons (x_at 630 (by decide +kernel) rfl) (x_cons (x_at 631 (by decide +kernel) rfl) (x_cons (x_at 632 (by decide +kernel) rfl) (x_cons (x_at 66 (by decide +kernel) rfl) x_nilm)))) (x_at 633 (by decide +kernel) rfl) (by decide +kernel) ⟨Nat.le_of_ble_eq_true rfl, Nat.le_of_ble_eq_true rfl⟩)) hY0 hI rfl tz_d15 hl.1 (Nat.le_of_ble_eq_true rfl) (Nat.le_of_ble_eq_true rfl) (Nat.le_of_ble_eq_true rfl) (y_cons (y_cref hY_dr rfl) y_nil) rfl (y_recv rfl hY_dr) trivial (y_sub_ef rfl) fun v Yn o Hn L ho hr ha hIn hx_ hE hP => ?_
  replace hs_hd := y_Efld hE hY_this rfl (by decide) (by decide) hs_hd
  replace hs_dr := y_Efld hE hY_this rfl (by decide) (by decide) hs_dr
  replace hs_tx := y_Efld hE hY_this rfl (by decide) (by decide) hs_tx
  replace hs_mh := y_Efld hE hY_hd rfl (by decide) (by decide) hs_mh
  replace hs_md := y_Efld hE hY_dr rfl (by decide) (by decide) hs_md
  replace h28 := fun (q : Nat) (hq : Y0 q = some 28) (hnq : q ≠ md) => Eq.trans (y_Earr hE (y_mon B hI _ _ hq) rfl (by decide)) (h28 q hq hnq)
  replace hv28 := fun (f : Nat → Int32) hf => (hv28 f hf).kept (y_Earr hE hY_md rfl (by decide))
  replace hY_this := y_ext hx_ hI.1 hY_this
  replace hY_hd := y_ext hx_ hI.1 hY_hd
  replace hY_dr := y_ext hx_ hI.1 hY_dr
  replace hY_tx := y_ext hx_ hI.1 hY_tx
  replace hY_mh := y_ext hx_ hI.1 hY_mh
  replace hY_md := y_ext hx_ hI.1 hY_md
  obtain rfl := y_ansV rfl ho hr
  clear ho hr ha hE hP hI hx_
  rename x_I _ _ _ _ _ _ _ _ _ _ => hI
  refine lv_aload_n hx hb tz_d18 rfl (lv_at hl 0 rfl) ?_
  refine y_getf X (fl120 X.2.2.2.2.1) hI.1 hY_this rfl hs_tx tz_d19 ?_
  refine y_call (z := (0, 155, 1, some 4, xM60)) (av := [.ref tx]) (rest := []) (y_cok.of (x_cokV (n := 0) (ci := 7) X xm60 rfl rfl rfl (x_cons (x_at 634 (by decide +kernel) rfl) (x_cons (x_at 635 (by decide +kernel) rfl) (x_cons (x_at 636 (by decide +kernel) rfl) (x_cons (x_at 69 (by decide +kernel) rfl) x_nilm)))) (x_at 637 (by decide +kernel) rfl) (by decide +kernel) ⟨Nat.le_of_ble_eq_true rfl, Nat.le_of_ble_eq_true rfl⟩)) hY0 hI rfl tz_d22 hl.1 (Nat.le_of_ble_eq_true rfl) (Nat.le_of_ble_eq_true rfl) (Nat.le_of_ble_eq_true rfl) (y_cons (y_cref hY_tx rfl) y_nil) rfl (y_recv rfl hY_tx) trivial (y_sub_ef rfl) fun v Yn o Hn L ho hr ha hIn hx_ hE hP => ?_
  replace hs_hd := y_Efld hE hY_this rfl (by decide) (by decide) hs_hd
  replace hs_dr := y_Efld hE hY_this rfl (by decide) (by decide) hs_dr
  replace hs_tx := y_Efld hE hY_this rfl (by decide) (by decide) hs_tx
  replace hs_mh := y_Efld hE hY_hd rfl (by decide) (by decide) hs_mh
  replace hs_md := y_Efld hE hY_dr rfl (by decide) (by decide) hs_md
  replace h28 := fun (q : Nat) (hq : Y0 q = some 28) (hnq : q ≠ md) => Eq.trans (y_Earr hE (y_mon B hI _ _ hq) rfl (by decide)) (h28 q hq hnq)
  replace hv28 := fun (f : Nat → Int32) hf => (hv28 f hf).kept (y_Earr hE hY_md rfl (by decide))
  replace hY_this := y_ext hx_ hI.1 hY_this
  replace hY_hd := y_ext hx_ hI.1 hY_hd
  replace hY_dr := y_ext hx_ hI.1 hY_dr
  replace hY_tx := y_ext hx_ hI.1 hY_tx
  replace hY_mh := y_ext hx_ hI.1 hY_mh
  replace hY_md := y_ext hx_ hI.1 hY_md
  obtain rfl := y_ansV rfl ho hr
  clear ho hr ha hE hP hI hx_
  rename x_I _ _ _ _ _ _ _ _ _ _ => hI
  refine lv_iconst hx hb tz_d25 (v := 0) (by decide) ?_
  have ec0 : (0 : Int32).toInt = 0 := by decide
  refine lv_istore_n hx hb tz_d26 rfl hl (by decide) (lv' := [(1, .int (0 : Int32)), (0, .ref this)]) rfl fun ls hl => ?_
  refine lv_iconst hx hb tz_d27 (v := (-1)) (by decide) ?_
  have ecm1 : ((-1) : Int32).toInt = (-1) := by decide
  refine lv_istore_n hx hb tz_d28 rfl hl (by decide) (lv' := [(2, .int ((-1) : Int32)), (1, .int (0 : Int32)), (0, .ref this)]) rfl fun ls hl => ?_
  refine lv_aload_n hx hb tz_d29 rfl (lv_at hl 2 rfl) ?_
  refine y_getf X (fl120 X.2.2.2.2.1) hI.1 hY_this rfl hs_tx tz_d30 ?_
  refine y_call (z := (0, 158, 1, some 4, xMni)) (av := [.ref tx]) (rest := []) (y_cokV (n := 0) (ci := 7) X ym_nextItem rfl rfl rfl (x_cons (x_at 638 (by decide +kernel) rfl) (x_cons (x_at 639 (by decide +kernel) rfl) (x_cons (x_at 640 (by decide +kernel) rfl) (x_cons (x_at 69 (by decide +kernel) rfl) x_nilm)))) (x_at 641 (by decide +kernel) rfl) (by decide +kernel) ⟨Nat.le_of_ble_eq_true rfl, Nat.le_of_ble_eq_true rfl⟩) hY0 hI rfl tz_d33 hl.1 (Nat.le_of_ble_eq_true rfl) (Nat.le_of_ble_eq_true rfl) (Nat.le_of_ble_eq_true rfl) (y_cons (y_cref hY_tx rfl) y_nil) rfl (y_recv rfl hY_tx) trivial (y_sub_ef rfl) fun v Yn o Hn L ho hr ha hIn hx_ hE hP => ?_
  replace hs_hd := y_Efld hE hY_this rfl (by decide) (by decide) hs_hd
  replace hs_dr := y_Efld hE hY_this rfl (by decide) (by decide) hs_dr
  replace hs_tx := y_Efld hE hY_this rfl (by decide) (by decide) hs_tx
  replace hs_mh := y_Efld hE hY_hd rfl (by decide) (by decide) hs_mh
  replace hs_md := y_Efld hE hY_dr rfl (by decide) (by decide) hs_md
  replace h28 := fun (q : Nat) (hq : Y0 q = some 28) (hnq : q ≠ md) => Eq.trans (y_Earr hE (y_mon B hI _ _ hq) rfl (by decide)) (h28 q hq hnq)
  replace hv28 := fun (f : Nat → Int32) hf => (hv28 f hf).kept (y_Earr hE hY_md rfl (by decide))
  replace hY_this := y_ext hx_ hI.1 hY_this
  replace hY_hd := y_ext hx_ hI.1 hY_hd
  replace hY_dr := y_ext hx_ hI.1 hY_dr
  replace hY_tx := y_ext hx_ hI.1 hY_tx
  replace hY_mh := y_ext hx_ hI.1 hY_mh
  replace hY_md := y_ext hx_ hI.1 hY_md
  obtain ⟨r33, rfl, h_r33⟩ := y_ansI (lo := (-2147483648)) (hi := 2147483647) (by decide) ho hr
  clear ho hr ha hE hP hI hx_
  rename x_I _ _ _ _ _ _ _ _ _ _ => hI
  refine lv_istore_n hx hb tz_d36 rfl hl (by decide) (lv' := [(3, .int r33), (2, .int ((-1) : Int32)), (1, .int (0 : Int32)), (0, .ref this)]) rfl fun ls hl => ?_
  refine W.widen (k := 0) (n := 5 * 0) (Nat.le_of_ble_eq_true rfl) (Nat.le_of_ble_eq_true rfl) ?_
  exact tz_L37 B rfl hs00 hs01 hsmh hsmd 242 _ _ _ _ _ _ _ _ hI hY_this hY_hd hY_dr hY_tx hY_md hs_hd hs_dr hs_tx (lv_sub hl [0, 1, 2, 3] rfl) (by first | assumption | omega) (by first | assumption | omega) h28 hv28 (by omega)
theorem gz_d0 : decode xMgi.2.1 0 = .ok (.iload_n 1, 1) := by decide +kernel
theorem gz_d1 : decode xMgi.2.1 1 = .ok (.iconst 0, 1) := by decide +kernel
theorem gz_d2 : decode xMgi.2.1 2 = .ok (.aload_n 0, 1) := by decide +kernel
theorem gz_d3 : decode xMgi.2.1 3 = .ok (.getfield 19, 3) := by decide +kernel
theorem gz_d6 : decode xMgi.2.1 6 = .ok (.arraylength, 1) := by decide +kernel
theorem gz_d7 : decode xMgi.2.1 7 = .ok (.iconst 1, 1) := by decide +kernel
theorem gz_d8 : decode xMgi.2.1 8 = .ok (.isub, 1) := by decide +kernel
theorem gz_d9 : decode xMgi.2.1 9 = .ok (.invokestatic 88, 3) := by decide +kernel
theorem gz_d12 : decode xMgi.2.1 12 = .ok (.ifCond .ne 10, 3) := by decide +kernel
theorem gz_d15 : decode xMgi.2.1 15 = .ok (.aload_n 0, 1) := by decide +kernel
theorem gz_d16 : decode xMgi.2.1 16 = .ok (.bipush (-2), 2) := by decide +kernel
theorem gz_d18 : decode xMgi.2.1 18 = .ok (.invokevirtual 59, 3) := by decide +kernel
theorem gz_d21 : decode xMgi.2.1 21 = .ok (.ireturn, 1) := by decide +kernel
theorem gz_d22 : decode xMgi.2.1 22 = .ok (.aload_n 0, 1) := by decide +kernel
theorem gz_d23 : decode xMgi.2.1 23 = .ok (.getfield 19, 3) := by decide +kernel
theorem gz_d26 : decode xMgi.2.1 26 = .ok (.iload_n 1, 1) := by decide +kernel
theorem gz_d27 : decode xMgi.2.1 27 = .ok (.aaload, 1) := by decide +kernel
theorem gz_d28 : decode xMgi.2.1 28 = .ok (.ifnonnull 16, 3) := by decide +kernel
theorem gz_d31 : decode xMgi.2.1 31 = .ok (.aload_n 0, 1) := by decide +kernel
theorem gz_d32 : decode xMgi.2.1 32 = .ok (.getfield 19, 3) := by decide +kernel
theorem gz_d35 : decode xMgi.2.1 35 = .ok (.iload_n 1, 1) := by decide +kernel
theorem gz_d36 : decode xMgi.2.1 36 = .ok (.new 9, 3) := by decide +kernel
theorem gz_d39 : decode xMgi.2.1 39 = .ok (.dup, 1) := by decide +kernel
theorem gz_d40 : decode xMgi.2.1 40 = .ok (.invokespecial 11, 3) := by decide +kernel
theorem gz_d43 : decode xMgi.2.1 43 = .ok (.aastore, 1) := by decide +kernel
theorem gz_d44 : decode xMgi.2.1 44 = .ok (.aload_n 0, 1) := by decide +kernel
theorem gz_d45 : decode xMgi.2.1 45 = .ok (.getfield 19, 3) := by decide +kernel
theorem gz_d48 : decode xMgi.2.1 48 = .ok (.iload_n 1, 1) := by decide +kernel
theorem gz_d49 : decode xMgi.2.1 49 = .ok (.aaload, 1) := by decide +kernel
theorem gz_d50 : decode xMgi.2.1 50 = .ok (.aload_n 0, 1) := by decide +kernel
theorem gz_d51 : decode xMgi.2.1 51 = .ok (.getfield 12, 3) := by decide +kernel
theorem gz_d54 : decode xMgi.2.1 54 = .ok (.invokevirtual 148, 3) := by decide +kernel
theorem gz_d57 : decode xMgi.2.1 57 = .ok (.iconst 1, 1) := by decide +kernel
theorem gz_d58 : decode xMgi.2.1 58 = .ok (.ireturn, 1) := by decide +kernel
theorem ym_gimage8 : y_Met vwCl x_G x_Zs x_Tb x_Nb xMgi y_T z_Pim8 := by
  refine y_main (by decide +kernel) (by decide +kernel) x_Tb_good x_Nb_ok ?_
  intro p l e s m below meth c D U Y0 av ls B hI _ hl
  have X := B.1
  have hx := X.1
  have hb := X.2.1
  have hY0 := B.2.2.2.2.1
  have hts := X.2.2.2.2.1
  obtain ⟨v0, v1, rfl, hv0', ⟨i, rfl, -⟩⟩ := x_two B.2.2.2.2.2
  obtain ⟨this, t0, rfl, ht0, hY_this⟩ := x_ref_at hv0' rfl
  obtain rfl := List.mem_singleton.mp ht0
  replace hl : lv_has ls xMgi.2.2.1 [(0, .ref this), (1, .int i)] := hl
  obtain ⟨hd, hs_hd, hY_hd⟩ := y_fldR (k := 0) hI.1 hY_this rfl rfl
  obtain ⟨kp, hs_kp, hY_kp⟩ := y_fldR (k := 2) hI.1 hY_this rfl rfl
  obtain ⟨mh, hs_mh, hY_mh⟩ := y_fldR (k := 11) hI.1 hY_hd rfl rfl
  have hs0 := hs_hd
  have hs2 := hs_kp
  have hs1 := hs_mh
  have hYm0 := hY_mh
  have hY_kp0 := hY_kp
  have hI0 := hI
  have hq_kp : s.heap[kp]? = s.heap[kp]? := rfl
  have h28 : ∀ q, Y0 q = some 28 → s.heap[q]? = s.heap[q]? := fun _ _ => rfl
  refine lv_iload_n hx hb gz_d0 rfl (lv_at hl 1 rfl) ?_
  refine lv_iconst hx hb gz_d1 (v := 0) (by decide) ?_
  have ec0 : (0 : Int32).toInt = 0 := by decide
  refine lv_aload_n hx hb gz_d2 rfl (lv_at hl 0 rfl) ?_
  refine y_getf X (fl158 X.2.2.2.2.1) hI.1 hY_this rfl hs_kp gz_d3 ?_
  refine y_alen X hI.1 hY_kp rfl gz_d6 ?_
  have h_nI2 : (nI 2).toInt = 2 := by decide
  refine lv_iconst hx hb gz_d7 (v := 1) (by decide) ?_
  have ec1 : (1 : Int32).toInt = 1 := by decide
  refine lv_isub hx hb gz_d8 ?_
  generalize hg_z8 : (nI 2) - (1 : Int32) = z8
  have h_z8 : z8.toInt = (nI 2).toInt - 1 := by rw [← hg_z8]; have := y_sub (x := (nI 2)) (y := (1 : Int32)) (by rw [ec1]; omega) (by rw [ec1]; omega); rw [ec1] at this; exact this
  refine y_call (z := (1, 88, 3, none, xM10)) (av := [.int i, .int (0 : Int32), .int z8]) (rest := []) (y_cokS (n := 3) X ym_within (x_cons (x_at 383 (by decide +kernel) rfl) (x_cons (x_at 369 (by decide +kernel) rfl) (x_cons (x_at 65 (by decide +kernel) rfl) x_nilm))) (x_at 370 (by decide +kernel) rfl) (by decide +kernel) ⟨Nat.le_of_ble_eq_true rfl, Nat.le_of_ble_eq_true rfl⟩) hY0 hI rfl gz_d9 hl.1 (Nat.le_of_ble_eq_true rfl) (Nat.le_of_ble_eq_true rfl) (Nat.le_of_ble_eq_true rfl) (y_cons ⟨_, rfl, x_i32 _⟩ (y_cons ⟨_, rfl, x_i32 _⟩ (y_cons ⟨_, rfl, x_i32 _⟩ y_nil))) rfl (y_norecv rfl) trivial (y_sub_ef rfl) fun v Yn o Hn L ho hr ha hIn hx_ hE hP => ?_
  replace hs_hd := y_Efld hE hY_this rfl (by decide) (by decide) hs_hd
  replace hs_kp := y_Efld hE hY_this rfl (by decide) (by decide) hs_kp
  replace hs_mh := y_Efld hE hY_hd rfl (by decide) (by decide) hs_mh
  replace h28 := fun (q : Nat) (hq : Y0 q = some 28) => Eq.trans (y_Earr hE (y_mon B hI _ _ hq) rfl (by decide)) (h28 q hq)
  replace hq_kp := (y_Earr hE hY_kp rfl (by decide)).trans hq_kp
  replace hY_this := y_ext hx_ hI.1 hY_this
  replace hY_hd := y_ext hx_ hI.1 hY_hd
  replace hY_kp := y_ext hx_ hI.1 hY_kp
  replace hY_mh := y_ext hx_ hI.1 hY_mh
  obtain ⟨r9, rfl, hin_r9, hout_r9⟩ := hP _ _ _ rfl
  clear ho hr ha hE hP hI hx_
  rename x_I _ _ _ _ _ _ _ _ _ _ => hI
  refine lv_if_ne hx hb gz_d12 (tgt := 22) (by decide) (fun q12 => ?_) (fun q12 => ?_)
  · have q12_ : ¬ r9.toInt = (0 : Int32).toInt := fun q => q12 (Int32.toInt_inj.mp q)
    have hw := hin_r9 q12
    refine lv_aload_n hx hb gz_d22 rfl (lv_at hl 0 rfl) ?_
    refine y_getf X (fl158 X.2.2.2.2.1) hI.1 hY_this rfl hs_kp gz_d23 ?_
    refine lv_iload_n hx hb gz_d26 rfl (lv_at hl 1 rfl) ?_
    obtain ⟨v27, hv27, hc27⟩ := y_elt (j := i.toInt.toNat) hI.1 hY_kp rfl (by omega)
    have hv0 : y_at kp i.toInt.toNat s.heap = some v27 := by rw [← z_atk hq_kp]; exact hv27
    refine y_aald X hI.1 hY_kp rfl (by omega) (by show _ < (2 : Int); omega) hv27 gz_d27 ?_
    rcases hc27 with ⟨e27, -⟩ | ⟨q27, t27, e27, ht27, hY_q27⟩
    · subst e27
      refine lv_ifnonnullN hx hb gz_d28 ?_
      refine lv_aload_n hx hb gz_d31 rfl (lv_at hl 0 rfl) ?_
      refine y_getf X (fl158 X.2.2.2.2.1) hI.1 hY_this rfl hs_kp gz_d32 ?_
      refine lv_iload_n hx hb gz_d35 rfl (lv_at hl 1 rfl) ?_
      refine y_newo (tag := 3) X hY0 hI rfl ⟨2, _, RX2, TX2, tyX2, rfl, rfl, iX2, tyX2_ok, (hts _ (x_at 94 (by decide +kernel) rfl)), (hts _ (x_at 95 (by decide +kernel) rfl)), (hts _ (x_at 66 (by decide +kernel) rfl)), x_dfl (by decide +kernel)⟩ (Nat.le_of_ble_eq_true rfl) (Nat.le_of_ble_eq_true rfl) gz_d36 fun Yn H n36 hnw => ?_
      obtain ⟨hIn, hmo, hY_n36, hfr_n36, hke⟩ := hnw
      replace hq_kp := (hke _ _ hY_kp).trans hq_kp
      replace hs_hd := y_slk hs_hd (hke _ _ hY_this)
      replace hs_kp := y_slk hs_kp (hke _ _ hY_this)
      replace hs_mh := y_slk hs_mh (hke _ _ hY_hd)
      replace h28 := fun (q : Nat) (hq : Y0 q = some 28) => Eq.trans (hke _ _ (y_mon B hI _ _ hq)) (h28 q hq)
      replace hY_this := hmo _ _ hY_this
      replace hY_hd := hmo _ _ hY_hd
      replace hY_kp := hmo _ _ hY_kp
      replace hY_mh := hmo _ _ hY_mh
      replace hI := hIn
      clear hIn hmo hke
      refine lv_dup hx hb gz_d39 rfl ?_
      refine y_callCP (z := (2, 11, 1, none, xMli)) (b := n36) (rest := [.ref n36, .int i, .ref kp]) (y_cokI (n := 0) X ym_landInit8 rfl (x_cons (x_at 96 (by decide +kernel) rfl) (x_cons (x_at 97 (by decide +kernel) rfl) (x_cons (x_at 66 (by decide +kernel) rfl) x_nilm))) (x_at 98 (by decide +kernel) rfl) rfl (fun Y av h => x_this h) (by decide +kernel) ⟨Nat.le_of_ble_eq_true rfl, Nat.le_of_ble_eq_true rfl⟩) hY0 hI rfl gz_d40 hl.1 (Nat.le_of_ble_eq_true rfl) (Nat.le_of_ble_eq_true rfl) (Nat.le_of_ble_eq_true rfl) (y_cons (y_cref hY_n36 rfl) y_nil) rfl rfl trivial (y_sub_ef rfl) hfr_n36 rfl fun Yn Hn L hIn hY_n hk hE hP => ?_
      replace hq_kp := (y_Earr hE hY_kp rfl (by decide)).trans hq_kp
      obtain ⟨mq, hs_mq, hY_mq, hfr_mq, -⟩ := hP _ rfl
      replace hfr_mq := Nat.le_trans hI.2.2.2.1 hfr_mq
      replace hs_hd := y_Efld hE hY_this rfl (by decide) (by decide) hs_hd
      replace hs_kp := y_Efld hE hY_this rfl (by decide) (by decide) hs_kp
      replace hs_mh := y_Efld hE hY_hd rfl (by decide) (by decide) hs_mh
      replace h28 := fun (q : Nat) (hq : Y0 q = some 28) => Eq.trans (y_Earr hE (y_mon B hI _ _ hq) rfl (by decide)) (h28 q hq)
      replace hY_this := hk _ _ (y_ne hY_this hY_n36 rfl) hY_this
      replace hY_hd := hk _ _ (y_ne hY_hd hY_n36 rfl) hY_hd
      replace hY_kp := hk _ _ (y_ne hY_kp hY_n36 rfl) hY_kp
      replace hY_mh := hk _ _ (y_ne hY_mh hY_n36 rfl) hY_mh
      replace hY_n36 := hY_n
      clear hI hE hk hY_n hP
      rename x_I _ _ _ _ _ _ _ _ _ _ => hI
      refine y_aast X hY0 hI hY_kp rfl hY_n36 rfl rfl (x_castSelf (X.2.2.2.2.2.1.1 2 _ rfl).2) (by omega) (by show _ < (2 : Int); omega) (y_crefA hY_n36 rfl) (by decide +kernel) gz_d43 fun H locs hI h_at h_ne ho => ?_
      replace hs_hd := y_slk hs_hd (ho _ (y_ne hY_this hY_kp rfl))
      replace hs_kp := y_slk hs_kp (ho _ (y_ne hY_this hY_kp rfl))
      replace hs_mh := y_slk hs_mh (ho _ (y_ne hY_hd hY_kp rfl))
      replace hs_mq := y_slk hs_mq (ho _ (y_ne hY_n36 hY_kp rfl))
      replace h28 := fun (q : Nat) (hq : Y0 q = some 28) => Eq.trans (ho q (y_ne (y_mon B hI _ _ hq) hY_kp rfl)) (h28 q hq)
      have hoth : ∀ j : Nat, j ≠ i.toInt.toNat → y_at kp j H = y_at kp j s.heap := fun j hj => (h_ne j hj).trans (z_atk hq_kp)
      obtain ⟨Hk, hHk⟩ : ∃ Hk : Heap, Hk = H := ⟨_, rfl⟩
      have h_at0 := h_at
      rw [← hHk] at hoth h_at0
      replace hq_kp : H[kp]? = Hk[kp]? := by rw [hHk]
      refine lv_aload_n hx hb gz_d44 rfl (lv_at hl 0 rfl) ?_
      refine y_getf X (fl158 X.2.2.2.2.1) hI.1 hY_this rfl hs_kp gz_d45 ?_
      refine lv_iload_n hx hb gz_d48 rfl (lv_at hl 1 rfl) ?_
      refine y_aald X hI.1 hY_kp rfl (by omega) (by show _ < (2 : Int); omega) h_at gz_d49 ?_
      refine lv_aload_n hx hb gz_d50 rfl (lv_at hl 0 rfl) ?_
      refine y_getf X (fl8 X.2.2.2.2.1) hI.1 hY_this rfl hs_hd gz_d51 ?_
      refine y_call (z := (0, 148, 2, some 2, xM58)) (av := [.ref n36, .ref hd]) (rest := []) (y_cokV (n := 1) (ci := 2) X ym_copyFrom8 rfl rfl rfl (x_cons (x_at 623 (by decide +kernel) rfl) (x_cons (x_at 624 (by decide +kernel) rfl) (x_cons (x_at 625 (by decide +kernel) rfl) (x_cons (x_at 66 (by decide +kernel) rfl) x_nilm)))) (x_at 626 (by decide +kernel) rfl) (by decide +kernel) ⟨Nat.le_of_ble_eq_true rfl, Nat.le_of_ble_eq_true rfl⟩) hY0 hI rfl gz_d54 hl.1 (Nat.le_of_ble_eq_true rfl) (Nat.le_of_ble_eq_true rfl) (Nat.le_of_ble_eq_true rfl) (y_cons (y_cref hY_n36 rfl) (y_cons (y_cref hY_hd rfl) y_nil)) rfl (y_recv rfl hY_n36) trivial (y_sub_ef rfl) fun v Yn o Hn L ho hr ha hIn hx_ hE hP => ?_
      have hPc := hP _ _ _ _ rfl hs_mq hs_mh
      replace hs_hd := y_Efld hE hY_this rfl (by decide) (by decide) hs_hd
      replace hs_kp := y_Efld hE hY_this rfl (by decide) (by decide) hs_kp
      replace hs_mh := y_Efld hE hY_hd rfl (by decide) (by decide) hs_mh
      replace hs_mq := y_Efld hE hY_n36 rfl (by decide) (by decide) hs_mq
      have hv28 := fun (f : Nat → Int32) hf => hPc.1 f (y_A.kept hf (h28 _ hYm0))
      replace h28 := fun (q : Nat) (hq : Y0 q = some 28) (hnq : q ≠ mq) => Eq.trans (hPc.2 q (y_mon B hI _ _ hq) hnq) (h28 q hq)
      replace hq_kp := (y_Earr hE hY_kp rfl (by decide)).trans hq_kp
      replace hY_this := y_ext hx_ hI.1 hY_this
      replace hY_hd := y_ext hx_ hI.1 hY_hd
      replace hY_kp := y_ext hx_ hI.1 hY_kp
      replace hY_mh := y_ext hx_ hI.1 hY_mh
      replace hY_n36 := y_ext hx_ hI.1 hY_n36
      replace hY_mq := y_ext hx_ hI.1 hY_mq
      obtain rfl := y_ansV rfl ho hr
      clear ho hr ha hE hP hI hx_
      rename x_I _ _ _ _ _ _ _ _ _ _ => hI
      refine lv_iconst hx hb gz_d57 (v := 1) (by decide) ?_
      exact y_ireturn B hI rfl rfl rfl List.mem_cons_self ⟨_, rfl, ⟨_, rfl, x_i32 _⟩⟩ (x_cs.mono B.2.2.2.2.2 (y_mon B hI)) (fun t' d' k' m' i' h1 h2 h3 h4 => by cases h1; cases h2.symm.trans hs0; cases h3.symm.trans hs2; cases h4.symm.trans hs1; exact ⟨fun h => absurd (by omega) h, fun _ => ⟨rfl, n36, mq, (z_atk hq_kp).trans h_at0, hY_n36, hs_mq, hY_mq, Or.inr hfr_mq, hv28, h28, fun j _ hj => (z_atk hq_kp).trans (hoth j hj)⟩⟩) (by exact Nat.le_of_ble_eq_true rfl) (by exact Nat.le_of_ble_eq_true rfl) gz_d58
    · subst e27
      obtain rfl := List.mem_singleton.mp ht27
      refine lv_ifnonnull hx hb gz_d28 (tgt := 44) (by decide) ?_
      obtain ⟨mq, hs_mq, hY_mq⟩ := y_fldR (k := 11) hI.1 hY_q27 rfl rfl
      refine lv_aload_n hx hb gz_d44 rfl (lv_at hl 0 rfl) ?_
      refine y_getf X (fl158 X.2.2.2.2.1) hI.1 hY_this rfl hs_kp gz_d45 ?_
      refine lv_iload_n hx hb gz_d48 rfl (lv_at hl 1 rfl) ?_
      refine y_aald X hI.1 hY_kp rfl (by omega) (by show _ < (2 : Int); omega) hv27 gz_d49 ?_
      refine lv_aload_n hx hb gz_d50 rfl (lv_at hl 0 rfl) ?_
      refine y_getf X (fl8 X.2.2.2.2.1) hI.1 hY_this rfl hs_hd gz_d51 ?_
      refine y_call (z := (0, 148, 2, some 2, xM58)) (av := [.ref q27, .ref hd]) (rest := []) (y_cokV (n := 1) (ci := 2) X ym_copyFrom8 rfl rfl rfl (x_cons (x_at 623 (by decide +kernel) rfl) (x_cons (x_at 624 (by decide +kernel) rfl) (x_cons (x_at 625 (by decide +kernel) rfl) (x_cons (x_at 66 (by decide +kernel) rfl) x_nilm)))) (x_at 626 (by decide +kernel) rfl) (by decide +kernel) ⟨Nat.le_of_ble_eq_true rfl, Nat.le_of_ble_eq_true rfl⟩) hY0 hI rfl gz_d54 hl.1 (Nat.le_of_ble_eq_true rfl) (Nat.le_of_ble_eq_true rfl) (Nat.le_of_ble_eq_true rfl) (y_cons (y_cref hY_q27 rfl) (y_cons (y_cref hY_hd rfl) y_nil)) rfl (y_recv rfl hY_q27) trivial (y_sub_ef rfl) fun v Yn o Hn L ho hr ha hIn hx_ hE hP => ?_
      have hPc := hP _ _ _ _ rfl hs_mq hs_mh
      replace hs_hd := y_Efld hE hY_this rfl (by decide) (by decide) hs_hd
      replace hs_kp := y_Efld hE hY_this rfl (by decide) (by decide) hs_kp
      replace hs_mh := y_Efld hE hY_hd rfl (by decide) (by decide) hs_mh
      replace hs_mq := y_Efld hE hY_q27 rfl (by decide) (by decide) hs_mq
      have hv28 := fun (f : Nat → Int32) hf => hPc.1 f (y_A.kept hf (h28 _ hYm0))
      replace h28 := fun (q : Nat) (hq : Y0 q = some 28) (hnq : q ≠ mq) => Eq.trans (hPc.2 q (y_mon B hI _ _ hq) hnq) (h28 q hq)
      replace hq_kp := (y_Earr hE hY_kp rfl (by decide)).trans hq_kp
      replace hY_this := y_ext hx_ hI.1 hY_this
      replace hY_hd := y_ext hx_ hI.1 hY_hd
      replace hY_kp := y_ext hx_ hI.1 hY_kp
      replace hY_mh := y_ext hx_ hI.1 hY_mh
      replace hY_q27 := y_ext hx_ hI.1 hY_q27
      replace hY_mq := y_ext hx_ hI.1 hY_mq
      obtain rfl := y_ansV rfl ho hr
      clear ho hr ha hE hP hI hx_
      rename x_I _ _ _ _ _ _ _ _ _ _ => hI
      refine lv_iconst hx hb gz_d57 (v := 1) (by decide) ?_
      exact y_ireturn B hI rfl rfl rfl List.mem_cons_self ⟨_, rfl, ⟨_, rfl, x_i32 _⟩⟩ (x_cs.mono B.2.2.2.2.2 (y_mon B hI)) (fun t' d' k' m' i' h1 h2 h3 h4 => by cases h1; cases h2.symm.trans hs0; cases h3.symm.trans hs2; cases h4.symm.trans hs1; exact ⟨fun h => absurd (by omega) h, fun _ => ⟨rfl, q27, mq, (z_atk hq_kp).trans hv0, hY_q27, hs_mq, hY_mq, Or.inl hv0, hv28, h28, fun j _ hj => z_atk hq_kp⟩⟩) (by exact Nat.le_of_ble_eq_true rfl) (by exact Nat.le_of_ble_eq_true rfl) gz_d58
  · have q12_ : r9.toInt = (0 : Int32).toInt := by rw [q12]
    have hw := hout_r9 q12
    refine lv_aload_n hx hb gz_d15 rfl (lv_at hl 0 rfl) ?_
    refine lv_bipush hx hb gz_d16 (v := (-2)) (by decide) ?_
    have ecm2 : ((-2) : Int32).toInt = (-2) := by decide
    refine y_call (z := (0, 59, 2, some 0, xM8)) (av := [.ref this, .int ((-2) : Int32)]) (rest := []) (y_cokV (n := 1) (ci := 11) X ym_counted rfl rfl rfl (x_cons (x_at 375 (by decide +kernel) rfl) (x_cons (x_at 377 (by decide +kernel) rfl) (x_cons (x_at 1 (by decide +kernel) rfl) (x_cons (x_at 65 (by decide +kernel) rfl) x_nilm)))) (x_at 378 (by decide +kernel) rfl) (by decide +kernel) ⟨Nat.le_of_ble_eq_true rfl, Nat.le_of_ble_eq_true rfl⟩) hY0 hI rfl gz_d18 hl.1 (Nat.le_of_ble_eq_true rfl) (Nat.le_of_ble_eq_true rfl) (Nat.le_of_ble_eq_true rfl) (y_cons (y_cref hY_this rfl) (y_cons ⟨_, rfl, x_i32 _⟩ y_nil)) rfl (y_recv rfl hY_this) trivial (y_sub_ef rfl) fun v Yn o Hn L ho hr ha hIn hx_ hE hP => ?_
    replace hs_hd := y_Efld hE hY_this rfl (by decide) (by decide) hs_hd
    replace hs_kp := y_Efld hE hY_this rfl (by decide) (by decide) hs_kp
    replace hs_mh := y_Efld hE hY_hd rfl (by decide) (by decide) hs_mh
    replace h28 := fun (q : Nat) (hq : Y0 q = some 28) => Eq.trans (y_Earr hE (y_mon B hI _ _ hq) rfl (by decide)) (h28 q hq)
    replace hq_kp := (y_Earr hE hY_kp rfl (by decide)).trans hq_kp
    replace hY_this := y_ext hx_ hI.1 hY_this
    replace hY_hd := y_ext hx_ hI.1 hY_hd
    replace hY_kp := y_ext hx_ hI.1 hY_kp
    replace hY_mh := y_ext hx_ hI.1 hY_mh
    obtain rfl := hP _ _ rfl
    clear ho hr ha hE hP hI hx_
    rename x_I _ _ _ _ _ _ _ _ _ _ => hI
    exact y_ireturn B hI rfl rfl rfl List.mem_cons_self ⟨_, rfl, ⟨_, rfl, x_i32 _⟩⟩ (x_cs.mono B.2.2.2.2.2 (y_mon B hI)) (fun t' d' k' m' i' h1 h2 h3 h4 => by cases h1; cases h2.symm.trans hs0; cases h3.symm.trans hs2; cases h4.symm.trans hs1; exact ⟨fun _ => ⟨rfl, h28, fun j _ => z_atk hq_kp⟩, fun h => absurd h (by omega)⟩) (by exact Nat.le_of_ble_eq_true rfl) (by exact Nat.le_of_ble_eq_true rfl) gz_d21
