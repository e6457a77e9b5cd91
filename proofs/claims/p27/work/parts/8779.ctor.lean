theorem fl_lj_240 {s : State} {args : Array Value} (hts : ∀ w ∈ x_Tb, w.before args s = true) : x_fok vwCl x_G x_Tb s args "TwinFires$Land" (29, 3, 7) := ⟨2, _, RX2, TX2, "TwinFires$Land", rfl, rfl, Nat.le_of_ble_eq_true rfl, iX2, (hts _ (x_at 166 (by decide +kernel) rfl)), fun x h => h⟩
theorem fw_lj_241 {s : State} {args : Array Value} {mn : String} (hts : ∀ w ∈ x_Tb, w.before args s = true) (hn : mn = "<init>") : x_pok vwCl x_G x_Tb s args "TwinFires$Land" mn (9, 3, 1) := ⟨2, _, RX2, TX2, "TwinFires$Land", tyX2, _, rfl, rfl, Nat.le_of_ble_eq_true rfl, iX2, (hts _ (x_at 150 (by decide +kernel) rfl)), fun x h => h, tyX2_ok, nmX2, rfl, x_fitA1 _ _, Or.inr ⟨rfl, hn, rfl⟩⟩
theorem fw_lj_242 {s : State} {args : Array Value} {mn : String} (hts : ∀ w ∈ x_Tb, w.before args s = true) (hn : mn = "<init>") : x_pok vwCl x_G x_Tb s args "TwinFires$Land" mn (15, 3, 2) := ⟨2, _, RX2, TX2, "TwinFires$Land", tyX2, _, rfl, rfl, Nat.le_of_ble_eq_true rfl, iX2, (hts _ (x_at 153 (by decide +kernel) rfl)), fun x h => h, tyX2_ok, nmX2, rfl, x_fitA1 _ _, Or.inr ⟨rfl, hn, rfl⟩⟩
theorem fw_lj_243 {s : State} {args : Array Value} {mn : String} (hts : ∀ w ∈ x_Tb, w.before args s = true) (hn : mn = "<init>") : x_pok vwCl x_G x_Tb s args "TwinFires$Land" mn (18, 3, 3) := ⟨2, _, RX2, TX2, "TwinFires$Land", tyX2, _, rfl, rfl, Nat.le_of_ble_eq_true rfl, iX2, (hts _ (x_at 156 (by decide +kernel) rfl)), fun x h => h, tyX2_ok, nmX2, rfl, x_fitA1 _ _, Or.inr ⟨rfl, hn, rfl⟩⟩
theorem fw_lj_244 {s : State} {args : Array Value} {mn : String} (hts : ∀ w ∈ x_Tb, w.before args s = true) (hn : mn = "<init>") : x_pok vwCl x_G x_Tb s args "TwinFires$Land" mn (21, 3, 4) := ⟨2, _, RX2, TX2, "TwinFires$Land", tyX2, _, rfl, rfl, Nat.le_of_ble_eq_true rfl, iX2, (hts _ (x_at 159 (by decide +kernel) rfl)), fun x h => h, tyX2_ok, nmX2, rfl, x_fitA1 _ _, Or.inr ⟨rfl, hn, rfl⟩⟩
theorem fw_lj_245 {s : State} {args : Array Value} {mn : String} (hts : ∀ w ∈ x_Tb, w.before args s = true) (hn : mn = "<init>") : x_pok vwCl x_G x_Tb s args "TwinFires$Land" mn (24, 3, 5) := ⟨2, _, RX2, TX2, "TwinFires$Land", tyX2, _, rfl, rfl, Nat.le_of_ble_eq_true rfl, iX2, (hts _ (x_at 161 (by decide +kernel) rfl)), fun x h => h, tyX2_ok, nmX2, rfl, x_fitA1 _ _, Or.inr ⟨rfl, hn, rfl⟩⟩
theorem fw_lj_246 {s : State} {args : Array Value} {mn : String} (hts : ∀ w ∈ x_Tb, w.before args s = true) (hn : mn = "<init>") : x_pok vwCl x_G x_Tb s args "TwinFires$Land" mn (29, 3, 7) := ⟨2, _, RX2, TX2, "TwinFires$Land", tyX2, _, rfl, rfl, Nat.le_of_ble_eq_true rfl, iX2, (hts _ (x_at 166 (by decide +kernel) rfl)), fun x h => h, tyX2_ok, nmX2, rfl, x_fitA1 _ _, Or.inr ⟨rfl, hn, rfl⟩⟩
theorem fw_lj_247 {s : State} {args : Array Value} {mn : String} (hts : ∀ w ∈ x_Tb, w.before args s = true) (hn : mn = "<init>") : x_pok vwCl x_G x_Tb s args "TwinFires$Land" mn (33, 3, 8) := ⟨2, _, RX2, TX2, "TwinFires$Land", tyX2, _, rfl, rfl, Nat.le_of_ble_eq_true rfl, iX2, (hts _ (x_at 169 (by decide +kernel) rfl)), fun x h => h, tyX2_ok, nmX2, rfl, x_fitA1 _ _, Or.inr ⟨rfl, hn, rfl⟩⟩
theorem fw_lj_248 {s : State} {args : Array Value} {mn : String} (hts : ∀ w ∈ x_Tb, w.before args s = true) (hn : mn = "<init>") : x_pok vwCl x_G x_Tb s args "TwinFires$Land" mn (36, 3, 9) := ⟨2, _, RX2, TX2, "TwinFires$Land", tyX2, _, rfl, rfl, Nat.le_of_ble_eq_true rfl, iX2, (hts _ (x_at 172 (by decide +kernel) rfl)), fun x h => h, tyX2_ok, nmX2, rfl, x_fitA1 _ _, Or.inr ⟨rfl, hn, rfl⟩⟩
theorem fw_lj_249 {s : State} {args : Array Value} {mn : String} (hts : ∀ w ∈ x_Tb, w.before args s = true) (hn : mn = "<init>") : x_pok vwCl x_G x_Tb s args "TwinFires$Land" mn (39, 3, 10) := ⟨2, _, RX2, TX2, "TwinFires$Land", tyX2, _, rfl, rfl, Nat.le_of_ble_eq_true rfl, iX2, (hts _ (x_at 174 (by decide +kernel) rfl)), fun x h => h, tyX2_ok, nmX2, rfl, x_fitA1 _ _, Or.inr ⟨rfl, hn, rfl⟩⟩
theorem fw_lj_250 {s : State} {args : Array Value} {mn : String} (hts : ∀ w ∈ x_Tb, w.before args s = true) (hn : mn = "<init>") : x_pok vwCl x_G x_Tb s args "TwinFires$Land" mn (42, 3, 11) := ⟨2, _, RX2, TX2, "TwinFires$Land", tyX2, _, rfl, rfl, Nat.le_of_ble_eq_true rfl, iX2, (hts _ (x_at 178 (by decide +kernel) rfl)), fun x h => h, tyX2_ok, nmX2, rfl, x_fitA1 _ _, Or.inr ⟨rfl, hn, rfl⟩⟩
theorem fw_lj_251 {s : State} {args : Array Value} {mn : String} (hts : ∀ w ∈ x_Tb, w.before args s = true) (hn : mn = "<init>") : x_pok vwCl x_G x_Tb s args "TwinFires$Land" mn (45, 3, 13) := ⟨2, _, RX2, TX2, "TwinFires$Land", tyX2, _, rfl, rfl, Nat.le_of_ble_eq_true rfl, iX2, (hts _ (x_at 184 (by decide +kernel) rfl)), fun x h => h, tyX2_ok, nmX2, rfl, x_fitA1 _ _, Or.inr ⟨rfl, hn, rfl⟩⟩
theorem fw_lj_252 {s : State} {args : Array Value} {mn : String} (hts : ∀ w ∈ x_Tb, w.before args s = true) (hn : mn = "<init>") : x_pok vwCl x_G x_Tb s args "TwinFires$Land" mn (48, 3, 14) := ⟨2, _, RX2, TX2, "TwinFires$Land", tyX2, _, rfl, rfl, Nat.le_of_ble_eq_true rfl, iX2, (hts _ (x_at 187 (by decide +kernel) rfl)), fun x h => h, tyX2_ok, nmX2, rfl, x_fitA1 _ _, Or.inr ⟨rfl, hn, rfl⟩⟩
theorem fw_lj_253 {s : State} {args : Array Value} {mn : String} (hts : ∀ w ∈ x_Tb, w.before args s = true) (hn : mn = "<init>") : x_pok vwCl x_G x_Tb s args "TwinFires$Land" mn (51, 3, 15) := ⟨2, _, RX2, TX2, "TwinFires$Land", tyX2, _, rfl, rfl, Nat.le_of_ble_eq_true rfl, iX2, (hts _ (x_at 189 (by decide +kernel) rfl)), fun x h => h, tyX2_ok, nmX2, rfl, x_fitA1 _ _, Or.inr ⟨rfl, hn, rfl⟩⟩
theorem fl_lj_254 {s : State} {args : Array Value} (hts : ∀ w ∈ x_Tb, w.before args s = true) : x_fok vwCl x_G x_Tb s args "TwinFires$Land" (39, 3, 10) := ⟨2, _, RX2, TX2, "TwinFires$Land", rfl, rfl, Nat.le_of_ble_eq_true rfl, iX2, (hts _ (x_at 174 (by decide +kernel) rfl)), fun x h => h⟩
theorem fl_lj_255 {s : State} {args : Array Value} (hts : ∀ w ∈ x_Tb, w.before args s = true) : x_fok vwCl x_G x_Tb s args "TwinFires$Land" (48, 3, 14) := ⟨2, _, RX2, TX2, "TwinFires$Land", rfl, rfl, Nat.le_of_ble_eq_true rfl, iX2, (hts _ (x_at 187 (by decide +kernel) rfl)), fun x h => h⟩
theorem fl_tj_256 {s : State} {args : Array Value} (hts : ∀ w ∈ x_Tb, w.before args s = true) : x_fok vwCl x_G x_Tb s args "TwinFires" (16, 0, 1) := ⟨11, _, RX11, TX11, "TwinFires", rfl, rfl, Nat.le_of_ble_eq_true rfl, iX11, (hts _ (x_at 330 (by decide +kernel) rfl)), fun x h => h⟩
theorem fw_tj_257 {s : State} {args : Array Value} {mn : String} (hts : ∀ w ∈ x_Tb, w.before args s = true) : x_pok vwCl x_G x_Tb s args "TwinFires" mn (12, 0, 0) := ⟨11, _, RX11, TX11, "TwinFires", tyX11, _, rfl, rfl, Nat.le_of_ble_eq_true rfl, iX11, (hts _ (x_at 329 (by decide +kernel) rfl)), fun x h => h, tyX11_ok, nmX11, rfl, x_fitO _ _, Or.inl rfl⟩
theorem fw_tj_258 {s : State} {args : Array Value} {mn : String} (hts : ∀ w ∈ x_Tb, w.before args s = true) : x_pok vwCl x_G x_Tb s args "TwinFires" mn (16, 0, 1) := ⟨11, _, RX11, TX11, "TwinFires", tyX11, _, rfl, rfl, Nat.le_of_ble_eq_true rfl, iX11, (hts _ (x_at 330 (by decide +kernel) rfl)), fun x h => h, tyX11_ok, nmX11, rfl, x_fitO _ _, Or.inl rfl⟩
theorem fl_tj_259 {s : State} {args : Array Value} (hts : ∀ w ∈ x_Tb, w.before args s = true) : x_fok vwCl x_G x_Tb s args "TwinFires" (162, 4, 1) := ⟨7, _, RX7, TX7, "TwinFires$Text", rfl, rfl, Nat.le_of_ble_eq_true rfl, iX7, (hts _ (x_at 233 (by decide +kernel) rfl)), fun x h => h⟩
theorem lj_d0 : decode xMli.2.1 0 = .ok (.aload_n 0, 1) := by decide +kernel
theorem lj_d1 : decode xMli.2.1 1 = .ok (.invokespecial 3, 3) := by decide +kernel
theorem lj_d4 : decode xMli.2.1 4 = .ok (.aload_n 0, 1) := by decide +kernel
theorem lj_d5 : decode xMli.2.1 5 = .ok (.bipush 10, 2) := by decide +kernel
theorem lj_d7 : decode xMli.2.1 7 = .ok (.newarray .int, 2) := by decide +kernel
theorem lj_d9 : decode xMli.2.1 9 = .ok (.putfield 9, 3) := by decide +kernel
theorem lj_d12 : decode xMli.2.1 12 = .ok (.aload_n 0, 1) := by decide +kernel
theorem lj_d13 : decode xMli.2.1 13 = .ok (.bipush 10, 2) := by decide +kernel
theorem lj_d15 : decode xMli.2.1 15 = .ok (.newarray .int, 2) := by decide +kernel
theorem lj_d17 : decode xMli.2.1 17 = .ok (.putfield 15, 3) := by decide +kernel
theorem lj_d20 : decode xMli.2.1 20 = .ok (.aload_n 0, 1) := by decide +kernel
theorem lj_d21 : decode xMli.2.1 21 = .ok (.bipush 10, 2) := by decide +kernel
theorem lj_d23 : decode xMli.2.1 23 = .ok (.newarray .int, 2) := by decide +kernel
theorem lj_d25 : decode xMli.2.1 25 = .ok (.putfield 18, 3) := by decide +kernel
theorem lj_d28 : decode xMli.2.1 28 = .ok (.aload_n 0, 1) := by decide +kernel
theorem lj_d29 : decode xMli.2.1 29 = .ok (.bipush 10, 2) := by decide +kernel
theorem lj_d31 : decode xMli.2.1 31 = .ok (.newarray .int, 2) := by decide +kernel
theorem lj_d33 : decode xMli.2.1 33 = .ok (.putfield 21, 3) := by decide +kernel
theorem lj_d36 : decode xMli.2.1 36 = .ok (.aload_n 0, 1) := by decide +kernel
theorem lj_d37 : decode xMli.2.1 37 = .ok (.bipush 10, 2) := by decide +kernel
theorem lj_d39 : decode xMli.2.1 39 = .ok (.newarray .int, 2) := by decide +kernel
theorem lj_d41 : decode xMli.2.1 41 = .ok (.putfield 24, 3) := by decide +kernel
theorem lj_d44 : decode xMli.2.1 44 = .ok (.aload_n 0, 1) := by decide +kernel
theorem lj_d45 : decode xMli.2.1 45 = .ok (.bipush 8, 2) := by decide +kernel
theorem lj_d47 : decode xMli.2.1 47 = .ok (.anewarray 27, 3) := by decide +kernel
theorem lj_d50 : decode xMli.2.1 50 = .ok (.putfield 29, 3) := by decide +kernel
theorem lj_d53 : decode xMli.2.1 53 = .ok (.aload_n 0, 1) := by decide +kernel
theorem lj_d54 : decode xMli.2.1 54 = .ok (.bipush 8, 2) := by decide +kernel
theorem lj_d56 : decode xMli.2.1 56 = .ok (.newarray .int, 2) := by decide +kernel
theorem lj_d58 : decode xMli.2.1 58 = .ok (.putfield 33, 3) := by decide +kernel
theorem lj_d61 : decode xMli.2.1 61 = .ok (.aload_n 0, 1) := by decide +kernel
theorem lj_d62 : decode xMli.2.1 62 = .ok (.bipush 8, 2) := by decide +kernel
theorem lj_d64 : decode xMli.2.1 64 = .ok (.newarray .int, 2) := by decide +kernel
theorem lj_d66 : decode xMli.2.1 66 = .ok (.putfield 36, 3) := by decide +kernel
theorem lj_d69 : decode xMli.2.1 69 = .ok (.aload_n 0, 1) := by decide +kernel
theorem lj_d70 : decode xMli.2.1 70 = .ok (.iconst 4, 1) := by decide +kernel
theorem lj_d71 : decode xMli.2.1 71 = .ok (.newarray .int, 2) := by decide +kernel
theorem lj_d73 : decode xMli.2.1 73 = .ok (.putfield 39, 3) := by decide +kernel
theorem lj_d76 : decode xMli.2.1 76 = .ok (.aload_n 0, 1) := by decide +kernel
theorem lj_d77 : decode xMli.2.1 77 = .ok (.bipush 12, 2) := by decide +kernel
theorem lj_d79 : decode xMli.2.1 79 = .ok (.newarray .int, 2) := by decide +kernel
theorem lj_d81 : decode xMli.2.1 81 = .ok (.putfield 42, 3) := by decide +kernel
theorem lj_d84 : decode xMli.2.1 84 = .ok (.aload_n 0, 1) := by decide +kernel
theorem lj_d85 : decode xMli.2.1 85 = .ok (.bipush 8, 2) := by decide +kernel
theorem lj_d87 : decode xMli.2.1 87 = .ok (.newarray .int, 2) := by decide +kernel
theorem lj_d89 : decode xMli.2.1 89 = .ok (.putfield 45, 3) := by decide +kernel
theorem lj_d92 : decode xMli.2.1 92 = .ok (.aload_n 0, 1) := by decide +kernel
theorem lj_d93 : decode xMli.2.1 93 = .ok (.bipush 12, 2) := by decide +kernel
theorem lj_d95 : decode xMli.2.1 95 = .ok (.newarray .int, 2) := by decide +kernel
theorem lj_d97 : decode xMli.2.1 97 = .ok (.putfield 48, 3) := by decide +kernel
theorem lj_d100 : decode xMli.2.1 100 = .ok (.aload_n 0, 1) := by decide +kernel
theorem lj_d101 : decode xMli.2.1 101 = .ok (.bipush 12, 2) := by decide +kernel
theorem lj_d103 : decode xMli.2.1 103 = .ok (.newarray .int, 2) := by decide +kernel
theorem lj_d105 : decode xMli.2.1 105 = .ok (.putfield 51, 3) := by decide +kernel
theorem lj_d108 : decode xMli.2.1 108 = .ok (.aload_n 0, 1) := by decide +kernel
theorem lj_d109 : decode xMli.2.1 109 = .ok (.getfield 39, 3) := by decide +kernel
theorem lj_d112 : decode xMli.2.1 112 = .ok (.iconst 3, 1) := by decide +kernel
theorem lj_d113 : decode xMli.2.1 113 = .ok (.bipush 9, 2) := by decide +kernel
theorem lj_d115 : decode xMli.2.1 115 = .ok (.iastore, 1) := by decide +kernel
theorem lj_d116 : decode xMli.2.1 116 = .ok (.aload_n 0, 1) := by decide +kernel
theorem lj_d117 : decode xMli.2.1 117 = .ok (.getfield 48, 3) := by decide +kernel
theorem lj_d120 : decode xMli.2.1 120 = .ok (.iconst (-1), 1) := by decide +kernel
theorem lj_d121 : decode xMli.2.1 121 = .ok (.invokestatic 54, 3) := by decide +kernel
theorem lj_d124 : decode xMli.2.1 124 = .ok (.new 27, 3) := by decide +kernel
theorem lj_d127 : decode xMli.2.1 127 = .ok (.dup, 1) := by decide +kernel
theorem lj_d128 : decode xMli.2.1 128 = .ok (.iconst 0, 1) := by decide +kernel
theorem lj_d129 : decode xMli.2.1 129 = .ok (.iconst 0, 1) := by decide +kernel
theorem lj_d130 : decode xMli.2.1 130 = .ok (.iconst 0, 1) := by decide +kernel
theorem lj_d131 : decode xMli.2.1 131 = .ok (.iconst 0, 1) := by decide +kernel
theorem lj_d132 : decode xMli.2.1 132 = .ok (.iconst 0, 1) := by decide +kernel
theorem lj_d133 : decode xMli.2.1 133 = .ok (.invokespecial 60, 3) := by decide +kernel
theorem lj_d136 : decode xMli.2.1 136 = .ok (.astore_n 1, 1) := by decide +kernel
theorem lj_d137 : decode xMli.2.1 137 = .ok (.iconst 0, 1) := by decide +kernel
theorem lj_d138 : decode xMli.2.1 138 = .ok (.istore_n 2, 1) := by decide +kernel
theorem lj_d139 : decode xMli.2.1 139 = .ok (.iload_n 2, 1) := by decide +kernel
theorem lj_d140 : decode xMli.2.1 140 = .ok (.bipush 8, 2) := by decide +kernel
theorem lj_d142 : decode xMli.2.1 142 = .ok (.if_icmp .ge 16, 3) := by decide +kernel
theorem lj_d145 : decode xMli.2.1 145 = .ok (.aload_n 0, 1) := by decide +kernel
theorem lj_d146 : decode xMli.2.1 146 = .ok (.getfield 29, 3) := by decide +kernel
theorem lj_d149 : decode xMli.2.1 149 = .ok (.iload_n 2, 1) := by decide +kernel
theorem lj_d150 : decode xMli.2.1 150 = .ok (.aload_n 1, 1) := by decide +kernel
theorem lj_d151 : decode xMli.2.1 151 = .ok (.aastore, 1) := by decide +kernel
theorem lj_d152 : decode xMli.2.1 152 = .ok (.iinc 2 1, 3) := by decide +kernel
theorem lj_d155 : decode xMli.2.1 155 = .ok (.goto (-16), 3) := by decide +kernel
theorem lj_d158 : decode xMli.2.1 158 = .ok (.return_, 1) := by decide +kernel
theorem lj_L139 {p : Program} {l : Launch} {e : Env} {s : State} {m : MethodId} {below : List Frame} {meth : Method} {c : Code} {D : va_G} {U : State} {Y0 : xY} {av : List Value} (B : y_B vwCl x_Tb x_Nb xMli p s m meth c D U Y0 av) {this n7 n15 n23 n31 n39 n47 n56 n64 n71 n79 n87 n95 n103 n124 : Nat} {lw : Int32} (hav : av = [.ref this]) (hfr_n47 : s.heap.size ≤ n47) (hlw : x_sl D 2 12 this s.heap = some (.int lw))  :
    ∀ (n : Nat), ∀ (H : Heap) (Y : xY) (locs : List Loc) (ls : Array Slot) (i : Int32), x_I D x_G x_Zs U (x_efs xMli) Y0 s.heap Y H locs → Y this = some 3 → Y n7 = some 19 → Y n15 = some 20 → Y n23 = some 21 → Y n31 = some 22 → Y n39 = some 23 → Y n47 = some 64 → Y n56 = some 25 → Y n64 = some 26 → Y n71 = some 27 → Y n79 = some 28 → Y n87 = some 29 → Y n95 = some 30 → Y n103 = some 31 → Y n124 = some 11 → x_sl D 2 1 this H = some (.ref n7) → x_sl D 2 2 this H = some (.ref n15) → x_sl D 2 3 this H = some (.ref n23) → x_sl D 2 4 this H = some (.ref n31) → x_sl D 2 5 this H = some (.ref n39) → x_sl D 2 7 this H = some (.ref n47) → x_sl D 2 8 this H = some (.ref n56) → x_sl D 2 9 this H = some (.ref n64) → x_sl D 2 10 this H = some (.ref n71) → x_sl D 2 11 this H = some (.ref n79) → x_sl D 2 13 this H = some (.ref n87) → x_sl D 2 14 this H = some (.ref n95) → x_sl D 2 15 this H = some (.ref n103) → x_sl D 2 12 this H = some (.int lw) → lv_has ls xMli.2.2.1 [(2, .int i), (1, .ref n124), (0, .ref this)] → (0 ≤ i.toInt ∧ i.toInt ≤ 8) → (∀ j : Nat, (j : Int) < i.toInt → y_at n47 j H = some (.ref n124)) → (8 - i.toInt).toNat < n → W p l e (x_rm xMli) s m av.toArray below meth c H locs 14 127 (y_QQ below D x_G x_Zs U xMli z_Pli av Y0 s) (F0 m 139 ls []) := by
  have X := B.1
  have hx := X.1
  have hb := X.2.1
  have hY0 := B.2.2.2.2.1
  have hts := X.2.2.2.2.1
  have hnm := B.2.2.2.1
  intro n
  induction n with
  | zero => intro _ _ _ _ _ _ _ _ _ _ _ _ _ _ _ _ _ _ _ _ _ _ _ _ _ _ _ _ _ _ _ _ _ _ _ _ _ _ h; exact absurd h (Nat.not_lt_zero _)
  | succ n ih =>
    intro H Y locs ls i  hI hY_this hY_n7 hY_n15 hY_n23 hY_n31 hY_n39 hY_n47 hY_n56 hY_n64 hY_n71 hY_n79 hY_n87 hY_n95 hY_n103 hY_n124 hs_n7 hs_n15 hs_n23 hs_n31 hs_n39 hs_n47 hs_n56 hs_n64 hs_n71 hs_n79 hs_n87 hs_n95 hs_n103 hsi_letters hl hi hq hn
    refine lv_iload_n hx hb lj_d139 rfl (lv_at hl 0 rfl) ?_
    refine lv_bipush hx hb lj_d140 (v := 8) (by decide) ?_
    have ec8 : (8 : Int32).toInt = 8 := by decide
    refine lv_icmp_ge hx hb lj_d142 (tgt := 158) (by decide) (fun q142 => ?_) (fun q142 => ?_)
    · have q142_ : (8 : Int32).toInt ≤ i.toInt := x_le32.mp q142
      subst hav
      have hYn : ∀ q u, q ≠ n47 → Y q = some u → x_up Y n47 24 q = some u := fun q u h1 h2 => by rw [x_up_ne h1]; exact h2
      have hI0 := hI
      replace hI := y_retag (t2 := 24) hI0 hY_n47 hfr_n47 rfl rfl (by decide +kernel) (by decide +kernel) (by decide +kernel) (fun j v hj hv => by rw [hq j (by omega)] at hv; cases hv; exact y_crefA hY_n124 rfl)
      have hYC := hYn _ _ (y_ne hY_this hY_n47 rfl) hY_this
      have hf : ∀ (k : Nat) (ft : xV), ([xI 0 10, xR false [19], xR false [20], xR false [21], xR false [22], xR false [23], xI 0 8, xR false [24], xR false [25], xR false [26], xR false [27], xR false [28], xI 0 8, xR false [29], xR false [30], xR false [31]])[k]? = some ft → ∃ v : Value, x_sl D 2 k this H = some v ∧ x_c (x_up Y n47 24) ft v ∧ x_nrT 3 ft = true := fun k ft hk => match k, hk with
          | 0, hk => by cases hk; obtain ⟨v, e1, e2⟩ := y_fld (k := 0) hI.1 hYC rfl rfl; exact ⟨v, e1, e2, rfl⟩
          | 1, hk => by cases hk; exact ⟨_, hs_n7, y_crefA (hYn _ _ (y_ne hY_n7 hY_n47 rfl) hY_n7) rfl, rfl⟩
          | 2, hk => by cases hk; exact ⟨_, hs_n15, y_crefA (hYn _ _ (y_ne hY_n15 hY_n47 rfl) hY_n15) rfl, rfl⟩
          | 3, hk => by cases hk; exact ⟨_, hs_n23, y_crefA (hYn _ _ (y_ne hY_n23 hY_n47 rfl) hY_n23) rfl, rfl⟩
          | 4, hk => by cases hk; exact ⟨_, hs_n31, y_crefA (hYn _ _ (y_ne hY_n31 hY_n47 rfl) hY_n31) rfl, rfl⟩
          | 5, hk => by cases hk; exact ⟨_, hs_n39, y_crefA (hYn _ _ (y_ne hY_n39 hY_n47 rfl) hY_n39) rfl, rfl⟩
          | 6, hk => by cases hk; obtain ⟨v, e1, e2⟩ := y_fld (k := 6) hI.1 hYC rfl rfl; exact ⟨v, e1, e2, rfl⟩
          | 7, hk => by cases hk; exact ⟨_, hs_n47, y_crefA (x_up_self _ _ _) rfl, rfl⟩
          | 8, hk => by cases hk; exact ⟨_, hs_n56, y_crefA (hYn _ _ (y_ne hY_n56 hY_n47 rfl) hY_n56) rfl, rfl⟩
          | 9, hk => by cases hk; exact ⟨_, hs_n64, y_crefA (hYn _ _ (y_ne hY_n64 hY_n47 rfl) hY_n64) rfl, rfl⟩
          | 10, hk => by cases hk; exact ⟨_, hs_n71, y_crefA (hYn _ _ (y_ne hY_n71 hY_n47 rfl) hY_n71) rfl, rfl⟩
          | 11, hk => by cases hk; exact ⟨_, hs_n79, y_crefA (hYn _ _ (y_ne hY_n79 hY_n47 rfl) hY_n79) rfl, rfl⟩
          | 12, hk => by cases hk; obtain ⟨v, e1, e2⟩ := y_fld (k := 12) hI.1 hYC rfl rfl; exact ⟨v, e1, e2, rfl⟩
          | 13, hk => by cases hk; exact ⟨_, hs_n87, y_crefA (hYn _ _ (y_ne hY_n87 hY_n47 rfl) hY_n87) rfl, rfl⟩
          | 14, hk => by cases hk; exact ⟨_, hs_n95, y_crefA (hYn _ _ (y_ne hY_n95 hY_n47 rfl) hY_n95) rfl, rfl⟩
          | 15, hk => by cases hk; exact ⟨_, hs_n103, y_crefA (hYn _ _ (y_ne hY_n103 hY_n47 rfl) hY_n103) rfl, rfl⟩
          | k + 16, hk => by cases hk
      exact y_retC (o := (2, [xI 0 10, xR false [19], xR false [20], xR false [21], xR false [22], xR false [23], xI 0 8, xR false [24], xR false [25], xR false [26], xR false [27], xR false [28], xI 0 8, xR false [29], xR false [30], xR false [31]])) B hI rfl rfl hYC rfl rfl rfl rfl (by decide +kernel) (by decide +kernel) List.mem_cons_self hf (fun t' h1 => by cases h1; exact hsi_letters.trans hlw.symm) (by exact Nat.le_of_ble_eq_true rfl) (by exact Nat.le_of_ble_eq_true rfl) lj_d158
    · have q142_ : i.toInt < (8 : Int32).toInt := Int.not_le.mp fun q => q142 (x_le32.mpr q)
      refine lv_aload_n hx hb lj_d145 rfl (lv_at hl 2 rfl) ?_
      refine y_getf X (fl_lj_240 X.2.2.2.2.1) hI.1 hY_this rfl hs_n47 lj_d146 ?_
      refine lv_iload_n hx hb lj_d149 rfl (lv_at hl 0 rfl) ?_
      refine lv_aload_n hx hb lj_d150 rfl (lv_at hl 1 rfl) ?_
      refine y_aast X hY0 hI hY_n47 rfl hY_n124 rfl rfl (x_castSelf (X.2.2.2.2.2.1.1 6 _ rfl).2) (by omega) (by show _ < (8 : Int); omega) (y_crefA hY_n124 rfl) (by decide +kernel) lj_d151 fun H locs hI h_at h_ne ho => ?_
      replace hs_n7 := y_slk hs_n7 (ho _ (y_ne hY_this hY_n47 rfl))
      replace hs_n15 := y_slk hs_n15 (ho _ (y_ne hY_this hY_n47 rfl))
      replace hs_n23 := y_slk hs_n23 (ho _ (y_ne hY_this hY_n47 rfl))
      replace hs_n31 := y_slk hs_n31 (ho _ (y_ne hY_this hY_n47 rfl))
      replace hs_n39 := y_slk hs_n39 (ho _ (y_ne hY_this hY_n47 rfl))
      replace hs_n47 := y_slk hs_n47 (ho _ (y_ne hY_this hY_n47 rfl))
      replace hs_n56 := y_slk hs_n56 (ho _ (y_ne hY_this hY_n47 rfl))
      replace hs_n64 := y_slk hs_n64 (ho _ (y_ne hY_this hY_n47 rfl))
      replace hs_n71 := y_slk hs_n71 (ho _ (y_ne hY_this hY_n47 rfl))
      replace hs_n79 := y_slk hs_n79 (ho _ (y_ne hY_this hY_n47 rfl))
      replace hs_n87 := y_slk hs_n87 (ho _ (y_ne hY_this hY_n47 rfl))
      replace hs_n95 := y_slk hs_n95 (ho _ (y_ne hY_this hY_n47 rfl))
      replace hs_n103 := y_slk hs_n103 (ho _ (y_ne hY_this hY_n47 rfl))
      replace hsi_letters := y_slk hsi_letters (ho _ (y_ne hY_this hY_n47 rfl))
      obtain ⟨z152, hg_z152⟩ : ∃ z152 : Int32, i + Int32.ofInt 1 = z152 := ⟨_, rfl⟩
      have h_z152 : z152.toInt = i.toInt + 1 := by rw [← hg_z152]; exact y_inc (by decide) (by omega) (by omega)
      refine lv_iinc hx hb lj_d152 hl (k := 0) rfl hg_z152 (by decide) (lv' := [(2, .int z152), (1, .ref n124), (0, .ref this)]) rfl fun ls hl => ?_
      refine lv_goto hx hb lj_d155 (tgt := 139) (by decide) ?_
      exact ih _ _ _ _ _ hI hY_this hY_n7 hY_n15 hY_n23 hY_n31 hY_n39 hY_n47 hY_n56 hY_n64 hY_n71 hY_n79 hY_n87 hY_n95 hY_n103 hY_n124 hs_n7 hs_n15 hs_n23 hs_n31 hs_n39 hs_n47 hs_n56 hs_n64 hs_n71 hs_n79 hs_n87 hs_n95 hs_n103 hsi_letters (lv_sub hl [0, 1, 2] rfl) (by first | assumption | omega) (fun j hj => by by_cases e0 : j = i.toInt.toNat; (rw [e0]; exact h_at); rw [h_ne j e0]; exact hq j (by omega)) (by omega)
theorem ym_landInit2 : y_Met vwCl x_G x_Zs x_Tb x_Nb xMli y_T z_Pli := by
  refine y_main (by decide +kernel) (by decide +kernel) x_Tb_good x_Nb_ok ?_
  intro p l e s m below meth c D U Y0 av ls B hI _ hl
  have X := B.1
  have hx := X.1
  have hb := X.2.1
  have hY0 := B.2.2.2.2.1
  have hts := X.2.2.2.2.1
  have hnm := B.2.2.2.1
  obtain ⟨v0, rfl, hv0⟩ := x_one B.2.2.2.2.2
  obtain ⟨this, t0, rfl, ht0, hY_this⟩ := x_ref_at hv0 rfl
  obtain rfl := List.mem_singleton.mp ht0
  replace hl : lv_has ls xMli.2.2.1 [(0, .ref this)] := hl
  obtain ⟨lw, hsi_letters, -⟩ := y_fldI (k := 12) hI.1 hY_this rfl rfl
  have hlw0 := hsi_letters
  refine lv_aload_n hx hb lj_d0 rfl (lv_at hl 0 rfl) ?_
  refine y_oi X (hts _ (x_at 99 (by decide +kernel) rfl)) (hts _ (x_at 92 (by decide +kernel) rfl)) (hts _ (x_at 93 (by decide +kernel) rfl)) (Nat.le_of_ble_eq_true rfl) (Nat.le_of_ble_eq_true rfl) hl.1 (Nat.le_of_ble_eq_true rfl) lj_d1 ?_
  refine lv_aload_n hx hb lj_d4 rfl (lv_at hl 0 rfl) ?_
  refine lv_bipush hx hb lj_d5 (v := 10) (by decide) ?_
  have ec10 : (10 : Int32).toInt = 10 := by decide
  refine y_newa (tag := 19) (k := 10) X hY0 hI rfl rfl (by decide) (hts _ (x_at 145 (by decide +kernel) rfl)) (fun Y j => x_dfa (by decide +kernel) Y j) (by decide) (Nat.le_of_ble_eq_true rfl) (Nat.le_of_ble_eq_true rfl) lj_d7 fun Yn H n7 hnw => ?_
  obtain ⟨hIn, hmo, hY_n7, hfr_n7, hke⟩ := hnw
  replace hsi_letters := y_slk hsi_letters (hke _ _ hY_this)
  replace hY_this := hmo _ _ hY_this
  replace hI := hIn
  clear hIn hmo hke
  refine y_putf X (fw_lj_241 X.2.2.2.2.1 hnm) hY0 hI hY_this rfl rfl (y_crefA hY_n7 rfl) (by decide +kernel) lj_d9 fun H sl hI ho hs hk => ?_
  replace hsi_letters := hk _ _ (by decide +kernel) (by decide) hsi_letters
  replace hs := hs
  have hs9 := hs
  refine lv_aload_n hx hb lj_d12 rfl (lv_at hl 0 rfl) ?_
  refine lv_bipush hx hb lj_d13 (v := 10) (by decide) ?_
  refine y_newa (tag := 20) (k := 10) X hY0 hI rfl rfl (by decide) (hts _ (x_at 145 (by decide +kernel) rfl)) (fun Y j => x_dfa (by decide +kernel) Y j) (by decide) (Nat.le_of_ble_eq_true rfl) (Nat.le_of_ble_eq_true rfl) lj_d15 fun Yn H n15 hnw => ?_
  obtain ⟨hIn, hmo, hY_n15, hfr_n15, hke⟩ := hnw
  replace hsi_letters := y_slk hsi_letters (hke _ _ hY_this)
  replace hs9 := y_slk hs9 (hke _ _ hY_this)
  replace hY_this := hmo _ _ hY_this
  replace hY_n7 := hmo _ _ hY_n7
  replace hI := hIn
  clear hIn hmo hke
  refine y_putf X (fw_lj_242 X.2.2.2.2.1 hnm) hY0 hI hY_this rfl rfl (y_crefA hY_n15 rfl) (by decide +kernel) lj_d17 fun H sl hI ho hs hk => ?_
  replace hsi_letters := hk _ _ (by decide +kernel) (by decide) hsi_letters
  replace hs9 := hk _ _ (by decide +kernel) (by decide) hs9
  replace hs := hs
  have hs17 := hs
  refine lv_aload_n hx hb lj_d20 rfl (lv_at hl 0 rfl) ?_
  refine lv_bipush hx hb lj_d21 (v := 10) (by decide) ?_
  refine y_newa (tag := 21) (k := 10) X hY0 hI rfl rfl (by decide) (hts _ (x_at 145 (by decide +kernel) rfl)) (fun Y j => x_dfa (by decide +kernel) Y j) (by decide) (Nat.le_of_ble_eq_true rfl) (Nat.le_of_ble_eq_true rfl) lj_d23 fun Yn H n23 hnw => ?_
  obtain ⟨hIn, hmo, hY_n23, hfr_n23, hke⟩ := hnw
  replace hsi_letters := y_slk hsi_letters (hke _ _ hY_this)
  replace hs9 := y_slk hs9 (hke _ _ hY_this)
  replace hs17 := y_slk hs17 (hke _ _ hY_this)
  replace hY_this := hmo _ _ hY_this
  replace hY_n7 := hmo _ _ hY_n7
  replace hY_n15 := hmo _ _ hY_n15
  replace hI := hIn
  clear hIn hmo hke
  refine y_putf X (fw_lj_243 X.2.2.2.2.1 hnm) hY0 hI hY_this rfl rfl (y_crefA hY_n23 rfl) (by decide +kernel) lj_d25 fun H sl hI ho hs hk => ?_
  replace hsi_letters := hk _ _ (by decide +kernel) (by decide) hsi_letters
  replace hs9 := hk _ _ (by decide +kernel) (by decide) hs9
  replace hs17 := hk _ _ (by decide +kernel) (by decide) hs17
  replace hs := hs
  have hs25 := hs
  refine lv_aload_n hx hb lj_d28 rfl (lv_at hl 0 rfl) ?_
  refine lv_bipush hx hb lj_d29 (v := 10) (by decide) ?_
  refine y_newa (tag := 22) (k := 10) X hY0 hI rfl rfl (by decide) (hts _ (x_at 145 (by decide +kernel) rfl)) (fun Y j => x_dfa (by decide +kernel) Y j) (by decide) (Nat.le_of_ble_eq_true rfl) (Nat.le_of_ble_eq_true rfl) lj_d31 fun Yn H n31 hnw => ?_
  obtain ⟨hIn, hmo, hY_n31, hfr_n31, hke⟩ := hnw
  replace hsi_letters := y_slk hsi_letters (hke _ _ hY_this)
  replace hs9 := y_slk hs9 (hke _ _ hY_this)
  replace hs17 := y_slk hs17 (hke _ _ hY_this)
  replace hs25 := y_slk hs25 (hke _ _ hY_this)
  replace hY_this := hmo _ _ hY_this
  replace hY_n7 := hmo _ _ hY_n7
  replace hY_n15 := hmo _ _ hY_n15
  replace hY_n23 := hmo _ _ hY_n23
  replace hI := hIn
  clear hIn hmo hke
  refine y_putf X (fw_lj_244 X.2.2.2.2.1 hnm) hY0 hI hY_this rfl rfl (y_crefA hY_n31 rfl) (by decide +kernel) lj_d33 fun H sl hI ho hs hk => ?_
  replace hsi_letters := hk _ _ (by decide +kernel) (by decide) hsi_letters
  replace hs9 := hk _ _ (by decide +kernel) (by decide) hs9
  replace hs17 := hk _ _ (by decide +kernel) (by decide) hs17
  replace hs25 := hk _ _ (by decide +kernel) (by decide) hs25
  replace hs := hs
  have hs33 := hs
  refine lv_aload_n hx hb lj_d36 rfl (lv_at hl 0 rfl) ?_
  refine lv_bipush hx hb lj_d37 (v := 10) (by decide) ?_
  refine y_newa (tag := 23) (k := 10) X hY0 hI rfl rfl (by decide) (hts _ (x_at 145 (by decide +kernel) rfl)) (fun Y j => x_dfa (by decide +kernel) Y j) (by decide) (Nat.le_of_ble_eq_true rfl) (Nat.le_of_ble_eq_true rfl) lj_d39 fun Yn H n39 hnw => ?_
  obtain ⟨hIn, hmo, hY_n39, hfr_n39, hke⟩ := hnw
  replace hsi_letters := y_slk hsi_letters (hke _ _ hY_this)
  replace hs9 := y_slk hs9 (hke _ _ hY_this)
  replace hs17 := y_slk hs17 (hke _ _ hY_this)
  replace hs25 := y_slk hs25 (hke _ _ hY_this)
  replace hs33 := y_slk hs33 (hke _ _ hY_this)
  replace hY_this := hmo _ _ hY_this
  replace hY_n7 := hmo _ _ hY_n7
  replace hY_n15 := hmo _ _ hY_n15
  replace hY_n23 := hmo _ _ hY_n23
  replace hY_n31 := hmo _ _ hY_n31
  replace hI := hIn
  clear hIn hmo hke
  refine y_putf X (fw_lj_245 X.2.2.2.2.1 hnm) hY0 hI hY_this rfl rfl (y_crefA hY_n39 rfl) (by decide +kernel) lj_d41 fun H sl hI ho hs hk => ?_
  replace hsi_letters := hk _ _ (by decide +kernel) (by decide) hsi_letters
  replace hs9 := hk _ _ (by decide +kernel) (by decide) hs9
  replace hs17 := hk _ _ (by decide +kernel) (by decide) hs17
  replace hs25 := hk _ _ (by decide +kernel) (by decide) hs25
  replace hs33 := hk _ _ (by decide +kernel) (by decide) hs33
  replace hs := hs
  have hs41 := hs
  refine lv_aload_n hx hb lj_d44 rfl (lv_at hl 0 rfl) ?_
  refine lv_bipush hx hb lj_d45 (v := 8) (by decide) ?_
  have ec8 : (8 : Int32).toInt = 8 := by decide
  refine y_newr (tag := 64) (k := 8) (C := "TwinFires$Stone") X hY0 hI rfl (by decide) (hts _ (x_at 100 (by decide +kernel) rfl)) (va_AO.use (X.2.2.2.2.2.2.2.2.1 _ (x_nt 101 (by decide +kernel) rfl))) (fun Y j => x_dfa (ty := .object "TwinFires$Stone") (by decide +kernel) Y j) (by decide) (Nat.le_of_ble_eq_true rfl) (Nat.le_of_ble_eq_true rfl) lj_d47 fun Yn H n47 hnw => ?_
  obtain ⟨hIn, hmo, hY_n47, hfr_n47, hke⟩ := hnw
  replace hsi_letters := y_slk hsi_letters (hke _ _ hY_this)
  replace hs9 := y_slk hs9 (hke _ _ hY_this)
  replace hs17 := y_slk hs17 (hke _ _ hY_this)
  replace hs25 := y_slk hs25 (hke _ _ hY_this)
  replace hs33 := y_slk hs33 (hke _ _ hY_this)
  replace hs41 := y_slk hs41 (hke _ _ hY_this)
  replace hY_this := hmo _ _ hY_this
  replace hY_n7 := hmo _ _ hY_n7
  replace hY_n15 := hmo _ _ hY_n15
  replace hY_n23 := hmo _ _ hY_n23
  replace hY_n31 := hmo _ _ hY_n31
  replace hY_n39 := hmo _ _ hY_n39
  replace hI := hIn
  clear hIn hmo hke
  refine y_putf X (fw_lj_246 X.2.2.2.2.1 hnm) hY0 hI hY_this rfl rfl (y_crefA hY_n47 rfl) (by decide +kernel) lj_d50 fun H sl hI ho hs hk => ?_
  replace hsi_letters := hk _ _ (by decide +kernel) (by decide) hsi_letters
  replace hs9 := hk _ _ (by decide +kernel) (by decide) hs9
  replace hs17 := hk _ _ (by decide +kernel) (by decide) hs17
  replace hs25 := hk _ _ (by decide +kernel) (by decide) hs25
  replace hs33 := hk _ _ (by decide +kernel) (by decide) hs33
  replace hs41 := hk _ _ (by decide +kernel) (by decide) hs41
  replace hs := hs
  have hs50 := hs
  refine lv_aload_n hx hb lj_d53 rfl (lv_at hl 0 rfl) ?_
  refine lv_bipush hx hb lj_d54 (v := 8) (by decide) ?_
  refine y_newa (tag := 25) (k := 8) X hY0 hI rfl rfl (by decide) (hts _ (x_at 145 (by decide +kernel) rfl)) (fun Y j => x_dfa (by decide +kernel) Y j) (by decide) (Nat.le_of_ble_eq_true rfl) (Nat.le_of_ble_eq_true rfl) lj_d56 fun Yn H n56 hnw => ?_
  obtain ⟨hIn, hmo, hY_n56, hfr_n56, hke⟩ := hnw
  replace hsi_letters := y_slk hsi_letters (hke _ _ hY_this)
  replace hs9 := y_slk hs9 (hke _ _ hY_this)
  replace hs17 := y_slk hs17 (hke _ _ hY_this)
  replace hs25 := y_slk hs25 (hke _ _ hY_this)
  replace hs33 := y_slk hs33 (hke _ _ hY_this)
  replace hs41 := y_slk hs41 (hke _ _ hY_this)
  replace hs50 := y_slk hs50 (hke _ _ hY_this)
  replace hY_this := hmo _ _ hY_this
  replace hY_n7 := hmo _ _ hY_n7
  replace hY_n15 := hmo _ _ hY_n15
  replace hY_n23 := hmo _ _ hY_n23
  replace hY_n31 := hmo _ _ hY_n31
  replace hY_n39 := hmo _ _ hY_n39
  replace hY_n47 := hmo _ _ hY_n47
  replace hI := hIn
  clear hIn hmo hke
  refine y_putf X (fw_lj_247 X.2.2.2.2.1 hnm) hY0 hI hY_this rfl rfl (y_crefA hY_n56 rfl) (by decide +kernel) lj_d58 fun H sl hI ho hs hk => ?_
  replace hsi_letters := hk _ _ (by decide +kernel) (by decide) hsi_letters
  replace hs9 := hk _ _ (by decide +kernel) (by decide) hs9
  replace hs17 := hk _ _ (by decide +kernel) (by decide) hs17
  replace hs25 := hk _ _ (by decide +kernel) (by decide) hs25
  replace hs33 := hk _ _ (by decide +kernel) (by decide) hs33
  replace hs41 := hk _ _ (by decide +kernel) (by decide) hs41
  replace hs50 := hk _ _ (by decide +kernel) (by decide) hs50
  replace hs := hs
  have hs58 := hs
  refine lv_aload_n hx hb lj_d61 rfl (lv_at hl 0 rfl) ?_
  refine lv_bipush hx hb lj_d62 (v := 8) (by decide) ?_
  refine y_newa (tag := 26) (k := 8) X hY0 hI rfl rfl (by decide) (hts _ (x_at 145 (by decide +kernel) rfl)) (fun Y j => x_dfa (by decide +kernel) Y j) (by decide) (Nat.le_of_ble_eq_true rfl) (Nat.le_of_ble_eq_true rfl) lj_d64 fun Yn H n64 hnw => ?_
  obtain ⟨hIn, hmo, hY_n64, hfr_n64, hke⟩ := hnw
  replace hsi_letters := y_slk hsi_letters (hke _ _ hY_this)
  replace hs9 := y_slk hs9 (hke _ _ hY_this)
  replace hs17 := y_slk hs17 (hke _ _ hY_this)
  replace hs25 := y_slk hs25 (hke _ _ hY_this)
  replace hs33 := y_slk hs33 (hke _ _ hY_this)
  replace hs41 := y_slk hs41 (hke _ _ hY_this)
  replace hs50 := y_slk hs50 (hke _ _ hY_this)
  replace hs58 := y_slk hs58 (hke _ _ hY_this)
  replace hY_this := hmo _ _ hY_this
  replace hY_n7 := hmo _ _ hY_n7
  replace hY_n15 := hmo _ _ hY_n15
  replace hY_n23 := hmo _ _ hY_n23
  replace hY_n31 := hmo _ _ hY_n31
  replace hY_n39 := hmo _ _ hY_n39
  replace hY_n47 := hmo _ _ hY_n47
  replace hY_n56 := hmo _ _ hY_n56
  replace hI := hIn
  clear hIn hmo hke
  refine y_putf X (fw_lj_248 X.2.2.2.2.1 hnm) hY0 hI hY_this rfl rfl (y_crefA hY_n64 rfl) (by decide +kernel) lj_d66 fun H sl hI ho hs hk => ?_
  replace hsi_letters := hk _ _ (by decide +kernel) (by decide) hsi_letters
  replace hs9 := hk _ _ (by decide +kernel) (by decide) hs9
  replace hs17 := hk _ _ (by decide +kernel) (by decide) hs17
  replace hs25 := hk _ _ (by decide +kernel) (by decide) hs25
  replace hs33 := hk _ _ (by decide +kernel) (by decide) hs33
  replace hs41 := hk _ _ (by decide +kernel) (by decide) hs41
  replace hs50 := hk _ _ (by decide +kernel) (by decide) hs50
  replace hs58 := hk _ _ (by decide +kernel) (by decide) hs58
  replace hs := hs
  have hs66 := hs
  refine lv_aload_n hx hb lj_d69 rfl (lv_at hl 0 rfl) ?_
  refine lv_iconst hx hb lj_d70 (v := 4) (by decide) ?_
  have ec4 : (4 : Int32).toInt = 4 := by decide
  refine y_newa (tag := 27) (k := 4) X hY0 hI rfl rfl (by decide) (hts _ (x_at 145 (by decide +kernel) rfl)) (fun Y j => x_dfa (by decide +kernel) Y j) (by decide) (Nat.le_of_ble_eq_true rfl) (Nat.le_of_ble_eq_true rfl) lj_d71 fun Yn H n71 hnw => ?_
  obtain ⟨hIn, hmo, hY_n71, hfr_n71, hke⟩ := hnw
  replace hsi_letters := y_slk hsi_letters (hke _ _ hY_this)
  replace hs9 := y_slk hs9 (hke _ _ hY_this)
  replace hs17 := y_slk hs17 (hke _ _ hY_this)
  replace hs25 := y_slk hs25 (hke _ _ hY_this)
  replace hs33 := y_slk hs33 (hke _ _ hY_this)
  replace hs41 := y_slk hs41 (hke _ _ hY_this)
  replace hs50 := y_slk hs50 (hke _ _ hY_this)
  replace hs58 := y_slk hs58 (hke _ _ hY_this)
  replace hs66 := y_slk hs66 (hke _ _ hY_this)
  replace hY_this := hmo _ _ hY_this
  replace hY_n7 := hmo _ _ hY_n7
  replace hY_n15 := hmo _ _ hY_n15
  replace hY_n23 := hmo _ _ hY_n23
  replace hY_n31 := hmo _ _ hY_n31
  replace hY_n39 := hmo _ _ hY_n39
  replace hY_n47 := hmo _ _ hY_n47
  replace hY_n56 := hmo _ _ hY_n56
  replace hY_n64 := hmo _ _ hY_n64
  replace hI := hIn
  clear hIn hmo hke
  refine y_putf X (fw_lj_249 X.2.2.2.2.1 hnm) hY0 hI hY_this rfl rfl (y_crefA hY_n71 rfl) (by decide +kernel) lj_d73 fun H sl hI ho hs hk => ?_
  replace hsi_letters := hk _ _ (by decide +kernel) (by decide) hsi_letters
  replace hs9 := hk _ _ (by decide +kernel) (by decide) hs9
  replace hs17 := hk _ _ (by decide +kernel) (by decide) hs17
  replace hs25 := hk _ _ (by decide +kernel) (by decide) hs25
  replace hs33 := hk _ _ (by decide +kernel) (by decide) hs33
  replace hs41 := hk _ _ (by decide +kernel) (by decide) hs41
  replace hs50 := hk _ _ (by decide +kernel) (by decide) hs50
  replace hs58 := hk _ _ (by decide +kernel) (by decide) hs58
  replace hs66 := hk _ _ (by decide +kernel) (by decide) hs66
  replace hs := hs
  have hs73 := hs
  refine lv_aload_n hx hb lj_d76 rfl (lv_at hl 0 rfl) ?_
  refine lv_bipush hx hb lj_d77 (v := 12) (by decide) ?_
  have ec12 : (12 : Int32).toInt = 12 := by decide
  refine y_newa (tag := 28) (k := 12) X hY0 hI rfl rfl (by decide) (hts _ (x_at 145 (by decide +kernel) rfl)) (fun Y j => x_dfa (by decide +kernel) Y j) (by decide) (Nat.le_of_ble_eq_true rfl) (Nat.le_of_ble_eq_true rfl) lj_d79 fun Yn H n79 hnw => ?_
  obtain ⟨hIn, hmo, hY_n79, hfr_n79, hke⟩ := hnw
  replace hsi_letters := y_slk hsi_letters (hke _ _ hY_this)
  replace hs9 := y_slk hs9 (hke _ _ hY_this)
  replace hs17 := y_slk hs17 (hke _ _ hY_this)
  replace hs25 := y_slk hs25 (hke _ _ hY_this)
  replace hs33 := y_slk hs33 (hke _ _ hY_this)
  replace hs41 := y_slk hs41 (hke _ _ hY_this)
  replace hs50 := y_slk hs50 (hke _ _ hY_this)
  replace hs58 := y_slk hs58 (hke _ _ hY_this)
  replace hs66 := y_slk hs66 (hke _ _ hY_this)
  replace hs73 := y_slk hs73 (hke _ _ hY_this)
  replace hY_this := hmo _ _ hY_this
  replace hY_n7 := hmo _ _ hY_n7
  replace hY_n15 := hmo _ _ hY_n15
  replace hY_n23 := hmo _ _ hY_n23
  replace hY_n31 := hmo _ _ hY_n31
  replace hY_n39 := hmo _ _ hY_n39
  replace hY_n47 := hmo _ _ hY_n47
  replace hY_n56 := hmo _ _ hY_n56
  replace hY_n64 := hmo _ _ hY_n64
  replace hY_n71 := hmo _ _ hY_n71
  replace hI := hIn
  clear hIn hmo hke
  refine y_putf X (fw_lj_250 X.2.2.2.2.1 hnm) hY0 hI hY_this rfl rfl (y_crefA hY_n79 rfl) (by decide +kernel) lj_d81 fun H sl hI ho hs hk => ?_
  replace hsi_letters := hk _ _ (by decide +kernel) (by decide) hsi_letters
  replace hs9 := hk _ _ (by decide +kernel) (by decide) hs9
  replace hs17 := hk _ _ (by decide +kernel) (by decide) hs17
  replace hs25 := hk _ _ (by decide +kernel) (by decide) hs25
  replace hs33 := hk _ _ (by decide +kernel) (by decide) hs33
  replace hs41 := hk _ _ (by decide +kernel) (by decide) hs41
  replace hs50 := hk _ _ (by decide +kernel) (by decide) hs50
  replace hs58 := hk _ _ (by decide +kernel) (by decide) hs58
  replace hs66 := hk _ _ (by decide +kernel) (by decide) hs66
  replace hs73 := hk _ _ (by decide +kernel) (by decide) hs73
  replace hs := hs
  have hs81 := hs
  refine lv_aload_n hx hb lj_d84 rfl (lv_at hl 0 rfl) ?_
  refine lv_bipush hx hb lj_d85 (v := 8) (by decide) ?_
  refine y_newa (tag := 29) (k := 8) X hY0 hI rfl rfl (by decide) (hts _ (x_at 145 (by decide +kernel) rfl)) (fun Y j => x_dfa (by decide +kernel) Y j) (by decide) (Nat.le_of_ble_eq_true rfl) (Nat.le_of_ble_eq_true rfl) lj_d87 fun Yn H n87 hnw => ?_
  obtain ⟨hIn, hmo, hY_n87, hfr_n87, hke⟩ := hnw
  replace hsi_letters := y_slk hsi_letters (hke _ _ hY_this)
  replace hs9 := y_slk hs9 (hke _ _ hY_this)
  replace hs17 := y_slk hs17 (hke _ _ hY_this)
  replace hs25 := y_slk hs25 (hke _ _ hY_this)
  replace hs33 := y_slk hs33 (hke _ _ hY_this)
  replace hs41 := y_slk hs41 (hke _ _ hY_this)
  replace hs50 := y_slk hs50 (hke _ _ hY_this)
  replace hs58 := y_slk hs58 (hke _ _ hY_this)
  replace hs66 := y_slk hs66 (hke _ _ hY_this)
  replace hs73 := y_slk hs73 (hke _ _ hY_this)
  replace hs81 := y_slk hs81 (hke _ _ hY_this)
  replace hY_this := hmo _ _ hY_this
  replace hY_n7 := hmo _ _ hY_n7
  replace hY_n15 := hmo _ _ hY_n15
  replace hY_n23 := hmo _ _ hY_n23
  replace hY_n31 := hmo _ _ hY_n31
  replace hY_n39 := hmo _ _ hY_n39
  replace hY_n47 := hmo _ _ hY_n47
  replace hY_n56 := hmo _ _ hY_n56
  replace hY_n64 := hmo _ _ hY_n64
  replace hY_n71 := hmo _ _ hY_n71
  replace hY_n79 := hmo _ _ hY_n79
  replace hI := hIn
  clear hIn hmo hke
  refine y_putf X (fw_lj_251 X.2.2.2.2.1 hnm) hY0 hI hY_this rfl rfl (y_crefA hY_n87 rfl) (by decide +kernel) lj_d89 fun H sl hI ho hs hk => ?_
  replace hsi_letters := hk _ _ (by decide +kernel) (by decide) hsi_letters
  replace hs9 := hk _ _ (by decide +kernel) (by decide) hs9
  replace hs17 := hk _ _ (by decide +kernel) (by decide) hs17
  replace hs25 := hk _ _ (by decide +kernel) (by decide) hs25
  replace hs33 := hk _ _ (by decide +kernel) (by decide) hs33
  replace hs41 := hk _ _ (by decide +kernel) (by decide) hs41
  replace hs50 := hk _ _ (by decide +kernel) (by decide) hs50
  replace hs58 := hk _ _ (by decide +kernel) (by decide) hs58
  replace hs66 := hk _ _ (by decide +kernel) (by decide) hs66
  replace hs73 := hk _ _ (by decide +kernel) (by decide) hs73
  replace hs81 := hk _ _ (by decide +kernel) (by decide) hs81
  replace hs := hs
  have hs89 := hs
  refine lv_aload_n hx hb lj_d92 rfl (lv_at hl 0 rfl) ?_
  refine lv_bipush hx hb lj_d93 (v := 12) (by decide) ?_
  refine y_newa (tag := 30) (k := 12) X hY0 hI rfl rfl (by decide) (hts _ (x_at 145 (by decide +kernel) rfl)) (fun Y j => x_dfa (by decide +kernel) Y j) (by decide) (Nat.le_of_ble_eq_true rfl) (Nat.le_of_ble_eq_true rfl) lj_d95 fun Yn H n95 hnw => ?_
  obtain ⟨hIn, hmo, hY_n95, hfr_n95, hke⟩ := hnw
  replace hsi_letters := y_slk hsi_letters (hke _ _ hY_this)
  replace hs9 := y_slk hs9 (hke _ _ hY_this)
  replace hs17 := y_slk hs17 (hke _ _ hY_this)
  replace hs25 := y_slk hs25 (hke _ _ hY_this)
  replace hs33 := y_slk hs33 (hke _ _ hY_this)
  replace hs41 := y_slk hs41 (hke _ _ hY_this)
  replace hs50 := y_slk hs50 (hke _ _ hY_this)
  replace hs58 := y_slk hs58 (hke _ _ hY_this)
  replace hs66 := y_slk hs66 (hke _ _ hY_this)
  replace hs73 := y_slk hs73 (hke _ _ hY_this)
  replace hs81 := y_slk hs81 (hke _ _ hY_this)
  replace hs89 := y_slk hs89 (hke _ _ hY_this)
  replace hY_this := hmo _ _ hY_this
  replace hY_n7 := hmo _ _ hY_n7
  replace hY_n15 := hmo _ _ hY_n15
  replace hY_n23 := hmo _ _ hY_n23
  replace hY_n31 := hmo _ _ hY_n31
  replace hY_n39 := hmo _ _ hY_n39
  replace hY_n47 := hmo _ _ hY_n47
  replace hY_n56 := hmo _ _ hY_n56
  replace hY_n64 := hmo _ _ hY_n64
  replace hY_n71 := hmo _ _ hY_n71
  replace hY_n79 := hmo _ _ hY_n79
  replace hY_n87 := hmo _ _ hY_n87
  replace hI := hIn
  clear hIn hmo hke
  refine y_putf X (fw_lj_252 X.2.2.2.2.1 hnm) hY0 hI hY_this rfl rfl (y_crefA hY_n95 rfl) (by decide +kernel) lj_d97 fun H sl hI ho hs hk => ?_
  replace hsi_letters := hk _ _ (by decide +kernel) (by decide) hsi_letters
  replace hs9 := hk _ _ (by decide +kernel) (by decide) hs9
  replace hs17 := hk _ _ (by decide +kernel) (by decide) hs17
  replace hs25 := hk _ _ (by decide +kernel) (by decide) hs25
  replace hs33 := hk _ _ (by decide +kernel) (by decide) hs33
  replace hs41 := hk _ _ (by decide +kernel) (by decide) hs41
  replace hs50 := hk _ _ (by decide +kernel) (by decide) hs50
  replace hs58 := hk _ _ (by decide +kernel) (by decide) hs58
  replace hs66 := hk _ _ (by decide +kernel) (by decide) hs66
  replace hs73 := hk _ _ (by decide +kernel) (by decide) hs73
  replace hs81 := hk _ _ (by decide +kernel) (by decide) hs81
  replace hs89 := hk _ _ (by decide +kernel) (by decide) hs89
  replace hs := hs
  have hs97 := hs
  refine lv_aload_n hx hb lj_d100 rfl (lv_at hl 0 rfl) ?_
  refine lv_bipush hx hb lj_d101 (v := 12) (by decide) ?_
  refine y_newa (tag := 31) (k := 12) X hY0 hI rfl rfl (by decide) (hts _ (x_at 145 (by decide +kernel) rfl)) (fun Y j => x_dfa (by decide +kernel) Y j) (by decide) (Nat.le_of_ble_eq_true rfl) (Nat.le_of_ble_eq_true rfl) lj_d103 fun Yn H n103 hnw => ?_
  obtain ⟨hIn, hmo, hY_n103, hfr_n103, hke⟩ := hnw
  replace hsi_letters := y_slk hsi_letters (hke _ _ hY_this)
  replace hs9 := y_slk hs9 (hke _ _ hY_this)
  replace hs17 := y_slk hs17 (hke _ _ hY_this)
  replace hs25 := y_slk hs25 (hke _ _ hY_this)
  replace hs33 := y_slk hs33 (hke _ _ hY_this)
  replace hs41 := y_slk hs41 (hke _ _ hY_this)
  replace hs50 := y_slk hs50 (hke _ _ hY_this)
  replace hs58 := y_slk hs58 (hke _ _ hY_this)
  replace hs66 := y_slk hs66 (hke _ _ hY_this)
  replace hs73 := y_slk hs73 (hke _ _ hY_this)
  replace hs81 := y_slk hs81 (hke _ _ hY_this)
  replace hs89 := y_slk hs89 (hke _ _ hY_this)
  replace hs97 := y_slk hs97 (hke _ _ hY_this)
  replace hY_this := hmo _ _ hY_this
  replace hY_n7 := hmo _ _ hY_n7
  replace hY_n15 := hmo _ _ hY_n15
  replace hY_n23 := hmo _ _ hY_n23
  replace hY_n31 := hmo _ _ hY_n31
  replace hY_n39 := hmo _ _ hY_n39
  replace hY_n47 := hmo _ _ hY_n47
  replace hY_n56 := hmo _ _ hY_n56
  replace hY_n64 := hmo _ _ hY_n64
  replace hY_n71 := hmo _ _ hY_n71
  replace hY_n79 := hmo _ _ hY_n79
  replace hY_n87 := hmo _ _ hY_n87
  replace hY_n95 := hmo _ _ hY_n95
  replace hI := hIn
  clear hIn hmo hke
  refine y_putf X (fw_lj_253 X.2.2.2.2.1 hnm) hY0 hI hY_this rfl rfl (y_crefA hY_n103 rfl) (by decide +kernel) lj_d105 fun H sl hI ho hs hk => ?_
  replace hsi_letters := hk _ _ (by decide +kernel) (by decide) hsi_letters
  replace hs9 := hk _ _ (by decide +kernel) (by decide) hs9
  replace hs17 := hk _ _ (by decide +kernel) (by decide) hs17
  replace hs25 := hk _ _ (by decide +kernel) (by decide) hs25
  replace hs33 := hk _ _ (by decide +kernel) (by decide) hs33
  replace hs41 := hk _ _ (by decide +kernel) (by decide) hs41
  replace hs50 := hk _ _ (by decide +kernel) (by decide) hs50
  replace hs58 := hk _ _ (by decide +kernel) (by decide) hs58
  replace hs66 := hk _ _ (by decide +kernel) (by decide) hs66
  replace hs73 := hk _ _ (by decide +kernel) (by decide) hs73
  replace hs81 := hk _ _ (by decide +kernel) (by decide) hs81
  replace hs89 := hk _ _ (by decide +kernel) (by decide) hs89
  replace hs97 := hk _ _ (by decide +kernel) (by decide) hs97
  replace hs := hs
  have hs105 := hs
  refine lv_aload_n hx hb lj_d108 rfl (lv_at hl 0 rfl) ?_
  refine y_getf X (fl_lj_254 X.2.2.2.2.1) hI.1 hY_this rfl hs73 lj_d109 ?_
  refine lv_iconst hx hb lj_d112 (v := 3) (by decide) ?_
  have ec3 : (3 : Int32).toInt = 3 := by decide
  refine lv_bipush hx hb lj_d113 (v := 9) (by decide) ?_
  have ec9 : (9 : Int32).toInt = 9 := by decide
  obtain ⟨f_n71, hA_n71, hB_n71⟩ := y_arr hI.1 hY_n71 rfl rfl
  refine y_iast X hY0 hI hY_n71 rfl hA_n71 (by omega) (by show _ < (4 : Int); omega) ⟨_, rfl, x_i32 _⟩ (by decide +kernel) lj_d115 fun H locs hI h_new ho => ?_
  replace hA_n71 := h_new
  generalize hf_f115 : y_up f_n71 (3 : Int32).toInt.toNat (9 : Int32) = f115 at hA_n71
  replace hsi_letters := y_slk hsi_letters (ho _ (y_ne hY_this hY_n71 rfl))
  replace hs9 := y_slk hs9 (ho _ (y_ne hY_this hY_n71 rfl))
  replace hs17 := y_slk hs17 (ho _ (y_ne hY_this hY_n71 rfl))
  replace hs25 := y_slk hs25 (ho _ (y_ne hY_this hY_n71 rfl))
  replace hs33 := y_slk hs33 (ho _ (y_ne hY_this hY_n71 rfl))
  replace hs41 := y_slk hs41 (ho _ (y_ne hY_this hY_n71 rfl))
  replace hs50 := y_slk hs50 (ho _ (y_ne hY_this hY_n71 rfl))
  replace hs58 := y_slk hs58 (ho _ (y_ne hY_this hY_n71 rfl))
  replace hs66 := y_slk hs66 (ho _ (y_ne hY_this hY_n71 rfl))
  replace hs73 := y_slk hs73 (ho _ (y_ne hY_this hY_n71 rfl))
  replace hs81 := y_slk hs81 (ho _ (y_ne hY_this hY_n71 rfl))
  replace hs89 := y_slk hs89 (ho _ (y_ne hY_this hY_n71 rfl))
  replace hs97 := y_slk hs97 (ho _ (y_ne hY_this hY_n71 rfl))
  replace hs105 := y_slk hs105 (ho _ (y_ne hY_this hY_n71 rfl))
  refine lv_aload_n hx hb lj_d116 rfl (lv_at hl 0 rfl) ?_
  refine y_getf X (fl_lj_255 X.2.2.2.2.1) hI.1 hY_this rfl hs97 lj_d117 ?_
  refine lv_iconst hx hb lj_d120 (v := (-1)) (by decide) ?_
  have ecm1 : ((-1) : Int32).toInt = (-1) := by decide
  refine y_call (z := (1, 54, 2, none, xM130)) (av := [.ref n95, .int ((-1) : Int32)]) (rest := []) (y_cok.of (x_cokS (n := 2) X xm130 (x_cons (x_at 102 (by decide +kernel) rfl) (x_cons (x_at 103 (by decide +kernel) rfl) (x_cons (x_at 67 (by decide +kernel) rfl) x_nilm))) (x_at 104 (by decide +kernel) rfl) (by decide +kernel) ⟨Nat.le_of_ble_eq_true rfl, Nat.le_of_ble_eq_true rfl⟩)) hY0 hI rfl lj_d121 hl.1 (Nat.le_of_ble_eq_true rfl) (Nat.le_of_ble_eq_true rfl) (Nat.le_of_ble_eq_true rfl) (y_cons (y_cref hY_n95 rfl) (y_cons ⟨_, rfl, by show ((-1) : Int) ≤ _; omega, by show _ ≤ ((-1) : Int); omega⟩ y_nil)) rfl (y_norecv rfl) trivial (y_sub_ef rfl) fun v Yn o Hn L ho hr ha hIn hx_ hE hP => ?_
  replace hsi_letters := y_Efld hE hY_this rfl (by decide) (by decide) hsi_letters
  replace hs9 := y_Efld hE hY_this rfl (by decide) (by decide) hs9
  replace hs17 := y_Efld hE hY_this rfl (by decide) (by decide) hs17
  replace hs25 := y_Efld hE hY_this rfl (by decide) (by decide) hs25
  replace hs33 := y_Efld hE hY_this rfl (by decide) (by decide) hs33
  replace hs41 := y_Efld hE hY_this rfl (by decide) (by decide) hs41
  replace hs50 := y_Efld hE hY_this rfl (by decide) (by decide) hs50
  replace hs58 := y_Efld hE hY_this rfl (by decide) (by decide) hs58
  replace hs66 := y_Efld hE hY_this rfl (by decide) (by decide) hs66
  replace hs73 := y_Efld hE hY_this rfl (by decide) (by decide) hs73
  replace hs81 := y_Efld hE hY_this rfl (by decide) (by decide) hs81
  replace hs89 := y_Efld hE hY_this rfl (by decide) (by decide) hs89
  replace hs97 := y_Efld hE hY_this rfl (by decide) (by decide) hs97
  replace hs105 := y_Efld hE hY_this rfl (by decide) (by decide) hs105
  replace hA_n71 := hA_n71.kept (y_Earr hE hY_n71 rfl (by decide))
  replace hY_this := y_ext hx_ hI.1 hY_this
  replace hY_n7 := y_ext hx_ hI.1 hY_n7
  replace hY_n15 := y_ext hx_ hI.1 hY_n15
  replace hY_n23 := y_ext hx_ hI.1 hY_n23
  replace hY_n31 := y_ext hx_ hI.1 hY_n31
  replace hY_n39 := y_ext hx_ hI.1 hY_n39
  replace hY_n47 := y_ext hx_ hI.1 hY_n47
  replace hY_n56 := y_ext hx_ hI.1 hY_n56
  replace hY_n64 := y_ext hx_ hI.1 hY_n64
  replace hY_n71 := y_ext hx_ hI.1 hY_n71
  replace hY_n79 := y_ext hx_ hI.1 hY_n79
  replace hY_n87 := y_ext hx_ hI.1 hY_n87
  replace hY_n95 := y_ext hx_ hI.1 hY_n95
  replace hY_n103 := y_ext hx_ hI.1 hY_n103
  obtain rfl := y_ansV rfl ho hr
  clear ho hr ha hE hP hI hx_
  rename x_I _ _ _ _ _ _ _ _ _ _ => hI
  refine y_newo (tag := 11) X hY0 hI rfl ⟨6, _, RX6, TX6, tyX6, rfl, rfl, iX6, tyX6_ok, (hts _ (x_at 100 (by decide +kernel) rfl)), (hts _ (x_at 105 (by decide +kernel) rfl)), (hts _ (x_at 68 (by decide +kernel) rfl)), x_dfl (by decide +kernel)⟩ (Nat.le_of_ble_eq_true rfl) (Nat.le_of_ble_eq_true rfl) lj_d124 fun Yn H n124 hnw => ?_
  obtain ⟨hIn, hmo, hY_n124, hfr_n124, hke⟩ := hnw
  replace hsi_letters := y_slk hsi_letters (hke _ _ hY_this)
  replace hs9 := y_slk hs9 (hke _ _ hY_this)
  replace hs17 := y_slk hs17 (hke _ _ hY_this)
  replace hs25 := y_slk hs25 (hke _ _ hY_this)
  replace hs33 := y_slk hs33 (hke _ _ hY_this)
  replace hs41 := y_slk hs41 (hke _ _ hY_this)
  replace hs50 := y_slk hs50 (hke _ _ hY_this)
  replace hs58 := y_slk hs58 (hke _ _ hY_this)
  replace hs66 := y_slk hs66 (hke _ _ hY_this)
  replace hs73 := y_slk hs73 (hke _ _ hY_this)
  replace hs81 := y_slk hs81 (hke _ _ hY_this)
  replace hs89 := y_slk hs89 (hke _ _ hY_this)
  replace hs97 := y_slk hs97 (hke _ _ hY_this)
  replace hs105 := y_slk hs105 (hke _ _ hY_this)
  replace hA_n71 := hA_n71.kept (hke _ _ hY_n71)
  replace hY_this := hmo _ _ hY_this
  replace hY_n7 := hmo _ _ hY_n7
  replace hY_n15 := hmo _ _ hY_n15
  replace hY_n23 := hmo _ _ hY_n23
  replace hY_n31 := hmo _ _ hY_n31
  replace hY_n39 := hmo _ _ hY_n39
  replace hY_n47 := hmo _ _ hY_n47
  replace hY_n56 := hmo _ _ hY_n56
  replace hY_n64 := hmo _ _ hY_n64
  replace hY_n71 := hmo _ _ hY_n71
  replace hY_n79 := hmo _ _ hY_n79
  replace hY_n87 := hmo _ _ hY_n87
  replace hY_n95 := hmo _ _ hY_n95
  replace hY_n103 := hmo _ _ hY_n103
  replace hI := hIn
  clear hIn hmo hke
  refine lv_dup hx hb lj_d127 rfl ?_
  refine lv_iconst hx hb lj_d128 (v := 0) (by decide) ?_
  have ec0 : (0 : Int32).toInt = 0 := by decide
  refine lv_iconst hx hb lj_d129 (v := 0) (by decide) ?_
  refine lv_iconst hx hb lj_d130 (v := 0) (by decide) ?_
  refine lv_iconst hx hb lj_d131 (v := 0) (by decide) ?_
  refine lv_iconst hx hb lj_d132 (v := 0) (by decide) ?_
  refine y_call (z := (2, 60, 6, none, xM13)) (av := [.ref n124, .int (0 : Int32), .int (0 : Int32), .int (0 : Int32), .int (0 : Int32), .int (0 : Int32)]) (rest := [.ref n124]) (y_cok.of (x_cokI (n := 5) X xm13 rfl (x_cons (x_at 106 (by decide +kernel) rfl) (x_cons (x_at 107 (by decide +kernel) rfl) (x_cons (x_at 68 (by decide +kernel) rfl) x_nilm))) (x_at 108 (by decide +kernel) rfl) rfl (fun Y av h => x_this h) (by decide +kernel) ⟨Nat.le_of_ble_eq_true rfl, Nat.le_of_ble_eq_true rfl⟩)) hY0 hI rfl lj_d133 hl.1 (Nat.le_of_ble_eq_true rfl) (Nat.le_of_ble_eq_true rfl) (Nat.le_of_ble_eq_true rfl) (y_cons (y_cref hY_n124 rfl) (y_cons ⟨_, rfl, x_i32 _⟩ (y_cons ⟨_, rfl, x_i32 _⟩ (y_cons ⟨_, rfl, x_i32 _⟩ (y_cons ⟨_, rfl, x_i32 _⟩ (y_cons ⟨_, rfl, x_i32 _⟩ y_nil)))))) rfl (y_norecv rfl) trivial (y_sub_ef rfl) fun v Yn o Hn L ho hr ha hIn hx_ hE hP => ?_
  replace hsi_letters := y_Efld hE hY_this rfl (by decide) (by decide) hsi_letters
  replace hs9 := y_Efld hE hY_this rfl (by decide) (by decide) hs9
  replace hs17 := y_Efld hE hY_this rfl (by decide) (by decide) hs17
  replace hs25 := y_Efld hE hY_this rfl (by decide) (by decide) hs25
  replace hs33 := y_Efld hE hY_this rfl (by decide) (by decide) hs33
  replace hs41 := y_Efld hE hY_this rfl (by decide) (by decide) hs41
  replace hs50 := y_Efld hE hY_this rfl (by decide) (by decide) hs50
  replace hs58 := y_Efld hE hY_this rfl (by decide) (by decide) hs58
  replace hs66 := y_Efld hE hY_this rfl (by decide) (by decide) hs66
  replace hs73 := y_Efld hE hY_this rfl (by decide) (by decide) hs73
  replace hs81 := y_Efld hE hY_this rfl (by decide) (by decide) hs81
  replace hs89 := y_Efld hE hY_this rfl (by decide) (by decide) hs89
  replace hs97 := y_Efld hE hY_this rfl (by decide) (by decide) hs97
  replace hs105 := y_Efld hE hY_this rfl (by decide) (by decide) hs105
  replace hA_n71 := hA_n71.kept (y_Earr hE hY_n71 rfl (by decide))
  replace hY_this := y_ext hx_ hI.1 hY_this
  replace hY_n7 := y_ext hx_ hI.1 hY_n7
  replace hY_n15 := y_ext hx_ hI.1 hY_n15
  replace hY_n23 := y_ext hx_ hI.1 hY_n23
  replace hY_n31 := y_ext hx_ hI.1 hY_n31
  replace hY_n39 := y_ext hx_ hI.1 hY_n39
  replace hY_n47 := y_ext hx_ hI.1 hY_n47
  replace hY_n56 := y_ext hx_ hI.1 hY_n56
  replace hY_n64 := y_ext hx_ hI.1 hY_n64
  replace hY_n71 := y_ext hx_ hI.1 hY_n71
  replace hY_n79 := y_ext hx_ hI.1 hY_n79
  replace hY_n87 := y_ext hx_ hI.1 hY_n87
  replace hY_n95 := y_ext hx_ hI.1 hY_n95
  replace hY_n103 := y_ext hx_ hI.1 hY_n103
  replace hY_n124 := y_ext hx_ hI.1 hY_n124
  obtain rfl := y_ansV rfl ho hr
  clear ho hr ha hE hP hI hx_
  rename x_I _ _ _ _ _ _ _ _ _ _ => hI
  refine lv_astore_n hx hb lj_d136 rfl hl (by decide) (lv' := [(1, .ref n124), (0, .ref this)]) rfl fun ls hl => ?_
  refine lv_iconst hx hb lj_d137 (v := 0) (by decide) ?_
  refine lv_istore_n hx hb lj_d138 rfl hl (by decide) (lv' := [(2, .int (0 : Int32)), (1, .ref n124), (0, .ref this)]) rfl fun ls hl => ?_
  have hs_n7 := hs9
  have hs_n15 := hs17
  have hs_n23 := hs25
  have hs_n31 := hs33
  have hs_n39 := hs41
  have hs_n47 := hs50
  have hs_n56 := hs58
  have hs_n64 := hs66
  have hs_n71 := hs73
  have hs_n79 := hs81
  have hs_n87 := hs89
  have hs_n95 := hs97
  have hs_n103 := hs105
  exact lj_L139 B rfl hfr_n47 hlw0 9 _ _ _ _ _ hI hY_this hY_n7 hY_n15 hY_n23 hY_n31 hY_n39 hY_n47 hY_n56 hY_n64 hY_n71 hY_n79 hY_n87 hY_n95 hY_n103 hY_n124 hs_n7 hs_n15 hs_n23 hs_n31 hs_n39 hs_n47 hs_n56 hs_n64 hs_n71 hs_n79 hs_n87 hs_n95 hs_n103 hsi_letters (lv_sub hl [0, 1, 2] rfl) (by first | assumption | omega) (fun j hj => absurd hj (by omega)) (by omega)
theorem t9_d0 : decode xMtx.2.1 0 = .ok (.aload_n 0, 1) := by decide +kernel
theorem t9_d1 : decode xMtx.2.1 1 = .ok (.invokespecial 3, 3) := by decide +kernel
theorem t9_d4 : decode xMtx.2.1 4 = .ok (.aload_n 0, 1) := by decide +kernel
theorem t9_d5 : decode xMtx.2.1 5 = .ok (.new 9, 3) := by decide +kernel
theorem t9_d8 : decode xMtx.2.1 8 = .ok (.dup, 1) := by decide +kernel
theorem t9_d9 : decode xMtx.2.1 9 = .ok (.invokespecial 11, 3) := by decide +kernel
theorem t9_d12 : decode xMtx.2.1 12 = .ok (.putfield 12, 3) := by decide +kernel
theorem t9_d15 : decode xMtx.2.1 15 = .ok (.aload_n 0, 1) := by decide +kernel
theorem t9_d16 : decode xMtx.2.1 16 = .ok (.new 9, 3) := by decide +kernel
theorem t9_d19 : decode xMtx.2.1 19 = .ok (.dup, 1) := by decide +kernel
theorem t9_d20 : decode xMtx.2.1 20 = .ok (.invokespecial 11, 3) := by decide +kernel
theorem t9_d23 : decode xMtx.2.1 23 = .ok (.putfield 16, 3) := by decide +kernel
theorem t9_d26 : decode xMtx.2.1 26 = .ok (.aload_n 0, 1) := by decide +kernel
theorem t9_d27 : decode xMtx.2.1 27 = .ok (.iconst 2, 1) := by decide +kernel
theorem t9_d28 : decode xMtx.2.1 28 = .ok (.anewarray 9, 3) := by decide +kernel
theorem t9_d31 : decode xMtx.2.1 31 = .ok (.putfield 19, 3) := by decide +kernel
theorem t9_d34 : decode xMtx.2.1 34 = .ok (.aload_n 0, 1) := by decide +kernel
theorem t9_d35 : decode xMtx.2.1 35 = .ok (.new 23, 3) := by decide +kernel
theorem t9_d38 : decode xMtx.2.1 38 = .ok (.dup, 1) := by decide +kernel
theorem t9_d39 : decode xMtx.2.1 39 = .ok (.invokespecial 25, 3) := by decide +kernel
theorem t9_d42 : decode xMtx.2.1 42 = .ok (.putfield 26, 3) := by decide +kernel
theorem t9_d45 : decode xMtx.2.1 45 = .ok (.aload_n 0, 1) := by decide +kernel
theorem t9_d46 : decode xMtx.2.1 46 = .ok (.new 30, 3) := by decide +kernel
theorem t9_d49 : decode xMtx.2.1 49 = .ok (.dup, 1) := by decide +kernel
theorem t9_d50 : decode xMtx.2.1 50 = .ok (.invokespecial 32, 3) := by decide +kernel
theorem t9_d53 : decode xMtx.2.1 53 = .ok (.putfield 33, 3) := by decide +kernel
theorem t9_d56 : decode xMtx.2.1 56 = .ok (.aload_n 0, 1) := by decide +kernel
theorem t9_d57 : decode xMtx.2.1 57 = .ok (.new 37, 3) := by decide +kernel
theorem t9_d60 : decode xMtx.2.1 60 = .ok (.dup, 1) := by decide +kernel
theorem t9_d61 : decode xMtx.2.1 61 = .ok (.invokespecial 39, 3) := by decide +kernel
theorem t9_d64 : decode xMtx.2.1 64 = .ok (.putfield 40, 3) := by decide +kernel
theorem t9_d67 : decode xMtx.2.1 67 = .ok (.aload_n 0, 1) := by decide +kernel
theorem t9_d68 : decode xMtx.2.1 68 = .ok (.iconst 3, 1) := by decide +kernel
theorem t9_d69 : decode xMtx.2.1 69 = .ok (.newarray .int, 2) := by decide +kernel
theorem t9_d71 : decode xMtx.2.1 71 = .ok (.putfield 44, 3) := by decide +kernel
theorem t9_d74 : decode xMtx.2.1 74 = .ok (.aload_n 0, 1) := by decide +kernel
theorem t9_d75 : decode xMtx.2.1 75 = .ok (.lconst 0, 1) := by decide +kernel
theorem t9_d76 : decode xMtx.2.1 76 = .ok (.putfield 48, 3) := by decide +kernel
theorem t9_d79 : decode xMtx.2.1 79 = .ok (.aload_n 0, 1) := by decide +kernel
theorem t9_d80 : decode xMtx.2.1 80 = .ok (.lconst 1, 1) := by decide +kernel
theorem t9_d81 : decode xMtx.2.1 81 = .ok (.putfield 52, 3) := by decide +kernel
theorem t9_d84 : decode xMtx.2.1 84 = .ok (.return_, 1) := by decide +kernel
theorem ym_twInit2 : y_Met vwCl x_G x_Zs x_Tb x_Nb xMtx y_T z_Pt2 := by
  refine y_main (by decide +kernel) (by decide +kernel) x_Tb_good x_Nb_ok ?_
  intro p l e s m below meth c D U Y0 av ls B hI _ hl
  have X := B.1
  have hx := X.1
  have hb := X.2.1
  have hY0 := B.2.2.2.2.1
  have hts := X.2.2.2.2.1
  have hnm := B.2.2.2.1
  obtain ⟨v0, rfl, hv0⟩ := x_one B.2.2.2.2.2
  obtain ⟨this, t0, rfl, ht0, hY_this⟩ := x_ref_at hv0 rfl
  obtain rfl := List.mem_singleton.mp ht0
  replace hl : lv_has ls xMtx.2.2.1 [(0, .ref this)] := hl
  refine lv_aload_n hx hb t9_d0 rfl (lv_at hl 0 rfl) ?_
  refine y_oi X (hts _ (x_at 91 (by decide +kernel) rfl)) (hts _ (x_at 92 (by decide +kernel) rfl)) (hts _ (x_at 93 (by decide +kernel) rfl)) (Nat.le_of_ble_eq_true rfl) (Nat.le_of_ble_eq_true rfl) hl.1 (Nat.le_of_ble_eq_true rfl) t9_d1 ?_
  refine lv_aload_n hx hb t9_d4 rfl (lv_at hl 0 rfl) ?_
  refine y_newoC (tag := 3) (ty := tyX2) X hY0 hI rfl rfl iX2 tyX2_ok (hts _ (x_at 94 (by decide +kernel) rfl)) (hts _ (x_at 95 (by decide +kernel) rfl)) (hts _ (x_at 66 (by decide +kernel) rfl)) (x_dfl (by decide +kernel)) (Nat.le_of_ble_eq_true rfl) (Nat.le_of_ble_eq_true rfl) t9_d5 fun Yn H n5 hnw hct => ?_
  obtain ⟨hIn, hmo, hY_n5, hfr_n5, hke⟩ := hnw
  replace hY_this := hmo _ _ hY_this
  replace hI := hIn
  clear hIn hmo hke
  have hd_n5_12 := hct 12 (by decide)
  clear hct
  refine lv_dup hx hb t9_d8 rfl ?_
  refine y_callCP (z := (2, 11, 1, none, xMli)) (b := n5) (rest := [.ref n5, .ref this]) (y_cokI (n := 0) X ym_landInit2 rfl (x_cons (x_at 96 (by decide +kernel) rfl) (x_cons (x_at 97 (by decide +kernel) rfl) (x_cons (x_at 66 (by decide +kernel) rfl) x_nilm))) (x_at 98 (by decide +kernel) rfl) rfl (fun Y av h => x_this h) (by decide +kernel) ⟨Nat.le_of_ble_eq_true rfl, Nat.le_of_ble_eq_true rfl⟩) hY0 hI rfl t9_d9 hl.1 (Nat.le_of_ble_eq_true rfl) (Nat.le_of_ble_eq_true rfl) (Nat.le_of_ble_eq_true rfl) (y_cons (y_cref hY_n5 rfl) y_nil) rfl rfl trivial (y_sub_ef (by decide +kernel)) hfr_n5 rfl fun Yn Hn L hIn hY_n hk hE hP => ?_
  replace hd_n5_12 := (hP _ rfl).trans hd_n5_12
  replace hY_this := hk _ _ (y_ne hY_this hY_n5 rfl) hY_this
  replace hY_n5 := hY_n
  clear hI hE hk hY_n hP
  rename x_I _ _ _ _ _ _ _ _ _ _ => hI
  refine y_putf X (fw224 X.2.2.2.2.1) hY0 hI hY_this rfl rfl (y_crefA hY_n5 rfl) (by decide +kernel) t9_d12 fun H sl hI ho hs hk => ?_
  replace hd_n5_12 := y_slk hd_n5_12 (ho _ (y_ne hY_n5 hY_this rfl))
  replace hs := hs
  have hs12 := hs
  refine lv_aload_n hx hb t9_d15 rfl (lv_at hl 0 rfl) ?_
  refine y_newoC (tag := 3) (ty := tyX2) X hY0 hI rfl rfl iX2 tyX2_ok (hts _ (x_at 94 (by decide +kernel) rfl)) (hts _ (x_at 95 (by decide +kernel) rfl)) (hts _ (x_at 66 (by decide +kernel) rfl)) (x_dfl (by decide +kernel)) (Nat.le_of_ble_eq_true rfl) (Nat.le_of_ble_eq_true rfl) t9_d16 fun Yn H n16 hnw hct => ?_
  obtain ⟨hIn, hmo, hY_n16, hfr_n16, hke⟩ := hnw
  replace hd_n5_12 := y_slk hd_n5_12 (hke _ _ hY_n5)
  replace hs12 := y_slk hs12 (hke _ _ hY_this)
  replace hY_this := hmo _ _ hY_this
  replace hY_n5 := hmo _ _ hY_n5
  replace hI := hIn
  clear hIn hmo hke
  have hd_n16_12 := hct 12 (by decide)
  clear hct
  have hne : n5 ≠ n16 := y_ne hY_n5 hY_n16 rfl
  refine lv_dup hx hb t9_d19 rfl ?_
  refine y_callCP (z := (2, 11, 1, none, xMli)) (b := n16) (rest := [.ref n16, .ref this]) (y_cokI (n := 0) X ym_landInit2 rfl (x_cons (x_at 96 (by decide +kernel) rfl) (x_cons (x_at 97 (by decide +kernel) rfl) (x_cons (x_at 66 (by decide +kernel) rfl) x_nilm))) (x_at 98 (by decide +kernel) rfl) rfl (fun Y av h => x_this h) (by decide +kernel) ⟨Nat.le_of_ble_eq_true rfl, Nat.le_of_ble_eq_true rfl⟩) hY0 hI rfl t9_d20 hl.1 (Nat.le_of_ble_eq_true rfl) (Nat.le_of_ble_eq_true rfl) (Nat.le_of_ble_eq_true rfl) (y_cons (y_cref hY_n16 rfl) y_nil) rfl rfl trivial (y_sub_ef (by decide +kernel)) hfr_n16 rfl fun Yn Hn L hIn hY_n hk hE hP => ?_
  replace hd_n5_12 := y_Efld hE hY_n5 rfl (by decide) (by decide) hd_n5_12
  replace hs12 := y_Efld hE hY_this rfl (by decide) (by decide) hs12
  replace hd_n16_12 := (hP _ rfl).trans hd_n16_12
  replace hY_this := hk _ _ (y_ne hY_this hY_n16 rfl) hY_this
  replace hY_n5 := hk _ _ (y_ne hY_n5 hY_n16 rfl) hY_n5
  replace hY_n16 := hY_n
  clear hI hE hk hY_n hP
  rename x_I _ _ _ _ _ _ _ _ _ _ => hI
  refine y_putf X (fw225 X.2.2.2.2.1) hY0 hI hY_this rfl rfl (y_crefA hY_n16 rfl) (by decide +kernel) t9_d23 fun H sl hI ho hs hk => ?_
  replace hd_n5_12 := y_slk hd_n5_12 (ho _ (y_ne hY_n5 hY_this rfl))
  replace hs12 := hk _ _ (by decide +kernel) (by decide) hs12
  replace hd_n16_12 := y_slk hd_n16_12 (ho _ (y_ne hY_n16 hY_this rfl))
  replace hs := hs
  have hs23 := hs
  refine lv_aload_n hx hb t9_d26 rfl (lv_at hl 0 rfl) ?_
  refine lv_iconst hx hb t9_d27 (v := 2) (by decide) ?_
  have ec2 : (2 : Int32).toInt = 2 := by decide
  refine y_newrC (tag := 41) (k := 2) (C := "TwinFires$Land") X hY0 hI rfl (by decide) (hts _ (x_at 94 (by decide +kernel) rfl)) (va_AO.use (X.2.2.2.2.2.2.2.2.1 _ (x_nt 224 (by decide +kernel) rfl))) (fun Y j => x_dfa (ty := .object "TwinFires$Land") (by decide +kernel) Y j) (by decide) (Nat.le_of_ble_eq_true rfl) (Nat.le_of_ble_eq_true rfl) t9_d28 fun Yn H n28 hnw hct => ?_
  obtain ⟨hIn, hmo, hY_n28, hfr_n28, hke⟩ := hnw
  replace hd_n5_12 := y_slk hd_n5_12 (hke _ _ hY_n5)
  replace hs12 := y_slk hs12 (hke _ _ hY_this)
  replace hd_n16_12 := y_slk hd_n16_12 (hke _ _ hY_n16)
  replace hs23 := y_slk hs23 (hke _ _ hY_this)
  replace hY_this := hmo _ _ hY_this
  replace hY_n5 := hmo _ _ hY_n5
  replace hY_n16 := hmo _ _ hY_n16
  replace hI := hIn
  clear hIn hmo hke
  have hn_n28 := hct
  clear hct
  refine y_putf X (fw226 X.2.2.2.2.1 hnm) hY0 hI hY_this rfl rfl (y_crefA hY_n28 rfl) (by decide +kernel) t9_d31 fun H sl hI ho hs hk => ?_
  replace hd_n5_12 := y_slk hd_n5_12 (ho _ (y_ne hY_n5 hY_this rfl))
  replace hs12 := hk _ _ (by decide +kernel) (by decide) hs12
  replace hd_n16_12 := y_slk hd_n16_12 (ho _ (y_ne hY_n16 hY_this rfl))
  replace hs23 := hk _ _ (by decide +kernel) (by decide) hs23
  replace hn_n28 := fun j hj => (z_atk (ho _ (y_ne hY_n28 hY_this rfl))).trans (hn_n28 j hj)
  replace hs := hs
  have hs31 := hs
  refine lv_aload_n hx hb t9_d34 rfl (lv_at hl 0 rfl) ?_
  refine y_newo (tag := 5) X hY0 hI rfl ⟨7, _, RX7, TX7, tyX7, rfl, rfl, iX7, tyX7_ok, (hts _ (x_at 225 (by decide +kernel) rfl)), (hts _ (x_at 226 (by decide +kernel) rfl)), (hts _ (x_at 69 (by decide +kernel) rfl)), x_dfl (by decide +kernel)⟩ (Nat.le_of_ble_eq_true rfl) (Nat.le_of_ble_eq_true rfl) t9_d35 fun Yn H n35 hnw => ?_
  obtain ⟨hIn, hmo, hY_n35, hfr_n35, hke⟩ := hnw
  replace hd_n5_12 := y_slk hd_n5_12 (hke _ _ hY_n5)
  replace hs12 := y_slk hs12 (hke _ _ hY_this)
  replace hd_n16_12 := y_slk hd_n16_12 (hke _ _ hY_n16)
  replace hs23 := y_slk hs23 (hke _ _ hY_this)
  replace hs31 := y_slk hs31 (hke _ _ hY_this)
  replace hn_n28 := fun j hj => (z_atk (hke _ _ hY_n28)).trans (hn_n28 j hj)
  replace hY_this := hmo _ _ hY_this
  replace hY_n5 := hmo _ _ hY_n5
  replace hY_n16 := hmo _ _ hY_n16
  replace hY_n28 := hmo _ _ hY_n28
  replace hI := hIn
  clear hIn hmo hke
  refine lv_dup hx hb t9_d38 rfl ?_
  refine y_callCP (z := (2, 25, 1, none, xM1018)) (b := n35) (rest := [.ref n35, .ref this]) (y_cok.of (x_cokIN (n := 0) (host := "TwinFires") X xm1018 rfl (x_cons (x_at 228 (by decide +kernel) rfl) (x_cons (x_at 69 (by decide +kernel) rfl) x_nilm)) (x_nt 227 (by decide +kernel) rfl) (x_at 229 (by decide +kernel) rfl) rfl (fun Y av h => x_this h) (by decide +kernel) ⟨Nat.le_of_ble_eq_true rfl, Nat.le_of_ble_eq_true rfl⟩)) hY0 hI rfl t9_d39 hl.1 (Nat.le_of_ble_eq_true rfl) (Nat.le_of_ble_eq_true rfl) (Nat.le_of_ble_eq_true rfl) (y_cons (y_cref hY_n35 rfl) y_nil) rfl rfl trivial (y_sub_ef (by decide +kernel)) hfr_n35 rfl fun Yn Hn L hIn hY_n hk hE hP => ?_
  replace hd_n5_12 := y_Efld hE hY_n5 rfl (by decide) (by decide) hd_n5_12
  replace hs12 := y_Efld hE hY_this rfl (by decide) (by decide) hs12
  replace hd_n16_12 := y_Efld hE hY_n16 rfl (by decide) (by decide) hd_n16_12
  replace hs23 := y_Efld hE hY_this rfl (by decide) (by decide) hs23
  replace hs31 := y_Efld hE hY_this rfl (by decide) (by decide) hs31
  replace hn_n28 := fun j hj => (z_atk (y_Earr hE hY_n28 rfl (by decide))).trans (hn_n28 j hj)
  replace hY_this := hk _ _ (y_ne hY_this hY_n35 rfl) hY_this
  replace hY_n5 := hk _ _ (y_ne hY_n5 hY_n35 rfl) hY_n5
  replace hY_n16 := hk _ _ (y_ne hY_n16 hY_n35 rfl) hY_n16
  replace hY_n28 := hk _ _ (y_ne hY_n28 hY_n35 rfl) hY_n28
  replace hY_n35 := hY_n
  clear hI hE hk hY_n hP
  rename x_I _ _ _ _ _ _ _ _ _ _ => hI
  refine y_putf X (fw227 X.2.2.2.2.1 hnm) hY0 hI hY_this rfl rfl (y_crefA hY_n35 rfl) (by decide +kernel) t9_d42 fun H sl hI ho hs hk => ?_
  replace hd_n5_12 := y_slk hd_n5_12 (ho _ (y_ne hY_n5 hY_this rfl))
  replace hs12 := hk _ _ (by decide +kernel) (by decide) hs12
  replace hd_n16_12 := y_slk hd_n16_12 (ho _ (y_ne hY_n16 hY_this rfl))
  replace hs23 := hk _ _ (by decide +kernel) (by decide) hs23
  replace hs31 := hk _ _ (by decide +kernel) (by decide) hs31
  replace hn_n28 := fun j hj => (z_atk (ho _ (y_ne hY_n28 hY_this rfl))).trans (hn_n28 j hj)
  replace hs := hs
  have hs42 := hs
  refine lv_aload_n hx hb t9_d45 rfl (lv_at hl 0 rfl) ?_
  refine y_newo (tag := 7) X hY0 hI rfl ⟨0, _, RX0, TX0, tyX0, rfl, rfl, iX0, tyX0_ok, (hts _ (x_at 249 (by decide +kernel) rfl)), (hts _ (x_at 250 (by decide +kernel) rfl)), (hts _ (x_at 70 (by decide +kernel) rfl)), x_dfl (by decide +kernel)⟩ (Nat.le_of_ble_eq_true rfl) (Nat.le_of_ble_eq_true rfl) t9_d46 fun Yn H n46 hnw => ?_
  obtain ⟨hIn, hmo, hY_n46, hfr_n46, hke⟩ := hnw
  replace hd_n5_12 := y_slk hd_n5_12 (hke _ _ hY_n5)
  replace hs12 := y_slk hs12 (hke _ _ hY_this)
  replace hd_n16_12 := y_slk hd_n16_12 (hke _ _ hY_n16)
  replace hs23 := y_slk hs23 (hke _ _ hY_this)
  replace hs31 := y_slk hs31 (hke _ _ hY_this)
  replace hs42 := y_slk hs42 (hke _ _ hY_this)
  replace hn_n28 := fun j hj => (z_atk (hke _ _ hY_n28)).trans (hn_n28 j hj)
  replace hY_this := hmo _ _ hY_this
  replace hY_n5 := hmo _ _ hY_n5
  replace hY_n16 := hmo _ _ hY_n16
  replace hY_n28 := hmo _ _ hY_n28
  replace hY_n35 := hmo _ _ hY_n35
  replace hI := hIn
  clear hIn hmo hke
  refine lv_dup hx hb t9_d49 rfl ?_
  refine y_callCP (z := (2, 32, 1, none, xM1020)) (b := n46) (rest := [.ref n46, .ref this]) (y_cok.of (x_cokIN (n := 0) (host := "TwinFires") X xm1020 rfl (x_cons (x_at 252 (by decide +kernel) rfl) (x_cons (x_at 70 (by decide +kernel) rfl) x_nilm)) (x_nt 251 (by decide +kernel) rfl) (x_at 253 (by decide +kernel) rfl) rfl (fun Y av h => x_this h) (by decide +kernel) ⟨Nat.le_of_ble_eq_true rfl, Nat.le_of_ble_eq_true rfl⟩)) hY0 hI rfl t9_d50 hl.1 (Nat.le_of_ble_eq_true rfl) (Nat.le_of_ble_eq_true rfl) (Nat.le_of_ble_eq_true rfl) (y_cons (y_cref hY_n46 rfl) y_nil) rfl rfl trivial (y_sub_ef (by decide +kernel)) hfr_n46 rfl fun Yn Hn L hIn hY_n hk hE hP => ?_
  replace hd_n5_12 := y_Efld hE hY_n5 rfl (by decide) (by decide) hd_n5_12
  replace hs12 := y_Efld hE hY_this rfl (by decide) (by decide) hs12
  replace hd_n16_12 := y_Efld hE hY_n16 rfl (by decide) (by decide) hd_n16_12
  replace hs23 := y_Efld hE hY_this rfl (by decide) (by decide) hs23
  replace hs31 := y_Efld hE hY_this rfl (by decide) (by decide) hs31
  replace hs42 := y_Efld hE hY_this rfl (by decide) (by decide) hs42
  replace hn_n28 := fun j hj => (z_atk (y_Earr hE hY_n28 rfl (by decide))).trans (hn_n28 j hj)
  replace hY_this := hk _ _ (y_ne hY_this hY_n46 rfl) hY_this
  replace hY_n5 := hk _ _ (y_ne hY_n5 hY_n46 rfl) hY_n5
  replace hY_n16 := hk _ _ (y_ne hY_n16 hY_n46 rfl) hY_n16
  replace hY_n28 := hk _ _ (y_ne hY_n28 hY_n46 rfl) hY_n28
  replace hY_n35 := hk _ _ (y_ne hY_n35 hY_n46 rfl) hY_n35
  replace hY_n46 := hY_n
  clear hI hE hk hY_n hP
  rename x_I _ _ _ _ _ _ _ _ _ _ => hI
  refine y_putf X (fw228 X.2.2.2.2.1 hnm) hY0 hI hY_this rfl rfl (y_crefA hY_n46 rfl) (by decide +kernel) t9_d53 fun H sl hI ho hs hk => ?_
  replace hd_n5_12 := y_slk hd_n5_12 (ho _ (y_ne hY_n5 hY_this rfl))
  replace hs12 := hk _ _ (by decide +kernel) (by decide) hs12
  replace hd_n16_12 := y_slk hd_n16_12 (ho _ (y_ne hY_n16 hY_this rfl))
  replace hs23 := hk _ _ (by decide +kernel) (by decide) hs23
  replace hs31 := hk _ _ (by decide +kernel) (by decide) hs31
  replace hs42 := hk _ _ (by decide +kernel) (by decide) hs42
  replace hn_n28 := fun j hj => (z_atk (ho _ (y_ne hY_n28 hY_this rfl))).trans (hn_n28 j hj)
  replace hs := hs
  have hs53 := hs
  refine lv_aload_n hx hb t9_d56 rfl (lv_at hl 0 rfl) ?_
  refine y_newo (tag := 9) X hY0 hI rfl ⟨5, _, RX5, TX5, tyX5, rfl, rfl, iX5, tyX5_ok, (hts _ (x_at 302 (by decide +kernel) rfl)), (hts _ (x_at 303 (by decide +kernel) rfl)), (hts _ (x_at 72 (by decide +kernel) rfl)), x_dfl (by decide +kernel)⟩ (Nat.le_of_ble_eq_true rfl) (Nat.le_of_ble_eq_true rfl) t9_d57 fun Yn H n57 hnw => ?_
  obtain ⟨hIn, hmo, hY_n57, hfr_n57, hke⟩ := hnw
  replace hd_n5_12 := y_slk hd_n5_12 (hke _ _ hY_n5)
  replace hs12 := y_slk hs12 (hke _ _ hY_this)
  replace hd_n16_12 := y_slk hd_n16_12 (hke _ _ hY_n16)
  replace hs23 := y_slk hs23 (hke _ _ hY_this)
  replace hs31 := y_slk hs31 (hke _ _ hY_this)
  replace hs42 := y_slk hs42 (hke _ _ hY_this)
  replace hs53 := y_slk hs53 (hke _ _ hY_this)
  replace hn_n28 := fun j hj => (z_atk (hke _ _ hY_n28)).trans (hn_n28 j hj)
  replace hY_this := hmo _ _ hY_this
  replace hY_n5 := hmo _ _ hY_n5
  replace hY_n16 := hmo _ _ hY_n16
  replace hY_n28 := hmo _ _ hY_n28
  replace hY_n35 := hmo _ _ hY_n35
  replace hY_n46 := hmo _ _ hY_n46
  replace hI := hIn
  clear hIn hmo hke
  refine lv_dup hx hb t9_d60 rfl ?_
  refine y_callCP (z := (2, 39, 1, none, xM1021)) (b := n57) (rest := [.ref n57, .ref this]) (y_cok.of (x_cokIN (n := 0) (host := "TwinFires") X xm1021 rfl (x_cons (x_at 305 (by decide +kernel) rfl) (x_cons (x_at 72 (by decide +kernel) rfl) x_nilm)) (x_nt 304 (by decide +kernel) rfl) (x_at 306 (by decide +kernel) rfl) rfl (fun Y av h => x_this h) (by decide +kernel) ⟨Nat.le_of_ble_eq_true rfl, Nat.le_of_ble_eq_true rfl⟩)) hY0 hI rfl t9_d61 hl.1 (Nat.le_of_ble_eq_true rfl) (Nat.le_of_ble_eq_true rfl) (Nat.le_of_ble_eq_true rfl) (y_cons (y_cref hY_n57 rfl) y_nil) rfl rfl trivial (y_sub_ef (by decide +kernel)) hfr_n57 rfl fun Yn Hn L hIn hY_n hk hE hP => ?_
  replace hd_n5_12 := y_Efld hE hY_n5 rfl (by decide) (by decide) hd_n5_12
  replace hs12 := y_Efld hE hY_this rfl (by decide) (by decide) hs12
  replace hd_n16_12 := y_Efld hE hY_n16 rfl (by decide) (by decide) hd_n16_12
  replace hs23 := y_Efld hE hY_this rfl (by decide) (by decide) hs23
  replace hs31 := y_Efld hE hY_this rfl (by decide) (by decide) hs31
  replace hs42 := y_Efld hE hY_this rfl (by decide) (by decide) hs42
  replace hs53 := y_Efld hE hY_this rfl (by decide) (by decide) hs53
  replace hn_n28 := fun j hj => (z_atk (y_Earr hE hY_n28 rfl (by decide))).trans (hn_n28 j hj)
  replace hY_this := hk _ _ (y_ne hY_this hY_n57 rfl) hY_this
  replace hY_n5 := hk _ _ (y_ne hY_n5 hY_n57 rfl) hY_n5
  replace hY_n16 := hk _ _ (y_ne hY_n16 hY_n57 rfl) hY_n16
  replace hY_n28 := hk _ _ (y_ne hY_n28 hY_n57 rfl) hY_n28
  replace hY_n35 := hk _ _ (y_ne hY_n35 hY_n57 rfl) hY_n35
  replace hY_n46 := hk _ _ (y_ne hY_n46 hY_n57 rfl) hY_n46
  replace hY_n57 := hY_n
  clear hI hE hk hY_n hP
  rename x_I _ _ _ _ _ _ _ _ _ _ => hI
  refine y_putf X (fw229 X.2.2.2.2.1 hnm) hY0 hI hY_this rfl rfl (y_crefA hY_n57 rfl) (by decide +kernel) t9_d64 fun H sl hI ho hs hk => ?_
  replace hd_n5_12 := y_slk hd_n5_12 (ho _ (y_ne hY_n5 hY_this rfl))
  replace hs12 := hk _ _ (by decide +kernel) (by decide) hs12
  replace hd_n16_12 := y_slk hd_n16_12 (ho _ (y_ne hY_n16 hY_this rfl))
  replace hs23 := hk _ _ (by decide +kernel) (by decide) hs23
  replace hs31 := hk _ _ (by decide +kernel) (by decide) hs31
  replace hs42 := hk _ _ (by decide +kernel) (by decide) hs42
  replace hs53 := hk _ _ (by decide +kernel) (by decide) hs53
  replace hn_n28 := fun j hj => (z_atk (ho _ (y_ne hY_n28 hY_this rfl))).trans (hn_n28 j hj)
  replace hs := hs
  have hs64 := hs
  refine lv_aload_n hx hb t9_d67 rfl (lv_at hl 0 rfl) ?_
  refine lv_iconst hx hb t9_d68 (v := 3) (by decide) ?_
  have ec3 : (3 : Int32).toInt = 3 := by decide
  refine y_newaC (tag := 42) (k := 3) X hY0 hI rfl rfl (by decide) (hts _ (x_at 145 (by decide +kernel) rfl)) (fun Y j => x_dfa (by decide +kernel) Y j) (by decide) (Nat.le_of_ble_eq_true rfl) (Nat.le_of_ble_eq_true rfl) t9_d69 fun Yn H n69 hnw hct => ?_
  obtain ⟨hIn, hmo, hY_n69, hfr_n69, hke⟩ := hnw
  replace hd_n5_12 := y_slk hd_n5_12 (hke _ _ hY_n5)
  replace hs12 := y_slk hs12 (hke _ _ hY_this)
  replace hd_n16_12 := y_slk hd_n16_12 (hke _ _ hY_n16)
  replace hs23 := y_slk hs23 (hke _ _ hY_this)
  replace hs31 := y_slk hs31 (hke _ _ hY_this)
  replace hs42 := y_slk hs42 (hke _ _ hY_this)
  replace hs53 := y_slk hs53 (hke _ _ hY_this)
  replace hs64 := y_slk hs64 (hke _ _ hY_this)
  replace hn_n28 := fun j hj => (z_atk (hke _ _ hY_n28)).trans (hn_n28 j hj)
  replace hY_this := hmo _ _ hY_this
  replace hY_n5 := hmo _ _ hY_n5
  replace hY_n16 := hmo _ _ hY_n16
  replace hY_n28 := hmo _ _ hY_n28
  replace hY_n35 := hmo _ _ hY_n35
  replace hY_n46 := hmo _ _ hY_n46
  replace hY_n57 := hmo _ _ hY_n57
  replace hI := hIn
  clear hIn hmo hke
  clear hct
  refine y_putf X (fw230 X.2.2.2.2.1 hnm) hY0 hI hY_this rfl rfl (y_crefA hY_n69 rfl) (by decide +kernel) t9_d71 fun H sl hI ho hs hk => ?_
  replace hd_n5_12 := y_slk hd_n5_12 (ho _ (y_ne hY_n5 hY_this rfl))
  replace hs12 := hk _ _ (by decide +kernel) (by decide) hs12
  replace hd_n16_12 := y_slk hd_n16_12 (ho _ (y_ne hY_n16 hY_this rfl))
  replace hs23 := hk _ _ (by decide +kernel) (by decide) hs23
  replace hs31 := hk _ _ (by decide +kernel) (by decide) hs31
  replace hs42 := hk _ _ (by decide +kernel) (by decide) hs42
  replace hs53 := hk _ _ (by decide +kernel) (by decide) hs53
  replace hs64 := hk _ _ (by decide +kernel) (by decide) hs64
  replace hn_n28 := fun j hj => (z_atk (ho _ (y_ne hY_n28 hY_this rfl))).trans (hn_n28 j hj)
  replace hs := hs
  have hs71 := hs
  refine lv_aload_n hx hb t9_d74 rfl (lv_at hl 0 rfl) ?_
  refine lv_lconst hx hb t9_d75 (v := 0) (by decide) ?_
  have el0 : (0 : Int64).toInt = 0 := by decide
  refine y_putf X (fw231 X.2.2.2.2.1) hY0 hI hY_this rfl rfl ⟨_, rfl, x_i64 _⟩ (by decide +kernel) t9_d76 fun H sl hI ho hs hk => ?_
  replace hd_n5_12 := y_slk hd_n5_12 (ho _ (y_ne hY_n5 hY_this rfl))
  replace hs12 := hk _ _ (by decide +kernel) (by decide) hs12
  replace hd_n16_12 := y_slk hd_n16_12 (ho _ (y_ne hY_n16 hY_this rfl))
  replace hs23 := hk _ _ (by decide +kernel) (by decide) hs23
  replace hs31 := hk _ _ (by decide +kernel) (by decide) hs31
  replace hs42 := hk _ _ (by decide +kernel) (by decide) hs42
  replace hs53 := hk _ _ (by decide +kernel) (by decide) hs53
  replace hs64 := hk _ _ (by decide +kernel) (by decide) hs64
  replace hs71 := hk _ _ (by decide +kernel) (by decide) hs71
  replace hn_n28 := fun j hj => (z_atk (ho _ (y_ne hY_n28 hY_this rfl))).trans (hn_n28 j hj)
  replace hs := hs
  have hs76 := hs
  refine lv_aload_n hx hb t9_d79 rfl (lv_at hl 0 rfl) ?_
  refine lv_lconst hx hb t9_d80 (v := 1) (by decide) ?_
  have el1 : (1 : Int64).toInt = 1 := by decide
  refine y_putf X (fw232 X.2.2.2.2.1) hY0 hI hY_this rfl rfl ⟨_, rfl, x_i64 _⟩ (by decide +kernel) t9_d81 fun H sl hI ho hs hk => ?_
  replace hd_n5_12 := y_slk hd_n5_12 (ho _ (y_ne hY_n5 hY_this rfl))
  replace hs12 := hk _ _ (by decide +kernel) (by decide) hs12
  replace hd_n16_12 := y_slk hd_n16_12 (ho _ (y_ne hY_n16 hY_this rfl))
  replace hs23 := hk _ _ (by decide +kernel) (by decide) hs23
  replace hs31 := hk _ _ (by decide +kernel) (by decide) hs31
  replace hs42 := hk _ _ (by decide +kernel) (by decide) hs42
  replace hs53 := hk _ _ (by decide +kernel) (by decide) hs53
  replace hs64 := hk _ _ (by decide +kernel) (by decide) hs64
  replace hs71 := hk _ _ (by decide +kernel) (by decide) hs71
  replace hs76 := hk _ _ (by decide +kernel) (by decide) hs76
  replace hn_n28 := fun j hj => (z_atk (ho _ (y_ne hY_n28 hY_this rfl))).trans (hn_n28 j hj)
  replace hs := hs
  have hs81 := hs
  have hYC := hY_this
  have hf : ∀ (k : Nat) (ft : xV), ([xR false [2], xR false [2], xR false [41], xR false [4], xR false [6], xR false [8], xR false [42], xFL, xFL])[k]? = some ft → ∃ v : Value, x_sl D 11 k this H = some v ∧ x_c Yn ft v ∧ x_nrT 1 ft = true := fun k ft hk => match k, hk with
      | 0, hk => by cases hk; exact ⟨_, hs12, y_crefA hY_n5 rfl, rfl⟩
      | 1, hk => by cases hk; exact ⟨_, hs23, y_crefA hY_n16 rfl, rfl⟩
      | 2, hk => by cases hk; exact ⟨_, hs31, y_crefA hY_n28 rfl, rfl⟩
      | 3, hk => by cases hk; exact ⟨_, hs42, y_crefA hY_n35 rfl, rfl⟩
      | 4, hk => by cases hk; exact ⟨_, hs53, y_crefA hY_n46 rfl, rfl⟩
      | 5, hk => by cases hk; exact ⟨_, hs64, y_crefA hY_n57 rfl, rfl⟩
      | 6, hk => by cases hk; exact ⟨_, hs71, y_crefA hY_n69 rfl, rfl⟩
      | 7, hk => by cases hk; obtain ⟨v, e1, e2⟩ := y_fld (k := 7) hI.1 hYC rfl rfl; exact ⟨v, e1, e2, rfl⟩
      | 8, hk => by cases hk; obtain ⟨v, e1, e2⟩ := y_fld (k := 8) hI.1 hYC rfl rfl; exact ⟨v, e1, e2, rfl⟩
      | k + 9, hk => by cases hk
  exact y_retC (o := (11, [xR false [2], xR false [2], xR false [41], xR false [4], xR false [6], xR false [8], xR false [42], xFL, xFL])) B hI rfl rfl hYC rfl rfl rfl rfl (by decide +kernel) (by decide +kernel) List.mem_cons_self hf (fun t' h1 => by cases h1; exact ⟨n5, n16, n28, hs12, hs23, hs31, (x_up_ne (y_ne hY_n5 hYC rfl)).trans hY_n5, (x_up_ne (y_ne hY_n16 hYC rfl)).trans hY_n16, (x_up_ne (y_ne hY_n28 hYC rfl)).trans hY_n28, hne, hd_n5_12, fun j hj => Or.inl ⟨rfl, hn_n28 j hj⟩, fun q g1 _ => by rw [hn_n28 0 (by decide)] at g1; cases g1⟩) (by exact Nat.le_of_ble_eq_true rfl) (by exact Nat.le_of_ble_eq_true rfl) t9_d84
theorem tj_d0 : decode xMtl.2.1 0 = .ok (.aload_n 0, 1) := by decide +kernel
theorem tj_d1 : decode xMtl.2.1 1 = .ok (.getfield 16, 3) := by decide +kernel
theorem tj_d4 : decode xMtl.2.1 4 = .ok (.aload_n 0, 1) := by decide +kernel
theorem tj_d5 : decode xMtl.2.1 5 = .ok (.getfield 12, 3) := by decide +kernel
theorem tj_d8 : decode xMtl.2.1 8 = .ok (.invokevirtual 148, 3) := by decide +kernel
theorem tj_d11 : decode xMtl.2.1 11 = .ok (.aload_n 0, 1) := by decide +kernel
theorem tj_d12 : decode xMtl.2.1 12 = .ok (.getfield 16, 3) := by decide +kernel
theorem tj_d15 : decode xMtl.2.1 15 = .ok (.invokevirtual 152, 3) := by decide +kernel
theorem tj_d18 : decode xMtl.2.1 18 = .ok (.aload_n 0, 1) := by decide +kernel
theorem tj_d19 : decode xMtl.2.1 19 = .ok (.getfield 26, 3) := by decide +kernel
theorem tj_d22 : decode xMtl.2.1 22 = .ok (.invokevirtual 155, 3) := by decide +kernel
theorem tj_d25 : decode xMtl.2.1 25 = .ok (.iconst 0, 1) := by decide +kernel
theorem tj_d26 : decode xMtl.2.1 26 = .ok (.istore_n 1, 1) := by decide +kernel
theorem tj_d27 : decode xMtl.2.1 27 = .ok (.iconst (-1), 1) := by decide +kernel
theorem tj_d28 : decode xMtl.2.1 28 = .ok (.istore_n 2, 1) := by decide +kernel
theorem tj_d29 : decode xMtl.2.1 29 = .ok (.aload_n 0, 1) := by decide +kernel
theorem tj_d30 : decode xMtl.2.1 30 = .ok (.getfield 26, 3) := by decide +kernel
theorem tj_d33 : decode xMtl.2.1 33 = .ok (.invokevirtual 158, 3) := by decide +kernel
theorem tj_d36 : decode xMtl.2.1 36 = .ok (.istore_n 3, 1) := by decide +kernel
theorem tj_d37 : decode xMtl.2.1 37 = .ok (.iload_n 3, 1) := by decide +kernel
theorem tj_d38 : decode xMtl.2.1 38 = .ok (.ifCond .lt 49, 3) := by decide +kernel
theorem tj_d41 : decode xMtl.2.1 41 = .ok (.iload_n 1, 1) := by decide +kernel
theorem tj_d42 : decode xMtl.2.1 42 = .ok (.sipush 240, 3) := by decide +kernel
theorem tj_d45 : decode xMtl.2.1 45 = .ok (.if_icmp .ge 42, 3) := by decide +kernel
theorem tj_d48 : decode xMtl.2.1 48 = .ok (.iload_n 2, 1) := by decide +kernel
theorem tj_d49 : decode xMtl.2.1 49 = .ok (.iconst (-1), 1) := by decide +kernel
theorem tj_d50 : decode xMtl.2.1 50 = .ok (.if_icmp .ne 23, 3) := by decide +kernel
theorem tj_d53 : decode xMtl.2.1 53 = .ok (.aload_n 0, 1) := by decide +kernel
theorem tj_d54 : decode xMtl.2.1 54 = .ok (.getfield 16, 3) := by decide +kernel
theorem tj_d57 : decode xMtl.2.1 57 = .ok (.iload_n 3, 1) := by decide +kernel
theorem tj_d58 : decode xMtl.2.1 58 = .ok (.aload_n 0, 1) := by decide +kernel
theorem tj_d59 : decode xMtl.2.1 59 = .ok (.getfield 26, 3) := by decide +kernel
theorem tj_d62 : decode xMtl.2.1 62 = .ok (.getfield 162, 3) := by decide +kernel
theorem tj_d65 : decode xMtl.2.1 65 = .ok (.invokevirtual 165, 3) := by decide +kernel
theorem tj_d68 : decode xMtl.2.1 68 = .ok (.ifCond .ge 5, 3) := by decide +kernel
theorem tj_d71 : decode xMtl.2.1 71 = .ok (.iload_n 1, 1) := by decide +kernel
theorem tj_d72 : decode xMtl.2.1 72 = .ok (.istore_n 2, 1) := by decide +kernel
theorem tj_d73 : decode xMtl.2.1 73 = .ok (.iinc 1 1, 3) := by decide +kernel
theorem tj_d76 : decode xMtl.2.1 76 = .ok (.aload_n 0, 1) := by decide +kernel
theorem tj_d77 : decode xMtl.2.1 77 = .ok (.getfield 26, 3) := by decide +kernel
theorem tj_d80 : decode xMtl.2.1 80 = .ok (.invokevirtual 158, 3) := by decide +kernel
theorem tj_d83 : decode xMtl.2.1 83 = .ok (.istore_n 3, 1) := by decide +kernel
theorem tj_d84 : decode xMtl.2.1 84 = .ok (.goto (-47), 3) := by decide +kernel
theorem tj_d87 : decode xMtl.2.1 87 = .ok (.iload_n 3, 1) := by decide +kernel
theorem tj_d88 : decode xMtl.2.1 88 = .ok (.iconst (-1), 1) := by decide +kernel
theorem tj_d89 : decode xMtl.2.1 89 = .ok (.if_icmp .eq 5, 3) := by decide +kernel
theorem tj_d92 : decode xMtl.2.1 92 = .ok (.iload_n 3, 1) := by decide +kernel
theorem tj_d93 : decode xMtl.2.1 93 = .ok (.ireturn, 1) := by decide +kernel
theorem tj_d94 : decode xMtl.2.1 94 = .ok (.iload_n 2, 1) := by decide +kernel
theorem tj_d95 : decode xMtl.2.1 95 = .ok (.iconst (-1), 1) := by decide +kernel
theorem tj_d96 : decode xMtl.2.1 96 = .ok (.if_icmp .eq 9, 3) := by decide +kernel
theorem tj_d99 : decode xMtl.2.1 99 = .ok (.sipush (-1000), 3) := by decide +kernel
theorem tj_d102 : decode xMtl.2.1 102 = .ok (.iload_n 2, 1) := by decide +kernel
theorem tj_d103 : decode xMtl.2.1 103 = .ok (.isub, 1) := by decide +kernel
theorem tj_d104 : decode xMtl.2.1 104 = .ok (.ireturn, 1) := by decide +kernel
theorem tj_d105 : decode xMtl.2.1 105 = .ok (.aload_n 0, 1) := by decide +kernel
theorem tj_d106 : decode xMtl.2.1 106 = .ok (.getfield 12, 3) := by decide +kernel
theorem tj_d109 : decode xMtl.2.1 109 = .ok (.astore 4, 2) := by decide +kernel
theorem tj_d111 : decode xMtl.2.1 111 = .ok (.aload_n 0, 1) := by decide +kernel
theorem tj_d112 : decode xMtl.2.1 112 = .ok (.aload_n 0, 1) := by decide +kernel
theorem tj_d113 : decode xMtl.2.1 113 = .ok (.getfield 16, 3) := by decide +kernel
theorem tj_d116 : decode xMtl.2.1 116 = .ok (.putfield 12, 3) := by decide +kernel
theorem tj_d119 : decode xMtl.2.1 119 = .ok (.aload_n 0, 1) := by decide +kernel
theorem tj_d120 : decode xMtl.2.1 120 = .ok (.aload 4, 2) := by decide +kernel
theorem tj_d122 : decode xMtl.2.1 122 = .ok (.putfield 16, 3) := by decide +kernel
theorem tj_d125 : decode xMtl.2.1 125 = .ok (.iload_n 1, 1) := by decide +kernel
theorem tj_d126 : decode xMtl.2.1 126 = .ok (.ireturn, 1) := by decide +kernel
theorem tj_L37 {p : Program} {l : Launch} {e : Env} {s : State} {m : MethodId} {below : List Frame} {meth : Method} {c : Code} {D : va_G} {U : State} {Y0 : xY} {av : List Value} (B : y_B vwCl x_Tb x_Nb xMtl p s m meth c D U Y0 av) {this hd dr tx : Nat} (hav : av = [.ref this]) (hs00 : x_sl D 11 0 this s.heap = some (.ref hd)) (hs01 : x_sl D 11 1 this s.heap = some (.ref dr))  :
    ∀ (n : Nat), ∀ (H : Heap) (Y : xY) (locs : List Loc) (ls : Array Slot) (item : Int32) (ref_ : Int32) (items : Int32) (k : Nat), x_I D x_G x_Zs U (x_efs xMtl) Y0 s.heap Y H locs → Y this = some 0 → Y hd = some 2 → Y dr = some 2 → Y tx = some 4 → x_sl D 11 0 this H = some (.ref hd) → x_sl D 11 1 this H = some (.ref dr) → x_sl D 11 3 this H = some (.ref tx) → lv_has ls xMtl.2.2.1 [(3, .int item), (2, .int ref_), (1, .int items), (0, .ref this)] → (items.toInt = (k : Int)) → (k ≤ 240) → (∀ q, Y0 q = some 2 → q ≠ dr → x_sl D 2 12 q H = x_sl D 2 12 q s.heap) → (x_sl D 2 12 dr H = x_sl D 2 12 hd s.heap) → (241 - items.toInt).toNat < n → W p l e (x_rm xMtl) s m av.toArray below meth c H locs k (5 * k) (y_QQ below D x_G x_Zs U xMtl z_Ptl av Y0 s) (F0 m 37 ls []) := by
  have X := B.1
  have hx := X.1
  have hb := X.2.1
  have hY0 := B.2.2.2.2.1
  intro n
  induction n with
  | zero => intro _ _ _ _ _ _ _ _ _ _ _ _ _ _ _ _ _ _ _ _ _ h; exact absurd h (Nat.not_lt_zero _)
  | succ n ih =>
    intro H Y locs ls item ref_ items k  hI hY_this hY_hd hY_dr hY_tx hs_hd hs_dr hs_tx hl hk hk2 h12 hv12 hn
    refine lv_iload_n hx hb tj_d37 rfl (lv_at hl 0 rfl) ?_
    have ec0 : (0 : Int32).toInt = 0 := by decide
    refine lv_if_lt hx hb tj_d38 (tgt := 87) (by decide) (fun q38 => ?_) (fun q38 => ?_)
    · have q38_ : item.toInt < (0 : Int32).toInt := x_lt32.mp q38
      refine lv_iload_n hx hb tj_d87 rfl (lv_at hl 0 rfl) ?_
      refine lv_iconst hx hb tj_d88 (v := (-1)) (by decide) ?_
      have ecm1 : ((-1) : Int32).toInt = (-1) := by decide
      refine lv_icmp_eq hx hb tj_d89 (tgt := 94) (by decide) (fun q89 => ?_) (fun q89 => ?_)
      · have q89_ : item.toInt = ((-1) : Int32).toInt := by rw [q89]
        refine lv_iload_n hx hb tj_d94 rfl (lv_at hl 1 rfl) ?_
        refine lv_iconst hx hb tj_d95 (v := (-1)) (by decide) ?_
        refine lv_icmp_eq hx hb tj_d96 (tgt := 105) (by decide) (fun q96 => ?_) (fun q96 => ?_)
        · have q96_ : ref_.toInt = ((-1) : Int32).toInt := by rw [q96]
          refine lv_aload_n hx hb tj_d105 rfl (lv_at hl 3 rfl) ?_
          refine y_getf X (fl8 X.2.2.2.2.1) hI.1 hY_this rfl hs_hd tj_d106 ?_
          refine lv_astore hx hb tj_d109 hl (by decide) (lv' := [(4, .ref hd), (3, .int item), (2, .int ref_), (1, .int items), (0, .ref this)]) rfl fun ls hl => ?_
          refine lv_aload_n hx hb tj_d111 rfl (lv_at hl 4 rfl) ?_
          refine lv_aload_n hx hb tj_d112 rfl (lv_at hl 4 rfl) ?_
          refine y_getf X (fl_tj_256 X.2.2.2.2.1) hI.1 hY_this rfl hs_dr tj_d113 ?_
          refine y_putf X (fw_tj_257 X.2.2.2.2.1) hY0 hI hY_this rfl rfl (y_crefA hY_dr rfl) (by decide +kernel) tj_d116 fun H sl hI ho hs hk => ?_
          replace hs_dr := hk _ _ (by decide +kernel) (by decide) hs_dr
          replace hs_tx := hk _ _ (by decide +kernel) (by decide) hs_tx
          replace h12 := fun (q : Nat) (hq : Y0 q = some 2) (hnq : q ≠ dr) => Eq.trans (y_slk rfl (ho q (y_ne (y_mon B hI _ _ hq) hY_this rfl))) (h12 q hq hnq)
          replace hv12 := Eq.trans (y_slk rfl (ho _ (y_ne hY_dr hY_this rfl))) hv12
          replace hs := hs
          replace hs_hd := hs
          refine lv_aload_n hx hb tj_d119 rfl (lv_at hl 4 rfl) ?_
          refine lv_aload hx hb tj_d120 (lv_at hl 0 rfl) ?_
          refine y_putf X (fw_tj_258 X.2.2.2.2.1) hY0 hI hY_this rfl rfl (y_crefA hY_hd rfl) (by decide +kernel) tj_d122 fun H sl hI ho hs hk => ?_
          replace hs_hd := hk _ _ (by decide +kernel) (by decide) hs_hd
          replace hs_tx := hk _ _ (by decide +kernel) (by decide) hs_tx
          replace h12 := fun (q : Nat) (hq : Y0 q = some 2) (hnq : q ≠ dr) => Eq.trans (y_slk rfl (ho q (y_ne (y_mon B hI _ _ hq) hY_this rfl))) (h12 q hq hnq)
          replace hv12 := Eq.trans (y_slk rfl (ho _ (y_ne hY_dr hY_this rfl))) hv12
          replace hs := hs
          replace hs_dr := hs
          refine lv_iload_n hx hb tj_d125 rfl (lv_at hl 3 rfl) ?_
          subst hav
          exact y_ireturn B hI rfl rfl rfl List.mem_cons_self ⟨_, rfl, ⟨_, rfl, x_i32 _⟩⟩ (x_cs.mono B.2.2.2.2.2 (y_mon B hI)) (fun t' d' r' h1 h2 h3 => by cases h1; cases h2.symm.trans hs00; cases h3.symm.trans hs01; exact ⟨Or.inr ⟨hs_hd, hs_dr⟩, hv12, h12⟩) (by show k ≤ 240; omega) (by show 5 * k ≤ 1200; omega) tj_d126
        · have q96_ : ¬ ref_.toInt = ((-1) : Int32).toInt := fun q => q96 (Int32.toInt_inj.mp q)
          refine lv_sipush hx hb tj_d99 (v := (-1000)) (by decide) ?_
          have ecm1000 : ((-1000) : Int32).toInt = (-1000) := by decide
          refine lv_iload_n hx hb tj_d102 rfl (lv_at hl 1 rfl) ?_
          refine lv_isub hx hb tj_d103 ?_
          generalize hg_z103 : ((-1000) : Int32) - ref_ = z103
          subst hav
          exact y_ireturn B hI rfl rfl rfl List.mem_cons_self ⟨_, rfl, ⟨_, rfl, x_i32 _⟩⟩ (x_cs.mono B.2.2.2.2.2 (y_mon B hI)) (fun t' d' r' h1 h2 h3 => by cases h1; cases h2.symm.trans hs00; cases h3.symm.trans hs01; exact ⟨Or.inl ⟨hs_hd, hs_dr⟩, hv12, h12⟩) (by show k ≤ 240; omega) (by show 5 * k ≤ 1200; omega) tj_d104
      · have q89_ : ¬ item.toInt = ((-1) : Int32).toInt := fun q => q89 (Int32.toInt_inj.mp q)
        refine lv_iload_n hx hb tj_d92 rfl (lv_at hl 0 rfl) ?_
        subst hav
        exact y_ireturn B hI rfl rfl rfl List.mem_cons_self ⟨_, rfl, ⟨_, rfl, x_i32 _⟩⟩ (x_cs.mono B.2.2.2.2.2 (y_mon B hI)) (fun t' d' r' h1 h2 h3 => by cases h1; cases h2.symm.trans hs00; cases h3.symm.trans hs01; exact ⟨Or.inl ⟨hs_hd, hs_dr⟩, hv12, h12⟩) (by show k ≤ 240; omega) (by show 5 * k ≤ 1200; omega) tj_d93
    · have q38_ : (0 : Int32).toInt ≤ item.toInt := Int.not_lt.mp fun q => q38 (x_lt32.mpr q)
      refine lv_iload_n hx hb tj_d41 rfl (lv_at hl 2 rfl) ?_
      refine lv_sipush hx hb tj_d42 (v := 240) (by decide) ?_
      have ec240 : (240 : Int32).toInt = 240 := by decide
      refine lv_icmp_ge hx hb tj_d45 (tgt := 87) (by decide) (fun q45 => ?_) (fun q45 => ?_)
      · have q45_ : (240 : Int32).toInt ≤ items.toInt := x_le32.mp q45
        refine lv_iload_n hx hb tj_d87 rfl (lv_at hl 0 rfl) ?_
        refine lv_iconst hx hb tj_d88 (v := (-1)) (by decide) ?_
        have ecm1 : ((-1) : Int32).toInt = (-1) := by decide
        refine lv_icmp_eq hx hb tj_d89 (tgt := 94) (by decide) (fun q89 => ?_) (fun q89 => ?_)
        · have q89_ : item.toInt = ((-1) : Int32).toInt := by rw [q89]
          refine lv_iload_n hx hb tj_d94 rfl (lv_at hl 1 rfl) ?_
          refine lv_iconst hx hb tj_d95 (v := (-1)) (by decide) ?_
          refine lv_icmp_eq hx hb tj_d96 (tgt := 105) (by decide) (fun q96 => ?_) (fun q96 => ?_)
          · have q96_ : ref_.toInt = ((-1) : Int32).toInt := by rw [q96]
            refine lv_aload_n hx hb tj_d105 rfl (lv_at hl 3 rfl) ?_
            refine y_getf X (fl8 X.2.2.2.2.1) hI.1 hY_this rfl hs_hd tj_d106 ?_
            refine lv_astore hx hb tj_d109 hl (by decide) (lv' := [(4, .ref hd), (3, .int item), (2, .int ref_), (1, .int items), (0, .ref this)]) rfl fun ls hl => ?_
            refine lv_aload_n hx hb tj_d111 rfl (lv_at hl 4 rfl) ?_
            refine lv_aload_n hx hb tj_d112 rfl (lv_at hl 4 rfl) ?_
            refine y_getf X (fl_tj_256 X.2.2.2.2.1) hI.1 hY_this rfl hs_dr tj_d113 ?_
            refine y_putf X (fw_tj_257 X.2.2.2.2.1) hY0 hI hY_this rfl rfl (y_crefA hY_dr rfl) (by decide +kernel) tj_d116 fun H sl hI ho hs hk => ?_
            replace hs_dr := hk _ _ (by decide +kernel) (by decide) hs_dr
            replace hs_tx := hk _ _ (by decide +kernel) (by decide) hs_tx
            replace h12 := fun (q : Nat) (hq : Y0 q = some 2) (hnq : q ≠ dr) => Eq.trans (y_slk rfl (ho q (y_ne (y_mon B hI _ _ hq) hY_this rfl))) (h12 q hq hnq)
            replace hv12 := Eq.trans (y_slk rfl (ho _ (y_ne hY_dr hY_this rfl))) hv12
            replace hs := hs
            replace hs_hd := hs
            refine lv_aload_n hx hb tj_d119 rfl (lv_at hl 4 rfl) ?_
            refine lv_aload hx hb tj_d120 (lv_at hl 0 rfl) ?_
            refine y_putf X (fw_tj_258 X.2.2.2.2.1) hY0 hI hY_this rfl rfl (y_crefA hY_hd rfl) (by decide +kernel) tj_d122 fun H sl hI ho hs hk => ?_
            replace hs_hd := hk _ _ (by decide +kernel) (by decide) hs_hd
            replace hs_tx := hk _ _ (by decide +kernel) (by decide) hs_tx
            replace h12 := fun (q : Nat) (hq : Y0 q = some 2) (hnq : q ≠ dr) => Eq.trans (y_slk rfl (ho q (y_ne (y_mon B hI _ _ hq) hY_this rfl))) (h12 q hq hnq)
            replace hv12 := Eq.trans (y_slk rfl (ho _ (y_ne hY_dr hY_this rfl))) hv12
            replace hs := hs
            replace hs_dr := hs
            refine lv_iload_n hx hb tj_d125 rfl (lv_at hl 3 rfl) ?_
            subst hav
            exact y_ireturn B hI rfl rfl rfl List.mem_cons_self ⟨_, rfl, ⟨_, rfl, x_i32 _⟩⟩ (x_cs.mono B.2.2.2.2.2 (y_mon B hI)) (fun t' d' r' h1 h2 h3 => by cases h1; cases h2.symm.trans hs00; cases h3.symm.trans hs01; exact ⟨Or.inr ⟨hs_hd, hs_dr⟩, hv12, h12⟩) (by show k ≤ 240; omega) (by show 5 * k ≤ 1200; omega) tj_d126
          · have q96_ : ¬ ref_.toInt = ((-1) : Int32).toInt := fun q => q96 (Int32.toInt_inj.mp q)
            refine lv_sipush hx hb tj_d99 (v := (-1000)) (by decide) ?_
            have ecm1000 : ((-1000) : Int32).toInt = (-1000) := by decide
            refine lv_iload_n hx hb tj_d102 rfl (lv_at hl 1 rfl) ?_
            refine lv_isub hx hb tj_d103 ?_
            generalize hg_z103 : ((-1000) : Int32) - ref_ = z103
            subst hav
            exact y_ireturn B hI rfl rfl rfl List.mem_cons_self ⟨_, rfl, ⟨_, rfl, x_i32 _⟩⟩ (x_cs.mono B.2.2.2.2.2 (y_mon B hI)) (fun t' d' r' h1 h2 h3 => by cases h1; cases h2.symm.trans hs00; cases h3.symm.trans hs01; exact ⟨Or.inl ⟨hs_hd, hs_dr⟩, hv12, h12⟩) (by show k ≤ 240; omega) (by show 5 * k ≤ 1200; omega) tj_d104
        · have q89_ : ¬ item.toInt = ((-1) : Int32).toInt := fun q => q89 (Int32.toInt_inj.mp q)
          refine lv_iload_n hx hb tj_d92 rfl (lv_at hl 0 rfl) ?_
          subst hav
          exact y_ireturn B hI rfl rfl rfl List.mem_cons_self ⟨_, rfl, ⟨_, rfl, x_i32 _⟩⟩ (x_cs.mono B.2.2.2.2.2 (y_mon B hI)) (fun t' d' r' h1 h2 h3 => by cases h1; cases h2.symm.trans hs00; cases h3.symm.trans hs01; exact ⟨Or.inl ⟨hs_hd, hs_dr⟩, hv12, h12⟩) (by show k ≤ 240; omega) (by show 5 * k ≤ 1200; omega) tj_d93
      · have q45_ : items.toInt < (240 : Int32).toInt := Int.not_le.mp fun q => q45 (x_le32.mpr q)
        refine lv_iload_n hx hb tj_d48 rfl (lv_at hl 1 rfl) ?_
        refine lv_iconst hx hb tj_d49 (v := (-1)) (by decide) ?_
        have ecm1 : ((-1) : Int32).toInt = (-1) := by decide
        refine lv_icmp_ne hx hb tj_d50 (tgt := 73) (by decide) (fun q50 => ?_) (fun q50 => ?_)
        · have q50_ : ¬ ref_.toInt = ((-1) : Int32).toInt := fun q => q50 (Int32.toInt_inj.mp q)
          obtain ⟨z73, hg_z73⟩ : ∃ z73 : Int32, items + Int32.ofInt 1 = z73 := ⟨_, rfl⟩
          have h_z73 : z73.toInt = items.toInt + 1 := by rw [← hg_z73]; exact y_inc (by decide) (by omega) (by omega)
          refine lv_iinc hx hb tj_d73 hl (k := 2) rfl hg_z73 (by decide) (lv' := [(1, .int z73), (3, .int item), (2, .int ref_), (0, .ref this)]) rfl fun ls hl => ?_
          refine lv_aload_n hx hb tj_d76 rfl (lv_at hl 3 rfl) ?_
          refine y_getf X (fl120 X.2.2.2.2.1) hI.1 hY_this rfl hs_tx tj_d77 ?_
          refine y_call (z := (0, 158, 1, some 4, xMni)) (av := [.ref tx]) (rest := []) (y_cokV (n := 0) (ci := 7) X ym_nextItem rfl rfl rfl (x_cons (x_at 638 (by decide +kernel) rfl) (x_cons (x_at 639 (by decide +kernel) rfl) (x_cons (x_at 640 (by decide +kernel) rfl) (x_cons (x_at 69 (by decide +kernel) rfl) x_nilm)))) (x_at 641 (by decide +kernel) rfl) (by decide +kernel) ⟨Nat.le_of_ble_eq_true rfl, Nat.le_of_ble_eq_true rfl⟩) hY0 hI rfl tj_d80 hl.1 (Nat.le_of_ble_eq_true rfl) (by show k + _ ≤ 240; first | exact Nat.le_of_lt_succ (by show k + 0 < 241; omega) | (show k + 1 ≤ 240; omega) | (show k + 1 + 0 ≤ 240; omega)) (by show 5 * k + _ ≤ 1200; first | (show 5 * k + 0 ≤ 1200; omega) | (show 5 * k + 5 ≤ 1200; omega) | (show 5 * k + 5 + 0 ≤ 1200; omega)) (y_cons (y_cref hY_tx rfl) y_nil) rfl (y_recv rfl hY_tx) trivial (y_sub_ef rfl) fun v Yn o Hn L ho hr ha hIn hx_ hE hP => ?_
          replace hs_hd := y_Efld hE hY_this rfl (by decide) (by decide) hs_hd
          replace hs_dr := y_Efld hE hY_this rfl (by decide) (by decide) hs_dr
          replace hs_tx := y_Efld hE hY_this rfl (by decide) (by decide) hs_tx
          replace h12 := fun (q : Nat) (hq : Y0 q = some 2) (hnq : q ≠ dr) => Eq.trans (y_Efld hE (y_mon B hI _ _ hq) rfl (by decide) (by decide) rfl) (h12 q hq hnq)
          replace hv12 := Eq.trans (y_Efld hE hY_dr rfl (by decide) (by decide) rfl) hv12
          replace hY_this := y_ext hx_ hI.1 hY_this
          replace hY_hd := y_ext hx_ hI.1 hY_hd
          replace hY_dr := y_ext hx_ hI.1 hY_dr
          replace hY_tx := y_ext hx_ hI.1 hY_tx
          obtain ⟨r80, rfl, h_r80⟩ := y_ansI (lo := (-2147483648)) (hi := 2147483647) (by decide) ho hr
          clear ho hr ha hE hP hI hx_
          rename x_I _ _ _ _ _ _ _ _ _ _ => hI
          refine lv_istore_n hx hb tj_d83 rfl hl (by decide) (lv' := [(3, .int r80), (1, .int z73), (2, .int ref_), (0, .ref this)]) rfl fun ls hl => ?_
          refine lv_goto hx hb tj_d84 (tgt := 37) (by decide) ?_
          refine W.widen (k := k + 1) (n := 5 * (k + 1)) (by first | (show k + 0 ≤ k + 1; omega) | (show k + 1 + 0 ≤ k + 1; omega)) (by first | (show 5 * k + 0 ≤ 5 * (k + 1); omega) | (show 5 * k + 5 + 0 ≤ 5 * (k + 1); omega)) ?_
          exact ih _ _ _ _ _ _ _ _ hI hY_this hY_hd hY_dr hY_tx hs_hd hs_dr hs_tx (lv_sub hl [0, 2, 1, 3] rfl) (by first | assumption | omega) (by first | assumption | omega) h12 hv12 (by omega)
        · have q50_ : ref_.toInt = ((-1) : Int32).toInt := by rw [q50]
          refine lv_aload_n hx hb tj_d53 rfl (lv_at hl 3 rfl) ?_
          refine y_getf X (fl_tj_256 X.2.2.2.2.1) hI.1 hY_this rfl hs_dr tj_d54 ?_
          refine lv_iload_n hx hb tj_d57 rfl (lv_at hl 0 rfl) ?_
          refine lv_aload_n hx hb tj_d58 rfl (lv_at hl 3 rfl) ?_
          refine y_getf X (fl120 X.2.2.2.2.1) hI.1 hY_this rfl hs_tx tj_d59 ?_
          obtain ⟨tx_numbers, hs_tx_numbers, hY_tx_numbers⟩ := y_fldR (k := 1) hI.1 hY_tx rfl rfl
          refine y_getf X (fl_tj_259 X.2.2.2.2.1) hI.1 hY_tx rfl hs_tx_numbers tj_d62 ?_
          refine y_call (z := (0, 165, 3, some 2, xM66)) (av := [.ref dr, .int item, .ref tx_numbers]) (rest := []) (y_cok.of (x_cokV (n := 2) (ci := 2) X xm66 rfl rfl rfl (x_cons (x_at 726 (by decide +kernel) rfl) (x_cons (x_at 727 (by decide +kernel) rfl) (x_cons (x_at 728 (by decide +kernel) rfl) (x_cons (x_at 66 (by decide +kernel) rfl) x_nilm)))) (x_at 729 (by decide +kernel) rfl) (by decide +kernel) ⟨Nat.le_of_ble_eq_true rfl, Nat.le_of_ble_eq_true rfl⟩)) hY0 hI rfl tj_d65 hl.1 (Nat.le_of_ble_eq_true rfl) (by show k + _ ≤ 240; first | exact Nat.le_of_lt_succ (by show k + 0 < 241; omega) | (show k + 1 ≤ 240; omega) | (show k + 1 + 0 ≤ 240; omega)) (by show 5 * k + _ ≤ 1200; first | (show 5 * k + 0 ≤ 1200; omega) | (show 5 * k + 5 ≤ 1200; omega) | (show 5 * k + 5 + 0 ≤ 1200; omega)) (y_cons (y_cref hY_dr rfl) (y_cons ⟨_, rfl, x_i32 _⟩ (y_cons (y_cref hY_tx_numbers rfl) y_nil))) rfl (y_recv rfl hY_dr) trivial (y_sub_ef rfl) fun v Yn o Hn L ho hr ha hIn hx_ hE hP => ?_
          replace hs_hd := y_Efld hE hY_this rfl (by decide) (by decide) hs_hd
          replace hs_dr := y_Efld hE hY_this rfl (by decide) (by decide) hs_dr
          replace hs_tx := y_Efld hE hY_this rfl (by decide) (by decide) hs_tx
          replace hs_tx_numbers := y_Efld hE hY_tx rfl (by decide) (by decide) hs_tx_numbers
          replace h12 := fun (q : Nat) (hq : Y0 q = some 2) (hnq : q ≠ dr) => Eq.trans (y_Efld hE (y_mon B hI _ _ hq) rfl (by decide) (by decide) rfl) (h12 q hq hnq)
          replace hv12 := Eq.trans (y_Efld hE hY_dr rfl (by decide) (by decide) rfl) hv12
          replace hY_this := y_ext hx_ hI.1 hY_this
          replace hY_hd := y_ext hx_ hI.1 hY_hd
          replace hY_dr := y_ext hx_ hI.1 hY_dr
          replace hY_tx := y_ext hx_ hI.1 hY_tx
          replace hY_tx_numbers := y_ext hx_ hI.1 hY_tx_numbers
          obtain ⟨r65, rfl, h_r65⟩ := y_ansI (lo := (-2147483648)) (hi := 2147483647) (by decide) ho hr
          clear ho hr ha hE hP hI hx_
          rename x_I _ _ _ _ _ _ _ _ _ _ => hI
          refine lv_if_ge hx hb tj_d68 (tgt := 73) (by decide) (fun q68 => ?_) (fun q68 => ?_)
          · have q68_ : (0 : Int32).toInt ≤ r65.toInt := x_le32.mp q68
            obtain ⟨z73, hg_z73⟩ : ∃ z73 : Int32, items + Int32.ofInt 1 = z73 := ⟨_, rfl⟩
            have h_z73 : z73.toInt = items.toInt + 1 := by rw [← hg_z73]; exact y_inc (by decide) (by omega) (by omega)
            refine lv_iinc hx hb tj_d73 hl (k := 2) rfl hg_z73 (by decide) (lv' := [(1, .int z73), (3, .int item), (2, .int ref_), (0, .ref this)]) rfl fun ls hl => ?_
            refine lv_aload_n hx hb tj_d76 rfl (lv_at hl 3 rfl) ?_
            refine y_getf X (fl120 X.2.2.2.2.1) hI.1 hY_this rfl hs_tx tj_d77 ?_
            refine y_call (z := (0, 158, 1, some 4, xMni)) (av := [.ref tx]) (rest := []) (y_cokV (n := 0) (ci := 7) X ym_nextItem rfl rfl rfl (x_cons (x_at 638 (by decide +kernel) rfl) (x_cons (x_at 639 (by decide +kernel) rfl) (x_cons (x_at 640 (by decide +kernel) rfl) (x_cons (x_at 69 (by decide +kernel) rfl) x_nilm)))) (x_at 641 (by decide +kernel) rfl) (by decide +kernel) ⟨Nat.le_of_ble_eq_true rfl, Nat.le_of_ble_eq_true rfl⟩) hY0 hI rfl tj_d80 hl.1 (Nat.le_of_ble_eq_true rfl) (by show k + _ ≤ 240; first | exact Nat.le_of_lt_succ (by show k + 0 < 241; omega) | (show k + 1 ≤ 240; omega) | (show k + 1 + 0 ≤ 240; omega)) (by show 5 * k + _ ≤ 1200; first | (show 5 * k + 0 ≤ 1200; omega) | (show 5 * k + 5 ≤ 1200; omega) | (show 5 * k + 5 + 0 ≤ 1200; omega)) (y_cons (y_cref hY_tx rfl) y_nil) rfl (y_recv rfl hY_tx) trivial (y_sub_ef rfl) fun v Yn o Hn L ho hr ha hIn hx_ hE hP => ?_
            replace hs_hd := y_Efld hE hY_this rfl (by decide) (by decide) hs_hd
            replace hs_dr := y_Efld hE hY_this rfl (by decide) (by decide) hs_dr
            replace hs_tx := y_Efld hE hY_this rfl (by decide) (by decide) hs_tx
            replace hs_tx_numbers := y_Efld hE hY_tx rfl (by decide) (by decide) hs_tx_numbers
            replace h12 := fun (q : Nat) (hq : Y0 q = some 2) (hnq : q ≠ dr) => Eq.trans (y_Efld hE (y_mon B hI _ _ hq) rfl (by decide) (by decide) rfl) (h12 q hq hnq)
            replace hv12 := Eq.trans (y_Efld hE hY_dr rfl (by decide) (by decide) rfl) hv12
            replace hY_this := y_ext hx_ hI.1 hY_this
            replace hY_hd := y_ext hx_ hI.1 hY_hd
            replace hY_dr := y_ext hx_ hI.1 hY_dr
            replace hY_tx := y_ext hx_ hI.1 hY_tx
            replace hY_tx_numbers := y_ext hx_ hI.1 hY_tx_numbers
            obtain ⟨r80, rfl, h_r80⟩ := y_ansI (lo := (-2147483648)) (hi := 2147483647) (by decide) ho hr
            clear ho hr ha hE hP hI hx_
            rename x_I _ _ _ _ _ _ _ _ _ _ => hI
            refine lv_istore_n hx hb tj_d83 rfl hl (by decide) (lv' := [(3, .int r80), (1, .int z73), (2, .int ref_), (0, .ref this)]) rfl fun ls hl => ?_
            refine lv_goto hx hb tj_d84 (tgt := 37) (by decide) ?_
            refine W.widen (k := k + 1) (n := 5 * (k + 1)) (by first | (show k + 0 ≤ k + 1; omega) | (show k + 1 + 0 ≤ k + 1; omega)) (by first | (show 5 * k + 0 ≤ 5 * (k + 1); omega) | (show 5 * k + 5 + 0 ≤ 5 * (k + 1); omega)) ?_
            exact ih _ _ _ _ _ _ _ _ hI hY_this hY_hd hY_dr hY_tx hs_hd hs_dr hs_tx (lv_sub hl [0, 2, 1, 3] rfl) (by first | assumption | omega) (by first | assumption | omega) h12 hv12 (by omega)
          · have q68_ : r65.toInt < (0 : Int32).toInt := Int.not_le.mp fun q => q68 (x_le32.mpr q)
            refine lv_iload_n hx hb tj_d71 rfl (lv_at hl 2 rfl) ?_
            refine lv_istore_n hx hb tj_d72 rfl hl (by decide) (lv' := [(2, .int items), (3, .int item), (1, .int items), (0, .ref this)]) rfl fun ls hl => ?_
            obtain ⟨z73, hg_z73⟩ : ∃ z73 : Int32, items + Int32.ofInt 1 = z73 := ⟨_, rfl⟩
            have h_z73 : z73.toInt = items.toInt + 1 := by rw [← hg_z73]; exact y_inc (by decide) (by omega) (by omega)
            refine lv_iinc hx hb tj_d73 hl (k := 2) rfl hg_z73 (by decide) (lv' := [(1, .int z73), (2, .int items), (3, .int item), (0, .ref this)]) rfl fun ls hl => ?_
            refine lv_aload_n hx hb tj_d76 rfl (lv_at hl 3 rfl) ?_
            refine y_getf X (fl120 X.2.2.2.2.1) hI.1 hY_this rfl hs_tx tj_d77 ?_
            refine y_call (z := (0, 158, 1, some 4, xMni)) (av := [.ref tx]) (rest := []) (y_cokV (n := 0) (ci := 7) X ym_nextItem rfl rfl rfl (x_cons (x_at 638 (by decide +kernel) rfl) (x_cons (x_at 639 (by decide +kernel) rfl) (x_cons (x_at 640 (by decide +kernel) rfl) (x_cons (x_at 69 (by decide +kernel) rfl) x_nilm)))) (x_at 641 (by decide +kernel) rfl) (by decide +kernel) ⟨Nat.le_of_ble_eq_true rfl, Nat.le_of_ble_eq_true rfl⟩) hY0 hI rfl tj_d80 hl.1 (Nat.le_of_ble_eq_true rfl) (by show k + _ ≤ 240; first | exact Nat.le_of_lt_succ (by show k + 0 < 241; omega) | (show k + 1 ≤ 240; omega) | (show k + 1 + 0 ≤ 240; omega)) (by show 5 * k + _ ≤ 1200; first | (show 5 * k + 0 ≤ 1200; omega) | (show 5 * k + 5 ≤ 1200; omega) | (show 5 * k + 5 + 0 ≤ 1200; omega)) (y_cons (y_cref hY_tx rfl) y_nil) rfl (y_recv rfl hY_tx) trivial (y_sub_ef rfl) fun v Yn o Hn L ho hr ha hIn hx_ hE hP => ?_
            replace hs_hd := y_Efld hE hY_this rfl (by decide) (by decide) hs_hd
            replace hs_dr := y_Efld hE hY_this rfl (by decide) (by decide) hs_dr
            replace hs_tx := y_Efld hE hY_this rfl (by decide) (by decide) hs_tx
            replace hs_tx_numbers := y_Efld hE hY_tx rfl (by decide) (by decide) hs_tx_numbers
            replace h12 := fun (q : Nat) (hq : Y0 q = some 2) (hnq : q ≠ dr) => Eq.trans (y_Efld hE (y_mon B hI _ _ hq) rfl (by decide) (by decide) rfl) (h12 q hq hnq)
            replace hv12 := Eq.trans (y_Efld hE hY_dr rfl (by decide) (by decide) rfl) hv12
            replace hY_this := y_ext hx_ hI.1 hY_this
            replace hY_hd := y_ext hx_ hI.1 hY_hd
            replace hY_dr := y_ext hx_ hI.1 hY_dr
            replace hY_tx := y_ext hx_ hI.1 hY_tx
            replace hY_tx_numbers := y_ext hx_ hI.1 hY_tx_numbers
            obtain ⟨r80, rfl, h_r80⟩ := y_ansI (lo := (-2147483648)) (hi := 2147483647) (by decide) ho hr
            clear ho hr ha hE hP hI hx_
            rename x_I _ _ _ _ _ _ _ _ _ _ => hI
            refine lv_istore_n hx hb tj_d83 rfl hl (by decide) (lv' := [(3, .int r80), (1, .int z73), (2, .int items), (0, .ref this)]) rfl fun ls hl => ?_
            refine lv_goto hx hb tj_d84 (tgt := 37) (by decide) ?_
            refine W.widen (k := k + 1) (n := 5 * (k + 1)) (by first | (show k + 0 ≤ k + 1; omega) | (show k + 1 + 0 ≤ k + 1; omega)) (by first | (show 5 * k + 0 ≤ 5 * (k + 1); omega) | (show 5 * k + 5 + 0 ≤ 5 * (k + 1); omega)) ?_
            exact ih _ _ _ _ _ _ _ _ hI hY_this hY_hd hY_dr hY_tx hs_hd hs_dr hs_tx (lv_sub hl [0, 2, 1, 3] rfl) (by first | assumption | omega) (by first | assumption | omega) h12 hv12 (by omega)
theorem ym_twLand2 : y_Met vwCl x_G x_Zs x_Tb x_Nb xMtl y_T z_Ptl := by
  refine y_main (by decide +kernel) (by decide +kernel) x_Tb_good x_Nb_ok ?_
  intro p l e s m below meth c D U Y0 av ls B hI _ hl
  have X := B.1
  have hx := X.1
  have hb := X.2.1
  have hY0 := B.2.2.2.2.1
  obtain ⟨v0, rfl, hv0⟩ := x_one B.2.2.2.2.2
  obtain ⟨this, t0, rfl, ht0, hY_this⟩ := x_ref_at hv0 rfl
  obtain rfl := List.mem_singleton.mp ht0
  replace hl : lv_has ls xMtl.2.2.1 [(0, .ref this)] := hl
  obtain ⟨hd, hs_hd, hY_hd⟩ := y_fldR (k := 0) hI.1 hY_this rfl rfl
  obtain ⟨dr, hs_dr, hY_dr⟩ := y_fldR (k := 1) hI.1 hY_this rfl rfl
  obtain ⟨tx, hs_tx, hY_tx⟩ := y_fldR (k := 3) hI.1 hY_this rfl rfl
  have hs00 := hs_hd
  have hs01 := hs_dr
  have hYd0 := hY_hd
  have h12 : ∀ q, Y0 q = some 2 → x_sl D 2 12 q s.heap = x_sl D 2 12 q s.heap := fun _ _ => rfl
  refine lv_aload_n hx hb tj_d0 rfl (lv_at hl 0 rfl) ?_
  refine y_getf X (fl_tj_256 X.2.2.2.2.1) hI.1 hY_this rfl hs_dr tj_d1 ?_
  refine lv_aload_n hx hb tj_d4 rfl (lv_at hl 0 rfl) ?_
  refine y_getf X (fl8 X.2.2.2.2.1) hI.1 hY_this rfl hs_hd tj_d5 ?_
  refine y_call (z := (0, 148, 2, some 2, xM58)) (av := [.ref dr, .ref hd]) (rest := []) (y_cokV (n := 1) (ci := 2) X ym_copyFrom rfl rfl rfl (x_cons (x_at 623 (by decide +kernel) rfl) (x_cons (x_at 624 (by decide +kernel) rfl) (x_cons (x_at 625 (by decide +kernel) rfl) (x_cons (x_at 66 (by decide +kernel) rfl) x_nilm)))) (x_at 626 (by decide +kernel) rfl) (by decide +kernel) ⟨Nat.le_of_ble_eq_true rfl, Nat.le_of_ble_eq_true rfl⟩) hY0 hI rfl tj_d8 hl.1 (Nat.le_of_ble_eq_true rfl) (Nat.le_of_ble_eq_true rfl) (Nat.le_of_ble_eq_true rfl) (y_cons (y_cref hY_dr rfl) (y_cons (y_cref hY_hd rfl) y_nil)) rfl (y_recv rfl hY_dr) trivial (y_sub_ef rfl) fun v Yn o Hn L ho hr ha hIn hx_ hE hP => ?_
  have hPc := hP _ _ rfl
  replace hs_hd := y_Efld hE hY_this rfl (by decide) (by decide) hs_hd
  replace hs_dr := y_Efld hE hY_this rfl (by decide) (by decide) hs_dr
  replace hs_tx := y_Efld hE hY_this rfl (by decide) (by decide) hs_tx
  have hv12 := Eq.trans (hPc.1) (h12 hd hYd0)
  replace h12 := fun (q : Nat) (hq : Y0 q = some 2) (hnq : q ≠ dr) => Eq.trans (hPc.2 q (y_mon B hI _ _ hq) hnq) (h12 q hq)
  replace hY_this := y_ext hx_ hI.1 hY_this
  replace hY_hd := y_ext hx_ hI.1 hY_hd
  replace hY_dr := y_ext hx_ hI.1 hY_dr
  replace hY_tx := y_ext hx_ hI.1 hY_tx
  obtain rfl := y_ansV rfl ho hr
  clear ho hr ha hE hP hI hx_
  rename x_I _ _ _ _ _ _ _ _ _ _ => hI
  refine lv_aload_n hx hb tj_d11 rfl (lv_at hl 0 rfl) ?_
  refine y_getf X (fl_tj_256 X.2.2.2.2.1) hI.1 hY_this rfl hs_dr tj_d12 ?_
  refine y_call (z := (0, 152, 1, some 2, xM59)) (av := [.ref dr]) (rest := []) (y_cok.of (x_cokV (n := 0) (ci := 2) X xm59 rfl rfl rfl (x_cons (x_at 630 (by decide +kernel) rfl) (x_cons (x_at 631 (by decide +kernel) rfl) (x_cons (x_at 632 (by decide +kernel) rfl) (x_cons (x_at 66 (by decide +kernel) rfl) x_nilm)))) (x_at 633 (by decide +kernel) rfl) (by decide +kernel) ⟨Nat.le_of_ble_eq_true rfl, Nat.le_of_ble_eq_true rfl⟩)) hY0 hI rfl tj_d15 hl.1 (Nat.le_of_ble_eq_true rfl) (Nat.le_of_ble_eq_true rfl) (Nat.le_of_ble_eq_true rfl) (y_cons (y_cref hY_dr rfl) y_nil) rfl (y_recv rfl hY_dr) trivial (y_sub_ef rfl) fun v Yn o Hn L ho hr ha hIn hx_ hE hP => ?_
  replace hs_hd := y_Efld hE hY_this rfl (by decide) (by decide) hs_hd
  replace hs_dr := y_Efld hE hY_this rfl (by decide) (by decide) hs_dr
  replace hs_tx := y_Efld hE hY_this rfl (by decide) (by decide) hs_tx
  replace h12 := fun (q : Nat) (hq : Y0 q = some 2) (hnq : q ≠ dr) => Eq.trans (y_Efld hE (y_mon B hI _ _ hq) rfl (by decide) (by decide) rfl) (h12 q hq hnq)
  replace hv12 := Eq.trans (y_Efld hE hY_dr rfl (by decide) (by decide) rfl) hv12
  replace hY_this := y_ext hx_ hI.1 hY_this
  replace hY_hd := y_ext hx_ hI.1 hY_hd
  replace hY_dr := y_ext hx_ hI.1 hY_dr
  replace hY_tx := y_ext hx_ hI.1 hY_tx
  obtain rfl := y_ansV rfl ho hr
  clear ho hr ha hE hP hI hx_
  rename x_I _ _ _ _ _ _ _ _ _ _ => hI
  refine lv_aload_n hx hb tj_d18 rfl (lv_at hl 0 rfl) ?_
  refine y_getf X (fl120 X.2.2.2.2.1) hI.1 hY_this rfl hs_tx tj_d19 ?_
  refine y_call (z := (0, 155, 1, some 4, xM60)) (av := [.ref tx]) (rest := []) (y_cok.of (x_cokV (n := 0) (ci := 7) X xm60 rfl rfl rfl (x_cons (x_at 634 (by decide +kernel) rfl) (x_cons (x_at 635 (by decide +kernel) rfl) (x_cons (x_at 636 (by decide +kernel) rfl) (x_cons (x_at 69 (by decide +kernel) rfl) x_nilm)))) (x_at 637 (by decide +kernel) rfl) (by decide +kernel) ⟨Nat.le_of_ble_eq_true rfl, Nat.le_of_ble_eq_true rfl⟩)) hY0 hI rfl tj_d22 hl.1 (Nat.le_of_ble_eq_true rfl) (Nat.le_of_ble_eq_true rfl) (Nat.le_of_ble_eq_true rfl) (y_cons (y_cref hY_tx rfl) y_nil) rfl (y_recv rfl hY_tx) trivial (y_sub_ef rfl) fun v Yn o Hn L ho hr ha hIn hx_ hE hP => ?_
  replace hs_hd := y_Efld hE hY_this rfl (by decide) (by decide) hs_hd
  replace hs_dr := y_Efld hE hY_this rfl (by decide) (by decide) hs_dr
  replace hs_tx := y_Efld hE hY_this rfl (by decide) (by decide) hs_tx
  replace h12 := fun (q : Nat) (hq : Y0 q = some 2) (hnq : q ≠ dr) => Eq.trans (y_Efld hE (y_mon B hI _ _ hq) rfl (by decide) (by decide) rfl) (h12 q hq hnq)
  replace hv12 := Eq.trans (y_Efld hE hY_dr rfl (by decide) (by decide) rfl) hv12
  replace hY_this := y_ext hx_ hI.1 hY_this
  replace hY_hd := y_ext hx_ hI.1 hY_hd
  replace hY_dr := y_ext hx_ hI.1 hY_dr
  replace hY_tx := y_ext hx_ hI.1 hY_tx
  obtain rfl := y_ansV rfl ho hr
  clear ho hr ha hE hP hI hx_
  rename x_I _ _ _ _ _ _ _ _ _ _ => hI
  refine lv_iconst hx hb tj_d25 (v := 0) (by decide) ?_
  have ec0 : (0 : Int32).toInt = 0 := by decide
  refine lv_istore_n hx hb tj_d26 rfl hl (by decide) (lv' := [(1, .int (0 : Int32)), (0, .ref this)]) rfl fun ls hl => ?_
  refine lv_iconst hx hb tj_d27 (v := (-1)) (by decide) ?_
  have ecm1 : ((-1) : Int32).toInt = (-1) := by decide
  refine lv_istore_n hx hb tj_d28 rfl hl (by decide) (lv' := [(2, .int ((-1) : Int32)), (1, .int (0 : Int32)), (0, .ref this)]) rfl fun ls hl => ?_
  refine lv_aload_n hx hb tj_d29 rfl (lv_at hl 2 rfl) ?_
  refine y_getf X (fl120 X.2.2.2.2.1) hI.1 hY_this rfl hs_tx tj_d30 ?_
  refine y_call (z := (0, 158, 1, some 4, xMni)) (av := [.ref tx]) (rest := []) (y_cokV (n := 0) (ci := 7) X ym_nextItem rfl rfl rfl (x_cons (x_at 638 (by decide +kernel) rfl) (x_cons (x_at 639 (by decide +kernel) rfl) (x_cons (x_at 640 (by decide +kernel) rfl) (x_cons (x_at 69 (by decide +kernel) rfl) x_nilm)))) (x_at 641 (by decide +kernel) rfl) (by decide +kernel) ⟨Nat.le_of_ble_eq_true rfl, Nat.le_of_ble_eq_true rfl⟩) hY0 hI rfl tj_d33 hl.1 (Nat.le_of_ble_eq_true rfl) (Nat.le_of_ble_eq_true rfl) (Nat.le_of_ble_eq_true rfl) (y_cons (y_cref hY_tx rfl) y_nil) rfl (y_recv rfl hY_tx) trivial (y_sub_ef rfl) fun v Yn o Hn L ho hr ha hIn hx_ hE hP => ?_
  replace hs_hd := y_Efld hE hY_this rfl (by decide) (by decide) hs_hd
  replace hs_dr := y_Efld hE hY_this rfl (by decide) (by decide) hs_dr
  replace hs_tx := y_Efld hE hY_this rfl (by decide) (by decide) hs_tx
  replace h12 := fun (q : Nat) (hq : Y0 q = some 2) (hnq : q ≠ dr) => Eq.trans (y_Efld hE (y_mon B hI _ _ hq) rfl (by decide) (by decide) rfl) (h12 q hq hnq)
  replace hv12 := Eq.trans (y_Efld hE hY_dr rfl (by decide) (by decide) rfl) hv12
  replace hY_this := y_ext hx_ hI.1 hY_this
  replace hY_hd := y_ext hx_ hI.1 hY_hd
  replace hY_dr := y_ext hx_ hI.1 hY_dr
  replace hY_tx := y_ext hx_ hI.1 hY_tx
  obtain ⟨r33, rfl, h_r33⟩ := y_ansI (lo := (-2147483648)) (hi := 2147483647) (by decide) ho hr
  clear ho hr ha hE hP hI hx_
  rename x_I _ _ _ _ _ _ _ _ _ _ => hI
  refine lv_istore_n hx hb tj_d36 rfl hl (by decide) (lv' := [(3, .int r33), (2, .int ((-1) : Int32)), (1, .int (0 : Int32)), (0, .ref this)]) rfl fun ls hl => ?_
  refine W.widen (k := 0) (n := 5 * 0) (Nat.le_of_ble_eq_true rfl) (Nat.le_of_ble_eq_true rfl) ?_
  exact tj_L37 B rfl hs00 hs01 242 _ _ _ _ _ _ _ _ hI hY_this hY_hd hY_dr hY_tx hs_hd hs_dr hs_tx (lv_sub hl [0, 1, 2, 3] rfl) (by first | assumption | omega) (by first | assumption | omega) h12 hv12 (by omega)
