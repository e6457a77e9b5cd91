theorem la_c0 {p : Program} {l : Launch} {e : Env} {s : State} {m : MethodId} {below : List Frame} {meth : Method} {c : Code} {D : va_G} {b L : Nat} {xs : Nat → Int32} (X : x_cx p s m #[Value.ref b] c D s xMlaw.2.1 xMlaw.2.2.1 vwCl x_Tb x_Nb "TwinFiresLaw") (hrt : meth.sig.returnType = ret) (hlk : meth.locks = false) (hX : va_X b L xs s s.heap) (hbl : b < s.heap.size) (hL : L ≤ 3072) {x mo : Nat} {i : Int32} {j : Nat} (hi : i.toInt = 6 * (j : Int)) (hj : 6 * j + 6 ≤ L)
    (out : ∀ (H : Heap) (Y : xY) (locs : List Loc) (ls : Array Slot) (fv : Nat → Int32) (Kv : Nat → Option (Nat → Int32)) (tv : Nat → Int32) (nv : Int32), x_I D x_G x_Zs s (x_efs xMlaw) z_Y0 s.heap Y H locs → Y x = some 0 → Y mo = some 17 → z_RC D Y H x fv Kv tv nv → z_RM D Y H mo fv Kv tv nv → m_inv2 fv Kv → lv_has ls 4 [(3, .int i), (0, .ref b), (1, .ref x), (2, .ref mo)] → W p l e room_1 s m #[Value.ref b] below meth c H locs (66 + 240 * (j + 1)) (67411 + 1200 * (j + 1)) (lw_Z below #[Value.ref b] s) (F0 m 1501 ls [])) :
    ∀ (H : Heap) (Y : xY) (locs : List Loc) (ls : Array Slot) (fv : Nat → Int32) (Kv : Nat → Option (Nat → Int32)) (tv : Nat → Int32) (nv : Int32), x_I D x_G x_Zs s (x_efs xMlaw) z_Y0 s.heap Y H locs → Y x = some 0 → Y mo = some 17 → z_RC D Y H x fv Kv tv nv → z_RM D Y H mo fv Kv tv nv → m_inv2 fv Kv → lv_has ls 4 [(3, .int i), (0, .ref b), (1, .ref x), (2, .ref mo)] → W p l e room_1 s m #[Value.ref b] below meth c H locs (66 + 240 * j) (67411 + 1200 * j) (lw_Z below #[Value.ref b] s) (F0 m 212 ls []) := by
  have hx := X.1
  have hb := X.2.1
  have hts := X.2.2.2.2.1
  have hY0 : ∀ q u, z_Y0 q = some u → q < s.heap.size := fun q u h => by cases h
  have hbA : ¬ ((∃ t, z_Y0 b = some t) ∨ s.heap.size ≤ b) := fun h => by
    rcases h with ⟨t, h⟩ | h
    · cases h
    · omega
  intro H Y locs ls fv Kv tv nv hI hY_x hY_mo hR hM hv hl
  refine lv_aload_n hx hb la_d212 rfl (lv_at hl 2 rfl) ?_
  refine lv_aload_n hx hb la_d213 rfl (lv_at hl 1 rfl) ?_
  refine lv_iload_n hx hb la_d214 rfl (lv_at hl 0 rfl) ?_
  refine lv_iconst hx hb la_d215 (v := 1) (by decide) ?_
  have ec1 : (1 : Int32).toInt = 1 := by decide
  refine lv_iadd hx hb la_d216 ?_
  generalize hg_z216 : i + (1 : Int32) = z216
  have h_z216 : z216.toInt = i.toInt + 1 := by rw [← hg_z216]; have := y_add (x := i) (y := (1 : Int32)) (by rw [ec1]; omega) (by rw [ec1]; omega); rw [ec1] at this; exact this
  refine va_sld hx hb hX hbl hbA hI.2.2.2 (z_vpin (by omega) (by omega)) la_d217 ?_
  obtain ⟨e217, hg_e217⟩ : ∃ e217 : Int32, xs z216.toNatClampNeg = e217 := ⟨_, rfl⟩
  rw [hg_e217]
  refine lv_aload_n hx hb la_d218 rfl (lv_at hl 1 rfl) ?_
  refine lv_iload_n hx hb la_d219 rfl (lv_at hl 0 rfl) ?_
  refine lv_iconst hx hb la_d220 (v := 2) (by decide) ?_
  have ec2 : (2 : Int32).toInt = 2 := by decide
  refine lv_iadd hx hb la_d221 ?_
  generalize hg_z221 : i + (2 : Int32) = z221
  have h_z221 : z221.toInt = i.toInt + 2 := by rw [← hg_z221]; have := y_add (x := i) (y := (2 : Int32)) (by rw [ec2]; omega) (by rw [ec2]; omega); rw [ec2] at this; exact this
  refine va_sld hx hb hX hbl hbA hI.2.2.2 (z_vpin (by omega) (by omega)) la_d222 ?_
  obtain ⟨e222, hg_e222⟩ : ∃ e222 : Int32, xs z221.toNatClampNeg = e222 := ⟨_, rfl⟩
  rw [hg_e222]
  refine lv_aload_n hx hb la_d223 rfl (lv_at hl 1 rfl) ?_
  refine lv_iload_n hx hb la_d224 rfl (lv_at hl 0 rfl) ?_
  refine lv_iconst hx hb la_d225 (v := 3) (by decide) ?_
  have ec3 : (3 : Int32).toInt = 3 := by decide
  refine lv_iadd hx hb la_d226 ?_
  generalize hg_z226 : i + (3 : Int32) = z226
  have h_z226 : z226.toInt = i.toInt + 3 := by rw [← hg_z226]; have := y_add (x := i) (y := (3 : Int32)) (by rw [ec3]; omega) (by rw [ec3]; omega); rw [ec3] at this; exact this
  refine va_sld hx hb hX hbl hbA hI.2.2.2 (z_vpin (by omega) (by omega)) la_d227 ?_
  obtain ⟨e227, hg_e227⟩ : ∃ e227 : Int32, xs z226.toNatClampNeg = e227 := ⟨_, rfl⟩
  rw [hg_e227]
  have hbd := hR.bd hI.1
  refine y_call (z := (0, 13, 4, some 0, xM9)) (av := [.ref x, .int e217, .int e222, .int e227]) (rest := []) (y_cokV (n := 3) (ci := 11) X ym_Thill rfl rfl rfl (x_cons (x_bw18 5 rfl rfl) (x_cons (x_bw18 6 rfl rfl) (x_cons (x_bw18 7 rfl rfl) (x_cons (x_bw0 1 rfl rfl) x_nilm)))) (x_bw18 8 rfl rfl) (by decide +kernel) ⟨Nat.le_of_ble_eq_true rfl, Nat.le_of_ble_eq_true rfl⟩) hY0 hI rfl la_d228 hl.1 (Nat.le_of_ble_eq_true rfl) (by show (66 + 240 * j) + 0 ≤ 600000; omega) (by show (67411 + 1200 * j) + 0 ≤ 7302250; omega) (y_cons (y_cref hY_x rfl) (y_cons ⟨_, rfl, x_i32 _⟩ (y_cons ⟨_, rfl, x_i32 _⟩ (y_cons ⟨_, rfl, x_i32 _⟩ y_nil)))) rfl (y_recv rfl hY_x) (fun t' h1 => by cases h1; exact ⟨_, _, _, _, hR⟩) (y_sub_ef (by decide +kernel)) fun v Yn o Hn L_ ho hr ha hIn hx_ hE hP => ?_
  replace hM := hM.E hY_mo hE (fun q u h => y_ext hx_ hI.1 h) (by decide +kernel) (by decide +kernel)
  obtain ⟨rA, gA, hra, hRn, hmA⟩ := hP _ _ _ _ _ _ _ _ rfl hR
  obtain rfl := hra
  replace hR := hRn
  replace hY_x := y_ext hx_ hI.1 hY_x
  replace hY_mo := y_ext hx_ hI.1 hY_mo
  clear ho hr ha hE hP hI hx_
  rename x_I _ _ _ _ _ _ _ _ _ _ => hI
  refine lv_pop hx hb la_d231 rfl ?_
  refine lv_aload_n hx hb la_d232 rfl (lv_at hl 3 rfl) ?_
  refine lv_aload_n hx hb la_d233 rfl (lv_at hl 1 rfl) ?_
  refine lv_iload_n hx hb la_d234 rfl (lv_at hl 0 rfl) ?_
  refine lv_iconst hx hb la_d235 (v := 1) (by decide) ?_
  refine lv_iadd hx hb la_d236 ?_
  generalize hg_z236 : i + (1 : Int32) = z236
  have h_z236 : z236.toInt = i.toInt + 1 := by rw [← hg_z236]; have := y_add (x := i) (y := (1 : Int32)) (by rw [ec1]; omega) (by rw [ec1]; omega); rw [ec1] at this; exact this
  refine va_sld hx hb hX hbl hbA hI.2.2.2 (z_vpin (by omega) (by omega)) la_d237 ?_
  obtain ⟨e237, hg_e237⟩ : ∃ e237 : Int32, xs z236.toNatClampNeg = e237 := ⟨_, rfl⟩
  rw [hg_e237]
  refine lv_aload_n hx hb la_d238 rfl (lv_at hl 1 rfl) ?_
  refine lv_iload_n hx hb la_d239 rfl (lv_at hl 0 rfl) ?_
  refine lv_iconst hx hb la_d240 (v := 2) (by decide) ?_
  refine lv_iadd hx hb la_d241 ?_
  generalize hg_z241 : i + (2 : Int32) = z241
  have h_z241 : z241.toInt = i.toInt + 2 := by rw [← hg_z241]; have := y_add (x := i) (y := (2 : Int32)) (by rw [ec2]; omega) (by rw [ec2]; omega); rw [ec2] at this; exact this
  refine va_sld hx hb hX hbl hbA hI.2.2.2 (z_vpin (by omega) (by omega)) la_d242 ?_
  obtain ⟨e242, hg_e242⟩ : ∃ e242 : Int32, xs z241.toNatClampNeg = e242 := ⟨_, rfl⟩
  rw [hg_e242]
  refine lv_aload_n hx hb la_d243 rfl (lv_at hl 1 rfl) ?_
  refine lv_iload_n hx hb la_d244 rfl (lv_at hl 0 rfl) ?_
  refine lv_iconst hx hb la_d245 (v := 3) (by decide) ?_
  refine lv_iadd hx hb la_d246 ?_
  generalize hg_z246 : i + (3 : Int32) = z246
  have h_z246 : z246.toInt = i.toInt + 3 := by rw [← hg_z246]; have := y_add (x := i) (y := (3 : Int32)) (by rw [ec3]; omega) (by rw [ec3]; omega); rw [ec3] at this; exact this
  refine va_sld hx hb hX hbl hbA hI.2.2.2 (z_vpin (by omega) (by omega)) la_d247 ?_
  obtain ⟨e247, hg_e247⟩ : ∃ e247 : Int32, xs z246.toNatClampNeg = e247 := ⟨_, rfl⟩
  rw [hg_e247]
  obtain rfl : e217 = e237 := by rw [← hg_e217, ← hg_e237, ← hg_z216, ← hg_z236]
  obtain rfl : e222 = e242 := by rw [← hg_e222, ← hg_e242, ← hg_z221, ← hg_z241]
  obtain rfl : e227 = e247 := by rw [← hg_e227, ← hg_e247, ← hg_z226, ← hg_z246]
  refine y_call (z := (0, 17, 4, some 17, xM147)) (av := [.ref mo, .int e217, .int e222, .int e227]) (rest := []) (y_cokV (n := 3) (ci := 12) X ym_mhill rfl rfl rfl (x_cons (x_bw67 6 rfl rfl) (x_cons (x_bw67 7 rfl rfl) (x_cons (x_bw67 8 rfl rfl) (x_cons (x_bw0 9 rfl rfl) x_nilm)))) (x_bw67 9 rfl rfl) (by decide +kernel) ⟨Nat.le_of_ble_eq_true rfl, Nat.le_of_ble_eq_true rfl⟩) hY0 hI rfl la_d248 hl.1 (Nat.le_of_ble_eq_true rfl) (by show (66 + 240 * j) + 0 + 0 ≤ 600000; omega) (by show (67411 + 1200 * j) + 0 + 0 ≤ 7302250; omega) (y_cons (y_cref hY_mo rfl) (y_cons ⟨_, rfl, x_i32 _⟩ (y_cons ⟨_, rfl, x_i32 _⟩ (y_cons ⟨_, rfl, x_i32 _⟩ y_nil)))) rfl (y_recv rfl hY_mo) trivial (y_sub_ef (by decide +kernel)) fun v Yn o Hn L_ ho hr ha hIn hx_ hE hP => ?_
  replace hR := hR.E2 hY_x hE (fun q u h => y_ext hx_ hI.1 h) (by decide +kernel)
  obtain ⟨bk9, hb1, hb2, hb3⟩ := hM.bk
  obtain ⟨rB, gB, hrb, hAB, hmB⟩ := hP _ _ _ _ _ _ rfl hb1 hb2 hb3
  obtain rfl := hrb
  have hi9 := hmA.i01 hbd.1 hv.1.1
  have hi8 := hmA.rg hv.2.1
  obtain ⟨w4, w5⟩ := hmA.eq hbd.1 hmB
  subst w4 w5
  replace hM := hM.book hY_mo hE (fun q u h => y_ext hx_ hI.1 h) (by decide +kernel) hR.zc (fun b hb => by cases hb1.symm.trans hb; exact hAB)
  replace hv : m_inv2 _ Kv := ⟨⟨hi9, hv.1.2⟩, hi8, hv.2.2⟩
  replace hY_x := y_ext hx_ hI.1 hY_x
  replace hY_mo := y_ext hx_ hI.1 hY_mo
  clear ho hr ha hE hP hI hx_
  rename x_I _ _ _ _ _ _ _ _ _ _ => hI
  refine lv_pop hx hb la_d251 rfl ?_
  refine lv_goto hx hb la_d252 (tgt := 1501) (by decide) ?_
  refine W.widen (k := (66 + 240 * (j + 1))) (n := (67411 + 1200 * (j + 1))) (by show (66 + 240 * j) + 0 + 0 ≤ (66 + 240 * (j + 1)); omega) (by show (67411 + 1200 * j) + 0 + 0 ≤ (67411 + 1200 * (j + 1)); omega) ?_
  exact out _ _ _ _ _ _ _ _ hI hY_x hY_mo hR hM hv (lv_sub hl [0, 1, 2, 3] rfl)
theorem la_c1 {p : Program} {l : Launch} {e : Env} {s : State} {m : MethodId} {below : List Frame} {meth : Method} {c : Code} {D : va_G} {b L : Nat} {xs : Nat → Int32} (X : x_cx p s m #[Value.ref b] c D s xMlaw.2.1 xMlaw.2.2.1 vwCl x_Tb x_Nb "TwinFiresLaw") (hrt : meth.sig.returnType = ret) (hlk : meth.locks = false) (hX : va_X b L xs s s.heap) (hbl : b < s.heap.size) (hL : L ≤ 3072) {x mo : Nat} {i : Int32} {j : Nat} (hi : i.toInt = 6 * (j : Int)) (hj : 6 * j + 6 ≤ L)
    (out : ∀ (H : Heap) (Y : xY) (locs : List Loc) (ls : Array Slot) (fv : Nat → Int32) (Kv : Nat → Option (Nat → Int32)) (tv : Nat → Int32) (nv : Int32), x_I D x_G x_Zs s (x_efs xMlaw) z_Y0 s.heap Y H locs → Y x = some 0 → Y mo = some 17 → z_RC D Y H x fv Kv tv nv → z_RM D Y H mo fv Kv tv nv → m_inv2 fv Kv → lv_has ls 4 [(3, .int i), (0, .ref b), (1, .ref x), (2, .ref mo)] → W p l e room_1 s m #[Value.ref b] below meth c H locs (66 + 240 * (j + 1)) (67411 + 1200 * (j + 1)) (lw_Z below #[Value.ref b] s) (F0 m 1501 ls [])) :
    ∀ (H : Heap) (Y : xY) (locs : List Loc) (ls : Array Slot) (fv : Nat → Int32) (Kv : Nat → Option (Nat → Int32)) (tv : Nat → Int32) (nv : Int32), x_I D x_G x_Zs s (x_efs xMlaw) z_Y0 s.heap Y H locs → Y x = some 0 → Y mo = some 17 → z_RC D Y H x fv Kv tv nv → z_RM D Y H mo fv Kv tv nv → m_inv2 fv Kv → lv_has ls 4 [(3, .int i), (0, .ref b), (1, .ref x), (2, .ref mo)] → W p l e room_1 s m #[Value.ref b] below meth c H locs (66 + 240 * j) (67411 + 1200 * j) (lw_Z below #[Value.ref b] s) (F0 m 255 ls []) := by
  have hx := X.1
  have hb := X.2.1
  have hts := X.2.2.2.2.1
  have hY0 : ∀ q u, z_Y0 q = some u → q < s.heap.size := fun q u h => by cases h
  have hbA : ¬ ((∃ t, z_Y0 b = some t) ∨ s.heap.size ≤ b) := fun h => by
    rcases h with ⟨t, h⟩ | h
    · cases h
    · omega
  intro H Y locs ls fv Kv tv nv hI hY_x hY_mo hR hM hv hl
  refine lv_aload_n hx hb la_d255 rfl (lv_at hl 2 rfl) ?_
  refine lv_aload_n hx hb la_d256 rfl (lv_at hl 1 rfl) ?_
  refine lv_iload_n hx hb la_d257 rfl (lv_at hl 0 rfl) ?_
  refine lv_iconst hx hb la_d258 (v := 1) (by decide) ?_
  have ec1 : (1 : Int32).toInt = 1 := by decide
  refine lv_iadd hx hb la_d259 ?_
  generalize hg_z259 : i + (1 : Int32) = z259
  have h_z259 : z259.toInt = i.toInt + 1 := by rw [← hg_z259]; have := y_add (x := i) (y := (1 : Int32)) (by rw [ec1]; omega) (by rw [ec1]; omega); rw [ec1] at this; exact this
  refine va_sld hx hb hX hbl hbA hI.2.2.2 (z_vpin (by omega) (by omega)) la_d260 ?_
  obtain ⟨e260, hg_e260⟩ : ∃ e260 : Int32, xs z259.toNatClampNeg = e260 := ⟨_, rfl⟩
  rw [hg_e260]
  refine lv_aload_n hx hb la_d261 rfl (lv_at hl 1 rfl) ?_
  refine lv_iload_n hx hb la_d262 rfl (lv_at hl 0 rfl) ?_
  refine lv_iconst hx hb la_d263 (v := 2) (by decide) ?_
  have ec2 : (2 : Int32).toInt = 2 := by decide
  refine lv_iadd hx hb la_d264 ?_
  generalize hg_z264 : i + (2 : Int32) = z264
  have h_z264 : z264.toInt = i.toInt + 2 := by rw [← hg_z264]; have := y_add (x := i) (y := (2 : Int32)) (by rw [ec2]; omega) (by rw [ec2]; omega); rw [ec2] at this; exact this
  refine va_sld hx hb hX hbl hbA hI.2.2.2 (z_vpin (by omega) (by omega)) la_d265 ?_
  obtain ⟨e265, hg_e265⟩ : ∃ e265 : Int32, xs z264.toNatClampNeg = e265 := ⟨_, rfl⟩
  rw [hg_e265]
  refine lv_aload_n hx hb la_d266 rfl (lv_at hl 1 rfl) ?_
  refine lv_iload_n hx hb la_d267 rfl (lv_at hl 0 rfl) ?_
  refine lv_iconst hx hb la_d268 (v := 3) (by decide) ?_
  have ec3 : (3 : Int32).toInt = 3 := by decide
  refine lv_iadd hx hb la_d269 ?_
  generalize hg_z269 : i + (3 : Int32) = z269
  have h_z269 : z269.toInt = i.toInt + 3 := by rw [← hg_z269]; have := y_add (x := i) (y := (3 : Int32)) (by rw [ec3]; omega) (by rw [ec3]; omega); rw [ec3] at this; exact this
  refine va_sld hx hb hX hbl hbA hI.2.2.2 (z_vpin (by omega) (by omega)) la_d270 ?_
  obtain ⟨e270, hg_e270⟩ : ∃ e270 : Int32, xs z269.toNatClampNeg = e270 := ⟨_, rfl⟩
  rw [hg_e270]
  refine lv_aload_n hx hb la_d271 rfl (lv_at hl 1 rfl) ?_
  refine lv_iload_n hx hb la_d272 rfl (lv_at hl 0 rfl) ?_
  refine lv_iconst hx hb la_d273 (v := 4) (by decide) ?_
  have ec4 : (4 : Int32).toInt = 4 := by decide
  refine lv_iadd hx hb la_d274 ?_
  generalize hg_z274 : i + (4 : Int32) = z274
  have h_z274 : z274.toInt = i.toInt + 4 := by rw [← hg_z274]; have := y_add (x := i) (y := (4 : Int32)) (by rw [ec4]; omega) (by rw [ec4]; omega); rw [ec4] at this; exact this
  refine va_sld hx hb hX hbl hbA hI.2.2.2 (z_vpin (by omega) (by omega)) la_d275 ?_
  obtain ⟨e275, hg_e275⟩ : ∃ e275 : Int32, xs z274.toNatClampNeg = e275 := ⟨_, rfl⟩
  rw [hg_e275]
  refine lv_aload_n hx hb la_d276 rfl (lv_at hl 1 rfl) ?_
  refine lv_iload_n hx hb la_d277 rfl (lv_at hl 0 rfl) ?_
  refine lv_iconst hx hb la_d278 (v := 5) (by decide) ?_
  have ec5 : (5 : Int32).toInt = 5 := by decide
  refine lv_iadd hx hb la_d279 ?_
  generalize hg_z279 : i + (5 : Int32) = z279
  have h_z279 : z279.toInt = i.toInt + 5 := by rw [← hg_z279]; have := y_add (x := i) (y := (5 : Int32)) (by rw [ec5]; omega) (by rw [ec5]; omega); rw [ec5] at this; exact this
  refine va_sld hx hb hX hbl hbA hI.2.2.2 (z_vpin (by omega) (by omega)) la_d280 ?_
  obtain ⟨e280, hg_e280⟩ : ∃ e280 : Int32, xs z279.toNatClampNeg = e280 := ⟨_, rfl⟩
  rw [hg_e280]
  have hbd := hR.bd hI.1
  refine y_call (z := (0, 18, 6, some 0, xM21)) (av := [.ref x, .int e260, .int e265, .int e270, .int e275, .int e280]) (rest := []) (y_cokV (n := 5) (ci := 11) X ym_Tthing rfl rfl rfl (x_cons (x_bw20 0 rfl rfl) (x_cons (x_bw20 1 rfl rfl) (x_cons (x_bw20 2 rfl rfl) (x_cons (x_bw0 1 rfl rfl) x_nilm)))) (x_bw20 3 rfl rfl) (by decide +kernel) ⟨Nat.le_of_ble_eq_true rfl, Nat.le_of_ble_eq_true rfl⟩) hY0 hI rfl la_d281 hl.1 (Nat.le_of_ble_eq_true rfl) (by show (66 + 240 * j) + 1 ≤ 600000; omega) (by show (67411 + 1200 * j) + 5 ≤ 7302250; omega) (y_cons (y_cref hY_x rfl) (y_cons ⟨_, rfl, x_i32 _⟩ (y_cons ⟨_, rfl, x_i32 _⟩ (y_cons ⟨_, rfl, x_i32 _⟩ (y_cons ⟨_, rfl, x_i32 _⟩ (y_cons ⟨_, rfl, x_i32 _⟩ y_nil)))))) rfl (y_recv rfl hY_x) (fun t' h1 => by cases h1; exact ⟨_, _, _, _, hR⟩) (y_sub_ef (by decide +kernel)) fun v Yn o Hn L_ ho hr ha hIn hx_ hE hP => ?_
  replace hM := hM.E hY_mo hE (fun q u h => y_ext hx_ hI.1 h) (by decide +kernel) (by decide +kernel)
  obtain ⟨rA, gA, hra, hRn, hmA⟩ := hP _ _ _ _ _ _ _ _ _ _ rfl hR
  obtain rfl := hra
  replace hR := hRn
  replace hY_x := y_ext hx_ hI.1 hY_x
  replace hY_mo := y_ext hx_ hI.1 hY_mo
  clear ho hr ha hE hP hI hx_
  rename x_I _ _ _ _ _ _ _ _ _ _ => hI
  refine lv_pop hx hb la_d284 rfl ?_
  refine lv_aload_n hx hb la_d285 rfl (lv_at hl 3 rfl) ?_
  refine lv_aload_n hx hb la_d286 rfl (lv_at hl 1 rfl) ?_
  refine lv_iload_n hx hb la_d287 rfl (lv_at hl 0 rfl) ?_
  refine lv_iconst hx hb la_d288 (v := 1) (by decide) ?_
  refine lv_iadd hx hb la_d289 ?_
  generalize hg_z289 : i + (1 : Int32) = z289
  have h_z289 : z289.toInt = i.toInt + 1 := by rw [← hg_z289]; have := y_add (x := i) (y := (1 : Int32)) (by rw [ec1]; omega) (by rw [ec1]; omega); rw [ec1] at this; exact this
  refine va_sld hx hb hX hbl hbA hI.2.2.2 (z_vpin (by omega) (by omega)) la_d290 ?_
  obtain ⟨e290, hg_e290⟩ : ∃ e290 : Int32, xs z289.toNatClampNeg = e290 := ⟨_, rfl⟩
  rw [hg_e290]
  refine lv_aload_n hx hb la_d291 rfl (lv_at hl 1 rfl) ?_
  refine lv_iload_n hx hb la_d292 rfl (lv_at hl 0 rfl) ?_
  refine lv_iconst hx hb la_d293 (v := 2) (by decide) ?_
  refine lv_iadd hx hb la_d294 ?_
  generalize hg_z294 : i + (2 : Int32) = z294
  have h_z294 : z294.toInt = i.toInt + 2 := by rw [← hg_z294]; have := y_add (x := i) (y := (2 : Int32)) (by rw [ec2]; omega) (by rw [ec2]; omega); rw [ec2] at this; exact this
  refine va_sld hx hb hX hbl hbA hI.2.2.2 (z_vpin (by omega) (by omega)) la_d295 ?_
  obtain ⟨e295, hg_e295⟩ : ∃ e295 : Int32, xs z294.toNatClampNeg = e295 := ⟨_, rfl⟩
  rw [hg_e295]
  refine lv_aload_n hx hb la_d296 rfl (lv_at hl 1 rfl) ?_
  refine lv_iload_n hx hb la_d297 rfl (lv_at hl 0 rfl) ?_
  refine lv_iconst hx hb la_d298 (v := 3) (by decide) ?_
  refine lv_iadd hx hb la_d299 ?_
  generalize hg_z299 : i + (3 : Int32) = z299
  have h_z299 : z299.toInt = i.toInt + 3 := by rw [← hg_z299]; have := y_add (x := i) (y := (3 : Int32)) (by rw [ec3]; omega) (by rw [ec3]; omega); rw [ec3] at this; exact this
  refine va_sld hx hb hX hbl hbA hI.2.2.2 (z_vpin (by omega) (by omega)) la_d300 ?_
  obtain ⟨e300, hg_e300⟩ : ∃ e300 : Int32, xs z299.toNatClampNeg = e300 := ⟨_, rfl⟩
  rw [hg_e300]
  refine lv_aload_n hx hb la_d301 rfl (lv_at hl 1 rfl) ?_
  refine lv_iload_n hx hb la_d302 rfl (lv_at hl 0 rfl) ?_
  refine lv_iconst hx hb la_d303 (v := 4) (by decide) ?_
  refine lv_iadd hx hb la_d304 ?_
  generalize hg_z304 : i + (4 : Int32) = z304
  have h_z304 : z304.toInt = i.toInt + 4 := by rw [← hg_z304]; have := y_add (x := i) (y := (4 : Int32)) (by rw [ec4]; omega) (by rw [ec4]; omega); rw [ec4] at this; exact this
  refine va_sld hx hb hX hbl hbA hI.2.2.2 (z_vpin (by omega) (by omega)) la_d305 ?_
  obtain ⟨e305, hg_e305⟩ : ∃ e305 : Int32, xs z304.toNatClampNeg = e305 := ⟨_, rfl⟩
  rw [hg_e305]
  refine lv_aload_n hx hb la_d306 rfl (lv_at hl 1 rfl) ?_
  refine lv_iload_n hx hb la_d307 rfl (lv_at hl 0 rfl) ?_
  refine lv_iconst hx hb la_d308 (v := 5) (by decide) ?_
  refine lv_iadd hx hb la_d309 ?_
  generalize hg_z309 : i + (5 : Int32) = z309
  have h_z309 : z309.toInt = i.toInt + 5 := by rw [← hg_z309]; have := y_add (x := i) (y := (5 : Int32)) (by rw [ec5]; omega) (by rw [ec5]; omega); rw [ec5] at this; exact this
  refine va_sld hx hb hX hbl hbA hI.2.2.2 (z_vpin (by omega) (by omega)) la_d310 ?_
  obtain ⟨e310, hg_e310⟩ : ∃ e310 : Int32, xs z309.toNatClampNeg = e310 := ⟨_, rfl⟩
  rw [hg_e310]
  obtain rfl : e260 = e290 := by rw [← hg_e260, ← hg_e290, ← hg_z259, ← hg_z289]
  obtain rfl : e265 = e295 := by rw [← hg_e265, ← hg_e295, ← hg_z264, ← hg_z294]
  obtain rfl : e270 = e300 := by rw [← hg_e270, ← hg_e300, ← hg_z269, ← hg_z299]
  obtain rfl : e275 = e305 := by rw [← hg_e275, ← hg_e305, ← hg_z274, ← hg_z304]
  obtain rfl : e280 = e310 := by rw [← hg_e280, ← hg_e310, ← hg_z279, ← hg_z309]
  refine y_call (z := (0, 22, 6, some 17, xM152)) (av := [.ref mo, .int e260, .int e265, .int e270, .int e275, .int e280]) (rest := []) (y_cokV (n := 5) (ci := 12) X ym_mthing rfl rfl rfl (x_cons (x_bw68 15 rfl rfl) (x_cons (x_bw69 0 rfl rfl) (x_cons (x_bw69 1 rfl rfl) (x_cons (x_bw0 9 rfl rfl) x_nilm)))) (x_bw69 2 rfl rfl) (by decide +kernel) ⟨Nat.le_of_ble_eq_true rfl, Nat.le_of_ble_eq_true rfl⟩) hY0 hI rfl la_d311 hl.1 (Nat.le_of_ble_eq_true rfl) (by show (66 + 240 * j) + 1 + 0 ≤ 600000; omega) (by show (67411 + 1200 * j) + 5 + 0 ≤ 7302250; omega) (y_cons (y_cref hY_mo rfl) (y_cons ⟨_, rfl, x_i32 _⟩ (y_cons ⟨_, rfl, x_i32 _⟩ (y_cons ⟨_, rfl, x_i32 _⟩ (y_cons ⟨_, rfl, x_i32 _⟩ (y_cons ⟨_, rfl, x_i32 _⟩ y_nil)))))) rfl (y_recv rfl hY_mo) trivial (y_sub_ef (by decide +kernel)) fun v Yn o Hn L_ ho hr ha hIn hx_ hE hP => ?_
  replace hR := hR.E2 hY_x hE (fun q u h => y_ext hx_ hI.1 h) (by decide +kernel)
  obtain ⟨bk9, hb1, hb2, hb3⟩ := hM.bk
  obtain ⟨rB, gB, hrb, hAB, hmB⟩ := hP _ _ _ _ _ _ _ _ rfl hb1 hb2 hb3
  obtain rfl := hrb
  have hi9 := hmA.i01 hbd.2.1 hv.1.1
  have hi8 := hmA.rg hv.2.1
  obtain ⟨w4, w5⟩ := hmA.eq hbd.2.1 hmB
  subst w4 w5
  replace hM := hM.book hY_mo hE (fun q u h => y_ext hx_ hI.1 h) (by decide +kernel) hR.zc (fun b hb => by cases hb1.symm.trans hb; exact hAB)
  replace hv : m_inv2 _ Kv := ⟨⟨hi9, hv.1.2⟩, hi8, hv.2.2⟩
  replace hY_x := y_ext hx_ hI.1 hY_x
  replace hY_mo := y_ext hx_ hI.1 hY_mo
  clear ho hr ha hE hP hI hx_
  rename x_I _ _ _ _ _ _ _ _ _ _ => hI
  refine lv_pop hx hb la_d314 rfl ?_
  refine lv_goto hx hb la_d315 (tgt := 1501) (by decide) ?_
  refine W.widen (k := (66 + 240 * (j + 1))) (n := (67411 + 1200 * (j + 1))) (by show (66 + 240 * j) + 1 + 0 ≤ (66 + 240 * (j + 1)); omega) (by show (67411 + 1200 * j) + 5 + 0 ≤ (67411 + 1200 * (j + 1)); omega) ?_
  exact out _ _ _ _ _ _ _ _ hI hY_x hY_mo hR hM hv (lv_sub hl [0, 1, 2, 3] rfl)
theorem la_c2 {p : Program} {l : Launch} {e : Env} {s : State} {m : MethodId} {below : List Frame} {meth : Method} {c : Code} {D : va_G} {b L : Nat} {xs : Nat → Int32} (X : x_cx p s m #[Value.ref b] c D s xMlaw.2.1 xMlaw.2.2.1 vwCl x_Tb x_Nb "TwinFiresLaw") (hrt : meth.sig.returnType = ret) (hlk : meth.locks = false) (hX : va_X b L xs s s.heap) (hbl : b < s.heap.size) (hL : L ≤ 3072) {x mo : Nat} {i : Int32} {j : Nat} (hi : i.toInt = 6 * (j : Int)) (hj : 6 * j + 6 ≤ L)
    (out : ∀ (H : Heap) (Y : xY) (locs : List Loc) (ls : Array Slot) (fv : Nat → Int32) (Kv : Nat → Option (Nat → Int32)) (tv : Nat → Int32) (nv : Int32), x_I D x_G x_Zs s (x_efs xMlaw) z_Y0 s.heap Y H locs → Y x = some 0 → Y mo = some 17 → z_RC D Y H x fv Kv tv nv → z_RM D Y H mo fv Kv tv nv → m_inv2 fv Kv → lv_has ls 4 [(3, .int i), (0, .ref b), (1, .ref x), (2, .ref mo)] → W p l e room_1 s m #[Value.ref b] below meth c H locs (66 + 240 * (j + 1)) (67411 + 1200 * (j + 1)) (lw_Z below #[Value.ref b] s) (F0 m 1501 ls [])) :
    ∀ (H : Heap) (Y : xY) (locs : List Loc) (ls : Array Slot) (fv : Nat → Int32) (Kv : Nat → Option (Nat → Int32)) (tv : Nat → Int32) (nv : Int32), x_I D x_G x_Zs s (x_efs xMlaw) z_Y0 s.heap Y H locs → Y x = some 0 → Y mo = some 17 → z_RC D Y H x fv Kv tv nv → z_RM D Y H mo fv Kv tv nv → m_inv2 fv Kv → lv_has ls 4 [(3, .int i), (0, .ref b), (1, .ref x), (2, .ref mo)] → W p l e room_1 s m #[Value.ref b] below meth c H locs (66 + 240 * j) (67411 + 1200 * j) (lw_Z below #[Value.ref b] s) (F0 m 318 ls []) := by
  have hx := X.1
  have hb := X.2.1
  have hts := X.2.2.2.2.1
  have hY0 : ∀ q u, z_Y0 q = some u → q < s.heap.size := fun q u h => by cases h
  have hbA : ¬ ((∃ t, z_Y0 b = some t) ∨ s.heap.size ≤ b) := fun h => by
    rcases h with ⟨t, h⟩ | h
    · cases h
    · omega
  intro H Y locs ls fv Kv tv nv hI hY_x hY_mo hR hM hv hl
  refine lv_aload_n hx hb la_d318 rfl (lv_at hl 2 rfl) ?_
  refine lv_aload_n hx hb la_d319 rfl (lv_at hl 1 rfl) ?_
  refine lv_iload_n hx hb la_d320 rfl (lv_at hl 0 rfl) ?_
  refine lv_iconst hx hb la_d321 (v := 1) (by decide) ?_
  have ec1 : (1 : Int32).toInt = 1 := by decide
  refine lv_iadd hx hb la_d322 ?_
  generalize hg_z322 : i + (1 : Int32) = z322
  have h_z322 : z322.toInt = i.toInt + 1 := by rw [← hg_z322]; have := y_add (x := i) (y := (1 : Int32)) (by rw [ec1]; omega) (by rw [ec1]; omega); rw [ec1] at this; exact this
  refine va_sld hx hb hX hbl hbA hI.2.2.2 (z_vpin (by omega) (by omega)) la_d323 ?_
  obtain ⟨e323, hg_e323⟩ : ∃ e323 : Int32, xs z322.toNatClampNeg = e323 := ⟨_, rfl⟩
  rw [hg_e323]
  refine lv_aload_n hx hb la_d324 rfl (lv_at hl 1 rfl) ?_
  refine lv_iload_n hx hb la_d325 rfl (lv_at hl 0 rfl) ?_
  refine lv_iconst hx hb la_d326 (v := 2) (by decide) ?_
  have ec2 : (2 : Int32).toInt = 2 := by decide
  refine lv_iadd hx hb la_d327 ?_
  generalize hg_z327 : i + (2 : Int32) = z327
  have h_z327 : z327.toInt = i.toInt + 2 := by rw [← hg_z327]; have := y_add (x := i) (y := (2 : Int32)) (by rw [ec2]; omega) (by rw [ec2]; omega); rw [ec2] at this; exact this
  refine va_sld hx hb hX hbl hbA hI.2.2.2 (z_vpin (by omega) (by omega)) la_d328 ?_
  obtain ⟨e328, hg_e328⟩ : ∃ e328 : Int32, xs z327.toNatClampNeg = e328 := ⟨_, rfl⟩
  rw [hg_e328]
  have hbd := hR.bd hI.1
  refine y_call (z := (0, 23, 3, some 0, xM24)) (av := [.ref x, .int e323, .int e328]) (rest := []) (y_cokV (n := 2) (ci := 11) X ym_Tput rfl rfl rfl (x_cons (x_bw24 4 rfl rfl) (x_cons (x_bw24 5 rfl rfl) (x_cons (x_bw24 6 rfl rfl) (x_cons (x_bw0 1 rfl rfl) x_nilm)))) (x_bw24 7 rfl rfl) (by decide +kernel) ⟨Nat.le_of_ble_eq_true rfl, Nat.le_of_ble_eq_true rfl⟩) hY0 hI rfl la_d329 hl.1 (Nat.le_of_ble_eq_true rfl) (by show (66 + 240 * j) + 0 ≤ 600000; omega) (by show (67411 + 1200 * j) + 0 ≤ 7302250; omega) (y_cons (y_cref hY_x rfl) (y_cons ⟨_, rfl, x_i32 _⟩ (y_cons ⟨_, rfl, x_i32 _⟩ y_nil))) rfl (y_recv rfl hY_x) (fun t' h1 => by cases h1; exact ⟨_, _, _, _, hR⟩) (y_sub_ef (by decide +kernel)) fun v Yn o Hn L_ ho hr ha hIn hx_ hE hP => ?_
  replace hM := hM.E hY_mo hE (fun q u h => y_ext hx_ hI.1 h) (by decide +kernel) (by decide +kernel)
  obtain ⟨rA, gA, hra, hRn, hmA⟩ := hP _ _ _ _ _ _ _ rfl hR
  obtain rfl := hra
  replace hR := hRn
  replace hY_x := y_ext hx_ hI.1 hY_x
  replace hY_mo := y_ext hx_ hI.1 hY_mo
  clear ho hr ha hE hP hI hx_
  rename x_I _ _ _ _ _ _ _ _ _ _ => hI
  refine lv_pop hx hb la_d332 rfl ?_
  refine lv_aload_n hx hb la_d333 rfl (lv_at hl 3 rfl) ?_
  refine lv_aload_n hx hb la_d334 rfl (lv_at hl 1 rfl) ?_
  refine lv_iload_n hx hb la_d335 rfl (lv_at hl 0 rfl) ?_
  refine lv_iconst hx hb la_d336 (v := 1) (by decide) ?_
  refine lv_iadd hx hb la_d337 ?_
  generalize hg_z337 : i + (1 : Int32) = z337
  have h_z337 : z337.toInt = i.toInt + 1 := by rw [← hg_z337]; have := y_add (x := i) (y := (1 : Int32)) (by rw [ec1]; omega) (by rw [ec1]; omega); rw [ec1] at this; exact this
  refine va_sld hx hb hX hbl hbA hI.2.2.2 (z_vpin (by omega) (by omega)) la_d338 ?_
  obtain ⟨e338, hg_e338⟩ : ∃ e338 : Int32, xs z337.toNatClampNeg = e338 := ⟨_, rfl⟩
  rw [hg_e338]
  refine lv_aload_n hx hb la_d339 rfl (lv_at hl 1 rfl) ?_
  refine lv_iload_n hx hb la_d340 rfl (lv_at hl 0 rfl) ?_
  refine lv_iconst hx hb la_d341 (v := 2) (by decide) ?_
  refine lv_iadd hx hb la_d342 ?_
  generalize hg_z342 : i + (2 : Int32) = z342
  have h_z342 : z342.toInt = i.toInt + 2 := by rw [← hg_z342]; have := y_add (x := i) (y := (2 : Int32)) (by rw [ec2]; omega) (by rw [ec2]; omega); rw [ec2] at this; exact this
  refine va_sld hx hb hX hbl hbA hI.2.2.2 (z_vpin (by omega) (by omega)) la_d343 ?_
  obtain ⟨e343, hg_e343⟩ : ∃ e343 : Int32, xs z342.toNatClampNeg = e343 := ⟨_, rfl⟩
  rw [hg_e343]
  obtain rfl : e323 = e338 := by rw [← hg_e323, ← hg_e338, ← hg_z322, ← hg_z337]
  obtain rfl : e328 = e343 := by rw [← hg_e328, ← hg_e343, ← hg_z327, ← hg_z342]
  refine y_call (z := (0, 27, 3, some 17, xM159)) (av := [.ref mo, .int e323, .int e328]) (rest := []) (y_cokV (n := 2) (ci := 12) X ym_mput rfl rfl rfl (x_cons (x_bw69 5 rfl rfl) (x_cons (x_bw69 6 rfl rfl) (x_cons (x_bw69 7 rfl rfl) (x_cons (x_bw0 9 rfl rfl) x_nilm)))) (x_bw69 8 rfl rfl) (by decide +kernel) ⟨Nat.le_of_ble_eq_true rfl, Nat.le_of_ble_eq_true rfl⟩) hY0 hI rfl la_d344 hl.1 (Nat.le_of_ble_eq_true rfl) (by show (66 + 240 * j) + 0 + 0 ≤ 600000; omega) (by show (67411 + 1200 * j) + 0 + 0 ≤ 7302250; omega) (y_cons (y_cref hY_mo rfl) (y_cons ⟨_, rfl, x_i32 _⟩ (y_cons ⟨_, rfl, x_i32 _⟩ y_nil))) rfl (y_recv rfl hY_mo) trivial (y_sub_ef (by decide +kernel)) fun v Yn o Hn L_ ho hr ha hIn hx_ hE hP => ?_
  replace hR := hR.E2 hY_x hE (fun q u h => y_ext hx_ hI.1 h) (by decide +kernel)
  obtain ⟨bk9, hb1, hb2, hb3⟩ := hM.bk
  obtain ⟨rB, gB, hrb, hAB, hmB⟩ := hP _ _ _ _ _ rfl hb1 hb2 hb3
  obtain rfl := hrb
  have hi9 := hmA.i01 hv.1.1
  have hi8 := hmA.rg hv.2.1
  obtain ⟨w4, w5⟩ := hmA.eq hmB
  subst w4 w5
  replace hM := hM.book hY_mo hE (fun q u h => y_ext hx_ hI.1 h) (by decide +kernel) hR.zc (fun b hb => by cases hb1.symm.trans hb; exact hAB)
  replace hv : m_inv2 _ Kv := ⟨⟨hi9, hv.1.2⟩, hi8, hv.2.2⟩
  replace hY_x := y_ext hx_ hI.1 hY_x
  replace hY_mo := y_ext hx_ hI.1 hY_mo
  clear ho hr ha hE hP hI hx_
  rename x_I _ _ _ _ _ _ _ _ _ _ => hI
  refine lv_pop hx hb la_d347 rfl ?_
  refine lv_goto hx hb la_d348 (tgt := 1501) (by decide) ?_
  refine W.widen (k := (66 + 240 * (j + 1))) (n := (67411 + 1200 * (j + 1))) (by show (66 + 240 * j) + 0 + 0 ≤ (66 + 240 * (j + 1)); omega) (by show (67411 + 1200 * j) + 0 + 0 ≤ (67411 + 1200 * (j + 1)); omega) ?_
  exact out _ _ _ _ _ _ _ _ hI hY_x hY_mo hR hM hv (lv_sub hl [0, 1, 2, 3] rfl)
theorem la_c3 {p : Program} {l : Launch} {e : Env} {s : State} {m : MethodId} {below : List Frame} {meth : Method} {c : Code} {D : va_G} {b L : Nat} {xs : Nat → Int32} (X : x_cx p s m #[Value.ref b] c D s xMlaw.2.1 xMlaw.2.2.1 vwCl x_Tb x_Nb "TwinFiresLaw") (hrt : meth.sig.returnType = ret) (hlk : meth.locks = false) (hX : va_X b L xs s s.heap) (hbl : b < s.heap.size) (hL : L ≤ 3072) {x mo : Nat} {i : Int32} {j : Nat} (hi : i.toInt = 6 * (j : Int)) (hj : 6 * j + 6 ≤ L)
    (out : ∀ (H : Heap) (Y : xY) (locs : List Loc) (ls : Array Slot) (fv : Nat → Int32) (Kv : Nat → Option (Nat → Int32)) (tv : Nat → Int32) (nv : Int32), x_I D x_G x_Zs s (x_efs xMlaw) z_Y0 s.heap Y H locs → Y x = some 0 → Y mo = some 17 → z_RC D Y H x fv Kv tv nv → z_RM D Y H mo fv Kv tv nv → m_inv2 fv Kv → lv_has ls 4 [(3, .int i), (0, .ref b), (1, .ref x), (2, .ref mo)] → W p l e room_1 s m #[Value.ref b] below meth c H locs (66 + 240 * (j + 1)) (67411 + 1200 * (j + 1)) (lw_Z below #[Value.ref b] s) (F0 m 1501 ls [])) :
    ∀ (H : Heap) (Y : xY) (locs : List Loc) (ls : Array Slot) (fv : Nat → Int32) (Kv : Nat → Option (Nat → Int32)) (tv : Nat → Int32) (nv : Int32), x_I D x_G x_Zs s (x_efs xMlaw) z_Y0 s.heap Y H locs → Y x = some 0 → Y mo = some 17 → z_RC D Y H x fv Kv tv nv → z_RM D Y H mo fv Kv tv nv → m_inv2 fv Kv → lv_has ls 4 [(3, .int i), (0, .ref b), (1, .ref x), (2, .ref mo)] → W p l e room_1 s m #[Value.ref b] below meth c H locs (66 + 240 * j) (67411 + 1200 * j) (lw_Z below #[Value.ref b] s) (F0 m 351 ls []) := by
  have hx := X.1
  have hb := X.2.1
  have hts := X.2.2.2.2.1
  have hY0 : ∀ q u, z_Y0 q = some u → q < s.heap.size := fun q u h => by cases h
  have hbA : ¬ ((∃ t, z_Y0 b = some t) ∨ s.heap.size ≤ b) := fun h => by
    rcases h with ⟨t, h⟩ | h
    · cases h
    · omega
  intro H Y locs ls fv Kv tv nv hI hY_x hY_mo hR hM hv hl
  refine lv_aload_n hx hb la_d351 rfl (lv_at hl 2 rfl) ?_
  refine lv_aload_n hx hb la_d352 rfl (lv_at hl 1 rfl) ?_
  refine lv_iload_n hx hb la_d353 rfl (lv_at hl 0 rfl) ?_
  refine lv_iconst hx hb la_d354 (v := 1) (by decide) ?_
  have ec1 : (1 : Int32).toInt = 1 := by decide
  refine lv_iadd hx hb la_d355 ?_
  generalize hg_z355 : i + (1 : Int32) = z355
  have h_z355 : z355.toInt = i.toInt + 1 := by rw [← hg_z355]; have := y_add (x := i) (y := (1 : Int32)) (by rw [ec1]; omega) (by rw [ec1]; omega); rw [ec1] at this; exact this
  refine va_sld hx hb hX hbl hbA hI.2.2.2 (z_vpin (by omega) (by omega)) la_d356 ?_
  obtain ⟨e356, hg_e356⟩ : ∃ e356 : Int32, xs z355.toNatClampNeg = e356 := ⟨_, rfl⟩
  rw [hg_e356]
  refine lv_aload_n hx hb la_d357 rfl (lv_at hl 1 rfl) ?_
  refine lv_iload_n hx hb la_d358 rfl (lv_at hl 0 rfl) ?_
  refine lv_iconst hx hb la_d359 (v := 2) (by decide) ?_
  have ec2 : (2 : Int32).toInt = 2 := by decide
  refine lv_iadd hx hb la_d360 ?_
  generalize hg_z360 : i + (2 : Int32) = z360
  have h_z360 : z360.toInt = i.toInt + 2 := by rw [← hg_z360]; have := y_add (x := i) (y := (2 : Int32)) (by rw [ec2]; omega) (by rw [ec2]; omega); rw [ec2] at this; exact this
  refine va_sld hx hb hX hbl hbA hI.2.2.2 (z_vpin (by omega) (by omega)) la_d361 ?_
  obtain ⟨e361, hg_e361⟩ : ∃ e361 : Int32, xs z360.toNatClampNeg = e361 := ⟨_, rfl⟩
  rw [hg_e361]
  have ec0 : (0 : Int32).toInt = 0 := by decide
  refine lv_if_eq hx hb la_d362 (tgt := 369) (by decide) (fun q362 => ?_) (fun q362 => ?_)
  · have q362_ : e361.toInt = (0 : Int32).toInt := by rw [q362]
    refine lv_iconst hx hb la_d369 (v := 0) (by decide) ?_
    have hbd := hR.bd hI.1
    refine y_call (z := (0, 28, 3, some 0, xM29)) (av := [.ref x, .int e356, .int (0 : Int32)]) (rest := []) (y_cokV (n := 2) (ci := 11) X ym_Twork rfl rfl rfl (x_cons (x_bw25 0 rfl rfl) (x_cons (x_bw25 1 rfl rfl) (x_cons (x_bw25 2 rfl rfl) (x_cons (x_bw0 1 rfl rfl) x_nilm)))) (x_bw25 3 rfl rfl) (by decide +kernel) ⟨Nat.le_of_ble_eq_true rfl, Nat.le_of_ble_eq_true rfl⟩) hY0 hI rfl la_d370 hl.1 (Nat.le_of_ble_eq_true rfl) (by show (66 + 240 * j) + 0 ≤ 600000; omega) (by show (67411 + 1200 * j) + 0 ≤ 7302250; omega) (y_cons (y_cref hY_x rfl) (y_cons ⟨_, rfl, x_i32 _⟩ (y_cons ⟨_, rfl, by show (0 : Int) ≤ _; omega, by show _ ≤ (1 : Int); omega⟩ y_nil))) rfl (y_recv rfl hY_x) (fun t' h1 => by cases h1; exact ⟨_, _, _, _, hR⟩) (y_sub_ef (by decide +kernel)) fun v Yn o Hn L_ ho hr ha hIn hx_ hE hP => ?_
    replace hM := hM.E hY_mo hE (fun q u h => y_ext hx_ hI.1 h) (by decide +kernel) (by decide +kernel)
    obtain ⟨rA, gA, hra, hRn, hmA⟩ := hP _ _ _ _ _ _ _ rfl hR
    obtain rfl := hra
    replace hR := hRn
    replace hY_x := y_ext hx_ hI.1 hY_x
    replace hY_mo := y_ext hx_ hI.1 hY_mo
    clear ho hr ha hE hP hI hx_
    rename x_I _ _ _ _ _ _ _ _ _ _ => hI
    refine lv_pop hx hb la_d373 rfl ?_
    refine lv_aload_n hx hb la_d374 rfl (lv_at hl 3 rfl) ?_
    refine lv_aload_n hx hb la_d375 rfl (lv_at hl 1 rfl) ?_
    refine lv_iload_n hx hb la_d376 rfl (lv_at hl 0 rfl) ?_
    refine lv_iconst hx hb la_d377 (v := 1) (by decide) ?_
    refine lv_iadd hx hb la_d378 ?_
    generalize hg_z378 : i + (1 : Int32) = z378
    have h_z378 : z378.toInt = i.toInt + 1 := by rw [← hg_z378]; have := y_add (x := i) (y := (1 : Int32)) (by rw [ec1]; omega) (by rw [ec1]; omega); rw [ec1] at this; exact this
    refine va_sld hx hb hX hbl hbA hI.2.2.2 (z_vpin (by omega) (by omega)) la_d379 ?_
    obtain ⟨e379, hg_e379⟩ : ∃ e379 : Int32, xs z378.toNatClampNeg = e379 := ⟨_, rfl⟩
    rw [hg_e379]
    refine lv_aload_n hx hb la_d380 rfl (lv_at hl 1 rfl) ?_
    refine lv_iload_n hx hb la_d381 rfl (lv_at hl 0 rfl) ?_
    refine lv_iconst hx hb la_d382 (v := 2) (by decide) ?_
    refine lv_iadd hx hb la_d383 ?_
    generalize hg_z383 : i + (2 : Int32) = z383
    have h_z383 : z383.toInt = i.toInt + 2 := by rw [← hg_z383]; have := y_add (x := i) (y := (2 : Int32)) (by rw [ec2]; omega) (by rw [ec2]; omega); rw [ec2] at this; exact this
    refine va_sld hx hb hX hbl hbA hI.2.2.2 (z_vpin (by omega) (by omega)) la_d384 ?_
    obtain ⟨e384, hg_e384⟩ : ∃ e384 : Int32, xs z383.toNatClampNeg = e384 := ⟨_, rfl⟩
    rw [hg_e384]
    refine lv_if_eq hx hb la_d385 (tgt := 392) (by decide) (fun q385 => ?_) (fun q385 => ?_)
    · have q385_ : e384.toInt = (0 : Int32).toInt := by rw [q385]
      refine lv_iconst hx hb la_d392 (v := 0) (by decide) ?_
      obtain rfl : e356 = e379 := by rw [← hg_e356, ← hg_e379, ← hg_z355, ← hg_z378]
      obtain rfl : e361 = e384 := by rw [← hg_e361, ← hg_e384, ← hg_z360, ← hg_z383]
      refine y_call (z := (0, 32, 3, some 17, xM165)) (av := [.ref mo, .int e356, .int (0 : Int32)]) (rest := []) (y_cokV (n := 2) (ci := 12) X ym_workX rfl rfl rfl (x_cons (x_bw69 15 rfl rfl) (x_cons (x_bw70 0 rfl rfl) (x_cons (x_bw70 1 rfl rfl) (x_cons (x_bw0 9 rfl rfl) x_nilm)))) (x_bw70 2 rfl rfl) (by decide +kernel) ⟨Nat.le_of_ble_eq_true rfl, Nat.le_of_ble_eq_true rfl⟩) hY0 hI rfl la_d393 hl.1 (Nat.le_of_ble_eq_true rfl) (by show (66 + 240 * j) + 0 + 0 ≤ 600000; omega) (by show (67411 + 1200 * j) + 0 + 0 ≤ 7302250; omega) (y_cons (y_cref hY_mo rfl) (y_cons ⟨_, rfl, x_i32 _⟩ (y_cons ⟨_, rfl, by show (0 : Int) ≤ _; omega, by show _ ≤ (1 : Int); omega⟩ y_nil))) rfl (y_recv rfl hY_mo) trivial (y_sub_ef (by decide +kernel)) fun v Yn o Hn L_ ho hr ha hIn hx_ hE hP => ?_
      replace hR := hR.E2 hY_x hE (fun q u h => y_ext hx_ hI.1 h) (by decide +kernel)
      obtain ⟨bk9, hb1, hb2, hb3⟩ := hM.bk
      obtain ⟨rB, gB, hrb, hAB, hmB⟩ := hP _ _ _ _ _ rfl hb1 hb2 hb3 hv.1.1
      obtain rfl := hrb
      have hi9 := hmA.i01 (by first | exact Or.inl rfl | exact Or.inr rfl) hv.1.1
      have hi8 := hmA.rg (by first | exact Or.inl rfl | exact Or.inr rfl) hv.2.1
      obtain ⟨w4, w5⟩ := hmA.eq hmB
      subst w4 w5
      replace hM := hM.book hY_mo hE (fun q u h => y_ext hx_ hI.1 h) (by decide +kernel) hR.zc (fun b hb => by cases hb1.symm.trans hb; exact hAB)
      replace hv : m_inv2 _ Kv := ⟨⟨hi9, hv.1.2⟩, hi8, hv.2.2⟩
      replace hY_x := y_ext hx_ hI.1 hY_x
      replace hY_mo := y_ext hx_ hI.1 hY_mo
      clear ho hr ha hE hP hI hx_
      rename x_I _ _ _ _ _ _ _ _ _ _ => hI
      refine lv_pop hx hb la_d396 rfl ?_
      refine lv_goto hx hb la_d397 (tgt := 1501) (by decide) ?_
      refine W.widen (k := (66 + 240 * (j + 1))) (n := (67411 + 1200 * (j + 1))) (by show (66 + 240 * j) + 0 + 0 ≤ (66 + 240 * (j + 1)); omega) (by show (67411 + 1200 * j) + 0 + 0 ≤ (67411 + 1200 * (j + 1)); omega) ?_
      exact out _ _ _ _ _ _ _ _ hI hY_x hY_mo hR hM hv (lv_sub hl [0, 1, 2, 3] rfl)
    · have q385_ : ¬ e384.toInt = (0 : Int32).toInt := fun q => q385 (Int32.toInt_inj.mp q)
      refine lv_iconst hx hb la_d388 (v := 1) (by decide) ?_
      refine lv_goto hx hb la_d389 (tgt := 393) (by decide) ?_
      obtain rfl : e356 = e379 := by rw [← hg_e356, ← hg_e379, ← hg_z355, ← hg_z378]
      obtain rfl : e361 = e384 := by rw [← hg_e361, ← hg_e384, ← hg_z360, ← hg_z383]
      exact (by omega : False).elim
  · have q362_ : ¬ e361.toInt = (0 : Int32).toInt := fun q => q362 (Int32.toInt_inj.mp q)
    refine lv_iconst hx hb la_d365 (v := 1) (by decide) ?_
    refine lv_goto hx hb la_d366 (tgt := 370) (by decide) ?_
    have hbd := hR.bd hI.1
    refine y_call (z := (0, 28, 3, some 0, xM29)) (av := [.ref x, .int e356, .int (1 : Int32)]) (rest := []) (y_cokV (n := 2) (ci := 11) X ym_Twork rfl rfl rfl (x_cons (x_bw25 0 rfl rfl) (x_cons (x_bw25 1 rfl rfl) (x_cons (x_bw25 2 rfl rfl) (x_cons (x_bw0 1 rfl rfl) x_nilm)))) (x_bw25 3 rfl rfl) (by decide +kernel) ⟨Nat.le_of_ble_eq_true rfl, Nat.le_of_ble_eq_true rfl⟩) hY0 hI rfl la_d370 hl.1 (Nat.le_of_ble_eq_true rfl) (by show (66 + 240 * j) + 0 ≤ 600000; omega) (by show (67411 + 1200 * j) + 0 ≤ 7302250; omega) (y_cons (y_cref hY_x rfl) (y_cons ⟨_, rfl, x_i32 _⟩ (y_cons ⟨_, rfl, by show (0 : Int) ≤ _; omega, by show _ ≤ (1 : Int); omega⟩ y_nil))) rfl (y_recv rfl hY_x) (fun t' h1 => by cases h1; exact ⟨_, _, _, _, hR⟩) (y_sub_ef (by decide +kernel)) fun v Yn o Hn L_ ho hr ha hIn hx_ hE hP => ?_
    replace hM := hM.E hY_mo hE (fun q u h => y_ext hx_ hI.1 h) (by decide +kernel) (by decide +kernel)
    obtain ⟨rA, gA, hra, hRn, hmA⟩ := hP _ _ _ _ _ _ _ rfl hR
    obtain rfl := hra
    replace hR := hRn
    replace hY_x := y_ext hx_ hI.1 hY_x
    replace hY_mo := y_ext hx_ hI.1 hY_mo
    clear ho hr ha hE hP hI hx_
    rename x_I _ _ _ _ _ _ _ _ _ _ => hI
    refine lv_pop hx hb la_d373 rfl ?_
    refine lv_aload_n hx hb la_d374 rfl (lv_at hl 3 rfl) ?_
    refine lv_aload_n hx hb la_d375 rfl (lv_at hl 1 rfl) ?_
    refine lv_iload_n hx hb la_d376 rfl (lv_at hl 0 rfl) ?_
    refine lv_iconst hx hb la_d377 (v := 1) (by decide) ?_
    refine lv_iadd hx hb la_d378 ?_
    generalize hg_z378 : i + (1 : Int32) = z378
    have h_z378 : z378.toInt = i.toInt + 1 := by rw [← hg_z378]; have := y_add (x := i) (y := (1 : Int32)) (by rw [ec1]; omega) (by rw [ec1]; omega); rw [ec1] at this; exact this
    refine va_sld hx hb hX hbl hbA hI.2.2.2 (z_vpin (by omega) (by omega)) la_d379 ?_
    obtain ⟨e379, hg_e379⟩ : ∃ e379 : Int32, xs z378.toNatClampNeg = e379 := ⟨_, rfl⟩
    rw [hg_e379]
    refine lv_aload_n hx hb la_d380 rfl (lv_at hl 1 rfl) ?_
    refine lv_iload_n hx hb la_d381 rfl (lv_at hl 0 rfl) ?_
    refine lv_iconst hx hb la_d382 (v := 2) (by decide) ?_
    refine lv_iadd hx hb la_d383 ?_
    generalize hg_z383 : i + (2 : Int32) = z383
    have h_z383 : z383.toInt = i.toInt + 2 := by rw [← hg_z383]; have := y_add (x := i) (y := (2 : Int32)) (by rw [ec2]; omega) (by rw [ec2]; omega); rw [ec2] at this; exact this
    refine va_sld hx hb hX hbl hbA hI.2.2.2 (z_vpin (by omega) (by omega)) la_d384 ?_
    obtain ⟨e384, hg_e384⟩ : ∃ e384 : Int32, xs z383.toNatClampNeg = e384 := ⟨_, rfl⟩
    rw [hg_e384]
    refine lv_if_eq hx hb la_d385 (tgt := 392) (by decide) (fun q385 => ?_) (fun q385 => ?_)
    · have q385_ : e384.toInt = (0 : Int32).toInt := by rw [q385]
      refine lv_iconst hx hb la_d392 (v := 0) (by decide) ?_
      obtain rfl : e356 = e379 := by rw [← hg_e356, ← hg_e379, ← hg_z355, ← hg_z378]
      obtain rfl : e361 = e384 := by rw [← hg_e361, ← hg_e384, ← hg_z360, ← hg_z383]
      exact (by omega : False).elim
    · have q385_ : ¬ e384.toInt = (0 : Int32).toInt := fun q => q385 (Int32.toInt_inj.mp q)
      refine lv_iconst hx hb la_d388 (v := 1) (by decide) ?_
      refine lv_goto hx hb la_d389 (tgt := 393) (by decide) ?_
      obtain rfl : e356 = e379 := by rw [← hg_e356, ← hg_e379, ← hg_z355, ← hg_z378]
      obtain rfl : e361 = e384 := by rw [← hg_e361, ← hg_e384, ← hg_z360, ← hg_z383]
      refine y_call (z := (0, 32, 3, some 17, xM165)) (av := [.ref mo, .int e356, .int (1 : Int32)]) (rest := []) (y_cokV (n := 2) (ci := 12) X ym_workX rfl rfl rfl (x_cons (x_bw69 15 rfl rfl) (x_cons (x_bw70 0 rfl rfl) (x_cons (x_bw70 1 rfl rfl) (x_cons (x_bw0 9 rfl rfl) x_nilm)))) (x_bw70 2 rfl rfl) (by decide +kernel) ⟨Nat.le_of_ble_eq_true rfl, Nat.le_of_ble_eq_true rfl⟩) hY0 hI rfl la_d393 hl.1 (Nat.le_of_ble_eq_true rfl) (by show (66 + 240 * j) + 0 + 0 ≤ 600000; omega) (by show (67411 + 1200 * j) + 0 + 0 ≤ 7302250; omega) (y_cons (y_cref hY_mo rfl) (y_cons ⟨_, rfl, x_i32 _⟩ (y_cons ⟨_, rfl, by show (0 : Int) ≤ _; omega, by show _ ≤ (1 : Int); omega⟩ y_nil))) rfl (y_recv rfl hY_mo) trivial (y_sub_ef (by decide +kernel)) fun v Yn o Hn L_ ho hr ha hIn hx_ hE hP => ?_
      replace hR := hR.E2 hY_x hE (fun q u h => y_ext hx_ hI.1 h) (by decide +kernel)
      obtain ⟨bk9, hb1, hb2, hb3⟩ := hM.bk
      obtain ⟨rB, gB, hrb, hAB, hmB⟩ := hP _ _ _ _ _ rfl hb1 hb2 hb3 hv.1.1
      obtain rfl := hrb
      have hi9 := hmA.i01 (by first | exact Or.inl rfl | exact Or.inr rfl) hv.1.1
      have hi8 := hmA.rg (by first | exact Or.inl rfl | exact Or.inr rfl) hv.2.1
      obtain ⟨w4, w5⟩ := hmA.eq hmB
      subst w4 w5
      replace hM := hM.book hY_mo hE (fun q u h => y_ext hx_ hI.1 h) (by decide +kernel) hR.zc (fun b hb => by cases hb1.symm.trans hb; exact hAB)
      replace hv : m_inv2 _ Kv := ⟨⟨hi9, hv.1.2⟩, hi8, hv.2.2⟩
      replace hY_x := y_ext hx_ hI.1 hY_x
      replace hY_mo := y_ext hx_ hI.1 hY_mo
      clear ho hr ha hE hP hI hx_
      rename x_I _ _ _ _ _ _ _ _ _ _ => hI
      refine lv_pop hx hb la_d396 rfl ?_
      refine lv_goto hx hb la_d397 (tgt := 1501) (by decide) ?_
      refine W.widen (k := (66 + 240 * (j + 1))) (n := (67411 + 1200 * (j + 1))) (by show (66 + 240 * j) + 0 + 0 ≤ (66 + 240 * (j + 1)); omega) (by show (67411 + 1200 * j) + 0 + 0 ≤ (67411 + 1200 * (j + 1)); omega) ?_
      exact out _ _ _ _ _ _ _ _ hI hY_x hY_mo hR hM hv (lv_sub hl [0, 1, 2, 3] rfl)
theorem la_c4 {p : Program} {l : Launch} {e : Env} {s : State} {m : MethodId} {below : List Frame} {meth : Method} {c : Code} {D : va_G} {b L : Nat} {xs : Nat → Int32} (X : x_cx p s m #[Value.ref b] c D s xMlaw.2.1 xMlaw.2.2.1 vwCl x_Tb x_Nb "TwinFiresLaw") (hrt : meth.sig.returnType = ret) (hlk : meth.locks = false) (hX : va_X b L xs s s.heap) (hbl : b < s.heap.size) (hL : L ≤ 3072) {x mo : Nat} {i : Int32} {j : Nat} (hi : i.toInt = 6 * (j : Int)) (hj : 6 * j + 6 ≤ L)
    (out : ∀ (H : Heap) (Y : xY) (locs : List Loc) (ls : Array Slot) (fv : Nat → Int32) (Kv : Nat → Option (Nat → Int32)) (tv : Nat → Int32) (nv : Int32), x_I D x_G x_Zs s (x_efs xMlaw) z_Y0 s.heap Y H locs → Y x = some 0 → Y mo = some 17 → z_RC D Y H x fv Kv tv nv → z_RM D Y H mo fv Kv tv nv → m_inv2 fv Kv → lv_has ls 4 [(3, .int i), (0, .ref b), (1, .ref x), (2, .ref mo)] → W p l e room_1 s m #[Value.ref b] below meth c H locs (66 + 240 * (j + 1)) (67411 + 1200 * (j + 1)) (lw_Z below #[Value.ref b] s) (F0 m 1501 ls [])) :
    ∀ (H : Heap) (Y : xY) (locs : List Loc) (ls : Array Slot) (fv : Nat → Int32) (Kv : Nat → Option (Nat → Int32)) (tv : Nat → Int32) (nv : Int32), x_I D x_G x_Zs s (x_efs xMlaw) z_Y0 s.heap Y H locs → Y x = some 0 → Y mo = some 17 → z_RC D Y H x fv Kv tv nv → z_RM D Y H mo fv Kv tv nv → m_inv2 fv Kv → lv_has ls 4 [(3, .int i), (0, .ref b), (1, .ref x), (2, .ref mo)] → W p l e room_1 s m #[Value.ref b] below meth c H locs (66 + 240 * j) (67411 + 1200 * j) (lw_Z below #[Value.ref b] s) (F0 m 400 ls []) := by
  have hx := X.1
  have hb := X.2.1
  have hts := X.2.2.2.2.1
  have hY0 : ∀ q u, z_Y0 q = some u → q < s.heap.size := fun q u h => by cases h
  have hbA : ¬ ((∃ t, z_Y0 b = some t) ∨ s.heap.size ≤ b) := fun h => by
    rcases h with ⟨t, h⟩ | h
    · cases h
    · omega
  intro H Y locs ls fv Kv tv nv hI hY_x hY_mo hR hM hv hl
  refine lv_aload_n hx hb la_d400 rfl (lv_at hl 2 rfl) ?_
  refine lv_aload_n hx hb la_d401 rfl (lv_at hl 1 rfl) ?_
  refine lv_iload_n hx hb la_d402 rfl (lv_at hl 0 rfl) ?_
  refine lv_iconst hx hb la_d403 (v := 1) (by decide) ?_
  have ec1 : (1 : Int32).toInt = 1 := by decide
  refine lv_iadd hx hb la_d404 ?_
  generalize hg_z404 : i + (1 : Int32) = z404
  have h_z404 : z404.toInt = i.toInt + 1 := by rw [← hg_z404]; have := y_add (x := i) (y := (1 : Int32)) (by rw [ec1]; omega) (by rw [ec1]; omega); rw [ec1] at this; exact this
  refine va_sld hx hb hX hbl hbA hI.2.2.2 (z_vpin (by omega) (by omega)) la_d405 ?_
  obtain ⟨e405, hg_e405⟩ : ∃ e405 : Int32, xs z404.toNatClampNeg = e405 := ⟨_, rfl⟩
  rw [hg_e405]
  refine lv_aload_n hx hb la_d406 rfl (lv_at hl 1 rfl) ?_
  refine lv_iload_n hx hb la_d407 rfl (lv_at hl 0 rfl) ?_
  refine lv_iconst hx hb la_d408 (v := 2) (by decide) ?_
  have ec2 : (2 : Int32).toInt = 2 := by decide
  refine lv_iadd hx hb la_d409 ?_
  generalize hg_z409 : i + (2 : Int32) = z409
  have h_z409 : z409.toInt = i.toInt + 2 := by rw [← hg_z409]; have := y_add (x := i) (y := (2 : Int32)) (by rw [ec2]; omega) (by rw [ec2]; omega); rw [ec2] at this; exact this
  refine va_sld hx hb hX hbl hbA hI.2.2.2 (z_vpin (by omega) (by omega)) la_d410 ?_
  obtain ⟨e410, hg_e410⟩ : ∃ e410 : Int32, xs z409.toNatClampNeg = e410 := ⟨_, rfl⟩
  rw [hg_e410]
  have hbd := hR.bd hI.1
  refine y_call (z := (0, 33, 3, some 0, xM30)) (av := [.ref x, .int e405, .int e410]) (rest := []) (y_cokV (n := 2) (ci := 11) X ym_Tcost rfl rfl rfl (x_cons (x_bw26 6 rfl rfl) (x_cons (x_bw26 7 rfl rfl) (x_cons (x_bw26 8 rfl rfl) (x_cons (x_bw0 1 rfl rfl) x_nilm)))) (x_bw26 9 rfl rfl) (by decide +kernel) ⟨Nat.le_of_ble_eq_true rfl, Nat.le_of_ble_eq_true rfl⟩) hY0 hI rfl la_d411 hl.1 (Nat.le_of_ble_eq_true rfl) (by show (66 + 240 * j) + 0 ≤ 600000; omega) (by show (67411 + 1200 * j) + 0 ≤ 7302250; omega) (y_cons (y_cref hY_x rfl) (y_cons ⟨_, rfl, x_i32 _⟩ (y_cons ⟨_, rfl, x_i32 _⟩ y_nil))) rfl (y_recv rfl hY_x) (fun t' h1 => by cases h1; exact ⟨_, _, _, _, hR⟩) (y_sub_ef (by decide +kernel)) fun v Yn o Hn L_ ho hr ha hIn hx_ hE hP => ?_
  replace hM := hM.E hY_mo hE (fun q u h => y_ext hx_ hI.1 h) (by decide +kernel) (by decide +kernel)
  obtain ⟨rA, gA, hra, hRn, hmA⟩ := hP _ _ _ _ _ _ _ rfl hR
  obtain rfl := hra
  replace hR := hRn
  replace hY_x := y_ext hx_ hI.1 hY_x
  replace hY_mo := y_ext hx_ hI.1 hY_mo
  clear ho hr ha hE hP hI hx_
  rename x_I _ _ _ _ _ _ _ _ _ _ => hI
  refine lv_pop hx hb la_d414 rfl ?_
  refine lv_aload_n hx hb la_d415 rfl (lv_at hl 3 rfl) ?_
  refine lv_aload_n hx hb la_d416 rfl (lv_at hl 1 rfl) ?_
  refine lv_iload_n hx hb la_d417 rfl (lv_at hl 0 rfl) ?_
  refine lv_iconst hx hb la_d418 (v := 1) (by decide) ?_
  refine lv_iadd hx hb la_d419 ?_
  generalize hg_z419 : i + (1 : Int32) = z419
  have h_z419 : z419.toInt = i.toInt + 1 := by rw [← hg_z419]; have := y_add (x := i) (y := (1 : Int32)) (by rw [ec1]; omega) (by rw [ec1]; omega); rw [ec1] at this; exact this
  refine va_sld hx hb hX hbl hbA hI.2.2.2 (z_vpin (by omega) (by omega)) la_d420 ?_
  obtain ⟨e420, hg_e420⟩ : ∃ e420 : Int32, xs z419.toNatClampNeg = e420 := ⟨_, rfl⟩
  rw [hg_e420]
  refine lv_aload_n hx hb la_d421 rfl (lv_at hl 1 rfl) ?_
  refine lv_iload_n hx hb la_d422 rfl (lv_at hl 0 rfl) ?_
  refine lv_iconst hx hb la_d423 (v := 2) (by decide) ?_
  refine lv_iadd hx hb la_d424 ?_
  generalize hg_z424 : i + (2 : Int32) = z424
  have h_z424 : z424.toInt = i.toInt + 2 := by rw [← hg_z424]; have := y_add (x := i) (y := (2 : Int32)) (by rw [ec2]; omega) (by rw [ec2]; omega); rw [ec2] at this; exact this
  refine va_sld hx hb hX hbl hbA hI.2.2.2 (z_vpin (by omega) (by omega)) la_d425 ?_
  obtain ⟨e425, hg_e425⟩ : ∃ e425 : Int32, xs z424.toNatClampNeg = e425 := ⟨_, rfl⟩
  rw [hg_e425]
  obtain rfl : e405 = e420 := by rw [← hg_e405, ← hg_e420, ← hg_z404, ← hg_z419]
  obtain rfl : e410 = e425 := by rw [← hg_e410, ← hg_e425, ← hg_z409, ← hg_z424]
  refine y_call (z := (0, 36, 3, some 17, xM166)) (av := [.ref mo, .int e405, .int e410]) (rest := []) (y_cokV (n := 2) (ci := 12) X ym_costX rfl rfl rfl (x_cons (x_bw70 15 rfl rfl) (x_cons (x_bw71 0 rfl rfl) (x_cons (x_bw71 1 rfl rfl) (x_cons (x_bw0 9 rfl rfl) x_nilm)))) (x_bw71 2 rfl rfl) (by decide +kernel) ⟨Nat.le_of_ble_eq_true rfl, Nat.le_of_ble_eq_true rfl⟩) hY0 hI rfl la_d426 hl.1 (Nat.le_of_ble_eq_true rfl) (by show (66 + 240 * j) + 0 + 0 ≤ 600000; omega) (by show (67411 + 1200 * j) + 0 + 0 ≤ 7302250; omega) (y_cons (y_cref hY_mo rfl) (y_cons ⟨_, rfl, x_i32 _⟩ (y_cons ⟨_, rfl, x_i32 _⟩ y_nil))) rfl (y_recv rfl hY_mo) trivial (y_sub_ef (by decide +kernel)) fun v Yn o Hn L_ ho hr ha hIn hx_ hE hP => ?_
  replace hR := hR.E2 hY_x hE (fun q u h => y_ext hx_ hI.1 h) (by decide +kernel)
  obtain ⟨bk9, hb1, hb2, hb3⟩ := hM.bk
  obtain ⟨rB, gB, hrb, hAB, hmB⟩ := hP _ _ _ _ _ rfl hb1 hb2 hb3
  obtain rfl := hrb
  have hi9 := hmA.i01 (fun q9 j hj => by omega) hv.1.1
  have hi8 := hmA.rg (fun q9 => .of (m_T2 _ (by have h8 := hv.2.1.n1; have h9 := q9.1; unfold m_isT at h9; omega)).2.2.2.2.2.2 q9.2) hv.2.1
  obtain ⟨w4, w5⟩ := hmA.eq hmB
  subst w4 w5
  replace hM := hM.book hY_mo hE (fun q u h => y_ext hx_ hI.1 h) (by decide +kernel) hR.zc (fun b hb => by cases hb1.symm.trans hb; exact hAB)
  replace hv : m_inv2 _ Kv := ⟨⟨hi9, hv.1.2⟩, hi8, hv.2.2⟩
  replace hY_x := y_ext hx_ hI.1 hY_x
  replace hY_mo := y_ext hx_ hI.1 hY_mo
  clear ho hr ha hE hP hI hx_
  rename x_I _ _ _ _ _ _ _ _ _ _ => hI
  refine lv_pop hx hb la_d429 rfl ?_
  refine lv_goto hx hb la_d430 (tgt := 1501) (by decide) ?_
  refine W.widen (k := (66 + 240 * (j + 1))) (n := (67411 + 1200 * (j + 1))) (by show (66 + 240 * j) + 0 + 0 ≤ (66 + 240 * (j + 1)); omega) (by show (67411 + 1200 * j) + 0 + 0 ≤ (67411 + 1200 * (j + 1)); omega) ?_
  exact out _ _ _ _ _ _ _ _ hI hY_x hY_mo hR hM hv (lv_sub hl [0, 1, 2, 3] rfl)
theorem la_c5 {p : Program} {l : Launch} {e : Env} {s : State} {m : MethodId} {below : List Frame} {meth : Method} {c : Code} {D : va_G} {b L : Nat} {xs : Nat → Int32} (X : x_cx p s m #[Value.ref b] c D s xMlaw.2.1 xMlaw.2.2.1 vwCl x_Tb x_Nb "TwinFiresLaw") (hrt : meth.sig.returnType = ret) (hlk : meth.locks = false) (hX : va_X b L xs s s.heap) (hbl : b < s.heap.size) (hL : L ≤ 3072) {x mo : Nat} {i : Int32} {j : Nat} (hi : i.toInt = 6 * (j : Int)) (hj : 6 * j + 6 ≤ L)
    (out : ∀ (H : Heap) (Y : xY) (locs : List Loc) (ls : Array Slot) (fv : Nat → Int32) (Kv : Nat → Option (Nat → Int32)) (tv : Nat → Int32) (nv : Int32), x_I D x_G x_Zs s (x_efs xMlaw) z_Y0 s.heap Y H locs → Y x = some 0 → Y mo = some 17 → z_RC D Y H x fv Kv tv nv → z_RM D Y H mo fv Kv tv nv → m_inv2 fv Kv → lv_has ls 4 [(3, .int i), (0, .ref b), (1, .ref x), (2, .ref mo)] → W p l e room_1 s m #[Value.ref b] below meth c H locs (66 + 240 * (j + 1)) (67411 + 1200 * (j + 1)) (lw_Z below #[Value.ref b] s) (F0 m 1501 ls [])) :
    ∀ (H : Heap) (Y : xY) (locs : List Loc) (ls : Array Slot) (fv : Nat → Int32) (Kv : Nat → Option (Nat → Int32)) (tv : Nat → Int32) (nv : Int32), x_I D x_G x_Zs s (x_efs xMlaw) z_Y0 s.heap Y H locs → Y x = some 0 → Y mo = some 17 → z_RC D Y H x fv Kv tv nv → z_RM D Y H mo fv Kv tv nv → m_inv2 fv Kv → lv_has ls 4 [(3, .int i), (0, .ref b), (1, .ref x), (2, .ref mo)] → W p l e room_1 s m #[Value.ref b] below meth c H locs (66 + 240 * j) (67411 + 1200 * j) (lw_Z below #[Value.ref b] s) (F0 m 433 ls []) := by
  have hx := X.1
  have hb := X.2.1
  have hts := X.2.2.2.2.1
  have hY0 : ∀ q u, z_Y0 q = some u → q < s.heap.size := fun q u h => by cases h
  have hbA : ¬ ((∃ t, z_Y0 b = some t) ∨ s.heap.size ≤ b) := fun h => by
    rcases h with ⟨t, h⟩ | h
    · cases h
    · omega
  intro H Y locs ls fv Kv tv nv hI hY_x hY_mo hR hM hv hl
  refine lv_aload_n hx hb la_d433 rfl (lv_at hl 2 rfl) ?_
  refine lv_aload_n hx hb la_d434 rfl (lv_at hl 1 rfl) ?_
  refine lv_iload_n hx hb la_d435 rfl (lv_at hl 0 rfl) ?_
  refine lv_iconst hx hb la_d436 (v := 1) (by decide) ?_
  have ec1 : (1 : Int32).toInt = 1 := by decide
  refine lv_iadd hx hb la_d437 ?_
  generalize hg_z437 : i + (1 : Int32) = z437
  have h_z437 : z437.toInt = i.toInt + 1 := by rw [← hg_z437]; have := y_add (x := i) (y := (1 : Int32)) (by rw [ec1]; omega) (by rw [ec1]; omega); rw [ec1] at this; exact this
  refine va_sld hx hb hX hbl hbA hI.2.2.2 (z_vpin (by omega) (by omega)) la_d438 ?_
  obtain ⟨e438, hg_e438⟩ : ∃ e438 : Int32, xs z437.toNatClampNeg = e438 := ⟨_, rfl⟩
  rw [hg_e438]
  refine y_call (z := (0, 37, 2, some 0, xM39)) (av := [.ref x, .int e438]) (rest := []) (y_cok.of (x_cokV (n := 1) (ci := 11) X xm39 rfl rfl rfl (x_cons (x_bw26 10 rfl rfl) (x_cons (x_bw26 11 rfl rfl) (x_cons (x_bw26 12 rfl rfl) (x_cons (x_bw0 1 rfl rfl) x_nilm)))) (x_bw26 13 rfl rfl) (by decide +kernel) ⟨Nat.le_of_ble_eq_true rfl, Nat.le_of_ble_eq_true rfl⟩)) hY0 hI rfl la_d439 hl.1 (Nat.le_of_ble_eq_true rfl) (by show (66 + 240 * j) + 0 ≤ 600000; omega) (by show (67411 + 1200 * j) + 0 ≤ 7302250; omega) (y_cons (y_cref hY_x rfl) (y_cons ⟨_, rfl, x_i32 _⟩ y_nil)) rfl (y_recv rfl hY_x) trivial (y_sub_ef (by decide +kernel)) fun v Yn o Hn L_ ho hr ha hIn hx_ hE hP => ?_
  replace hM := hM.E hY_mo hE (fun q u h => y_ext hx_ hI.1 h) (by decide +kernel) (by decide +kernel)
  replace hR := hR.E2 hY_x hE (fun q u h => y_ext hx_ hI.1 h) (by decide +kernel)
  replace hY_x := y_ext hx_ hI.1 hY_x
  replace hY_mo := y_ext hx_ hI.1 hY_mo
  obtain ⟨r439, rfl, h_r439⟩ := y_ansI (lo := (-2147483648)) (hi := 2147483647) (by decide) ho hr
  clear ho hr ha hE hP hI hx_
  rename x_I _ _ _ _ _ _ _ _ _ _ => hI
  refine lv_pop hx hb la_d442 rfl ?_
  refine lv_aload_n hx hb la_d443 rfl (lv_at hl 3 rfl) ?_
  refine lv_aload_n hx hb la_d444 rfl (lv_at hl 1 rfl) ?_
  refine lv_iload_n hx hb la_d445 rfl (lv_at hl 0 rfl) ?_
  refine lv_iconst hx hb la_d446 (v := 1) (by decide) ?_
  refine lv_iadd hx hb la_d447 ?_
  generalize hg_z447 : i + (1 : Int32) = z447
  have h_z447 : z447.toInt = i.toInt + 1 := by rw [← hg_z447]; have := y_add (x := i) (y := (1 : Int32)) (by rw [ec1]; omega) (by rw [ec1]; omega); rw [ec1] at this; exact this
  refine va_sld hx hb hX hbl hbA hI.2.2.2 (z_vpin (by omega) (by omega)) la_d448 ?_
  obtain ⟨e448, hg_e448⟩ : ∃ e448 : Int32, xs z447.toNatClampNeg = e448 := ⟨_, rfl⟩
  rw [hg_e448]
  refine y_call (z := (0, 41, 2, some 17, xM169)) (av := [.ref mo, .int e448]) (rest := []) (y_cok.of (x_cokV (n := 1) (ci := 12) X xm169 rfl rfl rfl (x_cons (x_bw71 3 rfl rfl) (x_cons (x_bw71 4 rfl rfl) (x_cons (x_bw71 5 rfl rfl) (x_cons (x_bw0 9 rfl rfl) x_nilm)))) (x_bw71 6 rfl rfl) (by decide +kernel) ⟨Nat.le_of_ble_eq_true rfl, Nat.le_of_ble_eq_true rfl⟩)) hY0 hI rfl la_d449 hl.1 (Nat.le_of_ble_eq_true rfl) (by show (66 + 240 * j) + 0 + 0 ≤ 600000; omega) (by show (67411 + 1200 * j) + 0 + 0 ≤ 7302250; omega) (y_cons (y_cref hY_mo rfl) (y_cons ⟨_, rfl, x_i32 _⟩ y_nil)) rfl (y_recv rfl hY_mo) trivial (y_sub_ef (by decide +kernel)) fun v Yn o Hn L_ ho hr ha hIn hx_ hE hP => ?_
  replace hR := hR.E2 hY_x hE (fun q u h => y_ext hx_ hI.1 h) (by decide +kernel)
  replace hM := hM.E hY_mo hE (fun q u h => y_ext hx_ hI.1 h) (by decide +kernel) (by decide +kernel)
  replace hY_x := y_ext hx_ hI.1 hY_x
  replace hY_mo := y_ext hx_ hI.1 hY_mo
  obtain ⟨r449, rfl, h_r449⟩ := y_ansI (lo := (-2147483648)) (hi := 2147483647) (by decide) ho hr
  clear ho hr ha hE hP hI hx_
  rename x_I _ _ _ _ _ _ _ _ _ _ => hI
  refine lv_pop hx hb la_d452 rfl ?_
  refine lv_goto hx hb la_d453 (tgt := 1501) (by decide) ?_
  refine W.widen (k := (66 + 240 * (j + 1))) (n := (67411 + 1200 * (j + 1))) (by show (66 + 240 * j) + 0 + 0 ≤ (66 + 240 * (j + 1)); omega) (by show (67411 + 1200 * j) + 0 + 0 ≤ (67411 + 1200 * (j + 1)); omega) ?_
  exact out _ _ _ _ _ _ _ _ hI hY_x hY_mo hR hM hv (lv_sub hl [0, 1, 2, 3] rfl)
theorem la_c6 {p : Program} {l : Launch} {e : Env} {s : State} {m : MethodId} {below : List Frame} {meth : Method} {c : Code} {D : va_G} {b L : Nat} {xs : Nat → Int32} (X : x_cx p s m #[Value.ref b] c D s xMlaw.2.1 xMlaw.2.2.1 vwCl x_Tb x_Nb "TwinFiresLaw") (hrt : meth.sig.returnType = ret) (hlk : meth.locks = false) (hX : va_X b L xs s s.heap) (hbl : b < s.heap.size) (hL : L ≤ 3072) {x mo : Nat} {i : Int32} {j : Nat} (hi : i.toInt = 6 * (j : Int)) (hj : 6 * j + 6 ≤ L)
    (out : ∀ (H : Heap) (Y : xY) (locs : List Loc) (ls : Array Slot) (fv : Nat → Int32) (Kv : Nat → Option (Nat → Int32)) (tv : Nat → Int32) (nv : Int32), x_I D x_G x_Zs s (x_efs xMlaw) z_Y0 s.heap Y H locs → Y x = some 0 → Y mo = some 17 → z_RC D Y H x fv Kv tv nv → z_RM D Y H mo fv Kv tv nv → m_inv2 fv Kv → lv_has ls 4 [(3, .int i), (0, .ref b), (1, .ref x), (2, .ref mo)] → W p l e room_1 s m #[Value.ref b] below meth c H locs (66 + 240 * (j + 1)) (67411 + 1200 * (j + 1)) (lw_Z below #[Value.ref b] s) (F0 m 1501 ls [])) :
    ∀ (H : Heap) (Y : xY) (locs : List Loc) (ls : Array Slot) (fv : Nat → Int32) (Kv : Nat → Option (Nat → Int32)) (tv : Nat → Int32) (nv : Int32), x_I D x_G x_Zs s (x_efs xMlaw) z_Y0 s.heap Y H locs → Y x = some 0 → Y mo = some 17 → z_RC D Y H x fv Kv tv nv → z_RM D Y H mo fv Kv tv nv → m_inv2 fv Kv → lv_has ls 4 [(3, .int i), (0, .ref b), (1, .ref x), (2, .ref mo)] → W p l e room_1 s m #[Value.ref b] below meth c H locs (66 + 240 * j) (67411 + 1200 * j) (lw_Z below #[Value.ref b] s) (F0 m 456 ls []) := by
  have hx := X.1
  have hb := X.2.1
  have hts := X.2.2.2.2.1
  have hY0 : ∀ q u, z_Y0 q = some u → q < s.heap.size := fun q u h => by cases h
  have hbA : ¬ ((∃ t, z_Y0 b = some t) ∨ s.heap.size ≤ b) := fun h => by
    rcases h with ⟨t, h⟩ | h
    · cases h
    · omega
  intro H Y locs ls fv Kv tv nv hI hY_x hY_mo hR hM hv hl
  refine lv_aload_n hx hb la_d456 rfl (lv_at hl 2 rfl) ?_
  refine lv_aload_n hx hb la_d457 rfl (lv_at hl 1 rfl) ?_
  refine lv_iload_n hx hb la_d458 rfl (lv_at hl 0 rfl) ?_
  refine lv_iconst hx hb la_d459 (v := 1) (by decide) ?_
  have ec1 : (1 : Int32).toInt = 1 := by decide
  refine lv_iadd hx hb la_d460 ?_
  generalize hg_z460 : i + (1 : Int32) = z460
  have h_z460 : z460.toInt = i.toInt + 1 := by rw [← hg_z460]; have := y_add (x := i) (y := (1 : Int32)) (by rw [ec1]; omega) (by rw [ec1]; omega); rw [ec1] at this; exact this
  refine va_sld hx hb hX hbl hbA hI.2.2.2 (z_vpin (by omega) (by omega)) la_d461 ?_
  obtain ⟨e461, hg_e461⟩ : ∃ e461 : Int32, xs z460.toNatClampNeg = e461 := ⟨_, rfl⟩
  rw [hg_e461]
  refine lv_aload_n hx hb la_d462 rfl (lv_at hl 1 rfl) ?_
  refine lv_iload_n hx hb la_d463 rfl (lv_at hl 0 rfl) ?_
  refine lv_iconst hx hb la_d464 (v := 2) (by decide) ?_
  have ec2 : (2 : Int32).toInt = 2 := by decide
  refine lv_iadd hx hb la_d465 ?_
  generalize hg_z465 : i + (2 : Int32) = z465
  have h_z465 : z465.toInt = i.toInt + 2 := by rw [← hg_z465]; have := y_add (x := i) (y := (2 : Int32)) (by rw [ec2]; omega) (by rw [ec2]; omega); rw [ec2] at this; exact this
  refine va_sld hx hb hX hbl hbA hI.2.2.2 (z_vpin (by omega) (by omega)) la_d466 ?_
  obtain ⟨e466, hg_e466⟩ : ∃ e466 : Int32, xs z465.toNatClampNeg = e466 := ⟨_, rfl⟩
  rw [hg_e466]
  refine y_call (z := (0, 42, 3, some 0, xM53)) (av := [.ref x, .int e461, .int e466]) (rest := []) (y_cok.of (x_cokV (n := 2) (ci := 11) X xm53 rfl rfl rfl (x_cons (x_bw29 4 rfl rfl) (x_cons (x_bw29 5 rfl rfl) (x_cons (x_bw29 6 rfl rfl) (x_cons (x_bw0 1 rfl rfl) x_nilm)))) (x_bw29 7 rfl rfl) (by decide +kernel) ⟨Nat.le_of_ble_eq_true rfl, Nat.le_of_ble_eq_true rfl⟩)) hY0 hI rfl la_d467 hl.1 (Nat.le_of_ble_eq_true rfl) (by show (66 + 240 * j) + 0 ≤ 600000; omega) (by show (67411 + 1200 * j) + 0 ≤ 7302250; omega) (y_cons (y_cref hY_x rfl) (y_cons ⟨_, rfl, x_i32 _⟩ (y_cons ⟨_, rfl, x_i32 _⟩ y_nil))) rfl (y_recv rfl hY_x) trivial (y_sub_ef (by decide +kernel)) fun v Yn o Hn L_ ho hr ha hIn hx_ hE hP => ?_
  replace hM := hM.E hY_mo hE (fun q u h => y_ext hx_ hI.1 h) (by decide +kernel) (by decide +kernel)
  replace hR := hR.E2 hY_x hE (fun q u h => y_ext hx_ hI.1 h) (by decide +kernel)
  replace hY_x := y_ext hx_ hI.1 hY_x
  replace hY_mo := y_ext hx_ hI.1 hY_mo
  obtain ⟨r467, rfl, h_r467⟩ := y_ansI (lo := (-2147483648)) (hi := 2147483647) (by decide) ho hr
  clear ho hr ha hE hP hI hx_
  rename x_I _ _ _ _ _ _ _ _ _ _ => hI
  refine lv_pop hx hb la_d470 rfl ?_
  refine lv_aload_n hx hb la_d471 rfl (lv_at hl 3 rfl) ?_
  refine lv_aload_n hx hb la_d472 rfl (lv_at hl 1 rfl) ?_
  refine lv_iload_n hx hb la_d473 rfl (lv_at hl 0 rfl) ?_
  refine lv_iconst hx hb la_d474 (v := 1) (by decide) ?_
  refine lv_iadd hx hb la_d475 ?_
  generalize hg_z475 : i + (1 : Int32) = z475
  have h_z475 : z475.toInt = i.toInt + 1 := by rw [← hg_z475]; have := y_add (x := i) (y := (1 : Int32)) (by rw [ec1]; omega) (by rw [ec1]; omega); rw [ec1] at this; exact this
  refine va_sld hx hb hX hbl hbA hI.2.2.2 (z_vpin (by omega) (by omega)) la_d476 ?_
  obtain ⟨e476, hg_e476⟩ : ∃ e476 : Int32, xs z475.toNatClampNeg = e476 := ⟨_, rfl⟩
  rw [hg_e476]
  refine lv_aload_n hx hb la_d477 rfl (lv_at hl 1 rfl) ?_
  refine lv_iload_n hx hb la_d478 rfl (lv_at hl 0 rfl) ?_
  refine lv_iconst hx hb la_d479 (v := 2) (by decide) ?_
  refine lv_iadd hx hb la_d480 ?_
  generalize hg_z480 : i + (2 : Int32) = z480
  have h_z480 : z480.toInt = i.toInt + 2 := by rw [← hg_z480]; have := y_add (x := i) (y := (2 : Int32)) (by rw [ec2]; omega) (by rw [ec2]; omega); rw [ec2] at this; exact this
  refine va_sld hx hb hX hbl hbA hI.2.2.2 (z_vpin (by omega) (by omega)) la_d481 ?_
  obtain ⟨e481, hg_e481⟩ : ∃ e481 : Int32, xs z480.toNatClampNeg = e481 := ⟨_, rfl⟩
  rw [hg_e481]
  refine y_call (z := (0, 45, 3, some 17, xM174)) (av := [.ref mo, .int e476, .int e481]) (rest := []) (y_cok.of (x_cokV (n := 2) (ci := 12) X xm174 rfl rfl rfl (x_cons (x_bw71 14 rfl rfl) (x_cons (x_bw71 15 rfl rfl) (x_cons (x_bw72 0 rfl rfl) (x_cons (x_bw0 9 rfl rfl) x_nilm)))) (x_bw72 1 rfl rfl) (by decide +kernel) ⟨Nat.le_of_ble_eq_true rfl, Nat.le_of_ble_eq_true rfl⟩)) hY0 hI rfl la_d482 hl.1 (Nat.le_of_ble_eq_true rfl) (by show (66 + 240 * j) + 0 + 0 ≤ 600000; omega) (by show (67411 + 1200 * j) + 0 + 0 ≤ 7302250; omega) (y_cons (y_cref hY_mo rfl) (y_cons ⟨_, rfl, x_i32 _⟩ (y_cons ⟨_, rfl, x_i32 _⟩ y_nil))) rfl (y_recv rfl hY_mo) trivial (y_sub_ef (by decide +kernel)) fun v Yn o Hn L_ ho hr ha hIn hx_ hE hP => ?_
  replace hR := hR.E2 hY_x hE (fun q u h => y_ext hx_ hI.1 h) (by decide +kernel)
  replace hM := hM.E hY_mo hE (fun q u h => y_ext hx_ hI.1 h) (by decide +kernel) (by decide +kernel)
  replace hY_x := y_ext hx_ hI.1 hY_x
  replace hY_mo := y_ext hx_ hI.1 hY_mo
  obtain ⟨r482, rfl, h_r482⟩ := y_ansI (lo := (-2147483648)) (hi := 2147483647) (by decide) ho hr
  clear ho hr ha hE hP hI hx_
  rename x_I _ _ _ _ _ _ _ _ _ _ => hI
  refine lv_pop hx hb la_d485 rfl ?_
  refine lv_goto hx hb la_d486 (tgt := 1501) (by decide) ?_
  refine W.widen (k := (66 + 240 * (j + 1))) (n := (67411 + 1200 * (j + 1))) (by show (66 + 240 * j) + 0 + 0 ≤ (66 + 240 * (j + 1)); omega) (by show (67411 + 1200 * j) + 0 + 0 ≤ (67411 + 1200 * (j + 1)); omega) ?_
  exact out _ _ _ _ _ _ _ _ hI hY_x hY_mo hR hM hv (lv_sub hl [0, 1, 2, 3] rfl)
theorem la_c7 {p : Program} {l : Launch} {e : Env} {s : State} {m : MethodId} {below : List Frame} {meth : Method} {c : Code} {D : va_G} {b L : Nat} {xs : Nat → Int32} (X : x_cx p s m #[Value.ref b] c D s xMlaw.2.1 xMlaw.2.2.1 vwCl x_Tb x_Nb "TwinFiresLaw") (hrt : meth.sig.returnType = ret) (hlk : meth.locks = false) (hX : va_X b L xs s s.heap) (hbl : b < s.heap.size) (hL : L ≤ 3072) {x mo : Nat} {i : Int32} {j : Nat} (hi : i.toInt = 6 * (j : Int)) (hj : 6 * j + 6 ≤ L)
    (out : ∀ (H : Heap) (Y : xY) (locs : List Loc) (ls : Array Slot) (fv : Nat → Int32) (Kv : Nat → Option (Nat → Int32)) (tv : Nat → Int32) (nv : Int32), x_I D x_G x_Zs s (x_efs xMlaw) z_Y0 s.heap Y H locs → Y x = some 0 → Y mo = some 17 → z_RC D Y H x fv Kv tv nv → z_RM D Y H mo fv Kv tv nv → m_inv2 fv Kv → lv_has ls 4 [(3, .int i), (0, .ref b), (1, .ref x), (2, .ref mo)] → W p l e room_1 s m #[Value.ref b] below meth c H locs (66 + 240 * (j + 1)) (67411 + 1200 * (j + 1)) (lw_Z below #[Value.ref b] s) (F0 m 1501 ls [])) :
    ∀ (H : Heap) (Y : xY) (locs : List Loc) (ls : Array Slot) (fv : Nat → Int32) (Kv : Nat → Option (Nat → Int32)) (tv : Nat → Int32) (nv : Int32), x_I D x_G x_Zs s (x_efs xMlaw) z_Y0 s.heap Y H locs → Y x = some 0 → Y mo = some 17 → z_RC D Y H x fv Kv tv nv → z_RM D Y H mo fv Kv tv nv → m_inv2 fv Kv → lv_has ls 4 [(3, .int i), (0, .ref b), (1, .ref x), (2, .ref mo)] → W p l e room_1 s m #[Value.ref b] below meth c H locs (66 + 240 * j) (67411 + 1200 * j) (lw_Z below #[Value.ref b] s) (F0 m 489 ls []) := by
  have hx := X.1
  have hb := X.2.1
  have hts := X.2.2.2.2.1
  have hY0 : ∀ q u, z_Y0 q = some u → q < s.heap.size := fun q u h => by cases h
  have hbA : ¬ ((∃ t, z_Y0 b = some t) ∨ s.heap.size ≤ b) := fun h => by
    rcases h with ⟨t, h⟩ | h
    · cases h
    · omega
  intro H Y locs ls fv Kv tv nv hI hY_x hY_mo hR hM hv hl
  refine lv_aload_n hx hb la_d489 rfl (lv_at hl 2 rfl) ?_
  refine lv_aload_n hx hb la_d490 rfl (lv_at hl 1 rfl) ?_
  refine lv_iload_n hx hb la_d491 rfl (lv_at hl 0 rfl) ?_
  refine lv_iconst hx hb la_d492 (v := 1) (by decide) ?_
  have ec1 : (1 : Int32).toInt = 1 := by decide
  refine lv_iadd hx hb la_d493 ?_
  generalize hg_z493 : i + (1 : Int32) = z493
  have h_z493 : z493.toInt = i.toInt + 1 := by rw [← hg_z493]; have := y_add (x := i) (y := (1 : Int32)) (by rw [ec1]; omega) (by rw [ec1]; omega); rw [ec1] at this; exact this
  refine va_sld hx hb hX hbl hbA hI.2.2.2 (z_vpin (by omega) (by omega)) la_d494 ?_
  obtain ⟨e494, hg_e494⟩ : ∃ e494 : Int32, xs z493.toNatClampNeg = e494 := ⟨_, rfl⟩
  rw [hg_e494]
  refine lv_aload_n hx hb la_d495 rfl (lv_at hl 1 rfl) ?_
  refine lv_iload_n hx hb la_d496 rfl (lv_at hl 0 rfl) ?_
  refine lv_iconst hx hb la_d497 (v := 2) (by decide) ?_
  have ec2 : (2 : Int32).toInt = 2 := by decide
  refine lv_iadd hx hb la_d498 ?_
  generalize hg_z498 : i + (2 : Int32) = z498
  have h_z498 : z498.toInt = i.toInt + 2 := by rw [← hg_z498]; have := y_add (x := i) (y := (2 : Int32)) (by rw [ec2]; omega) (by rw [ec2]; omega); rw [ec2] at this; exact this
  refine va_sld hx hb hX hbl hbA hI.2.2.2 (z_vpin (by omega) (by omega)) la_d499 ?_
  obtain ⟨e499, hg_e499⟩ : ∃ e499 : Int32, xs z498.toNatClampNeg = e499 := ⟨_, rfl⟩
  rw [hg_e499]
  refine lv_aload_n hx hb la_d500 rfl (lv_at hl 1 rfl) ?_
  refine lv_iload_n hx hb la_d501 rfl (lv_at hl 0 rfl) ?_
  refine lv_iconst hx hb la_d502 (v := 3) (by decide) ?_
  have ec3 : (3 : Int32).toInt = 3 := by decide
  refine lv_iadd hx hb la_d503 ?_
  generalize hg_z503 : i + (3 : Int32) = z503
  have h_z503 : z503.toInt = i.toInt + 3 := by rw [← hg_z503]; have := y_add (x := i) (y := (3 : Int32)) (by rw [ec3]; omega) (by rw [ec3]; omega); rw [ec3] at this; exact this
  refine va_sld hx hb hX hbl hbA hI.2.2.2 (z_vpin (by omega) (by omega)) la_d504 ?_
  obtain ⟨e504, hg_e504⟩ : ∃ e504 : Int32, xs z503.toNatClampNeg = e504 := ⟨_, rfl⟩
  rw [hg_e504]
  refine y_call (z := (0, 46, 4, some 0, xM55)) (av := [.ref x, .int e494, .int e499, .int e504]) (rest := []) (y_cok.of (x_cokV (n := 3) (ci := 11) X xm55 rfl rfl rfl (x_cons (x_bw33 0 rfl rfl) (x_cons (x_bw33 1 rfl rfl) (x_cons (x_bw33 2 rfl rfl) (x_cons (x_bw0 1 rfl rfl) x_nilm)))) (x_bw33 3 rfl rfl) (by decide +kernel) ⟨Nat.le_of_ble_eq_true rfl, Nat.le_of_ble_eq_true rfl⟩)) hY0 hI rfl la_d505 hl.1 (Nat.le_of_ble_eq_true rfl) (by show (66 + 240 * j) + 0 ≤ 600000; omega) (by show (67411 + 1200 * j) + 0 ≤ 7302250; omega) (y_cons (y_cref hY_x rfl) (y_cons ⟨_, rfl, x_i32 _⟩ (y_cons ⟨_, rfl, x_i32 _⟩ (y_cons ⟨_, rfl, x_i32 _⟩ y_nil)))) rfl (y_recv rfl hY_x) trivial (y_sub_ef (by decide +kernel)) fun v Yn o Hn L_ ho hr ha hIn hx_ hE hP => ?_
  replace hM := hM.E hY_mo hE (fun q u h => y_ext hx_ hI.1 h) (by decide +kernel) (by decide +kernel)
  replace hR := hR.E2 hY_x hE (fun q u h => y_ext hx_ hI.1 h) (by decide +kernel)
  replace hY_x := y_ext hx_ hI.1 hY_x
  replace hY_mo := y_ext hx_ hI.1 hY_mo
  obtain ⟨r505, rfl, h_r505⟩ := y_ansI (lo := (-2147483648)) (hi := 2147483647) (by decide) ho hr
  clear ho hr ha hE hP hI hx_
  rename x_I _ _ _ _ _ _ _ _ _ _ => hI
  refine lv_pop hx hb la_d508 rfl ?_
  refine lv_aload_n hx hb la_d509 rfl (lv_at hl 3 rfl) ?_
  refine lv_aload_n hx hb la_d510 rfl (lv_at hl 1 rfl) ?_
  refine lv_iload_n hx hb la_d511 rfl (lv_at hl 0 rfl) ?_
  refine lv_iconst hx hb la_d512 (v := 1) (by decide) ?_
  refine lv_iadd hx hb la_d513 ?_
  generalize hg_z513 : i + (1 : Int32) = z513
  have h_z513 : z513.toInt = i.toInt + 1 := by rw [← hg_z513]; have := y_add (x := i) (y := (1 : Int32)) (by rw [ec1]; omega) (by rw [ec1]; omega); rw [ec1] at this; exact this
  refine va_sld hx hb hX hbl hbA hI.2.2.2 (z_vpin (by omega) (by omega)) la_d514 ?_
  obtain ⟨e514, hg_e514⟩ : ∃ e514 : Int32, xs z513.toNatClampNeg = e514 := ⟨_, rfl⟩
  rw [hg_e514]
  refine lv_aload_n hx hb la_d515 rfl (lv_at hl 1 rfl) ?_
  refine lv_iload_n hx hb la_d516 rfl (lv_at hl 0 rfl) ?_
  refine lv_iconst hx hb la_d517 (v := 2) (by decide) ?_
  refine lv_iadd hx hb la_d518 ?_
  generalize hg_z518 : i + (2 : Int32) = z518
  have h_z518 : z518.toInt = i.toInt + 2 := by rw [← hg_z518]; have := y_add (x := i) (y := (2 : Int32)) (by rw [ec2]; omega) (by rw [ec2]; omega); rw [ec2] at this; exact this
  refine va_sld hx hb hX hbl hbA hI.2.2.2 (z_vpin (by omega) (by omega)) la_d519 ?_
  obtain ⟨e519, hg_e519⟩ : ∃ e519 : Int32, xs z518.toNatClampNeg = e519 := ⟨_, rfl⟩
  rw [hg_e519]
  refine lv_aload_n hx hb la_d520 rfl (lv_at hl 1 rfl) ?_
  refine lv_iload_n hx hb la_d521 rfl (lv_at hl 0 rfl) ?_
  refine lv_iconst hx hb la_d522 (v := 3) (by decide) ?_
  refine lv_iadd hx hb la_d523 ?_
  generalize hg_z523 : i + (3 : Int32) = z523
  have h_z523 : z523.toInt = i.toInt + 3 := by rw [← hg_z523]; have := y_add (x := i) (y := (3 : Int32)) (by rw [ec3]; omega) (by rw [ec3]; omega); rw [ec3] at this; exact this
  refine va_sld hx hb hX hbl hbA hI.2.2.2 (z_vpin (by omega) (by omega)) la_d524 ?_
  obtain ⟨e524, hg_e524⟩ : ∃ e524 : Int32, xs z523.toNatClampNeg = e524 := ⟨_, rfl⟩
  rw [hg_e524]
  refine y_call (z := (0, 49, 4, some 17, xM1010)) (av := [.ref mo, .int e514, .int e519, .int e524]) (rest := []) (y_cok.of (x_cokV (n := 3) (ci := 12) X xm1010 rfl rfl rfl (x_cons (x_bw72 14 rfl rfl) (x_cons (x_bw72 15 rfl rfl) (x_cons (x_bw73 0 rfl rfl) (x_cons (x_bw0 9 rfl rfl) x_nilm)))) (x_bw73 1 rfl rfl) (by decide +kernel) ⟨Nat.le_of_ble_eq_true rfl, Nat.le_of_ble_eq_true rfl⟩)) hY0 hI rfl la_d525 hl.1 (Nat.le_of_ble_eq_true rfl) (by show (66 + 240 * j) + 0 + 0 ≤ 600000; omega) (by show (67411 + 1200 * j) + 0 + 0 ≤ 7302250; omega) (y_cons (y_cref hY_mo rfl) (y_cons ⟨_, rfl, x_i32 _⟩ (y_cons ⟨_, rfl, x_i32 _⟩ (y_cons ⟨_, rfl, x_i32 _⟩ y_nil)))) rfl (y_recv rfl hY_mo) trivial (y_sub_ef (by decide +kernel)) fun v Yn o Hn L_ ho hr ha hIn hx_ hE hP => ?_
  replace hR := hR.E2 hY_x hE (fun q u h => y_ext hx_ hI.1 h) (by decide +kernel)
  replace hM := hM.E hY_mo hE (fun q u h => y_ext hx_ hI.1 h) (by decide +kernel) (by decide +kernel)
  replace hY_x := y_ext hx_ hI.1 hY_x
  replace hY_mo := y_ext hx_ hI.1 hY_mo
  obtain ⟨r525, rfl, h_r525⟩ := y_ansI (lo := (-2147483648)) (hi := 2147483647) (by decide) ho hr
  clear ho hr ha hE hP hI hx_
  rename x_I _ _ _ _ _ _ _ _ _ _ => hI
  refine lv_pop hx hb la_d528 rfl ?_
  refine lv_goto hx hb la_d529 (tgt := 1501) (by decide) ?_
  refine W.widen (k := (66 + 240 * (j + 1))) (n := (67411 + 1200 * (j + 1))) (by show (66 + 240 * j) + 0 + 0 ≤ (66 + 240 * (j + 1)); omega) (by show (67411 + 1200 * j) + 0 + 0 ≤ (67411 + 1200 * (j + 1)); omega) ?_
  exact out _ _ _ _ _ _ _ _ hI hY_x hY_mo hR hM hv (lv_sub hl [0, 1, 2, 3] rfl)
theorem la_c8 {p : Program} {l : Launch} {e : Env} {s : State} {m : MethodId} {below : List Frame} {meth : Method} {c : Code} {D : va_G} {b L : Nat} {xs : Nat → Int32} (X : x_cx p s m #[Value.ref b] c D s xMlaw.2.1 xMlaw.2.2.1 vwCl x_Tb x_Nb "TwinFiresLaw") (hrt : meth.sig.returnType = ret) (hlk : meth.locks = false) (hX : va_X b L xs s s.heap) (hbl : b < s.heap.size) (hL : L ≤ 3072) {x mo : Nat} {i : Int32} {j : Nat} (hi : i.toInt = 6 * (j : Int)) (hj : 6 * j + 6 ≤ L)
    (out : ∀ (H : Heap) (Y : xY) (locs : List Loc) (ls : Array Slot) (fv : Nat → Int32) (Kv : Nat → Option (Nat → Int32)) (tv : Nat → Int32) (nv : Int32), x_I D x_G x_Zs s (x_efs xMlaw) z_Y0 s.heap Y H locs → Y x = some 0 → Y mo = some 17 → z_RC D Y H x fv Kv tv nv → z_RM D Y H mo fv Kv tv nv → m_inv2 fv Kv → lv_has ls 4 [(3, .int i), (0, .ref b), (1, .ref x), (2, .ref mo)] → W p l e room_1 s m #[Value.ref b] below meth c H locs (66 + 240 * (j + 1)) (67411 + 1200 * (j + 1)) (lw_Z below #[Value.ref b] s) (F0 m 1501 ls [])) :
    ∀ (H : Heap) (Y : xY) (locs : List Loc) (ls : Array Slot) (fv : Nat → Int32) (Kv : Nat → Option (Nat → Int32)) (tv : Nat → Int32) (nv : Int32), x_I D x_G x_Zs s (x_efs xMlaw) z_Y0 s.heap Y H locs → Y x = some 0 → Y mo = some 17 → z_RC D Y H x fv Kv tv nv → z_RM D Y H mo fv Kv tv nv → m_inv2 fv Kv → lv_has ls 4 [(3, .int i), (0, .ref b), (1, .ref x), (2, .ref mo)] → W p l e room_1 s m #[Value.ref b] below meth c H locs (66 + 240 * j) (67411 + 1200 * j) (lw_Z below #[Value.ref b] s) (F0 m 532 ls []) := by
  have hx := X.1
  have hb := X.2.1
  have hts := X.2.2.2.2.1
  have hY0 : ∀ q u, z_Y0 q = some u → q < s.heap.size := fun q u h => by cases h
  have hbA : ¬ ((∃ t, z_Y0 b = some t) ∨ s.heap.size ≤ b) := fun h => by
    rcases h with ⟨t, h⟩ | h
    · cases h
    · omega
  intro H Y locs ls fv Kv tv nv hI hY_x hY_mo hR hM hv hl
  refine lv_aload_n hx hb la_d532 rfl (lv_at hl 2 rfl) ?_
  refine lv_aload_n hx hb la_d533 rfl (lv_at hl 1 rfl) ?_
  refine lv_iload_n hx hb la_d534 rfl (lv_at hl 0 rfl) ?_
  refine lv_iconst hx hb la_d535 (v := 1) (by decide) ?_
  have ec1 : (1 : Int32).toInt = 1 := by decide
  refine lv_iadd hx hb la_d536 ?_
  generalize hg_z536 : i + (1 : Int32) = z536
  have h_z536 : z536.toInt = i.toInt + 1 := by rw [← hg_z536]; have := y_add (x := i) (y := (1 : Int32)) (by rw [ec1]; omega) (by rw [ec1]; omega); rw [ec1] at this; exact this
  refine va_sld hx hb hX hbl hbA hI.2.2.2 (z_vpin (by omega) (by omega)) la_d537 ?_
  obtain ⟨e537, hg_e537⟩ : ∃ e537 : Int32, xs z536.toNatClampNeg = e537 := ⟨_, rfl⟩
  rw [hg_e537]
  obtain ⟨z538, hg_z538⟩ : ∃ z538 : Int64, e537.toInt64 = z538 := ⟨_, rfl⟩
  have h_z538 : z538.toInt = (e537).toInt := by rw [← hg_z538]; exact Int32.toInt_toInt64 _
  refine lv_i2l hx hb la_d538 (v := z538) hg_z538 ?_
  refine lv_bipush hx hb la_d539 (v := 32) (by decide) ?_
  have ec32 : (32 : Int32).toInt = 32 := by decide
  obtain ⟨z541, hg_z541⟩ : ∃ z541 : Int64, z538 <<< (((32 : Int32)).toInt64 &&& 63) = z541 := ⟨_, rfl⟩
  refine lv_lshl hx hb la_d541 (v := z541) hg_z541 ?_
  refine lv_aload_n hx hb la_d542 rfl (lv_at hl 1 rfl) ?_
  refine lv_iload_n hx hb la_d543 rfl (lv_at hl 0 rfl) ?_
  refine lv_iconst hx hb la_d544 (v := 2) (by decide) ?_
  have ec2 : (2 : Int32).toInt = 2 := by decide
  refine lv_iadd hx hb la_d545 ?_
  generalize hg_z545 : i + (2 : Int32) = z545
  have h_z545 : z545.toInt = i.toInt + 2 := by rw [← hg_z545]; have := y_add (x := i) (y := (2 : Int32)) (by rw [ec2]; omega) (by rw [ec2]; omega); rw [ec2] at this; exact this
  refine va_sld hx hb hX hbl hbA hI.2.2.2 (z_vpin (by omega) (by omega)) la_d546 ?_
  obtain ⟨e546, hg_e546⟩ : ∃ e546 : Int32, xs z545.toNatClampNeg = e546 := ⟨_, rfl⟩
  rw [hg_e546]
  obtain ⟨z547, hg_z547⟩ : ∃ z547 : Int64, e546.toInt64 = z547 := ⟨_, rfl⟩
  have h_z547 : z547.toInt = (e546).toInt := by rw [← hg_z547]; exact Int32.toInt_toInt64 _
  refine lv_i2l hx hb la_d547 (v := z547) hg_z547 ?_
  refine lv_ldc2 hx hb X.2.2.2.1 (v := 4294967295) (X.2.2.2.2.1 _ (x_bw89 2 rfl rfl)) la_d548 ?_
  have el4294967295 : (4294967295 : Int64).toInt = 4294967295 := by decide
  refine lv_land hx hb la_d551 ?_
  generalize hg_z551 : z547 &&& (4294967295 : Int64) = z551
  refine lv_lor hx hb la_d552 ?_
  generalize hg_z552 : z541 ||| z551 = z552
  refine lv_aload_n hx hb la_d553 rfl (lv_at hl 1 rfl) ?_
  refine lv_iload_n hx hb la_d554 rfl (lv_at hl 0 rfl) ?_
  refine lv_iconst hx hb la_d555 (v := 3) (by decide) ?_
  have ec3 : (3 : Int32).toInt = 3 := by decide
  refine lv_iadd hx hb la_d556 ?_
  generalize hg_z556 : i + (3 : Int32) = z556
  have h_z556 : z556.toInt = i.toInt + 3 := by rw [← hg_z556]; have := y_add (x := i) (y := (3 : Int32)) (by rw [ec3]; omega) (by rw [ec3]; omega); rw [ec3] at this; exact this
  refine va_sld hx hb hX hbl hbA hI.2.2.2 (z_vpin (by omega) (by omega)) la_d557 ?_
  obtain ⟨e557, hg_e557⟩ : ∃ e557 : Int32, xs z556.toNatClampNeg = e557 := ⟨_, rfl⟩
  rw [hg_e557]
  have hbd := hR.bd hI.1
  refine y_call (z := (0, 52, 3, some 0, xM1023)) (av := [.ref x, .long z552, .int e557]) (rest := []) (y_cokV (n := 2) (ci := 11) X ym_Ttype rfl rfl rfl (x_cons (x_bw33 14 rfl rfl) (x_cons (x_bw33 15 rfl rfl) (x_cons (x_bw34 0 rfl rfl) (x_cons (x_bw0 1 rfl rfl) x_nilm)))) (x_bw34 1 rfl rfl) (by decide +kernel) ⟨Nat.le_of_ble_eq_true rfl, Nat.le_of_ble_eq_true rfl⟩) hY0 hI rfl la_d558 hl.1 (Nat.le_of_ble_eq_true rfl) (by show (66 + 240 * j) + 0 ≤ 600000; omega) (by show (67411 + 1200 * j) + 0 ≤ 7302250; omega) (y_cons (y_cref hY_x rfl) (y_cons ⟨_, rfl, x_i64 _⟩ (y_cons ⟨_, rfl, x_i32 _⟩ y_nil))) rfl (y_recv rfl hY_x) (fun t' h1 => by cases h1; exact ⟨_, _, _, _, hR⟩) (y_sub_ef (by decide +kernel)) fun v Yn o Hn L_ ho hr ha hIn hx_ hE hP => ?_
  replace hM := hM.E hY_mo hE (fun q u h => y_ext hx_ hI.1 h) (by decide +kernel) (by decide +kernel)
  obtain ⟨rA, nA, tA, hra, hRn, hmA⟩ := hP _ _ _ _ _ _ _ rfl hR
  obtain rfl := hra
  replace hR := hRn
  replace hY_x := y_ext hx_ hI.1 hY_x
  replace hY_mo := y_ext hx_ hI.1 hY_mo
  clear ho hr ha hE hP hI hx_
  rename x_I _ _ _ _ _ _ _ _ _ _ => hI
  refine lv_pop hx hb la_d561 rfl ?_
  refine lv_aload_n hx hb la_d562 rfl (lv_at hl 3 rfl) ?_
  refine lv_aload_n hx hb la_d563 rfl (lv_at hl 1 rfl) ?_
  refine lv_iload_n hx hb la_d564 rfl (lv_at hl 0 rfl) ?_
  refine lv_iconst hx hb la_d565 (v := 1) (by decide) ?_
  refine lv_iadd hx hb la_d566 ?_
  generalize hg_z566 : i + (1 : Int32) = z566
  have h_z566 : z566.toInt = i.toInt + 1 := by rw [← hg_z566]; have := y_add (x := i) (y := (1 : Int32)) (by rw [ec1]; omega) (by rw [ec1]; omega); rw [ec1] at this; exact this
  refine va_sld hx hb hX hbl hbA hI.2.2.2 (z_vpin (by omega) (by omega)) la_d567 ?_
  obtain ⟨e567, hg_e567⟩ : ∃ e567 : Int32, xs z566.toNatClampNeg = e567 := ⟨_, rfl⟩
  rw [hg_e567]
  obtain ⟨z568, hg_z568⟩ : ∃ z568 : Int64, e567.toInt64 = z568 := ⟨_, rfl⟩
  have h_z568 : z568.toInt = (e567).toInt := by rw [← hg_z568]; exact Int32.toInt_toInt64 _
  refine lv_i2l hx hb la_d568 (v := z568) hg_z568 ?_
  refine lv_bipush hx hb la_d569 (v := 32) (by decide) ?_
  obtain ⟨z571, hg_z571⟩ : ∃ z571 : Int64, z568 <<< (((32 : Int32)).toInt64 &&& 63) = z571 := ⟨_, rfl⟩
  refine lv_lshl hx hb la_d571 (v := z571) hg_z571 ?_
  refine lv_aload_n hx hb la_d572 rfl (lv_at hl 1 rfl) ?_
  refine lv_iload_n hx hb la_d573 rfl (lv_at hl 0 rfl) ?_
  refine lv_iconst hx hb la_d574 (v := 2) (by decide) ?_
  refine lv_iadd hx hb la_d575 ?_
  generalize hg_z575 : i + (2 : Int32) = z575
  have h_z575 : z575.toInt = i.toInt + 2 := by rw [← hg_z575]; have := y_add (x := i) (y := (2 : Int32)) (by rw [ec2]; omega) (by rw [ec2]; omega); rw [ec2] at this; exact this
  refine va_sld hx hb hX hbl hbA hI.2.2.2 (z_vpin (by omega) (by omega)) la_d576 ?_
  obtain ⟨e576, hg_e576⟩ : ∃ e576 : Int32, xs z575.toNatClampNeg = e576 := ⟨_, rfl⟩
  rw [hg_e576]
  obtain ⟨z577, hg_z577⟩ : ∃ z577 : Int64, e576.toInt64 = z577 := ⟨_, rfl⟩
  have h_z577 : z577.toInt = (e576).toInt := by rw [← hg_z577]; exact Int32.toInt_toInt64 _
  refine lv_i2l hx hb la_d577 (v := z577) hg_z577 ?_
  refine lv_ldc2 hx hb X.2.2.2.1 (v := 4294967295) (X.2.2.2.2.1 _ (x_bw89 2 rfl rfl)) la_d578 ?_
  have el4294967295 : (4294967295 : Int64).toInt = 4294967295 := by decide
  refine lv_land hx hb la_d581 ?_
  generalize hg_z581 : z577 &&& (4294967295 : Int64) = z581
  refine lv_lor hx hb la_d582 ?_
  generalize hg_z582 : z571 ||| z581 = z582
  refine lv_aload_n hx hb la_d583 rfl (lv_at hl 1 rfl) ?_
  refine lv_iload_n hx hb la_d584 rfl (lv_at hl 0 rfl) ?_
  refine lv_iconst hx hb la_d585 (v := 3) (by decide) ?_
  refine lv_iadd hx hb la_d586 ?_
  generalize hg_z586 : i + (3 : Int32) = z586
  have h_z586 : z586.toInt = i.toInt + 3 := by rw [← hg_z586]; have := y_add (x := i) (y := (3 : Int32)) (by rw [ec3]; omega) (by rw [ec3]; omega); rw [ec3] at this; exact this
  refine va_sld hx hb hX hbl hbA hI.2.2.2 (z_vpin (by omega) (by omega)) la_d587 ?_
  obtain ⟨e587, hg_e587⟩ : ∃ e587 : Int32, xs z586.toNatClampNeg = e587 := ⟨_, rfl⟩
  rw [hg_e587]
  obtain rfl : e537 = e567 := by rw [← hg_e537, ← hg_e567, ← hg_z536, ← hg_z566]
  obtain rfl : e546 = e576 := by rw [← hg_e546, ← hg_e576, ← hg_z545, ← hg_z575]
  obtain rfl : e557 = e587 := by rw [← hg_e557, ← hg_e587, ← hg_z556, ← hg_z586]
  obtain rfl : z538 = z568 := by rw [← hg_z538, ← hg_z568]
  obtain rfl : z541 = z571 := by rw [← hg_z541, ← hg_z571]
  obtain rfl : z547 = z577 := by rw [← hg_z547, ← hg_z577]
  obtain rfl : z551 = z581 := by rw [← hg_z551, ← hg_z581]
  obtain rfl : z552 = z582 := by rw [← hg_z552, ← hg_z582]
  refine y_call (z := (0, 56, 3, some 17, xMty)) (av := [.ref mo, .long z552, .int e557]) (rest := []) (y_cokV (n := 2) (ci := 12) X ym_typeX rfl rfl rfl (x_cons (x_bw73 9 rfl rfl) (x_cons (x_bw73 10 rfl rfl) (x_cons (x_bw73 11 rfl rfl) (x_cons (x_bw0 9 rfl rfl) x_nilm)))) (x_bw73 12 rfl rfl) (by decide +kernel) ⟨Nat.le_of_ble_eq_true rfl, Nat.le_of_ble_eq_true rfl⟩) hY0 hI rfl la_d588 hl.1 (Nat.le_of_ble_eq_true rfl) (by show (66 + 240 * j) + 0 + 0 ≤ 600000; omega) (by show (67411 + 1200 * j) + 0 + 0 ≤ 7302250; omega) (y_cons (y_cref hY_mo rfl) (y_cons ⟨_, rfl, x_i64 _⟩ (y_cons ⟨_, rfl, x_i32 _⟩ y_nil))) rfl (y_recv rfl hY_mo) trivial (y_sub_ef (by decide +kernel)) fun v Yn o Hn L_ ho hr ha hIn hx_ hE hP => ?_
  replace hR := hR.E2 hY_x hE (fun q u h => y_ext hx_ hI.1 h) (by decide +kernel)
  obtain ⟨bk9, im9, kp9, tx9, ⟨-, -, -, hq4, hq5⟩, ⟨-, -, -, hy4⟩, -, -, -, htc9, hta9⟩ := id hM
  obtain ⟨rB, nB, tB, hrb, w1, w2, w3, hmB⟩ := hP _ _ _ _ _ _ rfl hq4 hq5 htc9 hta9
  obtain rfl := hrb
  obtain ⟨w4, w5, w6⟩ := hmA.eq hmB
  subst w4 w5 w6
  replace hM := hM.text hY_mo hE (fun q u h => y_ext hx_ hI.1 h) (by decide +kernel) w2 w1 (fun tx8 hb => by cases hq4.symm.trans hb; exact w3)
  replace hY_x := y_ext hx_ hI.1 hY_x
  replace hY_mo := y_ext hx_ hI.1 hY_mo
  clear ho hr ha hE hP hI hx_
  rename x_I _ _ _ _ _ _ _ _ _ _ => hI
  refine lv_pop hx hb la_d591 rfl ?_
  refine lv_goto hx hb la_d592 (tgt := 1501) (by decide) ?_
  refine W.widen (k := (66 + 240 * (j + 1))) (n := (67411 + 1200 * (j + 1))) (by show (66 + 240 * j) + 0 + 0 ≤ (66 + 240 * (j + 1)); omega) (by show (67411 + 1200 * j) + 0 + 0 ≤ (67411 + 1200 * (j + 1)); omega) ?_
  exact out _ _ _ _ _ _ _ _ hI hY_x hY_mo hR hM hv (lv_sub hl [0, 1, 2, 3] rfl)
theorem la_c9 {p : Program} {l : Launch} {e : Env} {s : State} {m : MethodId} {below : List Frame} {meth : Method} {c : Code} {D : va_G} {b L : Nat} {xs : Nat → Int32} (X : x_cx p s m #[Value.ref b] c D s xMlaw.2.1 xMlaw.2.2.1 vwCl x_Tb x_Nb "TwinFiresLaw") (hrt : meth.sig.returnType = ret) (hlk : meth.locks = false) (hX : va_X b L xs s s.heap) (hbl : b < s.heap.size) (hL : L ≤ 3072) {x mo : Nat} {i : Int32} {j : Nat} (hi : i.toInt = 6 * (j : Int)) (hj : 6 * j + 6 ≤ L)
    (out : ∀ (H : Heap) (Y : xY) (locs : List Loc) (ls : Array Slot) (fv : Nat → Int32) (Kv : Nat → Option (Nat → Int32)) (tv : Nat → Int32) (nv : Int32), x_I D x_G x_Zs s (x_efs xMlaw) z_Y0 s.heap Y H locs → Y x = some 0 → Y mo = some 17 → z_RC D Y H x fv Kv tv nv → z_RM D Y H mo fv Kv tv nv → m_inv2 fv Kv → lv_has ls 4 [(3, .int i), (0, .ref b), (1, .ref x), (2, .ref mo)] → W p l e room_1 s m #[Value.ref b] below meth c H locs (66 + 240 * (j + 1)) (67411 + 1200 * (j + 1)) (lw_Z below #[Value.ref b] s) (F0 m 1501 ls [])) :
    ∀ (H : Heap) (Y : xY) (locs : List Loc) (ls : Array Slot) (fv : Nat → Int32) (Kv : Nat → Option (Nat → Int32)) (tv : Nat → Int32) (nv : Int32), x_I D x_G x_Zs s (x_efs xMlaw) z_Y0 s.heap Y H locs → Y x = some 0 → Y mo = some 17 → z_RC D Y H x fv Kv tv nv → z_RM D Y H mo fv Kv tv nv → m_inv2 fv Kv → lv_has ls 4 [(3, .int i), (0, .ref b), (1, .ref x), (2, .ref mo)] → W p l e room_1 s m #[Value.ref b] below meth c H locs (66 + 240 * j) (67411 + 1200 * j) (lw_Z below #[Value.ref b] s) (F0 m 595 ls []) := by
  have hx := X.1
  have hb := X.2.1
  have hts := X.2.2.2.2.1
  have hY0 : ∀ q u, z_Y0 q = some u → q < s.heap.size := fun q u h => by cases h
  have hbA : ¬ ((∃ t, z_Y0 b = some t) ∨ s.heap.size ≤ b) := fun h => by
    rcases h with ⟨t, h⟩ | h
    · cases h
    · omega
  intro H Y locs ls fv Kv tv nv hI hY_x hY_mo hR hM hv hl
  refine lv_aload_n hx hb la_d595 rfl (lv_at hl 2 rfl) ?_
  have hbd := hR.bd hI.1
  refine y_call (z := (0, 57, 1, some 0, xM57)) (av := [.ref x]) (rest := []) (y_cokV (n := 0) (ci := 11) X ym_TclearText rfl rfl rfl (x_cons (x_bw34 7 rfl rfl) (x_cons (x_bw34 8 rfl rfl) (x_cons (x_bw34 9 rfl rfl) (x_cons (x_bw0 1 rfl rfl) x_nilm)))) (x_bw34 10 rfl rfl) (by decide +kernel) ⟨Nat.le_of_ble_eq_true rfl, Nat.le_of_ble_eq_true rfl⟩) hY0 hI rfl la_d596 hl.1 (Nat.le_of_ble_eq_true rfl) (by show (66 + 240 * j) + 0 ≤ 600000; omega) (by show (67411 + 1200 * j) + 0 ≤ 7302250; omega) (y_cons (y_cref hY_x rfl) y_nil) rfl (y_recv rfl hY_x) (fun t' h1 => by cases h1; exact ⟨_, _, _, _, hR⟩) (y_sub_ef (by decide +kernel)) fun v Yn o Hn L_ ho hr ha hIn hx_ hE hP => ?_
  replace hM := hM.E hY_mo hE (fun q u h => y_ext hx_ hI.1 h) (by decide +kernel) (by decide +kernel)
  obtain ⟨hra, hRn⟩ := hP _ _ _ _ _ rfl hR
  obtain rfl := hra
  replace hR := hRn
  replace hY_x := y_ext hx_ hI.1 hY_x
  replace hY_mo := y_ext hx_ hI.1 hY_mo
  clear ho hr ha hE hP hI hx_
  rename x_I _ _ _ _ _ _ _ _ _ _ => hI
  refine lv_pop hx hb la_d599 rfl ?_
  refine lv_aload_n hx hb la_d600 rfl (lv_at hl 3 rfl) ?_
  refine y_call (z := (0, 61, 1, some 17, xM176)) (av := [.ref mo]) (rest := []) (y_cokV (n := 0) (ci := 12) X ym_clearX rfl rfl rfl (x_cons (x_bw73 15 rfl rfl) (x_cons (x_bw74 0 rfl rfl) (x_cons (x_bw74 1 rfl rfl) (x_cons (x_bw0 9 rfl rfl) x_nilm)))) (x_bw74 2 rfl rfl) (by decide +kernel) ⟨Nat.le_of_ble_eq_true rfl, Nat.le_of_ble_eq_true rfl⟩) hY0 hI rfl la_d601 hl.1 (Nat.le_of_ble_eq_true rfl) (by show (66 + 240 * j) + 0 + 0 ≤ 600000; omega) (by show (67411 + 1200 * j) + 0 + 0 ≤ 7302250; omega) (y_cons (y_cref hY_mo rfl) y_nil) rfl (y_recv rfl hY_mo) trivial (y_sub_ef (by decide +kernel)) fun v Yn o Hn L_ ho hr ha hIn hx_ hE hP => ?_
  replace hR := hR.E2 hY_x hE (fun q u h => y_ext hx_ hI.1 h) (by decide +kernel)
  obtain ⟨bk9, im9, kp9, tx9, ⟨-, -, -, hq4, hq5⟩, ⟨-, -, -, hy4⟩, -, -, -, htc9, hta9⟩ := id hM
  obtain ⟨hrb, w1⟩ := hP _ _ rfl hq5
  obtain rfl := hrb
  replace hM := hM.text hY_mo hE (fun q u h => y_ext hx_ hI.1 h) (by decide +kernel) htc9 w1 (fun tx8 hb => by cases hq4.symm.trans hb; exact hta9.kept (y_Earr hE hy4 rfl (by decide)))
  replace hY_x := y_ext hx_ hI.1 hY_x
  replace hY_mo := y_ext hx_ hI.1 hY_mo
  clear ho hr ha hE hP hI hx_
  rename x_I _ _ _ _ _ _ _ _ _ _ => hI
  refine lv_pop hx hb la_d604 rfl ?_
  refine lv_goto hx hb la_d605 (tgt := 1501) (by decide) ?_
  refine W.widen (k := (66 + 240 * (j + 1))) (n := (67411 + 1200 * (j + 1))) (by show (66 + 240 * j) + 0 + 0 ≤ (66 + 240 * (j + 1)); omega) (by show (67411 + 1200 * j) + 0 + 0 ≤ (67411 + 1200 * (j + 1)); omega) ?_
  exact out _ _ _ _ _ _ _ _ hI hY_x hY_mo hR hM hv (lv_sub hl [0, 1, 2, 3] rfl)
theorem la_c10 {p : Program} {l : Launch} {e : Env} {s : State} {m : MethodId} {below : List Frame} {meth : Method} {c : Code} {D : va_G} {b L : Nat} {xs : Nat → Int32} (X : x_cx p s m #[Value.ref b] c D s xMlaw.2.1 xMlaw.2.2.1 vwCl x_Tb x_Nb "TwinFiresLaw") (hrt : meth.sig.returnType = ret) (hlk : meth.locks = false) (hX : va_X b L xs s s.heap) (hbl : b < s.heap.size) (hL : L ≤ 3072) {x mo : Nat} {i : Int32} {j : Nat} (hi : i.toInt = 6 * (j : Int)) (hj : 6 * j + 6 ≤ L)
    (out : ∀ (H : Heap) (Y : xY) (locs : List Loc) (ls : Array Slot) (fv : Nat → Int32) (Kv : Nat → Option (Nat → Int32)) (tv : Nat → Int32) (nv : Int32), x_I D x_G x_Zs s (x_efs xMlaw) z_Y0 s.heap Y H locs → Y x = some 0 → Y mo = some 17 → z_RC D Y H x fv Kv tv nv → z_RM D Y H mo fv Kv tv nv → m_inv2 fv Kv → lv_has ls 4 [(3, .int i), (0, .ref b), (1, .ref x), (2, .ref mo)] → W p l e room_1 s m #[Value.ref b] below meth c H locs (66 + 240 * (j + 1)) (67411 + 1200 * (j + 1)) (lw_Z below #[Value.ref b] s) (F0 m 1501 ls [])) :
    ∀ (H : Heap) (Y : xY) (locs : List Loc) (ls : Array Slot) (fv : Nat → Int32) (Kv : Nat → Option (Nat → Int32)) (tv : Nat → Int32) (nv : Int32), x_I D x_G x_Zs s (x_efs xMlaw) z_Y0 s.heap Y H locs → Y x = some 0 → Y mo = some 17 → z_RC D Y H x fv Kv tv nv → z_RM D Y H mo fv Kv tv nv → m_inv2 fv Kv → lv_has ls 4 [(3, .int i), (0, .ref b), (1, .ref x), (2, .ref mo)] → W p l e room_1 s m #[Value.ref b] below meth c H locs (66 + 240 * j) (67411 + 1200 * j) (lw_Z below #[Value.ref b] s) (F0 m 608 ls []) := by
  have hx := X.1
  have hb := X.2.1
  have hts := X.2.2.2.2.1
  have hY0 : ∀ q u, z_Y0 q = some u → q < s.heap.size := fun q u h => by cases h
  have hbA : ¬ ((∃ t, z_Y0 b = some t) ∨ s.heap.size ≤ b) := fun h => by
    rcases h with ⟨t, h⟩ | h
    · cases h
    · omega
  intro H Y locs ls fv Kv tv nv hI hY_x hY_mo hR hM hv hl
  refine lv_aload_n hx hb la_d608 rfl (lv_at hl 2 rfl) ?_
  have hbd := hR.bd hI.1
  refine y_call (z := (0, 62, 1, some 0, xMtl)) (av := [.ref x]) (rest := []) (y_cokV (n := 0) (ci := 11) X ym_Tland rfl rfl rfl (x_cons (x_bw34 11 rfl rfl) (x_cons (x_bw34 12 rfl rfl) (x_cons (x_bw34 13 rfl rfl) (x_cons (x_bw0 1 rfl rfl) x_nilm)))) (x_bw34 14 rfl rfl) (by decide +kernel) ⟨Nat.le_of_ble_eq_true rfl, Nat.le_of_ble_eq_true rfl⟩) hY0 hI rfl la_d609 hl.1 (Nat.le_of_ble_eq_true rfl) (by show (66 + 240 * j) + 240 ≤ 600000; omega) (by show (67411 + 1200 * j) + 1200 ≤ 7302250; omega) (y_cons (y_cref hY_x rfl) y_nil) rfl (y_recv rfl hY_x) (fun t' h1 => by cases h1; exact ⟨_, _, _, _, hR⟩) (y_sub_ef (by decide +kernel)) fun v Yn o Hn L_ ho hr ha hIn hx_ hE hP => ?_
  replace hM := hM.E hY_mo hE (fun q u h => y_ext hx_ hI.1 h) (by decide +kernel) (by decide +kernel)
  obtain ⟨rA, gA, hra, hRn, hmA⟩ := hP _ _ _ _ _ rfl hR
  obtain rfl := hra
  replace hR := hRn
  replace hY_x := y_ext hx_ hI.1 hY_x
  replace hY_mo := y_ext hx_ hI.1 hY_mo
  clear ho hr ha hE hP hI hx_
  rename x_I _ _ _ _ _ _ _ _ _ _ => hI
  refine lv_pop hx hb la_d612 rfl ?_
  refine lv_aload_n hx hb la_d613 rfl (lv_at hl 3 rfl) ?_
  refine y_call (z := (0, 65, 1, some 17, xMld)) (av := [.ref mo]) (rest := []) (y_cokV (n := 0) (ci := 12) X ym_landX rfl rfl rfl (x_cons (x_bw74 3 rfl rfl) (x_cons (x_bw74 4 rfl rfl) (x_cons (x_bw74 5 rfl rfl) (x_cons (x_bw0 9 rfl rfl) x_nilm)))) (x_bw74 6 rfl rfl) (by decide +kernel) ⟨Nat.le_of_ble_eq_true rfl, Nat.le_of_ble_eq_true rfl⟩) hY0 hI rfl la_d614 hl.1 (Nat.le_of_ble_eq_true rfl) (by show (66 + 240 * j) + 240 + 0 ≤ 600000; omega) (by show (67411 + 1200 * j) + 1200 + 0 ≤ 7302250; omega) (y_cons (y_cref hY_mo rfl) y_nil) rfl (y_recv rfl hY_mo) trivial (y_sub_ef (by decide +kernel)) fun v Yn o Hn L_ ho hr ha hIn hx_ hE hP => ?_
  replace hR := hR.E2 hY_x hE (fun q u h => y_ext hx_ hI.1 h) (by decide +kernel)
  obtain ⟨bk9, hb1, hb2, hb3⟩ := hM.bk
  obtain ⟨bk8, im9, kp9, tx9, ⟨-, -, -, hq4, hq5⟩, -, -, -, -, htc9, hta9⟩ := id hM
  obtain ⟨rB, gB, hrb, hAB, hmB⟩ := hP _ _ _ _ _ _ rfl hb1 hq5 hq4 hb2 hb3 htc9 hta9
  obtain rfl := hrb
  have hi9 := hmA.i01 hv.1.1
  have hi8 := hmA.rg hv.2.1
  obtain ⟨w4, w5⟩ := hmA.eq hmB
  subst w4 w5
  replace hM := hM.book hY_mo hE (fun q u h => y_ext hx_ hI.1 h) (by decide +kernel) hR.zc (fun b hb => by cases hb1.symm.trans hb; exact hAB)
  replace hv : m_inv2 _ Kv := ⟨⟨hi9, hv.1.2⟩, hi8, hv.2.2⟩
  replace hY_x := y_ext hx_ hI.1 hY_x
  replace hY_mo := y_ext hx_ hI.1 hY_mo
  clear ho hr ha hE hP hI hx_
  rename x_I _ _ _ _ _ _ _ _ _ _ => hI
  refine lv_pop hx hb la_d617 rfl ?_
  refine lv_goto hx hb la_d618 (tgt := 1501) (by decide) ?_
  refine W.widen (k := (66 + 240 * (j + 1))) (n := (67411 + 1200 * (j + 1))) (by show (66 + 240 * j) + 240 + 0 ≤ (66 + 240 * (j + 1)); omega) (by show (67411 + 1200 * j) + 1200 + 0 ≤ (67411 + 1200 * (j + 1)); omega) ?_
  exact out _ _ _ _ _ _ _ _ hI hY_x hY_mo hR hM hv (lv_sub hl [0, 1, 2, 3] rfl)
theorem la_c11 {p : Program} {l : Launch} {e : Env} {s : State} {m : MethodId} {below : List Frame} {meth : Method} {c : Code} {D : va_G} {b L : Nat} {xs : Nat → Int32} (X : x_cx p s m #[Value.ref b] c D s xMlaw.2.1 xMlaw.2.2.1 vwCl x_Tb x_Nb "TwinFiresLaw") (hrt : meth.sig.returnType = ret) (hlk : meth.locks = false) (hX : va_X b L xs s s.heap) (hbl : b < s.heap.size) (hL : L ≤ 3072) {x mo : Nat} {i : Int32} {j : Nat} (hi : i.toInt = 6 * (j : Int)) (hj : 6 * j + 6 ≤ L)
    (out : ∀ (H : Heap) (Y : xY) (locs : List Loc) (ls : Array Slot) (fv : Nat → Int32) (Kv : Nat → Option (Nat → Int32)) (tv : Nat → Int32) (nv : Int32), x_I D x_G x_Zs s (x_efs xMlaw) z_Y0 s.heap Y H locs → Y x = some 0 → Y mo = some 17 → z_RC D Y H x fv Kv tv nv → z_RM D Y H mo fv Kv tv nv → m_inv2 fv Kv → lv_has ls 4 [(3, .int i), (0, .ref b), (1, .ref x), (2, .ref mo)] → W p l e room_1 s m #[Value.ref b] below meth c H locs (66 + 240 * (j + 1)) (67411 + 1200 * (j + 1)) (lw_Z below #[Value.ref b] s) (F0 m 1501 ls [])) :
    ∀ (H : Heap) (Y : xY) (locs : List Loc) (ls : Array Slot) (fv : Nat → Int32) (Kv : Nat → Option (Nat → Int32)) (tv : Nat → Int32) (nv : Int32), x_I D x_G x_Zs s (x_efs xMlaw) z_Y0 s.heap Y H locs → Y x = some 0 → Y mo = some 17 → z_RC D Y H x fv Kv tv nv → z_RM D Y H mo fv Kv tv nv → m_inv2 fv Kv → lv_has ls 4 [(3, .int i), (0, .ref b), (1, .ref x), (2, .ref mo)] → W p l e room_1 s m #[Value.ref b] below meth c H locs (66 + 240 * j) (67411 + 1200 * j) (lw_Z below #[Value.ref b] s) (F0 m 621 ls []) := by
  have hx := X.1
  have hb := X.2.1
  have hts := X.2.2.2.2.1
  have hY0 : ∀ q u, z_Y0 q = some u → q < s.heap.size := fun q u h => by cases h
  have hbA : ¬ ((∃ t, z_Y0 b = some t) ∨ s.heap.size ≤ b) := fun h => by
    rcases h with ⟨t, h⟩ | h
    · cases h
    · omega
  intro H Y locs ls fv Kv tv nv hI hY_x hY_mo hR hM hv hl
  refine lv_aload_n hx hb la_d621 rfl (lv_at hl 2 rfl) ?_
  refine lv_aload_n hx hb la_d622 rfl (lv_at hl 1 rfl) ?_
  refine lv_iload_n hx hb la_d623 rfl (lv_at hl 0 rfl) ?_
  refine lv_iconst hx hb la_d624 (v := 1) (by decide) ?_
  have ec1 : (1 : Int32).toInt = 1 := by decide
  refine lv_iadd hx hb la_d625 ?_
  generalize hg_z625 : i + (1 : Int32) = z625
  have h_z625 : z625.toInt = i.toInt + 1 := by rw [← hg_z625]; have := y_add (x := i) (y := (1 : Int32)) (by rw [ec1]; omega) (by rw [ec1]; omega); rw [ec1] at this; exact this
  refine va_sld hx hb hX hbl hbA hI.2.2.2 (z_vpin (by omega) (by omega)) la_d626 ?_
  obtain ⟨e626, hg_e626⟩ : ∃ e626 : Int32, xs z625.toNatClampNeg = e626 := ⟨_, rfl⟩
  rw [hg_e626]
  refine lv_aload_n hx hb la_d627 rfl (lv_at hl 1 rfl) ?_
  refine lv_iload_n hx hb la_d628 rfl (lv_at hl 0 rfl) ?_
  refine lv_iconst hx hb la_d629 (v := 2) (by decide) ?_
  have ec2 : (2 : Int32).toInt = 2 := by decide
  refine lv_iadd hx hb la_d630 ?_
  generalize hg_z630 : i + (2 : Int32) = z630
  have h_z630 : z630.toInt = i.toInt + 2 := by rw [← hg_z630]; have := y_add (x := i) (y := (2 : Int32)) (by rw [ec2]; omega) (by rw [ec2]; omega); rw [ec2] at this; exact this
  refine va_sld hx hb hX hbl hbA hI.2.2.2 (z_vpin (by omega) (by omega)) la_d631 ?_
  obtain ⟨e631, hg_e631⟩ : ∃ e631 : Int32, xs z630.toNatClampNeg = e631 := ⟨_, rfl⟩
  rw [hg_e631]
  refine y_call (z := (0, 66, 3, some 0, xM68)) (av := [.ref x, .int e626, .int e631]) (rest := []) (y_cok.of (x_cokV (n := 2) (ci := 11) X xm68 rfl rfl rfl (x_cons (x_bw41 14 rfl rfl) (x_cons (x_bw41 15 rfl rfl) (x_cons (x_bw42 0 rfl rfl) (x_cons (x_bw0 1 rfl rfl) x_nilm)))) (x_bw42 1 rfl rfl) (by decide +kernel) ⟨Nat.le_of_ble_eq_true rfl, Nat.le_of_ble_eq_true rfl⟩)) hY0 hI rfl la_d632 hl.1 (Nat.le_of_ble_eq_true rfl) (by show (66 + 240 * j) + 0 ≤ 600000; omega) (by show (67411 + 1200 * j) + 0 ≤ 7302250; omega) (y_cons (y_cref hY_x rfl) (y_cons ⟨_, rfl, x_i32 _⟩ (y_cons ⟨_, rfl, x_i32 _⟩ y_nil))) rfl (y_recv rfl hY_x) trivial (y_sub_ef (by decide +kernel)) fun v Yn o Hn L_ ho hr ha hIn hx_ hE hP => ?_
  replace hM := hM.E hY_mo hE (fun q u h => y_ext hx_ hI.1 h) (by decide +kernel) (by decide +kernel)
  replace hR := hR.E2 hY_x hE (fun q u h => y_ext hx_ hI.1 h) (by decide +kernel)
  replace hY_x := y_ext hx_ hI.1 hY_x
  replace hY_mo := y_ext hx_ hI.1 hY_mo
  obtain ⟨r632, rfl, h_r632⟩ := y_ansI (lo := (-2147483648)) (hi := 2147483647) (by decide) ho hr
  clear ho hr ha hE hP hI hx_
  rename x_I _ _ _ _ _ _ _ _ _ _ => hI
  refine lv_pop hx hb la_d635 rfl ?_
  refine lv_aload_n hx hb la_d636 rfl (lv_at hl 3 rfl) ?_
  refine lv_aload_n hx hb la_d637 rfl (lv_at hl 1 rfl) ?_
  refine lv_iload_n hx hb la_d638 rfl (lv_at hl 0 rfl) ?_
  refine lv_iconst hx hb la_d639 (v := 1) (by decide) ?_
  refine lv_iadd hx hb la_d640 ?_
  generalize hg_z640 : i + (1 : Int32) = z640
  have h_z640 : z640.toInt = i.toInt + 1 := by rw [← hg_z640]; have := y_add (x := i) (y := (1 : Int32)) (by rw [ec1]; omega) (by rw [ec1]; omega); rw [ec1] at this; exact this
  refine va_sld hx hb hX hbl hbA hI.2.2.2 (z_vpin (by omega) (by omega)) la_d641 ?_
  obtain ⟨e641, hg_e641⟩ : ∃ e641 : Int32, xs z640.toNatClampNeg = e641 := ⟨_, rfl⟩
  rw [hg_e641]
  refine lv_aload_n hx hb la_d642 rfl (lv_at hl 1 rfl) ?_
  refine lv_iload_n hx hb la_d643 rfl (lv_at hl 0 rfl) ?_
  refine lv_iconst hx hb la_d644 (v := 2) (by decide) ?_
  refine lv_iadd hx hb la_d645 ?_
  generalize hg_z645 : i + (2 : Int32) = z645
  have h_z645 : z645.toInt = i.toInt + 2 := by rw [← hg_z645]; have := y_add (x := i) (y := (2 : Int32)) (by rw [ec2]; omega) (by rw [ec2]; omega); rw [ec2] at this; exact this
  refine va_sld hx hb hX hbl hbA hI.2.2.2 (z_vpin (by omega) (by omega)) la_d646 ?_
  obtain ⟨e646, hg_e646⟩ : ∃ e646 : Int32, xs z645.toNatClampNeg = e646 := ⟨_, rfl⟩
  rw [hg_e646]
  refine y_call (z := (0, 69, 3, some 17, xM187)) (av := [.ref mo, .int e641, .int e646]) (rest := []) (y_cok.of (x_cokV (n := 2) (ci := 12) X xm187 rfl rfl rfl (x_cons (x_bw76 12 rfl rfl) (x_cons (x_bw76 13 rfl rfl) (x_cons (x_bw76 14 rfl rfl) (x_cons (x_bw0 9 rfl rfl) x_nilm)))) (x_bw76 15 rfl rfl) (by decide +kernel) ⟨Nat.le_of_ble_eq_true rfl, Nat.le_of_ble_eq_true rfl⟩)) hY0 hI rfl la_d647 hl.1 (Nat.le_of_ble_eq_true rfl) (by show (66 + 240 * j) + 0 + 0 ≤ 600000; omega) (by show (67411 + 1200 * j) + 0 + 0 ≤ 7302250; omega) (y_cons (y_cref hY_mo rfl) (y_cons ⟨_, rfl, x_i32 _⟩ (y_cons ⟨_, rfl, x_i32 _⟩ y_nil))) rfl (y_recv rfl hY_mo) trivial (y_sub_ef (by decide +kernel)) fun v Yn o Hn L_ ho hr ha hIn hx_ hE hP => ?_
  replace hR := hR.E2 hY_x hE (fun q u h => y_ext hx_ hI.1 h) (by decide +kernel)
  replace hM := hM.E hY_mo hE (fun q u h => y_ext hx_ hI.1 h) (by decide +kernel) (by decide +kernel)
  replace hY_x := y_ext hx_ hI.1 hY_x
  replace hY_mo := y_ext hx_ hI.1 hY_mo
  obtain ⟨r647, rfl, h_r647⟩ := y_ansI (lo := (-2147483648)) (hi := 2147483647) (by decide) ho hr
  clear ho hr ha hE hP hI hx_
  rename x_I _ _ _ _ _ _ _ _ _ _ => hI
  refine lv_pop hx hb la_d650 rfl ?_
  refine lv_goto hx hb la_d651 (tgt := 1501) (by decide) ?_
  refine W.widen (k := (66 + 240 * (j + 1))) (n := (67411 + 1200 * (j + 1))) (by show (66 + 240 * j) + 0 + 0 ≤ (66 + 240 * (j + 1)); omega) (by show (67411 + 1200 * j) + 0 + 0 ≤ (67411 + 1200 * (j + 1)); omega) ?_
  exact out _ _ _ _ _ _ _ _ hI hY_x hY_mo hR hM hv (lv_sub hl [0, 1, 2, 3] rfl)
theorem la_c12 {p : Program} {l : Launch} {e : Env} {s : State} {m : MethodId} {below : List Frame} {meth : Method} {c : Code} {D : va_G} {b L : Nat} {xs : Nat → Int32} (X : x_cx p s m #[Value.ref b] c D s xMlaw.2.1 xMlaw.2.2.1 vwCl x_Tb x_Nb "TwinFiresLaw") (hrt : meth.sig.returnType = ret) (hlk : meth.locks = false) (hX : va_X b L xs s s.heap) (hbl : b < s.heap.size) (hL : L ≤ 3072) {x mo : Nat} {i : Int32} {j : Nat} (hi : i.toInt = 6 * (j : Int)) (hj : 6 * j + 6 ≤ L)
    (out : ∀ (H : Heap) (Y : xY) (locs : List Loc) (ls : Array Slot) (fv : Nat → Int32) (Kv : Nat → Option (Nat → Int32)) (tv : Nat → Int32) (nv : Int32), x_I D x_G x_Zs s (x_efs xMlaw) z_Y0 s.heap Y H locs → Y x = some 0 → Y mo = some 17 → z_RC D Y H x fv Kv tv nv → z_RM D Y H mo fv Kv tv nv → m_inv2 fv Kv → lv_has ls 4 [(3, .int i), (0, .ref b), (1, .ref x), (2, .ref mo)] → W p l e room_1 s m #[Value.ref b] below meth c H locs (66 + 240 * (j + 1)) (67411 + 1200 * (j + 1)) (lw_Z below #[Value.ref b] s) (F0 m 1501 ls [])) :
    ∀ (H : Heap) (Y : xY) (locs : List Loc) (ls : Array Slot) (fv : Nat → Int32) (Kv : Nat → Option (Nat → Int32)) (tv : Nat → Int32) (nv : Int32), x_I D x_G x_Zs s (x_efs xMlaw) z_Y0 s.heap Y H locs → Y x = some 0 → Y mo = some 17 → z_RC D Y H x fv Kv tv nv → z_RM D Y H mo fv Kv tv nv → m_inv2 fv Kv → lv_has ls 4 [(3, .int i), (0, .ref b), (1, .ref x), (2, .ref mo)] → W p l e room_1 s m #[Value.ref b] below meth c H locs (66 + 240 * j) (67411 + 1200 * j) (lw_Z below #[Value.ref b] s) (F0 m 654 ls []) := by
  have hx := X.1
  have hb := X.2.1
  have hts := X.2.2.2.2.1
  have hY0 : ∀ q u, z_Y0 q = some u → q < s.heap.size := fun q u h => by cases h
  have hbA : ¬ ((∃ t, z_Y0 b = some t) ∨ s.heap.size ≤ b) := fun h => by
    rcases h with ⟨t, h⟩ | h
    · cases h
    · omega
  intro H Y locs ls fv Kv tv nv hI hY_x hY_mo hR hM hv hl
  refine lv_aload_n hx hb la_d654 rfl (lv_at hl 2 rfl) ?_
  refine lv_aload_n hx hb la_d655 rfl (lv_at hl 1 rfl) ?_
  refine lv_iload_n hx hb la_d656 rfl (lv_at hl 0 rfl) ?_
  refine lv_iconst hx hb la_d657 (v := 1) (by decide) ?_
  have ec1 : (1 : Int32).toInt = 1 := by decide
  refine lv_iadd hx hb la_d658 ?_
  generalize hg_z658 : i + (1 : Int32) = z658
  have h_z658 : z658.toInt = i.toInt + 1 := by rw [← hg_z658]; have := y_add (x := i) (y := (1 : Int32)) (by rw [ec1]; omega) (by rw [ec1]; omega); rw [ec1] at this; exact this
  refine va_sld hx hb hX hbl hbA hI.2.2.2 (z_vpin (by omega) (by omega)) la_d659 ?_
  obtain ⟨e659, hg_e659⟩ : ∃ e659 : Int32, xs z658.toNatClampNeg = e659 := ⟨_, rfl⟩
  rw [hg_e659]
  refine lv_aload_n hx hb la_d660 rfl (lv_at hl 1 rfl) ?_
  refine lv_iload_n hx hb la_d661 rfl (lv_at hl 0 rfl) ?_
  refine lv_iconst hx hb la_d662 (v := 2) (by decide) ?_
  have ec2 : (2 : Int32).toInt = 2 := by decide
  refine lv_iadd hx hb la_d663 ?_
  generalize hg_z663 : i + (2 : Int32) = z663
  have h_z663 : z663.toInt = i.toInt + 2 := by rw [← hg_z663]; have := y_add (x := i) (y := (2 : Int32)) (by rw [ec2]; omega) (by rw [ec2]; omega); rw [ec2] at this; exact this
  refine va_sld hx hb hX hbl hbA hI.2.2.2 (z_vpin (by omega) (by omega)) la_d664 ?_
  obtain ⟨e664, hg_e664⟩ : ∃ e664 : Int32, xs z663.toNatClampNeg = e664 := ⟨_, rfl⟩
  rw [hg_e664]
  refine y_call (z := (0, 70, 3, some 0, xM73)) (av := [.ref x, .int e659, .int e664]) (rest := []) (y_cok.of (x_cokV (n := 2) (ci := 11) X xm73 rfl rfl rfl (x_cons (x_bw42 6 rfl rfl) (x_cons (x_bw42 7 rfl rfl) (x_cons (x_bw42 8 rfl rfl) (x_cons (x_bw0 1 rfl rfl) x_nilm)))) (x_bw42 9 rfl rfl) (by decide +kernel) ⟨Nat.le_of_ble_eq_true rfl, Nat.le_of_ble_eq_true rfl⟩)) hY0 hI rfl la_d665 hl.1 (Nat.le_of_ble_eq_true rfl) (by show (66 + 240 * j) + 0 ≤ 600000; omega) (by show (67411 + 1200 * j) + 0 ≤ 7302250; omega) (y_cons (y_cref hY_x rfl) (y_cons ⟨_, rfl, x_i32 _⟩ (y_cons ⟨_, rfl, x_i32 _⟩ y_nil))) rfl (y_recv rfl hY_x) trivial (y_sub_ef (by decide +kernel)) fun v Yn o Hn L_ ho hr ha hIn hx_ hE hP => ?_
  replace hM := hM.E hY_mo hE (fun q u h => y_ext hx_ hI.1 h) (by decide +kernel) (by decide +kernel)
  replace hR := hR.E2 hY_x hE (fun q u h => y_ext hx_ hI.1 h) (by decide +kernel)
  replace hY_x := y_ext hx_ hI.1 hY_x
  replace hY_mo := y_ext hx_ hI.1 hY_mo
  obtain ⟨r665, rfl, h_r665⟩ := y_ansI (lo := (-2147483648)) (hi := 2147483647) (by decide) ho hr
  clear ho hr ha hE hP hI hx_
  rename x_I _ _ _ _ _ _ _ _ _ _ => hI
  refine lv_pop hx hb la_d668 rfl ?_
  refine lv_aload_n hx hb la_d669 rfl (lv_at hl 3 rfl) ?_
  refine lv_aload_n hx hb la_d670 rfl (lv_at hl 1 rfl) ?_
  refine lv_iload_n hx hb la_d671 rfl (lv_at hl 0 rfl) ?_
  refine lv_iconst hx hb la_d672 (v := 1) (by decide) ?_
  refine lv_iadd hx hb la_d673 ?_
  generalize hg_z673 : i + (1 : Int32) = z673
  have h_z673 : z673.toInt = i.toInt + 1 := by rw [← hg_z673]; have := y_add (x := i) (y := (1 : Int32)) (by rw [ec1]; omega) (by rw [ec1]; omega); rw [ec1] at this; exact this
  refine va_sld hx hb hX hbl hbA hI.2.2.2 (z_vpin (by omega) (by omega)) la_d674 ?_
  obtain ⟨e674, hg_e674⟩ : ∃ e674 : Int32, xs z673.toNatClampNeg = e674 := ⟨_, rfl⟩
  rw [hg_e674]
  refine lv_aload_n hx hb la_d675 rfl (lv_at hl 1 rfl) ?_
  refine lv_iload_n hx hb la_d676 rfl (lv_at hl 0 rfl) ?_
  refine lv_iconst hx hb la_d677 (v := 2) (by decide) ?_
  refine lv_iadd hx hb la_d678 ?_
  generalize hg_z678 : i + (2 : Int32) = z678
  have h_z678 : z678.toInt = i.toInt + 2 := by rw [← hg_z678]; have := y_add (x := i) (y := (2 : Int32)) (by rw [ec2]; omega) (by rw [ec2]; omega); rw [ec2] at this; exact this
  refine va_sld hx hb hX hbl hbA hI.2.2.2 (z_vpin (by omega) (by omega)) la_d679 ?_
  obtain ⟨e679, hg_e679⟩ : ∃ e679 : Int32, xs z678.toNatClampNeg = e679 := ⟨_, rfl⟩
  rw [hg_e679]
  refine y_call (z := (0, 73, 3, some 17, xM190)) (av := [.ref mo, .int e674, .int e679]) (rest := []) (y_cok.of (x_cokV (n := 2) (ci := 12) X xm190 rfl rfl rfl (x_cons (x_bw78 0 rfl rfl) (x_cons (x_bw78 1 rfl rfl) (x_cons (x_bw78 2 rfl rfl) (x_cons (x_bw0 9 rfl rfl) x_nilm)))) (x_bw78 3 rfl rfl) (by decide +kernel) ⟨Nat.le_of_ble_eq_true rfl, Nat.le_of_ble_eq_true rfl⟩)) hY0 hI rfl la_d680 hl.1 (Nat.le_of_ble_eq_true rfl) (by show (66 + 240 * j) + 0 + 0 ≤ 600000; omega) (by show (67411 + 1200 * j) + 0 + 0 ≤ 7302250; omega) (y_cons (y_cref hY_mo rfl) (y_cons ⟨_, rfl, x_i32 _⟩ (y_cons ⟨_, rfl, x_i32 _⟩ y_nil))) rfl (y_recv rfl hY_mo) trivial (y_sub_ef (by decide +kernel)) fun v Yn o Hn L_ ho hr ha hIn hx_ hE hP => ?_
  replace hR := hR.E2 hY_x hE (fun q u h => y_ext hx_ hI.1 h) (by decide +kernel)
  replace hM := hM.E hY_mo hE (fun q u h => y_ext hx_ hI.1 h) (by decide +kernel) (by decide +kernel)
  replace hY_x := y_ext hx_ hI.1 hY_x
  replace hY_mo := y_ext hx_ hI.1 hY_mo
  obtain ⟨r680, rfl, h_r680⟩ := y_ansI (lo := (-2147483648)) (hi := 2147483647) (by decide) ho hr
  clear ho hr ha hE hP hI hx_
  rename x_I _ _ _ _ _ _ _ _ _ _ => hI
  refine lv_pop hx hb la_d683 rfl ?_
  refine lv_goto hx hb la_d684 (tgt := 1501) (by decide) ?_
  refine W.widen (k := (66 + 240 * (j + 1))) (n := (67411 + 1200 * (j + 1))) (by show (66 + 240 * j) + 0 + 0 ≤ (66 + 240 * (j + 1)); omega) (by show (67411 + 1200 * j) + 0 + 0 ≤ (67411 + 1200 * (j + 1)); omega) ?_
  exact out _ _ _ _ _ _ _ _ hI hY_x hY_mo hR hM hv (lv_sub hl [0, 1, 2, 3] rfl)
theorem la_c13 {p : Program} {l : Launch} {e : Env} {s : State} {m : MethodId} {below : List Frame} {meth : Method} {c : Code} {D : va_G} {b L : Nat} {xs : Nat → Int32} (X : x_cx p s m #[Value.ref b] c D s xMlaw.2.1 xMlaw.2.2.1 vwCl x_Tb x_Nb "TwinFiresLaw") (hrt : meth.sig.returnType = ret) (hlk : meth.locks = false) (hX : va_X b L xs s s.heap) (hbl : b < s.heap.size) (hL : L ≤ 3072) {x mo : Nat} {i : Int32} {j : Nat} (hi : i.toInt = 6 * (j : Int)) (hj : 6 * j + 6 ≤ L)
    (out : ∀ (H : Heap) (Y : xY) (locs : List Loc) (ls : Array Slot) (fv : Nat → Int32) (Kv : Nat → Option (Nat → Int32)) (tv : Nat → Int32) (nv : Int32), x_I D x_G x_Zs s (x_efs xMlaw) z_Y0 s.heap Y H locs → Y x = some 0 → Y mo = some 17 → z_RC D Y H x fv Kv tv nv → z_RM D Y H mo fv Kv tv nv → m_inv2 fv Kv → lv_has ls 4 [(3, .int i), (0, .ref b), (1, .ref x), (2, .ref mo)] → W p l e room_1 s m #[Value.ref b] below meth c H locs (66 + 240 * (j + 1)) (67411 + 1200 * (j + 1)) (lw_Z below #[Value.ref b] s) (F0 m 1501 ls [])) :
    ∀ (H : Heap) (Y : xY) (locs : List Loc) (ls : Array Slot) (fv : Nat → Int32) (Kv : Nat → Option (Nat → Int32)) (tv : Nat → Int32) (nv : Int32), x_I D x_G x_Zs s (x_efs xMlaw) z_Y0 s.heap Y H locs → Y x = some 0 → Y mo = some 17 → z_RC D Y H x fv Kv tv nv → z_RM D Y H mo fv Kv tv nv → m_inv2 fv Kv → lv_has ls 4 [(3, .int i), (0, .ref b), (1, .ref x), (2, .ref mo)] → W p l e room_1 s m #[Value.ref b] below meth c H locs (66 + 240 * j) (67411 + 1200 * j) (lw_Z below #[Value.ref b] s) (F0 m 687 ls []) := by
  have hx := X.1
  have hb := X.2.1
  have hts := X.2.2.2.2.1
  have hY0 : ∀ q u, z_Y0 q = some u → q < s.heap.size := fun q u h => by cases h
  have hbA : ¬ ((∃ t, z_Y0 b = some t) ∨ s.heap.size ≤ b) := fun h => by
    rcases h with ⟨t, h⟩ | h
    · cases h
    · omega
  intro H Y locs ls fv Kv tv nv hI hY_x hY_mo hR hM hv hl
  refine lv_aload_n hx hb la_d687 rfl (lv_at hl 2 rfl) ?_
  refine lv_aload_n hx hb la_d688 rfl (lv_at hl 1 rfl) ?_
  refine lv_iload_n hx hb la_d689 rfl (lv_at hl 0 rfl) ?_
  refine lv_iconst hx hb la_d690 (v := 1) (by decide) ?_
  have ec1 : (1 : Int32).toInt = 1 := by decide
  refine lv_iadd hx hb la_d691 ?_
  generalize hg_z691 : i + (1 : Int32) = z691
  have h_z691 : z691.toInt = i.toInt + 1 := by rw [← hg_z691]; have := y_add (x := i) (y := (1 : Int32)) (by rw [ec1]; omega) (by rw [ec1]; omega); rw [ec1] at this; exact this
  refine va_sld hx hb hX hbl hbA hI.2.2.2 (z_vpin (by omega) (by omega)) la_d692 ?_
  obtain ⟨e692, hg_e692⟩ : ∃ e692 : Int32, xs z691.toNatClampNeg = e692 := ⟨_, rfl⟩
  rw [hg_e692]
  refine lv_aload_n hx hb la_d693 rfl (lv_at hl 1 rfl) ?_
  refine lv_iload_n hx hb la_d694 rfl (lv_at hl 0 rfl) ?_
  refine lv_iconst hx hb la_d695 (v := 2) (by decide) ?_
  have ec2 : (2 : Int32).toInt = 2 := by decide
  refine lv_iadd hx hb la_d696 ?_
  generalize hg_z696 : i + (2 : Int32) = z696
  have h_z696 : z696.toInt = i.toInt + 2 := by rw [← hg_z696]; have := y_add (x := i) (y := (2 : Int32)) (by rw [ec2]; omega) (by rw [ec2]; omega); rw [ec2] at this; exact this
  refine va_sld hx hb hX hbl hbA hI.2.2.2 (z_vpin (by omega) (by omega)) la_d697 ?_
  obtain ⟨e697, hg_e697⟩ : ∃ e697 : Int32, xs z696.toNatClampNeg = e697 := ⟨_, rfl⟩
  rw [hg_e697]
  refine y_call (z := (0, 74, 3, some 0, xM1001)) (av := [.ref x, .int e692, .int e697]) (rest := []) (y_cok.of (x_cokV (n := 2) (ci := 11) X xm1001 rfl rfl rfl (x_cons (x_bw43 8 rfl rfl) (x_cons (x_bw43 9 rfl rfl) (x_cons (x_bw43 10 rfl rfl) (x_cons (x_bw0 1 rfl rfl) x_nilm)))) (x_bw43 11 rfl rfl) (by decide +kernel) ⟨Nat.le_of_ble_eq_true rfl, Nat.le_of_ble_eq_true rfl⟩)) hY0 hI rfl la_d698 hl.1 (Nat.le_of_ble_eq_true rfl) (by show (66 + 240 * j) + 0 ≤ 600000; omega) (by show (67411 + 1200 * j) + 0 ≤ 7302250; omega) (y_cons (y_cref hY_x rfl) (y_cons ⟨_, rfl, x_i32 _⟩ (y_cons ⟨_, rfl, x_i32 _⟩ y_nil))) rfl (y_recv rfl hY_x) trivial (y_sub_ef (by decide +kernel)) fun v Yn o Hn L_ ho hr ha hIn hx_ hE hP => ?_
  replace hM := hM.E hY_mo hE (fun q u h => y_ext hx_ hI.1 h) (by decide +kernel) (by decide +kernel)
  replace hR := hR.E2 hY_x hE (fun q u h => y_ext hx_ hI.1 h) (by decide +kernel)
  replace hY_x := y_ext hx_ hI.1 hY_x
  replace hY_mo := y_ext hx_ hI.1 hY_mo
  obtain ⟨r698, rfl, h_r698⟩ := y_ansI (lo := (-2147483648)) (hi := 2147483647) (by decide) ho hr
  clear ho hr ha hE hP hI hx_
  rename x_I _ _ _ _ _ _ _ _ _ _ => hI
  refine lv_pop hx hb la_d701 rfl ?_
  refine lv_aload_n hx hb la_d702 rfl (lv_at hl 3 rfl) ?_
  refine lv_aload_n hx hb la_d703 rfl (lv_at hl 1 rfl) ?_
  refine lv_iload_n hx hb la_d704 rfl (lv_at hl 0 rfl) ?_
  refine lv_iconst hx hb la_d705 (v := 1) (by decide) ?_
  refine lv_iadd hx hb la_d706 ?_
  generalize hg_z706 : i + (1 : Int32) = z706
  have h_z706 : z706.toInt = i.toInt + 1 := by rw [← hg_z706]; have := y_add (x := i) (y := (1 : Int32)) (by rw [ec1]; omega) (by rw [ec1]; omega); rw [ec1] at this; exact this
  refine va_sld hx hb hX hbl hbA hI.2.2.2 (z_vpin (by omega) (by omega)) la_d707 ?_
  obtain ⟨e707, hg_e707⟩ : ∃ e707 : Int32, xs z706.toNatClampNeg = e707 := ⟨_, rfl⟩
  rw [hg_e707]
  refine lv_aload_n hx hb la_d708 rfl (lv_at hl 1 rfl) ?_
  refine lv_iload_n hx hb la_d709 rfl (lv_at hl 0 rfl) ?_
  refine lv_iconst hx hb la_d710 (v := 2) (by decide) ?_
  refine lv_iadd hx hb la_d711 ?_
  generalize hg_z711 : i + (2 : Int32) = z711
  have h_z711 : z711.toInt = i.toInt + 2 := by rw [← hg_z711]; have := y_add (x := i) (y := (2 : Int32)) (by rw [ec2]; omega) (by rw [ec2]; omega); rw [ec2] at this; exact this
  refine va_sld hx hb hX hbl hbA hI.2.2.2 (z_vpin (by omega) (by omega)) la_d712 ?_
  obtain ⟨e712, hg_e712⟩ : ∃ e712 : Int32, xs z711.toNatClampNeg = e712 := ⟨_, rfl⟩
  rw [hg_e712]
  refine y_call (z := (0, 77, 3, some 17, xM192)) (av := [.ref mo, .int e707, .int e712]) (rest := []) (y_cok.of (x_cokV (n := 2) (ci := 12) X xm192 rfl rfl rfl (x_cons (x_bw78 7 rfl rfl) (x_cons (x_bw78 8 rfl rfl) (x_cons (x_bw78 9 rfl rfl) (x_cons (x_bw0 9 rfl rfl) x_nilm)))) (x_bw78 10 rfl rfl) (by decide +kernel) ⟨Nat.le_of_ble_eq_true rfl, Nat.le_of_ble_eq_true rfl⟩)) hY0 hI rfl la_d713 hl.1 (Nat.le_of_ble_eq_true rfl) (by show (66 + 240 * j) + 0 + 0 ≤ 600000; omega) (by show (67411 + 1200 * j) + 0 + 0 ≤ 7302250; omega) (y_cons (y_cref hY_mo rfl) (y_cons ⟨_, rfl, x_i32 _⟩ (y_cons ⟨_, rfl, x_i32 _⟩ y_nil))) rfl (y_recv rfl hY_mo) trivial (y_sub_ef (by decide +kernel)) fun v Yn o Hn L_ ho hr ha hIn hx_ hE hP => ?_
  replace hR := hR.E2 hY_x hE (fun q u h => y_ext hx_ hI.1 h) (by decide +kernel)
  replace hM := hM.E hY_mo hE (fun q u h => y_ext hx_ hI.1 h) (by decide +kernel) (by decide +kernel)
  replace hY_x := y_ext hx_ hI.1 hY_x
  replace hY_mo := y_ext hx_ hI.1 hY_mo
  obtain ⟨r713, rfl, h_r713⟩ := y_ansI (lo := (-2147483648)) (hi := 2147483647) (by decide) ho hr
  clear ho hr ha hE hP hI hx_
  rename x_I _ _ _ _ _ _ _ _ _ _ => hI
  refine lv_pop hx hb la_d716 rfl ?_
  refine lv_goto hx hb la_d717 (tgt := 1501) (by decide) ?_
  refine W.widen (k := (66 + 240 * (j + 1))) (n := (67411 + 1200 * (j + 1))) (by show (66 + 240 * j) + 0 + 0 ≤ (66 + 240 * (j + 1)); omega) (by show (67411 + 1200 * j) + 0 + 0 ≤ (67411 + 1200 * (j + 1)); omega) ?_
  exact out _ _ _ _ _ _ _ _ hI hY_x hY_mo hR hM hv (lv_sub hl [0, 1, 2, 3] rfl)
theorem la_c14 {p : Program} {l : Launch} {e : Env} {s : State} {m : MethodId} {below : List Frame} {meth : Method} {c : Code} {D : va_G} {b L : Nat} {xs : Nat → Int32} (X : x_cx p s m #[Value.ref b] c D s xMlaw.2.1 xMlaw.2.2.1 vwCl x_Tb x_Nb "TwinFiresLaw") (hrt : meth.sig.returnType = ret) (hlk : meth.locks = false) (hX : va_X b L xs s s.heap) (hbl : b < s.heap.size) (hL : L ≤ 3072) {x mo : Nat} {i : Int32} {j : Nat} (hi : i.toInt = 6 * (j : Int)) (hj : 6 * j + 6 ≤ L)
    (out : ∀ (H : Heap) (Y : xY) (locs : List Loc) (ls : Array Slot) (fv : Nat → Int32) (Kv : Nat → Option (Nat → Int32)) (tv : Nat → Int32) (nv : Int32), x_I D x_G x_Zs s (x_efs xMlaw) z_Y0 s.heap Y H locs → Y x = some 0 → Y mo = some 17 → z_RC D Y H x fv Kv tv nv → z_RM D Y H mo fv Kv tv nv → m_inv2 fv Kv → lv_has ls 4 [(3, .int i), (0, .ref b), (1, .ref x), (2, .ref mo)] → W p l e room_1 s m #[Value.ref b] below meth c H locs (66 + 240 * (j + 1)) (67411 + 1200 * (j + 1)) (lw_Z below #[Value.ref b] s) (F0 m 1501 ls [])) :
    ∀ (H : Heap) (Y : xY) (locs : List Loc) (ls : Array Slot) (fv : Nat → Int32) (Kv : Nat → Option (Nat → Int32)) (tv : Nat → Int32) (nv : Int32), x_I D x_G x_Zs s (x_efs xMlaw) z_Y0 s.heap Y H locs → Y x = some 0 → Y mo = some 17 → z_RC D Y H x fv Kv tv nv → z_RM D Y H mo fv Kv tv nv → m_inv2 fv Kv → lv_has ls 4 [(3, .int i), (0, .ref b), (1, .ref x), (2, .ref mo)] → W p l e room_1 s m #[Value.ref b] below meth c H locs (66 + 240 * j) (67411 + 1200 * j) (lw_Z below #[Value.ref b] s) (F0 m 720 ls []) := by
  have hx := X.1
  have hb := X.2.1
  have hts := X.2.2.2.2.1
  have hY0 : ∀ q u, z_Y0 q = some u → q < s.heap.size := fun q u h => by cases h
  have hbA : ¬ ((∃ t, z_Y0 b = some t) ∨ s.heap.size ≤ b) := fun h => by
    rcases h with ⟨t, h⟩ | h
    · cases h
    · omega
  intro H Y locs ls fv Kv tv nv hI hY_x hY_mo hR hM hv hl
  refine lv_aload_n hx hb la_d720 rfl (lv_at hl 2 rfl) ?_
  refine lv_aload_n hx hb la_d721 rfl (lv_at hl 1 rfl) ?_
  refine lv_iload_n hx hb la_d722 rfl (lv_at hl 0 rfl) ?_
  refine lv_iconst hx hb la_d723 (v := 1) (by decide) ?_
  have ec1 : (1 : Int32).toInt = 1 := by decide
  refine lv_iadd hx hb la_d724 ?_
  generalize hg_z724 : i + (1 : Int32) = z724
  have h_z724 : z724.toInt = i.toInt + 1 := by rw [← hg_z724]; have := y_add (x := i) (y := (1 : Int32)) (by rw [ec1]; omega) (by rw [ec1]; omega); rw [ec1] at this; exact this
  refine va_sld hx hb hX hbl hbA hI.2.2.2 (z_vpin (by omega) (by omega)) la_d725 ?_
  obtain ⟨e725, hg_e725⟩ : ∃ e725 : Int32, xs z724.toNatClampNeg = e725 := ⟨_, rfl⟩
  rw [hg_e725]
  refine y_call (z := (0, 78, 2, some 0, xM1002)) (av := [.ref x, .int e725]) (rest := []) (y_cok.of (x_cokV (n := 1) (ci := 11) X xm1002 rfl rfl rfl (x_cons (x_bw44 10 rfl rfl) (x_cons (x_bw44 11 rfl rfl) (x_cons (x_bw44 12 rfl rfl) (x_cons (x_bw0 1 rfl rfl) x_nilm)))) (x_bw44 13 rfl rfl) (by decide +kernel) ⟨Nat.le_of_ble_eq_true rfl, Nat.le_of_ble_eq_true rfl⟩)) hY0 hI rfl la_d726 hl.1 (Nat.le_of_ble_eq_true rfl) (by show (66 + 240 * j) + 0 ≤ 600000; omega) (by show (67411 + 1200 * j) + 0 ≤ 7302250; omega) (y_cons (y_cref hY_x rfl) (y_cons ⟨_, rfl, x_i32 _⟩ y_nil)) rfl (y_recv rfl hY_x) trivial (y_sub_ef (by decide +kernel)) fun v Yn o Hn L_ ho hr ha hIn hx_ hE hP => ?_
  replace hM := hM.E hY_mo hE (fun q u h => y_ext hx_ hI.1 h) (by decide +kernel) (by decide +kernel)
  replace hR := hR.E2 hY_x hE (fun q u h => y_ext hx_ hI.1 h) (by decide +kernel)
  replace hY_x := y_ext hx_ hI.1 hY_x
  replace hY_mo := y_ext hx_ hI.1 hY_mo
  obtain ⟨r726, rfl, h_r726⟩ := y_ansI (lo := (-2147483648)) (hi := 2147483647) (by decide) ho hr
  clear ho hr ha hE hP hI hx_
  rename x_I _ _ _ _ _ _ _ _ _ _ => hI
  refine lv_pop hx hb la_d729 rfl ?_
  refine lv_aload_n hx hb la_d730 rfl (lv_at hl 3 rfl) ?_
  refine lv_aload_n hx hb la_d731 rfl (lv_at hl 1 rfl) ?_
  refine lv_iload_n hx hb la_d732 rfl (lv_at hl 0 rfl) ?_
  refine lv_iconst hx hb la_d733 (v := 1) (by decide) ?_
  refine lv_iadd hx hb la_d734 ?_
  generalize hg_z734 : i + (1 : Int32) = z734
  have h_z734 : z734.toInt = i.toInt + 1 := by rw [← hg_z734]; have := y_add (x := i) (y := (1 : Int32)) (by rw [ec1]; omega) (by rw [ec1]; omega); rw [ec1] at this; exact this
  refine va_sld hx hb hX hbl hbA hI.2.2.2 (z_vpin (by omega) (by omega)) la_d735 ?_
  obtain ⟨e735, hg_e735⟩ : ∃ e735 : Int32, xs z734.toNatClampNeg = e735 := ⟨_, rfl⟩
  rw [hg_e735]
  refine y_call (z := (0, 81, 2, some 17, xM194)) (av := [.ref mo, .int e735]) (rest := []) (y_cok.of (x_cokV (n := 1) (ci := 12) X xm194 rfl rfl rfl (x_cons (x_bw78 15 rfl rfl) (x_cons (x_bw79 0 rfl rfl) (x_cons (x_bw79 1 rfl rfl) (x_cons (x_bw0 9 rfl rfl) x_nilm)))) (x_bw79 2 rfl rfl) (by decide +kernel) ⟨Nat.le_of_ble_eq_true rfl, Nat.le_of_ble_eq_true rfl⟩)) hY0 hI rfl la_d736 hl.1 (Nat.le_of_ble_eq_true rfl) (by show (66 + 240 * j) + 0 + 0 ≤ 600000; omega) (by show (67411 + 1200 * j) + 0 + 0 ≤ 7302250; omega) (y_cons (y_cref hY_mo rfl) (y_cons ⟨_, rfl, x_i32 _⟩ y_nil)) rfl (y_recv rfl hY_mo) trivial (y_sub_ef (by decide +kernel)) fun v Yn o Hn L_ ho hr ha hIn hx_ hE hP => ?_
  replace hR := hR.E2 hY_x hE (fun q u h => y_ext hx_ hI.1 h) (by decide +kernel)
  replace hM := hM.E hY_mo hE (fun q u h => y_ext hx_ hI.1 h) (by decide +kernel) (by decide +kernel)
  replace hY_x := y_ext hx_ hI.1 hY_x
  replace hY_mo := y_ext hx_ hI.1 hY_mo
  obtain ⟨r736, rfl, h_r736⟩ := y_ansI (lo := (-2147483648)) (hi := 2147483647) (by decide) ho hr
  clear ho hr ha hE hP hI hx_
  rename x_I _ _ _ _ _ _ _ _ _ _ => hI
  refine lv_pop hx hb la_d739 rfl ?_
  refine lv_goto hx hb la_d740 (tgt := 1501) (by decide) ?_
  refine W.widen (k := (66 + 240 * (j + 1))) (n := (67411 + 1200 * (j + 1))) (by show (66 + 240 * j) + 0 + 0 ≤ (66 + 240 * (j + 1)); omega) (by show (67411 + 1200 * j) + 0 + 0 ≤ (67411 + 1200 * (j + 1)); omega) ?_
  exact out _ _ _ _ _ _ _ _ hI hY_x hY_mo hR hM hv (lv_sub hl [0, 1, 2, 3] rfl)
theorem la_c15 {p : Program} {l : Launch} {e : Env} {s : State} {m : MethodId} {below : List Frame} {meth : Method} {c : Code} {D : va_G} {b L : Nat} {xs : Nat → Int32} (X : x_cx p s m #[Value.ref b] c D s xMlaw.2.1 xMlaw.2.2.1 vwCl x_Tb x_Nb "TwinFiresLaw") (hrt : meth.sig.returnType = ret) (hlk : meth.locks = false) (hX : va_X b L xs s s.heap) (hbl : b < s.heap.size) (hL : L ≤ 3072) {x mo : Nat} {i : Int32} {j : Nat} (hi : i.toInt = 6 * (j : Int)) (hj : 6 * j + 6 ≤ L)
    (out : ∀ (H : Heap) (Y : xY) (locs : List Loc) (ls : Array Slot) (fv : Nat → Int32) (Kv : Nat → Option (Nat → Int32)) (tv : Nat → Int32) (nv : Int32), x_I D x_G x_Zs s (x_efs xMlaw) z_Y0 s.heap Y H locs → Y x = some 0 → Y mo = some 17 → z_RC D Y H x fv Kv tv nv → z_RM D Y H mo fv Kv tv nv → m_inv2 fv Kv → lv_has ls 4 [(3, .int i), (0, .ref b), (1, .ref x), (2, .ref mo)] → W p l e room_1 s m #[Value.ref b] below meth c H locs (66 + 240 * (j + 1)) (67411 + 1200 * (j + 1)) (lw_Z below #[Value.ref b] s) (F0 m 1501 ls [])) :
    ∀ (H : Heap) (Y : xY) (locs : List Loc) (ls : Array Slot) (fv : Nat → Int32) (Kv : Nat → Option (Nat → Int32)) (tv : Nat → Int32) (nv : Int32), x_I D x_G x_Zs s (x_efs xMlaw) z_Y0 s.heap Y H locs → Y x = some 0 → Y mo = some 17 → z_RC D Y H x fv Kv tv nv → z_RM D Y H mo fv Kv tv nv → m_inv2 fv Kv → lv_has ls 4 [(3, .int i), (0, .ref b), (1, .ref x), (2, .ref mo)] → W p l e room_1 s m #[Value.ref b] below meth c H locs (66 + 240 * j) (67411 + 1200 * j) (lw_Z below #[Value.ref b] s) (F0 m 743 ls []) := by
  have hx := X.1
  have hb := X.2.1
  have hts := X.2.2.2.2.1
  have hY0 : ∀ q u, z_Y0 q = some u → q < s.heap.size := fun q u h => by cases h
  have hbA : ¬ ((∃ t, z_Y0 b = some t) ∨ s.heap.size ≤ b) := fun h => by
    rcases h with ⟨t, h⟩ | h
    · cases h
    · omega
  intro H Y locs ls fv Kv tv nv hI hY_x hY_mo hR hM hv hl
  refine lv_aload_n hx hb la_d743 rfl (lv_at hl 2 rfl) ?_
  refine lv_aload_n hx hb la_d744 rfl (lv_at hl 1 rfl) ?_
  refine lv_iload_n hx hb la_d745 rfl (lv_at hl 0 rfl) ?_
  refine lv_iconst hx hb la_d746 (v := 1) (by decide) ?_
  have ec1 : (1 : Int32).toInt = 1 := by decide
  refine lv_iadd hx hb la_d747 ?_
  generalize hg_z747 : i + (1 : Int32) = z747
  have h_z747 : z747.toInt = i.toInt + 1 := by rw [← hg_z747]; have := y_add (x := i) (y := (1 : Int32)) (by rw [ec1]; omega) (by rw [ec1]; omega); rw [ec1] at this; exact this
  refine va_sld hx hb hX hbl hbA hI.2.2.2 (z_vpin (by omega) (by omega)) la_d748 ?_
  obtain ⟨e748, hg_e748⟩ : ∃ e748 : Int32, xs z747.toNatClampNeg = e748 := ⟨_, rfl⟩
  rw [hg_e748]
  refine y_call (z := (0, 82, 2, some 0, xM77)) (av := [.ref x, .int e748]) (rest := []) (y_cok.of (x_cokV (n := 1) (ci := 11) X xm77 rfl rfl rfl (x_cons (x_bw45 2 rfl rfl) (x_cons (x_bw45 3 rfl rfl) (x_cons (x_bw45 4 rfl rfl) (x_cons (x_bw0 1 rfl rfl) x_nilm)))) (x_bw45 5 rfl rfl) (by decide +kernel) ⟨Nat.le_of_ble_eq_true rfl, Nat.le_of_ble_eq_true rfl⟩)) hY0 hI rfl la_d749 hl.1 (Nat.le_of_ble_eq_true rfl) (by show (66 + 240 * j) + 0 ≤ 600000; omega) (by show (67411 + 1200 * j) + 0 ≤ 7302250; omega) (y_cons (y_cref hY_x rfl) (y_cons ⟨_, rfl, x_i32 _⟩ y_nil)) rfl (y_recv rfl hY_x) trivial (y_sub_ef (by decide +kernel)) fun v Yn o Hn L_ ho hr ha hIn hx_ hE hP => ?_
  replace hM := hM.E hY_mo hE (fun q u h => y_ext hx_ hI.1 h) (by decide +kernel) (by decide +kernel)
  replace hR := hR.E2 hY_x hE (fun q u h => y_ext hx_ hI.1 h) (by decide +kernel)
  replace hY_x := y_ext hx_ hI.1 hY_x
  replace hY_mo := y_ext hx_ hI.1 hY_mo
  obtain ⟨r749, rfl, h_r749⟩ := y_ansI (lo := (-2147483648)) (hi := 2147483647) (by decide) ho hr
  clear ho hr ha hE hP hI hx_
  rename x_I _ _ _ _ _ _ _ _ _ _ => hI
  refine lv_pop hx hb la_d752 rfl ?_
  refine lv_aload_n hx hb la_d753 rfl (lv_at hl 3 rfl) ?_
  refine lv_aload_n hx hb la_d754 rfl (lv_at hl 1 rfl) ?_
  refine lv_iload_n hx hb la_d755 rfl (lv_at hl 0 rfl) ?_
  refine lv_iconst hx hb la_d756 (v := 1) (by decide) ?_
  refine lv_iadd hx hb la_d757 ?_
  generalize hg_z757 : i + (1 : Int32) = z757
  have h_z757 : z757.toInt = i.toInt + 1 := by rw [← hg_z757]; have := y_add (x := i) (y := (1 : Int32)) (by rw [ec1]; omega) (by rw [ec1]; omega); rw [ec1] at this; exact this
  refine va_sld hx hb hX hbl hbA hI.2.2.2 (z_vpin (by omega) (by omega)) la_d758 ?_
  obtain ⟨e758, hg_e758⟩ : ∃ e758 : Int32, xs z757.toNatClampNeg = e758 := ⟨_, rfl⟩
  rw [hg_e758]
  refine y_call (z := (0, 85, 2, some 17, xM195)) (av := [.ref mo, .int e758]) (rest := []) (y_cok.of (x_cokV (n := 1) (ci := 12) X xm195 rfl rfl rfl (x_cons (x_bw79 4 rfl rfl) (x_cons (x_bw79 5 rfl rfl) (x_cons (x_bw79 6 rfl rfl) (x_cons (x_bw0 9 rfl rfl) x_nilm)))) (x_bw79 7 rfl rfl) (by decide +kernel) ⟨Nat.le_of_ble_eq_true rfl, Nat.le_of_ble_eq_true rfl⟩)) hY0 hI rfl la_d759 hl.1 (Nat.le_of_ble_eq_true rfl) (by show (66 + 240 * j) + 0 + 0 ≤ 600000; omega) (by show (67411 + 1200 * j) + 0 + 0 ≤ 7302250; omega) (y_cons (y_cref hY_mo rfl) (y_cons ⟨_, rfl, x_i32 _⟩ y_nil)) rfl (y_recv rfl hY_mo) trivial (y_sub_ef (by decide +kernel)) fun v Yn o Hn L_ ho hr ha hIn hx_ hE hP => ?_
  replace hR := hR.E2 hY_x hE (fun q u h => y_ext hx_ hI.1 h) (by decide +kernel)
  replace hM := hM.E hY_mo hE (fun q u h => y_ext hx_ hI.1 h) (by decide +kernel) (by decide +kernel)
  replace hY_x := y_ext hx_ hI.1 hY_x
  replace hY_mo := y_ext hx_ hI.1 hY_mo
  obtain ⟨r759, rfl, h_r759⟩ := y_ansI (lo := (-2147483648)) (hi := 2147483647) (by decide) ho hr
  clear ho hr ha hE hP hI hx_
  rename x_I _ _ _ _ _ _ _ _ _ _ => hI
  refine lv_pop hx hb la_d762 rfl ?_
  refine lv_goto hx hb la_d763 (tgt := 1501) (by decide) ?_
  refine W.widen (k := (66 + 240 * (j + 1))) (n := (67411 + 1200 * (j + 1))) (by show (66 + 240 * j) + 0 + 0 ≤ (66 + 240 * (j + 1)); omega) (by show (67411 + 1200 * j) + 0 + 0 ≤ (67411 + 1200 * (j + 1)); omega) ?_
  exact out _ _ _ _ _ _ _ _ hI hY_x hY_mo hR hM hv (lv_sub hl [0, 1, 2, 3] rfl)
theorem la_c16 {p : Program} {l : Launch} {e : Env} {s : State} {m : MethodId} {below : List Frame} {meth : Method} {c : Code} {D : va_G} {b L : Nat} {xs : Nat → Int32} (X : x_cx p s m #[Value.ref b] c D s xMlaw.2.1 xMlaw.2.2.1 vwCl x_Tb x_Nb "TwinFiresLaw") (hrt : meth.sig.returnType = ret) (hlk : meth.locks = false) (hX : va_X b L xs s s.heap) (hbl : b < s.heap.size) (hL : L ≤ 3072) {x mo : Nat} {i : Int32} {j : Nat} (hi : i.toInt = 6 * (j : Int)) (hj : 6 * j + 6 ≤ L)
    (out : ∀ (H : Heap) (Y : xY) (locs : List Loc) (ls : Array Slot) (fv : Nat → Int32) (Kv : Nat → Option (Nat → Int32)) (tv : Nat → Int32) (nv : Int32), x_I D x_G x_Zs s (x_efs xMlaw) z_Y0 s.heap Y H locs → Y x = some 0 → Y mo = some 17 → z_RC D Y H x fv Kv tv nv → z_RM D Y H mo fv Kv tv nv → m_inv2 fv Kv → lv_has ls 4 [(3, .int i), (0, .ref b), (1, .ref x), (2, .ref mo)] → W p l e room_1 s m #[Value.ref b] below meth c H locs (66 + 240 * (j + 1)) (67411 + 1200 * (j + 1)) (lw_Z below #[Value.ref b] s) (F0 m 1501 ls [])) :
    ∀ (H : Heap) (Y : xY) (locs : List Loc) (ls : Array Slot) (fv : Nat → Int32) (Kv : Nat → Option (Nat → Int32)) (tv : Nat → Int32) (nv : Int32), x_I D x_G x_Zs s (x_efs xMlaw) z_Y0 s.heap Y H locs → Y x = some 0 → Y mo = some 17 → z_RC D Y H x fv Kv tv nv → z_RM D Y H mo fv Kv tv nv → m_inv2 fv Kv → lv_has ls 4 [(3, .int i), (0, .ref b), (1, .ref x), (2, .ref mo)] → W p l e room_1 s m #[Value.ref b] below meth c H locs (66 + 240 * j) (67411 + 1200 * j) (lw_Z below #[Value.ref b] s) (F0 m 766 ls []) := by
  have hx := X.1
  have hb := X.2.1
  have hts := X.2.2.2.2.1
  have hY0 : ∀ q u, z_Y0 q = some u → q < s.heap.size := fun q u h => by cases h
  have hbA : ¬ ((∃ t, z_Y0 b = some t) ∨ s.heap.size ≤ b) := fun h => by
    rcases h with ⟨t, h⟩ | h
    · cases h
    · omega
  intro H Y locs ls fv Kv tv nv hI hY_x hY_mo hR hM hv hl
  refine lv_aload_n hx hb la_d766 rfl (lv_at hl 2 rfl) ?_
  refine lv_aload_n hx hb la_d767 rfl (lv_at hl 1 rfl) ?_
  refine lv_iload_n hx hb la_d768 rfl (lv_at hl 0 rfl) ?_
  refine lv_iconst hx hb la_d769 (v := 1) (by decide) ?_
  have ec1 : (1 : Int32).toInt = 1 := by decide
  refine lv_iadd hx hb la_d770 ?_
  generalize hg_z770 : i + (1 : Int32) = z770
  have h_z770 : z770.toInt = i.toInt + 1 := by rw [← hg_z770]; have := y_add (x := i) (y := (1 : Int32)) (by rw [ec1]; omega) (by rw [ec1]; omega); rw [ec1] at this; exact this
  refine va_sld hx hb hX hbl hbA hI.2.2.2 (z_vpin (by omega) (by omega)) la_d771 ?_
  obtain ⟨e771, hg_e771⟩ : ∃ e771 : Int32, xs z770.toNatClampNeg = e771 := ⟨_, rfl⟩
  rw [hg_e771]
  refine lv_aload_n hx hb la_d772 rfl (lv_at hl 1 rfl) ?_
  refine lv_iload_n hx hb la_d773 rfl (lv_at hl 0 rfl) ?_
  refine lv_iconst hx hb la_d774 (v := 2) (by decide) ?_
  have ec2 : (2 : Int32).toInt = 2 := by decide
  refine lv_iadd hx hb la_d775 ?_
  generalize hg_z775 : i + (2 : Int32) = z775
  have h_z775 : z775.toInt = i.toInt + 2 := by rw [← hg_z775]; have := y_add (x := i) (y := (2 : Int32)) (by rw [ec2]; omega) (by rw [ec2]; omega); rw [ec2] at this; exact this
  refine va_sld hx hb hX hbl hbA hI.2.2.2 (z_vpin (by omega) (by omega)) la_d776 ?_
  obtain ⟨e776, hg_e776⟩ : ∃ e776 : Int32, xs z775.toNatClampNeg = e776 := ⟨_, rfl⟩
  rw [hg_e776]
  have hbd := hR.bd hI.1
  refine y_call (z := (0, 86, 3, some 0, xM80)) (av := [.ref x, .int e771, .int e776]) (rest := []) (y_cokV (n := 2) (ci := 11) X ym_Tmist rfl rfl rfl (x_cons (x_bw45 8 rfl rfl) (x_cons (x_bw45 9 rfl rfl) (x_cons (x_bw45 10 rfl rfl) (x_cons (x_bw0 1 rfl rfl) x_nilm)))) (x_bw45 11 rfl rfl) (by decide +kernel) ⟨Nat.le_of_ble_eq_true rfl, Nat.le_of_ble_eq_true rfl⟩) hY0 hI rfl la_d777 hl.1 (Nat.le_of_ble_eq_true rfl) (by show (66 + 240 * j) + 0 ≤ 600000; omega) (by show (67411 + 1200 * j) + 0 ≤ 7302250; omega) (y_cons (y_cref hY_x rfl) (y_cons ⟨_, rfl, x_i32 _⟩ (y_cons ⟨_, rfl, x_i32 _⟩ y_nil))) rfl (y_recv rfl hY_x) (fun t' h1 => by cases h1; exact ⟨_, _, _, _, hR⟩) (y_sub_ef (by decide +kernel)) fun v Yn o Hn L_ ho hr ha hIn hx_ hE hP => ?_
  replace hM := hM.E hY_mo hE (fun q u h => y_ext hx_ hI.1 h) (by decide +kernel) (by decide +kernel)
  obtain ⟨rA, gA, hra, hRn, hmA⟩ := hP _ _ _ _ _ _ _ rfl hR
  obtain rfl := hra
  replace hR := hRn
  replace hY_x := y_ext hx_ hI.1 hY_x
  replace hY_mo := y_ext hx_ hI.1 hY_mo
  clear ho hr ha hE hP hI hx_
  rename x_I _ _ _ _ _ _ _ _ _ _ => hI
  refine lv_pop hx hb la_d780 rfl ?_
  refine lv_aload_n hx hb la_d781 rfl (lv_at hl 3 rfl) ?_
  refine lv_aload_n hx hb la_d782 rfl (lv_at hl 1 rfl) ?_
  refine lv_iload_n hx hb la_d783 rfl (lv_at hl 0 rfl) ?_
  refine lv_iconst hx hb la_d784 (v := 1) (by decide) ?_
  refine lv_iadd hx hb la_d785 ?_
  generalize hg_z785 : i + (1 : Int32) = z785
  have h_z785 : z785.toInt = i.toInt + 1 := by rw [← hg_z785]; have := y_add (x := i) (y := (1 : Int32)) (by rw [ec1]; omega) (by rw [ec1]; omega); rw [ec1] at this; exact this
  refine va_sld hx hb hX hbl hbA hI.2.2.2 (z_vpin (by omega) (by omega)) la_d786 ?_
  obtain ⟨e786, hg_e786⟩ : ∃ e786 : Int32, xs z785.toNatClampNeg = e786 := ⟨_, rfl⟩
  rw [hg_e786]
  refine lv_aload_n hx hb la_d787 rfl (lv_at hl 1 rfl) ?_
  refine lv_iload_n hx hb la_d788 rfl (lv_at hl 0 rfl) ?_
  refine lv_iconst hx hb la_d789 (v := 2) (by decide) ?_
  refine lv_iadd hx hb la_d790 ?_
  generalize hg_z790 : i + (2 : Int32) = z790
  have h_z790 : z790.toInt = i.toInt + 2 := by rw [← hg_z790]; have := y_add (x := i) (y := (2 : Int32)) (by rw [ec2]; omega) (by rw [ec2]; omega); rw [ec2] at this; exact this
  refine va_sld hx hb hX hbl hbA hI.2.2.2 (z_vpin (by omega) (by omega)) la_d791 ?_
  obtain ⟨e791, hg_e791⟩ : ∃ e791 : Int32, xs z790.toNatClampNeg = e791 := ⟨_, rfl⟩
  rw [hg_e791]
  obtain rfl : e771 = e786 := by rw [← hg_e771, ← hg_e786, ← hg_z770, ← hg_z785]
  obtain rfl : e776 = e791 := by rw [← hg_e776, ← hg_e791, ← hg_z775, ← hg_z790]
  refine y_call (z := (0, 89, 3, some 17, xM197)) (av := [.ref mo, .int e771, .int e776]) (rest := []) (y_cokV (n := 2) (ci := 12) X ym_mistX rfl rfl rfl (x_cons (x_bw79 8 rfl rfl) (x_cons (x_bw79 9 rfl rfl) (x_cons (x_bw79 10 rfl rfl) (x_cons (x_bw0 9 rfl rfl) x_nilm)))) (x_bw79 11 rfl rfl) (by decide +kernel) ⟨Nat.le_of_ble_eq_true rfl, Nat.le_of_ble_eq_true rfl⟩) hY0 hI rfl la_d792 hl.1 (Nat.le_of_ble_eq_true rfl) (by show (66 + 240 * j) + 0 + 0 ≤ 600000; omega) (by show (67411 + 1200 * j) + 0 + 0 ≤ 7302250; omega) (y_cons (y_cref hY_mo rfl) (y_cons ⟨_, rfl, x_i32 _⟩ (y_cons ⟨_, rfl, x_i32 _⟩ y_nil))) rfl (y_recv rfl hY_mo) trivial (y_sub_ef (by decide +kernel)) fun v Yn o Hn L_ ho hr ha hIn hx_ hE hP => ?_
  replace hR := hR.E2 hY_x hE (fun q u h => y_ext hx_ hI.1 h) (by decide +kernel)
  obtain ⟨bk9, hb1, hb2, hb3⟩ := hM.bk
  obtain ⟨rB, gB, hrb, hAB, hmB⟩ := hP _ _ _ _ _ rfl hb1 hb2 hb3
  obtain rfl := hrb
  have hi9 := hmA.i01 (fun q9 j hj => by omega) hv.1.1
  have hi8 := hmA.rg (fun q9 => .of (m_T3 _ (by omega)).1 q9.2) hv.2.1
  obtain ⟨w4, w5⟩ := hmA.eq hmB
  subst w4 w5
  replace hM := hM.book hY_mo hE (fun q u h => y_ext hx_ hI.1 h) (by decide +kernel) hR.zc (fun b hb => by cases hb1.symm.trans hb; exact hAB)
  replace hv : m_inv2 _ Kv := ⟨⟨hi9, hv.1.2⟩, hi8, hv.2.2⟩
  replace hY_x := y_ext hx_ hI.1 hY_x
  replace hY_mo := y_ext hx_ hI.1 hY_mo
  clear ho hr ha hE hP hI hx_
  rename x_I _ _ _ _ _ _ _ _ _ _ => hI
  refine lv_pop hx hb la_d795 rfl ?_
  refine lv_goto hx hb la_d796 (tgt := 1501) (by decide) ?_
  refine W.widen (k := (66 + 240 * (j + 1))) (n := (67411 + 1200 * (j + 1))) (by show (66 + 240 * j) + 0 + 0 ≤ (66 + 240 * (j + 1)); omega) (by show (67411 + 1200 * j) + 0 + 0 ≤ (67411 + 1200 * (j + 1)); omega) ?_
  exact out _ _ _ _ _ _ _ _ hI hY_x hY_mo hR hM hv (lv_sub hl [0, 1, 2, 3] rfl)
theorem la_c17 {p : Program} {l : Launch} {e : Env} {s : State} {m : MethodId} {below : List Frame} {meth : Method} {c : Code} {D : va_G} {b L : Nat} {xs : Nat → Int32} (X : x_cx p s m #[Value.ref b] c D s xMlaw.2.1 xMlaw.2.2.1 vwCl x_Tb x_Nb "TwinFiresLaw") (hrt : meth.sig.returnType = ret) (hlk : meth.locks = false) (hX : va_X b L xs s s.heap) (hbl : b < s.heap.size) (hL : L ≤ 3072) {x mo : Nat} {i : Int32} {j : Nat} (hi : i.toInt = 6 * (j : Int)) (hj : 6 * j + 6 ≤ L)
    (out : ∀ (H : Heap) (Y : xY) (locs : List Loc) (ls : Array Slot) (fv : Nat → Int32) (Kv : Nat → Option (Nat → Int32)) (tv : Nat → Int32) (nv : Int32), x_I D x_G x_Zs s (x_efs xMlaw) z_Y0 s.heap Y H locs → Y x = some 0 → Y mo = some 17 → z_RC D Y H x fv Kv tv nv → z_RM D Y H mo fv Kv tv nv → m_inv2 fv Kv → lv_has ls 4 [(3, .int i), (0, .ref b), (1, .ref x), (2, .ref mo)] → W p l e room_1 s m #[Value.ref b] below meth c H locs (66 + 240 * (j + 1)) (67411 + 1200 * (j + 1)) (lw_Z below #[Value.ref b] s) (F0 m 1501 ls [])) :
    ∀ (H : Heap) (Y : xY) (locs : List Loc) (ls : Array Slot) (fv : Nat → Int32) (Kv : Nat → Option (Nat → Int32)) (tv : Nat → Int32) (nv : Int32), x_I D x_G x_Zs s (x_efs xMlaw) z_Y0 s.heap Y H locs → Y x = some 0 → Y mo = some 17 → z_RC D Y H x fv Kv tv nv → z_RM D Y H mo fv Kv tv nv → m_inv2 fv Kv → lv_has ls 4 [(3, .int i), (0, .ref b), (1, .ref x), (2, .ref mo)] → W p l e room_1 s m #[Value.ref b] below meth c H locs (66 + 240 * j) (67411 + 1200 * j) (lw_Z below #[Value.ref b] s) (F0 m 799 ls []) := by
  have hx := X.1
  have hb := X.2.1
  have hts := X.2.2.2.2.1
  have hY0 : ∀ q u, z_Y0 q = some u → q < s.heap.size := fun q u h => by cases h
  have hbA : ¬ ((∃ t, z_Y0 b = some t) ∨ s.heap.size ≤ b) := fun h => by
    rcases h with ⟨t, h⟩ | h
    · cases h
    · omega
  intro H Y locs ls fv Kv tv nv hI hY_x hY_mo hR hM hv hl
  refine lv_aload_n hx hb la_d799 rfl (lv_at hl 2 rfl) ?_
  refine lv_aload_n hx hb la_d800 rfl (lv_at hl 1 rfl) ?_
  refine lv_iload_n hx hb la_d801 rfl (lv_at hl 0 rfl) ?_
  refine lv_iconst hx hb la_d802 (v := 1) (by decide) ?_
  have ec1 : (1 : Int32).toInt = 1 := by decide
  refine lv_iadd hx hb la_d803 ?_
  generalize hg_z803 : i + (1 : Int32) = z803
  have h_z803 : z803.toInt = i.toInt + 1 := by rw [← hg_z803]; have := y_add (x := i) (y := (1 : Int32)) (by rw [ec1]; omega) (by rw [ec1]; omega); rw [ec1] at this; exact this
  refine va_sld hx hb hX hbl hbA hI.2.2.2 (z_vpin (by omega) (by omega)) la_d804 ?_
  obtain ⟨e804, hg_e804⟩ : ∃ e804 : Int32, xs z803.toNatClampNeg = e804 := ⟨_, rfl⟩
  rw [hg_e804]
  refine y_call (z := (0, 90, 2, some 0, xM82)) (av := [.ref x, .int e804]) (rest := []) (y_cok.of (x_cokV (n := 1) (ci := 11) X xm82 rfl rfl rfl (x_cons (x_bw45 12 rfl rfl) (x_cons (x_bw45 13 rfl rfl) (x_cons (x_bw45 14 rfl rfl) (x_cons (x_bw0 1 rfl rfl) x_nilm)))) (x_bw45 15 rfl rfl) (by decide +kernel) ⟨Nat.le_of_ble_eq_true rfl, Nat.le_of_ble_eq_true rfl⟩)) hY0 hI rfl la_d805 hl.1 (Nat.le_of_ble_eq_true rfl) (by show (66 + 240 * j) + 0 ≤ 600000; omega) (by show (67411 + 1200 * j) + 0 ≤ 7302250; omega) (y_cons (y_cref hY_x rfl) (y_cons ⟨_, rfl, x_i32 _⟩ y_nil)) rfl (y_recv rfl hY_x) trivial (y_sub_ef (by decide +kernel)) fun v Yn o Hn L_ ho hr ha hIn hx_ hE hP => ?_
  replace hM := hM.E hY_mo hE (fun q u h => y_ext hx_ hI.1 h) (by decide +kernel) (by decide +kernel)
  replace hR := hR.E2 hY_x hE (fun q u h => y_ext hx_ hI.1 h) (by decide +kernel)
  replace hY_x := y_ext hx_ hI.1 hY_x
  replace hY_mo := y_ext hx_ hI.1 hY_mo
  obtain ⟨r805, rfl, h_r805⟩ := y_ansI (lo := (-2147483648)) (hi := 2147483647) (by decide) ho hr
  clear ho hr ha hE hP hI hx_
  rename x_I _ _ _ _ _ _ _ _ _ _ => hI
  refine lv_pop hx hb la_d808 rfl ?_
  refine lv_aload_n hx hb la_d809 rfl (lv_at hl 3 rfl) ?_
  refine lv_aload_n hx hb la_d810 rfl (lv_at hl 1 rfl) ?_
  refine lv_iload_n hx hb la_d811 rfl (lv_at hl 0 rfl) ?_
  refine lv_iconst hx hb la_d812 (v := 1) (by decide) ?_
  refine lv_iadd hx hb la_d813 ?_
  generalize hg_z813 : i + (1 : Int32) = z813
  have h_z813 : z813.toInt = i.toInt + 1 := by rw [← hg_z813]; have := y_add (x := i) (y := (1 : Int32)) (by rw [ec1]; omega) (by rw [ec1]; omega); rw [ec1] at this; exact this
  refine va_sld hx hb hX hbl hbA hI.2.2.2 (z_vpin (by omega) (by omega)) la_d814 ?_
  obtain ⟨e814, hg_e814⟩ : ∃ e814 : Int32, xs z813.toNatClampNeg = e814 := ⟨_, rfl⟩
  rw [hg_e814]
  refine y_call (z := (0, 93, 2, some 17, xM198)) (av := [.ref mo, .int e814]) (rest := []) (y_cok.of (x_cokV (n := 1) (ci := 12) X xm198 rfl rfl rfl (x_cons (x_bw79 13 rfl rfl) (x_cons (x_bw79 14 rfl rfl) (x_cons (x_bw79 15 rfl rfl) (x_cons (x_bw0 9 rfl rfl) x_nilm)))) (x_bw80 0 rfl rfl) (by decide +kernel) ⟨Nat.le_of_ble_eq_true rfl, Nat.le_of_ble_eq_true rfl⟩)) hY0 hI rfl la_d815 hl.1 (Nat.le_of_ble_eq_true rfl) (by show (66 + 240 * j) + 0 + 0 ≤ 600000; omega) (by show (67411 + 1200 * j) + 0 + 0 ≤ 7302250; omega) (y_cons (y_cref hY_mo rfl) (y_cons ⟨_, rfl, x_i32 _⟩ y_nil)) rfl (y_recv rfl hY_mo) trivial (y_sub_ef (by decide +kernel)) fun v Yn o Hn L_ ho hr ha hIn hx_ hE hP => ?_
  replace hR := hR.E2 hY_x hE (fun q u h => y_ext hx_ hI.1 h) (by decide +kernel)
  replace hM := hM.E hY_mo hE (fun q u h => y_ext hx_ hI.1 h) (by decide +kernel) (by decide +kernel)
  replace hY_x := y_ext hx_ hI.1 hY_x
  replace hY_mo := y_ext hx_ hI.1 hY_mo
  obtain ⟨r815, rfl, h_r815⟩ := y_ansI (lo := (-2147483648)) (hi := 2147483647) (by decide) ho hr
  clear ho hr ha hE hP hI hx_
  rename x_I _ _ _ _ _ _ _ _ _ _ => hI
  refine lv_pop hx hb la_d818 rfl ?_
  refine lv_goto hx hb la_d819 (tgt := 1501) (by decide) ?_
  refine W.widen (k := (66 + 240 * (j + 1))) (n := (67411 + 1200 * (j + 1))) (by show (66 + 240 * j) + 0 + 0 ≤ (66 + 240 * (j + 1)); omega) (by show (67411 + 1200 * j) + 0 + 0 ≤ (67411 + 1200 * (j + 1)); omega) ?_
  exact out _ _ _ _ _ _ _ _ hI hY_x hY_mo hR hM hv (lv_sub hl [0, 1, 2, 3] rfl)
theorem la_c18 {p : Program} {l : Launch} {e : Env} {s : State} {m : MethodId} {below : List Frame} {meth : Method} {c : Code} {D : va_G} {b L : Nat} {xs : Nat → Int32} (X : x_cx p s m #[Value.ref b] c D s xMlaw.2.1 xMlaw.2.2.1 vwCl x_Tb x_Nb "TwinFiresLaw") (hrt : meth.sig.returnType = ret) (hlk : meth.locks = false) (hX : va_X b L xs s s.heap) (hbl : b < s.heap.size) (hL : L ≤ 3072) {x mo : Nat} {i : Int32} {j : Nat} (hi : i.toInt = 6 * (j : Int)) (hj : 6 * j + 6 ≤ L)
    (out : ∀ (H : Heap) (Y : xY) (locs : List Loc) (ls : Array Slot) (fv : Nat → Int32) (Kv : Nat → Option (Nat → Int32)) (tv : Nat → Int32) (nv : Int32), x_I D x_G x_Zs s (x_efs xMlaw) z_Y0 s.heap Y H locs → Y x = some 0 → Y mo = some 17 → z_RC D Y H x fv Kv tv nv → z_RM D Y H mo fv Kv tv nv → m_inv2 fv Kv → lv_has ls 4 [(3, .int i), (0, .ref b), (1, .ref x), (2, .ref mo)] → W p l e room_1 s m #[Value.ref b] below meth c H locs (66 + 240 * (j + 1)) (67411 + 1200 * (j + 1)) (lw_Z below #[Value.ref b] s) (F0 m 1501 ls [])) :
    ∀ (H : Heap) (Y : xY) (locs : List Loc) (ls : Array Slot) (fv : Nat → Int32) (Kv : Nat → Option (Nat → Int32)) (tv : Nat → Int32) (nv : Int32), x_I D x_G x_Zs s (x_efs xMlaw) z_Y0 s.heap Y H locs → Y x = some 0 → Y mo = some 17 → z_RC D Y H x fv Kv tv nv → z_RM D Y H mo fv Kv tv nv → m_inv2 fv Kv → lv_has ls 4 [(3, .int i), (0, .ref b), (1, .ref x), (2, .ref mo)] → W p l e room_1 s m #[Value.ref b] below meth c H locs (66 + 240 * j) (67411 + 1200 * j) (lw_Z below #[Value.ref b] s) (F0 m 822 ls []) := by
  have hx := X.1
  have hb := X.2.1
  have hts := X.2.2.2.2.1
  have hY0 : ∀ q u, z_Y0 q = some u → q < s.heap.size := fun q u h => by cases h
  have hbA : ¬ ((∃ t, z_Y0 b = some t) ∨ s.heap.size ≤ b) := fun h => by
    rcases h with ⟨t, h⟩ | h
    · cases h
    · omega
  intro H Y locs ls fv Kv tv nv hI hY_x hY_mo hR hM hv hl
  refine lv_aload_n hx hb la_d822 rfl (lv_at hl 2 rfl) ?_
  refine lv_aload_n hx hb la_d823 rfl (lv_at hl 1 rfl) ?_
  refine lv_iload_n hx hb la_d824 rfl (lv_at hl 0 rfl) ?_
  refine lv_iconst hx hb la_d825 (v := 1) (by decide) ?_
  have ec1 : (1 : Int32).toInt = 1 := by decide
  refine lv_iadd hx hb la_d826 ?_
  generalize hg_z826 : i + (1 : Int32) = z826
  have h_z826 : z826.toInt = i.toInt + 1 := by rw [← hg_z826]; have := y_add (x := i) (y := (1 : Int32)) (by rw [ec1]; omega) (by rw [ec1]; omega); rw [ec1] at this; exact this
  refine va_sld hx hb hX hbl hbA hI.2.2.2 (z_vpin (by omega) (by omega)) la_d827 ?_
  obtain ⟨e827, hg_e827⟩ : ∃ e827 : Int32, xs z826.toNatClampNeg = e827 := ⟨_, rfl⟩
  rw [hg_e827]
  refine lv_aload_n hx hb la_d828 rfl (lv_at hl 1 rfl) ?_
  refine lv_iload_n hx hb la_d829 rfl (lv_at hl 0 rfl) ?_
  refine lv_iconst hx hb la_d830 (v := 2) (by decide) ?_
  have ec2 : (2 : Int32).toInt = 2 := by decide
  refine lv_iadd hx hb la_d831 ?_
  generalize hg_z831 : i + (2 : Int32) = z831
  have h_z831 : z831.toInt = i.toInt + 2 := by rw [← hg_z831]; have := y_add (x := i) (y := (2 : Int32)) (by rw [ec2]; omega) (by rw [ec2]; omega); rw [ec2] at this; exact this
  refine va_sld hx hb hX hbl hbA hI.2.2.2 (z_vpin (by omega) (by omega)) la_d832 ?_
  obtain ⟨e832, hg_e832⟩ : ∃ e832 : Int32, xs z831.toNatClampNeg = e832 := ⟨_, rfl⟩
  rw [hg_e832]
  refine y_call (z := (0, 94, 3, some 0, xM86)) (av := [.ref x, .int e827, .int e832]) (rest := []) (y_cok.of (x_cokV (n := 2) (ci := 11) X xm86 rfl rfl rfl (x_cons (x_bw46 4 rfl rfl) (x_cons (x_bw46 5 rfl rfl) (x_cons (x_bw46 6 rfl rfl) (x_cons (x_bw0 1 rfl rfl) x_nilm)))) (x_bw46 7 rfl rfl) (by decide +kernel) ⟨Nat.le_of_ble_eq_true rfl, Nat.le_of_ble_eq_true rfl⟩)) hY0 hI rfl la_d833 hl.1 (Nat.le_of_ble_eq_true rfl) (by show (66 + 240 * j) + 0 ≤ 600000; omega) (by show (67411 + 1200 * j) + 0 ≤ 7302250; omega) (y_cons (y_cref hY_x rfl) (y_cons ⟨_, rfl, x_i32 _⟩ (y_cons ⟨_, rfl, x_i32 _⟩ y_nil))) rfl (y_recv rfl hY_x) trivial (y_sub_ef (by decide +kernel)) fun v Yn o Hn L_ ho hr ha hIn hx_ hE hP => ?_
  replace hM := hM.E hY_mo hE (fun q u h => y_ext hx_ hI.1 h) (by decide +kernel) (by decide +kernel)
  replace hR := hR.E2 hY_x hE (fun q u h => y_ext hx_ hI.1 h) (by decide +kernel)
  replace hY_x := y_ext hx_ hI.1 hY_x
  replace hY_mo := y_ext hx_ hI.1 hY_mo
  obtain ⟨r833, rfl, h_r833⟩ := y_ansI (lo := (-2147483648)) (hi := 2147483647) (by decide) ho hr
  clear ho hr ha hE hP hI hx_
  rename x_I _ _ _ _ _ _ _ _ _ _ => hI
  refine lv_pop hx hb la_d836 rfl ?_
  refine lv_aload_n hx hb la_d837 rfl (lv_at hl 3 rfl) ?_
  refine lv_aload_n hx hb la_d838 rfl (lv_at hl 1 rfl) ?_
  refine lv_iload_n hx hb la_d839 rfl (lv_at hl 0 rfl) ?_
  refine lv_iconst hx hb la_d840 (v := 1) (by decide) ?_
  refine lv_iadd hx hb la_d841 ?_
  generalize hg_z841 : i + (1 : Int32) = z841
  have h_z841 : z841.toInt = i.toInt + 1 := by rw [← hg_z841]; have := y_add (x := i) (y := (1 : Int32)) (by rw [ec1]; omega) (by rw [ec1]; omega); rw [ec1] at this; exact this
  refine va_sld hx hb hX hbl hbA hI.2.2.2 (z_vpin (by omega) (by omega)) la_d842 ?_
  obtain ⟨e842, hg_e842⟩ : ∃ e842 : Int32, xs z841.toNatClampNeg = e842 := ⟨_, rfl⟩
  rw [hg_e842]
  refine lv_aload_n hx hb la_d843 rfl (lv_at hl 1 rfl) ?_
  refine lv_iload_n hx hb la_d844 rfl (lv_at hl 0 rfl) ?_
  refine lv_iconst hx hb la_d845 (v := 2) (by decide) ?_
  refine lv_iadd hx hb la_d846 ?_
  generalize hg_z846 : i + (2 : Int32) = z846
  have h_z846 : z846.toInt = i.toInt + 2 := by rw [← hg_z846]; have := y_add (x := i) (y := (2 : Int32)) (by rw [ec2]; omega) (by rw [ec2]; omega); rw [ec2] at this; exact this
  refine va_sld hx hb hX hbl hbA hI.2.2.2 (z_vpin (by omega) (by omega)) la_d847 ?_
  obtain ⟨e847, hg_e847⟩ : ∃ e847 : Int32, xs z846.toNatClampNeg = e847 := ⟨_, rfl⟩
  rw [hg_e847]
  refine y_call (z := (0, 97, 3, some 17, xM201)) (av := [.ref mo, .int e842, .int e847]) (rest := []) (y_cokV (n := 2) (ci := 12) X ym_fewestX rfl rfl rfl (x_cons (x_bw80 1 rfl rfl) (x_cons (x_bw80 2 rfl rfl) (x_cons (x_bw80 3 rfl rfl) (x_cons (x_bw0 9 rfl rfl) x_nilm)))) (x_bw80 4 rfl rfl) (by decide +kernel) ⟨Nat.le_of_ble_eq_true rfl, Nat.le_of_ble_eq_true rfl⟩) hY0 hI rfl la_d848 hl.1 (Nat.le_of_ble_eq_true rfl) (by show (66 + 240 * j) + 0 + 0 ≤ 600000; omega) (by show (67411 + 1200 * j) + 0 + 0 ≤ 7302250; omega) (y_cons (y_cref hY_mo rfl) (y_cons ⟨_, rfl, x_i32 _⟩ (y_cons ⟨_, rfl, x_i32 _⟩ y_nil))) rfl (y_recv rfl hY_mo) trivial (y_sub_ef (by decide +kernel)) fun v Yn o Hn L_ ho hr ha hIn hx_ hE hP => ?_
  replace hR := hR.E2 hY_x hE (fun q u h => y_ext hx_ hI.1 h) (by decide +kernel)
  obtain ⟨bk9, hb1, hb2, hb3⟩ := hM.bk
  have hAB := hP _ _ _ rfl hb1 hb2 hb3
  replace hM := hM.book hY_mo hE (fun q u h => y_ext hx_ hI.1 h) (by decide +kernel) hb2 (fun b hb => by cases hb1.symm.trans hb; exact hAB)
  replace hY_x := y_ext hx_ hI.1 hY_x
  replace hY_mo := y_ext hx_ hI.1 hY_mo
  obtain ⟨r848, rfl, h_r848⟩ := y_ansI (lo := (-2147483648)) (hi := 2147483647) (by decide) ho hr
  clear ho hr ha hE hP hI hx_
  rename x_I _ _ _ _ _ _ _ _ _ _ => hI
  refine lv_pop hx hb la_d851 rfl ?_
  refine lv_goto hx hb la_d852 (tgt := 1501) (by decide) ?_
  refine W.widen (k := (66 + 240 * (j + 1))) (n := (67411 + 1200 * (j + 1))) (by show (66 + 240 * j) + 0 + 0 ≤ (66 + 240 * (j + 1)); omega) (by show (67411 + 1200 * j) + 0 + 0 ≤ (67411 + 1200 * (j + 1)); omega) ?_
  exact out _ _ _ _ _ _ _ _ hI hY_x hY_mo hR hM hv (lv_sub hl [0, 1, 2, 3] rfl)
theorem la_c19 {p : Program} {l : Launch} {e : Env} {s : State} {m : MethodId} {below : List Frame} {meth : Method} {c : Code} {D : va_G} {b L : Nat} {xs : Nat → Int32} (X : x_cx p s m #[Value.ref b] c D s xMlaw.2.1 xMlaw.2.2.1 vwCl x_Tb x_Nb "TwinFiresLaw") (hrt : meth.sig.returnType = ret) (hlk : meth.locks = false) (hX : va_X b L xs s s.heap) (hbl : b < s.heap.size) (hL : L ≤ 3072) {x mo : Nat} {i : Int32} {j : Nat} (hi : i.toInt = 6 * (j : Int)) (hj : 6 * j + 6 ≤ L)
    (out : ∀ (H : Heap) (Y : xY) (locs : List Loc) (ls : Array Slot) (fv : Nat → Int32) (Kv : Nat → Option (Nat → Int32)) (tv : Nat → Int32) (nv : Int32), x_I D x_G x_Zs s (x_efs xMlaw) z_Y0 s.heap Y H locs → Y x = some 0 → Y mo = some 17 → z_RC D Y H x fv Kv tv nv → z_RM D Y H mo fv Kv tv nv → m_inv2 fv Kv → lv_has ls 4 [(3, .int i), (0, .ref b), (1, .ref x), (2, .ref mo)] → W p l e room_1 s m #[Value.ref b] below meth c H locs (66 + 240 * (j + 1)) (67411 + 1200 * (j + 1)) (lw_Z below #[Value.ref b] s) (F0 m 1501 ls [])) :
    ∀ (H : Heap) (Y : xY) (locs : List Loc) (ls : Array Slot) (fv : Nat → Int32) (Kv : Nat → Option (Nat → Int32)) (tv : Nat → Int32) (nv : Int32), x_I D x_G x_Zs s (x_efs xMlaw) z_Y0 s.heap Y H locs → Y x = some 0 → Y mo = some 17 → z_RC D Y H x fv Kv tv nv → z_RM D Y H mo fv Kv tv nv → m_inv2 fv Kv → lv_has ls 4 [(3, .int i), (0, .ref b), (1, .ref x), (2, .ref mo)] → W p l e room_1 s m #[Value.ref b] below meth c H locs (66 + 240 * j) (67411 + 1200 * j) (lw_Z below #[Value.ref b] s) (F0 m 855 ls []) := by
  have hx := X.1
  have hb := X.2.1
  have hts := X.2.2.2.2.1
  have hY0 : ∀ q u, z_Y0 q = some u → q < s.heap.size := fun q u h => by cases h
  have hbA : ¬ ((∃ t, z_Y0 b = some t) ∨ s.heap.size ≤ b) := fun h => by
    rcases h with ⟨t, h⟩ | h
    · cases h
    · omega
  intro H Y locs ls fv Kv tv nv hI hY_x hY_mo hR hM hv hl
  refine lv_aload_n hx hb la_d855 rfl (lv_at hl 2 rfl) ?_
  refine lv_aload_n hx hb la_d856 rfl (lv_at hl 1 rfl) ?_
  refine lv_iload_n hx hb la_d857 rfl (lv_at hl 0 rfl) ?_
  refine lv_iconst hx hb la_d858 (v := 1) (by decide) ?_
  have ec1 : (1 : Int32).toInt = 1 := by decide
  refine lv_iadd hx hb la_d859 ?_
  generalize hg_z859 : i + (1 : Int32) = z859
  have h_z859 : z859.toInt = i.toInt + 1 := by rw [← hg_z859]; have := y_add (x := i) (y := (1 : Int32)) (by rw [ec1]; omega) (by rw [ec1]; omega); rw [ec1] at this; exact this
  refine va_sld hx hb hX hbl hbA hI.2.2.2 (z_vpin (by omega) (by omega)) la_d860 ?_
  obtain ⟨e860, hg_e860⟩ : ∃ e860 : Int32, xs z859.toNatClampNeg = e860 := ⟨_, rfl⟩
  rw [hg_e860]
  refine lv_aload_n hx hb la_d861 rfl (lv_at hl 1 rfl) ?_
  refine lv_iload_n hx hb la_d862 rfl (lv_at hl 0 rfl) ?_
  refine lv_iconst hx hb la_d863 (v := 2) (by decide) ?_
  have ec2 : (2 : Int32).toInt = 2 := by decide
  refine lv_iadd hx hb la_d864 ?_
  generalize hg_z864 : i + (2 : Int32) = z864
  have h_z864 : z864.toInt = i.toInt + 2 := by rw [← hg_z864]; have := y_add (x := i) (y := (2 : Int32)) (by rw [ec2]; omega) (by rw [ec2]; omega); rw [ec2] at this; exact this
  refine va_sld hx hb hX hbl hbA hI.2.2.2 (z_vpin (by omega) (by omega)) la_d865 ?_
  obtain ⟨e865, hg_e865⟩ : ∃ e865 : Int32, xs z864.toNatClampNeg = e865 := ⟨_, rfl⟩
  rw [hg_e865]
  refine y_call (z := (0, 98, 3, some 0, xM87)) (av := [.ref x, .int e860, .int e865]) (rest := []) (y_cok.of (x_cokV (n := 2) (ci := 11) X xm87 rfl rfl rfl (x_cons (x_bw47 6 rfl rfl) (x_cons (x_bw47 7 rfl rfl) (x_cons (x_bw47 8 rfl rfl) (x_cons (x_bw0 1 rfl rfl) x_nilm)))) (x_bw47 9 rfl rfl) (by decide +kernel) ⟨Nat.le_of_ble_eq_true rfl, Nat.le_of_ble_eq_true rfl⟩)) hY0 hI rfl la_d866 hl.1 (Nat.le_of_ble_eq_true rfl) (by show (66 + 240 * j) + 0 ≤ 600000; omega) (by show (67411 + 1200 * j) + 0 ≤ 7302250; omega) (y_cons (y_cref hY_x rfl) (y_cons ⟨_, rfl, x_i32 _⟩ (y_cons ⟨_, rfl, x_i32 _⟩ y_nil))) rfl (y_recv rfl hY_x) trivial (y_sub_ef (by decide +kernel)) fun v Yn o Hn L_ ho hr ha hIn hx_ hE hP => ?_
  replace hM := hM.E hY_mo hE (fun q u h => y_ext hx_ hI.1 h) (by decide +kernel) (by decide +kernel)
  replace hR := hR.E2 hY_x hE (fun q u h => y_ext hx_ hI.1 h) (by decide +kernel)
  replace hY_x := y_ext hx_ hI.1 hY_x
  replace hY_mo := y_ext hx_ hI.1 hY_mo
  obtain ⟨r866, rfl, h_r866⟩ := y_ansI (lo := (-2147483648)) (hi := 2147483647) (by decide) ho hr
  clear ho hr ha hE hP hI hx_
  rename x_I _ _ _ _ _ _ _ _ _ _ => hI
  refine lv_pop hx hb la_d869 rfl ?_
  refine lv_aload_n hx hb la_d870 rfl (lv_at hl 3 rfl) ?_
  refine lv_aload_n hx hb la_d871 rfl (lv_at hl 1 rfl) ?_
  refine lv_iload_n hx hb la_d872 rfl (lv_at hl 0 rfl) ?_
  refine lv_iconst hx hb la_d873 (v := 1) (by decide) ?_
  refine lv_iadd hx hb la_d874 ?_
  generalize hg_z874 : i + (1 : Int32) = z874
  have h_z874 : z874.toInt = i.toInt + 1 := by rw [← hg_z874]; have := y_add (x := i) (y := (1 : Int32)) (by rw [ec1]; omega) (by rw [ec1]; omega); rw [ec1] at this; exact this
  refine va_sld hx hb hX hbl hbA hI.2.2.2 (z_vpin (by omega) (by omega)) la_d875 ?_
  obtain ⟨e875, hg_e875⟩ : ∃ e875 : Int32, xs z874.toNatClampNeg = e875 := ⟨_, rfl⟩
  rw [hg_e875]
  refine lv_aload_n hx hb la_d876 rfl (lv_at hl 1 rfl) ?_
  refine lv_iload_n hx hb la_d877 rfl (lv_at hl 0 rfl) ?_
  refine lv_iconst hx hb la_d878 (v := 2) (by decide) ?_
  refine lv_iadd hx hb la_d879 ?_
  generalize hg_z879 : i + (2 : Int32) = z879
  have h_z879 : z879.toInt = i.toInt + 2 := by rw [← hg_z879]; have := y_add (x := i) (y := (2 : Int32)) (by rw [ec2]; omega) (by rw [ec2]; omega); rw [ec2] at this; exact this
  refine va_sld hx hb hX hbl hbA hI.2.2.2 (z_vpin (by omega) (by omega)) la_d880 ?_
  obtain ⟨e880, hg_e880⟩ : ∃ e880 : Int32, xs z879.toNatClampNeg = e880 := ⟨_, rfl⟩
  rw [hg_e880]
  refine y_call (z := (0, 101, 3, some 17, xM202)) (av := [.ref mo, .int e875, .int e880]) (rest := []) (y_cokV (n := 2) (ci := 12) X ym_cheapestX rfl rfl rfl (x_cons (x_bw80 13 rfl rfl) (x_cons (x_bw80 14 rfl rfl) (x_cons (x_bw80 15 rfl rfl) (x_cons (x_bw0 9 rfl rfl) x_nilm)))) (x_bw81 0 rfl rfl) (by decide +kernel) ⟨Nat.le_of_ble_eq_true rfl, Nat.le_of_ble_eq_true rfl⟩) hY0 hI rfl la_d881 hl.1 (Nat.le_of_ble_eq_true rfl) (by show (66 + 240 * j) + 0 + 0 ≤ 600000; omega) (by show (67411 + 1200 * j) + 0 + 0 ≤ 7302250; omega) (y_cons (y_cref hY_mo rfl) (y_cons ⟨_, rfl, x_i32 _⟩ (y_cons ⟨_, rfl, x_i32 _⟩ y_nil))) rfl (y_recv rfl hY_mo) trivial (y_sub_ef (by decide +kernel)) fun v Yn o Hn L_ ho hr ha hIn hx_ hE hP => ?_
  replace hR := hR.E2 hY_x hE (fun q u h => y_ext hx_ hI.1 h) (by decide +kernel)
  obtain ⟨bk9, hb1, hb2, hb3⟩ := hM.bk
  have hAB := hP _ _ _ rfl hb1 hb2 hb3
  replace hM := hM.book hY_mo hE (fun q u h => y_ext hx_ hI.1 h) (by decide +kernel) hb2 (fun b hb => by cases hb1.symm.trans hb; exact hAB)
  replace hY_x := y_ext hx_ hI.1 hY_x
  replace hY_mo := y_ext hx_ hI.1 hY_mo
  obtain ⟨r881, rfl, h_r881⟩ := y_ansI (lo := (-2147483648)) (hi := 2147483647) (by decide) ho hr
  clear ho hr ha hE hP hI hx_
  rename x_I _ _ _ _ _ _ _ _ _ _ => hI
  refine lv_pop hx hb la_d884 rfl ?_
  refine lv_goto hx hb la_d885 (tgt := 1501) (by decide) ?_
  refine W.widen (k := (66 + 240 * (j + 1))) (n := (67411 + 1200 * (j + 1))) (by show (66 + 240 * j) + 0 + 0 ≤ (66 + 240 * (j + 1)); omega) (by show (67411 + 1200 * j) + 0 + 0 ≤ (67411 + 1200 * (j + 1)); omega) ?_
  exact out _ _ _ _ _ _ _ _ hI hY_x hY_mo hR hM hv (lv_sub hl [0, 1, 2, 3] rfl)
theorem la_c20 {p : Program} {l : Launch} {e : Env} {s : State} {m : MethodId} {below : List Frame} {meth : Method} {c : Code} {D : va_G} {b L : Nat} {xs : Nat → Int32} (X : x_cx p s m #[Value.ref b] c D s xMlaw.2.1 xMlaw.2.2.1 vwCl x_Tb x_Nb "TwinFiresLaw") (hrt : meth.sig.returnType = ret) (hlk : meth.locks = false) (hX : va_X b L xs s s.heap) (hbl : b < s.heap.size) (hL : L ≤ 3072) {x mo : Nat} {i : Int32} {j : Nat} (hi : i.toInt = 6 * (j : Int)) (hj : 6 * j + 6 ≤ L)
    (out : ∀ (H : Heap) (Y : xY) (locs : List Loc) (ls : Array Slot) (fv : Nat → Int32) (Kv : Nat → Option (Nat → Int32)) (tv : Nat → Int32) (nv : Int32), x_I D x_G x_Zs s (x_efs xMlaw) z_Y0 s.heap Y H locs → Y x = some 0 → Y mo = some 17 → z_RC D Y H x fv Kv tv nv → z_RM D Y H mo fv Kv tv nv → m_inv2 fv Kv → lv_has ls 4 [(3, .int i), (0, .ref b), (1, .ref x), (2, .ref mo)] → W p l e room_1 s m #[Value.ref b] below meth c H locs (66 + 240 * (j + 1)) (67411 + 1200 * (j + 1)) (lw_Z below #[Value.ref b] s) (F0 m 1501 ls [])) :
    ∀ (H : Heap) (Y : xY) (locs : List Loc) (ls : Array Slot) (fv : Nat → Int32) (Kv : Nat → Option (Nat → Int32)) (tv : Nat → Int32) (nv : Int32), x_I D x_G x_Zs s (x_efs xMlaw) z_Y0 s.heap Y H locs → Y x = some 0 → Y mo = some 17 → z_RC D Y H x fv Kv tv nv → z_RM D Y H mo fv Kv tv nv → m_inv2 fv Kv → lv_has ls 4 [(3, .int i), (0, .ref b), (1, .ref x), (2, .ref mo)] → W p l e room_1 s m #[Value.ref b] below meth c H locs (66 + 240 * j) (67411 + 1200 * j) (lw_Z below #[Value.ref b] s) (F0 m 888 ls []) := by
  have hx := X.1
  have hb := X.2.1
  have hts := X.2.2.2.2.1
  have hY0 : ∀ q u, z_Y0 q = some u → q < s.heap.size := fun q u h => by cases h
  have hbA : ¬ ((∃ t, z_Y0 b = some t) ∨ s.heap.size ≤ b) := fun h => by
    rcases h with ⟨t, h⟩ | h
    · cases h
    · omega
  intro H Y locs ls fv Kv tv nv hI hY_x hY_mo hR hM hv hl
  refine lv_aload_n hx hb la_d888 rfl (lv_at hl 2 rfl) ?_
  refine lv_aload_n hx hb la_d889 rfl (lv_at hl 1 rfl) ?_
  refine lv_iload_n hx hb la_d890 rfl (lv_at hl 0 rfl) ?_
  refine lv_iconst hx hb la_d891 (v := 1) (by decide) ?_
  have ec1 : (1 : Int32).toInt = 1 := by decide
  refine lv_iadd hx hb la_d892 ?_
  generalize hg_z892 : i + (1 : Int32) = z892
  have h_z892 : z892.toInt = i.toInt + 1 := by rw [← hg_z892]; have := y_add (x := i) (y := (1 : Int32)) (by rw [ec1]; omega) (by rw [ec1]; omega); rw [ec1] at this; exact this
  refine va_sld hx hb hX hbl hbA hI.2.2.2 (z_vpin (by omega) (by omega)) la_d893 ?_
  obtain ⟨e893, hg_e893⟩ : ∃ e893 : Int32, xs z892.toNatClampNeg = e893 := ⟨_, rfl⟩
  rw [hg_e893]
  refine y_call (z := (0, 102, 2, some 0, xM91)) (av := [.ref x, .int e893]) (rest := []) (y_cok.of (x_cokV (n := 1) (ci := 11) X xm91 rfl rfl rfl (x_cons (x_bw47 10 rfl rfl) (x_cons (x_bw47 11 rfl rfl) (x_cons (x_bw47 12 rfl rfl) (x_cons (x_bw0 1 rfl rfl) x_nilm)))) (x_bw47 13 rfl rfl) (by decide +kernel) ⟨Nat.le_of_ble_eq_true rfl, Nat.le_of_ble_eq_true rfl⟩)) hY0 hI rfl la_d894 hl.1 (Nat.le_of_ble_eq_true rfl) (by show (66 + 240 * j) + 0 ≤ 600000; omega) (by show (67411 + 1200 * j) + 0 ≤ 7302250; omega) (y_cons (y_cref hY_x rfl) (y_cons ⟨_, rfl, x_i32 _⟩ y_nil)) rfl (y_recv rfl hY_x) trivial (y_sub_ef (by decide +kernel)) fun v Yn o Hn L_ ho hr ha hIn hx_ hE hP => ?_
  replace hM := hM.E hY_mo hE (fun q u h => y_ext hx_ hI.1 h) (by decide +kernel) (by decide +kernel)
  replace hR := hR.E2 hY_x hE (fun q u h => y_ext hx_ hI.1 h) (by decide +kernel)
  replace hY_x := y_ext hx_ hI.1 hY_x
  replace hY_mo := y_ext hx_ hI.1 hY_mo
  obtain ⟨r894, rfl, h_r894⟩ := y_ansI (lo := (-2147483648)) (hi := 2147483647) (by decide) ho hr
  clear ho hr ha hE hP hI hx_
  rename x_I _ _ _ _ _ _ _ _ _ _ => hI
  refine lv_pop hx hb la_d897 rfl ?_
  refine lv_aload_n hx hb la_d898 rfl (lv_at hl 3 rfl) ?_
  refine lv_aload_n hx hb la_d899 rfl (lv_at hl 1 rfl) ?_
  refine lv_iload_n hx hb la_d900 rfl (lv_at hl 0 rfl) ?_
  refine lv_iconst hx hb la_d901 (v := 1) (by decide) ?_
  refine lv_iadd hx hb la_d902 ?_
  generalize hg_z902 : i + (1 : Int32) = z902
  have h_z902 : z902.toInt = i.toInt + 1 := by rw [← hg_z902]; have := y_add (x := i) (y := (1 : Int32)) (by rw [ec1]; omega) (by rw [ec1]; omega); rw [ec1] at this; exact this
  refine va_sld hx hb hX hbl hbA hI.2.2.2 (z_vpin (by omega) (by omega)) la_d903 ?_
  obtain ⟨e903, hg_e903⟩ : ∃ e903 : Int32, xs z902.toNatClampNeg = e903 := ⟨_, rfl⟩
  rw [hg_e903]
  refine y_call (z := (0, 105, 2, some 17, xM203)) (av := [.ref mo, .int e903]) (rest := []) (y_cokV (n := 1) (ci := 12) X ym_towerX rfl rfl rfl (x_cons (x_bw81 1 rfl rfl) (x_cons (x_bw81 2 rfl rfl) (x_cons (x_bw81 3 rfl rfl) (x_cons (x_bw0 9 rfl rfl) x_nilm)))) (x_bw81 4 rfl rfl) (by decide +kernel) ⟨Nat.le_of_ble_eq_true rfl, Nat.le_of_ble_eq_true rfl⟩) hY0 hI rfl la_d904 hl.1 (Nat.le_of_ble_eq_true rfl) (by show (66 + 240 * j) + 0 + 0 ≤ 600000; omega) (by show (67411 + 1200 * j) + 0 + 0 ≤ 7302250; omega) (y_cons (y_cref hY_mo rfl) (y_cons ⟨_, rfl, x_i32 _⟩ y_nil)) rfl (y_recv rfl hY_mo) trivial (y_sub_ef (by decide +kernel)) fun v Yn o Hn L_ ho hr ha hIn hx_ hE hP => ?_
  replace hR := hR.E2 hY_x hE (fun q u h => y_ext hx_ hI.1 h) (by decide +kernel)
  obtain ⟨bk9, hb1, hb2, hb3⟩ := hM.bk
  have hAB := hP _ _ _ rfl hb1 hb2 hb3
  replace hM := hM.book hY_mo hE (fun q u h => y_ext hx_ hI.1 h) (by decide +kernel) hb2 (fun b hb => by cases hb1.symm.trans hb; exact hAB)
  replace hY_x := y_ext hx_ hI.1 hY_x
  replace hY_mo := y_ext hx_ hI.1 hY_mo
  obtain ⟨r904, rfl, h_r904⟩ := y_ansI (lo := (-2147483648)) (hi := 2147483647) (by decide) ho hr
  clear ho hr ha hE hP hI hx_
  rename x_I _ _ _ _ _ _ _ _ _ _ => hI
  refine lv_pop hx hb la_d907 rfl ?_
  refine lv_goto hx hb la_d908 (tgt := 1501) (by decide) ?_
  refine W.widen (k := (66 + 240 * (j + 1))) (n := (67411 + 1200 * (j + 1))) (by show (66 + 240 * j) + 0 + 0 ≤ (66 + 240 * (j + 1)); omega) (by show (67411 + 1200 * j) + 0 + 0 ≤ (67411 + 1200 * (j + 1)); omega) ?_
  exact out _ _ _ _ _ _ _ _ hI hY_x hY_mo hR hM hv (lv_sub hl [0, 1, 2, 3] rfl)
theorem la_c21 {p : Program} {l : Launch} {e : Env} {s : State} {m : MethodId} {below : List Frame} {meth : Method} {c : Code} {D : va_G} {b L : Nat} {xs : Nat → Int32} (X : x_cx p s m #[Value.ref b] c D s xMlaw.2.1 xMlaw.2.2.1 vwCl x_Tb x_Nb "TwinFiresLaw") (hrt : meth.sig.returnType = ret) (hlk : meth.locks = false) (hX : va_X b L xs s s.heap) (hbl : b < s.heap.size) (hL : L ≤ 3072) {x mo : Nat} {i : Int32} {j : Nat} (hi : i.toInt = 6 * (j : Int)) (hj : 6 * j + 6 ≤ L)
    (out : ∀ (H : Heap) (Y : xY) (locs : List Loc) (ls : Array Slot) (fv : Nat → Int32) (Kv : Nat → Option (Nat → Int32)) (tv : Nat → Int32) (nv : Int32), x_I D x_G x_Zs s (x_efs xMlaw) z_Y0 s.heap Y H locs → Y x = some 0 → Y mo = some 17 → z_RC D Y H x fv Kv tv nv → z_RM D Y H mo fv Kv tv nv → m_inv2 fv Kv → lv_has ls 4 [(3, .int i), (0, .ref b), (1, .ref x), (2, .ref mo)] → W p l e room_1 s m #[Value.ref b] below meth c H locs (66 + 240 * (j + 1)) (67411 + 1200 * (j + 1)) (lw_Z below #[Value.ref b] s) (F0 m 1501 ls [])) :
    ∀ (H : Heap) (Y : xY) (locs : List Loc) (ls : Array Slot) (fv : Nat → Int32) (Kv : Nat → Option (Nat → Int32)) (tv : Nat → Int32) (nv : Int32), x_I D x_G x_Zs s (x_efs xMlaw) z_Y0 s.heap Y H locs → Y x = some 0 → Y mo = some 17 → z_RC D Y H x fv Kv tv nv → z_RM D Y H mo fv Kv tv nv → m_inv2 fv Kv → lv_has ls 4 [(3, .int i), (0, .ref b), (1, .ref x), (2, .ref mo)] → W p l e room_1 s m #[Value.ref b] below meth c H locs (66 + 240 * j) (67411 + 1200 * j) (lw_Z below #[Value.ref b] s) (F0 m 911 ls []) := by
  have hx := X.1
  have hb := X.2.1
  have hts := X.2.2.2.2.1
  have hY0 : ∀ q u, z_Y0 q = some u → q < s.heap.size := fun q u h => by cases h
  have hbA : ¬ ((∃ t, z_Y0 b = some t) ∨ s.heap.size ≤ b) := fun h => by
    rcases h with ⟨t, h⟩ | h
    · cases h
    · omega
  intro H Y locs ls fv Kv tv nv hI hY_x hY_mo hR hM hv hl
  refine lv_aload_n hx hb la_d911 rfl (lv_at hl 2 rfl) ?_
  refine lv_aload_n hx hb la_d912 rfl (lv_at hl 1 rfl) ?_
  refine lv_iload_n hx hb la_d913 rfl (lv_at hl 0 rfl) ?_
  refine lv_iconst hx hb la_d914 (v := 1) (by decide) ?_
  have ec1 : (1 : Int32).toInt = 1 := by decide
  refine lv_iadd hx hb la_d915 ?_
  generalize hg_z915 : i + (1 : Int32) = z915
  have h_z915 : z915.toInt = i.toInt + 1 := by rw [← hg_z915]; have := y_add (x := i) (y := (1 : Int32)) (by rw [ec1]; omega) (by rw [ec1]; omega); rw [ec1] at this; exact this
  refine va_sld hx hb hX hbl hbA hI.2.2.2 (z_vpin (by omega) (by omega)) la_d916 ?_
  obtain ⟨e916, hg_e916⟩ : ∃ e916 : Int32, xs z915.toNatClampNeg = e916 := ⟨_, rfl⟩
  rw [hg_e916]
  refine lv_aload_n hx hb la_d917 rfl (lv_at hl 1 rfl) ?_
  refine lv_iload_n hx hb la_d918 rfl (lv_at hl 0 rfl) ?_
  refine lv_iconst hx hb la_d919 (v := 2) (by decide) ?_
  have ec2 : (2 : Int32).toInt = 2 := by decide
  refine lv_iadd hx hb la_d920 ?_
  generalize hg_z920 : i + (2 : Int32) = z920
  have h_z920 : z920.toInt = i.toInt + 2 := by rw [← hg_z920]; have := y_add (x := i) (y := (2 : Int32)) (by rw [ec2]; omega) (by rw [ec2]; omega); rw [ec2] at this; exact this
  refine va_sld hx hb hX hbl hbA hI.2.2.2 (z_vpin (by omega) (by omega)) la_d921 ?_
  obtain ⟨e921, hg_e921⟩ : ∃ e921 : Int32, xs z920.toNatClampNeg = e921 := ⟨_, rfl⟩
  rw [hg_e921]
  refine lv_aload_n hx hb la_d922 rfl (lv_at hl 1 rfl) ?_
  refine lv_iload_n hx hb la_d923 rfl (lv_at hl 0 rfl) ?_
  refine lv_iconst hx hb la_d924 (v := 3) (by decide) ?_
  have ec3 : (3 : Int32).toInt = 3 := by decide
  refine lv_iadd hx hb la_d925 ?_
  generalize hg_z925 : i + (3 : Int32) = z925
  have h_z925 : z925.toInt = i.toInt + 3 := by rw [← hg_z925]; have := y_add (x := i) (y := (3 : Int32)) (by rw [ec3]; omega) (by rw [ec3]; omega); rw [ec3] at this; exact this
  refine va_sld hx hb hX hbl hbA hI.2.2.2 (z_vpin (by omega) (by omega)) la_d926 ?_
  obtain ⟨e926, hg_e926⟩ : ∃ e926 : Int32, xs z925.toNatClampNeg = e926 := ⟨_, rfl⟩
  rw [hg_e926]
  refine y_call (z := (0, 106, 4, some 0, xM1003)) (av := [.ref x, .int e916, .int e921, .int e926]) (rest := []) (y_cok.of (x_cokV (n := 3) (ci := 11) X xm1003 rfl rfl rfl (x_cons (x_bw48 13 rfl rfl) (x_cons (x_bw48 14 rfl rfl) (x_cons (x_bw48 15 rfl rfl) (x_cons (x_bw0 1 rfl rfl) x_nilm)))) (x_bw49 0 rfl rfl) (by decide +kernel) ⟨Nat.le_of_ble_eq_true rfl, Nat.le_of_ble_eq_true rfl⟩)) hY0 hI rfl la_d927 hl.1 (Nat.le_of_ble_eq_true rfl) (by show (66 + 240 * j) + 0 ≤ 600000; omega) (by show (67411 + 1200 * j) + 0 ≤ 7302250; omega) (y_cons (y_cref hY_x rfl) (y_cons ⟨_, rfl, x_i32 _⟩ (y_cons ⟨_, rfl, x_i32 _⟩ (y_cons ⟨_, rfl, x_i32 _⟩ y_nil)))) rfl (y_recv rfl hY_x) trivial (y_sub_ef (by decide +kernel)) fun v Yn o Hn L_ ho hr ha hIn hx_ hE hP => ?_
  replace hM := hM.E hY_mo hE (fun q u h => y_ext hx_ hI.1 h) (by decide +kernel) (by decide +kernel)
  replace hR := hR.E2 hY_x hE (fun q u h => y_ext hx_ hI.1 h) (by decide +kernel)
  replace hY_x := y_ext hx_ hI.1 hY_x
  replace hY_mo := y_ext hx_ hI.1 hY_mo
  obtain ⟨r927, rfl, h_r927⟩ := y_ansI (lo := (-2147483648)) (hi := 2147483647) (by decide) ho hr
  clear ho hr ha hE hP hI hx_
  rename x_I _ _ _ _ _ _ _ _ _ _ => hI
  refine lv_pop hx hb la_d930 rfl ?_
  refine lv_aload_n hx hb la_d931 rfl (lv_at hl 3 rfl) ?_
  refine lv_aload_n hx hb la_d932 rfl (lv_at hl 1 rfl) ?_
  refine lv_iload_n hx hb la_d933 rfl (lv_at hl 0 rfl) ?_
  refine lv_iconst hx hb la_d934 (v := 1) (by decide) ?_
  refine lv_iadd hx hb la_d935 ?_
  generalize hg_z935 : i + (1 : Int32) = z935
  have h_z935 : z935.toInt = i.toInt + 1 := by rw [← hg_z935]; have := y_add (x := i) (y := (1 : Int32)) (by rw [ec1]; omega) (by rw [ec1]; omega); rw [ec1] at this; exact this
  refine va_sld hx hb hX hbl hbA hI.2.2.2 (z_vpin (by omega) (by omega)) la_d936 ?_
  obtain ⟨e936, hg_e936⟩ : ∃ e936 : Int32, xs z935.toNatClampNeg = e936 := ⟨_, rfl⟩
  rw [hg_e936]
  refine lv_aload_n hx hb la_d937 rfl (lv_at hl 1 rfl) ?_
  refine lv_iload_n hx hb la_d938 rfl (lv_at hl 0 rfl) ?_
  refine lv_iconst hx hb la_d939 (v := 2) (by decide) ?_
  refine lv_iadd hx hb la_d940 ?_
  generalize hg_z940 : i + (2 : Int32) = z940
  have h_z940 : z940.toInt = i.toInt + 2 := by rw [← hg_z940]; have := y_add (x := i) (y := (2 : Int32)) (by rw [ec2]; omega) (by rw [ec2]; omega); rw [ec2] at this; exact this
  refine va_sld hx hb hX hbl hbA hI.2.2.2 (z_vpin (by omega) (by omega)) la_d941 ?_
  obtain ⟨e941, hg_e941⟩ : ∃ e941 : Int32, xs z940.toNatClampNeg = e941 := ⟨_, rfl⟩
  rw [hg_e941]
  refine lv_aload_n hx hb la_d942 rfl (lv_at hl 1 rfl) ?_
  refine lv_iload_n hx hb la_d943 rfl (lv_at hl 0 rfl) ?_
  refine lv_iconst hx hb la_d944 (v := 3) (by decide) ?_
  refine lv_iadd hx hb la_d945 ?_
  generalize hg_z945 : i + (3 : Int32) = z945
  have h_z945 : z945.toInt = i.toInt + 3 := by rw [← hg_z945]; have := y_add (x := i) (y := (3 : Int32)) (by rw [ec3]; omega) (by rw [ec3]; omega); rw [ec3] at this; exact this
  refine va_sld hx hb hX hbl hbA hI.2.2.2 (z_vpin (by omega) (by omega)) la_d946 ?_
  obtain ⟨e946, hg_e946⟩ : ∃ e946 : Int32, xs z945.toNatClampNeg = e946 := ⟨_, rfl⟩
  rw [hg_e946]
  refine y_call (z := (0, 109, 4, some 17, xMrw)) (av := [.ref mo, .int e936, .int e941, .int e946]) (rest := []) (y_cokV (n := 3) (ci := 12) X ym_row rfl rfl rfl (x_cons (x_bw81 5 rfl rfl) (x_cons (x_bw81 6 rfl rfl) (x_cons (x_bw81 7 rfl rfl) (x_cons (x_bw0 9 rfl rfl) x_nilm)))) (x_bw81 8 rfl rfl) (by decide +kernel) ⟨Nat.le_of_ble_eq_true rfl, Nat.le_of_ble_eq_true rfl⟩) hY0 hI rfl la_d947 hl.1 (Nat.le_of_ble_eq_true rfl) (by show (66 + 240 * j) + 0 + 0 ≤ 600000; omega) (by show (67411 + 1200 * j) + 0 + 0 ≤ 7302250; omega) (y_cons (y_cref hY_mo rfl) (y_cons ⟨_, rfl, x_i32 _⟩ (y_cons ⟨_, rfl, x_i32 _⟩ (y_cons ⟨_, rfl, x_i32 _⟩ y_nil)))) rfl (y_recv rfl hY_mo) trivial (y_sub_ef (by decide +kernel)) fun v Yn o Hn L_ ho hr ha hIn hx_ hE hP => ?_
  replace hR := hR.E2 hY_x hE (fun q u h => y_ext hx_ hI.1 h) (by decide +kernel)
  replace hM := hM.E hY_mo hE (fun q u h => y_ext hx_ hI.1 h) (by decide +kernel) (by decide +kernel)
  replace hY_x := y_ext hx_ hI.1 hY_x
  replace hY_mo := y_ext hx_ hI.1 hY_mo
  obtain ⟨r947, rfl, h_r947⟩ := y_ansI (lo := (-2147483648)) (hi := 2147483647) (by decide) ho hr
  clear ho hr ha hE hP hI hx_
  rename x_I _ _ _ _ _ _ _ _ _ _ => hI
  refine lv_pop hx hb la_d950 rfl ?_
  refine lv_goto hx hb la_d951 (tgt := 1501) (by decide) ?_
  refine W.widen (k := (66 + 240 * (j + 1))) (n := (67411 + 1200 * (j + 1))) (by show (66 + 240 * j) + 0 + 0 ≤ (66 + 240 * (j + 1)); omega) (by show (67411 + 1200 * j) + 0 + 0 ≤ (67411 + 1200 * (j + 1)); omega) ?_
  exact out _ _ _ _ _ _ _ _ hI hY_x hY_mo hR hM hv (lv_sub hl [0, 1, 2, 3] rfl)
theorem la_c22 {p : Program} {l : Launch} {e : Env} {s : State} {m : MethodId} {below : List Frame} {meth : Method} {c : Code} {D : va_G} {b L : Nat} {xs : Nat → Int32} (X : x_cx p s m #[Value.ref b] c D s xMlaw.2.1 xMlaw.2.2.1 vwCl x_Tb x_Nb "TwinFiresLaw") (hrt : meth.sig.returnType = ret) (hlk : meth.locks = false) (hX : va_X b L xs s s.heap) (hbl : b < s.heap.size) (hL : L ≤ 3072) {x mo : Nat} {i : Int32} {j : Nat} (hi : i.toInt = 6 * (j : Int)) (hj : 6 * j + 6 ≤ L)
    (out : ∀ (H : Heap) (Y : xY) (locs : List Loc) (ls : Array Slot) (fv : Nat → Int32) (Kv : Nat → Option (Nat → Int32)) (tv : Nat → Int32) (nv : Int32), x_I D x_G x_Zs s (x_efs xMlaw) z_Y0 s.heap Y H locs → Y x = some 0 → Y mo = some 17 → z_RC D Y H x fv Kv tv nv → z_RM D Y H mo fv Kv tv nv → m_inv2 fv Kv → lv_has ls 4 [(3, .int i), (0, .ref b), (1, .ref x), (2, .ref mo)] → W p l e room_1 s m #[Value.ref b] below meth c H locs (66 + 240 * (j + 1)) (67411 + 1200 * (j + 1)) (lw_Z below #[Value.ref b] s) (F0 m 1501 ls [])) :
    ∀ (H : Heap) (Y : xY) (locs : List Loc) (ls : Array Slot) (fv : Nat → Int32) (Kv : Nat → Option (Nat → Int32)) (tv : Nat → Int32) (nv : Int32), x_I D x_G x_Zs s (x_efs xMlaw) z_Y0 s.heap Y H locs → Y x = some 0 → Y mo = some 17 → z_RC D Y H x fv Kv tv nv → z_RM D Y H mo fv Kv tv nv → m_inv2 fv Kv → lv_has ls 4 [(3, .int i), (0, .ref b), (1, .ref x), (2, .ref mo)] → W p l e room_1 s m #[Value.ref b] below meth c H locs (66 + 240 * j) (67411 + 1200 * j) (lw_Z below #[Value.ref b] s) (F0 m 954 ls []) := by
  have hx := X.1
  have hb := X.2.1
  have hts := X.2.2.2.2.1
  have hY0 : ∀ q u, z_Y0 q = some u → q < s.heap.size := fun q u h => by cases h
  have hbA : ¬ ((∃ t, z_Y0 b = some t) ∨ s.heap.size ≤ b) := fun h => by
    rcases h with ⟨t, h⟩ | h
    · cases h
    · omega
  intro H Y locs ls fv Kv tv nv hI hY_x hY_mo hR hM hv hl
  refine lv_aload_n hx hb la_d954 rfl (lv_at hl 2 rfl) ?_
  refine lv_aload_n hx hb la_d955 rfl (lv_at hl 1 rfl) ?_
  refine lv_iload_n hx hb la_d956 rfl (lv_at hl 0 rfl) ?_
  refine lv_iconst hx hb la_d957 (v := 1) (by decide) ?_
  have ec1 : (1 : Int32).toInt = 1 := by decide
  refine lv_iadd hx hb la_d958 ?_
  generalize hg_z958 : i + (1 : Int32) = z958
  have h_z958 : z958.toInt = i.toInt + 1 := by rw [← hg_z958]; have := y_add (x := i) (y := (1 : Int32)) (by rw [ec1]; omega) (by rw [ec1]; omega); rw [ec1] at this; exact this
  refine va_sld hx hb hX hbl hbA hI.2.2.2 (z_vpin (by omega) (by omega)) la_d959 ?_
  obtain ⟨e959, hg_e959⟩ : ∃ e959 : Int32, xs z958.toNatClampNeg = e959 := ⟨_, rfl⟩
  rw [hg_e959]
  refine lv_aload_n hx hb la_d960 rfl (lv_at hl 1 rfl) ?_
  refine lv_iload_n hx hb la_d961 rfl (lv_at hl 0 rfl) ?_
  refine lv_iconst hx hb la_d962 (v := 2) (by decide) ?_
  have ec2 : (2 : Int32).toInt = 2 := by decide
  refine lv_iadd hx hb la_d963 ?_
  generalize hg_z963 : i + (2 : Int32) = z963
  have h_z963 : z963.toInt = i.toInt + 2 := by rw [← hg_z963]; have := y_add (x := i) (y := (2 : Int32)) (by rw [ec2]; omega) (by rw [ec2]; omega); rw [ec2] at this; exact this
  refine va_sld hx hb hX hbl hbA hI.2.2.2 (z_vpin (by omega) (by omega)) la_d964 ?_
  obtain ⟨e964, hg_e964⟩ : ∃ e964 : Int32, xs z963.toNatClampNeg = e964 := ⟨_, rfl⟩
  rw [hg_e964]
  refine y_call (z := (0, 110, 3, some 0, xM1004)) (av := [.ref x, .int e959, .int e964]) (rest := []) (y_cok.of (x_cokV (n := 2) (ci := 11) X xm1004 rfl rfl rfl (x_cons (x_bw50 9 rfl rfl) (x_cons (x_bw50 10 rfl rfl) (x_cons (x_bw50 11 rfl rfl) (x_cons (x_bw0 1 rfl rfl) x_nilm)))) (x_bw50 12 rfl rfl) (by decide +kernel) ⟨Nat.le_of_ble_eq_true rfl, Nat.le_of_ble_eq_true rfl⟩)) hY0 hI rfl la_d965 hl.1 (Nat.le_of_ble_eq_true rfl) (by show (66 + 240 * j) + 0 ≤ 600000; omega) (by show (67411 + 1200 * j) + 0 ≤ 7302250; omega) (y_cons (y_cref hY_x rfl) (y_cons ⟨_, rfl, x_i32 _⟩ (y_cons ⟨_, rfl, x_i32 _⟩ y_nil))) rfl (y_recv rfl hY_x) trivial (y_sub_ef (by decide +kernel)) fun v Yn o Hn L_ ho hr ha hIn hx_ hE hP => ?_
  replace hM := hM.E hY_mo hE (fun q u h => y_ext hx_ hI.1 h) (by decide +kernel) (by decide +kernel)
  replace hR := hR.E2 hY_x hE (fun q u h => y_ext hx_ hI.1 h) (by decide +kernel)
  replace hY_x := y_ext hx_ hI.1 hY_x
  replace hY_mo := y_ext hx_ hI.1 hY_mo
  obtain ⟨r965, rfl, h_r965⟩ := y_ansI (lo := (-2147483648)) (hi := 2147483647) (by decide) ho hr
  clear ho hr ha hE hP hI hx_
  rename x_I _ _ _ _ _ _ _ _ _ _ => hI
  refine lv_pop hx hb la_d968 rfl ?_
  refine lv_aload_n hx hb la_d969 rfl (lv_at hl 3 rfl) ?_
  refine lv_aload_n hx hb la_d970 rfl (lv_at hl 1 rfl) ?_
  refine lv_iload_n hx hb la_d971 rfl (lv_at hl 0 rfl) ?_
  refine lv_iconst hx hb la_d972 (v := 1) (by decide) ?_
  refine lv_iadd hx hb la_d973 ?_
  generalize hg_z973 : i + (1 : Int32) = z973
  have h_z973 : z973.toInt = i.toInt + 1 := by rw [← hg_z973]; have := y_add (x := i) (y := (1 : Int32)) (by rw [ec1]; omega) (by rw [ec1]; omega); rw [ec1] at this; exact this
  refine va_sld hx hb hX hbl hbA hI.2.2.2 (z_vpin (by omega) (by omega)) la_d974 ?_
  obtain ⟨e974, hg_e974⟩ : ∃ e974 : Int32, xs z973.toNatClampNeg = e974 := ⟨_, rfl⟩
  rw [hg_e974]
  refine lv_aload_n hx hb la_d975 rfl (lv_at hl 1 rfl) ?_
  refine lv_iload_n hx hb la_d976 rfl (lv_at hl 0 rfl) ?_
  refine lv_iconst hx hb la_d977 (v := 2) (by decide) ?_
  refine lv_iadd hx hb la_d978 ?_
  generalize hg_z978 : i + (2 : Int32) = z978
  have h_z978 : z978.toInt = i.toInt + 2 := by rw [← hg_z978]; have := y_add (x := i) (y := (2 : Int32)) (by rw [ec2]; omega) (by rw [ec2]; omega); rw [ec2] at this; exact this
  refine va_sld hx hb hX hbl hbA hI.2.2.2 (z_vpin (by omega) (by omega)) la_d979 ?_
  obtain ⟨e979, hg_e979⟩ : ∃ e979 : Int32, xs z978.toNatClampNeg = e979 := ⟨_, rfl⟩
  rw [hg_e979]
  refine y_call (z := (0, 113, 3, some 17, xM1012)) (av := [.ref mo, .int e974, .int e979]) (rest := []) (y_cok.of (x_cokV (n := 2) (ci := 12) X xm1012 rfl rfl rfl (x_cons (x_bw82 4 rfl rfl) (x_cons (x_bw82 5 rfl rfl) (x_cons (x_bw82 6 rfl rfl) (x_cons (x_bw0 9 rfl rfl) x_nilm)))) (x_bw82 7 rfl rfl) (by decide +kernel) ⟨Nat.le_of_ble_eq_true rfl, Nat.le_of_ble_eq_true rfl⟩)) hY0 hI rfl la_d980 hl.1 (Nat.le_of_ble_eq_true rfl) (by show (66 + 240 * j) + 0 + 0 ≤ 600000; omega) (by show (67411 + 1200 * j) + 0 + 0 ≤ 7302250; omega) (y_cons (y_cref hY_mo rfl) (y_cons ⟨_, rfl, x_i32 _⟩ (y_cons ⟨_, rfl, x_i32 _⟩ y_nil))) rfl (y_recv rfl hY_mo) trivial (y_sub_ef (by decide +kernel)) fun v Yn o Hn L_ ho hr ha hIn hx_ hE hP => ?_
  replace hR := hR.E2 hY_x hE (fun q u h => y_ext hx_ hI.1 h) (by decide +kernel)
  replace hM := hM.E hY_mo hE (fun q u h => y_ext hx_ hI.1 h) (by decide +kernel) (by decide +kernel)
  replace hY_x := y_ext hx_ hI.1 hY_x
  replace hY_mo := y_ext hx_ hI.1 hY_mo
  obtain ⟨r980, rfl, h_r980⟩ := y_ansI (lo := (-2147483648)) (hi := 2147483647) (by decide) ho hr
  clear ho hr ha hE hP hI hx_
  rename x_I _ _ _ _ _ _ _ _ _ _ => hI
  refine lv_pop hx hb la_d983 rfl ?_
  refine lv_goto hx hb la_d984 (tgt := 1501) (by decide) ?_
  refine W.widen (k := (66 + 240 * (j + 1))) (n := (67411 + 1200 * (j + 1))) (by show (66 + 240 * j) + 0 + 0 ≤ (66 + 240 * (j + 1)); omega) (by show (67411 + 1200 * j) + 0 + 0 ≤ (67411 + 1200 * (j + 1)); omega) ?_
  exact out _ _ _ _ _ _ _ _ hI hY_x hY_mo hR hM hv (lv_sub hl [0, 1, 2, 3] rfl)
theorem la_c23 {p : Program} {l : Launch} {e : Env} {s : State} {m : MethodId} {below : List Frame} {meth : Method} {c : Code} {D : va_G} {b L : Nat} {xs : Nat → Int32} (X : x_cx p s m #[Value.ref b] c D s xMlaw.2.1 xMlaw.2.2.1 vwCl x_Tb x_Nb "TwinFiresLaw") (hrt : meth.sig.returnType = ret) (hlk : meth.locks = false) (hX : va_X b L xs s s.heap) (hbl : b < s.heap.size) (hL : L ≤ 3072) {x mo : Nat} {i : Int32} {j : Nat} (hi : i.toInt = 6 * (j : Int)) (hj : 6 * j + 6 ≤ L)
    (out : ∀ (H : Heap) (Y : xY) (locs : List Loc) (ls : Array Slot) (fv : Nat → Int32) (Kv : Nat → Option (Nat → Int32)) (tv : Nat → Int32) (nv : Int32), x_I D x_G x_Zs s (x_efs xMlaw) z_Y0 s.heap Y H locs → Y x = some 0 → Y mo = some 17 → z_RC D Y H x fv Kv tv nv → z_RM D Y H mo fv Kv tv nv → m_inv2 fv Kv → lv_has ls 4 [(3, .int i), (0, .ref b), (1, .ref x), (2, .ref mo)] → W p l e room_1 s m #[Value.ref b] below meth c H locs (66 + 240 * (j + 1)) (67411 + 1200 * (j + 1)) (lw_Z below #[Value.ref b] s) (F0 m 1501 ls [])) :
    ∀ (H : Heap) (Y : xY) (locs : List Loc) (ls : Array Slot) (fv : Nat → Int32) (Kv : Nat → Option (Nat → Int32)) (tv : Nat → Int32) (nv : Int32), x_I D x_G x_Zs s (x_efs xMlaw) z_Y0 s.heap Y H locs → Y x = some 0 → Y mo = some 17 → z_RC D Y H x fv Kv tv nv → z_RM D Y H mo fv Kv tv nv → m_inv2 fv Kv → lv_has ls 4 [(3, .int i), (0, .ref b), (1, .ref x), (2, .ref mo)] → W p l e room_1 s m #[Value.ref b] below meth c H locs (66 + 240 * j) (67411 + 1200 * j) (lw_Z below #[Value.ref b] s) (F0 m 987 ls []) := by
  have hx := X.1
  have hb := X.2.1
  have hts := X.2.2.2.2.1
  have hY0 : ∀ q u, z_Y0 q = some u → q < s.heap.size := fun q u h => by cases h
  have hbA : ¬ ((∃ t, z_Y0 b = some t) ∨ s.heap.size ≤ b) := fun h => by
    rcases h with ⟨t, h⟩ | h
    · cases h
    · omega
  intro H Y locs ls fv Kv tv nv hI hY_x hY_mo hR hM hv hl
  refine lv_aload_n hx hb la_d987 rfl (lv_at hl 2 rfl) ?_
  refine lv_aload_n hx hb la_d988 rfl (lv_at hl 1 rfl) ?_
  refine lv_iload_n hx hb la_d989 rfl (lv_at hl 0 rfl) ?_
  refine lv_iconst hx hb la_d990 (v := 1) (by decide) ?_
  have ec1 : (1 : Int32).toInt = 1 := by decide
  refine lv_iadd hx hb la_d991 ?_
  generalize hg_z991 : i + (1 : Int32) = z991
  have h_z991 : z991.toInt = i.toInt + 1 := by rw [← hg_z991]; have := y_add (x := i) (y := (1 : Int32)) (by rw [ec1]; omega) (by rw [ec1]; omega); rw [ec1] at this; exact this
  refine va_sld hx hb hX hbl hbA hI.2.2.2 (z_vpin (by omega) (by omega)) la_d992 ?_
  obtain ⟨e992, hg_e992⟩ : ∃ e992 : Int32, xs z991.toNatClampNeg = e992 := ⟨_, rfl⟩
  rw [hg_e992]
  refine lv_aload_n hx hb la_d993 rfl (lv_at hl 1 rfl) ?_
  refine lv_iload_n hx hb la_d994 rfl (lv_at hl 0 rfl) ?_
  refine lv_iconst hx hb la_d995 (v := 2) (by decide) ?_
  have ec2 : (2 : Int32).toInt = 2 := by decide
  refine lv_iadd hx hb la_d996 ?_
  generalize hg_z996 : i + (2 : Int32) = z996
  have h_z996 : z996.toInt = i.toInt + 2 := by rw [← hg_z996]; have := y_add (x := i) (y := (2 : Int32)) (by rw [ec2]; omega) (by rw [ec2]; omega); rw [ec2] at this; exact this
  refine va_sld hx hb hX hbl hbA hI.2.2.2 (z_vpin (by omega) (by omega)) la_d997 ?_
  obtain ⟨e997, hg_e997⟩ : ∃ e997 : Int32, xs z996.toNatClampNeg = e997 := ⟨_, rfl⟩
  rw [hg_e997]
  refine lv_aload_n hx hb la_d998 rfl (lv_at hl 1 rfl) ?_
  refine lv_iload_n hx hb la_d999 rfl (lv_at hl 0 rfl) ?_
  refine lv_iconst hx hb la_d1000 (v := 3) (by decide) ?_
  have ec3 : (3 : Int32).toInt = 3 := by decide
  refine lv_iadd hx hb la_d1001 ?_
  generalize hg_z1001 : i + (3 : Int32) = z1001
  have h_z1001 : z1001.toInt = i.toInt + 3 := by rw [← hg_z1001]; have := y_add (x := i) (y := (3 : Int32)) (by rw [ec3]; omega) (by rw [ec3]; omega); rw [ec3] at this; exact this
  refine va_sld hx hb hX hbl hbA hI.2.2.2 (z_vpin (by omega) (by omega)) la_d1002 ?_
  obtain ⟨e1002, hg_e1002⟩ : ∃ e1002 : Int32, xs z1001.toNatClampNeg = e1002 := ⟨_, rfl⟩
  rw [hg_e1002]
  refine y_call (z := (0, 114, 4, some 0, xM1005)) (av := [.ref x, .int e992, .int e997, .int e1002]) (rest := []) (y_cok.of (x_cokV (n := 3) (ci := 11) X xm1005 rfl rfl rfl (x_cons (x_bw51 2 rfl rfl) (x_cons (x_bw51 3 rfl rfl) (x_cons (x_bw51 4 rfl rfl) (x_cons (x_bw0 1 rfl rfl) x_nilm)))) (x_bw51 5 rfl rfl) (by decide +kernel) ⟨Nat.le_of_ble_eq_true rfl, Nat.le_of_ble_eq_true rfl⟩)) hY0 hI rfl la_d1003 hl.1 (Nat.le_of_ble_eq_true rfl) (by show (66 + 240 * j) + 0 ≤ 600000; omega) (by show (67411 + 1200 * j) + 0 ≤ 7302250; omega) (y_cons (y_cref hY_x rfl) (y_cons ⟨_, rfl, x_i32 _⟩ (y_cons ⟨_, rfl, x_i32 _⟩ (y_cons ⟨_, rfl, x_i32 _⟩ y_nil)))) rfl (y_recv rfl hY_x) trivial (y_sub_ef (by decide +kernel)) fun v Yn o Hn L_ ho hr ha hIn hx_ hE hP => ?_
  replace hM := hM.E hY_mo hE (fun q u h => y_ext hx_ hI.1 h) (by decide +kernel) (by decide +kernel)
  replace hR := hR.E2 hY_x hE (fun q u h => y_ext hx_ hI.1 h) (by decide +kernel)
  replace hY_x := y_ext hx_ hI.1 hY_x
  replace hY_mo := y_ext hx_ hI.1 hY_mo
  obtain ⟨r1003, rfl, h_r1003⟩ := y_ansI (lo := (-2147483648)) (hi := 2147483647) (by decide) ho hr
  clear ho hr ha hE hP hI hx_
  rename x_I _ _ _ _ _ _ _ _ _ _ => hI
  refine lv_pop hx hb la_d1006 rfl ?_
  refine lv_aload_n hx hb la_d1007 rfl (lv_at hl 3 rfl) ?_
  refine lv_aload_n hx hb la_d1008 rfl (lv_at hl 1 rfl) ?_
  refine lv_iload_n hx hb la_d1009 rfl (lv_at hl 0 rfl) ?_
  refine lv_iconst hx hb la_d1010 (v := 1) (by decide) ?_
  refine lv_iadd hx hb la_d1011 ?_
  generalize hg_z1011 : i + (1 : Int32) = z1011
  have h_z1011 : z1011.toInt = i.toInt + 1 := by rw [← hg_z1011]; have := y_add (x := i) (y := (1 : Int32)) (by rw [ec1]; omega) (by rw [ec1]; omega); rw [ec1] at this; exact this
  refine va_sld hx hb hX hbl hbA hI.2.2.2 (z_vpin (by omega) (by omega)) la_d1012 ?_
  obtain ⟨e1012, hg_e1012⟩ : ∃ e1012 : Int32, xs z1011.toNatClampNeg = e1012 := ⟨_, rfl⟩
  rw [hg_e1012]
  refine lv_aload_n hx hb la_d1013 rfl (lv_at hl 1 rfl) ?_
  refine lv_iload_n hx hb la_d1014 rfl (lv_at hl 0 rfl) ?_
  refine lv_iconst hx hb la_d1015 (v := 2) (by decide) ?_
  refine lv_iadd hx hb la_d1016 ?_
  generalize hg_z1016 : i + (2 : Int32) = z1016
  have h_z1016 : z1016.toInt = i.toInt + 2 := by rw [← hg_z1016]; have := y_add (x := i) (y := (2 : Int32)) (by rw [ec2]; omega) (by rw [ec2]; omega); rw [ec2] at this; exact this
  refine va_sld hx hb hX hbl hbA hI.2.2.2 (z_vpin (by omega) (by omega)) la_d1017 ?_
  obtain ⟨e1017, hg_e1017⟩ : ∃ e1017 : Int32, xs z1016.toNatClampNeg = e1017 := ⟨_, rfl⟩
  rw [hg_e1017]
  refine lv_aload_n hx hb la_d1018 rfl (lv_at hl 1 rfl) ?_
  refine lv_iload_n hx hb la_d1019 rfl (lv_at hl 0 rfl) ?_
  refine lv_iconst hx hb la_d1020 (v := 3) (by decide) ?_
  refine lv_iadd hx hb la_d1021 ?_
  generalize hg_z1021 : i + (3 : Int32) = z1021
  have h_z1021 : z1021.toInt = i.toInt + 3 := by rw [← hg_z1021]; have := y_add (x := i) (y := (3 : Int32)) (by rw [ec3]; omega) (by rw [ec3]; omega); rw [ec3] at this; exact this
  refine va_sld hx hb hX hbl hbA hI.2.2.2 (z_vpin (by omega) (by omega)) la_d1022 ?_
  obtain ⟨e1022, hg_e1022⟩ : ∃ e1022 : Int32, xs z1021.toNatClampNeg = e1022 := ⟨_, rfl⟩
  rw [hg_e1022]
  refine y_call (z := (0, 117, 4, some 17, xM1014)) (av := [.ref mo, .int e1012, .int e1017, .int e1022]) (rest := []) (y_cok.of (x_cokV (n := 3) (ci := 12) X xm1014 rfl rfl rfl (x_cons (x_bw82 8 rfl rfl) (x_cons (x_bw82 9 rfl rfl) (x_cons (x_bw82 10 rfl rfl) (x_cons (x_bw0 9 rfl rfl) x_nilm)))) (x_bw82 11 rfl rfl) (by decide +kernel) ⟨Nat.le_of_ble_eq_true rfl, Nat.le_of_ble_eq_true rfl⟩)) hY0 hI rfl la_d1023 hl.1 (Nat.le_of_ble_eq_true rfl) (by show (66 + 240 * j) + 0 + 0 ≤ 600000; omega) (by show (67411 + 1200 * j) + 0 + 0 ≤ 7302250; omega) (y_cons (y_cref hY_mo rfl) (y_cons ⟨_, rfl, x_i32 _⟩ (y_cons ⟨_, rfl, x_i32 _⟩ (y_cons ⟨_, rfl, x_i32 _⟩ y_nil)))) rfl (y_recv rfl hY_mo) trivial (y_sub_ef (by decide +kernel)) fun v Yn o Hn L_ ho hr ha hIn hx_ hE hP => ?_
  replace hR := hR.E2 hY_x hE (fun q u h => y_ext hx_ hI.1 h) (by decide +kernel)
  replace hM := hM.E hY_mo hE (fun q u h => y_ext hx_ hI.1 h) (by decide +kernel) (by decide +kernel)
  replace hY_x := y_ext hx_ hI.1 hY_x
  replace hY_mo := y_ext hx_ hI.1 hY_mo
  obtain ⟨r1023, rfl, h_r1023⟩ := y_ansI (lo := (-2147483648)) (hi := 2147483647) (by decide) ho hr
  clear ho hr ha hE hP hI hx_
  rename x_I _ _ _ _ _ _ _ _ _ _ => hI
  refine lv_pop hx hb la_d1026 rfl ?_
  refine lv_goto hx hb la_d1027 (tgt := 1501) (by decide) ?_
  refine W.widen (k := (66 + 240 * (j + 1))) (n := (67411 + 1200 * (j + 1))) (by show (66 + 240 * j) + 0 + 0 ≤ (66 + 240 * (j + 1)); omega) (by show (67411 + 1200 * j) + 0 + 0 ≤ (67411 + 1200 * (j + 1)); omega) ?_
  exact out _ _ _ _ _ _ _ _ hI hY_x hY_mo hR hM hv (lv_sub hl [0, 1, 2, 3] rfl)
theorem la_c24 {p : Program} {l : Launch} {e : Env} {s : State} {m : MethodId} {below : List Frame} {meth : Method} {c : Code} {D : va_G} {b L : Nat} {xs : Nat → Int32} (X : x_cx p s m #[Value.ref b] c D s xMlaw.2.1 xMlaw.2.2.1 vwCl x_Tb x_Nb "TwinFiresLaw") (hrt : meth.sig.returnType = ret) (hlk : meth.locks = false) (hX : va_X b L xs s s.heap) (hbl : b < s.heap.size) (hL : L ≤ 3072) {x mo : Nat} {i : Int32} {j : Nat} (hi : i.toInt = 6 * (j : Int)) (hj : 6 * j + 6 ≤ L)
    (out : ∀ (H : Heap) (Y : xY) (locs : List Loc) (ls : Array Slot) (fv : Nat → Int32) (Kv : Nat → Option (Nat → Int32)) (tv : Nat → Int32) (nv : Int32), x_I D x_G x_Zs s (x_efs xMlaw) z_Y0 s.heap Y H locs → Y x = some 0 → Y mo = some 17 → z_RC D Y H x fv Kv tv nv → z_RM D Y H mo fv Kv tv nv → m_inv2 fv Kv → lv_has ls 4 [(3, .int i), (0, .ref b), (1, .ref x), (2, .ref mo)] → W p l e room_1 s m #[Value.ref b] below meth c H locs (66 + 240 * (j + 1)) (67411 + 1200 * (j + 1)) (lw_Z below #[Value.ref b] s) (F0 m 1501 ls [])) :
    ∀ (H : Heap) (Y : xY) (locs : List Loc) (ls : Array Slot) (fv : Nat → Int32) (Kv : Nat → Option (Nat → Int32)) (tv : Nat → Int32) (nv : Int32), x_I D x_G x_Zs s (x_efs xMlaw) z_Y0 s.heap Y H locs → Y x = some 0 → Y mo = some 17 → z_RC D Y H x fv Kv tv nv → z_RM D Y H mo fv Kv tv nv → m_inv2 fv Kv → lv_has ls 4 [(3, .int i), (0, .ref b), (1, .ref x), (2, .ref mo)] → W p l e room_1 s m #[Value.ref b] below meth c H locs (66 + 240 * j) (67411 + 1200 * j) (lw_Z below #[Value.ref b] s) (F0 m 1030 ls []) := by
  have hx := X.1
  have hb := X.2.1
  have hts := X.2.2.2.2.1
  have hY0 : ∀ q u, z_Y0 q = some u → q < s.heap.size := fun q u h => by cases h
  have hbA : ¬ ((∃ t, z_Y0 b = some t) ∨ s.heap.size ≤ b) := fun h => by
    rcases h with ⟨t, h⟩ | h
    · cases h
    · omega
  intro H Y locs ls fv Kv tv nv hI hY_x hY_mo hR hM hv hl
  refine lv_aload_n hx hb la_d1030 rfl (lv_at hl 2 rfl) ?_
  refine lv_aload_n hx hb la_d1031 rfl (lv_at hl 1 rfl) ?_
  refine lv_iload_n hx hb la_d1032 rfl (lv_at hl 0 rfl) ?_
  refine lv_iconst hx hb la_d1033 (v := 1) (by decide) ?_
  have ec1 : (1 : Int32).toInt = 1 := by decide
  refine lv_iadd hx hb la_d1034 ?_
  generalize hg_z1034 : i + (1 : Int32) = z1034
  have h_z1034 : z1034.toInt = i.toInt + 1 := by rw [← hg_z1034]; have := y_add (x := i) (y := (1 : Int32)) (by rw [ec1]; omega) (by rw [ec1]; omega); rw [ec1] at this; exact this
  refine va_sld hx hb hX hbl hbA hI.2.2.2 (z_vpin (by omega) (by omega)) la_d1035 ?_
  obtain ⟨e1035, hg_e1035⟩ : ∃ e1035 : Int32, xs z1034.toNatClampNeg = e1035 := ⟨_, rfl⟩
  rw [hg_e1035]
  refine lv_aload_n hx hb la_d1036 rfl (lv_at hl 1 rfl) ?_
  refine lv_iload_n hx hb la_d1037 rfl (lv_at hl 0 rfl) ?_
  refine lv_iconst hx hb la_d1038 (v := 2) (by decide) ?_
  have ec2 : (2 : Int32).toInt = 2 := by decide
  refine lv_iadd hx hb la_d1039 ?_
  generalize hg_z1039 : i + (2 : Int32) = z1039
  have h_z1039 : z1039.toInt = i.toInt + 2 := by rw [← hg_z1039]; have := y_add (x := i) (y := (2 : Int32)) (by rw [ec2]; omega) (by rw [ec2]; omega); rw [ec2] at this; exact this
  refine va_sld hx hb hX hbl hbA hI.2.2.2 (z_vpin (by omega) (by omega)) la_d1040 ?_
  obtain ⟨e1040, hg_e1040⟩ : ∃ e1040 : Int32, xs z1039.toNatClampNeg = e1040 := ⟨_, rfl⟩
  rw [hg_e1040]
  refine lv_aload_n hx hb la_d1041 rfl (lv_at hl 1 rfl) ?_
  refine lv_iload_n hx hb la_d1042 rfl (lv_at hl 0 rfl) ?_
  refine lv_iconst hx hb la_d1043 (v := 3) (by decide) ?_
  have ec3 : (3 : Int32).toInt = 3 := by decide
  refine lv_iadd hx hb la_d1044 ?_
  generalize hg_z1044 : i + (3 : Int32) = z1044
  have h_z1044 : z1044.toInt = i.toInt + 3 := by rw [← hg_z1044]; have := y_add (x := i) (y := (3 : Int32)) (by rw [ec3]; omega) (by rw [ec3]; omega); rw [ec3] at this; exact this
  refine va_sld hx hb hX hbl hbA hI.2.2.2 (z_vpin (by omega) (by omega)) la_d1045 ?_
  obtain ⟨e1045, hg_e1045⟩ : ∃ e1045 : Int32, xs z1044.toNatClampNeg = e1045 := ⟨_, rfl⟩
  rw [hg_e1045]
  refine y_call (z := (0, 118, 4, some 0, xM1007)) (av := [.ref x, .int e1035, .int e1040, .int e1045]) (rest := []) (y_cok.of (x_cokV (n := 3) (ci := 11) X xm1007 rfl rfl rfl (x_cons (x_bw51 14 rfl rfl) (x_cons (x_bw51 15 rfl rfl) (x_cons (x_bw52 0 rfl rfl) (x_cons (x_bw0 1 rfl rfl) x_nilm)))) (x_bw52 1 rfl rfl) (by decide +kernel) ⟨Nat.le_of_ble_eq_true rfl, Nat.le_of_ble_eq_true rfl⟩)) hY0 hI rfl la_d1046 hl.1 (Nat.le_of_ble_eq_true rfl) (by show (66 + 240 * j) + 0 ≤ 600000; omega) (by show (67411 + 1200 * j) + 0 ≤ 7302250; omega) (y_cons (y_cref hY_x rfl) (y_cons ⟨_, rfl, x_i32 _⟩ (y_cons ⟨_, rfl, x_i32 _⟩ (y_cons ⟨_, rfl, x_i32 _⟩ y_nil)))) rfl (y_recv rfl hY_x) trivial (y_sub_ef (by decide +kernel)) fun v Yn o Hn L_ ho hr ha hIn hx_ hE hP => ?_
  replace hM := hM.E hY_mo hE (fun q u h => y_ext hx_ hI.1 h) (by decide +kernel) (by decide +kernel)
  replace hR := hR.E2 hY_x hE (fun q u h => y_ext hx_ hI.1 h) (by decide +kernel)
  replace hY_x := y_ext hx_ hI.1 hY_x
  replace hY_mo := y_ext hx_ hI.1 hY_mo
  obtain ⟨r1046, rfl, h_r1046⟩ := y_ansI (lo := (-2147483648)) (hi := 2147483647) (by decide) ho hr
  clear ho hr ha hE hP hI hx_
  rename x_I _ _ _ _ _ _ _ _ _ _ => hI
  refine lv_pop hx hb la_d1049 rfl ?_
  refine lv_aload_n hx hb la_d1050 rfl (lv_at hl 3 rfl) ?_
  refine lv_aload_n hx hb la_d1051 rfl (lv_at hl 1 rfl) ?_
  refine lv_iload_n hx hb la_d1052 rfl (lv_at hl 0 rfl) ?_
  refine lv_iconst hx hb la_d1053 (v := 1) (by decide) ?_
  refine lv_iadd hx hb la_d1054 ?_
  generalize hg_z1054 : i + (1 : Int32) = z1054
  have h_z1054 : z1054.toInt = i.toInt + 1 := by rw [← hg_z1054]; have := y_add (x := i) (y := (1 : Int32)) (by rw [ec1]; omega) (by rw [ec1]; omega); rw [ec1] at this; exact this
  refine va_sld hx hb hX hbl hbA hI.2.2.2 (z_vpin (by omega) (by omega)) la_d1055 ?_
  obtain ⟨e1055, hg_e1055⟩ : ∃ e1055 : Int32, xs z1054.toNatClampNeg = e1055 := ⟨_, rfl⟩
  rw [hg_e1055]
  refine lv_aload_n hx hb la_d1056 rfl (lv_at hl 1 rfl) ?_
  refine lv_iload_n hx hb la_d1057 rfl (lv_at hl 0 rfl) ?_
  refine lv_iconst hx hb la_d1058 (v := 2) (by decide) ?_
  refine lv_iadd hx hb la_d1059 ?_
  generalize hg_z1059 : i + (2 : Int32) = z1059
  have h_z1059 : z1059.toInt = i.toInt + 2 := by rw [← hg_z1059]; have := y_add (x := i) (y := (2 : Int32)) (by rw [ec2]; omega) (by rw [ec2]; omega); rw [ec2] at this; exact this
  refine va_sld hx hb hX hbl hbA hI.2.2.2 (z_vpin (by omega) (by omega)) la_d1060 ?_
  obtain ⟨e1060, hg_e1060⟩ : ∃ e1060 : Int32, xs z1059.toNatClampNeg = e1060 := ⟨_, rfl⟩
  rw [hg_e1060]
  refine lv_aload_n hx hb la_d1061 rfl (lv_at hl 1 rfl) ?_
  refine lv_iload_n hx hb la_d1062 rfl (lv_at hl 0 rfl) ?_
  refine lv_iconst hx hb la_d1063 (v := 3) (by decide) ?_
  refine lv_iadd hx hb la_d1064 ?_
  generalize hg_z1064 : i + (3 : Int32) = z1064
  have h_z1064 : z1064.toInt = i.toInt + 3 := by rw [← hg_z1064]; have := y_add (x := i) (y := (3 : Int32)) (by rw [ec3]; omega) (by rw [ec3]; omega); rw [ec3] at this; exact this
  refine va_sld hx hb hX hbl hbA hI.2.2.2 (z_vpin (by omega) (by omega)) la_d1065 ?_
  obtain ⟨e1065, hg_e1065⟩ : ∃ e1065 : Int32, xs z1064.toNatClampNeg = e1065 := ⟨_, rfl⟩
  rw [hg_e1065]
  refine y_call (z := (0, 121, 4, some 17, xMby)) (av := [.ref mo, .int e1055, .int e1060, .int e1065]) (rest := []) (y_cokV (n := 3) (ci := 12) X ym_byMists rfl rfl rfl (x_cons (x_bw82 13 rfl rfl) (x_cons (x_bw82 14 rfl rfl) (x_cons (x_bw82 15 rfl rfl) (x_cons (x_bw0 9 rfl rfl) x_nilm)))) (x_bw83 0 rfl rfl) (by decide +kernel) ⟨Nat.le_of_ble_eq_true rfl, Nat.le_of_ble_eq_true rfl⟩) hY0 hI rfl la_d1066 hl.1 (Nat.le_of_ble_eq_true rfl) (by show (66 + 240 * j) + 0 + 0 ≤ 600000; omega) (by show (67411 + 1200 * j) + 0 + 0 ≤ 7302250; omega) (y_cons (y_cref hY_mo rfl) (y_cons ⟨_, rfl, x_i32 _⟩ (y_cons ⟨_, rfl, x_i32 _⟩ (y_cons ⟨_, rfl, x_i32 _⟩ y_nil)))) rfl (y_recv rfl hY_mo) trivial (y_sub_ef (by decide +kernel)) fun v Yn o Hn L_ ho hr ha hIn hx_ hE hP => ?_
  replace hR := hR.E2 hY_x hE (fun q u h => y_ext hx_ hI.1 h) (by decide +kernel)
  replace hM := hM.E hY_mo hE (fun q u h => y_ext hx_ hI.1 h) (by decide +kernel) (by decide +kernel)
  replace hY_x := y_ext hx_ hI.1 hY_x
  replace hY_mo := y_ext hx_ hI.1 hY_mo
  obtain ⟨r1066, rfl, h_r1066⟩ := y_ansI (lo := (-2147483648)) (hi := 2147483647) (by decide) ho hr
  clear ho hr ha hE hP hI hx_
  rename x_I _ _ _ _ _ _ _ _ _ _ => hI
  refine lv_pop hx hb la_d1069 rfl ?_
  refine lv_goto hx hb la_d1070 (tgt := 1501) (by decide) ?_
  refine W.widen (k := (66 + 240 * (j + 1))) (n := (67411 + 1200 * (j + 1))) (by show (66 + 240 * j) + 0 + 0 ≤ (66 + 240 * (j + 1)); omega) (by show (67411 + 1200 * j) + 0 + 0 ≤ (67411 + 1200 * (j + 1)); omega) ?_
  exact out _ _ _ _ _ _ _ _ hI hY_x hY_mo hR hM hv (lv_sub hl [0, 1, 2, 3] rfl)
theorem la_c25 {p : Program} {l : Launch} {e : Env} {s : State} {m : MethodId} {below : List Frame} {meth : Method} {c : Code} {D : va_G} {b L : Nat} {xs : Nat → Int32} (X : x_cx p s m #[Value.ref b] c D s xMlaw.2.1 xMlaw.2.2.1 vwCl x_Tb x_Nb "TwinFiresLaw") (hrt : meth.sig.returnType = ret) (hlk : meth.locks = false) (hX : va_X b L xs s s.heap) (hbl : b < s.heap.size) (hL : L ≤ 3072) {x mo : Nat} {i : Int32} {j : Nat} (hi : i.toInt = 6 * (j : Int)) (hj : 6 * j + 6 ≤ L)
    (out : ∀ (H : Heap) (Y : xY) (locs : List Loc) (ls : Array Slot) (fv : Nat → Int32) (Kv : Nat → Option (Nat → Int32)) (tv : Nat → Int32) (nv : Int32), x_I D x_G x_Zs s (x_efs xMlaw) z_Y0 s.heap Y H locs → Y x = some 0 → Y mo = some 17 → z_RC D Y H x fv Kv tv nv → z_RM D Y H mo fv Kv tv nv → m_inv2 fv Kv → lv_has ls 4 [(3, .int i), (0, .ref b), (1, .ref x), (2, .ref mo)] → W p l e room_1 s m #[Value.ref b] below meth c H locs (66 + 240 * (j + 1)) (67411 + 1200 * (j + 1)) (lw_Z below #[Value.ref b] s) (F0 m 1501 ls [])) :
    ∀ (H : Heap) (Y : xY) (locs : List Loc) (ls : Array Slot) (fv : Nat → Int32) (Kv : Nat → Option (Nat → Int32)) (tv : Nat → Int32) (nv : Int32), x_I D x_G x_Zs s (x_efs xMlaw) z_Y0 s.heap Y H locs → Y x = some 0 → Y mo = some 17 → z_RC D Y H x fv Kv tv nv → z_RM D Y H mo fv Kv tv nv → m_inv2 fv Kv → lv_has ls 4 [(3, .int i), (0, .ref b), (1, .ref x), (2, .ref mo)] → W p l e room_1 s m #[Value.ref b] below meth c H locs (66 + 240 * j) (67411 + 1200 * j) (lw_Z below #[Value.ref b] s) (F0 m 1073 ls []) := by
  have hx := X.1
  have hb := X.2.1
  have hts := X.2.2.2.2.1
  have hY0 : ∀ q u, z_Y0 q = some u → q < s.heap.size := fun q u h => by cases h
  have hbA : ¬ ((∃ t, z_Y0 b = some t) ∨ s.heap.size ≤ b) := fun h => by
    rcases h with ⟨t, h⟩ | h
    · cases h
    · omega
  intro H Y locs ls fv Kv tv nv hI hY_x hY_mo hR hM hv hl
  refine lv_aload_n hx hb la_d1073 rfl (lv_at hl 2 rfl) ?_
  refine lv_aload_n hx hb la_d1074 rfl (lv_at hl 1 rfl) ?_
  refine lv_iload_n hx hb la_d1075 rfl (lv_at hl 0 rfl) ?_
  refine lv_iconst hx hb la_d1076 (v := 1) (by decide) ?_
  have ec1 : (1 : Int32).toInt = 1 := by decide
  refine lv_iadd hx hb la_d1077 ?_
  generalize hg_z1077 : i + (1 : Int32) = z1077
  have h_z1077 : z1077.toInt = i.toInt + 1 := by rw [← hg_z1077]; have := y_add (x := i) (y := (1 : Int32)) (by rw [ec1]; omega) (by rw [ec1]; omega); rw [ec1] at this; exact this
  refine va_sld hx hb hX hbl hbA hI.2.2.2 (z_vpin (by omega) (by omega)) la_d1078 ?_
  obtain ⟨e1078, hg_e1078⟩ : ∃ e1078 : Int32, xs z1077.toNatClampNeg = e1078 := ⟨_, rfl⟩
  rw [hg_e1078]
  have hbd := hR.bd hI.1
  refine y_call (z := (0, 122, 2, some 0, xM109)) (av := [.ref x, .int e1078]) (rest := []) (y_cokV (n := 1) (ci := 11) X ym_Tletter rfl rfl rfl (x_cons (x_bw53 9 rfl rfl) (x_cons (x_bw53 10 rfl rfl) (x_cons (x_bw53 11 rfl rfl) (x_cons (x_bw0 1 rfl rfl) x_nilm)))) (x_bw53 12 rfl rfl) (by decide +kernel) ⟨Nat.le_of_ble_eq_true rfl, Nat.le_of_ble_eq_true rfl⟩) hY0 hI rfl la_d1079 hl.1 (Nat.le_of_ble_eq_true rfl) (by show (66 + 240 * j) + 0 ≤ 600000; omega) (by show (67411 + 1200 * j) + 0 ≤ 7302250; omega) (y_cons (y_cref hY_x rfl) (y_cons ⟨_, rfl, x_i32 _⟩ y_nil)) rfl (y_recv rfl hY_x) (fun t' h1 => by cases h1; exact ⟨_, _, _, _, hR⟩) (y_sub_ef (by decide +kernel)) fun v Yn o Hn L_ ho hr ha hIn hx_ hE hP => ?_
  replace hM := hM.E hY_mo hE (fun q u h => y_ext hx_ hI.1 h) (by decide +kernel) (by decide +kernel)
  obtain ⟨rA, gA, hra, hRn, hmA⟩ := hP _ _ _ _ _ _ rfl hR
  obtain rfl := hra
  replace hR := hRn
  replace hY_x := y_ext hx_ hI.1 hY_x
  replace hY_mo := y_ext hx_ hI.1 hY_mo
  clear ho hr ha hE hP hI hx_
  rename x_I _ _ _ _ _ _ _ _ _ _ => hI
  refine lv_pop hx hb la_d1082 rfl ?_
  refine lv_aload_n hx hb la_d1083 rfl (lv_at hl 3 rfl) ?_
  refine lv_aload_n hx hb la_d1084 rfl (lv_at hl 1 rfl) ?_
  refine lv_iload_n hx hb la_d1085 rfl (lv_at hl 0 rfl) ?_
  refine lv_iconst hx hb la_d1086 (v := 1) (by decide) ?_
  refine lv_iadd hx hb la_d1087 ?_
  generalize hg_z1087 : i + (1 : Int32) = z1087
  have h_z1087 : z1087.toInt = i.toInt + 1 := by rw [← hg_z1087]; have := y_add (x := i) (y := (1 : Int32)) (by rw [ec1]; omega) (by rw [ec1]; omega); rw [ec1] at this; exact this
  refine va_sld hx hb hX hbl hbA hI.2.2.2 (z_vpin (by omega) (by omega)) la_d1088 ?_
  obtain ⟨e1088, hg_e1088⟩ : ∃ e1088 : Int32, xs z1087.toNatClampNeg = e1088 := ⟨_, rfl⟩
  rw [hg_e1088]
  obtain rfl : e1078 = e1088 := by rw [← hg_e1078, ← hg_e1088, ← hg_z1077, ← hg_z1087]
  refine y_call (z := (0, 125, 2, some 17, xM208)) (av := [.ref mo, .int e1078]) (rest := []) (y_cokV (n := 1) (ci := 12) X ym_letterX rfl rfl rfl (x_cons (x_bw83 5 rfl rfl) (x_cons (x_bw83 6 rfl rfl) (x_cons (x_bw83 7 rfl rfl) (x_cons (x_bw0 9 rfl rfl) x_nilm)))) (x_bw83 8 rfl rfl) (by decide +kernel) ⟨Nat.le_of_ble_eq_true rfl, Nat.le_of_ble_eq_true rfl⟩) hY0 hI rfl la_d1089 hl.1 (Nat.le_of_ble_eq_true rfl) (by show (66 + 240 * j) + 0 + 0 ≤ 600000; omega) (by show (67411 + 1200 * j) + 0 + 0 ≤ 7302250; omega) (y_cons (y_cref hY_mo rfl) (y_cons ⟨_, rfl, x_i32 _⟩ y_nil)) rfl (y_recv rfl hY_mo) trivial (y_sub_ef (by decide +kernel)) fun v Yn o Hn L_ ho hr ha hIn hx_ hE hP => ?_
  replace hR := hR.E2 hY_x hE (fun q u h => y_ext hx_ hI.1 h) (by decide +kernel)
  obtain ⟨bk9, hb1, hb2, hb3⟩ := hM.bk
  obtain ⟨rB, gB, hrb, hAB, hmB⟩ := hP _ _ _ _ rfl hb1 hb2 hb3
  obtain rfl := hrb
  have hi9 := hmA.i01 hbd.2.2 hv.1.1
  have hi8 := hmA.rg hv.2.1
  obtain ⟨w4, w5⟩ := hmA.eq hbd.2.2 hmB
  subst w4 w5
  replace hM := hM.book hY_mo hE (fun q u h => y_ext hx_ hI.1 h) (by decide +kernel) hR.zc (fun b hb => by cases hb1.symm.trans hb; exact hAB)
  replace hv : m_inv2 _ Kv := ⟨⟨hi9, hv.1.2⟩, hi8, hv.2.2⟩
  replace hY_x := y_ext hx_ hI.1 hY_x
  replace hY_mo := y_ext hx_ hI.1 hY_mo
  clear ho hr ha hE hP hI hx_
  rename x_I _ _ _ _ _ _ _ _ _ _ => hI
  refine lv_pop hx hb la_d1092 rfl ?_
  refine lv_goto hx hb la_d1093 (tgt := 1501) (by decide) ?_
  refine W.widen (k := (66 + 240 * (j + 1))) (n := (67411 + 1200 * (j + 1))) (by show (66 + 240 * j) + 0 + 0 ≤ (66 + 240 * (j + 1)); omega) (by show (67411 + 1200 * j) + 0 + 0 ≤ (67411 + 1200 * (j + 1)); omega) ?_
  exact out _ _ _ _ _ _ _ _ hI hY_x hY_mo hR hM hv (lv_sub hl [0, 1, 2, 3] rfl)
theorem la_c26 {p : Program} {l : Launch} {e : Env} {s : State} {m : MethodId} {below : List Frame} {meth : Method} {c : Code} {D : va_G} {b L : Nat} {xs : Nat → Int32} (X : x_cx p s m #[Value.ref b] c D s xMlaw.2.1 xMlaw.2.2.1 vwCl x_Tb x_Nb "TwinFiresLaw") (hrt : meth.sig.returnType = ret) (hlk : meth.locks = false) (hX : va_X b L xs s s.heap) (hbl : b < s.heap.size) (hL : L ≤ 3072) {x mo : Nat} {i : Int32} {j : Nat} (hi : i.toInt = 6 * (j : Int)) (hj : 6 * j + 6 ≤ L)
    (out : ∀ (H : Heap) (Y : xY) (locs : List Loc) (ls : Array Slot) (fv : Nat → Int32) (Kv : Nat → Option (Nat → Int32)) (tv : Nat → Int32) (nv : Int32), x_I D x_G x_Zs s (x_efs xMlaw) z_Y0 s.heap Y H locs → Y x = some 0 → Y mo = some 17 → z_RC D Y H x fv Kv tv nv → z_RM D Y H mo fv Kv tv nv → m_inv2 fv Kv → lv_has ls 4 [(3, .int i), (0, .ref b), (1, .ref x), (2, .ref mo)] → W p l e room_1 s m #[Value.ref b] below meth c H locs (66 + 240 * (j + 1)) (67411 + 1200 * (j + 1)) (lw_Z below #[Value.ref b] s) (F0 m 1501 ls [])) :
    ∀ (H : Heap) (Y : xY) (locs : List Loc) (ls : Array Slot) (fv : Nat → Int32) (Kv : Nat → Option (Nat → Int32)) (tv : Nat → Int32) (nv : Int32), x_I D x_G x_Zs s (x_efs xMlaw) z_Y0 s.heap Y H locs → Y x = some 0 → Y mo = some 17 → z_RC D Y H x fv Kv tv nv → z_RM D Y H mo fv Kv tv nv → m_inv2 fv Kv → lv_has ls 4 [(3, .int i), (0, .ref b), (1, .ref x), (2, .ref mo)] → W p l e room_1 s m #[Value.ref b] below meth c H locs (66 + 240 * j) (67411 + 1200 * j) (lw_Z below #[Value.ref b] s) (F0 m 1096 ls []) := by
  have hx := X.1
  have hb := X.2.1
  have hts := X.2.2.2.2.1
  have hY0 : ∀ q u, z_Y0 q = some u → q < s.heap.size := fun q u h => by cases h
  have hbA : ¬ ((∃ t, z_Y0 b = some t) ∨ s.heap.size ≤ b) := fun h => by
    rcases h with ⟨t, h⟩ | h
    · cases h
    · omega
  intro H Y locs ls fv Kv tv nv hI hY_x hY_mo hR hM hv hl
  refine lv_aload_n hx hb la_d1096 rfl (lv_at hl 2 rfl) ?_
  have hbd := hR.bd hI.1
  refine y_call (z := (0, 126, 1, some 0, xM110)) (av := [.ref x]) (rest := []) (y_cokV (n := 0) (ci := 11) X ym_Tunword rfl rfl rfl (x_cons (x_bw53 13 rfl rfl) (x_cons (x_bw53 14 rfl rfl) (x_cons (x_bw53 15 rfl rfl) (x_cons (x_bw0 1 rfl rfl) x_nilm)))) (x_bw54 0 rfl rfl) (by decide +kernel) ⟨Nat.le_of_ble_eq_true rfl, Nat.le_of_ble_eq_true rfl⟩) hY0 hI rfl la_d1097 hl.1 (Nat.le_of_ble_eq_true rfl) (by show (66 + 240 * j) + 0 ≤ 600000; omega) (by show (67411 + 1200 * j) + 0 ≤ 7302250; omega) (y_cons (y_cref hY_x rfl) y_nil) rfl (y_recv rfl hY_x) (fun t' h1 => by cases h1; exact ⟨_, _, _, _, hR⟩) (y_sub_ef (by decide +kernel)) fun v Yn o Hn L_ ho hr ha hIn hx_ hE hP => ?_
  replace hM := hM.E hY_mo hE (fun q u h => y_ext hx_ hI.1 h) (by decide +kernel) (by decide +kernel)
  obtain ⟨rA, gA, hra, hRn, hmA⟩ := hP _ _ _ _ _ rfl hR
  obtain rfl := hra
  replace hR := hRn
  replace hY_x := y_ext hx_ hI.1 hY_x
  replace hY_mo := y_ext hx_ hI.1 hY_mo
  clear ho hr ha hE hP hI hx_
  rename x_I _ _ _ _ _ _ _ _ _ _ => hI
  refine lv_pop hx hb la_d1100 rfl ?_
  refine lv_aload_n hx hb la_d1101 rfl (lv_at hl 3 rfl) ?_
  refine y_call (z := (0, 129, 1, some 17, xM210)) (av := [.ref mo]) (rest := []) (y_cokV (n := 0) (ci := 12) X ym_unwordX rfl rfl rfl (x_cons (x_bw83 9 rfl rfl) (x_cons (x_bw83 10 rfl rfl) (x_cons (x_bw83 11 rfl rfl) (x_cons (x_bw0 9 rfl rfl) x_nilm)))) (x_bw83 12 rfl rfl) (by decide +kernel) ⟨Nat.le_of_ble_eq_true rfl, Nat.le_of_ble_eq_true rfl⟩) hY0 hI rfl la_d1102 hl.1 (Nat.le_of_ble_eq_true rfl) (by show (66 + 240 * j) + 0 + 0 ≤ 600000; omega) (by show (67411 + 1200 * j) + 0 + 0 ≤ 7302250; omega) (y_cons (y_cref hY_mo rfl) y_nil) rfl (y_recv rfl hY_mo) trivial (y_sub_ef (by decide +kernel)) fun v Yn o Hn L_ ho hr ha hIn hx_ hE hP => ?_
  replace hR := hR.E2 hY_x hE (fun q u h => y_ext hx_ hI.1 h) (by decide +kernel)
  obtain ⟨bk9, hb1, hb2, hb3⟩ := hM.bk
  obtain ⟨hrb, hAB⟩ := hP _ _ _ rfl hb1 hb2 hb3
  obtain rfl := hrb
  have hi9 := hv.1.1.ne (p := 2) (v := 0) (fun j hj => by omega)
  have hi8 := hv.2.1.up (p := 2) (v := 0) (.of m_T0.2.2.1 (by rw [m_c0]; omega))
  obtain ⟨w4, w5⟩ := hmA
  subst w4 w5
  replace hM := hM.book hY_mo hE (fun q u h => y_ext hx_ hI.1 h) (by decide +kernel) hR.zc (fun b hb => by cases hb1.symm.trans hb; exact hAB)
  replace hv : m_inv2 _ Kv := ⟨⟨hi9, hv.1.2⟩, hi8, hv.2.2⟩
  replace hY_x := y_ext hx_ hI.1 hY_x
  replace hY_mo := y_ext hx_ hI.1 hY_mo
  clear ho hr ha hE hP hI hx_
  rename x_I _ _ _ _ _ _ _ _ _ _ => hI
  refine lv_pop hx hb la_d1105 rfl ?_
  refine lv_goto hx hb la_d1106 (tgt := 1501) (by decide) ?_
  refine W.widen (k := (66 + 240 * (j + 1))) (n := (67411 + 1200 * (j + 1))) (by show (66 + 240 * j) + 0 + 0 ≤ (66 + 240 * (j + 1)); omega) (by show (67411 + 1200 * j) + 0 + 0 ≤ (67411 + 1200 * (j + 1)); omega) ?_
  exact out _ _ _ _ _ _ _ _ hI hY_x hY_mo hR hM hv (lv_sub hl [0, 1, 2, 3] rfl)
theorem la_c27 {p : Program} {l : Launch} {e : Env} {s : State} {m : MethodId} {below : List Frame} {meth : Method} {c : Code} {D : va_G} {b L : Nat} {xs : Nat → Int32} (X : x_cx p s m #[Value.ref b] c D s xMlaw.2.1 xMlaw.2.2.1 vwCl x_Tb x_Nb "TwinFiresLaw") (hrt : meth.sig.returnType = ret) (hlk : meth.locks = false) (hX : va_X b L xs s s.heap) (hbl : b < s.heap.size) (hL : L ≤ 3072) {x mo : Nat} {i : Int32} {j : Nat} (hi : i.toInt = 6 * (j : Int)) (hj : 6 * j + 6 ≤ L)
    (out : ∀ (H : Heap) (Y : xY) (locs : List Loc) (ls : Array Slot) (fv : Nat → Int32) (Kv : Nat → Option (Nat → Int32)) (tv : Nat → Int32) (nv : Int32), x_I D x_G x_Zs s (x_efs xMlaw) z_Y0 s.heap Y H locs → Y x = some 0 → Y mo = some 17 → z_RC D Y H x fv Kv tv nv → z_RM D Y H mo fv Kv tv nv → m_inv2 fv Kv → lv_has ls 4 [(3, .int i), (0, .ref b), (1, .ref x), (2, .ref mo)] → W p l e room_1 s m #[Value.ref b] below meth c H locs (66 + 240 * (j + 1)) (67411 + 1200 * (j + 1)) (lw_Z below #[Value.ref b] s) (F0 m 1501 ls [])) :
    ∀ (H : Heap) (Y : xY) (locs : List Loc) (ls : Array Slot) (fv : Nat → Int32) (Kv : Nat → Option (Nat → Int32)) (tv : Nat → Int32) (nv : Int32), x_I D x_G x_Zs s (x_efs xMlaw) z_Y0 s.heap Y H locs → Y x = some 0 → Y mo = some 17 → z_RC D Y H x fv Kv tv nv → z_RM D Y H mo fv Kv tv nv → m_inv2 fv Kv → lv_has ls 4 [(3, .int i), (0, .ref b), (1, .ref x), (2, .ref mo)] → W p l e room_1 s m #[Value.ref b] below meth c H locs (66 + 240 * j) (67411 + 1200 * j) (lw_Z below #[Value.ref b] s) (F0 m 1109 ls []) := by
  have hx := X.1
  have hb := X.2.1
  have hts := X.2.2.2.2.1
  have hY0 : ∀ q u, z_Y0 q = some u → q < s.heap.size := fun q u h => by cases h
  have hbA : ¬ ((∃ t, z_Y0 b = some t) ∨ s.heap.size ≤ b) := fun h => by
    rcases h with ⟨t, h⟩ | h
    · cases h
    · omega
  intro H Y locs ls fv Kv tv nv hI hY_x hY_mo hR hM hv hl
  refine lv_aload_n hx hb la_d1109 rfl (lv_at hl 2 rfl) ?_
  refine lv_aload_n hx hb la_d1110 rfl (lv_at hl 1 rfl) ?_
  refine lv_iload_n hx hb la_d1111 rfl (lv_at hl 0 rfl) ?_
  refine lv_iconst hx hb la_d1112 (v := 1) (by decide) ?_
  have ec1 : (1 : Int32).toInt = 1 := by decide
  refine lv_iadd hx hb la_d1113 ?_
  generalize hg_z1113 : i + (1 : Int32) = z1113
  have h_z1113 : z1113.toInt = i.toInt + 1 := by rw [← hg_z1113]; have := y_add (x := i) (y := (1 : Int32)) (by rw [ec1]; omega) (by rw [ec1]; omega); rw [ec1] at this; exact this
  refine va_sld hx hb hX hbl hbA hI.2.2.2 (z_vpin (by omega) (by omega)) la_d1114 ?_
  obtain ⟨e1114, hg_e1114⟩ : ∃ e1114 : Int32, xs z1113.toNatClampNeg = e1114 := ⟨_, rfl⟩
  rw [hg_e1114]
  refine lv_aload_n hx hb la_d1115 rfl (lv_at hl 1 rfl) ?_
  refine lv_iload_n hx hb la_d1116 rfl (lv_at hl 0 rfl) ?_
  refine lv_iconst hx hb la_d1117 (v := 2) (by decide) ?_
  have ec2 : (2 : Int32).toInt = 2 := by decide
  refine lv_iadd hx hb la_d1118 ?_
  generalize hg_z1118 : i + (2 : Int32) = z1118
  have h_z1118 : z1118.toInt = i.toInt + 2 := by rw [← hg_z1118]; have := y_add (x := i) (y := (2 : Int32)) (by rw [ec2]; omega) (by rw [ec2]; omega); rw [ec2] at this; exact this
  refine va_sld hx hb hX hbl hbA hI.2.2.2 (z_vpin (by omega) (by omega)) la_d1119 ?_
  obtain ⟨e1119, hg_e1119⟩ : ∃ e1119 : Int32, xs z1118.toNatClampNeg = e1119 := ⟨_, rfl⟩
  rw [hg_e1119]
  refine y_call (z := (0, 130, 3, some 0, xM1008)) (av := [.ref x, .int e1114, .int e1119]) (rest := []) (y_cok.of (x_cokV (n := 2) (ci := 11) X xm1008 rfl rfl rfl (x_cons (x_bw54 1 rfl rfl) (x_cons (x_bw54 2 rfl rfl) (x_cons (x_bw54 3 rfl rfl) (x_cons (x_bw0 1 rfl rfl) x_nilm)))) (x_bw54 4 rfl rfl) (by decide +kernel) ⟨Nat.le_of_ble_eq_true rfl, Nat.le_of_ble_eq_true rfl⟩)) hY0 hI rfl la_d1120 hl.1 (Nat.le_of_ble_eq_true rfl) (by show (66 + 240 * j) + 0 ≤ 600000; omega) (by show (67411 + 1200 * j) + 0 ≤ 7302250; omega) (y_cons (y_cref hY_x rfl) (y_cons ⟨_, rfl, x_i32 _⟩ (y_cons ⟨_, rfl, x_i32 _⟩ y_nil))) rfl (y_recv rfl hY_x) trivial (y_sub_ef (by decide +kernel)) fun v Yn o Hn L_ ho hr ha hIn hx_ hE hP => ?_
  replace hM := hM.E hY_mo hE (fun q u h => y_ext hx_ hI.1 h) (by decide +kernel) (by decide +kernel)
  replace hR := hR.E2 hY_x hE (fun q u h => y_ext hx_ hI.1 h) (by decide +kernel)
  replace hY_x := y_ext hx_ hI.1 hY_x
  replace hY_mo := y_ext hx_ hI.1 hY_mo
  obtain ⟨r1120, rfl, h_r1120⟩ := y_ansI (lo := (-2147483648)) (hi := 2147483647) (by decide) ho hr
  clear ho hr ha hE hP hI hx_
  rename x_I _ _ _ _ _ _ _ _ _ _ => hI
  refine lv_pop hx hb la_d1123 rfl ?_
  refine lv_aload_n hx hb la_d1124 rfl (lv_at hl 3 rfl) ?_
  refine lv_aload_n hx hb la_d1125 rfl (lv_at hl 1 rfl) ?_
  refine lv_iload_n hx hb la_d1126 rfl (lv_at hl 0 rfl) ?_
  refine lv_iconst hx hb la_d1127 (v := 1) (by decide) ?_
  refine lv_iadd hx hb la_d1128 ?_
  generalize hg_z1128 : i + (1 : Int32) = z1128
  have h_z1128 : z1128.toInt = i.toInt + 1 := by rw [← hg_z1128]; have := y_add (x := i) (y := (1 : Int32)) (by rw [ec1]; omega) (by rw [ec1]; omega); rw [ec1] at this; exact this
  refine va_sld hx hb hX hbl hbA hI.2.2.2 (z_vpin (by omega) (by omega)) la_d1129 ?_
  obtain ⟨e1129, hg_e1129⟩ : ∃ e1129 : Int32, xs z1128.toNatClampNeg = e1129 := ⟨_, rfl⟩
  rw [hg_e1129]
  refine lv_aload_n hx hb la_d1130 rfl (lv_at hl 1 rfl) ?_
  refine lv_iload_n hx hb la_d1131 rfl (lv_at hl 0 rfl) ?_
  refine lv_iconst hx hb la_d1132 (v := 2) (by decide) ?_
  refine lv_iadd hx hb la_d1133 ?_
  generalize hg_z1133 : i + (2 : Int32) = z1133
  have h_z1133 : z1133.toInt = i.toInt + 2 := by rw [← hg_z1133]; have := y_add (x := i) (y := (2 : Int32)) (by rw [ec2]; omega) (by rw [ec2]; omega); rw [ec2] at this; exact this
  refine va_sld hx hb hX hbl hbA hI.2.2.2 (z_vpin (by omega) (by omega)) la_d1134 ?_
  obtain ⟨e1134, hg_e1134⟩ : ∃ e1134 : Int32, xs z1133.toNatClampNeg = e1134 := ⟨_, rfl⟩
  rw [hg_e1134]
  refine y_call (z := (0, 133, 3, some 17, xMti)) (av := [.ref mo, .int e1129, .int e1134]) (rest := []) (y_cokV (n := 2) (ci := 12) X ym_toldIn rfl rfl rfl (x_cons (x_bw83 13 rfl rfl) (x_cons (x_bw83 14 rfl rfl) (x_cons (x_bw83 15 rfl rfl) (x_cons (x_bw0 9 rfl rfl) x_nilm)))) (x_bw84 0 rfl rfl) (by decide +kernel) ⟨Nat.le_of_ble_eq_true rfl, Nat.le_of_ble_eq_true rfl⟩) hY0 hI rfl la_d1135 hl.1 (Nat.le_of_ble_eq_true rfl) (by show (66 + 240 * j) + 0 + 0 ≤ 600000; omega) (by show (67411 + 1200 * j) + 0 + 0 ≤ 7302250; omega) (y_cons (y_cref hY_mo rfl) (y_cons ⟨_, rfl, x_i32 _⟩ (y_cons ⟨_, rfl, x_i32 _⟩ y_nil))) rfl (y_recv rfl hY_mo) trivial (y_sub_ef (by decide +kernel)) fun v Yn o Hn L_ ho hr ha hIn hx_ hE hP => ?_
  replace hR := hR.E2 hY_x hE (fun q u h => y_ext hx_ hI.1 h) (by decide +kernel)
  replace hM := hM.E hY_mo hE (fun q u h => y_ext hx_ hI.1 h) (by decide +kernel) (by decide +kernel)
  replace hY_x := y_ext hx_ hI.1 hY_x
  replace hY_mo := y_ext hx_ hI.1 hY_mo
  obtain ⟨r1135, rfl, h_r1135⟩ := y_ansI (lo := (-2147483648)) (hi := 2147483647) (by decide) ho hr
  clear ho hr ha hE hP hI hx_
  rename x_I _ _ _ _ _ _ _ _ _ _ => hI
  refine lv_pop hx hb la_d1138 rfl ?_
  refine lv_goto hx hb la_d1139 (tgt := 1501) (by decide) ?_
  refine W.widen (k := (66 + 240 * (j + 1))) (n := (67411 + 1200 * (j + 1))) (by show (66 + 240 * j) + 0 + 0 ≤ (66 + 240 * (j + 1)); omega) (by show (67411 + 1200 * j) + 0 + 0 ≤ (67411 + 1200 * (j + 1)); omega) ?_
  exact out _ _ _ _ _ _ _ _ hI hY_x hY_mo hR hM hv (lv_sub hl [0, 1, 2, 3] rfl)
theorem la_c28 {p : Program} {l : Launch} {e : Env} {s : State} {m : MethodId} {below : List Frame} {meth : Method} {c : Code} {D : va_G} {b L : Nat} {xs : Nat → Int32} (X : x_cx p s m #[Value.ref b] c D s xMlaw.2.1 xMlaw.2.2.1 vwCl x_Tb x_Nb "TwinFiresLaw") (hrt : meth.sig.returnType = ret) (hlk : meth.locks = false) (hX : va_X b L xs s s.heap) (hbl : b < s.heap.size) (hL : L ≤ 3072) {x mo : Nat} {i : Int32} {j : Nat} (hi : i.toInt = 6 * (j : Int)) (hj : 6 * j + 6 ≤ L)
    (out : ∀ (H : Heap) (Y : xY) (locs : List Loc) (ls : Array Slot) (fv : Nat → Int32) (Kv : Nat → Option (Nat → Int32)) (tv : Nat → Int32) (nv : Int32), x_I D x_G x_Zs s (x_efs xMlaw) z_Y0 s.heap Y H locs → Y x = some 0 → Y mo = some 17 → z_RC D Y H x fv Kv tv nv → z_RM D Y H mo fv Kv tv nv → m_inv2 fv Kv → lv_has ls 4 [(3, .int i), (0, .ref b), (1, .ref x), (2, .ref mo)] → W p l e room_1 s m #[Value.ref b] below meth c H locs (66 + 240 * (j + 1)) (67411 + 1200 * (j + 1)) (lw_Z below #[Value.ref b] s) (F0 m 1501 ls [])) :
    ∀ (H : Heap) (Y : xY) (locs : List Loc) (ls : Array Slot) (fv : Nat → Int32) (Kv : Nat → Option (Nat → Int32)) (tv : Nat → Int32) (nv : Int32), x_I D x_G x_Zs s (x_efs xMlaw) z_Y0 s.heap Y H locs → Y x = some 0 → Y mo = some 17 → z_RC D Y H x fv Kv tv nv → z_RM D Y H mo fv Kv tv nv → m_inv2 fv Kv → lv_has ls 4 [(3, .int i), (0, .ref b), (1, .ref x), (2, .ref mo)] → W p l e room_1 s m #[Value.ref b] below meth c H locs (66 + 240 * j) (67411 + 1200 * j) (lw_Z below #[Value.ref b] s) (F0 m 1142 ls []) := by
  have hx := X.1
  have hb := X.2.1
  have hts := X.2.2.2.2.1
  have hY0 : ∀ q u, z_Y0 q = some u → q < s.heap.size := fun q u h => by cases h
  have hbA : ¬ ((∃ t, z_Y0 b = some t) ∨ s.heap.size ≤ b) := fun h => by
    rcases h with ⟨t, h⟩ | h
    · cases h
    · omega
  intro H Y locs ls fv Kv tv nv hI hY_x hY_mo hR hM hv hl
  refine lv_aload_n hx hb la_d1142 rfl (lv_at hl 2 rfl) ?_
  refine lv_aload_n hx hb la_d1143 rfl (lv_at hl 1 rfl) ?_
  refine lv_iload_n hx hb la_d1144 rfl (lv_at hl 0 rfl) ?_
  refine lv_iconst hx hb la_d1145 (v := 1) (by decide) ?_
  have ec1 : (1 : Int32).toInt = 1 := by decide
  refine lv_iadd hx hb la_d1146 ?_
  generalize hg_z1146 : i + (1 : Int32) = z1146
  have h_z1146 : z1146.toInt = i.toInt + 1 := by rw [← hg_z1146]; have := y_add (x := i) (y := (1 : Int32)) (by rw [ec1]; omega) (by rw [ec1]; omega); rw [ec1] at this; exact this
  refine va_sld hx hb hX hbl hbA hI.2.2.2 (z_vpin (by omega) (by omega)) la_d1147 ?_
  obtain ⟨e1147, hg_e1147⟩ : ∃ e1147 : Int32, xs z1146.toNatClampNeg = e1147 := ⟨_, rfl⟩
  rw [hg_e1147]
  refine lv_aload_n hx hb la_d1148 rfl (lv_at hl 1 rfl) ?_
  refine lv_iload_n hx hb la_d1149 rfl (lv_at hl 0 rfl) ?_
  refine lv_iconst hx hb la_d1150 (v := 2) (by decide) ?_
  have ec2 : (2 : Int32).toInt = 2 := by decide
  refine lv_iadd hx hb la_d1151 ?_
  generalize hg_z1151 : i + (2 : Int32) = z1151
  have h_z1151 : z1151.toInt = i.toInt + 2 := by rw [← hg_z1151]; have := y_add (x := i) (y := (2 : Int32)) (by rw [ec2]; omega) (by rw [ec2]; omega); rw [ec2] at this; exact this
  refine va_sld hx hb hX hbl hbA hI.2.2.2 (z_vpin (by omega) (by omega)) la_d1152 ?_
  obtain ⟨e1152, hg_e1152⟩ : ∃ e1152 : Int32, xs z1151.toNatClampNeg = e1152 := ⟨_, rfl⟩
  rw [hg_e1152]
  have hbd := hR.bd hI.1
  refine y_call (z := (0, 134, 3, some 0, xM117)) (av := [.ref x, .int e1147, .int e1152]) (rest := []) (y_cokV (n := 2) (ci := 11) X ym_Treport rfl rfl rfl (x_cons (x_bw55 8 rfl rfl) (x_cons (x_bw55 9 rfl rfl) (x_cons (x_bw55 10 rfl rfl) (x_cons (x_bw0 1 rfl rfl) x_nilm)))) (x_bw55 11 rfl rfl) (by decide +kernel) ⟨Nat.le_of_ble_eq_true rfl, Nat.le_of_ble_eq_true rfl⟩) hY0 hI rfl la_d1153 hl.1 (Nat.le_of_ble_eq_true rfl) (by show (66 + 240 * j) + 0 ≤ 600000; omega) (by show (67411 + 1200 * j) + 0 ≤ 7302250; omega) (y_cons (y_cref hY_x rfl) (y_cons ⟨_, rfl, x_i32 _⟩ (y_cons ⟨_, rfl, x_i32 _⟩ y_nil))) rfl (y_recv rfl hY_x) (fun t' h1 => by cases h1; exact ⟨_, _, _, _, hR⟩) (y_sub_ef (by decide +kernel)) fun v Yn o Hn L_ ho hr ha hIn hx_ hE hP => ?_
  replace hM := hM.E hY_mo hE (fun q u h => y_ext hx_ hI.1 h) (by decide +kernel) (by decide +kernel)
  obtain ⟨rA, gA, hra, hRn, hmA⟩ := hP _ _ _ _ _ _ _ rfl hR
  obtain rfl := hra
  replace hR := hRn
  replace hY_x := y_ext hx_ hI.1 hY_x
  replace hY_mo := y_ext hx_ hI.1 hY_mo
  clear ho hr ha hE hP hI hx_
  rename x_I _ _ _ _ _ _ _ _ _ _ => hI
  refine lv_pop hx hb la_d1156 rfl ?_
  refine lv_aload_n hx hb la_d1157 rfl (lv_at hl 3 rfl) ?_
  refine lv_aload_n hx hb la_d1158 rfl (lv_at hl 1 rfl) ?_
  refine lv_iload_n hx hb la_d1159 rfl (lv_at hl 0 rfl) ?_
  refine lv_iconst hx hb la_d1160 (v := 1) (by decide) ?_
  refine lv_iadd hx hb la_d1161 ?_
  generalize hg_z1161 : i + (1 : Int32) = z1161
  have h_z1161 : z1161.toInt = i.toInt + 1 := by rw [← hg_z1161]; have := y_add (x := i) (y := (1 : Int32)) (by rw [ec1]; omega) (by rw [ec1]; omega); rw [ec1] at this; exact this
  refine va_sld hx hb hX hbl hbA hI.2.2.2 (z_vpin (by omega) (by omega)) la_d1162 ?_
  obtain ⟨e1162, hg_e1162⟩ : ∃ e1162 : Int32, xs z1161.toNatClampNeg = e1162 := ⟨_, rfl⟩
  rw [hg_e1162]
  refine lv_aload_n hx hb la_d1163 rfl (lv_at hl 1 rfl) ?_
  refine lv_iload_n hx hb la_d1164 rfl (lv_at hl 0 rfl) ?_
  refine lv_iconst hx hb la_d1165 (v := 2) (by decide) ?_
  refine lv_iadd hx hb la_d1166 ?_
  generalize hg_z1166 : i + (2 : Int32) = z1166
  have h_z1166 : z1166.toInt = i.toInt + 2 := by rw [← hg_z1166]; have := y_add (x := i) (y := (2 : Int32)) (by rw [ec2]; omega) (by rw [ec2]; omega); rw [ec2] at this; exact this
  refine va_sld hx hb hX hbl hbA hI.2.2.2 (z_vpin (by omega) (by omega)) la_d1167 ?_
  obtain ⟨e1167, hg_e1167⟩ : ∃ e1167 : Int32, xs z1166.toNatClampNeg = e1167 := ⟨_, rfl⟩
  rw [hg_e1167]
  obtain rfl : e1147 = e1162 := by rw [← hg_e1147, ← hg_e1162, ← hg_z1146, ← hg_z1161]
  obtain rfl : e1152 = e1167 := by rw [← hg_e1152, ← hg_e1167, ← hg_z1151, ← hg_z1166]
  refine y_call (z := (0, 137, 3, some 17, xM213)) (av := [.ref mo, .int e1147, .int e1152]) (rest := []) (y_cokV (n := 2) (ci := 12) X ym_reportX rfl rfl rfl (x_cons (x_bw84 5 rfl rfl) (x_cons (x_bw84 6 rfl rfl) (x_cons (x_bw84 7 rfl rfl) (x_cons (x_bw0 9 rfl rfl) x_nilm)))) (x_bw84 8 rfl rfl) (by decide +kernel) ⟨Nat.le_of_ble_eq_true rfl, Nat.le_of_ble_eq_true rfl⟩) hY0 hI rfl la_d1168 hl.1 (Nat.le_of_ble_eq_true rfl) (by show (66 + 240 * j) + 0 + 0 ≤ 600000; omega) (by show (67411 + 1200 * j) + 0 + 0 ≤ 7302250; omega) (y_cons (y_cref hY_mo rfl) (y_cons ⟨_, rfl, x_i32 _⟩ (y_cons ⟨_, rfl, x_i32 _⟩ y_nil))) rfl (y_recv rfl hY_mo) trivial (y_sub_ef (by decide +kernel)) fun v Yn o Hn L_ ho hr ha hIn hx_ hE hP => ?_
  replace hR := hR.E2 hY_x hE (fun q u h => y_ext hx_ hI.1 h) (by decide +kernel)
  obtain ⟨bk9, hb1, hb2, hb3⟩ := hM.bk
  obtain ⟨rB, gB, hrb, hAB, hmB⟩ := hP _ _ _ _ _ rfl hb1 hb2 hb3
  obtain rfl := hrb
  have hi9 := hmA.i01 (fun q9 j hj => by have h9 := q9.1; unfold m_isH at h9; omega) hv.1.1
  have hi8 := hmA.rg (fun q9 => .of (m_T1 _ (by have h8 := hv.2.1.n0; have h9 := q9.1; unfold m_isH at h9; omega)).2.2.2.1 q9.2) hv.2.1
  obtain ⟨w4, w5⟩ := hmA.eq hmB
  subst w4 w5
  replace hM := hM.book hY_mo hE (fun q u h => y_ext hx_ hI.1 h) (by decide +kernel) hR.zc (fun b hb => by cases hb1.symm.trans hb; exact hAB)
  replace hv : m_inv2 _ Kv := ⟨⟨hi9, hv.1.2⟩, hi8, hv.2.2⟩
  replace hY_x := y_ext hx_ hI.1 hY_x
  replace hY_mo := y_ext hx_ hI.1 hY_mo
  clear ho hr ha hE hP hI hx_
  rename x_I _ _ _ _ _ _ _ _ _ _ => hI
  refine lv_pop hx hb la_d1171 rfl ?_
  refine lv_goto hx hb la_d1172 (tgt := 1501) (by decide) ?_
  refine W.widen (k := (66 + 240 * (j + 1))) (n := (67411 + 1200 * (j + 1))) (by show (66 + 240 * j) + 0 + 0 ≤ (66 + 240 * (j + 1)); omega) (by show (67411 + 1200 * j) + 0 + 0 ≤ (67411 + 1200 * (j + 1)); omega) ?_
  exact out _ _ _ _ _ _ _ _ hI hY_x hY_mo hR hM hv (lv_sub hl [0, 1, 2, 3] rfl)
theorem la_c29 {p : Program} {l : Launch} {e : Env} {s : State} {m : MethodId} {below : List Frame} {meth : Method} {c : Code} {D : va_G} {b L : Nat} {xs : Nat → Int32} (X : x_cx p s m #[Value.ref b] c D s xMlaw.2.1 xMlaw.2.2.1 vwCl x_Tb x_Nb "TwinFiresLaw") (hrt : meth.sig.returnType = ret) (hlk : meth.locks = false) (hX : va_X b L xs s s.heap) (hbl : b < s.heap.size) (hL : L ≤ 3072) {x mo : Nat} {i : Int32} {j : Nat} (hi : i.toInt = 6 * (j : Int)) (hj : 6 * j + 6 ≤ L)
    (out : ∀ (H : Heap) (Y : xY) (locs : List Loc) (ls : Array Slot) (fv : Nat → Int32) (Kv : Nat → Option (Nat → Int32)) (tv : Nat → Int32) (nv : Int32), x_I D x_G x_Zs s (x_efs xMlaw) z_Y0 s.heap Y H locs → Y x = some 0 → Y mo = some 17 → z_RC D Y H x fv Kv tv nv → z_RM D Y H mo fv Kv tv nv → m_inv2 fv Kv → lv_has ls 4 [(3, .int i), (0, .ref b), (1, .ref x), (2, .ref mo)] → W p l e room_1 s m #[Value.ref b] below meth c H locs (66 + 240 * (j + 1)) (67411 + 1200 * (j + 1)) (lw_Z below #[Value.ref b] s) (F0 m 1501 ls [])) :
    ∀ (H : Heap) (Y : xY) (locs : List Loc) (ls : Array Slot) (fv : Nat → Int32) (Kv : Nat → Option (Nat → Int32)) (tv : Nat → Int32) (nv : Int32), x_I D x_G x_Zs s (x_efs xMlaw) z_Y0 s.heap Y H locs → Y x = some 0 → Y mo = some 17 → z_RC D Y H x fv Kv tv nv → z_RM D Y H mo fv Kv tv nv → m_inv2 fv Kv → lv_has ls 4 [(3, .int i), (0, .ref b), (1, .ref x), (2, .ref mo)] → W p l e room_1 s m #[Value.ref b] below meth c H locs (66 + 240 * j) (67411 + 1200 * j) (lw_Z below #[Value.ref b] s) (F0 m 1175 ls []) := by
  have hx := X.1
  have hb := X.2.1
  have hts := X.2.2.2.2.1
  have hY0 : ∀ q u, z_Y0 q = some u → q < s.heap.size := fun q u h => by cases h
  have hbA : ¬ ((∃ t, z_Y0 b = some t) ∨ s.heap.size ≤ b) := fun h => by
    rcases h with ⟨t, h⟩ | h
    · cases h
    · omega
  intro H Y locs ls fv Kv tv nv hI hY_x hY_mo hR hM hv hl
  refine lv_aload_n hx hb la_d1175 rfl (lv_at hl 2 rfl) ?_
  refine lv_aload_n hx hb la_d1176 rfl (lv_at hl 1 rfl) ?_
  refine lv_iload_n hx hb la_d1177 rfl (lv_at hl 0 rfl) ?_
  refine lv_iconst hx hb la_d1178 (v := 1) (by decide) ?_
  have ec1 : (1 : Int32).toInt = 1 := by decide
  refine lv_iadd hx hb la_d1179 ?_
  generalize hg_z1179 : i + (1 : Int32) = z1179
  have h_z1179 : z1179.toInt = i.toInt + 1 := by rw [← hg_z1179]; have := y_add (x := i) (y := (1 : Int32)) (by rw [ec1]; omega) (by rw [ec1]; omega); rw [ec1] at this; exact this
  refine va_sld hx hb hX hbl hbA hI.2.2.2 (z_vpin (by omega) (by omega)) la_d1180 ?_
  obtain ⟨e1180, hg_e1180⟩ : ∃ e1180 : Int32, xs z1179.toNatClampNeg = e1180 := ⟨_, rfl⟩
  rw [hg_e1180]
  refine lv_aload_n hx hb la_d1181 rfl (lv_at hl 1 rfl) ?_
  refine lv_iload_n hx hb la_d1182 rfl (lv_at hl 0 rfl) ?_
  refine lv_iconst hx hb la_d1183 (v := 2) (by decide) ?_
  have ec2 : (2 : Int32).toInt = 2 := by decide
  refine lv_iadd hx hb la_d1184 ?_
  generalize hg_z1184 : i + (2 : Int32) = z1184
  have h_z1184 : z1184.toInt = i.toInt + 2 := by rw [← hg_z1184]; have := y_add (x := i) (y := (2 : Int32)) (by rw [ec2]; omega) (by rw [ec2]; omega); rw [ec2] at this; exact this
  refine va_sld hx hb hX hbl hbA hI.2.2.2 (z_vpin (by omega) (by omega)) la_d1185 ?_
  obtain ⟨e1185, hg_e1185⟩ : ∃ e1185 : Int32, xs z1184.toNatClampNeg = e1185 := ⟨_, rfl⟩
  rw [hg_e1185]
  have hbd := hR.bd hI.1
  refine y_call (z := (0, 138, 3, some 0, xM118)) (av := [.ref x, .int e1180, .int e1185]) (rest := []) (y_cokV (n := 2) (ci := 11) X ym_Tblame rfl rfl rfl (x_cons (x_bw55 12 rfl rfl) (x_cons (x_bw55 13 rfl rfl) (x_cons (x_bw55 14 rfl rfl) (x_cons (x_bw0 1 rfl rfl) x_nilm)))) (x_bw55 15 rfl rfl) (by decide +kernel) ⟨Nat.le_of_ble_eq_true rfl, Nat.le_of_ble_eq_true rfl⟩) hY0 hI rfl la_d1186 hl.1 (Nat.le_of_ble_eq_true rfl) (by show (66 + 240 * j) + 0 ≤ 600000; omega) (by show (67411 + 1200 * j) + 0 ≤ 7302250; omega) (y_cons (y_cref hY_x rfl) (y_cons ⟨_, rfl, x_i32 _⟩ (y_cons ⟨_, rfl, x_i32 _⟩ y_nil))) rfl (y_recv rfl hY_x) (fun t' h1 => by cases h1; exact ⟨_, _, _, _, hR⟩) (y_sub_ef (by decide +kernel)) fun v Yn o Hn L_ ho hr ha hIn hx_ hE hP => ?_
  replace hM := hM.E hY_mo hE (fun q u h => y_ext hx_ hI.1 h) (by decide +kernel) (by decide +kernel)
  obtain ⟨rA, gA, hra, hRn, hmA⟩ := hP _ _ _ _ _ _ _ rfl hR
  obtain rfl := hra
  replace hR := hRn
  replace hY_x := y_ext hx_ hI.1 hY_x
  replace hY_mo := y_ext hx_ hI.1 hY_mo
  clear ho hr ha hE hP hI hx_
  rename x_I _ _ _ _ _ _ _ _ _ _ => hI
  refine lv_pop hx hb la_d1189 rfl ?_
  refine lv_aload_n hx hb la_d1190 rfl (lv_at hl 3 rfl) ?_
  refine lv_aload_n hx hb la_d1191 rfl (lv_at hl 1 rfl) ?_
  refine lv_iload_n hx hb la_d1192 rfl (lv_at hl 0 rfl) ?_
  refine lv_iconst hx hb la_d1193 (v := 1) (by decide) ?_
  refine lv_iadd hx hb la_d1194 ?_
  generalize hg_z1194 : i + (1 : Int32) = z1194
  have h_z1194 : z1194.toInt = i.toInt + 1 := by rw [← hg_z1194]; have := y_add (x := i) (y := (1 : Int32)) (by rw [ec1]; omega) (by rw [ec1]; omega); rw [ec1] at this; exact this
  refine va_sld hx hb hX hbl hbA hI.2.2.2 (z_vpin (by omega) (by omega)) la_d1195 ?_
  obtain ⟨e1195, hg_e1195⟩ : ∃ e1195 : Int32, xs z1194.toNatClampNeg = e1195 := ⟨_, rfl⟩
  rw [hg_e1195]
  refine lv_aload_n hx hb la_d1196 rfl (lv_at hl 1 rfl) ?_
  refine lv_iload_n hx hb la_d1197 rfl (lv_at hl 0 rfl) ?_
  refine lv_iconst hx hb la_d1198 (v := 2) (by decide) ?_
  refine lv_iadd hx hb la_d1199 ?_
  generalize hg_z1199 : i + (2 : Int32) = z1199
  have h_z1199 : z1199.toInt = i.toInt + 2 := by rw [← hg_z1199]; have := y_add (x := i) (y := (2 : Int32)) (by rw [ec2]; omega) (by rw [ec2]; omega); rw [ec2] at this; exact this
  refine va_sld hx hb hX hbl hbA hI.2.2.2 (z_vpin (by omega) (by omega)) la_d1200 ?_
  obtain ⟨e1200, hg_e1200⟩ : ∃ e1200 : Int32, xs z1199.toNatClampNeg = e1200 := ⟨_, rfl⟩
  rw [hg_e1200]
  obtain rfl : e1180 = e1195 := by rw [← hg_e1180, ← hg_e1195, ← hg_z1179, ← hg_z1194]
  obtain rfl : e1185 = e1200 := by rw [← hg_e1185, ← hg_e1200, ← hg_z1184, ← hg_z1199]
  refine y_call (z := (0, 141, 3, some 17, xM214)) (av := [.ref mo, .int e1180, .int e1185]) (rest := []) (y_cokV (n := 2) (ci := 12) X ym_blameX rfl rfl rfl (x_cons (x_bw84 9 rfl rfl) (x_cons (x_bw84 10 rfl rfl) (x_cons (x_bw84 11 rfl rfl) (x_cons (x_bw0 9 rfl rfl) x_nilm)))) (x_bw84 12 rfl rfl) (by decide +kernel) ⟨Nat.le_of_ble_eq_true rfl, Nat.le_of_ble_eq_true rfl⟩) hY0 hI rfl la_d1201 hl.1 (Nat.le_of_ble_eq_true rfl) (by show (66 + 240 * j) + 0 + 0 ≤ 600000; omega) (by show (67411 + 1200 * j) + 0 + 0 ≤ 7302250; omega) (y_cons (y_cref hY_mo rfl) (y_cons ⟨_, rfl, x_i32 _⟩ (y_cons ⟨_, rfl, x_i32 _⟩ y_nil))) rfl (y_recv rfl hY_mo) trivial (y_sub_ef (by decide +kernel)) fun v Yn o Hn L_ ho hr ha hIn hx_ hE hP => ?_
  replace hR := hR.E2 hY_x hE (fun q u h => y_ext hx_ hI.1 h) (by decide +kernel)
  obtain ⟨bk9, hb1, hb2, hb3⟩ := hM.bk
  obtain ⟨rB, gB, hrb, hAB, hmB⟩ := hP _ _ _ _ _ rfl hb1 hb2 hb3
  obtain rfl := hrb
  have hi9 := hmA.i01 (fun q9 j hj => by have h9 := q9.1; unfold m_isH at h9; omega) hv.1.1
  have hi8 := hmA.rg (fun q9 => .of (m_T1 _ (by have h8 := hv.2.1.n0; have h9 := q9.1; unfold m_isH at h9; omega)).2.2.2.2 q9.2) hv.2.1
  obtain ⟨w4, w5⟩ := hmA.eq hmB
  subst w4 w5
  replace hM := hM.book hY_mo hE (fun q u h => y_ext hx_ hI.1 h) (by decide +kernel) hR.zc (fun b hb => by cases hb1.symm.trans hb; exact hAB)
  replace hv : m_inv2 _ Kv := ⟨⟨hi9, hv.1.2⟩, hi8, hv.2.2⟩
  replace hY_x := y_ext hx_ hI.1 hY_x
  replace hY_mo := y_ext hx_ hI.1 hY_mo
  clear ho hr ha hE hP hI hx_
  rename x_I _ _ _ _ _ _ _ _ _ _ => hI
  refine lv_pop hx hb la_d1204 rfl ?_
  refine lv_goto hx hb la_d1205 (tgt := 1501) (by decide) ?_
  refine W.widen (k := (66 + 240 * (j + 1))) (n := (67411 + 1200 * (j + 1))) (by show (66 + 240 * j) + 0 + 0 ≤ (66 + 240 * (j + 1)); omega) (by show (67411 + 1200 * j) + 0 + 0 ≤ (67411 + 1200 * (j + 1)); omega) ?_
  exact out _ _ _ _ _ _ _ _ hI hY_x hY_mo hR hM hv (lv_sub hl [0, 1, 2, 3] rfl)
theorem la_c30 {p : Program} {l : Launch} {e : Env} {s : State} {m : MethodId} {below : List Frame} {meth : Method} {c : Code} {D : va_G} {b L : Nat} {xs : Nat → Int32} (X : x_cx p s m #[Value.ref b] c D s xMlaw.2.1 xMlaw.2.2.1 vwCl x_Tb x_Nb "TwinFiresLaw") (hrt : meth.sig.returnType = ret) (hlk : meth.locks = false) (hX : va_X b L xs s s.heap) (hbl : b < s.heap.size) (hL : L ≤ 3072) {x mo : Nat} {i : Int32} {j : Nat} (hi : i.toInt = 6 * (j : Int)) (hj : 6 * j + 6 ≤ L)
    (out : ∀ (H : Heap) (Y : xY) (locs : List Loc) (ls : Array Slot) (fv : Nat → Int32) (Kv : Nat → Option (Nat → Int32)) (tv : Nat → Int32) (nv : Int32), x_I D x_G x_Zs s (x_efs xMlaw) z_Y0 s.heap Y H locs → Y x = some 0 → Y mo = some 17 → z_RC D Y H x fv Kv tv nv → z_RM D Y H mo fv Kv tv nv → m_inv2 fv Kv → lv_has ls 4 [(3, .int i), (0, .ref b), (1, .ref x), (2, .ref mo)] → W p l e room_1 s m #[Value.ref b] below meth c H locs (66 + 240 * (j + 1)) (67411 + 1200 * (j + 1)) (lw_Z below #[Value.ref b] s) (F0 m 1501 ls [])) :
    ∀ (H : Heap) (Y : xY) (locs : List Loc) (ls : Array Slot) (fv : Nat → Int32) (Kv : Nat → Option (Nat → Int32)) (tv : Nat → Int32) (nv : Int32), x_I D x_G x_Zs s (x_efs xMlaw) z_Y0 s.heap Y H locs → Y x = some 0 → Y mo = some 17 → z_RC D Y H x fv Kv tv nv → z_RM D Y H mo fv Kv tv nv → m_inv2 fv Kv → lv_has ls 4 [(3, .int i), (0, .ref b), (1, .ref x), (2, .ref mo)] → W p l e room_1 s m #[Value.ref b] below meth c H locs (66 + 240 * j) (67411 + 1200 * j) (lw_Z below #[Value.ref b] s) (F0 m 1208 ls []) := by
  have hx := X.1
  have hb := X.2.1
  have hts := X.2.2.2.2.1
  have hY0 : ∀ q u, z_Y0 q = some u → q < s.heap.size := fun q u h => by cases h
  have hbA : ¬ ((∃ t, z_Y0 b = some t) ∨ s.heap.size ≤ b) := fun h => by
    rcases h with ⟨t, h⟩ | h
    · cases h
    · omega
  intro H Y locs ls fv Kv tv nv hI hY_x hY_mo hR hM hv hl
  refine lv_aload_n hx hb la_d1208 rfl (lv_at hl 2 rfl) ?_
  refine lv_aload_n hx hb la_d1209 rfl (lv_at hl 1 rfl) ?_
  refine lv_iload_n hx hb la_d1210 rfl (lv_at hl 0 rfl) ?_
  refine lv_iconst hx hb la_d1211 (v := 1) (by decide) ?_
  have ec1 : (1 : Int32).toInt = 1 := by decide
  refine lv_iadd hx hb la_d1212 ?_
  generalize hg_z1212 : i + (1 : Int32) = z1212
  have h_z1212 : z1212.toInt = i.toInt + 1 := by rw [← hg_z1212]; have := y_add (x := i) (y := (1 : Int32)) (by rw [ec1]; omega) (by rw [ec1]; omega); rw [ec1] at this; exact this
  refine va_sld hx hb hX hbl hbA hI.2.2.2 (z_vpin (by omega) (by omega)) la_d1213 ?_
  obtain ⟨e1213, hg_e1213⟩ : ∃ e1213 : Int32, xs z1212.toNatClampNeg = e1213 := ⟨_, rfl⟩
  rw [hg_e1213]
  refine y_call (z := (0, 142, 2, some 0, xM122)) (av := [.ref x, .int e1213]) (rest := []) (y_cok.of (x_cokV (n := 1) (ci := 11) X xm122 rfl rfl rfl (x_cons (x_bw56 0 rfl rfl) (x_cons (x_bw56 1 rfl rfl) (x_cons (x_bw56 2 rfl rfl) (x_cons (x_bw0 1 rfl rfl) x_nilm)))) (x_bw56 3 rfl rfl) (by decide +kernel) ⟨Nat.le_of_ble_eq_true rfl, Nat.le_of_ble_eq_true rfl⟩)) hY0 hI rfl la_d1214 hl.1 (Nat.le_of_ble_eq_true rfl) (by show (66 + 240 * j) + 0 ≤ 600000; omega) (by show (67411 + 1200 * j) + 0 ≤ 7302250; omega) (y_cons (y_cref hY_x rfl) (y_cons ⟨_, rfl, x_i32 _⟩ y_nil)) rfl (y_recv rfl hY_x) trivial (y_sub_ef (by decide +kernel)) fun v Yn o Hn L_ ho hr ha hIn hx_ hE hP => ?_
  replace hM := hM.E hY_mo hE (fun q u h => y_ext hx_ hI.1 h) (by decide +kernel) (by decide +kernel)
  replace hR := hR.E2 hY_x hE (fun q u h => y_ext hx_ hI.1 h) (by decide +kernel)
  replace hY_x := y_ext hx_ hI.1 hY_x
  replace hY_mo := y_ext hx_ hI.1 hY_mo
  obtain ⟨r1214, rfl, h_r1214⟩ := y_ansI (lo := (-2147483648)) (hi := 2147483647) (by decide) ho hr
  clear ho hr ha hE hP hI hx_
  rename x_I _ _ _ _ _ _ _ _ _ _ => hI
  refine lv_pop hx hb la_d1217 rfl ?_
  refine lv_aload_n hx hb la_d1218 rfl (lv_at hl 3 rfl) ?_
  refine lv_aload_n hx hb la_d1219 rfl (lv_at hl 1 rfl) ?_
  refine lv_iload_n hx hb la_d1220 rfl (lv_at hl 0 rfl) ?_
  refine lv_iconst hx hb la_d1221 (v := 1) (by decide) ?_
  refine lv_iadd hx hb la_d1222 ?_
  generalize hg_z1222 : i + (1 : Int32) = z1222
  have h_z1222 : z1222.toInt = i.toInt + 1 := by rw [← hg_z1222]; have := y_add (x := i) (y := (1 : Int32)) (by rw [ec1]; omega) (by rw [ec1]; omega); rw [ec1] at this; exact this
  refine va_sld hx hb hX hbl hbA hI.2.2.2 (z_vpin (by omega) (by omega)) la_d1223 ?_
  obtain ⟨e1223, hg_e1223⟩ : ∃ e1223 : Int32, xs z1222.toNatClampNeg = e1223 := ⟨_, rfl⟩
  rw [hg_e1223]
  refine y_call (z := (0, 145, 2, some 17, xM217)) (av := [.ref mo, .int e1223]) (rest := []) (y_cok.of (x_cokV (n := 1) (ci := 12) X xm217 rfl rfl rfl (x_cons (x_bw84 13 rfl rfl) (x_cons (x_bw84 14 rfl rfl) (x_cons (x_bw84 15 rfl rfl) (x_cons (x_bw0 9 rfl rfl) x_nilm)))) (x_bw85 0 rfl rfl) (by decide +kernel) ⟨Nat.le_of_ble_eq_true rfl, Nat.le_of_ble_eq_true rfl⟩)) hY0 hI rfl la_d1224 hl.1 (Nat.le_of_ble_eq_true rfl) (by show (66 + 240 * j) + 0 + 0 ≤ 600000; omega) (by show (67411 + 1200 * j) + 0 + 0 ≤ 7302250; omega) (y_cons (y_cref hY_mo rfl) (y_cons ⟨_, rfl, x_i32 _⟩ y_nil)) rfl (y_recv rfl hY_mo) trivial (y_sub_ef (by decide +kernel)) fun v Yn o Hn L_ ho hr ha hIn hx_ hE hP => ?_
  replace hR := hR.E2 hY_x hE (fun q u h => y_ext hx_ hI.1 h) (by decide +kernel)
  replace hM := hM.E hY_mo hE (fun q u h => y_ext hx_ hI.1 h) (by decide +kernel) (by decide +kernel)
  replace hY_x := y_ext hx_ hI.1 hY_x
  replace hY_mo := y_ext hx_ hI.1 hY_mo
  obtain ⟨r1224, rfl, h_r1224⟩ := y_ansI (lo := (-2147483648)) (hi := 2147483647) (by decide) ho hr
  clear ho hr ha hE hP hI hx_
  rename x_I _ _ _ _ _ _ _ _ _ _ => hI
  refine lv_pop hx hb la_d1227 rfl ?_
  refine lv_goto hx hb la_d1228 (tgt := 1501) (by decide) ?_
  refine W.widen (k := (66 + 240 * (j + 1))) (n := (67411 + 1200 * (j + 1))) (by show (66 + 240 * j) + 0 + 0 ≤ (66 + 240 * (j + 1)); omega) (by show (67411 + 1200 * j) + 0 + 0 ≤ (67411 + 1200 * (j + 1)); omega) ?_
  exact out _ _ _ _ _ _ _ _ hI hY_x hY_mo hR hM hv (lv_sub hl [0, 1, 2, 3] rfl)
theorem la_c31 {p : Program} {l : Launch} {e : Env} {s : State} {m : MethodId} {below : List Frame} {meth : Method} {c : Code} {D : va_G} {b L : Nat} {xs : Nat → Int32} (X : x_cx p s m #[Value.ref b] c D s xMlaw.2.1 xMlaw.2.2.1 vwCl x_Tb x_Nb "TwinFiresLaw") (hrt : meth.sig.returnType = ret) (hlk : meth.locks = false) (hX : va_X b L xs s s.heap) (hbl : b < s.heap.size) (hL : L ≤ 3072) {x mo : Nat} {i : Int32} {j : Nat} (hi : i.toInt = 6 * (j : Int)) (hj : 6 * j + 6 ≤ L)
    (out : ∀ (H : Heap) (Y : xY) (locs : List Loc) (ls : Array Slot) (fv : Nat → Int32) (Kv : Nat → Option (Nat → Int32)) (tv : Nat → Int32) (nv : Int32), x_I D x_G x_Zs s (x_efs xMlaw) z_Y0 s.heap Y H locs → Y x = some 0 → Y mo = some 17 → z_RC D Y H x fv Kv tv nv → z_RM D Y H mo fv Kv tv nv → m_inv2 fv Kv → lv_has ls 4 [(3, .int i), (0, .ref b), (1, .ref x), (2, .ref mo)] → W p l e room_1 s m #[Value.ref b] below meth c H locs (66 + 240 * (j + 1)) (67411 + 1200 * (j + 1)) (lw_Z below #[Value.ref b] s) (F0 m 1501 ls [])) :
    ∀ (H : Heap) (Y : xY) (locs : List Loc) (ls : Array Slot) (fv : Nat → Int32) (Kv : Nat → Option (Nat → Int32)) (tv : Nat → Int32) (nv : Int32), x_I D x_G x_Zs s (x_efs xMlaw) z_Y0 s.heap Y H locs → Y x = some 0 → Y mo = some 17 → z_RC D Y H x fv Kv tv nv → z_RM D Y H mo fv Kv tv nv → m_inv2 fv Kv → lv_has ls 4 [(3, .int i), (0, .ref b), (1, .ref x), (2, .ref mo)] → W p l e room_1 s m #[Value.ref b] below meth c H locs (66 + 240 * j) (67411 + 1200 * j) (lw_Z below #[Value.ref b] s) (F0 m 1231 ls []) := by
  have hx := X.1
  have hb := X.2.1
  have hts := X.2.2.2.2.1
  have hY0 : ∀ q u, z_Y0 q = some u → q < s.heap.size := fun q u h => by cases h
  have hbA : ¬ ((∃ t, z_Y0 b = some t) ∨ s.heap.size ≤ b) := fun h => by
    rcases h with ⟨t, h⟩ | h
    · cases h
    · omega
  intro H Y locs ls fv Kv tv nv hI hY_x hY_mo hR hM hv hl
  refine lv_aload_n hx hb la_d1231 rfl (lv_at hl 2 rfl) ?_
  refine lv_aload_n hx hb la_d1232 rfl (lv_at hl 1 rfl) ?_
  refine lv_iload_n hx hb la_d1233 rfl (lv_at hl 0 rfl) ?_
  refine lv_iconst hx hb la_d1234 (v := 1) (by decide) ?_
  have ec1 : (1 : Int32).toInt = 1 := by decide
  refine lv_iadd hx hb la_d1235 ?_
  generalize hg_z1235 : i + (1 : Int32) = z1235
  have h_z1235 : z1235.toInt = i.toInt + 1 := by rw [← hg_z1235]; have := y_add (x := i) (y := (1 : Int32)) (by rw [ec1]; omega) (by rw [ec1]; omega); rw [ec1] at this; exact this
  refine va_sld hx hb hX hbl hbA hI.2.2.2 (z_vpin (by omega) (by omega)) la_d1236 ?_
  obtain ⟨e1236, hg_e1236⟩ : ∃ e1236 : Int32, xs z1235.toNatClampNeg = e1236 := ⟨_, rfl⟩
  rw [hg_e1236]
  refine lv_aload_n hx hb la_d1237 rfl (lv_at hl 1 rfl) ?_
  refine lv_iload_n hx hb la_d1238 rfl (lv_at hl 0 rfl) ?_
  refine lv_iconst hx hb la_d1239 (v := 2) (by decide) ?_
  have ec2 : (2 : Int32).toInt = 2 := by decide
  refine lv_iadd hx hb la_d1240 ?_
  generalize hg_z1240 : i + (2 : Int32) = z1240
  have h_z1240 : z1240.toInt = i.toInt + 2 := by rw [← hg_z1240]; have := y_add (x := i) (y := (2 : Int32)) (by rw [ec2]; omega) (by rw [ec2]; omega); rw [ec2] at this; exact this
  refine va_sld hx hb hX hbl hbA hI.2.2.2 (z_vpin (by omega) (by omega)) la_d1241 ?_
  obtain ⟨e1241, hg_e1241⟩ : ∃ e1241 : Int32, xs z1240.toNatClampNeg = e1241 := ⟨_, rfl⟩
  rw [hg_e1241]
  refine y_call (z := (0, 146, 3, some 0, xM123)) (av := [.ref x, .int e1236, .int e1241]) (rest := []) (y_cok.of (x_cokV (n := 2) (ci := 11) X xm123 rfl rfl rfl (x_cons (x_bw57 1 rfl rfl) (x_cons (x_bw57 2 rfl rfl) (x_cons (x_bw57 3 rfl rfl) (x_cons (x_bw0 1 rfl rfl) x_nilm)))) (x_bw57 4 rfl rfl) (by decide +kernel) ⟨Nat.le_of_ble_eq_true rfl, Nat.le_of_ble_eq_true rfl⟩)) hY0 hI rfl la_d1242 hl.1 (Nat.le_of_ble_eq_true rfl) (by show (66 + 240 * j) + 0 ≤ 600000; omega) (by show (67411 + 1200 * j) + 0 ≤ 7302250; omega) (y_cons (y_cref hY_x rfl) (y_cons ⟨_, rfl, x_i32 _⟩ (y_cons ⟨_, rfl, x_i32 _⟩ y_nil))) rfl (y_recv rfl hY_x) trivial (y_sub_ef (by decide +kernel)) fun v Yn o Hn L_ ho hr ha hIn hx_ hE hP => ?_
  replace hM := hM.E hY_mo hE (fun q u h => y_ext hx_ hI.1 h) (by decide +kernel) (by decide +kernel)
  replace hR := hR.E2 hY_x hE (fun q u h => y_ext hx_ hI.1 h) (by decide +kernel)
  replace hY_x := y_ext hx_ hI.1 hY_x
  replace hY_mo := y_ext hx_ hI.1 hY_mo
  obtain ⟨r1242, rfl, h_r1242⟩ := y_ansI (lo := (-2147483648)) (hi := 2147483647) (by decide) ho hr
  clear ho hr ha hE hP hI hx_
  rename x_I _ _ _ _ _ _ _ _ _ _ => hI
  refine lv_pop hx hb la_d1245 rfl ?_
  refine lv_aload_n hx hb la_d1246 rfl (lv_at hl 3 rfl) ?_
  refine lv_aload_n hx hb la_d1247 rfl (lv_at hl 1 rfl) ?_
  refine lv_iload_n hx hb la_d1248 rfl (lv_at hl 0 rfl) ?_
  refine lv_iconst hx hb la_d1249 (v := 1) (by decide) ?_
  refine lv_iadd hx hb la_d1250 ?_
  generalize hg_z1250 : i + (1 : Int32) = z1250
  have h_z1250 : z1250.toInt = i.toInt + 1 := by rw [← hg_z1250]; have := y_add (x := i) (y := (1 : Int32)) (by rw [ec1]; omega) (by rw [ec1]; omega); rw [ec1] at this; exact this
  refine va_sld hx hb hX hbl hbA hI.2.2.2 (z_vpin (by omega) (by omega)) la_d1251 ?_
  obtain ⟨e1251, hg_e1251⟩ : ∃ e1251 : Int32, xs z1250.toNatClampNeg = e1251 := ⟨_, rfl⟩
  rw [hg_e1251]
  refine lv_aload_n hx hb la_d1252 rfl (lv_at hl 1 rfl) ?_
  refine lv_iload_n hx hb la_d1253 rfl (lv_at hl 0 rfl) ?_
  refine lv_iconst hx hb la_d1254 (v := 2) (by decide) ?_
  refine lv_iadd hx hb la_d1255 ?_
  generalize hg_z1255 : i + (2 : Int32) = z1255
  have h_z1255 : z1255.toInt = i.toInt + 2 := by rw [← hg_z1255]; have := y_add (x := i) (y := (2 : Int32)) (by rw [ec2]; omega) (by rw [ec2]; omega); rw [ec2] at this; exact this
  refine va_sld hx hb hX hbl hbA hI.2.2.2 (z_vpin (by omega) (by omega)) la_d1256 ?_
  obtain ⟨e1256, hg_e1256⟩ : ∃ e1256 : Int32, xs z1255.toNatClampNeg = e1256 := ⟨_, rfl⟩
  rw [hg_e1256]
  refine y_call (z := (0, 149, 3, some 17, xMch)) (av := [.ref mo, .int e1251, .int e1256]) (rest := []) (y_cokV (n := 2) (ci := 12) X ym_chance rfl rfl rfl (x_cons (x_bw85 9 rfl rfl) (x_cons (x_bw85 10 rfl rfl) (x_cons (x_bw85 11 rfl rfl) (x_cons (x_bw0 9 rfl rfl) x_nilm)))) (x_bw85 12 rfl rfl) (by decide +kernel) ⟨Nat.le_of_ble_eq_true rfl, Nat.le_of_ble_eq_true rfl⟩) hY0 hI rfl la_d1257 hl.1 (Nat.le_of_ble_eq_true rfl) (by show (66 + 240 * j) + 0 + 0 ≤ 600000; omega) (by show (67411 + 1200 * j) + 0 + 0 ≤ 7302250; omega) (y_cons (y_cref hY_mo rfl) (y_cons ⟨_, rfl, x_i32 _⟩ (y_cons ⟨_, rfl, x_i32 _⟩ y_nil))) rfl (y_recv rfl hY_mo) trivial (y_sub_ef (by decide +kernel)) fun v Yn o Hn L_ ho hr ha hIn hx_ hE hP => ?_
  replace hR := hR.E2 hY_x hE (fun q u h => y_ext hx_ hI.1 h) (by decide +kernel)
  replace hM := hM.E hY_mo hE (fun q u h => y_ext hx_ hI.1 h) (by decide +kernel) (by decide +kernel)
  replace hY_x := y_ext hx_ hI.1 hY_x
  replace hY_mo := y_ext hx_ hI.1 hY_mo
  obtain ⟨r1257, rfl, h_r1257⟩ := y_ansI (lo := (-2147483648)) (hi := 2147483647) (by decide) ho hr
  clear ho hr ha hE hP hI hx_
  rename x_I _ _ _ _ _ _ _ _ _ _ => hI
  refine lv_pop hx hb la_d1260 rfl ?_
  refine lv_goto hx hb la_d1261 (tgt := 1501) (by decide) ?_
  refine W.widen (k := (66 + 240 * (j + 1))) (n := (67411 + 1200 * (j + 1))) (by show (66 + 240 * j) + 0 + 0 ≤ (66 + 240 * (j + 1)); omega) (by show (67411 + 1200 * j) + 0 + 0 ≤ (67411 + 1200 * (j + 1)); omega) ?_
  exact out _ _ _ _ _ _ _ _ hI hY_x hY_mo hR hM hv (lv_sub hl [0, 1, 2, 3] rfl)
theorem la_c32 {p : Program} {l : Launch} {e : Env} {s : State} {m : MethodId} {below : List Frame} {meth : Method} {c : Code} {D : va_G} {b L : Nat} {xs : Nat → Int32} (X : x_cx p s m #[Value.ref b] c D s xMlaw.2.1 xMlaw.2.2.1 vwCl x_Tb x_Nb "TwinFiresLaw") (hrt : meth.sig.returnType = ret) (hlk : meth.locks = false) (hX : va_X b L xs s s.heap) (hbl : b < s.heap.size) (hL : L ≤ 3072) {x mo : Nat} {i : Int32} {j : Nat} (hi : i.toInt = 6 * (j : Int)) (hj : 6 * j + 6 ≤ L)
    (out : ∀ (H : Heap) (Y : xY) (locs : List Loc) (ls : Array Slot) (fv : Nat → Int32) (Kv : Nat → Option (Nat → Int32)) (tv : Nat → Int32) (nv : Int32), x_I D x_G x_Zs s (x_efs xMlaw) z_Y0 s.heap Y H locs → Y x = some 0 → Y mo = some 17 → z_RC D Y H x fv Kv tv nv → z_RM D Y H mo fv Kv tv nv → m_inv2 fv Kv → lv_has ls 4 [(3, .int i), (0, .ref b), (1, .ref x), (2, .ref mo)] → W p l e room_1 s m #[Value.ref b] below meth c H locs (66 + 240 * (j + 1)) (67411 + 1200 * (j + 1)) (lw_Z below #[Value.ref b] s) (F0 m 1501 ls [])) :
    ∀ (H : Heap) (Y : xY) (locs : List Loc) (ls : Array Slot) (fv : Nat → Int32) (Kv : Nat → Option (Nat → Int32)) (tv : Nat → Int32) (nv : Int32), x_I D x_G x_Zs s (x_efs xMlaw) z_Y0 s.heap Y H locs → Y x = some 0 → Y mo = some 17 → z_RC D Y H x fv Kv tv nv → z_RM D Y H mo fv Kv tv nv → m_inv2 fv Kv → lv_has ls 4 [(3, .int i), (0, .ref b), (1, .ref x), (2, .ref mo)] → W p l e room_1 s m #[Value.ref b] below meth c H locs (66 + 240 * j) (67411 + 1200 * j) (lw_Z below #[Value.ref b] s) (F0 m 1264 ls []) := by
  have hx := X.1
  have hb := X.2.1
  have hts := X.2.2.2.2.1
  have hY0 : ∀ q u, z_Y0 q = some u → q < s.heap.size := fun q u h => by cases h
  have hbA : ¬ ((∃ t, z_Y0 b = some t) ∨ s.heap.size ≤ b) := fun h => by
    rcases h with ⟨t, h⟩ | h
    · cases h
    · omega
  intro H Y locs ls fv Kv tv nv hI hY_x hY_mo hR hM hv hl
  refine lv_aload_n hx hb la_d1264 rfl (lv_at hl 2 rfl) ?_
  refine lv_aload_n hx hb la_d1265 rfl (lv_at hl 1 rfl) ?_
  refine lv_iload_n hx hb la_d1266 rfl (lv_at hl 0 rfl) ?_
  refine lv_iconst hx hb la_d1267 (v := 1) (by decide) ?_
  have ec1 : (1 : Int32).toInt = 1 := by decide
  refine lv_iadd hx hb la_d1268 ?_
  generalize hg_z1268 : i + (1 : Int32) = z1268
  have h_z1268 : z1268.toInt = i.toInt + 1 := by rw [← hg_z1268]; have := y_add (x := i) (y := (1 : Int32)) (by rw [ec1]; omega) (by rw [ec1]; omega); rw [ec1] at this; exact this
  refine va_sld hx hb hX hbl hbA hI.2.2.2 (z_vpin (by omega) (by omega)) la_d1269 ?_
  obtain ⟨e1269, hg_e1269⟩ : ∃ e1269 : Int32, xs z1268.toNatClampNeg = e1269 := ⟨_, rfl⟩
  rw [hg_e1269]
  refine lv_aload_n hx hb la_d1270 rfl (lv_at hl 1 rfl) ?_
  refine lv_iload_n hx hb la_d1271 rfl (lv_at hl 0 rfl) ?_
  refine lv_iconst hx hb la_d1272 (v := 2) (by decide) ?_
  have ec2 : (2 : Int32).toInt = 2 := by decide
  refine lv_iadd hx hb la_d1273 ?_
  generalize hg_z1273 : i + (2 : Int32) = z1273
  have h_z1273 : z1273.toInt = i.toInt + 2 := by rw [← hg_z1273]; have := y_add (x := i) (y := (2 : Int32)) (by rw [ec2]; omega) (by rw [ec2]; omega); rw [ec2] at this; exact this
  refine va_sld hx hb hX hbl hbA hI.2.2.2 (z_vpin (by omega) (by omega)) la_d1274 ?_
  obtain ⟨e1274, hg_e1274⟩ : ∃ e1274 : Int32, xs z1273.toNatClampNeg = e1274 := ⟨_, rfl⟩
  rw [hg_e1274]
  refine y_call (z := (0, 150, 3, some 0, xM125)) (av := [.ref x, .int e1269, .int e1274]) (rest := []) (y_cok.of (x_cokV (n := 2) (ci := 11) X xm125 rfl rfl rfl (x_cons (x_bw57 5 rfl rfl) (x_cons (x_bw57 6 rfl rfl) (x_cons (x_bw57 7 rfl rfl) (x_cons (x_bw0 1 rfl rfl) x_nilm)))) (x_bw57 8 rfl rfl) (by decide +kernel) ⟨Nat.le_of_ble_eq_true rfl, Nat.le_of_ble_eq_true rfl⟩)) hY0 hI rfl la_d1275 hl.1 (Nat.le_of_ble_eq_true rfl) (by show (66 + 240 * j) + 0 ≤ 600000; omega) (by show (67411 + 1200 * j) + 0 ≤ 7302250; omega) (y_cons (y_cref hY_x rfl) (y_cons ⟨_, rfl, x_i32 _⟩ (y_cons ⟨_, rfl, x_i32 _⟩ y_nil))) rfl (y_recv rfl hY_x) trivial (y_sub_ef (by decide +kernel)) fun v Yn o Hn L_ ho hr ha hIn hx_ hE hP => ?_
  replace hM := hM.E hY_mo hE (fun q u h => y_ext hx_ hI.1 h) (by decide +kernel) (by decide +kernel)
  replace hR := hR.E2 hY_x hE (fun q u h => y_ext hx_ hI.1 h) (by decide +kernel)
  replace hY_x := y_ext hx_ hI.1 hY_x
  replace hY_mo := y_ext hx_ hI.1 hY_mo
  obtain ⟨r1275, rfl, h_r1275⟩ := y_ansI (lo := (-2147483648)) (hi := 2147483647) (by decide) ho hr
  clear ho hr ha hE hP hI hx_
  rename x_I _ _ _ _ _ _ _ _ _ _ => hI
  refine lv_pop hx hb la_d1278 rfl ?_
  refine lv_aload_n hx hb la_d1279 rfl (lv_at hl 3 rfl) ?_
  refine lv_aload_n hx hb la_d1280 rfl (lv_at hl 1 rfl) ?_
  refine lv_iload_n hx hb la_d1281 rfl (lv_at hl 0 rfl) ?_
  refine lv_iconst hx hb la_d1282 (v := 1) (by decide) ?_
  refine lv_iadd hx hb la_d1283 ?_
  generalize hg_z1283 : i + (1 : Int32) = z1283
  have h_z1283 : z1283.toInt = i.toInt + 1 := by rw [← hg_z1283]; have := y_add (x := i) (y := (1 : Int32)) (by rw [ec1]; omega) (by rw [ec1]; omega); rw [ec1] at this; exact this
  refine va_sld hx hb hX hbl hbA hI.2.2.2 (z_vpin (by omega) (by omega)) la_d1284 ?_
  obtain ⟨e1284, hg_e1284⟩ : ∃ e1284 : Int32, xs z1283.toNatClampNeg = e1284 := ⟨_, rfl⟩
  rw [hg_e1284]
  refine lv_aload_n hx hb la_d1285 rfl (lv_at hl 1 rfl) ?_
  refine lv_iload_n hx hb la_d1286 rfl (lv_at hl 0 rfl) ?_
  refine lv_iconst hx hb la_d1287 (v := 2) (by decide) ?_
  refine lv_iadd hx hb la_d1288 ?_
  generalize hg_z1288 : i + (2 : Int32) = z1288
  have h_z1288 : z1288.toInt = i.toInt + 2 := by rw [← hg_z1288]; have := y_add (x := i) (y := (2 : Int32)) (by rw [ec2]; omega) (by rw [ec2]; omega); rw [ec2] at this; exact this
  refine va_sld hx hb hX hbl hbA hI.2.2.2 (z_vpin (by omega) (by omega)) la_d1289 ?_
  obtain ⟨e1289, hg_e1289⟩ : ∃ e1289 : Int32, xs z1288.toNatClampNeg = e1289 := ⟨_, rfl⟩
  rw [hg_e1289]
  refine y_call (z := (0, 153, 3, some 17, xM1016)) (av := [.ref mo, .int e1284, .int e1289]) (rest := []) (y_cok.of (x_cokV (n := 2) (ci := 12) X xm1016 rfl rfl rfl (x_cons (x_bw85 13 rfl rfl) (x_cons (x_bw85 14 rfl rfl) (x_cons (x_bw85 15 rfl rfl) (x_cons (x_bw0 9 rfl rfl) x_nilm)))) (x_bw86 0 rfl rfl) (by decide +kernel) ⟨Nat.le_of_ble_eq_true rfl, Nat.le_of_ble_eq_true rfl⟩)) hY0 hI rfl la_d1290 hl.1 (Nat.le_of_ble_eq_true rfl) (by show (66 + 240 * j) + 0 + 0 ≤ 600000; omega) (by show (67411 + 1200 * j) + 0 + 0 ≤ 7302250; omega) (y_cons (y_cref hY_mo rfl) (y_cons ⟨_, rfl, x_i32 _⟩ (y_cons ⟨_, rfl, x_i32 _⟩ y_nil))) rfl (y_recv rfl hY_mo) trivial (y_sub_ef (by decide +kernel)) fun v Yn o Hn L_ ho hr ha hIn hx_ hE hP => ?_
  replace hR := hR.E2 hY_x hE (fun q u h => y_ext hx_ hI.1 h) (by decide +kernel)
  replace hM := hM.E hY_mo hE (fun q u h => y_ext hx_ hI.1 h) (by decide +kernel) (by decide +kernel)
  replace hY_x := y_ext hx_ hI.1 hY_x
  replace hY_mo := y_ext hx_ hI.1 hY_mo
  obtain ⟨r1290, rfl, h_r1290⟩ := y_ansI (lo := (-2147483648)) (hi := 2147483647) (by decide) ho hr
  clear ho hr ha hE hP hI hx_
  rename x_I _ _ _ _ _ _ _ _ _ _ => hI
  refine lv_pop hx hb la_d1293 rfl ?_
  refine lv_goto hx hb la_d1294 (tgt := 1501) (by decide) ?_
  refine W.widen (k := (66 + 240 * (j + 1))) (n := (67411 + 1200 * (j + 1))) (by show (66 + 240 * j) + 0 + 0 ≤ (66 + 240 * (j + 1)); omega) (by show (67411 + 1200 * j) + 0 + 0 ≤ (67411 + 1200 * (j + 1)); omega) ?_
  exact out _ _ _ _ _ _ _ _ hI hY_x hY_mo hR hM hv (lv_sub hl [0, 1, 2, 3] rfl)
theorem la_c33 {p : Program} {l : Launch} {e : Env} {s : State} {m : MethodId} {below : List Frame} {meth : Method} {c : Code} {D : va_G} {b L : Nat} {xs : Nat → Int32} (X : x_cx p s m #[Value.ref b] c D s xMlaw.2.1 xMlaw.2.2.1 vwCl x_Tb x_Nb "TwinFiresLaw") (hrt : meth.sig.returnType = ret) (hlk : meth.locks = false) (hX : va_X b L xs s s.heap) (hbl : b < s.heap.size) (hL : L ≤ 3072) {x mo : Nat} {i : Int32} {j : Nat} (hi : i.toInt = 6 * (j : Int)) (hj : 6 * j + 6 ≤ L)
    (out : ∀ (H : Heap) (Y : xY) (locs : List Loc) (ls : Array Slot) (fv : Nat → Int32) (Kv : Nat → Option (Nat → Int32)) (tv : Nat → Int32) (nv : Int32), x_I D x_G x_Zs s (x_efs xMlaw) z_Y0 s.heap Y H locs → Y x = some 0 → Y mo = some 17 → z_RC D Y H x fv Kv tv nv → z_RM D Y H mo fv Kv tv nv → m_inv2 fv Kv → lv_has ls 4 [(3, .int i), (0, .ref b), (1, .ref x), (2, .ref mo)] → W p l e room_1 s m #[Value.ref b] below meth c H locs (66 + 240 * (j + 1)) (67411 + 1200 * (j + 1)) (lw_Z below #[Value.ref b] s) (F0 m 1501 ls [])) :
    ∀ (H : Heap) (Y : xY) (locs : List Loc) (ls : Array Slot) (fv : Nat → Int32) (Kv : Nat → Option (Nat → Int32)) (tv : Nat → Int32) (nv : Int32), x_I D x_G x_Zs s (x_efs xMlaw) z_Y0 s.heap Y H locs → Y x = some 0 → Y mo = some 17 → z_RC D Y H x fv Kv tv nv → z_RM D Y H mo fv Kv tv nv → m_inv2 fv Kv → lv_has ls 4 [(3, .int i), (0, .ref b), (1, .ref x), (2, .ref mo)] → W p l e room_1 s m #[Value.ref b] below meth c H locs (66 + 240 * j) (67411 + 1200 * j) (lw_Z below #[Value.ref b] s) (F0 m 1297 ls []) := by
  have hx := X.1
  have hb := X.2.1
  have hts := X.2.2.2.2.1
  have hY0 : ∀ q u, z_Y0 q = some u → q < s.heap.size := fun q u h => by cases h
  have hbA : ¬ ((∃ t, z_Y0 b = some t) ∨ s.heap.size ≤ b) := fun h => by
    rcases h with ⟨t, h⟩ | h
    · cases h
    · omega
  intro H Y locs ls fv Kv tv nv hI hY_x hY_mo hR hM hv hl
  refine lv_aload_n hx hb la_d1297 rfl (lv_at hl 2 rfl) ?_
  refine lv_aload_n hx hb la_d1298 rfl (lv_at hl 1 rfl) ?_
  refine lv_iload_n hx hb la_d1299 rfl (lv_at hl 0 rfl) ?_
  refine lv_iconst hx hb la_d1300 (v := 1) (by decide) ?_
  have ec1 : (1 : Int32).toInt = 1 := by decide
  refine lv_iadd hx hb la_d1301 ?_
  generalize hg_z1301 : i + (1 : Int32) = z1301
  have h_z1301 : z1301.toInt = i.toInt + 1 := by rw [← hg_z1301]; have := y_add (x := i) (y := (1 : Int32)) (by rw [ec1]; omega) (by rw [ec1]; omega); rw [ec1] at this; exact this
  refine va_sld hx hb hX hbl hbA hI.2.2.2 (z_vpin (by omega) (by omega)) la_d1302 ?_
  obtain ⟨e1302, hg_e1302⟩ : ∃ e1302 : Int32, xs z1301.toNatClampNeg = e1302 := ⟨_, rfl⟩
  rw [hg_e1302]
  refine lv_aload_n hx hb la_d1303 rfl (lv_at hl 1 rfl) ?_
  refine lv_iload_n hx hb la_d1304 rfl (lv_at hl 0 rfl) ?_
  refine lv_iconst hx hb la_d1305 (v := 2) (by decide) ?_
  have ec2 : (2 : Int32).toInt = 2 := by decide
  refine lv_iadd hx hb la_d1306 ?_
  generalize hg_z1306 : i + (2 : Int32) = z1306
  have h_z1306 : z1306.toInt = i.toInt + 2 := by rw [← hg_z1306]; have := y_add (x := i) (y := (2 : Int32)) (by rw [ec2]; omega) (by rw [ec2]; omega); rw [ec2] at this; exact this
  refine va_sld hx hb hX hbl hbA hI.2.2.2 (z_vpin (by omega) (by omega)) la_d1307 ?_
  obtain ⟨e1307, hg_e1307⟩ : ∃ e1307 : Int32, xs z1306.toNatClampNeg = e1307 := ⟨_, rfl⟩
  rw [hg_e1307]
  refine lv_aload_n hx hb la_d1308 rfl (lv_at hl 1 rfl) ?_
  refine lv_iload_n hx hb la_d1309 rfl (lv_at hl 0 rfl) ?_
  refine lv_iconst hx hb la_d1310 (v := 3) (by decide) ?_
  have ec3 : (3 : Int32).toInt = 3 := by decide
  refine lv_iadd hx hb la_d1311 ?_
  generalize hg_z1311 : i + (3 : Int32) = z1311
  have h_z1311 : z1311.toInt = i.toInt + 3 := by rw [← hg_z1311]; have := y_add (x := i) (y := (3 : Int32)) (by rw [ec3]; omega) (by rw [ec3]; omega); rw [ec3] at this; exact this
  refine va_sld hx hb hX hbl hbA hI.2.2.2 (z_vpin (by omega) (by omega)) la_d1312 ?_
  obtain ⟨e1312, hg_e1312⟩ : ∃ e1312 : Int32, xs z1311.toNatClampNeg = e1312 := ⟨_, rfl⟩
  rw [hg_e1312]
  have hbd := hR.bd hI.1
  refine y_call (z := (0, 154, 4, some 0, xM126)) (av := [.ref x, .int e1302, .int e1307, .int e1312]) (rest := []) (y_cokV (n := 3) (ci := 11) X ym_Ttell rfl rfl rfl (x_cons (x_bw57 13 rfl rfl) (x_cons (x_bw57 14 rfl rfl) (x_cons (x_bw57 15 rfl rfl) (x_cons (x_bw0 1 rfl rfl) x_nilm)))) (x_bw58 0 rfl rfl) (by decide +kernel) ⟨Nat.le_of_ble_eq_true rfl, Nat.le_of_ble_eq_true rfl⟩) hY0 hI rfl la_d1313 hl.1 (Nat.le_of_ble_eq_true rfl) (by show (66 + 240 * j) + 0 ≤ 600000; omega) (by show (67411 + 1200 * j) + 0 ≤ 7302250; omega) (y_cons (y_cref hY_x rfl) (y_cons ⟨_, rfl, x_i32 _⟩ (y_cons ⟨_, rfl, x_i32 _⟩ (y_cons ⟨_, rfl, x_i32 _⟩ y_nil)))) rfl (y_recv rfl hY_x) (fun t' h1 => by cases h1; exact ⟨_, _, _, _, hR⟩) (y_sub_ef (by decide +kernel)) fun v Yn o Hn L_ ho hr ha hIn hx_ hE hP => ?_
  replace hM := hM.E hY_mo hE (fun q u h => y_ext hx_ hI.1 h) (by decide +kernel) (by decide +kernel)
  obtain ⟨rA, gA, hra, hRn, hmA⟩ := hP _ _ _ _ _ _ _ _ rfl hR
  obtain rfl := hra
  replace hR := hRn
  replace hY_x := y_ext hx_ hI.1 hY_x
  replace hY_mo := y_ext hx_ hI.1 hY_mo
  clear ho hr ha hE hP hI hx_
  rename x_I _ _ _ _ _ _ _ _ _ _ => hI
  refine lv_aload_n hx hb la_d1316 rfl (lv_at hl 3 rfl) ?_
  refine lv_aload_n hx hb la_d1317 rfl (lv_at hl 1 rfl) ?_
  refine lv_iload_n hx hb la_d1318 rfl (lv_at hl 0 rfl) ?_
  refine lv_iconst hx hb la_d1319 (v := 1) (by decide) ?_
  refine lv_iadd hx hb la_d1320 ?_
  generalize hg_z1320 : i + (1 : Int32) = z1320
  have h_z1320 : z1320.toInt = i.toInt + 1 := by rw [← hg_z1320]; have := y_add (x := i) (y := (1 : Int32)) (by rw [ec1]; omega) (by rw [ec1]; omega); rw [ec1] at this; exact this
  refine va_sld hx hb hX hbl hbA hI.2.2.2 (z_vpin (by omega) (by omega)) la_d1321 ?_
  obtain ⟨e1321, hg_e1321⟩ : ∃ e1321 : Int32, xs z1320.toNatClampNeg = e1321 := ⟨_, rfl⟩
  rw [hg_e1321]
  refine lv_aload_n hx hb la_d1322 rfl (lv_at hl 1 rfl) ?_
  refine lv_iload_n hx hb la_d1323 rfl (lv_at hl 0 rfl) ?_
  refine lv_iconst hx hb la_d1324 (v := 2) (by decide) ?_
  refine lv_iadd hx hb la_d1325 ?_
  generalize hg_z1325 : i + (2 : Int32) = z1325
  have h_z1325 : z1325.toInt = i.toInt + 2 := by rw [← hg_z1325]; have := y_add (x := i) (y := (2 : Int32)) (by rw [ec2]; omega) (by rw [ec2]; omega); rw [ec2] at this; exact this
  refine va_sld hx hb hX hbl hbA hI.2.2.2 (z_vpin (by omega) (by omega)) la_d1326 ?_
  obtain ⟨e1326, hg_e1326⟩ : ∃ e1326 : Int32, xs z1325.toNatClampNeg = e1326 := ⟨_, rfl⟩
  rw [hg_e1326]
  refine lv_aload_n hx hb la_d1327 rfl (lv_at hl 1 rfl) ?_
  refine lv_iload_n hx hb la_d1328 rfl (lv_at hl 0 rfl) ?_
  refine lv_iconst hx hb la_d1329 (v := 3) (by decide) ?_
  refine lv_iadd hx hb la_d1330 ?_
  generalize hg_z1330 : i + (3 : Int32) = z1330
  have h_z1330 : z1330.toInt = i.toInt + 3 := by rw [← hg_z1330]; have := y_add (x := i) (y := (3 : Int32)) (by rw [ec3]; omega) (by rw [ec3]; omega); rw [ec3] at this; exact this
  refine va_sld hx hb hX hbl hbA hI.2.2.2 (z_vpin (by omega) (by omega)) la_d1331 ?_
  obtain ⟨e1331, hg_e1331⟩ : ∃ e1331 : Int32, xs z1330.toNatClampNeg = e1331 := ⟨_, rfl⟩
  rw [hg_e1331]
  obtain rfl : e1302 = e1321 := by rw [← hg_e1302, ← hg_e1321, ← hg_z1301, ← hg_z1320]
  obtain rfl : e1307 = e1326 := by rw [← hg_e1307, ← hg_e1326, ← hg_z1306, ← hg_z1325]
  obtain rfl : e1312 = e1331 := by rw [← hg_e1312, ← hg_e1331, ← hg_z1311, ← hg_z1330]
  refine y_call (z := (0, 157, 4, some 17, xM219)) (av := [.ref mo, .int e1302, .int e1307, .int e1312]) (rest := [.int rA]) (y_cokV (n := 3) (ci := 12) X ym_tellX rfl rfl rfl (x_cons (x_bw86 5 rfl rfl) (x_cons (x_bw86 6 rfl rfl) (x_cons (x_bw86 7 rfl rfl) (x_cons (x_bw0 9 rfl rfl) x_nilm)))) (x_bw86 8 rfl rfl) (by decide +kernel) ⟨Nat.le_of_ble_eq_true rfl, Nat.le_of_ble_eq_true rfl⟩) hY0 hI rfl la_d1332 hl.1 (Nat.le_of_ble_eq_true rfl) (by show (66 + 240 * j) + 0 + 0 ≤ 600000; omega) (by show (67411 + 1200 * j) + 0 + 0 ≤ 7302250; omega) (y_cons (y_cref hY_mo rfl) (y_cons ⟨_, rfl, x_i32 _⟩ (y_cons ⟨_, rfl, x_i32 _⟩ (y_cons ⟨_, rfl, x_i32 _⟩ y_nil)))) rfl (y_recv rfl hY_mo) trivial (y_sub_ef (by decide +kernel)) fun v Yn o Hn L_ ho hr ha hIn hx_ hE hP => ?_
  replace hR := hR.E2 hY_x hE (fun q u h => y_ext hx_ hI.1 h) (by decide +kernel)
  obtain ⟨bk9, hb1, hb2, hb3⟩ := hM.bk
  obtain ⟨rB, gB, hrb, hAB, hmB⟩ := hP _ _ _ _ _ _ rfl hb1 hb2 hb3
  obtain rfl := hrb
  have hi9 := hmA.i01 hv.1.1
  have hi8 := hmA.rg hv.2.1
  obtain ⟨w4, w5⟩ := hmA.eq hmB
  subst w4 w5
  replace hM := hM.book hY_mo hE (fun q u h => y_ext hx_ hI.1 h) (by decide +kernel) hR.zc (fun b hb => by cases hb1.symm.trans hb; exact hAB)
  replace hv : m_inv2 _ Kv := ⟨⟨hi9, hv.1.2⟩, hi8, hv.2.2⟩
  replace hY_x := y_ext hx_ hI.1 hY_x
  replace hY_mo := y_ext hx_ hI.1 hY_mo
  clear ho hr ha hE hP hI hx_
  rename x_I _ _ _ _ _ _ _ _ _ _ => hI
  refine lv_icmp_eq hx hb la_d1335 (tgt := 1501) (by decide) (fun q => ?_) (fun q => absurd rfl q)
  refine W.widen (k := (66 + 240 * (j + 1))) (n := (67411 + 1200 * (j + 1))) (by show (66 + 240 * j) + 0 + 0 ≤ (66 + 240 * (j + 1)); omega) (by show (67411 + 1200 * j) + 0 + 0 ≤ (67411 + 1200 * (j + 1)); omega) ?_
  exact out _ _ _ _ _ _ _ _ hI hY_x hY_mo hR hM hv (lv_sub hl [0, 1, 2, 3] rfl)
theorem la_c34 {p : Program} {l : Launch} {e : Env} {s : State} {m : MethodId} {below : List Frame} {meth : Method} {c : Code} {D : va_G} {b L : Nat} {xs : Nat → Int32} (X : x_cx p s m #[Value.ref b] c D s xMlaw.2.1 xMlaw.2.2.1 vwCl x_Tb x_Nb "TwinFiresLaw") (hrt : meth.sig.returnType = ret) (hlk : meth.locks = false) (hX : va_X b L xs s s.heap) (hbl : b < s.heap.size) (hL : L ≤ 3072) {x mo : Nat} {i : Int32} {j : Nat} (hi : i.toInt = 6 * (j : Int)) (hj : 6 * j + 6 ≤ L)
    (out : ∀ (H : Heap) (Y : xY) (locs : List Loc) (ls : Array Slot) (fv : Nat → Int32) (Kv : Nat → Option (Nat → Int32)) (tv : Nat → Int32) (nv : Int32), x_I D x_G x_Zs s (x_efs xMlaw) z_Y0 s.heap Y H locs → Y x = some 0 → Y mo = some 17 → z_RC D Y H x fv Kv tv nv → z_RM D Y H mo fv Kv tv nv → m_inv2 fv Kv → lv_has ls 4 [(3, .int i), (0, .ref b), (1, .ref x), (2, .ref mo)] → W p l e room_1 s m #[Value.ref b] below meth c H locs (66 + 240 * (j + 1)) (67411 + 1200 * (j + 1)) (lw_Z below #[Value.ref b] s) (F0 m 1501 ls [])) :
    ∀ (H : Heap) (Y : xY) (locs : List Loc) (ls : Array Slot) (fv : Nat → Int32) (Kv : Nat → Option (Nat → Int32)) (tv : Nat → Int32) (nv : Int32), x_I D x_G x_Zs s (x_efs xMlaw) z_Y0 s.heap Y H locs → Y x = some 0 → Y mo = some 17 → z_RC D Y H x fv Kv tv nv → z_RM D Y H mo fv Kv tv nv → m_inv2 fv Kv → lv_has ls 4 [(3, .int i), (0, .ref b), (1, .ref x), (2, .ref mo)] → W p l e room_1 s m #[Value.ref b] below meth c H locs (66 + 240 * j) (67411 + 1200 * j) (lw_Z below #[Value.ref b] s) (F0 m 1340 ls []) := by
  have hx := X.1
  have hb := X.2.1
  have hts := X.2.2.2.2.1
  have hY0 : ∀ q u, z_Y0 q = some u → q < s.heap.size := fun q u h => by cases h
  have hbA : ¬ ((∃ t, z_Y0 b = some t) ∨ s.heap.size ≤ b) := fun h => by
    rcases h with ⟨t, h⟩ | h
    · cases h
    · omega
  intro H Y locs ls fv Kv tv nv hI hY_x hY_mo hR hM hv hl
  refine lv_aload_n hx hb la_d1340 rfl (lv_at hl 2 rfl) ?_
  refine lv_aload_n hx hb la_d1341 rfl (lv_at hl 1 rfl) ?_
  refine lv_iload_n hx hb la_d1342 rfl (lv_at hl 0 rfl) ?_
  refine lv_iconst hx hb la_d1343 (v := 1) (by decide) ?_
  have ec1 : (1 : Int32).toInt = 1 := by decide
  refine lv_iadd hx hb la_d1344 ?_
  generalize hg_z1344 : i + (1 : Int32) = z1344
  have h_z1344 : z1344.toInt = i.toInt + 1 := by rw [← hg_z1344]; have := y_add (x := i) (y := (1 : Int32)) (by rw [ec1]; omega) (by rw [ec1]; omega); rw [ec1] at this; exact this
  refine va_sld hx hb hX hbl hbA hI.2.2.2 (z_vpin (by omega) (by omega)) la_d1345 ?_
  obtain ⟨e1345, hg_e1345⟩ : ∃ e1345 : Int32, xs z1344.toNatClampNeg = e1345 := ⟨_, rfl⟩
  rw [hg_e1345]
  refine lv_aload_n hx hb la_d1346 rfl (lv_at hl 1 rfl) ?_
  refine lv_iload_n hx hb la_d1347 rfl (lv_at hl 0 rfl) ?_
  refine lv_iconst hx hb la_d1348 (v := 2) (by decide) ?_
  have ec2 : (2 : Int32).toInt = 2 := by decide
  refine lv_iadd hx hb la_d1349 ?_
  generalize hg_z1349 : i + (2 : Int32) = z1349
  have h_z1349 : z1349.toInt = i.toInt + 2 := by rw [← hg_z1349]; have := y_add (x := i) (y := (2 : Int32)) (by rw [ec2]; omega) (by rw [ec2]; omega); rw [ec2] at this; exact this
  refine va_sld hx hb hX hbl hbA hI.2.2.2 (z_vpin (by omega) (by omega)) la_d1350 ?_
  obtain ⟨e1350, hg_e1350⟩ : ∃ e1350 : Int32, xs z1349.toNatClampNeg = e1350 := ⟨_, rfl⟩
  rw [hg_e1350]
  refine y_call (z := (0, 158, 3, some 0, xM128)) (av := [.ref x, .int e1345, .int e1350]) (rest := []) (y_cok.of (x_cokV (n := 2) (ci := 11) X xm128 rfl rfl rfl (x_cons (x_bw58 1 rfl rfl) (x_cons (x_bw58 2 rfl rfl) (x_cons (x_bw58 3 rfl rfl) (x_cons (x_bw0 1 rfl rfl) x_nilm)))) (x_bw58 4 rfl rfl) (by decide +kernel) ⟨Nat.le_of_ble_eq_true rfl, Nat.le_of_ble_eq_true rfl⟩)) hY0 hI rfl la_d1351 hl.1 (Nat.le_of_ble_eq_true rfl) (by show (66 + 240 * j) + 0 ≤ 600000; omega) (by show (67411 + 1200 * j) + 0 ≤ 7302250; omega) (y_cons (y_cref hY_x rfl) (y_cons ⟨_, rfl, x_i32 _⟩ (y_cons ⟨_, rfl, x_i32 _⟩ y_nil))) rfl (y_recv rfl hY_x) trivial (y_sub_ef (by decide +kernel)) fun v Yn o Hn L_ ho hr ha hIn hx_ hE hP => ?_
  replace hM := hM.E hY_mo hE (fun q u h => y_ext hx_ hI.1 h) (by decide +kernel) (by decide +kernel)
  replace hR := hR.E2 hY_x hE (fun q u h => y_ext hx_ hI.1 h) (by decide +kernel)
  replace hY_x := y_ext hx_ hI.1 hY_x
  replace hY_mo := y_ext hx_ hI.1 hY_mo
  obtain ⟨r1351, rfl, h_r1351⟩ := y_ansI (lo := (-2147483648)) (hi := 2147483647) (by decide) ho hr
  clear ho hr ha hE hP hI hx_
  rename x_I _ _ _ _ _ _ _ _ _ _ => hI
  refine lv_pop hx hb la_d1354 rfl ?_
  refine lv_aload_n hx hb la_d1355 rfl (lv_at hl 3 rfl) ?_
  refine lv_aload_n hx hb la_d1356 rfl (lv_at hl 1 rfl) ?_
  refine lv_iload_n hx hb la_d1357 rfl (lv_at hl 0 rfl) ?_
  refine lv_iconst hx hb la_d1358 (v := 1) (by decide) ?_
  refine lv_iadd hx hb la_d1359 ?_
  generalize hg_z1359 : i + (1 : Int32) = z1359
  have h_z1359 : z1359.toInt = i.toInt + 1 := by rw [← hg_z1359]; have := y_add (x := i) (y := (1 : Int32)) (by rw [ec1]; omega) (by rw [ec1]; omega); rw [ec1] at this; exact this
  refine va_sld hx hb hX hbl hbA hI.2.2.2 (z_vpin (by omega) (by omega)) la_d1360 ?_
  obtain ⟨e1360, hg_e1360⟩ : ∃ e1360 : Int32, xs z1359.toNatClampNeg = e1360 := ⟨_, rfl⟩
  rw [hg_e1360]
  refine lv_aload_n hx hb la_d1361 rfl (lv_at hl 1 rfl) ?_
  refine lv_iload_n hx hb la_d1362 rfl (lv_at hl 0 rfl) ?_
  refine lv_iconst hx hb la_d1363 (v := 2) (by decide) ?_
  refine lv_iadd hx hb la_d1364 ?_
  generalize hg_z1364 : i + (2 : Int32) = z1364
  have h_z1364 : z1364.toInt = i.toInt + 2 := by rw [← hg_z1364]; have := y_add (x := i) (y := (2 : Int32)) (by rw [ec2]; omega) (by rw [ec2]; omega); rw [ec2] at this; exact this
  refine va_sld hx hb hX hbl hbA hI.2.2.2 (z_vpin (by omega) (by omega)) la_d1365 ?_
  obtain ⟨e1365, hg_e1365⟩ : ∃ e1365 : Int32, xs z1364.toNatClampNeg = e1365 := ⟨_, rfl⟩
  rw [hg_e1365]
  refine y_call (z := (0, 161, 3, some 17, xM221)) (av := [.ref mo, .int e1360, .int e1365]) (rest := []) (y_cok.of (x_cokV (n := 2) (ci := 12) X xm221 rfl rfl rfl (x_cons (x_bw86 9 rfl rfl) (x_cons (x_bw86 10 rfl rfl) (x_cons (x_bw86 11 rfl rfl) (x_cons (x_bw0 9 rfl rfl) x_nilm)))) (x_bw86 12 rfl rfl) (by decide +kernel) ⟨Nat.le_of_ble_eq_true rfl, Nat.le_of_ble_eq_true rfl⟩)) hY0 hI rfl la_d1366 hl.1 (Nat.le_of_ble_eq_true rfl) (by show (66 + 240 * j) + 0 + 0 ≤ 600000; omega) (by show (67411 + 1200 * j) + 0 + 0 ≤ 7302250; omega) (y_cons (y_cref hY_mo rfl) (y_cons ⟨_, rfl, x_i32 _⟩ (y_cons ⟨_, rfl, x_i32 _⟩ y_nil))) rfl (y_recv rfl hY_mo) trivial (y_sub_ef (by decide +kernel)) fun v Yn o Hn L_ ho hr ha hIn hx_ hE hP => ?_
  replace hR := hR.E2 hY_x hE (fun q u h => y_ext hx_ hI.1 h) (by decide +kernel)
  replace hM := hM.E hY_mo hE (fun q u h => y_ext hx_ hI.1 h) (by decide +kernel) (by decide +kernel)
  replace hY_x := y_ext hx_ hI.1 hY_x
  replace hY_mo := y_ext hx_ hI.1 hY_mo
  obtain ⟨r1366, rfl, h_r1366⟩ := y_ansI (lo := (-2147483648)) (hi := 2147483647) (by decide) ho hr
  clear ho hr ha hE hP hI hx_
  rename x_I _ _ _ _ _ _ _ _ _ _ => hI
  refine lv_pop hx hb la_d1369 rfl ?_
  refine lv_goto hx hb la_d1370 (tgt := 1501) (by decide) ?_
  refine W.widen (k := (66 + 240 * (j + 1))) (n := (67411 + 1200 * (j + 1))) (by show (66 + 240 * j) + 0 + 0 ≤ (66 + 240 * (j + 1)); omega) (by show (67411 + 1200 * j) + 0 + 0 ≤ (67411 + 1200 * (j + 1)); omega) ?_
  exact out _ _ _ _ _ _ _ _ hI hY_x hY_mo hR hM hv (lv_sub hl [0, 1, 2, 3] rfl)
theorem la_c35 {p : Program} {l : Launch} {e : Env} {s : State} {m : MethodId} {below : List Frame} {meth : Method} {c : Code} {D : va_G} {b L : Nat} {xs : Nat → Int32} (X : x_cx p s m #[Value.ref b] c D s xMlaw.2.1 xMlaw.2.2.1 vwCl x_Tb x_Nb "TwinFiresLaw") (hrt : meth.sig.returnType = ret) (hlk : meth.locks = false) (hX : va_X b L xs s s.heap) (hbl : b < s.heap.size) (hL : L ≤ 3072) {x mo : Nat} {i : Int32} {j : Nat} (hi : i.toInt = 6 * (j : Int)) (hj : 6 * j + 6 ≤ L)
    (out : ∀ (H : Heap) (Y : xY) (locs : List Loc) (ls : Array Slot) (fv : Nat → Int32) (Kv : Nat → Option (Nat → Int32)) (tv : Nat → Int32) (nv : Int32), x_I D x_G x_Zs s (x_efs xMlaw) z_Y0 s.heap Y H locs → Y x = some 0 → Y mo = some 17 → z_RC D Y H x fv Kv tv nv → z_RM D Y H mo fv Kv tv nv → m_inv2 fv Kv → lv_has ls 4 [(3, .int i), (0, .ref b), (1, .ref x), (2, .ref mo)] → W p l e room_1 s m #[Value.ref b] below meth c H locs (66 + 240 * (j + 1)) (67411 + 1200 * (j + 1)) (lw_Z below #[Value.ref b] s) (F0 m 1501 ls [])) :
    ∀ (H : Heap) (Y : xY) (locs : List Loc) (ls : Array Slot) (fv : Nat → Int32) (Kv : Nat → Option (Nat → Int32)) (tv : Nat → Int32) (nv : Int32), x_I D x_G x_Zs s (x_efs xMlaw) z_Y0 s.heap Y H locs → Y x = some 0 → Y mo = some 17 → z_RC D Y H x fv Kv tv nv → z_RM D Y H mo fv Kv tv nv → m_inv2 fv Kv → lv_has ls 4 [(3, .int i), (0, .ref b), (1, .ref x), (2, .ref mo)] → W p l e room_1 s m #[Value.ref b] below meth c H locs (66 + 240 * j) (67411 + 1200 * j) (lw_Z below #[Value.ref b] s) (F0 m 1373 ls []) := by
  have hx := X.1
  have hb := X.2.1
  have hts := X.2.2.2.2.1
  have hY0 : ∀ q u, z_Y0 q = some u → q < s.heap.size := fun q u h => by cases h
  have hbA : ¬ ((∃ t, z_Y0 b = some t) ∨ s.heap.size ≤ b) := fun h => by
    rcases h with ⟨t, h⟩ | h
    · cases h
    · omega
  intro H Y locs ls fv Kv tv nv hI hY_x hY_mo hR hM hv hl
  refine lv_aload_n hx hb la_d1373 rfl (lv_at hl 2 rfl) ?_
  refine lv_aload_n hx hb la_d1374 rfl (lv_at hl 1 rfl) ?_
  refine lv_iload_n hx hb la_d1375 rfl (lv_at hl 0 rfl) ?_
  refine lv_iconst hx hb la_d1376 (v := 1) (by decide) ?_
  have ec1 : (1 : Int32).toInt = 1 := by decide
  refine lv_iadd hx hb la_d1377 ?_
  generalize hg_z1377 : i + (1 : Int32) = z1377
  have h_z1377 : z1377.toInt = i.toInt + 1 := by rw [← hg_z1377]; have := y_add (x := i) (y := (1 : Int32)) (by rw [ec1]; omega) (by rw [ec1]; omega); rw [ec1] at this; exact this
  refine va_sld hx hb hX hbl hbA hI.2.2.2 (z_vpin (by omega) (by omega)) la_d1378 ?_
  obtain ⟨e1378, hg_e1378⟩ : ∃ e1378 : Int32, xs z1377.toNatClampNeg = e1378 := ⟨_, rfl⟩
  rw [hg_e1378]
  refine y_call (z := (0, 162, 2, some 0, xM129)) (av := [.ref x, .int e1378]) (rest := []) (y_cok.of (x_cokV (n := 1) (ci := 11) X xm129 rfl rfl rfl (x_cons (x_bw58 10 rfl rfl) (x_cons (x_bw58 11 rfl rfl) (x_cons (x_bw58 12 rfl rfl) (x_cons (x_bw0 1 rfl rfl) x_nilm)))) (x_bw58 13 rfl rfl) (by decide +kernel) ⟨Nat.le_of_ble_eq_true rfl, Nat.le_of_ble_eq_true rfl⟩)) hY0 hI rfl la_d1379 hl.1 (Nat.le_of_ble_eq_true rfl) (by show (66 + 240 * j) + 0 ≤ 600000; omega) (by show (67411 + 1200 * j) + 0 ≤ 7302250; omega) (y_cons (y_cref hY_x rfl) (y_cons ⟨_, rfl, x_i32 _⟩ y_nil)) rfl (y_recv rfl hY_x) trivial (y_sub_ef (by decide +kernel)) fun v Yn o Hn L_ ho hr ha hIn hx_ hE hP => ?_
  replace hM := hM.E hY_mo hE (fun q u h => y_ext hx_ hI.1 h) (by decide +kernel) (by decide +kernel)
  replace hR := hR.E2 hY_x hE (fun q u h => y_ext hx_ hI.1 h) (by decide +kernel)
  replace hY_x := y_ext hx_ hI.1 hY_x
  replace hY_mo := y_ext hx_ hI.1 hY_mo
  obtain ⟨r1379, rfl⟩ := y_ansL (by decide) ho hr
  clear ho hr ha hE hP hI hx_
  rename x_I _ _ _ _ _ _ _ _ _ _ => hI
  refine lv_pop2_2 hx hb la_d1382 rfl ?_
  refine lv_aload_n hx hb la_d1383 rfl (lv_at hl 3 rfl) ?_
  refine lv_aload_n hx hb la_d1384 rfl (lv_at hl 1 rfl) ?_
  refine lv_iload_n hx hb la_d1385 rfl (lv_at hl 0 rfl) ?_
  refine lv_iconst hx hb la_d1386 (v := 1) (by decide) ?_
  refine lv_iadd hx hb la_d1387 ?_
  generalize hg_z1387 : i + (1 : Int32) = z1387
  have h_z1387 : z1387.toInt = i.toInt + 1 := by rw [← hg_z1387]; have := y_add (x := i) (y := (1 : Int32)) (by rw [ec1]; omega) (by rw [ec1]; omega); rw [ec1] at this; exact this
  refine va_sld hx hb hX hbl hbA hI.2.2.2 (z_vpin (by omega) (by omega)) la_d1388 ?_
  obtain ⟨e1388, hg_e1388⟩ : ∃ e1388 : Int32, xs z1387.toNatClampNeg = e1388 := ⟨_, rfl⟩
  rw [hg_e1388]
  refine y_call (z := (0, 166, 2, some 17, xM222)) (av := [.ref mo, .int e1388]) (rest := []) (y_cok.of (x_cokV (n := 1) (ci := 12) X xm222 rfl rfl rfl (x_cons (x_bw86 14 rfl rfl) (x_cons (x_bw86 15 rfl rfl) (x_cons (x_bw87 0 rfl rfl) (x_cons (x_bw0 9 rfl rfl) x_nilm)))) (x_bw87 1 rfl rfl) (by decide +kernel) ⟨Nat.le_of_ble_eq_true rfl, Nat.le_of_ble_eq_true rfl⟩)) hY0 hI rfl la_d1389 hl.1 (Nat.le_of_ble_eq_true rfl) (by show (66 + 240 * j) + 0 + 0 ≤ 600000; omega) (by show (67411 + 1200 * j) + 0 + 0 ≤ 7302250; omega) (y_cons (y_cref hY_mo rfl) (y_cons ⟨_, rfl, x_i32 _⟩ y_nil)) rfl (y_recv rfl hY_mo) trivial (y_sub_ef (by decide +kernel)) fun v Yn o Hn L_ ho hr ha hIn hx_ hE hP => ?_
  replace hR := hR.E2 hY_x hE (fun q u h => y_ext hx_ hI.1 h) (by decide +kernel)
  replace hM := hM.E hY_mo hE (fun q u h => y_ext hx_ hI.1 h) (by decide +kernel) (by decide +kernel)
  replace hY_x := y_ext hx_ hI.1 hY_x
  replace hY_mo := y_ext hx_ hI.1 hY_mo
  obtain ⟨r1389, rfl⟩ := y_ansL (by decide) ho hr
  clear ho hr ha hE hP hI hx_
  rename x_I _ _ _ _ _ _ _ _ _ _ => hI
  refine lv_pop2_2 hx hb la_d1392 rfl ?_
  refine lv_goto hx hb la_d1393 (tgt := 1501) (by decide) ?_
  refine W.widen (k := (66 + 240 * (j + 1))) (n := (67411 + 1200 * (j + 1))) (by show (66 + 240 * j) + 0 + 0 ≤ (66 + 240 * (j + 1)); omega) (by show (67411 + 1200 * j) + 0 + 0 ≤ (67411 + 1200 * (j + 1)); omega) ?_
  exact out _ _ _ _ _ _ _ _ hI hY_x hY_mo hR hM hv (lv_sub hl [0, 1, 2, 3] rfl)
theorem la_c36 {p : Program} {l : Launch} {e : Env} {s : State} {m : MethodId} {below : List Frame} {meth : Method} {c : Code} {D : va_G} {b L : Nat} {xs : Nat → Int32} (X : x_cx p s m #[Value.ref b] c D s xMlaw.2.1 xMlaw.2.2.1 vwCl x_Tb x_Nb "TwinFiresLaw") (hrt : meth.sig.returnType = ret) (hlk : meth.locks = false) (hX : va_X b L xs s s.heap) (hbl : b < s.heap.size) (hL : L ≤ 3072) {x mo : Nat} {i : Int32} {j : Nat} (hi : i.toInt = 6 * (j : Int)) (hj : 6 * j + 6 ≤ L)
    (out : ∀ (H : Heap) (Y : xY) (locs : List Loc) (ls : Array Slot) (fv : Nat → Int32) (Kv : Nat → Option (Nat → Int32)) (tv : Nat → Int32) (nv : Int32), x_I D x_G x_Zs s (x_efs xMlaw) z_Y0 s.heap Y H locs → Y x = some 0 → Y mo = some 17 → z_RC D Y H x fv Kv tv nv → z_RM D Y H mo fv Kv tv nv → m_inv2 fv Kv → lv_has ls 4 [(3, .int i), (0, .ref b), (1, .ref x), (2, .ref mo)] → W p l e room_1 s m #[Value.ref b] below meth c H locs (66 + 240 * (j + 1)) (67411 + 1200 * (j + 1)) (lw_Z below #[Value.ref b] s) (F0 m 1501 ls [])) :
    ∀ (H : Heap) (Y : xY) (locs : List Loc) (ls : Array Slot) (fv : Nat → Int32) (Kv : Nat → Option (Nat → Int32)) (tv : Nat → Int32) (nv : Int32), x_I D x_G x_Zs s (x_efs xMlaw) z_Y0 s.heap Y H locs → Y x = some 0 → Y mo = some 17 → z_RC D Y H x fv Kv tv nv → z_RM D Y H mo fv Kv tv nv → m_inv2 fv Kv → lv_has ls 4 [(3, .int i), (0, .ref b), (1, .ref x), (2, .ref mo)] → W p l e room_1 s m #[Value.ref b] below meth c H locs (66 + 240 * j) (67411 + 1200 * j) (lw_Z below #[Value.ref b] s) (F0 m 1396 ls []) := by
  have hx := X.1
  have hb := X.2.1
  have hts := X.2.2.2.2.1
  have hY0 : ∀ q u, z_Y0 q = some u → q < s.heap.size := fun q u h => by cases h
  have hbA : ¬ ((∃ t, z_Y0 b = some t) ∨ s.heap.size ≤ b) := fun h => by
    rcases h with ⟨t, h⟩ | h
    · cases h
    · omega
  intro H Y locs ls fv Kv tv nv hI hY_x hY_mo hR hM hv hl
  refine lv_aload_n hx hb la_d1396 rfl (lv_at hl 2 rfl) ?_
  refine lv_aload_n hx hb la_d1397 rfl (lv_at hl 1 rfl) ?_
  refine lv_iload_n hx hb la_d1398 rfl (lv_at hl 0 rfl) ?_
  refine lv_iconst hx hb la_d1399 (v := 1) (by decide) ?_
  have ec1 : (1 : Int32).toInt = 1 := by decide
  refine lv_iadd hx hb la_d1400 ?_
  generalize hg_z1400 : i + (1 : Int32) = z1400
  have h_z1400 : z1400.toInt = i.toInt + 1 := by rw [← hg_z1400]; have := y_add (x := i) (y := (1 : Int32)) (by rw [ec1]; omega) (by rw [ec1]; omega); rw [ec1] at this; exact this
  refine va_sld hx hb hX hbl hbA hI.2.2.2 (z_vpin (by omega) (by omega)) la_d1401 ?_
  obtain ⟨e1401, hg_e1401⟩ : ∃ e1401 : Int32, xs z1400.toNatClampNeg = e1401 := ⟨_, rfl⟩
  rw [hg_e1401]
  have hbd := hR.bd hI.1
  refine y_call (z := (0, 167, 2, some 0, xMgi)) (av := [.ref x, .int e1401]) (rest := []) (y_cokV (n := 1) (ci := 11) X ym_Timage rfl rfl rfl (x_cons (x_bw58 15 rfl rfl) (x_cons (x_bw59 0 rfl rfl) (x_cons (x_bw59 1 rfl rfl) (x_cons (x_bw0 1 rfl rfl) x_nilm)))) (x_bw59 2 rfl rfl) (by decide +kernel) ⟨Nat.le_of_ble_eq_true rfl, Nat.le_of_ble_eq_true rfl⟩) hY0 hI rfl la_d1402 hl.1 (Nat.le_of_ble_eq_true rfl) (by show (66 + 240 * j) + 15 ≤ 600000; omega) (by show (67411 + 1200 * j) + 143 ≤ 7302250; omega) (y_cons (y_cref hY_x rfl) (y_cons ⟨_, rfl, x_i32 _⟩ y_nil)) rfl (y_recv rfl hY_x) (fun t' h1 => by cases h1; exact ⟨_, _, _, _, hR⟩) (y_sub_ef (by decide +kernel)) fun v Yn o Hn L_ ho hr ha hIn hx_ hE hP => ?_
  replace hM := hM.E hY_mo hE (fun q u h => y_ext hx_ hI.1 h) (by decide +kernel) (by decide +kernel)
  obtain ⟨hra, hRn⟩ := hP _ _ _ _ _ _ rfl hR
  obtain rfl := hra
  replace hR := hRn
  replace hY_x := y_ext hx_ hI.1 hY_x
  replace hY_mo := y_ext hx_ hI.1 hY_mo
  clear ho hr ha hE hP hI hx_
  rename x_I _ _ _ _ _ _ _ _ _ _ => hI
  refine lv_pop hx hb la_d1405 rfl ?_
  refine lv_aload_n hx hb la_d1406 rfl (lv_at hl 3 rfl) ?_
  refine lv_aload_n hx hb la_d1407 rfl (lv_at hl 1 rfl) ?_
  refine lv_iload_n hx hb la_d1408 rfl (lv_at hl 0 rfl) ?_
  refine lv_iconst hx hb la_d1409 (v := 1) (by decide) ?_
  refine lv_iadd hx hb la_d1410 ?_
  generalize hg_z1410 : i + (1 : Int32) = z1410
  have h_z1410 : z1410.toInt = i.toInt + 1 := by rw [← hg_z1410]; have := y_add (x := i) (y := (1 : Int32)) (by rw [ec1]; omega) (by rw [ec1]; omega); rw [ec1] at this; exact this
  refine va_sld hx hb hX hbl hbA hI.2.2.2 (z_vpin (by omega) (by omega)) la_d1411 ?_
  obtain ⟨e1411, hg_e1411⟩ : ∃ e1411 : Int32, xs z1410.toNatClampNeg = e1411 := ⟨_, rfl⟩
  rw [hg_e1411]
  obtain rfl : e1401 = e1411 := by rw [← hg_e1401, ← hg_e1411, ← hg_z1400, ← hg_z1410]
  refine y_call (z := (0, 170, 2, some 17, xMi2)) (av := [.ref mo, .int e1401]) (rest := []) (y_cokV (n := 1) (ci := 12) X ym_imageX rfl rfl rfl (x_cons (x_bw87 3 rfl rfl) (x_cons (x_bw87 4 rfl rfl) (x_cons (x_bw87 5 rfl rfl) (x_cons (x_bw0 9 rfl rfl) x_nilm)))) (x_bw87 6 rfl rfl) (by decide +kernel) ⟨Nat.le_of_ble_eq_true rfl, Nat.le_of_ble_eq_true rfl⟩) hY0 hI rfl la_d1412 hl.1 (Nat.le_of_ble_eq_true rfl) (by show (66 + 240 * j) + 15 + 0 ≤ 600000; omega) (by show (67411 + 1200 * j) + 143 + 0 ≤ 7302250; omega) (y_cons (y_cref hY_mo rfl) (y_cons ⟨_, rfl, x_i32 _⟩ y_nil)) rfl (y_recv rfl hY_mo) trivial (y_sub_ef (by decide +kernel)) fun v Yn o Hn L_ ho hr ha hIn hx_ hE hP => ?_
  replace hR := hR.E2 hY_x hE (fun q u h => y_ext hx_ hI.1 h) (by decide +kernel)
  obtain ⟨hrb, hMn⟩ := hM.img hI.1 hY_mo hE (fun q u h => y_ext hx_ hI.1 h) (by decide +kernel) hP
  obtain rfl := hrb
  replace hM := hMn
  replace hv := And.intro (m_imgK.inv (i := e1401) hv.1) (m_imgK.rg (i := e1401) hv.2)
  replace hY_x := y_ext hx_ hI.1 hY_x
  replace hY_mo := y_ext hx_ hI.1 hY_mo
  clear ho hr ha hE hP hI hx_
  rename x_I _ _ _ _ _ _ _ _ _ _ => hI
  refine lv_pop hx hb la_d1415 rfl ?_
  refine lv_goto hx hb la_d1416 (tgt := 1501) (by decide) ?_
  refine W.widen (k := (66 + 240 * (j + 1))) (n := (67411 + 1200 * (j + 1))) (by show (66 + 240 * j) + 15 + 0 ≤ (66 + 240 * (j + 1)); omega) (by show (67411 + 1200 * j) + 143 + 0 ≤ (67411 + 1200 * (j + 1)); omega) ?_
  exact out _ _ _ _ _ _ _ _ hI hY_x hY_mo hR hM hv (lv_sub hl [0, 1, 2, 3] rfl)
theorem la_c37 {p : Program} {l : Launch} {e : Env} {s : State} {m : MethodId} {below : List Frame} {meth : Method} {c : Code} {D : va_G} {b L : Nat} {xs : Nat → Int32} (X : x_cx p s m #[Value.ref b] c D s xMlaw.2.1 xMlaw.2.2.1 vwCl x_Tb x_Nb "TwinFiresLaw") (hrt : meth.sig.returnType = ret) (hlk : meth.locks = false) (hX : va_X b L xs s s.heap) (hbl : b < s.heap.size) (hL : L ≤ 3072) {x mo : Nat} {i : Int32} {j : Nat} (hi : i.toInt = 6 * (j : Int)) (hj : 6 * j + 6 ≤ L)
    (out : ∀ (H : Heap) (Y : xY) (locs : List Loc) (ls : Array Slot) (fv : Nat → Int32) (Kv : Nat → Option (Nat → Int32)) (tv : Nat → Int32) (nv : Int32), x_I D x_G x_Zs s (x_efs xMlaw) z_Y0 s.heap Y H locs → Y x = some 0 → Y mo = some 17 → z_RC D Y H x fv Kv tv nv → z_RM D Y H mo fv Kv tv nv → m_inv2 fv Kv → lv_has ls 4 [(3, .int i), (0, .ref b), (1, .ref x), (2, .ref mo)] → W p l e room_1 s m #[Value.ref b] below meth c H locs (66 + 240 * (j + 1)) (67411 + 1200 * (j + 1)) (lw_Z below #[Value.ref b] s) (F0 m 1501 ls [])) :
    ∀ (H : Heap) (Y : xY) (locs : List Loc) (ls : Array Slot) (fv : Nat → Int32) (Kv : Nat → Option (Nat → Int32)) (tv : Nat → Int32) (nv : Int32), x_I D x_G x_Zs s (x_efs xMlaw) z_Y0 s.heap Y H locs → Y x = some 0 → Y mo = some 17 → z_RC D Y H x fv Kv tv nv → z_RM D Y H mo fv Kv tv nv → m_inv2 fv Kv → lv_has ls 4 [(3, .int i), (0, .ref b), (1, .ref x), (2, .ref mo)] → W p l e room_1 s m #[Value.ref b] below meth c H locs (66 + 240 * j) (67411 + 1200 * j) (lw_Z below #[Value.ref b] s) (F0 m 1419 ls []) := by
  have hx := X.1
  have hb := X.2.1
  have hts := X.2.2.2.2.1
  have hY0 : ∀ q u, z_Y0 q = some u → q < s.heap.size := fun q u h => by cases h
  have hbA : ¬ ((∃ t, z_Y0 b = some t) ∨ s.heap.size ≤ b) := fun h => by
    rcases h with ⟨t, h⟩ | h
    · cases h
    · omega
  intro H Y locs ls fv Kv tv nv hI hY_x hY_mo hR hM hv hl
  refine lv_aload_n hx hb la_d1419 rfl (lv_at hl 2 rfl) ?_
  refine lv_aload_n hx hb la_d1420 rfl (lv_at hl 1 rfl) ?_
  refine lv_iload_n hx hb la_d1421 rfl (lv_at hl 0 rfl) ?_
  refine lv_iconst hx hb la_d1422 (v := 1) (by decide) ?_
  have ec1 : (1 : Int32).toInt = 1 := by decide
  refine lv_iadd hx hb la_d1423 ?_
  generalize hg_z1423 : i + (1 : Int32) = z1423
  have h_z1423 : z1423.toInt = i.toInt + 1 := by rw [← hg_z1423]; have := y_add (x := i) (y := (1 : Int32)) (by rw [ec1]; omega) (by rw [ec1]; omega); rw [ec1] at this; exact this
  refine va_sld hx hb hX hbl hbA hI.2.2.2 (z_vpin (by omega) (by omega)) la_d1424 ?_
  obtain ⟨e1424, hg_e1424⟩ : ∃ e1424 : Int32, xs z1423.toNatClampNeg = e1424 := ⟨_, rfl⟩
  rw [hg_e1424]
  have hbd := hR.bd hI.1
  refine y_call (z := (0, 171, 2, some 0, xM131)) (av := [.ref x, .int e1424]) (rest := []) (y_cokV (n := 1) (ci := 11) X ym_Tfrom rfl rfl rfl (x_cons (x_bw59 3 rfl rfl) (x_cons (x_bw59 4 rfl rfl) (x_cons (x_bw59 5 rfl rfl) (x_cons (x_bw0 1 rfl rfl) x_nilm)))) (x_bw59 6 rfl rfl) (by decide +kernel) ⟨Nat.le_of_ble_eq_true rfl, Nat.le_of_ble_eq_true rfl⟩) hY0 hI rfl la_d1425 hl.1 (Nat.le_of_ble_eq_true rfl) (by show (66 + 240 * j) + 0 ≤ 600000; omega) (by show (67411 + 1200 * j) + 0 ≤ 7302250; omega) (y_cons (y_cref hY_x rfl) (y_cons ⟨_, rfl, x_i32 _⟩ y_nil)) rfl (y_recv rfl hY_x) (fun t' h1 => by cases h1; exact ⟨_, _, _, _, hR⟩) (y_sub_ef (by decide +kernel)) fun v Yn o Hn L_ ho hr ha hIn hx_ hE hP => ?_
  replace hM := hM.E hY_mo hE (fun q u h => y_ext hx_ hI.1 h) (by decide +kernel) (by decide +kernel)
  obtain ⟨rA, gA, hra, hRn, hmA⟩ := hP _ _ _ _ _ _ rfl hR
  obtain rfl := hra
  replace hR := hRn
  replace hY_x := y_ext hx_ hI.1 hY_x
  replace hY_mo := y_ext hx_ hI.1 hY_mo
  clear ho hr ha hE hP hI hx_
  rename x_I _ _ _ _ _ _ _ _ _ _ => hI
  refine lv_pop hx hb la_d1428 rfl ?_
  refine lv_aload_n hx hb la_d1429 rfl (lv_at hl 3 rfl) ?_
  refine lv_aload_n hx hb la_d1430 rfl (lv_at hl 1 rfl) ?_
  refine lv_iload_n hx hb la_d1431 rfl (lv_at hl 0 rfl) ?_
  refine lv_iconst hx hb la_d1432 (v := 1) (by decide) ?_
  refine lv_iadd hx hb la_d1433 ?_
  generalize hg_z1433 : i + (1 : Int32) = z1433
  have h_z1433 : z1433.toInt = i.toInt + 1 := by rw [← hg_z1433]; have := y_add (x := i) (y := (1 : Int32)) (by rw [ec1]; omega) (by rw [ec1]; omega); rw [ec1] at this; exact this
  refine va_sld hx hb hX hbl hbA hI.2.2.2 (z_vpin (by omega) (by omega)) la_d1434 ?_
  obtain ⟨e1434, hg_e1434⟩ : ∃ e1434 : Int32, xs z1433.toNatClampNeg = e1434 := ⟨_, rfl⟩
  rw [hg_e1434]
  obtain rfl : e1424 = e1434 := by rw [← hg_e1424, ← hg_e1434, ← hg_z1423, ← hg_z1433]
  refine y_call (z := (0, 174, 2, some 17, xMfr)) (av := [.ref mo, .int e1424]) (rest := []) (y_cokV (n := 1) (ci := 12) X ym_fromX rfl rfl rfl (x_cons (x_bw87 7 rfl rfl) (x_cons (x_bw87 8 rfl rfl) (x_cons (x_bw87 9 rfl rfl) (x_cons (x_bw0 9 rfl rfl) x_nilm)))) (x_bw87 10 rfl rfl) (by decide +kernel) ⟨Nat.le_of_ble_eq_true rfl, Nat.le_of_ble_eq_true rfl⟩) hY0 hI rfl la_d1435 hl.1 (Nat.le_of_ble_eq_true rfl) (by show (66 + 240 * j) + 0 + 0 ≤ 600000; omega) (by show (67411 + 1200 * j) + 0 + 0 ≤ 7302250; omega) (y_cons (y_cref hY_mo rfl) (y_cons ⟨_, rfl, x_i32 _⟩ y_nil)) rfl (y_recv rfl hY_mo) trivial (y_sub_ef (by decide +kernel)) fun v Yn o Hn L_ ho hr ha hIn hx_ hE hP => ?_
  replace hR := hR.E2 hY_x hE (fun q u h => y_ext hx_ hI.1 h) (by decide +kernel)
  obtain ⟨bk9, hb1, hb2, hb3⟩ := hM.bk
  obtain ⟨rB, gB, hrb, hmB, -, hABf⟩ := hM.frm hI.1 hP
  have hAB := hABf _ hb1
  obtain rfl := hrb
  have hi9 := hmA.inv hv.1
  have hi8 := hmA.rg hv.2
  obtain ⟨w4, w5⟩ := hmA.eq hmB
  subst w4 w5
  replace hM := hM.book hY_mo hE (fun q u h => y_ext hx_ hI.1 h) (by decide +kernel) hR.zc (fun b hb => by cases hb1.symm.trans hb; exact hAB)
  replace hv : m_inv2 _ Kv := ⟨⟨hi9, hv.1.2⟩, hi8, hv.2.2⟩
  replace hY_x := y_ext hx_ hI.1 hY_x
  replace hY_mo := y_ext hx_ hI.1 hY_mo
  clear ho hr ha hE hP hI hx_
  rename x_I _ _ _ _ _ _ _ _ _ _ => hI
  refine lv_pop hx hb la_d1438 rfl ?_
  refine lv_goto hx hb la_d1439 (tgt := 1501) (by decide) ?_
  refine W.widen (k := (66 + 240 * (j + 1))) (n := (67411 + 1200 * (j + 1))) (by show (66 + 240 * j) + 0 + 0 ≤ (66 + 240 * (j + 1)); omega) (by show (67411 + 1200 * j) + 0 + 0 ≤ (67411 + 1200 * (j + 1)); omega) ?_
  exact out _ _ _ _ _ _ _ _ hI hY_x hY_mo hR hM hv (lv_sub hl [0, 1, 2, 3] rfl)
theorem la_c38 {p : Program} {l : Launch} {e : Env} {s : State} {m : MethodId} {below : List Frame} {meth : Method} {c : Code} {D : va_G} {b L : Nat} {xs : Nat → Int32} (X : x_cx p s m #[Value.ref b] c D s xMlaw.2.1 xMlaw.2.2.1 vwCl x_Tb x_Nb "TwinFiresLaw") (hrt : meth.sig.returnType = ret) (hlk : meth.locks = false) (hX : va_X b L xs s s.heap) (hbl : b < s.heap.size) (hL : L ≤ 3072) {x mo : Nat} {i : Int32} {j : Nat} (hi : i.toInt = 6 * (j : Int)) (hj : 6 * j + 6 ≤ L)
    (out : ∀ (H : Heap) (Y : xY) (locs : List Loc) (ls : Array Slot) (fv : Nat → Int32) (Kv : Nat → Option (Nat → Int32)) (tv : Nat → Int32) (nv : Int32), x_I D x_G x_Zs s (x_efs xMlaw) z_Y0 s.heap Y H locs → Y x = some 0 → Y mo = some 17 → z_RC D Y H x fv Kv tv nv → z_RM D Y H mo fv Kv tv nv → m_inv2 fv Kv → lv_has ls 4 [(3, .int i), (0, .ref b), (1, .ref x), (2, .ref mo)] → W p l e room_1 s m #[Value.ref b] below meth c H locs (66 + 240 * (j + 1)) (67411 + 1200 * (j + 1)) (lw_Z below #[Value.ref b] s) (F0 m 1501 ls [])) :
    ∀ (H : Heap) (Y : xY) (locs : List Loc) (ls : Array Slot) (fv : Nat → Int32) (Kv : Nat → Option (Nat → Int32)) (tv : Nat → Int32) (nv : Int32), x_I D x_G x_Zs s (x_efs xMlaw) z_Y0 s.heap Y H locs → Y x = some 0 → Y mo = some 17 → z_RC D Y H x fv Kv tv nv → z_RM D Y H mo fv Kv tv nv → m_inv2 fv Kv → lv_has ls 4 [(3, .int i), (0, .ref b), (1, .ref x), (2, .ref mo)] → W p l e room_1 s m #[Value.ref b] below meth c H locs (66 + 240 * j) (67411 + 1200 * j) (lw_Z below #[Value.ref b] s) (F0 m 1442 ls []) := by
  have hx := X.1
  have hb := X.2.1
  have hts := X.2.2.2.2.1
  have hY0 : ∀ q u, z_Y0 q = some u → q < s.heap.size := fun q u h => by cases h
  have hbA : ¬ ((∃ t, z_Y0 b = some t) ∨ s.heap.size ≤ b) := fun h => by
    rcases h with ⟨t, h⟩ | h
    · cases h
    · omega
  intro H Y locs ls fv Kv tv nv hI hY_x hY_mo hR hM hv hl
  refine lv_aload_n hx hb la_d1442 rfl (lv_at hl 2 rfl) ?_
  refine lv_aload_n hx hb la_d1443 rfl (lv_at hl 1 rfl) ?_
  refine lv_iload_n hx hb la_d1444 rfl (lv_at hl 0 rfl) ?_
  refine lv_iconst hx hb la_d1445 (v := 1) (by decide) ?_
  have ec1 : (1 : Int32).toInt = 1 := by decide
  refine lv_iadd hx hb la_d1446 ?_
  generalize hg_z1446 : i + (1 : Int32) = z1446
  have h_z1446 : z1446.toInt = i.toInt + 1 := by rw [← hg_z1446]; have := y_add (x := i) (y := (1 : Int32)) (by rw [ec1]; omega) (by rw [ec1]; omega); rw [ec1] at this; exact this
  refine va_sld hx hb hX hbl hbA hI.2.2.2 (z_vpin (by omega) (by omega)) la_d1447 ?_
  obtain ⟨e1447, hg_e1447⟩ : ∃ e1447 : Int32, xs z1446.toNatClampNeg = e1447 := ⟨_, rfl⟩
  rw [hg_e1447]
  refine y_call (z := (0, 175, 2, some 0, xM132)) (av := [.ref x, .int e1447]) (rest := []) (y_cok.of (x_cokV (n := 1) (ci := 11) X xm132 rfl rfl rfl (x_cons (x_bw59 7 rfl rfl) (x_cons (x_bw59 8 rfl rfl) (x_cons (x_bw59 9 rfl rfl) (x_cons (x_bw0 1 rfl rfl) x_nilm)))) (x_bw59 10 rfl rfl) (by decide +kernel) ⟨Nat.le_of_ble_eq_true rfl, Nat.le_of_ble_eq_true rfl⟩)) hY0 hI rfl la_d1448 hl.1 (Nat.le_of_ble_eq_true rfl) (by show (66 + 240 * j) + 0 ≤ 600000; omega) (by show (67411 + 1200 * j) + 0 ≤ 7302250; omega) (y_cons (y_cref hY_x rfl) (y_cons ⟨_, rfl, x_i32 _⟩ y_nil)) rfl (y_recv rfl hY_x) trivial (y_sub_ef (by decide +kernel)) fun v Yn o Hn L_ ho hr ha hIn hx_ hE hP => ?_
  replace hM := hM.E hY_mo hE (fun q u h => y_ext hx_ hI.1 h) (by decide +kernel) (by decide +kernel)
  replace hR := hR.E2 hY_x hE (fun q u h => y_ext hx_ hI.1 h) (by decide +kernel)
  replace hY_x := y_ext hx_ hI.1 hY_x
  replace hY_mo := y_ext hx_ hI.1 hY_mo
  obtain ⟨r1448, rfl, h_r1448⟩ := y_ansI (lo := (-2147483648)) (hi := 2147483647) (by decide) ho hr
  clear ho hr ha hE hP hI hx_
  rename x_I _ _ _ _ _ _ _ _ _ _ => hI
  refine lv_pop hx hb la_d1451 rfl ?_
  refine lv_aload_n hx hb la_d1452 rfl (lv_at hl 3 rfl) ?_
  refine lv_aload_n hx hb la_d1453 rfl (lv_at hl 1 rfl) ?_
  refine lv_iload_n hx hb la_d1454 rfl (lv_at hl 0 rfl) ?_
  refine lv_iconst hx hb la_d1455 (v := 1) (by decide) ?_
  refine lv_iadd hx hb la_d1456 ?_
  generalize hg_z1456 : i + (1 : Int32) = z1456
  have h_z1456 : z1456.toInt = i.toInt + 1 := by rw [← hg_z1456]; have := y_add (x := i) (y := (1 : Int32)) (by rw [ec1]; omega) (by rw [ec1]; omega); rw [ec1] at this; exact this
  refine va_sld hx hb hX hbl hbA hI.2.2.2 (z_vpin (by omega) (by omega)) la_d1457 ?_
  obtain ⟨e1457, hg_e1457⟩ : ∃ e1457 : Int32, xs z1456.toNatClampNeg = e1457 := ⟨_, rfl⟩
  rw [hg_e1457]
  refine y_call (z := (0, 178, 2, some 17, xM223)) (av := [.ref mo, .int e1457]) (rest := []) (y_cok.of (x_cokV (n := 1) (ci := 12) X xm223 rfl rfl rfl (x_cons (x_bw87 11 rfl rfl) (x_cons (x_bw87 12 rfl rfl) (x_cons (x_bw87 13 rfl rfl) (x_cons (x_bw0 9 rfl rfl) x_nilm)))) (x_bw87 14 rfl rfl) (by decide +kernel) ⟨Nat.le_of_ble_eq_true rfl, Nat.le_of_ble_eq_true rfl⟩)) hY0 hI rfl la_d1458 hl.1 (Nat.le_of_ble_eq_true rfl) (by show (66 + 240 * j) + 0 + 0 ≤ 600000; omega) (by show (67411 + 1200 * j) + 0 + 0 ≤ 7302250; omega) (y_cons (y_cref hY_mo rfl) (y_cons ⟨_, rfl, x_i32 _⟩ y_nil)) rfl (y_recv rfl hY_mo) trivial (y_sub_ef (by decide +kernel)) fun v Yn o Hn L_ ho hr ha hIn hx_ hE hP => ?_
  replace hR := hR.E2 hY_x hE (fun q u h => y_ext hx_ hI.1 h) (by decide +kernel)
  replace hM := hM.E hY_mo hE (fun q u h => y_ext hx_ hI.1 h) (by decide +kernel) (by decide +kernel)
  replace hY_x := y_ext hx_ hI.1 hY_x
  replace hY_mo := y_ext hx_ hI.1 hY_mo
  obtain ⟨r1458, rfl, h_r1458⟩ := y_ansI (lo := (-2147483648)) (hi := 2147483647) (by decide) ho hr
  clear ho hr ha hE hP hI hx_
  rename x_I _ _ _ _ _ _ _ _ _ _ => hI
  refine lv_pop hx hb la_d1461 rfl ?_
  refine lv_goto hx hb la_d1462 (tgt := 1501) (by decide) ?_
  refine W.widen (k := (66 + 240 * (j + 1))) (n := (67411 + 1200 * (j + 1))) (by show (66 + 240 * j) + 0 + 0 ≤ (66 + 240 * (j + 1)); omega) (by show (67411 + 1200 * j) + 0 + 0 ≤ (67411 + 1200 * (j + 1)); omega) ?_
  exact out _ _ _ _ _ _ _ _ hI hY_x hY_mo hR hM hv (lv_sub hl [0, 1, 2, 3] rfl)
theorem la_c39 {p : Program} {l : Launch} {e : Env} {s : State} {m : MethodId} {below : List Frame} {meth : Method} {c : Code} {D : va_G} {b L : Nat} {xs : Nat → Int32} (X : x_cx p s m #[Value.ref b] c D s xMlaw.2.1 xMlaw.2.2.1 vwCl x_Tb x_Nb "TwinFiresLaw") (hrt : meth.sig.returnType = ret) (hlk : meth.locks = false) (hX : va_X b L xs s s.heap) (hbl : b < s.heap.size) (hL : L ≤ 3072) {x mo : Nat} {i : Int32} {j : Nat} (hi : i.toInt = 6 * (j : Int)) (hj : 6 * j + 6 ≤ L)
    (out : ∀ (H : Heap) (Y : xY) (locs : List Loc) (ls : Array Slot) (fv : Nat → Int32) (Kv : Nat → Option (Nat → Int32)) (tv : Nat → Int32) (nv : Int32), x_I D x_G x_Zs s (x_efs xMlaw) z_Y0 s.heap Y H locs → Y x = some 0 → Y mo = some 17 → z_RC D Y H x fv Kv tv nv → z_RM D Y H mo fv Kv tv nv → m_inv2 fv Kv → lv_has ls 4 [(3, .int i), (0, .ref b), (1, .ref x), (2, .ref mo)] → W p l e room_1 s m #[Value.ref b] below meth c H locs (66 + 240 * (j + 1)) (67411 + 1200 * (j + 1)) (lw_Z below #[Value.ref b] s) (F0 m 1501 ls [])) :
    ∀ (H : Heap) (Y : xY) (locs : List Loc) (ls : Array Slot) (fv : Nat → Int32) (Kv : Nat → Option (Nat → Int32)) (tv : Nat → Int32) (nv : Int32), x_I D x_G x_Zs s (x_efs xMlaw) z_Y0 s.heap Y H locs → Y x = some 0 → Y mo = some 17 → z_RC D Y H x fv Kv tv nv → z_RM D Y H mo fv Kv tv nv → m_inv2 fv Kv → lv_has ls 4 [(3, .int i), (0, .ref b), (1, .ref x), (2, .ref mo)] → W p l e room_1 s m #[Value.ref b] below meth c H locs (66 + 240 * j) (67411 + 1200 * j) (lw_Z below #[Value.ref b] s) (F0 m 1465 ls []) := by
  have hx := X.1
  have hb := X.2.1
  have hts := X.2.2.2.2.1
  have hY0 : ∀ q u, z_Y0 q = some u → q < s.heap.size := fun q u h => by cases h
  have hbA : ¬ ((∃ t, z_Y0 b = some t) ∨ s.heap.size ≤ b) := fun h => by
    rcases h with ⟨t, h⟩ | h
    · cases h
    · omega
  intro H Y locs ls fv Kv tv nv hI hY_x hY_mo hR hM hv hl
  refine lv_aload_n hx hb la_d1465 rfl (lv_at hl 2 rfl) ?_
  refine lv_aload_n hx hb la_d1466 rfl (lv_at hl 1 rfl) ?_
  refine lv_iload_n hx hb la_d1467 rfl (lv_at hl 0 rfl) ?_
  refine lv_iconst hx hb la_d1468 (v := 1) (by decide) ?_
  have ec1 : (1 : Int32).toInt = 1 := by decide
  refine lv_iadd hx hb la_d1469 ?_
  generalize hg_z1469 : i + (1 : Int32) = z1469
  have h_z1469 : z1469.toInt = i.toInt + 1 := by rw [← hg_z1469]; have := y_add (x := i) (y := (1 : Int32)) (by rw [ec1]; omega) (by rw [ec1]; omega); rw [ec1] at this; exact this
  refine va_sld hx hb hX hbl hbA hI.2.2.2 (z_vpin (by omega) (by omega)) la_d1470 ?_
  obtain ⟨e1470, hg_e1470⟩ : ∃ e1470 : Int32, xs z1469.toNatClampNeg = e1470 := ⟨_, rfl⟩
  rw [hg_e1470]
  refine y_call (z := (0, 179, 2, some 0, xM134)) (av := [.ref x, .int e1470]) (rest := []) (y_cok.of (x_cokV (n := 1) (ci := 11) X xm134 rfl rfl rfl (x_cons (x_bw59 11 rfl rfl) (x_cons (x_bw59 12 rfl rfl) (x_cons (x_bw59 13 rfl rfl) (x_cons (x_bw0 1 rfl rfl) x_nilm)))) (x_bw59 14 rfl rfl) (by decide +kernel) ⟨Nat.le_of_ble_eq_true rfl, Nat.le_of_ble_eq_true rfl⟩)) hY0 hI rfl la_d1471 hl.1 (Nat.le_of_ble_eq_true rfl) (by show (66 + 240 * j) + 0 ≤ 600000; omega) (by show (67411 + 1200 * j) + 0 ≤ 7302250; omega) (y_cons (y_cref hY_x rfl) (y_cons ⟨_, rfl, x_i32 _⟩ y_nil)) rfl (y_recv rfl hY_x) trivial (y_sub_ef (by decide +kernel)) fun v Yn o Hn L_ ho hr ha hIn hx_ hE hP => ?_
  replace hM := hM.E hY_mo hE (fun q u h => y_ext hx_ hI.1 h) (by decide +kernel) (by decide +kernel)
  replace hR := hR.E2 hY_x hE (fun q u h => y_ext hx_ hI.1 h) (by decide +kernel)
  replace hY_x := y_ext hx_ hI.1 hY_x
  replace hY_mo := y_ext hx_ hI.1 hY_mo
  obtain ⟨r1471, rfl, h_r1471⟩ := y_ansI (lo := (-2147483648)) (hi := 2147483647) (by decide) ho hr
  clear ho hr ha hE hP hI hx_
  rename x_I _ _ _ _ _ _ _ _ _ _ => hI
  refine lv_pop hx hb la_d1474 rfl ?_
  refine lv_aload_n hx hb la_d1475 rfl (lv_at hl 3 rfl) ?_
  refine lv_aload_n hx hb la_d1476 rfl (lv_at hl 1 rfl) ?_
  refine lv_iload_n hx hb la_d1477 rfl (lv_at hl 0 rfl) ?_
  refine lv_iconst hx hb la_d1478 (v := 1) (by decide) ?_
  refine lv_iadd hx hb la_d1479 ?_
  generalize hg_z1479 : i + (1 : Int32) = z1479
  have h_z1479 : z1479.toInt = i.toInt + 1 := by rw [← hg_z1479]; have := y_add (x := i) (y := (1 : Int32)) (by rw [ec1]; omega) (by rw [ec1]; omega); rw [ec1] at this; exact this
  refine va_sld hx hb hX hbl hbA hI.2.2.2 (z_vpin (by omega) (by omega)) la_d1480 ?_
  obtain ⟨e1480, hg_e1480⟩ : ∃ e1480 : Int32, xs z1479.toNatClampNeg = e1480 := ⟨_, rfl⟩
  rw [hg_e1480]
  refine y_call (z := (0, 182, 2, some 17, xM226)) (av := [.ref mo, .int e1480]) (rest := []) (y_cok.of (x_cokV (n := 1) (ci := 12) X xm226 rfl rfl rfl (x_cons (x_bw87 15 rfl rfl) (x_cons (x_bw88 0 rfl rfl) (x_cons (x_bw88 1 rfl rfl) (x_cons (x_bw0 9 rfl rfl) x_nilm)))) (x_bw88 2 rfl rfl) (by decide +kernel) ⟨Nat.le_of_ble_eq_true rfl, Nat.le_of_ble_eq_true rfl⟩)) hY0 hI rfl la_d1481 hl.1 (Nat.le_of_ble_eq_true rfl) (by show (66 + 240 * j) + 0 + 0 ≤ 600000; omega) (by show (67411 + 1200 * j) + 0 + 0 ≤ 7302250; omega) (y_cons (y_cref hY_mo rfl) (y_cons ⟨_, rfl, x_i32 _⟩ y_nil)) rfl (y_recv rfl hY_mo) trivial (y_sub_ef (by decide +kernel)) fun v Yn o Hn L_ ho hr ha hIn hx_ hE hP => ?_
  replace hR := hR.E2 hY_x hE (fun q u h => y_ext hx_ hI.1 h) (by decide +kernel)
  replace hM := hM.E hY_mo hE (fun q u h => y_ext hx_ hI.1 h) (by decide +kernel) (by decide +kernel)
  replace hY_x := y_ext hx_ hI.1 hY_x
  replace hY_mo := y_ext hx_ hI.1 hY_mo
  obtain ⟨r1481, rfl, h_r1481⟩ := y_ansI (lo := (-2147483648)) (hi := 2147483647) (by decide) ho hr
  clear ho hr ha hE hP hI hx_
  rename x_I _ _ _ _ _ _ _ _ _ _ => hI
  refine lv_pop hx hb la_d1484 rfl ?_
  refine lv_goto hx hb la_d1485 (tgt := 1501) (by decide) ?_
  refine W.widen (k := (66 + 240 * (j + 1))) (n := (67411 + 1200 * (j + 1))) (by show (66 + 240 * j) + 0 + 0 ≤ (66 + 240 * (j + 1)); omega) (by show (67411 + 1200 * j) + 0 + 0 ≤ (67411 + 1200 * (j + 1)); omega) ?_
  exact out _ _ _ _ _ _ _ _ hI hY_x hY_mo hR hM hv (lv_sub hl [0, 1, 2, 3] rfl)
theorem la_c40 {p : Program} {l : Launch} {e : Env} {s : State} {m : MethodId} {below : List Frame} {meth : Method} {c : Code} {D : va_G} {b L : Nat} {xs : Nat → Int32} (X : x_cx p s m #[Value.ref b] c D s xMlaw.2.1 xMlaw.2.2.1 vwCl x_Tb x_Nb "TwinFiresLaw") (hrt : meth.sig.returnType = ret) (hlk : meth.locks = false) (hX : va_X b L xs s s.heap) (hbl : b < s.heap.size) (hL : L ≤ 3072) {x mo : Nat} {i : Int32} {j : Nat} (hi : i.toInt = 6 * (j : Int)) (hj : 6 * j + 6 ≤ L)
    (out : ∀ (H : Heap) (Y : xY) (locs : List Loc) (ls : Array Slot) (fv : Nat → Int32) (Kv : Nat → Option (Nat → Int32)) (tv : Nat → Int32) (nv : Int32), x_I D x_G x_Zs s (x_efs xMlaw) z_Y0 s.heap Y H locs → Y x = some 0 → Y mo = some 17 → z_RC D Y H x fv Kv tv nv → z_RM D Y H mo fv Kv tv nv → m_inv2 fv Kv → lv_has ls 4 [(3, .int i), (0, .ref b), (1, .ref x), (2, .ref mo)] → W p l e room_1 s m #[Value.ref b] below meth c H locs (66 + 240 * (j + 1)) (67411 + 1200 * (j + 1)) (lw_Z below #[Value.ref b] s) (F0 m 1501 ls [])) :
    ∀ (H : Heap) (Y : xY) (locs : List Loc) (ls : Array Slot) (fv : Nat → Int32) (Kv : Nat → Option (Nat → Int32)) (tv : Nat → Int32) (nv : Int32), x_I D x_G x_Zs s (x_efs xMlaw) z_Y0 s.heap Y H locs → Y x = some 0 → Y mo = some 17 → z_RC D Y H x fv Kv tv nv → z_RM D Y H mo fv Kv tv nv → m_inv2 fv Kv → lv_has ls 4 [(3, .int i), (0, .ref b), (1, .ref x), (2, .ref mo)] → W p l e room_1 s m #[Value.ref b] below meth c H locs (66 + 240 * j) (67411 + 1200 * j) (lw_Z below #[Value.ref b] s) (F0 m 1488 ls []) := by
  have hx := X.1
  have hb := X.2.1
  have hts := X.2.2.2.2.1
  have hY0 : ∀ q u, z_Y0 q = some u → q < s.heap.size := fun q u h => by cases h
  have hbA : ¬ ((∃ t, z_Y0 b = some t) ∨ s.heap.size ≤ b) := fun h => by
    rcases h with ⟨t, h⟩ | h
    · cases h
    · omega
  intro H Y locs ls fv Kv tv nv hI hY_x hY_mo hR hM hv hl
  refine lv_aload_n hx hb la_d1488 rfl (lv_at hl 2 rfl) ?_
  refine y_call (z := (0, 183, 1, some 0, xM139)) (av := [.ref x]) (rest := []) (y_cok.of (x_cokV (n := 0) (ci := 11) X xm139 rfl rfl rfl (x_cons (x_bw60 3 rfl rfl) (x_cons (x_bw60 4 rfl rfl) (x_cons (x_bw60 5 rfl rfl) (x_cons (x_bw0 1 rfl rfl) x_nilm)))) (x_bw60 6 rfl rfl) (by decide +kernel) ⟨Nat.le_of_ble_eq_true rfl, Nat.le_of_ble_eq_true rfl⟩)) hY0 hI rfl la_d1489 hl.1 (Nat.le_of_ble_eq_true rfl) (by show (66 + 240 * j) + 0 ≤ 600000; omega) (by show (67411 + 1200 * j) + 0 ≤ 7302250; omega) (y_cons (y_cref hY_x rfl) y_nil) rfl (y_recv rfl hY_x) trivial (y_sub_ef (by decide +kernel)) fun v Yn o Hn L_ ho hr ha hIn hx_ hE hP => ?_
  replace hM := hM.E hY_mo hE (fun q u h => y_ext hx_ hI.1 h) (by decide +kernel) (by decide +kernel)
  replace hR := hR.E2 hY_x hE (fun q u h => y_ext hx_ hI.1 h) (by decide +kernel)
  replace hY_x := y_ext hx_ hI.1 hY_x
  replace hY_mo := y_ext hx_ hI.1 hY_mo
  obtain ⟨r1489, rfl⟩ := y_ansL (by decide) ho hr
  clear ho hr ha hE hP hI hx_
  rename x_I _ _ _ _ _ _ _ _ _ _ => hI
  refine lv_pop2_2 hx hb la_d1492 rfl ?_
  refine lv_aload_n hx hb la_d1493 rfl (lv_at hl 3 rfl) ?_
  refine y_call (z := (0, 187, 1, some 17, xM233)) (av := [.ref mo]) (rest := []) (y_cok.of (x_cokV (n := 0) (ci := 12) X xm233 rfl rfl rfl (x_cons (x_bw88 8 rfl rfl) (x_cons (x_bw88 9 rfl rfl) (x_cons (x_bw88 10 rfl rfl) (x_cons (x_bw0 9 rfl rfl) x_nilm)))) (x_bw88 11 rfl rfl) (by decide +kernel) ⟨Nat.le_of_ble_eq_true rfl, Nat.le_of_ble_eq_true rfl⟩)) hY0 hI rfl la_d1494 hl.1 (Nat.le_of_ble_eq_true rfl) (by show (66 + 240 * j) + 0 + 0 ≤ 600000; omega) (by show (67411 + 1200 * j) + 0 + 0 ≤ 7302250; omega) (y_cons (y_cref hY_mo rfl) y_nil) rfl (y_recv rfl hY_mo) trivial (y_sub_ef (by decide +kernel)) fun v Yn o Hn L_ ho hr ha hIn hx_ hE hP => ?_
  replace hR := hR.E2 hY_x hE (fun q u h => y_ext hx_ hI.1 h) (by decide +kernel)
  replace hM := hM.E hY_mo hE (fun q u h => y_ext hx_ hI.1 h) (by decide +kernel) (by decide +kernel)
  replace hY_x := y_ext hx_ hI.1 hY_x
  replace hY_mo := y_ext hx_ hI.1 hY_mo
  obtain ⟨r1494, rfl⟩ := y_ansL (by decide) ho hr
  clear ho hr ha hE hP hI hx_
  rename x_I _ _ _ _ _ _ _ _ _ _ => hI
  refine lv_pop2_2 hx hb la_d1497 rfl ?_
  refine lv_goto hx hb la_d1498 (tgt := 1501) (by decide) ?_
  refine W.widen (k := (66 + 240 * (j + 1))) (n := (67411 + 1200 * (j + 1))) (by show (66 + 240 * j) + 0 + 0 ≤ (66 + 240 * (j + 1)); omega) (by show (67411 + 1200 * j) + 0 + 0 ≤ (67411 + 1200 * (j + 1)); omega) ?_
  exact out _ _ _ _ _ _ _ _ hI hY_x hY_mo hR hM hv (lv_sub hl [0, 1, 2, 3] rfl)
theorem la_L18 {p : Program} {l : Launch} {e : Env} {s : State} {m : MethodId} {below : List Frame} {meth : Method} {c : Code} {D : va_G} {b L : Nat} {xs : Nat → Int32} (X : x_cx p s m #[Value.ref b] c D s xMlaw.2.1 xMlaw.2.2.1 vwCl x_Tb x_Nb "TwinFiresLaw") (hrt : meth.sig.returnType = ret) (hlk : meth.locks = false) (hX : va_X b L xs s s.heap) (hbl : b < s.heap.size) (hL : L ≤ 3072) {x mo : Nat} :
    ∀ (n : Nat) (H : Heap) (Y : xY) (locs : List Loc) (ls : Array Slot) (i : Int32) (fv : Nat → Int32) (Kv : Nat → Option (Nat → Int32)) (tv : Nat → Int32) (nv : Int32) (j : Nat), x_I D x_G x_Zs s (x_efs xMlaw) z_Y0 s.heap Y H locs → Y x = some 0 → Y mo = some 17 → z_RC D Y H x fv Kv tv nv → z_RM D Y H mo fv Kv tv nv → m_inv2 fv Kv → lv_has ls 4 [(3, .int i), (0, .ref b), (1, .ref x), (2, .ref mo)] → i.toInt = 6 * (j : Int) → 6 * j ≤ L → L - 6 * j < n → W p l e room_1 s m #[Value.ref b] below meth c H locs (66 + 240 * j) (67411 + 1200 * j) (lw_Z below #[Value.ref b] s) (F0 m 18 ls []) := by
  have hx := X.1
  have hb := X.2.1
  have hts := X.2.2.2.2.1
  have hY0 : ∀ q u, z_Y0 q = some u → q < s.heap.size := fun q u h => by cases h
  have hbA : ¬ ((∃ t, z_Y0 b = some t) ∨ s.heap.size ≤ b) := fun h => by
    rcases h with ⟨t, h⟩ | h
    · cases h
    · omega
  intro n
  induction n with
  | zero => intro _ _ _ _ _ _ _ _ _ _ _ _ _ _ _ _ _ _ _ h; exact absurd h (Nat.not_lt_zero _)
  | succ n ih =>
    intro H Y locs ls i fv Kv tv nv j hI hY_x hY_mo hR hM hv hl hi hj hn
    refine lv_iload_n hx hb la_d18 rfl (lv_at hl 0 rfl) ?_
    refine lv_aload_n hx hb la_d19 rfl (lv_at hl 1 rfl) ?_
    refine va_slen hx hb hX hbl hbA hI.2.2.2 la_d20 ?_
    obtain ⟨ln, hg_ln⟩ : ∃ ln : Int32, Int32.ofNat L = ln := ⟨_, rfl⟩
    rw [hg_ln]
    have h_ln : ln.toInt = (L : Int) := by rw [← hg_ln]; exact nI_toInt (by omega)
    refine lv_bipush hx hb la_d21 (v := 6) (by decide) ?_
    have ec6 : (6 : Int32).toInt = 6 := by decide
    refine lv_isub hx hb la_d23 ?_
    generalize hg_z23 : ln - (6 : Int32) = z23
    have h_z23 : z23.toInt = ln.toInt - 6 := by rw [← hg_z23]; have := y_sub (x := ln) (y := (6 : Int32)) (by rw [ec6]; omega) (by rw [ec6]; omega); rw [ec6] at this; exact this
    refine lv_icmp_gt hx hb la_d24 (tgt := 1507) (by decide) (fun q24 => ?_) (fun q24 => ?_)
    · refine lv_iconst hx hb la_d1507 (v := 1) (by decide) ?_
      refine W.widen (k := 600000) (n := 7302250) (by show (66 + 240 * j) ≤ 600000; omega) (by show (67411 + 1200 * j) ≤ 7302250; omega) ?_
      refine W.forget (locs := []) (L := locs) (fun q hq => ?_) (lw_ret hx hb hrt hlk la_d1508)
      rcases hI.2.2.2.2.2 q hq with ⟨t, h⟩ | h
      · cases h
      · exact h
    · have q24_ : i.toInt ≤ z23.toInt := Int.not_lt.mp fun q => q24 (x_lt32.mpr q)
      have out : ∀ (H : Heap) (Y : xY) (locs : List Loc) (ls : Array Slot) (fv : Nat → Int32) (Kv : Nat → Option (Nat → Int32)) (tv : Nat → Int32) (nv : Int32), x_I D x_G x_Zs s (x_efs xMlaw) z_Y0 s.heap Y H locs → Y x = some 0 → Y mo = some 17 → z_RC D Y H x fv Kv tv nv → z_RM D Y H mo fv Kv tv nv → m_inv2 fv Kv → lv_has ls 4 [(3, .int i), (0, .ref b), (1, .ref x), (2, .ref mo)] → W p l e room_1 s m #[Value.ref b] below meth c H locs (66 + 240 * (j + 1)) (67411 + 1200 * (j + 1)) (lw_Z below #[Value.ref b] s) (F0 m 1501 ls []) := by
        intro H Y locs ls fv Kv tv nv hI hY_x hY_mo hR hM hv hl
        obtain ⟨z1, hg_z1⟩ : ∃ z1 : Int32, i + Int32.ofInt 6 = z1 := ⟨_, rfl⟩
        have h_z1 : z1.toInt = i.toInt + 6 := by rw [← hg_z1]; exact y_inc (by decide) (by omega) (by omega)
        refine lv_iinc hx hb la_d1501 hl (k := 0) rfl hg_z1 (by decide) (lv' := [(3, .int z1), (0, .ref b), (1, .ref x), (2, .ref mo)]) rfl fun ls hl => ?_
        refine lv_goto hx hb la_d1504 (tgt := 18) (by decide) ?_
        exact ih _ _ _ _ _ _ _ _ _ _ hI hY_x hY_mo hR hM hv hl (by omega) (by omega) (by omega)
      refine lv_aload_n hx hb la_d27 rfl (lv_at hl 1 rfl) ?_
      refine lv_iload_n hx hb la_d28 rfl (lv_at hl 0 rfl) ?_
      refine va_sld hx hb hX hbl hbA hI.2.2.2 (z_vpin (by omega) (by omega)) la_d29 ?_
      refine lv_bipush hx hb la_d30 (v := 63) (by decide) ?_
      refine lv_iand hx hb la_d32 ?_
      generalize xs i.toNatClampNeg &&& 63 = w
      by_cases hlo : w.toInt < 0 ∨ 40 < w.toInt
      · refine lv_tableOut hx hb la_d33 hlo (tgt := 1501) (by decide) ?_
        refine W.widen (k := (66 + 240 * (j + 1))) (n := (67411 + 1200 * (j + 1))) (by show (66 + 240 * j) ≤ (66 + 240 * (j + 1)); omega) (by show (67411 + 1200 * j) ≤ (67411 + 1200 * (j + 1)); omega) ?_
        exact out _ _ _ _ _ _ _ _ hI hY_x hY_mo hR hM hv hl
      rcases (show w.toInt = 0 ∨ w.toInt = 1 ∨ w.toInt = 2 ∨ w.toInt = 3 ∨ w.toInt = 4 ∨ w.toInt = 5 ∨ w.toInt = 6 ∨ w.toInt = 7 ∨ w.toInt = 8 ∨ w.toInt = 9 ∨ w.toInt = 10 ∨ w.toInt = 11 ∨ w.toInt = 12 ∨ w.toInt = 13 ∨ w.toInt = 14 ∨ w.toInt = 15 ∨ w.toInt = 16 ∨ w.toInt = 17 ∨ w.toInt = 18 ∨ w.toInt = 19 ∨ w.toInt = 20 ∨ w.toInt = 21 ∨ w.toInt = 22 ∨ w.toInt = 23 ∨ w.toInt = 24 ∨ w.toInt = 25 ∨ w.toInt = 26 ∨ w.toInt = 27 ∨ w.toInt = 28 ∨ w.toInt = 29 ∨ w.toInt = 30 ∨ w.toInt = 31 ∨ w.toInt = 32 ∨ w.toInt = 33 ∨ w.toInt = 34 ∨ w.toInt = 35 ∨ w.toInt = 36 ∨ w.toInt = 37 ∨ w.toInt = 38 ∨ w.toInt = 39 ∨ w.toInt = 40 by omega) with hq | hq | hq | hq | hq | hq | hq | hq | hq | hq | hq | hq | hq | hq | hq | hq | hq | hq | hq | hq | hq | hq | hq | hq | hq | hq | hq | hq | hq | hq | hq | hq | hq | hq | hq | hq | hq | hq | hq | hq | hq
      · refine lv_tableIn hx hb la_d33 (by omega) (by omega) (off := 179) (by rw [hq]; rfl) (tgt := 212) (by decide) ?_
        exact la_c0 X hrt hlk hX hbl hL hi (by omega) out _ _ _ _ _ _ _ _ hI hY_x hY_mo hR hM hv hl
      · refine lv_tableIn hx hb la_d33 (by omega) (by omega) (off := 222) (by rw [hq]; rfl) (tgt := 255) (by decide) ?_
        exact la_c1 X hrt hlk hX hbl hL hi (by omega) out _ _ _ _ _ _ _ _ hI hY_x hY_mo hR hM hv hl
      · refine lv_tableIn hx hb la_d33 (by omega) (by omega) (off := 285) (by rw [hq]; rfl) (tgt := 318) (by decide) ?_
        exact la_c2 X hrt hlk hX hbl hL hi (by omega) out _ _ _ _ _ _ _ _ hI hY_x hY_mo hR hM hv hl
      · refine lv_tableIn hx hb la_d33 (by omega) (by omega) (off := 318) (by rw [hq]; rfl) (tgt := 351) (by decide) ?_
        exact la_c3 X hrt hlk hX hbl hL hi (by omega) out _ _ _ _ _ _ _ _ hI hY_x hY_mo hR hM hv hl
      · refine lv_tableIn hx hb la_d33 (by omega) (by omega) (off := 367) (by rw [hq]; rfl) (tgt := 400) (by decide) ?_
        exact la_c4 X hrt hlk hX hbl hL hi (by omega) out _ _ _ _ _ _ _ _ hI hY_x hY_mo hR hM hv hl
      · refine lv_tableIn hx hb la_d33 (by omega) (by omega) (off := 400) (by rw [hq]; rfl) (tgt := 433) (by decide) ?_
        exact la_c5 X hrt hlk hX hbl hL hi (by omega) out _ _ _ _ _ _ _ _ hI hY_x hY_mo hR hM hv hl
      · refine lv_tableIn hx hb la_d33 (by omega) (by omega) (off := 423) (by rw [hq]; rfl) (tgt := 456) (by decide) ?_
        exact la_c6 X hrt hlk hX hbl hL hi (by omega) out _ _ _ _ _ _ _ _ hI hY_x hY_mo hR hM hv hl
      · refine lv_tableIn hx hb la_d33 (by omega) (by omega) (off := 456) (by rw [hq]; rfl) (tgt := 489) (by decide) ?_
        exact la_c7 X hrt hlk hX hbl hL hi (by omega) out _ _ _ _ _ _ _ _ hI hY_x hY_mo hR hM hv hl
      · refine lv_tableIn hx hb la_d33 (by omega) (by omega) (off := 499) (by rw [hq]; rfl) (tgt := 532) (by decide) ?_
        exact la_c8 X hrt hlk hX hbl hL hi (by omega) out _ _ _ _ _ _ _ _ hI hY_x hY_mo hR hM hv hl
      · refine lv_tableIn hx hb la_d33 (by omega) (by omega) (off := 562) (by rw [hq]; rfl) (tgt := 595) (by decide) ?_
        exact la_c9 X hrt hlk hX hbl hL hi (by omega) out _ _ _ _ _ _ _ _ hI hY_x hY_mo hR hM hv hl
      · refine lv_tableIn hx hb la_d33 (by omega) (by omega) (off := 575) (by rw [hq]; rfl) (tgt := 608) (by decide) ?_
        exact la_c10 X hrt hlk hX hbl hL hi (by omega) out _ _ _ _ _ _ _ _ hI hY_x hY_mo hR hM hv hl
      · refine lv_tableIn hx hb la_d33 (by omega) (by omega) (off := 588) (by rw [hq]; rfl) (tgt := 621) (by decide) ?_
        exact la_c11 X hrt hlk hX hbl hL hi (by omega) out _ _ _ _ _ _ _ _ hI hY_x hY_mo hR hM hv hl
      · refine lv_tableIn hx hb la_d33 (by omega) (by omega) (off := 621) (by rw [hq]; rfl) (tgt := 654) (by decide) ?_
        exact la_c12 X hrt hlk hX hbl hL hi (by omega) out _ _ _ _ _ _ _ _ hI hY_x hY_mo hR hM hv hl
      · refine lv_tableIn hx hb la_d33 (by omega) (by omega) (off := 654) (by rw [hq]; rfl) (tgt := 687) (by decide) ?_
        exact la_c13 X hrt hlk hX hbl hL hi (by omega) out _ _ _ _ _ _ _ _ hI hY_x hY_mo hR hM hv hl
      · refine lv_tableIn hx hb la_d33 (by omega) (by omega) (off := 687) (by rw [hq]; rfl) (tgt := 720) (by decide) ?_
        exact la_c14 X hrt hlk hX hbl hL hi (by omega) out _ _ _ _ _ _ _ _ hI hY_x hY_mo hR hM hv hl
      · refine lv_tableIn hx hb la_d33 (by omega) (by omega) (off := 710) (by rw [hq]; rfl) (tgt := 743) (by decide) ?_
        exact la_c15 X hrt hlk hX hbl hL hi (by omega) out _ _ _ _ _ _ _ _ hI hY_x hY_mo hR hM hv hl
      · refine lv_tableIn hx hb la_d33 (by omega) (by omega) (off := 733) (by rw [hq]; rfl) (tgt := 766) (by decide) ?_
        exact la_c16 X hrt hlk hX hbl hL hi (by omega) out _ _ _ _ _ _ _ _ hI hY_x hY_mo hR hM hv hl
      · refine lv_tableIn hx hb la_d33 (by omega) (by omega) (off := 766) (by rw [hq]; rfl) (tgt := 799) (by decide) ?_
        exact la_c17 X hrt hlk hX hbl hL hi (by omega) out _ _ _ _ _ _ _ _ hI hY_x hY_mo hR hM hv hl
      · refine lv_tableIn hx hb la_d33 (by omega) (by omega) (off := 789) (by rw [hq]; rfl) (tgt := 822) (by decide) ?_
        exact la_c18 X hrt hlk hX hbl hL hi (by omega) out _ _ _ _ _ _ _ _ hI hY_x hY_mo hR hM hv hl
      · refine lv_tableIn hx hb la_d33 (by omega) (by omega) (off := 822) (by rw [hq]; rfl) (tgt := 855) (by decide) ?_
        exact la_c19 X hrt hlk hX hbl hL hi (by omega) out _ _ _ _ _ _ _ _ hI hY_x hY_mo hR hM hv hl
      · refine lv_tableIn hx hb la_d33 (by omega) (by omega) (off := 855) (by rw [hq]; rfl) (tgt := 888) (by decide) ?_
        exact la_c20 X hrt hlk hX hbl hL hi (by omega) out _ _ _ _ _ _ _ _ hI hY_x hY_mo hR hM hv hl
      · refine lv_tableIn hx hb la_d33 (by omega) (by omega) (off := 878) (by rw [hq]; rfl) (tgt := 911) (by decide) ?_
        exact la_c21 X hrt hlk hX hbl hL hi (by omega) out _ _ _ _ _ _ _ _ hI hY_x hY_mo hR hM hv hl
      · refine lv_tableIn hx hb la_d33 (by omega) (by omega) (off := 921) (by rw [hq]; rfl) (tgt := 954) (by decide) ?_
        exact la_c22 X hrt hlk hX hbl hL hi (by omega) out _ _ _ _ _ _ _ _ hI hY_x hY_mo hR hM hv hl
      · refine lv_tableIn hx hb la_d33 (by omega) (by omega) (off := 954) (by rw [hq]; rfl) (tgt := 987) (by decide) ?_
        exact la_c23 X hrt hlk hX hbl hL hi (by omega) out _ _ _ _ _ _ _ _ hI hY_x hY_mo hR hM hv hl
      · refine lv_tableIn hx hb la_d33 (by omega) (by omega) (off := 997) (by rw [hq]; rfl) (tgt := 1030) (by decide) ?_
        exact la_c24 X hrt hlk hX hbl hL hi (by omega) out _ _ _ _ _ _ _ _ hI hY_x hY_mo hR hM hv hl
      · refine lv_tableIn hx hb la_d33 (by omega) (by omega) (off := 1040) (by rw [hq]; rfl) (tgt := 1073) (by decide) ?_
        exact la_c25 X hrt hlk hX hbl hL hi (by omega) out _ _ _ _ _ _ _ _ hI hY_x hY_mo hR hM hv hl
      · refine lv_tableIn hx hb la_d33 (by omega) (by omega) (off := 1063) (by rw [hq]; rfl) (tgt := 1096) (by decide) ?_
        exact la_c26 X hrt hlk hX hbl hL hi (by omega) out _ _ _ _ _ _ _ _ hI hY_x hY_mo hR hM hv hl
      · refine lv_tableIn hx hb la_d33 (by omega) (by omega) (off := 1076) (by rw [hq]; rfl) (tgt := 1109) (by decide) ?_
        exact la_c27 X hrt hlk hX hbl hL hi (by omega) out _ _ _ _ _ _ _ _ hI hY_x hY_mo hR hM hv hl
      · refine lv_tableIn hx hb la_d33 (by omega) (by omega) (off := 1109) (by rw [hq]; rfl) (tgt := 1142) (by decide) ?_
        exact la_c28 X hrt hlk hX hbl hL hi (by omega) out _ _ _ _ _ _ _ _ hI hY_x hY_mo hR hM hv hl
      · refine lv_tableIn hx hb la_d33 (by omega) (by omega) (off := 1142) (by rw [hq]; rfl) (tgt := 1175) (by decide) ?_
        exact la_c29 X hrt hlk hX hbl hL hi (by omega) out _ _ _ _ _ _ _ _ hI hY_x hY_mo hR hM hv hl
      · refine lv_tableIn hx hb la_d33 (by omega) (by omega) (off := 1175) (by rw [hq]; rfl) (tgt := 1208) (by decide) ?_
        exact la_c30 X hrt hlk hX hbl hL hi (by omega) out _ _ _ _ _ _ _ _ hI hY_x hY_mo hR hM hv hl
      · refine lv_tableIn hx hb la_d33 (by omega) (by omega) (off := 1198) (by rw [hq]; rfl) (tgt := 1231) (by decide) ?_
        exact la_c31 X hrt hlk hX hbl hL hi (by omega) out _ _ _ _ _ _ _ _ hI hY_x hY_mo hR hM hv hl
      · refine lv_tableIn hx hb la_d33 (by omega) (by omega) (off := 1231) (by rw [hq]; rfl) (tgt := 1264) (by decide) ?_
        exact la_c32 X hrt hlk hX hbl hL hi (by omega) out _ _ _ _ _ _ _ _ hI hY_x hY_mo hR hM hv hl
      · refine lv_tableIn hx hb la_d33 (by omega) (by omega) (off := 1264) (by rw [hq]; rfl) (tgt := 1297) (by decide) ?_
        exact la_c33 X hrt hlk hX hbl hL hi (by omega) out _ _ _ _ _ _ _ _ hI hY_x hY_mo hR hM hv hl
      · refine lv_tableIn hx hb la_d33 (by omega) (by omega) (off := 1307) (by rw [hq]; rfl) (tgt := 1340) (by decide) ?_
        exact la_c34 X hrt hlk hX hbl hL hi (by omega) out _ _ _ _ _ _ _ _ hI hY_x hY_mo hR hM hv hl
      · refine lv_tableIn hx hb la_d33 (by omega) (by omega) (off := 1340) (by rw [hq]; rfl) (tgt := 1373) (by decide) ?_
        exact la_c35 X hrt hlk hX hbl hL hi (by omega) out _ _ _ _ _ _ _ _ hI hY_x hY_mo hR hM hv hl
      · refine lv_tableIn hx hb la_d33 (by omega) (by omega) (off := 1363) (by rw [hq]; rfl) (tgt := 1396) (by decide) ?_
        exact la_c36 X hrt hlk hX hbl hL hi (by omega) out _ _ _ _ _ _ _ _ hI hY_x hY_mo hR hM hv hl
      · refine lv_tableIn hx hb la_d33 (by omega) (by omega) (off := 1386) (by rw [hq]; rfl) (tgt := 1419) (by decide) ?_
        exact la_c37 X hrt hlk hX hbl hL hi (by omega) out _ _ _ _ _ _ _ _ hI hY_x hY_mo hR hM hv hl
      · refine lv_tableIn hx hb la_d33 (by omega) (by omega) (off := 1409) (by rw [hq]; rfl) (tgt := 1442) (by decide) ?_
        exact la_c38 X hrt hlk hX hbl hL hi (by omega) out _ _ _ _ _ _ _ _ hI hY_x hY_mo hR hM hv hl
      · refine lv_tableIn hx hb la_d33 (by omega) (by omega) (off := 1432) (by rw [hq]; rfl) (tgt := 1465) (by decide) ?_
        exact la_c39 X hrt hlk hX hbl hL hi (by omega) out _ _ _ _ _ _ _ _ hI hY_x hY_mo hR hM hv hl
      · refine lv_tableIn hx hb la_d33 (by omega) (by omega) (off := 1455) (by rw [hq]; rfl) (tgt := 1488) (by decide) ?_
        exact la_c40 X hrt hlk hX hbl hL hi (by omega) out _ _ _ _ _ _ _ _ hI hY_x hY_mo hR hM hv hl

