theorem fl_lZ_240 {s : State} {args : Array Value} (hts : ∀ w ∈ x_Tb, w.before args s = true) : x_fok vwCl x_G x_Tb s args "TwinFires$Land" (29, 3, 7) := ⟨2, _, RX2, TX2, "TwinFires$Land", rfl, rfl, Nat.le_of_ble_eq_true rfl, iX2, (hts _ (x_bw6 6 rfl rfl)), fun x h => h⟩
theorem fw_lZ_241 {s : State} {args : Array Value} {mn : String} (hts : ∀ w ∈ x_Tb, w.before args s = true) (hn : mn = "<init>") : x_pok vwCl x_G x_Tb s args "TwinFires$Land" mn (9, 3, 1) := ⟨2, _, RX2, TX2, "TwinFires$Land", tyX2, _, rfl, rfl, Nat.le_of_ble_eq_true rfl, iX2, (hts _ (x_bw5 6 rfl rfl)), fun x h => h, tyX2_ok, nmX2, rfl, x_fitA1 _ _, Or.inr ⟨rfl, hn, rfl⟩⟩
theorem fw_lZ_242 {s : State} {args : Array Value} {mn : String} (hts : ∀ w ∈ x_Tb, w.before args s = true) (hn : mn = "<init>") : x_pok vwCl x_G x_Tb s args "TwinFires$Land" mn (15, 3, 2) := ⟨2, _, RX2, TX2, "TwinFires$Land", tyX2, _, rfl, rfl, Nat.le_of_ble_eq_true rfl, iX2, (hts _ (x_bw5 9 rfl rfl)), fun x h => h, tyX2_ok, nmX2, rfl, x_fitA1 _ _, Or.inr ⟨rfl, hn, rfl⟩⟩
theorem fw_lZ_243 {s : State} {args : Array Value} {mn : String} (hts : ∀ w ∈ x_Tb, w.before args s = true) (hn : mn = "<init>") : x_pok vwCl x_G x_Tb s args "TwinFires$Land" mn (18, 3, 3) := ⟨2, _, RX2, TX2, "TwinFires$Land", tyX2, _, rfl, rfl, Nat.le_of_ble_eq_true rfl, iX2, (hts _ (x_bw5 12 rfl rfl)), fun x h => h, tyX2_ok, nmX2, rfl, x_fitA1 _ _, Or.inr ⟨rfl, hn, rfl⟩⟩
theorem fw_lZ_244 {s : State} {args : Array Value} {mn : String} (hts : ∀ w ∈ x_Tb, w.before args s = true) (hn : mn = "<init>") : x_pok vwCl x_G x_Tb s args "TwinFires$Land" mn (21, 3, 4) := ⟨2, _, RX2, TX2, "TwinFires$Land", tyX2, _, rfl, rfl, Nat.le_of_ble_eq_true rfl, iX2, (hts _ (x_bw5 15 rfl rfl)), fun x h => h, tyX2_ok, nmX2, rfl, x_fitA1 _ _, Or.inr ⟨rfl, hn, rfl⟩⟩
theorem fw_lZ_245 {s : State} {args : Array Value} {mn : String} (hts : ∀ w ∈ x_Tb, w.before args s = true) (hn : mn = "<init>") : x_pok vwCl x_G x_Tb s args "TwinFires$Land" mn (24, 3, 5) := ⟨2, _, RX2, TX2, "TwinFires$Land", tyX2, _, rfl, rfl, Nat.le_of_ble_eq_true rfl, iX2, (hts _ (x_bw6 1 rfl rfl)), fun x h => h, tyX2_ok, nmX2, rfl, x_fitA1 _ _, Or.inr ⟨rfl, hn, rfl⟩⟩
theorem fw_lZ_246 {s : State} {args : Array Value} {mn : String} (hts : ∀ w ∈ x_Tb, w.before args s = true) (hn : mn = "<init>") : x_pok vwCl x_G x_Tb s args "TwinFires$Land" mn (29, 3, 7) := ⟨2, _, RX2, TX2, "TwinFires$Land", tyX2, _, rfl, rfl, Nat.le_of_ble_eq_true rfl, iX2, (hts _ (x_bw6 6 rfl rfl)), fun x h => h, tyX2_ok, nmX2, rfl, x_fitA1 _ _, Or.inr ⟨rfl, hn, rfl⟩⟩
theorem fw_lZ_247 {s : State} {args : Array Value} {mn : String} (hts : ∀ w ∈ x_Tb, w.before args s = true) (hn : mn = "<init>") : x_pok vwCl x_G x_Tb s args "TwinFires$Land" mn (33, 3, 8) := ⟨2, _, RX2, TX2, "TwinFires$Land", tyX2, _, rfl, rfl, Nat.le_of_ble_eq_true rfl, iX2, (hts _ (x_bw6 9 rfl rfl)), fun x h => h, tyX2_ok, nmX2, rfl, x_fitA1 _ _, Or.inr ⟨rfl, hn, rfl⟩⟩
theorem fw_lZ_248 {s : State} {args : Array Value} {mn : String} (hts : ∀ w ∈ x_Tb, w.before args s = true) (hn : mn = "<init>") : x_pok vwCl x_G x_Tb s args "TwinFires$Land" mn (36, 3, 9) := ⟨2, _, RX2, TX2, "TwinFires$Land", tyX2, _, rfl, rfl, Nat.le_of_ble_eq_true rfl, iX2, (hts _ (x_bw6 12 rfl rfl)), fun x h => h, tyX2_ok, nmX2, rfl, x_fitA1 _ _, Or.inr ⟨rfl, hn, rfl⟩⟩
theorem fw_lZ_249 {s : State} {args : Array Value} {mn : String} (hts : ∀ w ∈ x_Tb, w.before args s = true) (hn : mn = "<init>") : x_pok vwCl x_G x_Tb s args "TwinFires$Land" mn (39, 3, 10) := ⟨2, _, RX2, TX2, "TwinFires$Land", tyX2, _, rfl, rfl, Nat.le_of_ble_eq_true rfl, iX2, (hts _ (x_bw6 14 rfl rfl)), fun x h => h, tyX2_ok, nmX2, rfl, x_fitA1 _ _, Or.inr ⟨rfl, hn, rfl⟩⟩
theorem fw_lZ_250 {s : State} {args : Array Value} {mn : String} (hts : ∀ w ∈ x_Tb, w.before args s = true) (hn : mn = "<init>") : x_pok vwCl x_G x_Tb s args "TwinFires$Land" mn (42, 3, 11) := ⟨2, _, RX2, TX2, "TwinFires$Land", tyX2, _, rfl, rfl, Nat.le_of_ble_eq_true rfl, iX2, (hts _ (x_bw7 2 rfl rfl)), fun x h => h, tyX2_ok, nmX2, rfl, x_fitA1 _ _, Or.inr ⟨rfl, hn, rfl⟩⟩
theorem fw_lZ_251 {s : State} {args : Array Value} {mn : String} (hts : ∀ w ∈ x_Tb, w.before args s = true) (hn : mn = "<init>") : x_pok vwCl x_G x_Tb s args "TwinFires$Land" mn (45, 3, 13) := ⟨2, _, RX2, TX2, "TwinFires$Land", tyX2, _, rfl, rfl, Nat.le_of_ble_eq_true rfl, iX2, (hts _ (x_bw7 8 rfl rfl)), fun x h => h, tyX2_ok, nmX2, rfl, x_fitA1 _ _, Or.inr ⟨rfl, hn, rfl⟩⟩
theorem fw_lZ_252 {s : State} {args : Array Value} {mn : String} (hts : ∀ w ∈ x_Tb, w.before args s = true) (hn : mn = "<init>") : x_pok vwCl x_G x_Tb s args "TwinFires$Land" mn (48, 3, 14) := ⟨2, _, RX2, TX2, "TwinFires$Land", tyX2, _, rfl, rfl, Nat.le_of_ble_eq_true rfl, iX2, (hts _ (x_bw7 11 rfl rfl)), fun x h => h, tyX2_ok, nmX2, rfl, x_fitA1 _ _, Or.inr ⟨rfl, hn, rfl⟩⟩
theorem fw_lZ_253 {s : State} {args : Array Value} {mn : String} (hts : ∀ w ∈ x_Tb, w.before args s = true) (hn : mn = "<init>") : x_pok vwCl x_G x_Tb s args "TwinFires$Land" mn (51, 3, 15) := ⟨2, _, RX2, TX2, "TwinFires$Land", tyX2, _, rfl, rfl, Nat.le_of_ble_eq_true rfl, iX2, (hts _ (x_bw7 13 rfl rfl)), fun x h => h, tyX2_ok, nmX2, rfl, x_fitA1 _ _, Or.inr ⟨rfl, hn, rfl⟩⟩
theorem fl_lZ_254 {s : State} {args : Array Value} (hts : ∀ w ∈ x_Tb, w.before args s = true) : x_fok vwCl x_G x_Tb s args "TwinFires$Land" (39, 3, 10) := ⟨2, _, RX2, TX2, "TwinFires$Land", rfl, rfl, Nat.le_of_ble_eq_true rfl, iX2, (hts _ (x_bw6 14 rfl rfl)), fun x h => h⟩
theorem fl_lZ_255 {s : State} {args : Array Value} (hts : ∀ w ∈ x_Tb, w.before args s = true) : x_fok vwCl x_G x_Tb s args "TwinFires$Land" (48, 3, 14) := ⟨2, _, RX2, TX2, "TwinFires$Land", rfl, rfl, Nat.le_of_ble_eq_true rfl, iX2, (hts _ (x_bw7 11 rfl rfl)), fun x h => h⟩
/-- the row of a new land -/
def m_row0 : Nat → Int32 := fun p => if p = 7 then 9 else if (136 ≤ p ∧ p < 160) ∧ p % 2 = 0 then -1 else 0
def z_AliX : yA := fun D av _ H => ∀ this : Nat, av = [.ref this] → x_sl D 2 0 this H = some (.int 0) ∧ x_sl D 2 6 this H = some (.int 0) ∧ x_sl D 2 12 this H = some (.int 0)
def z_PliX : yP := fun D av Y H _ Y' H' => ∀ this : Nat, av = [.ref this] → z_L D Y' this H' m_row0 ∧ (∀ k a, k < 16 → x_sl D 2 k this H' = some (.ref a) → H.size ≤ a) ∧ ∀ b u g, Y b = some u → x_G[u]? = some g → b ≠ this → x_eq D g b H H'
theorem z_L.row0 {D : va_G} {Y : xY} {H : Heap} {q ax ay ah ar ab ad ac al am aw an ao ast sn : Nat} (h0 : x_sl D 2 0 q H = some (.int 0)) (h6 : x_sl D 2 6 q H = some (.int 0)) (h12 : x_sl D 2 12 q H = some (.int 0)) (s1 : x_sl D 2 1 q H = some (.ref ax)) (s2 : x_sl D 2 2 q H = some (.ref ay)) (s3 : x_sl D 2 3 q H = some (.ref ah)) (s4 : x_sl D 2 4 q H = some (.ref ar)) (s5 : x_sl D 2 5 q H = some (.ref ab)) (s7 : x_sl D 2 7 q H = some (.ref ast)) (s8 : x_sl D 2 8 q H = some (.ref ad)) (s9 : x_sl D 2 9 q H = some (.ref ac)) (s10 : x_sl D 2 10 q H = some (.ref al)) (s11 : x_sl D 2 11 q H = some (.ref am)) (s13 : x_sl D 2 13 q H = some (.ref aw)) (s14 : x_sl D 2 14 q H = some (.ref an)) (s15 : x_sl D 2 15 q H = some (.ref ao))
    (t1 : Y ax = some 19) (t2 : Y ay = some 20) (t3 : Y ah = some 21) (t4 : Y ar = some 22) (t5 : Y ab = some 23) (t7 : Y ast = some 24) (t8 : Y ad = some 25) (t9 : Y ac = some 26) (t10 : Y al = some 27) (t11 : Y am = some 28) (t13 : Y aw = some 29) (t14 : Y an = some 30) (t15 : Y ao = some 31) (ts : Y sn = some 11)
    (a1 : y_A ax 10 H (fun _ => 0)) (a2 : y_A ay 10 H (fun _ => 0)) (a3 : y_A ah 10 H (fun _ => 0)) (a4 : y_A ar 10 H (fun _ => 0)) (a5 : y_A ab 10 H (fun _ => 0)) (a8 : y_A ad 8 H (fun _ => 0)) (a9 : y_A ac 8 H (fun _ => 0)) (a10 : y_A al 4 H (y_up (fun _ => 0) 3 9)) (a11 : y_A am 12 H (fun _ => 0)) (a13 : y_A aw 8 H (fun _ => 0)) (a14 : y_A an 12 H (fun _ => -1)) (a15 : y_A ao 12 H (fun _ => 0)) (a7 : ∀ j, j < 8 → y_at ast j H = some (.ref sn)) (f0 : x_sl D 6 0 sn H = some (.int 0)) (f1 : x_sl D 6 1 sn H = some (.int 0)) (f2 : x_sl D 6 2 sn H = some (.int 0)) (f3 : x_sl D 6 3 sn H = some (.int 0)) (f4 : x_sl D 6 4 sn H = some (.int 0)) : z_L D Y q H m_row0 := by
  refine ⟨⟨h0, h6, h12⟩, fun c hc => ?_, ⟨ast, s7, t7, fun j hj => ⟨sn, a7 j hj, (11, 6), by decide, ts, ?_, fun k hk => ?_⟩⟩, fun p hp => ?_⟩
  · have e : ∀ {a N lo mu : Nat} {g : Nat → Int32}, y_A a N H g → (∀ j, j < N → g j = m_row0 (lo + mu * j)) → ∀ j, j < N → y_at a j H = some (.int (m_row0 (lo + mu * j))) := fun h9 he j hj => by rw [h9 j hj, he j hj]
    simp only [z_C, List.mem_cons, List.not_mem_nil, or_false] at hc
    rcases hc with rfl | rfl | rfl | rfl | rfl | rfl | rfl | rfl | rfl | rfl | rfl | rfl
    · exact ⟨ax, s1, t1, e a1 (by decide)⟩
    · exact ⟨ay, s2, t2, e a2 (by decide)⟩
    · exact ⟨ah, s3, t3, e a3 (by decide)⟩
    · exact ⟨ar, s4, t4, e a4 (by decide)⟩
    · exact ⟨ab, s5, t5, e a5 (by decide)⟩
    · exact ⟨ad, s8, t8, e a8 (by decide)⟩
    · exact ⟨ac, s9, t9, e a9 (by decide)⟩
    · exact ⟨al, s10, t10, e a10 (by decide)⟩
    · exact ⟨am, s11, t11, e a11 (by decide)⟩
    · exact ⟨aw, s13, t13, e a13 (by decide)⟩
    · exact ⟨an, s14, t14, e a14 (by decide)⟩
    · exact ⟨ao, s15, t15, e a15 (by decide)⟩
  · have h9 : ∀ j, j < 8 → m_row0 (60 + 7 * j) = 0 := by decide
    rw [h9 j hj]; decide
  · have h9 : ∀ j, j < 8 → ∀ k, k < 5 → m_row0 (60 + 7 * j + k) = 0 := by decide
    rw [h9 j hj k hk]
    rcases (by omega : k = 0 ∨ k = 1 ∨ k = 2 ∨ k = 3 ∨ k = 4) with rfl | rfl | rfl | rfl | rfl <;> assumption
  · simp only [z_np, Bool.or_eq_true, decide_eq_true_eq] at hp
    unfold m_row0
    rw [if_neg (by omega), if_neg (by omega)]
def z_Pfi2 : yP := fun _ av _ H _ _ H' => ∀ (a : Nat) (v9 : Int32), av = [.ref a, .int v9] → y_A a 12 H' (fun _ => v9) ∧ ∀ b, b ≠ a → H'[b]? = H[b]?
theorem fj_d0 : decode xM130.2.1 0 = .ok (.iconst 0, 1) := dz_ok (by decide +kernel)
theorem fj_d1 : decode xM130.2.1 1 = .ok (.istore_n 2, 1) := dz_ok (by decide +kernel)
theorem fj_d2 : decode xM130.2.1 2 = .ok (.aload_n 0, 1) := dz_ok (by decide +kernel)
theorem fj_d3 : decode xM130.2.1 3 = .ok (.arraylength, 1) := dz_ok (by decide +kernel)
theorem fj_d4 : decode xM130.2.1 4 = .ok (.istore_n 3, 1) := dz_ok (by decide +kernel)
theorem fj_d5 : decode xM130.2.1 5 = .ok (.iload_n 2, 1) := dz_ok (by decide +kernel)
theorem fj_d6 : decode xM130.2.1 6 = .ok (.iload_n 3, 1) := dz_ok (by decide +kernel)
theorem fj_d7 : decode xM130.2.1 7 = .ok (.if_icmp .ge 13, 3) := dz_ok (by decide +kernel)
theorem fj_d10 : decode xM130.2.1 10 = .ok (.aload_n 0, 1) := dz_ok (by decide +kernel)
theorem fj_d11 : decode xM130.2.1 11 = .ok (.iload_n 2, 1) := dz_ok (by decide +kernel)
theorem fj_d12 : decode xM130.2.1 12 = .ok (.iload_n 1, 1) := dz_ok (by decide +kernel)
theorem fj_d13 : decode xM130.2.1 13 = .ok (.iastore, 1) := dz_ok (by decide +kernel)
theorem fj_d14 : decode xM130.2.1 14 = .ok (.iinc 2 1, 3) := dz_ok (by decide +kernel)
theorem fj_d17 : decode xM130.2.1 17 = .ok (.goto (-12), 3) := dz_ok (by decide +kernel)
theorem fj_d20 : decode xM130.2.1 20 = .ok (.return_, 1) := dz_ok (by decide +kernel)
theorem fj_L5 {p : Program} {l : Launch} {e : Env} {s : State} {m : MethodId} {below : List Frame} {meth : Method} {c : Code} {D : va_G} {U : State} {Y0 : xY} {av : List Value} (B : y_B vwCl x_Tb x_Nb xM130 p s m meth c D U Y0 av) {ar : Nat} {v9 : Int32} (hav : av = [.ref ar, .int v9])  :
    ∀ (n : Nat), ∀ (H : Heap) (Y : xY) (locs : List Loc) (ls : Array Slot) (i : Int32) (fa : Nat → Int32), x_I D x_G x_Zs U (x_efs xM130) Y0 s.heap Y H locs → Y ar = some 30 → y_A ar 12 H fa → lv_has ls xM130.2.2.1 [(2, .int i), (3, .int (nI 12)), (0, .ref ar), (1, .int v9)] → (0 ≤ i.toInt ∧ i.toInt ≤ 12) → ((nI 12).toInt = 12) → (∀ j : Nat, (j : Int) < i.toInt → fa j = v9) → (∀ b, b ≠ ar → H[b]? = s.heap[b]?) → (12 - i.toInt).toNat < n → W p l e (x_rm xM130) s m av.toArray below meth c H locs 0 0 (y_QQ below D x_G x_Zs U xM130 z_Pfi2 av Y0 s) (F0 m 5 ls []) := by
  have X := B.1
  have hx := X.1
  have hb := X.2.1
  have hY0 := B.2.2.2.2.1
  have hts := X.2.2.2.2.1
  have hnm := B.2.2.2.1
  intro n
  induction n with
  | zero => intro _ _ _ _ _ _ _ _ _ _ _ _ _ _ h; exact absurd h (Nat.not_lt_zero _)
  | succ n ih =>
    intro H Y locs ls i fa hI hY_ar hA_ar hl hi hN hfi hfo hn
    refine lv_iload_n hx hb fj_d5 rfl (lv_at hl 0 rfl) ?_
    refine lv_iload_n hx hb fj_d6 rfl (lv_at hl 1 rfl) ?_
    refine lv_icmp_ge hx hb fj_d7 (tgt := 20) (by decide) (fun q7 => ?_) (fun q7 => ?_)
    · have q7_ : (nI 12).toInt ≤ i.toInt := x_le32.mp q7
      subst hav
      exact y_return B hI rfl rfl List.mem_cons_self rfl (x_cs.mono B.2.2.2.2.2 (y_mon B hI)) (fun a' v' h1 => by cases h1; exact ⟨fun j hj => by rw [hA_ar j hj, hfi j (by omega)], hfo⟩) (Nat.le_refl _) (Nat.le_refl _) fj_d20
    · have q7_ : i.toInt < (nI 12).toInt := Int.not_le.mp fun q => q7 (x_le32.mpr q)
      refine lv_aload_n hx hb fj_d10 rfl (lv_at hl 2 rfl) ?_
      refine lv_iload_n hx hb fj_d11 rfl (lv_at hl 0 rfl) ?_
      refine lv_iload_n hx hb fj_d12 rfl (lv_at hl 3 rfl) ?_
      refine y_iast X hY0 hI hY_ar rfl hA_ar (by omega) (by show _ < (12 : Int); omega) ⟨_, rfl, x_i32 _⟩ (by decide +kernel) fj_d13 fun H locs hI h_new ho => ?_
      replace hA_ar := h_new
      generalize hf_f13 : y_up fa i.toInt.toNat v9 = f13 at hA_ar
      obtain ⟨z14, hg_z14⟩ : ∃ z14 : Int32, i + Int32.ofInt 1 = z14 := ⟨_, rfl⟩
      have h_z14 : z14.toInt = i.toInt + 1 := by rw [← hg_z14]; exact y_inc (by decide) (by omega) (by omega)
      refine lv_iinc hx hb fj_d14 hl (k := 0) rfl hg_z14 (by decide) (lv' := [(2, .int z14), (3, .int (nI 12)), (0, .ref ar), (1, .int v9)]) rfl fun ls hl => ?_
      refine lv_goto hx hb fj_d17 (tgt := 5) (by decide) ?_
      exact ih _ _ _ _ _ _ hI hY_ar hA_ar (lv_sub hl [0, 1, 2, 3] rfl) (by first | assumption | omega) (by first | assumption | omega) (fun j hj => by rw [← hf_f13]; by_cases ej : (j : Int) = i.toInt; (rw [show j = i.toInt.toNat by omega, y_up_at]); rw [y_up_ne (by omega)]; exact hfi j (by omega)) (fun b hb => (ho b hb).trans (hfo b hb)) (by omega)
theorem ym_fillNi2 : y_Met vwCl x_G x_Zs x_Tb x_Nb xM130 y_T z_Pfi2 := by
  refine y_main (by decide +kernel) (by decide +kernel) x_Tb_good x_Nb_ok ?_
  intro p l e s m below meth c D U Y0 av ls B hI _ hl
  have X := B.1
  have hx := X.1
  have hb := X.2.1
  have hY0 := B.2.2.2.2.1
  have hts := X.2.2.2.2.1
  have hnm := B.2.2.2.1
  obtain ⟨v0, v1, rfl, hv0, ⟨v9, rfl, -⟩⟩ := x_two B.2.2.2.2.2
  obtain ⟨ar, t0, rfl, ht0, hY_ar⟩ := x_ref_at hv0 rfl
  obtain rfl := List.mem_singleton.mp ht0
  replace hl : lv_has ls xM130.2.2.1 [(0, .ref ar), (1, .int v9)] := hl
  obtain ⟨fa, hA_ar, -⟩ := y_arr hI.1 hY_ar rfl rfl
  refine lv_iconst hx hb fj_d0 (v := 0) (by decide) ?_
  have ec0 : (0 : Int32).toInt = 0 := by decide
  refine lv_istore_n hx hb fj_d1 rfl hl (by decide) (lv' := [(2, .int (0 : Int32)), (0, .ref ar), (1, .int v9)]) rfl fun ls hl => ?_
  refine lv_aload_n hx hb fj_d2 rfl (lv_at hl 1 rfl) ?_
  refine y_alen X hI.1 hY_ar rfl fj_d3 ?_
  have h_nI12 : (nI 12).toInt = 12 := by decide
  refine lv_istore_n hx hb fj_d4 rfl hl (by decide) (lv' := [(3, .int (nI 12)), (2, .int (0 : Int32)), (0, .ref ar), (1, .int v9)]) rfl fun ls hl => ?_
  exact fj_L5 B rfl 13 _ _ _ _ _ _ hI hY_ar hA_ar (lv_sub hl [1, 0, 2, 3] rfl) (by first | assumption | omega) (by first | assumption | omega) (fun j hj => absurd hj (by omega)) (fun _ _ => rfl) (by omega)
theorem lZ_d0 : decode xMli.2.1 0 = .ok (.aload_n 0, 1) := dz_ok (by decide +kernel)
theorem lZ_d1 : decode xMli.2.1 1 = .ok (.invokespecial 3, 3) := dz_ok (by decide +kernel)
theorem lZ_d4 : decode xMli.2.1 4 = .ok (.aload_n 0, 1) := dz_ok (by decide +kernel)
theorem lZ_d5 : decode xMli.2.1 5 = .ok (.bipush 10, 2) := dz_ok (by decide +kernel)
theorem lZ_d7 : decode xMli.2.1 7 = .ok (.newarray .int, 2) := dz_ok (by decide +kernel)
theorem lZ_d9 : decode xMli.2.1 9 = .ok (.putfield 9, 3) := dz_ok (by decide +kernel)
theorem lZ_d12 : decode xMli.2.1 12 = .ok (.aload_n 0, 1) := dz_ok (by decide +kernel)
theorem lZ_d13 : decode xMli.2.1 13 = .ok (.bipush 10, 2) := dz_ok (by decide +kernel)
theorem lZ_d15 : decode xMli.2.1 15 = .ok (.newarray .int, 2) := dz_ok (by decide +kernel)
theorem lZ_d17 : decode xMli.2.1 17 = .ok (.putfield 15, 3) := dz_ok (by decide +kernel)
theorem lZ_d20 : decode xMli.2.1 20 = .ok (.aload_n 0, 1) := dz_ok (by decide +kernel)
theorem lZ_d21 : decode xMli.2.1 21 = .ok (.bipush 10, 2) := dz_ok (by decide +kernel)
theorem lZ_d23 : decode xMli.2.1 23 = .ok (.newarray .int, 2) := dz_ok (by decide +kernel)
theorem lZ_d25 : decode xMli.2.1 25 = .ok (.putfield 18, 3) := dz_ok (by decide +kernel)
theorem lZ_d28 : decode xMli.2.1 28 = .ok (.aload_n 0, 1) := dz_ok (by decide +kernel)
theorem lZ_d29 : decode xMli.2.1 29 = .ok (.bipush 10, 2) := dz_ok (by decide +kernel)
theorem lZ_d31 : decode xMli.2.1 31 = .ok (.newarray .int, 2) := dz_ok (by decide +kernel)
theorem lZ_d33 : decode xMli.2.1 33 = .ok (.putfield 21, 3) := dz_ok (by decide +kernel)
theorem lZ_d36 : decode xMli.2.1 36 = .ok (.aload_n 0, 1) := dz_ok (by decide +kernel)
theorem lZ_d37 : decode xMli.2.1 37 = .ok (.bipush 10, 2) := dz_ok (by decide +kernel)
theorem lZ_d39 : decode xMli.2.1 39 = .ok (.newarray .int, 2) := dz_ok (by decide +kernel)
theorem lZ_d41 : decode xMli.2.1 41 = .ok (.putfield 24, 3) := dz_ok (by decide +kernel)
theorem lZ_d44 : decode xMli.2.1 44 = .ok (.aload_n 0, 1) := dz_ok (by decide +kernel)
theorem lZ_d45 : decode xMli.2.1 45 = .ok (.bipush 8, 2) := dz_ok (by decide +kernel)
theorem lZ_d47 : decode xMli.2.1 47 = .ok (.anewarray 27, 3) := dz_ok (by decide +kernel)
theorem lZ_d50 : decode xMli.2.1 50 = .ok (.putfield 29, 3) := dz_ok (by decide +kernel)
theorem lZ_d53 : decode xMli.2.1 53 = .ok (.aload_n 0, 1) := dz_ok (by decide +kernel)
theorem lZ_d54 : decode xMli.2.1 54 = .ok (.bipush 8, 2) := dz_ok (by decide +kernel)
theorem lZ_d56 : decode xMli.2.1 56 = .ok (.newarray .int, 2) := dz_ok (by decide +kernel)
theorem lZ_d58 : decode xMli.2.1 58 = .ok (.putfield 33, 3) := dz_ok (by decide +kernel)
theorem lZ_d61 : decode xMli.2.1 61 = .ok (.aload_n 0, 1) := dz_ok (by decide +kernel)
theorem lZ_d62 : decode xMli.2.1 62 = .ok (.bipush 8, 2) := dz_ok (by decide +kernel)
theorem lZ_d64 : decode xMli.2.1 64 = .ok (.newarray .int, 2) := dz_ok (by decide +kernel)
theorem lZ_d66 : decode xMli.2.1 66 = .ok (.putfield 36, 3) := dz_ok (by decide +kernel)
theorem lZ_d69 : decode xMli.2.1 69 = .ok (.aload_n 0, 1) := dz_ok (by decide +kernel)
theorem lZ_d70 : decode xMli.2.1 70 = .ok (.iconst 4, 1) := dz_ok (by decide +kernel)
theorem lZ_d71 : decode xMli.2.1 71 = .ok (.newarray .int, 2) := dz_ok (by decide +kernel)
theorem lZ_d73 : decode xMli.2.1 73 = .ok (.putfield 39, 3) := dz_ok (by decide +kernel)
theorem lZ_d76 : decode xMli.2.1 76 = .ok (.aload_n 0, 1) := dz_ok (by decide +kernel)
theorem lZ_d77 : decode xMli.2.1 77 = .ok (.bipush 12, 2) := dz_ok (by decide +kernel)
theorem lZ_d79 : decode xMli.2.1 79 = .ok (.newarray .int, 2) := dz_ok (by decide +kernel)
theorem lZ_d81 : decode xMli.2.1 81 = .ok (.putfield 42, 3) := dz_ok (by decide +kernel)
theorem lZ_d84 : decode xMli.2.1 84 = .ok (.aload_n 0, 1) := dz_ok (by decide +kernel)
theorem lZ_d85 : decode xMli.2.1 85 = .ok (.bipush 8, 2) := dz_ok (by decide +kernel)
theorem lZ_d87 : decode xMli.2.1 87 = .ok (.newarray .int, 2) := dz_ok (by decide +kernel)
theorem lZ_d89 : decode xMli.2.1 89 = .ok (.putfield 45, 3) := dz_ok (by decide +kernel)
theorem lZ_d92 : decode xMli.2.1 92 = .ok (.aload_n 0, 1) := dz_ok (by decide +kernel)
theorem lZ_d93 : decode xMli.2.1 93 = .ok (.bipush 12, 2) := dz_ok (by decide +kernel)
theorem lZ_d95 : decode xMli.2.1 95 = .ok (.newarray .int, 2) := dz_ok (by decide +kernel)
theorem lZ_d97 : decode xMli.2.1 97 = .ok (.putfield 48, 3) := dz_ok (by decide +kernel)
theorem lZ_d100 : decode xMli.2.1 100 = .ok (.aload_n 0, 1) := dz_ok (by decide +kernel)
theorem lZ_d101 : decode xMli.2.1 101 = .ok (.bipush 12, 2) := dz_ok (by decide +kernel)
theorem lZ_d103 : decode xMli.2.1 103 = .ok (.newarray .int, 2) := dz_ok (by decide +kernel)
theorem lZ_d105 : decode xMli.2.1 105 = .ok (.putfield 51, 3) := dz_ok (by decide +kernel)
theorem lZ_d108 : decode xMli.2.1 108 = .ok (.aload_n 0, 1) := dz_ok (by decide +kernel)
theorem lZ_d109 : decode xMli.2.1 109 = .ok (.getfield 39, 3) := dz_ok (by decide +kernel)
theorem lZ_d112 : decode xMli.2.1 112 = .ok (.iconst 3, 1) := dz_ok (by decide +kernel)
theorem lZ_d113 : decode xMli.2.1 113 = .ok (.bipush 9, 2) := dz_ok (by decide +kernel)
theorem lZ_d115 : decode xMli.2.1 115 = .ok (.iastore, 1) := dz_ok (by decide +kernel)
theorem lZ_d116 : decode xMli.2.1 116 = .ok (.aload_n 0, 1) := dz_ok (by decide +kernel)
theorem lZ_d117 : decode xMli.2.1 117 = .ok (.getfield 48, 3) := dz_ok (by decide +kernel)
theorem lZ_d120 : decode xMli.2.1 120 = .ok (.iconst (-1), 1) := dz_ok (by decide +kernel)
theorem lZ_d121 : decode xMli.2.1 121 = .ok (.invokestatic 54, 3) := dz_ok (by decide +kernel)
theorem lZ_d124 : decode xMli.2.1 124 = .ok (.new 27, 3) := dz_ok (by decide +kernel)
theorem lZ_d127 : decode xMli.2.1 127 = .ok (.dup, 1) := dz_ok (by decide +kernel)
theorem lZ_d128 : decode xMli.2.1 128 = .ok (.iconst 0, 1) := dz_ok (by decide +kernel)
theorem lZ_d129 : decode xMli.2.1 129 = .ok (.iconst 0, 1) := dz_ok (by decide +kernel)
theorem lZ_d130 : decode xMli.2.1 130 = .ok (.iconst 0, 1) := dz_ok (by decide +kernel)
theorem lZ_d131 : decode xMli.2.1 131 = .ok (.iconst 0, 1) := dz_ok (by decide +kernel)
theorem lZ_d132 : decode xMli.2.1 132 = .ok (.iconst 0, 1) := dz_ok (by decide +kernel)
theorem lZ_d133 : decode xMli.2.1 133 = .ok (.invokespecial 60, 3) := dz_ok (by decide +kernel)
theorem lZ_d136 : decode xMli.2.1 136 = .ok (.astore_n 1, 1) := dz_ok (by decide +kernel)
theorem lZ_d137 : decode xMli.2.1 137 = .ok (.iconst 0, 1) := dz_ok (by decide +kernel)
theorem lZ_d138 : decode xMli.2.1 138 = .ok (.istore_n 2, 1) := dz_ok (by decide +kernel)
theorem lZ_d139 : decode xMli.2.1 139 = .ok (.iload_n 2, 1) := dz_ok (by decide +kernel)
theorem lZ_d140 : decode xMli.2.1 140 = .ok (.bipush 8, 2) := dz_ok (by decide +kernel)
theorem lZ_d142 : decode xMli.2.1 142 = .ok (.if_icmp .ge 16, 3) := dz_ok (by decide +kernel)
theorem lZ_d145 : decode xMli.2.1 145 = .ok (.aload_n 0, 1) := dz_ok (by decide +kernel)
theorem lZ_d146 : decode xMli.2.1 146 = .ok (.getfield 29, 3) := dz_ok (by decide +kernel)
theorem lZ_d149 : decode xMli.2.1 149 = .ok (.iload_n 2, 1) := dz_ok (by decide +kernel)
theorem lZ_d150 : decode xMli.2.1 150 = .ok (.aload_n 1, 1) := dz_ok (by decide +kernel)
theorem lZ_d151 : decode xMli.2.1 151 = .ok (.aastore, 1) := dz_ok (by decide +kernel)
theorem lZ_d152 : decode xMli.2.1 152 = .ok (.iinc 2 1, 3) := dz_ok (by decide +kernel)
theorem lZ_d155 : decode xMli.2.1 155 = .ok (.goto (-16), 3) := dz_ok (by decide +kernel)
theorem lZ_d158 : decode xMli.2.1 158 = .ok (.return_, 1) := dz_ok (by decide +kernel)
theorem lZ_L139 {p : Program} {l : Launch} {e : Env} {s : State} {m : MethodId} {below : List Frame} {meth : Method} {c : Code} {D : va_G} {U : State} {Y0 : xY} {av : List Value} (B : y_B vwCl x_Tb x_Nb xMli p s m meth c D U Y0 av) {this n7 n15 n23 n31 n39 n47 n56 n64 n71 n79 n87 n95 n103 n124 : Nat} (hav : av = [.ref this]) (hfr_n7 : s.heap.size ≤ n7) (hfr_n15 : s.heap.size ≤ n15) (hfr_n23 : s.heap.size ≤ n23) (hfr_n31 : s.heap.size ≤ n31) (hfr_n39 : s.heap.size ≤ n39) (hfr_n47 : s.heap.size ≤ n47) (hfr_n56 : s.heap.size ≤ n56) (hfr_n64 : s.heap.size ≤ n64) (hfr_n71 : s.heap.size ≤ n71) (hfr_n79 : s.heap.size ≤ n79) (hfr_n87 : s.heap.size ≤ n87) (hfr_n95 : s.heap.size ≤ n95) (hfr_n103 : s.heap.size ≤ n103)  :
    ∀ (n : Nat), ∀ (H : Heap) (Y : xY) (locs : List Loc) (ls : Array Slot) (i : Int32), x_I D x_G x_Zs U (x_efs xMli) Y0 s.heap Y H locs → Y this = some 3 → Y n7 = some 19 → Y n15 = some 20 → Y n23 = some 21 → Y n31 = some 22 → Y n39 = some 23 → Y n47 = some 64 → Y n56 = some 25 → Y n64 = some 26 → Y n71 = some 27 → Y n79 = some 28 → Y n87 = some 29 → Y n95 = some 30 → Y n103 = some 31 → Y n124 = some 11 → x_sl D 2 1 this H = some (.ref n7) → x_sl D 2 2 this H = some (.ref n15) → x_sl D 2 3 this H = some (.ref n23) → x_sl D 2 4 this H = some (.ref n31) → x_sl D 2 5 this H = some (.ref n39) → x_sl D 2 7 this H = some (.ref n47) → x_sl D 2 8 this H = some (.ref n56) → x_sl D 2 9 this H = some (.ref n64) → x_sl D 2 10 this H = some (.ref n71) → x_sl D 2 11 this H = some (.ref n79) → x_sl D 2 13 this H = some (.ref n87) → x_sl D 2 14 this H = some (.ref n95) → x_sl D 2 15 this H = some (.ref n103) → x_sl D 2 0 this H = some (.int 0) → x_sl D 2 6 this H = some (.int 0) → x_sl D 2 12 this H = some (.int 0) → x_sl D 6 0 n124 H = some (.int 0) → x_sl D 6 1 n124 H = some (.int 0) → x_sl D 6 2 n124 H = some (.int 0) → x_sl D 6 3 n124 H = some (.int 0) → x_sl D 6 4 n124 H = some (.int 0) → y_A n7 10 H (fun _ => 0) → y_A n15 10 H (fun _ => 0) → y_A n23 10 H (fun _ => 0) → y_A n31 10 H (fun _ => 0) → y_A n39 10 H (fun _ => 0) → y_A n56 8 H (fun _ => 0) → y_A n64 8 H (fun _ => 0) → y_A n71 4 H (y_up (fun _ => 0) 3 9) → y_A n79 12 H (fun _ => 0) → y_A n87 8 H (fun _ => 0) → y_A n95 12 H (fun _ => (-1 : Int32)) → y_A n103 12 H (fun _ => 0) → lv_has ls xMli.2.2.1 [(2, .int i), (1, .ref n124), (0, .ref this)] → (0 ≤ i.toInt ∧ i.toInt ≤ 8) → (∀ j : Nat, (j : Int) < i.toInt → y_at n47 j H = some (.ref n124)) → (∀ b u g9, Y0 b = some u → x_G[u]? = some g9 → b ≠ this → x_eq D g9 b s.heap H) → (8 - i.toInt).toNat < n → W p l e (x_rm xMli) s m av.toArray below meth c H locs 14 127 (y_QQ below D x_G x_Zs U xMli z_PliX av Y0 s) (F0 m 139 ls []) := by
  have X := B.1
  have hx := X.1
  have hb := X.2.1
  have hY0 := B.2.2.2.2.1
  have hts := X.2.2.2.2.1
  have hnm := B.2.2.2.1
  intro n
  induction n with
  | zero => intro _ _ _ _ _ _ _ _ _ _ _ _ _ _ _ _ _ _ _ _ _ _ _ _ _ _ _ _ _ _ _ _ _ _ _ _ _ _ _ _ _ _ _ _ _ _ _ _ _ _ _ _ _ _ _ _ _ _ h; exact absurd h (Nat.not_lt_zero _)
  | succ n ih =>
    intro H Y locs ls i  hI hY_this hY_n7 hY_n15 hY_n23 hY_n31 hY_n39 hY_n47 hY_n56 hY_n64 hY_n71 hY_n79 hY_n87 hY_n95 hY_n103 hY_n124 hs_n7 hs_n15 hs_n23 hs_n31 hs_n39 hs_n47 hs_n56 hs_n64 hs_n71 hs_n79 hs_n87 hs_n95 hs_n103 hsi_hills hsi_things hsi_letters hsi_kind hsi_x hsi_y hsi_h hsi_g hA_n7 hA_n15 hA_n23 hA_n31 hA_n39 hA_n56 hA_n64 hA_n71 hA_n79 hA_n87 hA_n95 hA_n103 hl hi hq hK hn
    refine lv_iload_n hx hb lZ_d139 rfl (lv_at hl 0 rfl) ?_
    refine lv_bipush hx hb lZ_d140 (v := 8) (by decide) ?_
    have ec8 : (8 : Int32).toInt = 8 := by decide
    refine lv_icmp_ge hx hb lZ_d142 (tgt := 158) (by decide) (fun q142 => ?_) (fun q142 => ?_)
    · have q142_ : (8 : Int32).toInt ≤ i.toInt := x_le32.mp q142
      subst hav
      have hYn : ∀ q u, q ≠ n47 → Y q = some u → x_up Y n47 24 q = some u := fun q u h1 h2 => by rw [x_up_ne h1]; exact h2
      have hI0 := hI
      replace hI := y_retag (t2 := 24) hI0 hY_n47 hfr_n47 rfl rfl (by decide +kernel) (by decide +kernel) (by decide +kernel) (fun j v hj hv => by rw [hq j (by omega)] at hv; cases hv; exact y_crefA hY_n124 rfl)
      have hYC := hYn _ _ (y_ne hY_this hY_n47 rfl) hY_this
      have hfr9 : ∀ k a, k < 16 → x_sl D 2 k this H = some (.ref a) → s.heap.size ≤ a := fun k a hk ha => by
        have hall : ∀ k, k < 16 → k = 0 ∨ k = 6 ∨ k = 12 ∨ k = 1 ∨ k = 2 ∨ k = 3 ∨ k = 4 ∨ k = 5 ∨ k = 7 ∨ k = 8 ∨ k = 9 ∨ k = 10 ∨ k = 11 ∨ k = 13 ∨ k = 14 ∨ k = 15 := by decide
        rcases hall k hk with rfl | rfl | rfl | rfl | rfl | rfl | rfl | rfl | rfl | rfl | rfl | rfl | rfl | rfl | rfl | rfl
        · rw [hsi_hills] at ha; cases ha
        · rw [hsi_things] at ha; cases ha
        · rw [hsi_letters] at ha; cases ha
        · cases ha.symm.trans hs_n7; exact hfr_n7
        · cases ha.symm.trans hs_n15; exact hfr_n15
        · cases ha.symm.trans hs_n23; exact hfr_n23
        · cases ha.symm.trans hs_n31; exact hfr_n31
        · cases ha.symm.trans hs_n39; exact hfr_n39
        · cases ha.symm.trans hs_n47; exact hfr_n47
        · cases ha.symm.trans hs_n56; exact hfr_n56
        · cases ha.symm.trans hs_n64; exact hfr_n64
        · cases ha.symm.trans hs_n71; exact hfr_n71
        · cases ha.symm.trans hs_n79; exact hfr_n79
        · cases ha.symm.trans hs_n87; exact hfr_n87
        · cases ha.symm.trans hs_n95; exact hfr_n95
        · cases ha.symm.trans hs_n103; exact hfr_n103
      have hf : ∀ (k : Nat) (ft : xV), ([xI 0 10, xR false [19], xR false [20], xR false [21], xR false [22], xR false [23], xI 0 8, xR false [24], xR false [25], xR false [26], xR false [27], xR false [28], xI 0 8, xR false [29], xR false [30], xR false [31]])[k]? = some ft → ∃ v : Value, x_sl D 2 k this H = some v ∧ x_c (x_up Y n47 24) ft v ∧ x_nrT 3 ft = true := fun k ft hk => match k, hk with
          | 0, hk => by cases hk; obtain ⟨v, e1, e2⟩ := y_fld (k := 0) hI.1 hYC rfl rfl; exact ⟨v, e1, e2, rfl⟩
          | 1, hk => by cases hk; exact ⟨_, hs_n7, y_crefA (hYn _ _ (y_ne hY_n7 hY_n47 rfl) hY_n7) rfl, rfl⟩
          | 2, hk => by cases hk; exact ⟨_, hs_n15, y_crefA (hYn _ _ (y_ne hY_n15 hY_n47 rfl) hY_n15) rfl, rfl⟩
          | 3, hk => by cases hk; exact ⟨_, hs_n23, y_crefA (hYn _ _ (y_ne hY_n23 hY_n47 rfl) hY_n23) rfl, rfl⟩
          | 4, hk => by cases hk; exact ⟨_, hs_n31, y_crefA (hYn _ _ (y_ne hY_n31 hY_n47 rfl) hY_n31) rfl, rfl⟩
          | 5, hk => by cases hk; exact ⟨_, hs_n39, y_crefA (hYn _ _ (y_ne hY_n39 hY_n47 rfl) hY_n39) rfl, rfl⟩
          | 6, hk => by cases hk; obtain ⟨v, e1, e2⟩ := y_fld (k := 6) hI.1 hYC rfl rfl; exact ⟨v, e1, e2, rfl⟩
          | 7, hk => by cases hk; exact ⟨_, hs_n47, y_crefA (x_up_self _ _ _) rfl, rfl⟩
          | 8, hk => by cases hk; exact ⟨_, hs_n56, y_crefA (hYn _ _ (y_ne hY_n56 hY_n47 rfl) hY_n56) rfl, rfl⟩
          | 9, hk => by cases hk; exact ⟨_, hs_n64, y_crefA (hYn _ _ (y_ne hY_n64 hY_n47 rfl) hY_n64) rfl, rfl⟩
          | 10, hk => by cases hk; exact ⟨_, hs_n71, y_crefA (hYn _ _ (y_ne hY_n71 hY_n47 rfl) hY_n71) rfl, rfl⟩
          | 11, hk => by cases hk; exact ⟨_, hs_n79, y_crefA (hYn _ _ (y_ne hY_n79 hY_n47 rfl) hY_n79) rfl, rfl⟩
          | 12, hk => by cases hk; obtain ⟨v, e1, e2⟩ := y_fld (k := 12) hI.1 hYC rfl rfl; exact ⟨v, e1, e2, rfl⟩
          | 13, hk => by cases hk; exact ⟨_, hs_n87, y_crefA (hYn _ _ (y_ne hY_n87 hY_n47 rfl) hY_n87) rfl, rfl⟩
          | 14, hk => by cases hk; exact ⟨_, hs_n95, y_crefA (hYn _ _ (y_ne hY_n95 hY_n47 rfl) hY_n95) rfl, rfl⟩
          | 15, hk => by cases hk; exact ⟨_, hs_n103, y_crefA (hYn _ _ (y_ne hY_n103 hY_n47 rfl) hY_n103) rfl, rfl⟩
          | k + 16, hk => by cases hk
      exact y_retC (o := (2, [xI 0 10, xR false [19], xR false [20], xR false [21], xR false [22], xR false [23], xI 0 8, xR false [24], xR false [25], xR false [26], xR false [27], xR false [28], xI 0 8, xR false [29], xR false [30], xR false [31]])) B hI rfl rfl hYC rfl rfl rfl rfl (by decide +kernel) (by decide +kernel) List.mem_cons_self hf (fun t' h1 => by cases h1; exact ⟨z_L.row0 hsi_hills hsi_things hsi_letters hs_n7 hs_n15 hs_n23 hs_n31 hs_n39 hs_n47 hs_n56 hs_n64 hs_n71 hs_n79 hs_n87 hs_n95 hs_n103 ((x_up_ne (y_ne (hYn _ _ (y_ne hY_n7 hY_n47 rfl) hY_n7) hYC rfl)).trans (hYn _ _ (y_ne hY_n7 hY_n47 rfl) hY_n7)) ((x_up_ne (y_ne (hYn _ _ (y_ne hY_n15 hY_n47 rfl) hY_n15) hYC rfl)).trans (hYn _ _ (y_ne hY_n15 hY_n47 rfl) hY_n15)) ((x_up_ne (y_ne (hYn _ _ (y_ne hY_n23 hY_n47 rfl) hY_n23) hYC rfl)).trans (hYn _ _ (y_ne hY_n23 hY_n47 rfl) hY_n23)) ((x_up_ne (y_ne (hYn _ _ (y_ne hY_n31 hY_n47 rfl) hY_n31) hYC rfl)).trans (hYn _ _ (y_ne hY_n31 hY_n47 rfl) hY_n31)) ((x_up_ne (y_ne (hYn _ _ (y_ne hY_n39 hY_n47 rfl) hY_n39) hYC rfl)).trans (hYn _ _ (y_ne hY_n39 hY_n47 rfl) hY_n39)) ((x_up_ne (y_ne (x_up_self Y n47 24) hYC rfl)).trans (x_up_self Y n47 24)) ((x_up_ne (y_ne (hYn _ _ (y_ne hY_n56 hY_n47 rfl) hY_n56) hYC rfl)).trans (hYn _ _ (y_ne hY_n56 hY_n47 rfl) hY_n56)) ((x_up_ne (y_ne (hYn _ _ (y_ne hY_n64 hY_n47 rfl) hY_n64) hYC rfl)).trans (hYn _ _ (y_ne hY_n64 hY_n47 rfl) hY_n64)) ((x_up_ne (y_ne (hYn _ _ (y_ne hY_n71 hY_n47 rfl) hY_n71) hYC rfl)).trans (hYn _ _ (y_ne hY_n71 hY_n47 rfl) hY_n71)) ((x_up_ne (y_ne (hYn _ _ (y_ne hY_n79 hY_n47 rfl) hY_n79) hYC rfl)).trans (hYn _ _ (y_ne hY_n79 hY_n47 rfl) hY_n79)) ((x_up_ne (y_ne (hYn _ _ (y_ne hY_n87 hY_n47 rfl) hY_n87) hYC rfl)).trans (hYn _ _ (y_ne hY_n87 hY_n47 rfl) hY_n87)) ((x_up_ne (y_ne (hYn _ _ (y_ne hY_n95 hY_n47 rfl) hY_n95) hYC rfl)).trans (hYn _ _ (y_ne hY_n95 hY_n47 rfl) hY_n95)) ((x_up_ne (y_ne (hYn _ _ (y_ne hY_n103 hY_n47 rfl) hY_n103) hYC rfl)).trans (hYn _ _ (y_ne hY_n103 hY_n47 rfl) hY_n103)) ((x_up_ne (y_ne (hYn _ _ (y_ne hY_n124 hY_n47 rfl) hY_n124) hYC rfl)).trans (hYn _ _ (y_ne hY_n124 hY_n47 rfl) hY_n124)) hA_n7 hA_n15 hA_n23 hA_n31 hA_n39 hA_n56 hA_n64 hA_n71 hA_n79 hA_n87 hA_n95 hA_n103 (fun j hj => hq j (by omega)) hsi_kind hsi_x hsi_y hsi_h hsi_g, hfr9, hK⟩) (by exact Nat.le_of_ble_eq_true rfl) (by exact Nat.le_of_ble_eq_true rfl) lZ_d158
    · have q142_ : i.toInt < (8 : Int32).toInt := Int.not_le.mp fun q => q142 (x_le32.mpr q)
      refine lv_aload_n hx hb lZ_d145 rfl (lv_at hl 2 rfl) ?_
      refine y_getf X (fl_lZ_240 X.2.2.2.2.1) hI.1 hY_this rfl hs_n47 lZ_d146 ?_
      refine lv_iload_n hx hb lZ_d149 rfl (lv_at hl 0 rfl) ?_
      refine lv_aload_n hx hb lZ_d150 rfl (lv_at hl 1 rfl) ?_
      refine y_aast X hY0 hI hY_n47 rfl hY_n124 rfl rfl (x_castSelf (X.2.2.2.2.2.1.1 6 _ rfl).2) (by omega) (by show _ < (8 : Int); omega) (y_crefA hY_n124 rfl) (by decide +kernel) lZ_d151 fun H locs hI h_at h_ne ho => ?_
      replace hs_n7 := y_slk hs_n7 (ho _ (y_ne hY_this hY_n47 rfl))
      replace hs_n15 := y_slk hs_n15 (ho _ (y_ne hY_this hY_n47 rfl))
      replace hs_n23 := y_slk hs_n23 (ho _ (y_ne hY_this hY_n47 rfl))
      replace hs_n31 := y_slk hs_n31 (ho _ (y_ne hY_this hY_n47 rfl))
      replace hs_n39 := y_slk hs_n39 (ho _ (y_ne hY_this hY_n47 rfl))
      replace hs_n47 := y_slk hs_n47 (ho _ (y_ne hY_this hY_n47 rfl))
      replace hs_n56 := y_slk hs_n56 (ho _ (y_ne hY_this hY_n47 rfl))
      replace hs_n64 := y_slk hs_n64 (ho _ (y_ne hY_this hY_n47 rfl))
      replace hs_n71 := y_slk hs_n71 (ho _ (y_ne hY_this hY_n47 rfl))
      replace hs_n79 := y_slk hs_n79 (ho _ (y_ne hY_this hY_n47 rfl))
      replace hs_n87 := y_slk hs_n87 (ho _ (y_ne hY_this hY_n47 rfl))
      replace hs_n95 := y_slk hs_n95 (ho _ (y_ne hY_this hY_n47 rfl))
      replace hs_n103 := y_slk hs_n103 (ho _ (y_ne hY_this hY_n47 rfl))
      replace hsi_hills := y_slk hsi_hills (ho _ (y_ne hY_this hY_n47 rfl))
      replace hsi_things := y_slk hsi_things (ho _ (y_ne hY_this hY_n47 rfl))
      replace hsi_letters := y_slk hsi_letters (ho _ (y_ne hY_this hY_n47 rfl))
      replace hsi_kind := y_slk hsi_kind (ho _ (y_ne hY_n124 hY_n47 rfl))
      replace hsi_x := y_slk hsi_x (ho _ (y_ne hY_n124 hY_n47 rfl))
      replace hsi_y := y_slk hsi_y (ho _ (y_ne hY_n124 hY_n47 rfl))
      replace hsi_h := y_slk hsi_h (ho _ (y_ne hY_n124 hY_n47 rfl))
      replace hsi_g := y_slk hsi_g (ho _ (y_ne hY_n124 hY_n47 rfl))
      replace hA_n7 := hA_n7.kept (ho _ (y_ne hY_n7 hY_n47 rfl))
      replace hA_n15 := hA_n15.kept (ho _ (y_ne hY_n15 hY_n47 rfl))
      replace hA_n23 := hA_n23.kept (ho _ (y_ne hY_n23 hY_n47 rfl))
      replace hA_n31 := hA_n31.kept (ho _ (y_ne hY_n31 hY_n47 rfl))
      replace hA_n39 := hA_n39.kept (ho _ (y_ne hY_n39 hY_n47 rfl))
      replace hA_n56 := hA_n56.kept (ho _ (y_ne hY_n56 hY_n47 rfl))
      replace hA_n64 := hA_n64.kept (ho _ (y_ne hY_n64 hY_n47 rfl))
      replace hA_n71 := hA_n71.kept (ho _ (y_ne hY_n71 hY_n47 rfl))
      replace hA_n79 := hA_n79.kept (ho _ (y_ne hY_n79 hY_n47 rfl))
      replace hA_n87 := hA_n87.kept (ho _ (y_ne hY_n87 hY_n47 rfl))
      replace hA_n95 := hA_n95.kept (ho _ (y_ne hY_n95 hY_n47 rfl))
      replace hA_n103 := hA_n103.kept (ho _ (y_ne hY_n103 hY_n47 rfl))
      replace hK := fun b u g9 (hb : Y0 b = some u) (hg9 : x_G[u]? = some g9) (hnt : b ≠ this) => x_eq.trans (x_eq.of (ho b (fun e0 => absurd (hY0 _ _ hb) (by rw [e0]; exact Nat.not_lt.mpr hfr_n47)))) (hK b u g9 hb hg9 hnt)
      obtain ⟨z152, hg_z152⟩ : ∃ z152 : Int32, i + Int32.ofInt 1 = z152 := ⟨_, rfl⟩
      have h_z152 : z152.toInt = i.toInt + 1 := by rw [← hg_z152]; exact y_inc (by decide) (by omega) (by omega)
      refine lv_iinc hx hb lZ_d152 hl (k := 0) rfl hg_z152 (by decide) (lv' := [(2, .int z152), (1, .ref n124), (0, .ref this)]) rfl fun ls hl => ?_
      refine lv_goto hx hb lZ_d155 (tgt := 139) (by decide) ?_
      exact ih _ _ _ _ _ hI hY_this hY_n7 hY_n15 hY_n23 hY_n31 hY_n39 hY_n47 hY_n56 hY_n64 hY_n71 hY_n79 hY_n87 hY_n95 hY_n103 hY_n124 hs_n7 hs_n15 hs_n23 hs_n31 hs_n39 hs_n47 hs_n56 hs_n64 hs_n71 hs_n79 hs_n87 hs_n95 hs_n103 hsi_hills hsi_things hsi_letters hsi_kind hsi_x hsi_y hsi_h hsi_g hA_n7 hA_n15 hA_n23 hA_n31 hA_n39 hA_n56 hA_n64 hA_n71 hA_n79 hA_n87 hA_n95 hA_n103 (lv_sub hl [0, 1, 2] rfl) (by first | assumption | omega) (fun j hj => by by_cases e0 : j = i.toInt.toNat; (rw [e0]; exact h_at); rw [h_ne j e0]; exact hq j (by omega)) hK (by omega)
theorem ym_landInitX : y_Met vwCl x_G x_Zs x_Tb x_Nb xMli z_AliX z_PliX := by
  refine y_main (by decide +kernel) (by decide +kernel) x_Tb_good x_Nb_ok ?_
  intro p l e s m below meth c D U Y0 av ls B hI hpre hl
  have X := B.1
  have hx := X.1
  have hb := X.2.1
  have hY0 := B.2.2.2.2.1
  have hts := X.2.2.2.2.1
  have hnm := B.2.2.2.1
  obtain ⟨v0, rfl, hv0⟩ := x_one B.2.2.2.2.2
  obtain ⟨this, t0, rfl, ht0, hY_this⟩ := x_ref_at hv0 rfl
  obtain rfl := List.mem_singleton.mp ht0
  replace hl : lv_has ls xMli.2.2.1 [(0, .ref this)] := hl
  obtain ⟨hsi_hills, hsi_things, hsi_letters⟩ := hpre _ rfl
  have hK : ∀ b u g9, Y0 b = some u → x_G[u]? = some g9 → b ≠ this → x_eq D g9 b s.heap s.heap := fun _ _ _ _ _ _ => x_eq.of rfl
  refine lv_aload_n hx hb lZ_d0 rfl (lv_at hl 0 rfl) ?_
  refine y_oi X (hts _ (x_bw2 3 rfl rfl)) (hts _ (x_bw1 12 rfl rfl)) (hts _ (x_bw1 13 rfl rfl)) (Nat.le_of_ble_eq_true rfl) (Nat.le_of_ble_eq_true rfl) hl.1 (Nat.le_of_ble_eq_true rfl) lZ_d1 ?_
  refine lv_aload_n hx hb lZ_d4 rfl (lv_at hl 0 rfl) ?_
  refine lv_bipush hx hb lZ_d5 (v := 10) (by decide) ?_
  have ec10 : (10 : Int32).toInt = 10 := by decide
  refine y_newaC (tag := 19) (k := 10) X hY0 hI rfl rfl (by decide) (hts _ (x_bw5 1 rfl rfl)) (fun Y j => x_dfa (by decide +kernel) Y j) (by decide) (Nat.le_of_ble_eq_true rfl) (Nat.le_of_ble_eq_true rfl) lZ_d7 fun Yn H n7 hnw hct => ?_
  obtain ⟨hIn, hmo, hY_n7, hfr_n7, hke⟩ := hnw
  replace hsi_hills := y_slk hsi_hills (hke _ _ hY_this)
  replace hsi_things := y_slk hsi_things (hke _ _ hY_this)
  replace hsi_letters := y_slk hsi_letters (hke _ _ hY_this)
  replace hK := fun b u g9 (hb : Y0 b = some u) (hg9 : x_G[u]? = some g9) (hnt : b ≠ this) => x_eq.trans (x_eq.of (hke _ _ (y_mon B hI _ _ hb))) (hK b u g9 hb hg9 hnt)
  replace hY_this := hmo _ _ hY_this
  replace hI := hIn
  clear hIn hmo hke
  have hA_n7 : y_A n7 10 H (fun _ => 0) := fun j hj => hct j hj
  clear hct
  refine y_putf X (fw_lZ_241 X.2.2.2.2.1 hnm) hY0 hI hY_this rfl rfl (y_crefA hY_n7 rfl) (by decide +kernel) lZ_d9 fun H sl hI ho hs hk => ?_
  replace hsi_hills := hk _ _ (by decide +kernel) (by decide) hsi_hills
  replace hsi_things := hk _ _ (by decide +kernel) (by decide) hsi_things
  replace hsi_letters := hk _ _ (by decide +kernel) (by decide) hsi_letters
  replace hA_n7 := hA_n7.kept (ho _ (y_ne hY_n7 hY_this rfl))
  replace hK := fun b u g9 (hb : Y0 b = some u) (hg9 : x_G[u]? = some g9) (hnt : b ≠ this) => x_eq.trans (x_eq.of (ho b hnt)) (hK b u g9 hb hg9 hnt)
  replace hs := hs
  have hs9 := hs
  refine lv_aload_n hx hb lZ_d12 rfl (lv_at hl 0 rfl) ?_
  refine lv_bipush hx hb lZ_d13 (v := 10) (by decide) ?_
  refine y_newaC (tag := 20) (k := 10) X hY0 hI rfl rfl (by decide) (hts _ (x_bw5 1 rfl rfl)) (fun Y j => x_dfa (by decide +kernel) Y j) (by decide) (Nat.le_of_ble_eq_true rfl) (Nat.le_of_ble_eq_true rfl) lZ_d15 fun Yn H n15 hnw hct => ?_
  obtain ⟨hIn, hmo, hY_n15, hfr_n15, hke⟩ := hnw
  replace hsi_hills := y_slk hsi_hills (hke _ _ hY_this)
  replace hsi_things := y_slk hsi_things (hke _ _ hY_this)
  replace hsi_letters := y_slk hsi_letters (hke _ _ hY_this)
  replace hs9 := y_slk hs9 (hke _ _ hY_this)
  replace hA_n7 := hA_n7.kept (hke _ _ hY_n7)
  replace hK := fun b u g9 (hb : Y0 b = some u) (hg9 : x_G[u]? = some g9) (hnt : b ≠ this) => x_eq.trans (x_eq.of (hke _ _ (y_mon B hI _ _ hb))) (hK b u g9 hb hg9 hnt)
  replace hY_this := hmo _ _ hY_this
  replace hY_n7 := hmo _ _ hY_n7
  replace hI := hIn
  clear hIn hmo hke
  have hA_n15 : y_A n15 10 H (fun _ => 0) := fun j hj => hct j hj
  clear hct
  refine y_putf X (fw_lZ_242 X.2.2.2.2.1 hnm) hY0 hI hY_this rfl rfl (y_crefA hY_n15 rfl) (by decide +kernel) lZ_d17 fun H sl hI ho hs hk => ?_
  replace hsi_hills := hk _ _ (by decide +kernel) (by decide) hsi_hills
  replace hsi_things := hk _ _ (by decide +kernel) (by decide) hsi_things
  replace hsi_letters := hk _ _ (by decide +kernel) (by decide) hsi_letters
  replace hs9 := hk _ _ (by decide +kernel) (by decide) hs9
  replace hA_n7 := hA_n7.kept (ho _ (y_ne hY_n7 hY_this rfl))
  replace hA_n15 := hA_n15.kept (ho _ (y_ne hY_n15 hY_this rfl))
  replace hK := fun b u g9 (hb : Y0 b = some u) (hg9 : x_G[u]? = some g9) (hnt : b ≠ this) => x_eq.trans (x_eq.of (ho b hnt)) (hK b u g9 hb hg9 hnt)
  replace hs := hs
  have hs17 := hs
  refine lv_aload_n hx hb lZ_d20 rfl (lv_at hl 0 rfl) ?_
  refine lv_bipush hx hb lZ_d21 (v := 10) (by decide) ?_
  refine y_newaC (tag := 21) (k := 10) X hY0 hI rfl rfl (by decide) (hts _ (x_bw5 1 rfl rfl)) (fun Y j => x_dfa (by decide +kernel) Y j) (by decide) (Nat.le_of_ble_eq_true rfl) (Nat.le_of_ble_eq_true rfl) lZ_d23 fun Yn H n23 hnw hct => ?_
  obtain ⟨hIn, hmo, hY_n23, hfr_n23, hke⟩ := hnw
  replace hsi_hills := y_slk hsi_hills (hke _ _ hY_this)
  replace hsi_things := y_slk hsi_things (hke _ _ hY_this)
  replace hsi_letters := y_slk hsi_letters (hke _ _ hY_this)
  replace hs9 := y_slk hs9 (hke _ _ hY_this)
  replace hs17 := y_slk hs17 (hke _ _ hY_this)
  replace hA_n7 := hA_n7.kept (hke _ _ hY_n7)
  replace hA_n15 := hA_n15.kept (hke _ _ hY_n15)
  replace hK := fun b u g9 (hb : Y0 b = some u) (hg9 : x_G[u]? = some g9) (hnt : b ≠ this) => x_eq.trans (x_eq.of (hke _ _ (y_mon B hI _ _ hb))) (hK b u g9 hb hg9 hnt)
  replace hY_this := hmo _ _ hY_this
  replace hY_n7 := hmo _ _ hY_n7
  replace hY_n15 := hmo _ _ hY_n15
  replace hI := hIn
  clear hIn hmo hke
  have hA_n23 : y_A n23 10 H (fun _ => 0) := fun j hj => hct j hj
  clear hct
  refine y_putf X (fw_lZ_243 X.2.2.2.2.1 hnm) hY0 hI hY_this rfl rfl (y_crefA hY_n23 rfl) (by decide +kernel) lZ_d25 fun H sl hI ho hs hk => ?_
  replace hsi_hills := hk _ _ (by decide +kernel) (by decide) hsi_hills
  replace hsi_things := hk _ _ (by decide +kernel) (by decide) hsi_things
  replace hsi_letters := hk _ _ (by decide +kernel) (by decide) hsi_letters
  replace hs9 := hk _ _ (by decide +kernel) (by decide) hs9
  replace hs17 := hk _ _ (by decide +kernel) (by decide) hs17
  replace hA_n7 := hA_n7.kept (ho _ (y_ne hY_n7 hY_this rfl))
  replace hA_n15 := hA_n15.kept (ho _ (y_ne hY_n15 hY_this rfl))
  replace hA_n23 := hA_n23.kept (ho _ (y_ne hY_n23 hY_this rfl))
  replace hK := fun b u g9 (hb : Y0 b = some u) (hg9 : x_G[u]? = some g9) (hnt : b ≠ this) => x_eq.trans (x_eq.of (ho b hnt)) (hK b u g9 hb hg9 hnt)
  replace hs := hs
  have hs25 := hs
  refine lv_aload_n hx hb lZ_d28 rfl (lv_at hl 0 rfl) ?_
  refine lv_bipush hx hb lZ_d29 (v := 10) (by decide) ?_
  refine y_newaC (tag := 22) (k := 10) X hY0 hI rfl rfl (by decide) (hts _ (x_bw5 1 rfl rfl)) (fun Y j => x_dfa (by decide +kernel) Y j) (by decide) (Nat.le_of_ble_eq_true rfl) (Nat.le_of_ble_eq_true rfl) lZ_d31 fun Yn H n31 hnw hct => ?_
  obtain ⟨hIn, hmo, hY_n31, hfr_n31, hke⟩ := hnw
  replace hsi_hills := y_slk hsi_hills (hke _ _ hY_this)
  replace hsi_things := y_slk hsi_things (hke _ _ hY_this)
  replace hsi_letters := y_slk hsi_letters (hke _ _ hY_this)
  replace hs9 := y_slk hs9 (hke _ _ hY_this)
  replace hs17 := y_slk hs17 (hke _ _ hY_this)
  replace hs25 := y_slk hs25 (hke _ _ hY_this)
  replace hA_n7 := hA_n7.kept (hke _ _ hY_n7)
  replace hA_n15 := hA_n15.kept (hke _ _ hY_n15)
  replace hA_n23 := hA_n23.kept (hke _ _ hY_n23)
  replace hK := fun b u g9 (hb : Y0 b = some u) (hg9 : x_G[u]? = some g9) (hnt : b ≠ this) => x_eq.trans (x_eq.of (hke _ _ (y_mon B hI _ _ hb))) (hK b u g9 hb hg9 hnt)
  replace hY_this := hmo _ _ hY_this
  replace hY_n7 := hmo _ _ hY_n7
  replace hY_n15 := hmo _ _ hY_n15
  replace hY_n23 := hmo _ _ hY_n23
  replace hI := hIn
  clear hIn hmo hke
  have hA_n31 : y_A n31 10 H (fun _ => 0) := fun j hj => hct j hj
  clear hct
  refine y_putf X (fw_lZ_244 X.2.2.2.2.1 hnm) hY0 hI hY_this rfl rfl (y_crefA hY_n31 rfl) (by decide +kernel) lZ_d33 fun H sl hI ho hs hk => ?_
  replace hsi_hills := hk _ _ (by decide +kernel) (by decide) hsi_hills
  replace hsi_things := hk _ _ (by decide +kernel) (by decide) hsi_things
  replace hsi_letters := hk _ _ (by decide +kernel) (by decide) hsi_letters
  replace hs9 := hk _ _ (by decide +kernel) (by decide) hs9
  replace hs17 := hk _ _ (by decide +kernel) (by decide) hs17
  replace hs25 := hk _ _ (by decide +kernel) (by decide) hs25
  replace hA_n7 := hA_n7.kept (ho _ (y_ne hY_n7 hY_this rfl))
  replace hA_n15 := hA_n15.kept (ho _ (y_ne hY_n15 hY_this rfl))
  replace hA_n23 := hA_n23.kept (ho _ (y_ne hY_n23 hY_this rfl))
  replace hA_n31 := hA_n31.kept (ho _ (y_ne hY_n31 hY_this rfl))
  replace hK := fun b u g9 (hb : Y0 b = some u) (hg9 : x_G[u]? = some g9) (hnt : b ≠ this) => x_eq.trans (x_eq.of (ho b hnt)) (hK b u g9 hb hg9 hnt)
  replace hs := hs
  have hs33 := hs
  refine lv_aload_n hx hb lZ_d36 rfl (lv_at hl 0 rfl) ?_
  refine lv_bipush hx hb lZ_d37 (v := 10) (by decide) ?_
  refine y_newaC (tag := 23) (k := 10) X hY0 hI rfl rfl (by decide) (hts _ (x_bw5 1 rfl rfl)) (fun Y j => x_dfa (by decide +kernel) Y j) (by decide) (Nat.le_of_ble_eq_true rfl) (Nat.le_of_ble_eq_true rfl) lZ_d39 fun Yn H n39 hnw hct => ?_
  obtain ⟨hIn, hmo, hY_n39, hfr_n39, hke⟩ := hnw
  replace hsi_hills := y_slk hsi_hills (hke _ _ hY_this)
  replace hsi_things := y_slk hsi_things (hke _ _ hY_this)
  replace hsi_letters := y_slk hsi_letters (hke _ _ hY_this)
  replace hs9 := y_slk hs9 (hke _ _ hY_this)
  replace hs17 := y_slk hs17 (hke _ _ hY_this)
  replace hs25 := y_slk hs25 (hke _ _ hY_this)
  replace hs33 := y_slk hs33 (hke _ _ hY_this)
  replace hA_n7 := hA_n7.kept (hke _ _ hY_n7)
  replace hA_n15 := hA_n15.kept (hke _ _ hY_n15)
  replace hA_n23 := hA_n23.kept (hke _ _ hY_n23)
  replace hA_n31 := hA_n31.kept (hke _ _ hY_n31)
  replace hK := fun b u g9 (hb : Y0 b = some u) (hg9 : x_G[u]? = some g9) (hnt : b ≠ this) => x_eq.trans (x_eq.of (hke _ _ (y_mon B hI _ _ hb))) (hK b u g9 hb hg9 hnt)
  replace hY_this := hmo _ _ hY_this
  replace hY_n7 := hmo _ _ hY_n7
  replace hY_n15 := hmo _ _ hY_n15
  replace hY_n23 := hmo _ _ hY_n23
  replace hY_n31 := hmo _ _ hY_n31
  replace hI := hIn
  clear hIn hmo hke
  have hA_n39 : y_A n39 10 H (fun _ => 0) := fun j hj => hct j hj
  clear hct
  refine y_putf X (fw_lZ_245 X.2.2.2.2.1 hnm) hY0 hI hY_this rfl rfl (y_crefA hY_n39 rfl) (by decide +kernel) lZ_d41 fun H sl hI ho hs hk => ?_
  replace hsi_hills := hk _ _ (by decide +kernel) (by decide) hsi_hills
  replace hsi_things := hk _ _ (by decide +kernel) (by decide) hsi_things
  replace hsi_letters := hk _ _ (by decide +kernel) (by decide) hsi_letters
  replace hs9 := hk _ _ (by decide +kernel) (by decide) hs9
  replace hs17 := hk _ _ (by decide +kernel) (by decide) hs17
  replace hs25 := hk _ _ (by decide +kernel) (by decide) hs25
  replace hs33 := hk _ _ (by decide +kernel) (by decide) hs33
  replace hA_n7 := hA_n7.kept (ho _ (y_ne hY_n7 hY_this rfl))
  replace hA_n15 := hA_n15.kept (ho _ (y_ne hY_n15 hY_this rfl))
  replace hA_n23 := hA_n23.kept (ho _ (y_ne hY_n23 hY_this rfl))
  replace hA_n31 := hA_n31.kept (ho _ (y_ne hY_n31 hY_this rfl))
  replace hA_n39 := hA_n39.kept (ho _ (y_ne hY_n39 hY_this rfl))
  replace hK := fun b u g9 (hb : Y0 b = some u) (hg9 : x_G[u]? = some g9) (hnt : b ≠ this) => x_eq.trans (x_eq.of (ho b hnt)) (hK b u g9 hb hg9 hnt)
  replace hs := hs
  have hs41 := hs
  refine lv_aload_n hx hb lZ_d44 rfl (lv_at hl 0 rfl) ?_
  refine lv_bipush hx hb lZ_d45 (v := 8) (by decide) ?_
  have ec8 : (8 : Int32).toInt = 8 := by decide
  refine y_newrC (tag := 64) (k := 8) (C := "TwinFires$Stone") X hY0 hI rfl (by decide) (hts _ (x_bw2 4 rfl rfl)) (va_AO.use (X.2.2.2.2.2.2.2.2.1 _ (x_bn2 5 rfl rfl))) (fun Y j => x_dfa (ty := .object "TwinFires$Stone") (by decide +kernel) Y j) (by decide) (Nat.le_of_ble_eq_true rfl) (Nat.le_of_ble_eq_true rfl) lZ_d47 fun Yn H n47 hnw hct => ?_
  obtain ⟨hIn, hmo, hY_n47, hfr_n47, hke⟩ := hnw
  replace hsi_hills := y_slk hsi_hills (hke _ _ hY_this)
  replace hsi_things := y_slk hsi_things (hke _ _ hY_this)
  replace hsi_letters := y_slk hsi_letters (hke _ _ hY_this)
  replace hs9 := y_slk hs9 (hke _ _ hY_this)
  replace hs17 := y_slk hs17 (hke _ _ hY_this)
  replace hs25 := y_slk hs25 (hke _ _ hY_this)
  replace hs33 := y_slk hs33 (hke _ _ hY_this)
  replace hs41 := y_slk hs41 (hke _ _ hY_this)
  replace hA_n7 := hA_n7.kept (hke _ _ hY_n7)
  replace hA_n15 := hA_n15.kept (hke _ _ hY_n15)
  replace hA_n23 := hA_n23.kept (hke _ _ hY_n23)
  replace hA_n31 := hA_n31.kept (hke _ _ hY_n31)
  replace hA_n39 := hA_n39.kept (hke _ _ hY_n39)
  replace hK := fun b u g9 (hb : Y0 b = some u) (hg9 : x_G[u]? = some g9) (hnt : b ≠ this) => x_eq.trans (x_eq.of (hke _ _ (y_mon B hI _ _ hb))) (hK b u g9 hb hg9 hnt)
  replace hY_this := hmo _ _ hY_this
  replace hY_n7 := hmo _ _ hY_n7
  replace hY_n15 := hmo _ _ hY_n15
  replace hY_n23 := hmo _ _ hY_n23
  replace hY_n31 := hmo _ _ hY_n31
  replace hY_n39 := hmo _ _ hY_n39
  replace hI := hIn
  clear hIn hmo hke
  clear hct
  refine y_putf X (fw_lZ_246 X.2.2.2.2.1 hnm) hY0 hI hY_this rfl rfl (y_crefA hY_n47 rfl) (by decide +kernel) lZ_d50 fun H sl hI ho hs hk => ?_
  replace hsi_hills := hk _ _ (by decide +kernel) (by decide) hsi_hills
  replace hsi_things := hk _ _ (by decide +kernel) (by decide) hsi_things
  replace hsi_letters := hk _ _ (by decide +kernel) (by decide) hsi_letters
  replace hs9 := hk _ _ (by decide +kernel) (by decide) hs9
  replace hs17 := hk _ _ (by decide +kernel) (by decide) hs17
  replace hs25 := hk _ _ (by decide +kernel) (by decide) hs25
  replace hs33 := hk _ _ (by decide +kernel) (by decide) hs33
  replace hs41 := hk _ _ (by decide +kernel) (by decide) hs41
  replace hA_n7 := hA_n7.kept (ho _ (y_ne hY_n7 hY_this rfl))
  replace hA_n15 := hA_n15.kept (ho _ (y_ne hY_n15 hY_this rfl))
  replace hA_n23 := hA_n23.kept (ho _ (y_ne hY_n23 hY_this rfl))
  replace hA_n31 := hA_n31.kept (ho _ (y_ne hY_n31 hY_this rfl))
  replace hA_n39 := hA_n39.kept (ho _ (y_ne hY_n39 hY_this rfl))
  replace hK := fun b u g9 (hb : Y0 b = some u) (hg9 : x_G[u]? = some g9) (hnt : b ≠ this) => x_eq.trans (x_eq.of (ho b hnt)) (hK b u g9 hb hg9 hnt)
  replace hs := hs
  have hs50 := hs
  refine lv_aload_n hx hb lZ_d53 rfl (lv_at hl 0 rfl) ?_
  refine lv_bipush hx hb lZ_d54 (v := 8) (by decide) ?_
  refine y_newaC (tag := 25) (k := 8) X hY0 hI rfl rfl (by decide) (hts _ (x_bw5 1 rfl rfl)) (fun Y j => x_dfa (by decide +kernel) Y j) (by decide) (Nat.le_of_ble_eq_true rfl) (Nat.le_of_ble_eq_true rfl) lZ_d56 fun Yn H n56 hnw hct => ?_
  obtain ⟨hIn, hmo, hY_n56, hfr_n56, hke⟩ := hnw
  replace hsi_hills := y_slk hsi_hills (hke _ _ hY_this)
  replace hsi_things := y_slk hsi_things (hke _ _ hY_this)
  replace hsi_letters := y_slk hsi_letters (hke _ _ hY_this)
  replace hs9 := y_slk hs9 (hke _ _ hY_this)
  replace hs17 := y_slk hs17 (hke _ _ hY_this)
  replace hs25 := y_slk hs25 (hke _ _ hY_this)
  replace hs33 := y_slk hs33 (hke _ _ hY_this)
  replace hs41 := y_slk hs41 (hke _ _ hY_this)
  replace hs50 := y_slk hs50 (hke _ _ hY_this)
  replace hA_n7 := hA_n7.kept (hke _ _ hY_n7)
  replace hA_n15 := hA_n15.kept (hke _ _ hY_n15)
  replace hA_n23 := hA_n23.kept (hke _ _ hY_n23)
  replace hA_n31 := hA_n31.kept (hke _ _ hY_n31)
  replace hA_n39 := hA_n39.kept (hke _ _ hY_n39)
  replace hK := fun b u g9 (hb : Y0 b = some u) (hg9 : x_G[u]? = some g9) (hnt : b ≠ this) => x_eq.trans (x_eq.of (hke _ _ (y_mon B hI _ _ hb))) (hK b u g9 hb hg9 hnt)
  replace hY_this := hmo _ _ hY_this
  replace hY_n7 := hmo _ _ hY_n7
  replace hY_n15 := hmo _ _ hY_n15
  replace hY_n23 := hmo _ _ hY_n23
  replace hY_n31 := hmo _ _ hY_n31
  replace hY_n39 := hmo _ _ hY_n39
  replace hY_n47 := hmo _ _ hY_n47
  replace hI := hIn
  clear hIn hmo hke
  have hA_n56 : y_A n56 8 H (fun _ => 0) := fun j hj => hct j hj
  clear hct
  refine y_putf X (fw_lZ_247 X.2.2.2.2.1 hnm) hY0 hI hY_this rfl rfl (y_crefA hY_n56 rfl) (by decide +kernel) lZ_d58 fun H sl hI ho hs hk => ?_
  replace hsi_hills := hk _ _ (by decide +kernel) (by decide) hsi_hills
  replace hsi_things := hk _ _ (by decide +kernel) (by decide) hsi_things
  replace hsi_letters := hk _ _ (by decide +kernel) (by decide) hsi_letters
  replace hs9 := hk _ _ (by decide +kernel) (by decide) hs9
  replace hs17 := hk _ _ (by decide +kernel) (by decide) hs17
  replace hs25 := hk _ _ (by decide +kernel) (by decide) hs25
  replace hs33 := hk _ _ (by decide +kernel) (by decide) hs33
  replace hs41 := hk _ _ (by decide +kernel) (by decide) hs41
  replace hs50 := hk _ _ (by decide +kernel) (by decide) hs50
  replace hA_n7 := hA_n7.kept (ho _ (y_ne hY_n7 hY_this rfl))
  replace hA_n15 := hA_n15.kept (ho _ (y_ne hY_n15 hY_this rfl))
  replace hA_n23 := hA_n23.kept (ho _ (y_ne hY_n23 hY_this rfl))
  replace hA_n31 := hA_n31.kept (ho _ (y_ne hY_n31 hY_this rfl))
  replace hA_n39 := hA_n39.kept (ho _ (y_ne hY_n39 hY_this rfl))
  replace hA_n56 := hA_n56.kept (ho _ (y_ne hY_n56 hY_this rfl))
  replace hK := fun b u g9 (hb : Y0 b = some u) (hg9 : x_G[u]? = some g9) (hnt : b ≠ this) => x_eq.trans (x_eq.of (ho b hnt)) (hK b u g9 hb hg9 hnt)
  replace hs := hs
  have hs58 := hs
  refine lv_aload_n hx hb lZ_d61 rfl (lv_at hl 0 rfl) ?_
  refine lv_bipush hx hb lZ_d62 (v := 8) (by decide) ?_
  refine y_newaC (tag := 26) (k := 8) X hY0 hI rfl rfl (by decide) (hts _ (x_bw5 1 rfl rfl)) (fun Y j => x_dfa (by decide +kernel) Y j) (by decide) (Nat.le_of_ble_eq_true rfl) (Nat.le_of_ble_eq_true rfl) lZ_d64 fun Yn H n64 hnw hct => ?_
  obtain ⟨hIn, hmo, hY_n64, hfr_n64, hke⟩ := hnw
  replace hsi_hills := y_slk hsi_hills (hke _ _ hY_this)
  replace hsi_things := y_slk hsi_things (hke _ _ hY_this)
  replace hsi_letters := y_slk hsi_letters (hke _ _ hY_this)
  replace hs9 := y_slk hs9 (hke _ _ hY_this)
  replace hs17 := y_slk hs17 (hke _ _ hY_this)
  replace hs25 := y_slk hs25 (hke _ _ hY_this)
  replace hs33 := y_slk hs33 (hke _ _ hY_this)
  replace hs41 := y_slk hs41 (hke _ _ hY_this)
  replace hs50 := y_slk hs50 (hke _ _ hY_this)
  replace hs58 := y_slk hs58 (hke _ _ hY_this)
  replace hA_n7 := hA_n7.kept (hke _ _ hY_n7)
  replace hA_n15 := hA_n15.kept (hke _ _ hY_n15)
  replace hA_n23 := hA_n23.kept (hke _ _ hY_n23)
  replace hA_n31 := hA_n31.kept (hke _ _ hY_n31)
  replace hA_n39 := hA_n39.kept (hke _ _ hY_n39)
  replace hA_n56 := hA_n56.kept (hke _ _ hY_n56)
  replace hK := fun b u g9 (hb : Y0 b = some u) (hg9 : x_G[u]? = some g9) (hnt : b ≠ this) => x_eq.trans (x_eq.of (hke _ _ (y_mon B hI _ _ hb))) (hK b u g9 hb hg9 hnt)
  replace hY_this := hmo _ _ hY_this
  replace hY_n7 := hmo _ _ hY_n7
  replace hY_n15 := hmo _ _ hY_n15
  replace hY_n23 := hmo _ _ hY_n23
  replace hY_n31 := hmo _ _ hY_n31
  replace hY_n39 := hmo _ _ hY_n39
  replace hY_n47 := hmo _ _ hY_n47
  replace hY_n56 := hmo _ _ hY_n56
  replace hI := hIn
  clear hIn hmo hke
  have hA_n64 : y_A n64 8 H (fun _ => 0) := fun j hj => hct j hj
  clear hct
  refine y_putf X (fw_lZ_248 X.2.2.2.2.1 hnm) hY0 hI hY_this rfl rfl (y_crefA hY_n64 rfl) (by decide +kernel) lZ_d66 fun H sl hI ho hs hk => ?_
  replace hsi_hills := hk _ _ (by decide +kernel) (by decide) hsi_hills
  replace hsi_things := hk _ _ (by decide +kernel) (by decide) hsi_things
  replace hsi_letters := hk _ _ (by decide +kernel) (by decide) hsi_letters
  replace hs9 := hk _ _ (by decide +kernel) (by decide) hs9
  replace hs17 := hk _ _ (by decide +kernel) (by decide) hs17
  replace hs25 := hk _ _ (by decide +kernel) (by decide) hs25
  replace hs33 := hk _ _ (by decide +kernel) (by decide) hs33
  replace hs41 := hk _ _ (by decide +kernel) (by decide) hs41
  replace hs50 := hk _ _ (by decide +kernel) (by decide) hs50
  replace hs58 := hk _ _ (by decide +kernel) (by decide) hs58
  replace hA_n7 := hA_n7.kept (ho _ (y_ne hY_n7 hY_this rfl))
  replace hA_n15 := hA_n15.kept (ho _ (y_ne hY_n15 hY_this rfl))
  replace hA_n23 := hA_n23.kept (ho _ (y_ne hY_n23 hY_this rfl))
  replace hA_n31 := hA_n31.kept (ho _ (y_ne hY_n31 hY_this rfl))
  replace hA_n39 := hA_n39.kept (ho _ (y_ne hY_n39 hY_this rfl))
  replace hA_n56 := hA_n56.kept (ho _ (y_ne hY_n56 hY_this rfl))
  replace hA_n64 := hA_n64.kept (ho _ (y_ne hY_n64 hY_this rfl))
  replace hK := fun b u g9 (hb : Y0 b = some u) (hg9 : x_G[u]? = some g9) (hnt : b ≠ this) => x_eq.trans (x_eq.of (ho b hnt)) (hK b u g9 hb hg9 hnt)
  replace hs := hs
  have hs66 := hs
  refine lv_aload_n hx hb lZ_d69 rfl (lv_at hl 0 rfl) ?_
  refine lv_iconst hx hb lZ_d70 (v := 4) (by decide) ?_
  have ec4 : (4 : Int32).toInt = 4 := by decide
  refine y_newaC (tag := 27) (k := 4) X hY0 hI rfl rfl (by decide) (hts _ (x_bw5 1 rfl rfl)) (fun Y j => x_dfa (by decide +kernel) Y j) (by decide) (Nat.le_of_ble_eq_true rfl) (Nat.le_of_ble_eq_true rfl) lZ_d71 fun Yn H n71 hnw hct => ?_
  obtain ⟨hIn, hmo, hY_n71, hfr_n71, hke⟩ := hnw
  replace hsi_hills := y_slk hsi_hills (hke _ _ hY_this)
  replace hsi_things := y_slk hsi_things (hke _ _ hY_this)
  replace hsi_letters := y_slk hsi_letters (hke _ _ hY_this)
  replace hs9 := y_slk hs9 (hke _ _ hY_this)
  replace hs17 := y_slk hs17 (hke _ _ hY_this)
  replace hs25 := y_slk hs25 (hke _ _ hY_this)
  replace hs33 := y_slk hs33 (hke _ _ hY_this)
  replace hs41 := y_slk hs41 (hke _ _ hY_this)
  replace hs50 := y_slk hs50 (hke _ _ hY_this)
  replace hs58 := y_slk hs58 (hke _ _ hY_this)
  replace hs66 := y_slk hs66 (hke _ _ hY_this)
  replace hA_n7 := hA_n7.kept (hke _ _ hY_n7)
  replace hA_n15 := hA_n15.kept (hke _ _ hY_n15)
  replace hA_n23 := hA_n23.kept (hke _ _ hY_n23)
  replace hA_n31 := hA_n31.kept (hke _ _ hY_n31)
  replace hA_n39 := hA_n39.kept (hke _ _ hY_n39)
  replace hA_n56 := hA_n56.kept (hke _ _ hY_n56)
  replace hA_n64 := hA_n64.kept (hke _ _ hY_n64)
  replace hK := fun b u g9 (hb : Y0 b = some u) (hg9 : x_G[u]? = some g9) (hnt : b ≠ this) => x_eq.trans (x_eq.of (hke _ _ (y_mon B hI _ _ hb))) (hK b u g9 hb hg9 hnt)
  replace hY_this := hmo _ _ hY_this
  replace hY_n7 := hmo _ _ hY_n7
  replace hY_n15 := hmo _ _ hY_n15
  replace hY_n23 := hmo _ _ hY_n23
  replace hY_n31 := hmo _ _ hY_n31
  replace hY_n39 := hmo _ _ hY_n39
  replace hY_n47 := hmo _ _ hY_n47
  replace hY_n56 := hmo _ _ hY_n56
  replace hY_n64 := hmo _ _ hY_n64
  replace hI := hIn
  clear hIn hmo hke
  have hA_n71 : y_A n71 4 H (fun _ => 0) := fun j hj => hct j hj
  clear hct
  refine y_putf X (fw_lZ_249 X.2.2.2.2.1 hnm) hY0 hI hY_this rfl rfl (y_crefA hY_n71 rfl) (by decide +kernel) lZ_d73 fun H sl hI ho hs hk => ?_
  replace hsi_hills := hk _ _ (by decide +kernel) (by decide) hsi_hills
  replace hsi_things := hk _ _ (by decide +kernel) (by decide) hsi_things
  replace hsi_letters := hk _ _ (by decide +kernel) (by decide) hsi_letters
  replace hs9 := hk _ _ (by decide +kernel) (by decide) hs9
  replace hs17 := hk _ _ (by decide +kernel) (by decide) hs17
  replace hs25 := hk _ _ (by decide +kernel) (by decide) hs25
  replace hs33 := hk _ _ (by decide +kernel) (by decide) hs33
  replace hs41 := hk _ _ (by decide +kernel) (by decide) hs41
  replace hs50 := hk _ _ (by decide +kernel) (by decide) hs50
  replace hs58 := hk _ _ (by decide +kernel) (by decide) hs58
  replace hs66 := hk _ _ (by decide +kernel) (by decide) hs66
  replace hA_n7 := hA_n7.kept (ho _ (y_ne hY_n7 hY_this rfl))
  replace hA_n15 := hA_n15.kept (ho _ (y_ne hY_n15 hY_this rfl))
  replace hA_n23 := hA_n23.kept (ho _ (y_ne hY_n23 hY_this rfl))
  replace hA_n31 := hA_n31.kept (ho _ (y_ne hY_n31 hY_this rfl))
  replace hA_n39 := hA_n39.kept (ho _ (y_ne hY_n39 hY_this rfl))
  replace hA_n56 := hA_n56.kept (ho _ (y_ne hY_n56 hY_this rfl))
  replace hA_n64 := hA_n64.kept (ho _ (y_ne hY_n64 hY_this rfl))
  replace hA_n71 := hA_n71.kept (ho _ (y_ne hY_n71 hY_this rfl))
  replace hK := fun b u g9 (hb : Y0 b = some u) (hg9 : x_G[u]? = some g9) (hnt : b ≠ this) => x_eq.trans (x_eq.of (ho b hnt)) (hK b u g9 hb hg9 hnt)
  replace hs := hs
  have hs73 := hs
  refine lv_aload_n hx hb lZ_d76 rfl (lv_at hl 0 rfl) ?_
  refine lv_bipush hx hb lZ_d77 (v := 12) (by decide) ?_
  have ec12 : (12 : Int32).toInt = 12 := by decide
  refine y_newaC (tag := 28) (k := 12) X hY0 hI rfl rfl (by decide) (hts _ (x_bw5 1 rfl rfl)) (fun Y j => x_dfa (by decide +kernel) Y j) (by decide) (Nat.le_of_ble_eq_true rfl) (Nat.le_of_ble_eq_true rfl) lZ_d79 fun Yn H n79 hnw hct => ?_
  obtain ⟨hIn, hmo, hY_n79, hfr_n79, hke⟩ := hnw
  replace hsi_hills := y_slk hsi_hills (hke _ _ hY_this)
  replace hsi_things := y_slk hsi_things (hke _ _ hY_this)
  replace hsi_letters := y_slk hsi_letters (hke _ _ hY_this)
  replace hs9 := y_slk hs9 (hke _ _ hY_this)
  replace hs17 := y_slk hs17 (hke _ _ hY_this)
  replace hs25 := y_slk hs25 (hke _ _ hY_this)
  replace hs33 := y_slk hs33 (hke _ _ hY_this)
  replace hs41 := y_slk hs41 (hke _ _ hY_this)
  replace hs50 := y_slk hs50 (hke _ _ hY_this)
  replace hs58 := y_slk hs58 (hke _ _ hY_this)
  replace hs66 := y_slk hs66 (hke _ _ hY_this)
  replace hs73 := y_slk hs73 (hke _ _ hY_this)
  replace hA_n7 := hA_n7.kept (hke _ _ hY_n7)
  replace hA_n15 := hA_n15.kept (hke _ _ hY_n15)
  replace hA_n23 := hA_n23.kept (hke _ _ hY_n23)
  replace hA_n31 := hA_n31.kept (hke _ _ hY_n31)
  replace hA_n39 := hA_n39.kept (hke _ _ hY_n39)
  replace hA_n56 := hA_n56.kept (hke _ _ hY_n56)
  replace hA_n64 := hA_n64.kept (hke _ _ hY_n64)
  replace hA_n71 := hA_n71.kept (hke _ _ hY_n71)
  replace hK := fun b u g9 (hb : Y0 b = some u) (hg9 : x_G[u]? = some g9) (hnt : b ≠ this) => x_eq.trans (x_eq.of (hke _ _ (y_mon B hI _ _ hb))) (hK b u g9 hb hg9 hnt)
  replace hY_this := hmo _ _ hY_this
  replace hY_n7 := hmo _ _ hY_n7
  replace hY_n15 := hmo _ _ hY_n15
  replace hY_n23 := hmo _ _ hY_n23
  replace hY_n31 := hmo _ _ hY_n31
  replace hY_n39 := hmo _ _ hY_n39
  replace hY_n47 := hmo _ _ hY_n47
  replace hY_n56 := hmo _ _ hY_n56
  replace hY_n64 := hmo _ _ hY_n64
  replace hY_n71 := hmo _ _ hY_n71
  replace hI := hIn
  clear hIn hmo hke
  have hA_n79 : y_A n79 12 H (fun _ => 0) := fun j hj => hct j hj
  clear hct
  refine y_putf X (fw_lZ_250 X.2.2.2.2.1 hnm) hY0 hI hY_this rfl rfl (y_crefA hY_n79 rfl) (by decide +kernel) lZ_d81 fun H sl hI ho hs hk => ?_
  replace hsi_hills := hk _ _ (by decide +kernel) (by decide) hsi_hills
  replace hsi_things := hk _ _ (by decide +kernel) (by decide) hsi_things
  replace hsi_letters := hk _ _ (by decide +kernel) (by decide) hsi_letters
  replace hs9 := hk _ _ (by decide +kernel) (by decide) hs9
  replace hs17 := hk _ _ (by decide +kernel) (by decide) hs17
  replace hs25 := hk _ _ (by decide +kernel) (by decide) hs25
  replace hs33 := hk _ _ (by decide +kernel) (by decide) hs33
  replace hs41 := hk _ _ (by decide +kernel) (by decide) hs41
  replace hs50 := hk _ _ (by decide +kernel) (by decide) hs50
  replace hs58 := hk _ _ (by decide +kernel) (by decide) hs58
  replace hs66 := hk _ _ (by decide +kernel) (by decide) hs66
  replace hs73 := hk _ _ (by decide +kernel) (by decide) hs73
  replace hA_n7 := hA_n7.kept (ho _ (y_ne hY_n7 hY_this rfl))
  replace hA_n15 := hA_n15.kept (ho _ (y_ne hY_n15 hY_this rfl))
  replace hA_n23 := hA_n23.kept (ho _ (y_ne hY_n23 hY_this rfl))
  replace hA_n31 := hA_n31.kept (ho _ (y_ne hY_n31 hY_this rfl))
  replace hA_n39 := hA_n39.kept (ho _ (y_ne hY_n39 hY_this rfl))
  replace hA_n56 := hA_n56.kept (ho _ (y_ne hY_n56 hY_this rfl))
  replace hA_n64 := hA_n64.kept (ho _ (y_ne hY_n64 hY_this rfl))
  replace hA_n71 := hA_n71.kept (ho _ (y_ne hY_n71 hY_this rfl))
  replace hA_n79 := hA_n79.kept (ho _ (y_ne hY_n79 hY_this rfl))
  replace hK := fun b u g9 (hb : Y0 b = some u) (hg9 : x_G[u]? = some g9) (hnt : b ≠ this) => x_eq.trans (x_eq.of (ho b hnt)) (hK b u g9 hb hg9 hnt)
  replace hs := hs
  have hs81 := hs
  refine lv_aload_n hx hb lZ_d84 rfl (lv_at hl 0 rfl) ?_
  refine lv_bipush hx hb lZ_d85 (v := 8) (by decide) ?_
  refine y_newaC (tag := 29) (k := 8) X hY0 hI rfl rfl (by decide) (hts _ (x_bw5 1 rfl rfl)) (fun Y j => x_dfa (by decide +kernel) Y j) (by decide) (Nat.le_of_ble_eq_true rfl) (Nat.le_of_ble_eq_true rfl) lZ_d87 fun Yn H n87 hnw hct => ?_
  obtain ⟨hIn, hmo, hY_n87, hfr_n87, hke⟩ := hnw
  replace hsi_hills := y_slk hsi_hills (hke _ _ hY_this)
  replace hsi_things := y_slk hsi_things (hke _ _ hY_this)
  replace hsi_letters := y_slk hsi_letters (hke _ _ hY_this)
  replace hs9 := y_slk hs9 (hke _ _ hY_this)
  replace hs17 := y_slk hs17 (hke _ _ hY_this)
  replace hs25 := y_slk hs25 (hke _ _ hY_this)
  replace hs33 := y_slk hs33 (hke _ _ hY_this)
  replace hs41 := y_slk hs41 (hke _ _ hY_this)
  replace hs50 := y_slk hs50 (hke _ _ hY_this)
  replace hs58 := y_slk hs58 (hke _ _ hY_this)
  replace hs66 := y_slk hs66 (hke _ _ hY_this)
  replace hs73 := y_slk hs73 (hke _ _ hY_this)
  replace hs81 := y_slk hs81 (hke _ _ hY_this)
  replace hA_n7 := hA_n7.kept (hke _ _ hY_n7)
  replace hA_n15 := hA_n15.kept (hke _ _ hY_n15)
  replace hA_n23 := hA_n23.kept (hke _ _ hY_n23)
  replace hA_n31 := hA_n31.kept (hke _ _ hY_n31)
  replace hA_n39 := hA_n39.kept (hke _ _ hY_n39)
  replace hA_n56 := hA_n56.kept (hke _ _ hY_n56)
  replace hA_n64 := hA_n64.kept (hke _ _ hY_n64)
  replace hA_n71 := hA_n71.kept (hke _ _ hY_n71)
  replace hA_n79 := hA_n79.kept (hke _ _ hY_n79)
  replace hK := fun b u g9 (hb : Y0 b = some u) (hg9 : x_G[u]? = some g9) (hnt : b ≠ this) => x_eq.trans (x_eq.of (hke _ _ (y_mon B hI _ _ hb))) (hK b u g9 hb hg9 hnt)
  replace hY_this := hmo _ _ hY_this
  replace hY_n7 := hmo _ _ hY_n7
  replace hY_n15 := hmo _ _ hY_n15
  replace hY_n23 := hmo _ _ hY_n23
  replace hY_n31 := hmo _ _ hY_n31
  replace hY_n39 := hmo _ _ hY_n39
  replace hY_n47 := hmo _ _ hY_n47
  replace hY_n56 := hmo _ _ hY_n56
  replace hY_n64 := hmo _ _ hY_n64
  replace hY_n71 := hmo _ _ hY_n71
  replace hY_n79 := hmo _ _ hY_n79
  replace hI := hIn
  clear hIn hmo hke
  have hA_n87 : y_A n87 8 H (fun _ => 0) := fun j hj => hct j hj
  clear hct
  refine y_putf X (fw_lZ_251 X.2.2.2.2.1 hnm) hY0 hI hY_this rfl rfl (y_crefA hY_n87 rfl) (by decide +kernel) lZ_d89 fun H sl hI ho hs hk => ?_
  replace hsi_hills := hk _ _ (by decide +kernel) (by decide) hsi_hills
  replace hsi_things := hk _ _ (by decide +kernel) (by decide) hsi_things
  replace hsi_letters := hk _ _ (by decide +kernel) (by decide) hsi_letters
  replace hs9 := hk _ _ (by decide +kernel) (by decide) hs9
  replace hs17 := hk _ _ (by decide +kernel) (by decide) hs17
  replace hs25 := hk _ _ (by decide +kernel) (by decide) hs25
  replace hs33 := hk _ _ (by decide +kernel) (by decide) hs33
  replace hs41 := hk _ _ (by decide +kernel) (by decide) hs41
  replace hs50 := hk _ _ (by decide +kernel) (by decide) hs50
  replace hs58 := hk _ _ (by decide +kernel) (by decide) hs58
  replace hs66 := hk _ _ (by decide +kernel) (by decide) hs66
  replace hs73 := hk _ _ (by decide +kernel) (by decide) hs73
  replace hs81 := hk _ _ (by decide +kernel) (by decide) hs81
  replace hA_n7 := hA_n7.kept (ho _ (y_ne hY_n7 hY_this rfl))
  replace hA_n15 := hA_n15.kept (ho _ (y_ne hY_n15 hY_this rfl))
  replace hA_n23 := hA_n23.kept (ho _ (y_ne hY_n23 hY_this rfl))
  replace hA_n31 := hA_n31.kept (ho _ (y_ne hY_n31 hY_this rfl))
  replace hA_n39 := hA_n39.kept (ho _ (y_ne hY_n39 hY_this rfl))
  replace hA_n56 := hA_n56.kept (ho _ (y_ne hY_n56 hY_this rfl))
  replace hA_n64 := hA_n64.kept (ho _ (y_ne hY_n64 hY_this rfl))
  replace hA_n71 := hA_n71.kept (ho _ (y_ne hY_n71 hY_this rfl))
  replace hA_n79 := hA_n79.kept (ho _ (y_ne hY_n79 hY_this rfl))
  replace hA_n87 := hA_n87.kept (ho _ (y_ne hY_n87 hY_this rfl))
  replace hK := fun b u g9 (hb : Y0 b = some u) (hg9 : x_G[u]? = some g9) (hnt : b ≠ this) => x_eq.trans (x_eq.of (ho b hnt)) (hK b u g9 hb hg9 hnt)
  replace hs := hs
  have hs89 := hs
  refine lv_aload_n hx hb lZ_d92 rfl (lv_at hl 0 rfl) ?_
  refine lv_bipush hx hb lZ_d93 (v := 12) (by decide) ?_
  refine y_newaC (tag := 30) (k := 12) X hY0 hI rfl rfl (by decide) (hts _ (x_bw5 1 rfl rfl)) (fun Y j => x_dfa (by decide +kernel) Y j) (by decide) (Nat.le_of_ble_eq_true rfl) (Nat.le_of_ble_eq_true rfl) lZ_d95 fun Yn H n95 hnw hct => ?_
  obtain ⟨hIn, hmo, hY_n95, hfr_n95, hke⟩ := hnw
  replace hsi_hills := y_slk hsi_hills (hke _ _ hY_this)
  replace hsi_things := y_slk hsi_things (hke _ _ hY_this)
  replace hsi_letters := y_slk hsi_letters (hke _ _ hY_this)
  replace hs9 := y_slk hs9 (hke _ _ hY_this)
  replace hs17 := y_slk hs17 (hke _ _ hY_this)
  replace hs25 := y_slk hs25 (hke _ _ hY_this)
  replace hs33 := y_slk hs33 (hke _ _ hY_this)
  replace hs41 := y_slk hs41 (hke _ _ hY_this)
  replace hs50 := y_slk hs50 (hke _ _ hY_this)
  replace hs58 := y_slk hs58 (hke _ _ hY_this)
  replace hs66 := y_slk hs66 (hke _ _ hY_this)
  replace hs73 := y_slk hs73 (hke _ _ hY_this)
  replace hs81 := y_slk hs81 (hke _ _ hY_this)
  replace hs89 := y_slk hs89 (hke _ _ hY_this)
  replace hA_n7 := hA_n7.kept (hke _ _ hY_n7)
  replace hA_n15 := hA_n15.kept (hke _ _ hY_n15)
  replace hA_n23 := hA_n23.kept (hke _ _ hY_n23)
  replace hA_n31 := hA_n31.kept (hke _ _ hY_n31)
  replace hA_n39 := hA_n39.kept (hke _ _ hY_n39)
  replace hA_n56 := hA_n56.kept (hke _ _ hY_n56)
  replace hA_n64 := hA_n64.kept (hke _ _ hY_n64)
  replace hA_n71 := hA_n71.kept (hke _ _ hY_n71)
  replace hA_n79 := hA_n79.kept (hke _ _ hY_n79)
  replace hA_n87 := hA_n87.kept (hke _ _ hY_n87)
  replace hK := fun b u g9 (hb : Y0 b = some u) (hg9 : x_G[u]? = some g9) (hnt : b ≠ this) => x_eq.trans (x_eq.of (hke _ _ (y_mon B hI _ _ hb))) (hK b u g9 hb hg9 hnt)
  replace hY_this := hmo _ _ hY_this
  replace hY_n7 := hmo _ _ hY_n7
  replace hY_n15 := hmo _ _ hY_n15
  replace hY_n23 := hmo _ _ hY_n23
  replace hY_n31 := hmo _ _ hY_n31
  replace hY_n39 := hmo _ _ hY_n39
  replace hY_n47 := hmo _ _ hY_n47
  replace hY_n56 := hmo _ _ hY_n56
  replace hY_n64 := hmo _ _ hY_n64
  replace hY_n71 := hmo _ _ hY_n71
  replace hY_n79 := hmo _ _ hY_n79
  replace hY_n87 := hmo _ _ hY_n87
  replace hI := hIn
  clear hIn hmo hke
  have hA_n95 : y_A n95 12 H (fun _ => 0) := fun j hj => hct j hj
  clear hct
  refine y_putf X (fw_lZ_252 X.2.2.2.2.1 hnm) hY0 hI hY_this rfl rfl (y_crefA hY_n95 rfl) (by decide +kernel) lZ_d97 fun H sl hI ho hs hk => ?_
  replace hsi_hills := hk _ _ (by decide +kernel) (by decide) hsi_hills
  replace hsi_things := hk _ _ (by decide +kernel) (by decide) hsi_things
  replace hsi_letters := hk _ _ (by decide +kernel) (by decide) hsi_letters
  replace hs9 := hk _ _ (by decide +kernel) (by decide) hs9
  replace hs17 := hk _ _ (by decide +kernel) (by decide) hs17
  replace hs25 := hk _ _ (by decide +kernel) (by decide) hs25
  replace hs33 := hk _ _ (by decide +kernel) (by decide) hs33
  replace hs41 := hk _ _ (by decide +kernel) (by decide) hs41
  replace hs50 := hk _ _ (by decide +kernel) (by decide) hs50
  replace hs58 := hk _ _ (by decide +kernel) (by decide) hs58
  replace hs66 := hk _ _ (by decide +kernel) (by decide) hs66
  replace hs73 := hk _ _ (by decide +kernel) (by decide) hs73
  replace hs81 := hk _ _ (by decide +kernel) (by decide) hs81
  replace hs89 := hk _ _ (by decide +kernel) (by decide) hs89
  replace hA_n7 := hA_n7.kept (ho _ (y_ne hY_n7 hY_this rfl))
  replace hA_n15 := hA_n15.kept (ho _ (y_ne hY_n15 hY_this rfl))
  replace hA_n23 := hA_n23.kept (ho _ (y_ne hY_n23 hY_this rfl))
  replace hA_n31 := hA_n31.kept (ho _ (y_ne hY_n31 hY_this rfl))
  replace hA_n39 := hA_n39.kept (ho _ (y_ne hY_n39 hY_this rfl))
  replace hA_n56 := hA_n56.kept (ho _ (y_ne hY_n56 hY_this rfl))
  replace hA_n64 := hA_n64.kept (ho _ (y_ne hY_n64 hY_this rfl))
  replace hA_n71 := hA_n71.kept (ho _ (y_ne hY_n71 hY_this rfl))
  replace hA_n79 := hA_n79.kept (ho _ (y_ne hY_n79 hY_this rfl))
  replace hA_n87 := hA_n87.kept (ho _ (y_ne hY_n87 hY_this rfl))
  replace hA_n95 := hA_n95.kept (ho _ (y_ne hY_n95 hY_this rfl))
  replace hK := fun b u g9 (hb : Y0 b = some u) (hg9 : x_G[u]? = some g9) (hnt : b ≠ this) => x_eq.trans (x_eq.of (ho b hnt)) (hK b u g9 hb hg9 hnt)
  replace hs := hs
  have hs97 := hs
  refine lv_aload_n hx hb lZ_d100 rfl (lv_at hl 0 rfl) ?_
  refine lv_bipush hx hb lZ_d101 (v := 12) (by decide) ?_
  refine y_newaC (tag := 31) (k := 12) X hY0 hI rfl rfl (by decide) (hts _ (x_bw5 1 rfl rfl)) (fun Y j => x_dfa (by decide +kernel) Y j) (by decide) (Nat.le_of_ble_eq_true rfl) (Nat.le_of_ble_eq_true rfl) lZ_d103 fun Yn H n103 hnw hct => ?_
  obtain ⟨hIn, hmo, hY_n103, hfr_n103, hke⟩ := hnw
  replace hsi_hills := y_slk hsi_hills (hke _ _ hY_this)
  replace hsi_things := y_slk hsi_things (hke _ _ hY_this)
  replace hsi_letters := y_slk hsi_letters (hke _ _ hY_this)
  replace hs9 := y_slk hs9 (hke _ _ hY_this)
  replace hs17 := y_slk hs17 (hke _ _ hY_this)
  replace hs25 := y_slk hs25 (hke _ _ hY_this)
  replace hs33 := y_slk hs33 (hke _ _ hY_this)
  replace hs41 := y_slk hs41 (hke _ _ hY_this)
  replace hs50 := y_slk hs50 (hke _ _ hY_this)
  replace hs58 := y_slk hs58 (hke _ _ hY_this)
  replace hs66 := y_slk hs66 (hke _ _ hY_this)
  replace hs73 := y_slk hs73 (hke _ _ hY_this)
  replace hs81 := y_slk hs81 (hke _ _ hY_this)
  replace hs89 := y_slk hs89 (hke _ _ hY_this)
  replace hs97 := y_slk hs97 (hke _ _ hY_this)
  replace hA_n7 := hA_n7.kept (hke _ _ hY_n7)
  replace hA_n15 := hA_n15.kept (hke _ _ hY_n15)
  replace hA_n23 := hA_n23.kept (hke _ _ hY_n23)
  replace hA_n31 := hA_n31.kept (hke _ _ hY_n31)
  replace hA_n39 := hA_n39.kept (hke _ _ hY_n39)
  replace hA_n56 := hA_n56.kept (hke _ _ hY_n56)
  replace hA_n64 := hA_n64.kept (hke _ _ hY_n64)
  replace hA_n71 := hA_n71.kept (hke _ _ hY_n71)
  replace hA_n79 := hA_n79.kept (hke _ _ hY_n79)
  replace hA_n87 := hA_n87.kept (hke _ _ hY_n87)
  replace hA_n95 := hA_n95.kept (hke _ _ hY_n95)
  replace hK := fun b u g9 (hb : Y0 b = some u) (hg9 : x_G[u]? = some g9) (hnt : b ≠ this) => x_eq.trans (x_eq.of (hke _ _ (y_mon B hI _ _ hb))) (hK b u g9 hb hg9 hnt)
  replace hY_this := hmo _ _ hY_this
  replace hY_n7 := hmo _ _ hY_n7
  replace hY_n15 := hmo _ _ hY_n15
  replace hY_n23 := hmo _ _ hY_n23
  replace hY_n31 := hmo _ _ hY_n31
  replace hY_n39 := hmo _ _ hY_n39
  replace hY_n47 := hmo _ _ hY_n47
  replace hY_n56 := hmo _ _ hY_n56
  replace hY_n64 := hmo _ _ hY_n64
  replace hY_n71 := hmo _ _ hY_n71
  replace hY_n79 := hmo _ _ hY_n79
  replace hY_n87 := hmo _ _ hY_n87
  replace hY_n95 := hmo _ _ hY_n95
  replace hI := hIn
  clear hIn hmo hke
  have hA_n103 : y_A n103 12 H (fun _ => 0) := fun j hj => hct j hj
  clear hct
  refine y_putf X (fw_lZ_253 X.2.2.2.2.1 hnm) hY0 hI hY_this rfl rfl (y_crefA hY_n103 rfl) (by decide +kernel) lZ_d105 fun H sl hI ho hs hk => ?_
  replace hsi_hills := hk _ _ (by decide +kernel) (by decide) hsi_hills
  replace hsi_things := hk _ _ (by decide +kernel) (by decide) hsi_things
  replace hsi_letters := hk _ _ (by decide +kernel) (by decide) hsi_letters
  replace hs9 := hk _ _ (by decide +kernel) (by decide) hs9
  replace hs17 := hk _ _ (by decide +kernel) (by decide) hs17
  replace hs25 := hk _ _ (by decide +kernel) (by decide) hs25
  replace hs33 := hk _ _ (by decide +kernel) (by decide) hs33
  replace hs41 := hk _ _ (by decide +kernel) (by decide) hs41
  replace hs50 := hk _ _ (by decide +kernel) (by decide) hs50
  replace hs58 := hk _ _ (by decide +kernel) (by decide) hs58
  replace hs66 := hk _ _ (by decide +kernel) (by decide) hs66
  replace hs73 := hk _ _ (by decide +kernel) (by decide) hs73
  replace hs81 := hk _ _ (by decide +kernel) (by decide) hs81
  replace hs89 := hk _ _ (by decide +kernel) (by decide) hs89
  replace hs97 := hk _ _ (by decide +kernel) (by decide) hs97
  replace hA_n7 := hA_n7.kept (ho _ (y_ne hY_n7 hY_this rfl))
  replace hA_n15 := hA_n15.kept (ho _ (y_ne hY_n15 hY_this rfl))
  replace hA_n23 := hA_n23.kept (ho _ (y_ne hY_n23 hY_this rfl))
  replace hA_n31 := hA_n31.kept (ho _ (y_ne hY_n31 hY_this rfl))
  replace hA_n39 := hA_n39.kept (ho _ (y_ne hY_n39 hY_this rfl))
  replace hA_n56 := hA_n56.kept (ho _ (y_ne hY_n56 hY_this rfl))
  replace hA_n64 := hA_n64.kept (ho _ (y_ne hY_n64 hY_this rfl))
  replace hA_n71 := hA_n71.kept (ho _ (y_ne hY_n71 hY_this rfl))
  replace hA_n79 := hA_n79.kept (ho _ (y_ne hY_n79 hY_this rfl))
  replace hA_n87 := hA_n87.kept (ho _ (y_ne hY_n87 hY_this rfl))
  replace hA_n95 := hA_n95.kept (ho _ (y_ne hY_n95 hY_this rfl))
  replace hA_n103 := hA_n103.kept (ho _ (y_ne hY_n103 hY_this rfl))
  replace hK := fun b u g9 (hb : Y0 b = some u) (hg9 : x_G[u]? = some g9) (hnt : b ≠ this) => x_eq.trans (x_eq.of (ho b hnt)) (hK b u g9 hb hg9 hnt)
  replace hs := hs
  have hs105 := hs
  refine lv_aload_n hx hb lZ_d108 rfl (lv_at hl 0 rfl) ?_
  refine y_getf X (fl_lZ_254 X.2.2.2.2.1) hI.1 hY_this rfl hs73 lZ_d109 ?_
  refine lv_iconst hx hb lZ_d112 (v := 3) (by decide) ?_
  have ec3 : (3 : Int32).toInt = 3 := by decide
  refine lv_bipush hx hb lZ_d113 (v := 9) (by decide) ?_
  have ec9 : (9 : Int32).toInt = 9 := by decide
  refine y_iast X hY0 hI hY_n71 rfl hA_n71 (by omega) (by show _ < (4 : Int); omega) ⟨_, rfl, x_i32 _⟩ (by decide +kernel) lZ_d115 fun H locs hI h_new ho => ?_
  replace hA_n71 := h_new
  generalize hf_f115 : y_up (fun _ => 0) (3 : Int32).toInt.toNat (9 : Int32) = f115 at hA_n71
  replace hsi_hills := y_slk hsi_hills (ho _ (y_ne hY_this hY_n71 rfl))
  replace hsi_things := y_slk hsi_things (ho _ (y_ne hY_this hY_n71 rfl))
  replace hsi_letters := y_slk hsi_letters (ho _ (y_ne hY_this hY_n71 rfl))
  replace hs9 := y_slk hs9 (ho _ (y_ne hY_this hY_n71 rfl))
  replace hs17 := y_slk hs17 (ho _ (y_ne hY_this hY_n71 rfl))
  replace hs25 := y_slk hs25 (ho _ (y_ne hY_this hY_n71 rfl))
  replace hs33 := y_slk hs33 (ho _ (y_ne hY_this hY_n71 rfl))
  replace hs41 := y_slk hs41 (ho _ (y_ne hY_this hY_n71 rfl))
  replace hs50 := y_slk hs50 (ho _ (y_ne hY_this hY_n71 rfl))
  replace hs58 := y_slk hs58 (ho _ (y_ne hY_this hY_n71 rfl))
  replace hs66 := y_slk hs66 (ho _ (y_ne hY_this hY_n71 rfl))
  replace hs73 := y_slk hs73 (ho _ (y_ne hY_this hY_n71 rfl))
  replace hs81 := y_slk hs81 (ho _ (y_ne hY_this hY_n71 rfl))
  replace hs89 := y_slk hs89 (ho _ (y_ne hY_this hY_n71 rfl))
  replace hs97 := y_slk hs97 (ho _ (y_ne hY_this hY_n71 rfl))
  replace hs105 := y_slk hs105 (ho _ (y_ne hY_this hY_n71 rfl))
  replace hA_n7 := hA_n7.kept (ho _ (y_ne hY_n7 hY_n71 rfl))
  replace hA_n15 := hA_n15.kept (ho _ (y_ne hY_n15 hY_n71 rfl))
  replace hA_n23 := hA_n23.kept (ho _ (y_ne hY_n23 hY_n71 rfl))
  replace hA_n31 := hA_n31.kept (ho _ (y_ne hY_n31 hY_n71 rfl))
  replace hA_n39 := hA_n39.kept (ho _ (y_ne hY_n39 hY_n71 rfl))
  replace hA_n56 := hA_n56.kept (ho _ (y_ne hY_n56 hY_n71 rfl))
  replace hA_n64 := hA_n64.kept (ho _ (y_ne hY_n64 hY_n71 rfl))
  replace hA_n79 := hA_n79.kept (ho _ (y_ne hY_n79 hY_n71 rfl))
  replace hA_n87 := hA_n87.kept (ho _ (y_ne hY_n87 hY_n71 rfl))
  replace hA_n95 := hA_n95.kept (ho _ (y_ne hY_n95 hY_n71 rfl))
  replace hA_n103 := hA_n103.kept (ho _ (y_ne hY_n103 hY_n71 rfl))
  replace hK := fun b u g9 (hb : Y0 b = some u) (hg9 : x_G[u]? = some g9) (hnt : b ≠ this) => x_eq.trans (x_eq.of (ho b (fun e0 => absurd (hY0 _ _ hb) (by rw [e0]; exact Nat.not_lt.mpr hfr_n71)))) (hK b u g9 hb hg9 hnt)
  refine lv_aload_n hx hb lZ_d116 rfl (lv_at hl 0 rfl) ?_
  refine y_getf X (fl_lZ_255 X.2.2.2.2.1) hI.1 hY_this rfl hs97 lZ_d117 ?_
  refine lv_iconst hx hb lZ_d120 (v := (-1)) (by decide) ?_
  have ecm1 : ((-1) : Int32).toInt = (-1) := by decide
  refine y_call (z := (1, 54, 2, none, xM130)) (av := [.ref n95, .int ((-1) : Int32)]) (rest := []) (y_cokS (n := 2) X ym_fillNi2 (x_cons (x_bw2 6 rfl rfl) (x_cons (x_bw2 7 rfl rfl) (x_cons (x_bw0 3 rfl rfl) x_nilm))) (x_bw2 8 rfl rfl) (by decide +kernel) ⟨Nat.le_of_ble_eq_true rfl, Nat.le_of_ble_eq_true rfl⟩) hY0 hI rfl lZ_d121 hl.1 (Nat.le_of_ble_eq_true rfl) (Nat.le_of_ble_eq_true rfl) (Nat.le_of_ble_eq_true rfl) (y_cons (y_cref hY_n95 rfl) (y_cons ⟨_, rfl, by show ((-1) : Int) ≤ _; omega, by show _ ≤ ((-1) : Int); omega⟩ y_nil)) rfl (y_norecv rfl) trivial (y_sub_ef rfl) fun v Yn o Hn L ho hr ha hIn hx_ hE hP => ?_
  have hPf := hP _ _ rfl
  replace hsi_hills := y_Efld hE hY_this rfl (by decide) (by decide) hsi_hills
  replace hsi_things := y_Efld hE hY_this rfl (by decide) (by decide) hsi_things
  replace hsi_letters := y_Efld hE hY_this rfl (by decide) (by decide) hsi_letters
  replace hs9 := y_Efld hE hY_this rfl (by decide) (by decide) hs9
  replace hs17 := y_Efld hE hY_this rfl (by decide) (by decide) hs17
  replace hs25 := y_Efld hE hY_this rfl (by decide) (by decide) hs25
  replace hs33 := y_Efld hE hY_this rfl (by decide) (by decide) hs33
  replace hs41 := y_Efld hE hY_this rfl (by decide) (by decide) hs41
  replace hs50 := y_Efld hE hY_this rfl (by decide) (by decide) hs50
  replace hs58 := y_Efld hE hY_this rfl (by decide) (by decide) hs58
  replace hs66 := y_Efld hE hY_this rfl (by decide) (by decide) hs66
  replace hs73 := y_Efld hE hY_this rfl (by decide) (by decide) hs73
  replace hs81 := y_Efld hE hY_this rfl (by decide) (by decide) hs81
  replace hs89 := y_Efld hE hY_this rfl (by decide) (by decide) hs89
  replace hs97 := y_Efld hE hY_this rfl (by decide) (by decide) hs97
  replace hs105 := y_Efld hE hY_this rfl (by decide) (by decide) hs105
  replace hA_n7 := hA_n7.kept (y_Earr hE hY_n7 rfl (by decide))
  replace hA_n15 := hA_n15.kept (y_Earr hE hY_n15 rfl (by decide))
  replace hA_n23 := hA_n23.kept (y_Earr hE hY_n23 rfl (by decide))
  replace hA_n31 := hA_n31.kept (y_Earr hE hY_n31 rfl (by decide))
  replace hA_n39 := hA_n39.kept (y_Earr hE hY_n39 rfl (by decide))
  replace hA_n56 := hA_n56.kept (y_Earr hE hY_n56 rfl (by decide))
  replace hA_n64 := hA_n64.kept (y_Earr hE hY_n64 rfl (by decide))
  replace hA_n71 := hA_n71.kept (y_Earr hE hY_n71 rfl (by decide))
  replace hA_n79 := hA_n79.kept (y_Earr hE hY_n79 rfl (by decide))
  replace hA_n87 := hA_n87.kept (y_Earr hE hY_n87 rfl (by decide))
  replace hA_n103 := hA_n103.kept (y_Earr hE hY_n103 rfl (by decide))
  replace hK := fun b u g9 (hb : Y0 b = some u) (hg9 : x_G[u]? = some g9) (hnt : b ≠ this) => x_eq.trans (x_eq.of (hPf.2 b (fun e0 => absurd (hY0 _ _ hb) (by rw [e0]; exact Nat.not_lt.mpr hfr_n95)))) (hK b u g9 hb hg9 hnt)
  replace hY_this := y_ext hx_ hI.1 hY_this
  replace hY_n7 := y_ext hx_ hI.1 hY_n7
  replace hY_n15 := y_ext hx_ hI.1 hY_n15
  replace hY_n23 := y_ext hx_ hI.1 hY_n23
  replace hY_n31 := y_ext hx_ hI.1 hY_n31
  replace hY_n39 := y_ext hx_ hI.1 hY_n39
  replace hY_n47 := y_ext hx_ hI.1 hY_n47
  replace hY_n56 := y_ext hx_ hI.1 hY_n56
  replace hY_n64 := y_ext hx_ hI.1 hY_n64
  replace hY_n71 := y_ext hx_ hI.1 hY_n71
  replace hY_n79 := y_ext hx_ hI.1 hY_n79
  replace hY_n87 := y_ext hx_ hI.1 hY_n87
  replace hY_n95 := y_ext hx_ hI.1 hY_n95
  replace hY_n103 := y_ext hx_ hI.1 hY_n103
  obtain rfl := y_ansV rfl ho hr
  have hA_n95 := hPf.1
  clear ho hr ha hE hP hI hx_
  rename x_I _ _ _ _ _ _ _ _ _ _ => hI
  refine y_newo (tag := 11) X hY0 hI rfl ⟨6, _, RX6, TX6, tyX6, rfl, rfl, iX6, tyX6_ok, (hts _ (x_bw2 4 rfl rfl)), (hts _ (x_bw2 9 rfl rfl)), (hts _ (x_bw0 4 rfl rfl)), x_dfl (by decide +kernel)⟩ (Nat.le_of_ble_eq_true rfl) (Nat.le_of_ble_eq_true rfl) lZ_d124 fun Yn H n124 hnw => ?_
  obtain ⟨hIn, hmo, hY_n124, hfr_n124, hke⟩ := hnw
  replace hsi_hills := y_slk hsi_hills (hke _ _ hY_this)
  replace hsi_things := y_slk hsi_things (hke _ _ hY_this)
  replace hsi_letters := y_slk hsi_letters (hke _ _ hY_this)
  replace hs9 := y_slk hs9 (hke _ _ hY_this)
  replace hs17 := y_slk hs17 (hke _ _ hY_this)
  replace hs25 := y_slk hs25 (hke _ _ hY_this)
  replace hs33 := y_slk hs33 (hke _ _ hY_this)
  replace hs41 := y_slk hs41 (hke _ _ hY_this)
  replace hs50 := y_slk hs50 (hke _ _ hY_this)
  replace hs58 := y_slk hs58 (hke _ _ hY_this)
  replace hs66 := y_slk hs66 (hke _ _ hY_this)
  replace hs73 := y_slk hs73 (hke _ _ hY_this)
  replace hs81 := y_slk hs81 (hke _ _ hY_this)
  replace hs89 := y_slk hs89 (hke _ _ hY_this)
  replace hs97 := y_slk hs97 (hke _ _ hY_this)
  replace hs105 := y_slk hs105 (hke _ _ hY_this)
  replace hA_n7 := hA_n7.kept (hke _ _ hY_n7)
  replace hA_n15 := hA_n15.kept (hke _ _ hY_n15)
  replace hA_n23 := hA_n23.kept (hke _ _ hY_n23)
  replace hA_n31 := hA_n31.kept (hke _ _ hY_n31)
  replace hA_n39 := hA_n39.kept (hke _ _ hY_n39)
  replace hA_n56 := hA_n56.kept (hke _ _ hY_n56)
  replace hA_n64 := hA_n64.kept (hke _ _ hY_n64)
  replace hA_n71 := hA_n71.kept (hke _ _ hY_n71)
  replace hA_n79 := hA_n79.kept (hke _ _ hY_n79)
  replace hA_n87 := hA_n87.kept (hke _ _ hY_n87)
  replace hA_n103 := hA_n103.kept (hke _ _ hY_n103)
  replace hA_n95 := hA_n95.kept (hke _ _ hY_n95)
  replace hK := fun b u g9 (hb : Y0 b = some u) (hg9 : x_G[u]? = some g9) (hnt : b ≠ this) => x_eq.trans (x_eq.of (hke _ _ (y_mon B hI _ _ hb))) (hK b u g9 hb hg9 hnt)
  replace hY_this := hmo _ _ hY_this
  replace hY_n7 := hmo _ _ hY_n7
  replace hY_n15 := hmo _ _ hY_n15
  replace hY_n23 := hmo _ _ hY_n23
  replace hY_n31 := hmo _ _ hY_n31
  replace hY_n39 := hmo _ _ hY_n39
  replace hY_n47 := hmo _ _ hY_n47
  replace hY_n56 := hmo _ _ hY_n56
  replace hY_n64 := hmo _ _ hY_n64
  replace hY_n71 := hmo _ _ hY_n71
  replace hY_n79 := hmo _ _ hY_n79
  replace hY_n87 := hmo _ _ hY_n87
  replace hY_n95 := hmo _ _ hY_n95
  replace hY_n103 := hmo _ _ hY_n103
  replace hI := hIn
  clear hIn hmo hke
  refine lv_dup hx hb lZ_d127 rfl ?_
  refine lv_iconst hx hb lZ_d128 (v := 0) (by decide) ?_
  have ec0 : (0 : Int32).toInt = 0 := by decide
  refine lv_iconst hx hb lZ_d129 (v := 0) (by decide) ?_
  refine lv_iconst hx hb lZ_d130 (v := 0) (by decide) ?_
  refine lv_iconst hx hb lZ_d131 (v := 0) (by decide) ?_
  refine lv_iconst hx hb lZ_d132 (v := 0) (by decide) ?_
  refine y_call (z := (2, 60, 6, none, xM13)) (av := [.ref n124, .int (0 : Int32), .int (0 : Int32), .int (0 : Int32), .int (0 : Int32), .int (0 : Int32)]) (rest := [.ref n124]) (y_cokI (n := 5) X ym_stone rfl (x_cons (x_bw2 10 rfl rfl) (x_cons (x_bw2 11 rfl rfl) (x_cons (x_bw0 4 rfl rfl) x_nilm))) (x_bw2 12 rfl rfl) rfl (fun Y av h => x_this h) (by decide +kernel) ⟨Nat.le_of_ble_eq_true rfl, Nat.le_of_ble_eq_true rfl⟩) hY0 hI rfl lZ_d133 hl.1 (Nat.le_of_ble_eq_true rfl) (Nat.le_of_ble_eq_true rfl) (Nat.le_of_ble_eq_true rfl) (y_cons (y_cref hY_n124 rfl) (y_cons ⟨_, rfl, x_i32 _⟩ (y_cons ⟨_, rfl, x_i32 _⟩ (y_cons ⟨_, rfl, x_i32 _⟩ (y_cons ⟨_, rfl, x_i32 _⟩ (y_cons ⟨_, rfl, x_i32 _⟩ y_nil)))))) rfl (y_norecv rfl) trivial (y_sub_ef rfl) fun v Yn o Hn L ho hr ha hIn hx_ hE hP => ?_
  have hPs := hP _ _ _ _ _ _ rfl
  have hPf := hPs.1 (11, 6) (by decide) hY_n124
  replace hsi_hills := y_Efld hE hY_this rfl (by decide) (by decide) hsi_hills
  replace hsi_things := y_Efld hE hY_this rfl (by decide) (by decide) hsi_things
  replace hsi_letters := y_Efld hE hY_this rfl (by decide) (by decide) hsi_letters
  replace hs9 := y_Efld hE hY_this rfl (by decide) (by decide) hs9
  replace hs17 := y_Efld hE hY_this rfl (by decide) (by decide) hs17
  replace hs25 := y_Efld hE hY_this rfl (by decide) (by decide) hs25
  replace hs33 := y_Efld hE hY_this rfl (by decide) (by decide) hs33
  replace hs41 := y_Efld hE hY_this rfl (by decide) (by decide) hs41
  replace hs50 := y_Efld hE hY_this rfl (by decide) (by decide) hs50
  replace hs58 := y_Efld hE hY_this rfl (by decide) (by decide) hs58
  replace hs66 := y_Efld hE hY_this rfl (by decide) (by decide) hs66
  replace hs73 := y_Efld hE hY_this rfl (by decide) (by decide) hs73
  replace hs81 := y_Efld hE hY_this rfl (by decide) (by decide) hs81
  replace hs89 := y_Efld hE hY_this rfl (by decide) (by decide) hs89
  replace hs97 := y_Efld hE hY_this rfl (by decide) (by decide) hs97
  replace hs105 := y_Efld hE hY_this rfl (by decide) (by decide) hs105
  replace hA_n7 := hA_n7.kept (y_Earr hE hY_n7 rfl (by decide))
  replace hA_n15 := hA_n15.kept (y_Earr hE hY_n15 rfl (by decide))
  replace hA_n23 := hA_n23.kept (y_Earr hE hY_n23 rfl (by decide))
  replace hA_n31 := hA_n31.kept (y_Earr hE hY_n31 rfl (by decide))
  replace hA_n39 := hA_n39.kept (y_Earr hE hY_n39 rfl (by decide))
  replace hA_n56 := hA_n56.kept (y_Earr hE hY_n56 rfl (by decide))
  replace hA_n64 := hA_n64.kept (y_Earr hE hY_n64 rfl (by decide))
  replace hA_n71 := hA_n71.kept (y_Earr hE hY_n71 rfl (by decide))
  replace hA_n79 := hA_n79.kept (y_Earr hE hY_n79 rfl (by decide))
  replace hA_n87 := hA_n87.kept (y_Earr hE hY_n87 rfl (by decide))
  replace hA_n103 := hA_n103.kept (y_Earr hE hY_n103 rfl (by decide))
  replace hA_n95 := hA_n95.kept (y_Earr hE hY_n95 rfl (by decide))
  replace hK := fun b u g9 (hb : Y0 b = some u) (hg9 : x_G[u]? = some g9) (hnt : b ≠ this) => x_eq.trans (x_eq.of (hPs.2 b (fun e0 => absurd (hY0 _ _ hb) (by rw [e0]; exact Nat.not_lt.mpr hfr_n124)))) (hK b u g9 hb hg9 hnt)
  replace hY_this := y_ext hx_ hI.1 hY_this
  replace hY_n7 := y_ext hx_ hI.1 hY_n7
  replace hY_n15 := y_ext hx_ hI.1 hY_n15
  replace hY_n23 := y_ext hx_ hI.1 hY_n23
  replace hY_n31 := y_ext hx_ hI.1 hY_n31
  replace hY_n39 := y_ext hx_ hI.1 hY_n39
  replace hY_n47 := y_ext hx_ hI.1 hY_n47
  replace hY_n56 := y_ext hx_ hI.1 hY_n56
  replace hY_n64 := y_ext hx_ hI.1 hY_n64
  replace hY_n71 := y_ext hx_ hI.1 hY_n71
  replace hY_n79 := y_ext hx_ hI.1 hY_n79
  replace hY_n87 := y_ext hx_ hI.1 hY_n87
  replace hY_n95 := y_ext hx_ hI.1 hY_n95
  replace hY_n103 := y_ext hx_ hI.1 hY_n103
  replace hY_n124 := y_ext hx_ hI.1 hY_n124
  obtain rfl := y_ansV rfl ho hr
  obtain ⟨hst0, hst1, hst2, hst3, hst4⟩ := hPf
  clear ho hr ha hE hP hI hx_
  rename x_I _ _ _ _ _ _ _ _ _ _ => hI
  refine lv_astore_n hx hb lZ_d136 rfl hl (by decide) (lv' := [(1, .ref n124), (0, .ref this)]) rfl fun ls hl => ?_
  refine lv_iconst hx hb lZ_d137 (v := 0) (by decide) ?_
  refine lv_istore_n hx hb lZ_d138 rfl hl (by decide) (lv' := [(2, .int (0 : Int32)), (1, .ref n124), (0, .ref this)]) rfl fun ls hl => ?_
  have hs_n7 := hs9
  have hs_n15 := hs17
  have hs_n23 := hs25
  have hs_n31 := hs33
  have hs_n39 := hs41
  have hs_n47 := hs50
  have hs_n56 := hs58
  have hs_n64 := hs66
  have hs_n71 := hs73
  have hs_n79 := hs81
  have hs_n87 := hs89
  have hs_n95 := hs97
  have hs_n103 := hs105
  rw [← hf_f115, show (3 : Int32).toInt.toNat = 3 by decide] at hA_n71
  have hsi_kind := hst0
  have hsi_x := hst1
  have hsi_y := hst2
  have hsi_h := hst3
  have hsi_g := hst4
  exact lZ_L139 B rfl hfr_n7 hfr_n15 hfr_n23 hfr_n31 hfr_n39 hfr_n47 hfr_n56 hfr_n64 hfr_n71 hfr_n79 hfr_n87 hfr_n95 hfr_n103 9 _ _ _ _ _ hI hY_this hY_n7 hY_n15 hY_n23 hY_n31 hY_n39 hY_n47 hY_n56 hY_n64 hY_n71 hY_n79 hY_n87 hY_n95 hY_n103 hY_n124 hs_n7 hs_n15 hs_n23 hs_n31 hs_n39 hs_n47 hs_n56 hs_n64 hs_n71 hs_n79 hs_n87 hs_n95 hs_n103 hsi_hills hsi_things hsi_letters hsi_kind hsi_x hsi_y hsi_h hsi_g hA_n7 hA_n15 hA_n23 hA_n31 hA_n39 hA_n56 hA_n64 hA_n71 hA_n79 hA_n87 hA_n95 hA_n103 (lv_sub hl [0, 1, 2] rfl) (by first | assumption | omega) (fun j hj => absurd hj (by omega)) hK (by omega)
def z_PtxX : yP := fun D av _ H _ Y' H' => ∀ this : Nat, av = [.ref this] → ∃ by_ : Nat, x_sl D 7 0 this H' = some (.ref by_) ∧ Y' by_ = some 39 ∧ y_A by_ 240 H' (fun _ => 0)
theorem tZ_d0 : decode xM1018.2.1 0 = .ok (.aload_n 0, 1) := dz_ok (by decide +kernel)
theorem tZ_d1 : decode xM1018.2.1 1 = .ok (.invokespecial 3, 3) := dz_ok (by decide +kernel)
theorem tZ_d4 : decode xM1018.2.1 4 = .ok (.aload_n 0, 1) := dz_ok (by decide +kernel)
theorem tZ_d5 : decode xM1018.2.1 5 = .ok (.sipush 240, 3) := dz_ok (by decide +kernel)
theorem tZ_d8 : decode xM1018.2.1 8 = .ok (.newarray .int, 2) := dz_ok (by decide +kernel)
theorem tZ_d10 : decode xM1018.2.1 10 = .ok (.putfield 9, 3) := dz_ok (by decide +kernel)
theorem tZ_d13 : decode xM1018.2.1 13 = .ok (.aload_n 0, 1) := dz_ok (by decide +kernel)
theorem tZ_d14 : decode xM1018.2.1 14 = .ok (.iconst 4, 1) := dz_ok (by decide +kernel)
theorem tZ_d15 : decode xM1018.2.1 15 = .ok (.newarray .int, 2) := dz_ok (by decide +kernel)
theorem tZ_d17 : decode xM1018.2.1 17 = .ok (.putfield 15, 3) := dz_ok (by decide +kernel)
theorem tZ_d20 : decode xM1018.2.1 20 = .ok (.return_, 1) := dz_ok (by decide +kernel)
theorem ym_textInitX : y_Met vwCl x_G x_Zs x_Tb x_Nb xM1018 y_T z_PtxX := by
  refine y_main (by decide +kernel) (by decide +kernel) x_Tb_good x_Nb_ok ?_
  intro p l e s m below meth c D U Y0 av ls B hI hpre hl
  have X := B.1
  have hx := X.1
  have hb := X.2.1
  have hY0 := B.2.2.2.2.1
  have hts := X.2.2.2.2.1
  have hnm := B.2.2.2.1
  obtain ⟨v0, rfl, hv0⟩ := x_one B.2.2.2.2.2
  obtain ⟨this, t0, rfl, ht0, hY_this⟩ := x_ref_at hv0 rfl
  obtain rfl := List.mem_singleton.mp ht0
  replace hl : lv_has ls xM1018.2.2.1 [(0, .ref this)] := hl
  refine lv_aload_n hx hb tZ_d0 rfl (lv_at hl 0 rfl) ?_
  refine y_oi X (hts _ (x_bw10 6 rfl rfl)) (hts _ (x_bw1 12 rfl rfl)) (hts _ (x_bw1 13 rfl rfl)) (Nat.le_of_ble_eq_true rfl) (Nat.le_of_ble_eq_true rfl) hl.1 (Nat.le_of_ble_eq_true rfl) tZ_d1 ?_
  refine lv_aload_n hx hb tZ_d4 rfl (lv_at hl 0 rfl) ?_
  refine lv_sipush hx hb tZ_d5 (v := 240) (by decide) ?_
  have ec240 : (240 : Int32).toInt = 240 := by decide
  refine y_newaC (tag := 39) (k := 240) X hY0 hI rfl rfl (by decide) (hts _ (x_bw5 1 rfl rfl)) (fun Y j => x_dfa (by decide +kernel) Y j) (by decide) (Nat.le_of_ble_eq_true rfl) (Nat.le_of_ble_eq_true rfl) tZ_d8 fun Yn H n8 hnw hct => ?_
  obtain ⟨hIn, hmo, hY_n8, hfr_n8, hke⟩ := hnw
  replace hY_this := hmo _ _ hY_this
  replace hI := hIn
  clear hIn hmo hke
  have hA_n8 : y_A n8 240 H (fun _ => 0) := fun j hj => hct j hj
  clear hct
  refine y_putf X (fw213 X.2.2.2.2.1 hnm) hY0 hI hY_this rfl rfl (y_crefA hY_n8 rfl) (by decide +kernel) tZ_d10 fun H sl hI ho hs hk => ?_
  replace hA_n8 := hA_n8.kept (ho _ (y_ne hY_n8 hY_this rfl))
  replace hs := hs
  have hs10 := hs
  refine lv_aload_n hx hb tZ_d13 rfl (lv_at hl 0 rfl) ?_
  refine lv_iconst hx hb tZ_d14 (v := 4) (by decide) ?_
  have ec4 : (4 : Int32).toInt = 4 := by decide
  refine y_newaC (tag := 40) (k := 4) X hY0 hI rfl rfl (by decide) (hts _ (x_bw5 1 rfl rfl)) (fun Y j => x_dfa (by decide +kernel) Y j) (by decide) (Nat.le_of_ble_eq_true rfl) (Nat.le_of_ble_eq_true rfl) tZ_d15 fun Yn H n15 hnw hct => ?_
  obtain ⟨hIn, hmo, hY_n15, hfr_n15, hke⟩ := hnw
  replace hs10 := y_slk hs10 (hke _ _ hY_this)
  replace hA_n8 := hA_n8.kept (hke _ _ hY_n8)
  replace hY_this := hmo _ _ hY_this
  replace hY_n8 := hmo _ _ hY_n8
  replace hI := hIn
  clear hIn hmo hke
  have hA_n15 : y_A n15 4 H (fun _ => 0) := fun j hj => hct j hj
  clear hct
  refine y_putf X (fw214 X.2.2.2.2.1 hnm) hY0 hI hY_this rfl rfl (y_crefA hY_n15 rfl) (by decide +kernel) tZ_d17 fun H sl hI ho hs hk => ?_
  replace hs10 := hk _ _ (by decide +kernel) (by decide) hs10
  replace hA_n8 := hA_n8.kept (ho _ (y_ne hY_n8 hY_this rfl))
  replace hA_n15 := hA_n15.kept (ho _ (y_ne hY_n15 hY_this rfl))
  replace hs := hs
  have hs17 := hs
  have hYC := hY_this
  have hf : ∀ (k : Nat) (ft : xV), ([xR false [39], xR false [40], xI 0 240, xI 0 240, xI 0 240])[k]? = some ft → ∃ v : Value, x_sl D 7 k this H = some v ∧ x_c Yn ft v ∧ x_nrT 5 ft = true := fun k ft hk => match k, hk with
      | 0, hk => by cases hk; exact ⟨_, hs10, y_crefA hY_n8 rfl, rfl⟩
      | 1, hk => by cases hk; exact ⟨_, hs17, y_crefA hY_n15 rfl, rfl⟩
      | 2, hk => by cases hk; obtain ⟨v, e1, e2⟩ := y_fld (k := 2) hI.1 hYC rfl rfl; exact ⟨v, e1, e2, rfl⟩
      | 3, hk => by cases hk; obtain ⟨v, e1, e2⟩ := y_fld (k := 3) hI.1 hYC rfl rfl; exact ⟨v, e1, e2, rfl⟩
      | 4, hk => by cases hk; obtain ⟨v, e1, e2⟩ := y_fld (k := 4) hI.1 hYC rfl rfl; exact ⟨v, e1, e2, rfl⟩
      | k + 5, hk => by cases hk
  exact y_retC (o := (7, [xR false [39], xR false [40], xI 0 240, xI 0 240, xI 0 240])) B hI rfl rfl hYC rfl rfl rfl rfl (by decide +kernel) (by decide +kernel) List.mem_cons_self hf (fun t' h1 => by cases h1; exact ⟨n8, hs10, (x_up_ne (y_ne hY_n8 hYC rfl)).trans hY_n8, hA_n8⟩) (by exact Nat.le_of_ble_eq_true rfl) (by exact Nat.le_of_ble_eq_true rfl) tZ_d20

