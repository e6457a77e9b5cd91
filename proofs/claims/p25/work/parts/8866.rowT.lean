def z_Pfmq : yP := fun _ av _ _ _ _ H' => ∀ (a : Nat) (v9 : Int32), av = [.ref a, .int v9] → y_A a 1024 H' (fun _ => v9)
theorem fmq_d0 : decode xM102.2.1 0 = .ok (.iconst 0, 1) := dz_ok (by decide +kernel)
theorem fmq_d1 : decode xM102.2.1 1 = .ok (.istore_n 2, 1) := dz_ok (by decide +kernel)
theorem fmq_d2 : decode xM102.2.1 2 = .ok (.aload_n 0, 1) := dz_ok (by decide +kernel)
theorem fmq_d3 : decode xM102.2.1 3 = .ok (.arraylength, 1) := dz_ok (by decide +kernel)
theorem fmq_d4 : decode xM102.2.1 4 = .ok (.istore_n 3, 1) := dz_ok (by decide +kernel)
theorem fmq_d5 : decode xM102.2.1 5 = .ok (.iload_n 2, 1) := dz_ok (by decide +kernel)
theorem fmq_d6 : decode xM102.2.1 6 = .ok (.iload_n 3, 1) := dz_ok (by decide +kernel)
theorem fmq_d7 : decode xM102.2.1 7 = .ok (.if_icmp .ge 13, 3) := dz_ok (by decide +kernel)
theorem fmq_d10 : decode xM102.2.1 10 = .ok (.aload_n 0, 1) := dz_ok (by decide +kernel)
theorem fmq_d11 : decode xM102.2.1 11 = .ok (.iload_n 2, 1) := dz_ok (by decide +kernel)
theorem fmq_d12 : decode xM102.2.1 12 = .ok (.iload_n 1, 1) := dz_ok (by decide +kernel)
theorem fmq_d13 : decode xM102.2.1 13 = .ok (.iastore, 1) := dz_ok (by decide +kernel)
theorem fmq_d14 : decode xM102.2.1 14 = .ok (.iinc 2 1, 3) := dz_ok (by decide +kernel)
theorem fmq_d17 : decode xM102.2.1 17 = .ok (.goto (-12), 3) := dz_ok (by decide +kernel)
theorem fmq_d20 : decode xM102.2.1 20 = .ok (.return_, 1) := dz_ok (by decide +kernel)
theorem fmq_L5 {p : Program} {l : Launch} {e : Env} {s : State} {m : MethodId} {below : List Frame} {meth : Method} {c : Code} {D : va_G} {U : State} {Y0 : xY} {av : List Value} (B : y_B vwCl x_Tb x_Nb xM102 p s m meth c D U Y0 av) {ar : Nat} {v9 : Int32} (hav : av = [.ref ar, .int v9]) (hv : 0 ≤ v9.toInt ∧ v9.toInt ≤ 0)  :
    ∀ (n : Nat), ∀ (H : Heap) (Y : xY) (locs : List Loc) (ls : Array Slot) (i : Int32) (fa : Nat → Int32), x_I D x_G x_Zs U (x_efs xM102) Y0 s.heap Y H locs → Y ar = some 37 → y_A ar 1024 H fa → lv_has ls xM102.2.2.1 [(2, .int i), (3, .int (nI 1024)), (0, .ref ar), (1, .int v9)] → (0 ≤ i.toInt ∧ i.toInt ≤ 1024) → ((nI 1024).toInt = 1024) → (∀ j : Nat, (j : Int) < i.toInt → fa j = v9) → (1024 - i.toInt).toNat < n → W p l e (x_rm xM102) s m av.toArray below meth c H locs 0 0 (y_QQ below D x_G x_Zs U xM102 z_Pfmq av Y0 s) (F0 m 5 ls []) := by
  have X := B.1
  have hx := X.1
  have hb := X.2.1
  have hY0 := B.2.2.2.2.1
  intro n
  induction n with
  | zero => intro _ _ _ _ _ _ _ _ _ _ _ _ _ h; exact absurd h (Nat.not_lt_zero _)
  | succ n ih =>
    intro H Y locs ls i fa hI hY_ar hA_ar hl hi hN hfi hn
    refine lv_iload_n hx hb fmq_d5 rfl (lv_at hl 0 rfl) ?_
    refine lv_iload_n hx hb fmq_d6 rfl (lv_at hl 1 rfl) ?_
    refine lv_icmp_ge hx hb fmq_d7 (tgt := 20) (by decide) (fun q7 => ?_) (fun q7 => ?_)
    · have q7_ : (nI 1024).toInt ≤ i.toInt := x_le32.mp q7
      subst hav
      exact y_return B hI rfl rfl List.mem_cons_self rfl (x_cs.mono B.2.2.2.2.2 (y_mon B hI)) (fun a' v' h1 => by cases h1; exact fun j hj => by rw [hA_ar j hj, hfi j (by omega)]) (Nat.le_refl _) (Nat.le_refl _) fmq_d20
    · have q7_ : i.toInt < (nI 1024).toInt := Int.not_le.mp fun q => q7 (x_le32.mpr q)
      refine lv_aload_n hx hb fmq_d10 rfl (lv_at hl 2 rfl) ?_
      refine lv_iload_n hx hb fmq_d11 rfl (lv_at hl 0 rfl) ?_
      refine lv_iload_n hx hb fmq_d12 rfl (lv_at hl 3 rfl) ?_
      refine y_iast X hY0 hI hY_ar rfl hA_ar (by omega) (by show _ < (1024 : Int); omega) ⟨_, rfl, x_i32 _⟩ (by decide +kernel) fmq_d13 fun H locs hI h_new ho => ?_
      replace hA_ar := h_new
      generalize hf_f13 : y_up fa i.toInt.toNat v9 = f13 at hA_ar
      obtain ⟨z14, hg_z14⟩ : ∃ z14 : Int32, i + Int32.ofInt 1 = z14 := ⟨_, rfl⟩
      have h_z14 : z14.toInt = i.toInt + 1 := by rw [← hg_z14]; exact y_inc (by decide) (by omega) (by omega)
      refine lv_iinc hx hb fmq_d14 hl (k := 0) rfl hg_z14 (by decide) (lv' := [(2, .int z14), (3, .int (nI 1024)), (0, .ref ar), (1, .int v9)]) rfl fun ls hl => ?_
      refine lv_goto hx hb fmq_d17 (tgt := 5) (by decide) ?_
      exact ih _ _ _ _ _ _ hI hY_ar hA_ar (lv_sub hl [0, 1, 2, 3] rfl) (by first | assumption | omega) (by first | assumption | omega) (fun j hj => by rw [← hf_f13]; by_cases ej : (j : Int) = i.toInt; (rw [show j = i.toInt.toNat by omega, y_up_at]); rw [y_up_ne (by omega)]; exact hfi j (by omega)) (by omega)
theorem ym_fillMa : y_Met vwCl x_G x_Zs x_Tb x_Nb xM102 y_T z_Pfmq := by
  refine y_main (by decide +kernel) (by decide +kernel) x_Tb_good x_Nb_ok ?_
  intro p l e s m below meth c D U Y0 av ls B hI _ hl
  have X := B.1
  have hx := X.1
  have hb := X.2.1
  have hY0 := B.2.2.2.2.1
  obtain ⟨v0, v1, rfl, hv0, ⟨v9, rfl, hv⟩⟩ := x_two B.2.2.2.2.2
  obtain ⟨ar, t0, rfl, ht0, hY_ar⟩ := x_ref_at hv0 rfl
  obtain rfl := List.mem_singleton.mp ht0
  replace hl : lv_has ls xM102.2.2.1 [(0, .ref ar), (1, .int v9)] := hl
  replace hv : (0 : Int) ≤ v9.toInt ∧ v9.toInt ≤ 0 := hv
  obtain ⟨fa, hA_ar, -⟩ := y_arr hI.1 hY_ar rfl rfl
  refine lv_iconst hx hb fmq_d0 (v := 0) (by decide) ?_
  have ec0 : (0 : Int32).toInt = 0 := by decide
  refine lv_istore_n hx hb fmq_d1 rfl hl (by decide) (lv' := [(2, .int (0 : Int32)), (0, .ref ar), (1, .int v9)]) rfl fun ls hl => ?_
  refine lv_aload_n hx hb fmq_d2 rfl (lv_at hl 1 rfl) ?_
  refine y_alen X hI.1 hY_ar rfl fmq_d3 ?_
  have h_nI1024 : (nI 1024).toInt = 1024 := by decide
  refine lv_istore_n hx hb fmq_d4 rfl hl (by decide) (lv' := [(3, .int (nI 1024)), (2, .int (0 : Int32)), (0, .ref ar), (1, .int v9)]) rfl fun ls hl => ?_
  exact fmq_L5 B rfl hv 1025 _ _ _ _ _ _ hI hY_ar hA_ar (lv_sub hl [1, 0, 2, 3] rfl) (by first | assumption | omega) (by first | assumption | omega) (fun j hj => absurd hj (by omega)) (by omega)
def z_Pvw : yP := fun D av _ H v _ _ => ∀ (this sr hr : Nat) (nq sn fo : Int32) (fr F : Nat → Int32), av = [.ref this, .int nq, .int sn] → x_sl D 5 0 this H = some (.ref sr) → x_sl D 5 1 this H = some (.int fo) → y_A sr 1024 H fr → x_sl D 5 2 this H = some (.ref hr) → y_A hr 1024 H F → ∀ (L : Nat → Bool) (N : Nat), m_W L N fo fr → v = some (.int (m_fd L (m_vwSt F nq sn) (fun _ => 0, 0) N).2)
theorem vwq_d0 : decode xM103.2.1 0 = .ok (.aload_n 0, 1) := dz_ok (by decide +kernel)
theorem vwq_d1 : decode xM103.2.1 1 = .ok (.getfield 18, 3) := dz_ok (by decide +kernel)
theorem vwq_d4 : decode xM103.2.1 4 = .ok (.iconst 0, 1) := dz_ok (by decide +kernel)
theorem vwq_d5 : decode xM103.2.1 5 = .ok (.invokestatic 42, 3) := dz_ok (by decide +kernel)
theorem vwq_d8 : decode xM103.2.1 8 = .ok (.iconst 0, 1) := dz_ok (by decide +kernel)
theorem vwq_d9 : decode xM103.2.1 9 = .ok (.istore_n 3, 1) := dz_ok (by decide +kernel)
theorem vwq_d10 : decode xM103.2.1 10 = .ok (.iconst 0, 1) := dz_ok (by decide +kernel)
theorem vwq_d11 : decode xM103.2.1 11 = .ok (.istore 4, 2) := dz_ok (by decide +kernel)
theorem vwq_d13 : decode xM103.2.1 13 = .ok (.iload 4, 2) := dz_ok (by decide +kernel)
theorem vwq_d15 : decode xM103.2.1 15 = .ok (.aload_n 0, 1) := dz_ok (by decide +kernel)
theorem vwq_d16 : decode xM103.2.1 16 = .ok (.getfield 27, 3) := dz_ok (by decide +kernel)
theorem vwq_d19 : decode xM103.2.1 19 = .ok (.if_icmp .ge 61, 3) := dz_ok (by decide +kernel)
theorem vwq_d22 : decode xM103.2.1 22 = .ok (.aload_n 0, 1) := dz_ok (by decide +kernel)
theorem vwq_d23 : decode xM103.2.1 23 = .ok (.getfield 9, 3) := dz_ok (by decide +kernel)
theorem vwq_d26 : decode xM103.2.1 26 = .ok (.iload 4, 2) := dz_ok (by decide +kernel)
theorem vwq_d28 : decode xM103.2.1 28 = .ok (.iaload, 1) := dz_ok (by decide +kernel)
theorem vwq_d29 : decode xM103.2.1 29 = .ok (.iload_n 2, 1) := dz_ok (by decide +kernel)
theorem vwq_d30 : decode xM103.2.1 30 = .ok (.iand, 1) := dz_ok (by decide +kernel)
theorem vwq_d31 : decode xM103.2.1 31 = .ok (.istore 5, 2) := dz_ok (by decide +kernel)
theorem vwq_d33 : decode xM103.2.1 33 = .ok (.aload_n 0, 1) := dz_ok (by decide +kernel)
theorem vwq_d34 : decode xM103.2.1 34 = .ok (.getfield 15, 3) := dz_ok (by decide +kernel)
theorem vwq_d37 : decode xM103.2.1 37 = .ok (.aload_n 0, 1) := dz_ok (by decide +kernel)
theorem vwq_d38 : decode xM103.2.1 38 = .ok (.getfield 9, 3) := dz_ok (by decide +kernel)
theorem vwq_d41 : decode xM103.2.1 41 = .ok (.iload 4, 2) := dz_ok (by decide +kernel)
theorem vwq_d43 : decode xM103.2.1 43 = .ok (.iaload, 1) := dz_ok (by decide +kernel)
theorem vwq_d44 : decode xM103.2.1 44 = .ok (.iaload, 1) := dz_ok (by decide +kernel)
theorem vwq_d45 : decode xM103.2.1 45 = .ok (.iconst 0, 1) := dz_ok (by decide +kernel)
theorem vwq_d46 : decode xM103.2.1 46 = .ok (.iload_n 1, 1) := dz_ok (by decide +kernel)
theorem vwq_d47 : decode xM103.2.1 47 = .ok (.invokestatic 59, 3) := dz_ok (by decide +kernel)
theorem vwq_d50 : decode xM103.2.1 50 = .ok (.ifCond .eq 24, 3) := dz_ok (by decide +kernel)
theorem vwq_d53 : decode xM103.2.1 53 = .ok (.aload_n 0, 1) := dz_ok (by decide +kernel)
theorem vwq_d54 : decode xM103.2.1 54 = .ok (.getfield 18, 3) := dz_ok (by decide +kernel)
theorem vwq_d57 : decode xM103.2.1 57 = .ok (.iload 5, 2) := dz_ok (by decide +kernel)
theorem vwq_d59 : decode xM103.2.1 59 = .ok (.iaload, 1) := dz_ok (by decide +kernel)
theorem vwq_d60 : decode xM103.2.1 60 = .ok (.ifCond .ne 14, 3) := dz_ok (by decide +kernel)
theorem vwq_d63 : decode xM103.2.1 63 = .ok (.aload_n 0, 1) := dz_ok (by decide +kernel)
theorem vwq_d64 : decode xM103.2.1 64 = .ok (.getfield 18, 3) := dz_ok (by decide +kernel)
theorem vwq_d67 : decode xM103.2.1 67 = .ok (.iload 5, 2) := dz_ok (by decide +kernel)
theorem vwq_d69 : decode xM103.2.1 69 = .ok (.iconst 1, 1) := dz_ok (by decide +kernel)
theorem vwq_d70 : decode xM103.2.1 70 = .ok (.iastore, 1) := dz_ok (by decide +kernel)
theorem vwq_d71 : decode xM103.2.1 71 = .ok (.iinc 3 1, 3) := dz_ok (by decide +kernel)
theorem vwq_d74 : decode xM103.2.1 74 = .ok (.iinc 4 1, 3) := dz_ok (by decide +kernel)
theorem vwq_d77 : decode xM103.2.1 77 = .ok (.goto (-64), 3) := dz_ok (by decide +kernel)
theorem vwq_d80 : decode xM103.2.1 80 = .ok (.iload_n 3, 1) := dz_ok (by decide +kernel)
theorem vwq_d81 : decode xM103.2.1 81 = .ok (.ireturn, 1) := dz_ok (by decide +kernel)
theorem vwq_L13 {p : Program} {l : Launch} {e : Env} {s : State} {m : MethodId} {below : List Frame} {meth : Method} {c : Code} {D : va_G} {U : State} {Y0 : xY} {av : List Value} (B : y_B vwCl x_Tb x_Nb xM103 p s m meth c D U Y0 av) {this sr hr ma : Nat} {nq sn fo : Int32} {fr Fz : Nat → Int32} (hav : av = [.ref this, .int nq, .int sn]) (hsr : x_sl D 5 0 this s.heap = some (.ref sr)) (hfo0 : x_sl D 5 1 this s.heap = some (.int fo)) (hA0 : y_A sr 1024 s.heap fr) (hsh0 : x_sl D 5 2 this s.heap = some (.ref hr)) (hAh0 : y_A hr 1024 s.heap Fz) (hfo9 : 0 ≤ fo.toInt ∧ fo.toInt ≤ 1024) (hB_sr : ∀ j, j < 1024 → (0 : Int) ≤ (fr j).toInt ∧ (fr j).toInt ≤ 1023)  :
    ∀ (n : Nat), ∀ (H : Heap) (Y : xY) (locs : List Loc) (ls : Array Slot) (i : Int32) (al : Int32) (fm : Nat → Int32), x_I D x_G x_Zs U (x_efs xM103) Y0 s.heap Y H locs → Y this = some 8 → Y sr = some 35 → Y hr = some 36 → Y ma = some 37 → x_sl D 5 0 this H = some (.ref sr) → x_sl D 5 2 this H = some (.ref hr) → x_sl D 5 3 this H = some (.ref ma) → x_sl D 5 1 this H = some (.int fo) → y_A sr 1024 H fr → y_A hr 1024 H Fz → y_A ma 1024 H fm → lv_has ls xM103.2.2.1 [(4, .int i), (3, .int al), (0, .ref this), (1, .int nq), (2, .int sn)] → (0 ≤ i.toInt ∧ i.toInt ≤ fo.toInt) → (∀ (L : Nat → Bool) (N : Nat), m_W L N fo fr → ∃ k, k ≤ N ∧ m_cn L k = i.toInt.toNat ∧ (fm, al) = m_fd L (m_vwSt Fz nq sn) (fun _ => 0, 0) k) → (1025 - i.toInt).toNat < n → W p l e (x_rm xM103) s m av.toArray below meth c H locs 0 0 (y_QQ below D x_G x_Zs U xM103 z_Pvw av Y0 s) (F0 m 13 ls []) := by
  have X := B.1
  have hx := X.1
  have hb := X.2.1
  have hY0 := B.2.2.2.2.1
  intro n
  induction n with
  | zero => intro _ _ _ _ _ _ _ _ _ _ _ _ _ _ _ _ _ _ _ _ _ _ h; exact absurd h (Nat.not_lt_zero _)
  | succ n ih =>
    intro H Y locs ls i al fm hI hY_this hY_sr hY_hr hY_ma hs_sr hs_hr hs_ma hsi_found hA_sr hA_hr hA_ma hl hi hq hn
    refine lv_iload hx hb vwq_d13 (lv_at hl 0 rfl) ?_
    refine lv_aload_n hx hb vwq_d15 rfl (lv_at hl 2 rfl) ?_
    refine y_getf X (fl136 X.2.2.2.2.1) hI.1 hY_this rfl hsi_found vwq_d16 ?_
    refine lv_icmp_ge hx hb vwq_d19 (tgt := 80) (by decide) (fun q19 => ?_) (fun q19 => ?_)
    · have q19_ : fo.toInt ≤ i.toInt := x_le32.mp q19
      refine lv_iload_n hx hb vwq_d80 rfl (lv_at hl 1 rfl) ?_
      subst hav
      exact y_ireturn B hI rfl rfl rfl List.mem_cons_self ⟨_, rfl, ⟨_, rfl, x_i32 _⟩⟩ (x_cs.mono B.2.2.2.2.2 (y_mon B hI)) (fun t' s' h' w0' w1' o' r' F' h1 h2 h3 h4 h5 h6 => by cases h1; cases h2.symm.trans hsr; cases h3.symm.trans hfo0; cases h5.symm.trans hsh0; have eF : ∀ q, q < 1024 → F' q = Fz q := fun q hq1 => z_AR h6 hAh0 hq1; have tW : ∀ (L : Nat → Bool) (N : Nat), m_W L N fo r' → m_W L N fo fr := fun L N a1 => ⟨a1.1, a1.2.1, fun q hq1 hL => by have := m_cn_lt hq1 hL; have := m_cn_b (L := L) (k := N); have := a1.1; rw [z_AR hA0 h4 (show m_cn L q < 1024 by omega)]; exact a1.2.2 q hq1 hL⟩; refine (fun L N a1 => ?_); have a1 := tW L N a1; have hN := a1.1; refine congrArg (fun x => some (Value.int x)) ?_; rw [m_fd_congr (L := L) (L' := L) (st := m_vwSt F' nq sn) (st' := m_vwSt Fz nq sn) (s0 := (fun _ => 0, 0)) N (fun _ _ => rfl) (fun s k hk _ => by unfold m_vwSt; rw [eF k (by omega)])]; exact congrArg Prod.snd (m_fd_end (hq L N a1) (by have := a1.2.1; omega))) (Nat.le_refl _) (Nat.le_refl _) vwq_d81
    · have q19_ : i.toInt < fo.toInt := Int.not_le.mp fun q => q19 (x_le32.mpr q)
      refine lv_aload_n hx hb vwq_d22 rfl (lv_at hl 2 rfl) ?_
      refine y_getf X (fl135 X.2.2.2.2.1) hI.1 hY_this rfl hs_sr vwq_d23 ?_
      refine lv_iload hx hb vwq_d26 (lv_at hl 0 rfl) ?_
      refine y_iald X hI.1 hY_sr rfl hA_sr (by omega) (by show _ < (1024 : Int); omega) vwq_d28 ?_
      obtain ⟨e28, hg_e28⟩ : ∃ e28 : Int32, fr i.toInt.toNat = e28 := ⟨_, rfl⟩
      rw [hg_e28]
      have h_e28 : (0 : Int) ≤ e28.toInt ∧ e28.toInt ≤ 1023 := by rw [← hg_e28]; exact hB_sr _ (by omega)
      refine lv_iload_n hx hb vwq_d29 rfl (lv_at hl 4 rfl) ?_
      refine lv_iand hx hb vwq_d30 ?_
      generalize hg_z30 : e28 &&& sn = z30
      have h_z30 : 0 ≤ z30.toInt ∧ z30.toInt ≤ 1023 := by have h9 := x_and1 (x := sn) (y := e28) (by omega); rw [Int32.and_comm, hg_z30] at h9; omega
      refine lv_istore hx hb vwq_d31 hl (by decide) (lv' := [(5, .int z30), (4, .int i), (3, .int al), (0, .ref this), (1, .int nq), (2, .int sn)]) rfl fun ls hl => ?_
      refine lv_aload_n hx hb vwq_d33 rfl (lv_at hl 3 rfl) ?_
      refine y_getf X (fl139 X.2.2.2.2.1) hI.1 hY_this rfl hs_hr vwq_d34 ?_
      refine lv_aload_n hx hb vwq_d37 rfl (lv_at hl 3 rfl) ?_
      refine y_getf X (fl135 X.2.2.2.2.1) hI.1 hY_this rfl hs_sr vwq_d38 ?_
      refine lv_iload hx hb vwq_d41 (lv_at hl 1 rfl) ?_
      refine y_iald X hI.1 hY_sr rfl hA_sr (by omega) (by show _ < (1024 : Int); omega) vwq_d43 ?_
      obtain ⟨e43, hg_e43⟩ : ∃ e43 : Int32, fr i.toInt.toNat = e43 := ⟨_, rfl⟩
      rw [hg_e43]
      have h_e43 : (0 : Int) ≤ e43.toInt ∧ e43.toInt ≤ 1023 := by rw [← hg_e43]; exact hB_sr _ (by omega)
      refine y_iald X hI.1 hY_hr rfl hA_hr (by omega) (by show _ < (1024 : Int); omega) vwq_d44 ?_
      obtain ⟨e44, hg_e44⟩ : ∃ e44 : Int32, Fz e43.toInt.toNat = e44 := ⟨_, rfl⟩
      rw [hg_e44]
      refine lv_iconst hx hb vwq_d45 (v := 0) (by decide) ?_
      have ec0 : (0 : Int32).toInt = 0 := by decide
      refine lv_iload_n hx hb vwq_d46 rfl (lv_at hl 4 rfl) ?_
      refine y_call (z := (1, 59, 3, none, xM10)) (av := [.int e44, .int (0 : Int32), .int nq]) (rest := []) (y_cokSN (n := 3) (host := "TwinFires") X ym_within (x_cons (x_bw19 1 rfl rfl) (x_cons (x_bw0 1 rfl rfl) x_nilm)) (x_bn51 1 rfl rfl) (x_bw19 2 rfl rfl) (by decide +kernel) ⟨Nat.le_of_ble_eq_true rfl, Nat.le_of_ble_eq_true rfl⟩) hY0 hI rfl vwq_d47 hl.1 (Nat.le_of_ble_eq_true rfl) (Nat.le_of_ble_eq_true rfl) (Nat.le_of_ble_eq_true rfl) (y_cons ⟨_, rfl, x_i32 _⟩ (y_cons ⟨_, rfl, x_i32 _⟩ (y_cons ⟨_, rfl, x_i32 _⟩ y_nil))) rfl (y_norecv rfl) trivial (y_sub_ef rfl) fun v Yn o Hn L ho hr ha hIn hx_ hE hP => ?_
      replace hs_sr := y_Efld hE hY_this rfl (by decide) (by decide) hs_sr
      replace hs_hr := y_Efld hE hY_this rfl (by decide) (by decide) hs_hr
      replace hs_ma := y_Efld hE hY_this rfl (by decide) (by decide) hs_ma
      replace hsi_found := y_Efld hE hY_this rfl (by decide) (by decide) hsi_found
      replace hA_sr := hA_sr.kept (y_Earr hE hY_sr rfl (by decide))
      replace hA_hr := hA_hr.kept (y_Earr hE hY_hr rfl (by decide))
      replace hA_ma := hA_ma.kept (y_Earr hE hY_ma rfl (by decide))
      replace hY_this := y_ext hx_ hI.1 hY_this
      replace hY_sr := y_ext hx_ hI.1 hY_sr
      replace hY_hr := y_ext hx_ hI.1 hY_hr
      replace hY_ma := y_ext hx_ hI.1 hY_ma
      obtain ⟨r47, rfl, hin_r47, hout_r47⟩ := hP _ _ _ rfl
      clear ho hr ha hE hP hI hx_
      rename x_I _ _ _ _ _ _ _ _ _ _ => hI
      refine lv_if_eq hx hb vwq_d50 (tgt := 74) (by decide) (fun q50 => ?_) (fun q50 => ?_)
      · have q50_ : r47.toInt = (0 : Int32).toInt := by rw [q50]
        obtain ⟨z74, hg_z74⟩ : ∃ z74 : Int32, i + Int32.ofInt 1 = z74 := ⟨_, rfl⟩
        have h_z74 : z74.toInt = i.toInt + 1 := by rw [← hg_z74]; exact y_inc (by decide) (by omega) (by omega)
        refine lv_iinc hx hb vwq_d74 hl (k := 1) rfl hg_z74 (by decide) (lv' := [(4, .int z74), (5, .int z30), (3, .int al), (0, .ref this), (1, .int nq), (2, .int sn)]) rfl fun ls hl => ?_
        refine lv_goto hx hb vwq_d77 (tgt := 13) (by decide) ?_
        have his : z74.toInt.toNat = i.toInt.toNat + 1 := by omega
        exact ih _ _ _ _ _ _ _ hI hY_this hY_sr hY_hr hY_ma hs_sr hs_hr hs_ma hsi_found hA_sr hA_hr hA_ma (lv_sub hl [0, 2, 3, 4, 5] rfl) (by first | assumption | omega) (fun L N h1 => by
                          have hN := h1.1
                          have hf9 := h1.2.1
                          obtain ⟨q, q1, q2, q3, q4, q5⟩ := m_fd_step (hq L N h1) (by omega)
                          rw [his]
                          obtain ⟨k, k1, k2, k3⟩ := q5
                          refine ⟨k, k1, k2, ?_⟩
                          rw [← k3]
                          have hfr := h1.2.2 q q1 q2
                          rw [q3] at hfr
                          have ce : e43.toInt.toNat = q := by rw [← hg_e43, hfr]; exact m_nIn (by omega)
                          have c2 : Fz q = e44 := by rw [← ce, hg_e44]
                          unfold m_vwSt
                          rw [c2, ← hfr, hg_e28, hg_z30]
                          first
                            | rw [if_neg (fun h9 => hout_r47 (by assumption) (by have := h9.1; omega))]
                            | rw [if_neg (fun h9 => absurd ((Eq.trans (Eq.symm hg_e59)) h9.2) (by assumption))]
                            | (rw [if_pos ⟨by have h8 := hin_r47 (by assumption); omega, (Eq.trans hg_e59) (by assumption)⟩]
                               rw [← hf_f70, ← hg_z71]
                               rfl)) (by omega)
      · have q50_ : ¬ r47.toInt = (0 : Int32).toInt := fun q => q50 (Int32.toInt_inj.mp q)
        refine lv_aload_n hx hb vwq_d53 rfl (lv_at hl 3 rfl) ?_
        refine y_getf X (fl140 X.2.2.2.2.1) hI.1 hY_this rfl hs_ma vwq_d54 ?_
        refine lv_iload hx hb vwq_d57 (lv_at hl 0 rfl) ?_
        refine y_iald X hI.1 hY_ma rfl hA_ma (by omega) (by show _ < (1024 : Int); omega) vwq_d59 ?_
        obtain ⟨e59, hg_e59⟩ : ∃ e59 : Int32, fm z30.toInt.toNat = e59 := ⟨_, rfl⟩
        rw [hg_e59]
        refine lv_if_ne hx hb vwq_d60 (tgt := 74) (by decide) (fun q60 => ?_) (fun q60 => ?_)
        · have q60_ : ¬ e59.toInt = (0 : Int32).toInt := fun q => q60 (Int32.toInt_inj.mp q)
          obtain ⟨z74, hg_z74⟩ : ∃ z74 : Int32, i + Int32.ofInt 1 = z74 := ⟨_, rfl⟩
          have h_z74 : z74.toInt = i.toInt + 1 := by rw [← hg_z74]; exact y_inc (by decide) (by omega) (by omega)
          refine lv_iinc hx hb vwq_d74 hl (k := 1) rfl hg_z74 (by decide) (lv' := [(4, .int z74), (5, .int z30), (3, .int al), (0, .ref this), (1, .int nq), (2, .int sn)]) rfl fun ls hl => ?_
          refine lv_goto hx hb vwq_d77 (tgt := 13) (by decide) ?_
          have his : z74.toInt.toNat = i.toInt.toNat + 1 := by omega
          exact ih _ _ _ _ _ _ _ hI hY_this hY_sr hY_hr hY_ma hs_sr hs_hr hs_ma hsi_found hA_sr hA_hr hA_ma (lv_sub hl [0, 2, 3, 4, 5] rfl) (by first | assumption | omega) (fun L N h1 => by
                          have hN := h1.1
                          have hf9 := h1.2.1
                          obtain ⟨q, q1, q2, q3, q4, q5⟩ := m_fd_step (hq L N h1) (by omega)
                          rw [his]
                          obtain ⟨k, k1, k2, k3⟩ := q5
                          refine ⟨k, k1, k2, ?_⟩
                          rw [← k3]
                          have hfr := h1.2.2 q q1 q2
                          rw [q3] at hfr
                          have ce : e43.toInt.toNat = q := by rw [← hg_e43, hfr]; exact m_nIn (by omega)
                          have c2 : Fz q = e44 := by rw [← ce, hg_e44]
                          unfold m_vwSt
                          rw [c2, ← hfr, hg_e28, hg_z30]
                          first
                            | rw [if_neg (fun h9 => hout_r47 (by assumption) (by have := h9.1; omega))]
                            | rw [if_neg (fun h9 => absurd ((Eq.trans (Eq.symm hg_e59)) h9.2) (by assumption))]
                            | (rw [if_pos ⟨by have h8 := hin_r47 (by assumption); omega, (Eq.trans hg_e59) (by assumption)⟩]
                               rw [← hf_f70, ← hg_z71]
                               rfl)) (by omega)
        · have q60_ : e59.toInt = (0 : Int32).toInt := by rw [q60]
          refine lv_aload_n hx hb vwq_d63 rfl (lv_at hl 3 rfl) ?_
          refine y_getf X (fl140 X.2.2.2.2.1) hI.1 hY_this rfl hs_ma vwq_d64 ?_
          refine lv_iload hx hb vwq_d67 (lv_at hl 0 rfl) ?_
          refine lv_iconst hx hb vwq_d69 (v := 1) (by decide) ?_
          have ec1 : (1 : Int32).toInt = 1 := by decide
          refine y_iast X hY0 hI hY_ma rfl hA_ma (by omega) (by show _ < (1024 : Int); omega) ⟨_, rfl, x_i32 _⟩ (by decide +kernel) vwq_d70 fun H locs hI h_new ho => ?_
          replace hA_ma := h_new
          generalize hf_f70 : y_up fm z30.toInt.toNat (1 : Int32) = f70 at hA_ma
          replace hs_sr := y_slk hs_sr (ho _ (y_ne hY_this hY_ma rfl))
          replace hs_hr := y_slk hs_hr (ho _ (y_ne hY_this hY_ma rfl))
          replace hs_ma := y_slk hs_ma (ho _ (y_ne hY_this hY_ma rfl))
          replace hsi_found := y_slk hsi_found (ho _ (y_ne hY_this hY_ma rfl))
          replace hA_sr := hA_sr.kept (ho _ (y_ne hY_sr hY_ma rfl))
          replace hA_hr := hA_hr.kept (ho _ (y_ne hY_hr hY_ma rfl))
          obtain ⟨z71, hg_z71⟩ : ∃ z71 : Int32, al + Int32.ofInt 1 = z71 := ⟨_, rfl⟩
          refine lv_iinc hx hb vwq_d71 hl (k := 2) rfl hg_z71 (by decide) (lv' := [(3, .int z71), (5, .int z30), (4, .int i), (0, .ref this), (1, .int nq), (2, .int sn)]) rfl fun ls hl => ?_
          obtain ⟨z74, hg_z74⟩ : ∃ z74 : Int32, i + Int32.ofInt 1 = z74 := ⟨_, rfl⟩
          have h_z74 : z74.toInt = i.toInt + 1 := by rw [← hg_z74]; exact y_inc (by decide) (by omega) (by omega)
          refine lv_iinc hx hb vwq_d74 hl (k := 2) rfl hg_z74 (by decide) (lv' := [(4, .int z74), (3, .int z71), (5, .int z30), (0, .ref this), (1, .int nq), (2, .int sn)]) rfl fun ls hl => ?_
          refine lv_goto hx hb vwq_d77 (tgt := 13) (by decide) ?_
          have his : z74.toInt.toNat = i.toInt.toNat + 1 := by omega
          exact ih _ _ _ _ _ _ _ hI hY_this hY_sr hY_hr hY_ma hs_sr hs_hr hs_ma hsi_found hA_sr hA_hr hA_ma (lv_sub hl [0, 1, 3, 4, 5] rfl) (by first | assumption | omega) (fun L N h1 => by
                          have hN := h1.1
                          have hf9 := h1.2.1
                          obtain ⟨q, q1, q2, q3, q4, q5⟩ := m_fd_step (hq L N h1) (by omega)
                          rw [his]
                          obtain ⟨k, k1, k2, k3⟩ := q5
                          refine ⟨k, k1, k2, ?_⟩
                          rw [← k3]
                          have hfr := h1.2.2 q q1 q2
                          rw [q3] at hfr
                          have ce : e43.toInt.toNat = q := by rw [← hg_e43, hfr]; exact m_nIn (by omega)
                          have c2 : Fz q = e44 := by rw [← ce, hg_e44]
                          unfold m_vwSt
                          rw [c2, ← hfr, hg_e28, hg_z30]
                          first
                            | rw [if_neg (fun h9 => hout_r47 (by assumption) (by have := h9.1; omega))]
                            | rw [if_neg (fun h9 => absurd ((Eq.trans (Eq.symm hg_e59)) h9.2) (by assumption))]
                            | (rw [if_pos ⟨by have h8 := hin_r47 (by assumption); omega, (Eq.trans hg_e59) (by assumption)⟩]
                               rw [← hf_f70, ← hg_z71]
                               rfl)) (by omega)
theorem ym_viewsW : y_Met vwCl x_G x_Zs x_Tb x_Nb xM103 y_T z_Pvw := by
  refine y_main (by decide +kernel) (by decide +kernel) x_Tb_good x_Nb_ok ?_
  intro p l e s m below meth c D U Y0 av ls B hI _ hl
  have X := B.1
  have hx := X.1
  have hb := X.2.1
  have hY0 := B.2.2.2.2.1
  obtain ⟨v0, v1, v2, rfl, hv0, ⟨nq, rfl, -⟩, ⟨sn, rfl, -⟩⟩ := y_three B.2.2.2.2.2
  obtain ⟨this, t0, rfl, ht0, hY_this⟩ := x_ref_at hv0 rfl
  obtain rfl := List.mem_singleton.mp ht0
  replace hl : lv_has ls xM103.2.2.1 [(0, .ref this), (1, .int nq), (2, .int sn)] := hl
  obtain ⟨sr, hs_sr, hY_sr⟩ := y_fldR (k := 0) hI.1 hY_this rfl rfl
  obtain ⟨hr, hs_hr, hY_hr⟩ := y_fldR (k := 2) hI.1 hY_this rfl rfl
  obtain ⟨fr, hA_sr, hB_sr⟩ := y_arr hI.1 hY_sr rfl rfl
  replace hB_sr : ∀ j, j < 1024 → (0 : Int) ≤ (fr j).toInt ∧ (fr j).toInt ≤ 1023 := fun j hj => by obtain ⟨x, e0, e1⟩ := hB_sr j hj; cases e0; exact e1
  obtain ⟨Fz, hA_hr, -⟩ := y_arr hI.1 hY_hr rfl rfl
  obtain ⟨fo, hsi_found, hfo9⟩ := y_fldI (k := 1) hI.1 hY_this rfl rfl
  replace hfo9 : (0 : Int) ≤ fo.toInt ∧ fo.toInt ≤ 1024 := hfo9
  have hsr := hs_sr
  have hA0 := hA_sr
  have hfo0 := hsi_found
  have hsh0 := hs_hr
  have hAh0 := hA_hr
  obtain ⟨ma, hs_ma, hY_ma⟩ := y_fldR (k := 3) hI.1 hY_this rfl rfl
  refine lv_aload_n hx hb vwq_d0 rfl (lv_at hl 0 rfl) ?_
  refine y_getf X (fl140 X.2.2.2.2.1) hI.1 hY_this rfl hs_ma vwq_d1 ?_
  refine lv_iconst hx hb vwq_d4 (v := 0) (by decide) ?_
  have ec0 : (0 : Int32).toInt = 0 := by decide
  refine y_call (z := (1, 42, 2, none, xM102)) (av := [.ref ma, .int (0 : Int32)]) (rest := []) (y_cokS (n := 2) X ym_fillMa (x_cons (x_bw49 9 rfl rfl) (x_cons (x_bw2 7 rfl rfl) (x_cons (x_bw0 3 rfl rfl) x_nilm))) (x_bw2 8 rfl rfl) (by decide +kernel) ⟨Nat.le_of_ble_eq_true rfl, Nat.le_of_ble_eq_true rfl⟩) hY0 hI rfl vwq_d5 hl.1 (Nat.le_of_ble_eq_true rfl) (Nat.le_of_ble_eq_true rfl) (Nat.le_of_ble_eq_true rfl) (y_cons (y_cref hY_ma rfl) (y_cons ⟨_, rfl, by show (0 : Int) ≤ _; omega, by show _ ≤ (0 : Int); omega⟩ y_nil)) rfl (y_norecv rfl) trivial (y_sub_ef rfl) fun v Yn o Hn L ho hr ha hIn hx_ hE hP => ?_
  have hPf := hP _ _ rfl
  replace hs_sr := y_Efld hE hY_this rfl (by decide) (by decide) hs_sr
  replace hs_hr := y_Efld hE hY_this rfl (by decide) (by decide) hs_hr
  replace hs_ma := y_Efld hE hY_this rfl (by decide) (by decide) hs_ma
  replace hsi_found := y_Efld hE hY_this rfl (by decide) (by decide) hsi_found
  replace hA_sr := hA_sr.kept (y_Earr hE hY_sr rfl (by decide))
  replace hA_hr := hA_hr.kept (y_Earr hE hY_hr rfl (by decide))
  replace hY_this := y_ext hx_ hI.1 hY_this
  replace hY_sr := y_ext hx_ hI.1 hY_sr
  replace hY_hr := y_ext hx_ hI.1 hY_hr
  replace hY_ma := y_ext hx_ hI.1 hY_ma
  obtain rfl := y_ansV rfl ho hr
  have hA_ma := hPf
  clear ho hr ha hE hP hI hx_
  rename x_I _ _ _ _ _ _ _ _ _ _ => hI
  refine lv_iconst hx hb vwq_d8 (v := 0) (by decide) ?_
  refine lv_istore_n hx hb vwq_d9 rfl hl (by decide) (lv' := [(3, .int (0 : Int32)), (0, .ref this), (1, .int nq), (2, .int sn)]) rfl fun ls hl => ?_
  refine lv_iconst hx hb vwq_d10 (v := 0) (by decide) ?_
  refine lv_istore hx hb vwq_d11 hl (by decide) (lv' := [(4, .int (0 : Int32)), (3, .int (0 : Int32)), (0, .ref this), (1, .int nq), (2, .int sn)]) rfl fun ls hl => ?_
  exact vwq_L13 B rfl hsr hfo0 hA0 hsh0 hAh0 hfo9 hB_sr 1026 _ _ _ _ _ _ _ hI hY_this hY_sr hY_hr hY_ma hs_sr hs_hr hs_ma hsi_found hA_sr hA_hr hA_ma (lv_sub hl [0, 1, 2, 3, 4] rfl) (by first | assumption | omega) (fun L N _ => m_fd_0) (by omega)
def m_tw (V : Nat → Int32) (t : Int32) : Int32 := V t.toInt.toNat ||| ((1 : Int32) <<< (t &&& 31))
def z_Ptw : yP := fun D av _ H v _ _ => ∀ (this vw : Nat) (t : Int32) (V : Nat → Int32), av = [.ref this, .int t] → x_sl D 0 1 this H = some (.ref vw) → y_A vw 10 H V → v = some (.int (m_tw V t))
theorem twq_d0 : decode xM101.2.1 0 = .ok (.aload_n 0, 1) := dz_ok (by decide +kernel)
theorem twq_d1 : decode xM101.2.1 1 = .ok (.getfield 18, 3) := dz_ok (by decide +kernel)
theorem twq_d4 : decode xM101.2.1 4 = .ok (.iload_n 1, 1) := dz_ok (by decide +kernel)
theorem twq_d5 : decode xM101.2.1 5 = .ok (.iaload, 1) := dz_ok (by decide +kernel)
theorem twq_d6 : decode xM101.2.1 6 = .ok (.iconst 1, 1) := dz_ok (by decide +kernel)
theorem twq_d7 : decode xM101.2.1 7 = .ok (.iload_n 1, 1) := dz_ok (by decide +kernel)
theorem twq_d8 : decode xM101.2.1 8 = .ok (.ishl, 1) := dz_ok (by decide +kernel)
theorem twq_d9 : decode xM101.2.1 9 = .ok (.ior, 1) := dz_ok (by decide +kernel)
theorem twq_d10 : decode xM101.2.1 10 = .ok (.ireturn, 1) := dz_ok (by decide +kernel)
theorem ym_townView : y_Met vwCl x_G x_Zs x_Tb x_Nb xM101 y_T z_Ptw := by
  refine y_main (by decide +kernel) (by decide +kernel) x_Tb_good x_Nb_ok ?_
  intro p l e s m below meth c D U Y0 av ls B hI _ hl
  have X := B.1
  have hx := X.1
  have hb := X.2.1
  have hY0 := B.2.2.2.2.1
  obtain ⟨v0, v1, rfl, hv0, ⟨t, rfl, ht⟩⟩ := x_two B.2.2.2.2.2
  replace ht : (0 : Int) ≤ t.toInt ∧ t.toInt ≤ 9 := ht
  obtain ⟨this, t0, rfl, ht0, hY_this⟩ := x_ref_at hv0 rfl
  obtain rfl := List.mem_singleton.mp ht0
  replace hl : lv_has ls xM101.2.2.1 [(0, .ref this), (1, .int t)] := hl
  obtain ⟨vw, hs_vw, hY_vw⟩ := y_fldR (k := 1) hI.1 hY_this rfl rfl
  obtain ⟨V, hA_vw, -⟩ := y_arr hI.1 hY_vw rfl rfl
  have hs1 := hs_vw
  have hA0 := hA_vw
  refine lv_aload_n hx hb twq_d0 rfl (lv_at hl 0 rfl) ?_
  refine y_getf X (fl101 X.2.2.2.2.1) hI.1 hY_this rfl hs_vw twq_d1 ?_
  refine lv_iload_n hx hb twq_d4 rfl (lv_at hl 1 rfl) ?_
  refine y_iald X hI.1 hY_vw rfl hA_vw (by omega) (by show _ < (10 : Int); omega) twq_d5 ?_
  obtain ⟨e5, hg_e5⟩ : ∃ e5 : Int32, V t.toInt.toNat = e5 := ⟨_, rfl⟩
  rw [hg_e5]
  refine lv_iconst hx hb twq_d6 (v := 1) (by decide) ?_
  have ec1 : (1 : Int32).toInt = 1 := by decide
  refine lv_iload_n hx hb twq_d7 rfl (lv_at hl 1 rfl) ?_
  refine lv_ishl hx hb twq_d8 ?_
  generalize hg_z8 : (1 : Int32) <<< (t &&& 31) = z8
  refine lv_ior hx hb twq_d9 ?_
  generalize hg_z9 : e5 ||| z8 = z9
  exact y_ireturn B hI rfl rfl rfl List.mem_cons_self ⟨_, rfl, ⟨_, rfl, x_i32 _⟩⟩ (x_cs.mono B.2.2.2.2.2 (y_mon B hI)) (fun t' v' w' V' h1 h2 h3 => by cases h1; cases h2.symm.trans hs1; refine congrArg (fun x => some (Value.int x)) ?_; unfold m_tw; rw [z_AR h3 hA0 (show t.toInt.toNat < 10 by omega), hg_e5, hg_z8]; exact (Eq.symm hg_z9)) (Nat.le_refl _) (Nat.le_refl _) twq_d10
def m_worS (L : Nat → Bool) (N : Nat) (ok : Prop) (a n sn r : Int32) : Prop := (ok → L a.toInt.toNat = true → ∃ F : Nat → Int32, m_D L N a.toInt.toNat F ∧ r.toInt = (m_cn (m_nz (m_fd L (m_snSt F n sn) (fun _ => 0) N)) 1024 : Nat)) ∧ (ok → L a.toInt.toNat = false → r = -3) ∧ (¬ ok → r = -2)
def z_PTwords : yP := fun D av Y H v _ _ => ∀ (this : Nat) (a t n : Int32) (f : Nat → Int32) (K : Nat → Option (Nat → Int32)) (t9 : Nat → Int32) (n9 : Int32), av = [.ref this, .int a, .int t, .int n] → z_RC D Y H this f K t9 n9 → ∃ r : Int32, v = some (.int r) ∧ m_worS (m_LC (m_VC f (f 4) (f 5) 0)) (2 ^ (f 0).toInt.toNat) (m_isS f a ∧ m_isH f t ∧ 0 ≤ n.toInt ∧ n.toInt ≤ 6) a n (m_tw (m_VC f (f 4) (f 5) 0) t) r
theorem woQ9_d0 : decode xM1005.2.1 0 = .ok (.aload_n 0, 1) := dz_ok (by decide +kernel)
theorem woQ9_d1 : decode xM1005.2.1 1 = .ok (.getfield 12, 3) := dz_ok (by decide +kernel)
theorem woQ9_d4 : decode xM1005.2.1 4 = .ok (.iload_n 1, 1) := dz_ok (by decide +kernel)
theorem woQ9_d5 : decode xM1005.2.1 5 = .ok (.invokevirtual 169, 3) := dz_ok (by decide +kernel)
theorem woQ9_d8 : decode xM1005.2.1 8 = .ok (.ifCond .eq 24, 3) := dz_ok (by decide +kernel)
theorem woQ9_d11 : decode xM1005.2.1 11 = .ok (.aload_n 0, 1) := dz_ok (by decide +kernel)
theorem woQ9_d12 : decode xM1005.2.1 12 = .ok (.getfield 12, 3) := dz_ok (by decide +kernel)
theorem woQ9_d15 : decode xM1005.2.1 15 = .ok (.iload_n 2, 1) := dz_ok (by decide +kernel)
theorem woQ9_d16 : decode xM1005.2.1 16 = .ok (.invokevirtual 101, 3) := dz_ok (by decide +kernel)
theorem woQ9_d19 : decode xM1005.2.1 19 = .ok (.ifCond .eq 13, 3) := dz_ok (by decide +kernel)
theorem woQ9_d22 : decode xM1005.2.1 22 = .ok (.iload_n 3, 1) := dz_ok (by decide +kernel)
theorem woQ9_d23 : decode xM1005.2.1 23 = .ok (.iconst 0, 1) := dz_ok (by decide +kernel)
theorem woQ9_d24 : decode xM1005.2.1 24 = .ok (.bipush 6, 2) := dz_ok (by decide +kernel)
theorem woQ9_d26 : decode xM1005.2.1 26 = .ok (.invokestatic 88, 3) := dz_ok (by decide +kernel)
theorem woQ9_d29 : decode xM1005.2.1 29 = .ok (.ifCond .ne 10, 3) := dz_ok (by decide +kernel)
theorem woQ9_d32 : decode xM1005.2.1 32 = .ok (.aload_n 0, 1) := dz_ok (by decide +kernel)
theorem woQ9_d33 : decode xM1005.2.1 33 = .ok (.bipush (-2), 2) := dz_ok (by decide +kernel)
theorem woQ9_d35 : decode xM1005.2.1 35 = .ok (.invokevirtual 59, 3) := dz_ok (by decide +kernel)
theorem woQ9_d38 : decode xM1005.2.1 38 = .ok (.ireturn, 1) := dz_ok (by decide +kernel)
theorem woQ9_d39 : decode xM1005.2.1 39 = .ok (.aload_n 0, 1) := dz_ok (by decide +kernel)
theorem woQ9_d40 : decode xM1005.2.1 40 = .ok (.invokevirtual 180, 3) := dz_ok (by decide +kernel)
theorem woQ9_d43 : decode xM1005.2.1 43 = .ok (.aload_n 0, 1) := dz_ok (by decide +kernel)
theorem woQ9_d44 : decode xM1005.2.1 44 = .ok (.iload_n 1, 1) := dz_ok (by decide +kernel)
theorem woQ9_d45 : decode xM1005.2.1 45 = .ok (.invokevirtual 224, 3) := dz_ok (by decide +kernel)
theorem woQ9_d48 : decode xM1005.2.1 48 = .ok (.ifCond .ne 10, 3) := dz_ok (by decide +kernel)
theorem woQ9_d51 : decode xM1005.2.1 51 = .ok (.aload_n 0, 1) := dz_ok (by decide +kernel)
theorem woQ9_d52 : decode xM1005.2.1 52 = .ok (.bipush (-3), 2) := dz_ok (by decide +kernel)
theorem woQ9_d54 : decode xM1005.2.1 54 = .ok (.invokevirtual 59, 3) := dz_ok (by decide +kernel)
theorem woQ9_d57 : decode xM1005.2.1 57 = .ok (.ireturn, 1) := dz_ok (by decide +kernel)
theorem woQ9_d58 : decode xM1005.2.1 58 = .ok (.aload_n 0, 1) := dz_ok (by decide +kernel)
theorem woQ9_d59 : decode xM1005.2.1 59 = .ok (.getfield 40, 3) := dz_ok (by decide +kernel)
theorem woQ9_d62 : decode xM1005.2.1 62 = .ok (.iload_n 1, 1) := dz_ok (by decide +kernel)
theorem woQ9_d63 : decode xM1005.2.1 63 = .ok (.invokevirtual 227, 3) := dz_ok (by decide +kernel)
theorem woQ9_d66 : decode xM1005.2.1 66 = .ok (.aload_n 0, 1) := dz_ok (by decide +kernel)
theorem woQ9_d67 : decode xM1005.2.1 67 = .ok (.getfield 40, 3) := dz_ok (by decide +kernel)
theorem woQ9_d70 : decode xM1005.2.1 70 = .ok (.iload_n 3, 1) := dz_ok (by decide +kernel)
theorem woQ9_d71 : decode xM1005.2.1 71 = .ok (.aload_n 0, 1) := dz_ok (by decide +kernel)
theorem woQ9_d72 : decode xM1005.2.1 72 = .ok (.getfield 33, 3) := dz_ok (by decide +kernel)
theorem woQ9_d75 : decode xM1005.2.1 75 = .ok (.iload_n 2, 1) := dz_ok (by decide +kernel)
theorem woQ9_d76 : decode xM1005.2.1 76 = .ok (.invokevirtual 240, 3) := dz_ok (by decide +kernel)
theorem woQ9_d79 : decode xM1005.2.1 79 = .ok (.invokevirtual 243, 3) := dz_ok (by decide +kernel)
theorem woQ9_d82 : decode xM1005.2.1 82 = .ok (.ireturn, 1) := dz_ok (by decide +kernel)
theorem ym_Twords : y_Met vwCl x_G x_Zs x_Tb x_Nb xM1005 z_ATF z_PTwords := by
  refine y_main (by decide +kernel) (by decide +kernel) x_Tb_good x_Nb_ok ?_
  intro p l e s m below meth c D U Y0 av ls B hI hpre hl
  have X := B.1
  have hx := X.1
  have hb := X.2.1
  have hY0 := B.2.2.2.2.1
  obtain ⟨v0, v1, v2, v3, rfl, hv0, ⟨a, rfl, -⟩, ⟨t, rfl, -⟩, ⟨n, rfl, -⟩⟩ := y_four B.2.2.2.2.2
  obtain ⟨this, t0, rfl, ht0, hY_this⟩ := x_ref_at hv0 rfl
  obtain rfl := List.mem_singleton.mp ht0
  replace hl : lv_has ls xM1005.2.2.1 [(0, .ref this), (1, .int a), (2, .int t), (3, .int n)] := hl
  obtain ⟨f, K, tt, nn, hR0⟩ := hpre _ rfl
  obtain ⟨hd, dr, kp, tx, by_, kk, ⟨hs_hd, -⟩, ⟨hY_hd, -⟩, hL, -⟩ := id hR0
  obtain ⟨ey, hs_ey, hY_ey⟩ := y_fldR (k := 4) hI.1 hY_this rfl rfl
  obtain ⟨vw, hs_vw, hY_vw⟩ := y_fldR (k := 1) hI.1 hY_ey rfl rfl
  have hn0 := hL.1.1
  have hn1 := hL.1.2.1
  have hn2 := hL.1.2.2
  have hb0 : 0 ≤ (f 0).toInt ∧ (f 0).toInt ≤ 10 := by obtain ⟨x9, e9, b9⟩ := y_fldI (k := 0) hI.1 hY_hd rfl rfl; rw [hn0] at e9; cases e9; exact b9
  have hb1 : 0 ≤ (f 1).toInt ∧ (f 1).toInt ≤ 8 := by obtain ⟨x9, e9, b9⟩ := y_fldI (k := 6) hI.1 hY_hd rfl rfl; rw [hn1] at e9; cases e9; exact b9
  have hb2 : 0 ≤ (f 2).toInt ∧ (f 2).toInt ≤ 8 := by obtain ⟨x9, e9, b9⟩ := y_fldI (k := 12) hI.1 hY_hd rfl rfl; rw [hn2] at e9; cases e9; exact b9
  obtain ⟨ro, hs_ro, hY_ro⟩ := y_fldR (k := 5) hI.1 hY_this rfl rfl
  obtain ⟨sr, hs_sr, hY_sr⟩ := y_fldR (k := 0) hI.1 hY_ro rfl rfl
  obtain ⟨hr, hs_hr, hY_hr⟩ := y_fldR (k := 2) hI.1 hY_ro rfl rfl
  refine lv_aload_n hx hb woQ9_d0 rfl (lv_at hl 0 rfl) ?_
  refine y_getf X (fl8 X.2.2.2.2.1) hI.1 hY_this rfl hs_hd woQ9_d1 ?_
  refine lv_iload_n hx hb woQ9_d4 rfl (lv_at hl 1 rfl) ?_
  refine y_call (z := (0, 169, 2, some 2, xM67)) (av := [.ref hd, .int a]) (rest := []) (y_cokV (n := 1) (ci := 2) X ym_hasSet rfl rfl rfl (x_cons (x_bw42 2 rfl rfl) (x_cons (x_bw42 3 rfl rfl) (x_cons (x_bw42 4 rfl rfl) (x_cons (x_bw0 2 rfl rfl) x_nilm)))) (x_bw42 5 rfl rfl) (by decide +kernel) ⟨Nat.le_of_ble_eq_true rfl, Nat.le_of_ble_eq_true rfl⟩) hY0 hI rfl woQ9_d5 hl.1 (Nat.le_of_ble_eq_true rfl) (Nat.le_of_ble_eq_true rfl) (Nat.le_of_ble_eq_true rfl) (y_cons (y_cref hY_hd rfl) (y_cons ⟨_, rfl, x_i32 _⟩ y_nil)) rfl (y_recv rfl hY_hd) trivial (y_sub_ef rfl) fun v Yn o Hn L ho hr ha hIn hx_ hE hP => ?_
  have hPh := hP _ _ _ rfl hn0
  replace hs_hd := y_Efld hE hY_this rfl (by decide) (by decide) hs_hd
  replace hs_ey := y_Efld hE hY_this rfl (by decide) (by decide) hs_ey
  replace hs_vw := y_Efld hE hY_ey rfl (by decide) (by decide) hs_vw
  replace hn0 := y_Efld hE hY_hd rfl (by decide) (by decide) hn0
  replace hs_ro := y_Efld hE hY_this rfl (by decide) (by decide) hs_ro
  replace hs_sr := y_Efld hE hY_ro rfl (by decide) (by decide) hs_sr
  replace hs_hr := y_Efld hE hY_ro rfl (by decide) (by decide) hs_hr
  replace hL := hL.E hY_hd hE (fun q u h => y_ext hx_ hI.1 h) (by decide +kernel)
  replace hY_this := y_ext hx_ hI.1 hY_this
  replace hY_hd := y_ext hx_ hI.1 hY_hd
  replace hY_ey := y_ext hx_ hI.1 hY_ey
  replace hY_vw := y_ext hx_ hI.1 hY_vw
  replace hY_ro := y_ext hx_ hI.1 hY_ro
  replace hY_sr := y_ext hx_ hI.1 hY_sr
  replace hY_hr := y_ext hx_ hI.1 hY_hr
  obtain ⟨r5, rfl, hin_r5, hout_r5⟩ := hPh
  clear ho hr ha hE hP hI hx_
  rename x_I _ _ _ _ _ _ _ _ _ _ => hI
  have ec0 : (0 : Int32).toInt = 0 := by decide
  refine lv_if_eq hx hb woQ9_d8 (tgt := 32) (by decide) (fun q8 => ?_) (fun q8 => ?_)
  · have q8_ : r5.toInt = (0 : Int32).toInt := by rw [q8]
    have hno : ¬ (m_isS f a ∧ m_isH f t ∧ 0 ≤ n.toInt ∧ n.toInt ≤ 6) := fun q9 => by first | exact hout_r5 (by assumption) q9.1 | exact hout_r16 (by assumption) q9.2.1 | (have h9 := hout_r26 (by assumption); omega)
    refine lv_aload_n hx hb woQ9_d32 rfl (lv_at hl 0 rfl) ?_
    refine lv_bipush hx hb woQ9_d33 (v := (-2)) (by decide) ?_
    have ecm2 : ((-2) : Int32).toInt = (-2) := by decide
    refine y_call (z := (0, 59, 2, some 0, xM8)) (av := [.ref this, .int ((-2) : Int32)]) (rest := []) (y_cokV (n := 1) (ci := 11) X ym_counted rfl rfl rfl (x_cons (x_bw19 7 rfl rfl) (x_cons (x_bw19 9 rfl rfl) (x_cons (x_at 1 (by decide +kernel) rfl) (x_cons (x_bw0 1 rfl rfl) x_nilm)))) (x_bw19 10 rfl rfl) (by decide +kernel) ⟨Nat.le_of_ble_eq_true rfl, Nat.le_of_ble_eq_true rfl⟩) hY0 hI rfl woQ9_d35 hl.1 (Nat.le_of_ble_eq_true rfl) (Nat.le_of_ble_eq_true rfl) (Nat.le_of_ble_eq_true rfl) (y_cons (y_cref hY_this rfl) (y_cons ⟨_, rfl, x_i32 _⟩ y_nil)) rfl (y_recv rfl hY_this) trivial (y_sub_ef rfl) fun v Yn o Hn L ho hr ha hIn hx_ hE hP => ?_
    replace hs_hd := y_Efld hE hY_this rfl (by decide) (by decide) hs_hd
    replace hs_ey := y_Efld hE hY_this rfl (by decide) (by decide) hs_ey
    replace hs_vw := y_Efld hE hY_ey rfl (by decide) (by decide) hs_vw
    replace hn0 := y_Efld hE hY_hd rfl (by decide) (by decide) hn0
    replace hs_ro := y_Efld hE hY_this rfl (by decide) (by decide) hs_ro
    replace hs_sr := y_Efld hE hY_ro rfl (by decide) (by decide) hs_sr
    replace hs_hr := y_Efld hE hY_ro rfl (by decide) (by decide) hs_hr
    replace hL := hL.E hY_hd hE (fun q u h => y_ext hx_ hI.1 h) (by decide +kernel)
    replace hY_this := y_ext hx_ hI.1 hY_this
    replace hY_hd := y_ext hx_ hI.1 hY_hd
    replace hY_ey := y_ext hx_ hI.1 hY_ey
    replace hY_vw := y_ext hx_ hI.1 hY_vw
    replace hY_ro := y_ext hx_ hI.1 hY_ro
    replace hY_sr := y_ext hx_ hI.1 hY_sr
    replace hY_hr := y_ext hx_ hI.1 hY_hr
    obtain rfl := hP _ _ rfl
    clear ho hr ha hE hP hI hx_
    rename x_I _ _ _ _ _ _ _ _ _ _ => hI
    exact y_ireturn B hI rfl rfl rfl List.mem_cons_self ⟨_, rfl, ⟨_, rfl, x_i32 _⟩⟩ (x_cs.mono B.2.2.2.2.2 (y_mon B hI)) (fun t' w0' w1' w2' f' K' tt' nn' h1 h2 => by cases h1; obtain ⟨ef, -⟩ := hR0.eqs h2; subst ef; exact ⟨_, rfl, fun q9 => absurd q9 hno, fun q9 => absurd q9 hno, fun _ => rfl⟩) (Nat.le_refl _) (Nat.le_refl _) woQ9_d38
  · have q8_ : ¬ r5.toInt = (0 : Int32).toInt := fun q => q8 (Int32.toInt_inj.mp q)
    refine lv_aload_n hx hb woQ9_d11 rfl (lv_at hl 0 rfl) ?_
    refine y_getf X (fl8 X.2.2.2.2.1) hI.1 hY_this rfl hs_hd woQ9_d12 ?_
    refine lv_iload_n hx hb woQ9_d15 rfl (lv_at hl 2 rfl) ?_
    refine y_call (z := (0, 101, 2, some 2, xM40)) (av := [.ref hd, .int t]) (rest := []) (y_cokV (n := 1) (ci := 2) X ym_hasHill rfl rfl rfl (x_cons (x_bw29 8 rfl rfl) (x_cons (x_bw29 9 rfl rfl) (x_cons (x_bw29 10 rfl rfl) (x_cons (x_bw0 2 rfl rfl) x_nilm)))) (x_bw29 11 rfl rfl) (by decide +kernel) ⟨Nat.le_of_ble_eq_true rfl, Nat.le_of_ble_eq_true rfl⟩) hY0 hI rfl woQ9_d16 hl.1 (Nat.le_of_ble_eq_true rfl) (Nat.le_of_ble_eq_true rfl) (Nat.le_of_ble_eq_true rfl) (y_cons (y_cref hY_hd rfl) (y_cons ⟨_, rfl, x_i32 _⟩ y_nil)) rfl (y_recv rfl hY_hd) trivial (y_sub_ef rfl) fun v Yn o Hn L ho hr ha hIn hx_ hE hP => ?_
    have hPh := hP _ _ _ rfl hn0
    replace hs_hd := y_Efld hE hY_this rfl (by decide) (by decide) hs_hd
    replace hs_ey := y_Efld hE hY_this rfl (by decide) (by decide) hs_ey
    replace hs_vw := y_Efld hE hY_ey rfl (by decide) (by decide) hs_vw
    replace hn0 := y_Efld hE hY_hd rfl (by decide) (by decide) hn0
    replace hs_ro := y_Efld hE hY_this rfl (by decide) (by decide) hs_ro
    replace hs_sr := y_Efld hE hY_ro rfl (by decide) (by decide) hs_sr
    replace hs_hr := y_Efld hE hY_ro rfl (by decide) (by decide) hs_hr
    replace hL := hL.E hY_hd hE (fun q u h => y_ext hx_ hI.1 h) (by decide +kernel)
    replace hY_this := y_ext hx_ hI.1 hY_this
    replace hY_hd := y_ext hx_ hI.1 hY_hd
    replace hY_ey := y_ext hx_ hI.1 hY_ey
    replace hY_vw := y_ext hx_ hI.1 hY_vw
    replace hY_ro := y_ext hx_ hI.1 hY_ro
    replace hY_sr := y_ext hx_ hI.1 hY_sr
    replace hY_hr := y_ext hx_ hI.1 hY_hr
    obtain ⟨r16, rfl, hin_r16, hout_r16⟩ := hPh
    clear ho hr ha hE hP hI hx_
    rename x_I _ _ _ _ _ _ _ _ _ _ => hI
    refine lv_if_eq hx hb woQ9_d19 (tgt := 32) (by decide) (fun q19 => ?_) (fun q19 => ?_)
    · have q19_ : r16.toInt = (0 : Int32).toInt := by rw [q19]
      have hno : ¬ (m_isS f a ∧ m_isH f t ∧ 0 ≤ n.toInt ∧ n.toInt ≤ 6) := fun q9 => by first | exact hout_r5 (by assumption) q9.1 | exact hout_r16 (by assumption) q9.2.1 | (have h9 := hout_r26 (by assumption); omega)
      refine lv_aload_n hx hb woQ9_d32 rfl (lv_at hl 0 rfl) ?_
      refine lv_bipush hx hb woQ9_d33 (v := (-2)) (by decide) ?_
      have ecm2 : ((-2) : Int32).toInt = (-2) := by decide
      refine y_call (z := (0, 59, 2, some 0, xM8)) (av := [.ref this, .int ((-2) : Int32)]) (rest := []) (y_cokV (n := 1) (ci := 11) X ym_counted rfl rfl rfl (x_cons (x_bw19 7 rfl rfl) (x_cons (x_bw19 9 rfl rfl) (x_cons (x_at 1 (by decide +kernel) rfl) (x_cons (x_bw0 1 rfl rfl) x_nilm)))) (x_bw19 10 rfl rfl) (by decide +kernel) ⟨Nat.le_of_ble_eq_true rfl, Nat.le_of_ble_eq_true rfl⟩) hY0 hI rfl woQ9_d35 hl.1 (Nat.le_of_ble_eq_true rfl) (Nat.le_of_ble_eq_true rfl) (Nat.le_of_ble_eq_true rfl) (y_cons (y_cref hY_this rfl) (y_cons ⟨_, rfl, x_i32 _⟩ y_nil)) rfl (y_recv rfl hY_this) trivial (y_sub_ef rfl) fun v Yn o Hn L ho hr ha hIn hx_ hE hP => ?_
      replace hs_hd := y_Efld hE hY_this rfl (by decide) (by decide) hs_hd
      replace hs_ey := y_Efld hE hY_this rfl (by decide) (by decide) hs_ey
      replace hs_vw := y_Efld hE hY_ey rfl (by decide) (by decide) hs_vw
      replace hn0 := y_Efld hE hY_hd rfl (by decide) (by decide) hn0
      replace hs_ro := y_Efld hE hY_this rfl (by decide) (by decide) hs_ro
      replace hs_sr := y_Efld hE hY_ro rfl (by decide) (by decide) hs_sr
      replace hs_hr := y_Efld hE hY_ro rfl (by decide) (by decide) hs_hr
      replace hL := hL.E hY_hd hE (fun q u h => y_ext hx_ hI.1 h) (by decide +kernel)
      replace hY_this := y_ext hx_ hI.1 hY_this
      replace hY_hd := y_ext hx_ hI.1 hY_hd
      replace hY_ey := y_ext hx_ hI.1 hY_ey
      replace hY_vw := y_ext hx_ hI.1 hY_vw
      replace hY_ro := y_ext hx_ hI.1 hY_ro
      replace hY_sr := y_ext hx_ hI.1 hY_sr
      replace hY_hr := y_ext hx_ hI.1 hY_hr
      obtain rfl := hP _ _ rfl
      clear ho hr ha hE hP hI hx_
      rename x_I _ _ _ _ _ _ _ _ _ _ => hI
      exact y_ireturn B hI rfl rfl rfl List.mem_cons_self ⟨_, rfl, ⟨_, rfl, x_i32 _⟩⟩ (x_cs.mono B.2.2.2.2.2 (y_mon B hI)) (fun t' w0' w1' w2' f' K' tt' nn' h1 h2 => by cases h1; obtain ⟨ef, -⟩ := hR0.eqs h2; subst ef; exact ⟨_, rfl, fun q9 => absurd q9 hno, fun q9 => absurd q9 hno, fun _ => rfl⟩) (Nat.le_refl _) (Nat.le_refl _) woQ9_d38
    · have q19_ : ¬ r16.toInt = (0 : Int32).toInt := fun q => q19 (Int32.toInt_inj.mp q)
      refine lv_iload_n hx hb woQ9_d22 rfl (lv_at hl 3 rfl) ?_
      refine lv_iconst hx hb woQ9_d23 (v := 0) (by decide) ?_
      refine lv_bipush hx hb woQ9_d24 (v := 6) (by decide) ?_
      have ec6 : (6 : Int32).toInt = 6 := by decide
      refine y_call (z := (1, 88, 3, none, xM10)) (av := [.int n, .int (0 : Int32), .int (6 : Int32)]) (rest := []) (y_cokS (n := 3) X ym_within (x_cons (x_bw19 15 rfl rfl) (x_cons (x_bw19 1 rfl rfl) (x_cons (x_bw0 1 rfl rfl) x_nilm))) (x_bw19 2 rfl rfl) (by decide +kernel) ⟨Nat.le_of_ble_eq_true rfl, Nat.le_of_ble_eq_true rfl⟩) hY0 hI rfl woQ9_d26 hl.1 (Nat.le_of_ble_eq_true rfl) (Nat.le_of_ble_eq_true rfl) (Nat.le_of_ble_eq_true rfl) (y_cons ⟨_, rfl, x_i32 _⟩ (y_cons ⟨_, rfl, x_i32 _⟩ (y_cons ⟨_, rfl, x_i32 _⟩ y_nil))) rfl (y_norecv rfl) trivial (y_sub_ef rfl) fun v Yn o Hn L ho hr ha hIn hx_ hE hP => ?_
      replace hs_hd := y_Efld hE hY_this rfl (by decide) (by decide) hs_hd
      replace hs_ey := y_Efld hE hY_this rfl (by decide) (by decide) hs_ey
      replace hs_vw := y_Efld hE hY_ey rfl (by decide) (by decide) hs_vw
      replace hn0 := y_Efld hE hY_hd rfl (by decide) (by decide) hn0
      replace hs_ro := y_Efld hE hY_this rfl (by decide) (by decide) hs_ro
      replace hs_sr := y_Efld hE hY_ro rfl (by decide) (by decide) hs_sr
      replace hs_hr := y_Efld hE hY_ro rfl (by decide) (by decide) hs_hr
      replace hL := hL.E hY_hd hE (fun q u h => y_ext hx_ hI.1 h) (by decide +kernel)
      replace hY_this := y_ext hx_ hI.1 hY_this
      replace hY_hd := y_ext hx_ hI.1 hY_hd
      replace hY_ey := y_ext hx_ hI.1 hY_ey
      replace hY_vw := y_ext hx_ hI.1 hY_vw
      replace hY_ro := y_ext hx_ hI.1 hY_ro
      replace hY_sr := y_ext hx_ hI.1 hY_sr
      replace hY_hr := y_ext hx_ hI.1 hY_hr
      obtain ⟨r26, rfl, hin_r26, hout_r26⟩ := hP _ _ _ rfl
      clear ho hr ha hE hP hI hx_
      rename x_I _ _ _ _ _ _ _ _ _ _ => hI
      refine lv_if_ne hx hb woQ9_d29 (tgt := 39) (by decide) (fun q29 => ?_) (fun q29 => ?_)
      · have q29_ : ¬ r26.toInt = (0 : Int32).toInt := fun q => q29 (Int32.toInt_inj.mp q)
        have hw9 := hin_r26 (by assumption)
        have hok : m_isS f a ∧ m_isH f t ∧ 0 ≤ n.toInt ∧ n.toInt ≤ 6 := by first | exact ⟨hin_r5 (by assumption), by omega, by omega⟩ | exact ⟨hin_r5 (by assumption), hin_r16 (by assumption), by omega, by omega⟩
        have hs_a := hok.1
        have hz9 := z_all_p hb0
        have hpw9 : 2 ^ (f 0).toInt.toNat ≤ 1024 := Nat.pow_le_pow_right (n := 2) (by decide) (show (f 0).toInt.toNat ≤ 10 by omega)
        unfold m_isS at hs_a
        have hlt_a : a.toInt.toNat < (2 ^ (f 0).toInt.toNat) := by omega
        have hh9 := hok.2.1
        unfold m_isH at hh9
        refine lv_aload_n hx hb woQ9_d39 rfl (lv_at hl 0 rfl) ?_
        refine y_call (z := (0, 180, 1, some 0, xM1000)) (av := [.ref this]) (rest := []) (y_cokV (n := 0) (ci := 11) X ym_gatherNow rfl rfl rfl (x_cons (x_bw43 12 rfl rfl) (x_cons (x_bw43 14 rfl rfl) (x_cons (x_at 13 (by decide +kernel) rfl) (x_cons (x_bw0 1 rfl rfl) x_nilm)))) (x_bw43 15 rfl rfl) (by decide +kernel) ⟨Nat.le_of_ble_eq_true rfl, Nat.le_of_ble_eq_true rfl⟩) hY0 hI rfl woQ9_d40 hl.1 (Nat.le_of_ble_eq_true rfl) (Nat.le_of_ble_eq_true rfl) (Nat.le_of_ble_eq_true rfl) (y_cons (y_cref hY_this rfl) y_nil) rfl (y_recv rfl hY_this) (fun t' hd' h1 h2 => by cases h1; cases h2.symm.trans hs_hd; exact ⟨_, hL⟩) (y_sub_ef rfl) fun v Yn o Hn L ho hr ha hIn hx_ hE hP => ?_
        have hPg := hP _ _ _ _ _ _ _ rfl hs_hd hs_ey hs_vw hs_ro hs_sr hL
        replace hs_hd := y_Efld hE hY_this rfl (by decide) (by decide) hs_hd
        replace hs_ey := y_Efld hE hY_this rfl (by decide) (by decide) hs_ey
        replace hs_vw := y_Efld hE hY_ey rfl (by decide) (by decide) hs_vw
        replace hn0 := y_Efld hE hY_hd rfl (by decide) (by decide) hn0
        replace hs_ro := y_Efld hE hY_this rfl (by decide) (by decide) hs_ro
        replace hs_sr := y_Efld hE hY_ro rfl (by decide) (by decide) hs_sr
        replace hs_hr := y_Efld hE hY_ro rfl (by decide) (by decide) hs_hr
        replace hL := hL.E hY_hd hE (fun q u h => y_ext hx_ hI.1 h) (by decide +kernel)
        replace hY_this := y_ext hx_ hI.1 hY_this
        replace hY_hd := y_ext hx_ hI.1 hY_hd
        replace hY_ey := y_ext hx_ hI.1 hY_ey
        replace hY_vw := y_ext hx_ hI.1 hY_vw
        replace hY_ro := y_ext hx_ hI.1 hY_ro
        replace hY_sr := y_ext hx_ hI.1 hY_sr
        replace hY_hr := y_ext hx_ hI.1 hY_hr
        obtain rfl := y_ansV rfl ho hr
        obtain ⟨hA_vw, fo, fr, hsi_found, hA_sr, hfo, hse⟩ := hPg
        have hpw : 2 ^ (f 0).toInt.toNat ≤ 1024 := Nat.pow_le_pow_right (n := 2) (by decide) (show (f 0).toInt.toNat ≤ 10 by omega)
        clear ho hr ha hE hP hI hx_
        rename x_I _ _ _ _ _ _ _ _ _ _ => hI
        refine lv_aload_n hx hb woQ9_d43 rfl (lv_at hl 0 rfl) ?_
        refine lv_iload_n hx hb woQ9_d44 rfl (lv_at hl 1 rfl) ?_
        refine y_call (z := (0, 224, 2, some 0, xM92)) (av := [.ref this, .int a]) (rest := []) (y_cokV (n := 1) (ci := 11) X ym_isLawNow rfl rfl rfl (x_cons (x_bw49 1 rfl rfl) (x_cons (x_bw49 3 rfl rfl) (x_cons (x_at 17 (by decide +kernel) rfl) (x_cons (x_bw0 1 rfl rfl) x_nilm)))) (x_bw49 4 rfl rfl) (by decide +kernel) ⟨Nat.le_of_ble_eq_true rfl, Nat.le_of_ble_eq_true rfl⟩) hY0 hI rfl woQ9_d45 hl.1 (Nat.le_of_ble_eq_true rfl) (Nat.le_of_ble_eq_true rfl) (Nat.le_of_ble_eq_true rfl) (y_cons (y_cref hY_this rfl) (y_cons ⟨_, rfl, x_i32 _⟩ y_nil)) rfl (y_recv rfl hY_this) trivial (y_sub_ef rfl) fun v Yn o Hn L ho hr ha hIn hx_ hE hP => ?_
        have hPl := hP _ _ _ _ _ rfl hs_ey hs_vw hA_vw
        obtain rfl := hPl
        replace hs_hd := y_Efld hE hY_this rfl (by decide) (by decide) hs_hd
        replace hs_ey := y_Efld hE hY_this rfl (by decide) (by decide) hs_ey
        replace hs_vw := y_Efld hE hY_ey rfl (by decide) (by decide) hs_vw
        replace hn0 := y_Efld hE hY_hd rfl (by decide) (by decide) hn0
        replace hs_ro := y_Efld hE hY_this rfl (by decide) (by decide) hs_ro
        replace hs_sr := y_Efld hE hY_ro rfl (by decide) (by decide) hs_sr
        replace hs_hr := y_Efld hE hY_ro rfl (by decide) (by decide) hs_hr
        replace hsi_found := y_Efld hE hY_ro rfl (by decide) (by decide) hsi_found
        replace hA_vw := hA_vw.kept (y_Earr hE hY_vw rfl (by decide))
        replace hA_sr := hA_sr.kept (y_Earr hE hY_sr rfl (by decide))
        replace hL := hL.E hY_hd hE (fun q u h => y_ext hx_ hI.1 h) (by decide +kernel)
        replace hY_this := y_ext hx_ hI.1 hY_this
        replace hY_hd := y_ext hx_ hI.1 hY_hd
        replace hY_ey := y_ext hx_ hI.1 hY_ey
        replace hY_vw := y_ext hx_ hI.1 hY_vw
        replace hY_ro := y_ext hx_ hI.1 hY_ro
        replace hY_sr := y_ext hx_ hI.1 hY_sr
        replace hY_hr := y_ext hx_ hI.1 hY_hr
        generalize hg_r45 : m_b (!(m_any (m_wr (m_VC f (f 4) (f 5) 0) a) 10)) = r45
        clear ho hr ha hE hP hI hx_
        rename x_I _ _ _ _ _ _ _ _ _ _ => hI
        refine lv_if_ne hx hb woQ9_d48 (tgt := 58) (by decide) (fun q48 => ?_) (fun q48 => ?_)
        · have q48_ : ¬ r45.toInt = (0 : Int32).toInt := fun q => q48 (Int32.toInt_inj.mp q)
          have hLa := (show (m_LC (m_VC f (f 4) (f 5) 0)) a.toInt.toNat = true by unfold m_LC; rw [m_nj (by omega)]; exact m_bn (fun q => absurd ((Eq.trans (Eq.symm hg_r45)) q) (by assumption)))
          refine lv_aload_n hx hb woQ9_d58 rfl (lv_at hl 0 rfl) ?_
          refine y_getf X (fl205 X.2.2.2.2.1) hI.1 hY_this rfl hs_ro woQ9_d59 ?_
          refine lv_iload_n hx hb woQ9_d62 rfl (lv_at hl 1 rfl) ?_
          refine y_call (z := (0, 227, 2, some 8, xM96)) (av := [.ref ro, .int a]) (rest := []) (y_cokV (n := 1) (ci := 5) X ym_spread rfl rfl rfl (x_cons (x_bw49 5 rfl rfl) (x_cons (x_bw49 6 rfl rfl) (x_cons (x_bw49 7 rfl rfl) (x_cons (x_bw0 8 rfl rfl) x_nilm)))) (x_bw49 8 rfl rfl) (by decide +kernel) ⟨Nat.le_of_ble_eq_true rfl, Nat.le_of_ble_eq_true rfl⟩) hY0 hI rfl woQ9_d63 hl.1 (Nat.le_of_ble_eq_true rfl) (Nat.le_of_ble_eq_true rfl) (Nat.le_of_ble_eq_true rfl) (y_cons (y_cref hY_ro rfl) (y_cons ⟨_, rfl, by show (0 : Int) ≤ _; omega, by show _ ≤ (1023 : Int); omega⟩ y_nil)) rfl (y_recv rfl hY_ro) trivial (y_sub_ef rfl) fun v Yn o Hn L ho hr ha hIn hx_ hE hP => ?_
          have hPs := hP _ _ _ _ _ _ rfl hs_sr hsi_found hA_sr hs_hr
          replace hs_hd := y_Efld hE hY_this rfl (by decide) (by decide) hs_hd
          replace hs_ey := y_Efld hE hY_this rfl (by decide) (by decide) hs_ey
          replace hs_vw := y_Efld hE hY_ey rfl (by decide) (by decide) hs_vw
          replace hn0 := y_Efld hE hY_hd rfl (by decide) (by decide) hn0
          replace hs_ro := y_Efld hE hY_this rfl (by decide) (by decide) hs_ro
          replace hs_sr := y_Efld hE hY_ro rfl (by decide) (by decide) hs_sr
          replace hs_hr := y_Efld hE hY_ro rfl (by decide) (by decide) hs_hr
          replace hsi_found := y_Efld hE hY_ro rfl (by decide) (by decide) hsi_found
          replace hA_vw := hA_vw.kept (y_Earr hE hY_vw rfl (by decide))
          replace hA_sr := hA_sr.kept (y_Earr hE hY_sr rfl (by decide))
          replace hL := hL.E hY_hd hE (fun q u h => y_ext hx_ hI.1 h) (by decide +kernel)
          replace hY_this := y_ext hx_ hI.1 hY_this
          replace hY_hd := y_ext hx_ hI.1 hY_hd
          replace hY_ey := y_ext hx_ hI.1 hY_ey
          replace hY_vw := y_ext hx_ hI.1 hY_vw
          replace hY_ro := y_ext hx_ hI.1 hY_ro
          replace hY_sr := y_ext hx_ hI.1 hY_sr
          replace hY_hr := y_ext hx_ hI.1 hY_hr
          obtain rfl := y_ansV rfl ho hr
          obtain ⟨F9, hA_hr, hDD⟩ := hPs
          have hD9 := hDD (m_LC (m_VC f (f 4) (f 5) 0)) (2 ^ (f 0).toInt.toNat) ⟨hpw, hfo, hse⟩ (by omega) (by assumption)
          clear ho hr ha hE hP hI hx_
          rename x_I _ _ _ _ _ _ _ _ _ _ => hI
          refine lv_aload_n hx hb woQ9_d66 rfl (lv_at hl 0 rfl) ?_
          refine y_getf X (fl205 X.2.2.2.2.1) hI.1 hY_this rfl hs_ro woQ9_d67 ?_
          refine lv_iload_n hx hb woQ9_d70 rfl (lv_at hl 3 rfl) ?_
          refine lv_aload_n hx hb woQ9_d71 rfl (lv_at hl 0 rfl) ?_
          refine y_getf X (fl102 X.2.2.2.2.1) hI.1 hY_this rfl hs_ey woQ9_d72 ?_
          refine lv_iload_n hx hb woQ9_d75 rfl (lv_at hl 2 rfl) ?_
          refine y_call (z := (0, 240, 2, some 6, xM101)) (av := [.ref ey, .int t]) (rest := [.int n, .ref ro]) (y_cokV (n := 1) (ci := 0) X ym_townView rfl rfl rfl (x_cons (x_bw51 6 rfl rfl) (x_cons (x_bw51 7 rfl rfl) (x_cons (x_bw51 8 rfl rfl) (x_cons (x_bw0 6 rfl rfl) x_nilm)))) (x_bw51 9 rfl rfl) (by decide +kernel) ⟨Nat.le_of_ble_eq_true rfl, Nat.le_of_ble_eq_true rfl⟩) hY0 hI rfl woQ9_d76 hl.1 (Nat.le_of_ble_eq_true rfl) (Nat.le_of_ble_eq_true rfl) (Nat.le_of_ble_eq_true rfl) (y_cons (y_cref hY_ey rfl) (y_cons ⟨_, rfl, by show (0 : Int) ≤ _; omega, by show _ ≤ (9 : Int); omega⟩ y_nil)) rfl (y_recv rfl hY_ey) trivial (y_sub_ef rfl) fun v Yn o Hn L ho hr ha hIn hx_ hE hP => ?_
          have hPt := hP _ _ _ _ rfl hs_vw hA_vw
          obtain rfl := hPt
          replace hs_hd := y_Efld hE hY_this rfl (by decide) (by decide) hs_hd
          replace hs_ey := y_Efld hE hY_this rfl (by decide) (by decide) hs_ey
          replace hs_vw := y_Efld hE hY_ey rfl (by decide) (by decide) hs_vw
          replace hn0 := y_Efld hE hY_hd rfl (by decide) (by decide) hn0
          replace hs_ro := y_Efld hE hY_this rfl (by decide) (by decide) hs_ro
          replace hs_sr := y_Efld hE hY_ro rfl (by decide) (by decide) hs_sr
          replace hs_hr := y_Efld hE hY_ro rfl (by decide) (by decide) hs_hr
          replace hsi_found := y_Efld hE hY_ro rfl (by decide) (by decide) hsi_found
          replace hA_vw := hA_vw.kept (y_Earr hE hY_vw rfl (by decide))
          replace hA_sr := hA_sr.kept (y_Earr hE hY_sr rfl (by decide))
          replace hA_hr := hA_hr.kept (y_Earr hE hY_hr rfl (by decide))
          replace hL := hL.E hY_hd hE (fun q u h => y_ext hx_ hI.1 h) (by decide +kernel)
          replace hY_this := y_ext hx_ hI.1 hY_this
          replace hY_hd := y_ext hx_ hI.1 hY_hd
          replace hY_ey := y_ext hx_ hI.1 hY_ey
          replace hY_vw := y_ext hx_ hI.1 hY_vw
          replace hY_ro := y_ext hx_ hI.1 hY_ro
          replace hY_sr := y_ext hx_ hI.1 hY_sr
          replace hY_hr := y_ext hx_ hI.1 hY_hr
          clear ho hr ha hE hP hI hx_
          rename x_I _ _ _ _ _ _ _ _ _ _ => hI
          refine y_call (z := (0, 243, 3, some 8, xM103)) (av := [.ref ro, .int n, .int (m_tw (m_VC f (f 4) (f 5) 0) t)]) (rest := []) (y_cokV (n := 2) (ci := 5) X ym_viewsW rfl rfl rfl (x_cons (x_bw51 10 rfl rfl) (x_cons (x_bw51 11 rfl rfl) (x_cons (x_bw51 12 rfl rfl) (x_cons (x_bw0 8 rfl rfl) x_nilm)))) (x_bw51 13 rfl rfl) (by decide +kernel) ⟨Nat.le_of_ble_eq_true rfl, Nat.le_of_ble_eq_true rfl⟩) hY0 hI rfl woQ9_d79 hl.1 (Nat.le_of_ble_eq_true rfl) (Nat.le_of_ble_eq_true rfl) (Nat.le_of_ble_eq_true rfl) (y_cons (y_cref hY_ro rfl) (y_cons ⟨_, rfl, x_i32 _⟩ (y_cons ⟨_, rfl, x_i32 _⟩ y_nil))) rfl (y_recv rfl hY_ro) trivial (y_sub_ef rfl) fun v Yn o Hn L ho hr ha hIn hx_ hE hP => ?_
          have hPw := hP _ _ _ _ _ _ _ _ rfl hs_sr hsi_found hA_sr hs_hr hA_hr (m_LC (m_VC f (f 4) (f 5) 0)) (2 ^ (f 0).toInt.toNat) ⟨hpw, hfo, hse⟩
          obtain rfl := hPw
          replace hs_hd := y_Efld hE hY_this rfl (by decide) (by decide) hs_hd
          replace hs_ey := y_Efld hE hY_this rfl (by decide) (by decide) hs_ey
          replace hs_vw := y_Efld hE hY_ey rfl (by decide) (by decide) hs_vw
          replace hn0 := y_Efld hE hY_hd rfl (by decide) (by decide) hn0
          replace hs_ro := y_Efld hE hY_this rfl (by decide) (by decide) hs_ro
          replace hs_sr := y_Efld hE hY_ro rfl (by decide) (by decide) hs_sr
          replace hs_hr := y_Efld hE hY_ro rfl (by decide) (by decide) hs_hr
          replace hsi_found := y_Efld hE hY_ro rfl (by decide) (by decide) hsi_found
          replace hA_vw := hA_vw.kept (y_Earr hE hY_vw rfl (by decide))
          replace hA_sr := hA_sr.kept (y_Earr hE hY_sr rfl (by decide))
          replace hA_hr := hA_hr.kept (y_Earr hE hY_hr rfl (by decide))
          replace hL := hL.E hY_hd hE (fun q u h => y_ext hx_ hI.1 h) (by decide +kernel)
          replace hY_this := y_ext hx_ hI.1 hY_this
          replace hY_hd := y_ext hx_ hI.1 hY_hd
          replace hY_ey := y_ext hx_ hI.1 hY_ey
          replace hY_vw := y_ext hx_ hI.1 hY_vw
          replace hY_ro := y_ext hx_ hI.1 hY_ro
          replace hY_sr := y_ext hx_ hI.1 hY_sr
          replace hY_hr := y_ext hx_ hI.1 hY_hr
          generalize hg_r79 : (m_fd (m_LC (m_VC f (f 4) (f 5) 0)) (m_vwSt F9 n (m_tw (m_VC f (f 4) (f 5) 0) t)) (fun _ => 0, 0) (2 ^ (f 0).toInt.toNat)).2 = r79
          clear ho hr ha hE hP hI hx_
          rename x_I _ _ _ _ _ _ _ _ _ _ => hI
          have hvw := m_vw_sn (L := (m_LC (m_VC f (f 4) (f 5) 0))) (F := F9) (n := n) (sn := (m_tw (m_VC f (f 4) (f 5) 0) t)) hpw (fun k hk => m_bi_lt fun j hj => by rw [m_bi_and]; have h9 : m_bi (nI k) j = false := Nat.testBit_lt_two_pow (Nat.lt_of_lt_of_le (by have h1 := x_tn (x := nI k) (by rw [nI_toInt (by omega)]; omega); rw [nI_toInt (by omega)] at h1; omega : (nI k).toBitVec.toNat < 2 ^ 10) (Nat.pow_le_pow_right (by decide) hj)); rw [h9, Bool.false_and]) (2 ^ (f 0).toInt.toNat) (Nat.le_refl _)
          exact y_ireturn B hI rfl rfl rfl List.mem_cons_self ⟨_, rfl, ⟨_, rfl, x_i32 _⟩⟩ (x_cs.mono B.2.2.2.2.2 (y_mon B hI)) (fun t' w0' w1' w2' f' K' tt' nn' h1 h2 => by cases h1; obtain ⟨ef, -⟩ := hR0.eqs h2; subst ef; exact ⟨_, rfl, fun _ _ => ⟨F9, hD9, by rw [← hg_r79]; exact hvw.2.1⟩, fun _ q9 => (by rw [hLa] at q9; cases q9), fun q9 => absurd hok q9⟩) (Nat.le_refl _) (Nat.le_refl _) woQ9_d82
        · have q48_ : r45.toInt = (0 : Int32).toInt := by rw [q48]
          have hLa := (show (m_LC (m_VC f (f 4) (f 5) 0)) a.toInt.toNat = false by unfold m_LC; rw [m_nj (by omega)]; exact m_b0 ((Eq.trans hg_r45) (by assumption)))
          refine lv_aload_n hx hb woQ9_d51 rfl (lv_at hl 0 rfl) ?_
          refine lv_bipush hx hb woQ9_d52 (v := (-3)) (by decide) ?_
          have ecm3 : ((-3) : Int32).toInt = (-3) := by decide
          refine y_call (z := (0, 59, 2, some 0, xM8)) (av := [.ref this, .int ((-3) : Int32)]) (rest := []) (y_cokV (n := 1) (ci := 11) X ym_counted rfl rfl rfl (x_cons (x_bw19 7 rfl rfl) (x_cons (x_bw19 9 rfl rfl) (x_cons (x_at 1 (by decide +kernel) rfl) (x_cons (x_bw0 1 rfl rfl) x_nilm)))) (x_bw19 10 rfl rfl) (by decide +kernel) ⟨Nat.le_of_ble_eq_true rfl, Nat.le_of_ble_eq_true rfl⟩) hY0 hI rfl woQ9_d54 hl.1 (Nat.le_of_ble_eq_true rfl) (Nat.le_of_ble_eq_true rfl) (Nat.le_of_ble_eq_true rfl) (y_cons (y_cref hY_this rfl) (y_cons ⟨_, rfl, x_i32 _⟩ y_nil)) rfl (y_recv rfl hY_this) trivial (y_sub_ef rfl) fun v Yn o Hn L ho hr ha hIn hx_ hE hP => ?_
          replace hs_hd := y_Efld hE hY_this rfl (by decide) (by decide) hs_hd
          replace hs_ey := y_Efld hE hY_this rfl (by decide) (by decide) hs_ey
          replace hs_vw := y_Efld hE hY_ey rfl (by decide) (by decide) hs_vw
          replace hn0 := y_Efld hE hY_hd rfl (by decide) (by decide) hn0
          replace hs_ro := y_Efld hE hY_this rfl (by decide) (by decide) hs_ro
          replace hs_sr := y_Efld hE hY_ro rfl (by decide) (by decide) hs_sr
          replace hs_hr := y_Efld hE hY_ro rfl (by decide) (by decide) hs_hr
          replace hsi_found := y_Efld hE hY_ro rfl (by decide) (by decide) hsi_found
          replace hA_vw := hA_vw.kept (y_Earr hE hY_vw rfl (by decide))
          replace hA_sr := hA_sr.kept (y_Earr hE hY_sr rfl (by decide))
          replace hL := hL.E hY_hd hE (fun q u h => y_ext hx_ hI.1 h) (by decide +kernel)
          replace hY_this := y_ext hx_ hI.1 hY_this
          replace hY_hd := y_ext hx_ hI.1 hY_hd
          replace hY_ey := y_ext hx_ hI.1 hY_ey
          replace hY_vw := y_ext hx_ hI.1 hY_vw
          replace hY_ro := y_ext hx_ hI.1 hY_ro
          replace hY_sr := y_ext hx_ hI.1 hY_sr
          replace hY_hr := y_ext hx_ hI.1 hY_hr
          obtain rfl := hP _ _ rfl
          clear ho hr ha hE hP hI hx_
          rename x_I _ _ _ _ _ _ _ _ _ _ => hI
          exact y_ireturn B hI rfl rfl rfl List.mem_cons_self ⟨_, rfl, ⟨_, rfl, x_i32 _⟩⟩ (x_cs.mono B.2.2.2.2.2 (y_mon B hI)) (fun t' w0' w1' w2' f' K' tt' nn' h1 h2 => by cases h1; obtain ⟨ef, -⟩ := hR0.eqs h2; subst ef; exact ⟨_, rfl, fun _ q9 => (by rw [hLa] at q9; cases q9), fun _ _ => rfl, fun q9 => absurd hok q9⟩) (Nat.le_refl _) (Nat.le_refl _) woQ9_d57
      · have q29_ : r26.toInt = (0 : Int32).toInt := by rw [q29]
        have hno : ¬ (m_isS f a ∧ m_isH f t ∧ 0 ≤ n.toInt ∧ n.toInt ≤ 6) := fun q9 => by first | exact hout_r5 (by assumption) q9.1 | exact hout_r16 (by assumption) q9.2.1 | (have h9 := hout_r26 (by assumption); omega)
        refine lv_aload_n hx hb woQ9_d32 rfl (lv_at hl 0 rfl) ?_
        refine lv_bipush hx hb woQ9_d33 (v := (-2)) (by decide) ?_
        have ecm2 : ((-2) : Int32).toInt = (-2) := by decide
        refine y_call (z := (0, 59, 2, some 0, xM8)) (av := [.ref this, .int ((-2) : Int32)]) (rest := []) (y_cokV (n := 1) (ci := 11) X ym_counted rfl rfl rfl (x_cons (x_bw19 7 rfl rfl) (x_cons (x_bw19 9 rfl rfl) (x_cons (x_at 1 (by decide +kernel) rfl) (x_cons (x_bw0 1 rfl rfl) x_nilm)))) (x_bw19 10 rfl rfl) (by decide +kernel) ⟨Nat.le_of_ble_eq_true rfl, Nat.le_of_ble_eq_true rfl⟩) hY0 hI rfl woQ9_d35 hl.1 (Nat.le_of_ble_eq_true rfl) (Nat.le_of_ble_eq_true rfl) (Nat.le_of_ble_eq_true rfl) (y_cons (y_cref hY_this rfl) (y_cons ⟨_, rfl, x_i32 _⟩ y_nil)) rfl (y_recv rfl hY_this) trivial (y_sub_ef rfl) fun v Yn o Hn L ho hr ha hIn hx_ hE hP => ?_
        replace hs_hd := y_Efld hE hY_this rfl (by decide) (by decide) hs_hd
        replace hs_ey := y_Efld hE hY_this rfl (by decide) (by decide) hs_ey
        replace hs_vw := y_Efld hE hY_ey rfl (by decide) (by decide) hs_vw
        replace hn0 := y_Efld hE hY_hd rfl (by decide) (by decide) hn0
        replace hs_ro := y_Efld hE hY_this rfl (by decide) (by decide) hs_ro
        replace hs_sr := y_Efld hE hY_ro rfl (by decide) (by decide) hs_sr
        replace hs_hr := y_Efld hE hY_ro rfl (by decide) (by decide) hs_hr
        replace hL := hL.E hY_hd hE (fun q u h => y_ext hx_ hI.1 h) (by decide +kernel)
        replace hY_this := y_ext hx_ hI.1 hY_this
        replace hY_hd := y_ext hx_ hI.1 hY_hd
        replace hY_ey := y_ext hx_ hI.1 hY_ey
        replace hY_vw := y_ext hx_ hI.1 hY_vw
        replace hY_ro := y_ext hx_ hI.1 hY_ro
        replace hY_sr := y_ext hx_ hI.1 hY_sr
        replace hY_hr := y_ext hx_ hI.1 hY_hr
        obtain rfl := hP _ _ rfl
        clear ho hr ha hE hP hI hx_
        rename x_I _ _ _ _ _ _ _ _ _ _ => hI
        exact y_ireturn B hI rfl rfl rfl List.mem_cons_self ⟨_, rfl, ⟨_, rfl, x_i32 _⟩⟩ (x_cs.mono B.2.2.2.2.2 (y_mon B hI)) (fun t' w0' w1' w2' f' K' tt' nn' h1 h2 => by cases h1; obtain ⟨ef, -⟩ := hR0.eqs h2; subst ef; exact ⟨_, rfl, fun q9 => absurd q9 hno, fun q9 => absurd q9 hno, fun _ => rfl⟩) (Nat.le_refl _) (Nat.le_refl _) woQ9_d38

