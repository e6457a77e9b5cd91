/-! DIGEST, the class -/
def z_Pmx : yP := fun _ av _ _ v _ _ => ∀ h x : Int64, av = [.long h, .long x] → v = some (.long (31 * h + x))
theorem mxq_d0 : decode xM135.2.1 0 = .ok (.ldc2_w 315, 3) := dz_ok (by decide +kernel)
theorem mxq_d3 : decode xM135.2.1 3 = .ok (.lload_n 0, 1) := dz_ok (by decide +kernel)
theorem mxq_d4 : decode xM135.2.1 4 = .ok (.lmul, 1) := dz_ok (by decide +kernel)
theorem mxq_d5 : decode xM135.2.1 5 = .ok (.lload_n 2, 1) := dz_ok (by decide +kernel)
theorem mxq_d6 : decode xM135.2.1 6 = .ok (.ladd, 1) := dz_ok (by decide +kernel)
theorem mxq_d7 : decode xM135.2.1 7 = .ok (.lreturn, 1) := dz_ok (by decide +kernel)
theorem ym_mixed : y_Met vwCl x_G x_Zs x_Tb x_Nb xM135 y_T z_Pmx := by
  refine y_main (by decide +kernel) (by decide +kernel) x_Tb_good x_Nb_ok ?_
  intro p l e s m below meth c D U Y0 av ls B hI _ hl
  have X := B.1
  have hx := X.1
  have hb := X.2.1
  have hY0 := B.2.2.2.2.1
  obtain ⟨v0, v1, rfl, ⟨h, rfl, -⟩, ⟨x, rfl, -⟩⟩ := x_two B.2.2.2.2.2
  replace hl : lv_has ls xM135.2.2.1 [(0, .long h), (2, .long x)] := hl
  refine lv_ldc2 hx hb X.2.2.2.1 (v := 31) (X.2.2.2.2.1 _ (x_bw60 11 rfl rfl)) mxq_d0 ?_
  have el31 : (31 : Int64).toInt = 31 := by decide
  refine lv_lload_n hx hb mxq_d3 rfl (lv_at hl 0 rfl) ?_
  refine lv_lmul hx hb mxq_d4 ?_
  generalize hg_z4 : (31 : Int64) * h = z4
  refine lv_lload_n hx hb mxq_d5 rfl (lv_at hl 1 rfl) ?_
  refine lv_ladd hx hb mxq_d6 ?_
  generalize hg_z6 : z4 + x = z6
  exact y_lreturn B hI rfl rfl List.mem_cons_self ⟨_, rfl, ⟨_, rfl, x_i64 _⟩⟩ (x_cs.mono B.2.2.2.2.2 (y_mon B hI)) (fun h' x' h1 => by cases h1; refine congrArg (fun x => some (Value.long x)) ?_; rw [← hg_z6, ← hg_z4]) (Nat.le_refl _) (Nat.le_refl _) mxq_d7
def z_Pdh : yP := fun D av Y H v _ _ => ∀ (this : Nat) (h : Int64) (f : Nat → Int32), av = [.ref this, .long h] → z_L D Y this H f → v = some (.long (m_mxs f 10 h (5 * (f 0).toInt.toNat)))
theorem dhq_d0 : decode xM136.2.1 0 = .ok (.lload_n 1, 1) := dz_ok (by decide +kernel)
theorem dhq_d1 : decode xM136.2.1 1 = .ok (.lstore_n 3, 1) := dz_ok (by decide +kernel)
theorem dhq_d2 : decode xM136.2.1 2 = .ok (.iconst 0, 1) := dz_ok (by decide +kernel)
theorem dhq_d3 : decode xM136.2.1 3 = .ok (.istore 5, 2) := dz_ok (by decide +kernel)
theorem dhq_d5 : decode xM136.2.1 5 = .ok (.iload 5, 2) := dz_ok (by decide +kernel)
theorem dhq_d7 : decode xM136.2.1 7 = .ok (.aload_n 0, 1) := dz_ok (by decide +kernel)
theorem dhq_d8 : decode xM136.2.1 8 = .ok (.getfield 63, 3) := dz_ok (by decide +kernel)
theorem dhq_d11 : decode xM136.2.1 11 = .ok (.if_icmp .ge 74, 3) := dz_ok (by decide +kernel)
theorem dhq_d14 : decode xM136.2.1 14 = .ok (.lload_n 3, 1) := dz_ok (by decide +kernel)
theorem dhq_d15 : decode xM136.2.1 15 = .ok (.aload_n 0, 1) := dz_ok (by decide +kernel)
theorem dhq_d16 : decode xM136.2.1 16 = .ok (.getfield 9, 3) := dz_ok (by decide +kernel)
theorem dhq_d19 : decode xM136.2.1 19 = .ok (.iload 5, 2) := dz_ok (by decide +kernel)
theorem dhq_d21 : decode xM136.2.1 21 = .ok (.iaload, 1) := dz_ok (by decide +kernel)
theorem dhq_d22 : decode xM136.2.1 22 = .ok (.i2l, 1) := dz_ok (by decide +kernel)
theorem dhq_d23 : decode xM136.2.1 23 = .ok (.invokestatic 140, 3) := dz_ok (by decide +kernel)
theorem dhq_d26 : decode xM136.2.1 26 = .ok (.lstore_n 3, 1) := dz_ok (by decide +kernel)
theorem dhq_d27 : decode xM136.2.1 27 = .ok (.lload_n 3, 1) := dz_ok (by decide +kernel)
theorem dhq_d28 : decode xM136.2.1 28 = .ok (.aload_n 0, 1) := dz_ok (by decide +kernel)
theorem dhq_d29 : decode xM136.2.1 29 = .ok (.getfield 15, 3) := dz_ok (by decide +kernel)
theorem dhq_d32 : decode xM136.2.1 32 = .ok (.iload 5, 2) := dz_ok (by decide +kernel)
theorem dhq_d34 : decode xM136.2.1 34 = .ok (.iaload, 1) := dz_ok (by decide +kernel)
theorem dhq_d35 : decode xM136.2.1 35 = .ok (.i2l, 1) := dz_ok (by decide +kernel)
theorem dhq_d36 : decode xM136.2.1 36 = .ok (.invokestatic 140, 3) := dz_ok (by decide +kernel)
theorem dhq_d39 : decode xM136.2.1 39 = .ok (.lstore_n 3, 1) := dz_ok (by decide +kernel)
theorem dhq_d40 : decode xM136.2.1 40 = .ok (.lload_n 3, 1) := dz_ok (by decide +kernel)
theorem dhq_d41 : decode xM136.2.1 41 = .ok (.aload_n 0, 1) := dz_ok (by decide +kernel)
theorem dhq_d42 : decode xM136.2.1 42 = .ok (.getfield 18, 3) := dz_ok (by decide +kernel)
theorem dhq_d45 : decode xM136.2.1 45 = .ok (.iload 5, 2) := dz_ok (by decide +kernel)
theorem dhq_d47 : decode xM136.2.1 47 = .ok (.iaload, 1) := dz_ok (by decide +kernel)
theorem dhq_d48 : decode xM136.2.1 48 = .ok (.i2l, 1) := dz_ok (by decide +kernel)
theorem dhq_d49 : decode xM136.2.1 49 = .ok (.invokestatic 140, 3) := dz_ok (by decide +kernel)
theorem dhq_d52 : decode xM136.2.1 52 = .ok (.lstore_n 3, 1) := dz_ok (by decide +kernel)
theorem dhq_d53 : decode xM136.2.1 53 = .ok (.lload_n 3, 1) := dz_ok (by decide +kernel)
theorem dhq_d54 : decode xM136.2.1 54 = .ok (.aload_n 0, 1) := dz_ok (by decide +kernel)
theorem dhq_d55 : decode xM136.2.1 55 = .ok (.getfield 21, 3) := dz_ok (by decide +kernel)
theorem dhq_d58 : decode xM136.2.1 58 = .ok (.iload 5, 2) := dz_ok (by decide +kernel)
theorem dhq_d60 : decode xM136.2.1 60 = .ok (.iaload, 1) := dz_ok (by decide +kernel)
theorem dhq_d61 : decode xM136.2.1 61 = .ok (.i2l, 1) := dz_ok (by decide +kernel)
theorem dhq_d62 : decode xM136.2.1 62 = .ok (.invokestatic 140, 3) := dz_ok (by decide +kernel)
theorem dhq_d65 : decode xM136.2.1 65 = .ok (.lstore_n 3, 1) := dz_ok (by decide +kernel)
theorem dhq_d66 : decode xM136.2.1 66 = .ok (.lload_n 3, 1) := dz_ok (by decide +kernel)
theorem dhq_d67 : decode xM136.2.1 67 = .ok (.aload_n 0, 1) := dz_ok (by decide +kernel)
theorem dhq_d68 : decode xM136.2.1 68 = .ok (.getfield 24, 3) := dz_ok (by decide +kernel)
theorem dhq_d71 : decode xM136.2.1 71 = .ok (.iload 5, 2) := dz_ok (by decide +kernel)
theorem dhq_d73 : decode xM136.2.1 73 = .ok (.iaload, 1) := dz_ok (by decide +kernel)
theorem dhq_d74 : decode xM136.2.1 74 = .ok (.i2l, 1) := dz_ok (by decide +kernel)
theorem dhq_d75 : decode xM136.2.1 75 = .ok (.invokestatic 140, 3) := dz_ok (by decide +kernel)
theorem dhq_d78 : decode xM136.2.1 78 = .ok (.lstore_n 3, 1) := dz_ok (by decide +kernel)
theorem dhq_d79 : decode xM136.2.1 79 = .ok (.iinc 5 1, 3) := dz_ok (by decide +kernel)
theorem dhq_d82 : decode xM136.2.1 82 = .ok (.goto (-77), 3) := dz_ok (by decide +kernel)
theorem dhq_d85 : decode xM136.2.1 85 = .ok (.lload_n 3, 1) := dz_ok (by decide +kernel)
theorem dhq_d86 : decode xM136.2.1 86 = .ok (.lreturn, 1) := dz_ok (by decide +kernel)
theorem dhq_L5 {p : Program} {l : Launch} {e : Env} {s : State} {m : MethodId} {below : List Frame} {meth : Method} {c : Code} {D : va_G} {U : State} {Y0 : xY} {av : List Value} (B : y_B vwCl x_Tb x_Nb xM136 p s m meth c D U Y0 av) {this ax ay aheight areport ablame : Nat} {h : Int64} {f : Nat → Int32} (hav : av = [.ref this, .long h]) (hL0 : z_L D Y0 this s.heap f) (hb0 : 0 ≤ (f 0).toInt ∧ (f 0).toInt ≤ 10) (hb1 : 0 ≤ (f 1).toInt ∧ (f 1).toInt ≤ 8) (hb2 : 0 ≤ (f 2).toInt ∧ (f 2).toInt ≤ 8)  :
    ∀ (n : Nat), ∀ (H : Heap) (Y : xY) (locs : List Loc) (ls : Array Slot) (k : Int32) (x : Int64), x_I D x_G x_Zs U (x_efs xM136) Y0 s.heap Y H locs → Y this = some 2 → Y ax = some 19 → Y ay = some 20 → Y aheight = some 21 → Y areport = some 22 → Y ablame = some 23 → x_sl D 2 1 this H = some (.ref ax) → x_sl D 2 2 this H = some (.ref ay) → x_sl D 2 3 this H = some (.ref aheight) → x_sl D 2 4 this H = some (.ref areport) → x_sl D 2 5 this H = some (.ref ablame) → x_sl D 2 0 this H = some (.int (f 0)) → y_A ax 10 H (fun j => f (10 + 5 * j)) → y_A ay 10 H (fun j => f (11 + 5 * j)) → y_A aheight 10 H (fun j => f (12 + 5 * j)) → y_A areport 10 H (fun j => f (13 + 5 * j)) → y_A ablame 10 H (fun j => f (14 + 5 * j)) → z_L D Y this H f → lv_has ls xM136.2.2.1 [(5, .int k), (3, .long x), (0, .ref this), (1, .long h)] → (0 ≤ k.toInt ∧ k.toInt ≤ (f 0).toInt) → (x = m_mxs f 10 h (5 * k.toInt.toNat)) → (11 - k.toInt).toNat < n → W p l e (x_rm xM136) s m av.toArray below meth c H locs 0 0 (y_QQ below D x_G x_Zs U xM136 z_Pdh av Y0 s) (F0 m 5 ls []) := by
  have X := B.1
  have hx := X.1
  have hb := X.2.1
  have hY0 := B.2.2.2.2.1
  intro n
  induction n with
  | zero => intro _ _ _ _ _ _ _ _ _ _ _ _ _ _ _ _ _ _ _ _ _ _ _ _ _ _ _ _ h; exact absurd h (Nat.not_lt_zero _)
  | succ n ih =>
    intro H Y locs ls k x  hI hY_this hY_ax hY_ay hY_aheight hY_areport hY_ablame hs_ax hs_ay hs_aheight hs_areport hs_ablame hsi_hills hA_ax hA_ay hA_aheight hA_areport hA_ablame hL hl hk hx9 hn
    refine lv_iload hx hb dhq_d5 (lv_at hl 0 rfl) ?_
    refine lv_aload_n hx hb dhq_d7 rfl (lv_at hl 2 rfl) ?_
    refine y_getf X (fl2 X.2.2.2.2.1) hI.1 hY_this rfl hsi_hills dhq_d8 ?_
    refine lv_icmp_ge hx hb dhq_d11 (tgt := 85) (by decide) (fun q11 => ?_) (fun q11 => ?_)
    · have q11_ : (f 0).toInt ≤ k.toInt := x_le32.mp q11
      refine lv_lload_n hx hb dhq_d85 rfl (lv_at hl 1 rfl) ?_
      subst hav
      exact y_lreturn B hI rfl rfl List.mem_cons_self ⟨_, rfl, ⟨_, rfl, x_i64 _⟩⟩ (x_cs.mono B.2.2.2.2.2 (y_mon B hI)) (fun t' h' f' h1 h2 => by cases h1; cases h2.uniq hL0; refine congrArg (fun x => some (Value.long x)) ?_; rw [hx9, show k.toInt.toNat = (f 0).toInt.toNat by omega]) (Nat.le_refl _) (Nat.le_refl _) dhq_d86
    · have q11_ : k.toInt < (f 0).toInt := Int.not_le.mp fun q => q11 (x_le32.mpr q)
      refine lv_lload_n hx hb dhq_d14 rfl (lv_at hl 1 rfl) ?_
      refine lv_aload_n hx hb dhq_d15 rfl (lv_at hl 2 rfl) ?_
      refine y_getf X (fl0 X.2.2.2.2.1) hI.1 hY_this rfl hs_ax dhq_d16 ?_
      refine lv_iload hx hb dhq_d19 (lv_at hl 0 rfl) ?_
      refine y_iald X hI.1 hY_ax rfl hA_ax (by omega) (by show _ < (10 : Int); omega) dhq_d21 ?_
      obtain ⟨e21, hg_e21⟩ : ∃ e21 : Int32, f (10 + 5 * k.toInt.toNat) = e21 := ⟨_, rfl⟩
      rw [hg_e21]
      obtain ⟨z22, hg_z22⟩ : ∃ z22 : Int64, e21.toInt64 = z22 := ⟨_, rfl⟩
      have h_z22 : z22.toInt = (e21).toInt := by rw [← hg_z22]; exact Int32.toInt_toInt64 _
      refine lv_i2l hx hb dhq_d22 (v := z22) hg_z22 ?_
      refine y_call (z := (1, 140, 2, none, xM135)) (av := [.long x, .long z22]) (rest := []) (y_cokSN (n := 2) (host := "TwinFires") X ym_mixed (x_cons (x_bw60 9 rfl rfl) (x_cons (x_bw0 1 rfl rfl) x_nilm)) (x_bn61 0 rfl rfl) (x_bw60 10 rfl rfl) (by decide +kernel) ⟨Nat.le_of_ble_eq_true rfl, Nat.le_of_ble_eq_true rfl⟩) hY0 hI rfl dhq_d23 hl.1 (Nat.le_of_ble_eq_true rfl) (Nat.le_of_ble_eq_true rfl) (Nat.le_of_ble_eq_true rfl) (y_cons ⟨_, rfl, x_i64 _⟩ (y_cons ⟨_, rfl, x_i64 _⟩ y_nil)) rfl (y_norecv rfl) trivial (y_sub_ef rfl) fun v Yn o Hn L ho hr ha hIn hx_ hE hP => ?_
      replace hs_ax := y_Efld hE hY_this rfl (by decide) (by decide) hs_ax
      replace hs_ay := y_Efld hE hY_this rfl (by decide) (by decide) hs_ay
      replace hs_aheight := y_Efld hE hY_this rfl (by decide) (by decide) hs_aheight
      replace hs_areport := y_Efld hE hY_this rfl (by decide) (by decide) hs_areport
      replace hs_ablame := y_Efld hE hY_this rfl (by decide) (by decide) hs_ablame
      replace hsi_hills := y_Efld hE hY_this rfl (by decide) (by decide) hsi_hills
      replace hA_ax := hA_ax.kept (y_Earr hE hY_ax rfl (by decide))
      replace hA_ay := hA_ay.kept (y_Earr hE hY_ay rfl (by decide))
      replace hA_aheight := hA_aheight.kept (y_Earr hE hY_aheight rfl (by decide))
      replace hA_areport := hA_areport.kept (y_Earr hE hY_areport rfl (by decide))
      replace hA_ablame := hA_ablame.kept (y_Earr hE hY_ablame rfl (by decide))
      replace hL := hL.E hY_this hE (fun q u h => y_ext hx_ hI.1 h) (by decide +kernel)
      replace hY_this := y_ext hx_ hI.1 hY_this
      replace hY_ax := y_ext hx_ hI.1 hY_ax
      replace hY_ay := y_ext hx_ hI.1 hY_ay
      replace hY_aheight := y_ext hx_ hI.1 hY_aheight
      replace hY_areport := y_ext hx_ hI.1 hY_areport
      replace hY_ablame := y_ext hx_ hI.1 hY_ablame
      obtain rfl := hP _ _ rfl
      generalize hg_r23 : 31 * x + z22 = r23
      clear ho hr ha hE hP hI hx_
      rename x_I _ _ _ _ _ _ _ _ _ _ => hI
      refine lv_lstore_n hx hb dhq_d26 rfl hl (by decide) (lv' := [(3, .long r23), (5, .int k), (0, .ref this), (1, .long h)]) rfl fun ls hl => ?_
      refine lv_lload_n hx hb dhq_d27 rfl (lv_at hl 0 rfl) ?_
      refine lv_aload_n hx hb dhq_d28 rfl (lv_at hl 2 rfl) ?_
      refine y_getf X (fl1 X.2.2.2.2.1) hI.1 hY_this rfl hs_ay dhq_d29 ?_
      refine lv_iload hx hb dhq_d32 (lv_at hl 1 rfl) ?_
      refine y_iald X hI.1 hY_ay rfl hA_ay (by omega) (by show _ < (10 : Int); omega) dhq_d34 ?_
      obtain ⟨e34, hg_e34⟩ : ∃ e34 : Int32, f (11 + 5 * k.toInt.toNat) = e34 := ⟨_, rfl⟩
      rw [hg_e34]
      obtain ⟨z35, hg_z35⟩ : ∃ z35 : Int64, e34.toInt64 = z35 := ⟨_, rfl⟩
      have h_z35 : z35.toInt = (e34).toInt := by rw [← hg_z35]; exact Int32.toInt_toInt64 _
      refine lv_i2l hx hb dhq_d35 (v := z35) hg_z35 ?_
      refine y_call (z := (1, 140, 2, none, xM135)) (av := [.long r23, .long z35]) (rest := []) (y_cokSN (n := 2) (host := "TwinFires") X ym_mixed (x_cons (x_bw60 9 rfl rfl) (x_cons (x_bw0 1 rfl rfl) x_nilm)) (x_bn61 0 rfl rfl) (x_bw60 10 rfl rfl) (by decide +kernel) ⟨Nat.le_of_ble_eq_true rfl, Nat.le_of_ble_eq_true rfl⟩) hY0 hI rfl dhq_d36 hl.1 (Nat.le_of_ble_eq_true rfl) (Nat.le_of_ble_eq_true rfl) (Nat.le_of_ble_eq_true rfl) (y_cons ⟨_, rfl, x_i64 _⟩ (y_cons ⟨_, rfl, x_i64 _⟩ y_nil)) rfl (y_norecv rfl) trivial (y_sub_ef rfl) fun v Yn o Hn L ho hr ha hIn hx_ hE hP => ?_
      replace hs_ax := y_Efld hE hY_this rfl (by decide) (by decide) hs_ax
      replace hs_ay := y_Efld hE hY_this rfl (by decide) (by decide) hs_ay
      replace hs_aheight := y_Efld hE hY_this rfl (by decide) (by decide) hs_aheight
      replace hs_areport := y_Efld hE hY_this rfl (by decide) (by decide) hs_areport
      replace hs_ablame := y_Efld hE hY_this rfl (by decide) (by decide) hs_ablame
      replace hsi_hills := y_Efld hE hY_this rfl (by decide) (by decide) hsi_hills
      replace hA_ax := hA_ax.kept (y_Earr hE hY_ax rfl (by decide))
      replace hA_ay := hA_ay.kept (y_Earr hE hY_ay rfl (by decide))
      replace hA_aheight := hA_aheight.kept (y_Earr hE hY_aheight rfl (by decide))
      replace hA_areport := hA_areport.kept (y_Earr hE hY_areport rfl (by decide))
      replace hA_ablame := hA_ablame.kept (y_Earr hE hY_ablame rfl (by decide))
      replace hL := hL.E hY_this hE (fun q u h => y_ext hx_ hI.1 h) (by decide +kernel)
      replace hY_this := y_ext hx_ hI.1 hY_this
      replace hY_ax := y_ext hx_ hI.1 hY_ax
      replace hY_ay := y_ext hx_ hI.1 hY_ay
      replace hY_aheight := y_ext hx_ hI.1 hY_aheight
      replace hY_areport := y_ext hx_ hI.1 hY_areport
      replace hY_ablame := y_ext hx_ hI.1 hY_ablame
      obtain rfl := hP _ _ rfl
      generalize hg_r36 : 31 * r23 + z35 = r36
      clear ho hr ha hE hP hI hx_
      rename x_I _ _ _ _ _ _ _ _ _ _ => hI
      refine lv_lstore_n hx hb dhq_d39 rfl hl (by decide) (lv' := [(3, .long r36), (5, .int k), (0, .ref this), (1, .long h)]) rfl fun ls hl => ?_
      refine lv_lload_n hx hb dhq_d40 rfl (lv_at hl 0 rfl) ?_
      refine lv_aload_n hx hb dhq_d41 rfl (lv_at hl 2 rfl) ?_
      refine y_getf X (fl3 X.2.2.2.2.1) hI.1 hY_this rfl hs_aheight dhq_d42 ?_
      refine lv_iload hx hb dhq_d45 (lv_at hl 1 rfl) ?_
      refine y_iald X hI.1 hY_aheight rfl hA_aheight (by omega) (by show _ < (10 : Int); omega) dhq_d47 ?_
      obtain ⟨e47, hg_e47⟩ : ∃ e47 : Int32, f (12 + 5 * k.toInt.toNat) = e47 := ⟨_, rfl⟩
      rw [hg_e47]
      obtain ⟨z48, hg_z48⟩ : ∃ z48 : Int64, e47.toInt64 = z48 := ⟨_, rfl⟩
      have h_z48 : z48.toInt = (e47).toInt := by rw [← hg_z48]; exact Int32.toInt_toInt64 _
      refine lv_i2l hx hb dhq_d48 (v := z48) hg_z48 ?_
      refine y_call (z := (1, 140, 2, none, xM135)) (av := [.long r36, .long z48]) (rest := []) (y_cokSN (n := 2) (host := "TwinFires") X ym_mixed (x_cons (x_bw60 9 rfl rfl) (x_cons (x_bw0 1 rfl rfl) x_nilm)) (x_bn61 0 rfl rfl) (x_bw60 10 rfl rfl) (by decide +kernel) ⟨Nat.le_of_ble_eq_true rfl, Nat.le_of_ble_eq_true rfl⟩) hY0 hI rfl dhq_d49 hl.1 (Nat.le_of_ble_eq_true rfl) (Nat.le_of_ble_eq_true rfl) (Nat.le_of_ble_eq_true rfl) (y_cons ⟨_, rfl, x_i64 _⟩ (y_cons ⟨_, rfl, x_i64 _⟩ y_nil)) rfl (y_norecv rfl) trivial (y_sub_ef rfl) fun v Yn o Hn L ho hr ha hIn hx_ hE hP => ?_
      replace hs_ax := y_Efld hE hY_this rfl (by decide) (by decide) hs_ax
      replace hs_ay := y_Efld hE hY_this rfl (by decide) (by decide) hs_ay
      replace hs_aheight := y_Efld hE hY_this rfl (by decide) (by decide) hs_aheight
      replace hs_areport := y_Efld hE hY_this rfl (by decide) (by decide) hs_areport
      replace hs_ablame := y_Efld hE hY_this rfl (by decide) (by decide) hs_ablame
      replace hsi_hills := y_Efld hE hY_this rfl (by decide) (by decide) hsi_hills
      replace hA_ax := hA_ax.kept (y_Earr hE hY_ax rfl (by decide))
      replace hA_ay := hA_ay.kept (y_Earr hE hY_ay rfl (by decide))
      replace hA_aheight := hA_aheight.kept (y_Earr hE hY_aheight rfl (by decide))
      replace hA_areport := hA_areport.kept (y_Earr hE hY_areport rfl (by decide))
      replace hA_ablame := hA_ablame.kept (y_Earr hE hY_ablame rfl (by decide))
      replace hL := hL.E hY_this hE (fun q u h => y_ext hx_ hI.1 h) (by decide +kernel)
      replace hY_this := y_ext hx_ hI.1 hY_this
      replace hY_ax := y_ext hx_ hI.1 hY_ax
      replace hY_ay := y_ext hx_ hI.1 hY_ay
      replace hY_aheight := y_ext hx_ hI.1 hY_aheight
      replace hY_areport := y_ext hx_ hI.1 hY_areport
      replace hY_ablame := y_ext hx_ hI.1 hY_ablame
      obtain rfl := hP _ _ rfl
      generalize hg_r49 : 31 * r36 + z48 = r49
      clear ho hr ha hE hP hI hx_
      rename x_I _ _ _ _ _ _ _ _ _ _ => hI
      refine lv_lstore_n hx hb dhq_d52 rfl hl (by decide) (lv' := [(3, .long r49), (5, .int k), (0, .ref this), (1, .long h)]) rfl fun ls hl => ?_
      refine lv_lload_n hx hb dhq_d53 rfl (lv_at hl 0 rfl) ?_
      refine lv_aload_n hx hb dhq_d54 rfl (lv_at hl 2 rfl) ?_
      refine y_getf X (fl4 X.2.2.2.2.1) hI.1 hY_this rfl hs_areport dhq_d55 ?_
      refine lv_iload hx hb dhq_d58 (lv_at hl 1 rfl) ?_
      refine y_iald X hI.1 hY_areport rfl hA_areport (by omega) (by show _ < (10 : Int); omega) dhq_d60 ?_
      obtain ⟨e60, hg_e60⟩ : ∃ e60 : Int32, f (13 + 5 * k.toInt.toNat) = e60 := ⟨_, rfl⟩
      rw [hg_e60]
      obtain ⟨z61, hg_z61⟩ : ∃ z61 : Int64, e60.toInt64 = z61 := ⟨_, rfl⟩
      have h_z61 : z61.toInt = (e60).toInt := by rw [← hg_z61]; exact Int32.toInt_toInt64 _
      refine lv_i2l hx hb dhq_d61 (v := z61) hg_z61 ?_
      refine y_call (z := (1, 140, 2, none, xM135)) (av := [.long r49, .long z61]) (rest := []) (y_cokSN (n := 2) (host := "TwinFires") X ym_mixed (x_cons (x_bw60 9 rfl rfl) (x_cons (x_bw0 1 rfl rfl) x_nilm)) (x_bn61 0 rfl rfl) (x_bw60 10 rfl rfl) (by decide +kernel) ⟨Nat.le_of_ble_eq_true rfl, Nat.le_of_ble_eq_true rfl⟩) hY0 hI rfl dhq_d62 hl.1 (Nat.le_of_ble_eq_true rfl) (Nat.le_of_ble_eq_true rfl) (Nat.le_of_ble_eq_true rfl) (y_cons ⟨_, rfl, x_i64 _⟩ (y_cons ⟨_, rfl, x_i64 _⟩ y_nil)) rfl (y_norecv rfl) trivial (y_sub_ef rfl) fun v Yn o Hn L ho hr ha hIn hx_ hE hP => ?_
      replace hs_ax := y_Efld hE hY_this rfl (by decide) (by decide) hs_ax
      replace hs_ay := y_Efld hE hY_this rfl (by decide) (by decide) hs_ay
      replace hs_aheight := y_Efld hE hY_this rfl (by decide) (by decide) hs_aheight
      replace hs_areport := y_Efld hE hY_this rfl (by decide) (by decide) hs_areport
      replace hs_ablame := y_Efld hE hY_this rfl (by decide) (by decide) hs_ablame
      replace hsi_hills := y_Efld hE hY_this rfl (by decide) (by decide) hsi_hills
      replace hA_ax := hA_ax.kept (y_Earr hE hY_ax rfl (by decide))
      replace hA_ay := hA_ay.kept (y_Earr hE hY_ay rfl (by decide))
      replace hA_aheight := hA_aheight.kept (y_Earr hE hY_aheight rfl (by decide))
      replace hA_areport := hA_areport.kept (y_Earr hE hY_areport rfl (by decide))
      replace hA_ablame := hA_ablame.kept (y_Earr hE hY_ablame rfl (by decide))
      replace hL := hL.E hY_this hE (fun q u h => y_ext hx_ hI.1 h) (by decide +kernel)
      replace hY_this := y_ext hx_ hI.1 hY_this
      replace hY_ax := y_ext hx_ hI.1 hY_ax
      replace hY_ay := y_ext hx_ hI.1 hY_ay
      replace hY_aheight := y_ext hx_ hI.1 hY_aheight
      replace hY_areport := y_ext hx_ hI.1 hY_areport
      replace hY_ablame := y_ext hx_ hI.1 hY_ablame
      obtain rfl := hP _ _ rfl
      generalize hg_r62 : 31 * r49 + z61 = r62
      clear ho hr ha hE hP hI hx_
      rename x_I _ _ _ _ _ _ _ _ _ _ => hI
      refine lv_lstore_n hx hb dhq_d65 rfl hl (by decide) (lv' := [(3, .long r62), (5, .int k), (0, .ref this), (1, .long h)]) rfl fun ls hl => ?_
      refine lv_lload_n hx hb dhq_d66 rfl (lv_at hl 0 rfl) ?_
      refine lv_aload_n hx hb dhq_d67 rfl (lv_at hl 2 rfl) ?_
      refine y_getf X (fl5 X.2.2.2.2.1) hI.1 hY_this rfl hs_ablame dhq_d68 ?_
      refine lv_iload hx hb dhq_d71 (lv_at hl 1 rfl) ?_
      refine y_iald X hI.1 hY_ablame rfl hA_ablame (by omega) (by show _ < (10 : Int); omega) dhq_d73 ?_
      obtain ⟨e73, hg_e73⟩ : ∃ e73 : Int32, f (14 + 5 * k.toInt.toNat) = e73 := ⟨_, rfl⟩
      rw [hg_e73]
      obtain ⟨z74, hg_z74⟩ : ∃ z74 : Int64, e73.toInt64 = z74 := ⟨_, rfl⟩
      have h_z74 : z74.toInt = (e73).toInt := by rw [← hg_z74]; exact Int32.toInt_toInt64 _
      refine lv_i2l hx hb dhq_d74 (v := z74) hg_z74 ?_
      refine y_call (z := (1, 140, 2, none, xM135)) (av := [.long r62, .long z74]) (rest := []) (y_cokSN (n := 2) (host := "TwinFires") X ym_mixed (x_cons (x_bw60 9 rfl rfl) (x_cons (x_bw0 1 rfl rfl) x_nilm)) (x_bn61 0 rfl rfl) (x_bw60 10 rfl rfl) (by decide +kernel) ⟨Nat.le_of_ble_eq_true rfl, Nat.le_of_ble_eq_true rfl⟩) hY0 hI rfl dhq_d75 hl.1 (Nat.le_of_ble_eq_true rfl) (Nat.le_of_ble_eq_true rfl) (Nat.le_of_ble_eq_true rfl) (y_cons ⟨_, rfl, x_i64 _⟩ (y_cons ⟨_, rfl, x_i64 _⟩ y_nil)) rfl (y_norecv rfl) trivial (y_sub_ef rfl) fun v Yn o Hn L ho hr ha hIn hx_ hE hP => ?_
      replace hs_ax := y_Efld hE hY_this rfl (by decide) (by decide) hs_ax
      replace hs_ay := y_Efld hE hY_this rfl (by decide) (by decide) hs_ay
      replace hs_aheight := y_Efld hE hY_this rfl (by decide) (by decide) hs_aheight
      replace hs_areport := y_Efld hE hY_this rfl (by decide) (by decide) hs_areport
      replace hs_ablame := y_Efld hE hY_this rfl (by decide) (by decide) hs_ablame
      replace hsi_hills := y_Efld hE hY_this rfl (by decide) (by decide) hsi_hills
      replace hA_ax := hA_ax.kept (y_Earr hE hY_ax rfl (by decide))
      replace hA_ay := hA_ay.kept (y_Earr hE hY_ay rfl (by decide))
      replace hA_aheight := hA_aheight.kept (y_Earr hE hY_aheight rfl (by decide))
      replace hA_areport := hA_areport.kept (y_Earr hE hY_areport rfl (by decide))
      replace hA_ablame := hA_ablame.kept (y_Earr hE hY_ablame rfl (by decide))
      replace hL := hL.E hY_this hE (fun q u h => y_ext hx_ hI.1 h) (by decide +kernel)
      replace hY_this := y_ext hx_ hI.1 hY_this
      replace hY_ax := y_ext hx_ hI.1 hY_ax
      replace hY_ay := y_ext hx_ hI.1 hY_ay
      replace hY_aheight := y_ext hx_ hI.1 hY_aheight
      replace hY_areport := y_ext hx_ hI.1 hY_areport
      replace hY_ablame := y_ext hx_ hI.1 hY_ablame
      obtain rfl := hP _ _ rfl
      generalize hg_r75 : 31 * r62 + z74 = r75
      clear ho hr ha hE hP hI hx_
      rename x_I _ _ _ _ _ _ _ _ _ _ => hI
      refine lv_lstore_n hx hb dhq_d78 rfl hl (by decide) (lv' := [(3, .long r75), (5, .int k), (0, .ref this), (1, .long h)]) rfl fun ls hl => ?_
      obtain ⟨z79, hg_z79⟩ : ∃ z79 : Int32, k + Int32.ofInt 1 = z79 := ⟨_, rfl⟩
      have h_z79 : z79.toInt = k.toInt + 1 := by rw [← hg_z79]; exact y_inc (by decide) (by omega) (by omega)
      refine lv_iinc hx hb dhq_d79 hl (k := 1) rfl hg_z79 (by decide) (lv' := [(5, .int z79), (3, .long r75), (0, .ref this), (1, .long h)]) rfl fun ls hl => ?_
      refine lv_goto hx hb dhq_d82 (tgt := 5) (by decide) ?_
      have his : 5 * z79.toInt.toNat = 5 * k.toInt.toNat + 1 + 1 + 1 + 1 + 1 := by omega
      have ae21 : f (10 + 5 * k.toInt.toNat) = e21 := Eq.trans (congrArg f (by omega)) hg_e21
      have ae34 : f (10 + (5 * k.toInt.toNat + 1)) = e34 := Eq.trans (congrArg f (by omega)) hg_e34
      have ae47 : f (10 + (5 * k.toInt.toNat + 2)) = e47 := Eq.trans (congrArg f (by omega)) hg_e47
      have ae60 : f (10 + (5 * k.toInt.toNat + 3)) = e60 := Eq.trans (congrArg f (by omega)) hg_e60
      have ae73 : f (10 + (5 * k.toInt.toNat + 4)) = e73 := Eq.trans (congrArg f (by omega)) hg_e73
      exact ih _ _ _ _ _ _ hI hY_this hY_ax hY_ay hY_aheight hY_areport hY_ablame hs_ax hs_ay hs_aheight hs_areport hs_ablame hsi_hills hA_ax hA_ay hA_aheight hA_areport hA_ablame hL (lv_sub hl [0, 1, 2, 3] rfl) (by first | assumption | omega) (by rw [his]; show _ = 31 * (31 * (31 * (31 * (31 * (m_mxs f 10 h (5 * k.toInt.toNat)) + (f (10 + 5 * k.toInt.toNat)).toInt64) + (f (10 + (5 * k.toInt.toNat + 1))).toInt64) + (f (10 + (5 * k.toInt.toNat + 2))).toInt64) + (f (10 + (5 * k.toInt.toNat + 3))).toInt64) + (f (10 + (5 * k.toInt.toNat + 4))).toInt64; rw [← hx9, ae21, hg_z22, hg_r23, ae34, hg_z35, hg_r36, ae47, hg_z48, hg_r49, ae60, hg_z61, hg_r62, ae73, hg_z74, hg_r75]) (by omega)
theorem ym_digH : y_Met vwCl x_G x_Zs x_Tb x_Nb xM136 z_AL z_Pdh := by
  refine y_main (by decide +kernel) (by decide +kernel) x_Tb_good x_Nb_ok ?_
  intro p l e s m below meth c D U Y0 av ls B hI hAL hl
  have X := B.1
  have hx := X.1
  have hb := X.2.1
  have hY0 := B.2.2.2.2.1
  obtain ⟨v0, v1, rfl, hv0, ⟨h, rfl, -⟩⟩ := x_two B.2.2.2.2.2
  obtain ⟨this, t0, rfl, ht0, hY_this⟩ := x_ref_at hv0 rfl
  obtain rfl := List.mem_singleton.mp ht0
  replace hl : lv_has ls xM136.2.2.1 [(0, .ref this), (1, .long h)] := hl
  obtain ⟨f, hL⟩ := hAL _ rfl
  have hL0 := hL
  have hn0 := hL.1.1
  have hn1 := hL.1.2.1
  have hn2 := hL.1.2.2
  have hb0 : 0 ≤ (f 0).toInt ∧ (f 0).toInt ≤ 10 := by obtain ⟨x9, e9, b9⟩ := y_fldI (k := 0) hI.1 hY_this rfl rfl; rw [hn0] at e9; cases e9; exact b9
  have hb1 : 0 ≤ (f 1).toInt ∧ (f 1).toInt ≤ 8 := by obtain ⟨x9, e9, b9⟩ := y_fldI (k := 6) hI.1 hY_this rfl rfl; rw [hn1] at e9; cases e9; exact b9
  have hb2 : 0 ≤ (f 2).toInt ∧ (f 2).toInt ≤ 8 := by obtain ⟨x9, e9, b9⟩ := y_fldI (k := 12) hI.1 hY_this rfl rfl; rw [hn2] at e9; cases e9; exact b9
  obtain ⟨ax, hs_ax, hY_ax, hA_ax⟩ := hL.2.1 (1, 19, 10, 10, 5) (by decide)
  replace hA_ax : y_A ax 10 s.heap (fun j => f (10 + 5 * j)) := hA_ax
  obtain ⟨ay, hs_ay, hY_ay, hA_ay⟩ := hL.2.1 (2, 20, 10, 11, 5) (by decide)
  replace hA_ay : y_A ay 10 s.heap (fun j => f (11 + 5 * j)) := hA_ay
  obtain ⟨aheight, hs_aheight, hY_aheight, hA_aheight⟩ := hL.2.1 (3, 21, 10, 12, 5) (by decide)
  replace hA_aheight : y_A aheight 10 s.heap (fun j => f (12 + 5 * j)) := hA_aheight
  obtain ⟨areport, hs_areport, hY_areport, hA_areport⟩ := hL.2.1 (4, 22, 10, 13, 5) (by decide)
  replace hA_areport : y_A areport 10 s.heap (fun j => f (13 + 5 * j)) := hA_areport
  obtain ⟨ablame, hs_ablame, hY_ablame, hA_ablame⟩ := hL.2.1 (5, 23, 10, 14, 5) (by decide)
  replace hA_ablame : y_A ablame 10 s.heap (fun j => f (14 + 5 * j)) := hA_ablame
  have hsi_hills := hn0
  refine lv_lload_n hx hb dhq_d0 rfl (lv_at hl 1 rfl) ?_
  refine lv_lstore_n hx hb dhq_d1 rfl hl (by decide) (lv' := [(3, .long h), (0, .ref this), (1, .long h)]) rfl fun ls hl => ?_
  refine lv_iconst hx hb dhq_d2 (v := 0) (by decide) ?_
  have ec0 : (0 : Int32).toInt = 0 := by decide
  refine lv_istore hx hb dhq_d3 hl (by decide) (lv' := [(5, .int (0 : Int32)), (3, .long h), (0, .ref this), (1, .long h)]) rfl fun ls hl => ?_
  exact dhq_L5 B rfl hL0 hb0 hb1 hb2 12 _ _ _ _ _ _ hI hY_this hY_ax hY_ay hY_aheight hY_areport hY_ablame hs_ax hs_ay hs_aheight hs_areport hs_ablame hsi_hills hA_ax hA_ay hA_aheight hA_areport hA_ablame hL (lv_sub hl [0, 1, 2, 3] rfl) (by first | assumption | omega) (by rw [z_i0]; rfl) (by omega)
def z_Pdt : yP := fun D av Y H v _ _ => ∀ (this : Nat) (h : Int64) (f : Nat → Int32), av = [.ref this, .long h] → z_L D Y this H f → v = some (.long (m_mxs f 60 h (7 * (f 1).toInt.toNat)))
theorem gst_Land_144 {p : Program} {l : Launch} {e : Env} {R : Room} {s : State} {m : MethodId} {args : Array Value} {below : List Frame} {meth : Method} {c : Code} {Q : State → Prop} {D : va_G} {U : State} {cc : ByteArray} {nL : Nat} {Y : xY} {H : Heap} {locs : List Loc} {cells slots pc : Nat} {ls : Array Slot} {rest : List Value} {sn q : Nat} {f : Nat → Int32} (X : x_cx p s m args c D U cc nL vwCl x_Tb x_Nb "TwinFires$Land") (hst : z_st D Y sn H f q) (hH : x_H D x_G x_Zs U Y H) (hd : decode cc pc = .ok (.getfield 144, 3)) (kk : W p l e R s m args below meth c H locs cells slots Q (F0 m (pc + 3) ls (.int (f (q + 0)) :: rest))) : W p l e R s m args below meth c H locs cells slots Q (F0 m pc ls (.ref sn :: rest)) := by
  obtain ⟨z, hz, hY, -, z4⟩ := hst
  simp only [z_Kd, List.mem_cons, List.not_mem_nil, or_false] at hz
  rcases hz with rfl | rfl | rfl | rfl | rfl | rfl
  · exact y_getf X (fl160 X.2.2.2.2.1) hH hY rfl (z4 0 (by decide)) hd kk
  · exact y_getf X (fl161 X.2.2.2.2.1) hH hY rfl (z4 0 (by decide)) hd kk
  · exact y_getf X (fl162 X.2.2.2.2.1) hH hY rfl (z4 0 (by decide)) hd kk
  · exact y_getf X (fl163 X.2.2.2.2.1) hH hY rfl (z4 0 (by decide)) hd kk
  · exact y_getf X (fl164 X.2.2.2.2.1) hH hY rfl (z4 0 (by decide)) hd kk
  · exact y_getf X (fl165 X.2.2.2.2.1) hH hY rfl (z4 0 (by decide)) hd kk
theorem gst_Land_147 {p : Program} {l : Launch} {e : Env} {R : Room} {s : State} {m : MethodId} {args : Array Value} {below : List Frame} {meth : Method} {c : Code} {Q : State → Prop} {D : va_G} {U : State} {cc : ByteArray} {nL : Nat} {Y : xY} {H : Heap} {locs : List Loc} {cells slots pc : Nat} {ls : Array Slot} {rest : List Value} {sn q : Nat} {f : Nat → Int32} (X : x_cx p s m args c D U cc nL vwCl x_Tb x_Nb "TwinFires$Land") (hst : z_st D Y sn H f q) (hH : x_H D x_G x_Zs U Y H) (hd : decode cc pc = .ok (.getfield 147, 3)) (kk : W p l e R s m args below meth c H locs cells slots Q (F0 m (pc + 3) ls (.int (f (q + 1)) :: rest))) : W p l e R s m args below meth c H locs cells slots Q (F0 m pc ls (.ref sn :: rest)) := by
  obtain ⟨z, hz, hY, -, z4⟩ := hst
  simp only [z_Kd, List.mem_cons, List.not_mem_nil, or_false] at hz
  rcases hz with rfl | rfl | rfl | rfl | rfl | rfl
  · exact y_getf X (fl166 X.2.2.2.2.1) hH hY rfl (z4 1 (by decide)) hd kk
  · exact y_getf X (fl167 X.2.2.2.2.1) hH hY rfl (z4 1 (by decide)) hd kk
  · exact y_getf X (fl168 X.2.2.2.2.1) hH hY rfl (z4 1 (by decide)) hd kk
  · exact y_getf X (fl169 X.2.2.2.2.1) hH hY rfl (z4 1 (by decide)) hd kk
  · exact y_getf X (fl170 X.2.2.2.2.1) hH hY rfl (z4 1 (by decide)) hd kk
  · exact y_getf X (fl171 X.2.2.2.2.1) hH hY rfl (z4 1 (by decide)) hd kk
theorem gst_Land_149 {p : Program} {l : Launch} {e : Env} {R : Room} {s : State} {m : MethodId} {args : Array Value} {below : List Frame} {meth : Method} {c : Code} {Q : State → Prop} {D : va_G} {U : State} {cc : ByteArray} {nL : Nat} {Y : xY} {H : Heap} {locs : List Loc} {cells slots pc : Nat} {ls : Array Slot} {rest : List Value} {sn q : Nat} {f : Nat → Int32} (X : x_cx p s m args c D U cc nL vwCl x_Tb x_Nb "TwinFires$Land") (hst : z_st D Y sn H f q) (hH : x_H D x_G x_Zs U Y H) (hd : decode cc pc = .ok (.getfield 149, 3)) (kk : W p l e R s m args below meth c H locs cells slots Q (F0 m (pc + 3) ls (.int (f (q + 2)) :: rest))) : W p l e R s m args below meth c H locs cells slots Q (F0 m pc ls (.ref sn :: rest)) := by
  obtain ⟨z, hz, hY, -, z4⟩ := hst
  simp only [z_Kd, List.mem_cons, List.not_mem_nil, or_false] at hz
  rcases hz with rfl | rfl | rfl | rfl | rfl | rfl
  · exact y_getf X (fl172 X.2.2.2.2.1) hH hY rfl (z4 2 (by decide)) hd kk
  · exact y_getf X (fl173 X.2.2.2.2.1) hH hY rfl (z4 2 (by decide)) hd kk
  · exact y_getf X (fl174 X.2.2.2.2.1) hH hY rfl (z4 2 (by decide)) hd kk
  · exact y_getf X (fl175 X.2.2.2.2.1) hH hY rfl (z4 2 (by decide)) hd kk
  · exact y_getf X (fl176 X.2.2.2.2.1) hH hY rfl (z4 2 (by decide)) hd kk
  · exact y_getf X (fl177 X.2.2.2.2.1) hH hY rfl (z4 2 (by decide)) hd kk
theorem gst_Land_151 {p : Program} {l : Launch} {e : Env} {R : Room} {s : State} {m : MethodId} {args : Array Value} {below : List Frame} {meth : Method} {c : Code} {Q : State → Prop} {D : va_G} {U : State} {cc : ByteArray} {nL : Nat} {Y : xY} {H : Heap} {locs : List Loc} {cells slots pc : Nat} {ls : Array Slot} {rest : List Value} {sn q : Nat} {f : Nat → Int32} (X : x_cx p s m args c D U cc nL vwCl x_Tb x_Nb "TwinFires$Land") (hst : z_st D Y sn H f q) (hH : x_H D x_G x_Zs U Y H) (hd : decode cc pc = .ok (.getfield 151, 3)) (kk : W p l e R s m args below meth c H locs cells slots Q (F0 m (pc + 3) ls (.int (f (q + 3)) :: rest))) : W p l e R s m args below meth c H locs cells slots Q (F0 m pc ls (.ref sn :: rest)) := by
  obtain ⟨z, hz, hY, -, z4⟩ := hst
  simp only [z_Kd, List.mem_cons, List.not_mem_nil, or_false] at hz
  rcases hz with rfl | rfl | rfl | rfl | rfl | rfl
  · exact y_getf X (fl178 X.2.2.2.2.1) hH hY rfl (z4 3 (by decide)) hd kk
  · exact y_getf X (fl179 X.2.2.2.2.1) hH hY rfl (z4 3 (by decide)) hd kk
  · exact y_getf X (fl180 X.2.2.2.2.1) hH hY rfl (z4 3 (by decide)) hd kk
  · exact y_getf X (fl181 X.2.2.2.2.1) hH hY rfl (z4 3 (by decide)) hd kk
  · exact y_getf X (fl182 X.2.2.2.2.1) hH hY rfl (z4 3 (by decide)) hd kk
  · exact y_getf X (fl183 X.2.2.2.2.1) hH hY rfl (z4 3 (by decide)) hd kk
theorem gst_Land_154 {p : Program} {l : Launch} {e : Env} {R : Room} {s : State} {m : MethodId} {args : Array Value} {below : List Frame} {meth : Method} {c : Code} {Q : State → Prop} {D : va_G} {U : State} {cc : ByteArray} {nL : Nat} {Y : xY} {H : Heap} {locs : List Loc} {cells slots pc : Nat} {ls : Array Slot} {rest : List Value} {sn q : Nat} {f : Nat → Int32} (X : x_cx p s m args c D U cc nL vwCl x_Tb x_Nb "TwinFires$Land") (hst : z_st D Y sn H f q) (hH : x_H D x_G x_Zs U Y H) (hd : decode cc pc = .ok (.getfield 154, 3)) (kk : W p l e R s m args below meth c H locs cells slots Q (F0 m (pc + 3) ls (.int (f (q + 4)) :: rest))) : W p l e R s m args below meth c H locs cells slots Q (F0 m pc ls (.ref sn :: rest)) := by
  obtain ⟨z, hz, hY, -, z4⟩ := hst
  simp only [z_Kd, List.mem_cons, List.not_mem_nil, or_false] at hz
  rcases hz with rfl | rfl | rfl | rfl | rfl | rfl
  · exact y_getf X (fl184 X.2.2.2.2.1) hH hY rfl (z4 4 (by decide)) hd kk
  · exact y_getf X (fl185 X.2.2.2.2.1) hH hY rfl (z4 4 (by decide)) hd kk
  · exact y_getf X (fl186 X.2.2.2.2.1) hH hY rfl (z4 4 (by decide)) hd kk
  · exact y_getf X (fl187 X.2.2.2.2.1) hH hY rfl (z4 4 (by decide)) hd kk
  · exact y_getf X (fl188 X.2.2.2.2.1) hH hY rfl (z4 4 (by decide)) hd kk
  · exact y_getf X (fl189 X.2.2.2.2.1) hH hY rfl (z4 4 (by decide)) hd kk
theorem dtq_d0 : decode xM137.2.1 0 = .ok (.lload_n 1, 1) := dz_ok (by decide +kernel)
theorem dtq_d1 : decode xM137.2.1 1 = .ok (.lstore_n 3, 1) := dz_ok (by decide +kernel)
theorem dtq_d2 : decode xM137.2.1 2 = .ok (.iconst 0, 1) := dz_ok (by decide +kernel)
theorem dtq_d3 : decode xM137.2.1 3 = .ok (.istore 5, 2) := dz_ok (by decide +kernel)
theorem dtq_d5 : decode xM137.2.1 5 = .ok (.iload 5, 2) := dz_ok (by decide +kernel)
theorem dtq_d7 : decode xM137.2.1 7 = .ok (.aload_n 0, 1) := dz_ok (by decide +kernel)
theorem dtq_d8 : decode xM137.2.1 8 = .ok (.getfield 73, 3) := dz_ok (by decide +kernel)
theorem dtq_d11 : decode xM137.2.1 11 = .ok (.if_icmp .ge 99, 3) := dz_ok (by decide +kernel)
theorem dtq_d14 : decode xM137.2.1 14 = .ok (.aload_n 0, 1) := dz_ok (by decide +kernel)
theorem dtq_d15 : decode xM137.2.1 15 = .ok (.getfield 29, 3) := dz_ok (by decide +kernel)
theorem dtq_d18 : decode xM137.2.1 18 = .ok (.iload 5, 2) := dz_ok (by decide +kernel)
theorem dtq_d20 : decode xM137.2.1 20 = .ok (.aaload, 1) := dz_ok (by decide +kernel)
theorem dtq_d21 : decode xM137.2.1 21 = .ok (.astore 6, 2) := dz_ok (by decide +kernel)
theorem dtq_d23 : decode xM137.2.1 23 = .ok (.lload_n 3, 1) := dz_ok (by decide +kernel)
theorem dtq_d24 : decode xM137.2.1 24 = .ok (.aload 6, 2) := dz_ok (by decide +kernel)
theorem dtq_d26 : decode xM137.2.1 26 = .ok (.getfield 144, 3) := dz_ok (by decide +kernel)
theorem dtq_d29 : decode xM137.2.1 29 = .ok (.i2l, 1) := dz_ok (by decide +kernel)
theorem dtq_d30 : decode xM137.2.1 30 = .ok (.invokestatic 140, 3) := dz_ok (by decide +kernel)
theorem dtq_d33 : decode xM137.2.1 33 = .ok (.lstore_n 3, 1) := dz_ok (by decide +kernel)
theorem dtq_d34 : decode xM137.2.1 34 = .ok (.lload_n 3, 1) := dz_ok (by decide +kernel)
theorem dtq_d35 : decode xM137.2.1 35 = .ok (.aload 6, 2) := dz_ok (by decide +kernel)
theorem dtq_d37 : decode xM137.2.1 37 = .ok (.getfield 147, 3) := dz_ok (by decide +kernel)
theorem dtq_d40 : decode xM137.2.1 40 = .ok (.i2l, 1) := dz_ok (by decide +kernel)
theorem dtq_d41 : decode xM137.2.1 41 = .ok (.invokestatic 140, 3) := dz_ok (by decide +kernel)
theorem dtq_d44 : decode xM137.2.1 44 = .ok (.lstore_n 3, 1) := dz_ok (by decide +kernel)
theorem dtq_d45 : decode xM137.2.1 45 = .ok (.lload_n 3, 1) := dz_ok (by decide +kernel)
theorem dtq_d46 : decode xM137.2.1 46 = .ok (.aload 6, 2) := dz_ok (by decide +kernel)
theorem dtq_d48 : decode xM137.2.1 48 = .ok (.getfield 149, 3) := dz_ok (by decide +kernel)
theorem dtq_d51 : decode xM137.2.1 51 = .ok (.i2l, 1) := dz_ok (by decide +kernel)
theorem dtq_d52 : decode xM137.2.1 52 = .ok (.invokestatic 140, 3) := dz_ok (by decide +kernel)
theorem dtq_d55 : decode xM137.2.1 55 = .ok (.lstore_n 3, 1) := dz_ok (by decide +kernel)
theorem dtq_d56 : decode xM137.2.1 56 = .ok (.lload_n 3, 1) := dz_ok (by decide +kernel)
theorem dtq_d57 : decode xM137.2.1 57 = .ok (.aload 6, 2) := dz_ok (by decide +kernel)
theorem dtq_d59 : decode xM137.2.1 59 = .ok (.getfield 151, 3) := dz_ok (by decide +kernel)
theorem dtq_d62 : decode xM137.2.1 62 = .ok (.i2l, 1) := dz_ok (by decide +kernel)
theorem dtq_d63 : decode xM137.2.1 63 = .ok (.invokestatic 140, 3) := dz_ok (by decide +kernel)
theorem dtq_d66 : decode xM137.2.1 66 = .ok (.lstore_n 3, 1) := dz_ok (by decide +kernel)
theorem dtq_d67 : decode xM137.2.1 67 = .ok (.lload_n 3, 1) := dz_ok (by decide +kernel)
theorem dtq_d68 : decode xM137.2.1 68 = .ok (.aload 6, 2) := dz_ok (by decide +kernel)
theorem dtq_d70 : decode xM137.2.1 70 = .ok (.getfield 154, 3) := dz_ok (by decide +kernel)
theorem dtq_d73 : decode xM137.2.1 73 = .ok (.i2l, 1) := dz_ok (by decide +kernel)
theorem dtq_d74 : decode xM137.2.1 74 = .ok (.invokestatic 140, 3) := dz_ok (by decide +kernel)
theorem dtq_d77 : decode xM137.2.1 77 = .ok (.lstore_n 3, 1) := dz_ok (by decide +kernel)
theorem dtq_d78 : decode xM137.2.1 78 = .ok (.lload_n 3, 1) := dz_ok (by decide +kernel)
theorem dtq_d79 : decode xM137.2.1 79 = .ok (.aload_n 0, 1) := dz_ok (by decide +kernel)
theorem dtq_d80 : decode xM137.2.1 80 = .ok (.getfield 33, 3) := dz_ok (by decide +kernel)
theorem dtq_d83 : decode xM137.2.1 83 = .ok (.iload 5, 2) := dz_ok (by decide +kernel)
theorem dtq_d85 : decode xM137.2.1 85 = .ok (.iaload, 1) := dz_ok (by decide +kernel)
theorem dtq_d86 : decode xM137.2.1 86 = .ok (.i2l, 1) := dz_ok (by decide +kernel)
theorem dtq_d87 : decode xM137.2.1 87 = .ok (.invokestatic 140, 3) := dz_ok (by decide +kernel)
theorem dtq_d90 : decode xM137.2.1 90 = .ok (.lstore_n 3, 1) := dz_ok (by decide +kernel)
theorem dtq_d91 : decode xM137.2.1 91 = .ok (.lload_n 3, 1) := dz_ok (by decide +kernel)
theorem dtq_d92 : decode xM137.2.1 92 = .ok (.aload_n 0, 1) := dz_ok (by decide +kernel)
theorem dtq_d93 : decode xM137.2.1 93 = .ok (.getfield 36, 3) := dz_ok (by decide +kernel)
theorem dtq_d96 : decode xM137.2.1 96 = .ok (.iload 5, 2) := dz_ok (by decide +kernel)
theorem dtq_d98 : decode xM137.2.1 98 = .ok (.iaload, 1) := dz_ok (by decide +kernel)
theorem dtq_d99 : decode xM137.2.1 99 = .ok (.i2l, 1) := dz_ok (by decide +kernel)
theorem dtq_d100 : decode xM137.2.1 100 = .ok (.invokestatic 140, 3) := dz_ok (by decide +kernel)
theorem dtq_d103 : decode xM137.2.1 103 = .ok (.lstore_n 3, 1) := dz_ok (by decide +kernel)
theorem dtq_d104 : decode xM137.2.1 104 = .ok (.iinc 5 1, 3) := dz_ok (by decide +kernel)
theorem dtq_d107 : decode xM137.2.1 107 = .ok (.goto (-102), 3) := dz_ok (by decide +kernel)
theorem dtq_d110 : decode xM137.2.1 110 = .ok (.lload_n 3, 1) := dz_ok (by decide +kernel)
theorem dtq_d111 : decode xM137.2.1 111 = .ok (.lreturn, 1) := dz_ok (by decide +kernel)
theorem dtq_L5 {p : Program} {l : Launch} {e : Env} {s : State} {m : MethodId} {below : List Frame} {meth : Method} {c : Code} {D : va_G} {U : State} {Y0 : xY} {av : List Value} (B : y_B vwCl x_Tb x_Nb xM137 p s m meth c D U Y0 av) {this adone acost astones : Nat} {h : Int64} {f : Nat → Int32} (hav : av = [.ref this, .long h]) (hL0 : z_L D Y0 this s.heap f) (hb0 : 0 ≤ (f 0).toInt ∧ (f 0).toInt ≤ 10) (hb1 : 0 ≤ (f 1).toInt ∧ (f 1).toInt ≤ 8) (hb2 : 0 ≤ (f 2).toInt ∧ (f 2).toInt ≤ 8)  :
    ∀ (n : Nat), ∀ (H : Heap) (Y : xY) (locs : List Loc) (ls : Array Slot) (k : Int32) (x : Int64), x_I D x_G x_Zs U (x_efs xM137) Y0 s.heap Y H locs → Y this = some 2 → Y adone = some 25 → Y acost = some 26 → Y astones = some 24 → x_sl D 2 8 this H = some (.ref adone) → x_sl D 2 9 this H = some (.ref acost) → x_sl D 2 7 this H = some (.ref astones) → x_sl D 2 6 this H = some (.int (f 1)) → y_A adone 8 H (fun j => f (65 + 7 * j)) → y_A acost 8 H (fun j => f (66 + 7 * j)) → z_L D Y this H f → lv_has ls xM137.2.2.1 [(5, .int k), (3, .long x), (0, .ref this), (1, .long h)] → (0 ≤ k.toInt ∧ k.toInt ≤ (f 1).toInt) → (x = m_mxs f 60 h (7 * k.toInt.toNat)) → (9 - k.toInt).toNat < n → W p l e (x_rm xM137) s m av.toArray below meth c H locs 0 0 (y_QQ below D x_G x_Zs U xM137 z_Pdt av Y0 s) (F0 m 5 ls []) := by
  have X := B.1
  have hx := X.1
  have hb := X.2.1
  have hY0 := B.2.2.2.2.1
  intro n
  induction n with
  | zero => intro _ _ _ _ _ _ _ _ _ _ _ _ _ _ _ _ _ _ _ _ _ h; exact absurd h (Nat.not_lt_zero _)
  | succ n ih =>
    intro H Y locs ls k x  hI hY_this hY_adone hY_acost hY_astones hs_adone hs_acost hs_astones hsi_things hA_adone hA_acost hL hl hk hx9 hn
    refine lv_iload hx hb dtq_d5 (lv_at hl 0 rfl) ?_
    refine lv_aload_n hx hb dtq_d7 rfl (lv_at hl 2 rfl) ?_
    refine y_getf X (fl42 X.2.2.2.2.1) hI.1 hY_this rfl hsi_things dtq_d8 ?_
    refine lv_icmp_ge hx hb dtq_d11 (tgt := 110) (by decide) (fun q11 => ?_) (fun q11 => ?_)
    · have q11_ : (f 1).toInt ≤ k.toInt := x_le32.mp q11
      refine lv_lload_n hx hb dtq_d110 rfl (lv_at hl 1 rfl) ?_
      subst hav
      exact y_lreturn B hI rfl rfl List.mem_cons_self ⟨_, rfl, ⟨_, rfl, x_i64 _⟩⟩ (x_cs.mono B.2.2.2.2.2 (y_mon B hI)) (fun t' h' f' h1 h2 => by cases h1; cases h2.uniq hL0; refine congrArg (fun x => some (Value.long x)) ?_; rw [hx9, show k.toInt.toNat = (f 1).toInt.toNat by omega]) (Nat.le_refl _) (Nat.le_refl _) dtq_d111
    · have q11_ : k.toInt < (f 1).toInt := Int.not_le.mp fun q => q11 (x_le32.mpr q)
      refine lv_aload_n hx hb dtq_d14 rfl (lv_at hl 2 rfl) ?_
      refine y_getf X (fl39 X.2.2.2.2.1) hI.1 hY_this rfl hs_astones dtq_d15 ?_
      refine lv_iload hx hb dtq_d18 (lv_at hl 0 rfl) ?_
      obtain ⟨as9, e1, -, h3⟩ := hL.2.2.1
      cases e1.symm.trans hs_astones
      obtain ⟨sn, hat9, hst9⟩ := h3 k.toInt.toNat (by omega)
      refine y_aald X hI.1 hY_astones rfl (by omega) (by show _ < (8 : Int); omega) hat9 dtq_d20 ?_
      clear hat9 h3 e1
      refine lv_astore hx hb dtq_d21 hl (by decide) (lv' := [(6, .ref sn), (5, .int k), (3, .long x), (0, .ref this), (1, .long h)]) rfl fun ls hl => ?_
      refine lv_lload_n hx hb dtq_d23 rfl (lv_at hl 2 rfl) ?_
      refine lv_aload hx hb dtq_d24 (lv_at hl 0 rfl) ?_
      refine gst_Land_144 X hst9 hI.1 dtq_d26 ?_
      obtain ⟨e26, hg_e26⟩ : ∃ e26 : Int32, f (60 + 7 * k.toInt.toNat + 0) = e26 := ⟨_, rfl⟩
      rw [hg_e26]
      obtain ⟨z29, hg_z29⟩ : ∃ z29 : Int64, e26.toInt64 = z29 := ⟨_, rfl⟩
      have h_z29 : z29.toInt = (e26).toInt := by rw [← hg_z29]; exact Int32.toInt_toInt64 _
      refine lv_i2l hx hb dtq_d29 (v := z29) hg_z29 ?_
      refine y_call (z := (1, 140, 2, none, xM135)) (av := [.long x, .long z29]) (rest := []) (y_cokSN (n := 2) (host := "TwinFires") X ym_mixed (x_cons (x_bw60 9 rfl rfl) (x_cons (x_bw0 1 rfl rfl) x_nilm)) (x_bn61 0 rfl rfl) (x_bw60 10 rfl rfl) (by decide +kernel) ⟨Nat.le_of_ble_eq_true rfl, Nat.le_of_ble_eq_true rfl⟩) hY0 hI rfl dtq_d30 hl.1 (Nat.le_of_ble_eq_true rfl) (Nat.le_of_ble_eq_true rfl) (Nat.le_of_ble_eq_true rfl) (y_cons ⟨_, rfl, x_i64 _⟩ (y_cons ⟨_, rfl, x_i64 _⟩ y_nil)) rfl (y_norecv rfl) trivial (y_sub_ef rfl) fun v Yn o Hn L ho hr ha hIn hx_ hE hP => ?_
      replace hs_adone := y_Efld hE hY_this rfl (by decide) (by decide) hs_adone
      replace hs_acost := y_Efld hE hY_this rfl (by decide) (by decide) hs_acost
      replace hs_astones := y_Efld hE hY_this rfl (by decide) (by decide) hs_astones
      replace hsi_things := y_Efld hE hY_this rfl (by decide) (by decide) hsi_things
      replace hA_adone := hA_adone.kept (y_Earr hE hY_adone rfl (by decide))
      replace hA_acost := hA_acost.kept (y_Earr hE hY_acost rfl (by decide))
      replace hL := hL.E hY_this hE (fun q u h => y_ext hx_ hI.1 h) (by decide +kernel)
      replace hst9 := hst9.E hE (fun q u h => y_ext hx_ hI.1 h) (by decide +kernel)
      replace hY_this := y_ext hx_ hI.1 hY_this
      replace hY_adone := y_ext hx_ hI.1 hY_adone
      replace hY_acost := y_ext hx_ hI.1 hY_acost
      replace hY_astones := y_ext hx_ hI.1 hY_astones
      obtain rfl := hP _ _ rfl
      generalize hg_r30 : 31 * x + z29 = r30
      clear ho hr ha hE hP hI hx_
      rename x_I _ _ _ _ _ _ _ _ _ _ => hI
      refine lv_lstore_n hx hb dtq_d33 rfl hl (by decide) (lv' := [(3, .long r30), (6, .ref sn), (5, .int k), (0, .ref this), (1, .long h)]) rfl fun ls hl => ?_
      refine lv_lload_n hx hb dtq_d34 rfl (lv_at hl 0 rfl) ?_
      refine lv_aload hx hb dtq_d35 (lv_at hl 1 rfl) ?_
      refine gst_Land_147 X hst9 hI.1 dtq_d37 ?_
      obtain ⟨e37, hg_e37⟩ : ∃ e37 : Int32, f (60 + 7 * k.toInt.toNat + 1) = e37 := ⟨_, rfl⟩
      rw [hg_e37]
      obtain ⟨z40, hg_z40⟩ : ∃ z40 : Int64, e37.toInt64 = z40 := ⟨_, rfl⟩
      have h_z40 : z40.toInt = (e37).toInt := by rw [← hg_z40]; exact Int32.toInt_toInt64 _
      refine lv_i2l hx hb dtq_d40 (v := z40) hg_z40 ?_
      refine y_call (z := (1, 140, 2, none, xM135)) (av := [.long r30, .long z40]) (rest := []) (y_cokSN (n := 2) (host := "TwinFires") X ym_mixed (x_cons (x_bw60 9 rfl rfl) (x_cons (x_bw0 1 rfl rfl) x_nilm)) (x_bn61 0 rfl rfl) (x_bw60 10 rfl rfl) (by decide +kernel) ⟨Nat.le_of_ble_eq_true rfl, Nat.le_of_ble_eq_true rfl⟩) hY0 hI rfl dtq_d41 hl.1 (Nat.le_of_ble_eq_true rfl) (Nat.le_of_ble_eq_true rfl) (Nat.le_of_ble_eq_true rfl) (y_cons ⟨_, rfl, x_i64 _⟩ (y_cons ⟨_, rfl, x_i64 _⟩ y_nil)) rfl (y_norecv rfl) trivial (y_sub_ef rfl) fun v Yn o Hn L ho hr ha hIn hx_ hE hP => ?_
      replace hs_adone := y_Efld hE hY_this rfl (by decide) (by decide) hs_adone
      replace hs_acost := y_Efld hE hY_this rfl (by decide) (by decide) hs_acost
      replace hs_astones := y_Efld hE hY_this rfl (by decide) (by decide) hs_astones
      replace hsi_things := y_Efld hE hY_this rfl (by decide) (by decide) hsi_things
      replace hA_adone := hA_adone.kept (y_Earr hE hY_adone rfl (by decide))
      replace hA_acost := hA_acost.kept (y_Earr hE hY_acost rfl (by decide))
      replace hL := hL.E hY_this hE (fun q u h => y_ext hx_ hI.1 h) (by decide +kernel)
      replace hst9 := hst9.E hE (fun q u h => y_ext hx_ hI.1 h) (by decide +kernel)
      replace hY_this := y_ext hx_ hI.1 hY_this
      replace hY_adone := y_ext hx_ hI.1 hY_adone
      replace hY_acost := y_ext hx_ hI.1 hY_acost
      replace hY_astones := y_ext hx_ hI.1 hY_astones
      obtain rfl := hP _ _ rfl
      generalize hg_r41 : 31 * r30 + z40 = r41
      clear ho hr ha hE hP hI hx_
      rename x_I _ _ _ _ _ _ _ _ _ _ => hI
      refine lv_lstore_n hx hb dtq_d44 rfl hl (by decide) (lv' := [(3, .long r41), (6, .ref sn), (5, .int k), (0, .ref this), (1, .long h)]) rfl fun ls hl => ?_
      refine lv_lload_n hx hb dtq_d45 rfl (lv_at hl 0 rfl) ?_
      refine lv_aload hx hb dtq_d46 (lv_at hl 1 rfl) ?_
      refine gst_Land_149 X hst9 hI.1 dtq_d48 ?_
      obtain ⟨e48, hg_e48⟩ : ∃ e48 : Int32, f (60 + 7 * k.toInt.toNat + 2) = e48 := ⟨_, rfl⟩
      rw [hg_e48]
      obtain ⟨z51, hg_z51⟩ : ∃ z51 : Int64, e48.toInt64 = z51 := ⟨_, rfl⟩
      have h_z51 : z51.toInt = (e48).toInt := by rw [← hg_z51]; exact Int32.toInt_toInt64 _
      refine lv_i2l hx hb dtq_d51 (v := z51) hg_z51 ?_
      refine y_call (z := (1, 140, 2, none, xM135)) (av := [.long r41, .long z51]) (rest := []) (y_cokSN (n := 2) (host := "TwinFires") X ym_mixed (x_cons (x_bw60 9 rfl rfl) (x_cons (x_bw0 1 rfl rfl) x_nilm)) (x_bn61 0 rfl rfl) (x_bw60 10 rfl rfl) (by decide +kernel) ⟨Nat.le_of_ble_eq_true rfl, Nat.le_of_ble_eq_true rfl⟩) hY0 hI rfl dtq_d52 hl.1 (Nat.le_of_ble_eq_true rfl) (Nat.le_of_ble_eq_true rfl) (Nat.le_of_ble_eq_true rfl) (y_cons ⟨_, rfl, x_i64 _⟩ (y_cons ⟨_, rfl, x_i64 _⟩ y_nil)) rfl (y_norecv rfl) trivial (y_sub_ef rfl) fun v Yn o Hn L ho hr ha hIn hx_ hE hP => ?_
      replace hs_adone := y_Efld hE hY_this rfl (by decide) (by decide) hs_adone
      replace hs_acost := y_Efld hE hY_this rfl (by decide) (by decide) hs_acost
      replace hs_astones := y_Efld hE hY_this rfl (by decide) (by decide) hs_astones
      replace hsi_things := y_Efld hE hY_this rfl (by decide) (by decide) hsi_things
      replace hA_adone := hA_adone.kept (y_Earr hE hY_adone rfl (by decide))
      replace hA_acost := hA_acost.kept (y_Earr hE hY_acost rfl (by decide))
      replace hL := hL.E hY_this hE (fun q u h => y_ext hx_ hI.1 h) (by decide +kernel)
      replace hst9 := hst9.E hE (fun q u h => y_ext hx_ hI.1 h) (by decide +kernel)
      replace hY_this := y_ext hx_ hI.1 hY_this
      replace hY_adone := y_ext hx_ hI.1 hY_adone
      replace hY_acost := y_ext hx_ hI.1 hY_acost
      replace hY_astones := y_ext hx_ hI.1 hY_astones
      obtain rfl := hP _ _ rfl
      generalize hg_r52 : 31 * r41 + z51 = r52
      clear ho hr ha hE hP hI hx_
      rename x_I _ _ _ _ _ _ _ _ _ _ => hI
      refine lv_lstore_n hx hb dtq_d55 rfl hl (by decide) (lv' := [(3, .long r52), (6, .ref sn), (5, .int k), (0, .ref this), (1, .long h)]) rfl fun ls hl => ?_
      refine lv_lload_n hx hb dtq_d56 rfl (lv_at hl 0 rfl) ?_
      refine lv_aload hx hb dtq_d57 (lv_at hl 1 rfl) ?_
      refine gst_Land_151 X hst9 hI.1 dtq_d59 ?_
      obtain ⟨e59, hg_e59⟩ : ∃ e59 : Int32, f (60 + 7 * k.toInt.toNat + 3) = e59 := ⟨_, rfl⟩
      rw [hg_e59]
      obtain ⟨z62, hg_z62⟩ : ∃ z62 : Int64, e59.toInt64 = z62 := ⟨_, rfl⟩
      have h_z62 : z62.toInt = (e59).toInt := by rw [← hg_z62]; exact Int32.toInt_toInt64 _
      refine lv_i2l hx hb dtq_d62 (v := z62) hg_z62 ?_
      refine y_call (z := (1, 140, 2, none, xM135)) (av := [.long r52, .long z62]) (rest := []) (y_cokSN (n := 2) (host := "TwinFires") X ym_mixed (x_cons (x_bw60 9 rfl rfl) (x_cons (x_bw0 1 rfl rfl) x_nilm)) (x_bn61 0 rfl rfl) (x_bw60 10 rfl rfl) (by decide +kernel) ⟨Nat.le_of_ble_eq_true rfl, Nat.le_of_ble_eq_true rfl⟩) hY0 hI rfl dtq_d63 hl.1 (Nat.le_of_ble_eq_true rfl) (Nat.le_of_ble_eq_true rfl) (Nat.le_of_ble_eq_true rfl) (y_cons ⟨_, rfl, x_i64 _⟩ (y_cons ⟨_, rfl, x_i64 _⟩ y_nil)) rfl (y_norecv rfl) trivial (y_sub_ef rfl) fun v Yn o Hn L ho hr ha hIn hx_ hE hP => ?_
      replace hs_adone := y_Efld hE hY_this rfl (by decide) (by decide) hs_adone
      replace hs_acost := y_Efld hE hY_this rfl (by decide) (by decide) hs_acost
      replace hs_astones := y_Efld hE hY_this rfl (by decide) (by decide) hs_astones
      replace hsi_things := y_Efld hE hY_this rfl (by decide) (by decide) hsi_things
      replace hA_adone := hA_adone.kept (y_Earr hE hY_adone rfl (by decide))
      replace hA_acost := hA_acost.kept (y_Earr hE hY_acost rfl (by decide))
      replace hL := hL.E hY_this hE (fun q u h => y_ext hx_ hI.1 h) (by decide +kernel)
      replace hst9 := hst9.E hE (fun q u h => y_ext hx_ hI.1 h) (by decide +kernel)
      replace hY_this := y_ext hx_ hI.1 hY_this
      replace hY_adone := y_ext hx_ hI.1 hY_adone
      replace hY_acost := y_ext hx_ hI.1 hY_acost
      replace hY_astones := y_ext hx_ hI.1 hY_astones
      obtain rfl := hP _ _ rfl
      generalize hg_r63 : 31 * r52 + z62 = r63
      clear ho hr ha hE hP hI hx_
      rename x_I _ _ _ _ _ _ _ _ _ _ => hI
      refine lv_lstore_n hx hb dtq_d66 rfl hl (by decide) (lv' := [(3, .long r63), (6, .ref sn), (5, .int k), (0, .ref this), (1, .long h)]) rfl fun ls hl => ?_
      refine lv_lload_n hx hb dtq_d67 rfl (lv_at hl 0 rfl) ?_
      refine lv_aload hx hb dtq_d68 (lv_at hl 1 rfl) ?_
      refine gst_Land_154 X hst9 hI.1 dtq_d70 ?_
      obtain ⟨e70, hg_e70⟩ : ∃ e70 : Int32, f (60 + 7 * k.toInt.toNat + 4) = e70 := ⟨_, rfl⟩
      rw [hg_e70]
      obtain ⟨z73, hg_z73⟩ : ∃ z73 : Int64, e70.toInt64 = z73 := ⟨_, rfl⟩
      have h_z73 : z73.toInt = (e70).toInt := by rw [← hg_z73]; exact Int32.toInt_toInt64 _
      refine lv_i2l hx hb dtq_d73 (v := z73) hg_z73 ?_
      refine y_call (z := (1, 140, 2, none, xM135)) (av := [.long r63, .long z73]) (rest := []) (y_cokSN (n := 2) (host := "TwinFires") X ym_mixed (x_cons (x_bw60 9 rfl rfl) (x_cons (x_bw0 1 rfl rfl) x_nilm)) (x_bn61 0 rfl rfl) (x_bw60 10 rfl rfl) (by decide +kernel) ⟨Nat.le_of_ble_eq_true rfl, Nat.le_of_ble_eq_true rfl⟩) hY0 hI rfl dtq_d74 hl.1 (Nat.le_of_ble_eq_true rfl) (Nat.le_of_ble_eq_true rfl) (Nat.le_of_ble_eq_true rfl) (y_cons ⟨_, rfl, x_i64 _⟩ (y_cons ⟨_, rfl, x_i64 _⟩ y_nil)) rfl (y_norecv rfl) trivial (y_sub_ef rfl) fun v Yn o Hn L ho hr ha hIn hx_ hE hP => ?_
      replace hs_adone := y_Efld hE hY_this rfl (by decide) (by decide) hs_adone
      replace hs_acost := y_Efld hE hY_this rfl (by decide) (by decide) hs_acost
      replace hs_astones := y_Efld hE hY_this rfl (by decide) (by decide) hs_astones
      replace hsi_things := y_Efld hE hY_this rfl (by decide) (by decide) hsi_things
      replace hA_adone := hA_adone.kept (y_Earr hE hY_adone rfl (by decide))
      replace hA_acost := hA_acost.kept (y_Earr hE hY_acost rfl (by decide))
      replace hL := hL.E hY_this hE (fun q u h => y_ext hx_ hI.1 h) (by decide +kernel)
      replace hst9 := hst9.E hE (fun q u h => y_ext hx_ hI.1 h) (by decide +kernel)
      replace hY_this := y_ext hx_ hI.1 hY_this
      replace hY_adone := y_ext hx_ hI.1 hY_adone
      replace hY_acost := y_ext hx_ hI.1 hY_acost
      replace hY_astones := y_ext hx_ hI.1 hY_astones
      obtain rfl := hP _ _ rfl
      generalize hg_r74 : 31 * r63 + z73 = r74
      clear ho hr ha hE hP hI hx_
      rename x_I _ _ _ _ _ _ _ _ _ _ => hI
      refine lv_lstore_n hx hb dtq_d77 rfl hl (by decide) (lv' := [(3, .long r74), (6, .ref sn), (5, .int k), (0, .ref this), (1, .long h)]) rfl fun ls hl => ?_
      refine lv_lload_n hx hb dtq_d78 rfl (lv_at hl 0 rfl) ?_
      refine lv_aload_n hx hb dtq_d79 rfl (lv_at hl 3 rfl) ?_
      refine y_getf X (fl40 X.2.2.2.2.1) hI.1 hY_this rfl hs_adone dtq_d80 ?_
      refine lv_iload hx hb dtq_d83 (lv_at hl 2 rfl) ?_
      refine y_iald X hI.1 hY_adone rfl hA_adone (by omega) (by show _ < (8 : Int); omega) dtq_d85 ?_
      obtain ⟨e85, hg_e85⟩ : ∃ e85 : Int32, f (65 + 7 * k.toInt.toNat) = e85 := ⟨_, rfl⟩
      rw [hg_e85]
      obtain ⟨z86, hg_z86⟩ : ∃ z86 : Int64, e85.toInt64 = z86 := ⟨_, rfl⟩
      have h_z86 : z86.toInt = (e85).toInt := by rw [← hg_z86]; exact Int32.toInt_toInt64 _
      refine lv_i2l hx hb dtq_d86 (v := z86) hg_z86 ?_
      refine y_call (z := (1, 140, 2, none, xM135)) (av := [.long r74, .long z86]) (rest := []) (y_cokSN (n := 2) (host := "TwinFires") X ym_mixed (x_cons (x_bw60 9 rfl rfl) (x_cons (x_bw0 1 rfl rfl) x_nilm)) (x_bn61 0 rfl rfl) (x_bw60 10 rfl rfl) (by decide +kernel) ⟨Nat.le_of_ble_eq_true rfl, Nat.le_of_ble_eq_true rfl⟩) hY0 hI rfl dtq_d87 hl.1 (Nat.le_of_ble_eq_true rfl) (Nat.le_of_ble_eq_true rfl) (Nat.le_of_ble_eq_true rfl) (y_cons ⟨_, rfl, x_i64 _⟩ (y_cons ⟨_, rfl, x_i64 _⟩ y_nil)) rfl (y_norecv rfl) trivial (y_sub_ef rfl) fun v Yn o Hn L ho hr ha hIn hx_ hE hP => ?_
      replace hs_adone := y_Efld hE hY_this rfl (by decide) (by decide) hs_adone
      replace hs_acost := y_Efld hE hY_this rfl (by decide) (by decide) hs_acost
      replace hs_astones := y_Efld hE hY_this rfl (by decide) (by decide) hs_astones
      replace hsi_things := y_Efld hE hY_this rfl (by decide) (by decide) hsi_things
      replace hA_adone := hA_adone.kept (y_Earr hE hY_adone rfl (by decide))
      replace hA_acost := hA_acost.kept (y_Earr hE hY_acost rfl (by decide))
      replace hL := hL.E hY_this hE (fun q u h => y_ext hx_ hI.1 h) (by decide +kernel)
      replace hst9 := hst9.E hE (fun q u h => y_ext hx_ hI.1 h) (by decide +kernel)
      replace hY_this := y_ext hx_ hI.1 hY_this
      replace hY_adone := y_ext hx_ hI.1 hY_adone
      replace hY_acost := y_ext hx_ hI.1 hY_acost
      replace hY_astones := y_ext hx_ hI.1 hY_astones
      obtain rfl := hP _ _ rfl
      generalize hg_r87 : 31 * r74 + z86 = r87
      clear ho hr ha hE hP hI hx_
      rename x_I _ _ _ _ _ _ _ _ _ _ => hI
      refine lv_lstore_n hx hb dtq_d90 rfl hl (by decide) (lv' := [(3, .long r87), (6, .ref sn), (5, .int k), (0, .ref this), (1, .long h)]) rfl fun ls hl => ?_
      refine lv_lload_n hx hb dtq_d91 rfl (lv_at hl 0 rfl) ?_
      refine lv_aload_n hx hb dtq_d92 rfl (lv_at hl 3 rfl) ?_
      refine y_getf X (fl41 X.2.2.2.2.1) hI.1 hY_this rfl hs_acost dtq_d93 ?_
      refine lv_iload hx hb dtq_d96 (lv_at hl 2 rfl) ?_
      refine y_iald X hI.1 hY_acost rfl hA_acost (by omega) (by show _ < (8 : Int); omega) dtq_d98 ?_
      obtain ⟨e98, hg_e98⟩ : ∃ e98 : Int32, f (66 + 7 * k.toInt.toNat) = e98 := ⟨_, rfl⟩
      rw [hg_e98]
      obtain ⟨z99, hg_z99⟩ : ∃ z99 : Int64, e98.toInt64 = z99 := ⟨_, rfl⟩
      have h_z99 : z99.toInt = (e98).toInt := by rw [← hg_z99]; exact Int32.toInt_toInt64 _
      refine lv_i2l hx hb dtq_d99 (v := z99) hg_z99 ?_
      refine y_call (z := (1, 140, 2, none, xM135)) (av := [.long r87, .long z99]) (rest := []) (y_cokSN (n := 2) (host := "TwinFires") X ym_mixed (x_cons (x_bw60 9 rfl rfl) (x_cons (x_bw0 1 rfl rfl) x_nilm)) (x_bn61 0 rfl rfl) (x_bw60 10 rfl rfl) (by decide +kernel) ⟨Nat.le_of_ble_eq_true rfl, Nat.le_of_ble_eq_true rfl⟩) hY0 hI rfl dtq_d100 hl.1 (Nat.le_of_ble_eq_true rfl) (Nat.le_of_ble_eq_true rfl) (Nat.le_of_ble_eq_true rfl) (y_cons ⟨_, rfl, x_i64 _⟩ (y_cons ⟨_, rfl, x_i64 _⟩ y_nil)) rfl (y_norecv rfl) trivial (y_sub_ef rfl) fun v Yn o Hn L ho hr ha hIn hx_ hE hP => ?_
      replace hs_adone := y_Efld hE hY_this rfl (by decide) (by decide) hs_adone
      replace hs_acost := y_Efld hE hY_this rfl (by decide) (by decide) hs_acost
      replace hs_astones := y_Efld hE hY_this rfl (by decide) (by decide) hs_astones
      replace hsi_things := y_Efld hE hY_this rfl (by decide) (by decide) hsi_things
      replace hA_adone := hA_adone.kept (y_Earr hE hY_adone rfl (by decide))
      replace hA_acost := hA_acost.kept (y_Earr hE hY_acost rfl (by decide))
      replace hL := hL.E hY_this hE (fun q u h => y_ext hx_ hI.1 h) (by decide +kernel)
      replace hst9 := hst9.E hE (fun q u h => y_ext hx_ hI.1 h) (by decide +kernel)
      replace hY_this := y_ext hx_ hI.1 hY_this
      replace hY_adone := y_ext hx_ hI.1 hY_adone
      replace hY_acost := y_ext hx_ hI.1 hY_acost
      replace hY_astones := y_ext hx_ hI.1 hY_astones
      obtain rfl := hP _ _ rfl
      generalize hg_r100 : 31 * r87 + z99 = r100
      clear ho hr ha hE hP hI hx_
      rename x_I _ _ _ _ _ _ _ _ _ _ => hI
      refine lv_lstore_n hx hb dtq_d103 rfl hl (by decide) (lv' := [(3, .long r100), (6, .ref sn), (5, .int k), (0, .ref this), (1, .long h)]) rfl fun ls hl => ?_
      obtain ⟨z104, hg_z104⟩ : ∃ z104 : Int32, k + Int32.ofInt 1 = z104 := ⟨_, rfl⟩
      have h_z104 : z104.toInt = k.toInt + 1 := by rw [← hg_z104]; exact y_inc (by decide) (by omega) (by omega)
      refine lv_iinc hx hb dtq_d104 hl (k := 2) rfl hg_z104 (by decide) (lv' := [(5, .int z104), (3, .long r100), (6, .ref sn), (0, .ref this), (1, .long h)]) rfl fun ls hl => ?_
      refine lv_goto hx hb dtq_d107 (tgt := 5) (by decide) ?_
      have his : 7 * z104.toInt.toNat = 7 * k.toInt.toNat + 1 + 1 + 1 + 1 + 1 + 1 + 1 := by omega
      have ae26 : f (60 + 7 * k.toInt.toNat) = e26 := Eq.trans (congrArg f (by omega)) hg_e26
      have ae37 : f (60 + (7 * k.toInt.toNat + 1)) = e37 := Eq.trans (congrArg f (by omega)) hg_e37
      have ae48 : f (60 + (7 * k.toInt.toNat + 2)) = e48 := Eq.trans (congrArg f (by omega)) hg_e48
      have ae59 : f (60 + (7 * k.toInt.toNat + 3)) = e59 := Eq.trans (congrArg f (by omega)) hg_e59
      have ae70 : f (60 + (7 * k.toInt.toNat + 4)) = e70 := Eq.trans (congrArg f (by omega)) hg_e70
      have ae85 : f (60 + (7 * k.toInt.toNat + 5)) = e85 := Eq.trans (congrArg f (by omega)) hg_e85
      have ae98 : f (60 + (7 * k.toInt.toNat + 6)) = e98 := Eq.trans (congrArg f (by omega)) hg_e98
      exact ih _ _ _ _ _ _ hI hY_this hY_adone hY_acost hY_astones hs_adone hs_acost hs_astones hsi_things hA_adone hA_acost hL (lv_sub hl [0, 1, 3, 4] rfl) (by first | assumption | omega) (by rw [his]; show _ = 31 * (31 * (31 * (31 * (31 * (31 * (31 * (m_mxs f 60 h (7 * k.toInt.toNat)) + (f (60 + 7 * k.toInt.toNat)).toInt64) + (f (60 + (7 * k.toInt.toNat + 1))).toInt64) + (f (60 + (7 * k.toInt.toNat + 2))).toInt64) + (f (60 + (7 * k.toInt.toNat + 3))).toInt64) + (f (60 + (7 * k.toInt.toNat + 4))).toInt64) + (f (60 + (7 * k.toInt.toNat + 5))).toInt64) + (f (60 + (7 * k.toInt.toNat + 6))).toInt64; rw [← hx9, ae26, hg_z29, hg_r30, ae37, hg_z40, hg_r41, ae48, hg_z51, hg_r52, ae59, hg_z62, hg_r63, ae70, hg_z73, hg_r74, ae85, hg_z86, hg_r87, ae98, hg_z99, hg_r100]) (by omega)
theorem ym_digT : y_Met vwCl x_G x_Zs x_Tb x_Nb xM137 z_AL z_Pdt := by
  refine y_main (by decide +kernel) (by decide +kernel) x_Tb_good x_Nb_ok ?_
  intro p l e s m below meth c D U Y0 av ls B hI hAL hl
  have X := B.1
  have hx := X.1
  have hb := X.2.1
  have hY0 := B.2.2.2.2.1
  obtain ⟨v0, v1, rfl, hv0, ⟨h, rfl, -⟩⟩ := x_two B.2.2.2.2.2
  obtain ⟨this, t0, rfl, ht0, hY_this⟩ := x_ref_at hv0 rfl
  obtain rfl := List.mem_singleton.mp ht0
  replace hl : lv_has ls xM137.2.2.1 [(0, .ref this), (1, .long h)] := hl
  obtain ⟨f, hL⟩ := hAL _ rfl
  have hL0 := hL
  have hn0 := hL.1.1
  have hn1 := hL.1.2.1
  have hn2 := hL.1.2.2
  have hb0 : 0 ≤ (f 0).toInt ∧ (f 0).toInt ≤ 10 := by obtain ⟨x9, e9, b9⟩ := y_fldI (k := 0) hI.1 hY_this rfl rfl; rw [hn0] at e9; cases e9; exact b9
  have hb1 : 0 ≤ (f 1).toInt ∧ (f 1).toInt ≤ 8 := by obtain ⟨x9, e9, b9⟩ := y_fldI (k := 6) hI.1 hY_this rfl rfl; rw [hn1] at e9; cases e9; exact b9
  have hb2 : 0 ≤ (f 2).toInt ∧ (f 2).toInt ≤ 8 := by obtain ⟨x9, e9, b9⟩ := y_fldI (k := 12) hI.1 hY_this rfl rfl; rw [hn2] at e9; cases e9; exact b9
  obtain ⟨adone, hs_adone, hY_adone, hA_adone⟩ := hL.2.1 (8, 25, 8, 65, 7) (by decide)
  replace hA_adone : y_A adone 8 s.heap (fun j => f (65 + 7 * j)) := hA_adone
  obtain ⟨acost, hs_acost, hY_acost, hA_acost⟩ := hL.2.1 (9, 26, 8, 66, 7) (by decide)
  replace hA_acost : y_A acost 8 s.heap (fun j => f (66 + 7 * j)) := hA_acost
  have hsi_things := hn1
  obtain ⟨astones, hs_astones, hY_astones, -⟩ := hL.2.2.1
  refine lv_lload_n hx hb dtq_d0 rfl (lv_at hl 1 rfl) ?_
  refine lv_lstore_n hx hb dtq_d1 rfl hl (by decide) (lv' := [(3, .long h), (0, .ref this), (1, .long h)]) rfl fun ls hl => ?_
  refine lv_iconst hx hb dtq_d2 (v := 0) (by decide) ?_
  have ec0 : (0 : Int32).toInt = 0 := by decide
  refine lv_istore hx hb dtq_d3 hl (by decide) (lv' := [(5, .int (0 : Int32)), (3, .long h), (0, .ref this), (1, .long h)]) rfl fun ls hl => ?_
  exact dtq_L5 B rfl hL0 hb0 hb1 hb2 10 _ _ _ _ _ _ hI hY_this hY_adone hY_acost hY_astones hs_adone hs_acost hs_astones hsi_things hA_adone hA_acost hL (lv_sub hl [0, 1, 2, 3] rfl) (by first | assumption | omega) (by rw [z_i0]; rfl) (by omega)
def m_tm1 (f : Nat → Int32) (h : Int64) : Int64 := m_mxs f 4 h 4
def m_tm2 (f : Nat → Int32) (h : Int64) : Int64 := m_mxs f 116 (m_tm1 f h) 12
def m_tm3 (f : Nat → Int32) (h : Int64) : Int64 := m_mxs f 128 (m_tm2 f h) (f 2).toInt.toNat
def m_tms (f : Nat → Int32) (h : Int64) : Int64 := m_mxs f 136 (m_tm3 f h) 24
def z_Pdi : yP := fun D av Y H v _ _ => ∀ (this : Nat) (h : Int64) (f : Nat → Int32), av = [.ref this, .long h] → z_L D Y this H f → v = some (.long (m_tms f h))
theorem diq_d0 : decode xM138.2.1 0 = .ok (.lload_n 1, 1) := dz_ok (by decide +kernel)
theorem diq_d1 : decode xM138.2.1 1 = .ok (.lstore_n 3, 1) := dz_ok (by decide +kernel)
theorem diq_d2 : decode xM138.2.1 2 = .ok (.iconst 0, 1) := dz_ok (by decide +kernel)
theorem diq_d3 : decode xM138.2.1 3 = .ok (.istore 5, 2) := dz_ok (by decide +kernel)
theorem diq_d5 : decode xM138.2.1 5 = .ok (.iload 5, 2) := dz_ok (by decide +kernel)
theorem diq_d7 : decode xM138.2.1 7 = .ok (.iconst 3, 1) := dz_ok (by decide +kernel)
theorem diq_d8 : decode xM138.2.1 8 = .ok (.if_icmp .gt 22, 3) := dz_ok (by decide +kernel)
theorem diq_d11 : decode xM138.2.1 11 = .ok (.lload_n 3, 1) := dz_ok (by decide +kernel)
theorem diq_d12 : decode xM138.2.1 12 = .ok (.aload_n 0, 1) := dz_ok (by decide +kernel)
theorem diq_d13 : decode xM138.2.1 13 = .ok (.getfield 39, 3) := dz_ok (by decide +kernel)
theorem diq_d16 : decode xM138.2.1 16 = .ok (.iload 5, 2) := dz_ok (by decide +kernel)
theorem diq_d18 : decode xM138.2.1 18 = .ok (.iaload, 1) := dz_ok (by decide +kernel)
theorem diq_d19 : decode xM138.2.1 19 = .ok (.i2l, 1) := dz_ok (by decide +kernel)
theorem diq_d20 : decode xM138.2.1 20 = .ok (.invokestatic 140, 3) := dz_ok (by decide +kernel)
theorem diq_d23 : decode xM138.2.1 23 = .ok (.lstore_n 3, 1) := dz_ok (by decide +kernel)
theorem diq_d24 : decode xM138.2.1 24 = .ok (.iinc 5 1, 3) := dz_ok (by decide +kernel)
theorem diq_d27 : decode xM138.2.1 27 = .ok (.goto (-22), 3) := dz_ok (by decide +kernel)
theorem diq_d30 : decode xM138.2.1 30 = .ok (.iconst 0, 1) := dz_ok (by decide +kernel)
theorem diq_d31 : decode xM138.2.1 31 = .ok (.istore 5, 2) := dz_ok (by decide +kernel)
theorem diq_d33 : decode xM138.2.1 33 = .ok (.iload 5, 2) := dz_ok (by decide +kernel)
theorem diq_d35 : decode xM138.2.1 35 = .ok (.bipush 12, 2) := dz_ok (by decide +kernel)
theorem diq_d37 : decode xM138.2.1 37 = .ok (.if_icmp .ge 22, 3) := dz_ok (by decide +kernel)
theorem diq_d40 : decode xM138.2.1 40 = .ok (.lload_n 3, 1) := dz_ok (by decide +kernel)
theorem diq_d41 : decode xM138.2.1 41 = .ok (.aload_n 0, 1) := dz_ok (by decide +kernel)
theorem diq_d42 : decode xM138.2.1 42 = .ok (.getfield 42, 3) := dz_ok (by decide +kernel)
theorem diq_d45 : decode xM138.2.1 45 = .ok (.iload 5, 2) := dz_ok (by decide +kernel)
theorem diq_d47 : decode xM138.2.1 47 = .ok (.iaload, 1) := dz_ok (by decide +kernel)
theorem diq_d48 : decode xM138.2.1 48 = .ok (.i2l, 1) := dz_ok (by decide +kernel)
theorem diq_d49 : decode xM138.2.1 49 = .ok (.invokestatic 140, 3) := dz_ok (by decide +kernel)
theorem diq_d52 : decode xM138.2.1 52 = .ok (.lstore_n 3, 1) := dz_ok (by decide +kernel)
theorem diq_d53 : decode xM138.2.1 53 = .ok (.iinc 5 1, 3) := dz_ok (by decide +kernel)
theorem diq_d56 : decode xM138.2.1 56 = .ok (.goto (-23), 3) := dz_ok (by decide +kernel)
theorem diq_d59 : decode xM138.2.1 59 = .ok (.iconst 0, 1) := dz_ok (by decide +kernel)
theorem diq_d60 : decode xM138.2.1 60 = .ok (.istore 5, 2) := dz_ok (by decide +kernel)
theorem diq_d62 : decode xM138.2.1 62 = .ok (.iload 5, 2) := dz_ok (by decide +kernel)
theorem diq_d64 : decode xM138.2.1 64 = .ok (.aload_n 0, 1) := dz_ok (by decide +kernel)
theorem diq_d65 : decode xM138.2.1 65 = .ok (.getfield 76, 3) := dz_ok (by decide +kernel)
theorem diq_d68 : decode xM138.2.1 68 = .ok (.if_icmp .ge 22, 3) := dz_ok (by decide +kernel)
theorem diq_d71 : decode xM138.2.1 71 = .ok (.lload_n 3, 1) := dz_ok (by decide +kernel)
theorem diq_d72 : decode xM138.2.1 72 = .ok (.aload_n 0, 1) := dz_ok (by decide +kernel)
theorem diq_d73 : decode xM138.2.1 73 = .ok (.getfield 45, 3) := dz_ok (by decide +kernel)
theorem diq_d76 : decode xM138.2.1 76 = .ok (.iload 5, 2) := dz_ok (by decide +kernel)
theorem diq_d78 : decode xM138.2.1 78 = .ok (.iaload, 1) := dz_ok (by decide +kernel)
theorem diq_d79 : decode xM138.2.1 79 = .ok (.i2l, 1) := dz_ok (by decide +kernel)
theorem diq_d80 : decode xM138.2.1 80 = .ok (.invokestatic 140, 3) := dz_ok (by decide +kernel)
theorem diq_d83 : decode xM138.2.1 83 = .ok (.lstore_n 3, 1) := dz_ok (by decide +kernel)
theorem diq_d84 : decode xM138.2.1 84 = .ok (.iinc 5 1, 3) := dz_ok (by decide +kernel)
theorem diq_d87 : decode xM138.2.1 87 = .ok (.goto (-25), 3) := dz_ok (by decide +kernel)
theorem diq_d90 : decode xM138.2.1 90 = .ok (.iconst 0, 1) := dz_ok (by decide +kernel)
theorem diq_d91 : decode xM138.2.1 91 = .ok (.istore 5, 2) := dz_ok (by decide +kernel)
theorem diq_d93 : decode xM138.2.1 93 = .ok (.iload 5, 2) := dz_ok (by decide +kernel)
theorem diq_d95 : decode xM138.2.1 95 = .ok (.bipush 12, 2) := dz_ok (by decide +kernel)
theorem diq_d97 : decode xM138.2.1 97 = .ok (.if_icmp .ge 35, 3) := dz_ok (by decide +kernel)
theorem diq_d100 : decode xM138.2.1 100 = .ok (.lload_n 3, 1) := dz_ok (by decide +kernel)
theorem diq_d101 : decode xM138.2.1 101 = .ok (.aload_n 0, 1) := dz_ok (by decide +kernel)
theorem diq_d102 : decode xM138.2.1 102 = .ok (.getfield 48, 3) := dz_ok (by decide +kernel)
theorem diq_d105 : decode xM138.2.1 105 = .ok (.iload 5, 2) := dz_ok (by decide +kernel)
theorem diq_d107 : decode xM138.2.1 107 = .ok (.iaload, 1) := dz_ok (by decide +kernel)
theorem diq_d108 : decode xM138.2.1 108 = .ok (.i2l, 1) := dz_ok (by decide +kernel)
theorem diq_d109 : decode xM138.2.1 109 = .ok (.invokestatic 140, 3) := dz_ok (by decide +kernel)
theorem diq_d112 : decode xM138.2.1 112 = .ok (.lstore_n 3, 1) := dz_ok (by decide +kernel)
theorem diq_d113 : decode xM138.2.1 113 = .ok (.lload_n 3, 1) := dz_ok (by decide +kernel)
theorem diq_d114 : decode xM138.2.1 114 = .ok (.aload_n 0, 1) := dz_ok (by decide +kernel)
theorem diq_d115 : decode xM138.2.1 115 = .ok (.getfield 51, 3) := dz_ok (by decide +kernel)
theorem diq_d118 : decode xM138.2.1 118 = .ok (.iload 5, 2) := dz_ok (by decide +kernel)
theorem diq_d120 : decode xM138.2.1 120 = .ok (.iaload, 1) := dz_ok (by decide +kernel)
theorem diq_d121 : decode xM138.2.1 121 = .ok (.i2l, 1) := dz_ok (by decide +kernel)
theorem diq_d122 : decode xM138.2.1 122 = .ok (.invokestatic 140, 3) := dz_ok (by decide +kernel)
theorem diq_d125 : decode xM138.2.1 125 = .ok (.lstore_n 3, 1) := dz_ok (by decide +kernel)
theorem diq_d126 : decode xM138.2.1 126 = .ok (.iinc 5 1, 3) := dz_ok (by decide +kernel)
theorem diq_d129 : decode xM138.2.1 129 = .ok (.goto (-36), 3) := dz_ok (by decide +kernel)
theorem diq_d132 : decode xM138.2.1 132 = .ok (.lload_n 3, 1) := dz_ok (by decide +kernel)
theorem diq_d133 : decode xM138.2.1 133 = .ok (.lreturn, 1) := dz_ok (by decide +kernel)
theorem diq_L93 {p : Program} {l : Launch} {e : Env} {s : State} {m : MethodId} {below : List Frame} {meth : Method} {c : Code} {D : va_G} {U : State} {Y0 : xY} {av : List Value} (B : y_B vwCl x_Tb x_Nb xM138 p s m meth c D U Y0 av) {this adial amists aword anightHill anightHow : Nat} {h : Int64} {f : Nat → Int32} (hav : av = [.ref this, .long h]) (hL0 : z_L D Y0 this s.heap f) (hb0 : 0 ≤ (f 0).toInt ∧ (f 0).toInt ≤ 10) (hb1 : 0 ≤ (f 1).toInt ∧ (f 1).toInt ≤ 8) (hb2 : 0 ≤ (f 2).toInt ∧ (f 2).toInt ≤ 8)  :
    ∀ (n : Nat), ∀ (H : Heap) (Y : xY) (locs : List Loc) (ls : Array Slot) (k : Int32) (x : Int64), x_I D x_G x_Zs U (x_efs xM138) Y0 s.heap Y H locs → Y this = some 2 → Y adial = some 27 → Y amists = some 28 → Y aword = some 29 → Y anightHill = some 30 → Y anightHow = some 31 → x_sl D 2 10 this H = some (.ref adial) → x_sl D 2 11 this H = some (.ref amists) → x_sl D 2 13 this H = some (.ref aword) → x_sl D 2 14 this H = some (.ref anightHill) → x_sl D 2 15 this H = some (.ref anightHow) → x_sl D 2 12 this H = some (.int (f 2)) → y_A adial 4 H (fun j => f (4 + 1 * j)) → y_A amists 12 H (fun j => f (116 + 1 * j)) → y_A aword 8 H (fun j => f (128 + 1 * j)) → y_A anightHill 12 H (fun j => f (136 + 2 * j)) → y_A anightHow 12 H (fun j => f (137 + 2 * j)) → z_L D Y this H f → lv_has ls xM138.2.2.1 [(5, .int k), (3, .long x), (0, .ref this), (1, .long h)] → (0 ≤ k.toInt ∧ k.toInt ≤ 12) → (x = m_mxs f 136 (m_tm3 f h) (2 * k.toInt.toNat)) → (13 - k.toInt).toNat < n → W p l e (x_rm xM138) s m av.toArray below meth c H locs 0 0 (y_QQ below D x_G x_Zs U xM138 z_Pdi av Y0 s) (F0 m 93 ls []) := by
  have X := B.1
  have hx := X.1
  have hb := X.2.1
  have hY0 := B.2.2.2.2.1
  intro n
  induction n with
  | zero => intro _ _ _ _ _ _ _ _ _ _ _ _ _ _ _ _ _ _ _ _ _ _ _ _ _ _ _ _ h; exact absurd h (Nat.not_lt_zero _)
  | succ n ih =>
    intro H Y locs ls k x  hI hY_this hY_adial hY_amists hY_aword hY_anightHill hY_anightHow hs_adial hs_amists hs_aword hs_anightHill hs_anightHow hsi_letters hA_adial hA_amists hA_aword hA_anightHill hA_anightHow hL hl hk hx9 hn
    refine lv_iload hx hb diq_d93 (lv_at hl 0 rfl) ?_
    refine lv_bipush hx hb diq_d95 (v := 12) (by decide) ?_
    have ec12 : (12 : Int32).toInt = 12 := by decide
    refine lv_icmp_ge hx hb diq_d97 (tgt := 132) (by decide) (fun q97 => ?_) (fun q97 => ?_)
    · have q97_ : (12 : Int32).toInt ≤ k.toInt := x_le32.mp q97
      refine lv_lload_n hx hb diq_d132 rfl (lv_at hl 1 rfl) ?_
      subst hav
      exact y_lreturn B hI rfl rfl List.mem_cons_self ⟨_, rfl, ⟨_, rfl, x_i64 _⟩⟩ (x_cs.mono B.2.2.2.2.2 (y_mon B hI)) (fun t' h' f' h1 h2 => by cases h1; cases h2.uniq hL0; refine congrArg (fun x => some (Value.long x)) ?_; rw [hx9, show 2 * k.toInt.toNat = 24 by omega]; rfl) (Nat.le_refl _) (Nat.le_refl _) diq_d133
    · have q97_ : k.toInt < (12 : Int32).toInt := Int.not_le.mp fun q => q97 (x_le32.mpr q)
      refine lv_lload_n hx hb diq_d100 rfl (lv_at hl 1 rfl) ?_
      refine lv_aload_n hx hb diq_d101 rfl (lv_at hl 2 rfl) ?_
      refine y_getf X (fl125 X.2.2.2.2.1) hI.1 hY_this rfl hs_anightHill diq_d102 ?_
      refine lv_iload hx hb diq_d105 (lv_at hl 0 rfl) ?_
      refine y_iald X hI.1 hY_anightHill rfl hA_anightHill (by omega) (by show _ < (12 : Int); omega) diq_d107 ?_
      obtain ⟨e107, hg_e107⟩ : ∃ e107 : Int32, f (136 + 2 * k.toInt.toNat) = e107 := ⟨_, rfl⟩
      rw [hg_e107]
      obtain ⟨z108, hg_z108⟩ : ∃ z108 : Int64, e107.toInt64 = z108 := ⟨_, rfl⟩
      have h_z108 : z108.toInt = (e107).toInt := by rw [← hg_z108]; exact Int32.toInt_toInt64 _
      refine lv_i2l hx hb diq_d108 (v := z108) hg_z108 ?_
      refine y_call (z := (1, 140, 2, none, xM135)) (av := [.long x, .long z108]) (rest := []) (y_cokSN (n := 2) (host := "TwinFires") X ym_mixed (x_cons (x_bw60 9 rfl rfl) (x_cons (x_bw0 1 rfl rfl) x_nilm)) (x_bn61 0 rfl rfl) (x_bw60 10 rfl rfl) (by decide +kernel) ⟨Nat.le_of_ble_eq_true rfl, Nat.le_of_ble_eq_true rfl⟩) hY0 hI rfl diq_d109 hl.1 (Nat.le_of_ble_eq_true rfl) (Nat.le_of_ble_eq_true rfl) (Nat.le_of_ble_eq_true rfl) (y_cons ⟨_, rfl, x_i64 _⟩ (y_cons ⟨_, rfl, x_i64 _⟩ y_nil)) rfl (y_norecv rfl) trivial (y_sub_ef rfl) fun v Yn o Hn L ho hr ha hIn hx_ hE hP => ?_
      replace hs_adial := y_Efld hE hY_this rfl (by decide) (by decide) hs_adial
      replace hs_amists := y_Efld hE hY_this rfl (by decide) (by decide) hs_amists
      replace hs_aword := y_Efld hE hY_this rfl (by decide) (by decide) hs_aword
      replace hs_anightHill := y_Efld hE hY_this rfl (by decide) (by decide) hs_anightHill
      replace hs_anightHow := y_Efld hE hY_this rfl (by decide) (by decide) hs_anightHow
      replace hsi_letters := y_Efld hE hY_this rfl (by decide) (by decide) hsi_letters
      replace hA_adial := hA_adial.kept (y_Earr hE hY_adial rfl (by decide))
      replace hA_amists := hA_amists.kept (y_Earr hE hY_amists rfl (by decide))
      replace hA_aword := hA_aword.kept (y_Earr hE hY_aword rfl (by decide))
      replace hA_anightHill := hA_anightHill.kept (y_Earr hE hY_anightHill rfl (by decide))
      replace hA_anightHow := hA_anightHow.kept (y_Earr hE hY_anightHow rfl (by decide))
      replace hL := hL.E hY_this hE (fun q u h => y_ext hx_ hI.1 h) (by decide +kernel)
      replace hY_this := y_ext hx_ hI.1 hY_this
      replace hY_adial := y_ext hx_ hI.1 hY_adial
      replace hY_amists := y_ext hx_ hI.1 hY_amists
      replace hY_aword := y_ext hx_ hI.1 hY_aword
      replace hY_anightHill := y_ext hx_ hI.1 hY_anightHill
      replace hY_anightHow := y_ext hx_ hI.1 hY_anightHow
      obtain rfl := hP _ _ rfl
      generalize hg_r109 : 31 * x + z108 = r109
      clear ho hr ha hE hP hI hx_
      rename x_I _ _ _ _ _ _ _ _ _ _ => hI
      refine lv_lstore_n hx hb diq_d112 rfl hl (by decide) (lv' := [(3, .long r109), (5, .int k), (0, .ref this), (1, .long h)]) rfl fun ls hl => ?_
      refine lv_lload_n hx hb diq_d113 rfl (lv_at hl 0 rfl) ?_
      refine lv_aload_n hx hb diq_d114 rfl (lv_at hl 2 rfl) ?_
      refine y_getf X (fl126 X.2.2.2.2.1) hI.1 hY_this rfl hs_anightHow diq_d115 ?_
      refine lv_iload hx hb diq_d118 (lv_at hl 1 rfl) ?_
      refine y_iald X hI.1 hY_anightHow rfl hA_anightHow (by omega) (by show _ < (12 : Int); omega) diq_d120 ?_
      obtain ⟨e120, hg_e120⟩ : ∃ e120 : Int32, f (137 + 2 * k.toInt.toNat) = e120 := ⟨_, rfl⟩
      rw [hg_e120]
      obtain ⟨z121, hg_z121⟩ : ∃ z121 : Int64, e120.toInt64 = z121 := ⟨_, rfl⟩
      have h_z121 : z121.toInt = (e120).toInt := by rw [← hg_z121]; exact Int32.toInt_toInt64 _
      refine lv_i2l hx hb diq_d121 (v := z121) hg_z121 ?_
      refine y_call (z := (1, 140, 2, none, xM135)) (av := [.long r109, .long z121]) (rest := []) (y_cokSN (n := 2) (host := "TwinFires") X ym_mixed (x_cons (x_bw60 9 rfl rfl) (x_cons (x_bw0 1 rfl rfl) x_nilm)) (x_bn61 0 rfl rfl) (x_bw60 10 rfl rfl) (by decide +kernel) ⟨Nat.le_of_ble_eq_true rfl, Nat.le_of_ble_eq_true rfl⟩) hY0 hI rfl diq_d122 hl.1 (Nat.le_of_ble_eq_true rfl) (Nat.le_of_ble_eq_true rfl) (Nat.le_of_ble_eq_true rfl) (y_cons ⟨_, rfl, x_i64 _⟩ (y_cons ⟨_, rfl, x_i64 _⟩ y_nil)) rfl (y_norecv rfl) trivial (y_sub_ef rfl) fun v Yn o Hn L ho hr ha hIn hx_ hE hP => ?_
      replace hs_adial := y_Efld hE hY_this rfl (by decide) (by decide) hs_adial
      replace hs_amists := y_Efld hE hY_this rfl (by decide) (by decide) hs_amists
      replace hs_aword := y_Efld hE hY_this rfl (by decide) (by decide) hs_aword
      replace hs_anightHill := y_Efld hE hY_this rfl (by decide) (by decide) hs_anightHill
      replace hs_anightHow := y_Efld hE hY_this rfl (by decide) (by decide) hs_anightHow
      replace hsi_letters := y_Efld hE hY_this rfl (by decide) (by decide) hsi_letters
      replace hA_adial := hA_adial.kept (y_Earr hE hY_adial rfl (by decide))
      replace hA_amists := hA_amists.kept (y_Earr hE hY_amists rfl (by decide))
      replace hA_aword := hA_aword.kept (y_Earr hE hY_aword rfl (by decide))
      replace hA_anightHill := hA_anightHill.kept (y_Earr hE hY_anightHill rfl (by decide))
      replace hA_anightHow := hA_anightHow.kept (y_Earr hE hY_anightHow rfl (by decide))
      replace hL := hL.E hY_this hE (fun q u h => y_ext hx_ hI.1 h) (by decide +kernel)
      replace hY_this := y_ext hx_ hI.1 hY_this
      replace hY_adial := y_ext hx_ hI.1 hY_adial
      replace hY_amists := y_ext hx_ hI.1 hY_amists
      replace hY_aword := y_ext hx_ hI.1 hY_aword
      replace hY_anightHill := y_ext hx_ hI.1 hY_anightHill
      replace hY_anightHow := y_ext hx_ hI.1 hY_anightHow
      obtain rfl := hP _ _ rfl
      generalize hg_r122 : 31 * r109 + z121 = r122
      clear ho hr ha hE hP hI hx_
      rename x_I _ _ _ _ _ _ _ _ _ _ => hI
      refine lv_lstore_n hx hb diq_d125 rfl hl (by decide) (lv' := [(3, .long r122), (5, .int k), (0, .ref this), (1, .long h)]) rfl fun ls hl => ?_
      obtain ⟨z126, hg_z126⟩ : ∃ z126 : Int32, k + Int32.ofInt 1 = z126 := ⟨_, rfl⟩
      have h_z126 : z126.toInt = k.toInt + 1 := by rw [← hg_z126]; exact y_inc (by decide) (by omega) (by omega)
      refine lv_iinc hx hb diq_d126 hl (k := 1) rfl hg_z126 (by decide) (lv' := [(5, .int z126), (3, .long r122), (0, .ref this), (1, .long h)]) rfl fun ls hl => ?_
      refine lv_goto hx hb diq_d129 (tgt := 93) (by decide) ?_
      have his : 2 * z126.toInt.toNat = 2 * k.toInt.toNat + 1 + 1 := by omega
      have ae107 : f (136 + 2 * k.toInt.toNat) = e107 := Eq.trans (congrArg f (by omega)) hg_e107
      have ae120 : f (136 + (2 * k.toInt.toNat + 1)) = e120 := Eq.trans (congrArg f (by omega)) hg_e120
      exact ih _ _ _ _ _ _ hI hY_this hY_adial hY_amists hY_aword hY_anightHill hY_anightHow hs_adial hs_amists hs_aword hs_anightHill hs_anightHow hsi_letters hA_adial hA_amists hA_aword hA_anightHill hA_anightHow hL (lv_sub hl [0, 1, 2, 3] rfl) (by first | assumption | omega) (by rw [his]; show _ = 31 * (31 * (m_mxs f 136 (m_tm3 f h) (2 * k.toInt.toNat)) + (f (136 + 2 * k.toInt.toNat)).toInt64) + (f (136 + (2 * k.toInt.toNat + 1))).toInt64; rw [← hx9, ae107, hg_z108, hg_r109, ae120, hg_z121, hg_r122]) (by omega)
theorem diq_L62 {p : Program} {l : Launch} {e : Env} {s : State} {m : MethodId} {below : List Frame} {meth : Method} {c : Code} {D : va_G} {U : State} {Y0 : xY} {av : List Value} (B : y_B vwCl x_Tb x_Nb xM138 p s m meth c D U Y0 av) {this adial amists aword anightHill anightHow : Nat} {h : Int64} {f : Nat → Int32} (hav : av = [.ref this, .long h]) (hL0 : z_L D Y0 this s.heap f) (hb0 : 0 ≤ (f 0).toInt ∧ (f 0).toInt ≤ 10) (hb1 : 0 ≤ (f 1).toInt ∧ (f 1).toInt ≤ 8) (hb2 : 0 ≤ (f 2).toInt ∧ (f 2).toInt ≤ 8)  :
    ∀ (n : Nat), ∀ (H : Heap) (Y : xY) (locs : List Loc) (ls : Array Slot) (k : Int32) (x : Int64), x_I D x_G x_Zs U (x_efs xM138) Y0 s.heap Y H locs → Y this = some 2 → Y adial = some 27 → Y amists = some 28 → Y aword = some 29 → Y anightHill = some 30 → Y anightHow = some 31 → x_sl D 2 10 this H = some (.ref adial) → x_sl D 2 11 this H = some (.ref amists) → x_sl D 2 13 this H = some (.ref aword) → x_sl D 2 14 this H = some (.ref anightHill) → x_sl D 2 15 this H = some (.ref anightHow) → x_sl D 2 12 this H = some (.int (f 2)) → y_A adial 4 H (fun j => f (4 + 1 * j)) → y_A amists 12 H (fun j => f (116 + 1 * j)) → y_A aword 8 H (fun j => f (128 + 1 * j)) → y_A anightHill 12 H (fun j => f (136 + 2 * j)) → y_A anightHow 12 H (fun j => f (137 + 2 * j)) → z_L D Y this H f → lv_has ls xM138.2.2.1 [(5, .int k), (3, .long x), (0, .ref this), (1, .long h)] → (0 ≤ k.toInt ∧ k.toInt ≤ (f 2).toInt) → (x = m_mxs f 128 (m_tm2 f h) (k.toInt.toNat)) → (13 - k.toInt).toNat < n → W p l e (x_rm xM138) s m av.toArray below meth c H locs 0 0 (y_QQ below D x_G x_Zs U xM138 z_Pdi av Y0 s) (F0 m 62 ls []) := by
  have X := B.1
  have hx := X.1
  have hb := X.2.1
  have hY0 := B.2.2.2.2.1
  intro n
  induction n with
  | zero => intro _ _ _ _ _ _ _ _ _ _ _ _ _ _ _ _ _ _ _ _ _ _ _ _ _ _ _ _ h; exact absurd h (Nat.not_lt_zero _)
  | succ n ih =>
    intro H Y locs ls k x  hI hY_this hY_adial hY_amists hY_aword hY_anightHill hY_anightHow hs_adial hs_amists hs_aword hs_anightHill hs_anightHow hsi_letters hA_adial hA_amists hA_aword hA_anightHill hA_anightHow hL hl hk hx9 hn
    refine lv_iload hx hb diq_d62 (lv_at hl 0 rfl) ?_
    refine lv_aload_n hx hb diq_d64 rfl (lv_at hl 2 rfl) ?_
    refine y_getf X (fl127 X.2.2.2.2.1) hI.1 hY_this rfl hsi_letters diq_d65 ?_
    refine lv_icmp_ge hx hb diq_d68 (tgt := 90) (by decide) (fun q68 => ?_) (fun q68 => ?_)
    · have q68_ : (f 2).toInt ≤ k.toInt := x_le32.mp q68
      refine lv_iconst hx hb diq_d90 (v := 0) (by decide) ?_
      have ec0 : (0 : Int32).toInt = 0 := by decide
      refine lv_istore hx hb diq_d91 hl (by decide) (lv' := [(5, .int (0 : Int32)), (3, .long x), (0, .ref this), (1, .long h)]) rfl fun ls hl => ?_
      exact diq_L93 B hav hL0 hb0 hb1 hb2 14 _ _ _ _ _ _ hI hY_this hY_adial hY_amists hY_aword hY_anightHill hY_anightHow hs_adial hs_amists hs_aword hs_anightHill hs_anightHow hsi_letters hA_adial hA_amists hA_aword hA_anightHill hA_anightHow hL (lv_sub hl [0, 1, 2, 3] rfl) (by first | assumption | omega) (by rw [z_i0]; show x = m_mxs f 128 (m_tm2 f h) (f 2).toInt.toNat; rw [show (f 2).toInt.toNat = k.toInt.toNat by omega]; exact hx9) (by omega)
    · have q68_ : k.toInt < (f 2).toInt := Int.not_le.mp fun q => q68 (x_le32.mpr q)
      refine lv_lload_n hx hb diq_d71 rfl (lv_at hl 1 rfl) ?_
      refine lv_aload_n hx hb diq_d72 rfl (lv_at hl 2 rfl) ?_
      refine y_getf X (fl124 X.2.2.2.2.1) hI.1 hY_this rfl hs_aword diq_d73 ?_
      refine lv_iload hx hb diq_d76 (lv_at hl 0 rfl) ?_
      refine y_iald X hI.1 hY_aword rfl hA_aword (by omega) (by show _ < (8 : Int); omega) diq_d78 ?_
      obtain ⟨e78, hg_e78⟩ : ∃ e78 : Int32, f (128 + 1 * k.toInt.toNat) = e78 := ⟨_, rfl⟩
      rw [hg_e78]
      obtain ⟨z79, hg_z79⟩ : ∃ z79 : Int64, e78.toInt64 = z79 := ⟨_, rfl⟩
      have h_z79 : z79.toInt = (e78).toInt := by rw [← hg_z79]; exact Int32.toInt_toInt64 _
      refine lv_i2l hx hb diq_d79 (v := z79) hg_z79 ?_
      refine y_call (z := (1, 140, 2, none, xM135)) (av := [.long x, .long z79]) (rest := []) (y_cokSN (n := 2) (host := "TwinFires") X ym_mixed (x_cons (x_bw60 9 rfl rfl) (x_cons (x_bw0 1 rfl rfl) x_nilm)) (x_bn61 0 rfl rfl) (x_bw60 10 rfl rfl) (by decide +kernel) ⟨Nat.le_of_ble_eq_true rfl, Nat.le_of_ble_eq_true rfl⟩) hY0 hI rfl diq_d80 hl.1 (Nat.le_of_ble_eq_true rfl) (Nat.le_of_ble_eq_true rfl) (Nat.le_of_ble_eq_true rfl) (y_cons ⟨_, rfl, x_i64 _⟩ (y_cons ⟨_, rfl, x_i64 _⟩ y_nil)) rfl (y_norecv rfl) trivial (y_sub_ef rfl) fun v Yn o Hn L ho hr ha hIn hx_ hE hP => ?_
      replace hs_adial := y_Efld hE hY_this rfl (by decide) (by decide) hs_adial
      replace hs_amists := y_Efld hE hY_this rfl (by decide) (by decide) hs_amists
      replace hs_aword := y_Efld hE hY_this rfl (by decide) (by decide) hs_aword
      replace hs_anightHill := y_Efld hE hY_this rfl (by decide) (by decide) hs_anightHill
      replace hs_anightHow := y_Efld hE hY_this rfl (by decide) (by decide) hs_anightHow
      replace hsi_letters := y_Efld hE hY_this rfl (by decide) (by decide) hsi_letters
      replace hA_adial := hA_adial.kept (y_Earr hE hY_adial rfl (by decide))
      replace hA_amists := hA_amists.kept (y_Earr hE hY_amists rfl (by decide))
      replace hA_aword := hA_aword.kept (y_Earr hE hY_aword rfl (by decide))
      replace hA_anightHill := hA_anightHill.kept (y_Earr hE hY_anightHill rfl (by decide))
      replace hA_anightHow := hA_anightHow.kept (y_Earr hE hY_anightHow rfl (by decide))
      replace hL := hL.E hY_this hE (fun q u h => y_ext hx_ hI.1 h) (by decide +kernel)
      replace hY_this := y_ext hx_ hI.1 hY_this
      replace hY_adial := y_ext hx_ hI.1 hY_adial
      replace hY_amists := y_ext hx_ hI.1 hY_amists
      replace hY_aword := y_ext hx_ hI.1 hY_aword
      replace hY_anightHill := y_ext hx_ hI.1 hY_anightHill
      replace hY_anightHow := y_ext hx_ hI.1 hY_anightHow
      obtain rfl := hP _ _ rfl
      generalize hg_r80 : 31 * x + z79 = r80
      clear ho hr ha hE hP hI hx_
      rename x_I _ _ _ _ _ _ _ _ _ _ => hI
      refine lv_lstore_n hx hb diq_d83 rfl hl (by decide) (lv' := [(3, .long r80), (5, .int k), (0, .ref this), (1, .long h)]) rfl fun ls hl => ?_
      obtain ⟨z84, hg_z84⟩ : ∃ z84 : Int32, k + Int32.ofInt 1 = z84 := ⟨_, rfl⟩
      have h_z84 : z84.toInt = k.toInt + 1 := by rw [← hg_z84]; exact y_inc (by decide) (by omega) (by omega)
      refine lv_iinc hx hb diq_d84 hl (k := 1) rfl hg_z84 (by decide) (lv' := [(5, .int z84), (3, .long r80), (0, .ref this), (1, .long h)]) rfl fun ls hl => ?_
      refine lv_goto hx hb diq_d87 (tgt := 62) (by decide) ?_
      have his : z84.toInt.toNat = k.toInt.toNat + 1 := by omega
      have ae78 : f (128 + k.toInt.toNat) = e78 := Eq.trans (congrArg f (by omega)) hg_e78
      exact ih _ _ _ _ _ _ hI hY_this hY_adial hY_amists hY_aword hY_anightHill hY_anightHow hs_adial hs_amists hs_aword hs_anightHill hs_anightHow hsi_letters hA_adial hA_amists hA_aword hA_anightHill hA_anightHow hL (lv_sub hl [0, 1, 2, 3] rfl) (by first | assumption | omega) (by rw [his]; show _ = 31 * (m_mxs f 128 (m_tm2 f h) (k.toInt.toNat)) + (f (128 + k.toInt.toNat)).toInt64; rw [← hx9, ae78, hg_z79, hg_r80]) (by omega)
theorem diq_L33 {p : Program} {l : Launch} {e : Env} {s : State} {m : MethodId} {below : List Frame} {meth : Method} {c : Code} {D : va_G} {U : State} {Y0 : xY} {av : List Value} (B : y_B vwCl x_Tb x_Nb xM138 p s m meth c D U Y0 av) {this adial amists aword anightHill anightHow : Nat} {h : Int64} {f : Nat → Int32} (hav : av = [.ref this, .long h]) (hL0 : z_L D Y0 this s.heap f) (hb0 : 0 ≤ (f 0).toInt ∧ (f 0).toInt ≤ 10) (hb1 : 0 ≤ (f 1).toInt ∧ (f 1).toInt ≤ 8) (hb2 : 0 ≤ (f 2).toInt ∧ (f 2).toInt ≤ 8)  :
    ∀ (n : Nat), ∀ (H : Heap) (Y : xY) (locs : List Loc) (ls : Array Slot) (k : Int32) (x : Int64), x_I D x_G x_Zs U (x_efs xM138) Y0 s.heap Y H locs → Y this = some 2 → Y adial = some 27 → Y amists = some 28 → Y aword = some 29 → Y anightHill = some 30 → Y anightHow = some 31 → x_sl D 2 10 this H = some (.ref adial) → x_sl D 2 11 this H = some (.ref amists) → x_sl D 2 13 this H = some (.ref aword) → x_sl D 2 14 this H = some (.ref anightHill) → x_sl D 2 15 this H = some (.ref anightHow) → x_sl D 2 12 this H = some (.int (f 2)) → y_A adial 4 H (fun j => f (4 + 1 * j)) → y_A amists 12 H (fun j => f (116 + 1 * j)) → y_A aword 8 H (fun j => f (128 + 1 * j)) → y_A anightHill 12 H (fun j => f (136 + 2 * j)) → y_A anightHow 12 H (fun j => f (137 + 2 * j)) → z_L D Y this H f → lv_has ls xM138.2.2.1 [(5, .int k), (3, .long x), (0, .ref this), (1, .long h)] → (0 ≤ k.toInt ∧ k.toInt ≤ 12) → (x = m_mxs f 116 (m_tm1 f h) (k.toInt.toNat)) → (13 - k.toInt).toNat < n → W p l e (x_rm xM138) s m av.toArray below meth c H locs 0 0 (y_QQ below D x_G x_Zs U xM138 z_Pdi av Y0 s) (F0 m 33 ls []) := by
  have X := B.1
  have hx := X.1
  have hb := X.2.1
  have hY0 := B.2.2.2.2.1
  intro n
  induction n with
  | zero => intro _ _ _ _ _ _ _ _ _ _ _ _ _ _ _ _ _ _ _ _ _ _ _ _ _ _ _ _ h; exact absurd h (Nat.not_lt_zero _)
  | succ n ih =>
    intro H Y locs ls k x  hI hY_this hY_adial hY_amists hY_aword hY_anightHill hY_anightHow hs_adial hs_amists hs_aword hs_anightHill hs_anightHow hsi_letters hA_adial hA_amists hA_aword hA_anightHill hA_anightHow hL hl hk hx9 hn
    refine lv_iload hx hb diq_d33 (lv_at hl 0 rfl) ?_
    refine lv_bipush hx hb diq_d35 (v := 12) (by decide) ?_
    have ec12 : (12 : Int32).toInt = 12 := by decide
    refine lv_icmp_ge hx hb diq_d37 (tgt := 59) (by decide) (fun q37 => ?_) (fun q37 => ?_)
    · have q37_ : (12 : Int32).toInt ≤ k.toInt := x_le32.mp q37
      refine lv_iconst hx hb diq_d59 (v := 0) (by decide) ?_
      have ec0 : (0 : Int32).toInt = 0 := by decide
      refine lv_istore hx hb diq_d60 hl (by decide) (lv' := [(5, .int (0 : Int32)), (3, .long x), (0, .ref this), (1, .long h)]) rfl fun ls hl => ?_
      exact diq_L62 B hav hL0 hb0 hb1 hb2 14 _ _ _ _ _ _ hI hY_this hY_adial hY_amists hY_aword hY_anightHill hY_anightHow hs_adial hs_amists hs_aword hs_anightHill hs_anightHow hsi_letters hA_adial hA_amists hA_aword hA_anightHill hA_anightHow hL (lv_sub hl [0, 1, 2, 3] rfl) (by first | assumption | omega) (by rw [z_i0]; show x = m_mxs f 116 (m_tm1 f h) 12; rw [show (12 : Nat) = k.toInt.toNat by omega]; exact hx9) (by omega)
    · have q37_ : k.toInt < (12 : Int32).toInt := Int.not_le.mp fun q => q37 (x_le32.mpr q)
      refine lv_lload_n hx hb diq_d40 rfl (lv_at hl 1 rfl) ?_
      refine lv_aload_n hx hb diq_d41 rfl (lv_at hl 2 rfl) ?_
      refine y_getf X (fl123 X.2.2.2.2.1) hI.1 hY_this rfl hs_amists diq_d42 ?_
      refine lv_iload hx hb diq_d45 (lv_at hl 0 rfl) ?_
      refine y_iald X hI.1 hY_amists rfl hA_amists (by omega) (by show _ < (12 : Int); omega) diq_d47 ?_
      obtain ⟨e47, hg_e47⟩ : ∃ e47 : Int32, f (116 + 1 * k.toInt.toNat) = e47 := ⟨_, rfl⟩
      rw [hg_e47]
      obtain ⟨z48, hg_z48⟩ : ∃ z48 : Int64, e47.toInt64 = z48 := ⟨_, rfl⟩
      have h_z48 : z48.toInt = (e47).toInt := by rw [← hg_z48]; exact Int32.toInt_toInt64 _
      refine lv_i2l hx hb diq_d48 (v := z48) hg_z48 ?_
      refine y_call (z := (1, 140, 2, none, xM135)) (av := [.long x, .long z48]) (rest := []) (y_cokSN (n := 2) (host := "TwinFires") X ym_mixed (x_cons (x_bw60 9 rfl rfl) (x_cons (x_bw0 1 rfl rfl) x_nilm)) (x_bn61 0 rfl rfl) (x_bw60 10 rfl rfl) (by decide +kernel) ⟨Nat.le_of_ble_eq_true rfl, Nat.le_of_ble_eq_true rfl⟩) hY0 hI rfl diq_d49 hl.1 (Nat.le_of_ble_eq_true rfl) (Nat.le_of_ble_eq_true rfl) (Nat.le_of_ble_eq_true rfl) (y_cons ⟨_, rfl, x_i64 _⟩ (y_cons ⟨_, rfl, x_i64 _⟩ y_nil)) rfl (y_norecv rfl) trivial (y_sub_ef rfl) fun v Yn o Hn L ho hr ha hIn hx_ hE hP => ?_
      replace hs_adial := y_Efld hE hY_this rfl (by decide) (by decide) hs_adial
      replace hs_amists := y_Efld hE hY_this rfl (by decide) (by decide) hs_amists
      replace hs_aword := y_Efld hE hY_this rfl (by decide) (by decide) hs_aword
      replace hs_anightHill := y_Efld hE hY_this rfl (by decide) (by decide) hs_anightHill
      replace hs_anightHow := y_Efld hE hY_this rfl (by decide) (by decide) hs_anightHow
      replace hsi_letters := y_Efld hE hY_this rfl (by decide) (by decide) hsi_letters
      replace hA_adial := hA_adial.kept (y_Earr hE hY_adial rfl (by decide))
      replace hA_amists := hA_amists.kept (y_Earr hE hY_amists rfl (by decide))
      replace hA_aword := hA_aword.kept (y_Earr hE hY_aword rfl (by decide))
      replace hA_anightHill := hA_anightHill.kept (y_Earr hE hY_anightHill rfl (by decide))
      replace hA_anightHow := hA_anightHow.kept (y_Earr hE hY_anightHow rfl (by decide))
      replace hL := hL.E hY_this hE (fun q u h => y_ext hx_ hI.1 h) (by decide +kernel)
      replace hY_this := y_ext hx_ hI.1 hY_this
      replace hY_adial := y_ext hx_ hI.1 hY_adial
      replace hY_amists := y_ext hx_ hI.1 hY_amists
      replace hY_aword := y_ext hx_ hI.1 hY_aword
      replace hY_anightHill := y_ext hx_ hI.1 hY_anightHill
      replace hY_anightHow := y_ext hx_ hI.1 hY_anightHow
      obtain rfl := hP _ _ rfl
      generalize hg_r49 : 31 * x + z48 = r49
      clear ho hr ha hE hP hI hx_
      rename x_I _ _ _ _ _ _ _ _ _ _ => hI
      refine lv_lstore_n hx hb diq_d52 rfl hl (by decide) (lv' := [(3, .long r49), (5, .int k), (0, .ref this), (1, .long h)]) rfl fun ls hl => ?_
      obtain ⟨z53, hg_z53⟩ : ∃ z53 : Int32, k + Int32.ofInt 1 = z53 := ⟨_, rfl⟩
      have h_z53 : z53.toInt = k.toInt + 1 := by rw [← hg_z53]; exact y_inc (by decide) (by omega) (by omega)
      refine lv_iinc hx hb diq_d53 hl (k := 1) rfl hg_z53 (by decide) (lv' := [(5, .int z53), (3, .long r49), (0, .ref this), (1, .long h)]) rfl fun ls hl => ?_
      refine lv_goto hx hb diq_d56 (tgt := 33) (by decide) ?_
      have his : z53.toInt.toNat = k.toInt.toNat + 1 := by omega
      have ae47 : f (116 + k.toInt.toNat) = e47 := Eq.trans (congrArg f (by omega)) hg_e47
      exact ih _ _ _ _ _ _ hI hY_this hY_adial hY_amists hY_aword hY_anightHill hY_anightHow hs_adial hs_amists hs_aword hs_anightHill hs_anightHow hsi_letters hA_adial hA_amists hA_aword hA_anightHill hA_anightHow hL (lv_sub hl [0, 1, 2, 3] rfl) (by first | assumption | omega) (by rw [his]; show _ = 31 * (m_mxs f 116 (m_tm1 f h) (k.toInt.toNat)) + (f (116 + k.toInt.toNat)).toInt64; rw [← hx9, ae47, hg_z48, hg_r49]) (by omega)
theorem diq_L5 {p : Program} {l : Launch} {e : Env} {s : State} {m : MethodId} {below : List Frame} {meth : Method} {c : Code} {D : va_G} {U : State} {Y0 : xY} {av : List Value} (B : y_B vwCl x_Tb x_Nb xM138 p s m meth c D U Y0 av) {this adial amists aword anightHill anightHow : Nat} {h : Int64} {f : Nat → Int32} (hav : av = [.ref this, .long h]) (hL0 : z_L D Y0 this s.heap f) (hb0 : 0 ≤ (f 0).toInt ∧ (f 0).toInt ≤ 10) (hb1 : 0 ≤ (f 1).toInt ∧ (f 1).toInt ≤ 8) (hb2 : 0 ≤ (f 2).toInt ∧ (f 2).toInt ≤ 8)  :
    ∀ (n : Nat), ∀ (H : Heap) (Y : xY) (locs : List Loc) (ls : Array Slot) (k : Int32) (x : Int64), x_I D x_G x_Zs U (x_efs xM138) Y0 s.heap Y H locs → Y this = some 2 → Y adial = some 27 → Y amists = some 28 → Y aword = some 29 → Y anightHill = some 30 → Y anightHow = some 31 → x_sl D 2 10 this H = some (.ref adial) → x_sl D 2 11 this H = some (.ref amists) → x_sl D 2 13 this H = some (.ref aword) → x_sl D 2 14 this H = some (.ref anightHill) → x_sl D 2 15 this H = some (.ref anightHow) → x_sl D 2 12 this H = some (.int (f 2)) → y_A adial 4 H (fun j => f (4 + 1 * j)) → y_A amists 12 H (fun j => f (116 + 1 * j)) → y_A aword 8 H (fun j => f (128 + 1 * j)) → y_A anightHill 12 H (fun j => f (136 + 2 * j)) → y_A anightHow 12 H (fun j => f (137 + 2 * j)) → z_L D Y this H f → lv_has ls xM138.2.2.1 [(5, .int k), (3, .long x), (0, .ref this), (1, .long h)] → (0 ≤ k.toInt ∧ k.toInt ≤ 4) → (x = m_mxs f 4 h (k.toInt.toNat)) → (13 - k.toInt).toNat < n → W p l e (x_rm xM138) s m av.toArray below meth c H locs 0 0 (y_QQ below D x_G x_Zs U xM138 z_Pdi av Y0 s) (F0 m 5 ls []) := by
  have X := B.1
  have hx := X.1
  have hb := X.2.1
  have hY0 := B.2.2.2.2.1
  intro n
  induction n with
  | zero => intro _ _ _ _ _ _ _ _ _ _ _ _ _ _ _ _ _ _ _ _ _ _ _ _ _ _ _ _ h; exact absurd h (Nat.not_lt_zero _)
  | succ n ih =>
    intro H Y locs ls k x  hI hY_this hY_adial hY_amists hY_aword hY_anightHill hY_anightHow hs_adial hs_amists hs_aword hs_anightHill hs_anightHow hsi_letters hA_adial hA_amists hA_aword hA_anightHill hA_anightHow hL hl hk hx9 hn
    refine lv_iload hx hb diq_d5 (lv_at hl 0 rfl) ?_
    refine lv_iconst hx hb diq_d7 (v := 3) (by decide) ?_
    have ec3 : (3 : Int32).toInt = 3 := by decide
    refine lv_icmp_gt hx hb diq_d8 (tgt := 30) (by decide) (fun q8 => ?_) (fun q8 => ?_)
    · have q8_ : (3 : Int32).toInt < k.toInt := x_lt32.mp q8
      refine lv_iconst hx hb diq_d30 (v := 0) (by decide) ?_
      have ec0 : (0 : Int32).toInt = 0 := by decide
      refine lv_istore hx hb diq_d31 hl (by decide) (lv' := [(5, .int (0 : Int32)), (3, .long x), (0, .ref this), (1, .long h)]) rfl fun ls hl => ?_
      exact diq_L33 B hav hL0 hb0 hb1 hb2 14 _ _ _ _ _ _ hI hY_this hY_adial hY_amists hY_aword hY_anightHill hY_anightHow hs_adial hs_amists hs_aword hs_anightHill hs_anightHow hsi_letters hA_adial hA_amists hA_aword hA_anightHill hA_anightHow hL (lv_sub hl [0, 1, 2, 3] rfl) (by first | assumption | omega) (by rw [z_i0]; show x = m_mxs f 4 h 4; exact Eq.trans hx9 (congrArg (m_mxs f 4 h) (by omega))) (by omega)
    · have q8_ : k.toInt ≤ (3 : Int32).toInt := Int.not_lt.mp fun q => q8 (x_lt32.mpr q)
      refine lv_lload_n hx hb diq_d11 rfl (lv_at hl 1 rfl) ?_
      refine lv_aload_n hx hb diq_d12 rfl (lv_at hl 2 rfl) ?_
      refine y_getf X (fl44 X.2.2.2.2.1) hI.1 hY_this rfl hs_adial diq_d13 ?_
      refine lv_iload hx hb diq_d16 (lv_at hl 0 rfl) ?_
      refine y_iald X hI.1 hY_adial rfl hA_adial (by omega) (by show _ < (4 : Int); omega) diq_d18 ?_
      obtain ⟨e18, hg_e18⟩ : ∃ e18 : Int32, f (4 + 1 * k.toInt.toNat) = e18 := ⟨_, rfl⟩
      rw [hg_e18]
      obtain ⟨z19, hg_z19⟩ : ∃ z19 : Int64, e18.toInt64 = z19 := ⟨_, rfl⟩
      have h_z19 : z19.toInt = (e18).toInt := by rw [← hg_z19]; exact Int32.toInt_toInt64 _
      refine lv_i2l hx hb diq_d19 (v := z19) hg_z19 ?_
      refine y_call (z := (1, 140, 2, none, xM135)) (av := [.long x, .long z19]) (rest := []) (y_cokSN (n := 2) (host := "TwinFires") X ym_mixed (x_cons (x_bw60 9 rfl rfl) (x_cons (x_bw0 1 rfl rfl) x_nilm)) (x_bn61 0 rfl rfl) (x_bw60 10 rfl rfl) (by decide +kernel) ⟨Nat.le_of_ble_eq_true rfl, Nat.le_of_ble_eq_true rfl⟩) hY0 hI rfl diq_d20 hl.1 (Nat.le_of_ble_eq_true rfl) (Nat.le_of_ble_eq_true rfl) (Nat.le_of_ble_eq_true rfl) (y_cons ⟨_, rfl, x_i64 _⟩ (y_cons ⟨_, rfl, x_i64 _⟩ y_nil)) rfl (y_norecv rfl) trivial (y_sub_ef rfl) fun v Yn o Hn L ho hr ha hIn hx_ hE hP => ?_
      replace hs_adial := y_Efld hE hY_this rfl (by decide) (by decide) hs_adial
      replace hs_amists := y_Efld hE hY_this rfl (by decide) (by decide) hs_amists
      replace hs_aword := y_Efld hE hY_this rfl (by decide) (by decide) hs_aword
      replace hs_anightHill := y_Efld hE hY_this rfl (by decide) (by decide) hs_anightHill
      replace hs_anightHow := y_Efld hE hY_this rfl (by decide) (by decide) hs_anightHow
      replace hsi_letters := y_Efld hE hY_this rfl (by decide) (by decide) hsi_letters
      replace hA_adial := hA_adial.kept (y_Earr hE hY_adial rfl (by decide))
      replace hA_amists := hA_amists.kept (y_Earr hE hY_amists rfl (by decide))
      replace hA_aword := hA_aword.kept (y_Earr hE hY_aword rfl (by decide))
      replace hA_anightHill := hA_anightHill.kept (y_Earr hE hY_anightHill rfl (by decide))
      replace hA_anightHow := hA_anightHow.kept (y_Earr hE hY_anightHow rfl (by decide))
      replace hL := hL.E hY_this hE (fun q u h => y_ext hx_ hI.1 h) (by decide +kernel)
      replace hY_this := y_ext hx_ hI.1 hY_this
      replace hY_adial := y_ext hx_ hI.1 hY_adial
      replace hY_amists := y_ext hx_ hI.1 hY_amists
      replace hY_aword := y_ext hx_ hI.1 hY_aword
      replace hY_anightHill := y_ext hx_ hI.1 hY_anightHill
      replace hY_anightHow := y_ext hx_ hI.1 hY_anightHow
      obtain rfl := hP _ _ rfl
      generalize hg_r20 : 31 * x + z19 = r20
      clear ho hr ha hE hP hI hx_
      rename x_I _ _ _ _ _ _ _ _ _ _ => hI
      refine lv_lstore_n hx hb diq_d23 rfl hl (by decide) (lv' := [(3, .long r20), (5, .int k), (0, .ref this), (1, .long h)]) rfl fun ls hl => ?_
      obtain ⟨z24, hg_z24⟩ : ∃ z24 : Int32, k + Int32.ofInt 1 = z24 := ⟨_, rfl⟩
      have h_z24 : z24.toInt = k.toInt + 1 := by rw [← hg_z24]; exact y_inc (by decide) (by omega) (by omega)
      refine lv_iinc hx hb diq_d24 hl (k := 1) rfl hg_z24 (by decide) (lv' := [(5, .int z24), (3, .long r20), (0, .ref this), (1, .long h)]) rfl fun ls hl => ?_
      refine lv_goto hx hb diq_d27 (tgt := 5) (by decide) ?_
      have his : z24.toInt.toNat = k.toInt.toNat + 1 := by omega
      have ae18 : f (4 + k.toInt.toNat) = e18 := Eq.trans (congrArg f (by omega)) hg_e18
      exact ih _ _ _ _ _ _ hI hY_this hY_adial hY_amists hY_aword hY_anightHill hY_anightHow hs_adial hs_amists hs_aword hs_anightHill hs_anightHow hsi_letters hA_adial hA_amists hA_aword hA_anightHill hA_anightHow hL (lv_sub hl [0, 1, 2, 3] rfl) (by first | assumption | omega) (by rw [his]; show _ = 31 * (m_mxs f 4 h (k.toInt.toNat)) + (f (4 + k.toInt.toNat)).toInt64; rw [← hx9, ae18, hg_z19, hg_r20]) (by omega)
theorem ym_digI : y_Met vwCl x_G x_Zs x_Tb x_Nb xM138 z_AL z_Pdi := by
  refine y_main (by decide +kernel) (by decide +kernel) x_Tb_good x_Nb_ok ?_
  intro p l e s m below meth c D U Y0 av ls B hI hAL hl
  have X := B.1
  have hx := X.1
  have hb := X.2.1
  have hY0 := B.2.2.2.2.1
  obtain ⟨v0, v1, rfl, hv0, ⟨h, rfl, -⟩⟩ := x_two B.2.2.2.2.2
  obtain ⟨this, t0, rfl, ht0, hY_this⟩ := x_ref_at hv0 rfl
  obtain rfl := List.mem_singleton.mp ht0
  replace hl : lv_has ls xM138.2.2.1 [(0, .ref this), (1, .long h)] := hl
  obtain ⟨f, hL⟩ := hAL _ rfl
  have hL0 := hL
  have hn0 := hL.1.1
  have hn1 := hL.1.2.1
  have hn2 := hL.1.2.2
  have hb0 : 0 ≤ (f 0).toInt ∧ (f 0).toInt ≤ 10 := by obtain ⟨x9, e9, b9⟩ := y_fldI (k := 0) hI.1 hY_this rfl rfl; rw [hn0] at e9; cases e9; exact b9
  have hb1 : 0 ≤ (f 1).toInt ∧ (f 1).toInt ≤ 8 := by obtain ⟨x9, e9, b9⟩ := y_fldI (k := 6) hI.1 hY_this rfl rfl; rw [hn1] at e9; cases e9; exact b9
  have hb2 : 0 ≤ (f 2).toInt ∧ (f 2).toInt ≤ 8 := by obtain ⟨x9, e9, b9⟩ := y_fldI (k := 12) hI.1 hY_this rfl rfl; rw [hn2] at e9; cases e9; exact b9
  obtain ⟨adial, hs_adial, hY_adial, hA_adial⟩ := hL.2.1 (10, 27, 4, 4, 1) (by decide)
  replace hA_adial : y_A adial 4 s.heap (fun j => f (4 + 1 * j)) := hA_adial
  obtain ⟨amists, hs_amists, hY_amists, hA_amists⟩ := hL.2.1 (11, 28, 12, 116, 1) (by decide)
  replace hA_amists : y_A amists 12 s.heap (fun j => f (116 + 1 * j)) := hA_amists
  obtain ⟨aword, hs_aword, hY_aword, hA_aword⟩ := hL.2.1 (13, 29, 8, 128, 1) (by decide)
  replace hA_aword : y_A aword 8 s.heap (fun j => f (128 + 1 * j)) := hA_aword
  obtain ⟨anightHill, hs_anightHill, hY_anightHill, hA_anightHill⟩ := hL.2.1 (14, 30, 12, 136, 2) (by decide)
  replace hA_anightHill : y_A anightHill 12 s.heap (fun j => f (136 + 2 * j)) := hA_anightHill
  obtain ⟨anightHow, hs_anightHow, hY_anightHow, hA_anightHow⟩ := hL.2.1 (15, 31, 12, 137, 2) (by decide)
  replace hA_anightHow : y_A anightHow 12 s.heap (fun j => f (137 + 2 * j)) := hA_anightHow
  have hsi_letters := hn2
  refine lv_lload_n hx hb diq_d0 rfl (lv_at hl 1 rfl) ?_
  refine lv_lstore_n hx hb diq_d1 rfl hl (by decide) (lv' := [(3, .long h), (0, .ref this), (1, .long h)]) rfl fun ls hl => ?_
  refine lv_iconst hx hb diq_d2 (v := 0) (by decide) ?_
  have ec0 : (0 : Int32).toInt = 0 := by decide
  refine lv_istore hx hb diq_d3 hl (by decide) (lv' := [(5, .int (0 : Int32)), (3, .long h), (0, .ref this), (1, .long h)]) rfl fun ls hl => ?_
  exact diq_L5 B rfl hL0 hb0 hb1 hb2 14 _ _ _ _ _ _ hI hY_this hY_adial hY_amists hY_aword hY_anightHill hY_anightHow hs_adial hs_amists hs_aword hs_anightHill hs_anightHow hsi_letters hA_adial hA_amists hA_aword hA_anightHill hA_anightHow hL (lv_sub hl [0, 1, 2, 3] rfl) (by first | assumption | omega) (by rw [z_i0]; rfl) (by omega)
def z_PTdig : yP := fun D av Y H v _ _ => ∀ (this : Nat) (f : Nat → Int32) (K : Nat → Option (Nat → Int32)) (t9 : Nat → Int32) (n9 : Int32), av = [.ref this] → z_RC D Y H this f K t9 n9 → ∀ (fa fb : Int64), z_FR D H this fa fb → v = some (.long (m_dg f n9 fa fb))
theorem dgq_d0 : decode xM139.2.1 0 = .ok (.ldc2_w 299, 3) := dz_ok (by decide +kernel)
theorem dgq_d3 : decode xM139.2.1 3 = .ok (.lstore_n 1, 1) := dz_ok (by decide +kernel)
theorem dgq_d4 : decode xM139.2.1 4 = .ok (.lload_n 1, 1) := dz_ok (by decide +kernel)
theorem dgq_d5 : decode xM139.2.1 5 = .ok (.aload_n 0, 1) := dz_ok (by decide +kernel)
theorem dgq_d6 : decode xM139.2.1 6 = .ok (.getfield 12, 3) := dz_ok (by decide +kernel)
theorem dgq_d9 : decode xM139.2.1 9 = .ok (.getfield 273, 3) := dz_ok (by decide +kernel)
theorem dgq_d12 : decode xM139.2.1 12 = .ok (.i2l, 1) := dz_ok (by decide +kernel)
theorem dgq_d13 : decode xM139.2.1 13 = .ok (.invokestatic 301, 3) := dz_ok (by decide +kernel)
theorem dgq_d16 : decode xM139.2.1 16 = .ok (.lstore_n 1, 1) := dz_ok (by decide +kernel)
theorem dgq_d17 : decode xM139.2.1 17 = .ok (.lload_n 1, 1) := dz_ok (by decide +kernel)
theorem dgq_d18 : decode xM139.2.1 18 = .ok (.aload_n 0, 1) := dz_ok (by decide +kernel)
theorem dgq_d19 : decode xM139.2.1 19 = .ok (.getfield 12, 3) := dz_ok (by decide +kernel)
theorem dgq_d22 : decode xM139.2.1 22 = .ok (.getfield 293, 3) := dz_ok (by decide +kernel)
theorem dgq_d25 : decode xM139.2.1 25 = .ok (.i2l, 1) := dz_ok (by decide +kernel)
theorem dgq_d26 : decode xM139.2.1 26 = .ok (.invokestatic 301, 3) := dz_ok (by decide +kernel)
theorem dgq_d29 : decode xM139.2.1 29 = .ok (.lstore_n 1, 1) := dz_ok (by decide +kernel)
theorem dgq_d30 : decode xM139.2.1 30 = .ok (.lload_n 1, 1) := dz_ok (by decide +kernel)
theorem dgq_d31 : decode xM139.2.1 31 = .ok (.aload_n 0, 1) := dz_ok (by decide +kernel)
theorem dgq_d32 : decode xM139.2.1 32 = .ok (.getfield 26, 3) := dz_ok (by decide +kernel)
theorem dgq_d35 : decode xM139.2.1 35 = .ok (.getfield 145, 3) := dz_ok (by decide +kernel)
theorem dgq_d38 : decode xM139.2.1 38 = .ok (.i2l, 1) := dz_ok (by decide +kernel)
theorem dgq_d39 : decode xM139.2.1 39 = .ok (.invokestatic 301, 3) := dz_ok (by decide +kernel)
theorem dgq_d42 : decode xM139.2.1 42 = .ok (.lstore_n 1, 1) := dz_ok (by decide +kernel)
theorem dgq_d43 : decode xM139.2.1 43 = .ok (.lload_n 1, 1) := dz_ok (by decide +kernel)
theorem dgq_d44 : decode xM139.2.1 44 = .ok (.aload_n 0, 1) := dz_ok (by decide +kernel)
theorem dgq_d45 : decode xM139.2.1 45 = .ok (.getfield 12, 3) := dz_ok (by decide +kernel)
theorem dgq_d48 : decode xM139.2.1 48 = .ok (.invokevirtual 296, 3) := dz_ok (by decide +kernel)
theorem dgq_d51 : decode xM139.2.1 51 = .ok (.i2l, 1) := dz_ok (by decide +kernel)
theorem dgq_d52 : decode xM139.2.1 52 = .ok (.invokestatic 301, 3) := dz_ok (by decide +kernel)
theorem dgq_d55 : decode xM139.2.1 55 = .ok (.lstore_n 1, 1) := dz_ok (by decide +kernel)
theorem dgq_d56 : decode xM139.2.1 56 = .ok (.lload_n 1, 1) := dz_ok (by decide +kernel)
theorem dgq_d57 : decode xM139.2.1 57 = .ok (.aload_n 0, 1) := dz_ok (by decide +kernel)
theorem dgq_d58 : decode xM139.2.1 58 = .ok (.getfield 12, 3) := dz_ok (by decide +kernel)
theorem dgq_d61 : decode xM139.2.1 61 = .ok (.getfield 254, 3) := dz_ok (by decide +kernel)
theorem dgq_d64 : decode xM139.2.1 64 = .ok (.i2l, 1) := dz_ok (by decide +kernel)
theorem dgq_d65 : decode xM139.2.1 65 = .ok (.invokestatic 301, 3) := dz_ok (by decide +kernel)
theorem dgq_d68 : decode xM139.2.1 68 = .ok (.lstore_n 1, 1) := dz_ok (by decide +kernel)
theorem dgq_d69 : decode xM139.2.1 69 = .ok (.aload_n 0, 1) := dz_ok (by decide +kernel)
theorem dgq_d70 : decode xM139.2.1 70 = .ok (.getfield 12, 3) := dz_ok (by decide +kernel)
theorem dgq_d73 : decode xM139.2.1 73 = .ok (.lload_n 1, 1) := dz_ok (by decide +kernel)
theorem dgq_d74 : decode xM139.2.1 74 = .ok (.invokevirtual 305, 3) := dz_ok (by decide +kernel)
theorem dgq_d77 : decode xM139.2.1 77 = .ok (.lstore_n 1, 1) := dz_ok (by decide +kernel)
theorem dgq_d78 : decode xM139.2.1 78 = .ok (.aload_n 0, 1) := dz_ok (by decide +kernel)
theorem dgq_d79 : decode xM139.2.1 79 = .ok (.getfield 12, 3) := dz_ok (by decide +kernel)
theorem dgq_d82 : decode xM139.2.1 82 = .ok (.lload_n 1, 1) := dz_ok (by decide +kernel)
theorem dgq_d83 : decode xM139.2.1 83 = .ok (.invokevirtual 309, 3) := dz_ok (by decide +kernel)
theorem dgq_d86 : decode xM139.2.1 86 = .ok (.lstore_n 1, 1) := dz_ok (by decide +kernel)
theorem dgq_d87 : decode xM139.2.1 87 = .ok (.aload_n 0, 1) := dz_ok (by decide +kernel)
theorem dgq_d88 : decode xM139.2.1 88 = .ok (.getfield 12, 3) := dz_ok (by decide +kernel)
theorem dgq_d91 : decode xM139.2.1 91 = .ok (.lload_n 1, 1) := dz_ok (by decide +kernel)
theorem dgq_d92 : decode xM139.2.1 92 = .ok (.invokevirtual 312, 3) := dz_ok (by decide +kernel)
theorem dgq_d95 : decode xM139.2.1 95 = .ok (.lstore_n 1, 1) := dz_ok (by decide +kernel)
theorem dgq_d96 : decode xM139.2.1 96 = .ok (.lload_n 1, 1) := dz_ok (by decide +kernel)
theorem dgq_d97 : decode xM139.2.1 97 = .ok (.aload_n 0, 1) := dz_ok (by decide +kernel)
theorem dgq_d98 : decode xM139.2.1 98 = .ok (.getfield 48, 3) := dz_ok (by decide +kernel)
theorem dgq_d101 : decode xM139.2.1 101 = .ok (.invokestatic 301, 3) := dz_ok (by decide +kernel)
theorem dgq_d104 : decode xM139.2.1 104 = .ok (.lstore_n 1, 1) := dz_ok (by decide +kernel)
theorem dgq_d105 : decode xM139.2.1 105 = .ok (.lload_n 1, 1) := dz_ok (by decide +kernel)
theorem dgq_d106 : decode xM139.2.1 106 = .ok (.aload_n 0, 1) := dz_ok (by decide +kernel)
theorem dgq_d107 : decode xM139.2.1 107 = .ok (.getfield 52, 3) := dz_ok (by decide +kernel)
theorem dgq_d110 : decode xM139.2.1 110 = .ok (.invokestatic 301, 3) := dz_ok (by decide +kernel)
theorem dgq_d113 : decode xM139.2.1 113 = .ok (.lreturn, 1) := dz_ok (by decide +kernel)
theorem ym_Tdigest : y_Met vwCl x_G x_Zs x_Tb x_Nb xM139 z_ATF z_PTdig := by
  refine y_main (by decide +kernel) (by decide +kernel) x_Tb_good x_Nb_ok ?_
  intro p l e s m below meth c D U Y0 av ls B hI hpre hl
  have X := B.1
  have hx := X.1
  have hb := X.2.1
  have hY0 := B.2.2.2.2.1
  obtain ⟨v0, rfl, hv0⟩ := x_one B.2.2.2.2.2
  obtain ⟨this, t0, rfl, ht0, hY_this⟩ := x_ref_at hv0 rfl
  obtain rfl := List.mem_singleton.mp ht0
  replace hl : lv_has ls xM139.2.2.1 [(0, .ref this)] := hl
  obtain ⟨f, K, tt, nn, hR0⟩ := hpre _ rfl
  obtain ⟨hd, dr, kp, tx, by_, kk, ⟨hs_hd, -, -, hs_tx, -, hs_len⟩, ⟨hY_hd, -, -, hY_tx, -⟩, hL, -⟩ := id hR0
  have hn0 := hL.1.1
  have hn1 := hL.1.2.1
  have hn2 := hL.1.2.2
  obtain ⟨fa, hs_fa⟩ := y_fldL (k := 7) hI.1 hY_this rfl rfl
  obtain ⟨fb, hs_fb⟩ := y_fldL (k := 8) hI.1 hY_this rfl rfl
  have hfa0 := hs_fa
  have hfb0 := hs_fb
  refine lv_ldc2 hx hb X.2.2.2.1 (v := 619) (X.2.2.2.2.1 _ (x_bw60 7 rfl rfl)) dgq_d0 ?_
  have el619 : (619 : Int64).toInt = 619 := by decide
  refine lv_lstore_n hx hb dgq_d3 rfl hl (by decide) (lv' := [(1, .long (619 : Int64)), (0, .ref this)]) rfl fun ls hl => ?_
  refine lv_lload_n hx hb dgq_d4 rfl (lv_at hl 0 rfl) ?_
  refine lv_aload_n hx hb dgq_d5 rfl (lv_at hl 1 rfl) ?_
  refine y_getf X (fl8 X.2.2.2.2.1) hI.1 hY_this rfl hs_hd dgq_d6 ?_
  refine y_getf X (fl153 X.2.2.2.2.1) hI.1 hY_hd rfl hn0 dgq_d9 ?_
  obtain ⟨z12, hg_z12⟩ : ∃ z12 : Int64, ((f 0)).toInt64 = z12 := ⟨_, rfl⟩
  have h_z12 : z12.toInt = ((f 0)).toInt := by rw [← hg_z12]; exact Int32.toInt_toInt64 _
  refine lv_i2l hx hb dgq_d12 (v := z12) hg_z12 ?_
  refine y_call (z := (1, 301, 2, none, xM135)) (av := [.long (619 : Int64), .long z12]) (rest := []) (y_cokS (n := 2) X ym_mixed (x_cons (x_bw60 8 rfl rfl) (x_cons (x_bw60 9 rfl rfl) (x_cons (x_bw0 1 rfl rfl) x_nilm))) (x_bw60 10 rfl rfl) (by decide +kernel) ⟨Nat.le_of_ble_eq_true rfl, Nat.le_of_ble_eq_true rfl⟩) hY0 hI rfl dgq_d13 hl.1 (Nat.le_of_ble_eq_true rfl) (Nat.le_of_ble_eq_true rfl) (Nat.le_of_ble_eq_true rfl) (y_cons ⟨_, rfl, x_i64 _⟩ (y_cons ⟨_, rfl, x_i64 _⟩ y_nil)) rfl (y_norecv rfl) trivial (y_sub_ef rfl) fun v Yn o Hn L ho hr ha hIn hx_ hE hP => ?_
  replace hs_hd := y_Efld hE hY_this rfl (by decide) (by decide) hs_hd
  replace hs_tx := y_Efld hE hY_this rfl (by decide) (by decide) hs_tx
  replace hs_fa := y_Efld hE hY_this rfl (by decide) (by decide) hs_fa
  replace hs_fb := y_Efld hE hY_this rfl (by decide) (by decide) hs_fb
  replace hn0 := y_Efld hE hY_hd rfl (by decide) (by decide) hn0
  replace hn1 := y_Efld hE hY_hd rfl (by decide) (by decide) hn1
  replace hn2 := y_Efld hE hY_hd rfl (by decide) (by decide) hn2
  replace hs_len := y_Efld hE hY_tx rfl (by decide) (by decide) hs_len
  replace hL := hL.E hY_hd hE (fun q u h => y_ext hx_ hI.1 h) (by decide +kernel)
  replace hY_this := y_ext hx_ hI.1 hY_this
  replace hY_hd := y_ext hx_ hI.1 hY_hd
  replace hY_tx := y_ext hx_ hI.1 hY_tx
  obtain rfl := hP _ _ rfl
  generalize hg_r13 : 31 * (619 : Int64) + z12 = r13
  clear ho hr ha hE hP hI hx_
  rename x_I _ _ _ _ _ _ _ _ _ _ => hI
  refine lv_lstore_n hx hb dgq_d16 rfl hl (by decide) (lv' := [(1, .long r13), (0, .ref this)]) rfl fun ls hl => ?_
  refine lv_lload_n hx hb dgq_d17 rfl (lv_at hl 0 rfl) ?_
  refine lv_aload_n hx hb dgq_d18 rfl (lv_at hl 1 rfl) ?_
  refine y_getf X (fl8 X.2.2.2.2.1) hI.1 hY_this rfl hs_hd dgq_d19 ?_
  refine y_getf X (fl159 X.2.2.2.2.1) hI.1 hY_hd rfl hn1 dgq_d22 ?_
  obtain ⟨z25, hg_z25⟩ : ∃ z25 : Int64, ((f 1)).toInt64 = z25 := ⟨_, rfl⟩
  have h_z25 : z25.toInt = ((f 1)).toInt := by rw [← hg_z25]; exact Int32.toInt_toInt64 _
  refine lv_i2l hx hb dgq_d25 (v := z25) hg_z25 ?_
  refine y_call (z := (1, 301, 2, none, xM135)) (av := [.long r13, .long z25]) (rest := []) (y_cokS (n := 2) X ym_mixed (x_cons (x_bw60 8 rfl rfl) (x_cons (x_bw60 9 rfl rfl) (x_cons (x_bw0 1 rfl rfl) x_nilm))) (x_bw60 10 rfl rfl) (by decide +kernel) ⟨Nat.le_of_ble_eq_true rfl, Nat.le_of_ble_eq_true rfl⟩) hY0 hI rfl dgq_d26 hl.1 (Nat.le_of_ble_eq_true rfl) (Nat.le_of_ble_eq_true rfl) (Nat.le_of_ble_eq_true rfl) (y_cons ⟨_, rfl, x_i64 _⟩ (y_cons ⟨_, rfl, x_i64 _⟩ y_nil)) rfl (y_norecv rfl) trivial (y_sub_ef rfl) fun v Yn o Hn L ho hr ha hIn hx_ hE hP => ?_
  replace hs_hd := y_Efld hE hY_this rfl (by decide) (by decide) hs_hd
  replace hs_tx := y_Efld hE hY_this rfl (by decide) (by decide) hs_tx
  replace hs_fa := y_Efld hE hY_this rfl (by decide) (by decide) hs_fa
  replace hs_fb := y_Efld hE hY_this rfl (by decide) (by decide) hs_fb
  replace hn0 := y_Efld hE hY_hd rfl (by decide) (by decide) hn0
  replace hn1 := y_Efld hE hY_hd rfl (by decide) (by decide) hn1
  replace hn2 := y_Efld hE hY_hd rfl (by decide) (by decide) hn2
  replace hs_len := y_Efld hE hY_tx rfl (by decide) (by decide) hs_len
  replace hL := hL.E hY_hd hE (fun q u h => y_ext hx_ hI.1 h) (by decide +kernel)
  replace hY_this := y_ext hx_ hI.1 hY_this
  replace hY_hd := y_ext hx_ hI.1 hY_hd
  replace hY_tx := y_ext hx_ hI.1 hY_tx
  obtain rfl := hP _ _ rfl
  generalize hg_r26 : 31 * r13 + z25 = r26
  clear ho hr ha hE hP hI hx_
  rename x_I _ _ _ _ _ _ _ _ _ _ => hI
  refine lv_lstore_n hx hb dgq_d29 rfl hl (by decide) (lv' := [(1, .long r26), (0, .ref this)]) rfl fun ls hl => ?_
  refine lv_lload_n hx hb dgq_d30 rfl (lv_at hl 0 rfl) ?_
  refine lv_aload_n hx hb dgq_d31 rfl (lv_at hl 1 rfl) ?_
  refine y_getf X (fl120 X.2.2.2.2.1) hI.1 hY_this rfl hs_tx dgq_d32 ?_
  refine y_getf X (fl121 X.2.2.2.2.1) hI.1 hY_tx rfl hs_len dgq_d35 ?_
  obtain ⟨z38, hg_z38⟩ : ∃ z38 : Int64, nn.toInt64 = z38 := ⟨_, rfl⟩
  have h_z38 : z38.toInt = (nn).toInt := by rw [← hg_z38]; exact Int32.toInt_toInt64 _
  refine lv_i2l hx hb dgq_d38 (v := z38) hg_z38 ?_
  refine y_call (z := (1, 301, 2, none, xM135)) (av := [.long r26, .long z38]) (rest := []) (y_cokS (n := 2) X ym_mixed (x_cons (x_bw60 8 rfl rfl) (x_cons (x_bw60 9 rfl rfl) (x_cons (x_bw0 1 rfl rfl) x_nilm))) (x_bw60 10 rfl rfl) (by decide +kernel) ⟨Nat.le_of_ble_eq_true rfl, Nat.le_of_ble_eq_true rfl⟩) hY0 hI rfl dgq_d39 hl.1 (Nat.le_of_ble_eq_true rfl) (Nat.le_of_ble_eq_true rfl) (Nat.le_of_ble_eq_true rfl) (y_cons ⟨_, rfl, x_i64 _⟩ (y_cons ⟨_, rfl, x_i64 _⟩ y_nil)) rfl (y_norecv rfl) trivial (y_sub_ef rfl) fun v Yn o Hn L ho hr ha hIn hx_ hE hP => ?_
  replace hs_hd := y_Efld hE hY_this rfl (by decide) (by decide) hs_hd
  replace hs_tx := y_Efld hE hY_this rfl (by decide) (by decide) hs_tx
  replace hs_fa := y_Efld hE hY_this rfl (by decide) (by decide) hs_fa
  replace hs_fb := y_Efld hE hY_this rfl (by decide) (by decide) hs_fb
  replace hn0 := y_Efld hE hY_hd rfl (by decide) (by decide) hn0
  replace hn1 := y_Efld hE hY_hd rfl (by decide) (by decide) hn1
  replace hn2 := y_Efld hE hY_hd rfl (by decide) (by decide) hn2
  replace hs_len := y_Efld hE hY_tx rfl (by decide) (by decide) hs_len
  replace hL := hL.E hY_hd hE (fun q u h => y_ext hx_ hI.1 h) (by decide +kernel)
  replace hY_this := y_ext hx_ hI.1 hY_this
  replace hY_hd := y_ext hx_ hI.1 hY_hd
  replace hY_tx := y_ext hx_ hI.1 hY_tx
  obtain rfl := hP _ _ rfl
  generalize hg_r39 : 31 * r26 + z38 = r39
  clear ho hr ha hE hP hI hx_
  rename x_I _ _ _ _ _ _ _ _ _ _ => hI
  refine lv_lstore_n hx hb dgq_d42 rfl hl (by decide) (lv' := [(1, .long r39), (0, .ref this)]) rfl fun ls hl => ?_
  refine lv_lload_n hx hb dgq_d43 rfl (lv_at hl 0 rfl) ?_
  refine lv_aload_n hx hb dgq_d44 rfl (lv_at hl 1 rfl) ?_
  refine y_getf X (fl8 X.2.2.2.2.1) hI.1 hY_this rfl hs_hd dgq_d45 ?_
  refine y_call (z := (0, 296, 1, some 2, xM133)) (av := [.ref hd]) (rest := [.long r39]) (y_cokV (n := 0) (ci := 2) X ym_reports rfl rfl rfl (x_cons (x_bw59 15 rfl rfl) (x_cons (x_bw60 0 rfl rfl) (x_cons (x_bw60 1 rfl rfl) (x_cons (x_bw0 2 rfl rfl) x_nilm)))) (x_bw60 2 rfl rfl) (by decide +kernel) ⟨Nat.le_of_ble_eq_true rfl, Nat.le_of_ble_eq_true rfl⟩) hY0 hI rfl dgq_d48 hl.1 (Nat.le_of_ble_eq_true rfl) (Nat.le_of_ble_eq_true rfl) (Nat.le_of_ble_eq_true rfl) (y_cons (y_cref hY_hd rfl) y_nil) rfl (y_recv rfl hY_hd) (fun t' h1 => by cases h1; exact ⟨_, hL⟩) (y_sub_ef rfl) fun v Yn o Hn L ho hr ha hIn hx_ hE hP => ?_
  obtain ⟨r48, rfl, hrp, hrp2⟩ := hP _ _ rfl hL
  replace hs_hd := y_Efld hE hY_this rfl (by decide) (by decide) hs_hd
  replace hs_tx := y_Efld hE hY_this rfl (by decide) (by decide) hs_tx
  replace hs_fa := y_Efld hE hY_this rfl (by decide) (by decide) hs_fa
  replace hs_fb := y_Efld hE hY_this rfl (by decide) (by decide) hs_fb
  replace hn0 := y_Efld hE hY_hd rfl (by decide) (by decide) hn0
  replace hn1 := y_Efld hE hY_hd rfl (by decide) (by decide) hn1
  replace hn2 := y_Efld hE hY_hd rfl (by decide) (by decide) hn2
  replace hs_len := y_Efld hE hY_tx rfl (by decide) (by decide) hs_len
  replace hL := hL.E hY_hd hE (fun q u h => y_ext hx_ hI.1 h) (by decide +kernel)
  replace hY_this := y_ext hx_ hI.1 hY_this
  replace hY_hd := y_ext hx_ hI.1 hY_hd
  replace hY_tx := y_ext hx_ hI.1 hY_tx
  clear ho hr ha hE hP hI hx_
  rename x_I _ _ _ _ _ _ _ _ _ _ => hI
  obtain ⟨z51, hg_z51⟩ : ∃ z51 : Int64, r48.toInt64 = z51 := ⟨_, rfl⟩
  have h_z51 : z51.toInt = (r48).toInt := by rw [← hg_z51]; exact Int32.toInt_toInt64 _
  refine lv_i2l hx hb dgq_d51 (v := z51) hg_z51 ?_
  refine y_call (z := (1, 301, 2, none, xM135)) (av := [.long r39, .long z51]) (rest := []) (y_cokS (n := 2) X ym_mixed (x_cons (x_bw60 8 rfl rfl) (x_cons (x_bw60 9 rfl rfl) (x_cons (x_bw0 1 rfl rfl) x_nilm))) (x_bw60 10 rfl rfl) (by decide +kernel) ⟨Nat.le_of_ble_eq_true rfl, Nat.le_of_ble_eq_true rfl⟩) hY0 hI rfl dgq_d52 hl.1 (Nat.le_of_ble_eq_true rfl) (Nat.le_of_ble_eq_true rfl) (Nat.le_of_ble_eq_true rfl) (y_cons ⟨_, rfl, x_i64 _⟩ (y_cons ⟨_, rfl, x_i64 _⟩ y_nil)) rfl (y_norecv rfl) trivial (y_sub_ef rfl) fun v Yn o Hn L ho hr ha hIn hx_ hE hP => ?_
  replace hs_hd := y_Efld hE hY_this rfl (by decide) (by decide) hs_hd
  replace hs_tx := y_Efld hE hY_this rfl (by decide) (by decide) hs_tx
  replace hs_fa := y_Efld hE hY_this rfl (by decide) (by decide) hs_fa
  replace hs_fb := y_Efld hE hY_this rfl (by decide) (by decide) hs_fb
  replace hn0 := y_Efld hE hY_hd rfl (by decide) (by decide) hn0
  replace hn1 := y_Efld hE hY_hd rfl (by decide) (by decide) hn1
  replace hn2 := y_Efld hE hY_hd rfl (by decide) (by decide) hn2
  replace hs_len := y_Efld hE hY_tx rfl (by decide) (by decide) hs_len
  replace hL := hL.E hY_hd hE (fun q u h => y_ext hx_ hI.1 h) (by decide +kernel)
  replace hY_this := y_ext hx_ hI.1 hY_this
  replace hY_hd := y_ext hx_ hI.1 hY_hd
  replace hY_tx := y_ext hx_ hI.1 hY_tx
  obtain rfl := hP _ _ rfl
  generalize hg_r52 : 31 * r39 + z51 = r52
  clear ho hr ha hE hP hI hx_
  rename x_I _ _ _ _ _ _ _ _ _ _ => hI
  refine lv_lstore_n hx hb dgq_d55 rfl hl (by decide) (lv' := [(1, .long r52), (0, .ref this)]) rfl fun ls hl => ?_
  refine lv_lload_n hx hb dgq_d56 rfl (lv_at hl 0 rfl) ?_
  refine lv_aload_n hx hb dgq_d57 rfl (lv_at hl 1 rfl) ?_
  refine y_getf X (fl8 X.2.2.2.2.1) hI.1 hY_this rfl hs_hd dgq_d58 ?_
  refine y_getf X (fl142 X.2.2.2.2.1) hI.1 hY_hd rfl hn2 dgq_d61 ?_
  obtain ⟨z64, hg_z64⟩ : ∃ z64 : Int64, ((f 2)).toInt64 = z64 := ⟨_, rfl⟩
  have h_z64 : z64.toInt = ((f 2)).toInt := by rw [← hg_z64]; exact Int32.toInt_toInt64 _
  refine lv_i2l hx hb dgq_d64 (v := z64) hg_z64 ?_
  refine y_call (z := (1, 301, 2, none, xM135)) (av := [.long r52, .long z64]) (rest := []) (y_cokS (n := 2) X ym_mixed (x_cons (x_bw60 8 rfl rfl) (x_cons (x_bw60 9 rfl rfl) (x_cons (x_bw0 1 rfl rfl) x_nilm))) (x_bw60 10 rfl rfl) (by decide +kernel) ⟨Nat.le_of_ble_eq_true rfl, Nat.le_of_ble_eq_true rfl⟩) hY0 hI rfl dgq_d65 hl.1 (Nat.le_of_ble_eq_true rfl) (Nat.le_of_ble_eq_true rfl) (Nat.le_of_ble_eq_true rfl) (y_cons ⟨_, rfl, x_i64 _⟩ (y_cons ⟨_, rfl, x_i64 _⟩ y_nil)) rfl (y_norecv rfl) trivial (y_sub_ef rfl) fun v Yn o Hn L ho hr ha hIn hx_ hE hP => ?_
  replace hs_hd := y_Efld hE hY_this rfl (by decide) (by decide) hs_hd
  replace hs_tx := y_Efld hE hY_this rfl (by decide) (by decide) hs_tx
  replace hs_fa := y_Efld hE hY_this rfl (by decide) (by decide) hs_fa
  replace hs_fb := y_Efld hE hY_this rfl (by decide) (by decide) hs_fb
  replace hn0 := y_Efld hE hY_hd rfl (by decide) (by decide) hn0
  replace hn1 := y_Efld hE hY_hd rfl (by decide) (by decide) hn1
  replace hn2 := y_Efld hE hY_hd rfl (by decide) (by decide) hn2
  replace hs_len := y_Efld hE hY_tx rfl (by decide) (by decide) hs_len
  replace hL := hL.E hY_hd hE (fun q u h => y_ext hx_ hI.1 h) (by decide +kernel)
  replace hY_this := y_ext hx_ hI.1 hY_this
  replace hY_hd := y_ext hx_ hI.1 hY_hd
  replace hY_tx := y_ext hx_ hI.1 hY_tx
  obtain rfl := hP _ _ rfl
  generalize hg_r65 : 31 * r52 + z64 = r65
  clear ho hr ha hE hP hI hx_
  rename x_I _ _ _ _ _ _ _ _ _ _ => hI
  refine lv_lstore_n hx hb dgq_d68 rfl hl (by decide) (lv' := [(1, .long r65), (0, .ref this)]) rfl fun ls hl => ?_
  refine lv_aload_n hx hb dgq_d69 rfl (lv_at hl 1 rfl) ?_
  refine y_getf X (fl8 X.2.2.2.2.1) hI.1 hY_this rfl hs_hd dgq_d70 ?_
  refine lv_lload_n hx hb dgq_d73 rfl (lv_at hl 0 rfl) ?_
  refine y_call (z := (0, 305, 2, some 2, xM136)) (av := [.ref hd, .long r65]) (rest := []) (y_cokV (n := 1) (ci := 2) X ym_digH rfl rfl rfl (x_cons (x_bw60 12 rfl rfl) (x_cons (x_bw60 13 rfl rfl) (x_cons (x_bw60 14 rfl rfl) (x_cons (x_bw0 2 rfl rfl) x_nilm)))) (x_bw60 15 rfl rfl) (by decide +kernel) ⟨Nat.le_of_ble_eq_true rfl, Nat.le_of_ble_eq_true rfl⟩) hY0 hI rfl dgq_d74 hl.1 (Nat.le_of_ble_eq_true rfl) (Nat.le_of_ble_eq_true rfl) (Nat.le_of_ble_eq_true rfl) (y_cons (y_cref hY_hd rfl) (y_cons ⟨_, rfl, x_i64 _⟩ y_nil)) rfl (y_recv rfl hY_hd) (fun t' h1 => by cases h1; exact ⟨_, hL⟩) (y_sub_ef rfl) fun v Yn o Hn L ho hr ha hIn hx_ hE hP => ?_
  have hPd := hP _ _ _ rfl hL
  obtain rfl := hPd
  replace hs_hd := y_Efld hE hY_this rfl (by decide) (by decide) hs_hd
  replace hs_tx := y_Efld hE hY_this rfl (by decide) (by decide) hs_tx
  replace hs_fa := y_Efld hE hY_this rfl (by decide) (by decide) hs_fa
  replace hs_fb := y_Efld hE hY_this rfl (by decide) (by decide) hs_fb
  replace hn0 := y_Efld hE hY_hd rfl (by decide) (by decide) hn0
  replace hn1 := y_Efld hE hY_hd rfl (by decide) (by decide) hn1
  replace hn2 := y_Efld hE hY_hd rfl (by decide) (by decide) hn2
  replace hs_len := y_Efld hE hY_tx rfl (by decide) (by decide) hs_len
  replace hL := hL.E hY_hd hE (fun q u h => y_ext hx_ hI.1 h) (by decide +kernel)
  replace hY_this := y_ext hx_ hI.1 hY_this
  replace hY_hd := y_ext hx_ hI.1 hY_hd
  replace hY_tx := y_ext hx_ hI.1 hY_tx
  generalize hg_r74 : m_mxs f 10 r65 (5 * (f 0).toInt.toNat) = r74
  clear ho hr ha hE hP hI hx_
  rename x_I _ _ _ _ _ _ _ _ _ _ => hI
  refine lv_lstore_n hx hb dgq_d77 rfl hl (by decide) (lv' := [(1, .long r74), (0, .ref this)]) rfl fun ls hl => ?_
  refine lv_aload_n hx hb dgq_d78 rfl (lv_at hl 1 rfl) ?_
  refine y_getf X (fl8 X.2.2.2.2.1) hI.1 hY_this rfl hs_hd dgq_d79 ?_
  refine lv_lload_n hx hb dgq_d82 rfl (lv_at hl 0 rfl) ?_
  refine y_call (z := (0, 309, 2, some 2, xM137)) (av := [.ref hd, .long r74]) (rest := []) (y_cokV (n := 1) (ci := 2) X ym_digT rfl rfl rfl (x_cons (x_bw61 1 rfl rfl) (x_cons (x_bw61 2 rfl rfl) (x_cons (x_bw61 3 rfl rfl) (x_cons (x_bw0 2 rfl rfl) x_nilm)))) (x_bw61 4 rfl rfl) (by decide +kernel) ⟨Nat.le_of_ble_eq_true rfl, Nat.le_of_ble_eq_true rfl⟩) hY0 hI rfl dgq_d83 hl.1 (Nat.le_of_ble_eq_true rfl) (Nat.le_of_ble_eq_true rfl) (Nat.le_of_ble_eq_true rfl) (y_cons (y_cref hY_hd rfl) (y_cons ⟨_, rfl, x_i64 _⟩ y_nil)) rfl (y_recv rfl hY_hd) (fun t' h1 => by cases h1; exact ⟨_, hL⟩) (y_sub_ef rfl) fun v Yn o Hn L ho hr ha hIn hx_ hE hP => ?_
  have hPd := hP _ _ _ rfl hL
  obtain rfl := hPd
  replace hs_hd := y_Efld hE hY_this rfl (by decide) (by decide) hs_hd
  replace hs_tx := y_Efld hE hY_this rfl (by decide) (by decide) hs_tx
  replace hs_fa := y_Efld hE hY_this rfl (by decide) (by decide) hs_fa
  replace hs_fb := y_Efld hE hY_this rfl (by decide) (by decide) hs_fb
  replace hn0 := y_Efld hE hY_hd rfl (by decide) (by decide) hn0
  replace hn1 := y_Efld hE hY_hd rfl (by decide) (by decide) hn1
  replace hn2 := y_Efld hE hY_hd rfl (by decide) (by decide) hn2
  replace hs_len := y_Efld hE hY_tx rfl (by decide) (by decide) hs_len
  replace hL := hL.E hY_hd hE (fun q u h => y_ext hx_ hI.1 h) (by decide +kernel)
  replace hY_this := y_ext hx_ hI.1 hY_this
  replace hY_hd := y_ext hx_ hI.1 hY_hd
  replace hY_tx := y_ext hx_ hI.1 hY_tx
  generalize hg_r83 : m_mxs f 60 r74 (7 * (f 1).toInt.toNat) = r83
  clear ho hr ha hE hP hI hx_
  rename x_I _ _ _ _ _ _ _ _ _ _ => hI
  refine lv_lstore_n hx hb dgq_d86 rfl hl (by decide) (lv' := [(1, .long r83), (0, .ref this)]) rfl fun ls hl => ?_
  refine lv_aload_n hx hb dgq_d87 rfl (lv_at hl 1 rfl) ?_
  refine y_getf X (fl8 X.2.2.2.2.1) hI.1 hY_this rfl hs_hd dgq_d88 ?_
  refine lv_lload_n hx hb dgq_d91 rfl (lv_at hl 0 rfl) ?_
  refine y_call (z := (0, 312, 2, some 2, xM138)) (av := [.ref hd, .long r83]) (rest := []) (y_cokV (n := 1) (ci := 2) X ym_digI rfl rfl rfl (x_cons (x_bw61 5 rfl rfl) (x_cons (x_bw61 6 rfl rfl) (x_cons (x_bw61 7 rfl rfl) (x_cons (x_bw0 2 rfl rfl) x_nilm)))) (x_bw61 8 rfl rfl) (by decide +kernel) ⟨Nat.le_of_ble_eq_true rfl, Nat.le_of_ble_eq_true rfl⟩) hY0 hI rfl dgq_d92 hl.1 (Nat.le_of_ble_eq_true rfl) (Nat.le_of_ble_eq_true rfl) (Nat.le_of_ble_eq_true rfl) (y_cons (y_cref hY_hd rfl) (y_cons ⟨_, rfl, x_i64 _⟩ y_nil)) rfl (y_recv rfl hY_hd) (fun t' h1 => by cases h1; exact ⟨_, hL⟩) (y_sub_ef rfl) fun v Yn o Hn L ho hr ha hIn hx_ hE hP => ?_
  have hPd := hP _ _ _ rfl hL
  obtain rfl := hPd
  replace hs_hd := y_Efld hE hY_this rfl (by decide) (by decide) hs_hd
  replace hs_tx := y_Efld hE hY_this rfl (by decide) (by decide) hs_tx
  replace hs_fa := y_Efld hE hY_this rfl (by decide) (by decide) hs_fa
  replace hs_fb := y_Efld hE hY_this rfl (by decide) (by decide) hs_fb
  replace hn0 := y_Efld hE hY_hd rfl (by decide) (by decide) hn0
  replace hn1 := y_Efld hE hY_hd rfl (by decide) (by decide) hn1
  replace hn2 := y_Efld hE hY_hd rfl (by decide) (by decide) hn2
  replace hs_len := y_Efld hE hY_tx rfl (by decide) (by decide) hs_len
  replace hL := hL.E hY_hd hE (fun q u h => y_ext hx_ hI.1 h) (by decide +kernel)
  replace hY_this := y_ext hx_ hI.1 hY_this
  replace hY_hd := y_ext hx_ hI.1 hY_hd
  replace hY_tx := y_ext hx_ hI.1 hY_tx
  generalize hg_r92 : m_tms f r83 = r92
  clear ho hr ha hE hP hI hx_
  rename x_I _ _ _ _ _ _ _ _ _ _ => hI
  refine lv_lstore_n hx hb dgq_d95 rfl hl (by decide) (lv' := [(1, .long r92), (0, .ref this)]) rfl fun ls hl => ?_
  refine lv_lload_n hx hb dgq_d96 rfl (lv_at hl 0 rfl) ?_
  refine lv_aload_n hx hb dgq_d97 rfl (lv_at hl 1 rfl) ?_
  refine y_getf X (fl156 X.2.2.2.2.1) hI.1 hY_this rfl hs_fa dgq_d98 ?_
  refine y_call (z := (1, 301, 2, none, xM135)) (av := [.long r92, .long fa]) (rest := []) (y_cokS (n := 2) X ym_mixed (x_cons (x_bw60 8 rfl rfl) (x_cons (x_bw60 9 rfl rfl) (x_cons (x_bw0 1 rfl rfl) x_nilm))) (x_bw60 10 rfl rfl) (by decide +kernel) ⟨Nat.le_of_ble_eq_true rfl, Nat.le_of_ble_eq_true rfl⟩) hY0 hI rfl dgq_d101 hl.1 (Nat.le_of_ble_eq_true rfl) (Nat.le_of_ble_eq_true rfl) (Nat.le_of_ble_eq_true rfl) (y_cons ⟨_, rfl, x_i64 _⟩ (y_cons ⟨_, rfl, x_i64 _⟩ y_nil)) rfl (y_norecv rfl) trivial (y_sub_ef rfl) fun v Yn o Hn L ho hr ha hIn hx_ hE hP => ?_
  replace hs_hd := y_Efld hE hY_this rfl (by decide) (by decide) hs_hd
  replace hs_tx := y_Efld hE hY_this rfl (by decide) (by decide) hs_tx
  replace hs_fa := y_Efld hE hY_this rfl (by decide) (by decide) hs_fa
  replace hs_fb := y_Efld hE hY_this rfl (by decide) (by decide) hs_fb
  replace hn0 := y_Efld hE hY_hd rfl (by decide) (by decide) hn0
  replace hn1 := y_Efld hE hY_hd rfl (by decide) (by decide) hn1
  replace hn2 := y_Efld hE hY_hd rfl (by decide) (by decide) hn2
  replace hs_len := y_Efld hE hY_tx rfl (by decide) (by decide) hs_len
  replace hL := hL.E hY_hd hE (fun q u h => y_ext hx_ hI.1 h) (by decide +kernel)
  replace hY_this := y_ext hx_ hI.1 hY_this
  replace hY_hd := y_ext hx_ hI.1 hY_hd
  replace hY_tx := y_ext hx_ hI.1 hY_tx
  obtain rfl := hP _ _ rfl
  generalize hg_r101 : 31 * r92 + fa = r101
  clear ho hr ha hE hP hI hx_
  rename x_I _ _ _ _ _ _ _ _ _ _ => hI
  refine lv_lstore_n hx hb dgq_d104 rfl hl (by decide) (lv' := [(1, .long r101), (0, .ref this)]) rfl fun ls hl => ?_
  refine lv_lload_n hx hb dgq_d105 rfl (lv_at hl 0 rfl) ?_
  refine lv_aload_n hx hb dgq_d106 rfl (lv_at hl 1 rfl) ?_
  refine y_getf X (fl157 X.2.2.2.2.1) hI.1 hY_this rfl hs_fb dgq_d107 ?_
  refine y_call (z := (1, 301, 2, none, xM135)) (av := [.long r101, .long fb]) (rest := []) (y_cokS (n := 2) X ym_mixed (x_cons (x_bw60 8 rfl rfl) (x_cons (x_bw60 9 rfl rfl) (x_cons (x_bw0 1 rfl rfl) x_nilm))) (x_bw60 10 rfl rfl) (by decide +kernel) ⟨Nat.le_of_ble_eq_true rfl, Nat.le_of_ble_eq_true rfl⟩) hY0 hI rfl dgq_d110 hl.1 (Nat.le_of_ble_eq_true rfl) (Nat.le_of_ble_eq_true rfl) (Nat.le_of_ble_eq_true rfl) (y_cons ⟨_, rfl, x_i64 _⟩ (y_cons ⟨_, rfl, x_i64 _⟩ y_nil)) rfl (y_norecv rfl) trivial (y_sub_ef rfl) fun v Yn o Hn L ho hr ha hIn hx_ hE hP => ?_
  replace hs_hd := y_Efld hE hY_this rfl (by decide) (by decide) hs_hd
  replace hs_tx := y_Efld hE hY_this rfl (by decide) (by decide) hs_tx
  replace hs_fa := y_Efld hE hY_this rfl (by decide) (by decide) hs_fa
  replace hs_fb := y_Efld hE hY_this rfl (by decide) (by decide) hs_fb
  replace hn0 := y_Efld hE hY_hd rfl (by decide) (by decide) hn0
  replace hn1 := y_Efld hE hY_hd rfl (by decide) (by decide) hn1
  replace hn2 := y_Efld hE hY_hd rfl (by decide) (by decide) hn2
  replace hs_len := y_Efld hE hY_tx rfl (by decide) (by decide) hs_len
  replace hL := hL.E hY_hd hE (fun q u h => y_ext hx_ hI.1 h) (by decide +kernel)
  replace hY_this := y_ext hx_ hI.1 hY_this
  replace hY_hd := y_ext hx_ hI.1 hY_hd
  replace hY_tx := y_ext hx_ hI.1 hY_tx
  obtain rfl := hP _ _ rfl
  generalize hg_r110 : 31 * r101 + fb = r110
  clear ho hr ha hE hP hI hx_
  rename x_I _ _ _ _ _ _ _ _ _ _ => hI
  have hd9 : m_dg0 f nn = r65 := by unfold m_dg0; show 31 * (31 * (31 * (31 * (31 * (619 : Int64) + (f 0).toInt64) + (f 1).toInt64) + nn.toInt64) + (m_rps f).toInt64) + (f 2).toInt64 = r65; rw [hg_z12, hg_r13, hg_z25, hg_r26, hg_z38, hg_r39, ← m_rps_of hrp, hg_z51, hg_r52, hg_z64, hg_r65]
  exact y_lreturn B hI rfl rfl List.mem_cons_self ⟨_, rfl, ⟨_, rfl, x_i64 _⟩⟩ (x_cs.mono B.2.2.2.2.2 (y_mon B hI)) (fun t' f' K' tt' nn' h1 h2 a9 b9 h9 => by cases h1; obtain ⟨ef, et, en, eK⟩ := hR0.eqs h2; subst ef et en; cases hfa0.symm.trans h9.1; cases hfb0.symm.trans h9.2; refine congrArg (fun x => some (Value.long x)) ?_; rw [← hg_r110, ← hg_r101, ← hg_r92, ← hg_r83, ← hg_r74, ← hd9]; rfl) (Nat.le_refl _) (Nat.le_refl _) dgq_d113
