/-! DIGEST, the reference -/
def z_PmxM : yP := fun D av _ H v _ _ => ∀ (this bk : Nat) (h : Int64) (p q : Int32) (f : Nat → Int32), av = [.ref this, .long h, .int p, .int q] → x_sl D 12 0 this H = some (.ref bk) → y_A bk 160 H f → v = some (.long (m_mxs f p.toInt.toNat h q.toInt.toNat))
theorem m_mxs_congr {f g : Nat → Int32} {p : Nat} {h : Int64} : ∀ n, (∀ i, i < n → f (p + i) = g (p + i)) → m_mxs f p h n = m_mxs g p h n
  | 0, _ => rfl
  | n + 1, e => by
    show 31 * m_mxs f p h n + (f (p + n)).toInt64 = 31 * m_mxs g p h n + (g (p + n)).toInt64
    rw [m_mxs_congr n fun i hi => e i (by omega), e n (by omega)]
theorem mx227_d0 : decode xM227.2.1 0 = .ok (.lload_n 1, 1) := dz_ok (by decide +kernel)
theorem mx227_d1 : decode xM227.2.1 1 = .ok (.lstore 5, 2) := dz_ok (by decide +kernel)
theorem mx227_d3 : decode xM227.2.1 3 = .ok (.iconst 0, 1) := dz_ok (by decide +kernel)
theorem mx227_d4 : decode xM227.2.1 4 = .ok (.istore 7, 2) := dz_ok (by decide +kernel)
theorem mx227_d6 : decode xM227.2.1 6 = .ok (.iload 7, 2) := dz_ok (by decide +kernel)
theorem mx227_d8 : decode xM227.2.1 8 = .ok (.iload 4, 2) := dz_ok (by decide +kernel)
theorem mx227_d10 : decode xM227.2.1 10 = .ok (.if_icmp .ge 28, 3) := dz_ok (by decide +kernel)
theorem mx227_d13 : decode xM227.2.1 13 = .ok (.ldc2_w 294, 3) := dz_ok (by decide +kernel)
theorem mx227_d16 : decode xM227.2.1 16 = .ok (.lload 5, 2) := dz_ok (by decide +kernel)
theorem mx227_d18 : decode xM227.2.1 18 = .ok (.lmul, 1) := dz_ok (by decide +kernel)
theorem mx227_d19 : decode xM227.2.1 19 = .ok (.aload_n 0, 1) := dz_ok (by decide +kernel)
theorem mx227_d20 : decode xM227.2.1 20 = .ok (.getfield 7, 3) := dz_ok (by decide +kernel)
theorem mx227_d23 : decode xM227.2.1 23 = .ok (.iload_n 3, 1) := dz_ok (by decide +kernel)
theorem mx227_d24 : decode xM227.2.1 24 = .ok (.iload 7, 2) := dz_ok (by decide +kernel)
theorem mx227_d26 : decode xM227.2.1 26 = .ok (.iadd, 1) := dz_ok (by decide +kernel)
theorem mx227_d27 : decode xM227.2.1 27 = .ok (.iaload, 1) := dz_ok (by decide +kernel)
theorem mx227_d28 : decode xM227.2.1 28 = .ok (.i2l, 1) := dz_ok (by decide +kernel)
theorem mx227_d29 : decode xM227.2.1 29 = .ok (.ladd, 1) := dz_ok (by decide +kernel)
theorem mx227_d30 : decode xM227.2.1 30 = .ok (.lstore 5, 2) := dz_ok (by decide +kernel)
theorem mx227_d32 : decode xM227.2.1 32 = .ok (.iinc 7 1, 3) := dz_ok (by decide +kernel)
theorem mx227_d35 : decode xM227.2.1 35 = .ok (.goto (-29), 3) := dz_ok (by decide +kernel)
theorem mx227_d38 : decode xM227.2.1 38 = .ok (.lload 5, 2) := dz_ok (by decide +kernel)
theorem mx227_d40 : decode xM227.2.1 40 = .ok (.lreturn, 1) := dz_ok (by decide +kernel)
theorem mx227_L6 {p : Program} {l : Launch} {e : Env} {s : State} {m : MethodId} {below : List Frame} {meth : Method} {c : Code} {D : va_G} {U : State} {Y0 : xY} {av : List Value} (B : y_B vwCl x_Tb x_Nb xM227 p s m meth c D U Y0 av) {this bk : Nat} {h : Int64} {pp cq : Int32} {fb : Nat → Int32} (hav : av = [.ref this, .long h, .int pp, .int cq]) (hs0 : x_sl D 12 0 this s.heap = some (.ref bk)) (hA0 : y_A bk 160 s.heap fb) (hp9 : 10 ≤ pp.toInt ∧ pp.toInt ≤ 10) (hq9 : 0 ≤ cq.toInt ∧ cq.toInt ≤ 50)  :
    ∀ (n : Nat), ∀ (H : Heap) (Y : xY) (locs : List Loc) (ls : Array Slot) (k : Int32) (x : Int64), x_I D x_G x_Zs U (x_efs xM227) Y0 s.heap Y H locs → Y this = some 17 → Y bk = some 46 → x_sl D 12 0 this H = some (.ref bk) → y_A bk 160 H fb → lv_has ls xM227.2.2.1 [(7, .int k), (5, .long x), (0, .ref this), (1, .long h), (3, .int pp), (4, .int cq)] → (0 ≤ k.toInt ∧ k.toInt ≤ cq.toInt) → (x = m_mxs fb pp.toInt.toNat h k.toInt.toNat) → (57 - k.toInt).toNat < n → W p l e (x_rm xM227) s m av.toArray below meth c H locs 0 0 (y_QQ below D x_G x_Zs U xM227 z_PmxM av Y0 s) (F0 m 6 ls []) := by
  have X := B.1
  have hx := X.1
  have hb := X.2.1
  have hY0 := B.2.2.2.2.1
  intro n
  induction n with
  | zero => intro _ _ _ _ _ _ _ _ _ _ _ _ _ _ h; exact absurd h (Nat.not_lt_zero _)
  | succ n ih =>
    intro H Y locs ls k x  hI hY_this hY_bk hs_bk hA_bk hl hk hx9 hn
    refine lv_iload hx hb mx227_d6 (lv_at hl 0 rfl) ?_
    refine lv_iload hx hb mx227_d8 (lv_at hl 5 rfl) ?_
    refine lv_icmp_ge hx hb mx227_d10 (tgt := 38) (by decide) (fun q10 => ?_) (fun q10 => ?_)
    · have q10_ : cq.toInt ≤ k.toInt := x_le32.mp q10
      refine lv_lload hx hb mx227_d38 (lv_at hl 1 rfl) ?_
      subst hav
      exact y_lreturn B hI rfl rfl List.mem_cons_self ⟨_, rfl, ⟨_, rfl, x_i64 _⟩⟩ (x_cs.mono B.2.2.2.2.2 (y_mon B hI)) (fun t' b' h' p' q' f' h1 h2 h3 => by cases h1; cases h2.symm.trans hs0; refine congrArg (fun x => some (Value.long x)) ?_; rw [m_mxs_congr (f := f') (g := fb) cq.toInt.toNat (fun i hi => z_AR h3 hA0 (by omega)), show cq.toInt.toNat = k.toInt.toNat by omega]; exact hx9) (Nat.le_refl _) (Nat.le_refl _) mx227_d40
    · have q10_ : k.toInt < cq.toInt := Int.not_le.mp fun q => q10 (x_le32.mpr q)
      refine lv_ldc2 hx hb X.2.2.2.1 (v := 31) (X.2.2.2.2.1 _ (x_bw88 13 rfl rfl)) mx227_d13 ?_
      have el31 : (31 : Int64).toInt = 31 := by decide
      refine lv_lload hx hb mx227_d16 (lv_at hl 1 rfl) ?_
      refine lv_lmul hx hb mx227_d18 ?_
      generalize hg_z18 : (31 : Int64) * x = z18
      refine lv_aload_n hx hb mx227_d19 rfl (lv_at hl 2 rfl) ?_
      refine y_getf X (fl190 X.2.2.2.2.1) hI.1 hY_this rfl hs_bk mx227_d20 ?_
      refine lv_iload_n hx hb mx227_d23 rfl (lv_at hl 4 rfl) ?_
      refine lv_iload hx hb mx227_d24 (lv_at hl 0 rfl) ?_
      refine lv_iadd hx hb mx227_d26 ?_
      generalize hg_z26 : pp + k = z26
      have h_z26 : z26.toInt = pp.toInt + k.toInt := by rw [← hg_z26]; have := y_add (x := pp) (y := k) (by omega) (by omega); exact this
      refine y_iald X hI.1 hY_bk rfl hA_bk (by omega) (by show _ < (160 : Int); omega) mx227_d27 ?_
      obtain ⟨e27, hg_e27⟩ : ∃ e27 : Int32, fb z26.toInt.toNat = e27 := ⟨_, rfl⟩
      rw [hg_e27]
      obtain ⟨z28, hg_z28⟩ : ∃ z28 : Int64, e27.toInt64 = z28 := ⟨_, rfl⟩
      have h_z28 : z28.toInt = (e27).toInt := by rw [← hg_z28]; exact Int32.toInt_toInt64 _
      refine lv_i2l hx hb mx227_d28 (v := z28) hg_z28 ?_
      refine lv_ladd hx hb mx227_d29 ?_
      generalize hg_z29 : z18 + z28 = z29
      refine lv_lstore hx hb mx227_d30 hl (by decide) (lv' := [(5, .long z29), (7, .int k), (0, .ref this), (1, .long h), (3, .int pp), (4, .int cq)]) rfl fun ls hl => ?_
      obtain ⟨z32, hg_z32⟩ : ∃ z32 : Int32, k + Int32.ofInt 1 = z32 := ⟨_, rfl⟩
      have h_z32 : z32.toInt = k.toInt + 1 := by rw [← hg_z32]; exact y_inc (by decide) (by omega) (by omega)
      refine lv_iinc hx hb mx227_d32 hl (k := 1) rfl hg_z32 (by decide) (lv' := [(7, .int z32), (5, .long z29), (0, .ref this), (1, .long h), (3, .int pp), (4, .int cq)]) rfl fun ls hl => ?_
      refine lv_goto hx hb mx227_d35 (tgt := 6) (by decide) ?_
      have his : z32.toInt.toNat = k.toInt.toNat + 1 := by omega
      have ae : fb (pp.toInt.toNat + k.toInt.toNat) = e27 := Eq.trans (congrArg fb (by omega)) hg_e27
      exact ih _ _ _ _ _ _ hI hY_this hY_bk hs_bk hA_bk (lv_sub hl [0, 1, 2, 3, 4, 5] rfl) (by first | assumption | omega) (by rw [his]; show _ = 31 * _ + _; rw [← hx9, ae, hg_z28, hg_z18]; exact (Eq.symm hg_z29)) (by omega)
theorem ym_mixM227 : y_Met vwCl x_G x_Zs x_Tb x_Nb xM227 y_T z_PmxM := by
  refine y_main (by decide +kernel) (by decide +kernel) x_Tb_good x_Nb_ok ?_
  intro p l e s m below meth c D U Y0 av ls B hI _ hl
  have X := B.1
  have hx := X.1
  have hb := X.2.1
  have hY0 := B.2.2.2.2.1
  obtain ⟨v0, v1, v2, v3, rfl, hv0, ⟨h, rfl, -⟩, ⟨pp, rfl, hp9⟩, ⟨cq, rfl, hq9⟩⟩ := y_four B.2.2.2.2.2
  replace hp9 : (10 : Int) ≤ pp.toInt ∧ pp.toInt ≤ 10 := hp9
  replace hq9 : (0 : Int) ≤ cq.toInt ∧ cq.toInt ≤ 50 := hq9
  obtain ⟨this, t0, rfl, ht0, hY_this⟩ := x_ref_at hv0 rfl
  obtain rfl := List.mem_singleton.mp ht0
  replace hl : lv_has ls xM227.2.2.1 [(0, .ref this), (1, .long h), (3, .int pp), (4, .int cq)] := hl
  obtain ⟨bk, hs_bk, hY_bk⟩ := y_fldR (k := 0) hI.1 hY_this rfl rfl
  obtain ⟨fb9, hA9, hB9⟩ := y_arr hI.1 hY_bk rfl rfl
  obtain ⟨fb, hcn, hA_bk, hB_bk⟩ := z_canon (Y := Y0) (P := fun j v => x_c Y0 ([xI 0 10, xI 0 8, xI 0 8].getD j xF) (.int v)) hA9 hB9
  clear hA9 hB9 fb9
  have hs0 := hs_bk
  have hA0 := hA_bk
  have hd := z_hdr hB_bk
  have hd0 := hd.1
  have hd1 := hd.2.1
  refine lv_lload_n hx hb mx227_d0 rfl (lv_at hl 1 rfl) ?_
  refine lv_lstore hx hb mx227_d1 hl (by decide) (lv' := [(5, .long h), (0, .ref this), (1, .long h), (3, .int pp), (4, .int cq)]) rfl fun ls hl => ?_
  refine lv_iconst hx hb mx227_d3 (v := 0) (by decide) ?_
  have ec0 : (0 : Int32).toInt = 0 := by decide
  refine lv_istore hx hb mx227_d4 hl (by decide) (lv' := [(7, .int (0 : Int32)), (5, .long h), (0, .ref this), (1, .long h), (3, .int pp), (4, .int cq)]) rfl fun ls hl => ?_
  exact mx227_L6 B rfl hs0 hA0 hp9 hq9 58 _ _ _ _ _ _ hI hY_this hY_bk hs_bk hA_bk (lv_sub hl [0, 1, 2, 3, 4, 5] rfl) (by first | assumption | omega) (by rw [z_i0]; rfl) (by omega)
theorem mx228_d0 : decode xM228.2.1 0 = .ok (.lload_n 1, 1) := dz_ok (by decide +kernel)
theorem mx228_d1 : decode xM228.2.1 1 = .ok (.lstore 5, 2) := dz_ok (by decide +kernel)
theorem mx228_d3 : decode xM228.2.1 3 = .ok (.iconst 0, 1) := dz_ok (by decide +kernel)
theorem mx228_d4 : decode xM228.2.1 4 = .ok (.istore 7, 2) := dz_ok (by decide +kernel)
theorem mx228_d6 : decode xM228.2.1 6 = .ok (.iload 7, 2) := dz_ok (by decide +kernel)
theorem mx228_d8 : decode xM228.2.1 8 = .ok (.iload 4, 2) := dz_ok (by decide +kernel)
theorem mx228_d10 : decode xM228.2.1 10 = .ok (.if_icmp .ge 28, 3) := dz_ok (by decide +kernel)
theorem mx228_d13 : decode xM228.2.1 13 = .ok (.ldc2_w 294, 3) := dz_ok (by decide +kernel)
theorem mx228_d16 : decode xM228.2.1 16 = .ok (.lload 5, 2) := dz_ok (by decide +kernel)
theorem mx228_d18 : decode xM228.2.1 18 = .ok (.lmul, 1) := dz_ok (by decide +kernel)
theorem mx228_d19 : decode xM228.2.1 19 = .ok (.aload_n 0, 1) := dz_ok (by decide +kernel)
theorem mx228_d20 : decode xM228.2.1 20 = .ok (.getfield 7, 3) := dz_ok (by decide +kernel)
theorem mx228_d23 : decode xM228.2.1 23 = .ok (.iload_n 3, 1) := dz_ok (by decide +kernel)
theorem mx228_d24 : decode xM228.2.1 24 = .ok (.iload 7, 2) := dz_ok (by decide +kernel)
theorem mx228_d26 : decode xM228.2.1 26 = .ok (.iadd, 1) := dz_ok (by decide +kernel)
theorem mx228_d27 : decode xM228.2.1 27 = .ok (.iaload, 1) := dz_ok (by decide +kernel)
theorem mx228_d28 : decode xM228.2.1 28 = .ok (.i2l, 1) := dz_ok (by decide +kernel)
theorem mx228_d29 : decode xM228.2.1 29 = .ok (.ladd, 1) := dz_ok (by decide +kernel)
theorem mx228_d30 : decode xM228.2.1 30 = .ok (.lstore 5, 2) := dz_ok (by decide +kernel)
theorem mx228_d32 : decode xM228.2.1 32 = .ok (.iinc 7 1, 3) := dz_ok (by decide +kernel)
theorem mx228_d35 : decode xM228.2.1 35 = .ok (.goto (-29), 3) := dz_ok (by decide +kernel)
theorem mx228_d38 : decode xM228.2.1 38 = .ok (.lload 5, 2) := dz_ok (by decide +kernel)
theorem mx228_d40 : decode xM228.2.1 40 = .ok (.lreturn, 1) := dz_ok (by decide +kernel)
theorem mx228_L6 {p : Program} {l : Launch} {e : Env} {s : State} {m : MethodId} {below : List Frame} {meth : Method} {c : Code} {D : va_G} {U : State} {Y0 : xY} {av : List Value} (B : y_B vwCl x_Tb x_Nb xM228 p s m meth c D U Y0 av) {this bk : Nat} {h : Int64} {pp cq : Int32} {fb : Nat → Int32} (hav : av = [.ref this, .long h, .int pp, .int cq]) (hs0 : x_sl D 12 0 this s.heap = some (.ref bk)) (hA0 : y_A bk 160 s.heap fb) (hp9 : 60 ≤ pp.toInt ∧ pp.toInt ≤ 60) (hq9 : 0 ≤ cq.toInt ∧ cq.toInt ≤ 56)  :
    ∀ (n : Nat), ∀ (H : Heap) (Y : xY) (locs : List Loc) (ls : Array Slot) (k : Int32) (x : Int64), x_I D x_G x_Zs U (x_efs xM228) Y0 s.heap Y H locs → Y this = some 17 → Y bk = some 46 → x_sl D 12 0 this H = some (.ref bk) → y_A bk 160 H fb → lv_has ls xM228.2.2.1 [(7, .int k), (5, .long x), (0, .ref this), (1, .long h), (3, .int pp), (4, .int cq)] → (0 ≤ k.toInt ∧ k.toInt ≤ cq.toInt) → (x = m_mxs fb pp.toInt.toNat h k.toInt.toNat) → (57 - k.toInt).toNat < n → W p l e (x_rm xM228) s m av.toArray below meth c H locs 0 0 (y_QQ below D x_G x_Zs U xM228 z_PmxM av Y0 s) (F0 m 6 ls []) := by
  have X := B.1
  have hx := X.1
  have hb := X.2.1
  have hY0 := B.2.2.2.2.1
  intro n
  induction n with
  | zero => intro _ _ _ _ _ _ _ _ _ _ _ _ _ _ h; exact absurd h (Nat.not_lt_zero _)
  | succ n ih =>
    intro H Y locs ls k x  hI hY_this hY_bk hs_bk hA_bk hl hk hx9 hn
    refine lv_iload hx hb mx228_d6 (lv_at hl 0 rfl) ?_
    refine lv_iload hx hb mx228_d8 (lv_at hl 5 rfl) ?_
    refine lv_icmp_ge hx hb mx228_d10 (tgt := 38) (by decide) (fun q10 => ?_) (fun q10 => ?_)
    · have q10_ : cq.toInt ≤ k.toInt := x_le32.mp q10
      refine lv_lload hx hb mx228_d38 (lv_at hl 1 rfl) ?_
      subst hav
      exact y_lreturn B hI rfl rfl List.mem_cons_self ⟨_, rfl, ⟨_, rfl, x_i64 _⟩⟩ (x_cs.mono B.2.2.2.2.2 (y_mon B hI)) (fun t' b' h' p' q' f' h1 h2 h3 => by cases h1; cases h2.symm.trans hs0; refine congrArg (fun x => some (Value.long x)) ?_; rw [m_mxs_congr (f := f') (g := fb) cq.toInt.toNat (fun i hi => z_AR h3 hA0 (by omega)), show cq.toInt.toNat = k.toInt.toNat by omega]; exact hx9) (Nat.le_refl _) (Nat.le_refl _) mx228_d40
    · have q10_ : k.toInt < cq.toInt := Int.not_le.mp fun q => q10 (x_le32.mpr q)
      refine lv_ldc2 hx hb X.2.2.2.1 (v := 31) (X.2.2.2.2.1 _ (x_bw88 13 rfl rfl)) mx228_d13 ?_
      have el31 : (31 : Int64).toInt = 31 := by decide
      refine lv_lload hx hb mx228_d16 (lv_at hl 1 rfl) ?_
      refine lv_lmul hx hb mx228_d18 ?_
      generalize hg_z18 : (31 : Int64) * x = z18
      refine lv_aload_n hx hb mx228_d19 rfl (lv_at hl 2 rfl) ?_
      refine y_getf X (fl190 X.2.2.2.2.1) hI.1 hY_this rfl hs_bk mx228_d20 ?_
      refine lv_iload_n hx hb mx228_d23 rfl (lv_at hl 4 rfl) ?_
      refine lv_iload hx hb mx228_d24 (lv_at hl 0 rfl) ?_
      refine lv_iadd hx hb mx228_d26 ?_
      generalize hg_z26 : pp + k = z26
      have h_z26 : z26.toInt = pp.toInt + k.toInt := by rw [← hg_z26]; have := y_add (x := pp) (y := k) (by omega) (by omega); exact this
      refine y_iald X hI.1 hY_bk rfl hA_bk (by omega) (by show _ < (160 : Int); omega) mx228_d27 ?_
      obtain ⟨e27, hg_e27⟩ : ∃ e27 : Int32, fb z26.toInt.toNat = e27 := ⟨_, rfl⟩
      rw [hg_e27]
      obtain ⟨z28, hg_z28⟩ : ∃ z28 : Int64, e27.toInt64 = z28 := ⟨_, rfl⟩
      have h_z28 : z28.toInt = (e27).toInt := by rw [← hg_z28]; exact Int32.toInt_toInt64 _
      refine lv_i2l hx hb mx228_d28 (v := z28) hg_z28 ?_
      refine lv_ladd hx hb mx228_d29 ?_
      generalize hg_z29 : z18 + z28 = z29
      refine lv_lstore hx hb mx228_d30 hl (by decide) (lv' := [(5, .long z29), (7, .int k), (0, .ref this), (1, .long h), (3, .int pp), (4, .int cq)]) rfl fun ls hl => ?_
      obtain ⟨z32, hg_z32⟩ : ∃ z32 : Int32, k + Int32.ofInt 1 = z32 := ⟨_, rfl⟩
      have h_z32 : z32.toInt = k.toInt + 1 := by rw [← hg_z32]; exact y_inc (by decide) (by omega) (by omega)
      refine lv_iinc hx hb mx228_d32 hl (k := 1) rfl hg_z32 (by decide) (lv' := [(7, .int z32), (5, .long z29), (0, .ref this), (1, .long h), (3, .int pp), (4, .int cq)]) rfl fun ls hl => ?_
      refine lv_goto hx hb mx228_d35 (tgt := 6) (by decide) ?_
      have his : z32.toInt.toNat = k.toInt.toNat + 1 := by omega
      have ae : fb (pp.toInt.toNat + k.toInt.toNat) = e27 := Eq.trans (congrArg fb (by omega)) hg_e27
      exact ih _ _ _ _ _ _ hI hY_this hY_bk hs_bk hA_bk (lv_sub hl [0, 1, 2, 3, 4, 5] rfl) (by first | assumption | omega) (by rw [his]; show _ = 31 * _ + _; rw [← hx9, ae, hg_z28, hg_z18]; exact (Eq.symm hg_z29)) (by omega)
theorem ym_mixM228 : y_Met vwCl x_G x_Zs x_Tb x_Nb xM228 y_T z_PmxM := by
  refine y_main (by decide +kernel) (by decide +kernel) x_Tb_good x_Nb_ok ?_
  intro p l e s m below meth c D U Y0 av ls B hI _ hl
  have X := B.1
  have hx := X.1
  have hb := X.2.1
  have hY0 := B.2.2.2.2.1
  obtain ⟨v0, v1, v2, v3, rfl, hv0, ⟨h, rfl, -⟩, ⟨pp, rfl, hp9⟩, ⟨cq, rfl, hq9⟩⟩ := y_four B.2.2.2.2.2
  replace hp9 : (60 : Int) ≤ pp.toInt ∧ pp.toInt ≤ 60 := hp9
  replace hq9 : (0 : Int) ≤ cq.toInt ∧ cq.toInt ≤ 56 := hq9
  obtain ⟨this, t0, rfl, ht0, hY_this⟩ := x_ref_at hv0 rfl
  obtain rfl := List.mem_singleton.mp ht0
  replace hl : lv_has ls xM228.2.2.1 [(0, .ref this), (1, .long h), (3, .int pp), (4, .int cq)] := hl
  obtain ⟨bk, hs_bk, hY_bk⟩ := y_fldR (k := 0) hI.1 hY_this rfl rfl
  obtain ⟨fb9, hA9, hB9⟩ := y_arr hI.1 hY_bk rfl rfl
  obtain ⟨fb, hcn, hA_bk, hB_bk⟩ := z_canon (Y := Y0) (P := fun j v => x_c Y0 ([xI 0 10, xI 0 8, xI 0 8].getD j xF) (.int v)) hA9 hB9
  clear hA9 hB9 fb9
  have hs0 := hs_bk
  have hA0 := hA_bk
  have hd := z_hdr hB_bk
  have hd0 := hd.1
  have hd1 := hd.2.1
  refine lv_lload_n hx hb mx228_d0 rfl (lv_at hl 1 rfl) ?_
  refine lv_lstore hx hb mx228_d1 hl (by decide) (lv' := [(5, .long h), (0, .ref this), (1, .long h), (3, .int pp), (4, .int cq)]) rfl fun ls hl => ?_
  refine lv_iconst hx hb mx228_d3 (v := 0) (by decide) ?_
  have ec0 : (0 : Int32).toInt = 0 := by decide
  refine lv_istore hx hb mx228_d4 hl (by decide) (lv' := [(7, .int (0 : Int32)), (5, .long h), (0, .ref this), (1, .long h), (3, .int pp), (4, .int cq)]) rfl fun ls hl => ?_
  exact mx228_L6 B rfl hs0 hA0 hp9 hq9 58 _ _ _ _ _ _ hI hY_this hY_bk hs_bk hA_bk (lv_sub hl [0, 1, 2, 3, 4, 5] rfl) (by first | assumption | omega) (by rw [z_i0]; rfl) (by omega)
theorem mx229_d0 : decode xM229.2.1 0 = .ok (.lload_n 1, 1) := dz_ok (by decide +kernel)
theorem mx229_d1 : decode xM229.2.1 1 = .ok (.lstore 5, 2) := dz_ok (by decide +kernel)
theorem mx229_d3 : decode xM229.2.1 3 = .ok (.iconst 0, 1) := dz_ok (by decide +kernel)
theorem mx229_d4 : decode xM229.2.1 4 = .ok (.istore 7, 2) := dz_ok (by decide +kernel)
theorem mx229_d6 : decode xM229.2.1 6 = .ok (.iload 7, 2) := dz_ok (by decide +kernel)
theorem mx229_d8 : decode xM229.2.1 8 = .ok (.iload 4, 2) := dz_ok (by decide +kernel)
theorem mx229_d10 : decode xM229.2.1 10 = .ok (.if_icmp .ge 28, 3) := dz_ok (by decide +kernel)
theorem mx229_d13 : decode xM229.2.1 13 = .ok (.ldc2_w 294, 3) := dz_ok (by decide +kernel)
theorem mx229_d16 : decode xM229.2.1 16 = .ok (.lload 5, 2) := dz_ok (by decide +kernel)
theorem mx229_d18 : decode xM229.2.1 18 = .ok (.lmul, 1) := dz_ok (by decide +kernel)
theorem mx229_d19 : decode xM229.2.1 19 = .ok (.aload_n 0, 1) := dz_ok (by decide +kernel)
theorem mx229_d20 : decode xM229.2.1 20 = .ok (.getfield 7, 3) := dz_ok (by decide +kernel)
theorem mx229_d23 : decode xM229.2.1 23 = .ok (.iload_n 3, 1) := dz_ok (by decide +kernel)
theorem mx229_d24 : decode xM229.2.1 24 = .ok (.iload 7, 2) := dz_ok (by decide +kernel)
theorem mx229_d26 : decode xM229.2.1 26 = .ok (.iadd, 1) := dz_ok (by decide +kernel)
theorem mx229_d27 : decode xM229.2.1 27 = .ok (.iaload, 1) := dz_ok (by decide +kernel)
theorem mx229_d28 : decode xM229.2.1 28 = .ok (.i2l, 1) := dz_ok (by decide +kernel)
theorem mx229_d29 : decode xM229.2.1 29 = .ok (.ladd, 1) := dz_ok (by decide +kernel)
theorem mx229_d30 : decode xM229.2.1 30 = .ok (.lstore 5, 2) := dz_ok (by decide +kernel)
theorem mx229_d32 : decode xM229.2.1 32 = .ok (.iinc 7 1, 3) := dz_ok (by decide +kernel)
theorem mx229_d35 : decode xM229.2.1 35 = .ok (.goto (-29), 3) := dz_ok (by decide +kernel)
theorem mx229_d38 : decode xM229.2.1 38 = .ok (.lload 5, 2) := dz_ok (by decide +kernel)
theorem mx229_d40 : decode xM229.2.1 40 = .ok (.lreturn, 1) := dz_ok (by decide +kernel)
theorem mx229_L6 {p : Program} {l : Launch} {e : Env} {s : State} {m : MethodId} {below : List Frame} {meth : Method} {c : Code} {D : va_G} {U : State} {Y0 : xY} {av : List Value} (B : y_B vwCl x_Tb x_Nb xM229 p s m meth c D U Y0 av) {this bk : Nat} {h : Int64} {pp cq : Int32} {fb : Nat → Int32} (hav : av = [.ref this, .long h, .int pp, .int cq]) (hs0 : x_sl D 12 0 this s.heap = some (.ref bk)) (hA0 : y_A bk 160 s.heap fb) (hp9 : 4 ≤ pp.toInt ∧ pp.toInt ≤ 4) (hq9 : 4 ≤ cq.toInt ∧ cq.toInt ≤ 4)  :
    ∀ (n : Nat), ∀ (H : Heap) (Y : xY) (locs : List Loc) (ls : Array Slot) (k : Int32) (x : Int64), x_I D x_G x_Zs U (x_efs xM229) Y0 s.heap Y H locs → Y this = some 17 → Y bk = some 46 → x_sl D 12 0 this H = some (.ref bk) → y_A bk 160 H fb → lv_has ls xM229.2.2.1 [(7, .int k), (5, .long x), (0, .ref this), (1, .long h), (3, .int pp), (4, .int cq)] → (0 ≤ k.toInt ∧ k.toInt ≤ cq.toInt) → (x = m_mxs fb pp.toInt.toNat h k.toInt.toNat) → (57 - k.toInt).toNat < n → W p l e (x_rm xM229) s m av.toArray below meth c H locs 0 0 (y_QQ below D x_G x_Zs U xM229 z_PmxM av Y0 s) (F0 m 6 ls []) := by
  have X := B.1
  have hx := X.1
  have hb := X.2.1
  have hY0 := B.2.2.2.2.1
  intro n
  induction n with
  | zero => intro _ _ _ _ _ _ _ _ _ _ _ _ _ _ h; exact absurd h (Nat.not_lt_zero _)
  | succ n ih =>
    intro H Y locs ls k x  hI hY_this hY_bk hs_bk hA_bk hl hk hx9 hn
    refine lv_iload hx hb mx229_d6 (lv_at hl 0 rfl) ?_
    refine lv_iload hx hb mx229_d8 (lv_at hl 5 rfl) ?_
    refine lv_icmp_ge hx hb mx229_d10 (tgt := 38) (by decide) (fun q10 => ?_) (fun q10 => ?_)
    · have q10_ : cq.toInt ≤ k.toInt := x_le32.mp q10
      refine lv_lload hx hb mx229_d38 (lv_at hl 1 rfl) ?_
      subst hav
      exact y_lreturn B hI rfl rfl List.mem_cons_self ⟨_, rfl, ⟨_, rfl, x_i64 _⟩⟩ (x_cs.mono B.2.2.2.2.2 (y_mon B hI)) (fun t' b' h' p' q' f' h1 h2 h3 => by cases h1; cases h2.symm.trans hs0; refine congrArg (fun x => some (Value.long x)) ?_; rw [m_mxs_congr (f := f') (g := fb) cq.toInt.toNat (fun i hi => z_AR h3 hA0 (by omega)), show cq.toInt.toNat = k.toInt.toNat by omega]; exact hx9) (Nat.le_refl _) (Nat.le_refl _) mx229_d40
    · have q10_ : k.toInt < cq.toInt := Int.not_le.mp fun q => q10 (x_le32.mpr q)
      refine lv_ldc2 hx hb X.2.2.2.1 (v := 31) (X.2.2.2.2.1 _ (x_bw88 13 rfl rfl)) mx229_d13 ?_
      have el31 : (31 : Int64).toInt = 31 := by decide
      refine lv_lload hx hb mx229_d16 (lv_at hl 1 rfl) ?_
      refine lv_lmul hx hb mx229_d18 ?_
      generalize hg_z18 : (31 : Int64) * x = z18
      refine lv_aload_n hx hb mx229_d19 rfl (lv_at hl 2 rfl) ?_
      refine y_getf X (fl190 X.2.2.2.2.1) hI.1 hY_this rfl hs_bk mx229_d20 ?_
      refine lv_iload_n hx hb mx229_d23 rfl (lv_at hl 4 rfl) ?_
      refine lv_iload hx hb mx229_d24 (lv_at hl 0 rfl) ?_
      refine lv_iadd hx hb mx229_d26 ?_
      generalize hg_z26 : pp + k = z26
      have h_z26 : z26.toInt = pp.toInt + k.toInt := by rw [← hg_z26]; have := y_add (x := pp) (y := k) (by omega) (by omega); exact this
      refine y_iald X hI.1 hY_bk rfl hA_bk (by omega) (by show _ < (160 : Int); omega) mx229_d27 ?_
      obtain ⟨e27, hg_e27⟩ : ∃ e27 : Int32, fb z26.toInt.toNat = e27 := ⟨_, rfl⟩
      rw [hg_e27]
      obtain ⟨z28, hg_z28⟩ : ∃ z28 : Int64, e27.toInt64 = z28 := ⟨_, rfl⟩
      have h_z28 : z28.toInt = (e27).toInt := by rw [← hg_z28]; exact Int32.toInt_toInt64 _
      refine lv_i2l hx hb mx229_d28 (v := z28) hg_z28 ?_
      refine lv_ladd hx hb mx229_d29 ?_
      generalize hg_z29 : z18 + z28 = z29
      refine lv_lstore hx hb mx229_d30 hl (by decide) (lv' := [(5, .long z29), (7, .int k), (0, .ref this), (1, .long h), (3, .int pp), (4, .int cq)]) rfl fun ls hl => ?_
      obtain ⟨z32, hg_z32⟩ : ∃ z32 : Int32, k + Int32.ofInt 1 = z32 := ⟨_, rfl⟩
      have h_z32 : z32.toInt = k.toInt + 1 := by rw [← hg_z32]; exact y_inc (by decide) (by omega) (by omega)
      refine lv_iinc hx hb mx229_d32 hl (k := 1) rfl hg_z32 (by decide) (lv' := [(7, .int z32), (5, .long z29), (0, .ref this), (1, .long h), (3, .int pp), (4, .int cq)]) rfl fun ls hl => ?_
      refine lv_goto hx hb mx229_d35 (tgt := 6) (by decide) ?_
      have his : z32.toInt.toNat = k.toInt.toNat + 1 := by omega
      have ae : fb (pp.toInt.toNat + k.toInt.toNat) = e27 := Eq.trans (congrArg fb (by omega)) hg_e27
      exact ih _ _ _ _ _ _ hI hY_this hY_bk hs_bk hA_bk (lv_sub hl [0, 1, 2, 3, 4, 5] rfl) (by first | assumption | omega) (by rw [his]; show _ = 31 * _ + _; rw [← hx9, ae, hg_z28, hg_z18]; exact (Eq.symm hg_z29)) (by omega)
theorem ym_mixM229 : y_Met vwCl x_G x_Zs x_Tb x_Nb xM229 y_T z_PmxM := by
  refine y_main (by decide +kernel) (by decide +kernel) x_Tb_good x_Nb_ok ?_
  intro p l e s m below meth c D U Y0 av ls B hI _ hl
  have X := B.1
  have hx := X.1
  have hb := X.2.1
  have hY0 := B.2.2.2.2.1
  obtain ⟨v0, v1, v2, v3, rfl, hv0, ⟨h, rfl, -⟩, ⟨pp, rfl, hp9⟩, ⟨cq, rfl, hq9⟩⟩ := y_four B.2.2.2.2.2
  replace hp9 : (4 : Int) ≤ pp.toInt ∧ pp.toInt ≤ 4 := hp9
  replace hq9 : (4 : Int) ≤ cq.toInt ∧ cq.toInt ≤ 4 := hq9
  obtain ⟨this, t0, rfl, ht0, hY_this⟩ := x_ref_at hv0 rfl
  obtain rfl := List.mem_singleton.mp ht0
  replace hl : lv_has ls xM229.2.2.1 [(0, .ref this), (1, .long h), (3, .int pp), (4, .int cq)] := hl
  obtain ⟨bk, hs_bk, hY_bk⟩ := y_fldR (k := 0) hI.1 hY_this rfl rfl
  obtain ⟨fb9, hA9, hB9⟩ := y_arr hI.1 hY_bk rfl rfl
  obtain ⟨fb, hcn, hA_bk, hB_bk⟩ := z_canon (Y := Y0) (P := fun j v => x_c Y0 ([xI 0 10, xI 0 8, xI 0 8].getD j xF) (.int v)) hA9 hB9
  clear hA9 hB9 fb9
  have hs0 := hs_bk
  have hA0 := hA_bk
  have hd := z_hdr hB_bk
  have hd0 := hd.1
  have hd1 := hd.2.1
  refine lv_lload_n hx hb mx229_d0 rfl (lv_at hl 1 rfl) ?_
  refine lv_lstore hx hb mx229_d1 hl (by decide) (lv' := [(5, .long h), (0, .ref this), (1, .long h), (3, .int pp), (4, .int cq)]) rfl fun ls hl => ?_
  refine lv_iconst hx hb mx229_d3 (v := 0) (by decide) ?_
  have ec0 : (0 : Int32).toInt = 0 := by decide
  refine lv_istore hx hb mx229_d4 hl (by decide) (lv' := [(7, .int (0 : Int32)), (5, .long h), (0, .ref this), (1, .long h), (3, .int pp), (4, .int cq)]) rfl fun ls hl => ?_
  exact mx229_L6 B rfl hs0 hA0 hp9 hq9 58 _ _ _ _ _ _ hI hY_this hY_bk hs_bk hA_bk (lv_sub hl [0, 1, 2, 3, 4, 5] rfl) (by first | assumption | omega) (by rw [z_i0]; rfl) (by omega)
theorem mx230_d0 : decode xM230.2.1 0 = .ok (.lload_n 1, 1) := dz_ok (by decide +kernel)
theorem mx230_d1 : decode xM230.2.1 1 = .ok (.lstore 5, 2) := dz_ok (by decide +kernel)
theorem mx230_d3 : decode xM230.2.1 3 = .ok (.iconst 0, 1) := dz_ok (by decide +kernel)
theorem mx230_d4 : decode xM230.2.1 4 = .ok (.istore 7, 2) := dz_ok (by decide +kernel)
theorem mx230_d6 : decode xM230.2.1 6 = .ok (.iload 7, 2) := dz_ok (by decide +kernel)
theorem mx230_d8 : decode xM230.2.1 8 = .ok (.iload 4, 2) := dz_ok (by decide +kernel)
theorem mx230_d10 : decode xM230.2.1 10 = .ok (.if_icmp .ge 28, 3) := dz_ok (by decide +kernel)
theorem mx230_d13 : decode xM230.2.1 13 = .ok (.ldc2_w 294, 3) := dz_ok (by decide +kernel)
theorem mx230_d16 : decode xM230.2.1 16 = .ok (.lload 5, 2) := dz_ok (by decide +kernel)
theorem mx230_d18 : decode xM230.2.1 18 = .ok (.lmul, 1) := dz_ok (by decide +kernel)
theorem mx230_d19 : decode xM230.2.1 19 = .ok (.aload_n 0, 1) := dz_ok (by decide +kernel)
theorem mx230_d20 : decode xM230.2.1 20 = .ok (.getfield 7, 3) := dz_ok (by decide +kernel)
theorem mx230_d23 : decode xM230.2.1 23 = .ok (.iload_n 3, 1) := dz_ok (by decide +kernel)
theorem mx230_d24 : decode xM230.2.1 24 = .ok (.iload 7, 2) := dz_ok (by decide +kernel)
theorem mx230_d26 : decode xM230.2.1 26 = .ok (.iadd, 1) := dz_ok (by decide +kernel)
theorem mx230_d27 : decode xM230.2.1 27 = .ok (.iaload, 1) := dz_ok (by decide +kernel)
theorem mx230_d28 : decode xM230.2.1 28 = .ok (.i2l, 1) := dz_ok (by decide +kernel)
theorem mx230_d29 : decode xM230.2.1 29 = .ok (.ladd, 1) := dz_ok (by decide +kernel)
theorem mx230_d30 : decode xM230.2.1 30 = .ok (.lstore 5, 2) := dz_ok (by decide +kernel)
theorem mx230_d32 : decode xM230.2.1 32 = .ok (.iinc 7 1, 3) := dz_ok (by decide +kernel)
theorem mx230_d35 : decode xM230.2.1 35 = .ok (.goto (-29), 3) := dz_ok (by decide +kernel)
theorem mx230_d38 : decode xM230.2.1 38 = .ok (.lload 5, 2) := dz_ok (by decide +kernel)
theorem mx230_d40 : decode xM230.2.1 40 = .ok (.lreturn, 1) := dz_ok (by decide +kernel)
theorem mx230_L6 {p : Program} {l : Launch} {e : Env} {s : State} {m : MethodId} {below : List Frame} {meth : Method} {c : Code} {D : va_G} {U : State} {Y0 : xY} {av : List Value} (B : y_B vwCl x_Tb x_Nb xM230 p s m meth c D U Y0 av) {this bk : Nat} {h : Int64} {pp cq : Int32} {fb : Nat → Int32} (hav : av = [.ref this, .long h, .int pp, .int cq]) (hs0 : x_sl D 12 0 this s.heap = some (.ref bk)) (hA0 : y_A bk 160 s.heap fb) (hp9 : 116 ≤ pp.toInt ∧ pp.toInt ≤ 116) (hq9 : 12 ≤ cq.toInt ∧ cq.toInt ≤ 12)  :
    ∀ (n : Nat), ∀ (H : Heap) (Y : xY) (locs : List Loc) (ls : Array Slot) (k : Int32) (x : Int64), x_I D x_G x_Zs U (x_efs xM230) Y0 s.heap Y H locs → Y this = some 17 → Y bk = some 46 → x_sl D 12 0 this H = some (.ref bk) → y_A bk 160 H fb → lv_has ls xM230.2.2.1 [(7, .int k), (5, .long x), (0, .ref this), (1, .long h), (3, .int pp), (4, .int cq)] → (0 ≤ k.toInt ∧ k.toInt ≤ cq.toInt) → (x = m_mxs fb pp.toInt.toNat h k.toInt.toNat) → (57 - k.toInt).toNat < n → W p l e (x_rm xM230) s m av.toArray below meth c H locs 0 0 (y_QQ below D x_G x_Zs U xM230 z_PmxM av Y0 s) (F0 m 6 ls []) := by
  have X := B.1
  have hx := X.1
  have hb := X.2.1
  have hY0 := B.2.2.2.2.1
  intro n
  induction n with
  | zero => intro _ _ _ _ _ _ _ _ _ _ _ _ _ _ h; exact absurd h (Nat.not_lt_zero _)
  | succ n ih =>
    intro H Y locs ls k x  hI hY_this hY_bk hs_bk hA_bk hl hk hx9 hn
    refine lv_iload hx hb mx230_d6 (lv_at hl 0 rfl) ?_
    refine lv_iload hx hb mx230_d8 (lv_at hl 5 rfl) ?_
    refine lv_icmp_ge hx hb mx230_d10 (tgt := 38) (by decide) (fun q10 => ?_) (fun q10 => ?_)
    · have q10_ : cq.toInt ≤ k.toInt := x_le32.mp q10
      refine lv_lload hx hb mx230_d38 (lv_at hl 1 rfl) ?_
      subst hav
      exact y_lreturn B hI rfl rfl List.mem_cons_self ⟨_, rfl, ⟨_, rfl, x_i64 _⟩⟩ (x_cs.mono B.2.2.2.2.2 (y_mon B hI)) (fun t' b' h' p' q' f' h1 h2 h3 => by cases h1; cases h2.symm.trans hs0; refine congrArg (fun x => some (Value.long x)) ?_; rw [m_mxs_congr (f := f') (g := fb) cq.toInt.toNat (fun i hi => z_AR h3 hA0 (by omega)), show cq.toInt.toNat = k.toInt.toNat by omega]; exact hx9) (Nat.le_refl _) (Nat.le_refl _) mx230_d40
    · have q10_ : k.toInt < cq.toInt := Int.not_le.mp fun q => q10 (x_le32.mpr q)
      refine lv_ldc2 hx hb X.2.2.2.1 (v := 31) (X.2.2.2.2.1 _ (x_bw88 13 rfl rfl)) mx230_d13 ?_
      have el31 : (31 : Int64).toInt = 31 := by decide
      refine lv_lload hx hb mx230_d16 (lv_at hl 1 rfl) ?_
      refine lv_lmul hx hb mx230_d18 ?_
      generalize hg_z18 : (31 : Int64) * x = z18
      refine lv_aload_n hx hb mx230_d19 rfl (lv_at hl 2 rfl) ?_
      refine y_getf X (fl190 X.2.2.2.2.1) hI.1 hY_this rfl hs_bk mx230_d20 ?_
      refine lv_iload_n hx hb mx230_d23 rfl (lv_at hl 4 rfl) ?_
      refine lv_iload hx hb mx230_d24 (lv_at hl 0 rfl) ?_
      refine lv_iadd hx hb mx230_d26 ?_
      generalize hg_z26 : pp + k = z26
      have h_z26 : z26.toInt = pp.toInt + k.toInt := by rw [← hg_z26]; have := y_add (x := pp) (y := k) (by omega) (by omega); exact this
      refine y_iald X hI.1 hY_bk rfl hA_bk (by omega) (by show _ < (160 : Int); omega) mx230_d27 ?_
      obtain ⟨e27, hg_e27⟩ : ∃ e27 : Int32, fb z26.toInt.toNat = e27 := ⟨_, rfl⟩
      rw [hg_e27]
      obtain ⟨z28, hg_z28⟩ : ∃ z28 : Int64, e27.toInt64 = z28 := ⟨_, rfl⟩
      have h_z28 : z28.toInt = (e27).toInt := by rw [← hg_z28]; exact Int32.toInt_toInt64 _
      refine lv_i2l hx hb mx230_d28 (v := z28) hg_z28 ?_
      refine lv_ladd hx hb mx230_d29 ?_
      generalize hg_z29 : z18 + z28 = z29
      refine lv_lstore hx hb mx230_d30 hl (by decide) (lv' := [(5, .long z29), (7, .int k), (0, .ref this), (1, .long h), (3, .int pp), (4, .int cq)]) rfl fun ls hl => ?_
      obtain ⟨z32, hg_z32⟩ : ∃ z32 : Int32, k + Int32.ofInt 1 = z32 := ⟨_, rfl⟩
      have h_z32 : z32.toInt = k.toInt + 1 := by rw [← hg_z32]; exact y_inc (by decide) (by omega) (by omega)
      refine lv_iinc hx hb mx230_d32 hl (k := 1) rfl hg_z32 (by decide) (lv' := [(7, .int z32), (5, .long z29), (0, .ref this), (1, .long h), (3, .int pp), (4, .int cq)]) rfl fun ls hl => ?_
      refine lv_goto hx hb mx230_d35 (tgt := 6) (by decide) ?_
      have his : z32.toInt.toNat = k.toInt.toNat + 1 := by omega
      have ae : fb (pp.toInt.toNat + k.toInt.toNat) = e27 := Eq.trans (congrArg fb (by omega)) hg_e27
      exact ih _ _ _ _ _ _ hI hY_this hY_bk hs_bk hA_bk (lv_sub hl [0, 1, 2, 3, 4, 5] rfl) (by first | assumption | omega) (by rw [his]; show _ = 31 * _ + _; rw [← hx9, ae, hg_z28, hg_z18]; exact (Eq.symm hg_z29)) (by omega)
theorem ym_mixM230 : y_Met vwCl x_G x_Zs x_Tb x_Nb xM230 y_T z_PmxM := by
  refine y_main (by decide +kernel) (by decide +kernel) x_Tb_good x_Nb_ok ?_
  intro p l e s m below meth c D U Y0 av ls B hI _ hl
  have X := B.1
  have hx := X.1
  have hb := X.2.1
  have hY0 := B.2.2.2.2.1
  obtain ⟨v0, v1, v2, v3, rfl, hv0, ⟨h, rfl, -⟩, ⟨pp, rfl, hp9⟩, ⟨cq, rfl, hq9⟩⟩ := y_four B.2.2.2.2.2
  replace hp9 : (116 : Int) ≤ pp.toInt ∧ pp.toInt ≤ 116 := hp9
  replace hq9 : (12 : Int) ≤ cq.toInt ∧ cq.toInt ≤ 12 := hq9
  obtain ⟨this, t0, rfl, ht0, hY_this⟩ := x_ref_at hv0 rfl
  obtain rfl := List.mem_singleton.mp ht0
  replace hl : lv_has ls xM230.2.2.1 [(0, .ref this), (1, .long h), (3, .int pp), (4, .int cq)] := hl
  obtain ⟨bk, hs_bk, hY_bk⟩ := y_fldR (k := 0) hI.1 hY_this rfl rfl
  obtain ⟨fb9, hA9, hB9⟩ := y_arr hI.1 hY_bk rfl rfl
  obtain ⟨fb, hcn, hA_bk, hB_bk⟩ := z_canon (Y := Y0) (P := fun j v => x_c Y0 ([xI 0 10, xI 0 8, xI 0 8].getD j xF) (.int v)) hA9 hB9
  clear hA9 hB9 fb9
  have hs0 := hs_bk
  have hA0 := hA_bk
  have hd := z_hdr hB_bk
  have hd0 := hd.1
  have hd1 := hd.2.1
  refine lv_lload_n hx hb mx230_d0 rfl (lv_at hl 1 rfl) ?_
  refine lv_lstore hx hb mx230_d1 hl (by decide) (lv' := [(5, .long h), (0, .ref this), (1, .long h), (3, .int pp), (4, .int cq)]) rfl fun ls hl => ?_
  refine lv_iconst hx hb mx230_d3 (v := 0) (by decide) ?_
  have ec0 : (0 : Int32).toInt = 0 := by decide
  refine lv_istore hx hb mx230_d4 hl (by decide) (lv' := [(7, .int (0 : Int32)), (5, .long h), (0, .ref this), (1, .long h), (3, .int pp), (4, .int cq)]) rfl fun ls hl => ?_
  exact mx230_L6 B rfl hs0 hA0 hp9 hq9 58 _ _ _ _ _ _ hI hY_this hY_bk hs_bk hA_bk (lv_sub hl [0, 1, 2, 3, 4, 5] rfl) (by first | assumption | omega) (by rw [z_i0]; rfl) (by omega)
theorem mx231_d0 : decode xM231.2.1 0 = .ok (.lload_n 1, 1) := dz_ok (by decide +kernel)
theorem mx231_d1 : decode xM231.2.1 1 = .ok (.lstore 5, 2) := dz_ok (by decide +kernel)
theorem mx231_d3 : decode xM231.2.1 3 = .ok (.iconst 0, 1) := dz_ok (by decide +kernel)
theorem mx231_d4 : decode xM231.2.1 4 = .ok (.istore 7, 2) := dz_ok (by decide +kernel)
theorem mx231_d6 : decode xM231.2.1 6 = .ok (.iload 7, 2) := dz_ok (by decide +kernel)
theorem mx231_d8 : decode xM231.2.1 8 = .ok (.iload 4, 2) := dz_ok (by decide +kernel)
theorem mx231_d10 : decode xM231.2.1 10 = .ok (.if_icmp .ge 28, 3) := dz_ok (by decide +kernel)
theorem mx231_d13 : decode xM231.2.1 13 = .ok (.ldc2_w 294, 3) := dz_ok (by decide +kernel)
theorem mx231_d16 : decode xM231.2.1 16 = .ok (.lload 5, 2) := dz_ok (by decide +kernel)
theorem mx231_d18 : decode xM231.2.1 18 = .ok (.lmul, 1) := dz_ok (by decide +kernel)
theorem mx231_d19 : decode xM231.2.1 19 = .ok (.aload_n 0, 1) := dz_ok (by decide +kernel)
theorem mx231_d20 : decode xM231.2.1 20 = .ok (.getfield 7, 3) := dz_ok (by decide +kernel)
theorem mx231_d23 : decode xM231.2.1 23 = .ok (.iload_n 3, 1) := dz_ok (by decide +kernel)
theorem mx231_d24 : decode xM231.2.1 24 = .ok (.iload 7, 2) := dz_ok (by decide +kernel)
theorem mx231_d26 : decode xM231.2.1 26 = .ok (.iadd, 1) := dz_ok (by decide +kernel)
theorem mx231_d27 : decode xM231.2.1 27 = .ok (.iaload, 1) := dz_ok (by decide +kernel)
theorem mx231_d28 : decode xM231.2.1 28 = .ok (.i2l, 1) := dz_ok (by decide +kernel)
theorem mx231_d29 : decode xM231.2.1 29 = .ok (.ladd, 1) := dz_ok (by decide +kernel)
theorem mx231_d30 : decode xM231.2.1 30 = .ok (.lstore 5, 2) := dz_ok (by decide +kernel)
theorem mx231_d32 : decode xM231.2.1 32 = .ok (.iinc 7 1, 3) := dz_ok (by decide +kernel)
theorem mx231_d35 : decode xM231.2.1 35 = .ok (.goto (-29), 3) := dz_ok (by decide +kernel)
theorem mx231_d38 : decode xM231.2.1 38 = .ok (.lload 5, 2) := dz_ok (by decide +kernel)
theorem mx231_d40 : decode xM231.2.1 40 = .ok (.lreturn, 1) := dz_ok (by decide +kernel)
theorem mx231_L6 {p : Program} {l : Launch} {e : Env} {s : State} {m : MethodId} {below : List Frame} {meth : Method} {c : Code} {D : va_G} {U : State} {Y0 : xY} {av : List Value} (B : y_B vwCl x_Tb x_Nb xM231 p s m meth c D U Y0 av) {this bk : Nat} {h : Int64} {pp cq : Int32} {fb : Nat → Int32} (hav : av = [.ref this, .long h, .int pp, .int cq]) (hs0 : x_sl D 12 0 this s.heap = some (.ref bk)) (hA0 : y_A bk 160 s.heap fb) (hp9 : 128 ≤ pp.toInt ∧ pp.toInt ≤ 128) (hq9 : 0 ≤ cq.toInt ∧ cq.toInt ≤ 8)  :
    ∀ (n : Nat), ∀ (H : Heap) (Y : xY) (locs : List Loc) (ls : Array Slot) (k : Int32) (x : Int64), x_I D x_G x_Zs U (x_efs xM231) Y0 s.heap Y H locs → Y this = some 17 → Y bk = some 46 → x_sl D 12 0 this H = some (.ref bk) → y_A bk 160 H fb → lv_has ls xM231.2.2.1 [(7, .int k), (5, .long x), (0, .ref this), (1, .long h), (3, .int pp), (4, .int cq)] → (0 ≤ k.toInt ∧ k.toInt ≤ cq.toInt) → (x = m_mxs fb pp.toInt.toNat h k.toInt.toNat) → (57 - k.toInt).toNat < n → W p l e (x_rm xM231) s m av.toArray below meth c H locs 0 0 (y_QQ below D x_G x_Zs U xM231 z_PmxM av Y0 s) (F0 m 6 ls []) := by
  have X := B.1
  have hx := X.1
  have hb := X.2.1
  have hY0 := B.2.2.2.2.1
  intro n
  induction n with
  | zero => intro _ _ _ _ _ _ _ _ _ _ _ _ _ _ h; exact absurd h (Nat.not_lt_zero _)
  | succ n ih =>
    intro H Y locs ls k x  hI hY_this hY_bk hs_bk hA_bk hl hk hx9 hn
    refine lv_iload hx hb mx231_d6 (lv_at hl 0 rfl) ?_
    refine lv_iload hx hb mx231_d8 (lv_at hl 5 rfl) ?_
    refine lv_icmp_ge hx hb mx231_d10 (tgt := 38) (by decide) (fun q10 => ?_) (fun q10 => ?_)
    · have q10_ : cq.toInt ≤ k.toInt := x_le32.mp q10
      refine lv_lload hx hb mx231_d38 (lv_at hl 1 rfl) ?_
      subst hav
      exact y_lreturn B hI rfl rfl List.mem_cons_self ⟨_, rfl, ⟨_, rfl, x_i64 _⟩⟩ (x_cs.mono B.2.2.2.2.2 (y_mon B hI)) (fun t' b' h' p' q' f' h1 h2 h3 => by cases h1; cases h2.symm.trans hs0; refine congrArg (fun x => some (Value.long x)) ?_; rw [m_mxs_congr (f := f') (g := fb) cq.toInt.toNat (fun i hi => z_AR h3 hA0 (by omega)), show cq.toInt.toNat = k.toInt.toNat by omega]; exact hx9) (Nat.le_refl _) (Nat.le_refl _) mx231_d40
    · have q10_ : k.toInt < cq.toInt := Int.not_le.mp fun q => q10 (x_le32.mpr q)
      refine lv_ldc2 hx hb X.2.2.2.1 (v := 31) (X.2.2.2.2.1 _ (x_bw88 13 rfl rfl)) mx231_d13 ?_
      have el31 : (31 : Int64).toInt = 31 := by decide
      refine lv_lload hx hb mx231_d16 (lv_at hl 1 rfl) ?_
      refine lv_lmul hx hb mx231_d18 ?_
      generalize hg_z18 : (31 : Int64) * x = z18
      refine lv_aload_n hx hb mx231_d19 rfl (lv_at hl 2 rfl) ?_
      refine y_getf X (fl190 X.2.2.2.2.1) hI.1 hY_this rfl hs_bk mx231_d20 ?_
      refine lv_iload_n hx hb mx231_d23 rfl (lv_at hl 4 rfl) ?_
      refine lv_iload hx hb mx231_d24 (lv_at hl 0 rfl) ?_
      refine lv_iadd hx hb mx231_d26 ?_
      generalize hg_z26 : pp + k = z26
      have h_z26 : z26.toInt = pp.toInt + k.toInt := by rw [← hg_z26]; have := y_add (x := pp) (y := k) (by omega) (by omega); exact this
      refine y_iald X hI.1 hY_bk rfl hA_bk (by omega) (by show _ < (160 : Int); omega) mx231_d27 ?_
      obtain ⟨e27, hg_e27⟩ : ∃ e27 : Int32, fb z26.toInt.toNat = e27 := ⟨_, rfl⟩
      rw [hg_e27]
      obtain ⟨z28, hg_z28⟩ : ∃ z28 : Int64, e27.toInt64 = z28 := ⟨_, rfl⟩
      have h_z28 : z28.toInt = (e27).toInt := by rw [← hg_z28]; exact Int32.toInt_toInt64 _
      refine lv_i2l hx hb mx231_d28 (v := z28) hg_z28 ?_
      refine lv_ladd hx hb mx231_d29 ?_
      generalize hg_z29 : z18 + z28 = z29
      refine lv_lstore hx hb mx231_d30 hl (by decide) (lv' := [(5, .long z29), (7, .int k), (0, .ref this), (1, .long h), (3, .int pp), (4, .int cq)]) rfl fun ls hl => ?_
      obtain ⟨z32, hg_z32⟩ : ∃ z32 : Int32, k + Int32.ofInt 1 = z32 := ⟨_, rfl⟩
      have h_z32 : z32.toInt = k.toInt + 1 := by rw [← hg_z32]; exact y_inc (by decide) (by omega) (by omega)
      refine lv_iinc hx hb mx231_d32 hl (k := 1) rfl hg_z32 (by decide) (lv' := [(7, .int z32), (5, .long z29), (0, .ref this), (1, .long h), (3, .int pp), (4, .int cq)]) rfl fun ls hl => ?_
      refine lv_goto hx hb mx231_d35 (tgt := 6) (by decide) ?_
      have his : z32.toInt.toNat = k.toInt.toNat + 1 := by omega
      have ae : fb (pp.toInt.toNat + k.toInt.toNat) = e27 := Eq.trans (congrArg fb (by omega)) hg_e27
      exact ih _ _ _ _ _ _ hI hY_this hY_bk hs_bk hA_bk (lv_sub hl [0, 1, 2, 3, 4, 5] rfl) (by first | assumption | omega) (by rw [his]; show _ = 31 * _ + _; rw [← hx9, ae, hg_z28, hg_z18]; exact (Eq.symm hg_z29)) (by omega)
theorem ym_mixM231 : y_Met vwCl x_G x_Zs x_Tb x_Nb xM231 y_T z_PmxM := by
  refine y_main (by decide +kernel) (by decide +kernel) x_Tb_good x_Nb_ok ?_
  intro p l e s m below meth c D U Y0 av ls B hI _ hl
  have X := B.1
  have hx := X.1
  have hb := X.2.1
  have hY0 := B.2.2.2.2.1
  obtain ⟨v0, v1, v2, v3, rfl, hv0, ⟨h, rfl, -⟩, ⟨pp, rfl, hp9⟩, ⟨cq, rfl, hq9⟩⟩ := y_four B.2.2.2.2.2
  replace hp9 : (128 : Int) ≤ pp.toInt ∧ pp.toInt ≤ 128 := hp9
  replace hq9 : (0 : Int) ≤ cq.toInt ∧ cq.toInt ≤ 8 := hq9
  obtain ⟨this, t0, rfl, ht0, hY_this⟩ := x_ref_at hv0 rfl
  obtain rfl := List.mem_singleton.mp ht0
  replace hl : lv_has ls xM231.2.2.1 [(0, .ref this), (1, .long h), (3, .int pp), (4, .int cq)] := hl
  obtain ⟨bk, hs_bk, hY_bk⟩ := y_fldR (k := 0) hI.1 hY_this rfl rfl
  obtain ⟨fb9, hA9, hB9⟩ := y_arr hI.1 hY_bk rfl rfl
  obtain ⟨fb, hcn, hA_bk, hB_bk⟩ := z_canon (Y := Y0) (P := fun j v => x_c Y0 ([xI 0 10, xI 0 8, xI 0 8].getD j xF) (.int v)) hA9 hB9
  clear hA9 hB9 fb9
  have hs0 := hs_bk
  have hA0 := hA_bk
  have hd := z_hdr hB_bk
  have hd0 := hd.1
  have hd1 := hd.2.1
  refine lv_lload_n hx hb mx231_d0 rfl (lv_at hl 1 rfl) ?_
  refine lv_lstore hx hb mx231_d1 hl (by decide) (lv' := [(5, .long h), (0, .ref this), (1, .long h), (3, .int pp), (4, .int cq)]) rfl fun ls hl => ?_
  refine lv_iconst hx hb mx231_d3 (v := 0) (by decide) ?_
  have ec0 : (0 : Int32).toInt = 0 := by decide
  refine lv_istore hx hb mx231_d4 hl (by decide) (lv' := [(7, .int (0 : Int32)), (5, .long h), (0, .ref this), (1, .long h), (3, .int pp), (4, .int cq)]) rfl fun ls hl => ?_
  exact mx231_L6 B rfl hs0 hA0 hp9 hq9 58 _ _ _ _ _ _ hI hY_this hY_bk hs_bk hA_bk (lv_sub hl [0, 1, 2, 3, 4, 5] rfl) (by first | assumption | omega) (by rw [z_i0]; rfl) (by omega)
theorem mx232_d0 : decode xM232.2.1 0 = .ok (.lload_n 1, 1) := dz_ok (by decide +kernel)
theorem mx232_d1 : decode xM232.2.1 1 = .ok (.lstore 5, 2) := dz_ok (by decide +kernel)
theorem mx232_d3 : decode xM232.2.1 3 = .ok (.iconst 0, 1) := dz_ok (by decide +kernel)
theorem mx232_d4 : decode xM232.2.1 4 = .ok (.istore 7, 2) := dz_ok (by decide +kernel)
theorem mx232_d6 : decode xM232.2.1 6 = .ok (.iload 7, 2) := dz_ok (by decide +kernel)
theorem mx232_d8 : decode xM232.2.1 8 = .ok (.iload 4, 2) := dz_ok (by decide +kernel)
theorem mx232_d10 : decode xM232.2.1 10 = .ok (.if_icmp .ge 28, 3) := dz_ok (by decide +kernel)
theorem mx232_d13 : decode xM232.2.1 13 = .ok (.ldc2_w 294, 3) := dz_ok (by decide +kernel)
theorem mx232_d16 : decode xM232.2.1 16 = .ok (.lload 5, 2) := dz_ok (by decide +kernel)
theorem mx232_d18 : decode xM232.2.1 18 = .ok (.lmul, 1) := dz_ok (by decide +kernel)
theorem mx232_d19 : decode xM232.2.1 19 = .ok (.aload_n 0, 1) := dz_ok (by decide +kernel)
theorem mx232_d20 : decode xM232.2.1 20 = .ok (.getfield 7, 3) := dz_ok (by decide +kernel)
theorem mx232_d23 : decode xM232.2.1 23 = .ok (.iload_n 3, 1) := dz_ok (by decide +kernel)
theorem mx232_d24 : decode xM232.2.1 24 = .ok (.iload 7, 2) := dz_ok (by decide +kernel)
theorem mx232_d26 : decode xM232.2.1 26 = .ok (.iadd, 1) := dz_ok (by decide +kernel)
theorem mx232_d27 : decode xM232.2.1 27 = .ok (.iaload, 1) := dz_ok (by decide +kernel)
theorem mx232_d28 : decode xM232.2.1 28 = .ok (.i2l, 1) := dz_ok (by decide +kernel)
theorem mx232_d29 : decode xM232.2.1 29 = .ok (.ladd, 1) := dz_ok (by decide +kernel)
theorem mx232_d30 : decode xM232.2.1 30 = .ok (.lstore 5, 2) := dz_ok (by decide +kernel)
theorem mx232_d32 : decode xM232.2.1 32 = .ok (.iinc 7 1, 3) := dz_ok (by decide +kernel)
theorem mx232_d35 : decode xM232.2.1 35 = .ok (.goto (-29), 3) := dz_ok (by decide +kernel)
theorem mx232_d38 : decode xM232.2.1 38 = .ok (.lload 5, 2) := dz_ok (by decide +kernel)
theorem mx232_d40 : decode xM232.2.1 40 = .ok (.lreturn, 1) := dz_ok (by decide +kernel)
theorem mx232_L6 {p : Program} {l : Launch} {e : Env} {s : State} {m : MethodId} {below : List Frame} {meth : Method} {c : Code} {D : va_G} {U : State} {Y0 : xY} {av : List Value} (B : y_B vwCl x_Tb x_Nb xM232 p s m meth c D U Y0 av) {this bk : Nat} {h : Int64} {pp cq : Int32} {fb : Nat → Int32} (hav : av = [.ref this, .long h, .int pp, .int cq]) (hs0 : x_sl D 12 0 this s.heap = some (.ref bk)) (hA0 : y_A bk 160 s.heap fb) (hp9 : 136 ≤ pp.toInt ∧ pp.toInt ≤ 136) (hq9 : 24 ≤ cq.toInt ∧ cq.toInt ≤ 24)  :
    ∀ (n : Nat), ∀ (H : Heap) (Y : xY) (locs : List Loc) (ls : Array Slot) (k : Int32) (x : Int64), x_I D x_G x_Zs U (x_efs xM232) Y0 s.heap Y H locs → Y this = some 17 → Y bk = some 46 → x_sl D 12 0 this H = some (.ref bk) → y_A bk 160 H fb → lv_has ls xM232.2.2.1 [(7, .int k), (5, .long x), (0, .ref this), (1, .long h), (3, .int pp), (4, .int cq)] → (0 ≤ k.toInt ∧ k.toInt ≤ cq.toInt) → (x = m_mxs fb pp.toInt.toNat h k.toInt.toNat) → (57 - k.toInt).toNat < n → W p l e (x_rm xM232) s m av.toArray below meth c H locs 0 0 (y_QQ below D x_G x_Zs U xM232 z_PmxM av Y0 s) (F0 m 6 ls []) := by
  have X := B.1
  have hx := X.1
  have hb := X.2.1
  have hY0 := B.2.2.2.2.1
  intro n
  induction n with
  | zero => intro _ _ _ _ _ _ _ _ _ _ _ _ _ _ h; exact absurd h (Nat.not_lt_zero _)
  | succ n ih =>
    intro H Y locs ls k x  hI hY_this hY_bk hs_bk hA_bk hl hk hx9 hn
    refine lv_iload hx hb mx232_d6 (lv_at hl 0 rfl) ?_
    refine lv_iload hx hb mx232_d8 (lv_at hl 5 rfl) ?_
    refine lv_icmp_ge hx hb mx232_d10 (tgt := 38) (by decide) (fun q10 => ?_) (fun q10 => ?_)
    · have q10_ : cq.toInt ≤ k.toInt := x_le32.mp q10
      refine lv_lload hx hb mx232_d38 (lv_at hl 1 rfl) ?_
      subst hav
      exact y_lreturn B hI rfl rfl List.mem_cons_self ⟨_, rfl, ⟨_, rfl, x_i64 _⟩⟩ (x_cs.mono B.2.2.2.2.2 (y_mon B hI)) (fun t' b' h' p' q' f' h1 h2 h3 => by cases h1; cases h2.symm.trans hs0; refine congrArg (fun x => some (Value.long x)) ?_; rw [m_mxs_congr (f := f') (g := fb) cq.toInt.toNat (fun i hi => z_AR h3 hA0 (by omega)), show cq.toInt.toNat = k.toInt.toNat by omega]; exact hx9) (Nat.le_refl _) (Nat.le_refl _) mx232_d40
    · have q10_ : k.toInt < cq.toInt := Int.not_le.mp fun q => q10 (x_le32.mpr q)
      refine lv_ldc2 hx hb X.2.2.2.1 (v := 31) (X.2.2.2.2.1 _ (x_bw88 13 rfl rfl)) mx232_d13 ?_
      have el31 : (31 : Int64).toInt = 31 := by decide
      refine lv_lload hx hb mx232_d16 (lv_at hl 1 rfl) ?_
      refine lv_lmul hx hb mx232_d18 ?_
      generalize hg_z18 : (31 : Int64) * x = z18
      refine lv_aload_n hx hb mx232_d19 rfl (lv_at hl 2 rfl) ?_
      refine y_getf X (fl190 X.2.2.2.2.1) hI.1 hY_this rfl hs_bk mx232_d20 ?_
      refine lv_iload_n hx hb mx232_d23 rfl (lv_at hl 4 rfl) ?_
      refine lv_iload hx hb mx232_d24 (lv_at hl 0 rfl) ?_
      refine lv_iadd hx hb mx232_d26 ?_
      generalize hg_z26 : pp + k = z26
      have h_z26 : z26.toInt = pp.toInt + k.toInt := by rw [← hg_z26]; have := y_add (x := pp) (y := k) (by omega) (by omega); exact this
      refine y_iald X hI.1 hY_bk rfl hA_bk (by omega) (by show _ < (160 : Int); omega) mx232_d27 ?_
      obtain ⟨e27, hg_e27⟩ : ∃ e27 : Int32, fb z26.toInt.toNat = e27 := ⟨_, rfl⟩
      rw [hg_e27]
      obtain ⟨z28, hg_z28⟩ : ∃ z28 : Int64, e27.toInt64 = z28 := ⟨_, rfl⟩
      have h_z28 : z28.toInt = (e27).toInt := by rw [← hg_z28]; exact Int32.toInt_toInt64 _
      refine lv_i2l hx hb mx232_d28 (v := z28) hg_z28 ?_
      refine lv_ladd hx hb mx232_d29 ?_
      generalize hg_z29 : z18 + z28 = z29
      refine lv_lstore hx hb mx232_d30 hl (by decide) (lv' := [(5, .long z29), (7, .int k), (0, .ref this), (1, .long h), (3, .int pp), (4, .int cq)]) rfl fun ls hl => ?_
      obtain ⟨z32, hg_z32⟩ : ∃ z32 : Int32, k + Int32.ofInt 1 = z32 := ⟨_, rfl⟩
      have h_z32 : z32.toInt = k.toInt + 1 := by rw [← hg_z32]; exact y_inc (by decide) (by omega) (by omega)
      refine lv_iinc hx hb mx232_d32 hl (k := 1) rfl hg_z32 (by decide) (lv' := [(7, .int z32), (5, .long z29), (0, .ref this), (1, .long h), (3, .int pp), (4, .int cq)]) rfl fun ls hl => ?_
      refine lv_goto hx hb mx232_d35 (tgt := 6) (by decide) ?_
      have his : z32.toInt.toNat = k.toInt.toNat + 1 := by omega
      have ae : fb (pp.toInt.toNat + k.toInt.toNat) = e27 := Eq.trans (congrArg fb (by omega)) hg_e27
      exact ih _ _ _ _ _ _ hI hY_this hY_bk hs_bk hA_bk (lv_sub hl [0, 1, 2, 3, 4, 5] rfl) (by first | assumption | omega) (by rw [his]; show _ = 31 * _ + _; rw [← hx9, ae, hg_z28, hg_z18]; exact (Eq.symm hg_z29)) (by omega)
theorem ym_mixM232 : y_Met vwCl x_G x_Zs x_Tb x_Nb xM232 y_T z_PmxM := by
  refine y_main (by decide +kernel) (by decide +kernel) x_Tb_good x_Nb_ok ?_
  intro p l e s m below meth c D U Y0 av ls B hI _ hl
  have X := B.1
  have hx := X.1
  have hb := X.2.1
  have hY0 := B.2.2.2.2.1
  obtain ⟨v0, v1, v2, v3, rfl, hv0, ⟨h, rfl, -⟩, ⟨pp, rfl, hp9⟩, ⟨cq, rfl, hq9⟩⟩ := y_four B.2.2.2.2.2
  replace hp9 : (136 : Int) ≤ pp.toInt ∧ pp.toInt ≤ 136 := hp9
  replace hq9 : (24 : Int) ≤ cq.toInt ∧ cq.toInt ≤ 24 := hq9
  obtain ⟨this, t0, rfl, ht0, hY_this⟩ := x_ref_at hv0 rfl
  obtain rfl := List.mem_singleton.mp ht0
  replace hl : lv_has ls xM232.2.2.1 [(0, .ref this), (1, .long h), (3, .int pp), (4, .int cq)] := hl
  obtain ⟨bk, hs_bk, hY_bk⟩ := y_fldR (k := 0) hI.1 hY_this rfl rfl
  obtain ⟨fb9, hA9, hB9⟩ := y_arr hI.1 hY_bk rfl rfl
  obtain ⟨fb, hcn, hA_bk, hB_bk⟩ := z_canon (Y := Y0) (P := fun j v => x_c Y0 ([xI 0 10, xI 0 8, xI 0 8].getD j xF) (.int v)) hA9 hB9
  clear hA9 hB9 fb9
  have hs0 := hs_bk
  have hA0 := hA_bk
  have hd := z_hdr hB_bk
  have hd0 := hd.1
  have hd1 := hd.2.1
  refine lv_lload_n hx hb mx232_d0 rfl (lv_at hl 1 rfl) ?_
  refine lv_lstore hx hb mx232_d1 hl (by decide) (lv' := [(5, .long h), (0, .ref this), (1, .long h), (3, .int pp), (4, .int cq)]) rfl fun ls hl => ?_
  refine lv_iconst hx hb mx232_d3 (v := 0) (by decide) ?_
  have ec0 : (0 : Int32).toInt = 0 := by decide
  refine lv_istore hx hb mx232_d4 hl (by decide) (lv' := [(7, .int (0 : Int32)), (5, .long h), (0, .ref this), (1, .long h), (3, .int pp), (4, .int cq)]) rfl fun ls hl => ?_
  exact mx232_L6 B rfl hs0 hA0 hp9 hq9 58 _ _ _ _ _ _ hI hY_this hY_bk hs_bk hA_bk (lv_sub hl [0, 1, 2, 3, 4, 5] rfl) (by first | assumption | omega) (by rw [z_i0]; rfl) (by omega)
def z_PMdig : yP := fun D av _ H v _ H' => ∀ (this bk : Nat)  (f : Nat → Int32), av = [.ref this] → x_sl D 12 0 this H = some (.ref bk) → z_c f → y_A bk 160 H f → ∀ n9 : Int32, x_sl D 12 10 this H = some (.int n9) → ∀ fa9 fb9 : Int64, z_FM D H this fa9 fb9 → v = some (.long (m_dg f n9 fa9 fb9))
theorem dgX_d0 : decode xM233.2.1 0 = .ok (.ldc2_w 296, 3) := dz_ok (by decide +kernel)
theorem dgX_d3 : decode xM233.2.1 3 = .ok (.lstore_n 1, 1) := dz_ok (by decide +kernel)
theorem dgX_d4 : decode xM233.2.1 4 = .ok (.iconst 0, 1) := dz_ok (by decide +kernel)
theorem dgX_d5 : decode xM233.2.1 5 = .ok (.istore_n 3, 1) := dz_ok (by decide +kernel)
theorem dgX_d6 : decode xM233.2.1 6 = .ok (.iload_n 3, 1) := dz_ok (by decide +kernel)
theorem dgX_d7 : decode xM233.2.1 7 = .ok (.iconst 5, 1) := dz_ok (by decide +kernel)
theorem dgX_d8 : decode xM233.2.1 8 = .ok (.if_icmp .ge 22, 3) := dz_ok (by decide +kernel)
theorem dgX_d11 : decode xM233.2.1 11 = .ok (.ldc2_w 294, 3) := dz_ok (by decide +kernel)
theorem dgX_d14 : decode xM233.2.1 14 = .ok (.lload_n 1, 1) := dz_ok (by decide +kernel)
theorem dgX_d15 : decode xM233.2.1 15 = .ok (.lmul, 1) := dz_ok (by decide +kernel)
theorem dgX_d16 : decode xM233.2.1 16 = .ok (.aload_n 0, 1) := dz_ok (by decide +kernel)
theorem dgX_d17 : decode xM233.2.1 17 = .ok (.iload_n 3, 1) := dz_ok (by decide +kernel)
theorem dgX_d18 : decode xM233.2.1 18 = .ok (.invokevirtual 291, 3) := dz_ok (by decide +kernel)
theorem dgX_d21 : decode xM233.2.1 21 = .ok (.i2l, 1) := dz_ok (by decide +kernel)
theorem dgX_d22 : decode xM233.2.1 22 = .ok (.ladd, 1) := dz_ok (by decide +kernel)
theorem dgX_d23 : decode xM233.2.1 23 = .ok (.lstore_n 1, 1) := dz_ok (by decide +kernel)
theorem dgX_d24 : decode xM233.2.1 24 = .ok (.iinc 3 1, 3) := dz_ok (by decide +kernel)
theorem dgX_d27 : decode xM233.2.1 27 = .ok (.goto (-21), 3) := dz_ok (by decide +kernel)
theorem dgX_d30 : decode xM233.2.1 30 = .ok (.aload_n 0, 1) := dz_ok (by decide +kernel)
theorem dgX_d31 : decode xM233.2.1 31 = .ok (.lload_n 1, 1) := dz_ok (by decide +kernel)
theorem dgX_d32 : decode xM233.2.1 32 = .ok (.bipush 10, 2) := dz_ok (by decide +kernel)
theorem dgX_d34 : decode xM233.2.1 34 = .ok (.iconst 5, 1) := dz_ok (by decide +kernel)
theorem dgX_d35 : decode xM233.2.1 35 = .ok (.aload_n 0, 1) := dz_ok (by decide +kernel)
theorem dgX_d36 : decode xM233.2.1 36 = .ok (.getfield 7, 3) := dz_ok (by decide +kernel)
theorem dgX_d39 : decode xM233.2.1 39 = .ok (.iconst 0, 1) := dz_ok (by decide +kernel)
theorem dgX_d40 : decode xM233.2.1 40 = .ok (.iaload, 1) := dz_ok (by decide +kernel)
theorem dgX_d41 : decode xM233.2.1 41 = .ok (.imul, 1) := dz_ok (by decide +kernel)
theorem dgX_d42 : decode xM233.2.1 42 = .ok (.invokevirtual 298, 3) := dz_ok (by decide +kernel)
theorem dgX_d45 : decode xM233.2.1 45 = .ok (.lstore_n 1, 1) := dz_ok (by decide +kernel)
theorem dgX_d46 : decode xM233.2.1 46 = .ok (.aload_n 0, 1) := dz_ok (by decide +kernel)
theorem dgX_d47 : decode xM233.2.1 47 = .ok (.lload_n 1, 1) := dz_ok (by decide +kernel)
theorem dgX_d48 : decode xM233.2.1 48 = .ok (.bipush 60, 2) := dz_ok (by decide +kernel)
theorem dgX_d50 : decode xM233.2.1 50 = .ok (.bipush 7, 2) := dz_ok (by decide +kernel)
theorem dgX_d52 : decode xM233.2.1 52 = .ok (.aload_n 0, 1) := dz_ok (by decide +kernel)
theorem dgX_d53 : decode xM233.2.1 53 = .ok (.getfield 7, 3) := dz_ok (by decide +kernel)
theorem dgX_d56 : decode xM233.2.1 56 = .ok (.iconst 1, 1) := dz_ok (by decide +kernel)
theorem dgX_d57 : decode xM233.2.1 57 = .ok (.iaload, 1) := dz_ok (by decide +kernel)
theorem dgX_d58 : decode xM233.2.1 58 = .ok (.imul, 1) := dz_ok (by decide +kernel)
theorem dgX_d59 : decode xM233.2.1 59 = .ok (.invokevirtual 298, 3) := dz_ok (by decide +kernel)
theorem dgX_d62 : decode xM233.2.1 62 = .ok (.lstore_n 1, 1) := dz_ok (by decide +kernel)
theorem dgX_d63 : decode xM233.2.1 63 = .ok (.aload_n 0, 1) := dz_ok (by decide +kernel)
theorem dgX_d64 : decode xM233.2.1 64 = .ok (.lload_n 1, 1) := dz_ok (by decide +kernel)
theorem dgX_d65 : decode xM233.2.1 65 = .ok (.iconst 4, 1) := dz_ok (by decide +kernel)
theorem dgX_d66 : decode xM233.2.1 66 = .ok (.iconst 4, 1) := dz_ok (by decide +kernel)
theorem dgX_d67 : decode xM233.2.1 67 = .ok (.invokevirtual 298, 3) := dz_ok (by decide +kernel)
theorem dgX_d70 : decode xM233.2.1 70 = .ok (.lstore_n 1, 1) := dz_ok (by decide +kernel)
theorem dgX_d71 : decode xM233.2.1 71 = .ok (.aload_n 0, 1) := dz_ok (by decide +kernel)
theorem dgX_d72 : decode xM233.2.1 72 = .ok (.lload_n 1, 1) := dz_ok (by decide +kernel)
theorem dgX_d73 : decode xM233.2.1 73 = .ok (.bipush 116, 2) := dz_ok (by decide +kernel)
theorem dgX_d75 : decode xM233.2.1 75 = .ok (.bipush 12, 2) := dz_ok (by decide +kernel)
theorem dgX_d77 : decode xM233.2.1 77 = .ok (.invokevirtual 298, 3) := dz_ok (by decide +kernel)
theorem dgX_d80 : decode xM233.2.1 80 = .ok (.lstore_n 1, 1) := dz_ok (by decide +kernel)
theorem dgX_d81 : decode xM233.2.1 81 = .ok (.aload_n 0, 1) := dz_ok (by decide +kernel)
theorem dgX_d82 : decode xM233.2.1 82 = .ok (.lload_n 1, 1) := dz_ok (by decide +kernel)
theorem dgX_d83 : decode xM233.2.1 83 = .ok (.sipush 128, 3) := dz_ok (by decide +kernel)
theorem dgX_d86 : decode xM233.2.1 86 = .ok (.aload_n 0, 1) := dz_ok (by decide +kernel)
theorem dgX_d87 : decode xM233.2.1 87 = .ok (.getfield 7, 3) := dz_ok (by decide +kernel)
theorem dgX_d90 : decode xM233.2.1 90 = .ok (.iconst 2, 1) := dz_ok (by decide +kernel)
theorem dgX_d91 : decode xM233.2.1 91 = .ok (.iaload, 1) := dz_ok (by decide +kernel)
theorem dgX_d92 : decode xM233.2.1 92 = .ok (.invokevirtual 298, 3) := dz_ok (by decide +kernel)
theorem dgX_d95 : decode xM233.2.1 95 = .ok (.lstore_n 1, 1) := dz_ok (by decide +kernel)
theorem dgX_d96 : decode xM233.2.1 96 = .ok (.aload_n 0, 1) := dz_ok (by decide +kernel)
theorem dgX_d97 : decode xM233.2.1 97 = .ok (.lload_n 1, 1) := dz_ok (by decide +kernel)
theorem dgX_d98 : decode xM233.2.1 98 = .ok (.sipush 136, 3) := dz_ok (by decide +kernel)
theorem dgX_d101 : decode xM233.2.1 101 = .ok (.bipush 24, 2) := dz_ok (by decide +kernel)
theorem dgX_d103 : decode xM233.2.1 103 = .ok (.invokevirtual 298, 3) := dz_ok (by decide +kernel)
theorem dgX_d106 : decode xM233.2.1 106 = .ok (.lstore_n 1, 1) := dz_ok (by decide +kernel)
theorem dgX_d107 : decode xM233.2.1 107 = .ok (.ldc2_w 294, 3) := dz_ok (by decide +kernel)
theorem dgX_d110 : decode xM233.2.1 110 = .ok (.ldc2_w 294, 3) := dz_ok (by decide +kernel)
theorem dgX_d113 : decode xM233.2.1 113 = .ok (.lload_n 1, 1) := dz_ok (by decide +kernel)
theorem dgX_d114 : decode xM233.2.1 114 = .ok (.lmul, 1) := dz_ok (by decide +kernel)
theorem dgX_d115 : decode xM233.2.1 115 = .ok (.aload_n 0, 1) := dz_ok (by decide +kernel)
theorem dgX_d116 : decode xM233.2.1 116 = .ok (.getfield 84, 3) := dz_ok (by decide +kernel)
theorem dgX_d119 : decode xM233.2.1 119 = .ok (.ladd, 1) := dz_ok (by decide +kernel)
theorem dgX_d120 : decode xM233.2.1 120 = .ok (.lmul, 1) := dz_ok (by decide +kernel)
theorem dgX_d121 : decode xM233.2.1 121 = .ok (.aload_n 0, 1) := dz_ok (by decide +kernel)
theorem dgX_d122 : decode xM233.2.1 122 = .ok (.getfield 68, 3) := dz_ok (by decide +kernel)
theorem dgX_d125 : decode xM233.2.1 125 = .ok (.ladd, 1) := dz_ok (by decide +kernel)
theorem dgX_d126 : decode xM233.2.1 126 = .ok (.lreturn, 1) := dz_ok (by decide +kernel)
theorem dgX_L6 {p : Program} {l : Launch} {e : Env} {s : State} {m : MethodId} {below : List Frame} {meth : Method} {c : Code} {D : va_G} {U : State} {Y0 : xY} {av : List Value} (B : y_B vwCl x_Tb x_Nb xM233 p s m meth c D U Y0 av) {this bk : Nat} {fb : Nat → Int32} {ga gb : Int64} {nn : Int32} (hav : av = [.ref this]) (hs0 : x_sl D 12 0 this s.heap = some (.ref bk)) (hA0 : y_A bk 160 s.heap fb) (hcn : z_c fb) (hd : z_hd fb) (hfa0 : x_sl D 12 6 this s.heap = some (.long ga)) (hfb0 : x_sl D 12 7 this s.heap = some (.long gb)) (hn9 : x_sl D 12 10 this s.heap = some (.int nn))  :
    ∀ (n : Nat), ∀ (H : Heap) (Y : xY) (locs : List Loc) (ls : Array Slot) (k : Int32) (x : Int64), x_I D x_G x_Zs U (x_efs xM233) Y0 s.heap Y H locs → Y this = some 17 → Y bk = some 46 → x_sl D 12 0 this H = some (.ref bk) → x_sl D 12 10 this H = some (.int nn) → y_A bk 160 H fb → x_sl D 12 6 this H = some (.long ga) → x_sl D 12 7 this H = some (.long gb) → lv_has ls xM233.2.2.1 [(3, .int k), (1, .long x), (0, .ref this)] → (0 ≤ k.toInt ∧ k.toInt ≤ 5) → (x = m_mxs (m_cts fb nn) 0 619 k.toInt.toNat) → (6 - k.toInt).toNat < n → W p l e (x_rm xM233) s m av.toArray below meth c H locs 0 0 (y_QQ below D x_G x_Zs U xM233 z_PMdig av Y0 s) (F0 m 6 ls []) := by
  have X := B.1
  have hx := X.1
  have hb := X.2.1
  have hY0 := B.2.2.2.2.1
  intro n
  induction n with
  | zero => intro _ _ _ _ _ _ _ _ _ _ _ _ _ _ _ _ _ h; exact absurd h (Nat.not_lt_zero _)
  | succ n ih =>
    intro H Y locs ls k x  hI hY_this hY_bk hs_bk hsi_typed hA_bk hs_fa hs_fb hl hk hx9 hn
    have hd0 := hd.1
    have hd1 := hd.2.1
    have hd2 := hd.2.2
    refine lv_iload_n hx hb dgX_d6 rfl (lv_at hl 0 rfl) ?_
    refine lv_iconst hx hb dgX_d7 (v := 5) (by decide) ?_
    have ec5 : (5 : Int32).toInt = 5 := by decide
    refine lv_icmp_ge hx hb dgX_d8 (tgt := 30) (by decide) (fun q8 => ?_) (fun q8 => ?_)
    · have q8_ : (5 : Int32).toInt ≤ k.toInt := x_le32.mp q8
      refine lv_aload_n hx hb dgX_d30 rfl (lv_at hl 2 rfl) ?_
      refine lv_lload_n hx hb dgX_d31 rfl (lv_at hl 1 rfl) ?_
      refine lv_bipush hx hb dgX_d32 (v := 10) (by decide) ?_
      have ec10 : (10 : Int32).toInt = 10 := by decide
      refine lv_iconst hx hb dgX_d34 (v := 5) (by decide) ?_
      refine lv_aload_n hx hb dgX_d35 rfl (lv_at hl 2 rfl) ?_
      refine y_getf X (fl190 X.2.2.2.2.1) hI.1 hY_this rfl hs_bk dgX_d36 ?_
      refine lv_iconst hx hb dgX_d39 (v := 0) (by decide) ?_
      have ec0 : (0 : Int32).toInt = 0 := by decide
      refine y_iald X hI.1 hY_bk rfl hA_bk (by omega) (by show _ < (160 : Int); omega) dgX_d40 ?_
      obtain ⟨e40, hg_e40⟩ : ∃ e40 : Int32, fb (0 : Int32).toInt.toNat = e40 := ⟨_, rfl⟩
      rw [hg_e40]
      rw [z_i0] at hg_e40
      have h_e40 : e40.toInt = (fb 0).toInt := by rw [hg_e40]
      refine lv_imul hx hb dgX_d41 ?_
      generalize hg_z41 : (5 : Int32) * e40 = z41
      have h_z41 : z41.toInt = 5 * e40.toInt := by rw [← hg_z41]; have := y_mul (x := (5 : Int32)) (y := e40) (by rw [ec5]; omega) (by rw [ec5]; omega); rw [ec5] at this; exact this
      refine y_call (z := (0, 298, 4, some 17, xM227)) (av := [.ref this, .long x, .int (10 : Int32), .int z41]) (rest := []) (y_cokV (n := 3) (ci := 12) X ym_mixM227 rfl rfl rfl (x_cons (x_bw88 14 rfl rfl) (x_cons (x_bw89 0 rfl rfl) (x_cons (x_at 63 (by decide +kernel) rfl) (x_cons (x_bw0 9 rfl rfl) x_nilm)))) (x_bw89 1 rfl rfl) (by decide +kernel) ⟨Nat.le_of_ble_eq_true rfl, Nat.le_of_ble_eq_true rfl⟩) hY0 hI rfl dgX_d42 hl.1 (Nat.le_of_ble_eq_true rfl) (Nat.le_of_ble_eq_true rfl) (Nat.le_of_ble_eq_true rfl) (y_cons (y_cref hY_this rfl) (y_cons ⟨_, rfl, x_i64 _⟩ (y_cons ⟨_, rfl, by show (10 : Int) ≤ _; omega, by show _ ≤ (10 : Int); omega⟩ (y_cons ⟨_, rfl, by show (0 : Int) ≤ _; omega, by show _ ≤ (50 : Int); omega⟩ y_nil)))) rfl (y_recv rfl hY_this) trivial (y_sub_ef rfl) fun v Yn o Hn L ho hr ha hIn hx_ hE hP => ?_
      have hPd := hP _ _ _ _ _ _ rfl hs_bk hA_bk
      obtain rfl := hPd
      replace hs_bk := y_Efld hE hY_this rfl (by decide) (by decide) hs_bk
      replace hsi_typed := y_Efld hE hY_this rfl (by decide) (by decide) hsi_typed
      replace hs_fa := y_Efld hE hY_this rfl (by decide) (by decide) hs_fa
      replace hs_fb := y_Efld hE hY_this rfl (by decide) (by decide) hs_fb
      replace hA_bk := hA_bk.kept (y_Earr hE hY_bk rfl (by decide))
      replace hY_this := y_ext hx_ hI.1 hY_this
      replace hY_bk := y_ext hx_ hI.1 hY_bk
      generalize hg_r42 : m_mxs fb (10 : Int32).toInt.toNat x z41.toInt.toNat = r42
      clear ho hr ha hE hP hI hx_
      rename x_I _ _ _ _ _ _ _ _ _ _ => hI
      refine lv_lstore_n hx hb dgX_d45 rfl hl (by decide) (lv' := [(1, .long r42), (3, .int k), (0, .ref this)]) rfl fun ls hl => ?_
      refine lv_aload_n hx hb dgX_d46 rfl (lv_at hl 2 rfl) ?_
      refine lv_lload_n hx hb dgX_d47 rfl (lv_at hl 0 rfl) ?_
      refine lv_bipush hx hb dgX_d48 (v := 60) (by decide) ?_
      have ec60 : (60 : Int32).toInt = 60 := by decide
      refine lv_bipush hx hb dgX_d50 (v := 7) (by decide) ?_
      have ec7 : (7 : Int32).toInt = 7 := by decide
      refine lv_aload_n hx hb dgX_d52 rfl (lv_at hl 2 rfl) ?_
      refine y_getf X (fl190 X.2.2.2.2.1) hI.1 hY_this rfl hs_bk dgX_d53 ?_
      refine lv_iconst hx hb dgX_d56 (v := 1) (by decide) ?_
      have ec1 : (1 : Int32).toInt = 1 := by decide
      refine y_iald X hI.1 hY_bk rfl hA_bk (by omega) (by show _ < (160 : Int); omega) dgX_d57 ?_
      obtain ⟨e57, hg_e57⟩ : ∃ e57 : Int32, fb (1 : Int32).toInt.toNat = e57 := ⟨_, rfl⟩
      rw [hg_e57]
      rw [z_i1] at hg_e57
      have h_e57 : e57.toInt = (fb 1).toInt := by rw [hg_e57]
      refine lv_imul hx hb dgX_d58 ?_
      generalize hg_z58 : (7 : Int32) * e57 = z58
      have h_z58 : z58.toInt = 7 * e57.toInt := by rw [← hg_z58]; have := y_mul (x := (7 : Int32)) (y := e57) (by rw [ec7]; omega) (by rw [ec7]; omega); rw [ec7] at this; exact this
      refine y_call (z := (0, 298, 4, some 17, xM228)) (av := [.ref this, .long r42, .int (60 : Int32), .int z58]) (rest := []) (y_cokV (n := 3) (ci := 12) X ym_mixM228 rfl rfl rfl (x_cons (x_bw88 14 rfl rfl) (x_cons (x_bw89 0 rfl rfl) (x_cons (x_at 63 (by decide +kernel) rfl) (x_cons (x_bw0 9 rfl rfl) x_nilm)))) (x_bw89 1 rfl rfl) (by decide +kernel) ⟨Nat.le_of_ble_eq_true rfl, Nat.le_of_ble_eq_true rfl⟩) hY0 hI rfl dgX_d59 hl.1 (Nat.le_of_ble_eq_true rfl) (Nat.le_of_ble_eq_true rfl) (Nat.le_of_ble_eq_true rfl) (y_cons (y_cref hY_this rfl) (y_cons ⟨_, rfl, x_i64 _⟩ (y_cons ⟨_, rfl, by show (60 : Int) ≤ _; omega, by show _ ≤ (60 : Int); omega⟩ (y_cons ⟨_, rfl, by show (0 : Int) ≤ _; omega, by show _ ≤ (56 : Int); omega⟩ y_nil)))) rfl (y_recv rfl hY_this) trivial (y_sub_ef rfl) fun v Yn o Hn L ho hr ha hIn hx_ hE hP => ?_
      have hPd := hP _ _ _ _ _ _ rfl hs_bk hA_bk
      obtain rfl := hPd
      replace hs_bk := y_Efld hE hY_this rfl (by decide) (by decide) hs_bk
      replace hsi_typed := y_Efld hE hY_this rfl (by decide) (by decide) hsi_typed
      replace hs_fa := y_Efld hE hY_this rfl (by decide) (by decide) hs_fa
      replace hs_fb := y_Efld hE hY_this rfl (by decide) (by decide) hs_fb
      replace hA_bk := hA_bk.kept (y_Earr hE hY_bk rfl (by decide))
      replace hY_this := y_ext hx_ hI.1 hY_this
      replace hY_bk := y_ext hx_ hI.1 hY_bk
      generalize hg_r59 : m_mxs fb (60 : Int32).toInt.toNat r42 z58.toInt.toNat = r59
      clear ho hr ha hE hP hI hx_
      rename x_I _ _ _ _ _ _ _ _ _ _ => hI
      refine lv_lstore_n hx hb dgX_d62 rfl hl (by decide) (lv' := [(1, .long r59), (3, .int k), (0, .ref this)]) rfl fun ls hl => ?_
      refine lv_aload_n hx hb dgX_d63 rfl (lv_at hl 2 rfl) ?_
      refine lv_lload_n hx hb dgX_d64 rfl (lv_at hl 0 rfl) ?_
      refine lv_iconst hx hb dgX_d65 (v := 4) (by decide) ?_
      have ec4 : (4 : Int32).toInt = 4 := by decide
      refine lv_iconst hx hb dgX_d66 (v := 4) (by decide) ?_
      refine y_call (z := (0, 298, 4, some 17, xM229)) (av := [.ref this, .long r59, .int (4 : Int32), .int (4 : Int32)]) (rest := []) (y_cokV (n := 3) (ci := 12) X ym_mixM229 rfl rfl rfl (x_cons (x_bw88 14 rfl rfl) (x_cons (x_bw89 0 rfl rfl) (x_cons (x_at 63 (by decide +kernel) rfl) (x_cons (x_bw0 9 rfl rfl) x_nilm)))) (x_bw89 1 rfl rfl) (by decide +kernel) ⟨Nat.le_of_ble_eq_true rfl, Nat.le_of_ble_eq_true rfl⟩) hY0 hI rfl dgX_d67 hl.1 (Nat.le_of_ble_eq_true rfl) (Nat.le_of_ble_eq_true rfl) (Nat.le_of_ble_eq_true rfl) (y_cons (y_cref hY_this rfl) (y_cons ⟨_, rfl, x_i64 _⟩ (y_cons ⟨_, rfl, by show (4 : Int) ≤ _; omega, by show _ ≤ (4 : Int); omega⟩ (y_cons ⟨_, rfl, by show (4 : Int) ≤ _; omega, by show _ ≤ (4 : Int); omega⟩ y_nil)))) rfl (y_recv rfl hY_this) trivial (y_sub_ef rfl) fun v Yn o Hn L ho hr ha hIn hx_ hE hP => ?_
      have hPd := hP _ _ _ _ _ _ rfl hs_bk hA_bk
      obtain rfl := hPd
      replace hs_bk := y_Efld hE hY_this rfl (by decide) (by decide) hs_bk
      replace hsi_typed := y_Efld hE hY_this rfl (by decide) (by decide) hsi_typed
      replace hs_fa := y_Efld hE hY_this rfl (by decide) (by decide) hs_fa
      replace hs_fb := y_Efld hE hY_this rfl (by decide) (by decide) hs_fb
      replace hA_bk := hA_bk.kept (y_Earr hE hY_bk rfl (by decide))
      replace hY_this := y_ext hx_ hI.1 hY_this
      replace hY_bk := y_ext hx_ hI.1 hY_bk
      generalize hg_r67 : m_mxs fb (4 : Int32).toInt.toNat r59 (4 : Int32).toInt.toNat = r67
      clear ho hr ha hE hP hI hx_
      rename x_I _ _ _ _ _ _ _ _ _ _ => hI
      refine lv_lstore_n hx hb dgX_d70 rfl hl (by decide) (lv' := [(1, .long r67), (3, .int k), (0, .ref this)]) rfl fun ls hl => ?_
      refine lv_aload_n hx hb dgX_d71 rfl (lv_at hl 2 rfl) ?_
      refine lv_lload_n hx hb dgX_d72 rfl (lv_at hl 0 rfl) ?_
      refine lv_bipush hx hb dgX_d73 (v := 116) (by decide) ?_
      have ec116 : (116 : Int32).toInt = 116 := by decide
      refine lv_bipush hx hb dgX_d75 (v := 12) (by decide) ?_
      have ec12 : (12 : Int32).toInt = 12 := by decide
      refine y_call (z := (0, 298, 4, some 17, xM230)) (av := [.ref this, .long r67, .int (116 : Int32), .int (12 : Int32)]) (rest := []) (y_cokV (n := 3) (ci := 12) X ym_mixM230 rfl rfl rfl (x_cons (x_bw88 14 rfl rfl) (x_cons (x_bw89 0 rfl rfl) (x_cons (x_at 63 (by decide +kernel) rfl) (x_cons (x_bw0 9 rfl rfl) x_nilm)))) (x_bw89 1 rfl rfl) (by decide +kernel) ⟨Nat.le_of_ble_eq_true rfl, Nat.le_of_ble_eq_true rfl⟩) hY0 hI rfl dgX_d77 hl.1 (Nat.le_of_ble_eq_true rfl) (Nat.le_of_ble_eq_true rfl) (Nat.le_of_ble_eq_true rfl) (y_cons (y_cref hY_this rfl) (y_cons ⟨_, rfl, x_i64 _⟩ (y_cons ⟨_, rfl, by show (116 : Int) ≤ _; omega, by show _ ≤ (116 : Int); omega⟩ (y_cons ⟨_, rfl, by show (12 : Int) ≤ _; omega, by show _ ≤ (12 : Int); omega⟩ y_nil)))) rfl (y_recv rfl hY_this) trivial (y_sub_ef rfl) fun v Yn o Hn L ho hr ha hIn hx_ hE hP => ?_
      have hPd := hP _ _ _ _ _ _ rfl hs_bk hA_bk
      obtain rfl := hPd
      replace hs_bk := y_Efld hE hY_this rfl (by decide) (by decide) hs_bk
      replace hsi_typed := y_Efld hE hY_this rfl (by decide) (by decide) hsi_typed
      replace hs_fa := y_Efld hE hY_this rfl (by decide) (by decide) hs_fa
      replace hs_fb := y_Efld hE hY_this rfl (by decide) (by decide) hs_fb
      replace hA_bk := hA_bk.kept (y_Earr hE hY_bk rfl (by decide))
      replace hY_this := y_ext hx_ hI.1 hY_this
      replace hY_bk := y_ext hx_ hI.1 hY_bk
      generalize hg_r77 : m_mxs fb (116 : Int32).toInt.toNat r67 (12 : Int32).toInt.toNat = r77
      clear ho hr ha hE hP hI hx_
      rename x_I _ _ _ _ _ _ _ _ _ _ => hI
      refine lv_lstore_n hx hb dgX_d80 rfl hl (by decide) (lv' := [(1, .long r77), (3, .int k), (0, .ref this)]) rfl fun ls hl => ?_
      refine lv_aload_n hx hb dgX_d81 rfl (lv_at hl 2 rfl) ?_
      refine lv_lload_n hx hb dgX_d82 rfl (lv_at hl 0 rfl) ?_
      refine lv_sipush hx hb dgX_d83 (v := 128) (by decide) ?_
      have ec128 : (128 : Int32).toInt = 128 := by decide
      refine lv_aload_n hx hb dgX_d86 rfl (lv_at hl 2 rfl) ?_
      refine y_getf X (fl190 X.2.2.2.2.1) hI.1 hY_this rfl hs_bk dgX_d87 ?_
      refine lv_iconst hx hb dgX_d90 (v := 2) (by decide) ?_
      have ec2 : (2 : Int32).toInt = 2 := by decide
      refine y_iald X hI.1 hY_bk rfl hA_bk (by omega) (by show _ < (160 : Int); omega) dgX_d91 ?_
      obtain ⟨e91, hg_e91⟩ : ∃ e91 : Int32, fb (2 : Int32).toInt.toNat = e91 := ⟨_, rfl⟩
      rw [hg_e91]
      rw [show (2 : Int32).toInt.toNat = 2 by decide] at hg_e91
      have h_e91 : e91.toInt = (fb 2).toInt := by rw [hg_e91]
      refine y_call (z := (0, 298, 4, some 17, xM231)) (av := [.ref this, .long r77, .int (128 : Int32), .int e91]) (rest := []) (y_cokV (n := 3) (ci := 12) X ym_mixM231 rfl rfl rfl (x_cons (x_bw88 14 rfl rfl) (x_cons (x_bw89 0 rfl rfl) (x_cons (x_at 63 (by decide +kernel) rfl) (x_cons (x_bw0 9 rfl rfl) x_nilm)))) (x_bw89 1 rfl rfl) (by decide +kernel) ⟨Nat.le_of_ble_eq_true rfl, Nat.le_of_ble_eq_true rfl⟩) hY0 hI rfl dgX_d92 hl.1 (Nat.le_of_ble_eq_true rfl) (Nat.le_of_ble_eq_true rfl) (Nat.le_of_ble_eq_true rfl) (y_cons (y_cref hY_this rfl) (y_cons ⟨_, rfl, x_i64 _⟩ (y_cons ⟨_, rfl, by show (128 : Int) ≤ _; omega, by show _ ≤ (128 : Int); omega⟩ (y_cons ⟨_, rfl, by show (0 : Int) ≤ _; omega, by show _ ≤ (8 : Int); omega⟩ y_nil)))) rfl (y_recv rfl hY_this) trivial (y_sub_ef rfl) fun v Yn o Hn L ho hr ha hIn hx_ hE hP => ?_
      have hPd := hP _ _ _ _ _ _ rfl hs_bk hA_bk
      obtain rfl := hPd
      replace hs_bk := y_Efld hE hY_this rfl (by decide) (by decide) hs_bk
      replace hsi_typed := y_Efld hE hY_this rfl (by decide) (by decide) hsi_typed
      replace hs_fa := y_Efld hE hY_this rfl (by decide) (by decide) hs_fa
      replace hs_fb := y_Efld hE hY_this rfl (by decide) (by decide) hs_fb
      replace hA_bk := hA_bk.kept (y_Earr hE hY_bk rfl (by decide))
      replace hY_this := y_ext hx_ hI.1 hY_this
      replace hY_bk := y_ext hx_ hI.1 hY_bk
      generalize hg_r92 : m_mxs fb (128 : Int32).toInt.toNat r77 e91.toInt.toNat = r92
      clear ho hr ha hE hP hI hx_
      rename x_I _ _ _ _ _ _ _ _ _ _ => hI
      refine lv_lstore_n hx hb dgX_d95 rfl hl (by decide) (lv' := [(1, .long r92), (3, .int k), (0, .ref this)]) rfl fun ls hl => ?_
      refine lv_aload_n hx hb dgX_d96 rfl (lv_at hl 2 rfl) ?_
      refine lv_lload_n hx hb dgX_d97 rfl (lv_at hl 0 rfl) ?_
      refine lv_sipush hx hb dgX_d98 (v := 136) (by decide) ?_
      have ec136 : (136 : Int32).toInt = 136 := by decide
      refine lv_bipush hx hb dgX_d101 (v := 24) (by decide) ?_
      have ec24 : (24 : Int32).toInt = 24 := by decide
      refine y_call (z := (0, 298, 4, some 17, xM232)) (av := [.ref this, .long r92, .int (136 : Int32), .int (24 : Int32)]) (rest := []) (y_cokV (n := 3) (ci := 12) X ym_mixM232 rfl rfl rfl (x_cons (x_bw88 14 rfl rfl) (x_cons (x_bw89 0 rfl rfl) (x_cons (x_at 63 (by decide +kernel) rfl) (x_cons (x_bw0 9 rfl rfl) x_nilm)))) (x_bw89 1 rfl rfl) (by decide +kernel) ⟨Nat.le_of_ble_eq_true rfl, Nat.le_of_ble_eq_true rfl⟩) hY0 hI rfl dgX_d103 hl.1 (Nat.le_of_ble_eq_true rfl) (Nat.le_of_ble_eq_true rfl) (Nat.le_of_ble_eq_true rfl) (y_cons (y_cref hY_this rfl) (y_cons ⟨_, rfl, x_i64 _⟩ (y_cons ⟨_, rfl, by show (136 : Int) ≤ _; omega, by show _ ≤ (136 : Int); omega⟩ (y_cons ⟨_, rfl, by show (24 : Int) ≤ _; omega, by show _ ≤ (24 : Int); omega⟩ y_nil)))) rfl (y_recv rfl hY_this) trivial (y_sub_ef rfl) fun v Yn o Hn L ho hr ha hIn hx_ hE hP => ?_
      have hPd := hP _ _ _ _ _ _ rfl hs_bk hA_bk
      obtain rfl := hPd
      replace hs_bk := y_Efld hE hY_this rfl (by decide) (by decide) hs_bk
      replace hsi_typed := y_Efld hE hY_this rfl (by decide) (by decide) hsi_typed
      replace hs_fa := y_Efld hE hY_this rfl (by decide) (by decide) hs_fa
      replace hs_fb := y_Efld hE hY_this rfl (by decide) (by decide) hs_fb
      replace hA_bk := hA_bk.kept (y_Earr hE hY_bk rfl (by decide))
      replace hY_this := y_ext hx_ hI.1 hY_this
      replace hY_bk := y_ext hx_ hI.1 hY_bk
      generalize hg_r103 : m_mxs fb (136 : Int32).toInt.toNat r92 (24 : Int32).toInt.toNat = r103
      clear ho hr ha hE hP hI hx_
      rename x_I _ _ _ _ _ _ _ _ _ _ => hI
      refine lv_lstore_n hx hb dgX_d106 rfl hl (by decide) (lv' := [(1, .long r103), (3, .int k), (0, .ref this)]) rfl fun ls hl => ?_
      refine lv_ldc2 hx hb X.2.2.2.1 (v := 31) (X.2.2.2.2.1 _ (x_bw88 13 rfl rfl)) dgX_d107 ?_
      have el31 : (31 : Int64).toInt = 31 := by decide
      refine lv_ldc2 hx hb X.2.2.2.1 (v := 31) (X.2.2.2.2.1 _ (x_bw88 13 rfl rfl)) dgX_d110 ?_
      have el31 : (31 : Int64).toInt = 31 := by decide
      refine lv_lload_n hx hb dgX_d113 rfl (lv_at hl 0 rfl) ?_
      refine lv_lmul hx hb dgX_d114 ?_
      generalize hg_z114 : (31 : Int64) * r103 = z114
      refine lv_aload_n hx hb dgX_d115 rfl (lv_at hl 2 rfl) ?_
      refine y_getf X (fl204 X.2.2.2.2.1) hI.1 hY_this rfl hs_fa dgX_d116 ?_
      refine lv_ladd hx hb dgX_d119 ?_
      generalize hg_z119 : z114 + ga = z119
      refine lv_lmul hx hb dgX_d120 ?_
      generalize hg_z120 : (31 : Int64) * z119 = z120
      refine lv_aload_n hx hb dgX_d121 rfl (lv_at hl 2 rfl) ?_
      refine y_getf X (fl203 X.2.2.2.2.1) hI.1 hY_this rfl hs_fb dgX_d122 ?_
      refine lv_ladd hx hb dgX_d125 ?_
      generalize hg_z125 : z120 + gb = z125
      have hx5 : x = m_dg0 fb nn := by rw [hx9]; unfold m_dg0; rw [show k.toInt.toNat = 5 by omega]
      have t1 : z41.toInt.toNat = 5 * (fb 0).toInt.toNat := by omega
      have t2 : z58.toInt.toNat = 7 * (fb 1).toInt.toNat := by omega
      have t3 : e91 = fb 2 := (Eq.symm hg_e91)
      rw [t1, show (10 : Int32).toInt.toNat = 10 by decide, hx5] at hg_r42
      rw [t2, show (60 : Int32).toInt.toNat = 60 by decide] at hg_r59
      rw [show (4 : Int32).toInt.toNat = 4 by decide] at hg_r67
      rw [show (116 : Int32).toInt.toNat = 116 by decide, show (12 : Int32).toInt.toNat = 12 by decide] at hg_r77
      rw [show (128 : Int32).toInt.toNat = 128 by decide, t3] at hg_r92
      rw [show (136 : Int32).toInt.toNat = 136 by decide, show (24 : Int32).toInt.toNat = 24 by decide] at hg_r103
      subst hav
      exact y_lreturn B hI rfl rfl List.mem_cons_self ⟨_, rfl, ⟨_, rfl, x_i64 _⟩⟩ (x_cs.mono B.2.2.2.2.2 (y_mon B hI)) (fun t' b' f' h1 h2 h3 h4 n' h5 a9 b9 h9 => by cases h1; cases h2.symm.trans hs0; cases z_uniq h4 hA0 h3 hcn; cases h5.symm.trans hn9; cases hfa0.symm.trans h9.1; cases hfb0.symm.trans h9.2; refine congrArg (fun x => some (Value.long x)) ?_; unfold m_dg; rw [hg_r42, hg_r59, hg_r67, hg_r77, hg_r92, hg_r103, hg_z114, hg_z119, hg_z120]; exact (Eq.symm hg_z125)) (Nat.le_refl _) (Nat.le_refl _) dgX_d126
    · have q8_ : k.toInt < (5 : Int32).toInt := Int.not_le.mp fun q => q8 (x_le32.mpr q)
      refine lv_ldc2 hx hb X.2.2.2.1 (v := 31) (X.2.2.2.2.1 _ (x_bw88 13 rfl rfl)) dgX_d11 ?_
      have el31 : (31 : Int64).toInt = 31 := by decide
      refine lv_lload_n hx hb dgX_d14 rfl (lv_at hl 1 rfl) ?_
      refine lv_lmul hx hb dgX_d15 ?_
      generalize hg_z15 : (31 : Int64) * x = z15
      refine lv_aload_n hx hb dgX_d16 rfl (lv_at hl 2 rfl) ?_
      refine lv_iload_n hx hb dgX_d17 rfl (lv_at hl 0 rfl) ?_
      refine y_call (z := (0, 291, 2, some 17, xM225)) (av := [.ref this, .int k]) (rest := [.long z15]) (y_cokV (n := 1) (ci := 12) X ym_countOfX rfl rfl rfl (x_cons (x_bw88 4 rfl rfl) (x_cons (x_bw88 6 rfl rfl) (x_cons (x_at 62 (by decide +kernel) rfl) (x_cons (x_bw0 9 rfl rfl) x_nilm)))) (x_bw88 7 rfl rfl) (by decide +kernel) ⟨Nat.le_of_ble_eq_true rfl, Nat.le_of_ble_eq_true rfl⟩) hY0 hI rfl dgX_d18 hl.1 (Nat.le_of_ble_eq_true rfl) (Nat.le_of_ble_eq_true rfl) (Nat.le_of_ble_eq_true rfl) (y_cons (y_cref hY_this rfl) (y_cons ⟨_, rfl, by show (0 : Int) ≤ _; omega, by show _ ≤ (4 : Int); omega⟩ y_nil)) rfl (y_recv rfl hY_this) trivial (y_sub_ef rfl) fun v Yn o Hn L ho hr ha hIn hx_ hE hP => ?_
      obtain ⟨r18, rfl, hc9⟩ := hP _ _ _ _ _ rfl hs_bk hsi_typed hcn hA_bk
      replace hs_bk := y_Efld hE hY_this rfl (by decide) (by decide) hs_bk
      replace hsi_typed := y_Efld hE hY_this rfl (by decide) (by decide) hsi_typed
      replace hs_fa := y_Efld hE hY_this rfl (by decide) (by decide) hs_fa
      replace hs_fb := y_Efld hE hY_this rfl (by decide) (by decide) hs_fb
      replace hA_bk := hA_bk.kept (y_Earr hE hY_bk rfl (by decide))
      replace hY_this := y_ext hx_ hI.1 hY_this
      replace hY_bk := y_ext hx_ hI.1 hY_bk
      clear ho hr ha hE hP hI hx_
      rename x_I _ _ _ _ _ _ _ _ _ _ => hI
      obtain ⟨z21, hg_z21⟩ : ∃ z21 : Int64, r18.toInt64 = z21 := ⟨_, rfl⟩
      have h_z21 : z21.toInt = (r18).toInt := by rw [← hg_z21]; exact Int32.toInt_toInt64 _
      refine lv_i2l hx hb dgX_d21 (v := z21) hg_z21 ?_
      refine lv_ladd hx hb dgX_d22 ?_
      generalize hg_z22 : z15 + z21 = z22
      refine lv_lstore_n hx hb dgX_d23 rfl hl (by decide) (lv' := [(1, .long z22), (3, .int k), (0, .ref this)]) rfl fun ls hl => ?_
      obtain ⟨z24, hg_z24⟩ : ∃ z24 : Int32, k + Int32.ofInt 1 = z24 := ⟨_, rfl⟩
      have h_z24 : z24.toInt = k.toInt + 1 := by rw [← hg_z24]; exact y_inc (by decide) (by omega) (by omega)
      refine lv_iinc hx hb dgX_d24 hl (k := 1) rfl hg_z24 (by decide) (lv' := [(3, .int z24), (1, .long z22), (0, .ref this)]) rfl fun ls hl => ?_
      refine lv_goto hx hb dgX_d27 (tgt := 6) (by decide) ?_
      have his : z24.toInt.toNat = k.toInt.toNat + 1 := by omega
      have hc8 : m_cts fb nn (0 + k.toInt.toNat) = r18 := by rw [Nat.zero_add]; exact (hc9.cts (by omega)).symm
      exact ih _ _ _ _ _ _ hI hY_this hY_bk hs_bk hsi_typed hA_bk hs_fa hs_fb (lv_sub hl [0, 1, 2] rfl) (by first | assumption | omega) (by rw [his]; show _ = 31 * _ + _; rw [← hx9, hc8, hg_z21, hg_z15]; exact (Eq.symm hg_z22)) (by omega)
theorem ym_digestM : y_Met vwCl x_G x_Zs x_Tb x_Nb xM233 y_T z_PMdig := by
  refine y_main (by decide +kernel) (by decide +kernel) x_Tb_good x_Nb_ok ?_
  intro p l e s m below meth c D U Y0 av ls B hI _ hl
  have X := B.1
  have hx := X.1
  have hb := X.2.1
  have hY0 := B.2.2.2.2.1
  obtain ⟨v0, rfl, hv0⟩ := x_one B.2.2.2.2.2
  obtain ⟨this, t0, rfl, ht0, hY_this⟩ := x_ref_at hv0 rfl
  obtain rfl := List.mem_singleton.mp ht0
  replace hl : lv_has ls xM233.2.2.1 [(0, .ref this)] := hl
  obtain ⟨bk, hs_bk, hY_bk⟩ := y_fldR (k := 0) hI.1 hY_this rfl rfl
  obtain ⟨fb9, hA9, hB9⟩ := y_arr hI.1 hY_bk rfl rfl
  obtain ⟨fb, hcn, hA_bk, hB_bk⟩ := z_canon (Y := Y0) (P := fun j v => x_c Y0 ([xI 0 10, xI 0 8, xI 0 8].getD j xF) (.int v)) hA9 hB9
  clear hA9 hB9 fb9
  have hs0 := hs_bk
  have hA0 := hA_bk
  have hd := z_hdr hB_bk
  have hd0 := hd.1
  have hd1 := hd.2.1
  obtain ⟨nn, hsi_typed, hnb⟩ := y_fldI (k := 10) hI.1 hY_this rfl rfl
  have hn9 := hsi_typed
  obtain ⟨ga, hs_fa⟩ := y_fldL (k := 6) hI.1 hY_this rfl rfl
  obtain ⟨gb, hs_fb⟩ := y_fldL (k := 7) hI.1 hY_this rfl rfl
  have hfa0 := hs_fa
  have hfb0 := hs_fb
  refine lv_ldc2 hx hb X.2.2.2.1 (v := 619) (X.2.2.2.2.1 _ (x_bw88 12 rfl rfl)) dgX_d0 ?_
  have el619 : (619 : Int64).toInt = 619 := by decide
  refine lv_lstore_n hx hb dgX_d3 rfl hl (by decide) (lv' := [(1, .long (619 : Int64)), (0, .ref this)]) rfl fun ls hl => ?_
  refine lv_iconst hx hb dgX_d4 (v := 0) (by decide) ?_
  have ec0 : (0 : Int32).toInt = 0 := by decide
  refine lv_istore_n hx hb dgX_d5 rfl hl (by decide) (lv' := [(3, .int (0 : Int32)), (1, .long (619 : Int64)), (0, .ref this)]) rfl fun ls hl => ?_
  exact dgX_L6 B rfl hs0 hA0 hcn hd hfa0 hfb0 hn9 7 _ _ _ _ _ _ hI hY_this hY_bk hs_bk hsi_typed hA_bk hs_fa hs_fb (lv_sub hl [0, 1, 2] rfl) (by first | assumption | omega) (by rw [z_i0]; rfl) (by omega)
