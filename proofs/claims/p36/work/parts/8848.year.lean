
/-! YEARS, HOURS: bits of those in which a SET is lawful -/
def m_lc (V : Nat → Int32) (w : Int32) : Bool := !(m_any (m_wr V w) 10)
def m_yrC (f : Nat → Int32) (w : Int32) (k : Nat) : Bool := m_lc (m_VC f (m_99 (f 4 + nI k)) (f 5) 0) w
def m_hrC (f : Nat → Int32) (w : Int32) (k : Nat) : Bool := m_lc (m_VC f (f 4) (f (116 + k)) 0) w
def m_bitsOf (ok : Prop) (c : Nat → Bool) (K : Nat) (r : Int32) : Prop := (ok → r = m_gg c 0 K) ∧ (¬ ok → r = -2)
def z_PTyears : yP := fun D av Y H v _ _ => ∀ (this : Nat) (w : Int32) (f : Nat → Int32) (K : Nat → Option (Nat → Int32)) (t9 : Nat → Int32) (n9 : Int32), av = [.ref this, .int w] → z_RC D Y H this f K t9 n9 → ∃ r : Int32, v = some (.int r) ∧ m_bitsOf (m_isS f w) (m_yrC f w) 10 r
theorem m_or0 {x : Int32} : x ||| 0 = x := m_bi_ext fun j _ => by rw [m_bi_or, m_bi_0, Bool.or_false]
theorem yrq_d0 : decode xM77.2.1 0 = .ok (.aload_n 0, 1) := dz_ok (by decide +kernel)
theorem yrq_d1 : decode xM77.2.1 1 = .ok (.getfield 12, 3) := dz_ok (by decide +kernel)
theorem yrq_d4 : decode xM77.2.1 4 = .ok (.iload_n 1, 1) := dz_ok (by decide +kernel)
theorem yrq_d5 : decode xM77.2.1 5 = .ok (.invokevirtual 169, 3) := dz_ok (by decide +kernel)
theorem yrq_d8 : decode xM77.2.1 8 = .ok (.ifCond .ne 10, 3) := dz_ok (by decide +kernel)
theorem yrq_d11 : decode xM77.2.1 11 = .ok (.aload_n 0, 1) := dz_ok (by decide +kernel)
theorem yrq_d12 : decode xM77.2.1 12 = .ok (.bipush (-2), 2) := dz_ok (by decide +kernel)
theorem yrq_d14 : decode xM77.2.1 14 = .ok (.invokevirtual 59, 3) := dz_ok (by decide +kernel)
theorem yrq_d17 : decode xM77.2.1 17 = .ok (.ireturn, 1) := dz_ok (by decide +kernel)
theorem yrq_d18 : decode xM77.2.1 18 = .ok (.iconst 0, 1) := dz_ok (by decide +kernel)
theorem yrq_d19 : decode xM77.2.1 19 = .ok (.istore_n 2, 1) := dz_ok (by decide +kernel)
theorem yrq_d20 : decode xM77.2.1 20 = .ok (.iconst 0, 1) := dz_ok (by decide +kernel)
theorem yrq_d21 : decode xM77.2.1 21 = .ok (.istore_n 3, 1) := dz_ok (by decide +kernel)
theorem yrq_d22 : decode xM77.2.1 22 = .ok (.iload_n 3, 1) := dz_ok (by decide +kernel)
theorem yrq_d23 : decode xM77.2.1 23 = .ok (.bipush 10, 2) := dz_ok (by decide +kernel)
theorem yrq_d25 : decode xM77.2.1 25 = .ok (.if_icmp .ge 82, 3) := dz_ok (by decide +kernel)
theorem yrq_d28 : decode xM77.2.1 28 = .ok (.aload_n 0, 1) := dz_ok (by decide +kernel)
theorem yrq_d29 : decode xM77.2.1 29 = .ok (.getfield 33, 3) := dz_ok (by decide +kernel)
theorem yrq_d32 : decode xM77.2.1 32 = .ok (.aload_n 0, 1) := dz_ok (by decide +kernel)
theorem yrq_d33 : decode xM77.2.1 33 = .ok (.getfield 12, 3) := dz_ok (by decide +kernel)
theorem yrq_d36 : decode xM77.2.1 36 = .ok (.getstatic 192, 3) := dz_ok (by decide +kernel)
theorem yrq_d39 : decode xM77.2.1 39 = .ok (.iconst 0, 1) := dz_ok (by decide +kernel)
theorem yrq_d40 : decode xM77.2.1 40 = .ok (.iaload, 1) := dz_ok (by decide +kernel)
theorem yrq_d41 : decode xM77.2.1 41 = .ok (.aload_n 0, 1) := dz_ok (by decide +kernel)
theorem yrq_d42 : decode xM77.2.1 42 = .ok (.getfield 12, 3) := dz_ok (by decide +kernel)
theorem yrq_d45 : decode xM77.2.1 45 = .ok (.getfield 95, 3) := dz_ok (by decide +kernel)
theorem yrq_d48 : decode xM77.2.1 48 = .ok (.iconst 0, 1) := dz_ok (by decide +kernel)
theorem yrq_d49 : decode xM77.2.1 49 = .ok (.iaload, 1) := dz_ok (by decide +kernel)
theorem yrq_d50 : decode xM77.2.1 50 = .ok (.iload_n 3, 1) := dz_ok (by decide +kernel)
theorem yrq_d51 : decode xM77.2.1 51 = .ok (.iadd, 1) := dz_ok (by decide +kernel)
theorem yrq_d52 : decode xM77.2.1 52 = .ok (.invokestatic 195, 3) := dz_ok (by decide +kernel)
theorem yrq_d55 : decode xM77.2.1 55 = .ok (.invokevirtual 200, 3) := dz_ok (by decide +kernel)
theorem yrq_d58 : decode xM77.2.1 58 = .ok (.aload_n 0, 1) := dz_ok (by decide +kernel)
theorem yrq_d59 : decode xM77.2.1 59 = .ok (.getfield 33, 3) := dz_ok (by decide +kernel)
theorem yrq_d62 : decode xM77.2.1 62 = .ok (.aload_n 0, 1) := dz_ok (by decide +kernel)
theorem yrq_d63 : decode xM77.2.1 63 = .ok (.getfield 12, 3) := dz_ok (by decide +kernel)
theorem yrq_d66 : decode xM77.2.1 66 = .ok (.aload_n 0, 1) := dz_ok (by decide +kernel)
theorem yrq_d67 : decode xM77.2.1 67 = .ok (.getfield 12, 3) := dz_ok (by decide +kernel)
theorem yrq_d70 : decode xM77.2.1 70 = .ok (.getfield 95, 3) := dz_ok (by decide +kernel)
theorem yrq_d73 : decode xM77.2.1 73 = .ok (.iconst 1, 1) := dz_ok (by decide +kernel)
theorem yrq_d74 : decode xM77.2.1 74 = .ok (.iaload, 1) := dz_ok (by decide +kernel)
theorem yrq_d75 : decode xM77.2.1 75 = .ok (.iconst 0, 1) := dz_ok (by decide +kernel)
theorem yrq_d76 : decode xM77.2.1 76 = .ok (.invokevirtual 204, 3) := dz_ok (by decide +kernel)
theorem yrq_d79 : decode xM77.2.1 79 = .ok (.iload_n 2, 1) := dz_ok (by decide +kernel)
theorem yrq_d80 : decode xM77.2.1 80 = .ok (.aload_n 0, 1) := dz_ok (by decide +kernel)
theorem yrq_d81 : decode xM77.2.1 81 = .ok (.getfield 33, 3) := dz_ok (by decide +kernel)
theorem yrq_d84 : decode xM77.2.1 84 = .ok (.iload_n 1, 1) := dz_ok (by decide +kernel)
theorem yrq_d85 : decode xM77.2.1 85 = .ok (.invokevirtual 172, 3) := dz_ok (by decide +kernel)
theorem yrq_d88 : decode xM77.2.1 88 = .ok (.iconst (-1), 1) := dz_ok (by decide +kernel)
theorem yrq_d89 : decode xM77.2.1 89 = .ok (.if_icmp .ne 9, 3) := dz_ok (by decide +kernel)
theorem yrq_d92 : decode xM77.2.1 92 = .ok (.iconst 1, 1) := dz_ok (by decide +kernel)
theorem yrq_d93 : decode xM77.2.1 93 = .ok (.iload_n 3, 1) := dz_ok (by decide +kernel)
theorem yrq_d94 : decode xM77.2.1 94 = .ok (.ishl, 1) := dz_ok (by decide +kernel)
theorem yrq_d95 : decode xM77.2.1 95 = .ok (.goto 4, 3) := dz_ok (by decide +kernel)
theorem yrq_d98 : decode xM77.2.1 98 = .ok (.iconst 0, 1) := dz_ok (by decide +kernel)
theorem yrq_d99 : decode xM77.2.1 99 = .ok (.ior, 1) := dz_ok (by decide +kernel)
theorem yrq_d100 : decode xM77.2.1 100 = .ok (.istore_n 2, 1) := dz_ok (by decide +kernel)
theorem yrq_d101 : decode xM77.2.1 101 = .ok (.iinc 3 1, 3) := dz_ok (by decide +kernel)
theorem yrq_d104 : decode xM77.2.1 104 = .ok (.goto (-82), 3) := dz_ok (by decide +kernel)
theorem yrq_d107 : decode xM77.2.1 107 = .ok (.iload_n 2, 1) := dz_ok (by decide +kernel)
theorem yrq_d108 : decode xM77.2.1 108 = .ok (.ireturn, 1) := dz_ok (by decide +kernel)
theorem yrq_L22 {p : Program} {l : Launch} {e : Env} {s : State} {m : MethodId} {below : List Frame} {meth : Method} {c : Code} {D : va_G} {U : State} {Y0 : xY} {av : List Value} (B : y_B vwCl x_Tb x_Nb xM77 p s m meth c D U Y0 av) {this ld ey vw en ed adial : Nat} {w : Int32} {f : Nat → Int32} {K : Nat → Option (Nat → Int32)} {tt : Nat → Int32} {nn : Int32} (hav : av = [.ref this, .int w]) (hR0 : z_RC D Y0 s.heap this f K tt nn) (hb0 : 0 ≤ (f 0).toInt ∧ (f 0).toInt ≤ 10) (hok : m_isS f w)  :
    ∀ (n : Nat), ∀ (H : Heap) (Y : xY) (locs : List Loc) (ls : Array Slot) (k : Int32) (al : Int32), x_I D x_G x_Zs U (x_efs xM77) Y0 s.heap Y H locs → Y this = some 0 → Y ld = some 2 → Y ey = some 6 → Y vw = some 32 → Y en = some 33 → Y ed = some 34 → Y adial = some 27 → x_sl D 11 0 this H = some (.ref ld) → x_sl D 11 4 this H = some (.ref ey) → x_sl D 0 1 ey H = some (.ref vw) → x_sl D 0 2 ey H = some (.ref en) → x_sl D 0 3 ey H = some (.ref ed) → x_sl D 2 10 ld H = some (.ref adial) → y_A adial 4 H (fun j => f (4 + 1 * j)) → z_L D Y ld H f → lv_has ls xM77.2.2.1 [(3, .int k), (2, .int al), (0, .ref this), (1, .int w)] → (0 ≤ k.toInt ∧ k.toInt ≤ 10) → (al = m_gg (m_yrC f w) 0 k.toInt.toNat) → (11 - k.toInt).toNat < n → W p l e (x_rm xM77) s m av.toArray below meth c H locs 0 0 (y_QQ below D x_G x_Zs U xM77 z_PTyears av Y0 s) (F0 m 22 ls []) := by
  have X := B.1
  have hx := X.1
  have hb := X.2.1
  have hY0 := B.2.2.2.2.1
  intro n
  induction n with
  | zero => intro _ _ _ _ _ _ _ _ _ _ _ _ _ _ _ _ _ _ _ _ _ _ _ _ _ h; exact absurd h (Nat.not_lt_zero _)
  | succ n ih =>
    intro H Y locs ls k al  hI hY_this hY_ld hY_ey hY_vw hY_en hY_ed hY_adial hs_ld hs_ey hs_vw hs_en hs_ed hs_adial hA_adial hL hl hk hal hn
    refine lv_iload_n hx hb yrq_d22 rfl (lv_at hl 0 rfl) ?_
    refine lv_bipush hx hb yrq_d23 (v := 10) (by decide) ?_
    have ec10 : (10 : Int32).toInt = 10 := by decide
    refine lv_icmp_ge hx hb yrq_d25 (tgt := 107) (by decide) (fun q25 => ?_) (fun q25 => ?_)
    · have q25_ : (10 : Int32).toInt ≤ k.toInt := x_le32.mp q25
      refine lv_iload_n hx hb yrq_d107 rfl (lv_at hl 1 rfl) ?_
      have hr9 : al = m_gg (m_yrC f w) 0 10 := by rw [hal, show k.toInt.toNat = 10 by omega]
      subst hav
      exact y_ireturn B hI rfl rfl rfl List.mem_cons_self ⟨_, rfl, ⟨_, rfl, x_i32 _⟩⟩ (x_cs.mono B.2.2.2.2.2 (y_mon B hI)) (fun t' w0' f' K' tt' nn' h1 h2 => by cases h1; obtain ⟨ef, -⟩ := hR0.eqs h2; subst ef; exact ⟨_, rfl, fun _ => hr9, fun q9 => absurd hok q9⟩) (Nat.le_refl _) (Nat.le_refl _) yrq_d108
    · have q25_ : k.toInt < (10 : Int32).toInt := Int.not_le.mp fun q => q25 (x_le32.mpr q)
      refine lv_aload_n hx hb yrq_d28 rfl (lv_at hl 2 rfl) ?_
      refine y_getf X (fl102 X.2.2.2.2.1) hI.1 hY_this rfl hs_ey yrq_d29 ?_
      refine lv_aload_n hx hb yrq_d32 rfl (lv_at hl 2 rfl) ?_
      refine y_getf X (fl8 X.2.2.2.2.1) hI.1 hY_this rfl hs_ld yrq_d33 ?_
      refine z_getsV (z := x_Zs[1]) X (List.mem_of_getElem? (i := 1) rfl) (X.2.2.2.2.1 _ (x_bw45 6 rfl rfl)) hI.1 yrq_d36 fun bGr fGr hTGr hVGr => ?_
      refine lv_iconst hx hb yrq_d39 (v := 0) (by decide) ?_
      have ec0 : (0 : Int32).toInt = 0 := by decide
      refine z_tld X hTGr (by decide) (by decide) yrq_d40 ?_
      obtain ⟨hi9, hg_hi9⟩ : ∃ hi9 : Int32, fGr (0 : Int32).toInt.toNat = hi9 := ⟨_, rfl⟩
      rw [hg_hi9]
      have h_hi9 : hi9 = 99 := hg_hi9.symm.trans (hVGr _ (by decide))
      refine lv_aload_n hx hb yrq_d41 rfl (lv_at hl 2 rfl) ?_
      refine y_getf X (fl8 X.2.2.2.2.1) hI.1 hY_this rfl hs_ld yrq_d42 ?_
      refine y_getf X (fl58 X.2.2.2.2.1) hI.1 hY_ld rfl hs_adial yrq_d45 ?_
      refine lv_iconst hx hb yrq_d48 (v := 0) (by decide) ?_
      refine y_iald X hI.1 hY_adial rfl hA_adial (by omega) (by show _ < (4 : Int); omega) yrq_d49 ?_
      obtain ⟨e49, hg_e49⟩ : ∃ e49 : Int32, f (4 + 1 * (0 : Int32).toInt.toNat) = e49 := ⟨_, rfl⟩
      rw [hg_e49]
      refine lv_iload_n hx hb yrq_d50 rfl (lv_at hl 0 rfl) ?_
      refine lv_iadd hx hb yrq_d51 ?_
      generalize hg_z51 : e49 + k = z51
      refine y_call (z := (1, 195, 2, none, (xMm2 Lib.Math.min.name prog_16_method_69_code))) (av := [.int hi9, .int z51]) (rest := [.ref ld, .ref ey]) (y_cokMin X (by decide +kernel) (x_cons (x_bw45 7 rfl rfl) (x_cons (x_bw28 6 rfl rfl) (x_cons (x_bw0 15 rfl rfl) (x_cons (x_bw28 7 rfl rfl) x_nilm)))) ⟨Nat.le_of_ble_eq_true rfl, Nat.le_of_ble_eq_true rfl⟩) hY0 hI rfl yrq_d52 hl.1 (Nat.le_of_ble_eq_true rfl) (Nat.le_of_ble_eq_true rfl) (Nat.le_of_ble_eq_true rfl) (y_cons ⟨_, rfl, x_i32 _⟩ (y_cons ⟨_, rfl, x_i32 _⟩ y_nil)) rfl (y_norecv rfl) trivial (y_sub_ef rfl) fun v Yn o Hn L ho hr ha hIn hx_ hE hP => ?_
      replace hs_ld := y_Efld hE hY_this rfl (by decide) (by decide) hs_ld
      replace hs_ey := y_Efld hE hY_this rfl (by decide) (by decide) hs_ey
      replace hs_vw := y_Efld hE hY_ey rfl (by decide) (by decide) hs_vw
      replace hs_en := y_Efld hE hY_ey rfl (by decide) (by decide) hs_en
      replace hs_ed := y_Efld hE hY_ey rfl (by decide) (by decide) hs_ed
      replace hs_adial := y_Efld hE hY_ld rfl (by decide) (by decide) hs_adial
      replace hA_adial := hA_adial.kept (y_Earr hE hY_adial rfl (by decide))
      replace hL := hL.E hY_ld hE (fun q u h => y_ext hx_ hI.1 h) (by decide +kernel)
      replace hY_this := y_ext hx_ hI.1 hY_this
      replace hY_ld := y_ext hx_ hI.1 hY_ld
      replace hY_ey := y_ext hx_ hI.1 hY_ey
      replace hY_vw := y_ext hx_ hI.1 hY_vw
      replace hY_en := y_ext hx_ hI.1 hY_en
      replace hY_ed := y_ext hx_ hI.1 hY_ed
      replace hY_adial := y_ext hx_ hI.1 hY_adial
      obtain rfl := hP _ _ rfl
      generalize hg_r52 : (if z51 < hi9 then z51 else hi9) = r52
      clear ho hr ha hE hP hI hx_
      rename x_I _ _ _ _ _ _ _ _ _ _ => hI
      have hnk := m_nj hk.1
      have hy9 : r52 = m_99 (f 4 + nI k.toInt.toNat) := by rw [← hg_r52, h_hi9, ← hg_z51, hnk, show f 4 = e49 from hg_e49]; rfl
      subst hy9
      refine y_call (z := (0, 200, 3, some 6, xM49)) (av := [.ref ey, .ref ld, .int (m_99 (f 4 + nI k.toInt.toNat))]) (rest := []) (y_cokV (n := 2) (ci := 0) X ym_gatherE rfl rfl rfl (x_cons (x_bw30 0 rfl rfl) (x_cons (x_bw30 1 rfl rfl) (x_cons (x_bw30 2 rfl rfl) (x_cons (x_bw0 6 rfl rfl) x_nilm)))) (x_bw30 3 rfl rfl) (by decide +kernel) ⟨Nat.le_of_ble_eq_true rfl, Nat.le_of_ble_eq_true rfl⟩) hY0 hI rfl yrq_d55 hl.1 (Nat.le_of_ble_eq_true rfl) (Nat.le_of_ble_eq_true rfl) (Nat.le_of_ble_eq_true rfl) (y_cons (y_cref hY_ey rfl) (y_cons (y_cref hY_ld rfl) (y_cons ⟨_, rfl, x_i32 _⟩ y_nil))) rfl (y_recv rfl hY_ey) (fun t' h1 => by cases h1; exact ⟨_, hL⟩) (y_sub_ef rfl) fun v Yn o Hn L ho hr ha hIn hx_ hE hP => ?_
      have hPg := hP _ _ _ _ _ _ rfl hs_en hs_ed hL
      replace hs_ld := y_Efld hE hY_this rfl (by decide) (by decide) hs_ld
      replace hs_ey := y_Efld hE hY_this rfl (by decide) (by decide) hs_ey
      replace hs_vw := y_Efld hE hY_ey rfl (by decide) (by decide) hs_vw
      replace hs_en := y_Efld hE hY_ey rfl (by decide) (by decide) hs_en
      replace hs_ed := y_Efld hE hY_ey rfl (by decide) (by decide) hs_ed
      replace hs_adial := y_Efld hE hY_ld rfl (by decide) (by decide) hs_adial
      replace hA_adial := hA_adial.kept (y_Earr hE hY_adial rfl (by decide))
      replace hL := hL.E hY_ld hE (fun q u h => y_ext hx_ hI.1 h) (by decide +kernel)
      replace hY_this := y_ext hx_ hI.1 hY_this
      replace hY_ld := y_ext hx_ hI.1 hY_ld
      replace hY_ey := y_ext hx_ hI.1 hY_ey
      replace hY_vw := y_ext hx_ hI.1 hY_vw
      replace hY_en := y_ext hx_ hI.1 hY_en
      replace hY_ed := y_ext hx_ hI.1 hY_ed
      replace hY_adial := y_ext hx_ hI.1 hY_adial
      obtain rfl := y_ansV rfl ho hr
      obtain ⟨fn, fd, hA_en, hA_ed, hok9⟩ := hPg
      have hd09 : True := trivial
      clear ho hr ha hE hP hI hx_
      rename x_I _ _ _ _ _ _ _ _ _ _ => hI
      refine lv_aload_n hx hb yrq_d58 rfl (lv_at hl 2 rfl) ?_
      refine y_getf X (fl102 X.2.2.2.2.1) hI.1 hY_this rfl hs_ey yrq_d59 ?_
      refine lv_aload_n hx hb yrq_d62 rfl (lv_at hl 2 rfl) ?_
      refine y_getf X (fl8 X.2.2.2.2.1) hI.1 hY_this rfl hs_ld yrq_d63 ?_
      refine lv_aload_n hx hb yrq_d66 rfl (lv_at hl 2 rfl) ?_
      refine y_getf X (fl8 X.2.2.2.2.1) hI.1 hY_this rfl hs_ld yrq_d67 ?_
      refine y_getf X (fl58 X.2.2.2.2.1) hI.1 hY_ld rfl hs_adial yrq_d70 ?_
      refine lv_iconst hx hb yrq_d73 (v := 1) (by decide) ?_
      have ec1 : (1 : Int32).toInt = 1 := by decide
      refine y_iald X hI.1 hY_adial rfl hA_adial (by omega) (by show _ < (4 : Int); omega) yrq_d74 ?_
      obtain ⟨e74, hg_e74⟩ : ∃ e74 : Int32, f (4 + 1 * (1 : Int32).toInt.toNat) = e74 := ⟨_, rfl⟩
      rw [hg_e74]
      have hm9 : e74 = f 5 := hg_e74.symm
      subst hm9
      refine lv_iconst hx hb yrq_d75 (v := 0) (by decide) ?_
      refine y_call (z := (0, 204, 4, some 6, xM51)) (av := [.ref ey, .ref ld, .int (f 5), .int (0 : Int32)]) (rest := []) (y_cokV (n := 3) (ci := 0) X ym_veil rfl rfl rfl (x_cons (x_bw32 11 rfl rfl) (x_cons (x_bw32 12 rfl rfl) (x_cons (x_bw32 13 rfl rfl) (x_cons (x_bw0 6 rfl rfl) x_nilm)))) (x_bw32 14 rfl rfl) (by decide +kernel) ⟨Nat.le_of_ble_eq_true rfl, Nat.le_of_ble_eq_true rfl⟩) hY0 hI rfl yrq_d76 hl.1 (Nat.le_of_ble_eq_true rfl) (Nat.le_of_ble_eq_true rfl) (Nat.le_of_ble_eq_true rfl) (y_cons (y_cref hY_ey rfl) (y_cons (y_cref hY_ld rfl) (y_cons ⟨_, rfl, x_i32 _⟩ (y_cons ⟨_, rfl, x_i32 _⟩ y_nil)))) rfl (y_recv rfl hY_ey) (fun t' h1 => by cases h1; exact ⟨_, hL⟩) (y_sub_ef rfl) fun v Yn o Hn L ho hr ha hIn hx_ hE hP => ?_
      have hPv := hP _ _ _ _ _ _ _ _ _ _ rfl hs_vw hs_en hs_ed hL hA_en hA_ed
      replace hs_ld := y_Efld hE hY_this rfl (by decide) (by decide) hs_ld
      replace hs_ey := y_Efld hE hY_this rfl (by decide) (by decide) hs_ey
      replace hs_vw := y_Efld hE hY_ey rfl (by decide) (by decide) hs_vw
      replace hs_en := y_Efld hE hY_ey rfl (by decide) (by decide) hs_en
      replace hs_ed := y_Efld hE hY_ey rfl (by decide) (by decide) hs_ed
      replace hs_adial := y_Efld hE hY_ld rfl (by decide) (by decide) hs_adial
      replace hA_adial := hA_adial.kept (y_Earr hE hY_adial rfl (by decide))
      replace hA_en := hA_en.kept (y_Earr hE hY_en rfl (by decide))
      replace hA_ed := hA_ed.kept (y_Earr hE hY_ed rfl (by decide))
      replace hL := hL.E hY_ld hE (fun q u h => y_ext hx_ hI.1 h) (by decide +kernel)
      replace hY_this := y_ext hx_ hI.1 hY_this
      replace hY_ld := y_ext hx_ hI.1 hY_ld
      replace hY_ey := y_ext hx_ hI.1 hY_ey
      replace hY_vw := y_ext hx_ hI.1 hY_vw
      replace hY_en := y_ext hx_ hI.1 hY_en
      replace hY_ed := y_ext hx_ hI.1 hY_ed
      replace hY_adial := y_ext hx_ hI.1 hY_adial
      obtain rfl := y_ansV rfl ho hr
      have hA_vw : y_A vw 10 Hn (m_VC f (m_99 (f 4 + nI k.toInt.toNat)) (f 5) 0) := z_cpA hPv (fun i hi => (m_vw_congr fun p q h8 h9 => by rw [m_vk_ok (hok9 p q h8 (by omega))]).symm)
      clear ho hr ha hE hP hI hx_
      rename x_I _ _ _ _ _ _ _ _ _ _ => hI
      refine lv_iload_n hx hb yrq_d79 rfl (lv_at hl 1 rfl) ?_
      refine lv_aload_n hx hb yrq_d80 rfl (lv_at hl 2 rfl) ?_
      refine y_getf X (fl102 X.2.2.2.2.1) hI.1 hY_this rfl hs_ey yrq_d81 ?_
      refine lv_iload_n hx hb yrq_d84 rfl (lv_at hl 3 rfl) ?_
      refine y_call (z := (0, 172, 2, some 6, xM72)) (av := [.ref ey, .int w]) (rest := [.int al]) (y_cokV (n := 1) (ci := 0) X ym_firstWrong rfl rfl rfl (x_cons (x_bw42 10 rfl rfl) (x_cons (x_bw42 11 rfl rfl) (x_cons (x_bw42 12 rfl rfl) (x_cons (x_bw0 6 rfl rfl) x_nilm)))) (x_bw42 13 rfl rfl) (by decide +kernel) ⟨Nat.le_of_ble_eq_true rfl, Nat.le_of_ble_eq_true rfl⟩) hY0 hI rfl yrq_d85 hl.1 (Nat.le_of_ble_eq_true rfl) (Nat.le_of_ble_eq_true rfl) (Nat.le_of_ble_eq_true rfl) (y_cons (y_cref hY_ey rfl) (y_cons ⟨_, rfl, x_i32 _⟩ y_nil)) rfl (y_recv rfl hY_ey) trivial (y_sub_ef rfl) fun v Yn o Hn L ho hr ha hIn hx_ hE hP => ?_
      have hPw := hP _ _ _ _ rfl hs_vw hA_vw
      replace hs_ld := y_Efld hE hY_this rfl (by decide) (by decide) hs_ld
      replace hs_ey := y_Efld hE hY_this rfl (by decide) (by decide) hs_ey
      replace hs_vw := y_Efld hE hY_ey rfl (by decide) (by decide) hs_vw
      replace hs_en := y_Efld hE hY_ey rfl (by decide) (by decide) hs_en
      replace hs_ed := y_Efld hE hY_ey rfl (by decide) (by decide) hs_ed
      replace hs_adial := y_Efld hE hY_ld rfl (by decide) (by decide) hs_adial
      replace hA_adial := hA_adial.kept (y_Earr hE hY_adial rfl (by decide))
      replace hA_en := hA_en.kept (y_Earr hE hY_en rfl (by decide))
      replace hA_ed := hA_ed.kept (y_Earr hE hY_ed rfl (by decide))
      replace hA_vw := hA_vw.kept (y_Earr hE hY_vw rfl (by decide))
      replace hL := hL.E hY_ld hE (fun q u h => y_ext hx_ hI.1 h) (by decide +kernel)
      replace hY_this := y_ext hx_ hI.1 hY_this
      replace hY_ld := y_ext hx_ hI.1 hY_ld
      replace hY_ey := y_ext hx_ hI.1 hY_ey
      replace hY_vw := y_ext hx_ hI.1 hY_vw
      replace hY_en := y_ext hx_ hI.1 hY_en
      replace hY_ed := y_ext hx_ hI.1 hY_ed
      replace hY_adial := y_ext hx_ hI.1 hY_adial
      obtain ⟨r85, rfl, hfw_85⟩ := hPw
      clear ho hr ha hE hP hI hx_
      rename x_I _ _ _ _ _ _ _ _ _ _ => hI
      refine lv_iconst hx hb yrq_d88 (v := (-1)) (by decide) ?_
      have ecm1 : ((-1) : Int32).toInt = (-1) := by decide
      refine lv_icmp_ne hx hb yrq_d89 (tgt := 98) (by decide) (fun q89 => ?_) (fun q89 => ?_)
      · have q89_ : ¬ r85.toInt = ((-1) : Int32).toInt := fun q => q89 (Int32.toInt_inj.mp q)
        refine lv_iconst hx hb yrq_d98 (v := 0) (by decide) ?_
        refine lv_ior hx hb yrq_d99 ?_
        generalize hg_z99 : al ||| (0 : Int32) = z99
        refine lv_istore_n hx hb yrq_d100 rfl hl (by decide) (lv' := [(2, .int z99), (3, .int k), (0, .ref this), (1, .int w)]) rfl fun ls hl => ?_
        obtain ⟨z101, hg_z101⟩ : ∃ z101 : Int32, k + Int32.ofInt 1 = z101 := ⟨_, rfl⟩
        have h_z101 : z101.toInt = k.toInt + 1 := by rw [← hg_z101]; exact y_inc (by decide) (by omega) (by omega)
        refine lv_iinc hx hb yrq_d101 hl (k := 1) rfl hg_z101 (by decide) (lv' := [(3, .int z101), (2, .int z99), (0, .ref this), (1, .int w)]) rfl fun ls hl => ?_
        refine lv_goto hx hb yrq_d104 (tgt := 22) (by decide) ?_
        have his : z101.toInt.toNat = k.toInt.toNat + 1 := by omega
        have hc : m_yrC f w k.toInt.toNat = false := by unfold m_yrC m_lc; cases hX : m_any (m_wr (m_VC f (m_99 (f 4 + nI k.toInt.toNat)) (f 5) 0) w) 10 with | false => exact absurd ((m_fw_LC hfw_85).mpr hX) (by assumption) | true => rfl
        exact ih _ _ _ _ _ _ hI hY_this hY_ld hY_ey hY_vw hY_en hY_ed hY_adial hs_ld hs_ey hs_vw hs_en hs_ed hs_adial hA_adial hL (lv_sub hl [0, 1, 2, 3] rfl) (by first | assumption | omega) (by rw [his, m_gg_F hc, ← hal, ← hg_z99]; exact m_or0) (by omega)
      · have q89_ : r85.toInt = ((-1) : Int32).toInt := by rw [q89]
        refine lv_iconst hx hb yrq_d92 (v := 1) (by decide) ?_
        refine lv_iload_n hx hb yrq_d93 rfl (lv_at hl 0 rfl) ?_
        refine lv_ishl hx hb yrq_d94 ?_
        generalize hg_z94 : (1 : Int32) <<< (k &&& 31) = z94
        refine lv_goto hx hb yrq_d95 (tgt := 99) (by decide) ?_
        refine lv_ior hx hb yrq_d99 ?_
        generalize hg_z99 : al ||| z94 = z99
        refine lv_istore_n hx hb yrq_d100 rfl hl (by decide) (lv' := [(2, .int z99), (3, .int k), (0, .ref this), (1, .int w)]) rfl fun ls hl => ?_
        obtain ⟨z101, hg_z101⟩ : ∃ z101 : Int32, k + Int32.ofInt 1 = z101 := ⟨_, rfl⟩
        have h_z101 : z101.toInt = k.toInt + 1 := by rw [← hg_z101]; exact y_inc (by decide) (by omega) (by omega)
        refine lv_iinc hx hb yrq_d101 hl (k := 1) rfl hg_z101 (by decide) (lv' := [(3, .int z101), (2, .int z99), (0, .ref this), (1, .int w)]) rfl fun ls hl => ?_
        refine lv_goto hx hb yrq_d104 (tgt := 22) (by decide) ?_
        have his : z101.toInt.toNat = k.toInt.toNat + 1 := by omega
        have hc : m_yrC f w k.toInt.toNat = true := by unfold m_yrC m_lc; rw [(m_fw_LC hfw_85).mp (by assumption)]; rfl
        exact ih _ _ _ _ _ _ hI hY_this hY_ld hY_ey hY_vw hY_en hY_ed hY_adial hs_ld hs_ey hs_vw hs_en hs_ed hs_adial hA_adial hL (lv_sub hl [0, 1, 2, 3] rfl) (by first | assumption | omega) (by rw [his, m_gg_T hc, hnk, ← hal, ← hg_z99, ← hg_z94]; rfl) (by omega)
theorem ym_Tyears : y_Met vwCl x_G x_Zs x_Tb x_Nb xM77 z_ATF z_PTyears := by
  refine y_main (by decide +kernel) (by decide +kernel) x_Tb_good x_Nb_ok ?_
  intro p l e s m below meth c D U Y0 av ls B hI hpre hl
  have X := B.1
  have hx := X.1
  have hb := X.2.1
  have hY0 := B.2.2.2.2.1
  obtain ⟨v0, v1, rfl, hv0, ⟨w, rfl, -⟩⟩ := x_two B.2.2.2.2.2
  obtain ⟨this, t0, rfl, ht0, hY_this⟩ := x_ref_at hv0 rfl
  obtain rfl := List.mem_singleton.mp ht0
  replace hl : lv_has ls xM77.2.2.1 [(0, .ref this), (1, .int w)] := hl
  obtain ⟨f, K, tt, nn, hR0⟩ := hpre _ rfl
  obtain ⟨ld, dr, kp, tx, by_, kk, ⟨hs_ld, -⟩, ⟨hY_ld, -⟩, hL, -⟩ := id hR0
  obtain ⟨ey, hs_ey, hY_ey⟩ := y_fldR (k := 4) hI.1 hY_this rfl rfl
  obtain ⟨vw, hs_vw, hY_vw⟩ := y_fldR (k := 1) hI.1 hY_ey rfl rfl
  obtain ⟨en, hs_en, hY_en⟩ := y_fldR (k := 2) hI.1 hY_ey rfl rfl
  obtain ⟨ed, hs_ed, hY_ed⟩ := y_fldR (k := 3) hI.1 hY_ey rfl rfl
  have hn0 := hL.1.1
  have hn1 := hL.1.2.1
  have hn2 := hL.1.2.2
  have hb0 : 0 ≤ (f 0).toInt ∧ (f 0).toInt ≤ 10 := by obtain ⟨x9, e9, b9⟩ := y_fldI (k := 0) hI.1 hY_ld rfl rfl; rw [hn0] at e9; cases e9; exact b9
  have hb1 : 0 ≤ (f 1).toInt ∧ (f 1).toInt ≤ 8 := by obtain ⟨x9, e9, b9⟩ := y_fldI (k := 6) hI.1 hY_ld rfl rfl; rw [hn1] at e9; cases e9; exact b9
  have hb2 : 0 ≤ (f 2).toInt ∧ (f 2).toInt ≤ 8 := by obtain ⟨x9, e9, b9⟩ := y_fldI (k := 12) hI.1 hY_ld rfl rfl; rw [hn2] at e9; cases e9; exact b9
  obtain ⟨adial, hs_adial, hY_adial, hA_adial⟩ := hL.2.1 (10, 27, 4, 4, 1) (by decide)
  replace hA_adial : y_A adial 4 s.heap (fun j => f (4 + 1 * j)) := hA_adial
  refine lv_aload_n hx hb yrq_d0 rfl (lv_at hl 0 rfl) ?_
  refine y_getf X (fl8 X.2.2.2.2.1) hI.1 hY_this rfl hs_ld yrq_d1 ?_
  refine lv_iload_n hx hb yrq_d4 rfl (lv_at hl 1 rfl) ?_
  refine y_call (z := (0, 169, 2, some 2, xM67)) (av := [.ref ld, .int w]) (rest := []) (y_cokV (n := 1) (ci := 2) X ym_hasSet rfl rfl rfl (x_cons (x_bw42 2 rfl rfl) (x_cons (x_bw42 3 rfl rfl) (x_cons (x_bw42 4 rfl rfl) (x_cons (x_bw0 2 rfl rfl) x_nilm)))) (x_bw42 5 rfl rfl) (by decide +kernel) ⟨Nat.le_of_ble_eq_true rfl, Nat.le_of_ble_eq_true rfl⟩) hY0 hI rfl yrq_d5 hl.1 (Nat.le_of_ble_eq_true rfl) (Nat.le_of_ble_eq_true rfl) (Nat.le_of_ble_eq_true rfl) (y_cons (y_cref hY_ld rfl) (y_cons ⟨_, rfl, x_i32 _⟩ y_nil)) rfl (y_recv rfl hY_ld) trivial (y_sub_ef rfl) fun v Yn o Hn L ho hr ha hIn hx_ hE hP => ?_
  have hPh := hP _ _ _ rfl hn0
  replace hs_ld := y_Efld hE hY_this rfl (by decide) (by decide) hs_ld
  replace hs_ey := y_Efld hE hY_this rfl (by decide) (by decide) hs_ey
  replace hs_vw := y_Efld hE hY_ey rfl (by decide) (by decide) hs_vw
  replace hs_en := y_Efld hE hY_ey rfl (by decide) (by decide) hs_en
  replace hs_ed := y_Efld hE hY_ey rfl (by decide) (by decide) hs_ed
  replace hs_adial := y_Efld hE hY_ld rfl (by decide) (by decide) hs_adial
  replace hn0 := y_Efld hE hY_ld rfl (by decide) (by decide) hn0
  replace hA_adial := hA_adial.kept (y_Earr hE hY_adial rfl (by decide))
  replace hL := hL.E hY_ld hE (fun q u h => y_ext hx_ hI.1 h) (by decide +kernel)
  replace hY_this := y_ext hx_ hI.1 hY_this
  replace hY_ld := y_ext hx_ hI.1 hY_ld
  replace hY_ey := y_ext hx_ hI.1 hY_ey
  replace hY_vw := y_ext hx_ hI.1 hY_vw
  replace hY_en := y_ext hx_ hI.1 hY_en
  replace hY_ed := y_ext hx_ hI.1 hY_ed
  replace hY_adial := y_ext hx_ hI.1 hY_adial
  obtain ⟨r5, rfl, hin_r5, hout_r5⟩ := hPh
  clear ho hr ha hE hP hI hx_
  rename x_I _ _ _ _ _ _ _ _ _ _ => hI
  have ec0 : (0 : Int32).toInt = 0 := by decide
  refine lv_if_ne hx hb yrq_d8 (tgt := 18) (by decide) (fun q8 => ?_) (fun q8 => ?_)
  · have q8_ : ¬ r5.toInt = (0 : Int32).toInt := fun q => q8 (Int32.toInt_inj.mp q)
    have hok : m_isS f w := hin_r5 (by assumption)
    refine lv_iconst hx hb yrq_d18 (v := 0) (by decide) ?_
    refine lv_istore_n hx hb yrq_d19 rfl hl (by decide) (lv' := [(2, .int (0 : Int32)), (0, .ref this), (1, .int w)]) rfl fun ls hl => ?_
    refine lv_iconst hx hb yrq_d20 (v := 0) (by decide) ?_
    refine lv_istore_n hx hb yrq_d21 rfl hl (by decide) (lv' := [(3, .int (0 : Int32)), (2, .int (0 : Int32)), (0, .ref this), (1, .int w)]) rfl fun ls hl => ?_
    exact yrq_L22 B rfl hR0 hb0 hok 12 _ _ _ _ _ _ hI hY_this hY_ld hY_ey hY_vw hY_en hY_ed hY_adial hs_ld hs_ey hs_vw hs_en hs_ed hs_adial hA_adial hL (lv_sub hl [0, 1, 2, 3] rfl) (by first | assumption | omega) rfl (by omega)
  · have q8_ : r5.toInt = (0 : Int32).toInt := by rw [q8]
    have hno : ¬ m_isS f w := hout_r5 (by assumption)
    refine lv_aload_n hx hb yrq_d11 rfl (lv_at hl 0 rfl) ?_
    refine lv_bipush hx hb yrq_d12 (v := (-2)) (by decide) ?_
    have ecm2 : ((-2) : Int32).toInt = (-2) := by decide
    refine y_call (z := (0, 59, 2, some 0, xM8)) (av := [.ref this, .int ((-2) : Int32)]) (rest := []) (y_cokV (n := 1) (ci := 11) X ym_counted rfl rfl rfl (x_cons (x_bw19 7 rfl rfl) (x_cons (x_bw19 9 rfl rfl) (x_cons (x_at 1 (by decide +kernel) rfl) (x_cons (x_bw0 1 rfl rfl) x_nilm)))) (x_bw19 10 rfl rfl) (by decide +kernel) ⟨Nat.le_of_ble_eq_true rfl, Nat.le_of_ble_eq_true rfl⟩) hY0 hI rfl yrq_d14 hl.1 (Nat.le_of_ble_eq_true rfl) (Nat.le_of_ble_eq_true rfl) (Nat.le_of_ble_eq_true rfl) (y_cons (y_cref hY_this rfl) (y_cons ⟨_, rfl, x_i32 _⟩ y_nil)) rfl (y_recv rfl hY_this) trivial (y_sub_ef rfl) fun v Yn o Hn L ho hr ha hIn hx_ hE hP => ?_
    replace hs_ld := y_Efld hE hY_this rfl (by decide) (by decide) hs_ld
    replace hs_ey := y_Efld hE hY_this rfl (by decide) (by decide) hs_ey
    replace hs_vw := y_Efld hE hY_ey rfl (by decide) (by decide) hs_vw
    replace hs_en := y_Efld hE hY_ey rfl (by decide) (by decide) hs_en
    replace hs_ed := y_Efld hE hY_ey rfl (by decide) (by decide) hs_ed
    replace hs_adial := y_Efld hE hY_ld rfl (by decide) (by decide) hs_adial
    replace hn0 := y_Efld hE hY_ld rfl (by decide) (by decide) hn0
    replace hA_adial := hA_adial.kept (y_Earr hE hY_adial rfl (by decide))
    replace hL := hL.E hY_ld hE (fun q u h => y_ext hx_ hI.1 h) (by decide +kernel)
    replace hY_this := y_ext hx_ hI.1 hY_this
    replace hY_ld := y_ext hx_ hI.1 hY_ld
    replace hY_ey := y_ext hx_ hI.1 hY_ey
    replace hY_vw := y_ext hx_ hI.1 hY_vw
    replace hY_en := y_ext hx_ hI.1 hY_en
    replace hY_ed := y_ext hx_ hI.1 hY_ed
    replace hY_adial := y_ext hx_ hI.1 hY_adial
    obtain rfl := hP _ _ rfl
    clear ho hr ha hE hP hI hx_
    rename x_I _ _ _ _ _ _ _ _ _ _ => hI
    exact y_ireturn B hI rfl rfl rfl List.mem_cons_self ⟨_, rfl, ⟨_, rfl, x_i32 _⟩⟩ (x_cs.mono B.2.2.2.2.2 (y_mon B hI)) (fun t' w0' f' K' tt' nn' h1 h2 => by cases h1; obtain ⟨ef, -⟩ := hR0.eqs h2; subst ef; exact ⟨_, rfl, fun q9 => absurd q9 hno, fun _ => rfl⟩) (Nat.le_refl _) (Nat.le_refl _) yrq_d17
def z_Pili : yP := fun D av Y H v _ H' => ∀ (this ld ey en ed : Nat) (k w : Int32) (f fn fd : Nat → Int32) (y : Int32), av = [.ref this, .int k, .int w] → x_sl D 11 0 this H = some (.ref ld) → x_sl D 11 4 this H = some (.ref ey) → x_sl D 0 2 ey H = some (.ref en) → x_sl D 0 3 ey H = some (.ref ed) → z_L D Y ld H f → y_A en 100 H fn → y_A ed 100 H fd → (∀ a b : Nat, a < b → (b : Int) < (f 0).toInt → m_gok fn fd f y a b) → v = some (.int (m_b (m_lc (m_VC f y (f (116 + k.toInt.toNat)) 0) w)))
theorem iliq_d0 : decode xM81.2.1 0 = .ok (.aload_n 0, 1) := dz_ok (by decide +kernel)
theorem iliq_d1 : decode xM81.2.1 1 = .ok (.getfield 33, 3) := dz_ok (by decide +kernel)
theorem iliq_d4 : decode xM81.2.1 4 = .ok (.aload_n 0, 1) := dz_ok (by decide +kernel)
theorem iliq_d5 : decode xM81.2.1 5 = .ok (.getfield 12, 3) := dz_ok (by decide +kernel)
theorem iliq_d8 : decode xM81.2.1 8 = .ok (.aload_n 0, 1) := dz_ok (by decide +kernel)
theorem iliq_d9 : decode xM81.2.1 9 = .ok (.getfield 12, 3) := dz_ok (by decide +kernel)
theorem iliq_d12 : decode xM81.2.1 12 = .ok (.getfield 207, 3) := dz_ok (by decide +kernel)
theorem iliq_d15 : decode xM81.2.1 15 = .ok (.iload_n 1, 1) := dz_ok (by decide +kernel)
theorem iliq_d16 : decode xM81.2.1 16 = .ok (.iaload, 1) := dz_ok (by decide +kernel)
theorem iliq_d17 : decode xM81.2.1 17 = .ok (.iconst 0, 1) := dz_ok (by decide +kernel)
theorem iliq_d18 : decode xM81.2.1 18 = .ok (.invokevirtual 204, 3) := dz_ok (by decide +kernel)
theorem iliq_d21 : decode xM81.2.1 21 = .ok (.aload_n 0, 1) := dz_ok (by decide +kernel)
theorem iliq_d22 : decode xM81.2.1 22 = .ok (.getfield 33, 3) := dz_ok (by decide +kernel)
theorem iliq_d25 : decode xM81.2.1 25 = .ok (.iload_n 2, 1) := dz_ok (by decide +kernel)
theorem iliq_d26 : decode xM81.2.1 26 = .ok (.invokevirtual 172, 3) := dz_ok (by decide +kernel)
theorem iliq_d29 : decode xM81.2.1 29 = .ok (.iconst (-1), 1) := dz_ok (by decide +kernel)
theorem iliq_d30 : decode xM81.2.1 30 = .ok (.if_icmp .ne 7, 3) := dz_ok (by decide +kernel)
theorem iliq_d33 : decode xM81.2.1 33 = .ok (.iconst 1, 1) := dz_ok (by decide +kernel)
theorem iliq_d34 : decode xM81.2.1 34 = .ok (.goto 4, 3) := dz_ok (by decide +kernel)
theorem iliq_d37 : decode xM81.2.1 37 = .ok (.iconst 0, 1) := dz_ok (by decide +kernel)
theorem iliq_d38 : decode xM81.2.1 38 = .ok (.ireturn, 1) := dz_ok (by decide +kernel)
theorem ym_isLawIn : y_Met vwCl x_G x_Zs x_Tb x_Nb xM81 z_AT1 z_Pili := by
  refine y_main (by decide +kernel) (by decide +kernel) x_Tb_good x_Nb_ok ?_
  intro p l e s m below meth c D U Y0 av ls B hI hpre hl
  have X := B.1
  have hx := X.1
  have hb := X.2.1
  have hY0 := B.2.2.2.2.1
  obtain ⟨v0, v1, v2, rfl, hv0, ⟨k, rfl, hk⟩, ⟨w, rfl, -⟩⟩ := y_three B.2.2.2.2.2
  replace hk : (0 : Int) ≤ k.toInt ∧ k.toInt ≤ 11 := hk
  obtain ⟨this, t0, rfl, ht0, hY_this⟩ := x_ref_at hv0 rfl
  obtain rfl := List.mem_singleton.mp ht0
  replace hl : lv_has ls xM81.2.2.1 [(0, .ref this), (1, .int k), (2, .int w)] := hl
  obtain ⟨ld, hs_ld, hY_ld⟩ := y_fldR (k := 0) hI.1 hY_this rfl rfl
  obtain ⟨ey, hs_ey, hY_ey⟩ := y_fldR (k := 4) hI.1 hY_this rfl rfl
  obtain ⟨vw, hs_vw, hY_vw⟩ := y_fldR (k := 1) hI.1 hY_ey rfl rfl
  obtain ⟨en, hs_en, hY_en⟩ := y_fldR (k := 2) hI.1 hY_ey rfl rfl
  obtain ⟨ed, hs_ed, hY_ed⟩ := y_fldR (k := 3) hI.1 hY_ey rfl rfl
  obtain ⟨fn, hA_en, -⟩ := y_arr hI.1 hY_en rfl rfl
  obtain ⟨fd, hA_ed, -⟩ := y_arr hI.1 hY_ed rfl rfl
  obtain ⟨f, hL⟩ := hpre _ _ rfl hs_ld
  have hL0 := hL
  have hn0 := hL.1.1
  have hb0 : 0 ≤ (f 0).toInt ∧ (f 0).toInt ≤ 10 := by obtain ⟨x9, e9, b9⟩ := y_fldI (k := 0) hI.1 hY_ld rfl rfl; rw [hn0] at e9; cases e9; exact b9
  have hs0 := hs_ld
  have hs4 := hs_ey
  have hs2 := hs_en
  have hs3 := hs_ed
  have hAn0 := hA_en
  have hAd0 := hA_ed
  obtain ⟨amists, hs_amists, hY_amists, hA_amists⟩ := hL.2.1 (11, 28, 12, 116, 1) (by decide)
  replace hA_amists : y_A amists 12 s.heap (fun j => f (116 + 1 * j)) := hA_amists
  refine lv_aload_n hx hb iliq_d0 rfl (lv_at hl 0 rfl) ?_
  refine y_getf X (fl102 X.2.2.2.2.1) hI.1 hY_this rfl hs_ey iliq_d1 ?_
  refine lv_aload_n hx hb iliq_d4 rfl (lv_at hl 0 rfl) ?_
  refine y_getf X (fl8 X.2.2.2.2.1) hI.1 hY_this rfl hs_ld iliq_d5 ?_
  refine lv_aload_n hx hb iliq_d8 rfl (lv_at hl 0 rfl) ?_
  refine y_getf X (fl8 X.2.2.2.2.1) hI.1 hY_this rfl hs_ld iliq_d9 ?_
  refine y_getf X (fl137 X.2.2.2.2.1) hI.1 hY_ld rfl hs_amists iliq_d12 ?_
  refine lv_iload_n hx hb iliq_d15 rfl (lv_at hl 1 rfl) ?_
  refine y_iald X hI.1 hY_amists rfl hA_amists (by omega) (by show _ < (12 : Int); omega) iliq_d16 ?_
  obtain ⟨e16, hg_e16⟩ : ∃ e16 : Int32, f (116 + 1 * k.toInt.toNat) = e16 := ⟨_, rfl⟩
  rw [hg_e16]
  refine lv_iconst hx hb iliq_d17 (v := 0) (by decide) ?_
  have ec0 : (0 : Int32).toInt = 0 := by decide
  refine y_call (z := (0, 204, 4, some 6, xM51)) (av := [.ref ey, .ref ld, .int e16, .int (0 : Int32)]) (rest := []) (y_cokV (n := 3) (ci := 0) X ym_veil rfl rfl rfl (x_cons (x_bw32 11 rfl rfl) (x_cons (x_bw32 12 rfl rfl) (x_cons (x_bw32 13 rfl rfl) (x_cons (x_bw0 6 rfl rfl) x_nilm)))) (x_bw32 14 rfl rfl) (by decide +kernel) ⟨Nat.le_of_ble_eq_true rfl, Nat.le_of_ble_eq_true rfl⟩) hY0 hI rfl iliq_d18 hl.1 (Nat.le_of_ble_eq_true rfl) (Nat.le_of_ble_eq_true rfl) (Nat.le_of_ble_eq_true rfl) (y_cons (y_cref hY_ey rfl) (y_cons (y_cref hY_ld rfl) (y_cons ⟨_, rfl, x_i32 _⟩ (y_cons ⟨_, rfl, x_i32 _⟩ y_nil)))) rfl (y_recv rfl hY_ey) (fun t' h1 => by cases h1; exact ⟨_, hL⟩) (y_sub_ef rfl) fun v Yn o Hn L ho hr ha hIn hx_ hE hP => ?_
  have hPv := hP _ _ _ _ _ _ _ _ _ _ rfl hs_vw hs_en hs_ed hL hA_en hA_ed
  replace hs_ld := y_Efld hE hY_this rfl (by decide) (by decide) hs_ld
  replace hs_ey := y_Efld hE hY_this rfl (by decide) (by decide) hs_ey
  replace hs_vw := y_Efld hE hY_ey rfl (by decide) (by decide) hs_vw
  replace hs_en := y_Efld hE hY_ey rfl (by decide) (by decide) hs_en
  replace hs_ed := y_Efld hE hY_ey rfl (by decide) (by decide) hs_ed
  replace hs_amists := y_Efld hE hY_ld rfl (by decide) (by decide) hs_amists
  replace hA_amists := hA_amists.kept (y_Earr hE hY_amists rfl (by decide))
  replace hA_en := hA_en.kept (y_Earr hE hY_en rfl (by decide))
  replace hA_ed := hA_ed.kept (y_Earr hE hY_ed rfl (by decide))
  replace hL := hL.E hY_ld hE (fun q u h => y_ext hx_ hI.1 h) (by decide +kernel)
  replace hY_this := y_ext hx_ hI.1 hY_this
  replace hY_ld := y_ext hx_ hI.1 hY_ld
  replace hY_ey := y_ext hx_ hI.1 hY_ey
  replace hY_vw := y_ext hx_ hI.1 hY_vw
  replace hY_en := y_ext hx_ hI.1 hY_en
  replace hY_ed := y_ext hx_ hI.1 hY_ed
  replace hY_amists := y_ext hx_ hI.1 hY_amists
  obtain rfl := y_ansV rfl ho hr
  obtain ⟨V9, hV9⟩ : ∃ V9, m_vw (m_vk fn fd f e16 0) (f 0).toInt.toNat = V9 := ⟨_, rfl⟩
  have hA_vw := hPv
  rw [hV9] at hA_vw
  clear ho hr ha hE hP hI hx_
  rename x_I _ _ _ _ _ _ _ _ _ _ => hI
  refine lv_aload_n hx hb iliq_d21 rfl (lv_at hl 0 rfl) ?_
  refine y_getf X (fl102 X.2.2.2.2.1) hI.1 hY_this rfl hs_ey iliq_d22 ?_
  refine lv_iload_n hx hb iliq_d25 rfl (lv_at hl 2 rfl) ?_
  refine y_call (z := (0, 172, 2, some 6, xM72)) (av := [.ref ey, .int w]) (rest := []) (y_cokV (n := 1) (ci := 0) X ym_firstWrong rfl rfl rfl (x_cons (x_bw42 10 rfl rfl) (x_cons (x_bw42 11 rfl rfl) (x_cons (x_bw42 12 rfl rfl) (x_cons (x_bw0 6 rfl rfl) x_nilm)))) (x_bw42 13 rfl rfl) (by decide +kernel) ⟨Nat.le_of_ble_eq_true rfl, Nat.le_of_ble_eq_true rfl⟩) hY0 hI rfl iliq_d26 hl.1 (Nat.le_of_ble_eq_true rfl) (Nat.le_of_ble_eq_true rfl) (Nat.le_of_ble_eq_true rfl) (y_cons (y_cref hY_ey rfl) (y_cons ⟨_, rfl, x_i32 _⟩ y_nil)) rfl (y_recv rfl hY_ey) trivial (y_sub_ef rfl) fun v Yn o Hn L ho hr ha hIn hx_ hE hP => ?_
  have hPw := hP _ _ _ _ rfl hs_vw hA_vw
  replace hs_ld := y_Efld hE hY_this rfl (by decide) (by decide) hs_ld
  replace hs_ey := y_Efld hE hY_this rfl (by decide) (by decide) hs_ey
  replace hs_vw := y_Efld hE hY_ey rfl (by decide) (by decide) hs_vw
  replace hs_en := y_Efld hE hY_ey rfl (by decide) (by decide) hs_en
  replace hs_ed := y_Efld hE hY_ey rfl (by decide) (by decide) hs_ed
  replace hs_amists := y_Efld hE hY_ld rfl (by decide) (by decide) hs_amists
  replace hA_amists := hA_amists.kept (y_Earr hE hY_amists rfl (by decide))
  replace hA_en := hA_en.kept (y_Earr hE hY_en rfl (by decide))
  replace hA_ed := hA_ed.kept (y_Earr hE hY_ed rfl (by decide))
  replace hA_vw := hA_vw.kept (y_Earr hE hY_vw rfl (by decide))
  replace hL := hL.E hY_ld hE (fun q u h => y_ext hx_ hI.1 h) (by decide +kernel)
  replace hY_this := y_ext hx_ hI.1 hY_this
  replace hY_ld := y_ext hx_ hI.1 hY_ld
  replace hY_ey := y_ext hx_ hI.1 hY_ey
  replace hY_vw := y_ext hx_ hI.1 hY_vw
  replace hY_en := y_ext hx_ hI.1 hY_en
  replace hY_ed := y_ext hx_ hI.1 hY_ed
  replace hY_amists := y_ext hx_ hI.1 hY_amists
  obtain ⟨r26, rfl, hfw_26⟩ := hPw
  clear ho hr ha hE hP hI hx_
  rename x_I _ _ _ _ _ _ _ _ _ _ => hI
  refine lv_iconst hx hb iliq_d29 (v := (-1)) (by decide) ?_
  have ecm1 : ((-1) : Int32).toInt = (-1) := by decide
  refine lv_icmp_ne hx hb iliq_d30 (tgt := 37) (by decide) (fun q30 => ?_) (fun q30 => ?_)
  · have q30_ : ¬ r26.toInt = ((-1) : Int32).toInt := fun q => q30 (Int32.toInt_inj.mp q)
    refine lv_iconst hx hb iliq_d37 (v := 0) (by decide) ?_
    exact y_ireturn B hI rfl rfl rfl (List.mem_cons_of_mem _ List.mem_cons_self) ⟨_, rfl, ⟨_, rfl, by decide, by decide⟩⟩ (x_cs.mono B.2.2.2.2.2 (y_mon B hI)) (fun t' d' e' n' m' k' w' f' fn' fd' y' h1 h2 h3 h4 h5 h6 h7 h8 h9 => by cases h1; cases h2.symm.trans hs0; cases h3.symm.trans hs4; cases h4.symm.trans hs2; cases h5.symm.trans hs3; cases h6.uniq hL0; have eV : ∀ i, i < 10 → V9 i = m_VC f y' (f (116 + k.toInt.toNat)) 0 i := (fun i hi => by rw [← hV9]; refine m_vw_congr fun p q q1 q2 => ?_; have h10 := m_vk_ok (mi := f (116 + k.toInt.toNat)) (wk := 0) (h9 p q q1 (by omega)); rw [← h10, show f (116 + k.toInt.toNat) = e16 from by rw [← hg_e16, Nat.one_mul]]; unfold m_vk; rw [z_AR h7 hAn0 (by omega), z_AR h8 hAd0 (by omega)]); refine congrArg (fun x => some (Value.int x)) ?_; unfold m_lc; rw [show m_any (m_wr (m_VC f y' (f (116 + k.toInt.toNat)) 0) w) 10 = m_any (m_wr V9 w) 10 from m_any_congr fun i hi => by unfold m_wr; rw [eV i hi]]; cases hX : m_any (m_wr V9 w) 10 with | false => exact absurd ((m_fw_LC hfw_26).mpr hX) (by assumption) | true => rfl) (Nat.le_refl _) (Nat.le_refl _) iliq_d38
  · have q30_ : r26.toInt = ((-1) : Int32).toInt := by rw [q30]
    refine lv_iconst hx hb iliq_d33 (v := 1) (by decide) ?_
    have ec1 : (1 : Int32).toInt = 1 := by decide
    refine lv_goto hx hb iliq_d34 (tgt := 38) (by decide) ?_
    exact y_ireturn B hI rfl rfl rfl List.mem_cons_self ⟨_, rfl, ⟨_, rfl, by decide, by decide⟩⟩ (x_cs.mono B.2.2.2.2.2 (y_mon B hI)) (fun t' d' e' n' m' k' w' f' fn' fd' y' h1 h2 h3 h4 h5 h6 h7 h8 h9 => by cases h1; cases h2.symm.trans hs0; cases h3.symm.trans hs4; cases h4.symm.trans hs2; cases h5.symm.trans hs3; cases h6.uniq hL0; have eV : ∀ i, i < 10 → V9 i = m_VC f y' (f (116 + k.toInt.toNat)) 0 i := (fun i hi => by rw [← hV9]; refine m_vw_congr fun p q q1 q2 => ?_; have h10 := m_vk_ok (mi := f (116 + k.toInt.toNat)) (wk := 0) (h9 p q q1 (by omega)); rw [← h10, show f (116 + k.toInt.toNat) = e16 from by rw [← hg_e16, Nat.one_mul]]; unfold m_vk; rw [z_AR h7 hAn0 (by omega), z_AR h8 hAd0 (by omega)]); refine congrArg (fun x => some (Value.int x)) ?_; unfold m_lc; rw [show m_any (m_wr (m_VC f y' (f (116 + k.toInt.toNat)) 0) w) 10 = m_any (m_wr V9 w) 10 from m_any_congr fun i hi => by unfold m_wr; rw [eV i hi]]; rw [(m_fw_LC hfw_26).mp (by assumption)]; rfl) (Nat.le_refl _) (Nat.le_refl _) iliq_d38
