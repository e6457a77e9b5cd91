def z_PThours : yP := fun D av Y H v _ _ => ∀ (this : Nat) (w : Int32) (f : Nat → Int32) (K : Nat → Option (Nat → Int32)) (t9 : Nat → Int32) (n9 : Int32), av = [.ref this, .int w] → z_RC D Y H this f K t9 n9 → ∃ r : Int32, v = some (.int r) ∧ m_bitsOf (m_isS f w) (m_hrC f w) 12 r
theorem hoq_d0 : decode xM82.2.1 0 = .ok (.aload_n 0, 1) := dz_ok (by decide +kernel)
theorem hoq_d1 : decode xM82.2.1 1 = .ok (.getfield 12, 3) := dz_ok (by decide +kernel)
theorem hoq_d4 : decode xM82.2.1 4 = .ok (.iload_n 1, 1) := dz_ok (by decide +kernel)
theorem hoq_d5 : decode xM82.2.1 5 = .ok (.invokevirtual 169, 3) := dz_ok (by decide +kernel)
theorem hoq_d8 : decode xM82.2.1 8 = .ok (.ifCond .ne 10, 3) := dz_ok (by decide +kernel)
theorem hoq_d11 : decode xM82.2.1 11 = .ok (.aload_n 0, 1) := dz_ok (by decide +kernel)
theorem hoq_d12 : decode xM82.2.1 12 = .ok (.bipush (-2), 2) := dz_ok (by decide +kernel)
theorem hoq_d14 : decode xM82.2.1 14 = .ok (.invokevirtual 59, 3) := dz_ok (by decide +kernel)
theorem hoq_d17 : decode xM82.2.1 17 = .ok (.ireturn, 1) := dz_ok (by decide +kernel)
theorem hoq_d18 : decode xM82.2.1 18 = .ok (.aload_n 0, 1) := dz_ok (by decide +kernel)
theorem hoq_d19 : decode xM82.2.1 19 = .ok (.getfield 33, 3) := dz_ok (by decide +kernel)
theorem hoq_d22 : decode xM82.2.1 22 = .ok (.aload_n 0, 1) := dz_ok (by decide +kernel)
theorem hoq_d23 : decode xM82.2.1 23 = .ok (.getfield 12, 3) := dz_ok (by decide +kernel)
theorem hoq_d26 : decode xM82.2.1 26 = .ok (.aload_n 0, 1) := dz_ok (by decide +kernel)
theorem hoq_d27 : decode xM82.2.1 27 = .ok (.getfield 12, 3) := dz_ok (by decide +kernel)
theorem hoq_d30 : decode xM82.2.1 30 = .ok (.getfield 95, 3) := dz_ok (by decide +kernel)
theorem hoq_d33 : decode xM82.2.1 33 = .ok (.iconst 0, 1) := dz_ok (by decide +kernel)
theorem hoq_d34 : decode xM82.2.1 34 = .ok (.iaload, 1) := dz_ok (by decide +kernel)
theorem hoq_d35 : decode xM82.2.1 35 = .ok (.invokevirtual 200, 3) := dz_ok (by decide +kernel)
theorem hoq_d38 : decode xM82.2.1 38 = .ok (.iconst 0, 1) := dz_ok (by decide +kernel)
theorem hoq_d39 : decode xM82.2.1 39 = .ok (.istore_n 2, 1) := dz_ok (by decide +kernel)
theorem hoq_d40 : decode xM82.2.1 40 = .ok (.iconst 0, 1) := dz_ok (by decide +kernel)
theorem hoq_d41 : decode xM82.2.1 41 = .ok (.istore_n 3, 1) := dz_ok (by decide +kernel)
theorem hoq_d42 : decode xM82.2.1 42 = .ok (.iload_n 3, 1) := dz_ok (by decide +kernel)
theorem hoq_d43 : decode xM82.2.1 43 = .ok (.bipush 12, 2) := dz_ok (by decide +kernel)
theorem hoq_d45 : decode xM82.2.1 45 = .ok (.if_icmp .ge 28, 3) := dz_ok (by decide +kernel)
theorem hoq_d48 : decode xM82.2.1 48 = .ok (.iload_n 2, 1) := dz_ok (by decide +kernel)
theorem hoq_d49 : decode xM82.2.1 49 = .ok (.aload_n 0, 1) := dz_ok (by decide +kernel)
theorem hoq_d50 : decode xM82.2.1 50 = .ok (.iload_n 3, 1) := dz_ok (by decide +kernel)
theorem hoq_d51 : decode xM82.2.1 51 = .ok (.iload_n 1, 1) := dz_ok (by decide +kernel)
theorem hoq_d52 : decode xM82.2.1 52 = .ok (.invokevirtual 210, 3) := dz_ok (by decide +kernel)
theorem hoq_d55 : decode xM82.2.1 55 = .ok (.ifCond .eq 9, 3) := dz_ok (by decide +kernel)
theorem hoq_d58 : decode xM82.2.1 58 = .ok (.iconst 1, 1) := dz_ok (by decide +kernel)
theorem hoq_d59 : decode xM82.2.1 59 = .ok (.iload_n 3, 1) := dz_ok (by decide +kernel)
theorem hoq_d60 : decode xM82.2.1 60 = .ok (.ishl, 1) := dz_ok (by decide +kernel)
theorem hoq_d61 : decode xM82.2.1 61 = .ok (.goto 4, 3) := dz_ok (by decide +kernel)
theorem hoq_d64 : decode xM82.2.1 64 = .ok (.iconst 0, 1) := dz_ok (by decide +kernel)
theorem hoq_d65 : decode xM82.2.1 65 = .ok (.ior, 1) := dz_ok (by decide +kernel)
theorem hoq_d66 : decode xM82.2.1 66 = .ok (.istore_n 2, 1) := dz_ok (by decide +kernel)
theorem hoq_d67 : decode xM82.2.1 67 = .ok (.iinc 3 1, 3) := dz_ok (by decide +kernel)
theorem hoq_d70 : decode xM82.2.1 70 = .ok (.goto (-28), 3) := dz_ok (by decide +kernel)
theorem hoq_d73 : decode xM82.2.1 73 = .ok (.iload_n 2, 1) := dz_ok (by decide +kernel)
theorem hoq_d74 : decode xM82.2.1 74 = .ok (.ireturn, 1) := dz_ok (by decide +kernel)
theorem hoq_L42 {p : Program} {l : Launch} {e : Env} {s : State} {m : MethodId} {below : List Frame} {meth : Method} {c : Code} {D : va_G} {U : State} {Y0 : xY} {av : List Value} (B : y_B vwCl x_Tb x_Nb xM82 p s m meth c D U Y0 av) {this ld ey vw en ed : Nat} {w : Int32} {f : Nat → Int32} {K : Nat → Option (Nat → Int32)} {tt : Nat → Int32} {nn : Int32} (hav : av = [.ref this, .int w]) (hR0 : z_RC D Y0 s.heap this f K tt nn) (hb0 : 0 ≤ (f 0).toInt ∧ (f 0).toInt ≤ 10) (hok : m_isS f w)  :
    ∀ (n : Nat), ∀ (H : Heap) (Y : xY) (locs : List Loc) (ls : Array Slot) (k : Int32) (al : Int32) (fn fd : Nat → Int32), x_I D x_G x_Zs U (x_efs xM82) Y0 s.heap Y H locs → Y this = some 0 → Y ld = some 2 → Y ey = some 6 → Y vw = some 32 → Y en = some 33 → Y ed = some 34 → x_sl D 11 0 this H = some (.ref ld) → x_sl D 11 4 this H = some (.ref ey) → x_sl D 0 1 ey H = some (.ref vw) → x_sl D 0 2 ey H = some (.ref en) → x_sl D 0 3 ey H = some (.ref ed) → y_A en 100 H fn → y_A ed 100 H fd → z_L D Y ld H f → lv_has ls xM82.2.2.1 [(3, .int k), (2, .int al), (0, .ref this), (1, .int w)] → (0 ≤ k.toInt ∧ k.toInt ≤ 12) → (∀ p q : Nat, p < q → (q : Int) < (f 0).toInt → m_gok fn fd f (f 4) p q) → (al = m_gg (m_hrC f w) 0 k.toInt.toNat) → (13 - k.toInt).toNat < n → W p l e (x_rm xM82) s m av.toArray below meth c H locs 0 0 (y_QQ below D x_G x_Zs U xM82 z_PThours av Y0 s) (F0 m 42 ls []) := by
  have X := B.1
  have hx := X.1
  have hb := X.2.1
  have hY0 := B.2.2.2.2.1
  intro n
  induction n with
  | zero => intro _ _ _ _ _ _ _ _ _ _ _ _ _ _ _ _ _ _ _ _ _ _ _ _ _ _ _ h; exact absurd h (Nat.not_lt_zero _)
  | succ n ih =>
    intro H Y locs ls k al fn fd hI hY_this hY_ld hY_ey hY_vw hY_en hY_ed hs_ld hs_ey hs_vw hs_en hs_ed hA_en hA_ed hL hl hk hok9 hal hn
    refine lv_iload_n hx hb hoq_d42 rfl (lv_at hl 0 rfl) ?_
    refine lv_bipush hx hb hoq_d43 (v := 12) (by decide) ?_
    have ec12 : (12 : Int32).toInt = 12 := by decide
    refine lv_icmp_ge hx hb hoq_d45 (tgt := 73) (by decide) (fun q45 => ?_) (fun q45 => ?_)
    · have q45_ : (12 : Int32).toInt ≤ k.toInt := x_le32.mp q45
      refine lv_iload_n hx hb hoq_d73 rfl (lv_at hl 1 rfl) ?_
      have hr9 : al = m_gg (m_hrC f w) 0 12 := by rw [hal, show k.toInt.toNat = 12 by omega]
      subst hav
      exact y_ireturn B hI rfl rfl rfl List.mem_cons_self ⟨_, rfl, ⟨_, rfl, x_i32 _⟩⟩ (x_cs.mono B.2.2.2.2.2 (y_mon B hI)) (fun t' w0' f' K' tt' nn' h1 h2 => by cases h1; obtain ⟨ef, -⟩ := hR0.eqs h2; subst ef; exact ⟨_, rfl, fun _ => hr9, fun q9 => absurd hok q9⟩) (Nat.le_refl _) (Nat.le_refl _) hoq_d74
    · have q45_ : k.toInt < (12 : Int32).toInt := Int.not_le.mp fun q => q45 (x_le32.mpr q)
      refine lv_iload_n hx hb hoq_d48 rfl (lv_at hl 1 rfl) ?_
      refine lv_aload_n hx hb hoq_d49 rfl (lv_at hl 2 rfl) ?_
      refine lv_iload_n hx hb hoq_d50 rfl (lv_at hl 0 rfl) ?_
      refine lv_iload_n hx hb hoq_d51 rfl (lv_at hl 3 rfl) ?_
      refine y_call (z := (0, 210, 3, some 0, xM81)) (av := [.ref this, .int k, .int w]) (rest := [.int al]) (y_cokV (n := 2) (ci := 11) X ym_isLawIn rfl rfl rfl (x_cons (x_bw46 0 rfl rfl) (x_cons (x_bw46 2 rfl rfl) (x_cons (x_at 14 (by decide +kernel) rfl) (x_cons (x_bw0 1 rfl rfl) x_nilm)))) (x_bw46 3 rfl rfl) (by decide +kernel) ⟨Nat.le_of_ble_eq_true rfl, Nat.le_of_ble_eq_true rfl⟩) hY0 hI rfl hoq_d52 hl.1 (Nat.le_of_ble_eq_true rfl) (Nat.le_of_ble_eq_true rfl) (Nat.le_of_ble_eq_true rfl) (y_cons (y_cref hY_this rfl) (y_cons ⟨_, rfl, by show (0 : Int) ≤ _; omega, by show _ ≤ (11 : Int); omega⟩ (y_cons ⟨_, rfl, x_i32 _⟩ y_nil))) rfl (y_recv rfl hY_this) (fun t' hd' h1 h2 => by cases h1; cases h2.symm.trans hs_ld; exact ⟨_, hL⟩) (y_sub_ef rfl) fun v Yn o Hn L ho hr ha hIn hx_ hE hP => ?_
      have hPl := hP _ _ _ _ _ _ _ _ _ _ (f 4) rfl hs_ld hs_ey hs_en hs_ed hL hA_en hA_ed hok9
      obtain rfl := hPl
      replace hs_ld := y_Efld hE hY_this rfl (by decide) (by decide) hs_ld
      replace hs_ey := y_Efld hE hY_this rfl (by decide) (by decide) hs_ey
      replace hs_vw := y_Efld hE hY_ey rfl (by decide) (by decide) hs_vw
      replace hs_en := y_Efld hE hY_ey rfl (by decide) (by decide) hs_en
      replace hs_ed := y_Efld hE hY_ey rfl (by decide) (by decide) hs_ed
      replace hA_en := hA_en.kept (y_Earr hE hY_en rfl (by decide))
      replace hA_ed := hA_ed.kept (y_Earr hE hY_ed rfl (by decide))
      replace hL := hL.E hY_ld hE (fun q u h => y_ext hx_ hI.1 h) (by decide +kernel)
      replace hY_this := y_ext hx_ hI.1 hY_this
      replace hY_ld := y_ext hx_ hI.1 hY_ld
      replace hY_ey := y_ext hx_ hI.1 hY_ey
      replace hY_vw := y_ext hx_ hI.1 hY_vw
      replace hY_en := y_ext hx_ hI.1 hY_en
      replace hY_ed := y_ext hx_ hI.1 hY_ed
      generalize hg_r52 : m_b (m_lc (m_VC f (f 4) (f (116 + k.toInt.toNat)) 0) w) = r52
      clear ho hr ha hE hP hI hx_
      rename x_I _ _ _ _ _ _ _ _ _ _ => hI
      have ec0 : (0 : Int32).toInt = 0 := by decide
      refine lv_if_eq hx hb hoq_d55 (tgt := 64) (by decide) (fun q55 => ?_) (fun q55 => ?_)
      · have q55_ : r52.toInt = (0 : Int32).toInt := by rw [q55]
        refine lv_iconst hx hb hoq_d64 (v := 0) (by decide) ?_
        refine lv_ior hx hb hoq_d65 ?_
        generalize hg_z65 : al ||| (0 : Int32) = z65
        refine lv_istore_n hx hb hoq_d66 rfl hl (by decide) (lv' := [(2, .int z65), (3, .int k), (0, .ref this), (1, .int w)]) rfl fun ls hl => ?_
        obtain ⟨z67, hg_z67⟩ : ∃ z67 : Int32, k + Int32.ofInt 1 = z67 := ⟨_, rfl⟩
        have h_z67 : z67.toInt = k.toInt + 1 := by rw [← hg_z67]; exact y_inc (by decide) (by omega) (by omega)
        refine lv_iinc hx hb hoq_d67 hl (k := 1) rfl hg_z67 (by decide) (lv' := [(3, .int z67), (2, .int z65), (0, .ref this), (1, .int w)]) rfl fun ls hl => ?_
        refine lv_goto hx hb hoq_d70 (tgt := 42) (by decide) ?_
        have his : z67.toInt.toNat = k.toInt.toNat + 1 := by omega
        have hnk := m_nj hk.1
        have hc : m_hrC f w k.toInt.toNat = false := m_b0 (hg_r52.trans q55)
        exact ih _ _ _ _ _ _ _ _ hI hY_this hY_ld hY_ey hY_vw hY_en hY_ed hs_ld hs_ey hs_vw hs_en hs_ed hA_en hA_ed hL (lv_sub hl [0, 1, 2, 3] rfl) (by first | assumption | omega) (by first | assumption | omega) (by rw [his, m_gg_F hc, ← hal, ← hg_z65]; exact m_or0) (by omega)
      · have q55_ : ¬ r52.toInt = (0 : Int32).toInt := fun q => q55 (Int32.toInt_inj.mp q)
        refine lv_iconst hx hb hoq_d58 (v := 1) (by decide) ?_
        have ec1 : (1 : Int32).toInt = 1 := by decide
        refine lv_iload_n hx hb hoq_d59 rfl (lv_at hl 0 rfl) ?_
        refine lv_ishl hx hb hoq_d60 ?_
        generalize hg_z60 : (1 : Int32) <<< (k &&& 31) = z60
        refine lv_goto hx hb hoq_d61 (tgt := 65) (by decide) ?_
        refine lv_ior hx hb hoq_d65 ?_
        generalize hg_z65 : al ||| z60 = z65
        refine lv_istore_n hx hb hoq_d66 rfl hl (by decide) (lv' := [(2, .int z65), (3, .int k), (0, .ref this), (1, .int w)]) rfl fun ls hl => ?_
        obtain ⟨z67, hg_z67⟩ : ∃ z67 : Int32, k + Int32.ofInt 1 = z67 := ⟨_, rfl⟩
        have h_z67 : z67.toInt = k.toInt + 1 := by rw [← hg_z67]; exact y_inc (by decide) (by omega) (by omega)
        refine lv_iinc hx hb hoq_d67 hl (k := 1) rfl hg_z67 (by decide) (lv' := [(3, .int z67), (2, .int z65), (0, .ref this), (1, .int w)]) rfl fun ls hl => ?_
        refine lv_goto hx hb hoq_d70 (tgt := 42) (by decide) ?_
        have his : z67.toInt.toNat = k.toInt.toNat + 1 := by omega
        have hnk := m_nj hk.1
        have hc : m_hrC f w k.toInt.toNat = true := m_bn (fun q => q55 (hg_r52.symm.trans q))
        exact ih _ _ _ _ _ _ _ _ hI hY_this hY_ld hY_ey hY_vw hY_en hY_ed hs_ld hs_ey hs_vw hs_en hs_ed hA_en hA_ed hL (lv_sub hl [0, 1, 2, 3] rfl) (by first | assumption | omega) (by first | assumption | omega) (by rw [his, m_gg_T hc, hnk, ← hal, ← hg_z65, ← hg_z60]; rfl) (by omega)
theorem ym_Thours : y_Met vwCl x_G x_Zs x_Tb x_Nb xM82 z_ATF z_PThours := by
  refine y_main (by decide +kernel) (by decide +kernel) x_Tb_good x_Nb_ok ?_
  intro p l e s m below meth c D U Y0 av ls B hI hpre hl
  have X := B.1
  have hx := X.1
  have hb := X.2.1
  have hY0 := B.2.2.2.2.1
  obtain ⟨v0, v1, rfl, hv0, ⟨w, rfl, -⟩⟩ := x_two B.2.2.2.2.2
  obtain ⟨this, t0, rfl, ht0, hY_this⟩ := x_ref_at hv0 rfl
  obtain rfl := List.mem_singleton.mp ht0
  replace hl : lv_has ls xM82.2.2.1 [(0, .ref this), (1, .int w)] := hl
  obtain ⟨f, K, tt, nn, hR0⟩ := hpre _ rfl
  obtain ⟨ld, dr, kp, tx, by_, kk, ⟨hs_ld, -⟩, ⟨hY_ld, -⟩, hL, -⟩ := id hR0
  obtain ⟨ey, hs_ey, hY_ey⟩ := y_fldR (k := 4) hI.1 hY_this rfl rfl
  obtain ⟨vw, hs_vw, hY_vw⟩ := y_fldR (k := 1) hI.1 hY_ey rfl rfl
  obtain ⟨en, hs_en, hY_en⟩ := y_fldR (k := 2) hI.1 hY_ey rfl rfl
  obtain ⟨ed, hs_ed, hY_ed⟩ := y_fldR (k := 3) hI.1 hY_ey rfl rfl
  have hn0 := hL.1.1
  have hn1 := hL.1.2.1
  have hn2 := hL.1.2.2
  have hb0 : 0 ≤ (f 0).toInt ∧ (f 0).toInt ≤ 10 := by obtain ⟨x9, e9, b9⟩ := y_fldI (k := 0) hI.1 hY_ld rfl rfl; rw [hn0] at e9; cases e9; exact b9
  have hb1 : 0 ≤ (f 1).toInt ∧ (f 1).toInt ≤ 8 := by obtain ⟨x9, e9, b9⟩ := y_fldI (k := 6) hI.1 hY_ld rfl rfl; rw [hn1] at e9; cases e9; exact b9
  have hb2 : 0 ≤ (f 2).toInt ∧ (f 2).toInt ≤ 8 := by obtain ⟨x9, e9, b9⟩ := y_fldI (k := 12) hI.1 hY_ld rfl rfl; rw [hn2] at e9; cases e9; exact b9
  obtain ⟨adial, hs_adial, hY_adial, hA_adial⟩ := hL.2.1 (10, 27, 4, 4, 1) (by decide)
  replace hA_adial : y_A adial 4 s.heap (fun j => f (4 + 1 * j)) := hA_adial
  refine lv_aload_n hx hb hoq_d0 rfl (lv_at hl 0 rfl) ?_
  refine y_getf X (fl8 X.2.2.2.2.1) hI.1 hY_this rfl hs_ld hoq_d1 ?_
  refine lv_iload_n hx hb hoq_d4 rfl (lv_at hl 1 rfl) ?_
  refine y_call (z := (0, 169, 2, some 2, xM67)) (av := [.ref ld, .int w]) (rest := []) (y_cokV (n := 1) (ci := 2) X ym_hasSet rfl rfl rfl (x_cons (x_bw42 2 rfl rfl) (x_cons (x_bw42 3 rfl rfl) (x_cons (x_bw42 4 rfl rfl) (x_cons (x_bw0 2 rfl rfl) x_nilm)))) (x_bw42 5 rfl rfl) (by decide +kernel) ⟨Nat.le_of_ble_eq_true rfl, Nat.le_of_ble_eq_true rfl⟩) hY0 hI rfl hoq_d5 hl.1 (Nat.le_of_ble_eq_true rfl) (Nat.le_of_ble_eq_true rfl) (Nat.le_of_ble_eq_true rfl) (y_cons (y_cref hY_ld rfl) (y_cons ⟨_, rfl, x_i32 _⟩ y_nil)) rfl (y_recv rfl hY_ld) trivial (y_sub_ef rfl) fun v Yn o Hn L ho hr ha hIn hx_ hE hP => ?_
  have hPh := hP _ _ _ rfl hn0
  replace hs_ld := y_Efld hE hY_this rfl (by decide) (by decide) hs_ld
  replace hs_ey := y_Efld hE hY_this rfl (by decide) (by decide) hs_ey
  replace hs_vw := y_Efld hE hY_ey rfl (by decide) (by decide) hs_vw
  replace hs_en := y_Efld hE hY_ey rfl (by decide) (by decide) hs_en
  replace hs_ed := y_Efld hE hY_ey rfl (by decide) (by decide) hs_ed
  replace hn0 := y_Efld hE hY_ld rfl (by decide) (by decide) hn0
  replace hs_adial := y_Efld hE hY_ld rfl (by decide) (by decide) hs_adial
  replace hA_adial := hA_adial.kept (y_Earr hE hY_adial rfl (by decide))
  replace hL := hL.E hY_ld hE (fun q u h => y_ext hx_ hI.1 h) (by decide +kernel)
  replace hY_this := y_ext hx_ hI.1 hY_this
  replace hY_ld := y_ext hx_ hI.1 hY_ld
  replace hY_ey := y_ext hx_ hI.1 hY_ey
  replace hY_vw := y_ext hx_ hI.1 hY_vw
  replace hY_en := y_ext hx_ hI.1 hY_en
  replace hY_ed := y_ext hx_ hI.1 hY_ed
  replace hY_adial := y_ext hx_ hI.1 hY_adial
  obtain ⟨r5, rfl, hin_r5, hout_r5⟩ := hPh
  clear ho hr ha hE hP hI hx_
  rename x_I _ _ _ _ _ _ _ _ _ _ => hI
  have ec0 : (0 : Int32).toInt = 0 := by decide
  refine lv_if_ne hx hb hoq_d8 (tgt := 18) (by decide) (fun q8 => ?_) (fun q8 => ?_)
  · have q8_ : ¬ r5.toInt = (0 : Int32).toInt := fun q => q8 (Int32.toInt_inj.mp q)
    have hok : m_isS f w := hin_r5 (by assumption)
    refine lv_aload_n hx hb hoq_d18 rfl (lv_at hl 0 rfl) ?_
    refine y_getf X (fl102 X.2.2.2.2.1) hI.1 hY_this rfl hs_ey hoq_d19 ?_
    refine lv_aload_n hx hb hoq_d22 rfl (lv_at hl 0 rfl) ?_
    refine y_getf X (fl8 X.2.2.2.2.1) hI.1 hY_this rfl hs_ld hoq_d23 ?_
    refine lv_aload_n hx hb hoq_d26 rfl (lv_at hl 0 rfl) ?_
    refine y_getf X (fl8 X.2.2.2.2.1) hI.1 hY_this rfl hs_ld hoq_d27 ?_
    refine y_getf X (fl58 X.2.2.2.2.1) hI.1 hY_ld rfl hs_adial hoq_d30 ?_
    refine lv_iconst hx hb hoq_d33 (v := 0) (by decide) ?_
    refine y_iald X hI.1 hY_adial rfl hA_adial (by omega) (by show _ < (4 : Int); omega) hoq_d34 ?_
    obtain ⟨e34, hg_e34⟩ : ∃ e34 : Int32, f (4 + 1 * (0 : Int32).toInt.toNat) = e34 := ⟨_, rfl⟩
    rw [hg_e34]
    have hy9 : e34 = f 4 := hg_e34.symm
    subst hy9
    refine y_call (z := (0, 200, 3, some 6, xM49)) (av := [.ref ey, .ref ld, .int (f 4)]) (rest := []) (y_cokV (n := 2) (ci := 0) X ym_gatherE rfl rfl rfl (x_cons (x_bw30 0 rfl rfl) (x_cons (x_bw30 1 rfl rfl) (x_cons (x_bw30 2 rfl rfl) (x_cons (x_bw0 6 rfl rfl) x_nilm)))) (x_bw30 3 rfl rfl) (by decide +kernel) ⟨Nat.le_of_ble_eq_true rfl, Nat.le_of_ble_eq_true rfl⟩) hY0 hI rfl hoq_d35 hl.1 (Nat.le_of_ble_eq_true rfl) (Nat.le_of_ble_eq_true rfl) (Nat.le_of_ble_eq_true rfl) (y_cons (y_cref hY_ey rfl) (y_cons (y_cref hY_ld rfl) (y_cons ⟨_, rfl, x_i32 _⟩ y_nil))) rfl (y_recv rfl hY_ey) (fun t' h1 => by cases h1; exact ⟨_, hL⟩) (y_sub_ef rfl) fun v Yn o Hn L ho hr ha hIn hx_ hE hP => ?_
    have hPg := hP _ _ _ _ _ _ rfl hs_en hs_ed hL
    replace hs_ld := y_Efld hE hY_this rfl (by decide) (by decide) hs_ld
    replace hs_ey := y_Efld hE hY_this rfl (by decide) (by decide) hs_ey
    replace hs_vw := y_Efld hE hY_ey rfl (by decide) (by decide) hs_vw
    replace hs_en := y_Efld hE hY_ey rfl (by decide) (by decide) hs_en
    replace hs_ed := y_Efld hE hY_ey rfl (by decide) (by decide) hs_ed
    replace hn0 := y_Efld hE hY_ld rfl (by decide) (by decide) hn0
    replace hs_adial := y_Efld hE hY_ld rfl (by decide) (by decide) hs_adial
    replace hA_adial := hA_adial.kept (y_Earr hE hY_adial rfl (by decide))
    replace hL := hL.E hY_ld hE (fun q u h => y_ext hx_ hI.1 h) (by decide +kernel)
    replace hY_this := y_ext hx_ hI.1 hY_this
    replace hY_ld := y_ext hx_ hI.1 hY_ld
    replace hY_ey := y_ext hx_ hI.1 hY_ey
    replace hY_vw := y_ext hx_ hI.1 hY_vw
    replace hY_en := y_ext hx_ hI.1 hY_en
    replace hY_ed := y_ext hx_ hI.1 hY_ed
    replace hY_adial := y_ext hx_ hI.1 hY_adial
    obtain rfl := y_ansV rfl ho hr
    obtain ⟨fn, fd, hA_en, hA_ed, hok9⟩ := hPg
    have hd09 : True := trivial
    clear ho hr ha hE hP hI hx_
    rename x_I _ _ _ _ _ _ _ _ _ _ => hI
    refine lv_iconst hx hb hoq_d38 (v := 0) (by decide) ?_
    refine lv_istore_n hx hb hoq_d39 rfl hl (by decide) (lv' := [(2, .int (0 : Int32)), (0, .ref this), (1, .int w)]) rfl fun ls hl => ?_
    refine lv_iconst hx hb hoq_d40 (v := 0) (by decide) ?_
    refine lv_istore_n hx hb hoq_d41 rfl hl (by decide) (lv' := [(3, .int (0 : Int32)), (2, .int (0 : Int32)), (0, .ref this), (1, .int w)]) rfl fun ls hl => ?_
    exact hoq_L42 B rfl hR0 hb0 hok 14 _ _ _ _ _ _ _ _ hI hY_this hY_ld hY_ey hY_vw hY_en hY_ed hs_ld hs_ey hs_vw hs_en hs_ed hA_en hA_ed hL (lv_sub hl [0, 1, 2, 3] rfl) (by first | assumption | omega) hok9 rfl (by omega)
  · have q8_ : r5.toInt = (0 : Int32).toInt := by rw [q8]
    have hno : ¬ m_isS f w := hout_r5 (by assumption)
    refine lv_aload_n hx hb hoq_d11 rfl (lv_at hl 0 rfl) ?_
    refine lv_bipush hx hb hoq_d12 (v := (-2)) (by decide) ?_
    have ecm2 : ((-2) : Int32).toInt = (-2) := by decide
    refine y_call (z := (0, 59, 2, some 0, xM8)) (av := [.ref this, .int ((-2) : Int32)]) (rest := []) (y_cokV (n := 1) (ci := 11) X ym_counted rfl rfl rfl (x_cons (x_bw19 7 rfl rfl) (x_cons (x_bw19 9 rfl rfl) (x_cons (x_at 1 (by decide +kernel) rfl) (x_cons (x_bw0 1 rfl rfl) x_nilm)))) (x_bw19 10 rfl rfl) (by decide +kernel) ⟨Nat.le_of_ble_eq_true rfl, Nat.le_of_ble_eq_true rfl⟩) hY0 hI rfl hoq_d14 hl.1 (Nat.le_of_ble_eq_true rfl) (Nat.le_of_ble_eq_true rfl) (Nat.le_of_ble_eq_true rfl) (y_cons (y_cref hY_this rfl) (y_cons ⟨_, rfl, x_i32 _⟩ y_nil)) rfl (y_recv rfl hY_this) trivial (y_sub_ef rfl) fun v Yn o Hn L ho hr ha hIn hx_ hE hP => ?_
    replace hs_ld := y_Efld hE hY_this rfl (by decide) (by decide) hs_ld
    replace hs_ey := y_Efld hE hY_this rfl (by decide) (by decide) hs_ey
    replace hs_vw := y_Efld hE hY_ey rfl (by decide) (by decide) hs_vw
    replace hs_en := y_Efld hE hY_ey rfl (by decide) (by decide) hs_en
    replace hs_ed := y_Efld hE hY_ey rfl (by decide) (by decide) hs_ed
    replace hn0 := y_Efld hE hY_ld rfl (by decide) (by decide) hn0
    replace hs_adial := y_Efld hE hY_ld rfl (by decide) (by decide) hs_adial
    replace hA_adial := hA_adial.kept (y_Earr hE hY_adial rfl (by decide))
    replace hL := hL.E hY_ld hE (fun q u h => y_ext hx_ hI.1 h) (by decide +kernel)
    replace hY_this := y_ext hx_ hI.1 hY_this
    replace hY_ld := y_ext hx_ hI.1 hY_ld
    replace hY_ey := y_ext hx_ hI.1 hY_ey
    replace hY_vw := y_ext hx_ hI.1 hY_vw
    replace hY_en := y_ext hx_ hI.1 hY_en
    replace hY_ed := y_ext hx_ hI.1 hY_ed
    replace hY_adial := y_ext hx_ hI.1 hY_adial
    obtain rfl := hP _ _ rfl
    clear ho hr ha hE hP hI hx_
    rename x_I _ _ _ _ _ _ _ _ _ _ => hI
    exact y_ireturn B hI rfl rfl rfl List.mem_cons_self ⟨_, rfl, ⟨_, rfl, x_i32 _⟩⟩ (x_cs.mono B.2.2.2.2.2 (y_mon B hI)) (fun t' w0' f' K' tt' nn' h1 h2 => by cases h1; obtain ⟨ef, -⟩ := hR0.eqs h2; subst ef; exact ⟨_, rfl, fun q9 => absurd q9 hno, fun _ => rfl⟩) (Nat.le_refl _) (Nat.le_refl _) hoq_d17
