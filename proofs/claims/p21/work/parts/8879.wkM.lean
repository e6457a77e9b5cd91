/-! WORK, CHEAPEST of the reference -/
theorem m_ab_c {f : Nat → Int32} {d : Int32} {n : Nat} (h : z_c f) (hn : n ≤ 8) : z_c (m_ab f d 0 n) := fun p hp => by
  rw [m_ab_ne (by omega)]
  exact h p hp
theorem m_LWRz {f : Nat → Int32} {d x : Int32} {n : Nat} : m_lw (m_VR (m_ab f d 0 n) (m_ab f d 0 n 4) (m_ab f d 0 n 5)) x (m_ab f d 0 n 0).toInt.toNat = m_lw (m_VR (m_ab f d 0 n) (f 4) (f 5)) x (f 0).toInt.toNat := by
  rw [m_ab_lo (p := 4) (by omega), m_ab_lo (p := 5) (by omega), m_ab_lo (p := 0) (by omega)]
def z_Pdc : yP := fun D av _ H v _ H' => ∀ (this bk : Nat) (w cs : Int32) (f : Nat → Int32), av = [.ref this, .int w, .int cs] → x_sl D 12 0 this H = some (.ref bk) → z_c f → y_A bk 160 H f → v = some (.int (m_prc f cs w))
theorem dcX_d0 : decode xM199.2.1 0 = .ok (.iconst 0, 1) := dz_ok (by decide +kernel)
theorem dcX_d1 : decode xM199.2.1 1 = .ok (.istore_n 3, 1) := dz_ok (by decide +kernel)
theorem dcX_d2 : decode xM199.2.1 2 = .ok (.iconst 0, 1) := dz_ok (by decide +kernel)
theorem dcX_d3 : decode xM199.2.1 3 = .ok (.istore 4, 2) := dz_ok (by decide +kernel)
theorem dcX_d5 : decode xM199.2.1 5 = .ok (.iload 4, 2) := dz_ok (by decide +kernel)
theorem dcX_d7 : decode xM199.2.1 7 = .ok (.aload_n 0, 1) := dz_ok (by decide +kernel)
theorem dcX_d8 : decode xM199.2.1 8 = .ok (.getfield 7, 3) := dz_ok (by decide +kernel)
theorem dcX_d11 : decode xM199.2.1 11 = .ok (.iconst 1, 1) := dz_ok (by decide +kernel)
theorem dcX_d12 : decode xM199.2.1 12 = .ok (.iaload, 1) := dz_ok (by decide +kernel)
theorem dcX_d13 : decode xM199.2.1 13 = .ok (.if_icmp .ge 35, 3) := dz_ok (by decide +kernel)
theorem dcX_d16 : decode xM199.2.1 16 = .ok (.iload_n 3, 1) := dz_ok (by decide +kernel)
theorem dcX_d17 : decode xM199.2.1 17 = .ok (.iload_n 1, 1) := dz_ok (by decide +kernel)
theorem dcX_d18 : decode xM199.2.1 18 = .ok (.iload 4, 2) := dz_ok (by decide +kernel)
theorem dcX_d20 : decode xM199.2.1 20 = .ok (.ishr, 1) := dz_ok (by decide +kernel)
theorem dcX_d21 : decode xM199.2.1 21 = .ok (.iconst 1, 1) := dz_ok (by decide +kernel)
theorem dcX_d22 : decode xM199.2.1 22 = .ok (.iand, 1) := dz_ok (by decide +kernel)
theorem dcX_d23 : decode xM199.2.1 23 = .ok (.iload_n 2, 1) := dz_ok (by decide +kernel)
theorem dcX_d24 : decode xM199.2.1 24 = .ok (.ifCond .eq 14, 3) := dz_ok (by decide +kernel)
theorem dcX_d27 : decode xM199.2.1 27 = .ok (.aload_n 0, 1) := dz_ok (by decide +kernel)
theorem dcX_d28 : decode xM199.2.1 28 = .ok (.iload 4, 2) := dz_ok (by decide +kernel)
theorem dcX_d30 : decode xM199.2.1 30 = .ok (.bipush 6, 2) := dz_ok (by decide +kernel)
theorem dcX_d32 : decode xM199.2.1 32 = .ok (.invokevirtual 123, 3) := dz_ok (by decide +kernel)
theorem dcX_d35 : decode xM199.2.1 35 = .ok (.goto 4, 3) := dz_ok (by decide +kernel)
theorem dcX_d38 : decode xM199.2.1 38 = .ok (.iconst 1, 1) := dz_ok (by decide +kernel)
theorem dcX_d39 : decode xM199.2.1 39 = .ok (.imul, 1) := dz_ok (by decide +kernel)
theorem dcX_d40 : decode xM199.2.1 40 = .ok (.iadd, 1) := dz_ok (by decide +kernel)
theorem dcX_d41 : decode xM199.2.1 41 = .ok (.istore_n 3, 1) := dz_ok (by decide +kernel)
theorem dcX_d42 : decode xM199.2.1 42 = .ok (.iinc 4 1, 3) := dz_ok (by decide +kernel)
theorem dcX_d45 : decode xM199.2.1 45 = .ok (.goto (-40), 3) := dz_ok (by decide +kernel)
theorem dcX_d48 : decode xM199.2.1 48 = .ok (.iload_n 3, 1) := dz_ok (by decide +kernel)
theorem dcX_d49 : decode xM199.2.1 49 = .ok (.ireturn, 1) := dz_ok (by decide +kernel)
theorem dcX_L5 {p : Program} {l : Launch} {e : Env} {s : State} {m : MethodId} {below : List Frame} {meth : Method} {c : Code} {D : va_G} {U : State} {Y0 : xY} {av : List Value} (B : y_B vwCl x_Tb x_Nb xM199 p s m meth c D U Y0 av) {this bk : Nat} {w cs : Int32} {fb : Nat → Int32} (hav : av = [.ref this, .int w, .int cs]) (hs0 : x_sl D 12 0 this s.heap = some (.ref bk)) (hA0 : y_A bk 160 s.heap fb) (hcn : z_c fb) (hd0 : 0 ≤ (fb 0).toInt ∧ (fb 0).toInt ≤ 10) (hd1 : 0 ≤ (fb 1).toInt ∧ (fb 1).toInt ≤ 8)  :
    ∀ (n : Nat), ∀ (H : Heap) (Y : xY) (locs : List Loc) (ls : Array Slot) (k : Int32) (al : Int32), x_I D x_G x_Zs U (x_efs xM199) Y0 s.heap Y H locs → Y this = some 17 → Y bk = some 46 → x_sl D 12 0 this H = some (.ref bk) → y_A bk 160 H fb → lv_has ls xM199.2.2.1 [(4, .int k), (3, .int al), (0, .ref this), (1, .int w), (2, .int cs)] → (0 ≤ k.toInt ∧ k.toInt ≤ (fb 1).toInt) → (al = m_prs fb cs w k.toInt.toNat) → (9 - k.toInt).toNat < n → W p l e (x_rm xM199) s m av.toArray below meth c H locs 0 0 (y_QQ below D x_G x_Zs U xM199 z_Pdc av Y0 s) (F0 m 5 ls []) := by
  have X := B.1
  have hx := X.1
  have hb := X.2.1
  have hY0 := B.2.2.2.2.1
  intro n
  induction n with
  | zero => intro _ _ _ _ _ _ _ _ _ _ _ _ _ _ h; exact absurd h (Nat.not_lt_zero _)
  | succ n ih =>
    intro H Y locs ls k al  hI hY_this hY_bk hs_bk hA_bk hl hk hal hn
    refine lv_iload hx hb dcX_d5 (lv_at hl 0 rfl) ?_
    refine lv_aload_n hx hb dcX_d7 rfl (lv_at hl 2 rfl) ?_
    refine y_getf X (fl190 X.2.2.2.2.1) hI.1 hY_this rfl hs_bk dcX_d8 ?_
    refine lv_iconst hx hb dcX_d11 (v := 1) (by decide) ?_
    have ec1 : (1 : Int32).toInt = 1 := by decide
    refine y_iald X hI.1 hY_bk rfl hA_bk (by omega) (by show _ < (160 : Int); omega) dcX_d12 ?_
    obtain ⟨e12, hg_e12⟩ : ∃ e12 : Int32, fb (1 : Int32).toInt.toNat = e12 := ⟨_, rfl⟩
    rw [hg_e12]
    rw [z_i1] at hg_e12
    have h_e12 : e12.toInt = (fb 1).toInt := by rw [← hg_e12]
    refine lv_icmp_ge hx hb dcX_d13 (tgt := 48) (by decide) (fun q13 => ?_) (fun q13 => ?_)
    · have q13_ : e12.toInt ≤ k.toInt := x_le32.mp q13
      refine lv_iload_n hx hb dcX_d48 rfl (lv_at hl 1 rfl) ?_
      subst hav
      exact y_ireturn B hI rfl rfl rfl List.mem_cons_self ⟨_, rfl, ⟨_, rfl, x_i32 _⟩⟩ (x_cs.mono B.2.2.2.2.2 (y_mon B hI)) (fun t' b' w0' w1' f' h1 h2 h3 h4 => by cases h1; cases h2.symm.trans hs0; cases z_uniq h4 hA0 h3 hcn; exact congrArg (fun x => some (Value.int x)) (by unfold m_prc; rw [hal, show k.toInt.toNat = (fb 1).toInt.toNat by omega])) (Nat.le_refl _) (Nat.le_refl _) dcX_d49
    · have q13_ : k.toInt < e12.toInt := Int.not_le.mp fun q => q13 (x_le32.mpr q)
      refine lv_iload_n hx hb dcX_d16 rfl (lv_at hl 1 rfl) ?_
      refine lv_iload_n hx hb dcX_d17 rfl (lv_at hl 3 rfl) ?_
      refine lv_iload hx hb dcX_d18 (lv_at hl 0 rfl) ?_
      refine lv_ishr hx hb dcX_d20 ?_
      generalize hg_z20 : w >>> (k &&& 31) = z20
      refine lv_iconst hx hb dcX_d21 (v := 1) (by decide) ?_
      refine lv_iand hx hb dcX_d22 ?_
      generalize hg_z22 : z20 &&& (1 : Int32) = z22
      refine lv_iload_n hx hb dcX_d23 rfl (lv_at hl 4 rfl) ?_
      have ec0 : (0 : Int32).toInt = 0 := by decide
      refine lv_if_eq hx hb dcX_d24 (tgt := 38) (by decide) (fun q24 => ?_) (fun q24 => ?_)
      · have q24_ : cs.toInt = (0 : Int32).toInt := by rw [q24]
        refine lv_iconst hx hb dcX_d38 (v := 1) (by decide) ?_
        refine lv_imul hx hb dcX_d39 ?_
        generalize hg_z39 : z22 * (1 : Int32) = z39
        refine lv_iadd hx hb dcX_d40 ?_
        generalize hg_z40 : al + z39 = z40
        refine lv_istore_n hx hb dcX_d41 rfl hl (by decide) (lv' := [(3, .int z40), (4, .int k), (0, .ref this), (1, .int w), (2, .int cs)]) rfl fun ls hl => ?_
        obtain ⟨z42, hg_z42⟩ : ∃ z42 : Int32, k + Int32.ofInt 1 = z42 := ⟨_, rfl⟩
        have h_z42 : z42.toInt = k.toInt + 1 := by rw [← hg_z42]; exact y_inc (by decide) (by omega) (by omega)
        refine lv_iinc hx hb dcX_d42 hl (k := 1) rfl hg_z42 (by decide) (lv' := [(4, .int z42), (3, .int z40), (0, .ref this), (1, .int w), (2, .int cs)]) rfl fun ls hl => ?_
        refine lv_goto hx hb dcX_d45 (tgt := 5) (by decide) ?_
        have his : z42.toInt.toNat = k.toInt.toNat + 1 := by omega
        have hnj := m_nj hk.1
        exact ih _ _ _ _ _ _ hI hY_this hY_bk hs_bk hA_bk (lv_sub hl [0, 1, 2, 3, 4] rfl) (by first | assumption | omega) (by
                          rw [his]
                          show _ = m_prs fb cs w k.toInt.toNat + _ * _
                          rw [hnj, ← hal, hg_z20, hg_z22]
                          first
                            | (rw [if_pos (show cs = 0 by assumption), hg_z39]; exact (Eq.symm hg_z40))
                            | (rw [if_neg (show ¬ cs = 0 by assumption), hg_r32, hg_z39]; exact (Eq.symm hg_z40))) (by omega)
      · have q24_ : ¬ cs.toInt = (0 : Int32).toInt := fun q => q24 (Int32.toInt_inj.mp q)
        refine lv_aload_n hx hb dcX_d27 rfl (lv_at hl 2 rfl) ?_
        refine lv_iload hx hb dcX_d28 (lv_at hl 0 rfl) ?_
        refine lv_bipush hx hb dcX_d30 (v := 6) (by decide) ?_
        have ec6 : (6 : Int32).toInt = 6 := by decide
        refine y_call (z := (0, 123, 3, some 17, xM163)) (av := [.ref this, .int k, .int (6 : Int32)]) (rest := [.int z22, .int al]) (y_cokV (n := 2) (ci := 12) X ym_ofThing rfl rfl rfl (x_cons (x_bw70 7 rfl rfl) (x_cons (x_bw70 9 rfl rfl) (x_cons (x_at 37 (by decide +kernel) rfl) (x_cons (x_bw0 9 rfl rfl) x_nilm)))) (x_bw70 10 rfl rfl) (by decide +kernel) ⟨Nat.le_of_ble_eq_true rfl, Nat.le_of_ble_eq_true rfl⟩) hY0 hI rfl dcX_d32 hl.1 (Nat.le_of_ble_eq_true rfl) (Nat.le_of_ble_eq_true rfl) (Nat.le_of_ble_eq_true rfl) (y_cons (y_cref hY_this rfl) (y_cons ⟨_, rfl, by show (0 : Int) ≤ _; omega, by show _ ≤ (7 : Int); omega⟩ (y_cons ⟨_, rfl, by show (0 : Int) ≤ _; omega, by show _ ≤ (6 : Int); omega⟩ y_nil))) rfl (y_recv rfl hY_this) trivial (y_sub_ef rfl) fun v Yn o Hn L ho hr ha hIn hx_ hE hP => ?_
        have hPo := hP _ _ _ _ _ rfl hs_bk hA_bk
        replace hs_bk := y_Efld hE hY_this rfl (by decide) (by decide) hs_bk
        replace hA_bk := hA_bk.kept (y_Earr hE hY_bk rfl (by decide))
        replace hY_this := y_ext hx_ hI.1 hY_this
        replace hY_bk := y_ext hx_ hI.1 hY_bk
        obtain ⟨r32, hg_r32⟩ : ∃ r32 : Int32, fb (60 + 7 * (k).toInt.toNat + ((6 : Int32)).toInt.toNat) = r32 := ⟨_, rfl⟩
        rw [hg_r32] at hPo
        obtain rfl := hPo
        clear ho hr ha hE hP hI hx_
        rename x_I _ _ _ _ _ _ _ _ _ _ => hI
        refine lv_goto hx hb dcX_d35 (tgt := 39) (by decide) ?_
        replace hg_r32 : fb (66 + 7 * k.toInt.toNat) = r32 := by rw [← hg_r32]; exact congrArg _ (by rw [show (6 : Int32).toInt.toNat = 6 by decide]; omega)
        refine lv_imul hx hb dcX_d39 ?_
        generalize hg_z39 : z22 * r32 = z39
        refine lv_iadd hx hb dcX_d40 ?_
        generalize hg_z40 : al + z39 = z40
        refine lv_istore_n hx hb dcX_d41 rfl hl (by decide) (lv' := [(3, .int z40), (4, .int k), (0, .ref this), (1, .int w), (2, .int cs)]) rfl fun ls hl => ?_
        obtain ⟨z42, hg_z42⟩ : ∃ z42 : Int32, k + Int32.ofInt 1 = z42 := ⟨_, rfl⟩
        have h_z42 : z42.toInt = k.toInt + 1 := by rw [← hg_z42]; exact y_inc (by decide) (by omega) (by omega)
        refine lv_iinc hx hb dcX_d42 hl (k := 1) rfl hg_z42 (by decide) (lv' := [(4, .int z42), (3, .int z40), (0, .ref this), (1, .int w), (2, .int cs)]) rfl fun ls hl => ?_
        refine lv_goto hx hb dcX_d45 (tgt := 5) (by decide) ?_
        have his : z42.toInt.toNat = k.toInt.toNat + 1 := by omega
        have hnj := m_nj hk.1
        exact ih _ _ _ _ _ _ hI hY_this hY_bk hs_bk hA_bk (lv_sub hl [0, 1, 2, 3, 4] rfl) (by first | assumption | omega) (by
                          rw [his]
                          show _ = m_prs fb cs w k.toInt.toNat + _ * _
                          rw [hnj, ← hal, hg_z20, hg_z22]
                          first
                            | (rw [if_pos (show cs = 0 by assumption), hg_z39]; exact (Eq.symm hg_z40))
                            | (rw [if_neg (show ¬ cs = 0 by assumption), hg_r32, hg_z39]; exact (Eq.symm hg_z40))) (by omega)
theorem ym_doneCost : y_Met vwCl x_G x_Zs x_Tb x_Nb xM199 y_T z_Pdc := by
  refine y_main (by decide +kernel) (by decide +kernel) x_Tb_good x_Nb_ok ?_
  intro p l e s m below meth c D U Y0 av ls B hI _ hl
  have X := B.1
  have hx := X.1
  have hb := X.2.1
  have hY0 := B.2.2.2.2.1
  obtain ⟨v0, v1, v2, rfl, hv0, ⟨w, rfl, -⟩, ⟨cs, rfl, hcs⟩⟩ := y_three B.2.2.2.2.2
  replace hcs : (0 : Int) ≤ cs.toInt ∧ cs.toInt ≤ 1 := hcs
  obtain ⟨this, t0, rfl, ht0, hY_this⟩ := x_ref_at hv0 rfl
  obtain rfl := List.mem_singleton.mp ht0
  replace hl : lv_has ls xM199.2.2.1 [(0, .ref this), (1, .int w), (2, .int cs)] := hl
  obtain ⟨bk, hs_bk, hY_bk⟩ := y_fldR (k := 0) hI.1 hY_this rfl rfl
  obtain ⟨fb9, hA9, hB9⟩ := y_arr hI.1 hY_bk rfl rfl
  obtain ⟨fb, hcn, hA_bk, hB_bk⟩ := z_canon (Y := Y0) (P := fun j v => x_c Y0 ([xI 0 10, xI 0 8, xI 0 8].getD j xF) (.int v)) hA9 hB9
  clear hA9 hB9 fb9
  have hs0 := hs_bk
  have hA0 := hA_bk
  have hd := z_hdr hB_bk
  have hd0 := hd.1
  have hd1 := hd.2.1
  refine lv_iconst hx hb dcX_d0 (v := 0) (by decide) ?_
  have ec0 : (0 : Int32).toInt = 0 := by decide
  refine lv_istore_n hx hb dcX_d1 rfl hl (by decide) (lv' := [(3, .int (0 : Int32)), (0, .ref this), (1, .int w), (2, .int cs)]) rfl fun ls hl => ?_
  refine lv_iconst hx hb dcX_d2 (v := 0) (by decide) ?_
  refine lv_istore hx hb dcX_d3 hl (by decide) (lv' := [(4, .int (0 : Int32)), (3, .int (0 : Int32)), (0, .ref this), (1, .int w), (2, .int cs)]) rfl fun ls hl => ?_
  exact dcX_L5 B rfl hs0 hA0 hcn hd0 hd1 10 _ _ _ _ _ _ hI hY_this hY_bk hs_bk hA_bk (lv_sub hl [0, 1, 2, 3, 4] rfl) (by first | assumption | omega) (by rw [z_i0]; rfl) (by omega)
def z_Pwk9 : yP := fun D av _ H v _ H' => ∀ (this bk : Nat) (x cs : Int32) (f : Nat → Int32), av = [.ref this, .int x, .int cs] → x_sl D 12 0 this H = some (.ref bk) → z_c f → y_A bk 160 H f → v = some (.int (m_wkB f cs (m_LWR f x))) ∧ y_A bk 160 H' f
theorem wkX_d0 : decode xM200.2.1 0 = .ok (.iconst 0, 1) := dz_ok (by decide +kernel)
theorem wkX_d1 : decode xM200.2.1 1 = .ok (.istore_n 3, 1) := dz_ok (by decide +kernel)
theorem wkX_d2 : decode xM200.2.1 2 = .ok (.iconst 0, 1) := dz_ok (by decide +kernel)
theorem wkX_d3 : decode xM200.2.1 3 = .ok (.istore 4, 2) := dz_ok (by decide +kernel)
theorem wkX_d5 : decode xM200.2.1 5 = .ok (.iload 4, 2) := dz_ok (by decide +kernel)
theorem wkX_d7 : decode xM200.2.1 7 = .ok (.aload_n 0, 1) := dz_ok (by decide +kernel)
theorem wkX_d8 : decode xM200.2.1 8 = .ok (.getfield 7, 3) := dz_ok (by decide +kernel)
theorem wkX_d11 : decode xM200.2.1 11 = .ok (.iconst 1, 1) := dz_ok (by decide +kernel)
theorem wkX_d12 : decode xM200.2.1 12 = .ok (.iaload, 1) := dz_ok (by decide +kernel)
theorem wkX_d13 : decode xM200.2.1 13 = .ok (.if_icmp .ge 40, 3) := dz_ok (by decide +kernel)
theorem wkX_d16 : decode xM200.2.1 16 = .ok (.iload_n 3, 1) := dz_ok (by decide +kernel)
theorem wkX_d17 : decode xM200.2.1 17 = .ok (.aload_n 0, 1) := dz_ok (by decide +kernel)
theorem wkX_d18 : decode xM200.2.1 18 = .ok (.iload 4, 2) := dz_ok (by decide +kernel)
theorem wkX_d20 : decode xM200.2.1 20 = .ok (.iconst 0, 1) := dz_ok (by decide +kernel)
theorem wkX_d21 : decode xM200.2.1 21 = .ok (.invokevirtual 123, 3) := dz_ok (by decide +kernel)
theorem wkX_d24 : decode xM200.2.1 24 = .ok (.ifCond .eq 20, 3) := dz_ok (by decide +kernel)
theorem wkX_d27 : decode xM200.2.1 27 = .ok (.aload_n 0, 1) := dz_ok (by decide +kernel)
theorem wkX_d28 : decode xM200.2.1 28 = .ok (.iload 4, 2) := dz_ok (by decide +kernel)
theorem wkX_d30 : decode xM200.2.1 30 = .ok (.iconst 5, 1) := dz_ok (by decide +kernel)
theorem wkX_d31 : decode xM200.2.1 31 = .ok (.invokevirtual 123, 3) := dz_ok (by decide +kernel)
theorem wkX_d34 : decode xM200.2.1 34 = .ok (.ifCond .ne 10, 3) := dz_ok (by decide +kernel)
theorem wkX_d37 : decode xM200.2.1 37 = .ok (.iconst 1, 1) := dz_ok (by decide +kernel)
theorem wkX_d38 : decode xM200.2.1 38 = .ok (.iload 4, 2) := dz_ok (by decide +kernel)
theorem wkX_d40 : decode xM200.2.1 40 = .ok (.ishl, 1) := dz_ok (by decide +kernel)
theorem wkX_d41 : decode xM200.2.1 41 = .ok (.goto 4, 3) := dz_ok (by decide +kernel)
theorem wkX_d44 : decode xM200.2.1 44 = .ok (.iconst 0, 1) := dz_ok (by decide +kernel)
theorem wkX_d45 : decode xM200.2.1 45 = .ok (.ior, 1) := dz_ok (by decide +kernel)
theorem wkX_d46 : decode xM200.2.1 46 = .ok (.istore_n 3, 1) := dz_ok (by decide +kernel)
theorem wkX_d47 : decode xM200.2.1 47 = .ok (.iinc 4 1, 3) := dz_ok (by decide +kernel)
theorem wkX_d50 : decode xM200.2.1 50 = .ok (.goto (-45), 3) := dz_ok (by decide +kernel)
theorem wkX_d53 : decode xM200.2.1 53 = .ok (.iconst (-1), 1) := dz_ok (by decide +kernel)
theorem wkX_d54 : decode xM200.2.1 54 = .ok (.istore 4, 2) := dz_ok (by decide +kernel)
theorem wkX_d56 : decode xM200.2.1 56 = .ok (.iconst 0, 1) := dz_ok (by decide +kernel)
theorem wkX_d57 : decode xM200.2.1 57 = .ok (.istore 5, 2) := dz_ok (by decide +kernel)
theorem wkX_d59 : decode xM200.2.1 59 = .ok (.iload 5, 2) := dz_ok (by decide +kernel)
theorem wkX_d61 : decode xM200.2.1 61 = .ok (.iload_n 3, 1) := dz_ok (by decide +kernel)
theorem wkX_d62 : decode xM200.2.1 62 = .ok (.if_icmp .gt 152, 3) := dz_ok (by decide +kernel)
theorem wkX_d65 : decode xM200.2.1 65 = .ok (.iload 5, 2) := dz_ok (by decide +kernel)
theorem wkX_d67 : decode xM200.2.1 67 = .ok (.iload_n 3, 1) := dz_ok (by decide +kernel)
theorem wkX_d68 : decode xM200.2.1 68 = .ok (.iconst (-1), 1) := dz_ok (by decide +kernel)
theorem wkX_d69 : decode xM200.2.1 69 = .ok (.ixor, 1) := dz_ok (by decide +kernel)
theorem wkX_d70 : decode xM200.2.1 70 = .ok (.iand, 1) := dz_ok (by decide +kernel)
theorem wkX_d71 : decode xM200.2.1 71 = .ok (.ifCond .ne 137, 3) := dz_ok (by decide +kernel)
theorem wkX_d74 : decode xM200.2.1 74 = .ok (.iload 4, 2) := dz_ok (by decide +kernel)
theorem wkX_d76 : decode xM200.2.1 76 = .ok (.iconst (-1), 1) := dz_ok (by decide +kernel)
theorem wkX_d77 : decode xM200.2.1 77 = .ok (.if_icmp .eq 20, 3) := dz_ok (by decide +kernel)
theorem wkX_d80 : decode xM200.2.1 80 = .ok (.aload_n 0, 1) := dz_ok (by decide +kernel)
theorem wkX_d81 : decode xM200.2.1 81 = .ok (.iload 5, 2) := dz_ok (by decide +kernel)
theorem wkX_d83 : decode xM200.2.1 83 = .ok (.iload_n 2, 1) := dz_ok (by decide +kernel)
theorem wkX_d84 : decode xM200.2.1 84 = .ok (.invokevirtual 250, 3) := dz_ok (by decide +kernel)
theorem wkX_d87 : decode xM200.2.1 87 = .ok (.aload_n 0, 1) := dz_ok (by decide +kernel)
theorem wkX_d88 : decode xM200.2.1 88 = .ok (.iload 4, 2) := dz_ok (by decide +kernel)
theorem wkX_d90 : decode xM200.2.1 90 = .ok (.iload_n 2, 1) := dz_ok (by decide +kernel)
theorem wkX_d91 : decode xM200.2.1 91 = .ok (.invokevirtual 250, 3) := dz_ok (by decide +kernel)
theorem wkX_d94 : decode xM200.2.1 94 = .ok (.if_icmp .ge 114, 3) := dz_ok (by decide +kernel)
theorem wkX_d97 : decode xM200.2.1 97 = .ok (.iconst 0, 1) := dz_ok (by decide +kernel)
theorem wkX_d98 : decode xM200.2.1 98 = .ok (.istore 6, 2) := dz_ok (by decide +kernel)
theorem wkX_d100 : decode xM200.2.1 100 = .ok (.iload 6, 2) := dz_ok (by decide +kernel)
theorem wkX_d102 : decode xM200.2.1 102 = .ok (.aload_n 0, 1) := dz_ok (by decide +kernel)
theorem wkX_d103 : decode xM200.2.1 103 = .ok (.getfield 7, 3) := dz_ok (by decide +kernel)
theorem wkX_d106 : decode xM200.2.1 106 = .ok (.iconst 1, 1) := dz_ok (by decide +kernel)
theorem wkX_d107 : decode xM200.2.1 107 = .ok (.iaload, 1) := dz_ok (by decide +kernel)
theorem wkX_d108 : decode xM200.2.1 108 = .ok (.if_icmp .ge 34, 3) := dz_ok (by decide +kernel)
theorem wkX_d111 : decode xM200.2.1 111 = .ok (.aload_n 0, 1) := dz_ok (by decide +kernel)
theorem wkX_d112 : decode xM200.2.1 112 = .ok (.getfield 7, 3) := dz_ok (by decide +kernel)
theorem wkX_d115 : decode xM200.2.1 115 = .ok (.bipush 60, 2) := dz_ok (by decide +kernel)
theorem wkX_d117 : decode xM200.2.1 117 = .ok (.bipush 7, 2) := dz_ok (by decide +kernel)
theorem wkX_d119 : decode xM200.2.1 119 = .ok (.iload 6, 2) := dz_ok (by decide +kernel)
theorem wkX_d121 : decode xM200.2.1 121 = .ok (.imul, 1) := dz_ok (by decide +kernel)
theorem wkX_d122 : decode xM200.2.1 122 = .ok (.iadd, 1) := dz_ok (by decide +kernel)
theorem wkX_d123 : decode xM200.2.1 123 = .ok (.iconst 5, 1) := dz_ok (by decide +kernel)
theorem wkX_d124 : decode xM200.2.1 124 = .ok (.iadd, 1) := dz_ok (by decide +kernel)
theorem wkX_d125 : decode xM200.2.1 125 = .ok (.dup2, 1) := dz_ok (by decide +kernel)
theorem wkX_d126 : decode xM200.2.1 126 = .ok (.iaload, 1) := dz_ok (by decide +kernel)
theorem wkX_d127 : decode xM200.2.1 127 = .ok (.iload 5, 2) := dz_ok (by decide +kernel)
theorem wkX_d129 : decode xM200.2.1 129 = .ok (.iload 6, 2) := dz_ok (by decide +kernel)
theorem wkX_d131 : decode xM200.2.1 131 = .ok (.ishr, 1) := dz_ok (by decide +kernel)
theorem wkX_d132 : decode xM200.2.1 132 = .ok (.iconst 1, 1) := dz_ok (by decide +kernel)
theorem wkX_d133 : decode xM200.2.1 133 = .ok (.iand, 1) := dz_ok (by decide +kernel)
theorem wkX_d134 : decode xM200.2.1 134 = .ok (.iadd, 1) := dz_ok (by decide +kernel)
theorem wkX_d135 : decode xM200.2.1 135 = .ok (.iastore, 1) := dz_ok (by decide +kernel)
theorem wkX_d136 : decode xM200.2.1 136 = .ok (.iinc 6 1, 3) := dz_ok (by decide +kernel)
theorem wkX_d139 : decode xM200.2.1 139 = .ok (.goto (-39), 3) := dz_ok (by decide +kernel)
theorem wkX_d142 : decode xM200.2.1 142 = .ok (.aload_n 0, 1) := dz_ok (by decide +kernel)
theorem wkX_d143 : decode xM200.2.1 143 = .ok (.invokevirtual 240, 3) := dz_ok (by decide +kernel)
theorem wkX_d146 : decode xM200.2.1 146 = .ok (.aload_n 0, 1) := dz_ok (by decide +kernel)
theorem wkX_d147 : decode xM200.2.1 147 = .ok (.iload_n 1, 1) := dz_ok (by decide +kernel)
theorem wkX_d148 : decode xM200.2.1 148 = .ok (.invokevirtual 243, 3) := dz_ok (by decide +kernel)
theorem wkX_d151 : decode xM200.2.1 151 = .ok (.ifCond .eq 8, 3) := dz_ok (by decide +kernel)
theorem wkX_d154 : decode xM200.2.1 154 = .ok (.iload 5, 2) := dz_ok (by decide +kernel)
theorem wkX_d156 : decode xM200.2.1 156 = .ok (.goto 5, 3) := dz_ok (by decide +kernel)
theorem wkX_d159 : decode xM200.2.1 159 = .ok (.iload 4, 2) := dz_ok (by decide +kernel)
theorem wkX_d161 : decode xM200.2.1 161 = .ok (.istore 4, 2) := dz_ok (by decide +kernel)
theorem wkX_d163 : decode xM200.2.1 163 = .ok (.iconst 0, 1) := dz_ok (by decide +kernel)
theorem wkX_d164 : decode xM200.2.1 164 = .ok (.istore 6, 2) := dz_ok (by decide +kernel)
theorem wkX_d166 : decode xM200.2.1 166 = .ok (.iload 6, 2) := dz_ok (by decide +kernel)
theorem wkX_d168 : decode xM200.2.1 168 = .ok (.aload_n 0, 1) := dz_ok (by decide +kernel)
theorem wkX_d169 : decode xM200.2.1 169 = .ok (.getfield 7, 3) := dz_ok (by decide +kernel)
theorem wkX_d172 : decode xM200.2.1 172 = .ok (.iconst 1, 1) := dz_ok (by decide +kernel)
theorem wkX_d173 : decode xM200.2.1 173 = .ok (.iaload, 1) := dz_ok (by decide +kernel)
theorem wkX_d174 : decode xM200.2.1 174 = .ok (.if_icmp .ge 34, 3) := dz_ok (by decide +kernel)
theorem wkX_d177 : decode xM200.2.1 177 = .ok (.aload_n 0, 1) := dz_ok (by decide +kernel)
theorem wkX_d178 : decode xM200.2.1 178 = .ok (.getfield 7, 3) := dz_ok (by decide +kernel)
theorem wkX_d181 : decode xM200.2.1 181 = .ok (.bipush 60, 2) := dz_ok (by decide +kernel)
theorem wkX_d183 : decode xM200.2.1 183 = .ok (.bipush 7, 2) := dz_ok (by decide +kernel)
theorem wkX_d185 : decode xM200.2.1 185 = .ok (.iload 6, 2) := dz_ok (by decide +kernel)
theorem wkX_d187 : decode xM200.2.1 187 = .ok (.imul, 1) := dz_ok (by decide +kernel)
theorem wkX_d188 : decode xM200.2.1 188 = .ok (.iadd, 1) := dz_ok (by decide +kernel)
theorem wkX_d189 : decode xM200.2.1 189 = .ok (.iconst 5, 1) := dz_ok (by decide +kernel)
theorem wkX_d190 : decode xM200.2.1 190 = .ok (.iadd, 1) := dz_ok (by decide +kernel)
theorem wkX_d191 : decode xM200.2.1 191 = .ok (.dup2, 1) := dz_ok (by decide +kernel)
theorem wkX_d192 : decode xM200.2.1 192 = .ok (.iaload, 1) := dz_ok (by decide +kernel)
theorem wkX_d193 : decode xM200.2.1 193 = .ok (.iload 5, 2) := dz_ok (by decide +kernel)
theorem wkX_d195 : decode xM200.2.1 195 = .ok (.iload 6, 2) := dz_ok (by decide +kernel)
theorem wkX_d197 : decode xM200.2.1 197 = .ok (.ishr, 1) := dz_ok (by decide +kernel)
theorem wkX_d198 : decode xM200.2.1 198 = .ok (.iconst 1, 1) := dz_ok (by decide +kernel)
theorem wkX_d199 : decode xM200.2.1 199 = .ok (.iand, 1) := dz_ok (by decide +kernel)
theorem wkX_d200 : decode xM200.2.1 200 = .ok (.isub, 1) := dz_ok (by decide +kernel)
theorem wkX_d201 : decode xM200.2.1 201 = .ok (.iastore, 1) := dz_ok (by decide +kernel)
theorem wkX_d202 : decode xM200.2.1 202 = .ok (.iinc 6 1, 3) := dz_ok (by decide +kernel)
theorem wkX_d205 : decode xM200.2.1 205 = .ok (.goto (-39), 3) := dz_ok (by decide +kernel)
theorem wkX_d208 : decode xM200.2.1 208 = .ok (.iinc 5 1, 3) := dz_ok (by decide +kernel)
theorem wkX_d211 : decode xM200.2.1 211 = .ok (.goto (-152), 3) := dz_ok (by decide +kernel)
theorem wkX_d214 : decode xM200.2.1 214 = .ok (.iload 4, 2) := dz_ok (by decide +kernel)
theorem wkX_d216 : decode xM200.2.1 216 = .ok (.ireturn, 1) := dz_ok (by decide +kernel)
theorem m_wkF_b {f : Nat → Int32} {cs : Int32} {LW : Nat → Bool} : ∀ k, k ≤ 256 → -1 ≤ (m_wkF f cs LW k).toInt ∧ (m_wkF f cs LW k).toInt ≤ 255
  | 0, _ => by
    show -1 ≤ (-1 : Int32).toInt ∧ (-1 : Int32).toInt ≤ 255
    rw [m_cm1]; omega
  | k + 1, h => by
    have ih := m_wkF_b (f := f) (cs := cs) (LW := LW) k (by omega)
    rw [m_wkF_s]
    unfold m_wkSt
    split
    · rw [nI_toInt (by omega)]; omega
    · exact ih
theorem m_wkB_b {f : Nat → Int32} {cs : Int32} {LW : Nat → Bool} (hn : 0 ≤ (f 1).toInt ∧ (f 1).toInt ≤ 8) : -1 ≤ (m_wkB f cs LW).toInt ∧ (m_wkB f cs LW).toInt ≤ 255 := by
  have := m_can_b hn
  exact m_wkF_b _ (by omega)
theorem wkX_L166 {p : Program} {l : Launch} {e : Env} {s : State} {m : MethodId} {below : List Frame} {meth : Method} {c : Code} {D : va_G} {U : State} {Y0 : xY} {av : List Value} (B : y_B vwCl x_Tb x_Nb xM200 p s m meth c D U Y0 av) {this bk se : Nat} {x cs : Int32} {fb : Nat → Int32} (hav : av = [.ref this, .int x, .int cs]) (hs0 : x_sl D 12 0 this s.heap = some (.ref bk)) (hA0 : y_A bk 160 s.heap fb) (hcn : z_c fb) (hd0 : 0 ≤ (fb 0).toInt ∧ (fb 0).toInt ≤ 10) (hd1 : 0 ≤ (fb 1).toInt ∧ (fb 1).toInt ≤ 8) (hcs : 0 ≤ cs.toInt ∧ cs.toInt ≤ 1) {dn best may : Int32} (hmay : may = m_can fb) (hdn : 0 ≤ dn.toInt ∧ dn.toInt ≤ may.toInt) (hb2 : best = m_wkF fb cs (m_LWR fb x) (dn.toInt.toNat + 1))
    (out59 : ∀ (H : Heap) (Y : xY) (locs : List Loc) (ls : Array Slot) (dn1 : Int32) (best1 : Int32) (may1 : Int32) (fz1 : Nat → Int32), x_I D x_G x_Zs U (x_efs xM200) Y0 s.heap Y H locs → Y this = some 17 → Y bk = some 46 → Y se = some 51 → x_sl D 12 0 this H = some (.ref bk) → x_sl D 12 8 this H = some (.ref se) → y_A bk 160 H fz1 → lv_has ls xM200.2.2.1 [(5, .int dn1), (4, .int best1), (3, .int may1), (0, .ref this), (1, .int x), (2, .int cs)] → (fz1 = fb) → (may1 = m_can fb) → (0 ≤ dn1.toInt ∧ dn1.toInt ≤ may1.toInt + 1) → (best1 = m_wkF fb cs (m_LWR fb x) dn1.toInt.toNat) → (dn1.toInt = dn.toInt + 1) → W p l e (x_rm xM200) s m av.toArray below meth c H locs 0 0 (y_QQ below D x_G x_Zs U xM200 z_Pwk9 av Y0 s) (F0 m 59 ls [])) :
    ∀ (n : Nat), ∀ (H : Heap) (Y : xY) (locs : List Loc) (ls : Array Slot) (tt : Int32) (fz : Nat → Int32), x_I D x_G x_Zs U (x_efs xM200) Y0 s.heap Y H locs → Y this = some 17 → Y bk = some 46 → Y se = some 51 → x_sl D 12 0 this H = some (.ref bk) → x_sl D 12 8 this H = some (.ref se) → y_A bk 160 H fz → lv_has ls xM200.2.2.1 [(6, .int tt), (5, .int dn), (4, .int best), (3, .int may), (0, .ref this), (1, .int x), (2, .int cs)] → (0 ≤ tt.toInt ∧ tt.toInt ≤ (fb 1).toInt) → (fz = m_ab fb dn tt.toInt.toNat (fb 1).toInt.toNat) → (9 - tt.toInt).toNat < n → W p l e (x_rm xM200) s m av.toArray below meth c H locs 0 0 (y_QQ below D x_G x_Zs U xM200 z_Pwk9 av Y0 s) (F0 m 166 ls []) := by
  have X := B.1
  have hx := X.1
  have hb := X.2.1
  have hY0 := B.2.2.2.2.1
  intro n
  induction n with
  | zero => intro _ _ _ _ _ _ _ _ _ _ _ _ _ _ _ _ h; exact absurd h (Nat.not_lt_zero _)
  | succ n ih =>
    intro H Y locs ls tt fz hI hY_this hY_bk hY_se hs_bk hs_se hA_bk hl ht hfz hn
    have hcb := m_can_b hd1
    rw [← hmay] at hcb
    refine lv_iload hx hb wkX_d166 (lv_at hl 0 rfl) ?_
    refine lv_aload_n hx hb wkX_d168 rfl (lv_at hl 4 rfl) ?_
    refine y_getf X (fl190 X.2.2.2.2.1) hI.1 hY_this rfl hs_bk wkX_d169 ?_
    refine lv_iconst hx hb wkX_d172 (v := 1) (by decide) ?_
    have ec1 : (1 : Int32).toInt = 1 := by decide
    refine y_iald X hI.1 hY_bk rfl hA_bk (by omega) (by show _ < (160 : Int); omega) wkX_d173 ?_
    obtain ⟨e173, hg_e173⟩ : ∃ e173 : Int32, fz (1 : Int32).toInt.toNat = e173 := ⟨_, rfl⟩
    rw [hg_e173]
    rw [z_i1] at hg_e173
    have h_e173 : e173.toInt = (fb 1).toInt := by rw [← hg_e173]; rw [hfz, m_ab_lo (by decide)]
    refine lv_icmp_ge hx hb wkX_d174 (tgt := 208) (by decide) (fun q174 => ?_) (fun q174 => ?_)
    · have q174_ : e173.toInt ≤ tt.toInt := x_le32.mp q174
      obtain ⟨z208, hg_z208⟩ : ∃ z208 : Int32, dn + Int32.ofInt 1 = z208 := ⟨_, rfl⟩
      have h_z208 : z208.toInt = dn.toInt + 1 := by rw [← hg_z208]; exact y_inc (by decide) (by omega) (by omega)
      refine lv_iinc hx hb wkX_d208 hl (k := 1) rfl hg_z208 (by decide) (lv' := [(5, .int z208), (6, .int tt), (4, .int best), (3, .int may), (0, .ref this), (1, .int x), (2, .int cs)]) rfl fun ls hl => ?_
      refine lv_goto hx hb wkX_d211 (tgt := 59) (by decide) ?_
      have hds : z208.toInt.toNat = dn.toInt.toNat + 1 := by omega
      exact out59 _ _ _ _ _ _ _ _ hI hY_this hY_bk hY_se hs_bk hs_se hA_bk (lv_sub hl [0, 2, 3, 4, 5, 6] rfl) (by rw [hfz, show tt.toInt.toNat = (fb 1).toInt.toNat by omega]; exact m_ab0) hmay ⟨by omega, by omega⟩ (by rw [hds]; exact hb2) (by omega)
    · have q174_ : tt.toInt < e173.toInt := Int.not_le.mp fun q => q174 (x_le32.mpr q)
      refine lv_aload_n hx hb wkX_d177 rfl (lv_at hl 4 rfl) ?_
      refine y_getf X (fl190 X.2.2.2.2.1) hI.1 hY_this rfl hs_bk wkX_d178 ?_
      refine lv_bipush hx hb wkX_d181 (v := 60) (by decide) ?_
      have ec60 : (60 : Int32).toInt = 60 := by decide
      refine lv_bipush hx hb wkX_d183 (v := 7) (by decide) ?_
      have ec7 : (7 : Int32).toInt = 7 := by decide
      refine lv_iload hx hb wkX_d185 (lv_at hl 0 rfl) ?_
      refine lv_imul hx hb wkX_d187 ?_
      generalize hg_z187 : (7 : Int32) * tt = z187
      have h_z187 : z187.toInt = 7 * tt.toInt := by rw [← hg_z187]; have := y_mul (x := (7 : Int32)) (y := tt) (by rw [ec7]; omega) (by rw [ec7]; omega); rw [ec7] at this; exact this
      refine lv_iadd hx hb wkX_d188 ?_
      generalize hg_z188 : (60 : Int32) + z187 = z188
      have h_z188 : z188.toInt = 60 + z187.toInt := by rw [← hg_z188]; have := y_add (x := (60 : Int32)) (y := z187) (by rw [ec60]; omega) (by rw [ec60]; omega); rw [ec60] at this; exact this
      refine lv_iconst hx hb wkX_d189 (v := 5) (by decide) ?_
      have ec5 : (5 : Int32).toInt = 5 := by decide
      refine lv_iadd hx hb wkX_d190 ?_
      generalize hg_z190 : z188 + (5 : Int32) = z190
      have h_z190 : z190.toInt = z188.toInt + 5 := by rw [← hg_z190]; have := y_add (x := z188) (y := (5 : Int32)) (by rw [ec5]; omega) (by rw [ec5]; omega); rw [ec5] at this; exact this
      refine lv_dup2_11 hx hb wkX_d191 rfl rfl ?_
      refine y_iald X hI.1 hY_bk rfl hA_bk (by omega) (by show _ < (160 : Int); omega) wkX_d192 ?_
      obtain ⟨e192, hg_e192⟩ : ∃ e192 : Int32, fz z190.toInt.toNat = e192 := ⟨_, rfl⟩
      rw [hg_e192]
      refine lv_iload hx hb wkX_d193 (lv_at hl 1 rfl) ?_
      refine lv_iload hx hb wkX_d195 (lv_at hl 0 rfl) ?_
      refine lv_ishr hx hb wkX_d197 ?_
      generalize hg_z197 : dn >>> (tt &&& 31) = z197
      refine lv_iconst hx hb wkX_d198 (v := 1) (by decide) ?_
      refine lv_iand hx hb wkX_d199 ?_
      generalize hg_z199 : z197 &&& (1 : Int32) = z199
      refine lv_isub hx hb wkX_d200 ?_
      generalize hg_z200 : e192 - z199 = z200
      refine y_iast X hY0 hI hY_bk rfl hA_bk (by omega) (by show _ < (160 : Int); omega) (by rw [z_get3 (by omega)]; exact ⟨_, rfl, x_i32 _⟩) (by decide +kernel) wkX_d201 fun H locs hI h_new ho => ?_
      replace hA_bk := h_new
      generalize hf_f201 : y_up fz z190.toInt.toNat z200 = f201 at hA_bk
      replace hs_bk := y_slk hs_bk (ho _ (y_ne hY_this hY_bk rfl))
      replace hs_se := y_slk hs_se (ho _ (y_ne hY_this hY_bk rfl))
      obtain ⟨z202, hg_z202⟩ : ∃ z202 : Int32, tt + Int32.ofInt 1 = z202 := ⟨_, rfl⟩
      have h_z202 : z202.toInt = tt.toInt + 1 := by rw [← hg_z202]; exact y_inc (by decide) (by omega) (by omega)
      refine lv_iinc hx hb wkX_d202 hl (k := 0) rfl hg_z202 (by decide) (lv' := [(6, .int z202), (5, .int dn), (4, .int best), (3, .int may), (0, .ref this), (1, .int x), (2, .int cs)]) rfl fun ls hl => ?_
      refine lv_goto hx hb wkX_d205 (tgt := 166) (by decide) ?_
      have hz9 : z190.toInt.toNat = 65 + 7 * tt.toInt.toNat := by omega
      exact ih _ _ _ _ _ _ hI hY_this hY_bk hY_se hs_bk hs_se hA_bk (lv_sub hl [0, 1, 2, 3, 4, 5, 6] rfl) (by first | assumption | omega) (by rw [show z202.toInt.toNat = tt.toInt.toNat + 1 by omega, ← m_abD (by omega) (by omega), ← hf_f201, ← hg_z200, ← hg_z199, ← hg_z197, ← hg_e192, hz9, hfz]) (by omega)
theorem wkX_L100 {p : Program} {l : Launch} {e : Env} {s : State} {m : MethodId} {below : List Frame} {meth : Method} {c : Code} {D : va_G} {U : State} {Y0 : xY} {av : List Value} (B : y_B vwCl x_Tb x_Nb xM200 p s m meth c D U Y0 av) {this bk se : Nat} {x cs : Int32} {fb : Nat → Int32} (hav : av = [.ref this, .int x, .int cs]) (hs0 : x_sl D 12 0 this s.heap = some (.ref bk)) (hA0 : y_A bk 160 s.heap fb) (hcn : z_c fb) (hd0 : 0 ≤ (fb 0).toInt ∧ (fb 0).toInt ≤ 10) (hd1 : 0 ≤ (fb 1).toInt ∧ (fb 1).toInt ≤ 8) (hcs : 0 ≤ cs.toInt ∧ cs.toInt ≤ 1) {dn best may : Int32} (hmay : may = m_can fb) (hdn : 0 ≤ dn.toInt ∧ dn.toInt ≤ may.toInt) (hbst : best = m_wkF fb cs (m_LWR fb x) dn.toInt.toNat) (hcd : nI dn.toInt.toNat &&& (m_can fb ^^^ -1) = 0) (hcb2 : best = -1 ∨ (m_prc fb cs dn).toInt < (m_prc fb cs best).toInt)
    (out59 : ∀ (H : Heap) (Y : xY) (locs : List Loc) (ls : Array Slot) (dn1 : Int32) (best1 : Int32) (may1 : Int32) (fz1 : Nat → Int32), x_I D x_G x_Zs U (x_efs xM200) Y0 s.heap Y H locs → Y this = some 17 → Y bk = some 46 → Y se = some 51 → x_sl D 12 0 this H = some (.ref bk) → x_sl D 12 8 this H = some (.ref se) → y_A bk 160 H fz1 → lv_has ls xM200.2.2.1 [(5, .int dn1), (4, .int best1), (3, .int may1), (0, .ref this), (1, .int x), (2, .int cs)] → (fz1 = fb) → (may1 = m_can fb) → (0 ≤ dn1.toInt ∧ dn1.toInt ≤ may1.toInt + 1) → (best1 = m_wkF fb cs (m_LWR fb x) dn1.toInt.toNat) → (dn1.toInt = dn.toInt + 1) → W p l e (x_rm xM200) s m av.toArray below meth c H locs 0 0 (y_QQ below D x_G x_Zs U xM200 z_Pwk9 av Y0 s) (F0 m 59 ls [])) :
    ∀ (n : Nat), ∀ (H : Heap) (Y : xY) (locs : List Loc) (ls : Array Slot) (tt : Int32) (fz : Nat → Int32), x_I D x_G x_Zs U (x_efs xM200) Y0 s.heap Y H locs → Y this = some 17 → Y bk = some 46 → Y se = some 51 → x_sl D 12 0 this H = some (.ref bk) → x_sl D 12 8 this H = some (.ref se) → y_A bk 160 H fz → lv_has ls xM200.2.2.1 [(6, .int tt), (5, .int dn), (4, .int best), (3, .int may), (0, .ref this), (1, .int x), (2, .int cs)] → (0 ≤ tt.toInt ∧ tt.toInt ≤ (fb 1).toInt) → (fz = m_ab fb dn 0 tt.toInt.toNat) → (9 - tt.toInt).toNat < n → W p l e (x_rm xM200) s m av.toArray below meth c H locs 0 0 (y_QQ below D x_G x_Zs U xM200 z_Pwk9 av Y0 s) (F0 m 100 ls []) := by
  have X := B.1
  have hx := X.1
  have hb := X.2.1
  have hY0 := B.2.2.2.2.1
  intro n
  induction n with
  | zero => intro _ _ _ _ _ _ _ _ _ _ _ _ _ _ _ _ h; exact absurd h (Nat.not_lt_zero _)
  | succ n ih =>
    intro H Y locs ls tt fz hI hY_this hY_bk hY_se hs_bk hs_se hA_bk hl ht hfz hn
    have hcb := m_can_b hd1
    rw [← hmay] at hcb
    refine lv_iload hx hb wkX_d100 (lv_at hl 0 rfl) ?_
    refine lv_aload_n hx hb wkX_d102 rfl (lv_at hl 4 rfl) ?_
    refine y_getf X (fl190 X.2.2.2.2.1) hI.1 hY_this rfl hs_bk wkX_d103 ?_
    refine lv_iconst hx hb wkX_d106 (v := 1) (by decide) ?_
    have ec1 : (1 : Int32).toInt = 1 := by decide
    refine y_iald X hI.1 hY_bk rfl hA_bk (by omega) (by show _ < (160 : Int); omega) wkX_d107 ?_
    obtain ⟨e107, hg_e107⟩ : ∃ e107 : Int32, fz (1 : Int32).toInt.toNat = e107 := ⟨_, rfl⟩
    rw [hg_e107]
    rw [z_i1] at hg_e107
    have h_e107 : e107.toInt = (fb 1).toInt := by rw [← hg_e107]; rw [hfz, m_ab_lo (by decide)]
    refine lv_icmp_ge hx hb wkX_d108 (tgt := 142) (by decide) (fun q108 => ?_) (fun q108 => ?_)
    · have q108_ : e107.toInt ≤ tt.toInt := x_le32.mp q108
      have ht9 : tt.toInt = (fb 1).toInt := by omega
      have hfz9 : fz = m_ab fb dn 0 (fb 1).toInt.toNat := by rw [hfz, show tt.toInt.toNat = (fb 1).toInt.toNat by omega]
      refine lv_aload_n hx hb wkX_d142 rfl (lv_at hl 4 rfl) ?_
      refine y_call (z := (0, 240, 1, some 17, xM186)) (av := [.ref this]) (rest := []) (y_cokV (n := 0) (ci := 12) X ym_looksNow rfl rfl rfl (x_cons (x_bw77 8 rfl rfl) (x_cons (x_bw77 10 rfl rfl) (x_cons (x_at 50 (by decide +kernel) rfl) (x_cons (x_bw0 9 rfl rfl) x_nilm)))) (x_bw77 11 rfl rfl) (by decide +kernel) ⟨Nat.le_of_ble_eq_true rfl, Nat.le_of_ble_eq_true rfl⟩) hY0 hI rfl wkX_d143 hl.1 (Nat.le_of_ble_eq_true rfl) (Nat.le_of_ble_eq_true rfl) (Nat.le_of_ble_eq_true rfl) (y_cons (y_cref hY_this rfl) y_nil) rfl (y_recv rfl hY_this) trivial (y_sub_ef rfl) fun v Yn o Hn L ho hr ha hIn hx_ hE hP => ?_
      have hcz : z_c fz := by rw [hfz9]; exact m_ab_c hcn (by omega)
      have hz0 : (fz 0).toInt = (fb 0).toInt := by rw [hfz9, m_ab_lo (p := 0) (by omega)]
      have hPs := hP _ _ _ rfl hs_bk hcz hA_bk _ hs_se
      replace hs_bk := y_Efld hE hY_this rfl (by decide) (by decide) hs_bk
      replace hs_se := y_Efld hE hY_this rfl (by decide) (by decide) hs_se
      replace hA_bk := hA_bk.kept (y_Earr hE hY_bk rfl (by decide))
      replace hY_this := y_ext hx_ hI.1 hY_this
      replace hY_bk := y_ext hx_ hI.1 hY_bk
      replace hY_se := y_ext hx_ hI.1 hY_se
      obtain rfl := y_ansV rfl ho hr
      obtain ⟨fs, hA_se, -⟩ := y_arr hIn.1 hY_se rfl rfl
      have hVs : ∀ i, i < (fz 0).toInt.toNat → fs i = m_VR fz (fz 4) (fz 5) i := fun i hi => z_intI (hA_se i (by omega)) (hPs i hi)
      clear ho hr ha hE hP hI hx_
      rename x_I _ _ _ _ _ _ _ _ _ _ => hI
      refine lv_aload_n hx hb wkX_d146 rfl (lv_at hl 4 rfl) ?_
      refine lv_iload_n hx hb wkX_d147 rfl (lv_at hl 5 rfl) ?_
      refine y_call (z := (0, 243, 2, some 17, xM191)) (av := [.ref this, .int x]) (rest := []) (y_cokV (n := 1) (ci := 12) X ym_isLawfulX rfl rfl rfl (x_cons (x_bw78 11 rfl rfl) (x_cons (x_bw78 13 rfl rfl) (x_cons (x_at 52 (by decide +kernel) rfl) (x_cons (x_bw0 9 rfl rfl) x_nilm)))) (x_bw78 14 rfl rfl) (by decide +kernel) ⟨Nat.le_of_ble_eq_true rfl, Nat.le_of_ble_eq_true rfl⟩) hY0 hI rfl wkX_d148 hl.1 (Nat.le_of_ble_eq_true rfl) (Nat.le_of_ble_eq_true rfl) (Nat.le_of_ble_eq_true rfl) (y_cons (y_cref hY_this rfl) (y_cons ⟨_, rfl, x_i32 _⟩ y_nil)) rfl (y_recv rfl hY_this) trivial (y_sub_ef rfl) fun v Yn o Hn L ho hr ha hIn hx_ hE hP => ?_
      have hPs := hP _ _ _ _ rfl hs_bk hcz hA_bk _ (m_VR fz (fz 4) (fz 5)) hs_se (fun i hi => by rw [hA_se i (by omega), hVs i hi])
      obtain rfl := hPs
      replace hs_bk := y_Efld hE hY_this rfl (by decide) (by decide) hs_bk
      replace hs_se := y_Efld hE hY_this rfl (by decide) (by decide) hs_se
      replace hA_bk := hA_bk.kept (y_Earr hE hY_bk rfl (by decide))
      replace hA_se := hA_se.kept (y_Earr hE hY_se rfl (by decide))
      replace hY_this := y_ext hx_ hI.1 hY_this
      replace hY_bk := y_ext hx_ hI.1 hY_bk
      replace hY_se := y_ext hx_ hI.1 hY_se
      generalize hg_r148 : m_b (m_lw (m_VR fz (fz 4) (fz 5)) x (fz 0).toInt.toNat) = r148
      have hlw9 : m_b (m_LWR fb x dn.toInt.toNat) = r148 := by rw [← hg_r148, hfz9, m_LWRz]; unfold m_LWR; rw [m_nj hdn.1]
      clear ho hr ha hE hP hI hx_
      rename x_I _ _ _ _ _ _ _ _ _ _ => hI
      have ec0 : (0 : Int32).toInt = 0 := by decide
      refine lv_if_eq hx hb wkX_d151 (tgt := 159) (by decide) (fun q151 => ?_) (fun q151 => ?_)
      · have q151_ : r148.toInt = (0 : Int32).toInt := by rw [q151]
        refine lv_iload hx hb wkX_d159 (lv_at hl 2 rfl) ?_
        refine lv_istore hx hb wkX_d161 hl (by decide) (lv' := [(4, .int best), (6, .int tt), (5, .int dn), (3, .int may), (0, .ref this), (1, .int x), (2, .int cs)]) rfl fun ls hl => ?_
        refine lv_iconst hx hb wkX_d163 (v := 0) (by decide) ?_
        refine lv_istore hx hb wkX_d164 hl (by decide) (lv' := [(6, .int (0 : Int32)), (4, .int best), (5, .int dn), (3, .int may), (0, .ref this), (1, .int x), (2, .int cs)]) rfl fun ls hl => ?_
        have hst9 : m_wkF fb cs (m_LWR fb x) (dn.toInt.toNat + 1) = best := by
          rw [m_wkF_s, ← hbst]
          unfold m_wkSt
          have hnd := m_nj hdn.1
          have hcd2 := hcd
          rw [hnd] at hcd2 ⊢
          exact if_neg (fun h9 => by rw [m_b0 (Eq.trans hlw9 (by assumption))] at h9; exact absurd h9.2.2 (by decide))
        exact wkX_L166 B hav hs0 hA0 hcn hd0 hd1 hcs hmay hdn hst9.symm (fun H Y locs ls dn1 best1 may1 fz1 hI hY_this hY_bk hY_se hs_bk hs_se hA_bk hl hfz hmay hdn hbst hi1 => out59 _ _ _ _ _ _ _ _ hI hY_this hY_bk hY_se hs_bk hs_se hA_bk hl hfz hmay hdn hbst hi1) 10 _ _ _ _ _ _ hI hY_this hY_bk hY_se hs_bk hs_se hA_bk (lv_sub hl [0, 2, 1, 3, 4, 5, 6] rfl) (by omega) (by rw [hfz9]; congr 1) (by omega)
      · have q151_ : ¬ r148.toInt = (0 : Int32).toInt := fun q => q151 (Int32.toInt_inj.mp q)
        refine lv_iload hx hb wkX_d154 (lv_at hl 1 rfl) ?_
        refine lv_goto hx hb wkX_d156 (tgt := 161) (by decide) ?_
        refine lv_istore hx hb wkX_d161 hl (by decide) (lv' := [(4, .int dn), (6, .int tt), (5, .int dn), (3, .int may), (0, .ref this), (1, .int x), (2, .int cs)]) rfl fun ls hl => ?_
        refine lv_iconst hx hb wkX_d163 (v := 0) (by decide) ?_
        refine lv_istore hx hb wkX_d164 hl (by decide) (lv' := [(6, .int (0 : Int32)), (4, .int dn), (5, .int dn), (3, .int may), (0, .ref this), (1, .int x), (2, .int cs)]) rfl fun ls hl => ?_
        have hst9 : m_wkF fb cs (m_LWR fb x) (dn.toInt.toNat + 1) = dn := by
          rw [m_wkF_s, ← hbst]
          unfold m_wkSt
          have hnd := m_nj hdn.1
          have hcd2 := hcd
          rw [hnd] at hcd2 ⊢
          exact if_pos ⟨hcd2, hcb2, m_bn (fun q => absurd (Eq.trans (Eq.symm hlw9) q) (by assumption))⟩
        exact wkX_L166 B hav hs0 hA0 hcn hd0 hd1 hcs hmay hdn hst9.symm (fun H Y locs ls dn1 best1 may1 fz1 hI hY_this hY_bk hY_se hs_bk hs_se hA_bk hl hfz hmay hdn hbst hi1 => out59 _ _ _ _ _ _ _ _ hI hY_this hY_bk hY_se hs_bk hs_se hA_bk hl hfz hmay hdn hbst hi1) 10 _ _ _ _ _ _ hI hY_this hY_bk hY_se hs_bk hs_se hA_bk (lv_sub hl [0, 2, 1, 3, 4, 5, 6] rfl) (by omega) (by rw [hfz9]; congr 1) (by omega)
    · have q108_ : tt.toInt < e107.toInt := Int.not_le.mp fun q => q108 (x_le32.mpr q)
      refine lv_aload_n hx hb wkX_d111 rfl (lv_at hl 4 rfl) ?_
      refine y_getf X (fl190 X.2.2.2.2.1) hI.1 hY_this rfl hs_bk wkX_d112 ?_
      refine lv_bipush hx hb wkX_d115 (v := 60) (by decide) ?_
      have ec60 : (60 : Int32).toInt = 60 := by decide
      refine lv_bipush hx hb wkX_d117 (v := 7) (by decide) ?_
      have ec7 : (7 : Int32).toInt = 7 := by decide
      refine lv_iload hx hb wkX_d119 (lv_at hl 0 rfl) ?_
      refine lv_imul hx hb wkX_d121 ?_
      generalize hg_z121 : (7 : Int32) * tt = z121
      have h_z121 : z121.toInt = 7 * tt.toInt := by rw [← hg_z121]; have := y_mul (x := (7 : Int32)) (y := tt) (by rw [ec7]; omega) (by rw [ec7]; omega); rw [ec7] at this; exact this
      refine lv_iadd hx hb wkX_d122 ?_
      generalize hg_z122 : (60 : Int32) + z121 = z122
      have h_z122 : z122.toInt = 60 + z121.toInt := by rw [← hg_z122]; have := y_add (x := (60 : Int32)) (y := z121) (by rw [ec60]; omega) (by rw [ec60]; omega); rw [ec60] at this; exact this
      refine lv_iconst hx hb wkX_d123 (v := 5) (by decide) ?_
      have ec5 : (5 : Int32).toInt = 5 := by decide
      refine lv_iadd hx hb wkX_d124 ?_
      generalize hg_z124 : z122 + (5 : Int32) = z124
      have h_z124 : z124.toInt = z122.toInt + 5 := by rw [← hg_z124]; have := y_add (x := z122) (y := (5 : Int32)) (by rw [ec5]; omega) (by rw [ec5]; omega); rw [ec5] at this; exact this
      refine lv_dup2_11 hx hb wkX_d125 rfl rfl ?_
      refine y_iald X hI.1 hY_bk rfl hA_bk (by omega) (by show _ < (160 : Int); omega) wkX_d126 ?_
      obtain ⟨e126, hg_e126⟩ : ∃ e126 : Int32, fz z124.toInt.toNat = e126 := ⟨_, rfl⟩
      rw [hg_e126]
      refine lv_iload hx hb wkX_d127 (lv_at hl 1 rfl) ?_
      refine lv_iload hx hb wkX_d129 (lv_at hl 0 rfl) ?_
      refine lv_ishr hx hb wkX_d131 ?_
      generalize hg_z131 : dn >>> (tt &&& 31) = z131
      refine lv_iconst hx hb wkX_d132 (v := 1) (by decide) ?_
      refine lv_iand hx hb wkX_d133 ?_
      generalize hg_z133 : z131 &&& (1 : Int32) = z133
      refine lv_iadd hx hb wkX_d134 ?_
      generalize hg_z134 : e126 + z133 = z134
      refine y_iast X hY0 hI hY_bk rfl hA_bk (by omega) (by show _ < (160 : Int); omega) (by rw [z_get3 (by omega)]; exact ⟨_, rfl, x_i32 _⟩) (by decide +kernel) wkX_d135 fun H locs hI h_new ho => ?_
      replace hA_bk := h_new
      generalize hf_f135 : y_up fz z124.toInt.toNat z134 = f135 at hA_bk
      replace hs_bk := y_slk hs_bk (ho _ (y_ne hY_this hY_bk rfl))
      replace hs_se := y_slk hs_se (ho _ (y_ne hY_this hY_bk rfl))
      obtain ⟨z136, hg_z136⟩ : ∃ z136 : Int32, tt + Int32.ofInt 1 = z136 := ⟨_, rfl⟩
      have h_z136 : z136.toInt = tt.toInt + 1 := by rw [← hg_z136]; exact y_inc (by decide) (by omega) (by omega)
      refine lv_iinc hx hb wkX_d136 hl (k := 0) rfl hg_z136 (by decide) (lv' := [(6, .int z136), (5, .int dn), (4, .int best), (3, .int may), (0, .ref this), (1, .int x), (2, .int cs)]) rfl fun ls hl => ?_
      refine lv_goto hx hb wkX_d139 (tgt := 100) (by decide) ?_
      have hz9 : z124.toInt.toNat = 65 + 7 * tt.toInt.toNat := by omega
      exact ih _ _ _ _ _ _ hI hY_this hY_bk hY_se hs_bk hs_se hA_bk (lv_sub hl [0, 1, 2, 3, 4, 5, 6] rfl) (by first | assumption | omega) (by rw [show z136.toInt.toNat = tt.toInt.toNat + 1 by omega, ← m_abU (by omega), ← hf_f135, ← hg_z134, ← hg_z133, ← hg_z131, ← hg_e126, hz9, hfz]) (by omega)
theorem wkX_L59 {p : Program} {l : Launch} {e : Env} {s : State} {m : MethodId} {below : List Frame} {meth : Method} {c : Code} {D : va_G} {U : State} {Y0 : xY} {av : List Value} (B : y_B vwCl x_Tb x_Nb xM200 p s m meth c D U Y0 av) {this bk se : Nat} {x cs : Int32} {fb : Nat → Int32} (hav : av = [.ref this, .int x, .int cs]) (hs0 : x_sl D 12 0 this s.heap = some (.ref bk)) (hA0 : y_A bk 160 s.heap fb) (hcn : z_c fb) (hd0 : 0 ≤ (fb 0).toInt ∧ (fb 0).toInt ≤ 10) (hd1 : 0 ≤ (fb 1).toInt ∧ (fb 1).toInt ≤ 8) (hcs : 0 ≤ cs.toInt ∧ cs.toInt ≤ 1)  :
    ∀ (n : Nat), ∀ (H : Heap) (Y : xY) (locs : List Loc) (ls : Array Slot) (dn : Int32) (best : Int32) (may : Int32) (fz : Nat → Int32), x_I D x_G x_Zs U (x_efs xM200) Y0 s.heap Y H locs → Y this = some 17 → Y bk = some 46 → Y se = some 51 → x_sl D 12 0 this H = some (.ref bk) → x_sl D 12 8 this H = some (.ref se) → y_A bk 160 H fz → lv_has ls xM200.2.2.1 [(5, .int dn), (4, .int best), (3, .int may), (0, .ref this), (1, .int x), (2, .int cs)] → (fz = fb) → (may = m_can fb) → (0 ≤ dn.toInt ∧ dn.toInt ≤ may.toInt + 1) → (best = m_wkF fb cs (m_LWR fb x) dn.toInt.toNat) → (257 - dn.toInt).toNat < n → W p l e (x_rm xM200) s m av.toArray below meth c H locs 0 0 (y_QQ below D x_G x_Zs U xM200 z_Pwk9 av Y0 s) (F0 m 59 ls []) := by
  have X := B.1
  have hx := X.1
  have hb := X.2.1
  have hY0 := B.2.2.2.2.1
  intro n
  induction n with
  | zero => intro _ _ _ _ _ _ _ _ _ _ _ _ _ _ _ _ _ _ _ _ h; exact absurd h (Nat.not_lt_zero _)
  | succ n ih =>
    intro H Y locs ls dn best may fz hI hY_this hY_bk hY_se hs_bk hs_se hA_bk hl hfz hmay hdn hbst hn
    have hcb := m_can_b hd1
    rw [← hmay] at hcb
    refine lv_iload hx hb wkX_d59 (lv_at hl 0 rfl) ?_
    refine lv_iload_n hx hb wkX_d61 rfl (lv_at hl 2 rfl) ?_
    refine lv_icmp_gt hx hb wkX_d62 (tgt := 214) (by decide) (fun q62 => ?_) (fun q62 => ?_)
    · have q62_ : may.toInt < dn.toInt := x_lt32.mp q62
      refine lv_iload hx hb wkX_d214 (lv_at hl 1 rfl) ?_
      have hB9 : best = m_wkB fb cs (m_LWR fb x) := by unfold m_wkB; rw [hbst, ← hmay]; congr 1; omega
      have hrg : -1 ≤ best.toInt ∧ best.toInt ≤ 255 := by rw [hB9]; exact m_wkB_b hd1
      subst hav
      subst hfz
      exact y_ireturn B hI rfl rfl rfl List.mem_cons_self ⟨_, rfl, ⟨_, rfl, by show (-1 : Int) ≤ _; omega, by show _ ≤ (255 : Int); omega⟩⟩ (x_cs.mono B.2.2.2.2.2 (y_mon B hI)) (fun t' b' w0' w1' f' h1 h2 h3 h4 => by cases h1; cases h2.symm.trans hs0; cases z_uniq h4 hA0 h3 hcn; exact ⟨by rw [hB9], hA_bk⟩) (Nat.le_refl _) (Nat.le_refl _) wkX_d216
    · have q62_ : dn.toInt ≤ may.toInt := Int.not_lt.mp fun q => q62 (x_lt32.mpr q)
      refine lv_iload hx hb wkX_d65 (lv_at hl 0 rfl) ?_
      refine lv_iload_n hx hb wkX_d67 rfl (lv_at hl 2 rfl) ?_
      refine lv_iconst hx hb wkX_d68 (v := (-1)) (by decide) ?_
      have ecm1 : ((-1) : Int32).toInt = (-1) := by decide
      refine lv_ixor hx hb wkX_d69 ?_
      generalize hg_z69 : may ^^^ ((-1) : Int32) = z69
      refine lv_iand hx hb wkX_d70 ?_
      generalize hg_z70 : dn &&& z69 = z70
      have ec0 : (0 : Int32).toInt = 0 := by decide
      refine lv_if_ne hx hb wkX_d71 (tgt := 208) (by decide) (fun q71 => ?_) (fun q71 => ?_)
      · have q71_ : ¬ z70.toInt = (0 : Int32).toInt := fun q => q71 (Int32.toInt_inj.mp q)
        obtain ⟨z208, hg_z208⟩ : ∃ z208 : Int32, dn + Int32.ofInt 1 = z208 := ⟨_, rfl⟩
        have h_z208 : z208.toInt = dn.toInt + 1 := by rw [← hg_z208]; exact y_inc (by decide) (by omega) (by omega)
        refine lv_iinc hx hb wkX_d208 hl (k := 0) rfl hg_z208 (by decide) (lv' := [(5, .int z208), (4, .int best), (3, .int may), (0, .ref this), (1, .int x), (2, .int cs)]) rfl fun ls hl => ?_
        refine lv_goto hx hb wkX_d211 (tgt := 59) (by decide) ?_
        have hds : z208.toInt.toNat = dn.toInt.toNat + 1 := by omega
        have hnd := m_nj hdn.1
        exact ih _ _ _ _ _ _ _ _ hI hY_this hY_bk hY_se hs_bk hs_se hA_bk (lv_sub hl [0, 1, 2, 3, 4, 5] rfl) hfz hmay (by first | assumption | omega) (by rw [hds, m_wkF_s, ← hbst]; unfold m_wkSt; rw [hnd, ← hmay, hg_z69, hg_z70]; first | (rw [if_neg (fun h9 => absurd h9.1 (by assumption))]) | (rw [if_neg (fun h9 => by rcases h9.2.1 with h8 | h8; exact absurd h8 (by assumption); rw [hg_r84, hg_r91] at h8; omega)])) (by omega)
      · have q71_ : z70.toInt = (0 : Int32).toInt := by rw [q71]
        refine lv_iload hx hb wkX_d74 (lv_at hl 1 rfl) ?_
        refine lv_iconst hx hb wkX_d76 (v := (-1)) (by decide) ?_
        refine lv_icmp_eq hx hb wkX_d77 (tgt := 97) (by decide) (fun q77 => ?_) (fun q77 => ?_)
        · have q77_ : best.toInt = ((-1) : Int32).toInt := by rw [q77]
          refine lv_iconst hx hb wkX_d97 (v := 0) (by decide) ?_
          refine lv_istore hx hb wkX_d98 hl (by decide) (lv' := [(6, .int (0 : Int32)), (5, .int dn), (4, .int best), (3, .int may), (0, .ref this), (1, .int x), (2, .int cs)]) rfl fun ls hl => ?_
          have hnd := m_nj hdn.1
          exact wkX_L100 B hav hs0 hA0 hcn hd0 hd1 hcs hmay ⟨by omega, by omega⟩ hbst (by rw [hnd, ← hmay, hg_z69, hg_z70]; assumption) (by first | exact Or.inl (by assumption) | exact Or.inr (by rw [hg_r84, hg_r91]; omega)) (fun H Y locs ls dn1 best1 may1 fz1 hI hY_this hY_bk hY_se hs_bk hs_se hA_bk hl hfz hmay hdn hbst hi1 => ih _ _ _ _ _ _ _ _ hI hY_this hY_bk hY_se hs_bk hs_se hA_bk hl hfz hmay hdn hbst (by omega)) 10 _ _ _ _ _ _ hI hY_this hY_bk hY_se hs_bk hs_se hA_bk (lv_sub hl [0, 1, 2, 3, 4, 5, 6] rfl) (by first | assumption | omega) (by rw [hfz]; exact m_ab0.symm) (by omega)
        · have q77_ : ¬ best.toInt = ((-1) : Int32).toInt := fun q => q77 (Int32.toInt_inj.mp q)
          refine lv_aload_n hx hb wkX_d80 rfl (lv_at hl 3 rfl) ?_
          refine lv_iload hx hb wkX_d81 (lv_at hl 0 rfl) ?_
          refine lv_iload_n hx hb wkX_d83 rfl (lv_at hl 5 rfl) ?_
          refine y_call (z := (0, 250, 3, some 17, xM199)) (av := [.ref this, .int dn, .int cs]) (rest := []) (y_cokV (n := 2) (ci := 12) X ym_doneCost rfl rfl rfl (x_cons (x_bw80 9 rfl rfl) (x_cons (x_bw80 11 rfl rfl) (x_cons (x_at 54 (by decide +kernel) rfl) (x_cons (x_bw0 9 rfl rfl) x_nilm)))) (x_bw80 12 rfl rfl) (by decide +kernel) ⟨Nat.le_of_ble_eq_true rfl, Nat.le_of_ble_eq_true rfl⟩) hY0 hI rfl wkX_d84 hl.1 (Nat.le_of_ble_eq_true rfl) (Nat.le_of_ble_eq_true rfl) (Nat.le_of_ble_eq_true rfl) (y_cons (y_cref hY_this rfl) (y_cons ⟨_, rfl, x_i32 _⟩ (y_cons ⟨_, rfl, by show (0 : Int) ≤ _; omega, by show _ ≤ (1 : Int); omega⟩ y_nil))) rfl (y_recv rfl hY_this) trivial (y_sub_ef rfl) fun v Yn o Hn L ho hr ha hIn hx_ hE hP => ?_
          have hA9 := hA_bk
          rw [hfz] at hA9
          have hPc := hP _ _ _ _ _ rfl hs_bk hcn hA9
          obtain rfl := hPc
          replace hs_bk := y_Efld hE hY_this rfl (by decide) (by decide) hs_bk
          replace hs_se := y_Efld hE hY_this rfl (by decide) (by decide) hs_se
          replace hA_bk := hA_bk.kept (y_Earr hE hY_bk rfl (by decide))
          replace hY_this := y_ext hx_ hI.1 hY_this
          replace hY_bk := y_ext hx_ hI.1 hY_bk
          replace hY_se := y_ext hx_ hI.1 hY_se
          generalize hg_r84 : m_prc fb cs dn = r84
          clear ho hr ha hE hP hI hx_
          rename x_I _ _ _ _ _ _ _ _ _ _ => hI
          refine lv_aload_n hx hb wkX_d87 rfl (lv_at hl 3 rfl) ?_
          refine lv_iload hx hb wkX_d88 (lv_at hl 1 rfl) ?_
          refine lv_iload_n hx hb wkX_d90 rfl (lv_at hl 5 rfl) ?_
          refine y_call (z := (0, 250, 3, some 17, xM199)) (av := [.ref this, .int best, .int cs]) (rest := [.int r84]) (y_cokV (n := 2) (ci := 12) X ym_doneCost rfl rfl rfl (x_cons (x_bw80 9 rfl rfl) (x_cons (x_bw80 11 rfl rfl) (x_cons (x_at 54 (by decide +kernel) rfl) (x_cons (x_bw0 9 rfl rfl) x_nilm)))) (x_bw80 12 rfl rfl) (by decide +kernel) ⟨Nat.le_of_ble_eq_true rfl, Nat.le_of_ble_eq_true rfl⟩) hY0 hI rfl wkX_d91 hl.1 (Nat.le_of_ble_eq_true rfl) (Nat.le_of_ble_eq_true rfl) (Nat.le_of_ble_eq_true rfl) (y_cons (y_cref hY_this rfl) (y_cons ⟨_, rfl, x_i32 _⟩ (y_cons ⟨_, rfl, by show (0 : Int) ≤ _; omega, by show _ ≤ (1 : Int); omega⟩ y_nil))) rfl (y_recv rfl hY_this) trivial (y_sub_ef rfl) fun v Yn o Hn L ho hr ha hIn hx_ hE hP => ?_
          have hA9 := hA_bk
          rw [hfz] at hA9
          have hPc := hP _ _ _ _ _ rfl hs_bk hcn hA9
          obtain rfl := hPc
          replace hs_bk := y_Efld hE hY_this rfl (by decide) (by decide) hs_bk
          replace hs_se := y_Efld hE hY_this rfl (by decide) (by decide) hs_se
          replace hA_bk := hA_bk.kept (y_Earr hE hY_bk rfl (by decide))
          replace hY_this := y_ext hx_ hI.1 hY_this
          replace hY_bk := y_ext hx_ hI.1 hY_bk
          replace hY_se := y_ext hx_ hI.1 hY_se
          generalize hg_r91 : m_prc fb cs best = r91
          clear ho hr ha hE hP hI hx_
          rename x_I _ _ _ _ _ _ _ _ _ _ => hI
          refine lv_icmp_ge hx hb wkX_d94 (tgt := 208) (by decide) (fun q94 => ?_) (fun q94 => ?_)
          · have q94_ : r91.toInt ≤ r84.toInt := x_le32.mp q94
            obtain ⟨z208, hg_z208⟩ : ∃ z208 : Int32, dn + Int32.ofInt 1 = z208 := ⟨_, rfl⟩
            have h_z208 : z208.toInt = dn.toInt + 1 := by rw [← hg_z208]; exact y_inc (by decide) (by omega) (by omega)
            refine lv_iinc hx hb wkX_d208 hl (k := 0) rfl hg_z208 (by decide) (lv' := [(5, .int z208), (4, .int best), (3, .int may), (0, .ref this), (1, .int x), (2, .int cs)]) rfl fun ls hl => ?_
            refine lv_goto hx hb wkX_d211 (tgt := 59) (by decide) ?_
            have hds : z208.toInt.toNat = dn.toInt.toNat + 1 := by omega
            have hnd := m_nj hdn.1
            exact ih _ _ _ _ _ _ _ _ hI hY_this hY_bk hY_se hs_bk hs_se hA_bk (lv_sub hl [0, 1, 2, 3, 4, 5] rfl) hfz hmay (by first | assumption | omega) (by rw [hds, m_wkF_s, ← hbst]; unfold m_wkSt; rw [hnd, ← hmay, hg_z69, hg_z70]; first | (rw [if_neg (fun h9 => absurd h9.1 (by assumption))]) | (rw [if_neg (fun h9 => by rcases h9.2.1 with h8 | h8; exact absurd h8 (by assumption); rw [hg_r84, hg_r91] at h8; omega)])) (by omega)
          · have q94_ : r84.toInt < r91.toInt := Int.not_le.mp fun q => q94 (x_le32.mpr q)
            refine lv_iconst hx hb wkX_d97 (v := 0) (by decide) ?_
            refine lv_istore hx hb wkX_d98 hl (by decide) (lv' := [(6, .int (0 : Int32)), (5, .int dn), (4, .int best), (3, .int may), (0, .ref this), (1, .int x), (2, .int cs)]) rfl fun ls hl => ?_
            have hnd := m_nj hdn.1
            exact wkX_L100 B hav hs0 hA0 hcn hd0 hd1 hcs hmay ⟨by omega, by omega⟩ hbst (by rw [hnd, ← hmay, hg_z69, hg_z70]; assumption) (by first | exact Or.inl (by assumption) | exact Or.inr (by rw [hg_r84, hg_r91]; omega)) (fun H Y locs ls dn1 best1 may1 fz1 hI hY_this hY_bk hY_se hs_bk hs_se hA_bk hl hfz hmay hdn hbst hi1 => ih _ _ _ _ _ _ _ _ hI hY_this hY_bk hY_se hs_bk hs_se hA_bk hl hfz hmay hdn hbst (by omega)) 10 _ _ _ _ _ _ hI hY_this hY_bk hY_se hs_bk hs_se hA_bk (lv_sub hl [0, 1, 2, 3, 4, 5, 6] rfl) (by first | assumption | omega) (by rw [hfz]; exact m_ab0.symm) (by omega)
theorem wkX_L5 {p : Program} {l : Launch} {e : Env} {s : State} {m : MethodId} {below : List Frame} {meth : Method} {c : Code} {D : va_G} {U : State} {Y0 : xY} {av : List Value} (B : y_B vwCl x_Tb x_Nb xM200 p s m meth c D U Y0 av) {this bk se : Nat} {x cs : Int32} {fb : Nat → Int32} (hav : av = [.ref this, .int x, .int cs]) (hs0 : x_sl D 12 0 this s.heap = some (.ref bk)) (hA0 : y_A bk 160 s.heap fb) (hcn : z_c fb) (hd0 : 0 ≤ (fb 0).toInt ∧ (fb 0).toInt ≤ 10) (hd1 : 0 ≤ (fb 1).toInt ∧ (fb 1).toInt ≤ 8) (hcs : 0 ≤ cs.toInt ∧ cs.toInt ≤ 1)  :
    ∀ (n : Nat), ∀ (H : Heap) (Y : xY) (locs : List Loc) (ls : Array Slot) (tt : Int32) (may : Int32), x_I D x_G x_Zs U (x_efs xM200) Y0 s.heap Y H locs → Y this = some 17 → Y bk = some 46 → Y se = some 51 → x_sl D 12 0 this H = some (.ref bk) → x_sl D 12 8 this H = some (.ref se) → y_A bk 160 H fb → lv_has ls xM200.2.2.1 [(4, .int tt), (3, .int may), (0, .ref this), (1, .int x), (2, .int cs)] → (0 ≤ tt.toInt ∧ tt.toInt ≤ (fb 1).toInt) → (may = m_gg (m_cnB fb) 0 tt.toInt.toNat) → (9 - tt.toInt).toNat < n → W p l e (x_rm xM200) s m av.toArray below meth c H locs 0 0 (y_QQ below D x_G x_Zs U xM200 z_Pwk9 av Y0 s) (F0 m 5 ls []) := by
  have X := B.1
  have hx := X.1
  have hb := X.2.1
  have hY0 := B.2.2.2.2.1
  intro n
  induction n with
  | zero => intro _ _ _ _ _ _ _ _ _ _ _ _ _ _ _ _ h; exact absurd h (Nat.not_lt_zero _)
  | succ n ih =>
    intro H Y locs ls tt may  hI hY_this hY_bk hY_se hs_bk hs_se hA_bk hl ht hmy hn
    refine lv_iload hx hb wkX_d5 (lv_at hl 0 rfl) ?_
    refine lv_aload_n hx hb wkX_d7 rfl (lv_at hl 2 rfl) ?_
    refine y_getf X (fl190 X.2.2.2.2.1) hI.1 hY_this rfl hs_bk wkX_d8 ?_
    refine lv_iconst hx hb wkX_d11 (v := 1) (by decide) ?_
    have ec1 : (1 : Int32).toInt = 1 := by decide
    refine y_iald X hI.1 hY_bk rfl hA_bk (by omega) (by show _ < (160 : Int); omega) wkX_d12 ?_
    obtain ⟨e12, hg_e12⟩ : ∃ e12 : Int32, fb (1 : Int32).toInt.toNat = e12 := ⟨_, rfl⟩
    rw [hg_e12]
    rw [z_i1] at hg_e12
    have h_e12 : e12.toInt = (fb 1).toInt := by rw [← hg_e12]
    refine lv_icmp_ge hx hb wkX_d13 (tgt := 53) (by decide) (fun q13 => ?_) (fun q13 => ?_)
    · have q13_ : e12.toInt ≤ tt.toInt := x_le32.mp q13
      refine lv_iconst hx hb wkX_d53 (v := (-1)) (by decide) ?_
      have ecm1 : ((-1) : Int32).toInt = (-1) := by decide
      refine lv_istore hx hb wkX_d54 hl (by decide) (lv' := [(4, .int ((-1) : Int32)), (3, .int may), (0, .ref this), (1, .int x), (2, .int cs)]) rfl fun ls hl => ?_
      refine lv_iconst hx hb wkX_d56 (v := 0) (by decide) ?_
      have ec0 : (0 : Int32).toInt = 0 := by decide
      refine lv_istore hx hb wkX_d57 hl (by decide) (lv' := [(5, .int (0 : Int32)), (4, .int ((-1) : Int32)), (3, .int may), (0, .ref this), (1, .int x), (2, .int cs)]) rfl fun ls hl => ?_
      have hmay : may = m_can fb := by unfold m_can; rw [hmy, show tt.toInt.toNat = (fb 1).toInt.toNat by omega]
      have hcb := m_can_b hd1
      rw [← hmay] at hcb
      exact wkX_L59 B hav hs0 hA0 hcn hd0 hd1 hcs 258 _ _ _ _ _ _ _ _ hI hY_this hY_bk hY_se hs_bk hs_se hA_bk (lv_sub hl [0, 1, 2, 3, 4, 5] rfl) rfl hmay ⟨by decide, by rw [m_c0]; omega⟩ (by rw [z_i0]; rfl) (by rw [m_c0]; omega)
    · have q13_ : tt.toInt < e12.toInt := Int.not_le.mp fun q => q13 (x_le32.mpr q)
      refine lv_iload_n hx hb wkX_d16 rfl (lv_at hl 1 rfl) ?_
      refine lv_aload_n hx hb wkX_d17 rfl (lv_at hl 2 rfl) ?_
      refine lv_iload hx hb wkX_d18 (lv_at hl 0 rfl) ?_
      refine lv_iconst hx hb wkX_d20 (v := 0) (by decide) ?_
      have ec0 : (0 : Int32).toInt = 0 := by decide
      refine y_call (z := (0, 123, 3, some 17, xM163)) (av := [.ref this, .int tt, .int (0 : Int32)]) (rest := [.int may]) (y_cokV (n := 2) (ci := 12) X ym_ofThing rfl rfl rfl (x_cons (x_bw70 7 rfl rfl) (x_cons (x_bw70 9 rfl rfl) (x_cons (x_at 37 (by decide +kernel) rfl) (x_cons (x_bw0 9 rfl rfl) x_nilm)))) (x_bw70 10 rfl rfl) (by decide +kernel) ⟨Nat.le_of_ble_eq_true rfl, Nat.le_of_ble_eq_true rfl⟩) hY0 hI rfl wkX_d21 hl.1 (Nat.le_of_ble_eq_true rfl) (Nat.le_of_ble_eq_true rfl) (Nat.le_of_ble_eq_true rfl) (y_cons (y_cref hY_this rfl) (y_cons ⟨_, rfl, by show (0 : Int) ≤ _; omega, by show _ ≤ (7 : Int); omega⟩ (y_cons ⟨_, rfl, by show (0 : Int) ≤ _; omega, by show _ ≤ (6 : Int); omega⟩ y_nil))) rfl (y_recv rfl hY_this) trivial (y_sub_ef rfl) fun v Yn o Hn L ho hr ha hIn hx_ hE hP => ?_
      have hPo := hP _ _ _ _ _ rfl hs_bk hA_bk
      replace hs_bk := y_Efld hE hY_this rfl (by decide) (by decide) hs_bk
      replace hs_se := y_Efld hE hY_this rfl (by decide) (by decide) hs_se
      replace hA_bk := hA_bk.kept (y_Earr hE hY_bk rfl (by decide))
      replace hY_this := y_ext hx_ hI.1 hY_this
      replace hY_bk := y_ext hx_ hI.1 hY_bk
      replace hY_se := y_ext hx_ hI.1 hY_se
      obtain ⟨r21, hg_r21⟩ : ∃ r21 : Int32, fb (60 + 7 * (tt).toInt.toNat + ((0 : Int32)).toInt.toNat) = r21 := ⟨_, rfl⟩
      rw [hg_r21] at hPo
      obtain rfl := hPo
      clear ho hr ha hE hP hI hx_
      rename x_I _ _ _ _ _ _ _ _ _ _ => hI
      replace hg_r21 : fb (60 + 7 * tt.toInt.toNat) = r21 := by rw [← hg_r21]; exact congrArg _ (by rw [show (0 : Int32).toInt.toNat = 0 by decide]; omega)
      refine lv_if_eq hx hb wkX_d24 (tgt := 44) (by decide) (fun q24 => ?_) (fun q24 => ?_)
      · have q24_ : r21.toInt = (0 : Int32).toInt := by rw [q24]
        refine lv_iconst hx hb wkX_d44 (v := 0) (by decide) ?_
        refine lv_ior hx hb wkX_d45 ?_
        generalize hg_z45 : may ||| (0 : Int32) = z45
        refine lv_istore_n hx hb wkX_d46 rfl hl (by decide) (lv' := [(3, .int z45), (4, .int tt), (0, .ref this), (1, .int x), (2, .int cs)]) rfl fun ls hl => ?_
        obtain ⟨z47, hg_z47⟩ : ∃ z47 : Int32, tt + Int32.ofInt 1 = z47 := ⟨_, rfl⟩
        have h_z47 : z47.toInt = tt.toInt + 1 := by rw [← hg_z47]; exact y_inc (by decide) (by omega) (by omega)
        refine lv_iinc hx hb wkX_d47 hl (k := 1) rfl hg_z47 (by decide) (lv' := [(4, .int z47), (3, .int z45), (0, .ref this), (1, .int x), (2, .int cs)]) rfl fun ls hl => ?_
        refine lv_goto hx hb wkX_d50 (tgt := 5) (by decide) ?_
        have his : z47.toInt.toNat = tt.toInt.toNat + 1 := by omega
        have hnt := m_nj ht.1
        have hc : m_cnB fb tt.toInt.toNat = false := by unfold m_cnB; rw [hg_r21]; first | (rw [decide_eq_true (show r21.toInt = 0 by omega)]; rfl) | (rw [hg_r31, decide_eq_false (show ¬ r31 = 0 by assumption), Bool.and_false])
        exact ih _ _ _ _ _ _ hI hY_this hY_bk hY_se hs_bk hs_se hA_bk (lv_sub hl [0, 1, 2, 3, 4] rfl) (by first | assumption | omega) (by rw [his, m_gg_F hc, ← hmy, ← hg_z45]; exact m_or0) (by omega)
      · have q24_ : ¬ r21.toInt = (0 : Int32).toInt := fun q => q24 (Int32.toInt_inj.mp q)
        refine lv_aload_n hx hb wkX_d27 rfl (lv_at hl 2 rfl) ?_
        refine lv_iload hx hb wkX_d28 (lv_at hl 0 rfl) ?_
        refine lv_iconst hx hb wkX_d30 (v := 5) (by decide) ?_
        have ec5 : (5 : Int32).toInt = 5 := by decide
        refine y_call (z := (0, 123, 3, some 17, xM163)) (av := [.ref this, .int tt, .int (5 : Int32)]) (rest := [.int may]) (y_cokV (n := 2) (ci := 12) X ym_ofThing rfl rfl rfl (x_cons (x_bw70 7 rfl rfl) (x_cons (x_bw70 9 rfl rfl) (x_cons (x_at 37 (by decide +kernel) rfl) (x_cons (x_bw0 9 rfl rfl) x_nilm)))) (x_bw70 10 rfl rfl) (by decide +kernel) ⟨Nat.le_of_ble_eq_true rfl, Nat.le_of_ble_eq_true rfl⟩) hY0 hI rfl wkX_d31 hl.1 (Nat.le_of_ble_eq_true rfl) (Nat.le_of_ble_eq_true rfl) (Nat.le_of_ble_eq_true rfl) (y_cons (y_cref hY_this rfl) (y_cons ⟨_, rfl, by show (0 : Int) ≤ _; omega, by show _ ≤ (7 : Int); omega⟩ (y_cons ⟨_, rfl, by show (0 : Int) ≤ _; omega, by show _ ≤ (6 : Int); omega⟩ y_nil))) rfl (y_recv rfl hY_this) trivial (y_sub_ef rfl) fun v Yn o Hn L ho hr ha hIn hx_ hE hP => ?_
        have hPo := hP _ _ _ _ _ rfl hs_bk hA_bk
        replace hs_bk := y_Efld hE hY_this rfl (by decide) (by decide) hs_bk
        replace hs_se := y_Efld hE hY_this rfl (by decide) (by decide) hs_se
        replace hA_bk := hA_bk.kept (y_Earr hE hY_bk rfl (by decide))
        replace hY_this := y_ext hx_ hI.1 hY_this
        replace hY_bk := y_ext hx_ hI.1 hY_bk
        replace hY_se := y_ext hx_ hI.1 hY_se
        obtain ⟨r31, hg_r31⟩ : ∃ r31 : Int32, fb (60 + 7 * (tt).toInt.toNat + ((5 : Int32)).toInt.toNat) = r31 := ⟨_, rfl⟩
        rw [hg_r31] at hPo
        obtain rfl := hPo
        clear ho hr ha hE hP hI hx_
        rename x_I _ _ _ _ _ _ _ _ _ _ => hI
        replace hg_r31 : fb (65 + 7 * tt.toInt.toNat) = r31 := by rw [← hg_r31]; exact congrArg _ (by rw [show (5 : Int32).toInt.toNat = 5 by decide]; omega)
        refine lv_if_ne hx hb wkX_d34 (tgt := 44) (by decide) (fun q34 => ?_) (fun q34 => ?_)
        · have q34_ : ¬ r31.toInt = (0 : Int32).toInt := fun q => q34 (Int32.toInt_inj.mp q)
          refine lv_iconst hx hb wkX_d44 (v := 0) (by decide) ?_
          refine lv_ior hx hb wkX_d45 ?_
          generalize hg_z45 : may ||| (0 : Int32) = z45
          refine lv_istore_n hx hb wkX_d46 rfl hl (by decide) (lv' := [(3, .int z45), (4, .int tt), (0, .ref this), (1, .int x), (2, .int cs)]) rfl fun ls hl => ?_
          obtain ⟨z47, hg_z47⟩ : ∃ z47 : Int32, tt + Int32.ofInt 1 = z47 := ⟨_, rfl⟩
          have h_z47 : z47.toInt = tt.toInt + 1 := by rw [← hg_z47]; exact y_inc (by decide) (by omega) (by omega)
          refine lv_iinc hx hb wkX_d47 hl (k := 1) rfl hg_z47 (by decide) (lv' := [(4, .int z47), (3, .int z45), (0, .ref this), (1, .int x), (2, .int cs)]) rfl fun ls hl => ?_
          refine lv_goto hx hb wkX_d50 (tgt := 5) (by decide) ?_
          have his : z47.toInt.toNat = tt.toInt.toNat + 1 := by omega
          have hnt := m_nj ht.1
          have hc : m_cnB fb tt.toInt.toNat = false := by unfold m_cnB; rw [hg_r21]; first | (rw [decide_eq_true (show r21.toInt = 0 by omega)]; rfl) | (rw [hg_r31, decide_eq_false (show ¬ r31 = 0 by assumption), Bool.and_false])
          exact ih _ _ _ _ _ _ hI hY_this hY_bk hY_se hs_bk hs_se hA_bk (lv_sub hl [0, 1, 2, 3, 4] rfl) (by first | assumption | omega) (by rw [his, m_gg_F hc, ← hmy, ← hg_z45]; exact m_or0) (by omega)
        · have q34_ : r31.toInt = (0 : Int32).toInt := by rw [q34]
          refine lv_iconst hx hb wkX_d37 (v := 1) (by decide) ?_
          refine lv_iload hx hb wkX_d38 (lv_at hl 0 rfl) ?_
          refine lv_ishl hx hb wkX_d40 ?_
          generalize hg_z40 : (1 : Int32) <<< (tt &&& 31) = z40
          refine lv_goto hx hb wkX_d41 (tgt := 45) (by decide) ?_
          refine lv_ior hx hb wkX_d45 ?_
          generalize hg_z45 : may ||| z40 = z45
          refine lv_istore_n hx hb wkX_d46 rfl hl (by decide) (lv' := [(3, .int z45), (4, .int tt), (0, .ref this), (1, .int x), (2, .int cs)]) rfl fun ls hl => ?_
          obtain ⟨z47, hg_z47⟩ : ∃ z47 : Int32, tt + Int32.ofInt 1 = z47 := ⟨_, rfl⟩
          have h_z47 : z47.toInt = tt.toInt + 1 := by rw [← hg_z47]; exact y_inc (by decide) (by omega) (by omega)
          refine lv_iinc hx hb wkX_d47 hl (k := 1) rfl hg_z47 (by decide) (lv' := [(4, .int z47), (3, .int z45), (0, .ref this), (1, .int x), (2, .int cs)]) rfl fun ls hl => ?_
          refine lv_goto hx hb wkX_d50 (tgt := 5) (by decide) ?_
          have his : z47.toInt.toNat = tt.toInt.toNat + 1 := by omega
          have hnt := m_nj ht.1
          have hc : m_cnB fb tt.toInt.toNat = true := by unfold m_cnB; rw [hg_r21, hg_r31, decide_eq_false (fun q9 => absurd (show r21 = 0 from Int32.toInt_inj.mp (q9.trans m_c0.symm)) (by assumption)), decide_eq_true (show r31 = 0 from Int32.toInt_inj.mp (by rw [m_c0]; omega))]; rfl
          exact ih _ _ _ _ _ _ hI hY_this hY_bk hY_se hs_bk hs_se hA_bk (lv_sub hl [0, 1, 2, 3, 4] rfl) (by first | assumption | omega) (by rw [his, m_gg_T hc, hnt, ← hmy, ← hg_z45, ← hg_z40]; rfl) (by omega)
theorem ym_worksM : y_Met vwCl x_G x_Zs x_Tb x_Nb xM200 y_T z_Pwk9 := by
  refine y_main (by decide +kernel) (by decide +kernel) x_Tb_good x_Nb_ok ?_
  intro p l e s m below meth c D U Y0 av ls B hI _ hl
  have X := B.1
  have hx := X.1
  have hb := X.2.1
  have hY0 := B.2.2.2.2.1
  obtain ⟨v0, v1, v2, rfl, hv0, ⟨x, rfl, -⟩, ⟨cs, rfl, hcs⟩⟩ := y_three B.2.2.2.2.2
  replace hcs : (0 : Int) ≤ cs.toInt ∧ cs.toInt ≤ 1 := hcs
  obtain ⟨this, t0, rfl, ht0, hY_this⟩ := x_ref_at hv0 rfl
  obtain rfl := List.mem_singleton.mp ht0
  replace hl : lv_has ls xM200.2.2.1 [(0, .ref this), (1, .int x), (2, .int cs)] := hl
  obtain ⟨bk, hs_bk, hY_bk⟩ := y_fldR (k := 0) hI.1 hY_this rfl rfl
  obtain ⟨fb9, hA9, hB9⟩ := y_arr hI.1 hY_bk rfl rfl
  obtain ⟨fb, hcn, hA_bk, hB_bk⟩ := z_canon (Y := Y0) (P := fun j v => x_c Y0 ([xI 0 10, xI 0 8, xI 0 8].getD j xF) (.int v)) hA9 hB9
  clear hA9 hB9 fb9
  have hs0 := hs_bk
  have hA0 := hA_bk
  have hd := z_hdr hB_bk
  have hd0 := hd.1
  have hd1 := hd.2.1
  obtain ⟨se, hs_se, hY_se⟩ := y_fldR (k := 8) hI.1 hY_this rfl rfl
  refine lv_iconst hx hb wkX_d0 (v := 0) (by decide) ?_
  have ec0 : (0 : Int32).toInt = 0 := by decide
  refine lv_istore_n hx hb wkX_d1 rfl hl (by decide) (lv' := [(3, .int (0 : Int32)), (0, .ref this), (1, .int x), (2, .int cs)]) rfl fun ls hl => ?_
  refine lv_iconst hx hb wkX_d2 (v := 0) (by decide) ?_
  refine lv_istore hx hb wkX_d3 hl (by decide) (lv' := [(4, .int (0 : Int32)), (3, .int (0 : Int32)), (0, .ref this), (1, .int x), (2, .int cs)]) rfl fun ls hl => ?_
  exact wkX_L5 B rfl hs0 hA0 hcn hd0 hd1 hcs 10 _ _ _ _ _ _ hI hY_this hY_bk hY_se hs_bk hs_se hA_bk (lv_sub hl [0, 1, 2, 3, 4] rfl) (by first | assumption | omega) (by rw [z_i0]; rfl) (by omega)
def z_PMce : yP := fun D av _ H v _ H' => ∀ (this bk : Nat) (w t : Int32) (f : Nat → Int32), av = [.ref this, .int w, .int t] → x_sl D 12 0 this H = some (.ref bk) → z_c f → y_A bk 160 H f → y_A bk 160 H' f ∧ ∃ r : Int32, v = some (.int r) ∧ m_wk f 1 (m_LWR f w) w t r
theorem ceX_d0 : decode xM202.2.1 0 = .ok (.aload_n 0, 1) := dz_ok (by decide +kernel)
theorem ceX_d1 : decode xM202.2.1 1 = .ok (.iload_n 1, 1) := dz_ok (by decide +kernel)
theorem ceX_d2 : decode xM202.2.1 2 = .ok (.invokevirtual 237, 3) := dz_ok (by decide +kernel)
theorem ceX_d5 : decode xM202.2.1 5 = .ok (.ifCond .eq 13, 3) := dz_ok (by decide +kernel)
theorem ceX_d8 : decode xM202.2.1 8 = .ok (.iload_n 2, 1) := dz_ok (by decide +kernel)
theorem ceX_d9 : decode xM202.2.1 9 = .ok (.i2l, 1) := dz_ok (by decide +kernel)
theorem ceX_d10 : decode xM202.2.1 10 = .ok (.lconst 0, 1) := dz_ok (by decide +kernel)
theorem ceX_d11 : decode xM202.2.1 11 = .ok (.lconst 1, 1) := dz_ok (by decide +kernel)
theorem ceX_d12 : decode xM202.2.1 12 = .ok (.invokestatic 87, 3) := dz_ok (by decide +kernel)
theorem ceX_d15 : decode xM202.2.1 15 = .ok (.ifCond .ne 8, 3) := dz_ok (by decide +kernel)
theorem ceX_d18 : decode xM202.2.1 18 = .ok (.aload_n 0, 1) := dz_ok (by decide +kernel)
theorem ceX_d19 : decode xM202.2.1 19 = .ok (.invokevirtual 102, 3) := dz_ok (by decide +kernel)
theorem ceX_d22 : decode xM202.2.1 22 = .ok (.ireturn, 1) := dz_ok (by decide +kernel)
theorem ceX_d23 : decode xM202.2.1 23 = .ok (.aload_n 0, 1) := dz_ok (by decide +kernel)
theorem ceX_d24 : decode xM202.2.1 24 = .ok (.iload_n 1, 1) := dz_ok (by decide +kernel)
theorem ceX_d25 : decode xM202.2.1 25 = .ok (.iconst 1, 1) := dz_ok (by decide +kernel)
theorem ceX_d26 : decode xM202.2.1 26 = .ok (.invokevirtual 254, 3) := dz_ok (by decide +kernel)
theorem ceX_d29 : decode xM202.2.1 29 = .ok (.istore_n 3, 1) := dz_ok (by decide +kernel)
theorem ceX_d30 : decode xM202.2.1 30 = .ok (.iload_n 3, 1) := dz_ok (by decide +kernel)
theorem ceX_d31 : decode xM202.2.1 31 = .ok (.iconst (-1), 1) := dz_ok (by decide +kernel)
theorem ceX_d32 : decode xM202.2.1 32 = .ok (.if_icmp .eq 8, 3) := dz_ok (by decide +kernel)
theorem ceX_d35 : decode xM202.2.1 35 = .ok (.iload_n 2, 1) := dz_ok (by decide +kernel)
theorem ceX_d36 : decode xM202.2.1 36 = .ok (.iconst 1, 1) := dz_ok (by decide +kernel)
theorem ceX_d37 : decode xM202.2.1 37 = .ok (.if_icmp .ne 7, 3) := dz_ok (by decide +kernel)
theorem ceX_d40 : decode xM202.2.1 40 = .ok (.iload_n 3, 1) := dz_ok (by decide +kernel)
theorem ceX_d41 : decode xM202.2.1 41 = .ok (.goto 9, 3) := dz_ok (by decide +kernel)
theorem ceX_d44 : decode xM202.2.1 44 = .ok (.aload_n 0, 1) := dz_ok (by decide +kernel)
theorem ceX_d45 : decode xM202.2.1 45 = .ok (.iload_n 3, 1) := dz_ok (by decide +kernel)
theorem ceX_d46 : decode xM202.2.1 46 = .ok (.iconst 1, 1) := dz_ok (by decide +kernel)
theorem ceX_d47 : decode xM202.2.1 47 = .ok (.invokevirtual 250, 3) := dz_ok (by decide +kernel)
theorem ceX_d50 : decode xM202.2.1 50 = .ok (.ireturn, 1) := dz_ok (by decide +kernel)
theorem ym_cheapestM : y_Met vwCl x_G x_Zs x_Tb x_Nb xM202 y_T z_PMce := by
  refine y_main (by decide +kernel) (by decide +kernel) x_Tb_good x_Nb_ok ?_
  intro p l e s m below meth c D U Y0 av ls B hI _ hl
  have X := B.1
  have hx := X.1
  have hb := X.2.1
  have hY0 := B.2.2.2.2.1
  obtain ⟨v0, v1, v2, rfl, hv0, ⟨w, rfl, -⟩, ⟨t, rfl, -⟩⟩ := y_three B.2.2.2.2.2
  obtain ⟨this, t0, rfl, ht0, hY_this⟩ := x_ref_at hv0 rfl
  obtain rfl := List.mem_singleton.mp ht0
  replace hl : lv_has ls xM202.2.2.1 [(0, .ref this), (1, .int w), (2, .int t)] := hl
  obtain ⟨bk, hs_bk, hY_bk⟩ := y_fldR (k := 0) hI.1 hY_this rfl rfl
  obtain ⟨fb9, hA9, hB9⟩ := y_arr hI.1 hY_bk rfl rfl
  obtain ⟨fb, hcn, hA_bk, hB_bk⟩ := z_canon (Y := Y0) (P := fun j v => x_c Y0 ([xI 0 10, xI 0 8, xI 0 8].getD j xF) (.int v)) hA9 hB9
  clear hA9 hB9 fb9
  have hs0 := hs_bk
  have hA0 := hA_bk
  have hd := z_hdr hB_bk
  have hd0 := hd.1
  have hd1 := hd.2.1
  refine lv_aload_n hx hb ceX_d0 rfl (lv_at hl 0 rfl) ?_
  refine lv_iload_n hx hb ceX_d1 rfl (lv_at hl 1 rfl) ?_
  refine y_call (z := (0, 237, 2, some 17, xM184)) (av := [.ref this, .int w]) (rest := []) (y_cokV (n := 1) (ci := 12) X ym_isSet rfl rfl rfl (x_cons (x_bw77 0 rfl rfl) (x_cons (x_bw77 2 rfl rfl) (x_cons (x_at 48 (by decide +kernel) rfl) (x_cons (x_bw0 9 rfl rfl) x_nilm)))) (x_bw77 3 rfl rfl) (by decide +kernel) ⟨Nat.le_of_ble_eq_true rfl, Nat.le_of_ble_eq_true rfl⟩) hY0 hI rfl ceX_d2 hl.1 (Nat.le_of_ble_eq_true rfl) (Nat.le_of_ble_eq_true rfl) (Nat.le_of_ble_eq_true rfl) (y_cons (y_cref hY_this rfl) (y_cons ⟨_, rfl, x_i32 _⟩ y_nil)) rfl (y_recv rfl hY_this) trivial (y_sub_ef rfl) fun v Yn o Hn L ho hr ha hIn hx_ hE hP => ?_
  have hPv := hP _ _ _ _ rfl hs_bk (hA_bk 0 (by decide))
  replace hs_bk := y_Efld hE hY_this rfl (by decide) (by decide) hs_bk
  replace hA_bk := hA_bk.kept (y_Earr hE hY_bk rfl (by decide))
  replace hY_this := y_ext hx_ hI.1 hY_this
  replace hY_bk := y_ext hx_ hI.1 hY_bk
  obtain ⟨r2, rfl, hin_r2, hout_r2⟩ := hPv
  clear ho hr ha hE hP hI hx_
  rename x_I _ _ _ _ _ _ _ _ _ _ => hI
  have ec0 : (0 : Int32).toInt = 0 := by decide
  refine lv_if_eq hx hb ceX_d5 (tgt := 18) (by decide) (fun q5 => ?_) (fun q5 => ?_)
  · have q5_ : r2.toInt = (0 : Int32).toInt := by rw [q5]
    have hno : ¬ (m_isS fb w ∧ 0 ≤ t.toInt ∧ t.toInt ≤ 1) := fun q9 => by first | (have h8 := hout_r2 (by assumption); have h7 := q9.1; unfold m_isS at h7; omega) | (have h8 := hout_r12 (by assumption); omega)
    refine lv_aload_n hx hb ceX_d18 rfl (lv_at hl 0 rfl) ?_
    refine y_call (z := (0, 102, 1, some 17, xM143)) (av := [.ref this]) (rest := []) (y_cokV (n := 0) (ci := 12) X ym_bad rfl rfl rfl (x_cons (x_bw68 3 rfl rfl) (x_cons (x_bw68 5 rfl rfl) (x_cons (x_at 32 (by decide +kernel) rfl) (x_cons (x_bw0 9 rfl rfl) x_nilm)))) (x_bw68 6 rfl rfl) (by decide +kernel) ⟨Nat.le_of_ble_eq_true rfl, Nat.le_of_ble_eq_true rfl⟩) hY0 hI rfl ceX_d19 hl.1 (Nat.le_of_ble_eq_true rfl) (Nat.le_of_ble_eq_true rfl) (Nat.le_of_ble_eq_true rfl) (y_cons (y_cref hY_this rfl) y_nil) rfl (y_recv rfl hY_this) trivial (y_sub_ef rfl) fun v Yn o Hn L ho hr ha hIn hx_ hE hP => ?_
    replace hs_bk := y_Efld hE hY_this rfl (by decide) (by decide) hs_bk
    replace hA_bk := hA_bk.kept (y_Earr hE hY_bk rfl (by decide))
    replace hY_this := y_ext hx_ hI.1 hY_this
    replace hY_bk := y_ext hx_ hI.1 hY_bk
    have hPb := hP
    obtain rfl := hPb
    clear ho hr ha hE hP hI hx_
    rename x_I _ _ _ _ _ _ _ _ _ _ => hI
    exact y_ireturn B hI rfl rfl rfl List.mem_cons_self ⟨_, rfl, ⟨_, rfl, x_i32 _⟩⟩ (x_cs.mono B.2.2.2.2.2 (y_mon B hI)) (fun t' b' w0' w1' f' h1 h2 h3 h4 => by cases h1; cases h2.symm.trans hs0; cases z_uniq h4 hA0 h3 hcn; exact ⟨hA_bk, _, rfl, fun q9 => absurd q9 hno, fun _ => rfl⟩) (Nat.le_refl _) (Nat.le_refl _) ceX_d22
  · have q5_ : ¬ r2.toInt = (0 : Int32).toInt := fun q => q5 (Int32.toInt_inj.mp q)
    refine lv_iload_n hx hb ceX_d8 rfl (lv_at hl 2 rfl) ?_
    obtain ⟨z9, hg_z9⟩ : ∃ z9 : Int64, t.toInt64 = z9 := ⟨_, rfl⟩
    have h_z9 : z9.toInt = (t).toInt := by rw [← hg_z9]; exact Int32.toInt_toInt64 _
    refine lv_i2l hx hb ceX_d9 (v := z9) hg_z9 ?_
    refine lv_lconst hx hb ceX_d10 (v := 0) (by decide) ?_
    have el0 : (0 : Int64).toInt = 0 := by decide
    refine lv_lconst hx hb ceX_d11 (v := 1) (by decide) ?_
    have el1 : (1 : Int64).toInt = 1 := by decide
    refine y_call (z := (1, 87, 3, none, xM148)) (av := [.long z9, .long (0 : Int64), .long (1 : Int64)]) (rest := []) (y_cokS (n := 3) X ym_in (x_cons (x_bw67 11 rfl rfl) (x_cons (x_bw67 12 rfl rfl) (x_cons (x_bw0 9 rfl rfl) x_nilm))) (x_bw67 13 rfl rfl) (by decide +kernel) ⟨Nat.le_of_ble_eq_true rfl, Nat.le_of_ble_eq_true rfl⟩) hY0 hI rfl ceX_d12 hl.1 (Nat.le_of_ble_eq_true rfl) (Nat.le_of_ble_eq_true rfl) (Nat.le_of_ble_eq_true rfl) (y_cons ⟨_, rfl, x_i64 _⟩ (y_cons ⟨_, rfl, x_i64 _⟩ (y_cons ⟨_, rfl, x_i64 _⟩ y_nil))) rfl (y_norecv rfl) trivial (y_sub_ef rfl) fun v Yn o Hn L ho hr ha hIn hx_ hE hP => ?_
    replace hs_bk := y_Efld hE hY_this rfl (by decide) (by decide) hs_bk
    replace hA_bk := hA_bk.kept (y_Earr hE hY_bk rfl (by decide))
    replace hY_this := y_ext hx_ hI.1 hY_this
    replace hY_bk := y_ext hx_ hI.1 hY_bk
    obtain ⟨r12, rfl, hin_r12, hout_r12⟩ := z_inR2 (hP _ _ _ rfl)
    clear ho hr ha hE hP hI hx_
    rename x_I _ _ _ _ _ _ _ _ _ _ => hI
    refine lv_if_ne hx hb ceX_d15 (tgt := 23) (by decide) (fun q15 => ?_) (fun q15 => ?_)
    · have q15_ : ¬ r12.toInt = (0 : Int32).toInt := fun q => q15 (Int32.toInt_inj.mp q)
      have hw9 := hin_r12 (by assumption)
      have hok : m_isS fb w ∧ 0 ≤ t.toInt ∧ t.toInt ≤ 1 := ⟨hin_r2 (by assumption), by omega, by omega⟩
      refine lv_aload_n hx hb ceX_d23 rfl (lv_at hl 0 rfl) ?_
      refine lv_iload_n hx hb ceX_d24 rfl (lv_at hl 1 rfl) ?_
      refine lv_iconst hx hb ceX_d25 (v := 1) (by decide) ?_
      have ec1 : (1 : Int32).toInt = 1 := by decide
      refine y_call (z := (0, 254, 3, some 17, xM200)) (av := [.ref this, .int w, .int (1 : Int32)]) (rest := []) (y_cokV (n := 2) (ci := 12) X ym_worksM rfl rfl rfl (x_cons (x_bw80 5 rfl rfl) (x_cons (x_bw80 7 rfl rfl) (x_cons (x_at 53 (by decide +kernel) rfl) (x_cons (x_bw0 9 rfl rfl) x_nilm)))) (x_bw80 8 rfl rfl) (by decide +kernel) ⟨Nat.le_of_ble_eq_true rfl, Nat.le_of_ble_eq_true rfl⟩) hY0 hI rfl ceX_d26 hl.1 (Nat.le_of_ble_eq_true rfl) (Nat.le_of_ble_eq_true rfl) (Nat.le_of_ble_eq_true rfl) (y_cons (y_cref hY_this rfl) (y_cons ⟨_, rfl, x_i32 _⟩ (y_cons ⟨_, rfl, by show (0 : Int) ≤ _; omega, by show _ ≤ (1 : Int); omega⟩ y_nil))) rfl (y_recv rfl hY_this) trivial (y_sub_ef rfl) fun v Yn o Hn L ho hr ha hIn hx_ hE hP => ?_
      obtain ⟨hPv9, hPb9⟩ := hP _ _ _ _ _ rfl hs_bk hcn hA_bk
      obtain rfl := hPv9
      replace hs_bk := y_Efld hE hY_this rfl (by decide) (by decide) hs_bk
      replace hY_this := y_ext hx_ hI.1 hY_this
      replace hY_bk := y_ext hx_ hI.1 hY_bk
      have hA_bk := hPb9
      generalize hg_r26 : m_wkB fb 1 (m_LWR fb w) = r26
      clear ho hr ha hE hP hI hx_
      rename x_I _ _ _ _ _ _ _ _ _ _ => hI
      refine lv_istore_n hx hb ceX_d29 rfl hl (by decide) (lv' := [(3, .int r26), (0, .ref this), (1, .int w), (2, .int t)]) rfl fun ls hl => ?_
      refine lv_iload_n hx hb ceX_d30 rfl (lv_at hl 0 rfl) ?_
      refine lv_iconst hx hb ceX_d31 (v := (-1)) (by decide) ?_
      have ecm1 : ((-1) : Int32).toInt = (-1) := by decide
      refine lv_icmp_eq hx hb ceX_d32 (tgt := 40) (by decide) (fun q32 => ?_) (fun q32 => ?_)
      · have q32_ : r26.toInt = ((-1) : Int32).toInt := by rw [q32]
        refine lv_iload_n hx hb ceX_d40 rfl (lv_at hl 0 rfl) ?_
        refine lv_goto hx hb ceX_d41 (tgt := 50) (by decide) ?_
        exact y_ireturn B hI rfl rfl rfl List.mem_cons_self ⟨_, rfl, ⟨_, rfl, x_i32 _⟩⟩ (x_cs.mono B.2.2.2.2.2 (y_mon B hI)) (fun t' b' w0' w1' f' h1 h2 h3 h4 => by cases h1; cases h2.symm.trans hs0; cases z_uniq h4 hA0 h3 hcn; exact ⟨hA_bk, _, rfl, fun _ => ⟨fun _ => (Eq.symm hg_r26), fun q8 q9 => by first | exact absurd (Eq.trans hg_r26 (show r26 = -1 by assumption)) q8 | exact absurd (show t = 1 by assumption) q9⟩, fun q9 => absurd hok q9⟩) (Nat.le_refl _) (Nat.le_refl _) ceX_d50
      · have q32_ : ¬ r26.toInt = ((-1) : Int32).toInt := fun q => q32 (Int32.toInt_inj.mp q)
        refine lv_iload_n hx hb ceX_d35 rfl (lv_at hl 3 rfl) ?_
        refine lv_iconst hx hb ceX_d36 (v := 1) (by decide) ?_
        refine lv_icmp_ne hx hb ceX_d37 (tgt := 44) (by decide) (fun q37 => ?_) (fun q37 => ?_)
        · have q37_ : ¬ t.toInt = (1 : Int32).toInt := fun q => q37 (Int32.toInt_inj.mp q)
          refine lv_aload_n hx hb ceX_d44 rfl (lv_at hl 1 rfl) ?_
          refine lv_iload_n hx hb ceX_d45 rfl (lv_at hl 0 rfl) ?_
          refine lv_iconst hx hb ceX_d46 (v := 1) (by decide) ?_
          refine y_call (z := (0, 250, 3, some 17, xM199)) (av := [.ref this, .int r26, .int (1 : Int32)]) (rest := []) (y_cokV (n := 2) (ci := 12) X ym_doneCost rfl rfl rfl (x_cons (x_bw80 9 rfl rfl) (x_cons (x_bw80 11 rfl rfl) (x_cons (x_at 54 (by decide +kernel) rfl) (x_cons (x_bw0 9 rfl rfl) x_nilm)))) (x_bw80 12 rfl rfl) (by decide +kernel) ⟨Nat.le_of_ble_eq_true rfl, Nat.le_of_ble_eq_true rfl⟩) hY0 hI rfl ceX_d47 hl.1 (Nat.le_of_ble_eq_true rfl) (Nat.le_of_ble_eq_true rfl) (Nat.le_of_ble_eq_true rfl) (y_cons (y_cref hY_this rfl) (y_cons ⟨_, rfl, x_i32 _⟩ (y_cons ⟨_, rfl, by show (0 : Int) ≤ _; omega, by show _ ≤ (1 : Int); omega⟩ y_nil))) rfl (y_recv rfl hY_this) trivial (y_sub_ef rfl) fun v Yn o Hn L ho hr ha hIn hx_ hE hP => ?_
          have hPc := hP _ _ _ _ _ rfl hs_bk hcn hA_bk
          obtain rfl := hPc
          replace hs_bk := y_Efld hE hY_this rfl (by decide) (by decide) hs_bk
          replace hA_bk := hA_bk.kept (y_Earr hE hY_bk rfl (by decide))
          replace hY_this := y_ext hx_ hI.1 hY_this
          replace hY_bk := y_ext hx_ hI.1 hY_bk
          generalize hg_r47 : m_prc fb 1 r26 = r47
          clear ho hr ha hE hP hI hx_
          rename x_I _ _ _ _ _ _ _ _ _ _ => hI
          exact y_ireturn B hI rfl rfl rfl List.mem_cons_self ⟨_, rfl, ⟨_, rfl, x_i32 _⟩⟩ (x_cs.mono B.2.2.2.2.2 (y_mon B hI)) (fun t' b' w0' w1' f' h1 h2 h3 h4 => by cases h1; cases h2.symm.trans hs0; cases z_uniq h4 hA0 h3 hcn; exact ⟨hA_bk, _, rfl, fun _ => ⟨fun q9 => by rcases q9 with q9 | q9; exact absurd (Eq.trans (Eq.symm hg_r26) q9) (by assumption); exact absurd q9 (by assumption), fun _ _ => by rw [hg_r26, hg_r47]⟩, fun q9 => absurd hok q9⟩) (Nat.le_refl _) (Nat.le_refl _) ceX_d50
        · have q37_ : t.toInt = (1 : Int32).toInt := by rw [q37]
          refine lv_iload_n hx hb ceX_d40 rfl (lv_at hl 0 rfl) ?_
          refine lv_goto hx hb ceX_d41 (tgt := 50) (by decide) ?_
          exact y_ireturn B hI rfl rfl rfl List.mem_cons_self ⟨_, rfl, ⟨_, rfl, x_i32 _⟩⟩ (x_cs.mono B.2.2.2.2.2 (y_mon B hI)) (fun t' b' w0' w1' f' h1 h2 h3 h4 => by cases h1; cases h2.symm.trans hs0; cases z_uniq h4 hA0 h3 hcn; exact ⟨hA_bk, _, rfl, fun _ => ⟨fun _ => (Eq.symm hg_r26), fun q8 q9 => by first | exact absurd (Eq.trans hg_r26 (show r26 = -1 by assumption)) q8 | exact absurd (show t = 1 by assumption) q9⟩, fun q9 => absurd hok q9⟩) (Nat.le_refl _) (Nat.le_refl _) ceX_d50
    · have q15_ : r12.toInt = (0 : Int32).toInt := by rw [q15]
      have hno : ¬ (m_isS fb w ∧ 0 ≤ t.toInt ∧ t.toInt ≤ 1) := fun q9 => by first | (have h8 := hout_r2 (by assumption); have h7 := q9.1; unfold m_isS at h7; omega) | (have h8 := hout_r12 (by assumption); omega)
      refine lv_aload_n hx hb ceX_d18 rfl (lv_at hl 0 rfl) ?_
      refine y_call (z := (0, 102, 1, some 17, xM143)) (av := [.ref this]) (rest := []) (y_cokV (n := 0) (ci := 12) X ym_bad rfl rfl rfl (x_cons (x_bw68 3 rfl rfl) (x_cons (x_bw68 5 rfl rfl) (x_cons (x_at 32 (by decide +kernel) rfl) (x_cons (x_bw0 9 rfl rfl) x_nilm)))) (x_bw68 6 rfl rfl) (by decide +kernel) ⟨Nat.le_of_ble_eq_true rfl, Nat.le_of_ble_eq_true rfl⟩) hY0 hI rfl ceX_d19 hl.1 (Nat.le_of_ble_eq_true rfl) (Nat.le_of_ble_eq_true rfl) (Nat.le_of_ble_eq_true rfl) (y_cons (y_cref hY_this rfl) y_nil) rfl (y_recv rfl hY_this) trivial (y_sub_ef rfl) fun v Yn o Hn L ho hr ha hIn hx_ hE hP => ?_
      replace hs_bk := y_Efld hE hY_this rfl (by decide) (by decide) hs_bk
      replace hA_bk := hA_bk.kept (y_Earr hE hY_bk rfl (by decide))
      replace hY_this := y_ext hx_ hI.1 hY_this
      replace hY_bk := y_ext hx_ hI.1 hY_bk
      have hPb := hP
      obtain rfl := hPb
      clear ho hr ha hE hP hI hx_
      rename x_I _ _ _ _ _ _ _ _ _ _ => hI
      exact y_ireturn B hI rfl rfl rfl List.mem_cons_self ⟨_, rfl, ⟨_, rfl, x_i32 _⟩⟩ (x_cs.mono B.2.2.2.2.2 (y_mon B hI)) (fun t' b' w0' w1' f' h1 h2 h3 h4 => by cases h1; cases h2.symm.trans hs0; cases z_uniq h4 hA0 h3 hcn; exact ⟨hA_bk, _, rfl, fun q9 => absurd q9 hno, fun _ => rfl⟩) (Nat.le_refl _) (Nat.le_refl _) ceX_d22

