/-! TOLD of the class -/
/-- yes or no (a word of its own: what decides of numbers need not look in) -/
def m_yn (r : Int32) (A B : Prop) : Prop := (r = 1 ∧ A) ∨ (r = 0 ∧ B)
def z_Prby : yP := fun D av Y H v _ _ => ∀ (ld : Nat) (i fi : Int32) (f : Nat → Int32), av = [.ref ld, .int i, .int fi] → z_L D Y ld H f → v = some (.int (m_rbI f i fi))
theorem rbyq_d0 : decode xM111.2.1 0 = .ok (.iload_n 1, 1) := dz_ok (by decide +kernel)
theorem rbyq_d1 : decode xM111.2.1 1 = .ok (.aload_n 0, 1) := dz_ok (by decide +kernel)
theorem rbyq_d2 : decode xM111.2.1 2 = .ok (.getfield 92, 3) := dz_ok (by decide +kernel)
theorem rbyq_d5 : decode xM111.2.1 5 = .ok (.if_icmp .ge 20, 3) := dz_ok (by decide +kernel)
theorem rbyq_d8 : decode xM111.2.1 8 = .ok (.aload_n 0, 1) := dz_ok (by decide +kernel)
theorem rbyq_d9 : decode xM111.2.1 9 = .ok (.getfield 106, 3) := dz_ok (by decide +kernel)
theorem rbyq_d12 : decode xM111.2.1 12 = .ok (.iload_n 1, 1) := dz_ok (by decide +kernel)
theorem rbyq_d13 : decode xM111.2.1 13 = .ok (.iaload, 1) := dz_ok (by decide +kernel)
theorem rbyq_d14 : decode xM111.2.1 14 = .ok (.iload_n 2, 1) := dz_ok (by decide +kernel)
theorem rbyq_d15 : decode xM111.2.1 15 = .ok (.invokestatic 37, 3) := dz_ok (by decide +kernel)
theorem rbyq_d18 : decode xM111.2.1 18 = .ok (.if_icmp .ne 7, 3) := dz_ok (by decide +kernel)
theorem rbyq_d21 : decode xM111.2.1 21 = .ok (.iconst 1, 1) := dz_ok (by decide +kernel)
theorem rbyq_d22 : decode xM111.2.1 22 = .ok (.goto 4, 3) := dz_ok (by decide +kernel)
theorem rbyq_d25 : decode xM111.2.1 25 = .ok (.iconst 0, 1) := dz_ok (by decide +kernel)
theorem rbyq_d26 : decode xM111.2.1 26 = .ok (.istore_n 3, 1) := dz_ok (by decide +kernel)
theorem rbyq_d27 : decode xM111.2.1 27 = .ok (.iload_n 3, 1) := dz_ok (by decide +kernel)
theorem rbyq_d28 : decode xM111.2.1 28 = .ok (.ifCond .eq 9, 3) := dz_ok (by decide +kernel)
theorem rbyq_d31 : decode xM111.2.1 31 = .ok (.iload_n 1, 1) := dz_ok (by decide +kernel)
theorem rbyq_d32 : decode xM111.2.1 32 = .ok (.iconst 1, 1) := dz_ok (by decide +kernel)
theorem rbyq_d33 : decode xM111.2.1 33 = .ok (.iadd, 1) := dz_ok (by decide +kernel)
theorem rbyq_d34 : decode xM111.2.1 34 = .ok (.goto 4, 3) := dz_ok (by decide +kernel)
theorem rbyq_d37 : decode xM111.2.1 37 = .ok (.iload_n 1, 1) := dz_ok (by decide +kernel)
theorem rbyq_d38 : decode xM111.2.1 38 = .ok (.ireturn, 1) := dz_ok (by decide +kernel)
theorem ym_readBy : y_Met vwCl x_G x_Zs x_Tb x_Nb xM111 z_AL z_Prby := by
  refine y_main (by decide +kernel) (by decide +kernel) x_Tb_good x_Nb_ok ?_
  intro p l e s m below meth c D U Y0 av ls B hI hpre hl
  have X := B.1
  have hx := X.1
  have hb := X.2.1
  have hY0 := B.2.2.2.2.1
  obtain ⟨v0, v1, v2, rfl, hv0, ⟨i, rfl, hi⟩, ⟨fi, rfl, -⟩⟩ := y_three B.2.2.2.2.2
  replace hi : (0 : Int) ≤ i.toInt ∧ i.toInt ≤ 8 := hi
  obtain ⟨ld, t1, rfl, ht1, hY_ld⟩ := x_ref_at hv0 rfl
  obtain rfl := List.mem_singleton.mp ht1
  replace hl : lv_has ls xM111.2.2.1 [(0, .ref ld), (1, .int i), (2, .int fi)] := hl
  obtain ⟨f, hL⟩ := hpre _ rfl
  have hL0 := hL
  have hn2 := hL.1.2.2
  have hd2 : 0 ≤ (f 2).toInt ∧ (f 2).toInt ≤ 8 := by
    obtain ⟨x9, e9, b9⟩ := y_fldI (k := 12) hI.1 hY_ld rfl rfl
    rw [hn2] at e9
    cases e9
    exact b9
  obtain ⟨aword, hs_aword, hY_aword, hA_aword⟩ := hL.2.1 (13, 29, 8, 128, 1) (by decide)
  replace hA_aword : y_A aword 8 s.heap (fun j => f (128 + 1 * j)) := hA_aword
  refine lv_iload_n hx hb rbyq_d0 rfl (lv_at hl 1 rfl) ?_
  refine lv_aload_n hx hb rbyq_d1 rfl (lv_at hl 0 rfl) ?_
  refine y_getf X (fl145 X.2.2.2.2.1) hI.1 hY_ld rfl hn2 rbyq_d2 ?_
  refine lv_icmp_ge hx hb rbyq_d5 (tgt := 25) (by decide) (fun q5 => ?_) (fun q5 => ?_)
  · have q5_ : (f 2).toInt ≤ i.toInt := x_le32.mp q5
    refine lv_iconst hx hb rbyq_d25 (v := 0) (by decide) ?_
    have ec0 : (0 : Int32).toInt = 0 := by decide
    refine lv_istore_n hx hb rbyq_d26 rfl hl (by decide) (lv' := [(3, .int (0 : Int32)), (0, .ref ld), (1, .int i), (2, .int fi)]) rfl fun ls hl => ?_
    refine lv_iload_n hx hb rbyq_d27 rfl (lv_at hl 0 rfl) ?_
    refine lv_if_eq hx hb rbyq_d28 (tgt := 37) (by decide) (fun q28 => ?_) (fun q28 => ?_)
    · have q28_ : (0 : Int32).toInt = (0 : Int32).toInt := by rw [q28]
      refine lv_iload_n hx hb rbyq_d37 rfl (lv_at hl 2 rfl) ?_
      exact y_ireturn B hI rfl rfl rfl List.mem_cons_self ⟨_, rfl, ⟨_, rfl, by show (0 : Int) ≤ _; omega, by show _ ≤ (8 : Int); omega⟩⟩ (x_cs.mono B.2.2.2.2.2 (y_mon B hI)) (fun t' i' s' f' h1 h2 => by cases h1; cases h2.uniq hL0; refine congrArg (fun x => some (Value.int x)) ?_; unfold m_rbI; refine Eq.symm ?_; first | (exfalso; omega) | (exact if_neg (fun h9 => absurd h9.1 (by omega))) | (have e9 : f (128 + i.toInt.toNat) = e13 := (congrArg f (by omega)).trans hg_e13; exact if_neg (fun h9 => absurd (e9.symm.trans (h9.2.trans hg_r15)) (by assumption)))) (Nat.le_refl _) (Nat.le_refl _) rbyq_d38
    · have q28_ : ¬ (0 : Int32).toInt = (0 : Int32).toInt := fun q => q28 (Int32.toInt_inj.mp q)
      refine lv_iload_n hx hb rbyq_d31 rfl (lv_at hl 2 rfl) ?_
      refine lv_iconst hx hb rbyq_d32 (v := 1) (by decide) ?_
      have ec1 : (1 : Int32).toInt = 1 := by decide
      refine lv_iadd hx hb rbyq_d33 ?_
      generalize hg_z33 : i + (1 : Int32) = z33
      have h_z33 : z33.toInt = i.toInt + 1 := by rw [← hg_z33]; have := y_add (x := i) (y := (1 : Int32)) (by rw [ec1]; omega) (by rw [ec1]; omega); rw [ec1] at this; exact this
      refine lv_goto hx hb rbyq_d34 (tgt := 38) (by decide) ?_
      exact y_ireturn B hI rfl rfl rfl List.mem_cons_self ⟨_, rfl, ⟨_, rfl, by show (0 : Int) ≤ _; omega, by show _ ≤ (8 : Int); omega⟩⟩ (x_cs.mono B.2.2.2.2.2 (y_mon B hI)) (fun t' i' s' f' h1 h2 => by cases h1; cases h2.uniq hL0; refine congrArg (fun x => some (Value.int x)) ?_; unfold m_rbI; refine Eq.symm ?_; first | (exfalso; omega) | (have e9 : f (128 + i.toInt.toNat) = e13 := (congrArg f (by omega)).trans hg_e13; rw [if_pos ⟨by omega, e9.trans ((show e13 = r15 by assumption).trans (Eq.symm hg_r15))⟩]; exact hg_z33)) (Nat.le_refl _) (Nat.le_refl _) rbyq_d38
  · have q5_ : i.toInt < (f 2).toInt := Int.not_le.mp fun q => q5 (x_le32.mpr q)
    refine lv_aload_n hx hb rbyq_d8 rfl (lv_at hl 0 rfl) ?_
    refine y_getf X (fl146 X.2.2.2.2.1) hI.1 hY_ld rfl hs_aword rbyq_d9 ?_
    refine lv_iload_n hx hb rbyq_d12 rfl (lv_at hl 1 rfl) ?_
    refine y_iald X hI.1 hY_aword rfl hA_aword (by omega) (by show _ < (8 : Int); omega) rbyq_d13 ?_
    obtain ⟨e13, hg_e13⟩ : ∃ e13 : Int32, f (128 + 1 * i.toInt.toNat) = e13 := ⟨_, rfl⟩
    rw [hg_e13]
    refine lv_iload_n hx hb rbyq_d14 rfl (lv_at hl 2 rfl) ?_
    refine y_call (z := (1, 37, 1, none, xM71)) (av := [.int fi]) (rest := [.int e13]) (y_cokS (n := 1) X ym_bitCount (x_cons (x_bw44 9 rfl rfl) (x_cons (x_bw43 2 rfl rfl) (x_cons (x_bw1 5 rfl rfl) x_nilm))) (x_bw43 3 rfl rfl) (by decide +kernel) ⟨Nat.le_of_ble_eq_true rfl, Nat.le_of_ble_eq_true rfl⟩) hY0 hI rfl rbyq_d15 hl.1 (Nat.le_of_ble_eq_true rfl) (Nat.le_of_ble_eq_true rfl) (Nat.le_of_ble_eq_true rfl) (y_cons ⟨_, rfl, x_i32 _⟩ y_nil) rfl (y_norecv rfl) trivial (y_sub_ef rfl) fun v Yn o Hn L ho hr ha hIn hx_ hE hP => ?_
    have hPm := hP _ rfl
    obtain rfl := hPm
    replace hn2 := y_Efld hE hY_ld rfl (by decide) (by decide) hn2
    replace hs_aword := y_Efld hE hY_ld rfl (by decide) (by decide) hs_aword
    replace hA_aword := hA_aword.kept (y_Earr hE hY_aword rfl (by decide))
    replace hL := hL.E hY_ld hE (fun q u h => y_ext hx_ hI.1 h) (by decide +kernel)
    replace hY_ld := y_ext hx_ hI.1 hY_ld
    replace hY_aword := y_ext hx_ hI.1 hY_aword
    generalize hg_r15 : m_bc fi = r15
    clear ho hr ha hE hP hI hx_
    rename x_I _ _ _ _ _ _ _ _ _ _ => hI
    refine lv_icmp_ne hx hb rbyq_d18 (tgt := 25) (by decide) (fun q18 => ?_) (fun q18 => ?_)
    · have q18_ : ¬ e13.toInt = r15.toInt := fun q => q18 (Int32.toInt_inj.mp q)
      refine lv_iconst hx hb rbyq_d25 (v := 0) (by decide) ?_
      have ec0 : (0 : Int32).toInt = 0 := by decide
      refine lv_istore_n hx hb rbyq_d26 rfl hl (by decide) (lv' := [(3, .int (0 : Int32)), (0, .ref ld), (1, .int i), (2, .int fi)]) rfl fun ls hl => ?_
      refine lv_iload_n hx hb rbyq_d27 rfl (lv_at hl 0 rfl) ?_
      refine lv_if_eq hx hb rbyq_d28 (tgt := 37) (by decide) (fun q28 => ?_) (fun q28 => ?_)
      · have q28_ : (0 : Int32).toInt = (0 : Int32).toInt := by rw [q28]
        refine lv_iload_n hx hb rbyq_d37 rfl (lv_at hl 2 rfl) ?_
        exact y_ireturn B hI rfl rfl rfl List.mem_cons_self ⟨_, rfl, ⟨_, rfl, by show (0 : Int) ≤ _; omega, by show _ ≤ (8 : Int); omega⟩⟩ (x_cs.mono B.2.2.2.2.2 (y_mon B hI)) (fun t' i' s' f' h1 h2 => by cases h1; cases h2.uniq hL0; refine congrArg (fun x => some (Value.int x)) ?_; unfold m_rbI; refine Eq.symm ?_; first | (exfalso; omega) | (exact if_neg (fun h9 => absurd h9.1 (by omega))) | (have e9 : f (128 + i.toInt.toNat) = e13 := (congrArg f (by omega)).trans hg_e13; exact if_neg (fun h9 => absurd (e9.symm.trans (h9.2.trans hg_r15)) (by assumption)))) (Nat.le_refl _) (Nat.le_refl _) rbyq_d38
      · have q28_ : ¬ (0 : Int32).toInt = (0 : Int32).toInt := fun q => q28 (Int32.toInt_inj.mp q)
        refine lv_iload_n hx hb rbyq_d31 rfl (lv_at hl 2 rfl) ?_
        refine lv_iconst hx hb rbyq_d32 (v := 1) (by decide) ?_
        have ec1 : (1 : Int32).toInt = 1 := by decide
        refine lv_iadd hx hb rbyq_d33 ?_
        generalize hg_z33 : i + (1 : Int32) = z33
        have h_z33 : z33.toInt = i.toInt + 1 := by rw [← hg_z33]; have := y_add (x := i) (y := (1 : Int32)) (by rw [ec1]; omega) (by rw [ec1]; omega); rw [ec1] at this; exact this
        refine lv_goto hx hb rbyq_d34 (tgt := 38) (by decide) ?_
        exact y_ireturn B hI rfl rfl rfl List.mem_cons_self ⟨_, rfl, ⟨_, rfl, by show (0 : Int) ≤ _; omega, by show _ ≤ (8 : Int); omega⟩⟩ (x_cs.mono B.2.2.2.2.2 (y_mon B hI)) (fun t' i' s' f' h1 h2 => by cases h1; cases h2.uniq hL0; refine congrArg (fun x => some (Value.int x)) ?_; unfold m_rbI; refine Eq.symm ?_; first | (exfalso; omega) | (have e9 : f (128 + i.toInt.toNat) = e13 := (congrArg f (by omega)).trans hg_e13; rw [if_pos ⟨by omega, e9.trans ((show e13 = r15 by assumption).trans (Eq.symm hg_r15))⟩]; exact hg_z33)) (Nat.le_refl _) (Nat.le_refl _) rbyq_d38
    · have q18_ : e13.toInt = r15.toInt := by rw [q18]
      refine lv_iconst hx hb rbyq_d21 (v := 1) (by decide) ?_
      have ec1 : (1 : Int32).toInt = 1 := by decide
      refine lv_goto hx hb rbyq_d22 (tgt := 26) (by decide) ?_
      refine lv_istore_n hx hb rbyq_d26 rfl hl (by decide) (lv' := [(3, .int (1 : Int32)), (0, .ref ld), (1, .int i), (2, .int fi)]) rfl fun ls hl => ?_
      refine lv_iload_n hx hb rbyq_d27 rfl (lv_at hl 0 rfl) ?_
      have ec0 : (0 : Int32).toInt = 0 := by decide
      refine lv_if_eq hx hb rbyq_d28 (tgt := 37) (by decide) (fun q28 => ?_) (fun q28 => ?_)
      · have q28_ : (1 : Int32).toInt = (0 : Int32).toInt := by rw [q28]
        refine lv_iload_n hx hb rbyq_d37 rfl (lv_at hl 2 rfl) ?_
        exact y_ireturn B hI rfl rfl rfl List.mem_cons_self ⟨_, rfl, ⟨_, rfl, by show (0 : Int) ≤ _; omega, by show _ ≤ (8 : Int); omega⟩⟩ (x_cs.mono B.2.2.2.2.2 (y_mon B hI)) (fun t' i' s' f' h1 h2 => by cases h1; cases h2.uniq hL0; refine congrArg (fun x => some (Value.int x)) ?_; unfold m_rbI; refine Eq.symm ?_; first | (exfalso; omega) | (exact if_neg (fun h9 => absurd h9.1 (by omega))) | (have e9 : f (128 + i.toInt.toNat) = e13 := (congrArg f (by omega)).trans hg_e13; exact if_neg (fun h9 => absurd (e9.symm.trans (h9.2.trans hg_r15)) (by assumption)))) (Nat.le_refl _) (Nat.le_refl _) rbyq_d38
      · have q28_ : ¬ (1 : Int32).toInt = (0 : Int32).toInt := fun q => q28 (Int32.toInt_inj.mp q)
        refine lv_iload_n hx hb rbyq_d31 rfl (lv_at hl 2 rfl) ?_
        refine lv_iconst hx hb rbyq_d32 (v := 1) (by decide) ?_
        refine lv_iadd hx hb rbyq_d33 ?_
        generalize hg_z33 : i + (1 : Int32) = z33
        have h_z33 : z33.toInt = i.toInt + 1 := by rw [← hg_z33]; have := y_add (x := i) (y := (1 : Int32)) (by rw [ec1]; omega) (by rw [ec1]; omega); rw [ec1] at this; exact this
        refine lv_goto hx hb rbyq_d34 (tgt := 38) (by decide) ?_
        exact y_ireturn B hI rfl rfl rfl List.mem_cons_self ⟨_, rfl, ⟨_, rfl, by show (0 : Int) ≤ _; omega, by show _ ≤ (8 : Int); omega⟩⟩ (x_cs.mono B.2.2.2.2.2 (y_mon B hI)) (fun t' i' s' f' h1 h2 => by cases h1; cases h2.uniq hL0; refine congrArg (fun x => some (Value.int x)) ?_; unfold m_rbI; refine Eq.symm ?_; first | (exfalso; omega) | (have e9 : f (128 + i.toInt.toNat) = e13 := (congrArg f (by omega)).trans hg_e13; rw [if_pos ⟨by omega, e9.trans ((show e13 = r15 by assumption).trans (Eq.symm hg_r15))⟩]; exact hg_z33)) (Nat.le_refl _) (Nat.le_refl _) rbyq_d38
def z_Pmr9 : yP := fun D av _ H v _ _ => ∀ (this sr rd : Nat) (u fo : Int32) (fr F : Nat → Int32), av = [.ref this, .int u] → x_sl D 5 0 this H = some (.ref sr) → x_sl D 5 1 this H = some (.int fo) → y_A sr 1024 H fr → x_sl D 5 4 this H = some (.ref rd) → y_A rd 1024 H F → ∃ r : Int32, v = some (.int r) ∧ m_bst fo fr F u r
theorem mrq_d0 : decode xM112.2.1 0 = .ok (.iconst (-1), 1) := dz_ok (by decide +kernel)
theorem mrq_d1 : decode xM112.2.1 1 = .ok (.istore_n 2, 1) := dz_ok (by decide +kernel)
theorem mrq_d2 : decode xM112.2.1 2 = .ok (.iconst 0, 1) := dz_ok (by decide +kernel)
theorem mrq_d3 : decode xM112.2.1 3 = .ok (.istore_n 3, 1) := dz_ok (by decide +kernel)
theorem mrq_d4 : decode xM112.2.1 4 = .ok (.iload_n 3, 1) := dz_ok (by decide +kernel)
theorem mrq_d5 : decode xM112.2.1 5 = .ok (.aload_n 0, 1) := dz_ok (by decide +kernel)
theorem mrq_d6 : decode xM112.2.1 6 = .ok (.getfield 27, 3) := dz_ok (by decide +kernel)
theorem mrq_d9 : decode xM112.2.1 9 = .ok (.if_icmp .ge 39, 3) := dz_ok (by decide +kernel)
theorem mrq_d12 : decode xM112.2.1 12 = .ok (.aload_n 0, 1) := dz_ok (by decide +kernel)
theorem mrq_d13 : decode xM112.2.1 13 = .ok (.getfield 21, 3) := dz_ok (by decide +kernel)
theorem mrq_d16 : decode xM112.2.1 16 = .ok (.iload_n 3, 1) := dz_ok (by decide +kernel)
theorem mrq_d17 : decode xM112.2.1 17 = .ok (.iaload, 1) := dz_ok (by decide +kernel)
theorem mrq_d18 : decode xM112.2.1 18 = .ok (.iload_n 2, 1) := dz_ok (by decide +kernel)
theorem mrq_d19 : decode xM112.2.1 19 = .ok (.if_icmp .le 23, 3) := dz_ok (by decide +kernel)
theorem mrq_d22 : decode xM112.2.1 22 = .ok (.iload_n 1, 1) := dz_ok (by decide +kernel)
theorem mrq_d23 : decode xM112.2.1 23 = .ok (.aload_n 0, 1) := dz_ok (by decide +kernel)
theorem mrq_d24 : decode xM112.2.1 24 = .ok (.getfield 9, 3) := dz_ok (by decide +kernel)
theorem mrq_d27 : decode xM112.2.1 27 = .ok (.iload_n 3, 1) := dz_ok (by decide +kernel)
theorem mrq_d28 : decode xM112.2.1 28 = .ok (.iaload, 1) := dz_ok (by decide +kernel)
theorem mrq_d29 : decode xM112.2.1 29 = .ok (.invokestatic 52, 3) := dz_ok (by decide +kernel)
theorem mrq_d32 : decode xM112.2.1 32 = .ok (.ifCond .eq 10, 3) := dz_ok (by decide +kernel)
theorem mrq_d35 : decode xM112.2.1 35 = .ok (.aload_n 0, 1) := dz_ok (by decide +kernel)
theorem mrq_d36 : decode xM112.2.1 36 = .ok (.getfield 21, 3) := dz_ok (by decide +kernel)
theorem mrq_d39 : decode xM112.2.1 39 = .ok (.iload_n 3, 1) := dz_ok (by decide +kernel)
theorem mrq_d40 : decode xM112.2.1 40 = .ok (.iaload, 1) := dz_ok (by decide +kernel)
theorem mrq_d41 : decode xM112.2.1 41 = .ok (.istore_n 2, 1) := dz_ok (by decide +kernel)
theorem mrq_d42 : decode xM112.2.1 42 = .ok (.iinc 3 1, 3) := dz_ok (by decide +kernel)
theorem mrq_d45 : decode xM112.2.1 45 = .ok (.goto (-41), 3) := dz_ok (by decide +kernel)
theorem mrq_d48 : decode xM112.2.1 48 = .ok (.iload_n 2, 1) := dz_ok (by decide +kernel)
theorem mrq_d49 : decode xM112.2.1 49 = .ok (.ireturn, 1) := dz_ok (by decide +kernel)
theorem mrq_L4 {p : Program} {l : Launch} {e : Env} {s : State} {m : MethodId} {below : List Frame} {meth : Method} {c : Code} {D : va_G} {U : State} {Y0 : xY} {av : List Value} (B : y_B vwCl x_Tb x_Nb xM112 p s m meth c D U Y0 av) {this sr rd : Nat} {u fo : Int32} {fr Fz : Nat → Int32} (hav : av = [.ref this, .int u]) (hsr : x_sl D 5 0 this s.heap = some (.ref sr)) (hfo0 : x_sl D 5 1 this s.heap = some (.int fo)) (hA0 : y_A sr 1024 s.heap fr) (hsd0 : x_sl D 5 4 this s.heap = some (.ref rd)) (hAd0 : y_A rd 1024 s.heap Fz) (hfo9 : 0 ≤ fo.toInt ∧ fo.toInt ≤ 1024) (hB_sr : ∀ j, j < 1024 → (0 : Int) ≤ (fr j).toInt ∧ (fr j).toInt ≤ 1023) (hB_rd : ∀ j, j < 1024 → (-1 : Int) ≤ (Fz j).toInt ∧ (Fz j).toInt ≤ 8)  :
    ∀ (n : Nat), ∀ (H : Heap) (Y : xY) (locs : List Loc) (ls : Array Slot) (i : Int32) (al : Int32), x_I D x_G x_Zs U (x_efs xM112) Y0 s.heap Y H locs → Y this = some 8 → Y sr = some 35 → Y rd = some 38 → x_sl D 5 0 this H = some (.ref sr) → x_sl D 5 4 this H = some (.ref rd) → x_sl D 5 1 this H = some (.int fo) → y_A sr 1024 H fr → y_A rd 1024 H Fz → lv_has ls xM112.2.2.1 [(3, .int i), (2, .int al), (0, .ref this), (1, .int u)] → (0 ≤ i.toInt ∧ i.toInt ≤ fo.toInt) → (-1 ≤ al.toInt ∧ al.toInt ≤ 8) → (m_bst i fr Fz u al) → (1025 - i.toInt).toNat < n → W p l e (x_rm xM112) s m av.toArray below meth c H locs 0 0 (y_QQ below D x_G x_Zs U xM112 z_Pmr9 av Y0 s) (F0 m 4 ls []) := by
  have X := B.1
  have hx := X.1
  have hb := X.2.1
  have hY0 := B.2.2.2.2.1
  intro n
  induction n with
  | zero => intro _ _ _ _ _ _ _ _ _ _ _ _ _ _ _ _ _ _ _ h; exact absurd h (Nat.not_lt_zero _)
  | succ n ih =>
    intro H Y locs ls i al  hI hY_this hY_sr hY_rd hs_sr hs_rd hsi_found hA_sr hA_rd hl hi hab hal hn
    refine lv_iload_n hx hb mrq_d4 rfl (lv_at hl 0 rfl) ?_
    refine lv_aload_n hx hb mrq_d5 rfl (lv_at hl 2 rfl) ?_
    refine y_getf X (fl136 X.2.2.2.2.1) hI.1 hY_this rfl hsi_found mrq_d6 ?_
    refine lv_icmp_ge hx hb mrq_d9 (tgt := 48) (by decide) (fun q9 => ?_) (fun q9 => ?_)
    · have q9_ : fo.toInt ≤ i.toInt := x_le32.mp q9
      refine lv_iload_n hx hb mrq_d48 rfl (lv_at hl 1 rfl) ?_
      have hif : i = fo := Int32.toInt_inj.mp (by omega)
      subst hav
      exact y_ireturn B hI rfl rfl rfl List.mem_cons_self ⟨_, rfl, ⟨_, rfl, by show (-1 : Int) ≤ _; omega, by show _ ≤ (8 : Int); omega⟩⟩ (x_cs.mono B.2.2.2.2.2 (y_mon B hI)) (fun t' s' d' u' o' r' F' h1 h2 h3 h4 h5 h6 => by cases h1; cases h2.symm.trans hsr; cases h3.symm.trans hfo0; cases h5.symm.trans hsd0; rw [hif] at hal; exact ⟨_, rfl, hal.congr (fun j hj => z_AR h4 hA0 (by omega)) (fun j hj => z_AR h6 hAd0 (by omega))⟩) (Nat.le_refl _) (Nat.le_refl _) mrq_d49
    · have q9_ : i.toInt < fo.toInt := Int.not_le.mp fun q => q9 (x_le32.mpr q)
      refine lv_aload_n hx hb mrq_d12 rfl (lv_at hl 2 rfl) ?_
      refine y_getf X (fl147 X.2.2.2.2.1) hI.1 hY_this rfl hs_rd mrq_d13 ?_
      refine lv_iload_n hx hb mrq_d16 rfl (lv_at hl 0 rfl) ?_
      refine y_iald X hI.1 hY_rd rfl hA_rd (by omega) (by show _ < (1024 : Int); omega) mrq_d17 ?_
      obtain ⟨e17, hg_e17⟩ : ∃ e17 : Int32, Fz i.toInt.toNat = e17 := ⟨_, rfl⟩
      rw [hg_e17]
      have h_e17 : ((-1) : Int) ≤ e17.toInt ∧ e17.toInt ≤ 8 := by rw [← hg_e17]; exact hB_rd _ (by omega)
      refine lv_iload_n hx hb mrq_d18 rfl (lv_at hl 1 rfl) ?_
      refine lv_icmp_le hx hb mrq_d19 (tgt := 42) (by decide) (fun q19 => ?_) (fun q19 => ?_)
      · have q19_ : e17.toInt ≤ al.toInt := x_le32.mp q19
        obtain ⟨z42, hg_z42⟩ : ∃ z42 : Int32, i + Int32.ofInt 1 = z42 := ⟨_, rfl⟩
        have h_z42 : z42.toInt = i.toInt + 1 := by rw [← hg_z42]; exact y_inc (by decide) (by omega) (by omega)
        refine lv_iinc hx hb mrq_d42 hl (k := 0) rfl hg_z42 (by decide) (lv' := [(3, .int z42), (2, .int al), (0, .ref this), (1, .int u)]) rfl fun ls hl => ?_
        refine lv_goto hx hb mrq_d45 (tgt := 4) (by decide) ?_
        have his : z42.toInt = i.toInt + 1 := by omega
        exact ih _ _ _ _ _ _ hI hY_this hY_sr hY_rd hs_sr hs_rd hsi_found hA_sr hA_rd (lv_sub hl [0, 1, 2, 3] rfl) (by first | assumption | omega) (by first | assumption | omega) (hal.skip hi.1 his (fun h9 => by first | (rw [hg_e17]; omega) | (rw [hg_e28, m_b0 ((Eq.trans hg_r29) (by assumption))] at h9; cases h9))) (by omega)
      · have q19_ : al.toInt < e17.toInt := Int.not_le.mp fun q => q19 (x_le32.mpr q)
        refine lv_iload_n hx hb mrq_d22 rfl (lv_at hl 3 rfl) ?_
        refine lv_aload_n hx hb mrq_d23 rfl (lv_at hl 2 rfl) ?_
        refine y_getf X (fl135 X.2.2.2.2.1) hI.1 hY_this rfl hs_sr mrq_d24 ?_
        refine lv_iload_n hx hb mrq_d27 rfl (lv_at hl 0 rfl) ?_
        refine y_iald X hI.1 hY_sr rfl hA_sr (by omega) (by show _ < (1024 : Int); omega) mrq_d28 ?_
        obtain ⟨e28, hg_e28⟩ : ∃ e28 : Int32, fr i.toInt.toNat = e28 := ⟨_, rfl⟩
        rw [hg_e28]
        have h_e28 : (0 : Int) ≤ e28.toInt ∧ e28.toInt ≤ 1023 := by rw [← hg_e28]; exact hB_sr _ (by omega)
        refine y_call (z := (1, 52, 2, none, xM94)) (av := [.int u, .int e28]) (rest := []) (y_cokS (n := 2) X ym_isNear (x_cons (x_bw49 14 rfl rfl) (x_cons (x_bw49 15 rfl rfl) (x_cons (x_bw0 8 rfl rfl) x_nilm))) (x_bw50 0 rfl rfl) (by decide +kernel) ⟨Nat.le_of_ble_eq_true rfl, Nat.le_of_ble_eq_true rfl⟩) hY0 hI rfl mrq_d29 hl.1 (Nat.le_of_ble_eq_true rfl) (Nat.le_of_ble_eq_true rfl) (Nat.le_of_ble_eq_true rfl) (y_cons ⟨_, rfl, x_i32 _⟩ (y_cons ⟨_, rfl, x_i32 _⟩ y_nil)) rfl (y_norecv rfl) trivial (y_sub_ef rfl) fun v Yn o Hn L ho hr ha hIn hx_ hE hP => ?_
        have hPn := hP _ _ rfl
        obtain rfl := hPn
        replace hs_sr := y_Efld hE hY_this rfl (by decide) (by decide) hs_sr
        replace hs_rd := y_Efld hE hY_this rfl (by decide) (by decide) hs_rd
        replace hsi_found := y_Efld hE hY_this rfl (by decide) (by decide) hsi_found
        replace hA_sr := hA_sr.kept (y_Earr hE hY_sr rfl (by decide))
        replace hA_rd := hA_rd.kept (y_Earr hE hY_rd rfl (by decide))
        replace hY_this := y_ext hx_ hI.1 hY_this
        replace hY_sr := y_ext hx_ hI.1 hY_sr
        replace hY_rd := y_ext hx_ hI.1 hY_rd
        generalize hg_r29 : m_b (m_nr u e28) = r29
        clear ho hr ha hE hP hI hx_
        rename x_I _ _ _ _ _ _ _ _ _ _ => hI
        have ec0 : (0 : Int32).toInt = 0 := by decide
        refine lv_if_eq hx hb mrq_d32 (tgt := 42) (by decide) (fun q32 => ?_) (fun q32 => ?_)
        · have q32_ : r29.toInt = (0 : Int32).toInt := by rw [q32]
          obtain ⟨z42, hg_z42⟩ : ∃ z42 : Int32, i + Int32.ofInt 1 = z42 := ⟨_, rfl⟩
          have h_z42 : z42.toInt = i.toInt + 1 := by rw [← hg_z42]; exact y_inc (by decide) (by omega) (by omega)
          refine lv_iinc hx hb mrq_d42 hl (k := 0) rfl hg_z42 (by decide) (lv' := [(3, .int z42), (2, .int al), (0, .ref this), (1, .int u)]) rfl fun ls hl => ?_
          refine lv_goto hx hb mrq_d45 (tgt := 4) (by decide) ?_
          have his : z42.toInt = i.toInt + 1 := by omega
          exact ih _ _ _ _ _ _ hI hY_this hY_sr hY_rd hs_sr hs_rd hsi_found hA_sr hA_rd (lv_sub hl [0, 1, 2, 3] rfl) (by first | assumption | omega) (by first | assumption | omega) (hal.skip hi.1 his (fun h9 => by first | (rw [hg_e17]; omega) | (rw [hg_e28, m_b0 ((Eq.trans hg_r29) (by assumption))] at h9; cases h9))) (by omega)
        · have q32_ : ¬ r29.toInt = (0 : Int32).toInt := fun q => q32 (Int32.toInt_inj.mp q)
          refine lv_aload_n hx hb mrq_d35 rfl (lv_at hl 2 rfl) ?_
          refine y_getf X (fl147 X.2.2.2.2.1) hI.1 hY_this rfl hs_rd mrq_d36 ?_
          refine lv_iload_n hx hb mrq_d39 rfl (lv_at hl 0 rfl) ?_
          refine y_iald X hI.1 hY_rd rfl hA_rd (by omega) (by show _ < (1024 : Int); omega) mrq_d40 ?_
          obtain ⟨e40, hg_e40⟩ : ∃ e40 : Int32, Fz i.toInt.toNat = e40 := ⟨_, rfl⟩
          rw [hg_e40]
          have h_e40 : ((-1) : Int) ≤ e40.toInt ∧ e40.toInt ≤ 8 := by rw [← hg_e40]; exact hB_rd _ (by omega)
          refine lv_istore_n hx hb mrq_d41 rfl hl (by decide) (lv' := [(2, .int e40), (3, .int i), (0, .ref this), (1, .int u)]) rfl fun ls hl => ?_
          obtain ⟨z42, hg_z42⟩ : ∃ z42 : Int32, i + Int32.ofInt 1 = z42 := ⟨_, rfl⟩
          have h_z42 : z42.toInt = i.toInt + 1 := by rw [← hg_z42]; exact y_inc (by decide) (by omega) (by omega)
          refine lv_iinc hx hb mrq_d42 hl (k := 1) rfl hg_z42 (by decide) (lv' := [(3, .int z42), (2, .int e40), (0, .ref this), (1, .int u)]) rfl fun ls hl => ?_
          refine lv_goto hx hb mrq_d45 (tgt := 4) (by decide) ?_
          have his : z42.toInt = i.toInt + 1 := by omega
          exact ih _ _ _ _ _ _ hI hY_this hY_sr hY_rd hs_sr hs_rd hsi_found hA_sr hA_rd (lv_sub hl [0, 1, 2, 3] rfl) (by first | assumption | omega) (by first | assumption | omega) (by rw [← hg_e40]; exact hal.take hi.1 his (by rw [hg_e28]; exact m_bn (fun q => absurd ((Eq.trans (Eq.symm hg_r29)) q) (by assumption))) (by rw [hg_e17]; omega)) (by omega)
theorem ym_mostRead : y_Met vwCl x_G x_Zs x_Tb x_Nb xM112 y_T z_Pmr9 := by
  refine y_main (by decide +kernel) (by decide +kernel) x_Tb_good x_Nb_ok ?_
  intro p l e s m below meth c D U Y0 av ls B hI _ hl
  have X := B.1
  have hx := X.1
  have hb := X.2.1
  have hY0 := B.2.2.2.2.1
  obtain ⟨v0, v1, rfl, hv0, ⟨u, rfl, -⟩⟩ := x_two B.2.2.2.2.2
  obtain ⟨this, t0, rfl, ht0, hY_this⟩ := x_ref_at hv0 rfl
  obtain rfl := List.mem_singleton.mp ht0
  replace hl : lv_has ls xM112.2.2.1 [(0, .ref this), (1, .int u)] := hl
  obtain ⟨sr, hs_sr, hY_sr⟩ := y_fldR (k := 0) hI.1 hY_this rfl rfl
  obtain ⟨rd, hs_rd, hY_rd⟩ := y_fldR (k := 4) hI.1 hY_this rfl rfl
  obtain ⟨fr, hA_sr, hB_sr⟩ := y_arr hI.1 hY_sr rfl rfl
  replace hB_sr : ∀ j, j < 1024 → (0 : Int) ≤ (fr j).toInt ∧ (fr j).toInt ≤ 1023 := fun j hj => by obtain ⟨x, e0, e1⟩ := hB_sr j hj; cases e0; exact e1
  obtain ⟨Fz, hA_rd, hB_rd⟩ := y_arr hI.1 hY_rd rfl rfl
  replace hB_rd : ∀ j, j < 1024 → (-1 : Int) ≤ (Fz j).toInt ∧ (Fz j).toInt ≤ 8 := fun j hj => by obtain ⟨x, e0, e1⟩ := hB_rd j hj; cases e0; exact e1
  obtain ⟨fo, hsi_found, hfo9⟩ := y_fldI (k := 1) hI.1 hY_this rfl rfl
  replace hfo9 : (0 : Int) ≤ fo.toInt ∧ fo.toInt ≤ 1024 := hfo9
  have hsr := hs_sr
  have hA0 := hA_sr
  have hfo0 := hsi_found
  have hsd0 := hs_rd
  have hAd0 := hA_rd
  refine lv_iconst hx hb mrq_d0 (v := (-1)) (by decide) ?_
  have ecm1 : ((-1) : Int32).toInt = (-1) := by decide
  refine lv_istore_n hx hb mrq_d1 rfl hl (by decide) (lv' := [(2, .int ((-1) : Int32)), (0, .ref this), (1, .int u)]) rfl fun ls hl => ?_
  refine lv_iconst hx hb mrq_d2 (v := 0) (by decide) ?_
  have ec0 : (0 : Int32).toInt = 0 := by decide
  refine lv_istore_n hx hb mrq_d3 rfl hl (by decide) (lv' := [(3, .int (0 : Int32)), (2, .int ((-1) : Int32)), (0, .ref this), (1, .int u)]) rfl fun ls hl => ?_
  exact mrq_L4 B rfl hsr hfo0 hA0 hsd0 hAd0 hfo9 hB_sr hB_rd 1026 _ _ _ _ _ _ hI hY_this hY_sr hY_rd hs_sr hs_rd hsi_found hA_sr hA_rd (lv_sub hl [0, 1, 2, 3] rfl) (by first | assumption | omega) (by first | assumption | omega) ⟨fun j hj => absurd hj (by omega), Or.inl rfl⟩ (by omega)
def z_Pia9 : yP := fun D av _ H v _ _ => ∀ (this sr rd : Nat) (u fo : Int32) (fr F : Nat → Int32), av = [.ref this, .int u] → x_sl D 5 0 this H = some (.ref sr) → x_sl D 5 1 this H = some (.int fo) → y_A sr 1024 H fr → x_sl D 5 4 this H = some (.ref rd) → y_A rd 1024 H F → (v = some (.int 1) ∧ ∃ k : Nat, (k : Int) < fo.toInt ∧ F k = u) ∨ (v = some (.int 0) ∧ ∀ k : Nat, (k : Int) < fo.toInt → ¬ F k = u)
theorem iarq_d0 : decode xM114.2.1 0 = .ok (.iconst 0, 1) := dz_ok (by decide +kernel)
theorem iarq_d1 : decode xM114.2.1 1 = .ok (.istore_n 2, 1) := dz_ok (by decide +kernel)
theorem iarq_d2 : decode xM114.2.1 2 = .ok (.iload_n 2, 1) := dz_ok (by decide +kernel)
theorem iarq_d3 : decode xM114.2.1 3 = .ok (.aload_n 0, 1) := dz_ok (by decide +kernel)
theorem iarq_d4 : decode xM114.2.1 4 = .ok (.getfield 27, 3) := dz_ok (by decide +kernel)
theorem iarq_d7 : decode xM114.2.1 7 = .ok (.if_icmp .ge 21, 3) := dz_ok (by decide +kernel)
theorem iarq_d10 : decode xM114.2.1 10 = .ok (.aload_n 0, 1) := dz_ok (by decide +kernel)
theorem iarq_d11 : decode xM114.2.1 11 = .ok (.getfield 21, 3) := dz_ok (by decide +kernel)
theorem iarq_d14 : decode xM114.2.1 14 = .ok (.iload_n 2, 1) := dz_ok (by decide +kernel)
theorem iarq_d15 : decode xM114.2.1 15 = .ok (.iaload, 1) := dz_ok (by decide +kernel)
theorem iarq_d16 : decode xM114.2.1 16 = .ok (.iload_n 1, 1) := dz_ok (by decide +kernel)
theorem iarq_d17 : decode xM114.2.1 17 = .ok (.if_icmp .ne 5, 3) := dz_ok (by decide +kernel)
theorem iarq_d20 : decode xM114.2.1 20 = .ok (.iconst 1, 1) := dz_ok (by decide +kernel)
theorem iarq_d21 : decode xM114.2.1 21 = .ok (.ireturn, 1) := dz_ok (by decide +kernel)
theorem iarq_d22 : decode xM114.2.1 22 = .ok (.iinc 2 1, 3) := dz_ok (by decide +kernel)
theorem iarq_d25 : decode xM114.2.1 25 = .ok (.goto (-23), 3) := dz_ok (by decide +kernel)
theorem iarq_d28 : decode xM114.2.1 28 = .ok (.iconst 0, 1) := dz_ok (by decide +kernel)
theorem iarq_d29 : decode xM114.2.1 29 = .ok (.ireturn, 1) := dz_ok (by decide +kernel)
theorem iarq_L2 {p : Program} {l : Launch} {e : Env} {s : State} {m : MethodId} {below : List Frame} {meth : Method} {c : Code} {D : va_G} {U : State} {Y0 : xY} {av : List Value} (B : y_B vwCl x_Tb x_Nb xM114 p s m meth c D U Y0 av) {this sr rd : Nat} {u fo : Int32} {fr Fz : Nat → Int32} (hav : av = [.ref this, .int u]) (hsr : x_sl D 5 0 this s.heap = some (.ref sr)) (hfo0 : x_sl D 5 1 this s.heap = some (.int fo)) (hA0 : y_A sr 1024 s.heap fr) (hsd0 : x_sl D 5 4 this s.heap = some (.ref rd)) (hAd0 : y_A rd 1024 s.heap Fz) (hfo9 : 0 ≤ fo.toInt ∧ fo.toInt ≤ 1024) (hB_sr : ∀ j, j < 1024 → (0 : Int) ≤ (fr j).toInt ∧ (fr j).toInt ≤ 1023) (hB_rd : ∀ j, j < 1024 → (-1 : Int) ≤ (Fz j).toInt ∧ (Fz j).toInt ≤ 8)  :
    ∀ (n : Nat), ∀ (H : Heap) (Y : xY) (locs : List Loc) (ls : Array Slot) (i : Int32), x_I D x_G x_Zs U (x_efs xM114) Y0 s.heap Y H locs → Y this = some 8 → Y sr = some 35 → Y rd = some 38 → x_sl D 5 0 this H = some (.ref sr) → x_sl D 5 4 this H = some (.ref rd) → x_sl D 5 1 this H = some (.int fo) → y_A sr 1024 H fr → y_A rd 1024 H Fz → lv_has ls xM114.2.2.1 [(2, .int i), (0, .ref this), (1, .int u)] → (0 ≤ i.toInt ∧ i.toInt ≤ fo.toInt) → (∀ k : Nat, (k : Int) < i.toInt → ¬ Fz k = u) → (1025 - i.toInt).toNat < n → W p l e (x_rm xM114) s m av.toArray below meth c H locs 0 0 (y_QQ below D x_G x_Zs U xM114 z_Pia9 av Y0 s) (F0 m 2 ls []) := by
  have X := B.1
  have hx := X.1
  have hb := X.2.1
  have hY0 := B.2.2.2.2.1
  intro n
  induction n with
  | zero => intro _ _ _ _ _ _ _ _ _ _ _ _ _ _ _ _ _ h; exact absurd h (Nat.not_lt_zero _)
  | succ n ih =>
    intro H Y locs ls i  hI hY_this hY_sr hY_rd hs_sr hs_rd hsi_found hA_sr hA_rd hl hi hno hn
    refine lv_iload_n hx hb iarq_d2 rfl (lv_at hl 0 rfl) ?_
    refine lv_aload_n hx hb iarq_d3 rfl (lv_at hl 1 rfl) ?_
    refine y_getf X (fl136 X.2.2.2.2.1) hI.1 hY_this rfl hsi_found iarq_d4 ?_
    refine lv_icmp_ge hx hb iarq_d7 (tgt := 28) (by decide) (fun q7 => ?_) (fun q7 => ?_)
    · have q7_ : fo.toInt ≤ i.toInt := x_le32.mp q7
      refine lv_iconst hx hb iarq_d28 (v := 0) (by decide) ?_
      have ec0 : (0 : Int32).toInt = 0 := by decide
      subst hav
      exact y_ireturn B hI rfl rfl rfl (List.mem_cons_of_mem _ List.mem_cons_self) ⟨_, rfl, ⟨_, rfl, by decide, by decide⟩⟩ (x_cs.mono B.2.2.2.2.2 (y_mon B hI)) (fun t' s' d' u' o' r' F' h1 h2 h3 h4 h5 h6 => by cases h1; cases h2.symm.trans hsr; cases h3.symm.trans hfo0; cases h5.symm.trans hsd0; exact Or.inr ⟨rfl, fun k hk => by rw [z_AR h6 hAd0 (show k < 1024 by omega)]; exact hno k (by omega)⟩) (Nat.le_refl _) (Nat.le_refl _) iarq_d29
    · have q7_ : i.toInt < fo.toInt := Int.not_le.mp fun q => q7 (x_le32.mpr q)
      refine lv_aload_n hx hb iarq_d10 rfl (lv_at hl 1 rfl) ?_
      refine y_getf X (fl147 X.2.2.2.2.1) hI.1 hY_this rfl hs_rd iarq_d11 ?_
      refine lv_iload_n hx hb iarq_d14 rfl (lv_at hl 0 rfl) ?_
      refine y_iald X hI.1 hY_rd rfl hA_rd (by omega) (by show _ < (1024 : Int); omega) iarq_d15 ?_
      obtain ⟨e15, hg_e15⟩ : ∃ e15 : Int32, Fz i.toInt.toNat = e15 := ⟨_, rfl⟩
      rw [hg_e15]
      have h_e15 : ((-1) : Int) ≤ e15.toInt ∧ e15.toInt ≤ 8 := by rw [← hg_e15]; exact hB_rd _ (by omega)
      refine lv_iload_n hx hb iarq_d16 rfl (lv_at hl 2 rfl) ?_
      refine lv_icmp_ne hx hb iarq_d17 (tgt := 22) (by decide) (fun q17 => ?_) (fun q17 => ?_)
      · have q17_ : ¬ e15.toInt = u.toInt := fun q => q17 (Int32.toInt_inj.mp q)
        obtain ⟨z22, hg_z22⟩ : ∃ z22 : Int32, i + Int32.ofInt 1 = z22 := ⟨_, rfl⟩
        have h_z22 : z22.toInt = i.toInt + 1 := by rw [← hg_z22]; exact y_inc (by decide) (by omega) (by omega)
        refine lv_iinc hx hb iarq_d22 hl (k := 0) rfl hg_z22 (by decide) (lv' := [(2, .int z22), (0, .ref this), (1, .int u)]) rfl fun ls hl => ?_
        refine lv_goto hx hb iarq_d25 (tgt := 2) (by decide) ?_
        have his : z22.toInt = i.toInt + 1 := by omega
        exact ih _ _ _ _ _ hI hY_this hY_sr hY_rd hs_sr hs_rd hsi_found hA_sr hA_rd (lv_sub hl [0, 1, 2] rfl) (by first | assumption | omega) (fun k hk => by by_cases e : k = i.toInt.toNat; (rw [e, hg_e15]; assumption); exact hno k (by omega)) (by omega)
      · have q17_ : e15.toInt = u.toInt := by rw [q17]
        refine lv_iconst hx hb iarq_d20 (v := 1) (by decide) ?_
        have ec1 : (1 : Int32).toInt = 1 := by decide
        subst hav
        exact y_ireturn B hI rfl rfl rfl List.mem_cons_self ⟨_, rfl, ⟨_, rfl, by decide, by decide⟩⟩ (x_cs.mono B.2.2.2.2.2 (y_mon B hI)) (fun t' s' d' u' o' r' F' h1 h2 h3 h4 h5 h6 => by cases h1; cases h2.symm.trans hsr; cases h3.symm.trans hfo0; cases h5.symm.trans hsd0; exact Or.inl ⟨rfl, i.toInt.toNat, by omega, by rw [z_AR h6 hAd0 (show i.toInt.toNat < 1024 by omega), hg_e15]; assumption⟩) (Nat.le_refl _) (Nat.le_refl _) iarq_d21
theorem ym_isAllRead : y_Met vwCl x_G x_Zs x_Tb x_Nb xM114 y_T z_Pia9 := by
  refine y_main (by decide +kernel) (by decide +kernel) x_Tb_good x_Nb_ok ?_
  intro p l e s m below meth c D U Y0 av ls B hI _ hl
  have X := B.1
  have hx := X.1
  have hb := X.2.1
  have hY0 := B.2.2.2.2.1
  obtain ⟨v0, v1, rfl, hv0, ⟨u, rfl, -⟩⟩ := x_two B.2.2.2.2.2
  obtain ⟨this, t0, rfl, ht0, hY_this⟩ := x_ref_at hv0 rfl
  obtain rfl := List.mem_singleton.mp ht0
  replace hl : lv_has ls xM114.2.2.1 [(0, .ref this), (1, .int u)] := hl
  obtain ⟨sr, hs_sr, hY_sr⟩ := y_fldR (k := 0) hI.1 hY_this rfl rfl
  obtain ⟨rd, hs_rd, hY_rd⟩ := y_fldR (k := 4) hI.1 hY_this rfl rfl
  obtain ⟨fr, hA_sr, hB_sr⟩ := y_arr hI.1 hY_sr rfl rfl
  replace hB_sr : ∀ j, j < 1024 → (0 : Int) ≤ (fr j).toInt ∧ (fr j).toInt ≤ 1023 := fun j hj => by obtain ⟨x, e0, e1⟩ := hB_sr j hj; cases e0; exact e1
  obtain ⟨Fz, hA_rd, hB_rd⟩ := y_arr hI.1 hY_rd rfl rfl
  replace hB_rd : ∀ j, j < 1024 → (-1 : Int) ≤ (Fz j).toInt ∧ (Fz j).toInt ≤ 8 := fun j hj => by obtain ⟨x, e0, e1⟩ := hB_rd j hj; cases e0; exact e1
  obtain ⟨fo, hsi_found, hfo9⟩ := y_fldI (k := 1) hI.1 hY_this rfl rfl
  replace hfo9 : (0 : Int) ≤ fo.toInt ∧ fo.toInt ≤ 1024 := hfo9
  have hsr := hs_sr
  have hA0 := hA_sr
  have hfo0 := hsi_found
  have hsd0 := hs_rd
  have hAd0 := hA_rd
  refine lv_iconst hx hb iarq_d0 (v := 0) (by decide) ?_
  have ec0 : (0 : Int32).toInt = 0 := by decide
  refine lv_istore_n hx hb iarq_d1 rfl hl (by decide) (lv' := [(2, .int (0 : Int32)), (0, .ref this), (1, .int u)]) rfl fun ls hl => ?_
  exact iarq_L2 B rfl hsr hfo0 hA0 hsd0 hAd0 hfo9 hB_sr hB_rd 1026 _ _ _ _ _ hI hY_this hY_sr hY_rd hs_sr hs_rd hsi_found hA_sr hA_rd (lv_sub hl [0, 1, 2] rfl) (by first | assumption | omega) (fun k hk => absurd hk (by omega)) (by omega)
def z_Poh9 : yP := fun D av Y H v _ H' => ∀ (this ld sr rd rn : Nat) (sn fo : Int32) (fr F f : Nat → Int32), av = [.ref this, .ref ld, .int sn] → x_sl D 5 0 this H = some (.ref sr) → x_sl D 5 1 this H = some (.int fo) → y_A sr 1024 H fr → x_sl D 5 4 this H = some (.ref rd) → y_A rd 1024 H F → x_sl D 5 5 this H = some (.ref rn) → rd ≠ rn → z_L D Y ld H f → ∃ r : Int32, v = some (.int r) ∧ ∃ F' : Nat → Int32, x_sl D 5 4 this H' = some (.ref rn) ∧ x_sl D 5 5 this H' = some (.ref rd) ∧ y_A rn 1024 H' F' ∧ (∀ j, j < 1024 → (-1 : Int) ≤ (F' j).toInt ∧ (F' j).toInt ≤ 8) ∧ m_hrn f sn fo fr F F' ∧ m_yn r (∃ k : Nat, (k : Int) < fo.toInt ∧ ¬ F' k = F k) (∀ k : Nat, (k : Int) < fo.toInt → F' k = F k)
theorem ohq_d0 : decode xM113.2.1 0 = .ok (.iconst 0, 1) := dz_ok (by decide +kernel)
theorem ohq_d1 : decode xM113.2.1 1 = .ok (.istore_n 3, 1) := dz_ok (by decide +kernel)
theorem ohq_d2 : decode xM113.2.1 2 = .ok (.iconst 0, 1) := dz_ok (by decide +kernel)
theorem ohq_d3 : decode xM113.2.1 3 = .ok (.istore 4, 2) := dz_ok (by decide +kernel)
theorem ohq_d5 : decode xM113.2.1 5 = .ok (.iload 4, 2) := dz_ok (by decide +kernel)
theorem ohq_d7 : decode xM113.2.1 7 = .ok (.aload_n 0, 1) := dz_ok (by decide +kernel)
theorem ohq_d8 : decode xM113.2.1 8 = .ok (.getfield 27, 3) := dz_ok (by decide +kernel)
theorem ohq_d11 : decode xM113.2.1 11 = .ok (.if_icmp .ge 79, 3) := dz_ok (by decide +kernel)
theorem ohq_d14 : decode xM113.2.1 14 = .ok (.aload_n 0, 1) := dz_ok (by decide +kernel)
theorem ohq_d15 : decode xM113.2.1 15 = .ok (.aload_n 0, 1) := dz_ok (by decide +kernel)
theorem ohq_d16 : decode xM113.2.1 16 = .ok (.getfield 9, 3) := dz_ok (by decide +kernel)
theorem ohq_d19 : decode xM113.2.1 19 = .ok (.iload 4, 2) := dz_ok (by decide +kernel)
theorem ohq_d21 : decode xM113.2.1 21 = .ok (.iaload, 1) := dz_ok (by decide +kernel)
theorem ohq_d22 : decode xM113.2.1 22 = .ok (.invokevirtual 109, 3) := dz_ok (by decide +kernel)
theorem ohq_d25 : decode xM113.2.1 25 = .ok (.istore 5, 2) := dz_ok (by decide +kernel)
theorem ohq_d27 : decode xM113.2.1 27 = .ok (.aload_n 0, 1) := dz_ok (by decide +kernel)
theorem ohq_d28 : decode xM113.2.1 28 = .ok (.getfield 24, 3) := dz_ok (by decide +kernel)
theorem ohq_d31 : decode xM113.2.1 31 = .ok (.iload 4, 2) := dz_ok (by decide +kernel)
theorem ohq_d33 : decode xM113.2.1 33 = .ok (.iload 5, 2) := dz_ok (by decide +kernel)
theorem ohq_d35 : decode xM113.2.1 35 = .ok (.iconst (-1), 1) := dz_ok (by decide +kernel)
theorem ohq_d36 : decode xM113.2.1 36 = .ok (.if_icmp .ne 7, 3) := dz_ok (by decide +kernel)
theorem ohq_d39 : decode xM113.2.1 39 = .ok (.iconst (-1), 1) := dz_ok (by decide +kernel)
theorem ohq_d40 : decode xM113.2.1 40 = .ok (.goto 18, 3) := dz_ok (by decide +kernel)
theorem ohq_d43 : decode xM113.2.1 43 = .ok (.aload_n 1, 1) := dz_ok (by decide +kernel)
theorem ohq_d44 : decode xM113.2.1 44 = .ok (.iload 5, 2) := dz_ok (by decide +kernel)
theorem ohq_d46 : decode xM113.2.1 46 = .ok (.aload_n 0, 1) := dz_ok (by decide +kernel)
theorem ohq_d47 : decode xM113.2.1 47 = .ok (.getfield 9, 3) := dz_ok (by decide +kernel)
theorem ohq_d50 : decode xM113.2.1 50 = .ok (.iload 4, 2) := dz_ok (by decide +kernel)
theorem ohq_d52 : decode xM113.2.1 52 = .ok (.iaload, 1) := dz_ok (by decide +kernel)
theorem ohq_d53 : decode xM113.2.1 53 = .ok (.iload_n 2, 1) := dz_ok (by decide +kernel)
theorem ohq_d54 : decode xM113.2.1 54 = .ok (.iand, 1) := dz_ok (by decide +kernel)
theorem ohq_d55 : decode xM113.2.1 55 = .ok (.invokestatic 95, 3) := dz_ok (by decide +kernel)
theorem ohq_d58 : decode xM113.2.1 58 = .ok (.iastore, 1) := dz_ok (by decide +kernel)
theorem ohq_d59 : decode xM113.2.1 59 = .ok (.iload_n 3, 1) := dz_ok (by decide +kernel)
theorem ohq_d60 : decode xM113.2.1 60 = .ok (.aload_n 0, 1) := dz_ok (by decide +kernel)
theorem ohq_d61 : decode xM113.2.1 61 = .ok (.getfield 24, 3) := dz_ok (by decide +kernel)
theorem ohq_d64 : decode xM113.2.1 64 = .ok (.iload 4, 2) := dz_ok (by decide +kernel)
theorem ohq_d66 : decode xM113.2.1 66 = .ok (.iaload, 1) := dz_ok (by decide +kernel)
theorem ohq_d67 : decode xM113.2.1 67 = .ok (.aload_n 0, 1) := dz_ok (by decide +kernel)
theorem ohq_d68 : decode xM113.2.1 68 = .ok (.getfield 21, 3) := dz_ok (by decide +kernel)
theorem ohq_d71 : decode xM113.2.1 71 = .ok (.iload 4, 2) := dz_ok (by decide +kernel)
theorem ohq_d73 : decode xM113.2.1 73 = .ok (.iaload, 1) := dz_ok (by decide +kernel)
theorem ohq_d74 : decode xM113.2.1 74 = .ok (.if_icmp .eq 7, 3) := dz_ok (by decide +kernel)
theorem ohq_d77 : decode xM113.2.1 77 = .ok (.iconst 1, 1) := dz_ok (by decide +kernel)
theorem ohq_d78 : decode xM113.2.1 78 = .ok (.goto 4, 3) := dz_ok (by decide +kernel)
theorem ohq_d81 : decode xM113.2.1 81 = .ok (.iconst 0, 1) := dz_ok (by decide +kernel)
theorem ohq_d82 : decode xM113.2.1 82 = .ok (.ior, 1) := dz_ok (by decide +kernel)
theorem ohq_d83 : decode xM113.2.1 83 = .ok (.istore_n 3, 1) := dz_ok (by decide +kernel)
theorem ohq_d84 : decode xM113.2.1 84 = .ok (.iinc 4 1, 3) := dz_ok (by decide +kernel)
theorem ohq_d87 : decode xM113.2.1 87 = .ok (.goto (-82), 3) := dz_ok (by decide +kernel)
theorem ohq_d90 : decode xM113.2.1 90 = .ok (.aload_n 0, 1) := dz_ok (by decide +kernel)
theorem ohq_d91 : decode xM113.2.1 91 = .ok (.getfield 21, 3) := dz_ok (by decide +kernel)
theorem ohq_d94 : decode xM113.2.1 94 = .ok (.astore 4, 2) := dz_ok (by decide +kernel)
theorem ohq_d96 : decode xM113.2.1 96 = .ok (.aload_n 0, 1) := dz_ok (by decide +kernel)
theorem ohq_d97 : decode xM113.2.1 97 = .ok (.aload_n 0, 1) := dz_ok (by decide +kernel)
theorem ohq_d98 : decode xM113.2.1 98 = .ok (.getfield 24, 3) := dz_ok (by decide +kernel)
theorem ohq_d101 : decode xM113.2.1 101 = .ok (.putfield 21, 3) := dz_ok (by decide +kernel)
theorem ohq_d104 : decode xM113.2.1 104 = .ok (.aload_n 0, 1) := dz_ok (by decide +kernel)
theorem ohq_d105 : decode xM113.2.1 105 = .ok (.aload 4, 2) := dz_ok (by decide +kernel)
theorem ohq_d107 : decode xM113.2.1 107 = .ok (.putfield 24, 3) := dz_ok (by decide +kernel)
theorem ohq_d110 : decode xM113.2.1 110 = .ok (.iload_n 3, 1) := dz_ok (by decide +kernel)
theorem ohq_d111 : decode xM113.2.1 111 = .ok (.ireturn, 1) := dz_ok (by decide +kernel)
def z_Arr : yA := fun D av Y H => (∀ q : Nat, av[1]? = some (.ref q) → ∃ f, z_L D Y q H f) ∧ ∀ q rd rn : Nat, av[0]? = some (.ref q) → x_sl D 5 4 q H = some (.ref rd) → x_sl D 5 5 q H = some (.ref rn) → rd ≠ rn
theorem ohq_L5 {p : Program} {l : Launch} {e : Env} {s : State} {m : MethodId} {below : List Frame} {meth : Method} {c : Code} {D : va_G} {U : State} {Y0 : xY} {av : List Value} (B : y_B vwCl x_Tb x_Nb xM113 p s m meth c D U Y0 av) {this ld sr rd rn : Nat} {sn fo : Int32} {fr Fz f : Nat → Int32} (hav : av = [.ref this, .ref ld, .int sn]) (hL0 : z_L D Y0 ld s.heap f) (hsr : x_sl D 5 0 this s.heap = some (.ref sr)) (hfo0 : x_sl D 5 1 this s.heap = some (.int fo)) (hA0 : y_A sr 1024 s.heap fr) (hsd0 : x_sl D 5 4 this s.heap = some (.ref rd)) (hAd0 : y_A rd 1024 s.heap Fz) (hsn0 : x_sl D 5 5 this s.heap = some (.ref rn)) (hrr : rd ≠ rn) (hfo9 : 0 ≤ fo.toInt ∧ fo.toInt ≤ 1024) (hB_sr : ∀ j, j < 1024 → (0 : Int) ≤ (fr j).toInt ∧ (fr j).toInt ≤ 1023) (hB_rd : ∀ j, j < 1024 → (-1 : Int) ≤ (Fz j).toInt ∧ (Fz j).toInt ≤ 8)  :
    ∀ (n : Nat), ∀ (H : Heap) (Y : xY) (locs : List Loc) (ls : Array Slot) (k : Int32) (nw : Int32) (fn : Nat → Int32), x_I D x_G x_Zs U (x_efs xM113) Y0 s.heap Y H locs → Y this = some 8 → Y ld = some 2 → Y sr = some 35 → Y rd = some 38 → Y rn = some 38 → x_sl D 5 0 this H = some (.ref sr) → x_sl D 5 4 this H = some (.ref rd) → x_sl D 5 5 this H = some (.ref rn) → x_sl D 5 1 this H = some (.int fo) → y_A sr 1024 H fr → y_A rd 1024 H Fz → y_A rn 1024 H fn → z_L D Y ld H f → lv_has ls xM113.2.2.1 [(4, .int k), (3, .int nw), (0, .ref this), (1, .ref ld), (2, .int sn)] → (∀ j, j < 1024 → ((-1) : Int) ≤ (fn j).toInt ∧ (fn j).toInt ≤ 8) → (0 ≤ k.toInt ∧ k.toInt ≤ fo.toInt) → (0 ≤ nw.toInt ∧ nw.toInt ≤ 1) → (∀ j : Nat, (j : Int) < k.toInt → ∃ b, m_bst fo fr Fz (fr j) b ∧ fn j = m_rb f sn (fr j) b) → (nw = 0 → ∀ j : Nat, (j : Int) < k.toInt → fn j = Fz j) → (nw = 1 → ∃ j : Nat, (j : Int) < k.toInt ∧ ¬ fn j = Fz j) → (1025 - k.toInt).toNat < n → W p l e (x_rm xM113) s m av.toArray below meth c H locs 0 0 (y_QQ below D x_G x_Zs U xM113 z_Poh9 av Y0 s) (F0 m 5 ls []) := by
  have X := B.1
  have hx := X.1
  have hb := X.2.1
  have hY0 := B.2.2.2.2.1
  intro n
  induction n with
  | zero => intro _ _ _ _ _ _ _ _ _ _ _ _ _ _ _ _ _ _ _ _ _ _ _ _ _ _ _ _ h; exact absurd h (Nat.not_lt_zero _)
  | succ n ih =>
    intro H Y locs ls k nw fn hI hY_this hY_ld hY_sr hY_rd hY_rn hs_sr hs_rd hs_rn hsi_found hA_sr hA_rd hA_rn hL hl hB_rn hk hnw hhr hw0 hw1 hn
    refine lv_iload hx hb ohq_d5 (lv_at hl 0 rfl) ?_
    refine lv_aload_n hx hb ohq_d7 rfl (lv_at hl 2 rfl) ?_
    refine y_getf X (fl136 X.2.2.2.2.1) hI.1 hY_this rfl hsi_found ohq_d8 ?_
    refine lv_icmp_ge hx hb ohq_d11 (tgt := 90) (by decide) (fun q11 => ?_) (fun q11 => ?_)
    · have q11_ : fo.toInt ≤ k.toInt := x_le32.mp q11
      refine lv_aload_n hx hb ohq_d90 rfl (lv_at hl 2 rfl) ?_
      refine y_getf X (fl147 X.2.2.2.2.1) hI.1 hY_this rfl hs_rd ohq_d91 ?_
      refine lv_astore hx hb ohq_d94 hl (by decide) (lv' := [(4, .ref rd), (3, .int nw), (0, .ref this), (1, .ref ld), (2, .int sn)]) rfl fun ls hl => ?_
      refine lv_aload_n hx hb ohq_d96 rfl (lv_at hl 2 rfl) ?_
      refine lv_aload_n hx hb ohq_d97 rfl (lv_at hl 2 rfl) ?_
      refine y_getf X (fl148 X.2.2.2.2.1) hI.1 hY_this rfl hs_rn ohq_d98 ?_
      refine y_putf X (fw149 X.2.2.2.2.1) hY0 hI hY_this rfl rfl (y_crefA hY_rn rfl) (by decide +kernel) ohq_d101 fun H sl hI ho hs hk => ?_
      replace hs_sr := hk _ _ (by decide +kernel) (by decide) hs_sr
      replace hs_rn := hk _ _ (by decide +kernel) (by decide) hs_rn
      replace hsi_found := hk _ _ (by decide +kernel) (by decide) hsi_found
      replace hA_sr := hA_sr.kept (ho _ (y_ne hY_sr hY_this rfl))
      replace hA_rd := hA_rd.kept (ho _ (y_ne hY_rd hY_this rfl))
      replace hA_rn := hA_rn.kept (ho _ (y_ne hY_rn hY_this rfl))
      replace hL := hL.wr hY_ld hY_this (by decide) ho
      replace hs := hs
      replace hs_rd := hs
      refine lv_aload_n hx hb ohq_d104 rfl (lv_at hl 2 rfl) ?_
      refine lv_aload hx hb ohq_d105 (lv_at hl 0 rfl) ?_
      refine y_putf X (fw150 X.2.2.2.2.1) hY0 hI hY_this rfl rfl (y_crefA hY_rd rfl) (by decide +kernel) ohq_d107 fun H sl hI ho hs hk => ?_
      replace hs_sr := hk _ _ (by decide +kernel) (by decide) hs_sr
      replace hs_rd := hk _ _ (by decide +kernel) (by decide) hs_rd
      replace hsi_found := hk _ _ (by decide +kernel) (by decide) hsi_found
      replace hA_sr := hA_sr.kept (ho _ (y_ne hY_sr hY_this rfl))
      replace hA_rd := hA_rd.kept (ho _ (y_ne hY_rd hY_this rfl))
      replace hA_rn := hA_rn.kept (ho _ (y_ne hY_rn hY_this rfl))
      replace hL := hL.wr hY_ld hY_this (by decide) ho
      replace hs := hs
      replace hs_rn := hs
      refine lv_iload_n hx hb ohq_d110 rfl (lv_at hl 1 rfl) ?_
      have hkf : k.toInt = fo.toInt := by omega
      have hnw9 := y_01 hnw.1 hnw.2
      subst hav
      exact y_ireturn B hI rfl rfl (x_nar_ok (u := (0, 1)) (by decide) ⟨hnw.1, hnw.2⟩) List.mem_cons_self ⟨_, rfl, ⟨_, rfl, hnw.1, hnw.2⟩⟩ (x_cs.mono B.2.2.2.2.2 (y_mon B hI)) (fun t' l' s' d' n' w' o' r' F' f' h1 h2 h3 h4 h5 h6 h7 h8 h9 => by cases h1; cases h2.symm.trans hsr; cases h3.symm.trans hfo0; cases h5.symm.trans hsd0; cases h7.symm.trans hsn0; cases h9.uniq hL0; have eF : ∀ q, q < 1024 → F' q = Fz q := fun q hq1 => z_AR h6 hAd0 hq1; have eS : ∀ q, q < 1024 → r' q = fr q := fun q hq1 => z_AR h4 hA0 hq1; exact ⟨_, rfl, fn, hs_rd, hs_rn, hA_rn, hB_rn, fun k9 hk9 => by obtain ⟨b, b1, b2⟩ := hhr k9 (by omega); rw [eS k9 (by omega)]; exact ⟨b, b1.congr (fun j hj => eS j (by omega)) (fun j hj => eF j (by omega)), b2⟩, by rcases hnw9 with q9 | q9; exact Or.inr ⟨q9, fun k9 hk9 => by rw [eF k9 (by omega)]; exact hw0 q9 k9 (by omega)⟩; (obtain ⟨j, j1, j2⟩ := hw1 q9; exact Or.inl ⟨q9, j, by omega, by rw [eF j (by omega)]; exact j2⟩)⟩) (Nat.le_refl _) (Nat.le_refl _) ohq_d111
    · have q11_ : k.toInt < fo.toInt := Int.not_le.mp fun q => q11 (x_le32.mpr q)
      refine lv_aload_n hx hb ohq_d14 rfl (lv_at hl 2 rfl) ?_
      refine lv_aload_n hx hb ohq_d15 rfl (lv_at hl 2 rfl) ?_
      refine y_getf X (fl135 X.2.2.2.2.1) hI.1 hY_this rfl hs_sr ohq_d16 ?_
      refine lv_iload hx hb ohq_d19 (lv_at hl 0 rfl) ?_
      refine y_iald X hI.1 hY_sr rfl hA_sr (by omega) (by show _ < (1024 : Int); omega) ohq_d21 ?_
      obtain ⟨e21, hg_e21⟩ : ∃ e21 : Int32, fr k.toInt.toNat = e21 := ⟨_, rfl⟩
      rw [hg_e21]
      have h_e21 : (0 : Int) ≤ e21.toInt ∧ e21.toInt ≤ 1023 := by rw [← hg_e21]; exact hB_sr _ (by omega)
      refine y_call (z := (0, 109, 2, some 8, xM112)) (av := [.ref this, .int e21]) (rest := []) (y_cokV (n := 1) (ci := 5) X ym_mostRead rfl rfl rfl (x_cons (x_bw55 0 rfl rfl) (x_cons (x_bw55 2 rfl rfl) (x_cons (x_at 24 (by decide +kernel) rfl) (x_cons (x_bw0 8 rfl rfl) x_nilm)))) (x_bw55 3 rfl rfl) (by decide +kernel) ⟨Nat.le_of_ble_eq_true rfl, Nat.le_of_ble_eq_true rfl⟩) hY0 hI rfl ohq_d22 hl.1 (Nat.le_of_ble_eq_true rfl) (Nat.le_of_ble_eq_true rfl) (Nat.le_of_ble_eq_true rfl) (y_cons (y_cref hY_this rfl) (y_cons ⟨_, rfl, x_i32 _⟩ y_nil)) rfl (y_recv rfl hY_this) trivial (y_sub_ef rfl) fun v Yn o Hn L ho hr ha hIn hx_ hE hP => ?_
      have hPm := hP _ _ _ _ _ _ _ rfl hs_sr hsi_found hA_sr hs_rd hA_rd
      replace hs_sr := y_Efld hE hY_this rfl (by decide) (by decide) hs_sr
      replace hs_rd := y_Efld hE hY_this rfl (by decide) (by decide) hs_rd
      replace hs_rn := y_Efld hE hY_this rfl (by decide) (by decide) hs_rn
      replace hsi_found := y_Efld hE hY_this rfl (by decide) (by decide) hsi_found
      replace hA_sr := hA_sr.kept (y_Earr hE hY_sr rfl (by decide))
      replace hA_rd := hA_rd.kept (y_Earr hE hY_rd rfl (by decide))
      replace hA_rn := hA_rn.kept (y_Earr hE hY_rn rfl (by decide))
      replace hL := hL.E hY_ld hE (fun q u h => y_ext hx_ hI.1 h) (by decide +kernel)
      replace hY_this := y_ext hx_ hI.1 hY_this
      replace hY_ld := y_ext hx_ hI.1 hY_ld
      replace hY_sr := y_ext hx_ hI.1 hY_sr
      replace hY_rd := y_ext hx_ hI.1 hY_rd
      replace hY_rn := y_ext hx_ hI.1 hY_rn
      obtain ⟨r22, rfl, h_r22⟩ := y_ansI (lo := (-1)) (hi := 8) (by decide) ho hr
      have hb_r22 : m_bst fo fr Fz e21 r22 := by obtain ⟨r9, e9, hb9⟩ := hPm; cases e9; exact hb9
      clear ho hr ha hE hP hI hx_
      rename x_I _ _ _ _ _ _ _ _ _ _ => hI
      refine lv_istore hx hb ohq_d25 hl (by decide) (lv' := [(5, .int r22), (4, .int k), (3, .int nw), (0, .ref this), (1, .ref ld), (2, .int sn)]) rfl fun ls hl => ?_
      refine lv_aload_n hx hb ohq_d27 rfl (lv_at hl 3 rfl) ?_
      refine y_getf X (fl148 X.2.2.2.2.1) hI.1 hY_this rfl hs_rn ohq_d28 ?_
      refine lv_iload hx hb ohq_d31 (lv_at hl 1 rfl) ?_
      refine lv_iload hx hb ohq_d33 (lv_at hl 0 rfl) ?_
      refine lv_iconst hx hb ohq_d35 (v := (-1)) (by decide) ?_
      have ecm1 : ((-1) : Int32).toInt = (-1) := by decide
      refine lv_icmp_ne hx hb ohq_d36 (tgt := 43) (by decide) (fun q36 => ?_) (fun q36 => ?_)
      · have q36_ : ¬ r22.toInt = ((-1) : Int32).toInt := fun q => q36 (Int32.toInt_inj.mp q)
        refine lv_aload_n hx hb ohq_d43 rfl (lv_at hl 4 rfl) ?_
        refine lv_iload hx hb ohq_d44 (lv_at hl 0 rfl) ?_
        refine lv_aload_n hx hb ohq_d46 rfl (lv_at hl 3 rfl) ?_
        refine y_getf X (fl135 X.2.2.2.2.1) hI.1 hY_this rfl hs_sr ohq_d47 ?_
        refine lv_iload hx hb ohq_d50 (lv_at hl 1 rfl) ?_
        refine y_iald X hI.1 hY_sr rfl hA_sr (by omega) (by show _ < (1024 : Int); omega) ohq_d52 ?_
        obtain ⟨e52, hg_e52⟩ : ∃ e52 : Int32, fr k.toInt.toNat = e52 := ⟨_, rfl⟩
        rw [hg_e52]
        have h_e52 : (0 : Int) ≤ e52.toInt ∧ e52.toInt ≤ 1023 := by rw [← hg_e52]; exact hB_sr _ (by omega)
        refine lv_iload_n hx hb ohq_d53 rfl (lv_at hl 5 rfl) ?_
        refine lv_iand hx hb ohq_d54 ?_
        generalize hg_z54 : e52 &&& sn = z54
        refine y_call (z := (1, 95, 3, none, xM111)) (av := [.ref ld, .int r22, .int z54]) (rest := [.int k, .ref rn]) (y_cokS (n := 3) X ym_readBy (x_cons (x_bw54 9 rfl rfl) (x_cons (x_bw54 10 rfl rfl) (x_cons (x_bw0 8 rfl rfl) x_nilm))) (x_bw54 11 rfl rfl) (by decide +kernel) ⟨Nat.le_of_ble_eq_true rfl, Nat.le_of_ble_eq_true rfl⟩) hY0 hI rfl ohq_d55 hl.1 (Nat.le_of_ble_eq_true rfl) (Nat.le_of_ble_eq_true rfl) (Nat.le_of_ble_eq_true rfl) (y_cons (y_cref hY_ld rfl) (y_cons ⟨_, rfl, by show (0 : Int) ≤ _; omega, by show _ ≤ (8 : Int); omega⟩ (y_cons ⟨_, rfl, x_i32 _⟩ y_nil))) rfl (y_norecv rfl) (fun t' h1 => by cases h1; exact ⟨_, hL⟩) (y_sub_ef rfl) fun v Yn o Hn L ho hr ha hIn hx_ hE hP => ?_
        have hPb := hP _ _ _ _ rfl hL
        replace hs_sr := y_Efld hE hY_this rfl (by decide) (by decide) hs_sr
        replace hs_rd := y_Efld hE hY_this rfl (by decide) (by decide) hs_rd
        replace hs_rn := y_Efld hE hY_this rfl (by decide) (by decide) hs_rn
        replace hsi_found := y_Efld hE hY_this rfl (by decide) (by decide) hsi_found
        replace hA_sr := hA_sr.kept (y_Earr hE hY_sr rfl (by decide))
        replace hA_rd := hA_rd.kept (y_Earr hE hY_rd rfl (by decide))
        replace hA_rn := hA_rn.kept (y_Earr hE hY_rn rfl (by decide))
        replace hL := hL.E hY_ld hE (fun q u h => y_ext hx_ hI.1 h) (by decide +kernel)
        replace hY_this := y_ext hx_ hI.1 hY_this
        replace hY_ld := y_ext hx_ hI.1 hY_ld
        replace hY_sr := y_ext hx_ hI.1 hY_sr
        replace hY_rd := y_ext hx_ hI.1 hY_rd
        replace hY_rn := y_ext hx_ hI.1 hY_rn
        obtain ⟨r55, rfl, h_r55⟩ := y_ansI (lo := 0) (hi := 8) (by decide) ho hr
        have hg_r55 : m_rbI f r22 z54 = r55 := by cases hPb; rfl
        clear ho hr ha hE hP hI hx_
        rename x_I _ _ _ _ _ _ _ _ _ _ => hI
        refine y_iast X hY0 hI hY_rn rfl hA_rn (by omega) (by show _ < (1024 : Int); omega) ⟨_, rfl, by show ((-1) : Int) ≤ _; omega, by show _ ≤ (8 : Int); omega⟩ (by decide +kernel) ohq_d58 fun H locs hI h_new ho => ?_
        replace hA_rn := h_new
        replace hB_rn := y_upb (i := k.toInt.toNat) (v := r55) hB_rn (by constructor <;> omega)
        generalize hf_f58 : y_up fn k.toInt.toNat r55 = f58 at hA_rn hB_rn
        replace hs_sr := y_slk hs_sr (ho _ (y_ne hY_this hY_rn rfl))
        replace hs_rd := y_slk hs_rd (ho _ (y_ne hY_this hY_rn rfl))
        replace hs_rn := y_slk hs_rn (ho _ (y_ne hY_this hY_rn rfl))
        replace hsi_found := y_slk hsi_found (ho _ (y_ne hY_this hY_rn rfl))
        replace hA_sr := hA_sr.kept (ho _ (y_ne hY_sr hY_rn rfl))
        replace hL := hL.wr hY_ld hY_rn (by decide) ho
        replace hA_rd := hA_rd.kept (ho _ hrr)
        refine lv_iload_n hx hb ohq_d59 rfl (lv_at hl 2 rfl) ?_
        refine lv_aload_n hx hb ohq_d60 rfl (lv_at hl 3 rfl) ?_
        refine y_getf X (fl148 X.2.2.2.2.1) hI.1 hY_this rfl hs_rn ohq_d61 ?_
        refine lv_iload hx hb ohq_d64 (lv_at hl 1 rfl) ?_
        refine y_iald X hI.1 hY_rn rfl hA_rn (by omega) (by show _ < (1024 : Int); omega) ohq_d66 ?_
        obtain ⟨e66, hg_e66⟩ : ∃ e66 : Int32, f58 k.toInt.toNat = e66 := ⟨_, rfl⟩
        rw [hg_e66]
        have h_e66 : ((-1) : Int) ≤ e66.toInt ∧ e66.toInt ≤ 8 := by rw [← hg_e66]; exact hB_rn _ (by omega)
        refine lv_aload_n hx hb ohq_d67 rfl (lv_at hl 3 rfl) ?_
        refine y_getf X (fl147 X.2.2.2.2.1) hI.1 hY_this rfl hs_rd ohq_d68 ?_
        refine lv_iload hx hb ohq_d71 (lv_at hl 1 rfl) ?_
        refine y_iald X hI.1 hY_rd rfl hA_rd (by omega) (by show _ < (1024 : Int); omega) ohq_d73 ?_
        obtain ⟨e73, hg_e73⟩ : ∃ e73 : Int32, Fz k.toInt.toNat = e73 := ⟨_, rfl⟩
        rw [hg_e73]
        have h_e73 : ((-1) : Int) ≤ e73.toInt ∧ e73.toInt ≤ 8 := by rw [← hg_e73]; exact hB_rd _ (by omega)
        refine lv_icmp_eq hx hb ohq_d74 (tgt := 81) (by decide) (fun q74 => ?_) (fun q74 => ?_)
        · have q74_ : e66.toInt = e73.toInt := by rw [q74]
          refine lv_iconst hx hb ohq_d81 (v := 0) (by decide) ?_
          have ec0 : (0 : Int32).toInt = 0 := by decide
          refine lv_ior hx hb ohq_d82 ?_
          generalize hg_z82 : nw ||| (0 : Int32) = z82
          refine lv_istore_n hx hb ohq_d83 rfl hl (by decide) (lv' := [(3, .int z82), (5, .int r22), (4, .int k), (0, .ref this), (1, .ref ld), (2, .int sn)]) rfl fun ls hl => ?_
          obtain ⟨z84, hg_z84⟩ : ∃ z84 : Int32, k + Int32.ofInt 1 = z84 := ⟨_, rfl⟩
          have h_z84 : z84.toInt = k.toInt + 1 := by rw [← hg_z84]; exact y_inc (by decide) (by omega) (by omega)
          refine lv_iinc hx hb ohq_d84 hl (k := 2) rfl hg_z84 (by decide) (lv' := [(4, .int z84), (3, .int z82), (5, .int r22), (0, .ref this), (1, .ref ld), (2, .int sn)]) rfl fun ls hl => ?_
          refine lv_goto hx hb ohq_d87 (tgt := 5) (by decide) ?_
          have his : z84.toInt = k.toInt + 1 := by omega
          have hkn : k.toInt.toNat < 1024 := by omega
          have hold : ∀ j : Nat, (j : Int) < k.toInt → f58 j = fn j := fun j hj => by rw [← hf_f58, y_up_ne (by omega)]
          have hval : ∃ b, m_bst fo fr Fz (fr k.toInt.toNat) b ∧ f58 k.toInt.toNat = m_rb f sn (fr k.toInt.toNat) b := ⟨r22, by rw [hg_e21]; exact hb_r22, by rw [← hf_f58, y_up_at]; unfold m_rb; first | (rw [if_pos (show r22 = -1 by assumption)]) | (rw [if_neg (show ¬ r22 = -1 by assumption), ← hg_r55, ← hg_z54, hg_e52]; exact m_rbI_eq (by omega) (by have := hB_sr _ hkn; rw [hg_e52] at this; exact this.1))⟩
          have hnw9 := y_01 hnw.1 hnw.2
          have hz82 : z82 = nw := by rw [← hg_z82]; rcases hnw9 with h9 | h9; (rw [h9]; decide); (rw [h9]; decide)
          exact ih _ _ _ _ _ _ _ hI hY_this hY_ld hY_sr hY_rd hY_rn hs_sr hs_rd hs_rn hsi_found hA_sr hA_rd hA_rn hL (lv_sub hl [0, 1, 3, 4, 5] rfl) (by first | assumption | omega) (by first | assumption | omega) (by rw [hz82]; exact hnw) (fun j hj => by by_cases e : j = k.toInt.toNat; (rw [e]; exact hval); (rw [hold j (by omega)]; exact hhr j (by omega))) (fun h9 j hj => by by_cases e : j = k.toInt.toNat; (rw [e, hg_e66, hg_e73]; assumption); (rw [hold j (by omega)]; exact hw0 (hz82.symm.trans h9) j (by omega))) (fun h9 => by obtain ⟨j, j1, j2⟩ := hw1 (hz82.symm.trans h9); exact ⟨j, by omega, by rw [hold j j1]; exact j2⟩) (by omega)
        · have q74_ : ¬ e66.toInt = e73.toInt := fun q => q74 (Int32.toInt_inj.mp q)
          refine lv_iconst hx hb ohq_d77 (v := 1) (by decide) ?_
          have ec1 : (1 : Int32).toInt = 1 := by decide
          refine lv_goto hx hb ohq_d78 (tgt := 82) (by decide) ?_
          refine lv_ior hx hb ohq_d82 ?_
          generalize hg_z82 : nw ||| (1 : Int32) = z82
          refine lv_istore_n hx hb ohq_d83 rfl hl (by decide) (lv' := [(3, .int z82), (5, .int r22), (4, .int k), (0, .ref this), (1, .ref ld), (2, .int sn)]) rfl fun ls hl => ?_
          obtain ⟨z84, hg_z84⟩ : ∃ z84 : Int32, k + Int32.ofInt 1 = z84 := ⟨_, rfl⟩
          have h_z84 : z84.toInt = k.toInt + 1 := by rw [← hg_z84]; exact y_inc (by decide) (by omega) (by omega)
          refine lv_iinc hx hb ohq_d84 hl (k := 2) rfl hg_z84 (by decide) (lv' := [(4, .int z84), (3, .int z82), (5, .int r22), (0, .ref this), (1, .ref ld), (2, .int sn)]) rfl fun ls hl => ?_
          refine lv_goto hx hb ohq_d87 (tgt := 5) (by decide) ?_
          have his : z84.toInt = k.toInt + 1 := by omega
          have hkn : k.toInt.toNat < 1024 := by omega
          have hold : ∀ j : Nat, (j : Int) < k.toInt → f58 j = fn j := fun j hj => by rw [← hf_f58, y_up_ne (by omega)]
          have hval : ∃ b, m_bst fo fr Fz (fr k.toInt.toNat) b ∧ f58 k.toInt.toNat = m_rb f sn (fr k.toInt.toNat) b := ⟨r22, by rw [hg_e21]; exact hb_r22, by rw [← hf_f58, y_up_at]; unfold m_rb; first | (rw [if_pos (show r22 = -1 by assumption)]) | (rw [if_neg (show ¬ r22 = -1 by assumption), ← hg_r55, ← hg_z54, hg_e52]; exact m_rbI_eq (by omega) (by have := hB_sr _ hkn; rw [hg_e52] at this; exact this.1))⟩
          have hnw9 := y_01 hnw.1 hnw.2
          have hz82 : z82 = 1 := by rw [← hg_z82]; rcases hnw9 with h9 | h9; (rw [h9]; decide); (rw [h9]; decide)
          exact ih _ _ _ _ _ _ _ hI hY_this hY_ld hY_sr hY_rd hY_rn hs_sr hs_rd hs_rn hsi_found hA_sr hA_rd hA_rn hL (lv_sub hl [0, 1, 3, 4, 5] rfl) (by first | assumption | omega) (by first | assumption | omega) (by rw [hz82, m_c1]; omega) (fun j hj => by by_cases e : j = k.toInt.toNat; (rw [e]; exact hval); (rw [hold j (by omega)]; exact hhr j (by omega))) (fun h9 => absurd (hz82.symm.trans h9) (by decide)) (fun _ => ⟨k.toInt.toNat, by omega, fun h9 => absurd ((Eq.trans (Eq.symm hg_e66)) (h9.trans hg_e73)) (by assumption)⟩) (by omega)
      · have q36_ : r22.toInt = ((-1) : Int32).toInt := by rw [q36]
        refine lv_iconst hx hb ohq_d39 (v := (-1)) (by decide) ?_
        refine lv_goto hx hb ohq_d40 (tgt := 58) (by decide) ?_
        refine y_iast X hY0 hI hY_rn rfl hA_rn (by omega) (by show _ < (1024 : Int); omega) ⟨_, rfl, by show ((-1) : Int) ≤ _; omega, by show _ ≤ (8 : Int); omega⟩ (by decide +kernel) ohq_d58 fun H locs hI h_new ho => ?_
        replace hA_rn := h_new
        replace hB_rn := y_upb (i := k.toInt.toNat) (v := ((-1) : Int32)) hB_rn (by constructor <;> omega)
        generalize hf_f58 : y_up fn k.toInt.toNat ((-1) : Int32) = f58 at hA_rn hB_rn
        replace hs_sr := y_slk hs_sr (ho _ (y_ne hY_this hY_rn rfl))
        replace hs_rd := y_slk hs_rd (ho _ (y_ne hY_this hY_rn rfl))
        replace hs_rn := y_slk hs_rn (ho _ (y_ne hY_this hY_rn rfl))
        replace hsi_found := y_slk hsi_found (ho _ (y_ne hY_this hY_rn rfl))
        replace hA_sr := hA_sr.kept (ho _ (y_ne hY_sr hY_rn rfl))
        replace hL := hL.wr hY_ld hY_rn (by decide) ho
        replace hA_rd := hA_rd.kept (ho _ hrr)
        refine lv_iload_n hx hb ohq_d59 rfl (lv_at hl 2 rfl) ?_
        refine lv_aload_n hx hb ohq_d60 rfl (lv_at hl 3 rfl) ?_
        refine y_getf X (fl148 X.2.2.2.2.1) hI.1 hY_this rfl hs_rn ohq_d61 ?_
        refine lv_iload hx hb ohq_d64 (lv_at hl 1 rfl) ?_
        refine y_iald X hI.1 hY_rn rfl hA_rn (by omega) (by show _ < (1024 : Int); omega) ohq_d66 ?_
        obtain ⟨e66, hg_e66⟩ : ∃ e66 : Int32, f58 k.toInt.toNat = e66 := ⟨_, rfl⟩
        rw [hg_e66]
        have h_e66 : ((-1) : Int) ≤ e66.toInt ∧ e66.toInt ≤ 8 := by rw [← hg_e66]; exact hB_rn _ (by omega)
        refine lv_aload_n hx hb ohq_d67 rfl (lv_at hl 3 rfl) ?_
        refine y_getf X (fl147 X.2.2.2.2.1) hI.1 hY_this rfl hs_rd ohq_d68 ?_
        refine lv_iload hx hb ohq_d71 (lv_at hl 1 rfl) ?_
        refine y_iald X hI.1 hY_rd rfl hA_rd (by omega) (by show _ < (1024 : Int); omega) ohq_d73 ?_
        obtain ⟨e73, hg_e73⟩ : ∃ e73 : Int32, Fz k.toInt.toNat = e73 := ⟨_, rfl⟩
        rw [hg_e73]
        have h_e73 : ((-1) : Int) ≤ e73.toInt ∧ e73.toInt ≤ 8 := by rw [← hg_e73]; exact hB_rd _ (by omega)
        refine lv_icmp_eq hx hb ohq_d74 (tgt := 81) (by decide) (fun q74 => ?_) (fun q74 => ?_)
        · have q74_ : e66.toInt = e73.toInt := by rw [q74]
          refine lv_iconst hx hb ohq_d81 (v := 0) (by decide) ?_
          have ec0 : (0 : Int32).toInt = 0 := by decide
          refine lv_ior hx hb ohq_d82 ?_
          generalize hg_z82 : nw ||| (0 : Int32) = z82
          refine lv_istore_n hx hb ohq_d83 rfl hl (by decide) (lv' := [(3, .int z82), (5, .int r22), (4, .int k), (0, .ref this), (1, .ref ld), (2, .int sn)]) rfl fun ls hl => ?_
          obtain ⟨z84, hg_z84⟩ : ∃ z84 : Int32, k + Int32.ofInt 1 = z84 := ⟨_, rfl⟩
          have h_z84 : z84.toInt = k.toInt + 1 := by rw [← hg_z84]; exact y_inc (by decide) (by omega) (by omega)
          refine lv_iinc hx hb ohq_d84 hl (k := 2) rfl hg_z84 (by decide) (lv' := [(4, .int z84), (3, .int z82), (5, .int r22), (0, .ref this), (1, .ref ld), (2, .int sn)]) rfl fun ls hl => ?_
          refine lv_goto hx hb ohq_d87 (tgt := 5) (by decide) ?_
          have his : z84.toInt = k.toInt + 1 := by omega
          have hkn : k.toInt.toNat < 1024 := by omega
          have hold : ∀ j : Nat, (j : Int) < k.toInt → f58 j = fn j := fun j hj => by rw [← hf_f58, y_up_ne (by omega)]
          have hval : ∃ b, m_bst fo fr Fz (fr k.toInt.toNat) b ∧ f58 k.toInt.toNat = m_rb f sn (fr k.toInt.toNat) b := ⟨r22, by rw [hg_e21]; exact hb_r22, by rw [← hf_f58, y_up_at]; unfold m_rb; first | (rw [if_pos (show r22 = -1 by assumption)]) | (rw [if_neg (show ¬ r22 = -1 by assumption), ← hg_r55, ← hg_z54, hg_e52]; exact m_rbI_eq (by omega) (by have := hB_sr _ hkn; rw [hg_e52] at this; exact this.1))⟩
          have hnw9 := y_01 hnw.1 hnw.2
          have hz82 : z82 = nw := by rw [← hg_z82]; rcases hnw9 with h9 | h9; (rw [h9]; decide); (rw [h9]; decide)
          exact ih _ _ _ _ _ _ _ hI hY_this hY_ld hY_sr hY_rd hY_rn hs_sr hs_rd hs_rn hsi_found hA_sr hA_rd hA_rn hL (lv_sub hl [0, 1, 3, 4, 5] rfl) (by first | assumption | omega) (by first | assumption | omega) (by rw [hz82]; exact hnw) (fun j hj => by by_cases e : j = k.toInt.toNat; (rw [e]; exact hval); (rw [hold j (by omega)]; exact hhr j (by omega))) (fun h9 j hj => by by_cases e : j = k.toInt.toNat; (rw [e, hg_e66, hg_e73]; assumption); (rw [hold j (by omega)]; exact hw0 (hz82.symm.trans h9) j (by omega))) (fun h9 => by obtain ⟨j, j1, j2⟩ := hw1 (hz82.symm.trans h9); exact ⟨j, by omega, by rw [hold j j1]; exact j2⟩) (by omega)
        · have q74_ : ¬ e66.toInt = e73.toInt := fun q => q74 (Int32.toInt_inj.mp q)
          refine lv_iconst hx hb ohq_d77 (v := 1) (by decide) ?_
          have ec1 : (1 : Int32).toInt = 1 := by decide
          refine lv_goto hx hb ohq_d78 (tgt := 82) (by decide) ?_
          refine lv_ior hx hb ohq_d82 ?_
          generalize hg_z82 : nw ||| (1 : Int32) = z82
          refine lv_istore_n hx hb ohq_d83 rfl hl (by decide) (lv' := [(3, .int z82), (5, .int r22), (4, .int k), (0, .ref this), (1, .ref ld), (2, .int sn)]) rfl fun ls hl => ?_
          obtain ⟨z84, hg_z84⟩ : ∃ z84 : Int32, k + Int32.ofInt 1 = z84 := ⟨_, rfl⟩
          have h_z84 : z84.toInt = k.toInt + 1 := by rw [← hg_z84]; exact y_inc (by decide) (by omega) (by omega)
          refine lv_iinc hx hb ohq_d84 hl (k := 2) rfl hg_z84 (by decide) (lv' := [(4, .int z84), (3, .int z82), (5, .int r22), (0, .ref this), (1, .ref ld), (2, .int sn)]) rfl fun ls hl => ?_
          refine lv_goto hx hb ohq_d87 (tgt := 5) (by decide) ?_
          have his : z84.toInt = k.toInt + 1 := by omega
          have hkn : k.toInt.toNat < 1024 := by omega
          have hold : ∀ j : Nat, (j : Int) < k.toInt → f58 j = fn j := fun j hj => by rw [← hf_f58, y_up_ne (by omega)]
          have hval : ∃ b, m_bst fo fr Fz (fr k.toInt.toNat) b ∧ f58 k.toInt.toNat = m_rb f sn (fr k.toInt.toNat) b := ⟨r22, by rw [hg_e21]; exact hb_r22, by rw [← hf_f58, y_up_at]; unfold m_rb; first | (rw [if_pos (show r22 = -1 by assumption)]) | (rw [if_neg (show ¬ r22 = -1 by assumption), ← hg_r55, ← hg_z54, hg_e52]; exact m_rbI_eq (by omega) (by have := hB_sr _ hkn; rw [hg_e52] at this; exact this.1))⟩
          have hnw9 := y_01 hnw.1 hnw.2
          have hz82 : z82 = 1 := by rw [← hg_z82]; rcases hnw9 with h9 | h9; (rw [h9]; decide); (rw [h9]; decide)
          exact ih _ _ _ _ _ _ _ hI hY_this hY_ld hY_sr hY_rd hY_rn hs_sr hs_rd hs_rn hsi_found hA_sr hA_rd hA_rn hL (lv_sub hl [0, 1, 3, 4, 5] rfl) (by first | assumption | omega) (by first | assumption | omega) (by rw [hz82, m_c1]; omega) (fun j hj => by by_cases e : j = k.toInt.toNat; (rw [e]; exact hval); (rw [hold j (by omega)]; exact hhr j (by omega))) (fun h9 => absurd (hz82.symm.trans h9) (by decide)) (fun _ => ⟨k.toInt.toNat, by omega, fun h9 => absurd ((Eq.trans (Eq.symm hg_e66)) (h9.trans hg_e73)) (by assumption)⟩) (by omega)
theorem ym_oneHour : y_Met vwCl x_G x_Zs x_Tb x_Nb xM113 z_Arr z_Poh9 := by
  refine y_main (by decide +kernel) (by decide +kernel) x_Tb_good x_Nb_ok ?_
  intro p l e s m below meth c D U Y0 av ls B hI hpre hl
  have X := B.1
  have hx := X.1
  have hb := X.2.1
  have hY0 := B.2.2.2.2.1
  obtain ⟨v0, v1, v2, rfl, hv0, hv1, ⟨sn, rfl, -⟩⟩ := y_three B.2.2.2.2.2
  obtain ⟨this, t0, rfl, ht0, hY_this⟩ := x_ref_at hv0 rfl
  obtain rfl := List.mem_singleton.mp ht0
  obtain ⟨ld, t1, rfl, ht1, hY_ld⟩ := x_ref_at hv1 rfl
  obtain rfl := List.mem_singleton.mp ht1
  replace hl : lv_has ls xM113.2.2.1 [(0, .ref this), (1, .ref ld), (2, .int sn)] := hl
  obtain ⟨sr, hs_sr, hY_sr⟩ := y_fldR (k := 0) hI.1 hY_this rfl rfl
  obtain ⟨rd, hs_rd, hY_rd⟩ := y_fldR (k := 4) hI.1 hY_this rfl rfl
  obtain ⟨fr, hA_sr, hB_sr⟩ := y_arr hI.1 hY_sr rfl rfl
  replace hB_sr : ∀ j, j < 1024 → (0 : Int) ≤ (fr j).toInt ∧ (fr j).toInt ≤ 1023 := fun j hj => by obtain ⟨x, e0, e1⟩ := hB_sr j hj; cases e0; exact e1
  obtain ⟨Fz, hA_rd, hB_rd⟩ := y_arr hI.1 hY_rd rfl rfl
  replace hB_rd : ∀ j, j < 1024 → (-1 : Int) ≤ (Fz j).toInt ∧ (Fz j).toInt ≤ 8 := fun j hj => by obtain ⟨x, e0, e1⟩ := hB_rd j hj; cases e0; exact e1
  obtain ⟨fo, hsi_found, hfo9⟩ := y_fldI (k := 1) hI.1 hY_this rfl rfl
  replace hfo9 : (0 : Int) ≤ fo.toInt ∧ fo.toInt ≤ 1024 := hfo9
  have hsr := hs_sr
  have hA0 := hA_sr
  have hfo0 := hsi_found
  have hsd0 := hs_rd
  have hAd0 := hA_rd
  obtain ⟨rn, hs_rn, hY_rn⟩ := y_fldR (k := 5) hI.1 hY_this rfl rfl
  obtain ⟨fn, hA_rn, hB_rn⟩ := y_arr hI.1 hY_rn rfl rfl
  replace hB_rn : ∀ j, j < 1024 → (-1 : Int) ≤ (fn j).toInt ∧ (fn j).toInt ≤ 8 := fun j hj => by obtain ⟨x, e0, e1⟩ := hB_rn j hj; cases e0; exact e1
  have hsn0 := hs_rn
  have hrr := hpre.2 _ _ _ rfl hs_rd hs_rn
  obtain ⟨f, hL⟩ := hpre.1 _ rfl
  have hL0 := hL
  refine lv_iconst hx hb ohq_d0 (v := 0) (by decide) ?_
  have ec0 : (0 : Int32).toInt = 0 := by decide
  refine lv_istore_n hx hb ohq_d1 rfl hl (by decide) (lv' := [(3, .int (0 : Int32)), (0, .ref this), (1, .ref ld), (2, .int sn)]) rfl fun ls hl => ?_
  refine lv_iconst hx hb ohq_d2 (v := 0) (by decide) ?_
  refine lv_istore hx hb ohq_d3 hl (by decide) (lv' := [(4, .int (0 : Int32)), (3, .int (0 : Int32)), (0, .ref this), (1, .ref ld), (2, .int sn)]) rfl fun ls hl => ?_
  exact ohq_L5 B rfl hL0 hsr hfo0 hA0 hsd0 hAd0 hsn0 hrr hfo9 hB_sr hB_rd 1026 _ _ _ _ _ _ _ hI hY_this hY_ld hY_sr hY_rd hY_rn hs_sr hs_rd hs_rn hsi_found hA_sr hA_rd hA_rn hL (lv_sub hl [0, 1, 2, 3, 4] rfl) (by first | assumption | omega) (by first | assumption | omega) (by rw [m_c0]; omega) (fun j hj => absurd hj (by omega)) (fun _ j hj => absurd hj (by omega)) (fun q => absurd q (by decide)) (by omega)
def z_Phr9 : yP := fun D av Y H v _ H' => ∀ (this ld sr : Nat) (fm sn fo : Int32) (fr f : Nat → Int32), av = [.ref this, .ref ld, .int fm, .int sn] → x_sl D 5 0 this H = some (.ref sr) → x_sl D 5 1 this H = some (.int fo) → y_A sr 1024 H fr → z_L D Y ld H f → ∃ r : Int32, v = some (.int r) ∧ (∀ (L : Nat → Bool) (N : Nat), m_W L N fo fr → (∀ w, L w = true → w < N) → L fm.toInt.toNat = true → m_tol (m_tE L (m_rdn f sn)) (m_st0 f sn fm) (fun s => ((s / 1024 : Nat) : Int) = (f 2).toInt) r) ∧ ∃ rd' rn' : Nat, x_sl D 5 4 this H' = some (.ref rd') ∧ x_sl D 5 5 this H' = some (.ref rn') ∧ rd' ≠ rn'
theorem m_tol0 {E : Nat → Nat → Prop} {f : Nat → Int32} {sn fm : Int32} (hfm : 0 ≤ fm.toInt ∧ fm.toInt ≤ 1023) (h2 : f 2 = 0) : m_tol E (m_st0 f sn fm) (fun s => ((s / 1024 : Nat) : Int) = (f 2).toInt) 0 := by
  have h3 : (f 2).toInt = 0 := by rw [h2, m_c0]
  have h4 := m_rd_le (f := f) (sn := sn) (w := fm.toInt.toNat) (i := 0) (by omega)
  refine Or.inl ⟨by rw [m_c0]; omega, ⟨m_st0 f sn fm, ?_, ?_⟩, fun t ht => absurd ht (by rw [z_i0]; omega)⟩
  · show ((m_st0 f sn fm / 1024 : Nat) : Int) = (f 2).toInt
    rw [(m_st0_m hfm).2]; omega
  · rw [z_i0]
    show m_st0 f sn fm = m_st0 f sn fm
    rfl
theorem m_tI.imp {f S F : Nat → Int32} {sn fm fo : Int32} {t : Nat} {fix go fix' go' : Prop} (h : m_tI f sn fm fo S F t fix go) (h1 : fix' → fix) (h2 : go' → go) : m_tI f sn fm fo S F t fix' go' := fun L N a b c => by
  obtain ⟨a1, a2, a3, a4⟩ := h L N a b c
  exact ⟨a1, a2, fun q => a3 (h1 q), fun q => a4 (h2 q)⟩
theorem hrq_d0 : decode xM115.2.1 0 = .ok (.aload_n 1, 1) := dz_ok (by decide +kernel)
theorem hrq_d1 : decode xM115.2.1 1 = .ok (.getfield 92, 3) := dz_ok (by decide +kernel)
theorem hrq_d4 : decode xM115.2.1 4 = .ok (.ifCond .ne 7, 3) := dz_ok (by decide +kernel)
theorem hrq_d7 : decode xM115.2.1 7 = .ok (.iconst 1, 1) := dz_ok (by decide +kernel)
theorem hrq_d8 : decode xM115.2.1 8 = .ok (.goto 4, 3) := dz_ok (by decide +kernel)
theorem hrq_d11 : decode xM115.2.1 11 = .ok (.iconst 0, 1) := dz_ok (by decide +kernel)
theorem hrq_d12 : decode xM115.2.1 12 = .ok (.istore 4, 2) := dz_ok (by decide +kernel)
theorem hrq_d14 : decode xM115.2.1 14 = .ok (.iconst 0, 1) := dz_ok (by decide +kernel)
theorem hrq_d15 : decode xM115.2.1 15 = .ok (.istore 5, 2) := dz_ok (by decide +kernel)
theorem hrq_d17 : decode xM115.2.1 17 = .ok (.iload 5, 2) := dz_ok (by decide +kernel)
theorem hrq_d19 : decode xM115.2.1 19 = .ok (.aload_n 0, 1) := dz_ok (by decide +kernel)
theorem hrq_d20 : decode xM115.2.1 20 = .ok (.getfield 27, 3) := dz_ok (by decide +kernel)
theorem hrq_d23 : decode xM115.2.1 23 = .ok (.if_icmp .ge 69, 3) := dz_ok (by decide +kernel)
theorem hrq_d26 : decode xM115.2.1 26 = .ok (.aload_n 0, 1) := dz_ok (by decide +kernel)
theorem hrq_d27 : decode xM115.2.1 27 = .ok (.getfield 21, 3) := dz_ok (by decide +kernel)
theorem hrq_d30 : decode xM115.2.1 30 = .ok (.iload 5, 2) := dz_ok (by decide +kernel)
theorem hrq_d32 : decode xM115.2.1 32 = .ok (.aload_n 0, 1) := dz_ok (by decide +kernel)
theorem hrq_d33 : decode xM115.2.1 33 = .ok (.getfield 9, 3) := dz_ok (by decide +kernel)
theorem hrq_d36 : decode xM115.2.1 36 = .ok (.iload 5, 2) := dz_ok (by decide +kernel)
theorem hrq_d38 : decode xM115.2.1 38 = .ok (.iaload, 1) := dz_ok (by decide +kernel)
theorem hrq_d39 : decode xM115.2.1 39 = .ok (.iload_n 2, 1) := dz_ok (by decide +kernel)
theorem hrq_d40 : decode xM115.2.1 40 = .ok (.if_icmp .ne 20, 3) := dz_ok (by decide +kernel)
theorem hrq_d43 : decode xM115.2.1 43 = .ok (.aload_n 1, 1) := dz_ok (by decide +kernel)
theorem hrq_d44 : decode xM115.2.1 44 = .ok (.iconst 0, 1) := dz_ok (by decide +kernel)
theorem hrq_d45 : decode xM115.2.1 45 = .ok (.aload_n 0, 1) := dz_ok (by decide +kernel)
theorem hrq_d46 : decode xM115.2.1 46 = .ok (.getfield 9, 3) := dz_ok (by decide +kernel)
theorem hrq_d49 : decode xM115.2.1 49 = .ok (.iload 5, 2) := dz_ok (by decide +kernel)
theorem hrq_d51 : decode xM115.2.1 51 = .ok (.iaload, 1) := dz_ok (by decide +kernel)
theorem hrq_d52 : decode xM115.2.1 52 = .ok (.iload_n 3, 1) := dz_ok (by decide +kernel)
theorem hrq_d53 : decode xM115.2.1 53 = .ok (.iand, 1) := dz_ok (by decide +kernel)
theorem hrq_d54 : decode xM115.2.1 54 = .ok (.invokestatic 95, 3) := dz_ok (by decide +kernel)
theorem hrq_d57 : decode xM115.2.1 57 = .ok (.goto 4, 3) := dz_ok (by decide +kernel)
theorem hrq_d60 : decode xM115.2.1 60 = .ok (.iconst (-1), 1) := dz_ok (by decide +kernel)
theorem hrq_d61 : decode xM115.2.1 61 = .ok (.iastore, 1) := dz_ok (by decide +kernel)
theorem hrq_d62 : decode xM115.2.1 62 = .ok (.iload 4, 2) := dz_ok (by decide +kernel)
theorem hrq_d64 : decode xM115.2.1 64 = .ok (.aload_n 0, 1) := dz_ok (by decide +kernel)
theorem hrq_d65 : decode xM115.2.1 65 = .ok (.getfield 21, 3) := dz_ok (by decide +kernel)
theorem hrq_d68 : decode xM115.2.1 68 = .ok (.iload 5, 2) := dz_ok (by decide +kernel)
theorem hrq_d70 : decode xM115.2.1 70 = .ok (.iaload, 1) := dz_ok (by decide +kernel)
theorem hrq_d71 : decode xM115.2.1 71 = .ok (.aload_n 1, 1) := dz_ok (by decide +kernel)
theorem hrq_d72 : decode xM115.2.1 72 = .ok (.getfield 92, 3) := dz_ok (by decide +kernel)
theorem hrq_d75 : decode xM115.2.1 75 = .ok (.if_icmp .ne 7, 3) := dz_ok (by decide +kernel)
theorem hrq_d78 : decode xM115.2.1 78 = .ok (.iconst 1, 1) := dz_ok (by decide +kernel)
theorem hrq_d79 : decode xM115.2.1 79 = .ok (.goto 4, 3) := dz_ok (by decide +kernel)
theorem hrq_d82 : decode xM115.2.1 82 = .ok (.iconst 0, 1) := dz_ok (by decide +kernel)
theorem hrq_d83 : decode xM115.2.1 83 = .ok (.ior, 1) := dz_ok (by decide +kernel)
theorem hrq_d84 : decode xM115.2.1 84 = .ok (.istore 4, 2) := dz_ok (by decide +kernel)
theorem hrq_d86 : decode xM115.2.1 86 = .ok (.iinc 5 1, 3) := dz_ok (by decide +kernel)
theorem hrq_d89 : decode xM115.2.1 89 = .ok (.goto (-72), 3) := dz_ok (by decide +kernel)
theorem hrq_d92 : decode xM115.2.1 92 = .ok (.iconst 1, 1) := dz_ok (by decide +kernel)
theorem hrq_d93 : decode xM115.2.1 93 = .ok (.istore 5, 2) := dz_ok (by decide +kernel)
theorem hrq_d95 : decode xM115.2.1 95 = .ok (.iconst 0, 1) := dz_ok (by decide +kernel)
theorem hrq_d96 : decode xM115.2.1 96 = .ok (.istore 6, 2) := dz_ok (by decide +kernel)
theorem hrq_d98 : decode xM115.2.1 98 = .ok (.iload 4, 2) := dz_ok (by decide +kernel)
theorem hrq_d100 : decode xM115.2.1 100 = .ok (.ifCond .ne 40, 3) := dz_ok (by decide +kernel)
theorem hrq_d103 : decode xM115.2.1 103 = .ok (.iload 5, 2) := dz_ok (by decide +kernel)
theorem hrq_d105 : decode xM115.2.1 105 = .ok (.ifCond .eq 35, 3) := dz_ok (by decide +kernel)
theorem hrq_d108 : decode xM115.2.1 108 = .ok (.iload 6, 2) := dz_ok (by decide +kernel)
theorem hrq_d110 : decode xM115.2.1 110 = .ok (.sipush 9216, 3) := dz_ok (by decide +kernel)
theorem hrq_d113 : decode xM115.2.1 113 = .ok (.if_icmp .ge 27, 3) := dz_ok (by decide +kernel)
theorem hrq_d116 : decode xM115.2.1 116 = .ok (.iinc 6 1, 3) := dz_ok (by decide +kernel)
theorem hrq_d119 : decode xM115.2.1 119 = .ok (.aload_n 0, 1) := dz_ok (by decide +kernel)
theorem hrq_d120 : decode xM115.2.1 120 = .ok (.aload_n 1, 1) := dz_ok (by decide +kernel)
theorem hrq_d121 : decode xM115.2.1 121 = .ok (.iload_n 3, 1) := dz_ok (by decide +kernel)
theorem hrq_d122 : decode xM115.2.1 122 = .ok (.invokevirtual 99, 3) := dz_ok (by decide +kernel)
theorem hrq_d125 : decode xM115.2.1 125 = .ok (.istore 5, 2) := dz_ok (by decide +kernel)
theorem hrq_d127 : decode xM115.2.1 127 = .ok (.aload_n 0, 1) := dz_ok (by decide +kernel)
theorem hrq_d128 : decode xM115.2.1 128 = .ok (.aload_n 1, 1) := dz_ok (by decide +kernel)
theorem hrq_d129 : decode xM115.2.1 129 = .ok (.getfield 92, 3) := dz_ok (by decide +kernel)
theorem hrq_d132 : decode xM115.2.1 132 = .ok (.invokevirtual 103, 3) := dz_ok (by decide +kernel)
theorem hrq_d135 : decode xM115.2.1 135 = .ok (.istore 4, 2) := dz_ok (by decide +kernel)
theorem hrq_d137 : decode xM115.2.1 137 = .ok (.goto (-39), 3) := dz_ok (by decide +kernel)
theorem hrq_d140 : decode xM115.2.1 140 = .ok (.iload 4, 2) := dz_ok (by decide +kernel)
theorem hrq_d142 : decode xM115.2.1 142 = .ok (.ifCond .eq 8, 3) := dz_ok (by decide +kernel)
theorem hrq_d145 : decode xM115.2.1 145 = .ok (.iload 6, 2) := dz_ok (by decide +kernel)
theorem hrq_d147 : decode xM115.2.1 147 = .ok (.goto 4, 3) := dz_ok (by decide +kernel)
theorem hrq_d150 : decode xM115.2.1 150 = .ok (.iconst (-1), 1) := dz_ok (by decide +kernel)
theorem hrq_d151 : decode xM115.2.1 151 = .ok (.ireturn, 1) := dz_ok (by decide +kernel)
theorem hrq_L98 {p : Program} {l : Launch} {e : Env} {s : State} {m : MethodId} {below : List Frame} {meth : Method} {c : Code} {D : va_G} {U : State} {Y0 : xY} {av : List Value} (B : y_B vwCl x_Tb x_Nb xM115 p s m meth c D U Y0 av) {this ld sr : Nat} {fm sn fo : Int32} {fr f : Nat → Int32} (hav : av = [.ref this, .ref ld, .int fm, .int sn]) (hL0 : z_L D Y0 ld s.heap f) (hsr : x_sl D 5 0 this s.heap = some (.ref sr)) (hfo0 : x_sl D 5 1 this s.heap = some (.int fo)) (hA0 : y_A sr 1024 s.heap fr) (hfo9 : 0 ≤ fo.toInt ∧ fo.toInt ≤ 1024) (hB_sr : ∀ j, j < 1024 → (0 : Int) ≤ (fr j).toInt ∧ (fr j).toInt ≤ 1023) (hd2 : 0 ≤ (f 2).toInt ∧ (f 2).toInt ≤ 8) (hfm : 0 ≤ fm.toInt ∧ fm.toInt ≤ 1023)  :
    ∀ (n : Nat), ∀ (H : Heap) (Y : xY) (locs : List Loc) (ls : Array Slot) (rd : Nat) (rn : Nat) (ho : Int32) (go : Int32) (ir : Int32) (Fz : Nat → Int32), x_I D x_G x_Zs U (x_efs xM115) Y0 s.heap Y H locs → Y this = some 8 → Y ld = some 2 → Y sr = some 35 → Y rd = some 38 → Y rn = some 38 → x_sl D 5 0 this H = some (.ref sr) → x_sl D 5 4 this H = some (.ref rd) → x_sl D 5 5 this H = some (.ref rn) → x_sl D 5 1 this H = some (.int fo) → x_sl D 2 12 ld H = some (.int (f 2)) → y_A sr 1024 H fr → y_A rd 1024 H Fz → z_L D Y ld H f → lv_has ls xM115.2.2.1 [(6, .int ho), (5, .int go), (4, .int ir), (0, .ref this), (1, .ref ld), (2, .int fm), (3, .int sn)] → (∀ j, j < 1024 → ((-1) : Int) ≤ (Fz j).toInt ∧ (Fz j).toInt ≤ 8) → (rd ≠ rn) → (0 ≤ ho.toInt ∧ ho.toInt ≤ 9216) → (0 ≤ go.toInt ∧ go.toInt ≤ 1) → (0 ≤ ir.toInt ∧ ir.toInt ≤ 1) → (m_tI f sn fm fo fr Fz ho.toInt.toNat (go = 0) (go = 1)) → (ir = 1 → (∃ k : Nat, (k : Int) < fo.toInt ∧ Fz k = f 2) ∨ (f 2 = 0 ∧ ho = 0)) → (ir = 0 → ∀ k : Nat, (k : Int) < fo.toInt → ¬ Fz k = f 2) → (9217 - ho.toInt).toNat < n → W p l e (x_rm xM115) s m av.toArray below meth c H locs 0 0 (y_QQ below D x_G x_Zs U xM115 z_Phr9 av Y0 s) (F0 m 98 ls []) := by
  have X := B.1
  have hx := X.1
  have hb := X.2.1
  have hY0 := B.2.2.2.2.1
  intro n
  induction n with
  | zero => intro _ _ _ _ _ _ _ _ _ _ _ _ _ _ _ _ _ _ _ _ _ _ _ _ _ _ _ _ _ _ _ _ _ h; exact absurd h (Nat.not_lt_zero _)
  | succ n ih =>
    intro H Y locs ls rd rn ho go ir Fz hI hY_this hY_ld hY_sr hY_rd hY_rn hs_sr hs_rd hs_rn hsi_found hsi_letters hA_sr hA_rd hL hl hB_rd hrr hho hgo hir hti hi1 hi0 hn
    refine lv_iload hx hb hrq_d98 (lv_at hl 2 rfl) ?_
    have ec0 : (0 : Int32).toInt = 0 := by decide
    refine lv_if_ne hx hb hrq_d100 (tgt := 140) (by decide) (fun q100 => ?_) (fun q100 => ?_)
    · have q100_ : ¬ ir.toInt = (0 : Int32).toInt := fun q => q100 (Int32.toInt_inj.mp q)
      refine lv_iload hx hb hrq_d140 (lv_at hl 2 rfl) ?_
      refine lv_if_eq hx hb hrq_d142 (tgt := 150) (by decide) (fun q142 => ?_) (fun q142 => ?_)
      · have q142_ : ir.toInt = (0 : Int32).toInt := by rw [q142]
        refine lv_iconst hx hb hrq_d150 (v := (-1)) (by decide) ?_
        have ecm1 : ((-1) : Int32).toInt = (-1) := by decide
        subst hav
        exact y_ireturn B hI rfl rfl rfl List.mem_cons_self ⟨_, rfl, ⟨_, rfl, by show (-1 : Int) ≤ _; omega, by show _ ≤ (9216 : Int); omega⟩⟩ (x_cs.mono B.2.2.2.2.2 (y_mon B hI)) (fun t' l' s' m' n' o' r' f' h1 h2 h3 h4 h5 => by cases h1; cases h2.symm.trans hsr; cases h3.symm.trans hfo0; cases h5.uniq hL0; have eS : ∀ q, q < 1024 → r' q = fr q := fun q hq1 => z_AR h4 hA0 hq1; refine ⟨_, rfl, fun L N a1 a2 a3 => ?_, rd, rn, hs_rd, hs_rn, hrr⟩; have a1 : m_W L N fo fr := ⟨a1.1, a1.2.1, fun q hq1 hL9 => by have := m_cn_lt hq1 hL9; have := m_cn_b (L := L) (k := N); have := a1.1; rw [← eS _ (show m_cn L q < 1024 by omega)]; exact a1.2.2 q hq1 hL9⟩; have hir9 : ir = 0 := (by assumption); by_cases hg9 : go = 0; exact hti.no hfm hd2.1 hg9 (hi0 hir9) a1 a2 a3; exact absurd (hti.cap hfm hd2 (by rcases y_01 hgo.1 hgo.2 with h9 | h9; exact absurd h9 hg9; exact h9) (by first | omega | exact absurd (show ir = 0 by assumption) (by assumption) | exact absurd (show go = 0 by assumption) hg9) (hi0 hir9) a1 a2 a3) id) (Nat.le_refl _) (Nat.le_refl _) hrq_d151
      · have q142_ : ¬ ir.toInt = (0 : Int32).toInt := fun q => q142 (Int32.toInt_inj.mp q)
        refine lv_iload hx hb hrq_d145 (lv_at hl 0 rfl) ?_
        refine lv_goto hx hb hrq_d147 (tgt := 151) (by decide) ?_
        subst hav
        exact y_ireturn B hI rfl rfl rfl List.mem_cons_self ⟨_, rfl, ⟨_, rfl, by show (-1 : Int) ≤ _; omega, by show _ ≤ (9216 : Int); omega⟩⟩ (x_cs.mono B.2.2.2.2.2 (y_mon B hI)) (fun t' l' s' m' n' o' r' f' h1 h2 h3 h4 h5 => by cases h1; cases h2.symm.trans hsr; cases h3.symm.trans hfo0; cases h5.uniq hL0; have eS : ∀ q, q < 1024 → r' q = fr q := fun q hq1 => z_AR h4 hA0 hq1; refine ⟨_, rfl, fun L N a1 a2 a3 => ?_, rd, rn, hs_rd, hs_rn, hrr⟩; have a1 : m_W L N fo fr := ⟨a1.1, a1.2.1, fun q hq1 hL9 => by have := m_cn_lt hq1 hL9; have := m_cn_b (L := L) (k := N); have := a1.1; rw [← eS _ (show m_cn L q < 1024 by omega)]; exact a1.2.2 q hq1 hL9⟩; rcases hi1 (by rcases y_01 hir.1 hir.2 with h9 | h9; exact absurd h9 (by assumption); exact h9) with h8 | ⟨h8, h7⟩; exact hti.yes hd2.1 (by omega) h8 a1 a2 a3; (rw [h7]; exact m_tol0 hfm h8)) (Nat.le_refl _) (Nat.le_refl _) hrq_d151
    · have q100_ : ir.toInt = (0 : Int32).toInt := by rw [q100]
      refine lv_iload hx hb hrq_d103 (lv_at hl 1 rfl) ?_
      refine lv_if_eq hx hb hrq_d105 (tgt := 140) (by decide) (fun q105 => ?_) (fun q105 => ?_)
      · have q105_ : go.toInt = (0 : Int32).toInt := by rw [q105]
        refine lv_iload hx hb hrq_d140 (lv_at hl 2 rfl) ?_
        refine lv_if_eq hx hb hrq_d142 (tgt := 150) (by decide) (fun q142 => ?_) (fun q142 => ?_)
        · have q142_ : ir.toInt = (0 : Int32).toInt := by rw [q142]
          refine lv_iconst hx hb hrq_d150 (v := (-1)) (by decide) ?_
          have ecm1 : ((-1) : Int32).toInt = (-1) := by decide
          subst hav
          exact y_ireturn B hI rfl rfl rfl List.mem_cons_self ⟨_, rfl, ⟨_, rfl, by show (-1 : Int) ≤ _; omega, by show _ ≤ (9216 : Int); omega⟩⟩ (x_cs.mono B.2.2.2.2.2 (y_mon B hI)) (fun t' l' s' m' n' o' r' f' h1 h2 h3 h4 h5 => by cases h1; cases h2.symm.trans hsr; cases h3.symm.trans hfo0; cases h5.uniq hL0; have eS : ∀ q, q < 1024 → r' q = fr q := fun q hq1 => z_AR h4 hA0 hq1; refine ⟨_, rfl, fun L N a1 a2 a3 => ?_, rd, rn, hs_rd, hs_rn, hrr⟩; have a1 : m_W L N fo fr := ⟨a1.1, a1.2.1, fun q hq1 hL9 => by have := m_cn_lt hq1 hL9; have := m_cn_b (L := L) (k := N); have := a1.1; rw [← eS _ (show m_cn L q < 1024 by omega)]; exact a1.2.2 q hq1 hL9⟩; have hir9 : ir = 0 := (by assumption); by_cases hg9 : go = 0; exact hti.no hfm hd2.1 hg9 (hi0 hir9) a1 a2 a3; exact absurd (hti.cap hfm hd2 (by rcases y_01 hgo.1 hgo.2 with h9 | h9; exact absurd h9 hg9; exact h9) (by first | omega | exact absurd (show ir = 0 by assumption) (by assumption) | exact absurd (show go = 0 by assumption) hg9) (hi0 hir9) a1 a2 a3) id) (Nat.le_refl _) (Nat.le_refl _) hrq_d151
        · have q142_ : ¬ ir.toInt = (0 : Int32).toInt := fun q => q142 (Int32.toInt_inj.mp q)
          refine lv_iload hx hb hrq_d145 (lv_at hl 0 rfl) ?_
          refine lv_goto hx hb hrq_d147 (tgt := 151) (by decide) ?_
          subst hav
          exact y_ireturn B hI rfl rfl rfl List.mem_cons_self ⟨_, rfl, ⟨_, rfl, by show (-1 : Int) ≤ _; omega, by show _ ≤ (9216 : Int); omega⟩⟩ (x_cs.mono B.2.2.2.2.2 (y_mon B hI)) (fun t' l' s' m' n' o' r' f' h1 h2 h3 h4 h5 => by cases h1; cases h2.symm.trans hsr; cases h3.symm.trans hfo0; cases h5.uniq hL0; have eS : ∀ q, q < 1024 → r' q = fr q := fun q hq1 => z_AR h4 hA0 hq1; refine ⟨_, rfl, fun L N a1 a2 a3 => ?_, rd, rn, hs_rd, hs_rn, hrr⟩; have a1 : m_W L N fo fr := ⟨a1.1, a1.2.1, fun q hq1 hL9 => by have := m_cn_lt hq1 hL9; have := m_cn_b (L := L) (k := N); have := a1.1; rw [← eS _ (show m_cn L q < 1024 by omega)]; exact a1.2.2 q hq1 hL9⟩; rcases hi1 (by rcases y_01 hir.1 hir.2 with h9 | h9; exact absurd h9 (by assumption); exact h9) with h8 | ⟨h8, h7⟩; exact hti.yes hd2.1 (by omega) h8 a1 a2 a3; (rw [h7]; exact m_tol0 hfm h8)) (Nat.le_refl _) (Nat.le_refl _) hrq_d151
      · have q105_ : ¬ go.toInt = (0 : Int32).toInt := fun q => q105 (Int32.toInt_inj.mp q)
        refine lv_iload hx hb hrq_d108 (lv_at hl 0 rfl) ?_
        refine lv_sipush hx hb hrq_d110 (v := 9216) (by decide) ?_
        have ec9216 : (9216 : Int32).toInt = 9216 := by decide
        refine lv_icmp_ge hx hb hrq_d113 (tgt := 140) (by decide) (fun q113 => ?_) (fun q113 => ?_)
        · have q113_ : (9216 : Int32).toInt ≤ ho.toInt := x_le32.mp q113
          refine lv_iload hx hb hrq_d140 (lv_at hl 2 rfl) ?_
          refine lv_if_eq hx hb hrq_d142 (tgt := 150) (by decide) (fun q142 => ?_) (fun q142 => ?_)
          · have q142_ : ir.toInt = (0 : Int32).toInt := by rw [q142]
            refine lv_iconst hx hb hrq_d150 (v := (-1)) (by decide) ?_
            have ecm1 : ((-1) : Int32).toInt = (-1) := by decide
            subst hav
            exact y_ireturn B hI rfl rfl rfl List.mem_cons_self ⟨_, rfl, ⟨_, rfl, by show (-1 : Int) ≤ _; omega, by show _ ≤ (9216 : Int); omega⟩⟩ (x_cs.mono B.2.2.2.2.2 (y_mon B hI)) (fun t' l' s' m' n' o' r' f' h1 h2 h3 h4 h5 => by cases h1; cases h2.symm.trans hsr; cases h3.symm.trans hfo0; cases h5.uniq hL0; have eS : ∀ q, q < 1024 → r' q = fr q := fun q hq1 => z_AR h4 hA0 hq1; refine ⟨_, rfl, fun L N a1 a2 a3 => ?_, rd, rn, hs_rd, hs_rn, hrr⟩; have a1 : m_W L N fo fr := ⟨a1.1, a1.2.1, fun q hq1 hL9 => by have := m_cn_lt hq1 hL9; have := m_cn_b (L := L) (k := N); have := a1.1; rw [← eS _ (show m_cn L q < 1024 by omega)]; exact a1.2.2 q hq1 hL9⟩; have hir9 : ir = 0 := (by assumption); by_cases hg9 : go = 0; exact hti.no hfm hd2.1 hg9 (hi0 hir9) a1 a2 a3; exact absurd (hti.cap hfm hd2 (by rcases y_01 hgo.1 hgo.2 with h9 | h9; exact absurd h9 hg9; exact h9) (by first | omega | exact absurd (show ir = 0 by assumption) (by assumption) | exact absurd (show go = 0 by assumption) hg9) (hi0 hir9) a1 a2 a3) id) (Nat.le_refl _) (Nat.le_refl _) hrq_d151
          · have q142_ : ¬ ir.toInt = (0 : Int32).toInt := fun q => q142 (Int32.toInt_inj.mp q)
            refine lv_iload hx hb hrq_d145 (lv_at hl 0 rfl) ?_
            refine lv_goto hx hb hrq_d147 (tgt := 151) (by decide) ?_
            subst hav
            exact y_ireturn B hI rfl rfl rfl List.mem_cons_self ⟨_, rfl, ⟨_, rfl, by show (-1 : Int) ≤ _; omega, by show _ ≤ (9216 : Int); omega⟩⟩ (x_cs.mono B.2.2.2.2.2 (y_mon B hI)) (fun t' l' s' m' n' o' r' f' h1 h2 h3 h4 h5 => by cases h1; cases h2.symm.trans hsr; cases h3.symm.trans hfo0; cases h5.uniq hL0; have eS : ∀ q, q < 1024 → r' q = fr q := fun q hq1 => z_AR h4 hA0 hq1; refine ⟨_, rfl, fun L N a1 a2 a3 => ?_, rd, rn, hs_rd, hs_rn, hrr⟩; have a1 : m_W L N fo fr := ⟨a1.1, a1.2.1, fun q hq1 hL9 => by have := m_cn_lt hq1 hL9; have := m_cn_b (L := L) (k := N); have := a1.1; rw [← eS _ (show m_cn L q < 1024 by omega)]; exact a1.2.2 q hq1 hL9⟩; rcases hi1 (by rcases y_01 hir.1 hir.2 with h9 | h9; exact absurd h9 (by assumption); exact h9) with h8 | ⟨h8, h7⟩; exact hti.yes hd2.1 (by omega) h8 a1 a2 a3; (rw [h7]; exact m_tol0 hfm h8)) (Nat.le_refl _) (Nat.le_refl _) hrq_d151
        · have q113_ : ho.toInt < (9216 : Int32).toInt := Int.not_le.mp fun q => q113 (x_le32.mpr q)
          obtain ⟨z116, hg_z116⟩ : ∃ z116 : Int32, ho + Int32.ofInt 1 = z116 := ⟨_, rfl⟩
          have h_z116 : z116.toInt = ho.toInt + 1 := by rw [← hg_z116]; exact y_inc (by decide) (by omega) (by omega)
          refine lv_iinc hx hb hrq_d116 hl (k := 0) rfl hg_z116 (by decide) (lv' := [(6, .int z116), (5, .int go), (4, .int ir), (0, .ref this), (1, .ref ld), (2, .int fm), (3, .int sn)]) rfl fun ls hl => ?_
          refine lv_aload_n hx hb hrq_d119 rfl (lv_at hl 3 rfl) ?_
          refine lv_aload_n hx hb hrq_d120 rfl (lv_at hl 4 rfl) ?_
          refine lv_iload_n hx hb hrq_d121 rfl (lv_at hl 6 rfl) ?_
          refine y_call (z := (0, 99, 3, some 8, xM113)) (av := [.ref this, .ref ld, .int sn]) (rest := []) (y_cokV (n := 2) (ci := 5) X ym_oneHour rfl rfl rfl (x_cons (x_bw54 12 rfl rfl) (x_cons (x_bw54 14 rfl rfl) (x_cons (x_at 23 (by decide +kernel) rfl) (x_cons (x_bw0 8 rfl rfl) x_nilm)))) (x_bw54 15 rfl rfl) (by decide +kernel) ⟨Nat.le_of_ble_eq_true rfl, Nat.le_of_ble_eq_true rfl⟩) hY0 hI rfl hrq_d122 hl.1 (Nat.le_of_ble_eq_true rfl) (Nat.le_of_ble_eq_true rfl) (Nat.le_of_ble_eq_true rfl) (y_cons (y_cref hY_this rfl) (y_cons (y_cref hY_ld rfl) (y_cons ⟨_, rfl, x_i32 _⟩ y_nil))) rfl (y_recv rfl hY_this) ⟨fun q h1 => by cases h1; exact ⟨_, hL⟩, fun q d n h1 h2 h3 => by cases h1; cases h2.symm.trans hs_rd; cases h3.symm.trans hs_rn; exact hrr⟩ (y_sub_ef rfl) fun v Yn o Hn L ho hr ha hIn hx_ hE hP => ?_
          have hPo := hP _ _ _ _ _ _ _ _ _ _ rfl hs_sr hsi_found hA_sr hs_rd hA_rd hs_rn hrr hL
          replace hs_sr := y_Efld hE hY_this rfl (by decide) (by decide) hs_sr
          replace hsi_found := y_Efld hE hY_this rfl (by decide) (by decide) hsi_found
          replace hsi_letters := y_Efld hE hY_ld rfl (by decide) (by decide) hsi_letters
          replace hA_sr := hA_sr.kept (y_Earr hE hY_sr rfl (by decide))
          replace hL := hL.E hY_ld hE (fun q u h => y_ext hx_ hI.1 h) (by decide +kernel)
          replace hY_this := y_ext hx_ hI.1 hY_this
          replace hY_ld := y_ext hx_ hI.1 hY_ld
          replace hY_sr := y_ext hx_ hI.1 hY_sr
          replace hY_rd := y_ext hx_ hI.1 hY_rd
          replace hY_rn := y_ext hx_ hI.1 hY_rn
          obtain ⟨r122, rfl, F9, hs_rd, hs_rn, hA_rd, hB_F9, hhr, hnw9⟩ := hPo
          clear ho hr ha hE hP hI hx_
          rename x_I _ _ _ _ _ _ _ _ _ _ => hI
          refine lv_istore hx hb hrq_d125 hl (by decide) (lv' := [(5, .int r122), (6, .int z116), (4, .int ir), (0, .ref this), (1, .ref ld), (2, .int fm), (3, .int sn)]) rfl fun ls hl => ?_
          refine lv_aload_n hx hb hrq_d127 rfl (lv_at hl 3 rfl) ?_
          refine lv_aload_n hx hb hrq_d128 rfl (lv_at hl 4 rfl) ?_
          refine y_getf X (fl145 X.2.2.2.2.1) hI.1 hY_ld rfl hsi_letters hrq_d129 ?_
          refine y_call (z := (0, 103, 2, some 8, xM114)) (av := [.ref this, .int (f 2)]) (rest := []) (y_cokV (n := 1) (ci := 5) X ym_isAllRead rfl rfl rfl (x_cons (x_bw55 4 rfl rfl) (x_cons (x_bw55 6 rfl rfl) (x_cons (x_at 25 (by decide +kernel) rfl) (x_cons (x_bw0 8 rfl rfl) x_nilm)))) (x_bw55 7 rfl rfl) (by decide +kernel) ⟨Nat.le_of_ble_eq_true rfl, Nat.le_of_ble_eq_true rfl⟩) hY0 hI rfl hrq_d132 hl.1 (Nat.le_of_ble_eq_true rfl) (Nat.le_of_ble_eq_true rfl) (Nat.le_of_ble_eq_true rfl) (y_cons (y_cref hY_this rfl) (y_cons ⟨_, rfl, x_i32 _⟩ y_nil)) rfl (y_recv rfl hY_this) trivial (y_sub_ef rfl) fun v Yn o Hn L ho hr ha hIn hx_ hE hP => ?_
          have hPi := hP _ _ _ _ _ _ _ rfl hs_sr hsi_found hA_sr hs_rd hA_rd
          replace hs_sr := y_Efld hE hY_this rfl (by decide) (by decide) hs_sr
          replace hsi_found := y_Efld hE hY_this rfl (by decide) (by decide) hsi_found
          replace hsi_letters := y_Efld hE hY_ld rfl (by decide) (by decide) hsi_letters
          replace hs_rd := y_Efld hE hY_this rfl (by decide) (by decide) hs_rd
          replace hs_rn := y_Efld hE hY_this rfl (by decide) (by decide) hs_rn
          replace hA_sr := hA_sr.kept (y_Earr hE hY_sr rfl (by decide))
          replace hA_rd := hA_rd.kept (y_Earr hE hY_rn rfl (by decide))
          replace hL := hL.E hY_ld hE (fun q u h => y_ext hx_ hI.1 h) (by decide +kernel)
          replace hY_this := y_ext hx_ hI.1 hY_this
          replace hY_ld := y_ext hx_ hI.1 hY_ld
          replace hY_sr := y_ext hx_ hI.1 hY_sr
          replace hY_rd := y_ext hx_ hI.1 hY_rd
          replace hY_rn := y_ext hx_ hI.1 hY_rn
          obtain ⟨r132, rfl, h_r132⟩ := y_ansI (lo := 0) (hi := 1) (by decide) ho hr
          have hia : m_yn r132 (∃ k : Nat, (k : Int) < fo.toInt ∧ F9 k = (f 2)) (∀ k : Nat, (k : Int) < fo.toInt → ¬ F9 k = (f 2)) := by rcases hPi with ⟨e9, h9⟩ | ⟨e9, h9⟩; (cases e9; exact Or.inl ⟨rfl, h9⟩); (cases e9; exact Or.inr ⟨rfl, h9⟩)
          clear hPi
          clear ho hr ha hE hP hI hx_
          rename x_I _ _ _ _ _ _ _ _ _ _ => hI
          refine lv_istore hx hb hrq_d135 hl (by decide) (lv' := [(4, .int r132), (5, .int r122), (6, .int z116), (0, .ref this), (1, .ref ld), (2, .int fm), (3, .int sn)]) rfl fun ls hl => ?_
          refine lv_goto hx hb hrq_d137 (tgt := 98) (by decide) ?_
          have his : z116.toInt.toNat = ho.toInt.toNat + 1 := by omega
          have hir9 : ir = 0 := by assumption
          have hgo9 : go = 1 := by rcases y_01 hgo.1 hgo.2 with h9 | h9; exact absurd h9 (by assumption); exact h9
          have hst := hti.step hfm hd2.1 (fun k hk => hB_rd k (by omega)) (fun k hk => (hB_sr k (by omega)).1) hgo9 (hi0 hir9) hhr
          have hY9 := hY_rd
          replace hY_rd := hY_rn
          have hY_rn := hY9
          exact ih _ _ _ _ _ _ _ _ _ _ hI hY_this hY_ld hY_sr hY_rd hY_rn hs_sr hs_rd hs_rn hsi_found hsi_letters hA_sr hA_rd hL (lv_sub hl [2, 1, 0, 3, 4, 5, 6] rfl) hB_F9 (fun e9 => hrr e9.symm) (by first | assumption | omega) (by rcases hnw9 with ⟨e9, -⟩ | ⟨e9, -⟩; (rw [e9, m_c1]; omega); (rw [e9, m_c0]; omega)) (by first | assumption | omega) (by rw [his]; exact hst.imp (fun q => by rcases hnw9 with ⟨e9, -⟩ | ⟨-, h9⟩; (rw [e9] at q; exact absurd q (by decide)); exact h9) (fun q => by rcases hnw9 with ⟨-, h9⟩ | ⟨e9, -⟩; exact h9; (rw [e9] at q; exact absurd q (by decide)))) (fun q => by rcases hia with ⟨-, h9⟩ | ⟨e9, -⟩; exact Or.inl h9; (rw [e9] at q; exact absurd q (by decide))) (fun q => by rcases hia with ⟨e9, -⟩ | ⟨-, h9⟩; (rw [e9] at q; exact absurd q (by decide)); exact h9) (by omega)
theorem hrq_L17 {p : Program} {l : Launch} {e : Env} {s : State} {m : MethodId} {below : List Frame} {meth : Method} {c : Code} {D : va_G} {U : State} {Y0 : xY} {av : List Value} (B : y_B vwCl x_Tb x_Nb xM115 p s m meth c D U Y0 av) {this ld sr rd rn : Nat} {fm sn fo : Int32} {fr f : Nat → Int32} (hav : av = [.ref this, .ref ld, .int fm, .int sn]) (hL0 : z_L D Y0 ld s.heap f) (hsr : x_sl D 5 0 this s.heap = some (.ref sr)) (hfo0 : x_sl D 5 1 this s.heap = some (.int fo)) (hA0 : y_A sr 1024 s.heap fr) (hfo9 : 0 ≤ fo.toInt ∧ fo.toInt ≤ 1024) (hB_sr : ∀ j, j < 1024 → (0 : Int) ≤ (fr j).toInt ∧ (fr j).toInt ≤ 1023) (hd2 : 0 ≤ (f 2).toInt ∧ (f 2).toInt ≤ 8) (hfm : 0 ≤ fm.toInt ∧ fm.toInt ≤ 1023) (hrr : rd ≠ rn)  :
    ∀ (n : Nat), ∀ (H : Heap) (Y : xY) (locs : List Loc) (ls : Array Slot) (k : Int32) (ir : Int32) (Fz : Nat → Int32), x_I D x_G x_Zs U (x_efs xM115) Y0 s.heap Y H locs → Y this = some 8 → Y ld = some 2 → Y sr = some 35 → Y rd = some 38 → Y rn = some 38 → x_sl D 5 0 this H = some (.ref sr) → x_sl D 5 4 this H = some (.ref rd) → x_sl D 5 5 this H = some (.ref rn) → x_sl D 5 1 this H = some (.int fo) → x_sl D 2 12 ld H = some (.int (f 2)) → y_A sr 1024 H fr → y_A rd 1024 H Fz → z_L D Y ld H f → lv_has ls xM115.2.2.1 [(5, .int k), (4, .int ir), (0, .ref this), (1, .ref ld), (2, .int fm), (3, .int sn)] → (∀ j, j < 1024 → ((-1) : Int) ≤ (Fz j).toInt ∧ (Fz j).toInt ≤ 8) → (0 ≤ k.toInt ∧ k.toInt ≤ fo.toInt) → (0 ≤ ir.toInt ∧ ir.toInt ≤ 1) → (∀ j : Nat, (j : Int) < k.toInt → Fz j = m_r0 f sn fm (fr j)) → (ir = 1 → f 2 = 0 ∨ ∃ j : Nat, (j : Int) < k.toInt ∧ Fz j = f 2) → (ir = 0 → ¬ f 2 = 0 ∧ ∀ j : Nat, (j : Int) < k.toInt → ¬ Fz j = f 2) → (1025 - k.toInt).toNat < n → W p l e (x_rm xM115) s m av.toArray below meth c H locs 0 0 (y_QQ below D x_G x_Zs U xM115 z_Phr9 av Y0 s) (F0 m 17 ls []) := by
  have X := B.1
  have hx := X.1
  have hb := X.2.1
  have hY0 := B.2.2.2.2.1
  intro n
  induction n with
  | zero => intro _ _ _ _ _ _ _ _ _ _ _ _ _ _ _ _ _ _ _ _ _ _ _ _ _ _ _ _ h; exact absurd h (Nat.not_lt_zero _)
  | succ n ih =>
    intro H Y locs ls k ir Fz hI hY_this hY_ld hY_sr hY_rd hY_rn hs_sr hs_rd hs_rn hsi_found hsi_letters hA_sr hA_rd hL hl hB_rd hk hir hF hi1 hi0 hn
    refine lv_iload hx hb hrq_d17 (lv_at hl 0 rfl) ?_
    refine lv_aload_n hx hb hrq_d19 rfl (lv_at hl 2 rfl) ?_
    refine y_getf X (fl136 X.2.2.2.2.1) hI.1 hY_this rfl hsi_found hrq_d20 ?_
    refine lv_icmp_ge hx hb hrq_d23 (tgt := 92) (by decide) (fun q23 => ?_) (fun q23 => ?_)
    · have q23_ : fo.toInt ≤ k.toInt := x_le32.mp q23
      refine lv_iconst hx hb hrq_d92 (v := 1) (by decide) ?_
      have ec1 : (1 : Int32).toInt = 1 := by decide
      refine lv_istore hx hb hrq_d93 hl (by decide) (lv' := [(5, .int (1 : Int32)), (4, .int ir), (0, .ref this), (1, .ref ld), (2, .int fm), (3, .int sn)]) rfl fun ls hl => ?_
      refine lv_iconst hx hb hrq_d95 (v := 0) (by decide) ?_
      have ec0 : (0 : Int32).toInt = 0 := by decide
      refine lv_istore hx hb hrq_d96 hl (by decide) (lv' := [(6, .int (0 : Int32)), (5, .int (1 : Int32)), (4, .int ir), (0, .ref this), (1, .ref ld), (2, .int fm), (3, .int sn)]) rfl fun ls hl => ?_
      have hkf : ∀ j : Nat, (j : Int) < fo.toInt → (j : Int) < k.toInt := fun j hj => by omega
      have hts := m_tI.start (f := f) (sn := sn) (fo := fo) (S := fr) (F := Fz) hfm (fun j hj => hF j (hkf j hj))
      have hir9 := y_01 hir.1 hir.2
      exact hrq_L98 B hav hL0 hsr hfo0 hA0 hfo9 hB_sr hd2 hfm 9218 _ _ _ _ _ _ _ _ _ _ hI hY_this hY_ld hY_sr hY_rd hY_rn hs_sr hs_rd hs_rn hsi_found hsi_letters hA_sr hA_rd hL (lv_sub hl [0, 1, 2, 3, 4, 5, 6] rfl) hB_rd hrr (by rw [m_c0]; omega) (by rw [m_c1]; omega) hir (by rw [z_i0]; exact hts.imp (fun q => absurd q (by decide)) (fun _ => trivial)) (fun q => by rcases hi1 q with h9 | ⟨j, j1, j2⟩; exact Or.inr ⟨h9, rfl⟩; exact Or.inl ⟨j, by omega, j2⟩) (fun q j hj => (hi0 q).2 j (hkf j hj)) (by rw [m_c0]; omega)
    · have q23_ : k.toInt < fo.toInt := Int.not_le.mp fun q => q23 (x_le32.mpr q)
      refine lv_aload_n hx hb hrq_d26 rfl (lv_at hl 2 rfl) ?_
      refine y_getf X (fl147 X.2.2.2.2.1) hI.1 hY_this rfl hs_rd hrq_d27 ?_
      refine lv_iload hx hb hrq_d30 (lv_at hl 0 rfl) ?_
      refine lv_aload_n hx hb hrq_d32 rfl (lv_at hl 2 rfl) ?_
      refine y_getf X (fl135 X.2.2.2.2.1) hI.1 hY_this rfl hs_sr hrq_d33 ?_
      refine lv_iload hx hb hrq_d36 (lv_at hl 0 rfl) ?_
      refine y_iald X hI.1 hY_sr rfl hA_sr (by omega) (by show _ < (1024 : Int); omega) hrq_d38 ?_
      obtain ⟨e38, hg_e38⟩ : ∃ e38 : Int32, fr k.toInt.toNat = e38 := ⟨_, rfl⟩
      rw [hg_e38]
      have h_e38 : (0 : Int) ≤ e38.toInt ∧ e38.toInt ≤ 1023 := by rw [← hg_e38]; exact hB_sr _ (by omega)
      refine lv_iload_n hx hb hrq_d39 rfl (lv_at hl 4 rfl) ?_
      refine lv_icmp_ne hx hb hrq_d40 (tgt := 60) (by decide) (fun q40 => ?_) (fun q40 => ?_)
      · have q40_ : ¬ e38.toInt = fm.toInt := fun q => q40 (Int32.toInt_inj.mp q)
        refine lv_iconst hx hb hrq_d60 (v := (-1)) (by decide) ?_
        have ecm1 : ((-1) : Int32).toInt = (-1) := by decide
        refine y_iast X hY0 hI hY_rd rfl hA_rd (by omega) (by show _ < (1024 : Int); omega) ⟨_, rfl, by show ((-1) : Int) ≤ _; omega, by show _ ≤ (8 : Int); omega⟩ (by decide +kernel) hrq_d61 fun H locs hI h_new ho => ?_
        replace hA_rd := h_new
        replace hB_rd := y_upb (i := k.toInt.toNat) (v := ((-1) : Int32)) hB_rd (by constructor <;> omega)
        generalize hf_f61 : y_up Fz k.toInt.toNat ((-1) : Int32) = f61 at hA_rd hB_rd
        replace hs_sr := y_slk hs_sr (ho _ (y_ne hY_this hY_rd rfl))
        replace hs_rd := y_slk hs_rd (ho _ (y_ne hY_this hY_rd rfl))
        replace hs_rn := y_slk hs_rn (ho _ (y_ne hY_this hY_rd rfl))
        replace hsi_found := y_slk hsi_found (ho _ (y_ne hY_this hY_rd rfl))
        replace hsi_letters := y_slk hsi_letters (ho _ (y_ne hY_ld hY_rd rfl))
        replace hA_sr := hA_sr.kept (ho _ (y_ne hY_sr hY_rd rfl))
        replace hL := hL.wr hY_ld hY_rd (by decide) ho
        refine lv_iload hx hb hrq_d62 (lv_at hl 1 rfl) ?_
        refine lv_aload_n hx hb hrq_d64 rfl (lv_at hl 2 rfl) ?_
        refine y_getf X (fl147 X.2.2.2.2.1) hI.1 hY_this rfl hs_rd hrq_d65 ?_
        refine lv_iload hx hb hrq_d68 (lv_at hl 0 rfl) ?_
        refine y_iald X hI.1 hY_rd rfl hA_rd (by omega) (by show _ < (1024 : Int); omega) hrq_d70 ?_
        obtain ⟨e70, hg_e70⟩ : ∃ e70 : Int32, f61 k.toInt.toNat = e70 := ⟨_, rfl⟩
        rw [hg_e70]
        have h_e70 : ((-1) : Int) ≤ e70.toInt ∧ e70.toInt ≤ 8 := by rw [← hg_e70]; exact hB_rd _ (by omega)
        refine lv_aload_n hx hb hrq_d71 rfl (lv_at hl 3 rfl) ?_
        refine y_getf X (fl145 X.2.2.2.2.1) hI.1 hY_ld rfl hsi_letters hrq_d72 ?_
        refine lv_icmp_ne hx hb hrq_d75 (tgt := 82) (by decide) (fun q75 => ?_) (fun q75 => ?_)
        · have q75_ : ¬ e70.toInt = (f 2).toInt := fun q => q75 (Int32.toInt_inj.mp q)
          refine lv_iconst hx hb hrq_d82 (v := 0) (by decide) ?_
          have ec0 : (0 : Int32).toInt = 0 := by decide
          refine lv_ior hx hb hrq_d83 ?_
          generalize hg_z83 : ir ||| (0 : Int32) = z83
          refine lv_istore hx hb hrq_d84 hl (by decide) (lv' := [(4, .int z83), (5, .int k), (0, .ref this), (1, .ref ld), (2, .int fm), (3, .int sn)]) rfl fun ls hl => ?_
          obtain ⟨z86, hg_z86⟩ : ∃ z86 : Int32, k + Int32.ofInt 1 = z86 := ⟨_, rfl⟩
          have h_z86 : z86.toInt = k.toInt + 1 := by rw [← hg_z86]; exact y_inc (by decide) (by omega) (by omega)
          refine lv_iinc hx hb hrq_d86 hl (k := 1) rfl hg_z86 (by decide) (lv' := [(5, .int z86), (4, .int z83), (0, .ref this), (1, .ref ld), (2, .int fm), (3, .int sn)]) rfl fun ls hl => ?_
          refine lv_goto hx hb hrq_d89 (tgt := 17) (by decide) ?_
          have his : z86.toInt = k.toInt + 1 := by omega
          have hkn : k.toInt.toNat < 1024 := by omega
          have hold : ∀ j : Nat, (j : Int) < k.toInt → f61 j = Fz j := fun j hj => by rw [← hf_f61, y_up_ne (by omega)]
          have hval : f61 k.toInt.toNat = m_r0 f sn fm (fr k.toInt.toNat) := by rw [← hf_f61, y_up_at]; unfold m_r0; first | (rw [if_neg (fun h9 => absurd ((Eq.trans (Eq.symm hg_e38)) h9) (by assumption))]) | (rw [if_pos ((Eq.trans hg_e38) (by assumption)), hg_e51, hg_z53]; exact (Eq.symm hg_r54))
          have hir9 := y_01 hir.1 hir.2
          have hz83 : z83 = ir := by rw [← hg_z83]; rcases hir9 with h9 | h9; (rw [h9]; decide); (rw [h9]; decide)
          exact ih _ _ _ _ _ _ _ hI hY_this hY_ld hY_sr hY_rd hY_rn hs_sr hs_rd hs_rn hsi_found hsi_letters hA_sr hA_rd hL (lv_sub hl [0, 1, 2, 3, 4, 5] rfl) (by first | assumption | omega) (by first | assumption | omega) (by rw [hz83]; exact hir) (fun j hj => by by_cases e : j = k.toInt.toNat; (rw [e]; exact hval); (rw [hold j (by omega)]; exact hF j (by omega))) (fun h9 => by rcases hi1 (hz83.symm.trans h9) with q9 | ⟨j, j1, j2⟩; exact Or.inl q9; exact Or.inr ⟨j, by omega, by rw [hold j j1]; exact j2⟩) (fun h9 => ⟨(hi0 (hz83.symm.trans h9)).1, fun j hj => by by_cases e : j = k.toInt.toNat; (rw [e, hg_e70]; assumption); (rw [hold j (by omega)]; exact (hi0 (hz83.symm.trans h9)).2 j (by omega))⟩) (by omega)
        · have q75_ : e70.toInt = (f 2).toInt := by rw [q75]
          refine lv_iconst hx hb hrq_d78 (v := 1) (by decide) ?_
          have ec1 : (1 : Int32).toInt = 1 := by decide
          refine lv_goto hx hb hrq_d79 (tgt := 83) (by decide) ?_
          refine lv_ior hx hb hrq_d83 ?_
          generalize hg_z83 : ir ||| (1 : Int32) = z83
          refine lv_istore hx hb hrq_d84 hl (by decide) (lv' := [(4, .int z83), (5, .int k), (0, .ref this), (1, .ref ld), (2, .int fm), (3, .int sn)]) rfl fun ls hl => ?_
          obtain ⟨z86, hg_z86⟩ : ∃ z86 : Int32, k + Int32.ofInt 1 = z86 := ⟨_, rfl⟩
          have h_z86 : z86.toInt = k.toInt + 1 := by rw [← hg_z86]; exact y_inc (by decide) (by omega) (by omega)
          refine lv_iinc hx hb hrq_d86 hl (k := 1) rfl hg_z86 (by decide) (lv' := [(5, .int z86), (4, .int z83), (0, .ref this), (1, .ref ld), (2, .int fm), (3, .int sn)]) rfl fun ls hl => ?_
          refine lv_goto hx hb hrq_d89 (tgt := 17) (by decide) ?_
          have his : z86.toInt = k.toInt + 1 := by omega
          have hkn : k.toInt.toNat < 1024 := by omega
          have hold : ∀ j : Nat, (j : Int) < k.toInt → f61 j = Fz j := fun j hj => by rw [← hf_f61, y_up_ne (by omega)]
          have hval : f61 k.toInt.toNat = m_r0 f sn fm (fr k.toInt.toNat) := by rw [← hf_f61, y_up_at]; unfold m_r0; first | (rw [if_neg (fun h9 => absurd ((Eq.trans (Eq.symm hg_e38)) h9) (by assumption))]) | (rw [if_pos ((Eq.trans hg_e38) (by assumption)), hg_e51, hg_z53]; exact (Eq.symm hg_r54))
          have hir9 := y_01 hir.1 hir.2
          have hz83 : z83 = 1 := by rw [← hg_z83]; rcases hir9 with h9 | h9; (rw [h9]; decide); (rw [h9]; decide)
          exact ih _ _ _ _ _ _ _ hI hY_this hY_ld hY_sr hY_rd hY_rn hs_sr hs_rd hs_rn hsi_found hsi_letters hA_sr hA_rd hL (lv_sub hl [0, 1, 2, 3, 4, 5] rfl) (by first | assumption | omega) (by first | assumption | omega) (by rw [hz83, m_c1]; omega) (fun j hj => by by_cases e : j = k.toInt.toNat; (rw [e]; exact hval); (rw [hold j (by omega)]; exact hF j (by omega))) (fun _ => Or.inr ⟨k.toInt.toNat, by omega, by rw [hg_e70]; assumption⟩) (fun h9 => absurd (hz83.symm.trans h9) (by decide)) (by omega)
      · have q40_ : e38.toInt = fm.toInt := by rw [q40]
        refine lv_aload_n hx hb hrq_d43 rfl (lv_at hl 3 rfl) ?_
        refine lv_iconst hx hb hrq_d44 (v := 0) (by decide) ?_
        have ec0 : (0 : Int32).toInt = 0 := by decide
        refine lv_aload_n hx hb hrq_d45 rfl (lv_at hl 2 rfl) ?_
        refine y_getf X (fl135 X.2.2.2.2.1) hI.1 hY_this rfl hs_sr hrq_d46 ?_
        refine lv_iload hx hb hrq_d49 (lv_at hl 0 rfl) ?_
        refine y_iald X hI.1 hY_sr rfl hA_sr (by omega) (by show _ < (1024 : Int); omega) hrq_d51 ?_
        obtain ⟨e51, hg_e51⟩ : ∃ e51 : Int32, fr k.toInt.toNat = e51 := ⟨_, rfl⟩
        rw [hg_e51]
        have h_e51 : (0 : Int) ≤ e51.toInt ∧ e51.toInt ≤ 1023 := by rw [← hg_e51]; exact hB_sr _ (by omega)
        refine lv_iload_n hx hb hrq_d52 rfl (lv_at hl 5 rfl) ?_
        refine lv_iand hx hb hrq_d53 ?_
        generalize hg_z53 : e51 &&& sn = z53
        refine y_call (z := (1, 95, 3, none, xM111)) (av := [.ref ld, .int (0 : Int32), .int z53]) (rest := [.int k, .ref rd]) (y_cokS (n := 3) X ym_readBy (x_cons (x_bw54 9 rfl rfl) (x_cons (x_bw54 10 rfl rfl) (x_cons (x_bw0 8 rfl rfl) x_nilm))) (x_bw54 11 rfl rfl) (by decide +kernel) ⟨Nat.le_of_ble_eq_true rfl, Nat.le_of_ble_eq_true rfl⟩) hY0 hI rfl hrq_d54 hl.1 (Nat.le_of_ble_eq_true rfl) (Nat.le_of_ble_eq_true rfl) (Nat.le_of_ble_eq_true rfl) (y_cons (y_cref hY_ld rfl) (y_cons ⟨_, rfl, by show (0 : Int) ≤ _; omega, by show _ ≤ (8 : Int); omega⟩ (y_cons ⟨_, rfl, x_i32 _⟩ y_nil))) rfl (y_norecv rfl) (fun t' h1 => by cases h1; exact ⟨_, hL⟩) (y_sub_ef rfl) fun v Yn o Hn L ho hr ha hIn hx_ hE hP => ?_
        have hPb := hP _ _ _ _ rfl hL
        replace hs_sr := y_Efld hE hY_this rfl (by decide) (by decide) hs_sr
        replace hs_rd := y_Efld hE hY_this rfl (by decide) (by decide) hs_rd
        replace hs_rn := y_Efld hE hY_this rfl (by decide) (by decide) hs_rn
        replace hsi_found := y_Efld hE hY_this rfl (by decide) (by decide) hsi_found
        replace hsi_letters := y_Efld hE hY_ld rfl (by decide) (by decide) hsi_letters
        replace hA_sr := hA_sr.kept (y_Earr hE hY_sr rfl (by decide))
        replace hA_rd := hA_rd.kept (y_Earr hE hY_rd rfl (by decide))
        replace hL := hL.E hY_ld hE (fun q u h => y_ext hx_ hI.1 h) (by decide +kernel)
        replace hY_this := y_ext hx_ hI.1 hY_this
        replace hY_ld := y_ext hx_ hI.1 hY_ld
        replace hY_sr := y_ext hx_ hI.1 hY_sr
        replace hY_rd := y_ext hx_ hI.1 hY_rd
        replace hY_rn := y_ext hx_ hI.1 hY_rn
        obtain ⟨r54, rfl, h_r54⟩ := y_ansI (lo := 0) (hi := 8) (by decide) ho hr
        have hg_r54 : m_rbI f (0 : Int32) z53 = r54 := by cases hPb; rfl
        clear ho hr ha hE hP hI hx_
        rename x_I _ _ _ _ _ _ _ _ _ _ => hI
        refine lv_goto hx hb hrq_d57 (tgt := 61) (by decide) ?_
        refine y_iast X hY0 hI hY_rd rfl hA_rd (by omega) (by show _ < (1024 : Int); omega) ⟨_, rfl, by show ((-1) : Int) ≤ _; omega, by show _ ≤ (8 : Int); omega⟩ (by decide +kernel) hrq_d61 fun H locs hI h_new ho => ?_
        replace hA_rd := h_new
        replace hB_rd := y_upb (i := k.toInt.toNat) (v := r54) hB_rd (by constructor <;> omega)
        generalize hf_f61 : y_up Fz k.toInt.toNat r54 = f61 at hA_rd hB_rd
        replace hs_sr := y_slk hs_sr (ho _ (y_ne hY_this hY_rd rfl))
        replace hs_rd := y_slk hs_rd (ho _ (y_ne hY_this hY_rd rfl))
        replace hs_rn := y_slk hs_rn (ho _ (y_ne hY_this hY_rd rfl))
        replace hsi_found := y_slk hsi_found (ho _ (y_ne hY_this hY_rd rfl))
        replace hsi_letters := y_slk hsi_letters (ho _ (y_ne hY_ld hY_rd rfl))
        replace hA_sr := hA_sr.kept (ho _ (y_ne hY_sr hY_rd rfl))
        replace hL := hL.wr hY_ld hY_rd (by decide) ho
        refine lv_iload hx hb hrq_d62 (lv_at hl 1 rfl) ?_
        refine lv_aload_n hx hb hrq_d64 rfl (lv_at hl 2 rfl) ?_
        refine y_getf X (fl147 X.2.2.2.2.1) hI.1 hY_this rfl hs_rd hrq_d65 ?_
        refine lv_iload hx hb hrq_d68 (lv_at hl 0 rfl) ?_
        refine y_iald X hI.1 hY_rd rfl hA_rd (by omega) (by show _ < (1024 : Int); omega) hrq_d70 ?_
        obtain ⟨e70, hg_e70⟩ : ∃ e70 : Int32, f61 k.toInt.toNat = e70 := ⟨_, rfl⟩
        rw [hg_e70]
        have h_e70 : ((-1) : Int) ≤ e70.toInt ∧ e70.toInt ≤ 8 := by rw [← hg_e70]; exact hB_rd _ (by omega)
        refine lv_aload_n hx hb hrq_d71 rfl (lv_at hl 3 rfl) ?_
        refine y_getf X (fl145 X.2.2.2.2.1) hI.1 hY_ld rfl hsi_letters hrq_d72 ?_
        refine lv_icmp_ne hx hb hrq_d75 (tgt := 82) (by decide) (fun q75 => ?_) (fun q75 => ?_)
        · have q75_ : ¬ e70.toInt = (f 2).toInt := fun q => q75 (Int32.toInt_inj.mp q)
          refine lv_iconst hx hb hrq_d82 (v := 0) (by decide) ?_
          refine lv_ior hx hb hrq_d83 ?_
          generalize hg_z83 : ir ||| (0 : Int32) = z83
          refine lv_istore hx hb hrq_d84 hl (by decide) (lv' := [(4, .int z83), (5, .int k), (0, .ref this), (1, .ref ld), (2, .int fm), (3, .int sn)]) rfl fun ls hl => ?_
          obtain ⟨z86, hg_z86⟩ : ∃ z86 : Int32, k + Int32.ofInt 1 = z86 := ⟨_, rfl⟩
          have h_z86 : z86.toInt = k.toInt + 1 := by rw [← hg_z86]; exact y_inc (by decide) (by omega) (by omega)
          refine lv_iinc hx hb hrq_d86 hl (k := 1) rfl hg_z86 (by decide) (lv' := [(5, .int z86), (4, .int z83), (0, .ref this), (1, .ref ld), (2, .int fm), (3, .int sn)]) rfl fun ls hl => ?_
          refine lv_goto hx hb hrq_d89 (tgt := 17) (by decide) ?_
          have his : z86.toInt = k.toInt + 1 := by omega
          have hkn : k.toInt.toNat < 1024 := by omega
          have hold : ∀ j : Nat, (j : Int) < k.toInt → f61 j = Fz j := fun j hj => by rw [← hf_f61, y_up_ne (by omega)]
          have hval : f61 k.toInt.toNat = m_r0 f sn fm (fr k.toInt.toNat) := by rw [← hf_f61, y_up_at]; unfold m_r0; first | (rw [if_neg (fun h9 => absurd ((Eq.trans (Eq.symm hg_e38)) h9) (by assumption))]) | (rw [if_pos ((Eq.trans hg_e38) (by assumption)), hg_e51, hg_z53]; exact (Eq.symm hg_r54))
          have hir9 := y_01 hir.1 hir.2
          have hz83 : z83 = ir := by rw [← hg_z83]; rcases hir9 with h9 | h9; (rw [h9]; decide); (rw [h9]; decide)
          exact ih _ _ _ _ _ _ _ hI hY_this hY_ld hY_sr hY_rd hY_rn hs_sr hs_rd hs_rn hsi_found hsi_letters hA_sr hA_rd hL (lv_sub hl [0, 1, 2, 3, 4, 5] rfl) (by first | assumption | omega) (by first | assumption | omega) (by rw [hz83]; exact hir) (fun j hj => by by_cases e : j = k.toInt.toNat; (rw [e]; exact hval); (rw [hold j (by omega)]; exact hF j (by omega))) (fun h9 => by rcases hi1 (hz83.symm.trans h9) with q9 | ⟨j, j1, j2⟩; exact Or.inl q9; exact Or.inr ⟨j, by omega, by rw [hold j j1]; exact j2⟩) (fun h9 => ⟨(hi0 (hz83.symm.trans h9)).1, fun j hj => by by_cases e : j = k.toInt.toNat; (rw [e, hg_e70]; assumption); (rw [hold j (by omega)]; exact (hi0 (hz83.symm.trans h9)).2 j (by omega))⟩) (by omega)
        · have q75_ : e70.toInt = (f 2).toInt := by rw [q75]
          refine lv_iconst hx hb hrq_d78 (v := 1) (by decide) ?_
          have ec1 : (1 : Int32).toInt = 1 := by decide
          refine lv_goto hx hb hrq_d79 (tgt := 83) (by decide) ?_
          refine lv_ior hx hb hrq_d83 ?_
          generalize hg_z83 : ir ||| (1 : Int32) = z83
          refine lv_istore hx hb hrq_d84 hl (by decide) (lv' := [(4, .int z83), (5, .int k), (0, .ref this), (1, .ref ld), (2, .int fm), (3, .int sn)]) rfl fun ls hl => ?_
          obtain ⟨z86, hg_z86⟩ : ∃ z86 : Int32, k + Int32.ofInt 1 = z86 := ⟨_, rfl⟩
          have h_z86 : z86.toInt = k.toInt + 1 := by rw [← hg_z86]; exact y_inc (by decide) (by omega) (by omega)
          refine lv_iinc hx hb hrq_d86 hl (k := 1) rfl hg_z86 (by decide) (lv' := [(5, .int z86), (4, .int z83), (0, .ref this), (1, .ref ld), (2, .int fm), (3, .int sn)]) rfl fun ls hl => ?_
          refine lv_goto hx hb hrq_d89 (tgt := 17) (by decide) ?_
          have his : z86.toInt = k.toInt + 1 := by omega
          have hkn : k.toInt.toNat < 1024 := by omega
          have hold : ∀ j : Nat, (j : Int) < k.toInt → f61 j = Fz j := fun j hj => by rw [← hf_f61, y_up_ne (by omega)]
          have hval : f61 k.toInt.toNat = m_r0 f sn fm (fr k.toInt.toNat) := by rw [← hf_f61, y_up_at]; unfold m_r0; first | (rw [if_neg (fun h9 => absurd ((Eq.trans (Eq.symm hg_e38)) h9) (by assumption))]) | (rw [if_pos ((Eq.trans hg_e38) (by assumption)), hg_e51, hg_z53]; exact (Eq.symm hg_r54))
          have hir9 := y_01 hir.1 hir.2
          have hz83 : z83 = 1 := by rw [← hg_z83]; rcases hir9 with h9 | h9; (rw [h9]; decide); (rw [h9]; decide)
          exact ih _ _ _ _ _ _ _ hI hY_this hY_ld hY_sr hY_rd hY_rn hs_sr hs_rd hs_rn hsi_found hsi_letters hA_sr hA_rd hL (lv_sub hl [0, 1, 2, 3, 4, 5] rfl) (by first | assumption | omega) (by first | assumption | omega) (by rw [hz83, m_c1]; omega) (fun j hj => by by_cases e : j = k.toInt.toNat; (rw [e]; exact hval); (rw [hold j (by omega)]; exact hF j (by omega))) (fun _ => Or.inr ⟨k.toInt.toNat, by omega, by rw [hg_e70]; assumption⟩) (fun h9 => absurd (hz83.symm.trans h9) (by decide)) (by omega)
theorem ym_hoursTo : y_Met vwCl x_G x_Zs x_Tb x_Nb xM115 z_Arr z_Phr9 := by
  refine y_main (by decide +kernel) (by decide +kernel) x_Tb_good x_Nb_ok ?_
  intro p l e s m below meth c D U Y0 av ls B hI hpre hl
  have X := B.1
  have hx := X.1
  have hb := X.2.1
  have hY0 := B.2.2.2.2.1
  obtain ⟨v0, v1, v2, v3, rfl, hv0, hv1, ⟨fm, rfl, hfm⟩, ⟨sn, rfl, -⟩⟩ := y_four B.2.2.2.2.2
  replace hfm : (0 : Int) ≤ fm.toInt ∧ fm.toInt ≤ 1023 := hfm
  obtain ⟨this, t0, rfl, ht0, hY_this⟩ := x_ref_at hv0 rfl
  obtain rfl := List.mem_singleton.mp ht0
  obtain ⟨ld, t1, rfl, ht1, hY_ld⟩ := x_ref_at hv1 rfl
  obtain rfl := List.mem_singleton.mp ht1
  replace hl : lv_has ls xM115.2.2.1 [(0, .ref this), (1, .ref ld), (2, .int fm), (3, .int sn)] := hl
  obtain ⟨sr, hs_sr, hY_sr⟩ := y_fldR (k := 0) hI.1 hY_this rfl rfl
  obtain ⟨rd, hs_rd, hY_rd⟩ := y_fldR (k := 4) hI.1 hY_this rfl rfl
  obtain ⟨fr, hA_sr, hB_sr⟩ := y_arr hI.1 hY_sr rfl rfl
  replace hB_sr : ∀ j, j < 1024 → (0 : Int) ≤ (fr j).toInt ∧ (fr j).toInt ≤ 1023 := fun j hj => by obtain ⟨x, e0, e1⟩ := hB_sr j hj; cases e0; exact e1
  obtain ⟨Fz, hA_rd, hB_rd⟩ := y_arr hI.1 hY_rd rfl rfl
  replace hB_rd : ∀ j, j < 1024 → (-1 : Int) ≤ (Fz j).toInt ∧ (Fz j).toInt ≤ 8 := fun j hj => by obtain ⟨x, e0, e1⟩ := hB_rd j hj; cases e0; exact e1
  obtain ⟨fo, hsi_found, hfo9⟩ := y_fldI (k := 1) hI.1 hY_this rfl rfl
  replace hfo9 : (0 : Int) ≤ fo.toInt ∧ fo.toInt ≤ 1024 := hfo9
  have hsr := hs_sr
  have hA0 := hA_sr
  have hfo0 := hsi_found
  have hsd0 := hs_rd
  have hAd0 := hA_rd
  obtain ⟨rn, hs_rn, hY_rn⟩ := y_fldR (k := 5) hI.1 hY_this rfl rfl
  have hrr := hpre.2 _ _ _ rfl hs_rd hs_rn
  obtain ⟨f, hL⟩ := hpre.1 _ rfl
  have hL0 := hL
  have hsi_letters := hL.1.2.2
  have hn2 := hL.1.2.2
  have hd2 : 0 ≤ (f 2).toInt ∧ (f 2).toInt ≤ 8 := by
    obtain ⟨x9, e9, b9⟩ := y_fldI (k := 12) hI.1 hY_ld rfl rfl
    rw [hn2] at e9
    cases e9
    exact b9
  refine lv_aload_n hx hb hrq_d0 rfl (lv_at hl 1 rfl) ?_
  refine y_getf X (fl145 X.2.2.2.2.1) hI.1 hY_ld rfl hsi_letters hrq_d1 ?_
  have ec0 : (0 : Int32).toInt = 0 := by decide
  refine lv_if_ne hx hb hrq_d4 (tgt := 11) (by decide) (fun q4 => ?_) (fun q4 => ?_)
  · have q4_ : ¬ (f 2).toInt = (0 : Int32).toInt := fun q => q4 (Int32.toInt_inj.mp q)
    refine lv_iconst hx hb hrq_d11 (v := 0) (by decide) ?_
    refine lv_istore hx hb hrq_d12 hl (by decide) (lv' := [(4, .int (0 : Int32)), (0, .ref this), (1, .ref ld), (2, .int fm), (3, .int sn)]) rfl fun ls hl => ?_
    refine lv_iconst hx hb hrq_d14 (v := 0) (by decide) ?_
    refine lv_istore hx hb hrq_d15 hl (by decide) (lv' := [(5, .int (0 : Int32)), (4, .int (0 : Int32)), (0, .ref this), (1, .ref ld), (2, .int fm), (3, .int sn)]) rfl fun ls hl => ?_
    exact hrq_L17 B rfl hL0 hsr hfo0 hA0 hfo9 hB_sr hd2 hfm hrr 1026 _ _ _ _ _ _ _ hI hY_this hY_ld hY_sr hY_rd hY_rn hs_sr hs_rd hs_rn hsi_found hsi_letters hA_sr hA_rd hL (lv_sub hl [0, 1, 2, 3, 4, 5] rfl) (by first | assumption | omega) (by first | assumption | omega) (by first | (rw [m_c1]; omega) | (rw [m_c0]; omega)) (fun j hj => absurd hj (by omega)) (fun q => by first | exact absurd q (by decide) | exact Or.inl (by assumption)) (fun q => by first | exact absurd q (by decide) | exact ⟨by assumption, fun j hj => absurd hj (by omega)⟩) (by omega)
  · have q4_ : (f 2).toInt = (0 : Int32).toInt := by rw [q4]
    refine lv_iconst hx hb hrq_d7 (v := 1) (by decide) ?_
    have ec1 : (1 : Int32).toInt = 1 := by decide
    refine lv_goto hx hb hrq_d8 (tgt := 12) (by decide) ?_
    refine lv_istore hx hb hrq_d12 hl (by decide) (lv' := [(4, .int (1 : Int32)), (0, .ref this), (1, .ref ld), (2, .int fm), (3, .int sn)]) rfl fun ls hl => ?_
    refine lv_iconst hx hb hrq_d14 (v := 0) (by decide) ?_
    refine lv_istore hx hb hrq_d15 hl (by decide) (lv' := [(5, .int (0 : Int32)), (4, .int (1 : Int32)), (0, .ref this), (1, .ref ld), (2, .int fm), (3, .int sn)]) rfl fun ls hl => ?_
    exact hrq_L17 B rfl hL0 hsr hfo0 hA0 hfo9 hB_sr hd2 hfm hrr 1026 _ _ _ _ _ _ _ hI hY_this hY_ld hY_sr hY_rd hY_rn hs_sr hs_rd hs_rn hsi_found hsi_letters hA_sr hA_rd hL (lv_sub hl [0, 1, 2, 3, 4, 5] rfl) (by first | assumption | omega) (by first | assumption | omega) (by first | (rw [m_c1]; omega) | (rw [m_c0]; omega)) (fun j hj => absurd hj (by omega)) (fun q => by first | exact absurd q (by decide) | exact Or.inl (by assumption)) (fun q => by first | exact absurd q (by decide) | exact ⟨by assumption, fun j hj => absurd hj (by omega)⟩) (by omega)
def z_rr (D : va_G) (H : Heap) (this : Nat) : Prop := ∀ ro rd rn : Nat, x_sl D 11 5 this H = some (.ref ro) → x_sl D 5 4 ro H = some (.ref rd) → x_sl D 5 5 ro H = some (.ref rn) → rd ≠ rn
def z_ATr : yA := fun D av Y H => z_ATF D av Y H ∧ ∀ this : Nat, av[0]? = some (.ref this) → z_rr D H this
def m_tN (L : Nat → Bool) (N : Nat) : Nat → Bool := fun w => decide (w < N) && L w
theorem m_tN_T {L : Nat → Bool} {N w : Nat} : m_tN L N w = true ↔ w < N ∧ L w = true := by
  unfold m_tN
  rw [Bool.and_eq_true, decide_eq_true_eq]
theorem m_tN_e {L : Nat → Bool} {N w : Nat} (h : w < N) : m_tN L N w = L w := by
  unfold m_tN
  rw [decide_eq_true h, Bool.true_and]
theorem m_W.tN {L : Nat → Bool} {N : Nat} {fo : Int32} {S : Nat → Int32} (h : m_W L N fo S) : m_W (m_tN L N) N fo S := by
  have e : ∀ n, n ≤ N → m_cn (m_tN L N) n = m_cn L n := fun n hn => m_cn_congr n fun k hk => m_tN_e (by omega)
  refine ⟨h.1, by rw [e N (Nat.le_refl _)]; exact h.2.1, fun s hs hL => ?_⟩
  rw [e s (by omega)]
  exact h.2.2 s hs (m_tN_T.mp hL).2
def m_tdS (L : Nat → Bool) (N : Nat) (ok : Prop) (f : Nat → Int32) (sn fm r : Int32) : Prop := (ok → L fm.toInt.toNat = true → m_tol (m_tE (m_tN L N) (m_rdn f sn)) (m_st0 f sn fm) (fun s => ((s / 1024 : Nat) : Int) = (f 2).toInt) r) ∧ (ok → L fm.toInt.toNat = false → r = -20) ∧ (¬ ok → r = -10)
def z_PTtold : yP := fun D av Y H v _ H' => ∀ (this : Nat) (w h : Int32) (f : Nat → Int32) (K : Nat → Option (Nat → Int32)) (t9 : Nat → Int32) (n9 : Int32), av = [.ref this, .int w, .int h] → z_RC D Y H this f K t9 n9 → (∃ r : Int32, v = some (.int r) ∧ m_tdS (m_LC (m_VC f (f 4) (f 5) 0)) (2 ^ (f 0).toInt.toNat) (m_isS f w ∧ m_isH f h) f (m_tw (m_VC f (f 4) (f 5) 0) h) w r) ∧ z_rr D H' this
theorem tiQ_d0 : decode xM1008.2.1 0 = .ok (.aload_n 0, 1) := dz_ok (by decide +kernel)
theorem tiQ_d1 : decode xM1008.2.1 1 = .ok (.getfield 12, 3) := dz_ok (by decide +kernel)
theorem tiQ_d4 : decode xM1008.2.1 4 = .ok (.iload_n 1, 1) := dz_ok (by decide +kernel)
theorem tiQ_d5 : decode xM1008.2.1 5 = .ok (.invokevirtual 169, 3) := dz_ok (by decide +kernel)
theorem tiQ_d8 : decode xM1008.2.1 8 = .ok (.ifCond .eq 14, 3) := dz_ok (by decide +kernel)
theorem tiQ_d11 : decode xM1008.2.1 11 = .ok (.aload_n 0, 1) := dz_ok (by decide +kernel)
theorem tiQ_d12 : decode xM1008.2.1 12 = .ok (.getfield 12, 3) := dz_ok (by decide +kernel)
theorem tiQ_d15 : decode xM1008.2.1 15 = .ok (.iload_n 2, 1) := dz_ok (by decide +kernel)
theorem tiQ_d16 : decode xM1008.2.1 16 = .ok (.invokevirtual 101, 3) := dz_ok (by decide +kernel)
theorem tiQ_d19 : decode xM1008.2.1 19 = .ok (.ifCond .ne 12, 3) := dz_ok (by decide +kernel)
theorem tiQ_d22 : decode xM1008.2.1 22 = .ok (.aload_n 0, 1) := dz_ok (by decide +kernel)
theorem tiQ_d23 : decode xM1008.2.1 23 = .ok (.bipush (-2), 2) := dz_ok (by decide +kernel)
theorem tiQ_d25 : decode xM1008.2.1 25 = .ok (.bipush (-10), 2) := dz_ok (by decide +kernel)
theorem tiQ_d27 : decode xM1008.2.1 27 = .ok (.invokevirtual 221, 3) := dz_ok (by decide +kernel)
theorem tiQ_d30 : decode xM1008.2.1 30 = .ok (.ireturn, 1) := dz_ok (by decide +kernel)
theorem tiQ_d31 : decode xM1008.2.1 31 = .ok (.aload_n 0, 1) := dz_ok (by decide +kernel)
theorem tiQ_d32 : decode xM1008.2.1 32 = .ok (.invokevirtual 180, 3) := dz_ok (by decide +kernel)
theorem tiQ_d35 : decode xM1008.2.1 35 = .ok (.aload_n 0, 1) := dz_ok (by decide +kernel)
theorem tiQ_d36 : decode xM1008.2.1 36 = .ok (.iload_n 1, 1) := dz_ok (by decide +kernel)
theorem tiQ_d37 : decode xM1008.2.1 37 = .ok (.invokevirtual 224, 3) := dz_ok (by decide +kernel)
theorem tiQ_d40 : decode xM1008.2.1 40 = .ok (.ifCond .ne 12, 3) := dz_ok (by decide +kernel)
theorem tiQ_d43 : decode xM1008.2.1 43 = .ok (.aload_n 0, 1) := dz_ok (by decide +kernel)
theorem tiQ_d44 : decode xM1008.2.1 44 = .ok (.bipush (-3), 2) := dz_ok (by decide +kernel)
theorem tiQ_d46 : decode xM1008.2.1 46 = .ok (.bipush (-20), 2) := dz_ok (by decide +kernel)
theorem tiQ_d48 : decode xM1008.2.1 48 = .ok (.invokevirtual 221, 3) := dz_ok (by decide +kernel)
theorem tiQ_d51 : decode xM1008.2.1 51 = .ok (.ireturn, 1) := dz_ok (by decide +kernel)
theorem tiQ_d52 : decode xM1008.2.1 52 = .ok (.aload_n 0, 1) := dz_ok (by decide +kernel)
theorem tiQ_d53 : decode xM1008.2.1 53 = .ok (.getfield 40, 3) := dz_ok (by decide +kernel)
theorem tiQ_d56 : decode xM1008.2.1 56 = .ok (.aload_n 0, 1) := dz_ok (by decide +kernel)
theorem tiQ_d57 : decode xM1008.2.1 57 = .ok (.getfield 12, 3) := dz_ok (by decide +kernel)
theorem tiQ_d60 : decode xM1008.2.1 60 = .ok (.iload_n 1, 1) := dz_ok (by decide +kernel)
theorem tiQ_d61 : decode xM1008.2.1 61 = .ok (.aload_n 0, 1) := dz_ok (by decide +kernel)
theorem tiQ_d62 : decode xM1008.2.1 62 = .ok (.getfield 33, 3) := dz_ok (by decide +kernel)
theorem tiQ_d65 : decode xM1008.2.1 65 = .ok (.iload_n 2, 1) := dz_ok (by decide +kernel)
theorem tiQ_d66 : decode xM1008.2.1 66 = .ok (.invokevirtual 240, 3) := dz_ok (by decide +kernel)
theorem tiQ_d69 : decode xM1008.2.1 69 = .ok (.invokevirtual 260, 3) := dz_ok (by decide +kernel)
theorem tiQ_d72 : decode xM1008.2.1 72 = .ok (.ireturn, 1) := dz_ok (by decide +kernel)
theorem ym_Ttold : y_Met vwCl x_G x_Zs x_Tb x_Nb xM1008 z_ATr z_PTtold := by
  refine y_main (by decide +kernel) (by decide +kernel) x_Tb_good x_Nb_ok ?_
  intro p l e s m below meth c D U Y0 av ls B hI hpre hl
  have X := B.1
  have hx := X.1
  have hb := X.2.1
  have hY0 := B.2.2.2.2.1
  obtain ⟨v0, v1, v2, rfl, hv0, ⟨w, rfl, -⟩, ⟨h, rfl, -⟩⟩ := y_three B.2.2.2.2.2
  have hrr0 := hpre.2
  replace hpre := hpre.1
  obtain ⟨this, t0, rfl, ht0, hY_this⟩ := x_ref_at hv0 rfl
  obtain rfl := List.mem_singleton.mp ht0
  replace hl : lv_has ls xM1008.2.2.1 [(0, .ref this), (1, .int w), (2, .int h)] := hl
  obtain ⟨f, K, tt, nn, hR0⟩ := hpre _ rfl
  obtain ⟨hd, dr, kp, tx, by_, kk, ⟨hs_hd, -⟩, ⟨hY_hd, -⟩, hL, -⟩ := id hR0
  obtain ⟨ey, hs_ey, hY_ey⟩ := y_fldR (k := 4) hI.1 hY_this rfl rfl
  obtain ⟨vw, hs_vw, hY_vw⟩ := y_fldR (k := 1) hI.1 hY_ey rfl rfl
  have hn0 := hL.1.1
  have hn1 := hL.1.2.1
  have hn2 := hL.1.2.2
  have hb0 : 0 ≤ (f 0).toInt ∧ (f 0).toInt ≤ 10 := by obtain ⟨x9, e9, b9⟩ := y_fldI (k := 0) hI.1 hY_hd rfl rfl; rw [hn0] at e9; cases e9; exact b9
  have hb1 : 0 ≤ (f 1).toInt ∧ (f 1).toInt ≤ 8 := by obtain ⟨x9, e9, b9⟩ := y_fldI (k := 6) hI.1 hY_hd rfl rfl; rw [hn1] at e9; cases e9; exact b9
  have hb2 : 0 ≤ (f 2).toInt ∧ (f 2).toInt ≤ 8 := by obtain ⟨x9, e9, b9⟩ := y_fldI (k := 12) hI.1 hY_hd rfl rfl; rw [hn2] at e9; cases e9; exact b9
  obtain ⟨ro, hs_ro, hY_ro⟩ := y_fldR (k := 5) hI.1 hY_this rfl rfl
  obtain ⟨sr, hs_sr, hY_sr⟩ := y_fldR (k := 0) hI.1 hY_ro rfl rfl
  obtain ⟨rd, hs_rd, hY_rd⟩ := y_fldR (k := 4) hI.1 hY_ro rfl rfl
  obtain ⟨rn, hs_rn, hY_rn⟩ := y_fldR (k := 5) hI.1 hY_ro rfl rfl
  replace hrr0 := hrr0 _ rfl
  have hrr := hrr0 _ _ _ hs_ro hs_rd hs_rn
  refine lv_aload_n hx hb tiQ_d0 rfl (lv_at hl 0 rfl) ?_
  refine y_getf X (fl8 X.2.2.2.2.1) hI.1 hY_this rfl hs_hd tiQ_d1 ?_
  refine lv_iload_n hx hb tiQ_d4 rfl (lv_at hl 1 rfl) ?_
  refine y_call (z := (0, 169, 2, some 2, xM67)) (av := [.ref hd, .int w]) (rest := []) (y_cokV (n := 1) (ci := 2) X ym_hasSet rfl rfl rfl (x_cons (x_bw42 2 rfl rfl) (x_cons (x_bw42 3 rfl rfl) (x_cons (x_bw42 4 rfl rfl) (x_cons (x_bw0 2 rfl rfl) x_nilm)))) (x_bw42 5 rfl rfl) (by decide +kernel) ⟨Nat.le_of_ble_eq_true rfl, Nat.le_of_ble_eq_true rfl⟩) hY0 hI rfl tiQ_d5 hl.1 (Nat.le_of_ble_eq_true rfl) (Nat.le_of_ble_eq_true rfl) (Nat.le_of_ble_eq_true rfl) (y_cons (y_cref hY_hd rfl) (y_cons ⟨_, rfl, x_i32 _⟩ y_nil)) rfl (y_recv rfl hY_hd) trivial (y_sub_ef rfl) fun v Yn o Hn L ho hr ha hIn hx_ hE hP => ?_
  have hPh := hP _ _ _ rfl hn0
  replace hs_hd := y_Efld hE hY_this rfl (by decide) (by decide) hs_hd
  replace hs_ey := y_Efld hE hY_this rfl (by decide) (by decide) hs_ey
  replace hs_vw := y_Efld hE hY_ey rfl (by decide) (by decide) hs_vw
  replace hn0 := y_Efld hE hY_hd rfl (by decide) (by decide) hn0
  replace hs_ro := y_Efld hE hY_this rfl (by decide) (by decide) hs_ro
  replace hs_sr := y_Efld hE hY_ro rfl (by decide) (by decide) hs_sr
  replace hs_rd := y_Efld hE hY_ro rfl (by decide) (by decide) hs_rd
  replace hs_rn := y_Efld hE hY_ro rfl (by decide) (by decide) hs_rn
  replace hL := hL.E hY_hd hE (fun q u h => y_ext hx_ hI.1 h) (by decide +kernel)
  replace hY_this := y_ext hx_ hI.1 hY_this
  replace hY_hd := y_ext hx_ hI.1 hY_hd
  replace hY_ey := y_ext hx_ hI.1 hY_ey
  replace hY_vw := y_ext hx_ hI.1 hY_vw
  replace hY_ro := y_ext hx_ hI.1 hY_ro
  replace hY_sr := y_ext hx_ hI.1 hY_sr
  replace hY_rd := y_ext hx_ hI.1 hY_rd
  replace hY_rn := y_ext hx_ hI.1 hY_rn
  obtain ⟨r5, rfl, hin_r5, hout_r5⟩ := hPh
  clear ho hr ha hE hP hI hx_
  rename x_I _ _ _ _ _ _ _ _ _ _ => hI
  have ec0 : (0 : Int32).toInt = 0 := by decide
  refine lv_if_eq hx hb tiQ_d8 (tgt := 22) (by decide) (fun q8 => ?_) (fun q8 => ?_)
  · have q8_ : r5.toInt = (0 : Int32).toInt := by rw [q8]
    have hno : ¬ (m_isS f w ∧ m_isH f h) := fun q9 => by first | exact hout_r5 (by assumption) q9.1 | exact hout_r16 (by assumption) q9.2
    refine lv_aload_n hx hb tiQ_d22 rfl (lv_at hl 0 rfl) ?_
    refine lv_bipush hx hb tiQ_d23 (v := (-2)) (by decide) ?_
    have ecm2 : ((-2) : Int32).toInt = (-2) := by decide
    refine lv_bipush hx hb tiQ_d25 (v := (-10)) (by decide) ?_
    have ecm10 : ((-10) : Int32).toInt = (-10) := by decide
    refine y_call (z := (0, 221, 3, some 0, xM7)) (av := [.ref this, .int ((-2) : Int32), .int ((-10) : Int32)]) (rest := []) (y_cokV (n := 2) (ci := 11) X ym_countedAs rfl rfl rfl (x_cons (x_bw19 11 rfl rfl) (x_cons (x_bw19 13 rfl rfl) (x_cons (x_at 2 (by decide +kernel) rfl) (x_cons (x_bw0 1 rfl rfl) x_nilm)))) (x_bw19 14 rfl rfl) (by decide +kernel) ⟨Nat.le_of_ble_eq_true rfl, Nat.le_of_ble_eq_true rfl⟩) hY0 hI rfl tiQ_d27 hl.1 (Nat.le_of_ble_eq_true rfl) (Nat.le_of_ble_eq_true rfl) (Nat.le_of_ble_eq_true rfl) (y_cons (y_cref hY_this rfl) (y_cons ⟨_, rfl, x_i32 _⟩ (y_cons ⟨_, rfl, x_i32 _⟩ y_nil))) rfl (y_recv rfl hY_this) trivial (y_sub_ef rfl) fun v Yn o Hn L ho hr ha hIn hx_ hE hP => ?_
    replace hs_hd := y_Efld hE hY_this rfl (by decide) (by decide) hs_hd
    replace hs_ey := y_Efld hE hY_this rfl (by decide) (by decide) hs_ey
    replace hs_vw := y_Efld hE hY_ey rfl (by decide) (by decide) hs_vw
    replace hn0 := y_Efld hE hY_hd rfl (by decide) (by decide) hn0
    replace hs_ro := y_Efld hE hY_this rfl (by decide) (by decide) hs_ro
    replace hs_sr := y_Efld hE hY_ro rfl (by decide) (by decide) hs_sr
    replace hs_rd := y_Efld hE hY_ro rfl (by decide) (by decide) hs_rd
    replace hs_rn := y_Efld hE hY_ro rfl (by decide) (by decide) hs_rn
    replace hL := hL.E hY_hd hE (fun q u h => y_ext hx_ hI.1 h) (by decide +kernel)
    replace hY_this := y_ext hx_ hI.1 hY_this
    replace hY_hd := y_ext hx_ hI.1 hY_hd
    replace hY_ey := y_ext hx_ hI.1 hY_ey
    replace hY_vw := y_ext hx_ hI.1 hY_vw
    replace hY_ro := y_ext hx_ hI.1 hY_ro
    replace hY_sr := y_ext hx_ hI.1 hY_sr
    replace hY_rd := y_ext hx_ hI.1 hY_rd
    replace hY_rn := y_ext hx_ hI.1 hY_rn
    obtain rfl := hP _ _ _ rfl
    clear ho hr ha hE hP hI hx_
    rename x_I _ _ _ _ _ _ _ _ _ _ => hI
    exact y_ireturn B hI rfl rfl rfl List.mem_cons_self ⟨_, rfl, ⟨_, rfl, x_i32 _⟩⟩ (x_cs.mono B.2.2.2.2.2 (y_mon B hI)) (fun t' w0' w1' f' K' tt' nn' h1 h2 => by cases h1; obtain ⟨ef, -⟩ := hR0.eqs h2; subst ef; exact ⟨⟨_, rfl, fun q9 => absurd q9 hno, fun q9 => absurd q9 hno, fun _ => rfl⟩, fun o d n h1 h2 h3 => by cases h1.symm.trans hs_ro; cases h2.symm.trans hs_rd; cases h3.symm.trans hs_rn; exact hrr⟩) (Nat.le_refl _) (Nat.le_refl _) tiQ_d30
  · have q8_ : ¬ r5.toInt = (0 : Int32).toInt := fun q => q8 (Int32.toInt_inj.mp q)
    refine lv_aload_n hx hb tiQ_d11 rfl (lv_at hl 0 rfl) ?_
    refine y_getf X (fl8 X.2.2.2.2.1) hI.1 hY_this rfl hs_hd tiQ_d12 ?_
    refine lv_iload_n hx hb tiQ_d15 rfl (lv_at hl 2 rfl) ?_
    refine y_call (z := (0, 101, 2, some 2, xM40)) (av := [.ref hd, .int h]) (rest := []) (y_cokV (n := 1) (ci := 2) X ym_hasHill rfl rfl rfl (x_cons (x_bw29 8 rfl rfl) (x_cons (x_bw29 9 rfl rfl) (x_cons (x_bw29 10 rfl rfl) (x_cons (x_bw0 2 rfl rfl) x_nilm)))) (x_bw29 11 rfl rfl) (by decide +kernel) ⟨Nat.le_of_ble_eq_true rfl, Nat.le_of_ble_eq_true rfl⟩) hY0 hI rfl tiQ_d16 hl.1 (Nat.le_of_ble_eq_true rfl) (Nat.le_of_ble_eq_true rfl) (Nat.le_of_ble_eq_true rfl) (y_cons (y_cref hY_hd rfl) (y_cons ⟨_, rfl, x_i32 _⟩ y_nil)) rfl (y_recv rfl hY_hd) trivial (y_sub_ef rfl) fun v Yn o Hn L ho hr ha hIn hx_ hE hP => ?_
    have hPh := hP _ _ _ rfl hn0
    replace hs_hd := y_Efld hE hY_this rfl (by decide) (by decide) hs_hd
    replace hs_ey := y_Efld hE hY_this rfl (by decide) (by decide) hs_ey
    replace hs_vw := y_Efld hE hY_ey rfl (by decide) (by decide) hs_vw
    replace hn0 := y_Efld hE hY_hd rfl (by decide) (by decide) hn0
    replace hs_ro := y_Efld hE hY_this rfl (by decide) (by decide) hs_ro
    replace hs_sr := y_Efld hE hY_ro rfl (by decide) (by decide) hs_sr
    replace hs_rd := y_Efld hE hY_ro rfl (by decide) (by decide) hs_rd
    replace hs_rn := y_Efld hE hY_ro rfl (by decide) (by decide) hs_rn
    replace hL := hL.E hY_hd hE (fun q u h => y_ext hx_ hI.1 h) (by decide +kernel)
    replace hY_this := y_ext hx_ hI.1 hY_this
    replace hY_hd := y_ext hx_ hI.1 hY_hd
    replace hY_ey := y_ext hx_ hI.1 hY_ey
    replace hY_vw := y_ext hx_ hI.1 hY_vw
    replace hY_ro := y_ext hx_ hI.1 hY_ro
    replace hY_sr := y_ext hx_ hI.1 hY_sr
    replace hY_rd := y_ext hx_ hI.1 hY_rd
    replace hY_rn := y_ext hx_ hI.1 hY_rn
    obtain ⟨r16, rfl, hin_r16, hout_r16⟩ := hPh
    clear ho hr ha hE hP hI hx_
    rename x_I _ _ _ _ _ _ _ _ _ _ => hI
    refine lv_if_ne hx hb tiQ_d19 (tgt := 31) (by decide) (fun q19 => ?_) (fun q19 => ?_)
    · have q19_ : ¬ r16.toInt = (0 : Int32).toInt := fun q => q19 (Int32.toInt_inj.mp q)
      have hok : m_isS f w ∧ m_isH f h := ⟨hin_r5 (by assumption), hin_r16 (by assumption)⟩
      have hs_w := hok.1
      have hz9 := z_all_p hb0
      have hpw9 : 2 ^ (f 0).toInt.toNat ≤ 1024 := Nat.pow_le_pow_right (n := 2) (by decide) (show (f 0).toInt.toNat ≤ 10 by omega)
      unfold m_isS at hs_w
      have hlt_w : w.toInt.toNat < (2 ^ (f 0).toInt.toNat) := by omega
      have hh9 := hok.2
      unfold m_isH at hh9
      refine lv_aload_n hx hb tiQ_d31 rfl (lv_at hl 0 rfl) ?_
      refine y_call (z := (0, 180, 1, some 0, xM1000)) (av := [.ref this]) (rest := []) (y_cokV (n := 0) (ci := 11) X ym_gatherNow rfl rfl rfl (x_cons (x_bw43 12 rfl rfl) (x_cons (x_bw43 14 rfl rfl) (x_cons (x_at 13 (by decide +kernel) rfl) (x_cons (x_bw0 1 rfl rfl) x_nilm)))) (x_bw43 15 rfl rfl) (by decide +kernel) ⟨Nat.le_of_ble_eq_true rfl, Nat.le_of_ble_eq_true rfl⟩) hY0 hI rfl tiQ_d32 hl.1 (Nat.le_of_ble_eq_true rfl) (Nat.le_of_ble_eq_true rfl) (Nat.le_of_ble_eq_true rfl) (y_cons (y_cref hY_this rfl) y_nil) rfl (y_recv rfl hY_this) (fun t' hd' h1 h2 => by cases h1; cases h2.symm.trans hs_hd; exact ⟨_, hL⟩) (y_sub_ef rfl) fun v Yn o Hn L ho hr ha hIn hx_ hE hP => ?_
      have hPg := hP _ _ _ _ _ _ _ rfl hs_hd hs_ey hs_vw hs_ro hs_sr hL
      replace hs_hd := y_Efld hE hY_this rfl (by decide) (by decide) hs_hd
      replace hs_ey := y_Efld hE hY_this rfl (by decide) (by decide) hs_ey
      replace hs_vw := y_Efld hE hY_ey rfl (by decide) (by decide) hs_vw
      replace hn0 := y_Efld hE hY_hd rfl (by decide) (by decide) hn0
      replace hs_ro := y_Efld hE hY_this rfl (by decide) (by decide) hs_ro
      replace hs_sr := y_Efld hE hY_ro rfl (by decide) (by decide) hs_sr
      replace hs_rd := y_Efld hE hY_ro rfl (by decide) (by decide) hs_rd
      replace hs_rn := y_Efld hE hY_ro rfl (by decide) (by decide) hs_rn
      replace hL := hL.E hY_hd hE (fun q u h => y_ext hx_ hI.1 h) (by decide +kernel)
      replace hY_this := y_ext hx_ hI.1 hY_this
      replace hY_hd := y_ext hx_ hI.1 hY_hd
      replace hY_ey := y_ext hx_ hI.1 hY_ey
      replace hY_vw := y_ext hx_ hI.1 hY_vw
      replace hY_ro := y_ext hx_ hI.1 hY_ro
      replace hY_sr := y_ext hx_ hI.1 hY_sr
      replace hY_rd := y_ext hx_ hI.1 hY_rd
      replace hY_rn := y_ext hx_ hI.1 hY_rn
      obtain rfl := y_ansV rfl ho hr
      obtain ⟨hA_vw, fo, fr, hsi_found, hA_sr, hfo, hse⟩ := hPg
      have hpw : 2 ^ (f 0).toInt.toNat ≤ 1024 := Nat.pow_le_pow_right (n := 2) (by decide) (show (f 0).toInt.toNat ≤ 10 by omega)
      clear ho hr ha hE hP hI hx_
      rename x_I _ _ _ _ _ _ _ _ _ _ => hI
      refine lv_aload_n hx hb tiQ_d35 rfl (lv_at hl 0 rfl) ?_
      refine lv_iload_n hx hb tiQ_d36 rfl (lv_at hl 1 rfl) ?_
      refine y_call (z := (0, 224, 2, some 0, xM92)) (av := [.ref this, .int w]) (rest := []) (y_cokV (n := 1) (ci := 11) X ym_isLawNow rfl rfl rfl (x_cons (x_bw49 1 rfl rfl) (x_cons (x_bw49 3 rfl rfl) (x_cons (x_at 17 (by decide +kernel) rfl) (x_cons (x_bw0 1 rfl rfl) x_nilm)))) (x_bw49 4 rfl rfl) (by decide +kernel) ⟨Nat.le_of_ble_eq_true rfl, Nat.le_of_ble_eq_true rfl⟩) hY0 hI rfl tiQ_d37 hl.1 (Nat.le_of_ble_eq_true rfl) (Nat.le_of_ble_eq_true rfl) (Nat.le_of_ble_eq_true rfl) (y_cons (y_cref hY_this rfl) (y_cons ⟨_, rfl, x_i32 _⟩ y_nil)) rfl (y_recv rfl hY_this) trivial (y_sub_ef rfl) fun v Yn o Hn L ho hr ha hIn hx_ hE hP => ?_
      have hPl := hP _ _ _ _ _ rfl hs_ey hs_vw hA_vw
      obtain rfl := hPl
      replace hs_hd := y_Efld hE hY_this rfl (by decide) (by decide) hs_hd
      replace hs_ey := y_Efld hE hY_this rfl (by decide) (by decide) hs_ey
      replace hs_vw := y_Efld hE hY_ey rfl (by decide) (by decide) hs_vw
      replace hn0 := y_Efld hE hY_hd rfl (by decide) (by decide) hn0
      replace hs_ro := y_Efld hE hY_this rfl (by decide) (by decide) hs_ro
      replace hs_sr := y_Efld hE hY_ro rfl (by decide) (by decide) hs_sr
      replace hs_rd := y_Efld hE hY_ro rfl (by decide) (by decide) hs_rd
      replace hs_rn := y_Efld hE hY_ro rfl (by decide) (by decide) hs_rn
      replace hsi_found := y_Efld hE hY_ro rfl (by decide) (by decide) hsi_found
      replace hA_vw := hA_vw.kept (y_Earr hE hY_vw rfl (by decide))
      replace hA_sr := hA_sr.kept (y_Earr hE hY_sr rfl (by decide))
      replace hL := hL.E hY_hd hE (fun q u h => y_ext hx_ hI.1 h) (by decide +kernel)
      replace hY_this := y_ext hx_ hI.1 hY_this
      replace hY_hd := y_ext hx_ hI.1 hY_hd
      replace hY_ey := y_ext hx_ hI.1 hY_ey
      replace hY_vw := y_ext hx_ hI.1 hY_vw
      replace hY_ro := y_ext hx_ hI.1 hY_ro
      replace hY_sr := y_ext hx_ hI.1 hY_sr
      replace hY_rd := y_ext hx_ hI.1 hY_rd
      replace hY_rn := y_ext hx_ hI.1 hY_rn
      generalize hg_r37 : m_b (!(m_any (m_wr (m_VC f (f 4) (f 5) 0) w) 10)) = r37
      clear ho hr ha hE hP hI hx_
      rename x_I _ _ _ _ _ _ _ _ _ _ => hI
      refine lv_if_ne hx hb tiQ_d40 (tgt := 52) (by decide) (fun q40 => ?_) (fun q40 => ?_)
      · have q40_ : ¬ r37.toInt = (0 : Int32).toInt := fun q => q40 (Int32.toInt_inj.mp q)
        have hLa := (show (m_LC (m_VC f (f 4) (f 5) 0)) w.toInt.toNat = true by unfold m_LC; rw [m_nj (by omega)]; exact m_bn (fun q => absurd ((Eq.trans (Eq.symm hg_r37)) q) (by assumption)))
        refine lv_aload_n hx hb tiQ_d52 rfl (lv_at hl 0 rfl) ?_
        refine y_getf X (fl205 X.2.2.2.2.1) hI.1 hY_this rfl hs_ro tiQ_d53 ?_
        refine lv_aload_n hx hb tiQ_d56 rfl (lv_at hl 0 rfl) ?_
        refine y_getf X (fl8 X.2.2.2.2.1) hI.1 hY_this rfl hs_hd tiQ_d57 ?_
        refine lv_iload_n hx hb tiQ_d60 rfl (lv_at hl 1 rfl) ?_
        refine lv_aload_n hx hb tiQ_d61 rfl (lv_at hl 0 rfl) ?_
        refine y_getf X (fl102 X.2.2.2.2.1) hI.1 hY_this rfl hs_ey tiQ_d62 ?_
        refine lv_iload_n hx hb tiQ_d65 rfl (lv_at hl 2 rfl) ?_
        refine y_call (z := (0, 240, 2, some 6, xM101)) (av := [.ref ey, .int h]) (rest := [.int w, .ref hd, .ref ro]) (y_cokV (n := 1) (ci := 0) X ym_townView rfl rfl rfl (x_cons (x_bw51 6 rfl rfl) (x_cons (x_bw51 7 rfl rfl) (x_cons (x_bw51 8 rfl rfl) (x_cons (x_bw0 6 rfl rfl) x_nilm)))) (x_bw51 9 rfl rfl) (by decide +kernel) ⟨Nat.le_of_ble_eq_true rfl, Nat.le_of_ble_eq_true rfl⟩) hY0 hI rfl tiQ_d66 hl.1 (Nat.le_of_ble_eq_true rfl) (Nat.le_of_ble_eq_true rfl) (Nat.le_of_ble_eq_true rfl) (y_cons (y_cref hY_ey rfl) (y_cons ⟨_, rfl, by show (0 : Int) ≤ _; omega, by show _ ≤ (9 : Int); omega⟩ y_nil)) rfl (y_recv rfl hY_ey) trivial (y_sub_ef rfl) fun v Yn o Hn L ho hr ha hIn hx_ hE hP => ?_
        have hPt := hP _ _ _ _ rfl hs_vw hA_vw
        obtain rfl := hPt
        replace hs_hd := y_Efld hE hY_this rfl (by decide) (by decide) hs_hd
        replace hs_ey := y_Efld hE hY_this rfl (by decide) (by decide) hs_ey
        replace hs_vw := y_Efld hE hY_ey rfl (by decide) (by decide) hs_vw
        replace hn0 := y_Efld hE hY_hd rfl (by decide) (by decide) hn0
        replace hs_ro := y_Efld hE hY_this rfl (by decide) (by decide) hs_ro
        replace hs_sr := y_Efld hE hY_ro rfl (by decide) (by decide) hs_sr
        replace hs_rd := y_Efld hE hY_ro rfl (by decide) (by decide) hs_rd
        replace hs_rn := y_Efld hE hY_ro rfl (by decide) (by decide) hs_rn
        replace hsi_found := y_Efld hE hY_ro rfl (by decide) (by decide) hsi_found
        replace hA_vw := hA_vw.kept (y_Earr hE hY_vw rfl (by decide))
        replace hA_sr := hA_sr.kept (y_Earr hE hY_sr rfl (by decide))
        replace hL := hL.E hY_hd hE (fun q u h => y_ext hx_ hI.1 h) (by decide +kernel)
        replace hY_this := y_ext hx_ hI.1 hY_this
        replace hY_hd := y_ext hx_ hI.1 hY_hd
        replace hY_ey := y_ext hx_ hI.1 hY_ey
        replace hY_vw := y_ext hx_ hI.1 hY_vw
        replace hY_ro := y_ext hx_ hI.1 hY_ro
        replace hY_sr := y_ext hx_ hI.1 hY_sr
        replace hY_rd := y_ext hx_ hI.1 hY_rd
        replace hY_rn := y_ext hx_ hI.1 hY_rn
        clear ho hr ha hE hP hI hx_
        rename x_I _ _ _ _ _ _ _ _ _ _ => hI
        refine y_call (z := (0, 260, 4, some 8, xM115)) (av := [.ref ro, .ref hd, .int w, .int (m_tw (m_VC f (f 4) (f 5) 0) h)]) (rest := []) (y_cokV (n := 3) (ci := 5) X ym_hoursTo rfl rfl rfl (x_cons (x_bw54 5 rfl rfl) (x_cons (x_bw54 6 rfl rfl) (x_cons (x_bw54 7 rfl rfl) (x_cons (x_bw0 8 rfl rfl) x_nilm)))) (x_bw54 8 rfl rfl) (by decide +kernel) ⟨Nat.le_of_ble_eq_true rfl, Nat.le_of_ble_eq_true rfl⟩) hY0 hI rfl tiQ_d69 hl.1 (Nat.le_of_ble_eq_true rfl) (Nat.le_of_ble_eq_true rfl) (Nat.le_of_ble_eq_true rfl) (y_cons (y_cref hY_ro rfl) (y_cons (y_cref hY_hd rfl) (y_cons ⟨_, rfl, by show (0 : Int) ≤ _; omega, by show _ ≤ (1023 : Int); omega⟩ (y_cons ⟨_, rfl, x_i32 _⟩ y_nil)))) rfl (y_recv rfl hY_ro) ⟨fun q h1 => by cases h1; exact ⟨_, hL⟩, fun q d n h1 h2 h3 => by cases h1; cases h2.symm.trans hs_rd; cases h3.symm.trans hs_rn; exact hrr⟩ (y_sub_ef rfl) fun v Yn o Hn L ho hr ha hIn hx_ hE hP => ?_
        have hPh := hP _ _ _ _ _ _ _ _ rfl hs_sr hsi_found hA_sr hL
        replace hs_hd := y_Efld hE hY_this rfl (by decide) (by decide) hs_hd
        replace hs_ey := y_Efld hE hY_this rfl (by decide) (by decide) hs_ey
        replace hs_vw := y_Efld hE hY_ey rfl (by decide) (by decide) hs_vw
        replace hn0 := y_Efld hE hY_hd rfl (by decide) (by decide) hn0
        replace hs_ro := y_Efld hE hY_this rfl (by decide) (by decide) hs_ro
        replace hs_sr := y_Efld hE hY_ro rfl (by decide) (by decide) hs_sr
        replace hsi_found := y_Efld hE hY_ro rfl (by decide) (by decide) hsi_found
        replace hA_vw := hA_vw.kept (y_Earr hE hY_vw rfl (by decide))
        replace hA_sr := hA_sr.kept (y_Earr hE hY_sr rfl (by decide))
        replace hL := hL.E hY_hd hE (fun q u h => y_ext hx_ hI.1 h) (by decide +kernel)
        replace hY_this := y_ext hx_ hI.1 hY_this
        replace hY_hd := y_ext hx_ hI.1 hY_hd
        replace hY_ey := y_ext hx_ hI.1 hY_ey
        replace hY_vw := y_ext hx_ hI.1 hY_vw
        replace hY_ro := y_ext hx_ hI.1 hY_ro
        replace hY_sr := y_ext hx_ hI.1 hY_sr
        replace hY_rd := y_ext hx_ hI.1 hY_rd
        replace hY_rn := y_ext hx_ hI.1 hY_rn
        obtain ⟨r69, rfl, hto9, rd', rn', hs_rd, hs_rn, hrr9⟩ := hPh
        have htl := hto9 (m_tN (m_LC (m_VC f (f 4) (f 5) 0)) (2 ^ (f 0).toInt.toNat)) (2 ^ (f 0).toInt.toNat) (m_W.tN ⟨hpw, hfo, hse⟩) (fun w9 hw9 => (m_tN_T.mp hw9).1) (m_tN_T.mpr ⟨hlt_w, hLa⟩)
        clear ho hr ha hE hP hI hx_
        rename x_I _ _ _ _ _ _ _ _ _ _ => hI
        exact y_ireturn B hI rfl rfl rfl List.mem_cons_self ⟨_, rfl, ⟨_, rfl, x_i32 _⟩⟩ (x_cs.mono B.2.2.2.2.2 (y_mon B hI)) (fun t' w0' w1' f' K' tt' nn' h1 h2 => by cases h1; obtain ⟨ef, -⟩ := hR0.eqs h2; subst ef; exact ⟨⟨_, rfl, fun _ _ => htl, fun _ q9 => (by rw [hLa] at q9; cases q9), fun q9 => absurd hok q9⟩, fun o d n h1 h2 h3 => by cases h1.symm.trans hs_ro; cases h2.symm.trans hs_rd; cases h3.symm.trans hs_rn; exact hrr9⟩) (Nat.le_refl _) (Nat.le_refl _) tiQ_d72
      · have q40_ : r37.toInt = (0 : Int32).toInt := by rw [q40]
        have hLa := (show (m_LC (m_VC f (f 4) (f 5) 0)) w.toInt.toNat = false by unfold m_LC; rw [m_nj (by omega)]; exact m_b0 ((Eq.trans hg_r37) (by assumption)))
        refine lv_aload_n hx hb tiQ_d43 rfl (lv_at hl 0 rfl) ?_
        refine lv_bipush hx hb tiQ_d44 (v := (-3)) (by decide) ?_
        have ecm3 : ((-3) : Int32).toInt = (-3) := by decide
        refine lv_bipush hx hb tiQ_d46 (v := (-20)) (by decide) ?_
        have ecm20 : ((-20) : Int32).toInt = (-20) := by decide
        refine y_call (z := (0, 221, 3, some 0, xM7)) (av := [.ref this, .int ((-3) : Int32), .int ((-20) : Int32)]) (rest := []) (y_cokV (n := 2) (ci := 11) X ym_countedAs rfl rfl rfl (x_cons (x_bw19 11 rfl rfl) (x_cons (x_bw19 13 rfl rfl) (x_cons (x_at 2 (by decide +kernel) rfl) (x_cons (x_bw0 1 rfl rfl) x_nilm)))) (x_bw19 14 rfl rfl) (by decide +kernel) ⟨Nat.le_of_ble_eq_true rfl, Nat.le_of_ble_eq_true rfl⟩) hY0 hI rfl tiQ_d48 hl.1 (Nat.le_of_ble_eq_true rfl) (Nat.le_of_ble_eq_true rfl) (Nat.le_of_ble_eq_true rfl) (y_cons (y_cref hY_this rfl) (y_cons ⟨_, rfl, x_i32 _⟩ (y_cons ⟨_, rfl, x_i32 _⟩ y_nil))) rfl (y_recv rfl hY_this) trivial (y_sub_ef rfl) fun v Yn o Hn L ho hr ha hIn hx_ hE hP => ?_
        replace hs_hd := y_Efld hE hY_this rfl (by decide) (by decide) hs_hd
        replace hs_ey := y_Efld hE hY_this rfl (by decide) (by decide) hs_ey
        replace hs_vw := y_Efld hE hY_ey rfl (by decide) (by decide) hs_vw
        replace hn0 := y_Efld hE hY_hd rfl (by decide) (by decide) hn0
        replace hs_ro := y_Efld hE hY_this rfl (by decide) (by decide) hs_ro
        replace hs_sr := y_Efld hE hY_ro rfl (by decide) (by decide) hs_sr
        replace hs_rd := y_Efld hE hY_ro rfl (by decide) (by decide) hs_rd
        replace hs_rn := y_Efld hE hY_ro rfl (by decide) (by decide) hs_rn
        replace hsi_found := y_Efld hE hY_ro rfl (by decide) (by decide) hsi_found
        replace hA_vw := hA_vw.kept (y_Earr hE hY_vw rfl (by decide))
        replace hA_sr := hA_sr.kept (y_Earr hE hY_sr rfl (by decide))
        replace hL := hL.E hY_hd hE (fun q u h => y_ext hx_ hI.1 h) (by decide +kernel)
        replace hY_this := y_ext hx_ hI.1 hY_this
        replace hY_hd := y_ext hx_ hI.1 hY_hd
        replace hY_ey := y_ext hx_ hI.1 hY_ey
        replace hY_vw := y_ext hx_ hI.1 hY_vw
        replace hY_ro := y_ext hx_ hI.1 hY_ro
        replace hY_sr := y_ext hx_ hI.1 hY_sr
        replace hY_rd := y_ext hx_ hI.1 hY_rd
        replace hY_rn := y_ext hx_ hI.1 hY_rn
        obtain rfl := hP _ _ _ rfl
        clear ho hr ha hE hP hI hx_
        rename x_I _ _ _ _ _ _ _ _ _ _ => hI
        exact y_ireturn B hI rfl rfl rfl List.mem_cons_self ⟨_, rfl, ⟨_, rfl, x_i32 _⟩⟩ (x_cs.mono B.2.2.2.2.2 (y_mon B hI)) (fun t' w0' w1' f' K' tt' nn' h1 h2 => by cases h1; obtain ⟨ef, -⟩ := hR0.eqs h2; subst ef; exact ⟨⟨_, rfl, fun _ q9 => (by rw [hLa] at q9; cases q9), fun _ _ => rfl, fun q9 => absurd hok q9⟩, fun o d n h1 h2 h3 => by cases h1.symm.trans hs_ro; cases h2.symm.trans hs_rd; cases h3.symm.trans hs_rn; exact hrr⟩) (Nat.le_refl _) (Nat.le_refl _) tiQ_d51
    · have q19_ : r16.toInt = (0 : Int32).toInt := by rw [q19]
      have hno : ¬ (m_isS f w ∧ m_isH f h) := fun q9 => by first | exact hout_r5 (by assumption) q9.1 | exact hout_r16 (by assumption) q9.2
      refine lv_aload_n hx hb tiQ_d22 rfl (lv_at hl 0 rfl) ?_
      refine lv_bipush hx hb tiQ_d23 (v := (-2)) (by decide) ?_
      have ecm2 : ((-2) : Int32).toInt = (-2) := by decide
      refine lv_bipush hx hb tiQ_d25 (v := (-10)) (by decide) ?_
      have ecm10 : ((-10) : Int32).toInt = (-10) := by decide
      refine y_call (z := (0, 221, 3, some 0, xM7)) (av := [.ref this, .int ((-2) : Int32), .int ((-10) : Int32)]) (rest := []) (y_cokV (n := 2) (ci := 11) X ym_countedAs rfl rfl rfl (x_cons (x_bw19 11 rfl rfl) (x_cons (x_bw19 13 rfl rfl) (x_cons (x_at 2 (by decide +kernel) rfl) (x_cons (x_bw0 1 rfl rfl) x_nilm)))) (x_bw19 14 rfl rfl) (by decide +kernel) ⟨Nat.le_of_ble_eq_true rfl, Nat.le_of_ble_eq_true rfl⟩) hY0 hI rfl tiQ_d27 hl.1 (Nat.le_of_ble_eq_true rfl) (Nat.le_of_ble_eq_true rfl) (Nat.le_of_ble_eq_true rfl) (y_cons (y_cref hY_this rfl) (y_cons ⟨_, rfl, x_i32 _⟩ (y_cons ⟨_, rfl, x_i32 _⟩ y_nil))) rfl (y_recv rfl hY_this) trivial (y_sub_ef rfl) fun v Yn o Hn L ho hr ha hIn hx_ hE hP => ?_
      replace hs_hd := y_Efld hE hY_this rfl (by decide) (by decide) hs_hd
      replace hs_ey := y_Efld hE hY_this rfl (by decide) (by decide) hs_ey
      replace hs_vw := y_Efld hE hY_ey rfl (by decide) (by decide) hs_vw
      replace hn0 := y_Efld hE hY_hd rfl (by decide) (by decide) hn0
      replace hs_ro := y_Efld hE hY_this rfl (by decide) (by decide) hs_ro
      replace hs_sr := y_Efld hE hY_ro rfl (by decide) (by decide) hs_sr
      replace hs_rd := y_Efld hE hY_ro rfl (by decide) (by decide) hs_rd
      replace hs_rn := y_Efld hE hY_ro rfl (by decide) (by decide) hs_rn
      replace hL := hL.E hY_hd hE (fun q u h => y_ext hx_ hI.1 h) (by decide +kernel)
      replace hY_this := y_ext hx_ hI.1 hY_this
      replace hY_hd := y_ext hx_ hI.1 hY_hd
      replace hY_ey := y_ext hx_ hI.1 hY_ey
      replace hY_vw := y_ext hx_ hI.1 hY_vw
      replace hY_ro := y_ext hx_ hI.1 hY_ro
      replace hY_sr := y_ext hx_ hI.1 hY_sr
      replace hY_rd := y_ext hx_ hI.1 hY_rd
      replace hY_rn := y_ext hx_ hI.1 hY_rn
      obtain rfl := hP _ _ _ rfl
      clear ho hr ha hE hP hI hx_
      rename x_I _ _ _ _ _ _ _ _ _ _ => hI
      exact y_ireturn B hI rfl rfl rfl List.mem_cons_self ⟨_, rfl, ⟨_, rfl, x_i32 _⟩⟩ (x_cs.mono B.2.2.2.2.2 (y_mon B hI)) (fun t' w0' w1' f' K' tt' nn' h1 h2 => by cases h1; obtain ⟨ef, -⟩ := hR0.eqs h2; subst ef; exact ⟨⟨_, rfl, fun q9 => absurd q9 hno, fun q9 => absurd q9 hno, fun _ => rfl⟩, fun o d n h1 h2 h3 => by cases h1.symm.trans hs_ro; cases h2.symm.trans hs_rd; cases h3.symm.trans hs_rn; exact hrr⟩) (Nat.le_refl _) (Nat.le_refl _) tiQ_d30

