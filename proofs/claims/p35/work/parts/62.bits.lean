def z_bitsN (x : Int32) : Nat → Int32
  | 0 => 0
  | i + 1 => z_bitsN x i + ((x >>> (nI i &&& 31)) &&& 1)
def z_bits (x : Int32) : Int32 := z_bitsN x 10
def z_Pbits : yP := fun _ av _ _ v _ _ => ∀ x : Int32, av = [.int x] → v = some (.int (z_bits x))
def z_step (a b : Int32) : Prop := z_bits (a ^^^ b) = 1 ∨ z_bits (a ^^^ b) = 2
theorem z_step_symm {a b : Int32} (h : z_step a b) : z_step b a := by
  unfold z_step at h ⊢
  rw [Int32.xor_comm b a]; exact h
def z_Pstep : yP := fun _ av _ _ v _ _ => ∀ a b : Int32, av = [.int a, .int b] → (v = some (.int 1) ∧ z_step a b) ∨ (v = some (.int 0) ∧ ¬ z_step a b)
theorem bi_d0 : decode xM189.2.1 0 = .ok (.iconst 0, 1) := dz_ok (by decide +kernel)
theorem bi_d1 : decode xM189.2.1 1 = .ok (.istore_n 1, 1) := dz_ok (by decide +kernel)
theorem bi_d2 : decode xM189.2.1 2 = .ok (.iconst 0, 1) := dz_ok (by decide +kernel)
theorem bi_d3 : decode xM189.2.1 3 = .ok (.istore_n 2, 1) := dz_ok (by decide +kernel)
theorem bi_d4 : decode xM189.2.1 4 = .ok (.iload_n 2, 1) := dz_ok (by decide +kernel)
theorem bi_d5 : decode xM189.2.1 5 = .ok (.bipush 10, 2) := dz_ok (by decide +kernel)
theorem bi_d7 : decode xM189.2.1 7 = .ok (.if_icmp .ge 17, 3) := dz_ok (by decide +kernel)
theorem bi_d10 : decode xM189.2.1 10 = .ok (.iload_n 1, 1) := dz_ok (by decide +kernel)
theorem bi_d11 : decode xM189.2.1 11 = .ok (.iload_n 0, 1) := dz_ok (by decide +kernel)
theorem bi_d12 : decode xM189.2.1 12 = .ok (.iload_n 2, 1) := dz_ok (by decide +kernel)
theorem bi_d13 : decode xM189.2.1 13 = .ok (.ishr, 1) := dz_ok (by decide +kernel)
theorem bi_d14 : decode xM189.2.1 14 = .ok (.iconst 1, 1) := dz_ok (by decide +kernel)
theorem bi_d15 : decode xM189.2.1 15 = .ok (.iand, 1) := dz_ok (by decide +kernel)
theorem bi_d16 : decode xM189.2.1 16 = .ok (.iadd, 1) := dz_ok (by decide +kernel)
theorem bi_d17 : decode xM189.2.1 17 = .ok (.istore_n 1, 1) := dz_ok (by decide +kernel)
theorem bi_d18 : decode xM189.2.1 18 = .ok (.iinc 2 1, 3) := dz_ok (by decide +kernel)
theorem bi_d21 : decode xM189.2.1 21 = .ok (.goto (-17), 3) := dz_ok (by decide +kernel)
theorem bi_d24 : decode xM189.2.1 24 = .ok (.iload_n 1, 1) := dz_ok (by decide +kernel)
theorem bi_d25 : decode xM189.2.1 25 = .ok (.ireturn, 1) := dz_ok (by decide +kernel)
theorem bi_loop {p : Program} {l : Launch} {e : Env} {s : State} {m : MethodId} {below : List Frame} {meth : Method} {c : Code} {D : va_G} {U : State} {Y0 : xY} {av : List Value} (B : y_B vwCl x_Tb x_Nb xM189 p s m meth c D U Y0 av) (hI : x_I D x_G x_Zs U (x_efs xM189) Y0 s.heap Y0 s.heap []) {x : Int32} (hav : av = [.int x]) : ∀ (j i : Nat), i + j = 10 → ∀ (ls : Array Slot) (n k : Int32), lv_has ls xM189.2.2.1 [(2, .int k), (1, .int n), (0, .int x)] → k = nI i → n = z_bitsN x i → W p l e (x_rm xM189) s m av.toArray below meth c s.heap [] 0 0 (y_QQ below D x_G x_Zs U xM189 z_Pbits av Y0 s) (F0 m 4 ls []) := by
  have X := B.1
  have hx := X.1
  have hb := X.2.1
  have hY0 := B.2.2.2.2.1
  intro j
  induction j with
  | zero =>
    intro i hij ls n k hl hk hn
    have h_k : k.toInt = i := by rw [hk]; exact nI_toInt (by omega)
    refine lv_iload_n hx hb bi_d4 rfl (lv_at hl 0 rfl) ?_
    refine lv_bipush hx hb bi_d5 (v := 10) (by decide) ?_
    have ec10 : (10 : Int32).toInt = 10 := by decide
    refine lv_icmp_ge hx hb bi_d7 (tgt := 24) (by decide) (fun q7 => ?_) (fun q7 => ?_)
    · have q7_ : (10 : Int32).toInt ≤ k.toInt := x_le32.mp q7
      refine lv_iload_n hx hb bi_d24 rfl (lv_at hl 1 rfl) ?_
      have hi : i = 10 := by omega
      subst hi
      exact y_ireturn B hI rfl rfl rfl List.mem_cons_self ⟨_, rfl, ⟨_, rfl, x_i32 _⟩⟩ B.2.2.2.2.2 (fun y hy => by rw [hav] at hy; cases hy; rw [hn]; rfl) (Nat.le_refl _) (Nat.le_refl _) bi_d25
    · have q7_ : k.toInt < (10 : Int32).toInt := Int.not_le.mp fun q => q7 (x_le32.mpr q)
      exfalso; omega
  | succ j ih =>
    intro i hij ls n k hl hk hn
    have h_k : k.toInt = i := by rw [hk]; exact nI_toInt (by omega)
    refine lv_iload_n hx hb bi_d4 rfl (lv_at hl 0 rfl) ?_
    refine lv_bipush hx hb bi_d5 (v := 10) (by decide) ?_
    have ec10 : (10 : Int32).toInt = 10 := by decide
    refine lv_icmp_ge hx hb bi_d7 (tgt := 24) (by decide) (fun q7 => ?_) (fun q7 => ?_)
    · have q7_ : (10 : Int32).toInt ≤ k.toInt := x_le32.mp q7
      refine lv_iload_n hx hb bi_d24 rfl (lv_at hl 1 rfl) ?_
      have hi : i = 10 := by omega
      subst hi
      exact y_ireturn B hI rfl rfl rfl List.mem_cons_self ⟨_, rfl, ⟨_, rfl, x_i32 _⟩⟩ B.2.2.2.2.2 (fun y hy => by rw [hav] at hy; cases hy; rw [hn]; rfl) (Nat.le_refl _) (Nat.le_refl _) bi_d25
    · have q7_ : k.toInt < (10 : Int32).toInt := Int.not_le.mp fun q => q7 (x_le32.mpr q)
      refine lv_iload_n hx hb bi_d10 rfl (lv_at hl 1 rfl) ?_
      refine lv_iload_n hx hb bi_d11 rfl (lv_at hl 2 rfl) ?_
      refine lv_iload_n hx hb bi_d12 rfl (lv_at hl 0 rfl) ?_
      refine lv_ishr hx hb bi_d13 ?_
      generalize hg_z13 : x >>> (k &&& 31) = z13
      refine lv_iconst hx hb bi_d14 (v := 1) (by decide) ?_
      have ec1 : (1 : Int32).toInt = 1 := by decide
      refine lv_iand hx hb bi_d15 ?_
      generalize hg_z15 : z13 &&& (1 : Int32) = z15
      refine lv_iadd hx hb bi_d16 ?_
      generalize hg_z16 : n + z15 = z16
      refine lv_istore_n hx hb bi_d17 rfl hl (by decide) (lv' := [(1, .int z16), (2, .int k), (0, .int x)]) rfl fun ls hl => ?_
      obtain ⟨z18, hg_z18⟩ : ∃ z18 : Int32, k + Int32.ofInt 1 = z18 := ⟨_, rfl⟩
      have h_z18 : z18.toInt = k.toInt + 1 := by rw [← hg_z18]; exact y_inc (by decide) (by omega) (by omega)
      refine lv_iinc hx hb bi_d18 hl (k := 1) rfl hg_z18 (by decide) (lv' := [(2, .int z18), (1, .int z16), (0, .int x)]) rfl fun ls hl => ?_
      refine lv_goto hx hb bi_d21 (tgt := 4) (by decide) ?_
      exact ih (i + 1) (by omega) _ _ _ hl (Int32.toInt_inj.mp (by rw [nI_toInt (by omega)]; omega)) (by subst hn; rw [hk] at hg_z13; rw [← hg_z16, ← hg_z15, ← hg_z13]; rfl)
theorem ym_bits : y_Met vwCl x_G x_Zs x_Tb x_Nb xM189 y_T z_Pbits := by
  refine y_main (by decide +kernel) (by decide +kernel) x_Tb_good x_Nb_ok ?_
  intro p l e s m below meth c D U Y0 av ls B hI _ hl
  have X := B.1
  have hx := X.1
  have hb := X.2.1
  have hY0 := B.2.2.2.2.1
  obtain ⟨v0, rfl, ⟨x, rfl, -⟩⟩ := x_one B.2.2.2.2.2
  replace hl : lv_has ls xM189.2.2.1 [(0, .int x)] := hl
  refine lv_iconst hx hb bi_d0 (v := 0) (by decide) ?_
  have ec0 : (0 : Int32).toInt = 0 := by decide
  refine lv_istore_n hx hb bi_d1 rfl hl (by decide) (lv' := [(1, .int (0 : Int32)), (0, .int x)]) rfl fun ls hl => ?_
  refine lv_iconst hx hb bi_d2 (v := 0) (by decide) ?_
  refine lv_istore_n hx hb bi_d3 rfl hl (by decide) (lv' := [(2, .int (0 : Int32)), (1, .int (0 : Int32)), (0, .int x)]) rfl fun ls hl => ?_
  exact bi_loop B hI rfl 10 0 rfl _ _ _ hl (by decide) rfl
theorem is_d0 : decode xM205.2.1 0 = .ok (.iload_n 0, 1) := dz_ok (by decide +kernel)
theorem is_d1 : decode xM205.2.1 1 = .ok (.iload_n 1, 1) := dz_ok (by decide +kernel)
theorem is_d2 : decode xM205.2.1 2 = .ok (.ixor, 1) := dz_ok (by decide +kernel)
theorem is_d3 : decode xM205.2.1 3 = .ok (.invokestatic 148, 3) := dz_ok (by decide +kernel)
theorem is_d6 : decode xM205.2.1 6 = .ok (.istore_n 2, 1) := dz_ok (by decide +kernel)
theorem is_d7 : decode xM205.2.1 7 = .ok (.iload_n 2, 1) := dz_ok (by decide +kernel)
theorem is_d8 : decode xM205.2.1 8 = .ok (.iconst 1, 1) := dz_ok (by decide +kernel)
theorem is_d9 : decode xM205.2.1 9 = .ok (.if_icmp .eq 8, 3) := dz_ok (by decide +kernel)
theorem is_d12 : decode xM205.2.1 12 = .ok (.iload_n 2, 1) := dz_ok (by decide +kernel)
theorem is_d13 : decode xM205.2.1 13 = .ok (.iconst 2, 1) := dz_ok (by decide +kernel)
theorem is_d14 : decode xM205.2.1 14 = .ok (.if_icmp .ne 7, 3) := dz_ok (by decide +kernel)
theorem is_d17 : decode xM205.2.1 17 = .ok (.iconst 1, 1) := dz_ok (by decide +kernel)
theorem is_d18 : decode xM205.2.1 18 = .ok (.goto 4, 3) := dz_ok (by decide +kernel)
theorem is_d21 : decode xM205.2.1 21 = .ok (.iconst 0, 1) := dz_ok (by decide +kernel)
theorem is_d22 : decode xM205.2.1 22 = .ok (.ireturn, 1) := dz_ok (by decide +kernel)
theorem ym_isStep : y_Met vwCl x_G x_Zs x_Tb x_Nb xM205 y_T z_Pstep := by
  refine y_main (by decide +kernel) (by decide +kernel) x_Tb_good x_Nb_ok ?_
  intro p l e s m below meth c D U Y0 av ls B hI _ hl
  have X := B.1
  have hx := X.1
  have hb := X.2.1
  have hY0 := B.2.2.2.2.1
  obtain ⟨v0, v1, rfl, ⟨a, rfl, -⟩, ⟨b, rfl, -⟩⟩ := x_two B.2.2.2.2.2
  replace hl : lv_has ls xM205.2.2.1 [(0, .int a), (1, .int b)] := hl
  refine lv_iload_n hx hb is_d0 rfl (lv_at hl 0 rfl) ?_
  refine lv_iload_n hx hb is_d1 rfl (lv_at hl 1 rfl) ?_
  refine lv_ixor hx hb is_d2 ?_
  generalize hg_z2 : a ^^^ b = z2
  refine y_call (z := (1, 148, 1, none, xM189)) (av := [.int z2]) (rest := []) (y_cokS (n := 1) X ym_bits (x_cons (x_bw78 4 rfl rfl) (x_cons (x_bw78 5 rfl rfl) (x_cons (x_bw0 9 rfl rfl) x_nilm))) (x_bw78 6 rfl rfl) (by decide +kernel) ⟨Nat.le_of_ble_eq_true rfl, Nat.le_of_ble_eq_true rfl⟩) hY0 hI rfl is_d3 hl.1 (by decide) (Nat.le_of_ble_eq_true rfl) (Nat.le_of_ble_eq_true rfl) (y_cons ⟨_, rfl, x_i32 _⟩ y_nil) rfl (y_norecv rfl) trivial (y_sub_ef rfl) fun v Yn o Hn L ho hr ha hIn hx_ hE hP => ?_
  obtain rfl := hP _ rfl
  clear ho hr ha hE hP hI hx_
  rename x_I _ _ _ _ _ _ _ _ _ _ => hI
  refine lv_istore_n hx hb is_d6 rfl hl (by decide) (lv' := [(2, .int (z_bits z2)), (0, .int a), (1, .int b)]) rfl fun ls hl => ?_
  refine lv_iload_n hx hb is_d7 rfl (lv_at hl 0 rfl) ?_
  refine lv_iconst hx hb is_d8 (v := 1) (by decide) ?_
  have ec1 : (1 : Int32).toInt = 1 := by decide
  refine lv_icmp_eq hx hb is_d9 (tgt := 17) (by decide) (fun q9 => ?_) (fun q9 => ?_)
  · have q9_ : (z_bits z2).toInt = (1 : Int32).toInt := by rw [q9]
    refine lv_iconst hx hb is_d17 (v := 1) (by decide) ?_
    refine lv_goto hx hb is_d18 (tgt := 22) (by decide) ?_
    exact y_ireturn (o := (x_args xM205, some (xI 1 1))) B hI rfl rfl rfl (List.mem_of_getElem? (i := 0) rfl) ⟨_, rfl, ⟨_, rfl, by decide, by decide⟩⟩ (x_cs.mono B.2.2.2.2.2 (y_mon B hI)) (fun a' b' hab => Or.inl ⟨rfl, by cases hab; subst hg_z2; first | exact Or.inl q9 | exact Or.inr q14⟩) (Nat.le_refl _) (Nat.le_refl _) is_d22
  · have q9_ : ¬ (z_bits z2).toInt = (1 : Int32).toInt := fun q => q9 (Int32.toInt_inj.mp q)
    refine lv_iload_n hx hb is_d12 rfl (lv_at hl 0 rfl) ?_
    refine lv_iconst hx hb is_d13 (v := 2) (by decide) ?_
    have ec2 : (2 : Int32).toInt = 2 := by decide
    refine lv_icmp_ne hx hb is_d14 (tgt := 21) (by decide) (fun q14 => ?_) (fun q14 => ?_)
    · have q14_ : ¬ (z_bits z2).toInt = (2 : Int32).toInt := fun q => q14 (Int32.toInt_inj.mp q)
      refine lv_iconst hx hb is_d21 (v := 0) (by decide) ?_
      exact y_ireturn (o := (x_args xM205, some (xI 0 0))) B hI rfl rfl rfl (List.mem_of_getElem? (i := 1) rfl) ⟨_, rfl, ⟨_, rfl, by decide, by decide⟩⟩ (x_cs.mono B.2.2.2.2.2 (y_mon B hI)) (fun a' b' hab => Or.inr ⟨rfl, by cases hab; subst hg_z2; rintro (h | h); exact q9 h; exact q14 h⟩) (Nat.le_refl _) (Nat.le_refl _) is_d22
    · have q14_ : (z_bits z2).toInt = (2 : Int32).toInt := by rw [q14]
      refine lv_iconst hx hb is_d17 (v := 1) (by decide) ?_
      refine lv_goto hx hb is_d18 (tgt := 22) (by decide) ?_
      exact y_ireturn (o := (x_args xM205, some (xI 1 1))) B hI rfl rfl rfl (List.mem_of_getElem? (i := 0) rfl) ⟨_, rfl, ⟨_, rfl, by decide, by decide⟩⟩ (x_cs.mono B.2.2.2.2.2 (y_mon B hI)) (fun a' b' hab => Or.inl ⟨rfl, by cases hab; subst hg_z2; first | exact Or.inl q9 | exact Or.inr q14⟩) (Nat.le_refl _) (Nat.le_refl _) is_d22
def z_all (n : Int32) : Int32 := (1 <<< (n &&& 31)) - 1
def z_Pall : yP := fun D av Y H v _ _ => ∀ (this bk : Nat) (b0 : Int32), av = [.ref this] → x_sl D 12 0 this H = some (.ref bk) → y_at bk 0 H = some (.int b0) → v = some (.int (z_all b0))
theorem al_d0 : decode xM182.2.1 0 = .ok (.iconst 1, 1) := dz_ok (by decide +kernel)
theorem al_d1 : decode xM182.2.1 1 = .ok (.aload_n 0, 1) := dz_ok (by decide +kernel)
theorem al_d2 : decode xM182.2.1 2 = .ok (.getfield 7, 3) := dz_ok (by decide +kernel)
theorem al_d5 : decode xM182.2.1 5 = .ok (.iconst 0, 1) := dz_ok (by decide +kernel)
theorem al_d6 : decode xM182.2.1 6 = .ok (.iaload, 1) := dz_ok (by decide +kernel)
theorem al_d7 : decode xM182.2.1 7 = .ok (.ishl, 1) := dz_ok (by decide +kernel)
theorem al_d8 : decode xM182.2.1 8 = .ok (.iconst 1, 1) := dz_ok (by decide +kernel)
theorem al_d9 : decode xM182.2.1 9 = .ok (.isub, 1) := dz_ok (by decide +kernel)
theorem al_d10 : decode xM182.2.1 10 = .ok (.ireturn, 1) := dz_ok (by decide +kernel)
theorem z_all_b {n : Int32} (h : (0 : Int) ≤ n.toInt ∧ n.toInt ≤ 10) : (0 : Int) ≤ (z_all n).toInt ∧ (z_all n).toInt ≤ 1023 := by
  have : ∀ k : Fin 11, (0 : Int) ≤ (z_all (nI k)).toInt ∧ (z_all (nI k)).toInt ≤ 1023 := by decide
  have e1 : n = nI n.toInt.toNat := Int32.toInt_inj.mp (by rw [nI_toInt (by omega)]; omega)
  rw [e1]
  exact this ⟨n.toInt.toNat, by omega⟩
theorem ym_all : y_Met vwCl x_G x_Zs x_Tb x_Nb xM182 y_T z_Pall := by
  refine y_main (by decide +kernel) (by decide +kernel) x_Tb_good x_Nb_ok ?_
  intro p l e s m below meth c D U Y0 av ls B hI _ hl
  have X := B.1
  have hx := X.1
  have hb := X.2.1
  have hY0 := B.2.2.2.2.1
  obtain ⟨v0, rfl, hv0⟩ := x_one B.2.2.2.2.2
  obtain ⟨this, t0, rfl, ht0, hY_this⟩ := x_ref_at hv0 rfl
  obtain rfl := List.mem_singleton.mp ht0
  replace hl : lv_has ls xM182.2.2.1 [(0, .ref this)] := hl
  refine lv_iconst hx hb al_d0 (v := 1) (by decide) ?_
  have ec1 : (1 : Int32).toInt = 1 := by decide
  refine lv_aload_n hx hb al_d1 rfl (lv_at hl 0 rfl) ?_
  obtain ⟨this_book, hs_this_book, hY_this_book⟩ := y_fldR (k := 0) hI.1 hY_this rfl rfl
  refine y_getf X (fl190 X.2.2.2.2.1) hI.1 hY_this rfl hs_this_book al_d2 ?_
  refine lv_iconst hx hb al_d5 (v := 0) (by decide) ?_
  have ec0 : (0 : Int32).toInt = 0 := by decide
  obtain ⟨f_this_book, hA_this_book, hB_this_book⟩ := y_arr hI.1 hY_this_book rfl rfl
  refine y_iald X hI.1 hY_this_book rfl hA_this_book (by omega) (by show _ < (160 : Int); omega) al_d6 ?_
  obtain ⟨e6, hg_e6⟩ : ∃ e6 : Int32, f_this_book (0 : Int32).toInt.toNat = e6 := ⟨_, rfl⟩
  rw [hg_e6]
  refine lv_ishl hx hb al_d7 ?_
  generalize hg_z7 : (1 : Int32) <<< (e6 &&& 31) = z7
  refine lv_iconst hx hb al_d8 (v := 1) (by decide) ?_
  refine lv_isub hx hb al_d9 ?_
  generalize hg_z9 : z7 - (1 : Int32) = z9
  have hb0 : (0 : Int) ≤ (f_this_book 0).toInt ∧ (f_this_book 0).toInt ≤ 10 := by obtain ⟨x, e0, e1⟩ := hB_this_book 0 (by decide); cases e0; exact e1
  have he : e6 = f_this_book 0 := by rw [← hg_e6]; rfl
  rw [← he] at hb0
  have hz : z9 = z_all e6 := by rw [← hg_z9, ← hg_z7]; rfl
  exact y_ireturn B hI rfl rfl rfl List.mem_cons_self ⟨_, rfl, ⟨_, rfl, by rw [hz]; exact (z_all_b hb0).1, by rw [hz]; exact (z_all_b hb0).2⟩⟩ B.2.2.2.2.2 (fun t bk b0 h1 h2 h3 => by cases h1; cases h2.symm.trans hs_this_book; have := (hA_this_book 0 (by decide)).symm.trans h3; rw [← he] at this; cases this; rw [hz]) (Nat.le_refl _) (Nat.le_refl _) al_d10

