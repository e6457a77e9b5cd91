def z_Pbc : yP := fun _ av _ _ v _ _ => ∀ x : Int32, av = [.int x] → v = some (.int (m_bc x))
theorem bcq_d0 : decode xM71.2.1 0 = .ok (.iload_n 0, 1) := dz_ok (by decide +kernel)
theorem bcq_d1 : decode xM71.2.1 1 = .ok (.iload_n 0, 1) := dz_ok (by decide +kernel)
theorem bcq_d2 : decode xM71.2.1 2 = .ok (.iconst 1, 1) := dz_ok (by decide +kernel)
theorem bcq_d3 : decode xM71.2.1 3 = .ok (.iushr, 1) := dz_ok (by decide +kernel)
theorem bcq_d4 : decode xM71.2.1 4 = .ok (.ldc_w 265, 3) := dz_ok (by decide +kernel)
theorem bcq_d7 : decode xM71.2.1 7 = .ok (.iand, 1) := dz_ok (by decide +kernel)
theorem bcq_d8 : decode xM71.2.1 8 = .ok (.isub, 1) := dz_ok (by decide +kernel)
theorem bcq_d9 : decode xM71.2.1 9 = .ok (.istore_n 0, 1) := dz_ok (by decide +kernel)
theorem bcq_d10 : decode xM71.2.1 10 = .ok (.iload_n 0, 1) := dz_ok (by decide +kernel)
theorem bcq_d11 : decode xM71.2.1 11 = .ok (.ldc_w 266, 3) := dz_ok (by decide +kernel)
theorem bcq_d14 : decode xM71.2.1 14 = .ok (.iand, 1) := dz_ok (by decide +kernel)
theorem bcq_d15 : decode xM71.2.1 15 = .ok (.iload_n 0, 1) := dz_ok (by decide +kernel)
theorem bcq_d16 : decode xM71.2.1 16 = .ok (.iconst 2, 1) := dz_ok (by decide +kernel)
theorem bcq_d17 : decode xM71.2.1 17 = .ok (.iushr, 1) := dz_ok (by decide +kernel)
theorem bcq_d18 : decode xM71.2.1 18 = .ok (.ldc_w 266, 3) := dz_ok (by decide +kernel)
theorem bcq_d21 : decode xM71.2.1 21 = .ok (.iand, 1) := dz_ok (by decide +kernel)
theorem bcq_d22 : decode xM71.2.1 22 = .ok (.iadd, 1) := dz_ok (by decide +kernel)
theorem bcq_d23 : decode xM71.2.1 23 = .ok (.istore_n 0, 1) := dz_ok (by decide +kernel)
theorem bcq_d24 : decode xM71.2.1 24 = .ok (.iload_n 0, 1) := dz_ok (by decide +kernel)
theorem bcq_d25 : decode xM71.2.1 25 = .ok (.iload_n 0, 1) := dz_ok (by decide +kernel)
theorem bcq_d26 : decode xM71.2.1 26 = .ok (.iconst 4, 1) := dz_ok (by decide +kernel)
theorem bcq_d27 : decode xM71.2.1 27 = .ok (.iushr, 1) := dz_ok (by decide +kernel)
theorem bcq_d28 : decode xM71.2.1 28 = .ok (.iadd, 1) := dz_ok (by decide +kernel)
theorem bcq_d29 : decode xM71.2.1 29 = .ok (.ldc_w 267, 3) := dz_ok (by decide +kernel)
theorem bcq_d32 : decode xM71.2.1 32 = .ok (.iand, 1) := dz_ok (by decide +kernel)
theorem bcq_d33 : decode xM71.2.1 33 = .ok (.istore_n 0, 1) := dz_ok (by decide +kernel)
theorem bcq_d34 : decode xM71.2.1 34 = .ok (.iload_n 0, 1) := dz_ok (by decide +kernel)
theorem bcq_d35 : decode xM71.2.1 35 = .ok (.iload_n 0, 1) := dz_ok (by decide +kernel)
theorem bcq_d36 : decode xM71.2.1 36 = .ok (.bipush 8, 2) := dz_ok (by decide +kernel)
theorem bcq_d38 : decode xM71.2.1 38 = .ok (.iushr, 1) := dz_ok (by decide +kernel)
theorem bcq_d39 : decode xM71.2.1 39 = .ok (.iadd, 1) := dz_ok (by decide +kernel)
theorem bcq_d40 : decode xM71.2.1 40 = .ok (.istore_n 0, 1) := dz_ok (by decide +kernel)
theorem bcq_d41 : decode xM71.2.1 41 = .ok (.iload_n 0, 1) := dz_ok (by decide +kernel)
theorem bcq_d42 : decode xM71.2.1 42 = .ok (.iload_n 0, 1) := dz_ok (by decide +kernel)
theorem bcq_d43 : decode xM71.2.1 43 = .ok (.bipush 16, 2) := dz_ok (by decide +kernel)
theorem bcq_d45 : decode xM71.2.1 45 = .ok (.iushr, 1) := dz_ok (by decide +kernel)
theorem bcq_d46 : decode xM71.2.1 46 = .ok (.iadd, 1) := dz_ok (by decide +kernel)
theorem bcq_d47 : decode xM71.2.1 47 = .ok (.istore_n 0, 1) := dz_ok (by decide +kernel)
theorem bcq_d48 : decode xM71.2.1 48 = .ok (.iload_n 0, 1) := dz_ok (by decide +kernel)
theorem bcq_d49 : decode xM71.2.1 49 = .ok (.bipush 63, 2) := dz_ok (by decide +kernel)
theorem bcq_d51 : decode xM71.2.1 51 = .ok (.iand, 1) := dz_ok (by decide +kernel)
theorem bcq_d52 : decode xM71.2.1 52 = .ok (.ireturn, 1) := dz_ok (by decide +kernel)
theorem ym_bitCount : y_Met vwCl x_G x_Zs x_Tb x_Nb xM71 y_T z_Pbc := by
  refine y_main (by decide +kernel) (by decide +kernel) x_Tb_good x_Nb_ok ?_
  intro p l e s m below meth c D U Y0 av ls B hI _ hl
  have X := B.1
  have hx := X.1
  have hb := X.2.1
  have hY0 := B.2.2.2.2.1
  obtain ⟨v0, rfl, ⟨x, rfl, -⟩⟩ := x_one B.2.2.2.2.2
  replace hl : lv_has ls xM71.2.2.1 [(0, .int x)] := hl
  refine lv_iload_n hx hb bcq_d0 rfl (lv_at hl 0 rfl) ?_
  refine lv_iload_n hx hb bcq_d1 rfl (lv_at hl 0 rfl) ?_
  refine lv_iconst hx hb bcq_d2 (v := 1) (by decide) ?_
  have ec1 : (1 : Int32).toInt = 1 := by decide
  obtain ⟨z3, hg_z3⟩ : ∃ z3 : Int32, m_ush x (1 : Int32) = z3 := ⟨_, rfl⟩
  refine lv_iushr hx hb bcq_d3 (v := z3) hg_z3 ?_
  refine lv_ldcw hx hb X.2.2.2.1 (v := 1431655765) (X.2.2.2.2.1 _ (x_bw43 4 rfl rfl)) bcq_d4 ?_
  refine lv_iand hx hb bcq_d7 ?_
  generalize hg_z7 : z3 &&& (1431655765 : Int32) = z7
  refine lv_isub hx hb bcq_d8 ?_
  generalize hg_z8 : x - z7 = z8
  refine lv_istore_n hx hb bcq_d9 rfl hl (by decide) (lv' := [(0, .int z8)]) rfl fun ls hl => ?_
  refine lv_iload_n hx hb bcq_d10 rfl (lv_at hl 0 rfl) ?_
  refine lv_ldcw hx hb X.2.2.2.1 (v := 858993459) (X.2.2.2.2.1 _ (x_bw43 5 rfl rfl)) bcq_d11 ?_
  refine lv_iand hx hb bcq_d14 ?_
  generalize hg_z14 : z8 &&& (858993459 : Int32) = z14
  refine lv_iload_n hx hb bcq_d15 rfl (lv_at hl 0 rfl) ?_
  refine lv_iconst hx hb bcq_d16 (v := 2) (by decide) ?_
  have ec2 : (2 : Int32).toInt = 2 := by decide
  obtain ⟨z17, hg_z17⟩ : ∃ z17 : Int32, m_ush z8 (2 : Int32) = z17 := ⟨_, rfl⟩
  refine lv_iushr hx hb bcq_d17 (v := z17) hg_z17 ?_
  refine lv_ldcw hx hb X.2.2.2.1 (v := 858993459) (X.2.2.2.2.1 _ (x_bw43 5 rfl rfl)) bcq_d18 ?_
  refine lv_iand hx hb bcq_d21 ?_
  generalize hg_z21 : z17 &&& (858993459 : Int32) = z21
  refine lv_iadd hx hb bcq_d22 ?_
  generalize hg_z22 : z14 + z21 = z22
  refine lv_istore_n hx hb bcq_d23 rfl hl (by decide) (lv' := [(0, .int z22)]) rfl fun ls hl => ?_
  refine lv_iload_n hx hb bcq_d24 rfl (lv_at hl 0 rfl) ?_
  refine lv_iload_n hx hb bcq_d25 rfl (lv_at hl 0 rfl) ?_
  refine lv_iconst hx hb bcq_d26 (v := 4) (by decide) ?_
  have ec4 : (4 : Int32).toInt = 4 := by decide
  obtain ⟨z27, hg_z27⟩ : ∃ z27 : Int32, m_ush z22 (4 : Int32) = z27 := ⟨_, rfl⟩
  refine lv_iushr hx hb bcq_d27 (v := z27) hg_z27 ?_
  refine lv_iadd hx hb bcq_d28 ?_
  generalize hg_z28 : z22 + z27 = z28
  refine lv_ldcw hx hb X.2.2.2.1 (v := 252645135) (X.2.2.2.2.1 _ (x_bw43 6 rfl rfl)) bcq_d29 ?_
  refine lv_iand hx hb bcq_d32 ?_
  generalize hg_z32 : z28 &&& (252645135 : Int32) = z32
  refine lv_istore_n hx hb bcq_d33 rfl hl (by decide) (lv' := [(0, .int z32)]) rfl fun ls hl => ?_
  refine lv_iload_n hx hb bcq_d34 rfl (lv_at hl 0 rfl) ?_
  refine lv_iload_n hx hb bcq_d35 rfl (lv_at hl 0 rfl) ?_
  refine lv_bipush hx hb bcq_d36 (v := 8) (by decide) ?_
  have ec8 : (8 : Int32).toInt = 8 := by decide
  obtain ⟨z38, hg_z38⟩ : ∃ z38 : Int32, m_ush z32 (8 : Int32) = z38 := ⟨_, rfl⟩
  refine lv_iushr hx hb bcq_d38 (v := z38) hg_z38 ?_
  refine lv_iadd hx hb bcq_d39 ?_
  generalize hg_z39 : z32 + z38 = z39
  refine lv_istore_n hx hb bcq_d40 rfl hl (by decide) (lv' := [(0, .int z39)]) rfl fun ls hl => ?_
  refine lv_iload_n hx hb bcq_d41 rfl (lv_at hl 0 rfl) ?_
  refine lv_iload_n hx hb bcq_d42 rfl (lv_at hl 0 rfl) ?_
  refine lv_bipush hx hb bcq_d43 (v := 16) (by decide) ?_
  have ec16 : (16 : Int32).toInt = 16 := by decide
  obtain ⟨z45, hg_z45⟩ : ∃ z45 : Int32, m_ush z39 (16 : Int32) = z45 := ⟨_, rfl⟩
  refine lv_iushr hx hb bcq_d45 (v := z45) hg_z45 ?_
  refine lv_iadd hx hb bcq_d46 ?_
  generalize hg_z46 : z39 + z45 = z46
  refine lv_istore_n hx hb bcq_d47 rfl hl (by decide) (lv' := [(0, .int z46)]) rfl fun ls hl => ?_
  refine lv_iload_n hx hb bcq_d48 rfl (lv_at hl 0 rfl) ?_
  refine lv_bipush hx hb bcq_d49 (v := 63) (by decide) ?_
  have ec63 : (63 : Int32).toInt = 63 := by decide
  refine lv_iand hx hb bcq_d51 ?_
  generalize hg_z51 : z46 &&& (63 : Int32) = z51
  subst hg_z3
  subst hg_z7
  subst hg_z8
  subst hg_z14
  subst hg_z17
  subst hg_z21
  subst hg_z22
  subst hg_z27
  subst hg_z28
  subst hg_z32
  subst hg_z38
  subst hg_z39
  subst hg_z45
  subst hg_z46
  subst hg_z51
  exact y_ireturn B hI rfl rfl rfl List.mem_cons_self ⟨_, rfl, ⟨_, rfl, (x_and1 (by decide)).1, (x_and1 (by decide)).2⟩⟩ (x_cs.mono B.2.2.2.2.2 (y_mon B hI)) (fun x' h1 => by cases h1; rfl) (Nat.le_refl _) (Nat.le_refl _) bcq_d52
def z_Pisin : yP := fun _ av _ _ v _ _ => ∀ h s : Int32, av = [.int h, .int s] → v = some (.int (m_b (m_has s h)))
theorem inq_d0 : decode xM70.2.1 0 = .ok (.iload_n 1, 1) := dz_ok (by decide +kernel)
theorem inq_d1 : decode xM70.2.1 1 = .ok (.iload_n 0, 1) := dz_ok (by decide +kernel)
theorem inq_d2 : decode xM70.2.1 2 = .ok (.ishr, 1) := dz_ok (by decide +kernel)
theorem inq_d3 : decode xM70.2.1 3 = .ok (.iconst 1, 1) := dz_ok (by decide +kernel)
theorem inq_d4 : decode xM70.2.1 4 = .ok (.iand, 1) := dz_ok (by decide +kernel)
theorem inq_d5 : decode xM70.2.1 5 = .ok (.ifCond .eq 7, 3) := dz_ok (by decide +kernel)
theorem inq_d8 : decode xM70.2.1 8 = .ok (.iconst 1, 1) := dz_ok (by decide +kernel)
theorem inq_d9 : decode xM70.2.1 9 = .ok (.goto 4, 3) := dz_ok (by decide +kernel)
theorem inq_d12 : decode xM70.2.1 12 = .ok (.iconst 0, 1) := dz_ok (by decide +kernel)
theorem inq_d13 : decode xM70.2.1 13 = .ok (.ireturn, 1) := dz_ok (by decide +kernel)
theorem ym_isIn : y_Met vwCl x_G x_Zs x_Tb x_Nb xM70 y_T z_Pisin := by
  refine y_main (by decide +kernel) (by decide +kernel) x_Tb_good x_Nb_ok ?_
  intro p l e s m below meth c D U Y0 av ls B hI _ hl
  have X := B.1
  have hx := X.1
  have hb := X.2.1
  have hY0 := B.2.2.2.2.1
  obtain ⟨v0, v1, rfl, ⟨h, rfl, -⟩, ⟨s9, rfl, -⟩⟩ := x_two B.2.2.2.2.2
  replace hl : lv_has ls xM70.2.2.1 [(0, .int h), (1, .int s9)] := hl
  refine lv_iload_n hx hb inq_d0 rfl (lv_at hl 1 rfl) ?_
  refine lv_iload_n hx hb inq_d1 rfl (lv_at hl 0 rfl) ?_
  refine lv_ishr hx hb inq_d2 ?_
  generalize hg_z2 : s9 >>> (h &&& 31) = z2
  refine lv_iconst hx hb inq_d3 (v := 1) (by decide) ?_
  have ec1 : (1 : Int32).toInt = 1 := by decide
  refine lv_iand hx hb inq_d4 ?_
  generalize hg_z4 : z2 &&& (1 : Int32) = z4
  have ec0 : (0 : Int32).toInt = 0 := by decide
  refine lv_if_eq hx hb inq_d5 (tgt := 12) (by decide) (fun q5 => ?_) (fun q5 => ?_)
  · have q5_ : z4.toInt = (0 : Int32).toInt := by rw [q5]
    refine lv_iconst hx hb inq_d12 (v := 0) (by decide) ?_
    subst hg_z2
    subst hg_z4
    exact y_ireturn B hI rfl rfl rfl (List.mem_cons_of_mem _ List.mem_cons_self) ⟨_, rfl, ⟨_, rfl, by decide, by decide⟩⟩ (x_cs.mono B.2.2.2.2.2 (y_mon B hI)) (fun h' s' h1 => by cases h1; rw [show m_has s9 h = false from decide_eq_false (fun q => q q5)]; rfl) (Nat.le_refl _) (Nat.le_refl _) inq_d13
  · have q5_ : ¬ z4.toInt = (0 : Int32).toInt := fun q => q5 (Int32.toInt_inj.mp q)
    refine lv_iconst hx hb inq_d8 (v := 1) (by decide) ?_
    refine lv_goto hx hb inq_d9 (tgt := 13) (by decide) ?_
    subst hg_z2
    subst hg_z4
    exact y_ireturn B hI rfl rfl rfl List.mem_cons_self ⟨_, rfl, ⟨_, rfl, by decide, by decide⟩⟩ (x_cs.mono B.2.2.2.2.2 (y_mon B hI)) (fun h' s' h1 => by cases h1; rw [show m_has s9 h = true from decide_eq_true q5]; rfl) (Nat.le_refl _) (Nat.le_refl _) inq_d13
def z_Pfw : yP := fun D av _ H v _ _ => ∀ (this vw : Nat) (w : Int32) (V : Nat → Int32), av = [.ref this, .int w] → x_sl D 0 1 this H = some (.ref vw) → y_A vw 10 H V → ∃ r : Int32, v = some (.int r) ∧ m_fw V w r
theorem fwq_d0 : decode xM72.2.1 0 = .ok (.iconst 0, 1) := dz_ok (by decide +kernel)
theorem fwq_d1 : decode xM72.2.1 1 = .ok (.istore_n 2, 1) := dz_ok (by decide +kernel)
theorem fwq_d2 : decode xM72.2.1 2 = .ok (.iload_n 2, 1) := dz_ok (by decide +kernel)
theorem fwq_d3 : decode xM72.2.1 3 = .ok (.bipush 10, 2) := dz_ok (by decide +kernel)
theorem fwq_d5 : decode xM72.2.1 5 = .ok (.if_icmp .ge 34, 3) := dz_ok (by decide +kernel)
theorem fwq_d8 : decode xM72.2.1 8 = .ok (.iload_n 2, 1) := dz_ok (by decide +kernel)
theorem fwq_d9 : decode xM72.2.1 9 = .ok (.iload_n 1, 1) := dz_ok (by decide +kernel)
theorem fwq_d10 : decode xM72.2.1 10 = .ok (.invokestatic 88, 3) := dz_ok (by decide +kernel)
theorem fwq_d13 : decode xM72.2.1 13 = .ok (.ifCond .eq 20, 3) := dz_ok (by decide +kernel)
theorem fwq_d16 : decode xM72.2.1 16 = .ok (.aload_n 0, 1) := dz_ok (by decide +kernel)
theorem fwq_d17 : decode xM72.2.1 17 = .ok (.getfield 18, 3) := dz_ok (by decide +kernel)
theorem fwq_d20 : decode xM72.2.1 20 = .ok (.iload_n 2, 1) := dz_ok (by decide +kernel)
theorem fwq_d21 : decode xM72.2.1 21 = .ok (.iaload, 1) := dz_ok (by decide +kernel)
theorem fwq_d22 : decode xM72.2.1 22 = .ok (.iload_n 1, 1) := dz_ok (by decide +kernel)
theorem fwq_d23 : decode xM72.2.1 23 = .ok (.iand, 1) := dz_ok (by decide +kernel)
theorem fwq_d24 : decode xM72.2.1 24 = .ok (.invokestatic 91, 3) := dz_ok (by decide +kernel)
theorem fwq_d27 : decode xM72.2.1 27 = .ok (.iconst 1, 1) := dz_ok (by decide +kernel)
theorem fwq_d28 : decode xM72.2.1 28 = .ok (.if_icmp .eq 5, 3) := dz_ok (by decide +kernel)
theorem fwq_d31 : decode xM72.2.1 31 = .ok (.iload_n 2, 1) := dz_ok (by decide +kernel)
theorem fwq_d32 : decode xM72.2.1 32 = .ok (.ireturn, 1) := dz_ok (by decide +kernel)
theorem fwq_d33 : decode xM72.2.1 33 = .ok (.iinc 2 1, 3) := dz_ok (by decide +kernel)
theorem fwq_d36 : decode xM72.2.1 36 = .ok (.goto (-34), 3) := dz_ok (by decide +kernel)
theorem fwq_d39 : decode xM72.2.1 39 = .ok (.iconst (-1), 1) := dz_ok (by decide +kernel)
theorem fwq_d40 : decode xM72.2.1 40 = .ok (.ireturn, 1) := dz_ok (by decide +kernel)
theorem fwq_L2 {p : Program} {l : Launch} {e : Env} {s : State} {m : MethodId} {below : List Frame} {meth : Method} {c : Code} {D : va_G} {U : State} {Y0 : xY} {av : List Value} (B : y_B vwCl x_Tb x_Nb xM72 p s m meth c D U Y0 av) {this vw : Nat} {w : Int32} {fv : Nat → Int32} (hav : av = [.ref this, .int w]) (hs0 : x_sl D 0 1 this s.heap = some (.ref vw)) (hA0 : y_A vw 10 s.heap fv)  :
    ∀ (n : Nat), ∀ (H : Heap) (Y : xY) (locs : List Loc) (ls : Array Slot) (j : Int32), x_I D x_G x_Zs U (x_efs xM72) Y0 s.heap Y H locs → Y this = some 6 → Y vw = some 32 → x_sl D 0 1 this H = some (.ref vw) → y_A vw 10 H fv → lv_has ls xM72.2.2.1 [(2, .int j), (0, .ref this), (1, .int w)] → (0 ≤ j.toInt ∧ j.toInt ≤ 10) → (∀ i : Nat, (i : Int) < j.toInt → m_wr fv w i = false) → (11 - j.toInt).toNat < n → W p l e (x_rm xM72) s m av.toArray below meth c H locs 0 0 (y_QQ below D x_G x_Zs U xM72 z_Pfw av Y0 s) (F0 m 2 ls []) := by
  have X := B.1
  have hx := X.1
  have hb := X.2.1
  have hY0 := B.2.2.2.2.1
  intro n
  induction n with
  | zero => intro _ _ _ _ _ _ _ _ _ _ _ _ _ h; exact absurd h (Nat.not_lt_zero _)
  | succ n ih =>
    intro H Y locs ls j  hI hY_this hY_vw hs_vw hA_vw hl hj hno hn
    refine lv_iload_n hx hb fwq_d2 rfl (lv_at hl 0 rfl) ?_
    refine lv_bipush hx hb fwq_d3 (v := 10) (by decide) ?_
    have ec10 : (10 : Int32).toInt = 10 := by decide
    refine lv_icmp_ge hx hb fwq_d5 (tgt := 39) (by decide) (fun q5 => ?_) (fun q5 => ?_)
    · have q5_ : (10 : Int32).toInt ≤ j.toInt := x_le32.mp q5
      refine lv_iconst hx hb fwq_d39 (v := (-1)) (by decide) ?_
      have ecm1 : ((-1) : Int32).toInt = (-1) := by decide
      subst hav
      exact y_ireturn B hI rfl rfl rfl List.mem_cons_self ⟨_, rfl, ⟨_, rfl, by decide, by decide⟩⟩ (x_cs.mono B.2.2.2.2.2 (y_mon B hI)) (fun t' vw' w' V' h1 h2 h3 => by cases h1; cases h2.symm.trans hs0; exact ⟨_, rfl, m_fw.congr (V := fv) (Or.inr ⟨rfl, fun i hi => hno i (by omega)⟩) (fun i hi => z_AR hA0 h3 hi)⟩) (Nat.le_refl _) (Nat.le_refl _) fwq_d40
    · have q5_ : j.toInt < (10 : Int32).toInt := Int.not_le.mp fun q => q5 (x_le32.mpr q)
      refine lv_iload_n hx hb fwq_d8 rfl (lv_at hl 0 rfl) ?_
      refine lv_iload_n hx hb fwq_d9 rfl (lv_at hl 2 rfl) ?_
      refine y_call (z := (1, 88, 2, none, xM70)) (av := [.int j, .int w]) (rest := []) (y_cokSN (n := 2) (host := "TwinFires") X ym_isIn (x_cons (x_bw42 15 rfl rfl) (x_cons (x_bw0 1 rfl rfl) x_nilm)) (x_bn42 14 rfl rfl) (x_bw43 0 rfl rfl) (by decide +kernel) ⟨Nat.le_of_ble_eq_true rfl, Nat.le_of_ble_eq_true rfl⟩) hY0 hI rfl fwq_d10 hl.1 (Nat.le_of_ble_eq_true rfl) (Nat.le_of_ble_eq_true rfl) (Nat.le_of_ble_eq_true rfl) (y_cons ⟨_, rfl, x_i32 _⟩ (y_cons ⟨_, rfl, x_i32 _⟩ y_nil)) rfl (y_norecv rfl) trivial (y_sub_ef rfl) fun v Yn o Hn L ho hr ha hIn hx_ hE hP => ?_
      have hPm := hP _ _ rfl
      obtain rfl := hPm
      replace hs_vw := y_Efld hE hY_this rfl (by decide) (by decide) hs_vw
      replace hA_vw := hA_vw.kept (y_Earr hE hY_vw rfl (by decide))
      replace hY_this := y_ext hx_ hI.1 hY_this
      replace hY_vw := y_ext hx_ hI.1 hY_vw
      generalize hg_r10 : m_b (m_has w j) = r10
      clear ho hr ha hE hP hI hx_
      rename x_I _ _ _ _ _ _ _ _ _ _ => hI
      have ec0 : (0 : Int32).toInt = 0 := by decide
      refine lv_if_eq hx hb fwq_d13 (tgt := 33) (by decide) (fun q13 => ?_) (fun q13 => ?_)
      · have q13_ : r10.toInt = (0 : Int32).toInt := by rw [q13]
        obtain ⟨z33, hg_z33⟩ : ∃ z33 : Int32, j + Int32.ofInt 1 = z33 := ⟨_, rfl⟩
        have h_z33 : z33.toInt = j.toInt + 1 := by rw [← hg_z33]; exact y_inc (by decide) (by omega) (by omega)
        refine lv_iinc hx hb fwq_d33 hl (k := 0) rfl hg_z33 (by decide) (lv' := [(2, .int z33), (0, .ref this), (1, .int w)]) rfl fun ls hl => ?_
        refine lv_goto hx hb fwq_d36 (tgt := 2) (by decide) ?_
        have hnj := m_nj hj.1
        exact ih _ _ _ _ _ hI hY_this hY_vw hs_vw hA_vw (lv_sub hl [0, 1, 2] rfl) (by first | assumption | omega) (fun i hi => by by_cases ei : (i : Int) = j.toInt; (have ej : i = j.toInt.toNat := (by omega); subst ej; unfold m_wr; rw [hnj]; first | (rw [m_b0 (hg_r10.trans q13), Bool.false_and]) | (rw [show m_bc (fv j.toInt.toNat &&& w) = 1 by rw [hg_e21, hg_z23, hg_r24]; exact q28, decide_eq_true rfl, Bool.not_true, Bool.and_false])); exact hno i (by omega)) (by omega)
      · have q13_ : ¬ r10.toInt = (0 : Int32).toInt := fun q => q13 (Int32.toInt_inj.mp q)
        refine lv_aload_n hx hb fwq_d16 rfl (lv_at hl 1 rfl) ?_
        refine y_getf X (fl101 X.2.2.2.2.1) hI.1 hY_this rfl hs_vw fwq_d17 ?_
        refine lv_iload_n hx hb fwq_d20 rfl (lv_at hl 0 rfl) ?_
        refine y_iald X hI.1 hY_vw rfl hA_vw (by omega) (by show _ < (10 : Int); omega) fwq_d21 ?_
        obtain ⟨e21, hg_e21⟩ : ∃ e21 : Int32, fv j.toInt.toNat = e21 := ⟨_, rfl⟩
        rw [hg_e21]
        refine lv_iload_n hx hb fwq_d22 rfl (lv_at hl 2 rfl) ?_
        refine lv_iand hx hb fwq_d23 ?_
        generalize hg_z23 : e21 &&& w = z23
        refine y_call (z := (1, 91, 1, none, xM71)) (av := [.int z23]) (rest := []) (y_cokS (n := 1) X ym_bitCount (x_cons (x_bw43 1 rfl rfl) (x_cons (x_bw43 2 rfl rfl) (x_cons (x_bw1 5 rfl rfl) x_nilm))) (x_bw43 3 rfl rfl) (by decide +kernel) ⟨Nat.le_of_ble_eq_true rfl, Nat.le_of_ble_eq_true rfl⟩) hY0 hI rfl fwq_d24 hl.1 (Nat.le_of_ble_eq_true rfl) (Nat.le_of_ble_eq_true rfl) (Nat.le_of_ble_eq_true rfl) (y_cons ⟨_, rfl, x_i32 _⟩ y_nil) rfl (y_norecv rfl) trivial (y_sub_ef rfl) fun v Yn o Hn L ho hr ha hIn hx_ hE hP => ?_
        have hPm := hP _ rfl
        obtain rfl := hPm
        replace hs_vw := y_Efld hE hY_this rfl (by decide) (by decide) hs_vw
        replace hA_vw := hA_vw.kept (y_Earr hE hY_vw rfl (by decide))
        replace hY_this := y_ext hx_ hI.1 hY_this
        replace hY_vw := y_ext hx_ hI.1 hY_vw
        generalize hg_r24 : m_bc z23 = r24
        clear ho hr ha hE hP hI hx_
        rename x_I _ _ _ _ _ _ _ _ _ _ => hI
        refine lv_iconst hx hb fwq_d27 (v := 1) (by decide) ?_
        have ec1 : (1 : Int32).toInt = 1 := by decide
        refine lv_icmp_eq hx hb fwq_d28 (tgt := 33) (by decide) (fun q28 => ?_) (fun q28 => ?_)
        · have q28_ : r24.toInt = (1 : Int32).toInt := by rw [q28]
          obtain ⟨z33, hg_z33⟩ : ∃ z33 : Int32, j + Int32.ofInt 1 = z33 := ⟨_, rfl⟩
          have h_z33 : z33.toInt = j.toInt + 1 := by rw [← hg_z33]; exact y_inc (by decide) (by omega) (by omega)
          refine lv_iinc hx hb fwq_d33 hl (k := 0) rfl hg_z33 (by decide) (lv' := [(2, .int z33), (0, .ref this), (1, .int w)]) rfl fun ls hl => ?_
          refine lv_goto hx hb fwq_d36 (tgt := 2) (by decide) ?_
          have hnj := m_nj hj.1
          exact ih _ _ _ _ _ hI hY_this hY_vw hs_vw hA_vw (lv_sub hl [0, 1, 2] rfl) (by first | assumption | omega) (fun i hi => by by_cases ei : (i : Int) = j.toInt; (have ej : i = j.toInt.toNat := (by omega); subst ej; unfold m_wr; rw [hnj]; first | (rw [m_b0 (hg_r10.trans q13), Bool.false_and]) | (rw [show m_bc (fv j.toInt.toNat &&& w) = 1 by rw [hg_e21, hg_z23, hg_r24]; exact q28, decide_eq_true rfl, Bool.not_true, Bool.and_false])); exact hno i (by omega)) (by omega)
        · have q28_ : ¬ r24.toInt = (1 : Int32).toInt := fun q => q28 (Int32.toInt_inj.mp q)
          refine lv_iload_n hx hb fwq_d31 rfl (lv_at hl 0 rfl) ?_
          have hnj := m_nj hj.1
          have hwr : m_wr fv w j.toInt.toNat = true := by unfold m_wr; rw [hnj, m_bn (fun q => q13 (hg_r10.symm.trans q)), Bool.true_and, Bool.not_eq_true']; exact decide_eq_false (fun q => q28 (by rw [← hg_r24, ← hg_z23, ← hg_e21]; exact q))
          subst hav
          exact y_ireturn B hI rfl rfl rfl List.mem_cons_self ⟨_, rfl, ⟨_, rfl, by show (-1 : Int) ≤ _; omega, by show _ ≤ (9 : Int); omega⟩⟩ (x_cs.mono B.2.2.2.2.2 (y_mon B hI)) (fun t' vw' w' V' h1 h2 h3 => by cases h1; cases h2.symm.trans hs0; exact ⟨_, rfl, m_fw.congr (V := fv) (Or.inl ⟨j.toInt.toNat, by omega, by omega, hwr, fun i hi => hno i (by omega)⟩) (fun i hi => z_AR hA0 h3 hi)⟩) (Nat.le_refl _) (Nat.le_refl _) fwq_d32
theorem ym_firstWrong : y_Met vwCl x_G x_Zs x_Tb x_Nb xM72 y_T z_Pfw := by
  refine y_main (by decide +kernel) (by decide +kernel) x_Tb_good x_Nb_ok ?_
  intro p l e s m below meth c D U Y0 av ls B hI _ hl
  have X := B.1
  have hx := X.1
  have hb := X.2.1
  have hY0 := B.2.2.2.2.1
  obtain ⟨v0, v1, rfl, hv0, ⟨w, rfl, -⟩⟩ := x_two B.2.2.2.2.2
  obtain ⟨this, t0, rfl, ht0, hY_this⟩ := x_ref_at hv0 rfl
  obtain rfl := List.mem_singleton.mp ht0
  replace hl : lv_has ls xM72.2.2.1 [(0, .ref this), (1, .int w)] := hl
  obtain ⟨vw, hs_vw, hY_vw⟩ := y_fldR (k := 1) hI.1 hY_this rfl rfl
  obtain ⟨fv, hA_vw, -⟩ := y_arr hI.1 hY_vw rfl rfl
  have hs0 := hs_vw
  have hA0 := hA_vw
  refine lv_iconst hx hb fwq_d0 (v := 0) (by decide) ?_
  have ec0 : (0 : Int32).toInt = 0 := by decide
  refine lv_istore_n hx hb fwq_d1 rfl hl (by decide) (lv' := [(2, .int (0 : Int32)), (0, .ref this), (1, .int w)]) rfl fun ls hl => ?_
  exact fwq_L2 B rfl hs0 hA0 12 _ _ _ _ _ hI hY_this hY_vw hs_vw hA_vw (lv_sub hl [0, 1, 2] rfl) (by first | assumption | omega) (fun i hi => absurd hi (by omega)) (by omega)
theorem y_stands {p : Program} {l : Launch} {e : Env} {R : Room} {s : State} {m : MethodId} {args : Array Value} {below : List Frame} {meth : Method} {c : Code} {Q : State → Prop} {D : va_G} {U : State} {cc : ByteArray} {nL : Nat} {Y : xY} {H : Heap} {locs : List Loc} {cells slots pc : Nat} {ls : Array Slot} {rest : List Value} {d y : Int32} {sn q : Nat} {f : Nat → Int32} {H0 : Heap} {Y0 : xY} {ef : List (Nat × Nat)} (X : x_cx p s m args c D U cc nL vwCl x_Tb x_Nb "TwinFires$Eyes") (hRm : 3 ≤ R.frames ∧ 66 ≤ R.locals) (hst : z_st D Y sn H f q) (hd : 0 ≤ d.toInt ∧ d.toInt ≤ 1) (hY0 : ∀ q u, Y0 q = some u → q < H0.size) (hI : x_I D x_G x_Zs U ef Y0 H0 Y H locs) (hdc : decode cc pc = .ok (.invokevirtual 78, 3)) (hls : ls.size = nL) (hrest : (rest.map fun v => v.category).sum ≤ 8) (hcl : cells ≤ R.cells) (hsl : slots ≤ R.slots)
    (kk : ∀ (Yn : xY) (Hn : Heap) (L : List Loc), x_I D x_G x_Zs U ef Y0 H0 Yn Hn (locs ++ L) → (∀ q, q < H.size → Yn q = Y q) → x_E D x_G [] Y H Hn → W p l e R s m args below meth c Hn (locs ++ L) cells slots Q (F0 m (pc + 3) ls (.int (m_stn f q y d) :: rest))) : W p l e R s m args below meth c H locs cells slots Q (F0 m pc ls (.int d :: .int y :: .ref sn :: rest)) := by
  obtain ⟨z9, hz9, hYz, hk9, -⟩ := id hst
  simp only [z_Kd, List.mem_cons, List.not_mem_nil, or_false] at hz9
  rcases hz9 with rfl | rfl | rfl | rfl | rfl | rfl
  · replace hYz : Y sn = some 11 := hYz
    replace hk9 : ((11 : Nat) : Int) = 11 + (f q).toInt := hk9
    refine y_call (z := (0, 78, 3, some 11, xM31)) (av := [.ref sn, .int y, .int d]) (rest := rest) (y_cokV (n := 2) (ci := 6) X ym_sS rfl rfl rfl (x_cons (x_bw32 10 rfl rfl) (x_cons (x_bw27 3 rfl rfl) (x_cons (x_bw27 4 rfl rfl) (x_cons (x_bw0 4 rfl rfl) x_nilm)))) (x_bw29 3 rfl rfl) (by decide +kernel) ⟨Nat.le_trans (Nat.le_of_ble_eq_true rfl) hRm.1, Nat.le_trans (Nat.le_of_ble_eq_true rfl) hRm.2⟩) hY0 hI rfl hdc hls hrest hcl hsl (y_cons (y_cref hYz rfl) (y_cons ⟨_, rfl, x_i32 _⟩ (y_cons ⟨_, rfl, hd.1, hd.2⟩ y_nil))) rfl (y_recv rfl hYz) trivial x_Sb_nil fun v Yn o Hn L ho hr ha hIn hx_ hE hP => ?_
    have hPs := (hP _ _ _ _ _ rfl hst)
    obtain rfl := hPs
    exact kk _ _ _ hIn hx_ hE
  · replace hYz : Y sn = some 12 := hYz
    replace hk9 : ((12 : Nat) : Int) = 11 + (f q).toInt := hk9
    refine y_call (z := (0, 78, 3, some 12, xM35)) (av := [.ref sn, .int y, .int d]) (rest := rest) (y_cokO (n := 2) (ci := 10) (x := ⟨"TwinFires$Stone", "stands", "(IZ)I"⟩) (b0 := prog_8_method_2_code) (m0 := 3) (r0 := some .int) X ym_sW rfl rfl (x_bw29 3 rfl rfl) (x_cons (x_bw32 10 rfl rfl) (x_cons (x_bw27 5 rfl rfl) (x_cons (x_bw27 3 rfl rfl) (x_cons (x_bw29 2 rfl rfl) (x_cons (x_bw27 7 rfl rfl) (x_cons (x_bw0 10 rfl rfl) x_nilm)))))) (x_bw27 8 rfl rfl) (by decide +kernel) ⟨Nat.le_trans (Nat.le_of_ble_eq_true rfl) hRm.1, Nat.le_trans (Nat.le_of_ble_eq_true rfl) hRm.2⟩) hY0 hI rfl hdc hls hrest hcl hsl (y_cons (y_cref hYz rfl) (y_cons ⟨_, rfl, x_i32 _⟩ (y_cons ⟨_, rfl, hd.1, hd.2⟩ y_nil))) rfl (y_recv rfl hYz) trivial x_Sb_nil fun v Yn o Hn L ho hr ha hIn hx_ hE hP => ?_
    have hPs := (hP _ _ _ _ _ rfl hst).trans (congrArg (fun x => some (Value.int x)) (z_wd_stn (by omega)).symm)
    obtain rfl := hPs
    exact kk _ _ _ hIn hx_ hE
  · replace hYz : Y sn = some 13 := hYz
    replace hk9 : ((13 : Nat) : Int) = 11 + (f q).toInt := hk9
    refine y_call (z := (0, 78, 3, some 13, xM35)) (av := [.ref sn, .int y, .int d]) (rest := rest) (y_cokO (n := 2) (ci := 4) (x := ⟨"TwinFires$Stone", "stands", "(IZ)I"⟩) (b0 := prog_8_method_2_code) (m0 := 3) (r0 := some .int) X ym_sW rfl rfl (x_bw29 3 rfl rfl) (x_cons (x_bw32 10 rfl rfl) (x_cons (x_bw27 5 rfl rfl) (x_cons (x_bw27 3 rfl rfl) (x_cons (x_bw28 8 rfl rfl) (x_cons (x_bw27 7 rfl rfl) (x_cons (x_bw0 10 rfl rfl) x_nilm)))))) (x_bw27 8 rfl rfl) (by decide +kernel) ⟨Nat.le_trans (Nat.le_of_ble_eq_true rfl) hRm.1, Nat.le_trans (Nat.le_of_ble_eq_true rfl) hRm.2⟩) hY0 hI rfl hdc hls hrest hcl hsl (y_cons (y_cref hYz rfl) (y_cons ⟨_, rfl, x_i32 _⟩ (y_cons ⟨_, rfl, hd.1, hd.2⟩ y_nil))) rfl (y_recv rfl hYz) trivial x_Sb_nil fun v Yn o Hn L ho hr ha hIn hx_ hE hP => ?_
    have hPs := (hP _ _ _ _ _ rfl hst).trans (congrArg (fun x => some (Value.int x)) (z_wd_stn (by omega)).symm)
    obtain rfl := hPs
    exact kk _ _ _ hIn hx_ hE
  · replace hYz : Y sn = some 14 := hYz
    replace hk9 : ((14 : Nat) : Int) = 11 + (f q).toInt := hk9
    refine y_call (z := (0, 78, 3, some 14, xM35)) (av := [.ref sn, .int y, .int d]) (rest := rest) (y_cokO (n := 2) (ci := 1) (x := ⟨"TwinFires$Stone", "stands", "(IZ)I"⟩) (b0 := prog_8_method_2_code) (m0 := 3) (r0 := some .int) X ym_sW rfl rfl (x_bw29 3 rfl rfl) (x_cons (x_bw32 10 rfl rfl) (x_cons (x_bw27 5 rfl rfl) (x_cons (x_bw27 3 rfl rfl) (x_cons (x_bw27 6 rfl rfl) (x_cons (x_bw27 7 rfl rfl) (x_cons (x_bw0 10 rfl rfl) x_nilm)))))) (x_bw27 8 rfl rfl) (by decide +kernel) ⟨Nat.le_trans (Nat.le_of_ble_eq_true rfl) hRm.1, Nat.le_trans (Nat.le_of_ble_eq_true rfl) hRm.2⟩) hY0 hI rfl hdc hls hrest hcl hsl (y_cons (y_cref hYz rfl) (y_cons ⟨_, rfl, x_i32 _⟩ (y_cons ⟨_, rfl, hd.1, hd.2⟩ y_nil))) rfl (y_recv rfl hYz) trivial x_Sb_nil fun v Yn o Hn L ho hr ha hIn hx_ hE hP => ?_
    have hPs := (hP _ _ _ _ _ rfl hst).trans (congrArg (fun x => some (Value.int x)) (z_wd_stn (by omega)).symm)
    obtain rfl := hPs
    exact kk _ _ _ hIn hx_ hE
  · replace hYz : Y sn = some 15 := hYz
    replace hk9 : ((15 : Nat) : Int) = 11 + (f q).toInt := hk9
    refine y_call (z := (0, 78, 3, some 15, xM36)) (av := [.ref sn, .int y, .int d]) (rest := rest) (y_cokO (n := 2) (ci := 8) (x := ⟨"TwinFires$Stone", "stands", "(IZ)I"⟩) (b0 := prog_8_method_2_code) (m0 := 3) (r0 := some .int) X ym_sT rfl rfl (x_bw29 3 rfl rfl) (x_cons (x_bw32 10 rfl rfl) (x_cons (x_bw27 5 rfl rfl) (x_cons (x_bw27 3 rfl rfl) (x_cons (x_bw28 9 rfl rfl) (x_cons (x_bw28 10 rfl rfl) (x_cons (x_bw0 13 rfl rfl) x_nilm)))))) (x_bw28 11 rfl rfl) (by decide +kernel) ⟨Nat.le_trans (Nat.le_of_ble_eq_true rfl) hRm.1, Nat.le_trans (Nat.le_of_ble_eq_true rfl) hRm.2⟩) hY0 hI rfl hdc hls hrest hcl hsl (y_cons (y_cref hYz rfl) (y_cons ⟨_, rfl, x_i32 _⟩ (y_cons ⟨_, rfl, hd.1, hd.2⟩ y_nil))) rfl (y_recv rfl hYz) trivial x_Sb_nil fun v Yn o Hn L ho hr ha hIn hx_ hE hP => ?_
    have hPs := (hP _ _ _ _ _ rfl hst)
    obtain rfl := hPs
    exact kk _ _ _ hIn hx_ hE
  · replace hYz : Y sn = some 16 := hYz
    replace hk9 : ((16 : Nat) : Int) = 11 + (f q).toInt := hk9
    refine y_call (z := (0, 78, 3, some 16, xM37)) (av := [.ref sn, .int y, .int d]) (rest := rest) (y_cokO (n := 2) (ci := 9) (x := ⟨"TwinFires$Stone", "stands", "(IZ)I"⟩) (b0 := prog_8_method_2_code) (m0 := 3) (r0 := some .int) X ym_sA rfl rfl (x_bw29 3 rfl rfl) (x_cons (x_bw32 10 rfl rfl) (x_cons (x_bw27 5 rfl rfl) (x_cons (x_bw27 3 rfl rfl) (x_cons (x_bw28 15 rfl rfl) (x_cons (x_bw29 0 rfl rfl) (x_cons (x_bw0 14 rfl rfl) x_nilm)))))) (x_bw29 1 rfl rfl) (by decide +kernel) ⟨Nat.le_trans (Nat.le_of_ble_eq_true rfl) hRm.1, Nat.le_trans (Nat.le_of_ble_eq_true rfl) hRm.2⟩) hY0 hI rfl hdc hls hrest hcl hsl (y_cons (y_cref hYz rfl) (y_cons ⟨_, rfl, x_i32 _⟩ (y_cons ⟨_, rfl, hd.1, hd.2⟩ y_nil))) rfl (y_recv rfl hYz) trivial x_Sb_nil fun v Yn o Hn L ho hr ha hIn hx_ hE hP => ?_
    have hPs := (hP _ _ _ _ _ rfl hst)
    obtain rfl := hPs
    exact kk _ _ _ hIn hx_ hE
def z_Phb : yP := fun D av Y H v _ _ => ∀ (this ld ln : Nat) (a b : Int32) (f lq : Nat → Int32), av = [.ref this, .ref ld, .int a, .int b] → x_sl D 0 0 this H = some (.ref ln) → z_L D Y ld H f → z_Ln D ln H lq → v = some (.int (m_b (m_hb lq f a.toInt b.toInt)))
def z_ALn : yA := fun D av Y H => ∀ q : Nat, av[1]? = some (.ref q) → ∃ f, z_L D Y q H f
theorem hhq_d0 : decode xM47.2.1 0 = .ok (.iconst 0, 1) := dz_ok (by decide +kernel)
theorem hhq_d1 : decode xM47.2.1 1 = .ok (.istore 4, 2) := dz_ok (by decide +kernel)
theorem hhq_d3 : decode xM47.2.1 3 = .ok (.iload 4, 2) := dz_ok (by decide +kernel)
theorem hhq_d5 : decode xM47.2.1 5 = .ok (.aload_n 1, 1) := dz_ok (by decide +kernel)
theorem hhq_d6 : decode xM47.2.1 6 = .ok (.getfield 28, 3) := dz_ok (by decide +kernel)
theorem hhq_d9 : decode xM47.2.1 9 = .ok (.if_icmp .ge 78, 3) := dz_ok (by decide +kernel)
theorem hhq_d12 : decode xM47.2.1 12 = .ok (.iload 4, 2) := dz_ok (by decide +kernel)
theorem hhq_d14 : decode xM47.2.1 14 = .ok (.iload_n 2, 1) := dz_ok (by decide +kernel)
theorem hhq_d15 : decode xM47.2.1 15 = .ok (.if_icmp .eq 66, 3) := dz_ok (by decide +kernel)
theorem hhq_d18 : decode xM47.2.1 18 = .ok (.iload 4, 2) := dz_ok (by decide +kernel)
theorem hhq_d20 : decode xM47.2.1 20 = .ok (.iload_n 3, 1) := dz_ok (by decide +kernel)
theorem hhq_d21 : decode xM47.2.1 21 = .ok (.if_icmp .eq 60, 3) := dz_ok (by decide +kernel)
theorem hhq_d24 : decode xM47.2.1 24 = .ok (.aload_n 0, 1) := dz_ok (by decide +kernel)
theorem hhq_d25 : decode xM47.2.1 25 = .ok (.getfield 12, 3) := dz_ok (by decide +kernel)
theorem hhq_d28 : decode xM47.2.1 28 = .ok (.aload_n 1, 1) := dz_ok (by decide +kernel)
theorem hhq_d29 : decode xM47.2.1 29 = .ok (.getfield 45, 3) := dz_ok (by decide +kernel)
theorem hhq_d32 : decode xM47.2.1 32 = .ok (.iload 4, 2) := dz_ok (by decide +kernel)
theorem hhq_d34 : decode xM47.2.1 34 = .ok (.iaload, 1) := dz_ok (by decide +kernel)
theorem hhq_d35 : decode xM47.2.1 35 = .ok (.aload_n 1, 1) := dz_ok (by decide +kernel)
theorem hhq_d36 : decode xM47.2.1 36 = .ok (.getfield 48, 3) := dz_ok (by decide +kernel)
theorem hhq_d39 : decode xM47.2.1 39 = .ok (.iload 4, 2) := dz_ok (by decide +kernel)
theorem hhq_d41 : decode xM47.2.1 41 = .ok (.iaload, 1) := dz_ok (by decide +kernel)
theorem hhq_d42 : decode xM47.2.1 42 = .ok (.invokevirtual 51, 3) := dz_ok (by decide +kernel)
theorem hhq_d45 : decode xM47.2.1 45 = .ok (.ifCond .eq 36, 3) := dz_ok (by decide +kernel)
theorem hhq_d48 : decode xM47.2.1 48 = .ok (.aload_n 0, 1) := dz_ok (by decide +kernel)
theorem hhq_d49 : decode xM47.2.1 49 = .ok (.getfield 12, 3) := dz_ok (by decide +kernel)
theorem hhq_d52 : decode xM47.2.1 52 = .ok (.aload_n 1, 1) := dz_ok (by decide +kernel)
theorem hhq_d53 : decode xM47.2.1 53 = .ok (.getfield 45, 3) := dz_ok (by decide +kernel)
theorem hhq_d56 : decode xM47.2.1 56 = .ok (.iload 4, 2) := dz_ok (by decide +kernel)
theorem hhq_d58 : decode xM47.2.1 58 = .ok (.iaload, 1) := dz_ok (by decide +kernel)
theorem hhq_d59 : decode xM47.2.1 59 = .ok (.aload_n 1, 1) := dz_ok (by decide +kernel)
theorem hhq_d60 : decode xM47.2.1 60 = .ok (.getfield 48, 3) := dz_ok (by decide +kernel)
theorem hhq_d63 : decode xM47.2.1 63 = .ok (.iload 4, 2) := dz_ok (by decide +kernel)
theorem hhq_d65 : decode xM47.2.1 65 = .ok (.iaload, 1) := dz_ok (by decide +kernel)
theorem hhq_d66 : decode xM47.2.1 66 = .ok (.aload_n 1, 1) := dz_ok (by decide +kernel)
theorem hhq_d67 : decode xM47.2.1 67 = .ok (.getfield 55, 3) := dz_ok (by decide +kernel)
theorem hhq_d70 : decode xM47.2.1 70 = .ok (.iload 4, 2) := dz_ok (by decide +kernel)
theorem hhq_d72 : decode xM47.2.1 72 = .ok (.iaload, 1) := dz_ok (by decide +kernel)
theorem hhq_d73 : decode xM47.2.1 73 = .ok (.invokevirtual 58, 3) := dz_ok (by decide +kernel)
theorem hhq_d76 : decode xM47.2.1 76 = .ok (.ifCond .eq 5, 3) := dz_ok (by decide +kernel)
theorem hhq_d79 : decode xM47.2.1 79 = .ok (.iconst 1, 1) := dz_ok (by decide +kernel)
theorem hhq_d80 : decode xM47.2.1 80 = .ok (.ireturn, 1) := dz_ok (by decide +kernel)
theorem hhq_d81 : decode xM47.2.1 81 = .ok (.iinc 4 1, 3) := dz_ok (by decide +kernel)
theorem hhq_d84 : decode xM47.2.1 84 = .ok (.goto (-81), 3) := dz_ok (by decide +kernel)
theorem hhq_d87 : decode xM47.2.1 87 = .ok (.iconst 0, 1) := dz_ok (by decide +kernel)
theorem hhq_d88 : decode xM47.2.1 88 = .ok (.ireturn, 1) := dz_ok (by decide +kernel)
theorem hhq_L3 {p : Program} {l : Launch} {e : Env} {s : State} {m : MethodId} {below : List Frame} {meth : Method} {c : Code} {D : va_G} {U : State} {Y0 : xY} {av : List Value} (B : y_B vwCl x_Tb x_Nb xM47 p s m meth c D U Y0 av) {this ld ln ax ay ah : Nat} {a b : Int32} {f lq : Nat → Int32} (hav : av = [.ref this, .ref ld, .int a, .int b]) (hs0 : x_sl D 0 0 this s.heap = some (.ref ln)) (hL0 : z_L D Y0 ld s.heap f) (hLn0 : z_Ln D ln s.heap lq) (hd0 : 0 ≤ (f 0).toInt ∧ (f 0).toInt ≤ 10)  :
    ∀ (n : Nat), ∀ (H : Heap) (Y : xY) (locs : List Loc) (ls : Array Slot) (j : Int32), x_I D x_G x_Zs U (x_efs xM47) Y0 s.heap Y H locs → Y this = some 6 → Y ld = some 2 → Y ln = some 10 → Y ax = some 19 → Y ay = some 20 → Y ah = some 21 → x_sl D 0 0 this H = some (.ref ln) → x_sl D 2 1 ld H = some (.ref ax) → x_sl D 2 2 ld H = some (.ref ay) → x_sl D 2 3 ld H = some (.ref ah) → x_sl D 2 0 ld H = some (.int (f 0)) → y_A ax 10 H (fun j => f (10 + 5 * j)) → y_A ay 10 H (fun j => f (11 + 5 * j)) → y_A ah 10 H (fun j => f (12 + 5 * j)) → z_L D Y ld H f → z_Ln D ln H lq → lv_has ls xM47.2.2.1 [(4, .int j), (0, .ref this), (1, .ref ld), (2, .int a), (3, .int b)] → (0 ≤ j.toInt ∧ j.toInt ≤ (f 0).toInt) → (∀ i : Nat, (i : Int) < j.toInt → m_hc lq f a.toInt b.toInt i = false) → (11 - j.toInt).toNat < n → W p l e (x_rm xM47) s m av.toArray below meth c H locs 0 0 (y_QQ below D x_G x_Zs U xM47 z_Phb av Y0 s) (F0 m 3 ls []) := by
  have X := B.1
  have hx := X.1
  have hb := X.2.1
  have hY0 := B.2.2.2.2.1
  intro n
  induction n with
  | zero => intro _ _ _ _ _ _ _ _ _ _ _ _ _ _ _ _ _ _ _ _ _ _ _ _ _ h; exact absurd h (Nat.not_lt_zero _)
  | succ n ih =>
    intro H Y locs ls j  hI hY_this hY_ld hY_ln hY_ax hY_ay hY_ah hs_ln hs_ax hs_ay hs_ah hsi_hills hA_ax hA_ay hA_ah hL hLn hl hj hno hn
    refine lv_iload hx hb hhq_d3 (lv_at hl 0 rfl) ?_
    refine lv_aload_n hx hb hhq_d5 rfl (lv_at hl 2 rfl) ?_
    refine y_getf X (fl80 X.2.2.2.2.1) hI.1 hY_ld rfl hsi_hills hhq_d6 ?_
    refine lv_icmp_ge hx hb hhq_d9 (tgt := 87) (by decide) (fun q9 => ?_) (fun q9 => ?_)
    · have q9_ : (f 0).toInt ≤ j.toInt := x_le32.mp q9
      refine lv_iconst hx hb hhq_d87 (v := 0) (by decide) ?_
      have ec0 : (0 : Int32).toInt = 0 := by decide
      subst hav
      exact y_ireturn B hI rfl rfl rfl (List.mem_cons_of_mem _ List.mem_cons_self) ⟨_, rfl, ⟨_, rfl, by decide, by decide⟩⟩ (x_cs.mono B.2.2.2.2.2 (y_mon B hI)) (fun t' d' n' a' b' f' l' h1 h2 h3 h4 => by cases h1; cases h2.symm.trans hs0; cases h3.uniq hL0; cases h4.uniq hLn0; exact congrArg (fun x => some (Value.int (m_b x))) (m_any_F _ (fun i hi => hno i (by omega))).symm) (Nat.le_refl _) (Nat.le_refl _) hhq_d88
    · have q9_ : j.toInt < (f 0).toInt := Int.not_le.mp fun q => q9 (x_le32.mpr q)
      refine lv_iload hx hb hhq_d12 (lv_at hl 0 rfl) ?_
      refine lv_iload_n hx hb hhq_d14 rfl (lv_at hl 3 rfl) ?_
      refine lv_icmp_eq hx hb hhq_d15 (tgt := 81) (by decide) (fun q15 => ?_) (fun q15 => ?_)
      · have q15_ : j.toInt = a.toInt := by rw [q15]
        obtain ⟨z81, hg_z81⟩ : ∃ z81 : Int32, j + Int32.ofInt 1 = z81 := ⟨_, rfl⟩
        have h_z81 : z81.toInt = j.toInt + 1 := by rw [← hg_z81]; exact y_inc (by decide) (by omega) (by omega)
        refine lv_iinc hx hb hhq_d81 hl (k := 0) rfl hg_z81 (by decide) (lv' := [(4, .int z81), (0, .ref this), (1, .ref ld), (2, .int a), (3, .int b)]) rfl fun ls hl => ?_
        refine lv_goto hx hb hhq_d84 (tgt := 3) (by decide) ?_
        exact ih _ _ _ _ _ hI hY_this hY_ld hY_ln hY_ax hY_ay hY_ah hs_ln hs_ax hs_ay hs_ah hsi_hills hA_ax hA_ay hA_ah hL hLn (lv_sub hl [0, 1, 2, 3, 4] rfl) (by first | assumption | omega) (fun i hi => by by_cases ei : (i : Int) = j.toInt; (have ej : i = j.toInt.toNat := (by omega); subst ej; unfold m_hc; first | (rw [decide_eq_true (show ((j.toInt.toNat : Nat) : Int) = a.toInt by omega), Bool.not_true, Bool.false_and]) | (rw [decide_eq_true (show ((j.toInt.toNat : Nat) : Int) = b.toInt by omega), Bool.not_true, Bool.false_and, Bool.and_false]) | (rw [hg_e34, hg_e41, m_b0 (hg_r42.trans q45), Bool.false_and, Bool.and_false, Bool.and_false]) | (rw [hg_e58, hg_e65, hg_e72, m_b0 (hg_r73.trans q76), Bool.and_false, Bool.and_false, Bool.and_false])); exact hno i (by omega)) (by omega)
      · have q15_ : ¬ j.toInt = a.toInt := fun q => q15 (Int32.toInt_inj.mp q)
        refine lv_iload hx hb hhq_d18 (lv_at hl 0 rfl) ?_
        refine lv_iload_n hx hb hhq_d20 rfl (lv_at hl 4 rfl) ?_
        refine lv_icmp_eq hx hb hhq_d21 (tgt := 81) (by decide) (fun q21 => ?_) (fun q21 => ?_)
        · have q21_ : j.toInt = b.toInt := by rw [q21]
          obtain ⟨z81, hg_z81⟩ : ∃ z81 : Int32, j + Int32.ofInt 1 = z81 := ⟨_, rfl⟩
          have h_z81 : z81.toInt = j.toInt + 1 := by rw [← hg_z81]; exact y_inc (by decide) (by omega) (by omega)
          refine lv_iinc hx hb hhq_d81 hl (k := 0) rfl hg_z81 (by decide) (lv' := [(4, .int z81), (0, .ref this), (1, .ref ld), (2, .int a), (3, .int b)]) rfl fun ls hl => ?_
          refine lv_goto hx hb hhq_d84 (tgt := 3) (by decide) ?_
          exact ih _ _ _ _ _ hI hY_this hY_ld hY_ln hY_ax hY_ay hY_ah hs_ln hs_ax hs_ay hs_ah hsi_hills hA_ax hA_ay hA_ah hL hLn (lv_sub hl [0, 1, 2, 3, 4] rfl) (by first | assumption | omega) (fun i hi => by by_cases ei : (i : Int) = j.toInt; (have ej : i = j.toInt.toNat := (by omega); subst ej; unfold m_hc; first | (rw [decide_eq_true (show ((j.toInt.toNat : Nat) : Int) = a.toInt by omega), Bool.not_true, Bool.false_and]) | (rw [decide_eq_true (show ((j.toInt.toNat : Nat) : Int) = b.toInt by omega), Bool.not_true, Bool.false_and, Bool.and_false]) | (rw [hg_e34, hg_e41, m_b0 (hg_r42.trans q45), Bool.false_and, Bool.and_false, Bool.and_false]) | (rw [hg_e58, hg_e65, hg_e72, m_b0 (hg_r73.trans q76), Bool.and_false, Bool.and_false, Bool.and_false])); exact hno i (by omega)) (by omega)
        · have q21_ : ¬ j.toInt = b.toInt := fun q => q21 (Int32.toInt_inj.mp q)
          refine lv_aload_n hx hb hhq_d24 rfl (lv_at hl 1 rfl) ?_
          refine y_getf X (fl79 X.2.2.2.2.1) hI.1 hY_this rfl hs_ln hhq_d25 ?_
          refine lv_aload_n hx hb hhq_d28 rfl (lv_at hl 2 rfl) ?_
          refine y_getf X (fl81 X.2.2.2.2.1) hI.1 hY_ld rfl hs_ax hhq_d29 ?_
          refine lv_iload hx hb hhq_d32 (lv_at hl 0 rfl) ?_
          refine y_iald X hI.1 hY_ax rfl hA_ax (by omega) (by show _ < (10 : Int); omega) hhq_d34 ?_
          obtain ⟨e34, hg_e34⟩ : ∃ e34 : Int32, f (10 + 5 * j.toInt.toNat) = e34 := ⟨_, rfl⟩
          rw [hg_e34]
          refine lv_aload_n hx hb hhq_d35 rfl (lv_at hl 2 rfl) ?_
          refine y_getf X (fl82 X.2.2.2.2.1) hI.1 hY_ld rfl hs_ay hhq_d36 ?_
          refine lv_iload hx hb hhq_d39 (lv_at hl 0 rfl) ?_
          refine y_iald X hI.1 hY_ay rfl hA_ay (by omega) (by show _ < (10 : Int); omega) hhq_d41 ?_
          obtain ⟨e41, hg_e41⟩ : ∃ e41 : Int32, f (11 + 5 * j.toInt.toNat) = e41 := ⟨_, rfl⟩
          rw [hg_e41]
          refine y_call (z := (0, 51, 3, some 10, xM44)) (av := [.ref ln, .int e34, .int e41]) (rest := []) (y_cokV (n := 2) (ci := 3) X ym_meets rfl rfl rfl (x_cons (x_bw31 2 rfl rfl) (x_cons (x_bw31 3 rfl rfl) (x_cons (x_bw31 4 rfl rfl) (x_cons (x_bw0 7 rfl rfl) x_nilm)))) (x_bw31 5 rfl rfl) (by decide +kernel) ⟨Nat.le_of_ble_eq_true rfl, Nat.le_of_ble_eq_true rfl⟩) hY0 hI rfl hhq_d42 hl.1 (Nat.le_of_ble_eq_true rfl) (Nat.le_of_ble_eq_true rfl) (Nat.le_of_ble_eq_true rfl) (y_cons (y_cref hY_ln rfl) (y_cons ⟨_, rfl, x_i32 _⟩ (y_cons ⟨_, rfl, x_i32 _⟩ y_nil))) rfl (y_recv rfl hY_ln) trivial (y_sub_ef rfl) fun v Yn o Hn L ho hr ha hIn hx_ hE hP => ?_
          have hPl := hP _ _ _ _ rfl hLn
          obtain rfl := hPl
          replace hs_ln := y_Efld hE hY_this rfl (by decide) (by decide) hs_ln
          replace hs_ax := y_Efld hE hY_ld rfl (by decide) (by decide) hs_ax
          replace hs_ay := y_Efld hE hY_ld rfl (by decide) (by decide) hs_ay
          replace hs_ah := y_Efld hE hY_ld rfl (by decide) (by decide) hs_ah
          replace hsi_hills := y_Efld hE hY_ld rfl (by decide) (by decide) hsi_hills
          replace hA_ax := hA_ax.kept (y_Earr hE hY_ax rfl (by decide))
          replace hA_ay := hA_ay.kept (y_Earr hE hY_ay rfl (by decide))
          replace hA_ah := hA_ah.kept (y_Earr hE hY_ah rfl (by decide))
          replace hL := hL.E hY_ld hE (fun q u h => y_ext hx_ hI.1 h) (by decide +kernel)
          replace hLn := hLn.E hY_ln hE (by decide)
          replace hY_this := y_ext hx_ hI.1 hY_this
          replace hY_ld := y_ext hx_ hI.1 hY_ld
          replace hY_ln := y_ext hx_ hI.1 hY_ln
          replace hY_ax := y_ext hx_ hI.1 hY_ax
          replace hY_ay := y_ext hx_ hI.1 hY_ay
          replace hY_ah := y_ext hx_ hI.1 hY_ah
          generalize hg_r42 : m_b (m_mt lq e34 e41) = r42
          clear ho hr ha hE hP hI hx_
          rename x_I _ _ _ _ _ _ _ _ _ _ => hI
          have ec0 : (0 : Int32).toInt = 0 := by decide
          refine lv_if_eq hx hb hhq_d45 (tgt := 81) (by decide) (fun q45 => ?_) (fun q45 => ?_)
          · have q45_ : r42.toInt = (0 : Int32).toInt := by rw [q45]
            obtain ⟨z81, hg_z81⟩ : ∃ z81 : Int32, j + Int32.ofInt 1 = z81 := ⟨_, rfl⟩
            have h_z81 : z81.toInt = j.toInt + 1 := by rw [← hg_z81]; exact y_inc (by decide) (by omega) (by omega)
            refine lv_iinc hx hb hhq_d81 hl (k := 0) rfl hg_z81 (by decide) (lv' := [(4, .int z81), (0, .ref this), (1, .ref ld), (2, .int a), (3, .int b)]) rfl fun ls hl => ?_
            refine lv_goto hx hb hhq_d84 (tgt := 3) (by decide) ?_
            exact ih _ _ _ _ _ hI hY_this hY_ld hY_ln hY_ax hY_ay hY_ah hs_ln hs_ax hs_ay hs_ah hsi_hills hA_ax hA_ay hA_ah hL hLn (lv_sub hl [0, 1, 2, 3, 4] rfl) (by first | assumption | omega) (fun i hi => by by_cases ei : (i : Int) = j.toInt; (have ej : i = j.toInt.toNat := (by omega); subst ej; unfold m_hc; first | (rw [decide_eq_true (show ((j.toInt.toNat : Nat) : Int) = a.toInt by omega), Bool.not_true, Bool.false_and]) | (rw [decide_eq_true (show ((j.toInt.toNat : Nat) : Int) = b.toInt by omega), Bool.not_true, Bool.false_and, Bool.and_false]) | (rw [hg_e34, hg_e41, m_b0 (hg_r42.trans q45), Bool.false_and, Bool.and_false, Bool.and_false]) | (rw [hg_e58, hg_e65, hg_e72, m_b0 (hg_r73.trans q76), Bool.and_false, Bool.and_false, Bool.and_false])); exact hno i (by omega)) (by omega)
          · have q45_ : ¬ r42.toInt = (0 : Int32).toInt := fun q => q45 (Int32.toInt_inj.mp q)
            refine lv_aload_n hx hb hhq_d48 rfl (lv_at hl 1 rfl) ?_
            refine y_getf X (fl79 X.2.2.2.2.1) hI.1 hY_this rfl hs_ln hhq_d49 ?_
            refine lv_aload_n hx hb hhq_d52 rfl (lv_at hl 2 rfl) ?_
            refine y_getf X (fl81 X.2.2.2.2.1) hI.1 hY_ld rfl hs_ax hhq_d53 ?_
            refine lv_iload hx hb hhq_d56 (lv_at hl 0 rfl) ?_
            refine y_iald X hI.1 hY_ax rfl hA_ax (by omega) (by show _ < (10 : Int); omega) hhq_d58 ?_
            obtain ⟨e58, hg_e58⟩ : ∃ e58 : Int32, f (10 + 5 * j.toInt.toNat) = e58 := ⟨_, rfl⟩
            rw [hg_e58]
            refine lv_aload_n hx hb hhq_d59 rfl (lv_at hl 2 rfl) ?_
            refine y_getf X (fl82 X.2.2.2.2.1) hI.1 hY_ld rfl hs_ay hhq_d60 ?_
            refine lv_iload hx hb hhq_d63 (lv_at hl 0 rfl) ?_
            refine y_iald X hI.1 hY_ay rfl hA_ay (by omega) (by show _ < (10 : Int); omega) hhq_d65 ?_
            obtain ⟨e65, hg_e65⟩ : ∃ e65 : Int32, f (11 + 5 * j.toInt.toNat) = e65 := ⟨_, rfl⟩
            rw [hg_e65]
            refine lv_aload_n hx hb hhq_d66 rfl (lv_at hl 2 rfl) ?_
            refine y_getf X (fl83 X.2.2.2.2.1) hI.1 hY_ld rfl hs_ah hhq_d67 ?_
            refine lv_iload hx hb hhq_d70 (lv_at hl 0 rfl) ?_
            refine y_iald X hI.1 hY_ah rfl hA_ah (by omega) (by show _ < (10 : Int); omega) hhq_d72 ?_
            obtain ⟨e72, hg_e72⟩ : ∃ e72 : Int32, f (12 + 5 * j.toInt.toNat) = e72 := ⟨_, rfl⟩
            rw [hg_e72]
            refine y_call (z := (0, 58, 4, some 10, xM46)) (av := [.ref ln, .int e58, .int e65, .int e72]) (rest := []) (y_cokV (n := 3) (ci := 3) X ym_isHidden rfl rfl rfl (x_cons (x_bw31 14 rfl rfl) (x_cons (x_bw31 15 rfl rfl) (x_cons (x_bw32 0 rfl rfl) (x_cons (x_bw0 7 rfl rfl) x_nilm)))) (x_bw32 1 rfl rfl) (by decide +kernel) ⟨Nat.le_of_ble_eq_true rfl, Nat.le_of_ble_eq_true rfl⟩) hY0 hI rfl hhq_d73 hl.1 (Nat.le_of_ble_eq_true rfl) (Nat.le_of_ble_eq_true rfl) (Nat.le_of_ble_eq_true rfl) (y_cons (y_cref hY_ln rfl) (y_cons ⟨_, rfl, x_i32 _⟩ (y_cons ⟨_, rfl, x_i32 _⟩ (y_cons ⟨_, rfl, x_i32 _⟩ y_nil)))) rfl (y_recv rfl hY_ln) trivial (y_sub_ef rfl) fun v Yn o Hn L ho hr ha hIn hx_ hE hP => ?_
            have hPl := hP _ _ _ _ _ rfl hLn
            obtain rfl := hPl
            replace hs_ln := y_Efld hE hY_this rfl (by decide) (by decide) hs_ln
            replace hs_ax := y_Efld hE hY_ld rfl (by decide) (by decide) hs_ax
            replace hs_ay := y_Efld hE hY_ld rfl (by decide) (by decide) hs_ay
            replace hs_ah := y_Efld hE hY_ld rfl (by decide) (by decide) hs_ah
            replace hsi_hills := y_Efld hE hY_ld rfl (by decide) (by decide) hsi_hills
            replace hA_ax := hA_ax.kept (y_Earr hE hY_ax rfl (by decide))
            replace hA_ay := hA_ay.kept (y_Earr hE hY_ay rfl (by decide))
            replace hA_ah := hA_ah.kept (y_Earr hE hY_ah rfl (by decide))
            replace hL := hL.E hY_ld hE (fun q u h => y_ext hx_ hI.1 h) (by decide +kernel)
            replace hLn := hLn.E hY_ln hE (by decide)
            replace hY_this := y_ext hx_ hI.1 hY_this
            replace hY_ld := y_ext hx_ hI.1 hY_ld
            replace hY_ln := y_ext hx_ hI.1 hY_ln
            replace hY_ax := y_ext hx_ hI.1 hY_ax
            replace hY_ay := y_ext hx_ hI.1 hY_ay
            replace hY_ah := y_ext hx_ hI.1 hY_ah
            generalize hg_r73 : m_b (m_hd lq e58 e65 e72) = r73
            clear ho hr ha hE hP hI hx_
            rename x_I _ _ _ _ _ _ _ _ _ _ => hI
            refine lv_if_eq hx hb hhq_d76 (tgt := 81) (by decide) (fun q76 => ?_) (fun q76 => ?_)
            · have q76_ : r73.toInt = (0 : Int32).toInt := by rw [q76]
              obtain ⟨z81, hg_z81⟩ : ∃ z81 : Int32, j + Int32.ofInt 1 = z81 := ⟨_, rfl⟩
              have h_z81 : z81.toInt = j.toInt + 1 := by rw [← hg_z81]; exact y_inc (by decide) (by omega) (by omega)
              refine lv_iinc hx hb hhq_d81 hl (k := 0) rfl hg_z81 (by decide) (lv' := [(4, .int z81), (0, .ref this), (1, .ref ld), (2, .int a), (3, .int b)]) rfl fun ls hl => ?_
              refine lv_goto hx hb hhq_d84 (tgt := 3) (by decide) ?_
              exact ih _ _ _ _ _ hI hY_this hY_ld hY_ln hY_ax hY_ay hY_ah hs_ln hs_ax hs_ay hs_ah hsi_hills hA_ax hA_ay hA_ah hL hLn (lv_sub hl [0, 1, 2, 3, 4] rfl) (by first | assumption | omega) (fun i hi => by by_cases ei : (i : Int) = j.toInt; (have ej : i = j.toInt.toNat := (by omega); subst ej; unfold m_hc; first | (rw [decide_eq_true (show ((j.toInt.toNat : Nat) : Int) = a.toInt by omega), Bool.not_true, Bool.false_and]) | (rw [decide_eq_true (show ((j.toInt.toNat : Nat) : Int) = b.toInt by omega), Bool.not_true, Bool.false_and, Bool.and_false]) | (rw [hg_e34, hg_e41, m_b0 (hg_r42.trans q45), Bool.false_and, Bool.and_false, Bool.and_false]) | (rw [hg_e58, hg_e65, hg_e72, m_b0 (hg_r73.trans q76), Bool.and_false, Bool.and_false, Bool.and_false])); exact hno i (by omega)) (by omega)
            · have q76_ : ¬ r73.toInt = (0 : Int32).toInt := fun q => q76 (Int32.toInt_inj.mp q)
              refine lv_iconst hx hb hhq_d79 (v := 1) (by decide) ?_
              have ec1 : (1 : Int32).toInt = 1 := by decide
              have hc9 : m_hc lq f a.toInt b.toInt j.toInt.toNat = true := by unfold m_hc; rw [decide_eq_false (show ¬ ((j.toInt.toNat : Nat) : Int) = a.toInt by omega), decide_eq_false (show ¬ ((j.toInt.toNat : Nat) : Int) = b.toInt by omega), hg_e58, hg_e65, hg_e72, m_bn (fun q => q76 (hg_r73.symm.trans q)), ← hg_e58, ← hg_e65, hg_e34, hg_e41, m_bn (fun q => q45 (hg_r42.symm.trans q))]; rfl
              subst hav
              exact y_ireturn B hI rfl rfl rfl List.mem_cons_self ⟨_, rfl, ⟨_, rfl, by decide, by decide⟩⟩ (x_cs.mono B.2.2.2.2.2 (y_mon B hI)) (fun t' d' n' a' b' f' l' h1 h2 h3 h4 => by cases h1; cases h2.symm.trans hs0; cases h3.uniq hL0; cases h4.uniq hLn0; exact congrArg (fun x => some (Value.int (m_b x))) (m_any_T hc9 _ (by omega)).symm) (Nat.le_refl _) (Nat.le_refl _) hhq_d80
theorem ym_hhb : y_Met vwCl x_G x_Zs x_Tb x_Nb xM47 z_ALn z_Phb := by
  refine y_main (by decide +kernel) (by decide +kernel) x_Tb_good x_Nb_ok ?_
  intro p l e s m below meth c D U Y0 av ls B hI hpre hl
  have X := B.1
  have hx := X.1
  have hb := X.2.1
  have hY0 := B.2.2.2.2.1
  obtain ⟨v0, v1, v2, v3, rfl, hv0, hv1, ⟨a, rfl, -⟩, ⟨b, rfl, -⟩⟩ := y_four B.2.2.2.2.2
  obtain ⟨this, t0, rfl, ht0, hY_this⟩ := x_ref_at hv0 rfl
  obtain rfl := List.mem_singleton.mp ht0
  obtain ⟨ld, t1, rfl, ht1, hY_ld⟩ := x_ref_at hv1 rfl
  obtain rfl := List.mem_singleton.mp ht1
  replace hl : lv_has ls xM47.2.2.1 [(0, .ref this), (1, .ref ld), (2, .int a), (3, .int b)] := hl
  obtain ⟨f, hL⟩ := hpre _ rfl
  have hL0 := hL
  have hsi_hills := hL.1.1
  have hsi_things := hL.1.2.1
  have hd0 : 0 ≤ (f 0).toInt ∧ (f 0).toInt ≤ 10 := by
    obtain ⟨x9, e9, b9⟩ := y_fldI (k := 0) hI.1 hY_ld rfl rfl
    rw [hsi_hills] at e9
    cases e9
    exact b9
  have hd1 : 0 ≤ (f 1).toInt ∧ (f 1).toInt ≤ 8 := by
    obtain ⟨x9, e9, b9⟩ := y_fldI (k := 6) hI.1 hY_ld rfl rfl
    rw [hsi_things] at e9
    cases e9
    exact b9
  obtain ⟨ln, hs_ln, hY_ln⟩ := y_fldR (k := 0) hI.1 hY_this rfl rfl
  obtain ⟨lq, hLn⟩ := z_LnE hI.1 hY_ln
  have hLn0 := hLn
  have hs0 := hs_ln
  obtain ⟨ax, hs_ax, hY_ax, hA_ax⟩ := hL.2.1 (1, 19, 10, 10, 5) (by decide)
  replace hA_ax : y_A ax 10 s.heap (fun j => f (10 + 5 * j)) := hA_ax
  obtain ⟨ay, hs_ay, hY_ay, hA_ay⟩ := hL.2.1 (2, 20, 10, 11, 5) (by decide)
  replace hA_ay : y_A ay 10 s.heap (fun j => f (11 + 5 * j)) := hA_ay
  obtain ⟨ah, hs_ah, hY_ah, hA_ah⟩ := hL.2.1 (3, 21, 10, 12, 5) (by decide)
  replace hA_ah : y_A ah 10 s.heap (fun j => f (12 + 5 * j)) := hA_ah
  refine lv_iconst hx hb hhq_d0 (v := 0) (by decide) ?_
  have ec0 : (0 : Int32).toInt = 0 := by decide
  refine lv_istore hx hb hhq_d1 hl (by decide) (lv' := [(4, .int (0 : Int32)), (0, .ref this), (1, .ref ld), (2, .int a), (3, .int b)]) rfl fun ls hl => ?_
  exact hhq_L3 B rfl hs0 hL0 hLn0 hd0 12 _ _ _ _ _ hI hY_this hY_ld hY_ln hY_ax hY_ay hY_ah hs_ln hs_ax hs_ay hs_ah hsi_hills hA_ax hA_ay hA_ah hL hLn (lv_sub hl [0, 1, 2, 3, 4] rfl) (by first | assumption | omega) (fun i hi => absurd hi (by omega)) (by omega)
def z_Pgt : yP := fun D av Y H _ _ H' => ∀ (this ld ln hn hd : Nat) (y pr : Int32) (f lq fn fd : Nat → Int32), av = [.ref this, .ref ld, .int y, .int pr] → x_sl D 0 0 this H = some (.ref ln) → x_sl D 0 2 this H = some (.ref hn) → x_sl D 0 3 this H = some (.ref hd) → z_L D Y ld H f → z_Ln D ln H lq → y_A hn 100 H fn → y_A hd 100 H fd → y_A hn 100 H' (y_up fn pr.toInt.toNat (m_gg (m_gc lq f y) (fn pr.toInt.toNat) (f 1).toInt.toNat)) ∧ y_A hd 100 H' (y_up fd pr.toInt.toNat (m_gg (m_gd lq f y) (fd pr.toInt.toNat) (f 1).toInt.toNat))
theorem m_upA {b N P k i : Nat} {H : Heap} {f0 f1 : Nat → Int32} {c : Nat → Bool} (h1 : y_A b N H f1) (h0 : y_A b N H f0) (hP : P < N) (hi : i < N) : some (Value.int (y_up f0 P (m_gg c (f0 P) k) i)) = some (Value.int (y_up f1 P (m_gg c (f1 P) k) i)) := by
  unfold y_up
  rw [z_AR h1 h0 hP, z_AR h1 h0 hi]
theorem gst_Eyes_69 {p : Program} {l : Launch} {e : Env} {R : Room} {s : State} {m : MethodId} {args : Array Value} {below : List Frame} {meth : Method} {c : Code} {Q : State → Prop} {D : va_G} {U : State} {cc : ByteArray} {nL : Nat} {Y : xY} {H : Heap} {locs : List Loc} {cells slots pc : Nat} {ls : Array Slot} {rest : List Value} {sn q : Nat} {f : Nat → Int32} (X : x_cx p s m args c D U cc nL vwCl x_Tb x_Nb "TwinFires$Eyes") (hst : z_st D Y sn H f q) (hH : x_H D x_G x_Zs U Y H) (hd : decode cc pc = .ok (.getfield 69, 3)) (kk : W p l e R s m args below meth c H locs cells slots Q (F0 m (pc + 3) ls (.int (f (q + 1)) :: rest))) : W p l e R s m args below meth c H locs cells slots Q (F0 m pc ls (.ref sn :: rest)) := by
  obtain ⟨z, hz, hY, -, z4⟩ := hst
  simp only [z_Kd, List.mem_cons, List.not_mem_nil, or_false] at hz
  rcases hz with rfl | rfl | rfl | rfl | rfl | rfl
  · exact y_getf X (fl88 X.2.2.2.2.1) hH hY rfl (z4 1 (by decide)) hd kk
  · exact y_getf X (fl89 X.2.2.2.2.1) hH hY rfl (z4 1 (by decide)) hd kk
  · exact y_getf X (fl90 X.2.2.2.2.1) hH hY rfl (z4 1 (by decide)) hd kk
  · exact y_getf X (fl91 X.2.2.2.2.1) hH hY rfl (z4 1 (by decide)) hd kk
  · exact y_getf X (fl92 X.2.2.2.2.1) hH hY rfl (z4 1 (by decide)) hd kk
  · exact y_getf X (fl93 X.2.2.2.2.1) hH hY rfl (z4 1 (by decide)) hd kk
theorem gst_Eyes_73 {p : Program} {l : Launch} {e : Env} {R : Room} {s : State} {m : MethodId} {args : Array Value} {below : List Frame} {meth : Method} {c : Code} {Q : State → Prop} {D : va_G} {U : State} {cc : ByteArray} {nL : Nat} {Y : xY} {H : Heap} {locs : List Loc} {cells slots pc : Nat} {ls : Array Slot} {rest : List Value} {sn q : Nat} {f : Nat → Int32} (X : x_cx p s m args c D U cc nL vwCl x_Tb x_Nb "TwinFires$Eyes") (hst : z_st D Y sn H f q) (hH : x_H D x_G x_Zs U Y H) (hd : decode cc pc = .ok (.getfield 73, 3)) (kk : W p l e R s m args below meth c H locs cells slots Q (F0 m (pc + 3) ls (.int (f (q + 2)) :: rest))) : W p l e R s m args below meth c H locs cells slots Q (F0 m pc ls (.ref sn :: rest)) := by
  obtain ⟨z, hz, hY, -, z4⟩ := hst
  simp only [z_Kd, List.mem_cons, List.not_mem_nil, or_false] at hz
  rcases hz with rfl | rfl | rfl | rfl | rfl | rfl
  · exact y_getf X (fl94 X.2.2.2.2.1) hH hY rfl (z4 2 (by decide)) hd kk
  · exact y_getf X (fl95 X.2.2.2.2.1) hH hY rfl (z4 2 (by decide)) hd kk
  · exact y_getf X (fl96 X.2.2.2.2.1) hH hY rfl (z4 2 (by decide)) hd kk
  · exact y_getf X (fl97 X.2.2.2.2.1) hH hY rfl (z4 2 (by decide)) hd kk
  · exact y_getf X (fl98 X.2.2.2.2.1) hH hY rfl (z4 2 (by decide)) hd kk
  · exact y_getf X (fl99 X.2.2.2.2.1) hH hY rfl (z4 2 (by decide)) hd kk
theorem gtq_d0 : decode xM48.2.1 0 = .ok (.iconst 0, 1) := dz_ok (by decide +kernel)
theorem gtq_d1 : decode xM48.2.1 1 = .ok (.istore 4, 2) := dz_ok (by decide +kernel)
theorem gtq_d3 : decode xM48.2.1 3 = .ok (.iload 4, 2) := dz_ok (by decide +kernel)
theorem gtq_d5 : decode xM48.2.1 5 = .ok (.aload_n 1, 1) := dz_ok (by decide +kernel)
theorem gtq_d6 : decode xM48.2.1 6 = .ok (.getfield 62, 3) := dz_ok (by decide +kernel)
theorem gtq_d9 : decode xM48.2.1 9 = .ok (.if_icmp .ge 136, 3) := dz_ok (by decide +kernel)
theorem gtq_d12 : decode xM48.2.1 12 = .ok (.aload_n 1, 1) := dz_ok (by decide +kernel)
theorem gtq_d13 : decode xM48.2.1 13 = .ok (.getfield 65, 3) := dz_ok (by decide +kernel)
theorem gtq_d16 : decode xM48.2.1 16 = .ok (.iload 4, 2) := dz_ok (by decide +kernel)
theorem gtq_d18 : decode xM48.2.1 18 = .ok (.aaload, 1) := dz_ok (by decide +kernel)
theorem gtq_d19 : decode xM48.2.1 19 = .ok (.astore 5, 2) := dz_ok (by decide +kernel)
theorem gtq_d21 : decode xM48.2.1 21 = .ok (.aload_n 0, 1) := dz_ok (by decide +kernel)
theorem gtq_d22 : decode xM48.2.1 22 = .ok (.getfield 12, 3) := dz_ok (by decide +kernel)
theorem gtq_d25 : decode xM48.2.1 25 = .ok (.aload 5, 2) := dz_ok (by decide +kernel)
theorem gtq_d27 : decode xM48.2.1 27 = .ok (.getfield 69, 3) := dz_ok (by decide +kernel)
theorem gtq_d30 : decode xM48.2.1 30 = .ok (.aload 5, 2) := dz_ok (by decide +kernel)
theorem gtq_d32 : decode xM48.2.1 32 = .ok (.getfield 73, 3) := dz_ok (by decide +kernel)
theorem gtq_d35 : decode xM48.2.1 35 = .ok (.invokevirtual 51, 3) := dz_ok (by decide +kernel)
theorem gtq_d38 : decode xM48.2.1 38 = .ok (.ifCond .ne 6, 3) := dz_ok (by decide +kernel)
theorem gtq_d41 : decode xM48.2.1 41 = .ok (.goto 98, 3) := dz_ok (by decide +kernel)
theorem gtq_d44 : decode xM48.2.1 44 = .ok (.aload_n 0, 1) := dz_ok (by decide +kernel)
theorem gtq_d45 : decode xM48.2.1 45 = .ok (.getfield 12, 3) := dz_ok (by decide +kernel)
theorem gtq_d48 : decode xM48.2.1 48 = .ok (.aload 5, 2) := dz_ok (by decide +kernel)
theorem gtq_d50 : decode xM48.2.1 50 = .ok (.getfield 69, 3) := dz_ok (by decide +kernel)
theorem gtq_d53 : decode xM48.2.1 53 = .ok (.aload 5, 2) := dz_ok (by decide +kernel)
theorem gtq_d55 : decode xM48.2.1 55 = .ok (.getfield 73, 3) := dz_ok (by decide +kernel)
theorem gtq_d58 : decode xM48.2.1 58 = .ok (.aload 5, 2) := dz_ok (by decide +kernel)
theorem gtq_d60 : decode xM48.2.1 60 = .ok (.iload_n 2, 1) := dz_ok (by decide +kernel)
theorem gtq_d61 : decode xM48.2.1 61 = .ok (.aload_n 1, 1) := dz_ok (by decide +kernel)
theorem gtq_d62 : decode xM48.2.1 62 = .ok (.getfield 75, 3) := dz_ok (by decide +kernel)
theorem gtq_d65 : decode xM48.2.1 65 = .ok (.iload 4, 2) := dz_ok (by decide +kernel)
theorem gtq_d67 : decode xM48.2.1 67 = .ok (.iaload, 1) := dz_ok (by decide +kernel)
theorem gtq_d68 : decode xM48.2.1 68 = .ok (.iconst 1, 1) := dz_ok (by decide +kernel)
theorem gtq_d69 : decode xM48.2.1 69 = .ok (.if_icmp .ne 7, 3) := dz_ok (by decide +kernel)
theorem gtq_d72 : decode xM48.2.1 72 = .ok (.iconst 1, 1) := dz_ok (by decide +kernel)
theorem gtq_d73 : decode xM48.2.1 73 = .ok (.goto 4, 3) := dz_ok (by decide +kernel)
theorem gtq_d76 : decode xM48.2.1 76 = .ok (.iconst 0, 1) := dz_ok (by decide +kernel)
theorem gtq_d77 : decode xM48.2.1 77 = .ok (.invokevirtual 78, 3) := dz_ok (by decide +kernel)
theorem gtq_d80 : decode xM48.2.1 80 = .ok (.invokevirtual 58, 3) := dz_ok (by decide +kernel)
theorem gtq_d83 : decode xM48.2.1 83 = .ok (.ifCond .eq 16, 3) := dz_ok (by decide +kernel)
theorem gtq_d86 : decode xM48.2.1 86 = .ok (.aload_n 0, 1) := dz_ok (by decide +kernel)
theorem gtq_d87 : decode xM48.2.1 87 = .ok (.getfield 22, 3) := dz_ok (by decide +kernel)
theorem gtq_d90 : decode xM48.2.1 90 = .ok (.iload_n 3, 1) := dz_ok (by decide +kernel)
theorem gtq_d91 : decode xM48.2.1 91 = .ok (.dup2, 1) := dz_ok (by decide +kernel)
theorem gtq_d92 : decode xM48.2.1 92 = .ok (.iaload, 1) := dz_ok (by decide +kernel)
theorem gtq_d93 : decode xM48.2.1 93 = .ok (.iconst 1, 1) := dz_ok (by decide +kernel)
theorem gtq_d94 : decode xM48.2.1 94 = .ok (.iload 4, 2) := dz_ok (by decide +kernel)
theorem gtq_d96 : decode xM48.2.1 96 = .ok (.ishl, 1) := dz_ok (by decide +kernel)
theorem gtq_d97 : decode xM48.2.1 97 = .ok (.ior, 1) := dz_ok (by decide +kernel)
theorem gtq_d98 : decode xM48.2.1 98 = .ok (.iastore, 1) := dz_ok (by decide +kernel)
theorem gtq_d99 : decode xM48.2.1 99 = .ok (.aload_n 0, 1) := dz_ok (by decide +kernel)
theorem gtq_d100 : decode xM48.2.1 100 = .ok (.getfield 12, 3) := dz_ok (by decide +kernel)
theorem gtq_d103 : decode xM48.2.1 103 = .ok (.aload 5, 2) := dz_ok (by decide +kernel)
theorem gtq_d105 : decode xM48.2.1 105 = .ok (.getfield 69, 3) := dz_ok (by decide +kernel)
theorem gtq_d108 : decode xM48.2.1 108 = .ok (.aload 5, 2) := dz_ok (by decide +kernel)
theorem gtq_d110 : decode xM48.2.1 110 = .ok (.getfield 73, 3) := dz_ok (by decide +kernel)
theorem gtq_d113 : decode xM48.2.1 113 = .ok (.aload 5, 2) := dz_ok (by decide +kernel)
theorem gtq_d115 : decode xM48.2.1 115 = .ok (.iload_n 2, 1) := dz_ok (by decide +kernel)
theorem gtq_d116 : decode xM48.2.1 116 = .ok (.iconst 1, 1) := dz_ok (by decide +kernel)
theorem gtq_d117 : decode xM48.2.1 117 = .ok (.invokevirtual 78, 3) := dz_ok (by decide +kernel)
theorem gtq_d120 : decode xM48.2.1 120 = .ok (.invokevirtual 58, 3) := dz_ok (by decide +kernel)
theorem gtq_d123 : decode xM48.2.1 123 = .ok (.ifCond .eq 16, 3) := dz_ok (by decide +kernel)
theorem gtq_d126 : decode xM48.2.1 126 = .ok (.aload_n 0, 1) := dz_ok (by decide +kernel)
theorem gtq_d127 : decode xM48.2.1 127 = .ok (.getfield 25, 3) := dz_ok (by decide +kernel)
theorem gtq_d130 : decode xM48.2.1 130 = .ok (.iload_n 3, 1) := dz_ok (by decide +kernel)
theorem gtq_d131 : decode xM48.2.1 131 = .ok (.dup2, 1) := dz_ok (by decide +kernel)
theorem gtq_d132 : decode xM48.2.1 132 = .ok (.iaload, 1) := dz_ok (by decide +kernel)
theorem gtq_d133 : decode xM48.2.1 133 = .ok (.iconst 1, 1) := dz_ok (by decide +kernel)
theorem gtq_d134 : decode xM48.2.1 134 = .ok (.iload 4, 2) := dz_ok (by decide +kernel)
theorem gtq_d136 : decode xM48.2.1 136 = .ok (.ishl, 1) := dz_ok (by decide +kernel)
theorem gtq_d137 : decode xM48.2.1 137 = .ok (.ior, 1) := dz_ok (by decide +kernel)
theorem gtq_d138 : decode xM48.2.1 138 = .ok (.iastore, 1) := dz_ok (by decide +kernel)
theorem gtq_d139 : decode xM48.2.1 139 = .ok (.iinc 4 1, 3) := dz_ok (by decide +kernel)
theorem gtq_d142 : decode xM48.2.1 142 = .ok (.goto (-139), 3) := dz_ok (by decide +kernel)
theorem gtq_d145 : decode xM48.2.1 145 = .ok (.return_, 1) := dz_ok (by decide +kernel)
theorem gtq_L3 {p : Program} {l : Launch} {e : Env} {s : State} {m : MethodId} {below : List Frame} {meth : Method} {c : Code} {D : va_G} {U : State} {Y0 : xY} {av : List Value} (B : y_B vwCl x_Tb x_Nb xM48 p s m meth c D U Y0 av) {this ld ln hn hd astones ad : Nat} {y pr : Int32} {f lq fn0 fd0 : Nat → Int32} (hav : av = [.ref this, .ref ld, .int y, .int pr]) (hs0 : x_sl D 0 0 this s.heap = some (.ref ln)) (hs2 : x_sl D 0 2 this s.heap = some (.ref hn)) (hs3 : x_sl D 0 3 this s.heap = some (.ref hd)) (hL0 : z_L D Y0 ld s.heap f) (hLn0 : z_Ln D ln s.heap lq) (hAn0 : y_A hn 100 s.heap fn0) (hAd0 : y_A hd 100 s.heap fd0) (hd1 : 0 ≤ (f 1).toInt ∧ (f 1).toInt ≤ 8) (hpr : 0 ≤ pr.toInt ∧ pr.toInt ≤ 99)  :
    ∀ (n : Nat), ∀ (H : Heap) (Y : xY) (locs : List Loc) (ls : Array Slot) (j : Int32) (fn fd : Nat → Int32), x_I D x_G x_Zs U (x_efs xM48) Y0 s.heap Y H locs → Y this = some 6 → Y ld = some 2 → Y ln = some 10 → Y hn = some 33 → Y hd = some 34 → Y astones = some 24 → Y ad = some 25 → x_sl D 0 0 this H = some (.ref ln) → x_sl D 0 2 this H = some (.ref hn) → x_sl D 0 3 this H = some (.ref hd) → x_sl D 2 7 ld H = some (.ref astones) → x_sl D 2 8 ld H = some (.ref ad) → x_sl D 2 6 ld H = some (.int (f 1)) → y_A ad 8 H (fun j => f (65 + 7 * j)) → y_A hn 100 H fn → y_A hd 100 H fd → z_L D Y ld H f → z_Ln D ln H lq → lv_has ls xM48.2.2.1 [(4, .int j), (0, .ref this), (1, .ref ld), (2, .int y), (3, .int pr)] → (0 ≤ j.toInt ∧ j.toInt ≤ (f 1).toInt) → (fn = y_up fn0 pr.toInt.toNat (m_gg (m_gc lq f y) (fn0 pr.toInt.toNat) j.toInt.toNat)) → (fd = y_up fd0 pr.toInt.toNat (m_gg (m_gd lq f y) (fd0 pr.toInt.toNat) j.toInt.toNat)) → (9 - j.toInt).toNat < n → W p l e (x_rm xM48) s m av.toArray below meth c H locs 0 0 (y_QQ below D x_G x_Zs U xM48 z_Pgt av Y0 s) (F0 m 3 ls []) := by
  have X := B.1
  have hx := X.1
  have hb := X.2.1
  have hY0 := B.2.2.2.2.1
  intro n
  induction n with
  | zero => intro _ _ _ _ _ _ _ _ _ _ _ _ _ _ _ _ _ _ _ _ _ _ _ _ _ _ _ _ _ _ h; exact absurd h (Nat.not_lt_zero _)
  | succ n ih =>
    intro H Y locs ls j fn fd hI hY_this hY_ld hY_ln hY_hn hY_hd hY_astones hY_ad hs_ln hs_hn hs_hd hs_astones hs_ad hsi_things hA_ad hA_hn hA_hd hL hLn hl hj hfn hfd hn
    refine lv_iload hx hb gtq_d3 (lv_at hl 0 rfl) ?_
    refine lv_aload_n hx hb gtq_d5 rfl (lv_at hl 2 rfl) ?_
    refine y_getf X (fl86 X.2.2.2.2.1) hI.1 hY_ld rfl hsi_things gtq_d6 ?_
    refine lv_icmp_ge hx hb gtq_d9 (tgt := 145) (by decide) (fun q9 => ?_) (fun q9 => ?_)
    · have q9_ : (f 1).toInt ≤ j.toInt := x_le32.mp q9
      have e9 : j.toInt = (f 1).toInt := by omega
      rw [e9] at hfn hfd
      subst hfn hfd
      subst hav
      exact y_return B hI rfl rfl List.mem_cons_self rfl (x_cs.mono B.2.2.2.2.2 (y_mon B hI)) (fun t' d' n' hn' hd' y' p' f' l' fn' fd' h1 h2 h3 h4 h5 h6 h7 h8 => by cases h1; cases h2.symm.trans hs0; cases h3.symm.trans hs2; cases h4.symm.trans hs3; cases h5.uniq hL0; cases h6.uniq hLn0; exact ⟨fun i hi => by rw [hA_hn i hi, m_upA h7 hAn0 (by omega) hi], fun i hi => by rw [hA_hd i hi, m_upA h8 hAd0 (by omega) hi]⟩) (Nat.le_refl _) (Nat.le_refl _) gtq_d145
    · have q9_ : j.toInt < (f 1).toInt := Int.not_le.mp fun q => q9 (x_le32.mpr q)
      refine lv_aload_n hx hb gtq_d12 rfl (lv_at hl 2 rfl) ?_
      refine y_getf X (fl87 X.2.2.2.2.1) hI.1 hY_ld rfl hs_astones gtq_d13 ?_
      refine lv_iload hx hb gtq_d16 (lv_at hl 0 rfl) ?_
      obtain ⟨as9, e1, -, h3⟩ := hL.2.2.1
      cases e1.symm.trans hs_astones
      obtain ⟨sn, hat9, hst9⟩ := h3 j.toInt.toNat (by omega)
      refine y_aald X hI.1 hY_astones rfl (by omega) (by show _ < (8 : Int); omega) hat9 gtq_d18 ?_
      clear hat9 h3 e1
      refine lv_astore hx hb gtq_d19 hl (by decide) (lv' := [(5, .ref sn), (4, .int j), (0, .ref this), (1, .ref ld), (2, .int y), (3, .int pr)]) rfl fun ls hl => ?_
      refine lv_aload_n hx hb gtq_d21 rfl (lv_at hl 2 rfl) ?_
      refine y_getf X (fl79 X.2.2.2.2.1) hI.1 hY_this rfl hs_ln gtq_d22 ?_
      refine lv_aload hx hb gtq_d25 (lv_at hl 0 rfl) ?_
      refine gst_Eyes_69 X hst9 hI.1 gtq_d27 ?_
      obtain ⟨e27, hg_e27⟩ : ∃ e27 : Int32, f (60 + 7 * j.toInt.toNat + 1) = e27 := ⟨_, rfl⟩
      rw [hg_e27]
      refine lv_aload hx hb gtq_d30 (lv_at hl 0 rfl) ?_
      refine gst_Eyes_73 X hst9 hI.1 gtq_d32 ?_
      obtain ⟨e32, hg_e32⟩ : ∃ e32 : Int32, f (60 + 7 * j.toInt.toNat + 2) = e32 := ⟨_, rfl⟩
      rw [hg_e32]
      refine y_call (z := (0, 51, 3, some 10, xM44)) (av := [.ref ln, .int e27, .int e32]) (rest := []) (y_cokV (n := 2) (ci := 3) X ym_meets rfl rfl rfl (x_cons (x_bw31 2 rfl rfl) (x_cons (x_bw31 3 rfl rfl) (x_cons (x_bw31 4 rfl rfl) (x_cons (x_bw0 7 rfl rfl) x_nilm)))) (x_bw31 5 rfl rfl) (by decide +kernel) ⟨Nat.le_of_ble_eq_true rfl, Nat.le_of_ble_eq_true rfl⟩) hY0 hI rfl gtq_d35 hl.1 (Nat.le_of_ble_eq_true rfl) (Nat.le_of_ble_eq_true rfl) (Nat.le_of_ble_eq_true rfl) (y_cons (y_cref hY_ln rfl) (y_cons ⟨_, rfl, x_i32 _⟩ (y_cons ⟨_, rfl, x_i32 _⟩ y_nil))) rfl (y_recv rfl hY_ln) trivial (y_sub_ef rfl) fun v Yn o Hn L ho hr ha hIn hx_ hE hP => ?_
      have hPl := hP _ _ _ _ rfl hLn
      obtain rfl := hPl
      replace hs_ln := y_Efld hE hY_this rfl (by decide) (by decide) hs_ln
      replace hs_hn := y_Efld hE hY_this rfl (by decide) (by decide) hs_hn
      replace hs_hd := y_Efld hE hY_this rfl (by decide) (by decide) hs_hd
      replace hs_astones := y_Efld hE hY_ld rfl (by decide) (by decide) hs_astones
      replace hs_ad := y_Efld hE hY_ld rfl (by decide) (by decide) hs_ad
      replace hsi_things := y_Efld hE hY_ld rfl (by decide) (by decide) hsi_things
      replace hA_ad := hA_ad.kept (y_Earr hE hY_ad rfl (by decide))
      replace hA_hn := hA_hn.kept (y_Earr hE hY_hn rfl (by decide))
      replace hA_hd := hA_hd.kept (y_Earr hE hY_hd rfl (by decide))
      replace hL := hL.E hY_ld hE (fun q u h => y_ext hx_ hI.1 h) (by decide +kernel)
      replace hLn := hLn.E hY_ln hE (by decide)
      replace hst9 := hst9.E hE (fun q u h => y_ext hx_ hI.1 h) (by decide +kernel)
      replace hY_this := y_ext hx_ hI.1 hY_this
      replace hY_ld := y_ext hx_ hI.1 hY_ld
      replace hY_ln := y_ext hx_ hI.1 hY_ln
      replace hY_hn := y_ext hx_ hI.1 hY_hn
      replace hY_hd := y_ext hx_ hI.1 hY_hd
      replace hY_astones := y_ext hx_ hI.1 hY_astones
      replace hY_ad := y_ext hx_ hI.1 hY_ad
      generalize hg_r35 : m_b (m_mt lq e27 e32) = r35
      clear ho hr ha hE hP hI hx_
      rename x_I _ _ _ _ _ _ _ _ _ _ => hI
      have ec0 : (0 : Int32).toInt = 0 := by decide
      refine lv_if_ne hx hb gtq_d38 (tgt := 44) (by decide) (fun q38 => ?_) (fun q38 => ?_)
      · have q38_ : ¬ r35.toInt = (0 : Int32).toInt := fun q => q38 (Int32.toInt_inj.mp q)
        have hmt := m_bn (fun q => q38 (hg_r35.symm.trans q))
        refine lv_aload_n hx hb gtq_d44 rfl (lv_at hl 2 rfl) ?_
        refine y_getf X (fl79 X.2.2.2.2.1) hI.1 hY_this rfl hs_ln gtq_d45 ?_
        refine lv_aload hx hb gtq_d48 (lv_at hl 0 rfl) ?_
        refine gst_Eyes_69 X hst9 hI.1 gtq_d50 ?_
        obtain ⟨e50, hg_e50⟩ : ∃ e50 : Int32, f (60 + 7 * j.toInt.toNat + 1) = e50 := ⟨_, rfl⟩
        rw [hg_e50]
        refine lv_aload hx hb gtq_d53 (lv_at hl 0 rfl) ?_
        refine gst_Eyes_73 X hst9 hI.1 gtq_d55 ?_
        obtain ⟨e55, hg_e55⟩ : ∃ e55 : Int32, f (60 + 7 * j.toInt.toNat + 2) = e55 := ⟨_, rfl⟩
        rw [hg_e55]
        refine lv_aload hx hb gtq_d58 (lv_at hl 0 rfl) ?_
        refine lv_iload_n hx hb gtq_d60 rfl (lv_at hl 4 rfl) ?_
        refine lv_aload_n hx hb gtq_d61 rfl (lv_at hl 3 rfl) ?_
        refine y_getf X (fl100 X.2.2.2.2.1) hI.1 hY_ld rfl hs_ad gtq_d62 ?_
        refine lv_iload hx hb gtq_d65 (lv_at hl 1 rfl) ?_
        refine y_iald X hI.1 hY_ad rfl hA_ad (by omega) (by show _ < (8 : Int); omega) gtq_d67 ?_
        obtain ⟨e67, hg_e67⟩ : ∃ e67 : Int32, f (65 + 7 * j.toInt.toNat) = e67 := ⟨_, rfl⟩
        rw [hg_e67]
        refine lv_iconst hx hb gtq_d68 (v := 1) (by decide) ?_
        have ec1 : (1 : Int32).toInt = 1 := by decide
        refine lv_icmp_ne hx hb gtq_d69 (tgt := 76) (by decide) (fun q69 => ?_) (fun q69 => ?_)
        · have q69_ : ¬ e67.toInt = (1 : Int32).toInt := fun q => q69 (Int32.toInt_inj.mp q)
          refine lv_iconst hx hb gtq_d76 (v := 0) (by decide) ?_
          refine y_stands X ⟨Nat.le_of_ble_eq_true rfl, Nat.le_of_ble_eq_true rfl⟩ hst9 (by first | decide | omega) hY0 hI gtq_d77 hl.1 (Nat.le_of_ble_eq_true rfl) (Nat.le_of_ble_eq_true rfl) (Nat.le_of_ble_eq_true rfl) fun Yn Hn L hIn hx_ hE => ?_
          replace hs_ln := y_Efld hE hY_this rfl (by decide) (by decide) hs_ln
          replace hs_hn := y_Efld hE hY_this rfl (by decide) (by decide) hs_hn
          replace hs_hd := y_Efld hE hY_this rfl (by decide) (by decide) hs_hd
          replace hs_astones := y_Efld hE hY_ld rfl (by decide) (by decide) hs_astones
          replace hs_ad := y_Efld hE hY_ld rfl (by decide) (by decide) hs_ad
          replace hsi_things := y_Efld hE hY_ld rfl (by decide) (by decide) hsi_things
          replace hA_ad := hA_ad.kept (y_Earr hE hY_ad rfl (by decide))
          replace hA_hn := hA_hn.kept (y_Earr hE hY_hn rfl (by decide))
          replace hA_hd := hA_hd.kept (y_Earr hE hY_hd rfl (by decide))
          replace hL := hL.E hY_ld hE (fun q u h => y_ext hx_ hI.1 h) (by decide +kernel)
          replace hLn := hLn.E hY_ln hE (by decide)
          replace hst9 := hst9.E hE (fun q u h => y_ext hx_ hI.1 h) (by decide +kernel)
          replace hY_this := y_ext hx_ hI.1 hY_this
          replace hY_ld := y_ext hx_ hI.1 hY_ld
          replace hY_ln := y_ext hx_ hI.1 hY_ln
          replace hY_hn := y_ext hx_ hI.1 hY_hn
          replace hY_hd := y_ext hx_ hI.1 hY_hd
          replace hY_astones := y_ext hx_ hI.1 hY_astones
          replace hY_ad := y_ext hx_ hI.1 hY_ad
          clear hE hI hx_
          rename x_I _ _ _ _ _ _ _ _ _ _ => hI
          obtain ⟨r77, hg_r77⟩ : ∃ r77 : Int32, m_stn f (60 + 7 * j.toInt.toNat) y (0 : Int32) = r77 := ⟨_, rfl⟩
          rw [hg_r77]
          refine y_call (z := (0, 58, 4, some 10, xM46)) (av := [.ref ln, .int e50, .int e55, .int r77]) (rest := []) (y_cokV (n := 3) (ci := 3) X ym_isHidden rfl rfl rfl (x_cons (x_bw31 14 rfl rfl) (x_cons (x_bw31 15 rfl rfl) (x_cons (x_bw32 0 rfl rfl) (x_cons (x_bw0 7 rfl rfl) x_nilm)))) (x_bw32 1 rfl rfl) (by decide +kernel) ⟨Nat.le_of_ble_eq_true rfl, Nat.le_of_ble_eq_true rfl⟩) hY0 hI rfl gtq_d80 hl.1 (Nat.le_of_ble_eq_true rfl) (Nat.le_of_ble_eq_true rfl) (Nat.le_of_ble_eq_true rfl) (y_cons (y_cref hY_ln rfl) (y_cons ⟨_, rfl, x_i32 _⟩ (y_cons ⟨_, rfl, x_i32 _⟩ (y_cons ⟨_, rfl, x_i32 _⟩ y_nil)))) rfl (y_recv rfl hY_ln) trivial (y_sub_ef rfl) fun v Yn o Hn L ho hr ha hIn hx_ hE hP => ?_
          have hPl := hP _ _ _ _ _ rfl hLn
          obtain rfl := hPl
          replace hs_ln := y_Efld hE hY_this rfl (by decide) (by decide) hs_ln
          replace hs_hn := y_Efld hE hY_this rfl (by decide) (by decide) hs_hn
          replace hs_hd := y_Efld hE hY_this rfl (by decide) (by decide) hs_hd
          replace hs_astones := y_Efld hE hY_ld rfl (by decide) (by decide) hs_astones
          replace hs_ad := y_Efld hE hY_ld rfl (by decide) (by decide) hs_ad
          replace hsi_things := y_Efld hE hY_ld rfl (by decide) (by decide) hsi_things
          replace hA_ad := hA_ad.kept (y_Earr hE hY_ad rfl (by decide))
          replace hA_hn := hA_hn.kept (y_Earr hE hY_hn rfl (by decide))
          replace hA_hd := hA_hd.kept (y_Earr hE hY_hd rfl (by decide))
          replace hL := hL.E hY_ld hE (fun q u h => y_ext hx_ hI.1 h) (by decide +kernel)
          replace hLn := hLn.E hY_ln hE (by decide)
          replace hst9 := hst9.E hE (fun q u h => y_ext hx_ hI.1 h) (by decide +kernel)
          replace hY_this := y_ext hx_ hI.1 hY_this
          replace hY_ld := y_ext hx_ hI.1 hY_ld
          replace hY_ln := y_ext hx_ hI.1 hY_ln
          replace hY_hn := y_ext hx_ hI.1 hY_hn
          replace hY_hd := y_ext hx_ hI.1 hY_hd
          replace hY_astones := y_ext hx_ hI.1 hY_astones
          replace hY_ad := y_ext hx_ hI.1 hY_ad
          generalize hg_r80 : m_b (m_hd lq e50 e55 r77) = r80
          clear ho hr ha hE hP hI hx_
          rename x_I _ _ _ _ _ _ _ _ _ _ => hI
          refine lv_if_eq hx hb gtq_d83 (tgt := 99) (by decide) (fun q83 => ?_) (fun q83 => ?_)
          · have q83_ : r80.toInt = (0 : Int32).toInt := by rw [q83]
            have hnw := m_b0 (hg_r80.trans q83)
            refine lv_aload_n hx hb gtq_d99 rfl (lv_at hl 2 rfl) ?_
            refine y_getf X (fl79 X.2.2.2.2.1) hI.1 hY_this rfl hs_ln gtq_d100 ?_
            refine lv_aload hx hb gtq_d103 (lv_at hl 0 rfl) ?_
            refine gst_Eyes_69 X hst9 hI.1 gtq_d105 ?_
            obtain ⟨e105, hg_e105⟩ : ∃ e105 : Int32, f (60 + 7 * j.toInt.toNat + 1) = e105 := ⟨_, rfl⟩
            rw [hg_e105]
            refine lv_aload hx hb gtq_d108 (lv_at hl 0 rfl) ?_
            refine gst_Eyes_73 X hst9 hI.1 gtq_d110 ?_
            obtain ⟨e110, hg_e110⟩ : ∃ e110 : Int32, f (60 + 7 * j.toInt.toNat + 2) = e110 := ⟨_, rfl⟩
            rw [hg_e110]
            refine lv_aload hx hb gtq_d113 (lv_at hl 0 rfl) ?_
            refine lv_iload_n hx hb gtq_d115 rfl (lv_at hl 4 rfl) ?_
            refine lv_iconst hx hb gtq_d116 (v := 1) (by decide) ?_
            refine y_stands X ⟨Nat.le_of_ble_eq_true rfl, Nat.le_of_ble_eq_true rfl⟩ hst9 (by first | decide | omega) hY0 hI gtq_d117 hl.1 (Nat.le_of_ble_eq_true rfl) (Nat.le_of_ble_eq_true rfl) (Nat.le_of_ble_eq_true rfl) fun Yn Hn L hIn hx_ hE => ?_
            replace hs_ln := y_Efld hE hY_this rfl (by decide) (by decide) hs_ln
            replace hs_hn := y_Efld hE hY_this rfl (by decide) (by decide) hs_hn
            replace hs_hd := y_Efld hE hY_this rfl (by decide) (by decide) hs_hd
            replace hs_astones := y_Efld hE hY_ld rfl (by decide) (by decide) hs_astones
            replace hs_ad := y_Efld hE hY_ld rfl (by decide) (by decide) hs_ad
            replace hsi_things := y_Efld hE hY_ld rfl (by decide) (by decide) hsi_things
            replace hA_ad := hA_ad.kept (y_Earr hE hY_ad rfl (by decide))
            replace hA_hn := hA_hn.kept (y_Earr hE hY_hn rfl (by decide))
            replace hA_hd := hA_hd.kept (y_Earr hE hY_hd rfl (by decide))
            replace hL := hL.E hY_ld hE (fun q u h => y_ext hx_ hI.1 h) (by decide +kernel)
            replace hLn := hLn.E hY_ln hE (by decide)
            replace hst9 := hst9.E hE (fun q u h => y_ext hx_ hI.1 h) (by decide +kernel)
            replace hY_this := y_ext hx_ hI.1 hY_this
            replace hY_ld := y_ext hx_ hI.1 hY_ld
            replace hY_ln := y_ext hx_ hI.1 hY_ln
            replace hY_hn := y_ext hx_ hI.1 hY_hn
            replace hY_hd := y_ext hx_ hI.1 hY_hd
            replace hY_astones := y_ext hx_ hI.1 hY_astones
            replace hY_ad := y_ext hx_ hI.1 hY_ad
            clear hE hI hx_
            rename x_I _ _ _ _ _ _ _ _ _ _ => hI
            obtain ⟨r117, hg_r117⟩ : ∃ r117 : Int32, m_stn f (60 + 7 * j.toInt.toNat) y (1 : Int32) = r117 := ⟨_, rfl⟩
            rw [hg_r117]
            refine y_call (z := (0, 58, 4, some 10, xM46)) (av := [.ref ln, .int e105, .int e110, .int r117]) (rest := []) (y_cokV (n := 3) (ci := 3) X ym_isHidden rfl rfl rfl (x_cons (x_bw31 14 rfl rfl) (x_cons (x_bw31 15 rfl rfl) (x_cons (x_bw32 0 rfl rfl) (x_cons (x_bw0 7 rfl rfl) x_nilm)))) (x_bw32 1 rfl rfl) (by decide +kernel) ⟨Nat.le_of_ble_eq_true rfl, Nat.le_of_ble_eq_true rfl⟩) hY0 hI rfl gtq_d120 hl.1 (Nat.le_of_ble_eq_true rfl) (Nat.le_of_ble_eq_true rfl) (Nat.le_of_ble_eq_true rfl) (y_cons (y_cref hY_ln rfl) (y_cons ⟨_, rfl, x_i32 _⟩ (y_cons ⟨_, rfl, x_i32 _⟩ (y_cons ⟨_, rfl, x_i32 _⟩ y_nil)))) rfl (y_recv rfl hY_ln) trivial (y_sub_ef rfl) fun v Yn o Hn L ho hr ha hIn hx_ hE hP => ?_
            have hPl := hP _ _ _ _ _ rfl hLn
            obtain rfl := hPl
            replace hs_ln := y_Efld hE hY_this rfl (by decide) (by decide) hs_ln
            replace hs_hn := y_Efld hE hY_this rfl (by decide) (by decide) hs_hn
            replace hs_hd := y_Efld hE hY_this rfl (by decide) (by decide) hs_hd
            replace hs_astones := y_Efld hE hY_ld rfl (by decide) (by decide) hs_astones
            replace hs_ad := y_Efld hE hY_ld rfl (by decide) (by decide) hs_ad
            replace hsi_things := y_Efld hE hY_ld rfl (by decide) (by decide) hsi_things
            replace hA_ad := hA_ad.kept (y_Earr hE hY_ad rfl (by decide))
            replace hA_hn := hA_hn.kept (y_Earr hE hY_hn rfl (by decide))
            replace hA_hd := hA_hd.kept (y_Earr hE hY_hd rfl (by decide))
            replace hL := hL.E hY_ld hE (fun q u h => y_ext hx_ hI.1 h) (by decide +kernel)
            replace hLn := hLn.E hY_ln hE (by decide)
            replace hst9 := hst9.E hE (fun q u h => y_ext hx_ hI.1 h) (by decide +kernel)
            replace hY_this := y_ext hx_ hI.1 hY_this
            replace hY_ld := y_ext hx_ hI.1 hY_ld
            replace hY_ln := y_ext hx_ hI.1 hY_ln
            replace hY_hn := y_ext hx_ hI.1 hY_hn
            replace hY_hd := y_ext hx_ hI.1 hY_hd
            replace hY_astones := y_ext hx_ hI.1 hY_astones
            replace hY_ad := y_ext hx_ hI.1 hY_ad
            generalize hg_r120 : m_b (m_hd lq e105 e110 r117) = r120
            clear ho hr ha hE hP hI hx_
            rename x_I _ _ _ _ _ _ _ _ _ _ => hI
            refine lv_if_eq hx hb gtq_d123 (tgt := 139) (by decide) (fun q123 => ?_) (fun q123 => ?_)
            · have q123_ : r120.toInt = (0 : Int32).toInt := by rw [q123]
              have hdn := m_b0 (hg_r120.trans q123)
              obtain ⟨z139, hg_z139⟩ : ∃ z139 : Int32, j + Int32.ofInt 1 = z139 := ⟨_, rfl⟩
              have h_z139 : z139.toInt = j.toInt + 1 := by rw [← hg_z139]; exact y_inc (by decide) (by omega) (by omega)
              refine lv_iinc hx hb gtq_d139 hl (k := 1) rfl hg_z139 (by decide) (lv' := [(4, .int z139), (5, .ref sn), (0, .ref this), (1, .ref ld), (2, .int y), (3, .int pr)]) rfl fun ls hl => ?_
              refine lv_goto hx hb gtq_d142 (tgt := 3) (by decide) ?_
              have hnj := m_nj hj.1
              have his : z139.toInt.toNat = j.toInt.toNat + 1 := by omega
              have hcN : m_gc lq f y j.toInt.toNat = false := by unfold m_gc; rw [show 61 + 7 * j.toInt.toNat = 60 + 7 * j.toInt.toNat + 1 by omega, show 62 + 7 * j.toInt.toNat = 60 + 7 * j.toInt.toNat + 2 by omega, hg_e27, hg_e32, hmt, Bool.true_and]; first | (rw [if_pos (hg_e67.trans q69), hg_r77, ← hg_e27, ← hg_e32, hg_e50, hg_e55]; exact hnw) | (rw [if_neg (fun q9 => q69 (hg_e67.symm.trans q9)), hg_r77, ← hg_e27, ← hg_e32, hg_e50, hg_e55]; exact hnw)
              have hcD : m_gd lq f y j.toInt.toNat = false := by unfold m_gd; rw [show 61 + 7 * j.toInt.toNat = 60 + 7 * j.toInt.toNat + 1 by omega, show 62 + 7 * j.toInt.toNat = 60 + 7 * j.toInt.toNat + 2 by omega, hg_e27, hg_e32, hmt, Bool.true_and, hg_r117, ← hg_e27, ← hg_e32, hg_e105, hg_e110]; exact hdn
              exact ih _ _ _ _ _ _ _ hI hY_this hY_ld hY_ln hY_hn hY_hd hY_astones hY_ad hs_ln hs_hn hs_hd hs_astones hs_ad hsi_things hA_ad hA_hn hA_hd hL hLn (lv_sub hl [0, 2, 3, 4, 5] rfl) (by first | assumption | omega) (by rw [his, m_gg_F hcN]; exact hfn) (by rw [his, m_gg_F hcD]; exact hfd) (by omega)
            · have q123_ : ¬ r120.toInt = (0 : Int32).toInt := fun q => q123 (Int32.toInt_inj.mp q)
              have hdn := m_bn (fun q => q123 (hg_r120.symm.trans q))
              refine lv_aload_n hx hb gtq_d126 rfl (lv_at hl 2 rfl) ?_
              refine y_getf X (fl85 X.2.2.2.2.1) hI.1 hY_this rfl hs_hd gtq_d127 ?_
              refine lv_iload_n hx hb gtq_d130 rfl (lv_at hl 5 rfl) ?_
              refine lv_dup2_11 hx hb gtq_d131 rfl rfl ?_
              refine y_iald X hI.1 hY_hd rfl hA_hd (by omega) (by show _ < (100 : Int); omega) gtq_d132 ?_
              obtain ⟨e132, hg_e132⟩ : ∃ e132 : Int32, fd pr.toInt.toNat = e132 := ⟨_, rfl⟩
              rw [hg_e132]
              refine lv_iconst hx hb gtq_d133 (v := 1) (by decide) ?_
              refine lv_iload hx hb gtq_d134 (lv_at hl 1 rfl) ?_
              refine lv_ishl hx hb gtq_d136 ?_
              generalize hg_z136 : (1 : Int32) <<< (j &&& 31) = z136
              refine lv_ior hx hb gtq_d137 ?_
              generalize hg_z137 : e132 ||| z136 = z137
              refine y_iast X hY0 hI hY_hd rfl hA_hd (by omega) (by show _ < (100 : Int); omega) ⟨_, rfl, x_i32 _⟩ (by decide +kernel) gtq_d138 fun H locs hI h_new ho => ?_
              replace hA_hd := h_new
              generalize hf_f138 : y_up fd pr.toInt.toNat z137 = f138 at hA_hd
              replace hs_ln := y_slk hs_ln (ho _ (y_ne hY_this hY_hd rfl))
              replace hs_hn := y_slk hs_hn (ho _ (y_ne hY_this hY_hd rfl))
              replace hs_hd := y_slk hs_hd (ho _ (y_ne hY_this hY_hd rfl))
              replace hs_astones := y_slk hs_astones (ho _ (y_ne hY_ld hY_hd rfl))
              replace hs_ad := y_slk hs_ad (ho _ (y_ne hY_ld hY_hd rfl))
              replace hsi_things := y_slk hsi_things (ho _ (y_ne hY_ld hY_hd rfl))
              replace hA_ad := hA_ad.kept (ho _ (y_ne hY_ad hY_hd rfl))
              replace hA_hn := hA_hn.kept (ho _ (y_ne hY_hn hY_hd rfl))
              replace hL := hL.wr hY_ld hY_hd (by decide) ho
              replace hLn := hLn.kept (fun k _ => y_slk rfl (ho _ (y_ne hY_ln hY_hd rfl)))
              replace hst9 := hst9.wr hY_hd (by decide) ho
              obtain ⟨z139, hg_z139⟩ : ∃ z139 : Int32, j + Int32.ofInt 1 = z139 := ⟨_, rfl⟩
              have h_z139 : z139.toInt = j.toInt + 1 := by rw [← hg_z139]; exact y_inc (by decide) (by omega) (by omega)
              refine lv_iinc hx hb gtq_d139 hl (k := 1) rfl hg_z139 (by decide) (lv' := [(4, .int z139), (5, .ref sn), (0, .ref this), (1, .ref ld), (2, .int y), (3, .int pr)]) rfl fun ls hl => ?_
              refine lv_goto hx hb gtq_d142 (tgt := 3) (by decide) ?_
              have hnj := m_nj hj.1
              have his : z139.toInt.toNat = j.toInt.toNat + 1 := by omega
              have hcN : m_gc lq f y j.toInt.toNat = false := by unfold m_gc; rw [show 61 + 7 * j.toInt.toNat = 60 + 7 * j.toInt.toNat + 1 by omega, show 62 + 7 * j.toInt.toNat = 60 + 7 * j.toInt.toNat + 2 by omega, hg_e27, hg_e32, hmt, Bool.true_and]; first | (rw [if_pos (hg_e67.trans q69), hg_r77, ← hg_e27, ← hg_e32, hg_e50, hg_e55]; exact hnw) | (rw [if_neg (fun q9 => q69 (hg_e67.symm.trans q9)), hg_r77, ← hg_e27, ← hg_e32, hg_e50, hg_e55]; exact hnw)
              have hcD : m_gd lq f y j.toInt.toNat = true := by unfold m_gd; rw [show 61 + 7 * j.toInt.toNat = 60 + 7 * j.toInt.toNat + 1 by omega, show 62 + 7 * j.toInt.toNat = 60 + 7 * j.toInt.toNat + 2 by omega, hg_e27, hg_e32, hmt, Bool.true_and, hg_r117, ← hg_e27, ← hg_e32, hg_e105, hg_e110]; exact hdn
              exact ih _ _ _ _ _ _ _ hI hY_this hY_ld hY_ln hY_hn hY_hd hY_astones hY_ad hs_ln hs_hn hs_hd hs_astones hs_ad hsi_things hA_ad hA_hn hA_hd hL hLn (lv_sub hl [0, 2, 3, 4, 5] rfl) (by first | assumption | omega) (by rw [his, m_gg_F hcN]; exact hfn) (by rw [his, m_gg_T hcD, hnj, ← hf_f138, hfd, y_up_up]; refine congrArg _ ?_; rw [← hg_z137, ← hg_z136, ← hg_e132, hfd, y_up_at]; rfl) (by omega)
          · have q83_ : ¬ r80.toInt = (0 : Int32).toInt := fun q => q83 (Int32.toInt_inj.mp q)
            have hnw := m_bn (fun q => q83 (hg_r80.symm.trans q))
            refine lv_aload_n hx hb gtq_d86 rfl (lv_at hl 2 rfl) ?_
            refine y_getf X (fl84 X.2.2.2.2.1) hI.1 hY_this rfl hs_hn gtq_d87 ?_
            refine lv_iload_n hx hb gtq_d90 rfl (lv_at hl 5 rfl) ?_
            refine lv_dup2_11 hx hb gtq_d91 rfl rfl ?_
            refine y_iald X hI.1 hY_hn rfl hA_hn (by omega) (by show _ < (100 : Int); omega) gtq_d92 ?_
            obtain ⟨e92, hg_e92⟩ : ∃ e92 : Int32, fn pr.toInt.toNat = e92 := ⟨_, rfl⟩
            rw [hg_e92]
            refine lv_iconst hx hb gtq_d93 (v := 1) (by decide) ?_
            refine lv_iload hx hb gtq_d94 (lv_at hl 1 rfl) ?_
            refine lv_ishl hx hb gtq_d96 ?_
            generalize hg_z96 : (1 : Int32) <<< (j &&& 31) = z96
            refine lv_ior hx hb gtq_d97 ?_
            generalize hg_z97 : e92 ||| z96 = z97
            refine y_iast X hY0 hI hY_hn rfl hA_hn (by omega) (by show _ < (100 : Int); omega) ⟨_, rfl, x_i32 _⟩ (by decide +kernel) gtq_d98 fun H locs hI h_new ho => ?_
            replace hA_hn := h_new
            generalize hf_f98 : y_up fn pr.toInt.toNat z97 = f98 at hA_hn
            replace hs_ln := y_slk hs_ln (ho _ (y_ne hY_this hY_hn rfl))
            replace hs_hn := y_slk hs_hn (ho _ (y_ne hY_this hY_hn rfl))
            replace hs_hd := y_slk hs_hd (ho _ (y_ne hY_this hY_hn rfl))
            replace hs_astones := y_slk hs_astones (ho _ (y_ne hY_ld hY_hn rfl))
            replace hs_ad := y_slk hs_ad (ho _ (y_ne hY_ld hY_hn rfl))
            replace hsi_things := y_slk hsi_things (ho _ (y_ne hY_ld hY_hn rfl))
            replace hA_ad := hA_ad.kept (ho _ (y_ne hY_ad hY_hn rfl))
            replace hA_hd := hA_hd.kept (ho _ (y_ne hY_hd hY_hn rfl))
            replace hL := hL.wr hY_ld hY_hn (by decide) ho
            replace hLn := hLn.kept (fun k _ => y_slk rfl (ho _ (y_ne hY_ln hY_hn rfl)))
            replace hst9 := hst9.wr hY_hn (by decide) ho
            refine lv_aload_n hx hb gtq_d99 rfl (lv_at hl 2 rfl) ?_
            refine y_getf X (fl79 X.2.2.2.2.1) hI.1 hY_this rfl hs_ln gtq_d100 ?_
            refine lv_aload hx hb gtq_d103 (lv_at hl 0 rfl) ?_
            refine gst_Eyes_69 X hst9 hI.1 gtq_d105 ?_
            obtain ⟨e105, hg_e105⟩ : ∃ e105 : Int32, f (60 + 7 * j.toInt.toNat + 1) = e105 := ⟨_, rfl⟩
            rw [hg_e105]
            refine lv_aload hx hb gtq_d108 (lv_at hl 0 rfl) ?_
            refine gst_Eyes_73 X hst9 hI.1 gtq_d110 ?_
            obtain ⟨e110, hg_e110⟩ : ∃ e110 : Int32, f (60 + 7 * j.toInt.toNat + 2) = e110 := ⟨_, rfl⟩
            rw [hg_e110]
            refine lv_aload hx hb gtq_d113 (lv_at hl 0 rfl) ?_
            refine lv_iload_n hx hb gtq_d115 rfl (lv_at hl 4 rfl) ?_
            refine lv_iconst hx hb gtq_d116 (v := 1) (by decide) ?_
            refine y_stands X ⟨Nat.le_of_ble_eq_true rfl, Nat.le_of_ble_eq_true rfl⟩ hst9 (by first | decide | omega) hY0 hI gtq_d117 hl.1 (Nat.le_of_ble_eq_true rfl) (Nat.le_of_ble_eq_true rfl) (Nat.le_of_ble_eq_true rfl) fun Yn Hn L hIn hx_ hE => ?_
            replace hs_ln := y_Efld hE hY_this rfl (by decide) (by decide) hs_ln
            replace hs_hn := y_Efld hE hY_this rfl (by decide) (by decide) hs_hn
            replace hs_hd := y_Efld hE hY_this rfl (by decide) (by decide) hs_hd
            replace hs_astones := y_Efld hE hY_ld rfl (by decide) (by decide) hs_astones
            replace hs_ad := y_Efld hE hY_ld rfl (by decide) (by decide) hs_ad
            replace hsi_things := y_Efld hE hY_ld rfl (by decide) (by decide) hsi_things
            replace hA_ad := hA_ad.kept (y_Earr hE hY_ad rfl (by decide))
            replace hA_hn := hA_hn.kept (y_Earr hE hY_hn rfl (by decide))
            replace hA_hd := hA_hd.kept (y_Earr hE hY_hd rfl (by decide))
            replace hL := hL.E hY_ld hE (fun q u h => y_ext hx_ hI.1 h) (by decide +kernel)
            replace hLn := hLn.E hY_ln hE (by decide)
            replace hst9 := hst9.E hE (fun q u h => y_ext hx_ hI.1 h) (by decide +kernel)
            replace hY_this := y_ext hx_ hI.1 hY_this
            replace hY_ld := y_ext hx_ hI.1 hY_ld
            replace hY_ln := y_ext hx_ hI.1 hY_ln
            replace hY_hn := y_ext hx_ hI.1 hY_hn
            replace hY_hd := y_ext hx_ hI.1 hY_hd
            replace hY_astones := y_ext hx_ hI.1 hY_astones
            replace hY_ad := y_ext hx_ hI.1 hY_ad
            clear hE hI hx_
            rename x_I _ _ _ _ _ _ _ _ _ _ => hI
            obtain ⟨r117, hg_r117⟩ : ∃ r117 : Int32, m_stn f (60 + 7 * j.toInt.toNat) y (1 : Int32) = r117 := ⟨_, rfl⟩
            rw [hg_r117]
            refine y_call (z := (0, 58, 4, some 10, xM46)) (av := [.ref ln, .int e105, .int e110, .int r117]) (rest := []) (y_cokV (n := 3) (ci := 3) X ym_isHidden rfl rfl rfl (x_cons (x_bw31 14 rfl rfl) (x_cons (x_bw31 15 rfl rfl) (x_cons (x_bw32 0 rfl rfl) (x_cons (x_bw0 7 rfl rfl) x_nilm)))) (x_bw32 1 rfl rfl) (by decide +kernel) ⟨Nat.le_of_ble_eq_true rfl, Nat.le_of_ble_eq_true rfl⟩) hY0 hI rfl gtq_d120 hl.1 (Nat.le_of_ble_eq_true rfl) (Nat.le_of_ble_eq_true rfl) (Nat.le_of_ble_eq_true rfl) (y_cons (y_cref hY_ln rfl) (y_cons ⟨_, rfl, x_i32 _⟩ (y_cons ⟨_, rfl, x_i32 _⟩ (y_cons ⟨_, rfl, x_i32 _⟩ y_nil)))) rfl (y_recv rfl hY_ln) trivial (y_sub_ef rfl) fun v Yn o Hn L ho hr ha hIn hx_ hE hP => ?_
            have hPl := hP _ _ _ _ _ rfl hLn
            obtain rfl := hPl
            replace hs_ln := y_Efld hE hY_this rfl (by decide) (by decide) hs_ln
            replace hs_hn := y_Efld hE hY_this rfl (by decide) (by decide) hs_hn
            replace hs_hd := y_Efld hE hY_this rfl (by decide) (by decide) hs_hd
            replace hs_astones := y_Efld hE hY_ld rfl (by decide) (by decide) hs_astones
            replace hs_ad := y_Efld hE hY_ld rfl (by decide) (by decide) hs_ad
            replace hsi_things := y_Efld hE hY_ld rfl (by decide) (by decide) hsi_things
            replace hA_ad := hA_ad.kept (y_Earr hE hY_ad rfl (by decide))
            replace hA_hn := hA_hn.kept (y_Earr hE hY_hn rfl (by decide))
            replace hA_hd := hA_hd.kept (y_Earr hE hY_hd rfl (by decide))
            replace hL := hL.E hY_ld hE (fun q u h => y_ext hx_ hI.1 h) (by decide +kernel)
            replace hLn := hLn.E hY_ln hE (by decide)
            replace hst9 := hst9.E hE (fun q u h => y_ext hx_ hI.1 h) (by decide +kernel)
            replace hY_this := y_ext hx_ hI.1 hY_this
            replace hY_ld := y_ext hx_ hI.1 hY_ld
            replace hY_ln := y_ext hx_ hI.1 hY_ln
            replace hY_hn := y_ext hx_ hI.1 hY_hn
            replace hY_hd := y_ext hx_ hI.1 hY_hd
            replace hY_astones := y_ext hx_ hI.1 hY_astones
            replace hY_ad := y_ext hx_ hI.1 hY_ad
            generalize hg_r120 : m_b (m_hd lq e105 e110 r117) = r120
            clear ho hr ha hE hP hI hx_
            rename x_I _ _ _ _ _ _ _ _ _ _ => hI
            refine lv_if_eq hx hb gtq_d123 (tgt := 139) (by decide) (fun q123 => ?_) (fun q123 => ?_)
            · have q123_ : r120.toInt = (0 : Int32).toInt := by rw [q123]
              have hdn := m_b0 (hg_r120.trans q123)
              obtain ⟨z139, hg_z139⟩ : ∃ z139 : Int32, j + Int32.ofInt 1 = z139 := ⟨_, rfl⟩
              have h_z139 : z139.toInt = j.toInt + 1 := by rw [← hg_z139]; exact y_inc (by decide) (by omega) (by omega)
              refine lv_iinc hx hb gtq_d139 hl (k := 1) rfl hg_z139 (by decide) (lv' := [(4, .int z139), (5, .ref sn), (0, .ref this), (1, .ref ld), (2, .int y), (3, .int pr)]) rfl fun ls hl => ?_
              refine lv_goto hx hb gtq_d142 (tgt := 3) (by decide) ?_
              have hnj := m_nj hj.1
              have his : z139.toInt.toNat = j.toInt.toNat + 1 := by omega
              have hcN : m_gc lq f y j.toInt.toNat = true := by unfold m_gc; rw [show 61 + 7 * j.toInt.toNat = 60 + 7 * j.toInt.toNat + 1 by omega, show 62 + 7 * j.toInt.toNat = 60 + 7 * j.toInt.toNat + 2 by omega, hg_e27, hg_e32, hmt, Bool.true_and]; first | (rw [if_pos (hg_e67.trans q69), hg_r77, ← hg_e27, ← hg_e32, hg_e50, hg_e55]; exact hnw) | (rw [if_neg (fun q9 => q69 (hg_e67.symm.trans q9)), hg_r77, ← hg_e27, ← hg_e32, hg_e50, hg_e55]; exact hnw)
              have hcD : m_gd lq f y j.toInt.toNat = false := by unfold m_gd; rw [show 61 + 7 * j.toInt.toNat = 60 + 7 * j.toInt.toNat + 1 by omega, show 62 + 7 * j.toInt.toNat = 60 + 7 * j.toInt.toNat + 2 by omega, hg_e27, hg_e32, hmt, Bool.true_and, hg_r117, ← hg_e27, ← hg_e32, hg_e105, hg_e110]; exact hdn
              exact ih _ _ _ _ _ _ _ hI hY_this hY_ld hY_ln hY_hn hY_hd hY_astones hY_ad hs_ln hs_hn hs_hd hs_astones hs_ad hsi_things hA_ad hA_hn hA_hd hL hLn (lv_sub hl [0, 2, 3, 4, 5] rfl) (by first | assumption | omega) (by rw [his, m_gg_T hcN, hnj, ← hf_f98, hfn, y_up_up]; refine congrArg _ ?_; rw [← hg_z97, ← hg_z96, ← hg_e92, hfn, y_up_at]; rfl) (by rw [his, m_gg_F hcD]; exact hfd) (by omega)
            · have q123_ : ¬ r120.toInt = (0 : Int32).toInt := fun q => q123 (Int32.toInt_inj.mp q)
              have hdn := m_bn (fun q => q123 (hg_r120.symm.trans q))
              refine lv_aload_n hx hb gtq_d126 rfl (lv_at hl 2 rfl) ?_
              refine y_getf X (fl85 X.2.2.2.2.1) hI.1 hY_this rfl hs_hd gtq_d127 ?_
              refine lv_iload_n hx hb gtq_d130 rfl (lv_at hl 5 rfl) ?_
              refine lv_dup2_11 hx hb gtq_d131 rfl rfl ?_
              refine y_iald X hI.1 hY_hd rfl hA_hd (by omega) (by show _ < (100 : Int); omega) gtq_d132 ?_
              obtain ⟨e132, hg_e132⟩ : ∃ e132 : Int32, fd pr.toInt.toNat = e132 := ⟨_, rfl⟩
              rw [hg_e132]
              refine lv_iconst hx hb gtq_d133 (v := 1) (by decide) ?_
              refine lv_iload hx hb gtq_d134 (lv_at hl 1 rfl) ?_
              refine lv_ishl hx hb gtq_d136 ?_
              generalize hg_z136 : (1 : Int32) <<< (j &&& 31) = z136
              refine lv_ior hx hb gtq_d137 ?_
              generalize hg_z137 : e132 ||| z136 = z137
              refine y_iast X hY0 hI hY_hd rfl hA_hd (by omega) (by show _ < (100 : Int); omega) ⟨_, rfl, x_i32 _⟩ (by decide +kernel) gtq_d138 fun H locs hI h_new ho => ?_
              replace hA_hd := h_new
              generalize hf_f138 : y_up fd pr.toInt.toNat z137 = f138 at hA_hd
              replace hs_ln := y_slk hs_ln (ho _ (y_ne hY_this hY_hd rfl))
              replace hs_hn := y_slk hs_hn (ho _ (y_ne hY_this hY_hd rfl))
              replace hs_hd := y_slk hs_hd (ho _ (y_ne hY_this hY_hd rfl))
              replace hs_astones := y_slk hs_astones (ho _ (y_ne hY_ld hY_hd rfl))
              replace hs_ad := y_slk hs_ad (ho _ (y_ne hY_ld hY_hd rfl))
              replace hsi_things := y_slk hsi_things (ho _ (y_ne hY_ld hY_hd rfl))
              replace hA_ad := hA_ad.kept (ho _ (y_ne hY_ad hY_hd rfl))
              replace hA_hn := hA_hn.kept (ho _ (y_ne hY_hn hY_hd rfl))
              replace hL := hL.wr hY_ld hY_hd (by decide) ho
              replace hLn := hLn.kept (fun k _ => y_slk rfl (ho _ (y_ne hY_ln hY_hd rfl)))
              replace hst9 := hst9.wr hY_hd (by decide) ho
              obtain ⟨z139, hg_z139⟩ : ∃ z139 : Int32, j + Int32.ofInt 1 = z139 := ⟨_, rfl⟩
              have h_z139 : z139.toInt = j.toInt + 1 := by rw [← hg_z139]; exact y_inc (by decide) (by omega) (by omega)
              refine lv_iinc hx hb gtq_d139 hl (k := 1) rfl hg_z139 (by decide) (lv' := [(4, .int z139), (5, .ref sn), (0, .ref this), (1, .ref ld), (2, .int y), (3, .int pr)]) rfl fun ls hl => ?_
              refine lv_goto hx hb gtq_d142 (tgt := 3) (by decide) ?_
              have hnj := m_nj hj.1
              have his : z139.toInt.toNat = j.toInt.toNat + 1 := by omega
              have hcN : m_gc lq f y j.toInt.toNat = true := by unfold m_gc; rw [show 61 + 7 * j.toInt.toNat = 60 + 7 * j.toInt.toNat + 1 by omega, show 62 + 7 * j.toInt.toNat = 60 + 7 * j.toInt.toNat + 2 by omega, hg_e27, hg_e32, hmt, Bool.true_and]; first | (rw [if_pos (hg_e67.trans q69), hg_r77, ← hg_e27, ← hg_e32, hg_e50, hg_e55]; exact hnw) | (rw [if_neg (fun q9 => q69 (hg_e67.symm.trans q9)), hg_r77, ← hg_e27, ← hg_e32, hg_e50, hg_e55]; exact hnw)
              have hcD : m_gd lq f y j.toInt.toNat = true := by unfold m_gd; rw [show 61 + 7 * j.toInt.toNat = 60 + 7 * j.toInt.toNat + 1 by omega, show 62 + 7 * j.toInt.toNat = 60 + 7 * j.toInt.toNat + 2 by omega, hg_e27, hg_e32, hmt, Bool.true_and, hg_r117, ← hg_e27, ← hg_e32, hg_e105, hg_e110]; exact hdn
              exact ih _ _ _ _ _ _ _ hI hY_this hY_ld hY_ln hY_hn hY_hd hY_astones hY_ad hs_ln hs_hn hs_hd hs_astones hs_ad hsi_things hA_ad hA_hn hA_hd hL hLn (lv_sub hl [0, 2, 3, 4, 5] rfl) (by first | assumption | omega) (by rw [his, m_gg_T hcN, hnj, ← hf_f98, hfn, y_up_up]; refine congrArg _ ?_; rw [← hg_z97, ← hg_z96, ← hg_e92, hfn, y_up_at]; rfl) (by rw [his, m_gg_T hcD, hnj, ← hf_f138, hfd, y_up_up]; refine congrArg _ ?_; rw [← hg_z137, ← hg_z136, ← hg_e132, hfd, y_up_at]; rfl) (by omega)
        · have q69_ : e67.toInt = (1 : Int32).toInt := by rw [q69]
          refine lv_iconst hx hb gtq_d72 (v := 1) (by decide) ?_
          refine lv_goto hx hb gtq_d73 (tgt := 77) (by decide) ?_
          refine y_stands X ⟨Nat.le_of_ble_eq_true rfl, Nat.le_of_ble_eq_true rfl⟩ hst9 (by first | decide | omega) hY0 hI gtq_d77 hl.1 (Nat.le_of_ble_eq_true rfl) (Nat.le_of_ble_eq_true rfl) (Nat.le_of_ble_eq_true rfl) fun Yn Hn L hIn hx_ hE => ?_
          replace hs_ln := y_Efld hE hY_this rfl (by decide) (by decide) hs_ln
          replace hs_hn := y_Efld hE hY_this rfl (by decide) (by decide) hs_hn
          replace hs_hd := y_Efld hE hY_this rfl (by decide) (by decide) hs_hd
          replace hs_astones := y_Efld hE hY_ld rfl (by decide) (by decide) hs_astones
          replace hs_ad := y_Efld hE hY_ld rfl (by decide) (by decide) hs_ad
          replace hsi_things := y_Efld hE hY_ld rfl (by decide) (by decide) hsi_things
          replace hA_ad := hA_ad.kept (y_Earr hE hY_ad rfl (by decide))
          replace hA_hn := hA_hn.kept (y_Earr hE hY_hn rfl (by decide))
          replace hA_hd := hA_hd.kept (y_Earr hE hY_hd rfl (by decide))
          replace hL := hL.E hY_ld hE (fun q u h => y_ext hx_ hI.1 h) (by decide +kernel)
          replace hLn := hLn.E hY_ln hE (by decide)
          replace hst9 := hst9.E hE (fun q u h => y_ext hx_ hI.1 h) (by decide +kernel)
          replace hY_this := y_ext hx_ hI.1 hY_this
          replace hY_ld := y_ext hx_ hI.1 hY_ld
          replace hY_ln := y_ext hx_ hI.1 hY_ln
          replace hY_hn := y_ext hx_ hI.1 hY_hn
          replace hY_hd := y_ext hx_ hI.1 hY_hd
          replace hY_astones := y_ext hx_ hI.1 hY_astones
          replace hY_ad := y_ext hx_ hI.1 hY_ad
          clear hE hI hx_
          rename x_I _ _ _ _ _ _ _ _ _ _ => hI
          obtain ⟨r77, hg_r77⟩ : ∃ r77 : Int32, m_stn f (60 + 7 * j.toInt.toNat) y (1 : Int32) = r77 := ⟨_, rfl⟩
          rw [hg_r77]
          refine y_call (z := (0, 58, 4, some 10, xM46)) (av := [.ref ln, .int e50, .int e55, .int r77]) (rest := []) (y_cokV (n := 3) (ci := 3) X ym_isHidden rfl rfl rfl (x_cons (x_bw31 14 rfl rfl) (x_cons (x_bw31 15 rfl rfl) (x_cons (x_bw32 0 rfl rfl) (x_cons (x_bw0 7 rfl rfl) x_nilm)))) (x_bw32 1 rfl rfl) (by decide +kernel) ⟨Nat.le_of_ble_eq_true rfl, Nat.le_of_ble_eq_true rfl⟩) hY0 hI rfl gtq_d80 hl.1 (Nat.le_of_ble_eq_true rfl) (Nat.le_of_ble_eq_true rfl) (Nat.le_of_ble_eq_true rfl) (y_cons (y_cref hY_ln rfl) (y_cons ⟨_, rfl, x_i32 _⟩ (y_cons ⟨_, rfl, x_i32 _⟩ (y_cons ⟨_, rfl, x_i32 _⟩ y_nil)))) rfl (y_recv rfl hY_ln) trivial (y_sub_ef rfl) fun v Yn o Hn L ho hr ha hIn hx_ hE hP => ?_
          have hPl := hP _ _ _ _ _ rfl hLn
          obtain rfl := hPl
          replace hs_ln := y_Efld hE hY_this rfl (by decide) (by decide) hs_ln
          replace hs_hn := y_Efld hE hY_this rfl (by decide) (by decide) hs_hn
          replace hs_hd := y_Efld hE hY_this rfl (by decide) (by decide) hs_hd
          replace hs_astones := y_Efld hE hY_ld rfl (by decide) (by decide) hs_astones
          replace hs_ad := y_Efld hE hY_ld rfl (by decide) (by decide) hs_ad
          replace hsi_things := y_Efld hE hY_ld rfl (by decide) (by decide) hsi_things
          replace hA_ad := hA_ad.kept (y_Earr hE hY_ad rfl (by decide))
          replace hA_hn := hA_hn.kept (y_Earr hE hY_hn rfl (by decide))
          replace hA_hd := hA_hd.kept (y_Earr hE hY_hd rfl (by decide))
          replace hL := hL.E hY_ld hE (fun q u h => y_ext hx_ hI.1 h) (by decide +kernel)
          replace hLn := hLn.E hY_ln hE (by decide)
          replace hst9 := hst9.E hE (fun q u h => y_ext hx_ hI.1 h) (by decide +kernel)
          replace hY_this := y_ext hx_ hI.1 hY_this
          replace hY_ld := y_ext hx_ hI.1 hY_ld
          replace hY_ln := y_ext hx_ hI.1 hY_ln
          replace hY_hn := y_ext hx_ hI.1 hY_hn
          replace hY_hd := y_ext hx_ hI.1 hY_hd
          replace hY_astones := y_ext hx_ hI.1 hY_astones
          replace hY_ad := y_ext hx_ hI.1 hY_ad
          generalize hg_r80 : m_b (m_hd lq e50 e55 r77) = r80
          clear ho hr ha hE hP hI hx_
          rename x_I _ _ _ _ _ _ _ _ _ _ => hI
          refine lv_if_eq hx hb gtq_d83 (tgt := 99) (by decide) (fun q83 => ?_) (fun q83 => ?_)
          · have q83_ : r80.toInt = (0 : Int32).toInt := by rw [q83]
            have hnw := m_b0 (hg_r80.trans q83)
            refine lv_aload_n hx hb gtq_d99 rfl (lv_at hl 2 rfl) ?_
            refine y_getf X (fl79 X.2.2.2.2.1) hI.1 hY_this rfl hs_ln gtq_d100 ?_
            refine lv_aload hx hb gtq_d103 (lv_at hl 0 rfl) ?_
            refine gst_Eyes_69 X hst9 hI.1 gtq_d105 ?_
            obtain ⟨e105, hg_e105⟩ : ∃ e105 : Int32, f (60 + 7 * j.toInt.toNat + 1) = e105 := ⟨_, rfl⟩
            rw [hg_e105]
            refine lv_aload hx hb gtq_d108 (lv_at hl 0 rfl) ?_
            refine gst_Eyes_73 X hst9 hI.1 gtq_d110 ?_
            obtain ⟨e110, hg_e110⟩ : ∃ e110 : Int32, f (60 + 7 * j.toInt.toNat + 2) = e110 := ⟨_, rfl⟩
            rw [hg_e110]
            refine lv_aload hx hb gtq_d113 (lv_at hl 0 rfl) ?_
            refine lv_iload_n hx hb gtq_d115 rfl (lv_at hl 4 rfl) ?_
            refine lv_iconst hx hb gtq_d116 (v := 1) (by decide) ?_
            refine y_stands X ⟨Nat.le_of_ble_eq_true rfl, Nat.le_of_ble_eq_true rfl⟩ hst9 (by first | decide | omega) hY0 hI gtq_d117 hl.1 (Nat.le_of_ble_eq_true rfl) (Nat.le_of_ble_eq_true rfl) (Nat.le_of_ble_eq_true rfl) fun Yn Hn L hIn hx_ hE => ?_
            replace hs_ln := y_Efld hE hY_this rfl (by decide) (by decide) hs_ln
            replace hs_hn := y_Efld hE hY_this rfl (by decide) (by decide) hs_hn
            replace hs_hd := y_Efld hE hY_this rfl (by decide) (by decide) hs_hd
            replace hs_astones := y_Efld hE hY_ld rfl (by decide) (by decide) hs_astones
            replace hs_ad := y_Efld hE hY_ld rfl (by decide) (by decide) hs_ad
            replace hsi_things := y_Efld hE hY_ld rfl (by decide) (by decide) hsi_things
            replace hA_ad := hA_ad.kept (y_Earr hE hY_ad rfl (by decide))
            replace hA_hn := hA_hn.kept (y_Earr hE hY_hn rfl (by decide))
            replace hA_hd := hA_hd.kept (y_Earr hE hY_hd rfl (by decide))
            replace hL := hL.E hY_ld hE (fun q u h => y_ext hx_ hI.1 h) (by decide +kernel)
            replace hLn := hLn.E hY_ln hE (by decide)
            replace hst9 := hst9.E hE (fun q u h => y_ext hx_ hI.1 h) (by decide +kernel)
            replace hY_this := y_ext hx_ hI.1 hY_this
            replace hY_ld := y_ext hx_ hI.1 hY_ld
            replace hY_ln := y_ext hx_ hI.1 hY_ln
            replace hY_hn := y_ext hx_ hI.1 hY_hn
            replace hY_hd := y_ext hx_ hI.1 hY_hd
            replace hY_astones := y_ext hx_ hI.1 hY_astones
            replace hY_ad := y_ext hx_ hI.1 hY_ad
            clear hE hI hx_
            rename x_I _ _ _ _ _ _ _ _ _ _ => hI
            obtain ⟨r117, hg_r117⟩ : ∃ r117 : Int32, m_stn f (60 + 7 * j.toInt.toNat) y (1 : Int32) = r117 := ⟨_, rfl⟩
            rw [hg_r117]
            refine y_call (z := (0, 58, 4, some 10, xM46)) (av := [.ref ln, .int e105, .int e110, .int r117]) (rest := []) (y_cokV (n := 3) (ci := 3) X ym_isHidden rfl rfl rfl (x_cons (x_bw31 14 rfl rfl) (x_cons (x_bw31 15 rfl rfl) (x_cons (x_bw32 0 rfl rfl) (x_cons (x_bw0 7 rfl rfl) x_nilm)))) (x_bw32 1 rfl rfl) (by decide +kernel) ⟨Nat.le_of_ble_eq_true rfl, Nat.le_of_ble_eq_true rfl⟩) hY0 hI rfl gtq_d120 hl.1 (Nat.le_of_ble_eq_true rfl) (Nat.le_of_ble_eq_true rfl) (Nat.le_of_ble_eq_true rfl) (y_cons (y_cref hY_ln rfl) (y_cons ⟨_, rfl, x_i32 _⟩ (y_cons ⟨_, rfl, x_i32 _⟩ (y_cons ⟨_, rfl, x_i32 _⟩ y_nil)))) rfl (y_recv rfl hY_ln) trivial (y_sub_ef rfl) fun v Yn o Hn L ho hr ha hIn hx_ hE hP => ?_
            have hPl := hP _ _ _ _ _ rfl hLn
            obtain rfl := hPl
            replace hs_ln := y_Efld hE hY_this rfl (by decide) (by decide) hs_ln
            replace hs_hn := y_Efld hE hY_this rfl (by decide) (by decide) hs_hn
            replace hs_hd := y_Efld hE hY_this rfl (by decide) (by decide) hs_hd
            replace hs_astones := y_Efld hE hY_ld rfl (by decide) (by decide) hs_astones
            replace hs_ad := y_Efld hE hY_ld rfl (by decide) (by decide) hs_ad
            replace hsi_things := y_Efld hE hY_ld rfl (by decide) (by decide) hsi_things
            replace hA_ad := hA_ad.kept (y_Earr hE hY_ad rfl (by decide))
            replace hA_hn := hA_hn.kept (y_Earr hE hY_hn rfl (by decide))
            replace hA_hd := hA_hd.kept (y_Earr hE hY_hd rfl (by decide))
            replace hL := hL.E hY_ld hE (fun q u h => y_ext hx_ hI.1 h) (by decide +kernel)
            replace hLn := hLn.E hY_ln hE (by decide)
            replace hst9 := hst9.E hE (fun q u h => y_ext hx_ hI.1 h) (by decide +kernel)
            replace hY_this := y_ext hx_ hI.1 hY_this
            replace hY_ld := y_ext hx_ hI.1 hY_ld
            replace hY_ln := y_ext hx_ hI.1 hY_ln
            replace hY_hn := y_ext hx_ hI.1 hY_hn
            replace hY_hd := y_ext hx_ hI.1 hY_hd
            replace hY_astones := y_ext hx_ hI.1 hY_astones
            replace hY_ad := y_ext hx_ hI.1 hY_ad
            generalize hg_r120 : m_b (m_hd lq e105 e110 r117) = r120
            clear ho hr ha hE hP hI hx_
            rename x_I _ _ _ _ _ _ _ _ _ _ => hI
            refine lv_if_eq hx hb gtq_d123 (tgt := 139) (by decide) (fun q123 => ?_) (fun q123 => ?_)
            · have q123_ : r120.toInt = (0 : Int32).toInt := by rw [q123]
              have hdn := m_b0 (hg_r120.trans q123)
              obtain ⟨z139, hg_z139⟩ : ∃ z139 : Int32, j + Int32.ofInt 1 = z139 := ⟨_, rfl⟩
              have h_z139 : z139.toInt = j.toInt + 1 := by rw [← hg_z139]; exact y_inc (by decide) (by omega) (by omega)
              refine lv_iinc hx hb gtq_d139 hl (k := 1) rfl hg_z139 (by decide) (lv' := [(4, .int z139), (5, .ref sn), (0, .ref this), (1, .ref ld), (2, .int y), (3, .int pr)]) rfl fun ls hl => ?_
              refine lv_goto hx hb gtq_d142 (tgt := 3) (by decide) ?_
              have hnj := m_nj hj.1
              have his : z139.toInt.toNat = j.toInt.toNat + 1 := by omega
              have hcN : m_gc lq f y j.toInt.toNat = false := by unfold m_gc; rw [show 61 + 7 * j.toInt.toNat = 60 + 7 * j.toInt.toNat + 1 by omega, show 62 + 7 * j.toInt.toNat = 60 + 7 * j.toInt.toNat + 2 by omega, hg_e27, hg_e32, hmt, Bool.true_and]; first | (rw [if_pos (hg_e67.trans q69), hg_r77, ← hg_e27, ← hg_e32, hg_e50, hg_e55]; exact hnw) | (rw [if_neg (fun q9 => q69 (hg_e67.symm.trans q9)), hg_r77, ← hg_e27, ← hg_e32, hg_e50, hg_e55]; exact hnw)
              have hcD : m_gd lq f y j.toInt.toNat = false := by unfold m_gd; rw [show 61 + 7 * j.toInt.toNat = 60 + 7 * j.toInt.toNat + 1 by omega, show 62 + 7 * j.toInt.toNat = 60 + 7 * j.toInt.toNat + 2 by omega, hg_e27, hg_e32, hmt, Bool.true_and, hg_r117, ← hg_e27, ← hg_e32, hg_e105, hg_e110]; exact hdn
              exact ih _ _ _ _ _ _ _ hI hY_this hY_ld hY_ln hY_hn hY_hd hY_astones hY_ad hs_ln hs_hn hs_hd hs_astones hs_ad hsi_things hA_ad hA_hn hA_hd hL hLn (lv_sub hl [0, 2, 3, 4, 5] rfl) (by first | assumption | omega) (by rw [his, m_gg_F hcN]; exact hfn) (by rw [his, m_gg_F hcD]; exact hfd) (by omega)
            · have q123_ : ¬ r120.toInt = (0 : Int32).toInt := fun q => q123 (Int32.toInt_inj.mp q)
              have hdn := m_bn (fun q => q123 (hg_r120.symm.trans q))
              refine lv_aload_n hx hb gtq_d126 rfl (lv_at hl 2 rfl) ?_
              refine y_getf X (fl85 X.2.2.2.2.1) hI.1 hY_this rfl hs_hd gtq_d127 ?_
              refine lv_iload_n hx hb gtq_d130 rfl (lv_at hl 5 rfl) ?_
              refine lv_dup2_11 hx hb gtq_d131 rfl rfl ?_
              refine y_iald X hI.1 hY_hd rfl hA_hd (by omega) (by show _ < (100 : Int); omega) gtq_d132 ?_
              obtain ⟨e132, hg_e132⟩ : ∃ e132 : Int32, fd pr.toInt.toNat = e132 := ⟨_, rfl⟩
              rw [hg_e132]
              refine lv_iconst hx hb gtq_d133 (v := 1) (by decide) ?_
              refine lv_iload hx hb gtq_d134 (lv_at hl 1 rfl) ?_
              refine lv_ishl hx hb gtq_d136 ?_
              generalize hg_z136 : (1 : Int32) <<< (j &&& 31) = z136
              refine lv_ior hx hb gtq_d137 ?_
              generalize hg_z137 : e132 ||| z136 = z137
              refine y_iast X hY0 hI hY_hd rfl hA_hd (by omega) (by show _ < (100 : Int); omega) ⟨_, rfl, x_i32 _⟩ (by decide +kernel) gtq_d138 fun H locs hI h_new ho => ?_
              replace hA_hd := h_new
              generalize hf_f138 : y_up fd pr.toInt.toNat z137 = f138 at hA_hd
              replace hs_ln := y_slk hs_ln (ho _ (y_ne hY_this hY_hd rfl))
              replace hs_hn := y_slk hs_hn (ho _ (y_ne hY_this hY_hd rfl))
              replace hs_hd := y_slk hs_hd (ho _ (y_ne hY_this hY_hd rfl))
              replace hs_astones := y_slk hs_astones (ho _ (y_ne hY_ld hY_hd rfl))
              replace hs_ad := y_slk hs_ad (ho _ (y_ne hY_ld hY_hd rfl))
              replace hsi_things := y_slk hsi_things (ho _ (y_ne hY_ld hY_hd rfl))
              replace hA_ad := hA_ad.kept (ho _ (y_ne hY_ad hY_hd rfl))
              replace hA_hn := hA_hn.kept (ho _ (y_ne hY_hn hY_hd rfl))
              replace hL := hL.wr hY_ld hY_hd (by decide) ho
              replace hLn := hLn.kept (fun k _ => y_slk rfl (ho _ (y_ne hY_ln hY_hd rfl)))
              replace hst9 := hst9.wr hY_hd (by decide) ho
              obtain ⟨z139, hg_z139⟩ : ∃ z139 : Int32, j + Int32.ofInt 1 = z139 := ⟨_, rfl⟩
              have h_z139 : z139.toInt = j.toInt + 1 := by rw [← hg_z139]; exact y_inc (by decide) (by omega) (by omega)
              refine lv_iinc hx hb gtq_d139 hl (k := 1) rfl hg_z139 (by decide) (lv' := [(4, .int z139), (5, .ref sn), (0, .ref this), (1, .ref ld), (2, .int y), (3, .int pr)]) rfl fun ls hl => ?_
              refine lv_goto hx hb gtq_d142 (tgt := 3) (by decide) ?_
              have hnj := m_nj hj.1
              have his : z139.toInt.toNat = j.toInt.toNat + 1 := by omega
              have hcN : m_gc lq f y j.toInt.toNat = false := by unfold m_gc; rw [show 61 + 7 * j.toInt.toNat = 60 + 7 * j.toInt.toNat + 1 by omega, show 62 + 7 * j.toInt.toNat = 60 + 7 * j.toInt.toNat + 2 by omega, hg_e27, hg_e32, hmt, Bool.true_and]; first | (rw [if_pos (hg_e67.trans q69), hg_r77, ← hg_e27, ← hg_e32, hg_e50, hg_e55]; exact hnw) | (rw [if_neg (fun q9 => q69 (hg_e67.symm.trans q9)), hg_r77, ← hg_e27, ← hg_e32, hg_e50, hg_e55]; exact hnw)
              have hcD : m_gd lq f y j.toInt.toNat = true := by unfold m_gd; rw [show 61 + 7 * j.toInt.toNat = 60 + 7 * j.toInt.toNat + 1 by omega, show 62 + 7 * j.toInt.toNat = 60 + 7 * j.toInt.toNat + 2 by omega, hg_e27, hg_e32, hmt, Bool.true_and, hg_r117, ← hg_e27, ← hg_e32, hg_e105, hg_e110]; exact hdn
              exact ih _ _ _ _ _ _ _ hI hY_this hY_ld hY_ln hY_hn hY_hd hY_astones hY_ad hs_ln hs_hn hs_hd hs_astones hs_ad hsi_things hA_ad hA_hn hA_hd hL hLn (lv_sub hl [0, 2, 3, 4, 5] rfl) (by first | assumption | omega) (by rw [his, m_gg_F hcN]; exact hfn) (by rw [his, m_gg_T hcD, hnj, ← hf_f138, hfd, y_up_up]; refine congrArg _ ?_; rw [← hg_z137, ← hg_z136, ← hg_e132, hfd, y_up_at]; rfl) (by omega)
          · have q83_ : ¬ r80.toInt = (0 : Int32).toInt := fun q => q83 (Int32.toInt_inj.mp q)
            have hnw := m_bn (fun q => q83 (hg_r80.symm.trans q))
            refine lv_aload_n hx hb gtq_d86 rfl (lv_at hl 2 rfl) ?_
            refine y_getf X (fl84 X.2.2.2.2.1) hI.1 hY_this rfl hs_hn gtq_d87 ?_
            refine lv_iload_n hx hb gtq_d90 rfl (lv_at hl 5 rfl) ?_
            refine lv_dup2_11 hx hb gtq_d91 rfl rfl ?_
            refine y_iald X hI.1 hY_hn rfl hA_hn (by omega) (by show _ < (100 : Int); omega) gtq_d92 ?_
            obtain ⟨e92, hg_e92⟩ : ∃ e92 : Int32, fn pr.toInt.toNat = e92 := ⟨_, rfl⟩
            rw [hg_e92]
            refine lv_iconst hx hb gtq_d93 (v := 1) (by decide) ?_
            refine lv_iload hx hb gtq_d94 (lv_at hl 1 rfl) ?_
            refine lv_ishl hx hb gtq_d96 ?_
            generalize hg_z96 : (1 : Int32) <<< (j &&& 31) = z96
            refine lv_ior hx hb gtq_d97 ?_
            generalize hg_z97 : e92 ||| z96 = z97
            refine y_iast X hY0 hI hY_hn rfl hA_hn (by omega) (by show _ < (100 : Int); omega) ⟨_, rfl, x_i32 _⟩ (by decide +kernel) gtq_d98 fun H locs hI h_new ho => ?_
            replace hA_hn := h_new
            generalize hf_f98 : y_up fn pr.toInt.toNat z97 = f98 at hA_hn
            replace hs_ln := y_slk hs_ln (ho _ (y_ne hY_this hY_hn rfl))
            replace hs_hn := y_slk hs_hn (ho _ (y_ne hY_this hY_hn rfl))
            replace hs_hd := y_slk hs_hd (ho _ (y_ne hY_this hY_hn rfl))
            replace hs_astones := y_slk hs_astones (ho _ (y_ne hY_ld hY_hn rfl))
            replace hs_ad := y_slk hs_ad (ho _ (y_ne hY_ld hY_hn rfl))
            replace hsi_things := y_slk hsi_things (ho _ (y_ne hY_ld hY_hn rfl))
            replace hA_ad := hA_ad.kept (ho _ (y_ne hY_ad hY_hn rfl))
            replace hA_hd := hA_hd.kept (ho _ (y_ne hY_hd hY_hn rfl))
            replace hL := hL.wr hY_ld hY_hn (by decide) ho
            replace hLn := hLn.kept (fun k _ => y_slk rfl (ho _ (y_ne hY_ln hY_hn rfl)))
            replace hst9 := hst9.wr hY_hn (by decide) ho
            refine lv_aload_n hx hb gtq_d99 rfl (lv_at hl 2 rfl) ?_
            refine y_getf X (fl79 X.2.2.2.2.1) hI.1 hY_this rfl hs_ln gtq_d100 ?_
            refine lv_aload hx hb gtq_d103 (lv_at hl 0 rfl) ?_
            refine gst_Eyes_69 X hst9 hI.1 gtq_d105 ?_
            obtain ⟨e105, hg_e105⟩ : ∃ e105 : Int32, f (60 + 7 * j.toInt.toNat + 1) = e105 := ⟨_, rfl⟩
            rw [hg_e105]
            refine lv_aload hx hb gtq_d108 (lv_at hl 0 rfl) ?_
            refine gst_Eyes_73 X hst9 hI.1 gtq_d110 ?_
            obtain ⟨e110, hg_e110⟩ : ∃ e110 : Int32, f (60 + 7 * j.toInt.toNat + 2) = e110 := ⟨_, rfl⟩
            rw [hg_e110]
            refine lv_aload hx hb gtq_d113 (lv_at hl 0 rfl) ?_
            refine lv_iload_n hx hb gtq_d115 rfl (lv_at hl 4 rfl) ?_
            refine lv_iconst hx hb gtq_d116 (v := 1) (by decide) ?_
            refine y_stands X ⟨Nat.le_of_ble_eq_true rfl, Nat.le_of_ble_eq_true rfl⟩ hst9 (by first | decide | omega) hY0 hI gtq_d117 hl.1 (Nat.le_of_ble_eq_true rfl) (Nat.le_of_ble_eq_true rfl) (Nat.le_of_ble_eq_true rfl) fun Yn Hn L hIn hx_ hE => ?_
            replace hs_ln := y_Efld hE hY_this rfl (by decide) (by decide) hs_ln
            replace hs_hn := y_Efld hE hY_this rfl (by decide) (by decide) hs_hn
            replace hs_hd := y_Efld hE hY_this rfl (by decide) (by decide) hs_hd
            replace hs_astones := y_Efld hE hY_ld rfl (by decide) (by decide) hs_astones
            replace hs_ad := y_Efld hE hY_ld rfl (by decide) (by decide) hs_ad
            replace hsi_things := y_Efld hE hY_ld rfl (by decide) (by decide) hsi_things
            replace hA_ad := hA_ad.kept (y_Earr hE hY_ad rfl (by decide))
            replace hA_hn := hA_hn.kept (y_Earr hE hY_hn rfl (by decide))
            replace hA_hd := hA_hd.kept (y_Earr hE hY_hd rfl (by decide))
            replace hL := hL.E hY_ld hE (fun q u h => y_ext hx_ hI.1 h) (by decide +kernel)
            replace hLn := hLn.E hY_ln hE (by decide)
            replace hst9 := hst9.E hE (fun q u h => y_ext hx_ hI.1 h) (by decide +kernel)
            replace hY_this := y_ext hx_ hI.1 hY_this
            replace hY_ld := y_ext hx_ hI.1 hY_ld
            replace hY_ln := y_ext hx_ hI.1 hY_ln
            replace hY_hn := y_ext hx_ hI.1 hY_hn
            replace hY_hd := y_ext hx_ hI.1 hY_hd
            replace hY_astones := y_ext hx_ hI.1 hY_astones
            replace hY_ad := y_ext hx_ hI.1 hY_ad
            clear hE hI hx_
            rename x_I _ _ _ _ _ _ _ _ _ _ => hI
            obtain ⟨r117, hg_r117⟩ : ∃ r117 : Int32, m_stn f (60 + 7 * j.toInt.toNat) y (1 : Int32) = r117 := ⟨_, rfl⟩
            rw [hg_r117]
            refine y_call (z := (0, 58, 4, some 10, xM46)) (av := [.ref ln, .int e105, .int e110, .int r117]) (rest := []) (y_cokV (n := 3) (ci := 3) X ym_isHidden rfl rfl rfl (x_cons (x_bw31 14 rfl rfl) (x_cons (x_bw31 15 rfl rfl) (x_cons (x_bw32 0 rfl rfl) (x_cons (x_bw0 7 rfl rfl) x_nilm)))) (x_bw32 1 rfl rfl) (by decide +kernel) ⟨Nat.le_of_ble_eq_true rfl, Nat.le_of_ble_eq_true rfl⟩) hY0 hI rfl gtq_d120 hl.1 (Nat.le_of_ble_eq_true rfl) (Nat.le_of_ble_eq_true rfl) (Nat.le_of_ble_eq_true rfl) (y_cons (y_cref hY_ln rfl) (y_cons ⟨_, rfl, x_i32 _⟩ (y_cons ⟨_, rfl, x_i32 _⟩ (y_cons ⟨_, rfl, x_i32 _⟩ y_nil)))) rfl (y_recv rfl hY_ln) trivial (y_sub_ef rfl) fun v Yn o Hn L ho hr ha hIn hx_ hE hP => ?_
            have hPl := hP _ _ _ _ _ rfl hLn
            obtain rfl := hPl
            replace hs_ln := y_Efld hE hY_this rfl (by decide) (by decide) hs_ln
            replace hs_hn := y_Efld hE hY_this rfl (by decide) (by decide) hs_hn
            replace hs_hd := y_Efld hE hY_this rfl (by decide) (by decide) hs_hd
            replace hs_astones := y_Efld hE hY_ld rfl (by decide) (by decide) hs_astones
            replace hs_ad := y_Efld hE hY_ld rfl (by decide) (by decide) hs_ad
            replace hsi_things := y_Efld hE hY_ld rfl (by decide) (by decide) hsi_things
            replace hA_ad := hA_ad.kept (y_Earr hE hY_ad rfl (by decide))
            replace hA_hn := hA_hn.kept (y_Earr hE hY_hn rfl (by decide))
            replace hA_hd := hA_hd.kept (y_Earr hE hY_hd rfl (by decide))
            replace hL := hL.E hY_ld hE (fun q u h => y_ext hx_ hI.1 h) (by decide +kernel)
            replace hLn := hLn.E hY_ln hE (by decide)
            replace hst9 := hst9.E hE (fun q u h => y_ext hx_ hI.1 h) (by decide +kernel)
            replace hY_this := y_ext hx_ hI.1 hY_this
            replace hY_ld := y_ext hx_ hI.1 hY_ld
            replace hY_ln := y_ext hx_ hI.1 hY_ln
            replace hY_hn := y_ext hx_ hI.1 hY_hn
            replace hY_hd := y_ext hx_ hI.1 hY_hd
            replace hY_astones := y_ext hx_ hI.1 hY_astones
            replace hY_ad := y_ext hx_ hI.1 hY_ad
            generalize hg_r120 : m_b (m_hd lq e105 e110 r117) = r120
            clear ho hr ha hE hP hI hx_
            rename x_I _ _ _ _ _ _ _ _ _ _ => hI
            refine lv_if_eq hx hb gtq_d123 (tgt := 139) (by decide) (fun q123 => ?_) (fun q123 => ?_)
            · have q123_ : r120.toInt = (0 : Int32).toInt := by rw [q123]
              have hdn := m_b0 (hg_r120.trans q123)
              obtain ⟨z139, hg_z139⟩ : ∃ z139 : Int32, j + Int32.ofInt 1 = z139 := ⟨_, rfl⟩
              have h_z139 : z139.toInt = j.toInt + 1 := by rw [← hg_z139]; exact y_inc (by decide) (by omega) (by omega)
              refine lv_iinc hx hb gtq_d139 hl (k := 1) rfl hg_z139 (by decide) (lv' := [(4, .int z139), (5, .ref sn), (0, .ref this), (1, .ref ld), (2, .int y), (3, .int pr)]) rfl fun ls hl => ?_
              refine lv_goto hx hb gtq_d142 (tgt := 3) (by decide) ?_
              have hnj := m_nj hj.1
              have his : z139.toInt.toNat = j.toInt.toNat + 1 := by omega
              have hcN : m_gc lq f y j.toInt.toNat = true := by unfold m_gc; rw [show 61 + 7 * j.toInt.toNat = 60 + 7 * j.toInt.toNat + 1 by omega, show 62 + 7 * j.toInt.toNat = 60 + 7 * j.toInt.toNat + 2 by omega, hg_e27, hg_e32, hmt, Bool.true_and]; first | (rw [if_pos (hg_e67.trans q69), hg_r77, ← hg_e27, ← hg_e32, hg_e50, hg_e55]; exact hnw) | (rw [if_neg (fun q9 => q69 (hg_e67.symm.trans q9)), hg_r77, ← hg_e27, ← hg_e32, hg_e50, hg_e55]; exact hnw)
              have hcD : m_gd lq f y j.toInt.toNat = false := by unfold m_gd; rw [show 61 + 7 * j.toInt.toNat = 60 + 7 * j.toInt.toNat + 1 by omega, show 62 + 7 * j.toInt.toNat = 60 + 7 * j.toInt.toNat + 2 by omega, hg_e27, hg_e32, hmt, Bool.true_and, hg_r117, ← hg_e27, ← hg_e32, hg_e105, hg_e110]; exact hdn
              exact ih _ _ _ _ _ _ _ hI hY_this hY_ld hY_ln hY_hn hY_hd hY_astones hY_ad hs_ln hs_hn hs_hd hs_astones hs_ad hsi_things hA_ad hA_hn hA_hd hL hLn (lv_sub hl [0, 2, 3, 4, 5] rfl) (by first | assumption | omega) (by rw [his, m_gg_T hcN, hnj, ← hf_f98, hfn, y_up_up]; refine congrArg _ ?_; rw [← hg_z97, ← hg_z96, ← hg_e92, hfn, y_up_at]; rfl) (by rw [his, m_gg_F hcD]; exact hfd) (by omega)
            · have q123_ : ¬ r120.toInt = (0 : Int32).toInt := fun q => q123 (Int32.toInt_inj.mp q)
              have hdn := m_bn (fun q => q123 (hg_r120.symm.trans q))
              refine lv_aload_n hx hb gtq_d126 rfl (lv_at hl 2 rfl) ?_
              refine y_getf X (fl85 X.2.2.2.2.1) hI.1 hY_this rfl hs_hd gtq_d127 ?_
              refine lv_iload_n hx hb gtq_d130 rfl (lv_at hl 5 rfl) ?_
              refine lv_dup2_11 hx hb gtq_d131 rfl rfl ?_
              refine y_iald X hI.1 hY_hd rfl hA_hd (by omega) (by show _ < (100 : Int); omega) gtq_d132 ?_
              obtain ⟨e132, hg_e132⟩ : ∃ e132 : Int32, fd pr.toInt.toNat = e132 := ⟨_, rfl⟩
              rw [hg_e132]
              refine lv_iconst hx hb gtq_d133 (v := 1) (by decide) ?_
              refine lv_iload hx hb gtq_d134 (lv_at hl 1 rfl) ?_
              refine lv_ishl hx hb gtq_d136 ?_
              generalize hg_z136 : (1 : Int32) <<< (j &&& 31) = z136
              refine lv_ior hx hb gtq_d137 ?_
              generalize hg_z137 : e132 ||| z136 = z137
              refine y_iast X hY0 hI hY_hd rfl hA_hd (by omega) (by show _ < (100 : Int); omega) ⟨_, rfl, x_i32 _⟩ (by decide +kernel) gtq_d138 fun H locs hI h_new ho => ?_
              replace hA_hd := h_new
              generalize hf_f138 : y_up fd pr.toInt.toNat z137 = f138 at hA_hd
              replace hs_ln := y_slk hs_ln (ho _ (y_ne hY_this hY_hd rfl))
              replace hs_hn := y_slk hs_hn (ho _ (y_ne hY_this hY_hd rfl))
              replace hs_hd := y_slk hs_hd (ho _ (y_ne hY_this hY_hd rfl))
              replace hs_astones := y_slk hs_astones (ho _ (y_ne hY_ld hY_hd rfl))
              replace hs_ad := y_slk hs_ad (ho _ (y_ne hY_ld hY_hd rfl))
              replace hsi_things := y_slk hsi_things (ho _ (y_ne hY_ld hY_hd rfl))
              replace hA_ad := hA_ad.kept (ho _ (y_ne hY_ad hY_hd rfl))
              replace hA_hn := hA_hn.kept (ho _ (y_ne hY_hn hY_hd rfl))
              replace hL := hL.wr hY_ld hY_hd (by decide) ho
              replace hLn := hLn.kept (fun k _ => y_slk rfl (ho _ (y_ne hY_ln hY_hd rfl)))
              replace hst9 := hst9.wr hY_hd (by decide) ho
              obtain ⟨z139, hg_z139⟩ : ∃ z139 : Int32, j + Int32.ofInt 1 = z139 := ⟨_, rfl⟩
              have h_z139 : z139.toInt = j.toInt + 1 := by rw [← hg_z139]; exact y_inc (by decide) (by omega) (by omega)
              refine lv_iinc hx hb gtq_d139 hl (k := 1) rfl hg_z139 (by decide) (lv' := [(4, .int z139), (5, .ref sn), (0, .ref this), (1, .ref ld), (2, .int y), (3, .int pr)]) rfl fun ls hl => ?_
              refine lv_goto hx hb gtq_d142 (tgt := 3) (by decide) ?_
              have hnj := m_nj hj.1
              have his : z139.toInt.toNat = j.toInt.toNat + 1 := by omega
              have hcN : m_gc lq f y j.toInt.toNat = true := by unfold m_gc; rw [show 61 + 7 * j.toInt.toNat = 60 + 7 * j.toInt.toNat + 1 by omega, show 62 + 7 * j.toInt.toNat = 60 + 7 * j.toInt.toNat + 2 by omega, hg_e27, hg_e32, hmt, Bool.true_and]; first | (rw [if_pos (hg_e67.trans q69), hg_r77, ← hg_e27, ← hg_e32, hg_e50, hg_e55]; exact hnw) | (rw [if_neg (fun q9 => q69 (hg_e67.symm.trans q9)), hg_r77, ← hg_e27, ← hg_e32, hg_e50, hg_e55]; exact hnw)
              have hcD : m_gd lq f y j.toInt.toNat = true := by unfold m_gd; rw [show 61 + 7 * j.toInt.toNat = 60 + 7 * j.toInt.toNat + 1 by omega, show 62 + 7 * j.toInt.toNat = 60 + 7 * j.toInt.toNat + 2 by omega, hg_e27, hg_e32, hmt, Bool.true_and, hg_r117, ← hg_e27, ← hg_e32, hg_e105, hg_e110]; exact hdn
              exact ih _ _ _ _ _ _ _ hI hY_this hY_ld hY_ln hY_hn hY_hd hY_astones hY_ad hs_ln hs_hn hs_hd hs_astones hs_ad hsi_things hA_ad hA_hn hA_hd hL hLn (lv_sub hl [0, 2, 3, 4, 5] rfl) (by first | assumption | omega) (by rw [his, m_gg_T hcN, hnj, ← hf_f98, hfn, y_up_up]; refine congrArg _ ?_; rw [← hg_z97, ← hg_z96, ← hg_e92, hfn, y_up_at]; rfl) (by rw [his, m_gg_T hcD, hnj, ← hf_f138, hfd, y_up_up]; refine congrArg _ ?_; rw [← hg_z137, ← hg_z136, ← hg_e132, hfd, y_up_at]; rfl) (by omega)
      · have q38_ : r35.toInt = (0 : Int32).toInt := by rw [q38]
        have hmt := m_b0 (hg_r35.trans q38)
        refine lv_goto hx hb gtq_d41 (tgt := 139) (by decide) ?_
        obtain ⟨z139, hg_z139⟩ : ∃ z139 : Int32, j + Int32.ofInt 1 = z139 := ⟨_, rfl⟩
        have h_z139 : z139.toInt = j.toInt + 1 := by rw [← hg_z139]; exact y_inc (by decide) (by omega) (by omega)
        refine lv_iinc hx hb gtq_d139 hl (k := 1) rfl hg_z139 (by decide) (lv' := [(4, .int z139), (5, .ref sn), (0, .ref this), (1, .ref ld), (2, .int y), (3, .int pr)]) rfl fun ls hl => ?_
        refine lv_goto hx hb gtq_d142 (tgt := 3) (by decide) ?_
        have hnj := m_nj hj.1
        have his : z139.toInt.toNat = j.toInt.toNat + 1 := by omega
        have hcN : m_gc lq f y j.toInt.toNat = false := by unfold m_gc; rw [show 61 + 7 * j.toInt.toNat = 60 + 7 * j.toInt.toNat + 1 by omega, show 62 + 7 * j.toInt.toNat = 60 + 7 * j.toInt.toNat + 2 by omega, hg_e27, hg_e32, hmt, Bool.false_and]
        have hcD : m_gd lq f y j.toInt.toNat = false := by unfold m_gd; rw [show 61 + 7 * j.toInt.toNat = 60 + 7 * j.toInt.toNat + 1 by omega, show 62 + 7 * j.toInt.toNat = 60 + 7 * j.toInt.toNat + 2 by omega, hg_e27, hg_e32, hmt, Bool.false_and]
        exact ih _ _ _ _ _ _ _ hI hY_this hY_ld hY_ln hY_hn hY_hd hY_astones hY_ad hs_ln hs_hn hs_hd hs_astones hs_ad hsi_things hA_ad hA_hn hA_hd hL hLn (lv_sub hl [0, 2, 3, 4, 5] rfl) (by first | assumption | omega) (by rw [his, m_gg_F hcN]; exact hfn) (by rw [his, m_gg_F hcD]; exact hfd) (by omega)
theorem ym_gatherT : y_Met vwCl x_G x_Zs x_Tb x_Nb xM48 z_ALn z_Pgt := by
  refine y_main (by decide +kernel) (by decide +kernel) x_Tb_good x_Nb_ok ?_
  intro p l e s m below meth c D U Y0 av ls B hI hpre hl
  have X := B.1
  have hx := X.1
  have hb := X.2.1
  have hY0 := B.2.2.2.2.1
  obtain ⟨v0, v1, v2, v3, rfl, hv0, hv1, ⟨y, rfl, -⟩, ⟨pr, rfl, hpr⟩⟩ := y_four B.2.2.2.2.2
  replace hpr : (0 : Int) ≤ pr.toInt ∧ pr.toInt ≤ 99 := hpr
  obtain ⟨this, t0, rfl, ht0, hY_this⟩ := x_ref_at hv0 rfl
  obtain rfl := List.mem_singleton.mp ht0
  obtain ⟨ld, t1, rfl, ht1, hY_ld⟩ := x_ref_at hv1 rfl
  obtain rfl := List.mem_singleton.mp ht1
  replace hl : lv_has ls xM48.2.2.1 [(0, .ref this), (1, .ref ld), (2, .int y), (3, .int pr)] := hl
  obtain ⟨f, hL⟩ := hpre _ rfl
  have hL0 := hL
  have hsi_hills := hL.1.1
  have hsi_things := hL.1.2.1
  have hd0 : 0 ≤ (f 0).toInt ∧ (f 0).toInt ≤ 10 := by
    obtain ⟨x9, e9, b9⟩ := y_fldI (k := 0) hI.1 hY_ld rfl rfl
    rw [hsi_hills] at e9
    cases e9
    exact b9
  have hd1 : 0 ≤ (f 1).toInt ∧ (f 1).toInt ≤ 8 := by
    obtain ⟨x9, e9, b9⟩ := y_fldI (k := 6) hI.1 hY_ld rfl rfl
    rw [hsi_things] at e9
    cases e9
    exact b9
  obtain ⟨ln, hs_ln, hY_ln⟩ := y_fldR (k := 0) hI.1 hY_this rfl rfl
  obtain ⟨lq, hLn⟩ := z_LnE hI.1 hY_ln
  have hLn0 := hLn
  have hs0 := hs_ln
  obtain ⟨hn, hs_hn, hY_hn⟩ := y_fldR (k := 2) hI.1 hY_this rfl rfl
  obtain ⟨fn0, hA_hn, -⟩ := y_arr hI.1 hY_hn rfl rfl
  obtain ⟨hd, hs_hd, hY_hd⟩ := y_fldR (k := 3) hI.1 hY_this rfl rfl
  obtain ⟨fd0, hA_hd, -⟩ := y_arr hI.1 hY_hd rfl rfl
  have hs2 := hs_hn
  have hs3 := hs_hd
  have hAn0 := hA_hn
  have hAd0 := hA_hd
  obtain ⟨astones, hs_astones, hY_astones, -⟩ := hL.2.2.1
  obtain ⟨ad, hs_ad, hY_ad, hA_ad⟩ := hL.2.1 (8, 25, 8, 65, 7) (by decide)
  replace hA_ad : y_A ad 8 s.heap (fun j => f (65 + 7 * j)) := hA_ad
  refine lv_iconst hx hb gtq_d0 (v := 0) (by decide) ?_
  have ec0 : (0 : Int32).toInt = 0 := by decide
  refine lv_istore hx hb gtq_d1 hl (by decide) (lv' := [(4, .int (0 : Int32)), (0, .ref this), (1, .ref ld), (2, .int y), (3, .int pr)]) rfl fun ls hl => ?_
  exact gtq_L3 B rfl hs0 hs2 hs3 hL0 hLn0 hAn0 hAd0 hd1 hpr 10 _ _ _ _ _ _ _ hI hY_this hY_ld hY_ln hY_hn hY_hd hY_astones hY_ad hs_ln hs_hn hs_hd hs_astones hs_ad hsi_things hA_ad hA_hn hA_hd hL hLn (lv_sub hl [0, 1, 2, 3, 4] rfl) (by first | assumption | omega) y_up_id.symm y_up_id.symm (by omega)

