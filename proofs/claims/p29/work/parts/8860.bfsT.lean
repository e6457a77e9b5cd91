def z_Pnr : yP := fun _ av _ _ v _ _ => ∀ (a b : Int32), av = [.int a, .int b] → v = some (.int (m_b (m_nr a b)))
theorem nrq_d0 : decode xM94.2.1 0 = .ok (.iload_n 0, 1) := dz_ok (by decide +kernel)
theorem nrq_d1 : decode xM94.2.1 1 = .ok (.iload_n 1, 1) := dz_ok (by decide +kernel)
theorem nrq_d2 : decode xM94.2.1 2 = .ok (.ixor, 1) := dz_ok (by decide +kernel)
theorem nrq_d3 : decode xM94.2.1 3 = .ok (.invokestatic 37, 3) := dz_ok (by decide +kernel)
theorem nrq_d6 : decode xM94.2.1 6 = .ok (.iconst 2, 1) := dz_ok (by decide +kernel)
theorem nrq_d7 : decode xM94.2.1 7 = .ok (.if_icmp .gt 7, 3) := dz_ok (by decide +kernel)
theorem nrq_d10 : decode xM94.2.1 10 = .ok (.iconst 1, 1) := dz_ok (by decide +kernel)
theorem nrq_d11 : decode xM94.2.1 11 = .ok (.goto 4, 3) := dz_ok (by decide +kernel)
theorem nrq_d14 : decode xM94.2.1 14 = .ok (.iconst 0, 1) := dz_ok (by decide +kernel)
theorem nrq_d15 : decode xM94.2.1 15 = .ok (.ireturn, 1) := dz_ok (by decide +kernel)
theorem ym_isNear : y_Met vwCl x_G x_Zs x_Tb x_Nb xM94 y_T z_Pnr := by
  refine y_main (by decide +kernel) (by decide +kernel) x_Tb_good x_Nb_ok ?_
  intro p l e s m below meth c D U Y0 av ls B hI _ hl
  have X := B.1
  have hx := X.1
  have hb := X.2.1
  have hY0 := B.2.2.2.2.1
  obtain ⟨v0, v1, rfl, ⟨a, rfl, -⟩, ⟨b, rfl, -⟩⟩ := x_two B.2.2.2.2.2
  replace hl : lv_has ls xM94.2.2.1 [(0, .int a), (1, .int b)] := hl
  refine lv_iload_n hx hb nrq_d0 rfl (lv_at hl 0 rfl) ?_
  refine lv_iload_n hx hb nrq_d1 rfl (lv_at hl 1 rfl) ?_
  refine lv_ixor hx hb nrq_d2 ?_
  generalize hg_z2 : a ^^^ b = z2
  refine y_call (z := (1, 37, 1, none, xM71)) (av := [.int z2]) (rest := []) (y_cokS (n := 1) X ym_bitCount (x_cons (x_bw44 9 rfl rfl) (x_cons (x_bw43 2 rfl rfl) (x_cons (x_bw1 5 rfl rfl) x_nilm))) (x_bw43 3 rfl rfl) (by decide +kernel) ⟨Nat.le_of_ble_eq_true rfl, Nat.le_of_ble_eq_true rfl⟩) hY0 hI rfl nrq_d3 hl.1 (Nat.le_of_ble_eq_true rfl) (Nat.le_of_ble_eq_true rfl) (Nat.le_of_ble_eq_true rfl) (y_cons ⟨_, rfl, x_i32 _⟩ y_nil) rfl (y_norecv rfl) trivial (y_sub_ef rfl) fun v Yn o Hn L ho hr ha hIn hx_ hE hP => ?_
  have hPm := hP _ rfl
  obtain rfl := hPm
  generalize hg_r3 : m_bc z2 = r3
  clear ho hr ha hE hP hI hx_
  rename x_I _ _ _ _ _ _ _ _ _ _ => hI
  refine lv_iconst hx hb nrq_d6 (v := 2) (by decide) ?_
  have ec2 : (2 : Int32).toInt = 2 := by decide
  refine lv_icmp_gt hx hb nrq_d7 (tgt := 14) (by decide) (fun q7 => ?_) (fun q7 => ?_)
  · have q7_ : (2 : Int32).toInt < r3.toInt := x_lt32.mp q7
    refine lv_iconst hx hb nrq_d14 (v := 0) (by decide) ?_
    have ec0 : (0 : Int32).toInt = 0 := by decide
    exact y_ireturn B hI rfl rfl rfl (List.mem_cons_of_mem _ List.mem_cons_self) ⟨_, rfl, ⟨_, rfl, by decide, by decide⟩⟩ (x_cs.mono B.2.2.2.2.2 (y_mon B hI)) (fun a' b' h1 => by cases h1; refine congrArg (fun x => some (Value.int x)) ?_; unfold m_nr; rw [hg_z2, hg_r3]; first | (rw [decide_eq_true (show r3.toInt ≤ 2 by omega)]; rfl) | (rw [decide_eq_false (show ¬ r3.toInt ≤ 2 by omega)]; rfl)) (Nat.le_refl _) (Nat.le_refl _) nrq_d15
  · have q7_ : r3.toInt ≤ (2 : Int32).toInt := Int.not_lt.mp fun q => q7 (x_lt32.mpr q)
    refine lv_iconst hx hb nrq_d10 (v := 1) (by decide) ?_
    have ec1 : (1 : Int32).toInt = 1 := by decide
    refine lv_goto hx hb nrq_d11 (tgt := 15) (by decide) ?_
    exact y_ireturn B hI rfl rfl rfl List.mem_cons_self ⟨_, rfl, ⟨_, rfl, by decide, by decide⟩⟩ (x_cs.mono B.2.2.2.2.2 (y_mon B hI)) (fun a' b' h1 => by cases h1; refine congrArg (fun x => some (Value.int x)) ?_; unfold m_nr; rw [hg_z2, hg_r3]; first | (rw [decide_eq_true (show r3.toInt ≤ 2 by omega)]; rfl) | (rw [decide_eq_false (show ¬ r3.toInt ≤ 2 by omega)]; rfl)) (Nat.le_refl _) (Nat.le_refl _) nrq_d15
