/-! WHAT A CALL ANSWERS of sight: V what each hill sees, n what bits it counts by -/
def m_isS (f : Nat → Int32) (s : Int32) : Prop := 0 ≤ s.toInt ∧ s.toInt ≤ (z_all (f 0)).toInt
theorem m_shB : ∀ k : Fin 11, ((1 : Int32) <<< (nI k &&& 31)).toInt = (z_all (nI k)).toInt + 1 := by decide
theorem m_sh1 {n : Int32} (h : 0 ≤ n.toInt ∧ n.toInt ≤ 10) : ((1 : Int32) <<< (n &&& 31)).toInt = (z_all n).toInt + 1 := by
  have := m_shB ⟨n.toInt.toNat, by omega⟩
  rw [m_nj h.1] at this; exact this
def z_Phset : yP := fun D av Y H v _ _ => ∀ (this : Nat) (i : Int32) (f : Nat → Int32), av = [.ref this, .int i] → x_sl D 2 0 this H = some (.int (f 0)) → ∃ r : Int32, v = some (.int r) ∧ (¬ r = 0 → m_isS f i) ∧ (r = 0 → ¬ m_isS f i)
theorem hsetq_d0 : decode xM67.2.1 0 = .ok (.iload_n 1, 1) := dz_ok (by decide +kernel)
theorem hsetq_d1 : decode xM67.2.1 1 = .ok (.ifCond .lt 17, 3) := dz_ok (by decide +kernel)
theorem hsetq_d4 : decode xM67.2.1 4 = .ok (.iload_n 1, 1) := dz_ok (by decide +kernel)
theorem hsetq_d5 : decode xM67.2.1 5 = .ok (.iconst 1, 1) := dz_ok (by decide +kernel)
theorem hsetq_d6 : decode xM67.2.1 6 = .ok (.aload_n 0, 1) := dz_ok (by decide +kernel)
theorem hsetq_d7 : decode xM67.2.1 7 = .ok (.getfield 63, 3) := dz_ok (by decide +kernel)
theorem hsetq_d10 : decode xM67.2.1 10 = .ok (.ishl, 1) := dz_ok (by decide +kernel)
theorem hsetq_d11 : decode xM67.2.1 11 = .ok (.if_icmp .ge 7, 3) := dz_ok (by decide +kernel)
theorem hsetq_d14 : decode xM67.2.1 14 = .ok (.iconst 1, 1) := dz_ok (by decide +kernel)
theorem hsetq_d15 : decode xM67.2.1 15 = .ok (.goto 4, 3) := dz_ok (by decide +kernel)
theorem hsetq_d18 : decode xM67.2.1 18 = .ok (.iconst 0, 1) := dz_ok (by decide +kernel)
theorem hsetq_d19 : decode xM67.2.1 19 = .ok (.ireturn, 1) := dz_ok (by decide +kernel)
theorem ym_hasSet : y_Met vwCl x_G x_Zs x_Tb x_Nb xM67 y_T z_Phset := by
  refine y_main (by decide +kernel) (by decide +kernel) x_Tb_good x_Nb_ok ?_
  intro p l e s m below meth c D U Y0 av ls B hI _ hl
  have X := B.1
  have hx := X.1
  have hb := X.2.1
  have hY0 := B.2.2.2.2.1
  obtain ⟨v0, v1, rfl, hv0, ⟨i, rfl, -⟩⟩ := x_two B.2.2.2.2.2
  obtain ⟨this, t0, rfl, ht0, hY_this⟩ := x_ref_at hv0 rfl
  obtain rfl := List.mem_singleton.mp ht0
  replace hl : lv_has ls xM67.2.2.1 [(0, .ref this), (1, .int i)] := hl
  obtain ⟨n9, hn9, hb9⟩ := y_fldI (k := 0) hI.1 hY_this rfl rfl
  replace hb9 : (0 : Int) ≤ n9.toInt ∧ n9.toInt ≤ 10 := hb9
  have hn0 := hn9
  refine lv_iload_n hx hb hsetq_d0 rfl (lv_at hl 1 rfl) ?_
  have ec0 : (0 : Int32).toInt = 0 := by decide
  refine lv_if_lt hx hb hsetq_d1 (tgt := 18) (by decide) (fun q1 => ?_) (fun q1 => ?_)
  · have q1_ : i.toInt < (0 : Int32).toInt := x_lt32.mp q1
    refine lv_iconst hx hb hsetq_d18 (v := 0) (by decide) ?_
    exact y_ireturn B hI rfl rfl rfl (List.mem_cons_of_mem _ List.mem_cons_self) ⟨_, rfl, ⟨_, rfl, by decide, by decide⟩⟩ (x_cs.mono B.2.2.2.2.2 (y_mon B hI)) (fun t' i' f' h1 h2 => by cases h1; have e9 := z_intI hn0 h2; exact ⟨_, rfl, fun q9 => absurd rfl q9, fun _ q9 => by have h7 := m_sh1 hb9; have h8 := q9.1; have h6 := q9.2; rw [← e9] at h6; omega⟩) (Nat.le_refl _) (Nat.le_refl _) hsetq_d19
  · have q1_ : (0 : Int32).toInt ≤ i.toInt := Int.not_lt.mp fun q => q1 (x_lt32.mpr q)
    refine lv_iload_n hx hb hsetq_d4 rfl (lv_at hl 1 rfl) ?_
    refine lv_iconst hx hb hsetq_d5 (v := 1) (by decide) ?_
    have ec1 : (1 : Int32).toInt = 1 := by decide
    refine lv_aload_n hx hb hsetq_d6 rfl (lv_at hl 0 rfl) ?_
    refine y_getf X (fl2 X.2.2.2.2.1) hI.1 hY_this rfl hn9 hsetq_d7 ?_
    refine lv_ishl hx hb hsetq_d10 ?_
    generalize hg_z10 : (1 : Int32) <<< (n9 &&& 31) = z10
    refine lv_icmp_ge hx hb hsetq_d11 (tgt := 18) (by decide) (fun q11 => ?_) (fun q11 => ?_)
    · have q11_ : z10.toInt ≤ i.toInt := x_le32.mp q11
      refine lv_iconst hx hb hsetq_d18 (v := 0) (by decide) ?_
      subst hg_z10
      exact y_ireturn B hI rfl rfl rfl (List.mem_cons_of_mem _ List.mem_cons_self) ⟨_, rfl, ⟨_, rfl, by decide, by decide⟩⟩ (x_cs.mono B.2.2.2.2.2 (y_mon B hI)) (fun t' i' f' h1 h2 => by cases h1; have e9 := z_intI hn0 h2; exact ⟨_, rfl, fun q9 => absurd rfl q9, fun _ q9 => by have h7 := m_sh1 hb9; have h8 := q9.1; have h6 := q9.2; rw [← e9] at h6; omega⟩) (Nat.le_refl _) (Nat.le_refl _) hsetq_d19
    · have q11_ : i.toInt < z10.toInt := Int.not_le.mp fun q => q11 (x_le32.mpr q)
      refine lv_iconst hx hb hsetq_d14 (v := 1) (by decide) ?_
      refine lv_goto hx hb hsetq_d15 (tgt := 19) (by decide) ?_
      subst hg_z10
      exact y_ireturn B hI rfl rfl rfl List.mem_cons_self ⟨_, rfl, ⟨_, rfl, by decide, by decide⟩⟩ (z_cs22 (y_cref hY_this rfl) ⟨_, rfl, by show (0 : Int) ≤ _; omega, by show _ ≤ (1023 : Int); have h7 := m_sh1 hb9; have h6 := z_all_b hb9; omega⟩) (fun t' i' f' h1 h2 => by cases h1; have e9 := z_intI hn0 h2; exact ⟨_, rfl, fun _ => ⟨by omega, by have h7 := m_sh1 hb9; rw [← e9]; omega⟩, fun q9 => absurd q9 (by decide)⟩) (Nat.le_refl _) (Nat.le_refl _) hsetq_d19
