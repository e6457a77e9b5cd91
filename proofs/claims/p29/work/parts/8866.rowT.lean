def m_tw (V : Nat → Int32) (t : Int32) : Int32 := V t.toInt.toNat ||| ((1 : Int32) <<< (t &&& 31))
def z_Ptw : yP := fun D av _ H v _ _ => ∀ (this vw : Nat) (t : Int32) (V : Nat → Int32), av = [.ref this, .int t] → x_sl D 0 1 this H = some (.ref vw) → y_A vw 10 H V → v = some (.int (m_tw V t))
theorem twq_d0 : decode xM101.2.1 0 = .ok (.aload_n 0, 1) := dz_ok (by decide +kernel)
theorem twq_d1 : decode xM101.2.1 1 = .ok (.getfield 18, 3) := dz_ok (by decide +kernel)
theorem twq_d4 : decode xM101.2.1 4 = .ok (.iload_n 1, 1) := dz_ok (by decide +kernel)
theorem twq_d5 : decode xM101.2.1 5 = .ok (.iaload, 1) := dz_ok (by decide +kernel)
theorem twq_d6 : decode xM101.2.1 6 = .ok (.iconst 1, 1) := dz_ok (by decide +kernel)
theorem twq_d7 : decode xM101.2.1 7 = .ok (.iload_n 1, 1) := dz_ok (by decide +kernel)
theorem twq_d8 : decode xM101.2.1 8 = .ok (.ishl, 1) := dz_ok (by decide +kernel)
theorem twq_d9 : decode xM101.2.1 9 = .ok (.ior, 1) := dz_ok (by decide +kernel)
theorem twq_d10 : decode xM101.2.1 10 = .ok (.ireturn, 1) := dz_ok (by decide +kernel)
theorem ym_townView : y_Met vwCl x_G x_Zs x_Tb x_Nb xM101 y_T z_Ptw := by
  refine y_main (by decide +kernel) (by decide +kernel) x_Tb_good x_Nb_ok ?_
  intro p l e s m below meth c D U Y0 av ls B hI _ hl
  have X := B.1
  have hx := X.1
  have hb := X.2.1
  have hY0 := B.2.2.2.2.1
  obtain ⟨v0, v1, rfl, hv0, ⟨t, rfl, ht⟩⟩ := x_two B.2.2.2.2.2
  replace ht : (0 : Int) ≤ t.toInt ∧ t.toInt ≤ 9 := ht
  obtain ⟨this, t0, rfl, ht0, hY_this⟩ := x_ref_at hv0 rfl
  obtain rfl := List.mem_singleton.mp ht0
  replace hl : lv_has ls xM101.2.2.1 [(0, .ref this), (1, .int t)] := hl
  obtain ⟨vw, hs_vw, hY_vw⟩ := y_fldR (k := 1) hI.1 hY_this rfl rfl
  obtain ⟨V, hA_vw, -⟩ := y_arr hI.1 hY_vw rfl rfl
  have hs1 := hs_vw
  have hA0 := hA_vw
  refine lv_aload_n hx hb twq_d0 rfl (lv_at hl 0 rfl) ?_
  refine y_getf X (fl101 X.2.2.2.2.1) hI.1 hY_this rfl hs_vw twq_d1 ?_
  refine lv_iload_n hx hb twq_d4 rfl (lv_at hl 1 rfl) ?_
  refine y_iald X hI.1 hY_vw rfl hA_vw (by omega) (by show _ < (10 : Int); omega) twq_d5 ?_
  obtain ⟨e5, hg_e5⟩ : ∃ e5 : Int32, V t.toInt.toNat = e5 := ⟨_, rfl⟩
  rw [hg_e5]
  refine lv_iconst hx hb twq_d6 (v := 1) (by decide) ?_
  have ec1 : (1 : Int32).toInt = 1 := by decide
  refine lv_iload_n hx hb twq_d7 rfl (lv_at hl 1 rfl) ?_
  refine lv_ishl hx hb twq_d8 ?_
  generalize hg_z8 : (1 : Int32) <<< (t &&& 31) = z8
  refine lv_ior hx hb twq_d9 ?_
  generalize hg_z9 : e5 ||| z8 = z9
  exact y_ireturn B hI rfl rfl rfl List.mem_cons_self ⟨_, rfl, ⟨_, rfl, x_i32 _⟩⟩ (x_cs.mono B.2.2.2.2.2 (y_mon B hI)) (fun t' v' w' V' h1 h2 h3 => by cases h1; cases h2.symm.trans hs1; refine congrArg (fun x => some (Value.int x)) ?_; unfold m_tw; rw [z_AR h3 hA0 (show t.toInt.toNat < 10 by omega), hg_e5, hg_z8]; exact (Eq.symm hg_z9)) (Nat.le_refl _) (Nat.le_refl _) twq_d10
