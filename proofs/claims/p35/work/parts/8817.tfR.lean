section ZTF
variable {D : va_G} {Y : xY} {H H' : Heap} {q : Nat} {f f' : Nat → Int32} {K K' : Nat → Option (Nat → Int32)} {t t' : Nat → Int32} {n n' : Int32}
theorem z_RC.eqf (h : z_RC D Y H q f K t n) (h' : z_RC D Y H q f' K' t' n') : f = f' := by
  obtain ⟨hd, dr, kp, tx, by_, k, ⟨a1, -⟩, -, l1, -⟩ := h
  obtain ⟨hd', dr', kp', tx', by', k', ⟨a1', -⟩, -, l1', -⟩ := h'
  cases a1.symm.trans a1'
  exact l1.uniq l1'
theorem z_fldE {ef : List (Nat × Nat)} (hE : x_E D x_G ef Y H H') (hq : Y q = some 2) (hn : ef.all (fun z => !(Nat.beq z.1 2) || (Nat.beq z.2 0 || (Nat.beq z.2 6 || Nat.beq z.2 12))) = true) : z_fld D q H H' := fun k hk h0 h6 h12 => y_Efld hE hq rfl hk (fun hz => by
  have h1 := List.all_eq_true.mp hn _ hz
  simp only [Bool.or_eq_true, Bool.not_eq_true'] at h1
  rcases h1 with h1 | h1 | h1 | h1
  · exact absurd h1 (by show ¬ (Nat.beq 2 2 = false); decide)
  · exact h0 (Nat.eq_of_beq_eq_true h1)
  · exact h6 (Nat.eq_of_beq_eq_true h1)
  · exact h12 (Nat.eq_of_beq_eq_true h1)) rfl
end ZTF
def z_ATF : yA := fun D av Y H => ∀ this : Nat, av[0]? = some (.ref this) → ∃ f K t n, z_RC D Y H this f K t n
def z_Phh : yP := fun D av Y H v _ _ => ∀ (this : Nat) (i : Int32) (f : Nat → Int32), av = [.ref this, .int i] → x_sl D 2 0 this H = some (.int (f 0)) → ∃ r : Int32, v = some (.int r) ∧ (¬ r = 0 → m_isH f i) ∧ (r = 0 → ¬ m_isH f i)
theorem hh_d0 : decode xM40.2.1 0 = .ok (.iload_n 1, 1) := dz_ok (by decide +kernel)
theorem hh_d1 : decode xM40.2.1 1 = .ok (.ifCond .lt 15, 3) := dz_ok (by decide +kernel)
theorem hh_d4 : decode xM40.2.1 4 = .ok (.iload_n 1, 1) := dz_ok (by decide +kernel)
theorem hh_d5 : decode xM40.2.1 5 = .ok (.aload_n 0, 1) := dz_ok (by decide +kernel)
theorem hh_d6 : decode xM40.2.1 6 = .ok (.getfield 63, 3) := dz_ok (by decide +kernel)
theorem hh_d9 : decode xM40.2.1 9 = .ok (.if_icmp .ge 7, 3) := dz_ok (by decide +kernel)
theorem hh_d12 : decode xM40.2.1 12 = .ok (.iconst 1, 1) := dz_ok (by decide +kernel)
theorem hh_d13 : decode xM40.2.1 13 = .ok (.goto 4, 3) := dz_ok (by decide +kernel)
theorem hh_d16 : decode xM40.2.1 16 = .ok (.iconst 0, 1) := dz_ok (by decide +kernel)
theorem hh_d17 : decode xM40.2.1 17 = .ok (.ireturn, 1) := dz_ok (by decide +kernel)
theorem ym_hasHill : y_Met vwCl x_G x_Zs x_Tb x_Nb xM40 y_T z_Phh := by
  refine y_main (by decide +kernel) (by decide +kernel) x_Tb_good x_Nb_ok ?_
  intro p l e s m below meth c D U Y0 av ls B hI _ hl
  have X := B.1
  have hx := X.1
  have hb := X.2.1
  have hY0 := B.2.2.2.2.1
  obtain ⟨v0, v1, rfl, hv0, ⟨i, rfl, -⟩⟩ := x_two B.2.2.2.2.2
  obtain ⟨this, t0, rfl, ht0, hY_this⟩ := x_ref_at hv0 rfl
  obtain rfl := List.mem_singleton.mp ht0
  replace hl : lv_has ls xM40.2.2.1 [(0, .ref this), (1, .int i)] := hl
  obtain ⟨z9, hz9, hb9⟩ := y_fldI (k := 0) hI.1 hY_this rfl rfl
  replace hb9 : (0 : Int) ≤ z9.toInt ∧ z9.toInt ≤ 10 := hb9
  have hz0 := hz9
  refine lv_iload_n hx hb hh_d0 rfl (lv_at hl 1 rfl) ?_
  have ec0 : (0 : Int32).toInt = 0 := by decide
  refine lv_if_lt hx hb hh_d1 (tgt := 16) (by decide) (fun q1 => ?_) (fun q1 => ?_)
  · have q1_ : i.toInt < (0 : Int32).toInt := x_lt32.mp q1
    refine lv_iconst hx hb hh_d16 (v := 0) (by decide) ?_
    exact y_ireturn B hI rfl rfl rfl (List.mem_cons_of_mem _ List.mem_cons_self) ⟨_, rfl, ⟨_, rfl, by decide, by decide⟩⟩ (x_cs.mono B.2.2.2.2.2 (y_mon B hI)) (fun t' i' f' h1 h2 => by cases h1; have e9 := h2.symm.trans hz0; injection e9 with e9; injection e9 with e9; exact ⟨_, rfl, fun q9 => by first | exact absurd rfl q9 | (unfold m_isH; rw [e9]; omega), fun q9 q8 => by first | exact absurd q9 (by decide) | (unfold m_isH at q8; rw [e9] at q8; omega)⟩) (Nat.le_refl _) (Nat.le_refl _) hh_d17
  · have q1_ : (0 : Int32).toInt ≤ i.toInt := Int.not_lt.mp fun q => q1 (x_lt32.mpr q)
    refine lv_iload_n hx hb hh_d4 rfl (lv_at hl 1 rfl) ?_
    refine lv_aload_n hx hb hh_d5 rfl (lv_at hl 0 rfl) ?_
    refine y_getf X (fl2 X.2.2.2.2.1) hI.1 hY_this rfl hz9 hh_d6 ?_
    refine lv_icmp_ge hx hb hh_d9 (tgt := 16) (by decide) (fun q9 => ?_) (fun q9 => ?_)
    · have q9_ : z9.toInt ≤ i.toInt := x_le32.mp q9
      refine lv_iconst hx hb hh_d16 (v := 0) (by decide) ?_
      exact y_ireturn B hI rfl rfl rfl (List.mem_cons_of_mem _ List.mem_cons_self) ⟨_, rfl, ⟨_, rfl, by decide, by decide⟩⟩ (x_cs.mono B.2.2.2.2.2 (y_mon B hI)) (fun t' i' f' h1 h2 => by cases h1; have e9 := h2.symm.trans hz0; injection e9 with e9; injection e9 with e9; exact ⟨_, rfl, fun q9 => by first | exact absurd rfl q9 | (unfold m_isH; rw [e9]; omega), fun q9 q8 => by first | exact absurd q9 (by decide) | (unfold m_isH at q8; rw [e9] at q8; omega)⟩) (Nat.le_refl _) (Nat.le_refl _) hh_d17
    · have q9_ : i.toInt < z9.toInt := Int.not_le.mp fun q => q9 (x_le32.mpr q)
      refine lv_iconst hx hb hh_d12 (v := 1) (by decide) ?_
      have ec1 : (1 : Int32).toInt = 1 := by decide
      refine lv_goto hx hb hh_d13 (tgt := 17) (by decide) ?_
      exact y_ireturn B hI rfl rfl rfl List.mem_cons_self ⟨_, rfl, ⟨_, rfl, by decide, by decide⟩⟩ (z_cs22 (y_cref hY_this rfl) ⟨_, rfl, by show (0 : Int) ≤ _; omega, by show _ ≤ (9 : Int); omega⟩) (fun t' i' f' h1 h2 => by cases h1; have e9 := h2.symm.trans hz0; injection e9 with e9; injection e9 with e9; exact ⟨_, rfl, fun q9 => by first | exact absurd rfl q9 | (unfold m_isH; rw [e9]; omega), fun q9 q8 => by first | exact absurd q9 (by decide) | (unfold m_isH at q8; rw [e9] at q8; omega)⟩) (Nat.le_refl _) (Nat.le_refl _) hh_d17
def z_Pht : yP := fun D av Y H v _ _ => ∀ (this : Nat) (i : Int32) (f : Nat → Int32), av = [.ref this, .int i] → x_sl D 2 6 this H = some (.int (f 1)) → ∃ r : Int32, v = some (.int r) ∧ (¬ r = 0 → m_isT f i) ∧ (r = 0 → ¬ m_isT f i)
theorem ht_d0 : decode xM25.2.1 0 = .ok (.iload_n 1, 1) := dz_ok (by decide +kernel)
theorem ht_d1 : decode xM25.2.1 1 = .ok (.ifCond .lt 15, 3) := dz_ok (by decide +kernel)
theorem ht_d4 : decode xM25.2.1 4 = .ok (.iload_n 1, 1) := dz_ok (by decide +kernel)
theorem ht_d5 : decode xM25.2.1 5 = .ok (.aload_n 0, 1) := dz_ok (by decide +kernel)
theorem ht_d6 : decode xM25.2.1 6 = .ok (.getfield 73, 3) := dz_ok (by decide +kernel)
theorem ht_d9 : decode xM25.2.1 9 = .ok (.if_icmp .ge 7, 3) := dz_ok (by decide +kernel)
theorem ht_d12 : decode xM25.2.1 12 = .ok (.iconst 1, 1) := dz_ok (by decide +kernel)
theorem ht_d13 : decode xM25.2.1 13 = .ok (.goto 4, 3) := dz_ok (by decide +kernel)
theorem ht_d16 : decode xM25.2.1 16 = .ok (.iconst 0, 1) := dz_ok (by decide +kernel)
theorem ht_d17 : decode xM25.2.1 17 = .ok (.ireturn, 1) := dz_ok (by decide +kernel)
theorem ym_hasThing : y_Met vwCl x_G x_Zs x_Tb x_Nb xM25 y_T z_Pht := by
  refine y_main (by decide +kernel) (by decide +kernel) x_Tb_good x_Nb_ok ?_
  intro p l e s m below meth c D U Y0 av ls B hI _ hl
  have X := B.1
  have hx := X.1
  have hb := X.2.1
  have hY0 := B.2.2.2.2.1
  obtain ⟨v0, v1, rfl, hv0, ⟨i, rfl, -⟩⟩ := x_two B.2.2.2.2.2
  obtain ⟨this, t0, rfl, ht0, hY_this⟩ := x_ref_at hv0 rfl
  obtain rfl := List.mem_singleton.mp ht0
  replace hl : lv_has ls xM25.2.2.1 [(0, .ref this), (1, .int i)] := hl
  obtain ⟨z9, hz9, hb9⟩ := y_fldI (k := 6) hI.1 hY_this rfl rfl
  replace hb9 : (0 : Int) ≤ z9.toInt ∧ z9.toInt ≤ 8 := hb9
  have hz0 := hz9
  refine lv_iload_n hx hb ht_d0 rfl (lv_at hl 1 rfl) ?_
  have ec0 : (0 : Int32).toInt = 0 := by decide
  refine lv_if_lt hx hb ht_d1 (tgt := 16) (by decide) (fun q1 => ?_) (fun q1 => ?_)
  · have q1_ : i.toInt < (0 : Int32).toInt := x_lt32.mp q1
    refine lv_iconst hx hb ht_d16 (v := 0) (by decide) ?_
    exact y_ireturn B hI rfl rfl rfl (List.mem_cons_of_mem _ List.mem_cons_self) ⟨_, rfl, ⟨_, rfl, by decide, by decide⟩⟩ (x_cs.mono B.2.2.2.2.2 (y_mon B hI)) (fun t' i' f' h1 h2 => by cases h1; have e9 := h2.symm.trans hz0; injection e9 with e9; injection e9 with e9; exact ⟨_, rfl, fun q9 => by first | exact absurd rfl q9 | (unfold m_isT; rw [e9]; omega), fun q9 q8 => by first | exact absurd q9 (by decide) | (unfold m_isT at q8; rw [e9] at q8; omega)⟩) (Nat.le_refl _) (Nat.le_refl _) ht_d17
  · have q1_ : (0 : Int32).toInt ≤ i.toInt := Int.not_lt.mp fun q => q1 (x_lt32.mpr q)
    refine lv_iload_n hx hb ht_d4 rfl (lv_at hl 1 rfl) ?_
    refine lv_aload_n hx hb ht_d5 rfl (lv_at hl 0 rfl) ?_
    refine y_getf X (fl42 X.2.2.2.2.1) hI.1 hY_this rfl hz9 ht_d6 ?_
    refine lv_icmp_ge hx hb ht_d9 (tgt := 16) (by decide) (fun q9 => ?_) (fun q9 => ?_)
    · have q9_ : z9.toInt ≤ i.toInt := x_le32.mp q9
      refine lv_iconst hx hb ht_d16 (v := 0) (by decide) ?_
      exact y_ireturn B hI rfl rfl rfl (List.mem_cons_of_mem _ List.mem_cons_self) ⟨_, rfl, ⟨_, rfl, by decide, by decide⟩⟩ (x_cs.mono B.2.2.2.2.2 (y_mon B hI)) (fun t' i' f' h1 h2 => by cases h1; have e9 := h2.symm.trans hz0; injection e9 with e9; injection e9 with e9; exact ⟨_, rfl, fun q9 => by first | exact absurd rfl q9 | (unfold m_isT; rw [e9]; omega), fun q9 q8 => by first | exact absurd q9 (by decide) | (unfold m_isT at q8; rw [e9] at q8; omega)⟩) (Nat.le_refl _) (Nat.le_refl _) ht_d17
    · have q9_ : i.toInt < z9.toInt := Int.not_le.mp fun q => q9 (x_le32.mpr q)
      refine lv_iconst hx hb ht_d12 (v := 1) (by decide) ?_
      have ec1 : (1 : Int32).toInt = 1 := by decide
      refine lv_goto hx hb ht_d13 (tgt := 17) (by decide) ?_
      exact y_ireturn B hI rfl rfl rfl List.mem_cons_self ⟨_, rfl, ⟨_, rfl, by decide, by decide⟩⟩ (z_cs22 (y_cref hY_this rfl) ⟨_, rfl, by show (0 : Int) ≤ _; omega, by show _ ≤ (7 : Int); omega⟩) (fun t' i' f' h1 h2 => by cases h1; have e9 := h2.symm.trans hz0; injection e9 with e9; injection e9 with e9; exact ⟨_, rfl, fun q9 => by first | exact absurd rfl q9 | (unfold m_isT; rw [e9]; omega), fun q9 q8 => by first | exact absurd q9 (by decide) | (unfold m_isT at q8; rw [e9] at q8; omega)⟩) (Nat.le_refl _) (Nat.le_refl _) ht_d17
def z_PTThi : yP := fun D av Y H v Y' H' => ∀ (this : Nat) (x y z : Int32) (f : Nat → Int32) (K : Nat → Option (Nat → Int32)) (t9 : Nat → Int32) (n9 : Int32), av = [.ref this, .int x, .int y, .int z] → z_RC D Y H this f K t9 n9 → ∃ (r : Int32) (g : Nat → Int32), v = some (.int r) ∧ z_RC D Y' H' this g K t9 n9 ∧ m_hill f x y z r g
theorem Thi_d0 : decode xM9.2.1 0 = .ok (.aload_n 0, 1) := dz_ok (by decide +kernel)
theorem Thi_d1 : decode xM9.2.1 1 = .ok (.aload_n 0, 1) := dz_ok (by decide +kernel)
theorem Thi_d2 : decode xM9.2.1 2 = .ok (.getfield 12, 3) := dz_ok (by decide +kernel)
theorem Thi_d5 : decode xM9.2.1 5 = .ok (.iload_n 1, 1) := dz_ok (by decide +kernel)
theorem Thi_d6 : decode xM9.2.1 6 = .ok (.iload_n 2, 1) := dz_ok (by decide +kernel)
theorem Thi_d7 : decode xM9.2.1 7 = .ok (.iload_n 3, 1) := dz_ok (by decide +kernel)
theorem Thi_d8 : decode xM9.2.1 8 = .ok (.invokevirtual 55, 3) := dz_ok (by decide +kernel)
theorem Thi_d11 : decode xM9.2.1 11 = .ok (.invokevirtual 59, 3) := dz_ok (by decide +kernel)
theorem Thi_d14 : decode xM9.2.1 14 = .ok (.ireturn, 1) := dz_ok (by decide +kernel)
theorem ym_Thill : y_Met vwCl x_G x_Zs x_Tb x_Nb xM9 z_ATF z_PTThi := by
  refine y_main (by decide +kernel) (by decide +kernel) x_Tb_good x_Nb_ok ?_
  intro p l e s m below meth c D U Y0 av ls B hI hpre hl
  have X := B.1
  have hx := X.1
  have hb := X.2.1
  have hY0 := B.2.2.2.2.1
  obtain ⟨v0, v1, v2, v3, rfl, hv0, ⟨x, rfl, -⟩, ⟨y, rfl, -⟩, ⟨z, rfl, -⟩⟩ := y_four B.2.2.2.2.2
  obtain ⟨this, t0, rfl, ht0, hY_this⟩ := x_ref_at hv0 rfl
  obtain rfl := List.mem_singleton.mp ht0
  replace hl : lv_has ls xM9.2.2.1 [(0, .ref this), (1, .int x), (2, .int y), (3, .int z)] := hl
  have hYt0 := hY_this
  obtain ⟨f, K, tt, nn, hR0⟩ := hpre _ rfl
  obtain ⟨hd, dr, kp, tx, by_, kk, ⟨hs_hd, -⟩, ⟨hY_hd, -⟩, hL, -⟩ := id hR0
  have hs0_hd := hs_hd
  have hF : z_fq D Y0 s.heap s.heap hd := fun _ _ _ _ _ _ _ _ => x_eq.of rfl
  have hfld : z_fld D hd s.heap s.heap := fun _ _ _ _ _ => rfl
  have hn0 := hL.1.1
  have hn1 := hL.1.2.1
  have hn2 := hL.1.2.2
  have hb0 : 0 ≤ (f 0).toInt ∧ (f 0).toInt ≤ 10 := by obtain ⟨x9, e9, b9⟩ := y_fldI (k := 0) hI.1 hY_hd rfl rfl; rw [hn0] at e9; cases e9; exact b9
  have hb1 : 0 ≤ (f 1).toInt ∧ (f 1).toInt ≤ 8 := by obtain ⟨x9, e9, b9⟩ := y_fldI (k := 6) hI.1 hY_hd rfl rfl; rw [hn1] at e9; cases e9; exact b9
  have hb2 : 0 ≤ (f 2).toInt ∧ (f 2).toInt ≤ 8 := by obtain ⟨x9, e9, b9⟩ := y_fldI (k := 12) hI.1 hY_hd rfl rfl; rw [hn2] at e9; cases e9; exact b9
  refine lv_aload_n hx hb Thi_d0 rfl (lv_at hl 0 rfl) ?_
  refine lv_aload_n hx hb Thi_d1 rfl (lv_at hl 0 rfl) ?_
  refine y_getf X (fl8 X.2.2.2.2.1) hI.1 hY_this rfl hs_hd Thi_d2 ?_
  refine lv_iload_n hx hb Thi_d5 rfl (lv_at hl 1 rfl) ?_
  refine lv_iload_n hx hb Thi_d6 rfl (lv_at hl 2 rfl) ?_
  refine lv_iload_n hx hb Thi_d7 rfl (lv_at hl 3 rfl) ?_
  refine y_call (z := (0, 55, 4, some 2, xM5)) (av := [.ref hd, .int x, .int y, .int z]) (rest := [.ref this]) (y_cokV (n := 3) (ci := 2) X ym_addHill rfl rfl rfl (x_cons (x_bw18 9 rfl rfl) (x_cons (x_bw18 10 rfl rfl) (x_cons (x_bw18 11 rfl rfl) (x_cons (x_bw0 2 rfl rfl) x_nilm)))) (x_bw18 12 rfl rfl) (by decide +kernel) ⟨Nat.le_of_ble_eq_true rfl, Nat.le_of_ble_eq_true rfl⟩) hY0 hI rfl Thi_d8 hl.1 (Nat.le_of_ble_eq_true rfl) (by exact Nat.le_of_ble_eq_true rfl) (by exact Nat.le_of_ble_eq_true rfl) (y_cons (y_cref hY_hd rfl) (y_cons ⟨_, rfl, x_i32 _⟩ (y_cons ⟨_, rfl, x_i32 _⟩ (y_cons ⟨_, rfl, x_i32 _⟩ y_nil)))) rfl (y_recv rfl hY_hd) (fun t' h1 => by cases h1; exact ⟨_, hL⟩) (y_sub_ef rfl) fun v Yn o Hn L ho hr ha hIn hx_ hE hP => ?_
  obtain ⟨hF9, r9, g9, rfl, hL9, hm9⟩ := hP _ _ _ _ _ rfl hL
  replace hL := hL9
  replace hF : z_fq D Y0 s.heap _ hd := hF9.toq
  replace hfld : z_fld D hd s.heap _ := z_fldE hE hY_hd (by decide +kernel)
  replace hs_hd := y_Efld hE hY_this rfl (by decide) (by decide) hs_hd
  replace hn1 := y_Efld hE hY_hd rfl (by decide) (by decide) hn1
  replace hn2 := y_Efld hE hY_hd rfl (by decide) (by decide) hn2
  replace hY_this := y_ext hx_ hI.1 hY_this
  replace hY_hd := y_ext hx_ hI.1 hY_hd
  clear ho hr ha hE hP hI hx_
  rename x_I _ _ _ _ _ _ _ _ _ _ => hI
  refine y_call (z := (0, 59, 2, some 0, xM8)) (av := [.ref this, .int r9]) (rest := []) (y_cokV (n := 1) (ci := 11) X ym_counted rfl rfl rfl (x_cons (x_bw19 7 rfl rfl) (x_cons (x_bw19 9 rfl rfl) (x_cons (x_at 1 (by decide +kernel) rfl) (x_cons (x_bw0 1 rfl rfl) x_nilm)))) (x_bw19 10 rfl rfl) (by decide +kernel) ⟨Nat.le_of_ble_eq_true rfl, Nat.le_of_ble_eq_true rfl⟩) hY0 hI rfl Thi_d11 hl.1 (Nat.le_of_ble_eq_true rfl) (by exact Nat.le_of_ble_eq_true rfl) (by exact Nat.le_of_ble_eq_true rfl) (y_cons (y_cref hY_this rfl) (y_cons ⟨_, rfl, x_i32 _⟩ y_nil)) rfl (y_recv rfl hY_this) trivial (y_sub_ef rfl) fun v Yn o Hn L ho hr ha hIn hx_ hE hP => ?_
  replace hs_hd := y_Efld hE hY_this rfl (by decide) (by decide) hs_hd
  replace hn1 := y_Efld hE hY_hd rfl (by decide) (by decide) hn1
  replace hn2 := y_Efld hE hY_hd rfl (by decide) (by decide) hn2
  replace hL := hL.E hY_hd hE (fun q u h => y_ext hx_ hI.1 h) (by decide +kernel)
  replace hF := fun b u g9 (hb : Y0 b = some u) (h42 : u ≠ 42) (hg9 : x_G[u]? = some g9) (hn : b ≠ hd) (hk9 : ∀ k, k < 16 → x_sl D 2 k hd s.heap ≠ some (.ref b)) => x_eq.trans (x_eq.E42 hE (y_mon B hI _ _ hb) hg9 h42 rfl) (hF b u g9 hb h42 hg9 hn hk9)
  replace hfld : z_fld D hd s.heap _ := fun k a b c d => ((x_eq.E42 (g := x_G[2]) hE hY_hd rfl (by decide) rfl) k a).trans (hfld k a b c d)
  replace hY_this := y_ext hx_ hI.1 hY_this
  replace hY_hd := y_ext hx_ hI.1 hY_hd
  obtain rfl := hP _ _ rfl
  clear ho hr ha hE hP hI hx_
  rename x_I _ _ _ _ _ _ _ _ _ _ => hI
  exact y_ireturn B hI rfl rfl rfl List.mem_cons_self ⟨_, rfl, ⟨_, rfl, x_i32 _⟩⟩ (x_cs.mono B.2.2.2.2.2 (y_mon B hI)) (fun t' w0' w1' w2' f' K' tt' nn' h1 h2 => by cases h1; cases h2.eqf hR0; exact ⟨_, _, rfl, h2.fin hYt0 hs0_hd hF hL hfld (y_mon B hI), hm9⟩) (by exact Nat.le_of_ble_eq_true rfl) (by exact Nat.le_of_ble_eq_true rfl) Thi_d14
def z_PTTth : yP := fun D av Y H v Y' H' => ∀ (this : Nat) (x y z u w : Int32) (f : Nat → Int32) (K : Nat → Option (Nat → Int32)) (t9 : Nat → Int32) (n9 : Int32), av = [.ref this, .int x, .int y, .int z, .int u, .int w] → z_RC D Y H this f K t9 n9 → ∃ (r : Int32) (g : Nat → Int32), v = some (.int r) ∧ z_RC D Y' H' this g K t9 n9 ∧ m_thing f x y z u w r g
theorem Tth_d0 : decode xM21.2.1 0 = .ok (.aload_n 0, 1) := dz_ok (by decide +kernel)
theorem Tth_d1 : decode xM21.2.1 1 = .ok (.aload_n 0, 1) := dz_ok (by decide +kernel)
theorem Tth_d2 : decode xM21.2.1 2 = .ok (.getfield 12, 3) := dz_ok (by decide +kernel)
theorem Tth_d5 : decode xM21.2.1 5 = .ok (.iload_n 1, 1) := dz_ok (by decide +kernel)
theorem Tth_d6 : decode xM21.2.1 6 = .ok (.iload_n 2, 1) := dz_ok (by decide +kernel)
theorem Tth_d7 : decode xM21.2.1 7 = .ok (.iload_n 3, 1) := dz_ok (by decide +kernel)
theorem Tth_d8 : decode xM21.2.1 8 = .ok (.iload 4, 2) := dz_ok (by decide +kernel)
theorem Tth_d10 : decode xM21.2.1 10 = .ok (.iload 5, 2) := dz_ok (by decide +kernel)
theorem Tth_d12 : decode xM21.2.1 12 = .ok (.invokevirtual 63, 3) := dz_ok (by decide +kernel)
theorem Tth_d15 : decode xM21.2.1 15 = .ok (.invokevirtual 59, 3) := dz_ok (by decide +kernel)
theorem Tth_d18 : decode xM21.2.1 18 = .ok (.ireturn, 1) := dz_ok (by decide +kernel)
theorem ym_Tthing : y_Met vwCl x_G x_Zs x_Tb x_Nb xM21 z_ATF z_PTTth := by
  refine y_main (by decide +kernel) (by decide +kernel) x_Tb_good x_Nb_ok ?_
  intro p l e s m below meth c D U Y0 av ls B hI hpre hl
  have X := B.1
  have hx := X.1
  have hb := X.2.1
  have hY0 := B.2.2.2.2.1
  obtain ⟨v0, v1, v2, v3, v4, v5, rfl, hv0, ⟨x, rfl, -⟩, ⟨y, rfl, -⟩, ⟨z, rfl, -⟩, ⟨u, rfl, -⟩, ⟨w, rfl, -⟩⟩ := y_six9 B.2.2.2.2.2
  obtain ⟨this, t0, rfl, ht0, hY_this⟩ := x_ref_at hv0 rfl
  obtain rfl := List.mem_singleton.mp ht0
  replace hl : lv_has ls xM21.2.2.1 [(0, .ref this), (1, .int x), (2, .int y), (3, .int z), (4, .int u), (5, .int w)] := hl
  have hYt0 := hY_this
  obtain ⟨f, K, tt, nn, hR0⟩ := hpre _ rfl
  obtain ⟨hd, dr, kp, tx, by_, kk, ⟨hs_hd, -⟩, ⟨hY_hd, -⟩, hL, -⟩ := id hR0
  have hs0_hd := hs_hd
  have hF : z_fq D Y0 s.heap s.heap hd := fun _ _ _ _ _ _ _ _ => x_eq.of rfl
  have hfld : z_fld D hd s.heap s.heap := fun _ _ _ _ _ => rfl
  have hn0 := hL.1.1
  have hn1 := hL.1.2.1
  have hn2 := hL.1.2.2
  have hb0 : 0 ≤ (f 0).toInt ∧ (f 0).toInt ≤ 10 := by obtain ⟨x9, e9, b9⟩ := y_fldI (k := 0) hI.1 hY_hd rfl rfl; rw [hn0] at e9; cases e9; exact b9
  have hb1 : 0 ≤ (f 1).toInt ∧ (f 1).toInt ≤ 8 := by obtain ⟨x9, e9, b9⟩ := y_fldI (k := 6) hI.1 hY_hd rfl rfl; rw [hn1] at e9; cases e9; exact b9
  have hb2 : 0 ≤ (f 2).toInt ∧ (f 2).toInt ≤ 8 := by obtain ⟨x9, e9, b9⟩ := y_fldI (k := 12) hI.1 hY_hd rfl rfl; rw [hn2] at e9; cases e9; exact b9
  refine lv_aload_n hx hb Tth_d0 rfl (lv_at hl 0 rfl) ?_
  refine lv_aload_n hx hb Tth_d1 rfl (lv_at hl 0 rfl) ?_
  refine y_getf X (fl8 X.2.2.2.2.1) hI.1 hY_this rfl hs_hd Tth_d2 ?_
  refine lv_iload_n hx hb Tth_d5 rfl (lv_at hl 1 rfl) ?_
  refine lv_iload_n hx hb Tth_d6 rfl (lv_at hl 2 rfl) ?_
  refine lv_iload_n hx hb Tth_d7 rfl (lv_at hl 3 rfl) ?_
  refine lv_iload hx hb Tth_d8 (lv_at hl 4 rfl) ?_
  refine lv_iload hx hb Tth_d10 (lv_at hl 5 rfl) ?_
  refine y_call (z := (0, 63, 6, some 2, xM20)) (av := [.ref hd, .int x, .int y, .int z, .int u, .int w]) (rest := [.ref this]) (y_cokV (n := 5) (ci := 2) X ym_addThing rfl rfl rfl (x_cons (x_bw20 4 rfl rfl) (x_cons (x_bw20 5 rfl rfl) (x_cons (x_bw20 6 rfl rfl) (x_cons (x_bw0 2 rfl rfl) x_nilm)))) (x_bw20 7 rfl rfl) (by decide +kernel) ⟨Nat.le_of_ble_eq_true rfl, Nat.le_of_ble_eq_true rfl⟩) hY0 hI rfl Tth_d12 hl.1 (Nat.le_of_ble_eq_true rfl) (by exact Nat.le_of_ble_eq_true rfl) (by exact Nat.le_of_ble_eq_true rfl) (y_cons (y_cref hY_hd rfl) (y_cons ⟨_, rfl, x_i32 _⟩ (y_cons ⟨_, rfl, x_i32 _⟩ (y_cons ⟨_, rfl, x_i32 _⟩ (y_cons ⟨_, rfl, x_i32 _⟩ (y_cons ⟨_, rfl, x_i32 _⟩ y_nil)))))) rfl (y_recv rfl hY_hd) (fun t' h1 => by cases h1; exact ⟨_, hL⟩) (y_sub_ef rfl) fun v Yn o Hn L ho hr ha hIn hx_ hE hP => ?_
  obtain ⟨hF9, r9, g9, rfl, hL9, hm9⟩ := hP _ _ _ _ _ _ _ rfl hL
  replace hL := hL9
  replace hF : z_fq D Y0 s.heap _ hd := hF9.toq
  replace hfld : z_fld D hd s.heap _ := z_fldE hE hY_hd (by decide +kernel)
  replace hs_hd := y_Efld hE hY_this rfl (by decide) (by decide) hs_hd
  replace hn0 := y_Efld hE hY_hd rfl (by decide) (by decide) hn0
  replace hn2 := y_Efld hE hY_hd rfl (by decide) (by decide) hn2
  replace hY_this := y_ext hx_ hI.1 hY_this
  replace hY_hd := y_ext hx_ hI.1 hY_hd
  clear ho hr ha hE hP hI hx_
  rename x_I _ _ _ _ _ _ _ _ _ _ => hI
  refine y_call (z := (0, 59, 2, some 0, xM8)) (av := [.ref this, .int r9]) (rest := []) (y_cokV (n := 1) (ci := 11) X ym_counted rfl rfl rfl (x_cons (x_bw19 7 rfl rfl) (x_cons (x_bw19 9 rfl rfl) (x_cons (x_at 1 (by decide +kernel) rfl) (x_cons (x_bw0 1 rfl rfl) x_nilm)))) (x_bw19 10 rfl rfl) (by decide +kernel) ⟨Nat.le_of_ble_eq_true rfl, Nat.le_of_ble_eq_true rfl⟩) hY0 hI rfl Tth_d15 hl.1 (Nat.le_of_ble_eq_true rfl) (by exact Nat.le_of_ble_eq_true rfl) (by exact Nat.le_of_ble_eq_true rfl) (y_cons (y_cref hY_this rfl) (y_cons ⟨_, rfl, x_i32 _⟩ y_nil)) rfl (y_recv rfl hY_this) trivial (y_sub_ef rfl) fun v Yn o Hn L ho hr ha hIn hx_ hE hP => ?_
  replace hs_hd := y_Efld hE hY_this rfl (by decide) (by decide) hs_hd
  replace hn0 := y_Efld hE hY_hd rfl (by decide) (by decide) hn0
  replace hn2 := y_Efld hE hY_hd rfl (by decide) (by decide) hn2
  replace hL := hL.E hY_hd hE (fun q u h => y_ext hx_ hI.1 h) (by decide +kernel)
  replace hF := fun b u g9 (hb : Y0 b = some u) (h42 : u ≠ 42) (hg9 : x_G[u]? = some g9) (hn : b ≠ hd) (hk9 : ∀ k, k < 16 → x_sl D 2 k hd s.heap ≠ some (.ref b)) => x_eq.trans (x_eq.E42 hE (y_mon B hI _ _ hb) hg9 h42 rfl) (hF b u g9 hb h42 hg9 hn hk9)
  replace hfld : z_fld D hd s.heap _ := fun k a b c d => ((x_eq.E42 (g := x_G[2]) hE hY_hd rfl (by decide) rfl) k a).trans (hfld k a b c d)
  replace hY_this := y_ext hx_ hI.1 hY_this
  replace hY_hd := y_ext hx_ hI.1 hY_hd
  obtain rfl := hP _ _ rfl
  clear ho hr ha hE hP hI hx_
  rename x_I _ _ _ _ _ _ _ _ _ _ => hI
  exact y_ireturn B hI rfl rfl rfl List.mem_cons_self ⟨_, rfl, ⟨_, rfl, x_i32 _⟩⟩ (x_cs.mono B.2.2.2.2.2 (y_mon B hI)) (fun t' w0' w1' w2' w3' w4' f' K' tt' nn' h1 h2 => by cases h1; cases h2.eqf hR0; exact ⟨_, _, rfl, h2.fin hYt0 hs0_hd hF hL hfld (y_mon B hI), hm9⟩) (by exact Nat.le_of_ble_eq_true rfl) (by exact Nat.le_of_ble_eq_true rfl) Tth_d18
def z_PTTpu : yP := fun D av Y H v Y' H' => ∀ (this : Nat) (x y : Int32) (f : Nat → Int32) (K : Nat → Option (Nat → Int32)) (t9 : Nat → Int32) (n9 : Int32), av = [.ref this, .int x, .int y] → z_RC D Y H this f K t9 n9 → ∃ (r : Int32) (g : Nat → Int32), v = some (.int r) ∧ z_RC D Y' H' this g K t9 n9 ∧ m_put f x y r g
theorem Tpu_d0 : decode xM24.2.1 0 = .ok (.aload_n 0, 1) := dz_ok (by decide +kernel)
theorem Tpu_d1 : decode xM24.2.1 1 = .ok (.aload_n 0, 1) := dz_ok (by decide +kernel)
theorem Tpu_d2 : decode xM24.2.1 2 = .ok (.getfield 12, 3) := dz_ok (by decide +kernel)
theorem Tpu_d5 : decode xM24.2.1 5 = .ok (.iload_n 1, 1) := dz_ok (by decide +kernel)
theorem Tpu_d6 : decode xM24.2.1 6 = .ok (.iload_n 2, 1) := dz_ok (by decide +kernel)
theorem Tpu_d7 : decode xM24.2.1 7 = .ok (.invokevirtual 67, 3) := dz_ok (by decide +kernel)
theorem Tpu_d10 : decode xM24.2.1 10 = .ok (.invokevirtual 59, 3) := dz_ok (by decide +kernel)
theorem Tpu_d13 : decode xM24.2.1 13 = .ok (.ireturn, 1) := dz_ok (by decide +kernel)
theorem ym_Tput : y_Met vwCl x_G x_Zs x_Tb x_Nb xM24 z_ATF z_PTTpu := by
  refine y_main (by decide +kernel) (by decide +kernel) x_Tb_good x_Nb_ok ?_
  intro p l e s m below meth c D U Y0 av ls B hI hpre hl
  have X := B.1
  have hx := X.1
  have hb := X.2.1
  have hY0 := B.2.2.2.2.1
  obtain ⟨v0, v1, v2, rfl, hv0, ⟨x, rfl, -⟩, ⟨y, rfl, -⟩⟩ := y_three B.2.2.2.2.2
  obtain ⟨this, t0, rfl, ht0, hY_this⟩ := x_ref_at hv0 rfl
  obtain rfl := List.mem_singleton.mp ht0
  replace hl : lv_has ls xM24.2.2.1 [(0, .ref this), (1, .int x), (2, .int y)] := hl
  have hYt0 := hY_this
  obtain ⟨f, K, tt, nn, hR0⟩ := hpre _ rfl
  obtain ⟨hd, dr, kp, tx, by_, kk, ⟨hs_hd, -⟩, ⟨hY_hd, -⟩, hL, -⟩ := id hR0
  have hs0_hd := hs_hd
  have hF : z_fq D Y0 s.heap s.heap hd := fun _ _ _ _ _ _ _ _ => x_eq.of rfl
  have hfld : z_fld D hd s.heap s.heap := fun _ _ _ _ _ => rfl
  have hn0 := hL.1.1
  have hn1 := hL.1.2.1
  have hn2 := hL.1.2.2
  have hb0 : 0 ≤ (f 0).toInt ∧ (f 0).toInt ≤ 10 := by obtain ⟨x9, e9, b9⟩ := y_fldI (k := 0) hI.1 hY_hd rfl rfl; rw [hn0] at e9; cases e9; exact b9
  have hb1 : 0 ≤ (f 1).toInt ∧ (f 1).toInt ≤ 8 := by obtain ⟨x9, e9, b9⟩ := y_fldI (k := 6) hI.1 hY_hd rfl rfl; rw [hn1] at e9; cases e9; exact b9
  have hb2 : 0 ≤ (f 2).toInt ∧ (f 2).toInt ≤ 8 := by obtain ⟨x9, e9, b9⟩ := y_fldI (k := 12) hI.1 hY_hd rfl rfl; rw [hn2] at e9; cases e9; exact b9
  refine lv_aload_n hx hb Tpu_d0 rfl (lv_at hl 0 rfl) ?_
  refine lv_aload_n hx hb Tpu_d1 rfl (lv_at hl 0 rfl) ?_
  refine y_getf X (fl8 X.2.2.2.2.1) hI.1 hY_this rfl hs_hd Tpu_d2 ?_
  refine lv_iload_n hx hb Tpu_d5 rfl (lv_at hl 1 rfl) ?_
  refine lv_iload_n hx hb Tpu_d6 rfl (lv_at hl 2 rfl) ?_
  refine y_call (z := (0, 67, 3, some 2, xM23)) (av := [.ref hd, .int x, .int y]) (rest := [.ref this]) (y_cokV (n := 2) (ci := 2) X ym_setDial rfl rfl rfl (x_cons (x_bw24 8 rfl rfl) (x_cons (x_bw24 9 rfl rfl) (x_cons (x_bw24 10 rfl rfl) (x_cons (x_bw0 2 rfl rfl) x_nilm)))) (x_bw24 11 rfl rfl) (by decide +kernel) ⟨Nat.le_of_ble_eq_true rfl, Nat.le_of_ble_eq_true rfl⟩) hY0 hI rfl Tpu_d7 hl.1 (Nat.le_of_ble_eq_true rfl) (by exact Nat.le_of_ble_eq_true rfl) (by exact Nat.le_of_ble_eq_true rfl) (y_cons (y_cref hY_hd rfl) (y_cons ⟨_, rfl, x_i32 _⟩ (y_cons ⟨_, rfl, x_i32 _⟩ y_nil))) rfl (y_recv rfl hY_hd) (fun t' h1 => by cases h1; exact ⟨_, hL⟩) (y_sub_ef rfl) fun v Yn o Hn L ho hr ha hIn hx_ hE hP => ?_
  obtain ⟨hF9, r9, g9, rfl, hL9, hm9⟩ := hP _ _ _ _ rfl hL
  replace hL := hL9
  replace hF : z_fq D Y0 s.heap _ hd := hF9.toq
  replace hfld : z_fld D hd s.heap _ := z_fldE hE hY_hd (by decide +kernel)
  replace hs_hd := y_Efld hE hY_this rfl (by decide) (by decide) hs_hd
  replace hn0 := y_Efld hE hY_hd rfl (by decide) (by decide) hn0
  replace hn1 := y_Efld hE hY_hd rfl (by decide) (by decide) hn1
  replace hn2 := y_Efld hE hY_hd rfl (by decide) (by decide) hn2
  replace hY_this := y_ext hx_ hI.1 hY_this
  replace hY_hd := y_ext hx_ hI.1 hY_hd
  clear ho hr ha hE hP hI hx_
  rename x_I _ _ _ _ _ _ _ _ _ _ => hI
  refine y_call (z := (0, 59, 2, some 0, xM8)) (av := [.ref this, .int r9]) (rest := []) (y_cokV (n := 1) (ci := 11) X ym_counted rfl rfl rfl (x_cons (x_bw19 7 rfl rfl) (x_cons (x_bw19 9 rfl rfl) (x_cons (x_at 1 (by decide +kernel) rfl) (x_cons (x_bw0 1 rfl rfl) x_nilm)))) (x_bw19 10 rfl rfl) (by decide +kernel) ⟨Nat.le_of_ble_eq_true rfl, Nat.le_of_ble_eq_true rfl⟩) hY0 hI rfl Tpu_d10 hl.1 (Nat.le_of_ble_eq_true rfl) (by exact Nat.le_of_ble_eq_true rfl) (by exact Nat.le_of_ble_eq_true rfl) (y_cons (y_cref hY_this rfl) (y_cons ⟨_, rfl, x_i32 _⟩ y_nil)) rfl (y_recv rfl hY_this) trivial (y_sub_ef rfl) fun v Yn o Hn L ho hr ha hIn hx_ hE hP => ?_
  replace hs_hd := y_Efld hE hY_this rfl (by decide) (by decide) hs_hd
  replace hn0 := y_Efld hE hY_hd rfl (by decide) (by decide) hn0
  replace hn1 := y_Efld hE hY_hd rfl (by decide) (by decide) hn1
  replace hn2 := y_Efld hE hY_hd rfl (by decide) (by decide) hn2
  replace hL := hL.E hY_hd hE (fun q u h => y_ext hx_ hI.1 h) (by decide +kernel)
  replace hF := fun b u g9 (hb : Y0 b = some u) (h42 : u ≠ 42) (hg9 : x_G[u]? = some g9) (hn : b ≠ hd) (hk9 : ∀ k, k < 16 → x_sl D 2 k hd s.heap ≠ some (.ref b)) => x_eq.trans (x_eq.E42 hE (y_mon B hI _ _ hb) hg9 h42 rfl) (hF b u g9 hb h42 hg9 hn hk9)
  replace hfld : z_fld D hd s.heap _ := fun k a b c d => ((x_eq.E42 (g := x_G[2]) hE hY_hd rfl (by decide) rfl) k a).trans (hfld k a b c d)
  replace hY_this := y_ext hx_ hI.1 hY_this
  replace hY_hd := y_ext hx_ hI.1 hY_hd
  obtain rfl := hP _ _ rfl
  clear ho hr ha hE hP hI hx_
  rename x_I _ _ _ _ _ _ _ _ _ _ => hI
  exact y_ireturn B hI rfl rfl rfl List.mem_cons_self ⟨_, rfl, ⟨_, rfl, x_i32 _⟩⟩ (x_cs.mono B.2.2.2.2.2 (y_mon B hI)) (fun t' w0' w1' f' K' tt' nn' h1 h2 => by cases h1; cases h2.eqf hR0; exact ⟨_, _, rfl, h2.fin hYt0 hs0_hd hF hL hfld (y_mon B hI), hm9⟩) (by exact Nat.le_of_ble_eq_true rfl) (by exact Nat.le_of_ble_eq_true rfl) Tpu_d13
def z_PTTco : yP := fun D av Y H v Y' H' => ∀ (this : Nat) (x w : Int32) (f : Nat → Int32) (K : Nat → Option (Nat → Int32)) (t9 : Nat → Int32) (n9 : Int32), av = [.ref this, .int x, .int w] → z_RC D Y H this f K t9 n9 → ∃ (r : Int32) (g : Nat → Int32), v = some (.int r) ∧ z_RC D Y' H' this g K t9 n9 ∧ m_at (m_isT f x ∧ 0 ≤ w.toInt ∧ w.toInt ≤ 99) (-2) f (66 + 7 * x.toInt.toNat) w r g
theorem Tco_d0 : decode xM30.2.1 0 = .ok (.aload_n 0, 1) := dz_ok (by decide +kernel)
theorem Tco_d1 : decode xM30.2.1 1 = .ok (.getfield 12, 3) := dz_ok (by decide +kernel)
theorem Tco_d4 : decode xM30.2.1 4 = .ok (.iload_n 1, 1) := dz_ok (by decide +kernel)
theorem Tco_d5 : decode xM30.2.1 5 = .ok (.invokevirtual 71, 3) := dz_ok (by decide +kernel)
theorem Tco_d8 : decode xM30.2.1 8 = .ok (.ifCond .eq 13, 3) := dz_ok (by decide +kernel)
theorem Tco_d11 : decode xM30.2.1 11 = .ok (.iload_n 2, 1) := dz_ok (by decide +kernel)
theorem Tco_d12 : decode xM30.2.1 12 = .ok (.iconst 0, 1) := dz_ok (by decide +kernel)
theorem Tco_d13 : decode xM30.2.1 13 = .ok (.bipush 99, 2) := dz_ok (by decide +kernel)
theorem Tco_d15 : decode xM30.2.1 15 = .ok (.invokestatic 88, 3) := dz_ok (by decide +kernel)
theorem Tco_d18 : decode xM30.2.1 18 = .ok (.ifCond .ne 10, 3) := dz_ok (by decide +kernel)
theorem Tco_d21 : decode xM30.2.1 21 = .ok (.aload_n 0, 1) := dz_ok (by decide +kernel)
theorem Tco_d22 : decode xM30.2.1 22 = .ok (.bipush (-2), 2) := dz_ok (by decide +kernel)
theorem Tco_d24 : decode xM30.2.1 24 = .ok (.invokevirtual 59, 3) := dz_ok (by decide +kernel)
theorem Tco_d27 : decode xM30.2.1 27 = .ok (.ireturn, 1) := dz_ok (by decide +kernel)
theorem Tco_d28 : decode xM30.2.1 28 = .ok (.aload_n 0, 1) := dz_ok (by decide +kernel)
theorem Tco_d29 : decode xM30.2.1 29 = .ok (.getfield 12, 3) := dz_ok (by decide +kernel)
theorem Tco_d32 : decode xM30.2.1 32 = .ok (.getfield 92, 3) := dz_ok (by decide +kernel)
theorem Tco_d35 : decode xM30.2.1 35 = .ok (.iload_n 1, 1) := dz_ok (by decide +kernel)
theorem Tco_d36 : decode xM30.2.1 36 = .ok (.iaload, 1) := dz_ok (by decide +kernel)
theorem Tco_d37 : decode xM30.2.1 37 = .ok (.istore_n 3, 1) := dz_ok (by decide +kernel)
theorem Tco_d38 : decode xM30.2.1 38 = .ok (.aload_n 0, 1) := dz_ok (by decide +kernel)
theorem Tco_d39 : decode xM30.2.1 39 = .ok (.getfield 12, 3) := dz_ok (by decide +kernel)
theorem Tco_d42 : decode xM30.2.1 42 = .ok (.getfield 92, 3) := dz_ok (by decide +kernel)
theorem Tco_d45 : decode xM30.2.1 45 = .ok (.iload_n 1, 1) := dz_ok (by decide +kernel)
theorem Tco_d46 : decode xM30.2.1 46 = .ok (.iload_n 2, 1) := dz_ok (by decide +kernel)
theorem Tco_d47 : decode xM30.2.1 47 = .ok (.iastore, 1) := dz_ok (by decide +kernel)
theorem Tco_d48 : decode xM30.2.1 48 = .ok (.iload_n 3, 1) := dz_ok (by decide +kernel)
theorem Tco_d49 : decode xM30.2.1 49 = .ok (.ireturn, 1) := dz_ok (by decide +kernel)
theorem ym_Tcost : y_Met vwCl x_G x_Zs x_Tb x_Nb xM30 z_ATF z_PTTco := by
  refine y_main (by decide +kernel) (by decide +kernel) x_Tb_good x_Nb_ok ?_
  intro p l e s m below meth c D U Y0 av ls B hI hpre hl
  have X := B.1
  have hx := X.1
  have hb := X.2.1
  have hY0 := B.2.2.2.2.1
  obtain ⟨v0, v1, v2, rfl, hv0, ⟨x, rfl, -⟩, ⟨w, rfl, -⟩⟩ := y_three B.2.2.2.2.2
  obtain ⟨this, t0, rfl, ht0, hY_this⟩ := x_ref_at hv0 rfl
  obtain rfl := List.mem_singleton.mp ht0
  replace hl : lv_has ls xM30.2.2.1 [(0, .ref this), (1, .int x), (2, .int w)] := hl
  have hYt0 := hY_this
  obtain ⟨f, K, tt, nn, hR0⟩ := hpre _ rfl
  obtain ⟨hd, dr, kp, tx, by_, kk, ⟨hs_hd, -⟩, ⟨hY_hd, -⟩, hL, -⟩ := id hR0
  have hs0_hd := hs_hd
  have hF : z_fq D Y0 s.heap s.heap hd := fun _ _ _ _ _ _ _ _ => x_eq.of rfl
  have hfld : z_fld D hd s.heap s.heap := fun _ _ _ _ _ => rfl
  have hn0 := hL.1.1
  have hn1 := hL.1.2.1
  have hn2 := hL.1.2.2
  have hb0 : 0 ≤ (f 0).toInt ∧ (f 0).toInt ≤ 10 := by obtain ⟨x9, e9, b9⟩ := y_fldI (k := 0) hI.1 hY_hd rfl rfl; rw [hn0] at e9; cases e9; exact b9
  have hb1 : 0 ≤ (f 1).toInt ∧ (f 1).toInt ≤ 8 := by obtain ⟨x9, e9, b9⟩ := y_fldI (k := 6) hI.1 hY_hd rfl rfl; rw [hn1] at e9; cases e9; exact b9
  have hb2 : 0 ≤ (f 2).toInt ∧ (f 2).toInt ≤ 8 := by obtain ⟨x9, e9, b9⟩ := y_fldI (k := 12) hI.1 hY_hd rfl rfl; rw [hn2] at e9; cases e9; exact b9
  obtain ⟨acost, hs_acost, hY_acost, hA_acost⟩ := hL.2.1 (9, 26, 8, 66, 7) (by decide)
  replace hA_acost : y_A acost 8 s.heap (fun j => f (66 + 7 * j)) := hA_acost
  have hs0_acost := hs_acost
  refine lv_aload_n hx hb Tco_d0 rfl (lv_at hl 0 rfl) ?_
  refine y_getf X (fl8 X.2.2.2.2.1) hI.1 hY_this rfl hs_hd Tco_d1 ?_
  refine lv_iload_n hx hb Tco_d4 rfl (lv_at hl 1 rfl) ?_
  refine y_call (z := (0, 71, 2, some 2, xM25)) (av := [.ref hd, .int x]) (rest := []) (y_cokV (n := 1) (ci := 2) X ym_hasThing rfl rfl rfl (x_cons (x_bw25 4 rfl rfl) (x_cons (x_bw25 5 rfl rfl) (x_cons (x_bw25 6 rfl rfl) (x_cons (x_bw0 2 rfl rfl) x_nilm)))) (x_bw25 7 rfl rfl) (by decide +kernel) ⟨Nat.le_of_ble_eq_true rfl, Nat.le_of_ble_eq_true rfl⟩) hY0 hI rfl Tco_d5 hl.1 (Nat.le_of_ble_eq_true rfl) (Nat.le_of_ble_eq_true rfl) (Nat.le_of_ble_eq_true rfl) (y_cons (y_cref hY_hd rfl) (y_cons ⟨_, rfl, x_i32 _⟩ y_nil)) rfl (y_recv rfl hY_hd) trivial (y_sub_ef rfl) fun v Yn o Hn L ho hr ha hIn hx_ hE hP => ?_
  have hPh := hP _ _ _ rfl hn1
  replace hs_hd := y_Efld hE hY_this rfl (by decide) (by decide) hs_hd
  replace hn0 := y_Efld hE hY_hd rfl (by decide) (by decide) hn0
  replace hn1 := y_Efld hE hY_hd rfl (by decide) (by decide) hn1
  replace hn2 := y_Efld hE hY_hd rfl (by decide) (by decide) hn2
  replace hs_acost := y_Efld hE hY_hd rfl (by decide) (by decide) hs_acost
  replace hA_acost := hA_acost.kept (y_Earr hE hY_acost rfl (by decide))
  replace hL := hL.E hY_hd hE (fun q u h => y_ext hx_ hI.1 h) (by decide +kernel)
  replace hF := fun b u g9 (hb : Y0 b = some u) (h42 : u ≠ 42) (hg9 : x_G[u]? = some g9) (hn : b ≠ hd) (hk9 : ∀ k, k < 16 → x_sl D 2 k hd s.heap ≠ some (.ref b)) => x_eq.trans (x_eq.E42 hE (y_mon B hI _ _ hb) hg9 h42 rfl) (hF b u g9 hb h42 hg9 hn hk9)
  replace hfld : z_fld D hd s.heap _ := fun k a b c d => ((x_eq.E42 (g := x_G[2]) hE hY_hd rfl (by decide) rfl) k a).trans (hfld k a b c d)
  replace hY_this := y_ext hx_ hI.1 hY_this
  replace hY_hd := y_ext hx_ hI.1 hY_hd
  replace hY_acost := y_ext hx_ hI.1 hY_acost
  obtain ⟨r5, rfl, hin_r5, hout_r5⟩ := hPh
  clear ho hr ha hE hP hI hx_
  rename x_I _ _ _ _ _ _ _ _ _ _ => hI
  have ec0 : (0 : Int32).toInt = 0 := by decide
  refine lv_if_eq hx hb Tco_d8 (tgt := 21) (by decide) (fun q8 => ?_) (fun q8 => ?_)
  · have q8_ : r5.toInt = (0 : Int32).toInt := by rw [q8]
    have hno : ¬ (m_isT f x ∧ 0 ≤ w.toInt ∧ w.toInt ≤ 99) := fun q9 => by first | (exact hout_r5 (by assumption) q9.1) | (have := hout_r15 (by assumption); omega)
    refine lv_aload_n hx hb Tco_d21 rfl (lv_at hl 0 rfl) ?_
    refine lv_bipush hx hb Tco_d22 (v := (-2)) (by decide) ?_
    have ecm2 : ((-2) : Int32).toInt = (-2) := by decide
    refine y_call (z := (0, 59, 2, some 0, xM8)) (av := [.ref this, .int ((-2) : Int32)]) (rest := []) (y_cokV (n := 1) (ci := 11) X ym_counted rfl rfl rfl (x_cons (x_bw19 7 rfl rfl) (x_cons (x_bw19 9 rfl rfl) (x_cons (x_at 1 (by decide +kernel) rfl) (x_cons (x_bw0 1 rfl rfl) x_nilm)))) (x_bw19 10 rfl rfl) (by decide +kernel) ⟨Nat.le_of_ble_eq_true rfl, Nat.le_of_ble_eq_true rfl⟩) hY0 hI rfl Tco_d24 hl.1 (Nat.le_of_ble_eq_true rfl) (Nat.le_of_ble_eq_true rfl) (Nat.le_of_ble_eq_true rfl) (y_cons (y_cref hY_this rfl) (y_cons ⟨_, rfl, x_i32 _⟩ y_nil)) rfl (y_recv rfl hY_this) trivial (y_sub_ef rfl) fun v Yn o Hn L ho hr ha hIn hx_ hE hP => ?_
    replace hs_hd := y_Efld hE hY_this rfl (by decide) (by decide) hs_hd
    replace hn0 := y_Efld hE hY_hd rfl (by decide) (by decide) hn0
    replace hn1 := y_Efld hE hY_hd rfl (by decide) (by decide) hn1
    replace hn2 := y_Efld hE hY_hd rfl (by decide) (by decide) hn2
    replace hs_acost := y_Efld hE hY_hd rfl (by decide) (by decide) hs_acost
    replace hA_acost := hA_acost.kept (y_Earr hE hY_acost rfl (by decide))
    replace hL := hL.E hY_hd hE (fun q u h => y_ext hx_ hI.1 h) (by decide +kernel)
    replace hF := fun b u g9 (hb : Y0 b = some u) (h42 : u ≠ 42) (hg9 : x_G[u]? = some g9) (hn : b ≠ hd) (hk9 : ∀ k, k < 16 → x_sl D 2 k hd s.heap ≠ some (.ref b)) => x_eq.trans (x_eq.E42 hE (y_mon B hI _ _ hb) hg9 h42 rfl) (hF b u g9 hb h42 hg9 hn hk9)
    replace hfld : z_fld D hd s.heap _ := fun k a b c d => ((x_eq.E42 (g := x_G[2]) hE hY_hd rfl (by decide) rfl) k a).trans (hfld k a b c d)
    replace hY_this := y_ext hx_ hI.1 hY_this
    replace hY_hd := y_ext hx_ hI.1 hY_hd
    replace hY_acost := y_ext hx_ hI.1 hY_acost
    obtain rfl := hP _ _ rfl
    clear ho hr ha hE hP hI hx_
    rename x_I _ _ _ _ _ _ _ _ _ _ => hI
    exact y_ireturn B hI rfl rfl rfl List.mem_cons_self ⟨_, rfl, ⟨_, rfl, x_i32 _⟩⟩ (x_cs.mono B.2.2.2.2.2 (y_mon B hI)) (fun t' w0' w1' f' K' tt' nn' h1 h2 => by cases h1; cases h2.eqf hR0; exact ⟨_, _, rfl, h2.fin hYt0 hs0_hd hF hL hfld (y_mon B hI), fun _ => ⟨rfl, rfl⟩, fun q9 => absurd q9 hno⟩) (by exact Nat.le_of_ble_eq_true rfl) (by exact Nat.le_of_ble_eq_true rfl) Tco_d27
  · have q8_ : ¬ r5.toInt = (0 : Int32).toInt := fun q => q8 (Int32.toInt_inj.mp q)
    refine lv_iload_n hx hb Tco_d11 rfl (lv_at hl 2 rfl) ?_
    refine lv_iconst hx hb Tco_d12 (v := 0) (by decide) ?_
    refine lv_bipush hx hb Tco_d13 (v := 99) (by decide) ?_
    have ec99 : (99 : Int32).toInt = 99 := by decide
    refine y_call (z := (1, 88, 3, none, xM10)) (av := [.int w, .int (0 : Int32), .int (99 : Int32)]) (rest := []) (y_cokS (n := 3) X ym_within (x_cons (x_bw19 15 rfl rfl) (x_cons (x_bw19 1 rfl rfl) (x_cons (x_bw0 1 rfl rfl) x_nilm))) (x_bw19 2 rfl rfl) (by decide +kernel) ⟨Nat.le_of_ble_eq_true rfl, Nat.le_of_ble_eq_true rfl⟩) hY0 hI rfl Tco_d15 hl.1 (Nat.le_of_ble_eq_true rfl) (Nat.le_of_ble_eq_true rfl) (Nat.le_of_ble_eq_true rfl) (y_cons ⟨_, rfl, x_i32 _⟩ (y_cons ⟨_, rfl, x_i32 _⟩ (y_cons ⟨_, rfl, x_i32 _⟩ y_nil))) rfl (y_norecv rfl) trivial (y_sub_ef rfl) fun v Yn o Hn L ho hr ha hIn hx_ hE hP => ?_
    replace hs_hd := y_Efld hE hY_this rfl (by decide) (by decide) hs_hd
    replace hn0 := y_Efld hE hY_hd rfl (by decide) (by decide) hn0
    replace hn1 := y_Efld hE hY_hd rfl (by decide) (by decide) hn1
    replace hn2 := y_Efld hE hY_hd rfl (by decide) (by decide) hn2
    replace hs_acost := y_Efld hE hY_hd rfl (by decide) (by decide) hs_acost
    replace hA_acost := hA_acost.kept (y_Earr hE hY_acost rfl (by decide))
    replace hL := hL.E hY_hd hE (fun q u h => y_ext hx_ hI.1 h) (by decide +kernel)
    replace hF := fun b u g9 (hb : Y0 b = some u) (h42 : u ≠ 42) (hg9 : x_G[u]? = some g9) (hn : b ≠ hd) (hk9 : ∀ k, k < 16 → x_sl D 2 k hd s.heap ≠ some (.ref b)) => x_eq.trans (x_eq.E42 hE (y_mon B hI _ _ hb) hg9 h42 rfl) (hF b u g9 hb h42 hg9 hn hk9)
    replace hfld : z_fld D hd s.heap _ := fun k a b c d => ((x_eq.E42 (g := x_G[2]) hE hY_hd rfl (by decide) rfl) k a).trans (hfld k a b c d)
    replace hY_this := y_ext hx_ hI.1 hY_this
    replace hY_hd := y_ext hx_ hI.1 hY_hd
    replace hY_acost := y_ext hx_ hI.1 hY_acost
    obtain ⟨r15, rfl, hin_r15, hout_r15⟩ := hP _ _ _ rfl
    clear ho hr ha hE hP hI hx_
    rename x_I _ _ _ _ _ _ _ _ _ _ => hI
    refine lv_if_ne hx hb Tco_d18 (tgt := 28) (by decide) (fun q18 => ?_) (fun q18 => ?_)
    · have q18_ : ¬ r15.toInt = (0 : Int32).toInt := fun q => q18 (Int32.toInt_inj.mp q)
      have hw1 := hin_r5 (by assumption)
      have hw2 := hin_r15 (by assumption)
      have hw3 := hw1
      unfold m_isT at hw3
      have hok : m_isT f x ∧ 0 ≤ w.toInt ∧ w.toInt ≤ 99 := ⟨hw1, by omega, by omega⟩
      refine lv_aload_n hx hb Tco_d28 rfl (lv_at hl 0 rfl) ?_
      refine y_getf X (fl8 X.2.2.2.2.1) hI.1 hY_this rfl hs_hd Tco_d29 ?_
      refine y_getf X (fl47 X.2.2.2.2.1) hI.1 hY_hd rfl hs_acost Tco_d32 ?_
      refine lv_iload_n hx hb Tco_d35 rfl (lv_at hl 1 rfl) ?_
      refine y_iald X hI.1 hY_acost rfl hA_acost (by omega) (by show _ < (8 : Int); omega) Tco_d36 ?_
      obtain ⟨e36, hg_e36⟩ : ∃ e36 : Int32, f (66 + 7 * x.toInt.toNat) = e36 := ⟨_, rfl⟩
      rw [hg_e36]
      refine lv_istore_n hx hb Tco_d37 rfl hl (by decide) (lv' := [(3, .int e36), (0, .ref this), (1, .int x), (2, .int w)]) rfl fun ls hl => ?_
      refine lv_aload_n hx hb Tco_d38 rfl (lv_at hl 1 rfl) ?_
      refine y_getf X (fl8 X.2.2.2.2.1) hI.1 hY_this rfl hs_hd Tco_d39 ?_
      refine y_getf X (fl47 X.2.2.2.2.1) hI.1 hY_hd rfl hs_acost Tco_d42 ?_
      refine lv_iload_n hx hb Tco_d45 rfl (lv_at hl 2 rfl) ?_
      refine lv_iload_n hx hb Tco_d46 rfl (lv_at hl 3 rfl) ?_
      have hs_old := hs_acost
      have hA_old := hA_acost
      refine y_iast X hY0 hI hY_acost rfl hA_acost (by omega) (by show _ < (8 : Int); omega) ⟨_, rfl, x_i32 _⟩ (by decide +kernel) Tco_d47 fun H locs hI h_new ho => ?_
      replace hA_acost := h_new
      generalize hf_f47 : y_up (fun j => f (66 + 7 * j)) x.toInt.toNat w = f47 at hA_acost
      replace hs_hd := y_slk hs_hd (ho _ (y_ne hY_this hY_acost rfl))
      replace hn0 := y_slk hn0 (ho _ (y_ne hY_hd hY_acost rfl))
      replace hn1 := y_slk hn1 (ho _ (y_ne hY_hd hY_acost rfl))
      replace hn2 := y_slk hn2 (ho _ (y_ne hY_hd hY_acost rfl))
      replace hs_acost := y_slk hs_acost (ho _ (y_ne hY_hd hY_acost rfl))
      replace hL := hL.putA (c := (9, 26, 8, 66, 7)) (N := 8) hY_hd (by decide) rfl (by omega) hs_old hA_old h_new ho
      replace hF := fun b u g9 (hb : Y0 b = some u) (h42 : u ≠ 42) (hg9 : x_G[u]? = some g9) (hn : b ≠ hd) (hk9 : ∀ k, k < 16 → x_sl D 2 k hd s.heap ≠ some (.ref b)) => x_eq.trans (x_eq.of (ho b (fun e0 => hk9 9 (by decide) (by rw [e0]; exact hs0_acost)))) (hF b u g9 hb h42 hg9 hn hk9)
      replace hfld : z_fld D hd s.heap _ := fun k a b c d => (y_slk rfl (ho _ (y_ne hY_hd hY_acost rfl))).trans (hfld k a b c d)
      refine lv_iload_n hx hb Tco_d48 rfl (lv_at hl 0 rfl) ?_
      subst hg_e36
      exact y_ireturn B hI rfl rfl rfl List.mem_cons_self ⟨_, rfl, ⟨_, rfl, x_i32 _⟩⟩ (x_cs.mono B.2.2.2.2.2 (y_mon B hI)) (fun t' w0' w1' f' K' tt' nn' h1 h2 => by cases h1; cases h2.eqf hR0; exact ⟨_, _, rfl, h2.fin hYt0 hs0_hd hF hL hfld (y_mon B hI), fun q9 => absurd hok q9, fun _ => ⟨rfl, rfl⟩⟩) (by exact Nat.le_of_ble_eq_true rfl) (by exact Nat.le_of_ble_eq_true rfl) Tco_d49
    · have q18_ : r15.toInt = (0 : Int32).toInt := by rw [q18]
      have hno : ¬ (m_isT f x ∧ 0 ≤ w.toInt ∧ w.toInt ≤ 99) := fun q9 => by first | (exact hout_r5 (by assumption) q9.1) | (have := hout_r15 (by assumption); omega)
      refine lv_aload_n hx hb Tco_d21 rfl (lv_at hl 0 rfl) ?_
      refine lv_bipush hx hb Tco_d22 (v := (-2)) (by decide) ?_
      have ecm2 : ((-2) : Int32).toInt = (-2) := by decide
      refine y_call (z := (0, 59, 2, some 0, xM8)) (av := [.ref this, .int ((-2) : Int32)]) (rest := []) (y_cokV (n := 1) (ci := 11) X ym_counted rfl rfl rfl (x_cons (x_bw19 7 rfl rfl) (x_cons (x_bw19 9 rfl rfl) (x_cons (x_at 1 (by decide +kernel) rfl) (x_cons (x_bw0 1 rfl rfl) x_nilm)))) (x_bw19 10 rfl rfl) (by decide +kernel) ⟨Nat.le_of_ble_eq_true rfl, Nat.le_of_ble_eq_true rfl⟩) hY0 hI rfl Tco_d24 hl.1 (Nat.le_of_ble_eq_true rfl) (Nat.le_of_ble_eq_true rfl) (Nat.le_of_ble_eq_true rfl) (y_cons (y_cref hY_this rfl) (y_cons ⟨_, rfl, x_i32 _⟩ y_nil)) rfl (y_recv rfl hY_this) trivial (y_sub_ef rfl) fun v Yn o Hn L ho hr ha hIn hx_ hE hP => ?_
      replace hs_hd := y_Efld hE hY_this rfl (by decide) (by decide) hs_hd
      replace hn0 := y_Efld hE hY_hd rfl (by decide) (by decide) hn0
      replace hn1 := y_Efld hE hY_hd rfl (by decide) (by decide) hn1
      replace hn2 := y_Efld hE hY_hd rfl (by decide) (by decide) hn2
      replace hs_acost := y_Efld hE hY_hd rfl (by decide) (by decide) hs_acost
      replace hA_acost := hA_acost.kept (y_Earr hE hY_acost rfl (by decide))
      replace hL := hL.E hY_hd hE (fun q u h => y_ext hx_ hI.1 h) (by decide +kernel)
      replace hF := fun b u g9 (hb : Y0 b = some u) (h42 : u ≠ 42) (hg9 : x_G[u]? = some g9) (hn : b ≠ hd) (hk9 : ∀ k, k < 16 → x_sl D 2 k hd s.heap ≠ some (.ref b)) => x_eq.trans (x_eq.E42 hE (y_mon B hI _ _ hb) hg9 h42 rfl) (hF b u g9 hb h42 hg9 hn hk9)
      replace hfld : z_fld D hd s.heap _ := fun k a b c d => ((x_eq.E42 (g := x_G[2]) hE hY_hd rfl (by decide) rfl) k a).trans (hfld k a b c d)
      replace hY_this := y_ext hx_ hI.1 hY_this
      replace hY_hd := y_ext hx_ hI.1 hY_hd
      replace hY_acost := y_ext hx_ hI.1 hY_acost
      obtain rfl := hP _ _ rfl
      clear ho hr ha hE hP hI hx_
      rename x_I _ _ _ _ _ _ _ _ _ _ => hI
      exact y_ireturn B hI rfl rfl rfl List.mem_cons_self ⟨_, rfl, ⟨_, rfl, x_i32 _⟩⟩ (x_cs.mono B.2.2.2.2.2 (y_mon B hI)) (fun t' w0' w1' f' K' tt' nn' h1 h2 => by cases h1; cases h2.eqf hR0; exact ⟨_, _, rfl, h2.fin hYt0 hs0_hd hF hL hfld (y_mon B hI), fun _ => ⟨rfl, rfl⟩, fun q9 => absurd q9 hno⟩) (by exact Nat.le_of_ble_eq_true rfl) (by exact Nat.le_of_ble_eq_true rfl) Tco_d27
def z_PTTrp : yP := fun D av Y H v Y' H' => ∀ (this : Nat) (x w : Int32) (f : Nat → Int32) (K : Nat → Option (Nat → Int32)) (t9 : Nat → Int32) (n9 : Int32), av = [.ref this, .int x, .int w] → z_RC D Y H this f K t9 n9 → ∃ (r : Int32) (g : Nat → Int32), v = some (.int r) ∧ z_RC D Y' H' this g K t9 n9 ∧ m_at (m_isH f x ∧ -1 ≤ w.toInt ∧ w.toInt ≤ 9) (-10) f (13 + 5 * x.toInt.toNat) w r g
theorem Trp_d0 : decode xM117.2.1 0 = .ok (.aload_n 0, 1) := dz_ok (by decide +kernel)
theorem Trp_d1 : decode xM117.2.1 1 = .ok (.getfield 12, 3) := dz_ok (by decide +kernel)
theorem Trp_d4 : decode xM117.2.1 4 = .ok (.iload_n 1, 1) := dz_ok (by decide +kernel)
theorem Trp_d5 : decode xM117.2.1 5 = .ok (.invokevirtual 101, 3) := dz_ok (by decide +kernel)
theorem Trp_d8 : decode xM117.2.1 8 = .ok (.ifCond .eq 13, 3) := dz_ok (by decide +kernel)
theorem Trp_d11 : decode xM117.2.1 11 = .ok (.iload_n 2, 1) := dz_ok (by decide +kernel)
theorem Trp_d12 : decode xM117.2.1 12 = .ok (.iconst (-1), 1) := dz_ok (by decide +kernel)
theorem Trp_d13 : decode xM117.2.1 13 = .ok (.bipush 9, 2) := dz_ok (by decide +kernel)
theorem Trp_d15 : decode xM117.2.1 15 = .ok (.invokestatic 88, 3) := dz_ok (by decide +kernel)
theorem Trp_d18 : decode xM117.2.1 18 = .ok (.ifCond .ne 12, 3) := dz_ok (by decide +kernel)
theorem Trp_d21 : decode xM117.2.1 21 = .ok (.aload_n 0, 1) := dz_ok (by decide +kernel)
theorem Trp_d22 : decode xM117.2.1 22 = .ok (.bipush (-2), 2) := dz_ok (by decide +kernel)
theorem Trp_d24 : decode xM117.2.1 24 = .ok (.bipush (-10), 2) := dz_ok (by decide +kernel)
theorem Trp_d26 : decode xM117.2.1 26 = .ok (.invokevirtual 221, 3) := dz_ok (by decide +kernel)
theorem Trp_d29 : decode xM117.2.1 29 = .ok (.ireturn, 1) := dz_ok (by decide +kernel)
theorem Trp_d30 : decode xM117.2.1 30 = .ok (.aload_n 0, 1) := dz_ok (by decide +kernel)
theorem Trp_d31 : decode xM117.2.1 31 = .ok (.getfield 12, 3) := dz_ok (by decide +kernel)
theorem Trp_d34 : decode xM117.2.1 34 = .ok (.getfield 264, 3) := dz_ok (by decide +kernel)
theorem Trp_d37 : decode xM117.2.1 37 = .ok (.iload_n 1, 1) := dz_ok (by decide +kernel)
theorem Trp_d38 : decode xM117.2.1 38 = .ok (.iaload, 1) := dz_ok (by decide +kernel)
theorem Trp_d39 : decode xM117.2.1 39 = .ok (.istore_n 3, 1) := dz_ok (by decide +kernel)
theorem Trp_d40 : decode xM117.2.1 40 = .ok (.aload_n 0, 1) := dz_ok (by decide +kernel)
theorem Trp_d41 : decode xM117.2.1 41 = .ok (.getfield 12, 3) := dz_ok (by decide +kernel)
theorem Trp_d44 : decode xM117.2.1 44 = .ok (.getfield 264, 3) := dz_ok (by decide +kernel)
theorem Trp_d47 : decode xM117.2.1 47 = .ok (.iload_n 1, 1) := dz_ok (by decide +kernel)
theorem Trp_d48 : decode xM117.2.1 48 = .ok (.iload_n 2, 1) := dz_ok (by decide +kernel)
theorem Trp_d49 : decode xM117.2.1 49 = .ok (.iastore, 1) := dz_ok (by decide +kernel)
theorem Trp_d50 : decode xM117.2.1 50 = .ok (.iload_n 3, 1) := dz_ok (by decide +kernel)
theorem Trp_d51 : decode xM117.2.1 51 = .ok (.ireturn, 1) := dz_ok (by decide +kernel)
theorem ym_Treport : y_Met vwCl x_G x_Zs x_Tb x_Nb xM117 z_ATF z_PTTrp := by
  refine y_main (by decide +kernel) (by decide +kernel) x_Tb_good x_Nb_ok ?_
  intro p l e s m below meth c D U Y0 av ls B hI hpre hl
  have X := B.1
  have hx := X.1
  have hb := X.2.1
  have hY0 := B.2.2.2.2.1
  obtain ⟨v0, v1, v2, rfl, hv0, ⟨x, rfl, -⟩, ⟨w, rfl, -⟩⟩ := y_three B.2.2.2.2.2
  obtain ⟨this, t0, rfl, ht0, hY_this⟩ := x_ref_at hv0 rfl
  obtain rfl := List.mem_singleton.mp ht0
  replace hl : lv_has ls xM117.2.2.1 [(0, .ref this), (1, .int x), (2, .int w)] := hl
  have hYt0 := hY_this
  obtain ⟨f, K, tt, nn, hR0⟩ := hpre _ rfl
  obtain ⟨hd, dr, kp, tx, by_, kk, ⟨hs_hd, -⟩, ⟨hY_hd, -⟩, hL, -⟩ := id hR0
  have hs0_hd := hs_hd
  have hF : z_fq D Y0 s.heap s.heap hd := fun _ _ _ _ _ _ _ _ => x_eq.of rfl
  have hfld : z_fld D hd s.heap s.heap := fun _ _ _ _ _ => rfl
  have hn0 := hL.1.1
  have hn1 := hL.1.2.1
  have hn2 := hL.1.2.2
  have hb0 : 0 ≤ (f 0).toInt ∧ (f 0).toInt ≤ 10 := by obtain ⟨x9, e9, b9⟩ := y_fldI (k := 0) hI.1 hY_hd rfl rfl; rw [hn0] at e9; cases e9; exact b9
  have hb1 : 0 ≤ (f 1).toInt ∧ (f 1).toInt ≤ 8 := by obtain ⟨x9, e9, b9⟩ := y_fldI (k := 6) hI.1 hY_hd rfl rfl; rw [hn1] at e9; cases e9; exact b9
  have hb2 : 0 ≤ (f 2).toInt ∧ (f 2).toInt ≤ 8 := by obtain ⟨x9, e9, b9⟩ := y_fldI (k := 12) hI.1 hY_hd rfl rfl; rw [hn2] at e9; cases e9; exact b9
  obtain ⟨areport, hs_areport, hY_areport, hA_areport⟩ := hL.2.1 (4, 22, 10, 13, 5) (by decide)
  replace hA_areport : y_A areport 10 s.heap (fun j => f (13 + 5 * j)) := hA_areport
  have hs0_areport := hs_areport
  refine lv_aload_n hx hb Trp_d0 rfl (lv_at hl 0 rfl) ?_
  refine y_getf X (fl8 X.2.2.2.2.1) hI.1 hY_this rfl hs_hd Trp_d1 ?_
  refine lv_iload_n hx hb Trp_d4 rfl (lv_at hl 1 rfl) ?_
  refine y_call (z := (0, 101, 2, some 2, xM40)) (av := [.ref hd, .int x]) (rest := []) (y_cokV (n := 1) (ci := 2) X ym_hasHill rfl rfl rfl (x_cons (x_bw29 8 rfl rfl) (x_cons (x_bw29 9 rfl rfl) (x_cons (x_bw29 10 rfl rfl) (x_cons (x_bw0 2 rfl rfl) x_nilm)))) (x_bw29 11 rfl rfl) (by decide +kernel) ⟨Nat.le_of_ble_eq_true rfl, Nat.le_of_ble_eq_true rfl⟩) hY0 hI rfl Trp_d5 hl.1 (Nat.le_of_ble_eq_true rfl) (Nat.le_of_ble_eq_true rfl) (Nat.le_of_ble_eq_true rfl) (y_cons (y_cref hY_hd rfl) (y_cons ⟨_, rfl, x_i32 _⟩ y_nil)) rfl (y_recv rfl hY_hd) trivial (y_sub_ef rfl) fun v Yn o Hn L ho hr ha hIn hx_ hE hP => ?_
  have hPh := hP _ _ _ rfl hn0
  replace hs_hd := y_Efld hE hY_this rfl (by decide) (by decide) hs_hd
  replace hn0 := y_Efld hE hY_hd rfl (by decide) (by decide) hn0
  replace hn1 := y_Efld hE hY_hd rfl (by decide) (by decide) hn1
  replace hn2 := y_Efld hE hY_hd rfl (by decide) (by decide) hn2
  replace hs_areport := y_Efld hE hY_hd rfl (by decide) (by decide) hs_areport
  replace hA_areport := hA_areport.kept (y_Earr hE hY_areport rfl (by decide))
  replace hL := hL.E hY_hd hE (fun q u h => y_ext hx_ hI.1 h) (by decide +kernel)
  replace hF := fun b u g9 (hb : Y0 b = some u) (h42 : u ≠ 42) (hg9 : x_G[u]? = some g9) (hn : b ≠ hd) (hk9 : ∀ k, k < 16 → x_sl D 2 k hd s.heap ≠ some (.ref b)) => x_eq.trans (x_eq.E42 hE (y_mon B hI _ _ hb) hg9 h42 rfl) (hF b u g9 hb h42 hg9 hn hk9)
  replace hfld : z_fld D hd s.heap _ := fun k a b c d => ((x_eq.E42 (g := x_G[2]) hE hY_hd rfl (by decide) rfl) k a).trans (hfld k a b c d)
  replace hY_this := y_ext hx_ hI.1 hY_this
  replace hY_hd := y_ext hx_ hI.1 hY_hd
  replace hY_areport := y_ext hx_ hI.1 hY_areport
  obtain ⟨r5, rfl, hin_r5, hout_r5⟩ := hPh
  clear ho hr ha hE hP hI hx_
  rename x_I _ _ _ _ _ _ _ _ _ _ => hI
  have ec0 : (0 : Int32).toInt = 0 := by decide
  refine lv_if_eq hx hb Trp_d8 (tgt := 21) (by decide) (fun q8 => ?_) (fun q8 => ?_)
  · have q8_ : r5.toInt = (0 : Int32).toInt := by rw [q8]
    have hno : ¬ (m_isH f x ∧ -1 ≤ w.toInt ∧ w.toInt ≤ 9) := fun q9 => by first | (exact hout_r5 (by assumption) q9.1) | (have := hout_r15 (by assumption); omega)
    refine lv_aload_n hx hb Trp_d21 rfl (lv_at hl 0 rfl) ?_
    refine lv_bipush hx hb Trp_d22 (v := (-2)) (by decide) ?_
    have ecm2 : ((-2) : Int32).toInt = (-2) := by decide
    refine lv_bipush hx hb Trp_d24 (v := (-10)) (by decide) ?_
    have ecm10 : ((-10) : Int32).toInt = (-10) := by decide
    refine y_call (z := (0, 221, 3, some 0, xM7)) (av := [.ref this, .int ((-2) : Int32), .int ((-10) : Int32)]) (rest := []) (y_cokV (n := 2) (ci := 11) X ym_countedAs rfl rfl rfl (x_cons (x_bw19 11 rfl rfl) (x_cons (x_bw19 13 rfl rfl) (x_cons (x_at 2 (by decide +kernel) rfl) (x_cons (x_bw0 1 rfl rfl) x_nilm)))) (x_bw19 14 rfl rfl) (by decide +kernel) ⟨Nat.le_of_ble_eq_true rfl, Nat.le_of_ble_eq_true rfl⟩) hY0 hI rfl Trp_d26 hl.1 (Nat.le_of_ble_eq_true rfl) (Nat.le_of_ble_eq_true rfl) (Nat.le_of_ble_eq_true rfl) (y_cons (y_cref hY_this rfl) (y_cons ⟨_, rfl, x_i32 _⟩ (y_cons ⟨_, rfl, x_i32 _⟩ y_nil))) rfl (y_recv rfl hY_this) trivial (y_sub_ef rfl) fun v Yn o Hn L ho hr ha hIn hx_ hE hP => ?_
    replace hs_hd := y_Efld hE hY_this rfl (by decide) (by decide) hs_hd
    replace hn0 := y_Efld hE hY_hd rfl (by decide) (by decide) hn0
    replace hn1 := y_Efld hE hY_hd rfl (by decide) (by decide) hn1
    replace hn2 := y_Efld hE hY_hd rfl (by decide) (by decide) hn2
    replace hs_areport := y_Efld hE hY_hd rfl (by decide) (by decide) hs_areport
    replace hA_areport := hA_areport.kept (y_Earr hE hY_areport rfl (by decide))
    replace hL := hL.E hY_hd hE (fun q u h => y_ext hx_ hI.1 h) (by decide +kernel)
    replace hF := fun b u g9 (hb : Y0 b = some u) (h42 : u ≠ 42) (hg9 : x_G[u]? = some g9) (hn : b ≠ hd) (hk9 : ∀ k, k < 16 → x_sl D 2 k hd s.heap ≠ some (.ref b)) => x_eq.trans (x_eq.E42 hE (y_mon B hI _ _ hb) hg9 h42 rfl) (hF b u g9 hb h42 hg9 hn hk9)
    replace hfld : z_fld D hd s.heap _ := fun k a b c d => ((x_eq.E42 (g := x_G[2]) hE hY_hd rfl (by decide) rfl) k a).trans (hfld k a b c d)
    replace hY_this := y_ext hx_ hI.1 hY_this
    replace hY_hd := y_ext hx_ hI.1 hY_hd
    replace hY_areport := y_ext hx_ hI.1 hY_areport
    obtain rfl := hP _ _ _ rfl
    clear ho hr ha hE hP hI hx_
    rename x_I _ _ _ _ _ _ _ _ _ _ => hI
    exact y_ireturn B hI rfl rfl rfl List.mem_cons_self ⟨_, rfl, ⟨_, rfl, x_i32 _⟩⟩ (x_cs.mono B.2.2.2.2.2 (y_mon B hI)) (fun t' w0' w1' f' K' tt' nn' h1 h2 => by cases h1; cases h2.eqf hR0; exact ⟨_, _, rfl, h2.fin hYt0 hs0_hd hF hL hfld (y_mon B hI), fun _ => ⟨rfl, rfl⟩, fun q9 => absurd q9 hno⟩) (by exact Nat.le_of_ble_eq_true rfl) (by exact Nat.le_of_ble_eq_true rfl) Trp_d29
  · have q8_ : ¬ r5.toInt = (0 : Int32).toInt := fun q => q8 (Int32.toInt_inj.mp q)
    refine lv_iload_n hx hb Trp_d11 rfl (lv_at hl 2 rfl) ?_
    refine lv_iconst hx hb Trp_d12 (v := (-1)) (by decide) ?_
    have ecm1 : ((-1) : Int32).toInt = (-1) := by decide
    refine lv_bipush hx hb Trp_d13 (v := 9) (by decide) ?_
    have ec9 : (9 : Int32).toInt = 9 := by decide
    refine y_call (z := (1, 88, 3, none, xM10)) (av := [.int w, .int ((-1) : Int32), .int (9 : Int32)]) (rest := []) (y_cokS (n := 3) X ym_within (x_cons (x_bw19 15 rfl rfl) (x_cons (x_bw19 1 rfl rfl) (x_cons (x_bw0 1 rfl rfl) x_nilm))) (x_bw19 2 rfl rfl) (by decide +kernel) ⟨Nat.le_of_ble_eq_true rfl, Nat.le_of_ble_eq_true rfl⟩) hY0 hI rfl Trp_d15 hl.1 (Nat.le_of_ble_eq_true rfl) (Nat.le_of_ble_eq_true rfl) (Nat.le_of_ble_eq_true rfl) (y_cons ⟨_, rfl, x_i32 _⟩ (y_cons ⟨_, rfl, x_i32 _⟩ (y_cons ⟨_, rfl, x_i32 _⟩ y_nil))) rfl (y_norecv rfl) trivial (y_sub_ef rfl) fun v Yn o Hn L ho hr ha hIn hx_ hE hP => ?_
    replace hs_hd := y_Efld hE hY_this rfl (by decide) (by decide) hs_hd
    replace hn0 := y_Efld hE hY_hd rfl (by decide) (by decide) hn0
    replace hn1 := y_Efld hE hY_hd rfl (by decide) (by decide) hn1
    replace hn2 := y_Efld hE hY_hd rfl (by decide) (by decide) hn2
    replace hs_areport := y_Efld hE hY_hd rfl (by decide) (by decide) hs_areport
    replace hA_areport := hA_areport.kept (y_Earr hE hY_areport rfl (by decide))
    replace hL := hL.E hY_hd hE (fun q u h => y_ext hx_ hI.1 h) (by decide +kernel)
    replace hF := fun b u g9 (hb : Y0 b = some u) (h42 : u ≠ 42) (hg9 : x_G[u]? = some g9) (hn : b ≠ hd) (hk9 : ∀ k, k < 16 → x_sl D 2 k hd s.heap ≠ some (.ref b)) => x_eq.trans (x_eq.E42 hE (y_mon B hI _ _ hb) hg9 h42 rfl) (hF b u g9 hb h42 hg9 hn hk9)
    replace hfld : z_fld D hd s.heap _ := fun k a b c d => ((x_eq.E42 (g := x_G[2]) hE hY_hd rfl (by decide) rfl) k a).trans (hfld k a b c d)
    replace hY_this := y_ext hx_ hI.1 hY_this
    replace hY_hd := y_ext hx_ hI.1 hY_hd
    replace hY_areport := y_ext hx_ hI.1 hY_areport
    obtain ⟨r15, rfl, hin_r15, hout_r15⟩ := hP _ _ _ rfl
    clear ho hr ha hE hP hI hx_
    rename x_I _ _ _ _ _ _ _ _ _ _ => hI
    refine lv_if_ne hx hb Trp_d18 (tgt := 30) (by decide) (fun q18 => ?_) (fun q18 => ?_)
    · have q18_ : ¬ r15.toInt = (0 : Int32).toInt := fun q => q18 (Int32.toInt_inj.mp q)
      have hw1 := hin_r5 (by assumption)
      have hw2 := hin_r15 (by assumption)
      have hw3 := hw1
      unfold m_isH at hw3
      have hok : m_isH f x ∧ -1 ≤ w.toInt ∧ w.toInt ≤ 9 := ⟨hw1, by omega, by omega⟩
      refine lv_aload_n hx hb Trp_d30 rfl (lv_at hl 0 rfl) ?_
      refine y_getf X (fl8 X.2.2.2.2.1) hI.1 hY_this rfl hs_hd Trp_d31 ?_
      refine y_getf X (fl151 X.2.2.2.2.1) hI.1 hY_hd rfl hs_areport Trp_d34 ?_
      refine lv_iload_n hx hb Trp_d37 rfl (lv_at hl 1 rfl) ?_
      refine y_iald X hI.1 hY_areport rfl hA_areport (by omega) (by show _ < (10 : Int); omega) Trp_d38 ?_
      obtain ⟨e38, hg_e38⟩ : ∃ e38 : Int32, f (13 + 5 * x.toInt.toNat) = e38 := ⟨_, rfl⟩
      rw [hg_e38]
      refine lv_istore_n hx hb Trp_d39 rfl hl (by decide) (lv' := [(3, .int e38), (0, .ref this), (1, .int x), (2, .int w)]) rfl fun ls hl => ?_
      refine lv_aload_n hx hb Trp_d40 rfl (lv_at hl 1 rfl) ?_
      refine y_getf X (fl8 X.2.2.2.2.1) hI.1 hY_this rfl hs_hd Trp_d41 ?_
      refine y_getf X (fl151 X.2.2.2.2.1) hI.1 hY_hd rfl hs_areport Trp_d44 ?_
      refine lv_iload_n hx hb Trp_d47 rfl (lv_at hl 2 rfl) ?_
      refine lv_iload_n hx hb Trp_d48 rfl (lv_at hl 3 rfl) ?_
      have hs_old := hs_areport
      have hA_old := hA_areport
      refine y_iast X hY0 hI hY_areport rfl hA_areport (by omega) (by show _ < (10 : Int); omega) ⟨_, rfl, x_i32 _⟩ (by decide +kernel) Trp_d49 fun H locs hI h_new ho => ?_
      replace hA_areport := h_new
      generalize hf_f49 : y_up (fun j => f (13 + 5 * j)) x.toInt.toNat w = f49 at hA_areport
      replace hs_hd := y_slk hs_hd (ho _ (y_ne hY_this hY_areport rfl))
      replace hn0 := y_slk hn0 (ho _ (y_ne hY_hd hY_areport rfl))
      replace hn1 := y_slk hn1 (ho _ (y_ne hY_hd hY_areport rfl))
      replace hn2 := y_slk hn2 (ho _ (y_ne hY_hd hY_areport rfl))
      replace hs_areport := y_slk hs_areport (ho _ (y_ne hY_hd hY_areport rfl))
      replace hL := hL.putA (c := (4, 22, 10, 13, 5)) (N := 10) hY_hd (by decide) rfl (by omega) hs_old hA_old h_new ho
      replace hF := fun b u g9 (hb : Y0 b = some u) (h42 : u ≠ 42) (hg9 : x_G[u]? = some g9) (hn : b ≠ hd) (hk9 : ∀ k, k < 16 → x_sl D 2 k hd s.heap ≠ some (.ref b)) => x_eq.trans (x_eq.of (ho b (fun e0 => hk9 4 (by decide) (by rw [e0]; exact hs0_areport)))) (hF b u g9 hb h42 hg9 hn hk9)
      replace hfld : z_fld D hd s.heap _ := fun k a b c d => (y_slk rfl (ho _ (y_ne hY_hd hY_areport rfl))).trans (hfld k a b c d)
      refine lv_iload_n hx hb Trp_d50 rfl (lv_at hl 0 rfl) ?_
      subst hg_e38
      exact y_ireturn B hI rfl rfl rfl List.mem_cons_self ⟨_, rfl, ⟨_, rfl, x_i32 _⟩⟩ (x_cs.mono B.2.2.2.2.2 (y_mon B hI)) (fun t' w0' w1' f' K' tt' nn' h1 h2 => by cases h1; cases h2.eqf hR0; exact ⟨_, _, rfl, h2.fin hYt0 hs0_hd hF hL hfld (y_mon B hI), fun q9 => absurd hok q9, fun _ => ⟨rfl, rfl⟩⟩) (by exact Nat.le_of_ble_eq_true rfl) (by exact Nat.le_of_ble_eq_true rfl) Trp_d51
    · have q18_ : r15.toInt = (0 : Int32).toInt := by rw [q18]
      have hno : ¬ (m_isH f x ∧ -1 ≤ w.toInt ∧ w.toInt ≤ 9) := fun q9 => by first | (exact hout_r5 (by assumption) q9.1) | (have := hout_r15 (by assumption); omega)
      refine lv_aload_n hx hb Trp_d21 rfl (lv_at hl 0 rfl) ?_
      refine lv_bipush hx hb Trp_d22 (v := (-2)) (by decide) ?_
      have ecm2 : ((-2) : Int32).toInt = (-2) := by decide
      refine lv_bipush hx hb Trp_d24 (v := (-10)) (by decide) ?_
      have ecm10 : ((-10) : Int32).toInt = (-10) := by decide
      refine y_call (z := (0, 221, 3, some 0, xM7)) (av := [.ref this, .int ((-2) : Int32), .int ((-10) : Int32)]) (rest := []) (y_cokV (n := 2) (ci := 11) X ym_countedAs rfl rfl rfl (x_cons (x_bw19 11 rfl rfl) (x_cons (x_bw19 13 rfl rfl) (x_cons (x_at 2 (by decide +kernel) rfl) (x_cons (x_bw0 1 rfl rfl) x_nilm)))) (x_bw19 14 rfl rfl) (by decide +kernel) ⟨Nat.le_of_ble_eq_true rfl, Nat.le_of_ble_eq_true rfl⟩) hY0 hI rfl Trp_d26 hl.1 (Nat.le_of_ble_eq_true rfl) (Nat.le_of_ble_eq_true rfl) (Nat.le_of_ble_eq_true rfl) (y_cons (y_cref hY_this rfl) (y_cons ⟨_, rfl, x_i32 _⟩ (y_cons ⟨_, rfl, x_i32 _⟩ y_nil))) rfl (y_recv rfl hY_this) trivial (y_sub_ef rfl) fun v Yn o Hn L ho hr ha hIn hx_ hE hP => ?_
      replace hs_hd := y_Efld hE hY_this rfl (by decide) (by decide) hs_hd
      replace hn0 := y_Efld hE hY_hd rfl (by decide) (by decide) hn0
      replace hn1 := y_Efld hE hY_hd rfl (by decide) (by decide) hn1
      replace hn2 := y_Efld hE hY_hd rfl (by decide) (by decide) hn2
      replace hs_areport := y_Efld hE hY_hd rfl (by decide) (by decide) hs_areport
      replace hA_areport := hA_areport.kept (y_Earr hE hY_areport rfl (by decide))
      replace hL := hL.E hY_hd hE (fun q u h => y_ext hx_ hI.1 h) (by decide +kernel)
      replace hF := fun b u g9 (hb : Y0 b = some u) (h42 : u ≠ 42) (hg9 : x_G[u]? = some g9) (hn : b ≠ hd) (hk9 : ∀ k, k < 16 → x_sl D 2 k hd s.heap ≠ some (.ref b)) => x_eq.trans (x_eq.E42 hE (y_mon B hI _ _ hb) hg9 h42 rfl) (hF b u g9 hb h42 hg9 hn hk9)
      replace hfld : z_fld D hd s.heap _ := fun k a b c d => ((x_eq.E42 (g := x_G[2]) hE hY_hd rfl (by decide) rfl) k a).trans (hfld k a b c d)
      replace hY_this := y_ext hx_ hI.1 hY_this
      replace hY_hd := y_ext hx_ hI.1 hY_hd
      replace hY_areport := y_ext hx_ hI.1 hY_areport
      obtain rfl := hP _ _ _ rfl
      clear ho hr ha hE hP hI hx_
      rename x_I _ _ _ _ _ _ _ _ _ _ => hI
      exact y_ireturn B hI rfl rfl rfl List.mem_cons_self ⟨_, rfl, ⟨_, rfl, x_i32 _⟩⟩ (x_cs.mono B.2.2.2.2.2 (y_mon B hI)) (fun t' w0' w1' f' K' tt' nn' h1 h2 => by cases h1; cases h2.eqf hR0; exact ⟨_, _, rfl, h2.fin hYt0 hs0_hd hF hL hfld (y_mon B hI), fun _ => ⟨rfl, rfl⟩, fun q9 => absurd q9 hno⟩) (by exact Nat.le_of_ble_eq_true rfl) (by exact Nat.le_of_ble_eq_true rfl) Trp_d29
def z_PTTbl : yP := fun D av Y H v Y' H' => ∀ (this : Nat) (x w : Int32) (f : Nat → Int32) (K : Nat → Option (Nat → Int32)) (t9 : Nat → Int32) (n9 : Int32), av = [.ref this, .int x, .int w] → z_RC D Y H this f K t9 n9 → ∃ (r : Int32) (g : Nat → Int32), v = some (.int r) ∧ z_RC D Y' H' this g K t9 n9 ∧ m_at (m_isH f x ∧ 0 ≤ w.toInt ∧ w.toInt ≤ 9) (-2) f (14 + 5 * x.toInt.toNat) w r g
theorem Tbl_d0 : decode xM118.2.1 0 = .ok (.aload_n 0, 1) := dz_ok (by decide +kernel)
theorem Tbl_d1 : decode xM118.2.1 1 = .ok (.getfield 12, 3) := dz_ok (by decide +kernel)
theorem Tbl_d4 : decode xM118.2.1 4 = .ok (.iload_n 1, 1) := dz_ok (by decide +kernel)
theorem Tbl_d5 : decode xM118.2.1 5 = .ok (.invokevirtual 101, 3) := dz_ok (by decide +kernel)
theorem Tbl_d8 : decode xM118.2.1 8 = .ok (.ifCond .eq 13, 3) := dz_ok (by decide +kernel)
theorem Tbl_d11 : decode xM118.2.1 11 = .ok (.iload_n 2, 1) := dz_ok (by decide +kernel)
theorem Tbl_d12 : decode xM118.2.1 12 = .ok (.iconst 0, 1) := dz_ok (by decide +kernel)
theorem Tbl_d13 : decode xM118.2.1 13 = .ok (.bipush 9, 2) := dz_ok (by decide +kernel)
theorem Tbl_d15 : decode xM118.2.1 15 = .ok (.invokestatic 88, 3) := dz_ok (by decide +kernel)
theorem Tbl_d18 : decode xM118.2.1 18 = .ok (.ifCond .ne 10, 3) := dz_ok (by decide +kernel)
theorem Tbl_d21 : decode xM118.2.1 21 = .ok (.aload_n 0, 1) := dz_ok (by decide +kernel)
theorem Tbl_d22 : decode xM118.2.1 22 = .ok (.bipush (-2), 2) := dz_ok (by decide +kernel)
theorem Tbl_d24 : decode xM118.2.1 24 = .ok (.invokevirtual 59, 3) := dz_ok (by decide +kernel)
theorem Tbl_d27 : decode xM118.2.1 27 = .ok (.ireturn, 1) := dz_ok (by decide +kernel)
theorem Tbl_d28 : decode xM118.2.1 28 = .ok (.aload_n 0, 1) := dz_ok (by decide +kernel)
theorem Tbl_d29 : decode xM118.2.1 29 = .ok (.getfield 12, 3) := dz_ok (by decide +kernel)
theorem Tbl_d32 : decode xM118.2.1 32 = .ok (.getfield 267, 3) := dz_ok (by decide +kernel)
theorem Tbl_d35 : decode xM118.2.1 35 = .ok (.iload_n 1, 1) := dz_ok (by decide +kernel)
theorem Tbl_d36 : decode xM118.2.1 36 = .ok (.iaload, 1) := dz_ok (by decide +kernel)
theorem Tbl_d37 : decode xM118.2.1 37 = .ok (.istore_n 3, 1) := dz_ok (by decide +kernel)
theorem Tbl_d38 : decode xM118.2.1 38 = .ok (.aload_n 0, 1) := dz_ok (by decide +kernel)
theorem Tbl_d39 : decode xM118.2.1 39 = .ok (.getfield 12, 3) := dz_ok (by decide +kernel)
theorem Tbl_d42 : decode xM118.2.1 42 = .ok (.getfield 267, 3) := dz_ok (by decide +kernel)
theorem Tbl_d45 : decode xM118.2.1 45 = .ok (.iload_n 1, 1) := dz_ok (by decide +kernel)
theorem Tbl_d46 : decode xM118.2.1 46 = .ok (.iload_n 2, 1) := dz_ok (by decide +kernel)
theorem Tbl_d47 : decode xM118.2.1 47 = .ok (.iastore, 1) := dz_ok (by decide +kernel)
theorem Tbl_d48 : decode xM118.2.1 48 = .ok (.iload_n 3, 1) := dz_ok (by decide +kernel)
theorem Tbl_d49 : decode xM118.2.1 49 = .ok (.ireturn, 1) := dz_ok (by decide +kernel)
theorem ym_Tblame : y_Met vwCl x_G x_Zs x_Tb x_Nb xM118 z_ATF z_PTTbl := by
  refine y_main (by decide +kernel) (by decide +kernel) x_Tb_good x_Nb_ok ?_
  intro p l e s m below meth c D U Y0 av ls B hI hpre hl
  have X := B.1
  have hx := X.1
  have hb := X.2.1
  have hY0 := B.2.2.2.2.1
  obtain ⟨v0, v1, v2, rfl, hv0, ⟨x, rfl, -⟩, ⟨w, rfl, -⟩⟩ := y_three B.2.2.2.2.2
  obtain ⟨this, t0, rfl, ht0, hY_this⟩ := x_ref_at hv0 rfl
  obtain rfl := List.mem_singleton.mp ht0
  replace hl : lv_has ls xM118.2.2.1 [(0, .ref this), (1, .int x), (2, .int w)] := hl
  have hYt0 := hY_this
  obtain ⟨f, K, tt, nn, hR0⟩ := hpre _ rfl
  obtain ⟨hd, dr, kp, tx, by_, kk, ⟨hs_hd, -⟩, ⟨hY_hd, -⟩, hL, -⟩ := id hR0
  have hs0_hd := hs_hd
  have hF : z_fq D Y0 s.heap s.heap hd := fun _ _ _ _ _ _ _ _ => x_eq.of rfl
  have hfld : z_fld D hd s.heap s.heap := fun _ _ _ _ _ => rfl
  have hn0 := hL.1.1
  have hn1 := hL.1.2.1
  have hn2 := hL.1.2.2
  have hb0 : 0 ≤ (f 0).toInt ∧ (f 0).toInt ≤ 10 := by obtain ⟨x9, e9, b9⟩ := y_fldI (k := 0) hI.1 hY_hd rfl rfl; rw [hn0] at e9; cases e9; exact b9
  have hb1 : 0 ≤ (f 1).toInt ∧ (f 1).toInt ≤ 8 := by obtain ⟨x9, e9, b9⟩ := y_fldI (k := 6) hI.1 hY_hd rfl rfl; rw [hn1] at e9; cases e9; exact b9
  have hb2 : 0 ≤ (f 2).toInt ∧ (f 2).toInt ≤ 8 := by obtain ⟨x9, e9, b9⟩ := y_fldI (k := 12) hI.1 hY_hd rfl rfl; rw [hn2] at e9; cases e9; exact b9
  obtain ⟨ablame, hs_ablame, hY_ablame, hA_ablame⟩ := hL.2.1 (5, 23, 10, 14, 5) (by decide)
  replace hA_ablame : y_A ablame 10 s.heap (fun j => f (14 + 5 * j)) := hA_ablame
  have hs0_ablame := hs_ablame
  refine lv_aload_n hx hb Tbl_d0 rfl (lv_at hl 0 rfl) ?_
  refine y_getf X (fl8 X.2.2.2.2.1) hI.1 hY_this rfl hs_hd Tbl_d1 ?_
  refine lv_iload_n hx hb Tbl_d4 rfl (lv_at hl 1 rfl) ?_
  refine y_call (z := (0, 101, 2, some 2, xM40)) (av := [.ref hd, .int x]) (rest := []) (y_cokV (n := 1) (ci := 2) X ym_hasHill rfl rfl rfl (x_cons (x_bw29 8 rfl rfl) (x_cons (x_bw29 9 rfl rfl) (x_cons (x_bw29 10 rfl rfl) (x_cons (x_bw0 2 rfl rfl) x_nilm)))) (x_bw29 11 rfl rfl) (by decide +kernel) ⟨Nat.le_of_ble_eq_true rfl, Nat.le_of_ble_eq_true rfl⟩) hY0 hI rfl Tbl_d5 hl.1 (Nat.le_of_ble_eq_true rfl) (Nat.le_of_ble_eq_true rfl) (Nat.le_of_ble_eq_true rfl) (y_cons (y_cref hY_hd rfl) (y_cons ⟨_, rfl, x_i32 _⟩ y_nil)) rfl (y_recv rfl hY_hd) trivial (y_sub_ef rfl) fun v Yn o Hn L ho hr ha hIn hx_ hE hP => ?_
  have hPh := hP _ _ _ rfl hn0
  replace hs_hd := y_Efld hE hY_this rfl (by decide) (by decide) hs_hd
  replace hn0 := y_Efld hE hY_hd rfl (by decide) (by decide) hn0
  replace hn1 := y_Efld hE hY_hd rfl (by decide) (by decide) hn1
  replace hn2 := y_Efld hE hY_hd rfl (by decide) (by decide) hn2
  replace hs_ablame := y_Efld hE hY_hd rfl (by decide) (by decide) hs_ablame
  replace hA_ablame := hA_ablame.kept (y_Earr hE hY_ablame rfl (by decide))
  replace hL := hL.E hY_hd hE (fun q u h => y_ext hx_ hI.1 h) (by decide +kernel)
  replace hF := fun b u g9 (hb : Y0 b = some u) (h42 : u ≠ 42) (hg9 : x_G[u]? = some g9) (hn : b ≠ hd) (hk9 : ∀ k, k < 16 → x_sl D 2 k hd s.heap ≠ some (.ref b)) => x_eq.trans (x_eq.E42 hE (y_mon B hI _ _ hb) hg9 h42 rfl) (hF b u g9 hb h42 hg9 hn hk9)
  replace hfld : z_fld D hd s.heap _ := fun k a b c d => ((x_eq.E42 (g := x_G[2]) hE hY_hd rfl (by decide) rfl) k a).trans (hfld k a b c d)
  replace hY_this := y_ext hx_ hI.1 hY_this
  replace hY_hd := y_ext hx_ hI.1 hY_hd
  replace hY_ablame := y_ext hx_ hI.1 hY_ablame
  obtain ⟨r5, rfl, hin_r5, hout_r5⟩ := hPh
  clear ho hr ha hE hP hI hx_
  rename x_I _ _ _ _ _ _ _ _ _ _ => hI
  have ec0 : (0 : Int32).toInt = 0 := by decide
  refine lv_if_eq hx hb Tbl_d8 (tgt := 21) (by decide) (fun q8 => ?_) (fun q8 => ?_)
  · have q8_ : r5.toInt = (0 : Int32).toInt := by rw [q8]
    have hno : ¬ (m_isH f x ∧ 0 ≤ w.toInt ∧ w.toInt ≤ 9) := fun q9 => by first | (exact hout_r5 (by assumption) q9.1) | (have := hout_r15 (by assumption); omega)
    refine lv_aload_n hx hb Tbl_d21 rfl (lv_at hl 0 rfl) ?_
    refine lv_bipush hx hb Tbl_d22 (v := (-2)) (by decide) ?_
    have ecm2 : ((-2) : Int32).toInt = (-2) := by decide
    refine y_call (z := (0, 59, 2, some 0, xM8)) (av := [.ref this, .int ((-2) : Int32)]) (rest := []) (y_cokV (n := 1) (ci := 11) X ym_counted rfl rfl rfl (x_cons (x_bw19 7 rfl rfl) (x_cons (x_bw19 9 rfl rfl) (x_cons (x_at 1 (by decide +kernel) rfl) (x_cons (x_bw0 1 rfl rfl) x_nilm)))) (x_bw19 10 rfl rfl) (by decide +kernel) ⟨Nat.le_of_ble_eq_true rfl, Nat.le_of_ble_eq_true rfl⟩) hY0 hI rfl Tbl_d24 hl.1 (Nat.le_of_ble_eq_true rfl) (Nat.le_of_ble_eq_true rfl) (Nat.le_of_ble_eq_true rfl) (y_cons (y_cref hY_this rfl) (y_cons ⟨_, rfl, x_i32 _⟩ y_nil)) rfl (y_recv rfl hY_this) trivial (y_sub_ef rfl) fun v Yn o Hn L ho hr ha hIn hx_ hE hP => ?_
    replace hs_hd := y_Efld hE hY_this rfl (by decide) (by decide) hs_hd
    replace hn0 := y_Efld hE hY_hd rfl (by decide) (by decide) hn0
    replace hn1 := y_Efld hE hY_hd rfl (by decide) (by decide) hn1
    replace hn2 := y_Efld hE hY_hd rfl (by decide) (by decide) hn2
    replace hs_ablame := y_Efld hE hY_hd rfl (by decide) (by decide) hs_ablame
    replace hA_ablame := hA_ablame.kept (y_Earr hE hY_ablame rfl (by decide))
    replace hL := hL.E hY_hd hE (fun q u h => y_ext hx_ hI.1 h) (by decide +kernel)
    replace hF := fun b u g9 (hb : Y0 b = some u) (h42 : u ≠ 42) (hg9 : x_G[u]? = some g9) (hn : b ≠ hd) (hk9 : ∀ k, k < 16 → x_sl D 2 k hd s.heap ≠ some (.ref b)) => x_eq.trans (x_eq.E42 hE (y_mon B hI _ _ hb) hg9 h42 rfl) (hF b u g9 hb h42 hg9 hn hk9)
    replace hfld : z_fld D hd s.heap _ := fun k a b c d => ((x_eq.E42 (g := x_G[2]) hE hY_hd rfl (by decide) rfl) k a).trans (hfld k a b c d)
    replace hY_this := y_ext hx_ hI.1 hY_this
    replace hY_hd := y_ext hx_ hI.1 hY_hd
    replace hY_ablame := y_ext hx_ hI.1 hY_ablame
    obtain rfl := hP _ _ rfl
    clear ho hr ha hE hP hI hx_
    rename x_I _ _ _ _ _ _ _ _ _ _ => hI
    exact y_ireturn B hI rfl rfl rfl List.mem_cons_self ⟨_, rfl, ⟨_, rfl, x_i32 _⟩⟩ (x_cs.mono B.2.2.2.2.2 (y_mon B hI)) (fun t' w0' w1' f' K' tt' nn' h1 h2 => by cases h1; cases h2.eqf hR0; exact ⟨_, _, rfl, h2.fin hYt0 hs0_hd hF hL hfld (y_mon B hI), fun _ => ⟨rfl, rfl⟩, fun q9 => absurd q9 hno⟩) (by exact Nat.le_of_ble_eq_true rfl) (by exact Nat.le_of_ble_eq_true rfl) Tbl_d27
  · have q8_ : ¬ r5.toInt = (0 : Int32).toInt := fun q => q8 (Int32.toInt_inj.mp q)
    refine lv_iload_n hx hb Tbl_d11 rfl (lv_at hl 2 rfl) ?_
    refine lv_iconst hx hb Tbl_d12 (v := 0) (by decide) ?_
    refine lv_bipush hx hb Tbl_d13 (v := 9) (by decide) ?_
    have ec9 : (9 : Int32).toInt = 9 := by decide
    refine y_call (z := (1, 88, 3, none, xM10)) (av := [.int w, .int (0 : Int32), .int (9 : Int32)]) (rest := []) (y_cokS (n := 3) X ym_within (x_cons (x_bw19 15 rfl rfl) (x_cons (x_bw19 1 rfl rfl) (x_cons (x_bw0 1 rfl rfl) x_nilm))) (x_bw19 2 rfl rfl) (by decide +kernel) ⟨Nat.le_of_ble_eq_true rfl, Nat.le_of_ble_eq_true rfl⟩) hY0 hI rfl Tbl_d15 hl.1 (Nat.le_of_ble_eq_true rfl) (Nat.le_of_ble_eq_true rfl) (Nat.le_of_ble_eq_true rfl) (y_cons ⟨_, rfl, x_i32 _⟩ (y_cons ⟨_, rfl, x_i32 _⟩ (y_cons ⟨_, rfl, x_i32 _⟩ y_nil))) rfl (y_norecv rfl) trivial (y_sub_ef rfl) fun v Yn o Hn L ho hr ha hIn hx_ hE hP => ?_
    replace hs_hd := y_Efld hE hY_this rfl (by decide) (by decide) hs_hd
    replace hn0 := y_Efld hE hY_hd rfl (by decide) (by decide) hn0
    replace hn1 := y_Efld hE hY_hd rfl (by decide) (by decide) hn1
    replace hn2 := y_Efld hE hY_hd rfl (by decide) (by decide) hn2
    replace hs_ablame := y_Efld hE hY_hd rfl (by decide) (by decide) hs_ablame
    replace hA_ablame := hA_ablame.kept (y_Earr hE hY_ablame rfl (by decide))
    replace hL := hL.E hY_hd hE (fun q u h => y_ext hx_ hI.1 h) (by decide +kernel)
    replace hF := fun b u g9 (hb : Y0 b = some u) (h42 : u ≠ 42) (hg9 : x_G[u]? = some g9) (hn : b ≠ hd) (hk9 : ∀ k, k < 16 → x_sl D 2 k hd s.heap ≠ some (.ref b)) => x_eq.trans (x_eq.E42 hE (y_mon B hI _ _ hb) hg9 h42 rfl) (hF b u g9 hb h42 hg9 hn hk9)
    replace hfld : z_fld D hd s.heap _ := fun k a b c d => ((x_eq.E42 (g := x_G[2]) hE hY_hd rfl (by decide) rfl) k a).trans (hfld k a b c d)
    replace hY_this := y_ext hx_ hI.1 hY_this
    replace hY_hd := y_ext hx_ hI.1 hY_hd
    replace hY_ablame := y_ext hx_ hI.1 hY_ablame
    obtain ⟨r15, rfl, hin_r15, hout_r15⟩ := hP _ _ _ rfl
    clear ho hr ha hE hP hI hx_
    rename x_I _ _ _ _ _ _ _ _ _ _ => hI
    refine lv_if_ne hx hb Tbl_d18 (tgt := 28) (by decide) (fun q18 => ?_) (fun q18 => ?_)
    · have q18_ : ¬ r15.toInt = (0 : Int32).toInt := fun q => q18 (Int32.toInt_inj.mp q)
      have hw1 := hin_r5 (by assumption)
      have hw2 := hin_r15 (by assumption)
      have hw3 := hw1
      unfold m_isH at hw3
      have hok : m_isH f x ∧ 0 ≤ w.toInt ∧ w.toInt ≤ 9 := ⟨hw1, by omega, by omega⟩
      refine lv_aload_n hx hb Tbl_d28 rfl (lv_at hl 0 rfl) ?_
      refine y_getf X (fl8 X.2.2.2.2.1) hI.1 hY_this rfl hs_hd Tbl_d29 ?_
      refine y_getf X (fl152 X.2.2.2.2.1) hI.1 hY_hd rfl hs_ablame Tbl_d32 ?_
      refine lv_iload_n hx hb Tbl_d35 rfl (lv_at hl 1 rfl) ?_
      refine y_iald X hI.1 hY_ablame rfl hA_ablame (by omega) (by show _ < (10 : Int); omega) Tbl_d36 ?_
      obtain ⟨e36, hg_e36⟩ : ∃ e36 : Int32, f (14 + 5 * x.toInt.toNat) = e36 := ⟨_, rfl⟩
      rw [hg_e36]
      refine lv_istore_n hx hb Tbl_d37 rfl hl (by decide) (lv' := [(3, .int e36), (0, .ref this), (1, .int x), (2, .int w)]) rfl fun ls hl => ?_
      refine lv_aload_n hx hb Tbl_d38 rfl (lv_at hl 1 rfl) ?_
      refine y_getf X (fl8 X.2.2.2.2.1) hI.1 hY_this rfl hs_hd Tbl_d39 ?_
      refine y_getf X (fl152 X.2.2.2.2.1) hI.1 hY_hd rfl hs_ablame Tbl_d42 ?_
      refine lv_iload_n hx hb Tbl_d45 rfl (lv_at hl 2 rfl) ?_
      refine lv_iload_n hx hb Tbl_d46 rfl (lv_at hl 3 rfl) ?_
      have hs_old := hs_ablame
      have hA_old := hA_ablame
      refine y_iast X hY0 hI hY_ablame rfl hA_ablame (by omega) (by show _ < (10 : Int); omega) ⟨_, rfl, x_i32 _⟩ (by decide +kernel) Tbl_d47 fun H locs hI h_new ho => ?_
      replace hA_ablame := h_new
      generalize hf_f47 : y_up (fun j => f (14 + 5 * j)) x.toInt.toNat w = f47 at hA_ablame
      replace hs_hd := y_slk hs_hd (ho _ (y_ne hY_this hY_ablame rfl))
      replace hn0 := y_slk hn0 (ho _ (y_ne hY_hd hY_ablame rfl))
      replace hn1 := y_slk hn1 (ho _ (y_ne hY_hd hY_ablame rfl))
      replace hn2 := y_slk hn2 (ho _ (y_ne hY_hd hY_ablame rfl))
      replace hs_ablame := y_slk hs_ablame (ho _ (y_ne hY_hd hY_ablame rfl))
      replace hL := hL.putA (c := (5, 23, 10, 14, 5)) (N := 10) hY_hd (by decide) rfl (by omega) hs_old hA_old h_new ho
      replace hF := fun b u g9 (hb : Y0 b = some u) (h42 : u ≠ 42) (hg9 : x_G[u]? = some g9) (hn : b ≠ hd) (hk9 : ∀ k, k < 16 → x_sl D 2 k hd s.heap ≠ some (.ref b)) => x_eq.trans (x_eq.of (ho b (fun e0 => hk9 5 (by decide) (by rw [e0]; exact hs0_ablame)))) (hF b u g9 hb h42 hg9 hn hk9)
      replace hfld : z_fld D hd s.heap _ := fun k a b c d => (y_slk rfl (ho _ (y_ne hY_hd hY_ablame rfl))).trans (hfld k a b c d)
      refine lv_iload_n hx hb Tbl_d48 rfl (lv_at hl 0 rfl) ?_
      subst hg_e36
      exact y_ireturn B hI rfl rfl rfl List.mem_cons_self ⟨_, rfl, ⟨_, rfl, x_i32 _⟩⟩ (x_cs.mono B.2.2.2.2.2 (y_mon B hI)) (fun t' w0' w1' f' K' tt' nn' h1 h2 => by cases h1; cases h2.eqf hR0; exact ⟨_, _, rfl, h2.fin hYt0 hs0_hd hF hL hfld (y_mon B hI), fun q9 => absurd hok q9, fun _ => ⟨rfl, rfl⟩⟩) (by exact Nat.le_of_ble_eq_true rfl) (by exact Nat.le_of_ble_eq_true rfl) Tbl_d49
    · have q18_ : r15.toInt = (0 : Int32).toInt := by rw [q18]
      have hno : ¬ (m_isH f x ∧ 0 ≤ w.toInt ∧ w.toInt ≤ 9) := fun q9 => by first | (exact hout_r5 (by assumption) q9.1) | (have := hout_r15 (by assumption); omega)
      refine lv_aload_n hx hb Tbl_d21 rfl (lv_at hl 0 rfl) ?_
      refine lv_bipush hx hb Tbl_d22 (v := (-2)) (by decide) ?_
      have ecm2 : ((-2) : Int32).toInt = (-2) := by decide
      refine y_call (z := (0, 59, 2, some 0, xM8)) (av := [.ref this, .int ((-2) : Int32)]) (rest := []) (y_cokV (n := 1) (ci := 11) X ym_counted rfl rfl rfl (x_cons (x_bw19 7 rfl rfl) (x_cons (x_bw19 9 rfl rfl) (x_cons (x_at 1 (by decide +kernel) rfl) (x_cons (x_bw0 1 rfl rfl) x_nilm)))) (x_bw19 10 rfl rfl) (by decide +kernel) ⟨Nat.le_of_ble_eq_true rfl, Nat.le_of_ble_eq_true rfl⟩) hY0 hI rfl Tbl_d24 hl.1 (Nat.le_of_ble_eq_true rfl) (Nat.le_of_ble_eq_true rfl) (Nat.le_of_ble_eq_true rfl) (y_cons (y_cref hY_this rfl) (y_cons ⟨_, rfl, x_i32 _⟩ y_nil)) rfl (y_recv rfl hY_this) trivial (y_sub_ef rfl) fun v Yn o Hn L ho hr ha hIn hx_ hE hP => ?_
      replace hs_hd := y_Efld hE hY_this rfl (by decide) (by decide) hs_hd
      replace hn0 := y_Efld hE hY_hd rfl (by decide) (by decide) hn0
      replace hn1 := y_Efld hE hY_hd rfl (by decide) (by decide) hn1
      replace hn2 := y_Efld hE hY_hd rfl (by decide) (by decide) hn2
      replace hs_ablame := y_Efld hE hY_hd rfl (by decide) (by decide) hs_ablame
      replace hA_ablame := hA_ablame.kept (y_Earr hE hY_ablame rfl (by decide))
      replace hL := hL.E hY_hd hE (fun q u h => y_ext hx_ hI.1 h) (by decide +kernel)
      replace hF := fun b u g9 (hb : Y0 b = some u) (h42 : u ≠ 42) (hg9 : x_G[u]? = some g9) (hn : b ≠ hd) (hk9 : ∀ k, k < 16 → x_sl D 2 k hd s.heap ≠ some (.ref b)) => x_eq.trans (x_eq.E42 hE (y_mon B hI _ _ hb) hg9 h42 rfl) (hF b u g9 hb h42 hg9 hn hk9)
      replace hfld : z_fld D hd s.heap _ := fun k a b c d => ((x_eq.E42 (g := x_G[2]) hE hY_hd rfl (by decide) rfl) k a).trans (hfld k a b c d)
      replace hY_this := y_ext hx_ hI.1 hY_this
      replace hY_hd := y_ext hx_ hI.1 hY_hd
      replace hY_ablame := y_ext hx_ hI.1 hY_ablame
      obtain rfl := hP _ _ rfl
      clear ho hr ha hE hP hI hx_
      rename x_I _ _ _ _ _ _ _ _ _ _ => hI
      exact y_ireturn B hI rfl rfl rfl List.mem_cons_self ⟨_, rfl, ⟨_, rfl, x_i32 _⟩⟩ (x_cs.mono B.2.2.2.2.2 (y_mon B hI)) (fun t' w0' w1' f' K' tt' nn' h1 h2 => by cases h1; cases h2.eqf hR0; exact ⟨_, _, rfl, h2.fin hYt0 hs0_hd hF hL hfld (y_mon B hI), fun _ => ⟨rfl, rfl⟩, fun q9 => absurd q9 hno⟩) (by exact Nat.le_of_ble_eq_true rfl) (by exact Nat.le_of_ble_eq_true rfl) Tbl_d27
def z_PTTmi : yP := fun D av Y H v Y' H' => ∀ (this : Nat) (x w : Int32) (f : Nat → Int32) (K : Nat → Option (Nat → Int32)) (t9 : Nat → Int32) (n9 : Int32), av = [.ref this, .int x, .int w] → z_RC D Y H this f K t9 n9 → ∃ (r : Int32) (g : Nat → Int32), v = some (.int r) ∧ z_RC D Y' H' this g K t9 n9 ∧ m_at ((0 ≤ x.toInt ∧ x.toInt ≤ 11) ∧ 0 ≤ w.toInt ∧ w.toInt ≤ 99) (-2) f (116 + x.toInt.toNat) w r g
theorem Tmi_d0 : decode xM80.2.1 0 = .ok (.iload_n 1, 1) := dz_ok (by decide +kernel)
theorem Tmi_d1 : decode xM80.2.1 1 = .ok (.iconst 0, 1) := dz_ok (by decide +kernel)
theorem Tmi_d2 : decode xM80.2.1 2 = .ok (.bipush 11, 2) := dz_ok (by decide +kernel)
theorem Tmi_d4 : decode xM80.2.1 4 = .ok (.invokestatic 88, 3) := dz_ok (by decide +kernel)
theorem Tmi_d7 : decode xM80.2.1 7 = .ok (.ifCond .eq 16, 3) := dz_ok (by decide +kernel)
theorem Tmi_d10 : decode xM80.2.1 10 = .ok (.iload_n 2, 1) := dz_ok (by decide +kernel)
theorem Tmi_d11 : decode xM80.2.1 11 = .ok (.iconst 0, 1) := dz_ok (by decide +kernel)
theorem Tmi_d12 : decode xM80.2.1 12 = .ok (.getstatic 192, 3) := dz_ok (by decide +kernel)
theorem Tmi_d15 : decode xM80.2.1 15 = .ok (.iconst 1, 1) := dz_ok (by decide +kernel)
theorem Tmi_d16 : decode xM80.2.1 16 = .ok (.iaload, 1) := dz_ok (by decide +kernel)
theorem Tmi_d17 : decode xM80.2.1 17 = .ok (.invokestatic 88, 3) := dz_ok (by decide +kernel)
theorem Tmi_d20 : decode xM80.2.1 20 = .ok (.ifCond .ne 10, 3) := dz_ok (by decide +kernel)
theorem Tmi_d23 : decode xM80.2.1 23 = .ok (.aload_n 0, 1) := dz_ok (by decide +kernel)
theorem Tmi_d24 : decode xM80.2.1 24 = .ok (.bipush (-2), 2) := dz_ok (by decide +kernel)
theorem Tmi_d26 : decode xM80.2.1 26 = .ok (.invokevirtual 59, 3) := dz_ok (by decide +kernel)
theorem Tmi_d29 : decode xM80.2.1 29 = .ok (.ireturn, 1) := dz_ok (by decide +kernel)
theorem Tmi_d30 : decode xM80.2.1 30 = .ok (.aload_n 0, 1) := dz_ok (by decide +kernel)
theorem Tmi_d31 : decode xM80.2.1 31 = .ok (.getfield 12, 3) := dz_ok (by decide +kernel)
theorem Tmi_d34 : decode xM80.2.1 34 = .ok (.getfield 207, 3) := dz_ok (by decide +kernel)
theorem Tmi_d37 : decode xM80.2.1 37 = .ok (.iload_n 1, 1) := dz_ok (by decide +kernel)
theorem Tmi_d38 : decode xM80.2.1 38 = .ok (.iaload, 1) := dz_ok (by decide +kernel)
theorem Tmi_d39 : decode xM80.2.1 39 = .ok (.istore_n 3, 1) := dz_ok (by decide +kernel)
theorem Tmi_d40 : decode xM80.2.1 40 = .ok (.aload_n 0, 1) := dz_ok (by decide +kernel)
theorem Tmi_d41 : decode xM80.2.1 41 = .ok (.getfield 12, 3) := dz_ok (by decide +kernel)
theorem Tmi_d44 : decode xM80.2.1 44 = .ok (.getfield 207, 3) := dz_ok (by decide +kernel)
theorem Tmi_d47 : decode xM80.2.1 47 = .ok (.iload_n 1, 1) := dz_ok (by decide +kernel)
theorem Tmi_d48 : decode xM80.2.1 48 = .ok (.iload_n 2, 1) := dz_ok (by decide +kernel)
theorem Tmi_d49 : decode xM80.2.1 49 = .ok (.iastore, 1) := dz_ok (by decide +kernel)
theorem Tmi_d50 : decode xM80.2.1 50 = .ok (.iload_n 3, 1) := dz_ok (by decide +kernel)
theorem Tmi_d51 : decode xM80.2.1 51 = .ok (.ireturn, 1) := dz_ok (by decide +kernel)
theorem ym_Tmist : y_Met vwCl x_G x_Zs x_Tb x_Nb xM80 z_ATF z_PTTmi := by
  refine y_main (by decide +kernel) (by decide +kernel) x_Tb_good x_Nb_ok ?_
  intro p l e s m below meth c D U Y0 av ls B hI hpre hl
  have X := B.1
  have hx := X.1
  have hb := X.2.1
  have hY0 := B.2.2.2.2.1
  obtain ⟨v0, v1, v2, rfl, hv0, ⟨x, rfl, -⟩, ⟨w, rfl, -⟩⟩ := y_three B.2.2.2.2.2
  obtain ⟨this, t0, rfl, ht0, hY_this⟩ := x_ref_at hv0 rfl
  obtain rfl := List.mem_singleton.mp ht0
  replace hl : lv_has ls xM80.2.2.1 [(0, .ref this), (1, .int x), (2, .int w)] := hl
  have hYt0 := hY_this
  obtain ⟨f, K, tt, nn, hR0⟩ := hpre _ rfl
  obtain ⟨hd, dr, kp, tx, by_, kk, ⟨hs_hd, -⟩, ⟨hY_hd, -⟩, hL, -⟩ := id hR0
  have hs0_hd := hs_hd
  have hF : z_fq D Y0 s.heap s.heap hd := fun _ _ _ _ _ _ _ _ => x_eq.of rfl
  have hfld : z_fld D hd s.heap s.heap := fun _ _ _ _ _ => rfl
  have hn0 := hL.1.1
  have hn1 := hL.1.2.1
  have hn2 := hL.1.2.2
  have hb0 : 0 ≤ (f 0).toInt ∧ (f 0).toInt ≤ 10 := by obtain ⟨x9, e9, b9⟩ := y_fldI (k := 0) hI.1 hY_hd rfl rfl; rw [hn0] at e9; cases e9; exact b9
  have hb1 : 0 ≤ (f 1).toInt ∧ (f 1).toInt ≤ 8 := by obtain ⟨x9, e9, b9⟩ := y_fldI (k := 6) hI.1 hY_hd rfl rfl; rw [hn1] at e9; cases e9; exact b9
  have hb2 : 0 ≤ (f 2).toInt ∧ (f 2).toInt ≤ 8 := by obtain ⟨x9, e9, b9⟩ := y_fldI (k := 12) hI.1 hY_hd rfl rfl; rw [hn2] at e9; cases e9; exact b9
  obtain ⟨amists, hs_amists, hY_amists, hA_amists⟩ := hL.2.1 (11, 28, 12, 116, 1) (by decide)
  replace hA_amists : y_A amists 12 s.heap (fun j => f (116 + 1 * j)) := hA_amists
  have hs0_amists := hs_amists
  refine lv_iload_n hx hb Tmi_d0 rfl (lv_at hl 1 rfl) ?_
  refine lv_iconst hx hb Tmi_d1 (v := 0) (by decide) ?_
  have ec0 : (0 : Int32).toInt = 0 := by decide
  refine lv_bipush hx hb Tmi_d2 (v := 11) (by decide) ?_
  have ec11 : (11 : Int32).toInt = 11 := by decide
  refine y_call (z := (1, 88, 3, none, xM10)) (av := [.int x, .int (0 : Int32), .int (11 : Int32)]) (rest := []) (y_cokS (n := 3) X ym_within (x_cons (x_bw19 15 rfl rfl) (x_cons (x_bw19 1 rfl rfl) (x_cons (x_bw0 1 rfl rfl) x_nilm))) (x_bw19 2 rfl rfl) (by decide +kernel) ⟨Nat.le_of_ble_eq_true rfl, Nat.le_of_ble_eq_true rfl⟩) hY0 hI rfl Tmi_d4 hl.1 (Nat.le_of_ble_eq_true rfl) (Nat.le_of_ble_eq_true rfl) (Nat.le_of_ble_eq_true rfl) (y_cons ⟨_, rfl, x_i32 _⟩ (y_cons ⟨_, rfl, x_i32 _⟩ (y_cons ⟨_, rfl, x_i32 _⟩ y_nil))) rfl (y_norecv rfl) trivial (y_sub_ef rfl) fun v Yn o Hn L ho hr ha hIn hx_ hE hP => ?_
  replace hs_hd := y_Efld hE hY_this rfl (by decide) (by decide) hs_hd
  replace hn0 := y_Efld hE hY_hd rfl (by decide) (by decide) hn0
  replace hn1 := y_Efld hE hY_hd rfl (by decide) (by decide) hn1
  replace hn2 := y_Efld hE hY_hd rfl (by decide) (by decide) hn2
  replace hs_amists := y_Efld hE hY_hd rfl (by decide) (by decide) hs_amists
  replace hA_amists := hA_amists.kept (y_Earr hE hY_amists rfl (by decide))
  replace hL := hL.E hY_hd hE (fun q u h => y_ext hx_ hI.1 h) (by decide +kernel)
  replace hF := fun b u g9 (hb : Y0 b = some u) (h42 : u ≠ 42) (hg9 : x_G[u]? = some g9) (hn : b ≠ hd) (hk9 : ∀ k, k < 16 → x_sl D 2 k hd s.heap ≠ some (.ref b)) => x_eq.trans (x_eq.E42 hE (y_mon B hI _ _ hb) hg9 h42 rfl) (hF b u g9 hb h42 hg9 hn hk9)
  replace hfld : z_fld D hd s.heap _ := fun k a b c d => ((x_eq.E42 (g := x_G[2]) hE hY_hd rfl (by decide) rfl) k a).trans (hfld k a b c d)
  replace hY_this := y_ext hx_ hI.1 hY_this
  replace hY_hd := y_ext hx_ hI.1 hY_hd
  replace hY_amists := y_ext hx_ hI.1 hY_amists
  obtain ⟨r4, rfl, hin_r4, hout_r4⟩ := hP _ _ _ rfl
  clear ho hr ha hE hP hI hx_
  rename x_I _ _ _ _ _ _ _ _ _ _ => hI
  refine lv_if_eq hx hb Tmi_d7 (tgt := 23) (by decide) (fun q7 => ?_) (fun q7 => ?_)
  · have q7_ : r4.toInt = (0 : Int32).toInt := by rw [q7]
    have hno : ¬ ((0 ≤ x.toInt ∧ x.toInt ≤ 11) ∧ 0 ≤ w.toInt ∧ w.toInt ≤ 99) := fun q9 => by first | (have := hout_r4 (by assumption); omega) | (have := hout_r17 (by assumption); omega)
    refine lv_aload_n hx hb Tmi_d23 rfl (lv_at hl 0 rfl) ?_
    refine lv_bipush hx hb Tmi_d24 (v := (-2)) (by decide) ?_
    have ecm2 : ((-2) : Int32).toInt = (-2) := by decide
    refine y_call (z := (0, 59, 2, some 0, xM8)) (av := [.ref this, .int ((-2) : Int32)]) (rest := []) (y_cokV (n := 1) (ci := 11) X ym_counted rfl rfl rfl (x_cons (x_bw19 7 rfl rfl) (x_cons (x_bw19 9 rfl rfl) (x_cons (x_at 1 (by decide +kernel) rfl) (x_cons (x_bw0 1 rfl rfl) x_nilm)))) (x_bw19 10 rfl rfl) (by decide +kernel) ⟨Nat.le_of_ble_eq_true rfl, Nat.le_of_ble_eq_true rfl⟩) hY0 hI rfl Tmi_d26 hl.1 (Nat.le_of_ble_eq_true rfl) (Nat.le_of_ble_eq_true rfl) (Nat.le_of_ble_eq_true rfl) (y_cons (y_cref hY_this rfl) (y_cons ⟨_, rfl, x_i32 _⟩ y_nil)) rfl (y_recv rfl hY_this) trivial (y_sub_ef rfl) fun v Yn o Hn L ho hr ha hIn hx_ hE hP => ?_
    replace hs_hd := y_Efld hE hY_this rfl (by decide) (by decide) hs_hd
    replace hn0 := y_Efld hE hY_hd rfl (by decide) (by decide) hn0
    replace hn1 := y_Efld hE hY_hd rfl (by decide) (by decide) hn1
    replace hn2 := y_Efld hE hY_hd rfl (by decide) (by decide) hn2
    replace hs_amists := y_Efld hE hY_hd rfl (by decide) (by decide) hs_amists
    replace hA_amists := hA_amists.kept (y_Earr hE hY_amists rfl (by decide))
    replace hL := hL.E hY_hd hE (fun q u h => y_ext hx_ hI.1 h) (by decide +kernel)
    replace hF := fun b u g9 (hb : Y0 b = some u) (h42 : u ≠ 42) (hg9 : x_G[u]? = some g9) (hn : b ≠ hd) (hk9 : ∀ k, k < 16 → x_sl D 2 k hd s.heap ≠ some (.ref b)) => x_eq.trans (x_eq.E42 hE (y_mon B hI _ _ hb) hg9 h42 rfl) (hF b u g9 hb h42 hg9 hn hk9)
    replace hfld : z_fld D hd s.heap _ := fun k a b c d => ((x_eq.E42 (g := x_G[2]) hE hY_hd rfl (by decide) rfl) k a).trans (hfld k a b c d)
    replace hY_this := y_ext hx_ hI.1 hY_this
    replace hY_hd := y_ext hx_ hI.1 hY_hd
    replace hY_amists := y_ext hx_ hI.1 hY_amists
    obtain rfl := hP _ _ rfl
    clear ho hr ha hE hP hI hx_
    rename x_I _ _ _ _ _ _ _ _ _ _ => hI
    exact y_ireturn B hI rfl rfl rfl List.mem_cons_self ⟨_, rfl, ⟨_, rfl, x_i32 _⟩⟩ (x_cs.mono B.2.2.2.2.2 (y_mon B hI)) (fun t' w0' w1' f' K' tt' nn' h1 h2 => by cases h1; cases h2.eqf hR0; exact ⟨_, _, rfl, h2.fin hYt0 hs0_hd hF hL hfld (y_mon B hI), fun _ => ⟨rfl, rfl⟩, fun q9 => absurd q9 hno⟩) (by exact Nat.le_of_ble_eq_true rfl) (by exact Nat.le_of_ble_eq_true rfl) Tmi_d29
  · have q7_ : ¬ r4.toInt = (0 : Int32).toInt := fun q => q7 (Int32.toInt_inj.mp q)
    refine lv_iload_n hx hb Tmi_d10 rfl (lv_at hl 2 rfl) ?_
    refine lv_iconst hx hb Tmi_d11 (v := 0) (by decide) ?_
    refine z_getsV (z := x_Zs[1]) X (List.mem_of_getElem? (i := 1) rfl) (X.2.2.2.2.1 _ (x_bw45 6 rfl rfl)) hI.1 Tmi_d12 fun bG fG hTG hVG => ?_
    refine lv_iconst hx hb Tmi_d15 (v := 1) (by decide) ?_
    have ec1 : (1 : Int32).toInt = 1 := by decide
    refine z_tld X hTG (by omega) (by show _ < (4 : Int); omega) Tmi_d16 ?_
    rw [show fG (1 : Int32).toInt.toNat = 99 from (hVG _ (by decide +kernel)).trans (by decide +kernel)]
    have ec99 : (99 : Int32).toInt = 99 := by decide
    refine y_call (z := (1, 88, 3, none, xM10)) (av := [.int w, .int (0 : Int32), .int (99 : Int32)]) (rest := []) (y_cokS (n := 3) X ym_within (x_cons (x_bw19 15 rfl rfl) (x_cons (x_bw19 1 rfl rfl) (x_cons (x_bw0 1 rfl rfl) x_nilm))) (x_bw19 2 rfl rfl) (by decide +kernel) ⟨Nat.le_of_ble_eq_true rfl, Nat.le_of_ble_eq_true rfl⟩) hY0 hI rfl Tmi_d17 hl.1 (Nat.le_of_ble_eq_true rfl) (Nat.le_of_ble_eq_true rfl) (Nat.le_of_ble_eq_true rfl) (y_cons ⟨_, rfl, x_i32 _⟩ (y_cons ⟨_, rfl, x_i32 _⟩ (y_cons ⟨_, rfl, x_i32 _⟩ y_nil))) rfl (y_norecv rfl) trivial (y_sub_ef rfl) fun v Yn o Hn L ho hr ha hIn hx_ hE hP => ?_
    replace hs_hd := y_Efld hE hY_this rfl (by decide) (by decide) hs_hd
    replace hn0 := y_Efld hE hY_hd rfl (by decide) (by decide) hn0
    replace hn1 := y_Efld hE hY_hd rfl (by decide) (by decide) hn1
    replace hn2 := y_Efld hE hY_hd rfl (by decide) (by decide) hn2
    replace hs_amists := y_Efld hE hY_hd rfl (by decide) (by decide) hs_amists
    replace hA_amists := hA_amists.kept (y_Earr hE hY_amists rfl (by decide))
    replace hL := hL.E hY_hd hE (fun q u h => y_ext hx_ hI.1 h) (by decide +kernel)
    replace hF := fun b u g9 (hb : Y0 b = some u) (h42 : u ≠ 42) (hg9 : x_G[u]? = some g9) (hn : b ≠ hd) (hk9 : ∀ k, k < 16 → x_sl D 2 k hd s.heap ≠ some (.ref b)) => x_eq.trans (x_eq.E42 hE (y_mon B hI _ _ hb) hg9 h42 rfl) (hF b u g9 hb h42 hg9 hn hk9)
    replace hfld : z_fld D hd s.heap _ := fun k a b c d => ((x_eq.E42 (g := x_G[2]) hE hY_hd rfl (by decide) rfl) k a).trans (hfld k a b c d)
    replace hY_this := y_ext hx_ hI.1 hY_this
    replace hY_hd := y_ext hx_ hI.1 hY_hd
    replace hY_amists := y_ext hx_ hI.1 hY_amists
    obtain ⟨r17, rfl, hin_r17, hout_r17⟩ := hP _ _ _ rfl
    clear ho hr ha hE hP hI hx_
    rename x_I _ _ _ _ _ _ _ _ _ _ => hI
    refine lv_if_ne hx hb Tmi_d20 (tgt := 30) (by decide) (fun q20 => ?_) (fun q20 => ?_)
    · have q20_ : ¬ r17.toInt = (0 : Int32).toInt := fun q => q20 (Int32.toInt_inj.mp q)
      have hw1 := hin_r4 (by assumption)
      have hw2 := hin_r17 (by assumption)
      have hok : (0 ≤ x.toInt ∧ x.toInt ≤ 11) ∧ 0 ≤ w.toInt ∧ w.toInt ≤ 99 := ⟨by omega, by omega, by omega⟩
      refine lv_aload_n hx hb Tmi_d30 rfl (lv_at hl 0 rfl) ?_
      refine y_getf X (fl8 X.2.2.2.2.1) hI.1 hY_this rfl hs_hd Tmi_d31 ?_
      refine y_getf X (fl137 X.2.2.2.2.1) hI.1 hY_hd rfl hs_amists Tmi_d34 ?_
      refine lv_iload_n hx hb Tmi_d37 rfl (lv_at hl 1 rfl) ?_
      refine y_iald X hI.1 hY_amists rfl hA_amists (by omega) (by show _ < (12 : Int); omega) Tmi_d38 ?_
      obtain ⟨e38, hg_e38⟩ : ∃ e38 : Int32, f (116 + 1 * x.toInt.toNat) = e38 := ⟨_, rfl⟩
      rw [hg_e38]
      refine lv_istore_n hx hb Tmi_d39 rfl hl (by decide) (lv' := [(3, .int e38), (0, .ref this), (1, .int x), (2, .int w)]) rfl fun ls hl => ?_
      refine lv_aload_n hx hb Tmi_d40 rfl (lv_at hl 1 rfl) ?_
      refine y_getf X (fl8 X.2.2.2.2.1) hI.1 hY_this rfl hs_hd Tmi_d41 ?_
      refine y_getf X (fl137 X.2.2.2.2.1) hI.1 hY_hd rfl hs_amists Tmi_d44 ?_
      refine lv_iload_n hx hb Tmi_d47 rfl (lv_at hl 2 rfl) ?_
      refine lv_iload_n hx hb Tmi_d48 rfl (lv_at hl 3 rfl) ?_
      have hs_old := hs_amists
      have hA_old := hA_amists
      refine y_iast X hY0 hI hY_amists rfl hA_amists (by omega) (by show _ < (12 : Int); omega) ⟨_, rfl, x_i32 _⟩ (by decide +kernel) Tmi_d49 fun H locs hI h_new ho => ?_
      replace hA_amists := h_new
      generalize hf_f49 : y_up (fun j => f (116 + 1 * j)) x.toInt.toNat w = f49 at hA_amists
      replace hs_hd := y_slk hs_hd (ho _ (y_ne hY_this hY_amists rfl))
      replace hn0 := y_slk hn0 (ho _ (y_ne hY_hd hY_amists rfl))
      replace hn1 := y_slk hn1 (ho _ (y_ne hY_hd hY_amists rfl))
      replace hn2 := y_slk hn2 (ho _ (y_ne hY_hd hY_amists rfl))
      replace hs_amists := y_slk hs_amists (ho _ (y_ne hY_hd hY_amists rfl))
      replace hL := hL.putA (c := (11, 28, 12, 116, 1)) (N := 12) hY_hd (by decide) rfl (by omega) hs_old hA_old h_new ho
      replace hF := fun b u g9 (hb : Y0 b = some u) (h42 : u ≠ 42) (hg9 : x_G[u]? = some g9) (hn : b ≠ hd) (hk9 : ∀ k, k < 16 → x_sl D 2 k hd s.heap ≠ some (.ref b)) => x_eq.trans (x_eq.of (ho b (fun e0 => hk9 11 (by decide) (by rw [e0]; exact hs0_amists)))) (hF b u g9 hb h42 hg9 hn hk9)
      replace hfld : z_fld D hd s.heap _ := fun k a b c d => (y_slk rfl (ho _ (y_ne hY_hd hY_amists rfl))).trans (hfld k a b c d)
      refine lv_iload_n hx hb Tmi_d50 rfl (lv_at hl 0 rfl) ?_
      subst hg_e38
      replace hL : z_L D _ hd _ (y_up f (116 + 1 * x.toInt.toNat) w) := hL
      rw [Nat.one_mul] at hL ⊢
      exact y_ireturn B hI rfl rfl rfl List.mem_cons_self ⟨_, rfl, ⟨_, rfl, x_i32 _⟩⟩ (x_cs.mono B.2.2.2.2.2 (y_mon B hI)) (fun t' w0' w1' f' K' tt' nn' h1 h2 => by cases h1; cases h2.eqf hR0; exact ⟨_, _, rfl, h2.fin hYt0 hs0_hd hF hL hfld (y_mon B hI), fun q9 => absurd hok q9, fun _ => ⟨rfl, rfl⟩⟩) (by exact Nat.le_of_ble_eq_true rfl) (by exact Nat.le_of_ble_eq_true rfl) Tmi_d51
    · have q20_ : r17.toInt = (0 : Int32).toInt := by rw [q20]
      have hno : ¬ ((0 ≤ x.toInt ∧ x.toInt ≤ 11) ∧ 0 ≤ w.toInt ∧ w.toInt ≤ 99) := fun q9 => by first | (have := hout_r4 (by assumption); omega) | (have := hout_r17 (by assumption); omega)
      refine lv_aload_n hx hb Tmi_d23 rfl (lv_at hl 0 rfl) ?_
      refine lv_bipush hx hb Tmi_d24 (v := (-2)) (by decide) ?_
      have ecm2 : ((-2) : Int32).toInt = (-2) := by decide
      refine y_call (z := (0, 59, 2, some 0, xM8)) (av := [.ref this, .int ((-2) : Int32)]) (rest := []) (y_cokV (n := 1) (ci := 11) X ym_counted rfl rfl rfl (x_cons (x_bw19 7 rfl rfl) (x_cons (x_bw19 9 rfl rfl) (x_cons (x_at 1 (by decide +kernel) rfl) (x_cons (x_bw0 1 rfl rfl) x_nilm)))) (x_bw19 10 rfl rfl) (by decide +kernel) ⟨Nat.le_of_ble_eq_true rfl, Nat.le_of_ble_eq_true rfl⟩) hY0 hI rfl Tmi_d26 hl.1 (Nat.le_of_ble_eq_true rfl) (Nat.le_of_ble_eq_true rfl) (Nat.le_of_ble_eq_true rfl) (y_cons (y_cref hY_this rfl) (y_cons ⟨_, rfl, x_i32 _⟩ y_nil)) rfl (y_recv rfl hY_this) trivial (y_sub_ef rfl) fun v Yn o Hn L ho hr ha hIn hx_ hE hP => ?_
      replace hs_hd := y_Efld hE hY_this rfl (by decide) (by decide) hs_hd
      replace hn0 := y_Efld hE hY_hd rfl (by decide) (by decide) hn0
      replace hn1 := y_Efld hE hY_hd rfl (by decide) (by decide) hn1
      replace hn2 := y_Efld hE hY_hd rfl (by decide) (by decide) hn2
      replace hs_amists := y_Efld hE hY_hd rfl (by decide) (by decide) hs_amists
      replace hA_amists := hA_amists.kept (y_Earr hE hY_amists rfl (by decide))
      replace hL := hL.E hY_hd hE (fun q u h => y_ext hx_ hI.1 h) (by decide +kernel)
      replace hF := fun b u g9 (hb : Y0 b = some u) (h42 : u ≠ 42) (hg9 : x_G[u]? = some g9) (hn : b ≠ hd) (hk9 : ∀ k, k < 16 → x_sl D 2 k hd s.heap ≠ some (.ref b)) => x_eq.trans (x_eq.E42 hE (y_mon B hI _ _ hb) hg9 h42 rfl) (hF b u g9 hb h42 hg9 hn hk9)
      replace hfld : z_fld D hd s.heap _ := fun k a b c d => ((x_eq.E42 (g := x_G[2]) hE hY_hd rfl (by decide) rfl) k a).trans (hfld k a b c d)
      replace hY_this := y_ext hx_ hI.1 hY_this
      replace hY_hd := y_ext hx_ hI.1 hY_hd
      replace hY_amists := y_ext hx_ hI.1 hY_amists
      obtain rfl := hP _ _ rfl
      clear ho hr ha hE hP hI hx_
      rename x_I _ _ _ _ _ _ _ _ _ _ => hI
      exact y_ireturn B hI rfl rfl rfl List.mem_cons_self ⟨_, rfl, ⟨_, rfl, x_i32 _⟩⟩ (x_cs.mono B.2.2.2.2.2 (y_mon B hI)) (fun t' w0' w1' f' K' tt' nn' h1 h2 => by cases h1; cases h2.eqf hR0; exact ⟨_, _, rfl, h2.fin hYt0 hs0_hd hF hL hfld (y_mon B hI), fun _ => ⟨rfl, rfl⟩, fun q9 => absurd q9 hno⟩) (by exact Nat.le_of_ble_eq_true rfl) (by exact Nat.le_of_ble_eq_true rfl) Tmi_d29
def z_PTle : yP := fun D av Y H v Y' H' => ∀ (this : Nat) (x : Int32) (f : Nat → Int32) (K : Nat → Option (Nat → Int32)) (t9 : Nat → Int32) (n9 : Int32), av = [.ref this, .int x] → z_RC D Y H this f K t9 n9 → ∃ (r : Int32) (g : Nat → Int32), v = some (.int r) ∧ z_RC D Y' H' this g K t9 n9 ∧ m_let f x r g
theorem Tle_d0 : decode xM109.2.1 0 = .ok (.iload_n 1, 1) := dz_ok (by decide +kernel)
theorem Tle_d1 : decode xM109.2.1 1 = .ok (.iconst 0, 1) := dz_ok (by decide +kernel)
theorem Tle_d2 : decode xM109.2.1 2 = .ok (.bipush 9, 2) := dz_ok (by decide +kernel)
theorem Tle_d4 : decode xM109.2.1 4 = .ok (.invokestatic 88, 3) := dz_ok (by decide +kernel)
theorem Tle_d7 : decode xM109.2.1 7 = .ok (.ifCond .ne 10, 3) := dz_ok (by decide +kernel)
theorem Tle_d10 : decode xM109.2.1 10 = .ok (.aload_n 0, 1) := dz_ok (by decide +kernel)
theorem Tle_d11 : decode xM109.2.1 11 = .ok (.bipush (-2), 2) := dz_ok (by decide +kernel)
theorem Tle_d13 : decode xM109.2.1 13 = .ok (.invokevirtual 59, 3) := dz_ok (by decide +kernel)
theorem Tle_d16 : decode xM109.2.1 16 = .ok (.ireturn, 1) := dz_ok (by decide +kernel)
theorem Tle_d17 : decode xM109.2.1 17 = .ok (.aload_n 0, 1) := dz_ok (by decide +kernel)
theorem Tle_d18 : decode xM109.2.1 18 = .ok (.getfield 12, 3) := dz_ok (by decide +kernel)
theorem Tle_d21 : decode xM109.2.1 21 = .ok (.getfield 254, 3) := dz_ok (by decide +kernel)
theorem Tle_d24 : decode xM109.2.1 24 = .ok (.bipush 8, 2) := dz_ok (by decide +kernel)
theorem Tle_d26 : decode xM109.2.1 26 = .ok (.if_icmp .lt 10, 3) := dz_ok (by decide +kernel)
theorem Tle_d29 : decode xM109.2.1 29 = .ok (.aload_n 0, 1) := dz_ok (by decide +kernel)
theorem Tle_d30 : decode xM109.2.1 30 = .ok (.bipush (-4), 2) := dz_ok (by decide +kernel)
theorem Tle_d32 : decode xM109.2.1 32 = .ok (.invokevirtual 59, 3) := dz_ok (by decide +kernel)
theorem Tle_d35 : decode xM109.2.1 35 = .ok (.ireturn, 1) := dz_ok (by decide +kernel)
theorem Tle_d36 : decode xM109.2.1 36 = .ok (.aload_n 0, 1) := dz_ok (by decide +kernel)
theorem Tle_d37 : decode xM109.2.1 37 = .ok (.getfield 12, 3) := dz_ok (by decide +kernel)
theorem Tle_d40 : decode xM109.2.1 40 = .ok (.getfield 257, 3) := dz_ok (by decide +kernel)
theorem Tle_d43 : decode xM109.2.1 43 = .ok (.aload_n 0, 1) := dz_ok (by decide +kernel)
theorem Tle_d44 : decode xM109.2.1 44 = .ok (.getfield 12, 3) := dz_ok (by decide +kernel)
theorem Tle_d47 : decode xM109.2.1 47 = .ok (.getfield 254, 3) := dz_ok (by decide +kernel)
theorem Tle_d50 : decode xM109.2.1 50 = .ok (.iload_n 1, 1) := dz_ok (by decide +kernel)
theorem Tle_d51 : decode xM109.2.1 51 = .ok (.iastore, 1) := dz_ok (by decide +kernel)
theorem Tle_d52 : decode xM109.2.1 52 = .ok (.aload_n 0, 1) := dz_ok (by decide +kernel)
theorem Tle_d53 : decode xM109.2.1 53 = .ok (.getfield 12, 3) := dz_ok (by decide +kernel)
theorem Tle_d56 : decode xM109.2.1 56 = .ok (.dup, 1) := dz_ok (by decide +kernel)
theorem Tle_d57 : decode xM109.2.1 57 = .ok (.getfield 254, 3) := dz_ok (by decide +kernel)
theorem Tle_d60 : decode xM109.2.1 60 = .ok (.iconst 1, 1) := dz_ok (by decide +kernel)
theorem Tle_d61 : decode xM109.2.1 61 = .ok (.iadd, 1) := dz_ok (by decide +kernel)
theorem Tle_d62 : decode xM109.2.1 62 = .ok (.putfield 254, 3) := dz_ok (by decide +kernel)
theorem Tle_d65 : decode xM109.2.1 65 = .ok (.aload_n 0, 1) := dz_ok (by decide +kernel)
theorem Tle_d66 : decode xM109.2.1 66 = .ok (.getfield 12, 3) := dz_ok (by decide +kernel)
theorem Tle_d69 : decode xM109.2.1 69 = .ok (.getfield 254, 3) := dz_ok (by decide +kernel)
theorem Tle_d72 : decode xM109.2.1 72 = .ok (.ireturn, 1) := dz_ok (by decide +kernel)
theorem ym_Tletter : y_Met vwCl x_G x_Zs x_Tb x_Nb xM109 z_ATF z_PTle := by
  refine y_main (by decide +kernel) (by decide +kernel) x_Tb_good x_Nb_ok ?_
  intro p l e s m below meth c D U Y0 av ls B hI hpre hl
  have X := B.1
  have hx := X.1
  have hb := X.2.1
  have hY0 := B.2.2.2.2.1
  obtain ⟨v0, v1, rfl, hv0, ⟨x, rfl, -⟩⟩ := x_two B.2.2.2.2.2
  obtain ⟨this, t0, rfl, ht0, hY_this⟩ := x_ref_at hv0 rfl
  obtain rfl := List.mem_singleton.mp ht0
  replace hl : lv_has ls xM109.2.2.1 [(0, .ref this), (1, .int x)] := hl
  have hYt0 := hY_this
  obtain ⟨f, K, tt, nn, hR0⟩ := hpre _ rfl
  obtain ⟨hd, dr, kp, tx, by_, kk, ⟨hs_hd, -⟩, ⟨hY_hd, -⟩, hL, -⟩ := id hR0
  have hs0_hd := hs_hd
  have hF : z_fq D Y0 s.heap s.heap hd := fun _ _ _ _ _ _ _ _ => x_eq.of rfl
  have hfld : z_fld D hd s.heap s.heap := fun _ _ _ _ _ => rfl
  have hn0 := hL.1.1
  have hn1 := hL.1.2.1
  have hn2 := hL.1.2.2
  have hb0 : 0 ≤ (f 0).toInt ∧ (f 0).toInt ≤ 10 := by obtain ⟨x9, e9, b9⟩ := y_fldI (k := 0) hI.1 hY_hd rfl rfl; rw [hn0] at e9; cases e9; exact b9
  have hb1 : 0 ≤ (f 1).toInt ∧ (f 1).toInt ≤ 8 := by obtain ⟨x9, e9, b9⟩ := y_fldI (k := 6) hI.1 hY_hd rfl rfl; rw [hn1] at e9; cases e9; exact b9
  have hb2 : 0 ≤ (f 2).toInt ∧ (f 2).toInt ≤ 8 := by obtain ⟨x9, e9, b9⟩ := y_fldI (k := 12) hI.1 hY_hd rfl rfl; rw [hn2] at e9; cases e9; exact b9
  obtain ⟨aword, hs_aword, hY_aword, hA_aword⟩ := hL.2.1 (13, 29, 8, 128, 1) (by decide)
  replace hA_aword : y_A aword 8 s.heap (fun j => f (128 + 1 * j)) := hA_aword
  have hs0_aword := hs_aword
  refine lv_iload_n hx hb Tle_d0 rfl (lv_at hl 1 rfl) ?_
  refine lv_iconst hx hb Tle_d1 (v := 0) (by decide) ?_
  have ec0 : (0 : Int32).toInt = 0 := by decide
  refine lv_bipush hx hb Tle_d2 (v := 9) (by decide) ?_
  have ec9 : (9 : Int32).toInt = 9 := by decide
  refine y_call (z := (1, 88, 3, none, xM10)) (av := [.int x, .int (0 : Int32), .int (9 : Int32)]) (rest := []) (y_cokS (n := 3) X ym_within (x_cons (x_bw19 15 rfl rfl) (x_cons (x_bw19 1 rfl rfl) (x_cons (x_bw0 1 rfl rfl) x_nilm))) (x_bw19 2 rfl rfl) (by decide +kernel) ⟨Nat.le_of_ble_eq_true rfl, Nat.le_of_ble_eq_true rfl⟩) hY0 hI rfl Tle_d4 hl.1 (Nat.le_of_ble_eq_true rfl) (Nat.le_of_ble_eq_true rfl) (Nat.le_of_ble_eq_true rfl) (y_cons ⟨_, rfl, x_i32 _⟩ (y_cons ⟨_, rfl, x_i32 _⟩ (y_cons ⟨_, rfl, x_i32 _⟩ y_nil))) rfl (y_norecv rfl) trivial (y_sub_ef rfl) fun v Yn o Hn L ho hr ha hIn hx_ hE hP => ?_
  replace hs_hd := y_Efld hE hY_this rfl (by decide) (by decide) hs_hd
  replace hn0 := y_Efld hE hY_hd rfl (by decide) (by decide) hn0
  replace hn1 := y_Efld hE hY_hd rfl (by decide) (by decide) hn1
  replace hn2 := y_Efld hE hY_hd rfl (by decide) (by decide) hn2
  replace hs_aword := y_Efld hE hY_hd rfl (by decide) (by decide) hs_aword
  replace hA_aword := hA_aword.kept (y_Earr hE hY_aword rfl (by decide))
  replace hL := hL.E hY_hd hE (fun q u h => y_ext hx_ hI.1 h) (by decide +kernel)
  replace hF := fun b u g9 (hb : Y0 b = some u) (h42 : u ≠ 42) (hg9 : x_G[u]? = some g9) (hn : b ≠ hd) (hk9 : ∀ k, k < 16 → x_sl D 2 k hd s.heap ≠ some (.ref b)) => x_eq.trans (x_eq.E42 hE (y_mon B hI _ _ hb) hg9 h42 rfl) (hF b u g9 hb h42 hg9 hn hk9)
  replace hfld : z_fld D hd s.heap _ := fun k a b c d => ((x_eq.E42 (g := x_G[2]) hE hY_hd rfl (by decide) rfl) k a).trans (hfld k a b c d)
  replace hY_this := y_ext hx_ hI.1 hY_this
  replace hY_hd := y_ext hx_ hI.1 hY_hd
  replace hY_aword := y_ext hx_ hI.1 hY_aword
  obtain ⟨r4, rfl, hin_r4, hout_r4⟩ := hP _ _ _ rfl
  clear ho hr ha hE hP hI hx_
  rename x_I _ _ _ _ _ _ _ _ _ _ => hI
  refine lv_if_ne hx hb Tle_d7 (tgt := 17) (by decide) (fun q7 => ?_) (fun q7 => ?_)
  · have q7_ : ¬ r4.toInt = (0 : Int32).toInt := fun q => q7 (Int32.toInt_inj.mp q)
    have hw := hin_r4 (by assumption)
    refine lv_aload_n hx hb Tle_d17 rfl (lv_at hl 0 rfl) ?_
    refine y_getf X (fl8 X.2.2.2.2.1) hI.1 hY_this rfl hs_hd Tle_d18 ?_
    refine y_getf X (fl142 X.2.2.2.2.1) hI.1 hY_hd rfl hn2 Tle_d21 ?_
    refine lv_bipush hx hb Tle_d24 (v := 8) (by decide) ?_
    have ec8 : (8 : Int32).toInt = 8 := by decide
    refine lv_icmp_lt hx hb Tle_d26 (tgt := 36) (by decide) (fun q26 => ?_) (fun q26 => ?_)
    · have q26_ : (f 2).toInt < (8 : Int32).toInt := x_lt32.mp q26
      refine lv_aload_n hx hb Tle_d36 rfl (lv_at hl 0 rfl) ?_
      refine y_getf X (fl8 X.2.2.2.2.1) hI.1 hY_this rfl hs_hd Tle_d37 ?_
      refine y_getf X (fl143 X.2.2.2.2.1) hI.1 hY_hd rfl hs_aword Tle_d40 ?_
      refine lv_aload_n hx hb Tle_d43 rfl (lv_at hl 0 rfl) ?_
      refine y_getf X (fl8 X.2.2.2.2.1) hI.1 hY_this rfl hs_hd Tle_d44 ?_
      refine y_getf X (fl142 X.2.2.2.2.1) hI.1 hY_hd rfl hn2 Tle_d47 ?_
      refine lv_iload_n hx hb Tle_d50 rfl (lv_at hl 1 rfl) ?_
      have hs_old := hs_aword
      have hA_old := hA_aword
      refine y_iast X hY0 hI hY_aword rfl hA_aword (by omega) (by show _ < (8 : Int); omega) ⟨_, rfl, x_i32 _⟩ (by decide +kernel) Tle_d51 fun H locs hI h_new ho => ?_
      replace hA_aword := h_new
      generalize hf_f51 : y_up (fun j => f (128 + 1 * j)) (f 2).toInt.toNat x = f51 at hA_aword
      replace hs_hd := y_slk hs_hd (ho _ (y_ne hY_this hY_aword rfl))
      replace hn0 := y_slk hn0 (ho _ (y_ne hY_hd hY_aword rfl))
      replace hn1 := y_slk hn1 (ho _ (y_ne hY_hd hY_aword rfl))
      replace hn2 := y_slk hn2 (ho _ (y_ne hY_hd hY_aword rfl))
      replace hs_aword := y_slk hs_aword (ho _ (y_ne hY_hd hY_aword rfl))
      replace hL := hL.putA (c := (13, 29, 8, 128, 1)) (N := 8) hY_hd (by decide) rfl (by omega) hs_old hA_old h_new ho
      replace hF := fun b u g9 (hb : Y0 b = some u) (h42 : u ≠ 42) (hg9 : x_G[u]? = some g9) (hn : b ≠ hd) (hk9 : ∀ k, k < 16 → x_sl D 2 k hd s.heap ≠ some (.ref b)) => x_eq.trans (x_eq.of (ho b (fun e0 => hk9 13 (by decide) (by rw [e0]; exact hs0_aword)))) (hF b u g9 hb h42 hg9 hn hk9)
      replace hfld : z_fld D hd s.heap _ := fun k a b c d => (y_slk rfl (ho _ (y_ne hY_hd hY_aword rfl))).trans (hfld k a b c d)
      refine lv_aload_n hx hb Tle_d52 rfl (lv_at hl 0 rfl) ?_
      refine y_getf X (fl8 X.2.2.2.2.1) hI.1 hY_this rfl hs_hd Tle_d53 ?_
      refine lv_dup hx hb Tle_d56 rfl ?_
      refine y_getf X (fl142 X.2.2.2.2.1) hI.1 hY_hd rfl hn2 Tle_d57 ?_
      refine lv_iconst hx hb Tle_d60 (v := 1) (by decide) ?_
      have ec1 : (1 : Int32).toInt = 1 := by decide
      refine lv_iadd hx hb Tle_d61 ?_
      generalize hg_z61 : (f 2) + (1 : Int32) = z61
      have h_z61 : z61.toInt = (f 2).toInt + 1 := by rw [← hg_z61]; have := y_add (x := (f 2)) (y := (1 : Int32)) (by rw [ec1]; omega) (by rw [ec1]; omega); rw [ec1] at this; exact this
      refine y_putf X (fw144 X.2.2.2.2.1) hY0 hI hY_hd rfl rfl ⟨_, rfl, by show (0 : Int) ≤ _; omega, by show _ ≤ (8 : Int); omega⟩ (by decide +kernel) Tle_d62 fun H sl hI ho hs hk => ?_
      replace hs_hd := y_slk hs_hd (ho _ (y_ne hY_this hY_hd rfl))
      replace hn0 := hk _ _ (by decide +kernel) (by decide) hn0
      replace hn1 := hk _ _ (by decide +kernel) (by decide) hn1
      replace hs_aword := hk _ _ (by decide +kernel) (by decide) hs_aword
      replace hA_aword := hA_aword.kept (ho _ (y_ne hY_aword hY_hd rfl))
      replace hL := hL.puti (k := 12) (p := 2) hY_hd (by decide) hs (fun i hi hn => hk i _ hi hn rfl) ho
      replace hF := fun b u g9 (hb : Y0 b = some u) (h42 : u ≠ 42) (hg9 : x_G[u]? = some g9) (hn : b ≠ hd) (hk9 : ∀ k, k < 16 → x_sl D 2 k hd s.heap ≠ some (.ref b)) => x_eq.trans (x_eq.of (ho b hn)) (hF b u g9 hb h42 hg9 hn hk9)
      replace hfld : z_fld D hd s.heap _ := fun k a b c d => (hk k _ a (by omega) rfl).trans (hfld k a b c d)
      replace hs := hs
      replace hn2 := hs
      refine lv_aload_n hx hb Tle_d65 rfl (lv_at hl 0 rfl) ?_
      refine y_getf X (fl8 X.2.2.2.2.1) hI.1 hY_this rfl hs_hd Tle_d66 ?_
      refine y_getf X (fl142 X.2.2.2.2.1) hI.1 hY_hd rfl hn2 Tle_d69 ?_
      subst hg_z61
      replace hL : z_L D _ hd _ (y_up (y_up f (128 + 1 * (f 2).toInt.toNat) x) 2 (f 2 + 1)) := hL
      rw [Nat.one_mul] at hL
      exact y_ireturn B hI rfl rfl rfl List.mem_cons_self ⟨_, rfl, ⟨_, rfl, x_i32 _⟩⟩ (x_cs.mono B.2.2.2.2.2 (y_mon B hI)) (fun t' w0' f' K' tt' nn' h1 h2 => by cases h1; cases h2.eqf hR0; exact ⟨_, _, rfl, h2.fin hYt0 hs0_hd hF hL hfld (y_mon B hI), fun q9 => absurd (show 0 ≤ x.toInt ∧ x.toInt ≤ 9 by omega) q9, fun _ q9 => absurd q9 (by omega), fun _ _ => ⟨rfl, rfl⟩⟩) (by exact Nat.le_of_ble_eq_true rfl) (by exact Nat.le_of_ble_eq_true rfl) Tle_d72
    · have q26_ : (8 : Int32).toInt ≤ (f 2).toInt := Int.not_lt.mp fun q => q26 (x_lt32.mpr q)
      refine lv_aload_n hx hb Tle_d29 rfl (lv_at hl 0 rfl) ?_
      refine lv_bipush hx hb Tle_d30 (v := (-4)) (by decide) ?_
      have ecm4 : ((-4) : Int32).toInt = (-4) := by decide
      refine y_call (z := (0, 59, 2, some 0, xM8)) (av := [.ref this, .int ((-4) : Int32)]) (rest := []) (y_cokV (n := 1) (ci := 11) X ym_counted rfl rfl rfl (x_cons (x_bw19 7 rfl rfl) (x_cons (x_bw19 9 rfl rfl) (x_cons (x_at 1 (by decide +kernel) rfl) (x_cons (x_bw0 1 rfl rfl) x_nilm)))) (x_bw19 10 rfl rfl) (by decide +kernel) ⟨Nat.le_of_ble_eq_true rfl, Nat.le_of_ble_eq_true rfl⟩) hY0 hI rfl Tle_d32 hl.1 (Nat.le_of_ble_eq_true rfl) (Nat.le_of_ble_eq_true rfl) (Nat.le_of_ble_eq_true rfl) (y_cons (y_cref hY_this rfl) (y_cons ⟨_, rfl, x_i32 _⟩ y_nil)) rfl (y_recv rfl hY_this) trivial (y_sub_ef rfl) fun v Yn o Hn L ho hr ha hIn hx_ hE hP => ?_
      replace hs_hd := y_Efld hE hY_this rfl (by decide) (by decide) hs_hd
      replace hn0 := y_Efld hE hY_hd rfl (by decide) (by decide) hn0
      replace hn1 := y_Efld hE hY_hd rfl (by decide) (by decide) hn1
      replace hn2 := y_Efld hE hY_hd rfl (by decide) (by decide) hn2
      replace hs_aword := y_Efld hE hY_hd rfl (by decide) (by decide) hs_aword
      replace hA_aword := hA_aword.kept (y_Earr hE hY_aword rfl (by decide))
      replace hL := hL.E hY_hd hE (fun q u h => y_ext hx_ hI.1 h) (by decide +kernel)
      replace hF := fun b u g9 (hb : Y0 b = some u) (h42 : u ≠ 42) (hg9 : x_G[u]? = some g9) (hn : b ≠ hd) (hk9 : ∀ k, k < 16 → x_sl D 2 k hd s.heap ≠ some (.ref b)) => x_eq.trans (x_eq.E42 hE (y_mon B hI _ _ hb) hg9 h42 rfl) (hF b u g9 hb h42 hg9 hn hk9)
      replace hfld : z_fld D hd s.heap _ := fun k a b c d => ((x_eq.E42 (g := x_G[2]) hE hY_hd rfl (by decide) rfl) k a).trans (hfld k a b c d)
      replace hY_this := y_ext hx_ hI.1 hY_this
      replace hY_hd := y_ext hx_ hI.1 hY_hd
      replace hY_aword := y_ext hx_ hI.1 hY_aword
      obtain rfl := hP _ _ rfl
      clear ho hr ha hE hP hI hx_
      rename x_I _ _ _ _ _ _ _ _ _ _ => hI
      exact y_ireturn B hI rfl rfl rfl List.mem_cons_self ⟨_, rfl, ⟨_, rfl, x_i32 _⟩⟩ (x_cs.mono B.2.2.2.2.2 (y_mon B hI)) (fun t' w0' f' K' tt' nn' h1 h2 => by cases h1; cases h2.eqf hR0; exact ⟨_, _, rfl, h2.fin hYt0 hs0_hd hF hL hfld (y_mon B hI), fun q9 => absurd (show 0 ≤ x.toInt ∧ x.toInt ≤ 9 by omega) q9, fun _ _ => ⟨rfl, rfl⟩, fun _ q9 => absurd q9 (by omega)⟩) (by exact Nat.le_of_ble_eq_true rfl) (by exact Nat.le_of_ble_eq_true rfl) Tle_d35
  · have q7_ : r4.toInt = (0 : Int32).toInt := by rw [q7]
    have hw := hout_r4 (by assumption)
    refine lv_aload_n hx hb Tle_d10 rfl (lv_at hl 0 rfl) ?_
    refine lv_bipush hx hb Tle_d11 (v := (-2)) (by decide) ?_
    have ecm2 : ((-2) : Int32).toInt = (-2) := by decide
    refine y_call (z := (0, 59, 2, some 0, xM8)) (av := [.ref this, .int ((-2) : Int32)]) (rest := []) (y_cokV (n := 1) (ci := 11) X ym_counted rfl rfl rfl (x_cons (x_bw19 7 rfl rfl) (x_cons (x_bw19 9 rfl rfl) (x_cons (x_at 1 (by decide +kernel) rfl) (x_cons (x_bw0 1 rfl rfl) x_nilm)))) (x_bw19 10 rfl rfl) (by decide +kernel) ⟨Nat.le_of_ble_eq_true rfl, Nat.le_of_ble_eq_true rfl⟩) hY0 hI rfl Tle_d13 hl.1 (Nat.le_of_ble_eq_true rfl) (Nat.le_of_ble_eq_true rfl) (Nat.le_of_ble_eq_true rfl) (y_cons (y_cref hY_this rfl) (y_cons ⟨_, rfl, x_i32 _⟩ y_nil)) rfl (y_recv rfl hY_this) trivial (y_sub_ef rfl) fun v Yn o Hn L ho hr ha hIn hx_ hE hP => ?_
    replace hs_hd := y_Efld hE hY_this rfl (by decide) (by decide) hs_hd
    replace hn0 := y_Efld hE hY_hd rfl (by decide) (by decide) hn0
    replace hn1 := y_Efld hE hY_hd rfl (by decide) (by decide) hn1
    replace hn2 := y_Efld hE hY_hd rfl (by decide) (by decide) hn2
    replace hs_aword := y_Efld hE hY_hd rfl (by decide) (by decide) hs_aword
    replace hA_aword := hA_aword.kept (y_Earr hE hY_aword rfl (by decide))
    replace hL := hL.E hY_hd hE (fun q u h => y_ext hx_ hI.1 h) (by decide +kernel)
    replace hF := fun b u g9 (hb : Y0 b = some u) (h42 : u ≠ 42) (hg9 : x_G[u]? = some g9) (hn : b ≠ hd) (hk9 : ∀ k, k < 16 → x_sl D 2 k hd s.heap ≠ some (.ref b)) => x_eq.trans (x_eq.E42 hE (y_mon B hI _ _ hb) hg9 h42 rfl) (hF b u g9 hb h42 hg9 hn hk9)
    replace hfld : z_fld D hd s.heap _ := fun k a b c d => ((x_eq.E42 (g := x_G[2]) hE hY_hd rfl (by decide) rfl) k a).trans (hfld k a b c d)
    replace hY_this := y_ext hx_ hI.1 hY_this
    replace hY_hd := y_ext hx_ hI.1 hY_hd
    replace hY_aword := y_ext hx_ hI.1 hY_aword
    obtain rfl := hP _ _ rfl
    clear ho hr ha hE hP hI hx_
    rename x_I _ _ _ _ _ _ _ _ _ _ => hI
    exact y_ireturn B hI rfl rfl rfl List.mem_cons_self ⟨_, rfl, ⟨_, rfl, x_i32 _⟩⟩ (x_cs.mono B.2.2.2.2.2 (y_mon B hI)) (fun t' w0' f' K' tt' nn' h1 h2 => by cases h1; cases h2.eqf hR0; exact ⟨_, _, rfl, h2.fin hYt0 hs0_hd hF hL hfld (y_mon B hI), fun _ => ⟨rfl, rfl⟩, fun q9 => absurd q9 (by omega), fun q9 => absurd q9 (by omega)⟩) (by exact Nat.le_of_ble_eq_true rfl) (by exact Nat.le_of_ble_eq_true rfl) Tle_d16
def z_PTun : yP := fun D av Y H v Y' H' => ∀ (this : Nat)  (f : Nat → Int32) (K : Nat → Option (Nat → Int32)) (t9 : Nat → Int32) (n9 : Int32), av = [.ref this] → z_RC D Y H this f K t9 n9 → ∃ (r : Int32) (g : Nat → Int32), v = some (.int r) ∧ z_RC D Y' H' this g K t9 n9 ∧ r = f 2 ∧ g = y_up f 2 0
theorem Tun_d0 : decode xM110.2.1 0 = .ok (.aload_n 0, 1) := dz_ok (by decide +kernel)
theorem Tun_d1 : decode xM110.2.1 1 = .ok (.getfield 12, 3) := dz_ok (by decide +kernel)
theorem Tun_d4 : decode xM110.2.1 4 = .ok (.getfield 254, 3) := dz_ok (by decide +kernel)
theorem Tun_d7 : decode xM110.2.1 7 = .ok (.istore_n 1, 1) := dz_ok (by decide +kernel)
theorem Tun_d8 : decode xM110.2.1 8 = .ok (.aload_n 0, 1) := dz_ok (by decide +kernel)
theorem Tun_d9 : decode xM110.2.1 9 = .ok (.getfield 12, 3) := dz_ok (by decide +kernel)
theorem Tun_d12 : decode xM110.2.1 12 = .ok (.iconst 0, 1) := dz_ok (by decide +kernel)
theorem Tun_d13 : decode xM110.2.1 13 = .ok (.putfield 254, 3) := dz_ok (by decide +kernel)
theorem Tun_d16 : decode xM110.2.1 16 = .ok (.iload_n 1, 1) := dz_ok (by decide +kernel)
theorem Tun_d17 : decode xM110.2.1 17 = .ok (.ireturn, 1) := dz_ok (by decide +kernel)
theorem ym_Tunword : y_Met vwCl x_G x_Zs x_Tb x_Nb xM110 z_ATF z_PTun := by
  refine y_main (by decide +kernel) (by decide +kernel) x_Tb_good x_Nb_ok ?_
  intro p l e s m below meth c D U Y0 av ls B hI hpre hl
  have X := B.1
  have hx := X.1
  have hb := X.2.1
  have hY0 := B.2.2.2.2.1
  obtain ⟨v0, rfl, hv0⟩ := x_one B.2.2.2.2.2
  obtain ⟨this, t0, rfl, ht0, hY_this⟩ := x_ref_at hv0 rfl
  obtain rfl := List.mem_singleton.mp ht0
  replace hl : lv_has ls xM110.2.2.1 [(0, .ref this)] := hl
  have hYt0 := hY_this
  obtain ⟨f, K, tt, nn, hR0⟩ := hpre _ rfl
  obtain ⟨hd, dr, kp, tx, by_, kk, ⟨hs_hd, -⟩, ⟨hY_hd, -⟩, hL, -⟩ := id hR0
  have hs0_hd := hs_hd
  have hF : z_fq D Y0 s.heap s.heap hd := fun _ _ _ _ _ _ _ _ => x_eq.of rfl
  have hfld : z_fld D hd s.heap s.heap := fun _ _ _ _ _ => rfl
  have hn0 := hL.1.1
  have hn1 := hL.1.2.1
  have hn2 := hL.1.2.2
  have hb0 : 0 ≤ (f 0).toInt ∧ (f 0).toInt ≤ 10 := by obtain ⟨x9, e9, b9⟩ := y_fldI (k := 0) hI.1 hY_hd rfl rfl; rw [hn0] at e9; cases e9; exact b9
  have hb1 : 0 ≤ (f 1).toInt ∧ (f 1).toInt ≤ 8 := by obtain ⟨x9, e9, b9⟩ := y_fldI (k := 6) hI.1 hY_hd rfl rfl; rw [hn1] at e9; cases e9; exact b9
  have hb2 : 0 ≤ (f 2).toInt ∧ (f 2).toInt ≤ 8 := by obtain ⟨x9, e9, b9⟩ := y_fldI (k := 12) hI.1 hY_hd rfl rfl; rw [hn2] at e9; cases e9; exact b9
  refine lv_aload_n hx hb Tun_d0 rfl (lv_at hl 0 rfl) ?_
  refine y_getf X (fl8 X.2.2.2.2.1) hI.1 hY_this rfl hs_hd Tun_d1 ?_
  refine y_getf X (fl142 X.2.2.2.2.1) hI.1 hY_hd rfl hn2 Tun_d4 ?_
  refine lv_istore_n hx hb Tun_d7 rfl hl (by decide) (lv' := [(1, .int (f 2)), (0, .ref this)]) rfl fun ls hl => ?_
  refine lv_aload_n hx hb Tun_d8 rfl (lv_at hl 1 rfl) ?_
  refine y_getf X (fl8 X.2.2.2.2.1) hI.1 hY_this rfl hs_hd Tun_d9 ?_
  refine lv_iconst hx hb Tun_d12 (v := 0) (by decide) ?_
  have ec0 : (0 : Int32).toInt = 0 := by decide
  refine y_putf X (fw144 X.2.2.2.2.1) hY0 hI hY_hd rfl rfl ⟨_, rfl, by show (0 : Int) ≤ _; omega, by show _ ≤ (8 : Int); omega⟩ (by decide +kernel) Tun_d13 fun H sl hI ho hs hk => ?_
  replace hs_hd := y_slk hs_hd (ho _ (y_ne hY_this hY_hd rfl))
  replace hn0 := hk _ _ (by decide +kernel) (by decide) hn0
  replace hn1 := hk _ _ (by decide +kernel) (by decide) hn1
  replace hL := hL.puti (k := 12) (p := 2) hY_hd (by decide) hs (fun i hi hn => hk i _ hi hn rfl) ho
  replace hF := fun b u g9 (hb : Y0 b = some u) (h42 : u ≠ 42) (hg9 : x_G[u]? = some g9) (hn : b ≠ hd) (hk9 : ∀ k, k < 16 → x_sl D 2 k hd s.heap ≠ some (.ref b)) => x_eq.trans (x_eq.of (ho b hn)) (hF b u g9 hb h42 hg9 hn hk9)
  replace hfld : z_fld D hd s.heap _ := fun k a b c d => (hk k _ a (by omega) rfl).trans (hfld k a b c d)
  replace hs := hs
  replace hn2 := hs
  refine lv_iload_n hx hb Tun_d16 rfl (lv_at hl 0 rfl) ?_
  exact y_ireturn B hI rfl rfl rfl List.mem_cons_self ⟨_, rfl, ⟨_, rfl, by show (0 : Int) ≤ _; omega, by show _ ≤ (8 : Int); omega⟩⟩ (x_cs.mono B.2.2.2.2.2 (y_mon B hI)) (fun t'  f' K' tt' nn' h1 h2 => by cases h1; cases h2.eqf hR0; exact ⟨_, _, rfl, h2.fin hYt0 hs0_hd hF hL hfld (y_mon B hI), rfl, rfl⟩) (by exact Nat.le_of_ble_eq_true rfl) (by exact Nat.le_of_ble_eq_true rfl) Tun_d17
def z_PTel : yP := fun D av Y H v Y' H' => ∀ (this : Nat) (x h w : Int32) (f : Nat → Int32) (K : Nat → Option (Nat → Int32)) (t9 : Nat → Int32) (n9 : Int32), av = [.ref this, .int x, .int h, .int w] → z_RC D Y H this f K t9 n9 → ∃ (r : Int32) (g : Nat → Int32), v = some (.int r) ∧ z_RC D Y' H' this g K t9 n9 ∧ m_el f x h w r g
theorem Tel_d0 : decode xM126.2.1 0 = .ok (.iload_n 2, 1) := dz_ok (by decide +kernel)
theorem Tel_d1 : decode xM126.2.1 1 = .ok (.iconst (-1), 1) := dz_ok (by decide +kernel)
theorem Tel_d2 : decode xM126.2.1 2 = .ok (.if_icmp .ne 11, 3) := dz_ok (by decide +kernel)
theorem Tel_d5 : decode xM126.2.1 5 = .ok (.iload_n 3, 1) := dz_ok (by decide +kernel)
theorem Tel_d6 : decode xM126.2.1 6 = .ok (.ifCond .ne 7, 3) := dz_ok (by decide +kernel)
theorem Tel_d9 : decode xM126.2.1 9 = .ok (.iconst 1, 1) := dz_ok (by decide +kernel)
theorem Tel_d10 : decode xM126.2.1 10 = .ok (.goto 4, 3) := dz_ok (by decide +kernel)
theorem Tel_d13 : decode xM126.2.1 13 = .ok (.iconst 0, 1) := dz_ok (by decide +kernel)
theorem Tel_d14 : decode xM126.2.1 14 = .ok (.istore 4, 2) := dz_ok (by decide +kernel)
theorem Tel_d16 : decode xM126.2.1 16 = .ok (.aload_n 0, 1) := dz_ok (by decide +kernel)
theorem Tel_d17 : decode xM126.2.1 17 = .ok (.getfield 12, 3) := dz_ok (by decide +kernel)
theorem Tel_d20 : decode xM126.2.1 20 = .ok (.iload_n 2, 1) := dz_ok (by decide +kernel)
theorem Tel_d21 : decode xM126.2.1 21 = .ok (.invokevirtual 101, 3) := dz_ok (by decide +kernel)
theorem Tel_d24 : decode xM126.2.1 24 = .ok (.ifCond .eq 16, 3) := dz_ok (by decide +kernel)
theorem Tel_d27 : decode xM126.2.1 27 = .ok (.iload_n 3, 1) := dz_ok (by decide +kernel)
theorem Tel_d28 : decode xM126.2.1 28 = .ok (.iconst 0, 1) := dz_ok (by decide +kernel)
theorem Tel_d29 : decode xM126.2.1 29 = .ok (.iconst 1, 1) := dz_ok (by decide +kernel)
theorem Tel_d30 : decode xM126.2.1 30 = .ok (.invokestatic 88, 3) := dz_ok (by decide +kernel)
theorem Tel_d33 : decode xM126.2.1 33 = .ok (.ifCond .eq 7, 3) := dz_ok (by decide +kernel)
theorem Tel_d36 : decode xM126.2.1 36 = .ok (.iconst 1, 1) := dz_ok (by decide +kernel)
theorem Tel_d37 : decode xM126.2.1 37 = .ok (.goto 4, 3) := dz_ok (by decide +kernel)
theorem Tel_d40 : decode xM126.2.1 40 = .ok (.iconst 0, 1) := dz_ok (by decide +kernel)
theorem Tel_d41 : decode xM126.2.1 41 = .ok (.istore 5, 2) := dz_ok (by decide +kernel)
theorem Tel_d43 : decode xM126.2.1 43 = .ok (.iload_n 1, 1) := dz_ok (by decide +kernel)
theorem Tel_d44 : decode xM126.2.1 44 = .ok (.iconst 0, 1) := dz_ok (by decide +kernel)
theorem Tel_d45 : decode xM126.2.1 45 = .ok (.bipush 11, 2) := dz_ok (by decide +kernel)
theorem Tel_d47 : decode xM126.2.1 47 = .ok (.invokestatic 88, 3) := dz_ok (by decide +kernel)
theorem Tel_d50 : decode xM126.2.1 50 = .ok (.ifCond .eq 13, 3) := dz_ok (by decide +kernel)
theorem Tel_d53 : decode xM126.2.1 53 = .ok (.iload 4, 2) := dz_ok (by decide +kernel)
theorem Tel_d55 : decode xM126.2.1 55 = .ok (.ifCond .ne 15, 3) := dz_ok (by decide +kernel)
theorem Tel_d58 : decode xM126.2.1 58 = .ok (.iload 5, 2) := dz_ok (by decide +kernel)
theorem Tel_d60 : decode xM126.2.1 60 = .ok (.ifCond .ne 10, 3) := dz_ok (by decide +kernel)
theorem Tel_d63 : decode xM126.2.1 63 = .ok (.aload_n 0, 1) := dz_ok (by decide +kernel)
theorem Tel_d64 : decode xM126.2.1 64 = .ok (.bipush (-2), 2) := dz_ok (by decide +kernel)
theorem Tel_d66 : decode xM126.2.1 66 = .ok (.invokevirtual 59, 3) := dz_ok (by decide +kernel)
theorem Tel_d69 : decode xM126.2.1 69 = .ok (.ireturn, 1) := dz_ok (by decide +kernel)
theorem Tel_d70 : decode xM126.2.1 70 = .ok (.aload_n 0, 1) := dz_ok (by decide +kernel)
theorem Tel_d71 : decode xM126.2.1 71 = .ok (.getfield 12, 3) := dz_ok (by decide +kernel)
theorem Tel_d74 : decode xM126.2.1 74 = .ok (.getfield 283, 3) := dz_ok (by decide +kernel)
theorem Tel_d77 : decode xM126.2.1 77 = .ok (.iload_n 1, 1) := dz_ok (by decide +kernel)
theorem Tel_d78 : decode xM126.2.1 78 = .ok (.iload_n 2, 1) := dz_ok (by decide +kernel)
theorem Tel_d79 : decode xM126.2.1 79 = .ok (.iastore, 1) := dz_ok (by decide +kernel)
theorem Tel_d80 : decode xM126.2.1 80 = .ok (.aload_n 0, 1) := dz_ok (by decide +kernel)
theorem Tel_d81 : decode xM126.2.1 81 = .ok (.getfield 12, 3) := dz_ok (by decide +kernel)
theorem Tel_d84 : decode xM126.2.1 84 = .ok (.getfield 286, 3) := dz_ok (by decide +kernel)
theorem Tel_d87 : decode xM126.2.1 87 = .ok (.iload_n 1, 1) := dz_ok (by decide +kernel)
theorem Tel_d88 : decode xM126.2.1 88 = .ok (.iload_n 3, 1) := dz_ok (by decide +kernel)
theorem Tel_d89 : decode xM126.2.1 89 = .ok (.iastore, 1) := dz_ok (by decide +kernel)
theorem Tel_d90 : decode xM126.2.1 90 = .ok (.iconst 1, 1) := dz_ok (by decide +kernel)
theorem Tel_d91 : decode xM126.2.1 91 = .ok (.ireturn, 1) := dz_ok (by decide +kernel)
theorem ym_Ttell : y_Met vwCl x_G x_Zs x_Tb x_Nb xM126 z_ATF z_PTel := by
  refine y_main (by decide +kernel) (by decide +kernel) x_Tb_good x_Nb_ok ?_
  intro p l e s m below meth c D U Y0 av ls B hI hpre hl
  have X := B.1
  have hx := X.1
  have hb := X.2.1
  have hY0 := B.2.2.2.2.1
  obtain ⟨v0, v1, v2, v3, rfl, hv0, ⟨x, rfl, -⟩, ⟨h, rfl, -⟩, ⟨w, rfl, -⟩⟩ := y_four B.2.2.2.2.2
  obtain ⟨this, t0, rfl, ht0, hY_this⟩ := x_ref_at hv0 rfl
  obtain rfl := List.mem_singleton.mp ht0
  replace hl : lv_has ls xM126.2.2.1 [(0, .ref this), (1, .int x), (2, .int h), (3, .int w)] := hl
  have hYt0 := hY_this
  obtain ⟨f, K, tt, nn, hR0⟩ := hpre _ rfl
  obtain ⟨hd, dr, kp, tx, by_, kk, ⟨hs_hd, -⟩, ⟨hY_hd, -⟩, hL, -⟩ := id hR0
  have hs0_hd := hs_hd
  have hF : z_fq D Y0 s.heap s.heap hd := fun _ _ _ _ _ _ _ _ => x_eq.of rfl
  have hfld : z_fld D hd s.heap s.heap := fun _ _ _ _ _ => rfl
  have hn0 := hL.1.1
  have hn1 := hL.1.2.1
  have hn2 := hL.1.2.2
  have hb0 : 0 ≤ (f 0).toInt ∧ (f 0).toInt ≤ 10 := by obtain ⟨x9, e9, b9⟩ := y_fldI (k := 0) hI.1 hY_hd rfl rfl; rw [hn0] at e9; cases e9; exact b9
  have hb1 : 0 ≤ (f 1).toInt ∧ (f 1).toInt ≤ 8 := by obtain ⟨x9, e9, b9⟩ := y_fldI (k := 6) hI.1 hY_hd rfl rfl; rw [hn1] at e9; cases e9; exact b9
  have hb2 : 0 ≤ (f 2).toInt ∧ (f 2).toInt ≤ 8 := by obtain ⟨x9, e9, b9⟩ := y_fldI (k := 12) hI.1 hY_hd rfl rfl; rw [hn2] at e9; cases e9; exact b9
  obtain ⟨anightHill, hs_anightHill, hY_anightHill, hA_anightHill⟩ := hL.2.1 (14, 30, 12, 136, 2) (by decide)
  replace hA_anightHill : y_A anightHill 12 s.heap (fun j => f (136 + 2 * j)) := hA_anightHill
  have hs0_anightHill := hs_anightHill
  obtain ⟨anightHow, hs_anightHow, hY_anightHow, hA_anightHow⟩ := hL.2.1 (15, 31, 12, 137, 2) (by decide)
  replace hA_anightHow : y_A anightHow 12 s.heap (fun j => f (137 + 2 * j)) := hA_anightHow
  have hs0_anightHow := hs_anightHow
  refine lv_iload_n hx hb Tel_d0 rfl (lv_at hl 2 rfl) ?_
  refine lv_iconst hx hb Tel_d1 (v := (-1)) (by decide) ?_
  have ecm1 : ((-1) : Int32).toInt = (-1) := by decide
  refine lv_icmp_ne hx hb Tel_d2 (tgt := 13) (by decide) (fun q2 => ?_) (fun q2 => ?_)
  · have q2_ : ¬ h.toInt = ((-1) : Int32).toInt := fun q => q2 (Int32.toInt_inj.mp q)
    refine lv_iconst hx hb Tel_d13 (v := 0) (by decide) ?_
    have ec0 : (0 : Int32).toInt = 0 := by decide
    refine lv_istore hx hb Tel_d14 hl (by decide) (lv' := [(4, .int (0 : Int32)), (0, .ref this), (1, .int x), (2, .int h), (3, .int w)]) rfl fun ls hl => ?_
    refine lv_aload_n hx hb Tel_d16 rfl (lv_at hl 1 rfl) ?_
    refine y_getf X (fl8 X.2.2.2.2.1) hI.1 hY_this rfl hs_hd Tel_d17 ?_
    refine lv_iload_n hx hb Tel_d20 rfl (lv_at hl 3 rfl) ?_
    refine y_call (z := (0, 101, 2, some 2, xM40)) (av := [.ref hd, .int h]) (rest := []) (y_cokV (n := 1) (ci := 2) X ym_hasHill rfl rfl rfl (x_cons (x_bw29 8 rfl rfl) (x_cons (x_bw29 9 rfl rfl) (x_cons (x_bw29 10 rfl rfl) (x_cons (x_bw0 2 rfl rfl) x_nilm)))) (x_bw29 11 rfl rfl) (by decide +kernel) ⟨Nat.le_of_ble_eq_true rfl, Nat.le_of_ble_eq_true rfl⟩) hY0 hI rfl Tel_d21 hl.1 (Nat.le_of_ble_eq_true rfl) (Nat.le_of_ble_eq_true rfl) (Nat.le_of_ble_eq_true rfl) (y_cons (y_cref hY_hd rfl) (y_cons ⟨_, rfl, x_i32 _⟩ y_nil)) rfl (y_recv rfl hY_hd) trivial (y_sub_ef rfl) fun v Yn o Hn L ho hr ha hIn hx_ hE hP => ?_
    have hPh := hP _ _ _ rfl hn0
    replace hs_hd := y_Efld hE hY_this rfl (by decide) (by decide) hs_hd
    replace hn0 := y_Efld hE hY_hd rfl (by decide) (by decide) hn0
    replace hn1 := y_Efld hE hY_hd rfl (by decide) (by decide) hn1
    replace hn2 := y_Efld hE hY_hd rfl (by decide) (by decide) hn2
    replace hs_anightHill := y_Efld hE hY_hd rfl (by decide) (by decide) hs_anightHill
    replace hs_anightHow := y_Efld hE hY_hd rfl (by decide) (by decide) hs_anightHow
    replace hA_anightHill := hA_anightHill.kept (y_Earr hE hY_anightHill rfl (by decide))
    replace hA_anightHow := hA_anightHow.kept (y_Earr hE hY_anightHow rfl (by decide))
    replace hL := hL.E hY_hd hE (fun q u h => y_ext hx_ hI.1 h) (by decide +kernel)
    replace hF := fun b u g9 (hb : Y0 b = some u) (h42 : u ≠ 42) (hg9 : x_G[u]? = some g9) (hn : b ≠ hd) (hk9 : ∀ k, k < 16 → x_sl D 2 k hd s.heap ≠ some (.ref b)) => x_eq.trans (x_eq.E42 hE (y_mon B hI _ _ hb) hg9 h42 rfl) (hF b u g9 hb h42 hg9 hn hk9)
    replace hfld : z_fld D hd s.heap _ := fun k a b c d => ((x_eq.E42 (g := x_G[2]) hE hY_hd rfl (by decide) rfl) k a).trans (hfld k a b c d)
    replace hY_this := y_ext hx_ hI.1 hY_this
    replace hY_hd := y_ext hx_ hI.1 hY_hd
    replace hY_anightHill := y_ext hx_ hI.1 hY_anightHill
    replace hY_anightHow := y_ext hx_ hI.1 hY_anightHow
    obtain ⟨r21, rfl, hin_r21, hout_r21⟩ := hPh
    clear ho hr ha hE hP hI hx_
    rename x_I _ _ _ _ _ _ _ _ _ _ => hI
    refine lv_if_eq hx hb Tel_d24 (tgt := 40) (by decide) (fun q24 => ?_) (fun q24 => ?_)
    · have q24_ : r21.toInt = (0 : Int32).toInt := by rw [q24]
      refine lv_iconst hx hb Tel_d40 (v := 0) (by decide) ?_
      refine lv_istore hx hb Tel_d41 hl (by decide) (lv' := [(5, .int (0 : Int32)), (4, .int (0 : Int32)), (0, .ref this), (1, .int x), (2, .int h), (3, .int w)]) rfl fun ls hl => ?_
      refine lv_iload_n hx hb Tel_d43 rfl (lv_at hl 3 rfl) ?_
      refine lv_iconst hx hb Tel_d44 (v := 0) (by decide) ?_
      refine lv_bipush hx hb Tel_d45 (v := 11) (by decide) ?_
      have ec11 : (11 : Int32).toInt = 11 := by decide
      refine y_call (z := (1, 88, 3, none, xM10)) (av := [.int x, .int (0 : Int32), .int (11 : Int32)]) (rest := []) (y_cokS (n := 3) X ym_within (x_cons (x_bw19 15 rfl rfl) (x_cons (x_bw19 1 rfl rfl) (x_cons (x_bw0 1 rfl rfl) x_nilm))) (x_bw19 2 rfl rfl) (by decide +kernel) ⟨Nat.le_of_ble_eq_true rfl, Nat.le_of_ble_eq_true rfl⟩) hY0 hI rfl Tel_d47 hl.1 (Nat.le_of_ble_eq_true rfl) (Nat.le_of_ble_eq_true rfl) (Nat.le_of_ble_eq_true rfl) (y_cons ⟨_, rfl, x_i32 _⟩ (y_cons ⟨_, rfl, x_i32 _⟩ (y_cons ⟨_, rfl, x_i32 _⟩ y_nil))) rfl (y_norecv rfl) trivial (y_sub_ef rfl) fun v Yn o Hn L ho hr ha hIn hx_ hE hP => ?_
      replace hs_hd := y_Efld hE hY_this rfl (by decide) (by decide) hs_hd
      replace hn0 := y_Efld hE hY_hd rfl (by decide) (by decide) hn0
      replace hn1 := y_Efld hE hY_hd rfl (by decide) (by decide) hn1
      replace hn2 := y_Efld hE hY_hd rfl (by decide) (by decide) hn2
      replace hs_anightHill := y_Efld hE hY_hd rfl (by decide) (by decide) hs_anightHill
      replace hs_anightHow := y_Efld hE hY_hd rfl (by decide) (by decide) hs_anightHow
      replace hA_anightHill := hA_anightHill.kept (y_Earr hE hY_anightHill rfl (by decide))
      replace hA_anightHow := hA_anightHow.kept (y_Earr hE hY_anightHow rfl (by decide))
      replace hL := hL.E hY_hd hE (fun q u h => y_ext hx_ hI.1 h) (by decide +kernel)
      replace hF := fun b u g9 (hb : Y0 b = some u) (h42 : u ≠ 42) (hg9 : x_G[u]? = some g9) (hn : b ≠ hd) (hk9 : ∀ k, k < 16 → x_sl D 2 k hd s.heap ≠ some (.ref b)) => x_eq.trans (x_eq.E42 hE (y_mon B hI _ _ hb) hg9 h42 rfl) (hF b u g9 hb h42 hg9 hn hk9)
      replace hfld : z_fld D hd s.heap _ := fun k a b c d => ((x_eq.E42 (g := x_G[2]) hE hY_hd rfl (by decide) rfl) k a).trans (hfld k a b c d)
      replace hY_this := y_ext hx_ hI.1 hY_this
      replace hY_hd := y_ext hx_ hI.1 hY_hd
      replace hY_anightHill := y_ext hx_ hI.1 hY_anightHill
      replace hY_anightHow := y_ext hx_ hI.1 hY_anightHow
      obtain ⟨r47, rfl, hin_r47, hout_r47⟩ := hP _ _ _ rfl
      clear ho hr ha hE hP hI hx_
      rename x_I _ _ _ _ _ _ _ _ _ _ => hI
      refine lv_if_eq hx hb Tel_d50 (tgt := 63) (by decide) (fun q50 => ?_) (fun q50 => ?_)
      · have q50_ : r47.toInt = (0 : Int32).toInt := by rw [q50]
        have hno : ¬ m_elOk f x h w := fun q9 => by obtain ⟨a1, a2⟩ := q9; first | (have h9 := hout_r47 (by assumption); omega) | (rcases a2 with a2 | a2; omega; exact hout_r21 (by assumption) a2.1) | (rcases a2 with a2 | a2; omega; have h9 := hout_r30 (by assumption); omega) | omega
        refine lv_aload_n hx hb Tel_d63 rfl (lv_at hl 2 rfl) ?_
        refine lv_bipush hx hb Tel_d64 (v := (-2)) (by decide) ?_
        have ecm2 : ((-2) : Int32).toInt = (-2) := by decide
        refine y_call (z := (0, 59, 2, some 0, xM8)) (av := [.ref this, .int ((-2) : Int32)]) (rest := []) (y_cokV (n := 1) (ci := 11) X ym_counted rfl rfl rfl (x_cons (x_bw19 7 rfl rfl) (x_cons (x_bw19 9 rfl rfl) (x_cons (x_at 1 (by decide +kernel) rfl) (x_cons (x_bw0 1 rfl rfl) x_nilm)))) (x_bw19 10 rfl rfl) (by decide +kernel) ⟨Nat.le_of_ble_eq_true rfl, Nat.le_of_ble_eq_true rfl⟩) hY0 hI rfl Tel_d66 hl.1 (Nat.le_of_ble_eq_true rfl) (Nat.le_of_ble_eq_true rfl) (Nat.le_of_ble_eq_true rfl) (y_cons (y_cref hY_this rfl) (y_cons ⟨_, rfl, x_i32 _⟩ y_nil)) rfl (y_recv rfl hY_this) trivial (y_sub_ef rfl) fun v Yn o Hn L ho hr ha hIn hx_ hE hP => ?_
        replace hs_hd := y_Efld hE hY_this rfl (by decide) (by decide) hs_hd
        replace hn0 := y_Efld hE hY_hd rfl (by decide) (by decide) hn0
        replace hn1 := y_Efld hE hY_hd rfl (by decide) (by decide) hn1
        replace hn2 := y_Efld hE hY_hd rfl (by decide) (by decide) hn2
        replace hs_anightHill := y_Efld hE hY_hd rfl (by decide) (by decide) hs_anightHill
        replace hs_anightHow := y_Efld hE hY_hd rfl (by decide) (by decide) hs_anightHow
        replace hA_anightHill := hA_anightHill.kept (y_Earr hE hY_anightHill rfl (by decide))
        replace hA_anightHow := hA_anightHow.kept (y_Earr hE hY_anightHow rfl (by decide))
        replace hL := hL.E hY_hd hE (fun q u h => y_ext hx_ hI.1 h) (by decide +kernel)
        replace hF := fun b u g9 (hb : Y0 b = some u) (h42 : u ≠ 42) (hg9 : x_G[u]? = some g9) (hn : b ≠ hd) (hk9 : ∀ k, k < 16 → x_sl D 2 k hd s.heap ≠ some (.ref b)) => x_eq.trans (x_eq.E42 hE (y_mon B hI _ _ hb) hg9 h42 rfl) (hF b u g9 hb h42 hg9 hn hk9)
        replace hfld : z_fld D hd s.heap _ := fun k a b c d => ((x_eq.E42 (g := x_G[2]) hE hY_hd rfl (by decide) rfl) k a).trans (hfld k a b c d)
        replace hY_this := y_ext hx_ hI.1 hY_this
        replace hY_hd := y_ext hx_ hI.1 hY_hd
        replace hY_anightHill := y_ext hx_ hI.1 hY_anightHill
        replace hY_anightHow := y_ext hx_ hI.1 hY_anightHow
        obtain rfl := hP _ _ rfl
        clear ho hr ha hE hP hI hx_
        rename x_I _ _ _ _ _ _ _ _ _ _ => hI
        exact y_ireturn B hI rfl rfl rfl List.mem_cons_self ⟨_, rfl, ⟨_, rfl, x_i32 _⟩⟩ (x_cs.mono B.2.2.2.2.2 (y_mon B hI)) (fun t' w0' w1' w2' f' K' tt' nn' h1 h2 => by cases h1; cases h2.eqf hR0; exact ⟨_, _, rfl, h2.fin hYt0 hs0_hd hF hL hfld (y_mon B hI), fun _ => ⟨rfl, rfl⟩, fun q9 => absurd q9 hno⟩) (by exact Nat.le_of_ble_eq_true rfl) (by exact Nat.le_of_ble_eq_true rfl) Tel_d69
      · have q50_ : ¬ r47.toInt = (0 : Int32).toInt := fun q => q50 (Int32.toInt_inj.mp q)
        refine lv_iload hx hb Tel_d53 (lv_at hl 1 rfl) ?_
        refine lv_if_ne hx hb Tel_d55 (tgt := 70) (by decide) (fun q55 => ?_) (fun q55 => ?_)
        · have q55_ : ¬ (0 : Int32).toInt = (0 : Int32).toInt := fun q => q55 (Int32.toInt_inj.mp q)
          have hw1 := hin_r47 (by assumption)
          have hok : m_elOk f x h w := ⟨by omega, by first | exact Or.inl ⟨by omega, by omega⟩ | exact Or.inr ⟨hin_r21 (by assumption), by have h9 := hin_r30 (by assumption); omega, by have h9 := hin_r30 (by assumption); omega⟩ | (exfalso; omega)⟩
          refine lv_aload_n hx hb Tel_d70 rfl (lv_at hl 2 rfl) ?_
          refine y_getf X (fl8 X.2.2.2.2.1) hI.1 hY_this rfl hs_hd Tel_d71 ?_
          refine y_getf X (fl154 X.2.2.2.2.1) hI.1 hY_hd rfl hs_anightHill Tel_d74 ?_
          refine lv_iload_n hx hb Tel_d77 rfl (lv_at hl 3 rfl) ?_
          refine lv_iload_n hx hb Tel_d78 rfl (lv_at hl 4 rfl) ?_
          have hs_old := hs_anightHill
          have hA_old := hA_anightHill
          refine y_iast X hY0 hI hY_anightHill rfl hA_anightHill (by omega) (by show _ < (12 : Int); omega) ⟨_, rfl, x_i32 _⟩ (by decide +kernel) Tel_d79 fun H locs hI h_new ho => ?_
          replace hA_anightHill := h_new
          generalize hf_f79 : y_up (fun j => f (136 + 2 * j)) x.toInt.toNat h = f79 at hA_anightHill
          replace hs_hd := y_slk hs_hd (ho _ (y_ne hY_this hY_anightHill rfl))
          replace hn0 := y_slk hn0 (ho _ (y_ne hY_hd hY_anightHill rfl))
          replace hn1 := y_slk hn1 (ho _ (y_ne hY_hd hY_anightHill rfl))
          replace hn2 := y_slk hn2 (ho _ (y_ne hY_hd hY_anightHill rfl))
          replace hs_anightHill := y_slk hs_anightHill (ho _ (y_ne hY_hd hY_anightHill rfl))
          replace hs_anightHow := y_slk hs_anightHow (ho _ (y_ne hY_hd hY_anightHill rfl))
          replace hA_anightHow := hA_anightHow.kept (ho _ (y_ne hY_anightHow hY_anightHill rfl))
          replace hL := hL.putA (c := (14, 30, 12, 136, 2)) (N := 12) hY_hd (by decide) rfl (by omega) hs_old hA_old h_new ho
          replace hF := fun b u g9 (hb : Y0 b = some u) (h42 : u ≠ 42) (hg9 : x_G[u]? = some g9) (hn : b ≠ hd) (hk9 : ∀ k, k < 16 → x_sl D 2 k hd s.heap ≠ some (.ref b)) => x_eq.trans (x_eq.of (ho b (fun e0 => hk9 14 (by decide) (by rw [e0]; exact hs0_anightHill)))) (hF b u g9 hb h42 hg9 hn hk9)
          replace hfld : z_fld D hd s.heap _ := fun k a b c d => (y_slk rfl (ho _ (y_ne hY_hd hY_anightHill rfl))).trans (hfld k a b c d)
          refine lv_aload_n hx hb Tel_d80 rfl (lv_at hl 2 rfl) ?_
          refine y_getf X (fl8 X.2.2.2.2.1) hI.1 hY_this rfl hs_hd Tel_d81 ?_
          refine y_getf X (fl155 X.2.2.2.2.1) hI.1 hY_hd rfl hs_anightHow Tel_d84 ?_
          refine lv_iload_n hx hb Tel_d87 rfl (lv_at hl 3 rfl) ?_
          refine lv_iload_n hx hb Tel_d88 rfl (lv_at hl 5 rfl) ?_
          have hs_old := hs_anightHow
          have hA_old := hA_anightHow
          refine y_iast X hY0 hI hY_anightHow rfl hA_anightHow (by omega) (by show _ < (12 : Int); omega) ⟨_, rfl, x_i32 _⟩ (by decide +kernel) Tel_d89 fun H locs hI h_new ho => ?_
          replace hA_anightHow := h_new
          generalize hf_f89 : y_up (fun j => f (137 + 2 * j)) x.toInt.toNat w = f89 at hA_anightHow
          replace hs_hd := y_slk hs_hd (ho _ (y_ne hY_this hY_anightHow rfl))
          replace hn0 := y_slk hn0 (ho _ (y_ne hY_hd hY_anightHow rfl))
          replace hn1 := y_slk hn1 (ho _ (y_ne hY_hd hY_anightHow rfl))
          replace hn2 := y_slk hn2 (ho _ (y_ne hY_hd hY_anightHow rfl))
          replace hs_anightHill := y_slk hs_anightHill (ho _ (y_ne hY_hd hY_anightHow rfl))
          replace hs_anightHow := y_slk hs_anightHow (ho _ (y_ne hY_hd hY_anightHow rfl))
          replace hA_anightHill := hA_anightHill.kept (ho _ (y_ne hY_anightHill hY_anightHow rfl))
          replace hL := hL.putA (c := (15, 31, 12, 137, 2)) (N := 12) hY_hd (by decide) rfl (by omega) hs_old hA_old h_new ho
          replace hF := fun b u g9 (hb : Y0 b = some u) (h42 : u ≠ 42) (hg9 : x_G[u]? = some g9) (hn : b ≠ hd) (hk9 : ∀ k, k < 16 → x_sl D 2 k hd s.heap ≠ some (.ref b)) => x_eq.trans (x_eq.of (ho b (fun e0 => hk9 15 (by decide) (by rw [e0]; exact hs0_anightHow)))) (hF b u g9 hb h42 hg9 hn hk9)
          replace hfld : z_fld D hd s.heap _ := fun k a b c d => (y_slk rfl (ho _ (y_ne hY_hd hY_anightHow rfl))).trans (hfld k a b c d)
          refine lv_iconst hx hb Tel_d90 (v := 1) (by decide) ?_
          have ec1 : (1 : Int32).toInt = 1 := by decide
          exact y_ireturn B hI rfl rfl rfl List.mem_cons_self ⟨_, rfl, ⟨_, rfl, x_i32 _⟩⟩ (x_cs.mono B.2.2.2.2.2 (y_mon B hI)) (fun t' w0' w1' w2' f' K' tt' nn' h1 h2 => by cases h1; cases h2.eqf hR0; exact ⟨_, _, rfl, h2.fin hYt0 hs0_hd hF hL hfld (y_mon B hI), fun q9 => absurd hok q9, fun _ => ⟨rfl, rfl⟩⟩) (by exact Nat.le_of_ble_eq_true rfl) (by exact Nat.le_of_ble_eq_true rfl) Tel_d91
        · have q55_ : (0 : Int32).toInt = (0 : Int32).toInt := by rw [q55]
          refine lv_iload hx hb Tel_d58 (lv_at hl 0 rfl) ?_
          refine lv_if_ne hx hb Tel_d60 (tgt := 70) (by decide) (fun q60 => ?_) (fun q60 => ?_)
          · have q60_ : ¬ (0 : Int32).toInt = (0 : Int32).toInt := fun q => q60 (Int32.toInt_inj.mp q)
            have hw1 := hin_r47 (by assumption)
            have hok : m_elOk f x h w := ⟨by omega, by first | exact Or.inl ⟨by omega, by omega⟩ | exact Or.inr ⟨hin_r21 (by assumption), by have h9 := hin_r30 (by assumption); omega, by have h9 := hin_r30 (by assumption); omega⟩ | (exfalso; omega)⟩
            refine lv_aload_n hx hb Tel_d70 rfl (lv_at hl 2 rfl) ?_
            refine y_getf X (fl8 X.2.2.2.2.1) hI.1 hY_this rfl hs_hd Tel_d71 ?_
            refine y_getf X (fl154 X.2.2.2.2.1) hI.1 hY_hd rfl hs_anightHill Tel_d74 ?_
            refine lv_iload_n hx hb Tel_d77 rfl (lv_at hl 3 rfl) ?_
            refine lv_iload_n hx hb Tel_d78 rfl (lv_at hl 4 rfl) ?_
            have hs_old := hs_anightHill
            have hA_old := hA_anightHill
            refine y_iast X hY0 hI hY_anightHill rfl hA_anightHill (by omega) (by show _ < (12 : Int); omega) ⟨_, rfl, x_i32 _⟩ (by decide +kernel) Tel_d79 fun H locs hI h_new ho => ?_
            replace hA_anightHill := h_new
            generalize hf_f79 : y_up (fun j => f (136 + 2 * j)) x.toInt.toNat h = f79 at hA_anightHill
            replace hs_hd := y_slk hs_hd (ho _ (y_ne hY_this hY_anightHill rfl))
            replace hn0 := y_slk hn0 (ho _ (y_ne hY_hd hY_anightHill rfl))
            replace hn1 := y_slk hn1 (ho _ (y_ne hY_hd hY_anightHill rfl))
            replace hn2 := y_slk hn2 (ho _ (y_ne hY_hd hY_anightHill rfl))
            replace hs_anightHill := y_slk hs_anightHill (ho _ (y_ne hY_hd hY_anightHill rfl))
            replace hs_anightHow := y_slk hs_anightHow (ho _ (y_ne hY_hd hY_anightHill rfl))
            replace hA_anightHow := hA_anightHow.kept (ho _ (y_ne hY_anightHow hY_anightHill rfl))
            replace hL := hL.putA (c := (14, 30, 12, 136, 2)) (N := 12) hY_hd (by decide) rfl (by omega) hs_old hA_old h_new ho
            replace hF := fun b u g9 (hb : Y0 b = some u) (h42 : u ≠ 42) (hg9 : x_G[u]? = some g9) (hn : b ≠ hd) (hk9 : ∀ k, k < 16 → x_sl D 2 k hd s.heap ≠ some (.ref b)) => x_eq.trans (x_eq.of (ho b (fun e0 => hk9 14 (by decide) (by rw [e0]; exact hs0_anightHill)))) (hF b u g9 hb h42 hg9 hn hk9)
            replace hfld : z_fld D hd s.heap _ := fun k a b c d => (y_slk rfl (ho _ (y_ne hY_hd hY_anightHill rfl))).trans (hfld k a b c d)
            refine lv_aload_n hx hb Tel_d80 rfl (lv_at hl 2 rfl) ?_
            refine y_getf X (fl8 X.2.2.2.2.1) hI.1 hY_this rfl hs_hd Tel_d81 ?_
            refine y_getf X (fl155 X.2.2.2.2.1) hI.1 hY_hd rfl hs_anightHow Tel_d84 ?_
            refine lv_iload_n hx hb Tel_d87 rfl (lv_at hl 3 rfl) ?_
            refine lv_iload_n hx hb Tel_d88 rfl (lv_at hl 5 rfl) ?_
            have hs_old := hs_anightHow
            have hA_old := hA_anightHow
            refine y_iast X hY0 hI hY_anightHow rfl hA_anightHow (by omega) (by show _ < (12 : Int); omega) ⟨_, rfl, x_i32 _⟩ (by decide +kernel) Tel_d89 fun H locs hI h_new ho => ?_
            replace hA_anightHow := h_new
            generalize hf_f89 : y_up (fun j => f (137 + 2 * j)) x.toInt.toNat w = f89 at hA_anightHow
            replace hs_hd := y_slk hs_hd (ho _ (y_ne hY_this hY_anightHow rfl))
            replace hn0 := y_slk hn0 (ho _ (y_ne hY_hd hY_anightHow rfl))
            replace hn1 := y_slk hn1 (ho _ (y_ne hY_hd hY_anightHow rfl))
            replace hn2 := y_slk hn2 (ho _ (y_ne hY_hd hY_anightHow rfl))
            replace hs_anightHill := y_slk hs_anightHill (ho _ (y_ne hY_hd hY_anightHow rfl))
            replace hs_anightHow := y_slk hs_anightHow (ho _ (y_ne hY_hd hY_anightHow rfl))
            replace hA_anightHill := hA_anightHill.kept (ho _ (y_ne hY_anightHill hY_anightHow rfl))
            replace hL := hL.putA (c := (15, 31, 12, 137, 2)) (N := 12) hY_hd (by decide) rfl (by omega) hs_old hA_old h_new ho
            replace hF := fun b u g9 (hb : Y0 b = some u) (h42 : u ≠ 42) (hg9 : x_G[u]? = some g9) (hn : b ≠ hd) (hk9 : ∀ k, k < 16 → x_sl D 2 k hd s.heap ≠ some (.ref b)) => x_eq.trans (x_eq.of (ho b (fun e0 => hk9 15 (by decide) (by rw [e0]; exact hs0_anightHow)))) (hF b u g9 hb h42 hg9 hn hk9)
            replace hfld : z_fld D hd s.heap _ := fun k a b c d => (y_slk rfl (ho _ (y_ne hY_hd hY_anightHow rfl))).trans (hfld k a b c d)
            refine lv_iconst hx hb Tel_d90 (v := 1) (by decide) ?_
            have ec1 : (1 : Int32).toInt = 1 := by decide
            exact y_ireturn B hI rfl rfl rfl List.mem_cons_self ⟨_, rfl, ⟨_, rfl, x_i32 _⟩⟩ (x_cs.mono B.2.2.2.2.2 (y_mon B hI)) (fun t' w0' w1' w2' f' K' tt' nn' h1 h2 => by cases h1; cases h2.eqf hR0; exact ⟨_, _, rfl, h2.fin hYt0 hs0_hd hF hL hfld (y_mon B hI), fun q9 => absurd hok q9, fun _ => ⟨rfl, rfl⟩⟩) (by exact Nat.le_of_ble_eq_true rfl) (by exact Nat.le_of_ble_eq_true rfl) Tel_d91
          · have q60_ : (0 : Int32).toInt = (0 : Int32).toInt := by rw [q60]
            have hno : ¬ m_elOk f x h w := fun q9 => by obtain ⟨a1, a2⟩ := q9; first | (have h9 := hout_r47 (by assumption); omega) | (rcases a2 with a2 | a2; omega; exact hout_r21 (by assumption) a2.1) | (rcases a2 with a2 | a2; omega; have h9 := hout_r30 (by assumption); omega) | omega
            refine lv_aload_n hx hb Tel_d63 rfl (lv_at hl 2 rfl) ?_
            refine lv_bipush hx hb Tel_d64 (v := (-2)) (by decide) ?_
            have ecm2 : ((-2) : Int32).toInt = (-2) := by decide
            refine y_call (z := (0, 59, 2, some 0, xM8)) (av := [.ref this, .int ((-2) : Int32)]) (rest := []) (y_cokV (n := 1) (ci := 11) X ym_counted rfl rfl rfl (x_cons (x_bw19 7 rfl rfl) (x_cons (x_bw19 9 rfl rfl) (x_cons (x_at 1 (by decide +kernel) rfl) (x_cons (x_bw0 1 rfl rfl) x_nilm)))) (x_bw19 10 rfl rfl) (by decide +kernel) ⟨Nat.le_of_ble_eq_true rfl, Nat.le_of_ble_eq_true rfl⟩) hY0 hI rfl Tel_d66 hl.1 (Nat.le_of_ble_eq_true rfl) (Nat.le_of_ble_eq_true rfl) (Nat.le_of_ble_eq_true rfl) (y_cons (y_cref hY_this rfl) (y_cons ⟨_, rfl, x_i32 _⟩ y_nil)) rfl (y_recv rfl hY_this) trivial (y_sub_ef rfl) fun v Yn o Hn L ho hr ha hIn hx_ hE hP => ?_
            replace hs_hd := y_Efld hE hY_this rfl (by decide) (by decide) hs_hd
            replace hn0 := y_Efld hE hY_hd rfl (by decide) (by decide) hn0
            replace hn1 := y_Efld hE hY_hd rfl (by decide) (by decide) hn1
            replace hn2 := y_Efld hE hY_hd rfl (by decide) (by decide) hn2
            replace hs_anightHill := y_Efld hE hY_hd rfl (by decide) (by decide) hs_anightHill
            replace hs_anightHow := y_Efld hE hY_hd rfl (by decide) (by decide) hs_anightHow
            replace hA_anightHill := hA_anightHill.kept (y_Earr hE hY_anightHill rfl (by decide))
            replace hA_anightHow := hA_anightHow.kept (y_Earr hE hY_anightHow rfl (by decide))
            replace hL := hL.E hY_hd hE (fun q u h => y_ext hx_ hI.1 h) (by decide +kernel)
            replace hF := fun b u g9 (hb : Y0 b = some u) (h42 : u ≠ 42) (hg9 : x_G[u]? = some g9) (hn : b ≠ hd) (hk9 : ∀ k, k < 16 → x_sl D 2 k hd s.heap ≠ some (.ref b)) => x_eq.trans (x_eq.E42 hE (y_mon B hI _ _ hb) hg9 h42 rfl) (hF b u g9 hb h42 hg9 hn hk9)
            replace hfld : z_fld D hd s.heap _ := fun k a b c d => ((x_eq.E42 (g := x_G[2]) hE hY_hd rfl (by decide) rfl) k a).trans (hfld k a b c d)
            replace hY_this := y_ext hx_ hI.1 hY_this
            replace hY_hd := y_ext hx_ hI.1 hY_hd
            replace hY_anightHill := y_ext hx_ hI.1 hY_anightHill
            replace hY_anightHow := y_ext hx_ hI.1 hY_anightHow
            obtain rfl := hP _ _ rfl
            clear ho hr ha hE hP hI hx_
            rename x_I _ _ _ _ _ _ _ _ _ _ => hI
            exact y_ireturn B hI rfl rfl rfl List.mem_cons_self ⟨_, rfl, ⟨_, rfl, x_i32 _⟩⟩ (x_cs.mono B.2.2.2.2.2 (y_mon B hI)) (fun t' w0' w1' w2' f' K' tt' nn' h1 h2 => by cases h1; cases h2.eqf hR0; exact ⟨_, _, rfl, h2.fin hYt0 hs0_hd hF hL hfld (y_mon B hI), fun _ => ⟨rfl, rfl⟩, fun q9 => absurd q9 hno⟩) (by exact Nat.le_of_ble_eq_true rfl) (by exact Nat.le_of_ble_eq_true rfl) Tel_d69
    · have q24_ : ¬ r21.toInt = (0 : Int32).toInt := fun q => q24 (Int32.toInt_inj.mp q)
      refine lv_iload_n hx hb Tel_d27 rfl (lv_at hl 4 rfl) ?_
      refine lv_iconst hx hb Tel_d28 (v := 0) (by decide) ?_
      refine lv_iconst hx hb Tel_d29 (v := 1) (by decide) ?_
      have ec1 : (1 : Int32).toInt = 1 := by decide
      refine y_call (z := (1, 88, 3, none, xM10)) (av := [.int w, .int (0 : Int32), .int (1 : Int32)]) (rest := []) (y_cokS (n := 3) X ym_within (x_cons (x_bw19 15 rfl rfl) (x_cons (x_bw19 1 rfl rfl) (x_cons (x_bw0 1 rfl rfl) x_nilm))) (x_bw19 2 rfl rfl) (by decide +kernel) ⟨Nat.le_of_ble_eq_true rfl, Nat.le_of_ble_eq_true rfl⟩) hY0 hI rfl Tel_d30 hl.1 (Nat.le_of_ble_eq_true rfl) (Nat.le_of_ble_eq_true rfl) (Nat.le_of_ble_eq_true rfl) (y_cons ⟨_, rfl, x_i32 _⟩ (y_cons ⟨_, rfl, x_i32 _⟩ (y_cons ⟨_, rfl, x_i32 _⟩ y_nil))) rfl (y_norecv rfl) trivial (y_sub_ef rfl) fun v Yn o Hn L ho hr ha hIn hx_ hE hP => ?_
      replace hs_hd := y_Efld hE hY_this rfl (by decide) (by decide) hs_hd
      replace hn0 := y_Efld hE hY_hd rfl (by decide) (by decide) hn0
      replace hn1 := y_Efld hE hY_hd rfl (by decide) (by decide) hn1
      replace hn2 := y_Efld hE hY_hd rfl (by decide) (by decide) hn2
      replace hs_anightHill := y_Efld hE hY_hd rfl (by decide) (by decide) hs_anightHill
      replace hs_anightHow := y_Efld hE hY_hd rfl (by decide) (by decide) hs_anightHow
      replace hA_anightHill := hA_anightHill.kept (y_Earr hE hY_anightHill rfl (by decide))
      replace hA_anightHow := hA_anightHow.kept (y_Earr hE hY_anightHow rfl (by decide))
      replace hL := hL.E hY_hd hE (fun q u h => y_ext hx_ hI.1 h) (by decide +kernel)
      replace hF := fun b u g9 (hb : Y0 b = some u) (h42 : u ≠ 42) (hg9 : x_G[u]? = some g9) (hn : b ≠ hd) (hk9 : ∀ k, k < 16 → x_sl D 2 k hd s.heap ≠ some (.ref b)) => x_eq.trans (x_eq.E42 hE (y_mon B hI _ _ hb) hg9 h42 rfl) (hF b u g9 hb h42 hg9 hn hk9)
      replace hfld : z_fld D hd s.heap _ := fun k a b c d => ((x_eq.E42 (g := x_G[2]) hE hY_hd rfl (by decide) rfl) k a).trans (hfld k a b c d)
      replace hY_this := y_ext hx_ hI.1 hY_this
      replace hY_hd := y_ext hx_ hI.1 hY_hd
      replace hY_anightHill := y_ext hx_ hI.1 hY_anightHill
      replace hY_anightHow := y_ext hx_ hI.1 hY_anightHow
      obtain ⟨r30, rfl, hin_r30, hout_r30⟩ := hP _ _ _ rfl
      clear ho hr ha hE hP hI hx_
      rename x_I _ _ _ _ _ _ _ _ _ _ => hI
      refine lv_if_eq hx hb Tel_d33 (tgt := 40) (by decide) (fun q33 => ?_) (fun q33 => ?_)
      · have q33_ : r30.toInt = (0 : Int32).toInt := by rw [q33]
        refine lv_iconst hx hb Tel_d40 (v := 0) (by decide) ?_
        refine lv_istore hx hb Tel_d41 hl (by decide) (lv' := [(5, .int (0 : Int32)), (4, .int (0 : Int32)), (0, .ref this), (1, .int x), (2, .int h), (3, .int w)]) rfl fun ls hl => ?_
        refine lv_iload_n hx hb Tel_d43 rfl (lv_at hl 3 rfl) ?_
        refine lv_iconst hx hb Tel_d44 (v := 0) (by decide) ?_
        refine lv_bipush hx hb Tel_d45 (v := 11) (by decide) ?_
        have ec11 : (11 : Int32).toInt = 11 := by decide
        refine y_call (z := (1, 88, 3, none, xM10)) (av := [.int x, .int (0 : Int32), .int (11 : Int32)]) (rest := []) (y_cokS (n := 3) X ym_within (x_cons (x_bw19 15 rfl rfl) (x_cons (x_bw19 1 rfl rfl) (x_cons (x_bw0 1 rfl rfl) x_nilm))) (x_bw19 2 rfl rfl) (by decide +kernel) ⟨Nat.le_of_ble_eq_true rfl, Nat.le_of_ble_eq_true rfl⟩) hY0 hI rfl Tel_d47 hl.1 (Nat.le_of_ble_eq_true rfl) (Nat.le_of_ble_eq_true rfl) (Nat.le_of_ble_eq_true rfl) (y_cons ⟨_, rfl, x_i32 _⟩ (y_cons ⟨_, rfl, x_i32 _⟩ (y_cons ⟨_, rfl, x_i32 _⟩ y_nil))) rfl (y_norecv rfl) trivial (y_sub_ef rfl) fun v Yn o Hn L ho hr ha hIn hx_ hE hP => ?_
        replace hs_hd := y_Efld hE hY_this rfl (by decide) (by decide) hs_hd
        replace hn0 := y_Efld hE hY_hd rfl (by decide) (by decide) hn0
        replace hn1 := y_Efld hE hY_hd rfl (by decide) (by decide) hn1
        replace hn2 := y_Efld hE hY_hd rfl (by decide) (by decide) hn2
        replace hs_anightHill := y_Efld hE hY_hd rfl (by decide) (by decide) hs_anightHill
        replace hs_anightHow := y_Efld hE hY_hd rfl (by decide) (by decide) hs_anightHow
        replace hA_anightHill := hA_anightHill.kept (y_Earr hE hY_anightHill rfl (by decide))
        replace hA_anightHow := hA_anightHow.kept (y_Earr hE hY_anightHow rfl (by decide))
        replace hL := hL.E hY_hd hE (fun q u h => y_ext hx_ hI.1 h) (by decide +kernel)
        replace hF := fun b u g9 (hb : Y0 b = some u) (h42 : u ≠ 42) (hg9 : x_G[u]? = some g9) (hn : b ≠ hd) (hk9 : ∀ k, k < 16 → x_sl D 2 k hd s.heap ≠ some (.ref b)) => x_eq.trans (x_eq.E42 hE (y_mon B hI _ _ hb) hg9 h42 rfl) (hF b u g9 hb h42 hg9 hn hk9)
        replace hfld : z_fld D hd s.heap _ := fun k a b c d => ((x_eq.E42 (g := x_G[2]) hE hY_hd rfl (by decide) rfl) k a).trans (hfld k a b c d)
        replace hY_this := y_ext hx_ hI.1 hY_this
        replace hY_hd := y_ext hx_ hI.1 hY_hd
        replace hY_anightHill := y_ext hx_ hI.1 hY_anightHill
        replace hY_anightHow := y_ext hx_ hI.1 hY_anightHow
        obtain ⟨r47, rfl, hin_r47, hout_r47⟩ := hP _ _ _ rfl
        clear ho hr ha hE hP hI hx_
        rename x_I _ _ _ _ _ _ _ _ _ _ => hI
        refine lv_if_eq hx hb Tel_d50 (tgt := 63) (by decide) (fun q50 => ?_) (fun q50 => ?_)
        · have q50_ : r47.toInt = (0 : Int32).toInt := by rw [q50]
          have hno : ¬ m_elOk f x h w := fun q9 => by obtain ⟨a1, a2⟩ := q9; first | (have h9 := hout_r47 (by assumption); omega) | (rcases a2 with a2 | a2; omega; exact hout_r21 (by assumption) a2.1) | (rcases a2 with a2 | a2; omega; have h9 := hout_r30 (by assumption); omega) | omega
          refine lv_aload_n hx hb Tel_d63 rfl (lv_at hl 2 rfl) ?_
          refine lv_bipush hx hb Tel_d64 (v := (-2)) (by decide) ?_
          have ecm2 : ((-2) : Int32).toInt = (-2) := by decide
          refine y_call (z := (0, 59, 2, some 0, xM8)) (av := [.ref this, .int ((-2) : Int32)]) (rest := []) (y_cokV (n := 1) (ci := 11) X ym_counted rfl rfl rfl (x_cons (x_bw19 7 rfl rfl) (x_cons (x_bw19 9 rfl rfl) (x_cons (x_at 1 (by decide +kernel) rfl) (x_cons (x_bw0 1 rfl rfl) x_nilm)))) (x_bw19 10 rfl rfl) (by decide +kernel) ⟨Nat.le_of_ble_eq_true rfl, Nat.le_of_ble_eq_true rfl⟩) hY0 hI rfl Tel_d66 hl.1 (Nat.le_of_ble_eq_true rfl) (Nat.le_of_ble_eq_true rfl) (Nat.le_of_ble_eq_true rfl) (y_cons (y_cref hY_this rfl) (y_cons ⟨_, rfl, x_i32 _⟩ y_nil)) rfl (y_recv rfl hY_this) trivial (y_sub_ef rfl) fun v Yn o Hn L ho hr ha hIn hx_ hE hP => ?_
          replace hs_hd := y_Efld hE hY_this rfl (by decide) (by decide) hs_hd
          replace hn0 := y_Efld hE hY_hd rfl (by decide) (by decide) hn0
          replace hn1 := y_Efld hE hY_hd rfl (by decide) (by decide) hn1
          replace hn2 := y_Efld hE hY_hd rfl (by decide) (by decide) hn2
          replace hs_anightHill := y_Efld hE hY_hd rfl (by decide) (by decide) hs_anightHill
          replace hs_anightHow := y_Efld hE hY_hd rfl (by decide) (by decide) hs_anightHow
          replace hA_anightHill := hA_anightHill.kept (y_Earr hE hY_anightHill rfl (by decide))
          replace hA_anightHow := hA_anightHow.kept (y_Earr hE hY_anightHow rfl (by decide))
          replace hL := hL.E hY_hd hE (fun q u h => y_ext hx_ hI.1 h) (by decide +kernel)
          replace hF := fun b u g9 (hb : Y0 b = some u) (h42 : u ≠ 42) (hg9 : x_G[u]? = some g9) (hn : b ≠ hd) (hk9 : ∀ k, k < 16 → x_sl D 2 k hd s.heap ≠ some (.ref b)) => x_eq.trans (x_eq.E42 hE (y_mon B hI _ _ hb) hg9 h42 rfl) (hF b u g9 hb h42 hg9 hn hk9)
          replace hfld : z_fld D hd s.heap _ := fun k a b c d => ((x_eq.E42 (g := x_G[2]) hE hY_hd rfl (by decide) rfl) k a).trans (hfld k a b c d)
          replace hY_this := y_ext hx_ hI.1 hY_this
          replace hY_hd := y_ext hx_ hI.1 hY_hd
          replace hY_anightHill := y_ext hx_ hI.1 hY_anightHill
          replace hY_anightHow := y_ext hx_ hI.1 hY_anightHow
          obtain rfl := hP _ _ rfl
          clear ho hr ha hE hP hI hx_
          rename x_I _ _ _ _ _ _ _ _ _ _ => hI
          exact y_ireturn B hI rfl rfl rfl List.mem_cons_self ⟨_, rfl, ⟨_, rfl, x_i32 _⟩⟩ (x_cs.mono B.2.2.2.2.2 (y_mon B hI)) (fun t' w0' w1' w2' f' K' tt' nn' h1 h2 => by cases h1; cases h2.eqf hR0; exact ⟨_, _, rfl, h2.fin hYt0 hs0_hd hF hL hfld (y_mon B hI), fun _ => ⟨rfl, rfl⟩, fun q9 => absurd q9 hno⟩) (by exact Nat.le_of_ble_eq_true rfl) (by exact Nat.le_of_ble_eq_true rfl) Tel_d69
        · have q50_ : ¬ r47.toInt = (0 : Int32).toInt := fun q => q50 (Int32.toInt_inj.mp q)
          refine lv_iload hx hb Tel_d53 (lv_at hl 1 rfl) ?_
          refine lv_if_ne hx hb Tel_d55 (tgt := 70) (by decide) (fun q55 => ?_) (fun q55 => ?_)
          · have q55_ : ¬ (0 : Int32).toInt = (0 : Int32).toInt := fun q => q55 (Int32.toInt_inj.mp q)
            have hw1 := hin_r47 (by assumption)
            have hok : m_elOk f x h w := ⟨by omega, by first | exact Or.inl ⟨by omega, by omega⟩ | exact Or.inr ⟨hin_r21 (by assumption), by have h9 := hin_r30 (by assumption); omega, by have h9 := hin_r30 (by assumption); omega⟩ | (exfalso; omega)⟩
            refine lv_aload_n hx hb Tel_d70 rfl (lv_at hl 2 rfl) ?_
            refine y_getf X (fl8 X.2.2.2.2.1) hI.1 hY_this rfl hs_hd Tel_d71 ?_
            refine y_getf X (fl154 X.2.2.2.2.1) hI.1 hY_hd rfl hs_anightHill Tel_d74 ?_
            refine lv_iload_n hx hb Tel_d77 rfl (lv_at hl 3 rfl) ?_
            refine lv_iload_n hx hb Tel_d78 rfl (lv_at hl 4 rfl) ?_
            have hs_old := hs_anightHill
            have hA_old := hA_anightHill
            refine y_iast X hY0 hI hY_anightHill rfl hA_anightHill (by omega) (by show _ < (12 : Int); omega) ⟨_, rfl, x_i32 _⟩ (by decide +kernel) Tel_d79 fun H locs hI h_new ho => ?_
            replace hA_anightHill := h_new
            generalize hf_f79 : y_up (fun j => f (136 + 2 * j)) x.toInt.toNat h = f79 at hA_anightHill
            replace hs_hd := y_slk hs_hd (ho _ (y_ne hY_this hY_anightHill rfl))
            replace hn0 := y_slk hn0 (ho _ (y_ne hY_hd hY_anightHill rfl))
            replace hn1 := y_slk hn1 (ho _ (y_ne hY_hd hY_anightHill rfl))
            replace hn2 := y_slk hn2 (ho _ (y_ne hY_hd hY_anightHill rfl))
            replace hs_anightHill := y_slk hs_anightHill (ho _ (y_ne hY_hd hY_anightHill rfl))
            replace hs_anightHow := y_slk hs_anightHow (ho _ (y_ne hY_hd hY_anightHill rfl))
            replace hA_anightHow := hA_anightHow.kept (ho _ (y_ne hY_anightHow hY_anightHill rfl))
            replace hL := hL.putA (c := (14, 30, 12, 136, 2)) (N := 12) hY_hd (by decide) rfl (by omega) hs_old hA_old h_new ho
            replace hF := fun b u g9 (hb : Y0 b = some u) (h42 : u ≠ 42) (hg9 : x_G[u]? = some g9) (hn : b ≠ hd) (hk9 : ∀ k, k < 16 → x_sl D 2 k hd s.heap ≠ some (.ref b)) => x_eq.trans (x_eq.of (ho b (fun e0 => hk9 14 (by decide) (by rw [e0]; exact hs0_anightHill)))) (hF b u g9 hb h42 hg9 hn hk9)
            replace hfld : z_fld D hd s.heap _ := fun k a b c d => (y_slk rfl (ho _ (y_ne hY_hd hY_anightHill rfl))).trans (hfld k a b c d)
            refine lv_aload_n hx hb Tel_d80 rfl (lv_at hl 2 rfl) ?_
            refine y_getf X (fl8 X.2.2.2.2.1) hI.1 hY_this rfl hs_hd Tel_d81 ?_
            refine y_getf X (fl155 X.2.2.2.2.1) hI.1 hY_hd rfl hs_anightHow Tel_d84 ?_
            refine lv_iload_n hx hb Tel_d87 rfl (lv_at hl 3 rfl) ?_
            refine lv_iload_n hx hb Tel_d88 rfl (lv_at hl 5 rfl) ?_
            have hs_old := hs_anightHow
            have hA_old := hA_anightHow
            refine y_iast X hY0 hI hY_anightHow rfl hA_anightHow (by omega) (by show _ < (12 : Int); omega) ⟨_, rfl, x_i32 _⟩ (by decide +kernel) Tel_d89 fun H locs hI h_new ho => ?_
            replace hA_anightHow := h_new
            generalize hf_f89 : y_up (fun j => f (137 + 2 * j)) x.toInt.toNat w = f89 at hA_anightHow
            replace hs_hd := y_slk hs_hd (ho _ (y_ne hY_this hY_anightHow rfl))
            replace hn0 := y_slk hn0 (ho _ (y_ne hY_hd hY_anightHow rfl))
            replace hn1 := y_slk hn1 (ho _ (y_ne hY_hd hY_anightHow rfl))
            replace hn2 := y_slk hn2 (ho _ (y_ne hY_hd hY_anightHow rfl))
            replace hs_anightHill := y_slk hs_anightHill (ho _ (y_ne hY_hd hY_anightHow rfl))
            replace hs_anightHow := y_slk hs_anightHow (ho _ (y_ne hY_hd hY_anightHow rfl))
            replace hA_anightHill := hA_anightHill.kept (ho _ (y_ne hY_anightHill hY_anightHow rfl))
            replace hL := hL.putA (c := (15, 31, 12, 137, 2)) (N := 12) hY_hd (by decide) rfl (by omega) hs_old hA_old h_new ho
            replace hF := fun b u g9 (hb : Y0 b = some u) (h42 : u ≠ 42) (hg9 : x_G[u]? = some g9) (hn : b ≠ hd) (hk9 : ∀ k, k < 16 → x_sl D 2 k hd s.heap ≠ some (.ref b)) => x_eq.trans (x_eq.of (ho b (fun e0 => hk9 15 (by decide) (by rw [e0]; exact hs0_anightHow)))) (hF b u g9 hb h42 hg9 hn hk9)
            replace hfld : z_fld D hd s.heap _ := fun k a b c d => (y_slk rfl (ho _ (y_ne hY_hd hY_anightHow rfl))).trans (hfld k a b c d)
            refine lv_iconst hx hb Tel_d90 (v := 1) (by decide) ?_
            exact y_ireturn B hI rfl rfl rfl List.mem_cons_self ⟨_, rfl, ⟨_, rfl, x_i32 _⟩⟩ (x_cs.mono B.2.2.2.2.2 (y_mon B hI)) (fun t' w0' w1' w2' f' K' tt' nn' h1 h2 => by cases h1; cases h2.eqf hR0; exact ⟨_, _, rfl, h2.fin hYt0 hs0_hd hF hL hfld (y_mon B hI), fun q9 => absurd hok q9, fun _ => ⟨rfl, rfl⟩⟩) (by exact Nat.le_of_ble_eq_true rfl) (by exact Nat.le_of_ble_eq_true rfl) Tel_d91
          · have q55_ : (0 : Int32).toInt = (0 : Int32).toInt := by rw [q55]
            refine lv_iload hx hb Tel_d58 (lv_at hl 0 rfl) ?_
            refine lv_if_ne hx hb Tel_d60 (tgt := 70) (by decide) (fun q60 => ?_) (fun q60 => ?_)
            · have q60_ : ¬ (0 : Int32).toInt = (0 : Int32).toInt := fun q => q60 (Int32.toInt_inj.mp q)
              have hw1 := hin_r47 (by assumption)
              have hok : m_elOk f x h w := ⟨by omega, by first | exact Or.inl ⟨by omega, by omega⟩ | exact Or.inr ⟨hin_r21 (by assumption), by have h9 := hin_r30 (by assumption); omega, by have h9 := hin_r30 (by assumption); omega⟩ | (exfalso; omega)⟩
              refine lv_aload_n hx hb Tel_d70 rfl (lv_at hl 2 rfl) ?_
              refine y_getf X (fl8 X.2.2.2.2.1) hI.1 hY_this rfl hs_hd Tel_d71 ?_
              refine y_getf X (fl154 X.2.2.2.2.1) hI.1 hY_hd rfl hs_anightHill Tel_d74 ?_
              refine lv_iload_n hx hb Tel_d77 rfl (lv_at hl 3 rfl) ?_
              refine lv_iload_n hx hb Tel_d78 rfl (lv_at hl 4 rfl) ?_
              have hs_old := hs_anightHill
              have hA_old := hA_anightHill
              refine y_iast X hY0 hI hY_anightHill rfl hA_anightHill (by omega) (by show _ < (12 : Int); omega) ⟨_, rfl, x_i32 _⟩ (by decide +kernel) Tel_d79 fun H locs hI h_new ho => ?_
              replace hA_anightHill := h_new
              generalize hf_f79 : y_up (fun j => f (136 + 2 * j)) x.toInt.toNat h = f79 at hA_anightHill
              replace hs_hd := y_slk hs_hd (ho _ (y_ne hY_this hY_anightHill rfl))
              replace hn0 := y_slk hn0 (ho _ (y_ne hY_hd hY_anightHill rfl))
              replace hn1 := y_slk hn1 (ho _ (y_ne hY_hd hY_anightHill rfl))
              replace hn2 := y_slk hn2 (ho _ (y_ne hY_hd hY_anightHill rfl))
              replace hs_anightHill := y_slk hs_anightHill (ho _ (y_ne hY_hd hY_anightHill rfl))
              replace hs_anightHow := y_slk hs_anightHow (ho _ (y_ne hY_hd hY_anightHill rfl))
              replace hA_anightHow := hA_anightHow.kept (ho _ (y_ne hY_anightHow hY_anightHill rfl))
              replace hL := hL.putA (c := (14, 30, 12, 136, 2)) (N := 12) hY_hd (by decide) rfl (by omega) hs_old hA_old h_new ho
              replace hF := fun b u g9 (hb : Y0 b = some u) (h42 : u ≠ 42) (hg9 : x_G[u]? = some g9) (hn : b ≠ hd) (hk9 : ∀ k, k < 16 → x_sl D 2 k hd s.heap ≠ some (.ref b)) => x_eq.trans (x_eq.of (ho b (fun e0 => hk9 14 (by decide) (by rw [e0]; exact hs0_anightHill)))) (hF b u g9 hb h42 hg9 hn hk9)
              replace hfld : z_fld D hd s.heap _ := fun k a b c d => (y_slk rfl (ho _ (y_ne hY_hd hY_anightHill rfl))).trans (hfld k a b c d)
              refine lv_aload_n hx hb Tel_d80 rfl (lv_at hl 2 rfl) ?_
              refine y_getf X (fl8 X.2.2.2.2.1) hI.1 hY_this rfl hs_hd Tel_d81 ?_
              refine y_getf X (fl155 X.2.2.2.2.1) hI.1 hY_hd rfl hs_anightHow Tel_d84 ?_
              refine lv_iload_n hx hb Tel_d87 rfl (lv_at hl 3 rfl) ?_
              refine lv_iload_n hx hb Tel_d88 rfl (lv_at hl 5 rfl) ?_
              have hs_old := hs_anightHow
              have hA_old := hA_anightHow
              refine y_iast X hY0 hI hY_anightHow rfl hA_anightHow (by omega) (by show _ < (12 : Int); omega) ⟨_, rfl, x_i32 _⟩ (by decide +kernel) Tel_d89 fun H locs hI h_new ho => ?_
              replace hA_anightHow := h_new
              generalize hf_f89 : y_up (fun j => f (137 + 2 * j)) x.toInt.toNat w = f89 at hA_anightHow
              replace hs_hd := y_slk hs_hd (ho _ (y_ne hY_this hY_anightHow rfl))
              replace hn0 := y_slk hn0 (ho _ (y_ne hY_hd hY_anightHow rfl))
              replace hn1 := y_slk hn1 (ho _ (y_ne hY_hd hY_anightHow rfl))
              replace hn2 := y_slk hn2 (ho _ (y_ne hY_hd hY_anightHow rfl))
              replace hs_anightHill := y_slk hs_anightHill (ho _ (y_ne hY_hd hY_anightHow rfl))
              replace hs_anightHow := y_slk hs_anightHow (ho _ (y_ne hY_hd hY_anightHow rfl))
              replace hA_anightHill := hA_anightHill.kept (ho _ (y_ne hY_anightHill hY_anightHow rfl))
              replace hL := hL.putA (c := (15, 31, 12, 137, 2)) (N := 12) hY_hd (by decide) rfl (by omega) hs_old hA_old h_new ho
              replace hF := fun b u g9 (hb : Y0 b = some u) (h42 : u ≠ 42) (hg9 : x_G[u]? = some g9) (hn : b ≠ hd) (hk9 : ∀ k, k < 16 → x_sl D 2 k hd s.heap ≠ some (.ref b)) => x_eq.trans (x_eq.of (ho b (fun e0 => hk9 15 (by decide) (by rw [e0]; exact hs0_anightHow)))) (hF b u g9 hb h42 hg9 hn hk9)
              replace hfld : z_fld D hd s.heap _ := fun k a b c d => (y_slk rfl (ho _ (y_ne hY_hd hY_anightHow rfl))).trans (hfld k a b c d)
              refine lv_iconst hx hb Tel_d90 (v := 1) (by decide) ?_
              exact y_ireturn B hI rfl rfl rfl List.mem_cons_self ⟨_, rfl, ⟨_, rfl, x_i32 _⟩⟩ (x_cs.mono B.2.2.2.2.2 (y_mon B hI)) (fun t' w0' w1' w2' f' K' tt' nn' h1 h2 => by cases h1; cases h2.eqf hR0; exact ⟨_, _, rfl, h2.fin hYt0 hs0_hd hF hL hfld (y_mon B hI), fun q9 => absurd hok q9, fun _ => ⟨rfl, rfl⟩⟩) (by exact Nat.le_of_ble_eq_true rfl) (by exact Nat.le_of_ble_eq_true rfl) Tel_d91
            · have q60_ : (0 : Int32).toInt = (0 : Int32).toInt := by rw [q60]
              have hno : ¬ m_elOk f x h w := fun q9 => by obtain ⟨a1, a2⟩ := q9; first | (have h9 := hout_r47 (by assumption); omega) | (rcases a2 with a2 | a2; omega; exact hout_r21 (by assumption) a2.1) | (rcases a2 with a2 | a2; omega; have h9 := hout_r30 (by assumption); omega) | omega
              refine lv_aload_n hx hb Tel_d63 rfl (lv_at hl 2 rfl) ?_
              refine lv_bipush hx hb Tel_d64 (v := (-2)) (by decide) ?_
              have ecm2 : ((-2) : Int32).toInt = (-2) := by decide
              refine y_call (z := (0, 59, 2, some 0, xM8)) (av := [.ref this, .int ((-2) : Int32)]) (rest := []) (y_cokV (n := 1) (ci := 11) X ym_counted rfl rfl rfl (x_cons (x_bw19 7 rfl rfl) (x_cons (x_bw19 9 rfl rfl) (x_cons (x_at 1 (by decide +kernel) rfl) (x_cons (x_bw0 1 rfl rfl) x_nilm)))) (x_bw19 10 rfl rfl) (by decide +kernel) ⟨Nat.le_of_ble_eq_true rfl, Nat.le_of_ble_eq_true rfl⟩) hY0 hI rfl Tel_d66 hl.1 (Nat.le_of_ble_eq_true rfl) (Nat.le_of_ble_eq_true rfl) (Nat.le_of_ble_eq_true rfl) (y_cons (y_cref hY_this rfl) (y_cons ⟨_, rfl, x_i32 _⟩ y_nil)) rfl (y_recv rfl hY_this) trivial (y_sub_ef rfl) fun v Yn o Hn L ho hr ha hIn hx_ hE hP => ?_
              replace hs_hd := y_Efld hE hY_this rfl (by decide) (by decide) hs_hd
              replace hn0 := y_Efld hE hY_hd rfl (by decide) (by decide) hn0
              replace hn1 := y_Efld hE hY_hd rfl (by decide) (by decide) hn1
              replace hn2 := y_Efld hE hY_hd rfl (by decide) (by decide) hn2
              replace hs_anightHill := y_Efld hE hY_hd rfl (by decide) (by decide) hs_anightHill
              replace hs_anightHow := y_Efld hE hY_hd rfl (by decide) (by decide) hs_anightHow
              replace hA_anightHill := hA_anightHill.kept (y_Earr hE hY_anightHill rfl (by decide))
              replace hA_anightHow := hA_anightHow.kept (y_Earr hE hY_anightHow rfl (by decide))
              replace hL := hL.E hY_hd hE (fun q u h => y_ext hx_ hI.1 h) (by decide +kernel)
              replace hF := fun b u g9 (hb : Y0 b = some u) (h42 : u ≠ 42) (hg9 : x_G[u]? = some g9) (hn : b ≠ hd) (hk9 : ∀ k, k < 16 → x_sl D 2 k hd s.heap ≠ some (.ref b)) => x_eq.trans (x_eq.E42 hE (y_mon B hI _ _ hb) hg9 h42 rfl) (hF b u g9 hb h42 hg9 hn hk9)
              replace hfld : z_fld D hd s.heap _ := fun k a b c d => ((x_eq.E42 (g := x_G[2]) hE hY_hd rfl (by decide) rfl) k a).trans (hfld k a b c d)
              replace hY_this := y_ext hx_ hI.1 hY_this
              replace hY_hd := y_ext hx_ hI.1 hY_hd
              replace hY_anightHill := y_ext hx_ hI.1 hY_anightHill
              replace hY_anightHow := y_ext hx_ hI.1 hY_anightHow
              obtain rfl := hP _ _ rfl
              clear ho hr ha hE hP hI hx_
              rename x_I _ _ _ _ _ _ _ _ _ _ => hI
              exact y_ireturn B hI rfl rfl rfl List.mem_cons_self ⟨_, rfl, ⟨_, rfl, x_i32 _⟩⟩ (x_cs.mono B.2.2.2.2.2 (y_mon B hI)) (fun t' w0' w1' w2' f' K' tt' nn' h1 h2 => by cases h1; cases h2.eqf hR0; exact ⟨_, _, rfl, h2.fin hYt0 hs0_hd hF hL hfld (y_mon B hI), fun _ => ⟨rfl, rfl⟩, fun q9 => absurd q9 hno⟩) (by exact Nat.le_of_ble_eq_true rfl) (by exact Nat.le_of_ble_eq_true rfl) Tel_d69
      · have q33_ : ¬ r30.toInt = (0 : Int32).toInt := fun q => q33 (Int32.toInt_inj.mp q)
        refine lv_iconst hx hb Tel_d36 (v := 1) (by decide) ?_
        refine lv_goto hx hb Tel_d37 (tgt := 41) (by decide) ?_
        refine lv_istore hx hb Tel_d41 hl (by decide) (lv' := [(5, .int (1 : Int32)), (4, .int (0 : Int32)), (0, .ref this), (1, .int x), (2, .int h), (3, .int w)]) rfl fun ls hl => ?_
        refine lv_iload_n hx hb Tel_d43 rfl (lv_at hl 3 rfl) ?_
        refine lv_iconst hx hb Tel_d44 (v := 0) (by decide) ?_
        refine lv_bipush hx hb Tel_d45 (v := 11) (by decide) ?_
        have ec11 : (11 : Int32).toInt = 11 := by decide
        refine y_call (z := (1, 88, 3, none, xM10)) (av := [.int x, .int (0 : Int32), .int (11 : Int32)]) (rest := []) (y_cokS (n := 3) X ym_within (x_cons (x_bw19 15 rfl rfl) (x_cons (x_bw19 1 rfl rfl) (x_cons (x_bw0 1 rfl rfl) x_nilm))) (x_bw19 2 rfl rfl) (by decide +kernel) ⟨Nat.le_of_ble_eq_true rfl, Nat.le_of_ble_eq_true rfl⟩) hY0 hI rfl Tel_d47 hl.1 (Nat.le_of_ble_eq_true rfl) (Nat.le_of_ble_eq_true rfl) (Nat.le_of_ble_eq_true rfl) (y_cons ⟨_, rfl, x_i32 _⟩ (y_cons ⟨_, rfl, x_i32 _⟩ (y_cons ⟨_, rfl, x_i32 _⟩ y_nil))) rfl (y_norecv rfl) trivial (y_sub_ef rfl) fun v Yn o Hn L ho hr ha hIn hx_ hE hP => ?_
        replace hs_hd := y_Efld hE hY_this rfl (by decide) (by decide) hs_hd
        replace hn0 := y_Efld hE hY_hd rfl (by decide) (by decide) hn0
        replace hn1 := y_Efld hE hY_hd rfl (by decide) (by decide) hn1
        replace hn2 := y_Efld hE hY_hd rfl (by decide) (by decide) hn2
        replace hs_anightHill := y_Efld hE hY_hd rfl (by decide) (by decide) hs_anightHill
        replace hs_anightHow := y_Efld hE hY_hd rfl (by decide) (by decide) hs_anightHow
        replace hA_anightHill := hA_anightHill.kept (y_Earr hE hY_anightHill rfl (by decide))
        replace hA_anightHow := hA_anightHow.kept (y_Earr hE hY_anightHow rfl (by decide))
        replace hL := hL.E hY_hd hE (fun q u h => y_ext hx_ hI.1 h) (by decide +kernel)
        replace hF := fun b u g9 (hb : Y0 b = some u) (h42 : u ≠ 42) (hg9 : x_G[u]? = some g9) (hn : b ≠ hd) (hk9 : ∀ k, k < 16 → x_sl D 2 k hd s.heap ≠ some (.ref b)) => x_eq.trans (x_eq.E42 hE (y_mon B hI _ _ hb) hg9 h42 rfl) (hF b u g9 hb h42 hg9 hn hk9)
        replace hfld : z_fld D hd s.heap _ := fun k a b c d => ((x_eq.E42 (g := x_G[2]) hE hY_hd rfl (by decide) rfl) k a).trans (hfld k a b c d)
        replace hY_this := y_ext hx_ hI.1 hY_this
        replace hY_hd := y_ext hx_ hI.1 hY_hd
        replace hY_anightHill := y_ext hx_ hI.1 hY_anightHill
        replace hY_anightHow := y_ext hx_ hI.1 hY_anightHow
        obtain ⟨r47, rfl, hin_r47, hout_r47⟩ := hP _ _ _ rfl
        clear ho hr ha hE hP hI hx_
        rename x_I _ _ _ _ _ _ _ _ _ _ => hI
        refine lv_if_eq hx hb Tel_d50 (tgt := 63) (by decide) (fun q50 => ?_) (fun q50 => ?_)
        · have q50_ : r47.toInt = (0 : Int32).toInt := by rw [q50]
          have hno : ¬ m_elOk f x h w := fun q9 => by obtain ⟨a1, a2⟩ := q9; first | (have h9 := hout_r47 (by assumption); omega) | (rcases a2 with a2 | a2; omega; exact hout_r21 (by assumption) a2.1) | (rcases a2 with a2 | a2; omega; have h9 := hout_r30 (by assumption); omega) | omega
          refine lv_aload_n hx hb Tel_d63 rfl (lv_at hl 2 rfl) ?_
          refine lv_bipush hx hb Tel_d64 (v := (-2)) (by decide) ?_
          have ecm2 : ((-2) : Int32).toInt = (-2) := by decide
          refine y_call (z := (0, 59, 2, some 0, xM8)) (av := [.ref this, .int ((-2) : Int32)]) (rest := []) (y_cokV (n := 1) (ci := 11) X ym_counted rfl rfl rfl (x_cons (x_bw19 7 rfl rfl) (x_cons (x_bw19 9 rfl rfl) (x_cons (x_at 1 (by decide +kernel) rfl) (x_cons (x_bw0 1 rfl rfl) x_nilm)))) (x_bw19 10 rfl rfl) (by decide +kernel) ⟨Nat.le_of_ble_eq_true rfl, Nat.le_of_ble_eq_true rfl⟩) hY0 hI rfl Tel_d66 hl.1 (Nat.le_of_ble_eq_true rfl) (Nat.le_of_ble_eq_true rfl) (Nat.le_of_ble_eq_true rfl) (y_cons (y_cref hY_this rfl) (y_cons ⟨_, rfl, x_i32 _⟩ y_nil)) rfl (y_recv rfl hY_this) trivial (y_sub_ef rfl) fun v Yn o Hn L ho hr ha hIn hx_ hE hP => ?_
          replace hs_hd := y_Efld hE hY_this rfl (by decide) (by decide) hs_hd
          replace hn0 := y_Efld hE hY_hd rfl (by decide) (by decide) hn0
          replace hn1 := y_Efld hE hY_hd rfl (by decide) (by decide) hn1
          replace hn2 := y_Efld hE hY_hd rfl (by decide) (by decide) hn2
          replace hs_anightHill := y_Efld hE hY_hd rfl (by decide) (by decide) hs_anightHill
          replace hs_anightHow := y_Efld hE hY_hd rfl (by decide) (by decide) hs_anightHow
          replace hA_anightHill := hA_anightHill.kept (y_Earr hE hY_anightHill rfl (by decide))
          replace hA_anightHow := hA_anightHow.kept (y_Earr hE hY_anightHow rfl (by decide))
          replace hL := hL.E hY_hd hE (fun q u h => y_ext hx_ hI.1 h) (by decide +kernel)
          replace hF := fun b u g9 (hb : Y0 b = some u) (h42 : u ≠ 42) (hg9 : x_G[u]? = some g9) (hn : b ≠ hd) (hk9 : ∀ k, k < 16 → x_sl D 2 k hd s.heap ≠ some (.ref b)) => x_eq.trans (x_eq.E42 hE (y_mon B hI _ _ hb) hg9 h42 rfl) (hF b u g9 hb h42 hg9 hn hk9)
          replace hfld : z_fld D hd s.heap _ := fun k a b c d => ((x_eq.E42 (g := x_G[2]) hE hY_hd rfl (by decide) rfl) k a).trans (hfld k a b c d)
          replace hY_this := y_ext hx_ hI.1 hY_this
          replace hY_hd := y_ext hx_ hI.1 hY_hd
          replace hY_anightHill := y_ext hx_ hI.1 hY_anightHill
          replace hY_anightHow := y_ext hx_ hI.1 hY_anightHow
          obtain rfl := hP _ _ rfl
          clear ho hr ha hE hP hI hx_
          rename x_I _ _ _ _ _ _ _ _ _ _ => hI
          exact y_ireturn B hI rfl rfl rfl List.mem_cons_self ⟨_, rfl, ⟨_, rfl, x_i32 _⟩⟩ (x_cs.mono B.2.2.2.2.2 (y_mon B hI)) (fun t' w0' w1' w2' f' K' tt' nn' h1 h2 => by cases h1; cases h2.eqf hR0; exact ⟨_, _, rfl, h2.fin hYt0 hs0_hd hF hL hfld (y_mon B hI), fun _ => ⟨rfl, rfl⟩, fun q9 => absurd q9 hno⟩) (by exact Nat.le_of_ble_eq_true rfl) (by exact Nat.le_of_ble_eq_true rfl) Tel_d69
        · have q50_ : ¬ r47.toInt = (0 : Int32).toInt := fun q => q50 (Int32.toInt_inj.mp q)
          refine lv_iload hx hb Tel_d53 (lv_at hl 1 rfl) ?_
          refine lv_if_ne hx hb Tel_d55 (tgt := 70) (by decide) (fun q55 => ?_) (fun q55 => ?_)
          · have q55_ : ¬ (0 : Int32).toInt = (0 : Int32).toInt := fun q => q55 (Int32.toInt_inj.mp q)
            have hw1 := hin_r47 (by assumption)
            have hok : m_elOk f x h w := ⟨by omega, by first | exact Or.inl ⟨by omega, by omega⟩ | exact Or.inr ⟨hin_r21 (by assumption), by have h9 := hin_r30 (by assumption); omega, by have h9 := hin_r30 (by assumption); omega⟩ | (exfalso; omega)⟩
            refine lv_aload_n hx hb Tel_d70 rfl (lv_at hl 2 rfl) ?_
            refine y_getf X (fl8 X.2.2.2.2.1) hI.1 hY_this rfl hs_hd Tel_d71 ?_
            refine y_getf X (fl154 X.2.2.2.2.1) hI.1 hY_hd rfl hs_anightHill Tel_d74 ?_
            refine lv_iload_n hx hb Tel_d77 rfl (lv_at hl 3 rfl) ?_
            refine lv_iload_n hx hb Tel_d78 rfl (lv_at hl 4 rfl) ?_
            have hs_old := hs_anightHill
            have hA_old := hA_anightHill
            refine y_iast X hY0 hI hY_anightHill rfl hA_anightHill (by omega) (by show _ < (12 : Int); omega) ⟨_, rfl, x_i32 _⟩ (by decide +kernel) Tel_d79 fun H locs hI h_new ho => ?_
            replace hA_anightHill := h_new
            generalize hf_f79 : y_up (fun j => f (136 + 2 * j)) x.toInt.toNat h = f79 at hA_anightHill
            replace hs_hd := y_slk hs_hd (ho _ (y_ne hY_this hY_anightHill rfl))
            replace hn0 := y_slk hn0 (ho _ (y_ne hY_hd hY_anightHill rfl))
            replace hn1 := y_slk hn1 (ho _ (y_ne hY_hd hY_anightHill rfl))
            replace hn2 := y_slk hn2 (ho _ (y_ne hY_hd hY_anightHill rfl))
            replace hs_anightHill := y_slk hs_anightHill (ho _ (y_ne hY_hd hY_anightHill rfl))
            replace hs_anightHow := y_slk hs_anightHow (ho _ (y_ne hY_hd hY_anightHill rfl))
            replace hA_anightHow := hA_anightHow.kept (ho _ (y_ne hY_anightHow hY_anightHill rfl))
            replace hL := hL.putA (c := (14, 30, 12, 136, 2)) (N := 12) hY_hd (by decide) rfl (by omega) hs_old hA_old h_new ho
            replace hF := fun b u g9 (hb : Y0 b = some u) (h42 : u ≠ 42) (hg9 : x_G[u]? = some g9) (hn : b ≠ hd) (hk9 : ∀ k, k < 16 → x_sl D 2 k hd s.heap ≠ some (.ref b)) => x_eq.trans (x_eq.of (ho b (fun e0 => hk9 14 (by decide) (by rw [e0]; exact hs0_anightHill)))) (hF b u g9 hb h42 hg9 hn hk9)
            replace hfld : z_fld D hd s.heap _ := fun k a b c d => (y_slk rfl (ho _ (y_ne hY_hd hY_anightHill rfl))).trans (hfld k a b c d)
            refine lv_aload_n hx hb Tel_d80 rfl (lv_at hl 2 rfl) ?_
            refine y_getf X (fl8 X.2.2.2.2.1) hI.1 hY_this rfl hs_hd Tel_d81 ?_
            refine y_getf X (fl155 X.2.2.2.2.1) hI.1 hY_hd rfl hs_anightHow Tel_d84 ?_
            refine lv_iload_n hx hb Tel_d87 rfl (lv_at hl 3 rfl) ?_
            refine lv_iload_n hx hb Tel_d88 rfl (lv_at hl 5 rfl) ?_
            have hs_old := hs_anightHow
            have hA_old := hA_anightHow
            refine y_iast X hY0 hI hY_anightHow rfl hA_anightHow (by omega) (by show _ < (12 : Int); omega) ⟨_, rfl, x_i32 _⟩ (by decide +kernel) Tel_d89 fun H locs hI h_new ho => ?_
            replace hA_anightHow := h_new
            generalize hf_f89 : y_up (fun j => f (137 + 2 * j)) x.toInt.toNat w = f89 at hA_anightHow
            replace hs_hd := y_slk hs_hd (ho _ (y_ne hY_this hY_anightHow rfl))
            replace hn0 := y_slk hn0 (ho _ (y_ne hY_hd hY_anightHow rfl))
            replace hn1 := y_slk hn1 (ho _ (y_ne hY_hd hY_anightHow rfl))
            replace hn2 := y_slk hn2 (ho _ (y_ne hY_hd hY_anightHow rfl))
            replace hs_anightHill := y_slk hs_anightHill (ho _ (y_ne hY_hd hY_anightHow rfl))
            replace hs_anightHow := y_slk hs_anightHow (ho _ (y_ne hY_hd hY_anightHow rfl))
            replace hA_anightHill := hA_anightHill.kept (ho _ (y_ne hY_anightHill hY_anightHow rfl))
            replace hL := hL.putA (c := (15, 31, 12, 137, 2)) (N := 12) hY_hd (by decide) rfl (by omega) hs_old hA_old h_new ho
            replace hF := fun b u g9 (hb : Y0 b = some u) (h42 : u ≠ 42) (hg9 : x_G[u]? = some g9) (hn : b ≠ hd) (hk9 : ∀ k, k < 16 → x_sl D 2 k hd s.heap ≠ some (.ref b)) => x_eq.trans (x_eq.of (ho b (fun e0 => hk9 15 (by decide) (by rw [e0]; exact hs0_anightHow)))) (hF b u g9 hb h42 hg9 hn hk9)
            replace hfld : z_fld D hd s.heap _ := fun k a b c d => (y_slk rfl (ho _ (y_ne hY_hd hY_anightHow rfl))).trans (hfld k a b c d)
            refine lv_iconst hx hb Tel_d90 (v := 1) (by decide) ?_
            exact y_ireturn B hI rfl rfl rfl List.mem_cons_self ⟨_, rfl, ⟨_, rfl, x_i32 _⟩⟩ (x_cs.mono B.2.2.2.2.2 (y_mon B hI)) (fun t' w0' w1' w2' f' K' tt' nn' h1 h2 => by cases h1; cases h2.eqf hR0; exact ⟨_, _, rfl, h2.fin hYt0 hs0_hd hF hL hfld (y_mon B hI), fun q9 => absurd hok q9, fun _ => ⟨rfl, rfl⟩⟩) (by exact Nat.le_of_ble_eq_true rfl) (by exact Nat.le_of_ble_eq_true rfl) Tel_d91
          · have q55_ : (0 : Int32).toInt = (0 : Int32).toInt := by rw [q55]
            refine lv_iload hx hb Tel_d58 (lv_at hl 0 rfl) ?_
            refine lv_if_ne hx hb Tel_d60 (tgt := 70) (by decide) (fun q60 => ?_) (fun q60 => ?_)
            · have q60_ : ¬ (1 : Int32).toInt = (0 : Int32).toInt := fun q => q60 (Int32.toInt_inj.mp q)
              have hw1 := hin_r47 (by assumption)
              have hok : m_elOk f x h w := ⟨by omega, by first | exact Or.inl ⟨by omega, by omega⟩ | exact Or.inr ⟨hin_r21 (by assumption), by have h9 := hin_r30 (by assumption); omega, by have h9 := hin_r30 (by assumption); omega⟩ | (exfalso; omega)⟩
              refine lv_aload_n hx hb Tel_d70 rfl (lv_at hl 2 rfl) ?_
              refine y_getf X (fl8 X.2.2.2.2.1) hI.1 hY_this rfl hs_hd Tel_d71 ?_
              refine y_getf X (fl154 X.2.2.2.2.1) hI.1 hY_hd rfl hs_anightHill Tel_d74 ?_
              refine lv_iload_n hx hb Tel_d77 rfl (lv_at hl 3 rfl) ?_
              refine lv_iload_n hx hb Tel_d78 rfl (lv_at hl 4 rfl) ?_
              have hs_old := hs_anightHill
              have hA_old := hA_anightHill
              refine y_iast X hY0 hI hY_anightHill rfl hA_anightHill (by omega) (by show _ < (12 : Int); omega) ⟨_, rfl, x_i32 _⟩ (by decide +kernel) Tel_d79 fun H locs hI h_new ho => ?_
              replace hA_anightHill := h_new
              generalize hf_f79 : y_up (fun j => f (136 + 2 * j)) x.toInt.toNat h = f79 at hA_anightHill
              replace hs_hd := y_slk hs_hd (ho _ (y_ne hY_this hY_anightHill rfl))
              replace hn0 := y_slk hn0 (ho _ (y_ne hY_hd hY_anightHill rfl))
              replace hn1 := y_slk hn1 (ho _ (y_ne hY_hd hY_anightHill rfl))
              replace hn2 := y_slk hn2 (ho _ (y_ne hY_hd hY_anightHill rfl))
              replace hs_anightHill := y_slk hs_anightHill (ho _ (y_ne hY_hd hY_anightHill rfl))
              replace hs_anightHow := y_slk hs_anightHow (ho _ (y_ne hY_hd hY_anightHill rfl))
              replace hA_anightHow := hA_anightHow.kept (ho _ (y_ne hY_anightHow hY_anightHill rfl))
              replace hL := hL.putA (c := (14, 30, 12, 136, 2)) (N := 12) hY_hd (by decide) rfl (by omega) hs_old hA_old h_new ho
              replace hF := fun b u g9 (hb : Y0 b = some u) (h42 : u ≠ 42) (hg9 : x_G[u]? = some g9) (hn : b ≠ hd) (hk9 : ∀ k, k < 16 → x_sl D 2 k hd s.heap ≠ some (.ref b)) => x_eq.trans (x_eq.of (ho b (fun e0 => hk9 14 (by decide) (by rw [e0]; exact hs0_anightHill)))) (hF b u g9 hb h42 hg9 hn hk9)
              replace hfld : z_fld D hd s.heap _ := fun k a b c d => (y_slk rfl (ho _ (y_ne hY_hd hY_anightHill rfl))).trans (hfld k a b c d)
              refine lv_aload_n hx hb Tel_d80 rfl (lv_at hl 2 rfl) ?_
              refine y_getf X (fl8 X.2.2.2.2.1) hI.1 hY_this rfl hs_hd Tel_d81 ?_
              refine y_getf X (fl155 X.2.2.2.2.1) hI.1 hY_hd rfl hs_anightHow Tel_d84 ?_
              refine lv_iload_n hx hb Tel_d87 rfl (lv_at hl 3 rfl) ?_
              refine lv_iload_n hx hb Tel_d88 rfl (lv_at hl 5 rfl) ?_
              have hs_old := hs_anightHow
              have hA_old := hA_anightHow
              refine y_iast X hY0 hI hY_anightHow rfl hA_anightHow (by omega) (by show _ < (12 : Int); omega) ⟨_, rfl, x_i32 _⟩ (by decide +kernel) Tel_d89 fun H locs hI h_new ho => ?_
              replace hA_anightHow := h_new
              generalize hf_f89 : y_up (fun j => f (137 + 2 * j)) x.toInt.toNat w = f89 at hA_anightHow
              replace hs_hd := y_slk hs_hd (ho _ (y_ne hY_this hY_anightHow rfl))
              replace hn0 := y_slk hn0 (ho _ (y_ne hY_hd hY_anightHow rfl))
              replace hn1 := y_slk hn1 (ho _ (y_ne hY_hd hY_anightHow rfl))
              replace hn2 := y_slk hn2 (ho _ (y_ne hY_hd hY_anightHow rfl))
              replace hs_anightHill := y_slk hs_anightHill (ho _ (y_ne hY_hd hY_anightHow rfl))
              replace hs_anightHow := y_slk hs_anightHow (ho _ (y_ne hY_hd hY_anightHow rfl))
              replace hA_anightHill := hA_anightHill.kept (ho _ (y_ne hY_anightHill hY_anightHow rfl))
              replace hL := hL.putA (c := (15, 31, 12, 137, 2)) (N := 12) hY_hd (by decide) rfl (by omega) hs_old hA_old h_new ho
              replace hF := fun b u g9 (hb : Y0 b = some u) (h42 : u ≠ 42) (hg9 : x_G[u]? = some g9) (hn : b ≠ hd) (hk9 : ∀ k, k < 16 → x_sl D 2 k hd s.heap ≠ some (.ref b)) => x_eq.trans (x_eq.of (ho b (fun e0 => hk9 15 (by decide) (by rw [e0]; exact hs0_anightHow)))) (hF b u g9 hb h42 hg9 hn hk9)
              replace hfld : z_fld D hd s.heap _ := fun k a b c d => (y_slk rfl (ho _ (y_ne hY_hd hY_anightHow rfl))).trans (hfld k a b c d)
              refine lv_iconst hx hb Tel_d90 (v := 1) (by decide) ?_
              exact y_ireturn B hI rfl rfl rfl List.mem_cons_self ⟨_, rfl, ⟨_, rfl, x_i32 _⟩⟩ (x_cs.mono B.2.2.2.2.2 (y_mon B hI)) (fun t' w0' w1' w2' f' K' tt' nn' h1 h2 => by cases h1; cases h2.eqf hR0; exact ⟨_, _, rfl, h2.fin hYt0 hs0_hd hF hL hfld (y_mon B hI), fun q9 => absurd hok q9, fun _ => ⟨rfl, rfl⟩⟩) (by exact Nat.le_of_ble_eq_true rfl) (by exact Nat.le_of_ble_eq_true rfl) Tel_d91
            · have q60_ : (1 : Int32).toInt = (0 : Int32).toInt := by rw [q60]
              have hno : ¬ m_elOk f x h w := fun q9 => by obtain ⟨a1, a2⟩ := q9; first | (have h9 := hout_r47 (by assumption); omega) | (rcases a2 with a2 | a2; omega; exact hout_r21 (by assumption) a2.1) | (rcases a2 with a2 | a2; omega; have h9 := hout_r30 (by assumption); omega) | omega
              refine lv_aload_n hx hb Tel_d63 rfl (lv_at hl 2 rfl) ?_
              refine lv_bipush hx hb Tel_d64 (v := (-2)) (by decide) ?_
              have ecm2 : ((-2) : Int32).toInt = (-2) := by decide
              refine y_call (z := (0, 59, 2, some 0, xM8)) (av := [.ref this, .int ((-2) : Int32)]) (rest := []) (y_cokV (n := 1) (ci := 11) X ym_counted rfl rfl rfl (x_cons (x_bw19 7 rfl rfl) (x_cons (x_bw19 9 rfl rfl) (x_cons (x_at 1 (by decide +kernel) rfl) (x_cons (x_bw0 1 rfl rfl) x_nilm)))) (x_bw19 10 rfl rfl) (by decide +kernel) ⟨Nat.le_of_ble_eq_true rfl, Nat.le_of_ble_eq_true rfl⟩) hY0 hI rfl Tel_d66 hl.1 (Nat.le_of_ble_eq_true rfl) (Nat.le_of_ble_eq_true rfl) (Nat.le_of_ble_eq_true rfl) (y_cons (y_cref hY_this rfl) (y_cons ⟨_, rfl, x_i32 _⟩ y_nil)) rfl (y_recv rfl hY_this) trivial (y_sub_ef rfl) fun v Yn o Hn L ho hr ha hIn hx_ hE hP => ?_
              replace hs_hd := y_Efld hE hY_this rfl (by decide) (by decide) hs_hd
              replace hn0 := y_Efld hE hY_hd rfl (by decide) (by decide) hn0
              replace hn1 := y_Efld hE hY_hd rfl (by decide) (by decide) hn1
              replace hn2 := y_Efld hE hY_hd rfl (by decide) (by decide) hn2
              replace hs_anightHill := y_Efld hE hY_hd rfl (by decide) (by decide) hs_anightHill
              replace hs_anightHow := y_Efld hE hY_hd rfl (by decide) (by decide) hs_anightHow
              replace hA_anightHill := hA_anightHill.kept (y_Earr hE hY_anightHill rfl (by decide))
              replace hA_anightHow := hA_anightHow.kept (y_Earr hE hY_anightHow rfl (by decide))
              replace hL := hL.E hY_hd hE (fun q u h => y_ext hx_ hI.1 h) (by decide +kernel)
              replace hF := fun b u g9 (hb : Y0 b = some u) (h42 : u ≠ 42) (hg9 : x_G[u]? = some g9) (hn : b ≠ hd) (hk9 : ∀ k, k < 16 → x_sl D 2 k hd s.heap ≠ some (.ref b)) => x_eq.trans (x_eq.E42 hE (y_mon B hI _ _ hb) hg9 h42 rfl) (hF b u g9 hb h42 hg9 hn hk9)
              replace hfld : z_fld D hd s.heap _ := fun k a b c d => ((x_eq.E42 (g := x_G[2]) hE hY_hd rfl (by decide) rfl) k a).trans (hfld k a b c d)
              replace hY_this := y_ext hx_ hI.1 hY_this
              replace hY_hd := y_ext hx_ hI.1 hY_hd
              replace hY_anightHill := y_ext hx_ hI.1 hY_anightHill
              replace hY_anightHow := y_ext hx_ hI.1 hY_anightHow
              obtain rfl := hP _ _ rfl
              clear ho hr ha hE hP hI hx_
              rename x_I _ _ _ _ _ _ _ _ _ _ => hI
              exact y_ireturn B hI rfl rfl rfl List.mem_cons_self ⟨_, rfl, ⟨_, rfl, x_i32 _⟩⟩ (x_cs.mono B.2.2.2.2.2 (y_mon B hI)) (fun t' w0' w1' w2' f' K' tt' nn' h1 h2 => by cases h1; cases h2.eqf hR0; exact ⟨_, _, rfl, h2.fin hYt0 hs0_hd hF hL hfld (y_mon B hI), fun _ => ⟨rfl, rfl⟩, fun q9 => absurd q9 hno⟩) (by exact Nat.le_of_ble_eq_true rfl) (by exact Nat.le_of_ble_eq_true rfl) Tel_d69
  · have q2_ : h.toInt = ((-1) : Int32).toInt := by rw [q2]
    refine lv_iload_n hx hb Tel_d5 rfl (lv_at hl 3 rfl) ?_
    have ec0 : (0 : Int32).toInt = 0 := by decide
    refine lv_if_ne hx hb Tel_d6 (tgt := 13) (by decide) (fun q6 => ?_) (fun q6 => ?_)
    · have q6_ : ¬ w.toInt = (0 : Int32).toInt := fun q => q6 (Int32.toInt_inj.mp q)
      refine lv_iconst hx hb Tel_d13 (v := 0) (by decide) ?_
      refine lv_istore hx hb Tel_d14 hl (by decide) (lv' := [(4, .int (0 : Int32)), (0, .ref this), (1, .int x), (2, .int h), (3, .int w)]) rfl fun ls hl => ?_
      refine lv_aload_n hx hb Tel_d16 rfl (lv_at hl 1 rfl) ?_
      refine y_getf X (fl8 X.2.2.2.2.1) hI.1 hY_this rfl hs_hd Tel_d17 ?_
      refine lv_iload_n hx hb Tel_d20 rfl (lv_at hl 3 rfl) ?_
      refine y_call (z := (0, 101, 2, some 2, xM40)) (av := [.ref hd, .int h]) (rest := []) (y_cokV (n := 1) (ci := 2) X ym_hasHill rfl rfl rfl (x_cons (x_bw29 8 rfl rfl) (x_cons (x_bw29 9 rfl rfl) (x_cons (x_bw29 10 rfl rfl) (x_cons (x_bw0 2 rfl rfl) x_nilm)))) (x_bw29 11 rfl rfl) (by decide +kernel) ⟨Nat.le_of_ble_eq_true rfl, Nat.le_of_ble_eq_true rfl⟩) hY0 hI rfl Tel_d21 hl.1 (Nat.le_of_ble_eq_true rfl) (Nat.le_of_ble_eq_true rfl) (Nat.le_of_ble_eq_true rfl) (y_cons (y_cref hY_hd rfl) (y_cons ⟨_, rfl, x_i32 _⟩ y_nil)) rfl (y_recv rfl hY_hd) trivial (y_sub_ef rfl) fun v Yn o Hn L ho hr ha hIn hx_ hE hP => ?_
      have hPh := hP _ _ _ rfl hn0
      replace hs_hd := y_Efld hE hY_this rfl (by decide) (by decide) hs_hd
      replace hn0 := y_Efld hE hY_hd rfl (by decide) (by decide) hn0
      replace hn1 := y_Efld hE hY_hd rfl (by decide) (by decide) hn1
      replace hn2 := y_Efld hE hY_hd rfl (by decide) (by decide) hn2
      replace hs_anightHill := y_Efld hE hY_hd rfl (by decide) (by decide) hs_anightHill
      replace hs_anightHow := y_Efld hE hY_hd rfl (by decide) (by decide) hs_anightHow
      replace hA_anightHill := hA_anightHill.kept (y_Earr hE hY_anightHill rfl (by decide))
      replace hA_anightHow := hA_anightHow.kept (y_Earr hE hY_anightHow rfl (by decide))
      replace hL := hL.E hY_hd hE (fun q u h => y_ext hx_ hI.1 h) (by decide +kernel)
      replace hF := fun b u g9 (hb : Y0 b = some u) (h42 : u ≠ 42) (hg9 : x_G[u]? = some g9) (hn : b ≠ hd) (hk9 : ∀ k, k < 16 → x_sl D 2 k hd s.heap ≠ some (.ref b)) => x_eq.trans (x_eq.E42 hE (y_mon B hI _ _ hb) hg9 h42 rfl) (hF b u g9 hb h42 hg9 hn hk9)
      replace hfld : z_fld D hd s.heap _ := fun k a b c d => ((x_eq.E42 (g := x_G[2]) hE hY_hd rfl (by decide) rfl) k a).trans (hfld k a b c d)
      replace hY_this := y_ext hx_ hI.1 hY_this
      replace hY_hd := y_ext hx_ hI.1 hY_hd
      replace hY_anightHill := y_ext hx_ hI.1 hY_anightHill
      replace hY_anightHow := y_ext hx_ hI.1 hY_anightHow
      obtain ⟨r21, rfl, hin_r21, hout_r21⟩ := hPh
      clear ho hr ha hE hP hI hx_
      rename x_I _ _ _ _ _ _ _ _ _ _ => hI
      refine lv_if_eq hx hb Tel_d24 (tgt := 40) (by decide) (fun q24 => ?_) (fun q24 => ?_)
      · have q24_ : r21.toInt = (0 : Int32).toInt := by rw [q24]
        refine lv_iconst hx hb Tel_d40 (v := 0) (by decide) ?_
        refine lv_istore hx hb Tel_d41 hl (by decide) (lv' := [(5, .int (0 : Int32)), (4, .int (0 : Int32)), (0, .ref this), (1, .int x), (2, .int h), (3, .int w)]) rfl fun ls hl => ?_
        refine lv_iload_n hx hb Tel_d43 rfl (lv_at hl 3 rfl) ?_
        refine lv_iconst hx hb Tel_d44 (v := 0) (by decide) ?_
        refine lv_bipush hx hb Tel_d45 (v := 11) (by decide) ?_
        have ec11 : (11 : Int32).toInt = 11 := by decide
        refine y_call (z := (1, 88, 3, none, xM10)) (av := [.int x, .int (0 : Int32), .int (11 : Int32)]) (rest := []) (y_cokS (n := 3) X ym_within (x_cons (x_bw19 15 rfl rfl) (x_cons (x_bw19 1 rfl rfl) (x_cons (x_bw0 1 rfl rfl) x_nilm))) (x_bw19 2 rfl rfl) (by decide +kernel) ⟨Nat.le_of_ble_eq_true rfl, Nat.le_of_ble_eq_true rfl⟩) hY0 hI rfl Tel_d47 hl.1 (Nat.le_of_ble_eq_true rfl) (Nat.le_of_ble_eq_true rfl) (Nat.le_of_ble_eq_true rfl) (y_cons ⟨_, rfl, x_i32 _⟩ (y_cons ⟨_, rfl, x_i32 _⟩ (y_cons ⟨_, rfl, x_i32 _⟩ y_nil))) rfl (y_norecv rfl) trivial (y_sub_ef rfl) fun v Yn o Hn L ho hr ha hIn hx_ hE hP => ?_
        replace hs_hd := y_Efld hE hY_this rfl (by decide) (by decide) hs_hd
        replace hn0 := y_Efld hE hY_hd rfl (by decide) (by decide) hn0
        replace hn1 := y_Efld hE hY_hd rfl (by decide) (by decide) hn1
        replace hn2 := y_Efld hE hY_hd rfl (by decide) (by decide) hn2
        replace hs_anightHill := y_Efld hE hY_hd rfl (by decide) (by decide) hs_anightHill
        replace hs_anightHow := y_Efld hE hY_hd rfl (by decide) (by decide) hs_anightHow
        replace hA_anightHill := hA_anightHill.kept (y_Earr hE hY_anightHill rfl (by decide))
        replace hA_anightHow := hA_anightHow.kept (y_Earr hE hY_anightHow rfl (by decide))
        replace hL := hL.E hY_hd hE (fun q u h => y_ext hx_ hI.1 h) (by decide +kernel)
        replace hF := fun b u g9 (hb : Y0 b = some u) (h42 : u ≠ 42) (hg9 : x_G[u]? = some g9) (hn : b ≠ hd) (hk9 : ∀ k, k < 16 → x_sl D 2 k hd s.heap ≠ some (.ref b)) => x_eq.trans (x_eq.E42 hE (y_mon B hI _ _ hb) hg9 h42 rfl) (hF b u g9 hb h42 hg9 hn hk9)
        replace hfld : z_fld D hd s.heap _ := fun k a b c d => ((x_eq.E42 (g := x_G[2]) hE hY_hd rfl (by decide) rfl) k a).trans (hfld k a b c d)
        replace hY_this := y_ext hx_ hI.1 hY_this
        replace hY_hd := y_ext hx_ hI.1 hY_hd
        replace hY_anightHill := y_ext hx_ hI.1 hY_anightHill
        replace hY_anightHow := y_ext hx_ hI.1 hY_anightHow
        obtain ⟨r47, rfl, hin_r47, hout_r47⟩ := hP _ _ _ rfl
        clear ho hr ha hE hP hI hx_
        rename x_I _ _ _ _ _ _ _ _ _ _ => hI
        refine lv_if_eq hx hb Tel_d50 (tgt := 63) (by decide) (fun q50 => ?_) (fun q50 => ?_)
        · have q50_ : r47.toInt = (0 : Int32).toInt := by rw [q50]
          have hno : ¬ m_elOk f x h w := fun q9 => by obtain ⟨a1, a2⟩ := q9; first | (have h9 := hout_r47 (by assumption); omega) | (rcases a2 with a2 | a2; omega; exact hout_r21 (by assumption) a2.1) | (rcases a2 with a2 | a2; omega; have h9 := hout_r30 (by assumption); omega) | omega
          refine lv_aload_n hx hb Tel_d63 rfl (lv_at hl 2 rfl) ?_
          refine lv_bipush hx hb Tel_d64 (v := (-2)) (by decide) ?_
          have ecm2 : ((-2) : Int32).toInt = (-2) := by decide
          refine y_call (z := (0, 59, 2, some 0, xM8)) (av := [.ref this, .int ((-2) : Int32)]) (rest := []) (y_cokV (n := 1) (ci := 11) X ym_counted rfl rfl rfl (x_cons (x_bw19 7 rfl rfl) (x_cons (x_bw19 9 rfl rfl) (x_cons (x_at 1 (by decide +kernel) rfl) (x_cons (x_bw0 1 rfl rfl) x_nilm)))) (x_bw19 10 rfl rfl) (by decide +kernel) ⟨Nat.le_of_ble_eq_true rfl, Nat.le_of_ble_eq_true rfl⟩) hY0 hI rfl Tel_d66 hl.1 (Nat.le_of_ble_eq_true rfl) (Nat.le_of_ble_eq_true rfl) (Nat.le_of_ble_eq_true rfl) (y_cons (y_cref hY_this rfl) (y_cons ⟨_, rfl, x_i32 _⟩ y_nil)) rfl (y_recv rfl hY_this) trivial (y_sub_ef rfl) fun v Yn o Hn L ho hr ha hIn hx_ hE hP => ?_
          replace hs_hd := y_Efld hE hY_this rfl (by decide) (by decide) hs_hd
          replace hn0 := y_Efld hE hY_hd rfl (by decide) (by decide) hn0
          replace hn1 := y_Efld hE hY_hd rfl (by decide) (by decide) hn1
          replace hn2 := y_Efld hE hY_hd rfl (by decide) (by decide) hn2
          replace hs_anightHill := y_Efld hE hY_hd rfl (by decide) (by decide) hs_anightHill
          replace hs_anightHow := y_Efld hE hY_hd rfl (by decide) (by decide) hs_anightHow
          replace hA_anightHill := hA_anightHill.kept (y_Earr hE hY_anightHill rfl (by decide))
          replace hA_anightHow := hA_anightHow.kept (y_Earr hE hY_anightHow rfl (by decide))
          replace hL := hL.E hY_hd hE (fun q u h => y_ext hx_ hI.1 h) (by decide +kernel)
          replace hF := fun b u g9 (hb : Y0 b = some u) (h42 : u ≠ 42) (hg9 : x_G[u]? = some g9) (hn : b ≠ hd) (hk9 : ∀ k, k < 16 → x_sl D 2 k hd s.heap ≠ some (.ref b)) => x_eq.trans (x_eq.E42 hE (y_mon B hI _ _ hb) hg9 h42 rfl) (hF b u g9 hb h42 hg9 hn hk9)
          replace hfld : z_fld D hd s.heap _ := fun k a b c d => ((x_eq.E42 (g := x_G[2]) hE hY_hd rfl (by decide) rfl) k a).trans (hfld k a b c d)
          replace hY_this := y_ext hx_ hI.1 hY_this
          replace hY_hd := y_ext hx_ hI.1 hY_hd
          replace hY_anightHill := y_ext hx_ hI.1 hY_anightHill
          replace hY_anightHow := y_ext hx_ hI.1 hY_anightHow
          obtain rfl := hP _ _ rfl
          clear ho hr ha hE hP hI hx_
          rename x_I _ _ _ _ _ _ _ _ _ _ => hI
          exact y_ireturn B hI rfl rfl rfl List.mem_cons_self ⟨_, rfl, ⟨_, rfl, x_i32 _⟩⟩ (x_cs.mono B.2.2.2.2.2 (y_mon B hI)) (fun t' w0' w1' w2' f' K' tt' nn' h1 h2 => by cases h1; cases h2.eqf hR0; exact ⟨_, _, rfl, h2.fin hYt0 hs0_hd hF hL hfld (y_mon B hI), fun _ => ⟨rfl, rfl⟩, fun q9 => absurd q9 hno⟩) (by exact Nat.le_of_ble_eq_true rfl) (by exact Nat.le_of_ble_eq_true rfl) Tel_d69
        · have q50_ : ¬ r47.toInt = (0 : Int32).toInt := fun q => q50 (Int32.toInt_inj.mp q)
          refine lv_iload hx hb Tel_d53 (lv_at hl 1 rfl) ?_
          refine lv_if_ne hx hb Tel_d55 (tgt := 70) (by decide) (fun q55 => ?_) (fun q55 => ?_)
          · have q55_ : ¬ (0 : Int32).toInt = (0 : Int32).toInt := fun q => q55 (Int32.toInt_inj.mp q)
            have hw1 := hin_r47 (by assumption)
            have hok : m_elOk f x h w := ⟨by omega, by first | exact Or.inl ⟨by omega, by omega⟩ | exact Or.inr ⟨hin_r21 (by assumption), by have h9 := hin_r30 (by assumption); omega, by have h9 := hin_r30 (by assumption); omega⟩ | (exfalso; omega)⟩
            refine lv_aload_n hx hb Tel_d70 rfl (lv_at hl 2 rfl) ?_
            refine y_getf X (fl8 X.2.2.2.2.1) hI.1 hY_this rfl hs_hd Tel_d71 ?_
            refine y_getf X (fl154 X.2.2.2.2.1) hI.1 hY_hd rfl hs_anightHill Tel_d74 ?_
            refine lv_iload_n hx hb Tel_d77 rfl (lv_at hl 3 rfl) ?_
            refine lv_iload_n hx hb Tel_d78 rfl (lv_at hl 4 rfl) ?_
            have hs_old := hs_anightHill
            have hA_old := hA_anightHill
            refine y_iast X hY0 hI hY_anightHill rfl hA_anightHill (by omega) (by show _ < (12 : Int); omega) ⟨_, rfl, x_i32 _⟩ (by decide +kernel) Tel_d79 fun H locs hI h_new ho => ?_
            replace hA_anightHill := h_new
            generalize hf_f79 : y_up (fun j => f (136 + 2 * j)) x.toInt.toNat h = f79 at hA_anightHill
            replace hs_hd := y_slk hs_hd (ho _ (y_ne hY_this hY_anightHill rfl))
            replace hn0 := y_slk hn0 (ho _ (y_ne hY_hd hY_anightHill rfl))
            replace hn1 := y_slk hn1 (ho _ (y_ne hY_hd hY_anightHill rfl))
            replace hn2 := y_slk hn2 (ho _ (y_ne hY_hd hY_anightHill rfl))
            replace hs_anightHill := y_slk hs_anightHill (ho _ (y_ne hY_hd hY_anightHill rfl))
            replace hs_anightHow := y_slk hs_anightHow (ho _ (y_ne hY_hd hY_anightHill rfl))
            replace hA_anightHow := hA_anightHow.kept (ho _ (y_ne hY_anightHow hY_anightHill rfl))
            replace hL := hL.putA (c := (14, 30, 12, 136, 2)) (N := 12) hY_hd (by decide) rfl (by omega) hs_old hA_old h_new ho
            replace hF := fun b u g9 (hb : Y0 b = some u) (h42 : u ≠ 42) (hg9 : x_G[u]? = some g9) (hn : b ≠ hd) (hk9 : ∀ k, k < 16 → x_sl D 2 k hd s.heap ≠ some (.ref b)) => x_eq.trans (x_eq.of (ho b (fun e0 => hk9 14 (by decide) (by rw [e0]; exact hs0_anightHill)))) (hF b u g9 hb h42 hg9 hn hk9)
            replace hfld : z_fld D hd s.heap _ := fun k a b c d => (y_slk rfl (ho _ (y_ne hY_hd hY_anightHill rfl))).trans (hfld k a b c d)
            refine lv_aload_n hx hb Tel_d80 rfl (lv_at hl 2 rfl) ?_
            refine y_getf X (fl8 X.2.2.2.2.1) hI.1 hY_this rfl hs_hd Tel_d81 ?_
            refine y_getf X (fl155 X.2.2.2.2.1) hI.1 hY_hd rfl hs_anightHow Tel_d84 ?_
            refine lv_iload_n hx hb Tel_d87 rfl (lv_at hl 3 rfl) ?_
            refine lv_iload_n hx hb Tel_d88 rfl (lv_at hl 5 rfl) ?_
            have hs_old := hs_anightHow
            have hA_old := hA_anightHow
            refine y_iast X hY0 hI hY_anightHow rfl hA_anightHow (by omega) (by show _ < (12 : Int); omega) ⟨_, rfl, x_i32 _⟩ (by decide +kernel) Tel_d89 fun H locs hI h_new ho => ?_
            replace hA_anightHow := h_new
            generalize hf_f89 : y_up (fun j => f (137 + 2 * j)) x.toInt.toNat w = f89 at hA_anightHow
            replace hs_hd := y_slk hs_hd (ho _ (y_ne hY_this hY_anightHow rfl))
            replace hn0 := y_slk hn0 (ho _ (y_ne hY_hd hY_anightHow rfl))
            replace hn1 := y_slk hn1 (ho _ (y_ne hY_hd hY_anightHow rfl))
            replace hn2 := y_slk hn2 (ho _ (y_ne hY_hd hY_anightHow rfl))
            replace hs_anightHill := y_slk hs_anightHill (ho _ (y_ne hY_hd hY_anightHow rfl))
            replace hs_anightHow := y_slk hs_anightHow (ho _ (y_ne hY_hd hY_anightHow rfl))
            replace hA_anightHill := hA_anightHill.kept (ho _ (y_ne hY_anightHill hY_anightHow rfl))
            replace hL := hL.putA (c := (15, 31, 12, 137, 2)) (N := 12) hY_hd (by decide) rfl (by omega) hs_old hA_old h_new ho
            replace hF := fun b u g9 (hb : Y0 b = some u) (h42 : u ≠ 42) (hg9 : x_G[u]? = some g9) (hn : b ≠ hd) (hk9 : ∀ k, k < 16 → x_sl D 2 k hd s.heap ≠ some (.ref b)) => x_eq.trans (x_eq.of (ho b (fun e0 => hk9 15 (by decide) (by rw [e0]; exact hs0_anightHow)))) (hF b u g9 hb h42 hg9 hn hk9)
            replace hfld : z_fld D hd s.heap _ := fun k a b c d => (y_slk rfl (ho _ (y_ne hY_hd hY_anightHow rfl))).trans (hfld k a b c d)
            refine lv_iconst hx hb Tel_d90 (v := 1) (by decide) ?_
            have ec1 : (1 : Int32).toInt = 1 := by decide
            exact y_ireturn B hI rfl rfl rfl List.mem_cons_self ⟨_, rfl, ⟨_, rfl, x_i32 _⟩⟩ (x_cs.mono B.2.2.2.2.2 (y_mon B hI)) (fun t' w0' w1' w2' f' K' tt' nn' h1 h2 => by cases h1; cases h2.eqf hR0; exact ⟨_, _, rfl, h2.fin hYt0 hs0_hd hF hL hfld (y_mon B hI), fun q9 => absurd hok q9, fun _ => ⟨rfl, rfl⟩⟩) (by exact Nat.le_of_ble_eq_true rfl) (by exact Nat.le_of_ble_eq_true rfl) Tel_d91
          · have q55_ : (0 : Int32).toInt = (0 : Int32).toInt := by rw [q55]
            refine lv_iload hx hb Tel_d58 (lv_at hl 0 rfl) ?_
            refine lv_if_ne hx hb Tel_d60 (tgt := 70) (by decide) (fun q60 => ?_) (fun q60 => ?_)
            · have q60_ : ¬ (0 : Int32).toInt = (0 : Int32).toInt := fun q => q60 (Int32.toInt_inj.mp q)
              have hw1 := hin_r47 (by assumption)
              have hok : m_elOk f x h w := ⟨by omega, by first | exact Or.inl ⟨by omega, by omega⟩ | exact Or.inr ⟨hin_r21 (by assumption), by have h9 := hin_r30 (by assumption); omega, by have h9 := hin_r30 (by assumption); omega⟩ | (exfalso; omega)⟩
              refine lv_aload_n hx hb Tel_d70 rfl (lv_at hl 2 rfl) ?_
              refine y_getf X (fl8 X.2.2.2.2.1) hI.1 hY_this rfl hs_hd Tel_d71 ?_
              refine y_getf X (fl154 X.2.2.2.2.1) hI.1 hY_hd rfl hs_anightHill Tel_d74 ?_
              refine lv_iload_n hx hb Tel_d77 rfl (lv_at hl 3 rfl) ?_
              refine lv_iload_n hx hb Tel_d78 rfl (lv_at hl 4 rfl) ?_
              have hs_old := hs_anightHill
              have hA_old := hA_anightHill
              refine y_iast X hY0 hI hY_anightHill rfl hA_anightHill (by omega) (by show _ < (12 : Int); omega) ⟨_, rfl, x_i32 _⟩ (by decide +kernel) Tel_d79 fun H locs hI h_new ho => ?_
              replace hA_anightHill := h_new
              generalize hf_f79 : y_up (fun j => f (136 + 2 * j)) x.toInt.toNat h = f79 at hA_anightHill
              replace hs_hd := y_slk hs_hd (ho _ (y_ne hY_this hY_anightHill rfl))
              replace hn0 := y_slk hn0 (ho _ (y_ne hY_hd hY_anightHill rfl))
              replace hn1 := y_slk hn1 (ho _ (y_ne hY_hd hY_anightHill rfl))
              replace hn2 := y_slk hn2 (ho _ (y_ne hY_hd hY_anightHill rfl))
              replace hs_anightHill := y_slk hs_anightHill (ho _ (y_ne hY_hd hY_anightHill rfl))
              replace hs_anightHow := y_slk hs_anightHow (ho _ (y_ne hY_hd hY_anightHill rfl))
              replace hA_anightHow := hA_anightHow.kept (ho _ (y_ne hY_anightHow hY_anightHill rfl))
              replace hL := hL.putA (c := (14, 30, 12, 136, 2)) (N := 12) hY_hd (by decide) rfl (by omega) hs_old hA_old h_new ho
              replace hF := fun b u g9 (hb : Y0 b = some u) (h42 : u ≠ 42) (hg9 : x_G[u]? = some g9) (hn : b ≠ hd) (hk9 : ∀ k, k < 16 → x_sl D 2 k hd s.heap ≠ some (.ref b)) => x_eq.trans (x_eq.of (ho b (fun e0 => hk9 14 (by decide) (by rw [e0]; exact hs0_anightHill)))) (hF b u g9 hb h42 hg9 hn hk9)
              replace hfld : z_fld D hd s.heap _ := fun k a b c d => (y_slk rfl (ho _ (y_ne hY_hd hY_anightHill rfl))).trans (hfld k a b c d)
              refine lv_aload_n hx hb Tel_d80 rfl (lv_at hl 2 rfl) ?_
              refine y_getf X (fl8 X.2.2.2.2.1) hI.1 hY_this rfl hs_hd Tel_d81 ?_
              refine y_getf X (fl155 X.2.2.2.2.1) hI.1 hY_hd rfl hs_anightHow Tel_d84 ?_
              refine lv_iload_n hx hb Tel_d87 rfl (lv_at hl 3 rfl) ?_
              refine lv_iload_n hx hb Tel_d88 rfl (lv_at hl 5 rfl) ?_
              have hs_old := hs_anightHow
              have hA_old := hA_anightHow
              refine y_iast X hY0 hI hY_anightHow rfl hA_anightHow (by omega) (by show _ < (12 : Int); omega) ⟨_, rfl, x_i32 _⟩ (by decide +kernel) Tel_d89 fun H locs hI h_new ho => ?_
              replace hA_anightHow := h_new
              generalize hf_f89 : y_up (fun j => f (137 + 2 * j)) x.toInt.toNat w = f89 at hA_anightHow
              replace hs_hd := y_slk hs_hd (ho _ (y_ne hY_this hY_anightHow rfl))
              replace hn0 := y_slk hn0 (ho _ (y_ne hY_hd hY_anightHow rfl))
              replace hn1 := y_slk hn1 (ho _ (y_ne hY_hd hY_anightHow rfl))
              replace hn2 := y_slk hn2 (ho _ (y_ne hY_hd hY_anightHow rfl))
              replace hs_anightHill := y_slk hs_anightHill (ho _ (y_ne hY_hd hY_anightHow rfl))
              replace hs_anightHow := y_slk hs_anightHow (ho _ (y_ne hY_hd hY_anightHow rfl))
              replace hA_anightHill := hA_anightHill.kept (ho _ (y_ne hY_anightHill hY_anightHow rfl))
              replace hL := hL.putA (c := (15, 31, 12, 137, 2)) (N := 12) hY_hd (by decide) rfl (by omega) hs_old hA_old h_new ho
              replace hF := fun b u g9 (hb : Y0 b = some u) (h42 : u ≠ 42) (hg9 : x_G[u]? = some g9) (hn : b ≠ hd) (hk9 : ∀ k, k < 16 → x_sl D 2 k hd s.heap ≠ some (.ref b)) => x_eq.trans (x_eq.of (ho b (fun e0 => hk9 15 (by decide) (by rw [e0]; exact hs0_anightHow)))) (hF b u g9 hb h42 hg9 hn hk9)
              replace hfld : z_fld D hd s.heap _ := fun k a b c d => (y_slk rfl (ho _ (y_ne hY_hd hY_anightHow rfl))).trans (hfld k a b c d)
              refine lv_iconst hx hb Tel_d90 (v := 1) (by decide) ?_
              have ec1 : (1 : Int32).toInt = 1 := by decide
              exact y_ireturn B hI rfl rfl rfl List.mem_cons_self ⟨_, rfl, ⟨_, rfl, x_i32 _⟩⟩ (x_cs.mono B.2.2.2.2.2 (y_mon B hI)) (fun t' w0' w1' w2' f' K' tt' nn' h1 h2 => by cases h1; cases h2.eqf hR0; exact ⟨_, _, rfl, h2.fin hYt0 hs0_hd hF hL hfld (y_mon B hI), fun q9 => absurd hok q9, fun _ => ⟨rfl, rfl⟩⟩) (by exact Nat.le_of_ble_eq_true rfl) (by exact Nat.le_of_ble_eq_true rfl) Tel_d91
            · have q60_ : (0 : Int32).toInt = (0 : Int32).toInt := by rw [q60]
              have hno : ¬ m_elOk f x h w := fun q9 => by obtain ⟨a1, a2⟩ := q9; first | (have h9 := hout_r47 (by assumption); omega) | (rcases a2 with a2 | a2; omega; exact hout_r21 (by assumption) a2.1) | (rcases a2 with a2 | a2; omega; have h9 := hout_r30 (by assumption); omega) | omega
              refine lv_aload_n hx hb Tel_d63 rfl (lv_at hl 2 rfl) ?_
              refine lv_bipush hx hb Tel_d64 (v := (-2)) (by decide) ?_
              have ecm2 : ((-2) : Int32).toInt = (-2) := by decide
              refine y_call (z := (0, 59, 2, some 0, xM8)) (av := [.ref this, .int ((-2) : Int32)]) (rest := []) (y_cokV (n := 1) (ci := 11) X ym_counted rfl rfl rfl (x_cons (x_bw19 7 rfl rfl) (x_cons (x_bw19 9 rfl rfl) (x_cons (x_at 1 (by decide +kernel) rfl) (x_cons (x_bw0 1 rfl rfl) x_nilm)))) (x_bw19 10 rfl rfl) (by decide +kernel) ⟨Nat.le_of_ble_eq_true rfl, Nat.le_of_ble_eq_true rfl⟩) hY0 hI rfl Tel_d66 hl.1 (Nat.le_of_ble_eq_true rfl) (Nat.le_of_ble_eq_true rfl) (Nat.le_of_ble_eq_true rfl) (y_cons (y_cref hY_this rfl) (y_cons ⟨_, rfl, x_i32 _⟩ y_nil)) rfl (y_recv rfl hY_this) trivial (y_sub_ef rfl) fun v Yn o Hn L ho hr ha hIn hx_ hE hP => ?_
              replace hs_hd := y_Efld hE hY_this rfl (by decide) (by decide) hs_hd
              replace hn0 := y_Efld hE hY_hd rfl (by decide) (by decide) hn0
              replace hn1 := y_Efld hE hY_hd rfl (by decide) (by decide) hn1
              replace hn2 := y_Efld hE hY_hd rfl (by decide) (by decide) hn2
              replace hs_anightHill := y_Efld hE hY_hd rfl (by decide) (by decide) hs_anightHill
              replace hs_anightHow := y_Efld hE hY_hd rfl (by decide) (by decide) hs_anightHow
              replace hA_anightHill := hA_anightHill.kept (y_Earr hE hY_anightHill rfl (by decide))
              replace hA_anightHow := hA_anightHow.kept (y_Earr hE hY_anightHow rfl (by decide))
              replace hL := hL.E hY_hd hE (fun q u h => y_ext hx_ hI.1 h) (by decide +kernel)
              replace hF := fun b u g9 (hb : Y0 b = some u) (h42 : u ≠ 42) (hg9 : x_G[u]? = some g9) (hn : b ≠ hd) (hk9 : ∀ k, k < 16 → x_sl D 2 k hd s.heap ≠ some (.ref b)) => x_eq.trans (x_eq.E42 hE (y_mon B hI _ _ hb) hg9 h42 rfl) (hF b u g9 hb h42 hg9 hn hk9)
              replace hfld : z_fld D hd s.heap _ := fun k a b c d => ((x_eq.E42 (g := x_G[2]) hE hY_hd rfl (by decide) rfl) k a).trans (hfld k a b c d)
              replace hY_this := y_ext hx_ hI.1 hY_this
              replace hY_hd := y_ext hx_ hI.1 hY_hd
              replace hY_anightHill := y_ext hx_ hI.1 hY_anightHill
              replace hY_anightHow := y_ext hx_ hI.1 hY_anightHow
              obtain rfl := hP _ _ rfl
              clear ho hr ha hE hP hI hx_
              rename x_I _ _ _ _ _ _ _ _ _ _ => hI
              exact y_ireturn B hI rfl rfl rfl List.mem_cons_self ⟨_, rfl, ⟨_, rfl, x_i32 _⟩⟩ (x_cs.mono B.2.2.2.2.2 (y_mon B hI)) (fun t' w0' w1' w2' f' K' tt' nn' h1 h2 => by cases h1; cases h2.eqf hR0; exact ⟨_, _, rfl, h2.fin hYt0 hs0_hd hF hL hfld (y_mon B hI), fun _ => ⟨rfl, rfl⟩, fun q9 => absurd q9 hno⟩) (by exact Nat.le_of_ble_eq_true rfl) (by exact Nat.le_of_ble_eq_true rfl) Tel_d69
      · have q24_ : ¬ r21.toInt = (0 : Int32).toInt := fun q => q24 (Int32.toInt_inj.mp q)
        refine lv_iload_n hx hb Tel_d27 rfl (lv_at hl 4 rfl) ?_
        refine lv_iconst hx hb Tel_d28 (v := 0) (by decide) ?_
        refine lv_iconst hx hb Tel_d29 (v := 1) (by decide) ?_
        have ec1 : (1 : Int32).toInt = 1 := by decide
        refine y_call (z := (1, 88, 3, none, xM10)) (av := [.int w, .int (0 : Int32), .int (1 : Int32)]) (rest := []) (y_cokS (n := 3) X ym_within (x_cons (x_bw19 15 rfl rfl) (x_cons (x_bw19 1 rfl rfl) (x_cons (x_bw0 1 rfl rfl) x_nilm))) (x_bw19 2 rfl rfl) (by decide +kernel) ⟨Nat.le_of_ble_eq_true rfl, Nat.le_of_ble_eq_true rfl⟩) hY0 hI rfl Tel_d30 hl.1 (Nat.le_of_ble_eq_true rfl) (Nat.le_of_ble_eq_true rfl) (Nat.le_of_ble_eq_true rfl) (y_cons ⟨_, rfl, x_i32 _⟩ (y_cons ⟨_, rfl, x_i32 _⟩ (y_cons ⟨_, rfl, x_i32 _⟩ y_nil))) rfl (y_norecv rfl) trivial (y_sub_ef rfl) fun v Yn o Hn L ho hr ha hIn hx_ hE hP => ?_
        replace hs_hd := y_Efld hE hY_this rfl (by decide) (by decide) hs_hd
        replace hn0 := y_Efld hE hY_hd rfl (by decide) (by decide) hn0
        replace hn1 := y_Efld hE hY_hd rfl (by decide) (by decide) hn1
        replace hn2 := y_Efld hE hY_hd rfl (by decide) (by decide) hn2
        replace hs_anightHill := y_Efld hE hY_hd rfl (by decide) (by decide) hs_anightHill
        replace hs_anightHow := y_Efld hE hY_hd rfl (by decide) (by decide) hs_anightHow
        replace hA_anightHill := hA_anightHill.kept (y_Earr hE hY_anightHill rfl (by decide))
        replace hA_anightHow := hA_anightHow.kept (y_Earr hE hY_anightHow rfl (by decide))
        replace hL := hL.E hY_hd hE (fun q u h => y_ext hx_ hI.1 h) (by decide +kernel)
        replace hF := fun b u g9 (hb : Y0 b = some u) (h42 : u ≠ 42) (hg9 : x_G[u]? = some g9) (hn : b ≠ hd) (hk9 : ∀ k, k < 16 → x_sl D 2 k hd s.heap ≠ some (.ref b)) => x_eq.trans (x_eq.E42 hE (y_mon B hI _ _ hb) hg9 h42 rfl) (hF b u g9 hb h42 hg9 hn hk9)
        replace hfld : z_fld D hd s.heap _ := fun k a b c d => ((x_eq.E42 (g := x_G[2]) hE hY_hd rfl (by decide) rfl) k a).trans (hfld k a b c d)
        replace hY_this := y_ext hx_ hI.1 hY_this
        replace hY_hd := y_ext hx_ hI.1 hY_hd
        replace hY_anightHill := y_ext hx_ hI.1 hY_anightHill
        replace hY_anightHow := y_ext hx_ hI.1 hY_anightHow
        obtain ⟨r30, rfl, hin_r30, hout_r30⟩ := hP _ _ _ rfl
        clear ho hr ha hE hP hI hx_
        rename x_I _ _ _ _ _ _ _ _ _ _ => hI
        refine lv_if_eq hx hb Tel_d33 (tgt := 40) (by decide) (fun q33 => ?_) (fun q33 => ?_)
        · have q33_ : r30.toInt = (0 : Int32).toInt := by rw [q33]
          refine lv_iconst hx hb Tel_d40 (v := 0) (by decide) ?_
          refine lv_istore hx hb Tel_d41 hl (by decide) (lv' := [(5, .int (0 : Int32)), (4, .int (0 : Int32)), (0, .ref this), (1, .int x), (2, .int h), (3, .int w)]) rfl fun ls hl => ?_
          refine lv_iload_n hx hb Tel_d43 rfl (lv_at hl 3 rfl) ?_
          refine lv_iconst hx hb Tel_d44 (v := 0) (by decide) ?_
          refine lv_bipush hx hb Tel_d45 (v := 11) (by decide) ?_
          have ec11 : (11 : Int32).toInt = 11 := by decide
          refine y_call (z := (1, 88, 3, none, xM10)) (av := [.int x, .int (0 : Int32), .int (11 : Int32)]) (rest := []) (y_cokS (n := 3) X ym_within (x_cons (x_bw19 15 rfl rfl) (x_cons (x_bw19 1 rfl rfl) (x_cons (x_bw0 1 rfl rfl) x_nilm))) (x_bw19 2 rfl rfl) (by decide +kernel) ⟨Nat.le_of_ble_eq_true rfl, Nat.le_of_ble_eq_true rfl⟩) hY0 hI rfl Tel_d47 hl.1 (Nat.le_of_ble_eq_true rfl) (Nat.le_of_ble_eq_true rfl) (Nat.le_of_ble_eq_true rfl) (y_cons ⟨_, rfl, x_i32 _⟩ (y_cons ⟨_, rfl, x_i32 _⟩ (y_cons ⟨_, rfl, x_i32 _⟩ y_nil))) rfl (y_norecv rfl) trivial (y_sub_ef rfl) fun v Yn o Hn L ho hr ha hIn hx_ hE hP => ?_
          replace hs_hd := y_Efld hE hY_this rfl (by decide) (by decide) hs_hd
          replace hn0 := y_Efld hE hY_hd rfl (by decide) (by decide) hn0
          replace hn1 := y_Efld hE hY_hd rfl (by decide) (by decide) hn1
          replace hn2 := y_Efld hE hY_hd rfl (by decide) (by decide) hn2
          replace hs_anightHill := y_Efld hE hY_hd rfl (by decide) (by decide) hs_anightHill
          replace hs_anightHow := y_Efld hE hY_hd rfl (by decide) (by decide) hs_anightHow
          replace hA_anightHill := hA_anightHill.kept (y_Earr hE hY_anightHill rfl (by decide))
          replace hA_anightHow := hA_anightHow.kept (y_Earr hE hY_anightHow rfl (by decide))
          replace hL := hL.E hY_hd hE (fun q u h => y_ext hx_ hI.1 h) (by decide +kernel)
          replace hF := fun b u g9 (hb : Y0 b = some u) (h42 : u ≠ 42) (hg9 : x_G[u]? = some g9) (hn : b ≠ hd) (hk9 : ∀ k, k < 16 → x_sl D 2 k hd s.heap ≠ some (.ref b)) => x_eq.trans (x_eq.E42 hE (y_mon B hI _ _ hb) hg9 h42 rfl) (hF b u g9 hb h42 hg9 hn hk9)
          replace hfld : z_fld D hd s.heap _ := fun k a b c d => ((x_eq.E42 (g := x_G[2]) hE hY_hd rfl (by decide) rfl) k a).trans (hfld k a b c d)
          replace hY_this := y_ext hx_ hI.1 hY_this
          replace hY_hd := y_ext hx_ hI.1 hY_hd
          replace hY_anightHill := y_ext hx_ hI.1 hY_anightHill
          replace hY_anightHow := y_ext hx_ hI.1 hY_anightHow
          obtain ⟨r47, rfl, hin_r47, hout_r47⟩ := hP _ _ _ rfl
          clear ho hr ha hE hP hI hx_
          rename x_I _ _ _ _ _ _ _ _ _ _ => hI
          refine lv_if_eq hx hb Tel_d50 (tgt := 63) (by decide) (fun q50 => ?_) (fun q50 => ?_)
          · have q50_ : r47.toInt = (0 : Int32).toInt := by rw [q50]
            have hno : ¬ m_elOk f x h w := fun q9 => by obtain ⟨a1, a2⟩ := q9; first | (have h9 := hout_r47 (by assumption); omega) | (rcases a2 with a2 | a2; omega; exact hout_r21 (by assumption) a2.1) | (rcases a2 with a2 | a2; omega; have h9 := hout_r30 (by assumption); omega) | omega
            refine lv_aload_n hx hb Tel_d63 rfl (lv_at hl 2 rfl) ?_
            refine lv_bipush hx hb Tel_d64 (v := (-2)) (by decide) ?_
            have ecm2 : ((-2) : Int32).toInt = (-2) := by decide
            refine y_call (z := (0, 59, 2, some 0, xM8)) (av := [.ref this, .int ((-2) : Int32)]) (rest := []) (y_cokV (n := 1) (ci := 11) X ym_counted rfl rfl rfl (x_cons (x_bw19 7 rfl rfl) (x_cons (x_bw19 9 rfl rfl) (x_cons (x_at 1 (by decide +kernel) rfl) (x_cons (x_bw0 1 rfl rfl) x_nilm)))) (x_bw19 10 rfl rfl) (by decide +kernel) ⟨Nat.le_of_ble_eq_true rfl, Nat.le_of_ble_eq_true rfl⟩) hY0 hI rfl Tel_d66 hl.1 (Nat.le_of_ble_eq_true rfl) (Nat.le_of_ble_eq_true rfl) (Nat.le_of_ble_eq_true rfl) (y_cons (y_cref hY_this rfl) (y_cons ⟨_, rfl, x_i32 _⟩ y_nil)) rfl (y_recv rfl hY_this) trivial (y_sub_ef rfl) fun v Yn o Hn L ho hr ha hIn hx_ hE hP => ?_
            replace hs_hd := y_Efld hE hY_this rfl (by decide) (by decide) hs_hd
            replace hn0 := y_Efld hE hY_hd rfl (by decide) (by decide) hn0
            replace hn1 := y_Efld hE hY_hd rfl (by decide) (by decide) hn1
            replace hn2 := y_Efld hE hY_hd rfl (by decide) (by decide) hn2
            replace hs_anightHill := y_Efld hE hY_hd rfl (by decide) (by decide) hs_anightHill
            replace hs_anightHow := y_Efld hE hY_hd rfl (by decide) (by decide) hs_anightHow
            replace hA_anightHill := hA_anightHill.kept (y_Earr hE hY_anightHill rfl (by decide))
            replace hA_anightHow := hA_anightHow.kept (y_Earr hE hY_anightHow rfl (by decide))
            replace hL := hL.E hY_hd hE (fun q u h => y_ext hx_ hI.1 h) (by decide +kernel)
            replace hF := fun b u g9 (hb : Y0 b = some u) (h42 : u ≠ 42) (hg9 : x_G[u]? = some g9) (hn : b ≠ hd) (hk9 : ∀ k, k < 16 → x_sl D 2 k hd s.heap ≠ some (.ref b)) => x_eq.trans (x_eq.E42 hE (y_mon B hI _ _ hb) hg9 h42 rfl) (hF b u g9 hb h42 hg9 hn hk9)
            replace hfld : z_fld D hd s.heap _ := fun k a b c d => ((x_eq.E42 (g := x_G[2]) hE hY_hd rfl (by decide) rfl) k a).trans (hfld k a b c d)
            replace hY_this := y_ext hx_ hI.1 hY_this
            replace hY_hd := y_ext hx_ hI.1 hY_hd
            replace hY_anightHill := y_ext hx_ hI.1 hY_anightHill
            replace hY_anightHow := y_ext hx_ hI.1 hY_anightHow
            obtain rfl := hP _ _ rfl
            clear ho hr ha hE hP hI hx_
            rename x_I _ _ _ _ _ _ _ _ _ _ => hI
            exact y_ireturn B hI rfl rfl rfl List.mem_cons_self ⟨_, rfl, ⟨_, rfl, x_i32 _⟩⟩ (x_cs.mono B.2.2.2.2.2 (y_mon B hI)) (fun t' w0' w1' w2' f' K' tt' nn' h1 h2 => by cases h1; cases h2.eqf hR0; exact ⟨_, _, rfl, h2.fin hYt0 hs0_hd hF hL hfld (y_mon B hI), fun _ => ⟨rfl, rfl⟩, fun q9 => absurd q9 hno⟩) (by exact Nat.le_of_ble_eq_true rfl) (by exact Nat.le_of_ble_eq_true rfl) Tel_d69
          · have q50_ : ¬ r47.toInt = (0 : Int32).toInt := fun q => q50 (Int32.toInt_inj.mp q)
            refine lv_iload hx hb Tel_d53 (lv_at hl 1 rfl) ?_
            refine lv_if_ne hx hb Tel_d55 (tgt := 70) (by decide) (fun q55 => ?_) (fun q55 => ?_)
            · have q55_ : ¬ (0 : Int32).toInt = (0 : Int32).toInt := fun q => q55 (Int32.toInt_inj.mp q)
              have hw1 := hin_r47 (by assumption)
              have hok : m_elOk f x h w := ⟨by omega, by first | exact Or.inl ⟨by omega, by omega⟩ | exact Or.inr ⟨hin_r21 (by assumption), by have h9 := hin_r30 (by assumption); omega, by have h9 := hin_r30 (by assumption); omega⟩ | (exfalso; omega)⟩
              refine lv_aload_n hx hb Tel_d70 rfl (lv_at hl 2 rfl) ?_
              refine y_getf X (fl8 X.2.2.2.2.1) hI.1 hY_this rfl hs_hd Tel_d71 ?_
              refine y_getf X (fl154 X.2.2.2.2.1) hI.1 hY_hd rfl hs_anightHill Tel_d74 ?_
              refine lv_iload_n hx hb Tel_d77 rfl (lv_at hl 3 rfl) ?_
              refine lv_iload_n hx hb Tel_d78 rfl (lv_at hl 4 rfl) ?_
              have hs_old := hs_anightHill
              have hA_old := hA_anightHill
              refine y_iast X hY0 hI hY_anightHill rfl hA_anightHill (by omega) (by show _ < (12 : Int); omega) ⟨_, rfl, x_i32 _⟩ (by decide +kernel) Tel_d79 fun H locs hI h_new ho => ?_
              replace hA_anightHill := h_new
              generalize hf_f79 : y_up (fun j => f (136 + 2 * j)) x.toInt.toNat h = f79 at hA_anightHill
              replace hs_hd := y_slk hs_hd (ho _ (y_ne hY_this hY_anightHill rfl))
              replace hn0 := y_slk hn0 (ho _ (y_ne hY_hd hY_anightHill rfl))
              replace hn1 := y_slk hn1 (ho _ (y_ne hY_hd hY_anightHill rfl))
              replace hn2 := y_slk hn2 (ho _ (y_ne hY_hd hY_anightHill rfl))
              replace hs_anightHill := y_slk hs_anightHill (ho _ (y_ne hY_hd hY_anightHill rfl))
              replace hs_anightHow := y_slk hs_anightHow (ho _ (y_ne hY_hd hY_anightHill rfl))
              replace hA_anightHow := hA_anightHow.kept (ho _ (y_ne hY_anightHow hY_anightHill rfl))
              replace hL := hL.putA (c := (14, 30, 12, 136, 2)) (N := 12) hY_hd (by decide) rfl (by omega) hs_old hA_old h_new ho
              replace hF := fun b u g9 (hb : Y0 b = some u) (h42 : u ≠ 42) (hg9 : x_G[u]? = some g9) (hn : b ≠ hd) (hk9 : ∀ k, k < 16 → x_sl D 2 k hd s.heap ≠ some (.ref b)) => x_eq.trans (x_eq.of (ho b (fun e0 => hk9 14 (by decide) (by rw [e0]; exact hs0_anightHill)))) (hF b u g9 hb h42 hg9 hn hk9)
              replace hfld : z_fld D hd s.heap _ := fun k a b c d => (y_slk rfl (ho _ (y_ne hY_hd hY_anightHill rfl))).trans (hfld k a b c d)
              refine lv_aload_n hx hb Tel_d80 rfl (lv_at hl 2 rfl) ?_
              refine y_getf X (fl8 X.2.2.2.2.1) hI.1 hY_this rfl hs_hd Tel_d81 ?_
              refine y_getf X (fl155 X.2.2.2.2.1) hI.1 hY_hd rfl hs_anightHow Tel_d84 ?_
              refine lv_iload_n hx hb Tel_d87 rfl (lv_at hl 3 rfl) ?_
              refine lv_iload_n hx hb Tel_d88 rfl (lv_at hl 5 rfl) ?_
              have hs_old := hs_anightHow
              have hA_old := hA_anightHow
              refine y_iast X hY0 hI hY_anightHow rfl hA_anightHow (by omega) (by show _ < (12 : Int); omega) ⟨_, rfl, x_i32 _⟩ (by decide +kernel) Tel_d89 fun H locs hI h_new ho => ?_
              replace hA_anightHow := h_new
              generalize hf_f89 : y_up (fun j => f (137 + 2 * j)) x.toInt.toNat w = f89 at hA_anightHow
              replace hs_hd := y_slk hs_hd (ho _ (y_ne hY_this hY_anightHow rfl))
              replace hn0 := y_slk hn0 (ho _ (y_ne hY_hd hY_anightHow rfl))
              replace hn1 := y_slk hn1 (ho _ (y_ne hY_hd hY_anightHow rfl))
              replace hn2 := y_slk hn2 (ho _ (y_ne hY_hd hY_anightHow rfl))
              replace hs_anightHill := y_slk hs_anightHill (ho _ (y_ne hY_hd hY_anightHow rfl))
              replace hs_anightHow := y_slk hs_anightHow (ho _ (y_ne hY_hd hY_anightHow rfl))
              replace hA_anightHill := hA_anightHill.kept (ho _ (y_ne hY_anightHill hY_anightHow rfl))
              replace hL := hL.putA (c := (15, 31, 12, 137, 2)) (N := 12) hY_hd (by decide) rfl (by omega) hs_old hA_old h_new ho
              replace hF := fun b u g9 (hb : Y0 b = some u) (h42 : u ≠ 42) (hg9 : x_G[u]? = some g9) (hn : b ≠ hd) (hk9 : ∀ k, k < 16 → x_sl D 2 k hd s.heap ≠ some (.ref b)) => x_eq.trans (x_eq.of (ho b (fun e0 => hk9 15 (by decide) (by rw [e0]; exact hs0_anightHow)))) (hF b u g9 hb h42 hg9 hn hk9)
              replace hfld : z_fld D hd s.heap _ := fun k a b c d => (y_slk rfl (ho _ (y_ne hY_hd hY_anightHow rfl))).trans (hfld k a b c d)
              refine lv_iconst hx hb Tel_d90 (v := 1) (by decide) ?_
              exact y_ireturn B hI rfl rfl rfl List.mem_cons_self ⟨_, rfl, ⟨_, rfl, x_i32 _⟩⟩ (x_cs.mono B.2.2.2.2.2 (y_mon B hI)) (fun t' w0' w1' w2' f' K' tt' nn' h1 h2 => by cases h1; cases h2.eqf hR0; exact ⟨_, _, rfl, h2.fin hYt0 hs0_hd hF hL hfld (y_mon B hI), fun q9 => absurd hok q9, fun _ => ⟨rfl, rfl⟩⟩) (by exact Nat.le_of_ble_eq_true rfl) (by exact Nat.le_of_ble_eq_true rfl) Tel_d91
            · have q55_ : (0 : Int32).toInt = (0 : Int32).toInt := by rw [q55]
              refine lv_iload hx hb Tel_d58 (lv_at hl 0 rfl) ?_
              refine lv_if_ne hx hb Tel_d60 (tgt := 70) (by decide) (fun q60 => ?_) (fun q60 => ?_)
              · have q60_ : ¬ (0 : Int32).toInt = (0 : Int32).toInt := fun q => q60 (Int32.toInt_inj.mp q)
                have hw1 := hin_r47 (by assumption)
                have hok : m_elOk f x h w := ⟨by omega, by first | exact Or.inl ⟨by omega, by omega⟩ | exact Or.inr ⟨hin_r21 (by assumption), by have h9 := hin_r30 (by assumption); omega, by have h9 := hin_r30 (by assumption); omega⟩ | (exfalso; omega)⟩
                refine lv_aload_n hx hb Tel_d70 rfl (lv_at hl 2 rfl) ?_
                refine y_getf X (fl8 X.2.2.2.2.1) hI.1 hY_this rfl hs_hd Tel_d71 ?_
                refine y_getf X (fl154 X.2.2.2.2.1) hI.1 hY_hd rfl hs_anightHill Tel_d74 ?_
                refine lv_iload_n hx hb Tel_d77 rfl (lv_at hl 3 rfl) ?_
                refine lv_iload_n hx hb Tel_d78 rfl (lv_at hl 4 rfl) ?_
                have hs_old := hs_anightHill
                have hA_old := hA_anightHill
                refine y_iast X hY0 hI hY_anightHill rfl hA_anightHill (by omega) (by show _ < (12 : Int); omega) ⟨_, rfl, x_i32 _⟩ (by decide +kernel) Tel_d79 fun H locs hI h_new ho => ?_
                replace hA_anightHill := h_new
                generalize hf_f79 : y_up (fun j => f (136 + 2 * j)) x.toInt.toNat h = f79 at hA_anightHill
                replace hs_hd := y_slk hs_hd (ho _ (y_ne hY_this hY_anightHill rfl))
                replace hn0 := y_slk hn0 (ho _ (y_ne hY_hd hY_anightHill rfl))
                replace hn1 := y_slk hn1 (ho _ (y_ne hY_hd hY_anightHill rfl))
                replace hn2 := y_slk hn2 (ho _ (y_ne hY_hd hY_anightHill rfl))
                replace hs_anightHill := y_slk hs_anightHill (ho _ (y_ne hY_hd hY_anightHill rfl))
                replace hs_anightHow := y_slk hs_anightHow (ho _ (y_ne hY_hd hY_anightHill rfl))
                replace hA_anightHow := hA_anightHow.kept (ho _ (y_ne hY_anightHow hY_anightHill rfl))
                replace hL := hL.putA (c := (14, 30, 12, 136, 2)) (N := 12) hY_hd (by decide) rfl (by omega) hs_old hA_old h_new ho
                replace hF := fun b u g9 (hb : Y0 b = some u) (h42 : u ≠ 42) (hg9 : x_G[u]? = some g9) (hn : b ≠ hd) (hk9 : ∀ k, k < 16 → x_sl D 2 k hd s.heap ≠ some (.ref b)) => x_eq.trans (x_eq.of (ho b (fun e0 => hk9 14 (by decide) (by rw [e0]; exact hs0_anightHill)))) (hF b u g9 hb h42 hg9 hn hk9)
                replace hfld : z_fld D hd s.heap _ := fun k a b c d => (y_slk rfl (ho _ (y_ne hY_hd hY_anightHill rfl))).trans (hfld k a b c d)
                refine lv_aload_n hx hb Tel_d80 rfl (lv_at hl 2 rfl) ?_
                refine y_getf X (fl8 X.2.2.2.2.1) hI.1 hY_this rfl hs_hd Tel_d81 ?_
                refine y_getf X (fl155 X.2.2.2.2.1) hI.1 hY_hd rfl hs_anightHow Tel_d84 ?_
                refine lv_iload_n hx hb Tel_d87 rfl (lv_at hl 3 rfl) ?_
                refine lv_iload_n hx hb Tel_d88 rfl (lv_at hl 5 rfl) ?_
                have hs_old := hs_anightHow
                have hA_old := hA_anightHow
                refine y_iast X hY0 hI hY_anightHow rfl hA_anightHow (by omega) (by show _ < (12 : Int); omega) ⟨_, rfl, x_i32 _⟩ (by decide +kernel) Tel_d89 fun H locs hI h_new ho => ?_
                replace hA_anightHow := h_new
                generalize hf_f89 : y_up (fun j => f (137 + 2 * j)) x.toInt.toNat w = f89 at hA_anightHow
                replace hs_hd := y_slk hs_hd (ho _ (y_ne hY_this hY_anightHow rfl))
                replace hn0 := y_slk hn0 (ho _ (y_ne hY_hd hY_anightHow rfl))
                replace hn1 := y_slk hn1 (ho _ (y_ne hY_hd hY_anightHow rfl))
                replace hn2 := y_slk hn2 (ho _ (y_ne hY_hd hY_anightHow rfl))
                replace hs_anightHill := y_slk hs_anightHill (ho _ (y_ne hY_hd hY_anightHow rfl))
                replace hs_anightHow := y_slk hs_anightHow (ho _ (y_ne hY_hd hY_anightHow rfl))
                replace hA_anightHill := hA_anightHill.kept (ho _ (y_ne hY_anightHill hY_anightHow rfl))
                replace hL := hL.putA (c := (15, 31, 12, 137, 2)) (N := 12) hY_hd (by decide) rfl (by omega) hs_old hA_old h_new ho
                replace hF := fun b u g9 (hb : Y0 b = some u) (h42 : u ≠ 42) (hg9 : x_G[u]? = some g9) (hn : b ≠ hd) (hk9 : ∀ k, k < 16 → x_sl D 2 k hd s.heap ≠ some (.ref b)) => x_eq.trans (x_eq.of (ho b (fun e0 => hk9 15 (by decide) (by rw [e0]; exact hs0_anightHow)))) (hF b u g9 hb h42 hg9 hn hk9)
                replace hfld : z_fld D hd s.heap _ := fun k a b c d => (y_slk rfl (ho _ (y_ne hY_hd hY_anightHow rfl))).trans (hfld k a b c d)
                refine lv_iconst hx hb Tel_d90 (v := 1) (by decide) ?_
                exact y_ireturn B hI rfl rfl rfl List.mem_cons_self ⟨_, rfl, ⟨_, rfl, x_i32 _⟩⟩ (x_cs.mono B.2.2.2.2.2 (y_mon B hI)) (fun t' w0' w1' w2' f' K' tt' nn' h1 h2 => by cases h1; cases h2.eqf hR0; exact ⟨_, _, rfl, h2.fin hYt0 hs0_hd hF hL hfld (y_mon B hI), fun q9 => absurd hok q9, fun _ => ⟨rfl, rfl⟩⟩) (by exact Nat.le_of_ble_eq_true rfl) (by exact Nat.le_of_ble_eq_true rfl) Tel_d91
              · have q60_ : (0 : Int32).toInt = (0 : Int32).toInt := by rw [q60]
                have hno : ¬ m_elOk f x h w := fun q9 => by obtain ⟨a1, a2⟩ := q9; first | (have h9 := hout_r47 (by assumption); omega) | (rcases a2 with a2 | a2; omega; exact hout_r21 (by assumption) a2.1) | (rcases a2 with a2 | a2; omega; have h9 := hout_r30 (by assumption); omega) | omega
                refine lv_aload_n hx hb Tel_d63 rfl (lv_at hl 2 rfl) ?_
                refine lv_bipush hx hb Tel_d64 (v := (-2)) (by decide) ?_
                have ecm2 : ((-2) : Int32).toInt = (-2) := by decide
                refine y_call (z := (0, 59, 2, some 0, xM8)) (av := [.ref this, .int ((-2) : Int32)]) (rest := []) (y_cokV (n := 1) (ci := 11) X ym_counted rfl rfl rfl (x_cons (x_bw19 7 rfl rfl) (x_cons (x_bw19 9 rfl rfl) (x_cons (x_at 1 (by decide +kernel) rfl) (x_cons (x_bw0 1 rfl rfl) x_nilm)))) (x_bw19 10 rfl rfl) (by decide +kernel) ⟨Nat.le_of_ble_eq_true rfl, Nat.le_of_ble_eq_true rfl⟩) hY0 hI rfl Tel_d66 hl.1 (Nat.le_of_ble_eq_true rfl) (Nat.le_of_ble_eq_true rfl) (Nat.le_of_ble_eq_true rfl) (y_cons (y_cref hY_this rfl) (y_cons ⟨_, rfl, x_i32 _⟩ y_nil)) rfl (y_recv rfl hY_this) trivial (y_sub_ef rfl) fun v Yn o Hn L ho hr ha hIn hx_ hE hP => ?_
                replace hs_hd := y_Efld hE hY_this rfl (by decide) (by decide) hs_hd
                replace hn0 := y_Efld hE hY_hd rfl (by decide) (by decide) hn0
                replace hn1 := y_Efld hE hY_hd rfl (by decide) (by decide) hn1
                replace hn2 := y_Efld hE hY_hd rfl (by decide) (by decide) hn2
                replace hs_anightHill := y_Efld hE hY_hd rfl (by decide) (by decide) hs_anightHill
                replace hs_anightHow := y_Efld hE hY_hd rfl (by decide) (by decide) hs_anightHow
                replace hA_anightHill := hA_anightHill.kept (y_Earr hE hY_anightHill rfl (by decide))
                replace hA_anightHow := hA_anightHow.kept (y_Earr hE hY_anightHow rfl (by decide))
                replace hL := hL.E hY_hd hE (fun q u h => y_ext hx_ hI.1 h) (by decide +kernel)
                replace hF := fun b u g9 (hb : Y0 b = some u) (h42 : u ≠ 42) (hg9 : x_G[u]? = some g9) (hn : b ≠ hd) (hk9 : ∀ k, k < 16 → x_sl D 2 k hd s.heap ≠ some (.ref b)) => x_eq.trans (x_eq.E42 hE (y_mon B hI _ _ hb) hg9 h42 rfl) (hF b u g9 hb h42 hg9 hn hk9)
                replace hfld : z_fld D hd s.heap _ := fun k a b c d => ((x_eq.E42 (g := x_G[2]) hE hY_hd rfl (by decide) rfl) k a).trans (hfld k a b c d)
                replace hY_this := y_ext hx_ hI.1 hY_this
                replace hY_hd := y_ext hx_ hI.1 hY_hd
                replace hY_anightHill := y_ext hx_ hI.1 hY_anightHill
                replace hY_anightHow := y_ext hx_ hI.1 hY_anightHow
                obtain rfl := hP _ _ rfl
                clear ho hr ha hE hP hI hx_
                rename x_I _ _ _ _ _ _ _ _ _ _ => hI
                exact y_ireturn B hI rfl rfl rfl List.mem_cons_self ⟨_, rfl, ⟨_, rfl, x_i32 _⟩⟩ (x_cs.mono B.2.2.2.2.2 (y_mon B hI)) (fun t' w0' w1' w2' f' K' tt' nn' h1 h2 => by cases h1; cases h2.eqf hR0; exact ⟨_, _, rfl, h2.fin hYt0 hs0_hd hF hL hfld (y_mon B hI), fun _ => ⟨rfl, rfl⟩, fun q9 => absurd q9 hno⟩) (by exact Nat.le_of_ble_eq_true rfl) (by exact Nat.le_of_ble_eq_true rfl) Tel_d69
        · have q33_ : ¬ r30.toInt = (0 : Int32).toInt := fun q => q33 (Int32.toInt_inj.mp q)
          refine lv_iconst hx hb Tel_d36 (v := 1) (by decide) ?_
          refine lv_goto hx hb Tel_d37 (tgt := 41) (by decide) ?_
          refine lv_istore hx hb Tel_d41 hl (by decide) (lv' := [(5, .int (1 : Int32)), (4, .int (0 : Int32)), (0, .ref this), (1, .int x), (2, .int h), (3, .int w)]) rfl fun ls hl => ?_
          refine lv_iload_n hx hb Tel_d43 rfl (lv_at hl 3 rfl) ?_
          refine lv_iconst hx hb Tel_d44 (v := 0) (by decide) ?_
          refine lv_bipush hx hb Tel_d45 (v := 11) (by decide) ?_
          have ec11 : (11 : Int32).toInt = 11 := by decide
          refine y_call (z := (1, 88, 3, none, xM10)) (av := [.int x, .int (0 : Int32), .int (11 : Int32)]) (rest := []) (y_cokS (n := 3) X ym_within (x_cons (x_bw19 15 rfl rfl) (x_cons (x_bw19 1 rfl rfl) (x_cons (x_bw0 1 rfl rfl) x_nilm))) (x_bw19 2 rfl rfl) (by decide +kernel) ⟨Nat.le_of_ble_eq_true rfl, Nat.le_of_ble_eq_true rfl⟩) hY0 hI rfl Tel_d47 hl.1 (Nat.le_of_ble_eq_true rfl) (Nat.le_of_ble_eq_true rfl) (Nat.le_of_ble_eq_true rfl) (y_cons ⟨_, rfl, x_i32 _⟩ (y_cons ⟨_, rfl, x_i32 _⟩ (y_cons ⟨_, rfl, x_i32 _⟩ y_nil))) rfl (y_norecv rfl) trivial (y_sub_ef rfl) fun v Yn o Hn L ho hr ha hIn hx_ hE hP => ?_
          replace hs_hd := y_Efld hE hY_this rfl (by decide) (by decide) hs_hd
          replace hn0 := y_Efld hE hY_hd rfl (by decide) (by decide) hn0
          replace hn1 := y_Efld hE hY_hd rfl (by decide) (by decide) hn1
          replace hn2 := y_Efld hE hY_hd rfl (by decide) (by decide) hn2
          replace hs_anightHill := y_Efld hE hY_hd rfl (by decide) (by decide) hs_anightHill
          replace hs_anightHow := y_Efld hE hY_hd rfl (by decide) (by decide) hs_anightHow
          replace hA_anightHill := hA_anightHill.kept (y_Earr hE hY_anightHill rfl (by decide))
          replace hA_anightHow := hA_anightHow.kept (y_Earr hE hY_anightHow rfl (by decide))
          replace hL := hL.E hY_hd hE (fun q u h => y_ext hx_ hI.1 h) (by decide +kernel)
          replace hF := fun b u g9 (hb : Y0 b = some u) (h42 : u ≠ 42) (hg9 : x_G[u]? = some g9) (hn : b ≠ hd) (hk9 : ∀ k, k < 16 → x_sl D 2 k hd s.heap ≠ some (.ref b)) => x_eq.trans (x_eq.E42 hE (y_mon B hI _ _ hb) hg9 h42 rfl) (hF b u g9 hb h42 hg9 hn hk9)
          replace hfld : z_fld D hd s.heap _ := fun k a b c d => ((x_eq.E42 (g := x_G[2]) hE hY_hd rfl (by decide) rfl) k a).trans (hfld k a b c d)
          replace hY_this := y_ext hx_ hI.1 hY_this
          replace hY_hd := y_ext hx_ hI.1 hY_hd
          replace hY_anightHill := y_ext hx_ hI.1 hY_anightHill
          replace hY_anightHow := y_ext hx_ hI.1 hY_anightHow
          obtain ⟨r47, rfl, hin_r47, hout_r47⟩ := hP _ _ _ rfl
          clear ho hr ha hE hP hI hx_
          rename x_I _ _ _ _ _ _ _ _ _ _ => hI
          refine lv_if_eq hx hb Tel_d50 (tgt := 63) (by decide) (fun q50 => ?_) (fun q50 => ?_)
          · have q50_ : r47.toInt = (0 : Int32).toInt := by rw [q50]
            have hno : ¬ m_elOk f x h w := fun q9 => by obtain ⟨a1, a2⟩ := q9; first | (have h9 := hout_r47 (by assumption); omega) | (rcases a2 with a2 | a2; omega; exact hout_r21 (by assumption) a2.1) | (rcases a2 with a2 | a2; omega; have h9 := hout_r30 (by assumption); omega) | omega
            refine lv_aload_n hx hb Tel_d63 rfl (lv_at hl 2 rfl) ?_
            refine lv_bipush hx hb Tel_d64 (v := (-2)) (by decide) ?_
            have ecm2 : ((-2) : Int32).toInt = (-2) := by decide
            refine y_call (z := (0, 59, 2, some 0, xM8)) (av := [.ref this, .int ((-2) : Int32)]) (rest := []) (y_cokV (n := 1) (ci := 11) X ym_counted rfl rfl rfl (x_cons (x_bw19 7 rfl rfl) (x_cons (x_bw19 9 rfl rfl) (x_cons (x_at 1 (by decide +kernel) rfl) (x_cons (x_bw0 1 rfl rfl) x_nilm)))) (x_bw19 10 rfl rfl) (by decide +kernel) ⟨Nat.le_of_ble_eq_true rfl, Nat.le_of_ble_eq_true rfl⟩) hY0 hI rfl Tel_d66 hl.1 (Nat.le_of_ble_eq_true rfl) (Nat.le_of_ble_eq_true rfl) (Nat.le_of_ble_eq_true rfl) (y_cons (y_cref hY_this rfl) (y_cons ⟨_, rfl, x_i32 _⟩ y_nil)) rfl (y_recv rfl hY_this) trivial (y_sub_ef rfl) fun v Yn o Hn L ho hr ha hIn hx_ hE hP => ?_
            replace hs_hd := y_Efld hE hY_this rfl (by decide) (by decide) hs_hd
            replace hn0 := y_Efld hE hY_hd rfl (by decide) (by decide) hn0
            replace hn1 := y_Efld hE hY_hd rfl (by decide) (by decide) hn1
            replace hn2 := y_Efld hE hY_hd rfl (by decide) (by decide) hn2
            replace hs_anightHill := y_Efld hE hY_hd rfl (by decide) (by decide) hs_anightHill
            replace hs_anightHow := y_Efld hE hY_hd rfl (by decide) (by decide) hs_anightHow
            replace hA_anightHill := hA_anightHill.kept (y_Earr hE hY_anightHill rfl (by decide))
            replace hA_anightHow := hA_anightHow.kept (y_Earr hE hY_anightHow rfl (by decide))
            replace hL := hL.E hY_hd hE (fun q u h => y_ext hx_ hI.1 h) (by decide +kernel)
            replace hF := fun b u g9 (hb : Y0 b = some u) (h42 : u ≠ 42) (hg9 : x_G[u]? = some g9) (hn : b ≠ hd) (hk9 : ∀ k, k < 16 → x_sl D 2 k hd s.heap ≠ some (.ref b)) => x_eq.trans (x_eq.E42 hE (y_mon B hI _ _ hb) hg9 h42 rfl) (hF b u g9 hb h42 hg9 hn hk9)
            replace hfld : z_fld D hd s.heap _ := fun k a b c d => ((x_eq.E42 (g := x_G[2]) hE hY_hd rfl (by decide) rfl) k a).trans (hfld k a b c d)
            replace hY_this := y_ext hx_ hI.1 hY_this
            replace hY_hd := y_ext hx_ hI.1 hY_hd
            replace hY_anightHill := y_ext hx_ hI.1 hY_anightHill
            replace hY_anightHow := y_ext hx_ hI.1 hY_anightHow
            obtain rfl := hP _ _ rfl
            clear ho hr ha hE hP hI hx_
            rename x_I _ _ _ _ _ _ _ _ _ _ => hI
            exact y_ireturn B hI rfl rfl rfl List.mem_cons_self ⟨_, rfl, ⟨_, rfl, x_i32 _⟩⟩ (x_cs.mono B.2.2.2.2.2 (y_mon B hI)) (fun t' w0' w1' w2' f' K' tt' nn' h1 h2 => by cases h1; cases h2.eqf hR0; exact ⟨_, _, rfl, h2.fin hYt0 hs0_hd hF hL hfld (y_mon B hI), fun _ => ⟨rfl, rfl⟩, fun q9 => absurd q9 hno⟩) (by exact Nat.le_of_ble_eq_true rfl) (by exact Nat.le_of_ble_eq_true rfl) Tel_d69
          · have q50_ : ¬ r47.toInt = (0 : Int32).toInt := fun q => q50 (Int32.toInt_inj.mp q)
            refine lv_iload hx hb Tel_d53 (lv_at hl 1 rfl) ?_
            refine lv_if_ne hx hb Tel_d55 (tgt := 70) (by decide) (fun q55 => ?_) (fun q55 => ?_)
            · have q55_ : ¬ (0 : Int32).toInt = (0 : Int32).toInt := fun q => q55 (Int32.toInt_inj.mp q)
              have hw1 := hin_r47 (by assumption)
              have hok : m_elOk f x h w := ⟨by omega, by first | exact Or.inl ⟨by omega, by omega⟩ | exact Or.inr ⟨hin_r21 (by assumption), by have h9 := hin_r30 (by assumption); omega, by have h9 := hin_r30 (by assumption); omega⟩ | (exfalso; omega)⟩
              refine lv_aload_n hx hb Tel_d70 rfl (lv_at hl 2 rfl) ?_
              refine y_getf X (fl8 X.2.2.2.2.1) hI.1 hY_this rfl hs_hd Tel_d71 ?_
              refine y_getf X (fl154 X.2.2.2.2.1) hI.1 hY_hd rfl hs_anightHill Tel_d74 ?_
              refine lv_iload_n hx hb Tel_d77 rfl (lv_at hl 3 rfl) ?_
              refine lv_iload_n hx hb Tel_d78 rfl (lv_at hl 4 rfl) ?_
              have hs_old := hs_anightHill
              have hA_old := hA_anightHill
              refine y_iast X hY0 hI hY_anightHill rfl hA_anightHill (by omega) (by show _ < (12 : Int); omega) ⟨_, rfl, x_i32 _⟩ (by decide +kernel) Tel_d79 fun H locs hI h_new ho => ?_
              replace hA_anightHill := h_new
              generalize hf_f79 : y_up (fun j => f (136 + 2 * j)) x.toInt.toNat h = f79 at hA_anightHill
              replace hs_hd := y_slk hs_hd (ho _ (y_ne hY_this hY_anightHill rfl))
              replace hn0 := y_slk hn0 (ho _ (y_ne hY_hd hY_anightHill rfl))
              replace hn1 := y_slk hn1 (ho _ (y_ne hY_hd hY_anightHill rfl))
              replace hn2 := y_slk hn2 (ho _ (y_ne hY_hd hY_anightHill rfl))
              replace hs_anightHill := y_slk hs_anightHill (ho _ (y_ne hY_hd hY_anightHill rfl))
              replace hs_anightHow := y_slk hs_anightHow (ho _ (y_ne hY_hd hY_anightHill rfl))
              replace hA_anightHow := hA_anightHow.kept (ho _ (y_ne hY_anightHow hY_anightHill rfl))
              replace hL := hL.putA (c := (14, 30, 12, 136, 2)) (N := 12) hY_hd (by decide) rfl (by omega) hs_old hA_old h_new ho
              replace hF := fun b u g9 (hb : Y0 b = some u) (h42 : u ≠ 42) (hg9 : x_G[u]? = some g9) (hn : b ≠ hd) (hk9 : ∀ k, k < 16 → x_sl D 2 k hd s.heap ≠ some (.ref b)) => x_eq.trans (x_eq.of (ho b (fun e0 => hk9 14 (by decide) (by rw [e0]; exact hs0_anightHill)))) (hF b u g9 hb h42 hg9 hn hk9)
              replace hfld : z_fld D hd s.heap _ := fun k a b c d => (y_slk rfl (ho _ (y_ne hY_hd hY_anightHill rfl))).trans (hfld k a b c d)
              refine lv_aload_n hx hb Tel_d80 rfl (lv_at hl 2 rfl) ?_
              refine y_getf X (fl8 X.2.2.2.2.1) hI.1 hY_this rfl hs_hd Tel_d81 ?_
              refine y_getf X (fl155 X.2.2.2.2.1) hI.1 hY_hd rfl hs_anightHow Tel_d84 ?_
              refine lv_iload_n hx hb Tel_d87 rfl (lv_at hl 3 rfl) ?_
              refine lv_iload_n hx hb Tel_d88 rfl (lv_at hl 5 rfl) ?_
              have hs_old := hs_anightHow
              have hA_old := hA_anightHow
              refine y_iast X hY0 hI hY_anightHow rfl hA_anightHow (by omega) (by show _ < (12 : Int); omega) ⟨_, rfl, x_i32 _⟩ (by decide +kernel) Tel_d89 fun H locs hI h_new ho => ?_
              replace hA_anightHow := h_new
              generalize hf_f89 : y_up (fun j => f (137 + 2 * j)) x.toInt.toNat w = f89 at hA_anightHow
              replace hs_hd := y_slk hs_hd (ho _ (y_ne hY_this hY_anightHow rfl))
              replace hn0 := y_slk hn0 (ho _ (y_ne hY_hd hY_anightHow rfl))
              replace hn1 := y_slk hn1 (ho _ (y_ne hY_hd hY_anightHow rfl))
              replace hn2 := y_slk hn2 (ho _ (y_ne hY_hd hY_anightHow rfl))
              replace hs_anightHill := y_slk hs_anightHill (ho _ (y_ne hY_hd hY_anightHow rfl))
              replace hs_anightHow := y_slk hs_anightHow (ho _ (y_ne hY_hd hY_anightHow rfl))
              replace hA_anightHill := hA_anightHill.kept (ho _ (y_ne hY_anightHill hY_anightHow rfl))
              replace hL := hL.putA (c := (15, 31, 12, 137, 2)) (N := 12) hY_hd (by decide) rfl (by omega) hs_old hA_old h_new ho
              replace hF := fun b u g9 (hb : Y0 b = some u) (h42 : u ≠ 42) (hg9 : x_G[u]? = some g9) (hn : b ≠ hd) (hk9 : ∀ k, k < 16 → x_sl D 2 k hd s.heap ≠ some (.ref b)) => x_eq.trans (x_eq.of (ho b (fun e0 => hk9 15 (by decide) (by rw [e0]; exact hs0_anightHow)))) (hF b u g9 hb h42 hg9 hn hk9)
              replace hfld : z_fld D hd s.heap _ := fun k a b c d => (y_slk rfl (ho _ (y_ne hY_hd hY_anightHow rfl))).trans (hfld k a b c d)
              refine lv_iconst hx hb Tel_d90 (v := 1) (by decide) ?_
              exact y_ireturn B hI rfl rfl rfl List.mem_cons_self ⟨_, rfl, ⟨_, rfl, x_i32 _⟩⟩ (x_cs.mono B.2.2.2.2.2 (y_mon B hI)) (fun t' w0' w1' w2' f' K' tt' nn' h1 h2 => by cases h1; cases h2.eqf hR0; exact ⟨_, _, rfl, h2.fin hYt0 hs0_hd hF hL hfld (y_mon B hI), fun q9 => absurd hok q9, fun _ => ⟨rfl, rfl⟩⟩) (by exact Nat.le_of_ble_eq_true rfl) (by exact Nat.le_of_ble_eq_true rfl) Tel_d91
            · have q55_ : (0 : Int32).toInt = (0 : Int32).toInt := by rw [q55]
              refine lv_iload hx hb Tel_d58 (lv_at hl 0 rfl) ?_
              refine lv_if_ne hx hb Tel_d60 (tgt := 70) (by decide) (fun q60 => ?_) (fun q60 => ?_)
              · have q60_ : ¬ (1 : Int32).toInt = (0 : Int32).toInt := fun q => q60 (Int32.toInt_inj.mp q)
                have hw1 := hin_r47 (by assumption)
                have hok : m_elOk f x h w := ⟨by omega, by first | exact Or.inl ⟨by omega, by omega⟩ | exact Or.inr ⟨hin_r21 (by assumption), by have h9 := hin_r30 (by assumption); omega, by have h9 := hin_r30 (by assumption); omega⟩ | (exfalso; omega)⟩
                refine lv_aload_n hx hb Tel_d70 rfl (lv_at hl 2 rfl) ?_
                refine y_getf X (fl8 X.2.2.2.2.1) hI.1 hY_this rfl hs_hd Tel_d71 ?_
                refine y_getf X (fl154 X.2.2.2.2.1) hI.1 hY_hd rfl hs_anightHill Tel_d74 ?_
                refine lv_iload_n hx hb Tel_d77 rfl (lv_at hl 3 rfl) ?_
                refine lv_iload_n hx hb Tel_d78 rfl (lv_at hl 4 rfl) ?_
                have hs_old := hs_anightHill
                have hA_old := hA_anightHill
                refine y_iast X hY0 hI hY_anightHill rfl hA_anightHill (by omega) (by show _ < (12 : Int); omega) ⟨_, rfl, x_i32 _⟩ (by decide +kernel) Tel_d79 fun H locs hI h_new ho => ?_
                replace hA_anightHill := h_new
                generalize hf_f79 : y_up (fun j => f (136 + 2 * j)) x.toInt.toNat h = f79 at hA_anightHill
                replace hs_hd := y_slk hs_hd (ho _ (y_ne hY_this hY_anightHill rfl))
                replace hn0 := y_slk hn0 (ho _ (y_ne hY_hd hY_anightHill rfl))
                replace hn1 := y_slk hn1 (ho _ (y_ne hY_hd hY_anightHill rfl))
                replace hn2 := y_slk hn2 (ho _ (y_ne hY_hd hY_anightHill rfl))
                replace hs_anightHill := y_slk hs_anightHill (ho _ (y_ne hY_hd hY_anightHill rfl))
                replace hs_anightHow := y_slk hs_anightHow (ho _ (y_ne hY_hd hY_anightHill rfl))
                replace hA_anightHow := hA_anightHow.kept (ho _ (y_ne hY_anightHow hY_anightHill rfl))
                replace hL := hL.putA (c := (14, 30, 12, 136, 2)) (N := 12) hY_hd (by decide) rfl (by omega) hs_old hA_old h_new ho
                replace hF := fun b u g9 (hb : Y0 b = some u) (h42 : u ≠ 42) (hg9 : x_G[u]? = some g9) (hn : b ≠ hd) (hk9 : ∀ k, k < 16 → x_sl D 2 k hd s.heap ≠ some (.ref b)) => x_eq.trans (x_eq.of (ho b (fun e0 => hk9 14 (by decide) (by rw [e0]; exact hs0_anightHill)))) (hF b u g9 hb h42 hg9 hn hk9)
                replace hfld : z_fld D hd s.heap _ := fun k a b c d => (y_slk rfl (ho _ (y_ne hY_hd hY_anightHill rfl))).trans (hfld k a b c d)
                refine lv_aload_n hx hb Tel_d80 rfl (lv_at hl 2 rfl) ?_
                refine y_getf X (fl8 X.2.2.2.2.1) hI.1 hY_this rfl hs_hd Tel_d81 ?_
                refine y_getf X (fl155 X.2.2.2.2.1) hI.1 hY_hd rfl hs_anightHow Tel_d84 ?_
                refine lv_iload_n hx hb Tel_d87 rfl (lv_at hl 3 rfl) ?_
                refine lv_iload_n hx hb Tel_d88 rfl (lv_at hl 5 rfl) ?_
                have hs_old := hs_anightHow
                have hA_old := hA_anightHow
                refine y_iast X hY0 hI hY_anightHow rfl hA_anightHow (by omega) (by show _ < (12 : Int); omega) ⟨_, rfl, x_i32 _⟩ (by decide +kernel) Tel_d89 fun H locs hI h_new ho => ?_
                replace hA_anightHow := h_new
                generalize hf_f89 : y_up (fun j => f (137 + 2 * j)) x.toInt.toNat w = f89 at hA_anightHow
                replace hs_hd := y_slk hs_hd (ho _ (y_ne hY_this hY_anightHow rfl))
                replace hn0 := y_slk hn0 (ho _ (y_ne hY_hd hY_anightHow rfl))
                replace hn1 := y_slk hn1 (ho _ (y_ne hY_hd hY_anightHow rfl))
                replace hn2 := y_slk hn2 (ho _ (y_ne hY_hd hY_anightHow rfl))
                replace hs_anightHill := y_slk hs_anightHill (ho _ (y_ne hY_hd hY_anightHow rfl))
                replace hs_anightHow := y_slk hs_anightHow (ho _ (y_ne hY_hd hY_anightHow rfl))
                replace hA_anightHill := hA_anightHill.kept (ho _ (y_ne hY_anightHill hY_anightHow rfl))
                replace hL := hL.putA (c := (15, 31, 12, 137, 2)) (N := 12) hY_hd (by decide) rfl (by omega) hs_old hA_old h_new ho
                replace hF := fun b u g9 (hb : Y0 b = some u) (h42 : u ≠ 42) (hg9 : x_G[u]? = some g9) (hn : b ≠ hd) (hk9 : ∀ k, k < 16 → x_sl D 2 k hd s.heap ≠ some (.ref b)) => x_eq.trans (x_eq.of (ho b (fun e0 => hk9 15 (by decide) (by rw [e0]; exact hs0_anightHow)))) (hF b u g9 hb h42 hg9 hn hk9)
                replace hfld : z_fld D hd s.heap _ := fun k a b c d => (y_slk rfl (ho _ (y_ne hY_hd hY_anightHow rfl))).trans (hfld k a b c d)
                refine lv_iconst hx hb Tel_d90 (v := 1) (by decide) ?_
                exact y_ireturn B hI rfl rfl rfl List.mem_cons_self ⟨_, rfl, ⟨_, rfl, x_i32 _⟩⟩ (x_cs.mono B.2.2.2.2.2 (y_mon B hI)) (fun t' w0' w1' w2' f' K' tt' nn' h1 h2 => by cases h1; cases h2.eqf hR0; exact ⟨_, _, rfl, h2.fin hYt0 hs0_hd hF hL hfld (y_mon B hI), fun q9 => absurd hok q9, fun _ => ⟨rfl, rfl⟩⟩) (by exact Nat.le_of_ble_eq_true rfl) (by exact Nat.le_of_ble_eq_true rfl) Tel_d91
              · have q60_ : (1 : Int32).toInt = (0 : Int32).toInt := by rw [q60]
                have hno : ¬ m_elOk f x h w := fun q9 => by obtain ⟨a1, a2⟩ := q9; first | (have h9 := hout_r47 (by assumption); omega) | (rcases a2 with a2 | a2; omega; exact hout_r21 (by assumption) a2.1) | (rcases a2 with a2 | a2; omega; have h9 := hout_r30 (by assumption); omega) | omega
                refine lv_aload_n hx hb Tel_d63 rfl (lv_at hl 2 rfl) ?_
                refine lv_bipush hx hb Tel_d64 (v := (-2)) (by decide) ?_
                have ecm2 : ((-2) : Int32).toInt = (-2) := by decide
                refine y_call (z := (0, 59, 2, some 0, xM8)) (av := [.ref this, .int ((-2) : Int32)]) (rest := []) (y_cokV (n := 1) (ci := 11) X ym_counted rfl rfl rfl (x_cons (x_bw19 7 rfl rfl) (x_cons (x_bw19 9 rfl rfl) (x_cons (x_at 1 (by decide +kernel) rfl) (x_cons (x_bw0 1 rfl rfl) x_nilm)))) (x_bw19 10 rfl rfl) (by decide +kernel) ⟨Nat.le_of_ble_eq_true rfl, Nat.le_of_ble_eq_true rfl⟩) hY0 hI rfl Tel_d66 hl.1 (Nat.le_of_ble_eq_true rfl) (Nat.le_of_ble_eq_true rfl) (Nat.le_of_ble_eq_true rfl) (y_cons (y_cref hY_this rfl) (y_cons ⟨_, rfl, x_i32 _⟩ y_nil)) rfl (y_recv rfl hY_this) trivial (y_sub_ef rfl) fun v Yn o Hn L ho hr ha hIn hx_ hE hP => ?_
                replace hs_hd := y_Efld hE hY_this rfl (by decide) (by decide) hs_hd
                replace hn0 := y_Efld hE hY_hd rfl (by decide) (by decide) hn0
                replace hn1 := y_Efld hE hY_hd rfl (by decide) (by decide) hn1
                replace hn2 := y_Efld hE hY_hd rfl (by decide) (by decide) hn2
                replace hs_anightHill := y_Efld hE hY_hd rfl (by decide) (by decide) hs_anightHill
                replace hs_anightHow := y_Efld hE hY_hd rfl (by decide) (by decide) hs_anightHow
                replace hA_anightHill := hA_anightHill.kept (y_Earr hE hY_anightHill rfl (by decide))
                replace hA_anightHow := hA_anightHow.kept (y_Earr hE hY_anightHow rfl (by decide))
                replace hL := hL.E hY_hd hE (fun q u h => y_ext hx_ hI.1 h) (by decide +kernel)
                replace hF := fun b u g9 (hb : Y0 b = some u) (h42 : u ≠ 42) (hg9 : x_G[u]? = some g9) (hn : b ≠ hd) (hk9 : ∀ k, k < 16 → x_sl D 2 k hd s.heap ≠ some (.ref b)) => x_eq.trans (x_eq.E42 hE (y_mon B hI _ _ hb) hg9 h42 rfl) (hF b u g9 hb h42 hg9 hn hk9)
                replace hfld : z_fld D hd s.heap _ := fun k a b c d => ((x_eq.E42 (g := x_G[2]) hE hY_hd rfl (by decide) rfl) k a).trans (hfld k a b c d)
                replace hY_this := y_ext hx_ hI.1 hY_this
                replace hY_hd := y_ext hx_ hI.1 hY_hd
                replace hY_anightHill := y_ext hx_ hI.1 hY_anightHill
                replace hY_anightHow := y_ext hx_ hI.1 hY_anightHow
                obtain rfl := hP _ _ rfl
                clear ho hr ha hE hP hI hx_
                rename x_I _ _ _ _ _ _ _ _ _ _ => hI
                exact y_ireturn B hI rfl rfl rfl List.mem_cons_self ⟨_, rfl, ⟨_, rfl, x_i32 _⟩⟩ (x_cs.mono B.2.2.2.2.2 (y_mon B hI)) (fun t' w0' w1' w2' f' K' tt' nn' h1 h2 => by cases h1; cases h2.eqf hR0; exact ⟨_, _, rfl, h2.fin hYt0 hs0_hd hF hL hfld (y_mon B hI), fun _ => ⟨rfl, rfl⟩, fun q9 => absurd q9 hno⟩) (by exact Nat.le_of_ble_eq_true rfl) (by exact Nat.le_of_ble_eq_true rfl) Tel_d69
    · have q6_ : w.toInt = (0 : Int32).toInt := by rw [q6]
      refine lv_iconst hx hb Tel_d9 (v := 1) (by decide) ?_
      have ec1 : (1 : Int32).toInt = 1 := by decide
      refine lv_goto hx hb Tel_d10 (tgt := 14) (by decide) ?_
      refine lv_istore hx hb Tel_d14 hl (by decide) (lv' := [(4, .int (1 : Int32)), (0, .ref this), (1, .int x), (2, .int h), (3, .int w)]) rfl fun ls hl => ?_
      refine lv_aload_n hx hb Tel_d16 rfl (lv_at hl 1 rfl) ?_
      refine y_getf X (fl8 X.2.2.2.2.1) hI.1 hY_this rfl hs_hd Tel_d17 ?_
      refine lv_iload_n hx hb Tel_d20 rfl (lv_at hl 3 rfl) ?_
      refine y_call (z := (0, 101, 2, some 2, xM40)) (av := [.ref hd, .int h]) (rest := []) (y_cokV (n := 1) (ci := 2) X ym_hasHill rfl rfl rfl (x_cons (x_bw29 8 rfl rfl) (x_cons (x_bw29 9 rfl rfl) (x_cons (x_bw29 10 rfl rfl) (x_cons (x_bw0 2 rfl rfl) x_nilm)))) (x_bw29 11 rfl rfl) (by decide +kernel) ⟨Nat.le_of_ble_eq_true rfl, Nat.le_of_ble_eq_true rfl⟩) hY0 hI rfl Tel_d21 hl.1 (Nat.le_of_ble_eq_true rfl) (Nat.le_of_ble_eq_true rfl) (Nat.le_of_ble_eq_true rfl) (y_cons (y_cref hY_hd rfl) (y_cons ⟨_, rfl, x_i32 _⟩ y_nil)) rfl (y_recv rfl hY_hd) trivial (y_sub_ef rfl) fun v Yn o Hn L ho hr ha hIn hx_ hE hP => ?_
      have hPh := hP _ _ _ rfl hn0
      replace hs_hd := y_Efld hE hY_this rfl (by decide) (by decide) hs_hd
      replace hn0 := y_Efld hE hY_hd rfl (by decide) (by decide) hn0
      replace hn1 := y_Efld hE hY_hd rfl (by decide) (by decide) hn1
      replace hn2 := y_Efld hE hY_hd rfl (by decide) (by decide) hn2
      replace hs_anightHill := y_Efld hE hY_hd rfl (by decide) (by decide) hs_anightHill
      replace hs_anightHow := y_Efld hE hY_hd rfl (by decide) (by decide) hs_anightHow
      replace hA_anightHill := hA_anightHill.kept (y_Earr hE hY_anightHill rfl (by decide))
      replace hA_anightHow := hA_anightHow.kept (y_Earr hE hY_anightHow rfl (by decide))
      replace hL := hL.E hY_hd hE (fun q u h => y_ext hx_ hI.1 h) (by decide +kernel)
      replace hF := fun b u g9 (hb : Y0 b = some u) (h42 : u ≠ 42) (hg9 : x_G[u]? = some g9) (hn : b ≠ hd) (hk9 : ∀ k, k < 16 → x_sl D 2 k hd s.heap ≠ some (.ref b)) => x_eq.trans (x_eq.E42 hE (y_mon B hI _ _ hb) hg9 h42 rfl) (hF b u g9 hb h42 hg9 hn hk9)
      replace hfld : z_fld D hd s.heap _ := fun k a b c d => ((x_eq.E42 (g := x_G[2]) hE hY_hd rfl (by decide) rfl) k a).trans (hfld k a b c d)
      replace hY_this := y_ext hx_ hI.1 hY_this
      replace hY_hd := y_ext hx_ hI.1 hY_hd
      replace hY_anightHill := y_ext hx_ hI.1 hY_anightHill
      replace hY_anightHow := y_ext hx_ hI.1 hY_anightHow
      obtain ⟨r21, rfl, hin_r21, hout_r21⟩ := hPh
      clear ho hr ha hE hP hI hx_
      rename x_I _ _ _ _ _ _ _ _ _ _ => hI
      refine lv_if_eq hx hb Tel_d24 (tgt := 40) (by decide) (fun q24 => ?_) (fun q24 => ?_)
      · have q24_ : r21.toInt = (0 : Int32).toInt := by rw [q24]
        refine lv_iconst hx hb Tel_d40 (v := 0) (by decide) ?_
        refine lv_istore hx hb Tel_d41 hl (by decide) (lv' := [(5, .int (0 : Int32)), (4, .int (1 : Int32)), (0, .ref this), (1, .int x), (2, .int h), (3, .int w)]) rfl fun ls hl => ?_
        refine lv_iload_n hx hb Tel_d43 rfl (lv_at hl 3 rfl) ?_
        refine lv_iconst hx hb Tel_d44 (v := 0) (by decide) ?_
        refine lv_bipush hx hb Tel_d45 (v := 11) (by decide) ?_
        have ec11 : (11 : Int32).toInt = 11 := by decide
        refine y_call (z := (1, 88, 3, none, xM10)) (av := [.int x, .int (0 : Int32), .int (11 : Int32)]) (rest := []) (y_cokS (n := 3) X ym_within (x_cons (x_bw19 15 rfl rfl) (x_cons (x_bw19 1 rfl rfl) (x_cons (x_bw0 1 rfl rfl) x_nilm))) (x_bw19 2 rfl rfl) (by decide +kernel) ⟨Nat.le_of_ble_eq_true rfl, Nat.le_of_ble_eq_true rfl⟩) hY0 hI rfl Tel_d47 hl.1 (Nat.le_of_ble_eq_true rfl) (Nat.le_of_ble_eq_true rfl) (Nat.le_of_ble_eq_true rfl) (y_cons ⟨_, rfl, x_i32 _⟩ (y_cons ⟨_, rfl, x_i32 _⟩ (y_cons ⟨_, rfl, x_i32 _⟩ y_nil))) rfl (y_norecv rfl) trivial (y_sub_ef rfl) fun v Yn o Hn L ho hr ha hIn hx_ hE hP => ?_
        replace hs_hd := y_Efld hE hY_this rfl (by decide) (by decide) hs_hd
        replace hn0 := y_Efld hE hY_hd rfl (by decide) (by decide) hn0
        replace hn1 := y_Efld hE hY_hd rfl (by decide) (by decide) hn1
        replace hn2 := y_Efld hE hY_hd rfl (by decide) (by decide) hn2
        replace hs_anightHill := y_Efld hE hY_hd rfl (by decide) (by decide) hs_anightHill
        replace hs_anightHow := y_Efld hE hY_hd rfl (by decide) (by decide) hs_anightHow
        replace hA_anightHill := hA_anightHill.kept (y_Earr hE hY_anightHill rfl (by decide))
        replace hA_anightHow := hA_anightHow.kept (y_Earr hE hY_anightHow rfl (by decide))
        replace hL := hL.E hY_hd hE (fun q u h => y_ext hx_ hI.1 h) (by decide +kernel)
        replace hF := fun b u g9 (hb : Y0 b = some u) (h42 : u ≠ 42) (hg9 : x_G[u]? = some g9) (hn : b ≠ hd) (hk9 : ∀ k, k < 16 → x_sl D 2 k hd s.heap ≠ some (.ref b)) => x_eq.trans (x_eq.E42 hE (y_mon B hI _ _ hb) hg9 h42 rfl) (hF b u g9 hb h42 hg9 hn hk9)
        replace hfld : z_fld D hd s.heap _ := fun k a b c d => ((x_eq.E42 (g := x_G[2]) hE hY_hd rfl (by decide) rfl) k a).trans (hfld k a b c d)
        replace hY_this := y_ext hx_ hI.1 hY_this
        replace hY_hd := y_ext hx_ hI.1 hY_hd
        replace hY_anightHill := y_ext hx_ hI.1 hY_anightHill
        replace hY_anightHow := y_ext hx_ hI.1 hY_anightHow
        obtain ⟨r47, rfl, hin_r47, hout_r47⟩ := hP _ _ _ rfl
        clear ho hr ha hE hP hI hx_
        rename x_I _ _ _ _ _ _ _ _ _ _ => hI
        refine lv_if_eq hx hb Tel_d50 (tgt := 63) (by decide) (fun q50 => ?_) (fun q50 => ?_)
        · have q50_ : r47.toInt = (0 : Int32).toInt := by rw [q50]
          have hno : ¬ m_elOk f x h w := fun q9 => by obtain ⟨a1, a2⟩ := q9; first | (have h9 := hout_r47 (by assumption); omega) | (rcases a2 with a2 | a2; omega; exact hout_r21 (by assumption) a2.1) | (rcases a2 with a2 | a2; omega; have h9 := hout_r30 (by assumption); omega) | omega
          refine lv_aload_n hx hb Tel_d63 rfl (lv_at hl 2 rfl) ?_
          refine lv_bipush hx hb Tel_d64 (v := (-2)) (by decide) ?_
          have ecm2 : ((-2) : Int32).toInt = (-2) := by decide
          refine y_call (z := (0, 59, 2, some 0, xM8)) (av := [.ref this, .int ((-2) : Int32)]) (rest := []) (y_cokV (n := 1) (ci := 11) X ym_counted rfl rfl rfl (x_cons (x_bw19 7 rfl rfl) (x_cons (x_bw19 9 rfl rfl) (x_cons (x_at 1 (by decide +kernel) rfl) (x_cons (x_bw0 1 rfl rfl) x_nilm)))) (x_bw19 10 rfl rfl) (by decide +kernel) ⟨Nat.le_of_ble_eq_true rfl, Nat.le_of_ble_eq_true rfl⟩) hY0 hI rfl Tel_d66 hl.1 (Nat.le_of_ble_eq_true rfl) (Nat.le_of_ble_eq_true rfl) (Nat.le_of_ble_eq_true rfl) (y_cons (y_cref hY_this rfl) (y_cons ⟨_, rfl, x_i32 _⟩ y_nil)) rfl (y_recv rfl hY_this) trivial (y_sub_ef rfl) fun v Yn o Hn L ho hr ha hIn hx_ hE hP => ?_
          replace hs_hd := y_Efld hE hY_this rfl (by decide) (by decide) hs_hd
          replace hn0 := y_Efld hE hY_hd rfl (by decide) (by decide) hn0
          replace hn1 := y_Efld hE hY_hd rfl (by decide) (by decide) hn1
          replace hn2 := y_Efld hE hY_hd rfl (by decide) (by decide) hn2
          replace hs_anightHill := y_Efld hE hY_hd rfl (by decide) (by decide) hs_anightHill
          replace hs_anightHow := y_Efld hE hY_hd rfl (by decide) (by decide) hs_anightHow
          replace hA_anightHill := hA_anightHill.kept (y_Earr hE hY_anightHill rfl (by decide))
          replace hA_anightHow := hA_anightHow.kept (y_Earr hE hY_anightHow rfl (by decide))
          replace hL := hL.E hY_hd hE (fun q u h => y_ext hx_ hI.1 h) (by decide +kernel)
          replace hF := fun b u g9 (hb : Y0 b = some u) (h42 : u ≠ 42) (hg9 : x_G[u]? = some g9) (hn : b ≠ hd) (hk9 : ∀ k, k < 16 → x_sl D 2 k hd s.heap ≠ some (.ref b)) => x_eq.trans (x_eq.E42 hE (y_mon B hI _ _ hb) hg9 h42 rfl) (hF b u g9 hb h42 hg9 hn hk9)
          replace hfld : z_fld D hd s.heap _ := fun k a b c d => ((x_eq.E42 (g := x_G[2]) hE hY_hd rfl (by decide) rfl) k a).trans (hfld k a b c d)
          replace hY_this := y_ext hx_ hI.1 hY_this
          replace hY_hd := y_ext hx_ hI.1 hY_hd
          replace hY_anightHill := y_ext hx_ hI.1 hY_anightHill
          replace hY_anightHow := y_ext hx_ hI.1 hY_anightHow
          obtain rfl := hP _ _ rfl
          clear ho hr ha hE hP hI hx_
          rename x_I _ _ _ _ _ _ _ _ _ _ => hI
          exact y_ireturn B hI rfl rfl rfl List.mem_cons_self ⟨_, rfl, ⟨_, rfl, x_i32 _⟩⟩ (x_cs.mono B.2.2.2.2.2 (y_mon B hI)) (fun t' w0' w1' w2' f' K' tt' nn' h1 h2 => by cases h1; cases h2.eqf hR0; exact ⟨_, _, rfl, h2.fin hYt0 hs0_hd hF hL hfld (y_mon B hI), fun _ => ⟨rfl, rfl⟩, fun q9 => absurd q9 hno⟩) (by exact Nat.le_of_ble_eq_true rfl) (by exact Nat.le_of_ble_eq_true rfl) Tel_d69
        · have q50_ : ¬ r47.toInt = (0 : Int32).toInt := fun q => q50 (Int32.toInt_inj.mp q)
          refine lv_iload hx hb Tel_d53 (lv_at hl 1 rfl) ?_
          refine lv_if_ne hx hb Tel_d55 (tgt := 70) (by decide) (fun q55 => ?_) (fun q55 => ?_)
          · have q55_ : ¬ (1 : Int32).toInt = (0 : Int32).toInt := fun q => q55 (Int32.toInt_inj.mp q)
            have hw1 := hin_r47 (by assumption)
            have hok : m_elOk f x h w := ⟨by omega, by first | exact Or.inl ⟨by omega, by omega⟩ | exact Or.inr ⟨hin_r21 (by assumption), by have h9 := hin_r30 (by assumption); omega, by have h9 := hin_r30 (by assumption); omega⟩ | (exfalso; omega)⟩
            refine lv_aload_n hx hb Tel_d70 rfl (lv_at hl 2 rfl) ?_
            refine y_getf X (fl8 X.2.2.2.2.1) hI.1 hY_this rfl hs_hd Tel_d71 ?_
            refine y_getf X (fl154 X.2.2.2.2.1) hI.1 hY_hd rfl hs_anightHill Tel_d74 ?_
            refine lv_iload_n hx hb Tel_d77 rfl (lv_at hl 3 rfl) ?_
            refine lv_iload_n hx hb Tel_d78 rfl (lv_at hl 4 rfl) ?_
            have hs_old := hs_anightHill
            have hA_old := hA_anightHill
            refine y_iast X hY0 hI hY_anightHill rfl hA_anightHill (by omega) (by show _ < (12 : Int); omega) ⟨_, rfl, x_i32 _⟩ (by decide +kernel) Tel_d79 fun H locs hI h_new ho => ?_
            replace hA_anightHill := h_new
            generalize hf_f79 : y_up (fun j => f (136 + 2 * j)) x.toInt.toNat h = f79 at hA_anightHill
            replace hs_hd := y_slk hs_hd (ho _ (y_ne hY_this hY_anightHill rfl))
            replace hn0 := y_slk hn0 (ho _ (y_ne hY_hd hY_anightHill rfl))
            replace hn1 := y_slk hn1 (ho _ (y_ne hY_hd hY_anightHill rfl))
            replace hn2 := y_slk hn2 (ho _ (y_ne hY_hd hY_anightHill rfl))
            replace hs_anightHill := y_slk hs_anightHill (ho _ (y_ne hY_hd hY_anightHill rfl))
            replace hs_anightHow := y_slk hs_anightHow (ho _ (y_ne hY_hd hY_anightHill rfl))
            replace hA_anightHow := hA_anightHow.kept (ho _ (y_ne hY_anightHow hY_anightHill rfl))
            replace hL := hL.putA (c := (14, 30, 12, 136, 2)) (N := 12) hY_hd (by decide) rfl (by omega) hs_old hA_old h_new ho
            replace hF := fun b u g9 (hb : Y0 b = some u) (h42 : u ≠ 42) (hg9 : x_G[u]? = some g9) (hn : b ≠ hd) (hk9 : ∀ k, k < 16 → x_sl D 2 k hd s.heap ≠ some (.ref b)) => x_eq.trans (x_eq.of (ho b (fun e0 => hk9 14 (by decide) (by rw [e0]; exact hs0_anightHill)))) (hF b u g9 hb h42 hg9 hn hk9)
            replace hfld : z_fld D hd s.heap _ := fun k a b c d => (y_slk rfl (ho _ (y_ne hY_hd hY_anightHill rfl))).trans (hfld k a b c d)
            refine lv_aload_n hx hb Tel_d80 rfl (lv_at hl 2 rfl) ?_
            refine y_getf X (fl8 X.2.2.2.2.1) hI.1 hY_this rfl hs_hd Tel_d81 ?_
            refine y_getf X (fl155 X.2.2.2.2.1) hI.1 hY_hd rfl hs_anightHow Tel_d84 ?_
            refine lv_iload_n hx hb Tel_d87 rfl (lv_at hl 3 rfl) ?_
            refine lv_iload_n hx hb Tel_d88 rfl (lv_at hl 5 rfl) ?_
            have hs_old := hs_anightHow
            have hA_old := hA_anightHow
            refine y_iast X hY0 hI hY_anightHow rfl hA_anightHow (by omega) (by show _ < (12 : Int); omega) ⟨_, rfl, x_i32 _⟩ (by decide +kernel) Tel_d89 fun H locs hI h_new ho => ?_
            replace hA_anightHow := h_new
            generalize hf_f89 : y_up (fun j => f (137 + 2 * j)) x.toInt.toNat w = f89 at hA_anightHow
            replace hs_hd := y_slk hs_hd (ho _ (y_ne hY_this hY_anightHow rfl))
            replace hn0 := y_slk hn0 (ho _ (y_ne hY_hd hY_anightHow rfl))
            replace hn1 := y_slk hn1 (ho _ (y_ne hY_hd hY_anightHow rfl))
            replace hn2 := y_slk hn2 (ho _ (y_ne hY_hd hY_anightHow rfl))
            replace hs_anightHill := y_slk hs_anightHill (ho _ (y_ne hY_hd hY_anightHow rfl))
            replace hs_anightHow := y_slk hs_anightHow (ho _ (y_ne hY_hd hY_anightHow rfl))
            replace hA_anightHill := hA_anightHill.kept (ho _ (y_ne hY_anightHill hY_anightHow rfl))
            replace hL := hL.putA (c := (15, 31, 12, 137, 2)) (N := 12) hY_hd (by decide) rfl (by omega) hs_old hA_old h_new ho
            replace hF := fun b u g9 (hb : Y0 b = some u) (h42 : u ≠ 42) (hg9 : x_G[u]? = some g9) (hn : b ≠ hd) (hk9 : ∀ k, k < 16 → x_sl D 2 k hd s.heap ≠ some (.ref b)) => x_eq.trans (x_eq.of (ho b (fun e0 => hk9 15 (by decide) (by rw [e0]; exact hs0_anightHow)))) (hF b u g9 hb h42 hg9 hn hk9)
            replace hfld : z_fld D hd s.heap _ := fun k a b c d => (y_slk rfl (ho _ (y_ne hY_hd hY_anightHow rfl))).trans (hfld k a b c d)
            refine lv_iconst hx hb Tel_d90 (v := 1) (by decide) ?_
            exact y_ireturn B hI rfl rfl rfl List.mem_cons_self ⟨_, rfl, ⟨_, rfl, x_i32 _⟩⟩ (x_cs.mono B.2.2.2.2.2 (y_mon B hI)) (fun t' w0' w1' w2' f' K' tt' nn' h1 h2 => by cases h1; cases h2.eqf hR0; exact ⟨_, _, rfl, h2.fin hYt0 hs0_hd hF hL hfld (y_mon B hI), fun q9 => absurd hok q9, fun _ => ⟨rfl, rfl⟩⟩) (by exact Nat.le_of_ble_eq_true rfl) (by exact Nat.le_of_ble_eq_true rfl) Tel_d91
          · have q55_ : (1 : Int32).toInt = (0 : Int32).toInt := by rw [q55]
            refine lv_iload hx hb Tel_d58 (lv_at hl 0 rfl) ?_
            refine lv_if_ne hx hb Tel_d60 (tgt := 70) (by decide) (fun q60 => ?_) (fun q60 => ?_)
            · have q60_ : ¬ (0 : Int32).toInt = (0 : Int32).toInt := fun q => q60 (Int32.toInt_inj.mp q)
              have hw1 := hin_r47 (by assumption)
              have hok : m_elOk f x h w := ⟨by omega, by first | exact Or.inl ⟨by omega, by omega⟩ | exact Or.inr ⟨hin_r21 (by assumption), by have h9 := hin_r30 (by assumption); omega, by have h9 := hin_r30 (by assumption); omega⟩ | (exfalso; omega)⟩
              refine lv_aload_n hx hb Tel_d70 rfl (lv_at hl 2 rfl) ?_
              refine y_getf X (fl8 X.2.2.2.2.1) hI.1 hY_this rfl hs_hd Tel_d71 ?_
              refine y_getf X (fl154 X.2.2.2.2.1) hI.1 hY_hd rfl hs_anightHill Tel_d74 ?_
              refine lv_iload_n hx hb Tel_d77 rfl (lv_at hl 3 rfl) ?_
              refine lv_iload_n hx hb Tel_d78 rfl (lv_at hl 4 rfl) ?_
              have hs_old := hs_anightHill
              have hA_old := hA_anightHill
              refine y_iast X hY0 hI hY_anightHill rfl hA_anightHill (by omega) (by show _ < (12 : Int); omega) ⟨_, rfl, x_i32 _⟩ (by decide +kernel) Tel_d79 fun H locs hI h_new ho => ?_
              replace hA_anightHill := h_new
              generalize hf_f79 : y_up (fun j => f (136 + 2 * j)) x.toInt.toNat h = f79 at hA_anightHill
              replace hs_hd := y_slk hs_hd (ho _ (y_ne hY_this hY_anightHill rfl))
              replace hn0 := y_slk hn0 (ho _ (y_ne hY_hd hY_anightHill rfl))
              replace hn1 := y_slk hn1 (ho _ (y_ne hY_hd hY_anightHill rfl))
              replace hn2 := y_slk hn2 (ho _ (y_ne hY_hd hY_anightHill rfl))
              replace hs_anightHill := y_slk hs_anightHill (ho _ (y_ne hY_hd hY_anightHill rfl))
              replace hs_anightHow := y_slk hs_anightHow (ho _ (y_ne hY_hd hY_anightHill rfl))
              replace hA_anightHow := hA_anightHow.kept (ho _ (y_ne hY_anightHow hY_anightHill rfl))
              replace hL := hL.putA (c := (14, 30, 12, 136, 2)) (N := 12) hY_hd (by decide) rfl (by omega) hs_old hA_old h_new ho
              replace hF := fun b u g9 (hb : Y0 b = some u) (h42 : u ≠ 42) (hg9 : x_G[u]? = some g9) (hn : b ≠ hd) (hk9 : ∀ k, k < 16 → x_sl D 2 k hd s.heap ≠ some (.ref b)) => x_eq.trans (x_eq.of (ho b (fun e0 => hk9 14 (by decide) (by rw [e0]; exact hs0_anightHill)))) (hF b u g9 hb h42 hg9 hn hk9)
              replace hfld : z_fld D hd s.heap _ := fun k a b c d => (y_slk rfl (ho _ (y_ne hY_hd hY_anightHill rfl))).trans (hfld k a b c d)
              refine lv_aload_n hx hb Tel_d80 rfl (lv_at hl 2 rfl) ?_
              refine y_getf X (fl8 X.2.2.2.2.1) hI.1 hY_this rfl hs_hd Tel_d81 ?_
              refine y_getf X (fl155 X.2.2.2.2.1) hI.1 hY_hd rfl hs_anightHow Tel_d84 ?_
              refine lv_iload_n hx hb Tel_d87 rfl (lv_at hl 3 rfl) ?_
              refine lv_iload_n hx hb Tel_d88 rfl (lv_at hl 5 rfl) ?_
              have hs_old := hs_anightHow
              have hA_old := hA_anightHow
              refine y_iast X hY0 hI hY_anightHow rfl hA_anightHow (by omega) (by show _ < (12 : Int); omega) ⟨_, rfl, x_i32 _⟩ (by decide +kernel) Tel_d89 fun H locs hI h_new ho => ?_
              replace hA_anightHow := h_new
              generalize hf_f89 : y_up (fun j => f (137 + 2 * j)) x.toInt.toNat w = f89 at hA_anightHow
              replace hs_hd := y_slk hs_hd (ho _ (y_ne hY_this hY_anightHow rfl))
              replace hn0 := y_slk hn0 (ho _ (y_ne hY_hd hY_anightHow rfl))
              replace hn1 := y_slk hn1 (ho _ (y_ne hY_hd hY_anightHow rfl))
              replace hn2 := y_slk hn2 (ho _ (y_ne hY_hd hY_anightHow rfl))
              replace hs_anightHill := y_slk hs_anightHill (ho _ (y_ne hY_hd hY_anightHow rfl))
              replace hs_anightHow := y_slk hs_anightHow (ho _ (y_ne hY_hd hY_anightHow rfl))
              replace hA_anightHill := hA_anightHill.kept (ho _ (y_ne hY_anightHill hY_anightHow rfl))
              replace hL := hL.putA (c := (15, 31, 12, 137, 2)) (N := 12) hY_hd (by decide) rfl (by omega) hs_old hA_old h_new ho
              replace hF := fun b u g9 (hb : Y0 b = some u) (h42 : u ≠ 42) (hg9 : x_G[u]? = some g9) (hn : b ≠ hd) (hk9 : ∀ k, k < 16 → x_sl D 2 k hd s.heap ≠ some (.ref b)) => x_eq.trans (x_eq.of (ho b (fun e0 => hk9 15 (by decide) (by rw [e0]; exact hs0_anightHow)))) (hF b u g9 hb h42 hg9 hn hk9)
              replace hfld : z_fld D hd s.heap _ := fun k a b c d => (y_slk rfl (ho _ (y_ne hY_hd hY_anightHow rfl))).trans (hfld k a b c d)
              refine lv_iconst hx hb Tel_d90 (v := 1) (by decide) ?_
              exact y_ireturn B hI rfl rfl rfl List.mem_cons_self ⟨_, rfl, ⟨_, rfl, x_i32 _⟩⟩ (x_cs.mono B.2.2.2.2.2 (y_mon B hI)) (fun t' w0' w1' w2' f' K' tt' nn' h1 h2 => by cases h1; cases h2.eqf hR0; exact ⟨_, _, rfl, h2.fin hYt0 hs0_hd hF hL hfld (y_mon B hI), fun q9 => absurd hok q9, fun _ => ⟨rfl, rfl⟩⟩) (by exact Nat.le_of_ble_eq_true rfl) (by exact Nat.le_of_ble_eq_true rfl) Tel_d91
            · have q60_ : (0 : Int32).toInt = (0 : Int32).toInt := by rw [q60]
              have hno : ¬ m_elOk f x h w := fun q9 => by obtain ⟨a1, a2⟩ := q9; first | (have h9 := hout_r47 (by assumption); omega) | (rcases a2 with a2 | a2; omega; exact hout_r21 (by assumption) a2.1) | (rcases a2 with a2 | a2; omega; have h9 := hout_r30 (by assumption); omega) | omega
              refine lv_aload_n hx hb Tel_d63 rfl (lv_at hl 2 rfl) ?_
              refine lv_bipush hx hb Tel_d64 (v := (-2)) (by decide) ?_
              have ecm2 : ((-2) : Int32).toInt = (-2) := by decide
              refine y_call (z := (0, 59, 2, some 0, xM8)) (av := [.ref this, .int ((-2) : Int32)]) (rest := []) (y_cokV (n := 1) (ci := 11) X ym_counted rfl rfl rfl (x_cons (x_bw19 7 rfl rfl) (x_cons (x_bw19 9 rfl rfl) (x_cons (x_at 1 (by decide +kernel) rfl) (x_cons (x_bw0 1 rfl rfl) x_nilm)))) (x_bw19 10 rfl rfl) (by decide +kernel) ⟨Nat.le_of_ble_eq_true rfl, Nat.le_of_ble_eq_true rfl⟩) hY0 hI rfl Tel_d66 hl.1 (Nat.le_of_ble_eq_true rfl) (Nat.le_of_ble_eq_true rfl) (Nat.le_of_ble_eq_true rfl) (y_cons (y_cref hY_this rfl) (y_cons ⟨_, rfl, x_i32 _⟩ y_nil)) rfl (y_recv rfl hY_this) trivial (y_sub_ef rfl) fun v Yn o Hn L ho hr ha hIn hx_ hE hP => ?_
              replace hs_hd := y_Efld hE hY_this rfl (by decide) (by decide) hs_hd
              replace hn0 := y_Efld hE hY_hd rfl (by decide) (by decide) hn0
              replace hn1 := y_Efld hE hY_hd rfl (by decide) (by decide) hn1
              replace hn2 := y_Efld hE hY_hd rfl (by decide) (by decide) hn2
              replace hs_anightHill := y_Efld hE hY_hd rfl (by decide) (by decide) hs_anightHill
              replace hs_anightHow := y_Efld hE hY_hd rfl (by decide) (by decide) hs_anightHow
              replace hA_anightHill := hA_anightHill.kept (y_Earr hE hY_anightHill rfl (by decide))
              replace hA_anightHow := hA_anightHow.kept (y_Earr hE hY_anightHow rfl (by decide))
              replace hL := hL.E hY_hd hE (fun q u h => y_ext hx_ hI.1 h) (by decide +kernel)
              replace hF := fun b u g9 (hb : Y0 b = some u) (h42 : u ≠ 42) (hg9 : x_G[u]? = some g9) (hn : b ≠ hd) (hk9 : ∀ k, k < 16 → x_sl D 2 k hd s.heap ≠ some (.ref b)) => x_eq.trans (x_eq.E42 hE (y_mon B hI _ _ hb) hg9 h42 rfl) (hF b u g9 hb h42 hg9 hn hk9)
              replace hfld : z_fld D hd s.heap _ := fun k a b c d => ((x_eq.E42 (g := x_G[2]) hE hY_hd rfl (by decide) rfl) k a).trans (hfld k a b c d)
              replace hY_this := y_ext hx_ hI.1 hY_this
              replace hY_hd := y_ext hx_ hI.1 hY_hd
              replace hY_anightHill := y_ext hx_ hI.1 hY_anightHill
              replace hY_anightHow := y_ext hx_ hI.1 hY_anightHow
              obtain rfl := hP _ _ rfl
              clear ho hr ha hE hP hI hx_
              rename x_I _ _ _ _ _ _ _ _ _ _ => hI
              exact y_ireturn B hI rfl rfl rfl List.mem_cons_self ⟨_, rfl, ⟨_, rfl, x_i32 _⟩⟩ (x_cs.mono B.2.2.2.2.2 (y_mon B hI)) (fun t' w0' w1' w2' f' K' tt' nn' h1 h2 => by cases h1; cases h2.eqf hR0; exact ⟨_, _, rfl, h2.fin hYt0 hs0_hd hF hL hfld (y_mon B hI), fun _ => ⟨rfl, rfl⟩, fun q9 => absurd q9 hno⟩) (by exact Nat.le_of_ble_eq_true rfl) (by exact Nat.le_of_ble_eq_true rfl) Tel_d69
      · have q24_ : ¬ r21.toInt = (0 : Int32).toInt := fun q => q24 (Int32.toInt_inj.mp q)
        refine lv_iload_n hx hb Tel_d27 rfl (lv_at hl 4 rfl) ?_
        refine lv_iconst hx hb Tel_d28 (v := 0) (by decide) ?_
        refine lv_iconst hx hb Tel_d29 (v := 1) (by decide) ?_
        refine y_call (z := (1, 88, 3, none, xM10)) (av := [.int w, .int (0 : Int32), .int (1 : Int32)]) (rest := []) (y_cokS (n := 3) X ym_within (x_cons (x_bw19 15 rfl rfl) (x_cons (x_bw19 1 rfl rfl) (x_cons (x_bw0 1 rfl rfl) x_nilm))) (x_bw19 2 rfl rfl) (by decide +kernel) ⟨Nat.le_of_ble_eq_true rfl, Nat.le_of_ble_eq_true rfl⟩) hY0 hI rfl Tel_d30 hl.1 (Nat.le_of_ble_eq_true rfl) (Nat.le_of_ble_eq_true rfl) (Nat.le_of_ble_eq_true rfl) (y_cons ⟨_, rfl, x_i32 _⟩ (y_cons ⟨_, rfl, x_i32 _⟩ (y_cons ⟨_, rfl, x_i32 _⟩ y_nil))) rfl (y_norecv rfl) trivial (y_sub_ef rfl) fun v Yn o Hn L ho hr ha hIn hx_ hE hP => ?_
        replace hs_hd := y_Efld hE hY_this rfl (by decide) (by decide) hs_hd
        replace hn0 := y_Efld hE hY_hd rfl (by decide) (by decide) hn0
        replace hn1 := y_Efld hE hY_hd rfl (by decide) (by decide) hn1
        replace hn2 := y_Efld hE hY_hd rfl (by decide) (by decide) hn2
        replace hs_anightHill := y_Efld hE hY_hd rfl (by decide) (by decide) hs_anightHill
        replace hs_anightHow := y_Efld hE hY_hd rfl (by decide) (by decide) hs_anightHow
        replace hA_anightHill := hA_anightHill.kept (y_Earr hE hY_anightHill rfl (by decide))
        replace hA_anightHow := hA_anightHow.kept (y_Earr hE hY_anightHow rfl (by decide))
        replace hL := hL.E hY_hd hE (fun q u h => y_ext hx_ hI.1 h) (by decide +kernel)
        replace hF := fun b u g9 (hb : Y0 b = some u) (h42 : u ≠ 42) (hg9 : x_G[u]? = some g9) (hn : b ≠ hd) (hk9 : ∀ k, k < 16 → x_sl D 2 k hd s.heap ≠ some (.ref b)) => x_eq.trans (x_eq.E42 hE (y_mon B hI _ _ hb) hg9 h42 rfl) (hF b u g9 hb h42 hg9 hn hk9)
        replace hfld : z_fld D hd s.heap _ := fun k a b c d => ((x_eq.E42 (g := x_G[2]) hE hY_hd rfl (by decide) rfl) k a).trans (hfld k a b c d)
        replace hY_this := y_ext hx_ hI.1 hY_this
        replace hY_hd := y_ext hx_ hI.1 hY_hd
        replace hY_anightHill := y_ext hx_ hI.1 hY_anightHill
        replace hY_anightHow := y_ext hx_ hI.1 hY_anightHow
        obtain ⟨r30, rfl, hin_r30, hout_r30⟩ := hP _ _ _ rfl
        clear ho hr ha hE hP hI hx_
        rename x_I _ _ _ _ _ _ _ _ _ _ => hI
        refine lv_if_eq hx hb Tel_d33 (tgt := 40) (by decide) (fun q33 => ?_) (fun q33 => ?_)
        · have q33_ : r30.toInt = (0 : Int32).toInt := by rw [q33]
          refine lv_iconst hx hb Tel_d40 (v := 0) (by decide) ?_
          refine lv_istore hx hb Tel_d41 hl (by decide) (lv' := [(5, .int (0 : Int32)), (4, .int (1 : Int32)), (0, .ref this), (1, .int x), (2, .int h), (3, .int w)]) rfl fun ls hl => ?_
          refine lv_iload_n hx hb Tel_d43 rfl (lv_at hl 3 rfl) ?_
          refine lv_iconst hx hb Tel_d44 (v := 0) (by decide) ?_
          refine lv_bipush hx hb Tel_d45 (v := 11) (by decide) ?_
          have ec11 : (11 : Int32).toInt = 11 := by decide
          refine y_call (z := (1, 88, 3, none, xM10)) (av := [.int x, .int (0 : Int32), .int (11 : Int32)]) (rest := []) (y_cokS (n := 3) X ym_within (x_cons (x_bw19 15 rfl rfl) (x_cons (x_bw19 1 rfl rfl) (x_cons (x_bw0 1 rfl rfl) x_nilm))) (x_bw19 2 rfl rfl) (by decide +kernel) ⟨Nat.le_of_ble_eq_true rfl, Nat.le_of_ble_eq_true rfl⟩) hY0 hI rfl Tel_d47 hl.1 (Nat.le_of_ble_eq_true rfl) (Nat.le_of_ble_eq_true rfl) (Nat.le_of_ble_eq_true rfl) (y_cons ⟨_, rfl, x_i32 _⟩ (y_cons ⟨_, rfl, x_i32 _⟩ (y_cons ⟨_, rfl, x_i32 _⟩ y_nil))) rfl (y_norecv rfl) trivial (y_sub_ef rfl) fun v Yn o Hn L ho hr ha hIn hx_ hE hP => ?_
          replace hs_hd := y_Efld hE hY_this rfl (by decide) (by decide) hs_hd
          replace hn0 := y_Efld hE hY_hd rfl (by decide) (by decide) hn0
          replace hn1 := y_Efld hE hY_hd rfl (by decide) (by decide) hn1
          replace hn2 := y_Efld hE hY_hd rfl (by decide) (by decide) hn2
          replace hs_anightHill := y_Efld hE hY_hd rfl (by decide) (by decide) hs_anightHill
          replace hs_anightHow := y_Efld hE hY_hd rfl (by decide) (by decide) hs_anightHow
          replace hA_anightHill := hA_anightHill.kept (y_Earr hE hY_anightHill rfl (by decide))
          replace hA_anightHow := hA_anightHow.kept (y_Earr hE hY_anightHow rfl (by decide))
          replace hL := hL.E hY_hd hE (fun q u h => y_ext hx_ hI.1 h) (by decide +kernel)
          replace hF := fun b u g9 (hb : Y0 b = some u) (h42 : u ≠ 42) (hg9 : x_G[u]? = some g9) (hn : b ≠ hd) (hk9 : ∀ k, k < 16 → x_sl D 2 k hd s.heap ≠ some (.ref b)) => x_eq.trans (x_eq.E42 hE (y_mon B hI _ _ hb) hg9 h42 rfl) (hF b u g9 hb h42 hg9 hn hk9)
          replace hfld : z_fld D hd s.heap _ := fun k a b c d => ((x_eq.E42 (g := x_G[2]) hE hY_hd rfl (by decide) rfl) k a).trans (hfld k a b c d)
          replace hY_this := y_ext hx_ hI.1 hY_this
          replace hY_hd := y_ext hx_ hI.1 hY_hd
          replace hY_anightHill := y_ext hx_ hI.1 hY_anightHill
          replace hY_anightHow := y_ext hx_ hI.1 hY_anightHow
          obtain ⟨r47, rfl, hin_r47, hout_r47⟩ := hP _ _ _ rfl
          clear ho hr ha hE hP hI hx_
          rename x_I _ _ _ _ _ _ _ _ _ _ => hI
          refine lv_if_eq hx hb Tel_d50 (tgt := 63) (by decide) (fun q50 => ?_) (fun q50 => ?_)
          · have q50_ : r47.toInt = (0 : Int32).toInt := by rw [q50]
            have hno : ¬ m_elOk f x h w := fun q9 => by obtain ⟨a1, a2⟩ := q9; first | (have h9 := hout_r47 (by assumption); omega) | (rcases a2 with a2 | a2; omega; exact hout_r21 (by assumption) a2.1) | (rcases a2 with a2 | a2; omega; have h9 := hout_r30 (by assumption); omega) | omega
            refine lv_aload_n hx hb Tel_d63 rfl (lv_at hl 2 rfl) ?_
            refine lv_bipush hx hb Tel_d64 (v := (-2)) (by decide) ?_
            have ecm2 : ((-2) : Int32).toInt = (-2) := by decide
            refine y_call (z := (0, 59, 2, some 0, xM8)) (av := [.ref this, .int ((-2) : Int32)]) (rest := []) (y_cokV (n := 1) (ci := 11) X ym_counted rfl rfl rfl (x_cons (x_bw19 7 rfl rfl) (x_cons (x_bw19 9 rfl rfl) (x_cons (x_at 1 (by decide +kernel) rfl) (x_cons (x_bw0 1 rfl rfl) x_nilm)))) (x_bw19 10 rfl rfl) (by decide +kernel) ⟨Nat.le_of_ble_eq_true rfl, Nat.le_of_ble_eq_true rfl⟩) hY0 hI rfl Tel_d66 hl.1 (Nat.le_of_ble_eq_true rfl) (Nat.le_of_ble_eq_true rfl) (Nat.le_of_ble_eq_true rfl) (y_cons (y_cref hY_this rfl) (y_cons ⟨_, rfl, x_i32 _⟩ y_nil)) rfl (y_recv rfl hY_this) trivial (y_sub_ef rfl) fun v Yn o Hn L ho hr ha hIn hx_ hE hP => ?_
            replace hs_hd := y_Efld hE hY_this rfl (by decide) (by decide) hs_hd
            replace hn0 := y_Efld hE hY_hd rfl (by decide) (by decide) hn0
            replace hn1 := y_Efld hE hY_hd rfl (by decide) (by decide) hn1
            replace hn2 := y_Efld hE hY_hd rfl (by decide) (by decide) hn2
            replace hs_anightHill := y_Efld hE hY_hd rfl (by decide) (by decide) hs_anightHill
            replace hs_anightHow := y_Efld hE hY_hd rfl (by decide) (by decide) hs_anightHow
            replace hA_anightHill := hA_anightHill.kept (y_Earr hE hY_anightHill rfl (by decide))
            replace hA_anightHow := hA_anightHow.kept (y_Earr hE hY_anightHow rfl (by decide))
            replace hL := hL.E hY_hd hE (fun q u h => y_ext hx_ hI.1 h) (by decide +kernel)
            replace hF := fun b u g9 (hb : Y0 b = some u) (h42 : u ≠ 42) (hg9 : x_G[u]? = some g9) (hn : b ≠ hd) (hk9 : ∀ k, k < 16 → x_sl D 2 k hd s.heap ≠ some (.ref b)) => x_eq.trans (x_eq.E42 hE (y_mon B hI _ _ hb) hg9 h42 rfl) (hF b u g9 hb h42 hg9 hn hk9)
            replace hfld : z_fld D hd s.heap _ := fun k a b c d => ((x_eq.E42 (g := x_G[2]) hE hY_hd rfl (by decide) rfl) k a).trans (hfld k a b c d)
            replace hY_this := y_ext hx_ hI.1 hY_this
            replace hY_hd := y_ext hx_ hI.1 hY_hd
            replace hY_anightHill := y_ext hx_ hI.1 hY_anightHill
            replace hY_anightHow := y_ext hx_ hI.1 hY_anightHow
            obtain rfl := hP _ _ rfl
            clear ho hr ha hE hP hI hx_
            rename x_I _ _ _ _ _ _ _ _ _ _ => hI
            exact y_ireturn B hI rfl rfl rfl List.mem_cons_self ⟨_, rfl, ⟨_, rfl, x_i32 _⟩⟩ (x_cs.mono B.2.2.2.2.2 (y_mon B hI)) (fun t' w0' w1' w2' f' K' tt' nn' h1 h2 => by cases h1; cases h2.eqf hR0; exact ⟨_, _, rfl, h2.fin hYt0 hs0_hd hF hL hfld (y_mon B hI), fun _ => ⟨rfl, rfl⟩, fun q9 => absurd q9 hno⟩) (by exact Nat.le_of_ble_eq_true rfl) (by exact Nat.le_of_ble_eq_true rfl) Tel_d69
          · have q50_ : ¬ r47.toInt = (0 : Int32).toInt := fun q => q50 (Int32.toInt_inj.mp q)
            refine lv_iload hx hb Tel_d53 (lv_at hl 1 rfl) ?_
            refine lv_if_ne hx hb Tel_d55 (tgt := 70) (by decide) (fun q55 => ?_) (fun q55 => ?_)
            · have q55_ : ¬ (1 : Int32).toInt = (0 : Int32).toInt := fun q => q55 (Int32.toInt_inj.mp q)
              have hw1 := hin_r47 (by assumption)
              have hok : m_elOk f x h w := ⟨by omega, by first | exact Or.inl ⟨by omega, by omega⟩ | exact Or.inr ⟨hin_r21 (by assumption), by have h9 := hin_r30 (by assumption); omega, by have h9 := hin_r30 (by assumption); omega⟩ | (exfalso; omega)⟩
              refine lv_aload_n hx hb Tel_d70 rfl (lv_at hl 2 rfl) ?_
              refine y_getf X (fl8 X.2.2.2.2.1) hI.1 hY_this rfl hs_hd Tel_d71 ?_
              refine y_getf X (fl154 X.2.2.2.2.1) hI.1 hY_hd rfl hs_anightHill Tel_d74 ?_
              refine lv_iload_n hx hb Tel_d77 rfl (lv_at hl 3 rfl) ?_
              refine lv_iload_n hx hb Tel_d78 rfl (lv_at hl 4 rfl) ?_
              have hs_old := hs_anightHill
              have hA_old := hA_anightHill
              refine y_iast X hY0 hI hY_anightHill rfl hA_anightHill (by omega) (by show _ < (12 : Int); omega) ⟨_, rfl, x_i32 _⟩ (by decide +kernel) Tel_d79 fun H locs hI h_new ho => ?_
              replace hA_anightHill := h_new
              generalize hf_f79 : y_up (fun j => f (136 + 2 * j)) x.toInt.toNat h = f79 at hA_anightHill
              replace hs_hd := y_slk hs_hd (ho _ (y_ne hY_this hY_anightHill rfl))
              replace hn0 := y_slk hn0 (ho _ (y_ne hY_hd hY_anightHill rfl))
              replace hn1 := y_slk hn1 (ho _ (y_ne hY_hd hY_anightHill rfl))
              replace hn2 := y_slk hn2 (ho _ (y_ne hY_hd hY_anightHill rfl))
              replace hs_anightHill := y_slk hs_anightHill (ho _ (y_ne hY_hd hY_anightHill rfl))
              replace hs_anightHow := y_slk hs_anightHow (ho _ (y_ne hY_hd hY_anightHill rfl))
              replace hA_anightHow := hA_anightHow.kept (ho _ (y_ne hY_anightHow hY_anightHill rfl))
              replace hL := hL.putA (c := (14, 30, 12, 136, 2)) (N := 12) hY_hd (by decide) rfl (by omega) hs_old hA_old h_new ho
              replace hF := fun b u g9 (hb : Y0 b = some u) (h42 : u ≠ 42) (hg9 : x_G[u]? = some g9) (hn : b ≠ hd) (hk9 : ∀ k, k < 16 → x_sl D 2 k hd s.heap ≠ some (.ref b)) => x_eq.trans (x_eq.of (ho b (fun e0 => hk9 14 (by decide) (by rw [e0]; exact hs0_anightHill)))) (hF b u g9 hb h42 hg9 hn hk9)
              replace hfld : z_fld D hd s.heap _ := fun k a b c d => (y_slk rfl (ho _ (y_ne hY_hd hY_anightHill rfl))).trans (hfld k a b c d)
              refine lv_aload_n hx hb Tel_d80 rfl (lv_at hl 2 rfl) ?_
              refine y_getf X (fl8 X.2.2.2.2.1) hI.1 hY_this rfl hs_hd Tel_d81 ?_
              refine y_getf X (fl155 X.2.2.2.2.1) hI.1 hY_hd rfl hs_anightHow Tel_d84 ?_
              refine lv_iload_n hx hb Tel_d87 rfl (lv_at hl 3 rfl) ?_
              refine lv_iload_n hx hb Tel_d88 rfl (lv_at hl 5 rfl) ?_
              have hs_old := hs_anightHow
              have hA_old := hA_anightHow
              refine y_iast X hY0 hI hY_anightHow rfl hA_anightHow (by omega) (by show _ < (12 : Int); omega) ⟨_, rfl, x_i32 _⟩ (by decide +kernel) Tel_d89 fun H locs hI h_new ho => ?_
              replace hA_anightHow := h_new
              generalize hf_f89 : y_up (fun j => f (137 + 2 * j)) x.toInt.toNat w = f89 at hA_anightHow
              replace hs_hd := y_slk hs_hd (ho _ (y_ne hY_this hY_anightHow rfl))
              replace hn0 := y_slk hn0 (ho _ (y_ne hY_hd hY_anightHow rfl))
              replace hn1 := y_slk hn1 (ho _ (y_ne hY_hd hY_anightHow rfl))
              replace hn2 := y_slk hn2 (ho _ (y_ne hY_hd hY_anightHow rfl))
              replace hs_anightHill := y_slk hs_anightHill (ho _ (y_ne hY_hd hY_anightHow rfl))
              replace hs_anightHow := y_slk hs_anightHow (ho _ (y_ne hY_hd hY_anightHow rfl))
              replace hA_anightHill := hA_anightHill.kept (ho _ (y_ne hY_anightHill hY_anightHow rfl))
              replace hL := hL.putA (c := (15, 31, 12, 137, 2)) (N := 12) hY_hd (by decide) rfl (by omega) hs_old hA_old h_new ho
              replace hF := fun b u g9 (hb : Y0 b = some u) (h42 : u ≠ 42) (hg9 : x_G[u]? = some g9) (hn : b ≠ hd) (hk9 : ∀ k, k < 16 → x_sl D 2 k hd s.heap ≠ some (.ref b)) => x_eq.trans (x_eq.of (ho b (fun e0 => hk9 15 (by decide) (by rw [e0]; exact hs0_anightHow)))) (hF b u g9 hb h42 hg9 hn hk9)
              replace hfld : z_fld D hd s.heap _ := fun k a b c d => (y_slk rfl (ho _ (y_ne hY_hd hY_anightHow rfl))).trans (hfld k a b c d)
              refine lv_iconst hx hb Tel_d90 (v := 1) (by decide) ?_
              exact y_ireturn B hI rfl rfl rfl List.mem_cons_self ⟨_, rfl, ⟨_, rfl, x_i32 _⟩⟩ (x_cs.mono B.2.2.2.2.2 (y_mon B hI)) (fun t' w0' w1' w2' f' K' tt' nn' h1 h2 => by cases h1; cases h2.eqf hR0; exact ⟨_, _, rfl, h2.fin hYt0 hs0_hd hF hL hfld (y_mon B hI), fun q9 => absurd hok q9, fun _ => ⟨rfl, rfl⟩⟩) (by exact Nat.le_of_ble_eq_true rfl) (by exact Nat.le_of_ble_eq_true rfl) Tel_d91
            · have q55_ : (1 : Int32).toInt = (0 : Int32).toInt := by rw [q55]
              refine lv_iload hx hb Tel_d58 (lv_at hl 0 rfl) ?_
              refine lv_if_ne hx hb Tel_d60 (tgt := 70) (by decide) (fun q60 => ?_) (fun q60 => ?_)
              · have q60_ : ¬ (0 : Int32).toInt = (0 : Int32).toInt := fun q => q60 (Int32.toInt_inj.mp q)
                have hw1 := hin_r47 (by assumption)
                have hok : m_elOk f x h w := ⟨by omega, by first | exact Or.inl ⟨by omega, by omega⟩ | exact Or.inr ⟨hin_r21 (by assumption), by have h9 := hin_r30 (by assumption); omega, by have h9 := hin_r30 (by assumption); omega⟩ | (exfalso; omega)⟩
                refine lv_aload_n hx hb Tel_d70 rfl (lv_at hl 2 rfl) ?_
                refine y_getf X (fl8 X.2.2.2.2.1) hI.1 hY_this rfl hs_hd Tel_d71 ?_
                refine y_getf X (fl154 X.2.2.2.2.1) hI.1 hY_hd rfl hs_anightHill Tel_d74 ?_
                refine lv_iload_n hx hb Tel_d77 rfl (lv_at hl 3 rfl) ?_
                refine lv_iload_n hx hb Tel_d78 rfl (lv_at hl 4 rfl) ?_
                have hs_old := hs_anightHill
                have hA_old := hA_anightHill
                refine y_iast X hY0 hI hY_anightHill rfl hA_anightHill (by omega) (by show _ < (12 : Int); omega) ⟨_, rfl, x_i32 _⟩ (by decide +kernel) Tel_d79 fun H locs hI h_new ho => ?_
                replace hA_anightHill := h_new
                generalize hf_f79 : y_up (fun j => f (136 + 2 * j)) x.toInt.toNat h = f79 at hA_anightHill
                replace hs_hd := y_slk hs_hd (ho _ (y_ne hY_this hY_anightHill rfl))
                replace hn0 := y_slk hn0 (ho _ (y_ne hY_hd hY_anightHill rfl))
                replace hn1 := y_slk hn1 (ho _ (y_ne hY_hd hY_anightHill rfl))
                replace hn2 := y_slk hn2 (ho _ (y_ne hY_hd hY_anightHill rfl))
                replace hs_anightHill := y_slk hs_anightHill (ho _ (y_ne hY_hd hY_anightHill rfl))
                replace hs_anightHow := y_slk hs_anightHow (ho _ (y_ne hY_hd hY_anightHill rfl))
                replace hA_anightHow := hA_anightHow.kept (ho _ (y_ne hY_anightHow hY_anightHill rfl))
                replace hL := hL.putA (c := (14, 30, 12, 136, 2)) (N := 12) hY_hd (by decide) rfl (by omega) hs_old hA_old h_new ho
                replace hF := fun b u g9 (hb : Y0 b = some u) (h42 : u ≠ 42) (hg9 : x_G[u]? = some g9) (hn : b ≠ hd) (hk9 : ∀ k, k < 16 → x_sl D 2 k hd s.heap ≠ some (.ref b)) => x_eq.trans (x_eq.of (ho b (fun e0 => hk9 14 (by decide) (by rw [e0]; exact hs0_anightHill)))) (hF b u g9 hb h42 hg9 hn hk9)
                replace hfld : z_fld D hd s.heap _ := fun k a b c d => (y_slk rfl (ho _ (y_ne hY_hd hY_anightHill rfl))).trans (hfld k a b c d)
                refine lv_aload_n hx hb Tel_d80 rfl (lv_at hl 2 rfl) ?_
                refine y_getf X (fl8 X.2.2.2.2.1) hI.1 hY_this rfl hs_hd Tel_d81 ?_
                refine y_getf X (fl155 X.2.2.2.2.1) hI.1 hY_hd rfl hs_anightHow Tel_d84 ?_
                refine lv_iload_n hx hb Tel_d87 rfl (lv_at hl 3 rfl) ?_
                refine lv_iload_n hx hb Tel_d88 rfl (lv_at hl 5 rfl) ?_
                have hs_old := hs_anightHow
                have hA_old := hA_anightHow
                refine y_iast X hY0 hI hY_anightHow rfl hA_anightHow (by omega) (by show _ < (12 : Int); omega) ⟨_, rfl, x_i32 _⟩ (by decide +kernel) Tel_d89 fun H locs hI h_new ho => ?_
                replace hA_anightHow := h_new
                generalize hf_f89 : y_up (fun j => f (137 + 2 * j)) x.toInt.toNat w = f89 at hA_anightHow
                replace hs_hd := y_slk hs_hd (ho _ (y_ne hY_this hY_anightHow rfl))
                replace hn0 := y_slk hn0 (ho _ (y_ne hY_hd hY_anightHow rfl))
                replace hn1 := y_slk hn1 (ho _ (y_ne hY_hd hY_anightHow rfl))
                replace hn2 := y_slk hn2 (ho _ (y_ne hY_hd hY_anightHow rfl))
                replace hs_anightHill := y_slk hs_anightHill (ho _ (y_ne hY_hd hY_anightHow rfl))
                replace hs_anightHow := y_slk hs_anightHow (ho _ (y_ne hY_hd hY_anightHow rfl))
                replace hA_anightHill := hA_anightHill.kept (ho _ (y_ne hY_anightHill hY_anightHow rfl))
                replace hL := hL.putA (c := (15, 31, 12, 137, 2)) (N := 12) hY_hd (by decide) rfl (by omega) hs_old hA_old h_new ho
                replace hF := fun b u g9 (hb : Y0 b = some u) (h42 : u ≠ 42) (hg9 : x_G[u]? = some g9) (hn : b ≠ hd) (hk9 : ∀ k, k < 16 → x_sl D 2 k hd s.heap ≠ some (.ref b)) => x_eq.trans (x_eq.of (ho b (fun e0 => hk9 15 (by decide) (by rw [e0]; exact hs0_anightHow)))) (hF b u g9 hb h42 hg9 hn hk9)
                replace hfld : z_fld D hd s.heap _ := fun k a b c d => (y_slk rfl (ho _ (y_ne hY_hd hY_anightHow rfl))).trans (hfld k a b c d)
                refine lv_iconst hx hb Tel_d90 (v := 1) (by decide) ?_
                exact y_ireturn B hI rfl rfl rfl List.mem_cons_self ⟨_, rfl, ⟨_, rfl, x_i32 _⟩⟩ (x_cs.mono B.2.2.2.2.2 (y_mon B hI)) (fun t' w0' w1' w2' f' K' tt' nn' h1 h2 => by cases h1; cases h2.eqf hR0; exact ⟨_, _, rfl, h2.fin hYt0 hs0_hd hF hL hfld (y_mon B hI), fun q9 => absurd hok q9, fun _ => ⟨rfl, rfl⟩⟩) (by exact Nat.le_of_ble_eq_true rfl) (by exact Nat.le_of_ble_eq_true rfl) Tel_d91
              · have q60_ : (0 : Int32).toInt = (0 : Int32).toInt := by rw [q60]
                have hno : ¬ m_elOk f x h w := fun q9 => by obtain ⟨a1, a2⟩ := q9; first | (have h9 := hout_r47 (by assumption); omega) | (rcases a2 with a2 | a2; omega; exact hout_r21 (by assumption) a2.1) | (rcases a2 with a2 | a2; omega; have h9 := hout_r30 (by assumption); omega) | omega
                refine lv_aload_n hx hb Tel_d63 rfl (lv_at hl 2 rfl) ?_
                refine lv_bipush hx hb Tel_d64 (v := (-2)) (by decide) ?_
                have ecm2 : ((-2) : Int32).toInt = (-2) := by decide
                refine y_call (z := (0, 59, 2, some 0, xM8)) (av := [.ref this, .int ((-2) : Int32)]) (rest := []) (y_cokV (n := 1) (ci := 11) X ym_counted rfl rfl rfl (x_cons (x_bw19 7 rfl rfl) (x_cons (x_bw19 9 rfl rfl) (x_cons (x_at 1 (by decide +kernel) rfl) (x_cons (x_bw0 1 rfl rfl) x_nilm)))) (x_bw19 10 rfl rfl) (by decide +kernel) ⟨Nat.le_of_ble_eq_true rfl, Nat.le_of_ble_eq_true rfl⟩) hY0 hI rfl Tel_d66 hl.1 (Nat.le_of_ble_eq_true rfl) (Nat.le_of_ble_eq_true rfl) (Nat.le_of_ble_eq_true rfl) (y_cons (y_cref hY_this rfl) (y_cons ⟨_, rfl, x_i32 _⟩ y_nil)) rfl (y_recv rfl hY_this) trivial (y_sub_ef rfl) fun v Yn o Hn L ho hr ha hIn hx_ hE hP => ?_
                replace hs_hd := y_Efld hE hY_this rfl (by decide) (by decide) hs_hd
                replace hn0 := y_Efld hE hY_hd rfl (by decide) (by decide) hn0
                replace hn1 := y_Efld hE hY_hd rfl (by decide) (by decide) hn1
                replace hn2 := y_Efld hE hY_hd rfl (by decide) (by decide) hn2
                replace hs_anightHill := y_Efld hE hY_hd rfl (by decide) (by decide) hs_anightHill
                replace hs_anightHow := y_Efld hE hY_hd rfl (by decide) (by decide) hs_anightHow
                replace hA_anightHill := hA_anightHill.kept (y_Earr hE hY_anightHill rfl (by decide))
                replace hA_anightHow := hA_anightHow.kept (y_Earr hE hY_anightHow rfl (by decide))
                replace hL := hL.E hY_hd hE (fun q u h => y_ext hx_ hI.1 h) (by decide +kernel)
                replace hF := fun b u g9 (hb : Y0 b = some u) (h42 : u ≠ 42) (hg9 : x_G[u]? = some g9) (hn : b ≠ hd) (hk9 : ∀ k, k < 16 → x_sl D 2 k hd s.heap ≠ some (.ref b)) => x_eq.trans (x_eq.E42 hE (y_mon B hI _ _ hb) hg9 h42 rfl) (hF b u g9 hb h42 hg9 hn hk9)
                replace hfld : z_fld D hd s.heap _ := fun k a b c d => ((x_eq.E42 (g := x_G[2]) hE hY_hd rfl (by decide) rfl) k a).trans (hfld k a b c d)
                replace hY_this := y_ext hx_ hI.1 hY_this
                replace hY_hd := y_ext hx_ hI.1 hY_hd
                replace hY_anightHill := y_ext hx_ hI.1 hY_anightHill
                replace hY_anightHow := y_ext hx_ hI.1 hY_anightHow
                obtain rfl := hP _ _ rfl
                clear ho hr ha hE hP hI hx_
                rename x_I _ _ _ _ _ _ _ _ _ _ => hI
                exact y_ireturn B hI rfl rfl rfl List.mem_cons_self ⟨_, rfl, ⟨_, rfl, x_i32 _⟩⟩ (x_cs.mono B.2.2.2.2.2 (y_mon B hI)) (fun t' w0' w1' w2' f' K' tt' nn' h1 h2 => by cases h1; cases h2.eqf hR0; exact ⟨_, _, rfl, h2.fin hYt0 hs0_hd hF hL hfld (y_mon B hI), fun _ => ⟨rfl, rfl⟩, fun q9 => absurd q9 hno⟩) (by exact Nat.le_of_ble_eq_true rfl) (by exact Nat.le_of_ble_eq_true rfl) Tel_d69
        · have q33_ : ¬ r30.toInt = (0 : Int32).toInt := fun q => q33 (Int32.toInt_inj.mp q)
          refine lv_iconst hx hb Tel_d36 (v := 1) (by decide) ?_
          refine lv_goto hx hb Tel_d37 (tgt := 41) (by decide) ?_
          refine lv_istore hx hb Tel_d41 hl (by decide) (lv' := [(5, .int (1 : Int32)), (4, .int (1 : Int32)), (0, .ref this), (1, .int x), (2, .int h), (3, .int w)]) rfl fun ls hl => ?_
          refine lv_iload_n hx hb Tel_d43 rfl (lv_at hl 3 rfl) ?_
          refine lv_iconst hx hb Tel_d44 (v := 0) (by decide) ?_
          refine lv_bipush hx hb Tel_d45 (v := 11) (by decide) ?_
          have ec11 : (11 : Int32).toInt = 11 := by decide
          refine y_call (z := (1, 88, 3, none, xM10)) (av := [.int x, .int (0 : Int32), .int (11 : Int32)]) (rest := []) (y_cokS (n := 3) X ym_within (x_cons (x_bw19 15 rfl rfl) (x_cons (x_bw19 1 rfl rfl) (x_cons (x_bw0 1 rfl rfl) x_nilm))) (x_bw19 2 rfl rfl) (by decide +kernel) ⟨Nat.le_of_ble_eq_true rfl, Nat.le_of_ble_eq_true rfl⟩) hY0 hI rfl Tel_d47 hl.1 (Nat.le_of_ble_eq_true rfl) (Nat.le_of_ble_eq_true rfl) (Nat.le_of_ble_eq_true rfl) (y_cons ⟨_, rfl, x_i32 _⟩ (y_cons ⟨_, rfl, x_i32 _⟩ (y_cons ⟨_, rfl, x_i32 _⟩ y_nil))) rfl (y_norecv rfl) trivial (y_sub_ef rfl) fun v Yn o Hn L ho hr ha hIn hx_ hE hP => ?_
          replace hs_hd := y_Efld hE hY_this rfl (by decide) (by decide) hs_hd
          replace hn0 := y_Efld hE hY_hd rfl (by decide) (by decide) hn0
          replace hn1 := y_Efld hE hY_hd rfl (by decide) (by decide) hn1
          replace hn2 := y_Efld hE hY_hd rfl (by decide) (by decide) hn2
          replace hs_anightHill := y_Efld hE hY_hd rfl (by decide) (by decide) hs_anightHill
          replace hs_anightHow := y_Efld hE hY_hd rfl (by decide) (by decide) hs_anightHow
          replace hA_anightHill := hA_anightHill.kept (y_Earr hE hY_anightHill rfl (by decide))
          replace hA_anightHow := hA_anightHow.kept (y_Earr hE hY_anightHow rfl (by decide))
          replace hL := hL.E hY_hd hE (fun q u h => y_ext hx_ hI.1 h) (by decide +kernel)
          replace hF := fun b u g9 (hb : Y0 b = some u) (h42 : u ≠ 42) (hg9 : x_G[u]? = some g9) (hn : b ≠ hd) (hk9 : ∀ k, k < 16 → x_sl D 2 k hd s.heap ≠ some (.ref b)) => x_eq.trans (x_eq.E42 hE (y_mon B hI _ _ hb) hg9 h42 rfl) (hF b u g9 hb h42 hg9 hn hk9)
          replace hfld : z_fld D hd s.heap _ := fun k a b c d => ((x_eq.E42 (g := x_G[2]) hE hY_hd rfl (by decide) rfl) k a).trans (hfld k a b c d)
          replace hY_this := y_ext hx_ hI.1 hY_this
          replace hY_hd := y_ext hx_ hI.1 hY_hd
          replace hY_anightHill := y_ext hx_ hI.1 hY_anightHill
          replace hY_anightHow := y_ext hx_ hI.1 hY_anightHow
          obtain ⟨r47, rfl, hin_r47, hout_r47⟩ := hP _ _ _ rfl
          clear ho hr ha hE hP hI hx_
          rename x_I _ _ _ _ _ _ _ _ _ _ => hI
          refine lv_if_eq hx hb Tel_d50 (tgt := 63) (by decide) (fun q50 => ?_) (fun q50 => ?_)
          · have q50_ : r47.toInt = (0 : Int32).toInt := by rw [q50]
            have hno : ¬ m_elOk f x h w := fun q9 => by obtain ⟨a1, a2⟩ := q9; first | (have h9 := hout_r47 (by assumption); omega) | (rcases a2 with a2 | a2; omega; exact hout_r21 (by assumption) a2.1) | (rcases a2 with a2 | a2; omega; have h9 := hout_r30 (by assumption); omega) | omega
            refine lv_aload_n hx hb Tel_d63 rfl (lv_at hl 2 rfl) ?_
            refine lv_bipush hx hb Tel_d64 (v := (-2)) (by decide) ?_
            have ecm2 : ((-2) : Int32).toInt = (-2) := by decide
            refine y_call (z := (0, 59, 2, some 0, xM8)) (av := [.ref this, .int ((-2) : Int32)]) (rest := []) (y_cokV (n := 1) (ci := 11) X ym_counted rfl rfl rfl (x_cons (x_bw19 7 rfl rfl) (x_cons (x_bw19 9 rfl rfl) (x_cons (x_at 1 (by decide +kernel) rfl) (x_cons (x_bw0 1 rfl rfl) x_nilm)))) (x_bw19 10 rfl rfl) (by decide +kernel) ⟨Nat.le_of_ble_eq_true rfl, Nat.le_of_ble_eq_true rfl⟩) hY0 hI rfl Tel_d66 hl.1 (Nat.le_of_ble_eq_true rfl) (Nat.le_of_ble_eq_true rfl) (Nat.le_of_ble_eq_true rfl) (y_cons (y_cref hY_this rfl) (y_cons ⟨_, rfl, x_i32 _⟩ y_nil)) rfl (y_recv rfl hY_this) trivial (y_sub_ef rfl) fun v Yn o Hn L ho hr ha hIn hx_ hE hP => ?_
            replace hs_hd := y_Efld hE hY_this rfl (by decide) (by decide) hs_hd
            replace hn0 := y_Efld hE hY_hd rfl (by decide) (by decide) hn0
            replace hn1 := y_Efld hE hY_hd rfl (by decide) (by decide) hn1
            replace hn2 := y_Efld hE hY_hd rfl (by decide) (by decide) hn2
            replace hs_anightHill := y_Efld hE hY_hd rfl (by decide) (by decide) hs_anightHill
            replace hs_anightHow := y_Efld hE hY_hd rfl (by decide) (by decide) hs_anightHow
            replace hA_anightHill := hA_anightHill.kept (y_Earr hE hY_anightHill rfl (by decide))
            replace hA_anightHow := hA_anightHow.kept (y_Earr hE hY_anightHow rfl (by decide))
            replace hL := hL.E hY_hd hE (fun q u h => y_ext hx_ hI.1 h) (by decide +kernel)
            replace hF := fun b u g9 (hb : Y0 b = some u) (h42 : u ≠ 42) (hg9 : x_G[u]? = some g9) (hn : b ≠ hd) (hk9 : ∀ k, k < 16 → x_sl D 2 k hd s.heap ≠ some (.ref b)) => x_eq.trans (x_eq.E42 hE (y_mon B hI _ _ hb) hg9 h42 rfl) (hF b u g9 hb h42 hg9 hn hk9)
            replace hfld : z_fld D hd s.heap _ := fun k a b c d => ((x_eq.E42 (g := x_G[2]) hE hY_hd rfl (by decide) rfl) k a).trans (hfld k a b c d)
            replace hY_this := y_ext hx_ hI.1 hY_this
            replace hY_hd := y_ext hx_ hI.1 hY_hd
            replace hY_anightHill := y_ext hx_ hI.1 hY_anightHill
            replace hY_anightHow := y_ext hx_ hI.1 hY_anightHow
            obtain rfl := hP _ _ rfl
            clear ho hr ha hE hP hI hx_
            rename x_I _ _ _ _ _ _ _ _ _ _ => hI
            exact y_ireturn B hI rfl rfl rfl List.mem_cons_self ⟨_, rfl, ⟨_, rfl, x_i32 _⟩⟩ (x_cs.mono B.2.2.2.2.2 (y_mon B hI)) (fun t' w0' w1' w2' f' K' tt' nn' h1 h2 => by cases h1; cases h2.eqf hR0; exact ⟨_, _, rfl, h2.fin hYt0 hs0_hd hF hL hfld (y_mon B hI), fun _ => ⟨rfl, rfl⟩, fun q9 => absurd q9 hno⟩) (by exact Nat.le_of_ble_eq_true rfl) (by exact Nat.le_of_ble_eq_true rfl) Tel_d69
          · have q50_ : ¬ r47.toInt = (0 : Int32).toInt := fun q => q50 (Int32.toInt_inj.mp q)
            refine lv_iload hx hb Tel_d53 (lv_at hl 1 rfl) ?_
            refine lv_if_ne hx hb Tel_d55 (tgt := 70) (by decide) (fun q55 => ?_) (fun q55 => ?_)
            · have q55_ : ¬ (1 : Int32).toInt = (0 : Int32).toInt := fun q => q55 (Int32.toInt_inj.mp q)
              have hw1 := hin_r47 (by assumption)
              have hok : m_elOk f x h w := ⟨by omega, by first | exact Or.inl ⟨by omega, by omega⟩ | exact Or.inr ⟨hin_r21 (by assumption), by have h9 := hin_r30 (by assumption); omega, by have h9 := hin_r30 (by assumption); omega⟩ | (exfalso; omega)⟩
              refine lv_aload_n hx hb Tel_d70 rfl (lv_at hl 2 rfl) ?_
              refine y_getf X (fl8 X.2.2.2.2.1) hI.1 hY_this rfl hs_hd Tel_d71 ?_
              refine y_getf X (fl154 X.2.2.2.2.1) hI.1 hY_hd rfl hs_anightHill Tel_d74 ?_
              refine lv_iload_n hx hb Tel_d77 rfl (lv_at hl 3 rfl) ?_
              refine lv_iload_n hx hb Tel_d78 rfl (lv_at hl 4 rfl) ?_
              have hs_old := hs_anightHill
              have hA_old := hA_anightHill
              refine y_iast X hY0 hI hY_anightHill rfl hA_anightHill (by omega) (by show _ < (12 : Int); omega) ⟨_, rfl, x_i32 _⟩ (by decide +kernel) Tel_d79 fun H locs hI h_new ho => ?_
              replace hA_anightHill := h_new
              generalize hf_f79 : y_up (fun j => f (136 + 2 * j)) x.toInt.toNat h = f79 at hA_anightHill
              replace hs_hd := y_slk hs_hd (ho _ (y_ne hY_this hY_anightHill rfl))
              replace hn0 := y_slk hn0 (ho _ (y_ne hY_hd hY_anightHill rfl))
              replace hn1 := y_slk hn1 (ho _ (y_ne hY_hd hY_anightHill rfl))
              replace hn2 := y_slk hn2 (ho _ (y_ne hY_hd hY_anightHill rfl))
              replace hs_anightHill := y_slk hs_anightHill (ho _ (y_ne hY_hd hY_anightHill rfl))
              replace hs_anightHow := y_slk hs_anightHow (ho _ (y_ne hY_hd hY_anightHill rfl))
              replace hA_anightHow := hA_anightHow.kept (ho _ (y_ne hY_anightHow hY_anightHill rfl))
              replace hL := hL.putA (c := (14, 30, 12, 136, 2)) (N := 12) hY_hd (by decide) rfl (by omega) hs_old hA_old h_new ho
              replace hF := fun b u g9 (hb : Y0 b = some u) (h42 : u ≠ 42) (hg9 : x_G[u]? = some g9) (hn : b ≠ hd) (hk9 : ∀ k, k < 16 → x_sl D 2 k hd s.heap ≠ some (.ref b)) => x_eq.trans (x_eq.of (ho b (fun e0 => hk9 14 (by decide) (by rw [e0]; exact hs0_anightHill)))) (hF b u g9 hb h42 hg9 hn hk9)
              replace hfld : z_fld D hd s.heap _ := fun k a b c d => (y_slk rfl (ho _ (y_ne hY_hd hY_anightHill rfl))).trans (hfld k a b c d)
              refine lv_aload_n hx hb Tel_d80 rfl (lv_at hl 2 rfl) ?_
              refine y_getf X (fl8 X.2.2.2.2.1) hI.1 hY_this rfl hs_hd Tel_d81 ?_
              refine y_getf X (fl155 X.2.2.2.2.1) hI.1 hY_hd rfl hs_anightHow Tel_d84 ?_
              refine lv_iload_n hx hb Tel_d87 rfl (lv_at hl 3 rfl) ?_
              refine lv_iload_n hx hb Tel_d88 rfl (lv_at hl 5 rfl) ?_
              have hs_old := hs_anightHow
              have hA_old := hA_anightHow
              refine y_iast X hY0 hI hY_anightHow rfl hA_anightHow (by omega) (by show _ < (12 : Int); omega) ⟨_, rfl, x_i32 _⟩ (by decide +kernel) Tel_d89 fun H locs hI h_new ho => ?_
              replace hA_anightHow := h_new
              generalize hf_f89 : y_up (fun j => f (137 + 2 * j)) x.toInt.toNat w = f89 at hA_anightHow
              replace hs_hd := y_slk hs_hd (ho _ (y_ne hY_this hY_anightHow rfl))
              replace hn0 := y_slk hn0 (ho _ (y_ne hY_hd hY_anightHow rfl))
              replace hn1 := y_slk hn1 (ho _ (y_ne hY_hd hY_anightHow rfl))
              replace hn2 := y_slk hn2 (ho _ (y_ne hY_hd hY_anightHow rfl))
              replace hs_anightHill := y_slk hs_anightHill (ho _ (y_ne hY_hd hY_anightHow rfl))
              replace hs_anightHow := y_slk hs_anightHow (ho _ (y_ne hY_hd hY_anightHow rfl))
              replace hA_anightHill := hA_anightHill.kept (ho _ (y_ne hY_anightHill hY_anightHow rfl))
              replace hL := hL.putA (c := (15, 31, 12, 137, 2)) (N := 12) hY_hd (by decide) rfl (by omega) hs_old hA_old h_new ho
              replace hF := fun b u g9 (hb : Y0 b = some u) (h42 : u ≠ 42) (hg9 : x_G[u]? = some g9) (hn : b ≠ hd) (hk9 : ∀ k, k < 16 → x_sl D 2 k hd s.heap ≠ some (.ref b)) => x_eq.trans (x_eq.of (ho b (fun e0 => hk9 15 (by decide) (by rw [e0]; exact hs0_anightHow)))) (hF b u g9 hb h42 hg9 hn hk9)
              replace hfld : z_fld D hd s.heap _ := fun k a b c d => (y_slk rfl (ho _ (y_ne hY_hd hY_anightHow rfl))).trans (hfld k a b c d)
              refine lv_iconst hx hb Tel_d90 (v := 1) (by decide) ?_
              exact y_ireturn B hI rfl rfl rfl List.mem_cons_self ⟨_, rfl, ⟨_, rfl, x_i32 _⟩⟩ (x_cs.mono B.2.2.2.2.2 (y_mon B hI)) (fun t' w0' w1' w2' f' K' tt' nn' h1 h2 => by cases h1; cases h2.eqf hR0; exact ⟨_, _, rfl, h2.fin hYt0 hs0_hd hF hL hfld (y_mon B hI), fun q9 => absurd hok q9, fun _ => ⟨rfl, rfl⟩⟩) (by exact Nat.le_of_ble_eq_true rfl) (by exact Nat.le_of_ble_eq_true rfl) Tel_d91
            · have q55_ : (1 : Int32).toInt = (0 : Int32).toInt := by rw [q55]
              refine lv_iload hx hb Tel_d58 (lv_at hl 0 rfl) ?_
              refine lv_if_ne hx hb Tel_d60 (tgt := 70) (by decide) (fun q60 => ?_) (fun q60 => ?_)
              · have q60_ : ¬ (1 : Int32).toInt = (0 : Int32).toInt := fun q => q60 (Int32.toInt_inj.mp q)
                have hw1 := hin_r47 (by assumption)
                have hok : m_elOk f x h w := ⟨by omega, by first | exact Or.inl ⟨by omega, by omega⟩ | exact Or.inr ⟨hin_r21 (by assumption), by have h9 := hin_r30 (by assumption); omega, by have h9 := hin_r30 (by assumption); omega⟩ | (exfalso; omega)⟩
                refine lv_aload_n hx hb Tel_d70 rfl (lv_at hl 2 rfl) ?_
                refine y_getf X (fl8 X.2.2.2.2.1) hI.1 hY_this rfl hs_hd Tel_d71 ?_
                refine y_getf X (fl154 X.2.2.2.2.1) hI.1 hY_hd rfl hs_anightHill Tel_d74 ?_
                refine lv_iload_n hx hb Tel_d77 rfl (lv_at hl 3 rfl) ?_
                refine lv_iload_n hx hb Tel_d78 rfl (lv_at hl 4 rfl) ?_
                have hs_old := hs_anightHill
                have hA_old := hA_anightHill
                refine y_iast X hY0 hI hY_anightHill rfl hA_anightHill (by omega) (by show _ < (12 : Int); omega) ⟨_, rfl, x_i32 _⟩ (by decide +kernel) Tel_d79 fun H locs hI h_new ho => ?_
                replace hA_anightHill := h_new
                generalize hf_f79 : y_up (fun j => f (136 + 2 * j)) x.toInt.toNat h = f79 at hA_anightHill
                replace hs_hd := y_slk hs_hd (ho _ (y_ne hY_this hY_anightHill rfl))
                replace hn0 := y_slk hn0 (ho _ (y_ne hY_hd hY_anightHill rfl))
                replace hn1 := y_slk hn1 (ho _ (y_ne hY_hd hY_anightHill rfl))
                replace hn2 := y_slk hn2 (ho _ (y_ne hY_hd hY_anightHill rfl))
                replace hs_anightHill := y_slk hs_anightHill (ho _ (y_ne hY_hd hY_anightHill rfl))
                replace hs_anightHow := y_slk hs_anightHow (ho _ (y_ne hY_hd hY_anightHill rfl))
                replace hA_anightHow := hA_anightHow.kept (ho _ (y_ne hY_anightHow hY_anightHill rfl))
                replace hL := hL.putA (c := (14, 30, 12, 136, 2)) (N := 12) hY_hd (by decide) rfl (by omega) hs_old hA_old h_new ho
                replace hF := fun b u g9 (hb : Y0 b = some u) (h42 : u ≠ 42) (hg9 : x_G[u]? = some g9) (hn : b ≠ hd) (hk9 : ∀ k, k < 16 → x_sl D 2 k hd s.heap ≠ some (.ref b)) => x_eq.trans (x_eq.of (ho b (fun e0 => hk9 14 (by decide) (by rw [e0]; exact hs0_anightHill)))) (hF b u g9 hb h42 hg9 hn hk9)
                replace hfld : z_fld D hd s.heap _ := fun k a b c d => (y_slk rfl (ho _ (y_ne hY_hd hY_anightHill rfl))).trans (hfld k a b c d)
                refine lv_aload_n hx hb Tel_d80 rfl (lv_at hl 2 rfl) ?_
                refine y_getf X (fl8 X.2.2.2.2.1) hI.1 hY_this rfl hs_hd Tel_d81 ?_
                refine y_getf X (fl155 X.2.2.2.2.1) hI.1 hY_hd rfl hs_anightHow Tel_d84 ?_
                refine lv_iload_n hx hb Tel_d87 rfl (lv_at hl 3 rfl) ?_
                refine lv_iload_n hx hb Tel_d88 rfl (lv_at hl 5 rfl) ?_
                have hs_old := hs_anightHow
                have hA_old := hA_anightHow
                refine y_iast X hY0 hI hY_anightHow rfl hA_anightHow (by omega) (by show _ < (12 : Int); omega) ⟨_, rfl, x_i32 _⟩ (by decide +kernel) Tel_d89 fun H locs hI h_new ho => ?_
                replace hA_anightHow := h_new
                generalize hf_f89 : y_up (fun j => f (137 + 2 * j)) x.toInt.toNat w = f89 at hA_anightHow
                replace hs_hd := y_slk hs_hd (ho _ (y_ne hY_this hY_anightHow rfl))
                replace hn0 := y_slk hn0 (ho _ (y_ne hY_hd hY_anightHow rfl))
                replace hn1 := y_slk hn1 (ho _ (y_ne hY_hd hY_anightHow rfl))
                replace hn2 := y_slk hn2 (ho _ (y_ne hY_hd hY_anightHow rfl))
                replace hs_anightHill := y_slk hs_anightHill (ho _ (y_ne hY_hd hY_anightHow rfl))
                replace hs_anightHow := y_slk hs_anightHow (ho _ (y_ne hY_hd hY_anightHow rfl))
                replace hA_anightHill := hA_anightHill.kept (ho _ (y_ne hY_anightHill hY_anightHow rfl))
                replace hL := hL.putA (c := (15, 31, 12, 137, 2)) (N := 12) hY_hd (by decide) rfl (by omega) hs_old hA_old h_new ho
                replace hF := fun b u g9 (hb : Y0 b = some u) (h42 : u ≠ 42) (hg9 : x_G[u]? = some g9) (hn : b ≠ hd) (hk9 : ∀ k, k < 16 → x_sl D 2 k hd s.heap ≠ some (.ref b)) => x_eq.trans (x_eq.of (ho b (fun e0 => hk9 15 (by decide) (by rw [e0]; exact hs0_anightHow)))) (hF b u g9 hb h42 hg9 hn hk9)
                replace hfld : z_fld D hd s.heap _ := fun k a b c d => (y_slk rfl (ho _ (y_ne hY_hd hY_anightHow rfl))).trans (hfld k a b c d)
                refine lv_iconst hx hb Tel_d90 (v := 1) (by decide) ?_
                exact y_ireturn B hI rfl rfl rfl List.mem_cons_self ⟨_, rfl, ⟨_, rfl, x_i32 _⟩⟩ (x_cs.mono B.2.2.2.2.2 (y_mon B hI)) (fun t' w0' w1' w2' f' K' tt' nn' h1 h2 => by cases h1; cases h2.eqf hR0; exact ⟨_, _, rfl, h2.fin hYt0 hs0_hd hF hL hfld (y_mon B hI), fun q9 => absurd hok q9, fun _ => ⟨rfl, rfl⟩⟩) (by exact Nat.le_of_ble_eq_true rfl) (by exact Nat.le_of_ble_eq_true rfl) Tel_d91
              · have q60_ : (1 : Int32).toInt = (0 : Int32).toInt := by rw [q60]
                have hno : ¬ m_elOk f x h w := fun q9 => by obtain ⟨a1, a2⟩ := q9; first | (have h9 := hout_r47 (by assumption); omega) | (rcases a2 with a2 | a2; omega; exact hout_r21 (by assumption) a2.1) | (rcases a2 with a2 | a2; omega; have h9 := hout_r30 (by assumption); omega) | omega
                refine lv_aload_n hx hb Tel_d63 rfl (lv_at hl 2 rfl) ?_
                refine lv_bipush hx hb Tel_d64 (v := (-2)) (by decide) ?_
                have ecm2 : ((-2) : Int32).toInt = (-2) := by decide
                refine y_call (z := (0, 59, 2, some 0, xM8)) (av := [.ref this, .int ((-2) : Int32)]) (rest := []) (y_cokV (n := 1) (ci := 11) X ym_counted rfl rfl rfl (x_cons (x_bw19 7 rfl rfl) (x_cons (x_bw19 9 rfl rfl) (x_cons (x_at 1 (by decide +kernel) rfl) (x_cons (x_bw0 1 rfl rfl) x_nilm)))) (x_bw19 10 rfl rfl) (by decide +kernel) ⟨Nat.le_of_ble_eq_true rfl, Nat.le_of_ble_eq_true rfl⟩) hY0 hI rfl Tel_d66 hl.1 (Nat.le_of_ble_eq_true rfl) (Nat.le_of_ble_eq_true rfl) (Nat.le_of_ble_eq_true rfl) (y_cons (y_cref hY_this rfl) (y_cons ⟨_, rfl, x_i32 _⟩ y_nil)) rfl (y_recv rfl hY_this) trivial (y_sub_ef rfl) fun v Yn o Hn L ho hr ha hIn hx_ hE hP => ?_
                replace hs_hd := y_Efld hE hY_this rfl (by decide) (by decide) hs_hd
                replace hn0 := y_Efld hE hY_hd rfl (by decide) (by decide) hn0
                replace hn1 := y_Efld hE hY_hd rfl (by decide) (by decide) hn1
                replace hn2 := y_Efld hE hY_hd rfl (by decide) (by decide) hn2
                replace hs_anightHill := y_Efld hE hY_hd rfl (by decide) (by decide) hs_anightHill
                replace hs_anightHow := y_Efld hE hY_hd rfl (by decide) (by decide) hs_anightHow
                replace hA_anightHill := hA_anightHill.kept (y_Earr hE hY_anightHill rfl (by decide))
                replace hA_anightHow := hA_anightHow.kept (y_Earr hE hY_anightHow rfl (by decide))
                replace hL := hL.E hY_hd hE (fun q u h => y_ext hx_ hI.1 h) (by decide +kernel)
                replace hF := fun b u g9 (hb : Y0 b = some u) (h42 : u ≠ 42) (hg9 : x_G[u]? = some g9) (hn : b ≠ hd) (hk9 : ∀ k, k < 16 → x_sl D 2 k hd s.heap ≠ some (.ref b)) => x_eq.trans (x_eq.E42 hE (y_mon B hI _ _ hb) hg9 h42 rfl) (hF b u g9 hb h42 hg9 hn hk9)
                replace hfld : z_fld D hd s.heap _ := fun k a b c d => ((x_eq.E42 (g := x_G[2]) hE hY_hd rfl (by decide) rfl) k a).trans (hfld k a b c d)
                replace hY_this := y_ext hx_ hI.1 hY_this
                replace hY_hd := y_ext hx_ hI.1 hY_hd
                replace hY_anightHill := y_ext hx_ hI.1 hY_anightHill
                replace hY_anightHow := y_ext hx_ hI.1 hY_anightHow
                obtain rfl := hP _ _ rfl
                clear ho hr ha hE hP hI hx_
                rename x_I _ _ _ _ _ _ _ _ _ _ => hI
                exact y_ireturn B hI rfl rfl rfl List.mem_cons_self ⟨_, rfl, ⟨_, rfl, x_i32 _⟩⟩ (x_cs.mono B.2.2.2.2.2 (y_mon B hI)) (fun t' w0' w1' w2' f' K' tt' nn' h1 h2 => by cases h1; cases h2.eqf hR0; exact ⟨_, _, rfl, h2.fin hYt0 hs0_hd hF hL hfld (y_mon B hI), fun _ => ⟨rfl, rfl⟩, fun q9 => absurd q9 hno⟩) (by exact Nat.le_of_ble_eq_true rfl) (by exact Nat.le_of_ble_eq_true rfl) Tel_d69

