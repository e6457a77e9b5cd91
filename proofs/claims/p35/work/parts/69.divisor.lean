theorem z_lrem (x y : Int64) (h : ¬ y = 0) : (x - x / y * y).toInt.natAbs < y.toInt.natAbs := by
  have hy : y.toInt ≠ 0 := fun q => h (Int64.toInt_inj.mp q)
  have x1 := Int64.le_toInt x
  have x2 := Int64.toInt_lt x
  have y1 := Int64.le_toInt y
  have y2 := Int64.toInt_lt y
  have e1 : x - x / y * y = Int64.ofInt (x.toInt - x.toInt.tdiv y.toInt * y.toInt) := by
    rw [Int64.ofInt_sub, Int64.ofInt_mul, Int64.ofInt_tdiv, Int64.ofInt_toInt, Int64.ofInt_toInt]
    · exact Int64.minValue_le_toInt x
    · exact Int64.toInt_le x
    · exact Int64.minValue_le_toInt y
    · exact Int64.toInt_le y
  have e2 : x.toInt - x.toInt.tdiv y.toInt * y.toInt = x.toInt.tmod y.toInt := by
    have := Int.tmod_add_tdiv_mul x.toInt y.toInt
    omega
  have e3 : (x.toInt.tmod y.toInt).natAbs < y.toInt.natAbs := by
    rw [Int.natAbs_tmod]
    exact Nat.mod_lt _ (by omega)
  rw [e1, e2, Int64.toInt_ofInt_of_le (by omega) (by omega)]
  exact e3

def xMdp : xM := (⟨"TwinFiresModel", "divisor", "(JJ)J"⟩, prog_14_method_10_code, 10, some .long, [xFL, xL 1 9223372036854775807], [([xFL, xL 1 9223372036854775807], some (xL 1 9223372036854775807)), ([xFL, xL 1 9223372036854775807], some (xL (-9223372036854775808) (-1)))], [], (0, 0, 0, 0), none)
theorem dp_d0 : decode xMdp.2.1 0 = .ok (.lload_n 0, 1) := dz_ok (by decide +kernel)
theorem dp_d1 : decode xMdp.2.1 1 = .ok (.lconst 0, 1) := dz_ok (by decide +kernel)
theorem dp_d2 : decode xMdp.2.1 2 = .ok (.lcmp, 1) := dz_ok (by decide +kernel)
theorem dp_d3 : decode xMdp.2.1 3 = .ok (.ifCond .ge 8, 3) := dz_ok (by decide +kernel)
theorem dp_d6 : decode xMdp.2.1 6 = .ok (.lload_n 0, 1) := dz_ok (by decide +kernel)
theorem dp_d7 : decode xMdp.2.1 7 = .ok (.lneg, 1) := dz_ok (by decide +kernel)
theorem dp_d8 : decode xMdp.2.1 8 = .ok (.goto 4, 3) := dz_ok (by decide +kernel)
theorem dp_d11 : decode xMdp.2.1 11 = .ok (.lload_n 0, 1) := dz_ok (by decide +kernel)
theorem dp_d12 : decode xMdp.2.1 12 = .ok (.lstore 4, 2) := dz_ok (by decide +kernel)
theorem dp_d14 : decode xMdp.2.1 14 = .ok (.lload_n 2, 1) := dz_ok (by decide +kernel)
theorem dp_d15 : decode xMdp.2.1 15 = .ok (.lstore 6, 2) := dz_ok (by decide +kernel)
theorem dp_d17 : decode xMdp.2.1 17 = .ok (.lload 6, 2) := dz_ok (by decide +kernel)
theorem dp_d19 : decode xMdp.2.1 19 = .ok (.lconst 0, 1) := dz_ok (by decide +kernel)
theorem dp_d20 : decode xMdp.2.1 20 = .ok (.lcmp, 1) := dz_ok (by decide +kernel)
theorem dp_d21 : decode xMdp.2.1 21 = .ok (.ifCond .eq 21, 3) := dz_ok (by decide +kernel)
theorem dp_d24 : decode xMdp.2.1 24 = .ok (.lload 4, 2) := dz_ok (by decide +kernel)
theorem dp_d26 : decode xMdp.2.1 26 = .ok (.lload 6, 2) := dz_ok (by decide +kernel)
theorem dp_d28 : decode xMdp.2.1 28 = .ok (.lrem, 1) := dz_ok (by decide +kernel)
theorem dp_d29 : decode xMdp.2.1 29 = .ok (.lstore 8, 2) := dz_ok (by decide +kernel)
theorem dp_d31 : decode xMdp.2.1 31 = .ok (.lload 6, 2) := dz_ok (by decide +kernel)
theorem dp_d33 : decode xMdp.2.1 33 = .ok (.lstore 4, 2) := dz_ok (by decide +kernel)
theorem dp_d35 : decode xMdp.2.1 35 = .ok (.lload 8, 2) := dz_ok (by decide +kernel)
theorem dp_d37 : decode xMdp.2.1 37 = .ok (.lstore 6, 2) := dz_ok (by decide +kernel)
theorem dp_d39 : decode xMdp.2.1 39 = .ok (.goto (-22), 3) := dz_ok (by decide +kernel)
theorem dp_d42 : decode xMdp.2.1 42 = .ok (.lload 4, 2) := dz_ok (by decide +kernel)
theorem dp_d44 : decode xMdp.2.1 44 = .ok (.lreturn, 1) := dz_ok (by decide +kernel)
theorem dp_L17 {p : Program} {l : Launch} {e : Env} {s : State} {m : MethodId} {below : List Frame} {meth : Method} {c : Code} {D : va_G} {U : State} {Y0 : xY} {av : List Value} (B : y_B vwCl x_Tb x_Nb xMdp p s m meth c D U Y0 av)  {a b : Int64} :
    ∀ (n : Nat), ∀ (H : Heap) (Y : xY) (locs : List Loc) (ls : Array Slot) (x : Int64) (y : Int64), x_I D x_G x_Zs U (x_efs xMdp) Y0 s.heap Y H locs → lv_has ls xMdp.2.2.1 [(4, .long x), (6, .long y), (0, .long a), (2, .long b)] → (¬ y.toInt = 0 ∨ ¬ x.toInt = 0) → y.toInt.natAbs < n → W p l e (x_rm xMdp) s m av.toArray below meth c H locs 0 0 (y_QQ below D x_G x_Zs U xMdp y_TP av Y0 s) (F0 m 17 ls []) := by
  have X := B.1
  have hx := X.1
  have hb := X.2.1
  have hY0 := B.2.2.2.2.1
  intro n
  induction n with
  | zero => intro _ _ _ _ _ _ _ _ _ h; exact absurd h (Nat.not_lt_zero _)
  | succ n ih =>
    intro H Y locs ls x y  hI hl hxy hn
    refine lv_lload hx hb dp_d17 (lv_at hl 1 rfl) ?_
    refine lv_lconst hx hb dp_d19 (v := 0) (by decide) ?_
    have el0 : (0 : Int64).toInt = 0 := by decide
    refine W.lcmp hx hb dp_d20 ?_
    have h_z20 := y_cmp y (0 : Int64)
    generalize hg_z20 : lg_cmp y (0 : Int64) = z20 at h_z20 ⊢
    have ec0 : (0 : Int32).toInt = 0 := by decide
    refine lv_if_eq hx hb dp_d21 (tgt := 42) (by decide) (fun q21 => ?_) (fun q21 => ?_)
    · have q21_ : z20.toInt = (0 : Int32).toInt := by rw [q21]
      refine lv_lload hx hb dp_d42 (lv_at hl 0 rfl) ?_
      have hx0 : ¬ x.toInt = 0 := by omega
      have rx := x_i64 x
      rcases (show 1 ≤ x.toInt ∨ x.toInt ≤ -1 by omega) with hc | hc
      · exact y_lreturn B hI rfl rfl List.mem_cons_self ⟨_, rfl, ⟨_, rfl, hc, rx.2⟩⟩ (x_cs.mono B.2.2.2.2.2 (y_mon B hI)) trivial (Nat.le_refl _) (Nat.le_refl _) dp_d44
      · exact y_lreturn B hI rfl rfl (List.mem_cons_of_mem _ List.mem_cons_self) ⟨_, rfl, ⟨_, rfl, rx.1, hc⟩⟩ (x_cs.mono B.2.2.2.2.2 (y_mon B hI)) trivial (Nat.le_refl _) (Nat.le_refl _) dp_d44
    · have q21_ : ¬ z20.toInt = (0 : Int32).toInt := fun q => q21 (Int32.toInt_inj.mp q)
      refine lv_lload hx hb dp_d24 (lv_at hl 0 rfl) ?_
      refine lv_lload hx hb dp_d26 (lv_at hl 1 rfl) ?_
      refine lv_lrem hx hb dp_d28 (by intro q; have := congrArg Int64.toInt q; have z0 : (0 : Int64).toInt = 0 := (by decide); omega) ?_
      have h_z28 := z_lrem x y (by intro q; have := congrArg Int64.toInt q; have z0 : (0 : Int64).toInt = 0 := (by decide); omega)
      generalize hg_z28 : x - x / y * y = z28 at h_z28 ⊢
      refine lv_lstore hx hb dp_d29 hl (by decide) (lv' := [(8, .long z28), (4, .long x), (6, .long y), (0, .long a), (2, .long b)]) rfl fun ls hl => ?_
      refine lv_lload hx hb dp_d31 (lv_at hl 2 rfl) ?_
      refine lv_lstore hx hb dp_d33 hl (by decide) (lv' := [(4, .long y), (8, .long z28), (6, .long y), (0, .long a), (2, .long b)]) rfl fun ls hl => ?_
      refine lv_lload hx hb dp_d35 (lv_at hl 1 rfl) ?_
      refine lv_lstore hx hb dp_d37 hl (by decide) (lv' := [(6, .long z28), (4, .long y), (8, .long z28), (0, .long a), (2, .long b)]) rfl fun ls hl => ?_
      refine lv_goto hx hb dp_d39 (tgt := 17) (by decide) ?_
      exact ih _ _ _ _ _ _ hI (lv_sub hl [1, 0, 3, 4] rfl) (by first | assumption | omega) (by omega)
theorem ym_dp : y_Met vwCl x_G x_Zs x_Tb x_Nb xMdp y_T y_TP := by
  refine y_main (by decide +kernel) (by decide +kernel) x_Tb_good x_Nb_ok ?_
  intro p l e s m below meth c D U Y0 av ls B hI _ hl
  have X := B.1
  have hx := X.1
  have hb := X.2.1
  have hY0 := B.2.2.2.2.1
  obtain ⟨v0, v1, rfl, ⟨a, rfl, -⟩, ⟨b, rfl, hb1, hb2⟩⟩ := x_two B.2.2.2.2.2
  replace hb1 : (1 : Int) ≤ b.toInt := hb1
  replace hb2 : b.toInt ≤ (9223372036854775807 : Int) := hb2
  replace hl : lv_has ls xMdp.2.2.1 [(0, .long a), (2, .long b)] := hl
  refine lv_lload_n hx hb dp_d0 rfl (lv_at hl 0 rfl) ?_
  refine lv_lconst hx hb dp_d1 (v := 0) (by decide) ?_
  have el0 : (0 : Int64).toInt = 0 := by decide
  refine W.lcmp hx hb dp_d2 ?_
  have h_z2 := y_cmp a (0 : Int64)
  generalize hg_z2 : lg_cmp a (0 : Int64) = z2 at h_z2 ⊢
  have ec0 : (0 : Int32).toInt = 0 := by decide
  refine lv_if_ge hx hb dp_d3 (tgt := 11) (by decide) (fun q3 => ?_) (fun q3 => ?_)
  · have q3_ : (0 : Int32).toInt ≤ z2.toInt := x_le32.mp q3
    refine lv_lload_n hx hb dp_d11 rfl (lv_at hl 0 rfl) ?_
    refine lv_lstore hx hb dp_d12 hl (by decide) (lv' := [(4, .long a), (0, .long a), (2, .long b)]) rfl fun ls hl => ?_
    refine lv_lload_n hx hb dp_d14 rfl (lv_at hl 2 rfl) ?_
    refine lv_lstore hx hb dp_d15 hl (by decide) (lv' := [(6, .long b), (4, .long a), (0, .long a), (2, .long b)]) rfl fun ls hl => ?_
    have ry := Int64.le_toInt b
    have ry2 := Int64.toInt_lt b
    exact dp_L17 B  9223372036854775809 _ _ _ _ _ _ hI (lv_sub hl [1, 0, 2, 3] rfl) (by first | assumption | omega) (by omega)
  · have q3_ : z2.toInt < (0 : Int32).toInt := Int.not_le.mp fun q => q3 (x_le32.mpr q)
    refine lv_lload_n hx hb dp_d6 rfl (lv_at hl 0 rfl) ?_
    refine lv_lneg hx hb dp_d7 ?_
    generalize hg_z7 : -a = z7
    refine lv_goto hx hb dp_d8 (tgt := 12) (by decide) ?_
    refine lv_lstore hx hb dp_d12 hl (by decide) (lv' := [(4, .long z7), (0, .long a), (2, .long b)]) rfl fun ls hl => ?_
    refine lv_lload_n hx hb dp_d14 rfl (lv_at hl 2 rfl) ?_
    refine lv_lstore hx hb dp_d15 hl (by decide) (lv' := [(6, .long b), (4, .long z7), (0, .long a), (2, .long b)]) rfl fun ls hl => ?_
    have ry := Int64.le_toInt b
    have ry2 := Int64.toInt_lt b
    exact dp_L17 B  9223372036854775809 _ _ _ _ _ _ hI (lv_sub hl [1, 0, 2, 3] rfl) (by first | assumption | omega) (by omega)
def xMdn : xM := (⟨"TwinFiresModel", "divisor", "(JJ)J"⟩, prog_14_method_10_code, 10, some .long, [xFL, xL (-9223372036854775808) (-1)], [([xFL, xL (-9223372036854775808) (-1)], some (xL 1 9223372036854775807)), ([xFL, xL (-9223372036854775808) (-1)], some (xL (-9223372036854775808) (-1)))], [], (0, 0, 0, 0), none)
theorem dn_d0 : decode xMdn.2.1 0 = .ok (.lload_n 0, 1) := dz_ok (by decide +kernel)
theorem dn_d1 : decode xMdn.2.1 1 = .ok (.lconst 0, 1) := dz_ok (by decide +kernel)
theorem dn_d2 : decode xMdn.2.1 2 = .ok (.lcmp, 1) := dz_ok (by decide +kernel)
theorem dn_d3 : decode xMdn.2.1 3 = .ok (.ifCond .ge 8, 3) := dz_ok (by decide +kernel)
theorem dn_d6 : decode xMdn.2.1 6 = .ok (.lload_n 0, 1) := dz_ok (by decide +kernel)
theorem dn_d7 : decode xMdn.2.1 7 = .ok (.lneg, 1) := dz_ok (by decide +kernel)
theorem dn_d8 : decode xMdn.2.1 8 = .ok (.goto 4, 3) := dz_ok (by decide +kernel)
theorem dn_d11 : decode xMdn.2.1 11 = .ok (.lload_n 0, 1) := dz_ok (by decide +kernel)
theorem dn_d12 : decode xMdn.2.1 12 = .ok (.lstore 4, 2) := dz_ok (by decide +kernel)
theorem dn_d14 : decode xMdn.2.1 14 = .ok (.lload_n 2, 1) := dz_ok (by decide +kernel)
theorem dn_d15 : decode xMdn.2.1 15 = .ok (.lstore 6, 2) := dz_ok (by decide +kernel)
theorem dn_d17 : decode xMdn.2.1 17 = .ok (.lload 6, 2) := dz_ok (by decide +kernel)
theorem dn_d19 : decode xMdn.2.1 19 = .ok (.lconst 0, 1) := dz_ok (by decide +kernel)
theorem dn_d20 : decode xMdn.2.1 20 = .ok (.lcmp, 1) := dz_ok (by decide +kernel)
theorem dn_d21 : decode xMdn.2.1 21 = .ok (.ifCond .eq 21, 3) := dz_ok (by decide +kernel)
theorem dn_d24 : decode xMdn.2.1 24 = .ok (.lload 4, 2) := dz_ok (by decide +kernel)
theorem dn_d26 : decode xMdn.2.1 26 = .ok (.lload 6, 2) := dz_ok (by decide +kernel)
theorem dn_d28 : decode xMdn.2.1 28 = .ok (.lrem, 1) := dz_ok (by decide +kernel)
theorem dn_d29 : decode xMdn.2.1 29 = .ok (.lstore 8, 2) := dz_ok (by decide +kernel)
theorem dn_d31 : decode xMdn.2.1 31 = .ok (.lload 6, 2) := dz_ok (by decide +kernel)
theorem dn_d33 : decode xMdn.2.1 33 = .ok (.lstore 4, 2) := dz_ok (by decide +kernel)
theorem dn_d35 : decode xMdn.2.1 35 = .ok (.lload 8, 2) := dz_ok (by decide +kernel)
theorem dn_d37 : decode xMdn.2.1 37 = .ok (.lstore 6, 2) := dz_ok (by decide +kernel)
theorem dn_d39 : decode xMdn.2.1 39 = .ok (.goto (-22), 3) := dz_ok (by decide +kernel)
theorem dn_d42 : decode xMdn.2.1 42 = .ok (.lload 4, 2) := dz_ok (by decide +kernel)
theorem dn_d44 : decode xMdn.2.1 44 = .ok (.lreturn, 1) := dz_ok (by decide +kernel)
theorem dn_L17 {p : Program} {l : Launch} {e : Env} {s : State} {m : MethodId} {below : List Frame} {meth : Method} {c : Code} {D : va_G} {U : State} {Y0 : xY} {av : List Value} (B : y_B vwCl x_Tb x_Nb xMdn p s m meth c D U Y0 av)  {a b : Int64} :
    ∀ (n : Nat), ∀ (H : Heap) (Y : xY) (locs : List Loc) (ls : Array Slot) (x : Int64) (y : Int64), x_I D x_G x_Zs U (x_efs xMdn) Y0 s.heap Y H locs → lv_has ls xMdn.2.2.1 [(4, .long x), (6, .long y), (0, .long a), (2, .long b)] → (¬ y.toInt = 0 ∨ ¬ x.toInt = 0) → y.toInt.natAbs < n → W p l e (x_rm xMdn) s m av.toArray below meth c H locs 0 0 (y_QQ below D x_G x_Zs U xMdn y_TP av Y0 s) (F0 m 17 ls []) := by
  have X := B.1
  have hx := X.1
  have hb := X.2.1
  have hY0 := B.2.2.2.2.1
  intro n
  induction n with
  | zero => intro _ _ _ _ _ _ _ _ _ h; exact absurd h (Nat.not_lt_zero _)
  | succ n ih =>
    intro H Y locs ls x y  hI hl hxy hn
    refine lv_lload hx hb dn_d17 (lv_at hl 1 rfl) ?_
    refine lv_lconst hx hb dn_d19 (v := 0) (by decide) ?_
    have el0 : (0 : Int64).toInt = 0 := by decide
    refine W.lcmp hx hb dn_d20 ?_
    have h_z20 := y_cmp y (0 : Int64)
    generalize hg_z20 : lg_cmp y (0 : Int64) = z20 at h_z20 ⊢
    have ec0 : (0 : Int32).toInt = 0 := by decide
    refine lv_if_eq hx hb dn_d21 (tgt := 42) (by decide) (fun q21 => ?_) (fun q21 => ?_)
    · have q21_ : z20.toInt = (0 : Int32).toInt := by rw [q21]
      refine lv_lload hx hb dn_d42 (lv_at hl 0 rfl) ?_
      have hx0 : ¬ x.toInt = 0 := by omega
      have rx := x_i64 x
      rcases (show 1 ≤ x.toInt ∨ x.toInt ≤ -1 by omega) with hc | hc
      · exact y_lreturn B hI rfl rfl List.mem_cons_self ⟨_, rfl, ⟨_, rfl, hc, rx.2⟩⟩ (x_cs.mono B.2.2.2.2.2 (y_mon B hI)) trivial (Nat.le_refl _) (Nat.le_refl _) dn_d44
      · exact y_lreturn B hI rfl rfl (List.mem_cons_of_mem _ List.mem_cons_self) ⟨_, rfl, ⟨_, rfl, rx.1, hc⟩⟩ (x_cs.mono B.2.2.2.2.2 (y_mon B hI)) trivial (Nat.le_refl _) (Nat.le_refl _) dn_d44
    · have q21_ : ¬ z20.toInt = (0 : Int32).toInt := fun q => q21 (Int32.toInt_inj.mp q)
      refine lv_lload hx hb dn_d24 (lv_at hl 0 rfl) ?_
      refine lv_lload hx hb dn_d26 (lv_at hl 1 rfl) ?_
      refine lv_lrem hx hb dn_d28 (by intro q; have := congrArg Int64.toInt q; have z0 : (0 : Int64).toInt = 0 := (by decide); omega) ?_
      have h_z28 := z_lrem x y (by intro q; have := congrArg Int64.toInt q; have z0 : (0 : Int64).toInt = 0 := (by decide); omega)
      generalize hg_z28 : x - x / y * y = z28 at h_z28 ⊢
      refine lv_lstore hx hb dn_d29 hl (by decide) (lv' := [(8, .long z28), (4, .long x), (6, .long y), (0, .long a), (2, .long b)]) rfl fun ls hl => ?_
      refine lv_lload hx hb dn_d31 (lv_at hl 2 rfl) ?_
      refine lv_lstore hx hb dn_d33 hl (by decide) (lv' := [(4, .long y), (8, .long z28), (6, .long y), (0, .long a), (2, .long b)]) rfl fun ls hl => ?_
      refine lv_lload hx hb dn_d35 (lv_at hl 1 rfl) ?_
      refine lv_lstore hx hb dn_d37 hl (by decide) (lv' := [(6, .long z28), (4, .long y), (8, .long z28), (0, .long a), (2, .long b)]) rfl fun ls hl => ?_
      refine lv_goto hx hb dn_d39 (tgt := 17) (by decide) ?_
      exact ih _ _ _ _ _ _ hI (lv_sub hl [1, 0, 3, 4] rfl) (by first | assumption | omega) (by omega)
theorem ym_dn : y_Met vwCl x_G x_Zs x_Tb x_Nb xMdn y_T y_TP := by
  refine y_main (by decide +kernel) (by decide +kernel) x_Tb_good x_Nb_ok ?_
  intro p l e s m below meth c D U Y0 av ls B hI _ hl
  have X := B.1
  have hx := X.1
  have hb := X.2.1
  have hY0 := B.2.2.2.2.1
  obtain ⟨v0, v1, rfl, ⟨a, rfl, -⟩, ⟨b, rfl, hb1, hb2⟩⟩ := x_two B.2.2.2.2.2
  replace hb1 : (-9223372036854775808 : Int) ≤ b.toInt := hb1
  replace hb2 : b.toInt ≤ (-1 : Int) := hb2
  replace hl : lv_has ls xMdn.2.2.1 [(0, .long a), (2, .long b)] := hl
  refine lv_lload_n hx hb dn_d0 rfl (lv_at hl 0 rfl) ?_
  refine lv_lconst hx hb dn_d1 (v := 0) (by decide) ?_
  have el0 : (0 : Int64).toInt = 0 := by decide
  refine W.lcmp hx hb dn_d2 ?_
  have h_z2 := y_cmp a (0 : Int64)
  generalize hg_z2 : lg_cmp a (0 : Int64) = z2 at h_z2 ⊢
  have ec0 : (0 : Int32).toInt = 0 := by decide
  refine lv_if_ge hx hb dn_d3 (tgt := 11) (by decide) (fun q3 => ?_) (fun q3 => ?_)
  · have q3_ : (0 : Int32).toInt ≤ z2.toInt := x_le32.mp q3
    refine lv_lload_n hx hb dn_d11 rfl (lv_at hl 0 rfl) ?_
    refine lv_lstore hx hb dn_d12 hl (by decide) (lv' := [(4, .long a), (0, .long a), (2, .long b)]) rfl fun ls hl => ?_
    refine lv_lload_n hx hb dn_d14 rfl (lv_at hl 2 rfl) ?_
    refine lv_lstore hx hb dn_d15 hl (by decide) (lv' := [(6, .long b), (4, .long a), (0, .long a), (2, .long b)]) rfl fun ls hl => ?_
    have ry := Int64.le_toInt b
    have ry2 := Int64.toInt_lt b
    exact dn_L17 B  9223372036854775809 _ _ _ _ _ _ hI (lv_sub hl [1, 0, 2, 3] rfl) (by first | assumption | omega) (by omega)
  · have q3_ : z2.toInt < (0 : Int32).toInt := Int.not_le.mp fun q => q3 (x_le32.mpr q)
    refine lv_lload_n hx hb dn_d6 rfl (lv_at hl 0 rfl) ?_
    refine lv_lneg hx hb dn_d7 ?_
    generalize hg_z7 : -a = z7
    refine lv_goto hx hb dn_d8 (tgt := 12) (by decide) ?_
    refine lv_lstore hx hb dn_d12 hl (by decide) (lv' := [(4, .long z7), (0, .long a), (2, .long b)]) rfl fun ls hl => ?_
    refine lv_lload_n hx hb dn_d14 rfl (lv_at hl 2 rfl) ?_
    refine lv_lstore hx hb dn_d15 hl (by decide) (lv' := [(6, .long b), (4, .long z7), (0, .long a), (2, .long b)]) rfl fun ls hl => ?_
    have ry := Int64.le_toInt b
    have ry2 := Int64.toInt_lt b
    exact dn_L17 B  9223372036854775809 _ _ _ _ _ _ hI (lv_sub hl [1, 0, 2, 3] rfl) (by first | assumption | omega) (by omega)

