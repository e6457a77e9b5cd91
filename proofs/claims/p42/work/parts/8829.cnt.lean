/-- how many of the first k hills have reported -/
def m_reps (f : Nat → Int32) : Nat → Nat
  | 0 => 0
  | k + 1 => m_reps f k + (if f (13 + 5 * k) = -1 then 0 else 1)
theorem m_reps_le {f : Nat → Int32} : ∀ k, m_reps f k ≤ k := by
  intro k
  induction k with
  | zero => exact Nat.le_refl _
  | succ k ih =>
    show m_reps f k + _ ≤ k + 1
    split <;> omega
def m_cnt (f : Nat → Int32) (n w r : Int32) : Prop := (w.toInt = 0 → r = f 0) ∧ (w.toInt = 1 → r = f 1) ∧ (w.toInt = 2 → r = n) ∧ (w.toInt = 3 → r.toInt = m_reps f (f 0).toInt.toNat) ∧ (w.toInt = 4 → r = f 2) ∧ (¬ (0 ≤ w.toInt ∧ w.toInt ≤ 4) → r = -2)
theorem m_cnt.eq {f : Nat → Int32} {n w r r' : Int32} (h1 : m_cnt f n w r) (h2 : m_cnt f n w r') : r = r' := by
  by_cases h : 0 ≤ w.toInt ∧ w.toInt ≤ 4
  · rcases (by omega : w.toInt = 0 ∨ w.toInt = 1 ∨ w.toInt = 2 ∨ w.toInt = 3 ∨ w.toInt = 4) with q | q | q | q | q
    · exact (h1.1 q).trans (h2.1 q).symm
    · exact (h1.2.1 q).trans (h2.2.1 q).symm
    · exact (h1.2.2.1 q).trans (h2.2.2.1 q).symm
    · exact Int32.toInt_inj.mp ((h1.2.2.2.1 q).trans (h2.2.2.2.1 q).symm)
    · exact (h1.2.2.2.2.1 q).trans (h2.2.2.2.2.1 q).symm
  · exact (h1.2.2.2.2.2 h).trans (h2.2.2.2.2.2 h).symm
def z_Prp9 : yP := fun D av Y H v _ _ => ∀ (this : Nat) (f : Nat → Int32), av = [.ref this] → z_L D Y this H f → ∃ r : Int32, v = some (.int r) ∧ r.toInt = m_reps f (f 0).toInt.toNat ∧ r.toInt ≤ 10
theorem rQ_d0 : decode xM133.2.1 0 = .ok (.iconst 0, 1) := dz_ok (by decide +kernel)
theorem rQ_d1 : decode xM133.2.1 1 = .ok (.istore_n 1, 1) := dz_ok (by decide +kernel)
theorem rQ_d2 : decode xM133.2.1 2 = .ok (.iconst 0, 1) := dz_ok (by decide +kernel)
theorem rQ_d3 : decode xM133.2.1 3 = .ok (.istore_n 2, 1) := dz_ok (by decide +kernel)
theorem rQ_d4 : decode xM133.2.1 4 = .ok (.iload_n 2, 1) := dz_ok (by decide +kernel)
theorem rQ_d5 : decode xM133.2.1 5 = .ok (.aload_n 0, 1) := dz_ok (by decide +kernel)
theorem rQ_d6 : decode xM133.2.1 6 = .ok (.getfield 63, 3) := dz_ok (by decide +kernel)
theorem rQ_d9 : decode xM133.2.1 9 = .ok (.if_icmp .ge 27, 3) := dz_ok (by decide +kernel)
theorem rQ_d12 : decode xM133.2.1 12 = .ok (.iload_n 1, 1) := dz_ok (by decide +kernel)
theorem rQ_d13 : decode xM133.2.1 13 = .ok (.aload_n 0, 1) := dz_ok (by decide +kernel)
theorem rQ_d14 : decode xM133.2.1 14 = .ok (.getfield 21, 3) := dz_ok (by decide +kernel)
theorem rQ_d17 : decode xM133.2.1 17 = .ok (.iload_n 2, 1) := dz_ok (by decide +kernel)
theorem rQ_d18 : decode xM133.2.1 18 = .ok (.iaload, 1) := dz_ok (by decide +kernel)
theorem rQ_d19 : decode xM133.2.1 19 = .ok (.iconst (-1), 1) := dz_ok (by decide +kernel)
theorem rQ_d20 : decode xM133.2.1 20 = .ok (.if_icmp .ne 7, 3) := dz_ok (by decide +kernel)
theorem rQ_d23 : decode xM133.2.1 23 = .ok (.iconst 0, 1) := dz_ok (by decide +kernel)
theorem rQ_d24 : decode xM133.2.1 24 = .ok (.goto 4, 3) := dz_ok (by decide +kernel)
theorem rQ_d27 : decode xM133.2.1 27 = .ok (.iconst 1, 1) := dz_ok (by decide +kernel)
theorem rQ_d28 : decode xM133.2.1 28 = .ok (.iadd, 1) := dz_ok (by decide +kernel)
theorem rQ_d29 : decode xM133.2.1 29 = .ok (.istore_n 1, 1) := dz_ok (by decide +kernel)
theorem rQ_d30 : decode xM133.2.1 30 = .ok (.iinc 2 1, 3) := dz_ok (by decide +kernel)
theorem rQ_d33 : decode xM133.2.1 33 = .ok (.goto (-29), 3) := dz_ok (by decide +kernel)
theorem rQ_d36 : decode xM133.2.1 36 = .ok (.iload_n 1, 1) := dz_ok (by decide +kernel)
theorem rQ_d37 : decode xM133.2.1 37 = .ok (.ireturn, 1) := dz_ok (by decide +kernel)
theorem rQ_L4 {p : Program} {l : Launch} {e : Env} {s : State} {m : MethodId} {below : List Frame} {meth : Method} {c : Code} {D : va_G} {U : State} {Y0 : xY} {av : List Value} (B : y_B vwCl x_Tb x_Nb xM133 p s m meth c D U Y0 av) {this areport : Nat} {f : Nat → Int32} (hav : av = [.ref this]) (hL0 : z_L D Y0 this s.heap f) (hd0 : 0 ≤ (f 0).toInt ∧ (f 0).toInt ≤ 10)  :
    ∀ (n : Nat), ∀ (H : Heap) (Y : xY) (locs : List Loc) (ls : Array Slot) (j : Int32) (al : Int32), x_I D x_G x_Zs U (x_efs xM133) Y0 s.heap Y H locs → Y this = some 2 → Y areport = some 22 → x_sl D 2 4 this H = some (.ref areport) → x_sl D 2 0 this H = some (.int (f 0)) → y_A areport 10 H (fun j => f (13 + 5 * j)) → lv_has ls xM133.2.2.1 [(2, .int j), (1, .int al), (0, .ref this)] → (0 ≤ j.toInt ∧ j.toInt ≤ (f 0).toInt) → (al.toInt = m_reps f j.toInt.toNat) → (11 - j.toInt).toNat < n → W p l e (x_rm xM133) s m av.toArray below meth c H locs 0 0 (y_QQ below D x_G x_Zs U xM133 z_Prp9 av Y0 s) (F0 m 4 ls []) := by
  have X := B.1
  have hx := X.1
  have hb := X.2.1
  have hY0 := B.2.2.2.2.1
  intro n
  induction n with
  | zero => intro _ _ _ _ _ _ _ _ _ _ _ _ _ _ _ h; exact absurd h (Nat.not_lt_zero _)
  | succ n ih =>
    intro H Y locs ls j al  hI hY_this hY_areport hs_areport hsi_hills hA_areport hl hj hal hn
    have hle := m_reps_le (f := f) j.toInt.toNat
    refine lv_iload_n hx hb rQ_d4 rfl (lv_at hl 0 rfl) ?_
    refine lv_aload_n hx hb rQ_d5 rfl (lv_at hl 2 rfl) ?_
    refine y_getf X (fl2 X.2.2.2.2.1) hI.1 hY_this rfl hsi_hills rQ_d6 ?_
    refine lv_icmp_ge hx hb rQ_d9 (tgt := 36) (by decide) (fun q9 => ?_) (fun q9 => ?_)
    · have q9_ : (f 0).toInt ≤ j.toInt := x_le32.mp q9
      refine lv_iload_n hx hb rQ_d36 rfl (lv_at hl 1 rfl) ?_
      have e9 : j.toInt = (f 0).toInt := by omega
      subst hav
      exact y_ireturn B hI rfl rfl rfl List.mem_cons_self ⟨_, rfl, ⟨_, rfl, x_i32 _⟩⟩ (x_cs.mono B.2.2.2.2.2 (y_mon B hI)) (fun t' f' h1 h2 => by cases h1; cases h2.uniq hL0; exact ⟨_, rfl, by rw [hal, e9], by omega⟩) (Nat.le_refl _) (Nat.le_refl _) rQ_d37
    · have q9_ : j.toInt < (f 0).toInt := Int.not_le.mp fun q => q9 (x_le32.mpr q)
      refine lv_iload_n hx hb rQ_d12 rfl (lv_at hl 1 rfl) ?_
      refine lv_aload_n hx hb rQ_d13 rfl (lv_at hl 2 rfl) ?_
      refine y_getf X (fl4 X.2.2.2.2.1) hI.1 hY_this rfl hs_areport rQ_d14 ?_
      refine lv_iload_n hx hb rQ_d17 rfl (lv_at hl 0 rfl) ?_
      refine y_iald X hI.1 hY_areport rfl hA_areport (by omega) (by show _ < (10 : Int); omega) rQ_d18 ?_
      obtain ⟨e18, hg_e18⟩ : ∃ e18 : Int32, f (13 + 5 * j.toInt.toNat) = e18 := ⟨_, rfl⟩
      rw [hg_e18]
      refine lv_iconst hx hb rQ_d19 (v := (-1)) (by decide) ?_
      have ecm1 : ((-1) : Int32).toInt = (-1) := by decide
      refine lv_icmp_ne hx hb rQ_d20 (tgt := 27) (by decide) (fun q20 => ?_) (fun q20 => ?_)
      · have q20_ : ¬ e18.toInt = ((-1) : Int32).toInt := fun q => q20 (Int32.toInt_inj.mp q)
        refine lv_iconst hx hb rQ_d27 (v := 1) (by decide) ?_
        have ec1 : (1 : Int32).toInt = 1 := by decide
        refine lv_iadd hx hb rQ_d28 ?_
        generalize hg_z28 : al + (1 : Int32) = z28
        have h_z28 : z28.toInt = al.toInt + 1 := by rw [← hg_z28]; have := y_add (x := al) (y := (1 : Int32)) (by rw [ec1]; omega) (by rw [ec1]; omega); rw [ec1] at this; exact this
        refine lv_istore_n hx hb rQ_d29 rfl hl (by decide) (lv' := [(1, .int z28), (2, .int j), (0, .ref this)]) rfl fun ls hl => ?_
        obtain ⟨z30, hg_z30⟩ : ∃ z30 : Int32, j + Int32.ofInt 1 = z30 := ⟨_, rfl⟩
        have h_z30 : z30.toInt = j.toInt + 1 := by rw [← hg_z30]; exact y_inc (by decide) (by omega) (by omega)
        refine lv_iinc hx hb rQ_d30 hl (k := 1) rfl hg_z30 (by decide) (lv' := [(2, .int z30), (1, .int z28), (0, .ref this)]) rfl fun ls hl => ?_
        refine lv_goto hx hb rQ_d33 (tgt := 4) (by decide) ?_
        have his : z30.toInt.toNat = j.toInt.toNat + 1 := by omega
        exact ih _ _ _ _ _ _ hI hY_this hY_areport hs_areport hsi_hills hA_areport (lv_sub hl [0, 1, 2] rfl) (by first | assumption | omega) (by rw [his]; show _ = ((m_reps f j.toInt.toNat + (if f (13 + 5 * j.toInt.toNat) = -1 then 0 else 1) : Nat) : Int); first | (rw [if_pos (hg_e18.trans q20)]; omega) | (rw [if_neg (fun q9 => q20 (hg_e18.symm.trans q9))]; omega)) (by omega)
      · have q20_ : e18.toInt = ((-1) : Int32).toInt := by rw [q20]
        refine lv_iconst hx hb rQ_d23 (v := 0) (by decide) ?_
        have ec0 : (0 : Int32).toInt = 0 := by decide
        refine lv_goto hx hb rQ_d24 (tgt := 28) (by decide) ?_
        refine lv_iadd hx hb rQ_d28 ?_
        generalize hg_z28 : al + (0 : Int32) = z28
        have h_z28 : z28.toInt = al.toInt + 0 := by rw [← hg_z28]; have := y_add (x := al) (y := (0 : Int32)) (by rw [ec0]; omega) (by rw [ec0]; omega); rw [ec0] at this; exact this
        refine lv_istore_n hx hb rQ_d29 rfl hl (by decide) (lv' := [(1, .int z28), (2, .int j), (0, .ref this)]) rfl fun ls hl => ?_
        obtain ⟨z30, hg_z30⟩ : ∃ z30 : Int32, j + Int32.ofInt 1 = z30 := ⟨_, rfl⟩
        have h_z30 : z30.toInt = j.toInt + 1 := by rw [← hg_z30]; exact y_inc (by decide) (by omega) (by omega)
        refine lv_iinc hx hb rQ_d30 hl (k := 1) rfl hg_z30 (by decide) (lv' := [(2, .int z30), (1, .int z28), (0, .ref this)]) rfl fun ls hl => ?_
        refine lv_goto hx hb rQ_d33 (tgt := 4) (by decide) ?_
        have his : z30.toInt.toNat = j.toInt.toNat + 1 := by omega
        exact ih _ _ _ _ _ _ hI hY_this hY_areport hs_areport hsi_hills hA_areport (lv_sub hl [0, 1, 2] rfl) (by first | assumption | omega) (by rw [his]; show _ = ((m_reps f j.toInt.toNat + (if f (13 + 5 * j.toInt.toNat) = -1 then 0 else 1) : Nat) : Int); first | (rw [if_pos (hg_e18.trans q20)]; omega) | (rw [if_neg (fun q9 => q20 (hg_e18.symm.trans q9))]; omega)) (by omega)
theorem ym_reports : y_Met vwCl x_G x_Zs x_Tb x_Nb xM133 z_AL z_Prp9 := by
  refine y_main (by decide +kernel) (by decide +kernel) x_Tb_good x_Nb_ok ?_
  intro p l e s m below meth c D U Y0 av ls B hI hAL hl
  have X := B.1
  have hx := X.1
  have hb := X.2.1
  have hY0 := B.2.2.2.2.1
  obtain ⟨v0, rfl, hv0⟩ := x_one B.2.2.2.2.2
  obtain ⟨this, t0, rfl, ht0, hY_this⟩ := x_ref_at hv0 rfl
  obtain rfl := List.mem_singleton.mp ht0
  replace hl : lv_has ls xM133.2.2.1 [(0, .ref this)] := hl
  obtain ⟨f, hL⟩ := hAL _ rfl
  have hL0 := hL
  have hhi := hL.1.1
  have hF : z_fr D Y0 s.heap s.heap this := fun _ _ _ _ _ _ _ => x_eq.of rfl
  obtain ⟨areport, hs_areport, hY_areport, hA_areport⟩ := hL.2.1 (4, 22, 10, 13, 5) (by decide)
  replace hA_areport : y_A areport 10 s.heap (fun j => f (13 + 5 * j)) := hA_areport
  have hs0_areport := hs_areport
  have hsi_hills := hhi
  have hd0 : 0 ≤ (f 0).toInt ∧ (f 0).toInt ≤ 10 := by
    obtain ⟨x9, e9, b9⟩ := y_fldI (k := 0) hI.1 hY_this rfl rfl
    rw [hhi] at e9
    cases e9
    exact b9
  refine lv_iconst hx hb rQ_d0 (v := 0) (by decide) ?_
  have ec0 : (0 : Int32).toInt = 0 := by decide
  refine lv_istore_n hx hb rQ_d1 rfl hl (by decide) (lv' := [(1, .int (0 : Int32)), (0, .ref this)]) rfl fun ls hl => ?_
  refine lv_iconst hx hb rQ_d2 (v := 0) (by decide) ?_
  refine lv_istore_n hx hb rQ_d3 rfl hl (by decide) (lv' := [(2, .int (0 : Int32)), (1, .int (0 : Int32)), (0, .ref this)]) rfl fun ls hl => ?_
  exact rQ_L4 B rfl hL0 hd0 12 _ _ _ _ _ _ hI hY_this hY_areport hs_areport hsi_hills hA_areport (lv_sub hl [0, 1, 2] rfl) (by first | assumption | omega) rfl (by omega)
def z_Pco9 : yP := fun D av _ H v _ _ => ∀ (this bk : Nat) (w n9 : Int32) (f : Nat → Int32), av = [.ref this, .int w] → x_sl D 12 0 this H = some (.ref bk) → x_sl D 12 10 this H = some (.int n9) → z_c f → y_A bk 160 H f → ∃ r : Int32, v = some (.int r) ∧ m_cnt f n9 w r
theorem oQ_d0 : decode xM225.2.1 0 = .ok (.iconst 0, 1) := dz_ok (by decide +kernel)
theorem oQ_d1 : decode xM225.2.1 1 = .ok (.istore_n 2, 1) := dz_ok (by decide +kernel)
theorem oQ_d2 : decode xM225.2.1 2 = .ok (.iconst 0, 1) := dz_ok (by decide +kernel)
theorem oQ_d3 : decode xM225.2.1 3 = .ok (.istore_n 3, 1) := dz_ok (by decide +kernel)
theorem oQ_d4 : decode xM225.2.1 4 = .ok (.iload_n 3, 1) := dz_ok (by decide +kernel)
theorem oQ_d5 : decode xM225.2.1 5 = .ok (.aload_n 0, 1) := dz_ok (by decide +kernel)
theorem oQ_d6 : decode xM225.2.1 6 = .ok (.getfield 7, 3) := dz_ok (by decide +kernel)
theorem oQ_d9 : decode xM225.2.1 9 = .ok (.iconst 0, 1) := dz_ok (by decide +kernel)
theorem oQ_d10 : decode xM225.2.1 10 = .ok (.iaload, 1) := dz_ok (by decide +kernel)
theorem oQ_d11 : decode xM225.2.1 11 = .ok (.if_icmp .ge 27, 3) := dz_ok (by decide +kernel)
theorem oQ_d14 : decode xM225.2.1 14 = .ok (.iload_n 2, 1) := dz_ok (by decide +kernel)
theorem oQ_d15 : decode xM225.2.1 15 = .ok (.aload_n 0, 1) := dz_ok (by decide +kernel)
theorem oQ_d16 : decode xM225.2.1 16 = .ok (.iload_n 3, 1) := dz_ok (by decide +kernel)
theorem oQ_d17 : decode xM225.2.1 17 = .ok (.iconst 3, 1) := dz_ok (by decide +kernel)
theorem oQ_d18 : decode xM225.2.1 18 = .ok (.invokevirtual 99, 3) := dz_ok (by decide +kernel)
theorem oQ_d21 : decode xM225.2.1 21 = .ok (.iconst (-1), 1) := dz_ok (by decide +kernel)
theorem oQ_d22 : decode xM225.2.1 22 = .ok (.if_icmp .ne 7, 3) := dz_ok (by decide +kernel)
theorem oQ_d25 : decode xM225.2.1 25 = .ok (.iconst 0, 1) := dz_ok (by decide +kernel)
theorem oQ_d26 : decode xM225.2.1 26 = .ok (.goto 4, 3) := dz_ok (by decide +kernel)
theorem oQ_d29 : decode xM225.2.1 29 = .ok (.iconst 1, 1) := dz_ok (by decide +kernel)
theorem oQ_d30 : decode xM225.2.1 30 = .ok (.iadd, 1) := dz_ok (by decide +kernel)
theorem oQ_d31 : decode xM225.2.1 31 = .ok (.istore_n 2, 1) := dz_ok (by decide +kernel)
theorem oQ_d32 : decode xM225.2.1 32 = .ok (.iinc 3 1, 3) := dz_ok (by decide +kernel)
theorem oQ_d35 : decode xM225.2.1 35 = .ok (.goto (-31), 3) := dz_ok (by decide +kernel)
theorem oQ_d38 : decode xM225.2.1 38 = .ok (.iload_n 1, 1) := dz_ok (by decide +kernel)
theorem oQ_d39 : decode xM225.2.1 39 = .ok (.iconst 2, 1) := dz_ok (by decide +kernel)
theorem oQ_d40 : decode xM225.2.1 40 = .ok (.if_icmp .ge 12, 3) := dz_ok (by decide +kernel)
theorem oQ_d43 : decode xM225.2.1 43 = .ok (.aload_n 0, 1) := dz_ok (by decide +kernel)
theorem oQ_d44 : decode xM225.2.1 44 = .ok (.getfield 7, 3) := dz_ok (by decide +kernel)
theorem oQ_d47 : decode xM225.2.1 47 = .ok (.iload_n 1, 1) := dz_ok (by decide +kernel)
theorem oQ_d48 : decode xM225.2.1 48 = .ok (.iaload, 1) := dz_ok (by decide +kernel)
theorem oQ_d49 : decode xM225.2.1 49 = .ok (.goto 30, 3) := dz_ok (by decide +kernel)
theorem oQ_d52 : decode xM225.2.1 52 = .ok (.iload_n 1, 1) := dz_ok (by decide +kernel)
theorem oQ_d53 : decode xM225.2.1 53 = .ok (.iconst 2, 1) := dz_ok (by decide +kernel)
theorem oQ_d54 : decode xM225.2.1 54 = .ok (.if_icmp .ne 10, 3) := dz_ok (by decide +kernel)
theorem oQ_d57 : decode xM225.2.1 57 = .ok (.aload_n 0, 1) := dz_ok (by decide +kernel)
theorem oQ_d58 : decode xM225.2.1 58 = .ok (.getfield 160, 3) := dz_ok (by decide +kernel)
theorem oQ_d61 : decode xM225.2.1 61 = .ok (.goto 18, 3) := dz_ok (by decide +kernel)
theorem oQ_d64 : decode xM225.2.1 64 = .ok (.iload_n 1, 1) := dz_ok (by decide +kernel)
theorem oQ_d65 : decode xM225.2.1 65 = .ok (.iconst 3, 1) := dz_ok (by decide +kernel)
theorem oQ_d66 : decode xM225.2.1 66 = .ok (.if_icmp .ne 7, 3) := dz_ok (by decide +kernel)
theorem oQ_d69 : decode xM225.2.1 69 = .ok (.iload_n 2, 1) := dz_ok (by decide +kernel)
theorem oQ_d70 : decode xM225.2.1 70 = .ok (.goto 9, 3) := dz_ok (by decide +kernel)
theorem oQ_d73 : decode xM225.2.1 73 = .ok (.aload_n 0, 1) := dz_ok (by decide +kernel)
theorem oQ_d74 : decode xM225.2.1 74 = .ok (.getfield 7, 3) := dz_ok (by decide +kernel)
theorem oQ_d77 : decode xM225.2.1 77 = .ok (.iconst 2, 1) := dz_ok (by decide +kernel)
theorem oQ_d78 : decode xM225.2.1 78 = .ok (.iaload, 1) := dz_ok (by decide +kernel)
theorem oQ_d79 : decode xM225.2.1 79 = .ok (.ireturn, 1) := dz_ok (by decide +kernel)
theorem oQ_L4 {p : Program} {l : Launch} {e : Env} {s : State} {m : MethodId} {below : List Frame} {meth : Method} {c : Code} {D : va_G} {U : State} {Y0 : xY} {av : List Value} (B : y_B vwCl x_Tb x_Nb xM225 p s m meth c D U Y0 av) {this bk : Nat} {w nn : Int32} {fb : Nat → Int32} (hav : av = [.ref this, .int w]) (hs0 : x_sl D 12 0 this s.heap = some (.ref bk)) (hn9 : x_sl D 12 10 this s.heap = some (.int nn)) (hA0 : y_A bk 160 s.heap fb) (hcn : z_c fb) (hd : z_hd fb) (hw : 0 ≤ w.toInt ∧ w.toInt ≤ 4)  :
    ∀ (n : Nat), ∀ (H : Heap) (Y : xY) (locs : List Loc) (ls : Array Slot) (j : Int32) (al : Int32), x_I D x_G x_Zs U (x_efs xM225) Y0 s.heap Y H locs → Y this = some 17 → Y bk = some 46 → x_sl D 12 0 this H = some (.ref bk) → x_sl D 12 10 this H = some (.int nn) → y_A bk 160 H fb → lv_has ls xM225.2.2.1 [(3, .int j), (2, .int al), (0, .ref this), (1, .int w)] → (0 ≤ j.toInt ∧ j.toInt ≤ (fb 0).toInt) → (al.toInt = m_reps fb j.toInt.toNat) → (11 - j.toInt).toNat < n → W p l e (x_rm xM225) s m av.toArray below meth c H locs 0 0 (y_QQ below D x_G x_Zs U xM225 z_Pco9 av Y0 s) (F0 m 4 ls []) := by
  have X := B.1
  have hx := X.1
  have hb := X.2.1
  have hY0 := B.2.2.2.2.1
  intro n
  induction n with
  | zero => intro _ _ _ _ _ _ _ _ _ _ _ _ _ _ _ h; exact absurd h (Nat.not_lt_zero _)
  | succ n ih =>
    intro H Y locs ls j al  hI hY_this hY_bk hs_bk hsi_typed hA_bk hl hj hal hn
    have hle := m_reps_le (f := fb) j.toInt.toNat
    have hd0 := hd.1
    refine lv_iload_n hx hb oQ_d4 rfl (lv_at hl 0 rfl) ?_
    refine lv_aload_n hx hb oQ_d5 rfl (lv_at hl 2 rfl) ?_
    refine y_getf X (fl190 X.2.2.2.2.1) hI.1 hY_this rfl hs_bk oQ_d6 ?_
    refine lv_iconst hx hb oQ_d9 (v := 0) (by decide) ?_
    have ec0 : (0 : Int32).toInt = 0 := by decide
    refine y_iald X hI.1 hY_bk rfl hA_bk (by omega) (by show _ < (160 : Int); omega) oQ_d10 ?_
    obtain ⟨e10, hg_e10⟩ : ∃ e10 : Int32, fb (0 : Int32).toInt.toNat = e10 := ⟨_, rfl⟩
    rw [hg_e10]
    rw [z_i0] at hg_e10
    have h_e10 : e10.toInt = (fb 0).toInt := by rw [hg_e10]
    refine lv_icmp_ge hx hb oQ_d11 (tgt := 38) (by decide) (fun q11 => ?_) (fun q11 => ?_)
    · have q11_ : e10.toInt ≤ j.toInt := x_le32.mp q11
      refine lv_iload_n hx hb oQ_d38 rfl (lv_at hl 3 rfl) ?_
      refine lv_iconst hx hb oQ_d39 (v := 2) (by decide) ?_
      have ec2 : (2 : Int32).toInt = 2 := by decide
      refine lv_icmp_ge hx hb oQ_d40 (tgt := 52) (by decide) (fun q40 => ?_) (fun q40 => ?_)
      · have q40_ : (2 : Int32).toInt ≤ w.toInt := x_le32.mp q40
        refine lv_iload_n hx hb oQ_d52 rfl (lv_at hl 3 rfl) ?_
        refine lv_iconst hx hb oQ_d53 (v := 2) (by decide) ?_
        refine lv_icmp_ne hx hb oQ_d54 (tgt := 64) (by decide) (fun q54 => ?_) (fun q54 => ?_)
        · have q54_ : ¬ w.toInt = (2 : Int32).toInt := fun q => q54 (Int32.toInt_inj.mp q)
          refine lv_iload_n hx hb oQ_d64 rfl (lv_at hl 3 rfl) ?_
          refine lv_iconst hx hb oQ_d65 (v := 3) (by decide) ?_
          have ec3 : (3 : Int32).toInt = 3 := by decide
          refine lv_icmp_ne hx hb oQ_d66 (tgt := 73) (by decide) (fun q66 => ?_) (fun q66 => ?_)
          · have q66_ : ¬ w.toInt = (3 : Int32).toInt := fun q => q66 (Int32.toInt_inj.mp q)
            refine lv_aload_n hx hb oQ_d73 rfl (lv_at hl 2 rfl) ?_
            refine y_getf X (fl190 X.2.2.2.2.1) hI.1 hY_this rfl hs_bk oQ_d74 ?_
            refine lv_iconst hx hb oQ_d77 (v := 2) (by decide) ?_
            refine y_iald X hI.1 hY_bk rfl hA_bk (by omega) (by show _ < (160 : Int); omega) oQ_d78 ?_
            obtain ⟨e78, hg_e78⟩ : ∃ e78 : Int32, fb (2 : Int32).toInt.toNat = e78 := ⟨_, rfl⟩
            rw [hg_e78]
            have e9 : j.toInt = (fb 0).toInt := by omega
            have h78 : e78 = fb 2 := by rw [← hg_e78]; rfl
            subst hav
            exact y_ireturn B hI rfl rfl rfl List.mem_cons_self ⟨_, rfl, ⟨_, rfl, x_i32 _⟩⟩ (x_cs.mono B.2.2.2.2.2 (y_mon B hI)) (fun t' b' w' n' f' h1 h2 h3 h4 h5 => by cases h1; cases h2.symm.trans hs0; cases h3.symm.trans hn9; cases z_uniq h5 hA0 h4 hcn; exact ⟨_, rfl, fun q9 => absurd q9 (by omega), fun q9 => absurd q9 (by omega), fun q9 => absurd q9 (by omega), fun q9 => absurd q9 (by omega), fun _ => h78, fun q9 => absurd q9 (by omega)⟩) (Nat.le_refl _) (Nat.le_refl _) oQ_d79
          · have q66_ : w.toInt = (3 : Int32).toInt := by rw [q66]
            refine lv_iload_n hx hb oQ_d69 rfl (lv_at hl 1 rfl) ?_
            refine lv_goto hx hb oQ_d70 (tgt := 79) (by decide) ?_
            have e9 : j.toInt = (fb 0).toInt := by omega
            subst hav
            exact y_ireturn B hI rfl rfl rfl List.mem_cons_self ⟨_, rfl, ⟨_, rfl, x_i32 _⟩⟩ (x_cs.mono B.2.2.2.2.2 (y_mon B hI)) (fun t' b' w' n' f' h1 h2 h3 h4 h5 => by cases h1; cases h2.symm.trans hs0; cases h3.symm.trans hn9; cases z_uniq h5 hA0 h4 hcn; exact ⟨_, rfl, fun q9 => absurd q9 (by omega), fun q9 => absurd q9 (by omega), fun q9 => absurd q9 (by omega), fun _ => (by rw [hal, e9]), fun q9 => absurd q9 (by omega), fun q9 => absurd q9 (by omega)⟩) (Nat.le_refl _) (Nat.le_refl _) oQ_d79
        · have q54_ : w.toInt = (2 : Int32).toInt := by rw [q54]
          refine lv_aload_n hx hb oQ_d57 rfl (lv_at hl 2 rfl) ?_
          refine y_getf X (fl193 X.2.2.2.2.1) hI.1 hY_this rfl hsi_typed oQ_d58 ?_
          refine lv_goto hx hb oQ_d61 (tgt := 79) (by decide) ?_
          have e9 : j.toInt = (fb 0).toInt := by omega
          subst hav
          exact y_ireturn B hI rfl rfl rfl List.mem_cons_self ⟨_, rfl, ⟨_, rfl, x_i32 _⟩⟩ (x_cs.mono B.2.2.2.2.2 (y_mon B hI)) (fun t' b' w' n' f' h1 h2 h3 h4 h5 => by cases h1; cases h2.symm.trans hs0; cases h3.symm.trans hn9; cases z_uniq h5 hA0 h4 hcn; exact ⟨_, rfl, fun q9 => absurd q9 (by omega), fun q9 => absurd q9 (by omega), fun _ => rfl, fun q9 => absurd q9 (by omega), fun q9 => absurd q9 (by omega), fun q9 => absurd q9 (by omega)⟩) (Nat.le_refl _) (Nat.le_refl _) oQ_d79
      · have q40_ : w.toInt < (2 : Int32).toInt := Int.not_le.mp fun q => q40 (x_le32.mpr q)
        refine lv_aload_n hx hb oQ_d43 rfl (lv_at hl 2 rfl) ?_
        refine y_getf X (fl190 X.2.2.2.2.1) hI.1 hY_this rfl hs_bk oQ_d44 ?_
        refine lv_iload_n hx hb oQ_d47 rfl (lv_at hl 3 rfl) ?_
        refine y_iald X hI.1 hY_bk rfl hA_bk (by omega) (by show _ < (160 : Int); omega) oQ_d48 ?_
        obtain ⟨e48, hg_e48⟩ : ∃ e48 : Int32, fb w.toInt.toNat = e48 := ⟨_, rfl⟩
        rw [hg_e48]
        refine lv_goto hx hb oQ_d49 (tgt := 79) (by decide) ?_
        have e9 : j.toInt = (fb 0).toInt := by omega
        subst hav
        exact y_ireturn B hI rfl rfl rfl List.mem_cons_self ⟨_, rfl, ⟨_, rfl, x_i32 _⟩⟩ (x_cs.mono B.2.2.2.2.2 (y_mon B hI)) (fun t' b' w' n' f' h1 h2 h3 h4 h5 => by cases h1; cases h2.symm.trans hs0; cases h3.symm.trans hn9; cases z_uniq h5 hA0 h4 hcn; exact ⟨_, rfl, fun q9 => by rw [← hg_e48, show w.toInt.toNat = 0 by omega], fun q9 => by rw [← hg_e48, show w.toInt.toNat = 1 by omega], fun q9 => absurd q9 (by omega), fun q9 => absurd q9 (by omega), fun q9 => absurd q9 (by omega), fun q9 => absurd q9 (by omega)⟩) (Nat.le_refl _) (Nat.le_refl _) oQ_d79
    · have q11_ : j.toInt < e10.toInt := Int.not_le.mp fun q => q11 (x_le32.mpr q)
      refine lv_iload_n hx hb oQ_d14 rfl (lv_at hl 1 rfl) ?_
      refine lv_aload_n hx hb oQ_d15 rfl (lv_at hl 2 rfl) ?_
      refine lv_iload_n hx hb oQ_d16 rfl (lv_at hl 0 rfl) ?_
      refine lv_iconst hx hb oQ_d17 (v := 3) (by decide) ?_
      have ec3 : (3 : Int32).toInt = 3 := by decide
      refine y_call (z := (0, 99, 3, some 17, xM145)) (av := [.ref this, .int j, .int (3 : Int32)]) (rest := [.int al]) (y_cokV (n := 2) (ci := 12) X ym_ofHill rfl rfl rfl (x_cons (x_bw67 15 rfl rfl) (x_cons (x_bw68 1 rfl rfl) (x_cons (x_at 31 (by decide +kernel) rfl) (x_cons (x_bw0 9 rfl rfl) x_nilm)))) (x_bw68 2 rfl rfl) (by decide +kernel) ⟨Nat.le_of_ble_eq_true rfl, Nat.le_of_ble_eq_true rfl⟩) hY0 hI rfl oQ_d18 hl.1 (Nat.le_of_ble_eq_true rfl) (Nat.le_of_ble_eq_true rfl) (Nat.le_of_ble_eq_true rfl) (y_cons (y_cref hY_this rfl) (y_cons ⟨_, rfl, by show (0 : Int) ≤ _; omega, by show _ ≤ (9 : Int); omega⟩ (y_cons ⟨_, rfl, by show (0 : Int) ≤ _; omega, by show _ ≤ (4 : Int); omega⟩ y_nil))) rfl (y_recv rfl hY_this) trivial (y_sub_ef rfl) fun v Yn o Hn L ho hr ha hIn hx_ hE hP => ?_
      have hPo := hP _ _ _ _ _ rfl hs_bk hA_bk
      replace hs_bk := y_Efld hE hY_this rfl (by decide) (by decide) hs_bk
      replace hsi_typed := y_Efld hE hY_this rfl (by decide) (by decide) hsi_typed
      replace hA_bk := hA_bk.kept (y_Earr hE hY_bk rfl (by decide))
      replace hY_this := y_ext hx_ hI.1 hY_this
      replace hY_bk := y_ext hx_ hI.1 hY_bk
      obtain ⟨r18, hg_r18⟩ : ∃ r18 : Int32, fb (10 + 5 * (j).toInt.toNat + ((3 : Int32)).toInt.toNat) = r18 := ⟨_, rfl⟩
      rw [hg_r18] at hPo
      obtain rfl := hPo
      clear ho hr ha hE hP hI hx_
      rename x_I _ _ _ _ _ _ _ _ _ _ => hI
      refine lv_iconst hx hb oQ_d21 (v := (-1)) (by decide) ?_
      have ecm1 : ((-1) : Int32).toInt = (-1) := by decide
      refine lv_icmp_ne hx hb oQ_d22 (tgt := 29) (by decide) (fun q22 => ?_) (fun q22 => ?_)
      · have q22_ : ¬ r18.toInt = ((-1) : Int32).toInt := fun q => q22 (Int32.toInt_inj.mp q)
        refine lv_iconst hx hb oQ_d29 (v := 1) (by decide) ?_
        have ec1 : (1 : Int32).toInt = 1 := by decide
        refine lv_iadd hx hb oQ_d30 ?_
        generalize hg_z30 : al + (1 : Int32) = z30
        have h_z30 : z30.toInt = al.toInt + 1 := by rw [← hg_z30]; have := y_add (x := al) (y := (1 : Int32)) (by rw [ec1]; omega) (by rw [ec1]; omega); rw [ec1] at this; exact this
        refine lv_istore_n hx hb oQ_d31 rfl hl (by decide) (lv' := [(2, .int z30), (3, .int j), (0, .ref this), (1, .int w)]) rfl fun ls hl => ?_
        obtain ⟨z32, hg_z32⟩ : ∃ z32 : Int32, j + Int32.ofInt 1 = z32 := ⟨_, rfl⟩
        have h_z32 : z32.toInt = j.toInt + 1 := by rw [← hg_z32]; exact y_inc (by decide) (by omega) (by omega)
        refine lv_iinc hx hb oQ_d32 hl (k := 1) rfl hg_z32 (by decide) (lv' := [(3, .int z32), (2, .int z30), (0, .ref this), (1, .int w)]) rfl fun ls hl => ?_
        refine lv_goto hx hb oQ_d35 (tgt := 4) (by decide) ?_
        have his : z32.toInt.toNat = j.toInt.toNat + 1 := by omega
        have hg9 : fb (13 + 5 * j.toInt.toNat) = r18 := by rw [← hg_r18]; congr 1; rw [show (3 : Int32).toInt.toNat = 3 by decide]; omega
        exact ih _ _ _ _ _ _ hI hY_this hY_bk hs_bk hsi_typed hA_bk (lv_sub hl [0, 1, 2, 3] rfl) (by first | assumption | omega) (by rw [his]; show _ = ((m_reps fb j.toInt.toNat + (if fb (13 + 5 * j.toInt.toNat) = -1 then 0 else 1) : Nat) : Int); first | (rw [if_pos (hg9.trans q22)]; omega) | (rw [if_neg (fun q9 => q22 (hg9.symm.trans q9))]; omega)) (by omega)
      · have q22_ : r18.toInt = ((-1) : Int32).toInt := by rw [q22]
        refine lv_iconst hx hb oQ_d25 (v := 0) (by decide) ?_
        refine lv_goto hx hb oQ_d26 (tgt := 30) (by decide) ?_
        refine lv_iadd hx hb oQ_d30 ?_
        generalize hg_z30 : al + (0 : Int32) = z30
        have h_z30 : z30.toInt = al.toInt + 0 := by rw [← hg_z30]; have := y_add (x := al) (y := (0 : Int32)) (by rw [ec0]; omega) (by rw [ec0]; omega); rw [ec0] at this; exact this
        refine lv_istore_n hx hb oQ_d31 rfl hl (by decide) (lv' := [(2, .int z30), (3, .int j), (0, .ref this), (1, .int w)]) rfl fun ls hl => ?_
        obtain ⟨z32, hg_z32⟩ : ∃ z32 : Int32, j + Int32.ofInt 1 = z32 := ⟨_, rfl⟩
        have h_z32 : z32.toInt = j.toInt + 1 := by rw [← hg_z32]; exact y_inc (by decide) (by omega) (by omega)
        refine lv_iinc hx hb oQ_d32 hl (k := 1) rfl hg_z32 (by decide) (lv' := [(3, .int z32), (2, .int z30), (0, .ref this), (1, .int w)]) rfl fun ls hl => ?_
        refine lv_goto hx hb oQ_d35 (tgt := 4) (by decide) ?_
        have his : z32.toInt.toNat = j.toInt.toNat + 1 := by omega
        have hg9 : fb (13 + 5 * j.toInt.toNat) = r18 := by rw [← hg_r18]; congr 1; rw [show (3 : Int32).toInt.toNat = 3 by decide]; omega
        exact ih _ _ _ _ _ _ hI hY_this hY_bk hs_bk hsi_typed hA_bk (lv_sub hl [0, 1, 2, 3] rfl) (by first | assumption | omega) (by rw [his]; show _ = ((m_reps fb j.toInt.toNat + (if fb (13 + 5 * j.toInt.toNat) = -1 then 0 else 1) : Nat) : Int); first | (rw [if_pos (hg9.trans q22)]; omega) | (rw [if_neg (fun q9 => q22 (hg9.symm.trans q9))]; omega)) (by omega)
theorem ym_countOfX : y_Met vwCl x_G x_Zs x_Tb x_Nb xM225 y_T z_Pco9 := by
  refine y_main (by decide +kernel) (by decide +kernel) x_Tb_good x_Nb_ok ?_
  intro p l e s m below meth c D U Y0 av ls B hI _ hl
  have X := B.1
  have hx := X.1
  have hb := X.2.1
  have hY0 := B.2.2.2.2.1
  obtain ⟨v0, v1, rfl, hv0, ⟨w, rfl, hw⟩⟩ := x_two B.2.2.2.2.2
  replace hw : (0 : Int) ≤ w.toInt ∧ w.toInt ≤ 4 := hw
  obtain ⟨this, t0, rfl, ht0, hY_this⟩ := x_ref_at hv0 rfl
  obtain rfl := List.mem_singleton.mp ht0
  replace hl : lv_has ls xM225.2.2.1 [(0, .ref this), (1, .int w)] := hl
  obtain ⟨bk, hs_bk, hY_bk⟩ := y_fldR (k := 0) hI.1 hY_this rfl rfl
  obtain ⟨fb9, hA9, hB9⟩ := y_arr hI.1 hY_bk rfl rfl
  obtain ⟨fb, hcn, hA_bk, hB_bk⟩ := z_canon (Y := Y0) (P := fun j v => x_c Y0 ([xI 0 10, xI 0 8, xI 0 8].getD j xF) (.int v)) hA9 hB9
  clear hA9 hB9 fb9
  have hs0 := hs_bk
  have hA0 := hA_bk
  have hd := z_hdr hB_bk
  have hd0 := hd.1
  have hd1 := hd.2.1
  obtain ⟨nn, hsi_typed, hnb⟩ := y_fldI (k := 10) hI.1 hY_this rfl rfl
  have hn9 := hsi_typed
  refine lv_iconst hx hb oQ_d0 (v := 0) (by decide) ?_
  have ec0 : (0 : Int32).toInt = 0 := by decide
  refine lv_istore_n hx hb oQ_d1 rfl hl (by decide) (lv' := [(2, .int (0 : Int32)), (0, .ref this), (1, .int w)]) rfl fun ls hl => ?_
  refine lv_iconst hx hb oQ_d2 (v := 0) (by decide) ?_
  refine lv_istore_n hx hb oQ_d3 rfl hl (by decide) (lv' := [(3, .int (0 : Int32)), (2, .int (0 : Int32)), (0, .ref this), (1, .int w)]) rfl fun ls hl => ?_
  exact oQ_L4 B rfl hs0 hn9 hA0 hcn hd hw 12 _ _ _ _ _ _ hI hY_this hY_bk hs_bk hsi_typed hA_bk (lv_sub hl [0, 1, 2, 3] rfl) (by first | assumption | omega) rfl (by omega)
