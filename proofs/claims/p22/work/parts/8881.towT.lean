/-! THE TOWER of the class -/
theorem z_Ln.put {D : va_G} {q : Nat} {H H' : Heap} {l : Nat → Int32} {u : Int32} (h : z_Ln D q H l) (hs : x_sl D 3 5 q H' = some (.int u)) (hk : ∀ j w, j < 8 → j ≠ 5 → x_sl D 3 j q H = w → x_sl D 3 j q H' = w) : z_Ln D q H' (y_up l 5 u) := by
  refine ⟨fun k hk9 => ?_, fun k hk9 => ?_⟩
  · by_cases e : k = 5
    · subst e; rw [y_up_at]; exact hs
    · rw [y_up_ne e]; exact hk k _ hk9 e (h.1 k hk9)
  · rw [y_up_ne (by omega)]; exact h.2 k hk9
theorem m_lft.up {l : Nat → Int32} {x y h v v0 r : Int32} (q : m_lft (y_up l 5 v) x y h v0 r) : m_lft l x y h v0 r :=
  ⟨q.1, fun u a b => ⟨(q.2.1 u a b).1, by rw [← m_hdv_up (v := v)]; exact (q.2.1 u a b).2⟩, fun a => by rw [← m_hdv_up (v := v)]; exact q.2.2 a⟩
def z_Pli9 : yP := fun D av Y H v _ H' => ∀ (this : Nat) (x9 y9 z9 w0 : Int32) (lq : Nat → Int32), av = [.ref this, .int x9, .int y9, .int z9, .int w0] → z_Ln D this H lq → ∃ r : Int32, v = some (.int r) ∧ m_lft lq x9 y9 z9 w0 r ∧ z_Ln D this H' (y_up lq 5 r)
theorem lfq_d0 : decode xM88.2.1 0 = .ok (.aload_n 0, 1) := dz_ok (by decide +kernel)
theorem lfq_d1 : decode xM88.2.1 1 = .ok (.iload 4, 2) := dz_ok (by decide +kernel)
theorem lfq_d3 : decode xM88.2.1 3 = .ok (.putfield 52, 3) := dz_ok (by decide +kernel)
theorem lfq_d6 : decode xM88.2.1 6 = .ok (.aload_n 0, 1) := dz_ok (by decide +kernel)
theorem lfq_d7 : decode xM88.2.1 7 = .ok (.iload_n 1, 1) := dz_ok (by decide +kernel)
theorem lfq_d8 : decode xM88.2.1 8 = .ok (.iload_n 2, 1) := dz_ok (by decide +kernel)
theorem lfq_d9 : decode xM88.2.1 9 = .ok (.invokevirtual 72, 3) := dz_ok (by decide +kernel)
theorem lfq_d12 : decode xM88.2.1 12 = .ok (.ifCond .eq 35, 3) := dz_ok (by decide +kernel)
theorem lfq_d15 : decode xM88.2.1 15 = .ok (.aload_n 0, 1) := dz_ok (by decide +kernel)
theorem lfq_d16 : decode xM88.2.1 16 = .ok (.getfield 52, 3) := dz_ok (by decide +kernel)
theorem lfq_d19 : decode xM88.2.1 19 = .ok (.bipush 99, 2) := dz_ok (by decide +kernel)
theorem lfq_d21 : decode xM88.2.1 21 = .ok (.if_icmp .gt 26, 3) := dz_ok (by decide +kernel)
theorem lfq_d24 : decode xM88.2.1 24 = .ok (.aload_n 0, 1) := dz_ok (by decide +kernel)
theorem lfq_d25 : decode xM88.2.1 25 = .ok (.iload_n 1, 1) := dz_ok (by decide +kernel)
theorem lfq_d26 : decode xM88.2.1 26 = .ok (.iload_n 2, 1) := dz_ok (by decide +kernel)
theorem lfq_d27 : decode xM88.2.1 27 = .ok (.iload_n 3, 1) := dz_ok (by decide +kernel)
theorem lfq_d28 : decode xM88.2.1 28 = .ok (.invokevirtual 75, 3) := dz_ok (by decide +kernel)
theorem lfq_d31 : decode xM88.2.1 31 = .ok (.ifCond .eq 16, 3) := dz_ok (by decide +kernel)
theorem lfq_d34 : decode xM88.2.1 34 = .ok (.aload_n 0, 1) := dz_ok (by decide +kernel)
theorem lfq_d35 : decode xM88.2.1 35 = .ok (.dup, 1) := dz_ok (by decide +kernel)
theorem lfq_d36 : decode xM88.2.1 36 = .ok (.getfield 52, 3) := dz_ok (by decide +kernel)
theorem lfq_d39 : decode xM88.2.1 39 = .ok (.iconst 1, 1) := dz_ok (by decide +kernel)
theorem lfq_d40 : decode xM88.2.1 40 = .ok (.iadd, 1) := dz_ok (by decide +kernel)
theorem lfq_d41 : decode xM88.2.1 41 = .ok (.putfield 52, 3) := dz_ok (by decide +kernel)
theorem lfq_d44 : decode xM88.2.1 44 = .ok (.goto (-29), 3) := dz_ok (by decide +kernel)
theorem lfq_d47 : decode xM88.2.1 47 = .ok (.aload_n 0, 1) := dz_ok (by decide +kernel)
theorem lfq_d48 : decode xM88.2.1 48 = .ok (.getfield 52, 3) := dz_ok (by decide +kernel)
theorem lfq_d51 : decode xM88.2.1 51 = .ok (.ireturn, 1) := dz_ok (by decide +kernel)
theorem lfq_L15 {p : Program} {l : Launch} {e : Env} {s : State} {m : MethodId} {below : List Frame} {meth : Method} {c : Code} {D : va_G} {U : State} {Y0 : xY} {av : List Value} (B : y_B vwCl x_Tb x_Nb xM88 p s m meth c D U Y0 av) {this : Nat} {x9 y9 z9 w0 : Int32} {lq : Nat → Int32} (hav : av = [.ref this, .int x9, .int y9, .int z9, .int w0]) (hLn0 : z_Ln D this s.heap lq) (hmt : m_mt lq x9 y9 = true)  :
    ∀ (n : Nat), ∀ (H : Heap) (Y : xY) (locs : List Loc) (ls : Array Slot) (w : Int32), x_I D x_G x_Zs U (x_efs xM88) Y0 s.heap Y H locs → Y this = some 10 → x_sl D 3 5 this H = some (.int w) → z_Ln D this H (y_up lq 5 w) → lv_has ls xM88.2.2.1 [(0, .ref this), (1, .int x9), (2, .int y9), (3, .int z9), (4, .int w0)] → (w0.toInt ≤ w.toInt) → (-2147483648 ≤ w.toInt) → (∀ u : Int32, w0.toInt ≤ u.toInt → u.toInt < w.toInt → u.toInt ≤ 99 ∧ m_hdv lq x9 y9 z9 u = true) → (200 - w.toInt).toNat < n → W p l e (x_rm xM88) s m av.toArray below meth c H locs 0 0 (y_QQ below D x_G x_Zs U xM88 z_Pli9 av Y0 s) (F0 m 15 ls []) := by
  have X := B.1
  have hx := X.1
  have hb := X.2.1
  have hY0 := B.2.2.2.2.1
  intro n
  induction n with
  | zero => intro _ _ _ _ _ _ _ _ _ _ _ _ _ h; exact absurd h (Nat.not_lt_zero _)
  | succ n ih =>
    intro H Y locs ls w  hI hY_this hsi_low hLn hl hw hwb hall hn
    refine lv_aload_n hx hb lfq_d15 rfl (lv_at hl 0 rfl) ?_
    refine y_getf X (fl77 X.2.2.2.2.1) hI.1 hY_this rfl hsi_low lfq_d16 ?_
    refine lv_bipush hx hb lfq_d19 (v := 99) (by decide) ?_
    have ec99 : (99 : Int32).toInt = 99 := by decide
    refine lv_icmp_gt hx hb lfq_d21 (tgt := 47) (by decide) (fun q21 => ?_) (fun q21 => ?_)
    · have q21_ : (99 : Int32).toInt < w.toInt := x_lt32.mp q21
      refine lv_aload_n hx hb lfq_d47 rfl (lv_at hl 0 rfl) ?_
      refine y_getf X (fl77 X.2.2.2.2.1) hI.1 hY_this rfl hsi_low lfq_d48 ?_
      subst hav
      exact y_ireturn B hI rfl rfl rfl List.mem_cons_self ⟨_, rfl, ⟨_, rfl, x_i32 _⟩⟩ (x_cs.mono B.2.2.2.2.2 (y_mon B hI)) (fun t' x' y' z' w' l' h1 h2 => by cases h1; cases h2.uniq hLn0; exact ⟨_, rfl, ⟨hw, hall, fun q9 => by first | exact absurd q9 (by omega) | (unfold m_hdv; rw [hmt, Bool.true_and]; exact m_b0 ((Eq.trans hg_r28) (by assumption)))⟩, hLn⟩) (Nat.le_refl _) (Nat.le_refl _) lfq_d51
    · have q21_ : w.toInt ≤ (99 : Int32).toInt := Int.not_lt.mp fun q => q21 (x_lt32.mpr q)
      refine lv_aload_n hx hb lfq_d24 rfl (lv_at hl 0 rfl) ?_
      refine lv_iload_n hx hb lfq_d25 rfl (lv_at hl 1 rfl) ?_
      refine lv_iload_n hx hb lfq_d26 rfl (lv_at hl 2 rfl) ?_
      refine lv_iload_n hx hb lfq_d27 rfl (lv_at hl 3 rfl) ?_
      refine y_call (z := (0, 75, 4, some 10, xM46)) (av := [.ref this, .int x9, .int y9, .int z9]) (rest := []) (y_cokV (n := 3) (ci := 3) X ym_isHidden rfl rfl rfl (x_cons (x_bw48 11 rfl rfl) (x_cons (x_bw31 15 rfl rfl) (x_cons (x_bw32 0 rfl rfl) (x_cons (x_bw0 7 rfl rfl) x_nilm)))) (x_bw32 1 rfl rfl) (by decide +kernel) ⟨Nat.le_of_ble_eq_true rfl, Nat.le_of_ble_eq_true rfl⟩) hY0 hI rfl lfq_d28 hl.1 (Nat.le_of_ble_eq_true rfl) (Nat.le_of_ble_eq_true rfl) (Nat.le_of_ble_eq_true rfl) (y_cons (y_cref hY_this rfl) (y_cons ⟨_, rfl, x_i32 _⟩ (y_cons ⟨_, rfl, x_i32 _⟩ (y_cons ⟨_, rfl, x_i32 _⟩ y_nil)))) rfl (y_recv rfl hY_this) trivial (y_sub_ef rfl) fun v Yn o Hn L ho hr ha hIn hx_ hE hP => ?_
      have hPl := hP _ _ _ _ _ rfl hLn
      obtain rfl := hPl
      replace hsi_low := y_Efld hE hY_this rfl (by decide) (by decide) hsi_low
      replace hLn := hLn.E hY_this hE (by decide)
      replace hY_this := y_ext hx_ hI.1 hY_this
      generalize hg_r28 : m_b (m_hd (y_up lq 5 w) x9 y9 z9) = r28
      clear ho hr ha hE hP hI hx_
      rename x_I _ _ _ _ _ _ _ _ _ _ => hI
      have ec0 : (0 : Int32).toInt = 0 := by decide
      refine lv_if_eq hx hb lfq_d31 (tgt := 47) (by decide) (fun q31 => ?_) (fun q31 => ?_)
      · have q31_ : r28.toInt = (0 : Int32).toInt := by rw [q31]
        refine lv_aload_n hx hb lfq_d47 rfl (lv_at hl 0 rfl) ?_
        refine y_getf X (fl77 X.2.2.2.2.1) hI.1 hY_this rfl hsi_low lfq_d48 ?_
        subst hav
        exact y_ireturn B hI rfl rfl rfl List.mem_cons_self ⟨_, rfl, ⟨_, rfl, x_i32 _⟩⟩ (x_cs.mono B.2.2.2.2.2 (y_mon B hI)) (fun t' x' y' z' w' l' h1 h2 => by cases h1; cases h2.uniq hLn0; exact ⟨_, rfl, ⟨hw, hall, fun q9 => by first | exact absurd q9 (by omega) | (unfold m_hdv; rw [hmt, Bool.true_and]; exact m_b0 ((Eq.trans hg_r28) (by assumption)))⟩, hLn⟩) (Nat.le_refl _) (Nat.le_refl _) lfq_d51
      · have q31_ : ¬ r28.toInt = (0 : Int32).toInt := fun q => q31 (Int32.toInt_inj.mp q)
        refine lv_aload_n hx hb lfq_d34 rfl (lv_at hl 0 rfl) ?_
        refine lv_dup hx hb lfq_d35 rfl ?_
        refine y_getf X (fl77 X.2.2.2.2.1) hI.1 hY_this rfl hsi_low lfq_d36 ?_
        refine lv_iconst hx hb lfq_d39 (v := 1) (by decide) ?_
        have ec1 : (1 : Int32).toInt = 1 := by decide
        refine lv_iadd hx hb lfq_d40 ?_
        generalize hg_z40 : w + (1 : Int32) = z40
        have h_z40 : z40.toInt = w.toInt + 1 := by rw [← hg_z40]; have := y_add (x := w) (y := (1 : Int32)) (by rw [ec1]; omega) (by rw [ec1]; omega); rw [ec1] at this; exact this
        refine y_putf X (fw72 X.2.2.2.2.1) hY0 hI hY_this rfl rfl ⟨_, rfl, x_i32 _⟩ (by decide +kernel) lfq_d41 fun H sl hI ho hs hk => ?_
        replace hs := hs
        replace hsi_low := hs
        replace hLn := hLn.put hsi_low (fun j w9 a9 b9 => hk j w9 a9 b9)
        rw [y_up_up] at hLn
        refine lv_goto hx hb lfq_d44 (tgt := 15) (by decide) ?_
        have hh9 : m_hdv lq x9 y9 z9 w = true := by unfold m_hdv; rw [hmt, Bool.true_and]; exact m_bn (fun q => absurd ((Eq.trans (Eq.symm hg_r28)) q) (by assumption))
        exact ih _ _ _ _ _ hI hY_this hsi_low hLn (lv_sub hl [0, 1, 2, 3, 4] rfl) (by first | assumption | omega) (by first | assumption | omega) (fun u h1 h2 => by by_cases e : u.toInt < w.toInt; (exact hall u h1 e); (rw [Int32.toInt_inj.mp (show u.toInt = w.toInt by omega)]; exact ⟨by omega, hh9⟩)) (by omega)
theorem ym_lifted : y_Met vwCl x_G x_Zs x_Tb x_Nb xM88 y_T z_Pli9 := by
  refine y_main (by decide +kernel) (by decide +kernel) x_Tb_good x_Nb_ok ?_
  intro p l e s m below meth c D U Y0 av ls B hI _ hl
  have X := B.1
  have hx := X.1
  have hb := X.2.1
  have hY0 := B.2.2.2.2.1
  obtain ⟨v0, v1, v2, v3, v4, rfl, hv0, ⟨x9, rfl, -⟩, ⟨y9, rfl, -⟩, ⟨z9, rfl, -⟩, ⟨w0, rfl, -⟩⟩ := y_five B.2.2.2.2.2
  obtain ⟨this, t0, rfl, ht0, hY_this⟩ := x_ref_at hv0 rfl
  obtain rfl := List.mem_singleton.mp ht0
  replace hl : lv_has ls xM88.2.2.1 [(0, .ref this), (1, .int x9), (2, .int y9), (3, .int z9), (4, .int w0)] := hl
  obtain ⟨lq, hLn⟩ := z_LnE hI.1 hY_this
  have hLn0 := hLn
  refine lv_aload_n hx hb lfq_d0 rfl (lv_at hl 0 rfl) ?_
  refine lv_iload hx hb lfq_d1 (lv_at hl 4 rfl) ?_
  refine y_putf X (fw72 X.2.2.2.2.1) hY0 hI hY_this rfl rfl ⟨_, rfl, x_i32 _⟩ (by decide +kernel) lfq_d3 fun H sl hI ho hs hk => ?_
  replace hs := hs
  have hs3 := hs
  replace hLn := hLn.put hs3 (fun j w9 a9 b9 => hk j w9 a9 b9)
  have hsi_low := hs3
  refine lv_aload_n hx hb lfq_d6 rfl (lv_at hl 0 rfl) ?_
  refine lv_iload_n hx hb lfq_d7 rfl (lv_at hl 1 rfl) ?_
  refine lv_iload_n hx hb lfq_d8 rfl (lv_at hl 2 rfl) ?_
  refine y_call (z := (0, 72, 3, some 10, xM44)) (av := [.ref this, .int x9, .int y9]) (rest := []) (y_cokV (n := 2) (ci := 3) X ym_meets rfl rfl rfl (x_cons (x_bw48 10 rfl rfl) (x_cons (x_bw31 3 rfl rfl) (x_cons (x_bw31 4 rfl rfl) (x_cons (x_bw0 7 rfl rfl) x_nilm)))) (x_bw31 5 rfl rfl) (by decide +kernel) ⟨Nat.le_of_ble_eq_true rfl, Nat.le_of_ble_eq_true rfl⟩) hY0 hI rfl lfq_d9 hl.1 (Nat.le_of_ble_eq_true rfl) (Nat.le_of_ble_eq_true rfl) (Nat.le_of_ble_eq_true rfl) (y_cons (y_cref hY_this rfl) (y_cons ⟨_, rfl, x_i32 _⟩ (y_cons ⟨_, rfl, x_i32 _⟩ y_nil))) rfl (y_recv rfl hY_this) trivial (y_sub_ef rfl) fun v Yn o Hn L ho hr ha hIn hx_ hE hP => ?_
  have hPl := hP _ _ _ _ rfl hLn
  rw [m_mt_up] at hPl
  obtain rfl := hPl
  replace hsi_low := y_Efld hE hY_this rfl (by decide) (by decide) hsi_low
  replace hLn := hLn.E hY_this hE (by decide)
  replace hY_this := y_ext hx_ hI.1 hY_this
  generalize hg_r9 : m_b (m_mt lq x9 y9) = r9
  clear ho hr ha hE hP hI hx_
  rename x_I _ _ _ _ _ _ _ _ _ _ => hI
  have ec0 : (0 : Int32).toInt = 0 := by decide
  refine lv_if_eq hx hb lfq_d12 (tgt := 47) (by decide) (fun q12 => ?_) (fun q12 => ?_)
  · have q12_ : r9.toInt = (0 : Int32).toInt := by rw [q12]
    refine lv_aload_n hx hb lfq_d47 rfl (lv_at hl 0 rfl) ?_
    refine y_getf X (fl77 X.2.2.2.2.1) hI.1 hY_this rfl hsi_low lfq_d48 ?_
    exact y_ireturn B hI rfl rfl rfl List.mem_cons_self ⟨_, rfl, ⟨_, rfl, x_i32 _⟩⟩ (x_cs.mono B.2.2.2.2.2 (y_mon B hI)) (fun t' x' y' z' w' l' h1 h2 => by cases h1; cases h2.uniq hLn0; exact ⟨_, rfl, ⟨Int.le_refl _, fun u h1 h2 => absurd h2 (by omega), fun _ => by unfold m_hdv; rw [m_b0 ((Eq.trans hg_r9) (by assumption)), Bool.false_and]⟩, hLn⟩) (Nat.le_refl _) (Nat.le_refl _) lfq_d51
  · have q12_ : ¬ r9.toInt = (0 : Int32).toInt := fun q => q12 (Int32.toInt_inj.mp q)
    exact lfq_L15 B rfl hLn0 (m_bn (fun q => absurd ((Eq.trans (Eq.symm hg_r9)) q) (by assumption))) 4294967296 _ _ _ _ _ hI hY_this hsi_low hLn (lv_sub hl [0, 1, 2, 3, 4] rfl) (Int.le_refl _) (x_i32 _).1 (fun u h1 h2 => absurd h2 (by omega)) (by have := x_i32 w0; omega)
def z_Ptto : yP := fun D av Y H v _ _ => ∀ (this ld : Nat) (a9 b9 w0 : Int32) (f : Nat → Int32), av = [.ref this, .ref ld, .int a9, .int b9, .int w0] → z_L D Y ld H f → ∃ r : Int32, v = some (.int r) ∧ m_tto f a9.toInt.toNat b9.toInt.toNat (f 0).toInt.toNat (f 1).toInt.toNat w0 r
theorem ttq_d0 : decode xM89.2.1 0 = .ok (.iload 4, 2) := dz_ok (by decide +kernel)
theorem ttq_d2 : decode xM89.2.1 2 = .ok (.istore 5, 2) := dz_ok (by decide +kernel)
theorem ttq_d4 : decode xM89.2.1 4 = .ok (.aload_n 0, 1) := dz_ok (by decide +kernel)
theorem ttq_d5 : decode xM89.2.1 5 = .ok (.getfield 12, 3) := dz_ok (by decide +kernel)
theorem ttq_d8 : decode xM89.2.1 8 = .ok (.aload_n 1, 1) := dz_ok (by decide +kernel)
theorem ttq_d9 : decode xM89.2.1 9 = .ok (.iload_n 2, 1) := dz_ok (by decide +kernel)
theorem ttq_d10 : decode xM89.2.1 10 = .ok (.iload_n 3, 1) := dz_ok (by decide +kernel)
theorem ttq_d11 : decode xM89.2.1 11 = .ok (.invokevirtual 34, 3) := dz_ok (by decide +kernel)
theorem ttq_d14 : decode xM89.2.1 14 = .ok (.iconst 0, 1) := dz_ok (by decide +kernel)
theorem ttq_d15 : decode xM89.2.1 15 = .ok (.istore 6, 2) := dz_ok (by decide +kernel)
theorem ttq_d17 : decode xM89.2.1 17 = .ok (.iload 6, 2) := dz_ok (by decide +kernel)
theorem ttq_d19 : decode xM89.2.1 19 = .ok (.aload_n 1, 1) := dz_ok (by decide +kernel)
theorem ttq_d20 : decode xM89.2.1 20 = .ok (.getfield 28, 3) := dz_ok (by decide +kernel)
theorem ttq_d23 : decode xM89.2.1 23 = .ok (.if_icmp .ge 53, 3) := dz_ok (by decide +kernel)
theorem ttq_d26 : decode xM89.2.1 26 = .ok (.iload 6, 2) := dz_ok (by decide +kernel)
theorem ttq_d28 : decode xM89.2.1 28 = .ok (.iload_n 2, 1) := dz_ok (by decide +kernel)
theorem ttq_d29 : decode xM89.2.1 29 = .ok (.if_icmp .eq 41, 3) := dz_ok (by decide +kernel)
theorem ttq_d32 : decode xM89.2.1 32 = .ok (.iload 6, 2) := dz_ok (by decide +kernel)
theorem ttq_d34 : decode xM89.2.1 34 = .ok (.iload_n 3, 1) := dz_ok (by decide +kernel)
theorem ttq_d35 : decode xM89.2.1 35 = .ok (.if_icmp .eq 35, 3) := dz_ok (by decide +kernel)
theorem ttq_d38 : decode xM89.2.1 38 = .ok (.aload_n 0, 1) := dz_ok (by decide +kernel)
theorem ttq_d39 : decode xM89.2.1 39 = .ok (.getfield 12, 3) := dz_ok (by decide +kernel)
theorem ttq_d42 : decode xM89.2.1 42 = .ok (.aload_n 1, 1) := dz_ok (by decide +kernel)
theorem ttq_d43 : decode xM89.2.1 43 = .ok (.getfield 45, 3) := dz_ok (by decide +kernel)
theorem ttq_d46 : decode xM89.2.1 46 = .ok (.iload 6, 2) := dz_ok (by decide +kernel)
theorem ttq_d48 : decode xM89.2.1 48 = .ok (.iaload, 1) := dz_ok (by decide +kernel)
theorem ttq_d49 : decode xM89.2.1 49 = .ok (.aload_n 1, 1) := dz_ok (by decide +kernel)
theorem ttq_d50 : decode xM89.2.1 50 = .ok (.getfield 48, 3) := dz_ok (by decide +kernel)
theorem ttq_d53 : decode xM89.2.1 53 = .ok (.iload 6, 2) := dz_ok (by decide +kernel)
theorem ttq_d55 : decode xM89.2.1 55 = .ok (.iaload, 1) := dz_ok (by decide +kernel)
theorem ttq_d56 : decode xM89.2.1 56 = .ok (.aload_n 1, 1) := dz_ok (by decide +kernel)
theorem ttq_d57 : decode xM89.2.1 57 = .ok (.getfield 55, 3) := dz_ok (by decide +kernel)
theorem ttq_d60 : decode xM89.2.1 60 = .ok (.iload 6, 2) := dz_ok (by decide +kernel)
theorem ttq_d62 : decode xM89.2.1 62 = .ok (.iaload, 1) := dz_ok (by decide +kernel)
theorem ttq_d63 : decode xM89.2.1 63 = .ok (.iload 5, 2) := dz_ok (by decide +kernel)
theorem ttq_d65 : decode xM89.2.1 65 = .ok (.invokevirtual 104, 3) := dz_ok (by decide +kernel)
theorem ttq_d68 : decode xM89.2.1 68 = .ok (.istore 5, 2) := dz_ok (by decide +kernel)
theorem ttq_d70 : decode xM89.2.1 70 = .ok (.iinc 6 1, 3) := dz_ok (by decide +kernel)
theorem ttq_d73 : decode xM89.2.1 73 = .ok (.goto (-56), 3) := dz_ok (by decide +kernel)
theorem ttq_d76 : decode xM89.2.1 76 = .ok (.iconst 0, 1) := dz_ok (by decide +kernel)
theorem ttq_d77 : decode xM89.2.1 77 = .ok (.istore 6, 2) := dz_ok (by decide +kernel)
theorem ttq_d79 : decode xM89.2.1 79 = .ok (.iload 6, 2) := dz_ok (by decide +kernel)
theorem ttq_d81 : decode xM89.2.1 81 = .ok (.aload_n 1, 1) := dz_ok (by decide +kernel)
theorem ttq_d82 : decode xM89.2.1 82 = .ok (.getfield 62, 3) := dz_ok (by decide +kernel)
theorem ttq_d85 : decode xM89.2.1 85 = .ok (.if_icmp .ge 51, 3) := dz_ok (by decide +kernel)
theorem ttq_d88 : decode xM89.2.1 88 = .ok (.aload_n 1, 1) := dz_ok (by decide +kernel)
theorem ttq_d89 : decode xM89.2.1 89 = .ok (.getfield 65, 3) := dz_ok (by decide +kernel)
theorem ttq_d92 : decode xM89.2.1 92 = .ok (.iload 6, 2) := dz_ok (by decide +kernel)
theorem ttq_d94 : decode xM89.2.1 94 = .ok (.aaload, 1) := dz_ok (by decide +kernel)
theorem ttq_d95 : decode xM89.2.1 95 = .ok (.astore 7, 2) := dz_ok (by decide +kernel)
theorem ttq_d97 : decode xM89.2.1 97 = .ok (.aload_n 0, 1) := dz_ok (by decide +kernel)
theorem ttq_d98 : decode xM89.2.1 98 = .ok (.getfield 12, 3) := dz_ok (by decide +kernel)
theorem ttq_d101 : decode xM89.2.1 101 = .ok (.aload 7, 2) := dz_ok (by decide +kernel)
theorem ttq_d103 : decode xM89.2.1 103 = .ok (.getfield 69, 3) := dz_ok (by decide +kernel)
theorem ttq_d106 : decode xM89.2.1 106 = .ok (.aload 7, 2) := dz_ok (by decide +kernel)
theorem ttq_d108 : decode xM89.2.1 108 = .ok (.getfield 73, 3) := dz_ok (by decide +kernel)
theorem ttq_d111 : decode xM89.2.1 111 = .ok (.aload_n 1, 1) := dz_ok (by decide +kernel)
theorem ttq_d112 : decode xM89.2.1 112 = .ok (.iload 6, 2) := dz_ok (by decide +kernel)
theorem ttq_d114 : decode xM89.2.1 114 = .ok (.aload_n 1, 1) := dz_ok (by decide +kernel)
theorem ttq_d115 : decode xM89.2.1 115 = .ok (.getfield 97, 3) := dz_ok (by decide +kernel)
theorem ttq_d118 : decode xM89.2.1 118 = .ok (.iconst 0, 1) := dz_ok (by decide +kernel)
theorem ttq_d119 : decode xM89.2.1 119 = .ok (.iaload, 1) := dz_ok (by decide +kernel)
theorem ttq_d120 : decode xM89.2.1 120 = .ok (.invokevirtual 108, 3) := dz_ok (by decide +kernel)
theorem ttq_d123 : decode xM89.2.1 123 = .ok (.iload 5, 2) := dz_ok (by decide +kernel)
theorem ttq_d125 : decode xM89.2.1 125 = .ok (.invokevirtual 104, 3) := dz_ok (by decide +kernel)
theorem ttq_d128 : decode xM89.2.1 128 = .ok (.istore 5, 2) := dz_ok (by decide +kernel)
theorem ttq_d130 : decode xM89.2.1 130 = .ok (.iinc 6 1, 3) := dz_ok (by decide +kernel)
theorem ttq_d133 : decode xM89.2.1 133 = .ok (.goto (-54), 3) := dz_ok (by decide +kernel)
theorem ttq_d136 : decode xM89.2.1 136 = .ok (.iload 5, 2) := dz_ok (by decide +kernel)
theorem ttq_d138 : decode xM89.2.1 138 = .ok (.ireturn, 1) := dz_ok (by decide +kernel)
theorem ttq_L79 {p : Program} {l : Launch} {e : Env} {s : State} {m : MethodId} {below : List Frame} {meth : Method} {c : Code} {D : va_G} {U : State} {Y0 : xY} {av : List Value} (B : y_B vwCl x_Tb x_Nb xM89 p s m meth c D U Y0 av) {this ld ln astones ax ay ah adial : Nat} {a9 b9 w0 : Int32} {f : Nat → Int32} (hav : av = [.ref this, .ref ld, .int a9, .int b9, .int w0]) (hL0 : z_L D Y0 ld s.heap f) (hd0 : 0 ≤ (f 0).toInt ∧ (f 0).toInt ≤ 10) (hd1 : 0 ≤ (f 1).toInt ∧ (f 1).toInt ≤ 8) (ha9 : 0 ≤ a9.toInt ∧ a9.toInt ≤ 9) (hb9 : 0 ≤ b9.toInt ∧ b9.toInt ≤ 9)  :
    ∀ (n : Nat), ∀ (H : Heap) (Y : xY) (locs : List Loc) (ls : Array Slot) (k : Int32) (w : Int32) (lo : Int32), x_I D x_G x_Zs U (x_efs xM89) Y0 s.heap Y H locs → Y this = some 6 → Y ld = some 2 → Y ln = some 10 → Y astones = some 24 → Y ax = some 19 → Y ay = some 20 → Y ah = some 21 → Y adial = some 27 → x_sl D 0 0 this H = some (.ref ln) → x_sl D 2 7 ld H = some (.ref astones) → x_sl D 2 1 ld H = some (.ref ax) → x_sl D 2 2 ld H = some (.ref ay) → x_sl D 2 3 ld H = some (.ref ah) → x_sl D 2 10 ld H = some (.ref adial) → x_sl D 2 0 ld H = some (.int (f 0)) → x_sl D 2 6 ld H = some (.int (f 1)) → y_A ax 10 H (fun j => f (10 + 5 * j)) → y_A ay 10 H (fun j => f (11 + 5 * j)) → y_A ah 10 H (fun j => f (12 + 5 * j)) → y_A adial 4 H (fun j => f (4 + 1 * j)) → z_L D Y ld H f → z_Ln D ln H (y_up (m_ln f a9.toInt.toNat b9.toInt.toNat) 5 lo) → lv_has ls xM89.2.2.1 [(6, .int k), (5, .int w), (0, .ref this), (1, .ref ld), (2, .int a9), (3, .int b9), (4, .int w0)] → (0 ≤ k.toInt ∧ k.toInt ≤ (f 1).toInt) → (m_tto f a9.toInt.toNat b9.toInt.toNat (f 0).toInt.toNat k.toInt.toNat w0 w) → (9 - k.toInt).toNat < n → W p l e (x_rm xM89) s m av.toArray below meth c H locs 0 0 (y_QQ below D x_G x_Zs U xM89 z_Ptto av Y0 s) (F0 m 79 ls []) := by
  have X := B.1
  have hx := X.1
  have hb := X.2.1
  have hY0 := B.2.2.2.2.1
  intro n
  induction n with
  | zero => intro _ _ _ _ _ _ _ _ _ _ _ _ _ _ _ _ _ _ _ _ _ _ _ _ _ _ _ _ _ _ _ _ _ h; exact absurd h (Nat.not_lt_zero _)
  | succ n ih =>
    intro H Y locs ls k w lo  hI hY_this hY_ld hY_ln hY_astones hY_ax hY_ay hY_ah hY_adial hs_ln hs_astones hs_ax hs_ay hs_ah hs_adial hsi_hills hsi_things hA_ax hA_ay hA_ah hA_adial hL hLn hl hk ht hn
    refine lv_iload hx hb ttq_d79 (lv_at hl 0 rfl) ?_
    refine lv_aload_n hx hb ttq_d81 rfl (lv_at hl 3 rfl) ?_
    refine y_getf X (fl86 X.2.2.2.2.1) hI.1 hY_ld rfl hsi_things ttq_d82 ?_
    refine lv_icmp_ge hx hb ttq_d85 (tgt := 136) (by decide) (fun q85 => ?_) (fun q85 => ?_)
    · have q85_ : (f 1).toInt ≤ k.toInt := x_le32.mp q85
      refine lv_iload hx hb ttq_d136 (lv_at hl 1 rfl) ?_
      subst hav
      exact y_ireturn B hI rfl rfl rfl List.mem_cons_self ⟨_, rfl, ⟨_, rfl, x_i32 _⟩⟩ (x_cs.mono B.2.2.2.2.2 (y_mon B hI)) (fun t' d' a' b' w' f' h1 h2 => by cases h1; cases h2.uniq hL0; exact ⟨_, rfl, (by rw [show (f 1).toInt.toNat = k.toInt.toNat by omega]; exact ht)⟩) (Nat.le_refl _) (Nat.le_refl _) ttq_d138
    · have q85_ : k.toInt < (f 1).toInt := Int.not_le.mp fun q => q85 (x_le32.mpr q)
      refine lv_aload_n hx hb ttq_d88 rfl (lv_at hl 3 rfl) ?_
      refine y_getf X (fl87 X.2.2.2.2.1) hI.1 hY_ld rfl hs_astones ttq_d89 ?_
      refine lv_iload hx hb ttq_d92 (lv_at hl 0 rfl) ?_
      obtain ⟨as9, e1, -, h3⟩ := hL.2.2.1
      cases e1.symm.trans hs_astones
      obtain ⟨sn, hat9, hst9⟩ := h3 k.toInt.toNat (by omega)
      refine y_aald X hI.1 hY_astones rfl (by omega) (by show _ < (8 : Int); omega) hat9 ttq_d94 ?_
      clear hat9 h3 e1
      refine lv_astore hx hb ttq_d95 hl (by decide) (lv' := [(7, .ref sn), (6, .int k), (5, .int w), (0, .ref this), (1, .ref ld), (2, .int a9), (3, .int b9), (4, .int w0)]) rfl fun ls hl => ?_
      refine lv_aload_n hx hb ttq_d97 rfl (lv_at hl 3 rfl) ?_
      refine y_getf X (fl79 X.2.2.2.2.1) hI.1 hY_this rfl hs_ln ttq_d98 ?_
      refine lv_aload hx hb ttq_d101 (lv_at hl 0 rfl) ?_
      refine gst_Eyes_69 X hst9 hI.1 ttq_d103 ?_
      obtain ⟨e103, hg_e103⟩ : ∃ e103 : Int32, f (60 + 7 * k.toInt.toNat + 1) = e103 := ⟨_, rfl⟩
      rw [hg_e103]
      refine lv_aload hx hb ttq_d106 (lv_at hl 0 rfl) ?_
      refine gst_Eyes_73 X hst9 hI.1 ttq_d108 ?_
      obtain ⟨e108, hg_e108⟩ : ∃ e108 : Int32, f (60 + 7 * k.toInt.toNat + 2) = e108 := ⟨_, rfl⟩
      rw [hg_e108]
      refine lv_aload_n hx hb ttq_d111 rfl (lv_at hl 4 rfl) ?_
      refine lv_iload hx hb ttq_d112 (lv_at hl 1 rfl) ?_
      refine lv_aload_n hx hb ttq_d114 rfl (lv_at hl 4 rfl) ?_
      refine y_getf X (fl138 X.2.2.2.2.1) hI.1 hY_ld rfl hs_adial ttq_d115 ?_
      refine lv_iconst hx hb ttq_d118 (v := 0) (by decide) ?_
      have ec0 : (0 : Int32).toInt = 0 := by decide
      refine y_iald X hI.1 hY_adial rfl hA_adial (by omega) (by show _ < (4 : Int); omega) ttq_d119 ?_
      obtain ⟨e119, hg_e119⟩ : ∃ e119 : Int32, f (4 + 1 * (0 : Int32).toInt.toNat) = e119 := ⟨_, rfl⟩
      rw [hg_e119]
      refine y_call (z := (0, 108, 3, some 2, xM38)) (av := [.ref ld, .int k, .int e119]) (rest := [.int e108, .int e103, .ref ln]) (y_cokV (n := 2) (ci := 2) X ym_standing rfl rfl rfl (x_cons (x_bw48 12 rfl rfl) (x_cons (x_bw26 15 rfl rfl) (x_cons (x_bw27 0 rfl rfl) (x_cons (x_bw0 2 rfl rfl) x_nilm)))) (x_bw27 1 rfl rfl) (by decide +kernel) ⟨Nat.le_of_ble_eq_true rfl, Nat.le_of_ble_eq_true rfl⟩) hY0 hI rfl ttq_d120 hl.1 (Nat.le_of_ble_eq_true rfl) (Nat.le_of_ble_eq_true rfl) (Nat.le_of_ble_eq_true rfl) (y_cons (y_cref hY_ld rfl) (y_cons ⟨_, rfl, by show (0 : Int) ≤ _; omega, by show _ ≤ (7 : Int); omega⟩ (y_cons ⟨_, rfl, x_i32 _⟩ y_nil))) rfl (y_recv rfl hY_ld) (fun t' h1 => by cases h1; exact ⟨_, hL⟩) (y_sub_ef rfl) fun v Yn o Hn L ho hr ha hIn hx_ hE hP => ?_
      have hPs := hP _ _ _ _ rfl hL
      obtain rfl := hPs
      replace hs_ln := y_Efld hE hY_this rfl (by decide) (by decide) hs_ln
      replace hs_astones := y_Efld hE hY_ld rfl (by decide) (by decide) hs_astones
      replace hs_ax := y_Efld hE hY_ld rfl (by decide) (by decide) hs_ax
      replace hs_ay := y_Efld hE hY_ld rfl (by decide) (by decide) hs_ay
      replace hs_ah := y_Efld hE hY_ld rfl (by decide) (by decide) hs_ah
      replace hs_adial := y_Efld hE hY_ld rfl (by decide) (by decide) hs_adial
      replace hsi_hills := y_Efld hE hY_ld rfl (by decide) (by decide) hsi_hills
      replace hsi_things := y_Efld hE hY_ld rfl (by decide) (by decide) hsi_things
      replace hA_ax := hA_ax.kept (y_Earr hE hY_ax rfl (by decide))
      replace hA_ay := hA_ay.kept (y_Earr hE hY_ay rfl (by decide))
      replace hA_ah := hA_ah.kept (y_Earr hE hY_ah rfl (by decide))
      replace hA_adial := hA_adial.kept (y_Earr hE hY_adial rfl (by decide))
      replace hL := hL.E hY_ld hE (fun q u h => y_ext hx_ hI.1 h) (by decide +kernel)
      replace hLn := hLn.E hY_ln hE (by decide)
      replace hst9 := hst9.E hE (fun q u h => y_ext hx_ hI.1 h) (by decide +kernel)
      replace hY_this := y_ext hx_ hI.1 hY_this
      replace hY_ld := y_ext hx_ hI.1 hY_ld
      replace hY_ln := y_ext hx_ hI.1 hY_ln
      replace hY_astones := y_ext hx_ hI.1 hY_astones
      replace hY_ax := y_ext hx_ hI.1 hY_ax
      replace hY_ay := y_ext hx_ hI.1 hY_ay
      replace hY_ah := y_ext hx_ hI.1 hY_ah
      replace hY_adial := y_ext hx_ hI.1 hY_adial
      generalize hg_r120 : m_hgh f k.toInt.toNat e119 = r120
      clear ho hr ha hE hP hI hx_
      rename x_I _ _ _ _ _ _ _ _ _ _ => hI
      refine lv_iload hx hb ttq_d123 (lv_at hl 2 rfl) ?_
      refine y_call (z := (0, 104, 5, some 10, xM88)) (av := [.ref ln, .int e103, .int e108, .int r120, .int w]) (rest := []) (y_cokV (n := 4) (ci := 3) X ym_lifted rfl rfl rfl (x_cons (x_bw48 6 rfl rfl) (x_cons (x_bw48 7 rfl rfl) (x_cons (x_bw48 8 rfl rfl) (x_cons (x_bw0 7 rfl rfl) x_nilm)))) (x_bw48 9 rfl rfl) (by decide +kernel) ⟨Nat.le_of_ble_eq_true rfl, Nat.le_of_ble_eq_true rfl⟩) hY0 hI rfl ttq_d125 hl.1 (Nat.le_of_ble_eq_true rfl) (Nat.le_of_ble_eq_true rfl) (Nat.le_of_ble_eq_true rfl) (y_cons (y_cref hY_ln rfl) (y_cons ⟨_, rfl, x_i32 _⟩ (y_cons ⟨_, rfl, x_i32 _⟩ (y_cons ⟨_, rfl, x_i32 _⟩ (y_cons ⟨_, rfl, x_i32 _⟩ y_nil))))) rfl (y_recv rfl hY_ln) trivial (y_sub_ef rfl) fun v Yn o Hn L ho hr ha hIn hx_ hE hP => ?_
      obtain ⟨r125, rfl, hlf, hLn⟩ := hP _ _ _ _ _ _ rfl hLn
      replace hlf := hlf.up
      rw [y_up_up] at hLn
      replace hs_ln := y_Efld hE hY_this rfl (by decide) (by decide) hs_ln
      replace hs_astones := y_Efld hE hY_ld rfl (by decide) (by decide) hs_astones
      replace hs_ax := y_Efld hE hY_ld rfl (by decide) (by decide) hs_ax
      replace hs_ay := y_Efld hE hY_ld rfl (by decide) (by decide) hs_ay
      replace hs_ah := y_Efld hE hY_ld rfl (by decide) (by decide) hs_ah
      replace hs_adial := y_Efld hE hY_ld rfl (by decide) (by decide) hs_adial
      replace hsi_hills := y_Efld hE hY_ld rfl (by decide) (by decide) hsi_hills
      replace hsi_things := y_Efld hE hY_ld rfl (by decide) (by decide) hsi_things
      replace hA_ax := hA_ax.kept (y_Earr hE hY_ax rfl (by decide))
      replace hA_ay := hA_ay.kept (y_Earr hE hY_ay rfl (by decide))
      replace hA_ah := hA_ah.kept (y_Earr hE hY_ah rfl (by decide))
      replace hA_adial := hA_adial.kept (y_Earr hE hY_adial rfl (by decide))
      replace hL := hL.E hY_ld hE (fun q u h => y_ext hx_ hI.1 h) (by decide +kernel)
      replace hst9 := hst9.E hE (fun q u h => y_ext hx_ hI.1 h) (by decide +kernel)
      replace hY_this := y_ext hx_ hI.1 hY_this
      replace hY_ld := y_ext hx_ hI.1 hY_ld
      replace hY_ln := y_ext hx_ hI.1 hY_ln
      replace hY_astones := y_ext hx_ hI.1 hY_astones
      replace hY_ax := y_ext hx_ hI.1 hY_ax
      replace hY_ay := y_ext hx_ hI.1 hY_ay
      replace hY_ah := y_ext hx_ hI.1 hY_ah
      replace hY_adial := y_ext hx_ hI.1 hY_adial
      clear ho hr ha hE hP hI hx_
      rename x_I _ _ _ _ _ _ _ _ _ _ => hI
      refine lv_istore hx hb ttq_d128 hl (by decide) (lv' := [(5, .int r125), (7, .ref sn), (6, .int k), (0, .ref this), (1, .ref ld), (2, .int a9), (3, .int b9), (4, .int w0)]) rfl fun ls hl => ?_
      obtain ⟨z130, hg_z130⟩ : ∃ z130 : Int32, k + Int32.ofInt 1 = z130 := ⟨_, rfl⟩
      have h_z130 : z130.toInt = k.toInt + 1 := by rw [← hg_z130]; exact y_inc (by decide) (by omega) (by omega)
      refine lv_iinc hx hb ttq_d130 hl (k := 2) rfl hg_z130 (by decide) (lv' := [(6, .int z130), (5, .int r125), (7, .ref sn), (0, .ref this), (1, .ref ld), (2, .int a9), (3, .int b9), (4, .int w0)]) rfl fun ls hl => ?_
      refine lv_goto hx hb ttq_d133 (tgt := 79) (by decide) ?_
      have his : z130.toInt.toNat = k.toInt.toNat + 1 := by omega
      subst hg_r120
      subst hg_e119
      subst hg_e103
      subst hg_e108
      rw [show 60 + 7 * k.toInt.toNat + 1 = 61 + 7 * k.toInt.toNat by omega, show 60 + 7 * k.toInt.toNat + 2 = 62 + 7 * k.toInt.toNat by omega, show 4 + 1 * (0 : Int32).toInt.toNat = 4 by decide] at hlf
      exact ih _ _ _ _ _ _ _ hI hY_this hY_ld hY_ln hY_astones hY_ax hY_ay hY_ah hY_adial hs_ln hs_astones hs_ax hs_ay hs_ah hs_adial hsi_hills hsi_things hA_ax hA_ay hA_ah hA_adial hL hLn (lv_sub hl [0, 1, 3, 4, 5, 6, 7] rfl) (by first | assumption | omega) (by rw [his]; exact ht.thing hlf) (by omega)
theorem ttq_L17 {p : Program} {l : Launch} {e : Env} {s : State} {m : MethodId} {below : List Frame} {meth : Method} {c : Code} {D : va_G} {U : State} {Y0 : xY} {av : List Value} (B : y_B vwCl x_Tb x_Nb xM89 p s m meth c D U Y0 av) {this ld ln astones ax ay ah adial : Nat} {a9 b9 w0 : Int32} {f : Nat → Int32} (hav : av = [.ref this, .ref ld, .int a9, .int b9, .int w0]) (hL0 : z_L D Y0 ld s.heap f) (hd0 : 0 ≤ (f 0).toInt ∧ (f 0).toInt ≤ 10) (hd1 : 0 ≤ (f 1).toInt ∧ (f 1).toInt ≤ 8) (ha9 : 0 ≤ a9.toInt ∧ a9.toInt ≤ 9) (hb9 : 0 ≤ b9.toInt ∧ b9.toInt ≤ 9)  :
    ∀ (n : Nat), ∀ (H : Heap) (Y : xY) (locs : List Loc) (ls : Array Slot) (j : Int32) (w : Int32) (lo : Int32), x_I D x_G x_Zs U (x_efs xM89) Y0 s.heap Y H locs → Y this = some 6 → Y ld = some 2 → Y ln = some 10 → Y astones = some 24 → Y ax = some 19 → Y ay = some 20 → Y ah = some 21 → Y adial = some 27 → x_sl D 0 0 this H = some (.ref ln) → x_sl D 2 7 ld H = some (.ref astones) → x_sl D 2 1 ld H = some (.ref ax) → x_sl D 2 2 ld H = some (.ref ay) → x_sl D 2 3 ld H = some (.ref ah) → x_sl D 2 10 ld H = some (.ref adial) → x_sl D 2 0 ld H = some (.int (f 0)) → x_sl D 2 6 ld H = some (.int (f 1)) → y_A ax 10 H (fun j => f (10 + 5 * j)) → y_A ay 10 H (fun j => f (11 + 5 * j)) → y_A ah 10 H (fun j => f (12 + 5 * j)) → y_A adial 4 H (fun j => f (4 + 1 * j)) → z_L D Y ld H f → z_Ln D ln H (y_up (m_ln f a9.toInt.toNat b9.toInt.toNat) 5 lo) → lv_has ls xM89.2.2.1 [(6, .int j), (5, .int w), (0, .ref this), (1, .ref ld), (2, .int a9), (3, .int b9), (4, .int w0)] → (0 ≤ j.toInt ∧ j.toInt ≤ (f 0).toInt) → (m_tto f a9.toInt.toNat b9.toInt.toNat j.toInt.toNat 0 w0 w) → (11 - j.toInt).toNat < n → W p l e (x_rm xM89) s m av.toArray below meth c H locs 0 0 (y_QQ below D x_G x_Zs U xM89 z_Ptto av Y0 s) (F0 m 17 ls []) := by
  have X := B.1
  have hx := X.1
  have hb := X.2.1
  have hY0 := B.2.2.2.2.1
  intro n
  induction n with
  | zero => intro _ _ _ _ _ _ _ _ _ _ _ _ _ _ _ _ _ _ _ _ _ _ _ _ _ _ _ _ _ _ _ _ _ h; exact absurd h (Nat.not_lt_zero _)
  | succ n ih =>
    intro H Y locs ls j w lo  hI hY_this hY_ld hY_ln hY_astones hY_ax hY_ay hY_ah hY_adial hs_ln hs_astones hs_ax hs_ay hs_ah hs_adial hsi_hills hsi_things hA_ax hA_ay hA_ah hA_adial hL hLn hl hj ht hn
    refine lv_iload hx hb ttq_d17 (lv_at hl 0 rfl) ?_
    refine lv_aload_n hx hb ttq_d19 rfl (lv_at hl 3 rfl) ?_
    refine y_getf X (fl80 X.2.2.2.2.1) hI.1 hY_ld rfl hsi_hills ttq_d20 ?_
    refine lv_icmp_ge hx hb ttq_d23 (tgt := 76) (by decide) (fun q23 => ?_) (fun q23 => ?_)
    · have q23_ : (f 0).toInt ≤ j.toInt := x_le32.mp q23
      refine lv_iconst hx hb ttq_d76 (v := 0) (by decide) ?_
      have ec0 : (0 : Int32).toInt = 0 := by decide
      refine lv_istore hx hb ttq_d77 hl (by decide) (lv' := [(6, .int (0 : Int32)), (5, .int w), (0, .ref this), (1, .ref ld), (2, .int a9), (3, .int b9), (4, .int w0)]) rfl fun ls hl => ?_
      exact ttq_L79 B hav hL0 hd0 hd1 ha9 hb9 10 _ _ _ _ _ _ _ hI hY_this hY_ld hY_ln hY_astones hY_ax hY_ay hY_ah hY_adial hs_ln hs_astones hs_ax hs_ay hs_ah hs_adial hsi_hills hsi_things hA_ax hA_ay hA_ah hA_adial hL hLn (lv_sub hl [0, 1, 2, 3, 4, 5, 6] rfl) (by first | assumption | omega) (by rw [z_i0, show (f 0).toInt.toNat = j.toInt.toNat by omega]; exact ht) (by omega)
    · have q23_ : j.toInt < (f 0).toInt := Int.not_le.mp fun q => q23 (x_le32.mpr q)
      refine lv_iload hx hb ttq_d26 (lv_at hl 0 rfl) ?_
      refine lv_iload_n hx hb ttq_d28 rfl (lv_at hl 4 rfl) ?_
      refine lv_icmp_eq hx hb ttq_d29 (tgt := 70) (by decide) (fun q29 => ?_) (fun q29 => ?_)
      · have q29_ : j.toInt = a9.toInt := by rw [q29]
        obtain ⟨z70, hg_z70⟩ : ∃ z70 : Int32, j + Int32.ofInt 1 = z70 := ⟨_, rfl⟩
        have h_z70 : z70.toInt = j.toInt + 1 := by rw [← hg_z70]; exact y_inc (by decide) (by omega) (by omega)
        refine lv_iinc hx hb ttq_d70 hl (k := 0) rfl hg_z70 (by decide) (lv' := [(6, .int z70), (5, .int w), (0, .ref this), (1, .ref ld), (2, .int a9), (3, .int b9), (4, .int w0)]) rfl fun ls hl => ?_
        refine lv_goto hx hb ttq_d73 (tgt := 17) (by decide) ?_
        have his : z70.toInt.toNat = j.toInt.toNat + 1 := by omega
        exact ih _ _ _ _ _ _ _ hI hY_this hY_ld hY_ln hY_astones hY_ax hY_ay hY_ah hY_adial hs_ln hs_astones hs_ax hs_ay hs_ah hs_adial hsi_hills hsi_things hA_ax hA_ay hA_ah hA_adial hL hLn (lv_sub hl [0, 1, 2, 3, 4, 5, 6] rfl) (by first | assumption | omega) (by rw [his]; exact ht.skip (by omega)) (by omega)
      · have q29_ : ¬ j.toInt = a9.toInt := fun q => q29 (Int32.toInt_inj.mp q)
        refine lv_iload hx hb ttq_d32 (lv_at hl 0 rfl) ?_
        refine lv_iload_n hx hb ttq_d34 rfl (lv_at hl 5 rfl) ?_
        refine lv_icmp_eq hx hb ttq_d35 (tgt := 70) (by decide) (fun q35 => ?_) (fun q35 => ?_)
        · have q35_ : j.toInt = b9.toInt := by rw [q35]
          obtain ⟨z70, hg_z70⟩ : ∃ z70 : Int32, j + Int32.ofInt 1 = z70 := ⟨_, rfl⟩
          have h_z70 : z70.toInt = j.toInt + 1 := by rw [← hg_z70]; exact y_inc (by decide) (by omega) (by omega)
          refine lv_iinc hx hb ttq_d70 hl (k := 0) rfl hg_z70 (by decide) (lv' := [(6, .int z70), (5, .int w), (0, .ref this), (1, .ref ld), (2, .int a9), (3, .int b9), (4, .int w0)]) rfl fun ls hl => ?_
          refine lv_goto hx hb ttq_d73 (tgt := 17) (by decide) ?_
          have his : z70.toInt.toNat = j.toInt.toNat + 1 := by omega
          exact ih _ _ _ _ _ _ _ hI hY_this hY_ld hY_ln hY_astones hY_ax hY_ay hY_ah hY_adial hs_ln hs_astones hs_ax hs_ay hs_ah hs_adial hsi_hills hsi_things hA_ax hA_ay hA_ah hA_adial hL hLn (lv_sub hl [0, 1, 2, 3, 4, 5, 6] rfl) (by first | assumption | omega) (by rw [his]; exact ht.skip (by omega)) (by omega)
        · have q35_ : ¬ j.toInt = b9.toInt := fun q => q35 (Int32.toInt_inj.mp q)
          refine lv_aload_n hx hb ttq_d38 rfl (lv_at hl 2 rfl) ?_
          refine y_getf X (fl79 X.2.2.2.2.1) hI.1 hY_this rfl hs_ln ttq_d39 ?_
          refine lv_aload_n hx hb ttq_d42 rfl (lv_at hl 3 rfl) ?_
          refine y_getf X (fl81 X.2.2.2.2.1) hI.1 hY_ld rfl hs_ax ttq_d43 ?_
          refine lv_iload hx hb ttq_d46 (lv_at hl 0 rfl) ?_
          refine y_iald X hI.1 hY_ax rfl hA_ax (by omega) (by show _ < (10 : Int); omega) ttq_d48 ?_
          obtain ⟨e48, hg_e48⟩ : ∃ e48 : Int32, f (10 + 5 * j.toInt.toNat) = e48 := ⟨_, rfl⟩
          rw [hg_e48]
          refine lv_aload_n hx hb ttq_d49 rfl (lv_at hl 3 rfl) ?_
          refine y_getf X (fl82 X.2.2.2.2.1) hI.1 hY_ld rfl hs_ay ttq_d50 ?_
          refine lv_iload hx hb ttq_d53 (lv_at hl 0 rfl) ?_
          refine y_iald X hI.1 hY_ay rfl hA_ay (by omega) (by show _ < (10 : Int); omega) ttq_d55 ?_
          obtain ⟨e55, hg_e55⟩ : ∃ e55 : Int32, f (11 + 5 * j.toInt.toNat) = e55 := ⟨_, rfl⟩
          rw [hg_e55]
          refine lv_aload_n hx hb ttq_d56 rfl (lv_at hl 3 rfl) ?_
          refine y_getf X (fl83 X.2.2.2.2.1) hI.1 hY_ld rfl hs_ah ttq_d57 ?_
          refine lv_iload hx hb ttq_d60 (lv_at hl 0 rfl) ?_
          refine y_iald X hI.1 hY_ah rfl hA_ah (by omega) (by show _ < (10 : Int); omega) ttq_d62 ?_
          obtain ⟨e62, hg_e62⟩ : ∃ e62 : Int32, f (12 + 5 * j.toInt.toNat) = e62 := ⟨_, rfl⟩
          rw [hg_e62]
          refine lv_iload hx hb ttq_d63 (lv_at hl 1 rfl) ?_
          refine y_call (z := (0, 104, 5, some 10, xM88)) (av := [.ref ln, .int e48, .int e55, .int e62, .int w]) (rest := []) (y_cokV (n := 4) (ci := 3) X ym_lifted rfl rfl rfl (x_cons (x_bw48 6 rfl rfl) (x_cons (x_bw48 7 rfl rfl) (x_cons (x_bw48 8 rfl rfl) (x_cons (x_bw0 7 rfl rfl) x_nilm)))) (x_bw48 9 rfl rfl) (by decide +kernel) ⟨Nat.le_of_ble_eq_true rfl, Nat.le_of_ble_eq_true rfl⟩) hY0 hI rfl ttq_d65 hl.1 (Nat.le_of_ble_eq_true rfl) (Nat.le_of_ble_eq_true rfl) (Nat.le_of_ble_eq_true rfl) (y_cons (y_cref hY_ln rfl) (y_cons ⟨_, rfl, x_i32 _⟩ (y_cons ⟨_, rfl, x_i32 _⟩ (y_cons ⟨_, rfl, x_i32 _⟩ (y_cons ⟨_, rfl, x_i32 _⟩ y_nil))))) rfl (y_recv rfl hY_ln) trivial (y_sub_ef rfl) fun v Yn o Hn L ho hr ha hIn hx_ hE hP => ?_
          obtain ⟨r65, rfl, hlf, hLn⟩ := hP _ _ _ _ _ _ rfl hLn
          replace hlf := hlf.up
          rw [y_up_up] at hLn
          replace hs_ln := y_Efld hE hY_this rfl (by decide) (by decide) hs_ln
          replace hs_astones := y_Efld hE hY_ld rfl (by decide) (by decide) hs_astones
          replace hs_ax := y_Efld hE hY_ld rfl (by decide) (by decide) hs_ax
          replace hs_ay := y_Efld hE hY_ld rfl (by decide) (by decide) hs_ay
          replace hs_ah := y_Efld hE hY_ld rfl (by decide) (by decide) hs_ah
          replace hs_adial := y_Efld hE hY_ld rfl (by decide) (by decide) hs_adial
          replace hsi_hills := y_Efld hE hY_ld rfl (by decide) (by decide) hsi_hills
          replace hsi_things := y_Efld hE hY_ld rfl (by decide) (by decide) hsi_things
          replace hA_ax := hA_ax.kept (y_Earr hE hY_ax rfl (by decide))
          replace hA_ay := hA_ay.kept (y_Earr hE hY_ay rfl (by decide))
          replace hA_ah := hA_ah.kept (y_Earr hE hY_ah rfl (by decide))
          replace hA_adial := hA_adial.kept (y_Earr hE hY_adial rfl (by decide))
          replace hL := hL.E hY_ld hE (fun q u h => y_ext hx_ hI.1 h) (by decide +kernel)
          replace hY_this := y_ext hx_ hI.1 hY_this
          replace hY_ld := y_ext hx_ hI.1 hY_ld
          replace hY_ln := y_ext hx_ hI.1 hY_ln
          replace hY_astones := y_ext hx_ hI.1 hY_astones
          replace hY_ax := y_ext hx_ hI.1 hY_ax
          replace hY_ay := y_ext hx_ hI.1 hY_ay
          replace hY_ah := y_ext hx_ hI.1 hY_ah
          replace hY_adial := y_ext hx_ hI.1 hY_adial
          clear ho hr ha hE hP hI hx_
          rename x_I _ _ _ _ _ _ _ _ _ _ => hI
          refine lv_istore hx hb ttq_d68 hl (by decide) (lv' := [(5, .int r65), (6, .int j), (0, .ref this), (1, .ref ld), (2, .int a9), (3, .int b9), (4, .int w0)]) rfl fun ls hl => ?_
          obtain ⟨z70, hg_z70⟩ : ∃ z70 : Int32, j + Int32.ofInt 1 = z70 := ⟨_, rfl⟩
          have h_z70 : z70.toInt = j.toInt + 1 := by rw [← hg_z70]; exact y_inc (by decide) (by omega) (by omega)
          refine lv_iinc hx hb ttq_d70 hl (k := 1) rfl hg_z70 (by decide) (lv' := [(6, .int z70), (5, .int r65), (0, .ref this), (1, .ref ld), (2, .int a9), (3, .int b9), (4, .int w0)]) rfl fun ls hl => ?_
          refine lv_goto hx hb ttq_d73 (tgt := 17) (by decide) ?_
          have his : z70.toInt.toNat = j.toInt.toNat + 1 := by omega
          subst hg_e48
          subst hg_e55
          subst hg_e62
          exact ih _ _ _ _ _ _ _ hI hY_this hY_ld hY_ln hY_astones hY_ax hY_ay hY_ah hY_adial hs_ln hs_astones hs_ax hs_ay hs_ah hs_adial hsi_hills hsi_things hA_ax hA_ay hA_ah hA_adial hL hLn (lv_sub hl [0, 1, 2, 3, 4, 5, 6] rfl) (by first | assumption | omega) (by rw [his]; exact ht.hill (by omega) (by omega) hlf) (by omega)
theorem ym_towerTo : y_Met vwCl x_G x_Zs x_Tb x_Nb xM89 z_ALn z_Ptto := by
  refine y_main (by decide +kernel) (by decide +kernel) x_Tb_good x_Nb_ok ?_
  intro p l e s m below meth c D U Y0 av ls B hI hpre hl
  have X := B.1
  have hx := X.1
  have hb := X.2.1
  have hY0 := B.2.2.2.2.1
  obtain ⟨v0, v1, v2, v3, v4, rfl, hv0, hv1, ⟨a9, rfl, ha9⟩, ⟨b9, rfl, hb9⟩, ⟨w0, rfl, -⟩⟩ := y_five B.2.2.2.2.2
  replace ha9 : (0 : Int) ≤ a9.toInt ∧ a9.toInt ≤ 9 := ha9
  replace hb9 : (0 : Int) ≤ b9.toInt ∧ b9.toInt ≤ 9 := hb9
  obtain ⟨this, t0, rfl, ht0, hY_this⟩ := x_ref_at hv0 rfl
  obtain rfl := List.mem_singleton.mp ht0
  obtain ⟨ld, t1, rfl, ht1, hY_ld⟩ := x_ref_at hv1 rfl
  obtain rfl := List.mem_singleton.mp ht1
  replace hl : lv_has ls xM89.2.2.1 [(0, .ref this), (1, .ref ld), (2, .int a9), (3, .int b9), (4, .int w0)] := hl
  obtain ⟨f, hL⟩ := hpre _ rfl
  have hL0 := hL
  have hsi_hills := hL.1.1
  have hsi_things := hL.1.2.1
  have hd0 : 0 ≤ (f 0).toInt ∧ (f 0).toInt ≤ 10 := by
    obtain ⟨x9, e9, b9⟩ := y_fldI (k := 0) hI.1 hY_ld rfl rfl
    rw [hsi_hills] at e9
    cases e9
    exact b9
  have hd1 : 0 ≤ (f 1).toInt ∧ (f 1).toInt ≤ 8 := by
    obtain ⟨x9, e9, b9⟩ := y_fldI (k := 6) hI.1 hY_ld rfl rfl
    rw [hsi_things] at e9
    cases e9
    exact b9
  obtain ⟨ln, hs_ln, hY_ln⟩ := y_fldR (k := 0) hI.1 hY_this rfl rfl
  obtain ⟨astones, hs_astones, hY_astones, -⟩ := hL.2.2.1
  obtain ⟨ax, hs_ax, hY_ax, hA_ax⟩ := hL.2.1 (1, 19, 10, 10, 5) (by decide)
  replace hA_ax : y_A ax 10 s.heap (fun j => f (10 + 5 * j)) := hA_ax
  obtain ⟨ay, hs_ay, hY_ay, hA_ay⟩ := hL.2.1 (2, 20, 10, 11, 5) (by decide)
  replace hA_ay : y_A ay 10 s.heap (fun j => f (11 + 5 * j)) := hA_ay
  obtain ⟨ah, hs_ah, hY_ah, hA_ah⟩ := hL.2.1 (3, 21, 10, 12, 5) (by decide)
  replace hA_ah : y_A ah 10 s.heap (fun j => f (12 + 5 * j)) := hA_ah
  obtain ⟨adial, hs_adial, hY_adial, hA_adial⟩ := hL.2.1 (10, 27, 4, 4, 1) (by decide)
  replace hA_adial : y_A adial 4 s.heap (fun j => f (4 + 1 * j)) := hA_adial
  refine lv_iload hx hb ttq_d0 (lv_at hl 4 rfl) ?_
  refine lv_istore hx hb ttq_d2 hl (by decide) (lv' := [(5, .int w0), (0, .ref this), (1, .ref ld), (2, .int a9), (3, .int b9), (4, .int w0)]) rfl fun ls hl => ?_
  refine lv_aload_n hx hb ttq_d4 rfl (lv_at hl 1 rfl) ?_
  refine y_getf X (fl79 X.2.2.2.2.1) hI.1 hY_this rfl hs_ln ttq_d5 ?_
  refine lv_aload_n hx hb ttq_d8 rfl (lv_at hl 2 rfl) ?_
  refine lv_iload_n hx hb ttq_d9 rfl (lv_at hl 3 rfl) ?_
  refine lv_iload_n hx hb ttq_d10 rfl (lv_at hl 4 rfl) ?_
  refine y_call (z := (0, 34, 4, some 10, xM41)) (av := [.ref ln, .ref ld, .int a9, .int b9]) (rest := []) (y_cokV (n := 3) (ci := 3) X ym_draw rfl rfl rfl (x_cons (x_bw30 4 rfl rfl) (x_cons (x_bw30 5 rfl rfl) (x_cons (x_bw30 6 rfl rfl) (x_cons (x_bw0 7 rfl rfl) x_nilm)))) (x_bw30 7 rfl rfl) (by decide +kernel) ⟨Nat.le_of_ble_eq_true rfl, Nat.le_of_ble_eq_true rfl⟩) hY0 hI rfl ttq_d11 hl.1 (Nat.le_of_ble_eq_true rfl) (Nat.le_of_ble_eq_true rfl) (Nat.le_of_ble_eq_true rfl) (y_cons (y_cref hY_ln rfl) (y_cons (y_cref hY_ld rfl) (y_cons ⟨_, rfl, by show (0 : Int) ≤ _; omega, by show _ ≤ (9 : Int); omega⟩ (y_cons ⟨_, rfl, by show (0 : Int) ≤ _; omega, by show _ ≤ (9 : Int); omega⟩ y_nil)))) rfl (y_recv rfl hY_ln) (fun t' h1 => by cases h1; exact ⟨_, hL⟩) (y_sub_ef rfl) fun v Yn o Hn L ho hr ha hIn hx_ hE hP => ?_
  have hLn := hP _ _ _ _ _ rfl hL
  replace hs_ln := y_Efld hE hY_this rfl (by decide) (by decide) hs_ln
  replace hs_astones := y_Efld hE hY_ld rfl (by decide) (by decide) hs_astones
  replace hs_ax := y_Efld hE hY_ld rfl (by decide) (by decide) hs_ax
  replace hs_ay := y_Efld hE hY_ld rfl (by decide) (by decide) hs_ay
  replace hs_ah := y_Efld hE hY_ld rfl (by decide) (by decide) hs_ah
  replace hs_adial := y_Efld hE hY_ld rfl (by decide) (by decide) hs_adial
  replace hsi_hills := y_Efld hE hY_ld rfl (by decide) (by decide) hsi_hills
  replace hsi_things := y_Efld hE hY_ld rfl (by decide) (by decide) hsi_things
  replace hA_ax := hA_ax.kept (y_Earr hE hY_ax rfl (by decide))
  replace hA_ay := hA_ay.kept (y_Earr hE hY_ay rfl (by decide))
  replace hA_ah := hA_ah.kept (y_Earr hE hY_ah rfl (by decide))
  replace hA_adial := hA_adial.kept (y_Earr hE hY_adial rfl (by decide))
  replace hL := hL.E hY_ld hE (fun q u h => y_ext hx_ hI.1 h) (by decide +kernel)
  replace hY_this := y_ext hx_ hI.1 hY_this
  replace hY_ld := y_ext hx_ hI.1 hY_ld
  replace hY_ln := y_ext hx_ hI.1 hY_ln
  replace hY_astones := y_ext hx_ hI.1 hY_astones
  replace hY_ax := y_ext hx_ hI.1 hY_ax
  replace hY_ay := y_ext hx_ hI.1 hY_ay
  replace hY_ah := y_ext hx_ hI.1 hY_ah
  replace hY_adial := y_ext hx_ hI.1 hY_adial
  obtain rfl := y_ansV rfl ho hr
  clear ho hr ha hE hP hI hx_
  rename x_I _ _ _ _ _ _ _ _ _ _ => hI
  rw [← y_up_self (f := m_ln f a9.toInt.toNat b9.toInt.toNat) (p := 5)] at hLn
  refine lv_iconst hx hb ttq_d14 (v := 0) (by decide) ?_
  have ec0 : (0 : Int32).toInt = 0 := by decide
  refine lv_istore hx hb ttq_d15 hl (by decide) (lv' := [(6, .int (0 : Int32)), (5, .int w0), (0, .ref this), (1, .ref ld), (2, .int a9), (3, .int b9), (4, .int w0)]) rfl fun ls hl => ?_
  exact ttq_L17 B rfl hL0 hd0 hd1 ha9 hb9 12 _ _ _ _ _ _ _ hI hY_this hY_ld hY_ln hY_astones hY_ax hY_ay hY_ah hY_adial hs_ln hs_astones hs_ax hs_ay hs_ah hs_adial hsi_hills hsi_things hA_ax hA_ay hA_ah hA_adial hL hLn (lv_sub hl [0, 1, 2, 3, 4, 5, 6] rfl) (by first | assumption | omega) (by rw [z_i0]; exact m_tto.zero) (by omega)
def z_Plt : yP := fun D av Y H v _ _ => ∀ (this ld : Nat) (a9 : Int32) (f : Nat → Int32), av = [.ref this, .ref ld, .int a9] → z_L D Y ld H f → ∃ r : Int32, v = some (.int r) ∧ m_lt f a9.toInt.toNat r
theorem ltq_d0 : decode xM90.2.1 0 = .ok (.aload_n 1, 1) := dz_ok (by decide +kernel)
theorem ltq_d1 : decode xM90.2.1 1 = .ok (.getfield 97, 3) := dz_ok (by decide +kernel)
theorem ltq_d4 : decode xM90.2.1 4 = .ok (.iconst 1, 1) := dz_ok (by decide +kernel)
theorem ltq_d5 : decode xM90.2.1 5 = .ok (.iaload, 1) := dz_ok (by decide +kernel)
theorem ltq_d6 : decode xM90.2.1 6 = .ok (.istore_n 3, 1) := dz_ok (by decide +kernel)
theorem ltq_d7 : decode xM90.2.1 7 = .ok (.aload_n 1, 1) := dz_ok (by decide +kernel)
theorem ltq_d8 : decode xM90.2.1 8 = .ok (.getfield 28, 3) := dz_ok (by decide +kernel)
theorem ltq_d11 : decode xM90.2.1 11 = .ok (.iconst 1, 1) := dz_ok (by decide +kernel)
theorem ltq_d12 : decode xM90.2.1 12 = .ok (.if_icmp .le 7, 3) := dz_ok (by decide +kernel)
theorem ltq_d15 : decode xM90.2.1 15 = .ok (.iload_n 3, 1) := dz_ok (by decide +kernel)
theorem ltq_d16 : decode xM90.2.1 16 = .ok (.goto 4, 3) := dz_ok (by decide +kernel)
theorem ltq_d19 : decode xM90.2.1 19 = .ok (.iconst 0, 1) := dz_ok (by decide +kernel)
theorem ltq_d20 : decode xM90.2.1 20 = .ok (.istore 4, 2) := dz_ok (by decide +kernel)
theorem ltq_d22 : decode xM90.2.1 22 = .ok (.iconst 0, 1) := dz_ok (by decide +kernel)
theorem ltq_d23 : decode xM90.2.1 23 = .ok (.istore 5, 2) := dz_ok (by decide +kernel)
theorem ltq_d25 : decode xM90.2.1 25 = .ok (.iload 5, 2) := dz_ok (by decide +kernel)
theorem ltq_d27 : decode xM90.2.1 27 = .ok (.aload_n 1, 1) := dz_ok (by decide +kernel)
theorem ltq_d28 : decode xM90.2.1 28 = .ok (.getfield 28, 3) := dz_ok (by decide +kernel)
theorem ltq_d31 : decode xM90.2.1 31 = .ok (.if_icmp .ge 43, 3) := dz_ok (by decide +kernel)
theorem ltq_d34 : decode xM90.2.1 34 = .ok (.iload 5, 2) := dz_ok (by decide +kernel)
theorem ltq_d36 : decode xM90.2.1 36 = .ok (.iload_n 2, 1) := dz_ok (by decide +kernel)
theorem ltq_d37 : decode xM90.2.1 37 = .ok (.if_icmp .ne 6, 3) := dz_ok (by decide +kernel)
theorem ltq_d40 : decode xM90.2.1 40 = .ok (.goto 28, 3) := dz_ok (by decide +kernel)
theorem ltq_d43 : decode xM90.2.1 43 = .ok (.aload_n 1, 1) := dz_ok (by decide +kernel)
theorem ltq_d44 : decode xM90.2.1 44 = .ok (.getfield 55, 3) := dz_ok (by decide +kernel)
theorem ltq_d47 : decode xM90.2.1 47 = .ok (.iload 5, 2) := dz_ok (by decide +kernel)
theorem ltq_d49 : decode xM90.2.1 49 = .ok (.iaload, 1) := dz_ok (by decide +kernel)
theorem ltq_d50 : decode xM90.2.1 50 = .ok (.iload_n 3, 1) := dz_ok (by decide +kernel)
theorem ltq_d51 : decode xM90.2.1 51 = .ok (.if_icmp .ge 5, 3) := dz_ok (by decide +kernel)
theorem ltq_d54 : decode xM90.2.1 54 = .ok (.iconst (-1), 1) := dz_ok (by decide +kernel)
theorem ltq_d55 : decode xM90.2.1 55 = .ok (.ireturn, 1) := dz_ok (by decide +kernel)
theorem ltq_d56 : decode xM90.2.1 56 = .ok (.aload_n 0, 1) := dz_ok (by decide +kernel)
theorem ltq_d57 : decode xM90.2.1 57 = .ok (.aload_n 1, 1) := dz_ok (by decide +kernel)
theorem ltq_d58 : decode xM90.2.1 58 = .ok (.iload_n 2, 1) := dz_ok (by decide +kernel)
theorem ltq_d59 : decode xM90.2.1 59 = .ok (.iload 5, 2) := dz_ok (by decide +kernel)
theorem ltq_d61 : decode xM90.2.1 61 = .ok (.iload 4, 2) := dz_ok (by decide +kernel)
theorem ltq_d63 : decode xM90.2.1 63 = .ok (.invokevirtual 100, 3) := dz_ok (by decide +kernel)
theorem ltq_d66 : decode xM90.2.1 66 = .ok (.istore 4, 2) := dz_ok (by decide +kernel)
theorem ltq_d68 : decode xM90.2.1 68 = .ok (.iinc 5 1, 3) := dz_ok (by decide +kernel)
theorem ltq_d71 : decode xM90.2.1 71 = .ok (.goto (-46), 3) := dz_ok (by decide +kernel)
theorem ltq_d74 : decode xM90.2.1 74 = .ok (.iload 4, 2) := dz_ok (by decide +kernel)
theorem ltq_d76 : decode xM90.2.1 76 = .ok (.bipush 99, 2) := dz_ok (by decide +kernel)
theorem ltq_d78 : decode xM90.2.1 78 = .ok (.if_icmp .le 7, 3) := dz_ok (by decide +kernel)
theorem ltq_d81 : decode xM90.2.1 81 = .ok (.iconst (-1), 1) := dz_ok (by decide +kernel)
theorem ltq_d82 : decode xM90.2.1 82 = .ok (.goto 5, 3) := dz_ok (by decide +kernel)
theorem ltq_d85 : decode xM90.2.1 85 = .ok (.iload 4, 2) := dz_ok (by decide +kernel)
theorem ltq_d87 : decode xM90.2.1 87 = .ok (.ireturn, 1) := dz_ok (by decide +kernel)
theorem ltq_L25 {p : Program} {l : Launch} {e : Env} {s : State} {m : MethodId} {below : List Frame} {meth : Method} {c : Code} {D : va_G} {U : State} {Y0 : xY} {av : List Value} (B : y_B vwCl x_Tb x_Nb xM90 p s m meth c D U Y0 av) {this ld ah adial : Nat} {a9 : Int32} {f : Nat → Int32} (hav : av = [.ref this, .ref ld, .int a9]) (hL0 : z_L D Y0 ld s.heap f) (hd0 : 0 ≤ (f 0).toInt ∧ (f 0).toInt ≤ 10) (ha9 : 0 ≤ a9.toInt ∧ a9.toInt ≤ 9)  :
    ∀ (n : Nat), ∀ (H : Heap) (Y : xY) (locs : List Loc) (ls : Array Slot) (k : Int32) (w : Int32), x_I D x_G x_Zs U (x_efs xM90) Y0 s.heap Y H locs → Y this = some 6 → Y ld = some 2 → Y ah = some 21 → Y adial = some 27 → x_sl D 2 3 ld H = some (.ref ah) → x_sl D 2 10 ld H = some (.ref adial) → x_sl D 2 0 ld H = some (.int (f 0)) → y_A ah 10 H (fun j => f (12 + 5 * j)) → y_A adial 4 H (fun j => f (4 + 1 * j)) → z_L D Y ld H f → lv_has ls xM90.2.2.1 [(5, .int k), (4, .int w), (3, .int (f 5)), (0, .ref this), (1, .ref ld), (2, .int a9)] → (0 ≤ k.toInt ∧ k.toInt ≤ (f 0).toInt) → (m_all2 f a9.toInt.toNat k.toInt.toNat (m_tb f) w) → (11 - k.toInt).toNat < n → W p l e (x_rm xM90) s m av.toArray below meth c H locs 0 0 (y_QQ below D x_G x_Zs U xM90 z_Plt av Y0 s) (F0 m 25 ls []) := by
  have X := B.1
  have hx := X.1
  have hb := X.2.1
  have hY0 := B.2.2.2.2.1
  intro n
  induction n with
  | zero => intro _ _ _ _ _ _ _ _ _ _ _ _ _ _ _ _ _ _ _ _ h; exact absurd h (Nat.not_lt_zero _)
  | succ n ih =>
    intro H Y locs ls k w  hI hY_this hY_ld hY_ah hY_adial hs_ah hs_adial hsi_hills hA_ah hA_adial hL hl hk hw hn
    refine lv_iload hx hb ltq_d25 (lv_at hl 0 rfl) ?_
    refine lv_aload_n hx hb ltq_d27 rfl (lv_at hl 4 rfl) ?_
    refine y_getf X (fl80 X.2.2.2.2.1) hI.1 hY_ld rfl hsi_hills ltq_d28 ?_
    refine lv_icmp_ge hx hb ltq_d31 (tgt := 74) (by decide) (fun q31 => ?_) (fun q31 => ?_)
    · have q31_ : (f 0).toInt ≤ k.toInt := x_le32.mp q31
      refine lv_iload hx hb ltq_d74 (lv_at hl 1 rfl) ?_
      refine lv_bipush hx hb ltq_d76 (v := 99) (by decide) ?_
      have ec99 : (99 : Int32).toInt = 99 := by decide
      refine lv_icmp_le hx hb ltq_d78 (tgt := 85) (by decide) (fun q78 => ?_) (fun q78 => ?_)
      · have q78_ : w.toInt ≤ (99 : Int32).toInt := x_le32.mp q78
        refine lv_iload hx hb ltq_d85 (lv_at hl 1 rfl) ?_
        have hw9 := x_i32 w
        subst hav
        exact y_ireturn B hI rfl rfl rfl List.mem_cons_self ⟨_, rfl, ⟨_, rfl, by show ((-2147483648) : Int) ≤ _; omega, by show _ ≤ (99 : Int); omega⟩⟩ (x_cs.mono B.2.2.2.2.2 (y_mon B hI)) (fun t' d' a' f' h1 h2 => by cases h1; cases h2.uniq hL0; exact ⟨_, rfl, Or.inr ⟨w, (by rw [show (f 0).toInt.toNat = k.toInt.toNat by omega]; exact hw), fun q9 => absurd q9 (by omega), fun _ => rfl⟩⟩) (Nat.le_refl _) (Nat.le_refl _) ltq_d87
      · have q78_ : (99 : Int32).toInt < w.toInt := Int.not_le.mp fun q => q78 (x_le32.mpr q)
        refine lv_iconst hx hb ltq_d81 (v := (-1)) (by decide) ?_
        have ecm1 : ((-1) : Int32).toInt = (-1) := by decide
        refine lv_goto hx hb ltq_d82 (tgt := 87) (by decide) ?_
        have hw9 := x_i32 w
        subst hav
        exact y_ireturn B hI rfl rfl rfl List.mem_cons_self ⟨_, rfl, ⟨_, rfl, by show ((-2147483648) : Int) ≤ _; omega, by show _ ≤ (99 : Int); omega⟩⟩ (x_cs.mono B.2.2.2.2.2 (y_mon B hI)) (fun t' d' a' f' h1 h2 => by cases h1; cases h2.uniq hL0; exact ⟨_, rfl, Or.inr ⟨w, (by rw [show (f 0).toInt.toNat = k.toInt.toNat by omega]; exact hw), fun _ => rfl, fun q9 => absurd q9 (by omega)⟩⟩) (Nat.le_refl _) (Nat.le_refl _) ltq_d87
    · have q31_ : k.toInt < (f 0).toInt := Int.not_le.mp fun q => q31 (x_le32.mpr q)
      refine lv_iload hx hb ltq_d34 (lv_at hl 0 rfl) ?_
      refine lv_iload_n hx hb ltq_d36 rfl (lv_at hl 5 rfl) ?_
      refine lv_icmp_ne hx hb ltq_d37 (tgt := 43) (by decide) (fun q37 => ?_) (fun q37 => ?_)
      · have q37_ : ¬ k.toInt = a9.toInt := fun q => q37 (Int32.toInt_inj.mp q)
        refine lv_aload_n hx hb ltq_d43 rfl (lv_at hl 4 rfl) ?_
        refine y_getf X (fl83 X.2.2.2.2.1) hI.1 hY_ld rfl hs_ah ltq_d44 ?_
        refine lv_iload hx hb ltq_d47 (lv_at hl 0 rfl) ?_
        refine y_iald X hI.1 hY_ah rfl hA_ah (by omega) (by show _ < (10 : Int); omega) ltq_d49 ?_
        obtain ⟨e49, hg_e49⟩ : ∃ e49 : Int32, f (12 + 5 * k.toInt.toNat) = e49 := ⟨_, rfl⟩
        rw [hg_e49]
        refine lv_iload_n hx hb ltq_d50 rfl (lv_at hl 2 rfl) ?_
        refine lv_icmp_ge hx hb ltq_d51 (tgt := 56) (by decide) (fun q51 => ?_) (fun q51 => ?_)
        · have q51_ : (f 5).toInt ≤ e49.toInt := x_le32.mp q51
          refine lv_aload_n hx hb ltq_d56 rfl (lv_at hl 3 rfl) ?_
          refine lv_aload_n hx hb ltq_d57 rfl (lv_at hl 4 rfl) ?_
          refine lv_iload_n hx hb ltq_d58 rfl (lv_at hl 5 rfl) ?_
          refine lv_iload hx hb ltq_d59 (lv_at hl 0 rfl) ?_
          refine lv_iload hx hb ltq_d61 (lv_at hl 1 rfl) ?_
          refine y_call (z := (0, 100, 5, some 6, xM89)) (av := [.ref this, .ref ld, .int a9, .int k, .int w]) (rest := []) (y_cokV (n := 4) (ci := 0) X ym_towerTo rfl rfl rfl (x_cons (x_bw48 2 rfl rfl) (x_cons (x_bw48 4 rfl rfl) (x_cons (x_at 16 (by decide +kernel) rfl) (x_cons (x_bw0 6 rfl rfl) x_nilm)))) (x_bw48 5 rfl rfl) (by decide +kernel) ⟨Nat.le_of_ble_eq_true rfl, Nat.le_of_ble_eq_true rfl⟩) hY0 hI rfl ltq_d63 hl.1 (Nat.le_of_ble_eq_true rfl) (Nat.le_of_ble_eq_true rfl) (Nat.le_of_ble_eq_true rfl) (y_cons (y_cref hY_this rfl) (y_cons (y_cref hY_ld rfl) (y_cons ⟨_, rfl, by show (0 : Int) ≤ _; omega, by show _ ≤ (9 : Int); omega⟩ (y_cons ⟨_, rfl, by show (0 : Int) ≤ _; omega, by show _ ≤ (9 : Int); omega⟩ (y_cons ⟨_, rfl, x_i32 _⟩ y_nil))))) rfl (y_recv rfl hY_this) (fun t' h1 => by cases h1; exact ⟨_, hL⟩) (y_sub_ef rfl) fun v Yn o Hn L ho hr ha hIn hx_ hE hP => ?_
          obtain ⟨r63, rfl, htt⟩ := hP _ _ _ _ _ _ rfl hL
          replace hs_ah := y_Efld hE hY_ld rfl (by decide) (by decide) hs_ah
          replace hs_adial := y_Efld hE hY_ld rfl (by decide) (by decide) hs_adial
          replace hsi_hills := y_Efld hE hY_ld rfl (by decide) (by decide) hsi_hills
          replace hA_ah := hA_ah.kept (y_Earr hE hY_ah rfl (by decide))
          replace hA_adial := hA_adial.kept (y_Earr hE hY_adial rfl (by decide))
          replace hL := hL.E hY_ld hE (fun q u h => y_ext hx_ hI.1 h) (by decide +kernel)
          replace hY_this := y_ext hx_ hI.1 hY_this
          replace hY_ld := y_ext hx_ hI.1 hY_ld
          replace hY_ah := y_ext hx_ hI.1 hY_ah
          replace hY_adial := y_ext hx_ hI.1 hY_adial
          clear ho hr ha hE hP hI hx_
          rename x_I _ _ _ _ _ _ _ _ _ _ => hI
          refine lv_istore hx hb ltq_d66 hl (by decide) (lv' := [(4, .int r63), (5, .int k), (3, .int (f 5)), (0, .ref this), (1, .ref ld), (2, .int a9)]) rfl fun ls hl => ?_
          obtain ⟨z68, hg_z68⟩ : ∃ z68 : Int32, k + Int32.ofInt 1 = z68 := ⟨_, rfl⟩
          have h_z68 : z68.toInt = k.toInt + 1 := by rw [← hg_z68]; exact y_inc (by decide) (by omega) (by omega)
          refine lv_iinc hx hb ltq_d68 hl (k := 1) rfl hg_z68 (by decide) (lv' := [(5, .int z68), (4, .int r63), (3, .int (f 5)), (0, .ref this), (1, .ref ld), (2, .int a9)]) rfl fun ls hl => ?_
          refine lv_goto hx hb ltq_d71 (tgt := 25) (by decide) ?_
          have his : z68.toInt.toNat = k.toInt.toNat + 1 := by omega
          exact ih _ _ _ _ _ _ hI hY_this hY_ld hY_ah hY_adial hs_ah hs_adial hsi_hills hA_ah hA_adial hL (lv_sub hl [0, 1, 2, 3, 4, 5] rfl) (by first | assumption | omega) (by rw [his]; exact hw.step (by omega) (by rw [hg_e49]; omega) htt) (by omega)
        · have q51_ : e49.toInt < (f 5).toInt := Int.not_le.mp fun q => q51 (x_le32.mpr q)
          refine lv_iconst hx hb ltq_d54 (v := (-1)) (by decide) ?_
          have ecm1 : ((-1) : Int32).toInt = (-1) := by decide
          have hw9 := x_i32 w
          subst hav
          exact y_ireturn B hI rfl rfl rfl List.mem_cons_self ⟨_, rfl, ⟨_, rfl, by show ((-2147483648) : Int) ≤ _; omega, by show _ ≤ (99 : Int); omega⟩⟩ (x_cs.mono B.2.2.2.2.2 (y_mon B hI)) (fun t' d' a' f' h1 h2 => by cases h1; cases h2.uniq hL0; exact ⟨_, rfl, Or.inl ⟨rfl, k.toInt.toNat, by omega, by omega, by rw [hg_e49]; omega⟩⟩) (Nat.le_refl _) (Nat.le_refl _) ltq_d55
      · have q37_ : k.toInt = a9.toInt := by rw [q37]
        refine lv_goto hx hb ltq_d40 (tgt := 68) (by decide) ?_
        obtain ⟨z68, hg_z68⟩ : ∃ z68 : Int32, k + Int32.ofInt 1 = z68 := ⟨_, rfl⟩
        have h_z68 : z68.toInt = k.toInt + 1 := by rw [← hg_z68]; exact y_inc (by decide) (by omega) (by omega)
        refine lv_iinc hx hb ltq_d68 hl (k := 0) rfl hg_z68 (by decide) (lv' := [(5, .int z68), (4, .int w), (3, .int (f 5)), (0, .ref this), (1, .ref ld), (2, .int a9)]) rfl fun ls hl => ?_
        refine lv_goto hx hb ltq_d71 (tgt := 25) (by decide) ?_
        have his : z68.toInt.toNat = k.toInt.toNat + 1 := by omega
        exact ih _ _ _ _ _ _ hI hY_this hY_ld hY_ah hY_adial hs_ah hs_adial hsi_hills hA_ah hA_adial hL (lv_sub hl [0, 1, 2, 3, 4, 5] rfl) (by first | assumption | omega) (by rw [his]; have h9 := hw; rw [show k.toInt.toNat = a9.toInt.toNat by omega] at h9 ⊢; exact h9.skip) (by omega)
theorem ym_leastTower : y_Met vwCl x_G x_Zs x_Tb x_Nb xM90 z_ALn z_Plt := by
  refine y_main (by decide +kernel) (by decide +kernel) x_Tb_good x_Nb_ok ?_
  intro p l e s m below meth c D U Y0 av ls B hI hpre hl
  have X := B.1
  have hx := X.1
  have hb := X.2.1
  have hY0 := B.2.2.2.2.1
  obtain ⟨v0, v1, v2, rfl, hv0, hv1, ⟨a9, rfl, ha9⟩⟩ := y_three B.2.2.2.2.2
  replace ha9 : (0 : Int) ≤ a9.toInt ∧ a9.toInt ≤ 9 := ha9
  obtain ⟨this, t0, rfl, ht0, hY_this⟩ := x_ref_at hv0 rfl
  obtain rfl := List.mem_singleton.mp ht0
  obtain ⟨ld, t1, rfl, ht1, hY_ld⟩ := x_ref_at hv1 rfl
  obtain rfl := List.mem_singleton.mp ht1
  replace hl : lv_has ls xM90.2.2.1 [(0, .ref this), (1, .ref ld), (2, .int a9)] := hl
  obtain ⟨f, hL⟩ := hpre _ rfl
  have hL0 := hL
  have hsi_hills := hL.1.1
  have hd0 : 0 ≤ (f 0).toInt ∧ (f 0).toInt ≤ 10 := by
    obtain ⟨x9, e9, b9⟩ := y_fldI (k := 0) hI.1 hY_ld rfl rfl
    rw [hsi_hills] at e9
    cases e9
    exact b9
  obtain ⟨ah, hs_ah, hY_ah, hA_ah⟩ := hL.2.1 (3, 21, 10, 12, 5) (by decide)
  replace hA_ah : y_A ah 10 s.heap (fun j => f (12 + 5 * j)) := hA_ah
  obtain ⟨adial, hs_adial, hY_adial, hA_adial⟩ := hL.2.1 (10, 27, 4, 4, 1) (by decide)
  replace hA_adial : y_A adial 4 s.heap (fun j => f (4 + 1 * j)) := hA_adial
  refine lv_aload_n hx hb ltq_d0 rfl (lv_at hl 1 rfl) ?_
  refine y_getf X (fl138 X.2.2.2.2.1) hI.1 hY_ld rfl hs_adial ltq_d1 ?_
  refine lv_iconst hx hb ltq_d4 (v := 1) (by decide) ?_
  have ec1 : (1 : Int32).toInt = 1 := by decide
  refine y_iald X hI.1 hY_adial rfl hA_adial (by omega) (by show _ < (4 : Int); omega) ltq_d5 ?_
  obtain ⟨e5, hg_e5⟩ : ∃ e5 : Int32, f (4 + 1 * (1 : Int32).toInt.toNat) = e5 := ⟨_, rfl⟩
  rw [hg_e5]
  have hm9 : e5 = f 5 := (Eq.symm hg_e5)
  subst hm9
  refine lv_istore_n hx hb ltq_d6 rfl hl (by decide) (lv' := [(3, .int (f 5)), (0, .ref this), (1, .ref ld), (2, .int a9)]) rfl fun ls hl => ?_
  refine lv_aload_n hx hb ltq_d7 rfl (lv_at hl 2 rfl) ?_
  refine y_getf X (fl80 X.2.2.2.2.1) hI.1 hY_ld rfl hsi_hills ltq_d8 ?_
  refine lv_iconst hx hb ltq_d11 (v := 1) (by decide) ?_
  refine lv_icmp_le hx hb ltq_d12 (tgt := 19) (by decide) (fun q12 => ?_) (fun q12 => ?_)
  · have q12_ : (f 0).toInt ≤ (1 : Int32).toInt := x_le32.mp q12
    refine lv_iconst hx hb ltq_d19 (v := 0) (by decide) ?_
    have ec0 : (0 : Int32).toInt = 0 := by decide
    refine lv_istore hx hb ltq_d20 hl (by decide) (lv' := [(4, .int (0 : Int32)), (3, .int (f 5)), (0, .ref this), (1, .ref ld), (2, .int a9)]) rfl fun ls hl => ?_
    refine lv_iconst hx hb ltq_d22 (v := 0) (by decide) ?_
    refine lv_istore hx hb ltq_d23 hl (by decide) (lv' := [(5, .int (0 : Int32)), (4, .int (0 : Int32)), (3, .int (f 5)), (0, .ref this), (1, .ref ld), (2, .int a9)]) rfl fun ls hl => ?_
    exact ltq_L25 B rfl hL0 hd0 ha9 12 _ _ _ _ _ _ hI hY_this hY_ld hY_ah hY_adial hs_ah hs_adial hsi_hills hA_ah hA_adial hL (lv_sub hl [0, 1, 2, 3, 4, 5] rfl) (by first | assumption | omega) (by rw [z_i0, show m_tb f = 0 from (by unfold m_tb; exact if_neg (by omega))]; exact m_all2.zero) (by omega)
  · have q12_ : (1 : Int32).toInt < (f 0).toInt := Int.not_le.mp fun q => q12 (x_le32.mpr q)
    refine lv_iload_n hx hb ltq_d15 rfl (lv_at hl 0 rfl) ?_
    refine lv_goto hx hb ltq_d16 (tgt := 20) (by decide) ?_
    refine lv_istore hx hb ltq_d20 hl (by decide) (lv' := [(4, .int (f 5)), (3, .int (f 5)), (0, .ref this), (1, .ref ld), (2, .int a9)]) rfl fun ls hl => ?_
    refine lv_iconst hx hb ltq_d22 (v := 0) (by decide) ?_
    have ec0 : (0 : Int32).toInt = 0 := by decide
    refine lv_istore hx hb ltq_d23 hl (by decide) (lv' := [(5, .int (0 : Int32)), (4, .int (f 5)), (3, .int (f 5)), (0, .ref this), (1, .ref ld), (2, .int a9)]) rfl fun ls hl => ?_
    exact ltq_L25 B rfl hL0 hd0 ha9 12 _ _ _ _ _ _ hI hY_this hY_ld hY_ah hY_adial hs_ah hs_adial hsi_hills hA_ah hA_adial hL (lv_sub hl [0, 1, 2, 3, 4, 5] rfl) (by first | assumption | omega) (by rw [z_i0, show m_tb f = f 5 from (by unfold m_tb; exact if_pos (by omega))]; exact m_all2.zero) (by omega)
def z_PTtower : yP := fun D av Y H v _ _ => ∀ (this : Nat) (h : Int32) (f : Nat → Int32) (K : Nat → Option (Nat → Int32)) (t9 : Nat → Int32) (n9 : Int32), av = [.ref this, .int h] → z_RC D Y H this f K t9 n9 → ∃ r : Int32, v = some (.int r) ∧ m_tow m_lt f h r
theorem twrq_d0 : decode xM91.2.1 0 = .ok (.aload_n 0, 1) := dz_ok (by decide +kernel)
theorem twrq_d1 : decode xM91.2.1 1 = .ok (.getfield 12, 3) := dz_ok (by decide +kernel)
theorem twrq_d4 : decode xM91.2.1 4 = .ok (.iload_n 1, 1) := dz_ok (by decide +kernel)
theorem twrq_d5 : decode xM91.2.1 5 = .ok (.invokevirtual 101, 3) := dz_ok (by decide +kernel)
theorem twrq_d8 : decode xM91.2.1 8 = .ok (.ifCond .ne 10, 3) := dz_ok (by decide +kernel)
theorem twrq_d11 : decode xM91.2.1 11 = .ok (.aload_n 0, 1) := dz_ok (by decide +kernel)
theorem twrq_d12 : decode xM91.2.1 12 = .ok (.bipush (-2), 2) := dz_ok (by decide +kernel)
theorem twrq_d14 : decode xM91.2.1 14 = .ok (.invokevirtual 59, 3) := dz_ok (by decide +kernel)
theorem twrq_d17 : decode xM91.2.1 17 = .ok (.ireturn, 1) := dz_ok (by decide +kernel)
theorem twrq_d18 : decode xM91.2.1 18 = .ok (.aload_n 0, 1) := dz_ok (by decide +kernel)
theorem twrq_d19 : decode xM91.2.1 19 = .ok (.getfield 33, 3) := dz_ok (by decide +kernel)
theorem twrq_d22 : decode xM91.2.1 22 = .ok (.aload_n 0, 1) := dz_ok (by decide +kernel)
theorem twrq_d23 : decode xM91.2.1 23 = .ok (.getfield 12, 3) := dz_ok (by decide +kernel)
theorem twrq_d26 : decode xM91.2.1 26 = .ok (.iload_n 1, 1) := dz_ok (by decide +kernel)
theorem twrq_d27 : decode xM91.2.1 27 = .ok (.invokevirtual 217, 3) := dz_ok (by decide +kernel)
theorem twrq_d30 : decode xM91.2.1 30 = .ok (.ireturn, 1) := dz_ok (by decide +kernel)
theorem ym_Ttower : y_Met vwCl x_G x_Zs x_Tb x_Nb xM91 z_ATF z_PTtower := by
  refine y_main (by decide +kernel) (by decide +kernel) x_Tb_good x_Nb_ok ?_
  intro p l e s m below meth c D U Y0 av ls B hI hpre hl
  have X := B.1
  have hx := X.1
  have hb := X.2.1
  have hY0 := B.2.2.2.2.1
  obtain ⟨v0, v1, rfl, hv0, ⟨h, rfl, -⟩⟩ := x_two B.2.2.2.2.2
  obtain ⟨this, t0, rfl, ht0, hY_this⟩ := x_ref_at hv0 rfl
  obtain rfl := List.mem_singleton.mp ht0
  replace hl : lv_has ls xM91.2.2.1 [(0, .ref this), (1, .int h)] := hl
  obtain ⟨f, K, tt, nn, hR0⟩ := hpre _ rfl
  obtain ⟨ld, dr, kp, tx, by_, kk, ⟨hs_ld, -⟩, ⟨hY_ld, -⟩, hL, -⟩ := id hR0
  obtain ⟨ey, hs_ey, hY_ey⟩ := y_fldR (k := 4) hI.1 hY_this rfl rfl
  obtain ⟨vw, hs_vw, hY_vw⟩ := y_fldR (k := 1) hI.1 hY_ey rfl rfl
  obtain ⟨en, hs_en, hY_en⟩ := y_fldR (k := 2) hI.1 hY_ey rfl rfl
  obtain ⟨ed, hs_ed, hY_ed⟩ := y_fldR (k := 3) hI.1 hY_ey rfl rfl
  have hn0 := hL.1.1
  have hn1 := hL.1.2.1
  have hn2 := hL.1.2.2
  have hb0 : 0 ≤ (f 0).toInt ∧ (f 0).toInt ≤ 10 := by obtain ⟨x9, e9, b9⟩ := y_fldI (k := 0) hI.1 hY_ld rfl rfl; rw [hn0] at e9; cases e9; exact b9
  have hb1 : 0 ≤ (f 1).toInt ∧ (f 1).toInt ≤ 8 := by obtain ⟨x9, e9, b9⟩ := y_fldI (k := 6) hI.1 hY_ld rfl rfl; rw [hn1] at e9; cases e9; exact b9
  have hb2 : 0 ≤ (f 2).toInt ∧ (f 2).toInt ≤ 8 := by obtain ⟨x9, e9, b9⟩ := y_fldI (k := 12) hI.1 hY_ld rfl rfl; rw [hn2] at e9; cases e9; exact b9
  refine lv_aload_n hx hb twrq_d0 rfl (lv_at hl 0 rfl) ?_
  refine y_getf X (fl8 X.2.2.2.2.1) hI.1 hY_this rfl hs_ld twrq_d1 ?_
  refine lv_iload_n hx hb twrq_d4 rfl (lv_at hl 1 rfl) ?_
  refine y_call (z := (0, 101, 2, some 2, xM40)) (av := [.ref ld, .int h]) (rest := []) (y_cokV (n := 1) (ci := 2) X ym_hasHill rfl rfl rfl (x_cons (x_bw29 8 rfl rfl) (x_cons (x_bw29 9 rfl rfl) (x_cons (x_bw29 10 rfl rfl) (x_cons (x_bw0 2 rfl rfl) x_nilm)))) (x_bw29 11 rfl rfl) (by decide +kernel) ⟨Nat.le_of_ble_eq_true rfl, Nat.le_of_ble_eq_true rfl⟩) hY0 hI rfl twrq_d5 hl.1 (Nat.le_of_ble_eq_true rfl) (Nat.le_of_ble_eq_true rfl) (Nat.le_of_ble_eq_true rfl) (y_cons (y_cref hY_ld rfl) (y_cons ⟨_, rfl, x_i32 _⟩ y_nil)) rfl (y_recv rfl hY_ld) trivial (y_sub_ef rfl) fun v Yn o Hn L ho hr ha hIn hx_ hE hP => ?_
  have hPh := hP _ _ _ rfl hn0
  replace hs_ld := y_Efld hE hY_this rfl (by decide) (by decide) hs_ld
  replace hs_ey := y_Efld hE hY_this rfl (by decide) (by decide) hs_ey
  replace hn0 := y_Efld hE hY_ld rfl (by decide) (by decide) hn0
  replace hL := hL.E hY_ld hE (fun q u h => y_ext hx_ hI.1 h) (by decide +kernel)
  replace hY_this := y_ext hx_ hI.1 hY_this
  replace hY_ld := y_ext hx_ hI.1 hY_ld
  replace hY_ey := y_ext hx_ hI.1 hY_ey
  obtain ⟨r5, rfl, hin_r5, hout_r5⟩ := hPh
  clear ho hr ha hE hP hI hx_
  rename x_I _ _ _ _ _ _ _ _ _ _ => hI
  have ec0 : (0 : Int32).toInt = 0 := by decide
  refine lv_if_ne hx hb twrq_d8 (tgt := 18) (by decide) (fun q8 => ?_) (fun q8 => ?_)
  · have q8_ : ¬ r5.toInt = (0 : Int32).toInt := fun q => q8 (Int32.toInt_inj.mp q)
    have hok : m_isH f h := hin_r5 (by assumption)
    have hh9 := hok
    unfold m_isH at hh9
    refine lv_aload_n hx hb twrq_d18 rfl (lv_at hl 0 rfl) ?_
    refine y_getf X (fl102 X.2.2.2.2.1) hI.1 hY_this rfl hs_ey twrq_d19 ?_
    refine lv_aload_n hx hb twrq_d22 rfl (lv_at hl 0 rfl) ?_
    refine y_getf X (fl8 X.2.2.2.2.1) hI.1 hY_this rfl hs_ld twrq_d23 ?_
    refine lv_iload_n hx hb twrq_d26 rfl (lv_at hl 1 rfl) ?_
    refine y_call (z := (0, 217, 3, some 6, xM90)) (av := [.ref ey, .ref ld, .int h]) (rest := []) (y_cokV (n := 2) (ci := 0) X ym_leastTower rfl rfl rfl (x_cons (x_bw47 14 rfl rfl) (x_cons (x_bw47 15 rfl rfl) (x_cons (x_bw48 0 rfl rfl) (x_cons (x_bw0 6 rfl rfl) x_nilm)))) (x_bw48 1 rfl rfl) (by decide +kernel) ⟨Nat.le_of_ble_eq_true rfl, Nat.le_of_ble_eq_true rfl⟩) hY0 hI rfl twrq_d27 hl.1 (Nat.le_of_ble_eq_true rfl) (Nat.le_of_ble_eq_true rfl) (Nat.le_of_ble_eq_true rfl) (y_cons (y_cref hY_ey rfl) (y_cons (y_cref hY_ld rfl) (y_cons ⟨_, rfl, by show (0 : Int) ≤ _; omega, by show _ ≤ (9 : Int); omega⟩ y_nil))) rfl (y_recv rfl hY_ey) (fun t' h1 => by cases h1; exact ⟨_, hL⟩) (y_sub_ef rfl) fun v Yn o Hn L ho hr ha hIn hx_ hE hP => ?_
    obtain ⟨r27, rfl, hlt⟩ := hP _ _ _ _ rfl hL
    replace hs_ld := y_Efld hE hY_this rfl (by decide) (by decide) hs_ld
    replace hs_ey := y_Efld hE hY_this rfl (by decide) (by decide) hs_ey
    replace hn0 := y_Efld hE hY_ld rfl (by decide) (by decide) hn0
    replace hL := hL.E hY_ld hE (fun q u h => y_ext hx_ hI.1 h) (by decide +kernel)
    replace hY_this := y_ext hx_ hI.1 hY_this
    replace hY_ld := y_ext hx_ hI.1 hY_ld
    replace hY_ey := y_ext hx_ hI.1 hY_ey
    clear ho hr ha hE hP hI hx_
    rename x_I _ _ _ _ _ _ _ _ _ _ => hI
    exact y_ireturn B hI rfl rfl rfl List.mem_cons_self ⟨_, rfl, ⟨_, rfl, x_i32 _⟩⟩ (x_cs.mono B.2.2.2.2.2 (y_mon B hI)) (fun t' w0' f' K' tt' nn' h1 h2 => by cases h1; obtain ⟨ef, -⟩ := hR0.eqs h2; subst ef; exact ⟨_, rfl, fun _ => hlt, fun q9 => absurd hok q9⟩) (Nat.le_refl _) (Nat.le_refl _) twrq_d30
  · have q8_ : r5.toInt = (0 : Int32).toInt := by rw [q8]
    have hno : ¬ m_isH f h := hout_r5 (by assumption)
    refine lv_aload_n hx hb twrq_d11 rfl (lv_at hl 0 rfl) ?_
    refine lv_bipush hx hb twrq_d12 (v := (-2)) (by decide) ?_
    have ecm2 : ((-2) : Int32).toInt = (-2) := by decide
    refine y_call (z := (0, 59, 2, some 0, xM8)) (av := [.ref this, .int ((-2) : Int32)]) (rest := []) (y_cokV (n := 1) (ci := 11) X ym_counted rfl rfl rfl (x_cons (x_bw19 7 rfl rfl) (x_cons (x_bw19 9 rfl rfl) (x_cons (x_at 1 (by decide +kernel) rfl) (x_cons (x_bw0 1 rfl rfl) x_nilm)))) (x_bw19 10 rfl rfl) (by decide +kernel) ⟨Nat.le_of_ble_eq_true rfl, Nat.le_of_ble_eq_true rfl⟩) hY0 hI rfl twrq_d14 hl.1 (Nat.le_of_ble_eq_true rfl) (Nat.le_of_ble_eq_true rfl) (Nat.le_of_ble_eq_true rfl) (y_cons (y_cref hY_this rfl) (y_cons ⟨_, rfl, x_i32 _⟩ y_nil)) rfl (y_recv rfl hY_this) trivial (y_sub_ef rfl) fun v Yn o Hn L ho hr ha hIn hx_ hE hP => ?_
    replace hs_ld := y_Efld hE hY_this rfl (by decide) (by decide) hs_ld
    replace hs_ey := y_Efld hE hY_this rfl (by decide) (by decide) hs_ey
    replace hn0 := y_Efld hE hY_ld rfl (by decide) (by decide) hn0
    replace hL := hL.E hY_ld hE (fun q u h => y_ext hx_ hI.1 h) (by decide +kernel)
    replace hY_this := y_ext hx_ hI.1 hY_this
    replace hY_ld := y_ext hx_ hI.1 hY_ld
    replace hY_ey := y_ext hx_ hI.1 hY_ey
    obtain rfl := hP _ _ rfl
    clear ho hr ha hE hP hI hx_
    rename x_I _ _ _ _ _ _ _ _ _ _ => hI
    exact y_ireturn B hI rfl rfl rfl List.mem_cons_self ⟨_, rfl, ⟨_, rfl, x_i32 _⟩⟩ (x_cs.mono B.2.2.2.2.2 (y_mon B hI)) (fun t' w0' f' K' tt' nn' h1 h2 => by cases h1; obtain ⟨ef, -⟩ := hR0.eqs h2; subst ef; exact ⟨_, rfl, fun q9 => absurd q9 hno, fun _ => rfl⟩) (Nat.le_refl _) (Nat.le_refl _) twrq_d17

