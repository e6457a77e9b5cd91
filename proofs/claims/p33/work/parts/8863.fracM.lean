/-! THE FRACTION of the reference: chance, lies -/
def z_FM (D : va_G) (H : Heap) (this : Nat) (a b : Int64) : Prop := x_sl D 12 6 this H = some (.long a) ∧ x_sl D 12 7 this H = some (.long b)
def z_fxM (D : va_G) (H H' : Heap) (this : Nat) (r : Int32) (up down : Int64) : Prop := (¬ r = 1 → ∀ a b, z_FM D H this a b → z_FM D H' this a b) ∧ (r = 1 → 1 ≤ down.toInt → 0 ≤ (m_labs up).toInt → z_FM D H' this (up / m_gcd (m_labs up) down) (down / m_gcd (m_labs up) down))
def m_chsR (f : Nat → Int32) (th : Int32) : Nat → Int32
  | 0 => 0
  | k + 1 => m_chsR f th k + ((th >>> (nI k &&& 31)) &&& 1) * f (14 + 5 * k)
theorem m_chsR_0 {f : Nat → Int32} : ∀ k, k < 31 → m_chsR f 0 k = 0
  | 0, _ => rfl
  | k + 1, h => by
    show m_chsR f 0 k + (((0 : Int32) >>> (nI k &&& 31)) &&& 1) * f (14 + 5 * k) = 0
    rw [m_chsR_0 k (by omega), show ((0 : Int32) >>> (nI k &&& 31)) &&& 1 = 0 from (by decide : ∀ q, q < 31 → ((0 : Int32) >>> (nI q &&& 31)) &&& 1 = 0) k (by omega), Int32.zero_mul]
    rfl
def m_lwR (f : Nat → Int32) (w : Int32) : Bool := m_lw (m_VR f (f 4) (f 5)) w (f 0).toInt.toNat
def m_thR (f : Nat → Int32) (w : Int32) : Int32 := if m_lwR f w = true then m_gg (m_woB f (m_VR f (f 4) (f 5)) w) 0 (f 0).toInt.toNat else 0
def m_chUR (f : Nat → Int32) (w : Int32) (h : Nat) : Int64 := (((m_thR f w >>> (nI h &&& 31)) &&& 1) * f (14 + 5 * h)).toInt64
def m_chDR (f : Nat → Int32) (w : Int32) : Int64 := (m_chsR f (m_thR f w) (f 0).toInt.toNat).toInt64
theorem z_dpR {Y : xY} {o : List xV × Option xV} {v : Option Value} {a b c d : xV} (ho : o ∈ [([a, b], some (xL 1 9223372036854775807)), ([c, d], some (xL (-9223372036854775808) (-1)))]) (hr : x_ret Y o.2 v) : ∃ r : Int64, v = some (.long r) ∧ (1 ≤ r.toInt ∨ r.toInt ≤ -1) := by
  rcases List.mem_cons.mp ho with e0 | ho
  · subst e0
    obtain ⟨w, e1, y, e2, h1, h2⟩ := hr
    have h1 : (1 : Int) ≤ y.toInt := h1
    exact ⟨y, by rw [e1, e2], Or.inl h1⟩
  · obtain rfl := List.mem_singleton.mp ho
    obtain ⟨w, e1, y, e2, h1, h2⟩ := hr
    have h2 : y.toInt ≤ (-1 : Int) := h2
    exact ⟨y, by rw [e1, e2], Or.inr h2⟩
def z_Pdv : yP := fun _ av _ _ v _ _ => ∀ a b : Int64, av = [.long a, .long b] → 1 ≤ b.toInt → 0 ≤ (m_labs a).toInt → v = some (.long (m_gcd (m_labs a) b))
theorem dvX_d0 : decode xMdp.2.1 0 = .ok (.lload_n 0, 1) := dz_ok (by decide +kernel)
theorem dvX_d1 : decode xMdp.2.1 1 = .ok (.lconst 0, 1) := dz_ok (by decide +kernel)
theorem dvX_d2 : decode xMdp.2.1 2 = .ok (.lcmp, 1) := dz_ok (by decide +kernel)
theorem dvX_d3 : decode xMdp.2.1 3 = .ok (.ifCond .ge 8, 3) := dz_ok (by decide +kernel)
theorem dvX_d6 : decode xMdp.2.1 6 = .ok (.lload_n 0, 1) := dz_ok (by decide +kernel)
theorem dvX_d7 : decode xMdp.2.1 7 = .ok (.lneg, 1) := dz_ok (by decide +kernel)
theorem dvX_d8 : decode xMdp.2.1 8 = .ok (.goto 4, 3) := dz_ok (by decide +kernel)
theorem dvX_d11 : decode xMdp.2.1 11 = .ok (.lload_n 0, 1) := dz_ok (by decide +kernel)
theorem dvX_d12 : decode xMdp.2.1 12 = .ok (.lstore 4, 2) := dz_ok (by decide +kernel)
theorem dvX_d14 : decode xMdp.2.1 14 = .ok (.lload_n 2, 1) := dz_ok (by decide +kernel)
theorem dvX_d15 : decode xMdp.2.1 15 = .ok (.lstore 6, 2) := dz_ok (by decide +kernel)
theorem dvX_d17 : decode xMdp.2.1 17 = .ok (.lload 6, 2) := dz_ok (by decide +kernel)
theorem dvX_d19 : decode xMdp.2.1 19 = .ok (.lconst 0, 1) := dz_ok (by decide +kernel)
theorem dvX_d20 : decode xMdp.2.1 20 = .ok (.lcmp, 1) := dz_ok (by decide +kernel)
theorem dvX_d21 : decode xMdp.2.1 21 = .ok (.ifCond .eq 21, 3) := dz_ok (by decide +kernel)
theorem dvX_d24 : decode xMdp.2.1 24 = .ok (.lload 4, 2) := dz_ok (by decide +kernel)
theorem dvX_d26 : decode xMdp.2.1 26 = .ok (.lload 6, 2) := dz_ok (by decide +kernel)
theorem dvX_d28 : decode xMdp.2.1 28 = .ok (.lrem, 1) := dz_ok (by decide +kernel)
theorem dvX_d29 : decode xMdp.2.1 29 = .ok (.lstore 8, 2) := dz_ok (by decide +kernel)
theorem dvX_d31 : decode xMdp.2.1 31 = .ok (.lload 6, 2) := dz_ok (by decide +kernel)
theorem dvX_d33 : decode xMdp.2.1 33 = .ok (.lstore 4, 2) := dz_ok (by decide +kernel)
theorem dvX_d35 : decode xMdp.2.1 35 = .ok (.lload 8, 2) := dz_ok (by decide +kernel)
theorem dvX_d37 : decode xMdp.2.1 37 = .ok (.lstore 6, 2) := dz_ok (by decide +kernel)
theorem dvX_d39 : decode xMdp.2.1 39 = .ok (.goto (-22), 3) := dz_ok (by decide +kernel)
theorem dvX_d42 : decode xMdp.2.1 42 = .ok (.lload 4, 2) := dz_ok (by decide +kernel)
theorem dvX_d44 : decode xMdp.2.1 44 = .ok (.lreturn, 1) := dz_ok (by decide +kernel)
theorem dvX_L17 {p : Program} {l : Launch} {e : Env} {s : State} {m : MethodId} {below : List Frame} {meth : Method} {c : Code} {D : va_G} {U : State} {Y0 : xY} {av : List Value} (B : y_B vwCl x_Tb x_Nb xMdp p s m meth c D U Y0 av) {a b : Int64} (hav : av = [.long a, .long b])  :
    ∀ (n : Nat), ∀ (H : Heap) (Y : xY) (locs : List Loc) (ls : Array Slot) (x : Int64) (y : Int64), x_I D x_G x_Zs U (x_efs xMdp) Y0 s.heap Y H locs → lv_has ls xMdp.2.2.1 [(4, .long x), (6, .long y), (0, .long a), (2, .long b)] → (¬ y.toInt = 0 ∨ ¬ x.toInt = 0) → (∃ k : Nat, (x, y) = m_en k (m_labs a, b)) → y.toInt.natAbs < n → W p l e (x_rm xMdp) s m av.toArray below meth c H locs 0 0 (y_QQ below D x_G x_Zs U xMdp z_Pdv av Y0 s) (F0 m 17 ls []) := by
  have X := B.1
  have hx := X.1
  have hb := X.2.1
  have hY0 := B.2.2.2.2.1
  intro n
  induction n with
  | zero => intro _ _ _ _ _ _ _ _ _ _ h; exact absurd h (Nat.not_lt_zero _)
  | succ n ih =>
    intro H Y locs ls x y  hI hl hxy hen hn
    refine lv_lload hx hb dvX_d17 (lv_at hl 1 rfl) ?_
    refine lv_lconst hx hb dvX_d19 (v := 0) (by decide) ?_
    have el0 : (0 : Int64).toInt = 0 := by decide
    refine W.lcmp hx hb dvX_d20 ?_
    have h_z20 := y_cmp y (0 : Int64)
    generalize hg_z20 : lg_cmp y (0 : Int64) = z20 at h_z20 ⊢
    have ec0 : (0 : Int32).toInt = 0 := by decide
    refine lv_if_eq hx hb dvX_d21 (tgt := 42) (by decide) (fun q21 => ?_) (fun q21 => ?_)
    · have q21_ : z20.toInt = (0 : Int32).toInt := by rw [q21]
      refine lv_lload hx hb dvX_d42 (lv_at hl 0 rfl) ?_
      subst hav
      have rx := x_i64 x
      rcases (show 1 ≤ x.toInt ∨ x.toInt ≤ -1 by omega) with hc | hc
      · exact y_lreturn B hI rfl rfl List.mem_cons_self ⟨_, rfl, ⟨_, rfl, hc, rx.2⟩⟩ (x_cs.mono B.2.2.2.2.2 (y_mon B hI)) (fun a' b' h1 h2 h3 => by cases h1; obtain ⟨k, hk⟩ := hen; have hgc := m_gcd_at h3 h2 (k := k) (Or.inl (by rw [← hk]; exact Int64.toInt_inj.mp (by rw [show (0 : Int64).toInt = 0 by decide]; show y.toInt = 0; omega))); rw [← hk] at hgc; exact congrArg (fun z => some (Value.long z)) hgc.1) (Nat.le_refl _) (Nat.le_refl _) dvX_d44
      · exact y_lreturn B hI rfl rfl (List.mem_cons_of_mem _ List.mem_cons_self) ⟨_, rfl, ⟨_, rfl, rx.1, hc⟩⟩ (x_cs.mono B.2.2.2.2.2 (y_mon B hI)) (fun a' b' h1 h2 h3 => by cases h1; obtain ⟨k, hk⟩ := hen; have hgc := m_gcd_at h3 h2 (k := k) (Or.inl (by rw [← hk]; exact Int64.toInt_inj.mp (by rw [show (0 : Int64).toInt = 0 by decide]; show y.toInt = 0; omega))); rw [← hk] at hgc; exact congrArg (fun z => some (Value.long z)) hgc.1) (Nat.le_refl _) (Nat.le_refl _) dvX_d44
    · have q21_ : ¬ z20.toInt = (0 : Int32).toInt := fun q => q21 (Int32.toInt_inj.mp q)
      refine lv_lload hx hb dvX_d24 (lv_at hl 0 rfl) ?_
      refine lv_lload hx hb dvX_d26 (lv_at hl 1 rfl) ?_
      refine lv_lrem hx hb dvX_d28 (by intro q; have := congrArg Int64.toInt q; have z0 : (0 : Int64).toInt = 0 := (by decide); omega) ?_
      have h_z28 := z_lrem x y (by intro q; have := congrArg Int64.toInt q; have z0 : (0 : Int64).toInt = 0 := (by decide); omega)
      generalize hg_z28 : x - x / y * y = z28 at h_z28 ⊢
      refine lv_lstore hx hb dvX_d29 hl (by decide) (lv' := [(8, .long z28), (4, .long x), (6, .long y), (0, .long a), (2, .long b)]) rfl fun ls hl => ?_
      refine lv_lload hx hb dvX_d31 (lv_at hl 2 rfl) ?_
      refine lv_lstore hx hb dvX_d33 hl (by decide) (lv' := [(4, .long y), (8, .long z28), (6, .long y), (0, .long a), (2, .long b)]) rfl fun ls hl => ?_
      refine lv_lload hx hb dvX_d35 (lv_at hl 1 rfl) ?_
      refine lv_lstore hx hb dvX_d37 hl (by decide) (lv' := [(6, .long z28), (4, .long y), (8, .long z28), (0, .long a), (2, .long b)]) rfl fun ls hl => ?_
      refine lv_goto hx hb dvX_d39 (tgt := 17) (by decide) ?_
      have hy9 : ¬ y = 0 := fun q => by have h9 := congrArg Int64.toInt q; rw [show (0 : Int64).toInt = 0 by decide] at h9; omega
      exact ih _ _ _ _ _ _ hI (lv_sub hl [1, 0, 3, 4] rfl) (by first | assumption | omega) (by obtain ⟨k, hk⟩ := hen; exact ⟨k + 1, by rw [m_en_s (by rw [← hk]; exact hy9), ← hk]; exact congrArg (fun z => (y, z)) hg_z28.symm⟩) (by omega)
theorem ym_divisorF : y_Met vwCl x_G x_Zs x_Tb x_Nb xMdp y_T z_Pdv := by
  refine y_main (by decide +kernel) (by decide +kernel) x_Tb_good x_Nb_ok ?_
  intro p l e s m below meth c D U Y0 av ls B hI _ hl
  have X := B.1
  have hx := X.1
  have hb := X.2.1
  have hY0 := B.2.2.2.2.1
  obtain ⟨v0, v1, rfl, ⟨a, rfl, -⟩, ⟨b, rfl, hb1, hb2⟩⟩ := x_two B.2.2.2.2.2
  replace hb1 : (1 : Int) ≤ b.toInt := hb1
  replace hb2 : b.toInt ≤ (9223372036854775807 : Int) := hb2
  replace hl : lv_has ls xMdp.2.2.1 [(0, .long a), (2, .long b)] := hl
  refine lv_lload_n hx hb dvX_d0 rfl (lv_at hl 0 rfl) ?_
  refine lv_lconst hx hb dvX_d1 (v := 0) (by decide) ?_
  have el0 : (0 : Int64).toInt = 0 := by decide
  refine W.lcmp hx hb dvX_d2 ?_
  have h_z2 := y_cmp a (0 : Int64)
  generalize hg_z2 : lg_cmp a (0 : Int64) = z2 at h_z2 ⊢
  have ec0 : (0 : Int32).toInt = 0 := by decide
  refine lv_if_ge hx hb dvX_d3 (tgt := 11) (by decide) (fun q3 => ?_) (fun q3 => ?_)
  · have q3_ : (0 : Int32).toInt ≤ z2.toInt := x_le32.mp q3
    refine lv_lload_n hx hb dvX_d11 rfl (lv_at hl 0 rfl) ?_
    refine lv_lstore hx hb dvX_d12 hl (by decide) (lv' := [(4, .long a), (0, .long a), (2, .long b)]) rfl fun ls hl => ?_
    refine lv_lload_n hx hb dvX_d14 rfl (lv_at hl 2 rfl) ?_
    refine lv_lstore hx hb dvX_d15 hl (by decide) (lv' := [(6, .long b), (4, .long a), (0, .long a), (2, .long b)]) rfl fun ls hl => ?_
    have ry := Int64.le_toInt b
    have ry2 := Int64.toInt_lt b
    exact dvX_L17 B rfl 9223372036854775809 _ _ _ _ _ _ hI (lv_sub hl [1, 0, 2, 3] rfl) (by first | assumption | omega) ⟨0, by rw [show m_labs a = a by rw [← m_labs_2]; first | (rw [if_pos (Int64.lt_iff_toInt_lt.mpr (by rw [show (0 : Int64).toInt = 0 by decide]; omega))]; exact hg_z7) | (rw [if_neg (fun q9 => by have h9 := Int64.lt_iff_toInt_lt.mp q9; rw [show (0 : Int64).toInt = 0 by decide] at h9; omega)])]; rfl⟩ (by omega)
  · have q3_ : z2.toInt < (0 : Int32).toInt := Int.not_le.mp fun q => q3 (x_le32.mpr q)
    refine lv_lload_n hx hb dvX_d6 rfl (lv_at hl 0 rfl) ?_
    refine lv_lneg hx hb dvX_d7 ?_
    generalize hg_z7 : -a = z7
    refine lv_goto hx hb dvX_d8 (tgt := 12) (by decide) ?_
    refine lv_lstore hx hb dvX_d12 hl (by decide) (lv' := [(4, .long z7), (0, .long a), (2, .long b)]) rfl fun ls hl => ?_
    refine lv_lload_n hx hb dvX_d14 rfl (lv_at hl 2 rfl) ?_
    refine lv_lstore hx hb dvX_d15 hl (by decide) (lv' := [(6, .long b), (4, .long z7), (0, .long a), (2, .long b)]) rfl fun ls hl => ?_
    have ry := Int64.le_toInt b
    have ry2 := Int64.toInt_lt b
    exact dvX_L17 B rfl 9223372036854775809 _ _ _ _ _ _ hI (lv_sub hl [1, 0, 2, 3] rfl) (by first | assumption | omega) ⟨0, by rw [show m_labs a = z7 by rw [← m_labs_2]; first | (rw [if_pos (Int64.lt_iff_toInt_lt.mpr (by rw [show (0 : Int64).toInt = 0 by decide]; omega))]; exact hg_z7) | (rw [if_neg (fun q9 => by have h9 := Int64.lt_iff_toInt_lt.mp q9; rw [show (0 : Int64).toInt = 0 by decide] at h9; omega)])]; rfl⟩ (by omega)
def z_Ptlf : yP := fun D av _ _ v _ H' => ∀ (this : Nat) (a b : Int64), av = [.ref this, .long a, .long b] → v = some (.int 1) ∧ (1 ≤ b.toInt → 0 ≤ (m_labs a).toInt → z_FM D H' this (a / m_gcd (m_labs a) b) (b / m_gcd (m_labs a) b))
theorem tfX_d0 : decode xM1009.2.1 0 = .ok (.lload_n 1, 1) := dz_ok (by decide +kernel)
theorem tfX_d1 : decode xM1009.2.1 1 = .ok (.lload_n 3, 1) := dz_ok (by decide +kernel)
theorem tfX_d2 : decode xM1009.2.1 2 = .ok (.invokestatic 80, 3) := dz_ok (by decide +kernel)
theorem tfX_d5 : decode xM1009.2.1 5 = .ok (.lstore 5, 2) := dz_ok (by decide +kernel)
theorem tfX_d7 : decode xM1009.2.1 7 = .ok (.aload_n 0, 1) := dz_ok (by decide +kernel)
theorem tfX_d8 : decode xM1009.2.1 8 = .ok (.lload_n 1, 1) := dz_ok (by decide +kernel)
theorem tfX_d9 : decode xM1009.2.1 9 = .ok (.lload 5, 2) := dz_ok (by decide +kernel)
theorem tfX_d11 : decode xM1009.2.1 11 = .ok (.ldiv, 1) := dz_ok (by decide +kernel)
theorem tfX_d12 : decode xM1009.2.1 12 = .ok (.putfield 84, 3) := dz_ok (by decide +kernel)
theorem tfX_d15 : decode xM1009.2.1 15 = .ok (.aload_n 0, 1) := dz_ok (by decide +kernel)
theorem tfX_d16 : decode xM1009.2.1 16 = .ok (.lload_n 3, 1) := dz_ok (by decide +kernel)
theorem tfX_d17 : decode xM1009.2.1 17 = .ok (.lload 5, 2) := dz_ok (by decide +kernel)
theorem tfX_d19 : decode xM1009.2.1 19 = .ok (.ldiv, 1) := dz_ok (by decide +kernel)
theorem tfX_d20 : decode xM1009.2.1 20 = .ok (.putfield 68, 3) := dz_ok (by decide +kernel)
theorem tfX_d23 : decode xM1009.2.1 23 = .ok (.iconst 1, 1) := dz_ok (by decide +kernel)
theorem tfX_d24 : decode xM1009.2.1 24 = .ok (.ireturn, 1) := dz_ok (by decide +kernel)
theorem ym_tellsF : y_Met vwCl x_G x_Zs x_Tb x_Nb xM1009 y_T z_Ptlf := by
  refine y_main (by decide +kernel) (by decide +kernel) x_Tb_good x_Nb_ok ?_
  intro p l e s m below meth c D U Y0 av ls B hI _ hl
  have X := B.1
  have hx := X.1
  have hb := X.2.1
  have hY0 := B.2.2.2.2.1
  obtain ⟨v0, v1, v2, rfl, hv0, ⟨a, rfl, -⟩, ⟨b, rfl, hb1, hb2⟩⟩ := y_three B.2.2.2.2.2
  replace hb1 : (1 : Int) ≤ b.toInt := hb1
  replace hb2 : b.toInt ≤ (9223372036854775807 : Int) := hb2
  obtain ⟨this, t0, rfl, ht0, hY_this⟩ := x_ref_at hv0 rfl
  obtain rfl := List.mem_singleton.mp ht0
  replace hl : lv_has ls xM1009.2.2.1 [(0, .ref this), (1, .long a), (3, .long b)] := hl
  refine lv_lload_n hx hb tfX_d0 rfl (lv_at hl 1 rfl) ?_
  refine lv_lload_n hx hb tfX_d1 rfl (lv_at hl 2 rfl) ?_
  refine y_call (z := (1, 80, 2, none, xMdp)) (av := [.long a, .long b]) (rest := []) (y_cokS (n := 2) X ym_divisorF (x_cons (x_bw73 6 rfl rfl) (x_cons (x_bw73 7 rfl rfl) (x_cons (x_bw0 9 rfl rfl) x_nilm))) (x_bw73 8 rfl rfl) (by decide +kernel) ⟨Nat.le_of_ble_eq_true rfl, Nat.le_of_ble_eq_true rfl⟩) hY0 hI rfl tfX_d2 hl.1 (Nat.le_of_ble_eq_true rfl) (Nat.le_of_ble_eq_true rfl) (Nat.le_of_ble_eq_true rfl) (y_cons ⟨_, rfl, x_i64 _⟩ (y_cons ⟨_, rfl, by show (1 : Int) ≤ _; omega, by show _ ≤ (9223372036854775807 : Int); omega⟩ y_nil)) rfl (y_norecv rfl) trivial (y_sub_ef rfl) fun v Yn o Hn L ho hr ha hIn hx_ hE hP => ?_
  have hPd := hP _ _ rfl
  obtain ⟨r2, hv9, hnz9⟩ := z_dpR ho hr
  subst hv9
  replace hY_this := y_ext hx_ hI.1 hY_this
  clear ho hr ha hE hP hI hx_
  rename x_I _ _ _ _ _ _ _ _ _ _ => hI
  refine lv_lstore hx hb tfX_d5 hl (by decide) (lv' := [(5, .long r2), (0, .ref this), (1, .long a), (3, .long b)]) rfl fun ls hl => ?_
  refine lv_aload_n hx hb tfX_d7 rfl (lv_at hl 1 rfl) ?_
  refine lv_lload_n hx hb tfX_d8 rfl (lv_at hl 2 rfl) ?_
  refine lv_lload hx hb tfX_d9 (lv_at hl 0 rfl) ?_
  refine lv_ldiv hx hb tfX_d11 (by intro q; have := congrArg Int64.toInt q; have z0 : (0 : Int64).toInt = 0 := (by decide); omega) ?_
  generalize hg_z11 : a / r2 = z11
  refine y_putf X (fw210 X.2.2.2.2.1) hY0 hI hY_this rfl rfl ⟨_, rfl, x_i64 _⟩ (by decide +kernel) tfX_d12 fun H sl hI ho hs hk => ?_
  replace hs := hs
  have hs12 := hs
  refine lv_aload_n hx hb tfX_d15 rfl (lv_at hl 1 rfl) ?_
  refine lv_lload_n hx hb tfX_d16 rfl (lv_at hl 3 rfl) ?_
  refine lv_lload hx hb tfX_d17 (lv_at hl 0 rfl) ?_
  refine lv_ldiv hx hb tfX_d19 (by intro q; have := congrArg Int64.toInt q; have z0 : (0 : Int64).toInt = 0 := (by decide); omega) ?_
  generalize hg_z19 : b / r2 = z19
  refine y_putf X (fw209 X.2.2.2.2.1) hY0 hI hY_this rfl rfl ⟨_, rfl, x_i64 _⟩ (by decide +kernel) tfX_d20 fun H sl hI ho hs hk => ?_
  replace hs12 := hk _ _ (by decide +kernel) (by decide) hs12
  replace hs := hs
  have hs20 := hs
  refine lv_iconst hx hb tfX_d23 (v := 1) (by decide) ?_
  have ec1 : (1 : Int32).toInt = 1 := by decide
  exact y_ireturn B hI rfl rfl rfl List.mem_cons_self ⟨_, rfl, ⟨_, rfl, by decide, by decide⟩⟩ (x_cs.mono B.2.2.2.2.2 (y_mon B hI)) (fun t' a' b' h1 => by cases h1; refine ⟨rfl, fun h2 h3 => ?_⟩; have e9 := hPd h2 h3; injection e9 with e9; injection e9 with e9; exact ⟨by rw [← e9, hg_z11]; exact hs12, by rw [← e9, hg_z19]; exact hs20⟩) (Nat.le_refl _) (Nat.le_refl _) tfX_d24
def z_PMch : yP := fun D av _ H v _ H' => ∀ (this bk : Nat) (w h : Int32) (f : Nat → Int32), av = [.ref this, .int w, .int h] → x_sl D 12 0 this H = some (.ref bk) → z_c f → y_A bk 160 H f → ∃ r : Int32, v = some (.int r) ∧ m_3 (m_isS f w ∧ m_isH f h) (m_lwR f w) (¬ m_chsR f (m_thR f w) (f 0).toInt.toNat = 0) r ∧ z_fxM D H H' this r (m_chUR f w h.toInt.toNat) (m_chDR f w)
theorem chX_d0 : decode xMch.2.1 0 = .ok (.aload_n 0, 1) := dz_ok (by decide +kernel)
theorem chX_d1 : decode xMch.2.1 1 = .ok (.iload_n 1, 1) := dz_ok (by decide +kernel)
theorem chX_d2 : decode xMch.2.1 2 = .ok (.invokevirtual 237, 3) := dz_ok (by decide +kernel)
theorem chX_d5 : decode xMch.2.1 5 = .ok (.ifCond .eq 11, 3) := dz_ok (by decide +kernel)
theorem chX_d8 : decode xMch.2.1 8 = .ok (.aload_n 0, 1) := dz_ok (by decide +kernel)
theorem chX_d9 : decode xMch.2.1 9 = .ok (.iload_n 2, 1) := dz_ok (by decide +kernel)
theorem chX_d10 : decode xMch.2.1 10 = .ok (.invokevirtual 151, 3) := dz_ok (by decide +kernel)
theorem chX_d13 : decode xMch.2.1 13 = .ok (.ifCond .ne 8, 3) := dz_ok (by decide +kernel)
theorem chX_d16 : decode xMch.2.1 16 = .ok (.aload_n 0, 1) := dz_ok (by decide +kernel)
theorem chX_d17 : decode xMch.2.1 17 = .ok (.invokevirtual 102, 3) := dz_ok (by decide +kernel)
theorem chX_d20 : decode xMch.2.1 20 = .ok (.ireturn, 1) := dz_ok (by decide +kernel)
theorem chX_d21 : decode xMch.2.1 21 = .ok (.aload_n 0, 1) := dz_ok (by decide +kernel)
theorem chX_d22 : decode xMch.2.1 22 = .ok (.invokevirtual 240, 3) := dz_ok (by decide +kernel)
theorem chX_d25 : decode xMch.2.1 25 = .ok (.aload_n 0, 1) := dz_ok (by decide +kernel)
theorem chX_d26 : decode xMch.2.1 26 = .ok (.iload_n 1, 1) := dz_ok (by decide +kernel)
theorem chX_d27 : decode xMch.2.1 27 = .ok (.invokevirtual 243, 3) := dz_ok (by decide +kernel)
theorem chX_d30 : decode xMch.2.1 30 = .ok (.ifCond .eq 11, 3) := dz_ok (by decide +kernel)
theorem chX_d33 : decode xMch.2.1 33 = .ok (.aload_n 0, 1) := dz_ok (by decide +kernel)
theorem chX_d34 : decode xMch.2.1 34 = .ok (.iload_n 1, 1) := dz_ok (by decide +kernel)
theorem chX_d35 : decode xMch.2.1 35 = .ok (.invokevirtual 279, 3) := dz_ok (by decide +kernel)
theorem chX_d38 : decode xMch.2.1 38 = .ok (.goto 4, 3) := dz_ok (by decide +kernel)
theorem chX_d41 : decode xMch.2.1 41 = .ok (.iconst 0, 1) := dz_ok (by decide +kernel)
theorem chX_d42 : decode xMch.2.1 42 = .ok (.istore_n 3, 1) := dz_ok (by decide +kernel)
theorem chX_d43 : decode xMch.2.1 43 = .ok (.iconst 0, 1) := dz_ok (by decide +kernel)
theorem chX_d44 : decode xMch.2.1 44 = .ok (.istore 4, 2) := dz_ok (by decide +kernel)
theorem chX_d46 : decode xMch.2.1 46 = .ok (.iconst 0, 1) := dz_ok (by decide +kernel)
theorem chX_d47 : decode xMch.2.1 47 = .ok (.istore 5, 2) := dz_ok (by decide +kernel)
theorem chX_d49 : decode xMch.2.1 49 = .ok (.iload 5, 2) := dz_ok (by decide +kernel)
theorem chX_d51 : decode xMch.2.1 51 = .ok (.aload_n 0, 1) := dz_ok (by decide +kernel)
theorem chX_d52 : decode xMch.2.1 52 = .ok (.getfield 7, 3) := dz_ok (by decide +kernel)
theorem chX_d55 : decode xMch.2.1 55 = .ok (.iconst 0, 1) := dz_ok (by decide +kernel)
theorem chX_d56 : decode xMch.2.1 56 = .ok (.iaload, 1) := dz_ok (by decide +kernel)
theorem chX_d57 : decode xMch.2.1 57 = .ok (.if_icmp .ge 28, 3) := dz_ok (by decide +kernel)
theorem chX_d60 : decode xMch.2.1 60 = .ok (.iload 4, 2) := dz_ok (by decide +kernel)
theorem chX_d62 : decode xMch.2.1 62 = .ok (.iload_n 3, 1) := dz_ok (by decide +kernel)
theorem chX_d63 : decode xMch.2.1 63 = .ok (.iload 5, 2) := dz_ok (by decide +kernel)
theorem chX_d65 : decode xMch.2.1 65 = .ok (.ishr, 1) := dz_ok (by decide +kernel)
theorem chX_d66 : decode xMch.2.1 66 = .ok (.iconst 1, 1) := dz_ok (by decide +kernel)
theorem chX_d67 : decode xMch.2.1 67 = .ok (.iand, 1) := dz_ok (by decide +kernel)
theorem chX_d68 : decode xMch.2.1 68 = .ok (.aload_n 0, 1) := dz_ok (by decide +kernel)
theorem chX_d69 : decode xMch.2.1 69 = .ok (.iload 5, 2) := dz_ok (by decide +kernel)
theorem chX_d71 : decode xMch.2.1 71 = .ok (.iconst 4, 1) := dz_ok (by decide +kernel)
theorem chX_d72 : decode xMch.2.1 72 = .ok (.invokevirtual 99, 3) := dz_ok (by decide +kernel)
theorem chX_d75 : decode xMch.2.1 75 = .ok (.imul, 1) := dz_ok (by decide +kernel)
theorem chX_d76 : decode xMch.2.1 76 = .ok (.iadd, 1) := dz_ok (by decide +kernel)
theorem chX_d77 : decode xMch.2.1 77 = .ok (.istore 4, 2) := dz_ok (by decide +kernel)
theorem chX_d79 : decode xMch.2.1 79 = .ok (.iinc 5 1, 3) := dz_ok (by decide +kernel)
theorem chX_d82 : decode xMch.2.1 82 = .ok (.goto (-33), 3) := dz_ok (by decide +kernel)
theorem chX_d85 : decode xMch.2.1 85 = .ok (.iload 4, 2) := dz_ok (by decide +kernel)
theorem chX_d87 : decode xMch.2.1 87 = .ok (.ifCond .ne 10, 3) := dz_ok (by decide +kernel)
theorem chX_d90 : decode xMch.2.1 90 = .ok (.aload_n 0, 1) := dz_ok (by decide +kernel)
theorem chX_d91 : decode xMch.2.1 91 = .ok (.invokevirtual 126, 3) := dz_ok (by decide +kernel)
theorem chX_d94 : decode xMch.2.1 94 = .ok (.goto 23, 3) := dz_ok (by decide +kernel)
theorem chX_d97 : decode xMch.2.1 97 = .ok (.aload_n 0, 1) := dz_ok (by decide +kernel)
theorem chX_d98 : decode xMch.2.1 98 = .ok (.iload_n 3, 1) := dz_ok (by decide +kernel)
theorem chX_d99 : decode xMch.2.1 99 = .ok (.iload_n 2, 1) := dz_ok (by decide +kernel)
theorem chX_d100 : decode xMch.2.1 100 = .ok (.ishr, 1) := dz_ok (by decide +kernel)
theorem chX_d101 : decode xMch.2.1 101 = .ok (.iconst 1, 1) := dz_ok (by decide +kernel)
theorem chX_d102 : decode xMch.2.1 102 = .ok (.iand, 1) := dz_ok (by decide +kernel)
theorem chX_d103 : decode xMch.2.1 103 = .ok (.aload_n 0, 1) := dz_ok (by decide +kernel)
theorem chX_d104 : decode xMch.2.1 104 = .ok (.iload_n 2, 1) := dz_ok (by decide +kernel)
theorem chX_d105 : decode xMch.2.1 105 = .ok (.iconst 4, 1) := dz_ok (by decide +kernel)
theorem chX_d106 : decode xMch.2.1 106 = .ok (.invokevirtual 99, 3) := dz_ok (by decide +kernel)
theorem chX_d109 : decode xMch.2.1 109 = .ok (.imul, 1) := dz_ok (by decide +kernel)
theorem chX_d110 : decode xMch.2.1 110 = .ok (.i2l, 1) := dz_ok (by decide +kernel)
theorem chX_d111 : decode xMch.2.1 111 = .ok (.iload 4, 2) := dz_ok (by decide +kernel)
theorem chX_d113 : decode xMch.2.1 113 = .ok (.i2l, 1) := dz_ok (by decide +kernel)
theorem chX_d114 : decode xMch.2.1 114 = .ok (.invokevirtual 154, 3) := dz_ok (by decide +kernel)
theorem chX_d117 : decode xMch.2.1 117 = .ok (.ireturn, 1) := dz_ok (by decide +kernel)
theorem chX_L49 {p : Program} {l : Launch} {e : Env} {s : State} {m : MethodId} {below : List Frame} {meth : Method} {c : Code} {D : va_G} {U : State} {Y0 : xY} {av : List Value} (B : y_B vwCl x_Tb x_Nb xMch p s m meth c D U Y0 av) {this bk : Nat} {w h : Int32} {fb : Nat → Int32} {ga gb : Int64} (hav : av = [.ref this, .int w, .int h]) (hs0 : x_sl D 12 0 this s.heap = some (.ref bk)) (hA0 : y_A bk 160 s.heap fb) (hcn : z_c fb) (hd0 : 0 ≤ (fb 0).toInt ∧ (fb 0).toInt ≤ 10) (hfa0 : x_sl D 12 6 this s.heap = some (.long ga)) (hfb0 : x_sl D 12 7 this s.heap = some (.long gb)) (hok : m_isS fb w ∧ m_isH fb h) {th : Int32} (hth : th = m_thR fb w) :
    ∀ (n : Nat), ∀ (H : Heap) (Y : xY) (locs : List Loc) (ls : Array Slot) (j : Int32) (al : Int32), x_I D x_G x_Zs U (x_efs xMch) Y0 s.heap Y H locs → Y this = some 17 → Y bk = some 46 → x_sl D 12 0 this H = some (.ref bk) → y_A bk 160 H fb → x_sl D 12 6 this H = some (.long ga) → x_sl D 12 7 this H = some (.long gb) → lv_has ls xMch.2.2.1 [(5, .int j), (4, .int al), (3, .int th), (0, .ref this), (1, .int w), (2, .int h)] → (0 ≤ j.toInt ∧ j.toInt ≤ (fb 0).toInt) → (al = m_chsR fb th j.toInt.toNat) → (11 - j.toInt).toNat < n → W p l e (x_rm xMch) s m av.toArray below meth c H locs 0 0 (y_QQ below D x_G x_Zs U xMch z_PMch av Y0 s) (F0 m 49 ls []) := by
  have X := B.1
  have hx := X.1
  have hb := X.2.1
  have hY0 := B.2.2.2.2.1
  intro n
  induction n with
  | zero => intro _ _ _ _ _ _ _ _ _ _ _ _ _ _ _ _ h; exact absurd h (Nat.not_lt_zero _)
  | succ n ih =>
    intro H Y locs ls j al  hI hY_this hY_bk hs_bk hA_bk hs_fa hs_fb hl hj hal hn
    have hh9 := hok.2
    unfold m_isH at hh9
    refine lv_iload hx hb chX_d49 (lv_at hl 0 rfl) ?_
    refine lv_aload_n hx hb chX_d51 rfl (lv_at hl 3 rfl) ?_
    refine y_getf X (fl190 X.2.2.2.2.1) hI.1 hY_this rfl hs_bk chX_d52 ?_
    refine lv_iconst hx hb chX_d55 (v := 0) (by decide) ?_
    have ec0 : (0 : Int32).toInt = 0 := by decide
    refine y_iald X hI.1 hY_bk rfl hA_bk (by omega) (by show _ < (160 : Int); omega) chX_d56 ?_
    obtain ⟨e56, hg_e56⟩ : ∃ e56 : Int32, fb (0 : Int32).toInt.toNat = e56 := ⟨_, rfl⟩
    rw [hg_e56]
    rw [z_i0] at hg_e56
    have h_e56 : e56.toInt = (fb 0).toInt := by rw [hg_e56]
    refine lv_icmp_ge hx hb chX_d57 (tgt := 85) (by decide) (fun q57 => ?_) (fun q57 => ?_)
    · have q57_ : e56.toInt ≤ j.toInt := x_le32.mp q57
      refine lv_iload hx hb chX_d85 (lv_at hl 1 rfl) ?_
      refine lv_if_ne hx hb chX_d87 (tgt := 97) (by decide) (fun q87 => ?_) (fun q87 => ?_)
      · have q87_ : ¬ al.toInt = (0 : Int32).toInt := fun q => q87 (Int32.toInt_inj.mp q)
        have hk9 : j.toInt.toNat = (fb 0).toInt.toNat := by omega
        have hs9 : m_chsR fb (m_thR fb w) (fb 0).toInt.toNat = al := by rw [← hth, ← hk9]; exact hal.symm
        have hnz : ¬ al = 0 := by assumption
        have hlw9 : m_lwR fb w = true := by cases hX : m_lwR fb w with | true => rfl | false => exact absurd (hs9.symm.trans (by unfold m_thR; rw [hX, if_neg (fun q9 => by cases q9)]; exact m_chsR_0 _ (by omega))) hnz
        have rs := x_rng al
        have hDR : (m_chDR fb w).toInt = al.toInt := by unfold m_chDR; rw [hs9]; exact Int32.toInt_toInt64 _
        rcases (show 1 ≤ al.toInt ∨ al.toInt ≤ -1 by omega) with hc | hc
        · refine lv_aload_n hx hb chX_d97 rfl (lv_at hl 3 rfl) ?_
          refine lv_iload_n hx hb chX_d98 rfl (lv_at hl 2 rfl) ?_
          refine lv_iload_n hx hb chX_d99 rfl (lv_at hl 5 rfl) ?_
          refine lv_ishr hx hb chX_d100 ?_
          generalize hg_z100 : th >>> (h &&& 31) = z100
          refine lv_iconst hx hb chX_d101 (v := 1) (by decide) ?_
          have ec1 : (1 : Int32).toInt = 1 := by decide
          refine lv_iand hx hb chX_d102 ?_
          generalize hg_z102 : z100 &&& (1 : Int32) = z102
          refine lv_aload_n hx hb chX_d103 rfl (lv_at hl 3 rfl) ?_
          refine lv_iload_n hx hb chX_d104 rfl (lv_at hl 5 rfl) ?_
          refine lv_iconst hx hb chX_d105 (v := 4) (by decide) ?_
          have ec4 : (4 : Int32).toInt = 4 := by decide
          refine y_call (z := (0, 99, 3, some 17, xM145)) (av := [.ref this, .int h, .int (4 : Int32)]) (rest := [.int z102, .ref this]) (y_cokV (n := 2) (ci := 12) X ym_ofHill rfl rfl rfl (x_cons (x_bw67 15 rfl rfl) (x_cons (x_bw68 1 rfl rfl) (x_cons (x_at 31 (by decide +kernel) rfl) (x_cons (x_bw0 9 rfl rfl) x_nilm)))) (x_bw68 2 rfl rfl) (by decide +kernel) ⟨Nat.le_of_ble_eq_true rfl, Nat.le_of_ble_eq_true rfl⟩) hY0 hI rfl chX_d106 hl.1 (Nat.le_of_ble_eq_true rfl) (Nat.le_of_ble_eq_true rfl) (Nat.le_of_ble_eq_true rfl) (y_cons (y_cref hY_this rfl) (y_cons ⟨_, rfl, by show (0 : Int) ≤ _; omega, by show _ ≤ (9 : Int); omega⟩ (y_cons ⟨_, rfl, by show (0 : Int) ≤ _; omega, by show _ ≤ (4 : Int); omega⟩ y_nil))) rfl (y_recv rfl hY_this) trivial (y_sub_ef rfl) fun v Yn o Hn L ho hr ha hIn hx_ hE hP => ?_
          have hPo := hP _ _ _ _ _ rfl hs_bk hA_bk
          replace hs_bk := y_Efld hE hY_this rfl (by decide) (by decide) hs_bk
          replace hs_fa := y_Efld hE hY_this rfl (by decide) (by decide) hs_fa
          replace hs_fb := y_Efld hE hY_this rfl (by decide) (by decide) hs_fb
          replace hA_bk := hA_bk.kept (y_Earr hE hY_bk rfl (by decide))
          replace hY_this := y_ext hx_ hI.1 hY_this
          replace hY_bk := y_ext hx_ hI.1 hY_bk
          obtain ⟨r106, hg_r106⟩ : ∃ r106 : Int32, fb (10 + 5 * (h).toInt.toNat + ((4 : Int32)).toInt.toNat) = r106 := ⟨_, rfl⟩
          rw [hg_r106] at hPo
          obtain rfl := hPo
          clear ho hr ha hE hP hI hx_
          rename x_I _ _ _ _ _ _ _ _ _ _ => hI
          replace hg_r106 : fb (14 + 5 * h.toInt.toNat) = r106 := by rw [← hg_r106]; exact congrArg _ (by rw [show (4 : Int32).toInt.toNat = 4 by decide]; omega)
          refine lv_imul hx hb chX_d109 ?_
          generalize hg_z109 : z102 * r106 = z109
          obtain ⟨z110, hg_z110⟩ : ∃ z110 : Int64, z109.toInt64 = z110 := ⟨_, rfl⟩
          have h_z110 : z110.toInt = (z109).toInt := by rw [← hg_z110]; exact Int32.toInt_toInt64 _
          refine lv_i2l hx hb chX_d110 (v := z110) hg_z110 ?_
          refine lv_iload hx hb chX_d111 (lv_at hl 1 rfl) ?_
          obtain ⟨z113, hg_z113⟩ : ∃ z113 : Int64, al.toInt64 = z113 := ⟨_, rfl⟩
          have h_z113 : z113.toInt = (al).toInt := by rw [← hg_z113]; exact Int32.toInt_toInt64 _
          refine lv_i2l hx hb chX_d113 (v := z113) hg_z113 ?_
          have hU9 : m_chUR fb w h.toInt.toNat = z110 := by unfold m_chUR; rw [← hth, m_nj hh9.1, hg_z100, hg_z102, hg_r106, hg_z109]; exact hg_z110
          have hD9 : m_chDR fb w = z113 := by unfold m_chDR; rw [hs9]; exact hg_z113
          refine y_call (z := (0, 154, 3, some 17, xM1009)) (av := [.ref this, .long z110, .long z113]) (rest := []) (y_cokV (n := 2) (ci := 12) X ym_tellsF rfl rfl rfl (x_cons (x_bw73 2 rfl rfl) (x_cons (x_bw73 4 rfl rfl) (x_cons (x_at 43 (by decide +kernel) rfl) (x_cons (x_bw0 9 rfl rfl) x_nilm)))) (x_bw73 5 rfl rfl) (by decide +kernel) ⟨Nat.le_of_ble_eq_true rfl, Nat.le_of_ble_eq_true rfl⟩) hY0 hI rfl chX_d114 hl.1 (Nat.le_of_ble_eq_true rfl) (Nat.le_of_ble_eq_true rfl) (Nat.le_of_ble_eq_true rfl) (y_cons (y_cref hY_this rfl) (y_cons ⟨_, rfl, x_i64 _⟩ (y_cons ⟨_, rfl, by show (1 : Int) ≤ _; omega, by show _ ≤ (9223372036854775807 : Int); omega⟩ y_nil))) rfl (y_recv rfl hY_this) trivial (y_sub_ef rfl) fun v Yn o Hn L ho hr ha hIn hx_ hE hP => ?_
          obtain ⟨hv9, hPf⟩ := hP _ _ _ rfl
          subst hv9
          replace hs_bk := y_Efld hE hY_this rfl (by decide) (by decide) hs_bk
          replace hA_bk := hA_bk.kept (y_Earr hE hY_bk rfl (by decide))
          replace hY_this := y_ext hx_ hI.1 hY_this
          replace hY_bk := y_ext hx_ hI.1 hY_bk
          clear ho hr ha hE hP hI hx_
          rename x_I _ _ _ _ _ _ _ _ _ _ => hI
          rw [← hU9, ← hD9] at hPf
          subst hav
          exact y_ireturn B hI rfl rfl rfl List.mem_cons_self ⟨_, rfl, ⟨_, rfl, x_i32 _⟩⟩ (x_cs.mono B.2.2.2.2.2 (y_mon B hI)) (fun t' b' w0' w1' f' h1 h2 h3 h4 => by cases h1; cases h2.symm.trans hs0; cases z_uniq h4 hA0 h3 hcn; exact ⟨_, rfl, ⟨fun _ _ _ => rfl, fun _ _ q9 => absurd (fun q8 => hnz (hs9.symm.trans q8)) q9, fun _ q9 => absurd hlw9 (by rw [q9]; decide), fun q9 => absurd hok q9⟩, ⟨fun q9 => absurd rfl q9, fun _ => hPf⟩⟩) (Nat.le_refl _) (Nat.le_refl _) chX_d117
        · refine lv_aload_n hx hb chX_d97 rfl (lv_at hl 3 rfl) ?_
          refine lv_iload_n hx hb chX_d98 rfl (lv_at hl 2 rfl) ?_
          refine lv_iload_n hx hb chX_d99 rfl (lv_at hl 5 rfl) ?_
          refine lv_ishr hx hb chX_d100 ?_
          generalize hg_z100 : th >>> (h &&& 31) = z100
          refine lv_iconst hx hb chX_d101 (v := 1) (by decide) ?_
          have ec1 : (1 : Int32).toInt = 1 := by decide
          refine lv_iand hx hb chX_d102 ?_
          generalize hg_z102 : z100 &&& (1 : Int32) = z102
          refine lv_aload_n hx hb chX_d103 rfl (lv_at hl 3 rfl) ?_
          refine lv_iload_n hx hb chX_d104 rfl (lv_at hl 5 rfl) ?_
          refine lv_iconst hx hb chX_d105 (v := 4) (by decide) ?_
          have ec4 : (4 : Int32).toInt = 4 := by decide
          refine y_call (z := (0, 99, 3, some 17, xM145)) (av := [.ref this, .int h, .int (4 : Int32)]) (rest := [.int z102, .ref this]) (y_cokV (n := 2) (ci := 12) X ym_ofHill rfl rfl rfl (x_cons (x_bw67 15 rfl rfl) (x_cons (x_bw68 1 rfl rfl) (x_cons (x_at 31 (by decide +kernel) rfl) (x_cons (x_bw0 9 rfl rfl) x_nilm)))) (x_bw68 2 rfl rfl) (by decide +kernel) ⟨Nat.le_of_ble_eq_true rfl, Nat.le_of_ble_eq_true rfl⟩) hY0 hI rfl chX_d106 hl.1 (Nat.le_of_ble_eq_true rfl) (Nat.le_of_ble_eq_true rfl) (Nat.le_of_ble_eq_true rfl) (y_cons (y_cref hY_this rfl) (y_cons ⟨_, rfl, by show (0 : Int) ≤ _; omega, by show _ ≤ (9 : Int); omega⟩ (y_cons ⟨_, rfl, by show (0 : Int) ≤ _; omega, by show _ ≤ (4 : Int); omega⟩ y_nil))) rfl (y_recv rfl hY_this) trivial (y_sub_ef rfl) fun v Yn o Hn L ho hr ha hIn hx_ hE hP => ?_
          have hPo := hP _ _ _ _ _ rfl hs_bk hA_bk
          replace hs_bk := y_Efld hE hY_this rfl (by decide) (by decide) hs_bk
          replace hs_fa := y_Efld hE hY_this rfl (by decide) (by decide) hs_fa
          replace hs_fb := y_Efld hE hY_this rfl (by decide) (by decide) hs_fb
          replace hA_bk := hA_bk.kept (y_Earr hE hY_bk rfl (by decide))
          replace hY_this := y_ext hx_ hI.1 hY_this
          replace hY_bk := y_ext hx_ hI.1 hY_bk
          obtain ⟨r106, hg_r106⟩ : ∃ r106 : Int32, fb (10 + 5 * (h).toInt.toNat + ((4 : Int32)).toInt.toNat) = r106 := ⟨_, rfl⟩
          rw [hg_r106] at hPo
          obtain rfl := hPo
          clear ho hr ha hE hP hI hx_
          rename x_I _ _ _ _ _ _ _ _ _ _ => hI
          replace hg_r106 : fb (14 + 5 * h.toInt.toNat) = r106 := by rw [← hg_r106]; exact congrArg _ (by rw [show (4 : Int32).toInt.toNat = 4 by decide]; omega)
          refine lv_imul hx hb chX_d109 ?_
          generalize hg_z109 : z102 * r106 = z109
          obtain ⟨z110, hg_z110⟩ : ∃ z110 : Int64, z109.toInt64 = z110 := ⟨_, rfl⟩
          have h_z110 : z110.toInt = (z109).toInt := by rw [← hg_z110]; exact Int32.toInt_toInt64 _
          refine lv_i2l hx hb chX_d110 (v := z110) hg_z110 ?_
          refine lv_iload hx hb chX_d111 (lv_at hl 1 rfl) ?_
          obtain ⟨z113, hg_z113⟩ : ∃ z113 : Int64, al.toInt64 = z113 := ⟨_, rfl⟩
          have h_z113 : z113.toInt = (al).toInt := by rw [← hg_z113]; exact Int32.toInt_toInt64 _
          refine lv_i2l hx hb chX_d113 (v := z113) hg_z113 ?_
          have hU9 : m_chUR fb w h.toInt.toNat = z110 := by unfold m_chUR; rw [← hth, m_nj hh9.1, hg_z100, hg_z102, hg_r106, hg_z109]; exact hg_z110
          have hD9 : m_chDR fb w = z113 := by unfold m_chDR; rw [hs9]; exact hg_z113
          refine y_call (z := (0, 154, 3, some 17, xM1015)) (av := [.ref this, .long z110, .long z113]) (rest := []) (y_cok.of (x_cokV (n := 2) (ci := 12) X xm1015 rfl rfl rfl (x_cons (x_bw73 2 rfl rfl) (x_cons (x_bw73 4 rfl rfl) (x_cons (x_at 43 (by decide +kernel) rfl) (x_cons (x_bw0 9 rfl rfl) x_nilm)))) (x_bw73 5 rfl rfl) (by decide +kernel) ⟨Nat.le_of_ble_eq_true rfl, Nat.le_of_ble_eq_true rfl⟩)) hY0 hI rfl chX_d114 hl.1 (Nat.le_of_ble_eq_true rfl) (Nat.le_of_ble_eq_true rfl) (Nat.le_of_ble_eq_true rfl) (y_cons (y_cref hY_this rfl) (y_cons ⟨_, rfl, x_i64 _⟩ (y_cons ⟨_, rfl, by show ((-9223372036854775808) : Int) ≤ _; omega, by show _ ≤ ((-1) : Int); omega⟩ y_nil))) rfl (y_recv rfl hY_this) trivial (y_sub_ef rfl) fun v Yn o Hn L ho hr ha hIn hx_ hE hP => ?_
          replace hs_bk := y_Efld hE hY_this rfl (by decide) (by decide) hs_bk
          replace hA_bk := hA_bk.kept (y_Earr hE hY_bk rfl (by decide))
          replace hY_this := y_ext hx_ hI.1 hY_this
          replace hY_bk := y_ext hx_ hI.1 hY_bk
          obtain ⟨r114, rfl, h_r114⟩ := y_ansI (lo := 1) (hi := 1) (by decide) ho hr
          clear ho hr ha hE hP hI hx_
          rename x_I _ _ _ _ _ _ _ _ _ _ => hI
          subst hav
          exact y_ireturn B hI rfl rfl rfl List.mem_cons_self ⟨_, rfl, ⟨_, rfl, x_i32 _⟩⟩ (x_cs.mono B.2.2.2.2.2 (y_mon B hI)) (fun t' b' w0' w1' f' h1 h2 h3 h4 => by cases h1; cases h2.symm.trans hs0; cases z_uniq h4 hA0 h3 hcn; exact ⟨_, rfl, ⟨fun _ _ _ => (Int32.toInt_inj.mp (show _ = (1 : Int32).toInt by rw [m_c1]; omega)), fun _ _ q9 => absurd (fun q8 => hnz (hs9.symm.trans q8)) q9, fun _ q9 => absurd hlw9 (by rw [q9]; decide), fun q9 => absurd hok q9⟩, ⟨fun q9 => absurd (Int32.toInt_inj.mp (show _ = (1 : Int32).toInt by rw [m_c1]; omega)) q9, fun _ q9 => by exfalso; omega⟩⟩) (Nat.le_refl _) (Nat.le_refl _) chX_d117
      · have q87_ : al.toInt = (0 : Int32).toInt := by rw [q87]
        refine lv_aload_n hx hb chX_d90 rfl (lv_at hl 3 rfl) ?_
        refine y_call (z := (0, 126, 1, some 17, xM164)) (av := [.ref this]) (rest := []) (y_cokV (n := 0) (ci := 12) X ym_no rfl rfl rfl (x_cons (x_bw70 11 rfl rfl) (x_cons (x_bw70 13 rfl rfl) (x_cons (x_at 38 (by decide +kernel) rfl) (x_cons (x_bw0 9 rfl rfl) x_nilm)))) (x_bw70 14 rfl rfl) (by decide +kernel) ⟨Nat.le_of_ble_eq_true rfl, Nat.le_of_ble_eq_true rfl⟩) hY0 hI rfl chX_d91 hl.1 (Nat.le_of_ble_eq_true rfl) (Nat.le_of_ble_eq_true rfl) (Nat.le_of_ble_eq_true rfl) (y_cons (y_cref hY_this rfl) y_nil) rfl (y_recv rfl hY_this) trivial (y_sub_ef rfl) fun v Yn o Hn L ho hr ha hIn hx_ hE hP => ?_
        replace hs_bk := y_Efld hE hY_this rfl (by decide) (by decide) hs_bk
        replace hs_fa := y_Efld hE hY_this rfl (by decide) (by decide) hs_fa
        replace hs_fb := y_Efld hE hY_this rfl (by decide) (by decide) hs_fb
        replace hA_bk := hA_bk.kept (y_Earr hE hY_bk rfl (by decide))
        replace hY_this := y_ext hx_ hI.1 hY_this
        replace hY_bk := y_ext hx_ hI.1 hY_bk
        have hPb := hP
        obtain rfl := hPb
        clear ho hr ha hE hP hI hx_
        rename x_I _ _ _ _ _ _ _ _ _ _ => hI
        refine lv_goto hx hb chX_d94 (tgt := 117) (by decide) ?_
        have hk9 : j.toInt.toNat = (fb 0).toInt.toNat := by omega
        have hs9 : m_chsR fb (m_thR fb w) (fb 0).toInt.toNat = al := by rw [← hth, ← hk9]; exact hal.symm
        subst hav
        exact y_ireturn B hI rfl rfl rfl List.mem_cons_self ⟨_, rfl, ⟨_, rfl, x_i32 _⟩⟩ (x_cs.mono B.2.2.2.2.2 (y_mon B hI)) (fun t' b' w0' w1' f' h1 h2 h3 h4 => by cases h1; cases h2.symm.trans hs0; cases z_uniq h4 hA0 h3 hcn; exact ⟨_, rfl, ⟨fun _ _ q9 => absurd (hs9.trans (by assumption)) q9, fun _ _ _ => rfl, fun _ _ => rfl, fun q9 => absurd hok q9⟩, ⟨fun _ a9 b9 h9 => by cases hfa0.symm.trans h9.1; cases hfb0.symm.trans h9.2; exact ⟨hs_fa, hs_fb⟩, fun q9 => absurd q9 (by decide)⟩⟩) (Nat.le_refl _) (Nat.le_refl _) chX_d117
    · have q57_ : j.toInt < e56.toInt := Int.not_le.mp fun q => q57 (x_le32.mpr q)
      refine lv_iload hx hb chX_d60 (lv_at hl 1 rfl) ?_
      refine lv_iload_n hx hb chX_d62 rfl (lv_at hl 2 rfl) ?_
      refine lv_iload hx hb chX_d63 (lv_at hl 0 rfl) ?_
      refine lv_ishr hx hb chX_d65 ?_
      generalize hg_z65 : th >>> (j &&& 31) = z65
      refine lv_iconst hx hb chX_d66 (v := 1) (by decide) ?_
      have ec1 : (1 : Int32).toInt = 1 := by decide
      refine lv_iand hx hb chX_d67 ?_
      generalize hg_z67 : z65 &&& (1 : Int32) = z67
      refine lv_aload_n hx hb chX_d68 rfl (lv_at hl 3 rfl) ?_
      refine lv_iload hx hb chX_d69 (lv_at hl 0 rfl) ?_
      refine lv_iconst hx hb chX_d71 (v := 4) (by decide) ?_
      have ec4 : (4 : Int32).toInt = 4 := by decide
      refine y_call (z := (0, 99, 3, some 17, xM145)) (av := [.ref this, .int j, .int (4 : Int32)]) (rest := [.int z67, .int al]) (y_cokV (n := 2) (ci := 12) X ym_ofHill rfl rfl rfl (x_cons (x_bw67 15 rfl rfl) (x_cons (x_bw68 1 rfl rfl) (x_cons (x_at 31 (by decide +kernel) rfl) (x_cons (x_bw0 9 rfl rfl) x_nilm)))) (x_bw68 2 rfl rfl) (by decide +kernel) ⟨Nat.le_of_ble_eq_true rfl, Nat.le_of_ble_eq_true rfl⟩) hY0 hI rfl chX_d72 hl.1 (Nat.le_of_ble_eq_true rfl) (Nat.le_of_ble_eq_true rfl) (Nat.le_of_ble_eq_true rfl) (y_cons (y_cref hY_this rfl) (y_cons ⟨_, rfl, by show (0 : Int) ≤ _; omega, by show _ ≤ (9 : Int); omega⟩ (y_cons ⟨_, rfl, by show (0 : Int) ≤ _; omega, by show _ ≤ (4 : Int); omega⟩ y_nil))) rfl (y_recv rfl hY_this) trivial (y_sub_ef rfl) fun v Yn o Hn L ho hr ha hIn hx_ hE hP => ?_
      have hPo := hP _ _ _ _ _ rfl hs_bk hA_bk
      replace hs_bk := y_Efld hE hY_this rfl (by decide) (by decide) hs_bk
      replace hs_fa := y_Efld hE hY_this rfl (by decide) (by decide) hs_fa
      replace hs_fb := y_Efld hE hY_this rfl (by decide) (by decide) hs_fb
      replace hA_bk := hA_bk.kept (y_Earr hE hY_bk rfl (by decide))
      replace hY_this := y_ext hx_ hI.1 hY_this
      replace hY_bk := y_ext hx_ hI.1 hY_bk
      obtain ⟨r72, hg_r72⟩ : ∃ r72 : Int32, fb (10 + 5 * (j).toInt.toNat + ((4 : Int32)).toInt.toNat) = r72 := ⟨_, rfl⟩
      rw [hg_r72] at hPo
      obtain rfl := hPo
      clear ho hr ha hE hP hI hx_
      rename x_I _ _ _ _ _ _ _ _ _ _ => hI
      replace hg_r72 : fb (14 + 5 * j.toInt.toNat) = r72 := by rw [← hg_r72]; exact congrArg _ (by rw [show (4 : Int32).toInt.toNat = 4 by decide]; omega)
      refine lv_imul hx hb chX_d75 ?_
      generalize hg_z75 : z67 * r72 = z75
      refine lv_iadd hx hb chX_d76 ?_
      generalize hg_z76 : al + z75 = z76
      refine lv_istore hx hb chX_d77 hl (by decide) (lv' := [(4, .int z76), (5, .int j), (3, .int th), (0, .ref this), (1, .int w), (2, .int h)]) rfl fun ls hl => ?_
      obtain ⟨z79, hg_z79⟩ : ∃ z79 : Int32, j + Int32.ofInt 1 = z79 := ⟨_, rfl⟩
      have h_z79 : z79.toInt = j.toInt + 1 := by rw [← hg_z79]; exact y_inc (by decide) (by omega) (by omega)
      refine lv_iinc hx hb chX_d79 hl (k := 1) rfl hg_z79 (by decide) (lv' := [(5, .int z79), (4, .int z76), (3, .int th), (0, .ref this), (1, .int w), (2, .int h)]) rfl fun ls hl => ?_
      refine lv_goto hx hb chX_d82 (tgt := 49) (by decide) ?_
      have his : z79.toInt.toNat = j.toInt.toNat + 1 := by omega
      have hnj := m_nj hj.1
      exact ih _ _ _ _ _ _ hI hY_this hY_bk hs_bk hA_bk hs_fa hs_fb (lv_sub hl [0, 1, 2, 3, 4, 5] rfl) (by first | assumption | omega) (by rw [his]; show _ = _ + _ * _; rw [hnj, ← hal, hg_r72, hg_z65, hg_z67, hg_z75]; exact hg_z76.symm) (by omega)
theorem ym_chanceM : y_Met vwCl x_G x_Zs x_Tb x_Nb xMch y_T z_PMch := by
  refine y_main (by decide +kernel) (by decide +kernel) x_Tb_good x_Nb_ok ?_
  intro p l e s m below meth c D U Y0 av ls B hI _ hl
  have X := B.1
  have hx := X.1
  have hb := X.2.1
  have hY0 := B.2.2.2.2.1
  obtain ⟨v0, v1, v2, rfl, hv0, ⟨w, rfl, -⟩, ⟨h, rfl, -⟩⟩ := y_three B.2.2.2.2.2
  obtain ⟨this, t0, rfl, ht0, hY_this⟩ := x_ref_at hv0 rfl
  obtain rfl := List.mem_singleton.mp ht0
  replace hl : lv_has ls xMch.2.2.1 [(0, .ref this), (1, .int w), (2, .int h)] := hl
  obtain ⟨bk, hs_bk, hY_bk⟩ := y_fldR (k := 0) hI.1 hY_this rfl rfl
  obtain ⟨fb9, hA9, hB9⟩ := y_arr hI.1 hY_bk rfl rfl
  obtain ⟨fb, hcn, hA_bk, hB_bk⟩ := z_canon (Y := Y0) (P := fun j v => x_c Y0 ([xI 0 10, xI 0 8, xI 0 8].getD j xF) (.int v)) hA9 hB9
  clear hA9 hB9 fb9
  have hs0 := hs_bk
  have hA0 := hA_bk
  have hd := z_hdr hB_bk
  have hd0 := hd.1
  have hd1 := hd.2.1
  obtain ⟨se, hs_se, hY_se⟩ := y_fldR (k := 8) hI.1 hY_this rfl rfl
  obtain ⟨ga, hs_fa⟩ := y_fldL (k := 6) hI.1 hY_this rfl rfl
  obtain ⟨gb, hs_fb⟩ := y_fldL (k := 7) hI.1 hY_this rfl rfl
  have hfa0 := hs_fa
  have hfb0 := hs_fb
  refine lv_aload_n hx hb chX_d0 rfl (lv_at hl 0 rfl) ?_
  refine lv_iload_n hx hb chX_d1 rfl (lv_at hl 1 rfl) ?_
  refine y_call (z := (0, 237, 2, some 17, xM184)) (av := [.ref this, .int w]) (rest := []) (y_cokV (n := 1) (ci := 12) X ym_isSet rfl rfl rfl (x_cons (x_bw77 0 rfl rfl) (x_cons (x_bw77 2 rfl rfl) (x_cons (x_at 48 (by decide +kernel) rfl) (x_cons (x_bw0 9 rfl rfl) x_nilm)))) (x_bw77 3 rfl rfl) (by decide +kernel) ⟨Nat.le_of_ble_eq_true rfl, Nat.le_of_ble_eq_true rfl⟩) hY0 hI rfl chX_d2 hl.1 (Nat.le_of_ble_eq_true rfl) (Nat.le_of_ble_eq_true rfl) (Nat.le_of_ble_eq_true rfl) (y_cons (y_cref hY_this rfl) (y_cons ⟨_, rfl, x_i32 _⟩ y_nil)) rfl (y_recv rfl hY_this) trivial (y_sub_ef rfl) fun v Yn o Hn L ho hr ha hIn hx_ hE hP => ?_
  have hPv := hP _ _ _ _ rfl hs_bk (hA_bk 0 (by decide))
  replace hs_bk := y_Efld hE hY_this rfl (by decide) (by decide) hs_bk
  replace hs_se := y_Efld hE hY_this rfl (by decide) (by decide) hs_se
  replace hs_fa := y_Efld hE hY_this rfl (by decide) (by decide) hs_fa
  replace hs_fb := y_Efld hE hY_this rfl (by decide) (by decide) hs_fb
  replace hA_bk := hA_bk.kept (y_Earr hE hY_bk rfl (by decide))
  replace hY_this := y_ext hx_ hI.1 hY_this
  replace hY_bk := y_ext hx_ hI.1 hY_bk
  replace hY_se := y_ext hx_ hI.1 hY_se
  obtain ⟨r2, rfl, hin_r2, hout_r2⟩ := hPv
  clear ho hr ha hE hP hI hx_
  rename x_I _ _ _ _ _ _ _ _ _ _ => hI
  have ec0 : (0 : Int32).toInt = 0 := by decide
  refine lv_if_eq hx hb chX_d5 (tgt := 16) (by decide) (fun q5 => ?_) (fun q5 => ?_)
  · have q5_ : r2.toInt = (0 : Int32).toInt := by rw [q5]
    have hno : ¬ (m_isS fb w ∧ m_isH fb h) := fun q9 => by first | (have h8 := hout_r2 (by assumption); have h7 := q9.1; unfold m_isS at h7; omega) | exact hout_r10 (by assumption) q9.2
    refine lv_aload_n hx hb chX_d16 rfl (lv_at hl 0 rfl) ?_
    refine y_call (z := (0, 102, 1, some 17, xM143)) (av := [.ref this]) (rest := []) (y_cokV (n := 0) (ci := 12) X ym_bad rfl rfl rfl (x_cons (x_bw68 3 rfl rfl) (x_cons (x_bw68 5 rfl rfl) (x_cons (x_at 32 (by decide +kernel) rfl) (x_cons (x_bw0 9 rfl rfl) x_nilm)))) (x_bw68 6 rfl rfl) (by decide +kernel) ⟨Nat.le_of_ble_eq_true rfl, Nat.le_of_ble_eq_true rfl⟩) hY0 hI rfl chX_d17 hl.1 (Nat.le_of_ble_eq_true rfl) (Nat.le_of_ble_eq_true rfl) (Nat.le_of_ble_eq_true rfl) (y_cons (y_cref hY_this rfl) y_nil) rfl (y_recv rfl hY_this) trivial (y_sub_ef rfl) fun v Yn o Hn L ho hr ha hIn hx_ hE hP => ?_
    replace hs_bk := y_Efld hE hY_this rfl (by decide) (by decide) hs_bk
    replace hs_se := y_Efld hE hY_this rfl (by decide) (by decide) hs_se
    replace hs_fa := y_Efld hE hY_this rfl (by decide) (by decide) hs_fa
    replace hs_fb := y_Efld hE hY_this rfl (by decide) (by decide) hs_fb
    replace hA_bk := hA_bk.kept (y_Earr hE hY_bk rfl (by decide))
    replace hY_this := y_ext hx_ hI.1 hY_this
    replace hY_bk := y_ext hx_ hI.1 hY_bk
    replace hY_se := y_ext hx_ hI.1 hY_se
    have hPb := hP
    obtain rfl := hPb
    clear ho hr ha hE hP hI hx_
    rename x_I _ _ _ _ _ _ _ _ _ _ => hI
    exact y_ireturn B hI rfl rfl rfl List.mem_cons_self ⟨_, rfl, ⟨_, rfl, x_i32 _⟩⟩ (x_cs.mono B.2.2.2.2.2 (y_mon B hI)) (fun t' b' w0' w1' f' h1 h2 h3 h4 => by cases h1; cases h2.symm.trans hs0; cases z_uniq h4 hA0 h3 hcn; exact ⟨_, rfl, ⟨fun q9 => absurd q9 hno, fun q9 => absurd q9 hno, fun q9 => absurd q9 hno, fun _ => rfl⟩, ⟨fun _ a9 b9 h9 => by cases hfa0.symm.trans h9.1; cases hfb0.symm.trans h9.2; exact ⟨hs_fa, hs_fb⟩, fun q9 => absurd q9 (by decide)⟩⟩) (Nat.le_refl _) (Nat.le_refl _) chX_d20
  · have q5_ : ¬ r2.toInt = (0 : Int32).toInt := fun q => q5 (Int32.toInt_inj.mp q)
    refine lv_aload_n hx hb chX_d8 rfl (lv_at hl 0 rfl) ?_
    refine lv_iload_n hx hb chX_d9 rfl (lv_at hl 2 rfl) ?_
    refine y_call (z := (0, 151, 2, some 17, xM171)) (av := [.ref this, .int h]) (rest := []) (y_cokV (n := 1) (ci := 12) X ym_isHillX rfl rfl rfl (x_cons (x_bw72 2 rfl rfl) (x_cons (x_bw72 4 rfl rfl) (x_cons (x_at 40 (by decide +kernel) rfl) (x_cons (x_bw0 9 rfl rfl) x_nilm)))) (x_bw72 5 rfl rfl) (by decide +kernel) ⟨Nat.le_of_ble_eq_true rfl, Nat.le_of_ble_eq_true rfl⟩) hY0 hI rfl chX_d10 hl.1 (Nat.le_of_ble_eq_true rfl) (Nat.le_of_ble_eq_true rfl) (Nat.le_of_ble_eq_true rfl) (y_cons (y_cref hY_this rfl) (y_cons ⟨_, rfl, x_i32 _⟩ y_nil)) rfl (y_recv rfl hY_this) trivial (y_sub_ef rfl) fun v Yn o Hn L ho hr ha hIn hx_ hE hP => ?_
    have hPq := hP _ _ _ _ rfl hs_bk hcn hA_bk
    replace hs_bk := y_Efld hE hY_this rfl (by decide) (by decide) hs_bk
    replace hs_se := y_Efld hE hY_this rfl (by decide) (by decide) hs_se
    replace hs_fa := y_Efld hE hY_this rfl (by decide) (by decide) hs_fa
    replace hs_fb := y_Efld hE hY_this rfl (by decide) (by decide) hs_fb
    replace hA_bk := hA_bk.kept (y_Earr hE hY_bk rfl (by decide))
    replace hY_this := y_ext hx_ hI.1 hY_this
    replace hY_bk := y_ext hx_ hI.1 hY_bk
    replace hY_se := y_ext hx_ hI.1 hY_se
    obtain ⟨r10, rfl, hin_r10, hout_r10⟩ := hPq
    clear ho hr ha hE hP hI hx_
    rename x_I _ _ _ _ _ _ _ _ _ _ => hI
    refine lv_if_ne hx hb chX_d13 (tgt := 21) (by decide) (fun q13 => ?_) (fun q13 => ?_)
    · have q13_ : ¬ r10.toInt = (0 : Int32).toInt := fun q => q13 (Int32.toInt_inj.mp q)
      have hok : m_isS fb w ∧ m_isH fb h := ⟨hin_r2 (by assumption), hin_r10 (by assumption)⟩
      refine lv_aload_n hx hb chX_d21 rfl (lv_at hl 0 rfl) ?_
      refine y_call (z := (0, 240, 1, some 17, xM186)) (av := [.ref this]) (rest := []) (y_cokV (n := 0) (ci := 12) X ym_looksNow rfl rfl rfl (x_cons (x_bw77 8 rfl rfl) (x_cons (x_bw77 10 rfl rfl) (x_cons (x_at 50 (by decide +kernel) rfl) (x_cons (x_bw0 9 rfl rfl) x_nilm)))) (x_bw77 11 rfl rfl) (by decide +kernel) ⟨Nat.le_of_ble_eq_true rfl, Nat.le_of_ble_eq_true rfl⟩) hY0 hI rfl chX_d22 hl.1 (Nat.le_of_ble_eq_true rfl) (Nat.le_of_ble_eq_true rfl) (Nat.le_of_ble_eq_true rfl) (y_cons (y_cref hY_this rfl) y_nil) rfl (y_recv rfl hY_this) trivial (y_sub_ef rfl) fun v Yn o Hn L ho hr ha hIn hx_ hE hP => ?_
      have hPs := hP _ _ _ rfl hs_bk hcn hA_bk _ hs_se
      replace hs_bk := y_Efld hE hY_this rfl (by decide) (by decide) hs_bk
      replace hs_se := y_Efld hE hY_this rfl (by decide) (by decide) hs_se
      replace hs_fa := y_Efld hE hY_this rfl (by decide) (by decide) hs_fa
      replace hs_fb := y_Efld hE hY_this rfl (by decide) (by decide) hs_fb
      replace hA_bk := hA_bk.kept (y_Earr hE hY_bk rfl (by decide))
      replace hY_this := y_ext hx_ hI.1 hY_this
      replace hY_bk := y_ext hx_ hI.1 hY_bk
      replace hY_se := y_ext hx_ hI.1 hY_se
      obtain rfl := y_ansV rfl ho hr
      obtain ⟨fs, hA_se, -⟩ := y_arr hIn.1 hY_se rfl rfl
      have hVs : ∀ i, i < (fb 0).toInt.toNat → fs i = (m_VR fb (fb 4) (fb 5)) i := fun i hi => z_intI (hA_se i (by omega)) (hPs i hi)
      clear ho hr ha hE hP hI hx_
      rename x_I _ _ _ _ _ _ _ _ _ _ => hI
      refine lv_aload_n hx hb chX_d25 rfl (lv_at hl 0 rfl) ?_
      refine lv_iload_n hx hb chX_d26 rfl (lv_at hl 1 rfl) ?_
      refine y_call (z := (0, 243, 2, some 17, xM191)) (av := [.ref this, .int w]) (rest := []) (y_cokV (n := 1) (ci := 12) X ym_isLawfulX rfl rfl rfl (x_cons (x_bw78 11 rfl rfl) (x_cons (x_bw78 13 rfl rfl) (x_cons (x_at 52 (by decide +kernel) rfl) (x_cons (x_bw0 9 rfl rfl) x_nilm)))) (x_bw78 14 rfl rfl) (by decide +kernel) ⟨Nat.le_of_ble_eq_true rfl, Nat.le_of_ble_eq_true rfl⟩) hY0 hI rfl chX_d27 hl.1 (Nat.le_of_ble_eq_true rfl) (Nat.le_of_ble_eq_true rfl) (Nat.le_of_ble_eq_true rfl) (y_cons (y_cref hY_this rfl) (y_cons ⟨_, rfl, x_i32 _⟩ y_nil)) rfl (y_recv rfl hY_this) trivial (y_sub_ef rfl) fun v Yn o Hn L ho hr ha hIn hx_ hE hP => ?_
      have hPs := hP _ _ _ _ rfl hs_bk hcn hA_bk _ (m_VR fb (fb 4) (fb 5)) hs_se (fun i hi => by rw [hA_se i (by omega), hVs i hi])
      obtain rfl := hPs
      replace hs_bk := y_Efld hE hY_this rfl (by decide) (by decide) hs_bk
      replace hs_se := y_Efld hE hY_this rfl (by decide) (by decide) hs_se
      replace hs_fa := y_Efld hE hY_this rfl (by decide) (by decide) hs_fa
      replace hs_fb := y_Efld hE hY_this rfl (by decide) (by decide) hs_fb
      replace hA_bk := hA_bk.kept (y_Earr hE hY_bk rfl (by decide))
      replace hA_se := hA_se.kept (y_Earr hE hY_se rfl (by decide))
      replace hY_this := y_ext hx_ hI.1 hY_this
      replace hY_bk := y_ext hx_ hI.1 hY_bk
      replace hY_se := y_ext hx_ hI.1 hY_se
      generalize hg_r27 : m_b (m_lw (m_VR fb (fb 4) (fb 5)) w (fb 0).toInt.toNat) = r27
      clear ho hr ha hE hP hI hx_
      rename x_I _ _ _ _ _ _ _ _ _ _ => hI
      refine lv_if_eq hx hb chX_d30 (tgt := 41) (by decide) (fun q30 => ?_) (fun q30 => ?_)
      · have q30_ : r27.toInt = (0 : Int32).toInt := by rw [q30]
        refine lv_iconst hx hb chX_d41 (v := 0) (by decide) ?_
        refine lv_istore_n hx hb chX_d42 rfl hl (by decide) (lv' := [(3, .int (0 : Int32)), (0, .ref this), (1, .int w), (2, .int h)]) rfl fun ls hl => ?_
        refine lv_iconst hx hb chX_d43 (v := 0) (by decide) ?_
        refine lv_istore hx hb chX_d44 hl (by decide) (lv' := [(4, .int (0 : Int32)), (3, .int (0 : Int32)), (0, .ref this), (1, .int w), (2, .int h)]) rfl fun ls hl => ?_
        refine lv_iconst hx hb chX_d46 (v := 0) (by decide) ?_
        refine lv_istore hx hb chX_d47 hl (by decide) (lv' := [(5, .int (0 : Int32)), (4, .int (0 : Int32)), (3, .int (0 : Int32)), (0, .ref this), (1, .int w), (2, .int h)]) rfl fun ls hl => ?_
        exact chX_L49 B rfl hs0 hA0 hcn hd0 hfa0 hfb0 hok (by unfold m_thR; rw [if_neg (show ¬ m_lwR fb w = true from fun q9 => by rw [show m_lwR fb w = false from m_b0 (hg_r27.trans (by assumption))] at q9; cases q9)]) 12 _ _ _ _ _ _ hI hY_this hY_bk hs_bk hA_bk hs_fa hs_fb (lv_sub hl [0, 1, 2, 3, 4, 5] rfl) (by first | assumption | omega) rfl (by omega)
      · have q30_ : ¬ r27.toInt = (0 : Int32).toInt := fun q => q30 (Int32.toInt_inj.mp q)
        refine lv_aload_n hx hb chX_d33 rfl (lv_at hl 0 rfl) ?_
        refine lv_iload_n hx hb chX_d34 rfl (lv_at hl 1 rfl) ?_
        refine y_call (z := (0, 279, 2, some 17, xM216)) (av := [.ref this, .int w]) (rest := []) (y_cokV (n := 1) (ci := 12) X ym_withoutOf rfl rfl rfl (x_cons (x_bw85 1 rfl rfl) (x_cons (x_bw85 3 rfl rfl) (x_cons (x_at 59 (by decide +kernel) rfl) (x_cons (x_bw0 9 rfl rfl) x_nilm)))) (x_bw85 4 rfl rfl) (by decide +kernel) ⟨Nat.le_of_ble_eq_true rfl, Nat.le_of_ble_eq_true rfl⟩) hY0 hI rfl chX_d35 hl.1 (Nat.le_of_ble_eq_true rfl) (Nat.le_of_ble_eq_true rfl) (Nat.le_of_ble_eq_true rfl) (y_cons (y_cref hY_this rfl) (y_cons ⟨_, rfl, x_i32 _⟩ y_nil)) rfl (y_recv rfl hY_this) trivial (y_sub_ef rfl) fun v Yn o Hn L ho hr ha hIn hx_ hE hP => ?_
        have hPs := hP _ _ _ _ rfl hs_bk hcn hA_bk _ (m_VR fb (fb 4) (fb 5)) hs_se (fun i hi => by rw [hA_se i (by omega), hVs i hi])
        obtain rfl := hPs
        replace hs_bk := y_Efld hE hY_this rfl (by decide) (by decide) hs_bk
        replace hs_se := y_Efld hE hY_this rfl (by decide) (by decide) hs_se
        replace hs_fa := y_Efld hE hY_this rfl (by decide) (by decide) hs_fa
        replace hs_fb := y_Efld hE hY_this rfl (by decide) (by decide) hs_fb
        replace hA_bk := hA_bk.kept (y_Earr hE hY_bk rfl (by decide))
        replace hA_se := hA_se.kept (y_Earr hE hY_se rfl (by decide))
        replace hY_this := y_ext hx_ hI.1 hY_this
        replace hY_bk := y_ext hx_ hI.1 hY_bk
        replace hY_se := y_ext hx_ hI.1 hY_se
        generalize hg_r35 : m_gg (m_woB fb (m_VR fb (fb 4) (fb 5)) w) 0 (fb 0).toInt.toNat = r35
        clear ho hr ha hE hP hI hx_
        rename x_I _ _ _ _ _ _ _ _ _ _ => hI
        refine lv_goto hx hb chX_d38 (tgt := 42) (by decide) ?_
        refine lv_istore_n hx hb chX_d42 rfl hl (by decide) (lv' := [(3, .int r35), (0, .ref this), (1, .int w), (2, .int h)]) rfl fun ls hl => ?_
        refine lv_iconst hx hb chX_d43 (v := 0) (by decide) ?_
        refine lv_istore hx hb chX_d44 hl (by decide) (lv' := [(4, .int (0 : Int32)), (3, .int r35), (0, .ref this), (1, .int w), (2, .int h)]) rfl fun ls hl => ?_
        refine lv_iconst hx hb chX_d46 (v := 0) (by decide) ?_
        refine lv_istore hx hb chX_d47 hl (by decide) (lv' := [(5, .int (0 : Int32)), (4, .int (0 : Int32)), (3, .int r35), (0, .ref this), (1, .int w), (2, .int h)]) rfl fun ls hl => ?_
        exact chX_L49 B rfl hs0 hA0 hcn hd0 hfa0 hfb0 hok (by unfold m_thR; rw [if_pos (show m_lwR fb w = true from m_bn (fun q => absurd (hg_r27.symm.trans q) (by assumption)))]; exact hg_r35.symm) 12 _ _ _ _ _ _ hI hY_this hY_bk hs_bk hA_bk hs_fa hs_fb (lv_sub hl [0, 1, 2, 3, 4, 5] rfl) (by first | assumption | omega) rfl (by omega)
    · have q13_ : r10.toInt = (0 : Int32).toInt := by rw [q13]
      have hno : ¬ (m_isS fb w ∧ m_isH fb h) := fun q9 => by first | (have h8 := hout_r2 (by assumption); have h7 := q9.1; unfold m_isS at h7; omega) | exact hout_r10 (by assumption) q9.2
      refine lv_aload_n hx hb chX_d16 rfl (lv_at hl 0 rfl) ?_
      refine y_call (z := (0, 102, 1, some 17, xM143)) (av := [.ref this]) (rest := []) (y_cokV (n := 0) (ci := 12) X ym_bad rfl rfl rfl (x_cons (x_bw68 3 rfl rfl) (x_cons (x_bw68 5 rfl rfl) (x_cons (x_at 32 (by decide +kernel) rfl) (x_cons (x_bw0 9 rfl rfl) x_nilm)))) (x_bw68 6 rfl rfl) (by decide +kernel) ⟨Nat.le_of_ble_eq_true rfl, Nat.le_of_ble_eq_true rfl⟩) hY0 hI rfl chX_d17 hl.1 (Nat.le_of_ble_eq_true rfl) (Nat.le_of_ble_eq_true rfl) (Nat.le_of_ble_eq_true rfl) (y_cons (y_cref hY_this rfl) y_nil) rfl (y_recv rfl hY_this) trivial (y_sub_ef rfl) fun v Yn o Hn L ho hr ha hIn hx_ hE hP => ?_
      replace hs_bk := y_Efld hE hY_this rfl (by decide) (by decide) hs_bk
      replace hs_se := y_Efld hE hY_this rfl (by decide) (by decide) hs_se
      replace hs_fa := y_Efld hE hY_this rfl (by decide) (by decide) hs_fa
      replace hs_fb := y_Efld hE hY_this rfl (by decide) (by decide) hs_fb
      replace hA_bk := hA_bk.kept (y_Earr hE hY_bk rfl (by decide))
      replace hY_this := y_ext hx_ hI.1 hY_this
      replace hY_bk := y_ext hx_ hI.1 hY_bk
      replace hY_se := y_ext hx_ hI.1 hY_se
      have hPb := hP
      obtain rfl := hPb
      clear ho hr ha hE hP hI hx_
      rename x_I _ _ _ _ _ _ _ _ _ _ => hI
      exact y_ireturn B hI rfl rfl rfl List.mem_cons_self ⟨_, rfl, ⟨_, rfl, x_i32 _⟩⟩ (x_cs.mono B.2.2.2.2.2 (y_mon B hI)) (fun t' b' w0' w1' f' h1 h2 h3 h4 => by cases h1; cases h2.symm.trans hs0; cases z_uniq h4 hA0 h3 hcn; exact ⟨_, rfl, ⟨fun q9 => absurd q9 hno, fun q9 => absurd q9 hno, fun q9 => absurd q9 hno, fun _ => rfl⟩, ⟨fun _ a9 b9 h9 => by cases hfa0.symm.trans h9.1; cases hfb0.symm.trans h9.2; exact ⟨hs_fa, hs_fb⟩, fun q9 => absurd q9 (by decide)⟩⟩) (Nat.le_refl _) (Nat.le_refl _) chX_d20
