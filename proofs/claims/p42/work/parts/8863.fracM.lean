/-! THE FRACTION of the reference: chance, lies -/
def z_FM (D : va_G) (H : Heap) (this : Nat) (a b : Int64) : Prop := x_sl D 12 6 this H = some (.long a) ∧ x_sl D 12 7 this H = some (.long b)
def z_fxM (D : va_G) (H H' : Heap) (this : Nat) (r : Int32) (up down : Int64) : Prop := (¬ r = 1 → ∀ a b, z_FM D H this a b → z_FM D H' this a b) ∧ (r = 1 → 1 ≤ down.toInt → 0 ≤ (m_labs up).toInt → z_FM D H' this (up / m_gcd (m_labs up) down) (down / m_gcd (m_labs up) down))
def m_loR (f S : Nat → Int32) (w : Int32) (h : Nat) : Int64 := m_lp (m_lp (if (w >>> (nI h &&& 31)) &&& 1 = 1 then (0 : Int64) else (f (14 + 5 * h)).toInt64) (f 7).toInt64 (m_cn (m_soR f S (w ||| m_sh (nI h)) 1) (f 0).toInt.toNat)) ((10 : Int32) - f 7).toInt64 (m_cn (m_soR f S (w ||| m_sh (nI h)) 0) (f 0).toInt.toNat)
def m_lsR (f S : Nat → Int32) (w : Int32) : Nat → Int64
  | 0 => 0
  | k + 1 => m_lsR f S w k + m_loR f S w k
def m_chsR (f : Nat → Int32) (th : Int32) : Nat → Int32
  | 0 => 0
  | k + 1 => m_chsR f th k + ((th >>> (nI k &&& 31)) &&& 1) * f (14 + 5 * k)
theorem m_chsR_0 {f : Nat → Int32} : ∀ k, k < 31 → m_chsR f 0 k = 0
  | 0, _ => rfl
  | k + 1, h => by
    show m_chsR f 0 k + (((0 : Int32) >>> (nI k &&& 31)) &&& 1) * f (14 + 5 * k) = 0
    rw [m_chsR_0 k (by omega), show ((0 : Int32) >>> (nI k &&& 31)) &&& 1 = 0 from (by decide : ∀ q, q < 31 → ((0 : Int32) >>> (nI q &&& 31)) &&& 1 = 0) k (by omega), Int32.zero_mul]
    rfl
def m_lwR (f : Nat → Int32) (w : Int32) : Bool := m_lw (m_VR f (f 4) (f 5)) w (f 0).toInt.toNat
def m_thR (f : Nat → Int32) (w : Int32) : Int32 := if m_lwR f w = true then m_gg (m_woB f (m_VR f (f 4) (f 5)) w) 0 (f 0).toInt.toNat else 0
def m_chUR (f : Nat → Int32) (w : Int32) (h : Nat) : Int64 := (((m_thR f w >>> (nI h &&& 31)) &&& 1) * f (14 + 5 * h)).toInt64
def m_chDR (f : Nat → Int32) (w : Int32) : Int64 := (m_chsR f (m_thR f w) (f 0).toInt.toNat).toInt64
theorem z_dpR {Y : xY} {o : List xV × Option xV} {v : Option Value} {a b c d : xV} (ho : o ∈ [([a, b], some (xL 1 9223372036854775807)), ([c, d], some (xL (-9223372036854775808) (-1)))]) (hr : x_ret Y o.2 v) : ∃ r : Int64, v = some (.long r) ∧ (1 ≤ r.toInt ∨ r.toInt ≤ -1) := by
  rcases List.mem_cons.mp ho with e0 | ho
  · subst e0
    obtain ⟨w, e1, y, e2, h1, h2⟩ := hr
    have h1 : (1 : Int) ≤ y.toInt := h1
    exact ⟨y, by rw [e1, e2], Or.inl h1⟩
  · obtain rfl := List.mem_singleton.mp ho
    obtain ⟨w, e1, y, e2, h1, h2⟩ := hr
    have h2 : y.toInt ≤ (-1 : Int) := h2
    exact ⟨y, by rw [e1, e2], Or.inr h2⟩
def z_Pdv : yP := fun _ av _ _ v _ _ => ∀ a b : Int64, av = [.long a, .long b] → 1 ≤ b.toInt → 0 ≤ (m_labs a).toInt → v = some (.long (m_gcd (m_labs a) b))
theorem dvX_d0 : decode xMdp.2.1 0 = .ok (.lload_n 0, 1) := dz_ok (by decide +kernel)
theorem dvX_d1 : decode xMdp.2.1 1 = .ok (.lconst 0, 1) := dz_ok (by decide +kernel)
theorem dvX_d2 : decode xMdp.2.1 2 = .ok (.lcmp, 1) := dz_ok (by decide +kernel)
theorem dvX_d3 : decode xMdp.2.1 3 = .ok (.ifCond .ge 8, 3) := dz_ok (by decide +kernel)
theorem dvX_d6 : decode xMdp.2.1 6 = .ok (.lload_n 0, 1) := dz_ok (by decide +kernel)
theorem dvX_d7 : decode xMdp.2.1 7 = .ok (.lneg, 1) := dz_ok (by decide +kernel)
theorem dvX_d8 : decode xMdp.2.1 8 = .ok (.goto 4, 3) := dz_ok (by decide +kernel)
theorem dvX_d11 : decode xMdp.2.1 11 = .ok (.lload_n 0, 1) := dz_ok (by decide +kernel)
theorem dvX_d12 : decode xMdp.2.1 12 = .ok (.lstore 4, 2) := dz_ok (by decide +kernel)
theorem dvX_d14 : decode xMdp.2.1 14 = .ok (.lload_n 2, 1) := dz_ok (by decide +kernel)
theorem dvX_d15 : decode xMdp.2.1 15 = .ok (.lstore 6, 2) := dz_ok (by decide +kernel)
theorem dvX_d17 : decode xMdp.2.1 17 = .ok (.lload 6, 2) := dz_ok (by decide +kernel)
theorem dvX_d19 : decode xMdp.2.1 19 = .ok (.lconst 0, 1) := dz_ok (by decide +kernel)
theorem dvX_d20 : decode xMdp.2.1 20 = .ok (.lcmp, 1) := dz_ok (by decide +kernel)
theorem dvX_d21 : decode xMdp.2.1 21 = .ok (.ifCond .eq 21, 3) := dz_ok (by decide +kernel)
theorem dvX_d24 : decode xMdp.2.1 24 = .ok (.lload 4, 2) := dz_ok (by decide +kernel)
theorem dvX_d26 : decode xMdp.2.1 26 = .ok (.lload 6, 2) := dz_ok (by decide +kernel)
theorem dvX_d28 : decode xMdp.2.1 28 = .ok (.lrem, 1) := dz_ok (by decide +kernel)
theorem dvX_d29 : decode xMdp.2.1 29 = .ok (.lstore 8, 2) := dz_ok (by decide +kernel)
theorem dvX_d31 : decode xMdp.2.1 31 = .ok (.lload 6, 2) := dz_ok (by decide +kernel)
theorem dvX_d33 : decode xMdp.2.1 33 = .ok (.lstore 4, 2) := dz_ok (by decide +kernel)
theorem dvX_d35 : decode xMdp.2.1 35 = .ok (.lload 8, 2) := dz_ok (by decide +kernel)
theorem dvX_d37 : decode xMdp.2.1 37 = .ok (.lstore 6, 2) := dz_ok (by decide +kernel)
theorem dvX_d39 : decode xMdp.2.1 39 = .ok (.goto (-22), 3) := dz_ok (by decide +kernel)
theorem dvX_d42 : decode xMdp.2.1 42 = .ok (.lload 4, 2) := dz_ok (by decide +kernel)
theorem dvX_d44 : decode xMdp.2.1 44 = .ok (.lreturn, 1) := dz_ok (by decide +kernel)
theorem dvX_L17 {p : Program} {l : Launch} {e : Env} {s : State} {m : MethodId} {below : List Frame} {meth : Method} {c : Code} {D : va_G} {U : State} {Y0 : xY} {av : List Value} (B : y_B vwCl x_Tb x_Nb xMdp p s m meth c D U Y0 av) {a b : Int64} (hav : av = [.long a, .long b])  :
    ∀ (n : Nat), ∀ (H : Heap) (Y : xY) (locs : List Loc) (ls : Array Slot) (x : Int64) (y : Int64), x_I D x_G x_Zs U (x_efs xMdp) Y0 s.heap Y H locs → lv_has ls xMdp.2.2.1 [(4, .long x), (6, .long y), (0, .long a), (2, .long b)] → (¬ y.toInt = 0 ∨ ¬ x.toInt = 0) → (∃ k : Nat, (x, y) = m_en k (m_labs a, b)) → y.toInt.natAbs < n → W p l e (x_rm xMdp) s m av.toArray below meth c H locs 0 0 (y_QQ below D x_G x_Zs U xMdp z_Pdv av Y0 s) (F0 m 17 ls []) := by
  have X := B.1
  have hx := X.1
  have hb := X.2.1
  have hY0 := B.2.2.2.2.1
  intro n
  induction n with
  | zero => intro _ _ _ _ _ _ _ _ _ _ h; exact absurd h (Nat.not_lt_zero _)
  | succ n ih =>
    intro H Y locs ls x y  hI hl hxy hen hn
    refine lv_lload hx hb dvX_d17 (lv_at hl 1 rfl) ?_
    refine lv_lconst hx hb dvX_d19 (v := 0) (by decide) ?_
    have el0 : (0 : Int64).toInt = 0 := by decide
    refine W.lcmp hx hb dvX_d20 ?_
    have h_z20 := y_cmp y (0 : Int64)
    generalize hg_z20 : lg_cmp y (0 : Int64) = z20 at h_z20 ⊢
    have ec0 : (0 : Int32).toInt = 0 := by decide
    refine lv_if_eq hx hb dvX_d21 (tgt := 42) (by decide) (fun q21 => ?_) (fun q21 => ?_)
    · have q21_ : z20.toInt = (0 : Int32).toInt := by rw [q21]
      refine lv_lload hx hb dvX_d42 (lv_at hl 0 rfl) ?_
      subst hav
      have rx := x_i64 x
      rcases (show 1 ≤ x.toInt ∨ x.toInt ≤ -1 by omega) with hc | hc
      · exact y_lreturn B hI rfl rfl List.mem_cons_self ⟨_, rfl, ⟨_, rfl, hc, rx.2⟩⟩ (x_cs.mono B.2.2.2.2.2 (y_mon B hI)) (fun a' b' h1 h2 h3 => by cases h1; obtain ⟨k, hk⟩ := hen; have hgc := m_gcd_at h3 h2 (k := k) (Or.inl (by rw [← hk]; exact Int64.toInt_inj.mp (by rw [show (0 : Int64).toInt = 0 by decide]; show y.toInt = 0; omega))); rw [← hk] at hgc; exact congrArg (fun z => some (Value.long z)) hgc.1) (Nat.le_refl _) (Nat.le_refl _) dvX_d44
      · exact y_lreturn B hI rfl rfl (List.mem_cons_of_mem _ List.mem_cons_self) ⟨_, rfl, ⟨_, rfl, rx.1, hc⟩⟩ (x_cs.mono B.2.2.2.2.2 (y_mon B hI)) (fun a' b' h1 h2 h3 => by cases h1; obtain ⟨k, hk⟩ := hen; have hgc := m_gcd_at h3 h2 (k := k) (Or.inl (by rw [← hk]; exact Int64.toInt_inj.mp (by rw [show (0 : Int64).toInt = 0 by decide]; show y.toInt = 0; omega))); rw [← hk] at hgc; exact congrArg (fun z => some (Value.long z)) hgc.1) (Nat.le_refl _) (Nat.le_refl _) dvX_d44
    · have q21_ : ¬ z20.toInt = (0 : Int32).toInt := fun q => q21 (Int32.toInt_inj.mp q)
      refine lv_lload hx hb dvX_d24 (lv_at hl 0 rfl) ?_
      refine lv_lload hx hb dvX_d26 (lv_at hl 1 rfl) ?_
      refine lv_lrem hx hb dvX_d28 (by intro q; have := congrArg Int64.toInt q; have z0 : (0 : Int64).toInt = 0 := (by decide); omega) ?_
      have h_z28 := z_lrem x y (by intro q; have := congrArg Int64.toInt q; have z0 : (0 : Int64).toInt = 0 := (by decide); omega)
      generalize hg_z28 : x - x / y * y = z28 at h_z28 ⊢
      refine lv_lstore hx hb dvX_d29 hl (by decide) (lv' := [(8, .long z28), (4, .long x), (6, .long y), (0, .long a), (2, .long b)]) rfl fun ls hl => ?_
      refine lv_lload hx hb dvX_d31 (lv_at hl 2 rfl) ?_
      refine lv_lstore hx hb dvX_d33 hl (by decide) (lv' := [(4, .long y), (8, .long z28), (6, .long y), (0, .long a), (2, .long b)]) rfl fun ls hl => ?_
      refine lv_lload hx hb dvX_d35 (lv_at hl 1 rfl) ?_
      refine lv_lstore hx hb dvX_d37 hl (by decide) (lv' := [(6, .long z28), (4, .long y), (8, .long z28), (0, .long a), (2, .long b)]) rfl fun ls hl => ?_
      refine lv_goto hx hb dvX_d39 (tgt := 17) (by decide) ?_
      have hy9 : ¬ y = 0 := fun q => by have h9 := congrArg Int64.toInt q; rw [show (0 : Int64).toInt = 0 by decide] at h9; omega
      exact ih _ _ _ _ _ _ hI (lv_sub hl [1, 0, 3, 4] rfl) (by first | assumption | omega) (by obtain ⟨k, hk⟩ := hen; exact ⟨k + 1, by rw [m_en_s (by rw [← hk]; exact hy9), ← hk]; exact congrArg (fun z => (y, z)) hg_z28.symm⟩) (by omega)
theorem ym_divisorF : y_Met vwCl x_G x_Zs x_Tb x_Nb xMdp y_T z_Pdv := by
  refine y_main (by decide +kernel) (by decide +kernel) x_Tb_good x_Nb_ok ?_
  intro p l e s m below meth c D U Y0 av ls B hI _ hl
  have X := B.1
  have hx := X.1
  have hb := X.2.1
  have hY0 := B.2.2.2.2.1
  obtain ⟨v0, v1, rfl, ⟨a, rfl, -⟩, ⟨b, rfl, hb1, hb2⟩⟩ := x_two B.2.2.2.2.2
  replace hb1 : (1 : Int) ≤ b.toInt := hb1
  replace hb2 : b.toInt ≤ (9223372036854775807 : Int) := hb2
  replace hl : lv_has ls xMdp.2.2.1 [(0, .long a), (2, .long b)] := hl
  refine lv_lload_n hx hb dvX_d0 rfl (lv_at hl 0 rfl) ?_
  refine lv_lconst hx hb dvX_d1 (v := 0) (by decide) ?_
  have el0 : (0 : Int64).toInt = 0 := by decide
  refine W.lcmp hx hb dvX_d2 ?_
  have h_z2 := y_cmp a (0 : Int64)
  generalize hg_z2 : lg_cmp a (0 : Int64) = z2 at h_z2 ⊢
  have ec0 : (0 : Int32).toInt = 0 := by decide
  refine lv_if_ge hx hb dvX_d3 (tgt := 11) (by decide) (fun q3 => ?_) (fun q3 => ?_)
  · have q3_ : (0 : Int32).toInt ≤ z2.toInt := x_le32.mp q3
    refine lv_lload_n hx hb dvX_d11 rfl (lv_at hl 0 rfl) ?_
    refine lv_lstore hx hb dvX_d12 hl (by decide) (lv' := [(4, .long a), (0, .long a), (2, .long b)]) rfl fun ls hl => ?_
    refine lv_lload_n hx hb dvX_d14 rfl (lv_at hl 2 rfl) ?_
    refine lv_lstore hx hb dvX_d15 hl (by decide) (lv' := [(6, .long b), (4, .long a), (0, .long a), (2, .long b)]) rfl fun ls hl => ?_
    have ry := Int64.le_toInt b
    have ry2 := Int64.toInt_lt b
    exact dvX_L17 B rfl 9223372036854775809 _ _ _ _ _ _ hI (lv_sub hl [1, 0, 2, 3] rfl) (by first | assumption | omega) ⟨0, by rw [show m_labs a = a by rw [← m_labs_2]; first | (rw [if_pos (Int64.lt_iff_toInt_lt.mpr (by rw [show (0 : Int64).toInt = 0 by decide]; omega))]; exact hg_z7) | (rw [if_neg (fun q9 => by have h9 := Int64.lt_iff_toInt_lt.mp q9; rw [show (0 : Int64).toInt = 0 by decide] at h9; omega)])]; rfl⟩ (by omega)
  · have q3_ : z2.toInt < (0 : Int32).toInt := Int.not_le.mp fun q => q3 (x_le32.mpr q)
    refine lv_lload_n hx hb dvX_d6 rfl (lv_at hl 0 rfl) ?_
    refine lv_lneg hx hb dvX_d7 ?_
    generalize hg_z7 : -a = z7
    refine lv_goto hx hb dvX_d8 (tgt := 12) (by decide) ?_
    refine lv_lstore hx hb dvX_d12 hl (by decide) (lv' := [(4, .long z7), (0, .long a), (2, .long b)]) rfl fun ls hl => ?_
    refine lv_lload_n hx hb dvX_d14 rfl (lv_at hl 2 rfl) ?_
    refine lv_lstore hx hb dvX_d15 hl (by decide) (lv' := [(6, .long b), (4, .long z7), (0, .long a), (2, .long b)]) rfl fun ls hl => ?_
    have ry := Int64.le_toInt b
    have ry2 := Int64.toInt_lt b
    exact dvX_L17 B rfl 9223372036854775809 _ _ _ _ _ _ hI (lv_sub hl [1, 0, 2, 3] rfl) (by first | assumption | omega) ⟨0, by rw [show m_labs a = z7 by rw [← m_labs_2]; first | (rw [if_pos (Int64.lt_iff_toInt_lt.mpr (by rw [show (0 : Int64).toInt = 0 by decide]; omega))]; exact hg_z7) | (rw [if_neg (fun q9 => by have h9 := Int64.lt_iff_toInt_lt.mp q9; rw [show (0 : Int64).toInt = 0 by decide] at h9; omega)])]; rfl⟩ (by omega)
def z_Ptlf : yP := fun D av _ _ v _ H' => ∀ (this : Nat) (a b : Int64), av = [.ref this, .long a, .long b] → v = some (.int 1) ∧ (1 ≤ b.toInt → 0 ≤ (m_labs a).toInt → z_FM D H' this (a / m_gcd (m_labs a) b) (b / m_gcd (m_labs a) b))
theorem tfX_d0 : decode xM1009.2.1 0 = .ok (.lload_n 1, 1) := dz_ok (by decide +kernel)
theorem tfX_d1 : decode xM1009.2.1 1 = .ok (.lload_n 3, 1) := dz_ok (by decide +kernel)
theorem tfX_d2 : decode xM1009.2.1 2 = .ok (.invokestatic 80, 3) := dz_ok (by decide +kernel)
theorem tfX_d5 : decode xM1009.2.1 5 = .ok (.lstore 5, 2) := dz_ok (by decide +kernel)
theorem tfX_d7 : decode xM1009.2.1 7 = .ok (.aload_n 0, 1) := dz_ok (by decide +kernel)
theorem tfX_d8 : decode xM1009.2.1 8 = .ok (.lload_n 1, 1) := dz_ok (by decide +kernel)
theorem tfX_d9 : decode xM1009.2.1 9 = .ok (.lload 5, 2) := dz_ok (by decide +kernel)
theorem tfX_d11 : decode xM1009.2.1 11 = .ok (.ldiv, 1) := dz_ok (by decide +kernel)
theorem tfX_d12 : decode xM1009.2.1 12 = .ok (.putfield 84, 3) := dz_ok (by decide +kernel)
theorem tfX_d15 : decode xM1009.2.1 15 = .ok (.aload_n 0, 1) := dz_ok (by decide +kernel)
theorem tfX_d16 : decode xM1009.2.1 16 = .ok (.lload_n 3, 1) := dz_ok (by decide +kernel)
theorem tfX_d17 : decode xM1009.2.1 17 = .ok (.lload 5, 2) := dz_ok (by decide +kernel)
theorem tfX_d19 : decode xM1009.2.1 19 = .ok (.ldiv, 1) := dz_ok (by decide +kernel)
theorem tfX_d20 : decode xM1009.2.1 20 = .ok (.putfield 68, 3) := dz_ok (by decide +kernel)
theorem tfX_d23 : decode xM1009.2.1 23 = .ok (.iconst 1, 1) := dz_ok (by decide +kernel)
theorem tfX_d24 : decode xM1009.2.1 24 = .ok (.ireturn, 1) := dz_ok (by decide +kernel)
theorem ym_tellsF : y_Met vwCl x_G x_Zs x_Tb x_Nb xM1009 y_T z_Ptlf := by
  refine y_main (by decide +kernel) (by decide +kernel) x_Tb_good x_Nb_ok ?_
  intro p l e s m below meth c D U Y0 av ls B hI _ hl
  have X := B.1
  have hx := X.1
  have hb := X.2.1
  have hY0 := B.2.2.2.2.1
  obtain ⟨v0, v1, v2, rfl, hv0, ⟨a, rfl, -⟩, ⟨b, rfl, hb1, hb2⟩⟩ := y_three B.2.2.2.2.2
  replace hb1 : (1 : Int) ≤ b.toInt := hb1
  replace hb2 : b.toInt ≤ (9223372036854775807 : Int) := hb2
  obtain ⟨this, t0, rfl, ht0, hY_this⟩ := x_ref_at hv0 rfl
  obtain rfl := List.mem_singleton.mp ht0
  replace hl : lv_has ls xM1009.2.2.1 [(0, .ref this), (1, .long a), (3, .long b)] := hl
  refine lv_lload_n hx hb tfX_d0 rfl (lv_at hl 1 rfl) ?_
  refine lv_lload_n hx hb tfX_d1 rfl (lv_at hl 2 rfl) ?_
  refine y_call (z := (1, 80, 2, none, xMdp)) (av := [.long a, .long b]) (rest := []) (y_cokS (n := 2) X ym_divisorF (x_cons (x_bw73 6 rfl rfl) (x_cons (x_bw73 7 rfl rfl) (x_cons (x_bw0 9 rfl rfl) x_nilm))) (x_bw73 8 rfl rfl) (by decide +kernel) ⟨Nat.le_of_ble_eq_true rfl, Nat.le_of_ble_eq_true rfl⟩) hY0 hI rfl tfX_d2 hl.1 (Nat.le_of_ble_eq_true rfl) (Nat.le_of_ble_eq_true rfl) (Nat.le_of_ble_eq_true rfl) (y_cons ⟨_, rfl, x_i64 _⟩ (y_cons ⟨_, rfl, by show (1 : Int) ≤ _; omega, by show _ ≤ (9223372036854775807 : Int); omega⟩ y_nil)) rfl (y_norecv rfl) trivial (y_sub_ef rfl) fun v Yn o Hn L ho hr ha hIn hx_ hE hP => ?_
  have hPd := hP _ _ rfl
  obtain ⟨r2, hv9, hnz9⟩ := z_dpR ho hr
  subst hv9
  replace hY_this := y_ext hx_ hI.1 hY_this
  clear ho hr ha hE hP hI hx_
  rename x_I _ _ _ _ _ _ _ _ _ _ => hI
  refine lv_lstore hx hb tfX_d5 hl (by decide) (lv' := [(5, .long r2), (0, .ref this), (1, .long a), (3, .long b)]) rfl fun ls hl => ?_
  refine lv_aload_n hx hb tfX_d7 rfl (lv_at hl 1 rfl) ?_
  refine lv_lload_n hx hb tfX_d8 rfl (lv_at hl 2 rfl) ?_
  refine lv_lload hx hb tfX_d9 (lv_at hl 0 rfl) ?_
  refine lv_ldiv hx hb tfX_d11 (by intro q; have := congrArg Int64.toInt q; have z0 : (0 : Int64).toInt = 0 := (by decide); omega) ?_
  generalize hg_z11 : a / r2 = z11
  refine y_putf X (fw210 X.2.2.2.2.1) hY0 hI hY_this rfl rfl ⟨_, rfl, x_i64 _⟩ (by decide +kernel) tfX_d12 fun H sl hI ho hs hk => ?_
  replace hs := hs
  have hs12 := hs
  refine lv_aload_n hx hb tfX_d15 rfl (lv_at hl 1 rfl) ?_
  refine lv_lload_n hx hb tfX_d16 rfl (lv_at hl 3 rfl) ?_
  refine lv_lload hx hb tfX_d17 (lv_at hl 0 rfl) ?_
  refine lv_ldiv hx hb tfX_d19 (by intro q; have := congrArg Int64.toInt q; have z0 : (0 : Int64).toInt = 0 := (by decide); omega) ?_
  generalize hg_z19 : b / r2 = z19
  refine y_putf X (fw209 X.2.2.2.2.1) hY0 hI hY_this rfl rfl ⟨_, rfl, x_i64 _⟩ (by decide +kernel) tfX_d20 fun H sl hI ho hs hk => ?_
  replace hs12 := hk _ _ (by decide +kernel) (by decide) hs12
  replace hs := hs
  have hs20 := hs
  refine lv_iconst hx hb tfX_d23 (v := 1) (by decide) ?_
  have ec1 : (1 : Int32).toInt = 1 := by decide
  exact y_ireturn B hI rfl rfl rfl List.mem_cons_self ⟨_, rfl, ⟨_, rfl, by decide, by decide⟩⟩ (x_cs.mono B.2.2.2.2.2 (y_mon B hI)) (fun t' a' b' h1 => by cases h1; refine ⟨rfl, fun h2 h3 => ?_⟩; have e9 := hPd h2 h3; injection e9 with e9; injection e9 with e9; exact ⟨by rw [← e9, hg_z11]; exact hs12, by rw [← e9, hg_z19]; exact hs20⟩) (Nat.le_refl _) (Nat.le_refl _) tfX_d24
def z_Plof : yP := fun D av _ H v _ H' => ∀ (this bk : Nat) (w h : Int32) (f : Nat → Int32), av = [.ref this, .int w, .int h] → x_sl D 12 0 this H = some (.ref bk) → z_c f → y_A bk 160 H f → ∀ (se : Nat) (S : Nat → Int32), x_sl D 12 8 this H = some (.ref se) → (∀ i, i < (f 0).toInt.toNat → y_at se i H = some (.int (S i))) → v = some (.long (m_loR f S w h.toInt.toNat))
theorem loX_d0 : decode xM218.2.1 0 = .ok (.iload_n 1, 1) := dz_ok (by decide +kernel)
theorem loX_d1 : decode xM218.2.1 1 = .ok (.iload_n 2, 1) := dz_ok (by decide +kernel)
theorem loX_d2 : decode xM218.2.1 2 = .ok (.ishr, 1) := dz_ok (by decide +kernel)
theorem loX_d3 : decode xM218.2.1 3 = .ok (.iconst 1, 1) := dz_ok (by decide +kernel)
theorem loX_d4 : decode xM218.2.1 4 = .ok (.iand, 1) := dz_ok (by decide +kernel)
theorem loX_d5 : decode xM218.2.1 5 = .ok (.iconst 1, 1) := dz_ok (by decide +kernel)
theorem loX_d6 : decode xM218.2.1 6 = .ok (.if_icmp .ne 7, 3) := dz_ok (by decide +kernel)
theorem loX_d9 : decode xM218.2.1 9 = .ok (.lconst 0, 1) := dz_ok (by decide +kernel)
theorem loX_d10 : decode xM218.2.1 10 = .ok (.goto 10, 3) := dz_ok (by decide +kernel)
theorem loX_d13 : decode xM218.2.1 13 = .ok (.aload_n 0, 1) := dz_ok (by decide +kernel)
theorem loX_d14 : decode xM218.2.1 14 = .ok (.iload_n 2, 1) := dz_ok (by decide +kernel)
theorem loX_d15 : decode xM218.2.1 15 = .ok (.iconst 4, 1) := dz_ok (by decide +kernel)
theorem loX_d16 : decode xM218.2.1 16 = .ok (.invokevirtual 99, 3) := dz_ok (by decide +kernel)
theorem loX_d19 : decode xM218.2.1 19 = .ok (.i2l, 1) := dz_ok (by decide +kernel)
theorem loX_d20 : decode xM218.2.1 20 = .ok (.lstore_n 3, 1) := dz_ok (by decide +kernel)
theorem loX_d21 : decode xM218.2.1 21 = .ok (.aload_n 0, 1) := dz_ok (by decide +kernel)
theorem loX_d22 : decode xM218.2.1 22 = .ok (.iload_n 1, 1) := dz_ok (by decide +kernel)
theorem loX_d23 : decode xM218.2.1 23 = .ok (.iload_n 2, 1) := dz_ok (by decide +kernel)
theorem loX_d24 : decode xM218.2.1 24 = .ok (.iconst 1, 1) := dz_ok (by decide +kernel)
theorem loX_d25 : decode xM218.2.1 25 = .ok (.invokevirtual 275, 3) := dz_ok (by decide +kernel)
theorem loX_d28 : decode xM218.2.1 28 = .ok (.istore 5, 2) := dz_ok (by decide +kernel)
theorem loX_d30 : decode xM218.2.1 30 = .ok (.aload_n 0, 1) := dz_ok (by decide +kernel)
theorem loX_d31 : decode xM218.2.1 31 = .ok (.iload_n 1, 1) := dz_ok (by decide +kernel)
theorem loX_d32 : decode xM218.2.1 32 = .ok (.iload_n 2, 1) := dz_ok (by decide +kernel)
theorem loX_d33 : decode xM218.2.1 33 = .ok (.iconst 0, 1) := dz_ok (by decide +kernel)
theorem loX_d34 : decode xM218.2.1 34 = .ok (.invokevirtual 275, 3) := dz_ok (by decide +kernel)
theorem loX_d37 : decode xM218.2.1 37 = .ok (.istore 6, 2) := dz_ok (by decide +kernel)
theorem loX_d39 : decode xM218.2.1 39 = .ok (.iconst 0, 1) := dz_ok (by decide +kernel)
theorem loX_d40 : decode xM218.2.1 40 = .ok (.istore 7, 2) := dz_ok (by decide +kernel)
theorem loX_d42 : decode xM218.2.1 42 = .ok (.iload 7, 2) := dz_ok (by decide +kernel)
theorem loX_d44 : decode xM218.2.1 44 = .ok (.iload 5, 2) := dz_ok (by decide +kernel)
theorem loX_d46 : decode xM218.2.1 46 = .ok (.if_icmp .ge 20, 3) := dz_ok (by decide +kernel)
theorem loX_d49 : decode xM218.2.1 49 = .ok (.lload_n 3, 1) := dz_ok (by decide +kernel)
theorem loX_d50 : decode xM218.2.1 50 = .ok (.aload_n 0, 1) := dz_ok (by decide +kernel)
theorem loX_d51 : decode xM218.2.1 51 = .ok (.getfield 7, 3) := dz_ok (by decide +kernel)
theorem loX_d54 : decode xM218.2.1 54 = .ok (.bipush 7, 2) := dz_ok (by decide +kernel)
theorem loX_d56 : decode xM218.2.1 56 = .ok (.iaload, 1) := dz_ok (by decide +kernel)
theorem loX_d57 : decode xM218.2.1 57 = .ok (.i2l, 1) := dz_ok (by decide +kernel)
theorem loX_d58 : decode xM218.2.1 58 = .ok (.lmul, 1) := dz_ok (by decide +kernel)
theorem loX_d59 : decode xM218.2.1 59 = .ok (.lstore_n 3, 1) := dz_ok (by decide +kernel)
theorem loX_d60 : decode xM218.2.1 60 = .ok (.iinc 7 1, 3) := dz_ok (by decide +kernel)
theorem loX_d63 : decode xM218.2.1 63 = .ok (.goto (-21), 3) := dz_ok (by decide +kernel)
theorem loX_d66 : decode xM218.2.1 66 = .ok (.iconst 0, 1) := dz_ok (by decide +kernel)
theorem loX_d67 : decode xM218.2.1 67 = .ok (.istore 7, 2) := dz_ok (by decide +kernel)
theorem loX_d69 : decode xM218.2.1 69 = .ok (.iload 7, 2) := dz_ok (by decide +kernel)
theorem loX_d71 : decode xM218.2.1 71 = .ok (.iload 6, 2) := dz_ok (by decide +kernel)
theorem loX_d73 : decode xM218.2.1 73 = .ok (.if_icmp .ge 23, 3) := dz_ok (by decide +kernel)
theorem loX_d76 : decode xM218.2.1 76 = .ok (.lload_n 3, 1) := dz_ok (by decide +kernel)
theorem loX_d77 : decode xM218.2.1 77 = .ok (.bipush 10, 2) := dz_ok (by decide +kernel)
theorem loX_d79 : decode xM218.2.1 79 = .ok (.aload_n 0, 1) := dz_ok (by decide +kernel)
theorem loX_d80 : decode xM218.2.1 80 = .ok (.getfield 7, 3) := dz_ok (by decide +kernel)
theorem loX_d83 : decode xM218.2.1 83 = .ok (.bipush 7, 2) := dz_ok (by decide +kernel)
theorem loX_d85 : decode xM218.2.1 85 = .ok (.iaload, 1) := dz_ok (by decide +kernel)
theorem loX_d86 : decode xM218.2.1 86 = .ok (.isub, 1) := dz_ok (by decide +kernel)
theorem loX_d87 : decode xM218.2.1 87 = .ok (.i2l, 1) := dz_ok (by decide +kernel)
theorem loX_d88 : decode xM218.2.1 88 = .ok (.lmul, 1) := dz_ok (by decide +kernel)
theorem loX_d89 : decode xM218.2.1 89 = .ok (.lstore_n 3, 1) := dz_ok (by decide +kernel)
theorem loX_d90 : decode xM218.2.1 90 = .ok (.iinc 7 1, 3) := dz_ok (by decide +kernel)
theorem loX_d93 : decode xM218.2.1 93 = .ok (.goto (-24), 3) := dz_ok (by decide +kernel)
theorem loX_d96 : decode xM218.2.1 96 = .ok (.lload_n 3, 1) := dz_ok (by decide +kernel)
theorem loX_d97 : decode xM218.2.1 97 = .ok (.lreturn, 1) := dz_ok (by decide +kernel)
theorem loX_L69 {p : Program} {l : Launch} {e : Env} {s : State} {m : MethodId} {below : List Frame} {meth : Method} {c : Code} {D : va_G} {U : State} {Y0 : xY} {av : List Value} (B : y_B vwCl x_Tb x_Nb xM218 p s m meth c D U Y0 av) {this bk se : Nat} {w h : Int32} {fb fs : Nat → Int32} (hav : av = [.ref this, .int w, .int h]) (hh : 0 ≤ h.toInt ∧ h.toInt ≤ 9) (hs0 : x_sl D 12 0 this s.heap = some (.ref bk)) (hA0 : y_A bk 160 s.heap fb) (hcn : z_c fb) (hd0 : 0 ≤ (fb 0).toInt ∧ (fb 0).toInt ≤ 10) (hs8 : x_sl D 12 8 this s.heap = some (.ref se)) (hAs0 : y_A se 10 s.heap fs) {rt wr : Int32} {v0 : Int64} (hvz : v0 = (if (w >>> (h &&& 31)) &&& 1 = 1 then (0 : Int64) else (fb (14 + 5 * h.toInt.toNat)).toInt64)) (hrt9 : rt.toInt = (m_cn (m_soR fb fs (w ||| m_sh h) 1) (fb 0).toInt.toNat : Nat)) (hwr9 : wr.toInt = (m_cn (m_soR fb fs (w ||| m_sh h) 0) (fb 0).toInt.toNat : Nat)) :
    ∀ (n : Nat), ∀ (H : Heap) (Y : xY) (locs : List Loc) (ls : Array Slot) (k : Int32) (v9 : Int64), x_I D x_G x_Zs U (x_efs xM218) Y0 s.heap Y H locs → Y this = some 17 → Y bk = some 46 → Y se = some 51 → x_sl D 12 0 this H = some (.ref bk) → x_sl D 12 8 this H = some (.ref se) → y_A bk 160 H fb → y_A se 10 H fs → lv_has ls xM218.2.2.1 [(7, .int k), (3, .long v9), (5, .int rt), (6, .int wr), (0, .ref this), (1, .int w), (2, .int h)] → (0 ≤ k.toInt ∧ k.toInt ≤ wr.toInt) → (v9 = m_lp (m_lp v0 (fb 7).toInt64 rt.toInt.toNat) ((10 : Int32) - fb 7).toInt64 k.toInt.toNat) → (11 - k.toInt).toNat < n → W p l e (x_rm xM218) s m av.toArray below meth c H locs 0 0 (y_QQ below D x_G x_Zs U xM218 z_Plof av Y0 s) (F0 m 69 ls []) := by
  have X := B.1
  have hx := X.1
  have hb := X.2.1
  have hY0 := B.2.2.2.2.1
  intro n
  induction n with
  | zero => intro _ _ _ _ _ _ _ _ _ _ _ _ _ _ _ _ _ h; exact absurd h (Nat.not_lt_zero _)
  | succ n ih =>
    intro H Y locs ls k v9  hI hY_this hY_bk hY_se hs_bk hs_se hA_bk hA_se hl hk hv hn
    have hc1 := m_cn_le2 (L := m_soR fb fs (w ||| m_sh h) 1) (k := (fb 0).toInt.toNat) (by omega)
    have hc0 := m_cn_le2 (L := m_soR fb fs (w ||| m_sh h) 0) (k := (fb 0).toInt.toNat) (by omega)
    refine lv_iload hx hb loX_d69 (lv_at hl 0 rfl) ?_
    refine lv_iload hx hb loX_d71 (lv_at hl 3 rfl) ?_
    refine lv_icmp_ge hx hb loX_d73 (tgt := 96) (by decide) (fun q73 => ?_) (fun q73 => ?_)
    · have q73_ : wr.toInt ≤ k.toInt := x_le32.mp q73
      refine lv_lload_n hx hb loX_d96 rfl (lv_at hl 1 rfl) ?_
      subst hav
      exact y_lreturn B hI rfl rfl List.mem_cons_self ⟨_, rfl, ⟨_, rfl, x_i64 _⟩⟩ (x_cs.mono B.2.2.2.2.2 (y_mon B hI)) (fun t' b' w0' w1' f' h1 h2 h3 h4 se' S' h5 h6 => by cases h1; cases h2.symm.trans hs0; cases z_uniq h4 hA0 h3 hcn; cases h5.symm.trans hs8; have eS : ∀ i, i < (fb 0).toInt.toNat → S' i = fs i := (fun i hi => z_intI (h6 i hi) (hAs0 i (by omega))); refine congrArg (fun x => some (Value.long x)) ?_; unfold m_loR; rw [m_nj hh.1]; have e1 : m_cn (m_soR fb S' (w ||| m_sh h) 1) (fb 0).toInt.toNat = rt.toInt.toNat := (m_cn_congr (L := m_soR fb S' (w ||| m_sh h) 1) (L' := m_soR fb fs (w ||| m_sh h) 1) (fb 0).toInt.toNat fun i hi => (by unfold m_soR; rw [eS i hi])).trans (by omega); have e0 : m_cn (m_soR fb S' (w ||| m_sh h) 0) (fb 0).toInt.toNat = wr.toInt.toNat := (m_cn_congr (L := m_soR fb S' (w ||| m_sh h) 0) (L' := m_soR fb fs (w ||| m_sh h) 0) (fb 0).toInt.toNat fun i hi => (by unfold m_soR; rw [eS i hi])).trans (by omega); rw [e1, e0, ← hvz, show wr.toInt.toNat = k.toInt.toNat by omega]; exact hv) (Nat.le_refl _) (Nat.le_refl _) loX_d97
    · have q73_ : k.toInt < wr.toInt := Int.not_le.mp fun q => q73 (x_le32.mpr q)
      refine lv_lload_n hx hb loX_d76 rfl (lv_at hl 1 rfl) ?_
      refine lv_bipush hx hb loX_d77 (v := 10) (by decide) ?_
      have ec10 : (10 : Int32).toInt = 10 := by decide
      refine lv_aload_n hx hb loX_d79 rfl (lv_at hl 4 rfl) ?_
      refine y_getf X (fl190 X.2.2.2.2.1) hI.1 hY_this rfl hs_bk loX_d80 ?_
      refine lv_bipush hx hb loX_d83 (v := 7) (by decide) ?_
      have ec7 : (7 : Int32).toInt = 7 := by decide
      refine y_iald X hI.1 hY_bk rfl hA_bk (by omega) (by show _ < (160 : Int); omega) loX_d85 ?_
      obtain ⟨e85, hg_e85⟩ : ∃ e85 : Int32, fb (7 : Int32).toInt.toNat = e85 := ⟨_, rfl⟩
      rw [hg_e85]
      refine lv_isub hx hb loX_d86 ?_
      generalize hg_z86 : (10 : Int32) - e85 = z86
      obtain ⟨z87, hg_z87⟩ : ∃ z87 : Int64, z86.toInt64 = z87 := ⟨_, rfl⟩
      have h_z87 : z87.toInt = (z86).toInt := by rw [← hg_z87]; exact Int32.toInt_toInt64 _
      refine lv_i2l hx hb loX_d87 (v := z87) hg_z87 ?_
      refine lv_lmul hx hb loX_d88 ?_
      generalize hg_z88 : v9 * z87 = z88
      refine lv_lstore_n hx hb loX_d89 rfl hl (by decide) (lv' := [(3, .long z88), (7, .int k), (5, .int rt), (6, .int wr), (0, .ref this), (1, .int w), (2, .int h)]) rfl fun ls hl => ?_
      obtain ⟨z90, hg_z90⟩ : ∃ z90 : Int32, k + Int32.ofInt 1 = z90 := ⟨_, rfl⟩
      have h_z90 : z90.toInt = k.toInt + 1 := by rw [← hg_z90]; exact y_inc (by decide) (by omega) (by omega)
      refine lv_iinc hx hb loX_d90 hl (k := 1) rfl hg_z90 (by decide) (lv' := [(7, .int z90), (3, .long z88), (5, .int rt), (6, .int wr), (0, .ref this), (1, .int w), (2, .int h)]) rfl fun ls hl => ?_
      refine lv_goto hx hb loX_d93 (tgt := 69) (by decide) ?_
      have his : z90.toInt.toNat = k.toInt.toNat + 1 := by omega
      exact ih _ _ _ _ _ _ hI hY_this hY_bk hY_se hs_bk hs_se hA_bk hA_se (lv_sub hl [0, 1, 2, 3, 4, 5, 6] rfl) (by first | assumption | omega) (by rw [his]; show _ = m_lp _ _ k.toInt.toNat * _; rw [← hv, show fb 7 = e85 from hg_e85, hg_z86, hg_z87]; exact hg_z88.symm) (by omega)
theorem loX_L42 {p : Program} {l : Launch} {e : Env} {s : State} {m : MethodId} {below : List Frame} {meth : Method} {c : Code} {D : va_G} {U : State} {Y0 : xY} {av : List Value} (B : y_B vwCl x_Tb x_Nb xM218 p s m meth c D U Y0 av) {this bk se : Nat} {w h : Int32} {fb fs : Nat → Int32} (hav : av = [.ref this, .int w, .int h]) (hh : 0 ≤ h.toInt ∧ h.toInt ≤ 9) (hs0 : x_sl D 12 0 this s.heap = some (.ref bk)) (hA0 : y_A bk 160 s.heap fb) (hcn : z_c fb) (hd0 : 0 ≤ (fb 0).toInt ∧ (fb 0).toInt ≤ 10) (hs8 : x_sl D 12 8 this s.heap = some (.ref se)) (hAs0 : y_A se 10 s.heap fs) {rt wr : Int32} {v0 : Int64} (hvz : v0 = (if (w >>> (h &&& 31)) &&& 1 = 1 then (0 : Int64) else (fb (14 + 5 * h.toInt.toNat)).toInt64)) (hrt9 : rt.toInt = (m_cn (m_soR fb fs (w ||| m_sh h) 1) (fb 0).toInt.toNat : Nat)) (hwr9 : wr.toInt = (m_cn (m_soR fb fs (w ||| m_sh h) 0) (fb 0).toInt.toNat : Nat)) :
    ∀ (n : Nat), ∀ (H : Heap) (Y : xY) (locs : List Loc) (ls : Array Slot) (k : Int32) (v9 : Int64), x_I D x_G x_Zs U (x_efs xM218) Y0 s.heap Y H locs → Y this = some 17 → Y bk = some 46 → Y se = some 51 → x_sl D 12 0 this H = some (.ref bk) → x_sl D 12 8 this H = some (.ref se) → y_A bk 160 H fb → y_A se 10 H fs → lv_has ls xM218.2.2.1 [(7, .int k), (3, .long v9), (5, .int rt), (6, .int wr), (0, .ref this), (1, .int w), (2, .int h)] → (0 ≤ k.toInt ∧ k.toInt ≤ rt.toInt) → (v9 = m_lp v0 (fb 7).toInt64 k.toInt.toNat) → (11 - k.toInt).toNat < n → W p l e (x_rm xM218) s m av.toArray below meth c H locs 0 0 (y_QQ below D x_G x_Zs U xM218 z_Plof av Y0 s) (F0 m 42 ls []) := by
  have X := B.1
  have hx := X.1
  have hb := X.2.1
  have hY0 := B.2.2.2.2.1
  intro n
  induction n with
  | zero => intro _ _ _ _ _ _ _ _ _ _ _ _ _ _ _ _ _ h; exact absurd h (Nat.not_lt_zero _)
  | succ n ih =>
    intro H Y locs ls k v9  hI hY_this hY_bk hY_se hs_bk hs_se hA_bk hA_se hl hk hv hn
    have hc1 := m_cn_le2 (L := m_soR fb fs (w ||| m_sh h) 1) (k := (fb 0).toInt.toNat) (by omega)
    have hc0 := m_cn_le2 (L := m_soR fb fs (w ||| m_sh h) 0) (k := (fb 0).toInt.toNat) (by omega)
    refine lv_iload hx hb loX_d42 (lv_at hl 0 rfl) ?_
    refine lv_iload hx hb loX_d44 (lv_at hl 2 rfl) ?_
    refine lv_icmp_ge hx hb loX_d46 (tgt := 66) (by decide) (fun q46 => ?_) (fun q46 => ?_)
    · have q46_ : rt.toInt ≤ k.toInt := x_le32.mp q46
      refine lv_iconst hx hb loX_d66 (v := 0) (by decide) ?_
      have ec0 : (0 : Int32).toInt = 0 := by decide
      refine lv_istore hx hb loX_d67 hl (by decide) (lv' := [(7, .int (0 : Int32)), (3, .long v9), (5, .int rt), (6, .int wr), (0, .ref this), (1, .int w), (2, .int h)]) rfl fun ls hl => ?_
      exact loX_L69 B hav hh hs0 hA0 hcn hd0 hs8 hAs0 hvz hrt9 hwr9 12 _ _ _ _ _ _ hI hY_this hY_bk hY_se hs_bk hs_se hA_bk hA_se (lv_sub hl [0, 1, 2, 3, 4, 5, 6] rfl) (by first | assumption | omega) (by rw [z_i0, show rt.toInt.toNat = k.toInt.toNat by omega]; exact hv) (by omega)
    · have q46_ : k.toInt < rt.toInt := Int.not_le.mp fun q => q46 (x_le32.mpr q)
      refine lv_lload_n hx hb loX_d49 rfl (lv_at hl 1 rfl) ?_
      refine lv_aload_n hx hb loX_d50 rfl (lv_at hl 4 rfl) ?_
      refine y_getf X (fl190 X.2.2.2.2.1) hI.1 hY_this rfl hs_bk loX_d51 ?_
      refine lv_bipush hx hb loX_d54 (v := 7) (by decide) ?_
      have ec7 : (7 : Int32).toInt = 7 := by decide
      refine y_iald X hI.1 hY_bk rfl hA_bk (by omega) (by show _ < (160 : Int); omega) loX_d56 ?_
      obtain ⟨e56, hg_e56⟩ : ∃ e56 : Int32, fb (7 : Int32).toInt.toNat = e56 := ⟨_, rfl⟩
      rw [hg_e56]
      obtain ⟨z57, hg_z57⟩ : ∃ z57 : Int64, e56.toInt64 = z57 := ⟨_, rfl⟩
      have h_z57 : z57.toInt = (e56).toInt := by rw [← hg_z57]; exact Int32.toInt_toInt64 _
      refine lv_i2l hx hb loX_d57 (v := z57) hg_z57 ?_
      refine lv_lmul hx hb loX_d58 ?_
      generalize hg_z58 : v9 * z57 = z58
      refine lv_lstore_n hx hb loX_d59 rfl hl (by decide) (lv' := [(3, .long z58), (7, .int k), (5, .int rt), (6, .int wr), (0, .ref this), (1, .int w), (2, .int h)]) rfl fun ls hl => ?_
      obtain ⟨z60, hg_z60⟩ : ∃ z60 : Int32, k + Int32.ofInt 1 = z60 := ⟨_, rfl⟩
      have h_z60 : z60.toInt = k.toInt + 1 := by rw [← hg_z60]; exact y_inc (by decide) (by omega) (by omega)
      refine lv_iinc hx hb loX_d60 hl (k := 1) rfl hg_z60 (by decide) (lv' := [(7, .int z60), (3, .long z58), (5, .int rt), (6, .int wr), (0, .ref this), (1, .int w), (2, .int h)]) rfl fun ls hl => ?_
      refine lv_goto hx hb loX_d63 (tgt := 42) (by decide) ?_
      have his : z60.toInt.toNat = k.toInt.toNat + 1 := by omega
      exact ih _ _ _ _ _ _ hI hY_this hY_bk hY_se hs_bk hs_se hA_bk hA_se (lv_sub hl [0, 1, 2, 3, 4, 5, 6] rfl) (by first | assumption | omega) (by rw [his]; show _ = m_lp _ _ k.toInt.toNat * _; rw [← hv, show fb 7 = e56 from hg_e56, hg_z57]; exact hg_z58.symm) (by omega)
theorem ym_liesOf : y_Met vwCl x_G x_Zs x_Tb x_Nb xM218 y_T z_Plof := by
  refine y_main (by decide +kernel) (by decide +kernel) x_Tb_good x_Nb_ok ?_
  intro p l e s m below meth c D U Y0 av ls B hI _ hl
  have X := B.1
  have hx := X.1
  have hb := X.2.1
  have hY0 := B.2.2.2.2.1
  obtain ⟨v0, v1, v2, rfl, hv0, ⟨w, rfl, -⟩, ⟨h, rfl, hh⟩⟩ := y_three B.2.2.2.2.2
  replace hh : (0 : Int) ≤ h.toInt ∧ h.toInt ≤ 9 := hh
  obtain ⟨this, t0, rfl, ht0, hY_this⟩ := x_ref_at hv0 rfl
  obtain rfl := List.mem_singleton.mp ht0
  replace hl : lv_has ls xM218.2.2.1 [(0, .ref this), (1, .int w), (2, .int h)] := hl
  obtain ⟨bk, hs_bk, hY_bk⟩ := y_fldR (k := 0) hI.1 hY_this rfl rfl
  obtain ⟨fb9, hA9, hB9⟩ := y_arr hI.1 hY_bk rfl rfl
  obtain ⟨fb, hcn, hA_bk, hB_bk⟩ := z_canon (Y := Y0) (P := fun j v => x_c Y0 ([xI 0 10, xI 0 8, xI 0 8].getD j xF) (.int v)) hA9 hB9
  clear hA9 hB9 fb9
  have hs0 := hs_bk
  have hA0 := hA_bk
  have hd := z_hdr hB_bk
  have hd0 := hd.1
  have hd1 := hd.2.1
  obtain ⟨se, hs_se, hY_se⟩ := y_fldR (k := 8) hI.1 hY_this rfl rfl
  obtain ⟨fs, hA_se, -⟩ := y_arr hI.1 hY_se rfl rfl
  have hs8 := hs_se
  have hAs0 := hA_se
  refine lv_iload_n hx hb loX_d0 rfl (lv_at hl 1 rfl) ?_
  refine lv_iload_n hx hb loX_d1 rfl (lv_at hl 2 rfl) ?_
  refine lv_ishr hx hb loX_d2 ?_
  generalize hg_z2 : w >>> (h &&& 31) = z2
  refine lv_iconst hx hb loX_d3 (v := 1) (by decide) ?_
  have ec1 : (1 : Int32).toInt = 1 := by decide
  refine lv_iand hx hb loX_d4 ?_
  generalize hg_z4 : z2 &&& (1 : Int32) = z4
  refine lv_iconst hx hb loX_d5 (v := 1) (by decide) ?_
  refine lv_icmp_ne hx hb loX_d6 (tgt := 13) (by decide) (fun q6 => ?_) (fun q6 => ?_)
  · have q6_ : ¬ z4.toInt = (1 : Int32).toInt := fun q => q6 (Int32.toInt_inj.mp q)
    refine lv_aload_n hx hb loX_d13 rfl (lv_at hl 0 rfl) ?_
    refine lv_iload_n hx hb loX_d14 rfl (lv_at hl 2 rfl) ?_
    refine lv_iconst hx hb loX_d15 (v := 4) (by decide) ?_
    have ec4 : (4 : Int32).toInt = 4 := by decide
    refine y_call (z := (0, 99, 3, some 17, xM145)) (av := [.ref this, .int h, .int (4 : Int32)]) (rest := []) (y_cokV (n := 2) (ci := 12) X ym_ofHill rfl rfl rfl (x_cons (x_bw67 15 rfl rfl) (x_cons (x_bw68 1 rfl rfl) (x_cons (x_at 31 (by decide +kernel) rfl) (x_cons (x_bw0 9 rfl rfl) x_nilm)))) (x_bw68 2 rfl rfl) (by decide +kernel) ⟨Nat.le_of_ble_eq_true rfl, Nat.le_of_ble_eq_true rfl⟩) hY0 hI rfl loX_d16 hl.1 (Nat.le_of_ble_eq_true rfl) (Nat.le_of_ble_eq_true rfl) (Nat.le_of_ble_eq_true rfl) (y_cons (y_cref hY_this rfl) (y_cons ⟨_, rfl, by show (0 : Int) ≤ _; omega, by show _ ≤ (9 : Int); omega⟩ (y_cons ⟨_, rfl, by show (0 : Int) ≤ _; omega, by show _ ≤ (4 : Int); omega⟩ y_nil))) rfl (y_recv rfl hY_this) trivial (y_sub_ef rfl) fun v Yn o Hn L ho hr ha hIn hx_ hE hP => ?_
    have hPo := hP _ _ _ _ _ rfl hs_bk hA_bk
    replace hs_bk := y_Efld hE hY_this rfl (by decide) (by decide) hs_bk
    replace hs_se := y_Efld hE hY_this rfl (by decide) (by decide) hs_se
    replace hA_bk := hA_bk.kept (y_Earr hE hY_bk rfl (by decide))
    replace hA_se := hA_se.kept (y_Earr hE hY_se rfl (by decide))
    replace hY_this := y_ext hx_ hI.1 hY_this
    replace hY_bk := y_ext hx_ hI.1 hY_bk
    replace hY_se := y_ext hx_ hI.1 hY_se
    obtain ⟨r16, hg_r16⟩ : ∃ r16 : Int32, fb (10 + 5 * (h).toInt.toNat + ((4 : Int32)).toInt.toNat) = r16 := ⟨_, rfl⟩
    rw [hg_r16] at hPo
    obtain rfl := hPo
    clear ho hr ha hE hP hI hx_
    rename x_I _ _ _ _ _ _ _ _ _ _ => hI
    replace hg_r16 : fb (14 + 5 * h.toInt.toNat) = r16 := by rw [← hg_r16]; exact congrArg _ (by rw [show (4 : Int32).toInt.toNat = 4 by decide]; omega)
    obtain ⟨z19, hg_z19⟩ : ∃ z19 : Int64, r16.toInt64 = z19 := ⟨_, rfl⟩
    have h_z19 : z19.toInt = (r16).toInt := by rw [← hg_z19]; exact Int32.toInt_toInt64 _
    refine lv_i2l hx hb loX_d19 (v := z19) hg_z19 ?_
    refine lv_lstore_n hx hb loX_d20 rfl hl (by decide) (lv' := [(3, .long z19), (0, .ref this), (1, .int w), (2, .int h)]) rfl fun ls hl => ?_
    refine lv_aload_n hx hb loX_d21 rfl (lv_at hl 1 rfl) ?_
    refine lv_iload_n hx hb loX_d22 rfl (lv_at hl 2 rfl) ?_
    refine lv_iload_n hx hb loX_d23 rfl (lv_at hl 3 rfl) ?_
    refine lv_iconst hx hb loX_d24 (v := 1) (by decide) ?_
    refine y_call (z := (0, 275, 4, some 17, xM215)) (av := [.ref this, .int w, .int h, .int (1 : Int32)]) (rest := []) (y_cokV (n := 3) (ci := 12) X ym_so rfl rfl rfl (x_cons (x_bw85 5 rfl rfl) (x_cons (x_bw85 7 rfl rfl) (x_cons (x_at 60 (by decide +kernel) rfl) (x_cons (x_bw0 9 rfl rfl) x_nilm)))) (x_bw85 8 rfl rfl) (by decide +kernel) ⟨Nat.le_of_ble_eq_true rfl, Nat.le_of_ble_eq_true rfl⟩) hY0 hI rfl loX_d25 hl.1 (Nat.le_of_ble_eq_true rfl) (Nat.le_of_ble_eq_true rfl) (Nat.le_of_ble_eq_true rfl) (y_cons (y_cref hY_this rfl) (y_cons ⟨_, rfl, x_i32 _⟩ (y_cons ⟨_, rfl, by show (0 : Int) ≤ _; omega, by show _ ≤ (9 : Int); omega⟩ (y_cons ⟨_, rfl, by show (0 : Int) ≤ _; omega, by show _ ≤ (1 : Int); omega⟩ y_nil)))) rfl (y_recv rfl hY_this) trivial (y_sub_ef rfl) fun v Yn o Hn L ho hr ha hIn hx_ hE hP => ?_
    obtain ⟨r25, rfl, h_r25⟩ := hP _ _ _ _ _ _ rfl hs_bk hcn hA_bk _ fs hs_se (fun i hi => hA_se i (by omega))
    replace hs_bk := y_Efld hE hY_this rfl (by decide) (by decide) hs_bk
    replace hs_se := y_Efld hE hY_this rfl (by decide) (by decide) hs_se
    replace hA_bk := hA_bk.kept (y_Earr hE hY_bk rfl (by decide))
    replace hA_se := hA_se.kept (y_Earr hE hY_se rfl (by decide))
    replace hY_this := y_ext hx_ hI.1 hY_this
    replace hY_bk := y_ext hx_ hI.1 hY_bk
    replace hY_se := y_ext hx_ hI.1 hY_se
    clear ho hr ha hE hP hI hx_
    rename x_I _ _ _ _ _ _ _ _ _ _ => hI
    refine lv_istore hx hb loX_d28 hl (by decide) (lv' := [(5, .int r25), (3, .long z19), (0, .ref this), (1, .int w), (2, .int h)]) rfl fun ls hl => ?_
    refine lv_aload_n hx hb loX_d30 rfl (lv_at hl 2 rfl) ?_
    refine lv_iload_n hx hb loX_d31 rfl (lv_at hl 3 rfl) ?_
    refine lv_iload_n hx hb loX_d32 rfl (lv_at hl 4 rfl) ?_
    refine lv_iconst hx hb loX_d33 (v := 0) (by decide) ?_
    have ec0 : (0 : Int32).toInt = 0 := by decide
    refine y_call (z := (0, 275, 4, some 17, xM215)) (av := [.ref this, .int w, .int h, .int (0 : Int32)]) (rest := []) (y_cokV (n := 3) (ci := 12) X ym_so rfl rfl rfl (x_cons (x_bw85 5 rfl rfl) (x_cons (x_bw85 7 rfl rfl) (x_cons (x_at 60 (by decide +kernel) rfl) (x_cons (x_bw0 9 rfl rfl) x_nilm)))) (x_bw85 8 rfl rfl) (by decide +kernel) ⟨Nat.le_of_ble_eq_true rfl, Nat.le_of_ble_eq_true rfl⟩) hY0 hI rfl loX_d34 hl.1 (Nat.le_of_ble_eq_true rfl) (Nat.le_of_ble_eq_true rfl) (Nat.le_of_ble_eq_true rfl) (y_cons (y_cref hY_this rfl) (y_cons ⟨_, rfl, x_i32 _⟩ (y_cons ⟨_, rfl, by show (0 : Int) ≤ _; omega, by show _ ≤ (9 : Int); omega⟩ (y_cons ⟨_, rfl, by show (0 : Int) ≤ _; omega, by show _ ≤ (1 : Int); omega⟩ y_nil)))) rfl (y_recv rfl hY_this) trivial (y_sub_ef rfl) fun v Yn o Hn L ho hr ha hIn hx_ hE hP => ?_
    obtain ⟨r34, rfl, h_r34⟩ := hP _ _ _ _ _ _ rfl hs_bk hcn hA_bk _ fs hs_se (fun i hi => hA_se i (by omega))
    replace hs_bk := y_Efld hE hY_this rfl (by decide) (by decide) hs_bk
    replace hs_se := y_Efld hE hY_this rfl (by decide) (by decide) hs_se
    replace hA_bk := hA_bk.kept (y_Earr hE hY_bk rfl (by decide))
    replace hA_se := hA_se.kept (y_Earr hE hY_se rfl (by decide))
    replace hY_this := y_ext hx_ hI.1 hY_this
    replace hY_bk := y_ext hx_ hI.1 hY_bk
    replace hY_se := y_ext hx_ hI.1 hY_se
    clear ho hr ha hE hP hI hx_
    rename x_I _ _ _ _ _ _ _ _ _ _ => hI
    refine lv_istore hx hb loX_d37 hl (by decide) (lv' := [(6, .int r34), (5, .int r25), (3, .long z19), (0, .ref this), (1, .int w), (2, .int h)]) rfl fun ls hl => ?_
    refine lv_iconst hx hb loX_d39 (v := 0) (by decide) ?_
    refine lv_istore hx hb loX_d40 hl (by decide) (lv' := [(7, .int (0 : Int32)), (6, .int r34), (5, .int r25), (3, .long z19), (0, .ref this), (1, .int w), (2, .int h)]) rfl fun ls hl => ?_
    exact loX_L42 B rfl hh hs0 hA0 hcn hd0 hs8 hAs0 (by rw [hg_z2, hg_z4, if_neg (by assumption), hg_r16]) h_r25 h_r34 12 _ _ _ _ _ _ hI hY_this hY_bk hY_se hs_bk hs_se hA_bk hA_se (lv_sub hl [0, 3, 2, 1, 4, 5, 6] rfl) ⟨by decide, by have := h_r25; rw [m_c0]; omega⟩ (by rw [z_i0]; first | rfl | exact hg_z19.symm) (by omega)
  · have q6_ : z4.toInt = (1 : Int32).toInt := by rw [q6]
    refine lv_lconst hx hb loX_d9 (v := 0) (by decide) ?_
    have el0 : (0 : Int64).toInt = 0 := by decide
    refine lv_goto hx hb loX_d10 (tgt := 20) (by decide) ?_
    refine lv_lstore_n hx hb loX_d20 rfl hl (by decide) (lv' := [(3, .long (0 : Int64)), (0, .ref this), (1, .int w), (2, .int h)]) rfl fun ls hl => ?_
    refine lv_aload_n hx hb loX_d21 rfl (lv_at hl 1 rfl) ?_
    refine lv_iload_n hx hb loX_d22 rfl (lv_at hl 2 rfl) ?_
    refine lv_iload_n hx hb loX_d23 rfl (lv_at hl 3 rfl) ?_
    refine lv_iconst hx hb loX_d24 (v := 1) (by decide) ?_
    refine y_call (z := (0, 275, 4, some 17, xM215)) (av := [.ref this, .int w, .int h, .int (1 : Int32)]) (rest := []) (y_cokV (n := 3) (ci := 12) X ym_so rfl rfl rfl (x_cons (x_bw85 5 rfl rfl) (x_cons (x_bw85 7 rfl rfl) (x_cons (x_at 60 (by decide +kernel) rfl) (x_cons (x_bw0 9 rfl rfl) x_nilm)))) (x_bw85 8 rfl rfl) (by decide +kernel) ⟨Nat.le_of_ble_eq_true rfl, Nat.le_of_ble_eq_true rfl⟩) hY0 hI rfl loX_d25 hl.1 (Nat.le_of_ble_eq_true rfl) (Nat.le_of_ble_eq_true rfl) (Nat.le_of_ble_eq_true rfl) (y_cons (y_cref hY_this rfl) (y_cons ⟨_, rfl, x_i32 _⟩ (y_cons ⟨_, rfl, by show (0 : Int) ≤ _; omega, by show _ ≤ (9 : Int); omega⟩ (y_cons ⟨_, rfl, by show (0 : Int) ≤ _; omega, by show _ ≤ (1 : Int); omega⟩ y_nil)))) rfl (y_recv rfl hY_this) trivial (y_sub_ef rfl) fun v Yn o Hn L ho hr ha hIn hx_ hE hP => ?_
    obtain ⟨r25, rfl, h_r25⟩ := hP _ _ _ _ _ _ rfl hs_bk hcn hA_bk _ fs hs_se (fun i hi => hA_se i (by omega))
    replace hs_bk := y_Efld hE hY_this rfl (by decide) (by decide) hs_bk
    replace hs_se := y_Efld hE hY_this rfl (by decide) (by decide) hs_se
    replace hA_bk := hA_bk.kept (y_Earr hE hY_bk rfl (by decide))
    replace hA_se := hA_se.kept (y_Earr hE hY_se rfl (by decide))
    replace hY_this := y_ext hx_ hI.1 hY_this
    replace hY_bk := y_ext hx_ hI.1 hY_bk
    replace hY_se := y_ext hx_ hI.1 hY_se
    clear ho hr ha hE hP hI hx_
    rename x_I _ _ _ _ _ _ _ _ _ _ => hI
    refine lv_istore hx hb loX_d28 hl (by decide) (lv' := [(5, .int r25), (3, .long (0 : Int64)), (0, .ref this), (1, .int w), (2, .int h)]) rfl fun ls hl => ?_
    refine lv_aload_n hx hb loX_d30 rfl (lv_at hl 2 rfl) ?_
    refine lv_iload_n hx hb loX_d31 rfl (lv_at hl 3 rfl) ?_
    refine lv_iload_n hx hb loX_d32 rfl (lv_at hl 4 rfl) ?_
    refine lv_iconst hx hb loX_d33 (v := 0) (by decide) ?_
    have ec0 : (0 : Int32).toInt = 0 := by decide
    refine y_call (z := (0, 275, 4, some 17, xM215)) (av := [.ref this, .int w, .int h, .int (0 : Int32)]) (rest := []) (y_cokV (n := 3) (ci := 12) X ym_so rfl rfl rfl (x_cons (x_bw85 5 rfl rfl) (x_cons (x_bw85 7 rfl rfl) (x_cons (x_at 60 (by decide +kernel) rfl) (x_cons (x_bw0 9 rfl rfl) x_nilm)))) (x_bw85 8 rfl rfl) (by decide +kernel) ⟨Nat.le_of_ble_eq_true rfl, Nat.le_of_ble_eq_true rfl⟩) hY0 hI rfl loX_d34 hl.1 (Nat.le_of_ble_eq_true rfl) (Nat.le_of_ble_eq_true rfl) (Nat.le_of_ble_eq_true rfl) (y_cons (y_cref hY_this rfl) (y_cons ⟨_, rfl, x_i32 _⟩ (y_cons ⟨_, rfl, by show (0 : Int) ≤ _; omega, by show _ ≤ (9 : Int); omega⟩ (y_cons ⟨_, rfl, by show (0 : Int) ≤ _; omega, by show _ ≤ (1 : Int); omega⟩ y_nil)))) rfl (y_recv rfl hY_this) trivial (y_sub_ef rfl) fun v Yn o Hn L ho hr ha hIn hx_ hE hP => ?_
    obtain ⟨r34, rfl, h_r34⟩ := hP _ _ _ _ _ _ rfl hs_bk hcn hA_bk _ fs hs_se (fun i hi => hA_se i (by omega))
    replace hs_bk := y_Efld hE hY_this rfl (by decide) (by decide) hs_bk
    replace hs_se := y_Efld hE hY_this rfl (by decide) (by decide) hs_se
    replace hA_bk := hA_bk.kept (y_Earr hE hY_bk rfl (by decide))
    replace hA_se := hA_se.kept (y_Earr hE hY_se rfl (by decide))
    replace hY_this := y_ext hx_ hI.1 hY_this
    replace hY_bk := y_ext hx_ hI.1 hY_bk
    replace hY_se := y_ext hx_ hI.1 hY_se
    clear ho hr ha hE hP hI hx_
    rename x_I _ _ _ _ _ _ _ _ _ _ => hI
    refine lv_istore hx hb loX_d37 hl (by decide) (lv' := [(6, .int r34), (5, .int r25), (3, .long (0 : Int64)), (0, .ref this), (1, .int w), (2, .int h)]) rfl fun ls hl => ?_
    refine lv_iconst hx hb loX_d39 (v := 0) (by decide) ?_
    refine lv_istore hx hb loX_d40 hl (by decide) (lv' := [(7, .int (0 : Int32)), (6, .int r34), (5, .int r25), (3, .long (0 : Int64)), (0, .ref this), (1, .int w), (2, .int h)]) rfl fun ls hl => ?_
    exact loX_L42 B rfl hh hs0 hA0 hcn hd0 hs8 hAs0 (by rw [hg_z2, hg_z4, if_pos (by assumption)]) h_r25 h_r34 12 _ _ _ _ _ _ hI hY_this hY_bk hY_se hs_bk hs_se hA_bk hA_se (lv_sub hl [0, 3, 2, 1, 4, 5, 6] rfl) ⟨by decide, by have := h_r25; rw [m_c0]; omega⟩ (by rw [z_i0]; first | rfl | exact hg_z19.symm) (by omega)
def z_PMch : yP := fun D av _ H v _ H' => ∀ (this bk : Nat) (w h : Int32) (f : Nat → Int32), av = [.ref this, .int w, .int h] → x_sl D 12 0 this H = some (.ref bk) → z_c f → y_A bk 160 H f → ∃ r : Int32, v = some (.int r) ∧ m_3 (m_isS f w ∧ m_isH f h) (m_lwR f w) (¬ m_chsR f (m_thR f w) (f 0).toInt.toNat = 0) r ∧ z_fxM D H H' this r (m_chUR f w h.toInt.toNat) (m_chDR f w)
theorem chX_d0 : decode xMch.2.1 0 = .ok (.aload_n 0, 1) := dz_ok (by decide +kernel)
theorem chX_d1 : decode xMch.2.1 1 = .ok (.iload_n 1, 1) := dz_ok (by decide +kernel)
theorem chX_d2 : decode xMch.2.1 2 = .ok (.invokevirtual 237, 3) := dz_ok (by decide +kernel)
theorem chX_d5 : decode xMch.2.1 5 = .ok (.ifCond .eq 11, 3) := dz_ok (by decide +kernel)
theorem chX_d8 : decode xMch.2.1 8 = .ok (.aload_n 0, 1) := dz_ok (by decide +kernel)
theorem chX_d9 : decode xMch.2.1 9 = .ok (.iload_n 2, 1) := dz_ok (by decide +kernel)
theorem chX_d10 : decode xMch.2.1 10 = .ok (.invokevirtual 151, 3) := dz_ok (by decide +kernel)
theorem chX_d13 : decode xMch.2.1 13 = .ok (.ifCond .ne 8, 3) := dz_ok (by decide +kernel)
theorem chX_d16 : decode xMch.2.1 16 = .ok (.aload_n 0, 1) := dz_ok (by decide +kernel)
theorem chX_d17 : decode xMch.2.1 17 = .ok (.invokevirtual 102, 3) := dz_ok (by decide +kernel)
theorem chX_d20 : decode xMch.2.1 20 = .ok (.ireturn, 1) := dz_ok (by decide +kernel)
theorem chX_d21 : decode xMch.2.1 21 = .ok (.aload_n 0, 1) := dz_ok (by decide +kernel)
theorem chX_d22 : decode xMch.2.1 22 = .ok (.invokevirtual 240, 3) := dz_ok (by decide +kernel)
theorem chX_d25 : decode xMch.2.1 25 = .ok (.aload_n 0, 1) := dz_ok (by decide +kernel)
theorem chX_d26 : decode xMch.2.1 26 = .ok (.iload_n 1, 1) := dz_ok (by decide +kernel)
theorem chX_d27 : decode xMch.2.1 27 = .ok (.invokevirtual 243, 3) := dz_ok (by decide +kernel)
theorem chX_d30 : decode xMch.2.1 30 = .ok (.ifCond .eq 11, 3) := dz_ok (by decide +kernel)
theorem chX_d33 : decode xMch.2.1 33 = .ok (.aload_n 0, 1) := dz_ok (by decide +kernel)
theorem chX_d34 : decode xMch.2.1 34 = .ok (.iload_n 1, 1) := dz_ok (by decide +kernel)
theorem chX_d35 : decode xMch.2.1 35 = .ok (.invokevirtual 279, 3) := dz_ok (by decide +kernel)
theorem chX_d38 : decode xMch.2.1 38 = .ok (.goto 4, 3) := dz_ok (by decide +kernel)
theorem chX_d41 : decode xMch.2.1 41 = .ok (.iconst 0, 1) := dz_ok (by decide +kernel)
theorem chX_d42 : decode xMch.2.1 42 = .ok (.istore_n 3, 1) := dz_ok (by decide +kernel)
theorem chX_d43 : decode xMch.2.1 43 = .ok (.iconst 0, 1) := dz_ok (by decide +kernel)
theorem chX_d44 : decode xMch.2.1 44 = .ok (.istore 4, 2) := dz_ok (by decide +kernel)
theorem chX_d46 : decode xMch.2.1 46 = .ok (.iconst 0, 1) := dz_ok (by decide +kernel)
theorem chX_d47 : decode xMch.2.1 47 = .ok (.istore 5, 2) := dz_ok (by decide +kernel)
theorem chX_d49 : decode xMch.2.1 49 = .ok (.iload 5, 2) := dz_ok (by decide +kernel)
theorem chX_d51 : decode xMch.2.1 51 = .ok (.aload_n 0, 1) := dz_ok (by decide +kernel)
theorem chX_d52 : decode xMch.2.1 52 = .ok (.getfield 7, 3) := dz_ok (by decide +kernel)
theorem chX_d55 : decode xMch.2.1 55 = .ok (.iconst 0, 1) := dz_ok (by decide +kernel)
theorem chX_d56 : decode xMch.2.1 56 = .ok (.iaload, 1) := dz_ok (by decide +kernel)
theorem chX_d57 : decode xMch.2.1 57 = .ok (.if_icmp .ge 28, 3) := dz_ok (by decide +kernel)
theorem chX_d60 : decode xMch.2.1 60 = .ok (.iload 4, 2) := dz_ok (by decide +kernel)
theorem chX_d62 : decode xMch.2.1 62 = .ok (.iload_n 3, 1) := dz_ok (by decide +kernel)
theorem chX_d63 : decode xMch.2.1 63 = .ok (.iload 5, 2) := dz_ok (by decide +kernel)
theorem chX_d65 : decode xMch.2.1 65 = .ok (.ishr, 1) := dz_ok (by decide +kernel)
theorem chX_d66 : decode xMch.2.1 66 = .ok (.iconst 1, 1) := dz_ok (by decide +kernel)
theorem chX_d67 : decode xMch.2.1 67 = .ok (.iand, 1) := dz_ok (by decide +kernel)
theorem chX_d68 : decode xMch.2.1 68 = .ok (.aload_n 0, 1) := dz_ok (by decide +kernel)
theorem chX_d69 : decode xMch.2.1 69 = .ok (.iload 5, 2) := dz_ok (by decide +kernel)
theorem chX_d71 : decode xMch.2.1 71 = .ok (.iconst 4, 1) := dz_ok (by decide +kernel)
theorem chX_d72 : decode xMch.2.1 72 = .ok (.invokevirtual 99, 3) := dz_ok (by decide +kernel)
theorem chX_d75 : decode xMch.2.1 75 = .ok (.imul, 1) := dz_ok (by decide +kernel)
theorem chX_d76 : decode xMch.2.1 76 = .ok (.iadd, 1) := dz_ok (by decide +kernel)
theorem chX_d77 : decode xMch.2.1 77 = .ok (.istore 4, 2) := dz_ok (by decide +kernel)
theorem chX_d79 : decode xMch.2.1 79 = .ok (.iinc 5 1, 3) := dz_ok (by decide +kernel)
theorem chX_d82 : decode xMch.2.1 82 = .ok (.goto (-33), 3) := dz_ok (by decide +kernel)
theorem chX_d85 : decode xMch.2.1 85 = .ok (.iload 4, 2) := dz_ok (by decide +kernel)
theorem chX_d87 : decode xMch.2.1 87 = .ok (.ifCond .ne 10, 3) := dz_ok (by decide +kernel)
theorem chX_d90 : decode xMch.2.1 90 = .ok (.aload_n 0, 1) := dz_ok (by decide +kernel)
theorem chX_d91 : decode xMch.2.1 91 = .ok (.invokevirtual 126, 3) := dz_ok (by decide +kernel)
theorem chX_d94 : decode xMch.2.1 94 = .ok (.goto 23, 3) := dz_ok (by decide +kernel)
theorem chX_d97 : decode xMch.2.1 97 = .ok (.aload_n 0, 1) := dz_ok (by decide +kernel)
theorem chX_d98 : decode xMch.2.1 98 = .ok (.iload_n 3, 1) := dz_ok (by decide +kernel)
theorem chX_d99 : decode xMch.2.1 99 = .ok (.iload_n 2, 1) := dz_ok (by decide +kernel)
theorem chX_d100 : decode xMch.2.1 100 = .ok (.ishr, 1) := dz_ok (by decide +kernel)
theorem chX_d101 : decode xMch.2.1 101 = .ok (.iconst 1, 1) := dz_ok (by decide +kernel)
theorem chX_d102 : decode xMch.2.1 102 = .ok (.iand, 1) := dz_ok (by decide +kernel)
theorem chX_d103 : decode xMch.2.1 103 = .ok (.aload_n 0, 1) := dz_ok (by decide +kernel)
theorem chX_d104 : decode xMch.2.1 104 = .ok (.iload_n 2, 1) := dz_ok (by decide +kernel)
theorem chX_d105 : decode xMch.2.1 105 = .ok (.iconst 4, 1) := dz_ok (by decide +kernel)
theorem chX_d106 : decode xMch.2.1 106 = .ok (.invokevirtual 99, 3) := dz_ok (by decide +kernel)
theorem chX_d109 : decode xMch.2.1 109 = .ok (.imul, 1) := dz_ok (by decide +kernel)
theorem chX_d110 : decode xMch.2.1 110 = .ok (.i2l, 1) := dz_ok (by decide +kernel)
theorem chX_d111 : decode xMch.2.1 111 = .ok (.iload 4, 2) := dz_ok (by decide +kernel)
theorem chX_d113 : decode xMch.2.1 113 = .ok (.i2l, 1) := dz_ok (by decide +kernel)
theorem chX_d114 : decode xMch.2.1 114 = .ok (.invokevirtual 154, 3) := dz_ok (by decide +kernel)
theorem chX_d117 : decode xMch.2.1 117 = .ok (.ireturn, 1) := dz_ok (by decide +kernel)
theorem chX_L49 {p : Program} {l : Launch} {e : Env} {s : State} {m : MethodId} {below : List Frame} {meth : Method} {c : Code} {D : va_G} {U : State} {Y0 : xY} {av : List Value} (B : y_B vwCl x_Tb x_Nb xMch p s m meth c D U Y0 av) {this bk : Nat} {w h : Int32} {fb : Nat → Int32} {ga gb : Int64} (hav : av = [.ref this, .int w, .int h]) (hs0 : x_sl D 12 0 this s.heap = some (.ref bk)) (hA0 : y_A bk 160 s.heap fb) (hcn : z_c fb) (hd0 : 0 ≤ (fb 0).toInt ∧ (fb 0).toInt ≤ 10) (hfa0 : x_sl D 12 6 this s.heap = some (.long ga)) (hfb0 : x_sl D 12 7 this s.heap = some (.long gb)) (hok : m_isS fb w ∧ m_isH fb h) {th : Int32} (hth : th = m_thR fb w) :
    ∀ (n : Nat), ∀ (H : Heap) (Y : xY) (locs : List Loc) (ls : Array Slot) (j : Int32) (al : Int32), x_I D x_G x_Zs U (x_efs xMch) Y0 s.heap Y H locs → Y this = some 17 → Y bk = some 46 → x_sl D 12 0 this H = some (.ref bk) → y_A bk 160 H fb → x_sl D 12 6 this H = some (.long ga) → x_sl D 12 7 this H = some (.long gb) → lv_has ls xMch.2.2.1 [(5, .int j), (4, .int al), (3, .int th), (0, .ref this), (1, .int w), (2, .int h)] → (0 ≤ j.toInt ∧ j.toInt ≤ (fb 0).toInt) → (al = m_chsR fb th j.toInt.toNat) → (11 - j.toInt).toNat < n → W p l e (x_rm xMch) s m av.toArray below meth c H locs 0 0 (y_QQ below D x_G x_Zs U xMch z_PMch av Y0 s) (F0 m 49 ls []) := by
  have X := B.1
  have hx := X.1
  have hb := X.2.1
  have hY0 := B.2.2.2.2.1
  intro n
  induction n with
  | zero => intro _ _ _ _ _ _ _ _ _ _ _ _ _ _ _ _ h; exact absurd h (Nat.not_lt_zero _)
  | succ n ih =>
    intro H Y locs ls j al  hI hY_this hY_bk hs_bk hA_bk hs_fa hs_fb hl hj hal hn
    have hh9 := hok.2
    unfold m_isH at hh9
    refine lv_iload hx hb chX_d49 (lv_at hl 0 rfl) ?_
    refine lv_aload_n hx hb chX_d51 rfl (lv_at hl 3 rfl) ?_
    refine y_getf X (fl190 X.2.2.2.2.1) hI.1 hY_this rfl hs_bk chX_d52 ?_
    refine lv_iconst hx hb chX_d55 (v := 0) (by decide) ?_
    have ec0 : (0 : Int32).toInt = 0 := by decide
    refine y_iald X hI.1 hY_bk rfl hA_bk (by omega) (by show _ < (160 : Int); omega) chX_d56 ?_
    obtain ⟨e56, hg_e56⟩ : ∃ e56 : Int32, fb (0 : Int32).toInt.toNat = e56 := ⟨_, rfl⟩
    rw [hg_e56]
    rw [z_i0] at hg_e56
    have h_e56 : e56.toInt = (fb 0).toInt := by rw [hg_e56]
    refine lv_icmp_ge hx hb chX_d57 (tgt := 85) (by decide) (fun q57 => ?_) (fun q57 => ?_)
    · have q57_ : e56.toInt ≤ j.toInt := x_le32.mp q57
      refine lv_iload hx hb chX_d85 (lv_at hl 1 rfl) ?_
      refine lv_if_ne hx hb chX_d87 (tgt := 97) (by decide) (fun q87 => ?_) (fun q87 => ?_)
      · have q87_ : ¬ al.toInt = (0 : Int32).toInt := fun q => q87 (Int32.toInt_inj.mp q)
        have hk9 : j.toInt.toNat = (fb 0).toInt.toNat := by omega
        have hs9 : m_chsR fb (m_thR fb w) (fb 0).toInt.toNat = al := by rw [← hth, ← hk9]; exact hal.symm
        have hnz : ¬ al = 0 := by assumption
        have hlw9 : m_lwR fb w = true := by cases hX : m_lwR fb w with | true => rfl | false => exact absurd (hs9.symm.trans (by unfold m_thR; rw [hX, if_neg (fun q9 => by cases q9)]; exact m_chsR_0 _ (by omega))) hnz
        have rs := x_rng al
        have hDR : (m_chDR fb w).toInt = al.toInt := by unfold m_chDR; rw [hs9]; exact Int32.toInt_toInt64 _
        rcases (show 1 ≤ al.toInt ∨ al.toInt ≤ -1 by omega) with hc | hc
        · refine lv_aload_n hx hb chX_d97 rfl (lv_at hl 3 rfl) ?_
          refine lv_iload_n hx hb chX_d98 rfl (lv_at hl 2 rfl) ?_
          refine lv_iload_n hx hb chX_d99 rfl (lv_at hl 5 rfl) ?_
          refine lv_ishr hx hb chX_d100 ?_
          generalize hg_z100 : th >>> (h &&& 31) = z100
          refine lv_iconst hx hb chX_d101 (v := 1) (by decide) ?_
          have ec1 : (1 : Int32).toInt = 1 := by decide
          refine lv_iand hx hb chX_d102 ?_
          generalize hg_z102 : z100 &&& (1 : Int32) = z102
          refine lv_aload_n hx hb chX_d103 rfl (lv_at hl 3 rfl) ?_
          refine lv_iload_n hx hb chX_d104 rfl (lv_at hl 5 rfl) ?_
          refine lv_iconst hx hb chX_d105 (v := 4) (by decide) ?_
          have ec4 : (4 : Int32).toInt = 4 := by decide
          refine y_call (z := (0, 99, 3, some 17, xM145)) (av := [.ref this, .int h, .int (4 : Int32)]) (rest := [.int z102, .ref this]) (y_cokV (n := 2) (ci := 12) X ym_ofHill rfl rfl rfl (x_cons (x_bw67 15 rfl rfl) (x_cons (x_bw68 1 rfl rfl) (x_cons (x_at 31 (by decide +kernel) rfl) (x_cons (x_bw0 9 rfl rfl) x_nilm)))) (x_bw68 2 rfl rfl) (by decide +kernel) ⟨Nat.le_of_ble_eq_true rfl, Nat.le_of_ble_eq_true rfl⟩) hY0 hI rfl chX_d106 hl.1 (Nat.le_of_ble_eq_true rfl) (Nat.le_of_ble_eq_true rfl) (Nat.le_of_ble_eq_true rfl) (y_cons (y_cref hY_this rfl) (y_cons ⟨_, rfl, by show (0 : Int) ≤ _; omega, by show _ ≤ (9 : Int); omega⟩ (y_cons ⟨_, rfl, by show (0 : Int) ≤ _; omega, by show _ ≤ (4 : Int); omega⟩ y_nil))) rfl (y_recv rfl hY_this) trivial (y_sub_ef rfl) fun v Yn o Hn L ho hr ha hIn hx_ hE hP => ?_
          have hPo := hP _ _ _ _ _ rfl hs_bk hA_bk
          replace hs_bk := y_Efld hE hY_this rfl (by decide) (by decide) hs_bk
          replace hs_fa := y_Efld hE hY_this rfl (by decide) (by decide) hs_fa
          replace hs_fb := y_Efld hE hY_this rfl (by decide) (by decide) hs_fb
          replace hA_bk := hA_bk.kept (y_Earr hE hY_bk rfl (by decide))
          replace hY_this := y_ext hx_ hI.1 hY_this
          replace hY_bk := y_ext hx_ hI.1 hY_bk
          obtain ⟨r106, hg_r106⟩ : ∃ r106 : Int32, fb (10 + 5 * (h).toInt.toNat + ((4 : Int32)).toInt.toNat) = r106 := ⟨_, rfl⟩
          rw [hg_r106] at hPo
          obtain rfl := hPo
          clear ho hr ha hE hP hI hx_
          rename x_I _ _ _ _ _ _ _ _ _ _ => hI
          replace hg_r106 : fb (14 + 5 * h.toInt.toNat) = r106 := by rw [← hg_r106]; exact congrArg _ (by rw [show (4 : Int32).toInt.toNat = 4 by decide]; omega)
          refine lv_imul hx hb chX_d109 ?_
          generalize hg_z109 : z102 * r106 = z109
          obtain ⟨z110, hg_z110⟩ : ∃ z110 : Int64, z109.toInt64 = z110 := ⟨_, rfl⟩
          have h_z110 : z110.toInt = (z109).toInt := by rw [← hg_z110]; exact Int32.toInt_toInt64 _
          refine lv_i2l hx hb chX_d110 (v := z110) hg_z110 ?_
          refine lv_iload hx hb chX_d111 (lv_at hl 1 rfl) ?_
          obtain ⟨z113, hg_z113⟩ : ∃ z113 : Int64, al.toInt64 = z113 := ⟨_, rfl⟩
          have h_z113 : z113.toInt = (al).toInt := by rw [← hg_z113]; exact Int32.toInt_toInt64 _
          refine lv_i2l hx hb chX_d113 (v := z113) hg_z113 ?_
          have hU9 : m_chUR fb w h.toInt.toNat = z110 := by unfold m_chUR; rw [← hth, m_nj hh9.1, hg_z100, hg_z102, hg_r106, hg_z109]; exact hg_z110
          have hD9 : m_chDR fb w = z113 := by unfold m_chDR; rw [hs9]; exact hg_z113
          refine y_call (z := (0, 154, 3, some 17, xM1009)) (av := [.ref this, .long z110, .long z113]) (rest := []) (y_cokV (n := 2) (ci := 12) X ym_tellsF rfl rfl rfl (x_cons (x_bw73 2 rfl rfl) (x_cons (x_bw73 4 rfl rfl) (x_cons (x_at 43 (by decide +kernel) rfl) (x_cons (x_bw0 9 rfl rfl) x_nilm)))) (x_bw73 5 rfl rfl) (by decide +kernel) ⟨Nat.le_of_ble_eq_true rfl, Nat.le_of_ble_eq_true rfl⟩) hY0 hI rfl chX_d114 hl.1 (Nat.le_of_ble_eq_true rfl) (Nat.le_of_ble_eq_true rfl) (Nat.le_of_ble_eq_true rfl) (y_cons (y_cref hY_this rfl) (y_cons ⟨_, rfl, x_i64 _⟩ (y_cons ⟨_, rfl, by show (1 : Int) ≤ _; omega, by show _ ≤ (9223372036854775807 : Int); omega⟩ y_nil))) rfl (y_recv rfl hY_this) trivial (y_sub_ef rfl) fun v Yn o Hn L ho hr ha hIn hx_ hE hP => ?_
          obtain ⟨hv9, hPf⟩ := hP _ _ _ rfl
          subst hv9
          replace hs_bk := y_Efld hE hY_this rfl (by decide) (by decide) hs_bk
          replace hA_bk := hA_bk.kept (y_Earr hE hY_bk rfl (by decide))
          replace hY_this := y_ext hx_ hI.1 hY_this
          replace hY_bk := y_ext hx_ hI.1 hY_bk
          clear ho hr ha hE hP hI hx_
          rename x_I _ _ _ _ _ _ _ _ _ _ => hI
          rw [← hU9, ← hD9] at hPf
          subst hav
          exact y_ireturn B hI rfl rfl rfl List.mem_cons_self ⟨_, rfl, ⟨_, rfl, x_i32 _⟩⟩ (x_cs.mono B.2.2.2.2.2 (y_mon B hI)) (fun t' b' w0' w1' f' h1 h2 h3 h4 => by cases h1; cases h2.symm.trans hs0; cases z_uniq h4 hA0 h3 hcn; exact ⟨_, rfl, ⟨fun _ _ _ => rfl, fun _ _ q9 => absurd (fun q8 => hnz (hs9.symm.trans q8)) q9, fun _ q9 => absurd hlw9 (by rw [q9]; decide), fun q9 => absurd hok q9⟩, ⟨fun q9 => absurd rfl q9, fun _ => hPf⟩⟩) (Nat.le_refl _) (Nat.le_refl _) chX_d117
        · refine lv_aload_n hx hb chX_d97 rfl (lv_at hl 3 rfl) ?_
          refine lv_iload_n hx hb chX_d98 rfl (lv_at hl 2 rfl) ?_
          refine lv_iload_n hx hb chX_d99 rfl (lv_at hl 5 rfl) ?_
          refine lv_ishr hx hb chX_d100 ?_
          generalize hg_z100 : th >>> (h &&& 31) = z100
          refine lv_iconst hx hb chX_d101 (v := 1) (by decide) ?_
          have ec1 : (1 : Int32).toInt = 1 := by decide
          refine lv_iand hx hb chX_d102 ?_
          generalize hg_z102 : z100 &&& (1 : Int32) = z102
          refine lv_aload_n hx hb chX_d103 rfl (lv_at hl 3 rfl) ?_
          refine lv_iload_n hx hb chX_d104 rfl (lv_at hl 5 rfl) ?_
          refine lv_iconst hx hb chX_d105 (v := 4) (by decide) ?_
          have ec4 : (4 : Int32).toInt = 4 := by decide
          refine y_call (z := (0, 99, 3, some 17, xM145)) (av := [.ref this, .int h, .int (4 : Int32)]) (rest := [.int z102, .ref this]) (y_cokV (n := 2) (ci := 12) X ym_ofHill rfl rfl rfl (x_cons (x_bw67 15 rfl rfl) (x_cons (x_bw68 1 rfl rfl) (x_cons (x_at 31 (by decide +kernel) rfl) (x_cons (x_bw0 9 rfl rfl) x_nilm)))) (x_bw68 2 rfl rfl) (by decide +kernel) ⟨Nat.le_of_ble_eq_true rfl, Nat.le_of_ble_eq_true rfl⟩) hY0 hI rfl chX_d106 hl.1 (Nat.le_of_ble_eq_true rfl) (Nat.le_of_ble_eq_true rfl) (Nat.le_of_ble_eq_true rfl) (y_cons (y_cref hY_this rfl) (y_cons ⟨_, rfl, by show (0 : Int) ≤ _; omega, by show _ ≤ (9 : Int); omega⟩ (y_cons ⟨_, rfl, by show (0 : Int) ≤ _; omega, by show _ ≤ (4 : Int); omega⟩ y_nil))) rfl (y_recv rfl hY_this) trivial (y_sub_ef rfl) fun v Yn o Hn L ho hr ha hIn hx_ hE hP => ?_
          have hPo := hP _ _ _ _ _ rfl hs_bk hA_bk
          replace hs_bk := y_Efld hE hY_this rfl (by decide) (by decide) hs_bk
          replace hs_fa := y_Efld hE hY_this rfl (by decide) (by decide) hs_fa
          replace hs_fb := y_Efld hE hY_this rfl (by decide) (by decide) hs_fb
          replace hA_bk := hA_bk.kept (y_Earr hE hY_bk rfl (by decide))
          replace hY_this := y_ext hx_ hI.1 hY_this
          replace hY_bk := y_ext hx_ hI.1 hY_bk
          obtain ⟨r106, hg_r106⟩ : ∃ r106 : Int32, fb (10 + 5 * (h).toInt.toNat + ((4 : Int32)).toInt.toNat) = r106 := ⟨_, rfl⟩
          rw [hg_r106] at hPo
          obtain rfl := hPo
          clear ho hr ha hE hP hI hx_
          rename x_I _ _ _ _ _ _ _ _ _ _ => hI
          replace hg_r106 : fb (14 + 5 * h.toInt.toNat) = r106 := by rw [← hg_r106]; exact congrArg _ (by rw [show (4 : Int32).toInt.toNat = 4 by decide]; omega)
          refine lv_imul hx hb chX_d109 ?_
          generalize hg_z109 : z102 * r106 = z109
          obtain ⟨z110, hg_z110⟩ : ∃ z110 : Int64, z109.toInt64 = z110 := ⟨_, rfl⟩
          have h_z110 : z110.toInt = (z109).toInt := by rw [← hg_z110]; exact Int32.toInt_toInt64 _
          refine lv_i2l hx hb chX_d110 (v := z110) hg_z110 ?_
          refine lv_iload hx hb chX_d111 (lv_at hl 1 rfl) ?_
          obtain ⟨z113, hg_z113⟩ : ∃ z113 : Int64, al.toInt64 = z113 := ⟨_, rfl⟩
          have h_z113 : z113.toInt = (al).toInt := by rw [← hg_z113]; exact Int32.toInt_toInt64 _
          refine lv_i2l hx hb chX_d113 (v := z113) hg_z113 ?_
          have hU9 : m_chUR fb w h.toInt.toNat = z110 := by unfold m_chUR; rw [← hth, m_nj hh9.1, hg_z100, hg_z102, hg_r106, hg_z109]; exact hg_z110
          have hD9 : m_chDR fb w = z113 := by unfold m_chDR; rw [hs9]; exact hg_z113
          refine y_call (z := (0, 154, 3, some 17, xM1015)) (av := [.ref this, .long z110, .long z113]) (rest := []) (y_cok.of (x_cokV (n := 2) (ci := 12) X xm1015 rfl rfl rfl (x_cons (x_bw73 2 rfl rfl) (x_cons (x_bw73 4 rfl rfl) (x_cons (x_at 43 (by decide +kernel) rfl) (x_cons (x_bw0 9 rfl rfl) x_nilm)))) (x_bw73 5 rfl rfl) (by decide +kernel) ⟨Nat.le_of_ble_eq_true rfl, Nat.le_of_ble_eq_true rfl⟩)) hY0 hI rfl chX_d114 hl.1 (Nat.le_of_ble_eq_true rfl) (Nat.le_of_ble_eq_true rfl) (Nat.le_of_ble_eq_true rfl) (y_cons (y_cref hY_this rfl) (y_cons ⟨_, rfl, x_i64 _⟩ (y_cons ⟨_, rfl, by show ((-9223372036854775808) : Int) ≤ _; omega, by show _ ≤ ((-1) : Int); omega⟩ y_nil))) rfl (y_recv rfl hY_this) trivial (y_sub_ef rfl) fun v Yn o Hn L ho hr ha hIn hx_ hE hP => ?_
          replace hs_bk := y_Efld hE hY_this rfl (by decide) (by decide) hs_bk
          replace hA_bk := hA_bk.kept (y_Earr hE hY_bk rfl (by decide))
          replace hY_this := y_ext hx_ hI.1 hY_this
          replace hY_bk := y_ext hx_ hI.1 hY_bk
          obtain ⟨r114, rfl, h_r114⟩ := y_ansI (lo := 1) (hi := 1) (by decide) ho hr
          clear ho hr ha hE hP hI hx_
          rename x_I _ _ _ _ _ _ _ _ _ _ => hI
          subst hav
          exact y_ireturn B hI rfl rfl rfl List.mem_cons_self ⟨_, rfl, ⟨_, rfl, x_i32 _⟩⟩ (x_cs.mono B.2.2.2.2.2 (y_mon B hI)) (fun t' b' w0' w1' f' h1 h2 h3 h4 => by cases h1; cases h2.symm.trans hs0; cases z_uniq h4 hA0 h3 hcn; exact ⟨_, rfl, ⟨fun _ _ _ => (Int32.toInt_inj.mp (show _ = (1 : Int32).toInt by rw [m_c1]; omega)), fun _ _ q9 => absurd (fun q8 => hnz (hs9.symm.trans q8)) q9, fun _ q9 => absurd hlw9 (by rw [q9]; decide), fun q9 => absurd hok q9⟩, ⟨fun q9 => absurd (Int32.toInt_inj.mp (show _ = (1 : Int32).toInt by rw [m_c1]; omega)) q9, fun _ q9 => by exfalso; omega⟩⟩) (Nat.le_refl _) (Nat.le_refl _) chX_d117
      · have q87_ : al.toInt = (0 : Int32).toInt := by rw [q87]
        refine lv_aload_n hx hb chX_d90 rfl (lv_at hl 3 rfl) ?_
        refine y_call (z := (0, 126, 1, some 17, xM164)) (av := [.ref this]) (rest := []) (y_cokV (n := 0) (ci := 12) X ym_no rfl rfl rfl (x_cons (x_bw70 11 rfl rfl) (x_cons (x_bw70 13 rfl rfl) (x_cons (x_at 38 (by decide +kernel) rfl) (x_cons (x_bw0 9 rfl rfl) x_nilm)))) (x_bw70 14 rfl rfl) (by decide +kernel) ⟨Nat.le_of_ble_eq_true rfl, Nat.le_of_ble_eq_true rfl⟩) hY0 hI rfl chX_d91 hl.1 (Nat.le_of_ble_eq_true rfl) (Nat.le_of_ble_eq_true rfl) (Nat.le_of_ble_eq_true rfl) (y_cons (y_cref hY_this rfl) y_nil) rfl (y_recv rfl hY_this) trivial (y_sub_ef rfl) fun v Yn o Hn L ho hr ha hIn hx_ hE hP => ?_
        replace hs_bk := y_Efld hE hY_this rfl (by decide) (by decide) hs_bk
        replace hs_fa := y_Efld hE hY_this rfl (by decide) (by decide) hs_fa
        replace hs_fb := y_Efld hE hY_this rfl (by decide) (by decide) hs_fb
        replace hA_bk := hA_bk.kept (y_Earr hE hY_bk rfl (by decide))
        replace hY_this := y_ext hx_ hI.1 hY_this
        replace hY_bk := y_ext hx_ hI.1 hY_bk
        have hPb := hP
        obtain rfl := hPb
        clear ho hr ha hE hP hI hx_
        rename x_I _ _ _ _ _ _ _ _ _ _ => hI
        refine lv_goto hx hb chX_d94 (tgt := 117) (by decide) ?_
        have hk9 : j.toInt.toNat = (fb 0).toInt.toNat := by omega
        have hs9 : m_chsR fb (m_thR fb w) (fb 0).toInt.toNat = al := by rw [← hth, ← hk9]; exact hal.symm
        subst hav
        exact y_ireturn B hI rfl rfl rfl List.mem_cons_self ⟨_, rfl, ⟨_, rfl, x_i32 _⟩⟩ (x_cs.mono B.2.2.2.2.2 (y_mon B hI)) (fun t' b' w0' w1' f' h1 h2 h3 h4 => by cases h1; cases h2.symm.trans hs0; cases z_uniq h4 hA0 h3 hcn; exact ⟨_, rfl, ⟨fun _ _ q9 => absurd (hs9.trans (by assumption)) q9, fun _ _ _ => rfl, fun _ _ => rfl, fun q9 => absurd hok q9⟩, ⟨fun _ a9 b9 h9 => by cases hfa0.symm.trans h9.1; cases hfb0.symm.trans h9.2; exact ⟨hs_fa, hs_fb⟩, fun q9 => absurd q9 (by decide)⟩⟩) (Nat.le_refl _) (Nat.le_refl _) chX_d117
    · have q57_ : j.toInt < e56.toInt := Int.not_le.mp fun q => q57 (x_le32.mpr q)
      refine lv_iload hx hb chX_d60 (lv_at hl 1 rfl) ?_
      refine lv_iload_n hx hb chX_d62 rfl (lv_at hl 2 rfl) ?_
      refine lv_iload hx hb chX_d63 (lv_at hl 0 rfl) ?_
      refine lv_ishr hx hb chX_d65 ?_
      generalize hg_z65 : th >>> (j &&& 31) = z65
      refine lv_iconst hx hb chX_d66 (v := 1) (by decide) ?_
      have ec1 : (1 : Int32).toInt = 1 := by decide
      refine lv_iand hx hb chX_d67 ?_
      generalize hg_z67 : z65 &&& (1 : Int32) = z67
      refine lv_aload_n hx hb chX_d68 rfl (lv_at hl 3 rfl) ?_
      refine lv_iload hx hb chX_d69 (lv_at hl 0 rfl) ?_
      refine lv_iconst hx hb chX_d71 (v := 4) (by decide) ?_
      have ec4 : (4 : Int32).toInt = 4 := by decide
      refine y_call (z := (0, 99, 3, some 17, xM145)) (av := [.ref this, .int j, .int (4 : Int32)]) (rest := [.int z67, .int al]) (y_cokV (n := 2) (ci := 12) X ym_ofHill rfl rfl rfl (x_cons (x_bw67 15 rfl rfl) (x_cons (x_bw68 1 rfl rfl) (x_cons (x_at 31 (by decide +kernel) rfl) (x_cons (x_bw0 9 rfl rfl) x_nilm)))) (x_bw68 2 rfl rfl) (by decide +kernel) ⟨Nat.le_of_ble_eq_true rfl, Nat.le_of_ble_eq_true rfl⟩) hY0 hI rfl chX_d72 hl.1 (Nat.le_of_ble_eq_true rfl) (Nat.le_of_ble_eq_true rfl) (Nat.le_of_ble_eq_true rfl) (y_cons (y_cref hY_this rfl) (y_cons ⟨_, rfl, by show (0 : Int) ≤ _; omega, by show _ ≤ (9 : Int); omega⟩ (y_cons ⟨_, rfl, by show (0 : Int) ≤ _; omega, by show _ ≤ (4 : Int); omega⟩ y_nil))) rfl (y_recv rfl hY_this) trivial (y_sub_ef rfl) fun v Yn o Hn L ho hr ha hIn hx_ hE hP => ?_
      have hPo := hP _ _ _ _ _ rfl hs_bk hA_bk
      replace hs_bk := y_Efld hE hY_this rfl (by decide) (by decide) hs_bk
      replace hs_fa := y_Efld hE hY_this rfl (by decide) (by decide) hs_fa
      replace hs_fb := y_Efld hE hY_this rfl (by decide) (by decide) hs_fb
      replace hA_bk := hA_bk.kept (y_Earr hE hY_bk rfl (by decide))
      replace hY_this := y_ext hx_ hI.1 hY_this
      replace hY_bk := y_ext hx_ hI.1 hY_bk
      obtain ⟨r72, hg_r72⟩ : ∃ r72 : Int32, fb (10 + 5 * (j).toInt.toNat + ((4 : Int32)).toInt.toNat) = r72 := ⟨_, rfl⟩
      rw [hg_r72] at hPo
      obtain rfl := hPo
      clear ho hr ha hE hP hI hx_
      rename x_I _ _ _ _ _ _ _ _ _ _ => hI
      replace hg_r72 : fb (14 + 5 * j.toInt.toNat) = r72 := by rw [← hg_r72]; exact congrArg _ (by rw [show (4 : Int32).toInt.toNat = 4 by decide]; omega)
      refine lv_imul hx hb chX_d75 ?_
      generalize hg_z75 : z67 * r72 = z75
      refine lv_iadd hx hb chX_d76 ?_
      generalize hg_z76 : al + z75 = z76
      refine lv_istore hx hb chX_d77 hl (by decide) (lv' := [(4, .int z76), (5, .int j), (3, .int th), (0, .ref this), (1, .int w), (2, .int h)]) rfl fun ls hl => ?_
      obtain ⟨z79, hg_z79⟩ : ∃ z79 : Int32, j + Int32.ofInt 1 = z79 := ⟨_, rfl⟩
      have h_z79 : z79.toInt = j.toInt + 1 := by rw [← hg_z79]; exact y_inc (by decide) (by omega) (by omega)
      refine lv_iinc hx hb chX_d79 hl (k := 1) rfl hg_z79 (by decide) (lv' := [(5, .int z79), (4, .int z76), (3, .int th), (0, .ref this), (1, .int w), (2, .int h)]) rfl fun ls hl => ?_
      refine lv_goto hx hb chX_d82 (tgt := 49) (by decide) ?_
      have his : z79.toInt.toNat = j.toInt.toNat + 1 := by omega
      have hnj := m_nj hj.1
      exact ih _ _ _ _ _ _ hI hY_this hY_bk hs_bk hA_bk hs_fa hs_fb (lv_sub hl [0, 1, 2, 3, 4, 5] rfl) (by first | assumption | omega) (by rw [his]; show _ = _ + _ * _; rw [hnj, ← hal, hg_r72, hg_z65, hg_z67, hg_z75]; exact hg_z76.symm) (by omega)
theorem ym_chanceM : y_Met vwCl x_G x_Zs x_Tb x_Nb xMch y_T z_PMch := by
  refine y_main (by decide +kernel) (by decide +kernel) x_Tb_good x_Nb_ok ?_
  intro p l e s m below meth c D U Y0 av ls B hI _ hl
  have X := B.1
  have hx := X.1
  have hb := X.2.1
  have hY0 := B.2.2.2.2.1
  obtain ⟨v0, v1, v2, rfl, hv0, ⟨w, rfl, -⟩, ⟨h, rfl, -⟩⟩ := y_three B.2.2.2.2.2
  obtain ⟨this, t0, rfl, ht0, hY_this⟩ := x_ref_at hv0 rfl
  obtain rfl := List.mem_singleton.mp ht0
  replace hl : lv_has ls xMch.2.2.1 [(0, .ref this), (1, .int w), (2, .int h)] := hl
  obtain ⟨bk, hs_bk, hY_bk⟩ := y_fldR (k := 0) hI.1 hY_this rfl rfl
  obtain ⟨fb9, hA9, hB9⟩ := y_arr hI.1 hY_bk rfl rfl
  obtain ⟨fb, hcn, hA_bk, hB_bk⟩ := z_canon (Y := Y0) (P := fun j v => x_c Y0 ([xI 0 10, xI 0 8, xI 0 8].getD j xF) (.int v)) hA9 hB9
  clear hA9 hB9 fb9
  have hs0 := hs_bk
  have hA0 := hA_bk
  have hd := z_hdr hB_bk
  have hd0 := hd.1
  have hd1 := hd.2.1
  obtain ⟨se, hs_se, hY_se⟩ := y_fldR (k := 8) hI.1 hY_this rfl rfl
  obtain ⟨ga, hs_fa⟩ := y_fldL (k := 6) hI.1 hY_this rfl rfl
  obtain ⟨gb, hs_fb⟩ := y_fldL (k := 7) hI.1 hY_this rfl rfl
  have hfa0 := hs_fa
  have hfb0 := hs_fb
  refine lv_aload_n hx hb chX_d0 rfl (lv_at hl 0 rfl) ?_
  refine lv_iload_n hx hb chX_d1 rfl (lv_at hl 1 rfl) ?_
  refine y_call (z := (0, 237, 2, some 17, xM184)) (av := [.ref this, .int w]) (rest := []) (y_cokV (n := 1) (ci := 12) X ym_isSet rfl rfl rfl (x_cons (x_bw77 0 rfl rfl) (x_cons (x_bw77 2 rfl rfl) (x_cons (x_at 48 (by decide +kernel) rfl) (x_cons (x_bw0 9 rfl rfl) x_nilm)))) (x_bw77 3 rfl rfl) (by decide +kernel) ⟨Nat.le_of_ble_eq_true rfl, Nat.le_of_ble_eq_true rfl⟩) hY0 hI rfl chX_d2 hl.1 (Nat.le_of_ble_eq_true rfl) (Nat.le_of_ble_eq_true rfl) (Nat.le_of_ble_eq_true rfl) (y_cons (y_cref hY_this rfl) (y_cons ⟨_, rfl, x_i32 _⟩ y_nil)) rfl (y_recv rfl hY_this) trivial (y_sub_ef rfl) fun v Yn o Hn L ho hr ha hIn hx_ hE hP => ?_
  have hPv := hP _ _ _ _ rfl hs_bk (hA_bk 0 (by decide))
  replace hs_bk := y_Efld hE hY_this rfl (by decide) (by decide) hs_bk
  replace hs_se := y_Efld hE hY_this rfl (by decide) (by decide) hs_se
  replace hs_fa := y_Efld hE hY_this rfl (by decide) (by decide) hs_fa
  replace hs_fb := y_Efld hE hY_this rfl (by decide) (by decide) hs_fb
  replace hA_bk := hA_bk.kept (y_Earr hE hY_bk rfl (by decide))
  replace hY_this := y_ext hx_ hI.1 hY_this
  replace hY_bk := y_ext hx_ hI.1 hY_bk
  replace hY_se := y_ext hx_ hI.1 hY_se
  obtain ⟨r2, rfl, hin_r2, hout_r2⟩ := hPv
  clear ho hr ha hE hP hI hx_
  rename x_I _ _ _ _ _ _ _ _ _ _ => hI
  have ec0 : (0 : Int32).toInt = 0 := by decide
  refine lv_if_eq hx hb chX_d5 (tgt := 16) (by decide) (fun q5 => ?_) (fun q5 => ?_)
  · have q5_ : r2.toInt = (0 : Int32).toInt := by rw [q5]
    have hno : ¬ (m_isS fb w ∧ m_isH fb h) := fun q9 => by first | (have h8 := hout_r2 (by assumption); have h7 := q9.1; unfold m_isS at h7; omega) | exact hout_r10 (by assumption) q9.2
    refine lv_aload_n hx hb chX_d16 rfl (lv_at hl 0 rfl) ?_
    refine y_call (z := (0, 102, 1, some 17, xM143)) (av := [.ref this]) (rest := []) (y_cokV (n := 0) (ci := 12) X ym_bad rfl rfl rfl (x_cons (x_bw68 3 rfl rfl) (x_cons (x_bw68 5 rfl rfl) (x_cons (x_at 32 (by decide +kernel) rfl) (x_cons (x_bw0 9 rfl rfl) x_nilm)))) (x_bw68 6 rfl rfl) (by decide +kernel) ⟨Nat.le_of_ble_eq_true rfl, Nat.le_of_ble_eq_true rfl⟩) hY0 hI rfl chX_d17 hl.1 (Nat.le_of_ble_eq_true rfl) (Nat.le_of_ble_eq_true rfl) (Nat.le_of_ble_eq_true rfl) (y_cons (y_cref hY_this rfl) y_nil) rfl (y_recv rfl hY_this) trivial (y_sub_ef rfl) fun v Yn o Hn L ho hr ha hIn hx_ hE hP => ?_
    replace hs_bk := y_Efld hE hY_this rfl (by decide) (by decide) hs_bk
    replace hs_se := y_Efld hE hY_this rfl (by decide) (by decide) hs_se
    replace hs_fa := y_Efld hE hY_this rfl (by decide) (by decide) hs_fa
    replace hs_fb := y_Efld hE hY_this rfl (by decide) (by decide) hs_fb
    replace hA_bk := hA_bk.kept (y_Earr hE hY_bk rfl (by decide))
    replace hY_this := y_ext hx_ hI.1 hY_this
    replace hY_bk := y_ext hx_ hI.1 hY_bk
    replace hY_se := y_ext hx_ hI.1 hY_se
    have hPb := hP
    obtain rfl := hPb
    clear ho hr ha hE hP hI hx_
    rename x_I _ _ _ _ _ _ _ _ _ _ => hI
    exact y_ireturn B hI rfl rfl rfl List.mem_cons_self ⟨_, rfl, ⟨_, rfl, x_i32 _⟩⟩ (x_cs.mono B.2.2.2.2.2 (y_mon B hI)) (fun t' b' w0' w1' f' h1 h2 h3 h4 => by cases h1; cases h2.symm.trans hs0; cases z_uniq h4 hA0 h3 hcn; exact ⟨_, rfl, ⟨fun q9 => absurd q9 hno, fun q9 => absurd q9 hno, fun q9 => absurd q9 hno, fun _ => rfl⟩, ⟨fun _ a9 b9 h9 => by cases hfa0.symm.trans h9.1; cases hfb0.symm.trans h9.2; exact ⟨hs_fa, hs_fb⟩, fun q9 => absurd q9 (by decide)⟩⟩) (Nat.le_refl _) (Nat.le_refl _) chX_d20
  · have q5_ : ¬ r2.toInt = (0 : Int32).toInt := fun q => q5 (Int32.toInt_inj.mp q)
    refine lv_aload_n hx hb chX_d8 rfl (lv_at hl 0 rfl) ?_
    refine lv_iload_n hx hb chX_d9 rfl (lv_at hl 2 rfl) ?_
    refine y_call (z := (0, 151, 2, some 17, xM171)) (av := [.ref this, .int h]) (rest := []) (y_cokV (n := 1) (ci := 12) X ym_isHillX rfl rfl rfl (x_cons (x_bw72 2 rfl rfl) (x_cons (x_bw72 4 rfl rfl) (x_cons (x_at 40 (by decide +kernel) rfl) (x_cons (x_bw0 9 rfl rfl) x_nilm)))) (x_bw72 5 rfl rfl) (by decide +kernel) ⟨Nat.le_of_ble_eq_true rfl, Nat.le_of_ble_eq_true rfl⟩) hY0 hI rfl chX_d10 hl.1 (Nat.le_of_ble_eq_true rfl) (Nat.le_of_ble_eq_true rfl) (Nat.le_of_ble_eq_true rfl) (y_cons (y_cref hY_this rfl) (y_cons ⟨_, rfl, x_i32 _⟩ y_nil)) rfl (y_recv rfl hY_this) trivial (y_sub_ef rfl) fun v Yn o Hn L ho hr ha hIn hx_ hE hP => ?_
    have hPq := hP _ _ _ _ rfl hs_bk hcn hA_bk
    replace hs_bk := y_Efld hE hY_this rfl (by decide) (by decide) hs_bk
    replace hs_se := y_Efld hE hY_this rfl (by decide) (by decide) hs_se
    replace hs_fa := y_Efld hE hY_this rfl (by decide) (by decide) hs_fa
    replace hs_fb := y_Efld hE hY_this rfl (by decide) (by decide) hs_fb
    replace hA_bk := hA_bk.kept (y_Earr hE hY_bk rfl (by decide))
    replace hY_this := y_ext hx_ hI.1 hY_this
    replace hY_bk := y_ext hx_ hI.1 hY_bk
    replace hY_se := y_ext hx_ hI.1 hY_se
    obtain ⟨r10, rfl, hin_r10, hout_r10⟩ := hPq
    clear ho hr ha hE hP hI hx_
    rename x_I _ _ _ _ _ _ _ _ _ _ => hI
    refine lv_if_ne hx hb chX_d13 (tgt := 21) (by decide) (fun q13 => ?_) (fun q13 => ?_)
    · have q13_ : ¬ r10.toInt = (0 : Int32).toInt := fun q => q13 (Int32.toInt_inj.mp q)
      have hok : m_isS fb w ∧ m_isH fb h := ⟨hin_r2 (by assumption), hin_r10 (by assumption)⟩
      refine lv_aload_n hx hb chX_d21 rfl (lv_at hl 0 rfl) ?_
      refine y_call (z := (0, 240, 1, some 17, xM186)) (av := [.ref this]) (rest := []) (y_cokV (n := 0) (ci := 12) X ym_looksNow rfl rfl rfl (x_cons (x_bw77 8 rfl rfl) (x_cons (x_bw77 10 rfl rfl) (x_cons (x_at 50 (by decide +kernel) rfl) (x_cons (x_bw0 9 rfl rfl) x_nilm)))) (x_bw77 11 rfl rfl) (by decide +kernel) ⟨Nat.le_of_ble_eq_true rfl, Nat.le_of_ble_eq_true rfl⟩) hY0 hI rfl chX_d22 hl.1 (Nat.le_of_ble_eq_true rfl) (Nat.le_of_ble_eq_true rfl) (Nat.le_of_ble_eq_true rfl) (y_cons (y_cref hY_this rfl) y_nil) rfl (y_recv rfl hY_this) trivial (y_sub_ef rfl) fun v Yn o Hn L ho hr ha hIn hx_ hE hP => ?_
      have hPs := hP _ _ _ rfl hs_bk hcn hA_bk _ hs_se
      replace hs_bk := y_Efld hE hY_this rfl (by decide) (by decide) hs_bk
      replace hs_se := y_Efld hE hY_this rfl (by decide) (by decide) hs_se
      replace hs_fa := y_Efld hE hY_this rfl (by decide) (by decide) hs_fa
      replace hs_fb := y_Efld hE hY_this rfl (by decide) (by decide) hs_fb
      replace hA_bk := hA_bk.kept (y_Earr hE hY_bk rfl (by decide))
      replace hY_this := y_ext hx_ hI.1 hY_this
      replace hY_bk := y_ext hx_ hI.1 hY_bk
      replace hY_se := y_ext hx_ hI.1 hY_se
      obtain rfl := y_ansV rfl ho hr
      obtain ⟨fs, hA_se, -⟩ := y_arr hIn.1 hY_se rfl rfl
      have hVs : ∀ i, i < (fb 0).toInt.toNat → fs i = (m_VR fb (fb 4) (fb 5)) i := fun i hi => z_intI (hA_se i (by omega)) (hPs i hi)
      clear ho hr ha hE hP hI hx_
      rename x_I _ _ _ _ _ _ _ _ _ _ => hI
      refine lv_aload_n hx hb chX_d25 rfl (lv_at hl 0 rfl) ?_
      refine lv_iload_n hx hb chX_d26 rfl (lv_at hl 1 rfl) ?_
      refine y_call (z := (0, 243, 2, some 17, xM191)) (av := [.ref this, .int w]) (rest := []) (y_cokV (n := 1) (ci := 12) X ym_isLawfulX rfl rfl rfl (x_cons (x_bw78 11 rfl rfl) (x_cons (x_bw78 13 rfl rfl) (x_cons (x_at 52 (by decide +kernel) rfl) (x_cons (x_bw0 9 rfl rfl) x_nilm)))) (x_bw78 14 rfl rfl) (by decide +kernel) ⟨Nat.le_of_ble_eq_true rfl, Nat.le_of_ble_eq_true rfl⟩) hY0 hI rfl chX_d27 hl.1 (Nat.le_of_ble_eq_true rfl) (Nat.le_of_ble_eq_true rfl) (Nat.le_of_ble_eq_true rfl) (y_cons (y_cref hY_this rfl) (y_cons ⟨_, rfl, x_i32 _⟩ y_nil)) rfl (y_recv rfl hY_this) trivial (y_sub_ef rfl) fun v Yn o Hn L ho hr ha hIn hx_ hE hP => ?_
      have hPs := hP _ _ _ _ rfl hs_bk hcn hA_bk _ (m_VR fb (fb 4) (fb 5)) hs_se (fun i hi => by rw [hA_se i (by omega), hVs i hi])
      obtain rfl := hPs
      replace hs_bk := y_Efld hE hY_this rfl (by decide) (by decide) hs_bk
      replace hs_se := y_Efld hE hY_this rfl (by decide) (by decide) hs_se
      replace hs_fa := y_Efld hE hY_this rfl (by decide) (by decide) hs_fa
      replace hs_fb := y_Efld hE hY_this rfl (by decide) (by decide) hs_fb
      replace hA_bk := hA_bk.kept (y_Earr hE hY_bk rfl (by decide))
      replace hA_se := hA_se.kept (y_Earr hE hY_se rfl (by decide))
      replace hY_this := y_ext hx_ hI.1 hY_this
      replace hY_bk := y_ext hx_ hI.1 hY_bk
      replace hY_se := y_ext hx_ hI.1 hY_se
      generalize hg_r27 : m_b (m_lw (m_VR fb (fb 4) (fb 5)) w (fb 0).toInt.toNat) = r27
      clear ho hr ha hE hP hI hx_
      rename x_I _ _ _ _ _ _ _ _ _ _ => hI
      refine lv_if_eq hx hb chX_d30 (tgt := 41) (by decide) (fun q30 => ?_) (fun q30 => ?_)
      · have q30_ : r27.toInt = (0 : Int32).toInt := by rw [q30]
        refine lv_iconst hx hb chX_d41 (v := 0) (by decide) ?_
        refine lv_istore_n hx hb chX_d42 rfl hl (by decide) (lv' := [(3, .int (0 : Int32)), (0, .ref this), (1, .int w), (2, .int h)]) rfl fun ls hl => ?_
        refine lv_iconst hx hb chX_d43 (v := 0) (by decide) ?_
        refine lv_istore hx hb chX_d44 hl (by decide) (lv' := [(4, .int (0 : Int32)), (3, .int (0 : Int32)), (0, .ref this), (1, .int w), (2, .int h)]) rfl fun ls hl => ?_
        refine lv_iconst hx hb chX_d46 (v := 0) (by decide) ?_
        refine lv_istore hx hb chX_d47 hl (by decide) (lv' := [(5, .int (0 : Int32)), (4, .int (0 : Int32)), (3, .int (0 : Int32)), (0, .ref this), (1, .int w), (2, .int h)]) rfl fun ls hl => ?_
        exact chX_L49 B rfl hs0 hA0 hcn hd0 hfa0 hfb0 hok (by unfold m_thR; rw [if_neg (show ¬ m_lwR fb w = true from fun q9 => by rw [show m_lwR fb w = false from m_b0 (hg_r27.trans (by assumption))] at q9; cases q9)]) 12 _ _ _ _ _ _ hI hY_this hY_bk hs_bk hA_bk hs_fa hs_fb (lv_sub hl [0, 1, 2, 3, 4, 5] rfl) (by first | assumption | omega) rfl (by omega)
      · have q30_ : ¬ r27.toInt = (0 : Int32).toInt := fun q => q30 (Int32.toInt_inj.mp q)
        refine lv_aload_n hx hb chX_d33 rfl (lv_at hl 0 rfl) ?_
        refine lv_iload_n hx hb chX_d34 rfl (lv_at hl 1 rfl) ?_
        refine y_call (z := (0, 279, 2, some 17, xM216)) (av := [.ref this, .int w]) (rest := []) (y_cokV (n := 1) (ci := 12) X ym_withoutOf rfl rfl rfl (x_cons (x_bw85 1 rfl rfl) (x_cons (x_bw85 3 rfl rfl) (x_cons (x_at 59 (by decide +kernel) rfl) (x_cons (x_bw0 9 rfl rfl) x_nilm)))) (x_bw85 4 rfl rfl) (by decide +kernel) ⟨Nat.le_of_ble_eq_true rfl, Nat.le_of_ble_eq_true rfl⟩) hY0 hI rfl chX_d35 hl.1 (Nat.le_of_ble_eq_true rfl) (Nat.le_of_ble_eq_true rfl) (Nat.le_of_ble_eq_true rfl) (y_cons (y_cref hY_this rfl) (y_cons ⟨_, rfl, x_i32 _⟩ y_nil)) rfl (y_recv rfl hY_this) trivial (y_sub_ef rfl) fun v Yn o Hn L ho hr ha hIn hx_ hE hP => ?_
        have hPs := hP _ _ _ _ rfl hs_bk hcn hA_bk _ (m_VR fb (fb 4) (fb 5)) hs_se (fun i hi => by rw [hA_se i (by omega), hVs i hi])
        obtain rfl := hPs
        replace hs_bk := y_Efld hE hY_this rfl (by decide) (by decide) hs_bk
        replace hs_se := y_Efld hE hY_this rfl (by decide) (by decide) hs_se
        replace hs_fa := y_Efld hE hY_this rfl (by decide) (by decide) hs_fa
        replace hs_fb := y_Efld hE hY_this rfl (by decide) (by decide) hs_fb
        replace hA_bk := hA_bk.kept (y_Earr hE hY_bk rfl (by decide))
        replace hA_se := hA_se.kept (y_Earr hE hY_se rfl (by decide))
        replace hY_this := y_ext hx_ hI.1 hY_this
        replace hY_bk := y_ext hx_ hI.1 hY_bk
        replace hY_se := y_ext hx_ hI.1 hY_se
        generalize hg_r35 : m_gg (m_woB fb (m_VR fb (fb 4) (fb 5)) w) 0 (fb 0).toInt.toNat = r35
        clear ho hr ha hE hP hI hx_
        rename x_I _ _ _ _ _ _ _ _ _ _ => hI
        refine lv_goto hx hb chX_d38 (tgt := 42) (by decide) ?_
        refine lv_istore_n hx hb chX_d42 rfl hl (by decide) (lv' := [(3, .int r35), (0, .ref this), (1, .int w), (2, .int h)]) rfl fun ls hl => ?_
        refine lv_iconst hx hb chX_d43 (v := 0) (by decide) ?_
        refine lv_istore hx hb chX_d44 hl (by decide) (lv' := [(4, .int (0 : Int32)), (3, .int r35), (0, .ref this), (1, .int w), (2, .int h)]) rfl fun ls hl => ?_
        refine lv_iconst hx hb chX_d46 (v := 0) (by decide) ?_
        refine lv_istore hx hb chX_d47 hl (by decide) (lv' := [(5, .int (0 : Int32)), (4, .int (0 : Int32)), (3, .int r35), (0, .ref this), (1, .int w), (2, .int h)]) rfl fun ls hl => ?_
        exact chX_L49 B rfl hs0 hA0 hcn hd0 hfa0 hfb0 hok (by unfold m_thR; rw [if_pos (show m_lwR fb w = true from m_bn (fun q => absurd (hg_r27.symm.trans q) (by assumption)))]; exact hg_r35.symm) 12 _ _ _ _ _ _ hI hY_this hY_bk hs_bk hA_bk hs_fa hs_fb (lv_sub hl [0, 1, 2, 3, 4, 5] rfl) (by first | assumption | omega) rfl (by omega)
    · have q13_ : r10.toInt = (0 : Int32).toInt := by rw [q13]
      have hno : ¬ (m_isS fb w ∧ m_isH fb h) := fun q9 => by first | (have h8 := hout_r2 (by assumption); have h7 := q9.1; unfold m_isS at h7; omega) | exact hout_r10 (by assumption) q9.2
      refine lv_aload_n hx hb chX_d16 rfl (lv_at hl 0 rfl) ?_
      refine y_call (z := (0, 102, 1, some 17, xM143)) (av := [.ref this]) (rest := []) (y_cokV (n := 0) (ci := 12) X ym_bad rfl rfl rfl (x_cons (x_bw68 3 rfl rfl) (x_cons (x_bw68 5 rfl rfl) (x_cons (x_at 32 (by decide +kernel) rfl) (x_cons (x_bw0 9 rfl rfl) x_nilm)))) (x_bw68 6 rfl rfl) (by decide +kernel) ⟨Nat.le_of_ble_eq_true rfl, Nat.le_of_ble_eq_true rfl⟩) hY0 hI rfl chX_d17 hl.1 (Nat.le_of_ble_eq_true rfl) (Nat.le_of_ble_eq_true rfl) (Nat.le_of_ble_eq_true rfl) (y_cons (y_cref hY_this rfl) y_nil) rfl (y_recv rfl hY_this) trivial (y_sub_ef rfl) fun v Yn o Hn L ho hr ha hIn hx_ hE hP => ?_
      replace hs_bk := y_Efld hE hY_this rfl (by decide) (by decide) hs_bk
      replace hs_se := y_Efld hE hY_this rfl (by decide) (by decide) hs_se
      replace hs_fa := y_Efld hE hY_this rfl (by decide) (by decide) hs_fa
      replace hs_fb := y_Efld hE hY_this rfl (by decide) (by decide) hs_fb
      replace hA_bk := hA_bk.kept (y_Earr hE hY_bk rfl (by decide))
      replace hY_this := y_ext hx_ hI.1 hY_this
      replace hY_bk := y_ext hx_ hI.1 hY_bk
      replace hY_se := y_ext hx_ hI.1 hY_se
      have hPb := hP
      obtain rfl := hPb
      clear ho hr ha hE hP hI hx_
      rename x_I _ _ _ _ _ _ _ _ _ _ => hI
      exact y_ireturn B hI rfl rfl rfl List.mem_cons_self ⟨_, rfl, ⟨_, rfl, x_i32 _⟩⟩ (x_cs.mono B.2.2.2.2.2 (y_mon B hI)) (fun t' b' w0' w1' f' h1 h2 h3 h4 => by cases h1; cases h2.symm.trans hs0; cases z_uniq h4 hA0 h3 hcn; exact ⟨_, rfl, ⟨fun q9 => absurd q9 hno, fun q9 => absurd q9 hno, fun q9 => absurd q9 hno, fun _ => rfl⟩, ⟨fun _ a9 b9 h9 => by cases hfa0.symm.trans h9.1; cases hfb0.symm.trans h9.2; exact ⟨hs_fa, hs_fb⟩, fun q9 => absurd q9 (by decide)⟩⟩) (Nat.le_refl _) (Nat.le_refl _) chX_d20
def z_PMlis : yP := fun D av _ H v _ H' => ∀ (this bk : Nat) (w h : Int32) (f : Nat → Int32), av = [.ref this, .int w, .int h] → x_sl D 12 0 this H = some (.ref bk) → z_c f → y_A bk 160 H f → ∃ r : Int32, v = some (.int r) ∧ m_3 (m_isS f w ∧ m_isH f h ∧ m_has w h = false) (m_lwR f w) (¬ m_lsR f (m_VR f (f 4) (f 5)) w (f 0).toInt.toNat = 0) r ∧ z_fxM D H H' this r (m_loR f (m_VR f (f 4) (f 5)) w h.toInt.toNat) (m_lsR f (m_VR f (f 4) (f 5)) w (f 0).toInt.toNat)
theorem liX_d0 : decode xM1016.2.1 0 = .ok (.aload_n 0, 1) := dz_ok (by decide +kernel)
theorem liX_d1 : decode xM1016.2.1 1 = .ok (.iload_n 1, 1) := dz_ok (by decide +kernel)
theorem liX_d2 : decode xM1016.2.1 2 = .ok (.invokevirtual 237, 3) := dz_ok (by decide +kernel)
theorem liX_d5 : decode xM1016.2.1 5 = .ok (.ifCond .eq 20, 3) := dz_ok (by decide +kernel)
theorem liX_d8 : decode xM1016.2.1 8 = .ok (.aload_n 0, 1) := dz_ok (by decide +kernel)
theorem liX_d9 : decode xM1016.2.1 9 = .ok (.iload_n 2, 1) := dz_ok (by decide +kernel)
theorem liX_d10 : decode xM1016.2.1 10 = .ok (.invokevirtual 151, 3) := dz_ok (by decide +kernel)
theorem liX_d13 : decode xM1016.2.1 13 = .ok (.ifCond .eq 12, 3) := dz_ok (by decide +kernel)
theorem liX_d16 : decode xM1016.2.1 16 = .ok (.iload_n 1, 1) := dz_ok (by decide +kernel)
theorem liX_d17 : decode xM1016.2.1 17 = .ok (.iload_n 2, 1) := dz_ok (by decide +kernel)
theorem liX_d18 : decode xM1016.2.1 18 = .ok (.ishr, 1) := dz_ok (by decide +kernel)
theorem liX_d19 : decode xM1016.2.1 19 = .ok (.iconst 1, 1) := dz_ok (by decide +kernel)
theorem liX_d20 : decode xM1016.2.1 20 = .ok (.iand, 1) := dz_ok (by decide +kernel)
theorem liX_d21 : decode xM1016.2.1 21 = .ok (.iconst 1, 1) := dz_ok (by decide +kernel)
theorem liX_d22 : decode xM1016.2.1 22 = .ok (.if_icmp .ne 8, 3) := dz_ok (by decide +kernel)
theorem liX_d25 : decode xM1016.2.1 25 = .ok (.aload_n 0, 1) := dz_ok (by decide +kernel)
theorem liX_d26 : decode xM1016.2.1 26 = .ok (.invokevirtual 102, 3) := dz_ok (by decide +kernel)
theorem liX_d29 : decode xM1016.2.1 29 = .ok (.ireturn, 1) := dz_ok (by decide +kernel)
theorem liX_d30 : decode xM1016.2.1 30 = .ok (.aload_n 0, 1) := dz_ok (by decide +kernel)
theorem liX_d31 : decode xM1016.2.1 31 = .ok (.invokevirtual 240, 3) := dz_ok (by decide +kernel)
theorem liX_d34 : decode xM1016.2.1 34 = .ok (.lconst 0, 1) := dz_ok (by decide +kernel)
theorem liX_d35 : decode xM1016.2.1 35 = .ok (.lstore_n 3, 1) := dz_ok (by decide +kernel)
theorem liX_d36 : decode xM1016.2.1 36 = .ok (.iconst 0, 1) := dz_ok (by decide +kernel)
theorem liX_d37 : decode xM1016.2.1 37 = .ok (.istore 5, 2) := dz_ok (by decide +kernel)
theorem liX_d39 : decode xM1016.2.1 39 = .ok (.iload 5, 2) := dz_ok (by decide +kernel)
theorem liX_d41 : decode xM1016.2.1 41 = .ok (.aload_n 0, 1) := dz_ok (by decide +kernel)
theorem liX_d42 : decode xM1016.2.1 42 = .ok (.getfield 7, 3) := dz_ok (by decide +kernel)
theorem liX_d45 : decode xM1016.2.1 45 = .ok (.iconst 0, 1) := dz_ok (by decide +kernel)
theorem liX_d46 : decode xM1016.2.1 46 = .ok (.iaload, 1) := dz_ok (by decide +kernel)
theorem liX_d47 : decode xM1016.2.1 47 = .ok (.if_icmp .ge 19, 3) := dz_ok (by decide +kernel)
theorem liX_d50 : decode xM1016.2.1 50 = .ok (.lload_n 3, 1) := dz_ok (by decide +kernel)
theorem liX_d51 : decode xM1016.2.1 51 = .ok (.aload_n 0, 1) := dz_ok (by decide +kernel)
theorem liX_d52 : decode xM1016.2.1 52 = .ok (.iload_n 1, 1) := dz_ok (by decide +kernel)
theorem liX_d53 : decode xM1016.2.1 53 = .ok (.iload 5, 2) := dz_ok (by decide +kernel)
theorem liX_d55 : decode xM1016.2.1 55 = .ok (.invokevirtual 282, 3) := dz_ok (by decide +kernel)
theorem liX_d58 : decode xM1016.2.1 58 = .ok (.ladd, 1) := dz_ok (by decide +kernel)
theorem liX_d59 : decode xM1016.2.1 59 = .ok (.lstore_n 3, 1) := dz_ok (by decide +kernel)
theorem liX_d60 : decode xM1016.2.1 60 = .ok (.iinc 5 1, 3) := dz_ok (by decide +kernel)
theorem liX_d63 : decode xM1016.2.1 63 = .ok (.goto (-24), 3) := dz_ok (by decide +kernel)
theorem liX_d66 : decode xM1016.2.1 66 = .ok (.aload_n 0, 1) := dz_ok (by decide +kernel)
theorem liX_d67 : decode xM1016.2.1 67 = .ok (.iload_n 1, 1) := dz_ok (by decide +kernel)
theorem liX_d68 : decode xM1016.2.1 68 = .ok (.invokevirtual 243, 3) := dz_ok (by decide +kernel)
theorem liX_d71 : decode xM1016.2.1 71 = .ok (.ifCond .eq 9, 3) := dz_ok (by decide +kernel)
theorem liX_d74 : decode xM1016.2.1 74 = .ok (.lload_n 3, 1) := dz_ok (by decide +kernel)
theorem liX_d75 : decode xM1016.2.1 75 = .ok (.lconst 0, 1) := dz_ok (by decide +kernel)
theorem liX_d76 : decode xM1016.2.1 76 = .ok (.lcmp, 1) := dz_ok (by decide +kernel)
theorem liX_d77 : decode xM1016.2.1 77 = .ok (.ifCond .ne 10, 3) := dz_ok (by decide +kernel)
theorem liX_d80 : decode xM1016.2.1 80 = .ok (.aload_n 0, 1) := dz_ok (by decide +kernel)
theorem liX_d81 : decode xM1016.2.1 81 = .ok (.invokevirtual 126, 3) := dz_ok (by decide +kernel)
theorem liX_d84 : decode xM1016.2.1 84 = .ok (.goto 14, 3) := dz_ok (by decide +kernel)
theorem liX_d87 : decode xM1016.2.1 87 = .ok (.aload_n 0, 1) := dz_ok (by decide +kernel)
theorem liX_d88 : decode xM1016.2.1 88 = .ok (.aload_n 0, 1) := dz_ok (by decide +kernel)
theorem liX_d89 : decode xM1016.2.1 89 = .ok (.iload_n 1, 1) := dz_ok (by decide +kernel)
theorem liX_d90 : decode xM1016.2.1 90 = .ok (.iload_n 2, 1) := dz_ok (by decide +kernel)
theorem liX_d91 : decode xM1016.2.1 91 = .ok (.invokevirtual 282, 3) := dz_ok (by decide +kernel)
theorem liX_d94 : decode xM1016.2.1 94 = .ok (.lload_n 3, 1) := dz_ok (by decide +kernel)
theorem liX_d95 : decode xM1016.2.1 95 = .ok (.invokevirtual 154, 3) := dz_ok (by decide +kernel)
theorem liX_d98 : decode xM1016.2.1 98 = .ok (.ireturn, 1) := dz_ok (by decide +kernel)
theorem liX_L39 {p : Program} {l : Launch} {e : Env} {s : State} {m : MethodId} {below : List Frame} {meth : Method} {c : Code} {D : va_G} {U : State} {Y0 : xY} {av : List Value} (B : y_B vwCl x_Tb x_Nb xM1016 p s m meth c D U Y0 av) {this bk se : Nat} {w h : Int32} {fb : Nat → Int32} {ga gb : Int64} (hav : av = [.ref this, .int w, .int h]) (hs0 : x_sl D 12 0 this s.heap = some (.ref bk)) (hA0 : y_A bk 160 s.heap fb) (hcn : z_c fb) (hd0 : 0 ≤ (fb 0).toInt ∧ (fb 0).toInt ≤ 10) (hfa0 : x_sl D 12 6 this s.heap = some (.long ga)) (hfb0 : x_sl D 12 7 this s.heap = some (.long gb)) (hok : m_isS fb w ∧ m_isH fb h ∧ m_has w h = false)  :
    ∀ (n : Nat), ∀ (H : Heap) (Y : xY) (locs : List Loc) (ls : Array Slot) (j : Int32) (al : Int64) (fs : Nat → Int32), x_I D x_G x_Zs U (x_efs xM1016) Y0 s.heap Y H locs → Y this = some 17 → Y bk = some 46 → Y se = some 51 → x_sl D 12 0 this H = some (.ref bk) → x_sl D 12 8 this H = some (.ref se) → y_A bk 160 H fb → y_A se 10 H fs → x_sl D 12 6 this H = some (.long ga) → x_sl D 12 7 this H = some (.long gb) → lv_has ls xM1016.2.2.1 [(5, .int j), (3, .long al), (0, .ref this), (1, .int w), (2, .int h)] → (0 ≤ j.toInt ∧ j.toInt ≤ (fb 0).toInt) → (∀ i, i < (fb 0).toInt.toNat → fs i = (m_VR fb (fb 4) (fb 5)) i) → (al = m_lsR fb (m_VR fb (fb 4) (fb 5)) w j.toInt.toNat) → (11 - j.toInt).toNat < n → W p l e (x_rm xM1016) s m av.toArray below meth c H locs 0 0 (y_QQ below D x_G x_Zs U xM1016 z_PMlis av Y0 s) (F0 m 39 ls []) := by
  have X := B.1
  have hx := X.1
  have hb := X.2.1
  have hY0 := B.2.2.2.2.1
  intro n
  induction n with
  | zero => intro _ _ _ _ _ _ _ _ _ _ _ _ _ _ _ _ _ _ _ _ _ h; exact absurd h (Nat.not_lt_zero _)
  | succ n ih =>
    intro H Y locs ls j al fs hI hY_this hY_bk hY_se hs_bk hs_se hA_bk hA_se hs_fa hs_fb hl hj hVs hal hn
    have hh9 := hok.2.1
    unfold m_isH at hh9
    refine lv_iload hx hb liX_d39 (lv_at hl 0 rfl) ?_
    refine lv_aload_n hx hb liX_d41 rfl (lv_at hl 2 rfl) ?_
    refine y_getf X (fl190 X.2.2.2.2.1) hI.1 hY_this rfl hs_bk liX_d42 ?_
    refine lv_iconst hx hb liX_d45 (v := 0) (by decide) ?_
    have ec0 : (0 : Int32).toInt = 0 := by decide
    refine y_iald X hI.1 hY_bk rfl hA_bk (by omega) (by show _ < (160 : Int); omega) liX_d46 ?_
    obtain ⟨e46, hg_e46⟩ : ∃ e46 : Int32, fb (0 : Int32).toInt.toNat = e46 := ⟨_, rfl⟩
    rw [hg_e46]
    rw [z_i0] at hg_e46
    have h_e46 : e46.toInt = (fb 0).toInt := by rw [hg_e46]
    refine lv_icmp_ge hx hb liX_d47 (tgt := 66) (by decide) (fun q47 => ?_) (fun q47 => ?_)
    · have q47_ : e46.toInt ≤ j.toInt := x_le32.mp q47
      refine lv_aload_n hx hb liX_d66 rfl (lv_at hl 2 rfl) ?_
      refine lv_iload_n hx hb liX_d67 rfl (lv_at hl 3 rfl) ?_
      refine y_call (z := (0, 243, 2, some 17, xM191)) (av := [.ref this, .int w]) (rest := []) (y_cokV (n := 1) (ci := 12) X ym_isLawfulX rfl rfl rfl (x_cons (x_bw78 11 rfl rfl) (x_cons (x_bw78 13 rfl rfl) (x_cons (x_at 52 (by decide +kernel) rfl) (x_cons (x_bw0 9 rfl rfl) x_nilm)))) (x_bw78 14 rfl rfl) (by decide +kernel) ⟨Nat.le_of_ble_eq_true rfl, Nat.le_of_ble_eq_true rfl⟩) hY0 hI rfl liX_d68 hl.1 (Nat.le_of_ble_eq_true rfl) (Nat.le_of_ble_eq_true rfl) (Nat.le_of_ble_eq_true rfl) (y_cons (y_cref hY_this rfl) (y_cons ⟨_, rfl, x_i32 _⟩ y_nil)) rfl (y_recv rfl hY_this) trivial (y_sub_ef rfl) fun v Yn o Hn L ho hr ha hIn hx_ hE hP => ?_
      have hPs := hP _ _ _ _ rfl hs_bk hcn hA_bk _ (m_VR fb (fb 4) (fb 5)) hs_se (fun i hi => by rw [hA_se i (by omega), hVs i hi])
      obtain rfl := hPs
      replace hs_bk := y_Efld hE hY_this rfl (by decide) (by decide) hs_bk
      replace hs_se := y_Efld hE hY_this rfl (by decide) (by decide) hs_se
      replace hs_fa := y_Efld hE hY_this rfl (by decide) (by decide) hs_fa
      replace hs_fb := y_Efld hE hY_this rfl (by decide) (by decide) hs_fb
      replace hA_bk := hA_bk.kept (y_Earr hE hY_bk rfl (by decide))
      replace hA_se := hA_se.kept (y_Earr hE hY_se rfl (by decide))
      replace hY_this := y_ext hx_ hI.1 hY_this
      replace hY_bk := y_ext hx_ hI.1 hY_bk
      replace hY_se := y_ext hx_ hI.1 hY_se
      generalize hg_r68 : m_b (m_lw (m_VR fb (fb 4) (fb 5)) w (fb 0).toInt.toNat) = r68
      clear ho hr ha hE hP hI hx_
      rename x_I _ _ _ _ _ _ _ _ _ _ => hI
      refine lv_if_eq hx hb liX_d71 (tgt := 80) (by decide) (fun q71 => ?_) (fun q71 => ?_)
      · have q71_ : r68.toInt = (0 : Int32).toInt := by rw [q71]
        refine lv_aload_n hx hb liX_d80 rfl (lv_at hl 2 rfl) ?_
        refine y_call (z := (0, 126, 1, some 17, xM164)) (av := [.ref this]) (rest := []) (y_cokV (n := 0) (ci := 12) X ym_no rfl rfl rfl (x_cons (x_bw70 11 rfl rfl) (x_cons (x_bw70 13 rfl rfl) (x_cons (x_at 38 (by decide +kernel) rfl) (x_cons (x_bw0 9 rfl rfl) x_nilm)))) (x_bw70 14 rfl rfl) (by decide +kernel) ⟨Nat.le_of_ble_eq_true rfl, Nat.le_of_ble_eq_true rfl⟩) hY0 hI rfl liX_d81 hl.1 (Nat.le_of_ble_eq_true rfl) (Nat.le_of_ble_eq_true rfl) (Nat.le_of_ble_eq_true rfl) (y_cons (y_cref hY_this rfl) y_nil) rfl (y_recv rfl hY_this) trivial (y_sub_ef rfl) fun v Yn o Hn L ho hr ha hIn hx_ hE hP => ?_
        replace hs_bk := y_Efld hE hY_this rfl (by decide) (by decide) hs_bk
        replace hs_se := y_Efld hE hY_this rfl (by decide) (by decide) hs_se
        replace hs_fa := y_Efld hE hY_this rfl (by decide) (by decide) hs_fa
        replace hs_fb := y_Efld hE hY_this rfl (by decide) (by decide) hs_fb
        replace hA_bk := hA_bk.kept (y_Earr hE hY_bk rfl (by decide))
        replace hA_se := hA_se.kept (y_Earr hE hY_se rfl (by decide))
        replace hY_this := y_ext hx_ hI.1 hY_this
        replace hY_bk := y_ext hx_ hI.1 hY_bk
        replace hY_se := y_ext hx_ hI.1 hY_se
        have hPb := hP
        obtain rfl := hPb
        clear ho hr ha hE hP hI hx_
        rename x_I _ _ _ _ _ _ _ _ _ _ => hI
        refine lv_goto hx hb liX_d84 (tgt := 98) (by decide) ?_
        have hk9 : j.toInt.toNat = (fb 0).toInt.toNat := by omega
        rw [hk9] at hal
        have h39 : m_lwR fb w = false ∨ al = 0 := by first | exact Or.inl (m_b0 (hg_r68.trans (by assumption))) | exact Or.inr (Int64.toInt_inj.mp (by rw [(show (0 : Int64).toInt = 0 by decide)]; omega))
        subst hav
        exact y_ireturn B hI rfl rfl rfl List.mem_cons_self ⟨_, rfl, ⟨_, rfl, x_i32 _⟩⟩ (x_cs.mono B.2.2.2.2.2 (y_mon B hI)) (fun t' b' w0' w1' f' h1 h2 h3 h4 => by cases h1; cases h2.symm.trans hs0; cases z_uniq h4 hA0 h3 hcn; exact ⟨_, rfl, ⟨fun _ q7 q9 => by rcases h39 with h39 | h39; (rw [h39] at q7; cases q7); exact absurd (hal.symm.trans h39) q9, fun _ _ _ => rfl, fun _ _ => rfl, fun q9 => absurd hok q9⟩, ⟨fun _ a9 b9 h9 => by cases hfa0.symm.trans h9.1; cases hfb0.symm.trans h9.2; exact ⟨hs_fa, hs_fb⟩, fun q9 => absurd q9 (by decide)⟩⟩) (Nat.le_refl _) (Nat.le_refl _) liX_d98
      · have q71_ : ¬ r68.toInt = (0 : Int32).toInt := fun q => q71 (Int32.toInt_inj.mp q)
        refine lv_lload_n hx hb liX_d74 rfl (lv_at hl 1 rfl) ?_
        refine lv_lconst hx hb liX_d75 (v := 0) (by decide) ?_
        have el0 : (0 : Int64).toInt = 0 := by decide
        refine W.lcmp hx hb liX_d76 ?_
        have h_z76 := y_cmp al (0 : Int64)
        generalize hg_z76 : lg_cmp al (0 : Int64) = z76 at h_z76 ⊢
        refine lv_if_ne hx hb liX_d77 (tgt := 87) (by decide) (fun q77 => ?_) (fun q77 => ?_)
        · have q77_ : ¬ z76.toInt = (0 : Int32).toInt := fun q => q77 (Int32.toInt_inj.mp q)
          have hk9 : j.toInt.toNat = (fb 0).toInt.toNat := by omega
          rw [hk9] at hal
          have hz0 : ¬ al = 0 := fun q8 => by have h9 := congrArg Int64.toInt q8; rw [(show (0 : Int64).toInt = 0 by decide)] at h9; omega
          have hlw9 : m_lwR fb w = true := m_bn (fun q => absurd (hg_r68.symm.trans q) (by assumption))
          have rs := x_i64 al
          have hz1 : ¬ al.toInt = 0 := fun q8 => hz0 (Int64.toInt_inj.mp (by rw [(show (0 : Int64).toInt = 0 by decide)]; exact q8))
          rcases (show 1 ≤ al.toInt ∨ al.toInt ≤ -1 by omega) with hc | hc
          · refine lv_aload_n hx hb liX_d87 rfl (lv_at hl 2 rfl) ?_
            refine lv_aload_n hx hb liX_d88 rfl (lv_at hl 2 rfl) ?_
            refine lv_iload_n hx hb liX_d89 rfl (lv_at hl 3 rfl) ?_
            refine lv_iload_n hx hb liX_d90 rfl (lv_at hl 4 rfl) ?_
            refine y_call (z := (0, 282, 3, some 17, xM218)) (av := [.ref this, .int w, .int h]) (rest := [.ref this]) (y_cokV (n := 2) (ci := 12) X ym_liesOf rfl rfl rfl (x_cons (x_bw86 1 rfl rfl) (x_cons (x_bw86 3 rfl rfl) (x_cons (x_at 61 (by decide +kernel) rfl) (x_cons (x_bw0 9 rfl rfl) x_nilm)))) (x_bw86 4 rfl rfl) (by decide +kernel) ⟨Nat.le_of_ble_eq_true rfl, Nat.le_of_ble_eq_true rfl⟩) hY0 hI rfl liX_d91 hl.1 (Nat.le_of_ble_eq_true rfl) (Nat.le_of_ble_eq_true rfl) (Nat.le_of_ble_eq_true rfl) (y_cons (y_cref hY_this rfl) (y_cons ⟨_, rfl, x_i32 _⟩ (y_cons ⟨_, rfl, by show (0 : Int) ≤ _; omega, by show _ ≤ (9 : Int); omega⟩ y_nil))) rfl (y_recv rfl hY_this) trivial (y_sub_ef rfl) fun v Yn o Hn L ho hr ha hIn hx_ hE hP => ?_
            have hPs := hP _ _ _ _ _ rfl hs_bk hcn hA_bk _ (m_VR fb (fb 4) (fb 5)) hs_se (fun i hi => by rw [hA_se i (by omega), hVs i hi])
            obtain rfl := hPs
            replace hs_bk := y_Efld hE hY_this rfl (by decide) (by decide) hs_bk
            replace hs_se := y_Efld hE hY_this rfl (by decide) (by decide) hs_se
            replace hs_fa := y_Efld hE hY_this rfl (by decide) (by decide) hs_fa
            replace hs_fb := y_Efld hE hY_this rfl (by decide) (by decide) hs_fb
            replace hA_bk := hA_bk.kept (y_Earr hE hY_bk rfl (by decide))
            replace hA_se := hA_se.kept (y_Earr hE hY_se rfl (by decide))
            replace hY_this := y_ext hx_ hI.1 hY_this
            replace hY_bk := y_ext hx_ hI.1 hY_bk
            replace hY_se := y_ext hx_ hI.1 hY_se
            generalize hg_r91 : m_loR fb (m_VR fb (fb 4) (fb 5)) w h.toInt.toNat = r91
            clear ho hr ha hE hP hI hx_
            rename x_I _ _ _ _ _ _ _ _ _ _ => hI
            refine lv_lload_n hx hb liX_d94 rfl (lv_at hl 1 rfl) ?_
            refine y_call (z := (0, 154, 3, some 17, xM1009)) (av := [.ref this, .long r91, .long al]) (rest := []) (y_cokV (n := 2) (ci := 12) X ym_tellsF rfl rfl rfl (x_cons (x_bw73 2 rfl rfl) (x_cons (x_bw73 4 rfl rfl) (x_cons (x_at 43 (by decide +kernel) rfl) (x_cons (x_bw0 9 rfl rfl) x_nilm)))) (x_bw73 5 rfl rfl) (by decide +kernel) ⟨Nat.le_of_ble_eq_true rfl, Nat.le_of_ble_eq_true rfl⟩) hY0 hI rfl liX_d95 hl.1 (Nat.le_of_ble_eq_true rfl) (Nat.le_of_ble_eq_true rfl) (Nat.le_of_ble_eq_true rfl) (y_cons (y_cref hY_this rfl) (y_cons ⟨_, rfl, x_i64 _⟩ (y_cons ⟨_, rfl, by show (1 : Int) ≤ _; omega, by show _ ≤ (9223372036854775807 : Int); omega⟩ y_nil))) rfl (y_recv rfl hY_this) trivial (y_sub_ef rfl) fun v Yn o Hn L ho hr ha hIn hx_ hE hP => ?_
            obtain ⟨hv9, hPf⟩ := hP _ _ _ rfl
            subst hv9
            replace hs_bk := y_Efld hE hY_this rfl (by decide) (by decide) hs_bk
            replace hs_se := y_Efld hE hY_this rfl (by decide) (by decide) hs_se
            replace hA_bk := hA_bk.kept (y_Earr hE hY_bk rfl (by decide))
            replace hA_se := hA_se.kept (y_Earr hE hY_se rfl (by decide))
            replace hY_this := y_ext hx_ hI.1 hY_this
            replace hY_bk := y_ext hx_ hI.1 hY_bk
            replace hY_se := y_ext hx_ hI.1 hY_se
            clear ho hr ha hE hP hI hx_
            rename x_I _ _ _ _ _ _ _ _ _ _ => hI
            rw [hal, ← hg_r91] at hPf
            subst hav
            exact y_ireturn B hI rfl rfl rfl List.mem_cons_self ⟨_, rfl, ⟨_, rfl, x_i32 _⟩⟩ (x_cs.mono B.2.2.2.2.2 (y_mon B hI)) (fun t' b' w0' w1' f' h1 h2 h3 h4 => by cases h1; cases h2.symm.trans hs0; cases z_uniq h4 hA0 h3 hcn; exact ⟨_, rfl, ⟨fun _ _ _ => rfl, fun _ _ q9 => absurd (fun q8 => hz0 (hal.trans q8)) q9, fun _ q9 => absurd hlw9 (by rw [q9]; decide), fun q9 => absurd hok q9⟩, ⟨fun q9 => absurd rfl q9, fun _ => hPf⟩⟩) (Nat.le_refl _) (Nat.le_refl _) liX_d98
          · refine lv_aload_n hx hb liX_d87 rfl (lv_at hl 2 rfl) ?_
            refine lv_aload_n hx hb liX_d88 rfl (lv_at hl 2 rfl) ?_
            refine lv_iload_n hx hb liX_d89 rfl (lv_at hl 3 rfl) ?_
            refine lv_iload_n hx hb liX_d90 rfl (lv_at hl 4 rfl) ?_
            refine y_call (z := (0, 282, 3, some 17, xM218)) (av := [.ref this, .int w, .int h]) (rest := [.ref this]) (y_cokV (n := 2) (ci := 12) X ym_liesOf rfl rfl rfl (x_cons (x_bw86 1 rfl rfl) (x_cons (x_bw86 3 rfl rfl) (x_cons (x_at 61 (by decide +kernel) rfl) (x_cons (x_bw0 9 rfl rfl) x_nilm)))) (x_bw86 4 rfl rfl) (by decide +kernel) ⟨Nat.le_of_ble_eq_true rfl, Nat.le_of_ble_eq_true rfl⟩) hY0 hI rfl liX_d91 hl.1 (Nat.le_of_ble_eq_true rfl) (Nat.le_of_ble_eq_true rfl) (Nat.le_of_ble_eq_true rfl) (y_cons (y_cref hY_this rfl) (y_cons ⟨_, rfl, x_i32 _⟩ (y_cons ⟨_, rfl, by show (0 : Int) ≤ _; omega, by show _ ≤ (9 : Int); omega⟩ y_nil))) rfl (y_recv rfl hY_this) trivial (y_sub_ef rfl) fun v Yn o Hn L ho hr ha hIn hx_ hE hP => ?_
            have hPs := hP _ _ _ _ _ rfl hs_bk hcn hA_bk _ (m_VR fb (fb 4) (fb 5)) hs_se (fun i hi => by rw [hA_se i (by omega), hVs i hi])
            obtain rfl := hPs
            replace hs_bk := y_Efld hE hY_this rfl (by decide) (by decide) hs_bk
            replace hs_se := y_Efld hE hY_this rfl (by decide) (by decide) hs_se
            replace hs_fa := y_Efld hE hY_this rfl (by decide) (by decide) hs_fa
            replace hs_fb := y_Efld hE hY_this rfl (by decide) (by decide) hs_fb
            replace hA_bk := hA_bk.kept (y_Earr hE hY_bk rfl (by decide))
            replace hA_se := hA_se.kept (y_Earr hE hY_se rfl (by decide))
            replace hY_this := y_ext hx_ hI.1 hY_this
            replace hY_bk := y_ext hx_ hI.1 hY_bk
            replace hY_se := y_ext hx_ hI.1 hY_se
            generalize hg_r91 : m_loR fb (m_VR fb (fb 4) (fb 5)) w h.toInt.toNat = r91
            clear ho hr ha hE hP hI hx_
            rename x_I _ _ _ _ _ _ _ _ _ _ => hI
            refine lv_lload_n hx hb liX_d94 rfl (lv_at hl 1 rfl) ?_
            refine y_call (z := (0, 154, 3, some 17, xM1015)) (av := [.ref this, .long r91, .long al]) (rest := []) (y_cok.of (x_cokV (n := 2) (ci := 12) X xm1015 rfl rfl rfl (x_cons (x_bw73 2 rfl rfl) (x_cons (x_bw73 4 rfl rfl) (x_cons (x_at 43 (by decide +kernel) rfl) (x_cons (x_bw0 9 rfl rfl) x_nilm)))) (x_bw73 5 rfl rfl) (by decide +kernel) ⟨Nat.le_of_ble_eq_true rfl, Nat.le_of_ble_eq_true rfl⟩)) hY0 hI rfl liX_d95 hl.1 (Nat.le_of_ble_eq_true rfl) (Nat.le_of_ble_eq_true rfl) (Nat.le_of_ble_eq_true rfl) (y_cons (y_cref hY_this rfl) (y_cons ⟨_, rfl, x_i64 _⟩ (y_cons ⟨_, rfl, by show ((-9223372036854775808) : Int) ≤ _; omega, by show _ ≤ ((-1) : Int); omega⟩ y_nil))) rfl (y_recv rfl hY_this) trivial (y_sub_ef rfl) fun v Yn o Hn L ho hr ha hIn hx_ hE hP => ?_
            replace hs_bk := y_Efld hE hY_this rfl (by decide) (by decide) hs_bk
            replace hs_se := y_Efld hE hY_this rfl (by decide) (by decide) hs_se
            replace hA_bk := hA_bk.kept (y_Earr hE hY_bk rfl (by decide))
            replace hA_se := hA_se.kept (y_Earr hE hY_se rfl (by decide))
            replace hY_this := y_ext hx_ hI.1 hY_this
            replace hY_bk := y_ext hx_ hI.1 hY_bk
            replace hY_se := y_ext hx_ hI.1 hY_se
            obtain ⟨r95, rfl, h_r95⟩ := y_ansI (lo := 1) (hi := 1) (by decide) ho hr
            clear ho hr ha hE hP hI hx_
            rename x_I _ _ _ _ _ _ _ _ _ _ => hI
            subst hav
            exact y_ireturn B hI rfl rfl rfl List.mem_cons_self ⟨_, rfl, ⟨_, rfl, x_i32 _⟩⟩ (x_cs.mono B.2.2.2.2.2 (y_mon B hI)) (fun t' b' w0' w1' f' h1 h2 h3 h4 => by cases h1; cases h2.symm.trans hs0; cases z_uniq h4 hA0 h3 hcn; exact ⟨_, rfl, ⟨fun _ _ _ => (Int32.toInt_inj.mp (show _ = (1 : Int32).toInt by rw [m_c1]; omega)), fun _ _ q9 => absurd (fun q8 => hz0 (hal.trans q8)) q9, fun _ q9 => absurd hlw9 (by rw [q9]; decide), fun q9 => absurd hok q9⟩, ⟨fun q9 => absurd (Int32.toInt_inj.mp (show _ = (1 : Int32).toInt by rw [m_c1]; omega)) q9, fun _ q9 => by exfalso; rw [← hal] at q9; omega⟩⟩) (Nat.le_refl _) (Nat.le_refl _) liX_d98
        · have q77_ : z76.toInt = (0 : Int32).toInt := by rw [q77]
          refine lv_aload_n hx hb liX_d80 rfl (lv_at hl 2 rfl) ?_
          refine y_call (z := (0, 126, 1, some 17, xM164)) (av := [.ref this]) (rest := []) (y_cokV (n := 0) (ci := 12) X ym_no rfl rfl rfl (x_cons (x_bw70 11 rfl rfl) (x_cons (x_bw70 13 rfl rfl) (x_cons (x_at 38 (by decide +kernel) rfl) (x_cons (x_bw0 9 rfl rfl) x_nilm)))) (x_bw70 14 rfl rfl) (by decide +kernel) ⟨Nat.le_of_ble_eq_true rfl, Nat.le_of_ble_eq_true rfl⟩) hY0 hI rfl liX_d81 hl.1 (Nat.le_of_ble_eq_true rfl) (Nat.le_of_ble_eq_true rfl) (Nat.le_of_ble_eq_true rfl) (y_cons (y_cref hY_this rfl) y_nil) rfl (y_recv rfl hY_this) trivial (y_sub_ef rfl) fun v Yn o Hn L ho hr ha hIn hx_ hE hP => ?_
          replace hs_bk := y_Efld hE hY_this rfl (by decide) (by decide) hs_bk
          replace hs_se := y_Efld hE hY_this rfl (by decide) (by decide) hs_se
          replace hs_fa := y_Efld hE hY_this rfl (by decide) (by decide) hs_fa
          replace hs_fb := y_Efld hE hY_this rfl (by decide) (by decide) hs_fb
          replace hA_bk := hA_bk.kept (y_Earr hE hY_bk rfl (by decide))
          replace hA_se := hA_se.kept (y_Earr hE hY_se rfl (by decide))
          replace hY_this := y_ext hx_ hI.1 hY_this
          replace hY_bk := y_ext hx_ hI.1 hY_bk
          replace hY_se := y_ext hx_ hI.1 hY_se
          have hPb := hP
          obtain rfl := hPb
          clear ho hr ha hE hP hI hx_
          rename x_I _ _ _ _ _ _ _ _ _ _ => hI
          refine lv_goto hx hb liX_d84 (tgt := 98) (by decide) ?_
          have hk9 : j.toInt.toNat = (fb 0).toInt.toNat := by omega
          rw [hk9] at hal
          have h39 : m_lwR fb w = false ∨ al = 0 := by first | exact Or.inl (m_b0 (hg_r68.trans (by assumption))) | exact Or.inr (Int64.toInt_inj.mp (by rw [(show (0 : Int64).toInt = 0 by decide)]; omega))
          subst hav
          exact y_ireturn B hI rfl rfl rfl List.mem_cons_self ⟨_, rfl, ⟨_, rfl, x_i32 _⟩⟩ (x_cs.mono B.2.2.2.2.2 (y_mon B hI)) (fun t' b' w0' w1' f' h1 h2 h3 h4 => by cases h1; cases h2.symm.trans hs0; cases z_uniq h4 hA0 h3 hcn; exact ⟨_, rfl, ⟨fun _ q7 q9 => by rcases h39 with h39 | h39; (rw [h39] at q7; cases q7); exact absurd (hal.symm.trans h39) q9, fun _ _ _ => rfl, fun _ _ => rfl, fun q9 => absurd hok q9⟩, ⟨fun _ a9 b9 h9 => by cases hfa0.symm.trans h9.1; cases hfb0.symm.trans h9.2; exact ⟨hs_fa, hs_fb⟩, fun q9 => absurd q9 (by decide)⟩⟩) (Nat.le_refl _) (Nat.le_refl _) liX_d98
    · have q47_ : j.toInt < e46.toInt := Int.not_le.mp fun q => q47 (x_le32.mpr q)
      refine lv_lload_n hx hb liX_d50 rfl (lv_at hl 1 rfl) ?_
      refine lv_aload_n hx hb liX_d51 rfl (lv_at hl 2 rfl) ?_
      refine lv_iload_n hx hb liX_d52 rfl (lv_at hl 3 rfl) ?_
      refine lv_iload hx hb liX_d53 (lv_at hl 0 rfl) ?_
      refine y_call (z := (0, 282, 3, some 17, xM218)) (av := [.ref this, .int w, .int j]) (rest := [.long al]) (y_cokV (n := 2) (ci := 12) X ym_liesOf rfl rfl rfl (x_cons (x_bw86 1 rfl rfl) (x_cons (x_bw86 3 rfl rfl) (x_cons (x_at 61 (by decide +kernel) rfl) (x_cons (x_bw0 9 rfl rfl) x_nilm)))) (x_bw86 4 rfl rfl) (by decide +kernel) ⟨Nat.le_of_ble_eq_true rfl, Nat.le_of_ble_eq_true rfl⟩) hY0 hI rfl liX_d55 hl.1 (Nat.le_of_ble_eq_true rfl) (Nat.le_of_ble_eq_true rfl) (Nat.le_of_ble_eq_true rfl) (y_cons (y_cref hY_this rfl) (y_cons ⟨_, rfl, x_i32 _⟩ (y_cons ⟨_, rfl, by show (0 : Int) ≤ _; omega, by show _ ≤ (9 : Int); omega⟩ y_nil))) rfl (y_recv rfl hY_this) trivial (y_sub_ef rfl) fun v Yn o Hn L ho hr ha hIn hx_ hE hP => ?_
      have hPs := hP _ _ _ _ _ rfl hs_bk hcn hA_bk _ (m_VR fb (fb 4) (fb 5)) hs_se (fun i hi => by rw [hA_se i (by omega), hVs i hi])
      obtain rfl := hPs
      replace hs_bk := y_Efld hE hY_this rfl (by decide) (by decide) hs_bk
      replace hs_se := y_Efld hE hY_this rfl (by decide) (by decide) hs_se
      replace hs_fa := y_Efld hE hY_this rfl (by decide) (by decide) hs_fa
      replace hs_fb := y_Efld hE hY_this rfl (by decide) (by decide) hs_fb
      replace hA_bk := hA_bk.kept (y_Earr hE hY_bk rfl (by decide))
      replace hA_se := hA_se.kept (y_Earr hE hY_se rfl (by decide))
      replace hY_this := y_ext hx_ hI.1 hY_this
      replace hY_bk := y_ext hx_ hI.1 hY_bk
      replace hY_se := y_ext hx_ hI.1 hY_se
      generalize hg_r55 : m_loR fb (m_VR fb (fb 4) (fb 5)) w j.toInt.toNat = r55
      clear ho hr ha hE hP hI hx_
      rename x_I _ _ _ _ _ _ _ _ _ _ => hI
      refine lv_ladd hx hb liX_d58 ?_
      generalize hg_z58 : al + r55 = z58
      refine lv_lstore_n hx hb liX_d59 rfl hl (by decide) (lv' := [(3, .long z58), (5, .int j), (0, .ref this), (1, .int w), (2, .int h)]) rfl fun ls hl => ?_
      obtain ⟨z60, hg_z60⟩ : ∃ z60 : Int32, j + Int32.ofInt 1 = z60 := ⟨_, rfl⟩
      have h_z60 : z60.toInt = j.toInt + 1 := by rw [← hg_z60]; exact y_inc (by decide) (by omega) (by omega)
      refine lv_iinc hx hb liX_d60 hl (k := 1) rfl hg_z60 (by decide) (lv' := [(5, .int z60), (3, .long z58), (0, .ref this), (1, .int w), (2, .int h)]) rfl fun ls hl => ?_
      refine lv_goto hx hb liX_d63 (tgt := 39) (by decide) ?_
      have his : z60.toInt.toNat = j.toInt.toNat + 1 := by omega
      exact ih _ _ _ _ _ _ _ hI hY_this hY_bk hY_se hs_bk hs_se hA_bk hA_se hs_fa hs_fb (lv_sub hl [0, 1, 2, 3, 4] rfl) (by first | assumption | omega) (by first | assumption | omega) (by rw [his]; show _ = _ + _; rw [← hal, hg_r55]; exact hg_z58.symm) (by omega)
theorem ym_liesM : y_Met vwCl x_G x_Zs x_Tb x_Nb xM1016 y_T z_PMlis := by
  refine y_main (by decide +kernel) (by decide +kernel) x_Tb_good x_Nb_ok ?_
  intro p l e s m below meth c D U Y0 av ls B hI _ hl
  have X := B.1
  have hx := X.1
  have hb := X.2.1
  have hY0 := B.2.2.2.2.1
  obtain ⟨v0, v1, v2, rfl, hv0, ⟨w, rfl, -⟩, ⟨h, rfl, -⟩⟩ := y_three B.2.2.2.2.2
  obtain ⟨this, t0, rfl, ht0, hY_this⟩ := x_ref_at hv0 rfl
  obtain rfl := List.mem_singleton.mp ht0
  replace hl : lv_has ls xM1016.2.2.1 [(0, .ref this), (1, .int w), (2, .int h)] := hl
  obtain ⟨bk, hs_bk, hY_bk⟩ := y_fldR (k := 0) hI.1 hY_this rfl rfl
  obtain ⟨fb9, hA9, hB9⟩ := y_arr hI.1 hY_bk rfl rfl
  obtain ⟨fb, hcn, hA_bk, hB_bk⟩ := z_canon (Y := Y0) (P := fun j v => x_c Y0 ([xI 0 10, xI 0 8, xI 0 8].getD j xF) (.int v)) hA9 hB9
  clear hA9 hB9 fb9
  have hs0 := hs_bk
  have hA0 := hA_bk
  have hd := z_hdr hB_bk
  have hd0 := hd.1
  have hd1 := hd.2.1
  obtain ⟨se, hs_se, hY_se⟩ := y_fldR (k := 8) hI.1 hY_this rfl rfl
  obtain ⟨ga, hs_fa⟩ := y_fldL (k := 6) hI.1 hY_this rfl rfl
  obtain ⟨gb, hs_fb⟩ := y_fldL (k := 7) hI.1 hY_this rfl rfl
  have hfa0 := hs_fa
  have hfb0 := hs_fb
  refine lv_aload_n hx hb liX_d0 rfl (lv_at hl 0 rfl) ?_
  refine lv_iload_n hx hb liX_d1 rfl (lv_at hl 1 rfl) ?_
  refine y_call (z := (0, 237, 2, some 17, xM184)) (av := [.ref this, .int w]) (rest := []) (y_cokV (n := 1) (ci := 12) X ym_isSet rfl rfl rfl (x_cons (x_bw77 0 rfl rfl) (x_cons (x_bw77 2 rfl rfl) (x_cons (x_at 48 (by decide +kernel) rfl) (x_cons (x_bw0 9 rfl rfl) x_nilm)))) (x_bw77 3 rfl rfl) (by decide +kernel) ⟨Nat.le_of_ble_eq_true rfl, Nat.le_of_ble_eq_true rfl⟩) hY0 hI rfl liX_d2 hl.1 (Nat.le_of_ble_eq_true rfl) (Nat.le_of_ble_eq_true rfl) (Nat.le_of_ble_eq_true rfl) (y_cons (y_cref hY_this rfl) (y_cons ⟨_, rfl, x_i32 _⟩ y_nil)) rfl (y_recv rfl hY_this) trivial (y_sub_ef rfl) fun v Yn o Hn L ho hr ha hIn hx_ hE hP => ?_
  have hPv := hP _ _ _ _ rfl hs_bk (hA_bk 0 (by decide))
  replace hs_bk := y_Efld hE hY_this rfl (by decide) (by decide) hs_bk
  replace hs_se := y_Efld hE hY_this rfl (by decide) (by decide) hs_se
  replace hs_fa := y_Efld hE hY_this rfl (by decide) (by decide) hs_fa
  replace hs_fb := y_Efld hE hY_this rfl (by decide) (by decide) hs_fb
  replace hA_bk := hA_bk.kept (y_Earr hE hY_bk rfl (by decide))
  replace hY_this := y_ext hx_ hI.1 hY_this
  replace hY_bk := y_ext hx_ hI.1 hY_bk
  replace hY_se := y_ext hx_ hI.1 hY_se
  obtain ⟨r2, rfl, hin_r2, hout_r2⟩ := hPv
  clear ho hr ha hE hP hI hx_
  rename x_I _ _ _ _ _ _ _ _ _ _ => hI
  have ec0 : (0 : Int32).toInt = 0 := by decide
  refine lv_if_eq hx hb liX_d5 (tgt := 25) (by decide) (fun q5 => ?_) (fun q5 => ?_)
  · have q5_ : r2.toInt = (0 : Int32).toInt := by rw [q5]
    have hno : ¬ (m_isS fb w ∧ m_isH fb h ∧ m_has w h = false) := fun q9 => by first | (have h8 := hout_r2 (by assumption); have h7 := q9.1; unfold m_isS at h7; omega) | exact hout_r10 (by assumption) q9.2.1 | (have h7 := q9.2.2; unfold m_has at h7; rw [hg_z18, hg_z20] at h7; rw [(by assumption : z20 = (1 : Int32))] at h7; revert h7; decide)
    refine lv_aload_n hx hb liX_d25 rfl (lv_at hl 0 rfl) ?_
    refine y_call (z := (0, 102, 1, some 17, xM143)) (av := [.ref this]) (rest := []) (y_cokV (n := 0) (ci := 12) X ym_bad rfl rfl rfl (x_cons (x_bw68 3 rfl rfl) (x_cons (x_bw68 5 rfl rfl) (x_cons (x_at 32 (by decide +kernel) rfl) (x_cons (x_bw0 9 rfl rfl) x_nilm)))) (x_bw68 6 rfl rfl) (by decide +kernel) ⟨Nat.le_of_ble_eq_true rfl, Nat.le_of_ble_eq_true rfl⟩) hY0 hI rfl liX_d26 hl.1 (Nat.le_of_ble_eq_true rfl) (Nat.le_of_ble_eq_true rfl) (Nat.le_of_ble_eq_true rfl) (y_cons (y_cref hY_this rfl) y_nil) rfl (y_recv rfl hY_this) trivial (y_sub_ef rfl) fun v Yn o Hn L ho hr ha hIn hx_ hE hP => ?_
    replace hs_bk := y_Efld hE hY_this rfl (by decide) (by decide) hs_bk
    replace hs_se := y_Efld hE hY_this rfl (by decide) (by decide) hs_se
    replace hs_fa := y_Efld hE hY_this rfl (by decide) (by decide) hs_fa
    replace hs_fb := y_Efld hE hY_this rfl (by decide) (by decide) hs_fb
    replace hA_bk := hA_bk.kept (y_Earr hE hY_bk rfl (by decide))
    replace hY_this := y_ext hx_ hI.1 hY_this
    replace hY_bk := y_ext hx_ hI.1 hY_bk
    replace hY_se := y_ext hx_ hI.1 hY_se
    have hPb := hP
    obtain rfl := hPb
    clear ho hr ha hE hP hI hx_
    rename x_I _ _ _ _ _ _ _ _ _ _ => hI
    exact y_ireturn B hI rfl rfl rfl List.mem_cons_self ⟨_, rfl, ⟨_, rfl, x_i32 _⟩⟩ (x_cs.mono B.2.2.2.2.2 (y_mon B hI)) (fun t' b' w0' w1' f' h1 h2 h3 h4 => by cases h1; cases h2.symm.trans hs0; cases z_uniq h4 hA0 h3 hcn; exact ⟨_, rfl, ⟨fun q9 => absurd q9 hno, fun q9 => absurd q9 hno, fun q9 => absurd q9 hno, fun _ => rfl⟩, ⟨fun _ a9 b9 h9 => by cases hfa0.symm.trans h9.1; cases hfb0.symm.trans h9.2; exact ⟨hs_fa, hs_fb⟩, fun q9 => absurd q9 (by decide)⟩⟩) (Nat.le_refl _) (Nat.le_refl _) liX_d29
  · have q5_ : ¬ r2.toInt = (0 : Int32).toInt := fun q => q5 (Int32.toInt_inj.mp q)
    refine lv_aload_n hx hb liX_d8 rfl (lv_at hl 0 rfl) ?_
    refine lv_iload_n hx hb liX_d9 rfl (lv_at hl 2 rfl) ?_
    refine y_call (z := (0, 151, 2, some 17, xM171)) (av := [.ref this, .int h]) (rest := []) (y_cokV (n := 1) (ci := 12) X ym_isHillX rfl rfl rfl (x_cons (x_bw72 2 rfl rfl) (x_cons (x_bw72 4 rfl rfl) (x_cons (x_at 40 (by decide +kernel) rfl) (x_cons (x_bw0 9 rfl rfl) x_nilm)))) (x_bw72 5 rfl rfl) (by decide +kernel) ⟨Nat.le_of_ble_eq_true rfl, Nat.le_of_ble_eq_true rfl⟩) hY0 hI rfl liX_d10 hl.1 (Nat.le_of_ble_eq_true rfl) (Nat.le_of_ble_eq_true rfl) (Nat.le_of_ble_eq_true rfl) (y_cons (y_cref hY_this rfl) (y_cons ⟨_, rfl, x_i32 _⟩ y_nil)) rfl (y_recv rfl hY_this) trivial (y_sub_ef rfl) fun v Yn o Hn L ho hr ha hIn hx_ hE hP => ?_
    have hPq := hP _ _ _ _ rfl hs_bk hcn hA_bk
    replace hs_bk := y_Efld hE hY_this rfl (by decide) (by decide) hs_bk
    replace hs_se := y_Efld hE hY_this rfl (by decide) (by decide) hs_se
    replace hs_fa := y_Efld hE hY_this rfl (by decide) (by decide) hs_fa
    replace hs_fb := y_Efld hE hY_this rfl (by decide) (by decide) hs_fb
    replace hA_bk := hA_bk.kept (y_Earr hE hY_bk rfl (by decide))
    replace hY_this := y_ext hx_ hI.1 hY_this
    replace hY_bk := y_ext hx_ hI.1 hY_bk
    replace hY_se := y_ext hx_ hI.1 hY_se
    obtain ⟨r10, rfl, hin_r10, hout_r10⟩ := hPq
    clear ho hr ha hE hP hI hx_
    rename x_I _ _ _ _ _ _ _ _ _ _ => hI
    refine lv_if_eq hx hb liX_d13 (tgt := 25) (by decide) (fun q13 => ?_) (fun q13 => ?_)
    · have q13_ : r10.toInt = (0 : Int32).toInt := by rw [q13]
      have hno : ¬ (m_isS fb w ∧ m_isH fb h ∧ m_has w h = false) := fun q9 => by first | (have h8 := hout_r2 (by assumption); have h7 := q9.1; unfold m_isS at h7; omega) | exact hout_r10 (by assumption) q9.2.1 | (have h7 := q9.2.2; unfold m_has at h7; rw [hg_z18, hg_z20] at h7; rw [(by assumption : z20 = (1 : Int32))] at h7; revert h7; decide)
      refine lv_aload_n hx hb liX_d25 rfl (lv_at hl 0 rfl) ?_
      refine y_call (z := (0, 102, 1, some 17, xM143)) (av := [.ref this]) (rest := []) (y_cokV (n := 0) (ci := 12) X ym_bad rfl rfl rfl (x_cons (x_bw68 3 rfl rfl) (x_cons (x_bw68 5 rfl rfl) (x_cons (x_at 32 (by decide +kernel) rfl) (x_cons (x_bw0 9 rfl rfl) x_nilm)))) (x_bw68 6 rfl rfl) (by decide +kernel) ⟨Nat.le_of_ble_eq_true rfl, Nat.le_of_ble_eq_true rfl⟩) hY0 hI rfl liX_d26 hl.1 (Nat.le_of_ble_eq_true rfl) (Nat.le_of_ble_eq_true rfl) (Nat.le_of_ble_eq_true rfl) (y_cons (y_cref hY_this rfl) y_nil) rfl (y_recv rfl hY_this) trivial (y_sub_ef rfl) fun v Yn o Hn L ho hr ha hIn hx_ hE hP => ?_
      replace hs_bk := y_Efld hE hY_this rfl (by decide) (by decide) hs_bk
      replace hs_se := y_Efld hE hY_this rfl (by decide) (by decide) hs_se
      replace hs_fa := y_Efld hE hY_this rfl (by decide) (by decide) hs_fa
      replace hs_fb := y_Efld hE hY_this rfl (by decide) (by decide) hs_fb
      replace hA_bk := hA_bk.kept (y_Earr hE hY_bk rfl (by decide))
      replace hY_this := y_ext hx_ hI.1 hY_this
      replace hY_bk := y_ext hx_ hI.1 hY_bk
      replace hY_se := y_ext hx_ hI.1 hY_se
      have hPb := hP
      obtain rfl := hPb
      clear ho hr ha hE hP hI hx_
      rename x_I _ _ _ _ _ _ _ _ _ _ => hI
      exact y_ireturn B hI rfl rfl rfl List.mem_cons_self ⟨_, rfl, ⟨_, rfl, x_i32 _⟩⟩ (x_cs.mono B.2.2.2.2.2 (y_mon B hI)) (fun t' b' w0' w1' f' h1 h2 h3 h4 => by cases h1; cases h2.symm.trans hs0; cases z_uniq h4 hA0 h3 hcn; exact ⟨_, rfl, ⟨fun q9 => absurd q9 hno, fun q9 => absurd q9 hno, fun q9 => absurd q9 hno, fun _ => rfl⟩, ⟨fun _ a9 b9 h9 => by cases hfa0.symm.trans h9.1; cases hfb0.symm.trans h9.2; exact ⟨hs_fa, hs_fb⟩, fun q9 => absurd q9 (by decide)⟩⟩) (Nat.le_refl _) (Nat.le_refl _) liX_d29
    · have q13_ : ¬ r10.toInt = (0 : Int32).toInt := fun q => q13 (Int32.toInt_inj.mp q)
      refine lv_iload_n hx hb liX_d16 rfl (lv_at hl 1 rfl) ?_
      refine lv_iload_n hx hb liX_d17 rfl (lv_at hl 2 rfl) ?_
      refine lv_ishr hx hb liX_d18 ?_
      generalize hg_z18 : w >>> (h &&& 31) = z18
      refine lv_iconst hx hb liX_d19 (v := 1) (by decide) ?_
      have ec1 : (1 : Int32).toInt = 1 := by decide
      refine lv_iand hx hb liX_d20 ?_
      generalize hg_z20 : z18 &&& (1 : Int32) = z20
      refine lv_iconst hx hb liX_d21 (v := 1) (by decide) ?_
      refine lv_icmp_ne hx hb liX_d22 (tgt := 30) (by decide) (fun q22 => ?_) (fun q22 => ?_)
      · have q22_ : ¬ z20.toInt = (1 : Int32).toInt := fun q => q22 (Int32.toInt_inj.mp q)
        have hok : m_isS fb w ∧ m_isH fb h ∧ m_has w h = false := ⟨hin_r2 (by assumption), hin_r10 (by assumption), by unfold m_has; rw [hg_z18, hg_z20]; exact decide_eq_false (fun q9 => q9 (((hg_z20 ▸ m_and1 z18 : z20 = 0 ∨ z20 = 1)).resolve_right (by assumption)))⟩
        refine lv_aload_n hx hb liX_d30 rfl (lv_at hl 0 rfl) ?_
        refine y_call (z := (0, 240, 1, some 17, xM186)) (av := [.ref this]) (rest := []) (y_cokV (n := 0) (ci := 12) X ym_looksNow rfl rfl rfl (x_cons (x_bw77 8 rfl rfl) (x_cons (x_bw77 10 rfl rfl) (x_cons (x_at 50 (by decide +kernel) rfl) (x_cons (x_bw0 9 rfl rfl) x_nilm)))) (x_bw77 11 rfl rfl) (by decide +kernel) ⟨Nat.le_of_ble_eq_true rfl, Nat.le_of_ble_eq_true rfl⟩) hY0 hI rfl liX_d31 hl.1 (Nat.le_of_ble_eq_true rfl) (Nat.le_of_ble_eq_true rfl) (Nat.le_of_ble_eq_true rfl) (y_cons (y_cref hY_this rfl) y_nil) rfl (y_recv rfl hY_this) trivial (y_sub_ef rfl) fun v Yn o Hn L ho hr ha hIn hx_ hE hP => ?_
        have hPs := hP _ _ _ rfl hs_bk hcn hA_bk _ hs_se
        replace hs_bk := y_Efld hE hY_this rfl (by decide) (by decide) hs_bk
        replace hs_se := y_Efld hE hY_this rfl (by decide) (by decide) hs_se
        replace hs_fa := y_Efld hE hY_this rfl (by decide) (by decide) hs_fa
        replace hs_fb := y_Efld hE hY_this rfl (by decide) (by decide) hs_fb
        replace hA_bk := hA_bk.kept (y_Earr hE hY_bk rfl (by decide))
        replace hY_this := y_ext hx_ hI.1 hY_this
        replace hY_bk := y_ext hx_ hI.1 hY_bk
        replace hY_se := y_ext hx_ hI.1 hY_se
        obtain rfl := y_ansV rfl ho hr
        obtain ⟨fs, hA_se, -⟩ := y_arr hIn.1 hY_se rfl rfl
        have hVs : ∀ i, i < (fb 0).toInt.toNat → fs i = (m_VR fb (fb 4) (fb 5)) i := fun i hi => z_intI (hA_se i (by omega)) (hPs i hi)
        clear ho hr ha hE hP hI hx_
        rename x_I _ _ _ _ _ _ _ _ _ _ => hI
        refine lv_lconst hx hb liX_d34 (v := 0) (by decide) ?_
        have el0 : (0 : Int64).toInt = 0 := by decide
        refine lv_lstore_n hx hb liX_d35 rfl hl (by decide) (lv' := [(3, .long (0 : Int64)), (0, .ref this), (1, .int w), (2, .int h)]) rfl fun ls hl => ?_
        refine lv_iconst hx hb liX_d36 (v := 0) (by decide) ?_
        refine lv_istore hx hb liX_d37 hl (by decide) (lv' := [(5, .int (0 : Int32)), (3, .long (0 : Int64)), (0, .ref this), (1, .int w), (2, .int h)]) rfl fun ls hl => ?_
        exact liX_L39 B rfl hs0 hA0 hcn hd0 hfa0 hfb0 hok 12 _ _ _ _ _ _ _ hI hY_this hY_bk hY_se hs_bk hs_se hA_bk hA_se hs_fa hs_fb (lv_sub hl [0, 1, 2, 3, 4] rfl) (by first | assumption | omega) (by first | assumption | omega) rfl (by omega)
      · have q22_ : z20.toInt = (1 : Int32).toInt := by rw [q22]
        have hno : ¬ (m_isS fb w ∧ m_isH fb h ∧ m_has w h = false) := fun q9 => by first | (have h8 := hout_r2 (by assumption); have h7 := q9.1; unfold m_isS at h7; omega) | exact hout_r10 (by assumption) q9.2.1 | (have h7 := q9.2.2; unfold m_has at h7; rw [hg_z18, hg_z20] at h7; rw [(by assumption : z20 = (1 : Int32))] at h7; revert h7; decide)
        refine lv_aload_n hx hb liX_d25 rfl (lv_at hl 0 rfl) ?_
        refine y_call (z := (0, 102, 1, some 17, xM143)) (av := [.ref this]) (rest := []) (y_cokV (n := 0) (ci := 12) X ym_bad rfl rfl rfl (x_cons (x_bw68 3 rfl rfl) (x_cons (x_bw68 5 rfl rfl) (x_cons (x_at 32 (by decide +kernel) rfl) (x_cons (x_bw0 9 rfl rfl) x_nilm)))) (x_bw68 6 rfl rfl) (by decide +kernel) ⟨Nat.le_of_ble_eq_true rfl, Nat.le_of_ble_eq_true rfl⟩) hY0 hI rfl liX_d26 hl.1 (Nat.le_of_ble_eq_true rfl) (Nat.le_of_ble_eq_true rfl) (Nat.le_of_ble_eq_true rfl) (y_cons (y_cref hY_this rfl) y_nil) rfl (y_recv rfl hY_this) trivial (y_sub_ef rfl) fun v Yn o Hn L ho hr ha hIn hx_ hE hP => ?_
        replace hs_bk := y_Efld hE hY_this rfl (by decide) (by decide) hs_bk
        replace hs_se := y_Efld hE hY_this rfl (by decide) (by decide) hs_se
        replace hs_fa := y_Efld hE hY_this rfl (by decide) (by decide) hs_fa
        replace hs_fb := y_Efld hE hY_this rfl (by decide) (by decide) hs_fb
        replace hA_bk := hA_bk.kept (y_Earr hE hY_bk rfl (by decide))
        replace hY_this := y_ext hx_ hI.1 hY_this
        replace hY_bk := y_ext hx_ hI.1 hY_bk
        replace hY_se := y_ext hx_ hI.1 hY_se
        have hPb := hP
        obtain rfl := hPb
        clear ho hr ha hE hP hI hx_
        rename x_I _ _ _ _ _ _ _ _ _ _ => hI
        exact y_ireturn B hI rfl rfl rfl List.mem_cons_self ⟨_, rfl, ⟨_, rfl, x_i32 _⟩⟩ (x_cs.mono B.2.2.2.2.2 (y_mon B hI)) (fun t' b' w0' w1' f' h1 h2 h3 h4 => by cases h1; cases h2.symm.trans hs0; cases z_uniq h4 hA0 h3 hcn; exact ⟨_, rfl, ⟨fun q9 => absurd q9 hno, fun q9 => absurd q9 hno, fun q9 => absurd q9 hno, fun _ => rfl⟩, ⟨fun _ a9 b9 h9 => by cases hfa0.symm.trans h9.1; cases hfb0.symm.trans h9.2; exact ⟨hs_fa, hs_fb⟩, fun q9 => absurd q9 (by decide)⟩⟩) (Nat.le_refl _) (Nat.le_refl _) liX_d29

