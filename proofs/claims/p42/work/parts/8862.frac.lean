/-! THE FRACTION of the class: chance, lies -/
def z_FR (D : va_G) (H : Heap) (this : Nat) (a b : Int64) : Prop := x_sl D 11 7 this H = some (.long a) ∧ x_sl D 11 8 this H = some (.long b)
def z_fx (D : va_G) (H H' : Heap) (this : Nat) (r : Int32) (up down : Int64) : Prop := (¬ r = 1 → ∀ a b, z_FR D H this a b → z_FR D H' this a b) ∧ (r = 1 → 1 ≤ down.toInt → 0 ≤ (m_labs up).toInt → z_FR D H' this (up / m_gcd (m_labs up) down) (down / m_gcd (m_labs up) down))
/-- what is answered: not as told, not lawful or nothing, 1 -/
def m_3 (ok : Prop) (law : Bool) (nz : Prop) (r : Int32) : Prop := (ok → law = true → nz → r = 1) ∧ (ok → law = true → ¬ nz → r = -3) ∧ (ok → law = false → r = -3) ∧ (¬ ok → r = -2)
theorem m_3.eqr {ok ok' nz nz' : Prop} {law law' : Bool} {r r' : Int32} (h : m_3 ok law nz r) (h' : m_3 ok' law' nz' r') (e1 : ok ↔ ok') (e2 : ok → law = law') (e3 : ok → law = true → (nz ↔ nz')) : r = r' := by
  by_cases k : ok
  · cases hl : law with
    | true =>
      have hl2 := (e2 k).symm.trans hl
      by_cases n : nz
      · rw [h.1 k hl n, h'.1 (e1.mp k) hl2 ((e3 k hl).mp n)]
      · rw [h.2.1 k hl n, h'.2.1 (e1.mp k) hl2 (fun q => n ((e3 k hl).mpr q))]
    | false => rw [h.2.2.1 k hl, h'.2.2.1 (e1.mp k) ((e2 k).symm.trans hl)]
  · rw [h.2.2.2 k, h'.2.2.2 (fun q => k (e1.mpr q))]
def m_wtl (f V : Nat → Int32) (lit : Int32) (v0 : Int64) : Nat → Int64
  | 0 => v0
  | k + 1 => if f (13 + 5 * k) = -1 then m_wtl f V lit v0 k else m_wtl f V lit v0 k * (if m_tru f V lit k then (f 7).toInt64 else (10 - f 7).toInt64)
def m_wtC (f V : Nat → Int32) (w : Int32) (h : Nat) : Int64 := m_wtl f V (w ||| m_sh (nI h)) (f (14 + 5 * h)).toInt64 (f 0).toInt.toNat
def m_chs (f : Nat → Int32) (th : Int32) : Nat → Int32
  | 0 => 0
  | k + 1 => if m_has th (nI k) then m_chs f th k + f (14 + 5 * k) else m_chs f th k
def m_lsC (f V : Nat → Int32) (w : Int32) : Nat → Int64
  | 0 => 0
  | k + 1 => m_lsC f V w k + (if m_has w (nI k) then 0 else m_wtC f V w k)
def m_thC (f : Nat → Int32) (w : Int32) : Int32 := m_gg (m_sus f (m_VC f (f 4) (f 5) 0) w) 0 (f 0).toInt.toNat
def m_lwC (f : Nat → Int32) (w : Int32) : Bool := !(m_any (m_wr (m_VC f (f 4) (f 5) 0) w) 10)
def m_chU (f : Nat → Int32) (w : Int32) (h : Nat) : Int64 := if m_has (m_thC f w) (nI h) then (f (14 + 5 * h)).toInt64 else 0
def m_chD (f : Nat → Int32) (w : Int32) : Int64 := (m_chs f (m_thC f w) (f 0).toInt.toNat).toInt64
theorem m_wtl_congr {f V V' : Nat → Int32} {lit : Int32} {v0 : Int64} : ∀ n, (∀ i, i < n → V' i = V i) → m_wtl f V' lit v0 n = m_wtl f V lit v0 n
  | 0, _ => rfl
  | n + 1, h => by
    show (if _ then _ else _) = (if _ then _ else _)
    rw [m_wtl_congr n fun i hi => h i (by omega), show m_tru f V' lit n = m_tru f V lit n by unfold m_tru; rw [h n (by omega)]]
theorem y_fldL {D : va_G} {Zs : List xZ} {U : State} {Y : xY} {H : Heap} {b t ci k : Nat} {fts : List xV} {lo hi : Int} (hH : x_H D x_G Zs U Y H) (hY : Y b = some t) (hg : x_G[t]? = some (.inl (ci, fts))) (hk : fts[k]? = some (.inr (.inl (lo, hi)))) : ∃ x : Int64, x_sl D ci k b H = some (.long x) := by
  obtain ⟨v, h1, x, e0, h2⟩ := y_fld hH hY hg hk
  subst e0
  exact ⟨x, h1⟩
def z_Psf : yP := fun D av _ _ _ _ H' => ∀ (this : Nat) (up down : Int64), av = [.ref this, .long up, .long down] → 1 ≤ down.toInt → 0 ≤ (m_labs up).toInt → z_FR D H' this (up / m_gcd (m_labs up) down) (down / m_gcd (m_labs up) down)
theorem sfq_d0 : decode xM54.2.1 0 = .ok (.lload_n 1, 1) := dz_ok (by decide +kernel)
theorem sfq_d1 : decode xM54.2.1 1 = .ok (.invokestatic 333, 3) := dz_ok (by decide +kernel)
theorem sfq_d4 : decode xM54.2.1 4 = .ok (.lstore 5, 2) := dz_ok (by decide +kernel)
theorem sfq_d6 : decode xM54.2.1 6 = .ok (.lload_n 3, 1) := dz_ok (by decide +kernel)
theorem sfq_d7 : decode xM54.2.1 7 = .ok (.lstore 7, 2) := dz_ok (by decide +kernel)
theorem sfq_d9 : decode xM54.2.1 9 = .ok (.iconst 0, 1) := dz_ok (by decide +kernel)
theorem sfq_d10 : decode xM54.2.1 10 = .ok (.istore 9, 2) := dz_ok (by decide +kernel)
theorem sfq_d12 : decode xM54.2.1 12 = .ok (.iload 9, 2) := dz_ok (by decide +kernel)
theorem sfq_d14 : decode xM54.2.1 14 = .ok (.sipush 200, 3) := dz_ok (by decide +kernel)
theorem sfq_d17 : decode xM54.2.1 17 = .ok (.if_icmp .ge 31, 3) := dz_ok (by decide +kernel)
theorem sfq_d20 : decode xM54.2.1 20 = .ok (.lload 7, 2) := dz_ok (by decide +kernel)
theorem sfq_d22 : decode xM54.2.1 22 = .ok (.lconst 0, 1) := dz_ok (by decide +kernel)
theorem sfq_d23 : decode xM54.2.1 23 = .ok (.lcmp, 1) := dz_ok (by decide +kernel)
theorem sfq_d24 : decode xM54.2.1 24 = .ok (.ifCond .eq 24, 3) := dz_ok (by decide +kernel)
theorem sfq_d27 : decode xM54.2.1 27 = .ok (.lload 5, 2) := dz_ok (by decide +kernel)
theorem sfq_d29 : decode xM54.2.1 29 = .ok (.lload 7, 2) := dz_ok (by decide +kernel)
theorem sfq_d31 : decode xM54.2.1 31 = .ok (.lrem, 1) := dz_ok (by decide +kernel)
theorem sfq_d32 : decode xM54.2.1 32 = .ok (.lstore 10, 2) := dz_ok (by decide +kernel)
theorem sfq_d34 : decode xM54.2.1 34 = .ok (.lload 7, 2) := dz_ok (by decide +kernel)
theorem sfq_d36 : decode xM54.2.1 36 = .ok (.lstore 5, 2) := dz_ok (by decide +kernel)
theorem sfq_d38 : decode xM54.2.1 38 = .ok (.lload 10, 2) := dz_ok (by decide +kernel)
theorem sfq_d40 : decode xM54.2.1 40 = .ok (.lstore 7, 2) := dz_ok (by decide +kernel)
theorem sfq_d42 : decode xM54.2.1 42 = .ok (.iinc 9 1, 3) := dz_ok (by decide +kernel)
theorem sfq_d45 : decode xM54.2.1 45 = .ok (.goto (-33), 3) := dz_ok (by decide +kernel)
theorem sfq_d48 : decode xM54.2.1 48 = .ok (.lload 5, 2) := dz_ok (by decide +kernel)
theorem sfq_d50 : decode xM54.2.1 50 = .ok (.lconst 0, 1) := dz_ok (by decide +kernel)
theorem sfq_d51 : decode xM54.2.1 51 = .ok (.lcmp, 1) := dz_ok (by decide +kernel)
theorem sfq_d52 : decode xM54.2.1 52 = .ok (.ifCond .le 19, 3) := dz_ok (by decide +kernel)
theorem sfq_d55 : decode xM54.2.1 55 = .ok (.aload_n 0, 1) := dz_ok (by decide +kernel)
theorem sfq_d56 : decode xM54.2.1 56 = .ok (.lload_n 1, 1) := dz_ok (by decide +kernel)
theorem sfq_d57 : decode xM54.2.1 57 = .ok (.lload 5, 2) := dz_ok (by decide +kernel)
theorem sfq_d59 : decode xM54.2.1 59 = .ok (.ldiv, 1) := dz_ok (by decide +kernel)
theorem sfq_d60 : decode xM54.2.1 60 = .ok (.putfield 48, 3) := dz_ok (by decide +kernel)
theorem sfq_d63 : decode xM54.2.1 63 = .ok (.aload_n 0, 1) := dz_ok (by decide +kernel)
theorem sfq_d64 : decode xM54.2.1 64 = .ok (.lload_n 3, 1) := dz_ok (by decide +kernel)
theorem sfq_d65 : decode xM54.2.1 65 = .ok (.lload 5, 2) := dz_ok (by decide +kernel)
theorem sfq_d67 : decode xM54.2.1 67 = .ok (.ldiv, 1) := dz_ok (by decide +kernel)
theorem sfq_d68 : decode xM54.2.1 68 = .ok (.putfield 52, 3) := dz_ok (by decide +kernel)
theorem sfq_d71 : decode xM54.2.1 71 = .ok (.return_, 1) := dz_ok (by decide +kernel)
theorem sfq_L12 {p : Program} {l : Launch} {e : Env} {s : State} {m : MethodId} {below : List Frame} {meth : Method} {c : Code} {D : va_G} {U : State} {Y0 : xY} {av : List Value} (B : y_B vwCl x_Tb x_Nb xM54 p s m meth c D U Y0 av) {this : Nat} {up down : Int64} (hav : av = [.ref this, .long up, .long down])  :
    ∀ (n : Nat), ∀ (H : Heap) (Y : xY) (locs : List Loc) (ls : Array Slot) (k : Int32) (b9 : Int64) (a9 : Int64), x_I D x_G x_Zs U (x_efs xM54) Y0 s.heap Y H locs → Y this = some 0 → lv_has ls xM54.2.2.1 [(9, .int k), (7, .long b9), (5, .long a9), (0, .ref this), (1, .long up), (3, .long down)] → (0 ≤ k.toInt ∧ k.toInt ≤ 200) → ((a9, b9) = m_en k.toInt.toNat (m_labs up, down)) → (201 - k.toInt).toNat < n → W p l e (x_rm xM54) s m av.toArray below meth c H locs 0 0 (y_QQ below D x_G x_Zs U xM54 z_Psf av Y0 s) (F0 m 12 ls []) := by
  have X := B.1
  have hx := X.1
  have hb := X.2.1
  have hY0 := B.2.2.2.2.1
  intro n
  induction n with
  | zero => intro _ _ _ _ _ _ _ _ _ _ _ _ h; exact absurd h (Nat.not_lt_zero _)
  | succ n ih =>
    intro H Y locs ls k b9 a9  hI hY_this hl hk hen hn
    refine lv_iload hx hb sfq_d12 (lv_at hl 0 rfl) ?_
    refine lv_sipush hx hb sfq_d14 (v := 200) (by decide) ?_
    have ec200 : (200 : Int32).toInt = 200 := by decide
    refine lv_icmp_ge hx hb sfq_d17 (tgt := 48) (by decide) (fun q17 => ?_) (fun q17 => ?_)
    · have q17_ : (200 : Int32).toInt ≤ k.toInt := x_le32.mp q17
      refine lv_lload hx hb sfq_d48 (lv_at hl 2 rfl) ?_
      refine lv_lconst hx hb sfq_d50 (v := 0) (by decide) ?_
      have el0 : (0 : Int64).toInt = 0 := by decide
      refine W.lcmp hx hb sfq_d51 ?_
      have h_z51 := y_cmp a9 (0 : Int64)
      generalize hg_z51 : lg_cmp a9 (0 : Int64) = z51 at h_z51 ⊢
      have ec0 : (0 : Int32).toInt = 0 := by decide
      refine lv_if_le hx hb sfq_d52 (tgt := 71) (by decide) (fun q52 => ?_) (fun q52 => ?_)
      · have q52_ : z51.toInt ≤ (0 : Int32).toInt := x_le32.mp q52
        subst hav
        exact y_return B hI rfl rfl List.mem_cons_self rfl (x_cs.mono B.2.2.2.2.2 (y_mon B hI)) (fun t' u' d' h1 h2 h3 => by cases h1; have hgc := m_gcd_at h3 h2 (k := k.toInt.toNat) (by first | exact Or.inr (by omega) | exact Or.inl (by rw [← hen]; exact Int64.toInt_inj.mp (by rw [show (0 : Int64).toInt = 0 by decide]; show b9.toInt = 0; omega))); rw [← hen] at hgc; have e9 : a9 = m_gcd (m_labs up) down := hgc.1; have e8 : 1 ≤ a9.toInt := (by rw [e9]; exact hgc.2.2); exfalso; omega) (Nat.le_refl _) (Nat.le_refl _) sfq_d71
      · have q52_ : (0 : Int32).toInt < z51.toInt := Int.not_le.mp fun q => q52 (x_le32.mpr q)
        refine lv_aload_n hx hb sfq_d55 rfl (lv_at hl 3 rfl) ?_
        refine lv_lload_n hx hb sfq_d56 rfl (lv_at hl 4 rfl) ?_
        refine lv_lload hx hb sfq_d57 (lv_at hl 2 rfl) ?_
        refine lv_ldiv hx hb sfq_d59 (by intro q; have := congrArg Int64.toInt q; have z0 : (0 : Int64).toInt = 0 := (by decide); omega) ?_
        generalize hg_z59 : up / a9 = z59
        refine y_putf X (fw104 X.2.2.2.2.1) hY0 hI hY_this rfl rfl ⟨_, rfl, x_i64 _⟩ (by decide +kernel) sfq_d60 fun H sl hI ho hs hk => ?_
        replace hs := hs
        have hs60 := hs
        refine lv_aload_n hx hb sfq_d63 rfl (lv_at hl 3 rfl) ?_
        refine lv_lload_n hx hb sfq_d64 rfl (lv_at hl 5 rfl) ?_
        refine lv_lload hx hb sfq_d65 (lv_at hl 2 rfl) ?_
        refine lv_ldiv hx hb sfq_d67 (by intro q; have := congrArg Int64.toInt q; have z0 : (0 : Int64).toInt = 0 := (by decide); omega) ?_
        generalize hg_z67 : down / a9 = z67
        refine y_putf X (fw105 X.2.2.2.2.1) hY0 hI hY_this rfl rfl ⟨_, rfl, x_i64 _⟩ (by decide +kernel) sfq_d68 fun H sl hI ho hs hk => ?_
        replace hs60 := hk _ _ (by decide +kernel) (by decide) hs60
        replace hs := hs
        have hs68 := hs
        subst hav
        exact y_return B hI rfl rfl List.mem_cons_self rfl (x_cs.mono B.2.2.2.2.2 (y_mon B hI)) (fun t' u' d' h1 h2 h3 => by cases h1; have hgc := m_gcd_at h3 h2 (k := k.toInt.toNat) (by first | exact Or.inr (by omega) | exact Or.inl (by rw [← hen]; exact Int64.toInt_inj.mp (by rw [show (0 : Int64).toInt = 0 by decide]; show b9.toInt = 0; omega))); rw [← hen] at hgc; have e9 : a9 = m_gcd (m_labs up) down := hgc.1; have e8 : 1 ≤ a9.toInt := (by rw [e9]; exact hgc.2.2); exact ⟨by rw [← e9, hg_z59]; exact hs60, by rw [← e9, hg_z67]; exact hs68⟩) (Nat.le_refl _) (Nat.le_refl _) sfq_d71
    · have q17_ : k.toInt < (200 : Int32).toInt := Int.not_le.mp fun q => q17 (x_le32.mpr q)
      refine lv_lload hx hb sfq_d20 (lv_at hl 1 rfl) ?_
      refine lv_lconst hx hb sfq_d22 (v := 0) (by decide) ?_
      have el0 : (0 : Int64).toInt = 0 := by decide
      refine W.lcmp hx hb sfq_d23 ?_
      have h_z23 := y_cmp b9 (0 : Int64)
      generalize hg_z23 : lg_cmp b9 (0 : Int64) = z23 at h_z23 ⊢
      have ec0 : (0 : Int32).toInt = 0 := by decide
      refine lv_if_eq hx hb sfq_d24 (tgt := 48) (by decide) (fun q24 => ?_) (fun q24 => ?_)
      · have q24_ : z23.toInt = (0 : Int32).toInt := by rw [q24]
        refine lv_lload hx hb sfq_d48 (lv_at hl 2 rfl) ?_
        refine lv_lconst hx hb sfq_d50 (v := 0) (by decide) ?_
        have el0 : (0 : Int64).toInt = 0 := by decide
        refine W.lcmp hx hb sfq_d51 ?_
        have h_z51 := y_cmp a9 (0 : Int64)
        generalize hg_z51 : lg_cmp a9 (0 : Int64) = z51 at h_z51 ⊢
        refine lv_if_le hx hb sfq_d52 (tgt := 71) (by decide) (fun q52 => ?_) (fun q52 => ?_)
        · have q52_ : z51.toInt ≤ (0 : Int32).toInt := x_le32.mp q52
          subst hav
          exact y_return B hI rfl rfl List.mem_cons_self rfl (x_cs.mono B.2.2.2.2.2 (y_mon B hI)) (fun t' u' d' h1 h2 h3 => by cases h1; have hgc := m_gcd_at h3 h2 (k := k.toInt.toNat) (by first | exact Or.inr (by omega) | exact Or.inl (by rw [← hen]; exact Int64.toInt_inj.mp (by rw [show (0 : Int64).toInt = 0 by decide]; show b9.toInt = 0; omega))); rw [← hen] at hgc; have e9 : a9 = m_gcd (m_labs up) down := hgc.1; have e8 : 1 ≤ a9.toInt := (by rw [e9]; exact hgc.2.2); exfalso; omega) (Nat.le_refl _) (Nat.le_refl _) sfq_d71
        · have q52_ : (0 : Int32).toInt < z51.toInt := Int.not_le.mp fun q => q52 (x_le32.mpr q)
          refine lv_aload_n hx hb sfq_d55 rfl (lv_at hl 3 rfl) ?_
          refine lv_lload_n hx hb sfq_d56 rfl (lv_at hl 4 rfl) ?_
          refine lv_lload hx hb sfq_d57 (lv_at hl 2 rfl) ?_
          refine lv_ldiv hx hb sfq_d59 (by intro q; have := congrArg Int64.toInt q; have z0 : (0 : Int64).toInt = 0 := (by decide); omega) ?_
          generalize hg_z59 : up / a9 = z59
          refine y_putf X (fw104 X.2.2.2.2.1) hY0 hI hY_this rfl rfl ⟨_, rfl, x_i64 _⟩ (by decide +kernel) sfq_d60 fun H sl hI ho hs hk => ?_
          replace hs := hs
          have hs60 := hs
          refine lv_aload_n hx hb sfq_d63 rfl (lv_at hl 3 rfl) ?_
          refine lv_lload_n hx hb sfq_d64 rfl (lv_at hl 5 rfl) ?_
          refine lv_lload hx hb sfq_d65 (lv_at hl 2 rfl) ?_
          refine lv_ldiv hx hb sfq_d67 (by intro q; have := congrArg Int64.toInt q; have z0 : (0 : Int64).toInt = 0 := (by decide); omega) ?_
          generalize hg_z67 : down / a9 = z67
          refine y_putf X (fw105 X.2.2.2.2.1) hY0 hI hY_this rfl rfl ⟨_, rfl, x_i64 _⟩ (by decide +kernel) sfq_d68 fun H sl hI ho hs hk => ?_
          replace hs60 := hk _ _ (by decide +kernel) (by decide) hs60
          replace hs := hs
          have hs68 := hs
          subst hav
          exact y_return B hI rfl rfl List.mem_cons_self rfl (x_cs.mono B.2.2.2.2.2 (y_mon B hI)) (fun t' u' d' h1 h2 h3 => by cases h1; have hgc := m_gcd_at h3 h2 (k := k.toInt.toNat) (by first | exact Or.inr (by omega) | exact Or.inl (by rw [← hen]; exact Int64.toInt_inj.mp (by rw [show (0 : Int64).toInt = 0 by decide]; show b9.toInt = 0; omega))); rw [← hen] at hgc; have e9 : a9 = m_gcd (m_labs up) down := hgc.1; have e8 : 1 ≤ a9.toInt := (by rw [e9]; exact hgc.2.2); exact ⟨by rw [← e9, hg_z59]; exact hs60, by rw [← e9, hg_z67]; exact hs68⟩) (Nat.le_refl _) (Nat.le_refl _) sfq_d71
      · have q24_ : ¬ z23.toInt = (0 : Int32).toInt := fun q => q24 (Int32.toInt_inj.mp q)
        refine lv_lload hx hb sfq_d27 (lv_at hl 2 rfl) ?_
        refine lv_lload hx hb sfq_d29 (lv_at hl 1 rfl) ?_
        refine lv_lrem hx hb sfq_d31 (by intro q; have := congrArg Int64.toInt q; have z0 : (0 : Int64).toInt = 0 := (by decide); omega) ?_
        have h_z31 := z_lrem a9 b9 (by intro q; have := congrArg Int64.toInt q; have z0 : (0 : Int64).toInt = 0 := (by decide); omega)
        generalize hg_z31 : a9 - a9 / b9 * b9 = z31 at h_z31 ⊢
        refine lv_lstore hx hb sfq_d32 hl (by decide) (lv' := [(10, .long z31), (9, .int k), (7, .long b9), (5, .long a9), (0, .ref this), (1, .long up), (3, .long down)]) rfl fun ls hl => ?_
        refine lv_lload hx hb sfq_d34 (lv_at hl 2 rfl) ?_
        refine lv_lstore hx hb sfq_d36 hl (by decide) (lv' := [(5, .long b9), (10, .long z31), (9, .int k), (7, .long b9), (0, .ref this), (1, .long up), (3, .long down)]) rfl fun ls hl => ?_
        refine lv_lload hx hb sfq_d38 (lv_at hl 1 rfl) ?_
        refine lv_lstore hx hb sfq_d40 hl (by decide) (lv' := [(7, .long z31), (5, .long b9), (10, .long z31), (9, .int k), (0, .ref this), (1, .long up), (3, .long down)]) rfl fun ls hl => ?_
        obtain ⟨z42, hg_z42⟩ : ∃ z42 : Int32, k + Int32.ofInt 1 = z42 := ⟨_, rfl⟩
        have h_z42 : z42.toInt = k.toInt + 1 := by rw [← hg_z42]; exact y_inc (by decide) (by omega) (by omega)
        refine lv_iinc hx hb sfq_d42 hl (k := 3) rfl hg_z42 (by decide) (lv' := [(9, .int z42), (7, .long z31), (5, .long b9), (10, .long z31), (0, .ref this), (1, .long up), (3, .long down)]) rfl fun ls hl => ?_
        refine lv_goto hx hb sfq_d45 (tgt := 12) (by decide) ?_
        have his : z42.toInt.toNat = k.toInt.toNat + 1 := by omega
        have hb9 : ¬ b9 = 0 := fun q => by have h9 := congrArg Int64.toInt q; rw [show (0 : Int64).toInt = 0 by decide] at h9; omega
        exact ih _ _ _ _ _ _ _ hI hY_this (lv_sub hl [0, 1, 2, 4, 5, 6] rfl) (by first | assumption | omega) (by rw [his, m_en_s (by rw [← hen]; exact hb9), ← hen]; exact congrArg (fun z => (b9, z)) hg_z31.symm) (by omega)
theorem ym_setFraction : y_Met vwCl x_G x_Zs x_Tb x_Nb xM54 y_T z_Psf := by
  refine y_main (by decide +kernel) (by decide +kernel) x_Tb_good x_Nb_ok ?_
  intro p l e s m below meth c D U Y0 av ls B hI _ hl
  have X := B.1
  have hx := X.1
  have hb := X.2.1
  have hY0 := B.2.2.2.2.1
  obtain ⟨v0, v1, v2, rfl, hv0, ⟨up, rfl, -⟩, ⟨down, rfl, -⟩⟩ := y_three B.2.2.2.2.2
  obtain ⟨this, t0, rfl, ht0, hY_this⟩ := x_ref_at hv0 rfl
  obtain rfl := List.mem_singleton.mp ht0
  replace hl : lv_has ls xM54.2.2.1 [(0, .ref this), (1, .long up), (3, .long down)] := hl
  refine lv_lload_n hx hb sfq_d0 rfl (lv_at hl 1 rfl) ?_
  refine y_call (z := (1, 333, 1, none, (xMm1L Lib.MathLoose.abs_long.x prog_16_method_61_code))) (av := [.long up]) (rest := []) (y_cokAbsL X (by decide +kernel) (x_cons (x_bw33 11 rfl rfl) (x_cons (x_bw33 12 rfl rfl) (x_cons (x_bw0 15 rfl rfl) (x_cons (x_bw33 13 rfl rfl) x_nilm)))) ⟨Nat.le_of_ble_eq_true rfl, Nat.le_of_ble_eq_true rfl⟩) hY0 hI rfl sfq_d1 hl.1 (Nat.le_of_ble_eq_true rfl) (Nat.le_of_ble_eq_true rfl) (Nat.le_of_ble_eq_true rfl) (y_cons ⟨_, rfl, x_i64 _⟩ y_nil) rfl (y_norecv rfl) trivial (y_sub_ef rfl) fun v Yn o Hn L ho hr ha hIn hx_ hE hP => ?_
  replace hY_this := y_ext hx_ hI.1 hY_this
  obtain rfl := hP _ rfl
  generalize hg_r1 : (if 0 < up then up else -up) = r1
  clear ho hr ha hE hP hI hx_
  rename x_I _ _ _ _ _ _ _ _ _ _ => hI
  replace hg_r1 : m_labs up = r1 := hg_r1
  refine lv_lstore hx hb sfq_d4 hl (by decide) (lv' := [(5, .long r1), (0, .ref this), (1, .long up), (3, .long down)]) rfl fun ls hl => ?_
  refine lv_lload_n hx hb sfq_d6 rfl (lv_at hl 3 rfl) ?_
  refine lv_lstore hx hb sfq_d7 hl (by decide) (lv' := [(7, .long down), (5, .long r1), (0, .ref this), (1, .long up), (3, .long down)]) rfl fun ls hl => ?_
  refine lv_iconst hx hb sfq_d9 (v := 0) (by decide) ?_
  have ec0 : (0 : Int32).toInt = 0 := by decide
  refine lv_istore hx hb sfq_d10 hl (by decide) (lv' := [(9, .int (0 : Int32)), (7, .long down), (5, .long r1), (0, .ref this), (1, .long up), (3, .long down)]) rfl fun ls hl => ?_
  exact sfq_L12 B rfl 202 _ _ _ _ _ _ _ hI hY_this (lv_sub hl [0, 1, 2, 3, 4, 5] rfl) (by first | assumption | omega) (by rw [z_i0, hg_r1]; rfl) (by omega)
def z_Pwt : yP := fun D av Y H v _ _ => ∀ (this ld ey vw : Nat) (w h : Int32) (f V : Nat → Int32), av = [.ref this, .int w, .int h] → x_sl D 11 0 this H = some (.ref ld) → x_sl D 11 4 this H = some (.ref ey) → x_sl D 0 1 ey H = some (.ref vw) → z_L D Y ld H f → y_A vw 10 H V → v = some (.long (m_wtC f V w h.toInt.toNat))
theorem wtq_d0 : decode xM124.2.1 0 = .ok (.iload_n 1, 1) := dz_ok (by decide +kernel)
theorem wtq_d1 : decode xM124.2.1 1 = .ok (.iconst 1, 1) := dz_ok (by decide +kernel)
theorem wtq_d2 : decode xM124.2.1 2 = .ok (.iload_n 2, 1) := dz_ok (by decide +kernel)
theorem wtq_d3 : decode xM124.2.1 3 = .ok (.ishl, 1) := dz_ok (by decide +kernel)
theorem wtq_d4 : decode xM124.2.1 4 = .ok (.ior, 1) := dz_ok (by decide +kernel)
theorem wtq_d5 : decode xM124.2.1 5 = .ok (.istore_n 3, 1) := dz_ok (by decide +kernel)
theorem wtq_d6 : decode xM124.2.1 6 = .ok (.aload_n 0, 1) := dz_ok (by decide +kernel)
theorem wtq_d7 : decode xM124.2.1 7 = .ok (.getfield 12, 3) := dz_ok (by decide +kernel)
theorem wtq_d10 : decode xM124.2.1 10 = .ok (.getfield 267, 3) := dz_ok (by decide +kernel)
theorem wtq_d13 : decode xM124.2.1 13 = .ok (.iload_n 2, 1) := dz_ok (by decide +kernel)
theorem wtq_d14 : decode xM124.2.1 14 = .ok (.iaload, 1) := dz_ok (by decide +kernel)
theorem wtq_d15 : decode xM124.2.1 15 = .ok (.i2l, 1) := dz_ok (by decide +kernel)
theorem wtq_d16 : decode xM124.2.1 16 = .ok (.lstore 4, 2) := dz_ok (by decide +kernel)
theorem wtq_d18 : decode xM124.2.1 18 = .ok (.iconst 0, 1) := dz_ok (by decide +kernel)
theorem wtq_d19 : decode xM124.2.1 19 = .ok (.istore 6, 2) := dz_ok (by decide +kernel)
theorem wtq_d21 : decode xM124.2.1 21 = .ok (.iload 6, 2) := dz_ok (by decide +kernel)
theorem wtq_d23 : decode xM124.2.1 23 = .ok (.aload_n 0, 1) := dz_ok (by decide +kernel)
theorem wtq_d24 : decode xM124.2.1 24 = .ok (.getfield 12, 3) := dz_ok (by decide +kernel)
theorem wtq_d27 : decode xM124.2.1 27 = .ok (.getfield 273, 3) := dz_ok (by decide +kernel)
theorem wtq_d30 : decode xM124.2.1 30 = .ok (.if_icmp .ge 64, 3) := dz_ok (by decide +kernel)
theorem wtq_d33 : decode xM124.2.1 33 = .ok (.aload_n 0, 1) := dz_ok (by decide +kernel)
theorem wtq_d34 : decode xM124.2.1 34 = .ok (.getfield 12, 3) := dz_ok (by decide +kernel)
theorem wtq_d37 : decode xM124.2.1 37 = .ok (.getfield 264, 3) := dz_ok (by decide +kernel)
theorem wtq_d40 : decode xM124.2.1 40 = .ok (.iload 6, 2) := dz_ok (by decide +kernel)
theorem wtq_d42 : decode xM124.2.1 42 = .ok (.iaload, 1) := dz_ok (by decide +kernel)
theorem wtq_d43 : decode xM124.2.1 43 = .ok (.iconst (-1), 1) := dz_ok (by decide +kernel)
theorem wtq_d44 : decode xM124.2.1 44 = .ok (.if_icmp .eq 44, 3) := dz_ok (by decide +kernel)
theorem wtq_d47 : decode xM124.2.1 47 = .ok (.lload 4, 2) := dz_ok (by decide +kernel)
theorem wtq_d49 : decode xM124.2.1 49 = .ok (.aload_n 0, 1) := dz_ok (by decide +kernel)
theorem wtq_d50 : decode xM124.2.1 50 = .ok (.iload 6, 2) := dz_ok (by decide +kernel)
theorem wtq_d52 : decode xM124.2.1 52 = .ok (.iload_n 3, 1) := dz_ok (by decide +kernel)
theorem wtq_d53 : decode xM124.2.1 53 = .ok (.invokevirtual 330, 3) := dz_ok (by decide +kernel)
theorem wtq_d56 : decode xM124.2.1 56 = .ok (.ifCond .eq 16, 3) := dz_ok (by decide +kernel)
theorem wtq_d59 : decode xM124.2.1 59 = .ok (.aload_n 0, 1) := dz_ok (by decide +kernel)
theorem wtq_d60 : decode xM124.2.1 60 = .ok (.getfield 12, 3) := dz_ok (by decide +kernel)
theorem wtq_d63 : decode xM124.2.1 63 = .ok (.getfield 95, 3) := dz_ok (by decide +kernel)
theorem wtq_d66 : decode xM124.2.1 66 = .ok (.iconst 3, 1) := dz_ok (by decide +kernel)
theorem wtq_d67 : decode xM124.2.1 67 = .ok (.iaload, 1) := dz_ok (by decide +kernel)
theorem wtq_d68 : decode xM124.2.1 68 = .ok (.i2l, 1) := dz_ok (by decide +kernel)
theorem wtq_d69 : decode xM124.2.1 69 = .ok (.goto 16, 3) := dz_ok (by decide +kernel)
theorem wtq_d72 : decode xM124.2.1 72 = .ok (.bipush 10, 2) := dz_ok (by decide +kernel)
theorem wtq_d74 : decode xM124.2.1 74 = .ok (.aload_n 0, 1) := dz_ok (by decide +kernel)
theorem wtq_d75 : decode xM124.2.1 75 = .ok (.getfield 12, 3) := dz_ok (by decide +kernel)
theorem wtq_d78 : decode xM124.2.1 78 = .ok (.getfield 95, 3) := dz_ok (by decide +kernel)
theorem wtq_d81 : decode xM124.2.1 81 = .ok (.iconst 3, 1) := dz_ok (by decide +kernel)
theorem wtq_d82 : decode xM124.2.1 82 = .ok (.iaload, 1) := dz_ok (by decide +kernel)
theorem wtq_d83 : decode xM124.2.1 83 = .ok (.isub, 1) := dz_ok (by decide +kernel)
theorem wtq_d84 : decode xM124.2.1 84 = .ok (.i2l, 1) := dz_ok (by decide +kernel)
theorem wtq_d85 : decode xM124.2.1 85 = .ok (.lmul, 1) := dz_ok (by decide +kernel)
theorem wtq_d86 : decode xM124.2.1 86 = .ok (.lstore 4, 2) := dz_ok (by decide +kernel)
theorem wtq_d88 : decode xM124.2.1 88 = .ok (.iinc 6 1, 3) := dz_ok (by decide +kernel)
theorem wtq_d91 : decode xM124.2.1 91 = .ok (.goto (-70), 3) := dz_ok (by decide +kernel)
theorem wtq_d94 : decode xM124.2.1 94 = .ok (.lload 4, 2) := dz_ok (by decide +kernel)
theorem wtq_d96 : decode xM124.2.1 96 = .ok (.lreturn, 1) := dz_ok (by decide +kernel)
theorem wtq_L21 {p : Program} {l : Launch} {e : Env} {s : State} {m : MethodId} {below : List Frame} {meth : Method} {c : Code} {D : va_G} {U : State} {Y0 : xY} {av : List Value} (B : y_B vwCl x_Tb x_Nb xM124 p s m meth c D U Y0 av) {this ld ey vw ar ablame adial : Nat} {w h : Int32} {f V : Nat → Int32} (hav : av = [.ref this, .int w, .int h]) (hh : 0 ≤ h.toInt ∧ h.toInt ≤ 9) (hs0 : x_sl D 11 0 this s.heap = some (.ref ld)) (hs4 : x_sl D 11 4 this s.heap = some (.ref ey)) (hs1 : x_sl D 0 1 ey s.heap = some (.ref vw)) (hL0 : z_L D Y0 ld s.heap f) (hA0 : y_A vw 10 s.heap V) (hb0 : 0 ≤ (f 0).toInt ∧ (f 0).toInt ≤ 10)  :
    ∀ (n : Nat), ∀ (H : Heap) (Y : xY) (locs : List Loc) (ls : Array Slot) (k : Int32) (pr : Int64) (lit : Int32), x_I D x_G x_Zs U (x_efs xM124) Y0 s.heap Y H locs → Y this = some 0 → Y ld = some 2 → Y ey = some 6 → Y vw = some 32 → Y ar = some 22 → Y ablame = some 23 → Y adial = some 27 → x_sl D 11 0 this H = some (.ref ld) → x_sl D 11 4 this H = some (.ref ey) → x_sl D 0 1 ey H = some (.ref vw) → x_sl D 2 4 ld H = some (.ref ar) → x_sl D 2 5 ld H = some (.ref ablame) → x_sl D 2 10 ld H = some (.ref adial) → x_sl D 2 0 ld H = some (.int (f 0)) → y_A vw 10 H V → y_A ar 10 H (fun j => f (13 + 5 * j)) → y_A ablame 10 H (fun j => f (14 + 5 * j)) → y_A adial 4 H (fun j => f (4 + 1 * j)) → z_L D Y ld H f → lv_has ls xM124.2.2.1 [(6, .int k), (4, .long pr), (3, .int lit), (0, .ref this), (1, .int w), (2, .int h)] → (0 ≤ k.toInt ∧ k.toInt ≤ (f 0).toInt) → (lit = (w ||| m_sh (nI h.toInt.toNat))) → (pr = m_wtl f V lit (f (14 + 5 * h.toInt.toNat)).toInt64 k.toInt.toNat) → (11 - k.toInt).toNat < n → W p l e (x_rm xM124) s m av.toArray below meth c H locs 0 0 (y_QQ below D x_G x_Zs U xM124 z_Pwt av Y0 s) (F0 m 21 ls []) := by
  have X := B.1
  have hx := X.1
  have hb := X.2.1
  have hY0 := B.2.2.2.2.1
  intro n
  induction n with
  | zero => intro _ _ _ _ _ _ _ _ _ _ _ _ _ _ _ _ _ _ _ _ _ _ _ _ _ _ _ _ _ _ _ h; exact absurd h (Nat.not_lt_zero _)
  | succ n ih =>
    intro H Y locs ls k pr lit  hI hY_this hY_ld hY_ey hY_vw hY_ar hY_ablame hY_adial hs_ld hs_ey hs_vw hs_ar hs_ablame hs_adial hsi_hills hA_vw hA_ar hA_ablame hA_adial hL hl hk hlit hpr hn
    refine lv_iload hx hb wtq_d21 (lv_at hl 0 rfl) ?_
    refine lv_aload_n hx hb wtq_d23 rfl (lv_at hl 3 rfl) ?_
    refine y_getf X (fl8 X.2.2.2.2.1) hI.1 hY_this rfl hs_ld wtq_d24 ?_
    refine y_getf X (fl153 X.2.2.2.2.1) hI.1 hY_ld rfl hsi_hills wtq_d27 ?_
    refine lv_icmp_ge hx hb wtq_d30 (tgt := 94) (by decide) (fun q30 => ?_) (fun q30 => ?_)
    · have q30_ : (f 0).toInt ≤ k.toInt := x_le32.mp q30
      refine lv_lload hx hb wtq_d94 (lv_at hl 1 rfl) ?_
      subst hav
      exact y_lreturn B hI rfl rfl List.mem_cons_self ⟨_, rfl, ⟨_, rfl, x_i64 _⟩⟩ (x_cs.mono B.2.2.2.2.2 (y_mon B hI)) (fun t' d' e' v' w' h' f' V' h1 h2 h3 h4 h5 h6 => by cases h1; cases h2.symm.trans hs0; cases h3.symm.trans hs4; cases h4.symm.trans hs1; cases h5.uniq hL0; have eV : ∀ i, i < 10 → V' i = V i := fun i hi => z_AR h6 hA0 hi; refine congrArg (fun x => some (Value.long x)) ?_; unfold m_wtC; rw [m_wtl_congr _ fun i hi => eV i (by omega), ← hlit, show (f 0).toInt.toNat = k.toInt.toNat by omega]; exact hpr) (Nat.le_refl _) (Nat.le_refl _) wtq_d96
    · have q30_ : k.toInt < (f 0).toInt := Int.not_le.mp fun q => q30 (x_le32.mpr q)
      refine lv_aload_n hx hb wtq_d33 rfl (lv_at hl 3 rfl) ?_
      refine y_getf X (fl8 X.2.2.2.2.1) hI.1 hY_this rfl hs_ld wtq_d34 ?_
      refine y_getf X (fl151 X.2.2.2.2.1) hI.1 hY_ld rfl hs_ar wtq_d37 ?_
      refine lv_iload hx hb wtq_d40 (lv_at hl 0 rfl) ?_
      refine y_iald X hI.1 hY_ar rfl hA_ar (by omega) (by show _ < (10 : Int); omega) wtq_d42 ?_
      obtain ⟨e42, hg_e42⟩ : ∃ e42 : Int32, f (13 + 5 * k.toInt.toNat) = e42 := ⟨_, rfl⟩
      rw [hg_e42]
      refine lv_iconst hx hb wtq_d43 (v := (-1)) (by decide) ?_
      have ecm1 : ((-1) : Int32).toInt = (-1) := by decide
      refine lv_icmp_eq hx hb wtq_d44 (tgt := 88) (by decide) (fun q44 => ?_) (fun q44 => ?_)
      · have q44_ : e42.toInt = ((-1) : Int32).toInt := by rw [q44]
        obtain ⟨z88, hg_z88⟩ : ∃ z88 : Int32, k + Int32.ofInt 1 = z88 := ⟨_, rfl⟩
        have h_z88 : z88.toInt = k.toInt + 1 := by rw [← hg_z88]; exact y_inc (by decide) (by omega) (by omega)
        refine lv_iinc hx hb wtq_d88 hl (k := 0) rfl hg_z88 (by decide) (lv' := [(6, .int z88), (4, .long pr), (3, .int lit), (0, .ref this), (1, .int w), (2, .int h)]) rfl fun ls hl => ?_
        refine lv_goto hx hb wtq_d91 (tgt := 21) (by decide) ?_
        have his : z88.toInt.toNat = k.toInt.toNat + 1 := by omega
        exact ih _ _ _ _ _ _ _ hI hY_this hY_ld hY_ey hY_vw hY_ar hY_ablame hY_adial hs_ld hs_ey hs_vw hs_ar hs_ablame hs_adial hsi_hills hA_vw hA_ar hA_ablame hA_adial hL (lv_sub hl [0, 1, 2, 3, 4, 5] rfl) (by first | assumption | omega) (by first | assumption | omega) (by rw [his]; show _ = (if _ then _ else _); rw [if_pos (show f (13 + 5 * k.toInt.toNat) = -1 from hg_e42.trans (by assumption))]; exact hpr) (by omega)
      · have q44_ : ¬ e42.toInt = ((-1) : Int32).toInt := fun q => q44 (Int32.toInt_inj.mp q)
        refine lv_lload hx hb wtq_d47 (lv_at hl 1 rfl) ?_
        refine lv_aload_n hx hb wtq_d49 rfl (lv_at hl 3 rfl) ?_
        refine lv_iload hx hb wtq_d50 (lv_at hl 0 rfl) ?_
        refine lv_iload_n hx hb wtq_d52 rfl (lv_at hl 2 rfl) ?_
        refine y_call (z := (0, 330, 3, some 0, xM119)) (av := [.ref this, .int k, .int lit]) (rest := [.long pr]) (y_cokV (n := 2) (ci := 11) X ym_isTrue rfl rfl rfl (x_cons (x_bw56 13 rfl rfl) (x_cons (x_bw56 15 rfl rfl) (x_cons (x_at 28 (by decide +kernel) rfl) (x_cons (x_bw0 1 rfl rfl) x_nilm)))) (x_bw57 0 rfl rfl) (by decide +kernel) ⟨Nat.le_of_ble_eq_true rfl, Nat.le_of_ble_eq_true rfl⟩) hY0 hI rfl wtq_d53 hl.1 (Nat.le_of_ble_eq_true rfl) (Nat.le_of_ble_eq_true rfl) (Nat.le_of_ble_eq_true rfl) (y_cons (y_cref hY_this rfl) (y_cons ⟨_, rfl, by show (0 : Int) ≤ _; omega, by show _ ≤ (9 : Int); omega⟩ (y_cons ⟨_, rfl, x_i32 _⟩ y_nil))) rfl (y_recv rfl hY_this) (fun t' hd' h1 h2 => by cases h1; cases h2.symm.trans hs_ld; exact ⟨_, hL⟩) (y_sub_ef rfl) fun v Yn o Hn L ho hr ha hIn hx_ hE hP => ?_
        have hPt := hP _ _ _ _ _ _ _ _ rfl hs_ld hs_ey hs_vw hL hA_vw
        obtain rfl := hPt
        replace hs_ld := y_Efld hE hY_this rfl (by decide) (by decide) hs_ld
        replace hs_ey := y_Efld hE hY_this rfl (by decide) (by decide) hs_ey
        replace hs_vw := y_Efld hE hY_ey rfl (by decide) (by decide) hs_vw
        replace hs_ar := y_Efld hE hY_ld rfl (by decide) (by decide) hs_ar
        replace hs_ablame := y_Efld hE hY_ld rfl (by decide) (by decide) hs_ablame
        replace hs_adial := y_Efld hE hY_ld rfl (by decide) (by decide) hs_adial
        replace hsi_hills := y_Efld hE hY_ld rfl (by decide) (by decide) hsi_hills
        replace hA_vw := hA_vw.kept (y_Earr hE hY_vw rfl (by decide))
        replace hA_ar := hA_ar.kept (y_Earr hE hY_ar rfl (by decide))
        replace hA_ablame := hA_ablame.kept (y_Earr hE hY_ablame rfl (by decide))
        replace hA_adial := hA_adial.kept (y_Earr hE hY_adial rfl (by decide))
        replace hL := hL.E hY_ld hE (fun q u h => y_ext hx_ hI.1 h) (by decide +kernel)
        replace hY_this := y_ext hx_ hI.1 hY_this
        replace hY_ld := y_ext hx_ hI.1 hY_ld
        replace hY_ey := y_ext hx_ hI.1 hY_ey
        replace hY_vw := y_ext hx_ hI.1 hY_vw
        replace hY_ar := y_ext hx_ hI.1 hY_ar
        replace hY_ablame := y_ext hx_ hI.1 hY_ablame
        replace hY_adial := y_ext hx_ hI.1 hY_adial
        generalize hg_r53 : m_b (m_tru f V lit k.toInt.toNat) = r53
        clear ho hr ha hE hP hI hx_
        rename x_I _ _ _ _ _ _ _ _ _ _ => hI
        have ec0 : (0 : Int32).toInt = 0 := by decide
        refine lv_if_eq hx hb wtq_d56 (tgt := 72) (by decide) (fun q56 => ?_) (fun q56 => ?_)
        · have q56_ : r53.toInt = (0 : Int32).toInt := by rw [q56]
          refine lv_bipush hx hb wtq_d72 (v := 10) (by decide) ?_
          have ec10 : (10 : Int32).toInt = 10 := by decide
          refine lv_aload_n hx hb wtq_d74 rfl (lv_at hl 3 rfl) ?_
          refine y_getf X (fl8 X.2.2.2.2.1) hI.1 hY_this rfl hs_ld wtq_d75 ?_
          refine y_getf X (fl58 X.2.2.2.2.1) hI.1 hY_ld rfl hs_adial wtq_d78 ?_
          refine lv_iconst hx hb wtq_d81 (v := 3) (by decide) ?_
          have ec3 : (3 : Int32).toInt = 3 := by decide
          refine y_iald X hI.1 hY_adial rfl hA_adial (by omega) (by show _ < (4 : Int); omega) wtq_d82 ?_
          obtain ⟨e82, hg_e82⟩ : ∃ e82 : Int32, f (4 + 1 * (3 : Int32).toInt.toNat) = e82 := ⟨_, rfl⟩
          rw [hg_e82]
          refine lv_isub hx hb wtq_d83 ?_
          generalize hg_z83 : (10 : Int32) - e82 = z83
          obtain ⟨z84, hg_z84⟩ : ∃ z84 : Int64, z83.toInt64 = z84 := ⟨_, rfl⟩
          have h_z84 : z84.toInt = (z83).toInt := by rw [← hg_z84]; exact Int32.toInt_toInt64 _
          refine lv_i2l hx hb wtq_d84 (v := z84) hg_z84 ?_
          refine lv_lmul hx hb wtq_d85 ?_
          generalize hg_z85 : pr * z84 = z85
          refine lv_lstore hx hb wtq_d86 hl (by decide) (lv' := [(4, .long z85), (6, .int k), (3, .int lit), (0, .ref this), (1, .int w), (2, .int h)]) rfl fun ls hl => ?_
          obtain ⟨z88, hg_z88⟩ : ∃ z88 : Int32, k + Int32.ofInt 1 = z88 := ⟨_, rfl⟩
          have h_z88 : z88.toInt = k.toInt + 1 := by rw [← hg_z88]; exact y_inc (by decide) (by omega) (by omega)
          refine lv_iinc hx hb wtq_d88 hl (k := 1) rfl hg_z88 (by decide) (lv' := [(6, .int z88), (4, .long z85), (3, .int lit), (0, .ref this), (1, .int w), (2, .int h)]) rfl fun ls hl => ?_
          refine lv_goto hx hb wtq_d91 (tgt := 21) (by decide) ?_
          have his : z88.toInt.toNat = k.toInt.toNat + 1 := by omega
          have hne : ¬ f (13 + 5 * k.toInt.toNat) = -1 := fun q9 => absurd (hg_e42.symm.trans q9) (by assumption)
          exact ih _ _ _ _ _ _ _ hI hY_this hY_ld hY_ey hY_vw hY_ar hY_ablame hY_adial hs_ld hs_ey hs_vw hs_ar hs_ablame hs_adial hsi_hills hA_vw hA_ar hA_ablame hA_adial hL (lv_sub hl [0, 1, 2, 3, 4, 5] rfl) (by first | assumption | omega) (by first | assumption | omega) (by rw [his]; show _ = (if _ then _ else _ * (if _ then _ else _)); rw [if_neg hne]; first | (rw [m_bn (fun q => absurd (hg_r53.symm.trans q) (by assumption)), if_pos rfl, ← hpr, show f 7 = e67 from (congrArg f (by decide : 7 = 4 + 1 * (3 : Int32).toInt.toNat)).trans hg_e67, hg_z68]; exact hg_z85.symm) | (rw [m_b0 (hg_r53.trans (by assumption)), if_neg (fun q9 => by cases q9), ← hpr, show f 7 = e82 from (congrArg f (by decide : 7 = 4 + 1 * (3 : Int32).toInt.toNat)).trans hg_e82, hg_z83, hg_z84]; exact hg_z85.symm)) (by omega)
        · have q56_ : ¬ r53.toInt = (0 : Int32).toInt := fun q => q56 (Int32.toInt_inj.mp q)
          refine lv_aload_n hx hb wtq_d59 rfl (lv_at hl 3 rfl) ?_
          refine y_getf X (fl8 X.2.2.2.2.1) hI.1 hY_this rfl hs_ld wtq_d60 ?_
          refine y_getf X (fl58 X.2.2.2.2.1) hI.1 hY_ld rfl hs_adial wtq_d63 ?_
          refine lv_iconst hx hb wtq_d66 (v := 3) (by decide) ?_
          have ec3 : (3 : Int32).toInt = 3 := by decide
          refine y_iald X hI.1 hY_adial rfl hA_adial (by omega) (by show _ < (4 : Int); omega) wtq_d67 ?_
          obtain ⟨e67, hg_e67⟩ : ∃ e67 : Int32, f (4 + 1 * (3 : Int32).toInt.toNat) = e67 := ⟨_, rfl⟩
          rw [hg_e67]
          obtain ⟨z68, hg_z68⟩ : ∃ z68 : Int64, e67.toInt64 = z68 := ⟨_, rfl⟩
          have h_z68 : z68.toInt = (e67).toInt := by rw [← hg_z68]; exact Int32.toInt_toInt64 _
          refine lv_i2l hx hb wtq_d68 (v := z68) hg_z68 ?_
          refine lv_goto hx hb wtq_d69 (tgt := 85) (by decide) ?_
          refine lv_lmul hx hb wtq_d85 ?_
          generalize hg_z85 : pr * z68 = z85
          refine lv_lstore hx hb wtq_d86 hl (by decide) (lv' := [(4, .long z85), (6, .int k), (3, .int lit), (0, .ref this), (1, .int w), (2, .int h)]) rfl fun ls hl => ?_
          obtain ⟨z88, hg_z88⟩ : ∃ z88 : Int32, k + Int32.ofInt 1 = z88 := ⟨_, rfl⟩
          have h_z88 : z88.toInt = k.toInt + 1 := by rw [← hg_z88]; exact y_inc (by decide) (by omega) (by omega)
          refine lv_iinc hx hb wtq_d88 hl (k := 1) rfl hg_z88 (by decide) (lv' := [(6, .int z88), (4, .long z85), (3, .int lit), (0, .ref this), (1, .int w), (2, .int h)]) rfl fun ls hl => ?_
          refine lv_goto hx hb wtq_d91 (tgt := 21) (by decide) ?_
          have his : z88.toInt.toNat = k.toInt.toNat + 1 := by omega
          have hne : ¬ f (13 + 5 * k.toInt.toNat) = -1 := fun q9 => absurd (hg_e42.symm.trans q9) (by assumption)
          exact ih _ _ _ _ _ _ _ hI hY_this hY_ld hY_ey hY_vw hY_ar hY_ablame hY_adial hs_ld hs_ey hs_vw hs_ar hs_ablame hs_adial hsi_hills hA_vw hA_ar hA_ablame hA_adial hL (lv_sub hl [0, 1, 2, 3, 4, 5] rfl) (by first | assumption | omega) (by first | assumption | omega) (by rw [his]; show _ = (if _ then _ else _ * (if _ then _ else _)); rw [if_neg hne]; first | (rw [m_bn (fun q => absurd (hg_r53.symm.trans q) (by assumption)), if_pos rfl, ← hpr, show f 7 = e67 from (congrArg f (by decide : 7 = 4 + 1 * (3 : Int32).toInt.toNat)).trans hg_e67, hg_z68]; exact hg_z85.symm) | (rw [m_b0 (hg_r53.trans (by assumption)), if_neg (fun q9 => by cases q9), ← hpr, show f 7 = e82 from (congrArg f (by decide : 7 = 4 + 1 * (3 : Int32).toInt.toNat)).trans hg_e82, hg_z83, hg_z84]; exact hg_z85.symm)) (by omega)
theorem ym_weight : y_Met vwCl x_G x_Zs x_Tb x_Nb xM124 z_AT1 z_Pwt := by
  refine y_main (by decide +kernel) (by decide +kernel) x_Tb_good x_Nb_ok ?_
  intro p l e s m below meth c D U Y0 av ls B hI hpre hl
  have X := B.1
  have hx := X.1
  have hb := X.2.1
  have hY0 := B.2.2.2.2.1
  obtain ⟨v0, v1, v2, rfl, hv0, ⟨w, rfl, -⟩, ⟨h, rfl, hh⟩⟩ := y_three B.2.2.2.2.2
  replace hh : (0 : Int) ≤ h.toInt ∧ h.toInt ≤ 9 := hh
  obtain ⟨this, t0, rfl, ht0, hY_this⟩ := x_ref_at hv0 rfl
  obtain rfl := List.mem_singleton.mp ht0
  replace hl : lv_has ls xM124.2.2.1 [(0, .ref this), (1, .int w), (2, .int h)] := hl
  obtain ⟨ld, hs_ld, hY_ld⟩ := y_fldR (k := 0) hI.1 hY_this rfl rfl
  obtain ⟨ey, hs_ey, hY_ey⟩ := y_fldR (k := 4) hI.1 hY_this rfl rfl
  obtain ⟨vw, hs_vw, hY_vw⟩ := y_fldR (k := 1) hI.1 hY_ey rfl rfl
  obtain ⟨V, hA_vw, -⟩ := y_arr hI.1 hY_vw rfl rfl
  obtain ⟨f, hL⟩ := hpre _ _ rfl hs_ld
  have hL0 := hL
  have hn0 := hL.1.1
  have hb0 : 0 ≤ (f 0).toInt ∧ (f 0).toInt ≤ 10 := by obtain ⟨x9, e9, b9⟩ := y_fldI (k := 0) hI.1 hY_ld rfl rfl; rw [hn0] at e9; cases e9; exact b9
  have hs0 := hs_ld
  have hs4 := hs_ey
  have hs1 := hs_vw
  have hA0 := hA_vw
  have hsi_hills := hn0
  obtain ⟨ar, hs_ar, hY_ar, hA_ar⟩ := hL.2.1 (4, 22, 10, 13, 5) (by decide)
  replace hA_ar : y_A ar 10 s.heap (fun j => f (13 + 5 * j)) := hA_ar
  obtain ⟨ablame, hs_ablame, hY_ablame, hA_ablame⟩ := hL.2.1 (5, 23, 10, 14, 5) (by decide)
  replace hA_ablame : y_A ablame 10 s.heap (fun j => f (14 + 5 * j)) := hA_ablame
  obtain ⟨adial, hs_adial, hY_adial, hA_adial⟩ := hL.2.1 (10, 27, 4, 4, 1) (by decide)
  replace hA_adial : y_A adial 4 s.heap (fun j => f (4 + 1 * j)) := hA_adial
  refine lv_iload_n hx hb wtq_d0 rfl (lv_at hl 1 rfl) ?_
  refine lv_iconst hx hb wtq_d1 (v := 1) (by decide) ?_
  have ec1 : (1 : Int32).toInt = 1 := by decide
  refine lv_iload_n hx hb wtq_d2 rfl (lv_at hl 2 rfl) ?_
  refine lv_ishl hx hb wtq_d3 ?_
  generalize hg_z3 : (1 : Int32) <<< (h &&& 31) = z3
  refine lv_ior hx hb wtq_d4 ?_
  generalize hg_z4 : w ||| z3 = z4
  refine lv_istore_n hx hb wtq_d5 rfl hl (by decide) (lv' := [(3, .int z4), (0, .ref this), (1, .int w), (2, .int h)]) rfl fun ls hl => ?_
  refine lv_aload_n hx hb wtq_d6 rfl (lv_at hl 1 rfl) ?_
  refine y_getf X (fl8 X.2.2.2.2.1) hI.1 hY_this rfl hs_ld wtq_d7 ?_
  refine y_getf X (fl152 X.2.2.2.2.1) hI.1 hY_ld rfl hs_ablame wtq_d10 ?_
  refine lv_iload_n hx hb wtq_d13 rfl (lv_at hl 3 rfl) ?_
  refine y_iald X hI.1 hY_ablame rfl hA_ablame (by omega) (by show _ < (10 : Int); omega) wtq_d14 ?_
  obtain ⟨e14, hg_e14⟩ : ∃ e14 : Int32, f (14 + 5 * h.toInt.toNat) = e14 := ⟨_, rfl⟩
  rw [hg_e14]
  obtain ⟨z15, hg_z15⟩ : ∃ z15 : Int64, e14.toInt64 = z15 := ⟨_, rfl⟩
  have h_z15 : z15.toInt = (e14).toInt := by rw [← hg_z15]; exact Int32.toInt_toInt64 _
  refine lv_i2l hx hb wtq_d15 (v := z15) hg_z15 ?_
  refine lv_lstore hx hb wtq_d16 hl (by decide) (lv' := [(4, .long z15), (3, .int z4), (0, .ref this), (1, .int w), (2, .int h)]) rfl fun ls hl => ?_
  refine lv_iconst hx hb wtq_d18 (v := 0) (by decide) ?_
  have ec0 : (0 : Int32).toInt = 0 := by decide
  refine lv_istore hx hb wtq_d19 hl (by decide) (lv' := [(6, .int (0 : Int32)), (4, .long z15), (3, .int z4), (0, .ref this), (1, .int w), (2, .int h)]) rfl fun ls hl => ?_
  exact wtq_L21 B rfl hh hs0 hs4 hs1 hL0 hA0 hb0 12 _ _ _ _ _ _ _ hI hY_this hY_ld hY_ey hY_vw hY_ar hY_ablame hY_adial hs_ld hs_ey hs_vw hs_ar hs_ablame hs_adial hsi_hills hA_vw hA_ar hA_ablame hA_adial hL (lv_sub hl [0, 1, 2, 3, 4, 5] rfl) (by first | assumption | omega) (by rw [← hg_z4, ← hg_z3, m_nj hh.1]; rfl) (by rw [z_i0]; show _ = (f _).toInt64; rw [hg_e14]; exact hg_z15.symm) (by omega)
def z_PTchance : yP := fun D av Y H v _ H' => ∀ (this : Nat) (w h : Int32) (f : Nat → Int32) (K : Nat → Option (Nat → Int32)) (t9 : Nat → Int32) (n9 : Int32), av = [.ref this, .int w, .int h] → z_RC D Y H this f K t9 n9 → ∃ r : Int32, v = some (.int r) ∧ m_3 (m_isS f w ∧ m_isH f h) (m_lwC f w) (¬ m_chs f (m_thC f w) (f 0).toInt.toNat = 0) r ∧ z_fx D H H' this r (m_chU f w h.toInt.toNat) (m_chD f w)
theorem chq_d0 : decode xM123.2.1 0 = .ok (.aload_n 0, 1) := dz_ok (by decide +kernel)
theorem chq_d1 : decode xM123.2.1 1 = .ok (.getfield 12, 3) := dz_ok (by decide +kernel)
theorem chq_d4 : decode xM123.2.1 4 = .ok (.iload_n 1, 1) := dz_ok (by decide +kernel)
theorem chq_d5 : decode xM123.2.1 5 = .ok (.invokevirtual 169, 3) := dz_ok (by decide +kernel)
theorem chq_d8 : decode xM123.2.1 8 = .ok (.ifCond .eq 14, 3) := dz_ok (by decide +kernel)
theorem chq_d11 : decode xM123.2.1 11 = .ok (.aload_n 0, 1) := dz_ok (by decide +kernel)
theorem chq_d12 : decode xM123.2.1 12 = .ok (.getfield 12, 3) := dz_ok (by decide +kernel)
theorem chq_d15 : decode xM123.2.1 15 = .ok (.iload_n 2, 1) := dz_ok (by decide +kernel)
theorem chq_d16 : decode xM123.2.1 16 = .ok (.invokevirtual 101, 3) := dz_ok (by decide +kernel)
theorem chq_d19 : decode xM123.2.1 19 = .ok (.ifCond .ne 10, 3) := dz_ok (by decide +kernel)
theorem chq_d22 : decode xM123.2.1 22 = .ok (.aload_n 0, 1) := dz_ok (by decide +kernel)
theorem chq_d23 : decode xM123.2.1 23 = .ok (.bipush (-2), 2) := dz_ok (by decide +kernel)
theorem chq_d25 : decode xM123.2.1 25 = .ok (.invokevirtual 59, 3) := dz_ok (by decide +kernel)
theorem chq_d28 : decode xM123.2.1 28 = .ok (.ireturn, 1) := dz_ok (by decide +kernel)
theorem chq_d29 : decode xM123.2.1 29 = .ok (.aload_n 0, 1) := dz_ok (by decide +kernel)
theorem chq_d30 : decode xM123.2.1 30 = .ok (.invokevirtual 104, 3) := dz_ok (by decide +kernel)
theorem chq_d33 : decode xM123.2.1 33 = .ok (.aload_n 0, 1) := dz_ok (by decide +kernel)
theorem chq_d34 : decode xM123.2.1 34 = .ok (.iload_n 1, 1) := dz_ok (by decide +kernel)
theorem chq_d35 : decode xM123.2.1 35 = .ok (.invokevirtual 224, 3) := dz_ok (by decide +kernel)
theorem chq_d38 : decode xM123.2.1 38 = .ok (.ifCond .ne 10, 3) := dz_ok (by decide +kernel)
theorem chq_d41 : decode xM123.2.1 41 = .ok (.aload_n 0, 1) := dz_ok (by decide +kernel)
theorem chq_d42 : decode xM123.2.1 42 = .ok (.bipush (-3), 2) := dz_ok (by decide +kernel)
theorem chq_d44 : decode xM123.2.1 44 = .ok (.invokevirtual 59, 3) := dz_ok (by decide +kernel)
theorem chq_d47 : decode xM123.2.1 47 = .ok (.ireturn, 1) := dz_ok (by decide +kernel)
theorem chq_d48 : decode xM123.2.1 48 = .ok (.aload_n 0, 1) := dz_ok (by decide +kernel)
theorem chq_d49 : decode xM123.2.1 49 = .ok (.iload_n 1, 1) := dz_ok (by decide +kernel)
theorem chq_d50 : decode xM123.2.1 50 = .ok (.invokevirtual 270, 3) := dz_ok (by decide +kernel)
theorem chq_d53 : decode xM123.2.1 53 = .ok (.istore_n 3, 1) := dz_ok (by decide +kernel)
theorem chq_d54 : decode xM123.2.1 54 = .ok (.iconst 0, 1) := dz_ok (by decide +kernel)
theorem chq_d55 : decode xM123.2.1 55 = .ok (.istore 4, 2) := dz_ok (by decide +kernel)
theorem chq_d57 : decode xM123.2.1 57 = .ok (.iconst 0, 1) := dz_ok (by decide +kernel)
theorem chq_d58 : decode xM123.2.1 58 = .ok (.istore 5, 2) := dz_ok (by decide +kernel)
theorem chq_d60 : decode xM123.2.1 60 = .ok (.iload 5, 2) := dz_ok (by decide +kernel)
theorem chq_d62 : decode xM123.2.1 62 = .ok (.aload_n 0, 1) := dz_ok (by decide +kernel)
theorem chq_d63 : decode xM123.2.1 63 = .ok (.getfield 12, 3) := dz_ok (by decide +kernel)
theorem chq_d66 : decode xM123.2.1 66 = .ok (.getfield 273, 3) := dz_ok (by decide +kernel)
theorem chq_d69 : decode xM123.2.1 69 = .ok (.if_icmp .ge 37, 3) := dz_ok (by decide +kernel)
theorem chq_d72 : decode xM123.2.1 72 = .ok (.iload 4, 2) := dz_ok (by decide +kernel)
theorem chq_d74 : decode xM123.2.1 74 = .ok (.iload 5, 2) := dz_ok (by decide +kernel)
theorem chq_d76 : decode xM123.2.1 76 = .ok (.iload_n 3, 1) := dz_ok (by decide +kernel)
theorem chq_d77 : decode xM123.2.1 77 = .ok (.invokestatic 276, 3) := dz_ok (by decide +kernel)
theorem chq_d80 : decode xM123.2.1 80 = .ok (.ifCond .eq 16, 3) := dz_ok (by decide +kernel)
theorem chq_d83 : decode xM123.2.1 83 = .ok (.aload_n 0, 1) := dz_ok (by decide +kernel)
theorem chq_d84 : decode xM123.2.1 84 = .ok (.getfield 12, 3) := dz_ok (by decide +kernel)
theorem chq_d87 : decode xM123.2.1 87 = .ok (.getfield 267, 3) := dz_ok (by decide +kernel)
theorem chq_d90 : decode xM123.2.1 90 = .ok (.iload 5, 2) := dz_ok (by decide +kernel)
theorem chq_d92 : decode xM123.2.1 92 = .ok (.iaload, 1) := dz_ok (by decide +kernel)
theorem chq_d93 : decode xM123.2.1 93 = .ok (.goto 4, 3) := dz_ok (by decide +kernel)
theorem chq_d96 : decode xM123.2.1 96 = .ok (.iconst 0, 1) := dz_ok (by decide +kernel)
theorem chq_d97 : decode xM123.2.1 97 = .ok (.iadd, 1) := dz_ok (by decide +kernel)
theorem chq_d98 : decode xM123.2.1 98 = .ok (.istore 4, 2) := dz_ok (by decide +kernel)
theorem chq_d100 : decode xM123.2.1 100 = .ok (.iinc 5 1, 3) := dz_ok (by decide +kernel)
theorem chq_d103 : decode xM123.2.1 103 = .ok (.goto (-43), 3) := dz_ok (by decide +kernel)
theorem chq_d106 : decode xM123.2.1 106 = .ok (.iload 4, 2) := dz_ok (by decide +kernel)
theorem chq_d108 : decode xM123.2.1 108 = .ok (.ifCond .ne 10, 3) := dz_ok (by decide +kernel)
theorem chq_d111 : decode xM123.2.1 111 = .ok (.aload_n 0, 1) := dz_ok (by decide +kernel)
theorem chq_d112 : decode xM123.2.1 112 = .ok (.bipush (-3), 2) := dz_ok (by decide +kernel)
theorem chq_d114 : decode xM123.2.1 114 = .ok (.invokevirtual 59, 3) := dz_ok (by decide +kernel)
theorem chq_d117 : decode xM123.2.1 117 = .ok (.ireturn, 1) := dz_ok (by decide +kernel)
theorem chq_d118 : decode xM123.2.1 118 = .ok (.aload_n 0, 1) := dz_ok (by decide +kernel)
theorem chq_d119 : decode xM123.2.1 119 = .ok (.iload_n 2, 1) := dz_ok (by decide +kernel)
theorem chq_d120 : decode xM123.2.1 120 = .ok (.iload_n 3, 1) := dz_ok (by decide +kernel)
theorem chq_d121 : decode xM123.2.1 121 = .ok (.invokestatic 276, 3) := dz_ok (by decide +kernel)
theorem chq_d124 : decode xM123.2.1 124 = .ok (.ifCond .eq 16, 3) := dz_ok (by decide +kernel)
theorem chq_d127 : decode xM123.2.1 127 = .ok (.aload_n 0, 1) := dz_ok (by decide +kernel)
theorem chq_d128 : decode xM123.2.1 128 = .ok (.getfield 12, 3) := dz_ok (by decide +kernel)
theorem chq_d131 : decode xM123.2.1 131 = .ok (.getfield 267, 3) := dz_ok (by decide +kernel)
theorem chq_d134 : decode xM123.2.1 134 = .ok (.iload_n 2, 1) := dz_ok (by decide +kernel)
theorem chq_d135 : decode xM123.2.1 135 = .ok (.iaload, 1) := dz_ok (by decide +kernel)
theorem chq_d136 : decode xM123.2.1 136 = .ok (.i2l, 1) := dz_ok (by decide +kernel)
theorem chq_d137 : decode xM123.2.1 137 = .ok (.goto 4, 3) := dz_ok (by decide +kernel)
theorem chq_d140 : decode xM123.2.1 140 = .ok (.lconst 0, 1) := dz_ok (by decide +kernel)
theorem chq_d141 : decode xM123.2.1 141 = .ok (.iload 4, 2) := dz_ok (by decide +kernel)
theorem chq_d143 : decode xM123.2.1 143 = .ok (.i2l, 1) := dz_ok (by decide +kernel)
theorem chq_d144 : decode xM123.2.1 144 = .ok (.invokevirtual 137, 3) := dz_ok (by decide +kernel)
theorem chq_d147 : decode xM123.2.1 147 = .ok (.iconst 1, 1) := dz_ok (by decide +kernel)
theorem chq_d148 : decode xM123.2.1 148 = .ok (.ireturn, 1) := dz_ok (by decide +kernel)
theorem chq_L60 {p : Program} {l : Launch} {e : Env} {s : State} {m : MethodId} {below : List Frame} {meth : Method} {c : Code} {D : va_G} {U : State} {Y0 : xY} {av : List Value} (B : y_B vwCl x_Tb x_Nb xM123 p s m meth c D U Y0 av) {this hd ey vw ablame : Nat} {w h : Int32} {f : Nat → Int32} {K : Nat → Option (Nat → Int32)} {tt : Nat → Int32} {nn : Int32} {fa fb : Int64} (hav : av = [.ref this, .int w, .int h]) (hR0 : z_RC D Y0 s.heap this f K tt nn) (hb0 : 0 ≤ (f 0).toInt ∧ (f 0).toInt ≤ 10) (hfa0 : x_sl D 11 7 this s.heap = some (.long fa)) (hfb0 : x_sl D 11 8 this s.heap = some (.long fb)) (hok : m_isS f w ∧ m_isH f h) {th : Int32} (hth : th = m_thC f w) (hlw : m_lwC f w = true) :
    ∀ (n : Nat), ∀ (H : Heap) (Y : xY) (locs : List Loc) (ls : Array Slot) (j : Int32) (al : Int32), x_I D x_G x_Zs U (x_efs xM123) Y0 s.heap Y H locs → Y this = some 0 → Y hd = some 2 → Y ey = some 6 → Y vw = some 32 → Y ablame = some 23 → x_sl D 11 0 this H = some (.ref hd) → x_sl D 11 4 this H = some (.ref ey) → x_sl D 0 1 ey H = some (.ref vw) → x_sl D 2 5 hd H = some (.ref ablame) → x_sl D 2 0 hd H = some (.int (f 0)) → y_A vw 10 H (m_VC f (f 4) (f 5) 0) → y_A ablame 10 H (fun j => f (14 + 5 * j)) → z_L D Y hd H f → x_sl D 11 7 this H = some (.long fa) → x_sl D 11 8 this H = some (.long fb) → lv_has ls xM123.2.2.1 [(5, .int j), (4, .int al), (3, .int th), (0, .ref this), (1, .int w), (2, .int h)] → (0 ≤ j.toInt ∧ j.toInt ≤ (f 0).toInt) → (al = m_chs f th j.toInt.toNat) → (11 - j.toInt).toNat < n → W p l e (x_rm xM123) s m av.toArray below meth c H locs 0 0 (y_QQ below D x_G x_Zs U xM123 z_PTchance av Y0 s) (F0 m 60 ls []) := by
  have X := B.1
  have hx := X.1
  have hb := X.2.1
  have hY0 := B.2.2.2.2.1
  intro n
  induction n with
  | zero => intro _ _ _ _ _ _ _ _ _ _ _ _ _ _ _ _ _ _ _ _ _ _ _ _ _ h; exact absurd h (Nat.not_lt_zero _)
  | succ n ih =>
    intro H Y locs ls j al  hI hY_this hY_hd hY_ey hY_vw hY_ablame hs_hd hs_ey hs_vw hs_ablame hsi_hills hA_vw hA_ablame hL hs_fa hs_fb hl hj hal hn
    have hh9 := hok.2
    unfold m_isH at hh9
    refine lv_iload hx hb chq_d60 (lv_at hl 0 rfl) ?_
    refine lv_aload_n hx hb chq_d62 rfl (lv_at hl 3 rfl) ?_
    refine y_getf X (fl8 X.2.2.2.2.1) hI.1 hY_this rfl hs_hd chq_d63 ?_
    refine y_getf X (fl153 X.2.2.2.2.1) hI.1 hY_hd rfl hsi_hills chq_d66 ?_
    refine lv_icmp_ge hx hb chq_d69 (tgt := 106) (by decide) (fun q69 => ?_) (fun q69 => ?_)
    · have q69_ : (f 0).toInt ≤ j.toInt := x_le32.mp q69
      refine lv_iload hx hb chq_d106 (lv_at hl 1 rfl) ?_
      have ec0 : (0 : Int32).toInt = 0 := by decide
      refine lv_if_ne hx hb chq_d108 (tgt := 118) (by decide) (fun q108 => ?_) (fun q108 => ?_)
      · have q108_ : ¬ al.toInt = (0 : Int32).toInt := fun q => q108 (Int32.toInt_inj.mp q)
        refine lv_aload_n hx hb chq_d118 rfl (lv_at hl 3 rfl) ?_
        refine lv_iload_n hx hb chq_d119 rfl (lv_at hl 5 rfl) ?_
        refine lv_iload_n hx hb chq_d120 rfl (lv_at hl 2 rfl) ?_
        refine y_call (z := (1, 276, 2, none, xM70)) (av := [.int h, .int th]) (rest := [.ref this]) (y_cokS (n := 2) X ym_isIn (x_cons (x_bw56 8 rfl rfl) (x_cons (x_bw42 15 rfl rfl) (x_cons (x_bw0 1 rfl rfl) x_nilm))) (x_bw43 0 rfl rfl) (by decide +kernel) ⟨Nat.le_of_ble_eq_true rfl, Nat.le_of_ble_eq_true rfl⟩) hY0 hI rfl chq_d121 hl.1 (Nat.le_of_ble_eq_true rfl) (Nat.le_of_ble_eq_true rfl) (Nat.le_of_ble_eq_true rfl) (y_cons ⟨_, rfl, x_i32 _⟩ (y_cons ⟨_, rfl, x_i32 _⟩ y_nil)) rfl (y_norecv rfl) trivial (y_sub_ef rfl) fun v Yn o Hn L ho hr ha hIn hx_ hE hP => ?_
        have hPm := hP _ _ rfl
        obtain rfl := hPm
        replace hs_hd := y_Efld hE hY_this rfl (by decide) (by decide) hs_hd
        replace hs_ey := y_Efld hE hY_this rfl (by decide) (by decide) hs_ey
        replace hs_vw := y_Efld hE hY_ey rfl (by decide) (by decide) hs_vw
        replace hs_ablame := y_Efld hE hY_hd rfl (by decide) (by decide) hs_ablame
        replace hsi_hills := y_Efld hE hY_hd rfl (by decide) (by decide) hsi_hills
        replace hs_fa := y_Efld hE hY_this rfl (by decide) (by decide) hs_fa
        replace hs_fb := y_Efld hE hY_this rfl (by decide) (by decide) hs_fb
        replace hA_vw := hA_vw.kept (y_Earr hE hY_vw rfl (by decide))
        replace hA_ablame := hA_ablame.kept (y_Earr hE hY_ablame rfl (by decide))
        replace hL := hL.E hY_hd hE (fun q u h => y_ext hx_ hI.1 h) (by decide +kernel)
        replace hY_this := y_ext hx_ hI.1 hY_this
        replace hY_hd := y_ext hx_ hI.1 hY_hd
        replace hY_ey := y_ext hx_ hI.1 hY_ey
        replace hY_vw := y_ext hx_ hI.1 hY_vw
        replace hY_ablame := y_ext hx_ hI.1 hY_ablame
        generalize hg_r121 : m_b (m_has th h) = r121
        clear ho hr ha hE hP hI hx_
        rename x_I _ _ _ _ _ _ _ _ _ _ => hI
        refine lv_if_eq hx hb chq_d124 (tgt := 140) (by decide) (fun q124 => ?_) (fun q124 => ?_)
        · have q124_ : r121.toInt = (0 : Int32).toInt := by rw [q124]
          refine lv_lconst hx hb chq_d140 (v := 0) (by decide) ?_
          have el0 : (0 : Int64).toInt = 0 := by decide
          refine lv_iload hx hb chq_d141 (lv_at hl 1 rfl) ?_
          obtain ⟨z143, hg_z143⟩ : ∃ z143 : Int64, al.toInt64 = z143 := ⟨_, rfl⟩
          have h_z143 : z143.toInt = (al).toInt := by rw [← hg_z143]; exact Int32.toInt_toInt64 _
          refine lv_i2l hx hb chq_d143 (v := z143) hg_z143 ?_
          refine y_call (z := (0, 137, 3, some 0, xM54)) (av := [.ref this, .long (0 : Int64), .long z143]) (rest := []) (y_cokV (n := 2) (ci := 11) X ym_setFraction rfl rfl rfl (x_cons (x_bw33 7 rfl rfl) (x_cons (x_bw33 9 rfl rfl) (x_cons (x_at 7 (by decide +kernel) rfl) (x_cons (x_bw0 1 rfl rfl) x_nilm)))) (x_bw33 10 rfl rfl) (by decide +kernel) ⟨Nat.le_of_ble_eq_true rfl, Nat.le_of_ble_eq_true rfl⟩) hY0 hI rfl chq_d144 hl.1 (Nat.le_of_ble_eq_true rfl) (Nat.le_of_ble_eq_true rfl) (Nat.le_of_ble_eq_true rfl) (y_cons (y_cref hY_this rfl) (y_cons ⟨_, rfl, x_i64 _⟩ (y_cons ⟨_, rfl, x_i64 _⟩ y_nil))) rfl (y_recv rfl hY_this) trivial (y_sub_ef rfl) fun v Yn o Hn L ho hr ha hIn hx_ hE hP => ?_
          have hPf := hP _ _ _ rfl
          replace hs_hd := y_Efld hE hY_this rfl (by decide) (by decide) hs_hd
          replace hs_ey := y_Efld hE hY_this rfl (by decide) (by decide) hs_ey
          replace hs_vw := y_Efld hE hY_ey rfl (by decide) (by decide) hs_vw
          replace hs_ablame := y_Efld hE hY_hd rfl (by decide) (by decide) hs_ablame
          replace hsi_hills := y_Efld hE hY_hd rfl (by decide) (by decide) hsi_hills
          replace hA_vw := hA_vw.kept (y_Earr hE hY_vw rfl (by decide))
          replace hA_ablame := hA_ablame.kept (y_Earr hE hY_ablame rfl (by decide))
          replace hL := hL.E hY_hd hE (fun q u h => y_ext hx_ hI.1 h) (by decide +kernel)
          replace hY_this := y_ext hx_ hI.1 hY_this
          replace hY_hd := y_ext hx_ hI.1 hY_hd
          replace hY_ey := y_ext hx_ hI.1 hY_ey
          replace hY_vw := y_ext hx_ hI.1 hY_vw
          replace hY_ablame := y_ext hx_ hI.1 hY_ablame
          obtain rfl := y_ansV rfl ho hr
          clear ho hr ha hE hP hI hx_
          rename x_I _ _ _ _ _ _ _ _ _ _ => hI
          have hk9 : j.toInt.toNat = (f 0).toInt.toNat := by omega
          have hs9 : m_chs f (m_thC f w) (f 0).toInt.toNat = al := by rw [← hth, ← hk9]; exact hal.symm
          have hD9 : m_chD f w = z143 := by unfold m_chD; rw [hs9]; exact hg_z143
          have hU9 : m_chU f w h.toInt.toNat = 0 := by unfold m_chU; rw [← hth, m_nj hh9.1, m_b0 (hg_r121.trans (by assumption))]; rfl
          rw [← hD9, ← hU9] at hPf
          refine lv_iconst hx hb chq_d147 (v := 1) (by decide) ?_
          have ec1 : (1 : Int32).toInt = 1 := by decide
          subst hav
          exact y_ireturn B hI rfl rfl rfl List.mem_cons_self ⟨_, rfl, ⟨_, rfl, x_i32 _⟩⟩ (x_cs.mono B.2.2.2.2.2 (y_mon B hI)) (fun t' w0' w1' f' K' tt' nn' h1 h2 => by cases h1; obtain ⟨ef, -⟩ := hR0.eqs h2; subst ef; exact ⟨_, rfl, ⟨fun _ _ _ => rfl, fun _ _ q9 => absurd (fun q8 => absurd (hs9.symm.trans q8) (by assumption)) q9, fun _ q9 => (by rw [hlw] at q9; cases q9), fun q9 => absurd hok q9⟩, ⟨fun q9 => absurd rfl q9, fun _ => hPf⟩⟩) (Nat.le_refl _) (Nat.le_refl _) chq_d148
        · have q124_ : ¬ r121.toInt = (0 : Int32).toInt := fun q => q124 (Int32.toInt_inj.mp q)
          refine lv_aload_n hx hb chq_d127 rfl (lv_at hl 3 rfl) ?_
          refine y_getf X (fl8 X.2.2.2.2.1) hI.1 hY_this rfl hs_hd chq_d128 ?_
          refine y_getf X (fl152 X.2.2.2.2.1) hI.1 hY_hd rfl hs_ablame chq_d131 ?_
          refine lv_iload_n hx hb chq_d134 rfl (lv_at hl 5 rfl) ?_
          refine y_iald X hI.1 hY_ablame rfl hA_ablame (by omega) (by show _ < (10 : Int); omega) chq_d135 ?_
          obtain ⟨e135, hg_e135⟩ : ∃ e135 : Int32, f (14 + 5 * h.toInt.toNat) = e135 := ⟨_, rfl⟩
          rw [hg_e135]
          obtain ⟨z136, hg_z136⟩ : ∃ z136 : Int64, e135.toInt64 = z136 := ⟨_, rfl⟩
          have h_z136 : z136.toInt = (e135).toInt := by rw [← hg_z136]; exact Int32.toInt_toInt64 _
          refine lv_i2l hx hb chq_d136 (v := z136) hg_z136 ?_
          refine lv_goto hx hb chq_d137 (tgt := 141) (by decide) ?_
          refine lv_iload hx hb chq_d141 (lv_at hl 1 rfl) ?_
          obtain ⟨z143, hg_z143⟩ : ∃ z143 : Int64, al.toInt64 = z143 := ⟨_, rfl⟩
          have h_z143 : z143.toInt = (al).toInt := by rw [← hg_z143]; exact Int32.toInt_toInt64 _
          refine lv_i2l hx hb chq_d143 (v := z143) hg_z143 ?_
          refine y_call (z := (0, 137, 3, some 0, xM54)) (av := [.ref this, .long z136, .long z143]) (rest := []) (y_cokV (n := 2) (ci := 11) X ym_setFraction rfl rfl rfl (x_cons (x_bw33 7 rfl rfl) (x_cons (x_bw33 9 rfl rfl) (x_cons (x_at 7 (by decide +kernel) rfl) (x_cons (x_bw0 1 rfl rfl) x_nilm)))) (x_bw33 10 rfl rfl) (by decide +kernel) ⟨Nat.le_of_ble_eq_true rfl, Nat.le_of_ble_eq_true rfl⟩) hY0 hI rfl chq_d144 hl.1 (Nat.le_of_ble_eq_true rfl) (Nat.le_of_ble_eq_true rfl) (Nat.le_of_ble_eq_true rfl) (y_cons (y_cref hY_this rfl) (y_cons ⟨_, rfl, x_i64 _⟩ (y_cons ⟨_, rfl, x_i64 _⟩ y_nil))) rfl (y_recv rfl hY_this) trivial (y_sub_ef rfl) fun v Yn o Hn L ho hr ha hIn hx_ hE hP => ?_
          have hPf := hP _ _ _ rfl
          replace hs_hd := y_Efld hE hY_this rfl (by decide) (by decide) hs_hd
          replace hs_ey := y_Efld hE hY_this rfl (by decide) (by decide) hs_ey
          replace hs_vw := y_Efld hE hY_ey rfl (by decide) (by decide) hs_vw
          replace hs_ablame := y_Efld hE hY_hd rfl (by decide) (by decide) hs_ablame
          replace hsi_hills := y_Efld hE hY_hd rfl (by decide) (by decide) hsi_hills
          replace hA_vw := hA_vw.kept (y_Earr hE hY_vw rfl (by decide))
          replace hA_ablame := hA_ablame.kept (y_Earr hE hY_ablame rfl (by decide))
          replace hL := hL.E hY_hd hE (fun q u h => y_ext hx_ hI.1 h) (by decide +kernel)
          replace hY_this := y_ext hx_ hI.1 hY_this
          replace hY_hd := y_ext hx_ hI.1 hY_hd
          replace hY_ey := y_ext hx_ hI.1 hY_ey
          replace hY_vw := y_ext hx_ hI.1 hY_vw
          replace hY_ablame := y_ext hx_ hI.1 hY_ablame
          obtain rfl := y_ansV rfl ho hr
          clear ho hr ha hE hP hI hx_
          rename x_I _ _ _ _ _ _ _ _ _ _ => hI
          have hk9 : j.toInt.toNat = (f 0).toInt.toNat := by omega
          have hs9 : m_chs f (m_thC f w) (f 0).toInt.toNat = al := by rw [← hth, ← hk9]; exact hal.symm
          have hD9 : m_chD f w = z143 := by unfold m_chD; rw [hs9]; exact hg_z143
          have hU9 : m_chU f w h.toInt.toNat = z136 := by unfold m_chU; rw [← hth, m_nj hh9.1, m_bn (fun q => absurd (hg_r121.symm.trans q) (by assumption)), if_pos rfl, show f (14 + 5 * h.toInt.toNat) = e135 from hg_e135]; exact hg_z136
          rw [← hD9, ← hU9] at hPf
          refine lv_iconst hx hb chq_d147 (v := 1) (by decide) ?_
          have ec1 : (1 : Int32).toInt = 1 := by decide
          subst hav
          exact y_ireturn B hI rfl rfl rfl List.mem_cons_self ⟨_, rfl, ⟨_, rfl, x_i32 _⟩⟩ (x_cs.mono B.2.2.2.2.2 (y_mon B hI)) (fun t' w0' w1' f' K' tt' nn' h1 h2 => by cases h1; obtain ⟨ef, -⟩ := hR0.eqs h2; subst ef; exact ⟨_, rfl, ⟨fun _ _ _ => rfl, fun _ _ q9 => absurd (fun q8 => absurd (hs9.symm.trans q8) (by assumption)) q9, fun _ q9 => (by rw [hlw] at q9; cases q9), fun q9 => absurd hok q9⟩, ⟨fun q9 => absurd rfl q9, fun _ => hPf⟩⟩) (Nat.le_refl _) (Nat.le_refl _) chq_d148
      · have q108_ : al.toInt = (0 : Int32).toInt := by rw [q108]
        refine lv_aload_n hx hb chq_d111 rfl (lv_at hl 3 rfl) ?_
        refine lv_bipush hx hb chq_d112 (v := (-3)) (by decide) ?_
        have ecm3 : ((-3) : Int32).toInt = (-3) := by decide
        refine y_call (z := (0, 59, 2, some 0, xM8)) (av := [.ref this, .int ((-3) : Int32)]) (rest := []) (y_cokV (n := 1) (ci := 11) X ym_counted rfl rfl rfl (x_cons (x_bw19 7 rfl rfl) (x_cons (x_bw19 9 rfl rfl) (x_cons (x_at 1 (by decide +kernel) rfl) (x_cons (x_bw0 1 rfl rfl) x_nilm)))) (x_bw19 10 rfl rfl) (by decide +kernel) ⟨Nat.le_of_ble_eq_true rfl, Nat.le_of_ble_eq_true rfl⟩) hY0 hI rfl chq_d114 hl.1 (Nat.le_of_ble_eq_true rfl) (Nat.le_of_ble_eq_true rfl) (Nat.le_of_ble_eq_true rfl) (y_cons (y_cref hY_this rfl) (y_cons ⟨_, rfl, x_i32 _⟩ y_nil)) rfl (y_recv rfl hY_this) trivial (y_sub_ef rfl) fun v Yn o Hn L ho hr ha hIn hx_ hE hP => ?_
        replace hs_hd := y_Efld hE hY_this rfl (by decide) (by decide) hs_hd
        replace hs_ey := y_Efld hE hY_this rfl (by decide) (by decide) hs_ey
        replace hs_vw := y_Efld hE hY_ey rfl (by decide) (by decide) hs_vw
        replace hs_ablame := y_Efld hE hY_hd rfl (by decide) (by decide) hs_ablame
        replace hsi_hills := y_Efld hE hY_hd rfl (by decide) (by decide) hsi_hills
        replace hs_fa := y_Efld hE hY_this rfl (by decide) (by decide) hs_fa
        replace hs_fb := y_Efld hE hY_this rfl (by decide) (by decide) hs_fb
        replace hA_vw := hA_vw.kept (y_Earr hE hY_vw rfl (by decide))
        replace hA_ablame := hA_ablame.kept (y_Earr hE hY_ablame rfl (by decide))
        replace hL := hL.E hY_hd hE (fun q u h => y_ext hx_ hI.1 h) (by decide +kernel)
        replace hY_this := y_ext hx_ hI.1 hY_this
        replace hY_hd := y_ext hx_ hI.1 hY_hd
        replace hY_ey := y_ext hx_ hI.1 hY_ey
        replace hY_vw := y_ext hx_ hI.1 hY_vw
        replace hY_ablame := y_ext hx_ hI.1 hY_ablame
        obtain rfl := hP _ _ rfl
        clear ho hr ha hE hP hI hx_
        rename x_I _ _ _ _ _ _ _ _ _ _ => hI
        have hk9 : j.toInt.toNat = (f 0).toInt.toNat := by omega
        have hs9 : m_chs f (m_thC f w) (f 0).toInt.toNat = al := by rw [← hth, ← hk9]; exact hal.symm
        subst hav
        exact y_ireturn B hI rfl rfl rfl List.mem_cons_self ⟨_, rfl, ⟨_, rfl, x_i32 _⟩⟩ (x_cs.mono B.2.2.2.2.2 (y_mon B hI)) (fun t' w0' w1' f' K' tt' nn' h1 h2 => by cases h1; obtain ⟨ef, -⟩ := hR0.eqs h2; subst ef; exact ⟨_, rfl, ⟨fun _ _ q9 => absurd q9 (fun q8 => q8 (hs9.trans (by assumption))), fun _ _ _ => rfl, fun _ _ => rfl, fun q9 => absurd hok q9⟩, ⟨fun _ a9 b9 h9 => by cases hfa0.symm.trans h9.1; cases hfb0.symm.trans h9.2; exact ⟨hs_fa, hs_fb⟩, fun q9 => absurd q9 (by decide)⟩⟩) (Nat.le_refl _) (Nat.le_refl _) chq_d117
    · have q69_ : j.toInt < (f 0).toInt := Int.not_le.mp fun q => q69 (x_le32.mpr q)
      refine lv_iload hx hb chq_d72 (lv_at hl 1 rfl) ?_
      refine lv_iload hx hb chq_d74 (lv_at hl 0 rfl) ?_
      refine lv_iload_n hx hb chq_d76 rfl (lv_at hl 2 rfl) ?_
      refine y_call (z := (1, 276, 2, none, xM70)) (av := [.int j, .int th]) (rest := [.int al]) (y_cokS (n := 2) X ym_isIn (x_cons (x_bw56 8 rfl rfl) (x_cons (x_bw42 15 rfl rfl) (x_cons (x_bw0 1 rfl rfl) x_nilm))) (x_bw43 0 rfl rfl) (by decide +kernel) ⟨Nat.le_of_ble_eq_true rfl, Nat.le_of_ble_eq_true rfl⟩) hY0 hI rfl chq_d77 hl.1 (Nat.le_of_ble_eq_true rfl) (Nat.le_of_ble_eq_true rfl) (Nat.le_of_ble_eq_true rfl) (y_cons ⟨_, rfl, x_i32 _⟩ (y_cons ⟨_, rfl, x_i32 _⟩ y_nil)) rfl (y_norecv rfl) trivial (y_sub_ef rfl) fun v Yn o Hn L ho hr ha hIn hx_ hE hP => ?_
      have hPm := hP _ _ rfl
      obtain rfl := hPm
      replace hs_hd := y_Efld hE hY_this rfl (by decide) (by decide) hs_hd
      replace hs_ey := y_Efld hE hY_this rfl (by decide) (by decide) hs_ey
      replace hs_vw := y_Efld hE hY_ey rfl (by decide) (by decide) hs_vw
      replace hs_ablame := y_Efld hE hY_hd rfl (by decide) (by decide) hs_ablame
      replace hsi_hills := y_Efld hE hY_hd rfl (by decide) (by decide) hsi_hills
      replace hs_fa := y_Efld hE hY_this rfl (by decide) (by decide) hs_fa
      replace hs_fb := y_Efld hE hY_this rfl (by decide) (by decide) hs_fb
      replace hA_vw := hA_vw.kept (y_Earr hE hY_vw rfl (by decide))
      replace hA_ablame := hA_ablame.kept (y_Earr hE hY_ablame rfl (by decide))
      replace hL := hL.E hY_hd hE (fun q u h => y_ext hx_ hI.1 h) (by decide +kernel)
      replace hY_this := y_ext hx_ hI.1 hY_this
      replace hY_hd := y_ext hx_ hI.1 hY_hd
      replace hY_ey := y_ext hx_ hI.1 hY_ey
      replace hY_vw := y_ext hx_ hI.1 hY_vw
      replace hY_ablame := y_ext hx_ hI.1 hY_ablame
      generalize hg_r77 : m_b (m_has th j) = r77
      clear ho hr ha hE hP hI hx_
      rename x_I _ _ _ _ _ _ _ _ _ _ => hI
      have ec0 : (0 : Int32).toInt = 0 := by decide
      refine lv_if_eq hx hb chq_d80 (tgt := 96) (by decide) (fun q80 => ?_) (fun q80 => ?_)
      · have q80_ : r77.toInt = (0 : Int32).toInt := by rw [q80]
        refine lv_iconst hx hb chq_d96 (v := 0) (by decide) ?_
        refine lv_iadd hx hb chq_d97 ?_
        generalize hg_z97 : al + (0 : Int32) = z97
        refine lv_istore hx hb chq_d98 hl (by decide) (lv' := [(4, .int z97), (5, .int j), (3, .int th), (0, .ref this), (1, .int w), (2, .int h)]) rfl fun ls hl => ?_
        obtain ⟨z100, hg_z100⟩ : ∃ z100 : Int32, j + Int32.ofInt 1 = z100 := ⟨_, rfl⟩
        have h_z100 : z100.toInt = j.toInt + 1 := by rw [← hg_z100]; exact y_inc (by decide) (by omega) (by omega)
        refine lv_iinc hx hb chq_d100 hl (k := 1) rfl hg_z100 (by decide) (lv' := [(5, .int z100), (4, .int z97), (3, .int th), (0, .ref this), (1, .int w), (2, .int h)]) rfl fun ls hl => ?_
        refine lv_goto hx hb chq_d103 (tgt := 60) (by decide) ?_
        have his : z100.toInt.toNat = j.toInt.toNat + 1 := by omega
        have hnj := m_nj hj.1
        exact ih _ _ _ _ _ _ hI hY_this hY_hd hY_ey hY_vw hY_ablame hs_hd hs_ey hs_vw hs_ablame hsi_hills hA_vw hA_ablame hL hs_fa hs_fb (lv_sub hl [0, 1, 2, 3, 4, 5] rfl) (by first | assumption | omega) (by rw [his]; show _ = (if _ then _ else _); rw [hnj]; first | (rw [m_bn (fun q => absurd (hg_r77.symm.trans q) (by assumption)), if_pos rfl, ← hal, show f (14 + 5 * j.toInt.toNat) = e92 from hg_e92]; exact hg_z97.symm) | (rw [m_b0 (hg_r77.trans (by assumption)), if_neg (fun q9 => by cases q9), ← hal]; exact hg_z97.symm.trans (Int32.add_zero al))) (by omega)
      · have q80_ : ¬ r77.toInt = (0 : Int32).toInt := fun q => q80 (Int32.toInt_inj.mp q)
        refine lv_aload_n hx hb chq_d83 rfl (lv_at hl 3 rfl) ?_
        refine y_getf X (fl8 X.2.2.2.2.1) hI.1 hY_this rfl hs_hd chq_d84 ?_
        refine y_getf X (fl152 X.2.2.2.2.1) hI.1 hY_hd rfl hs_ablame chq_d87 ?_
        refine lv_iload hx hb chq_d90 (lv_at hl 0 rfl) ?_
        refine y_iald X hI.1 hY_ablame rfl hA_ablame (by omega) (by show _ < (10 : Int); omega) chq_d92 ?_
        obtain ⟨e92, hg_e92⟩ : ∃ e92 : Int32, f (14 + 5 * j.toInt.toNat) = e92 := ⟨_, rfl⟩
        rw [hg_e92]
        refine lv_goto hx hb chq_d93 (tgt := 97) (by decide) ?_
        refine lv_iadd hx hb chq_d97 ?_
        generalize hg_z97 : al + e92 = z97
        refine lv_istore hx hb chq_d98 hl (by decide) (lv' := [(4, .int z97), (5, .int j), (3, .int th), (0, .ref this), (1, .int w), (2, .int h)]) rfl fun ls hl => ?_
        obtain ⟨z100, hg_z100⟩ : ∃ z100 : Int32, j + Int32.ofInt 1 = z100 := ⟨_, rfl⟩
        have h_z100 : z100.toInt = j.toInt + 1 := by rw [← hg_z100]; exact y_inc (by decide) (by omega) (by omega)
        refine lv_iinc hx hb chq_d100 hl (k := 1) rfl hg_z100 (by decide) (lv' := [(5, .int z100), (4, .int z97), (3, .int th), (0, .ref this), (1, .int w), (2, .int h)]) rfl fun ls hl => ?_
        refine lv_goto hx hb chq_d103 (tgt := 60) (by decide) ?_
        have his : z100.toInt.toNat = j.toInt.toNat + 1 := by omega
        have hnj := m_nj hj.1
        exact ih _ _ _ _ _ _ hI hY_this hY_hd hY_ey hY_vw hY_ablame hs_hd hs_ey hs_vw hs_ablame hsi_hills hA_vw hA_ablame hL hs_fa hs_fb (lv_sub hl [0, 1, 2, 3, 4, 5] rfl) (by first | assumption | omega) (by rw [his]; show _ = (if _ then _ else _); rw [hnj]; first | (rw [m_bn (fun q => absurd (hg_r77.symm.trans q) (by assumption)), if_pos rfl, ← hal, show f (14 + 5 * j.toInt.toNat) = e92 from hg_e92]; exact hg_z97.symm) | (rw [m_b0 (hg_r77.trans (by assumption)), if_neg (fun q9 => by cases q9), ← hal]; exact hg_z97.symm.trans (Int32.add_zero al))) (by omega)
theorem ym_Tchance : y_Met vwCl x_G x_Zs x_Tb x_Nb xM123 z_ATF z_PTchance := by
  refine y_main (by decide +kernel) (by decide +kernel) x_Tb_good x_Nb_ok ?_
  intro p l e s m below meth c D U Y0 av ls B hI hpre hl
  have X := B.1
  have hx := X.1
  have hb := X.2.1
  have hY0 := B.2.2.2.2.1
  obtain ⟨v0, v1, v2, rfl, hv0, ⟨w, rfl, -⟩, ⟨h, rfl, -⟩⟩ := y_three B.2.2.2.2.2
  obtain ⟨this, t0, rfl, ht0, hY_this⟩ := x_ref_at hv0 rfl
  obtain rfl := List.mem_singleton.mp ht0
  replace hl : lv_has ls xM123.2.2.1 [(0, .ref this), (1, .int w), (2, .int h)] := hl
  obtain ⟨f, K, tt, nn, hR0⟩ := hpre _ rfl
  obtain ⟨hd, dr, kp, tx, by_, kk, ⟨hs_hd, -⟩, ⟨hY_hd, -⟩, hL, -⟩ := id hR0
  obtain ⟨ey, hs_ey, hY_ey⟩ := y_fldR (k := 4) hI.1 hY_this rfl rfl
  obtain ⟨vw, hs_vw, hY_vw⟩ := y_fldR (k := 1) hI.1 hY_ey rfl rfl
  have hn0 := hL.1.1
  have hn1 := hL.1.2.1
  have hn2 := hL.1.2.2
  have hb0 : 0 ≤ (f 0).toInt ∧ (f 0).toInt ≤ 10 := by obtain ⟨x9, e9, b9⟩ := y_fldI (k := 0) hI.1 hY_hd rfl rfl; rw [hn0] at e9; cases e9; exact b9
  have hb1 : 0 ≤ (f 1).toInt ∧ (f 1).toInt ≤ 8 := by obtain ⟨x9, e9, b9⟩ := y_fldI (k := 6) hI.1 hY_hd rfl rfl; rw [hn1] at e9; cases e9; exact b9
  have hb2 : 0 ≤ (f 2).toInt ∧ (f 2).toInt ≤ 8 := by obtain ⟨x9, e9, b9⟩ := y_fldI (k := 12) hI.1 hY_hd rfl rfl; rw [hn2] at e9; cases e9; exact b9
  obtain ⟨fa, hs_fa⟩ := y_fldL (k := 7) hI.1 hY_this rfl rfl
  obtain ⟨fb, hs_fb⟩ := y_fldL (k := 8) hI.1 hY_this rfl rfl
  have hfa0 := hs_fa
  have hfb0 := hs_fb
  obtain ⟨ablame, hs_ablame, hY_ablame, hA_ablame⟩ := hL.2.1 (5, 23, 10, 14, 5) (by decide)
  replace hA_ablame : y_A ablame 10 s.heap (fun j => f (14 + 5 * j)) := hA_ablame
  refine lv_aload_n hx hb chq_d0 rfl (lv_at hl 0 rfl) ?_
  refine y_getf X (fl8 X.2.2.2.2.1) hI.1 hY_this rfl hs_hd chq_d1 ?_
  refine lv_iload_n hx hb chq_d4 rfl (lv_at hl 1 rfl) ?_
  refine y_call (z := (0, 169, 2, some 2, xM67)) (av := [.ref hd, .int w]) (rest := []) (y_cokV (n := 1) (ci := 2) X ym_hasSet rfl rfl rfl (x_cons (x_bw42 2 rfl rfl) (x_cons (x_bw42 3 rfl rfl) (x_cons (x_bw42 4 rfl rfl) (x_cons (x_bw0 2 rfl rfl) x_nilm)))) (x_bw42 5 rfl rfl) (by decide +kernel) ⟨Nat.le_of_ble_eq_true rfl, Nat.le_of_ble_eq_true rfl⟩) hY0 hI rfl chq_d5 hl.1 (Nat.le_of_ble_eq_true rfl) (Nat.le_of_ble_eq_true rfl) (Nat.le_of_ble_eq_true rfl) (y_cons (y_cref hY_hd rfl) (y_cons ⟨_, rfl, x_i32 _⟩ y_nil)) rfl (y_recv rfl hY_hd) trivial (y_sub_ef rfl) fun v Yn o Hn L ho hr ha hIn hx_ hE hP => ?_
  have hPh := hP _ _ _ rfl hn0
  replace hs_hd := y_Efld hE hY_this rfl (by decide) (by decide) hs_hd
  replace hs_ey := y_Efld hE hY_this rfl (by decide) (by decide) hs_ey
  replace hs_vw := y_Efld hE hY_ey rfl (by decide) (by decide) hs_vw
  replace hs_ablame := y_Efld hE hY_hd rfl (by decide) (by decide) hs_ablame
  replace hn0 := y_Efld hE hY_hd rfl (by decide) (by decide) hn0
  replace hs_fa := y_Efld hE hY_this rfl (by decide) (by decide) hs_fa
  replace hs_fb := y_Efld hE hY_this rfl (by decide) (by decide) hs_fb
  replace hA_ablame := hA_ablame.kept (y_Earr hE hY_ablame rfl (by decide))
  replace hL := hL.E hY_hd hE (fun q u h => y_ext hx_ hI.1 h) (by decide +kernel)
  replace hY_this := y_ext hx_ hI.1 hY_this
  replace hY_hd := y_ext hx_ hI.1 hY_hd
  replace hY_ey := y_ext hx_ hI.1 hY_ey
  replace hY_vw := y_ext hx_ hI.1 hY_vw
  replace hY_ablame := y_ext hx_ hI.1 hY_ablame
  obtain ⟨r5, rfl, hin_r5, hout_r5⟩ := hPh
  clear ho hr ha hE hP hI hx_
  rename x_I _ _ _ _ _ _ _ _ _ _ => hI
  have ec0 : (0 : Int32).toInt = 0 := by decide
  refine lv_if_eq hx hb chq_d8 (tgt := 22) (by decide) (fun q8 => ?_) (fun q8 => ?_)
  · have q8_ : r5.toInt = (0 : Int32).toInt := by rw [q8]
    have hno : ¬ (m_isS f w ∧ m_isH f h) := fun q9 => by first | exact hout_r5 (by assumption) q9.1 | exact hout_r16 (by assumption) q9.2
    refine lv_aload_n hx hb chq_d22 rfl (lv_at hl 0 rfl) ?_
    refine lv_bipush hx hb chq_d23 (v := (-2)) (by decide) ?_
    have ecm2 : ((-2) : Int32).toInt = (-2) := by decide
    refine y_call (z := (0, 59, 2, some 0, xM8)) (av := [.ref this, .int ((-2) : Int32)]) (rest := []) (y_cokV (n := 1) (ci := 11) X ym_counted rfl rfl rfl (x_cons (x_bw19 7 rfl rfl) (x_cons (x_bw19 9 rfl rfl) (x_cons (x_at 1 (by decide +kernel) rfl) (x_cons (x_bw0 1 rfl rfl) x_nilm)))) (x_bw19 10 rfl rfl) (by decide +kernel) ⟨Nat.le_of_ble_eq_true rfl, Nat.le_of_ble_eq_true rfl⟩) hY0 hI rfl chq_d25 hl.1 (Nat.le_of_ble_eq_true rfl) (Nat.le_of_ble_eq_true rfl) (Nat.le_of_ble_eq_true rfl) (y_cons (y_cref hY_this rfl) (y_cons ⟨_, rfl, x_i32 _⟩ y_nil)) rfl (y_recv rfl hY_this) trivial (y_sub_ef rfl) fun v Yn o Hn L ho hr ha hIn hx_ hE hP => ?_
    replace hs_hd := y_Efld hE hY_this rfl (by decide) (by decide) hs_hd
    replace hs_ey := y_Efld hE hY_this rfl (by decide) (by decide) hs_ey
    replace hs_vw := y_Efld hE hY_ey rfl (by decide) (by decide) hs_vw
    replace hs_ablame := y_Efld hE hY_hd rfl (by decide) (by decide) hs_ablame
    replace hn0 := y_Efld hE hY_hd rfl (by decide) (by decide) hn0
    replace hs_fa := y_Efld hE hY_this rfl (by decide) (by decide) hs_fa
    replace hs_fb := y_Efld hE hY_this rfl (by decide) (by decide) hs_fb
    replace hA_ablame := hA_ablame.kept (y_Earr hE hY_ablame rfl (by decide))
    replace hL := hL.E hY_hd hE (fun q u h => y_ext hx_ hI.1 h) (by decide +kernel)
    replace hY_this := y_ext hx_ hI.1 hY_this
    replace hY_hd := y_ext hx_ hI.1 hY_hd
    replace hY_ey := y_ext hx_ hI.1 hY_ey
    replace hY_vw := y_ext hx_ hI.1 hY_vw
    replace hY_ablame := y_ext hx_ hI.1 hY_ablame
    obtain rfl := hP _ _ rfl
    clear ho hr ha hE hP hI hx_
    rename x_I _ _ _ _ _ _ _ _ _ _ => hI
    exact y_ireturn B hI rfl rfl rfl List.mem_cons_self ⟨_, rfl, ⟨_, rfl, x_i32 _⟩⟩ (x_cs.mono B.2.2.2.2.2 (y_mon B hI)) (fun t' w0' w1' f' K' tt' nn' h1 h2 => by cases h1; obtain ⟨ef, -⟩ := hR0.eqs h2; subst ef; exact ⟨_, rfl, ⟨fun q9 => absurd q9 hno, fun q9 => absurd q9 hno, fun q9 => absurd q9 hno, fun _ => rfl⟩, ⟨fun _ a9 b9 h9 => by cases hfa0.symm.trans h9.1; cases hfb0.symm.trans h9.2; exact ⟨hs_fa, hs_fb⟩, fun q9 => absurd q9 (by decide)⟩⟩) (Nat.le_refl _) (Nat.le_refl _) chq_d28
  · have q8_ : ¬ r5.toInt = (0 : Int32).toInt := fun q => q8 (Int32.toInt_inj.mp q)
    refine lv_aload_n hx hb chq_d11 rfl (lv_at hl 0 rfl) ?_
    refine y_getf X (fl8 X.2.2.2.2.1) hI.1 hY_this rfl hs_hd chq_d12 ?_
    refine lv_iload_n hx hb chq_d15 rfl (lv_at hl 2 rfl) ?_
    refine y_call (z := (0, 101, 2, some 2, xM40)) (av := [.ref hd, .int h]) (rest := []) (y_cokV (n := 1) (ci := 2) X ym_hasHill rfl rfl rfl (x_cons (x_bw29 8 rfl rfl) (x_cons (x_bw29 9 rfl rfl) (x_cons (x_bw29 10 rfl rfl) (x_cons (x_bw0 2 rfl rfl) x_nilm)))) (x_bw29 11 rfl rfl) (by decide +kernel) ⟨Nat.le_of_ble_eq_true rfl, Nat.le_of_ble_eq_true rfl⟩) hY0 hI rfl chq_d16 hl.1 (Nat.le_of_ble_eq_true rfl) (Nat.le_of_ble_eq_true rfl) (Nat.le_of_ble_eq_true rfl) (y_cons (y_cref hY_hd rfl) (y_cons ⟨_, rfl, x_i32 _⟩ y_nil)) rfl (y_recv rfl hY_hd) trivial (y_sub_ef rfl) fun v Yn o Hn L ho hr ha hIn hx_ hE hP => ?_
    have hPh := hP _ _ _ rfl hn0
    replace hs_hd := y_Efld hE hY_this rfl (by decide) (by decide) hs_hd
    replace hs_ey := y_Efld hE hY_this rfl (by decide) (by decide) hs_ey
    replace hs_vw := y_Efld hE hY_ey rfl (by decide) (by decide) hs_vw
    replace hs_ablame := y_Efld hE hY_hd rfl (by decide) (by decide) hs_ablame
    replace hn0 := y_Efld hE hY_hd rfl (by decide) (by decide) hn0
    replace hs_fa := y_Efld hE hY_this rfl (by decide) (by decide) hs_fa
    replace hs_fb := y_Efld hE hY_this rfl (by decide) (by decide) hs_fb
    replace hA_ablame := hA_ablame.kept (y_Earr hE hY_ablame rfl (by decide))
    replace hL := hL.E hY_hd hE (fun q u h => y_ext hx_ hI.1 h) (by decide +kernel)
    replace hY_this := y_ext hx_ hI.1 hY_this
    replace hY_hd := y_ext hx_ hI.1 hY_hd
    replace hY_ey := y_ext hx_ hI.1 hY_ey
    replace hY_vw := y_ext hx_ hI.1 hY_vw
    replace hY_ablame := y_ext hx_ hI.1 hY_ablame
    obtain ⟨r16, rfl, hin_r16, hout_r16⟩ := hPh
    clear ho hr ha hE hP hI hx_
    rename x_I _ _ _ _ _ _ _ _ _ _ => hI
    refine lv_if_ne hx hb chq_d19 (tgt := 29) (by decide) (fun q19 => ?_) (fun q19 => ?_)
    · have q19_ : ¬ r16.toInt = (0 : Int32).toInt := fun q => q19 (Int32.toInt_inj.mp q)
      have hok : m_isS f w ∧ m_isH f h := ⟨hin_r5 (by assumption), hin_r16 (by assumption)⟩
      refine lv_aload_n hx hb chq_d29 rfl (lv_at hl 0 rfl) ?_
      refine y_call (z := (0, 104, 1, some 0, xM52)) (av := [.ref this]) (rest := []) (y_cokV (n := 0) (ci := 11) X ym_lookNow rfl rfl rfl (x_cons (x_bw29 12 rfl rfl) (x_cons (x_bw29 14 rfl rfl) (x_cons (x_at 3 (by decide +kernel) rfl) (x_cons (x_bw0 1 rfl rfl) x_nilm)))) (x_bw29 15 rfl rfl) (by decide +kernel) ⟨Nat.le_of_ble_eq_true rfl, Nat.le_of_ble_eq_true rfl⟩) hY0 hI rfl chq_d30 hl.1 (Nat.le_of_ble_eq_true rfl) (Nat.le_of_ble_eq_true rfl) (Nat.le_of_ble_eq_true rfl) (y_cons (y_cref hY_this rfl) y_nil) rfl (y_recv rfl hY_this) (fun t' hd' h1 h2 => by cases h1; cases h2.symm.trans hs_hd; exact ⟨_, hL⟩) (y_sub_ef rfl) fun v Yn o Hn L ho hr ha hIn hx_ hE hP => ?_
      have hPk := hP _ _ _ _ _ rfl hs_hd hs_ey hs_vw hL
      replace hs_hd := y_Efld hE hY_this rfl (by decide) (by decide) hs_hd
      replace hs_ey := y_Efld hE hY_this rfl (by decide) (by decide) hs_ey
      replace hs_vw := y_Efld hE hY_ey rfl (by decide) (by decide) hs_vw
      replace hs_ablame := y_Efld hE hY_hd rfl (by decide) (by decide) hs_ablame
      replace hn0 := y_Efld hE hY_hd rfl (by decide) (by decide) hn0
      replace hs_fa := y_Efld hE hY_this rfl (by decide) (by decide) hs_fa
      replace hs_fb := y_Efld hE hY_this rfl (by decide) (by decide) hs_fb
      replace hA_ablame := hA_ablame.kept (y_Earr hE hY_ablame rfl (by decide))
      replace hL := hL.E hY_hd hE (fun q u h => y_ext hx_ hI.1 h) (by decide +kernel)
      replace hY_this := y_ext hx_ hI.1 hY_this
      replace hY_hd := y_ext hx_ hI.1 hY_hd
      replace hY_ey := y_ext hx_ hI.1 hY_ey
      replace hY_vw := y_ext hx_ hI.1 hY_vw
      replace hY_ablame := y_ext hx_ hI.1 hY_ablame
      obtain rfl := y_ansV rfl ho hr
      have hA_vw := hPk
      clear ho hr ha hE hP hI hx_
      rename x_I _ _ _ _ _ _ _ _ _ _ => hI
      refine lv_aload_n hx hb chq_d33 rfl (lv_at hl 0 rfl) ?_
      refine lv_iload_n hx hb chq_d34 rfl (lv_at hl 1 rfl) ?_
      refine y_call (z := (0, 224, 2, some 0, xM92)) (av := [.ref this, .int w]) (rest := []) (y_cokV (n := 1) (ci := 11) X ym_isLawNow rfl rfl rfl (x_cons (x_bw49 1 rfl rfl) (x_cons (x_bw49 3 rfl rfl) (x_cons (x_at 17 (by decide +kernel) rfl) (x_cons (x_bw0 1 rfl rfl) x_nilm)))) (x_bw49 4 rfl rfl) (by decide +kernel) ⟨Nat.le_of_ble_eq_true rfl, Nat.le_of_ble_eq_true rfl⟩) hY0 hI rfl chq_d35 hl.1 (Nat.le_of_ble_eq_true rfl) (Nat.le_of_ble_eq_true rfl) (Nat.le_of_ble_eq_true rfl) (y_cons (y_cref hY_this rfl) (y_cons ⟨_, rfl, x_i32 _⟩ y_nil)) rfl (y_recv rfl hY_this) trivial (y_sub_ef rfl) fun v Yn o Hn L ho hr ha hIn hx_ hE hP => ?_
      have hPl := hP _ _ _ _ _ rfl hs_ey hs_vw hA_vw
      obtain rfl := hPl
      replace hs_hd := y_Efld hE hY_this rfl (by decide) (by decide) hs_hd
      replace hs_ey := y_Efld hE hY_this rfl (by decide) (by decide) hs_ey
      replace hs_vw := y_Efld hE hY_ey rfl (by decide) (by decide) hs_vw
      replace hs_ablame := y_Efld hE hY_hd rfl (by decide) (by decide) hs_ablame
      replace hn0 := y_Efld hE hY_hd rfl (by decide) (by decide) hn0
      replace hs_fa := y_Efld hE hY_this rfl (by decide) (by decide) hs_fa
      replace hs_fb := y_Efld hE hY_this rfl (by decide) (by decide) hs_fb
      replace hA_ablame := hA_ablame.kept (y_Earr hE hY_ablame rfl (by decide))
      replace hA_vw := hA_vw.kept (y_Earr hE hY_vw rfl (by decide))
      replace hL := hL.E hY_hd hE (fun q u h => y_ext hx_ hI.1 h) (by decide +kernel)
      replace hY_this := y_ext hx_ hI.1 hY_this
      replace hY_hd := y_ext hx_ hI.1 hY_hd
      replace hY_ey := y_ext hx_ hI.1 hY_ey
      replace hY_vw := y_ext hx_ hI.1 hY_vw
      replace hY_ablame := y_ext hx_ hI.1 hY_ablame
      generalize hg_r35 : m_b (!(m_any (m_wr (m_VC f (f 4) (f 5) 0) w) 10)) = r35
      clear ho hr ha hE hP hI hx_
      rename x_I _ _ _ _ _ _ _ _ _ _ => hI
      refine lv_if_ne hx hb chq_d38 (tgt := 48) (by decide) (fun q38 => ?_) (fun q38 => ?_)
      · have q38_ : ¬ r35.toInt = (0 : Int32).toInt := fun q => q38 (Int32.toInt_inj.mp q)
        have hlw : m_lwC f w = true := m_bn (fun q => absurd (hg_r35.symm.trans q) (by assumption))
        refine lv_aload_n hx hb chq_d48 rfl (lv_at hl 0 rfl) ?_
        refine lv_iload_n hx hb chq_d49 rfl (lv_at hl 1 rfl) ?_
        refine y_call (z := (0, 270, 2, some 0, xM121)) (av := [.ref this, .int w]) (rest := []) (y_cokV (n := 1) (ci := 11) X ym_suspects rfl rfl rfl (x_cons (x_bw56 4 rfl rfl) (x_cons (x_bw56 6 rfl rfl) (x_cons (x_at 26 (by decide +kernel) rfl) (x_cons (x_bw0 1 rfl rfl) x_nilm)))) (x_bw56 7 rfl rfl) (by decide +kernel) ⟨Nat.le_of_ble_eq_true rfl, Nat.le_of_ble_eq_true rfl⟩) hY0 hI rfl chq_d50 hl.1 (Nat.le_of_ble_eq_true rfl) (Nat.le_of_ble_eq_true rfl) (Nat.le_of_ble_eq_true rfl) (y_cons (y_cref hY_this rfl) (y_cons ⟨_, rfl, x_i32 _⟩ y_nil)) rfl (y_recv rfl hY_this) (fun t' hd' h1 h2 => by cases h1; cases h2.symm.trans hs_hd; exact ⟨_, hL⟩) (y_sub_ef rfl) fun v Yn o Hn L ho hr ha hIn hx_ hE hP => ?_
        have hPt := hP _ _ _ _ _ _ _ rfl hs_hd hs_ey hs_vw hL hA_vw
        obtain rfl := hPt
        replace hs_hd := y_Efld hE hY_this rfl (by decide) (by decide) hs_hd
        replace hs_ey := y_Efld hE hY_this rfl (by decide) (by decide) hs_ey
        replace hs_vw := y_Efld hE hY_ey rfl (by decide) (by decide) hs_vw
        replace hs_ablame := y_Efld hE hY_hd rfl (by decide) (by decide) hs_ablame
        replace hn0 := y_Efld hE hY_hd rfl (by decide) (by decide) hn0
        replace hs_fa := y_Efld hE hY_this rfl (by decide) (by decide) hs_fa
        replace hs_fb := y_Efld hE hY_this rfl (by decide) (by decide) hs_fb
        replace hA_ablame := hA_ablame.kept (y_Earr hE hY_ablame rfl (by decide))
        replace hA_vw := hA_vw.kept (y_Earr hE hY_vw rfl (by decide))
        replace hL := hL.E hY_hd hE (fun q u h => y_ext hx_ hI.1 h) (by decide +kernel)
        replace hY_this := y_ext hx_ hI.1 hY_this
        replace hY_hd := y_ext hx_ hI.1 hY_hd
        replace hY_ey := y_ext hx_ hI.1 hY_ey
        replace hY_vw := y_ext hx_ hI.1 hY_vw
        replace hY_ablame := y_ext hx_ hI.1 hY_ablame
        generalize hg_r50 : m_gg (m_sus f (m_VC f (f 4) (f 5) 0) w) 0 (f 0).toInt.toNat = r50
        clear ho hr ha hE hP hI hx_
        rename x_I _ _ _ _ _ _ _ _ _ _ => hI
        refine lv_istore_n hx hb chq_d53 rfl hl (by decide) (lv' := [(3, .int r50), (0, .ref this), (1, .int w), (2, .int h)]) rfl fun ls hl => ?_
        refine lv_iconst hx hb chq_d54 (v := 0) (by decide) ?_
        refine lv_istore hx hb chq_d55 hl (by decide) (lv' := [(4, .int (0 : Int32)), (3, .int r50), (0, .ref this), (1, .int w), (2, .int h)]) rfl fun ls hl => ?_
        refine lv_iconst hx hb chq_d57 (v := 0) (by decide) ?_
        refine lv_istore hx hb chq_d58 hl (by decide) (lv' := [(5, .int (0 : Int32)), (4, .int (0 : Int32)), (3, .int r50), (0, .ref this), (1, .int w), (2, .int h)]) rfl fun ls hl => ?_
        have hsi_hills := hn0
        exact chq_L60 B rfl hR0 hb0 hfa0 hfb0 hok hg_r50.symm hlw 12 _ _ _ _ _ _ hI hY_this hY_hd hY_ey hY_vw hY_ablame hs_hd hs_ey hs_vw hs_ablame hsi_hills hA_vw hA_ablame hL hs_fa hs_fb (lv_sub hl [0, 1, 2, 3, 4, 5] rfl) (by first | assumption | omega) rfl (by omega)
      · have q38_ : r35.toInt = (0 : Int32).toInt := by rw [q38]
        have hlw : m_lwC f w = false := m_b0 (hg_r35.trans (by assumption))
        refine lv_aload_n hx hb chq_d41 rfl (lv_at hl 0 rfl) ?_
        refine lv_bipush hx hb chq_d42 (v := (-3)) (by decide) ?_
        have ecm3 : ((-3) : Int32).toInt = (-3) := by decide
        refine y_call (z := (0, 59, 2, some 0, xM8)) (av := [.ref this, .int ((-3) : Int32)]) (rest := []) (y_cokV (n := 1) (ci := 11) X ym_counted rfl rfl rfl (x_cons (x_bw19 7 rfl rfl) (x_cons (x_bw19 9 rfl rfl) (x_cons (x_at 1 (by decide +kernel) rfl) (x_cons (x_bw0 1 rfl rfl) x_nilm)))) (x_bw19 10 rfl rfl) (by decide +kernel) ⟨Nat.le_of_ble_eq_true rfl, Nat.le_of_ble_eq_true rfl⟩) hY0 hI rfl chq_d44 hl.1 (Nat.le_of_ble_eq_true rfl) (Nat.le_of_ble_eq_true rfl) (Nat.le_of_ble_eq_true rfl) (y_cons (y_cref hY_this rfl) (y_cons ⟨_, rfl, x_i32 _⟩ y_nil)) rfl (y_recv rfl hY_this) trivial (y_sub_ef rfl) fun v Yn o Hn L ho hr ha hIn hx_ hE hP => ?_
        replace hs_hd := y_Efld hE hY_this rfl (by decide) (by decide) hs_hd
        replace hs_ey := y_Efld hE hY_this rfl (by decide) (by decide) hs_ey
        replace hs_vw := y_Efld hE hY_ey rfl (by decide) (by decide) hs_vw
        replace hs_ablame := y_Efld hE hY_hd rfl (by decide) (by decide) hs_ablame
        replace hn0 := y_Efld hE hY_hd rfl (by decide) (by decide) hn0
        replace hs_fa := y_Efld hE hY_this rfl (by decide) (by decide) hs_fa
        replace hs_fb := y_Efld hE hY_this rfl (by decide) (by decide) hs_fb
        replace hA_ablame := hA_ablame.kept (y_Earr hE hY_ablame rfl (by decide))
        replace hA_vw := hA_vw.kept (y_Earr hE hY_vw rfl (by decide))
        replace hL := hL.E hY_hd hE (fun q u h => y_ext hx_ hI.1 h) (by decide +kernel)
        replace hY_this := y_ext hx_ hI.1 hY_this
        replace hY_hd := y_ext hx_ hI.1 hY_hd
        replace hY_ey := y_ext hx_ hI.1 hY_ey
        replace hY_vw := y_ext hx_ hI.1 hY_vw
        replace hY_ablame := y_ext hx_ hI.1 hY_ablame
        obtain rfl := hP _ _ rfl
        clear ho hr ha hE hP hI hx_
        rename x_I _ _ _ _ _ _ _ _ _ _ => hI
        exact y_ireturn B hI rfl rfl rfl List.mem_cons_self ⟨_, rfl, ⟨_, rfl, x_i32 _⟩⟩ (x_cs.mono B.2.2.2.2.2 (y_mon B hI)) (fun t' w0' w1' f' K' tt' nn' h1 h2 => by cases h1; obtain ⟨ef, -⟩ := hR0.eqs h2; subst ef; exact ⟨_, rfl, ⟨fun _ q9 => (by rw [hlw] at q9; cases q9), fun _ _ _ => rfl, fun _ _ => rfl, fun q9 => absurd hok q9⟩, ⟨fun _ a9 b9 h9 => by cases hfa0.symm.trans h9.1; cases hfb0.symm.trans h9.2; exact ⟨hs_fa, hs_fb⟩, fun q9 => absurd q9 (by decide)⟩⟩) (Nat.le_refl _) (Nat.le_refl _) chq_d47
    · have q19_ : r16.toInt = (0 : Int32).toInt := by rw [q19]
      have hno : ¬ (m_isS f w ∧ m_isH f h) := fun q9 => by first | exact hout_r5 (by assumption) q9.1 | exact hout_r16 (by assumption) q9.2
      refine lv_aload_n hx hb chq_d22 rfl (lv_at hl 0 rfl) ?_
      refine lv_bipush hx hb chq_d23 (v := (-2)) (by decide) ?_
      have ecm2 : ((-2) : Int32).toInt = (-2) := by decide
      refine y_call (z := (0, 59, 2, some 0, xM8)) (av := [.ref this, .int ((-2) : Int32)]) (rest := []) (y_cokV (n := 1) (ci := 11) X ym_counted rfl rfl rfl (x_cons (x_bw19 7 rfl rfl) (x_cons (x_bw19 9 rfl rfl) (x_cons (x_at 1 (by decide +kernel) rfl) (x_cons (x_bw0 1 rfl rfl) x_nilm)))) (x_bw19 10 rfl rfl) (by decide +kernel) ⟨Nat.le_of_ble_eq_true rfl, Nat.le_of_ble_eq_true rfl⟩) hY0 hI rfl chq_d25 hl.1 (Nat.le_of_ble_eq_true rfl) (Nat.le_of_ble_eq_true rfl) (Nat.le_of_ble_eq_true rfl) (y_cons (y_cref hY_this rfl) (y_cons ⟨_, rfl, x_i32 _⟩ y_nil)) rfl (y_recv rfl hY_this) trivial (y_sub_ef rfl) fun v Yn o Hn L ho hr ha hIn hx_ hE hP => ?_
      replace hs_hd := y_Efld hE hY_this rfl (by decide) (by decide) hs_hd
      replace hs_ey := y_Efld hE hY_this rfl (by decide) (by decide) hs_ey
      replace hs_vw := y_Efld hE hY_ey rfl (by decide) (by decide) hs_vw
      replace hs_ablame := y_Efld hE hY_hd rfl (by decide) (by decide) hs_ablame
      replace hn0 := y_Efld hE hY_hd rfl (by decide) (by decide) hn0
      replace hs_fa := y_Efld hE hY_this rfl (by decide) (by decide) hs_fa
      replace hs_fb := y_Efld hE hY_this rfl (by decide) (by decide) hs_fb
      replace hA_ablame := hA_ablame.kept (y_Earr hE hY_ablame rfl (by decide))
      replace hL := hL.E hY_hd hE (fun q u h => y_ext hx_ hI.1 h) (by decide +kernel)
      replace hY_this := y_ext hx_ hI.1 hY_this
      replace hY_hd := y_ext hx_ hI.1 hY_hd
      replace hY_ey := y_ext hx_ hI.1 hY_ey
      replace hY_vw := y_ext hx_ hI.1 hY_vw
      replace hY_ablame := y_ext hx_ hI.1 hY_ablame
      obtain rfl := hP _ _ rfl
      clear ho hr ha hE hP hI hx_
      rename x_I _ _ _ _ _ _ _ _ _ _ => hI
      exact y_ireturn B hI rfl rfl rfl List.mem_cons_self ⟨_, rfl, ⟨_, rfl, x_i32 _⟩⟩ (x_cs.mono B.2.2.2.2.2 (y_mon B hI)) (fun t' w0' w1' f' K' tt' nn' h1 h2 => by cases h1; obtain ⟨ef, -⟩ := hR0.eqs h2; subst ef; exact ⟨_, rfl, ⟨fun q9 => absurd q9 hno, fun q9 => absurd q9 hno, fun q9 => absurd q9 hno, fun _ => rfl⟩, ⟨fun _ a9 b9 h9 => by cases hfa0.symm.trans h9.1; cases hfb0.symm.trans h9.2; exact ⟨hs_fa, hs_fb⟩, fun q9 => absurd q9 (by decide)⟩⟩) (Nat.le_refl _) (Nat.le_refl _) chq_d28
def z_PTlies : yP := fun D av Y H v _ H' => ∀ (this : Nat) (w h : Int32) (f : Nat → Int32) (K : Nat → Option (Nat → Int32)) (t9 : Nat → Int32) (n9 : Int32), av = [.ref this, .int w, .int h] → z_RC D Y H this f K t9 n9 → ∃ r : Int32, v = some (.int r) ∧ m_3 (m_isS f w ∧ m_isH f h ∧ m_has w h = false) (m_lwC f w) (¬ m_lsC f (m_VC f (f 4) (f 5) 0) w (f 0).toInt.toNat = 0) r ∧ z_fx D H H' this r (m_wtC f (m_VC f (f 4) (f 5) 0) w h.toInt.toNat) (m_lsC f (m_VC f (f 4) (f 5) 0) w (f 0).toInt.toNat)
theorem liq_d0 : decode xM125.2.1 0 = .ok (.aload_n 0, 1) := dz_ok (by decide +kernel)
theorem liq_d1 : decode xM125.2.1 1 = .ok (.getfield 12, 3) := dz_ok (by decide +kernel)
theorem liq_d4 : decode xM125.2.1 4 = .ok (.iload_n 1, 1) := dz_ok (by decide +kernel)
theorem liq_d5 : decode xM125.2.1 5 = .ok (.invokevirtual 169, 3) := dz_ok (by decide +kernel)
theorem liq_d8 : decode xM125.2.1 8 = .ok (.ifCond .eq 22, 3) := dz_ok (by decide +kernel)
theorem liq_d11 : decode xM125.2.1 11 = .ok (.aload_n 0, 1) := dz_ok (by decide +kernel)
theorem liq_d12 : decode xM125.2.1 12 = .ok (.getfield 12, 3) := dz_ok (by decide +kernel)
theorem liq_d15 : decode xM125.2.1 15 = .ok (.iload_n 2, 1) := dz_ok (by decide +kernel)
theorem liq_d16 : decode xM125.2.1 16 = .ok (.invokevirtual 101, 3) := dz_ok (by decide +kernel)
theorem liq_d19 : decode xM125.2.1 19 = .ok (.ifCond .eq 11, 3) := dz_ok (by decide +kernel)
theorem liq_d22 : decode xM125.2.1 22 = .ok (.iload_n 2, 1) := dz_ok (by decide +kernel)
theorem liq_d23 : decode xM125.2.1 23 = .ok (.iload_n 1, 1) := dz_ok (by decide +kernel)
theorem liq_d24 : decode xM125.2.1 24 = .ok (.invokestatic 276, 3) := dz_ok (by decide +kernel)
theorem liq_d27 : decode xM125.2.1 27 = .ok (.ifCond .eq 10, 3) := dz_ok (by decide +kernel)
theorem liq_d30 : decode xM125.2.1 30 = .ok (.aload_n 0, 1) := dz_ok (by decide +kernel)
theorem liq_d31 : decode xM125.2.1 31 = .ok (.bipush (-2), 2) := dz_ok (by decide +kernel)
theorem liq_d33 : decode xM125.2.1 33 = .ok (.invokevirtual 59, 3) := dz_ok (by decide +kernel)
theorem liq_d36 : decode xM125.2.1 36 = .ok (.ireturn, 1) := dz_ok (by decide +kernel)
theorem liq_d37 : decode xM125.2.1 37 = .ok (.aload_n 0, 1) := dz_ok (by decide +kernel)
theorem liq_d38 : decode xM125.2.1 38 = .ok (.invokevirtual 104, 3) := dz_ok (by decide +kernel)
theorem liq_d41 : decode xM125.2.1 41 = .ok (.aload_n 0, 1) := dz_ok (by decide +kernel)
theorem liq_d42 : decode xM125.2.1 42 = .ok (.iload_n 1, 1) := dz_ok (by decide +kernel)
theorem liq_d43 : decode xM125.2.1 43 = .ok (.invokevirtual 224, 3) := dz_ok (by decide +kernel)
theorem liq_d46 : decode xM125.2.1 46 = .ok (.ifCond .ne 10, 3) := dz_ok (by decide +kernel)
theorem liq_d49 : decode xM125.2.1 49 = .ok (.aload_n 0, 1) := dz_ok (by decide +kernel)
theorem liq_d50 : decode xM125.2.1 50 = .ok (.bipush (-3), 2) := dz_ok (by decide +kernel)
theorem liq_d52 : decode xM125.2.1 52 = .ok (.invokevirtual 59, 3) := dz_ok (by decide +kernel)
theorem liq_d55 : decode xM125.2.1 55 = .ok (.ireturn, 1) := dz_ok (by decide +kernel)
theorem liq_d56 : decode xM125.2.1 56 = .ok (.lconst 0, 1) := dz_ok (by decide +kernel)
theorem liq_d57 : decode xM125.2.1 57 = .ok (.lstore_n 3, 1) := dz_ok (by decide +kernel)
theorem liq_d58 : decode xM125.2.1 58 = .ok (.iconst 0, 1) := dz_ok (by decide +kernel)
theorem liq_d59 : decode xM125.2.1 59 = .ok (.istore 5, 2) := dz_ok (by decide +kernel)
theorem liq_d61 : decode xM125.2.1 61 = .ok (.iload 5, 2) := dz_ok (by decide +kernel)
theorem liq_d63 : decode xM125.2.1 63 = .ok (.aload_n 0, 1) := dz_ok (by decide +kernel)
theorem liq_d64 : decode xM125.2.1 64 = .ok (.getfield 12, 3) := dz_ok (by decide +kernel)
theorem liq_d67 : decode xM125.2.1 67 = .ok (.getfield 273, 3) := dz_ok (by decide +kernel)
theorem liq_d70 : decode xM125.2.1 70 = .ok (.if_icmp .ge 32, 3) := dz_ok (by decide +kernel)
theorem liq_d73 : decode xM125.2.1 73 = .ok (.lload_n 3, 1) := dz_ok (by decide +kernel)
theorem liq_d74 : decode xM125.2.1 74 = .ok (.iload 5, 2) := dz_ok (by decide +kernel)
theorem liq_d76 : decode xM125.2.1 76 = .ok (.iload_n 1, 1) := dz_ok (by decide +kernel)
theorem liq_d77 : decode xM125.2.1 77 = .ok (.invokestatic 276, 3) := dz_ok (by decide +kernel)
theorem liq_d80 : decode xM125.2.1 80 = .ok (.ifCond .eq 7, 3) := dz_ok (by decide +kernel)
theorem liq_d83 : decode xM125.2.1 83 = .ok (.lconst 0, 1) := dz_ok (by decide +kernel)
theorem liq_d84 : decode xM125.2.1 84 = .ok (.goto 10, 3) := dz_ok (by decide +kernel)
theorem liq_d87 : decode xM125.2.1 87 = .ok (.aload_n 0, 1) := dz_ok (by decide +kernel)
theorem liq_d88 : decode xM125.2.1 88 = .ok (.iload_n 1, 1) := dz_ok (by decide +kernel)
theorem liq_d89 : decode xM125.2.1 89 = .ok (.iload 5, 2) := dz_ok (by decide +kernel)
theorem liq_d91 : decode xM125.2.1 91 = .ok (.invokevirtual 279, 3) := dz_ok (by decide +kernel)
theorem liq_d94 : decode xM125.2.1 94 = .ok (.ladd, 1) := dz_ok (by decide +kernel)
theorem liq_d95 : decode xM125.2.1 95 = .ok (.lstore_n 3, 1) := dz_ok (by decide +kernel)
theorem liq_d96 : decode xM125.2.1 96 = .ok (.iinc 5 1, 3) := dz_ok (by decide +kernel)
theorem liq_d99 : decode xM125.2.1 99 = .ok (.goto (-38), 3) := dz_ok (by decide +kernel)
theorem liq_d102 : decode xM125.2.1 102 = .ok (.lload_n 3, 1) := dz_ok (by decide +kernel)
theorem liq_d103 : decode xM125.2.1 103 = .ok (.lconst 0, 1) := dz_ok (by decide +kernel)
theorem liq_d104 : decode xM125.2.1 104 = .ok (.lcmp, 1) := dz_ok (by decide +kernel)
theorem liq_d105 : decode xM125.2.1 105 = .ok (.ifCond .ne 10, 3) := dz_ok (by decide +kernel)
theorem liq_d108 : decode xM125.2.1 108 = .ok (.aload_n 0, 1) := dz_ok (by decide +kernel)
theorem liq_d109 : decode xM125.2.1 109 = .ok (.bipush (-3), 2) := dz_ok (by decide +kernel)
theorem liq_d111 : decode xM125.2.1 111 = .ok (.invokevirtual 59, 3) := dz_ok (by decide +kernel)
theorem liq_d114 : decode xM125.2.1 114 = .ok (.ireturn, 1) := dz_ok (by decide +kernel)
theorem liq_d115 : decode xM125.2.1 115 = .ok (.aload_n 0, 1) := dz_ok (by decide +kernel)
theorem liq_d116 : decode xM125.2.1 116 = .ok (.aload_n 0, 1) := dz_ok (by decide +kernel)
theorem liq_d117 : decode xM125.2.1 117 = .ok (.iload_n 1, 1) := dz_ok (by decide +kernel)
theorem liq_d118 : decode xM125.2.1 118 = .ok (.iload_n 2, 1) := dz_ok (by decide +kernel)
theorem liq_d119 : decode xM125.2.1 119 = .ok (.invokevirtual 279, 3) := dz_ok (by decide +kernel)
theorem liq_d122 : decode xM125.2.1 122 = .ok (.lload_n 3, 1) := dz_ok (by decide +kernel)
theorem liq_d123 : decode xM125.2.1 123 = .ok (.invokevirtual 137, 3) := dz_ok (by decide +kernel)
theorem liq_d126 : decode xM125.2.1 126 = .ok (.iconst 1, 1) := dz_ok (by decide +kernel)
theorem liq_d127 : decode xM125.2.1 127 = .ok (.ireturn, 1) := dz_ok (by decide +kernel)
theorem liq_L61 {p : Program} {l : Launch} {e : Env} {s : State} {m : MethodId} {below : List Frame} {meth : Method} {c : Code} {D : va_G} {U : State} {Y0 : xY} {av : List Value} (B : y_B vwCl x_Tb x_Nb xM125 p s m meth c D U Y0 av) {this hd ey vw : Nat} {w h : Int32} {f : Nat → Int32} {K : Nat → Option (Nat → Int32)} {tt : Nat → Int32} {nn : Int32} {fa fb : Int64} (hav : av = [.ref this, .int w, .int h]) (hR0 : z_RC D Y0 s.heap this f K tt nn) (hb0 : 0 ≤ (f 0).toInt ∧ (f 0).toInt ≤ 10) (hfa0 : x_sl D 11 7 this s.heap = some (.long fa)) (hfb0 : x_sl D 11 8 this s.heap = some (.long fb)) (hok : m_isS f w ∧ m_isH f h ∧ m_has w h = false) (hlw : m_lwC f w = true) :
    ∀ (n : Nat), ∀ (H : Heap) (Y : xY) (locs : List Loc) (ls : Array Slot) (j : Int32) (al : Int64), x_I D x_G x_Zs U (x_efs xM125) Y0 s.heap Y H locs → Y this = some 0 → Y hd = some 2 → Y ey = some 6 → Y vw = some 32 → x_sl D 11 0 this H = some (.ref hd) → x_sl D 11 4 this H = some (.ref ey) → x_sl D 0 1 ey H = some (.ref vw) → x_sl D 2 0 hd H = some (.int (f 0)) → y_A vw 10 H (m_VC f (f 4) (f 5) 0) → z_L D Y hd H f → x_sl D 11 7 this H = some (.long fa) → x_sl D 11 8 this H = some (.long fb) → lv_has ls xM125.2.2.1 [(5, .int j), (3, .long al), (0, .ref this), (1, .int w), (2, .int h)] → (0 ≤ j.toInt ∧ j.toInt ≤ (f 0).toInt) → (al = m_lsC f (m_VC f (f 4) (f 5) 0) w j.toInt.toNat) → (11 - j.toInt).toNat < n → W p l e (x_rm xM125) s m av.toArray below meth c H locs 0 0 (y_QQ below D x_G x_Zs U xM125 z_PTlies av Y0 s) (F0 m 61 ls []) := by
  have X := B.1
  have hx := X.1
  have hb := X.2.1
  have hY0 := B.2.2.2.2.1
  intro n
  induction n with
  | zero => intro _ _ _ _ _ _ _ _ _ _ _ _ _ _ _ _ _ _ _ _ _ _ h; exact absurd h (Nat.not_lt_zero _)
  | succ n ih =>
    intro H Y locs ls j al  hI hY_this hY_hd hY_ey hY_vw hs_hd hs_ey hs_vw hsi_hills hA_vw hL hs_fa hs_fb hl hj hal hn
    have hh9 := hok.2.1
    unfold m_isH at hh9
    refine lv_iload hx hb liq_d61 (lv_at hl 0 rfl) ?_
    refine lv_aload_n hx hb liq_d63 rfl (lv_at hl 2 rfl) ?_
    refine y_getf X (fl8 X.2.2.2.2.1) hI.1 hY_this rfl hs_hd liq_d64 ?_
    refine y_getf X (fl153 X.2.2.2.2.1) hI.1 hY_hd rfl hsi_hills liq_d67 ?_
    refine lv_icmp_ge hx hb liq_d70 (tgt := 102) (by decide) (fun q70 => ?_) (fun q70 => ?_)
    · have q70_ : (f 0).toInt ≤ j.toInt := x_le32.mp q70
      refine lv_lload_n hx hb liq_d102 rfl (lv_at hl 1 rfl) ?_
      refine lv_lconst hx hb liq_d103 (v := 0) (by decide) ?_
      have el0 : (0 : Int64).toInt = 0 := by decide
      refine W.lcmp hx hb liq_d104 ?_
      have h_z104 := y_cmp al (0 : Int64)
      generalize hg_z104 : lg_cmp al (0 : Int64) = z104 at h_z104 ⊢
      have ec0 : (0 : Int32).toInt = 0 := by decide
      refine lv_if_ne hx hb liq_d105 (tgt := 115) (by decide) (fun q105 => ?_) (fun q105 => ?_)
      · have q105_ : ¬ z104.toInt = (0 : Int32).toInt := fun q => q105 (Int32.toInt_inj.mp q)
        refine lv_aload_n hx hb liq_d115 rfl (lv_at hl 2 rfl) ?_
        refine lv_aload_n hx hb liq_d116 rfl (lv_at hl 2 rfl) ?_
        refine lv_iload_n hx hb liq_d117 rfl (lv_at hl 3 rfl) ?_
        refine lv_iload_n hx hb liq_d118 rfl (lv_at hl 4 rfl) ?_
        refine y_call (z := (0, 279, 3, some 0, xM124)) (av := [.ref this, .int w, .int h]) (rest := [.ref this]) (y_cokV (n := 2) (ci := 11) X ym_weight rfl rfl rfl (x_cons (x_bw57 9 rfl rfl) (x_cons (x_bw57 11 rfl rfl) (x_cons (x_at 29 (by decide +kernel) rfl) (x_cons (x_bw0 1 rfl rfl) x_nilm)))) (x_bw57 12 rfl rfl) (by decide +kernel) ⟨Nat.le_of_ble_eq_true rfl, Nat.le_of_ble_eq_true rfl⟩) hY0 hI rfl liq_d119 hl.1 (Nat.le_of_ble_eq_true rfl) (Nat.le_of_ble_eq_true rfl) (Nat.le_of_ble_eq_true rfl) (y_cons (y_cref hY_this rfl) (y_cons ⟨_, rfl, x_i32 _⟩ (y_cons ⟨_, rfl, by show (0 : Int) ≤ _; omega, by show _ ≤ (9 : Int); omega⟩ y_nil))) rfl (y_recv rfl hY_this) (fun t' hd' h1 h2 => by cases h1; cases h2.symm.trans hs_hd; exact ⟨_, hL⟩) (y_sub_ef rfl) fun v Yn o Hn L ho hr ha hIn hx_ hE hP => ?_
        have hPt := hP _ _ _ _ _ _ _ _ rfl hs_hd hs_ey hs_vw hL hA_vw
        obtain rfl := hPt
        replace hs_hd := y_Efld hE hY_this rfl (by decide) (by decide) hs_hd
        replace hs_ey := y_Efld hE hY_this rfl (by decide) (by decide) hs_ey
        replace hs_vw := y_Efld hE hY_ey rfl (by decide) (by decide) hs_vw
        replace hsi_hills := y_Efld hE hY_hd rfl (by decide) (by decide) hsi_hills
        replace hs_fa := y_Efld hE hY_this rfl (by decide) (by decide) hs_fa
        replace hs_fb := y_Efld hE hY_this rfl (by decide) (by decide) hs_fb
        replace hA_vw := hA_vw.kept (y_Earr hE hY_vw rfl (by decide))
        replace hL := hL.E hY_hd hE (fun q u h => y_ext hx_ hI.1 h) (by decide +kernel)
        replace hY_this := y_ext hx_ hI.1 hY_this
        replace hY_hd := y_ext hx_ hI.1 hY_hd
        replace hY_ey := y_ext hx_ hI.1 hY_ey
        replace hY_vw := y_ext hx_ hI.1 hY_vw
        generalize hg_r119 : m_wtC f (m_VC f (f 4) (f 5) 0) w h.toInt.toNat = r119
        clear ho hr ha hE hP hI hx_
        rename x_I _ _ _ _ _ _ _ _ _ _ => hI
        refine lv_lload_n hx hb liq_d122 rfl (lv_at hl 1 rfl) ?_
        refine y_call (z := (0, 137, 3, some 0, xM54)) (av := [.ref this, .long r119, .long al]) (rest := []) (y_cokV (n := 2) (ci := 11) X ym_setFraction rfl rfl rfl (x_cons (x_bw33 7 rfl rfl) (x_cons (x_bw33 9 rfl rfl) (x_cons (x_at 7 (by decide +kernel) rfl) (x_cons (x_bw0 1 rfl rfl) x_nilm)))) (x_bw33 10 rfl rfl) (by decide +kernel) ⟨Nat.le_of_ble_eq_true rfl, Nat.le_of_ble_eq_true rfl⟩) hY0 hI rfl liq_d123 hl.1 (Nat.le_of_ble_eq_true rfl) (Nat.le_of_ble_eq_true rfl) (Nat.le_of_ble_eq_true rfl) (y_cons (y_cref hY_this rfl) (y_cons ⟨_, rfl, x_i64 _⟩ (y_cons ⟨_, rfl, x_i64 _⟩ y_nil))) rfl (y_recv rfl hY_this) trivial (y_sub_ef rfl) fun v Yn o Hn L ho hr ha hIn hx_ hE hP => ?_
        have hPf := hP _ _ _ rfl
        replace hs_hd := y_Efld hE hY_this rfl (by decide) (by decide) hs_hd
        replace hs_ey := y_Efld hE hY_this rfl (by decide) (by decide) hs_ey
        replace hs_vw := y_Efld hE hY_ey rfl (by decide) (by decide) hs_vw
        replace hsi_hills := y_Efld hE hY_hd rfl (by decide) (by decide) hsi_hills
        replace hA_vw := hA_vw.kept (y_Earr hE hY_vw rfl (by decide))
        replace hL := hL.E hY_hd hE (fun q u h => y_ext hx_ hI.1 h) (by decide +kernel)
        replace hY_this := y_ext hx_ hI.1 hY_this
        replace hY_hd := y_ext hx_ hI.1 hY_hd
        replace hY_ey := y_ext hx_ hI.1 hY_ey
        replace hY_vw := y_ext hx_ hI.1 hY_vw
        obtain rfl := y_ansV rfl ho hr
        clear ho hr ha hE hP hI hx_
        rename x_I _ _ _ _ _ _ _ _ _ _ => hI
        have hk9 : j.toInt.toNat = (f 0).toInt.toNat := by omega
        rw [hk9] at hal
        have hz0 : ¬ al = 0 := fun q8 => by have h9 := congrArg Int64.toInt q8; rw [(show (0 : Int64).toInt = 0 by decide)] at h9; omega
        rw [hal, ← hg_r119] at hPf
        refine lv_iconst hx hb liq_d126 (v := 1) (by decide) ?_
        have ec1 : (1 : Int32).toInt = 1 := by decide
        subst hav
        exact y_ireturn B hI rfl rfl rfl List.mem_cons_self ⟨_, rfl, ⟨_, rfl, x_i32 _⟩⟩ (x_cs.mono B.2.2.2.2.2 (y_mon B hI)) (fun t' w0' w1' f' K' tt' nn' h1 h2 => by cases h1; obtain ⟨ef, -⟩ := hR0.eqs h2; subst ef; exact ⟨_, rfl, ⟨fun _ _ _ => rfl, fun _ _ q9 => absurd (fun q8 => hz0 (hal.trans q8)) q9, fun _ q9 => (by rw [hlw] at q9; cases q9), fun q9 => absurd hok q9⟩, ⟨fun q9 => absurd rfl q9, fun _ => hPf⟩⟩) (Nat.le_refl _) (Nat.le_refl _) liq_d127
      · have q105_ : z104.toInt = (0 : Int32).toInt := by rw [q105]
        refine lv_aload_n hx hb liq_d108 rfl (lv_at hl 2 rfl) ?_
        refine lv_bipush hx hb liq_d109 (v := (-3)) (by decide) ?_
        have ecm3 : ((-3) : Int32).toInt = (-3) := by decide
        refine y_call (z := (0, 59, 2, some 0, xM8)) (av := [.ref this, .int ((-3) : Int32)]) (rest := []) (y_cokV (n := 1) (ci := 11) X ym_counted rfl rfl rfl (x_cons (x_bw19 7 rfl rfl) (x_cons (x_bw19 9 rfl rfl) (x_cons (x_at 1 (by decide +kernel) rfl) (x_cons (x_bw0 1 rfl rfl) x_nilm)))) (x_bw19 10 rfl rfl) (by decide +kernel) ⟨Nat.le_of_ble_eq_true rfl, Nat.le_of_ble_eq_true rfl⟩) hY0 hI rfl liq_d111 hl.1 (Nat.le_of_ble_eq_true rfl) (Nat.le_of_ble_eq_true rfl) (Nat.le_of_ble_eq_true rfl) (y_cons (y_cref hY_this rfl) (y_cons ⟨_, rfl, x_i32 _⟩ y_nil)) rfl (y_recv rfl hY_this) trivial (y_sub_ef rfl) fun v Yn o Hn L ho hr ha hIn hx_ hE hP => ?_
        replace hs_hd := y_Efld hE hY_this rfl (by decide) (by decide) hs_hd
        replace hs_ey := y_Efld hE hY_this rfl (by decide) (by decide) hs_ey
        replace hs_vw := y_Efld hE hY_ey rfl (by decide) (by decide) hs_vw
        replace hsi_hills := y_Efld hE hY_hd rfl (by decide) (by decide) hsi_hills
        replace hs_fa := y_Efld hE hY_this rfl (by decide) (by decide) hs_fa
        replace hs_fb := y_Efld hE hY_this rfl (by decide) (by decide) hs_fb
        replace hA_vw := hA_vw.kept (y_Earr hE hY_vw rfl (by decide))
        replace hL := hL.E hY_hd hE (fun q u h => y_ext hx_ hI.1 h) (by decide +kernel)
        replace hY_this := y_ext hx_ hI.1 hY_this
        replace hY_hd := y_ext hx_ hI.1 hY_hd
        replace hY_ey := y_ext hx_ hI.1 hY_ey
        replace hY_vw := y_ext hx_ hI.1 hY_vw
        obtain rfl := hP _ _ rfl
        clear ho hr ha hE hP hI hx_
        rename x_I _ _ _ _ _ _ _ _ _ _ => hI
        have hk9 : j.toInt.toNat = (f 0).toInt.toNat := by omega
        rw [hk9] at hal
        have hz0 : al = 0 := Int64.toInt_inj.mp (by rw [(show (0 : Int64).toInt = 0 by decide)]; omega)
        subst hav
        exact y_ireturn B hI rfl rfl rfl List.mem_cons_self ⟨_, rfl, ⟨_, rfl, x_i32 _⟩⟩ (x_cs.mono B.2.2.2.2.2 (y_mon B hI)) (fun t' w0' w1' f' K' tt' nn' h1 h2 => by cases h1; obtain ⟨ef, -⟩ := hR0.eqs h2; subst ef; exact ⟨_, rfl, ⟨fun _ _ q9 => absurd q9 (fun q8 => q8 (hal.symm.trans hz0)), fun _ _ _ => rfl, fun _ _ => rfl, fun q9 => absurd hok q9⟩, ⟨fun _ a9 b9 h9 => by cases hfa0.symm.trans h9.1; cases hfb0.symm.trans h9.2; exact ⟨hs_fa, hs_fb⟩, fun q9 => absurd q9 (by decide)⟩⟩) (Nat.le_refl _) (Nat.le_refl _) liq_d114
    · have q70_ : j.toInt < (f 0).toInt := Int.not_le.mp fun q => q70 (x_le32.mpr q)
      refine lv_lload_n hx hb liq_d73 rfl (lv_at hl 1 rfl) ?_
      refine lv_iload hx hb liq_d74 (lv_at hl 0 rfl) ?_
      refine lv_iload_n hx hb liq_d76 rfl (lv_at hl 3 rfl) ?_
      refine y_call (z := (1, 276, 2, none, xM70)) (av := [.int j, .int w]) (rest := [.long al]) (y_cokS (n := 2) X ym_isIn (x_cons (x_bw56 8 rfl rfl) (x_cons (x_bw42 15 rfl rfl) (x_cons (x_bw0 1 rfl rfl) x_nilm))) (x_bw43 0 rfl rfl) (by decide +kernel) ⟨Nat.le_of_ble_eq_true rfl, Nat.le_of_ble_eq_true rfl⟩) hY0 hI rfl liq_d77 hl.1 (Nat.le_of_ble_eq_true rfl) (Nat.le_of_ble_eq_true rfl) (Nat.le_of_ble_eq_true rfl) (y_cons ⟨_, rfl, x_i32 _⟩ (y_cons ⟨_, rfl, x_i32 _⟩ y_nil)) rfl (y_norecv rfl) trivial (y_sub_ef rfl) fun v Yn o Hn L ho hr ha hIn hx_ hE hP => ?_
      have hPm := hP _ _ rfl
      obtain rfl := hPm
      replace hs_hd := y_Efld hE hY_this rfl (by decide) (by decide) hs_hd
      replace hs_ey := y_Efld hE hY_this rfl (by decide) (by decide) hs_ey
      replace hs_vw := y_Efld hE hY_ey rfl (by decide) (by decide) hs_vw
      replace hsi_hills := y_Efld hE hY_hd rfl (by decide) (by decide) hsi_hills
      replace hs_fa := y_Efld hE hY_this rfl (by decide) (by decide) hs_fa
      replace hs_fb := y_Efld hE hY_this rfl (by decide) (by decide) hs_fb
      replace hA_vw := hA_vw.kept (y_Earr hE hY_vw rfl (by decide))
      replace hL := hL.E hY_hd hE (fun q u h => y_ext hx_ hI.1 h) (by decide +kernel)
      replace hY_this := y_ext hx_ hI.1 hY_this
      replace hY_hd := y_ext hx_ hI.1 hY_hd
      replace hY_ey := y_ext hx_ hI.1 hY_ey
      replace hY_vw := y_ext hx_ hI.1 hY_vw
      generalize hg_r77 : m_b (m_has w j) = r77
      clear ho hr ha hE hP hI hx_
      rename x_I _ _ _ _ _ _ _ _ _ _ => hI
      have ec0 : (0 : Int32).toInt = 0 := by decide
      refine lv_if_eq hx hb liq_d80 (tgt := 87) (by decide) (fun q80 => ?_) (fun q80 => ?_)
      · have q80_ : r77.toInt = (0 : Int32).toInt := by rw [q80]
        refine lv_aload_n hx hb liq_d87 rfl (lv_at hl 2 rfl) ?_
        refine lv_iload_n hx hb liq_d88 rfl (lv_at hl 3 rfl) ?_
        refine lv_iload hx hb liq_d89 (lv_at hl 0 rfl) ?_
        refine y_call (z := (0, 279, 3, some 0, xM124)) (av := [.ref this, .int w, .int j]) (rest := [.long al]) (y_cokV (n := 2) (ci := 11) X ym_weight rfl rfl rfl (x_cons (x_bw57 9 rfl rfl) (x_cons (x_bw57 11 rfl rfl) (x_cons (x_at 29 (by decide +kernel) rfl) (x_cons (x_bw0 1 rfl rfl) x_nilm)))) (x_bw57 12 rfl rfl) (by decide +kernel) ⟨Nat.le_of_ble_eq_true rfl, Nat.le_of_ble_eq_true rfl⟩) hY0 hI rfl liq_d91 hl.1 (Nat.le_of_ble_eq_true rfl) (Nat.le_of_ble_eq_true rfl) (Nat.le_of_ble_eq_true rfl) (y_cons (y_cref hY_this rfl) (y_cons ⟨_, rfl, x_i32 _⟩ (y_cons ⟨_, rfl, by show (0 : Int) ≤ _; omega, by show _ ≤ (9 : Int); omega⟩ y_nil))) rfl (y_recv rfl hY_this) (fun t' hd' h1 h2 => by cases h1; cases h2.symm.trans hs_hd; exact ⟨_, hL⟩) (y_sub_ef rfl) fun v Yn o Hn L ho hr ha hIn hx_ hE hP => ?_
        have hPt := hP _ _ _ _ _ _ _ _ rfl hs_hd hs_ey hs_vw hL hA_vw
        obtain rfl := hPt
        replace hs_hd := y_Efld hE hY_this rfl (by decide) (by decide) hs_hd
        replace hs_ey := y_Efld hE hY_this rfl (by decide) (by decide) hs_ey
        replace hs_vw := y_Efld hE hY_ey rfl (by decide) (by decide) hs_vw
        replace hsi_hills := y_Efld hE hY_hd rfl (by decide) (by decide) hsi_hills
        replace hs_fa := y_Efld hE hY_this rfl (by decide) (by decide) hs_fa
        replace hs_fb := y_Efld hE hY_this rfl (by decide) (by decide) hs_fb
        replace hA_vw := hA_vw.kept (y_Earr hE hY_vw rfl (by decide))
        replace hL := hL.E hY_hd hE (fun q u h => y_ext hx_ hI.1 h) (by decide +kernel)
        replace hY_this := y_ext hx_ hI.1 hY_this
        replace hY_hd := y_ext hx_ hI.1 hY_hd
        replace hY_ey := y_ext hx_ hI.1 hY_ey
        replace hY_vw := y_ext hx_ hI.1 hY_vw
        generalize hg_r91 : m_wtC f (m_VC f (f 4) (f 5) 0) w j.toInt.toNat = r91
        clear ho hr ha hE hP hI hx_
        rename x_I _ _ _ _ _ _ _ _ _ _ => hI
        refine lv_ladd hx hb liq_d94 ?_
        generalize hg_z94 : al + r91 = z94
        refine lv_lstore_n hx hb liq_d95 rfl hl (by decide) (lv' := [(3, .long z94), (5, .int j), (0, .ref this), (1, .int w), (2, .int h)]) rfl fun ls hl => ?_
        obtain ⟨z96, hg_z96⟩ : ∃ z96 : Int32, j + Int32.ofInt 1 = z96 := ⟨_, rfl⟩
        have h_z96 : z96.toInt = j.toInt + 1 := by rw [← hg_z96]; exact y_inc (by decide) (by omega) (by omega)
        refine lv_iinc hx hb liq_d96 hl (k := 1) rfl hg_z96 (by decide) (lv' := [(5, .int z96), (3, .long z94), (0, .ref this), (1, .int w), (2, .int h)]) rfl fun ls hl => ?_
        refine lv_goto hx hb liq_d99 (tgt := 61) (by decide) ?_
        have his : z96.toInt.toNat = j.toInt.toNat + 1 := by omega
        have hnj := m_nj hj.1
        exact ih _ _ _ _ _ _ hI hY_this hY_hd hY_ey hY_vw hs_hd hs_ey hs_vw hsi_hills hA_vw hL hs_fa hs_fb (lv_sub hl [0, 1, 2, 3, 4] rfl) (by first | assumption | omega) (by rw [his]; show _ = _ + (if _ then _ else _); rw [hnj]; first | (rw [m_bn (fun q => absurd (hg_r77.symm.trans q) (by assumption)), if_pos rfl, ← hal]; exact hg_z94.symm) | (rw [m_b0 (hg_r77.trans (by assumption)), if_neg (fun q9 => by cases q9), ← hal, hg_r91]; exact hg_z94.symm)) (by omega)
      · have q80_ : ¬ r77.toInt = (0 : Int32).toInt := fun q => q80 (Int32.toInt_inj.mp q)
        refine lv_lconst hx hb liq_d83 (v := 0) (by decide) ?_
        have el0 : (0 : Int64).toInt = 0 := by decide
        refine lv_goto hx hb liq_d84 (tgt := 94) (by decide) ?_
        refine lv_ladd hx hb liq_d94 ?_
        generalize hg_z94 : al + (0 : Int64) = z94
        refine lv_lstore_n hx hb liq_d95 rfl hl (by decide) (lv' := [(3, .long z94), (5, .int j), (0, .ref this), (1, .int w), (2, .int h)]) rfl fun ls hl => ?_
        obtain ⟨z96, hg_z96⟩ : ∃ z96 : Int32, j + Int32.ofInt 1 = z96 := ⟨_, rfl⟩
        have h_z96 : z96.toInt = j.toInt + 1 := by rw [← hg_z96]; exact y_inc (by decide) (by omega) (by omega)
        refine lv_iinc hx hb liq_d96 hl (k := 1) rfl hg_z96 (by decide) (lv' := [(5, .int z96), (3, .long z94), (0, .ref this), (1, .int w), (2, .int h)]) rfl fun ls hl => ?_
        refine lv_goto hx hb liq_d99 (tgt := 61) (by decide) ?_
        have his : z96.toInt.toNat = j.toInt.toNat + 1 := by omega
        have hnj := m_nj hj.1
        exact ih _ _ _ _ _ _ hI hY_this hY_hd hY_ey hY_vw hs_hd hs_ey hs_vw hsi_hills hA_vw hL hs_fa hs_fb (lv_sub hl [0, 1, 2, 3, 4] rfl) (by first | assumption | omega) (by rw [his]; show _ = _ + (if _ then _ else _); rw [hnj]; first | (rw [m_bn (fun q => absurd (hg_r77.symm.trans q) (by assumption)), if_pos rfl, ← hal]; exact hg_z94.symm) | (rw [m_b0 (hg_r77.trans (by assumption)), if_neg (fun q9 => by cases q9), ← hal, hg_r91]; exact hg_z94.symm)) (by omega)
theorem ym_Tlies : y_Met vwCl x_G x_Zs x_Tb x_Nb xM125 z_ATF z_PTlies := by
  refine y_main (by decide +kernel) (by decide +kernel) x_Tb_good x_Nb_ok ?_
  intro p l e s m below meth c D U Y0 av ls B hI hpre hl
  have X := B.1
  have hx := X.1
  have hb := X.2.1
  have hY0 := B.2.2.2.2.1
  obtain ⟨v0, v1, v2, rfl, hv0, ⟨w, rfl, -⟩, ⟨h, rfl, -⟩⟩ := y_three B.2.2.2.2.2
  obtain ⟨this, t0, rfl, ht0, hY_this⟩ := x_ref_at hv0 rfl
  obtain rfl := List.mem_singleton.mp ht0
  replace hl : lv_has ls xM125.2.2.1 [(0, .ref this), (1, .int w), (2, .int h)] := hl
  obtain ⟨f, K, tt, nn, hR0⟩ := hpre _ rfl
  obtain ⟨hd, dr, kp, tx, by_, kk, ⟨hs_hd, -⟩, ⟨hY_hd, -⟩, hL, -⟩ := id hR0
  obtain ⟨ey, hs_ey, hY_ey⟩ := y_fldR (k := 4) hI.1 hY_this rfl rfl
  obtain ⟨vw, hs_vw, hY_vw⟩ := y_fldR (k := 1) hI.1 hY_ey rfl rfl
  have hn0 := hL.1.1
  have hn1 := hL.1.2.1
  have hn2 := hL.1.2.2
  have hb0 : 0 ≤ (f 0).toInt ∧ (f 0).toInt ≤ 10 := by obtain ⟨x9, e9, b9⟩ := y_fldI (k := 0) hI.1 hY_hd rfl rfl; rw [hn0] at e9; cases e9; exact b9
  have hb1 : 0 ≤ (f 1).toInt ∧ (f 1).toInt ≤ 8 := by obtain ⟨x9, e9, b9⟩ := y_fldI (k := 6) hI.1 hY_hd rfl rfl; rw [hn1] at e9; cases e9; exact b9
  have hb2 : 0 ≤ (f 2).toInt ∧ (f 2).toInt ≤ 8 := by obtain ⟨x9, e9, b9⟩ := y_fldI (k := 12) hI.1 hY_hd rfl rfl; rw [hn2] at e9; cases e9; exact b9
  obtain ⟨fa, hs_fa⟩ := y_fldL (k := 7) hI.1 hY_this rfl rfl
  obtain ⟨fb, hs_fb⟩ := y_fldL (k := 8) hI.1 hY_this rfl rfl
  have hfa0 := hs_fa
  have hfb0 := hs_fb
  refine lv_aload_n hx hb liq_d0 rfl (lv_at hl 0 rfl) ?_
  refine y_getf X (fl8 X.2.2.2.2.1) hI.1 hY_this rfl hs_hd liq_d1 ?_
  refine lv_iload_n hx hb liq_d4 rfl (lv_at hl 1 rfl) ?_
  refine y_call (z := (0, 169, 2, some 2, xM67)) (av := [.ref hd, .int w]) (rest := []) (y_cokV (n := 1) (ci := 2) X ym_hasSet rfl rfl rfl (x_cons (x_bw42 2 rfl rfl) (x_cons (x_bw42 3 rfl rfl) (x_cons (x_bw42 4 rfl rfl) (x_cons (x_bw0 2 rfl rfl) x_nilm)))) (x_bw42 5 rfl rfl) (by decide +kernel) ⟨Nat.le_of_ble_eq_true rfl, Nat.le_of_ble_eq_true rfl⟩) hY0 hI rfl liq_d5 hl.1 (Nat.le_of_ble_eq_true rfl) (Nat.le_of_ble_eq_true rfl) (Nat.le_of_ble_eq_true rfl) (y_cons (y_cref hY_hd rfl) (y_cons ⟨_, rfl, x_i32 _⟩ y_nil)) rfl (y_recv rfl hY_hd) trivial (y_sub_ef rfl) fun v Yn o Hn L ho hr ha hIn hx_ hE hP => ?_
  have hPh := hP _ _ _ rfl hn0
  replace hs_hd := y_Efld hE hY_this rfl (by decide) (by decide) hs_hd
  replace hs_ey := y_Efld hE hY_this rfl (by decide) (by decide) hs_ey
  replace hs_vw := y_Efld hE hY_ey rfl (by decide) (by decide) hs_vw
  replace hn0 := y_Efld hE hY_hd rfl (by decide) (by decide) hn0
  replace hs_fa := y_Efld hE hY_this rfl (by decide) (by decide) hs_fa
  replace hs_fb := y_Efld hE hY_this rfl (by decide) (by decide) hs_fb
  replace hL := hL.E hY_hd hE (fun q u h => y_ext hx_ hI.1 h) (by decide +kernel)
  replace hY_this := y_ext hx_ hI.1 hY_this
  replace hY_hd := y_ext hx_ hI.1 hY_hd
  replace hY_ey := y_ext hx_ hI.1 hY_ey
  replace hY_vw := y_ext hx_ hI.1 hY_vw
  obtain ⟨r5, rfl, hin_r5, hout_r5⟩ := hPh
  clear ho hr ha hE hP hI hx_
  rename x_I _ _ _ _ _ _ _ _ _ _ => hI
  have ec0 : (0 : Int32).toInt = 0 := by decide
  refine lv_if_eq hx hb liq_d8 (tgt := 30) (by decide) (fun q8 => ?_) (fun q8 => ?_)
  · have q8_ : r5.toInt = (0 : Int32).toInt := by rw [q8]
    have hno : ¬ (m_isS f w ∧ m_isH f h ∧ m_has w h = false) := fun q9 => by first | exact hout_r5 (by assumption) q9.1 | exact hout_r16 (by assumption) q9.2.1 | (have h7 := q9.2.2; rw [m_bn (fun q => absurd (hg_r24.symm.trans q) (by assumption))] at h7; cases h7)
    refine lv_aload_n hx hb liq_d30 rfl (lv_at hl 0 rfl) ?_
    refine lv_bipush hx hb liq_d31 (v := (-2)) (by decide) ?_
    have ecm2 : ((-2) : Int32).toInt = (-2) := by decide
    refine y_call (z := (0, 59, 2, some 0, xM8)) (av := [.ref this, .int ((-2) : Int32)]) (rest := []) (y_cokV (n := 1) (ci := 11) X ym_counted rfl rfl rfl (x_cons (x_bw19 7 rfl rfl) (x_cons (x_bw19 9 rfl rfl) (x_cons (x_at 1 (by decide +kernel) rfl) (x_cons (x_bw0 1 rfl rfl) x_nilm)))) (x_bw19 10 rfl rfl) (by decide +kernel) ⟨Nat.le_of_ble_eq_true rfl, Nat.le_of_ble_eq_true rfl⟩) hY0 hI rfl liq_d33 hl.1 (Nat.le_of_ble_eq_true rfl) (Nat.le_of_ble_eq_true rfl) (Nat.le_of_ble_eq_true rfl) (y_cons (y_cref hY_this rfl) (y_cons ⟨_, rfl, x_i32 _⟩ y_nil)) rfl (y_recv rfl hY_this) trivial (y_sub_ef rfl) fun v Yn o Hn L ho hr ha hIn hx_ hE hP => ?_
    replace hs_hd := y_Efld hE hY_this rfl (by decide) (by decide) hs_hd
    replace hs_ey := y_Efld hE hY_this rfl (by decide) (by decide) hs_ey
    replace hs_vw := y_Efld hE hY_ey rfl (by decide) (by decide) hs_vw
    replace hn0 := y_Efld hE hY_hd rfl (by decide) (by decide) hn0
    replace hs_fa := y_Efld hE hY_this rfl (by decide) (by decide) hs_fa
    replace hs_fb := y_Efld hE hY_this rfl (by decide) (by decide) hs_fb
    replace hL := hL.E hY_hd hE (fun q u h => y_ext hx_ hI.1 h) (by decide +kernel)
    replace hY_this := y_ext hx_ hI.1 hY_this
    replace hY_hd := y_ext hx_ hI.1 hY_hd
    replace hY_ey := y_ext hx_ hI.1 hY_ey
    replace hY_vw := y_ext hx_ hI.1 hY_vw
    obtain rfl := hP _ _ rfl
    clear ho hr ha hE hP hI hx_
    rename x_I _ _ _ _ _ _ _ _ _ _ => hI
    exact y_ireturn B hI rfl rfl rfl List.mem_cons_self ⟨_, rfl, ⟨_, rfl, x_i32 _⟩⟩ (x_cs.mono B.2.2.2.2.2 (y_mon B hI)) (fun t' w0' w1' f' K' tt' nn' h1 h2 => by cases h1; obtain ⟨ef, -⟩ := hR0.eqs h2; subst ef; exact ⟨_, rfl, ⟨fun q9 => absurd q9 hno, fun q9 => absurd q9 hno, fun q9 => absurd q9 hno, fun _ => rfl⟩, ⟨fun _ a9 b9 h9 => by cases hfa0.symm.trans h9.1; cases hfb0.symm.trans h9.2; exact ⟨hs_fa, hs_fb⟩, fun q9 => absurd q9 (by decide)⟩⟩) (Nat.le_refl _) (Nat.le_refl _) liq_d36
  · have q8_ : ¬ r5.toInt = (0 : Int32).toInt := fun q => q8 (Int32.toInt_inj.mp q)
    refine lv_aload_n hx hb liq_d11 rfl (lv_at hl 0 rfl) ?_
    refine y_getf X (fl8 X.2.2.2.2.1) hI.1 hY_this rfl hs_hd liq_d12 ?_
    refine lv_iload_n hx hb liq_d15 rfl (lv_at hl 2 rfl) ?_
    refine y_call (z := (0, 101, 2, some 2, xM40)) (av := [.ref hd, .int h]) (rest := []) (y_cokV (n := 1) (ci := 2) X ym_hasHill rfl rfl rfl (x_cons (x_bw29 8 rfl rfl) (x_cons (x_bw29 9 rfl rfl) (x_cons (x_bw29 10 rfl rfl) (x_cons (x_bw0 2 rfl rfl) x_nilm)))) (x_bw29 11 rfl rfl) (by decide +kernel) ⟨Nat.le_of_ble_eq_true rfl, Nat.le_of_ble_eq_true rfl⟩) hY0 hI rfl liq_d16 hl.1 (Nat.le_of_ble_eq_true rfl) (Nat.le_of_ble_eq_true rfl) (Nat.le_of_ble_eq_true rfl) (y_cons (y_cref hY_hd rfl) (y_cons ⟨_, rfl, x_i32 _⟩ y_nil)) rfl (y_recv rfl hY_hd) trivial (y_sub_ef rfl) fun v Yn o Hn L ho hr ha hIn hx_ hE hP => ?_
    have hPh := hP _ _ _ rfl hn0
    replace hs_hd := y_Efld hE hY_this rfl (by decide) (by decide) hs_hd
    replace hs_ey := y_Efld hE hY_this rfl (by decide) (by decide) hs_ey
    replace hs_vw := y_Efld hE hY_ey rfl (by decide) (by decide) hs_vw
    replace hn0 := y_Efld hE hY_hd rfl (by decide) (by decide) hn0
    replace hs_fa := y_Efld hE hY_this rfl (by decide) (by decide) hs_fa
    replace hs_fb := y_Efld hE hY_this rfl (by decide) (by decide) hs_fb
    replace hL := hL.E hY_hd hE (fun q u h => y_ext hx_ hI.1 h) (by decide +kernel)
    replace hY_this := y_ext hx_ hI.1 hY_this
    replace hY_hd := y_ext hx_ hI.1 hY_hd
    replace hY_ey := y_ext hx_ hI.1 hY_ey
    replace hY_vw := y_ext hx_ hI.1 hY_vw
    obtain ⟨r16, rfl, hin_r16, hout_r16⟩ := hPh
    clear ho hr ha hE hP hI hx_
    rename x_I _ _ _ _ _ _ _ _ _ _ => hI
    refine lv_if_eq hx hb liq_d19 (tgt := 30) (by decide) (fun q19 => ?_) (fun q19 => ?_)
    · have q19_ : r16.toInt = (0 : Int32).toInt := by rw [q19]
      have hno : ¬ (m_isS f w ∧ m_isH f h ∧ m_has w h = false) := fun q9 => by first | exact hout_r5 (by assumption) q9.1 | exact hout_r16 (by assumption) q9.2.1 | (have h7 := q9.2.2; rw [m_bn (fun q => absurd (hg_r24.symm.trans q) (by assumption))] at h7; cases h7)
      refine lv_aload_n hx hb liq_d30 rfl (lv_at hl 0 rfl) ?_
      refine lv_bipush hx hb liq_d31 (v := (-2)) (by decide) ?_
      have ecm2 : ((-2) : Int32).toInt = (-2) := by decide
      refine y_call (z := (0, 59, 2, some 0, xM8)) (av := [.ref this, .int ((-2) : Int32)]) (rest := []) (y_cokV (n := 1) (ci := 11) X ym_counted rfl rfl rfl (x_cons (x_bw19 7 rfl rfl) (x_cons (x_bw19 9 rfl rfl) (x_cons (x_at 1 (by decide +kernel) rfl) (x_cons (x_bw0 1 rfl rfl) x_nilm)))) (x_bw19 10 rfl rfl) (by decide +kernel) ⟨Nat.le_of_ble_eq_true rfl, Nat.le_of_ble_eq_true rfl⟩) hY0 hI rfl liq_d33 hl.1 (Nat.le_of_ble_eq_true rfl) (Nat.le_of_ble_eq_true rfl) (Nat.le_of_ble_eq_true rfl) (y_cons (y_cref hY_this rfl) (y_cons ⟨_, rfl, x_i32 _⟩ y_nil)) rfl (y_recv rfl hY_this) trivial (y_sub_ef rfl) fun v Yn o Hn L ho hr ha hIn hx_ hE hP => ?_
      replace hs_hd := y_Efld hE hY_this rfl (by decide) (by decide) hs_hd
      replace hs_ey := y_Efld hE hY_this rfl (by decide) (by decide) hs_ey
      replace hs_vw := y_Efld hE hY_ey rfl (by decide) (by decide) hs_vw
      replace hn0 := y_Efld hE hY_hd rfl (by decide) (by decide) hn0
      replace hs_fa := y_Efld hE hY_this rfl (by decide) (by decide) hs_fa
      replace hs_fb := y_Efld hE hY_this rfl (by decide) (by decide) hs_fb
      replace hL := hL.E hY_hd hE (fun q u h => y_ext hx_ hI.1 h) (by decide +kernel)
      replace hY_this := y_ext hx_ hI.1 hY_this
      replace hY_hd := y_ext hx_ hI.1 hY_hd
      replace hY_ey := y_ext hx_ hI.1 hY_ey
      replace hY_vw := y_ext hx_ hI.1 hY_vw
      obtain rfl := hP _ _ rfl
      clear ho hr ha hE hP hI hx_
      rename x_I _ _ _ _ _ _ _ _ _ _ => hI
      exact y_ireturn B hI rfl rfl rfl List.mem_cons_self ⟨_, rfl, ⟨_, rfl, x_i32 _⟩⟩ (x_cs.mono B.2.2.2.2.2 (y_mon B hI)) (fun t' w0' w1' f' K' tt' nn' h1 h2 => by cases h1; obtain ⟨ef, -⟩ := hR0.eqs h2; subst ef; exact ⟨_, rfl, ⟨fun q9 => absurd q9 hno, fun q9 => absurd q9 hno, fun q9 => absurd q9 hno, fun _ => rfl⟩, ⟨fun _ a9 b9 h9 => by cases hfa0.symm.trans h9.1; cases hfb0.symm.trans h9.2; exact ⟨hs_fa, hs_fb⟩, fun q9 => absurd q9 (by decide)⟩⟩) (Nat.le_refl _) (Nat.le_refl _) liq_d36
    · have q19_ : ¬ r16.toInt = (0 : Int32).toInt := fun q => q19 (Int32.toInt_inj.mp q)
      refine lv_iload_n hx hb liq_d22 rfl (lv_at hl 2 rfl) ?_
      refine lv_iload_n hx hb liq_d23 rfl (lv_at hl 1 rfl) ?_
      refine y_call (z := (1, 276, 2, none, xM70)) (av := [.int h, .int w]) (rest := []) (y_cokS (n := 2) X ym_isIn (x_cons (x_bw56 8 rfl rfl) (x_cons (x_bw42 15 rfl rfl) (x_cons (x_bw0 1 rfl rfl) x_nilm))) (x_bw43 0 rfl rfl) (by decide +kernel) ⟨Nat.le_of_ble_eq_true rfl, Nat.le_of_ble_eq_true rfl⟩) hY0 hI rfl liq_d24 hl.1 (Nat.le_of_ble_eq_true rfl) (Nat.le_of_ble_eq_true rfl) (Nat.le_of_ble_eq_true rfl) (y_cons ⟨_, rfl, x_i32 _⟩ (y_cons ⟨_, rfl, x_i32 _⟩ y_nil)) rfl (y_norecv rfl) trivial (y_sub_ef rfl) fun v Yn o Hn L ho hr ha hIn hx_ hE hP => ?_
      have hPm := hP _ _ rfl
      obtain rfl := hPm
      replace hs_hd := y_Efld hE hY_this rfl (by decide) (by decide) hs_hd
      replace hs_ey := y_Efld hE hY_this rfl (by decide) (by decide) hs_ey
      replace hs_vw := y_Efld hE hY_ey rfl (by decide) (by decide) hs_vw
      replace hn0 := y_Efld hE hY_hd rfl (by decide) (by decide) hn0
      replace hs_fa := y_Efld hE hY_this rfl (by decide) (by decide) hs_fa
      replace hs_fb := y_Efld hE hY_this rfl (by decide) (by decide) hs_fb
      replace hL := hL.E hY_hd hE (fun q u h => y_ext hx_ hI.1 h) (by decide +kernel)
      replace hY_this := y_ext hx_ hI.1 hY_this
      replace hY_hd := y_ext hx_ hI.1 hY_hd
      replace hY_ey := y_ext hx_ hI.1 hY_ey
      replace hY_vw := y_ext hx_ hI.1 hY_vw
      generalize hg_r24 : m_b (m_has w h) = r24
      clear ho hr ha hE hP hI hx_
      rename x_I _ _ _ _ _ _ _ _ _ _ => hI
      refine lv_if_eq hx hb liq_d27 (tgt := 37) (by decide) (fun q27 => ?_) (fun q27 => ?_)
      · have q27_ : r24.toInt = (0 : Int32).toInt := by rw [q27]
        have hok : m_isS f w ∧ m_isH f h ∧ m_has w h = false := ⟨hin_r5 (by assumption), hin_r16 (by assumption), m_b0 (hg_r24.trans (by assumption))⟩
        refine lv_aload_n hx hb liq_d37 rfl (lv_at hl 0 rfl) ?_
        refine y_call (z := (0, 104, 1, some 0, xM52)) (av := [.ref this]) (rest := []) (y_cokV (n := 0) (ci := 11) X ym_lookNow rfl rfl rfl (x_cons (x_bw29 12 rfl rfl) (x_cons (x_bw29 14 rfl rfl) (x_cons (x_at 3 (by decide +kernel) rfl) (x_cons (x_bw0 1 rfl rfl) x_nilm)))) (x_bw29 15 rfl rfl) (by decide +kernel) ⟨Nat.le_of_ble_eq_true rfl, Nat.le_of_ble_eq_true rfl⟩) hY0 hI rfl liq_d38 hl.1 (Nat.le_of_ble_eq_true rfl) (Nat.le_of_ble_eq_true rfl) (Nat.le_of_ble_eq_true rfl) (y_cons (y_cref hY_this rfl) y_nil) rfl (y_recv rfl hY_this) (fun t' hd' h1 h2 => by cases h1; cases h2.symm.trans hs_hd; exact ⟨_, hL⟩) (y_sub_ef rfl) fun v Yn o Hn L ho hr ha hIn hx_ hE hP => ?_
        have hPk := hP _ _ _ _ _ rfl hs_hd hs_ey hs_vw hL
        replace hs_hd := y_Efld hE hY_this rfl (by decide) (by decide) hs_hd
        replace hs_ey := y_Efld hE hY_this rfl (by decide) (by decide) hs_ey
        replace hs_vw := y_Efld hE hY_ey rfl (by decide) (by decide) hs_vw
        replace hn0 := y_Efld hE hY_hd rfl (by decide) (by decide) hn0
        replace hs_fa := y_Efld hE hY_this rfl (by decide) (by decide) hs_fa
        replace hs_fb := y_Efld hE hY_this rfl (by decide) (by decide) hs_fb
        replace hL := hL.E hY_hd hE (fun q u h => y_ext hx_ hI.1 h) (by decide +kernel)
        replace hY_this := y_ext hx_ hI.1 hY_this
        replace hY_hd := y_ext hx_ hI.1 hY_hd
        replace hY_ey := y_ext hx_ hI.1 hY_ey
        replace hY_vw := y_ext hx_ hI.1 hY_vw
        obtain rfl := y_ansV rfl ho hr
        have hA_vw := hPk
        clear ho hr ha hE hP hI hx_
        rename x_I _ _ _ _ _ _ _ _ _ _ => hI
        refine lv_aload_n hx hb liq_d41 rfl (lv_at hl 0 rfl) ?_
        refine lv_iload_n hx hb liq_d42 rfl (lv_at hl 1 rfl) ?_
        refine y_call (z := (0, 224, 2, some 0, xM92)) (av := [.ref this, .int w]) (rest := []) (y_cokV (n := 1) (ci := 11) X ym_isLawNow rfl rfl rfl (x_cons (x_bw49 1 rfl rfl) (x_cons (x_bw49 3 rfl rfl) (x_cons (x_at 17 (by decide +kernel) rfl) (x_cons (x_bw0 1 rfl rfl) x_nilm)))) (x_bw49 4 rfl rfl) (by decide +kernel) ⟨Nat.le_of_ble_eq_true rfl, Nat.le_of_ble_eq_true rfl⟩) hY0 hI rfl liq_d43 hl.1 (Nat.le_of_ble_eq_true rfl) (Nat.le_of_ble_eq_true rfl) (Nat.le_of_ble_eq_true rfl) (y_cons (y_cref hY_this rfl) (y_cons ⟨_, rfl, x_i32 _⟩ y_nil)) rfl (y_recv rfl hY_this) trivial (y_sub_ef rfl) fun v Yn o Hn L ho hr ha hIn hx_ hE hP => ?_
        have hPl := hP _ _ _ _ _ rfl hs_ey hs_vw hA_vw
        obtain rfl := hPl
        replace hs_hd := y_Efld hE hY_this rfl (by decide) (by decide) hs_hd
        replace hs_ey := y_Efld hE hY_this rfl (by decide) (by decide) hs_ey
        replace hs_vw := y_Efld hE hY_ey rfl (by decide) (by decide) hs_vw
        replace hn0 := y_Efld hE hY_hd rfl (by decide) (by decide) hn0
        replace hs_fa := y_Efld hE hY_this rfl (by decide) (by decide) hs_fa
        replace hs_fb := y_Efld hE hY_this rfl (by decide) (by decide) hs_fb
        replace hA_vw := hA_vw.kept (y_Earr hE hY_vw rfl (by decide))
        replace hL := hL.E hY_hd hE (fun q u h => y_ext hx_ hI.1 h) (by decide +kernel)
        replace hY_this := y_ext hx_ hI.1 hY_this
        replace hY_hd := y_ext hx_ hI.1 hY_hd
        replace hY_ey := y_ext hx_ hI.1 hY_ey
        replace hY_vw := y_ext hx_ hI.1 hY_vw
        generalize hg_r43 : m_b (!(m_any (m_wr (m_VC f (f 4) (f 5) 0) w) 10)) = r43
        clear ho hr ha hE hP hI hx_
        rename x_I _ _ _ _ _ _ _ _ _ _ => hI
        refine lv_if_ne hx hb liq_d46 (tgt := 56) (by decide) (fun q46 => ?_) (fun q46 => ?_)
        · have q46_ : ¬ r43.toInt = (0 : Int32).toInt := fun q => q46 (Int32.toInt_inj.mp q)
          have hlw : m_lwC f w = true := m_bn (fun q => absurd (hg_r43.symm.trans q) (by assumption))
          refine lv_lconst hx hb liq_d56 (v := 0) (by decide) ?_
          have el0 : (0 : Int64).toInt = 0 := by decide
          refine lv_lstore_n hx hb liq_d57 rfl hl (by decide) (lv' := [(3, .long (0 : Int64)), (0, .ref this), (1, .int w), (2, .int h)]) rfl fun ls hl => ?_
          refine lv_iconst hx hb liq_d58 (v := 0) (by decide) ?_
          refine lv_istore hx hb liq_d59 hl (by decide) (lv' := [(5, .int (0 : Int32)), (3, .long (0 : Int64)), (0, .ref this), (1, .int w), (2, .int h)]) rfl fun ls hl => ?_
          have hsi_hills := hn0
          exact liq_L61 B rfl hR0 hb0 hfa0 hfb0 hok hlw 12 _ _ _ _ _ _ hI hY_this hY_hd hY_ey hY_vw hs_hd hs_ey hs_vw hsi_hills hA_vw hL hs_fa hs_fb (lv_sub hl [0, 1, 2, 3, 4] rfl) (by first | assumption | omega) rfl (by omega)
        · have q46_ : r43.toInt = (0 : Int32).toInt := by rw [q46]
          have hlw : m_lwC f w = false := m_b0 (hg_r43.trans (by assumption))
          refine lv_aload_n hx hb liq_d49 rfl (lv_at hl 0 rfl) ?_
          refine lv_bipush hx hb liq_d50 (v := (-3)) (by decide) ?_
          have ecm3 : ((-3) : Int32).toInt = (-3) := by decide
          refine y_call (z := (0, 59, 2, some 0, xM8)) (av := [.ref this, .int ((-3) : Int32)]) (rest := []) (y_cokV (n := 1) (ci := 11) X ym_counted rfl rfl rfl (x_cons (x_bw19 7 rfl rfl) (x_cons (x_bw19 9 rfl rfl) (x_cons (x_at 1 (by decide +kernel) rfl) (x_cons (x_bw0 1 rfl rfl) x_nilm)))) (x_bw19 10 rfl rfl) (by decide +kernel) ⟨Nat.le_of_ble_eq_true rfl, Nat.le_of_ble_eq_true rfl⟩) hY0 hI rfl liq_d52 hl.1 (Nat.le_of_ble_eq_true rfl) (Nat.le_of_ble_eq_true rfl) (Nat.le_of_ble_eq_true rfl) (y_cons (y_cref hY_this rfl) (y_cons ⟨_, rfl, x_i32 _⟩ y_nil)) rfl (y_recv rfl hY_this) trivial (y_sub_ef rfl) fun v Yn o Hn L ho hr ha hIn hx_ hE hP => ?_
          replace hs_hd := y_Efld hE hY_this rfl (by decide) (by decide) hs_hd
          replace hs_ey := y_Efld hE hY_this rfl (by decide) (by decide) hs_ey
          replace hs_vw := y_Efld hE hY_ey rfl (by decide) (by decide) hs_vw
          replace hn0 := y_Efld hE hY_hd rfl (by decide) (by decide) hn0
          replace hs_fa := y_Efld hE hY_this rfl (by decide) (by decide) hs_fa
          replace hs_fb := y_Efld hE hY_this rfl (by decide) (by decide) hs_fb
          replace hA_vw := hA_vw.kept (y_Earr hE hY_vw rfl (by decide))
          replace hL := hL.E hY_hd hE (fun q u h => y_ext hx_ hI.1 h) (by decide +kernel)
          replace hY_this := y_ext hx_ hI.1 hY_this
          replace hY_hd := y_ext hx_ hI.1 hY_hd
          replace hY_ey := y_ext hx_ hI.1 hY_ey
          replace hY_vw := y_ext hx_ hI.1 hY_vw
          obtain rfl := hP _ _ rfl
          clear ho hr ha hE hP hI hx_
          rename x_I _ _ _ _ _ _ _ _ _ _ => hI
          exact y_ireturn B hI rfl rfl rfl List.mem_cons_self ⟨_, rfl, ⟨_, rfl, x_i32 _⟩⟩ (x_cs.mono B.2.2.2.2.2 (y_mon B hI)) (fun t' w0' w1' f' K' tt' nn' h1 h2 => by cases h1; obtain ⟨ef, -⟩ := hR0.eqs h2; subst ef; exact ⟨_, rfl, ⟨fun _ q9 => (by rw [hlw] at q9; cases q9), fun _ _ _ => rfl, fun _ _ => rfl, fun q9 => absurd hok q9⟩, ⟨fun _ a9 b9 h9 => by cases hfa0.symm.trans h9.1; cases hfb0.symm.trans h9.2; exact ⟨hs_fa, hs_fb⟩, fun q9 => absurd q9 (by decide)⟩⟩) (Nat.le_refl _) (Nat.le_refl _) liq_d55
      · have q27_ : ¬ r24.toInt = (0 : Int32).toInt := fun q => q27 (Int32.toInt_inj.mp q)
        have hno : ¬ (m_isS f w ∧ m_isH f h ∧ m_has w h = false) := fun q9 => by first | exact hout_r5 (by assumption) q9.1 | exact hout_r16 (by assumption) q9.2.1 | (have h7 := q9.2.2; rw [m_bn (fun q => absurd (hg_r24.symm.trans q) (by assumption))] at h7; cases h7)
        refine lv_aload_n hx hb liq_d30 rfl (lv_at hl 0 rfl) ?_
        refine lv_bipush hx hb liq_d31 (v := (-2)) (by decide) ?_
        have ecm2 : ((-2) : Int32).toInt = (-2) := by decide
        refine y_call (z := (0, 59, 2, some 0, xM8)) (av := [.ref this, .int ((-2) : Int32)]) (rest := []) (y_cokV (n := 1) (ci := 11) X ym_counted rfl rfl rfl (x_cons (x_bw19 7 rfl rfl) (x_cons (x_bw19 9 rfl rfl) (x_cons (x_at 1 (by decide +kernel) rfl) (x_cons (x_bw0 1 rfl rfl) x_nilm)))) (x_bw19 10 rfl rfl) (by decide +kernel) ⟨Nat.le_of_ble_eq_true rfl, Nat.le_of_ble_eq_true rfl⟩) hY0 hI rfl liq_d33 hl.1 (Nat.le_of_ble_eq_true rfl) (Nat.le_of_ble_eq_true rfl) (Nat.le_of_ble_eq_true rfl) (y_cons (y_cref hY_this rfl) (y_cons ⟨_, rfl, x_i32 _⟩ y_nil)) rfl (y_recv rfl hY_this) trivial (y_sub_ef rfl) fun v Yn o Hn L ho hr ha hIn hx_ hE hP => ?_
        replace hs_hd := y_Efld hE hY_this rfl (by decide) (by decide) hs_hd
        replace hs_ey := y_Efld hE hY_this rfl (by decide) (by decide) hs_ey
        replace hs_vw := y_Efld hE hY_ey rfl (by decide) (by decide) hs_vw
        replace hn0 := y_Efld hE hY_hd rfl (by decide) (by decide) hn0
        replace hs_fa := y_Efld hE hY_this rfl (by decide) (by decide) hs_fa
        replace hs_fb := y_Efld hE hY_this rfl (by decide) (by decide) hs_fb
        replace hL := hL.E hY_hd hE (fun q u h => y_ext hx_ hI.1 h) (by decide +kernel)
        replace hY_this := y_ext hx_ hI.1 hY_this
        replace hY_hd := y_ext hx_ hI.1 hY_hd
        replace hY_ey := y_ext hx_ hI.1 hY_ey
        replace hY_vw := y_ext hx_ hI.1 hY_vw
        obtain rfl := hP _ _ rfl
        clear ho hr ha hE hP hI hx_
        rename x_I _ _ _ _ _ _ _ _ _ _ => hI
        exact y_ireturn B hI rfl rfl rfl List.mem_cons_self ⟨_, rfl, ⟨_, rfl, x_i32 _⟩⟩ (x_cs.mono B.2.2.2.2.2 (y_mon B hI)) (fun t' w0' w1' f' K' tt' nn' h1 h2 => by cases h1; obtain ⟨ef, -⟩ := hR0.eqs h2; subst ef; exact ⟨_, rfl, ⟨fun q9 => absurd q9 hno, fun q9 => absurd q9 hno, fun q9 => absurd q9 hno, fun _ => rfl⟩, ⟨fun _ a9 b9 h9 => by cases hfa0.symm.trans h9.1; cases hfb0.symm.trans h9.2; exact ⟨hs_fa, hs_fb⟩, fun q9 => absurd q9 (by decide)⟩⟩) (Nat.le_refl _) (Nat.le_refl _) liq_d36

