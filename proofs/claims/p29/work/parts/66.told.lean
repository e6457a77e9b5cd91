theorem y_div {x y : Int32} (hx : 0 ≤ x.toInt) (hy : 0 < y.toInt) : (x / y).toInt = x.toInt / y.toInt := by
  have r := x_rng x
  have r2 := x_rng y
  have ex : x = nI x.toInt.toNat := by
    apply Int32.toInt_inj.mp
    rw [nI_toInt (by omega)]; omega
  have ey : y = nI y.toInt.toNat := by
    apply Int32.toInt_inj.mp
    rw [nI_toInt (by omega)]; omega
  have e1 : x / y = nI (x.toInt.toNat / y.toInt.toNat) := by
    conv => lhs; rw [ex, ey]
    rw [pk_div (by omega) (by omega) (by omega)]
  have e3 := Nat.div_le_self x.toInt.toNat y.toInt.toNat
  rw [e1, nI_toInt (by omega), Int.natCast_ediv, Int.toNat_of_nonneg hx, Int.toNat_of_nonneg (Int.le_of_lt hy)]
theorem y_rem {x y : Int32} (hx : 0 ≤ x.toInt) (hy : 0 < y.toInt) : (x - x / y * y).toInt = x.toInt % y.toInt := by
  have r := x_rng x
  have r2 := x_rng y
  have ex : x = nI x.toInt.toNat := by
    apply Int32.toInt_inj.mp
    rw [nI_toInt (by omega)]; omega
  have ey : y = nI y.toInt.toNat := by
    apply Int32.toInt_inj.mp
    rw [nI_toInt (by omega)]; omega
  have e1 : x - x / y * y = nI (x.toInt.toNat % y.toInt.toNat) := by
    conv => lhs; rw [ex, ey]
    rw [pk_rem (by omega) (by omega) (by omega)]
  have e3 := Nat.mod_le x.toInt.toNat y.toInt.toNat
  rw [e1, nI_toInt (by omega), Int.natCast_emod, Int.toNat_of_nonneg hx, Int.toNat_of_nonneg (Int.le_of_lt hy)]
theorem z_hillR {Y : xY} {o : List xV × Option xV} {v : Option Value} {a1 a0 : xV} {lo hi : Int} {t : Value} {x : Int32} (ho : o ∈ [([a0, xF], some (xI 0 0)), ([a1, xI lo hi], some (xI 1 1))]) (hr : x_ret Y o.2 v) (ha : x_cs Y o.1 [t, .int x]) : ∃ r : Int32, v = some (.int r) ∧ (¬ r = 0 → lo ≤ x.toInt ∧ x.toInt ≤ hi) := by
  rcases List.mem_cons.mp ho with e0 | ho
  · subst e0
    obtain ⟨w, e1, y, e2, h1, h2⟩ := hr
    have h1 : (0 : Int) ≤ y.toInt := h1
    have h2 : y.toInt ≤ 0 := h2
    have z0 : (0 : Int32).toInt = 0 := by decide
    exact ⟨y, by rw [e1, e2], fun q => absurd (Int32.toInt_inj.mp (by omega)) q⟩
  · obtain rfl := List.mem_singleton.mp ho
    obtain ⟨w, e1, y, e2, h1, h2⟩ := hr
    obtain ⟨z, e3, h3⟩ := ha.2 1 (xI lo hi) (.int x) rfl rfl
    cases e3
    exact ⟨y, by rw [e1, e2], fun _ => h3⟩
def z_K (N : Nat) (ff qq : Nat → Int32) (tail : Int) : Prop :=
  1 ≤ tail ∧ tail ≤ (z_cnt ff N : Int) ∧ (∀ j : Nat, (j : Int) < tail → 0 ≤ (qq j).toInt ∧ (qq j).toInt < N ∧ 0 ≤ (ff (qq j).toInt.toNat).toInt ∧ (ff (qq j).toInt.toNat).toInt ≤ j)
theorem z_K.room {N : Nat} {ff qq : Nat → Int32} {tail : Int} (h : z_K N ff qq tail) {to : Int32} (h0 : 0 ≤ to.toInt) (h1 : to.toInt < N) (hm : (ff to.toInt.toNat).toInt = -1) : tail < N := by
  have h2 := h.2.1
  have := z_cnt_lt hm N (by omega)
  omega
theorem z_K.push {N : Nat} {ff qq : Nat → Int32} {tail : Int} (h : z_K N ff qq tail) {to v : Int32} (h0 : 0 ≤ to.toInt) (h1 : to.toInt < N) (hm : (ff to.toInt.toNat).toInt = -1) {hd : Nat} (hh : (hd : Int) < tail) (hv : v.toInt = (ff (qq hd).toInt.toNat).toInt + 1) : z_K N (y_up ff to.toInt.toNat v) (y_up qq tail.toNat to) (tail + 1) := by
  obtain ⟨a1, a2, a4⟩ := h
  have hq := a4 hd hh
  have hv1 : ¬ v.toInt = -1 := by omega
  have hne : ∀ s : Int32, 0 ≤ s.toInt → 0 ≤ (ff s.toInt.toNat).toInt → s.toInt.toNat ≠ to.toInt.toNat := fun s _ hs e0 => by rw [e0, hm] at hs; omega
  refine ⟨by omega, ?_, fun j hj => ?_⟩
  · rw [z_cnt_up hm hv1 N (by omega)]
    omega
  · by_cases ej : j = tail.toNat
    · subst ej
      rw [y_up_at, y_up_at]
      exact ⟨h0, by omega, by omega, by omega⟩
    · rw [y_up_ne ej]
      have hj4 := a4 j (by omega)
      rw [y_up_ne (hne _ hj4.1 hj4.2.2.1)]
      exact hj4
theorem z_K.start {N : Nat} {ff qq : Nat → Int32} {fr z : Int32} (h0 : 0 ≤ fr.toInt) (h1 : fr.toInt < N) (hz : z.toInt = 0) : z_K N (y_up ff fr.toInt.toNat z) (y_up qq 0 fr) 1 := by
  refine ⟨by omega, ?_, fun j hj => ?_⟩
  · have := z_cnt_pos (f := y_up ff fr.toInt.toNat z) (j := fr.toInt.toNat) (by rw [y_up_at]; omega) N (by omega)
    omega
  · have e0 : j = 0 := by omega
    subst e0
    rw [y_up_at, y_up_at]
    exact ⟨h0, h1, by omega, by omega⟩
def xMti : xM := (⟨"TwinFiresModel", "toldIn", "(II)I"⟩, prog_14_method_66_code, 12, some .int, [xR false [17], xF, xF], [([xR false [17], xF, xF], some (xF))], [(50, 0), (51, 0), (55, 0), (62, 0), (63, 0)], (6, 148, 0, 0), none)
