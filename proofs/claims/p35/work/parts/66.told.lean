theorem fl_ti_209 {s : State} {args : Array Value} (hts : ∀ w ∈ x_Tb, w.before args s = true) : x_fok vwCl x_G x_Tb s args "TwinFiresModel" (59, 17, 25) := ⟨12, _, RX12, TX12, "TwinFiresModel", rfl, rfl, Nat.le_of_ble_eq_true rfl, iX12, (hts _ (x_bw63 12 rfl rfl)), fun x h => h⟩
theorem fl_ti_210 {s : State} {args : Array Value} (hts : ∀ w ∈ x_Tb, w.before args s = true) : x_fok vwCl x_G x_Tb s args "TwinFiresModel" (62, 17, 26) := ⟨12, _, RX12, TX12, "TwinFiresModel", rfl, rfl, Nat.le_of_ble_eq_true rfl, iX12, (hts _ (x_bw63 13 rfl rfl)), fun x h => h⟩
theorem y_div {x y : Int32} (hx : 0 ≤ x.toInt) (hy : 0 < y.toInt) : (x / y).toInt = x.toInt / y.toInt := by
  have r := x_rng x
  have r2 := x_rng y
  have ex : x = nI x.toInt.toNat := by
    apply Int32.toInt_inj.mp
    rw [nI_toInt (by omega)]; omega
  have ey : y = nI y.toInt.toNat := by
    apply Int32.toInt_inj.mp
    rw [nI_toInt (by omega)]; omega
  have e1 : x / y = nI (x.toInt.toNat / y.toInt.toNat) := by
    conv => lhs; rw [ex, ey]
    rw [pk_div (by omega) (by omega) (by omega)]
  have e3 := Nat.div_le_self x.toInt.toNat y.toInt.toNat
  rw [e1, nI_toInt (by omega), Int.natCast_ediv, Int.toNat_of_nonneg hx, Int.toNat_of_nonneg (Int.le_of_lt hy)]
theorem y_rem {x y : Int32} (hx : 0 ≤ x.toInt) (hy : 0 < y.toInt) : (x - x / y * y).toInt = x.toInt % y.toInt := by
  have r := x_rng x
  have r2 := x_rng y
  have ex : x = nI x.toInt.toNat := by
    apply Int32.toInt_inj.mp
    rw [nI_toInt (by omega)]; omega
  have ey : y = nI y.toInt.toNat := by
    apply Int32.toInt_inj.mp
    rw [nI_toInt (by omega)]; omega
  have e1 : x - x / y * y = nI (x.toInt.toNat % y.toInt.toNat) := by
    conv => lhs; rw [ex, ey]
    rw [pk_rem (by omega) (by omega) (by omega)]
  have e3 := Nat.mod_le x.toInt.toNat y.toInt.toNat
  rw [e1, nI_toInt (by omega), Int.natCast_emod, Int.toNat_of_nonneg hx, Int.toNat_of_nonneg (Int.le_of_lt hy)]
theorem z_hillR {Y : xY} {o : List xV × Option xV} {v : Option Value} {a1 a0 : xV} {lo hi : Int} {t : Value} {x : Int32} (ho : o ∈ [([a0, xF], some (xI 0 0)), ([a1, xI lo hi], some (xI 1 1))]) (hr : x_ret Y o.2 v) (ha : x_cs Y o.1 [t, .int x]) : ∃ r : Int32, v = some (.int r) ∧ (¬ r = 0 → lo ≤ x.toInt ∧ x.toInt ≤ hi) := by
  rcases List.mem_cons.mp ho with e0 | ho
  · subst e0
    obtain ⟨w, e1, y, e2, h1, h2⟩ := hr
    have h1 : (0 : Int) ≤ y.toInt := h1
    have h2 : y.toInt ≤ 0 := h2
    have z0 : (0 : Int32).toInt = 0 := by decide
    exact ⟨y, by rw [e1, e2], fun q => absurd (Int32.toInt_inj.mp (by omega)) q⟩
  · obtain rfl := List.mem_singleton.mp ho
    obtain ⟨w, e1, y, e2, h1, h2⟩ := hr
    obtain ⟨z, e3, h3⟩ := ha.2 1 (xI lo hi) (.int x) rfl rfl
    cases e3
    exact ⟨y, by rw [e1, e2], fun _ => h3⟩
def z_K (N : Nat) (ff qq : Nat → Int32) (tail : Int) : Prop :=
  1 ≤ tail ∧ tail ≤ (z_cnt ff N : Int) ∧ (∀ j : Nat, (j : Int) < tail → 0 ≤ (qq j).toInt ∧ (qq j).toInt < N ∧ 0 ≤ (ff (qq j).toInt.toNat).toInt ∧ (ff (qq j).toInt.toNat).toInt ≤ j)
theorem z_K.room {N : Nat} {ff qq : Nat → Int32} {tail : Int} (h : z_K N ff qq tail) {to : Int32} (h0 : 0 ≤ to.toInt) (h1 : to.toInt < N) (hm : (ff to.toInt.toNat).toInt = -1) : tail < N := by
  have h2 := h.2.1
  have := z_cnt_lt hm N (by omega)
  omega
theorem z_K.push {N : Nat} {ff qq : Nat → Int32} {tail : Int} (h : z_K N ff qq tail) {to v : Int32} (h0 : 0 ≤ to.toInt) (h1 : to.toInt < N) (hm : (ff to.toInt.toNat).toInt = -1) {hd : Nat} (hh : (hd : Int) < tail) (hv : v.toInt = (ff (qq hd).toInt.toNat).toInt + 1) : z_K N (y_up ff to.toInt.toNat v) (y_up qq tail.toNat to) (tail + 1) := by
  obtain ⟨a1, a2, a4⟩ := h
  have hq := a4 hd hh
  have hv1 : ¬ v.toInt = -1 := by omega
  have hne : ∀ s : Int32, 0 ≤ s.toInt → 0 ≤ (ff s.toInt.toNat).toInt → s.toInt.toNat ≠ to.toInt.toNat := fun s _ hs e0 => by rw [e0, hm] at hs; omega
  refine ⟨by omega, ?_, fun j hj => ?_⟩
  · rw [z_cnt_up hm hv1 N (by omega)]
    omega
  · by_cases ej : j = tail.toNat
    · subst ej
      rw [y_up_at, y_up_at]
      exact ⟨h0, by omega, by omega, by omega⟩
    · rw [y_up_ne ej]
      have hj4 := a4 j (by omega)
      rw [y_up_ne (hne _ hj4.1 hj4.2.2.1)]
      exact hj4
theorem z_K.start {N : Nat} {ff qq : Nat → Int32} {fr z : Int32} (h0 : 0 ≤ fr.toInt) (h1 : fr.toInt < N) (hz : z.toInt = 0) : z_K N (y_up ff fr.toInt.toNat z) (y_up qq 0 fr) 1 := by
  refine ⟨by omega, ?_, fun j hj => ?_⟩
  · have := z_cnt_pos (f := y_up ff fr.toInt.toNat z) (j := fr.toInt.toNat) (by rw [y_up_at]; omega) N (by omega)
    omega
  · have e0 : j = 0 := by omega
    subst e0
    rw [y_up_at, y_up_at]
    exact ⟨h0, h1, by omega, by omega⟩
def xMti : xM := (⟨"TwinFiresModel", "toldIn", "(II)I"⟩, prog_14_method_66_code, 12, some .int, [xR false [17], xF, xF], [([xR false [17], xF, xF], some (xF))], [(50, 0), (51, 0), (55, 0), (62, 0), (63, 0)], (6, 148, 0, 0), none)
theorem ti_d0 : decode xMti.2.1 0 = .ok (.aload_n 0, 1) := dz_ok (by decide +kernel)
theorem ti_d1 : decode xMti.2.1 1 = .ok (.iload_n 1, 1) := dz_ok (by decide +kernel)
theorem ti_d2 : decode xMti.2.1 2 = .ok (.invokevirtual 237, 3) := dz_ok (by decide +kernel)
theorem ti_d5 : decode xMti.2.1 5 = .ok (.ifCond .eq 11, 3) := dz_ok (by decide +kernel)
theorem ti_d8 : decode xMti.2.1 8 = .ok (.aload_n 0, 1) := dz_ok (by decide +kernel)
theorem ti_d9 : decode xMti.2.1 9 = .ok (.iload_n 2, 1) := dz_ok (by decide +kernel)
theorem ti_d10 : decode xMti.2.1 10 = .ok (.invokevirtual 151, 3) := dz_ok (by decide +kernel)
theorem ti_d13 : decode xMti.2.1 13 = .ok (.ifCond .ne 11, 3) := dz_ok (by decide +kernel)
theorem ti_d16 : decode xMti.2.1 16 = .ok (.aload_n 0, 1) := dz_ok (by decide +kernel)
theorem ti_d17 : decode xMti.2.1 17 = .ok (.iconst 0, 1) := dz_ok (by decide +kernel)
theorem ti_d18 : decode xMti.2.1 18 = .ok (.bipush (-10), 2) := dz_ok (by decide +kernel)
theorem ti_d20 : decode xMti.2.1 20 = .ok (.invokevirtual 76, 3) := dz_ok (by decide +kernel)
theorem ti_d23 : decode xMti.2.1 23 = .ok (.ireturn, 1) := dz_ok (by decide +kernel)
theorem ti_d24 : decode xMti.2.1 24 = .ok (.aload_n 0, 1) := dz_ok (by decide +kernel)
theorem ti_d25 : decode xMti.2.1 25 = .ok (.invokevirtual 260, 3) := dz_ok (by decide +kernel)
theorem ti_d28 : decode xMti.2.1 28 = .ok (.aload_n 0, 1) := dz_ok (by decide +kernel)
theorem ti_d29 : decode xMti.2.1 29 = .ok (.getfield 38, 3) := dz_ok (by decide +kernel)
theorem ti_d32 : decode xMti.2.1 32 = .ok (.iload_n 1, 1) := dz_ok (by decide +kernel)
theorem ti_d33 : decode xMti.2.1 33 = .ok (.baload, 1) := dz_ok (by decide +kernel)
theorem ti_d34 : decode xMti.2.1 34 = .ok (.ifCond .ne 11, 3) := dz_ok (by decide +kernel)
theorem ti_d37 : decode xMti.2.1 37 = .ok (.aload_n 0, 1) := dz_ok (by decide +kernel)
theorem ti_d38 : decode xMti.2.1 38 = .ok (.iconst 1, 1) := dz_ok (by decide +kernel)
theorem ti_d39 : decode xMti.2.1 39 = .ok (.bipush (-20), 2) := dz_ok (by decide +kernel)
theorem ti_d41 : decode xMti.2.1 41 = .ok (.invokevirtual 76, 3) := dz_ok (by decide +kernel)
theorem ti_d44 : decode xMti.2.1 44 = .ok (.ireturn, 1) := dz_ok (by decide +kernel)
theorem ti_d45 : decode xMti.2.1 45 = .ok (.iconst 0, 1) := dz_ok (by decide +kernel)
theorem ti_d46 : decode xMti.2.1 46 = .ok (.istore_n 3, 1) := dz_ok (by decide +kernel)
theorem ti_d47 : decode xMti.2.1 47 = .ok (.iload_n 3, 1) := dz_ok (by decide +kernel)
theorem ti_d48 : decode xMti.2.1 48 = .ok (.sipush 9216, 3) := dz_ok (by decide +kernel)
theorem ti_d51 : decode xMti.2.1 51 = .ok (.if_icmp .ge 16, 3) := dz_ok (by decide +kernel)
theorem ti_d54 : decode xMti.2.1 54 = .ok (.aload_n 0, 1) := dz_ok (by decide +kernel)
theorem ti_d55 : decode xMti.2.1 55 = .ok (.getfield 59, 3) := dz_ok (by decide +kernel)
theorem ti_d58 : decode xMti.2.1 58 = .ok (.iload_n 3, 1) := dz_ok (by decide +kernel)
theorem ti_d59 : decode xMti.2.1 59 = .ok (.iconst (-1), 1) := dz_ok (by decide +kernel)
theorem ti_d60 : decode xMti.2.1 60 = .ok (.iastore, 1) := dz_ok (by decide +kernel)
theorem ti_d61 : decode xMti.2.1 61 = .ok (.iinc 3 1, 3) := dz_ok (by decide +kernel)
theorem ti_d64 : decode xMti.2.1 64 = .ok (.goto (-17), 3) := dz_ok (by decide +kernel)
theorem ti_d67 : decode xMti.2.1 67 = .ok (.aload_n 0, 1) := dz_ok (by decide +kernel)
theorem ti_d68 : decode xMti.2.1 68 = .ok (.getfield 7, 3) := dz_ok (by decide +kernel)
theorem ti_d71 : decode xMti.2.1 71 = .ok (.iconst 2, 1) := dz_ok (by decide +kernel)
theorem ti_d72 : decode xMti.2.1 72 = .ok (.iaload, 1) := dz_ok (by decide +kernel)
theorem ti_d73 : decode xMti.2.1 73 = .ok (.istore_n 3, 1) := dz_ok (by decide +kernel)
theorem ti_d74 : decode xMti.2.1 74 = .ok (.sipush 1024, 3) := dz_ok (by decide +kernel)
theorem ti_d77 : decode xMti.2.1 77 = .ok (.aload_n 0, 1) := dz_ok (by decide +kernel)
theorem ti_d78 : decode xMti.2.1 78 = .ok (.iload_n 1, 1) := dz_ok (by decide +kernel)
theorem ti_d79 : decode xMti.2.1 79 = .ok (.iload_n 2, 1) := dz_ok (by decide +kernel)
theorem ti_d80 : decode xMti.2.1 80 = .ok (.iconst 0, 1) := dz_ok (by decide +kernel)
theorem ti_d81 : decode xMti.2.1 81 = .ok (.invokevirtual 272, 3) := dz_ok (by decide +kernel)
theorem ti_d84 : decode xMti.2.1 84 = .ok (.imul, 1) := dz_ok (by decide +kernel)
theorem ti_d85 : decode xMti.2.1 85 = .ok (.iload_n 1, 1) := dz_ok (by decide +kernel)
theorem ti_d86 : decode xMti.2.1 86 = .ok (.iadd, 1) := dz_ok (by decide +kernel)
theorem ti_d87 : decode xMti.2.1 87 = .ok (.istore 4, 2) := dz_ok (by decide +kernel)
theorem ti_d89 : decode xMti.2.1 89 = .ok (.aload_n 0, 1) := dz_ok (by decide +kernel)
theorem ti_d90 : decode xMti.2.1 90 = .ok (.getfield 59, 3) := dz_ok (by decide +kernel)
theorem ti_d93 : decode xMti.2.1 93 = .ok (.iload 4, 2) := dz_ok (by decide +kernel)
theorem ti_d95 : decode xMti.2.1 95 = .ok (.iconst 0, 1) := dz_ok (by decide +kernel)
theorem ti_d96 : decode xMti.2.1 96 = .ok (.iastore, 1) := dz_ok (by decide +kernel)
theorem ti_d97 : decode xMti.2.1 97 = .ok (.aload_n 0, 1) := dz_ok (by decide +kernel)
theorem ti_d98 : decode xMti.2.1 98 = .ok (.getfield 62, 3) := dz_ok (by decide +kernel)
theorem ti_d101 : decode xMti.2.1 101 = .ok (.iconst 0, 1) := dz_ok (by decide +kernel)
theorem ti_d102 : decode xMti.2.1 102 = .ok (.iload 4, 2) := dz_ok (by decide +kernel)
theorem ti_d104 : decode xMti.2.1 104 = .ok (.iastore, 1) := dz_ok (by decide +kernel)
theorem ti_d105 : decode xMti.2.1 105 = .ok (.iconst 0, 1) := dz_ok (by decide +kernel)
theorem ti_d106 : decode xMti.2.1 106 = .ok (.istore 5, 2) := dz_ok (by decide +kernel)
theorem ti_d108 : decode xMti.2.1 108 = .ok (.iconst 1, 1) := dz_ok (by decide +kernel)
theorem ti_d109 : decode xMti.2.1 109 = .ok (.istore 6, 2) := dz_ok (by decide +kernel)
theorem ti_d111 : decode xMti.2.1 111 = .ok (.iload 5, 2) := dz_ok (by decide +kernel)
theorem ti_d113 : decode xMti.2.1 113 = .ok (.iload 6, 2) := dz_ok (by decide +kernel)
theorem ti_d115 : decode xMti.2.1 115 = .ok (.if_icmp .ge 150, 3) := dz_ok (by decide +kernel)
theorem ti_d118 : decode xMti.2.1 118 = .ok (.aload_n 0, 1) := dz_ok (by decide +kernel)
theorem ti_d119 : decode xMti.2.1 119 = .ok (.getfield 62, 3) := dz_ok (by decide +kernel)
theorem ti_d122 : decode xMti.2.1 122 = .ok (.iload 5, 2) := dz_ok (by decide +kernel)
theorem ti_d124 : decode xMti.2.1 124 = .ok (.iaload, 1) := dz_ok (by decide +kernel)
theorem ti_d125 : decode xMti.2.1 125 = .ok (.istore 7, 2) := dz_ok (by decide +kernel)
theorem ti_d127 : decode xMti.2.1 127 = .ok (.iinc 5 1, 3) := dz_ok (by decide +kernel)
theorem ti_d130 : decode xMti.2.1 130 = .ok (.iload 7, 2) := dz_ok (by decide +kernel)
theorem ti_d132 : decode xMti.2.1 132 = .ok (.sipush 1024, 3) := dz_ok (by decide +kernel)
theorem ti_d135 : decode xMti.2.1 135 = .ok (.idiv, 1) := dz_ok (by decide +kernel)
theorem ti_d136 : decode xMti.2.1 136 = .ok (.istore 8, 2) := dz_ok (by decide +kernel)
theorem ti_d138 : decode xMti.2.1 138 = .ok (.iload 7, 2) := dz_ok (by decide +kernel)
theorem ti_d140 : decode xMti.2.1 140 = .ok (.sipush 1024, 3) := dz_ok (by decide +kernel)
theorem ti_d143 : decode xMti.2.1 143 = .ok (.irem, 1) := dz_ok (by decide +kernel)
theorem ti_d144 : decode xMti.2.1 144 = .ok (.istore 9, 2) := dz_ok (by decide +kernel)
theorem ti_d146 : decode xMti.2.1 146 = .ok (.iload 8, 2) := dz_ok (by decide +kernel)
theorem ti_d148 : decode xMti.2.1 148 = .ok (.iload_n 3, 1) := dz_ok (by decide +kernel)
theorem ti_d149 : decode xMti.2.1 149 = .ok (.if_icmp .ne 11, 3) := dz_ok (by decide +kernel)
theorem ti_d152 : decode xMti.2.1 152 = .ok (.aload_n 0, 1) := dz_ok (by decide +kernel)
theorem ti_d153 : decode xMti.2.1 153 = .ok (.getfield 59, 3) := dz_ok (by decide +kernel)
theorem ti_d156 : decode xMti.2.1 156 = .ok (.iload 7, 2) := dz_ok (by decide +kernel)
theorem ti_d158 : decode xMti.2.1 158 = .ok (.iaload, 1) := dz_ok (by decide +kernel)
theorem ti_d159 : decode xMti.2.1 159 = .ok (.ireturn, 1) := dz_ok (by decide +kernel)
theorem ti_d160 : decode xMti.2.1 160 = .ok (.iconst 0, 1) := dz_ok (by decide +kernel)
theorem ti_d161 : decode xMti.2.1 161 = .ok (.istore 10, 2) := dz_ok (by decide +kernel)
theorem ti_d163 : decode xMti.2.1 163 = .ok (.iload 10, 2) := dz_ok (by decide +kernel)
theorem ti_d165 : decode xMti.2.1 165 = .ok (.aload_n 0, 1) := dz_ok (by decide +kernel)
theorem ti_d166 : decode xMti.2.1 166 = .ok (.invokevirtual 91, 3) := dz_ok (by decide +kernel)
theorem ti_d169 : decode xMti.2.1 169 = .ok (.if_icmp .gt 93, 3) := dz_ok (by decide +kernel)
theorem ti_d172 : decode xMti.2.1 172 = .ok (.aload_n 0, 1) := dz_ok (by decide +kernel)
theorem ti_d173 : decode xMti.2.1 173 = .ok (.getfield 38, 3) := dz_ok (by decide +kernel)
theorem ti_d176 : decode xMti.2.1 176 = .ok (.iload 10, 2) := dz_ok (by decide +kernel)
theorem ti_d178 : decode xMti.2.1 178 = .ok (.baload, 1) := dz_ok (by decide +kernel)
theorem ti_d179 : decode xMti.2.1 179 = .ok (.ifCond .eq 77, 3) := dz_ok (by decide +kernel)
theorem ti_d182 : decode xMti.2.1 182 = .ok (.iload 10, 2) := dz_ok (by decide +kernel)
theorem ti_d184 : decode xMti.2.1 184 = .ok (.iload 9, 2) := dz_ok (by decide +kernel)
theorem ti_d186 : decode xMti.2.1 186 = .ok (.if_icmp .eq 13, 3) := dz_ok (by decide +kernel)
theorem ti_d189 : decode xMti.2.1 189 = .ok (.iload 9, 2) := dz_ok (by decide +kernel)
theorem ti_d191 : decode xMti.2.1 191 = .ok (.iload 10, 2) := dz_ok (by decide +kernel)
theorem ti_d193 : decode xMti.2.1 193 = .ok (.invokestatic 257, 3) := dz_ok (by decide +kernel)
theorem ti_d196 : decode xMti.2.1 196 = .ok (.ifCond .eq 60, 3) := dz_ok (by decide +kernel)
theorem ti_d199 : decode xMti.2.1 199 = .ok (.sipush 1024, 3) := dz_ok (by decide +kernel)
theorem ti_d202 : decode xMti.2.1 202 = .ok (.aload_n 0, 1) := dz_ok (by decide +kernel)
theorem ti_d203 : decode xMti.2.1 203 = .ok (.iload 10, 2) := dz_ok (by decide +kernel)
theorem ti_d205 : decode xMti.2.1 205 = .ok (.iload_n 2, 1) := dz_ok (by decide +kernel)
theorem ti_d206 : decode xMti.2.1 206 = .ok (.iload 8, 2) := dz_ok (by decide +kernel)
theorem ti_d208 : decode xMti.2.1 208 = .ok (.invokevirtual 272, 3) := dz_ok (by decide +kernel)
theorem ti_d211 : decode xMti.2.1 211 = .ok (.imul, 1) := dz_ok (by decide +kernel)
theorem ti_d212 : decode xMti.2.1 212 = .ok (.iload 10, 2) := dz_ok (by decide +kernel)
theorem ti_d214 : decode xMti.2.1 214 = .ok (.iadd, 1) := dz_ok (by decide +kernel)
theorem ti_d215 : decode xMti.2.1 215 = .ok (.istore 11, 2) := dz_ok (by decide +kernel)
theorem ti_d217 : decode xMti.2.1 217 = .ok (.aload_n 0, 1) := dz_ok (by decide +kernel)
theorem ti_d218 : decode xMti.2.1 218 = .ok (.getfield 59, 3) := dz_ok (by decide +kernel)
theorem ti_d221 : decode xMti.2.1 221 = .ok (.iload 11, 2) := dz_ok (by decide +kernel)
theorem ti_d223 : decode xMti.2.1 223 = .ok (.iaload, 1) := dz_ok (by decide +kernel)
theorem ti_d224 : decode xMti.2.1 224 = .ok (.iconst (-1), 1) := dz_ok (by decide +kernel)
theorem ti_d225 : decode xMti.2.1 225 = .ok (.if_icmp .ne 31, 3) := dz_ok (by decide +kernel)
theorem ti_d228 : decode xMti.2.1 228 = .ok (.aload_n 0, 1) := dz_ok (by decide +kernel)
theorem ti_d229 : decode xMti.2.1 229 = .ok (.getfield 59, 3) := dz_ok (by decide +kernel)
theorem ti_d232 : decode xMti.2.1 232 = .ok (.iload 11, 2) := dz_ok (by decide +kernel)
theorem ti_d234 : decode xMti.2.1 234 = .ok (.aload_n 0, 1) := dz_ok (by decide +kernel)
theorem ti_d235 : decode xMti.2.1 235 = .ok (.getfield 59, 3) := dz_ok (by decide +kernel)
theorem ti_d238 : decode xMti.2.1 238 = .ok (.iload 7, 2) := dz_ok (by decide +kernel)
theorem ti_d240 : decode xMti.2.1 240 = .ok (.iaload, 1) := dz_ok (by decide +kernel)
theorem ti_d241 : decode xMti.2.1 241 = .ok (.iconst 1, 1) := dz_ok (by decide +kernel)
theorem ti_d242 : decode xMti.2.1 242 = .ok (.iadd, 1) := dz_ok (by decide +kernel)
theorem ti_d243 : decode xMti.2.1 243 = .ok (.iastore, 1) := dz_ok (by decide +kernel)
theorem ti_d244 : decode xMti.2.1 244 = .ok (.aload_n 0, 1) := dz_ok (by decide +kernel)
theorem ti_d245 : decode xMti.2.1 245 = .ok (.getfield 62, 3) := dz_ok (by decide +kernel)
theorem ti_d248 : decode xMti.2.1 248 = .ok (.iload 6, 2) := dz_ok (by decide +kernel)
theorem ti_d250 : decode xMti.2.1 250 = .ok (.iload 11, 2) := dz_ok (by decide +kernel)
theorem ti_d252 : decode xMti.2.1 252 = .ok (.iastore, 1) := dz_ok (by decide +kernel)
theorem ti_d253 : decode xMti.2.1 253 = .ok (.iinc 6 1, 3) := dz_ok (by decide +kernel)
theorem ti_d256 : decode xMti.2.1 256 = .ok (.iinc 10 1, 3) := dz_ok (by decide +kernel)
theorem ti_d259 : decode xMti.2.1 259 = .ok (.goto (-96), 3) := dz_ok (by decide +kernel)
theorem ti_d262 : decode xMti.2.1 262 = .ok (.goto (-151), 3) := dz_ok (by decide +kernel)
theorem ti_d265 : decode xMti.2.1 265 = .ok (.iconst (-1), 1) := dz_ok (by decide +kernel)
theorem ti_d266 : decode xMti.2.1 266 = .ok (.ireturn, 1) := dz_ok (by decide +kernel)
theorem ti_in {p : Program} {l : Launch} {e : Env} {s : State} {m : MethodId} {below : List Frame} {meth : Method} {c : Code} {D : va_G} {U : State} {Y0 : xY} {av : List Value} (B : y_B vwCl x_Tb x_Nb xMti p s m meth c D U Y0 av) {this rd wt lw bk : Nat} {fm town many first : Int32} {gl fb : Nat → Int32} (hN : 0 ≤ (z_all (fb 0)).toInt ∧ (z_all (fb 0)).toInt ≤ 1023) (htown : 0 ≤ town.toInt ∧ town.toInt ≤ 9) (hB_lw : ∀ j, j < 1024 → (0 : Int) ≤ (gl j).toInt ∧ (gl j).toInt ≤ 1) {set index state head : Int32} {hd : Nat} (hix : 0 ≤ index.toInt ∧ index.toInt ≤ 8) (hstate : 0 ≤ state.toInt ∧ state.toInt ≤ 9215)
    (out : ∀ (H : Heap) (Y : xY) (locs : List Loc) (ls : Array Slot) (tail : Int32) (ff qq : Nat → Int32), x_I D x_G x_Zs U (x_efs xMti) Y0 s.heap Y H locs → Y this = some 17 → Y rd = some 62 → Y wt = some 63 → Y lw = some 55 → Y bk = some 46 → x_sl D 12 25 this H = some (.ref rd) → x_sl D 12 26 this H = some (.ref wt) → x_sl D 12 18 this H = some (.ref lw) → x_sl D 12 0 this H = some (.ref bk) → y_A rd 9216 H ff → y_A wt 9216 H qq → y_A lw 1024 H gl → y_A bk 160 H fb → lv_has ls xMti.2.2.1 [(6, .int tail), (5, .int head), (4, .int first), (3, .int many), (0, .ref this), (1, .int fm), (2, .int town)] → (∀ j, j < 9216 → (0 : Int) ≤ (qq j).toInt ∧ (qq j).toInt ≤ 9215) → z_K 9216 ff qq tail.toInt → W p l e (x_rm xMti) s m av.toArray below meth c H locs 0 0 (y_QQ below D x_G x_Zs U xMti y_TP av Y0 s) (F0 m 111 ls [])) :
    ∀ (n : Nat) (H : Heap) (Y : xY) (locs : List Loc) (ls : Array Slot) (tail to : Int32) (ff qq : Nat → Int32), x_I D x_G x_Zs U (x_efs xMti) Y0 s.heap Y H locs → Y this = some 17 → Y rd = some 62 → Y wt = some 63 → Y lw = some 55 → Y bk = some 46 → x_sl D 12 25 this H = some (.ref rd) → x_sl D 12 26 this H = some (.ref wt) → x_sl D 12 18 this H = some (.ref lw) → x_sl D 12 0 this H = some (.ref bk) → y_A rd 9216 H ff → y_A wt 9216 H qq → y_A lw 1024 H gl → y_A bk 160 H fb → lv_has ls xMti.2.2.1 [(10, .int to), (9, .int set), (8, .int index), (7, .int state), (5, .int head), (6, .int tail), (4, .int first), (3, .int many), (0, .ref this), (1, .int fm), (2, .int town)] → (∀ j, j < 9216 → (0 : Int) ≤ (qq j).toInt ∧ (qq j).toInt ≤ 9215) → z_K 9216 ff qq tail.toInt → state = qq hd → (hd : Int) < tail.toInt → 0 ≤ to.toInt → to.toInt ≤ 1024 → (1024 - to.toInt).toNat < n → W p l e (x_rm xMti) s m av.toArray below meth c H locs 0 0 (y_QQ below D x_G x_Zs U xMti y_TP av Y0 s) (F0 m 163 ls []) := by
  have X := B.1
  have hx := X.1
  have hb := X.2.1
  have hY0 := B.2.2.2.2.1
  intro n
  induction n with
  | zero => intro H Y locs ls tail to ff qq _ _ _ _ _ _ _ _ _ _ _ _ _ _ _ _ _ _ _ _ _ h; exact absurd h (Nat.not_lt_zero _)
  | succ n ih =>
    intro H Y locs ls tail to ff qq hI hY_this hY_rd hY_wt hY_lw hY_bk hs_rd hs_wt hs_laws hs_book hA_rd hA_wt hA_lw hA_bk hl hB_wt hK hst hhd h_to0 h_to1 hn
    have hB_rd := ()
    have hB_bk := ()
    have hK1 := hK.1
    have hK2 : tail.toInt ≤ 9216 := Int.le_trans hK.2.1 (Int.ofNat_le.mpr (z_cnt_le ff 9216))
    refine lv_iload hx hb ti_d163 (lv_at hl 0 rfl) ?_
    refine lv_aload_n hx hb ti_d165 rfl (lv_at hl 8 rfl) ?_
    refine y_call (z := (0, 91, 1, some 17, xM182)) (av := [.ref this]) (rest := [.int to]) (y_cokV (n := 0) (ci := 12) X ym_all rfl rfl rfl (x_cons (x_bw77 4 rfl rfl) (x_cons (x_bw77 6 rfl rfl) (x_cons (x_at 49 (by decide +kernel) rfl) (x_cons (x_bw0 9 rfl rfl) x_nilm)))) (x_bw77 7 rfl rfl) (by decide +kernel) ⟨Nat.le_of_ble_eq_true rfl, Nat.le_of_ble_eq_true rfl⟩) hY0 hI rfl ti_d166 hl.1 (Nat.le_of_ble_eq_true rfl) (Nat.le_of_ble_eq_true rfl) (Nat.le_of_ble_eq_true rfl) (y_cons (y_cref hY_this rfl) y_nil) rfl (y_recv rfl hY_this) trivial (y_sub_ef rfl) fun v Yn o Hn L ho hr ha hIn hx_ hE hP => ?_
    have hPv := hP _ _ _ rfl hs_book (hA_bk 0 (by decide))
    replace hs_rd := y_Efld hE hY_this rfl (by decide) (by decide) hs_rd
    replace hs_wt := y_Efld hE hY_this rfl (by decide) (by decide) hs_wt
    replace hs_laws := y_Efld hE hY_this rfl (by decide) (by decide) hs_laws
    replace hs_book := y_Efld hE hY_this rfl (by decide) (by decide) hs_book
    replace hA_rd := hA_rd.kept (y_Earr hE hY_rd rfl (by decide))
    replace hA_wt := hA_wt.kept (y_Earr hE hY_wt rfl (by decide))
    replace hA_lw := hA_lw.kept (y_Earr hE hY_lw rfl (by decide))
    replace hA_bk := hA_bk.kept (y_Earr hE hY_bk rfl (by decide))
    replace hY_this := y_ext hx_ hI.1 hY_this
    replace hY_rd := y_ext hx_ hI.1 hY_rd
    replace hY_wt := y_ext hx_ hI.1 hY_wt
    replace hY_lw := y_ext hx_ hI.1 hY_lw
    replace hY_bk := y_ext hx_ hI.1 hY_bk
    obtain rfl := hPv
    clear ho hr ha hE hP hI hx_
    rename x_I _ _ _ _ _ _ _ _ _ _ => hI
    refine lv_icmp_gt hx hb ti_d169 (tgt := 262) (by decide) (fun q169 => ?_) (fun q169 => ?_)
    · have q169_ : (z_all (fb 0)).toInt < to.toInt := x_lt32.mp q169
      refine lv_goto hx hb ti_d262 (tgt := 111) (by decide) ?_
      exact out _ _ _ _ _ _ _ hI hY_this hY_rd hY_wt hY_lw hY_bk hs_rd hs_wt hs_laws hs_book hA_rd hA_wt hA_lw hA_bk (lv_sub hl [5, 4, 6, 7, 8, 9, 10] rfl) hB_wt hK
    · have q169_ : to.toInt ≤ (z_all (fb 0)).toInt := Int.not_lt.mp fun q => q169 (x_lt32.mpr q)
      refine lv_aload_n hx hb ti_d172 rfl (lv_at hl 8 rfl) ?_
      refine y_getf X (fl200 X.2.2.2.2.1) hI.1 hY_this rfl hs_laws ti_d173 ?_
      refine lv_iload hx hb ti_d176 (lv_at hl 0 rfl) ?_
      refine y_zald X hI.1 hY_lw rfl hA_lw (by omega) (by show _ < (1024 : Int); omega) ti_d178 ?_
      obtain ⟨e178, hg_e178⟩ : ∃ e178 : Int32, gl to.toInt.toNat = e178 := ⟨_, rfl⟩
      rw [hg_e178]
      have h_e178 : (0 : Int) ≤ e178.toInt ∧ e178.toInt ≤ 1 := by rw [← hg_e178]; exact hB_lw _ (by omega)
      have ec0 : (0 : Int32).toInt = 0 := by decide
      refine lv_if_eq hx hb ti_d179 (tgt := 256) (by decide) (fun q179 => ?_) (fun q179 => ?_)
      · have q179_ : e178.toInt = (0 : Int32).toInt := by rw [q179]
        obtain ⟨z256, hg_z256⟩ : ∃ z256 : Int32, to + Int32.ofInt 1 = z256 := ⟨_, rfl⟩
        have h_z256 : z256.toInt = to.toInt + 1 := by rw [← hg_z256]; exact y_inc (by decide) (by omega) (by omega)
        refine lv_iinc hx hb ti_d256 hl (k := 0) rfl hg_z256 (by decide) (lv' := [(10, .int z256), (9, .int set), (8, .int index), (7, .int state), (5, .int head), (6, .int tail), (4, .int first), (3, .int many), (0, .ref this), (1, .int fm), (2, .int town)]) rfl fun ls hl => ?_
        refine lv_goto hx hb ti_d259 (tgt := 163) (by decide) ?_
        exact ih _ _ _ _ _ _ _ _ hI hY_this hY_rd hY_wt hY_lw hY_bk hs_rd hs_wt hs_laws hs_book hA_rd hA_wt hA_lw hA_bk (lv_sub hl [0, 1, 2, 3, 4, 5, 6, 7, 8, 9, 10] rfl) hB_wt hK hst hhd (by omega) (by omega) (by omega)
      · have q179_ : ¬ e178.toInt = (0 : Int32).toInt := fun q => q179 (Int32.toInt_inj.mp q)
        refine lv_iload hx hb ti_d182 (lv_at hl 0 rfl) ?_
        refine lv_iload hx hb ti_d184 (lv_at hl 1 rfl) ?_
        refine lv_icmp_eq hx hb ti_d186 (tgt := 199) (by decide) (fun q186 => ?_) (fun q186 => ?_)
        · have q186_ : to.toInt = set.toInt := by rw [q186]
          refine lv_sipush hx hb ti_d199 (v := 1024) (by decide) ?_
          have ec1024 : (1024 : Int32).toInt = 1024 := by decide
          refine lv_aload_n hx hb ti_d202 rfl (lv_at hl 8 rfl) ?_
          refine lv_iload hx hb ti_d203 (lv_at hl 0 rfl) ?_
          refine lv_iload_n hx hb ti_d205 rfl (lv_at hl 10 rfl) ?_
          refine lv_iload hx hb ti_d206 (lv_at hl 2 rfl) ?_
          refine y_call (z := (0, 272, 4, some 17, xM211)) (av := [.ref this, .int to, .int town, .int index]) (rest := [.int (1024 : Int32)]) (y_cok.of (x_cokV (n := 3) (ci := 12) X xm211 rfl rfl rfl (x_cons (x_bw84 1 rfl rfl) (x_cons (x_bw84 3 rfl rfl) (x_cons (x_at 58 (by decide +kernel) rfl) (x_cons (x_bw0 9 rfl rfl) x_nilm)))) (x_bw84 4 rfl rfl) (by decide +kernel) ⟨Nat.le_of_ble_eq_true rfl, Nat.le_of_ble_eq_true rfl⟩)) hY0 hI rfl ti_d208 hl.1 (Nat.le_of_ble_eq_true rfl) (Nat.le_of_ble_eq_true rfl) (Nat.le_of_ble_eq_true rfl) (y_cons (y_cref hY_this rfl) (y_cons ⟨_, rfl, x_i32 _⟩ (y_cons ⟨_, rfl, by show (0 : Int) ≤ _; omega, by show _ ≤ (9 : Int); omega⟩ (y_cons ⟨_, rfl, by show (0 : Int) ≤ _; omega, by show _ ≤ (8 : Int); omega⟩ y_nil)))) rfl (y_recv rfl hY_this) trivial (y_sub_ef rfl) fun v Yn o Hn L ho hr ha hIn hx_ hE hP => ?_
          replace hs_rd := y_Efld hE hY_this rfl (by decide) (by decide) hs_rd
          replace hs_wt := y_Efld hE hY_this rfl (by decide) (by decide) hs_wt
          replace hs_laws := y_Efld hE hY_this rfl (by decide) (by decide) hs_laws
          replace hs_book := y_Efld hE hY_this rfl (by decide) (by decide) hs_book
          replace hA_rd := hA_rd.kept (y_Earr hE hY_rd rfl (by decide))
          replace hA_wt := hA_wt.kept (y_Earr hE hY_wt rfl (by decide))
          replace hA_lw := hA_lw.kept (y_Earr hE hY_lw rfl (by decide))
          replace hA_bk := hA_bk.kept (y_Earr hE hY_bk rfl (by decide))
          replace hY_this := y_ext hx_ hI.1 hY_this
          replace hY_rd := y_ext hx_ hI.1 hY_rd
          replace hY_wt := y_ext hx_ hI.1 hY_wt
          replace hY_lw := y_ext hx_ hI.1 hY_lw
          replace hY_bk := y_ext hx_ hI.1 hY_bk
          obtain ⟨r208, rfl, h_r208⟩ := y_ansI (lo := 0) (hi := 8) (by decide) ho hr
          clear ho hr ha hE hP hI hx_
          rename x_I _ _ _ _ _ _ _ _ _ _ => hI
          refine lv_imul hx hb ti_d211 ?_
          generalize hg_z211 : (1024 : Int32) * r208 = z211
          have h_z211 : z211.toInt = 1024 * r208.toInt := by rw [← hg_z211]; have := y_mul (x := (1024 : Int32)) (y := r208) (by rw [ec1024]; omega) (by rw [ec1024]; omega); rw [ec1024] at this; exact this
          refine lv_iload hx hb ti_d212 (lv_at hl 0 rfl) ?_
          refine lv_iadd hx hb ti_d214 ?_
          generalize hg_z214 : z211 + to = z214
          have h_z214 : z214.toInt = z211.toInt + to.toInt := by rw [← hg_z214]; have := y_add (x := z211) (y := to) (by omega) (by omega); exact this
          refine lv_istore hx hb ti_d215 hl (by decide) (lv' := [(11, .int z214), (10, .int to), (9, .int set), (8, .int index), (7, .int state), (5, .int head), (6, .int tail), (4, .int first), (3, .int many), (0, .ref this), (1, .int fm), (2, .int town)]) rfl fun ls hl => ?_
          refine lv_aload_n hx hb ti_d217 rfl (lv_at hl 9 rfl) ?_
          refine y_getf X (fl_ti_209 X.2.2.2.2.1) hI.1 hY_this rfl hs_rd ti_d218 ?_
          refine lv_iload hx hb ti_d221 (lv_at hl 0 rfl) ?_
          refine y_iald X hI.1 hY_rd rfl hA_rd (by omega) (by show _ < (9216 : Int); omega) ti_d223 ?_
          obtain ⟨e223, hg_e223⟩ : ∃ e223 : Int32, ff z214.toInt.toNat = e223 := ⟨_, rfl⟩
          rw [hg_e223]
          refine lv_iconst hx hb ti_d224 (v := (-1)) (by decide) ?_
          have ecm1 : ((-1) : Int32).toInt = (-1) := by decide
          refine lv_icmp_ne hx hb ti_d225 (tgt := 256) (by decide) (fun q225 => ?_) (fun q225 => ?_)
          · have q225_ : ¬ e223.toInt = ((-1) : Int32).toInt := fun q => q225 (Int32.toInt_inj.mp q)
            obtain ⟨z256, hg_z256⟩ : ∃ z256 : Int32, to + Int32.ofInt 1 = z256 := ⟨_, rfl⟩
            have h_z256 : z256.toInt = to.toInt + 1 := by rw [← hg_z256]; exact y_inc (by decide) (by omega) (by omega)
            refine lv_iinc hx hb ti_d256 hl (k := 1) rfl hg_z256 (by decide) (lv' := [(10, .int z256), (11, .int z214), (9, .int set), (8, .int index), (7, .int state), (5, .int head), (6, .int tail), (4, .int first), (3, .int many), (0, .ref this), (1, .int fm), (2, .int town)]) rfl fun ls hl => ?_
            refine lv_goto hx hb ti_d259 (tgt := 163) (by decide) ?_
            exact ih _ _ _ _ _ _ _ _ hI hY_this hY_rd hY_wt hY_lw hY_bk hs_rd hs_wt hs_laws hs_book hA_rd hA_wt hA_lw hA_bk (lv_sub hl [0, 2, 3, 4, 5, 6, 7, 8, 9, 10, 11] rfl) hB_wt hK hst hhd (by omega) (by omega) (by omega)
          · have q225_ : e223.toInt = ((-1) : Int32).toInt := by rw [q225]
            have hm : (ff z214.toInt.toNat).toInt = -1 := by rw [hg_e223]; omega
            have hroom := hK.room (to := z214) (by omega) (by omega) hm
            refine lv_aload_n hx hb ti_d228 rfl (lv_at hl 9 rfl) ?_
            refine y_getf X (fl_ti_209 X.2.2.2.2.1) hI.1 hY_this rfl hs_rd ti_d229 ?_
            refine lv_iload hx hb ti_d232 (lv_at hl 0 rfl) ?_
            refine lv_aload_n hx hb ti_d234 rfl (lv_at hl 9 rfl) ?_
            refine y_getf X (fl_ti_209 X.2.2.2.2.1) hI.1 hY_this rfl hs_rd ti_d235 ?_
            refine lv_iload hx hb ti_d238 (lv_at hl 4 rfl) ?_
            refine y_iald X hI.1 hY_rd rfl hA_rd (by omega) (by show _ < (9216 : Int); omega) ti_d240 ?_
            obtain ⟨e240, hg_e240⟩ : ∃ e240 : Int32, ff state.toInt.toNat = e240 := ⟨_, rfl⟩
            rw [hg_e240]
            have hq := hK.2.2 hd hhd
            rw [← hst, hg_e240] at hq
            refine lv_iconst hx hb ti_d241 (v := 1) (by decide) ?_
            have ec1 : (1 : Int32).toInt = 1 := by decide
            refine lv_iadd hx hb ti_d242 ?_
            generalize hg_z242 : e240 + (1 : Int32) = z242
            have h_z242 : z242.toInt = e240.toInt + 1 := by rw [← hg_z242]; have := y_add (x := e240) (y := (1 : Int32)) (by rw [ec1]; omega) (by rw [ec1]; omega); rw [ec1] at this; exact this
            refine y_iast X hY0 hI hY_rd rfl hA_rd (by omega) (by show _ < (9216 : Int); omega) ⟨_, rfl, x_i32 _⟩ (by decide +kernel) ti_d243 fun H locs hI h_new ho => ?_
            replace hA_rd := h_new
            generalize hf_f243 : y_up ff z214.toInt.toNat z242 = f243 at hA_rd
            replace hs_rd := y_slk hs_rd (ho _ (y_ne hY_this hY_rd rfl))
            replace hs_wt := y_slk hs_wt (ho _ (y_ne hY_this hY_rd rfl))
            replace hs_laws := y_slk hs_laws (ho _ (y_ne hY_this hY_rd rfl))
            replace hs_book := y_slk hs_book (ho _ (y_ne hY_this hY_rd rfl))
            replace hA_wt := hA_wt.kept (ho _ (y_ne hY_wt hY_rd rfl))
            replace hA_lw := hA_lw.kept (ho _ (y_ne hY_lw hY_rd rfl))
            replace hA_bk := hA_bk.kept (ho _ (y_ne hY_bk hY_rd rfl))
            refine lv_aload_n hx hb ti_d244 rfl (lv_at hl 9 rfl) ?_
            refine y_getf X (fl_ti_210 X.2.2.2.2.1) hI.1 hY_this rfl hs_wt ti_d245 ?_
            refine lv_iload hx hb ti_d248 (lv_at hl 6 rfl) ?_
            refine lv_iload hx hb ti_d250 (lv_at hl 0 rfl) ?_
            refine y_iast X hY0 hI hY_wt rfl hA_wt (by omega) (by show _ < (9216 : Int); omega) ⟨_, rfl, by show (0 : Int) ≤ _; omega, by show _ ≤ (9215 : Int); omega⟩ (by decide +kernel) ti_d252 fun H locs hI h_new ho => ?_
            replace hA_wt := h_new
            replace hB_wt := y_upb (i := tail.toInt.toNat) (v := z214) hB_wt (by constructor <;> omega)
            generalize hf_f252 : y_up qq tail.toInt.toNat z214 = f252 at hA_wt hB_wt
            replace hs_rd := y_slk hs_rd (ho _ (y_ne hY_this hY_wt rfl))
            replace hs_wt := y_slk hs_wt (ho _ (y_ne hY_this hY_wt rfl))
            replace hs_laws := y_slk hs_laws (ho _ (y_ne hY_this hY_wt rfl))
            replace hs_book := y_slk hs_book (ho _ (y_ne hY_this hY_wt rfl))
            replace hA_rd := hA_rd.kept (ho _ (y_ne hY_rd hY_wt rfl))
            replace hA_lw := hA_lw.kept (ho _ (y_ne hY_lw hY_wt rfl))
            replace hA_bk := hA_bk.kept (ho _ (y_ne hY_bk hY_wt rfl))
            obtain ⟨z253, hg_z253⟩ : ∃ z253 : Int32, tail + Int32.ofInt 1 = z253 := ⟨_, rfl⟩
            have h_z253 : z253.toInt = tail.toInt + 1 := by rw [← hg_z253]; exact y_inc (by decide) (by omega) (by omega)
            refine lv_iinc hx hb ti_d253 hl (k := 6) rfl hg_z253 (by decide) (lv' := [(6, .int z253), (11, .int z214), (10, .int to), (9, .int set), (8, .int index), (7, .int state), (5, .int head), (4, .int first), (3, .int many), (0, .ref this), (1, .int fm), (2, .int town)]) rfl fun ls hl => ?_
            obtain ⟨z256, hg_z256⟩ : ∃ z256 : Int32, to + Int32.ofInt 1 = z256 := ⟨_, rfl⟩
            have h_z256 : z256.toInt = to.toInt + 1 := by rw [← hg_z256]; exact y_inc (by decide) (by omega) (by omega)
            refine lv_iinc hx hb ti_d256 hl (k := 2) rfl hg_z256 (by decide) (lv' := [(10, .int z256), (6, .int z253), (11, .int z214), (9, .int set), (8, .int index), (7, .int state), (5, .int head), (4, .int first), (3, .int many), (0, .ref this), (1, .int fm), (2, .int town)]) rfl fun ls hl => ?_
            refine lv_goto hx hb ti_d259 (tgt := 163) (by decide) ?_
            have hKn := hK.push (to := z214) (by omega) (by omega) hm hhd (v := z242) (by rw [← hst, hg_e240]; omega)
            rw [hf_f243, hf_f252] at hKn
            have hst2 : state = f252 hd := by rw [← hf_f252, y_up_ne (by omega)]; exact hst
            exact ih _ _ _ _ _ _ _ _ hI hY_this hY_rd hY_wt hY_lw hY_bk hs_rd hs_wt hs_laws hs_book hA_rd hA_wt hA_lw hA_bk (lv_sub hl [0, 3, 4, 5, 6, 1, 7, 8, 9, 10, 11] rfl) hB_wt (by rw [show z253.toInt = tail.toInt + 1 by omega]; exact hKn) hst2 (by omega) (by omega) (by omega) (by omega)
        · have q186_ : ¬ to.toInt = set.toInt := fun q => q186 (Int32.toInt_inj.mp q)
          refine lv_iload hx hb ti_d189 (lv_at hl 1 rfl) ?_
          refine lv_iload hx hb ti_d191 (lv_at hl 0 rfl) ?_
          refine y_call (z := (1, 257, 2, none, xM205)) (av := [.int set, .int to]) (rest := []) (y_cokS (n := 2) X ym_isStep (x_cons (x_bw82 1 rfl rfl) (x_cons (x_bw82 2 rfl rfl) (x_cons (x_bw0 9 rfl rfl) x_nilm))) (x_bw82 3 rfl rfl) (by decide +kernel) ⟨Nat.le_of_ble_eq_true rfl, Nat.le_of_ble_eq_true rfl⟩) hY0 hI rfl ti_d193 hl.1 (Nat.le_of_ble_eq_true rfl) (Nat.le_of_ble_eq_true rfl) (Nat.le_of_ble_eq_true rfl) (y_cons ⟨_, rfl, x_i32 _⟩ (y_cons ⟨_, rfl, x_i32 _⟩ y_nil)) rfl (y_norecv rfl) trivial (y_sub_ef rfl) fun v Yn o Hn L ho hr ha hIn hx_ hE hP => ?_
          replace hs_rd := y_Efld hE hY_this rfl (by decide) (by decide) hs_rd
          replace hs_wt := y_Efld hE hY_this rfl (by decide) (by decide) hs_wt
          replace hs_laws := y_Efld hE hY_this rfl (by decide) (by decide) hs_laws
          replace hs_book := y_Efld hE hY_this rfl (by decide) (by decide) hs_book
          replace hA_rd := hA_rd.kept (y_Earr hE hY_rd rfl (by decide))
          replace hA_wt := hA_wt.kept (y_Earr hE hY_wt rfl (by decide))
          replace hA_lw := hA_lw.kept (y_Earr hE hY_lw rfl (by decide))
          replace hA_bk := hA_bk.kept (y_Earr hE hY_bk rfl (by decide))
          replace hY_this := y_ext hx_ hI.1 hY_this
          replace hY_rd := y_ext hx_ hI.1 hY_rd
          replace hY_wt := y_ext hx_ hI.1 hY_wt
          replace hY_lw := y_ext hx_ hI.1 hY_lw
          replace hY_bk := y_ext hx_ hI.1 hY_bk
          obtain ⟨r193, rfl, hst_r193, hns_r193⟩ : ∃ r : Int32, v = some (.int r) ∧ (¬ r = 0 → z_step set to) ∧ (r = 0 → ¬ z_step set to) := z_stepR (hP _ _ rfl)
          clear ho hr ha hE hP hI hx_
          rename x_I _ _ _ _ _ _ _ _ _ _ => hI
          refine lv_if_eq hx hb ti_d196 (tgt := 256) (by decide) (fun q196 => ?_) (fun q196 => ?_)
          · have q196_ : r193.toInt = (0 : Int32).toInt := by rw [q196]
            obtain ⟨z256, hg_z256⟩ : ∃ z256 : Int32, to + Int32.ofInt 1 = z256 := ⟨_, rfl⟩
            have h_z256 : z256.toInt = to.toInt + 1 := by rw [← hg_z256]; exact y_inc (by decide) (by omega) (by omega)
            refine lv_iinc hx hb ti_d256 hl (k := 0) rfl hg_z256 (by decide) (lv' := [(10, .int z256), (9, .int set), (8, .int index), (7, .int state), (5, .int head), (6, .int tail), (4, .int first), (3, .int many), (0, .ref this), (1, .int fm), (2, .int town)]) rfl fun ls hl => ?_
            refine lv_goto hx hb ti_d259 (tgt := 163) (by decide) ?_
            exact ih _ _ _ _ _ _ _ _ hI hY_this hY_rd hY_wt hY_lw hY_bk hs_rd hs_wt hs_laws hs_book hA_rd hA_wt hA_lw hA_bk (lv_sub hl [0, 1, 2, 3, 4, 5, 6, 7, 8, 9, 10] rfl) hB_wt hK hst hhd (by omega) (by omega) (by omega)
          · have q196_ : ¬ r193.toInt = (0 : Int32).toInt := fun q => q196 (Int32.toInt_inj.mp q)
            refine lv_sipush hx hb ti_d199 (v := 1024) (by decide) ?_
            have ec1024 : (1024 : Int32).toInt = 1024 := by decide
            refine lv_aload_n hx hb ti_d202 rfl (lv_at hl 8 rfl) ?_
            refine lv_iload hx hb ti_d203 (lv_at hl 0 rfl) ?_
            refine lv_iload_n hx hb ti_d205 rfl (lv_at hl 10 rfl) ?_
            refine lv_iload hx hb ti_d206 (lv_at hl 2 rfl) ?_
            refine y_call (z := (0, 272, 4, some 17, xM211)) (av := [.ref this, .int to, .int town, .int index]) (rest := [.int (1024 : Int32)]) (y_cok.of (x_cokV (n := 3) (ci := 12) X xm211 rfl rfl rfl (x_cons (x_bw84 1 rfl rfl) (x_cons (x_bw84 3 rfl rfl) (x_cons (x_at 58 (by decide +kernel) rfl) (x_cons (x_bw0 9 rfl rfl) x_nilm)))) (x_bw84 4 rfl rfl) (by decide +kernel) ⟨Nat.le_of_ble_eq_true rfl, Nat.le_of_ble_eq_true rfl⟩)) hY0 hI rfl ti_d208 hl.1 (Nat.le_of_ble_eq_true rfl) (Nat.le_of_ble_eq_true rfl) (Nat.le_of_ble_eq_true rfl) (y_cons (y_cref hY_this rfl) (y_cons ⟨_, rfl, x_i32 _⟩ (y_cons ⟨_, rfl, by show (0 : Int) ≤ _; omega, by show _ ≤ (9 : Int); omega⟩ (y_cons ⟨_, rfl, by show (0 : Int) ≤ _; omega, by show _ ≤ (8 : Int); omega⟩ y_nil)))) rfl (y_recv rfl hY_this) trivial (y_sub_ef rfl) fun v Yn o Hn L ho hr ha hIn hx_ hE hP => ?_
            replace hs_rd := y_Efld hE hY_this rfl (by decide) (by decide) hs_rd
            replace hs_wt := y_Efld hE hY_this rfl (by decide) (by decide) hs_wt
            replace hs_laws := y_Efld hE hY_this rfl (by decide) (by decide) hs_laws
            replace hs_book := y_Efld hE hY_this rfl (by decide) (by decide) hs_book
            replace hA_rd := hA_rd.kept (y_Earr hE hY_rd rfl (by decide))
            replace hA_wt := hA_wt.kept (y_Earr hE hY_wt rfl (by decide))
            replace hA_lw := hA_lw.kept (y_Earr hE hY_lw rfl (by decide))
            replace hA_bk := hA_bk.kept (y_Earr hE hY_bk rfl (by decide))
            replace hY_this := y_ext hx_ hI.1 hY_this
            replace hY_rd := y_ext hx_ hI.1 hY_rd
            replace hY_wt := y_ext hx_ hI.1 hY_wt
            replace hY_lw := y_ext hx_ hI.1 hY_lw
            replace hY_bk := y_ext hx_ hI.1 hY_bk
            obtain ⟨r208, rfl, h_r208⟩ := y_ansI (lo := 0) (hi := 8) (by decide) ho hr
            clear ho hr ha hE hP hI hx_
            rename x_I _ _ _ _ _ _ _ _ _ _ => hI
            refine lv_imul hx hb ti_d211 ?_
            generalize hg_z211 : (1024 : Int32) * r208 = z211
            have h_z211 : z211.toInt = 1024 * r208.toInt := by rw [← hg_z211]; have := y_mul (x := (1024 : Int32)) (y := r208) (by rw [ec1024]; omega) (by rw [ec1024]; omega); rw [ec1024] at this; exact this
            refine lv_iload hx hb ti_d212 (lv_at hl 0 rfl) ?_
            refine lv_iadd hx hb ti_d214 ?_
            generalize hg_z214 : z211 + to = z214
            have h_z214 : z214.toInt = z211.toInt + to.toInt := by rw [← hg_z214]; have := y_add (x := z211) (y := to) (by omega) (by omega); exact this
            refine lv_istore hx hb ti_d215 hl (by decide) (lv' := [(11, .int z214), (10, .int to), (9, .int set), (8, .int index), (7, .int state), (5, .int head), (6, .int tail), (4, .int first), (3, .int many), (0, .ref this), (1, .int fm), (2, .int town)]) rfl fun ls hl => ?_
            refine lv_aload_n hx hb ti_d217 rfl (lv_at hl 9 rfl) ?_
            refine y_getf X (fl_ti_209 X.2.2.2.2.1) hI.1 hY_this rfl hs_rd ti_d218 ?_
            refine lv_iload hx hb ti_d221 (lv_at hl 0 rfl) ?_
            refine y_iald X hI.1 hY_rd rfl hA_rd (by omega) (by show _ < (9216 : Int); omega) ti_d223 ?_
            obtain ⟨e223, hg_e223⟩ : ∃ e223 : Int32, ff z214.toInt.toNat = e223 := ⟨_, rfl⟩
            rw [hg_e223]
            refine lv_iconst hx hb ti_d224 (v := (-1)) (by decide) ?_
            have ecm1 : ((-1) : Int32).toInt = (-1) := by decide
            refine lv_icmp_ne hx hb ti_d225 (tgt := 256) (by decide) (fun q225 => ?_) (fun q225 => ?_)
            · have q225_ : ¬ e223.toInt = ((-1) : Int32).toInt := fun q => q225 (Int32.toInt_inj.mp q)
              obtain ⟨z256, hg_z256⟩ : ∃ z256 : Int32, to + Int32.ofInt 1 = z256 := ⟨_, rfl⟩
              have h_z256 : z256.toInt = to.toInt + 1 := by rw [← hg_z256]; exact y_inc (by decide) (by omega) (by omega)
              refine lv_iinc hx hb ti_d256 hl (k := 1) rfl hg_z256 (by decide) (lv' := [(10, .int z256), (11, .int z214), (9, .int set), (8, .int index), (7, .int state), (5, .int head), (6, .int tail), (4, .int first), (3, .int many), (0, .ref this), (1, .int fm), (2, .int town)]) rfl fun ls hl => ?_
              refine lv_goto hx hb ti_d259 (tgt := 163) (by decide) ?_
              exact ih _ _ _ _ _ _ _ _ hI hY_this hY_rd hY_wt hY_lw hY_bk hs_rd hs_wt hs_laws hs_book hA_rd hA_wt hA_lw hA_bk (lv_sub hl [0, 2, 3, 4, 5, 6, 7, 8, 9, 10, 11] rfl) hB_wt hK hst hhd (by omega) (by omega) (by omega)
            · have q225_ : e223.toInt = ((-1) : Int32).toInt := by rw [q225]
              have hm : (ff z214.toInt.toNat).toInt = -1 := by rw [hg_e223]; omega
              have hroom := hK.room (to := z214) (by omega) (by omega) hm
              refine lv_aload_n hx hb ti_d228 rfl (lv_at hl 9 rfl) ?_
              refine y_getf X (fl_ti_209 X.2.2.2.2.1) hI.1 hY_this rfl hs_rd ti_d229 ?_
              refine lv_iload hx hb ti_d232 (lv_at hl 0 rfl) ?_
              refine lv_aload_n hx hb ti_d234 rfl (lv_at hl 9 rfl) ?_
              refine y_getf X (fl_ti_209 X.2.2.2.2.1) hI.1 hY_this rfl hs_rd ti_d235 ?_
              refine lv_iload hx hb ti_d238 (lv_at hl 4 rfl) ?_
              refine y_iald X hI.1 hY_rd rfl hA_rd (by omega) (by show _ < (9216 : Int); omega) ti_d240 ?_
              obtain ⟨e240, hg_e240⟩ : ∃ e240 : Int32, ff state.toInt.toNat = e240 := ⟨_, rfl⟩
              rw [hg_e240]
              have hq := hK.2.2 hd hhd
              rw [← hst, hg_e240] at hq
              refine lv_iconst hx hb ti_d241 (v := 1) (by decide) ?_
              have ec1 : (1 : Int32).toInt = 1 := by decide
              refine lv_iadd hx hb ti_d242 ?_
              generalize hg_z242 : e240 + (1 : Int32) = z242
              have h_z242 : z242.toInt = e240.toInt + 1 := by rw [← hg_z242]; have := y_add (x := e240) (y := (1 : Int32)) (by rw [ec1]; omega) (by rw [ec1]; omega); rw [ec1] at this; exact this
              refine y_iast X hY0 hI hY_rd rfl hA_rd (by omega) (by show _ < (9216 : Int); omega) ⟨_, rfl, x_i32 _⟩ (by decide +kernel) ti_d243 fun H locs hI h_new ho => ?_
              replace hA_rd := h_new
              generalize hf_f243 : y_up ff z214.toInt.toNat z242 = f243 at hA_rd
              replace hs_rd := y_slk hs_rd (ho _ (y_ne hY_this hY_rd rfl))
              replace hs_wt := y_slk hs_wt (ho _ (y_ne hY_this hY_rd rfl))
              replace hs_laws := y_slk hs_laws (ho _ (y_ne hY_this hY_rd rfl))
              replace hs_book := y_slk hs_book (ho _ (y_ne hY_this hY_rd rfl))
              replace hA_wt := hA_wt.kept (ho _ (y_ne hY_wt hY_rd rfl))
              replace hA_lw := hA_lw.kept (ho _ (y_ne hY_lw hY_rd rfl))
              replace hA_bk := hA_bk.kept (ho _ (y_ne hY_bk hY_rd rfl))
              refine lv_aload_n hx hb ti_d244 rfl (lv_at hl 9 rfl) ?_
              refine y_getf X (fl_ti_210 X.2.2.2.2.1) hI.1 hY_this rfl hs_wt ti_d245 ?_
              refine lv_iload hx hb ti_d248 (lv_at hl 6 rfl) ?_
              refine lv_iload hx hb ti_d250 (lv_at hl 0 rfl) ?_
              refine y_iast X hY0 hI hY_wt rfl hA_wt (by omega) (by show _ < (9216 : Int); omega) ⟨_, rfl, by show (0 : Int) ≤ _; omega, by show _ ≤ (9215 : Int); omega⟩ (by decide +kernel) ti_d252 fun H locs hI h_new ho => ?_
              replace hA_wt := h_new
              replace hB_wt := y_upb (i := tail.toInt.toNat) (v := z214) hB_wt (by constructor <;> omega)
              generalize hf_f252 : y_up qq tail.toInt.toNat z214 = f252 at hA_wt hB_wt
              replace hs_rd := y_slk hs_rd (ho _ (y_ne hY_this hY_wt rfl))
              replace hs_wt := y_slk hs_wt (ho _ (y_ne hY_this hY_wt rfl))
              replace hs_laws := y_slk hs_laws (ho _ (y_ne hY_this hY_wt rfl))
              replace hs_book := y_slk hs_book (ho _ (y_ne hY_this hY_wt rfl))
              replace hA_rd := hA_rd.kept (ho _ (y_ne hY_rd hY_wt rfl))
              replace hA_lw := hA_lw.kept (ho _ (y_ne hY_lw hY_wt rfl))
              replace hA_bk := hA_bk.kept (ho _ (y_ne hY_bk hY_wt rfl))
              obtain ⟨z253, hg_z253⟩ : ∃ z253 : Int32, tail + Int32.ofInt 1 = z253 := ⟨_, rfl⟩
              have h_z253 : z253.toInt = tail.toInt + 1 := by rw [← hg_z253]; exact y_inc (by decide) (by omega) (by omega)
              refine lv_iinc hx hb ti_d253 hl (k := 6) rfl hg_z253 (by decide) (lv' := [(6, .int z253), (11, .int z214), (10, .int to), (9, .int set), (8, .int index), (7, .int state), (5, .int head), (4, .int first), (3, .int many), (0, .ref this), (1, .int fm), (2, .int town)]) rfl fun ls hl => ?_
              obtain ⟨z256, hg_z256⟩ : ∃ z256 : Int32, to + Int32.ofInt 1 = z256 := ⟨_, rfl⟩
              have h_z256 : z256.toInt = to.toInt + 1 := by rw [← hg_z256]; exact y_inc (by decide) (by omega) (by omega)
              refine lv_iinc hx hb ti_d256 hl (k := 2) rfl hg_z256 (by decide) (lv' := [(10, .int z256), (6, .int z253), (11, .int z214), (9, .int set), (8, .int index), (7, .int state), (5, .int head), (4, .int first), (3, .int many), (0, .ref this), (1, .int fm), (2, .int town)]) rfl fun ls hl => ?_
              refine lv_goto hx hb ti_d259 (tgt := 163) (by decide) ?_
              have hKn := hK.push (to := z214) (by omega) (by omega) hm hhd (v := z242) (by rw [← hst, hg_e240]; omega)
              rw [hf_f243, hf_f252] at hKn
              have hst2 : state = f252 hd := by rw [← hf_f252, y_up_ne (by omega)]; exact hst
              exact ih _ _ _ _ _ _ _ _ hI hY_this hY_rd hY_wt hY_lw hY_bk hs_rd hs_wt hs_laws hs_book hA_rd hA_wt hA_lw hA_bk (lv_sub hl [0, 3, 4, 5, 6, 1, 7, 8, 9, 10, 11] rfl) hB_wt (by rw [show z253.toInt = tail.toInt + 1 by omega]; exact hKn) hst2 (by omega) (by omega) (by omega) (by omega)
theorem ti_out {p : Program} {l : Launch} {e : Env} {s : State} {m : MethodId} {below : List Frame} {meth : Method} {c : Code} {D : va_G} {U : State} {Y0 : xY} {av : List Value} (B : y_B vwCl x_Tb x_Nb xMti p s m meth c D U Y0 av) {this rd wt lw bk : Nat} {fm town many first : Int32} {gl fb : Nat → Int32} (hN : 0 ≤ (z_all (fb 0)).toInt ∧ (z_all (fb 0)).toInt ≤ 1023) (htown : 0 ≤ town.toInt ∧ town.toInt ≤ 9) (hB_lw : ∀ j, j < 1024 → (0 : Int) ≤ (gl j).toInt ∧ (gl j).toInt ≤ 1) :
    ∀ (n : Nat) (H : Heap) (Y : xY) (locs : List Loc) (ls : Array Slot) (head tail : Int32) (ff qq : Nat → Int32), x_I D x_G x_Zs U (x_efs xMti) Y0 s.heap Y H locs → Y this = some 17 → Y rd = some 62 → Y wt = some 63 → Y lw = some 55 → Y bk = some 46 → x_sl D 12 25 this H = some (.ref rd) → x_sl D 12 26 this H = some (.ref wt) → x_sl D 12 18 this H = some (.ref lw) → x_sl D 12 0 this H = some (.ref bk) → y_A rd 9216 H ff → y_A wt 9216 H qq → y_A lw 1024 H gl → y_A bk 160 H fb → lv_has ls xMti.2.2.1 [(6, .int tail), (5, .int head), (4, .int first), (3, .int many), (0, .ref this), (1, .int fm), (2, .int town)] → (∀ j, j < 9216 → (0 : Int) ≤ (qq j).toInt ∧ (qq j).toInt ≤ 9215) → z_K 9216 ff qq tail.toInt → 0 ≤ head.toInt → (9216 - head.toInt).toNat < n → W p l e (x_rm xMti) s m av.toArray below meth c H locs 0 0 (y_QQ below D x_G x_Zs U xMti y_TP av Y0 s) (F0 m 111 ls []) := by
  have X := B.1
  have hx := X.1
  have hb := X.2.1
  have hY0 := B.2.2.2.2.1
  intro n
  induction n with
  | zero => intro H Y locs ls head tail ff qq _ _ _ _ _ _ _ _ _ _ _ _ _ _ _ _ _ _ h; exact absurd h (Nat.not_lt_zero _)
  | succ n ih =>
    intro H Y locs ls head tail ff qq hI hY_this hY_rd hY_wt hY_lw hY_bk hs_rd hs_wt hs_laws hs_book hA_rd hA_wt hA_lw hA_bk hl hB_wt hK h_h0 hn
    have hB_rd := ()
    have hB_bk := ()
    have hK1 := hK.1
    have hK2 : tail.toInt ≤ 9216 := Int.le_trans hK.2.1 (Int.ofNat_le.mpr (z_cnt_le ff 9216))
    refine lv_iload hx hb ti_d111 (lv_at hl 1 rfl) ?_
    refine lv_iload hx hb ti_d113 (lv_at hl 0 rfl) ?_
    refine lv_icmp_ge hx hb ti_d115 (tgt := 265) (by decide) (fun q115 => ?_) (fun q115 => ?_)
    · have q115_ : tail.toInt ≤ head.toInt := x_le32.mp q115
      refine lv_iconst hx hb ti_d265 (v := (-1)) (by decide) ?_
      have ecm1 : ((-1) : Int32).toInt = (-1) := by decide
      exact y_ireturn B hI rfl rfl rfl List.mem_cons_self ⟨_, rfl, ⟨_, rfl, x_i32 _⟩⟩ (x_cs.mono B.2.2.2.2.2 (y_mon B hI)) trivial (Nat.le_refl _) (Nat.le_refl _) ti_d266
    · have q115_ : head.toInt < tail.toInt := Int.not_le.mp fun q => q115 (x_le32.mpr q)
      refine lv_aload_n hx hb ti_d118 rfl (lv_at hl 4 rfl) ?_
      refine y_getf X (fl_ti_210 X.2.2.2.2.1) hI.1 hY_this rfl hs_wt ti_d119 ?_
      refine lv_iload hx hb ti_d122 (lv_at hl 1 rfl) ?_
      refine y_iald X hI.1 hY_wt rfl hA_wt (by omega) (by show _ < (9216 : Int); omega) ti_d124 ?_
      obtain ⟨e124, hg_e124⟩ : ∃ e124 : Int32, qq head.toInt.toNat = e124 := ⟨_, rfl⟩
      rw [hg_e124]
      have h_e124 : (0 : Int) ≤ e124.toInt ∧ e124.toInt ≤ 9215 := by rw [← hg_e124]; exact hB_wt _ (by omega)
      have hhd : ((head.toInt.toNat : Nat) : Int) < tail.toInt := by omega
      refine lv_istore hx hb ti_d125 hl (by decide) (lv' := [(7, .int e124), (6, .int tail), (5, .int head), (4, .int first), (3, .int many), (0, .ref this), (1, .int fm), (2, .int town)]) rfl fun ls hl => ?_
      obtain ⟨z127, hg_z127⟩ : ∃ z127 : Int32, head + Int32.ofInt 1 = z127 := ⟨_, rfl⟩
      have h_z127 : z127.toInt = head.toInt + 1 := by rw [← hg_z127]; exact y_inc (by decide) (by omega) (by omega)
      refine lv_iinc hx hb ti_d127 hl (k := 2) rfl hg_z127 (by decide) (lv' := [(5, .int z127), (7, .int e124), (6, .int tail), (4, .int first), (3, .int many), (0, .ref this), (1, .int fm), (2, .int town)]) rfl fun ls hl => ?_
      refine lv_iload hx hb ti_d130 (lv_at hl 1 rfl) ?_
      refine lv_sipush hx hb ti_d132 (v := 1024) (by decide) ?_
      have ec1024 : (1024 : Int32).toInt = 1024 := by decide
      refine lv_idiv hx hb ti_d135 (by intro q; have := congrArg Int32.toInt q; have z0 : (0 : Int32).toInt = 0 := (by decide); omega) ?_
      generalize hg_z135 : e124 / (1024 : Int32) = z135
      have h_z135 : z135.toInt = e124.toInt / 1024 := by rw [← hg_z135]; have := y_div (x := e124) (y := (1024 : Int32)) (by first | omega | (rw [ec1024]; omega)) (by first | omega | (rw [ec1024]; omega)); rw [ec1024] at this; exact this
      refine lv_istore hx hb ti_d136 hl (by decide) (lv' := [(8, .int z135), (5, .int z127), (7, .int e124), (6, .int tail), (4, .int first), (3, .int many), (0, .ref this), (1, .int fm), (2, .int town)]) rfl fun ls hl => ?_
      refine lv_iload hx hb ti_d138 (lv_at hl 2 rfl) ?_
      refine lv_sipush hx hb ti_d140 (v := 1024) (by decide) ?_
      refine lv_irem hx hb ti_d143 (by intro q; have := congrArg Int32.toInt q; have z0 : (0 : Int32).toInt = 0 := (by decide); omega) ?_
      generalize hg_z143 : e124 - e124 / (1024 : Int32) * (1024 : Int32) = z143
      have h_z143 : z143.toInt = e124.toInt % 1024 := by rw [← hg_z143]; have := y_rem (x := e124) (y := (1024 : Int32)) (by first | omega | (rw [ec1024]; omega)) (by first | omega | (rw [ec1024]; omega)); rw [ec1024] at this; exact this
      refine lv_istore hx hb ti_d144 hl (by decide) (lv' := [(9, .int z143), (8, .int z135), (5, .int z127), (7, .int e124), (6, .int tail), (4, .int first), (3, .int many), (0, .ref this), (1, .int fm), (2, .int town)]) rfl fun ls hl => ?_
      refine lv_iload hx hb ti_d146 (lv_at hl 1 rfl) ?_
      refine lv_iload_n hx hb ti_d148 rfl (lv_at hl 6 rfl) ?_
      refine lv_icmp_ne hx hb ti_d149 (tgt := 160) (by decide) (fun q149 => ?_) (fun q149 => ?_)
      · have q149_ : ¬ z135.toInt = many.toInt := fun q => q149 (Int32.toInt_inj.mp q)
        refine lv_iconst hx hb ti_d160 (v := 0) (by decide) ?_
        have ec0 : (0 : Int32).toInt = 0 := by decide
        refine lv_istore hx hb ti_d161 hl (by decide) (lv' := [(10, .int (0 : Int32)), (9, .int z143), (8, .int z135), (5, .int z127), (7, .int e124), (6, .int tail), (4, .int first), (3, .int many), (0, .ref this), (1, .int fm), (2, .int town)]) rfl fun ls hl => ?_
        have ih2 := fun H Y locs ls tail ff qq a1 a2 a3 a4 a5 a6 a7 a8 a9 b1 b2 b3 b4 b5 b6 b7 b8 => ih H Y locs ls z127 tail ff qq a1 a2 a3 a4 a5 a6 a7 a8 a9 b1 b2 b3 b4 b5 b6 b7 b8 (by omega) (by omega)
        exact ti_in B hN htown hB_lw (by omega) h_e124 ih2 1100 _ _ _ _ _ _ _ _ hI hY_this hY_rd hY_wt hY_lw hY_bk hs_rd hs_wt hs_laws hs_book hA_rd hA_wt hA_lw hA_bk (lv_sub hl [0, 1, 2, 4, 3, 5, 6, 7, 8, 9, 10] rfl) hB_wt hK hg_e124.symm hhd (by omega) (by omega) (by omega)
      · have q149_ : z135.toInt = many.toInt := by rw [q149]
        refine lv_aload_n hx hb ti_d152 rfl (lv_at hl 7 rfl) ?_
        refine y_getf X (fl_ti_209 X.2.2.2.2.1) hI.1 hY_this rfl hs_rd ti_d153 ?_
        refine lv_iload hx hb ti_d156 (lv_at hl 3 rfl) ?_
        refine y_iald X hI.1 hY_rd rfl hA_rd (by omega) (by show _ < (9216 : Int); omega) ti_d158 ?_
        obtain ⟨e158, hg_e158⟩ : ∃ e158 : Int32, ff e124.toInt.toNat = e158 := ⟨_, rfl⟩
        rw [hg_e158]
        exact y_ireturn B hI rfl rfl rfl List.mem_cons_self ⟨_, rfl, ⟨_, rfl, x_i32 _⟩⟩ (x_cs.mono B.2.2.2.2.2 (y_mon B hI)) trivial (Nat.le_refl _) (Nat.le_refl _) ti_d159
theorem ti_ini {p : Program} {l : Launch} {e : Env} {s : State} {m : MethodId} {below : List Frame} {meth : Method} {c : Code} {D : va_G} {U : State} {Y0 : xY} {av : List Value} (B : y_B vwCl x_Tb x_Nb xMti p s m meth c D U Y0 av) {this rd wt lw bk : Nat} {fm town : Int32} {gl fb qq : Nat → Int32} (hN : 0 ≤ (z_all (fb 0)).toInt ∧ (z_all (fb 0)).toInt ≤ 1023) (htown : 0 ≤ town.toInt ∧ town.toInt ≤ 9) (hfm : 0 ≤ fm.toInt ∧ fm.toInt ≤ 1023) (hB_lw : ∀ j, j < 1024 → (0 : Int) ≤ (gl j).toInt ∧ (gl j).toInt ≤ 1) (hB_wt : (∀ j, j < 9216 → (0 : Int) ≤ (qq j).toInt ∧ (qq j).toInt ≤ 9215)) :
    ∀ (n : Nat) (H : Heap) (Y : xY) (locs : List Loc) (ls : Array Slot) (k : Int32) (ff : Nat → Int32), x_I D x_G x_Zs U (x_efs xMti) Y0 s.heap Y H locs → Y this = some 17 → Y rd = some 62 → Y wt = some 63 → Y lw = some 55 → Y bk = some 46 → x_sl D 12 25 this H = some (.ref rd) → x_sl D 12 26 this H = some (.ref wt) → x_sl D 12 18 this H = some (.ref lw) → x_sl D 12 0 this H = some (.ref bk) → y_A rd 9216 H ff → y_A wt 9216 H qq → y_A lw 1024 H gl → y_A bk 160 H fb → lv_has ls xMti.2.2.1 [(3, .int k), (0, .ref this), (1, .int fm), (2, .int town)] → 0 ≤ k.toInt → (9216 - k.toInt).toNat < n → W p l e (x_rm xMti) s m av.toArray below meth c H locs 0 0 (y_QQ below D x_G x_Zs U xMti y_TP av Y0 s) (F0 m 47 ls []) := by
  have X := B.1
  have hx := X.1
  have hb := X.2.1
  have hY0 := B.2.2.2.2.1
  intro n
  induction n with
  | zero => intro H Y locs ls k ff _ _ _ _ _ _ _ _ _ _ _ _ _ _ _ _ h; exact absurd h (Nat.not_lt_zero _)
  | succ n ih =>
    intro H Y locs ls k ff hI hY_this hY_rd hY_wt hY_lw hY_bk hs_rd hs_wt hs_laws hs_book hA_rd hA_wt hA_lw hA_bk hl h_k0 hn
    have hB_rd := ()
    have hB_bk := ()
    refine lv_iload_n hx hb ti_d47 rfl (lv_at hl 0 rfl) ?_
    refine lv_sipush hx hb ti_d48 (v := 9216) (by decide) ?_
    have ec9216 : (9216 : Int32).toInt = 9216 := by decide
    refine lv_icmp_ge hx hb ti_d51 (tgt := 67) (by decide) (fun q51 => ?_) (fun q51 => ?_)
    · have q51_ : (9216 : Int32).toInt ≤ k.toInt := x_le32.mp q51
      refine lv_aload_n hx hb ti_d67 rfl (lv_at hl 1 rfl) ?_
      refine y_getf X (fl190 X.2.2.2.2.1) hI.1 hY_this rfl hs_book ti_d68 ?_
      refine lv_iconst hx hb ti_d71 (v := 2) (by decide) ?_
      have ec2 : (2 : Int32).toInt = 2 := by decide
      refine y_iald X hI.1 hY_bk rfl hA_bk (by omega) (by show _ < (160 : Int); omega) ti_d72 ?_
      obtain ⟨e72, hg_e72⟩ : ∃ e72 : Int32, fb (2 : Int32).toInt.toNat = e72 := ⟨_, rfl⟩
      rw [hg_e72]
      refine lv_istore_n hx hb ti_d73 rfl hl (by decide) (lv' := [(3, .int e72), (0, .ref this), (1, .int fm), (2, .int town)]) rfl fun ls hl => ?_
      refine lv_sipush hx hb ti_d74 (v := 1024) (by decide) ?_
      have ec1024 : (1024 : Int32).toInt = 1024 := by decide
      refine lv_aload_n hx hb ti_d77 rfl (lv_at hl 1 rfl) ?_
      refine lv_iload_n hx hb ti_d78 rfl (lv_at hl 2 rfl) ?_
      refine lv_iload_n hx hb ti_d79 rfl (lv_at hl 3 rfl) ?_
      refine lv_iconst hx hb ti_d80 (v := 0) (by decide) ?_
      have ec0 : (0 : Int32).toInt = 0 := by decide
      refine y_call (z := (0, 272, 4, some 17, xM211)) (av := [.ref this, .int fm, .int town, .int (0 : Int32)]) (rest := [.int (1024 : Int32)]) (y_cok.of (x_cokV (n := 3) (ci := 12) X xm211 rfl rfl rfl (x_cons (x_bw84 1 rfl rfl) (x_cons (x_bw84 3 rfl rfl) (x_cons (x_at 58 (by decide +kernel) rfl) (x_cons (x_bw0 9 rfl rfl) x_nilm)))) (x_bw84 4 rfl rfl) (by decide +kernel) ⟨Nat.le_of_ble_eq_true rfl, Nat.le_of_ble_eq_true rfl⟩)) hY0 hI rfl ti_d81 hl.1 (Nat.le_of_ble_eq_true rfl) (Nat.le_of_ble_eq_true rfl) (Nat.le_of_ble_eq_true rfl) (y_cons (y_cref hY_this rfl) (y_cons ⟨_, rfl, x_i32 _⟩ (y_cons ⟨_, rfl, by show (0 : Int) ≤ _; omega, by show _ ≤ (9 : Int); omega⟩ (y_cons ⟨_, rfl, by show (0 : Int) ≤ _; omega, by show _ ≤ (8 : Int); omega⟩ y_nil)))) rfl (y_recv rfl hY_this) trivial (y_sub_ef rfl) fun v Yn o Hn L ho hr ha hIn hx_ hE hP => ?_
      replace hs_rd := y_Efld hE hY_this rfl (by decide) (by decide) hs_rd
      replace hs_wt := y_Efld hE hY_this rfl (by decide) (by decide) hs_wt
      replace hs_laws := y_Efld hE hY_this rfl (by decide) (by decide) hs_laws
      replace hs_book := y_Efld hE hY_this rfl (by decide) (by decide) hs_book
      replace hA_rd := hA_rd.kept (y_Earr hE hY_rd rfl (by decide))
      replace hA_wt := hA_wt.kept (y_Earr hE hY_wt rfl (by decide))
      replace hA_lw := hA_lw.kept (y_Earr hE hY_lw rfl (by decide))
      replace hA_bk := hA_bk.kept (y_Earr hE hY_bk rfl (by decide))
      replace hY_this := y_ext hx_ hI.1 hY_this
      replace hY_rd := y_ext hx_ hI.1 hY_rd
      replace hY_wt := y_ext hx_ hI.1 hY_wt
      replace hY_lw := y_ext hx_ hI.1 hY_lw
      replace hY_bk := y_ext hx_ hI.1 hY_bk
      obtain ⟨r81, rfl, h_r81⟩ := y_ansI (lo := 0) (hi := 8) (by decide) ho hr
      clear ho hr ha hE hP hI hx_
      rename x_I _ _ _ _ _ _ _ _ _ _ => hI
      refine lv_imul hx hb ti_d84 ?_
      generalize hg_z84 : (1024 : Int32) * r81 = z84
      have h_z84 : z84.toInt = 1024 * r81.toInt := by rw [← hg_z84]; have := y_mul (x := (1024 : Int32)) (y := r81) (by rw [ec1024]; omega) (by rw [ec1024]; omega); rw [ec1024] at this; exact this
      refine lv_iload_n hx hb ti_d85 rfl (lv_at hl 2 rfl) ?_
      refine lv_iadd hx hb ti_d86 ?_
      generalize hg_z86 : z84 + fm = z86
      have h_z86 : z86.toInt = z84.toInt + fm.toInt := by rw [← hg_z86]; have := y_add (x := z84) (y := fm) (by omega) (by omega); exact this
      refine lv_istore hx hb ti_d87 hl (by decide) (lv' := [(4, .int z86), (3, .int e72), (0, .ref this), (1, .int fm), (2, .int town)]) rfl fun ls hl => ?_
      refine lv_aload_n hx hb ti_d89 rfl (lv_at hl 2 rfl) ?_
      refine y_getf X (fl_ti_209 X.2.2.2.2.1) hI.1 hY_this rfl hs_rd ti_d90 ?_
      refine lv_iload hx hb ti_d93 (lv_at hl 0 rfl) ?_
      refine lv_iconst hx hb ti_d95 (v := 0) (by decide) ?_
      refine y_iast X hY0 hI hY_rd rfl hA_rd (by omega) (by show _ < (9216 : Int); omega) ⟨_, rfl, x_i32 _⟩ (by decide +kernel) ti_d96 fun H locs hI h_new ho => ?_
      replace hA_rd := h_new
      generalize hf_f96 : y_up ff z86.toInt.toNat (0 : Int32) = f96 at hA_rd
      replace hs_rd := y_slk hs_rd (ho _ (y_ne hY_this hY_rd rfl))
      replace hs_wt := y_slk hs_wt (ho _ (y_ne hY_this hY_rd rfl))
      replace hs_laws := y_slk hs_laws (ho _ (y_ne hY_this hY_rd rfl))
      replace hs_book := y_slk hs_book (ho _ (y_ne hY_this hY_rd rfl))
      replace hA_wt := hA_wt.kept (ho _ (y_ne hY_wt hY_rd rfl))
      replace hA_lw := hA_lw.kept (ho _ (y_ne hY_lw hY_rd rfl))
      replace hA_bk := hA_bk.kept (ho _ (y_ne hY_bk hY_rd rfl))
      refine lv_aload_n hx hb ti_d97 rfl (lv_at hl 2 rfl) ?_
      refine y_getf X (fl_ti_210 X.2.2.2.2.1) hI.1 hY_this rfl hs_wt ti_d98 ?_
      refine lv_iconst hx hb ti_d101 (v := 0) (by decide) ?_
      refine lv_iload hx hb ti_d102 (lv_at hl 0 rfl) ?_
      refine y_iast X hY0 hI hY_wt rfl hA_wt (by omega) (by show _ < (9216 : Int); omega) ⟨_, rfl, by show (0 : Int) ≤ _; omega, by show _ ≤ (9215 : Int); omega⟩ (by decide +kernel) ti_d104 fun H locs hI h_new ho => ?_
      replace hA_wt := h_new
      replace hB_wt := y_upb (i := (0 : Int32).toInt.toNat) (v := z86) hB_wt (by constructor <;> omega)
      generalize hf_f104 : y_up qq (0 : Int32).toInt.toNat z86 = f104 at hA_wt hB_wt
      replace hs_rd := y_slk hs_rd (ho _ (y_ne hY_this hY_wt rfl))
      replace hs_wt := y_slk hs_wt (ho _ (y_ne hY_this hY_wt rfl))
      replace hs_laws := y_slk hs_laws (ho _ (y_ne hY_this hY_wt rfl))
      replace hs_book := y_slk hs_book (ho _ (y_ne hY_this hY_wt rfl))
      replace hA_rd := hA_rd.kept (ho _ (y_ne hY_rd hY_wt rfl))
      replace hA_lw := hA_lw.kept (ho _ (y_ne hY_lw hY_wt rfl))
      replace hA_bk := hA_bk.kept (ho _ (y_ne hY_bk hY_wt rfl))
      refine lv_iconst hx hb ti_d105 (v := 0) (by decide) ?_
      refine lv_istore hx hb ti_d106 hl (by decide) (lv' := [(5, .int (0 : Int32)), (4, .int z86), (3, .int e72), (0, .ref this), (1, .int fm), (2, .int town)]) rfl fun ls hl => ?_
      refine lv_iconst hx hb ti_d108 (v := 1) (by decide) ?_
      have ec1 : (1 : Int32).toInt = 1 := by decide
      refine lv_istore hx hb ti_d109 hl (by decide) (lv' := [(6, .int (1 : Int32)), (5, .int (0 : Int32)), (4, .int z86), (3, .int e72), (0, .ref this), (1, .int fm), (2, .int town)]) rfl fun ls hl => ?_
      have hK := z_K.start (N := 9216) (ff := ff) (qq := qq) (fr := z86) (by omega) (by omega) ec0
      have e0 : (0 : Int32).toInt.toNat = 0 := rfl
      rw [e0] at hf_f104
      rw [hf_f96, hf_f104] at hK
      exact ti_out B hN htown hB_lw 9300 _ _ _ _ _ _ _ _ hI hY_this hY_rd hY_wt hY_lw hY_bk hs_rd hs_wt hs_laws hs_book hA_rd hA_wt hA_lw hA_bk (lv_sub hl [0, 1, 2, 3, 4, 5, 6] rfl) hB_wt hK (by omega) (by omega)
    · have q51_ : k.toInt < (9216 : Int32).toInt := Int.not_le.mp fun q => q51 (x_le32.mpr q)
      refine lv_aload_n hx hb ti_d54 rfl (lv_at hl 1 rfl) ?_
      refine y_getf X (fl_ti_209 X.2.2.2.2.1) hI.1 hY_this rfl hs_rd ti_d55 ?_
      refine lv_iload_n hx hb ti_d58 rfl (lv_at hl 0 rfl) ?_
      refine lv_iconst hx hb ti_d59 (v := (-1)) (by decide) ?_
      have ecm1 : ((-1) : Int32).toInt = (-1) := by decide
      refine y_iast X hY0 hI hY_rd rfl hA_rd (by omega) (by show _ < (9216 : Int); omega) ⟨_, rfl, x_i32 _⟩ (by decide +kernel) ti_d60 fun H locs hI h_new ho => ?_
      replace hA_rd := h_new
      generalize hf_f60 : y_up ff k.toInt.toNat ((-1) : Int32) = f60 at hA_rd
      replace hs_rd := y_slk hs_rd (ho _ (y_ne hY_this hY_rd rfl))
      replace hs_wt := y_slk hs_wt (ho _ (y_ne hY_this hY_rd rfl))
      replace hs_laws := y_slk hs_laws (ho _ (y_ne hY_this hY_rd rfl))
      replace hs_book := y_slk hs_book (ho _ (y_ne hY_this hY_rd rfl))
      replace hA_wt := hA_wt.kept (ho _ (y_ne hY_wt hY_rd rfl))
      replace hA_lw := hA_lw.kept (ho _ (y_ne hY_lw hY_rd rfl))
      replace hA_bk := hA_bk.kept (ho _ (y_ne hY_bk hY_rd rfl))
      obtain ⟨z61, hg_z61⟩ : ∃ z61 : Int32, k + Int32.ofInt 1 = z61 := ⟨_, rfl⟩
      have h_z61 : z61.toInt = k.toInt + 1 := by rw [← hg_z61]; exact y_inc (by decide) (by omega) (by omega)
      refine lv_iinc hx hb ti_d61 hl (k := 0) rfl hg_z61 (by decide) (lv' := [(3, .int z61), (0, .ref this), (1, .int fm), (2, .int town)]) rfl fun ls hl => ?_
      refine lv_goto hx hb ti_d64 (tgt := 47) (by decide) ?_
      exact ih _ _ _ _ _ _ hI hY_this hY_rd hY_wt hY_lw hY_bk hs_rd hs_wt hs_laws hs_book hA_rd hA_wt hA_lw hA_bk hl (by omega) (by omega)
theorem ym_toldIn : y_Met vwCl x_G x_Zs x_Tb x_Nb xMti y_T y_TP := by
  refine y_main (by decide +kernel) (by decide +kernel) x_Tb_good x_Nb_ok ?_
  intro p l e s m below meth c D U Y0 av ls B hI _ hl
  have X := B.1
  have hx := X.1
  have hb := X.2.1
  have hY0 := B.2.2.2.2.1
  obtain ⟨v0, v1, v2, rfl, hv0, ⟨fm, rfl, -⟩, ⟨town, rfl, -⟩⟩ := y_three B.2.2.2.2.2
  obtain ⟨this, t0, rfl, ht0, hY_this⟩ := x_ref_at hv0 rfl
  obtain rfl := List.mem_singleton.mp ht0
  replace hl : lv_has ls xMti.2.2.1 [(0, .ref this), (1, .int fm), (2, .int town)] := hl
  obtain ⟨rd, hs_rd, hY_rd⟩ := y_fldR (k := 25) hI.1 hY_this rfl rfl
  obtain ⟨wt, hs_wt, hY_wt⟩ := y_fldR (k := 26) hI.1 hY_this rfl rfl
  obtain ⟨lw, hs_laws, hY_lw⟩ := y_fldR (k := 18) hI.1 hY_this rfl rfl
  obtain ⟨bk, hs_book, hY_bk⟩ := y_fldR (k := 0) hI.1 hY_this rfl rfl
  obtain ⟨fb, hA_bk, hB_bk⟩ := y_arr hI.1 hY_bk rfl rfl
  have hN : 0 ≤ (z_all (fb 0)).toInt ∧ (z_all (fb 0)).toInt ≤ 1023 := z_all_b (by obtain ⟨x, e0, e1⟩ := hB_bk 0 (by decide); cases e0; exact e1)
  refine lv_aload_n hx hb ti_d0 rfl (lv_at hl 0 rfl) ?_
  refine lv_iload_n hx hb ti_d1 rfl (lv_at hl 1 rfl) ?_
  refine y_call (z := (0, 237, 2, some 17, xM184)) (av := [.ref this, .int fm]) (rest := []) (y_cokV (n := 1) (ci := 12) X ym_isSet rfl rfl rfl (x_cons (x_bw77 0 rfl rfl) (x_cons (x_bw77 2 rfl rfl) (x_cons (x_at 48 (by decide +kernel) rfl) (x_cons (x_bw0 9 rfl rfl) x_nilm)))) (x_bw77 3 rfl rfl) (by decide +kernel) ⟨Nat.le_of_ble_eq_true rfl, Nat.le_of_ble_eq_true rfl⟩) hY0 hI rfl ti_d2 hl.1 (Nat.le_of_ble_eq_true rfl) (Nat.le_of_ble_eq_true rfl) (Nat.le_of_ble_eq_true rfl) (y_cons (y_cref hY_this rfl) (y_cons ⟨_, rfl, x_i32 _⟩ y_nil)) rfl (y_recv rfl hY_this) trivial (y_sub_ef rfl) fun v Yn o Hn L ho hr ha hIn hx_ hE hP => ?_
  have hPv := hP _ _ _ _ rfl hs_book (hA_bk 0 (by decide))
  replace hs_rd := y_Efld hE hY_this rfl (by decide) (by decide) hs_rd
  replace hs_wt := y_Efld hE hY_this rfl (by decide) (by decide) hs_wt
  replace hs_laws := y_Efld hE hY_this rfl (by decide) (by decide) hs_laws
  replace hs_book := y_Efld hE hY_this rfl (by decide) (by decide) hs_book
  replace hA_bk := hA_bk.kept (y_Earr hE hY_bk rfl (by decide))
  replace hY_this := y_ext hx_ hI.1 hY_this
  replace hY_rd := y_ext hx_ hI.1 hY_rd
  replace hY_wt := y_ext hx_ hI.1 hY_wt
  replace hY_lw := y_ext hx_ hI.1 hY_lw
  replace hY_bk := y_ext hx_ hI.1 hY_bk
  obtain ⟨r2, rfl, hin_r2, hout_r2⟩ := hPv
  clear ho hr ha hE hP hI hx_
  rename x_I _ _ _ _ _ _ _ _ _ _ => hI
  have ec0 : (0 : Int32).toInt = 0 := by decide
  refine lv_if_eq hx hb ti_d5 (tgt := 16) (by decide) (fun q5 => ?_) (fun q5 => ?_)
  · have q5_ : r2.toInt = (0 : Int32).toInt := by rw [q5]
    refine lv_aload_n hx hb ti_d16 rfl (lv_at hl 0 rfl) ?_
    refine lv_iconst hx hb ti_d17 (v := 0) (by decide) ?_
    refine lv_bipush hx hb ti_d18 (v := (-10)) (by decide) ?_
    have ecm10 : ((-10) : Int32).toInt = (-10) := by decide
    refine y_call (z := (0, 76, 3, some 17, xM142)) (av := [.ref this, .int (0 : Int32), .int ((-10) : Int32)]) (rest := []) (y_cok.of (x_cokV (n := 2) (ci := 12) X xm142 rfl rfl rfl (x_cons (x_bw68 7 rfl rfl) (x_cons (x_bw68 9 rfl rfl) (x_cons (x_at 33 (by decide +kernel) rfl) (x_cons (x_bw0 9 rfl rfl) x_nilm)))) (x_bw68 10 rfl rfl) (by decide +kernel) ⟨Nat.le_of_ble_eq_true rfl, Nat.le_of_ble_eq_true rfl⟩)) hY0 hI rfl ti_d20 hl.1 (Nat.le_of_ble_eq_true rfl) (Nat.le_of_ble_eq_true rfl) (Nat.le_of_ble_eq_true rfl) (y_cons (y_cref hY_this rfl) (y_cons ⟨_, rfl, by show (0 : Int) ≤ _; omega, by show _ ≤ (2 : Int); omega⟩ (y_cons ⟨_, rfl, x_i32 _⟩ y_nil))) rfl (y_recv rfl hY_this) trivial (y_sub_ef rfl) fun v Yn o Hn L ho hr ha hIn hx_ hE hP => ?_
    replace hs_rd := y_Efld hE hY_this rfl (by decide) (by decide) hs_rd
    replace hs_wt := y_Efld hE hY_this rfl (by decide) (by decide) hs_wt
    replace hs_laws := y_Efld hE hY_this rfl (by decide) (by decide) hs_laws
    replace hs_book := y_Efld hE hY_this rfl (by decide) (by decide) hs_book
    replace hA_bk := hA_bk.kept (y_Earr hE hY_bk rfl (by decide))
    replace hY_this := y_ext hx_ hI.1 hY_this
    replace hY_rd := y_ext hx_ hI.1 hY_rd
    replace hY_wt := y_ext hx_ hI.1 hY_wt
    replace hY_lw := y_ext hx_ hI.1 hY_lw
    replace hY_bk := y_ext hx_ hI.1 hY_bk
    obtain ⟨r20, rfl, h_r20⟩ := y_ansI (lo := (-2147483648)) (hi := 2147483647) (by decide) ho hr
    clear ho hr ha hE hP hI hx_
    rename x_I _ _ _ _ _ _ _ _ _ _ => hI
    exact y_ireturn B hI rfl rfl rfl List.mem_cons_self ⟨_, rfl, ⟨_, rfl, x_i32 _⟩⟩ (x_cs.mono B.2.2.2.2.2 (y_mon B hI)) trivial (Nat.le_refl _) (Nat.le_refl _) ti_d23
  · have q5_ : ¬ r2.toInt = (0 : Int32).toInt := fun q => q5 (Int32.toInt_inj.mp q)
    refine lv_aload_n hx hb ti_d8 rfl (lv_at hl 0 rfl) ?_
    refine lv_iload_n hx hb ti_d9 rfl (lv_at hl 2 rfl) ?_
    refine y_call (z := (0, 151, 2, some 17, xM171)) (av := [.ref this, .int town]) (rest := []) (y_cok.of (x_cokV (n := 1) (ci := 12) X xm171 rfl rfl rfl (x_cons (x_bw72 2 rfl rfl) (x_cons (x_bw72 4 rfl rfl) (x_cons (x_at 40 (by decide +kernel) rfl) (x_cons (x_bw0 9 rfl rfl) x_nilm)))) (x_bw72 5 rfl rfl) (by decide +kernel) ⟨Nat.le_of_ble_eq_true rfl, Nat.le_of_ble_eq_true rfl⟩)) hY0 hI rfl ti_d10 hl.1 (Nat.le_of_ble_eq_true rfl) (Nat.le_of_ble_eq_true rfl) (Nat.le_of_ble_eq_true rfl) (y_cons (y_cref hY_this rfl) (y_cons ⟨_, rfl, x_i32 _⟩ y_nil)) rfl (y_recv rfl hY_this) trivial (y_sub_ef rfl) fun v Yn o Hn L ho hr ha hIn hx_ hE hP => ?_
    replace hs_rd := y_Efld hE hY_this rfl (by decide) (by decide) hs_rd
    replace hs_wt := y_Efld hE hY_this rfl (by decide) (by decide) hs_wt
    replace hs_laws := y_Efld hE hY_this rfl (by decide) (by decide) hs_laws
    replace hs_book := y_Efld hE hY_this rfl (by decide) (by decide) hs_book
    replace hA_bk := hA_bk.kept (y_Earr hE hY_bk rfl (by decide))
    replace hY_this := y_ext hx_ hI.1 hY_this
    replace hY_rd := y_ext hx_ hI.1 hY_rd
    replace hY_wt := y_ext hx_ hI.1 hY_wt
    replace hY_lw := y_ext hx_ hI.1 hY_lw
    replace hY_bk := y_ext hx_ hI.1 hY_bk
    obtain ⟨r10, rfl, hin_r10⟩ := z_hillR ho hr ha
    clear ho hr ha hE hP hI hx_
    rename x_I _ _ _ _ _ _ _ _ _ _ => hI
    refine lv_if_ne hx hb ti_d13 (tgt := 24) (by decide) (fun q13 => ?_) (fun q13 => ?_)
    · have q13_ : ¬ r10.toInt = (0 : Int32).toInt := fun q => q13 (Int32.toInt_inj.mp q)
      refine lv_aload_n hx hb ti_d24 rfl (lv_at hl 0 rfl) ?_
      refine y_call (z := (0, 260, 1, some 17, xM204)) (av := [.ref this]) (rest := []) (y_cok.of (x_cokV (n := 0) (ci := 12) X xm204 rfl rfl rfl (x_cons (x_bw81 9 rfl rfl) (x_cons (x_bw81 11 rfl rfl) (x_cons (x_at 55 (by decide +kernel) rfl) (x_cons (x_bw0 9 rfl rfl) x_nilm)))) (x_bw81 12 rfl rfl) (by decide +kernel) ⟨Nat.le_of_ble_eq_true rfl, Nat.le_of_ble_eq_true rfl⟩)) hY0 hI rfl ti_d25 hl.1 (Nat.le_of_ble_eq_true rfl) (Nat.le_of_ble_eq_true rfl) (Nat.le_of_ble_eq_true rfl) (y_cons (y_cref hY_this rfl) y_nil) rfl (y_recv rfl hY_this) trivial (y_sub_ef rfl) fun v Yn o Hn L ho hr ha hIn hx_ hE hP => ?_
      replace hs_rd := y_Efld hE hY_this rfl (by decide) (by decide) hs_rd
      replace hs_wt := y_Efld hE hY_this rfl (by decide) (by decide) hs_wt
      replace hs_laws := y_Efld hE hY_this rfl (by decide) (by decide) hs_laws
      replace hs_book := y_Efld hE hY_this rfl (by decide) (by decide) hs_book
      replace hA_bk := hA_bk.kept (y_Earr hE hY_bk rfl (by decide))
      replace hY_this := y_ext hx_ hI.1 hY_this
      replace hY_rd := y_ext hx_ hI.1 hY_rd
      replace hY_wt := y_ext hx_ hI.1 hY_wt
      replace hY_lw := y_ext hx_ hI.1 hY_lw
      replace hY_bk := y_ext hx_ hI.1 hY_bk
      obtain rfl := y_ansV rfl ho hr
      clear ho hr ha hE hP hI hx_
      rename x_I _ _ _ _ _ _ _ _ _ _ => hI
      obtain ⟨gl, hA_lw, hB_lw⟩ := y_arr hI.1 hY_lw rfl rfl
      obtain ⟨ff, hA_rd, hB_rd⟩ := y_arr hI.1 hY_rd rfl rfl
      obtain ⟨qq, hA_wt, hB_wt⟩ := y_arr hI.1 hY_wt rfl rfl
      replace hB_lw : ∀ j, j < 1024 → (0 : Int) ≤ (gl j).toInt ∧ (gl j).toInt ≤ 1 := fun j hj => by obtain ⟨x, e0, e1⟩ := hB_lw j hj; cases e0; exact e1
      replace hB_wt : (∀ j, j < 9216 → (0 : Int) ≤ (qq j).toInt ∧ (qq j).toInt ≤ 9215) := fun j hj => by obtain ⟨x, e0, e1⟩ := hB_wt j hj; cases e0; exact e1
      have hfm1 := hin_r2 q5
      have ht1 := hin_r10 q13
      refine lv_aload_n hx hb ti_d28 rfl (lv_at hl 0 rfl) ?_
      refine y_getf X (fl200 X.2.2.2.2.1) hI.1 hY_this rfl hs_laws ti_d29 ?_
      refine lv_iload_n hx hb ti_d32 rfl (lv_at hl 1 rfl) ?_
      refine y_zald X hI.1 hY_lw rfl hA_lw (by omega) (by show _ < (1024 : Int); omega) ti_d33 ?_
      obtain ⟨e33, hg_e33⟩ : ∃ e33 : Int32, gl fm.toInt.toNat = e33 := ⟨_, rfl⟩
      rw [hg_e33]
      have h_e33 : (0 : Int) ≤ e33.toInt ∧ e33.toInt ≤ 1 := by rw [← hg_e33]; exact hB_lw _ (by omega)
      refine lv_if_ne hx hb ti_d34 (tgt := 45) (by decide) (fun q34 => ?_) (fun q34 => ?_)
      · have q34_ : ¬ e33.toInt = (0 : Int32).toInt := fun q => q34 (Int32.toInt_inj.mp q)
        refine lv_iconst hx hb ti_d45 (v := 0) (by decide) ?_
        refine lv_istore_n hx hb ti_d46 rfl hl (by decide) (lv' := [(3, .int (0 : Int32)), (0, .ref this), (1, .int fm), (2, .int town)]) rfl fun ls hl => ?_
        exact ti_ini B hN ht1 (by omega) hB_lw hB_wt 9300 _ _ _ _ _ _ hI hY_this hY_rd hY_wt hY_lw hY_bk hs_rd hs_wt hs_laws hs_book hA_rd hA_wt hA_lw hA_bk hl (by omega) (by omega)
      · have q34_ : e33.toInt = (0 : Int32).toInt := by rw [q34]
        refine lv_aload_n hx hb ti_d37 rfl (lv_at hl 0 rfl) ?_
        refine lv_iconst hx hb ti_d38 (v := 1) (by decide) ?_
        have ec1 : (1 : Int32).toInt = 1 := by decide
        refine lv_bipush hx hb ti_d39 (v := (-20)) (by decide) ?_
        have ecm20 : ((-20) : Int32).toInt = (-20) := by decide
        refine y_call (z := (0, 76, 3, some 17, xM142)) (av := [.ref this, .int (1 : Int32), .int ((-20) : Int32)]) (rest := []) (y_cok.of (x_cokV (n := 2) (ci := 12) X xm142 rfl rfl rfl (x_cons (x_bw68 7 rfl rfl) (x_cons (x_bw68 9 rfl rfl) (x_cons (x_at 33 (by decide +kernel) rfl) (x_cons (x_bw0 9 rfl rfl) x_nilm)))) (x_bw68 10 rfl rfl) (by decide +kernel) ⟨Nat.le_of_ble_eq_true rfl, Nat.le_of_ble_eq_true rfl⟩)) hY0 hI rfl ti_d41 hl.1 (Nat.le_of_ble_eq_true rfl) (Nat.le_of_ble_eq_true rfl) (Nat.le_of_ble_eq_true rfl) (y_cons (y_cref hY_this rfl) (y_cons ⟨_, rfl, by show (0 : Int) ≤ _; omega, by show _ ≤ (2 : Int); omega⟩ (y_cons ⟨_, rfl, x_i32 _⟩ y_nil))) rfl (y_recv rfl hY_this) trivial (y_sub_ef rfl) fun v Yn o Hn L ho hr ha hIn hx_ hE hP => ?_
        replace hs_rd := y_Efld hE hY_this rfl (by decide) (by decide) hs_rd
        replace hs_wt := y_Efld hE hY_this rfl (by decide) (by decide) hs_wt
        replace hs_laws := y_Efld hE hY_this rfl (by decide) (by decide) hs_laws
        replace hs_book := y_Efld hE hY_this rfl (by decide) (by decide) hs_book
        replace hA_bk := hA_bk.kept (y_Earr hE hY_bk rfl (by decide))
        replace hA_lw := hA_lw.kept (y_Earr hE hY_lw rfl (by decide))
        replace hA_rd := hA_rd.kept (y_Earr hE hY_rd rfl (by decide))
        replace hA_wt := hA_wt.kept (y_Earr hE hY_wt rfl (by decide))
        replace hY_this := y_ext hx_ hI.1 hY_this
        replace hY_rd := y_ext hx_ hI.1 hY_rd
        replace hY_wt := y_ext hx_ hI.1 hY_wt
        replace hY_lw := y_ext hx_ hI.1 hY_lw
        replace hY_bk := y_ext hx_ hI.1 hY_bk
        obtain ⟨r41, rfl, h_r41⟩ := y_ansI (lo := (-2147483648)) (hi := 2147483647) (by decide) ho hr
        clear ho hr ha hE hP hI hx_
        rename x_I _ _ _ _ _ _ _ _ _ _ => hI
        exact y_ireturn B hI rfl rfl rfl List.mem_cons_self ⟨_, rfl, ⟨_, rfl, x_i32 _⟩⟩ (x_cs.mono B.2.2.2.2.2 (y_mon B hI)) trivial (Nat.le_refl _) (Nat.le_refl _) ti_d44
    · have q13_ : r10.toInt = (0 : Int32).toInt := by rw [q13]
      refine lv_aload_n hx hb ti_d16 rfl (lv_at hl 0 rfl) ?_
      refine lv_iconst hx hb ti_d17 (v := 0) (by decide) ?_
      refine lv_bipush hx hb ti_d18 (v := (-10)) (by decide) ?_
      have ecm10 : ((-10) : Int32).toInt = (-10) := by decide
      refine y_call (z := (0, 76, 3, some 17, xM142)) (av := [.ref this, .int (0 : Int32), .int ((-10) : Int32)]) (rest := []) (y_cok.of (x_cokV (n := 2) (ci := 12) X xm142 rfl rfl rfl (x_cons (x_bw68 7 rfl rfl) (x_cons (x_bw68 9 rfl rfl) (x_cons (x_at 33 (by decide +kernel) rfl) (x_cons (x_bw0 9 rfl rfl) x_nilm)))) (x_bw68 10 rfl rfl) (by decide +kernel) ⟨Nat.le_of_ble_eq_true rfl, Nat.le_of_ble_eq_true rfl⟩)) hY0 hI rfl ti_d20 hl.1 (Nat.le_of_ble_eq_true rfl) (Nat.le_of_ble_eq_true rfl) (Nat.le_of_ble_eq_true rfl) (y_cons (y_cref hY_this rfl) (y_cons ⟨_, rfl, by show (0 : Int) ≤ _; omega, by show _ ≤ (2 : Int); omega⟩ (y_cons ⟨_, rfl, x_i32 _⟩ y_nil))) rfl (y_recv rfl hY_this) trivial (y_sub_ef rfl) fun v Yn o Hn L ho hr ha hIn hx_ hE hP => ?_
      replace hs_rd := y_Efld hE hY_this rfl (by decide) (by decide) hs_rd
      replace hs_wt := y_Efld hE hY_this rfl (by decide) (by decide) hs_wt
      replace hs_laws := y_Efld hE hY_this rfl (by decide) (by decide) hs_laws
      replace hs_book := y_Efld hE hY_this rfl (by decide) (by decide) hs_book
      replace hA_bk := hA_bk.kept (y_Earr hE hY_bk rfl (by decide))
      replace hY_this := y_ext hx_ hI.1 hY_this
      replace hY_rd := y_ext hx_ hI.1 hY_rd
      replace hY_wt := y_ext hx_ hI.1 hY_wt
      replace hY_lw := y_ext hx_ hI.1 hY_lw
      replace hY_bk := y_ext hx_ hI.1 hY_bk
      obtain ⟨r20, rfl, h_r20⟩ := y_ansI (lo := (-2147483648)) (hi := 2147483647) (by decide) ho hr
      clear ho hr ha hE hP hI hx_
      rename x_I _ _ _ _ _ _ _ _ _ _ => hI
      exact y_ireturn B hI rfl rfl rfl List.mem_cons_self ⟨_, rfl, ⟨_, rfl, x_i32 _⟩⟩ (x_cs.mono B.2.2.2.2.2 (y_mon B hI)) trivial (Nat.le_refl _) (Nat.le_refl _) ti_d23

