theorem fl_rw_209 {s : State} {args : Array Value} (hts : ∀ w ∈ x_Tb, w.before args s = true) : x_fok vwCl x_G x_Tb s args "TwinFiresModel" (41, 17, 19) := ⟨12, _, RX12, TX12, "TwinFiresModel", rfl, rfl, Nat.le_of_ble_eq_true rfl, iX12, (hts _ (x_bw63 6 rfl rfl)), fun x h => h⟩
def xMrw : xM := (⟨"TwinFiresModel", "row", "(III)I"⟩, prog_14_method_58_code, 7, some .int, [xR false [17], xF, xF, xF], [([xR false [17], xF, xF, xF], some (xF))], [(50, 0), (51, 0), (55, 0), (56, 0), (57, 0)], (6, 148, 0, 0), none)
theorem rw_d0 : decode xMrw.2.1 0 = .ok (.aload_n 0, 1) := dz_ok (by decide +kernel)
theorem rw_d1 : decode xMrw.2.1 1 = .ok (.iload_n 1, 1) := dz_ok (by decide +kernel)
theorem rw_d2 : decode xMrw.2.1 2 = .ok (.invokevirtual 237, 3) := dz_ok (by decide +kernel)
theorem rw_d5 : decode xMrw.2.1 5 = .ok (.ifCond .eq 16, 3) := dz_ok (by decide +kernel)
theorem rw_d8 : decode xMrw.2.1 8 = .ok (.aload_n 0, 1) := dz_ok (by decide +kernel)
theorem rw_d9 : decode xMrw.2.1 9 = .ok (.iload_n 2, 1) := dz_ok (by decide +kernel)
theorem rw_d10 : decode xMrw.2.1 10 = .ok (.invokevirtual 237, 3) := dz_ok (by decide +kernel)
theorem rw_d13 : decode xMrw.2.1 13 = .ok (.ifCond .eq 8, 3) := dz_ok (by decide +kernel)
theorem rw_d16 : decode xMrw.2.1 16 = .ok (.iload_n 3, 1) := dz_ok (by decide +kernel)
theorem rw_d17 : decode xMrw.2.1 17 = .ok (.iconst (-1), 1) := dz_ok (by decide +kernel)
theorem rw_d18 : decode xMrw.2.1 18 = .ok (.if_icmp .ge 11, 3) := dz_ok (by decide +kernel)
theorem rw_d21 : decode xMrw.2.1 21 = .ok (.aload_n 0, 1) := dz_ok (by decide +kernel)
theorem rw_d22 : decode xMrw.2.1 22 = .ok (.iconst 0, 1) := dz_ok (by decide +kernel)
theorem rw_d23 : decode xMrw.2.1 23 = .ok (.bipush (-10), 2) := dz_ok (by decide +kernel)
theorem rw_d25 : decode xMrw.2.1 25 = .ok (.invokevirtual 76, 3) := dz_ok (by decide +kernel)
theorem rw_d28 : decode xMrw.2.1 28 = .ok (.ireturn, 1) := dz_ok (by decide +kernel)
theorem rw_d29 : decode xMrw.2.1 29 = .ok (.aload_n 0, 1) := dz_ok (by decide +kernel)
theorem rw_d30 : decode xMrw.2.1 30 = .ok (.invokevirtual 260, 3) := dz_ok (by decide +kernel)
theorem rw_d33 : decode xMrw.2.1 33 = .ok (.aload_n 0, 1) := dz_ok (by decide +kernel)
theorem rw_d34 : decode xMrw.2.1 34 = .ok (.getfield 38, 3) := dz_ok (by decide +kernel)
theorem rw_d37 : decode xMrw.2.1 37 = .ok (.iload_n 1, 1) := dz_ok (by decide +kernel)
theorem rw_d38 : decode xMrw.2.1 38 = .ok (.baload, 1) := dz_ok (by decide +kernel)
theorem rw_d39 : decode xMrw.2.1 39 = .ok (.ifCond .eq 12, 3) := dz_ok (by decide +kernel)
theorem rw_d42 : decode xMrw.2.1 42 = .ok (.aload_n 0, 1) := dz_ok (by decide +kernel)
theorem rw_d43 : decode xMrw.2.1 43 = .ok (.getfield 38, 3) := dz_ok (by decide +kernel)
theorem rw_d46 : decode xMrw.2.1 46 = .ok (.iload_n 2, 1) := dz_ok (by decide +kernel)
theorem rw_d47 : decode xMrw.2.1 47 = .ok (.baload, 1) := dz_ok (by decide +kernel)
theorem rw_d48 : decode xMrw.2.1 48 = .ok (.ifCond .ne 11, 3) := dz_ok (by decide +kernel)
theorem rw_d51 : decode xMrw.2.1 51 = .ok (.aload_n 0, 1) := dz_ok (by decide +kernel)
theorem rw_d52 : decode xMrw.2.1 52 = .ok (.iconst 1, 1) := dz_ok (by decide +kernel)
theorem rw_d53 : decode xMrw.2.1 53 = .ok (.bipush (-20), 2) := dz_ok (by decide +kernel)
theorem rw_d55 : decode xMrw.2.1 55 = .ok (.invokevirtual 76, 3) := dz_ok (by decide +kernel)
theorem rw_d58 : decode xMrw.2.1 58 = .ok (.ireturn, 1) := dz_ok (by decide +kernel)
theorem rw_d59 : decode xMrw.2.1 59 = .ok (.aload_n 0, 1) := dz_ok (by decide +kernel)
theorem rw_d60 : decode xMrw.2.1 60 = .ok (.iload_n 2, 1) := dz_ok (by decide +kernel)
theorem rw_d61 : decode xMrw.2.1 61 = .ok (.invokevirtual 263, 3) := dz_ok (by decide +kernel)
theorem rw_d64 : decode xMrw.2.1 64 = .ok (.aload_n 0, 1) := dz_ok (by decide +kernel)
theorem rw_d65 : decode xMrw.2.1 65 = .ok (.getfield 41, 3) := dz_ok (by decide +kernel)
theorem rw_d68 : decode xMrw.2.1 68 = .ok (.iload_n 1, 1) := dz_ok (by decide +kernel)
theorem rw_d69 : decode xMrw.2.1 69 = .ok (.iaload, 1) := dz_ok (by decide +kernel)
theorem rw_d70 : decode xMrw.2.1 70 = .ok (.iconst (-1), 1) := dz_ok (by decide +kernel)
theorem rw_d71 : decode xMrw.2.1 71 = .ok (.if_icmp .ne 6, 3) := dz_ok (by decide +kernel)
theorem rw_d74 : decode xMrw.2.1 74 = .ok (.bipush (-6), 2) := dz_ok (by decide +kernel)
theorem rw_d76 : decode xMrw.2.1 76 = .ok (.ireturn, 1) := dz_ok (by decide +kernel)
theorem rw_d77 : decode xMrw.2.1 77 = .ok (.iload_n 3, 1) := dz_ok (by decide +kernel)
theorem rw_d78 : decode xMrw.2.1 78 = .ok (.iconst (-1), 1) := dz_ok (by decide +kernel)
theorem rw_d79 : decode xMrw.2.1 79 = .ok (.if_icmp .ne 10, 3) := dz_ok (by decide +kernel)
theorem rw_d82 : decode xMrw.2.1 82 = .ok (.aload_n 0, 1) := dz_ok (by decide +kernel)
theorem rw_d83 : decode xMrw.2.1 83 = .ok (.getfield 41, 3) := dz_ok (by decide +kernel)
theorem rw_d86 : decode xMrw.2.1 86 = .ok (.iload_n 1, 1) := dz_ok (by decide +kernel)
theorem rw_d87 : decode xMrw.2.1 87 = .ok (.iaload, 1) := dz_ok (by decide +kernel)
theorem rw_d88 : decode xMrw.2.1 88 = .ok (.ireturn, 1) := dz_ok (by decide +kernel)
theorem rw_d89 : decode xMrw.2.1 89 = .ok (.iload_n 3, 1) := dz_ok (by decide +kernel)
theorem rw_d90 : decode xMrw.2.1 90 = .ok (.aload_n 0, 1) := dz_ok (by decide +kernel)
theorem rw_d91 : decode xMrw.2.1 91 = .ok (.getfield 41, 3) := dz_ok (by decide +kernel)
theorem rw_d94 : decode xMrw.2.1 94 = .ok (.iload_n 1, 1) := dz_ok (by decide +kernel)
theorem rw_d95 : decode xMrw.2.1 95 = .ok (.iaload, 1) := dz_ok (by decide +kernel)
theorem rw_d96 : decode xMrw.2.1 96 = .ok (.if_icmp .le 6, 3) := dz_ok (by decide +kernel)
theorem rw_d99 : decode xMrw.2.1 99 = .ok (.bipush (-5), 2) := dz_ok (by decide +kernel)
theorem rw_d101 : decode xMrw.2.1 101 = .ok (.ireturn, 1) := dz_ok (by decide +kernel)
theorem rw_d102 : decode xMrw.2.1 102 = .ok (.iload_n 1, 1) := dz_ok (by decide +kernel)
theorem rw_d103 : decode xMrw.2.1 103 = .ok (.istore 4, 2) := dz_ok (by decide +kernel)
theorem rw_d105 : decode xMrw.2.1 105 = .ok (.iconst 0, 1) := dz_ok (by decide +kernel)
theorem rw_d106 : decode xMrw.2.1 106 = .ok (.istore 5, 2) := dz_ok (by decide +kernel)
theorem rw_d108 : decode xMrw.2.1 108 = .ok (.iload 5, 2) := dz_ok (by decide +kernel)
theorem rw_d110 : decode xMrw.2.1 110 = .ok (.iload_n 3, 1) := dz_ok (by decide +kernel)
theorem rw_d111 : decode xMrw.2.1 111 = .ok (.if_icmp .ge 61, 3) := dz_ok (by decide +kernel)
theorem rw_d114 : decode xMrw.2.1 114 = .ok (.iconst 0, 1) := dz_ok (by decide +kernel)
theorem rw_d115 : decode xMrw.2.1 115 = .ok (.istore 6, 2) := dz_ok (by decide +kernel)
theorem rw_d117 : decode xMrw.2.1 117 = .ok (.aload_n 0, 1) := dz_ok (by decide +kernel)
theorem rw_d118 : decode xMrw.2.1 118 = .ok (.getfield 38, 3) := dz_ok (by decide +kernel)
theorem rw_d121 : decode xMrw.2.1 121 = .ok (.iload 6, 2) := dz_ok (by decide +kernel)
theorem rw_d123 : decode xMrw.2.1 123 = .ok (.baload, 1) := dz_ok (by decide +kernel)
theorem rw_d124 : decode xMrw.2.1 124 = .ok (.ifCond .eq 32, 3) := dz_ok (by decide +kernel)
theorem rw_d127 : decode xMrw.2.1 127 = .ok (.aload_n 0, 1) := dz_ok (by decide +kernel)
theorem rw_d128 : decode xMrw.2.1 128 = .ok (.getfield 41, 3) := dz_ok (by decide +kernel)
theorem rw_d131 : decode xMrw.2.1 131 = .ok (.iload 6, 2) := dz_ok (by decide +kernel)
theorem rw_d133 : decode xMrw.2.1 133 = .ok (.iaload, 1) := dz_ok (by decide +kernel)
theorem rw_d134 : decode xMrw.2.1 134 = .ok (.aload_n 0, 1) := dz_ok (by decide +kernel)
theorem rw_d135 : decode xMrw.2.1 135 = .ok (.getfield 41, 3) := dz_ok (by decide +kernel)
theorem rw_d138 : decode xMrw.2.1 138 = .ok (.iload 4, 2) := dz_ok (by decide +kernel)
theorem rw_d140 : decode xMrw.2.1 140 = .ok (.iaload, 1) := dz_ok (by decide +kernel)
theorem rw_d141 : decode xMrw.2.1 141 = .ok (.iconst 1, 1) := dz_ok (by decide +kernel)
theorem rw_d142 : decode xMrw.2.1 142 = .ok (.isub, 1) := dz_ok (by decide +kernel)
theorem rw_d143 : decode xMrw.2.1 143 = .ok (.if_icmp .ne 13, 3) := dz_ok (by decide +kernel)
theorem rw_d146 : decode xMrw.2.1 146 = .ok (.iload 4, 2) := dz_ok (by decide +kernel)
theorem rw_d148 : decode xMrw.2.1 148 = .ok (.iload 6, 2) := dz_ok (by decide +kernel)
theorem rw_d150 : decode xMrw.2.1 150 = .ok (.invokestatic 257, 3) := dz_ok (by decide +kernel)
theorem rw_d153 : decode xMrw.2.1 153 = .ok (.ifCond .ne 9, 3) := dz_ok (by decide +kernel)
theorem rw_d156 : decode xMrw.2.1 156 = .ok (.iinc 6 1, 3) := dz_ok (by decide +kernel)
theorem rw_d159 : decode xMrw.2.1 159 = .ok (.goto (-42), 3) := dz_ok (by decide +kernel)
theorem rw_d162 : decode xMrw.2.1 162 = .ok (.iload 6, 2) := dz_ok (by decide +kernel)
theorem rw_d164 : decode xMrw.2.1 164 = .ok (.istore 4, 2) := dz_ok (by decide +kernel)
theorem rw_d166 : decode xMrw.2.1 166 = .ok (.iinc 5 1, 3) := dz_ok (by decide +kernel)
theorem rw_d169 : decode xMrw.2.1 169 = .ok (.goto (-61), 3) := dz_ok (by decide +kernel)
theorem rw_d172 : decode xMrw.2.1 172 = .ok (.iload 4, 2) := dz_ok (by decide +kernel)
theorem rw_d174 : decode xMrw.2.1 174 = .ok (.ireturn, 1) := dz_ok (by decide +kernel)
theorem rw_in {p : Program} {l : Launch} {e : Env} {s : State} {m : MethodId} {below : List Frame} {meth : Method} {c : Code} {D : va_G} {U : State} {Y0 : xY} {av : List Value} (B : y_B vwCl x_Tb x_Nb xMrw p s m meth c D U Y0 av) {this fr lw : Nat} {fm to i set k pp : Int32} {gl ff : Nat → Int32} {N1 : Int} (hN : N1 ≤ 1023) (hset : 0 ≤ set.toInt ∧ set.toInt ≤ N1) (hpos : 0 < (ff set.toInt.toNat).toInt)
    (p0 : 0 ≤ pp.toInt) (p1 : pp.toInt ≤ N1) (p2 : ¬ gl pp.toInt.toNat = 0) (p3 : (ff pp.toInt.toNat).toInt = (ff set.toInt.toNat).toInt - 1) (p4 : z_step pp set) (hB_lw : ∀ j, j < 1024 → (0 : Int) ≤ (gl j).toInt ∧ (gl j).toInt ≤ 1)
    (out : ∀ (H : Heap) (Y : xY) (locs : List Loc) (ls : Array Slot) (next : Int32), x_I D x_G x_Zs U (x_efs xMrw) Y0 s.heap Y H locs → Y this = some 17 → Y fr = some 56 → Y lw = some 55 → x_sl D 12 19 this H = some (.ref fr) → x_sl D 12 18 this H = some (.ref lw) → y_A fr 1024 H ff → y_A lw 1024 H gl → lv_has ls xMrw.2.2.1 [(6, .int next), (5, .int k), (4, .int set), (0, .ref this), (1, .int fm), (2, .int to), (3, .int i)] → 0 ≤ next.toInt → next.toInt ≤ N1 → (ff next.toInt.toNat).toInt = (ff set.toInt.toNat).toInt - 1 → W p l e (x_rm xMrw) s m av.toArray below meth c H locs 0 0 (y_QQ below D x_G x_Zs U xMrw y_TP av Y0 s) (F0 m 162 ls [])) :
    ∀ (n : Nat) (H : Heap) (Y : xY) (locs : List Loc) (ls : Array Slot) (next : Int32), x_I D x_G x_Zs U (x_efs xMrw) Y0 s.heap Y H locs → Y this = some 17 → Y fr = some 56 → Y lw = some 55 → x_sl D 12 19 this H = some (.ref fr) → x_sl D 12 18 this H = some (.ref lw) → y_A fr 1024 H ff → y_A lw 1024 H gl → lv_has ls xMrw.2.2.1 [(6, .int next), (5, .int k), (4, .int set), (0, .ref this), (1, .int fm), (2, .int to), (3, .int i)] → 0 ≤ next.toInt → next.toInt ≤ pp.toInt → (pp.toInt - next.toInt).toNat < n → W p l e (x_rm xMrw) s m av.toArray below meth c H locs 0 0 (y_QQ below D x_G x_Zs U xMrw y_TP av Y0 s) (F0 m 117 ls []) := by
  have X := B.1
  have hx := X.1
  have hb := X.2.1
  have hY0 := B.2.2.2.2.1
  intro n
  induction n with
  | zero => intro H Y locs ls next _ _ _ _ _ _ _ _ _ _ _ h; exact absurd h (Nat.not_lt_zero _)
  | succ n ih =>
    intro H Y locs ls next hI hY_this hY_fr hY_lw hs_far hs_laws hA_fr hA_lw hl h_n0 h_n1 hn
    have hB_fr := ()
    have hsr := x_i32 (ff set.toInt.toNat)
    refine lv_aload_n hx hb rw_d117 rfl (lv_at hl 3 rfl) ?_
    refine y_getf X (fl200 X.2.2.2.2.1) hI.1 hY_this rfl hs_laws rw_d118 ?_
    refine lv_iload hx hb rw_d121 (lv_at hl 0 rfl) ?_
    refine y_zald X hI.1 hY_lw rfl hA_lw (by omega) (by show _ < (1024 : Int); omega) rw_d123 ?_
    obtain ⟨e123, hg_e123⟩ : ∃ e123 : Int32, gl next.toInt.toNat = e123 := ⟨_, rfl⟩
    rw [hg_e123]
    have h_e123 : (0 : Int) ≤ e123.toInt ∧ e123.toInt ≤ 1 := by rw [← hg_e123]; exact hB_lw _ (by omega)
    have ec0 : (0 : Int32).toInt = 0 := by decide
    refine lv_if_eq hx hb rw_d124 (tgt := 156) (by decide) (fun q124 => ?_) (fun q124 => ?_)
    · have q124_ : e123.toInt = (0 : Int32).toInt := by rw [q124]
      have hne : ¬ next.toInt = pp.toInt := fun q => p2 (by rw [← Int32.toInt_inj.mp q, hg_e123]; exact q124)
      obtain ⟨z156, hg_z156⟩ : ∃ z156 : Int32, next + Int32.ofInt 1 = z156 := ⟨_, rfl⟩
      have h_z156 : z156.toInt = next.toInt + 1 := by rw [← hg_z156]; exact y_inc (by decide) (by omega) (by omega)
      refine lv_iinc hx hb rw_d156 hl (k := 0) rfl hg_z156 (by decide) (lv' := [(6, .int z156), (5, .int k), (4, .int set), (0, .ref this), (1, .int fm), (2, .int to), (3, .int i)]) rfl fun ls hl => ?_
      refine lv_goto hx hb rw_d159 (tgt := 117) (by decide) ?_
      exact ih _ _ _ _ _ hI hY_this hY_fr hY_lw hs_far hs_laws hA_fr hA_lw (lv_sub hl [0, 1, 2, 3, 4, 5, 6] rfl) (by omega) (by omega) (by omega)
    · have q124_ : ¬ e123.toInt = (0 : Int32).toInt := fun q => q124 (Int32.toInt_inj.mp q)
      refine lv_aload_n hx hb rw_d127 rfl (lv_at hl 3 rfl) ?_
      refine y_getf X (fl_rw_209 X.2.2.2.2.1) hI.1 hY_this rfl hs_far rw_d128 ?_
      refine lv_iload hx hb rw_d131 (lv_at hl 0 rfl) ?_
      refine y_iald X hI.1 hY_fr rfl hA_fr (by omega) (by show _ < (1024 : Int); omega) rw_d133 ?_
      obtain ⟨e133, hg_e133⟩ : ∃ e133 : Int32, ff next.toInt.toNat = e133 := ⟨_, rfl⟩
      rw [hg_e133]
      refine lv_aload_n hx hb rw_d134 rfl (lv_at hl 3 rfl) ?_
      refine y_getf X (fl_rw_209 X.2.2.2.2.1) hI.1 hY_this rfl hs_far rw_d135 ?_
      refine lv_iload hx hb rw_d138 (lv_at hl 2 rfl) ?_
      refine y_iald X hI.1 hY_fr rfl hA_fr (by omega) (by show _ < (1024 : Int); omega) rw_d140 ?_
      obtain ⟨e140, hg_e140⟩ : ∃ e140 : Int32, ff set.toInt.toNat = e140 := ⟨_, rfl⟩
      rw [hg_e140]
      have h140 : e140.toInt = (ff set.toInt.toNat).toInt := by rw [← hg_e140]
      refine lv_iconst hx hb rw_d141 (v := 1) (by decide) ?_
      have ec1 : (1 : Int32).toInt = 1 := by decide
      refine lv_isub hx hb rw_d142 ?_
      generalize hg_z142 : e140 - (1 : Int32) = z142
      have h_z142 : z142.toInt = e140.toInt - (1 : Int32).toInt := by rw [← hg_z142]; exact y_sub (by omega) (by omega)
      refine lv_icmp_ne hx hb rw_d143 (tgt := 156) (by decide) (fun q143 => ?_) (fun q143 => ?_)
      · have q143_ : ¬ e133.toInt = z142.toInt := fun q => q143 (Int32.toInt_inj.mp q)
        have hne : ¬ next.toInt = pp.toInt := fun q => q143 (Int32.toInt_inj.mp (by rw [h_z142, ← hg_e133, ← hg_e140, Int32.toInt_inj.mp q, p3]; omega))
        obtain ⟨z156, hg_z156⟩ : ∃ z156 : Int32, next + Int32.ofInt 1 = z156 := ⟨_, rfl⟩
        have h_z156 : z156.toInt = next.toInt + 1 := by rw [← hg_z156]; exact y_inc (by decide) (by omega) (by omega)
        refine lv_iinc hx hb rw_d156 hl (k := 0) rfl hg_z156 (by decide) (lv' := [(6, .int z156), (5, .int k), (4, .int set), (0, .ref this), (1, .int fm), (2, .int to), (3, .int i)]) rfl fun ls hl => ?_
        refine lv_goto hx hb rw_d159 (tgt := 117) (by decide) ?_
        exact ih _ _ _ _ _ hI hY_this hY_fr hY_lw hs_far hs_laws hA_fr hA_lw (lv_sub hl [0, 1, 2, 3, 4, 5, 6] rfl) (by omega) (by omega) (by omega)
      · have q143_ : e133.toInt = z142.toInt := by rw [q143]
        refine lv_iload hx hb rw_d146 (lv_at hl 2 rfl) ?_
        refine lv_iload hx hb rw_d148 (lv_at hl 0 rfl) ?_
        refine y_call (z := (1, 257, 2, none, xM205)) (av := [.int set, .int next]) (rest := []) (y_cokS (n := 2) X ym_isStep (x_cons (x_bw82 1 rfl rfl) (x_cons (x_bw82 2 rfl rfl) (x_cons (x_bw0 9 rfl rfl) x_nilm))) (x_bw82 3 rfl rfl) (by decide +kernel) ⟨Nat.le_of_ble_eq_true rfl, Nat.le_of_ble_eq_true rfl⟩) hY0 hI rfl rw_d150 hl.1 (Nat.le_of_ble_eq_true rfl) (Nat.le_of_ble_eq_true rfl) (Nat.le_of_ble_eq_true rfl) (y_cons ⟨_, rfl, x_i32 _⟩ (y_cons ⟨_, rfl, x_i32 _⟩ y_nil)) rfl (y_norecv rfl) trivial (y_sub_ef rfl) fun v Yn o Hn L ho hr ha hIn hx_ hE hP => ?_
        replace hs_far := y_Efld hE hY_this rfl (by decide) (by decide) hs_far
        replace hs_laws := y_Efld hE hY_this rfl (by decide) (by decide) hs_laws
        replace hA_fr := hA_fr.kept (y_Earr hE hY_fr rfl (by decide))
        replace hA_lw := hA_lw.kept (y_Earr hE hY_lw rfl (by decide))
        replace hY_this := y_ext hx_ hI.1 hY_this
        replace hY_fr := y_ext hx_ hI.1 hY_fr
        replace hY_lw := y_ext hx_ hI.1 hY_lw
        obtain ⟨r150, rfl, hst_r150, hns_r150⟩ : ∃ r : Int32, v = some (.int r) ∧ (¬ r = 0 → z_step set next) ∧ (r = 0 → ¬ z_step set next) := z_stepR (hP _ _ rfl)
        clear ho hr ha hE hP hI hx_
        rename x_I _ _ _ _ _ _ _ _ _ _ => hI
        refine lv_if_ne hx hb rw_d153 (tgt := 162) (by decide) (fun q153 => ?_) (fun q153 => ?_)
        · have q153_ : ¬ r150.toInt = (0 : Int32).toInt := fun q => q153 (Int32.toInt_inj.mp q)
          exact out _ _ _ _ next hI hY_this hY_fr hY_lw hs_far hs_laws hA_fr hA_lw (lv_sub hl [0, 1, 2, 3, 4, 5, 6] rfl) h_n0 (by omega) (by rw [hg_e133]; rw [hg_e140]; omega)
        · have q153_ : r150.toInt = (0 : Int32).toInt := by rw [q153]
          have hne : ¬ next.toInt = pp.toInt := fun q => hns_r150 q153 (by rw [Int32.toInt_inj.mp q]; exact z_step_symm p4)
          obtain ⟨z156, hg_z156⟩ : ∃ z156 : Int32, next + Int32.ofInt 1 = z156 := ⟨_, rfl⟩
          have h_z156 : z156.toInt = next.toInt + 1 := by rw [← hg_z156]; exact y_inc (by decide) (by omega) (by omega)
          refine lv_iinc hx hb rw_d156 hl (k := 0) rfl hg_z156 (by decide) (lv' := [(6, .int z156), (5, .int k), (4, .int set), (0, .ref this), (1, .int fm), (2, .int to), (3, .int i)]) rfl fun ls hl => ?_
          refine lv_goto hx hb rw_d159 (tgt := 117) (by decide) ?_
          exact ih _ _ _ _ _ hI hY_this hY_fr hY_lw hs_far hs_laws hA_fr hA_lw (lv_sub hl [0, 1, 2, 3, 4, 5, 6] rfl) (by omega) (by omega) (by omega)
theorem rw_walk {p : Program} {l : Launch} {e : Env} {s : State} {m : MethodId} {below : List Frame} {meth : Method} {c : Code} {D : va_G} {U : State} {Y0 : xY} {av : List Value} (B : y_B vwCl x_Tb x_Nb xMrw p s m meth c D U Y0 av) {this fr lw : Nat} {fm to i : Int32} {gl ff : Nat → Int32} {N1 Fz : Int} (hN : N1 ≤ 1023) (hi : i.toInt ≤ Fz) (hPr : z_Pr N1 gl ff) (hB_lw : ∀ j, j < 1024 → (0 : Int) ≤ (gl j).toInt ∧ (gl j).toInt ≤ 1) :
    ∀ (n : Nat) (H : Heap) (Y : xY) (locs : List Loc) (ls : Array Slot) (k set : Int32), x_I D x_G x_Zs U (x_efs xMrw) Y0 s.heap Y H locs → Y this = some 17 → Y fr = some 56 → Y lw = some 55 → x_sl D 12 19 this H = some (.ref fr) → x_sl D 12 18 this H = some (.ref lw) → y_A fr 1024 H ff → y_A lw 1024 H gl → lv_has ls xMrw.2.2.1 [(5, .int k), (4, .int set), (0, .ref this), (1, .int fm), (2, .int to), (3, .int i)] → 0 ≤ set.toInt ∧ set.toInt ≤ N1 → (ff set.toInt.toNat).toInt = Fz - k.toInt → 0 ≤ k.toInt → (i.toInt - k.toInt).toNat < n → W p l e (x_rm xMrw) s m av.toArray below meth c H locs 0 0 (y_QQ below D x_G x_Zs U xMrw y_TP av Y0 s) (F0 m 108 ls []) := by
  have X := B.1
  have hx := X.1
  have hb := X.2.1
  have hY0 := B.2.2.2.2.1
  intro n
  induction n with
  | zero => intro H Y locs ls k set _ _ _ _ _ _ _ _ _ _ _ _ h; exact absurd h (Nat.not_lt_zero _)
  | succ n ih =>
    intro H Y locs ls k set hI hY_this hY_fr hY_lw hs_far hs_laws hA_fr hA_lw hl hset hF hk0 hn
    have hB_fr := ()
    have hi2 := x_i32 i
    refine lv_iload hx hb rw_d108 (lv_at hl 0 rfl) ?_
    refine lv_iload_n hx hb rw_d110 rfl (lv_at hl 5 rfl) ?_
    refine lv_icmp_ge hx hb rw_d111 (tgt := 172) (by decide) (fun q111 => ?_) (fun q111 => ?_)
    · have q111_ : i.toInt ≤ k.toInt := x_le32.mp q111
      refine lv_iload hx hb rw_d172 (lv_at hl 1 rfl) ?_
      exact y_ireturn B hI rfl rfl rfl List.mem_cons_self ⟨_, rfl, ⟨_, rfl, x_i32 _⟩⟩ (x_cs.mono B.2.2.2.2.2 (y_mon B hI)) trivial (Nat.le_refl _) (Nat.le_refl _) rw_d174
    · have q111_ : k.toInt < i.toInt := Int.not_le.mp fun q => q111 (x_le32.mpr q)
      refine lv_iconst hx hb rw_d114 (v := 0) (by decide) ?_
      have ec0 : (0 : Int32).toInt = 0 := by decide
      refine lv_istore hx hb rw_d115 hl (by decide) (lv' := [(6, .int (0 : Int32)), (5, .int k), (4, .int set), (0, .ref this), (1, .int fm), (2, .int to), (3, .int i)]) rfl fun ls hl => ?_
      have hpos : 0 < (ff set.toInt.toNat).toInt := by omega
      obtain ⟨pp, p0, p1, p2, p3, p4⟩ := hPr set hset.1 hset.2 hpos
      refine rw_in B hN hset hpos p0 p1 p2 p3 p4 hB_lw ?_ 1100 _ _ _ _ _ hI hY_this hY_fr hY_lw hs_far hs_laws hA_fr hA_lw (lv_sub hl [0, 1, 2, 3, 4, 5, 6] rfl) (by omega) (by omega) (by omega)
      intro H Y locs ls next hI hY_this hY_fr hY_lw hs_far hs_laws hA_fr hA_lw hl h_n0 h_n1 h_ff
      refine lv_iload hx hb rw_d162 (lv_at hl 0 rfl) ?_
      refine lv_istore hx hb rw_d164 hl (by decide) (lv' := [(4, .int next), (6, .int next), (5, .int k), (0, .ref this), (1, .int fm), (2, .int to), (3, .int i)]) rfl fun ls hl => ?_
      obtain ⟨z166, hg_z166⟩ : ∃ z166 : Int32, k + Int32.ofInt 1 = z166 := ⟨_, rfl⟩
      have h_z166 : z166.toInt = k.toInt + 1 := by rw [← hg_z166]; exact y_inc (by decide) (by omega) (by omega)
      refine lv_iinc hx hb rw_d166 hl (k := 2) rfl hg_z166 (by decide) (lv' := [(5, .int z166), (4, .int next), (6, .int next), (0, .ref this), (1, .int fm), (2, .int to), (3, .int i)]) rfl fun ls hl => ?_
      refine lv_goto hx hb rw_d169 (tgt := 108) (by decide) ?_
      exact ih _ _ _ _ _ _ hI hY_this hY_fr hY_lw hs_far hs_laws hA_fr hA_lw (lv_sub hl [0, 1, 3, 4, 5, 6] rfl) ⟨h_n0, h_n1⟩ (by omega) (by omega) (by omega)
theorem y_four {Y : xY} {t u w x : xV} {av : List Value} (h : x_cs Y [t, u, w, x] av) : ∃ a b c d, av = [a, b, c, d] ∧ x_c Y t a ∧ x_c Y u b ∧ x_c Y w c ∧ x_c Y x d := by
  obtain ⟨h1, h2⟩ := h
  match av, h1 with
  | [a, b, c, d], _ => exact ⟨a, b, c, d, rfl, h2 0 t a rfl rfl, h2 1 u b rfl rfl, h2 2 w c rfl rfl, h2 3 x d rfl rfl⟩
theorem ym_row : y_Met vwCl x_G x_Zs x_Tb x_Nb xMrw y_T y_TP := by
  refine y_main (by decide +kernel) (by decide +kernel) x_Tb_good x_Nb_ok ?_
  intro p l e s m below meth c D U Y0 av ls B hI _ hl
  have X := B.1
  have hx := X.1
  have hb := X.2.1
  have hY0 := B.2.2.2.2.1
  obtain ⟨v0, v1, v2, v3, rfl, hv0, ⟨fm, rfl, -⟩, ⟨to, rfl, -⟩, ⟨i, rfl, -⟩⟩ := y_four B.2.2.2.2.2
  obtain ⟨this, t0, rfl, ht0, hY_this⟩ := x_ref_at hv0 rfl
  obtain rfl := List.mem_singleton.mp ht0
  replace hl : lv_has ls xMrw.2.2.1 [(0, .ref this), (1, .int fm), (2, .int to), (3, .int i)] := hl
  obtain ⟨fr, hs_far, hY_fr⟩ := y_fldR (k := 19) hI.1 hY_this rfl rfl
  obtain ⟨lw, hs_laws, hY_lw⟩ := y_fldR (k := 18) hI.1 hY_this rfl rfl
  obtain ⟨bk, hs_book, hY_bk⟩ := y_fldR (k := 0) hI.1 hY_this rfl rfl
  obtain ⟨fb, hA_bk, hB_bk⟩ := y_arr hI.1 hY_bk rfl rfl
  have hN : 0 ≤ (z_all (fb 0)).toInt ∧ (z_all (fb 0)).toInt ≤ 1023 := z_all_b (by obtain ⟨x, e0, e1⟩ := hB_bk 0 (by decide); cases e0; exact e1)
  refine lv_aload_n hx hb rw_d0 rfl (lv_at hl 0 rfl) ?_
  refine lv_iload_n hx hb rw_d1 rfl (lv_at hl 1 rfl) ?_
  refine y_call (z := (0, 237, 2, some 17, xM184)) (av := [.ref this, .int fm]) (rest := []) (y_cokV (n := 1) (ci := 12) X ym_isSet rfl rfl rfl (x_cons (x_bw77 0 rfl rfl) (x_cons (x_bw77 2 rfl rfl) (x_cons (x_at 48 (by decide +kernel) rfl) (x_cons (x_bw0 9 rfl rfl) x_nilm)))) (x_bw77 3 rfl rfl) (by decide +kernel) ⟨Nat.le_of_ble_eq_true rfl, Nat.le_of_ble_eq_true rfl⟩) hY0 hI rfl rw_d2 hl.1 (Nat.le_of_ble_eq_true rfl) (Nat.le_of_ble_eq_true rfl) (Nat.le_of_ble_eq_true rfl) (y_cons (y_cref hY_this rfl) (y_cons ⟨_, rfl, x_i32 _⟩ y_nil)) rfl (y_recv rfl hY_this) trivial (y_sub_ef rfl) fun v Yn o Hn L ho hr ha hIn hx_ hE hP => ?_
  have hPv := hP _ _ _ _ rfl hs_book (hA_bk 0 (by decide))
  replace hs_far := y_Efld hE hY_this rfl (by decide) (by decide) hs_far
  replace hs_laws := y_Efld hE hY_this rfl (by decide) (by decide) hs_laws
  replace hs_book := y_Efld hE hY_this rfl (by decide) (by decide) hs_book
  replace hA_bk := hA_bk.kept (y_Earr hE hY_bk rfl (by decide))
  replace hY_this := y_ext hx_ hI.1 hY_this
  replace hY_fr := y_ext hx_ hI.1 hY_fr
  replace hY_lw := y_ext hx_ hI.1 hY_lw
  replace hY_bk := y_ext hx_ hI.1 hY_bk
  obtain ⟨r2, rfl, hin_r2, hout_r2⟩ := hPv
  clear ho hr ha hE hP hI hx_
  rename x_I _ _ _ _ _ _ _ _ _ _ => hI
  have ec0 : (0 : Int32).toInt = 0 := by decide
  refine lv_if_eq hx hb rw_d5 (tgt := 21) (by decide) (fun q5 => ?_) (fun q5 => ?_)
  · have q5_ : r2.toInt = (0 : Int32).toInt := by rw [q5]
    refine lv_aload_n hx hb rw_d21 rfl (lv_at hl 0 rfl) ?_
    refine lv_iconst hx hb rw_d22 (v := 0) (by decide) ?_
    refine lv_bipush hx hb rw_d23 (v := (-10)) (by decide) ?_
    have ecm10 : ((-10) : Int32).toInt = (-10) := by decide
    refine y_call (z := (0, 76, 3, some 17, xM142)) (av := [.ref this, .int (0 : Int32), .int ((-10) : Int32)]) (rest := []) (y_cok.of (x_cokV (n := 2) (ci := 12) X xm142 rfl rfl rfl (x_cons (x_bw68 7 rfl rfl) (x_cons (x_bw68 9 rfl rfl) (x_cons (x_at 33 (by decide +kernel) rfl) (x_cons (x_bw0 9 rfl rfl) x_nilm)))) (x_bw68 10 rfl rfl) (by decide +kernel) ⟨Nat.le_of_ble_eq_true rfl, Nat.le_of_ble_eq_true rfl⟩)) hY0 hI rfl rw_d25 hl.1 (Nat.le_of_ble_eq_true rfl) (Nat.le_of_ble_eq_true rfl) (Nat.le_of_ble_eq_true rfl) (y_cons (y_cref hY_this rfl) (y_cons ⟨_, rfl, by show (0 : Int) ≤ _; omega, by show _ ≤ (2 : Int); omega⟩ (y_cons ⟨_, rfl, x_i32 _⟩ y_nil))) rfl (y_recv rfl hY_this) trivial (y_sub_ef rfl) fun v Yn o Hn L ho hr ha hIn hx_ hE hP => ?_
    replace hs_far := y_Efld hE hY_this rfl (by decide) (by decide) hs_far
    replace hs_laws := y_Efld hE hY_this rfl (by decide) (by decide) hs_laws
    replace hs_book := y_Efld hE hY_this rfl (by decide) (by decide) hs_book
    replace hA_bk := hA_bk.kept (y_Earr hE hY_bk rfl (by decide))
    replace hY_this := y_ext hx_ hI.1 hY_this
    replace hY_fr := y_ext hx_ hI.1 hY_fr
    replace hY_lw := y_ext hx_ hI.1 hY_lw
    replace hY_bk := y_ext hx_ hI.1 hY_bk
    obtain ⟨r25, rfl, h_r25⟩ := y_ansI (lo := (-2147483648)) (hi := 2147483647) (by decide) ho hr
    clear ho hr ha hE hP hI hx_
    rename x_I _ _ _ _ _ _ _ _ _ _ => hI
    exact y_ireturn B hI rfl rfl rfl List.mem_cons_self ⟨_, rfl, ⟨_, rfl, x_i32 _⟩⟩ (x_cs.mono B.2.2.2.2.2 (y_mon B hI)) trivial (Nat.le_refl _) (Nat.le_refl _) rw_d28
  · have q5_ : ¬ r2.toInt = (0 : Int32).toInt := fun q => q5 (Int32.toInt_inj.mp q)
    refine lv_aload_n hx hb rw_d8 rfl (lv_at hl 0 rfl) ?_
    refine lv_iload_n hx hb rw_d9 rfl (lv_at hl 2 rfl) ?_
    refine y_call (z := (0, 237, 2, some 17, xM184)) (av := [.ref this, .int to]) (rest := []) (y_cokV (n := 1) (ci := 12) X ym_isSet rfl rfl rfl (x_cons (x_bw77 0 rfl rfl) (x_cons (x_bw77 2 rfl rfl) (x_cons (x_at 48 (by decide +kernel) rfl) (x_cons (x_bw0 9 rfl rfl) x_nilm)))) (x_bw77 3 rfl rfl) (by decide +kernel) ⟨Nat.le_of_ble_eq_true rfl, Nat.le_of_ble_eq_true rfl⟩) hY0 hI rfl rw_d10 hl.1 (Nat.le_of_ble_eq_true rfl) (Nat.le_of_ble_eq_true rfl) (Nat.le_of_ble_eq_true rfl) (y_cons (y_cref hY_this rfl) (y_cons ⟨_, rfl, x_i32 _⟩ y_nil)) rfl (y_recv rfl hY_this) trivial (y_sub_ef rfl) fun v Yn o Hn L ho hr ha hIn hx_ hE hP => ?_
    have hPv := hP _ _ _ _ rfl hs_book (hA_bk 0 (by decide))
    replace hs_far := y_Efld hE hY_this rfl (by decide) (by decide) hs_far
    replace hs_laws := y_Efld hE hY_this rfl (by decide) (by decide) hs_laws
    replace hs_book := y_Efld hE hY_this rfl (by decide) (by decide) hs_book
    replace hA_bk := hA_bk.kept (y_Earr hE hY_bk rfl (by decide))
    replace hY_this := y_ext hx_ hI.1 hY_this
    replace hY_fr := y_ext hx_ hI.1 hY_fr
    replace hY_lw := y_ext hx_ hI.1 hY_lw
    replace hY_bk := y_ext hx_ hI.1 hY_bk
    obtain ⟨r10, rfl, hin_r10, hout_r10⟩ := hPv
    clear ho hr ha hE hP hI hx_
    rename x_I _ _ _ _ _ _ _ _ _ _ => hI
    refine lv_if_eq hx hb rw_d13 (tgt := 21) (by decide) (fun q13 => ?_) (fun q13 => ?_)
    · have q13_ : r10.toInt = (0 : Int32).toInt := by rw [q13]
      refine lv_aload_n hx hb rw_d21 rfl (lv_at hl 0 rfl) ?_
      refine lv_iconst hx hb rw_d22 (v := 0) (by decide) ?_
      refine lv_bipush hx hb rw_d23 (v := (-10)) (by decide) ?_
      have ecm10 : ((-10) : Int32).toInt = (-10) := by decide
      refine y_call (z := (0, 76, 3, some 17, xM142)) (av := [.ref this, .int (0 : Int32), .int ((-10) : Int32)]) (rest := []) (y_cok.of (x_cokV (n := 2) (ci := 12) X xm142 rfl rfl rfl (x_cons (x_bw68 7 rfl rfl) (x_cons (x_bw68 9 rfl rfl) (x_cons (x_at 33 (by decide +kernel) rfl) (x_cons (x_bw0 9 rfl rfl) x_nilm)))) (x_bw68 10 rfl rfl) (by decide +kernel) ⟨Nat.le_of_ble_eq_true rfl, Nat.le_of_ble_eq_true rfl⟩)) hY0 hI rfl rw_d25 hl.1 (Nat.le_of_ble_eq_true rfl) (Nat.le_of_ble_eq_true rfl) (Nat.le_of_ble_eq_true rfl) (y_cons (y_cref hY_this rfl) (y_cons ⟨_, rfl, by show (0 : Int) ≤ _; omega, by show _ ≤ (2 : Int); omega⟩ (y_cons ⟨_, rfl, x_i32 _⟩ y_nil))) rfl (y_recv rfl hY_this) trivial (y_sub_ef rfl) fun v Yn o Hn L ho hr ha hIn hx_ hE hP => ?_
      replace hs_far := y_Efld hE hY_this rfl (by decide) (by decide) hs_far
      replace hs_laws := y_Efld hE hY_this rfl (by decide) (by decide) hs_laws
      replace hs_book := y_Efld hE hY_this rfl (by decide) (by decide) hs_book
      replace hA_bk := hA_bk.kept (y_Earr hE hY_bk rfl (by decide))
      replace hY_this := y_ext hx_ hI.1 hY_this
      replace hY_fr := y_ext hx_ hI.1 hY_fr
      replace hY_lw := y_ext hx_ hI.1 hY_lw
      replace hY_bk := y_ext hx_ hI.1 hY_bk
      obtain ⟨r25, rfl, h_r25⟩ := y_ansI (lo := (-2147483648)) (hi := 2147483647) (by decide) ho hr
      clear ho hr ha hE hP hI hx_
      rename x_I _ _ _ _ _ _ _ _ _ _ => hI
      exact y_ireturn B hI rfl rfl rfl List.mem_cons_self ⟨_, rfl, ⟨_, rfl, x_i32 _⟩⟩ (x_cs.mono B.2.2.2.2.2 (y_mon B hI)) trivial (Nat.le_refl _) (Nat.le_refl _) rw_d28
    · have q13_ : ¬ r10.toInt = (0 : Int32).toInt := fun q => q13 (Int32.toInt_inj.mp q)
      refine lv_iload_n hx hb rw_d16 rfl (lv_at hl 3 rfl) ?_
      refine lv_iconst hx hb rw_d17 (v := (-1)) (by decide) ?_
      have ecm1 : ((-1) : Int32).toInt = (-1) := by decide
      refine lv_icmp_ge hx hb rw_d18 (tgt := 29) (by decide) (fun q18 => ?_) (fun q18 => ?_)
      · have q18_ : ((-1) : Int32).toInt ≤ i.toInt := x_le32.mp q18
        refine lv_aload_n hx hb rw_d29 rfl (lv_at hl 0 rfl) ?_
        refine y_call (z := (0, 260, 1, some 17, xM204)) (av := [.ref this]) (rest := []) (y_cok.of (x_cokV (n := 0) (ci := 12) X xm204 rfl rfl rfl (x_cons (x_bw81 9 rfl rfl) (x_cons (x_bw81 11 rfl rfl) (x_cons (x_at 55 (by decide +kernel) rfl) (x_cons (x_bw0 9 rfl rfl) x_nilm)))) (x_bw81 12 rfl rfl) (by decide +kernel) ⟨Nat.le_of_ble_eq_true rfl, Nat.le_of_ble_eq_true rfl⟩)) hY0 hI rfl rw_d30 hl.1 (Nat.le_of_ble_eq_true rfl) (Nat.le_of_ble_eq_true rfl) (Nat.le_of_ble_eq_true rfl) (y_cons (y_cref hY_this rfl) y_nil) rfl (y_recv rfl hY_this) trivial (y_sub_ef rfl) fun v Yn o Hn L ho hr ha hIn hx_ hE hP => ?_
        replace hs_far := y_Efld hE hY_this rfl (by decide) (by decide) hs_far
        replace hs_laws := y_Efld hE hY_this rfl (by decide) (by decide) hs_laws
        replace hs_book := y_Efld hE hY_this rfl (by decide) (by decide) hs_book
        replace hA_bk := hA_bk.kept (y_Earr hE hY_bk rfl (by decide))
        replace hY_this := y_ext hx_ hI.1 hY_this
        replace hY_fr := y_ext hx_ hI.1 hY_fr
        replace hY_lw := y_ext hx_ hI.1 hY_lw
        replace hY_bk := y_ext hx_ hI.1 hY_bk
        obtain rfl := y_ansV rfl ho hr
        clear ho hr ha hE hP hI hx_
        rename x_I _ _ _ _ _ _ _ _ _ _ => hI
        obtain ⟨gl, hA_lw, hB_lw⟩ := y_arr hI.1 hY_lw rfl rfl
        replace hB_lw : ∀ j, j < 1024 → (0 : Int) ≤ (gl j).toInt ∧ (gl j).toInt ≤ 1 := fun j hj => by obtain ⟨x, e0, e1⟩ := hB_lw j hj; cases e0; exact e1
        have hfm1 := hin_r2 q5
        have hto1 := hin_r10 q13
        have hB_fr := ()
        refine lv_aload_n hx hb rw_d33 rfl (lv_at hl 0 rfl) ?_
        refine y_getf X (fl200 X.2.2.2.2.1) hI.1 hY_this rfl hs_laws rw_d34 ?_
        refine lv_iload_n hx hb rw_d37 rfl (lv_at hl 1 rfl) ?_
        refine y_zald X hI.1 hY_lw rfl hA_lw (by omega) (by show _ < (1024 : Int); omega) rw_d38 ?_
        obtain ⟨e38, hg_e38⟩ : ∃ e38 : Int32, gl fm.toInt.toNat = e38 := ⟨_, rfl⟩
        rw [hg_e38]
        have h_e38 : (0 : Int) ≤ e38.toInt ∧ e38.toInt ≤ 1 := by rw [← hg_e38]; exact hB_lw _ (by omega)
        refine lv_if_eq hx hb rw_d39 (tgt := 51) (by decide) (fun q39 => ?_) (fun q39 => ?_)
        · have q39_ : e38.toInt = (0 : Int32).toInt := by rw [q39]
          refine lv_aload_n hx hb rw_d51 rfl (lv_at hl 0 rfl) ?_
          refine lv_iconst hx hb rw_d52 (v := 1) (by decide) ?_
          have ec1 : (1 : Int32).toInt = 1 := by decide
          refine lv_bipush hx hb rw_d53 (v := (-20)) (by decide) ?_
          have ecm20 : ((-20) : Int32).toInt = (-20) := by decide
          refine y_call (z := (0, 76, 3, some 17, xM142)) (av := [.ref this, .int (1 : Int32), .int ((-20) : Int32)]) (rest := []) (y_cok.of (x_cokV (n := 2) (ci := 12) X xm142 rfl rfl rfl (x_cons (x_bw68 7 rfl rfl) (x_cons (x_bw68 9 rfl rfl) (x_cons (x_at 33 (by decide +kernel) rfl) (x_cons (x_bw0 9 rfl rfl) x_nilm)))) (x_bw68 10 rfl rfl) (by decide +kernel) ⟨Nat.le_of_ble_eq_true rfl, Nat.le_of_ble_eq_true rfl⟩)) hY0 hI rfl rw_d55 hl.1 (Nat.le_of_ble_eq_true rfl) (Nat.le_of_ble_eq_true rfl) (Nat.le_of_ble_eq_true rfl) (y_cons (y_cref hY_this rfl) (y_cons ⟨_, rfl, by show (0 : Int) ≤ _; omega, by show _ ≤ (2 : Int); omega⟩ (y_cons ⟨_, rfl, x_i32 _⟩ y_nil))) rfl (y_recv rfl hY_this) trivial (y_sub_ef rfl) fun v Yn o Hn L ho hr ha hIn hx_ hE hP => ?_
          replace hs_far := y_Efld hE hY_this rfl (by decide) (by decide) hs_far
          replace hs_laws := y_Efld hE hY_this rfl (by decide) (by decide) hs_laws
          replace hs_book := y_Efld hE hY_this rfl (by decide) (by decide) hs_book
          replace hA_bk := hA_bk.kept (y_Earr hE hY_bk rfl (by decide))
          replace hA_lw := hA_lw.kept (y_Earr hE hY_lw rfl (by decide))
          replace hY_this := y_ext hx_ hI.1 hY_this
          replace hY_fr := y_ext hx_ hI.1 hY_fr
          replace hY_lw := y_ext hx_ hI.1 hY_lw
          replace hY_bk := y_ext hx_ hI.1 hY_bk
          obtain ⟨r55, rfl, h_r55⟩ := y_ansI (lo := (-2147483648)) (hi := 2147483647) (by decide) ho hr
          clear ho hr ha hE hP hI hx_
          rename x_I _ _ _ _ _ _ _ _ _ _ => hI
          exact y_ireturn B hI rfl rfl rfl List.mem_cons_self ⟨_, rfl, ⟨_, rfl, x_i32 _⟩⟩ (x_cs.mono B.2.2.2.2.2 (y_mon B hI)) trivial (Nat.le_refl _) (Nat.le_refl _) rw_d58
        · have q39_ : ¬ e38.toInt = (0 : Int32).toInt := fun q => q39 (Int32.toInt_inj.mp q)
          refine lv_aload_n hx hb rw_d42 rfl (lv_at hl 0 rfl) ?_
          refine y_getf X (fl200 X.2.2.2.2.1) hI.1 hY_this rfl hs_laws rw_d43 ?_
          refine lv_iload_n hx hb rw_d46 rfl (lv_at hl 2 rfl) ?_
          refine y_zald X hI.1 hY_lw rfl hA_lw (by omega) (by show _ < (1024 : Int); omega) rw_d47 ?_
          obtain ⟨e47, hg_e47⟩ : ∃ e47 : Int32, gl to.toInt.toNat = e47 := ⟨_, rfl⟩
          rw [hg_e47]
          have h_e47 : (0 : Int) ≤ e47.toInt ∧ e47.toInt ≤ 1 := by rw [← hg_e47]; exact hB_lw _ (by omega)
          refine lv_if_ne hx hb rw_d48 (tgt := 59) (by decide) (fun q48 => ?_) (fun q48 => ?_)
          · have q48_ : ¬ e47.toInt = (0 : Int32).toInt := fun q => q48 (Int32.toInt_inj.mp q)
            refine lv_aload_n hx hb rw_d59 rfl (lv_at hl 0 rfl) ?_
            refine lv_iload_n hx hb rw_d60 rfl (lv_at hl 2 rfl) ?_
            refine y_call (z := (0, 263, 2, some 17, xMsp)) (av := [.ref this, .int to]) (rest := []) (y_cokV (n := 1) (ci := 12) X ym_spreads rfl rfl rfl (x_cons (x_bw81 13 rfl rfl) (x_cons (x_bw81 15 rfl rfl) (x_cons (x_at 56 (by decide +kernel) rfl) (x_cons (x_bw0 9 rfl rfl) x_nilm)))) (x_bw82 0 rfl rfl) (by decide +kernel) ⟨Nat.le_of_ble_eq_true rfl, Nat.le_of_ble_eq_true rfl⟩) hY0 hI rfl rw_d61 hl.1 (Nat.le_of_ble_eq_true rfl) (Nat.le_of_ble_eq_true rfl) (Nat.le_of_ble_eq_true rfl) (y_cons (y_cref hY_this rfl) (y_cons ⟨_, rfl, by show (0 : Int) ≤ _; omega, by show _ ≤ (1023 : Int); omega⟩ y_nil)) rfl (y_recv rfl hY_this) trivial (y_sub_ef rfl) fun v Yn o Hn L ho hr ha hIn hx_ hE hP => ?_
            have hPv := hP _ fr _ _ _ _ _ rfl hs_book hA_bk hs_laws hA_lw hs_far (by have := hin_r10 q13; omega) (by rw [hg_e47]; exact q48)
            replace hs_far := y_Efld hE hY_this rfl (by decide) (by decide) hs_far
            replace hs_laws := y_Efld hE hY_this rfl (by decide) (by decide) hs_laws
            replace hs_book := y_Efld hE hY_this rfl (by decide) (by decide) hs_book
            replace hA_bk := hA_bk.kept (y_Earr hE hY_bk rfl (by decide))
            replace hA_lw := hA_lw.kept (y_Earr hE hY_lw rfl (by decide))
            replace hY_this := y_ext hx_ hI.1 hY_this
            replace hY_fr := y_ext hx_ hI.1 hY_fr
            replace hY_lw := y_ext hx_ hI.1 hY_lw
            replace hY_bk := y_ext hx_ hI.1 hY_bk
            obtain rfl := y_ansV rfl ho hr
            obtain ⟨ff, hA_fr, hff0, hPr⟩ := hPv
            clear ho hr ha hE hP hI hx_
            rename x_I _ _ _ _ _ _ _ _ _ _ => hI
            refine lv_aload_n hx hb rw_d64 rfl (lv_at hl 0 rfl) ?_
            refine y_getf X (fl_rw_209 X.2.2.2.2.1) hI.1 hY_this rfl hs_far rw_d65 ?_
            refine lv_iload_n hx hb rw_d68 rfl (lv_at hl 1 rfl) ?_
            refine y_iald X hI.1 hY_fr rfl hA_fr (by omega) (by show _ < (1024 : Int); omega) rw_d69 ?_
            obtain ⟨e69, hg_e69⟩ : ∃ e69 : Int32, ff fm.toInt.toNat = e69 := ⟨_, rfl⟩
            rw [hg_e69]
            refine lv_iconst hx hb rw_d70 (v := (-1)) (by decide) ?_
            refine lv_icmp_ne hx hb rw_d71 (tgt := 77) (by decide) (fun q71 => ?_) (fun q71 => ?_)
            · have q71_ : ¬ e69.toInt = ((-1) : Int32).toInt := fun q => q71 (Int32.toInt_inj.mp q)
              refine lv_iload_n hx hb rw_d77 rfl (lv_at hl 3 rfl) ?_
              refine lv_iconst hx hb rw_d78 (v := (-1)) (by decide) ?_
              refine lv_icmp_ne hx hb rw_d79 (tgt := 89) (by decide) (fun q79 => ?_) (fun q79 => ?_)
              · have q79_ : ¬ i.toInt = ((-1) : Int32).toInt := fun q => q79 (Int32.toInt_inj.mp q)
                refine lv_iload_n hx hb rw_d89 rfl (lv_at hl 3 rfl) ?_
                refine lv_aload_n hx hb rw_d90 rfl (lv_at hl 0 rfl) ?_
                refine y_getf X (fl_rw_209 X.2.2.2.2.1) hI.1 hY_this rfl hs_far rw_d91 ?_
                refine lv_iload_n hx hb rw_d94 rfl (lv_at hl 1 rfl) ?_
                refine y_iald X hI.1 hY_fr rfl hA_fr (by omega) (by show _ < (1024 : Int); omega) rw_d95 ?_
                obtain ⟨e95, hg_e95⟩ : ∃ e95 : Int32, ff fm.toInt.toNat = e95 := ⟨_, rfl⟩
                rw [hg_e95]
                refine lv_icmp_le hx hb rw_d96 (tgt := 102) (by decide) (fun q96 => ?_) (fun q96 => ?_)
                · have q96_ : i.toInt ≤ e95.toInt := x_le32.mp q96
                  refine lv_iload_n hx hb rw_d102 rfl (lv_at hl 1 rfl) ?_
                  refine lv_istore hx hb rw_d103 hl (by decide) (lv' := [(4, .int fm), (0, .ref this), (1, .int fm), (2, .int to), (3, .int i)]) rfl fun ls hl => ?_
                  refine lv_iconst hx hb rw_d105 (v := 0) (by decide) ?_
                  refine lv_istore hx hb rw_d106 hl (by decide) (lv' := [(5, .int (0 : Int32)), (4, .int fm), (0, .ref this), (1, .int fm), (2, .int to), (3, .int i)]) rfl fun ls hl => ?_
                  exact rw_walk B hN.2 (Fz := e95.toInt) (by omega) hPr hB_lw (i.toInt.toNat + 1) _ _ _ _ _ _ hI hY_this hY_fr hY_lw hs_far hs_laws hA_fr hA_lw hl (by omega) (by rw [hg_e95]; omega) (by omega) (by omega)
                · have q96_ : e95.toInt < i.toInt := Int.not_le.mp fun q => q96 (x_le32.mpr q)
                  refine lv_bipush hx hb rw_d99 (v := (-5)) (by decide) ?_
                  have ecm5 : ((-5) : Int32).toInt = (-5) := by decide
                  exact y_ireturn B hI rfl rfl rfl List.mem_cons_self ⟨_, rfl, ⟨_, rfl, x_i32 _⟩⟩ (x_cs.mono B.2.2.2.2.2 (y_mon B hI)) trivial (Nat.le_refl _) (Nat.le_refl _) rw_d101
              · have q79_ : i.toInt = ((-1) : Int32).toInt := by rw [q79]
                refine lv_aload_n hx hb rw_d82 rfl (lv_at hl 0 rfl) ?_
                refine y_getf X (fl_rw_209 X.2.2.2.2.1) hI.1 hY_this rfl hs_far rw_d83 ?_
                refine lv_iload_n hx hb rw_d86 rfl (lv_at hl 1 rfl) ?_
                refine y_iald X hI.1 hY_fr rfl hA_fr (by omega) (by show _ < (1024 : Int); omega) rw_d87 ?_
                obtain ⟨e87, hg_e87⟩ : ∃ e87 : Int32, ff fm.toInt.toNat = e87 := ⟨_, rfl⟩
                rw [hg_e87]
                exact y_ireturn B hI rfl rfl rfl List.mem_cons_self ⟨_, rfl, ⟨_, rfl, x_i32 _⟩⟩ (x_cs.mono B.2.2.2.2.2 (y_mon B hI)) trivial (Nat.le_refl _) (Nat.le_refl _) rw_d88
            · have q71_ : e69.toInt = ((-1) : Int32).toInt := by rw [q71]
              refine lv_bipush hx hb rw_d74 (v := (-6)) (by decide) ?_
              have ecm6 : ((-6) : Int32).toInt = (-6) := by decide
              exact y_ireturn B hI rfl rfl rfl List.mem_cons_self ⟨_, rfl, ⟨_, rfl, x_i32 _⟩⟩ (x_cs.mono B.2.2.2.2.2 (y_mon B hI)) trivial (Nat.le_refl _) (Nat.le_refl _) rw_d76
          · have q48_ : e47.toInt = (0 : Int32).toInt := by rw [q48]
            refine lv_aload_n hx hb rw_d51 rfl (lv_at hl 0 rfl) ?_
            refine lv_iconst hx hb rw_d52 (v := 1) (by decide) ?_
            have ec1 : (1 : Int32).toInt = 1 := by decide
            refine lv_bipush hx hb rw_d53 (v := (-20)) (by decide) ?_
            have ecm20 : ((-20) : Int32).toInt = (-20) := by decide
            refine y_call (z := (0, 76, 3, some 17, xM142)) (av := [.ref this, .int (1 : Int32), .int ((-20) : Int32)]) (rest := []) (y_cok.of (x_cokV (n := 2) (ci := 12) X xm142 rfl rfl rfl (x_cons (x_bw68 7 rfl rfl) (x_cons (x_bw68 9 rfl rfl) (x_cons (x_at 33 (by decide +kernel) rfl) (x_cons (x_bw0 9 rfl rfl) x_nilm)))) (x_bw68 10 rfl rfl) (by decide +kernel) ⟨Nat.le_of_ble_eq_true rfl, Nat.le_of_ble_eq_true rfl⟩)) hY0 hI rfl rw_d55 hl.1 (Nat.le_of_ble_eq_true rfl) (Nat.le_of_ble_eq_true rfl) (Nat.le_of_ble_eq_true rfl) (y_cons (y_cref hY_this rfl) (y_cons ⟨_, rfl, by show (0 : Int) ≤ _; omega, by show _ ≤ (2 : Int); omega⟩ (y_cons ⟨_, rfl, x_i32 _⟩ y_nil))) rfl (y_recv rfl hY_this) trivial (y_sub_ef rfl) fun v Yn o Hn L ho hr ha hIn hx_ hE hP => ?_
            replace hs_far := y_Efld hE hY_this rfl (by decide) (by decide) hs_far
            replace hs_laws := y_Efld hE hY_this rfl (by decide) (by decide) hs_laws
            replace hs_book := y_Efld hE hY_this rfl (by decide) (by decide) hs_book
            replace hA_bk := hA_bk.kept (y_Earr hE hY_bk rfl (by decide))
            replace hA_lw := hA_lw.kept (y_Earr hE hY_lw rfl (by decide))
            replace hY_this := y_ext hx_ hI.1 hY_this
            replace hY_fr := y_ext hx_ hI.1 hY_fr
            replace hY_lw := y_ext hx_ hI.1 hY_lw
            replace hY_bk := y_ext hx_ hI.1 hY_bk
            obtain ⟨r55, rfl, h_r55⟩ := y_ansI (lo := (-2147483648)) (hi := 2147483647) (by decide) ho hr
            clear ho hr ha hE hP hI hx_
            rename x_I _ _ _ _ _ _ _ _ _ _ => hI
            exact y_ireturn B hI rfl rfl rfl List.mem_cons_self ⟨_, rfl, ⟨_, rfl, x_i32 _⟩⟩ (x_cs.mono B.2.2.2.2.2 (y_mon B hI)) trivial (Nat.le_refl _) (Nat.le_refl _) rw_d58
      · have q18_ : i.toInt < ((-1) : Int32).toInt := Int.not_le.mp fun q => q18 (x_le32.mpr q)
        refine lv_aload_n hx hb rw_d21 rfl (lv_at hl 0 rfl) ?_
        refine lv_iconst hx hb rw_d22 (v := 0) (by decide) ?_
        refine lv_bipush hx hb rw_d23 (v := (-10)) (by decide) ?_
        have ecm10 : ((-10) : Int32).toInt = (-10) := by decide
        refine y_call (z := (0, 76, 3, some 17, xM142)) (av := [.ref this, .int (0 : Int32), .int ((-10) : Int32)]) (rest := []) (y_cok.of (x_cokV (n := 2) (ci := 12) X xm142 rfl rfl rfl (x_cons (x_bw68 7 rfl rfl) (x_cons (x_bw68 9 rfl rfl) (x_cons (x_at 33 (by decide +kernel) rfl) (x_cons (x_bw0 9 rfl rfl) x_nilm)))) (x_bw68 10 rfl rfl) (by decide +kernel) ⟨Nat.le_of_ble_eq_true rfl, Nat.le_of_ble_eq_true rfl⟩)) hY0 hI rfl rw_d25 hl.1 (Nat.le_of_ble_eq_true rfl) (Nat.le_of_ble_eq_true rfl) (Nat.le_of_ble_eq_true rfl) (y_cons (y_cref hY_this rfl) (y_cons ⟨_, rfl, by show (0 : Int) ≤ _; omega, by show _ ≤ (2 : Int); omega⟩ (y_cons ⟨_, rfl, x_i32 _⟩ y_nil))) rfl (y_recv rfl hY_this) trivial (y_sub_ef rfl) fun v Yn o Hn L ho hr ha hIn hx_ hE hP => ?_
        replace hs_far := y_Efld hE hY_this rfl (by decide) (by decide) hs_far
        replace hs_laws := y_Efld hE hY_this rfl (by decide) (by decide) hs_laws
        replace hs_book := y_Efld hE hY_this rfl (by decide) (by decide) hs_book
        replace hA_bk := hA_bk.kept (y_Earr hE hY_bk rfl (by decide))
        replace hY_this := y_ext hx_ hI.1 hY_this
        replace hY_fr := y_ext hx_ hI.1 hY_fr
        replace hY_lw := y_ext hx_ hI.1 hY_lw
        replace hY_bk := y_ext hx_ hI.1 hY_bk
        obtain ⟨r25, rfl, h_r25⟩ := y_ansI (lo := (-2147483648)) (hi := 2147483647) (by decide) ho hr
        clear ho hr ha hE hP hI hx_
        rename x_I _ _ _ _ _ _ _ _ _ _ => hI
        exact y_ireturn B hI rfl rfl rfl List.mem_cons_self ⟨_, rfl, ⟨_, rfl, x_i32 _⟩⟩ (x_cs.mono B.2.2.2.2.2 (y_mon B hI)) trivial (Nat.le_refl _) (Nat.le_refl _) rw_d28

