def z_Pfvq : yP := fun _ av _ _ _ _ H' => ∀ (a : Nat) (v9 : Int32), av = [.ref a, .int v9] → y_A a 10 H' (fun _ => v9)
theorem fvq_d0 : decode xM50.2.1 0 = .ok (.iconst 0, 1) := dz_ok (by decide +kernel)
theorem fvq_d1 : decode xM50.2.1 1 = .ok (.istore_n 2, 1) := dz_ok (by decide +kernel)
theorem fvq_d2 : decode xM50.2.1 2 = .ok (.aload_n 0, 1) := dz_ok (by decide +kernel)
theorem fvq_d3 : decode xM50.2.1 3 = .ok (.arraylength, 1) := dz_ok (by decide +kernel)
theorem fvq_d4 : decode xM50.2.1 4 = .ok (.istore_n 3, 1) := dz_ok (by decide +kernel)
theorem fvq_d5 : decode xM50.2.1 5 = .ok (.iload_n 2, 1) := dz_ok (by decide +kernel)
theorem fvq_d6 : decode xM50.2.1 6 = .ok (.iload_n 3, 1) := dz_ok (by decide +kernel)
theorem fvq_d7 : decode xM50.2.1 7 = .ok (.if_icmp .ge 13, 3) := dz_ok (by decide +kernel)
theorem fvq_d10 : decode xM50.2.1 10 = .ok (.aload_n 0, 1) := dz_ok (by decide +kernel)
theorem fvq_d11 : decode xM50.2.1 11 = .ok (.iload_n 2, 1) := dz_ok (by decide +kernel)
theorem fvq_d12 : decode xM50.2.1 12 = .ok (.iload_n 1, 1) := dz_ok (by decide +kernel)
theorem fvq_d13 : decode xM50.2.1 13 = .ok (.iastore, 1) := dz_ok (by decide +kernel)
theorem fvq_d14 : decode xM50.2.1 14 = .ok (.iinc 2 1, 3) := dz_ok (by decide +kernel)
theorem fvq_d17 : decode xM50.2.1 17 = .ok (.goto (-12), 3) := dz_ok (by decide +kernel)
theorem fvq_d20 : decode xM50.2.1 20 = .ok (.return_, 1) := dz_ok (by decide +kernel)
theorem fvq_L5 {p : Program} {l : Launch} {e : Env} {s : State} {m : MethodId} {below : List Frame} {meth : Method} {c : Code} {D : va_G} {U : State} {Y0 : xY} {av : List Value} (B : y_B vwCl x_Tb x_Nb xM50 p s m meth c D U Y0 av) {ar : Nat} {v9 : Int32} (hav : av = [.ref ar, .int v9]) (hv : 0 ≤ v9.toInt ∧ v9.toInt ≤ 0)  :
    ∀ (n : Nat), ∀ (H : Heap) (Y : xY) (locs : List Loc) (ls : Array Slot) (i : Int32) (fa : Nat → Int32), x_I D x_G x_Zs U (x_efs xM50) Y0 s.heap Y H locs → Y ar = some 32 → y_A ar 10 H fa → lv_has ls xM50.2.2.1 [(2, .int i), (3, .int (nI 10)), (0, .ref ar), (1, .int v9)] → (0 ≤ i.toInt ∧ i.toInt ≤ 10) → ((nI 10).toInt = 10) → (∀ j : Nat, (j : Int) < i.toInt → fa j = v9) → (10 - i.toInt).toNat < n → W p l e (x_rm xM50) s m av.toArray below meth c H locs 0 0 (y_QQ below D x_G x_Zs U xM50 z_Pfvq av Y0 s) (F0 m 5 ls []) := by
  have X := B.1
  have hx := X.1
  have hb := X.2.1
  have hY0 := B.2.2.2.2.1
  intro n
  induction n with
  | zero => intro _ _ _ _ _ _ _ _ _ _ _ _ _ h; exact absurd h (Nat.not_lt_zero _)
  | succ n ih =>
    intro H Y locs ls i fa hI hY_ar hA_ar hl hi hN hfi hn
    refine lv_iload_n hx hb fvq_d5 rfl (lv_at hl 0 rfl) ?_
    refine lv_iload_n hx hb fvq_d6 rfl (lv_at hl 1 rfl) ?_
    refine lv_icmp_ge hx hb fvq_d7 (tgt := 20) (by decide) (fun q7 => ?_) (fun q7 => ?_)
    · have q7_ : (nI 10).toInt ≤ i.toInt := x_le32.mp q7
      subst hav
      exact y_return B hI rfl rfl List.mem_cons_self rfl (x_cs.mono B.2.2.2.2.2 (y_mon B hI)) (fun a' v' h1 => by cases h1; exact fun j hj => by rw [hA_ar j hj, hfi j (by omega)]) (Nat.le_refl _) (Nat.le_refl _) fvq_d20
    · have q7_ : i.toInt < (nI 10).toInt := Int.not_le.mp fun q => q7 (x_le32.mpr q)
      refine lv_aload_n hx hb fvq_d10 rfl (lv_at hl 2 rfl) ?_
      refine lv_iload_n hx hb fvq_d11 rfl (lv_at hl 0 rfl) ?_
      refine lv_iload_n hx hb fvq_d12 rfl (lv_at hl 3 rfl) ?_
      refine y_iast X hY0 hI hY_ar rfl hA_ar (by omega) (by show _ < (10 : Int); omega) ⟨_, rfl, x_i32 _⟩ (by decide +kernel) fvq_d13 fun H locs hI h_new ho => ?_
      replace hA_ar := h_new
      generalize hf_f13 : y_up fa i.toInt.toNat v9 = f13 at hA_ar
      obtain ⟨z14, hg_z14⟩ : ∃ z14 : Int32, i + Int32.ofInt 1 = z14 := ⟨_, rfl⟩
      have h_z14 : z14.toInt = i.toInt + 1 := by rw [← hg_z14]; exact y_inc (by decide) (by omega) (by omega)
      refine lv_iinc hx hb fvq_d14 hl (k := 0) rfl hg_z14 (by decide) (lv' := [(2, .int z14), (3, .int (nI 10)), (0, .ref ar), (1, .int v9)]) rfl fun ls hl => ?_
      refine lv_goto hx hb fvq_d17 (tgt := 5) (by decide) ?_
      exact ih _ _ _ _ _ _ hI hY_ar hA_ar (lv_sub hl [0, 1, 2, 3] rfl) (by first | assumption | omega) (by first | assumption | omega) (fun j hj => by rw [← hf_f13]; by_cases ej : (j : Int) = i.toInt; (rw [show j = i.toInt.toNat by omega, y_up_at]); rw [y_up_ne (by omega)]; exact hfi j (by omega)) (by omega)
theorem ym_fillVw : y_Met vwCl x_G x_Zs x_Tb x_Nb xM50 y_T z_Pfvq := by
  refine y_main (by decide +kernel) (by decide +kernel) x_Tb_good x_Nb_ok ?_
  intro p l e s m below meth c D U Y0 av ls B hI _ hl
  have X := B.1
  have hx := X.1
  have hb := X.2.1
  have hY0 := B.2.2.2.2.1
  obtain ⟨v0, v1, rfl, hv0, ⟨v9, rfl, hv⟩⟩ := x_two B.2.2.2.2.2
  obtain ⟨ar, t0, rfl, ht0, hY_ar⟩ := x_ref_at hv0 rfl
  obtain rfl := List.mem_singleton.mp ht0
  replace hl : lv_has ls xM50.2.2.1 [(0, .ref ar), (1, .int v9)] := hl
  replace hv : (0 : Int) ≤ v9.toInt ∧ v9.toInt ≤ 0 := hv
  obtain ⟨fa, hA_ar, -⟩ := y_arr hI.1 hY_ar rfl rfl
  refine lv_iconst hx hb fvq_d0 (v := 0) (by decide) ?_
  have ec0 : (0 : Int32).toInt = 0 := by decide
  refine lv_istore_n hx hb fvq_d1 rfl hl (by decide) (lv' := [(2, .int (0 : Int32)), (0, .ref ar), (1, .int v9)]) rfl fun ls hl => ?_
  refine lv_aload_n hx hb fvq_d2 rfl (lv_at hl 1 rfl) ?_
  refine y_alen X hI.1 hY_ar rfl fvq_d3 ?_
  have h_nI10 : (nI 10).toInt = 10 := by decide
  refine lv_istore_n hx hb fvq_d4 rfl hl (by decide) (lv' := [(3, .int (nI 10)), (2, .int (0 : Int32)), (0, .ref ar), (1, .int v9)]) rfl fun ls hl => ?_
  exact fvq_L5 B rfl hv 11 _ _ _ _ _ _ hI hY_ar hA_ar (lv_sub hl [1, 0, 2, 3] rfl) (by first | assumption | omega) (by first | assumption | omega) (fun j hj => absurd hj (by omega)) (by omega)
def z_Pga : yP := fun D av Y H _ _ H' => ∀ (this ld en ed : Nat) (y : Int32) (f : Nat → Int32), av = [.ref this, .ref ld, .int y] → x_sl D 0 2 this H = some (.ref en) → x_sl D 0 3 this H = some (.ref ed) → z_L D Y ld H f → ∃ fn fd : Nat → Int32, y_A en 100 H' fn ∧ y_A ed 100 H' fd ∧ ∀ a b : Nat, a < b → (b : Int) < (f 0).toInt → m_gok fn fd f y a b
theorem gaq_d0 : decode xM49.2.1 0 = .ok (.iconst 0, 1) := dz_ok (by decide +kernel)
theorem gaq_d1 : decode xM49.2.1 1 = .ok (.istore_n 3, 1) := dz_ok (by decide +kernel)
theorem gaq_d2 : decode xM49.2.1 2 = .ok (.iload_n 3, 1) := dz_ok (by decide +kernel)
theorem gaq_d3 : decode xM49.2.1 3 = .ok (.aload_n 1, 1) := dz_ok (by decide +kernel)
theorem gaq_d4 : decode xM49.2.1 4 = .ok (.getfield 28, 3) := dz_ok (by decide +kernel)
theorem gaq_d7 : decode xM49.2.1 7 = .ok (.if_icmp .ge 90, 3) := dz_ok (by decide +kernel)
theorem gaq_d10 : decode xM49.2.1 10 = .ok (.iload_n 3, 1) := dz_ok (by decide +kernel)
theorem gaq_d11 : decode xM49.2.1 11 = .ok (.iconst 1, 1) := dz_ok (by decide +kernel)
theorem gaq_d12 : decode xM49.2.1 12 = .ok (.iadd, 1) := dz_ok (by decide +kernel)
theorem gaq_d13 : decode xM49.2.1 13 = .ok (.istore 4, 2) := dz_ok (by decide +kernel)
theorem gaq_d15 : decode xM49.2.1 15 = .ok (.iload 4, 2) := dz_ok (by decide +kernel)
theorem gaq_d17 : decode xM49.2.1 17 = .ok (.aload_n 1, 1) := dz_ok (by decide +kernel)
theorem gaq_d18 : decode xM49.2.1 18 = .ok (.getfield 28, 3) := dz_ok (by decide +kernel)
theorem gaq_d21 : decode xM49.2.1 21 = .ok (.if_icmp .ge 70, 3) := dz_ok (by decide +kernel)
theorem gaq_d24 : decode xM49.2.1 24 = .ok (.aload_n 0, 1) := dz_ok (by decide +kernel)
theorem gaq_d25 : decode xM49.2.1 25 = .ok (.getfield 12, 3) := dz_ok (by decide +kernel)
theorem gaq_d28 : decode xM49.2.1 28 = .ok (.aload_n 1, 1) := dz_ok (by decide +kernel)
theorem gaq_d29 : decode xM49.2.1 29 = .ok (.iload_n 3, 1) := dz_ok (by decide +kernel)
theorem gaq_d30 : decode xM49.2.1 30 = .ok (.iload 4, 2) := dz_ok (by decide +kernel)
theorem gaq_d32 : decode xM49.2.1 32 = .ok (.invokevirtual 34, 3) := dz_ok (by decide +kernel)
theorem gaq_d35 : decode xM49.2.1 35 = .ok (.iload_n 3, 1) := dz_ok (by decide +kernel)
theorem gaq_d36 : decode xM49.2.1 36 = .ok (.bipush 10, 2) := dz_ok (by decide +kernel)
theorem gaq_d38 : decode xM49.2.1 38 = .ok (.imul, 1) := dz_ok (by decide +kernel)
theorem gaq_d39 : decode xM49.2.1 39 = .ok (.iload 4, 2) := dz_ok (by decide +kernel)
theorem gaq_d41 : decode xM49.2.1 41 = .ok (.iadd, 1) := dz_ok (by decide +kernel)
theorem gaq_d42 : decode xM49.2.1 42 = .ok (.istore 5, 2) := dz_ok (by decide +kernel)
theorem gaq_d44 : decode xM49.2.1 44 = .ok (.aload_n 0, 1) := dz_ok (by decide +kernel)
theorem gaq_d45 : decode xM49.2.1 45 = .ok (.getfield 22, 3) := dz_ok (by decide +kernel)
theorem gaq_d48 : decode xM49.2.1 48 = .ok (.iload 5, 2) := dz_ok (by decide +kernel)
theorem gaq_d50 : decode xM49.2.1 50 = .ok (.aload_n 0, 1) := dz_ok (by decide +kernel)
theorem gaq_d51 : decode xM49.2.1 51 = .ok (.aload_n 1, 1) := dz_ok (by decide +kernel)
theorem gaq_d52 : decode xM49.2.1 52 = .ok (.iload_n 3, 1) := dz_ok (by decide +kernel)
theorem gaq_d53 : decode xM49.2.1 53 = .ok (.iload 4, 2) := dz_ok (by decide +kernel)
theorem gaq_d55 : decode xM49.2.1 55 = .ok (.invokevirtual 38, 3) := dz_ok (by decide +kernel)
theorem gaq_d58 : decode xM49.2.1 58 = .ok (.ifCond .eq 9, 3) := dz_ok (by decide +kernel)
theorem gaq_d61 : decode xM49.2.1 61 = .ok (.sipush 256, 3) := dz_ok (by decide +kernel)
theorem gaq_d64 : decode xM49.2.1 64 = .ok (.goto 4, 3) := dz_ok (by decide +kernel)
theorem gaq_d67 : decode xM49.2.1 67 = .ok (.iconst 0, 1) := dz_ok (by decide +kernel)
theorem gaq_d68 : decode xM49.2.1 68 = .ok (.iastore, 1) := dz_ok (by decide +kernel)
theorem gaq_d69 : decode xM49.2.1 69 = .ok (.aload_n 0, 1) := dz_ok (by decide +kernel)
theorem gaq_d70 : decode xM49.2.1 70 = .ok (.getfield 25, 3) := dz_ok (by decide +kernel)
theorem gaq_d73 : decode xM49.2.1 73 = .ok (.iload 5, 2) := dz_ok (by decide +kernel)
theorem gaq_d75 : decode xM49.2.1 75 = .ok (.iconst 0, 1) := dz_ok (by decide +kernel)
theorem gaq_d76 : decode xM49.2.1 76 = .ok (.iastore, 1) := dz_ok (by decide +kernel)
theorem gaq_d77 : decode xM49.2.1 77 = .ok (.aload_n 0, 1) := dz_ok (by decide +kernel)
theorem gaq_d78 : decode xM49.2.1 78 = .ok (.aload_n 1, 1) := dz_ok (by decide +kernel)
theorem gaq_d79 : decode xM49.2.1 79 = .ok (.iload_n 2, 1) := dz_ok (by decide +kernel)
theorem gaq_d80 : decode xM49.2.1 80 = .ok (.iload 5, 2) := dz_ok (by decide +kernel)
theorem gaq_d82 : decode xM49.2.1 82 = .ok (.invokevirtual 42, 3) := dz_ok (by decide +kernel)
theorem gaq_d85 : decode xM49.2.1 85 = .ok (.iinc 4 1, 3) := dz_ok (by decide +kernel)
theorem gaq_d88 : decode xM49.2.1 88 = .ok (.goto (-73), 3) := dz_ok (by decide +kernel)
theorem gaq_d91 : decode xM49.2.1 91 = .ok (.iinc 3 1, 3) := dz_ok (by decide +kernel)
theorem gaq_d94 : decode xM49.2.1 94 = .ok (.goto (-92), 3) := dz_ok (by decide +kernel)
theorem gaq_d97 : decode xM49.2.1 97 = .ok (.return_, 1) := dz_ok (by decide +kernel)
theorem gaq_L15 {p : Program} {l : Launch} {e : Env} {s : State} {m : MethodId} {below : List Frame} {meth : Method} {c : Code} {D : va_G} {U : State} {Y0 : xY} {av : List Value} (B : y_B vwCl x_Tb x_Nb xM49 p s m meth c D U Y0 av) {this ld ln en ed : Nat} {y : Int32} {f : Nat → Int32} (hav : av = [.ref this, .ref ld, .int y]) (hs2 : x_sl D 0 2 this s.heap = some (.ref en)) (hs3 : x_sl D 0 3 this s.heap = some (.ref ed)) (hL0 : z_L D Y0 ld s.heap f) (hd0 : 0 ≤ (f 0).toInt ∧ (f 0).toInt ≤ 10) {a : Int32} (ha : 0 ≤ a.toInt ∧ a.toInt < (f 0).toInt)
    (out2 : ∀ (H : Heap) (Y : xY) (locs : List Loc) (ls : Array Slot) (a1 : Int32) (fn fd : Nat → Int32), x_I D x_G x_Zs U (x_efs xM49) Y0 s.heap Y H locs → Y this = some 6 → Y ld = some 2 → Y ln = some 10 → Y en = some 33 → Y ed = some 34 → x_sl D 0 0 this H = some (.ref ln) → x_sl D 0 2 this H = some (.ref en) → x_sl D 0 3 this H = some (.ref ed) → x_sl D 2 0 ld H = some (.int (f 0)) → y_A en 100 H fn → y_A ed 100 H fd → z_L D Y ld H f → lv_has ls xM49.2.2.1 [(3, .int a1), (0, .ref this), (1, .ref ld), (2, .int y)] → (0 ≤ a1.toInt ∧ a1.toInt ≤ (f 0).toInt) → (∀ p q : Nat, (p : Int) < a1.toInt → p < q → (q : Int) < (f 0).toInt → m_gok fn fd f y p q) → (a1.toInt = a.toInt + 1) → W p l e (x_rm xM49) s m av.toArray below meth c H locs 0 0 (y_QQ below D x_G x_Zs U xM49 z_Pga av Y0 s) (F0 m 2 ls [])) :
    ∀ (n : Nat), ∀ (H : Heap) (Y : xY) (locs : List Loc) (ls : Array Slot) (b : Int32) (fn fd : Nat → Int32), x_I D x_G x_Zs U (x_efs xM49) Y0 s.heap Y H locs → Y this = some 6 → Y ld = some 2 → Y ln = some 10 → Y en = some 33 → Y ed = some 34 → x_sl D 0 0 this H = some (.ref ln) → x_sl D 0 2 this H = some (.ref en) → x_sl D 0 3 this H = some (.ref ed) → x_sl D 2 0 ld H = some (.int (f 0)) → y_A en 100 H fn → y_A ed 100 H fd → z_L D Y ld H f → lv_has ls xM49.2.2.1 [(4, .int b), (3, .int a), (0, .ref this), (1, .ref ld), (2, .int y)] → (a.toInt < b.toInt ∧ b.toInt ≤ (f 0).toInt) → (∀ p q : Nat, (p : Int) < a.toInt → p < q → (q : Int) < (f 0).toInt → m_gok fn fd f y p q) → (∀ q : Nat, a.toInt < (q : Int) → (q : Int) < b.toInt → m_gok fn fd f y a.toInt.toNat q) → (11 - b.toInt).toNat < n → W p l e (x_rm xM49) s m av.toArray below meth c H locs 0 0 (y_QQ below D x_G x_Zs U xM49 z_Pga av Y0 s) (F0 m 15 ls []) := by
  have X := B.1
  have hx := X.1
  have hb := X.2.1
  have hY0 := B.2.2.2.2.1
  intro n
  induction n with
  | zero => intro _ _ _ _ _ _ _ _ _ _ _ _ _ _ _ _ _ _ _ _ _ _ _ _ h; exact absurd h (Nat.not_lt_zero _)
  | succ n ih =>
    intro H Y locs ls b fn fd hI hY_this hY_ld hY_ln hY_en hY_ed hs_ln hs_en hs_ed hsi_hills hA_en hA_ed hL hl hb9 hout hin hn
    refine lv_iload hx hb gaq_d15 (lv_at hl 0 rfl) ?_
    refine lv_aload_n hx hb gaq_d17 rfl (lv_at hl 3 rfl) ?_
    refine y_getf X (fl80 X.2.2.2.2.1) hI.1 hY_ld rfl hsi_hills gaq_d18 ?_
    refine lv_icmp_ge hx hb gaq_d21 (tgt := 91) (by decide) (fun q21 => ?_) (fun q21 => ?_)
    · have q21_ : (f 0).toInt ≤ b.toInt := x_le32.mp q21
      obtain ⟨z91, hg_z91⟩ : ∃ z91 : Int32, a + Int32.ofInt 1 = z91 := ⟨_, rfl⟩
      have h_z91 : z91.toInt = a.toInt + 1 := by rw [← hg_z91]; exact y_inc (by decide) (by omega) (by omega)
      refine lv_iinc hx hb gaq_d91 hl (k := 1) rfl hg_z91 (by decide) (lv' := [(3, .int z91), (4, .int b), (0, .ref this), (1, .ref ld), (2, .int y)]) rfl fun ls hl => ?_
      refine lv_goto hx hb gaq_d94 (tgt := 2) (by decide) ?_
      exact out2 _ _ _ _ _ _ _ hI hY_this hY_ld hY_ln hY_en hY_ed hs_ln hs_en hs_ed hsi_hills hA_en hA_ed hL (lv_sub hl [0, 2, 3, 4] rfl) (by first | assumption | omega) (fun p q h1 h2 h3 => by by_cases e : p = a.toInt.toNat; (subst e; exact hin q (by omega) (by omega)); exact hout p q (by omega) h2 h3) (by first | assumption | omega)
    · have q21_ : b.toInt < (f 0).toInt := Int.not_le.mp fun q => q21 (x_le32.mpr q)
      refine lv_aload_n hx hb gaq_d24 rfl (lv_at hl 2 rfl) ?_
      refine y_getf X (fl79 X.2.2.2.2.1) hI.1 hY_this rfl hs_ln gaq_d25 ?_
      refine lv_aload_n hx hb gaq_d28 rfl (lv_at hl 3 rfl) ?_
      refine lv_iload_n hx hb gaq_d29 rfl (lv_at hl 1 rfl) ?_
      refine lv_iload hx hb gaq_d30 (lv_at hl 0 rfl) ?_
      refine y_call (z := (0, 34, 4, some 10, xM41)) (av := [.ref ln, .ref ld, .int a, .int b]) (rest := []) (y_cokV (n := 3) (ci := 3) X ym_draw rfl rfl rfl (x_cons (x_bw30 4 rfl rfl) (x_cons (x_bw30 5 rfl rfl) (x_cons (x_bw30 6 rfl rfl) (x_cons (x_bw0 7 rfl rfl) x_nilm)))) (x_bw30 7 rfl rfl) (by decide +kernel) ⟨Nat.le_of_ble_eq_true rfl, Nat.le_of_ble_eq_true rfl⟩) hY0 hI rfl gaq_d32 hl.1 (Nat.le_of_ble_eq_true rfl) (Nat.le_of_ble_eq_true rfl) (Nat.le_of_ble_eq_true rfl) (y_cons (y_cref hY_ln rfl) (y_cons (y_cref hY_ld rfl) (y_cons ⟨_, rfl, by show (0 : Int) ≤ _; omega, by show _ ≤ (9 : Int); omega⟩ (y_cons ⟨_, rfl, by show (0 : Int) ≤ _; omega, by show _ ≤ (9 : Int); omega⟩ y_nil)))) rfl (y_recv rfl hY_ln) (fun t' h1 => by cases h1; exact ⟨_, hL⟩) (y_sub_ef rfl) fun v Yn o Hn L ho hr ha hIn hx_ hE hP => ?_
      have hLn := hP _ _ _ _ _ rfl hL
      replace hs_ln := y_Efld hE hY_this rfl (by decide) (by decide) hs_ln
      replace hs_en := y_Efld hE hY_this rfl (by decide) (by decide) hs_en
      replace hs_ed := y_Efld hE hY_this rfl (by decide) (by decide) hs_ed
      replace hsi_hills := y_Efld hE hY_ld rfl (by decide) (by decide) hsi_hills
      replace hA_en := hA_en.kept (y_Earr hE hY_en rfl (by decide))
      replace hA_ed := hA_ed.kept (y_Earr hE hY_ed rfl (by decide))
      replace hL := hL.E hY_ld hE (fun q u h => y_ext hx_ hI.1 h) (by decide +kernel)
      replace hY_this := y_ext hx_ hI.1 hY_this
      replace hY_ld := y_ext hx_ hI.1 hY_ld
      replace hY_ln := y_ext hx_ hI.1 hY_ln
      replace hY_en := y_ext hx_ hI.1 hY_en
      replace hY_ed := y_ext hx_ hI.1 hY_ed
      obtain rfl := y_ansV rfl ho hr
      clear ho hr ha hE hP hI hx_
      rename x_I _ _ _ _ _ _ _ _ _ _ => hI
      refine lv_iload_n hx hb gaq_d35 rfl (lv_at hl 1 rfl) ?_
      refine lv_bipush hx hb gaq_d36 (v := 10) (by decide) ?_
      have ec10 : (10 : Int32).toInt = 10 := by decide
      refine lv_imul hx hb gaq_d38 ?_
      generalize hg_z38 : a * (10 : Int32) = z38
      have h_z38 : z38.toInt = a.toInt * 10 := by rw [← hg_z38]; have := y_mul (x := a) (y := (10 : Int32)) (by rw [ec10]; omega) (by rw [ec10]; omega); rw [ec10] at this; exact this
      refine lv_iload hx hb gaq_d39 (lv_at hl 0 rfl) ?_
      refine lv_iadd hx hb gaq_d41 ?_
      generalize hg_z41 : z38 + b = z41
      have h_z41 : z41.toInt = z38.toInt + b.toInt := by rw [← hg_z41]; have := y_add (x := z38) (y := b) (by omega) (by omega); exact this
      refine lv_istore hx hb gaq_d42 hl (by decide) (lv' := [(5, .int z41), (4, .int b), (3, .int a), (0, .ref this), (1, .ref ld), (2, .int y)]) rfl fun ls hl => ?_
      refine lv_aload_n hx hb gaq_d44 rfl (lv_at hl 3 rfl) ?_
      refine y_getf X (fl84 X.2.2.2.2.1) hI.1 hY_this rfl hs_en gaq_d45 ?_
      refine lv_iload hx hb gaq_d48 (lv_at hl 0 rfl) ?_
      refine lv_aload_n hx hb gaq_d50 rfl (lv_at hl 3 rfl) ?_
      refine lv_aload_n hx hb gaq_d51 rfl (lv_at hl 4 rfl) ?_
      refine lv_iload_n hx hb gaq_d52 rfl (lv_at hl 2 rfl) ?_
      refine lv_iload hx hb gaq_d53 (lv_at hl 1 rfl) ?_
      refine y_call (z := (0, 38, 4, some 6, xM47)) (av := [.ref this, .ref ld, .int a, .int b]) (rest := [.int z41, .ref en]) (y_cokV (n := 3) (ci := 0) X ym_hhb rfl rfl rfl (x_cons (x_bw30 14 rfl rfl) (x_cons (x_bw31 0 rfl rfl) (x_cons (x_at 4 (by decide +kernel) rfl) (x_cons (x_bw0 6 rfl rfl) x_nilm)))) (x_bw31 1 rfl rfl) (by decide +kernel) ⟨Nat.le_of_ble_eq_true rfl, Nat.le_of_ble_eq_true rfl⟩) hY0 hI rfl gaq_d55 hl.1 (Nat.le_of_ble_eq_true rfl) (Nat.le_of_ble_eq_true rfl) (Nat.le_of_ble_eq_true rfl) (y_cons (y_cref hY_this rfl) (y_cons (y_cref hY_ld rfl) (y_cons ⟨_, rfl, x_i32 _⟩ (y_cons ⟨_, rfl, x_i32 _⟩ y_nil)))) rfl (y_recv rfl hY_this) (fun t' h1 => by cases h1; exact ⟨_, hL⟩) (y_sub_ef rfl) fun v Yn o Hn L ho hr ha hIn hx_ hE hP => ?_
      have hPl := hP _ _ _ _ _ _ _ rfl hs_ln hL hLn
      obtain rfl := hPl
      replace hs_ln := y_Efld hE hY_this rfl (by decide) (by decide) hs_ln
      replace hs_en := y_Efld hE hY_this rfl (by decide) (by decide) hs_en
      replace hs_ed := y_Efld hE hY_this rfl (by decide) (by decide) hs_ed
      replace hsi_hills := y_Efld hE hY_ld rfl (by decide) (by decide) hsi_hills
      replace hA_en := hA_en.kept (y_Earr hE hY_en rfl (by decide))
      replace hA_ed := hA_ed.kept (y_Earr hE hY_ed rfl (by decide))
      replace hL := hL.E hY_ld hE (fun q u h => y_ext hx_ hI.1 h) (by decide +kernel)
      replace hLn := hLn.E hY_ln hE (by decide)
      replace hY_this := y_ext hx_ hI.1 hY_this
      replace hY_ld := y_ext hx_ hI.1 hY_ld
      replace hY_ln := y_ext hx_ hI.1 hY_ln
      replace hY_en := y_ext hx_ hI.1 hY_en
      replace hY_ed := y_ext hx_ hI.1 hY_ed
      generalize hg_r55 : m_b (m_hb (m_ln f a.toInt.toNat b.toInt.toNat) f a.toInt b.toInt) = r55
      clear ho hr ha hE hP hI hx_
      rename x_I _ _ _ _ _ _ _ _ _ _ => hI
      have ec0 : (0 : Int32).toInt = 0 := by decide
      refine lv_if_eq hx hb gaq_d58 (tgt := 67) (by decide) (fun q58 => ?_) (fun q58 => ?_)
      · have q58_ : r55.toInt = (0 : Int32).toInt := by rw [q58]
        refine lv_iconst hx hb gaq_d67 (v := 0) (by decide) ?_
        refine y_iast X hY0 hI hY_en rfl hA_en (by omega) (by show _ < (100 : Int); omega) ⟨_, rfl, x_i32 _⟩ (by decide +kernel) gaq_d68 fun H locs hI h_new ho => ?_
        replace hA_en := h_new
        generalize hf_f68 : y_up fn z41.toInt.toNat (0 : Int32) = f68 at hA_en
        replace hs_ln := y_slk hs_ln (ho _ (y_ne hY_this hY_en rfl))
        replace hs_en := y_slk hs_en (ho _ (y_ne hY_this hY_en rfl))
        replace hs_ed := y_slk hs_ed (ho _ (y_ne hY_this hY_en rfl))
        replace hsi_hills := y_slk hsi_hills (ho _ (y_ne hY_ld hY_en rfl))
        replace hA_ed := hA_ed.kept (ho _ (y_ne hY_ed hY_en rfl))
        replace hL := hL.wr hY_ld hY_en (by decide) ho
        replace hLn := hLn.kept (fun k _ => y_slk rfl (ho _ (y_ne hY_ln hY_en rfl)))
        refine lv_aload_n hx hb gaq_d69 rfl (lv_at hl 3 rfl) ?_
        refine y_getf X (fl85 X.2.2.2.2.1) hI.1 hY_this rfl hs_ed gaq_d70 ?_
        refine lv_iload hx hb gaq_d73 (lv_at hl 0 rfl) ?_
        refine lv_iconst hx hb gaq_d75 (v := 0) (by decide) ?_
        refine y_iast X hY0 hI hY_ed rfl hA_ed (by omega) (by show _ < (100 : Int); omega) ⟨_, rfl, x_i32 _⟩ (by decide +kernel) gaq_d76 fun H locs hI h_new ho => ?_
        replace hA_ed := h_new
        generalize hf_f76 : y_up fd z41.toInt.toNat (0 : Int32) = f76 at hA_ed
        replace hs_ln := y_slk hs_ln (ho _ (y_ne hY_this hY_ed rfl))
        replace hs_en := y_slk hs_en (ho _ (y_ne hY_this hY_ed rfl))
        replace hs_ed := y_slk hs_ed (ho _ (y_ne hY_this hY_ed rfl))
        replace hsi_hills := y_slk hsi_hills (ho _ (y_ne hY_ld hY_ed rfl))
        replace hA_en := hA_en.kept (ho _ (y_ne hY_en hY_ed rfl))
        replace hL := hL.wr hY_ld hY_ed (by decide) ho
        replace hLn := hLn.kept (fun k _ => y_slk rfl (ho _ (y_ne hY_ln hY_ed rfl)))
        refine lv_aload_n hx hb gaq_d77 rfl (lv_at hl 3 rfl) ?_
        refine lv_aload_n hx hb gaq_d78 rfl (lv_at hl 4 rfl) ?_
        refine lv_iload_n hx hb gaq_d79 rfl (lv_at hl 5 rfl) ?_
        refine lv_iload hx hb gaq_d80 (lv_at hl 0 rfl) ?_
        refine y_call (z := (0, 42, 4, some 6, xM48)) (av := [.ref this, .ref ld, .int y, .int z41]) (rest := []) (y_cokV (n := 3) (ci := 0) X ym_gatherT rfl rfl rfl (x_cons (x_bw32 6 rfl rfl) (x_cons (x_bw32 8 rfl rfl) (x_cons (x_at 6 (by decide +kernel) rfl) (x_cons (x_bw0 6 rfl rfl) x_nilm)))) (x_bw32 9 rfl rfl) (by decide +kernel) ⟨Nat.le_of_ble_eq_true rfl, Nat.le_of_ble_eq_true rfl⟩) hY0 hI rfl gaq_d82 hl.1 (Nat.le_of_ble_eq_true rfl) (Nat.le_of_ble_eq_true rfl) (Nat.le_of_ble_eq_true rfl) (y_cons (y_cref hY_this rfl) (y_cons (y_cref hY_ld rfl) (y_cons ⟨_, rfl, x_i32 _⟩ (y_cons ⟨_, rfl, by show (0 : Int) ≤ _; omega, by show _ ≤ (99 : Int); omega⟩ y_nil)))) rfl (y_recv rfl hY_this) (fun t' h1 => by cases h1; exact ⟨_, hL⟩) (y_sub_ef rfl) fun v Yn o Hn L ho hr ha hIn hx_ hE hP => ?_
        have hPg := hP _ _ _ _ _ _ _ _ _ _ _ rfl hs_ln hs_en hs_ed hL hLn hA_en hA_ed
        replace hs_ln := y_Efld hE hY_this rfl (by decide) (by decide) hs_ln
        replace hs_en := y_Efld hE hY_this rfl (by decide) (by decide) hs_en
        replace hs_ed := y_Efld hE hY_this rfl (by decide) (by decide) hs_ed
        replace hsi_hills := y_Efld hE hY_ld rfl (by decide) (by decide) hsi_hills
        replace hL := hL.E hY_ld hE (fun q u h => y_ext hx_ hI.1 h) (by decide +kernel)
        replace hLn := hLn.E hY_ln hE (by decide)
        replace hY_this := y_ext hx_ hI.1 hY_this
        replace hY_ld := y_ext hx_ hI.1 hY_ld
        replace hY_ln := y_ext hx_ hI.1 hY_ln
        replace hY_en := y_ext hx_ hI.1 hY_en
        replace hY_ed := y_ext hx_ hI.1 hY_ed
        obtain rfl := y_ansV rfl ho hr
        obtain ⟨hA_en, hA_ed⟩ := hPg
        generalize hf_fn5 : y_up f68 z41.toInt.toNat (m_gg (m_gc (m_ln f a.toInt.toNat b.toInt.toNat) f y) (f68 z41.toInt.toNat) (f 1).toInt.toNat) = fn5 at hA_en
        generalize hf_fd5 : y_up f76 z41.toInt.toNat (m_gg (m_gd (m_ln f a.toInt.toNat b.toInt.toNat) f y) (f76 z41.toInt.toNat) (f 1).toInt.toNat) = fd5 at hA_ed
        clear ho hr ha hE hP hI hx_
        rename x_I _ _ _ _ _ _ _ _ _ _ => hI
        obtain ⟨z85, hg_z85⟩ : ∃ z85 : Int32, b + Int32.ofInt 1 = z85 := ⟨_, rfl⟩
        have h_z85 : z85.toInt = b.toInt + 1 := by rw [← hg_z85]; exact y_inc (by decide) (by omega) (by omega)
        refine lv_iinc hx hb gaq_d85 hl (k := 1) rfl hg_z85 (by decide) (lv' := [(4, .int z85), (5, .int z41), (3, .int a), (0, .ref this), (1, .ref ld), (2, .int y)]) rfl fun ls hl => ?_
        refine lv_goto hx hb gaq_d88 (tgt := 15) (by decide) ?_
        have hz : z41.toInt.toNat = 10 * a.toInt.toNat + b.toInt.toNat := by omega
        rw [hz] at hf_fn5 hf_fd5 hf_f68 hf_f76
        have hhb : m_hb (m_ln f a.toInt.toNat b.toInt.toNat) f (a.toInt.toNat : Nat) (b.toInt.toNat : Nat) = false := by rw [show ((a.toInt.toNat : Nat) : Int) = a.toInt by omega, show ((b.toInt.toNat : Nat) : Int) = b.toInt by omega]; exact m_b0 (hg_r55.trans q58)
        have hnew : m_gok fn5 fd5 f y a.toInt.toNat b.toInt.toNat := by
          constructor
          · rw [← hf_fn5, ← hf_f68, y_up_up, y_up_at, y_up_at]; unfold m_gN; rw [hhb]; rfl
          · rw [← hf_fd5, ← hf_f76, y_up_up, y_up_at, y_up_at]; rfl
        have hold : ∀ p q : Nat, 10 * p + q ≠ 10 * a.toInt.toNat + b.toInt.toNat → m_gok fn fd f y p q → m_gok fn5 fd5 f y p q := fun p q hne h9 => ⟨by rw [← hf_fn5, ← hf_f68, y_up_up, y_up_ne hne]; exact h9.1, by rw [← hf_fd5, ← hf_f76, y_up_up, y_up_ne hne]; exact h9.2⟩
        exact ih _ _ _ _ _ _ _ hI hY_this hY_ld hY_ln hY_en hY_ed hs_ln hs_en hs_ed hsi_hills hA_en hA_ed hL (lv_sub hl [0, 2, 3, 4, 5] rfl) (by first | assumption | omega) (fun p q h1 h2 h3 => hold p q (by omega) (hout p q h1 h2 h3)) (fun q h1 h2 => by by_cases e : q = b.toInt.toNat; (subst e; exact hnew); exact hold _ q (by omega) (hin q h1 (by omega))) (by omega)
      · have q58_ : ¬ r55.toInt = (0 : Int32).toInt := fun q => q58 (Int32.toInt_inj.mp q)
        refine lv_sipush hx hb gaq_d61 (v := 256) (by decide) ?_
        have ec256 : (256 : Int32).toInt = 256 := by decide
        refine lv_goto hx hb gaq_d64 (tgt := 68) (by decide) ?_
        refine y_iast X hY0 hI hY_en rfl hA_en (by omega) (by show _ < (100 : Int); omega) ⟨_, rfl, x_i32 _⟩ (by decide +kernel) gaq_d68 fun H locs hI h_new ho => ?_
        replace hA_en := h_new
        generalize hf_f68 : y_up fn z41.toInt.toNat (256 : Int32) = f68 at hA_en
        replace hs_ln := y_slk hs_ln (ho _ (y_ne hY_this hY_en rfl))
        replace hs_en := y_slk hs_en (ho _ (y_ne hY_this hY_en rfl))
        replace hs_ed := y_slk hs_ed (ho _ (y_ne hY_this hY_en rfl))
        replace hsi_hills := y_slk hsi_hills (ho _ (y_ne hY_ld hY_en rfl))
        replace hA_ed := hA_ed.kept (ho _ (y_ne hY_ed hY_en rfl))
        replace hL := hL.wr hY_ld hY_en (by decide) ho
        replace hLn := hLn.kept (fun k _ => y_slk rfl (ho _ (y_ne hY_ln hY_en rfl)))
        refine lv_aload_n hx hb gaq_d69 rfl (lv_at hl 3 rfl) ?_
        refine y_getf X (fl85 X.2.2.2.2.1) hI.1 hY_this rfl hs_ed gaq_d70 ?_
        refine lv_iload hx hb gaq_d73 (lv_at hl 0 rfl) ?_
        refine lv_iconst hx hb gaq_d75 (v := 0) (by decide) ?_
        refine y_iast X hY0 hI hY_ed rfl hA_ed (by omega) (by show _ < (100 : Int); omega) ⟨_, rfl, x_i32 _⟩ (by decide +kernel) gaq_d76 fun H locs hI h_new ho => ?_
        replace hA_ed := h_new
        generalize hf_f76 : y_up fd z41.toInt.toNat (0 : Int32) = f76 at hA_ed
        replace hs_ln := y_slk hs_ln (ho _ (y_ne hY_this hY_ed rfl))
        replace hs_en := y_slk hs_en (ho _ (y_ne hY_this hY_ed rfl))
        replace hs_ed := y_slk hs_ed (ho _ (y_ne hY_this hY_ed rfl))
        replace hsi_hills := y_slk hsi_hills (ho _ (y_ne hY_ld hY_ed rfl))
        replace hA_en := hA_en.kept (ho _ (y_ne hY_en hY_ed rfl))
        replace hL := hL.wr hY_ld hY_ed (by decide) ho
        replace hLn := hLn.kept (fun k _ => y_slk rfl (ho _ (y_ne hY_ln hY_ed rfl)))
        refine lv_aload_n hx hb gaq_d77 rfl (lv_at hl 3 rfl) ?_
        refine lv_aload_n hx hb gaq_d78 rfl (lv_at hl 4 rfl) ?_
        refine lv_iload_n hx hb gaq_d79 rfl (lv_at hl 5 rfl) ?_
        refine lv_iload hx hb gaq_d80 (lv_at hl 0 rfl) ?_
        refine y_call (z := (0, 42, 4, some 6, xM48)) (av := [.ref this, .ref ld, .int y, .int z41]) (rest := []) (y_cokV (n := 3) (ci := 0) X ym_gatherT rfl rfl rfl (x_cons (x_bw32 6 rfl rfl) (x_cons (x_bw32 8 rfl rfl) (x_cons (x_at 6 (by decide +kernel) rfl) (x_cons (x_bw0 6 rfl rfl) x_nilm)))) (x_bw32 9 rfl rfl) (by decide +kernel) ⟨Nat.le_of_ble_eq_true rfl, Nat.le_of_ble_eq_true rfl⟩) hY0 hI rfl gaq_d82 hl.1 (Nat.le_of_ble_eq_true rfl) (Nat.le_of_ble_eq_true rfl) (Nat.le_of_ble_eq_true rfl) (y_cons (y_cref hY_this rfl) (y_cons (y_cref hY_ld rfl) (y_cons ⟨_, rfl, x_i32 _⟩ (y_cons ⟨_, rfl, by show (0 : Int) ≤ _; omega, by show _ ≤ (99 : Int); omega⟩ y_nil)))) rfl (y_recv rfl hY_this) (fun t' h1 => by cases h1; exact ⟨_, hL⟩) (y_sub_ef rfl) fun v Yn o Hn L ho hr ha hIn hx_ hE hP => ?_
        have hPg := hP _ _ _ _ _ _ _ _ _ _ _ rfl hs_ln hs_en hs_ed hL hLn hA_en hA_ed
        replace hs_ln := y_Efld hE hY_this rfl (by decide) (by decide) hs_ln
        replace hs_en := y_Efld hE hY_this rfl (by decide) (by decide) hs_en
        replace hs_ed := y_Efld hE hY_this rfl (by decide) (by decide) hs_ed
        replace hsi_hills := y_Efld hE hY_ld rfl (by decide) (by decide) hsi_hills
        replace hL := hL.E hY_ld hE (fun q u h => y_ext hx_ hI.1 h) (by decide +kernel)
        replace hLn := hLn.E hY_ln hE (by decide)
        replace hY_this := y_ext hx_ hI.1 hY_this
        replace hY_ld := y_ext hx_ hI.1 hY_ld
        replace hY_ln := y_ext hx_ hI.1 hY_ln
        replace hY_en := y_ext hx_ hI.1 hY_en
        replace hY_ed := y_ext hx_ hI.1 hY_ed
        obtain rfl := y_ansV rfl ho hr
        obtain ⟨hA_en, hA_ed⟩ := hPg
        generalize hf_fn5 : y_up f68 z41.toInt.toNat (m_gg (m_gc (m_ln f a.toInt.toNat b.toInt.toNat) f y) (f68 z41.toInt.toNat) (f 1).toInt.toNat) = fn5 at hA_en
        generalize hf_fd5 : y_up f76 z41.toInt.toNat (m_gg (m_gd (m_ln f a.toInt.toNat b.toInt.toNat) f y) (f76 z41.toInt.toNat) (f 1).toInt.toNat) = fd5 at hA_ed
        clear ho hr ha hE hP hI hx_
        rename x_I _ _ _ _ _ _ _ _ _ _ => hI
        obtain ⟨z85, hg_z85⟩ : ∃ z85 : Int32, b + Int32.ofInt 1 = z85 := ⟨_, rfl⟩
        have h_z85 : z85.toInt = b.toInt + 1 := by rw [← hg_z85]; exact y_inc (by decide) (by omega) (by omega)
        refine lv_iinc hx hb gaq_d85 hl (k := 1) rfl hg_z85 (by decide) (lv' := [(4, .int z85), (5, .int z41), (3, .int a), (0, .ref this), (1, .ref ld), (2, .int y)]) rfl fun ls hl => ?_
        refine lv_goto hx hb gaq_d88 (tgt := 15) (by decide) ?_
        have hz : z41.toInt.toNat = 10 * a.toInt.toNat + b.toInt.toNat := by omega
        rw [hz] at hf_fn5 hf_fd5 hf_f68 hf_f76
        have hhb : m_hb (m_ln f a.toInt.toNat b.toInt.toNat) f (a.toInt.toNat : Nat) (b.toInt.toNat : Nat) = true := by rw [show ((a.toInt.toNat : Nat) : Int) = a.toInt by omega, show ((b.toInt.toNat : Nat) : Int) = b.toInt by omega]; exact m_bn (fun q => q58 (hg_r55.symm.trans q))
        have hnew : m_gok fn5 fd5 f y a.toInt.toNat b.toInt.toNat := by
          constructor
          · rw [← hf_fn5, ← hf_f68, y_up_up, y_up_at, y_up_at]; unfold m_gN; rw [hhb]; rfl
          · rw [← hf_fd5, ← hf_f76, y_up_up, y_up_at, y_up_at]; rfl
        have hold : ∀ p q : Nat, 10 * p + q ≠ 10 * a.toInt.toNat + b.toInt.toNat → m_gok fn fd f y p q → m_gok fn5 fd5 f y p q := fun p q hne h9 => ⟨by rw [← hf_fn5, ← hf_f68, y_up_up, y_up_ne hne]; exact h9.1, by rw [← hf_fd5, ← hf_f76, y_up_up, y_up_ne hne]; exact h9.2⟩
        exact ih _ _ _ _ _ _ _ hI hY_this hY_ld hY_ln hY_en hY_ed hs_ln hs_en hs_ed hsi_hills hA_en hA_ed hL (lv_sub hl [0, 2, 3, 4, 5] rfl) (by first | assumption | omega) (fun p q h1 h2 h3 => hold p q (by omega) (hout p q h1 h2 h3)) (fun q h1 h2 => by by_cases e : q = b.toInt.toNat; (subst e; exact hnew); exact hold _ q (by omega) (hin q h1 (by omega))) (by omega)
theorem gaq_L2 {p : Program} {l : Launch} {e : Env} {s : State} {m : MethodId} {below : List Frame} {meth : Method} {c : Code} {D : va_G} {U : State} {Y0 : xY} {av : List Value} (B : y_B vwCl x_Tb x_Nb xM49 p s m meth c D U Y0 av) {this ld ln en ed : Nat} {y : Int32} {f : Nat → Int32} (hav : av = [.ref this, .ref ld, .int y]) (hs2 : x_sl D 0 2 this s.heap = some (.ref en)) (hs3 : x_sl D 0 3 this s.heap = some (.ref ed)) (hL0 : z_L D Y0 ld s.heap f) (hd0 : 0 ≤ (f 0).toInt ∧ (f 0).toInt ≤ 10)  :
    ∀ (n : Nat), ∀ (H : Heap) (Y : xY) (locs : List Loc) (ls : Array Slot) (a : Int32) (fn fd : Nat → Int32), x_I D x_G x_Zs U (x_efs xM49) Y0 s.heap Y H locs → Y this = some 6 → Y ld = some 2 → Y ln = some 10 → Y en = some 33 → Y ed = some 34 → x_sl D 0 0 this H = some (.ref ln) → x_sl D 0 2 this H = some (.ref en) → x_sl D 0 3 this H = some (.ref ed) → x_sl D 2 0 ld H = some (.int (f 0)) → y_A en 100 H fn → y_A ed 100 H fd → z_L D Y ld H f → lv_has ls xM49.2.2.1 [(3, .int a), (0, .ref this), (1, .ref ld), (2, .int y)] → (0 ≤ a.toInt ∧ a.toInt ≤ (f 0).toInt) → (∀ p q : Nat, (p : Int) < a.toInt → p < q → (q : Int) < (f 0).toInt → m_gok fn fd f y p q) → (11 - a.toInt).toNat < n → W p l e (x_rm xM49) s m av.toArray below meth c H locs 0 0 (y_QQ below D x_G x_Zs U xM49 z_Pga av Y0 s) (F0 m 2 ls []) := by
  have X := B.1
  have hx := X.1
  have hb := X.2.1
  have hY0 := B.2.2.2.2.1
  intro n
  induction n with
  | zero => intro _ _ _ _ _ _ _ _ _ _ _ _ _ _ _ _ _ _ _ _ _ _ _ h; exact absurd h (Nat.not_lt_zero _)
  | succ n ih =>
    intro H Y locs ls a fn fd hI hY_this hY_ld hY_ln hY_en hY_ed hs_ln hs_en hs_ed hsi_hills hA_en hA_ed hL hl ha hout hn
    refine lv_iload_n hx hb gaq_d2 rfl (lv_at hl 0 rfl) ?_
    refine lv_aload_n hx hb gaq_d3 rfl (lv_at hl 2 rfl) ?_
    refine y_getf X (fl80 X.2.2.2.2.1) hI.1 hY_ld rfl hsi_hills gaq_d4 ?_
    refine lv_icmp_ge hx hb gaq_d7 (tgt := 97) (by decide) (fun q7 => ?_) (fun q7 => ?_)
    · have q7_ : (f 0).toInt ≤ a.toInt := x_le32.mp q7
      subst hav
      exact y_return B hI rfl rfl List.mem_cons_self rfl (x_cs.mono B.2.2.2.2.2 (y_mon B hI)) (fun t' d' n' m' y' f' h1 h2 h3 h4 => by cases h1; cases h2.symm.trans hs2; cases h3.symm.trans hs3; cases h4.uniq hL0; exact ⟨fn, fd, hA_en, hA_ed, fun p q h5 h6 => hout p q (by omega) h5 h6⟩) (Nat.le_refl _) (Nat.le_refl _) gaq_d97
    · have q7_ : a.toInt < (f 0).toInt := Int.not_le.mp fun q => q7 (x_le32.mpr q)
      refine lv_iload_n hx hb gaq_d10 rfl (lv_at hl 0 rfl) ?_
      refine lv_iconst hx hb gaq_d11 (v := 1) (by decide) ?_
      have ec1 : (1 : Int32).toInt = 1 := by decide
      refine lv_iadd hx hb gaq_d12 ?_
      generalize hg_z12 : a + (1 : Int32) = z12
      have h_z12 : z12.toInt = a.toInt + 1 := by rw [← hg_z12]; have := y_add (x := a) (y := (1 : Int32)) (by rw [ec1]; omega) (by rw [ec1]; omega); rw [ec1] at this; exact this
      refine lv_istore hx hb gaq_d13 hl (by decide) (lv' := [(4, .int z12), (3, .int a), (0, .ref this), (1, .ref ld), (2, .int y)]) rfl fun ls hl => ?_
      exact gaq_L15 B hav hs2 hs3 hL0 hd0 (by first | assumption | omega) (fun H Y locs ls a1 fn fd hI hY_this hY_ld hY_ln hY_en hY_ed hs_ln hs_en hs_ed hsi_hills hA_en hA_ed hL hl ha hout h_a1 => ih _ _ _ _ _ _ _ hI hY_this hY_ld hY_ln hY_en hY_ed hs_ln hs_en hs_ed hsi_hills hA_en hA_ed hL hl ha hout (by omega)) 12 _ _ _ _ _ _ _ hI hY_this hY_ld hY_ln hY_en hY_ed hs_ln hs_en hs_ed hsi_hills hA_en hA_ed hL (lv_sub hl [0, 1, 2, 3, 4] rfl) (by first | assumption | omega) (by first | assumption | omega) (fun q h1 h2 => absurd h2 (by omega)) (by omega)
theorem ym_gatherE : y_Met vwCl x_G x_Zs x_Tb x_Nb xM49 z_ALn z_Pga := by
  refine y_main (by decide +kernel) (by decide +kernel) x_Tb_good x_Nb_ok ?_
  intro p l e s m below meth c D U Y0 av ls B hI hpre hl
  have X := B.1
  have hx := X.1
  have hb := X.2.1
  have hY0 := B.2.2.2.2.1
  obtain ⟨v0, v1, v2, rfl, hv0, hv1, ⟨y, rfl, -⟩⟩ := y_three B.2.2.2.2.2
  obtain ⟨this, t0, rfl, ht0, hY_this⟩ := x_ref_at hv0 rfl
  obtain rfl := List.mem_singleton.mp ht0
  obtain ⟨ld, t1, rfl, ht1, hY_ld⟩ := x_ref_at hv1 rfl
  obtain rfl := List.mem_singleton.mp ht1
  replace hl : lv_has ls xM49.2.2.1 [(0, .ref this), (1, .ref ld), (2, .int y)] := hl
  obtain ⟨f, hL⟩ := hpre _ rfl
  have hL0 := hL
  have hsi_hills := hL.1.1
  have hsi_things := hL.1.2.1
  have hd0 : 0 ≤ (f 0).toInt ∧ (f 0).toInt ≤ 10 := by
    obtain ⟨x9, e9, b9⟩ := y_fldI (k := 0) hI.1 hY_ld rfl rfl
    rw [hsi_hills] at e9
    cases e9
    exact b9
  have hd1 : 0 ≤ (f 1).toInt ∧ (f 1).toInt ≤ 8 := by
    obtain ⟨x9, e9, b9⟩ := y_fldI (k := 6) hI.1 hY_ld rfl rfl
    rw [hsi_things] at e9
    cases e9
    exact b9
  obtain ⟨ln, hs_ln, hY_ln⟩ := y_fldR (k := 0) hI.1 hY_this rfl rfl
  obtain ⟨en, hs_en, hY_en⟩ := y_fldR (k := 2) hI.1 hY_this rfl rfl
  obtain ⟨fn0, hA_en, -⟩ := y_arr hI.1 hY_en rfl rfl
  obtain ⟨ed, hs_ed, hY_ed⟩ := y_fldR (k := 3) hI.1 hY_this rfl rfl
  obtain ⟨fd0, hA_ed, -⟩ := y_arr hI.1 hY_ed rfl rfl
  have hs2 := hs_en
  have hs3 := hs_ed
  refine lv_iconst hx hb gaq_d0 (v := 0) (by decide) ?_
  have ec0 : (0 : Int32).toInt = 0 := by decide
  refine lv_istore_n hx hb gaq_d1 rfl hl (by decide) (lv' := [(3, .int (0 : Int32)), (0, .ref this), (1, .ref ld), (2, .int y)]) rfl fun ls hl => ?_
  exact gaq_L2 B rfl hs2 hs3 hL0 hd0 12 _ _ _ _ _ _ _ hI hY_this hY_ld hY_ln hY_en hY_ed hs_ln hs_en hs_ed hsi_hills hA_en hA_ed hL (lv_sub hl [0, 1, 2, 3] rfl) (by first | assumption | omega) (fun p q h1 _ _ => absurd h1 (by omega)) (by omega)
def z_Pve : yP := fun D av Y H _ _ H' => ∀ (this ld vw en ed : Nat) (mi wk : Int32) (f fn fd : Nat → Int32), av = [.ref this, .ref ld, .int mi, .int wk] → x_sl D 0 1 this H = some (.ref vw) → x_sl D 0 2 this H = some (.ref en) → x_sl D 0 3 this H = some (.ref ed) → z_L D Y ld H f → y_A en 100 H fn → y_A ed 100 H fd → y_A vw 10 H' (m_vw (m_vk fn fd f mi wk) (f 0).toInt.toNat)
theorem veq_d0 : decode xM51.2.1 0 = .ok (.aload_n 0, 1) := dz_ok (by decide +kernel)
theorem veq_d1 : decode xM51.2.1 1 = .ok (.getfield 18, 3) := dz_ok (by decide +kernel)
theorem veq_d4 : decode xM51.2.1 4 = .ok (.iconst 0, 1) := dz_ok (by decide +kernel)
theorem veq_d5 : decode xM51.2.1 5 = .ok (.invokestatic 82, 3) := dz_ok (by decide +kernel)
theorem veq_d8 : decode xM51.2.1 8 = .ok (.iconst 0, 1) := dz_ok (by decide +kernel)
theorem veq_d9 : decode xM51.2.1 9 = .ok (.istore 4, 2) := dz_ok (by decide +kernel)
theorem veq_d11 : decode xM51.2.1 11 = .ok (.iload 4, 2) := dz_ok (by decide +kernel)
theorem veq_d13 : decode xM51.2.1 13 = .ok (.aload_n 1, 1) := dz_ok (by decide +kernel)
theorem veq_d14 : decode xM51.2.1 14 = .ok (.getfield 28, 3) := dz_ok (by decide +kernel)
theorem veq_d17 : decode xM51.2.1 17 = .ok (.if_icmp .ge 118, 3) := dz_ok (by decide +kernel)
theorem veq_d20 : decode xM51.2.1 20 = .ok (.iload 4, 2) := dz_ok (by decide +kernel)
theorem veq_d22 : decode xM51.2.1 22 = .ok (.iconst 1, 1) := dz_ok (by decide +kernel)
theorem veq_d23 : decode xM51.2.1 23 = .ok (.iadd, 1) := dz_ok (by decide +kernel)
theorem veq_d24 : decode xM51.2.1 24 = .ok (.istore 5, 2) := dz_ok (by decide +kernel)
theorem veq_d26 : decode xM51.2.1 26 = .ok (.iload 5, 2) := dz_ok (by decide +kernel)
theorem veq_d28 : decode xM51.2.1 28 = .ok (.aload_n 1, 1) := dz_ok (by decide +kernel)
theorem veq_d29 : decode xM51.2.1 29 = .ok (.getfield 28, 3) := dz_ok (by decide +kernel)
theorem veq_d32 : decode xM51.2.1 32 = .ok (.if_icmp .ge 97, 3) := dz_ok (by decide +kernel)
theorem veq_d35 : decode xM51.2.1 35 = .ok (.iload 4, 2) := dz_ok (by decide +kernel)
theorem veq_d37 : decode xM51.2.1 37 = .ok (.bipush 10, 2) := dz_ok (by decide +kernel)
theorem veq_d39 : decode xM51.2.1 39 = .ok (.imul, 1) := dz_ok (by decide +kernel)
theorem veq_d40 : decode xM51.2.1 40 = .ok (.iload 5, 2) := dz_ok (by decide +kernel)
theorem veq_d42 : decode xM51.2.1 42 = .ok (.iadd, 1) := dz_ok (by decide +kernel)
theorem veq_d43 : decode xM51.2.1 43 = .ok (.istore 6, 2) := dz_ok (by decide +kernel)
theorem veq_d45 : decode xM51.2.1 45 = .ok (.aload_n 0, 1) := dz_ok (by decide +kernel)
theorem veq_d46 : decode xM51.2.1 46 = .ok (.getfield 22, 3) := dz_ok (by decide +kernel)
theorem veq_d49 : decode xM51.2.1 49 = .ok (.iload 6, 2) := dz_ok (by decide +kernel)
theorem veq_d51 : decode xM51.2.1 51 = .ok (.iaload, 1) := dz_ok (by decide +kernel)
theorem veq_d52 : decode xM51.2.1 52 = .ok (.iload_n 3, 1) := dz_ok (by decide +kernel)
theorem veq_d53 : decode xM51.2.1 53 = .ok (.iconst (-1), 1) := dz_ok (by decide +kernel)
theorem veq_d54 : decode xM51.2.1 54 = .ok (.ixor, 1) := dz_ok (by decide +kernel)
theorem veq_d55 : decode xM51.2.1 55 = .ok (.iand, 1) := dz_ok (by decide +kernel)
theorem veq_d56 : decode xM51.2.1 56 = .ok (.aload_n 0, 1) := dz_ok (by decide +kernel)
theorem veq_d57 : decode xM51.2.1 57 = .ok (.getfield 25, 3) := dz_ok (by decide +kernel)
theorem veq_d60 : decode xM51.2.1 60 = .ok (.iload 6, 2) := dz_ok (by decide +kernel)
theorem veq_d62 : decode xM51.2.1 62 = .ok (.iaload, 1) := dz_ok (by decide +kernel)
theorem veq_d63 : decode xM51.2.1 63 = .ok (.iload_n 3, 1) := dz_ok (by decide +kernel)
theorem veq_d64 : decode xM51.2.1 64 = .ok (.iand, 1) := dz_ok (by decide +kernel)
theorem veq_d65 : decode xM51.2.1 65 = .ok (.ior, 1) := dz_ok (by decide +kernel)
theorem veq_d66 : decode xM51.2.1 66 = .ok (.istore 7, 2) := dz_ok (by decide +kernel)
theorem veq_d68 : decode xM51.2.1 68 = .ok (.iload 7, 2) := dz_ok (by decide +kernel)
theorem veq_d70 : decode xM51.2.1 70 = .ok (.ifCond .ne 53, 3) := dz_ok (by decide +kernel)
theorem veq_d73 : decode xM51.2.1 73 = .ok (.aload_n 1, 1) := dz_ok (by decide +kernel)
theorem veq_d74 : decode xM51.2.1 74 = .ok (.getfield 55, 3) := dz_ok (by decide +kernel)
theorem veq_d77 : decode xM51.2.1 77 = .ok (.iload 4, 2) := dz_ok (by decide +kernel)
theorem veq_d79 : decode xM51.2.1 79 = .ok (.iaload, 1) := dz_ok (by decide +kernel)
theorem veq_d80 : decode xM51.2.1 80 = .ok (.iload_n 2, 1) := dz_ok (by decide +kernel)
theorem veq_d81 : decode xM51.2.1 81 = .ok (.if_icmp .lt 42, 3) := dz_ok (by decide +kernel)
theorem veq_d84 : decode xM51.2.1 84 = .ok (.aload_n 1, 1) := dz_ok (by decide +kernel)
theorem veq_d85 : decode xM51.2.1 85 = .ok (.getfield 55, 3) := dz_ok (by decide +kernel)
theorem veq_d88 : decode xM51.2.1 88 = .ok (.iload 5, 2) := dz_ok (by decide +kernel)
theorem veq_d90 : decode xM51.2.1 90 = .ok (.iaload, 1) := dz_ok (by decide +kernel)
theorem veq_d91 : decode xM51.2.1 91 = .ok (.iload_n 2, 1) := dz_ok (by decide +kernel)
theorem veq_d92 : decode xM51.2.1 92 = .ok (.if_icmp .lt 31, 3) := dz_ok (by decide +kernel)
theorem veq_d95 : decode xM51.2.1 95 = .ok (.aload_n 0, 1) := dz_ok (by decide +kernel)
theorem veq_d96 : decode xM51.2.1 96 = .ok (.getfield 18, 3) := dz_ok (by decide +kernel)
theorem veq_d99 : decode xM51.2.1 99 = .ok (.iload 4, 2) := dz_ok (by decide +kernel)
theorem veq_d101 : decode xM51.2.1 101 = .ok (.dup2, 1) := dz_ok (by decide +kernel)
theorem veq_d102 : decode xM51.2.1 102 = .ok (.iaload, 1) := dz_ok (by decide +kernel)
theorem veq_d103 : decode xM51.2.1 103 = .ok (.iconst 1, 1) := dz_ok (by decide +kernel)
theorem veq_d104 : decode xM51.2.1 104 = .ok (.iload 5, 2) := dz_ok (by decide +kernel)
theorem veq_d106 : decode xM51.2.1 106 = .ok (.ishl, 1) := dz_ok (by decide +kernel)
theorem veq_d107 : decode xM51.2.1 107 = .ok (.ior, 1) := dz_ok (by decide +kernel)
theorem veq_d108 : decode xM51.2.1 108 = .ok (.iastore, 1) := dz_ok (by decide +kernel)
theorem veq_d109 : decode xM51.2.1 109 = .ok (.aload_n 0, 1) := dz_ok (by decide +kernel)
theorem veq_d110 : decode xM51.2.1 110 = .ok (.getfield 18, 3) := dz_ok (by decide +kernel)
theorem veq_d113 : decode xM51.2.1 113 = .ok (.iload 5, 2) := dz_ok (by decide +kernel)
theorem veq_d115 : decode xM51.2.1 115 = .ok (.dup2, 1) := dz_ok (by decide +kernel)
theorem veq_d116 : decode xM51.2.1 116 = .ok (.iaload, 1) := dz_ok (by decide +kernel)
theorem veq_d117 : decode xM51.2.1 117 = .ok (.iconst 1, 1) := dz_ok (by decide +kernel)
theorem veq_d118 : decode xM51.2.1 118 = .ok (.iload 4, 2) := dz_ok (by decide +kernel)
theorem veq_d120 : decode xM51.2.1 120 = .ok (.ishl, 1) := dz_ok (by decide +kernel)
theorem veq_d121 : decode xM51.2.1 121 = .ok (.ior, 1) := dz_ok (by decide +kernel)
theorem veq_d122 : decode xM51.2.1 122 = .ok (.iastore, 1) := dz_ok (by decide +kernel)
theorem veq_d123 : decode xM51.2.1 123 = .ok (.iinc 5 1, 3) := dz_ok (by decide +kernel)
theorem veq_d126 : decode xM51.2.1 126 = .ok (.goto (-100), 3) := dz_ok (by decide +kernel)
theorem veq_d129 : decode xM51.2.1 129 = .ok (.iinc 4 1, 3) := dz_ok (by decide +kernel)
theorem veq_d132 : decode xM51.2.1 132 = .ok (.goto (-121), 3) := dz_ok (by decide +kernel)
theorem veq_d135 : decode xM51.2.1 135 = .ok (.return_, 1) := dz_ok (by decide +kernel)
theorem veq_L26 {p : Program} {l : Launch} {e : Env} {s : State} {m : MethodId} {below : List Frame} {meth : Method} {c : Code} {D : va_G} {U : State} {Y0 : xY} {av : List Value} (B : y_B vwCl x_Tb x_Nb xM51 p s m meth c D U Y0 av) {this ld vw en ed ah : Nat} {mi wk : Int32} {f fn fd : Nat → Int32} (hav : av = [.ref this, .ref ld, .int mi, .int wk]) (hs1 : x_sl D 0 1 this s.heap = some (.ref vw)) (hs2 : x_sl D 0 2 this s.heap = some (.ref en)) (hs3 : x_sl D 0 3 this s.heap = some (.ref ed)) (hL0 : z_L D Y0 ld s.heap f) (hAn0 : y_A en 100 s.heap fn) (hAd0 : y_A ed 100 s.heap fd) (hd0 : 0 ≤ (f 0).toInt ∧ (f 0).toInt ≤ 10) {a : Int32} (ha : 0 ≤ a.toInt ∧ a.toInt < (f 0).toInt)
    (out11 : ∀ (H : Heap) (Y : xY) (locs : List Loc) (ls : Array Slot) (a1 : Int32) (fv : Nat → Int32), x_I D x_G x_Zs U (x_efs xM51) Y0 s.heap Y H locs → Y this = some 6 → Y ld = some 2 → Y vw = some 32 → Y en = some 33 → Y ed = some 34 → Y ah = some 21 → x_sl D 0 1 this H = some (.ref vw) → x_sl D 0 2 this H = some (.ref en) → x_sl D 0 3 this H = some (.ref ed) → x_sl D 2 3 ld H = some (.ref ah) → x_sl D 2 0 ld H = some (.int (f 0)) → y_A vw 10 H fv → y_A en 100 H fn → y_A ed 100 H fd → y_A ah 10 H (fun j => f (12 + 5 * j)) → z_L D Y ld H f → lv_has ls xM51.2.2.1 [(4, .int a1), (0, .ref this), (1, .ref ld), (2, .int mi), (3, .int wk)] → (0 ≤ a1.toInt ∧ a1.toInt ≤ (f 0).toInt) → (∀ i, i < 10 → ∀ j, m_bi (fv i) j = m_pr (m_vk fn fd f mi wk) (f 0).toInt.toNat a1.toInt.toNat 0 i j) → (a1.toInt = a.toInt + 1) → W p l e (x_rm xM51) s m av.toArray below meth c H locs 0 0 (y_QQ below D x_G x_Zs U xM51 z_Pve av Y0 s) (F0 m 11 ls [])) :
    ∀ (n : Nat), ∀ (H : Heap) (Y : xY) (locs : List Loc) (ls : Array Slot) (b : Int32) (fv : Nat → Int32), x_I D x_G x_Zs U (x_efs xM51) Y0 s.heap Y H locs → Y this = some 6 → Y ld = some 2 → Y vw = some 32 → Y en = some 33 → Y ed = some 34 → Y ah = some 21 → x_sl D 0 1 this H = some (.ref vw) → x_sl D 0 2 this H = some (.ref en) → x_sl D 0 3 this H = some (.ref ed) → x_sl D 2 3 ld H = some (.ref ah) → x_sl D 2 0 ld H = some (.int (f 0)) → y_A vw 10 H fv → y_A en 100 H fn → y_A ed 100 H fd → y_A ah 10 H (fun j => f (12 + 5 * j)) → z_L D Y ld H f → lv_has ls xM51.2.2.1 [(5, .int b), (4, .int a), (0, .ref this), (1, .ref ld), (2, .int mi), (3, .int wk)] → (a.toInt < b.toInt ∧ b.toInt ≤ (f 0).toInt) → (∀ i, i < 10 → ∀ j, m_bi (fv i) j = m_pr (m_vk fn fd f mi wk) (f 0).toInt.toNat a.toInt.toNat b.toInt.toNat i j) → (11 - b.toInt).toNat < n → W p l e (x_rm xM51) s m av.toArray below meth c H locs 0 0 (y_QQ below D x_G x_Zs U xM51 z_Pve av Y0 s) (F0 m 26 ls []) := by
  have X := B.1
  have hx := X.1
  have hb := X.2.1
  have hY0 := B.2.2.2.2.1
  intro n
  induction n with
  | zero => intro _ _ _ _ _ _ _ _ _ _ _ _ _ _ _ _ _ _ _ _ _ _ _ _ _ _ h; exact absurd h (Nat.not_lt_zero _)
  | succ n ih =>
    intro H Y locs ls b fv hI hY_this hY_ld hY_vw hY_en hY_ed hY_ah hs_vw hs_en hs_ed hs_ah hsi_hills hA_vw hA_en hA_ed hA_ah hL hl hb9 hV hn
    refine lv_iload hx hb veq_d26 (lv_at hl 0 rfl) ?_
    refine lv_aload_n hx hb veq_d28 rfl (lv_at hl 3 rfl) ?_
    refine y_getf X (fl80 X.2.2.2.2.1) hI.1 hY_ld rfl hsi_hills veq_d29 ?_
    refine lv_icmp_ge hx hb veq_d32 (tgt := 129) (by decide) (fun q32 => ?_) (fun q32 => ?_)
    · have q32_ : (f 0).toInt ≤ b.toInt := x_le32.mp q32
      obtain ⟨z129, hg_z129⟩ : ∃ z129 : Int32, a + Int32.ofInt 1 = z129 := ⟨_, rfl⟩
      have h_z129 : z129.toInt = a.toInt + 1 := by rw [← hg_z129]; exact y_inc (by decide) (by omega) (by omega)
      refine lv_iinc hx hb veq_d129 hl (k := 1) rfl hg_z129 (by decide) (lv' := [(4, .int z129), (5, .int b), (0, .ref this), (1, .ref ld), (2, .int mi), (3, .int wk)]) rfl fun ls hl => ?_
      refine lv_goto hx hb veq_d132 (tgt := 11) (by decide) ?_
      have his : z129.toInt.toNat = a.toInt.toNat + 1 := by omega
      exact out11 _ _ _ _ _ _ hI hY_this hY_ld hY_vw hY_en hY_ed hY_ah hs_vw hs_en hs_ed hs_ah hsi_hills hA_vw hA_en hA_ed hA_ah hL (lv_sub hl [0, 2, 3, 4, 5] rfl) (by first | assumption | omega) (fun i hi j => by rw [his, ← m_pr_n (b := b.toInt.toNat) (by omega)]; exact hV i hi j) (by first | assumption | omega)
    · have q32_ : b.toInt < (f 0).toInt := Int.not_le.mp fun q => q32 (x_le32.mpr q)
      refine lv_iload hx hb veq_d35 (lv_at hl 1 rfl) ?_
      refine lv_bipush hx hb veq_d37 (v := 10) (by decide) ?_
      have ec10 : (10 : Int32).toInt = 10 := by decide
      refine lv_imul hx hb veq_d39 ?_
      generalize hg_z39 : a * (10 : Int32) = z39
      have h_z39 : z39.toInt = a.toInt * 10 := by rw [← hg_z39]; have := y_mul (x := a) (y := (10 : Int32)) (by rw [ec10]; omega) (by rw [ec10]; omega); rw [ec10] at this; exact this
      refine lv_iload hx hb veq_d40 (lv_at hl 0 rfl) ?_
      refine lv_iadd hx hb veq_d42 ?_
      generalize hg_z42 : z39 + b = z42
      have h_z42 : z42.toInt = z39.toInt + b.toInt := by rw [← hg_z42]; have := y_add (x := z39) (y := b) (by omega) (by omega); exact this
      refine lv_istore hx hb veq_d43 hl (by decide) (lv' := [(6, .int z42), (5, .int b), (4, .int a), (0, .ref this), (1, .ref ld), (2, .int mi), (3, .int wk)]) rfl fun ls hl => ?_
      refine lv_aload_n hx hb veq_d45 rfl (lv_at hl 3 rfl) ?_
      refine y_getf X (fl84 X.2.2.2.2.1) hI.1 hY_this rfl hs_en veq_d46 ?_
      refine lv_iload hx hb veq_d49 (lv_at hl 0 rfl) ?_
      refine y_iald X hI.1 hY_en rfl hA_en (by omega) (by show _ < (100 : Int); omega) veq_d51 ?_
      obtain ⟨e51, hg_e51⟩ : ∃ e51 : Int32, fn z42.toInt.toNat = e51 := ⟨_, rfl⟩
      rw [hg_e51]
      refine lv_iload_n hx hb veq_d52 rfl (lv_at hl 6 rfl) ?_
      refine lv_iconst hx hb veq_d53 (v := (-1)) (by decide) ?_
      have ecm1 : ((-1) : Int32).toInt = (-1) := by decide
      refine lv_ixor hx hb veq_d54 ?_
      generalize hg_z54 : wk ^^^ ((-1) : Int32) = z54
      refine lv_iand hx hb veq_d55 ?_
      generalize hg_z55 : e51 &&& z54 = z55
      refine lv_aload_n hx hb veq_d56 rfl (lv_at hl 3 rfl) ?_
      refine y_getf X (fl85 X.2.2.2.2.1) hI.1 hY_this rfl hs_ed veq_d57 ?_
      refine lv_iload hx hb veq_d60 (lv_at hl 0 rfl) ?_
      refine y_iald X hI.1 hY_ed rfl hA_ed (by omega) (by show _ < (100 : Int); omega) veq_d62 ?_
      obtain ⟨e62, hg_e62⟩ : ∃ e62 : Int32, fd z42.toInt.toNat = e62 := ⟨_, rfl⟩
      rw [hg_e62]
      refine lv_iload_n hx hb veq_d63 rfl (lv_at hl 6 rfl) ?_
      refine lv_iand hx hb veq_d64 ?_
      generalize hg_z64 : e62 &&& wk = z64
      refine lv_ior hx hb veq_d65 ?_
      generalize hg_z65 : z55 ||| z64 = z65
      refine lv_istore hx hb veq_d66 hl (by decide) (lv' := [(7, .int z65), (6, .int z42), (5, .int b), (4, .int a), (0, .ref this), (1, .ref ld), (2, .int mi), (3, .int wk)]) rfl fun ls hl => ?_
      refine lv_iload hx hb veq_d68 (lv_at hl 0 rfl) ?_
      have ec0 : (0 : Int32).toInt = 0 := by decide
      refine lv_if_ne hx hb veq_d70 (tgt := 123) (by decide) (fun q70 => ?_) (fun q70 => ?_)
      · have q70_ : ¬ z65.toInt = (0 : Int32).toInt := fun q => q70 (Int32.toInt_inj.mp q)
        obtain ⟨z123, hg_z123⟩ : ∃ z123 : Int32, b + Int32.ofInt 1 = z123 := ⟨_, rfl⟩
        have h_z123 : z123.toInt = b.toInt + 1 := by rw [← hg_z123]; exact y_inc (by decide) (by omega) (by omega)
        refine lv_iinc hx hb veq_d123 hl (k := 2) rfl hg_z123 (by decide) (lv' := [(5, .int z123), (7, .int z65), (6, .int z42), (4, .int a), (0, .ref this), (1, .ref ld), (2, .int mi), (3, .int wk)]) rfl fun ls hl => ?_
        refine lv_goto hx hb veq_d126 (tgt := 26) (by decide) ?_
        have his : z123.toInt.toNat = b.toInt.toNat + 1 := by omega
        have hz : z42.toInt.toNat = 10 * a.toInt.toNat + b.toInt.toNat := by omega
        have hz65 : (fn (10 * a.toInt.toNat + b.toInt.toNat) &&& (wk ^^^ -1)) ||| (fd (10 * a.toInt.toNat + b.toInt.toNat) &&& wk) = z65 := by rw [← hg_z65, ← hg_z64, ← hg_z55, ← hg_z54, ← hg_e51, ← hg_e62, hz]
        have hok : m_vk fn fd f mi wk a.toInt.toNat b.toInt.toNat = false := by unfold m_vk; first | (rw [hz65, decide_eq_false q70, Bool.false_and]) | (rw [hg_e79, decide_eq_false (show ¬ mi.toInt ≤ e79.toInt by omega), Bool.false_and, Bool.and_false]) | (rw [hg_e90, decide_eq_false (show ¬ mi.toInt ≤ e90.toInt by omega), Bool.and_false, Bool.and_false])
        exact ih _ _ _ _ _ _ hI hY_this hY_ld hY_vw hY_en hY_ed hY_ah hs_vw hs_en hs_ed hs_ah hsi_hills hA_vw hA_en hA_ed hA_ah hL (lv_sub hl [0, 3, 4, 5, 6, 7] rfl) (by first | assumption | omega) (fun i hi j => by rw [his, m_pr_no (by omega) (by omega) hok]; exact hV i hi j) (by omega)
      · have q70_ : z65.toInt = (0 : Int32).toInt := by rw [q70]
        refine lv_aload_n hx hb veq_d73 rfl (lv_at hl 5 rfl) ?_
        refine y_getf X (fl83 X.2.2.2.2.1) hI.1 hY_ld rfl hs_ah veq_d74 ?_
        refine lv_iload hx hb veq_d77 (lv_at hl 3 rfl) ?_
        refine y_iald X hI.1 hY_ah rfl hA_ah (by omega) (by show _ < (10 : Int); omega) veq_d79 ?_
        obtain ⟨e79, hg_e79⟩ : ∃ e79 : Int32, f (12 + 5 * a.toInt.toNat) = e79 := ⟨_, rfl⟩
        rw [hg_e79]
        refine lv_iload_n hx hb veq_d80 rfl (lv_at hl 6 rfl) ?_
        refine lv_icmp_lt hx hb veq_d81 (tgt := 123) (by decide) (fun q81 => ?_) (fun q81 => ?_)
        · have q81_ : e79.toInt < mi.toInt := x_lt32.mp q81
          obtain ⟨z123, hg_z123⟩ : ∃ z123 : Int32, b + Int32.ofInt 1 = z123 := ⟨_, rfl⟩
          have h_z123 : z123.toInt = b.toInt + 1 := by rw [← hg_z123]; exact y_inc (by decide) (by omega) (by omega)
          refine lv_iinc hx hb veq_d123 hl (k := 2) rfl hg_z123 (by decide) (lv' := [(5, .int z123), (7, .int z65), (6, .int z42), (4, .int a), (0, .ref this), (1, .ref ld), (2, .int mi), (3, .int wk)]) rfl fun ls hl => ?_
          refine lv_goto hx hb veq_d126 (tgt := 26) (by decide) ?_
          have his : z123.toInt.toNat = b.toInt.toNat + 1 := by omega
          have hz : z42.toInt.toNat = 10 * a.toInt.toNat + b.toInt.toNat := by omega
          have hz65 : (fn (10 * a.toInt.toNat + b.toInt.toNat) &&& (wk ^^^ -1)) ||| (fd (10 * a.toInt.toNat + b.toInt.toNat) &&& wk) = z65 := by rw [← hg_z65, ← hg_z64, ← hg_z55, ← hg_z54, ← hg_e51, ← hg_e62, hz]
          have hok : m_vk fn fd f mi wk a.toInt.toNat b.toInt.toNat = false := by unfold m_vk; first | (rw [hz65, decide_eq_false q70, Bool.false_and]) | (rw [hg_e79, decide_eq_false (show ¬ mi.toInt ≤ e79.toInt by omega), Bool.false_and, Bool.and_false]) | (rw [hg_e90, decide_eq_false (show ¬ mi.toInt ≤ e90.toInt by omega), Bool.and_false, Bool.and_false])
          exact ih _ _ _ _ _ _ hI hY_this hY_ld hY_vw hY_en hY_ed hY_ah hs_vw hs_en hs_ed hs_ah hsi_hills hA_vw hA_en hA_ed hA_ah hL (lv_sub hl [0, 3, 4, 5, 6, 7] rfl) (by first | assumption | omega) (fun i hi j => by rw [his, m_pr_no (by omega) (by omega) hok]; exact hV i hi j) (by omega)
        · have q81_ : mi.toInt ≤ e79.toInt := Int.not_lt.mp fun q => q81 (x_lt32.mpr q)
          refine lv_aload_n hx hb veq_d84 rfl (lv_at hl 5 rfl) ?_
          refine y_getf X (fl83 X.2.2.2.2.1) hI.1 hY_ld rfl hs_ah veq_d85 ?_
          refine lv_iload hx hb veq_d88 (lv_at hl 2 rfl) ?_
          refine y_iald X hI.1 hY_ah rfl hA_ah (by omega) (by show _ < (10 : Int); omega) veq_d90 ?_
          obtain ⟨e90, hg_e90⟩ : ∃ e90 : Int32, f (12 + 5 * b.toInt.toNat) = e90 := ⟨_, rfl⟩
          rw [hg_e90]
          refine lv_iload_n hx hb veq_d91 rfl (lv_at hl 6 rfl) ?_
          refine lv_icmp_lt hx hb veq_d92 (tgt := 123) (by decide) (fun q92 => ?_) (fun q92 => ?_)
          · have q92_ : e90.toInt < mi.toInt := x_lt32.mp q92
            obtain ⟨z123, hg_z123⟩ : ∃ z123 : Int32, b + Int32.ofInt 1 = z123 := ⟨_, rfl⟩
            have h_z123 : z123.toInt = b.toInt + 1 := by rw [← hg_z123]; exact y_inc (by decide) (by omega) (by omega)
            refine lv_iinc hx hb veq_d123 hl (k := 2) rfl hg_z123 (by decide) (lv' := [(5, .int z123), (7, .int z65), (6, .int z42), (4, .int a), (0, .ref this), (1, .ref ld), (2, .int mi), (3, .int wk)]) rfl fun ls hl => ?_
            refine lv_goto hx hb veq_d126 (tgt := 26) (by decide) ?_
            have his : z123.toInt.toNat = b.toInt.toNat + 1 := by omega
            have hz : z42.toInt.toNat = 10 * a.toInt.toNat + b.toInt.toNat := by omega
            have hz65 : (fn (10 * a.toInt.toNat + b.toInt.toNat) &&& (wk ^^^ -1)) ||| (fd (10 * a.toInt.toNat + b.toInt.toNat) &&& wk) = z65 := by rw [← hg_z65, ← hg_z64, ← hg_z55, ← hg_z54, ← hg_e51, ← hg_e62, hz]
            have hok : m_vk fn fd f mi wk a.toInt.toNat b.toInt.toNat = false := by unfold m_vk; first | (rw [hz65, decide_eq_false q70, Bool.false_and]) | (rw [hg_e79, decide_eq_false (show ¬ mi.toInt ≤ e79.toInt by omega), Bool.false_and, Bool.and_false]) | (rw [hg_e90, decide_eq_false (show ¬ mi.toInt ≤ e90.toInt by omega), Bool.and_false, Bool.and_false])
            exact ih _ _ _ _ _ _ hI hY_this hY_ld hY_vw hY_en hY_ed hY_ah hs_vw hs_en hs_ed hs_ah hsi_hills hA_vw hA_en hA_ed hA_ah hL (lv_sub hl [0, 3, 4, 5, 6, 7] rfl) (by first | assumption | omega) (fun i hi j => by rw [his, m_pr_no (by omega) (by omega) hok]; exact hV i hi j) (by omega)
          · have q92_ : mi.toInt ≤ e90.toInt := Int.not_lt.mp fun q => q92 (x_lt32.mpr q)
            refine lv_aload_n hx hb veq_d95 rfl (lv_at hl 4 rfl) ?_
            refine y_getf X (fl101 X.2.2.2.2.1) hI.1 hY_this rfl hs_vw veq_d96 ?_
            refine lv_iload hx hb veq_d99 (lv_at hl 3 rfl) ?_
            refine lv_dup2_11 hx hb veq_d101 rfl rfl ?_
            refine y_iald X hI.1 hY_vw rfl hA_vw (by omega) (by show _ < (10 : Int); omega) veq_d102 ?_
            obtain ⟨e102, hg_e102⟩ : ∃ e102 : Int32, fv a.toInt.toNat = e102 := ⟨_, rfl⟩
            rw [hg_e102]
            refine lv_iconst hx hb veq_d103 (v := 1) (by decide) ?_
            have ec1 : (1 : Int32).toInt = 1 := by decide
            refine lv_iload hx hb veq_d104 (lv_at hl 2 rfl) ?_
            refine lv_ishl hx hb veq_d106 ?_
            generalize hg_z106 : (1 : Int32) <<< (b &&& 31) = z106
            refine lv_ior hx hb veq_d107 ?_
            generalize hg_z107 : e102 ||| z106 = z107
            refine y_iast X hY0 hI hY_vw rfl hA_vw (by omega) (by show _ < (10 : Int); omega) ⟨_, rfl, x_i32 _⟩ (by decide +kernel) veq_d108 fun H locs hI h_new ho => ?_
            replace hA_vw := h_new
            generalize hf_f108 : y_up fv a.toInt.toNat z107 = f108 at hA_vw
            replace hs_vw := y_slk hs_vw (ho _ (y_ne hY_this hY_vw rfl))
            replace hs_en := y_slk hs_en (ho _ (y_ne hY_this hY_vw rfl))
            replace hs_ed := y_slk hs_ed (ho _ (y_ne hY_this hY_vw rfl))
            replace hs_ah := y_slk hs_ah (ho _ (y_ne hY_ld hY_vw rfl))
            replace hsi_hills := y_slk hsi_hills (ho _ (y_ne hY_ld hY_vw rfl))
            replace hA_en := hA_en.kept (ho _ (y_ne hY_en hY_vw rfl))
            replace hA_ed := hA_ed.kept (ho _ (y_ne hY_ed hY_vw rfl))
            replace hA_ah := hA_ah.kept (ho _ (y_ne hY_ah hY_vw rfl))
            replace hL := hL.wr hY_ld hY_vw (by decide) ho
            refine lv_aload_n hx hb veq_d109 rfl (lv_at hl 4 rfl) ?_
            refine y_getf X (fl101 X.2.2.2.2.1) hI.1 hY_this rfl hs_vw veq_d110 ?_
            refine lv_iload hx hb veq_d113 (lv_at hl 2 rfl) ?_
            refine lv_dup2_11 hx hb veq_d115 rfl rfl ?_
            refine y_iald X hI.1 hY_vw rfl hA_vw (by omega) (by show _ < (10 : Int); omega) veq_d116 ?_
            obtain ⟨e116, hg_e116⟩ : ∃ e116 : Int32, f108 b.toInt.toNat = e116 := ⟨_, rfl⟩
            rw [hg_e116]
            refine lv_iconst hx hb veq_d117 (v := 1) (by decide) ?_
            refine lv_iload hx hb veq_d118 (lv_at hl 3 rfl) ?_
            refine lv_ishl hx hb veq_d120 ?_
            generalize hg_z120 : (1 : Int32) <<< (a &&& 31) = z120
            refine lv_ior hx hb veq_d121 ?_
            generalize hg_z121 : e116 ||| z120 = z121
            refine y_iast X hY0 hI hY_vw rfl hA_vw (by omega) (by show _ < (10 : Int); omega) ⟨_, rfl, x_i32 _⟩ (by decide +kernel) veq_d122 fun H locs hI h_new ho => ?_
            replace hA_vw := h_new
            generalize hf_f122 : y_up f108 b.toInt.toNat z121 = f122 at hA_vw
            replace hs_vw := y_slk hs_vw (ho _ (y_ne hY_this hY_vw rfl))
            replace hs_en := y_slk hs_en (ho _ (y_ne hY_this hY_vw rfl))
            replace hs_ed := y_slk hs_ed (ho _ (y_ne hY_this hY_vw rfl))
            replace hs_ah := y_slk hs_ah (ho _ (y_ne hY_ld hY_vw rfl))
            replace hsi_hills := y_slk hsi_hills (ho _ (y_ne hY_ld hY_vw rfl))
            replace hA_en := hA_en.kept (ho _ (y_ne hY_en hY_vw rfl))
            replace hA_ed := hA_ed.kept (ho _ (y_ne hY_ed hY_vw rfl))
            replace hA_ah := hA_ah.kept (ho _ (y_ne hY_ah hY_vw rfl))
            replace hL := hL.wr hY_ld hY_vw (by decide) ho
            obtain ⟨z123, hg_z123⟩ : ∃ z123 : Int32, b + Int32.ofInt 1 = z123 := ⟨_, rfl⟩
            have h_z123 : z123.toInt = b.toInt + 1 := by rw [← hg_z123]; exact y_inc (by decide) (by omega) (by omega)
            refine lv_iinc hx hb veq_d123 hl (k := 2) rfl hg_z123 (by decide) (lv' := [(5, .int z123), (7, .int z65), (6, .int z42), (4, .int a), (0, .ref this), (1, .ref ld), (2, .int mi), (3, .int wk)]) rfl fun ls hl => ?_
            refine lv_goto hx hb veq_d126 (tgt := 26) (by decide) ?_
            have his : z123.toInt.toNat = b.toInt.toNat + 1 := by omega
            have hz : z42.toInt.toNat = 10 * a.toInt.toNat + b.toInt.toNat := by omega
            have hz65 : (fn (10 * a.toInt.toNat + b.toInt.toNat) &&& (wk ^^^ -1)) ||| (fd (10 * a.toInt.toNat + b.toInt.toNat) &&& wk) = z65 := by rw [← hg_z65, ← hg_z64, ← hg_z55, ← hg_z54, ← hg_e51, ← hg_e62, hz]
            have hok : m_vk fn fd f mi wk a.toInt.toNat b.toInt.toNat = true := by unfold m_vk; rw [hz65, decide_eq_true q70, hg_e79, hg_e90, decide_eq_true q81_, decide_eq_true q92_]; rfl
            have hfv : f122 = y_up (y_up fv a.toInt.toNat (fv a.toInt.toNat ||| m_sh (nI b.toInt.toNat))) b.toInt.toNat (fv b.toInt.toNat ||| m_sh (nI a.toInt.toNat)) := by rw [← hf_f122, ← hf_f108, ← hg_z107, ← hg_z106, ← hg_e102, m_nj (by omega), m_nj (by omega)]; refine congrArg _ ?_; rw [← hg_z121, ← hg_z120, ← hg_e116, ← hf_f108, y_up_ne (by omega)]; rfl
            exact ih _ _ _ _ _ _ hI hY_this hY_ld hY_vw hY_en hY_ed hY_ah hs_vw hs_en hs_ed hs_ah hsi_hills hA_vw hA_en hA_ed hA_ah hL (lv_sub hl [0, 3, 4, 5, 6, 7] rfl) (by first | assumption | omega) (by rw [his, hfv]; exact m_see2 (by omega) (by omega) (by omega) hok hV) (by omega)
theorem veq_L11 {p : Program} {l : Launch} {e : Env} {s : State} {m : MethodId} {below : List Frame} {meth : Method} {c : Code} {D : va_G} {U : State} {Y0 : xY} {av : List Value} (B : y_B vwCl x_Tb x_Nb xM51 p s m meth c D U Y0 av) {this ld vw en ed ah : Nat} {mi wk : Int32} {f fn fd : Nat → Int32} (hav : av = [.ref this, .ref ld, .int mi, .int wk]) (hs1 : x_sl D 0 1 this s.heap = some (.ref vw)) (hs2 : x_sl D 0 2 this s.heap = some (.ref en)) (hs3 : x_sl D 0 3 this s.heap = some (.ref ed)) (hL0 : z_L D Y0 ld s.heap f) (hAn0 : y_A en 100 s.heap fn) (hAd0 : y_A ed 100 s.heap fd) (hd0 : 0 ≤ (f 0).toInt ∧ (f 0).toInt ≤ 10)  :
    ∀ (n : Nat), ∀ (H : Heap) (Y : xY) (locs : List Loc) (ls : Array Slot) (a : Int32) (fv : Nat → Int32), x_I D x_G x_Zs U (x_efs xM51) Y0 s.heap Y H locs → Y this = some 6 → Y ld = some 2 → Y vw = some 32 → Y en = some 33 → Y ed = some 34 → Y ah = some 21 → x_sl D 0 1 this H = some (.ref vw) → x_sl D 0 2 this H = some (.ref en) → x_sl D 0 3 this H = some (.ref ed) → x_sl D 2 3 ld H = some (.ref ah) → x_sl D 2 0 ld H = some (.int (f 0)) → y_A vw 10 H fv → y_A en 100 H fn → y_A ed 100 H fd → y_A ah 10 H (fun j => f (12 + 5 * j)) → z_L D Y ld H f → lv_has ls xM51.2.2.1 [(4, .int a), (0, .ref this), (1, .ref ld), (2, .int mi), (3, .int wk)] → (0 ≤ a.toInt ∧ a.toInt ≤ (f 0).toInt) → (∀ i, i < 10 → ∀ j, m_bi (fv i) j = m_pr (m_vk fn fd f mi wk) (f 0).toInt.toNat a.toInt.toNat 0 i j) → (11 - a.toInt).toNat < n → W p l e (x_rm xM51) s m av.toArray below meth c H locs 0 0 (y_QQ below D x_G x_Zs U xM51 z_Pve av Y0 s) (F0 m 11 ls []) := by
  have X := B.1
  have hx := X.1
  have hb := X.2.1
  have hY0 := B.2.2.2.2.1
  intro n
  induction n with
  | zero => intro _ _ _ _ _ _ _ _ _ _ _ _ _ _ _ _ _ _ _ _ _ _ _ _ _ _ h; exact absurd h (Nat.not_lt_zero _)
  | succ n ih =>
    intro H Y locs ls a fv hI hY_this hY_ld hY_vw hY_en hY_ed hY_ah hs_vw hs_en hs_ed hs_ah hsi_hills hA_vw hA_en hA_ed hA_ah hL hl ha hV hn
    refine lv_iload hx hb veq_d11 (lv_at hl 0 rfl) ?_
    refine lv_aload_n hx hb veq_d13 rfl (lv_at hl 2 rfl) ?_
    refine y_getf X (fl80 X.2.2.2.2.1) hI.1 hY_ld rfl hsi_hills veq_d14 ?_
    refine lv_icmp_ge hx hb veq_d17 (tgt := 135) (by decide) (fun q17 => ?_) (fun q17 => ?_)
    · have q17_ : (f 0).toInt ≤ a.toInt := x_le32.mp q17
      subst hav
      exact y_return B hI rfl rfl List.mem_cons_self rfl (x_cs.mono B.2.2.2.2.2 (y_mon B hI)) (fun t' d' v' n' m' mi' wk' f' fn' fd' h1 h2 h3 h4 h5 h6 h7 => by cases h1; cases h2.symm.trans hs1; cases h3.symm.trans hs2; cases h4.symm.trans hs3; cases h5.uniq hL0; refine fun i hi => ?_; rw [hA_vw i hi, m_vw_of (ok := m_vk fn fd f mi wk) (n := (f 0).toInt.toNat) (i := i) (v := fv i) (by omega) (fun j => by rw [hV i hi j]; exact m_pr_e (by omega) (Or.inl (by omega)))]; exact congrArg (fun x => some (Value.int x)) (m_vw_congr fun p q h8 h9 => by unfold m_vk; rw [z_AR h6 hAn0 (by omega), z_AR h7 hAd0 (by omega)])) (Nat.le_refl _) (Nat.le_refl _) veq_d135
    · have q17_ : a.toInt < (f 0).toInt := Int.not_le.mp fun q => q17 (x_le32.mpr q)
      refine lv_iload hx hb veq_d20 (lv_at hl 0 rfl) ?_
      refine lv_iconst hx hb veq_d22 (v := 1) (by decide) ?_
      have ec1 : (1 : Int32).toInt = 1 := by decide
      refine lv_iadd hx hb veq_d23 ?_
      generalize hg_z23 : a + (1 : Int32) = z23
      have h_z23 : z23.toInt = a.toInt + 1 := by rw [← hg_z23]; have := y_add (x := a) (y := (1 : Int32)) (by rw [ec1]; omega) (by rw [ec1]; omega); rw [ec1] at this; exact this
      refine lv_istore hx hb veq_d24 hl (by decide) (lv' := [(5, .int z23), (4, .int a), (0, .ref this), (1, .ref ld), (2, .int mi), (3, .int wk)]) rfl fun ls hl => ?_
      have his : z23.toInt.toNat = a.toInt.toNat + 1 := by omega
      exact veq_L26 B hav hs1 hs2 hs3 hL0 hAn0 hAd0 hd0 (by first | assumption | omega) (fun H Y locs ls a1 fv hI hY_this hY_ld hY_vw hY_en hY_ed hY_ah hs_vw hs_en hs_ed hs_ah hsi_hills hA_vw hA_en hA_ed hA_ah hL hl ha hV h_a1 => ih _ _ _ _ _ _ hI hY_this hY_ld hY_vw hY_en hY_ed hY_ah hs_vw hs_en hs_ed hs_ah hsi_hills hA_vw hA_en hA_ed hA_ah hL hl ha hV (by omega)) 12 _ _ _ _ _ _ hI hY_this hY_ld hY_vw hY_en hY_ed hY_ah hs_vw hs_en hs_ed hs_ah hsi_hills hA_vw hA_en hA_ed hA_ah hL (lv_sub hl [0, 1, 2, 3, 4, 5] rfl) (by first | assumption | omega) (fun i hi j => by rw [his, m_pr_a]; exact hV i hi j) (by omega)
theorem ym_veil : y_Met vwCl x_G x_Zs x_Tb x_Nb xM51 z_ALn z_Pve := by
  refine y_main (by decide +kernel) (by decide +kernel) x_Tb_good x_Nb_ok ?_
  intro p l e s m below meth c D U Y0 av ls B hI hpre hl
  have X := B.1
  have hx := X.1
  have hb := X.2.1
  have hY0 := B.2.2.2.2.1
  obtain ⟨v0, v1, v2, v3, rfl, hv0, hv1, ⟨mi, rfl, -⟩, ⟨wk, rfl, -⟩⟩ := y_four B.2.2.2.2.2
  obtain ⟨this, t0, rfl, ht0, hY_this⟩ := x_ref_at hv0 rfl
  obtain rfl := List.mem_singleton.mp ht0
  obtain ⟨ld, t1, rfl, ht1, hY_ld⟩ := x_ref_at hv1 rfl
  obtain rfl := List.mem_singleton.mp ht1
  replace hl : lv_has ls xM51.2.2.1 [(0, .ref this), (1, .ref ld), (2, .int mi), (3, .int wk)] := hl
  obtain ⟨f, hL⟩ := hpre _ rfl
  have hL0 := hL
  have hsi_hills := hL.1.1
  have hsi_things := hL.1.2.1
  have hd0 : 0 ≤ (f 0).toInt ∧ (f 0).toInt ≤ 10 := by
    obtain ⟨x9, e9, b9⟩ := y_fldI (k := 0) hI.1 hY_ld rfl rfl
    rw [hsi_hills] at e9
    cases e9
    exact b9
  have hd1 : 0 ≤ (f 1).toInt ∧ (f 1).toInt ≤ 8 := by
    obtain ⟨x9, e9, b9⟩ := y_fldI (k := 6) hI.1 hY_ld rfl rfl
    rw [hsi_things] at e9
    cases e9
    exact b9
  obtain ⟨en, hs_en, hY_en⟩ := y_fldR (k := 2) hI.1 hY_this rfl rfl
  obtain ⟨fn, hA_en, -⟩ := y_arr hI.1 hY_en rfl rfl
  obtain ⟨ed, hs_ed, hY_ed⟩ := y_fldR (k := 3) hI.1 hY_this rfl rfl
  obtain ⟨fd, hA_ed, -⟩ := y_arr hI.1 hY_ed rfl rfl
  have hs2 := hs_en
  have hs3 := hs_ed
  have hAn0 := hA_en
  have hAd0 := hA_ed
  obtain ⟨vw, hs_vw, hY_vw⟩ := y_fldR (k := 1) hI.1 hY_this rfl rfl
  obtain ⟨fv0, hA_vw, -⟩ := y_arr hI.1 hY_vw rfl rfl
  have hs1 := hs_vw
  obtain ⟨ah, hs_ah, hY_ah, hA_ah⟩ := hL.2.1 (3, 21, 10, 12, 5) (by decide)
  replace hA_ah : y_A ah 10 s.heap (fun j => f (12 + 5 * j)) := hA_ah
  refine lv_aload_n hx hb veq_d0 rfl (lv_at hl 0 rfl) ?_
  refine y_getf X (fl101 X.2.2.2.2.1) hI.1 hY_this rfl hs_vw veq_d1 ?_
  refine lv_iconst hx hb veq_d4 (v := 0) (by decide) ?_
  have ec0 : (0 : Int32).toInt = 0 := by decide
  refine y_call (z := (1, 82, 2, none, xM50)) (av := [.ref vw, .int (0 : Int32)]) (rest := []) (y_cokS (n := 2) X ym_fillVw (x_cons (x_bw32 15 rfl rfl) (x_cons (x_bw2 7 rfl rfl) (x_cons (x_bw0 3 rfl rfl) x_nilm))) (x_bw2 8 rfl rfl) (by decide +kernel) ⟨Nat.le_of_ble_eq_true rfl, Nat.le_of_ble_eq_true rfl⟩) hY0 hI rfl veq_d5 hl.1 (Nat.le_of_ble_eq_true rfl) (Nat.le_of_ble_eq_true rfl) (Nat.le_of_ble_eq_true rfl) (y_cons (y_cref hY_vw rfl) (y_cons ⟨_, rfl, by show (0 : Int) ≤ _; omega, by show _ ≤ (0 : Int); omega⟩ y_nil)) rfl (y_norecv rfl) trivial (y_sub_ef rfl) fun v Yn o Hn L ho hr ha hIn hx_ hE hP => ?_
  have hPf := hP _ _ rfl
  replace hs_vw := y_Efld hE hY_this rfl (by decide) (by decide) hs_vw
  replace hs_en := y_Efld hE hY_this rfl (by decide) (by decide) hs_en
  replace hs_ed := y_Efld hE hY_this rfl (by decide) (by decide) hs_ed
  replace hs_ah := y_Efld hE hY_ld rfl (by decide) (by decide) hs_ah
  replace hsi_hills := y_Efld hE hY_ld rfl (by decide) (by decide) hsi_hills
  replace hA_en := hA_en.kept (y_Earr hE hY_en rfl (by decide))
  replace hA_ed := hA_ed.kept (y_Earr hE hY_ed rfl (by decide))
  replace hA_ah := hA_ah.kept (y_Earr hE hY_ah rfl (by decide))
  replace hL := hL.E hY_ld hE (fun q u h => y_ext hx_ hI.1 h) (by decide +kernel)
  replace hY_this := y_ext hx_ hI.1 hY_this
  replace hY_ld := y_ext hx_ hI.1 hY_ld
  replace hY_vw := y_ext hx_ hI.1 hY_vw
  replace hY_en := y_ext hx_ hI.1 hY_en
  replace hY_ed := y_ext hx_ hI.1 hY_ed
  replace hY_ah := y_ext hx_ hI.1 hY_ah
  obtain rfl := y_ansV rfl ho hr
  have hA_vw := hPf
  clear ho hr ha hE hP hI hx_
  rename x_I _ _ _ _ _ _ _ _ _ _ => hI
  refine lv_iconst hx hb veq_d8 (v := 0) (by decide) ?_
  refine lv_istore hx hb veq_d9 hl (by decide) (lv' := [(4, .int (0 : Int32)), (0, .ref this), (1, .ref ld), (2, .int mi), (3, .int wk)]) rfl fun ls hl => ?_
  exact veq_L11 B rfl hs1 hs2 hs3 hL0 hAn0 hAd0 hd0 12 _ _ _ _ _ _ hI hY_this hY_ld hY_vw hY_en hY_ed hY_ah hs_vw hs_en hs_ed hs_ah hsi_hills hA_vw hA_en hA_ed hA_ah hL (lv_sub hl [0, 1, 2, 3, 4] rfl) (by first | assumption | omega) (fun i hi j => by rw [m_bi_0]; exact m_pr_0.symm) (by omega)
def z_AT1 : yA := fun D av Y H => ∀ (this ed : Nat), av[0]? = some (.ref this) → x_sl D 11 0 this H = some (.ref ed) → ∃ f, z_L D Y ed H f
