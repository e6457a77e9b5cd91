/-! HOW FAR: the class, hour by hour -/
def z_Pfhq : yP := fun _ av _ _ _ _ H' => ∀ (a : Nat) (v9 : Int32), av = [.ref a, .int v9] → y_A a 1024 H' (fun _ => v9)
theorem fhq_d0 : decode xM93.2.1 0 = .ok (.iconst 0, 1) := dz_ok (by decide +kernel)
theorem fhq_d1 : decode xM93.2.1 1 = .ok (.istore_n 2, 1) := dz_ok (by decide +kernel)
theorem fhq_d2 : decode xM93.2.1 2 = .ok (.aload_n 0, 1) := dz_ok (by decide +kernel)
theorem fhq_d3 : decode xM93.2.1 3 = .ok (.arraylength, 1) := dz_ok (by decide +kernel)
theorem fhq_d4 : decode xM93.2.1 4 = .ok (.istore_n 3, 1) := dz_ok (by decide +kernel)
theorem fhq_d5 : decode xM93.2.1 5 = .ok (.iload_n 2, 1) := dz_ok (by decide +kernel)
theorem fhq_d6 : decode xM93.2.1 6 = .ok (.iload_n 3, 1) := dz_ok (by decide +kernel)
theorem fhq_d7 : decode xM93.2.1 7 = .ok (.if_icmp .ge 13, 3) := dz_ok (by decide +kernel)
theorem fhq_d10 : decode xM93.2.1 10 = .ok (.aload_n 0, 1) := dz_ok (by decide +kernel)
theorem fhq_d11 : decode xM93.2.1 11 = .ok (.iload_n 2, 1) := dz_ok (by decide +kernel)
theorem fhq_d12 : decode xM93.2.1 12 = .ok (.iload_n 1, 1) := dz_ok (by decide +kernel)
theorem fhq_d13 : decode xM93.2.1 13 = .ok (.iastore, 1) := dz_ok (by decide +kernel)
theorem fhq_d14 : decode xM93.2.1 14 = .ok (.iinc 2 1, 3) := dz_ok (by decide +kernel)
theorem fhq_d17 : decode xM93.2.1 17 = .ok (.goto (-12), 3) := dz_ok (by decide +kernel)
theorem fhq_d20 : decode xM93.2.1 20 = .ok (.return_, 1) := dz_ok (by decide +kernel)
theorem fhq_L5 {p : Program} {l : Launch} {e : Env} {s : State} {m : MethodId} {below : List Frame} {meth : Method} {c : Code} {D : va_G} {U : State} {Y0 : xY} {av : List Value} (B : y_B vwCl x_Tb x_Nb xM93 p s m meth c D U Y0 av) {ar : Nat} {v9 : Int32} (hav : av = [.ref ar, .int v9]) (hv : -1 ≤ v9.toInt ∧ v9.toInt ≤ -1)  :
    ∀ (n : Nat), ∀ (H : Heap) (Y : xY) (locs : List Loc) (ls : Array Slot) (i : Int32) (fa : Nat → Int32), x_I D x_G x_Zs U (x_efs xM93) Y0 s.heap Y H locs → Y ar = some 36 → y_A ar 1024 H fa → lv_has ls xM93.2.2.1 [(2, .int i), (3, .int (nI 1024)), (0, .ref ar), (1, .int v9)] → (0 ≤ i.toInt ∧ i.toInt ≤ 1024) → ((nI 1024).toInt = 1024) → (∀ j : Nat, (j : Int) < i.toInt → fa j = v9) → (1024 - i.toInt).toNat < n → W p l e (x_rm xM93) s m av.toArray below meth c H locs 0 0 (y_QQ below D x_G x_Zs U xM93 z_Pfhq av Y0 s) (F0 m 5 ls []) := by
  have X := B.1
  have hx := X.1
  have hb := X.2.1
  have hY0 := B.2.2.2.2.1
  intro n
  induction n with
  | zero => intro _ _ _ _ _ _ _ _ _ _ _ _ _ h; exact absurd h (Nat.not_lt_zero _)
  | succ n ih =>
    intro H Y locs ls i fa hI hY_ar hA_ar hl hi hN hfi hn
    refine lv_iload_n hx hb fhq_d5 rfl (lv_at hl 0 rfl) ?_
    refine lv_iload_n hx hb fhq_d6 rfl (lv_at hl 1 rfl) ?_
    refine lv_icmp_ge hx hb fhq_d7 (tgt := 20) (by decide) (fun q7 => ?_) (fun q7 => ?_)
    · have q7_ : (nI 1024).toInt ≤ i.toInt := x_le32.mp q7
      subst hav
      exact y_return B hI rfl rfl List.mem_cons_self rfl (x_cs.mono B.2.2.2.2.2 (y_mon B hI)) (fun a' v' h1 => by cases h1; exact fun j hj => by rw [hA_ar j hj, hfi j (by omega)]) (Nat.le_refl _) (Nat.le_refl _) fhq_d20
    · have q7_ : i.toInt < (nI 1024).toInt := Int.not_le.mp fun q => q7 (x_le32.mpr q)
      refine lv_aload_n hx hb fhq_d10 rfl (lv_at hl 2 rfl) ?_
      refine lv_iload_n hx hb fhq_d11 rfl (lv_at hl 0 rfl) ?_
      refine lv_iload_n hx hb fhq_d12 rfl (lv_at hl 3 rfl) ?_
      refine y_iast X hY0 hI hY_ar rfl hA_ar (by omega) (by show _ < (1024 : Int); omega) ⟨_, rfl, x_i32 _⟩ (by decide +kernel) fhq_d13 fun H locs hI h_new ho => ?_
      replace hA_ar := h_new
      generalize hf_f13 : y_up fa i.toInt.toNat v9 = f13 at hA_ar
      obtain ⟨z14, hg_z14⟩ : ∃ z14 : Int32, i + Int32.ofInt 1 = z14 := ⟨_, rfl⟩
      have h_z14 : z14.toInt = i.toInt + 1 := by rw [← hg_z14]; exact y_inc (by decide) (by omega) (by omega)
      refine lv_iinc hx hb fhq_d14 hl (k := 0) rfl hg_z14 (by decide) (lv' := [(2, .int z14), (3, .int (nI 1024)), (0, .ref ar), (1, .int v9)]) rfl fun ls hl => ?_
      refine lv_goto hx hb fhq_d17 (tgt := 5) (by decide) ?_
      exact ih _ _ _ _ _ _ hI hY_ar hA_ar (lv_sub hl [0, 1, 2, 3] rfl) (by first | assumption | omega) (by first | assumption | omega) (fun j hj => by rw [← hf_f13]; by_cases ej : (j : Int) = i.toInt; (rw [show j = i.toInt.toNat by omega, y_up_at]); rw [y_up_ne (by omega)]; exact hfi j (by omega)) (by omega)
theorem ym_fillHo : y_Met vwCl x_G x_Zs x_Tb x_Nb xM93 y_T z_Pfhq := by
  refine y_main (by decide +kernel) (by decide +kernel) x_Tb_good x_Nb_ok ?_
  intro p l e s m below meth c D U Y0 av ls B hI _ hl
  have X := B.1
  have hx := X.1
  have hb := X.2.1
  have hY0 := B.2.2.2.2.1
  obtain ⟨v0, v1, rfl, hv0, ⟨v9, rfl, hv⟩⟩ := x_two B.2.2.2.2.2
  obtain ⟨ar, t0, rfl, ht0, hY_ar⟩ := x_ref_at hv0 rfl
  obtain rfl := List.mem_singleton.mp ht0
  replace hl : lv_has ls xM93.2.2.1 [(0, .ref ar), (1, .int v9)] := hl
  replace hv : (-1 : Int) ≤ v9.toInt ∧ v9.toInt ≤ -1 := hv
  obtain ⟨fa, hA_ar, -⟩ := y_arr hI.1 hY_ar rfl rfl
  refine lv_iconst hx hb fhq_d0 (v := 0) (by decide) ?_
  have ec0 : (0 : Int32).toInt = 0 := by decide
  refine lv_istore_n hx hb fhq_d1 rfl hl (by decide) (lv' := [(2, .int (0 : Int32)), (0, .ref ar), (1, .int v9)]) rfl fun ls hl => ?_
  refine lv_aload_n hx hb fhq_d2 rfl (lv_at hl 1 rfl) ?_
  refine y_alen X hI.1 hY_ar rfl fhq_d3 ?_
  have h_nI1024 : (nI 1024).toInt = 1024 := by decide
  refine lv_istore_n hx hb fhq_d4 rfl hl (by decide) (lv' := [(3, .int (nI 1024)), (2, .int (0 : Int32)), (0, .ref ar), (1, .int v9)]) rfl fun ls hl => ?_
  exact fhq_L5 B rfl hv 1025 _ _ _ _ _ _ hI hY_ar hA_ar (lv_sub hl [1, 0, 2, 3] rfl) (by first | assumption | omega) (by first | assumption | omega) (fun j hj => absurd hj (by omega)) (by omega)
def z_Pnr : yP := fun _ av _ _ v _ _ => ∀ (a b : Int32), av = [.int a, .int b] → v = some (.int (m_b (m_nr a b)))
theorem nrq_d0 : decode xM94.2.1 0 = .ok (.iload_n 0, 1) := dz_ok (by decide +kernel)
theorem nrq_d1 : decode xM94.2.1 1 = .ok (.iload_n 1, 1) := dz_ok (by decide +kernel)
theorem nrq_d2 : decode xM94.2.1 2 = .ok (.ixor, 1) := dz_ok (by decide +kernel)
theorem nrq_d3 : decode xM94.2.1 3 = .ok (.invokestatic 37, 3) := dz_ok (by decide +kernel)
theorem nrq_d6 : decode xM94.2.1 6 = .ok (.iconst 2, 1) := dz_ok (by decide +kernel)
theorem nrq_d7 : decode xM94.2.1 7 = .ok (.if_icmp .gt 7, 3) := dz_ok (by decide +kernel)
theorem nrq_d10 : decode xM94.2.1 10 = .ok (.iconst 1, 1) := dz_ok (by decide +kernel)
theorem nrq_d11 : decode xM94.2.1 11 = .ok (.goto 4, 3) := dz_ok (by decide +kernel)
theorem nrq_d14 : decode xM94.2.1 14 = .ok (.iconst 0, 1) := dz_ok (by decide +kernel)
theorem nrq_d15 : decode xM94.2.1 15 = .ok (.ireturn, 1) := dz_ok (by decide +kernel)
theorem ym_isNear : y_Met vwCl x_G x_Zs x_Tb x_Nb xM94 y_T z_Pnr := by
  refine y_main (by decide +kernel) (by decide +kernel) x_Tb_good x_Nb_ok ?_
  intro p l e s m below meth c D U Y0 av ls B hI _ hl
  have X := B.1
  have hx := X.1
  have hb := X.2.1
  have hY0 := B.2.2.2.2.1
  obtain ⟨v0, v1, rfl, ⟨a, rfl, -⟩, ⟨b, rfl, -⟩⟩ := x_two B.2.2.2.2.2
  replace hl : lv_has ls xM94.2.2.1 [(0, .int a), (1, .int b)] := hl
  refine lv_iload_n hx hb nrq_d0 rfl (lv_at hl 0 rfl) ?_
  refine lv_iload_n hx hb nrq_d1 rfl (lv_at hl 1 rfl) ?_
  refine lv_ixor hx hb nrq_d2 ?_
  generalize hg_z2 : a ^^^ b = z2
  refine y_call (z := (1, 37, 1, none, xM71)) (av := [.int z2]) (rest := []) (y_cokS (n := 1) X ym_bitCount (x_cons (x_bw44 9 rfl rfl) (x_cons (x_bw43 2 rfl rfl) (x_cons (x_bw1 5 rfl rfl) x_nilm))) (x_bw43 3 rfl rfl) (by decide +kernel) ⟨Nat.le_of_ble_eq_true rfl, Nat.le_of_ble_eq_true rfl⟩) hY0 hI rfl nrq_d3 hl.1 (Nat.le_of_ble_eq_true rfl) (Nat.le_of_ble_eq_true rfl) (Nat.le_of_ble_eq_true rfl) (y_cons ⟨_, rfl, x_i32 _⟩ y_nil) rfl (y_norecv rfl) trivial (y_sub_ef rfl) fun v Yn o Hn L ho hr ha hIn hx_ hE hP => ?_
  have hPm := hP _ rfl
  obtain rfl := hPm
  generalize hg_r3 : m_bc z2 = r3
  clear ho hr ha hE hP hI hx_
  rename x_I _ _ _ _ _ _ _ _ _ _ => hI
  refine lv_iconst hx hb nrq_d6 (v := 2) (by decide) ?_
  have ec2 : (2 : Int32).toInt = 2 := by decide
  refine lv_icmp_gt hx hb nrq_d7 (tgt := 14) (by decide) (fun q7 => ?_) (fun q7 => ?_)
  · have q7_ : (2 : Int32).toInt < r3.toInt := x_lt32.mp q7
    refine lv_iconst hx hb nrq_d14 (v := 0) (by decide) ?_
    have ec0 : (0 : Int32).toInt = 0 := by decide
    exact y_ireturn B hI rfl rfl rfl (List.mem_cons_of_mem _ List.mem_cons_self) ⟨_, rfl, ⟨_, rfl, by decide, by decide⟩⟩ (x_cs.mono B.2.2.2.2.2 (y_mon B hI)) (fun a' b' h1 => by cases h1; refine congrArg (fun x => some (Value.int x)) ?_; unfold m_nr; rw [hg_z2, hg_r3]; first | (rw [decide_eq_true (show r3.toInt ≤ 2 by omega)]; rfl) | (rw [decide_eq_false (show ¬ r3.toInt ≤ 2 by omega)]; rfl)) (Nat.le_refl _) (Nat.le_refl _) nrq_d15
  · have q7_ : r3.toInt ≤ (2 : Int32).toInt := Int.not_lt.mp fun q => q7 (x_lt32.mpr q)
    refine lv_iconst hx hb nrq_d10 (v := 1) (by decide) ?_
    have ec1 : (1 : Int32).toInt = 1 := by decide
    refine lv_goto hx hb nrq_d11 (tgt := 15) (by decide) ?_
    exact y_ireturn B hI rfl rfl rfl List.mem_cons_self ⟨_, rfl, ⟨_, rfl, by decide, by decide⟩⟩ (x_cs.mono B.2.2.2.2.2 (y_mon B hI)) (fun a' b' h1 => by cases h1; refine congrArg (fun x => some (Value.int x)) ?_; unfold m_nr; rw [hg_z2, hg_r3]; first | (rw [decide_eq_true (show r3.toInt ≤ 2 by omega)]; rfl) | (rw [decide_eq_false (show ¬ r3.toInt ≤ 2 by omega)]; rfl)) (Nat.le_refl _) (Nat.le_refl _) nrq_d15
def z_Psb : yP := fun D av _ H v _ H' => ∀ (this sr hr : Nat) (h fo : Int32) (fr Fz : Nat → Int32), av = [.ref this, .int h] → x_sl D 5 0 this H = some (.ref sr) → x_sl D 5 1 this H = some (.int fo) → y_A sr 1024 H fr → x_sl D 5 2 this H = some (.ref hr) → y_A hr 1024 H Fz → 0 ≤ h.toInt → h.toInt ≤ 1023 → ∃ (F : Nat → Int32) (r : Int32), y_A hr 1024 H' F ∧ v = some (.int r) ∧ ∀ (L : Nat → Bool) (N st : Nat), m_W L N fo fr → m_SB L N st Fz h → m_SC L N st Fz F h r
theorem sbq_d0 : decode xM95.2.1 0 = .ok (.iconst 0, 1) := dz_ok (by decide +kernel)
theorem sbq_d1 : decode xM95.2.1 1 = .ok (.istore_n 2, 1) := dz_ok (by decide +kernel)
theorem sbq_d2 : decode xM95.2.1 2 = .ok (.iconst 0, 1) := dz_ok (by decide +kernel)
theorem sbq_d3 : decode xM95.2.1 3 = .ok (.istore_n 3, 1) := dz_ok (by decide +kernel)
theorem sbq_d4 : decode xM95.2.1 4 = .ok (.iload_n 3, 1) := dz_ok (by decide +kernel)
theorem sbq_d5 : decode xM95.2.1 5 = .ok (.aload_n 0, 1) := dz_ok (by decide +kernel)
theorem sbq_d6 : decode xM95.2.1 6 = .ok (.getfield 27, 3) := dz_ok (by decide +kernel)
theorem sbq_d9 : decode xM95.2.1 9 = .ok (.if_icmp .ge 91, 3) := dz_ok (by decide +kernel)
theorem sbq_d12 : decode xM95.2.1 12 = .ok (.aload_n 0, 1) := dz_ok (by decide +kernel)
theorem sbq_d13 : decode xM95.2.1 13 = .ok (.getfield 15, 3) := dz_ok (by decide +kernel)
theorem sbq_d16 : decode xM95.2.1 16 = .ok (.aload_n 0, 1) := dz_ok (by decide +kernel)
theorem sbq_d17 : decode xM95.2.1 17 = .ok (.getfield 9, 3) := dz_ok (by decide +kernel)
theorem sbq_d20 : decode xM95.2.1 20 = .ok (.iload_n 3, 1) := dz_ok (by decide +kernel)
theorem sbq_d21 : decode xM95.2.1 21 = .ok (.iaload, 1) := dz_ok (by decide +kernel)
theorem sbq_d22 : decode xM95.2.1 22 = .ok (.iaload, 1) := dz_ok (by decide +kernel)
theorem sbq_d23 : decode xM95.2.1 23 = .ok (.iload_n 1, 1) := dz_ok (by decide +kernel)
theorem sbq_d24 : decode xM95.2.1 24 = .ok (.if_icmp .eq 6, 3) := dz_ok (by decide +kernel)
theorem sbq_d27 : decode xM95.2.1 27 = .ok (.goto 67, 3) := dz_ok (by decide +kernel)
theorem sbq_d30 : decode xM95.2.1 30 = .ok (.iconst 0, 1) := dz_ok (by decide +kernel)
theorem sbq_d31 : decode xM95.2.1 31 = .ok (.istore 4, 2) := dz_ok (by decide +kernel)
theorem sbq_d33 : decode xM95.2.1 33 = .ok (.iload 4, 2) := dz_ok (by decide +kernel)
theorem sbq_d35 : decode xM95.2.1 35 = .ok (.aload_n 0, 1) := dz_ok (by decide +kernel)
theorem sbq_d36 : decode xM95.2.1 36 = .ok (.getfield 27, 3) := dz_ok (by decide +kernel)
theorem sbq_d39 : decode xM95.2.1 39 = .ok (.if_icmp .ge 55, 3) := dz_ok (by decide +kernel)
theorem sbq_d42 : decode xM95.2.1 42 = .ok (.aload_n 0, 1) := dz_ok (by decide +kernel)
theorem sbq_d43 : decode xM95.2.1 43 = .ok (.getfield 9, 3) := dz_ok (by decide +kernel)
theorem sbq_d46 : decode xM95.2.1 46 = .ok (.iload 4, 2) := dz_ok (by decide +kernel)
theorem sbq_d48 : decode xM95.2.1 48 = .ok (.iaload, 1) := dz_ok (by decide +kernel)
theorem sbq_d49 : decode xM95.2.1 49 = .ok (.istore 5, 2) := dz_ok (by decide +kernel)
theorem sbq_d51 : decode xM95.2.1 51 = .ok (.aload_n 0, 1) := dz_ok (by decide +kernel)
theorem sbq_d52 : decode xM95.2.1 52 = .ok (.getfield 15, 3) := dz_ok (by decide +kernel)
theorem sbq_d55 : decode xM95.2.1 55 = .ok (.iload 5, 2) := dz_ok (by decide +kernel)
theorem sbq_d57 : decode xM95.2.1 57 = .ok (.iaload, 1) := dz_ok (by decide +kernel)
theorem sbq_d58 : decode xM95.2.1 58 = .ok (.iconst (-1), 1) := dz_ok (by decide +kernel)
theorem sbq_d59 : decode xM95.2.1 59 = .ok (.if_icmp .ne 29, 3) := dz_ok (by decide +kernel)
theorem sbq_d62 : decode xM95.2.1 62 = .ok (.aload_n 0, 1) := dz_ok (by decide +kernel)
theorem sbq_d63 : decode xM95.2.1 63 = .ok (.getfield 9, 3) := dz_ok (by decide +kernel)
theorem sbq_d66 : decode xM95.2.1 66 = .ok (.iload_n 3, 1) := dz_ok (by decide +kernel)
theorem sbq_d67 : decode xM95.2.1 67 = .ok (.iaload, 1) := dz_ok (by decide +kernel)
theorem sbq_d68 : decode xM95.2.1 68 = .ok (.iload 5, 2) := dz_ok (by decide +kernel)
theorem sbq_d70 : decode xM95.2.1 70 = .ok (.invokestatic 52, 3) := dz_ok (by decide +kernel)
theorem sbq_d73 : decode xM95.2.1 73 = .ok (.ifCond .eq 15, 3) := dz_ok (by decide +kernel)
theorem sbq_d76 : decode xM95.2.1 76 = .ok (.aload_n 0, 1) := dz_ok (by decide +kernel)
theorem sbq_d77 : decode xM95.2.1 77 = .ok (.getfield 15, 3) := dz_ok (by decide +kernel)
theorem sbq_d80 : decode xM95.2.1 80 = .ok (.iload 5, 2) := dz_ok (by decide +kernel)
theorem sbq_d82 : decode xM95.2.1 82 = .ok (.iload_n 1, 1) := dz_ok (by decide +kernel)
theorem sbq_d83 : decode xM95.2.1 83 = .ok (.iconst 1, 1) := dz_ok (by decide +kernel)
theorem sbq_d84 : decode xM95.2.1 84 = .ok (.iadd, 1) := dz_ok (by decide +kernel)
theorem sbq_d85 : decode xM95.2.1 85 = .ok (.iastore, 1) := dz_ok (by decide +kernel)
theorem sbq_d86 : decode xM95.2.1 86 = .ok (.iconst 1, 1) := dz_ok (by decide +kernel)
theorem sbq_d87 : decode xM95.2.1 87 = .ok (.istore_n 2, 1) := dz_ok (by decide +kernel)
theorem sbq_d88 : decode xM95.2.1 88 = .ok (.iinc 4 1, 3) := dz_ok (by decide +kernel)
theorem sbq_d91 : decode xM95.2.1 91 = .ok (.goto (-58), 3) := dz_ok (by decide +kernel)
theorem sbq_d94 : decode xM95.2.1 94 = .ok (.iinc 3 1, 3) := dz_ok (by decide +kernel)
theorem sbq_d97 : decode xM95.2.1 97 = .ok (.goto (-93), 3) := dz_ok (by decide +kernel)
theorem sbq_d100 : decode xM95.2.1 100 = .ok (.iload_n 2, 1) := dz_ok (by decide +kernel)
theorem sbq_d101 : decode xM95.2.1 101 = .ok (.ireturn, 1) := dz_ok (by decide +kernel)
theorem sbq_L33 {p : Program} {l : Launch} {e : Env} {s : State} {m : MethodId} {below : List Frame} {meth : Method} {c : Code} {D : va_G} {U : State} {Y0 : xY} {av : List Value} (B : y_B vwCl x_Tb x_Nb xM95 p s m meth c D U Y0 av) {this sr hr : Nat} {h fo : Int32} {fr Fz : Nat → Int32} (hav : av = [.ref this, .int h]) (hsr : x_sl D 5 0 this s.heap = some (.ref sr)) (hfo0 : x_sl D 5 1 this s.heap = some (.int fo)) (hA0 : y_A sr 1024 s.heap fr) (hsh0 : x_sl D 5 2 this s.heap = some (.ref hr)) (hAh0 : y_A hr 1024 s.heap Fz) (hfo9 : 0 ≤ fo.toInt ∧ fo.toInt ≤ 1024) (hB_sr : ∀ j, j < 1024 → (0 : Int) ≤ (fr j).toInt ∧ (fr j).toInt ≤ 1023) {i : Int32} (hi : 0 ≤ i.toInt ∧ i.toInt < fo.toInt)
    (out4 : ∀ (H : Heap) (Y : xY) (locs : List Loc) (ls : Array Slot) (i1 : Int32) (go1 : Int32) (fh1 : Nat → Int32), x_I D x_G x_Zs U (x_efs xM95) Y0 s.heap Y H locs → Y this = some 8 → Y sr = some 35 → Y hr = some 36 → x_sl D 5 0 this H = some (.ref sr) → x_sl D 5 2 this H = some (.ref hr) → x_sl D 5 1 this H = some (.int fo) → y_A sr 1024 H fr → y_A hr 1024 H fh1 → lv_has ls xM95.2.2.1 [(3, .int i1), (2, .int go1), (0, .ref this), (1, .int h)] → (0 ≤ i1.toInt ∧ i1.toInt ≤ fo.toInt) → (0 ≤ go1.toInt ∧ go1.toInt ≤ 1) → (∀ (L : Nat → Bool) (N st : Nat), 0 ≤ h.toInt → h.toInt ≤ 1023 → m_W L N fo fr → m_SB L N st Fz h → m_SIb L N st Fz fh1 h go1 ∧ (∀ j u : Nat, (j : Int) < i1.toInt → u < N → fr j = nI u → (fh1 u).toInt = h.toInt → m_Q2 L N fh1 u)) → (i1.toInt = i.toInt + 1) → W p l e (x_rm xM95) s m av.toArray below meth c H locs 0 0 (y_QQ below D x_G x_Zs U xM95 z_Psb av Y0 s) (F0 m 4 ls [])) :
    ∀ (n : Nat), ∀ (H : Heap) (Y : xY) (locs : List Loc) (ls : Array Slot) (k : Int32) (go : Int32) (fh : Nat → Int32), x_I D x_G x_Zs U (x_efs xM95) Y0 s.heap Y H locs → Y this = some 8 → Y sr = some 35 → Y hr = some 36 → x_sl D 5 0 this H = some (.ref sr) → x_sl D 5 2 this H = some (.ref hr) → x_sl D 5 1 this H = some (.int fo) → y_A sr 1024 H fr → y_A hr 1024 H fh → lv_has ls xM95.2.2.1 [(4, .int k), (3, .int i), (2, .int go), (0, .ref this), (1, .int h)] → (0 ≤ k.toInt ∧ k.toInt ≤ fo.toInt) → (0 ≤ go.toInt ∧ go.toInt ≤ 1) → (∀ (L : Nat → Bool) (N st : Nat), 0 ≤ h.toInt → h.toInt ≤ 1023 → m_W L N fo fr → m_SB L N st Fz h → m_SIb L N st Fz fh h go ∧ (∀ j u : Nat, (j : Int) < i.toInt → u < N → fr j = nI u → (fh u).toInt = h.toInt → m_Q2 L N fh u) ∧ (∀ u : Nat, u < N → fr i.toInt.toNat = nI u → (fh u).toInt = h.toInt ∧ ∀ j t : Nat, (j : Int) < k.toInt → t < N → fr j = nI t → m_st u t → ¬ (fh t).toInt = -1)) → (1025 - k.toInt).toNat < n → W p l e (x_rm xM95) s m av.toArray below meth c H locs 0 0 (y_QQ below D x_G x_Zs U xM95 z_Psb av Y0 s) (F0 m 33 ls []) := by
  have X := B.1
  have hx := X.1
  have hb := X.2.1
  have hY0 := B.2.2.2.2.1
  intro n
  induction n with
  | zero => intro _ _ _ _ _ _ _ _ _ _ _ _ _ _ _ _ _ _ _ _ h; exact absurd h (Nat.not_lt_zero _)
  | succ n ih =>
    intro H Y locs ls k go fh hI hY_this hY_sr hY_hr hs_sr hs_hr hsi_found hA_sr hA_hr hl hk hgo hq hn
    refine lv_iload hx hb sbq_d33 (lv_at hl 0 rfl) ?_
    refine lv_aload_n hx hb sbq_d35 rfl (lv_at hl 3 rfl) ?_
    refine y_getf X (fl136 X.2.2.2.2.1) hI.1 hY_this rfl hsi_found sbq_d36 ?_
    refine lv_icmp_ge hx hb sbq_d39 (tgt := 94) (by decide) (fun q39 => ?_) (fun q39 => ?_)
    · have q39_ : fo.toInt ≤ k.toInt := x_le32.mp q39
      obtain ⟨z94, hg_z94⟩ : ∃ z94 : Int32, i + Int32.ofInt 1 = z94 := ⟨_, rfl⟩
      have h_z94 : z94.toInt = i.toInt + 1 := by rw [← hg_z94]; exact y_inc (by decide) (by omega) (by omega)
      refine lv_iinc hx hb sbq_d94 hl (k := 1) rfl hg_z94 (by decide) (lv' := [(3, .int z94), (4, .int k), (2, .int go), (0, .ref this), (1, .int h)]) rfl fun ls hl => ?_
      refine lv_goto hx hb sbq_d97 (tgt := 4) (by decide) ?_
      exact out4 _ _ _ _ _ _ _ hI hY_this hY_sr hY_hr hs_sr hs_hr hsi_found hA_sr hA_hr (lv_sub hl [0, 2, 3, 4] rfl) (by first | assumption | omega) (by first | assumption | omega) (fun L N st a1 a2 a3 a4 => by
                                        obtain ⟨b1, b2, b3⟩ := hq L N st a1 a2 a3 a4
                                        refine ⟨b1, fun j u j1 j2 j3 j4 => ?_⟩
                                        have hN := a3.1
                                        by_cases e8 : j = i.toInt.toNat
                                        · rw [e8] at j3
                                          intro t t1 t2 t3
                                          obtain ⟨q, q1, q2⟩ := a3.of t1 t2
                                          have h7 := (b3 u j2 j3).2 q t (by omega) t1 q2 t3
                                          have h6 := b1.2.1 t t1
                                          exact ⟨h7, by omega⟩
                                        · exact b2 j u (by omega) j2 j3 j4) (by omega)
    · have q39_ : k.toInt < fo.toInt := Int.not_le.mp fun q => q39 (x_le32.mpr q)
      refine lv_aload_n hx hb sbq_d42 rfl (lv_at hl 3 rfl) ?_
      refine y_getf X (fl135 X.2.2.2.2.1) hI.1 hY_this rfl hs_sr sbq_d43 ?_
      refine lv_iload hx hb sbq_d46 (lv_at hl 0 rfl) ?_
      refine y_iald X hI.1 hY_sr rfl hA_sr (by omega) (by show _ < (1024 : Int); omega) sbq_d48 ?_
      obtain ⟨e48, hg_e48⟩ : ∃ e48 : Int32, fr k.toInt.toNat = e48 := ⟨_, rfl⟩
      rw [hg_e48]
      have h_e48 : (0 : Int) ≤ e48.toInt ∧ e48.toInt ≤ 1023 := by rw [← hg_e48]; exact hB_sr _ (by omega)
      refine lv_istore hx hb sbq_d49 hl (by decide) (lv' := [(5, .int e48), (4, .int k), (3, .int i), (2, .int go), (0, .ref this), (1, .int h)]) rfl fun ls hl => ?_
      refine lv_aload_n hx hb sbq_d51 rfl (lv_at hl 4 rfl) ?_
      refine y_getf X (fl139 X.2.2.2.2.1) hI.1 hY_this rfl hs_hr sbq_d52 ?_
      refine lv_iload hx hb sbq_d55 (lv_at hl 0 rfl) ?_
      refine y_iald X hI.1 hY_hr rfl hA_hr (by omega) (by show _ < (1024 : Int); omega) sbq_d57 ?_
      obtain ⟨e57, hg_e57⟩ : ∃ e57 : Int32, fh e48.toInt.toNat = e57 := ⟨_, rfl⟩
      rw [hg_e57]
      refine lv_iconst hx hb sbq_d58 (v := (-1)) (by decide) ?_
      have ecm1 : ((-1) : Int32).toInt = (-1) := by decide
      refine lv_icmp_ne hx hb sbq_d59 (tgt := 88) (by decide) (fun q59 => ?_) (fun q59 => ?_)
      · have q59_ : ¬ e57.toInt = ((-1) : Int32).toInt := fun q => q59 (Int32.toInt_inj.mp q)
        obtain ⟨z88, hg_z88⟩ : ∃ z88 : Int32, k + Int32.ofInt 1 = z88 := ⟨_, rfl⟩
        have h_z88 : z88.toInt = k.toInt + 1 := by rw [← hg_z88]; exact y_inc (by decide) (by omega) (by omega)
        refine lv_iinc hx hb sbq_d88 hl (k := 1) rfl hg_z88 (by decide) (lv' := [(4, .int z88), (5, .int e48), (3, .int i), (2, .int go), (0, .ref this), (1, .int h)]) rfl fun ls hl => ?_
        refine lv_goto hx hb sbq_d91 (tgt := 33) (by decide) ?_
        have his : z88.toInt.toNat = k.toInt.toNat + 1 := by omega
        exact ih _ _ _ _ _ _ _ hI hY_this hY_sr hY_hr hs_sr hs_hr hsi_found hA_sr hA_hr (lv_sub hl [0, 2, 3, 4, 5] rfl) (by first | assumption | omega) (by first | assumption | omega) (fun L N st a1 a2 a3 a4 => by
                                        obtain ⟨b1, b2, b3⟩ := hq L N st a1 a2 a3 a4
                                        refine ⟨b1, b2, fun w w1 w2 => ⟨(b3 w w1 w2).1, fun j t j1 t1 t2 t3 => ?_⟩⟩
                                        have hN := a3.1
                                        by_cases e8 : j = k.toInt.toNat
                                        · rw [e8, hg_e48] at t2
                                          have e9 : e48.toInt.toNat = t := by rw [t2]; exact m_nIn (by omega)
                                          first
                                            | (rw [← e9, hg_e57]; omega)
                                            | (exfalso
                                               have h8 : m_nr e67 e48 = false := m_b0 (hg_r70.trans q73)
                                               rw [← hg_e67, w2, t2, (m_nr_st (by omega) (by omega)).mpr (Or.inr t3)] at h8
                                               cases h8)
                                        · exact (b3 w w1 w2).2 j t (by omega) t1 t2 t3) (by omega)
      · have q59_ : e57.toInt = ((-1) : Int32).toInt := by rw [q59]
        refine lv_aload_n hx hb sbq_d62 rfl (lv_at hl 4 rfl) ?_
        refine y_getf X (fl135 X.2.2.2.2.1) hI.1 hY_this rfl hs_sr sbq_d63 ?_
        refine lv_iload_n hx hb sbq_d66 rfl (lv_at hl 2 rfl) ?_
        refine y_iald X hI.1 hY_sr rfl hA_sr (by omega) (by show _ < (1024 : Int); omega) sbq_d67 ?_
        obtain ⟨e67, hg_e67⟩ : ∃ e67 : Int32, fr i.toInt.toNat = e67 := ⟨_, rfl⟩
        rw [hg_e67]
        have h_e67 : (0 : Int) ≤ e67.toInt ∧ e67.toInt ≤ 1023 := by rw [← hg_e67]; exact hB_sr _ (by omega)
        refine lv_iload hx hb sbq_d68 (lv_at hl 0 rfl) ?_
        refine y_call (z := (1, 52, 2, none, xM94)) (av := [.int e67, .int e48]) (rest := []) (y_cokS (n := 2) X ym_isNear (x_cons (x_bw49 14 rfl rfl) (x_cons (x_bw49 15 rfl rfl) (x_cons (x_bw0 8 rfl rfl) x_nilm))) (x_bw50 0 rfl rfl) (by decide +kernel) ⟨Nat.le_of_ble_eq_true rfl, Nat.le_of_ble_eq_true rfl⟩) hY0 hI rfl sbq_d70 hl.1 (Nat.le_of_ble_eq_true rfl) (Nat.le_of_ble_eq_true rfl) (Nat.le_of_ble_eq_true rfl) (y_cons ⟨_, rfl, x_i32 _⟩ (y_cons ⟨_, rfl, x_i32 _⟩ y_nil)) rfl (y_norecv rfl) trivial (y_sub_ef rfl) fun v Yn o Hn L ho hr ha hIn hx_ hE hP => ?_
        have hPn := hP _ _ rfl
        obtain rfl := hPn
        replace hs_sr := y_Efld hE hY_this rfl (by decide) (by decide) hs_sr
        replace hs_hr := y_Efld hE hY_this rfl (by decide) (by decide) hs_hr
        replace hsi_found := y_Efld hE hY_this rfl (by decide) (by decide) hsi_found
        replace hA_sr := hA_sr.kept (y_Earr hE hY_sr rfl (by decide))
        replace hA_hr := hA_hr.kept (y_Earr hE hY_hr rfl (by decide))
        replace hY_this := y_ext hx_ hI.1 hY_this
        replace hY_sr := y_ext hx_ hI.1 hY_sr
        replace hY_hr := y_ext hx_ hI.1 hY_hr
        generalize hg_r70 : m_b (m_nr e67 e48) = r70
        clear ho hr ha hE hP hI hx_
        rename x_I _ _ _ _ _ _ _ _ _ _ => hI
        have ec0 : (0 : Int32).toInt = 0 := by decide
        refine lv_if_eq hx hb sbq_d73 (tgt := 88) (by decide) (fun q73 => ?_) (fun q73 => ?_)
        · have q73_ : r70.toInt = (0 : Int32).toInt := by rw [q73]
          obtain ⟨z88, hg_z88⟩ : ∃ z88 : Int32, k + Int32.ofInt 1 = z88 := ⟨_, rfl⟩
          have h_z88 : z88.toInt = k.toInt + 1 := by rw [← hg_z88]; exact y_inc (by decide) (by omega) (by omega)
          refine lv_iinc hx hb sbq_d88 hl (k := 1) rfl hg_z88 (by decide) (lv' := [(4, .int z88), (5, .int e48), (3, .int i), (2, .int go), (0, .ref this), (1, .int h)]) rfl fun ls hl => ?_
          refine lv_goto hx hb sbq_d91 (tgt := 33) (by decide) ?_
          have his : z88.toInt.toNat = k.toInt.toNat + 1 := by omega
          exact ih _ _ _ _ _ _ _ hI hY_this hY_sr hY_hr hs_sr hs_hr hsi_found hA_sr hA_hr (lv_sub hl [0, 2, 3, 4, 5] rfl) (by first | assumption | omega) (by first | assumption | omega) (fun L N st a1 a2 a3 a4 => by
                                        obtain ⟨b1, b2, b3⟩ := hq L N st a1 a2 a3 a4
                                        refine ⟨b1, b2, fun w w1 w2 => ⟨(b3 w w1 w2).1, fun j t j1 t1 t2 t3 => ?_⟩⟩
                                        have hN := a3.1
                                        by_cases e8 : j = k.toInt.toNat
                                        · rw [e8, hg_e48] at t2
                                          have e9 : e48.toInt.toNat = t := by rw [t2]; exact m_nIn (by omega)
                                          first
                                            | (rw [← e9, hg_e57]; omega)
                                            | (exfalso
                                               have h8 : m_nr e67 e48 = false := m_b0 (hg_r70.trans q73)
                                               rw [← hg_e67, w2, t2, (m_nr_st (by omega) (by omega)).mpr (Or.inr t3)] at h8
                                               cases h8)
                                        · exact (b3 w w1 w2).2 j t (by omega) t1 t2 t3) (by omega)
        · have q73_ : ¬ r70.toInt = (0 : Int32).toInt := fun q => q73 (Int32.toInt_inj.mp q)
          refine lv_aload_n hx hb sbq_d76 rfl (lv_at hl 4 rfl) ?_
          refine y_getf X (fl139 X.2.2.2.2.1) hI.1 hY_this rfl hs_hr sbq_d77 ?_
          refine lv_iload hx hb sbq_d80 (lv_at hl 0 rfl) ?_
          refine lv_iload_n hx hb sbq_d82 rfl (lv_at hl 5 rfl) ?_
          refine lv_iconst hx hb sbq_d83 (v := 1) (by decide) ?_
          have ec1 : (1 : Int32).toInt = 1 := by decide
          refine lv_iadd hx hb sbq_d84 ?_
          generalize hg_z84 : h + (1 : Int32) = z84
          refine y_iast X hY0 hI hY_hr rfl hA_hr (by omega) (by show _ < (1024 : Int); omega) ⟨_, rfl, x_i32 _⟩ (by decide +kernel) sbq_d85 fun H locs hI h_new ho => ?_
          replace hA_hr := h_new
          generalize hf_f85 : y_up fh e48.toInt.toNat z84 = f85 at hA_hr
          replace hs_sr := y_slk hs_sr (ho _ (y_ne hY_this hY_hr rfl))
          replace hs_hr := y_slk hs_hr (ho _ (y_ne hY_this hY_hr rfl))
          replace hsi_found := y_slk hsi_found (ho _ (y_ne hY_this hY_hr rfl))
          replace hA_sr := hA_sr.kept (ho _ (y_ne hY_sr hY_hr rfl))
          refine lv_iconst hx hb sbq_d86 (v := 1) (by decide) ?_
          refine lv_istore_n hx hb sbq_d87 rfl hl (by decide) (lv' := [(2, .int (1 : Int32)), (5, .int e48), (4, .int k), (3, .int i), (0, .ref this), (1, .int h)]) rfl fun ls hl => ?_
          obtain ⟨z88, hg_z88⟩ : ∃ z88 : Int32, k + Int32.ofInt 1 = z88 := ⟨_, rfl⟩
          have h_z88 : z88.toInt = k.toInt + 1 := by rw [← hg_z88]; exact y_inc (by decide) (by omega) (by omega)
          refine lv_iinc hx hb sbq_d88 hl (k := 2) rfl hg_z88 (by decide) (lv' := [(4, .int z88), (2, .int (1 : Int32)), (5, .int e48), (3, .int i), (0, .ref this), (1, .int h)]) rfl fun ls hl => ?_
          refine lv_goto hx hb sbq_d91 (tgt := 33) (by decide) ?_
          have his : z88.toInt.toNat = k.toInt.toNat + 1 := by omega
          exact ih _ _ _ _ _ _ _ hI hY_this hY_sr hY_hr hs_sr hs_hr hsi_found hA_sr hA_hr (lv_sub hl [0, 3, 1, 4, 5] rfl) (by first | assumption | omega) (by first | assumption | omega) (fun L N st a1 a2 a3 a4 => by
                                        obtain ⟨b1, b2, b3⟩ := hq L N st a1 a2 a3 a4
                                        obtain ⟨u, u1, u2, u3⟩ := a3.at (i := i.toInt.toNat) (by omega)
                                        obtain ⟨s9, s1, s2, s3⟩ := a3.at (i := k.toInt.toNat) (by omega)
                                        have hN := a3.1
                                        have hfu := (b3 u u1 u3).1
                                        have e9 : e48.toInt.toNat = s9 := by rw [← hg_e48, s3]; exact m_nIn (by omega)
                                        have hm : (fh s9).toInt = -1 := by rw [← e9, hg_e57]; omega
                                        have hne : u ≠ s9 := fun q => by rw [q, hm] at hfu; omega
                                        have hst : m_st u s9 := by
                                          have h8 : m_nr e67 e48 = true := m_bn (fun q => q73 (hg_r70.symm.trans q))
                                          rw [← hg_e67, ← hg_e48, u3, s3] at h8
                                          exact ((m_nr_st (by omega) (by omega)).mp h8).resolve_left hne
                                        have hv : z84.toInt = h.toInt + 1 := by rw [← hg_z84]; have := y_add (x := h) (y := (1 : Int32)) (by rw [m_c1]; omega) (by rw [m_c1]; omega); rw [m_c1] at this; exact this
                                        have hn := b1.push hN a1 u1 u2 hfu s1 s2 hst hm hv
                                        have hw : ∀ w, w ≠ s9 → f85 w = fh w := fun w hw => by rw [← hf_f85, e9, y_up_ne hw]
                                        have ef : y_up fh s9 z84 = f85 := by rw [← hf_f85, e9]
                                        rw [ef] at hn
                                        have hws : ∀ w : Nat, (f85 w).toInt = h.toInt → w ≠ s9 := fun w h8 q => by rw [q, ← ef, y_up_at] at h8; omega
                                        refine ⟨hn, fun j w j1 j2 j3 j4 => ?_, fun w w1 w2 => ?_⟩
                                        · have q := hws w j4
                                          rw [hw w q] at j4
                                          rw [← ef]
                                          exact (b2 j w j1 j2 j3 j4).push q hm
                                        · have hwu : w = u := m_nIi (by omega) (by omega) (w2.symm.trans u3)
                                          rw [hwu]
                                          refine ⟨by rw [hw u hne]; exact hfu, fun j t j1 t1 t2 t3 => ?_⟩
                                          by_cases q : t = s9
                                          · rw [q, ← ef, y_up_at]; omega
                                          · rw [hw t q]
                                            refine (b3 u u1 u3).2 j t ?_ t1 t2 t3
                                            by_cases e8 : j = k.toInt.toNat
                                            · rw [e8, s3] at t2; exact absurd (m_nIi (by omega) (by omega) t2).symm q
                                            · omega) (by omega)
theorem sbq_L4 {p : Program} {l : Launch} {e : Env} {s : State} {m : MethodId} {below : List Frame} {meth : Method} {c : Code} {D : va_G} {U : State} {Y0 : xY} {av : List Value} (B : y_B vwCl x_Tb x_Nb xM95 p s m meth c D U Y0 av) {this sr hr : Nat} {h fo : Int32} {fr Fz : Nat → Int32} (hav : av = [.ref this, .int h]) (hsr : x_sl D 5 0 this s.heap = some (.ref sr)) (hfo0 : x_sl D 5 1 this s.heap = some (.int fo)) (hA0 : y_A sr 1024 s.heap fr) (hsh0 : x_sl D 5 2 this s.heap = some (.ref hr)) (hAh0 : y_A hr 1024 s.heap Fz) (hfo9 : 0 ≤ fo.toInt ∧ fo.toInt ≤ 1024) (hB_sr : ∀ j, j < 1024 → (0 : Int) ≤ (fr j).toInt ∧ (fr j).toInt ≤ 1023)  :
    ∀ (n : Nat), ∀ (H : Heap) (Y : xY) (locs : List Loc) (ls : Array Slot) (i : Int32) (go : Int32) (fh : Nat → Int32), x_I D x_G x_Zs U (x_efs xM95) Y0 s.heap Y H locs → Y this = some 8 → Y sr = some 35 → Y hr = some 36 → x_sl D 5 0 this H = some (.ref sr) → x_sl D 5 2 this H = some (.ref hr) → x_sl D 5 1 this H = some (.int fo) → y_A sr 1024 H fr → y_A hr 1024 H fh → lv_has ls xM95.2.2.1 [(3, .int i), (2, .int go), (0, .ref this), (1, .int h)] → (0 ≤ i.toInt ∧ i.toInt ≤ fo.toInt) → (0 ≤ go.toInt ∧ go.toInt ≤ 1) → (∀ (L : Nat → Bool) (N st : Nat), 0 ≤ h.toInt → h.toInt ≤ 1023 → m_W L N fo fr → m_SB L N st Fz h → m_SIb L N st Fz fh h go ∧ (∀ j u : Nat, (j : Int) < i.toInt → u < N → fr j = nI u → (fh u).toInt = h.toInt → m_Q2 L N fh u)) → (1025 - i.toInt).toNat < n → W p l e (x_rm xM95) s m av.toArray below meth c H locs 0 0 (y_QQ below D x_G x_Zs U xM95 z_Psb av Y0 s) (F0 m 4 ls []) := by
  have X := B.1
  have hx := X.1
  have hb := X.2.1
  have hY0 := B.2.2.2.2.1
  intro n
  induction n with
  | zero => intro _ _ _ _ _ _ _ _ _ _ _ _ _ _ _ _ _ _ _ _ h; exact absurd h (Nat.not_lt_zero _)
  | succ n ih =>
    intro H Y locs ls i go fh hI hY_this hY_sr hY_hr hs_sr hs_hr hsi_found hA_sr hA_hr hl hi hgo hq hn
    refine lv_iload_n hx hb sbq_d4 rfl (lv_at hl 0 rfl) ?_
    refine lv_aload_n hx hb sbq_d5 rfl (lv_at hl 2 rfl) ?_
    refine y_getf X (fl136 X.2.2.2.2.1) hI.1 hY_this rfl hsi_found sbq_d6 ?_
    refine lv_icmp_ge hx hb sbq_d9 (tgt := 100) (by decide) (fun q9 => ?_) (fun q9 => ?_)
    · have q9_ : fo.toInt ≤ i.toInt := x_le32.mp q9
      refine lv_iload_n hx hb sbq_d100 rfl (lv_at hl 1 rfl) ?_
      subst hav
      exact y_ireturn B hI rfl rfl (x_nar_ok (u := (0, 1)) (by decide) ⟨hgo.1, hgo.2⟩) List.mem_cons_self ⟨_, rfl, ⟨_, rfl, by show (0 : Int) ≤ _; omega, by show _ ≤ (1 : Int); omega⟩⟩ (x_cs.mono B.2.2.2.2.2 (y_mon B hI)) (fun t' s' r' h' o' f' g' h1 h2 h3 h4 h5 h6 h7 h8 => by cases h1; cases h2.symm.trans hsr; cases h3.symm.trans hfo0; cases h5.symm.trans hsh0; refine ⟨fh, go, hA_hr, rfl, fun L N st a1 a2 => ?_⟩; have a3 : m_W L N fo fr := ⟨a1.1, a1.2.1, fun q hq1 hL => by have := m_cn_lt hq1 hL; have := m_cn_b (L := L) (k := N); have := a1.1; rw [z_AR hA0 h4 (show m_cn L q < 1024 by omega)]; exact a1.2.2 q hq1 hL⟩; have e := fun q (hq1 : q < 1024) => z_AR h6 hAh0 hq1; have hN := a1.1; obtain ⟨b1, b2⟩ := hq L N st h7 h8 a3 (a2.congr fun q hq1 => e q (by omega)); have ec := z_cnt_congr 1024 e; refine ⟨⟨b1.1, b1.2.1, b1.2.2.1, ?_, ?_⟩, fun u hu hL h9 => ?_⟩; (rw [ec]; exact b1.2.2.2.1); (rw [ec]; exact b1.2.2.2.2); obtain ⟨q, q1, q2⟩ := a3.of hu hL; exact b2 q u (by omega) hu q2 h9) (Nat.le_refl _) (Nat.le_refl _) sbq_d101
    · have q9_ : i.toInt < fo.toInt := Int.not_le.mp fun q => q9 (x_le32.mpr q)
      refine lv_aload_n hx hb sbq_d12 rfl (lv_at hl 2 rfl) ?_
      refine y_getf X (fl139 X.2.2.2.2.1) hI.1 hY_this rfl hs_hr sbq_d13 ?_
      refine lv_aload_n hx hb sbq_d16 rfl (lv_at hl 2 rfl) ?_
      refine y_getf X (fl135 X.2.2.2.2.1) hI.1 hY_this rfl hs_sr sbq_d17 ?_
      refine lv_iload_n hx hb sbq_d20 rfl (lv_at hl 0 rfl) ?_
      refine y_iald X hI.1 hY_sr rfl hA_sr (by omega) (by show _ < (1024 : Int); omega) sbq_d21 ?_
      obtain ⟨e21, hg_e21⟩ : ∃ e21 : Int32, fr i.toInt.toNat = e21 := ⟨_, rfl⟩
      rw [hg_e21]
      have h_e21 : (0 : Int) ≤ e21.toInt ∧ e21.toInt ≤ 1023 := by rw [← hg_e21]; exact hB_sr _ (by omega)
      refine y_iald X hI.1 hY_hr rfl hA_hr (by omega) (by show _ < (1024 : Int); omega) sbq_d22 ?_
      obtain ⟨e22, hg_e22⟩ : ∃ e22 : Int32, fh e21.toInt.toNat = e22 := ⟨_, rfl⟩
      rw [hg_e22]
      refine lv_iload_n hx hb sbq_d23 rfl (lv_at hl 3 rfl) ?_
      refine lv_icmp_eq hx hb sbq_d24 (tgt := 30) (by decide) (fun q24 => ?_) (fun q24 => ?_)
      · have q24_ : e22.toInt = h.toInt := by rw [q24]
        refine lv_iconst hx hb sbq_d30 (v := 0) (by decide) ?_
        have ec0 : (0 : Int32).toInt = 0 := by decide
        refine lv_istore hx hb sbq_d31 hl (by decide) (lv' := [(4, .int (0 : Int32)), (3, .int i), (2, .int go), (0, .ref this), (1, .int h)]) rfl fun ls hl => ?_
        exact sbq_L33 B hav hsr hfo0 hA0 hsh0 hAh0 hfo9 hB_sr (by first | assumption | omega) (fun H Y locs ls i1 go1 fh1 hI hY_this hY_sr hY_hr hs_sr hs_hr hsi_found hA_sr hA_hr hl hi hgo hq h_i1 => ih _ _ _ _ _ _ _ hI hY_this hY_sr hY_hr hs_sr hs_hr hsi_found hA_sr hA_hr hl hi hgo hq (by omega)) 1026 _ _ _ _ _ _ _ hI hY_this hY_sr hY_hr hs_sr hs_hr hsi_found hA_sr hA_hr (lv_sub hl [0, 1, 2, 3, 4] rfl) (by first | assumption | omega) (by first | assumption | omega) (fun L N st a1 a2 a3 a4 => by
                                        obtain ⟨b1, b2⟩ := hq L N st a1 a2 a3 a4
                                        have hN := a3.1
                                        refine ⟨b1, b2, fun u u1 u2 => ⟨?_, fun j t j1 => absurd j1 (by omega)⟩⟩
                                        rw [hg_e21] at u2
                                        have e9 : e21.toInt.toNat = u := by rw [u2]; exact m_nIn (by omega)
                                        rw [← e9, hg_e22]
                                        omega) (by omega)
      · have q24_ : ¬ e22.toInt = h.toInt := fun q => q24 (Int32.toInt_inj.mp q)
        refine lv_goto hx hb sbq_d27 (tgt := 94) (by decide) ?_
        obtain ⟨z94, hg_z94⟩ : ∃ z94 : Int32, i + Int32.ofInt 1 = z94 := ⟨_, rfl⟩
        have h_z94 : z94.toInt = i.toInt + 1 := by rw [← hg_z94]; exact y_inc (by decide) (by omega) (by omega)
        refine lv_iinc hx hb sbq_d94 hl (k := 0) rfl hg_z94 (by decide) (lv' := [(3, .int z94), (2, .int go), (0, .ref this), (1, .int h)]) rfl fun ls hl => ?_
        refine lv_goto hx hb sbq_d97 (tgt := 4) (by decide) ?_
        exact ih _ _ _ _ _ _ _ hI hY_this hY_sr hY_hr hs_sr hs_hr hsi_found hA_sr hA_hr (lv_sub hl [0, 1, 2, 3] rfl) (by first | assumption | omega) (by first | assumption | omega) (fun L N st a1 a2 a3 a4 => by
                                        obtain ⟨b1, b2⟩ := hq L N st a1 a2 a3 a4
                                        refine ⟨b1, fun j u j1 j2 j3 j4 => ?_⟩
                                        have hN := a3.1
                                        by_cases e8 : j = i.toInt.toNat
                                        · exfalso
                                          rw [e8, hg_e21] at j3
                                          have e9 : e21.toInt.toNat = u := by rw [j3]; exact m_nIn (by omega)
                                          rw [← e9, hg_e22] at j4
                                          omega
                                        · exact b2 j u (by omega) j2 j3 j4) (by omega)
theorem ym_spreadBehind : y_Met vwCl x_G x_Zs x_Tb x_Nb xM95 y_T z_Psb := by
  refine y_main (by decide +kernel) (by decide +kernel) x_Tb_good x_Nb_ok ?_
  intro p l e s m below meth c D U Y0 av ls B hI _ hl
  have X := B.1
  have hx := X.1
  have hb := X.2.1
  have hY0 := B.2.2.2.2.1
  obtain ⟨v0, v1, rfl, hv0, ⟨h, rfl, hh⟩⟩ := x_two B.2.2.2.2.2
  obtain ⟨this, t0, rfl, ht0, hY_this⟩ := x_ref_at hv0 rfl
  obtain rfl := List.mem_singleton.mp ht0
  replace hl : lv_has ls xM95.2.2.1 [(0, .ref this), (1, .int h)] := hl
  obtain ⟨sr, hs_sr, hY_sr⟩ := y_fldR (k := 0) hI.1 hY_this rfl rfl
  obtain ⟨hr, hs_hr, hY_hr⟩ := y_fldR (k := 2) hI.1 hY_this rfl rfl
  obtain ⟨fr, hA_sr, hB_sr⟩ := y_arr hI.1 hY_sr rfl rfl
  replace hB_sr : ∀ j, j < 1024 → (0 : Int) ≤ (fr j).toInt ∧ (fr j).toInt ≤ 1023 := fun j hj => by obtain ⟨x, e0, e1⟩ := hB_sr j hj; cases e0; exact e1
  obtain ⟨Fz, hA_hr, -⟩ := y_arr hI.1 hY_hr rfl rfl
  obtain ⟨fo, hsi_found, hfo9⟩ := y_fldI (k := 1) hI.1 hY_this rfl rfl
  replace hfo9 : (0 : Int) ≤ fo.toInt ∧ fo.toInt ≤ 1024 := hfo9
  have hsr := hs_sr
  have hA0 := hA_sr
  have hfo0 := hsi_found
  have hsh0 := hs_hr
  have hAh0 := hA_hr
  refine lv_iconst hx hb sbq_d0 (v := 0) (by decide) ?_
  have ec0 : (0 : Int32).toInt = 0 := by decide
  refine lv_istore_n hx hb sbq_d1 rfl hl (by decide) (lv' := [(2, .int (0 : Int32)), (0, .ref this), (1, .int h)]) rfl fun ls hl => ?_
  refine lv_iconst hx hb sbq_d2 (v := 0) (by decide) ?_
  refine lv_istore_n hx hb sbq_d3 rfl hl (by decide) (lv' := [(3, .int (0 : Int32)), (2, .int (0 : Int32)), (0, .ref this), (1, .int h)]) rfl fun ls hl => ?_
  exact sbq_L4 B rfl hsr hfo0 hA0 hsh0 hAh0 hfo9 hB_sr 1026 _ _ _ _ _ _ _ hI hY_this hY_sr hY_hr hs_sr hs_hr hsi_found hA_sr hA_hr (lv_sub hl [0, 1, 2, 3] rfl) (by first | assumption | omega) (by first | assumption | omega) (fun L N st _ _ _ a4 => ⟨a4.start, fun j u j1 => absurd j1 (by omega)⟩) (by omega)
def z_Pspr : yP := fun D av _ H _ _ H' => ∀ (this sr hr : Nat) (w fo : Int32) (fr : Nat → Int32), av = [.ref this, .int w] → x_sl D 5 0 this H = some (.ref sr) → x_sl D 5 1 this H = some (.int fo) → y_A sr 1024 H fr → x_sl D 5 2 this H = some (.ref hr) → ∃ F : Nat → Int32, y_A hr 1024 H' F ∧ ∀ (L : Nat → Bool) (N : Nat), m_W L N fo fr → w.toInt.toNat < N → L w.toInt.toNat = true → m_D L N w.toInt.toNat F
theorem srq_d0 : decode xM96.2.1 0 = .ok (.aload_n 0, 1) := dz_ok (by decide +kernel)
theorem srq_d1 : decode xM96.2.1 1 = .ok (.getfield 15, 3) := dz_ok (by decide +kernel)
theorem srq_d4 : decode xM96.2.1 4 = .ok (.iconst (-1), 1) := dz_ok (by decide +kernel)
theorem srq_d5 : decode xM96.2.1 5 = .ok (.invokestatic 42, 3) := dz_ok (by decide +kernel)
theorem srq_d8 : decode xM96.2.1 8 = .ok (.aload_n 0, 1) := dz_ok (by decide +kernel)
theorem srq_d9 : decode xM96.2.1 9 = .ok (.getfield 15, 3) := dz_ok (by decide +kernel)
theorem srq_d12 : decode xM96.2.1 12 = .ok (.iload_n 1, 1) := dz_ok (by decide +kernel)
theorem srq_d13 : decode xM96.2.1 13 = .ok (.iconst 0, 1) := dz_ok (by decide +kernel)
theorem srq_d14 : decode xM96.2.1 14 = .ok (.iastore, 1) := dz_ok (by decide +kernel)
theorem srq_d15 : decode xM96.2.1 15 = .ok (.iconst 1, 1) := dz_ok (by decide +kernel)
theorem srq_d16 : decode xM96.2.1 16 = .ok (.istore_n 2, 1) := dz_ok (by decide +kernel)
theorem srq_d17 : decode xM96.2.1 17 = .ok (.iconst 0, 1) := dz_ok (by decide +kernel)
theorem srq_d18 : decode xM96.2.1 18 = .ok (.istore_n 3, 1) := dz_ok (by decide +kernel)
theorem srq_d19 : decode xM96.2.1 19 = .ok (.iload_n 2, 1) := dz_ok (by decide +kernel)
theorem srq_d20 : decode xM96.2.1 20 = .ok (.ifCond .eq 22, 3) := dz_ok (by decide +kernel)
theorem srq_d23 : decode xM96.2.1 23 = .ok (.iload_n 3, 1) := dz_ok (by decide +kernel)
theorem srq_d24 : decode xM96.2.1 24 = .ok (.sipush 1024, 3) := dz_ok (by decide +kernel)
theorem srq_d27 : decode xM96.2.1 27 = .ok (.if_icmp .ge 15, 3) := dz_ok (by decide +kernel)
theorem srq_d30 : decode xM96.2.1 30 = .ok (.aload_n 0, 1) := dz_ok (by decide +kernel)
theorem srq_d31 : decode xM96.2.1 31 = .ok (.iload_n 3, 1) := dz_ok (by decide +kernel)
theorem srq_d32 : decode xM96.2.1 32 = .ok (.invokevirtual 48, 3) := dz_ok (by decide +kernel)
theorem srq_d35 : decode xM96.2.1 35 = .ok (.istore_n 2, 1) := dz_ok (by decide +kernel)
theorem srq_d36 : decode xM96.2.1 36 = .ok (.iinc 3 1, 3) := dz_ok (by decide +kernel)
theorem srq_d39 : decode xM96.2.1 39 = .ok (.goto (-20), 3) := dz_ok (by decide +kernel)
theorem srq_d42 : decode xM96.2.1 42 = .ok (.return_, 1) := dz_ok (by decide +kernel)
theorem srq_L19 {p : Program} {l : Launch} {e : Env} {s : State} {m : MethodId} {below : List Frame} {meth : Method} {c : Code} {D : va_G} {U : State} {Y0 : xY} {av : List Value} (B : y_B vwCl x_Tb x_Nb xM96 p s m meth c D U Y0 av) {this sr hr : Nat} {w fo : Int32} {fr : Nat → Int32} (hav : av = [.ref this, .int w]) (hsr : x_sl D 5 0 this s.heap = some (.ref sr)) (hfo0 : x_sl D 5 1 this s.heap = some (.int fo)) (hA0 : y_A sr 1024 s.heap fr) (hsh0 : x_sl D 5 2 this s.heap = some (.ref hr)) (hw : 0 ≤ w.toInt ∧ w.toInt ≤ 1023)  :
    ∀ (n : Nat), ∀ (H : Heap) (Y : xY) (locs : List Loc) (ls : Array Slot) (h : Int32) (go : Int32) (fh : Nat → Int32), x_I D x_G x_Zs U (x_efs xM96) Y0 s.heap Y H locs → Y this = some 8 → Y sr = some 35 → Y hr = some 36 → x_sl D 5 0 this H = some (.ref sr) → x_sl D 5 2 this H = some (.ref hr) → x_sl D 5 1 this H = some (.int fo) → y_A sr 1024 H fr → y_A hr 1024 H fh → lv_has ls xM96.2.2.1 [(3, .int h), (2, .int go), (0, .ref this), (1, .int w)] → (0 ≤ h.toInt ∧ h.toInt ≤ 1024) → (∀ (L : Nat → Bool) (N : Nat), m_W L N fo fr → w.toInt.toNat < N → L w.toInt.toNat = true → m_SL L N w.toInt.toNat fh h go) → (1025 - h.toInt).toNat < n → W p l e (x_rm xM96) s m av.toArray below meth c H locs 0 0 (y_QQ below D x_G x_Zs U xM96 z_Pspr av Y0 s) (F0 m 19 ls []) := by
  have X := B.1
  have hx := X.1
  have hb := X.2.1
  have hY0 := B.2.2.2.2.1
  intro n
  induction n with
  | zero => intro _ _ _ _ _ _ _ _ _ _ _ _ _ _ _ _ _ _ _ h; exact absurd h (Nat.not_lt_zero _)
  | succ n ih =>
    intro H Y locs ls h go fh hI hY_this hY_sr hY_hr hs_sr hs_hr hsi_found hA_sr hA_hr hl hh hq hn
    refine lv_iload_n hx hb srq_d19 rfl (lv_at hl 1 rfl) ?_
    have ec0 : (0 : Int32).toInt = 0 := by decide
    refine lv_if_eq hx hb srq_d20 (tgt := 42) (by decide) (fun q20 => ?_) (fun q20 => ?_)
    · have q20_ : go.toInt = (0 : Int32).toInt := by rw [q20]
      have hD := fun L N a1 a2 a3 => (hq L N a1 a2 a3).end (by first | exact Or.inl (by assumption) | exact Or.inr (by omega))
      subst hav
      exact y_return B hI rfl rfl List.mem_cons_self rfl (x_cs.mono B.2.2.2.2.2 (y_mon B hI)) (fun t' s' r' w' o' g' h1 h2 h3 h4 h5 => by cases h1; cases h2.symm.trans hsr; cases h3.symm.trans hfo0; cases h5.symm.trans hsh0; exact ⟨fh, hA_hr, fun L N a1 a2 a3 => hD L N ⟨a1.1, a1.2.1, fun q hq1 hL => by have := m_cn_lt hq1 hL; have := m_cn_b (L := L) (k := N); have := a1.1; rw [z_AR hA0 h4 (show m_cn L q < 1024 by omega)]; exact a1.2.2 q hq1 hL⟩ a2 a3⟩) (Nat.le_refl _) (Nat.le_refl _) srq_d42
    · have q20_ : ¬ go.toInt = (0 : Int32).toInt := fun q => q20 (Int32.toInt_inj.mp q)
      refine lv_iload_n hx hb srq_d23 rfl (lv_at hl 0 rfl) ?_
      refine lv_sipush hx hb srq_d24 (v := 1024) (by decide) ?_
      have ec1024 : (1024 : Int32).toInt = 1024 := by decide
      refine lv_icmp_ge hx hb srq_d27 (tgt := 42) (by decide) (fun q27 => ?_) (fun q27 => ?_)
      · have q27_ : (1024 : Int32).toInt ≤ h.toInt := x_le32.mp q27
        have hD := fun L N a1 a2 a3 => (hq L N a1 a2 a3).end (by first | exact Or.inl (by assumption) | exact Or.inr (by omega))
        subst hav
        exact y_return B hI rfl rfl List.mem_cons_self rfl (x_cs.mono B.2.2.2.2.2 (y_mon B hI)) (fun t' s' r' w' o' g' h1 h2 h3 h4 h5 => by cases h1; cases h2.symm.trans hsr; cases h3.symm.trans hfo0; cases h5.symm.trans hsh0; exact ⟨fh, hA_hr, fun L N a1 a2 a3 => hD L N ⟨a1.1, a1.2.1, fun q hq1 hL => by have := m_cn_lt hq1 hL; have := m_cn_b (L := L) (k := N); have := a1.1; rw [z_AR hA0 h4 (show m_cn L q < 1024 by omega)]; exact a1.2.2 q hq1 hL⟩ a2 a3⟩) (Nat.le_refl _) (Nat.le_refl _) srq_d42
      · have q27_ : h.toInt < (1024 : Int32).toInt := Int.not_le.mp fun q => q27 (x_le32.mpr q)
        refine lv_aload_n hx hb srq_d30 rfl (lv_at hl 2 rfl) ?_
        refine lv_iload_n hx hb srq_d31 rfl (lv_at hl 0 rfl) ?_
        refine y_call (z := (0, 48, 2, some 8, xM95)) (av := [.ref this, .int h]) (rest := []) (y_cokV (n := 1) (ci := 5) X ym_spreadBehind rfl rfl rfl (x_cons (x_bw49 10 rfl rfl) (x_cons (x_bw49 12 rfl rfl) (x_cons (x_at 18 (by decide +kernel) rfl) (x_cons (x_bw0 8 rfl rfl) x_nilm)))) (x_bw49 13 rfl rfl) (by decide +kernel) ⟨Nat.le_of_ble_eq_true rfl, Nat.le_of_ble_eq_true rfl⟩) hY0 hI rfl srq_d32 hl.1 (Nat.le_of_ble_eq_true rfl) (Nat.le_of_ble_eq_true rfl) (Nat.le_of_ble_eq_true rfl) (y_cons (y_cref hY_this rfl) (y_cons ⟨_, rfl, x_i32 _⟩ y_nil)) rfl (y_recv rfl hY_this) trivial (y_sub_ef rfl) fun v Yn o Hn L ho hr ha hIn hx_ hE hP => ?_
        have hPs := hP _ _ _ _ _ _ _ rfl hs_sr hsi_found hA_sr hs_hr hA_hr (by omega) (by omega)
        replace hs_sr := y_Efld hE hY_this rfl (by decide) (by decide) hs_sr
        replace hs_hr := y_Efld hE hY_this rfl (by decide) (by decide) hs_hr
        replace hsi_found := y_Efld hE hY_this rfl (by decide) (by decide) hsi_found
        replace hA_sr := hA_sr.kept (y_Earr hE hY_sr rfl (by decide))
        replace hY_this := y_ext hx_ hI.1 hY_this
        replace hY_sr := y_ext hx_ hI.1 hY_sr
        replace hY_hr := y_ext hx_ hI.1 hY_hr
        obtain ⟨fh2, r32, hA_hr, rfl, hSC⟩ := hPs
        clear ho hr ha hE hP hI hx_
        rename x_I _ _ _ _ _ _ _ _ _ _ => hI
        refine lv_istore_n hx hb srq_d35 rfl hl (by decide) (lv' := [(2, .int r32), (3, .int h), (0, .ref this), (1, .int w)]) rfl fun ls hl => ?_
        obtain ⟨z36, hg_z36⟩ : ∃ z36 : Int32, h + Int32.ofInt 1 = z36 := ⟨_, rfl⟩
        have h_z36 : z36.toInt = h.toInt + 1 := by rw [← hg_z36]; exact y_inc (by decide) (by omega) (by omega)
        refine lv_iinc hx hb srq_d36 hl (k := 1) rfl hg_z36 (by decide) (lv' := [(3, .int z36), (2, .int r32), (0, .ref this), (1, .int w)]) rfl fun ls hl => ?_
        refine lv_goto hx hb srq_d39 (tgt := 19) (by decide) ?_
        exact ih _ _ _ _ _ _ _ hI hY_this hY_sr hY_hr hs_sr hs_hr hsi_found hA_sr hA_hr (lv_sub hl [0, 1, 2, 3] rfl) (by first | assumption | omega) (fun L N a1 a2 a3 => (hq L N a1 a2 a3).step (by assumption) hh.1 (hSC L N _ a1) (by omega)) (by omega)
theorem ym_spread : y_Met vwCl x_G x_Zs x_Tb x_Nb xM96 y_T z_Pspr := by
  refine y_main (by decide +kernel) (by decide +kernel) x_Tb_good x_Nb_ok ?_
  intro p l e s m below meth c D U Y0 av ls B hI _ hl
  have X := B.1
  have hx := X.1
  have hb := X.2.1
  have hY0 := B.2.2.2.2.1
  obtain ⟨v0, v1, rfl, hv0, ⟨w, rfl, hw⟩⟩ := x_two B.2.2.2.2.2
  obtain ⟨this, t0, rfl, ht0, hY_this⟩ := x_ref_at hv0 rfl
  obtain rfl := List.mem_singleton.mp ht0
  replace hw : (0 : Int) ≤ w.toInt ∧ w.toInt ≤ 1023 := hw
  replace hl : lv_has ls xM96.2.2.1 [(0, .ref this), (1, .int w)] := hl
  obtain ⟨sr, hs_sr, hY_sr⟩ := y_fldR (k := 0) hI.1 hY_this rfl rfl
  obtain ⟨hr, hs_hr, hY_hr⟩ := y_fldR (k := 2) hI.1 hY_this rfl rfl
  obtain ⟨fr, hA_sr, hB_sr⟩ := y_arr hI.1 hY_sr rfl rfl
  replace hB_sr : ∀ j, j < 1024 → (0 : Int) ≤ (fr j).toInt ∧ (fr j).toInt ≤ 1023 := fun j hj => by obtain ⟨x, e0, e1⟩ := hB_sr j hj; cases e0; exact e1
  obtain ⟨fo, hsi_found, hfo9⟩ := y_fldI (k := 1) hI.1 hY_this rfl rfl
  replace hfo9 : (0 : Int) ≤ fo.toInt ∧ fo.toInt ≤ 1024 := hfo9
  have hsr := hs_sr
  have hA0 := hA_sr
  have hfo0 := hsi_found
  have hsh0 := hs_hr
  refine lv_aload_n hx hb srq_d0 rfl (lv_at hl 0 rfl) ?_
  refine y_getf X (fl139 X.2.2.2.2.1) hI.1 hY_this rfl hs_hr srq_d1 ?_
  refine lv_iconst hx hb srq_d4 (v := (-1)) (by decide) ?_
  have ecm1 : ((-1) : Int32).toInt = (-1) := by decide
  refine y_call (z := (1, 42, 2, none, xM93)) (av := [.ref hr, .int ((-1) : Int32)]) (rest := []) (y_cokS (n := 2) X ym_fillHo (x_cons (x_bw49 9 rfl rfl) (x_cons (x_bw2 7 rfl rfl) (x_cons (x_bw0 3 rfl rfl) x_nilm))) (x_bw2 8 rfl rfl) (by decide +kernel) ⟨Nat.le_of_ble_eq_true rfl, Nat.le_of_ble_eq_true rfl⟩) hY0 hI rfl srq_d5 hl.1 (Nat.le_of_ble_eq_true rfl) (Nat.le_of_ble_eq_true rfl) (Nat.le_of_ble_eq_true rfl) (y_cons (y_cref hY_hr rfl) (y_cons ⟨_, rfl, by show ((-1) : Int) ≤ _; omega, by show _ ≤ ((-1) : Int); omega⟩ y_nil)) rfl (y_norecv rfl) trivial (y_sub_ef rfl) fun v Yn o Hn L ho hr ha hIn hx_ hE hP => ?_
  have hPf := hP _ _ rfl
  replace hs_sr := y_Efld hE hY_this rfl (by decide) (by decide) hs_sr
  replace hs_hr := y_Efld hE hY_this rfl (by decide) (by decide) hs_hr
  replace hsi_found := y_Efld hE hY_this rfl (by decide) (by decide) hsi_found
  replace hA_sr := hA_sr.kept (y_Earr hE hY_sr rfl (by decide))
  replace hY_this := y_ext hx_ hI.1 hY_this
  replace hY_sr := y_ext hx_ hI.1 hY_sr
  replace hY_hr := y_ext hx_ hI.1 hY_hr
  obtain rfl := y_ansV rfl ho hr
  have hA_hr := hPf
  clear ho hr ha hE hP hI hx_
  rename x_I _ _ _ _ _ _ _ _ _ _ => hI
  refine lv_aload_n hx hb srq_d8 rfl (lv_at hl 0 rfl) ?_
  refine y_getf X (fl139 X.2.2.2.2.1) hI.1 hY_this rfl hs_hr srq_d9 ?_
  refine lv_iload_n hx hb srq_d12 rfl (lv_at hl 1 rfl) ?_
  refine lv_iconst hx hb srq_d13 (v := 0) (by decide) ?_
  have ec0 : (0 : Int32).toInt = 0 := by decide
  refine y_iast X hY0 hI hY_hr rfl hA_hr (by omega) (by show _ < (1024 : Int); omega) ⟨_, rfl, x_i32 _⟩ (by decide +kernel) srq_d14 fun H locs hI h_new ho => ?_
  replace hA_hr := h_new
  generalize hf_f14 : y_up (fun _ => -1) w.toInt.toNat (0 : Int32) = f14 at hA_hr
  replace hs_sr := y_slk hs_sr (ho _ (y_ne hY_this hY_hr rfl))
  replace hs_hr := y_slk hs_hr (ho _ (y_ne hY_this hY_hr rfl))
  replace hsi_found := y_slk hsi_found (ho _ (y_ne hY_this hY_hr rfl))
  replace hA_sr := hA_sr.kept (ho _ (y_ne hY_sr hY_hr rfl))
  refine lv_iconst hx hb srq_d15 (v := 1) (by decide) ?_
  have ec1 : (1 : Int32).toInt = 1 := by decide
  refine lv_istore_n hx hb srq_d16 rfl hl (by decide) (lv' := [(2, .int (1 : Int32)), (0, .ref this), (1, .int w)]) rfl fun ls hl => ?_
  refine lv_iconst hx hb srq_d17 (v := 0) (by decide) ?_
  refine lv_istore_n hx hb srq_d18 rfl hl (by decide) (lv' := [(3, .int (0 : Int32)), (2, .int (1 : Int32)), (0, .ref this), (1, .int w)]) rfl fun ls hl => ?_
  exact srq_L19 B rfl hsr hfo0 hA0 hsh0 hw 1026 _ _ _ _ _ _ _ hI hY_this hY_sr hY_hr hs_sr hs_hr hsi_found hA_sr hA_hr (lv_sub hl [0, 1, 2, 3] rfl) (by first | assumption | omega) (fun L N a1 a2 a3 => by have h9 := m_SL.begin (z := (0 : Int32)) (h := (0 : Int32)) (F := fun _ => -1) a3 a2 a1.1 (fun _ _ => m_cm1) m_c0 m_c0; rw [hf_f14] at h9; exact h9) (by omega)

