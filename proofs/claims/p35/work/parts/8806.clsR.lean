theorem y_cokSN {p : Program} {l : Launch} {e : Env} {R : Room} {s : State} {m : MethodId} {args : Array Value} {below : List Frame} {meth : Method} {c : Code} {D : va_G} {G : List xG} {Zs : List xZ} {U : State} {nL : Nat} {cc : ByteArray} {cl : List vw_C} {Tb Nb : List Cond} {own : String} {M : xM} {A : yA} {P : yP} {idx n : Nat} {host : String} (X : x_cx p s m args c D U cc nL cl Tb Nb own) (hM : y_Met cl G Zs Tb Nb M A P) (h : ∀ w ∈ [Cond.static M.1, .initialized M.1.cls], w ∈ Tb) (hl : Cond.methodLinkNest own idx M.1 host ∈ Nb) (hc : Cond.code M.1 M.2.1 M.2.2.1 M.2.2.2.1 ∈ Tb)
    (hd : M.1.cls ≠ "java/lang/invoke/MethodHandle" ∧ M.1.cls ≠ "java/lang/invoke/VarHandle" ∧ (parseMethodDescriptor M.1.desc).map (fun d => d.parameters.length) = some n) (hR : (x_rm M).frames + 1 ≤ R.frames ∧ 8 + (M.2.2.1 + 11) + (x_rm M).locals ≤ R.locals) :
    y_cok p l e R s m args below meth c D G Zs U nL cc (1, idx, n, none, M) A P := by
  intro H locs cells slots pc ls rest av Y hdec hls hrest hcl hsl hH hcs hlen hrt hA
  obtain ⟨hx, hb, hml, hown, hts, hK, hK0, hU, hNw, hG, hN⟩ := X
  exact va_runSN (As := av) (rest := rest) (Ts := Tb) (host := host) ⟨hx, hb, hml, hown, hts⟩ (hM l D U Y H.size av hK0 hcs) ⟨va_cnB n hts (x_good (ws := []) hG (fun w hw => by cases hw) hc) rfl rfl rfl (hNw _ hl) (hts _ (h _ (by simp))) hd hR, hts _ (h _ (by simp)), trivial⟩ ⟨y_blind hN, y_pre hN hNw hU hH hA⟩ rfl hlen hls rfl (lv_room hrest) hdec ⟨hcl, hsl⟩
def z_AL : yA := fun D av Y H => ∀ this : Nat, av[0]? = some (.ref this) → ∃ f, z_L D Y this H f
def z_Ppl : yP := fun _ av _ _ v _ _ => ∀ x y : Int32, av = [.int x, .int y] → ∃ r : Int32, v = some (.int r) ∧ (¬ r = 0 → (0 ≤ x.toInt ∧ x.toInt ≤ 19) ∧ (0 ≤ y.toInt ∧ y.toInt ≤ 19)) ∧ (r = 0 → ¬ ((0 ≤ x.toInt ∧ x.toInt ≤ 19) ∧ (0 ≤ y.toInt ∧ y.toInt ≤ 19)))
def z_Ptk : yP := fun D av Y H v _ _ => ∀ (this : Nat) (x y : Int32) (f : Nat → Int32), av = [.ref this, .int x, .int y] → z_L D Y this H f → ∃ r : Int32, v = some (.int r) ∧ (¬ r = 0 → ¬ m_free f x y) ∧ (r = 0 → m_free f x y)
def z_Pah : yP := fun D av Y H v Y' H' => ∀ (this : Nat) (x y h : Int32) (f : Nat → Int32), av = [.ref this, .int x, .int y, .int h] → z_L D Y this H f → z_fr D Y H H' this ∧ ∃ (r : Int32) (g : Nat → Int32), v = some (.int r) ∧ z_L D Y' this H' g ∧ m_hill f x y h r g
theorem z_L.putA {D : va_G} {Y : xY} {H H' : Heap} {q : Nat} {f fa : Nat → Int32} {c : zC} {j a N : Nat} {v : Int32} (h : z_L D Y q H f) (hq : Y q = some 2) (hcm : c ∈ z_C) (hN : N = c.2.2.1) (hj : j < N) (ha : x_sl D 2 c.1 q H = some (.ref a)) (hA : y_A a N H fa) (hA' : y_A a N H' (y_up fa j v)) (ho : ∀ b, b ≠ a → H'[b]? = H[b]?) : z_L D Y q H' (y_up f (z_pl c j) v) := by
  subst hN
  exact h.put hq hcm hj ha (by rw [hA' j hj, y_up_at]) (fun i hi hij => by rw [hA' i hi, y_up_ne hij, hA i hi]) ho
theorem z_cs22 {Y : xY} {t u : xV} {v w : Value} (h1 : x_c Y t v) (h2 : x_c Y u w) : x_cs Y [t, u] [v, w] := ⟨rfl, fun k t' v' ht hv => by
  match k with
  | 0 => cases ht; cases hv; exact h1
  | 1 => cases ht; cases hv; exact h2
  | k + 2 => cases ht⟩
theorem pl_d0 : decode xM2.2.1 0 = .ok (.iload_n 0, 1) := dz_ok (by decide +kernel)
theorem pl_d1 : decode xM2.2.1 1 = .ok (.iconst 0, 1) := dz_ok (by decide +kernel)
theorem pl_d2 : decode xM2.2.1 2 = .ok (.bipush 19, 2) := dz_ok (by decide +kernel)
theorem pl_d4 : decode xM2.2.1 4 = .ok (.invokestatic 83, 3) := dz_ok (by decide +kernel)
theorem pl_d7 : decode xM2.2.1 7 = .ok (.ifCond .eq 17, 3) := dz_ok (by decide +kernel)
theorem pl_d10 : decode xM2.2.1 10 = .ok (.iload_n 1, 1) := dz_ok (by decide +kernel)
theorem pl_d11 : decode xM2.2.1 11 = .ok (.iconst 0, 1) := dz_ok (by decide +kernel)
theorem pl_d12 : decode xM2.2.1 12 = .ok (.bipush 19, 2) := dz_ok (by decide +kernel)
theorem pl_d14 : decode xM2.2.1 14 = .ok (.invokestatic 83, 3) := dz_ok (by decide +kernel)
theorem pl_d17 : decode xM2.2.1 17 = .ok (.ifCond .eq 7, 3) := dz_ok (by decide +kernel)
theorem pl_d20 : decode xM2.2.1 20 = .ok (.iconst 1, 1) := dz_ok (by decide +kernel)
theorem pl_d21 : decode xM2.2.1 21 = .ok (.goto 4, 3) := dz_ok (by decide +kernel)
theorem pl_d24 : decode xM2.2.1 24 = .ok (.iconst 0, 1) := dz_ok (by decide +kernel)
theorem pl_d25 : decode xM2.2.1 25 = .ok (.ireturn, 1) := dz_ok (by decide +kernel)
theorem ym_isPlace : y_Met vwCl x_G x_Zs x_Tb x_Nb xM2 y_T z_Ppl := by
  refine y_main (by decide +kernel) (by decide +kernel) x_Tb_good x_Nb_ok ?_
  intro p l e s m below meth c D U Y0 av ls B hI _ hl
  have X := B.1
  have hx := X.1
  have hb := X.2.1
  have hY0 := B.2.2.2.2.1
  obtain ⟨v0, v1, rfl, ⟨x, rfl, -⟩, ⟨y, rfl, -⟩⟩ := x_two B.2.2.2.2.2
  replace hl : lv_has ls xM2.2.2.1 [(0, .int x), (1, .int y)] := hl
  refine lv_iload_n hx hb pl_d0 rfl (lv_at hl 0 rfl) ?_
  refine lv_iconst hx hb pl_d1 (v := 0) (by decide) ?_
  have ec0 : (0 : Int32).toInt = 0 := by decide
  refine lv_bipush hx hb pl_d2 (v := 19) (by decide) ?_
  have ec19 : (19 : Int32).toInt = 19 := by decide
  refine y_call (z := (1, 83, 3, none, xM10)) (av := [.int x, .int (0 : Int32), .int (19 : Int32)]) (rest := []) (y_cokSN (n := 3) (host := "TwinFires") X ym_within (x_cons (x_bw19 1 rfl rfl) (x_cons (x_bw0 1 rfl rfl) x_nilm)) (x_bn19 0 rfl rfl) (x_bw19 2 rfl rfl) (by decide +kernel) ⟨Nat.le_of_ble_eq_true rfl, Nat.le_of_ble_eq_true rfl⟩) hY0 hI rfl pl_d4 hl.1 (Nat.le_of_ble_eq_true rfl) (Nat.le_of_ble_eq_true rfl) (Nat.le_of_ble_eq_true rfl) (y_cons ⟨_, rfl, x_i32 _⟩ (y_cons ⟨_, rfl, x_i32 _⟩ (y_cons ⟨_, rfl, x_i32 _⟩ y_nil))) rfl (y_norecv rfl) trivial (y_sub_ef rfl) fun v Yn o Hn L ho hr ha hIn hx_ hE hP => ?_
  obtain ⟨r4, rfl, hin_r4, hout_r4⟩ := hP _ _ _ rfl
  clear ho hr ha hE hP hI hx_
  rename x_I _ _ _ _ _ _ _ _ _ _ => hI
  refine lv_if_eq hx hb pl_d7 (tgt := 24) (by decide) (fun q7 => ?_) (fun q7 => ?_)
  · have q7_ : r4.toInt = (0 : Int32).toInt := by rw [q7]
    refine lv_iconst hx hb pl_d24 (v := 0) (by decide) ?_
    have hno : ¬ ((0 ≤ x.toInt ∧ x.toInt ≤ 19) ∧ (0 ≤ y.toInt ∧ y.toInt ≤ 19)) := by first | (have hw := hout_r14 q17; omega) | (have hw := hout_r4 q7; omega)
    exact y_ireturn B hI rfl rfl rfl List.mem_cons_self ⟨_, rfl, ⟨_, rfl, by decide, by decide⟩⟩ (x_cs.mono B.2.2.2.2.2 (y_mon B hI)) (fun x' y' h1 => by cases h1; exact ⟨_, rfl, fun q => absurd rfl q, fun _ => hno⟩) (Nat.le_refl _) (Nat.le_refl _) pl_d25
  · have q7_ : ¬ r4.toInt = (0 : Int32).toInt := fun q => q7 (Int32.toInt_inj.mp q)
    refine lv_iload_n hx hb pl_d10 rfl (lv_at hl 1 rfl) ?_
    refine lv_iconst hx hb pl_d11 (v := 0) (by decide) ?_
    refine lv_bipush hx hb pl_d12 (v := 19) (by decide) ?_
    refine y_call (z := (1, 83, 3, none, xM10)) (av := [.int y, .int (0 : Int32), .int (19 : Int32)]) (rest := []) (y_cokSN (n := 3) (host := "TwinFires") X ym_within (x_cons (x_bw19 1 rfl rfl) (x_cons (x_bw0 1 rfl rfl) x_nilm)) (x_bn19 0 rfl rfl) (x_bw19 2 rfl rfl) (by decide +kernel) ⟨Nat.le_of_ble_eq_true rfl, Nat.le_of_ble_eq_true rfl⟩) hY0 hI rfl pl_d14 hl.1 (Nat.le_of_ble_eq_true rfl) (Nat.le_of_ble_eq_true rfl) (Nat.le_of_ble_eq_true rfl) (y_cons ⟨_, rfl, x_i32 _⟩ (y_cons ⟨_, rfl, x_i32 _⟩ (y_cons ⟨_, rfl, x_i32 _⟩ y_nil))) rfl (y_norecv rfl) trivial (y_sub_ef rfl) fun v Yn o Hn L ho hr ha hIn hx_ hE hP => ?_
    obtain ⟨r14, rfl, hin_r14, hout_r14⟩ := hP _ _ _ rfl
    clear ho hr ha hE hP hI hx_
    rename x_I _ _ _ _ _ _ _ _ _ _ => hI
    refine lv_if_eq hx hb pl_d17 (tgt := 24) (by decide) (fun q17 => ?_) (fun q17 => ?_)
    · have q17_ : r14.toInt = (0 : Int32).toInt := by rw [q17]
      refine lv_iconst hx hb pl_d24 (v := 0) (by decide) ?_
      have hno : ¬ ((0 ≤ x.toInt ∧ x.toInt ≤ 19) ∧ (0 ≤ y.toInt ∧ y.toInt ≤ 19)) := by first | (have hw := hout_r14 q17; omega) | (have hw := hout_r4 q7; omega)
      exact y_ireturn B hI rfl rfl rfl List.mem_cons_self ⟨_, rfl, ⟨_, rfl, by decide, by decide⟩⟩ (x_cs.mono B.2.2.2.2.2 (y_mon B hI)) (fun x' y' h1 => by cases h1; exact ⟨_, rfl, fun q => absurd rfl q, fun _ => hno⟩) (Nat.le_refl _) (Nat.le_refl _) pl_d25
    · have q17_ : ¬ r14.toInt = (0 : Int32).toInt := fun q => q17 (Int32.toInt_inj.mp q)
      refine lv_iconst hx hb pl_d20 (v := 1) (by decide) ?_
      have ec1 : (1 : Int32).toInt = 1 := by decide
      refine lv_goto hx hb pl_d21 (tgt := 25) (by decide) ?_
      have hw1 := hin_r4 q7
      have hw2 := hin_r14 q17
      exact y_ireturn B hI rfl rfl rfl (List.mem_cons_of_mem _ List.mem_cons_self) ⟨_, rfl, ⟨_, rfl, by decide, by decide⟩⟩ (z_cs22 ⟨_, rfl, by show (0 : Int) ≤ _; omega, by show _ ≤ (19 : Int); omega⟩ ⟨_, rfl, by show (0 : Int) ≤ _; omega, by show _ ≤ (19 : Int); omega⟩) (fun x' y' h1 => by cases h1; exact ⟨_, rfl, fun _ => ⟨by omega, by omega⟩, fun q => absurd q (by decide)⟩) (Nat.le_refl _) (Nat.le_refl _) pl_d25
theorem tk_d0 : decode xM4.2.1 0 = .ok (.iconst 0, 1) := dz_ok (by decide +kernel)
theorem tk_d1 : decode xM4.2.1 1 = .ok (.istore_n 3, 1) := dz_ok (by decide +kernel)
theorem tk_d2 : decode xM4.2.1 2 = .ok (.iload_n 3, 1) := dz_ok (by decide +kernel)
theorem tk_d3 : decode xM4.2.1 3 = .ok (.aload_n 0, 1) := dz_ok (by decide +kernel)
theorem tk_d4 : decode xM4.2.1 4 = .ok (.getfield 63, 3) := dz_ok (by decide +kernel)
theorem tk_d7 : decode xM4.2.1 7 = .ok (.if_icmp .ge 31, 3) := dz_ok (by decide +kernel)
theorem tk_d10 : decode xM4.2.1 10 = .ok (.aload_n 0, 1) := dz_ok (by decide +kernel)
theorem tk_d11 : decode xM4.2.1 11 = .ok (.getfield 9, 3) := dz_ok (by decide +kernel)
theorem tk_d14 : decode xM4.2.1 14 = .ok (.iload_n 3, 1) := dz_ok (by decide +kernel)
theorem tk_d15 : decode xM4.2.1 15 = .ok (.iaload, 1) := dz_ok (by decide +kernel)
theorem tk_d16 : decode xM4.2.1 16 = .ok (.iload_n 1, 1) := dz_ok (by decide +kernel)
theorem tk_d17 : decode xM4.2.1 17 = .ok (.if_icmp .ne 15, 3) := dz_ok (by decide +kernel)
theorem tk_d20 : decode xM4.2.1 20 = .ok (.aload_n 0, 1) := dz_ok (by decide +kernel)
theorem tk_d21 : decode xM4.2.1 21 = .ok (.getfield 15, 3) := dz_ok (by decide +kernel)
theorem tk_d24 : decode xM4.2.1 24 = .ok (.iload_n 3, 1) := dz_ok (by decide +kernel)
theorem tk_d25 : decode xM4.2.1 25 = .ok (.iaload, 1) := dz_ok (by decide +kernel)
theorem tk_d26 : decode xM4.2.1 26 = .ok (.iload_n 2, 1) := dz_ok (by decide +kernel)
theorem tk_d27 : decode xM4.2.1 27 = .ok (.if_icmp .ne 5, 3) := dz_ok (by decide +kernel)
theorem tk_d30 : decode xM4.2.1 30 = .ok (.iconst 1, 1) := dz_ok (by decide +kernel)
theorem tk_d31 : decode xM4.2.1 31 = .ok (.ireturn, 1) := dz_ok (by decide +kernel)
theorem tk_d32 : decode xM4.2.1 32 = .ok (.iinc 3 1, 3) := dz_ok (by decide +kernel)
theorem tk_d35 : decode xM4.2.1 35 = .ok (.goto (-33), 3) := dz_ok (by decide +kernel)
theorem tk_d38 : decode xM4.2.1 38 = .ok (.iconst 0, 1) := dz_ok (by decide +kernel)
theorem tk_d39 : decode xM4.2.1 39 = .ok (.ireturn, 1) := dz_ok (by decide +kernel)
theorem tk_L2 {p : Program} {l : Launch} {e : Env} {s : State} {m : MethodId} {below : List Frame} {meth : Method} {c : Code} {D : va_G} {U : State} {Y0 : xY} {av : List Value} (B : y_B vwCl x_Tb x_Nb xM4 p s m meth c D U Y0 av) {this ax ay : Nat} {x y : Int32} {f : Nat → Int32} (hav : av = [.ref this, .int x, .int y]) (hL0 : z_L D Y0 this s.heap f) (hd0 : 0 ≤ (f 0).toInt ∧ (f 0).toInt ≤ 10)  :
    ∀ (n : Nat), ∀ (H : Heap) (Y : xY) (locs : List Loc) (ls : Array Slot) (j : Int32), x_I D x_G x_Zs U (x_efs xM4) Y0 s.heap Y H locs → Y this = some 2 → Y ax = some 19 → Y ay = some 20 → x_sl D 2 1 this H = some (.ref ax) → x_sl D 2 2 this H = some (.ref ay) → x_sl D 2 0 this H = some (.int (f 0)) → y_A ax 10 H (fun j => f (10 + 5 * j)) → y_A ay 10 H (fun j => f (11 + 5 * j)) → lv_has ls xM4.2.2.1 [(3, .int j), (0, .ref this), (1, .int x), (2, .int y)] → (0 ≤ j.toInt ∧ j.toInt ≤ (f 0).toInt) → (∀ i : Nat, (i : Int) < j.toInt → ¬ (f (10 + 5 * i) = x ∧ f (11 + 5 * i) = y)) → (11 - j.toInt).toNat < n → W p l e (x_rm xM4) s m av.toArray below meth c H locs 0 0 (y_QQ below D x_G x_Zs U xM4 z_Ptk av Y0 s) (F0 m 2 ls []) := by
  have X := B.1
  have hx := X.1
  have hb := X.2.1
  have hY0 := B.2.2.2.2.1
  intro n
  induction n with
  | zero => intro _ _ _ _ _ _ _ _ _ _ _ _ _ _ _ _ _ h; exact absurd h (Nat.not_lt_zero _)
  | succ n ih =>
    intro H Y locs ls j  hI hY_this hY_ax hY_ay hs_ax hs_ay hsi_hills hA_ax hA_ay hl hj hfr hn
    refine lv_iload_n hx hb tk_d2 rfl (lv_at hl 0 rfl) ?_
    refine lv_aload_n hx hb tk_d3 rfl (lv_at hl 1 rfl) ?_
    refine y_getf X (fl2 X.2.2.2.2.1) hI.1 hY_this rfl hsi_hills tk_d4 ?_
    refine lv_icmp_ge hx hb tk_d7 (tgt := 38) (by decide) (fun q7 => ?_) (fun q7 => ?_)
    · have q7_ : (f 0).toInt ≤ j.toInt := x_le32.mp q7
      refine lv_iconst hx hb tk_d38 (v := 0) (by decide) ?_
      have ec0 : (0 : Int32).toInt = 0 := by decide
      subst hav
      exact y_ireturn B hI rfl rfl rfl (List.mem_cons_of_mem _ List.mem_cons_self) ⟨_, rfl, ⟨_, rfl, by decide, by decide⟩⟩ (x_cs.mono B.2.2.2.2.2 (y_mon B hI)) (fun t' x' y' f' h1 h2 => by cases h1; cases h2.uniq hL0; exact ⟨_, rfl, fun q8 => absurd rfl q8, fun _ i hi => hfr i (by omega)⟩) (Nat.le_refl _) (Nat.le_refl _) tk_d39
    · have q7_ : j.toInt < (f 0).toInt := Int.not_le.mp fun q => q7 (x_le32.mpr q)
      refine lv_aload_n hx hb tk_d10 rfl (lv_at hl 1 rfl) ?_
      refine y_getf X (fl0 X.2.2.2.2.1) hI.1 hY_this rfl hs_ax tk_d11 ?_
      refine lv_iload_n hx hb tk_d14 rfl (lv_at hl 0 rfl) ?_
      refine y_iald X hI.1 hY_ax rfl hA_ax (by omega) (by show _ < (10 : Int); omega) tk_d15 ?_
      obtain ⟨e15, hg_e15⟩ : ∃ e15 : Int32, f (10 + 5 * j.toInt.toNat) = e15 := ⟨_, rfl⟩
      rw [hg_e15]
      refine lv_iload_n hx hb tk_d16 rfl (lv_at hl 2 rfl) ?_
      refine lv_icmp_ne hx hb tk_d17 (tgt := 32) (by decide) (fun q17 => ?_) (fun q17 => ?_)
      · have q17_ : ¬ e15.toInt = x.toInt := fun q => q17 (Int32.toInt_inj.mp q)
        obtain ⟨z32, hg_z32⟩ : ∃ z32 : Int32, j + Int32.ofInt 1 = z32 := ⟨_, rfl⟩
        have h_z32 : z32.toInt = j.toInt + 1 := by rw [← hg_z32]; exact y_inc (by decide) (by omega) (by omega)
        refine lv_iinc hx hb tk_d32 hl (k := 0) rfl hg_z32 (by decide) (lv' := [(3, .int z32), (0, .ref this), (1, .int x), (2, .int y)]) rfl fun ls hl => ?_
        refine lv_goto hx hb tk_d35 (tgt := 2) (by decide) ?_
        exact ih _ _ _ _ _ hI hY_this hY_ax hY_ay hs_ax hs_ay hsi_hills hA_ax hA_ay (lv_sub hl [0, 1, 2, 3] rfl) (by first | assumption | omega) (fun i hi q8 => by by_cases ei : (i : Int) = j.toInt; (have ej : i = j.toInt.toNat := (by omega); subst ej; first | exact q27 (hg_e25.symm.trans q8.2) | exact q17 (hg_e15.symm.trans q8.1)); exact hfr i (by omega) q8) (by omega)
      · have q17_ : e15.toInt = x.toInt := by rw [q17]
        refine lv_aload_n hx hb tk_d20 rfl (lv_at hl 1 rfl) ?_
        refine y_getf X (fl1 X.2.2.2.2.1) hI.1 hY_this rfl hs_ay tk_d21 ?_
        refine lv_iload_n hx hb tk_d24 rfl (lv_at hl 0 rfl) ?_
        refine y_iald X hI.1 hY_ay rfl hA_ay (by omega) (by show _ < (10 : Int); omega) tk_d25 ?_
        obtain ⟨e25, hg_e25⟩ : ∃ e25 : Int32, f (11 + 5 * j.toInt.toNat) = e25 := ⟨_, rfl⟩
        rw [hg_e25]
        refine lv_iload_n hx hb tk_d26 rfl (lv_at hl 3 rfl) ?_
        refine lv_icmp_ne hx hb tk_d27 (tgt := 32) (by decide) (fun q27 => ?_) (fun q27 => ?_)
        · have q27_ : ¬ e25.toInt = y.toInt := fun q => q27 (Int32.toInt_inj.mp q)
          obtain ⟨z32, hg_z32⟩ : ∃ z32 : Int32, j + Int32.ofInt 1 = z32 := ⟨_, rfl⟩
          have h_z32 : z32.toInt = j.toInt + 1 := by rw [← hg_z32]; exact y_inc (by decide) (by omega) (by omega)
          refine lv_iinc hx hb tk_d32 hl (k := 0) rfl hg_z32 (by decide) (lv' := [(3, .int z32), (0, .ref this), (1, .int x), (2, .int y)]) rfl fun ls hl => ?_
          refine lv_goto hx hb tk_d35 (tgt := 2) (by decide) ?_
          exact ih _ _ _ _ _ hI hY_this hY_ax hY_ay hs_ax hs_ay hsi_hills hA_ax hA_ay (lv_sub hl [0, 1, 2, 3] rfl) (by first | assumption | omega) (fun i hi q8 => by by_cases ei : (i : Int) = j.toInt; (have ej : i = j.toInt.toNat := (by omega); subst ej; first | exact q27 (hg_e25.symm.trans q8.2) | exact q17 (hg_e15.symm.trans q8.1)); exact hfr i (by omega) q8) (by omega)
        · have q27_ : e25.toInt = y.toInt := by rw [q27]
          refine lv_iconst hx hb tk_d30 (v := 1) (by decide) ?_
          have ec1 : (1 : Int32).toInt = 1 := by decide
          subst hav
          exact y_ireturn B hI rfl rfl rfl List.mem_cons_self ⟨_, rfl, ⟨_, rfl, by decide, by decide⟩⟩ (x_cs.mono B.2.2.2.2.2 (y_mon B hI)) (fun t' x' y' f' h1 h2 => by cases h1; cases h2.uniq hL0; exact ⟨_, rfl, fun _ q8 => q8 j.toInt.toNat (by omega) ⟨hg_e15.trans q17, hg_e25.trans q27⟩, fun q8 => absurd q8 (by decide)⟩) (Nat.le_refl _) (Nat.le_refl _) tk_d31
theorem ym_isTaken : y_Met vwCl x_G x_Zs x_Tb x_Nb xM4 z_AL z_Ptk := by
  refine y_main (by decide +kernel) (by decide +kernel) x_Tb_good x_Nb_ok ?_
  intro p l e s m below meth c D U Y0 av ls B hI hAL hl
  have X := B.1
  have hx := X.1
  have hb := X.2.1
  have hY0 := B.2.2.2.2.1
  obtain ⟨v0, v1, v2, rfl, hv0, ⟨x, rfl, -⟩, ⟨y, rfl, -⟩⟩ := y_three B.2.2.2.2.2
  obtain ⟨this, t0, rfl, ht0, hY_this⟩ := x_ref_at hv0 rfl
  obtain rfl := List.mem_singleton.mp ht0
  replace hl : lv_has ls xM4.2.2.1 [(0, .ref this), (1, .int x), (2, .int y)] := hl
  obtain ⟨f, hL⟩ := hAL _ rfl
  have hL0 := hL
  have hhi := hL.1.1
  have hF : z_fr D Y0 s.heap s.heap this := fun _ _ _ _ _ _ _ => x_eq.of rfl
  obtain ⟨ax, hs_ax, hY_ax, hA_ax⟩ := hL.2.1 (1, 19, 10, 10, 5) (by decide)
  replace hA_ax : y_A ax 10 s.heap (fun j => f (10 + 5 * j)) := hA_ax
  have hs0_ax := hs_ax
  obtain ⟨ay, hs_ay, hY_ay, hA_ay⟩ := hL.2.1 (2, 20, 10, 11, 5) (by decide)
  replace hA_ay : y_A ay 10 s.heap (fun j => f (11 + 5 * j)) := hA_ay
  have hs0_ay := hs_ay
  have hsi_hills := hhi
  have hs_ax := hs_ax
  have hd0 : 0 ≤ (f 0).toInt ∧ (f 0).toInt ≤ 10 := by
    obtain ⟨x9, e9, b9⟩ := y_fldI (k := 0) hI.1 hY_this rfl rfl
    rw [hhi] at e9
    cases e9
    exact b9
  refine lv_iconst hx hb tk_d0 (v := 0) (by decide) ?_
  have ec0 : (0 : Int32).toInt = 0 := by decide
  refine lv_istore_n hx hb tk_d1 rfl hl (by decide) (lv' := [(3, .int (0 : Int32)), (0, .ref this), (1, .int x), (2, .int y)]) rfl fun ls hl => ?_
  exact tk_L2 B rfl hL0 hd0 12 _ _ _ _ _ hI hY_this hY_ax hY_ay hs_ax hs_ay hsi_hills hA_ax hA_ay (lv_sub hl [0, 1, 2, 3] rfl) (by first | assumption | omega) (fun i hi => absurd hi (by omega)) (by omega)
theorem ah_d0 : decode xM5.2.1 0 = .ok (.iload_n 1, 1) := dz_ok (by decide +kernel)
theorem ah_d1 : decode xM5.2.1 1 = .ok (.iload_n 2, 1) := dz_ok (by decide +kernel)
theorem ah_d2 : decode xM5.2.1 2 = .ok (.invokestatic 79, 3) := dz_ok (by decide +kernel)
theorem ah_d5 : decode xM5.2.1 5 = .ok (.ifCond .eq 22, 3) := dz_ok (by decide +kernel)
theorem ah_d8 : decode xM5.2.1 8 = .ok (.iload_n 3, 1) := dz_ok (by decide +kernel)
theorem ah_d9 : decode xM5.2.1 9 = .ok (.iconst 0, 1) := dz_ok (by decide +kernel)
theorem ah_d10 : decode xM5.2.1 10 = .ok (.bipush 99, 2) := dz_ok (by decide +kernel)
theorem ah_d12 : decode xM5.2.1 12 = .ok (.invokestatic 83, 3) := dz_ok (by decide +kernel)
theorem ah_d15 : decode xM5.2.1 15 = .ok (.ifCond .eq 12, 3) := dz_ok (by decide +kernel)
theorem ah_d18 : decode xM5.2.1 18 = .ok (.aload_n 0, 1) := dz_ok (by decide +kernel)
theorem ah_d19 : decode xM5.2.1 19 = .ok (.iload_n 1, 1) := dz_ok (by decide +kernel)
theorem ah_d20 : decode xM5.2.1 20 = .ok (.iload_n 2, 1) := dz_ok (by decide +kernel)
theorem ah_d21 : decode xM5.2.1 21 = .ok (.invokevirtual 87, 3) := dz_ok (by decide +kernel)
theorem ah_d24 : decode xM5.2.1 24 = .ok (.ifCond .eq 6, 3) := dz_ok (by decide +kernel)
theorem ah_d27 : decode xM5.2.1 27 = .ok (.bipush (-2), 2) := dz_ok (by decide +kernel)
theorem ah_d29 : decode xM5.2.1 29 = .ok (.ireturn, 1) := dz_ok (by decide +kernel)
theorem ah_d30 : decode xM5.2.1 30 = .ok (.aload_n 0, 1) := dz_ok (by decide +kernel)
theorem ah_d31 : decode xM5.2.1 31 = .ok (.getfield 63, 3) := dz_ok (by decide +kernel)
theorem ah_d34 : decode xM5.2.1 34 = .ok (.bipush 10, 2) := dz_ok (by decide +kernel)
theorem ah_d36 : decode xM5.2.1 36 = .ok (.if_icmp .lt 6, 3) := dz_ok (by decide +kernel)
theorem ah_d39 : decode xM5.2.1 39 = .ok (.bipush (-4), 2) := dz_ok (by decide +kernel)
theorem ah_d41 : decode xM5.2.1 41 = .ok (.ireturn, 1) := dz_ok (by decide +kernel)
theorem ah_d42 : decode xM5.2.1 42 = .ok (.aload_n 0, 1) := dz_ok (by decide +kernel)
theorem ah_d43 : decode xM5.2.1 43 = .ok (.getfield 9, 3) := dz_ok (by decide +kernel)
theorem ah_d46 : decode xM5.2.1 46 = .ok (.aload_n 0, 1) := dz_ok (by decide +kernel)
theorem ah_d47 : decode xM5.2.1 47 = .ok (.getfield 63, 3) := dz_ok (by decide +kernel)
theorem ah_d50 : decode xM5.2.1 50 = .ok (.iload_n 1, 1) := dz_ok (by decide +kernel)
theorem ah_d51 : decode xM5.2.1 51 = .ok (.iastore, 1) := dz_ok (by decide +kernel)
theorem ah_d52 : decode xM5.2.1 52 = .ok (.aload_n 0, 1) := dz_ok (by decide +kernel)
theorem ah_d53 : decode xM5.2.1 53 = .ok (.getfield 15, 3) := dz_ok (by decide +kernel)
theorem ah_d56 : decode xM5.2.1 56 = .ok (.aload_n 0, 1) := dz_ok (by decide +kernel)
theorem ah_d57 : decode xM5.2.1 57 = .ok (.getfield 63, 3) := dz_ok (by decide +kernel)
theorem ah_d60 : decode xM5.2.1 60 = .ok (.iload_n 2, 1) := dz_ok (by decide +kernel)
theorem ah_d61 : decode xM5.2.1 61 = .ok (.iastore, 1) := dz_ok (by decide +kernel)
theorem ah_d62 : decode xM5.2.1 62 = .ok (.aload_n 0, 1) := dz_ok (by decide +kernel)
theorem ah_d63 : decode xM5.2.1 63 = .ok (.getfield 18, 3) := dz_ok (by decide +kernel)
theorem ah_d66 : decode xM5.2.1 66 = .ok (.aload_n 0, 1) := dz_ok (by decide +kernel)
theorem ah_d67 : decode xM5.2.1 67 = .ok (.getfield 63, 3) := dz_ok (by decide +kernel)
theorem ah_d70 : decode xM5.2.1 70 = .ok (.iload_n 3, 1) := dz_ok (by decide +kernel)
theorem ah_d71 : decode xM5.2.1 71 = .ok (.iastore, 1) := dz_ok (by decide +kernel)
theorem ah_d72 : decode xM5.2.1 72 = .ok (.aload_n 0, 1) := dz_ok (by decide +kernel)
theorem ah_d73 : decode xM5.2.1 73 = .ok (.getfield 21, 3) := dz_ok (by decide +kernel)
theorem ah_d76 : decode xM5.2.1 76 = .ok (.aload_n 0, 1) := dz_ok (by decide +kernel)
theorem ah_d77 : decode xM5.2.1 77 = .ok (.getfield 63, 3) := dz_ok (by decide +kernel)
theorem ah_d80 : decode xM5.2.1 80 = .ok (.iconst (-1), 1) := dz_ok (by decide +kernel)
theorem ah_d81 : decode xM5.2.1 81 = .ok (.iastore, 1) := dz_ok (by decide +kernel)
theorem ah_d82 : decode xM5.2.1 82 = .ok (.aload_n 0, 1) := dz_ok (by decide +kernel)
theorem ah_d83 : decode xM5.2.1 83 = .ok (.getfield 24, 3) := dz_ok (by decide +kernel)
theorem ah_d86 : decode xM5.2.1 86 = .ok (.aload_n 0, 1) := dz_ok (by decide +kernel)
theorem ah_d87 : decode xM5.2.1 87 = .ok (.getfield 63, 3) := dz_ok (by decide +kernel)
theorem ah_d90 : decode xM5.2.1 90 = .ok (.iconst 1, 1) := dz_ok (by decide +kernel)
theorem ah_d91 : decode xM5.2.1 91 = .ok (.iastore, 1) := dz_ok (by decide +kernel)
theorem ah_d92 : decode xM5.2.1 92 = .ok (.aload_n 0, 1) := dz_ok (by decide +kernel)
theorem ah_d93 : decode xM5.2.1 93 = .ok (.dup, 1) := dz_ok (by decide +kernel)
theorem ah_d94 : decode xM5.2.1 94 = .ok (.getfield 63, 3) := dz_ok (by decide +kernel)
theorem ah_d97 : decode xM5.2.1 97 = .ok (.iconst 1, 1) := dz_ok (by decide +kernel)
theorem ah_d98 : decode xM5.2.1 98 = .ok (.iadd, 1) := dz_ok (by decide +kernel)
theorem ah_d99 : decode xM5.2.1 99 = .ok (.putfield 63, 3) := dz_ok (by decide +kernel)
theorem ah_d102 : decode xM5.2.1 102 = .ok (.aload_n 0, 1) := dz_ok (by decide +kernel)
theorem ah_d103 : decode xM5.2.1 103 = .ok (.getfield 63, 3) := dz_ok (by decide +kernel)
theorem ah_d106 : decode xM5.2.1 106 = .ok (.iconst 1, 1) := dz_ok (by decide +kernel)
theorem ah_d107 : decode xM5.2.1 107 = .ok (.isub, 1) := dz_ok (by decide +kernel)
theorem ah_d108 : decode xM5.2.1 108 = .ok (.ireturn, 1) := dz_ok (by decide +kernel)
theorem ym_addHill : y_Met vwCl x_G x_Zs x_Tb x_Nb xM5 z_AL z_Pah := by
  refine y_main (by decide +kernel) (by decide +kernel) x_Tb_good x_Nb_ok ?_
  intro p l e s m below meth c D U Y0 av ls B hI hAL hl
  have X := B.1
  have hx := X.1
  have hb := X.2.1
  have hY0 := B.2.2.2.2.1
  obtain ⟨v0, v1, v2, v3, rfl, hv0, ⟨x, rfl, -⟩, ⟨y, rfl, -⟩, ⟨h, rfl, -⟩⟩ := y_four B.2.2.2.2.2
  obtain ⟨this, t0, rfl, ht0, hY_this⟩ := x_ref_at hv0 rfl
  obtain rfl := List.mem_singleton.mp ht0
  replace hl : lv_has ls xM5.2.2.1 [(0, .ref this), (1, .int x), (2, .int y), (3, .int h)] := hl
  obtain ⟨f, hL⟩ := hAL _ rfl
  have hL0 := hL
  have hhi := hL.1.1
  have hF : z_fr D Y0 s.heap s.heap this := fun _ _ _ _ _ _ _ => x_eq.of rfl
  obtain ⟨ax, hs_ax, hY_ax, hA_ax⟩ := hL.2.1 (1, 19, 10, 10, 5) (by decide)
  replace hA_ax : y_A ax 10 s.heap (fun j => f (10 + 5 * j)) := hA_ax
  have hs0_ax := hs_ax
  obtain ⟨ay, hs_ay, hY_ay, hA_ay⟩ := hL.2.1 (2, 20, 10, 11, 5) (by decide)
  replace hA_ay : y_A ay 10 s.heap (fun j => f (11 + 5 * j)) := hA_ay
  have hs0_ay := hs_ay
  obtain ⟨aheight, hs_aheight, hY_aheight, hA_aheight⟩ := hL.2.1 (3, 21, 10, 12, 5) (by decide)
  replace hA_aheight : y_A aheight 10 s.heap (fun j => f (12 + 5 * j)) := hA_aheight
  have hs0_aheight := hs_aheight
  obtain ⟨areport, hs_areport, hY_areport, hA_areport⟩ := hL.2.1 (4, 22, 10, 13, 5) (by decide)
  replace hA_areport : y_A areport 10 s.heap (fun j => f (13 + 5 * j)) := hA_areport
  have hs0_areport := hs_areport
  obtain ⟨ablame, hs_ablame, hY_ablame, hA_ablame⟩ := hL.2.1 (5, 23, 10, 14, 5) (by decide)
  replace hA_ablame : y_A ablame 10 s.heap (fun j => f (14 + 5 * j)) := hA_ablame
  have hs0_ablame := hs_ablame
  have hd0 : 0 ≤ (f 0).toInt ∧ (f 0).toInt ≤ 10 := by
    obtain ⟨x9, e9, b9⟩ := y_fldI (k := 0) hI.1 hY_this rfl rfl
    rw [hhi] at e9
    cases e9
    exact b9
  refine lv_iload_n hx hb ah_d0 rfl (lv_at hl 1 rfl) ?_
  refine lv_iload_n hx hb ah_d1 rfl (lv_at hl 2 rfl) ?_
  refine y_call (z := (1, 79, 2, none, xM2)) (av := [.int x, .int y]) (rest := []) (y_cokS (n := 2) X ym_isPlace (x_cons (x_bw18 13 rfl rfl) (x_cons (x_bw18 14 rfl rfl) (x_cons (x_bw0 2 rfl rfl) x_nilm))) (x_bw18 15 rfl rfl) (by decide +kernel) ⟨Nat.le_of_ble_eq_true rfl, Nat.le_of_ble_eq_true rfl⟩) hY0 hI rfl ah_d2 hl.1 (Nat.le_of_ble_eq_true rfl) (Nat.le_of_ble_eq_true rfl) (Nat.le_of_ble_eq_true rfl) (y_cons ⟨_, rfl, x_i32 _⟩ (y_cons ⟨_, rfl, x_i32 _⟩ y_nil)) rfl (y_norecv rfl) trivial (y_sub_ef rfl) fun v Yn o Hn L ho hr ha hIn hx_ hE hP => ?_
  replace hhi := y_Efld hE hY_this rfl (by decide) (by decide) hhi
  replace hs_ax := y_Efld hE hY_this rfl (by decide) (by decide) hs_ax
  replace hs_ay := y_Efld hE hY_this rfl (by decide) (by decide) hs_ay
  replace hs_aheight := y_Efld hE hY_this rfl (by decide) (by decide) hs_aheight
  replace hs_areport := y_Efld hE hY_this rfl (by decide) (by decide) hs_areport
  replace hs_ablame := y_Efld hE hY_this rfl (by decide) (by decide) hs_ablame
  replace hA_ax := hA_ax.kept (y_Earr hE hY_ax rfl (by decide))
  replace hA_ay := hA_ay.kept (y_Earr hE hY_ay rfl (by decide))
  replace hA_aheight := hA_aheight.kept (y_Earr hE hY_aheight rfl (by decide))
  replace hA_areport := hA_areport.kept (y_Earr hE hY_areport rfl (by decide))
  replace hA_ablame := hA_ablame.kept (y_Earr hE hY_ablame rfl (by decide))
  replace hL := hL.E hY_this hE (fun q u h => y_ext hx_ hI.1 h) (by decide +kernel)
  replace hF := fun b u g9 (hb : Y0 b = some u) (hg9 : x_G[u]? = some g9) (hn : b ≠ this) (hk9 : ∀ k, k < 16 → x_sl D 2 k this s.heap ≠ some (.ref b)) => x_eq.trans (x_eq.E hE (y_mon B hI _ _ hb) hg9 rfl) (hF b u g9 hb hg9 hn hk9)
  replace hY_this := y_ext hx_ hI.1 hY_this
  replace hY_ax := y_ext hx_ hI.1 hY_ax
  replace hY_ay := y_ext hx_ hI.1 hY_ay
  replace hY_aheight := y_ext hx_ hI.1 hY_aheight
  replace hY_areport := y_ext hx_ hI.1 hY_areport
  replace hY_ablame := y_ext hx_ hI.1 hY_ablame
  obtain ⟨r2, rfl, hin_r2, hout_r2⟩ := hP _ _ rfl
  clear ho hr ha hE hP hI hx_
  rename x_I _ _ _ _ _ _ _ _ _ _ => hI
  have ec0 : (0 : Int32).toInt = 0 := by decide
  refine lv_if_eq hx hb ah_d5 (tgt := 27) (by decide) (fun q5 => ?_) (fun q5 => ?_)
  · have q5_ : r2.toInt = (0 : Int32).toInt := by rw [q5]
    have hno : ¬ m_hOk f x y h := fun q9 => by obtain ⟨⟨a1, a2, a3⟩, a4⟩ := q9; first | exact hin_r21 (by assumption) a4 | (have := hout_r12 (by assumption); omega) | (exact hout_r2 (by assumption) ⟨a1, a2⟩)
    refine lv_bipush hx hb ah_d27 (v := (-2)) (by decide) ?_
    have ecm2 : ((-2) : Int32).toInt = (-2) := by decide
    exact y_ireturn B hI rfl rfl rfl List.mem_cons_self ⟨_, rfl, ⟨_, rfl, by decide, by decide⟩⟩ (x_cs.mono B.2.2.2.2.2 (y_mon B hI)) (fun t' x' y' h' f' h1 h2 => by cases h1; cases h2.uniq hL0; exact ⟨hF, _, _, rfl, hL, fun _ => ⟨rfl, rfl⟩, fun q9 => absurd q9 hno, fun q9 => absurd q9 hno⟩) (Nat.le_refl _) (Nat.le_refl _) ah_d29
  · have q5_ : ¬ r2.toInt = (0 : Int32).toInt := fun q => q5 (Int32.toInt_inj.mp q)
    refine lv_iload_n hx hb ah_d8 rfl (lv_at hl 3 rfl) ?_
    refine lv_iconst hx hb ah_d9 (v := 0) (by decide) ?_
    refine lv_bipush hx hb ah_d10 (v := 99) (by decide) ?_
    have ec99 : (99 : Int32).toInt = 99 := by decide
    refine y_call (z := (1, 83, 3, none, xM10)) (av := [.int h, .int (0 : Int32), .int (99 : Int32)]) (rest := []) (y_cokSN (n := 3) (host := "TwinFires") X ym_within (x_cons (x_bw19 1 rfl rfl) (x_cons (x_bw0 1 rfl rfl) x_nilm)) (x_bn19 0 rfl rfl) (x_bw19 2 rfl rfl) (by decide +kernel) ⟨Nat.le_of_ble_eq_true rfl, Nat.le_of_ble_eq_true rfl⟩) hY0 hI rfl ah_d12 hl.1 (Nat.le_of_ble_eq_true rfl) (Nat.le_of_ble_eq_true rfl) (Nat.le_of_ble_eq_true rfl) (y_cons ⟨_, rfl, x_i32 _⟩ (y_cons ⟨_, rfl, x_i32 _⟩ (y_cons ⟨_, rfl, x_i32 _⟩ y_nil))) rfl (y_norecv rfl) trivial (y_sub_ef rfl) fun v Yn o Hn L ho hr ha hIn hx_ hE hP => ?_
    replace hhi := y_Efld hE hY_this rfl (by decide) (by decide) hhi
    replace hs_ax := y_Efld hE hY_this rfl (by decide) (by decide) hs_ax
    replace hs_ay := y_Efld hE hY_this rfl (by decide) (by decide) hs_ay
    replace hs_aheight := y_Efld hE hY_this rfl (by decide) (by decide) hs_aheight
    replace hs_areport := y_Efld hE hY_this rfl (by decide) (by decide) hs_areport
    replace hs_ablame := y_Efld hE hY_this rfl (by decide) (by decide) hs_ablame
    replace hA_ax := hA_ax.kept (y_Earr hE hY_ax rfl (by decide))
    replace hA_ay := hA_ay.kept (y_Earr hE hY_ay rfl (by decide))
    replace hA_aheight := hA_aheight.kept (y_Earr hE hY_aheight rfl (by decide))
    replace hA_areport := hA_areport.kept (y_Earr hE hY_areport rfl (by decide))
    replace hA_ablame := hA_ablame.kept (y_Earr hE hY_ablame rfl (by decide))
    replace hL := hL.E hY_this hE (fun q u h => y_ext hx_ hI.1 h) (by decide +kernel)
    replace hF := fun b u g9 (hb : Y0 b = some u) (hg9 : x_G[u]? = some g9) (hn : b ≠ this) (hk9 : ∀ k, k < 16 → x_sl D 2 k this s.heap ≠ some (.ref b)) => x_eq.trans (x_eq.E hE (y_mon B hI _ _ hb) hg9 rfl) (hF b u g9 hb hg9 hn hk9)
    replace hY_this := y_ext hx_ hI.1 hY_this
    replace hY_ax := y_ext hx_ hI.1 hY_ax
    replace hY_ay := y_ext hx_ hI.1 hY_ay
    replace hY_aheight := y_ext hx_ hI.1 hY_aheight
    replace hY_areport := y_ext hx_ hI.1 hY_areport
    replace hY_ablame := y_ext hx_ hI.1 hY_ablame
    obtain ⟨r12, rfl, hin_r12, hout_r12⟩ := hP _ _ _ rfl
    clear ho hr ha hE hP hI hx_
    rename x_I _ _ _ _ _ _ _ _ _ _ => hI
    refine lv_if_eq hx hb ah_d15 (tgt := 27) (by decide) (fun q15 => ?_) (fun q15 => ?_)
    · have q15_ : r12.toInt = (0 : Int32).toInt := by rw [q15]
      have hno : ¬ m_hOk f x y h := fun q9 => by obtain ⟨⟨a1, a2, a3⟩, a4⟩ := q9; first | exact hin_r21 (by assumption) a4 | (have := hout_r12 (by assumption); omega) | (exact hout_r2 (by assumption) ⟨a1, a2⟩)
      refine lv_bipush hx hb ah_d27 (v := (-2)) (by decide) ?_
      have ecm2 : ((-2) : Int32).toInt = (-2) := by decide
      exact y_ireturn B hI rfl rfl rfl List.mem_cons_self ⟨_, rfl, ⟨_, rfl, by decide, by decide⟩⟩ (x_cs.mono B.2.2.2.2.2 (y_mon B hI)) (fun t' x' y' h' f' h1 h2 => by cases h1; cases h2.uniq hL0; exact ⟨hF, _, _, rfl, hL, fun _ => ⟨rfl, rfl⟩, fun q9 => absurd q9 hno, fun q9 => absurd q9 hno⟩) (Nat.le_refl _) (Nat.le_refl _) ah_d29
    · have q15_ : ¬ r12.toInt = (0 : Int32).toInt := fun q => q15 (Int32.toInt_inj.mp q)
      refine lv_aload_n hx hb ah_d18 rfl (lv_at hl 0 rfl) ?_
      refine lv_iload_n hx hb ah_d19 rfl (lv_at hl 1 rfl) ?_
      refine lv_iload_n hx hb ah_d20 rfl (lv_at hl 2 rfl) ?_
      refine y_call (z := (0, 87, 3, some 2, xM4)) (av := [.ref this, .int x, .int y]) (rest := []) (y_cokV (n := 2) (ci := 2) X ym_isTaken rfl rfl rfl (x_cons (x_bw19 3 rfl rfl) (x_cons (x_bw19 5 rfl rfl) (x_cons (x_at 0 (by decide +kernel) rfl) (x_cons (x_bw0 2 rfl rfl) x_nilm)))) (x_bw19 6 rfl rfl) (by decide +kernel) ⟨Nat.le_of_ble_eq_true rfl, Nat.le_of_ble_eq_true rfl⟩) hY0 hI rfl ah_d21 hl.1 (Nat.le_of_ble_eq_true rfl) (Nat.le_of_ble_eq_true rfl) (Nat.le_of_ble_eq_true rfl) (y_cons (y_cref hY_this rfl) (y_cons ⟨_, rfl, x_i32 _⟩ (y_cons ⟨_, rfl, x_i32 _⟩ y_nil))) rfl (y_recv rfl hY_this) (fun t' h1 => by cases h1; exact ⟨_, hL⟩) (y_sub_ef rfl) fun v Yn o Hn L ho hr ha hIn hx_ hE hP => ?_
      have hPt := hP _ _ _ _ rfl hL
      replace hhi := y_Efld hE hY_this rfl (by decide) (by decide) hhi
      replace hs_ax := y_Efld hE hY_this rfl (by decide) (by decide) hs_ax
      replace hs_ay := y_Efld hE hY_this rfl (by decide) (by decide) hs_ay
      replace hs_aheight := y_Efld hE hY_this rfl (by decide) (by decide) hs_aheight
      replace hs_areport := y_Efld hE hY_this rfl (by decide) (by decide) hs_areport
      replace hs_ablame := y_Efld hE hY_this rfl (by decide) (by decide) hs_ablame
      replace hA_ax := hA_ax.kept (y_Earr hE hY_ax rfl (by decide))
      replace hA_ay := hA_ay.kept (y_Earr hE hY_ay rfl (by decide))
      replace hA_aheight := hA_aheight.kept (y_Earr hE hY_aheight rfl (by decide))
      replace hA_areport := hA_areport.kept (y_Earr hE hY_areport rfl (by decide))
      replace hA_ablame := hA_ablame.kept (y_Earr hE hY_ablame rfl (by decide))
      replace hL := hL.E hY_this hE (fun q u h => y_ext hx_ hI.1 h) (by decide +kernel)
      replace hF := fun b u g9 (hb : Y0 b = some u) (hg9 : x_G[u]? = some g9) (hn : b ≠ this) (hk9 : ∀ k, k < 16 → x_sl D 2 k this s.heap ≠ some (.ref b)) => x_eq.trans (x_eq.E hE (y_mon B hI _ _ hb) hg9 rfl) (hF b u g9 hb hg9 hn hk9)
      replace hY_this := y_ext hx_ hI.1 hY_this
      replace hY_ax := y_ext hx_ hI.1 hY_ax
      replace hY_ay := y_ext hx_ hI.1 hY_ay
      replace hY_aheight := y_ext hx_ hI.1 hY_aheight
      replace hY_areport := y_ext hx_ hI.1 hY_areport
      replace hY_ablame := y_ext hx_ hI.1 hY_ablame
      obtain ⟨r21, rfl, hin_r21, hout_r21⟩ := hPt
      clear ho hr ha hE hP hI hx_
      rename x_I _ _ _ _ _ _ _ _ _ _ => hI
      refine lv_if_eq hx hb ah_d24 (tgt := 30) (by decide) (fun q24 => ?_) (fun q24 => ?_)
      · have q24_ : r21.toInt = (0 : Int32).toInt := by rw [q24]
        have hw1 := hin_r2 (by assumption)
        have hw2 := hin_r12 (by assumption)
        have hw3 := hout_r21 (by assumption)
        have hok : m_hOk f x y h := ⟨⟨hw1.1, hw1.2, by omega⟩, hw3⟩
        refine lv_aload_n hx hb ah_d30 rfl (lv_at hl 0 rfl) ?_
        refine y_getf X (fl2 X.2.2.2.2.1) hI.1 hY_this rfl hhi ah_d31 ?_
        refine lv_bipush hx hb ah_d34 (v := 10) (by decide) ?_
        have ec10 : (10 : Int32).toInt = 10 := by decide
        refine lv_icmp_lt hx hb ah_d36 (tgt := 42) (by decide) (fun q36 => ?_) (fun q36 => ?_)
        · have q36_ : (f 0).toInt < (10 : Int32).toInt := x_lt32.mp q36
          refine lv_aload_n hx hb ah_d42 rfl (lv_at hl 0 rfl) ?_
          refine y_getf X (fl0 X.2.2.2.2.1) hI.1 hY_this rfl hs_ax ah_d43 ?_
          refine lv_aload_n hx hb ah_d46 rfl (lv_at hl 0 rfl) ?_
          refine y_getf X (fl2 X.2.2.2.2.1) hI.1 hY_this rfl hhi ah_d47 ?_
          refine lv_iload_n hx hb ah_d50 rfl (lv_at hl 1 rfl) ?_
          have hs_old := hs_ax
          have hA_old := hA_ax
          refine y_iast X hY0 hI hY_ax rfl hA_ax (by omega) (by show _ < (10 : Int); omega) ⟨_, rfl, x_i32 _⟩ (by decide +kernel) ah_d51 fun H locs hI h_new ho => ?_
          replace hA_ax := h_new
          generalize hf_f51 : y_up (fun j => f (10 + 5 * j)) (f 0).toInt.toNat x = f51 at hA_ax
          replace hhi := y_slk hhi (ho _ (y_ne hY_this hY_ax rfl))
          replace hs_ax := y_slk hs_ax (ho _ (y_ne hY_this hY_ax rfl))
          replace hs_ay := y_slk hs_ay (ho _ (y_ne hY_this hY_ax rfl))
          replace hs_aheight := y_slk hs_aheight (ho _ (y_ne hY_this hY_ax rfl))
          replace hs_areport := y_slk hs_areport (ho _ (y_ne hY_this hY_ax rfl))
          replace hs_ablame := y_slk hs_ablame (ho _ (y_ne hY_this hY_ax rfl))
          replace hA_ay := hA_ay.kept (ho _ (y_ne hY_ay hY_ax rfl))
          replace hA_aheight := hA_aheight.kept (ho _ (y_ne hY_aheight hY_ax rfl))
          replace hA_areport := hA_areport.kept (ho _ (y_ne hY_areport hY_ax rfl))
          replace hA_ablame := hA_ablame.kept (ho _ (y_ne hY_ablame hY_ax rfl))
          replace hL := hL.putA (c := (1, 19, 10, 10, 5)) (N := 10) hY_this (by decide) rfl (by omega) hs_old hA_old h_new ho
          replace hF := fun b u g9 (hb : Y0 b = some u) (hg9 : x_G[u]? = some g9) (hn : b ≠ this) (hk9 : ∀ k, k < 16 → x_sl D 2 k this s.heap ≠ some (.ref b)) => x_eq.trans (x_eq.of (ho b (fun e0 => hk9 1 (by decide) (by rw [e0]; exact hs0_ax)))) (hF b u g9 hb hg9 hn hk9)
          refine lv_aload_n hx hb ah_d52 rfl (lv_at hl 0 rfl) ?_
          refine y_getf X (fl1 X.2.2.2.2.1) hI.1 hY_this rfl hs_ay ah_d53 ?_
          refine lv_aload_n hx hb ah_d56 rfl (lv_at hl 0 rfl) ?_
          refine y_getf X (fl2 X.2.2.2.2.1) hI.1 hY_this rfl hhi ah_d57 ?_
          refine lv_iload_n hx hb ah_d60 rfl (lv_at hl 2 rfl) ?_
          have hs_old := hs_ay
          have hA_old := hA_ay
          refine y_iast X hY0 hI hY_ay rfl hA_ay (by omega) (by show _ < (10 : Int); omega) ⟨_, rfl, x_i32 _⟩ (by decide +kernel) ah_d61 fun H locs hI h_new ho => ?_
          replace hA_ay := h_new
          generalize hf_f61 : y_up (fun j => f (11 + 5 * j)) (f 0).toInt.toNat y = f61 at hA_ay
          replace hhi := y_slk hhi (ho _ (y_ne hY_this hY_ay rfl))
          replace hs_ax := y_slk hs_ax (ho _ (y_ne hY_this hY_ay rfl))
          replace hs_ay := y_slk hs_ay (ho _ (y_ne hY_this hY_ay rfl))
          replace hs_aheight := y_slk hs_aheight (ho _ (y_ne hY_this hY_ay rfl))
          replace hs_areport := y_slk hs_areport (ho _ (y_ne hY_this hY_ay rfl))
          replace hs_ablame := y_slk hs_ablame (ho _ (y_ne hY_this hY_ay rfl))
          replace hA_ax := hA_ax.kept (ho _ (y_ne hY_ax hY_ay rfl))
          replace hA_aheight := hA_aheight.kept (ho _ (y_ne hY_aheight hY_ay rfl))
          replace hA_areport := hA_areport.kept (ho _ (y_ne hY_areport hY_ay rfl))
          replace hA_ablame := hA_ablame.kept (ho _ (y_ne hY_ablame hY_ay rfl))
          replace hL := hL.putA (c := (2, 20, 10, 11, 5)) (N := 10) hY_this (by decide) rfl (by omega) hs_old hA_old h_new ho
          replace hF := fun b u g9 (hb : Y0 b = some u) (hg9 : x_G[u]? = some g9) (hn : b ≠ this) (hk9 : ∀ k, k < 16 → x_sl D 2 k this s.heap ≠ some (.ref b)) => x_eq.trans (x_eq.of (ho b (fun e0 => hk9 2 (by decide) (by rw [e0]; exact hs0_ay)))) (hF b u g9 hb hg9 hn hk9)
          refine lv_aload_n hx hb ah_d62 rfl (lv_at hl 0 rfl) ?_
          refine y_getf X (fl3 X.2.2.2.2.1) hI.1 hY_this rfl hs_aheight ah_d63 ?_
          refine lv_aload_n hx hb ah_d66 rfl (lv_at hl 0 rfl) ?_
          refine y_getf X (fl2 X.2.2.2.2.1) hI.1 hY_this rfl hhi ah_d67 ?_
          refine lv_iload_n hx hb ah_d70 rfl (lv_at hl 3 rfl) ?_
          have hs_old := hs_aheight
          have hA_old := hA_aheight
          refine y_iast X hY0 hI hY_aheight rfl hA_aheight (by omega) (by show _ < (10 : Int); omega) ⟨_, rfl, x_i32 _⟩ (by decide +kernel) ah_d71 fun H locs hI h_new ho => ?_
          replace hA_aheight := h_new
          generalize hf_f71 : y_up (fun j => f (12 + 5 * j)) (f 0).toInt.toNat h = f71 at hA_aheight
          replace hhi := y_slk hhi (ho _ (y_ne hY_this hY_aheight rfl))
          replace hs_ax := y_slk hs_ax (ho _ (y_ne hY_this hY_aheight rfl))
          replace hs_ay := y_slk hs_ay (ho _ (y_ne hY_this hY_aheight rfl))
          replace hs_aheight := y_slk hs_aheight (ho _ (y_ne hY_this hY_aheight rfl))
          replace hs_areport := y_slk hs_areport (ho _ (y_ne hY_this hY_aheight rfl))
          replace hs_ablame := y_slk hs_ablame (ho _ (y_ne hY_this hY_aheight rfl))
          replace hA_ax := hA_ax.kept (ho _ (y_ne hY_ax hY_aheight rfl))
          replace hA_ay := hA_ay.kept (ho _ (y_ne hY_ay hY_aheight rfl))
          replace hA_areport := hA_areport.kept (ho _ (y_ne hY_areport hY_aheight rfl))
          replace hA_ablame := hA_ablame.kept (ho _ (y_ne hY_ablame hY_aheight rfl))
          replace hL := hL.putA (c := (3, 21, 10, 12, 5)) (N := 10) hY_this (by decide) rfl (by omega) hs_old hA_old h_new ho
          replace hF := fun b u g9 (hb : Y0 b = some u) (hg9 : x_G[u]? = some g9) (hn : b ≠ this) (hk9 : ∀ k, k < 16 → x_sl D 2 k this s.heap ≠ some (.ref b)) => x_eq.trans (x_eq.of (ho b (fun e0 => hk9 3 (by decide) (by rw [e0]; exact hs0_aheight)))) (hF b u g9 hb hg9 hn hk9)
          refine lv_aload_n hx hb ah_d72 rfl (lv_at hl 0 rfl) ?_
          refine y_getf X (fl4 X.2.2.2.2.1) hI.1 hY_this rfl hs_areport ah_d73 ?_
          refine lv_aload_n hx hb ah_d76 rfl (lv_at hl 0 rfl) ?_
          refine y_getf X (fl2 X.2.2.2.2.1) hI.1 hY_this rfl hhi ah_d77 ?_
          refine lv_iconst hx hb ah_d80 (v := (-1)) (by decide) ?_
          have ecm1 : ((-1) : Int32).toInt = (-1) := by decide
          have hs_old := hs_areport
          have hA_old := hA_areport
          refine y_iast X hY0 hI hY_areport rfl hA_areport (by omega) (by show _ < (10 : Int); omega) ⟨_, rfl, x_i32 _⟩ (by decide +kernel) ah_d81 fun H locs hI h_new ho => ?_
          replace hA_areport := h_new
          generalize hf_f81 : y_up (fun j => f (13 + 5 * j)) (f 0).toInt.toNat ((-1) : Int32) = f81 at hA_areport
          replace hhi := y_slk hhi (ho _ (y_ne hY_this hY_areport rfl))
          replace hs_ax := y_slk hs_ax (ho _ (y_ne hY_this hY_areport rfl))
          replace hs_ay := y_slk hs_ay (ho _ (y_ne hY_this hY_areport rfl))
          replace hs_aheight := y_slk hs_aheight (ho _ (y_ne hY_this hY_areport rfl))
          replace hs_areport := y_slk hs_areport (ho _ (y_ne hY_this hY_areport rfl))
          replace hs_ablame := y_slk hs_ablame (ho _ (y_ne hY_this hY_areport rfl))
          replace hA_ax := hA_ax.kept (ho _ (y_ne hY_ax hY_areport rfl))
          replace hA_ay := hA_ay.kept (ho _ (y_ne hY_ay hY_areport rfl))
          replace hA_aheight := hA_aheight.kept (ho _ (y_ne hY_aheight hY_areport rfl))
          replace hA_ablame := hA_ablame.kept (ho _ (y_ne hY_ablame hY_areport rfl))
          replace hL := hL.putA (c := (4, 22, 10, 13, 5)) (N := 10) hY_this (by decide) rfl (by omega) hs_old hA_old h_new ho
          replace hF := fun b u g9 (hb : Y0 b = some u) (hg9 : x_G[u]? = some g9) (hn : b ≠ this) (hk9 : ∀ k, k < 16 → x_sl D 2 k this s.heap ≠ some (.ref b)) => x_eq.trans (x_eq.of (ho b (fun e0 => hk9 4 (by decide) (by rw [e0]; exact hs0_areport)))) (hF b u g9 hb hg9 hn hk9)
          refine lv_aload_n hx hb ah_d82 rfl (lv_at hl 0 rfl) ?_
          refine y_getf X (fl5 X.2.2.2.2.1) hI.1 hY_this rfl hs_ablame ah_d83 ?_
          refine lv_aload_n hx hb ah_d86 rfl (lv_at hl 0 rfl) ?_
          refine y_getf X (fl2 X.2.2.2.2.1) hI.1 hY_this rfl hhi ah_d87 ?_
          refine lv_iconst hx hb ah_d90 (v := 1) (by decide) ?_
          have ec1 : (1 : Int32).toInt = 1 := by decide
          have hs_old := hs_ablame
          have hA_old := hA_ablame
          refine y_iast X hY0 hI hY_ablame rfl hA_ablame (by omega) (by show _ < (10 : Int); omega) ⟨_, rfl, x_i32 _⟩ (by decide +kernel) ah_d91 fun H locs hI h_new ho => ?_
          replace hA_ablame := h_new
          generalize hf_f91 : y_up (fun j => f (14 + 5 * j)) (f 0).toInt.toNat (1 : Int32) = f91 at hA_ablame
          replace hhi := y_slk hhi (ho _ (y_ne hY_this hY_ablame rfl))
          replace hs_ax := y_slk hs_ax (ho _ (y_ne hY_this hY_ablame rfl))
          replace hs_ay := y_slk hs_ay (ho _ (y_ne hY_this hY_ablame rfl))
          replace hs_aheight := y_slk hs_aheight (ho _ (y_ne hY_this hY_ablame rfl))
          replace hs_areport := y_slk hs_areport (ho _ (y_ne hY_this hY_ablame rfl))
          replace hs_ablame := y_slk hs_ablame (ho _ (y_ne hY_this hY_ablame rfl))
          replace hA_ax := hA_ax.kept (ho _ (y_ne hY_ax hY_ablame rfl))
          replace hA_ay := hA_ay.kept (ho _ (y_ne hY_ay hY_ablame rfl))
          replace hA_aheight := hA_aheight.kept (ho _ (y_ne hY_aheight hY_ablame rfl))
          replace hA_areport := hA_areport.kept (ho _ (y_ne hY_areport hY_ablame rfl))
          replace hL := hL.putA (c := (5, 23, 10, 14, 5)) (N := 10) hY_this (by decide) rfl (by omega) hs_old hA_old h_new ho
          replace hF := fun b u g9 (hb : Y0 b = some u) (hg9 : x_G[u]? = some g9) (hn : b ≠ this) (hk9 : ∀ k, k < 16 → x_sl D 2 k this s.heap ≠ some (.ref b)) => x_eq.trans (x_eq.of (ho b (fun e0 => hk9 5 (by decide) (by rw [e0]; exact hs0_ablame)))) (hF b u g9 hb hg9 hn hk9)
          refine lv_aload_n hx hb ah_d92 rfl (lv_at hl 0 rfl) ?_
          refine lv_dup hx hb ah_d93 rfl ?_
          refine y_getf X (fl2 X.2.2.2.2.1) hI.1 hY_this rfl hhi ah_d94 ?_
          refine lv_iconst hx hb ah_d97 (v := 1) (by decide) ?_
          refine lv_iadd hx hb ah_d98 ?_
          generalize hg_z98 : (f 0) + (1 : Int32) = z98
          have h_z98 : z98.toInt = (f 0).toInt + 1 := by rw [← hg_z98]; have := y_add (x := (f 0)) (y := (1 : Int32)) (by rw [ec1]; omega) (by rw [ec1]; omega); rw [ec1] at this; exact this
          refine y_putf X (fw6 X.2.2.2.2.1) hY0 hI hY_this rfl rfl ⟨_, rfl, by show (0 : Int) ≤ _; omega, by show _ ≤ (10 : Int); omega⟩ (by decide +kernel) ah_d99 fun H sl hI ho hs hk => ?_
          replace hs_ax := hk _ _ (by decide +kernel) (by decide) hs_ax
          replace hs_ay := hk _ _ (by decide +kernel) (by decide) hs_ay
          replace hs_aheight := hk _ _ (by decide +kernel) (by decide) hs_aheight
          replace hs_areport := hk _ _ (by decide +kernel) (by decide) hs_areport
          replace hs_ablame := hk _ _ (by decide +kernel) (by decide) hs_ablame
          replace hA_ax := hA_ax.kept (ho _ (y_ne hY_ax hY_this rfl))
          replace hA_ay := hA_ay.kept (ho _ (y_ne hY_ay hY_this rfl))
          replace hA_aheight := hA_aheight.kept (ho _ (y_ne hY_aheight hY_this rfl))
          replace hA_areport := hA_areport.kept (ho _ (y_ne hY_areport hY_this rfl))
          replace hA_ablame := hA_ablame.kept (ho _ (y_ne hY_ablame hY_this rfl))
          replace hL := hL.puti (k := 0) (p := 0) hY_this (by decide) hs (fun i hi hn => hk i _ hi hn rfl) ho
          replace hF := fun b u g9 (hb : Y0 b = some u) (hg9 : x_G[u]? = some g9) (hn : b ≠ this) (hk9 : ∀ k, k < 16 → x_sl D 2 k this s.heap ≠ some (.ref b)) => x_eq.trans (x_eq.of (ho b hn)) (hF b u g9 hb hg9 hn hk9)
          replace hs := hs
          replace hhi := hs
          refine lv_aload_n hx hb ah_d102 rfl (lv_at hl 0 rfl) ?_
          refine y_getf X (fl2 X.2.2.2.2.1) hI.1 hY_this rfl hhi ah_d103 ?_
          refine lv_iconst hx hb ah_d106 (v := 1) (by decide) ?_
          refine lv_isub hx hb ah_d107 ?_
          generalize hg_z107 : z98 - (1 : Int32) = z107
          have h_z107 : z107.toInt = z98.toInt - 1 := by rw [← hg_z107]; have := y_sub (x := z98) (y := (1 : Int32)) (by rw [ec1]; omega) (by rw [ec1]; omega); rw [ec1] at this; exact this
          have h_r : z107 = f 0 := Int32.toInt_inj.mp (by omega)
          rw [← hg_z98] at hL
          exact y_ireturn B hI rfl rfl rfl List.mem_cons_self ⟨_, rfl, ⟨_, rfl, by show (-4 : Int) ≤ _; omega, by show _ ≤ (9 : Int); omega⟩⟩ (x_cs.mono B.2.2.2.2.2 (y_mon B hI)) (fun t' x' y' h' f' h1 h2 => by cases h1; cases h2.uniq hL0; exact ⟨hF, _, _, rfl, hL, fun q9 => absurd hok q9, fun _ q9 => absurd q9 (by omega), fun _ _ => ⟨h_r, rfl⟩⟩) (Nat.le_refl _) (Nat.le_refl _) ah_d108
        · have q36_ : (10 : Int32).toInt ≤ (f 0).toInt := Int.not_lt.mp fun q => q36 (x_lt32.mpr q)
          refine lv_bipush hx hb ah_d39 (v := (-4)) (by decide) ?_
          have ecm4 : ((-4) : Int32).toInt = (-4) := by decide
          exact y_ireturn B hI rfl rfl rfl List.mem_cons_self ⟨_, rfl, ⟨_, rfl, by decide, by decide⟩⟩ (x_cs.mono B.2.2.2.2.2 (y_mon B hI)) (fun t' x' y' h' f' h1 h2 => by cases h1; cases h2.uniq hL0; exact ⟨hF, _, _, rfl, hL, fun q9 => absurd hok q9, fun _ _ => ⟨rfl, rfl⟩, fun _ q9 => absurd q9 (by omega)⟩) (Nat.le_refl _) (Nat.le_refl _) ah_d41
      · have q24_ : ¬ r21.toInt = (0 : Int32).toInt := fun q => q24 (Int32.toInt_inj.mp q)
        have hno : ¬ m_hOk f x y h := fun q9 => by obtain ⟨⟨a1, a2, a3⟩, a4⟩ := q9; first | exact hin_r21 (by assumption) a4 | (have := hout_r12 (by assumption); omega) | (exact hout_r2 (by assumption) ⟨a1, a2⟩)
        refine lv_bipush hx hb ah_d27 (v := (-2)) (by decide) ?_
        have ecm2 : ((-2) : Int32).toInt = (-2) := by decide
        exact y_ireturn B hI rfl rfl rfl List.mem_cons_self ⟨_, rfl, ⟨_, rfl, by decide, by decide⟩⟩ (x_cs.mono B.2.2.2.2.2 (y_mon B hI)) (fun t' x' y' h' f' h1 h2 => by cases h1; cases h2.uniq hL0; exact ⟨hF, _, _, rfl, hL, fun _ => ⟨rfl, rfl⟩, fun q9 => absurd q9 hno, fun q9 => absurd q9 hno⟩) (Nat.le_refl _) (Nat.le_refl _) ah_d29
def z_Psd : yP := fun D av Y H v Y' H' => ∀ (this : Nat) (w v9 : Int32) (f : Nat → Int32), av = [.ref this, .int w, .int v9] → z_L D Y this H f → z_fr D Y H H' this ∧ ∃ (r : Int32) (g : Nat → Int32), v = some (.int r) ∧ z_L D Y' this H' g ∧ m_put f w v9 r g
theorem z_v43 {w : Int32} (h : 0 ≤ w.toInt ∧ w.toInt ≤ 3) : ((x_zv 43 w.toInt.toNat).toInt = 0 ∧ w.toInt ≠ 3) ∨ ((x_zv 43 w.toInt.toNat).toInt = 1 ∧ w.toInt = 3) := by
  rcases (by omega : w.toInt = 0 ∨ w.toInt = 1 ∨ w.toInt = 2 ∨ w.toInt = 3) with q | q | q | q <;> rw [q] <;> decide
theorem z_v44 {w : Int32} (h : 0 ≤ w.toInt ∧ w.toInt ≤ 3) : ((x_zv 44 w.toInt.toNat).toInt = 99 ∧ (w.toInt = 0 ∨ w.toInt = 1)) ∨ ((x_zv 44 w.toInt.toNat).toInt = 3 ∧ w.toInt = 2) ∨ ((x_zv 44 w.toInt.toNat).toInt = 10 ∧ w.toInt = 3) := by
  rcases (by omega : w.toInt = 0 ∨ w.toInt = 1 ∨ w.toInt = 2 ∨ w.toInt = 3) with q | q | q | q <;> rw [q] <;> decide
theorem sR_d0 : decode xM23.2.1 0 = .ok (.iload_n 1, 1) := dz_ok (by decide +kernel)
theorem sR_d1 : decode xM23.2.1 1 = .ok (.iconst 0, 1) := dz_ok (by decide +kernel)
theorem sR_d2 : decode xM23.2.1 2 = .ok (.iconst 3, 1) := dz_ok (by decide +kernel)
theorem sR_d3 : decode xM23.2.1 3 = .ok (.invokestatic 83, 3) := dz_ok (by decide +kernel)
theorem sR_d6 : decode xM23.2.1 6 = .ok (.ifCond .eq 20, 3) := dz_ok (by decide +kernel)
theorem sR_d9 : decode xM23.2.1 9 = .ok (.iload_n 2, 1) := dz_ok (by decide +kernel)
theorem sR_d10 : decode xM23.2.1 10 = .ok (.getstatic 105, 3) := dz_ok (by decide +kernel)
theorem sR_d13 : decode xM23.2.1 13 = .ok (.iload_n 1, 1) := dz_ok (by decide +kernel)
theorem sR_d14 : decode xM23.2.1 14 = .ok (.iaload, 1) := dz_ok (by decide +kernel)
theorem sR_d15 : decode xM23.2.1 15 = .ok (.getstatic 108, 3) := dz_ok (by decide +kernel)
theorem sR_d18 : decode xM23.2.1 18 = .ok (.iload_n 1, 1) := dz_ok (by decide +kernel)
theorem sR_d19 : decode xM23.2.1 19 = .ok (.iaload, 1) := dz_ok (by decide +kernel)
theorem sR_d20 : decode xM23.2.1 20 = .ok (.invokestatic 83, 3) := dz_ok (by decide +kernel)
theorem sR_d23 : decode xM23.2.1 23 = .ok (.ifCond .ne 6, 3) := dz_ok (by decide +kernel)
theorem sR_d26 : decode xM23.2.1 26 = .ok (.bipush (-2), 2) := dz_ok (by decide +kernel)
theorem sR_d28 : decode xM23.2.1 28 = .ok (.ireturn, 1) := dz_ok (by decide +kernel)
theorem sR_d29 : decode xM23.2.1 29 = .ok (.aload_n 0, 1) := dz_ok (by decide +kernel)
theorem sR_d30 : decode xM23.2.1 30 = .ok (.getfield 39, 3) := dz_ok (by decide +kernel)
theorem sR_d33 : decode xM23.2.1 33 = .ok (.iload_n 1, 1) := dz_ok (by decide +kernel)
theorem sR_d34 : decode xM23.2.1 34 = .ok (.iaload, 1) := dz_ok (by decide +kernel)
theorem sR_d35 : decode xM23.2.1 35 = .ok (.istore_n 3, 1) := dz_ok (by decide +kernel)
theorem sR_d36 : decode xM23.2.1 36 = .ok (.aload_n 0, 1) := dz_ok (by decide +kernel)
theorem sR_d37 : decode xM23.2.1 37 = .ok (.getfield 39, 3) := dz_ok (by decide +kernel)
theorem sR_d40 : decode xM23.2.1 40 = .ok (.iload_n 1, 1) := dz_ok (by decide +kernel)
theorem sR_d41 : decode xM23.2.1 41 = .ok (.iload_n 2, 1) := dz_ok (by decide +kernel)
theorem sR_d42 : decode xM23.2.1 42 = .ok (.iastore, 1) := dz_ok (by decide +kernel)
theorem sR_d43 : decode xM23.2.1 43 = .ok (.iload_n 3, 1) := dz_ok (by decide +kernel)
theorem sR_d44 : decode xM23.2.1 44 = .ok (.ireturn, 1) := dz_ok (by decide +kernel)
theorem ym_setDial : y_Met vwCl x_G x_Zs x_Tb x_Nb xM23 z_AL z_Psd := by
  refine y_main (by decide +kernel) (by decide +kernel) x_Tb_good x_Nb_ok ?_
  intro p l e s m below meth c D U Y0 av ls B hI hAL hl
  have X := B.1
  have hx := X.1
  have hb := X.2.1
  have hY0 := B.2.2.2.2.1
  obtain ⟨v0, v1, v2, rfl, hv0, ⟨w, rfl, -⟩, ⟨v9, rfl, -⟩⟩ := y_three B.2.2.2.2.2
  obtain ⟨this, t0, rfl, ht0, hY_this⟩ := x_ref_at hv0 rfl
  obtain rfl := List.mem_singleton.mp ht0
  replace hl : lv_has ls xM23.2.2.1 [(0, .ref this), (1, .int w), (2, .int v9)] := hl
  obtain ⟨f, hL⟩ := hAL _ rfl
  have hL0 := hL
  have hhi := hL.1.1
  have hF : z_fr D Y0 s.heap s.heap this := fun _ _ _ _ _ _ _ => x_eq.of rfl
  obtain ⟨adial, hs_adial, hY_adial, hA_adial⟩ := hL.2.1 (10, 27, 4, 4, 1) (by decide)
  replace hA_adial : y_A adial 4 s.heap (fun j => f (4 + 1 * j)) := hA_adial
  have hs0_adial := hs_adial
  refine lv_iload_n hx hb sR_d0 rfl (lv_at hl 1 rfl) ?_
  refine lv_iconst hx hb sR_d1 (v := 0) (by decide) ?_
  have ec0 : (0 : Int32).toInt = 0 := by decide
  refine lv_iconst hx hb sR_d2 (v := 3) (by decide) ?_
  have ec3 : (3 : Int32).toInt = 3 := by decide
  refine y_call (z := (1, 83, 3, none, xM10)) (av := [.int w, .int (0 : Int32), .int (3 : Int32)]) (rest := []) (y_cokSN (n := 3) (host := "TwinFires") X ym_within (x_cons (x_bw19 1 rfl rfl) (x_cons (x_bw0 1 rfl rfl) x_nilm)) (x_bn19 0 rfl rfl) (x_bw19 2 rfl rfl) (by decide +kernel) ⟨Nat.le_of_ble_eq_true rfl, Nat.le_of_ble_eq_true rfl⟩) hY0 hI rfl sR_d3 hl.1 (Nat.le_of_ble_eq_true rfl) (Nat.le_of_ble_eq_true rfl) (Nat.le_of_ble_eq_true rfl) (y_cons ⟨_, rfl, x_i32 _⟩ (y_cons ⟨_, rfl, x_i32 _⟩ (y_cons ⟨_, rfl, x_i32 _⟩ y_nil))) rfl (y_norecv rfl) trivial (y_sub_ef rfl) fun v Yn o Hn L ho hr ha hIn hx_ hE hP => ?_
  replace hhi := y_Efld hE hY_this rfl (by decide) (by decide) hhi
  replace hs_adial := y_Efld hE hY_this rfl (by decide) (by decide) hs_adial
  replace hA_adial := hA_adial.kept (y_Earr hE hY_adial rfl (by decide))
  replace hL := hL.E hY_this hE (fun q u h => y_ext hx_ hI.1 h) (by decide +kernel)
  replace hF := fun b u g9 (hb : Y0 b = some u) (hg9 : x_G[u]? = some g9) (hn : b ≠ this) (hk9 : ∀ k, k < 16 → x_sl D 2 k this s.heap ≠ some (.ref b)) => x_eq.trans (x_eq.E hE (y_mon B hI _ _ hb) hg9 rfl) (hF b u g9 hb hg9 hn hk9)
  replace hY_this := y_ext hx_ hI.1 hY_this
  replace hY_adial := y_ext hx_ hI.1 hY_adial
  obtain ⟨r3, rfl, hin_r3, hout_r3⟩ := hP _ _ _ rfl
  clear ho hr ha hE hP hI hx_
  rename x_I _ _ _ _ _ _ _ _ _ _ => hI
  refine lv_if_eq hx hb sR_d6 (tgt := 26) (by decide) (fun q6 => ?_) (fun q6 => ?_)
  · have q6_ : r3.toInt = (0 : Int32).toInt := by rw [q6]
    have hno : ¬ m_pOk w v9 := by unfold m_pOk; intro q9; first | (have hx9 := hout_r20 q23; rw [h_lo9, h_hi9] at hx9; omega) | (have hx9 := hout_r3 q6; omega)
    refine lv_bipush hx hb sR_d26 (v := (-2)) (by decide) ?_
    have ecm2 : ((-2) : Int32).toInt = (-2) := by decide
    exact y_ireturn B hI rfl rfl rfl List.mem_cons_self ⟨_, rfl, ⟨_, rfl, x_i32 _⟩⟩ (x_cs.mono B.2.2.2.2.2 (y_mon B hI)) (fun t' w' v' f' h1 h2 => by cases h1; cases h2.uniq hL0; exact ⟨hF, _, _, rfl, hL, fun _ => ⟨rfl, rfl⟩, fun q9 => absurd q9 hno⟩) (Nat.le_refl _) (Nat.le_refl _) sR_d28
  · have q6_ : ¬ r3.toInt = (0 : Int32).toInt := fun q => q6 (Int32.toInt_inj.mp q)
    have hw := hin_r3 q6
    have hw3 : 0 ≤ w.toInt ∧ w.toInt ≤ 3 := by omega
    have hv3 := z_v43 hw3
    have hv4 := z_v44 hw3
    refine lv_iload_n hx hb sR_d9 rfl (lv_at hl 2 rfl) ?_
    refine z_getsVN (z := x_Zs[0]) (host := "TwinFires") X (List.mem_of_getElem? (i := 0) rfl) (X.2.2.2.2.2.2.2.2.1 _ (x_bn24 12 rfl rfl)) hI.1 sR_d10 fun bLe fLe hTLe hVLe => ?_
    refine lv_iload_n hx hb sR_d13 rfl (lv_at hl 1 rfl) ?_
    refine z_tld X hTLe (by omega) (by show _ < (4 : Int); omega) sR_d14 ?_
    obtain ⟨lo9, hg_lo9⟩ : ∃ lo9 : Int32, fLe w.toInt.toNat = lo9 := ⟨_, rfl⟩
    rw [hg_lo9]
    have h_lo9 : lo9 = x_zv 43 w.toInt.toNat := hg_lo9.symm.trans (hVLe _ (by show _ < 4; omega))
    refine z_getsVN (z := x_Zs[1]) (host := "TwinFires") X (List.mem_of_getElem? (i := 1) rfl) (X.2.2.2.2.2.2.2.2.1 _ (x_bn24 14 rfl rfl)) hI.1 sR_d15 fun bGr fGr hTGr hVGr => ?_
    refine lv_iload_n hx hb sR_d18 rfl (lv_at hl 1 rfl) ?_
    refine z_tld X hTGr (by omega) (by show _ < (4 : Int); omega) sR_d19 ?_
    obtain ⟨hi9, hg_hi9⟩ : ∃ hi9 : Int32, fGr w.toInt.toNat = hi9 := ⟨_, rfl⟩
    rw [hg_hi9]
    have h_hi9 : hi9 = x_zv 44 w.toInt.toNat := hg_hi9.symm.trans (hVGr _ (by show _ < 4; omega))
    refine y_call (z := (1, 83, 3, none, xM10)) (av := [.int v9, .int lo9, .int hi9]) (rest := []) (y_cokSN (n := 3) (host := "TwinFires") X ym_within (x_cons (x_bw19 1 rfl rfl) (x_cons (x_bw0 1 rfl rfl) x_nilm)) (x_bn19 0 rfl rfl) (x_bw19 2 rfl rfl) (by decide +kernel) ⟨Nat.le_of_ble_eq_true rfl, Nat.le_of_ble_eq_true rfl⟩) hY0 hI rfl sR_d20 hl.1 (Nat.le_of_ble_eq_true rfl) (Nat.le_of_ble_eq_true rfl) (Nat.le_of_ble_eq_true rfl) (y_cons ⟨_, rfl, x_i32 _⟩ (y_cons ⟨_, rfl, x_i32 _⟩ (y_cons ⟨_, rfl, x_i32 _⟩ y_nil))) rfl (y_norecv rfl) trivial (y_sub_ef rfl) fun v Yn o Hn L ho hr ha hIn hx_ hE hP => ?_
    replace hhi := y_Efld hE hY_this rfl (by decide) (by decide) hhi
    replace hs_adial := y_Efld hE hY_this rfl (by decide) (by decide) hs_adial
    replace hA_adial := hA_adial.kept (y_Earr hE hY_adial rfl (by decide))
    replace hL := hL.E hY_this hE (fun q u h => y_ext hx_ hI.1 h) (by decide +kernel)
    replace hF := fun b u g9 (hb : Y0 b = some u) (hg9 : x_G[u]? = some g9) (hn : b ≠ this) (hk9 : ∀ k, k < 16 → x_sl D 2 k this s.heap ≠ some (.ref b)) => x_eq.trans (x_eq.E hE (y_mon B hI _ _ hb) hg9 rfl) (hF b u g9 hb hg9 hn hk9)
    replace hY_this := y_ext hx_ hI.1 hY_this
    replace hY_adial := y_ext hx_ hI.1 hY_adial
    obtain ⟨r20, rfl, hin_r20, hout_r20⟩ := hP _ _ _ rfl
    clear ho hr ha hE hP hI hx_
    rename x_I _ _ _ _ _ _ _ _ _ _ => hI
    refine lv_if_ne hx hb sR_d23 (tgt := 29) (by decide) (fun q23 => ?_) (fun q23 => ?_)
    · have q23_ : ¬ r20.toInt = (0 : Int32).toInt := fun q => q23 (Int32.toInt_inj.mp q)
      have hok : m_pOk w v9 := by unfold m_pOk; have hx9 := hin_r20 q23; rw [h_lo9, h_hi9] at hx9; omega
      refine lv_aload_n hx hb sR_d29 rfl (lv_at hl 0 rfl) ?_
      refine y_getf X (fl44 X.2.2.2.2.1) hI.1 hY_this rfl hs_adial sR_d30 ?_
      refine lv_iload_n hx hb sR_d33 rfl (lv_at hl 1 rfl) ?_
      refine y_iald X hI.1 hY_adial rfl hA_adial (by omega) (by show _ < (4 : Int); omega) sR_d34 ?_
      obtain ⟨e34, hg_e34⟩ : ∃ e34 : Int32, f (4 + 1 * w.toInt.toNat) = e34 := ⟨_, rfl⟩
      rw [hg_e34]
      refine lv_istore_n hx hb sR_d35 rfl hl (by decide) (lv' := [(3, .int e34), (0, .ref this), (1, .int w), (2, .int v9)]) rfl fun ls hl => ?_
      refine lv_aload_n hx hb sR_d36 rfl (lv_at hl 1 rfl) ?_
      refine y_getf X (fl44 X.2.2.2.2.1) hI.1 hY_this rfl hs_adial sR_d37 ?_
      refine lv_iload_n hx hb sR_d40 rfl (lv_at hl 2 rfl) ?_
      refine lv_iload_n hx hb sR_d41 rfl (lv_at hl 3 rfl) ?_
      have hs_old := hs_adial
      have hA_old := hA_adial
      refine y_iast X hY0 hI hY_adial rfl hA_adial (by omega) (by show _ < (4 : Int); omega) ⟨_, rfl, x_i32 _⟩ (by decide +kernel) sR_d42 fun H locs hI h_new ho => ?_
      replace hA_adial := h_new
      generalize hf_f42 : y_up (fun j => f (4 + 1 * j)) w.toInt.toNat v9 = f42 at hA_adial
      replace hhi := y_slk hhi (ho _ (y_ne hY_this hY_adial rfl))
      replace hs_adial := y_slk hs_adial (ho _ (y_ne hY_this hY_adial rfl))
      replace hL := hL.putA (c := (10, 27, 4, 4, 1)) (N := 4) hY_this (by decide) rfl (by omega) hs_old hA_old h_new ho
      replace hF := fun b u g9 (hb : Y0 b = some u) (hg9 : x_G[u]? = some g9) (hn : b ≠ this) (hk9 : ∀ k, k < 16 → x_sl D 2 k this s.heap ≠ some (.ref b)) => x_eq.trans (x_eq.of (ho b (fun e0 => hk9 10 (by decide) (by rw [e0]; exact hs0_adial)))) (hF b u g9 hb hg9 hn hk9)
      refine lv_iload_n hx hb sR_d43 rfl (lv_at hl 0 rfl) ?_
      subst hg_e34
      replace hL : z_L D _ this _ (y_up f (4 + 1 * w.toInt.toNat) v9) := hL
      rw [Nat.one_mul] at hL ⊢
      exact y_ireturn B hI rfl rfl rfl List.mem_cons_self ⟨_, rfl, ⟨_, rfl, x_i32 _⟩⟩ (x_cs.mono B.2.2.2.2.2 (y_mon B hI)) (fun t' w' v' f' h1 h2 => by cases h1; cases h2.uniq hL0; exact ⟨hF, _, _, rfl, hL, fun q9 => absurd hok q9, fun _ => ⟨rfl, rfl⟩⟩) (Nat.le_refl _) (Nat.le_refl _) sR_d44
    · have q23_ : r20.toInt = (0 : Int32).toInt := by rw [q23]
      have hno : ¬ m_pOk w v9 := by unfold m_pOk; intro q9; first | (have hx9 := hout_r20 q23; rw [h_lo9, h_hi9] at hx9; omega) | (have hx9 := hout_r3 q6; omega)
      refine lv_bipush hx hb sR_d26 (v := (-2)) (by decide) ?_
      have ecm2 : ((-2) : Int32).toInt = (-2) := by decide
      exact y_ireturn B hI rfl rfl rfl List.mem_cons_self ⟨_, rfl, ⟨_, rfl, x_i32 _⟩⟩ (x_cs.mono B.2.2.2.2.2 (y_mon B hI)) (fun t' w' v' f' h1 h2 => by cases h1; cases h2.uniq hL0; exact ⟨hF, _, _, rfl, hL, fun _ => ⟨rfl, rfl⟩, fun q9 => absurd q9 hno⟩) (Nat.le_refl _) (Nat.le_refl _) sR_d28
def z_Pfo : yP := fun D av Y H _ Y' H' => ∀ (this : Nat) (f : Nat → Int32), av = [.ref this] → z_L D Y this H f → z_fr D Y H H' this ∧ z_L D Y' this H' (m_beg f)
theorem fR_d0 : decode xM59.2.1 0 = .ok (.aload_n 0, 1) := dz_ok (by decide +kernel)
theorem fR_d1 : decode xM59.2.1 1 = .ok (.iconst 0, 1) := dz_ok (by decide +kernel)
theorem fR_d2 : decode xM59.2.1 2 = .ok (.putfield 63, 3) := dz_ok (by decide +kernel)
theorem fR_d5 : decode xM59.2.1 5 = .ok (.aload_n 0, 1) := dz_ok (by decide +kernel)
theorem fR_d6 : decode xM59.2.1 6 = .ok (.iconst 0, 1) := dz_ok (by decide +kernel)
theorem fR_d7 : decode xM59.2.1 7 = .ok (.putfield 73, 3) := dz_ok (by decide +kernel)
theorem fR_d10 : decode xM59.2.1 10 = .ok (.aload_n 0, 1) := dz_ok (by decide +kernel)
theorem fR_d11 : decode xM59.2.1 11 = .ok (.getfield 39, 3) := dz_ok (by decide +kernel)
theorem fR_d14 : decode xM59.2.1 14 = .ok (.iconst 0, 1) := dz_ok (by decide +kernel)
theorem fR_d15 : decode xM59.2.1 15 = .ok (.iconst 0, 1) := dz_ok (by decide +kernel)
theorem fR_d16 : decode xM59.2.1 16 = .ok (.iastore, 1) := dz_ok (by decide +kernel)
theorem fR_d17 : decode xM59.2.1 17 = .ok (.aload_n 0, 1) := dz_ok (by decide +kernel)
theorem fR_d18 : decode xM59.2.1 18 = .ok (.getfield 39, 3) := dz_ok (by decide +kernel)
theorem fR_d21 : decode xM59.2.1 21 = .ok (.iconst 1, 1) := dz_ok (by decide +kernel)
theorem fR_d22 : decode xM59.2.1 22 = .ok (.iconst 0, 1) := dz_ok (by decide +kernel)
theorem fR_d23 : decode xM59.2.1 23 = .ok (.iastore, 1) := dz_ok (by decide +kernel)
theorem fR_d24 : decode xM59.2.1 24 = .ok (.aload_n 0, 1) := dz_ok (by decide +kernel)
theorem fR_d25 : decode xM59.2.1 25 = .ok (.getfield 39, 3) := dz_ok (by decide +kernel)
theorem fR_d28 : decode xM59.2.1 28 = .ok (.iconst 2, 1) := dz_ok (by decide +kernel)
theorem fR_d29 : decode xM59.2.1 29 = .ok (.iconst 0, 1) := dz_ok (by decide +kernel)
theorem fR_d30 : decode xM59.2.1 30 = .ok (.iastore, 1) := dz_ok (by decide +kernel)
theorem fR_d31 : decode xM59.2.1 31 = .ok (.return_, 1) := dz_ok (by decide +kernel)
theorem ym_forget : y_Met vwCl x_G x_Zs x_Tb x_Nb xM59 z_AL z_Pfo := by
  refine y_main (by decide +kernel) (by decide +kernel) x_Tb_good x_Nb_ok ?_
  intro p l e s m below meth c D U Y0 av ls B hI hAL hl
  have X := B.1
  have hx := X.1
  have hb := X.2.1
  have hY0 := B.2.2.2.2.1
  obtain ⟨v0, rfl, hv0⟩ := x_one B.2.2.2.2.2
  obtain ⟨this, t0, rfl, ht0, hY_this⟩ := x_ref_at hv0 rfl
  obtain rfl := List.mem_singleton.mp ht0
  replace hl : lv_has ls xM59.2.2.1 [(0, .ref this)] := hl
  obtain ⟨f, hL⟩ := hAL _ rfl
  have hL0 := hL
  have hhi := hL.1.1
  have hF : z_fr D Y0 s.heap s.heap this := fun _ _ _ _ _ _ _ => x_eq.of rfl
  obtain ⟨adial, hs_adial, hY_adial, hA_adial⟩ := hL.2.1 (10, 27, 4, 4, 1) (by decide)
  replace hA_adial : y_A adial 4 s.heap (fun j => f (4 + 1 * j)) := hA_adial
  have hs0_adial := hs_adial
  refine lv_aload_n hx hb fR_d0 rfl (lv_at hl 0 rfl) ?_
  refine lv_iconst hx hb fR_d1 (v := 0) (by decide) ?_
  have ec0 : (0 : Int32).toInt = 0 := by decide
  refine y_putf X (fw6 X.2.2.2.2.1) hY0 hI hY_this rfl rfl ⟨_, rfl, by show (0 : Int) ≤ _; omega, by show _ ≤ (10 : Int); omega⟩ (by decide +kernel) fR_d2 fun H sl hI ho hs hk => ?_
  replace hs_adial := hk _ _ (by decide +kernel) (by decide) hs_adial
  replace hA_adial := hA_adial.kept (ho _ (y_ne hY_adial hY_this rfl))
  replace hL := hL.puti (k := 0) (p := 0) hY_this (by decide) hs (fun i hi hn => hk i _ hi hn rfl) ho
  replace hF := fun b u g9 (hb : Y0 b = some u) (hg9 : x_G[u]? = some g9) (hn : b ≠ this) (hk9 : ∀ k, k < 16 → x_sl D 2 k this s.heap ≠ some (.ref b)) => x_eq.trans (x_eq.of (ho b hn)) (hF b u g9 hb hg9 hn hk9)
  replace hs := hs
  replace hhi := hs
  refine lv_aload_n hx hb fR_d5 rfl (lv_at hl 0 rfl) ?_
  refine lv_iconst hx hb fR_d6 (v := 0) (by decide) ?_
  refine y_putf X (fw43 X.2.2.2.2.1) hY0 hI hY_this rfl rfl ⟨_, rfl, by show (0 : Int) ≤ _; omega, by show _ ≤ (8 : Int); omega⟩ (by decide +kernel) fR_d7 fun H sl hI ho hs hk => ?_
  replace hhi := hk _ _ (by decide +kernel) (by decide) hhi
  replace hs_adial := hk _ _ (by decide +kernel) (by decide) hs_adial
  replace hA_adial := hA_adial.kept (ho _ (y_ne hY_adial hY_this rfl))
  replace hL := hL.puti (k := 6) (p := 1) hY_this (by decide) hs (fun i hi hn => hk i _ hi hn rfl) ho
  replace hF := fun b u g9 (hb : Y0 b = some u) (hg9 : x_G[u]? = some g9) (hn : b ≠ this) (hk9 : ∀ k, k < 16 → x_sl D 2 k this s.heap ≠ some (.ref b)) => x_eq.trans (x_eq.of (ho b hn)) (hF b u g9 hb hg9 hn hk9)
  replace hs := hs
  have hs7 := hs
  refine lv_aload_n hx hb fR_d10 rfl (lv_at hl 0 rfl) ?_
  refine y_getf X (fl44 X.2.2.2.2.1) hI.1 hY_this rfl hs_adial fR_d11 ?_
  refine lv_iconst hx hb fR_d14 (v := 0) (by decide) ?_
  refine lv_iconst hx hb fR_d15 (v := 0) (by decide) ?_
  have hs_old := hs_adial
  have hA_old := hA_adial
  refine y_iast X hY0 hI hY_adial rfl hA_adial (by omega) (by show _ < (4 : Int); omega) ⟨_, rfl, x_i32 _⟩ (by decide +kernel) fR_d16 fun H locs hI h_new ho => ?_
  replace hA_adial := h_new
  generalize hf_f16 : y_up (fun j => f (4 + 1 * j)) (0 : Int32).toInt.toNat (0 : Int32) = f16 at hA_adial
  replace hhi := y_slk hhi (ho _ (y_ne hY_this hY_adial rfl))
  replace hs_adial := y_slk hs_adial (ho _ (y_ne hY_this hY_adial rfl))
  replace hs7 := y_slk hs7 (ho _ (y_ne hY_this hY_adial rfl))
  replace hL := hL.putA (c := (10, 27, 4, 4, 1)) (N := 4) hY_this (by decide) rfl (by omega) hs_old hA_old h_new ho
  replace hF := fun b u g9 (hb : Y0 b = some u) (hg9 : x_G[u]? = some g9) (hn : b ≠ this) (hk9 : ∀ k, k < 16 → x_sl D 2 k this s.heap ≠ some (.ref b)) => x_eq.trans (x_eq.of (ho b (fun e0 => hk9 10 (by decide) (by rw [e0]; exact hs0_adial)))) (hF b u g9 hb hg9 hn hk9)
  refine lv_aload_n hx hb fR_d17 rfl (lv_at hl 0 rfl) ?_
  refine y_getf X (fl44 X.2.2.2.2.1) hI.1 hY_this rfl hs_adial fR_d18 ?_
  refine lv_iconst hx hb fR_d21 (v := 1) (by decide) ?_
  have ec1 : (1 : Int32).toInt = 1 := by decide
  refine lv_iconst hx hb fR_d22 (v := 0) (by decide) ?_
  have hs_old := hs_adial
  have hA_old := hA_adial
  refine y_iast X hY0 hI hY_adial rfl hA_adial (by omega) (by show _ < (4 : Int); omega) ⟨_, rfl, x_i32 _⟩ (by decide +kernel) fR_d23 fun H locs hI h_new ho => ?_
  replace hA_adial := h_new
  generalize hf_f23 : y_up f16 (1 : Int32).toInt.toNat (0 : Int32) = f23 at hA_adial
  replace hhi := y_slk hhi (ho _ (y_ne hY_this hY_adial rfl))
  replace hs_adial := y_slk hs_adial (ho _ (y_ne hY_this hY_adial rfl))
  replace hs7 := y_slk hs7 (ho _ (y_ne hY_this hY_adial rfl))
  replace hL := hL.putA (c := (10, 27, 4, 4, 1)) (N := 4) hY_this (by decide) rfl (by omega) hs_old hA_old h_new ho
  replace hF := fun b u g9 (hb : Y0 b = some u) (hg9 : x_G[u]? = some g9) (hn : b ≠ this) (hk9 : ∀ k, k < 16 → x_sl D 2 k this s.heap ≠ some (.ref b)) => x_eq.trans (x_eq.of (ho b (fun e0 => hk9 10 (by decide) (by rw [e0]; exact hs0_adial)))) (hF b u g9 hb hg9 hn hk9)
  refine lv_aload_n hx hb fR_d24 rfl (lv_at hl 0 rfl) ?_
  refine y_getf X (fl44 X.2.2.2.2.1) hI.1 hY_this rfl hs_adial fR_d25 ?_
  refine lv_iconst hx hb fR_d28 (v := 2) (by decide) ?_
  have ec2 : (2 : Int32).toInt = 2 := by decide
  refine lv_iconst hx hb fR_d29 (v := 0) (by decide) ?_
  have hs_old := hs_adial
  have hA_old := hA_adial
  refine y_iast X hY0 hI hY_adial rfl hA_adial (by omega) (by show _ < (4 : Int); omega) ⟨_, rfl, x_i32 _⟩ (by decide +kernel) fR_d30 fun H locs hI h_new ho => ?_
  replace hA_adial := h_new
  generalize hf_f30 : y_up f23 (2 : Int32).toInt.toNat (0 : Int32) = f30 at hA_adial
  replace hhi := y_slk hhi (ho _ (y_ne hY_this hY_adial rfl))
  replace hs_adial := y_slk hs_adial (ho _ (y_ne hY_this hY_adial rfl))
  replace hs7 := y_slk hs7 (ho _ (y_ne hY_this hY_adial rfl))
  replace hL := hL.putA (c := (10, 27, 4, 4, 1)) (N := 4) hY_this (by decide) rfl (by omega) hs_old hA_old h_new ho
  replace hF := fun b u g9 (hb : Y0 b = some u) (hg9 : x_G[u]? = some g9) (hn : b ≠ this) (hk9 : ∀ k, k < 16 → x_sl D 2 k this s.heap ≠ some (.ref b)) => x_eq.trans (x_eq.of (ho b (fun e0 => hk9 10 (by decide) (by rw [e0]; exact hs0_adial)))) (hF b u g9 hb hg9 hn hk9)
  exact y_return B hI rfl rfl List.mem_cons_self rfl (x_cs.mono B.2.2.2.2.2 (y_mon B hI)) (fun t' f' h1 h2 => by cases h1; cases h2.uniq hL0; exact ⟨hF, hL⟩) (Nat.le_refl _) (Nat.le_refl _) fR_d31

