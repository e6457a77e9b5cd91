
theorem y_cokSN {p : Program} {l : Launch} {e : Env} {R : Room} {s : State} {m : MethodId} {args : Array Value} {below : List Frame} {meth : Method} {c : Code} {D : va_G} {G : List xG} {Zs : List xZ} {U : State} {nL : Nat} {cc : ByteArray} {cl : List vw_C} {Tb Nb : List Cond} {own : String} {M : xM} {A : yA} {P : yP} {idx n : Nat} {host : String} (X : x_cx p s m args c D U cc nL cl Tb Nb own) (hM : y_Met cl G Zs Tb Nb M A P) (h : ∀ w ∈ [Cond.static M.1, .initialized M.1.cls], w ∈ Tb) (hl : Cond.methodLinkNest own idx M.1 host ∈ Nb) (hc : Cond.code M.1 M.2.1 M.2.2.1 M.2.2.2.1 ∈ Tb)
    (hd : M.1.cls ≠ "java/lang/invoke/MethodHandle" ∧ M.1.cls ≠ "java/lang/invoke/VarHandle" ∧ (parseMethodDescriptor M.1.desc).map (fun d => d.parameters.length) = some n) (hR : (x_rm M).frames + 1 ≤ R.frames ∧ 8 + (M.2.2.1 + 11) + (x_rm M).locals ≤ R.locals) :
    y_cok p l e R s m args below meth c D G Zs U nL cc (1, idx, n, none, M) A P := by
  intro H locs cells slots pc ls rest av Y hdec hls hrest hcl hsl hH hcs hlen hrt hA
  obtain ⟨hx, hb, hml, hown, hts, hK, hK0, hU, hNw, hG, hN⟩ := X
  exact va_runSN (As := av) (rest := rest) (Ts := Tb) (host := host) ⟨hx, hb, hml, hown, hts⟩ (hM l D U Y H.size av hK0 hcs) ⟨va_cnB n hts (x_good (ws := []) hG (fun w hw => by cases hw) hc) rfl rfl rfl (hNw _ hl) (hts _ (h _ (by simp))) hd hR, hts _ (h _ (by simp)), trivial⟩ ⟨y_blind hN, y_pre hN hNw hU hH hA⟩ rfl hlen hls rfl (lv_room hrest) hdec ⟨hcl, hsl⟩
def z_AL : yA := fun D av Y H => ∀ this : Nat, av[0]? = some (.ref this) → ∃ f, z_L D Y this H f
def z_fr (D : va_G) (Y : xY) (H H' : Heap) (q : Nat) : Prop := ∀ b u, Y b = some u → b ≠ q → (∀ k, k < 16 → x_sl D 2 k q H ≠ some (.ref b)) → H'[b]? = H[b]?
def z_Ppl : yP := fun _ av _ _ v _ _ => ∀ x y : Int32, av = [.int x, .int y] → ∃ r : Int32, v = some (.int r) ∧ (¬ r = 0 → (0 ≤ x.toInt ∧ x.toInt ≤ 19) ∧ (0 ≤ y.toInt ∧ y.toInt ≤ 19)) ∧ (r = 0 → ¬ ((0 ≤ x.toInt ∧ x.toInt ≤ 19) ∧ (0 ≤ y.toInt ∧ y.toInt ≤ 19)))
def z_Ptk : yP := fun D av Y H v _ _ => ∀ (this : Nat) (x y : Int32) (f : Nat → Int32), av = [.ref this, .int x, .int y] → z_L D Y this H f → ∃ r : Int32, v = some (.int r) ∧ (¬ r = 0 → ¬ m_free f x y) ∧ (r = 0 → m_free f x y)
def z_Pah : yP := fun D av Y H v Y' H' => ∀ (this : Nat) (x y h : Int32) (f : Nat → Int32), av = [.ref this, .int x, .int y, .int h] → z_L D Y this H f → z_fr D Y H H' this ∧ ∃ (r : Int32) (g : Nat → Int32), v = some (.int r) ∧ z_L D Y' this H' g ∧ m_hill f x y h r g
theorem z_L.putA {D : va_G} {Y : xY} {H H' : Heap} {q : Nat} {f fa : Nat → Int32} {c : zC} {j a N : Nat} {v : Int32} (h : z_L D Y q H f) (hq : Y q = some 2) (hcm : c ∈ z_C) (hN : N = c.2.2.1) (hj : j < N) (ha : x_sl D 2 c.1 q H = some (.ref a)) (hA : y_A a N H fa) (hA' : y_A a N H' (y_up fa j v)) (ho : ∀ b, b ≠ a → H'[b]? = H[b]?) : z_L D Y q H' (y_up f (z_pl c j) v) := by
  subst hN
  exact h.put hq hcm hj ha (by rw [hA' j hj, y_up_at]) (fun i hi hij => by rw [hA' i hi, y_up_ne hij, hA i hi]) ho
theorem z_L.mov {D : va_G} {Y Y' : xY} {H H' : Heap} {q : Nat} {f : Nat → Int32} (h : z_L D Y q H f) (hm : ∀ b u, Y b = some u → Y' b = some u) (hk : ∀ b u, Y b = some u → (u = 2 ∨ 11 ≤ u ∧ u ≤ 31) → H'[b]? = H[b]?) (hq : Y q = some 2) : z_L D Y' q H' f := by
  have h' := h
  obtain ⟨-, k1, ⟨b, b1, b2, b3⟩, -⟩ := h'
  refine h.kept hm (hk q 2 hq (Or.inl rfl)) (fun c hc a ha => ?_) (fun a ha => ?_)
  · obtain ⟨a', e1, e2, -⟩ := k1 c hc
    cases e1.symm.trans ha
    have := z_C_tag c hc
    exact hk a _ e2 (Or.inr (by omega))
  · cases b1.symm.trans ha
    refine ⟨hk b 24 b2 (Or.inr (by omega)), fun j s hj hs => ?_⟩
    obtain ⟨s', s1, z, z1, z2, -⟩ := b3 j hj
    cases s1.symm.trans hs
    have := z_K_tag z z1
    exact hk s _ z2 (Or.inr (by omega))
theorem z_cs22 {Y : xY} {t u : xV} {v w : Value} (h1 : x_c Y t v) (h2 : x_c Y u w) : x_cs Y [t, u] [v, w] := ⟨rfl, fun k t' v' ht hv => by
  match k with
  | 0 => cases ht; cases hv; exact h1
  | 1 => cases ht; cases hv; exact h2
  | k + 2 => cases ht⟩
theorem pl_d0 : decode xM2.2.1 0 = .ok (.iload_n 0, 1) := by decide +kernel
theorem pl_d1 : decode xM2.2.1 1 = .ok (.iconst 0, 1) := by decide +kernel
theorem pl_d2 : decode xM2.2.1 2 = .ok (.bipush 19, 2) := by decide +kernel
theorem pl_d4 : decode xM2.2.1 4 = .ok (.invokestatic 83, 3) := by decide +kernel
theorem pl_d7 : decode xM2.2.1 7 = .ok (.ifCond .eq 17, 3) := by decide +kernel
theorem pl_d10 : decode xM2.2.1 10 = .ok (.iload_n 1, 1) := by decide +kernel
theorem pl_d11 : decode xM2.2.1 11 = .ok (.iconst 0, 1) := by decide +kernel
theorem pl_d12 : decode xM2.2.1 12 = .ok (.bipush 19, 2) := by decide +kernel
theorem pl_d14 : decode xM2.2.1 14 = .ok (.invokestatic 83, 3) := by decide +kernel
theorem pl_d17 : decode xM2.2.1 17 = .ok (.ifCond .eq 7, 3) := by decide +kernel
theorem pl_d20 : decode xM2.2.1 20 = .ok (.iconst 1, 1) := by decide +kernel
theorem pl_d21 : decode xM2.2.1 21 = .ok (.goto 4, 3) := by decide +kernel
theorem pl_d24 : decode xM2.2.1 24 = .ok (.iconst 0, 1) := by decide +kernel
theorem pl_d25 : decode xM2.2.1 25 = .ok (.ireturn, 1) := by decide +kernel
theorem ym_isPlace : y_Met vwCl x_G x_Zs x_Tb x_Nb xM2 y_T z_Ppl := by
  refine y_main (by decide +kernel) (by decide +kernel) x_Tb_good x_Nb_ok ?_
  intro p l e s m below meth c D U Y0 av ls B hI _ hl
  have X := B.1
  have hx := X.1
  have hb := X.2.1
  have hY0 := B.2.2.2.2.1
  obtain ⟨v0, v1, rfl, ⟨x, rfl, -⟩, ⟨y, rfl, -⟩⟩ := x_two B.2.2.2.2.2
  replace hl : lv_has ls xM2.2.2.1 [(0, .int x), (1, .int y)] := hl
  refine lv_iload_n hx hb pl_d0 rfl (lv_at hl 0 rfl) ?_
  refine lv_iconst hx hb pl_d1 (v := 0) (by decide) ?_
  have ec0 : (0 : Int32).toInt = 0 := by decide
  refine lv_bipush hx hb pl_d2 (v := 19) (by decide) ?_
  have ec19 : (19 : Int32).toInt = 19 := by decide
  refine y_call (z := (1, 83, 3, none, xM10)) (av := [.int x, .int (0 : Int32), .int (19 : Int32)]) (rest := []) (y_cokSN (n := 3) (host := "TwinFires") X ym_within (x_cons (x_at 369 (by decide +kernel) rfl) (x_cons (x_at 65 (by decide +kernel) rfl) x_nilm)) (x_nt 368 (by decide +kernel) rfl) (x_at 370 (by decide +kernel) rfl) (by decide +kernel) ⟨Nat.le_of_ble_eq_true rfl, Nat.le_of_ble_eq_true rfl⟩) hY0 hI rfl pl_d4 hl.1 (Nat.le_of_ble_eq_true rfl) (Nat.le_of_ble_eq_true rfl) (Nat.le_of_ble_eq_true rfl) (y_cons ⟨_, rfl, x_i32 _⟩ (y_cons ⟨_, rfl, x_i32 _⟩ (y_cons ⟨_, rfl, x_i32 _⟩ y_nil))) rfl (y_norecv rfl) trivial (y_sub_ef rfl) fun v Yn o Hn L ho hr ha hIn hx_ hE hP => ?_
  obtain ⟨r4, rfl, hin_r4, hout_r4⟩ := hP _ _ _ rfl
  clear ho hr ha hE hP hI hx_
  rename x_I _ _ _ _ _ _ _ _ _ _ => hI
  refine lv_if_eq hx hb pl_d7 (tgt := 24) (by decide) (fun q7 => ?_) (fun q7 => ?_)
  · have q7_ : r4.toInt = (0 : Int32).toInt := by rw [q7]
    refine lv_iconst hx hb pl_d24 (v := 0) (by decide) ?_
    have hno : ¬ ((0 ≤ x.toInt ∧ x.toInt ≤ 19) ∧ (0 ≤ y.toInt ∧ y.toInt ≤ 19)) := by first | (have hw := hout_r14 q17; omega) | (have hw := hout_r4 q7; omega)
    exact y_ireturn B hI rfl rfl rfl List.mem_cons_self ⟨_, rfl, ⟨_, rfl, by decide, by decide⟩⟩ (x_cs.mono B.2.2.2.2.2 (y_mon B hI)) (fun x' y' h1 => by cases h1; exact ⟨_, rfl, fun q => absurd rfl q, fun _ => hno⟩) (Nat.le_refl _) (Nat.le_refl _) pl_d25
  · have q7_ : ¬ r4.toInt = (0 : Int32).toInt := fun q => q7 (Int32.toInt_inj.mp q)
    refine lv_iload_n hx hb pl_d10 rfl (lv_at hl 1 rfl) ?_
    refine lv_iconst hx hb pl_d11 (v := 0) (by decide) ?_
    refine lv_bipush hx hb pl_d12 (v := 19) (by decide) ?_
    refine y_call (z := (1, 83, 3, none, xM10)) (av := [.int y, .int (0 : Int32), .int (19 : Int32)]) (rest := []) (y_cokSN (n := 3) (host := "TwinFires") X ym_within (x_cons (x_at 369 (by decide +kernel) rfl) (x_cons (x_at 65 (by decide +kernel) rfl) x_nilm)) (x_nt 368 (by decide +kernel) rfl) (x_at 370 (by decide +kernel) rfl) (by decide +kernel) ⟨Nat.le_of_ble_eq_true rfl, Nat.le_of_ble_eq_true rfl⟩) hY0 hI rfl pl_d14 hl.1 (Nat.le_of_ble_eq_true rfl) (Nat.le_of_ble_eq_true rfl) (Nat.le_of_ble_eq_true rfl) (y_cons ⟨_, rfl, x_i32 _⟩ (y_cons ⟨_, rfl, x_i32 _⟩ (y_cons ⟨_, rfl, x_i32 _⟩ y_nil))) rfl (y_norecv rfl) trivial (y_sub_ef rfl) fun v Yn o Hn L ho hr ha hIn hx_ hE hP => ?_
    obtain ⟨r14, rfl, hin_r14, hout_r14⟩ := hP _ _ _ rfl
    clear ho hr ha hE hP hI hx_
    rename x_I _ _ _ _ _ _ _ _ _ _ => hI
    refine lv_if_eq hx hb pl_d17 (tgt := 24) (by decide) (fun q17 => ?_) (fun q17 => ?_)
    · have q17_ : r14.toInt = (0 : Int32).toInt := by rw [q17]
      refine lv_iconst hx hb pl_d24 (v := 0) (by decide) ?_
      have hno : ¬ ((0 ≤ x.toInt ∧ x.toInt ≤ 19) ∧ (0 ≤ y.toInt ∧ y.toInt ≤ 19)) := by first | (have hw := hout_r14 q17; omega) | (have hw := hout_r4 q7; omega)
      exact y_ireturn B hI rfl rfl rfl List.mem_cons_self ⟨_, rfl, ⟨_, rfl, by decide, by decide⟩⟩ (x_cs.mono B.2.2.2.2.2 (y_mon B hI)) (fun x' y' h1 => by cases h1; exact ⟨_, rfl, fun q => absurd rfl q, fun _ => hno⟩) (Nat.le_refl _) (Nat.le_refl _) pl_d25
    · have q17_ : ¬ r14.toInt = (0 : Int32).toInt := fun q => q17 (Int32.toInt_inj.mp q)
      refine lv_iconst hx hb pl_d20 (v := 1) (by decide) ?_
      have ec1 : (1 : Int32).toInt = 1 := by decide
      refine lv_goto hx hb pl_d21 (tgt := 25) (by decide) ?_
      have hw1 := hin_r4 q7
      have hw2 := hin_r14 q17
      exact y_ireturn B hI rfl rfl rfl (List.mem_cons_of_mem _ List.mem_cons_self) ⟨_, rfl, ⟨_, rfl, by decide, by decide⟩⟩ (z_cs22 ⟨_, rfl, by show (0 : Int) ≤ _; omega, by show _ ≤ (19 : Int); omega⟩ ⟨_, rfl, by show (0 : Int) ≤ _; omega, by show _ ≤ (19 : Int); omega⟩) (fun x' y' h1 => by cases h1; exact ⟨_, rfl, fun _ => ⟨by omega, by omega⟩, fun q => absurd q (by decide)⟩) (Nat.le_refl _) (Nat.le_refl _) pl_d25
theorem tk_d0 : decode xM4.2.1 0 = .ok (.iconst 0, 1) := by decide +kernel
theorem tk_d1 : decode xM4.2.1 1 = .ok (.istore_n 3, 1) := by decide +kernel
theorem tk_d2 : decode xM4.2.1 2 = .ok (.iload_n 3, 1) := by decide +kernel
theorem tk_d3 : decode xM4.2.1 3 = .ok (.aload_n 0, 1) := by decide +kernel
theorem tk_d4 : decode xM4.2.1 4 = .ok (.getfield 63, 3) := by decide +kernel
theorem tk_d7 : decode xM4.2.1 7 = .ok (.if_icmp .ge 31, 3) := by decide +kernel
theorem tk_d10 : decode xM4.2.1 10 = .ok (.aload_n 0, 1) := by decide +kernel
theorem tk_d11 : decode xM4.2.1 11 = .ok (.getfield 9, 3) := by decide +kernel
theorem tk_d14 : decode xM4.2.1 14 = .ok (.iload_n 3, 1) := by decide +kernel
theorem tk_d15 : decode xM4.2.1 15 = .ok (.iaload, 1) := by decide +kernel
theorem tk_d16 : decode xM4.2.1 16 = .ok (.iload_n 1, 1) := by decide +kernel
theorem tk_d17 : decode xM4.2.1 17 = .ok (.if_icmp .ne 15, 3) := by decide +kernel
theorem tk_d20 : decode xM4.2.1 20 = .ok (.aload_n 0, 1) := by decide +kernel
theorem tk_d21 : decode xM4.2.1 21 = .ok (.getfield 15, 3) := by decide +kernel
theorem tk_d24 : decode xM4.2.1 24 = .ok (.iload_n 3, 1) := by decide +kernel
theorem tk_d25 : decode xM4.2.1 25 = .ok (.iaload, 1) := by decide +kernel
theorem tk_d26 : decode xM4.2.1 26 = .ok (.iload_n 2, 1) := by decide +kernel
theorem tk_d27 : decode xM4.2.1 27 = .ok (.if_icmp .ne 5, 3) := by decide +kernel
theorem tk_d30 : decode xM4.2.1 30 = .ok (.iconst 1, 1) := by decide +kernel
theorem tk_d31 : decode xM4.2.1 31 = .ok (.ireturn, 1) := by decide +kernel
theorem tk_d32 : decode xM4.2.1 32 = .ok (.iinc 3 1, 3) := by decide +kernel
theorem tk_d35 : decode xM4.2.1 35 = .ok (.goto (-33), 3) := by decide +kernel
theorem tk_d38 : decode xM4.2.1 38 = .ok (.iconst 0, 1) := by decide +kernel
theorem tk_d39 : decode xM4.2.1 39 = .ok (.ireturn, 1) := by decide +kernel
theorem tk_L2 {p : Program} {l : Launch} {e : Env} {s : State} {m : MethodId} {below : List Frame} {meth : Method} {c : Code} {D : va_G} {U : State} {Y0 : xY} {av : List Value} (B : y_B vwCl x_Tb x_Nb xM4 p s m meth c D U Y0 av) {this ax ay : Nat} {x y : Int32} {f : Nat → Int32} (hav : av = [.ref this, .int x, .int y]) (hL0 : z_L D Y0 this s.heap f) (hd0 : 0 ≤ (f 0).toInt ∧ (f 0).toInt ≤ 10)  :
    ∀ (n : Nat), ∀ (H : Heap) (Y : xY) (locs : List Loc) (ls : Array Slot) (j : Int32), x_I D x_G x_Zs U (x_efs xM4) Y0 s.heap Y H locs → Y this = some 2 → Y ax = some 19 → Y ay = some 20 → x_sl D 2 1 this H = some (.ref ax) → x_sl D 2 2 this H = some (.ref ay) → x_sl D 2 0 this H = some (.int (f 0)) → y_A ax 10 H (fun j => f (10 + 5 * j)) → y_A ay 10 H (fun j => f (11 + 5 * j)) → lv_has ls xM4.2.2.1 [(3, .int j), (0, .ref this), (1, .int x), (2, .int y)] → (0 ≤ j.toInt ∧ j.toInt ≤ (f 0).toInt) → (∀ i : Nat, (i : Int) < j.toInt → ¬ (f (10 + 5 * i) = x ∧ f (11 + 5 * i) = y)) → (11 - j.toInt).toNat < n → W p l e (x_rm xM4) s m av.toArray below meth c H locs 0 0 (y_QQ below D x_G x_Zs U xM4 z_Ptk av Y0 s) (F0 m 2 ls []) := by
  have X := B.1
  have hx := X.1
  have hb := X.2.1
  have hY0 := B.2.2.2.2.1
  intro n
  induction n with
  | zero => intro _ _ _ _ _ _ _ _ _ _ _ _ _ _ _ _ _ h; exact absurd h (Nat.not_lt_zero _)
  | succ n ih =>
    intro H Y locs ls j  hI hY_this hY_ax hY_ay hs_ax hs_ay hsi_hills hA_ax hA_ay hl hj hfr hn
    refine lv_iload_n hx hb tk_d2 rfl (lv_at hl 0 rfl) ?_
    refine lv_aload_n hx hb tk_d3 rfl (lv_at hl 1 rfl) ?_
    refine y_getf X (fl2 X.2.2.2.2.1) hI.1 hY_this rfl hsi_hills tk_d4 ?_
    refine lv_icmp_ge hx hb tk_d7 (tgt := 38) (by decide) (fun q7 => ?_) (fun q7 => ?_)
    · have q7_ : (f 0).toInt ≤ j.toInt := x_le32.mp q7
      refine lv_iconst hx hb tk_d38 (v := 0) (by decide) ?_
      have ec0 : (0 : Int32).toInt = 0 := by decide
      subst hav
      exact y_ireturn B hI rfl rfl rfl (List.mem_cons_of_mem _ List.mem_cons_self) ⟨_, rfl, ⟨_, rfl, by decide, by decide⟩⟩ (x_cs.mono B.2.2.2.2.2 (y_mon B hI)) (fun t' x' y' f' h1 h2 => by cases h1; cases h2.uniq hL0; exact ⟨_, rfl, fun q8 => absurd rfl q8, fun _ i hi => hfr i (by omega)⟩) (Nat.le_refl _) (Nat.le_refl _) tk_d39
    · have q7_ : j.toInt < (f 0).toInt := Int.not_le.mp fun q => q7 (x_le32.mpr q)
      refine lv_aload_n hx hb tk_d10 rfl (lv_at hl 1 rfl) ?_
      refine y_getf X (fl0 X.2.2.2.2.1) hI.1 hY_this rfl hs_ax tk_d11 ?_
      refine lv_iload_n hx hb tk_d14 rfl (lv_at hl 0 rfl) ?_
      refine y_iald X hI.1 hY_ax rfl hA_ax (by omega) (by show _ < (10 : Int); omega) tk_d15 ?_
      obtain ⟨e15, hg_e15⟩ : ∃ e15 : Int32, (fun j => f (10 + 5 * j)) j.toInt.toNat = e15 := ⟨_, rfl⟩
      rw [hg_e15]
      refine lv_iload_n hx hb tk_d16 rfl (lv_at hl 2 rfl) ?_
      refine lv_icmp_ne hx hb tk_d17 (tgt := 32) (by decide) (fun q17 => ?_) (fun q17 => ?_)
      · have q17_ : ¬ e15.toInt = x.toInt := fun q => q17 (Int32.toInt_inj.mp q)
        obtain ⟨z32, hg_z32⟩ : ∃ z32 : Int32, j + Int32.ofInt 1 = z32 := ⟨_, rfl⟩
        have h_z32 : z32.toInt = j.toInt + 1 := by rw [← hg_z32]; exact y_inc (by decide) (by omega) (by omega)
        refine lv_iinc hx hb tk_d32 hl (k := 0) rfl hg_z32 (by decide) (lv' := [(3, .int z32), (0, .ref this), (1, .int x), (2, .int y)]) rfl fun ls hl => ?_
        refine lv_goto hx hb tk_d35 (tgt := 2) (by decide) ?_
        exact ih _ _ _ _ _ hI hY_this hY_ax hY_ay hs_ax hs_ay hsi_hills hA_ax hA_ay (lv_sub hl [0, 1, 2, 3] rfl) (by first | assumption | omega) (fun i hi q8 => by by_cases ei : (i : Int) = j.toInt; (have ej : i = j.toInt.toNat := (by omega); subst ej; first | exact q27 (hg_e25.symm.trans q8.2) | exact q17 (hg_e15.symm.trans q8.1)); exact hfr i (by omega) q8) (by omega)
      · have q17_ : e15.toInt = x.toInt := by rw [q17]
        refine lv_aload_n hx hb tk_d20 rfl (lv_at hl 1 rfl) ?_
        refine y_getf X (fl1 X.2.2.2.2.1) hI.1 hY_this rfl hs_ay tk_d21 ?_
        refine lv_iload_n hx hb tk_d24 rfl (lv_at hl 0 rfl) ?_
        refine y_iald X hI.1 hY_ay rfl hA_ay (by omega) (by show _ < (10 : Int); omega) tk_d25 ?_
        obtain ⟨e25, hg_e25⟩ : ∃ e25 : Int32, (fun j => f (11 + 5 * j)) j.toInt.toNat = e25 := ⟨_, rfl⟩
        rw [hg_e25]
        refine lv_iload_n hx hb tk_d26 rfl (lv_at hl 3 rfl) ?_
        refine lv_icmp_ne hx hb tk_d27 (tgt := 32) (by decide) (fun q27 => ?_) (fun q27 => ?_)
        · have q27_ : ¬ e25.toInt = y.toInt := fun q => q27 (Int32.toInt_inj.mp q)
          obtain ⟨z32, hg_z32⟩ : ∃ z32 : Int32, j + Int32.ofInt 1 = z32 := ⟨_, rfl⟩
          have h_z32 : z32.toInt = j.toInt + 1 := by rw [← hg_z32]; exact y_inc (by decide) (by omega) (by omega)
          refine lv_iinc hx hb tk_d32 hl (k := 0) rfl hg_z32 (by decide) (lv' := [(3, .int z32), (0, .ref this), (1, .int x), (2, .int y)]) rfl fun ls hl => ?_
          refine lv_goto hx hb tk_d35 (tgt := 2) (by decide) ?_
          exact ih _ _ _ _ _ hI hY_this hY_ax hY_ay hs_ax hs_ay hsi_hills hA_ax hA_ay (lv_sub hl [0, 1, 2, 3] rfl) (by first | assumption | omega) (fun i hi q8 => by by_cases ei : (i : Int) = j.toInt; (have ej : i = j.toInt.toNat := (by omega); subst ej; first | exact q27 (hg_e25.symm.trans q8.2) | exact q17 (hg_e15.symm.trans q8.1)); exact hfr i (by omega) q8) (by omega)
        · have q27_ : e25.toInt = y.toInt := by rw [q27]
          refine lv_iconst hx hb tk_d30 (v := 1) (by decide) ?_
          have ec1 : (1 : Int32).toInt = 1 := by decide
          subst hav
          exact y_ireturn B hI rfl rfl rfl List.mem_cons_self ⟨_, rfl, ⟨_, rfl, by decide, by decide⟩⟩ (x_cs.mono B.2.2.2.2.2 (y_mon B hI)) (fun t' x' y' f' h1 h2 => by cases h1; cases h2.uniq hL0; exact ⟨_, rfl, fun _ q8 => q8 j.toInt.toNat (by omega) ⟨hg_e15.trans q17, hg_e25.trans q27⟩, fun q8 => absurd q8 (by decide)⟩) (Nat.le_refl _) (Nat.le_refl _) tk_d31
theorem ym_isTaken : y_Met vwCl x_G x_Zs x_Tb x_Nb xM4 z_AL z_Ptk := by
  refine y_main (by decide +kernel) (by decide +kernel) x_Tb_good x_Nb_ok ?_
  intro p l e s m below meth c D U Y0 av ls B hI hAL hl
  have X := B.1
  have hx := X.1
  have hb := X.2.1
  have hY0 := B.2.2.2.2.1
  obtain ⟨v0, v1, v2, rfl, hv0, ⟨x, rfl, -⟩, ⟨y, rfl, -⟩⟩ := y_three B.2.2.2.2.2
  obtain ⟨this, t0, rfl, ht0, hY_this⟩ := x_ref_at hv0 rfl
  obtain rfl := List.mem_singleton.mp ht0
  replace hl : lv_has ls xM4.2.2.1 [(0, .ref this), (1, .int x), (2, .int y)] := hl
  obtain ⟨f, hL⟩ := hAL _ rfl
  have hL0 := hL
  have hhi := hL.1.1
  have hF : z_fr D Y0 s.heap s.heap this := fun _ _ _ _ _ => rfl
  obtain ⟨ax, hs_ax, hY_ax, hA_ax⟩ := hL.2.1 (1, 19, 10, 10, 5) (by decide)
  replace hA_ax : y_A ax 10 s.heap (fun j => f (10 + 5 * j)) := hA_ax
  have hs0_ax := hs_ax
  obtain ⟨ay, hs_ay, hY_ay, hA_ay⟩ := hL.2.1 (2, 20, 10, 11, 5) (by decide)
  replace hA_ay : y_A ay 10 s.heap (fun j => f (11 + 5 * j)) := hA_ay
  have hs0_ay := hs_ay
  have hsi_hills := hhi
  have hs_ax := hs_ax
  have hd0 : 0 ≤ (f 0).toInt ∧ (f 0).toInt ≤ 10 := by
    obtain ⟨x9, e9, b9⟩ := y_fldI (k := 0) hI.1 hY_this rfl rfl
    rw [hhi] at e9
    cases e9
    exact b9
  refine lv_iconst hx hb tk_d0 (v := 0) (by decide) ?_
  have ec0 : (0 : Int32).toInt = 0 := by decide
  refine lv_istore_n hx hb tk_d1 rfl hl (by decide) (lv' := [(3, .int (0 : Int32)), (0, .ref this), (1, .int x), (2, .int y)]) rfl fun ls hl => ?_
  exact tk_L2 B rfl hL0 hd0 12 _ _ _ _ _ hI hY_this hY_ax hY_ay hs_ax hs_ay hsi_hills hA_ax hA_ay (lv_sub hl [0, 1, 2, 3] rfl) (by first | assumption | omega) (fun i hi => absurd hi (by omega)) (by omega)
