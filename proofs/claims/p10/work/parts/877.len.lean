theorem fw_ak_240 {s : State} {args : Array Value} {mn : String} (hts : ∀ w ∈ x_Tb, w.before args s = true) : x_pok vwCl x_G x_Tb s args "TwinFires$Text" mn (22, 4, 2) := ⟨7, _, RX7, TX7, "TwinFires$Text", tyX7, _, rfl, rfl, Nat.le_of_ble_eq_true rfl, iX7, (hts _ (x_at 234 (by decide +kernel) rfl)), fun x h => h, tyX7_ok, nmX7, rfl, x_fitI _ _, Or.inl rfl⟩
def z_typ (n ln r l' : Int32) : Prop := (¬ (1 ≤ n.toInt ∧ n.toInt ≤ 8) → r.toInt = -2 ∧ l' = ln) ∧ (1 ≤ n.toInt ∧ n.toInt ≤ 8 → 240 < ln.toInt + n.toInt → r.toInt = -4 ∧ l' = ln) ∧ (1 ≤ n.toInt ∧ n.toInt ≤ 8 → ln.toInt + n.toInt ≤ 240 → r.toInt = ln.toInt + n.toInt ∧ l'.toInt = ln.toInt + n.toInt)
theorem z_typ.eq {n ln r r2 l1 l2 : Int32} (h1 : z_typ n ln r l1) (h2 : z_typ n ln r2 l2) : r = r2 ∧ l1 = l2 := by
  by_cases hn : 1 ≤ n.toInt ∧ n.toInt ≤ 8
  · by_cases hl : ln.toInt + n.toInt ≤ 240
    · have a := h1.2.2 hn hl
      have b := h2.2.2 hn hl
      exact ⟨Int32.toInt_inj.mp (by omega), Int32.toInt_inj.mp (by omega)⟩
    · have a := h1.2.1 hn (by omega)
      have b := h2.2.1 hn (by omega)
      exact ⟨Int32.toInt_inj.mp (by omega), a.2.trans b.2.symm⟩
  · have a := h1.1 hn
    have b := h2.1 hn
    exact ⟨Int32.toInt_inj.mp (by omega), a.2.trans b.2.symm⟩
def z_Pty (ci k : Nat) : yP := fun D av Y H v Y' H' => ∀ (this : Nat) (w : Int64) (n ln : Int32), av = [.ref this, .long w, .int n] → x_sl D ci k this H = some (.int ln) → ∃ r l' : Int32, v = some (.int r) ∧ x_sl D ci k this H' = some (.int l') ∧ z_typ n ln r l'
def z_Ptt : yP := fun D av Y H v Y' H' => ∀ (this tx : Nat) (w : Int64) (n ln : Int32), av = [.ref this, .long w, .int n] → x_sl D 11 3 this H = some (.ref tx) → x_sl D 7 2 tx H = some (.int ln) → ∃ r l' : Int32, v = some (.int r) ∧ x_sl D 7 2 tx H' = some (.int l') ∧ z_typ n ln r l'
def z_Pcl : yP := fun D av Y H v Y' H' => ∀ (this : Nat) (ln : Int32), av = [.ref this] → x_sl D 12 10 this H = some (.int ln) → v = some (.int ln) ∧ x_sl D 12 10 this H' = some (.int 0)
def z_Pct : yP := fun D av Y H v Y' H' => ∀ (this tx : Nat) (ln : Int32), av = [.ref this] → x_sl D 11 3 this H = some (.ref tx) → x_sl D 7 2 tx H = some (.int ln) → v = some (.int ln) ∧ x_sl D 7 2 tx H' = some (.int 0)
theorem y_cokSN {p : Program} {l : Launch} {e : Env} {R : Room} {s : State} {m : MethodId} {args : Array Value} {below : List Frame} {meth : Method} {c : Code} {D : va_G} {G : List xG} {Zs : List xZ} {U : State} {nL : Nat} {cc : ByteArray} {cl : List vw_C} {Tb Nb : List Cond} {own : String} {M : xM} {A : yA} {P : yP} {idx n : Nat} {host : String} (X : x_cx p s m args c D U cc nL cl Tb Nb own) (hM : y_Met cl G Zs Tb Nb M A P) (h : ∀ w ∈ [Cond.static M.1, .initialized M.1.cls], w ∈ Tb) (hl : Cond.methodLinkNest own idx M.1 host ∈ Nb) (hc : Cond.code M.1 M.2.1 M.2.2.1 M.2.2.2.1 ∈ Tb)
    (hd : M.1.cls ≠ "java/lang/invoke/MethodHandle" ∧ M.1.cls ≠ "java/lang/invoke/VarHandle" ∧ (parseMethodDescriptor M.1.desc).map (fun d => d.parameters.length) = some n) (hR : (x_rm M).frames + 1 ≤ R.frames ∧ 8 + (M.2.2.1 + 11) + (x_rm M).locals ≤ R.locals) :
    y_cok p l e R s m args below meth c D G Zs U nL cc (1, idx, n, none, M) A P := by
  intro H locs cells slots pc ls rest av Y hdec hls hrest hcl hsl hH hcs hlen hrt hA
  obtain ⟨hx, hb, hml, hown, hts, hK, hK0, hU, hNw, hG, hN⟩ := X
  exact va_runSN (As := av) (rest := rest) (Ts := Tb) (host := host) ⟨hx, hb, hml, hown, hts⟩ (hM l D U Y H.size av hK0 hcs) ⟨va_cnB n hts (x_good (ws := []) hG (fun w hw => by cases hw) hc) rfl rfl rfl (hNw _ hl) (hts _ (h _ (by simp))) hd hR, hts _ (h _ (by simp)), trivial⟩ ⟨y_blind hN, y_pre hN hNw hU hH hA⟩ rfl hlen hls rfl (lv_room hrest) hdec ⟨hcl, hsl⟩
theorem ak_d0 : decode xMad.2.1 0 = .ok (.iload_n 3, 1) := by decide +kernel
theorem ak_d1 : decode xMad.2.1 1 = .ok (.iconst 1, 1) := by decide +kernel
theorem ak_d2 : decode xMad.2.1 2 = .ok (.bipush 8, 2) := by decide +kernel
theorem ak_d4 : decode xMad.2.1 4 = .ok (.invokestatic 18, 3) := by decide +kernel
theorem ak_d7 : decode xMad.2.1 7 = .ok (.ifCond .ne 6, 3) := by decide +kernel
theorem ak_d10 : decode xMad.2.1 10 = .ok (.bipush (-2), 2) := by decide +kernel
theorem ak_d12 : decode xMad.2.1 12 = .ok (.ireturn, 1) := by decide +kernel
theorem ak_d13 : decode xMad.2.1 13 = .ok (.aload_n 0, 1) := by decide +kernel
theorem ak_d14 : decode xMad.2.1 14 = .ok (.getfield 22, 3) := by decide +kernel
theorem ak_d17 : decode xMad.2.1 17 = .ok (.iload_n 3, 1) := by decide +kernel
theorem ak_d18 : decode xMad.2.1 18 = .ok (.iadd, 1) := by decide +kernel
theorem ak_d19 : decode xMad.2.1 19 = .ok (.sipush 240, 3) := by decide +kernel
theorem ak_d22 : decode xMad.2.1 22 = .ok (.if_icmp .le 6, 3) := by decide +kernel
theorem ak_d25 : decode xMad.2.1 25 = .ok (.bipush (-4), 2) := by decide +kernel
theorem ak_d27 : decode xMad.2.1 27 = .ok (.ireturn, 1) := by decide +kernel
theorem ak_d28 : decode xMad.2.1 28 = .ok (.iload_n 3, 1) := by decide +kernel
theorem ak_d29 : decode xMad.2.1 29 = .ok (.iconst 1, 1) := by decide +kernel
theorem ak_d30 : decode xMad.2.1 30 = .ok (.isub, 1) := by decide +kernel
theorem ak_d31 : decode xMad.2.1 31 = .ok (.istore 4, 2) := by decide +kernel
theorem ak_d33 : decode xMad.2.1 33 = .ok (.iload 4, 2) := by decide +kernel
theorem ak_d35 : decode xMad.2.1 35 = .ok (.ifCond .lt 40, 3) := by decide +kernel
theorem ak_d38 : decode xMad.2.1 38 = .ok (.aload_n 0, 1) := by decide +kernel
theorem ak_d39 : decode xMad.2.1 39 = .ok (.getfield 9, 3) := by decide +kernel
theorem ak_d42 : decode xMad.2.1 42 = .ok (.aload_n 0, 1) := by decide +kernel
theorem ak_d43 : decode xMad.2.1 43 = .ok (.getfield 22, 3) := by decide +kernel
theorem ak_d46 : decode xMad.2.1 46 = .ok (.lload_n 1, 1) := by decide +kernel
theorem ak_d47 : decode xMad.2.1 47 = .ok (.bipush 8, 2) := by decide +kernel
theorem ak_d49 : decode xMad.2.1 49 = .ok (.iload 4, 2) := by decide +kernel
theorem ak_d51 : decode xMad.2.1 51 = .ok (.imul, 1) := by decide +kernel
theorem ak_d52 : decode xMad.2.1 52 = .ok (.lushr, 1) := by decide +kernel
theorem ak_d53 : decode xMad.2.1 53 = .ok (.l2i, 1) := by decide +kernel
theorem ak_d54 : decode xMad.2.1 54 = .ok (.sipush 255, 3) := by decide +kernel
theorem ak_d57 : decode xMad.2.1 57 = .ok (.iand, 1) := by decide +kernel
theorem ak_d58 : decode xMad.2.1 58 = .ok (.iastore, 1) := by decide +kernel
theorem ak_d59 : decode xMad.2.1 59 = .ok (.aload_n 0, 1) := by decide +kernel
theorem ak_d60 : decode xMad.2.1 60 = .ok (.dup, 1) := by decide +kernel
theorem ak_d61 : decode xMad.2.1 61 = .ok (.getfield 22, 3) := by decide +kernel
theorem ak_d64 : decode xMad.2.1 64 = .ok (.iconst 1, 1) := by decide +kernel
theorem ak_d65 : decode xMad.2.1 65 = .ok (.iadd, 1) := by decide +kernel
theorem ak_d66 : decode xMad.2.1 66 = .ok (.putfield 22, 3) := by decide +kernel
theorem ak_d69 : decode xMad.2.1 69 = .ok (.iinc 4 (-1), 3) := by decide +kernel
theorem ak_d72 : decode xMad.2.1 72 = .ok (.goto (-39), 3) := by decide +kernel
theorem ak_d75 : decode xMad.2.1 75 = .ok (.aload_n 0, 1) := by decide +kernel
theorem ak_d76 : decode xMad.2.1 76 = .ok (.getfield 22, 3) := by decide +kernel
theorem ak_d79 : decode xMad.2.1 79 = .ok (.ireturn, 1) := by decide +kernel
theorem ak_L33 {p : Program} {l : Launch} {e : Env} {s : State} {m : MethodId} {below : List Frame} {meth : Method} {c : Code} {D : va_G} {U : State} {Y0 : xY} {av : List Value} (B : y_B vwCl x_Tb x_Nb xMad p s m meth c D U Y0 av) {this : Nat} {v : Int64} {nn ln : Int32} (hav : av = [.ref this, .long v, .int nn]) (hs0 : x_sl D 7 2 this s.heap = some (.int ln)) (hnn : 1 ≤ nn.toInt ∧ nn.toInt ≤ 8) (hfit : ln.toInt + nn.toInt ≤ 240)  :
    ∀ (n : Nat), ∀ (H : Heap) (Y : xY) (locs : List Loc) (ls : Array Slot) (k : Int32) (ty : Int32), x_I D x_G x_Zs U (x_efs xMad) Y0 s.heap Y H locs → Y this = some 4 → x_sl D 7 2 this H = some (.int ty) → lv_has ls xMad.2.2.1 [(4, .int k), (0, .ref this), (1, .long v), (3, .int nn)] → (-1 ≤ k.toInt ∧ k.toInt ≤ 7) → (0 ≤ ty.toInt ∧ ty.toInt + k.toInt + 1 = ln.toInt + nn.toInt) → (k.toInt + 1).toNat < n → W p l e (x_rm xMad) s m av.toArray below meth c H locs 0 0 (y_QQ below D x_G x_Zs U xMad (z_Pty 7 2) av Y0 s) (F0 m 33 ls []) := by
  have X := B.1
  have hx := X.1
  have hb := X.2.1
  have hY0 := B.2.2.2.2.1
  intro n
  induction n with
  | zero => intro _ _ _ _ _ _ _ _ _ _ _ _ h; exact absurd h (Nat.not_lt_zero _)
  | succ n ih =>
    intro H Y locs ls k ty  hI hY_this hsi_length hl hk hty hn
    refine lv_iload hx hb ak_d33 (lv_at hl 0 rfl) ?_
    have ec0 : (0 : Int32).toInt = 0 := by decide
    refine lv_if_lt hx hb ak_d35 (tgt := 75) (by decide) (fun q35 => ?_) (fun q35 => ?_)
    · have q35_ : k.toInt < (0 : Int32).toInt := x_lt32.mp q35
      refine lv_aload_n hx hb ak_d75 rfl (lv_at hl 1 rfl) ?_
      refine y_getf X (fl131 X.2.2.2.2.1) hI.1 hY_this rfl hsi_length ak_d76 ?_
      subst hav
      exact y_ireturn B hI rfl rfl rfl List.mem_cons_self ⟨_, rfl, ⟨_, rfl, x_i32 _⟩⟩ (x_cs.mono B.2.2.2.2.2 (y_mon B hI)) (fun t' w' n' ln' h1 h2 => by cases h1; cases h2.symm.trans hs0; exact ⟨_, _, rfl, hsi_length, ⟨fun h => absurd (by omega) h, fun _ h => absurd h (by omega), fun _ _ => ⟨by omega, by omega⟩⟩⟩) (Nat.le_refl _) (Nat.le_refl _) ak_d79
    · have q35_ : (0 : Int32).toInt ≤ k.toInt := Int.not_lt.mp fun q => q35 (x_lt32.mpr q)
      refine lv_aload_n hx hb ak_d38 rfl (lv_at hl 1 rfl) ?_
      obtain ⟨this_bytes, hs_this_bytes, hY_this_bytes⟩ := y_fldR (k := 0) hI.1 hY_this rfl rfl
      refine y_getf X (fl130 X.2.2.2.2.1) hI.1 hY_this rfl hs_this_bytes ak_d39 ?_
      refine lv_aload_n hx hb ak_d42 rfl (lv_at hl 1 rfl) ?_
      refine y_getf X (fl131 X.2.2.2.2.1) hI.1 hY_this rfl hsi_length ak_d43 ?_
      refine lv_lload_n hx hb ak_d46 rfl (lv_at hl 2 rfl) ?_
      refine lv_bipush hx hb ak_d47 (v := 8) (by decide) ?_
      have ec8 : (8 : Int32).toInt = 8 := by decide
      refine lv_iload hx hb ak_d49 (lv_at hl 0 rfl) ?_
      refine lv_imul hx hb ak_d51 ?_
      generalize hg_z51 : (8 : Int32) * k = z51
      obtain ⟨z52, hg_z52⟩ : ∃ z52 : Int64, ((v).toUInt64 >>> ((z51).toInt64.toUInt64 &&& Int64.toUInt64 63)).toInt64 = z52 := ⟨_, rfl⟩
      refine lv_lushr hx hb ak_d52 (v := z52) hg_z52 ?_
      obtain ⟨z53, hg_z53⟩ : ∃ z53 : Int32, (z52).toInt32 = z53 := ⟨_, rfl⟩
      refine lv_l2i hx hb ak_d53 (v := z53) hg_z53 ?_
      refine lv_sipush hx hb ak_d54 (v := 255) (by decide) ?_
      have ec255 : (255 : Int32).toInt = 255 := by decide
      refine lv_iand hx hb ak_d57 ?_
      generalize hg_z57 : z53 &&& (255 : Int32) = z57
      obtain ⟨f_this_bytes, hA_this_bytes, hB_this_bytes⟩ := y_arr hI.1 hY_this_bytes rfl rfl
      refine y_iast X hY0 hI hY_this_bytes rfl hA_this_bytes (by omega) (by show _ < (240 : Int); omega) ⟨_, rfl, x_i32 _⟩ (by decide +kernel) ak_d58 fun H locs hI h_new ho => ?_
      replace hA_this_bytes := h_new
      generalize hf_f58 : y_up f_this_bytes ty.toInt.toNat z57 = f58 at hA_this_bytes
      replace hsi_length := y_slk hsi_length (ho _ (y_ne hY_this hY_this_bytes rfl))
      replace hs_this_bytes := y_slk hs_this_bytes (ho _ (y_ne hY_this hY_this_bytes rfl))
      refine lv_aload_n hx hb ak_d59 rfl (lv_at hl 1 rfl) ?_
      refine lv_dup hx hb ak_d60 rfl ?_
      refine y_getf X (fl131 X.2.2.2.2.1) hI.1 hY_this rfl hsi_length ak_d61 ?_
      refine lv_iconst hx hb ak_d64 (v := 1) (by decide) ?_
      have ec1 : (1 : Int32).toInt = 1 := by decide
      refine lv_iadd hx hb ak_d65 ?_
      generalize hg_z65 : ty + (1 : Int32) = z65
      have h_z65 : z65.toInt = ty.toInt + 1 := by rw [← hg_z65]; have := y_add (x := ty) (y := (1 : Int32)) (by rw [ec1]; omega) (by rw [ec1]; omega); rw [ec1] at this; exact this
      refine y_putf X (fw_ak_240 X.2.2.2.2.1) hY0 hI hY_this rfl rfl ⟨_, rfl, by show (0 : Int) ≤ _; omega, by show _ ≤ (240 : Int); omega⟩ (by decide +kernel) ak_d66 fun H sl hI ho hs hk => ?_
      replace hs_this_bytes := hk _ _ (by decide +kernel) (by decide) hs_this_bytes
      replace hA_this_bytes := hA_this_bytes.kept (ho _ (y_ne hY_this_bytes hY_this rfl))
      replace hs := hs
      replace hsi_length := hs
      obtain ⟨z69, hg_z69⟩ : ∃ z69 : Int32, k + Int32.ofInt (-1) = z69 := ⟨_, rfl⟩
      have h_z69 : z69.toInt = k.toInt + (-1) := by rw [← hg_z69]; exact y_inc (by decide) (by omega) (by omega)
      refine lv_iinc hx hb ak_d69 hl (k := 0) rfl hg_z69 (by decide) (lv' := [(4, .int z69), (0, .ref this), (1, .long v), (3, .int nn)]) rfl fun ls hl => ?_
      refine lv_goto hx hb ak_d72 (tgt := 33) (by decide) ?_
      exact ih _ _ _ _ _ _ hI hY_this hsi_length (lv_sub hl [0, 1, 2, 3] rfl) (by first | assumption | omega) (by first | assumption | omega) (by omega)
theorem ym_addK : y_Met vwCl x_G x_Zs x_Tb x_Nb xMad y_T (z_Pty 7 2) := by
  refine y_main (by decide +kernel) (by decide +kernel) x_Tb_good x_Nb_ok ?_
  intro p l e s m below meth c D U Y0 av ls B hI _ hl
  have X := B.1
  have hx := X.1
  have hb := X.2.1
  have hY0 := B.2.2.2.2.1
  obtain ⟨v0, v1, v2, rfl, hv0, ⟨v, rfl, -⟩, ⟨nn, rfl, -⟩⟩ := y_three B.2.2.2.2.2
  obtain ⟨this, t0, rfl, ht0, hY_this⟩ := x_ref_at hv0 rfl
  obtain rfl := List.mem_singleton.mp ht0
  replace hl : lv_has ls xMad.2.2.1 [(0, .ref this), (1, .long v), (3, .int nn)] := hl
  obtain ⟨ty, hsi_length, h_ty⟩ := y_fldI (k := 2) hI.1 hY_this rfl rfl
  replace h_ty : (0 : Int) ≤ ty.toInt ∧ ty.toInt ≤ 240 := h_ty
  have hs0 := hsi_length
  refine lv_iload_n hx hb ak_d0 rfl (lv_at hl 2 rfl) ?_
  refine lv_iconst hx hb ak_d1 (v := 1) (by decide) ?_
  have ec1 : (1 : Int32).toInt = 1 := by decide
  refine lv_bipush hx hb ak_d2 (v := 8) (by decide) ?_
  have ec8 : (8 : Int32).toInt = 8 := by decide
  refine y_call (z := (1, 18, 3, none, xM10)) (av := [.int nn, .int (1 : Int32), .int (8 : Int32)]) (rest := []) (y_cokSN (n := 3) (host := "TwinFires") X ym_within (x_cons (x_at 369 (by decide +kernel) rfl) (x_cons (x_at 65 (by decide +kernel) rfl) x_nilm)) (x_nt 614 (by decide +kernel) rfl) (x_at 370 (by decide +kernel) rfl) (by decide +kernel) ⟨Nat.le_of_ble_eq_true rfl, Nat.le_of_ble_eq_true rfl⟩) hY0 hI rfl ak_d4 hl.1 (Nat.le_of_ble_eq_true rfl) (Nat.le_of_ble_eq_true rfl) (Nat.le_of_ble_eq_true rfl) (y_cons ⟨_, rfl, x_i32 _⟩ (y_cons ⟨_, rfl, x_i32 _⟩ (y_cons ⟨_, rfl, x_i32 _⟩ y_nil))) rfl (y_norecv rfl) trivial (y_sub_ef rfl) fun v_ Yn o Hn L ho hr ha hIn hx_ hE hP => ?_
  replace hsi_length := y_Efld hE hY_this rfl (by decide) (by decide) hsi_length
  replace hY_this := y_ext hx_ hI.1 hY_this
  obtain ⟨r4, rfl, hin_r4, hout_r4⟩ := hP _ _ _ rfl
  clear ho hr ha hE hP hI hx_
  rename x_I _ _ _ _ _ _ _ _ _ _ => hI
  have ec0 : (0 : Int32).toInt = 0 := by decide
  refine lv_if_ne hx hb ak_d7 (tgt := 13) (by decide) (fun q7 => ?_) (fun q7 => ?_)
  · have q7_ : ¬ r4.toInt = (0 : Int32).toInt := fun q => q7 (Int32.toInt_inj.mp q)
    have hnn := hin_r4 q7
    refine lv_aload_n hx hb ak_d13 rfl (lv_at hl 0 rfl) ?_
    refine y_getf X (fl131 X.2.2.2.2.1) hI.1 hY_this rfl hsi_length ak_d14 ?_
    refine lv_iload_n hx hb ak_d17 rfl (lv_at hl 2 rfl) ?_
    refine lv_iadd hx hb ak_d18 ?_
    generalize hg_z18 : ty + nn = z18
    have h_z18 : z18.toInt = ty.toInt + nn.toInt := by rw [← hg_z18]; have := y_add (x := ty) (y := nn) (by omega) (by omega); exact this
    refine lv_sipush hx hb ak_d19 (v := 240) (by decide) ?_
    have ec240 : (240 : Int32).toInt = 240 := by decide
    refine lv_icmp_le hx hb ak_d22 (tgt := 28) (by decide) (fun q22 => ?_) (fun q22 => ?_)
    · have q22_ : z18.toInt ≤ (240 : Int32).toInt := x_le32.mp q22
      refine lv_iload_n hx hb ak_d28 rfl (lv_at hl 2 rfl) ?_
      refine lv_iconst hx hb ak_d29 (v := 1) (by decide) ?_
      refine lv_isub hx hb ak_d30 ?_
      generalize hg_z30 : nn - (1 : Int32) = z30
      have h_z30 : z30.toInt = nn.toInt - 1 := by rw [← hg_z30]; have := y_sub (x := nn) (y := (1 : Int32)) (by rw [ec1]; omega) (by rw [ec1]; omega); rw [ec1] at this; exact this
      refine lv_istore hx hb ak_d31 hl (by decide) (lv' := [(4, .int z30), (0, .ref this), (1, .long v), (3, .int nn)]) rfl fun ls hl => ?_
      have hnn1 : 1 ≤ nn.toInt ∧ nn.toInt ≤ 8 := by omega
      have hfit : ty.toInt + nn.toInt ≤ 240 := by omega
      exact ak_L33 B rfl hs0 hnn1 hfit 20 _ _ _ _ _ _ hI hY_this hsi_length (lv_sub hl [0, 1, 2, 3] rfl) (by first | assumption | omega) (by first | assumption | omega) (by omega)
    · have q22_ : (240 : Int32).toInt < z18.toInt := Int.not_le.mp fun q => q22 (x_le32.mpr q)
      refine lv_bipush hx hb ak_d25 (v := (-4)) (by decide) ?_
      have ecm4 : ((-4) : Int32).toInt = (-4) := by decide
      exact y_ireturn B hI rfl rfl rfl List.mem_cons_self ⟨_, rfl, ⟨_, rfl, x_i32 _⟩⟩ (x_cs.mono B.2.2.2.2.2 (y_mon B hI)) (fun t' w' n' ln' h1 h2 => by cases h1; cases h2.symm.trans hs0; exact ⟨_, _, rfl, hsi_length, ⟨fun h => absurd (by omega) h, fun _ _ => ⟨by decide, rfl⟩, fun _ h => absurd h (by omega)⟩⟩) (Nat.le_refl _) (Nat.le_refl _) ak_d27
  · have q7_ : r4.toInt = (0 : Int32).toInt := by rw [q7]
    have hno := hout_r4 q7
    refine lv_bipush hx hb ak_d10 (v := (-2)) (by decide) ?_
    have ecm2 : ((-2) : Int32).toInt = (-2) := by decide
    exact y_ireturn B hI rfl rfl rfl List.mem_cons_self ⟨_, rfl, ⟨_, rfl, x_i32 _⟩⟩ (x_cs.mono B.2.2.2.2.2 (y_mon B hI)) (fun t' w' n' ln' h1 h2 => by cases h1; cases h2.symm.trans hs0; exact ⟨_, _, rfl, hsi_length, ⟨fun _ => ⟨by decide, rfl⟩, fun h => absurd h (by omega), fun h => absurd h (by omega)⟩⟩) (Nat.le_refl _) (Nat.le_refl _) ak_d12
theorem tk_d0 : decode xM1023.2.1 0 = .ok (.aload_n 0, 1) := by decide +kernel
theorem tk_d1 : decode xM1023.2.1 1 = .ok (.aload_n 0, 1) := by decide +kernel
theorem tk_d2 : decode xM1023.2.1 2 = .ok (.getfield 26, 3) := by decide +kernel
theorem tk_d5 : decode xM1023.2.1 5 = .ok (.lload_n 1, 1) := by decide +kernel
theorem tk_d6 : decode xM1023.2.1 6 = .ok (.iload_n 3, 1) := by decide +kernel
theorem tk_d7 : decode xM1023.2.1 7 = .ok (.invokevirtual 141, 3) := by decide +kernel
theorem tk_d10 : decode xM1023.2.1 10 = .ok (.invokevirtual 59, 3) := by decide +kernel
theorem tk_d13 : decode xM1023.2.1 13 = .ok (.ireturn, 1) := by decide +kernel
theorem ym_ttype : y_Met vwCl x_G x_Zs x_Tb x_Nb xM1023 y_T z_Ptt := by
  refine y_main (by decide +kernel) (by decide +kernel) x_Tb_good x_Nb_ok ?_
  intro p l e s m below meth c D U Y0 av ls B hI _ hl
  have X := B.1
  have hx := X.1
  have hb := X.2.1
  have hY0 := B.2.2.2.2.1
  obtain ⟨v0, v1, v2, rfl, hv0, ⟨v, rfl, -⟩, ⟨nn, rfl, -⟩⟩ := y_three B.2.2.2.2.2
  obtain ⟨this, t0, rfl, ht0, hY_this⟩ := x_ref_at hv0 rfl
  obtain rfl := List.mem_singleton.mp ht0
  replace hl : lv_has ls xM1023.2.2.1 [(0, .ref this), (1, .long v), (3, .int nn)] := hl
  obtain ⟨tx, hs_tx, hY_tx⟩ := y_fldR (k := 3) hI.1 hY_this rfl rfl
  obtain ⟨ln, hs_ln, h_ln⟩ := y_fldI (k := 2) hI.1 hY_tx rfl rfl
  have hs0 := hs_tx
  have hs1 := hs_ln
  refine lv_aload_n hx hb tk_d0 rfl (lv_at hl 0 rfl) ?_
  refine lv_aload_n hx hb tk_d1 rfl (lv_at hl 0 rfl) ?_
  refine y_getf X (fl120 X.2.2.2.2.1) hI.1 hY_this rfl hs_tx tk_d2 ?_
  refine lv_lload_n hx hb tk_d5 rfl (lv_at hl 1 rfl) ?_
  refine lv_iload_n hx hb tk_d6 rfl (lv_at hl 2 rfl) ?_
  refine y_call (z := (0, 141, 3, some 4, xMad)) (av := [.ref tx, .long v, .int nn]) (rest := [.ref this]) (y_cokV (n := 2) (ci := 7) X ym_addK rfl rfl rfl (x_cons (x_at 610 (by decide +kernel) rfl) (x_cons (x_at 611 (by decide +kernel) rfl) (x_cons (x_at 612 (by decide +kernel) rfl) (x_cons (x_at 69 (by decide +kernel) rfl) x_nilm)))) (x_at 613 (by decide +kernel) rfl) (by decide +kernel) ⟨Nat.le_of_ble_eq_true rfl, Nat.le_of_ble_eq_true rfl⟩) hY0 hI rfl tk_d7 hl.1 (Nat.le_of_ble_eq_true rfl) (Nat.le_of_ble_eq_true rfl) (Nat.le_of_ble_eq_true rfl) (y_cons (y_cref hY_tx rfl) (y_cons ⟨_, rfl, x_i64 _⟩ (y_cons ⟨_, rfl, x_i32 _⟩ y_nil))) rfl (y_recv rfl hY_tx) trivial (y_sub_ef rfl) fun v Yn o Hn L ho hr ha hIn hx_ hE hP => ?_
  have hPa := hP _ _ _ _ rfl hs_ln
  replace hs_tx := y_Efld hE hY_this rfl (by decide) (by decide) hs_tx
  replace hY_this := y_ext hx_ hI.1 hY_this
  replace hY_tx := y_ext hx_ hI.1 hY_tx
  obtain ⟨r7, l7, rfl, hs_ln, hz⟩ := hPa
  clear ho hr ha hE hP hI hx_
  rename x_I _ _ _ _ _ _ _ _ _ _ => hI
  refine y_call (z := (0, 59, 2, some 0, xM8)) (av := [.ref this, .int r7]) (rest := []) (y_cokV (n := 1) (ci := 11) X ym_counted rfl rfl rfl (x_cons (x_at 375 (by decide +kernel) rfl) (x_cons (x_at 377 (by decide +kernel) rfl) (x_cons (x_at 1 (by decide +kernel) rfl) (x_cons (x_at 65 (by decide +kernel) rfl) x_nilm)))) (x_at 378 (by decide +kernel) rfl) (by decide +kernel) ⟨Nat.le_of_ble_eq_true rfl, Nat.le_of_ble_eq_true rfl⟩) hY0 hI rfl tk_d10 hl.1 (Nat.le_of_ble_eq_true rfl) (Nat.le_of_ble_eq_true rfl) (Nat.le_of_ble_eq_true rfl) (y_cons (y_cref hY_this rfl) (y_cons ⟨_, rfl, x_i32 _⟩ y_nil)) rfl (y_recv rfl hY_this) trivial (y_sub_ef rfl) fun v Yn o Hn L ho hr ha hIn hx_ hE hP => ?_
  replace hs_tx := y_Efld hE hY_this rfl (by decide) (by decide) hs_tx
  replace hs_ln := y_Efld hE hY_tx rfl (by decide) (by decide) hs_ln
  replace hY_this := y_ext hx_ hI.1 hY_this
  replace hY_tx := y_ext hx_ hI.1 hY_tx
  obtain rfl := hP _ _ rfl
  clear ho hr ha hE hP hI hx_
  rename x_I _ _ _ _ _ _ _ _ _ _ => hI
  exact y_ireturn B hI rfl rfl rfl List.mem_cons_self ⟨_, rfl, ⟨_, rfl, x_i32 _⟩⟩ (x_cs.mono B.2.2.2.2.2 (y_mon B hI)) (fun t' x' w' n' ln' h1 h2 h3 => by cases h1; cases h2.symm.trans hs0; cases h3.symm.trans hs1; exact ⟨_, _, rfl, hs_ln, hz⟩) (Nat.le_refl _) (Nat.le_refl _) tk_d13
theorem ck_d0 : decode xM57.2.1 0 = .ok (.aload_n 0, 1) := by decide +kernel
theorem ck_d1 : decode xM57.2.1 1 = .ok (.getfield 26, 3) := by decide +kernel
theorem ck_d4 : decode xM57.2.1 4 = .ok (.getfield 145, 3) := by decide +kernel
theorem ck_d7 : decode xM57.2.1 7 = .ok (.istore_n 1, 1) := by decide +kernel
theorem ck_d8 : decode xM57.2.1 8 = .ok (.aload_n 0, 1) := by decide +kernel
theorem ck_d9 : decode xM57.2.1 9 = .ok (.getfield 26, 3) := by decide +kernel
theorem ck_d12 : decode xM57.2.1 12 = .ok (.iconst 0, 1) := by decide +kernel
theorem ck_d13 : decode xM57.2.1 13 = .ok (.putfield 145, 3) := by decide +kernel
theorem ck_d16 : decode xM57.2.1 16 = .ok (.iload_n 1, 1) := by decide +kernel
theorem ck_d17 : decode xM57.2.1 17 = .ok (.ireturn, 1) := by decide +kernel
theorem ym_tclear : y_Met vwCl x_G x_Zs x_Tb x_Nb xM57 y_T z_Pct := by
  refine y_main (by decide +kernel) (by decide +kernel) x_Tb_good x_Nb_ok ?_
  intro p l e s m below meth c D U Y0 av ls B hI _ hl
  have X := B.1
  have hx := X.1
  have hb := X.2.1
  have hY0 := B.2.2.2.2.1
  obtain ⟨v0, rfl, hv0⟩ := x_one B.2.2.2.2.2
  obtain ⟨this, t0, rfl, ht0, hY_this⟩ := x_ref_at hv0 rfl
  obtain rfl := List.mem_singleton.mp ht0
  replace hl : lv_has ls xM57.2.2.1 [(0, .ref this)] := hl
  obtain ⟨tx, hs_tx, hY_tx⟩ := y_fldR (k := 3) hI.1 hY_this rfl rfl
  obtain ⟨ln, hs_ln, h_ln⟩ := y_fldI (k := 2) hI.1 hY_tx rfl rfl
  have hs0 := hs_tx
  have hs1 := hs_ln
  refine lv_aload_n hx hb ck_d0 rfl (lv_at hl 0 rfl) ?_
  refine y_getf X (fl120 X.2.2.2.2.1) hI.1 hY_this rfl hs_tx ck_d1 ?_
  refine y_getf X (fl121 X.2.2.2.2.1) hI.1 hY_tx rfl hs_ln ck_d4 ?_
  refine lv_istore_n hx hb ck_d7 rfl hl (by decide) (lv' := [(1, .int ln), (0, .ref this)]) rfl fun ls hl => ?_
  refine lv_aload_n hx hb ck_d8 rfl (lv_at hl 1 rfl) ?_
  refine y_getf X (fl120 X.2.2.2.2.1) hI.1 hY_this rfl hs_tx ck_d9 ?_
  refine lv_iconst hx hb ck_d12 (v := 0) (by decide) ?_
  have ec0 : (0 : Int32).toInt = 0 := by decide
  refine y_putf X (fw122 X.2.2.2.2.1) hY0 hI hY_tx rfl rfl ⟨_, rfl, by show (0 : Int) ≤ _; omega, by show _ ≤ (240 : Int); omega⟩ (by decide +kernel) ck_d13 fun H sl hI ho hs hk => ?_
  replace hs_tx := y_slk hs_tx (ho _ (y_ne hY_this hY_tx rfl))
  replace hs := hs
  replace hs_ln := hs
  refine lv_iload_n hx hb ck_d16 rfl (lv_at hl 0 rfl) ?_
  exact y_ireturn B hI rfl rfl rfl List.mem_cons_self ⟨_, rfl, ⟨_, rfl, h_ln⟩⟩ (x_cs.mono B.2.2.2.2.2 (y_mon B hI)) (fun t' x' ln' h1 h2 h3 => by cases h1; cases h2.symm.trans hs0; cases h3.symm.trans hs1; exact ⟨rfl, hs_ln⟩) (Nat.le_refl _) (Nat.le_refl _) ck_d17
theorem mk_d0 : decode xM176.2.1 0 = .ok (.aload_n 0, 1) := by decide +kernel
theorem mk_d1 : decode xM176.2.1 1 = .ok (.getfield 160, 3) := by decide +kernel
theorem mk_d4 : decode xM176.2.1 4 = .ok (.istore_n 1, 1) := by decide +kernel
theorem mk_d5 : decode xM176.2.1 5 = .ok (.aload_n 0, 1) := by decide +kernel
theorem mk_d6 : decode xM176.2.1 6 = .ok (.iconst 0, 1) := by decide +kernel
theorem mk_d7 : decode xM176.2.1 7 = .ok (.putfield 160, 3) := by decide +kernel
theorem mk_d10 : decode xM176.2.1 10 = .ok (.iload_n 1, 1) := by decide +kernel
theorem mk_d11 : decode xM176.2.1 11 = .ok (.ireturn, 1) := by decide +kernel
theorem ym_mclear : y_Met vwCl x_G x_Zs x_Tb x_Nb xM176 y_T z_Pcl := by
  refine y_main (by decide +kernel) (by decide +kernel) x_Tb_good x_Nb_ok ?_
  intro p l e s m below meth c D U Y0 av ls B hI _ hl
  have X := B.1
  have hx := X.1
  have hb := X.2.1
  have hY0 := B.2.2.2.2.1
  obtain ⟨v0, rfl, hv0⟩ := x_one B.2.2.2.2.2
  obtain ⟨this, t0, rfl, ht0, hY_this⟩ := x_ref_at hv0 rfl
  obtain rfl := List.mem_singleton.mp ht0
  replace hl : lv_has ls xM176.2.2.1 [(0, .ref this)] := hl
  obtain ⟨ln, hs_ln, h_ln⟩ := y_fldI (k := 10) hI.1 hY_this rfl rfl
  have hs0 := hs_ln
  refine lv_aload_n hx hb mk_d0 rfl (lv_at hl 0 rfl) ?_
  refine y_getf X (fl193 X.2.2.2.2.1) hI.1 hY_this rfl hs_ln mk_d1 ?_
  refine lv_istore_n hx hb mk_d4 rfl hl (by decide) (lv' := [(1, .int ln), (0, .ref this)]) rfl fun ls hl => ?_
  refine lv_aload_n hx hb mk_d5 rfl (lv_at hl 1 rfl) ?_
  refine lv_iconst hx hb mk_d6 (v := 0) (by decide) ?_
  have ec0 : (0 : Int32).toInt = 0 := by decide
  refine y_putf X (fw194 X.2.2.2.2.1) hY0 hI hY_this rfl rfl ⟨_, rfl, by show (0 : Int) ≤ _; omega, by show _ ≤ (240 : Int); omega⟩ (by decide +kernel) mk_d7 fun H sl hI ho hs hk => ?_
  replace hs := hs
  replace hs_ln := hs
  refine lv_iload_n hx hb mk_d10 rfl (lv_at hl 0 rfl) ?_
  exact y_ireturn B hI rfl rfl rfl List.mem_cons_self ⟨_, rfl, ⟨_, rfl, h_ln⟩⟩ (x_cs.mono B.2.2.2.2.2 (y_mon B hI)) (fun t' ln' h1 h2 => by cases h1; cases h2.symm.trans hs0; exact ⟨rfl, hs_ln⟩) (Nat.le_refl _) (Nat.le_refl _) mk_d11
theorem mt_d0 : decode xMty.2.1 0 = .ok (.iload_n 3, 1) := by decide +kernel
theorem mt_d1 : decode xMty.2.1 1 = .ok (.i2l, 1) := by decide +kernel
theorem mt_d2 : decode xMty.2.1 2 = .ok (.lconst 1, 1) := by decide +kernel
theorem mt_d3 : decode xMty.2.1 3 = .ok (.ldc2_w 158, 3) := by decide +kernel
theorem mt_d6 : decode xMty.2.1 6 = .ok (.invokestatic 87, 3) := by decide +kernel
theorem mt_d9 : decode xMty.2.1 9 = .ok (.ifCond .ne 8, 3) := by decide +kernel
theorem mt_d12 : decode xMty.2.1 12 = .ok (.aload_n 0, 1) := by decide +kernel
theorem mt_d13 : decode xMty.2.1 13 = .ok (.invokevirtual 102, 3) := by decide +kernel
theorem mt_d16 : decode xMty.2.1 16 = .ok (.ireturn, 1) := by decide +kernel
theorem mt_d17 : decode xMty.2.1 17 = .ok (.aload_n 0, 1) := by decide +kernel
theorem mt_d18 : decode xMty.2.1 18 = .ok (.getfield 160, 3) := by decide +kernel
theorem mt_d21 : decode xMty.2.1 21 = .ok (.iload_n 3, 1) := by decide +kernel
theorem mt_d22 : decode xMty.2.1 22 = .ok (.iadd, 1) := by decide +kernel
theorem mt_d23 : decode xMty.2.1 23 = .ok (.sipush 240, 3) := by decide +kernel
theorem mt_d26 : decode xMty.2.1 26 = .ok (.if_icmp .le 8, 3) := by decide +kernel
theorem mt_d29 : decode xMty.2.1 29 = .ok (.aload_n 0, 1) := by decide +kernel
theorem mt_d30 : decode xMty.2.1 30 = .ok (.invokevirtual 105, 3) := by decide +kernel
theorem mt_d33 : decode xMty.2.1 33 = .ok (.ireturn, 1) := by decide +kernel
theorem mt_d34 : decode xMty.2.1 34 = .ok (.iload_n 3, 1) := by decide +kernel
theorem mt_d35 : decode xMty.2.1 35 = .ok (.iconst 1, 1) := by decide +kernel
theorem mt_d36 : decode xMty.2.1 36 = .ok (.isub, 1) := by decide +kernel
theorem mt_d37 : decode xMty.2.1 37 = .ok (.istore 4, 2) := by decide +kernel
theorem mt_d39 : decode xMty.2.1 39 = .ok (.iload 4, 2) := by decide +kernel
theorem mt_d41 : decode xMty.2.1 41 = .ok (.ifCond .lt 40, 3) := by decide +kernel
theorem mt_d44 : decode xMty.2.1 44 = .ok (.aload_n 0, 1) := by decide +kernel
theorem mt_d45 : decode xMty.2.1 45 = .ok (.getfield 29, 3) := by decide +kernel
theorem mt_d48 : decode xMty.2.1 48 = .ok (.aload_n 0, 1) := by decide +kernel
theorem mt_d49 : decode xMty.2.1 49 = .ok (.getfield 160, 3) := by decide +kernel
theorem mt_d52 : decode xMty.2.1 52 = .ok (.lload_n 1, 1) := by decide +kernel
theorem mt_d53 : decode xMty.2.1 53 = .ok (.bipush 8, 2) := by decide +kernel
theorem mt_d55 : decode xMty.2.1 55 = .ok (.iload 4, 2) := by decide +kernel
theorem mt_d57 : decode xMty.2.1 57 = .ok (.imul, 1) := by decide +kernel
theorem mt_d58 : decode xMty.2.1 58 = .ok (.lshr, 1) := by decide +kernel
theorem mt_d59 : decode xMty.2.1 59 = .ok (.ldc2_w 164, 3) := by decide +kernel
theorem mt_d62 : decode xMty.2.1 62 = .ok (.land, 1) := by decide +kernel
theorem mt_d63 : decode xMty.2.1 63 = .ok (.l2i, 1) := by decide +kernel
theorem mt_d64 : decode xMty.2.1 64 = .ok (.iastore, 1) := by decide +kernel
theorem mt_d65 : decode xMty.2.1 65 = .ok (.aload_n 0, 1) := by decide +kernel
theorem mt_d66 : decode xMty.2.1 66 = .ok (.dup, 1) := by decide +kernel
theorem mt_d67 : decode xMty.2.1 67 = .ok (.getfield 160, 3) := by decide +kernel
theorem mt_d70 : decode xMty.2.1 70 = .ok (.iconst 1, 1) := by decide +kernel
theorem mt_d71 : decode xMty.2.1 71 = .ok (.iadd, 1) := by decide +kernel
theorem mt_d72 : decode xMty.2.1 72 = .ok (.putfield 160, 3) := by decide +kernel
theorem mt_d75 : decode xMty.2.1 75 = .ok (.iinc 4 (-1), 3) := by decide +kernel
theorem mt_d78 : decode xMty.2.1 78 = .ok (.goto (-39), 3) := by decide +kernel
theorem mt_d81 : decode xMty.2.1 81 = .ok (.aload_n 0, 1) := by decide +kernel
theorem mt_d82 : decode xMty.2.1 82 = .ok (.getfield 160, 3) := by decide +kernel
theorem mt_d85 : decode xMty.2.1 85 = .ok (.ireturn, 1) := by decide +kernel
theorem mt_L39 {p : Program} {l : Launch} {e : Env} {s : State} {m : MethodId} {below : List Frame} {meth : Method} {c : Code} {D : va_G} {U : State} {Y0 : xY} {av : List Value} (B : y_B vwCl x_Tb x_Nb xMty p s m meth c D U Y0 av) {this : Nat} {v : Int64} {nn ln : Int32} (hav : av = [.ref this, .long v, .int nn]) (hs0 : x_sl D 12 10 this s.heap = some (.int ln)) (hnn : 1 ≤ nn.toInt ∧ nn.toInt ≤ 8) (hfit : ln.toInt + nn.toInt ≤ 240)  :
    ∀ (n : Nat), ∀ (H : Heap) (Y : xY) (locs : List Loc) (ls : Array Slot) (k : Int32) (ty : Int32), x_I D x_G x_Zs U (x_efs xMty) Y0 s.heap Y H locs → Y this = some 17 → x_sl D 12 10 this H = some (.int ty) → lv_has ls xMty.2.2.1 [(4, .int k), (0, .ref this), (1, .long v), (3, .int nn)] → (-1 ≤ k.toInt ∧ k.toInt ≤ 7) → (0 ≤ ty.toInt ∧ ty.toInt + k.toInt + 1 = ln.toInt + nn.toInt) → (k.toInt + 1).toNat < n → W p l e (x_rm xMty) s m av.toArray below meth c H locs 0 0 (y_QQ below D x_G x_Zs U xMty (z_Pty 12 10) av Y0 s) (F0 m 39 ls []) := by
  have X := B.1
  have hx := X.1
  have hb := X.2.1
  have hY0 := B.2.2.2.2.1
  intro n
  induction n with
  | zero => intro _ _ _ _ _ _ _ _ _ _ _ _ h; exact absurd h (Nat.not_lt_zero _)
  | succ n ih =>
    intro H Y locs ls k ty  hI hY_this hsi_typed hl hk hty hn
    refine lv_iload hx hb mt_d39 (lv_at hl 0 rfl) ?_
    have ec0 : (0 : Int32).toInt = 0 := by decide
    refine lv_if_lt hx hb mt_d41 (tgt := 81) (by decide) (fun q41 => ?_) (fun q41 => ?_)
    · have q41_ : k.toInt < (0 : Int32).toInt := x_lt32.mp q41
      refine lv_aload_n hx hb mt_d81 rfl (lv_at hl 1 rfl) ?_
      refine y_getf X (fl193 X.2.2.2.2.1) hI.1 hY_this rfl hsi_typed mt_d82 ?_
      subst hav
      exact y_ireturn B hI rfl rfl rfl List.mem_cons_self ⟨_, rfl, ⟨_, rfl, x_i32 _⟩⟩ (x_cs.mono B.2.2.2.2.2 (y_mon B hI)) (fun t' w' n' ln' h1 h2 => by cases h1; cases h2.symm.trans hs0; exact ⟨_, _, rfl, hsi_typed, ⟨fun h => absurd (by omega) h, fun _ h => absurd h (by omega), fun _ _ => ⟨by omega, by omega⟩⟩⟩) (Nat.le_refl _) (Nat.le_refl _) mt_d85
    · have q41_ : (0 : Int32).toInt ≤ k.toInt := Int.not_lt.mp fun q => q41 (x_lt32.mpr q)
      refine lv_aload_n hx hb mt_d44 rfl (lv_at hl 1 rfl) ?_
      obtain ⟨this_text, hs_this_text, hY_this_text⟩ := y_fldR (k := 9) hI.1 hY_this rfl rfl
      refine y_getf X (fl195 X.2.2.2.2.1) hI.1 hY_this rfl hs_this_text mt_d45 ?_
      refine lv_aload_n hx hb mt_d48 rfl (lv_at hl 1 rfl) ?_
      refine y_getf X (fl193 X.2.2.2.2.1) hI.1 hY_this rfl hsi_typed mt_d49 ?_
      refine lv_lload_n hx hb mt_d52 rfl (lv_at hl 2 rfl) ?_
      refine lv_bipush hx hb mt_d53 (v := 8) (by decide) ?_
      have ec8 : (8 : Int32).toInt = 8 := by decide
      refine lv_iload hx hb mt_d55 (lv_at hl 0 rfl) ?_
      refine lv_imul hx hb mt_d57 ?_
      generalize hg_z57 : (8 : Int32) * k = z57
      obtain ⟨z58, hg_z58⟩ : ∃ z58 : Int64, v >>> ((z57).toInt64 &&& 63) = z58 := ⟨_, rfl⟩
      refine lv_lshr hx hb mt_d58 (v := z58) hg_z58 ?_
      refine lv_ldc2 hx hb X.2.2.2.1 (v := 255) (X.2.2.2.2.1 _ (x_at 1246 (by decide +kernel) rfl)) mt_d59 ?_
      have el255 : (255 : Int64).toInt = 255 := by decide
      refine lv_land hx hb mt_d62 ?_
      generalize hg_z62 : z58 &&& (255 : Int64) = z62
      obtain ⟨z63, hg_z63⟩ : ∃ z63 : Int32, (z62).toInt32 = z63 := ⟨_, rfl⟩
      refine lv_l2i hx hb mt_d63 (v := z63) hg_z63 ?_
      obtain ⟨f_this_text, hA_this_text, hB_this_text⟩ := y_arr hI.1 hY_this_text rfl rfl
      refine y_iast X hY0 hI hY_this_text rfl hA_this_text (by omega) (by show _ < (240 : Int); omega) ⟨_, rfl, x_i32 _⟩ (by decide +kernel) mt_d64 fun H locs hI h_new ho => ?_
      replace hA_this_text := h_new
      generalize hf_f64 : y_up f_this_text ty.toInt.toNat z63 = f64 at hA_this_text
      replace hsi_typed := y_slk hsi_typed (ho _ (y_ne hY_this hY_this_text rfl))
      replace hs_this_text := y_slk hs_this_text (ho _ (y_ne hY_this hY_this_text rfl))
      refine lv_aload_n hx hb mt_d65 rfl (lv_at hl 1 rfl) ?_
      refine lv_dup hx hb mt_d66 rfl ?_
      refine y_getf X (fl193 X.2.2.2.2.1) hI.1 hY_this rfl hsi_typed mt_d67 ?_
      refine lv_iconst hx hb mt_d70 (v := 1) (by decide) ?_
      have ec1 : (1 : Int32).toInt = 1 := by decide
      refine lv_iadd hx hb mt_d71 ?_
      generalize hg_z71 : ty + (1 : Int32) = z71
      have h_z71 : z71.toInt = ty.toInt + 1 := by rw [← hg_z71]; have := y_add (x := ty) (y := (1 : Int32)) (by rw [ec1]; omega) (by rw [ec1]; omega); rw [ec1] at this; exact this
      refine y_putf X (fw194 X.2.2.2.2.1) hY0 hI hY_this rfl rfl ⟨_, rfl, by show (0 : Int) ≤ _; omega, by show _ ≤ (240 : Int); omega⟩ (by decide +kernel) mt_d72 fun H sl hI ho hs hk => ?_
      replace hs_this_text := hk _ _ (by decide +kernel) (by decide) hs_this_text
      replace hA_this_text := hA_this_text.kept (ho _ (y_ne hY_this_text hY_this rfl))
      replace hs := hs
      replace hsi_typed := hs
      obtain ⟨z75, hg_z75⟩ : ∃ z75 : Int32, k + Int32.ofInt (-1) = z75 := ⟨_, rfl⟩
      have h_z75 : z75.toInt = k.toInt + (-1) := by rw [← hg_z75]; exact y_inc (by decide) (by omega) (by omega)
      refine lv_iinc hx hb mt_d75 hl (k := 0) rfl hg_z75 (by decide) (lv' := [(4, .int z75), (0, .ref this), (1, .long v), (3, .int nn)]) rfl fun ls hl => ?_
      refine lv_goto hx hb mt_d78 (tgt := 39) (by decide) ?_
      exact ih _ _ _ _ _ _ hI hY_this hsi_typed (lv_sub hl [0, 1, 2, 3] rfl) (by first | assumption | omega) (by first | assumption | omega) (by omega)
theorem ym_mtype : y_Met vwCl x_G x_Zs x_Tb x_Nb xMty y_T (z_Pty 12 10) := by
  refine y_main (by decide +kernel) (by decide +kernel) x_Tb_good x_Nb_ok ?_
  intro p l e s m below meth c D U Y0 av ls B hI _ hl
  have X := B.1
  have hx := X.1
  have hb := X.2.1
  have hY0 := B.2.2.2.2.1
  obtain ⟨v0, v1, v2, rfl, hv0, ⟨v, rfl, -⟩, ⟨nn, rfl, -⟩⟩ := y_three B.2.2.2.2.2
  obtain ⟨this, t0, rfl, ht0, hY_this⟩ := x_ref_at hv0 rfl
  obtain rfl := List.mem_singleton.mp ht0
  replace hl : lv_has ls xMty.2.2.1 [(0, .ref this), (1, .long v), (3, .int nn)] := hl
  obtain ⟨ty, hsi_typed, h_ty⟩ := y_fldI (k := 10) hI.1 hY_this rfl rfl
  replace h_ty : (0 : Int) ≤ ty.toInt ∧ ty.toInt ≤ 240 := h_ty
  have hs0 := hsi_typed
  refine lv_iload_n hx hb mt_d0 rfl (lv_at hl 2 rfl) ?_
  obtain ⟨z1, hg_z1⟩ : ∃ z1 : Int64, nn.toInt64 = z1 := ⟨_, rfl⟩
  have h_z1 : z1.toInt = (nn).toInt := by rw [← hg_z1]; exact Int32.toInt_toInt64 _
  refine lv_i2l hx hb mt_d1 (v := z1) hg_z1 ?_
  refine lv_lconst hx hb mt_d2 (v := 1) (by decide) ?_
  have el1 : (1 : Int64).toInt = 1 := by decide
  refine lv_ldc2 hx hb X.2.2.2.1 (v := 8) (X.2.2.2.2.1 _ (x_at 1245 (by decide +kernel) rfl)) mt_d3 ?_
  have el8 : (8 : Int64).toInt = 8 := by decide
  refine y_call (z := (1, 87, 3, none, xM148)) (av := [.long z1, .long (1 : Int64), .long (8 : Int64)]) (rest := []) (y_cokS (n := 3) X ym_in (x_cons (x_at 1147 (by decide +kernel) rfl) (x_cons (x_at 1148 (by decide +kernel) rfl) (x_cons (x_at 73 (by decide +kernel) rfl) x_nilm))) (x_at 1149 (by decide +kernel) rfl) (by decide +kernel) ⟨Nat.le_of_ble_eq_true rfl, Nat.le_of_ble_eq_true rfl⟩) hY0 hI rfl mt_d6 hl.1 (Nat.le_of_ble_eq_true rfl) (Nat.le_of_ble_eq_true rfl) (Nat.le_of_ble_eq_true rfl) (y_cons ⟨_, rfl, x_i64 _⟩ (y_cons ⟨_, rfl, x_i64 _⟩ (y_cons ⟨_, rfl, x_i64 _⟩ y_nil))) rfl (y_norecv rfl) trivial (y_sub_ef rfl) fun v Yn o Hn L ho hr ha hIn hx_ hE hP => ?_
  replace hsi_typed := y_Efld hE hY_this rfl (by decide) (by decide) hsi_typed
  replace hY_this := y_ext hx_ hI.1 hY_this
  obtain ⟨r6, rfl, hin_r6, hout_r6⟩ := z_inR2 (hP _ _ _ rfl)
  clear ho hr ha hE hP hI hx_
  rename x_I _ _ _ _ _ _ _ _ _ _ => hI
  have ec0 : (0 : Int32).toInt = 0 := by decide
  refine lv_if_ne hx hb mt_d9 (tgt := 17) (by decide) (fun q9 => ?_) (fun q9 => ?_)
  · have q9_ : ¬ r6.toInt = (0 : Int32).toInt := fun q => q9 (Int32.toInt_inj.mp q)
    have hnn := hin_r6 q9
    refine lv_aload_n hx hb mt_d17 rfl (lv_at hl 0 rfl) ?_
    refine y_getf X (fl193 X.2.2.2.2.1) hI.1 hY_this rfl hsi_typed mt_d18 ?_
    refine lv_iload_n hx hb mt_d21 rfl (lv_at hl 2 rfl) ?_
    refine lv_iadd hx hb mt_d22 ?_
    generalize hg_z22 : ty + nn = z22
    have h_z22 : z22.toInt = ty.toInt + nn.toInt := by rw [← hg_z22]; have := y_add (x := ty) (y := nn) (by omega) (by omega); exact this
    refine lv_sipush hx hb mt_d23 (v := 240) (by decide) ?_
    have ec240 : (240 : Int32).toInt = 240 := by decide
    refine lv_icmp_le hx hb mt_d26 (tgt := 34) (by decide) (fun q26 => ?_) (fun q26 => ?_)
    · have q26_ : z22.toInt ≤ (240 : Int32).toInt := x_le32.mp q26
      refine lv_iload_n hx hb mt_d34 rfl (lv_at hl 2 rfl) ?_
      refine lv_iconst hx hb mt_d35 (v := 1) (by decide) ?_
      have ec1 : (1 : Int32).toInt = 1 := by decide
      refine lv_isub hx hb mt_d36 ?_
      generalize hg_z36 : nn - (1 : Int32) = z36
      have h_z36 : z36.toInt = nn.toInt - 1 := by rw [← hg_z36]; have := y_sub (x := nn) (y := (1 : Int32)) (by rw [ec1]; omega) (by rw [ec1]; omega); rw [ec1] at this; exact this
      refine lv_istore hx hb mt_d37 hl (by decide) (lv' := [(4, .int z36), (0, .ref this), (1, .long v), (3, .int nn)]) rfl fun ls hl => ?_
      have hnn1 : 1 ≤ nn.toInt ∧ nn.toInt ≤ 8 := by omega
      have hfit : ty.toInt + nn.toInt ≤ 240 := by omega
      exact mt_L39 B rfl hs0 hnn1 hfit 20 _ _ _ _ _ _ hI hY_this hsi_typed (lv_sub hl [0, 1, 2, 3] rfl) (by first | assumption | omega) (by first | assumption | omega) (by omega)
    · have q26_ : (240 : Int32).toInt < z22.toInt := Int.not_le.mp fun q => q26 (x_le32.mpr q)
      refine lv_aload_n hx hb mt_d29 rfl (lv_at hl 0 rfl) ?_
      refine y_call (z := (0, 105, 1, some 17, xM146)) (av := [.ref this]) (rest := []) (y_cokV (n := 0) (ci := 12) X ym_full rfl rfl rfl (x_cons (x_at 1163 (by decide +kernel) rfl) (x_cons (x_at 1165 (by decide +kernel) rfl) (x_cons (x_at 34 (by decide +kernel) rfl) (x_cons (x_at 73 (by decide +kernel) rfl) x_nilm)))) (x_at 1166 (by decide +kernel) rfl) (by decide +kernel) ⟨Nat.le_of_ble_eq_true rfl, Nat.le_of_ble_eq_true rfl⟩) hY0 hI rfl mt_d30 hl.1 (Nat.le_of_ble_eq_true rfl) (Nat.le_of_ble_eq_true rfl) (Nat.le_of_ble_eq_true rfl) (y_cons (y_cref hY_this rfl) y_nil) rfl (y_recv rfl hY_this) trivial (y_sub_ef rfl) fun v Yn o Hn L ho hr ha hIn hx_ hE hP => ?_
      replace hsi_typed := y_Efld hE hY_this rfl (by decide) (by decide) hsi_typed
      replace hY_this := y_ext hx_ hI.1 hY_this
      have hPb := hP
      obtain rfl := hPb
      clear ho hr ha hE hP hI hx_
      rename x_I _ _ _ _ _ _ _ _ _ _ => hI
      exact y_ireturn B hI rfl rfl rfl List.mem_cons_self ⟨_, rfl, ⟨_, rfl, x_i32 _⟩⟩ (x_cs.mono B.2.2.2.2.2 (y_mon B hI)) (fun t' w' n' ln' h1 h2 => by cases h1; cases h2.symm.trans hs0; exact ⟨_, _, rfl, hsi_typed, ⟨fun h => absurd (by omega) h, fun _ _ => ⟨by decide, rfl⟩, fun _ h => absurd h (by omega)⟩⟩) (Nat.le_refl _) (Nat.le_refl _) mt_d33
  · have q9_ : r6.toInt = (0 : Int32).toInt := by rw [q9]
    have hno := hout_r6 q9
    refine lv_aload_n hx hb mt_d12 rfl (lv_at hl 0 rfl) ?_
    refine y_call (z := (0, 102, 1, some 17, xM143)) (av := [.ref this]) (rest := []) (y_cokV (n := 0) (ci := 12) X ym_bad rfl rfl rfl (x_cons (x_at 1155 (by decide +kernel) rfl) (x_cons (x_at 1157 (by decide +kernel) rfl) (x_cons (x_at 32 (by decide +kernel) rfl) (x_cons (x_at 73 (by decide +kernel) rfl) x_nilm)))) (x_at 1158 (by decide +kernel) rfl) (by decide +kernel) ⟨Nat.le_of_ble_eq_true rfl, Nat.le_of_ble_eq_true rfl⟩) hY0 hI rfl mt_d13 hl.1 (Nat.le_of_ble_eq_true rfl) (Nat.le_of_ble_eq_true rfl) (Nat.le_of_ble_eq_true rfl) (y_cons (y_cref hY_this rfl) y_nil) rfl (y_recv rfl hY_this) trivial (y_sub_ef rfl) fun v Yn o Hn L ho hr ha hIn hx_ hE hP => ?_
    replace hsi_typed := y_Efld hE hY_this rfl (by decide) (by decide) hsi_typed
    replace hY_this := y_ext hx_ hI.1 hY_this
    have hPb := hP
    obtain rfl := hPb
    clear ho hr ha hE hP hI hx_
    rename x_I _ _ _ _ _ _ _ _ _ _ => hI
    exact y_ireturn B hI rfl rfl rfl List.mem_cons_self ⟨_, rfl, ⟨_, rfl, x_i32 _⟩⟩ (x_cs.mono B.2.2.2.2.2 (y_mon B hI)) (fun t' w' n' ln' h1 h2 => by cases h1; cases h2.symm.trans hs0; exact ⟨_, _, rfl, hsi_typed, ⟨fun _ => ⟨by decide, rfl⟩, fun h => absurd h (by omega), fun h => absurd h (by omega)⟩⟩) (Nat.le_refl _) (Nat.le_refl _) mt_d16
