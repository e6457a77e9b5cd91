theorem z_dis.mv {D : va_G} {Y : xY} {H H' : Heap} {r c : Nat} (h : z_dis D H r c) (hr : Y r = some 2) (hc : Y c = some 2) (hk : ∀ b u g, Y b = some u → (u = 2 ∨ (11 ≤ u ∧ u ≤ 31)) → x_G[u]? = some g → x_eq D g b H H') : z_dis D H' r c := h.moved (fun k hk9 _ _ _ => (hk r 2 _ hr (Or.inl rfl) rfl) k hk9) (fun k hk9 _ _ _ => (hk c 2 _ hc (Or.inl rfl) rfl) k hk9)
theorem y_cokIN {p : Program} {l : Launch} {e : Env} {R : Room} {s : State} {m : MethodId} {args : Array Value} {below : List Frame} {meth : Method} {c : Code} {D : va_G} {G : List xG} {Zs : List xZ} {U : State} {nL : Nat} {cc : ByteArray} {cl : List vw_C} {Tb Nb : List Cond} {own : String} {M : xM} {A : yA} {P : yP} {idx n : Nat} {host : String} (X : x_cx p s m args c D U cc nL cl Tb Nb own) (hM : y_Met cl G Zs Tb Nb M A P) (hret : M.2.2.2.1 = none) (h : ∀ w ∈ [Cond.instanceMethod M.1, .initialized M.1.cls], w ∈ Tb) (hl : Cond.methodLinkNest own idx M.1 host ∈ Nb) (hc : Cond.code M.1 M.2.1 M.2.2.1 M.2.2.2.1 ∈ Tb) (hi : M.1.name = "<init>")
    (h0 : ∀ (Y : xY) (av : List Value), x_cs Y (x_args M) av → ∃ (b : Nat) (As : List Value), av = .ref b :: As)
    (hd : M.1.cls ≠ "java/lang/invoke/MethodHandle" ∧ M.1.cls ≠ "java/lang/invoke/VarHandle" ∧ (parseMethodDescriptor M.1.desc).map (fun d => d.parameters.length) = some n) (hR : (x_rm M).frames + 1 ≤ R.frames ∧ 8 + (M.2.2.1 + 11) + (x_rm M).locals ≤ R.locals) :
    y_cok p l e R s m args below meth c D G Zs U nL cc (2, idx, n + 1, none, M) A P := by
  intro H locs cells slots pc ls rest av Y hdec hls hrest hcl hsl hH hcs hlen hrt hA
  obtain ⟨hx, hb, hml, hown, hts, hK, hK0, hU, hNw, hG, hN⟩ := X
  obtain ⟨b, As, rfl⟩ := h0 Y av hcs
  have hM1 := hM l D U Y H.size (.ref b :: As) hK0 hcs
  rw [hret] at hM1 hc
  rw [List.reverse_cons, List.append_assoc]
  have hg : GoodIn Tb (Cond.code M.1 M.2.1 M.2.2.1 none :: Tb) := fun w hw => by
    have hm : w ∈ Tb := by
      rcases List.mem_cons.mp hw with q | q
      · rw [q]; exact hc
      · exact q
    exact ⟨hm, good_of_word (hG w hm)⟩
  exact va_runIN (As := As) (rest := rest) (Ts := Tb) (host := host) ⟨hx, hb, hml, hown, hts⟩ hM1 ⟨va_cnB n hts hg rfl rfl rfl (hNw _ hl) (hts _ (h _ (by simp))) hd hR, hi, hts _ (h _ (by simp))⟩ ⟨y_blind hN, y_pre hN hNw hU hH hA⟩ rfl (by simpa using hlen) hls rfl (lv_room hrest) hdec ⟨hcl, hsl⟩
def z_PTini : yP := fun D av _ _ _ Y' H' => ∀ this : Nat, av = [.ref this] → z_RC D Y' H' this m_row0 (fun _ => none) (fun _ => 0) 0
theorem iZ_d0 : decode xMtx.2.1 0 = .ok (.aload_n 0, 1) := dz_ok (by decide +kernel)
theorem iZ_d1 : decode xMtx.2.1 1 = .ok (.invokespecial 3, 3) := dz_ok (by decide +kernel)
theorem iZ_d4 : decode xMtx.2.1 4 = .ok (.aload_n 0, 1) := dz_ok (by decide +kernel)
theorem iZ_d5 : decode xMtx.2.1 5 = .ok (.new 9, 3) := dz_ok (by decide +kernel)
theorem iZ_d8 : decode xMtx.2.1 8 = .ok (.dup, 1) := dz_ok (by decide +kernel)
theorem iZ_d9 : decode xMtx.2.1 9 = .ok (.invokespecial 11, 3) := dz_ok (by decide +kernel)
theorem iZ_d12 : decode xMtx.2.1 12 = .ok (.putfield 12, 3) := dz_ok (by decide +kernel)
theorem iZ_d15 : decode xMtx.2.1 15 = .ok (.aload_n 0, 1) := dz_ok (by decide +kernel)
theorem iZ_d16 : decode xMtx.2.1 16 = .ok (.new 9, 3) := dz_ok (by decide +kernel)
theorem iZ_d19 : decode xMtx.2.1 19 = .ok (.dup, 1) := dz_ok (by decide +kernel)
theorem iZ_d20 : decode xMtx.2.1 20 = .ok (.invokespecial 11, 3) := dz_ok (by decide +kernel)
theorem iZ_d23 : decode xMtx.2.1 23 = .ok (.putfield 16, 3) := dz_ok (by decide +kernel)
theorem iZ_d26 : decode xMtx.2.1 26 = .ok (.aload_n 0, 1) := dz_ok (by decide +kernel)
theorem iZ_d27 : decode xMtx.2.1 27 = .ok (.iconst 2, 1) := dz_ok (by decide +kernel)
theorem iZ_d28 : decode xMtx.2.1 28 = .ok (.anewarray 9, 3) := dz_ok (by decide +kernel)
theorem iZ_d31 : decode xMtx.2.1 31 = .ok (.putfield 19, 3) := dz_ok (by decide +kernel)
theorem iZ_d34 : decode xMtx.2.1 34 = .ok (.aload_n 0, 1) := dz_ok (by decide +kernel)
theorem iZ_d35 : decode xMtx.2.1 35 = .ok (.new 23, 3) := dz_ok (by decide +kernel)
theorem iZ_d38 : decode xMtx.2.1 38 = .ok (.dup, 1) := dz_ok (by decide +kernel)
theorem iZ_d39 : decode xMtx.2.1 39 = .ok (.invokespecial 25, 3) := dz_ok (by decide +kernel)
theorem iZ_d42 : decode xMtx.2.1 42 = .ok (.putfield 26, 3) := dz_ok (by decide +kernel)
theorem iZ_d45 : decode xMtx.2.1 45 = .ok (.aload_n 0, 1) := dz_ok (by decide +kernel)
theorem iZ_d46 : decode xMtx.2.1 46 = .ok (.new 30, 3) := dz_ok (by decide +kernel)
theorem iZ_d49 : decode xMtx.2.1 49 = .ok (.dup, 1) := dz_ok (by decide +kernel)
theorem iZ_d50 : decode xMtx.2.1 50 = .ok (.invokespecial 32, 3) := dz_ok (by decide +kernel)
theorem iZ_d53 : decode xMtx.2.1 53 = .ok (.putfield 33, 3) := dz_ok (by decide +kernel)
theorem iZ_d56 : decode xMtx.2.1 56 = .ok (.aload_n 0, 1) := dz_ok (by decide +kernel)
theorem iZ_d57 : decode xMtx.2.1 57 = .ok (.new 37, 3) := dz_ok (by decide +kernel)
theorem iZ_d60 : decode xMtx.2.1 60 = .ok (.dup, 1) := dz_ok (by decide +kernel)
theorem iZ_d61 : decode xMtx.2.1 61 = .ok (.invokespecial 39, 3) := dz_ok (by decide +kernel)
theorem iZ_d64 : decode xMtx.2.1 64 = .ok (.putfield 40, 3) := dz_ok (by decide +kernel)
theorem iZ_d67 : decode xMtx.2.1 67 = .ok (.aload_n 0, 1) := dz_ok (by decide +kernel)
theorem iZ_d68 : decode xMtx.2.1 68 = .ok (.iconst 3, 1) := dz_ok (by decide +kernel)
theorem iZ_d69 : decode xMtx.2.1 69 = .ok (.newarray .int, 2) := dz_ok (by decide +kernel)
theorem iZ_d71 : decode xMtx.2.1 71 = .ok (.putfield 44, 3) := dz_ok (by decide +kernel)
theorem iZ_d74 : decode xMtx.2.1 74 = .ok (.aload_n 0, 1) := dz_ok (by decide +kernel)
theorem iZ_d75 : decode xMtx.2.1 75 = .ok (.lconst 0, 1) := dz_ok (by decide +kernel)
theorem iZ_d76 : decode xMtx.2.1 76 = .ok (.putfield 48, 3) := dz_ok (by decide +kernel)
theorem iZ_d79 : decode xMtx.2.1 79 = .ok (.aload_n 0, 1) := dz_ok (by decide +kernel)
theorem iZ_d80 : decode xMtx.2.1 80 = .ok (.lconst 1, 1) := dz_ok (by decide +kernel)
theorem iZ_d81 : decode xMtx.2.1 81 = .ok (.putfield 52, 3) := dz_ok (by decide +kernel)
theorem iZ_d84 : decode xMtx.2.1 84 = .ok (.return_, 1) := dz_ok (by decide +kernel)
theorem ym_twInitX : y_Met vwCl x_G x_Zs x_Tb x_Nb xMtx y_T z_PTini := by
  refine y_main (by decide +kernel) (by decide +kernel) x_Tb_good x_Nb_ok ?_
  intro p l e s m below meth c D U Y0 av ls B hI hpre hl
  have X := B.1
  have hx := X.1
  have hb := X.2.1
  have hY0 := B.2.2.2.2.1
  have hts := X.2.2.2.2.1
  have hnm := B.2.2.2.1
  obtain ⟨v0, rfl, hv0⟩ := x_one B.2.2.2.2.2
  obtain ⟨this, t0, rfl, ht0, hY_this⟩ := x_ref_at hv0 rfl
  obtain rfl := List.mem_singleton.mp ht0
  replace hl : lv_has ls xMtx.2.2.1 [(0, .ref this)] := hl
  refine lv_aload_n hx hb iZ_d0 rfl (lv_at hl 0 rfl) ?_
  refine y_oi X (hts _ (x_bw1 11 rfl rfl)) (hts _ (x_bw1 12 rfl rfl)) (hts _ (x_bw1 13 rfl rfl)) (Nat.le_of_ble_eq_true rfl) (Nat.le_of_ble_eq_true rfl) hl.1 (Nat.le_of_ble_eq_true rfl) iZ_d1 ?_
  refine lv_aload_n hx hb iZ_d4 rfl (lv_at hl 0 rfl) ?_
  refine y_newoC (tag := 3) (ty := tyX2) X hY0 hI rfl rfl iX2 tyX2_ok (hts _ (x_bw1 14 rfl rfl)) (hts _ (x_bw1 15 rfl rfl)) (hts _ (x_bw0 2 rfl rfl)) (x_dfl (by decide +kernel)) (Nat.le_of_ble_eq_true rfl) (Nat.le_of_ble_eq_true rfl) iZ_d5 fun Yn H n5 hnw hct => ?_
  obtain ⟨hIn, hmo, hY_n5, hfr_n5, hke⟩ := hnw
  replace hY_this := hmo _ _ hY_this
  replace hI := hIn
  clear hIn hmo hke
  have hd_n5_0 := hct 0 (by decide)
  have hd_n5_6 := hct 6 (by decide)
  have hd_n5_12 := hct 12 (by decide)
  clear hct
  refine lv_dup hx hb iZ_d8 rfl ?_
  refine y_callCP (z := (2, 11, 1, none, xMli)) (b := n5) (rest := [.ref n5, .ref this]) (y_cokI (n := 0) X ym_landInitX rfl (x_cons (x_bw2 0 rfl rfl) (x_cons (x_bw2 1 rfl rfl) (x_cons (x_bw0 2 rfl rfl) x_nilm))) (x_bw2 2 rfl rfl) rfl (fun Y av h => x_this h) (by decide +kernel) ⟨Nat.le_of_ble_eq_true rfl, Nat.le_of_ble_eq_true rfl⟩) hY0 hI rfl iZ_d9 hl.1 (Nat.le_of_ble_eq_true rfl) (Nat.le_of_ble_eq_true rfl) (Nat.le_of_ble_eq_true rfl) (y_cons (y_cref hY_n5 rfl) y_nil) rfl rfl (fun t' h1 => by cases h1; exact ⟨hd_n5_0, hd_n5_6, hd_n5_12⟩) (y_sub_ef (by decide +kernel)) hfr_n5 rfl fun Yn Hn L hIn hY_n hk hE hP => ?_
  obtain ⟨hLn, hfrn, hKn⟩ := hP _ rfl
  have hL_n5 := hLn
  replace hY_this := hk _ _ (y_ne hY_this hY_n5 rfl) hY_this
  replace hY_n5 := hY_n
  clear hI hE hk hY_n hP
  rename x_I _ _ _ _ _ _ _ _ _ _ => hI
  refine y_putf X (fw224 X.2.2.2.2.1) hY0 hI hY_this rfl rfl (y_crefA hY_n5 rfl) (by decide +kernel) iZ_d12 fun H sl hI ho hs hk => ?_
  replace hL_n5 := hL_n5.moved hY_n5 (fun b u _ _ hb => hb) (fun b u g hb hu _ => x_eq.of (ho b (z_Yne hb hY_this (by omega))))
  replace hs := hs
  have hs12 := hs
  refine lv_aload_n hx hb iZ_d15 rfl (lv_at hl 0 rfl) ?_
  refine y_newoC (tag := 3) (ty := tyX2) X hY0 hI rfl rfl iX2 tyX2_ok (hts _ (x_bw1 14 rfl rfl)) (hts _ (x_bw1 15 rfl rfl)) (hts _ (x_bw0 2 rfl rfl)) (x_dfl (by decide +kernel)) (Nat.le_of_ble_eq_true rfl) (Nat.le_of_ble_eq_true rfl) iZ_d16 fun Yn H n16 hnw hct => ?_
  obtain ⟨hIn, hmo, hY_n16, hfr_n16, hke⟩ := hnw
  replace hs12 := y_slk hs12 (hke _ _ hY_this)
  replace hL_n5 := hL_n5.moved hY_n5 (fun b u _ _ hb => hmo b u hb) (fun b u g hb _ _ => x_eq.of (hke b u hb))
  replace hY_this := hmo _ _ hY_this
  replace hY_n5 := hmo _ _ hY_n5
  replace hI := hIn
  clear hIn hmo hke
  have hd_n16_0 := hct 0 (by decide)
  have hd_n16_6 := hct 6 (by decide)
  have hd_n16_12 := hct 12 (by decide)
  clear hct
  refine lv_dup hx hb iZ_d19 rfl ?_
  refine y_callCP (z := (2, 11, 1, none, xMli)) (b := n16) (rest := [.ref n16, .ref this]) (y_cokI (n := 0) X ym_landInitX rfl (x_cons (x_bw2 0 rfl rfl) (x_cons (x_bw2 1 rfl rfl) (x_cons (x_bw0 2 rfl rfl) x_nilm))) (x_bw2 2 rfl rfl) rfl (fun Y av h => x_this h) (by decide +kernel) ⟨Nat.le_of_ble_eq_true rfl, Nat.le_of_ble_eq_true rfl⟩) hY0 hI rfl iZ_d20 hl.1 (Nat.le_of_ble_eq_true rfl) (Nat.le_of_ble_eq_true rfl) (Nat.le_of_ble_eq_true rfl) (y_cons (y_cref hY_n16 rfl) y_nil) rfl rfl (fun t' h1 => by cases h1; exact ⟨hd_n16_0, hd_n16_6, hd_n16_12⟩) (y_sub_ef (by decide +kernel)) hfr_n16 rfl fun Yn Hn L hIn hY_n hk hE hP => ?_
  obtain ⟨hLn, hfrn, hKn⟩ := hP _ rfl
  have hdis := z_new36 hI.1 hY_n16 hL_n5 hY_n5 hfrn hKn
  replace hL_n5 := hL_n5.moved hY_n5 (fun b u h1 h2 hb => hk b u (z_Yne hb hY_n16 (by omega)) hb) (fun b u g hb hu hg => hKn b u g hb hg (z_Yne hb hY_n16 (by omega)))
  have hL_n16 := hLn
  replace hs12 := ((hKn _ _ _ hY_this rfl (y_ne hY_this hY_n16 rfl)) 0 (by decide)).trans hs12
  replace hY_this := hk _ _ (y_ne hY_this hY_n16 rfl) hY_this
  replace hY_n5 := hk _ _ (y_ne hY_n5 hY_n16 rfl) hY_n5
  replace hY_n16 := hY_n
  clear hI hE hk hY_n hP
  rename x_I _ _ _ _ _ _ _ _ _ _ => hI
  refine y_putf X (fw225 X.2.2.2.2.1) hY0 hI hY_this rfl rfl (y_crefA hY_n16 rfl) (by decide +kernel) iZ_d23 fun H sl hI ho hs hk => ?_
  replace hs12 := hk _ _ (by decide +kernel) (by decide) hs12
  replace hL_n5 := hL_n5.moved hY_n5 (fun b u _ _ hb => hb) (fun b u g hb hu _ => x_eq.of (ho b (z_Yne hb hY_this (by omega))))
  replace hL_n16 := hL_n16.moved hY_n16 (fun b u _ _ hb => hb) (fun b u g hb hu _ => x_eq.of (ho b (z_Yne hb hY_this (by omega))))
  replace hdis := hdis.mv hY_n5 hY_n16 (fun b u g hb hu _ => x_eq.of (ho b (z_Yne hb hY_this (by omega))))
  replace hs := hs
  have hs23 := hs
  refine lv_aload_n hx hb iZ_d26 rfl (lv_at hl 0 rfl) ?_
  refine lv_iconst hx hb iZ_d27 (v := 2) (by decide) ?_
  have ec2 : (2 : Int32).toInt = 2 := by decide
  refine y_newrC (tag := 41) (k := 2) (C := "TwinFires$Land") X hY0 hI rfl (by decide) (hts _ (x_bw1 14 rfl rfl)) (va_AO.use (X.2.2.2.2.2.2.2.2.1 _ (x_bn10 0 rfl rfl))) (fun Y j => x_dfa (ty := .object "TwinFires$Land") (by decide +kernel) Y j) (by decide) (Nat.le_of_ble_eq_true rfl) (Nat.le_of_ble_eq_true rfl) iZ_d28 fun Yn H n28 hnw hct => ?_
  obtain ⟨hIn, hmo, hY_n28, hfr_n28, hke⟩ := hnw
  replace hs12 := y_slk hs12 (hke _ _ hY_this)
  replace hs23 := y_slk hs23 (hke _ _ hY_this)
  replace hL_n5 := hL_n5.moved hY_n5 (fun b u _ _ hb => hmo b u hb) (fun b u g hb _ _ => x_eq.of (hke b u hb))
  replace hL_n16 := hL_n16.moved hY_n16 (fun b u _ _ hb => hmo b u hb) (fun b u g hb _ _ => x_eq.of (hke b u hb))
  replace hdis := hdis.mv hY_n5 hY_n16 (fun b u g hb _ _ => x_eq.of (hke b u hb))
  replace hY_this := hmo _ _ hY_this
  replace hY_n5 := hmo _ _ hY_n5
  replace hY_n16 := hmo _ _ hY_n16
  replace hI := hIn
  clear hIn hmo hke
  have hn_n28 := hct
  clear hct
  refine y_putf X (fw226 X.2.2.2.2.1 hnm) hY0 hI hY_this rfl rfl (y_crefA hY_n28 rfl) (by decide +kernel) iZ_d31 fun H sl hI ho hs hk => ?_
  replace hs12 := hk _ _ (by decide +kernel) (by decide) hs12
  replace hs23 := hk _ _ (by decide +kernel) (by decide) hs23
  replace hn_n28 := fun j hj => (z_atk (ho _ (y_ne hY_n28 hY_this rfl))).trans (hn_n28 j hj)
  replace hL_n5 := hL_n5.moved hY_n5 (fun b u _ _ hb => hb) (fun b u g hb hu _ => x_eq.of (ho b (z_Yne hb hY_this (by omega))))
  replace hL_n16 := hL_n16.moved hY_n16 (fun b u _ _ hb => hb) (fun b u g hb hu _ => x_eq.of (ho b (z_Yne hb hY_this (by omega))))
  replace hdis := hdis.mv hY_n5 hY_n16 (fun b u g hb hu _ => x_eq.of (ho b (z_Yne hb hY_this (by omega))))
  replace hs := hs
  have hs31 := hs
  refine lv_aload_n hx hb iZ_d34 rfl (lv_at hl 0 rfl) ?_
  refine y_newoC (tag := 5) (ty := tyX7) X hY0 hI rfl rfl iX7 tyX7_ok (hts _ (x_bw10 1 rfl rfl)) (hts _ (x_bw10 2 rfl rfl)) (hts _ (x_bw0 5 rfl rfl)) (x_dfl (by decide +kernel)) (Nat.le_of_ble_eq_true rfl) (Nat.le_of_ble_eq_true rfl) iZ_d35 fun Yn H n35 hnw hct => ?_
  obtain ⟨hIn, hmo, hY_n35, hfr_n35, hke⟩ := hnw
  replace hs12 := y_slk hs12 (hke _ _ hY_this)
  replace hs23 := y_slk hs23 (hke _ _ hY_this)
  replace hs31 := y_slk hs31 (hke _ _ hY_this)
  replace hn_n28 := fun j hj => (z_atk (hke _ _ hY_n28)).trans (hn_n28 j hj)
  replace hL_n5 := hL_n5.moved hY_n5 (fun b u _ _ hb => hmo b u hb) (fun b u g hb _ _ => x_eq.of (hke b u hb))
  replace hL_n16 := hL_n16.moved hY_n16 (fun b u _ _ hb => hmo b u hb) (fun b u g hb _ _ => x_eq.of (hke b u hb))
  replace hdis := hdis.mv hY_n5 hY_n16 (fun b u g hb _ _ => x_eq.of (hke b u hb))
  replace hY_this := hmo _ _ hY_this
  replace hY_n5 := hmo _ _ hY_n5
  replace hY_n16 := hmo _ _ hY_n16
  replace hY_n28 := hmo _ _ hY_n28
  replace hI := hIn
  clear hIn hmo hke
  have hd_n35_2 := hct 2 (by decide)
  clear hct
  refine lv_dup hx hb iZ_d38 rfl ?_
  refine y_callCP (z := (2, 25, 1, none, xM1018)) (b := n35) (rest := [.ref n35, .ref this]) (y_cokIN (n := 0) (host := "TwinFires") X ym_textInitX rfl (x_cons (x_bw10 4 rfl rfl) (x_cons (x_bw0 5 rfl rfl) x_nilm)) (x_bn10 3 rfl rfl) (x_bw10 5 rfl rfl) rfl (fun Y av h => x_this h) (by decide +kernel) ⟨Nat.le_of_ble_eq_true rfl, Nat.le_of_ble_eq_true rfl⟩) hY0 hI rfl iZ_d39 hl.1 (Nat.le_of_ble_eq_true rfl) (Nat.le_of_ble_eq_true rfl) (Nat.le_of_ble_eq_true rfl) (y_cons (y_cref hY_n35 rfl) y_nil) rfl rfl trivial (y_sub_ef (by decide +kernel)) hfr_n35 rfl fun Yn Hn L hIn hY_n hk hE hP => ?_
  replace hL_n5 := hL_n5.moved hY_n5 (fun b u h1 h2 hb => hk b u (z_Yne hb hY_n35 (by omega)) hb) (fun b u g hb hu hg => x_eq.Enld hE hb hg hu (by decide +kernel))
  replace hL_n16 := hL_n16.moved hY_n16 (fun b u h1 h2 hb => hk b u (z_Yne hb hY_n35 (by omega)) hb) (fun b u g hb hu hg => x_eq.Enld hE hb hg hu (by decide +kernel))
  replace hdis := hdis.mv hY_n5 hY_n16 (fun b u g hb hu hg => x_eq.Enld hE hb hg hu (by decide +kernel))
  obtain ⟨by_, hs_by, hY_by, hA_by⟩ := hP _ rfl
  replace hs12 := y_Efld hE hY_this rfl (by decide) (by decide) hs12
  replace hs23 := y_Efld hE hY_this rfl (by decide) (by decide) hs23
  replace hs31 := y_Efld hE hY_this rfl (by decide) (by decide) hs31
  replace hd_n35_2 := y_Efld hE hY_n35 rfl (by decide) (by decide) hd_n35_2
  replace hn_n28 := fun j hj => (z_atk (y_Earr hE hY_n28 rfl (by decide))).trans (hn_n28 j hj)
  replace hY_this := hk _ _ (y_ne hY_this hY_n35 rfl) hY_this
  replace hY_n5 := hk _ _ (y_ne hY_n5 hY_n35 rfl) hY_n5
  replace hY_n16 := hk _ _ (y_ne hY_n16 hY_n35 rfl) hY_n16
  replace hY_n28 := hk _ _ (y_ne hY_n28 hY_n35 rfl) hY_n28
  replace hY_n35 := hY_n
  clear hI hE hk hY_n hP
  rename x_I _ _ _ _ _ _ _ _ _ _ => hI
  refine y_putf X (fw227 X.2.2.2.2.1 hnm) hY0 hI hY_this rfl rfl (y_crefA hY_n35 rfl) (by decide +kernel) iZ_d42 fun H sl hI ho hs hk => ?_
  replace hs12 := hk _ _ (by decide +kernel) (by decide) hs12
  replace hs23 := hk _ _ (by decide +kernel) (by decide) hs23
  replace hs31 := hk _ _ (by decide +kernel) (by decide) hs31
  replace hd_n35_2 := y_slk hd_n35_2 (ho _ (y_ne hY_n35 hY_this rfl))
  replace hs_by := y_slk hs_by (ho _ (y_ne hY_n35 hY_this rfl))
  replace hA_by := hA_by.kept (ho _ (y_ne hY_by hY_this rfl))
  replace hn_n28 := fun j hj => (z_atk (ho _ (y_ne hY_n28 hY_this rfl))).trans (hn_n28 j hj)
  replace hL_n5 := hL_n5.moved hY_n5 (fun b u _ _ hb => hb) (fun b u g hb hu _ => x_eq.of (ho b (z_Yne hb hY_this (by omega))))
  replace hL_n16 := hL_n16.moved hY_n16 (fun b u _ _ hb => hb) (fun b u g hb hu _ => x_eq.of (ho b (z_Yne hb hY_this (by omega))))
  replace hdis := hdis.mv hY_n5 hY_n16 (fun b u g hb hu _ => x_eq.of (ho b (z_Yne hb hY_this (by omega))))
  replace hs := hs
  have hs42 := hs
  refine lv_aload_n hx hb iZ_d45 rfl (lv_at hl 0 rfl) ?_
  refine y_newo (tag := 7) X hY0 hI rfl ⟨0, _, RX0, TX0, tyX0, rfl, rfl, iX0, tyX0_ok, (hts _ (x_bw11 9 rfl rfl)), (hts _ (x_bw11 10 rfl rfl)), (hts _ (x_bw0 6 rfl rfl)), x_dfl (by decide +kernel)⟩ (Nat.le_of_ble_eq_true rfl) (Nat.le_of_ble_eq_true rfl) iZ_d46 fun Yn H n46 hnw => ?_
  obtain ⟨hIn, hmo, hY_n46, hfr_n46, hke⟩ := hnw
  replace hs12 := y_slk hs12 (hke _ _ hY_this)
  replace hs23 := y_slk hs23 (hke _ _ hY_this)
  replace hs31 := y_slk hs31 (hke _ _ hY_this)
  replace hd_n35_2 := y_slk hd_n35_2 (hke _ _ hY_n35)
  replace hs_by := y_slk hs_by (hke _ _ hY_n35)
  replace hs42 := y_slk hs42 (hke _ _ hY_this)
  replace hA_by := hA_by.kept (hke _ _ hY_by)
  replace hn_n28 := fun j hj => (z_atk (hke _ _ hY_n28)).trans (hn_n28 j hj)
  replace hL_n5 := hL_n5.moved hY_n5 (fun b u _ _ hb => hmo b u hb) (fun b u g hb _ _ => x_eq.of (hke b u hb))
  replace hL_n16 := hL_n16.moved hY_n16 (fun b u _ _ hb => hmo b u hb) (fun b u g hb _ _ => x_eq.of (hke b u hb))
  replace hdis := hdis.mv hY_n5 hY_n16 (fun b u g hb _ _ => x_eq.of (hke b u hb))
  replace hY_this := hmo _ _ hY_this
  replace hY_n5 := hmo _ _ hY_n5
  replace hY_n16 := hmo _ _ hY_n16
  replace hY_n28 := hmo _ _ hY_n28
  replace hY_n35 := hmo _ _ hY_n35
  replace hY_by := hmo _ _ hY_by
  replace hI := hIn
  clear hIn hmo hke
  refine lv_dup hx hb iZ_d49 rfl ?_
  refine y_callCP (z := (2, 32, 1, none, xM1020)) (b := n46) (rest := [.ref n46, .ref this]) (y_cok.of (x_cokIN (n := 0) (host := "TwinFires") X xm1020 rfl (x_cons (x_bw11 12 rfl rfl) (x_cons (x_bw0 6 rfl rfl) x_nilm)) (x_bn11 11 rfl rfl) (x_bw11 13 rfl rfl) rfl (fun Y av h => x_this h) (by decide +kernel) ⟨Nat.le_of_ble_eq_true rfl, Nat.le_of_ble_eq_true rfl⟩)) hY0 hI rfl iZ_d50 hl.1 (Nat.le_of_ble_eq_true rfl) (Nat.le_of_ble_eq_true rfl) (Nat.le_of_ble_eq_true rfl) (y_cons (y_cref hY_n46 rfl) y_nil) rfl rfl trivial (y_sub_ef (by decide +kernel)) hfr_n46 rfl fun Yn Hn L hIn hY_n hk hE hP => ?_
  replace hL_n5 := hL_n5.moved hY_n5 (fun b u h1 h2 hb => hk b u (z_Yne hb hY_n46 (by omega)) hb) (fun b u g hb hu hg => x_eq.Enld hE hb hg hu (by decide +kernel))
  replace hL_n16 := hL_n16.moved hY_n16 (fun b u h1 h2 hb => hk b u (z_Yne hb hY_n46 (by omega)) hb) (fun b u g hb hu hg => x_eq.Enld hE hb hg hu (by decide +kernel))
  replace hdis := hdis.mv hY_n5 hY_n16 (fun b u g hb hu hg => x_eq.Enld hE hb hg hu (by decide +kernel))
  replace hs12 := y_Efld hE hY_this rfl (by decide) (by decide) hs12
  replace hs23 := y_Efld hE hY_this rfl (by decide) (by decide) hs23
  replace hs31 := y_Efld hE hY_this rfl (by decide) (by decide) hs31
  replace hd_n35_2 := y_Efld hE hY_n35 rfl (by decide) (by decide) hd_n35_2
  replace hs_by := y_Efld hE hY_n35 rfl (by decide) (by decide) hs_by
  replace hs42 := y_Efld hE hY_this rfl (by decide) (by decide) hs42
  replace hA_by := hA_by.kept (y_Earr hE hY_by rfl (by decide))
  replace hn_n28 := fun j hj => (z_atk (y_Earr hE hY_n28 rfl (by decide))).trans (hn_n28 j hj)
  replace hY_this := hk _ _ (y_ne hY_this hY_n46 rfl) hY_this
  replace hY_n5 := hk _ _ (y_ne hY_n5 hY_n46 rfl) hY_n5
  replace hY_n16 := hk _ _ (y_ne hY_n16 hY_n46 rfl) hY_n16
  replace hY_n28 := hk _ _ (y_ne hY_n28 hY_n46 rfl) hY_n28
  replace hY_n35 := hk _ _ (y_ne hY_n35 hY_n46 rfl) hY_n35
  replace hY_by := hk _ _ (y_ne hY_by hY_n46 rfl) hY_by
  replace hY_n46 := hY_n
  clear hI hE hk hY_n hP
  rename x_I _ _ _ _ _ _ _ _ _ _ => hI
  refine y_putf X (fw228 X.2.2.2.2.1 hnm) hY0 hI hY_this rfl rfl (y_crefA hY_n46 rfl) (by decide +kernel) iZ_d53 fun H sl hI ho hs hk => ?_
  replace hs12 := hk _ _ (by decide +kernel) (by decide) hs12
  replace hs23 := hk _ _ (by decide +kernel) (by decide) hs23
  replace hs31 := hk _ _ (by decide +kernel) (by decide) hs31
  replace hd_n35_2 := y_slk hd_n35_2 (ho _ (y_ne hY_n35 hY_this rfl))
  replace hs_by := y_slk hs_by (ho _ (y_ne hY_n35 hY_this rfl))
  replace hs42 := hk _ _ (by decide +kernel) (by decide) hs42
  replace hA_by := hA_by.kept (ho _ (y_ne hY_by hY_this rfl))
  replace hn_n28 := fun j hj => (z_atk (ho _ (y_ne hY_n28 hY_this rfl))).trans (hn_n28 j hj)
  replace hL_n5 := hL_n5.moved hY_n5 (fun b u _ _ hb => hb) (fun b u g hb hu _ => x_eq.of (ho b (z_Yne hb hY_this (by omega))))
  replace hL_n16 := hL_n16.moved hY_n16 (fun b u _ _ hb => hb) (fun b u g hb hu _ => x_eq.of (ho b (z_Yne hb hY_this (by omega))))
  replace hdis := hdis.mv hY_n5 hY_n16 (fun b u g hb hu _ => x_eq.of (ho b (z_Yne hb hY_this (by omega))))
  replace hs := hs
  have hs53 := hs
  refine lv_aload_n hx hb iZ_d56 rfl (lv_at hl 0 rfl) ?_
  refine y_newo (tag := 9) X hY0 hI rfl ⟨5, _, RX5, TX5, tyX5, rfl, rfl, iX5, tyX5_ok, (hts _ (x_bw14 14 rfl rfl)), (hts _ (x_bw14 15 rfl rfl)), (hts _ (x_bw0 8 rfl rfl)), x_dfl (by decide +kernel)⟩ (Nat.le_of_ble_eq_true rfl) (Nat.le_of_ble_eq_true rfl) iZ_d57 fun Yn H n57 hnw => ?_
  obtain ⟨hIn, hmo, hY_n57, hfr_n57, hke⟩ := hnw
  replace hs12 := y_slk hs12 (hke _ _ hY_this)
  replace hs23 := y_slk hs23 (hke _ _ hY_this)
  replace hs31 := y_slk hs31 (hke _ _ hY_this)
  replace hd_n35_2 := y_slk hd_n35_2 (hke _ _ hY_n35)
  replace hs_by := y_slk hs_by (hke _ _ hY_n35)
  replace hs42 := y_slk hs42 (hke _ _ hY_this)
  replace hs53 := y_slk hs53 (hke _ _ hY_this)
  replace hA_by := hA_by.kept (hke _ _ hY_by)
  replace hn_n28 := fun j hj => (z_atk (hke _ _ hY_n28)).trans (hn_n28 j hj)
  replace hL_n5 := hL_n5.moved hY_n5 (fun b u _ _ hb => hmo b u hb) (fun b u g hb _ _ => x_eq.of (hke b u hb))
  replace hL_n16 := hL_n16.moved hY_n16 (fun b u _ _ hb => hmo b u hb) (fun b u g hb _ _ => x_eq.of (hke b u hb))
  replace hdis := hdis.mv hY_n5 hY_n16 (fun b u g hb _ _ => x_eq.of (hke b u hb))
  replace hY_this := hmo _ _ hY_this
  replace hY_n5 := hmo _ _ hY_n5
  replace hY_n16 := hmo _ _ hY_n16
  replace hY_n28 := hmo _ _ hY_n28
  replace hY_n35 := hmo _ _ hY_n35
  replace hY_by := hmo _ _ hY_by
  replace hY_n46 := hmo _ _ hY_n46
  replace hI := hIn
  clear hIn hmo hke
  refine lv_dup hx hb iZ_d60 rfl ?_
  refine y_callCP (z := (2, 39, 1, none, xM1021)) (b := n57) (rest := [.ref n57, .ref this]) (y_cok.of (x_cokIN (n := 0) (host := "TwinFires") X xm1021 rfl (x_cons (x_bw15 1 rfl rfl) (x_cons (x_bw0 8 rfl rfl) x_nilm)) (x_bn15 0 rfl rfl) (x_bw15 2 rfl rfl) rfl (fun Y av h => x_this h) (by decide +kernel) ⟨Nat.le_of_ble_eq_true rfl, Nat.le_of_ble_eq_true rfl⟩)) hY0 hI rfl iZ_d61 hl.1 (Nat.le_of_ble_eq_true rfl) (Nat.le_of_ble_eq_true rfl) (Nat.le_of_ble_eq_true rfl) (y_cons (y_cref hY_n57 rfl) y_nil) rfl rfl trivial (y_sub_ef (by decide +kernel)) hfr_n57 rfl fun Yn Hn L hIn hY_n hk hE hP => ?_
  replace hL_n5 := hL_n5.moved hY_n5 (fun b u h1 h2 hb => hk b u (z_Yne hb hY_n57 (by omega)) hb) (fun b u g hb hu hg => x_eq.Enld hE hb hg hu (by decide +kernel))
  replace hL_n16 := hL_n16.moved hY_n16 (fun b u h1 h2 hb => hk b u (z_Yne hb hY_n57 (by omega)) hb) (fun b u g hb hu hg => x_eq.Enld hE hb hg hu (by decide +kernel))
  replace hdis := hdis.mv hY_n5 hY_n16 (fun b u g hb hu hg => x_eq.Enld hE hb hg hu (by decide +kernel))
  replace hs12 := y_Efld hE hY_this rfl (by decide) (by decide) hs12
  replace hs23 := y_Efld hE hY_this rfl (by decide) (by decide) hs23
  replace hs31 := y_Efld hE hY_this rfl (by decide) (by decide) hs31
  replace hd_n35_2 := y_Efld hE hY_n35 rfl (by decide) (by decide) hd_n35_2
  replace hs_by := y_Efld hE hY_n35 rfl (by decide) (by decide) hs_by
  replace hs42 := y_Efld hE hY_this rfl (by decide) (by decide) hs42
  replace hs53 := y_Efld hE hY_this rfl (by decide) (by decide) hs53
  replace hA_by := hA_by.kept (y_Earr hE hY_by rfl (by decide))
  replace hn_n28 := fun j hj => (z_atk (y_Earr hE hY_n28 rfl (by decide))).trans (hn_n28 j hj)
  replace hY_this := hk _ _ (y_ne hY_this hY_n57 rfl) hY_this
  replace hY_n5 := hk _ _ (y_ne hY_n5 hY_n57 rfl) hY_n5
  replace hY_n16 := hk _ _ (y_ne hY_n16 hY_n57 rfl) hY_n16
  replace hY_n28 := hk _ _ (y_ne hY_n28 hY_n57 rfl) hY_n28
  replace hY_n35 := hk _ _ (y_ne hY_n35 hY_n57 rfl) hY_n35
  replace hY_by := hk _ _ (y_ne hY_by hY_n57 rfl) hY_by
  replace hY_n46 := hk _ _ (y_ne hY_n46 hY_n57 rfl) hY_n46
  replace hY_n57 := hY_n
  clear hI hE hk hY_n hP
  rename x_I _ _ _ _ _ _ _ _ _ _ => hI
  refine y_putf X (fw229 X.2.2.2.2.1 hnm) hY0 hI hY_this rfl rfl (y_crefA hY_n57 rfl) (by decide +kernel) iZ_d64 fun H sl hI ho hs hk => ?_
  replace hs12 := hk _ _ (by decide +kernel) (by decide) hs12
  replace hs23 := hk _ _ (by decide +kernel) (by decide) hs23
  replace hs31 := hk _ _ (by decide +kernel) (by decide) hs31
  replace hd_n35_2 := y_slk hd_n35_2 (ho _ (y_ne hY_n35 hY_this rfl))
  replace hs_by := y_slk hs_by (ho _ (y_ne hY_n35 hY_this rfl))
  replace hs42 := hk _ _ (by decide +kernel) (by decide) hs42
  replace hs53 := hk _ _ (by decide +kernel) (by decide) hs53
  replace hA_by := hA_by.kept (ho _ (y_ne hY_by hY_this rfl))
  replace hn_n28 := fun j hj => (z_atk (ho _ (y_ne hY_n28 hY_this rfl))).trans (hn_n28 j hj)
  replace hL_n5 := hL_n5.moved hY_n5 (fun b u _ _ hb => hb) (fun b u g hb hu _ => x_eq.of (ho b (z_Yne hb hY_this (by omega))))
  replace hL_n16 := hL_n16.moved hY_n16 (fun b u _ _ hb => hb) (fun b u g hb hu _ => x_eq.of (ho b (z_Yne hb hY_this (by omega))))
  replace hdis := hdis.mv hY_n5 hY_n16 (fun b u g hb hu _ => x_eq.of (ho b (z_Yne hb hY_this (by omega))))
  replace hs := hs
  have hs64 := hs
  refine lv_aload_n hx hb iZ_d67 rfl (lv_at hl 0 rfl) ?_
  refine lv_iconst hx hb iZ_d68 (v := 3) (by decide) ?_
  have ec3 : (3 : Int32).toInt = 3 := by decide
  refine y_newaC (tag := 42) (k := 3) X hY0 hI rfl rfl (by decide) (hts _ (x_bw5 1 rfl rfl)) (fun Y j => x_dfa (by decide +kernel) Y j) (by decide) (Nat.le_of_ble_eq_true rfl) (Nat.le_of_ble_eq_true rfl) iZ_d69 fun Yn H n69 hnw hct => ?_
  obtain ⟨hIn, hmo, hY_n69, hfr_n69, hke⟩ := hnw
  replace hs12 := y_slk hs12 (hke _ _ hY_this)
  replace hs23 := y_slk hs23 (hke _ _ hY_this)
  replace hs31 := y_slk hs31 (hke _ _ hY_this)
  replace hd_n35_2 := y_slk hd_n35_2 (hke _ _ hY_n35)
  replace hs_by := y_slk hs_by (hke _ _ hY_n35)
  replace hs42 := y_slk hs42 (hke _ _ hY_this)
  replace hs53 := y_slk hs53 (hke _ _ hY_this)
  replace hs64 := y_slk hs64 (hke _ _ hY_this)
  replace hA_by := hA_by.kept (hke _ _ hY_by)
  replace hn_n28 := fun j hj => (z_atk (hke _ _ hY_n28)).trans (hn_n28 j hj)
  replace hL_n5 := hL_n5.moved hY_n5 (fun b u _ _ hb => hmo b u hb) (fun b u g hb _ _ => x_eq.of (hke b u hb))
  replace hL_n16 := hL_n16.moved hY_n16 (fun b u _ _ hb => hmo b u hb) (fun b u g hb _ _ => x_eq.of (hke b u hb))
  replace hdis := hdis.mv hY_n5 hY_n16 (fun b u g hb _ _ => x_eq.of (hke b u hb))
  replace hY_this := hmo _ _ hY_this
  replace hY_n5 := hmo _ _ hY_n5
  replace hY_n16 := hmo _ _ hY_n16
  replace hY_n28 := hmo _ _ hY_n28
  replace hY_n35 := hmo _ _ hY_n35
  replace hY_by := hmo _ _ hY_by
  replace hY_n46 := hmo _ _ hY_n46
  replace hY_n57 := hmo _ _ hY_n57
  replace hI := hIn
  clear hIn hmo hke
  clear hct
  refine y_putf X (fw230 X.2.2.2.2.1 hnm) hY0 hI hY_this rfl rfl (y_crefA hY_n69 rfl) (by decide +kernel) iZ_d71 fun H sl hI ho hs hk => ?_
  replace hs12 := hk _ _ (by decide +kernel) (by decide) hs12
  replace hs23 := hk _ _ (by decide +kernel) (by decide) hs23
  replace hs31 := hk _ _ (by decide +kernel) (by decide) hs31
  replace hd_n35_2 := y_slk hd_n35_2 (ho _ (y_ne hY_n35 hY_this rfl))
  replace hs_by := y_slk hs_by (ho _ (y_ne hY_n35 hY_this rfl))
  replace hs42 := hk _ _ (by decide +kernel) (by decide) hs42
  replace hs53 := hk _ _ (by decide +kernel) (by decide) hs53
  replace hs64 := hk _ _ (by decide +kernel) (by decide) hs64
  replace hA_by := hA_by.kept (ho _ (y_ne hY_by hY_this rfl))
  replace hn_n28 := fun j hj => (z_atk (ho _ (y_ne hY_n28 hY_this rfl))).trans (hn_n28 j hj)
  replace hL_n5 := hL_n5.moved hY_n5 (fun b u _ _ hb => hb) (fun b u g hb hu _ => x_eq.of (ho b (z_Yne hb hY_this (by omega))))
  replace hL_n16 := hL_n16.moved hY_n16 (fun b u _ _ hb => hb) (fun b u g hb hu _ => x_eq.of (ho b (z_Yne hb hY_this (by omega))))
  replace hdis := hdis.mv hY_n5 hY_n16 (fun b u g hb hu _ => x_eq.of (ho b (z_Yne hb hY_this (by omega))))
  replace hs := hs
  have hs71 := hs
  refine lv_aload_n hx hb iZ_d74 rfl (lv_at hl 0 rfl) ?_
  refine lv_lconst hx hb iZ_d75 (v := 0) (by decide) ?_
  have el0 : (0 : Int64).toInt = 0 := by decide
  refine y_putf X (fw231 X.2.2.2.2.1) hY0 hI hY_this rfl rfl ⟨_, rfl, x_i64 _⟩ (by decide +kernel) iZ_d76 fun H sl hI ho hs hk => ?_
  replace hs12 := hk _ _ (by decide +kernel) (by decide) hs12
  replace hs23 := hk _ _ (by decide +kernel) (by decide) hs23
  replace hs31 := hk _ _ (by decide +kernel) (by decide) hs31
  replace hd_n35_2 := y_slk hd_n35_2 (ho _ (y_ne hY_n35 hY_this rfl))
  replace hs_by := y_slk hs_by (ho _ (y_ne hY_n35 hY_this rfl))
  replace hs42 := hk _ _ (by decide +kernel) (by decide) hs42
  replace hs53 := hk _ _ (by decide +kernel) (by decide) hs53
  replace hs64 := hk _ _ (by decide +kernel) (by decide) hs64
  replace hs71 := hk _ _ (by decide +kernel) (by decide) hs71
  replace hA_by := hA_by.kept (ho _ (y_ne hY_by hY_this rfl))
  replace hn_n28 := fun j hj => (z_atk (ho _ (y_ne hY_n28 hY_this rfl))).trans (hn_n28 j hj)
  replace hL_n5 := hL_n5.moved hY_n5 (fun b u _ _ hb => hb) (fun b u g hb hu _ => x_eq.of (ho b (z_Yne hb hY_this (by omega))))
  replace hL_n16 := hL_n16.moved hY_n16 (fun b u _ _ hb => hb) (fun b u g hb hu _ => x_eq.of (ho b (z_Yne hb hY_this (by omega))))
  replace hdis := hdis.mv hY_n5 hY_n16 (fun b u g hb hu _ => x_eq.of (ho b (z_Yne hb hY_this (by omega))))
  replace hs := hs
  have hs76 := hs
  refine lv_aload_n hx hb iZ_d79 rfl (lv_at hl 0 rfl) ?_
  refine lv_lconst hx hb iZ_d80 (v := 1) (by decide) ?_
  have el1 : (1 : Int64).toInt = 1 := by decide
  refine y_putf X (fw232 X.2.2.2.2.1) hY0 hI hY_this rfl rfl ⟨_, rfl, x_i64 _⟩ (by decide +kernel) iZ_d81 fun H sl hI ho hs hk => ?_
  replace hs12 := hk _ _ (by decide +kernel) (by decide) hs12
  replace hs23 := hk _ _ (by decide +kernel) (by decide) hs23
  replace hs31 := hk _ _ (by decide +kernel) (by decide) hs31
  replace hd_n35_2 := y_slk hd_n35_2 (ho _ (y_ne hY_n35 hY_this rfl))
  replace hs_by := y_slk hs_by (ho _ (y_ne hY_n35 hY_this rfl))
  replace hs42 := hk _ _ (by decide +kernel) (by decide) hs42
  replace hs53 := hk _ _ (by decide +kernel) (by decide) hs53
  replace hs64 := hk _ _ (by decide +kernel) (by decide) hs64
  replace hs71 := hk _ _ (by decide +kernel) (by decide) hs71
  replace hs76 := hk _ _ (by decide +kernel) (by decide) hs76
  replace hA_by := hA_by.kept (ho _ (y_ne hY_by hY_this rfl))
  replace hn_n28 := fun j hj => (z_atk (ho _ (y_ne hY_n28 hY_this rfl))).trans (hn_n28 j hj)
  replace hL_n5 := hL_n5.moved hY_n5 (fun b u _ _ hb => hb) (fun b u g hb hu _ => x_eq.of (ho b (z_Yne hb hY_this (by omega))))
  replace hL_n16 := hL_n16.moved hY_n16 (fun b u _ _ hb => hb) (fun b u g hb hu _ => x_eq.of (ho b (z_Yne hb hY_this (by omega))))
  replace hdis := hdis.mv hY_n5 hY_n16 (fun b u g hb hu _ => x_eq.of (ho b (z_Yne hb hY_this (by omega))))
  replace hs := hs
  have hs81 := hs
  have hYC := hY_this
  have hf : ∀ (k : Nat) (ft : xV), ([xR false [2], xR false [2], xR false [41], xR false [4], xR false [6], xR false [8], xR false [42], xFL, xFL])[k]? = some ft → ∃ v : Value, x_sl D 11 k this H = some v ∧ x_c Yn ft v ∧ x_nrT 1 ft = true := fun k ft hk => match k, hk with
      | 0, hk => by cases hk; exact ⟨_, hs12, y_crefA hY_n5 rfl, rfl⟩
      | 1, hk => by cases hk; exact ⟨_, hs23, y_crefA hY_n16 rfl, rfl⟩
      | 2, hk => by cases hk; exact ⟨_, hs31, y_crefA hY_n28 rfl, rfl⟩
      | 3, hk => by cases hk; exact ⟨_, hs42, y_crefA hY_n35 rfl, rfl⟩
      | 4, hk => by cases hk; exact ⟨_, hs53, y_crefA hY_n46 rfl, rfl⟩
      | 5, hk => by cases hk; exact ⟨_, hs64, y_crefA hY_n57 rfl, rfl⟩
      | 6, hk => by cases hk; exact ⟨_, hs71, y_crefA hY_n69 rfl, rfl⟩
      | 7, hk => by cases hk; obtain ⟨v, e1, e2⟩ := y_fld (k := 7) hI.1 hYC rfl rfl; exact ⟨v, e1, e2, rfl⟩
      | 8, hk => by cases hk; obtain ⟨v, e1, e2⟩ := y_fld (k := 8) hI.1 hYC rfl rfl; exact ⟨v, e1, e2, rfl⟩
      | k + 9, hk => by cases hk
  exact y_retC (o := (11, [xR false [2], xR false [2], xR false [41], xR false [4], xR false [6], xR false [8], xR false [42], xFL, xFL])) B hI rfl rfl hYC rfl rfl rfl rfl (by decide +kernel) (by decide +kernel) List.mem_cons_self hf (fun t' h1 => by cases h1; exact ⟨n5, n16, n28, n35, by_, fun _ => none, ⟨hs12, hs23, hs31, hs42, hs_by, hd_n35_2⟩, ⟨(x_up_ne (y_ne hY_n5 hYC rfl)).trans hY_n5, (x_up_ne (y_ne hY_n16 hYC rfl)).trans hY_n16, (x_up_ne (y_ne hY_n28 hYC rfl)).trans hY_n28, (x_up_ne (y_ne hY_n35 hYC rfl)).trans hY_n35, (x_up_ne (y_ne hY_by hYC rfl)).trans hY_by, fun i a hk => by cases hk⟩, (hL_n5.moved hY_n5 (fun b u h1 h2 hb => (x_up_ne (z_Yne hb hYC (by omega))).trans hb) (fun b u g hb hu hg => x_eq.of rfl)), ⟨m_row0, (hL_n16.moved hY_n16 (fun b u h1 h2 hb => (x_up_ne (z_Yne hb hYC (by omega))).trans hb) (fun b u g hb hu hg => x_eq.of rfl))⟩, fun i hi => ⟨hn_n28 i hi, Or.inl ⟨rfl, rfl⟩⟩, ⟨hdis, fun i a _ hk => (by cases hk), fun a b hk => by cases hk⟩, fun _ _ => rfl, hA_by⟩) (by exact Nat.le_of_ble_eq_true rfl) (by exact Nat.le_of_ble_eq_true rfl) iZ_d84

