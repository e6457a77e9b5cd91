theorem whole_start {p : Program} {e : Env} {s : State} {m : MethodId} {below : List Frame} {meth : Method} {c : Code} (l : Launch) (hflags : l.flags = flags0) {b L : Nat} {xs : Nat → Int32} (hL : L ≤ 3072) (C0 : lw_At p s m meth c b L xs) : W p l e room_1 s m #[Value.ref b] below meth c s.heap [] 0 0 (lw_Z below #[Value.ref b] s) (entryFrame m ([Value.ref b] : List Value).toArray 4) := by
  obtain ⟨hx, hb, hrt, hml, hown, hts0, hX, hbl, hlk, hg⟩ := C0
  obtain ⟨D, hK⟩ := z_known hts0
  have X : x_cx p s m #[Value.ref b] c D s xMlaw.2.1 xMlaw.2.2.1 vwCl x_Tb x_Nb "TwinFiresLaw" := ⟨hx, hb, hml, hown, z_Tb hts0, hK, hK, State.WarmedH.refl s, z_Nb hts0, x_Tb_good, x_Nb_ok⟩
  have hI : x_I D x_G x_Zs s (x_efs xMlaw) z_Y0 s.heap z_Y0 s.heap [] := ⟨z_H0 D hts0 hg, fun q _ => rfl, x_E.rf, va_S.rf⟩
  have hts := X.2.2.2.2.1
  have hY0 : ∀ q u, z_Y0 q = some u → q < s.heap.size := fun q u h => by cases h
  have hl := lv_entry [Value.ref b] (n := 4) (Nat.le_of_ble_eq_true rfl)
  rw [lg_entry_eq]
  revert hl
  generalize (lg_sl [Value.ref b] ++ List.replicate (4 - (lg_sl [Value.ref b]).length) Slot.unset).toArray = ls
  intro hl
  replace hl : lv_has ls 4 [(0, .ref b)] := hl
  refine y_newo (tag := 1) X hY0 hI rfl ⟨11, _, RX11, TX11, tyX11, rfl, rfl, iX11, tyX11_ok, (hts _ (x_bw1 6 rfl rfl)), (hts _ (x_bw1 7 rfl rfl)), (hts _ (x_bw0 1 rfl rfl)), x_dfl (by decide +kernel)⟩ (Nat.le_of_ble_eq_true rfl) (Nat.le_of_ble_eq_true rfl) la_d0 fun Yn H x hnw => ?_
  obtain ⟨hIn, hmo, hY_x, hfr_x, hke⟩ := hnw
  refine lv_dup hx hb la_d3 rfl ?_
  refine y_callCP (z := (2, 9, 1, none, xMtx)) (b := x) (rest := [.ref x]) (y_cokI (n := 0) X ym_twInitX rfl (x_cons (x_bw1 8 rfl rfl) (x_cons (x_bw1 9 rfl rfl) (x_cons (x_bw0 1 rfl rfl) x_nilm))) (x_bw1 10 rfl rfl) rfl (fun Y av h => x_this h) (by decide +kernel) ⟨Nat.le_of_ble_eq_true rfl, Nat.le_of_ble_eq_true rfl⟩) hY0 hIn rfl la_d4 hl.1 (Nat.le_of_ble_eq_true rfl) (Nat.le_of_ble_eq_true rfl) (Nat.le_of_ble_eq_true rfl) (y_cons (y_cref hY_x rfl) y_nil) rfl rfl trivial (y_sub_ef (by decide +kernel)) hfr_x rfl fun Y1 H1 L1 hI1 hY_x1 hk1 _ hP1 => ?_
  have hR := hP1 _ rfl
  refine lv_astore_n hx hb la_d7 rfl hl (by decide) (lv' := [(1, .ref x), (0, .ref b)]) rfl fun ls hl => ?_
  refine y_newoC (tag := 18) (ty := tyX12) X hY0 hI1 rfl rfl iX12 tyX12_ok (hts _ (x_bw61 9 rfl rfl)) (hts _ (x_bw61 10 rfl rfl)) (hts _ (x_bw0 9 rfl rfl)) (x_dfl (by decide +kernel)) (Nat.le_of_ble_eq_true rfl) (Nat.le_of_ble_eq_true rfl) la_d8 fun Y2 H2 mo hnw2 hct => ?_
  obtain ⟨hI2, hmo2, hY_mo, hfr_mo, hke2⟩ := hnw2
  have hty9 := hct 10 (by decide)
  replace hR := hR.moved hY_x1 (fun b u _ hb => hmo2 b u hb) (fun b u g hb _ _ => x_eq.of (hke2 b u hb))
  replace hY_x1 := hmo2 _ _ hY_x1
  refine lv_dup hx hb la_d11 rfl ?_
  refine y_callCP (z := (2, 12, 1, none, xMmx)) (b := mo) (rest := [.ref mo]) (y_cokI (n := 0) X ym_modInitX rfl (x_cons (x_bw61 11 rfl rfl) (x_cons (x_bw61 12 rfl rfl) (x_cons (x_bw0 9 rfl rfl) x_nilm))) (x_bw61 13 rfl rfl) rfl (fun Y av h => x_this h) (by decide +kernel) ⟨Nat.le_of_ble_eq_true rfl, Nat.le_of_ble_eq_true rfl⟩) hY0 hI2 rfl la_d12 hl.1 (Nat.le_of_ble_eq_true rfl) (Nat.le_of_ble_eq_true rfl) (Nat.le_of_ble_eq_true rfl) (y_cons (y_cref hY_mo rfl) y_nil) rfl rfl (fun t' h1 => by cases h1; exact hty9) (y_sub_ef (by decide +kernel)) hfr_mo rfl fun Y3 H3 L3 hI3 hY_mo3 hk3 hE3 hP3 => ?_
  have hM := hP3 _ rfl
  replace hR := (hR.E2 (Y' := x_up Y3 mo 18) hY_x1 hE3 (fun b u hb => by by_cases e0 : b = mo; (subst e0; rw [hY_mo] at hb; cases hb; exact x_up_self _ _ _); (rw [x_up_ne e0]; exact hk3 b u e0 hb)) (by decide +kernel)).retag (Y' := Y3) (fun b u hu hb => by by_cases e0 : b = mo; (subst e0; rw [x_up_self] at hb; cases hb; exact absurd rfl hu); (rw [x_up_ne e0] at hb; exact hb))
  replace hY_x1 := hk3 _ _ (y_ne hY_x1 hY_mo rfl) hY_x1
  refine lv_astore_n hx hb la_d15 rfl hl (by decide) (lv' := [(2, .ref mo), (1, .ref x), (0, .ref b)]) rfl fun ls hl => ?_
  refine lv_iconst hx hb la_d16 (v := 0) (by decide) ?_
  refine lv_istore_n hx hb la_d17 rfl hl (by decide) (lv' := [(3, .int 0), (2, .ref mo), (1, .ref x), (0, .ref b)]) rfl fun ls hl => ?_
  exact la_L18 X hrt hlk hX hbl hL 3100 _ _ _ _ _ _ _ _ _ 0 hI3 hY_x1 hY_mo3 hR hM ⟨m_inv0, m_rgK0⟩ (lv_sub hl [0, 3, 2, 1] rfl) (by decide) (Nat.zero_le _) (by omega)

