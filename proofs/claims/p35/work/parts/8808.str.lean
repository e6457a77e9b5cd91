def p_B2 (f : Nat → Int32) : pPre := fun U Hh av => ∃ (i : Int32) (A : Nat → Prop) (q b n : Nat), av = [.ref b, .int i] ∧ 0 ≤ i.toInt ∧ i.toInt < (n : Int) ∧ n ≤ 6 ∧ s_S A U Hh q b n f
def p_Q2 (f : Nat → Int32) : pPost := fun _ _ av v => ∀ (b : Nat) (i : Int32), av = [.ref b, .int i] → v = some (.int (f i.toInt.toNat &&& 255)) ∧ narrow .char (.int (f i.toInt.toNat &&& 255)) = .int (f i.toInt.toNat &&& 255)
def p_B6 (f : Nat → Int32) : pPre := fun U Hh av => ∃ (i : Int32) (A : Nat → Prop) (q b n : Nat), av = [.ref q, .int i] ∧ 0 ≤ i.toInt ∧ i.toInt < (n : Int) ∧ n ≤ 6 ∧ s_S A U Hh q b n f
def p_Q7 : pPost := fun U Hh av v => ∀ item : Int32, av = [.int item] → 0 ≤ item.toInt → item.toInt ≤ 9 → ∃ (A : Nat → Prop) (q b : Nat) (f : Nat → Int32), v = some (.ref q) ∧ s_S A U Hh q b (t_words.getD item.toInt.toNat []).length f ∧ ∀ j, j < (t_words.getD item.toInt.toNat []).length → (f j &&& 255).toInt = (t_words.getD item.toInt.toNat []).getD j 0
theorem pm2X {f : Nat → Int32} : p_Met x_Tb x_Nb xMs2 (p_B2 f) (p_Q2 f) := by
  refine p_main (by decide +kernel) (fun U Hh av h => ?_) x_Tb_good x_Nb_ok ?_
  · obtain ⟨i, A, q, b, n, rfl, -⟩ := h; exact Nat.le_of_ble_eq_true rfl
  intro p l e s m below meth c U av ls X hrt hlk hPre hl
  obtain ⟨hx, hb, hml, hown, hts, hU, hNw, hG, hN⟩ := id X
  obtain ⟨i, A, q, b, n, rfl, h0, h1, hn, hS0⟩ := hPre
  have hS := hS0.moved hU
  obtain ⟨hO, hC, hV, hT, hZc, w, hw, hZ⟩ := hS
  obtain ⟨-, -, -, -, -, w0, hw0, hZ0⟩ := hS0
  replace hl : lv_has ls xMs2.2.2.1 [(0, .ref b), (1, .int i)] := hl
  refine lv_iload_n hx hb s2_d0 rfl (lv_at hl 1 rfl) ?_
  refine lv_aload_n hx hb s2_d1 rfl (lv_at hl 0 rfl) ?_
  refine va_tlen hx hb hT va_S.rf (v := nI n) rfl s2_d2 ?_
  refine p_runS (n := 2) (av := [.int i, .int (nI n)]) (rest := []) X pm1 ⟨i, nI n, A, w0, rfl, h0, by rw [nI_toInt (by omega)]; exact h1, hw0, hZ0⟩ ⟨rfl, rfl⟩ (x_cons (x_bw39 4 rfl rfl) (x_cons (x_bw39 5 rfl rfl) (x_cons (x_bw1 1 rfl rfl) x_nilm))) (x_bw39 6 rfl rfl) (by decide +kernel) ⟨Nat.le_of_ble_eq_true rfl, Nat.le_of_ble_eq_true rfl⟩ rfl hl.1 (Nat.le_of_ble_eq_true rfl) (Nat.zero_le _) (Nat.zero_le _) s2_d3 fun v hv => ?_
  obtain rfl := hv
  refine lv_aload_n hx hb s2_d6 rfl (lv_at hl 0 rfl) ?_
  refine lv_iload_n hx hb s2_d7 rfl (lv_at hl 1 rfl) ?_
  refine va_tb hx hb hT va_S.rf (i := i) (z_vpin h0 h1) (v := .int (f i.toNatClampNeg)) rfl s2_d8 ?_
  refine lv_sipush hx hb s2_d9 (v := 255) (by decide) ?_
  have ec255 : (255 : Int32).toInt = 255 := by decide
  refine lv_iand hx hb s2_d12 ?_
  refine lv_i2c hx hb s2_d13 (v := f i.toNatClampNeg &&& 255) (sc_c2 _) ?_
  exact p_iret hx hb hrt (by exact sc_nar _) hlk (by intro b' i' h9; cases h9; exact ⟨rfl, sc_nar _⟩) s2_d14
theorem pm6X {f : Nat → Int32} : p_Met x_Tb x_Nb xMs6 (p_B6 f) (p_Q2 f) := by
  refine p_main (by decide +kernel) (fun U Hh av h => ?_) x_Tb_good x_Nb_ok ?_
  · obtain ⟨i, A, q, b, n, rfl, -⟩ := h; exact Nat.le_of_ble_eq_true rfl
  intro p l e s m below meth c U av ls X hrt hlk hPre hl
  obtain ⟨hx, hb, hml, hown, hts, hU, hNw, hG, hN⟩ := id X
  obtain ⟨i, A, q, b, n, rfl, h0, h1, hn, hS0⟩ := hPre
  have hSU := hS0
  have hS := hS0.moved hU
  obtain ⟨hO, hC, hV, hT, hZc, w, hw, hZ⟩ := hS
  obtain ⟨-, -, -, -, -, w0, hw0, hZ0⟩ := hS0
  replace hl : lv_has ls xMs6.2.2.1 [(0, .ref q), (1, .int i)] := hl
  refine lv_aload_n hx hb s6_d0 rfl (lv_at hl 0 rfl) ?_
  refine p_runV (n := 0) (b := q) (As := []) (rest := []) X pm4 ⟨A, q, b, n, f, rfl, hSU⟩ ⟨rfl, rfl⟩ hO.rec (x_cons (x_bw38 13 rfl rfl) (x_cons (x_bw38 14 rfl rfl) (x_cons (x_bw38 15 rfl rfl) (x_cons (x_bw1 1 rfl rfl) x_nilm)))) (x_bw39 0 rfl rfl) (by decide +kernel) ⟨Nat.le_of_ble_eq_true rfl, Nat.le_of_ble_eq_true rfl⟩ rfl hl.1 (Nat.le_of_ble_eq_true rfl) (Nat.zero_le _) (Nat.zero_le _) s6_d1 fun v hv => ?_
  obtain rfl := hv
  have ec1 : (1 : Int32).toInt = 1 := by decide
  have ec0 : (0 : Int32).toInt = 0 := by decide
  refine lv_if_eq hx hb s6_d4 (tgt := 16) (by decide) (fun q4 => ?_) (fun q4 => ?_)
  · have q4_ : (1 : Int32).toInt = (0 : Int32).toInt := by rw [q4]
    exact (by omega : False).elim
  · have q4_ : ¬ (1 : Int32).toInt = (0 : Int32).toInt := fun q => q4 (Int32.toInt_inj.mp q)
    refine lv_aload_n hx hb s6_d7 rfl (lv_at hl 0 rfl) ?_
    refine vk_getf hx hb hV va_S.rf hown (hts _ (x_bw89 8 rfl rfl)) (fun x h => h) s6_d8 ?_
    refine lv_iload_n hx hb s6_d11 rfl (lv_at hl 1 rfl) ?_
    refine p_runS (n := 2) (av := [.ref b, .int i]) (rest := []) X (pm2X (f := f)) ⟨i, A, q, b, n, rfl, h0, h1, hn, hSU⟩ ⟨rfl, rfl⟩ (x_cons (x_bw39 1 rfl rfl) (x_cons (x_bw39 2 rfl rfl) (x_cons (x_bw1 2 rfl rfl) x_nilm))) (x_bw39 3 rfl rfl) (by decide +kernel) ⟨Nat.le_of_ble_eq_true rfl, Nat.le_of_ble_eq_true rfl⟩ rfl hl.1 (Nat.le_of_ble_eq_true rfl) (Nat.zero_le _) (Nat.zero_le _) s6_d12 fun v hv => ?_
    obtain ⟨rfl, hnar⟩ := hv _ _ rfl
    exact p_iret hx hb hrt (by exact hnar) hlk (by intro b' i' h9; cases h9; exact ⟨rfl, hnar⟩) s6_d15
theorem pm7X : p_Met x_Tb x_Nb xMs7 p_A7 p_Q7 := by
  refine p_main (by decide +kernel) (fun U Hh av h => ?_) x_Tb_good x_Nb_ok ?_
  · obtain ⟨item, Y, rfl, -⟩ := h; exact Nat.le_of_ble_eq_true rfl
  intro p l e s m below meth c U av ls X hrt hlk hPre hl
  obtain ⟨hx, hb, hml, hown, hts, hU, hNw, hG, hN⟩ := id X
  obtain ⟨item, Y, rfl, hs⟩ := hPre
  replace hl : lv_has ls xMs7.2.2.1 [(0, .int item)] := hl
  refine lv_iload_n hx hb s7_d0 rfl (lv_at hl 0 rfl) ?_
  by_cases hlo : item.toInt < 0 ∨ 8 < item.toInt
  · refine lv_tableOut hx hb s7_d1 hlo (tgt := 79) (by decide) ?_
    obtain ⟨q, b, f, h1, h2, h3, h4, h5, h6, v, h7, h8⟩ := hs x_Ss[9] (List.mem_of_getElem? (i := 9) rfl)
    refine va_ldcS hx hb hown (h1.1.warm hU) s7_d79 ?_
    exact p_aret hx hb hrt hlk (by intro item' h9 h10 h11; cases h9; rw [show item.toInt.toNat = 9 by omega]; exact ⟨_, q, b, f, rfl, ⟨h2, h3, h4, h5, h6, v, h7, h8⟩, fun j hj => by rw [h1.2 j]; revert j; decide⟩) s7_d81
  rcases (show item.toInt = 0 ∨ item.toInt = 1 ∨ item.toInt = 2 ∨ item.toInt = 3 ∨ item.toInt = 4 ∨ item.toInt = 5 ∨ item.toInt = 6 ∨ item.toInt = 7 ∨ item.toInt = 8 by omega) with hq | hq | hq | hq | hq | hq | hq | hq | hq
  · refine lv_tableIn hx hb s7_d1 (by omega) (by omega) (off := 51) (by rw [hq]; rfl) (tgt := 52) (by decide) ?_
    obtain ⟨q, b, f, h1, h2, h3, h4, h5, h6, v, h7, h8⟩ := hs x_Ss[0] (List.mem_of_getElem? (i := 0) rfl)
    refine va_ldcS hx hb hown (h1.1.warm hU) s7_d52 ?_
    exact p_aret hx hb hrt hlk (by intro item' h9 h10 h11; cases h9; rw [show item.toInt.toNat = 0 by omega]; exact ⟨_, q, b, f, rfl, ⟨h2, h3, h4, h5, h6, v, h7, h8⟩, fun j hj => by rw [h1.2 j]; revert j; decide⟩) s7_d54
  · refine lv_tableIn hx hb s7_d1 (by omega) (by omega) (off := 54) (by rw [hq]; rfl) (tgt := 55) (by decide) ?_
    obtain ⟨q, b, f, h1, h2, h3, h4, h5, h6, v, h7, h8⟩ := hs x_Ss[1] (List.mem_of_getElem? (i := 1) rfl)
    refine va_ldcS hx hb hown (h1.1.warm hU) s7_d55 ?_
    exact p_aret hx hb hrt hlk (by intro item' h9 h10 h11; cases h9; rw [show item.toInt.toNat = 1 by omega]; exact ⟨_, q, b, f, rfl, ⟨h2, h3, h4, h5, h6, v, h7, h8⟩, fun j hj => by rw [h1.2 j]; revert j; decide⟩) s7_d57
  · refine lv_tableIn hx hb s7_d1 (by omega) (by omega) (off := 57) (by rw [hq]; rfl) (tgt := 58) (by decide) ?_
    obtain ⟨q, b, f, h1, h2, h3, h4, h5, h6, v, h7, h8⟩ := hs x_Ss[2] (List.mem_of_getElem? (i := 2) rfl)
    refine va_ldcS hx hb hown (h1.1.warm hU) s7_d58 ?_
    exact p_aret hx hb hrt hlk (by intro item' h9 h10 h11; cases h9; rw [show item.toInt.toNat = 2 by omega]; exact ⟨_, q, b, f, rfl, ⟨h2, h3, h4, h5, h6, v, h7, h8⟩, fun j hj => by rw [h1.2 j]; revert j; decide⟩) s7_d60
  · refine lv_tableIn hx hb s7_d1 (by omega) (by omega) (off := 60) (by rw [hq]; rfl) (tgt := 61) (by decide) ?_
    obtain ⟨q, b, f, h1, h2, h3, h4, h5, h6, v, h7, h8⟩ := hs x_Ss[3] (List.mem_of_getElem? (i := 3) rfl)
    refine va_ldcS hx hb hown (h1.1.warm hU) s7_d61 ?_
    exact p_aret hx hb hrt hlk (by intro item' h9 h10 h11; cases h9; rw [show item.toInt.toNat = 3 by omega]; exact ⟨_, q, b, f, rfl, ⟨h2, h3, h4, h5, h6, v, h7, h8⟩, fun j hj => by rw [h1.2 j]; revert j; decide⟩) s7_d63
  · refine lv_tableIn hx hb s7_d1 (by omega) (by omega) (off := 63) (by rw [hq]; rfl) (tgt := 64) (by decide) ?_
    obtain ⟨q, b, f, h1, h2, h3, h4, h5, h6, v, h7, h8⟩ := hs x_Ss[4] (List.mem_of_getElem? (i := 4) rfl)
    refine va_ldcS hx hb hown (h1.1.warm hU) s7_d64 ?_
    exact p_aret hx hb hrt hlk (by intro item' h9 h10 h11; cases h9; rw [show item.toInt.toNat = 4 by omega]; exact ⟨_, q, b, f, rfl, ⟨h2, h3, h4, h5, h6, v, h7, h8⟩, fun j hj => by rw [h1.2 j]; revert j; decide⟩) s7_d66
  · refine lv_tableIn hx hb s7_d1 (by omega) (by omega) (off := 66) (by rw [hq]; rfl) (tgt := 67) (by decide) ?_
    obtain ⟨q, b, f, h1, h2, h3, h4, h5, h6, v, h7, h8⟩ := hs x_Ss[5] (List.mem_of_getElem? (i := 5) rfl)
    refine va_ldcS hx hb hown (h1.1.warm hU) s7_d67 ?_
    exact p_aret hx hb hrt hlk (by intro item' h9 h10 h11; cases h9; rw [show item.toInt.toNat = 5 by omega]; exact ⟨_, q, b, f, rfl, ⟨h2, h3, h4, h5, h6, v, h7, h8⟩, fun j hj => by rw [h1.2 j]; revert j; decide⟩) s7_d69
  · refine lv_tableIn hx hb s7_d1 (by omega) (by omega) (off := 69) (by rw [hq]; rfl) (tgt := 70) (by decide) ?_
    obtain ⟨q, b, f, h1, h2, h3, h4, h5, h6, v, h7, h8⟩ := hs x_Ss[6] (List.mem_of_getElem? (i := 6) rfl)
    refine va_ldcS hx hb hown (h1.1.warm hU) s7_d70 ?_
    exact p_aret hx hb hrt hlk (by intro item' h9 h10 h11; cases h9; rw [show item.toInt.toNat = 6 by omega]; exact ⟨_, q, b, f, rfl, ⟨h2, h3, h4, h5, h6, v, h7, h8⟩, fun j hj => by rw [h1.2 j]; revert j; decide⟩) s7_d72
  · refine lv_tableIn hx hb s7_d1 (by omega) (by omega) (off := 72) (by rw [hq]; rfl) (tgt := 73) (by decide) ?_
    obtain ⟨q, b, f, h1, h2, h3, h4, h5, h6, v, h7, h8⟩ := hs x_Ss[7] (List.mem_of_getElem? (i := 7) rfl)
    refine va_ldcS hx hb hown (h1.1.warm hU) s7_d73 ?_
    exact p_aret hx hb hrt hlk (by intro item' h9 h10 h11; cases h9; rw [show item.toInt.toNat = 7 by omega]; exact ⟨_, q, b, f, rfl, ⟨h2, h3, h4, h5, h6, v, h7, h8⟩, fun j hj => by rw [h1.2 j]; revert j; decide⟩) s7_d75
  · refine lv_tableIn hx hb s7_d1 (by omega) (by omega) (off := 75) (by rw [hq]; rfl) (tgt := 76) (by decide) ?_
    obtain ⟨q, b, f, h1, h2, h3, h4, h5, h6, v, h7, h8⟩ := hs x_Ss[8] (List.mem_of_getElem? (i := 8) rfl)
    refine va_ldcS hx hb hown (h1.1.warm hU) s7_d76 ?_
    exact p_aret hx hb hrt hlk (by intro item' h9 h10 h11; cases h9; rw [show item.toInt.toNat = 8 by omega]; exact ⟨_, q, b, f, rfl, ⟨h2, h3, h4, h5, h6, v, h7, h8⟩, fun j hj => by rw [h1.2 j]; revert j; decide⟩) s7_d78
def p_B8 (D : va_G) (Y : xY) (this by_ n : Nat) (te ta : Int32) (f fy : Nat → Int32) : pPre := fun U Hh av => ∃ (q b : Nat) (A : Nat → Prop), av = [.ref this, .ref q] ∧ va_K D vwCl [] U ∧ x_H D x_G x_Zs U Y Hh ∧ Y this = some 4 ∧ n ≤ 6 ∧ s_S A U Hh q b n f ∧ x_sl D 7 4 this Hh = some (.int te) ∧ x_sl D 7 3 this Hh = some (.int ta) ∧ x_sl D 7 0 this Hh = some (.ref by_) ∧ Y by_ = some 39 ∧ y_A by_ 240 Hh fy
def p_Q8 (n : Nat) (te ta : Int32) (f fy : Nat → Int32) : pPost := fun _ _ _ v => ∃ r : Int32, v = some (.int r) ∧ (¬ r = 0 → te.toInt - ta.toInt = n ∧ ∀ j : Nat, j < n → fy (ta.toInt.toNat + j) = f j &&& 255) ∧ (r = 0 → ¬ (te.toInt - ta.toInt = n ∧ ∀ j : Nat, j < n → fy (ta.toInt.toNat + j) = f j &&& 255))
theorem s8_X20 {p : Program} {l : Launch} {e : Env} {s : State} {m : MethodId} {below : List Frame} {meth : Method} {c : Code} {U : State} {D : va_G} {Y : xY} {this q b n by_ : Nat} {A : Nat → Prop} {f fy : Nat → Int32} {te ta : Int32} (X : x_cx p s m [.ref this, .ref q].toArray c D U xMs8.2.1 xMs8.2.2.1 vwCl x_Tb x_Nb xMs8.1.cls) (hrt : meth.sig.returnType = xMs8.2.2.2.1) (hlk : meth.locks = false) (hI : x_H D x_G x_Zs U Y s.heap ∧ True) (hY_this : Y this = some 4) (hY_by : Y by_ = some 39) (hn : n ≤ 6) (hSU : s_S A U s.heap q b n f) (hs_te : x_sl D 7 4 this s.heap = some (.int te)) (hs_ta : x_sl D 7 3 this s.heap = some (.int ta)) (hs_by : x_sl D 7 0 this s.heap = some (.ref by_)) (hA_by : y_A by_ 240 s.heap fy) (hte : 0 ≤ te.toInt ∧ te.toInt ≤ 240) (hta : 0 ≤ ta.toInt ∧ ta.toInt ≤ 240) (hnn : (nI n).toInt = n) (hd : te.toInt - ta.toInt = n) :
    ∀ (k : Nat) (ls : Array Slot) (i : Int32), lv_has ls xMs8.2.2.1 [(2, .int i), (0, .ref this), (1, .ref q)] → 0 ≤ i.toInt → (∀ j : Nat, (j : Int) < i.toInt → fy (ta.toInt.toNat + j) = f j &&& 255) → (n - i.toInt).toNat < k → W p l e (x_rm xMs8) s m [.ref this, .ref q].toArray below meth c s.heap [] 0 0 (MQ below (p_Q s.heap (p_Q8 n te ta f fy U s.heap [.ref this, .ref q])) [.ref this, .ref q].toArray s (x_rm xMs8).cells (x_rm xMs8).slots (fun _ => False)) (F0 m 20 ls []) := by
  have Xp := p_of X
  have hx := X.1
  have hb := X.2.1
  have hO := (hSU.moved X.2.2.2.2.2.2.2.1).1
  intro k
  induction k with
  | zero => intro ls i _ _ _ h; exact absurd h (Nat.not_lt_zero _)
  | succ k ih =>
    intro ls i hl h_i0 hfy hk
    refine lv_iload_n hx hb s8_d20 rfl (lv_at hl 0 rfl) ?_
    refine lv_aload_n hx hb s8_d21 rfl (lv_at hl 2 rfl) ?_
    refine p_runV (n := 0) (b := q) (As := []) (rest := [.int i]) Xp (pm5 hn) ⟨A, q, b, f, rfl, hSU⟩ ⟨rfl, rfl⟩ hO.rec (x_cons (x_bw37 15 rfl rfl) (x_cons (x_bw38 0 rfl rfl) (x_cons (x_bw38 1 rfl rfl) (x_cons (x_bw1 1 rfl rfl) x_nilm)))) (x_bw38 2 rfl rfl) (by decide +kernel) ⟨Nat.le_of_ble_eq_true rfl, Nat.le_of_ble_eq_true rfl⟩ rfl hl.1 (Nat.le_of_ble_eq_true rfl) (Nat.zero_le _) (Nat.zero_le _) s8_d22 fun v hv => ?_
    obtain rfl := hv
    refine lv_icmp_ge hx hb s8_d25 (tgt := 55) (by decide) (fun q25 => ?_) (fun q25 => ?_)
    · have q25_ : (nI n).toInt ≤ i.toInt := x_le32.mp q25
      refine lv_iconst hx hb s8_d55 (v := 1) (by decide) ?_
      have ec1 : (1 : Int32).toInt = 1 := by decide
      exact p_iret hx hb hrt (by exact rfl) hlk (by exact ⟨1, rfl, fun _ => ⟨hd, fun j hj => hfy j (by omega)⟩, fun q9 => absurd q9 (by decide)⟩) s8_d56
    · have q25_ : i.toInt < (nI n).toInt := Int.not_le.mp fun q => q25 (x_le32.mpr q)
      refine lv_aload_n hx hb s8_d28 rfl (lv_at hl 1 rfl) ?_
      refine y_getf X (fl130 X.2.2.2.2.1) hI.1 hY_this rfl hs_by s8_d29 ?_
      refine lv_aload_n hx hb s8_d32 rfl (lv_at hl 1 rfl) ?_
      refine y_getf X (fl133 X.2.2.2.2.1) hI.1 hY_this rfl hs_ta s8_d33 ?_
      refine lv_iload_n hx hb s8_d36 rfl (lv_at hl 0 rfl) ?_
      refine lv_iadd hx hb s8_d37 ?_
      generalize hg_z37 : ta + i = z37
      have h_z37 : z37.toInt = ta.toInt + i.toInt := by rw [← hg_z37]; have := y_add (x := ta) (y := i) (by omega) (by omega); exact this
      refine y_iald X hI.1 hY_by rfl hA_by (by omega) (by show _ < (240 : Int); omega) s8_d38 ?_
      obtain ⟨e38, hg_e38⟩ : ∃ e38 : Int32, fy z37.toInt.toNat = e38 := ⟨_, rfl⟩
      rw [hg_e38]
      refine lv_aload_n hx hb s8_d39 rfl (lv_at hl 2 rfl) ?_
      refine lv_iload_n hx hb s8_d40 rfl (lv_at hl 0 rfl) ?_
      refine p_runV (n := 1) (b := q) (As := [.int i]) (rest := [.int e38]) Xp (pm6X (f := f)) ⟨i, A, q, b, n, rfl, by omega, by omega, hn, hSU⟩ ⟨rfl, rfl⟩ hO.rec (x_cons (x_bw38 9 rfl rfl) (x_cons (x_bw38 10 rfl rfl) (x_cons (x_bw38 11 rfl rfl) (x_cons (x_bw1 1 rfl rfl) x_nilm)))) (x_bw38 12 rfl rfl) (by decide +kernel) ⟨Nat.le_of_ble_eq_true rfl, Nat.le_of_ble_eq_true rfl⟩ rfl hl.1 (Nat.le_of_ble_eq_true rfl) (Nat.zero_le _) (Nat.zero_le _) s8_d41 fun v hv => ?_
      obtain ⟨rfl, hnar⟩ := hv _ _ rfl
      generalize hg_r41 : f i.toInt.toNat &&& 255 = r41 at hnar ⊢
      refine lv_icmp_eq hx hb s8_d44 (tgt := 49) (by decide) (fun q44 => ?_) (fun q44 => ?_)
      · have q44_ : e38.toInt = r41.toInt := by rw [q44]
        obtain ⟨z49, hg_z49⟩ : ∃ z49 : Int32, i + Int32.ofInt 1 = z49 := ⟨_, rfl⟩
        have h_z49 : z49.toInt = i.toInt + 1 := by rw [← hg_z49]; exact y_inc (by decide) (by omega) (by omega)
        refine lv_iinc hx hb s8_d49 hl (k := 0) rfl hg_z49 (by decide) (lv' := [(2, .int z49), (0, .ref this), (1, .ref q)]) rfl fun ls hl => ?_
        refine lv_goto hx hb s8_d52 (tgt := 20) (by decide) ?_
        exact ih _ _ (lv_sub hl [0, 1, 2] rfl) (by omega) (fun j hj => by by_cases ej : (j : Int) = i.toInt; (have e8 : j = i.toInt.toNat := (by omega); subst e8; rw [show ta.toInt.toNat + i.toInt.toNat = z37.toInt.toNat by omega, hg_e38, hg_r41]; exact q44); exact hfy j (by omega)) (by omega)
      · have q44_ : ¬ e38.toInt = r41.toInt := fun q => q44 (Int32.toInt_inj.mp q)
        refine lv_iconst hx hb s8_d47 (v := 0) (by decide) ?_
        have ec0 : (0 : Int32).toInt = 0 := by decide
        exact p_iret hx hb hrt (by exact rfl) hlk (by exact ⟨0, rfl, fun q9 => absurd rfl q9, fun _ q9 => q44 (by have e9 := q9.2 i.toInt.toNat (by omega); rw [show ta.toInt.toNat + i.toInt.toNat = z37.toInt.toNat by omega, hg_e38, hg_r41] at e9; exact e9)⟩) s8_d48
theorem pm8X {D : va_G} {Y : xY} {this by_ n : Nat} {te ta : Int32} {f fy : Nat → Int32} : p_Met x_Tb x_Nb xMs8 (p_B8 D Y this by_ n te ta f fy) (p_Q8 n te ta f fy) := by
  refine p_main (by decide +kernel) (fun U Hh av h => ?_) x_Tb_good x_Nb_ok ?_
  · obtain ⟨q, b, A, rfl, -⟩ := h; exact Nat.le_of_ble_eq_true rfl
  intro p l e s m below meth c U av ls Xp hrt hlk hPre hl
  obtain ⟨hx, hb, hml, hown, hts, hU, hNw, hG, hN⟩ := id Xp
  obtain ⟨q, b, A, rfl, hK0, hH, hY_this, hn, hSU, hs_te, hs_ta, hs_by, hY_by, hA_by⟩ := hPre
  have X : x_cx p s m [.ref this, .ref q].toArray c D U xMs8.2.1 xMs8.2.2.1 vwCl x_Tb x_Nb xMs8.1.cls := ⟨hx, hb, hml, hown, hts, va_K.moved hU.alike hK0, hK0, hU, hNw, hG, hN⟩
  have hI : x_H D x_G x_Zs U Y s.heap ∧ True := ⟨hH, trivial⟩
  have hO := (hSU.moved hU).1
  have hnn : (nI n).toInt = n := nI_toInt (by omega)
  replace hl : lv_has ls xMs8.2.2.1 [(0, .ref this), (1, .ref q)] := hl
  obtain ⟨te9, hs9, hte⟩ := y_fldI (k := 4) hI.1 hY_this rfl rfl
  cases hs9.symm.trans hs_te
  obtain ⟨ta9, hs9, hta⟩ := y_fldI (k := 3) hI.1 hY_this rfl rfl
  cases hs9.symm.trans hs_ta
  replace hte : 0 ≤ te.toInt ∧ te.toInt ≤ 240 := hte
  replace hta : 0 ≤ ta.toInt ∧ ta.toInt ≤ 240 := hta
  refine lv_aload_n hx hb s8_d0 rfl (lv_at hl 1 rfl) ?_
  refine p_runV (n := 0) (b := q) (As := []) (rest := []) Xp (pm5 hn) ⟨A, q, b, f, rfl, hSU⟩ ⟨rfl, rfl⟩ hO.rec (x_cons (x_bw37 15 rfl rfl) (x_cons (x_bw38 0 rfl rfl) (x_cons (x_bw38 1 rfl rfl) (x_cons (x_bw1 1 rfl rfl) x_nilm)))) (x_bw38 2 rfl rfl) (by decide +kernel) ⟨Nat.le_of_ble_eq_true rfl, Nat.le_of_ble_eq_true rfl⟩ rfl hl.1 (Nat.le_of_ble_eq_true rfl) (Nat.zero_le _) (Nat.zero_le _) s8_d1 fun v hv => ?_
  obtain rfl := hv
  refine lv_aload_n hx hb s8_d4 rfl (lv_at hl 0 rfl) ?_
  refine y_getf X (fl132 X.2.2.2.2.1) hI.1 hY_this rfl hs_te s8_d5 ?_
  refine lv_aload_n hx hb s8_d8 rfl (lv_at hl 0 rfl) ?_
  refine y_getf X (fl133 X.2.2.2.2.1) hI.1 hY_this rfl hs_ta s8_d9 ?_
  refine lv_isub hx hb s8_d12 ?_
  generalize hg_z12 : te - ta = z12
  have h_z12 : z12.toInt = te.toInt - ta.toInt := by rw [← hg_z12]; have := y_sub (x := te) (y := ta) (by omega) (by omega); exact this
  refine lv_icmp_eq hx hb s8_d13 (tgt := 18) (by decide) (fun q13 => ?_) (fun q13 => ?_)
  · have q13_ : (nI n).toInt = z12.toInt := by rw [q13]
    refine lv_iconst hx hb s8_d18 (v := 0) (by decide) ?_
    have ec0 : (0 : Int32).toInt = 0 := by decide
    refine lv_istore_n hx hb s8_d19 rfl hl (by decide) (lv' := [(2, .int (0 : Int32)), (0, .ref this), (1, .ref q)]) rfl fun ls hl => ?_
    exact s8_X20 X hrt hlk hI hY_this hY_by hn hSU hs_te hs_ta hs_by hA_by hte hta hnn (by omega) 10 _ _ (lv_sub hl [0, 1, 2] rfl) (by omega) (fun j hj => absurd hj (by omega)) (by omega)
  · have q13_ : ¬ (nI n).toInt = z12.toInt := fun q => q13 (Int32.toInt_inj.mp q)
    refine lv_iconst hx hb s8_d16 (v := 0) (by decide) ?_
    have ec0 : (0 : Int32).toInt = 0 := by decide
    exact p_iret hx hb hrt (by exact rfl) hlk (by exact ⟨0, rfl, fun q9 => absurd rfl q9, fun _ q9 => q13_ (by omega)⟩) s8_d17

theorem t_item_eq {t : Nat → Int32} {s len k : Nat} (hk : k < 10) (h0 : ∀ i, i < k → ¬ t_is t s len (t_words.getD i [])) (h1 : t_is t s len (t_words.getD k [])) : t_item t s len = k := by
  have hb : ∀ i, (decide (len = (t_words.getD i []).length) && (List.range (t_words.getD i []).length).all (fun j => decide ((t (s + j)).toInt = (t_words.getD i []).getD j 0))) = true ↔ t_is t s len (t_words.getD i []) := fun i => by
    unfold t_is
    rw [Bool.and_eq_true, decide_eq_true_eq, List.all_eq_true]
    constructor
    · rintro ⟨a, b⟩
      exact ⟨a, fun j hj => by have := b j (List.mem_range.mpr hj); exact of_decide_eq_true this⟩
    · rintro ⟨a, b⟩
      exact ⟨a, fun j hj => decide_eq_true (b j (List.mem_range.mp hj))⟩
  unfold t_item
  have hf : (List.range 10).find? (fun i => decide (len = (t_words.getD i []).length) && (List.range (t_words.getD i []).length).all (fun j => decide ((t (s + j)).toInt = (t_words.getD i []).getD j 0))) = some k := by
    rw [List.find?_eq_some_iff_getElem]
    refine ⟨(hb k).mpr h1, k, by simpa using hk, by simp, fun j hj => ?_⟩
    have hjn := h0 j hj
    have e : (List.range 10)[j]'(by simp; omega) = j := by simp
    rw [e]
    cases hc : (decide (len = (t_words.getD j []).length) && (List.range (t_words.getD j []).length).all (fun i => decide ((t (s + i)).toInt = (t_words.getD j []).getD i 0))) with
    | false => rfl
    | true => exact absurd ((hb j).mp hc) hjn
  rw [hf]
  rfl
theorem t_item_no {t : Nat → Int32} {s len : Nat} (h0 : ∀ i, i < 10 → ¬ t_is t s len (t_words.getD i [])) : t_item t s len = 10 := by
  unfold t_item
  have hf : (List.range 10).find? (fun i => decide (len = (t_words.getD i []).length) && (List.range (t_words.getD i []).length).all (fun j => decide ((t (s + j)).toInt = (t_words.getD i []).getD j 0))) = none := by
    rw [List.find?_eq_none]
    intro i hi hc
    rw [Bool.and_eq_true, decide_eq_true_eq, List.all_eq_true] at hc
    exact h0 i (List.mem_range.mp hi) ⟨hc.1, fun j hj => by have := hc.2 j (List.mem_range.mpr hj); exact of_decide_eq_true this⟩
  rw [hf]
  rfl
theorem t_item_is {t : Nat → Int32} {s len k : Nat} (hk : k < 10) (h : t_item t s len = k) : t_is t s len (t_words.getD k []) := by
  by_cases h1 : t_is t s len (t_words.getD k [])
  · exact h1
  · exfalso
    have key : ∀ n, n ≤ 10 → (∀ i, i < n → ¬ t_is t s len (t_words.getD i [])) ∨ ∃ j, j < n ∧ (∀ i, i < j → ¬ t_is t s len (t_words.getD i [])) ∧ t_is t s len (t_words.getD j []) := by
      intro n
      induction n with
      | zero => intro _; exact Or.inl fun i hi => absurd hi (Nat.not_lt_zero _)
      | succ n ih =>
        intro hn
        rcases ih (by omega) with h2 | ⟨j, j1, j2, j3⟩
        · by_cases h3 : t_is t s len (t_words.getD n [])
          · exact Or.inr ⟨n, by omega, h2, h3⟩
          · refine Or.inl fun i hi => ?_
            by_cases e : i = n
            · subst e; exact h3
            · exact h2 i (by omega)
        · exact Or.inr ⟨j, by omega, j2, j3⟩
    rcases key 10 (Nat.le_refl _) with h2 | ⟨j, j1, j2, j3⟩
    · rw [t_item_no h2] at h; omega
    · rw [t_item_eq j1 j2 j3] at h
      subst h
      exact h1 j3
theorem t_is_of {t : Nat → Int32} {ta te : Int32} {f : Nat → Int32} {w : List Int} (h0 : 0 ≤ te.toInt - ta.toInt) (hf : ∀ j, j < w.length → (f j &&& 255).toInt = w.getD j 0) : (te.toInt - ta.toInt = w.length ∧ ∀ j : Nat, j < w.length → t (ta.toInt.toNat + j) = f j &&& 255) ↔ t_is t ta.toInt.toNat (te.toInt - ta.toInt).toNat w := by
  unfold t_is
  constructor
  · rintro ⟨a, b⟩
    exact ⟨by omega, fun j hj => by rw [b j hj]; exact hf j hj⟩
  · rintro ⟨a, b⟩
    exact ⟨by omega, fun j hj => Int32.toInt_inj.mp (by rw [b j hj, hf j hj])⟩
def z_PihX : yP := fun D av Y H v _ _ => ∀ (this by_ : Nat) (te ta : Int32) (fy : Nat → Int32), av = [.ref this] → x_sl D 7 4 this H = some (.int te) → x_sl D 7 3 this H = some (.int ta) → x_sl D 7 0 this H = some (.ref by_) → y_A by_ 240 H fy → ta.toInt ≤ te.toInt → ∃ r : Int32, v = some (.int r) ∧ ((t_item fy ta.toInt.toNat (te.toInt - ta.toInt).toNat < 10 ∧ r.toInt = t_item fy ta.toInt.toNat (te.toInt - ta.toInt).toNat) ∨ (t_item fy ta.toInt.toNat (te.toInt - ta.toInt).toNat = 10 ∧ r = -1))
theorem z_AR9 {b N j : Nat} {H : Heap} {f g : Nat → Int32} (hA : y_A b N H f) (hB : y_A b N H g) (hj : j < N) : f j = g j := by
  have := (hA j hj).symm.trans (hB j hj)
  injection this with this
  injection this
theorem t_is_eq {t u : Nat → Int32} {s len N : Nat} {w : List Int} (hl : s + len ≤ N) (h : ∀ j, j < N → t j = u j) (hi : t_is t s len w) : t_is u s len w := ⟨hi.1, fun i hiw => by rw [← h (s + i) (by have := hi.1; omega)]; exact hi.2 i hiw⟩
theorem t_w6 : ∀ k, k < 10 → (t_words.getD k []).length ≤ 6 := by decide
theorem iX_d0 : decode xMih.2.1 0 = .ok (.iconst 0, 1) := dz_ok (by decide +kernel)
theorem iX_d1 : decode xMih.2.1 1 = .ok (.istore_n 1, 1) := dz_ok (by decide +kernel)
theorem iX_d2 : decode xMih.2.1 2 = .ok (.iload_n 1, 1) := dz_ok (by decide +kernel)
theorem iX_d3 : decode xMih.2.1 3 = .ok (.bipush 10, 2) := dz_ok (by decide +kernel)
theorem iX_d5 : decode xMih.2.1 5 = .ok (.if_icmp .ge 22, 3) := dz_ok (by decide +kernel)
theorem iX_d8 : decode xMih.2.1 8 = .ok (.aload_n 0, 1) := dz_ok (by decide +kernel)
theorem iX_d9 : decode xMih.2.1 9 = .ok (.iload_n 1, 1) := dz_ok (by decide +kernel)
theorem iX_d10 : decode xMih.2.1 10 = .ok (.invokestatic 55, 3) := dz_ok (by decide +kernel)
theorem iX_d13 : decode xMih.2.1 13 = .ok (.invokevirtual 59, 3) := dz_ok (by decide +kernel)
theorem iX_d16 : decode xMih.2.1 16 = .ok (.ifCond .eq 5, 3) := dz_ok (by decide +kernel)
theorem iX_d19 : decode xMih.2.1 19 = .ok (.iload_n 1, 1) := dz_ok (by decide +kernel)
theorem iX_d20 : decode xMih.2.1 20 = .ok (.ireturn, 1) := dz_ok (by decide +kernel)
theorem iX_d21 : decode xMih.2.1 21 = .ok (.iinc 1 1, 3) := dz_ok (by decide +kernel)
theorem iX_d24 : decode xMih.2.1 24 = .ok (.goto (-22), 3) := dz_ok (by decide +kernel)
theorem iX_d27 : decode xMih.2.1 27 = .ok (.iconst (-1), 1) := dz_ok (by decide +kernel)
theorem iX_d28 : decode xMih.2.1 28 = .ok (.ireturn, 1) := dz_ok (by decide +kernel)
theorem iX_L2 {p : Program} {l : Launch} {e : Env} {s : State} {m : MethodId} {below : List Frame} {meth : Method} {c : Code} {D : va_G} {U : State} {Y0 : xY} {av : List Value} (B : y_B vwCl x_Tb x_Nb xMih p s m meth c D U Y0 av) {this by_ : Nat} {te ta : Int32} {fy : Nat → Int32} (hav : av = [.ref this]) (hs0 : x_sl D 7 0 this s.heap = some (.ref by_)) (hA0 : y_A by_ 240 s.heap fy) (he0 : x_sl D 7 4 this s.heap = some (.int te)) (ha0 : x_sl D 7 3 this s.heap = some (.int ta)) (hte : 0 ≤ te.toInt ∧ te.toInt ≤ 240) (hta : 0 ≤ ta.toInt ∧ ta.toInt ≤ 240) (hle : ta.toInt ≤ te.toInt)  :
    ∀ (n : Nat), ∀ (H : Heap) (Y : xY) (locs : List Loc) (ls : Array Slot) (item : Int32), x_I D x_G x_Zs U (x_efs xMih) Y0 s.heap Y H locs → Y this = some 4 → Y by_ = some 39 → x_sl D 7 0 this H = some (.ref by_) → x_sl D 7 4 this H = some (.int te) → x_sl D 7 3 this H = some (.int ta) → y_A by_ 240 H fy → lv_has ls xMih.2.2.1 [(1, .int item), (0, .ref this)] → (0 ≤ item.toInt ∧ item.toInt ≤ 10) → (∀ i : Nat, (i : Int) < item.toInt → ¬ t_is fy ta.toInt.toNat (te.toInt - ta.toInt).toNat (t_words.getD i [])) → (10 - item.toInt).toNat < n → W p l e (x_rm xMih) s m av.toArray below meth c H locs 0 0 (y_QQ below D x_G x_Zs U xMih z_PihX av Y0 s) (F0 m 2 ls []) := by
  have X := B.1
  have hx := X.1
  have hb := X.2.1
  have hY0 := B.2.2.2.2.1
  intro n
  induction n with
  | zero => intro _ _ _ _ _ _ _ _ _ _ _ _ _ _ _ h; exact absurd h (Nat.not_lt_zero _)
  | succ n ih =>
    intro H Y locs ls item  hI hY_this hY_by_ hs_by_ hsi_tokenEnd hsi_tokenAt hA_by_ hl hit hno hn
    refine lv_iload_n hx hb iX_d2 rfl (lv_at hl 0 rfl) ?_
    refine lv_bipush hx hb iX_d3 (v := 10) (by decide) ?_
    have ec10 : (10 : Int32).toInt = 10 := by decide
    refine lv_icmp_ge hx hb iX_d5 (tgt := 27) (by decide) (fun q5 => ?_) (fun q5 => ?_)
    · have q5_ : (10 : Int32).toInt ≤ item.toInt := x_le32.mp q5
      refine lv_iconst hx hb iX_d27 (v := (-1)) (by decide) ?_
      have ecm1 : ((-1) : Int32).toInt = (-1) := by decide
      subst hav
      exact y_ireturn B hI rfl rfl rfl List.mem_cons_self ⟨_, rfl, ⟨_, rfl, by show (-1 : Int) ≤ _; omega, by show _ ≤ (9 : Int); omega⟩⟩ (x_cs.mono B.2.2.2.2.2 (y_mon B hI)) (fun t' b' te' ta' fy' h1 h2 h3 h4 h5 _ => by cases h1; cases h2.symm.trans he0; cases h3.symm.trans ha0; cases h4.symm.trans hs0; have hee : ∀ j, j < 240 → fy j = fy' j := fun j hj => (z_AR9 h5 hA0 hj).symm; exact ⟨_, rfl, Or.inr ⟨(t_item_no (fun i hi q9 => hno i (by omega) (t_is_eq (N := 240) (by omega) (fun j hj => (hee j hj).symm) q9))), rfl⟩⟩) (Nat.le_refl _) (Nat.le_refl _) iX_d28
    · have q5_ : item.toInt < (10 : Int32).toInt := Int.not_le.mp fun q => q5 (x_le32.mpr q)
      refine lv_aload_n hx hb iX_d8 rfl (lv_at hl 1 rfl) ?_
      refine lv_iload_n hx hb iX_d9 rfl (lv_at hl 0 rfl) ?_
      refine p_runS (n := 1) (av := [.int item]) (rest := [.ref this]) (p_of X) pm7X ⟨item, Y, rfl, hI.1.2.2⟩ ⟨rfl, rfl⟩ (x_cons (x_bw36 14 rfl rfl) (x_cons (x_bw36 15 rfl rfl) (x_cons (x_bw0 5 rfl rfl) x_nilm))) (x_bw37 0 rfl rfl) (by decide +kernel) ⟨Nat.le_of_ble_eq_true rfl, Nat.le_of_ble_eq_true rfl⟩ rfl hl.1 (Nat.le_of_ble_eq_true rfl) (Nat.zero_le _) (Nat.zero_le _) iX_d10 fun v hv => ?_
      obtain ⟨A, q, b, f, rfl, hS, hlet⟩ := hv _ rfl (by omega) (by omega)
      have hn6 : (t_words.getD item.toInt.toNat []).length ≤ 6 := t_w6 _ (by omega)
      refine p_runV (n := 1) (b := this) (As := [.ref q]) (rest := []) (p_of X) (pm8X (D := D) (Y := Y) (this := this) (by_ := by_) (n := (t_words.getD item.toInt.toNat []).length) (te := te) (ta := ta) (f := f) (fy := fy)) ⟨q, b, A, rfl, X.2.2.2.2.2.2.1, hI.1, hY_this, hn6, hS, hsi_tokenEnd, hsi_tokenAt, hs_by_, hY_by_, hA_by_⟩ ⟨rfl, rfl⟩ (x_recv (q := (RX7, TX7, 5)) X.2.2.2.2.2.1 hI.1 hY_this rfl rfl) (x_cons (x_bw37 11 rfl rfl) (x_cons (x_bw37 13 rfl rfl) (x_cons (x_at 11 (by decide +kernel) rfl) (x_cons (x_bw0 5 rfl rfl) x_nilm)))) (x_bw37 14 rfl rfl) (by decide +kernel) ⟨Nat.le_of_ble_eq_true rfl, Nat.le_of_ble_eq_true rfl⟩ rfl hl.1 (Nat.le_of_ble_eq_true rfl) (Nat.zero_le _) (Nat.zero_le _) iX_d13 fun v hv => ?_
      obtain ⟨r13, rfl, hin13, hout13⟩ := hv
      rw [t_is_of (t := fy) (by omega) hlet] at hin13 hout13
      have ec0 : (0 : Int32).toInt = 0 := by decide
      refine lv_if_eq hx hb iX_d16 (tgt := 21) (by decide) (fun q16 => ?_) (fun q16 => ?_)
      · have q16_ : r13.toInt = (0 : Int32).toInt := by rw [q16]
        obtain ⟨z21, hg_z21⟩ : ∃ z21 : Int32, item + Int32.ofInt 1 = z21 := ⟨_, rfl⟩
        have h_z21 : z21.toInt = item.toInt + 1 := by rw [← hg_z21]; exact y_inc (by decide) (by omega) (by omega)
        refine lv_iinc hx hb iX_d21 hl (k := 0) rfl hg_z21 (by decide) (lv' := [(1, .int z21), (0, .ref this)]) rfl fun ls hl => ?_
        refine lv_goto hx hb iX_d24 (tgt := 2) (by decide) ?_
        exact ih _ _ _ _ _ hI hY_this hY_by_ hs_by_ hsi_tokenEnd hsi_tokenAt hA_by_ (lv_sub hl [0, 1] rfl) (by first | assumption | omega) (fun i hi => by by_cases ei : (i : Int) = item.toInt; (have e8 : i = item.toInt.toNat := (by omega); subst e8; exact hout13 q16); exact hno i (by omega)) (by omega)
      · have q16_ : ¬ r13.toInt = (0 : Int32).toInt := fun q => q16 (Int32.toInt_inj.mp q)
        refine lv_iload_n hx hb iX_d19 rfl (lv_at hl 0 rfl) ?_
        subst hav
        exact y_ireturn B hI rfl rfl rfl List.mem_cons_self ⟨_, rfl, ⟨_, rfl, by show (-1 : Int) ≤ _; omega, by show _ ≤ (9 : Int); omega⟩⟩ (x_cs.mono B.2.2.2.2.2 (y_mon B hI)) (fun t' b' te' ta' fy' h1 h2 h3 h4 h5 _ => by cases h1; cases h2.symm.trans he0; cases h3.symm.trans ha0; cases h4.symm.trans hs0; have hee : ∀ j, j < 240 → fy j = fy' j := fun j hj => (z_AR9 h5 hA0 hj).symm; exact ⟨_, rfl, Or.inl (by rw [(t_item_eq (k := item.toInt.toNat) (by omega) (fun i hi q9 => hno i (by omega) (t_is_eq (N := 240) (by omega) (fun j hj => (hee j hj).symm) q9)) (t_is_eq (N := 240) (by omega) hee (hin13 q16)))]; omega)⟩) (Nat.le_refl _) (Nat.le_refl _) iX_d20
def z_AihX : yA := fun D av Y H => ∀ (this : Nat) (te ta : Int32), av = [.ref this] → x_sl D 7 4 this H = some (.int te) → x_sl D 7 3 this H = some (.int ta) → ta.toInt ≤ te.toInt
theorem ym_itemX : y_Met vwCl x_G x_Zs x_Tb x_Nb xMih z_AihX z_PihX := by
  refine y_main (by decide +kernel) (by decide +kernel) x_Tb_good x_Nb_ok ?_
  intro p l e s m below meth c D U Y0 av ls B hI hpre hl
  have X := B.1
  have hx := X.1
  have hb := X.2.1
  have hY0 := B.2.2.2.2.1
  obtain ⟨v0, rfl, hv0⟩ := x_one B.2.2.2.2.2
  obtain ⟨this, t0, rfl, ht0, hY_this⟩ := x_ref_at hv0 rfl
  obtain rfl := List.mem_singleton.mp ht0
  replace hl : lv_has ls xMih.2.2.1 [(0, .ref this)] := hl
  obtain ⟨te, hsi_tokenEnd, hte⟩ := y_fldI (k := 4) hI.1 hY_this rfl rfl
  obtain ⟨ta, hsi_tokenAt, hta⟩ := y_fldI (k := 3) hI.1 hY_this rfl rfl
  replace hte : 0 ≤ te.toInt ∧ te.toInt ≤ 240 := hte
  replace hta : 0 ≤ ta.toInt ∧ ta.toInt ≤ 240 := hta
  obtain ⟨by_, hs_by_, hY_by_⟩ := y_fldR (k := 0) hI.1 hY_this rfl rfl
  obtain ⟨fy, hA_by_, -⟩ := y_arr hI.1 hY_by_ rfl rfl
  have hle := hpre _ _ _ rfl hsi_tokenEnd hsi_tokenAt
  have hs0 := hs_by_
  have hA0 := hA_by_
  have he0 := hsi_tokenEnd
  have ha0 := hsi_tokenAt
  refine lv_iconst hx hb iX_d0 (v := 0) (by decide) ?_
  have ec0 : (0 : Int32).toInt = 0 := by decide
  refine lv_istore_n hx hb iX_d1 rfl hl (by decide) (lv' := [(1, .int (0 : Int32)), (0, .ref this)]) rfl fun ls hl => ?_
  exact iX_L2 B rfl hs0 hA0 he0 ha0 hte hta hle 12 _ _ _ _ _ hI hY_this hY_by_ hs_by_ hsi_tokenEnd hsi_tokenAt hA_by_ (lv_sub hl [0, 1] rfl) (by first | assumption | omega) (fun i hi => absurd hi (by omega)) (by omega)

