theorem fl_rd_233s {s : State} {args : Array Value} (hts : ∀ w ∈ x_Tb, w.before args s = true) : x_fok vwCl x_G x_Tb s args "TwinFiresModel" (196, 17, 13) := ⟨12, _, RX12, TX12, "TwinFiresModel", rfl, rfl, Nat.le_of_ble_eq_true rfl, iX12, (hts _ (x_bw63 0 rfl rfl)), fun x h => h⟩
theorem fl_rd_234s {s : State} {args : Array Value} (hts : ∀ w ∈ x_Tb, w.before args s = true) : x_fok vwCl x_G x_Tb s args "TwinFiresModel" (210, 17, 17) := ⟨12, _, RX12, TX12, "TwinFiresModel", rfl, rfl, Nat.le_of_ble_eq_true rfl, iX12, (hts _ (x_bw63 4 rfl rfl)), fun x h => h⟩
theorem fw_rd_235s {s : State} {args : Array Value} {mn : String} (hts : ∀ w ∈ x_Tb, w.before args s = true) : x_pok vwCl x_G x_Tb s args "TwinFiresModel" mn (210, 17, 17) := ⟨12, _, RX12, TX12, "TwinFiresModel", tyX12, _, rfl, rfl, Nat.le_of_ble_eq_true rfl, iX12, (hts _ (x_bw63 4 rfl rfl)), fun x h => h, tyX12_ok, nmX12, rfl, x_fitI _ _, Or.inl rfl⟩
theorem fl_rd_236s {s : State} {args : Array Value} (hts : ∀ w ∈ x_Tb, w.before args s = true) : x_fok vwCl x_G x_Tb s args "TwinFiresModel" (207, 17, 14) := ⟨12, _, RX12, TX12, "TwinFiresModel", rfl, rfl, Nat.le_of_ble_eq_true rfl, iX12, (hts _ (x_bw63 1 rfl rfl)), fun x h => h⟩
theorem fw_rd_237s {s : State} {args : Array Value} {mn : String} (hts : ∀ w ∈ x_Tb, w.before args s = true) : x_pok vwCl x_G x_Tb s args "TwinFiresModel" mn (166, 17, 11) := ⟨12, _, RX12, TX12, "TwinFiresModel", tyX12, _, rfl, rfl, Nat.le_of_ble_eq_true rfl, iX12, (hts _ (x_bw62 14 rfl rfl)), fun x h => h, tyX12_ok, nmX12, rfl, x_fitI _ _, Or.inl rfl⟩
theorem fl_qX_240 {s : State} {args : Array Value} (hts : ∀ w ∈ x_Tb, w.before args s = true) : x_fok vwCl x_G x_Tb s args "TwinFiresModel" (193, 17, 12) := ⟨12, _, RX12, TX12, "TwinFiresModel", rfl, rfl, Nat.le_of_ble_eq_true rfl, iX12, (hts _ (x_bw62 15 rfl rfl)), fun x h => h⟩
theorem fw_qX_241 {s : State} {args : Array Value} {mn : String} (hts : ∀ w ∈ x_Tb, w.before args s = true) : x_pok vwCl x_G x_Tb s args "TwinFiresModel" mn (196, 17, 13) := ⟨12, _, RX12, TX12, "TwinFiresModel", tyX12, _, rfl, rfl, Nat.le_of_ble_eq_true rfl, iX12, (hts _ (x_bw63 0 rfl rfl)), fun x h => h, tyX12_ok, nmX12, rfl, x_fitI _ _, Or.inl rfl⟩
theorem fw_qX_242 {s : State} {args : Array Value} {mn : String} (hts : ∀ w ∈ x_Tb, w.before args s = true) : x_pok vwCl x_G x_Tb s args "TwinFiresModel" mn (207, 17, 14) := ⟨12, _, RX12, TX12, "TwinFiresModel", tyX12, _, rfl, rfl, Nat.le_of_ble_eq_true rfl, iX12, (hts _ (x_bw63 1 rfl rfl)), fun x h => h, tyX12_ok, nmX12, rfl, x_fitI _ _, Or.inl rfl⟩
theorem fw_qX_243 {s : State} {args : Array Value} {mn : String} (hts : ∀ w ∈ x_Tb, w.before args s = true) : x_pok vwCl x_G x_Tb s args "TwinFiresModel" mn (193, 17, 12) := ⟨12, _, RX12, TX12, "TwinFiresModel", tyX12, _, rfl, rfl, Nat.le_of_ble_eq_true rfl, iX12, (hts _ (x_bw62 15 rfl rfl)), fun x h => h, tyX12_ok, nmX12, rfl, x_fitI _ _, Or.inl rfl⟩
def t_wA (x o : Int) : Prop := (x = 20594117 ∧ o = 0) ∨ (x = 769508 ∧ o = 1) ∨ (x = 533957 ∧ o = 2) ∨ (x = 8556773 ∧ o = 3) ∨ (x = 687358116 ∧ o = 4) ∨ (x = 755084 ∧ o = 5) ∨ ((x ≠ 20594117 ∧ x ≠ 769508 ∧ x ≠ 533957 ∧ x ≠ 8556773 ∧ x ≠ 687358116 ∧ x ≠ 755084) ∧ o = -1)
def t_wB (x o : Int) : Prop := (x = 824370 ∧ o = 0) ∨ (x = 435828 ∧ o = 1) ∨ (x = 763013 ∧ o = 2) ∨ ((x ≠ 824370 ∧ x ≠ 435828 ∧ x ≠ 763013) ∧ o = -1)
def t_wR (x r : Int) : Prop := (x = 271756 ∧ r = 20) ∨ (x ≠ 271756 ∧ ∃ o p : Int, t_wA x o ∧ t_wB x p ∧ ((o ≠ -1 ∧ r = 10 + o) ∨ (o = -1 ∧ p ≠ -1 ∧ r = 30 + p) ∨ (o = -1 ∧ p = -1 ∧ r = 1)))
theorem t_wA_b {x o : Int} (h : t_wA x o) : -1 ≤ o ∧ o ≤ 5 := by
  rcases h with ⟨-, e⟩ | ⟨-, e⟩ | ⟨-, e⟩ | ⟨-, e⟩ | ⟨-, e⟩ | ⟨-, e⟩ | ⟨-, e⟩ <;> omega
theorem t_wB_b {x o : Int} (h : t_wB x o) : -1 ≤ o ∧ o ≤ 2 := by
  rcases h with ⟨-, e⟩ | ⟨-, e⟩ | ⟨-, e⟩ | ⟨-, e⟩ <;> omega
/-- the reference's number of an item's word -/
def t_tc (k : Nat) : Int := if k = 0 then 20 else if k ≤ 6 then 9 + (k : Int) else if k ≤ 9 then 23 + (k : Int) else 1
theorem t_wR_of {x r : Int} (h : t_wR x r) : (∀ k, k < 10 → x = t_codes.getD k 0 → r = t_tc k) ∧ ((∀ k, k < 10 → x ≠ t_codes.getD k 0) → r = 1) := by
  constructor
  · intro k hk hx
    rcases (by omega : k = 0 ∨ k = 1 ∨ k = 2 ∨ k = 3 ∨ k = 4 ∨ k = 5 ∨ k = 6 ∨ k = 7 ∨ k = 8 ∨ k = 9) with rfl | rfl | rfl | rfl | rfl | rfl | rfl | rfl | rfl | rfl
    · have hx : x = 271756 := hx
      subst hx
      rcases h with ⟨-, b⟩ | ⟨a, o, p, h1, h2, h3⟩
      · rw [b]; rfl
      · exact absurd rfl a
    · have hx : x = 20594117 := hx
      subst hx
      rcases h with ⟨c9, b⟩ | ⟨a, o, p, h1, h2, h3⟩
      · exact absurd (by assumption : (20594117 : Int) = 271756) (by decide)
      · have e1 : o = 0 := by unfold t_wA at h1; omega
        have e2 : p = -1 := by unfold t_wB at h2; omega
        show r = 10
        omega
    · have hx : x = 769508 := hx
      subst hx
      rcases h with ⟨c9, b⟩ | ⟨a, o, p, h1, h2, h3⟩
      · exact absurd (by assumption : (769508 : Int) = 271756) (by decide)
      · have e1 : o = 1 := by unfold t_wA at h1; omega
        have e2 : p = -1 := by unfold t_wB at h2; omega
        show r = 11
        omega
    · have hx : x = 533957 := hx
      subst hx
      rcases h with ⟨c9, b⟩ | ⟨a, o, p, h1, h2, h3⟩
      · exact absurd (by assumption : (533957 : Int) = 271756) (by decide)
      · have e1 : o = 2 := by unfold t_wA at h1; omega
        have e2 : p = -1 := by unfold t_wB at h2; omega
        show r = 12
        omega
    · have hx : x = 8556773 := hx
      subst hx
      rcases h with ⟨c9, b⟩ | ⟨a, o, p, h1, h2, h3⟩
      · exact absurd (by assumption : (8556773 : Int) = 271756) (by decide)
      · have e1 : o = 3 := by unfold t_wA at h1; omega
        have e2 : p = -1 := by unfold t_wB at h2; omega
        show r = 13
        omega
    · have hx : x = 687358116 := hx
      subst hx
      rcases h with ⟨c9, b⟩ | ⟨a, o, p, h1, h2, h3⟩
      · exact absurd (by assumption : (687358116 : Int) = 271756) (by decide)
      · have e1 : o = 4 := by unfold t_wA at h1; omega
        have e2 : p = -1 := by unfold t_wB at h2; omega
        show r = 14
        omega
    · have hx : x = 755084 := hx
      subst hx
      rcases h with ⟨c9, b⟩ | ⟨a, o, p, h1, h2, h3⟩
      · exact absurd (by assumption : (755084 : Int) = 271756) (by decide)
      · have e1 : o = 5 := by unfold t_wA at h1; omega
        have e2 : p = -1 := by unfold t_wB at h2; omega
        show r = 15
        omega
    · have hx : x = 824370 := hx
      subst hx
      rcases h with ⟨c9, b⟩ | ⟨a, o, p, h1, h2, h3⟩
      · exact absurd (by assumption : (824370 : Int) = 271756) (by decide)
      · have e1 : o = -1 := by unfold t_wA at h1; omega
        have e2 : p = 0 := by unfold t_wB at h2; omega
        show r = 30
        omega
    · have hx : x = 435828 := hx
      subst hx
      rcases h with ⟨c9, b⟩ | ⟨a, o, p, h1, h2, h3⟩
      · exact absurd (by assumption : (435828 : Int) = 271756) (by decide)
      · have e1 : o = -1 := by unfold t_wA at h1; omega
        have e2 : p = 1 := by unfold t_wB at h2; omega
        show r = 31
        omega
    · have hx : x = 763013 := hx
      subst hx
      rcases h with ⟨c9, b⟩ | ⟨a, o, p, h1, h2, h3⟩
      · exact absurd (by assumption : (763013 : Int) = 271756) (by decide)
      · have e1 : o = -1 := by unfold t_wA at h1; omega
        have e2 : p = 2 := by unfold t_wB at h2; omega
        show r = 32
        omega
  · intro hx
    rcases h with ⟨a, -⟩ | ⟨-, o, p, h1, h2, h3⟩
    · exact absurd a (hx 0 (by decide))
    · have e1 : o = -1 := by
        rcases h1 with ⟨e, -⟩ | ⟨e, -⟩ | ⟨e, -⟩ | ⟨e, -⟩ | ⟨e, -⟩ | ⟨e, -⟩ | ⟨-, e⟩
        · exact absurd e (hx 1 (by decide))
        · exact absurd e (hx 2 (by decide))
        · exact absurd e (hx 3 (by decide))
        · exact absurd e (hx 4 (by decide))
        · exact absurd e (hx 5 (by decide))
        · exact absurd e (hx 6 (by decide))
        · exact e
      have e2 : p = -1 := by
        rcases h2 with ⟨e, -⟩ | ⟨e, -⟩ | ⟨e, -⟩ | ⟨-, e⟩
        · exact absurd e (hx 7 (by decide))
        · exact absurd e (hx 8 (by decide))
        · exact absurd e (hx 9 (by decide))
        · exact e
      omega
/-- a word's number tells which item it is -/
theorem t_wR_item {t : Nat → Int32} {s len : Nat} {r : Int} (ht : ∀ i, i < len → 97 ≤ (t (s + i)).toInt ∧ (t (s + i)).toInt ≤ 122) (h : t_wR (t_cod t s len) r) : r = t_tc (t_item t s len) := by
  have hc := t_wR_of h
  have key : ∀ k, k < 10 → (t_is t s len (t_words.getD k []) ↔ t_cod t s len = t_codes.getD k 0) := fun k hk => by
    rw [t_is_iff ht (t_words_ok k hk), t_codes_ok k hk]
  by_cases hk : t_item t s len < 10
  · exact hc.1 _ hk ((key _ hk).mp (t_item_is hk rfl))
  · have hno : ∀ k, k < 10 → ¬ t_is t s len (t_words.getD k []) := fun k hk' hi => by
      have hl : ∃ j, j < 10 ∧ t_item t s len = j := by
        have hP : ∀ m, m ≤ 10 → (∀ i, i < m → ¬ t_is t s len (t_words.getD i [])) ∨ ∃ j, j < m ∧ t_item t s len = j := by
          intro m
          induction m with
          | zero => intro _; exact Or.inl fun i hi => absurd hi (Nat.not_lt_zero _)
          | succ m ih =>
            intro hm
            rcases ih (by omega) with h2 | ⟨j, j1, j2⟩
            · by_cases h3 : t_is t s len (t_words.getD m [])
              · exact Or.inr ⟨m, by omega, t_item_eq (by omega) h2 h3⟩
              · refine Or.inl fun i hi => ?_
                by_cases e : i = m
                · subst e; exact h3
                · exact h2 i (by omega)
            · exact Or.inr ⟨j, by omega, j2⟩
        rcases hP 10 (Nat.le_refl _) with h2 | h2
        · exact absurd hi (h2 k hk')
        · exact h2
      obtain ⟨j, j1, j2⟩ := hl
      omega
    rw [t_item_no hno]
    exact hc.2 (fun k hk' hx => hno k hk' ((key k hk').mpr hx))
theorem t_item_long {t : Nat → Int32} {s len : Nat} (h : 6 < len) : t_item t s len = 10 := t_item_no (fun i hi q => by
  have := q.1
  have := t_w6 i hi
  omega)
theorem t_cod_lt {t : Nat → Int32} {s : Nat} : ∀ k, (∀ i, i < k → 97 ≤ (t (s + i)).toInt ∧ (t (s + i)).toInt ≤ 122) → t_cod t s k < 32 ^ k := by
  intro k
  induction k with
  | zero => intro _; show (0 : Int) < 32 ^ 0; decide
  | succ k ih =>
    intro h
    have h1 := ih (fun i hi => h i (by omega))
    have h2 := h k (by omega)
    show 32 * t_cod t s k + (t (s + k)).toInt - 96 < 32 ^ (k + 1)
    rw [Int.pow_succ]
    omega
theorem t_cod_b {t : Nat → Int32} {s k : Nat} (hk : k ≤ 6) (h : ∀ i, i < k → 97 ≤ (t (s + i)).toInt ∧ (t (s + i)).toInt ≤ 122) : 0 ≤ t_cod t s k ∧ t_cod t s k < 1073741824 := by
  have h1 := t_cod_lt k h
  have h2 := (t_cod_pos k h).1
  have h3 : ∀ j, j ≤ 6 → (32 : Int) ^ j ≤ 1073741824 := by decide
  have := h3 k hk
  omega
theorem z_l32 {v : Int64} {c : Int64} (h0 : 0 ≤ v.toInt) (h1 : v.toInt < 1073741824) (c0 : 97 ≤ c.toInt) (c1 : c.toInt ≤ 122) : (32 * v + c - 97 + 1).toInt = 32 * v.toInt + c.toInt - 96 := by
  have bm : ∀ z : Int, -1000000000000 ≤ z → z ≤ 1000000000000 → z.bmod (2 ^ 64) = z := fun z a b => Int.bmod_eq_of_le (by omega) (by omega)
  have e1 : (32 * v).toInt = 32 * v.toInt := by
    rw [Int64.toInt_mul, show (32 : Int64).toInt = 32 by decide, bm _ (by omega) (by omega)]
  have e2 : (32 * v + c).toInt = 32 * v.toInt + c.toInt := by
    rw [Int64.toInt_add, e1, bm _ (by omega) (by omega)]
  have e3 : (32 * v + c - 97).toInt = 32 * v.toInt + c.toInt - 97 := by
    rw [Int64.toInt_sub, e2, show (97 : Int64).toInt = 97 by decide, bm _ (by omega) (by omega)]
  rw [Int64.toInt_add, e3, show (1 : Int64).toInt = 1 by decide, bm _ (by omega) (by omega)]
  omega
def t_tk (t : Nat → Int32) (n p : Nat) : Int := if (t_tok t n p).1 = 0 then 0 else if (t_tok t n p).1 = 1 then t_tc (t_it t n p) else if (t_tok t n p).1 = 2 then 2 else if (t_tok t n p).1 = 3 then 3 else 1
/-- what a scan from p on leaves -/
def t_sc (t : Nat → Int32) (n p : Nat) (at_ st tk va : Int32) : Prop := st.toInt = t_at t n p ∧ at_.toInt = (t_tok t n p).2 ∧ tk.toInt = t_tk t n p ∧ ((t_tok t n p).1 = 2 → va.toInt = t_v t n p)
def z_PwoX : yP := fun _ av _ _ v _ _ => ∀ v9 : Int64, av = [.long v9] → ∃ r : Int32, v = some (.int r) ∧ t_wR v9.toInt r.toInt
theorem wX_d0 : decode xM179.2.1 0 = .ok (.lload_n 0, 1) := dz_ok (by decide +kernel)
theorem wX_d1 : decode xM179.2.1 1 = .ok (.ldc2_w 169, 3) := dz_ok (by decide +kernel)
theorem wX_d4 : decode xM179.2.1 4 = .ok (.lcmp, 1) := dz_ok (by decide +kernel)
theorem wX_d5 : decode xM179.2.1 5 = .ok (.ifCond .ne 7, 3) := dz_ok (by decide +kernel)
theorem wX_d8 : decode xM179.2.1 8 = .ok (.iconst 0, 1) := dz_ok (by decide +kernel)
theorem wX_d9 : decode xM179.2.1 9 = .ok (.goto 64, 3) := dz_ok (by decide +kernel)
theorem wX_d12 : decode xM179.2.1 12 = .ok (.lload_n 0, 1) := dz_ok (by decide +kernel)
theorem wX_d13 : decode xM179.2.1 13 = .ok (.ldc2_w 171, 3) := dz_ok (by decide +kernel)
theorem wX_d16 : decode xM179.2.1 16 = .ok (.lcmp, 1) := dz_ok (by decide +kernel)
theorem wX_d17 : decode xM179.2.1 17 = .ok (.ifCond .ne 7, 3) := dz_ok (by decide +kernel)
theorem wX_d20 : decode xM179.2.1 20 = .ok (.iconst 1, 1) := dz_ok (by decide +kernel)
theorem wX_d21 : decode xM179.2.1 21 = .ok (.goto 52, 3) := dz_ok (by decide +kernel)
theorem wX_d24 : decode xM179.2.1 24 = .ok (.lload_n 0, 1) := dz_ok (by decide +kernel)
theorem wX_d25 : decode xM179.2.1 25 = .ok (.ldc2_w 173, 3) := dz_ok (by decide +kernel)
theorem wX_d28 : decode xM179.2.1 28 = .ok (.lcmp, 1) := dz_ok (by decide +kernel)
theorem wX_d29 : decode xM179.2.1 29 = .ok (.ifCond .ne 7, 3) := dz_ok (by decide +kernel)
theorem wX_d32 : decode xM179.2.1 32 = .ok (.iconst 2, 1) := dz_ok (by decide +kernel)
theorem wX_d33 : decode xM179.2.1 33 = .ok (.goto 40, 3) := dz_ok (by decide +kernel)
theorem wX_d36 : decode xM179.2.1 36 = .ok (.lload_n 0, 1) := dz_ok (by decide +kernel)
theorem wX_d37 : decode xM179.2.1 37 = .ok (.ldc2_w 175, 3) := dz_ok (by decide +kernel)
theorem wX_d40 : decode xM179.2.1 40 = .ok (.lcmp, 1) := dz_ok (by decide +kernel)
theorem wX_d41 : decode xM179.2.1 41 = .ok (.ifCond .ne 7, 3) := dz_ok (by decide +kernel)
theorem wX_d44 : decode xM179.2.1 44 = .ok (.iconst 3, 1) := dz_ok (by decide +kernel)
theorem wX_d45 : decode xM179.2.1 45 = .ok (.goto 28, 3) := dz_ok (by decide +kernel)
theorem wX_d48 : decode xM179.2.1 48 = .ok (.lload_n 0, 1) := dz_ok (by decide +kernel)
theorem wX_d49 : decode xM179.2.1 49 = .ok (.ldc2_w 177, 3) := dz_ok (by decide +kernel)
theorem wX_d52 : decode xM179.2.1 52 = .ok (.lcmp, 1) := dz_ok (by decide +kernel)
theorem wX_d53 : decode xM179.2.1 53 = .ok (.ifCond .ne 7, 3) := dz_ok (by decide +kernel)
theorem wX_d56 : decode xM179.2.1 56 = .ok (.iconst 4, 1) := dz_ok (by decide +kernel)
theorem wX_d57 : decode xM179.2.1 57 = .ok (.goto 16, 3) := dz_ok (by decide +kernel)
theorem wX_d60 : decode xM179.2.1 60 = .ok (.lload_n 0, 1) := dz_ok (by decide +kernel)
theorem wX_d61 : decode xM179.2.1 61 = .ok (.ldc2_w 179, 3) := dz_ok (by decide +kernel)
theorem wX_d64 : decode xM179.2.1 64 = .ok (.lcmp, 1) := dz_ok (by decide +kernel)
theorem wX_d65 : decode xM179.2.1 65 = .ok (.ifCond .ne 7, 3) := dz_ok (by decide +kernel)
theorem wX_d68 : decode xM179.2.1 68 = .ok (.iconst 5, 1) := dz_ok (by decide +kernel)
theorem wX_d69 : decode xM179.2.1 69 = .ok (.goto 4, 3) := dz_ok (by decide +kernel)
theorem wX_d72 : decode xM179.2.1 72 = .ok (.iconst (-1), 1) := dz_ok (by decide +kernel)
theorem wX_d73 : decode xM179.2.1 73 = .ok (.istore_n 2, 1) := dz_ok (by decide +kernel)
theorem wX_d74 : decode xM179.2.1 74 = .ok (.lload_n 0, 1) := dz_ok (by decide +kernel)
theorem wX_d75 : decode xM179.2.1 75 = .ok (.ldc2_w 181, 3) := dz_ok (by decide +kernel)
theorem wX_d78 : decode xM179.2.1 78 = .ok (.lcmp, 1) := dz_ok (by decide +kernel)
theorem wX_d79 : decode xM179.2.1 79 = .ok (.ifCond .ne 7, 3) := dz_ok (by decide +kernel)
theorem wX_d82 : decode xM179.2.1 82 = .ok (.iconst 0, 1) := dz_ok (by decide +kernel)
theorem wX_d83 : decode xM179.2.1 83 = .ok (.goto 28, 3) := dz_ok (by decide +kernel)
theorem wX_d86 : decode xM179.2.1 86 = .ok (.lload_n 0, 1) := dz_ok (by decide +kernel)
theorem wX_d87 : decode xM179.2.1 87 = .ok (.ldc2_w 183, 3) := dz_ok (by decide +kernel)
theorem wX_d90 : decode xM179.2.1 90 = .ok (.lcmp, 1) := dz_ok (by decide +kernel)
theorem wX_d91 : decode xM179.2.1 91 = .ok (.ifCond .ne 7, 3) := dz_ok (by decide +kernel)
theorem wX_d94 : decode xM179.2.1 94 = .ok (.iconst 1, 1) := dz_ok (by decide +kernel)
theorem wX_d95 : decode xM179.2.1 95 = .ok (.goto 16, 3) := dz_ok (by decide +kernel)
theorem wX_d98 : decode xM179.2.1 98 = .ok (.lload_n 0, 1) := dz_ok (by decide +kernel)
theorem wX_d99 : decode xM179.2.1 99 = .ok (.ldc2_w 185, 3) := dz_ok (by decide +kernel)
theorem wX_d102 : decode xM179.2.1 102 = .ok (.lcmp, 1) := dz_ok (by decide +kernel)
theorem wX_d103 : decode xM179.2.1 103 = .ok (.ifCond .ne 7, 3) := dz_ok (by decide +kernel)
theorem wX_d106 : decode xM179.2.1 106 = .ok (.iconst 2, 1) := dz_ok (by decide +kernel)
theorem wX_d107 : decode xM179.2.1 107 = .ok (.goto 4, 3) := dz_ok (by decide +kernel)
theorem wX_d110 : decode xM179.2.1 110 = .ok (.iconst (-1), 1) := dz_ok (by decide +kernel)
theorem wX_d111 : decode xM179.2.1 111 = .ok (.istore_n 3, 1) := dz_ok (by decide +kernel)
theorem wX_d112 : decode xM179.2.1 112 = .ok (.lload_n 0, 1) := dz_ok (by decide +kernel)
theorem wX_d113 : decode xM179.2.1 113 = .ok (.ldc2_w 187, 3) := dz_ok (by decide +kernel)
theorem wX_d116 : decode xM179.2.1 116 = .ok (.lcmp, 1) := dz_ok (by decide +kernel)
theorem wX_d117 : decode xM179.2.1 117 = .ok (.ifCond .ne 8, 3) := dz_ok (by decide +kernel)
theorem wX_d120 : decode xM179.2.1 120 = .ok (.bipush 20, 2) := dz_ok (by decide +kernel)
theorem wX_d122 : decode xM179.2.1 122 = .ok (.goto 28, 3) := dz_ok (by decide +kernel)
theorem wX_d125 : decode xM179.2.1 125 = .ok (.iload_n 2, 1) := dz_ok (by decide +kernel)
theorem wX_d126 : decode xM179.2.1 126 = .ok (.iconst (-1), 1) := dz_ok (by decide +kernel)
theorem wX_d127 : decode xM179.2.1 127 = .ok (.if_icmp .eq 10, 3) := dz_ok (by decide +kernel)
theorem wX_d130 : decode xM179.2.1 130 = .ok (.bipush 10, 2) := dz_ok (by decide +kernel)
theorem wX_d132 : decode xM179.2.1 132 = .ok (.iload_n 2, 1) := dz_ok (by decide +kernel)
theorem wX_d133 : decode xM179.2.1 133 = .ok (.iadd, 1) := dz_ok (by decide +kernel)
theorem wX_d134 : decode xM179.2.1 134 = .ok (.goto 16, 3) := dz_ok (by decide +kernel)
theorem wX_d137 : decode xM179.2.1 137 = .ok (.iload_n 3, 1) := dz_ok (by decide +kernel)
theorem wX_d138 : decode xM179.2.1 138 = .ok (.iconst (-1), 1) := dz_ok (by decide +kernel)
theorem wX_d139 : decode xM179.2.1 139 = .ok (.if_icmp .eq 10, 3) := dz_ok (by decide +kernel)
theorem wX_d142 : decode xM179.2.1 142 = .ok (.bipush 30, 2) := dz_ok (by decide +kernel)
theorem wX_d144 : decode xM179.2.1 144 = .ok (.iload_n 3, 1) := dz_ok (by decide +kernel)
theorem wX_d145 : decode xM179.2.1 145 = .ok (.iadd, 1) := dz_ok (by decide +kernel)
theorem wX_d146 : decode xM179.2.1 146 = .ok (.goto 4, 3) := dz_ok (by decide +kernel)
theorem wX_d149 : decode xM179.2.1 149 = .ok (.iconst 1, 1) := dz_ok (by decide +kernel)
theorem wX_d150 : decode xM179.2.1 150 = .ok (.ireturn, 1) := dz_ok (by decide +kernel)
theorem wX_L112 {p : Program} {l : Launch} {e : Env} {s : State} {m : MethodId} {below : List Frame} {meth : Method} {c : Code} {D : va_G} {U : State} {Y0 : xY} {av : List Value} (B : y_B vwCl x_Tb x_Nb xM179 p s m meth c D U Y0 av) {v9 : Int64} (hav : av = [.long v9])  :
    ∀ (H : Heap) (Y : xY) (locs : List Loc) (ls : Array Slot) (two : Int32) (one : Int32), x_I D x_G x_Zs U (x_efs xM179) Y0 s.heap Y H locs → lv_has ls xM179.2.2.1 [(3, .int two), (2, .int one), (0, .long v9)] → (t_wA v9.toInt one.toInt) → (t_wB v9.toInt two.toInt) → W p l e (x_rm xM179) s m av.toArray below meth c H locs 0 0 (y_QQ below D x_G x_Zs U xM179 z_PwoX av Y0 s) (F0 m 112 ls []) := by
  have X := B.1
  have hx := X.1
  have hb := X.2.1
  have hY0 := B.2.2.2.2.1
  intro H Y locs ls two one  hI hl h1 h2
  have ho1 := t_wA_b h1
  have ho2 := t_wB_b h2
  refine lv_lload_n hx hb wX_d112 rfl (lv_at hl 2 rfl) ?_
  refine lv_ldc2 hx hb X.2.2.2.1 (v := 271756) (X.2.2.2.2.1 _ (x_bw76 1 rfl rfl)) wX_d113 ?_
  have el271756 : (271756 : Int64).toInt = 271756 := by decide
  refine W.lcmp hx hb wX_d116 ?_
  have h_z116 := y_cmp v9 (271756 : Int64)
  generalize hg_z116 : lg_cmp v9 (271756 : Int64) = z116 at h_z116 ⊢
  have ec0 : (0 : Int32).toInt = 0 := by decide
  refine lv_if_ne hx hb wX_d117 (tgt := 125) (by decide) (fun q117 => ?_) (fun q117 => ?_)
  · have q117_ : ¬ z116.toInt = (0 : Int32).toInt := fun q => q117 (Int32.toInt_inj.mp q)
    refine lv_iload_n hx hb wX_d125 rfl (lv_at hl 1 rfl) ?_
    refine lv_iconst hx hb wX_d126 (v := (-1)) (by decide) ?_
    have ecm1 : ((-1) : Int32).toInt = (-1) := by decide
    refine lv_icmp_eq hx hb wX_d127 (tgt := 137) (by decide) (fun q127 => ?_) (fun q127 => ?_)
    · have q127_ : one.toInt = ((-1) : Int32).toInt := by rw [q127]
      refine lv_iload_n hx hb wX_d137 rfl (lv_at hl 0 rfl) ?_
      refine lv_iconst hx hb wX_d138 (v := (-1)) (by decide) ?_
      refine lv_icmp_eq hx hb wX_d139 (tgt := 149) (by decide) (fun q139 => ?_) (fun q139 => ?_)
      · have q139_ : two.toInt = ((-1) : Int32).toInt := by rw [q139]
        refine lv_iconst hx hb wX_d149 (v := 1) (by decide) ?_
        have ec1 : (1 : Int32).toInt = 1 := by decide
        have hR9 : t_wR v9.toInt (1 : Int32).toInt := Or.inr ⟨by omega, _, _, h1, h2, by omega⟩
        subst hav
        exact y_ireturn B hI rfl rfl rfl List.mem_cons_self ⟨_, rfl, ⟨_, rfl, by show (1 : Int) ≤ _; omega, by show _ ≤ (32 : Int); omega⟩⟩ (x_cs.mono B.2.2.2.2.2 (y_mon B hI)) (fun v' h9 => by cases h9; exact ⟨_, rfl, hR9⟩) (Nat.le_refl _) (Nat.le_refl _) wX_d150
      · have q139_ : ¬ two.toInt = ((-1) : Int32).toInt := fun q => q139 (Int32.toInt_inj.mp q)
        refine lv_bipush hx hb wX_d142 (v := 30) (by decide) ?_
        have ec30 : (30 : Int32).toInt = 30 := by decide
        refine lv_iload_n hx hb wX_d144 rfl (lv_at hl 0 rfl) ?_
        refine lv_iadd hx hb wX_d145 ?_
        generalize hg_z145 : (30 : Int32) + two = z145
        have h_z145 : z145.toInt = 30 + two.toInt := by rw [← hg_z145]; have := y_add (x := (30 : Int32)) (y := two) (by rw [ec30]; omega) (by rw [ec30]; omega); rw [ec30] at this; exact this
        refine lv_goto hx hb wX_d146 (tgt := 150) (by decide) ?_
        have hR9 : t_wR v9.toInt z145.toInt := Or.inr ⟨by omega, _, _, h1, h2, by omega⟩
        subst hav
        exact y_ireturn B hI rfl rfl rfl List.mem_cons_self ⟨_, rfl, ⟨_, rfl, by show (1 : Int) ≤ _; omega, by show _ ≤ (32 : Int); omega⟩⟩ (x_cs.mono B.2.2.2.2.2 (y_mon B hI)) (fun v' h9 => by cases h9; exact ⟨_, rfl, hR9⟩) (Nat.le_refl _) (Nat.le_refl _) wX_d150
    · have q127_ : ¬ one.toInt = ((-1) : Int32).toInt := fun q => q127 (Int32.toInt_inj.mp q)
      refine lv_bipush hx hb wX_d130 (v := 10) (by decide) ?_
      have ec10 : (10 : Int32).toInt = 10 := by decide
      refine lv_iload_n hx hb wX_d132 rfl (lv_at hl 1 rfl) ?_
      refine lv_iadd hx hb wX_d133 ?_
      generalize hg_z133 : (10 : Int32) + one = z133
      have h_z133 : z133.toInt = 10 + one.toInt := by rw [← hg_z133]; have := y_add (x := (10 : Int32)) (y := one) (by rw [ec10]; omega) (by rw [ec10]; omega); rw [ec10] at this; exact this
      refine lv_goto hx hb wX_d134 (tgt := 150) (by decide) ?_
      have hR9 : t_wR v9.toInt z133.toInt := Or.inr ⟨by omega, _, _, h1, h2, by omega⟩
      subst hav
      exact y_ireturn B hI rfl rfl rfl List.mem_cons_self ⟨_, rfl, ⟨_, rfl, by show (1 : Int) ≤ _; omega, by show _ ≤ (32 : Int); omega⟩⟩ (x_cs.mono B.2.2.2.2.2 (y_mon B hI)) (fun v' h9 => by cases h9; exact ⟨_, rfl, hR9⟩) (Nat.le_refl _) (Nat.le_refl _) wX_d150
  · have q117_ : z116.toInt = (0 : Int32).toInt := by rw [q117]
    refine lv_bipush hx hb wX_d120 (v := 20) (by decide) ?_
    have ec20 : (20 : Int32).toInt = 20 := by decide
    refine lv_goto hx hb wX_d122 (tgt := 150) (by decide) ?_
    have hR9 : t_wR v9.toInt (20 : Int32).toInt := Or.inl ⟨by omega, by decide⟩
    subst hav
    exact y_ireturn B hI rfl rfl rfl List.mem_cons_self ⟨_, rfl, ⟨_, rfl, by show (1 : Int) ≤ _; omega, by show _ ≤ (32 : Int); omega⟩⟩ (x_cs.mono B.2.2.2.2.2 (y_mon B hI)) (fun v' h9 => by cases h9; exact ⟨_, rfl, hR9⟩) (Nat.le_refl _) (Nat.le_refl _) wX_d150
theorem wX_L74 {p : Program} {l : Launch} {e : Env} {s : State} {m : MethodId} {below : List Frame} {meth : Method} {c : Code} {D : va_G} {U : State} {Y0 : xY} {av : List Value} (B : y_B vwCl x_Tb x_Nb xM179 p s m meth c D U Y0 av) {v9 : Int64} (hav : av = [.long v9])  :
    ∀ (H : Heap) (Y : xY) (locs : List Loc) (ls : Array Slot) (one : Int32), x_I D x_G x_Zs U (x_efs xM179) Y0 s.heap Y H locs → lv_has ls xM179.2.2.1 [(2, .int one), (0, .long v9)] → (t_wA v9.toInt one.toInt) → W p l e (x_rm xM179) s m av.toArray below meth c H locs 0 0 (y_QQ below D x_G x_Zs U xM179 z_PwoX av Y0 s) (F0 m 74 ls []) := by
  have X := B.1
  have hx := X.1
  have hb := X.2.1
  have hY0 := B.2.2.2.2.1
  intro H Y locs ls one  hI hl h1
  refine lv_lload_n hx hb wX_d74 rfl (lv_at hl 1 rfl) ?_
  refine lv_ldc2 hx hb X.2.2.2.1 (v := 824370) (X.2.2.2.2.1 _ (x_bw75 14 rfl rfl)) wX_d75 ?_
  have el824370 : (824370 : Int64).toInt = 824370 := by decide
  refine W.lcmp hx hb wX_d78 ?_
  have h_z78 := y_cmp v9 (824370 : Int64)
  generalize hg_z78 : lg_cmp v9 (824370 : Int64) = z78 at h_z78 ⊢
  have ec0 : (0 : Int32).toInt = 0 := by decide
  refine lv_if_ne hx hb wX_d79 (tgt := 86) (by decide) (fun q79 => ?_) (fun q79 => ?_)
  · have q79_ : ¬ z78.toInt = (0 : Int32).toInt := fun q => q79 (Int32.toInt_inj.mp q)
    refine lv_lload_n hx hb wX_d86 rfl (lv_at hl 1 rfl) ?_
    refine lv_ldc2 hx hb X.2.2.2.1 (v := 435828) (X.2.2.2.2.1 _ (x_bw75 15 rfl rfl)) wX_d87 ?_
    have el435828 : (435828 : Int64).toInt = 435828 := by decide
    refine W.lcmp hx hb wX_d90 ?_
    have h_z90 := y_cmp v9 (435828 : Int64)
    generalize hg_z90 : lg_cmp v9 (435828 : Int64) = z90 at h_z90 ⊢
    refine lv_if_ne hx hb wX_d91 (tgt := 98) (by decide) (fun q91 => ?_) (fun q91 => ?_)
    · have q91_ : ¬ z90.toInt = (0 : Int32).toInt := fun q => q91 (Int32.toInt_inj.mp q)
      refine lv_lload_n hx hb wX_d98 rfl (lv_at hl 1 rfl) ?_
      refine lv_ldc2 hx hb X.2.2.2.1 (v := 763013) (X.2.2.2.2.1 _ (x_bw76 0 rfl rfl)) wX_d99 ?_
      have el763013 : (763013 : Int64).toInt = 763013 := by decide
      refine W.lcmp hx hb wX_d102 ?_
      have h_z102 := y_cmp v9 (763013 : Int64)
      generalize hg_z102 : lg_cmp v9 (763013 : Int64) = z102 at h_z102 ⊢
      refine lv_if_ne hx hb wX_d103 (tgt := 110) (by decide) (fun q103 => ?_) (fun q103 => ?_)
      · have q103_ : ¬ z102.toInt = (0 : Int32).toInt := fun q => q103 (Int32.toInt_inj.mp q)
        refine lv_iconst hx hb wX_d110 (v := (-1)) (by decide) ?_
        have ecm1 : ((-1) : Int32).toInt = (-1) := by decide
        refine lv_istore_n hx hb wX_d111 rfl hl (by decide) (lv' := [(3, .int ((-1) : Int32)), (2, .int one), (0, .long v9)]) rfl fun ls hl => ?_
        exact wX_L112 B hav _ _ _ _ _ _ hI (lv_sub hl [0, 1, 2] rfl) (by first | assumption | omega) (Or.inr (Or.inr (Or.inr (⟨⟨by omega, by omega, by omega⟩, by decide⟩))))
      · have q103_ : z102.toInt = (0 : Int32).toInt := by rw [q103]
        refine lv_iconst hx hb wX_d106 (v := 2) (by decide) ?_
        have ec2 : (2 : Int32).toInt = 2 := by decide
        refine lv_goto hx hb wX_d107 (tgt := 111) (by decide) ?_
        refine lv_istore_n hx hb wX_d111 rfl hl (by decide) (lv' := [(3, .int (2 : Int32)), (2, .int one), (0, .long v9)]) rfl fun ls hl => ?_
        exact wX_L112 B hav _ _ _ _ _ _ hI (lv_sub hl [0, 1, 2] rfl) (by first | assumption | omega) (Or.inr (Or.inr (Or.inl ⟨by omega, by decide⟩)))
    · have q91_ : z90.toInt = (0 : Int32).toInt := by rw [q91]
      refine lv_iconst hx hb wX_d94 (v := 1) (by decide) ?_
      have ec1 : (1 : Int32).toInt = 1 := by decide
      refine lv_goto hx hb wX_d95 (tgt := 111) (by decide) ?_
      refine lv_istore_n hx hb wX_d111 rfl hl (by decide) (lv' := [(3, .int (1 : Int32)), (2, .int one), (0, .long v9)]) rfl fun ls hl => ?_
      exact wX_L112 B hav _ _ _ _ _ _ hI (lv_sub hl [0, 1, 2] rfl) (by first | assumption | omega) (Or.inr (Or.inl ⟨by omega, by decide⟩))
  · have q79_ : z78.toInt = (0 : Int32).toInt := by rw [q79]
    refine lv_iconst hx hb wX_d82 (v := 0) (by decide) ?_
    refine lv_goto hx hb wX_d83 (tgt := 111) (by decide) ?_
    refine lv_istore_n hx hb wX_d111 rfl hl (by decide) (lv' := [(3, .int (0 : Int32)), (2, .int one), (0, .long v9)]) rfl fun ls hl => ?_
    exact wX_L112 B hav _ _ _ _ _ _ hI (lv_sub hl [0, 1, 2] rfl) (by first | assumption | omega) (Or.inl ⟨by omega, by decide⟩)
theorem ym_wordX : y_Met vwCl x_G x_Zs x_Tb x_Nb xM179 y_T z_PwoX := by
  refine y_main (by decide +kernel) (by decide +kernel) x_Tb_good x_Nb_ok ?_
  intro p l e s m below meth c D U Y0 av ls B hI hpre hl
  have X := B.1
  have hx := X.1
  have hb := X.2.1
  have hY0 := B.2.2.2.2.1
  obtain ⟨v0, rfl, ⟨v9, rfl, -⟩⟩ := x_one B.2.2.2.2.2
  replace hl : lv_has ls xM179.2.2.1 [(0, .long v9)] := hl
  refine lv_lload_n hx hb wX_d0 rfl (lv_at hl 0 rfl) ?_
  refine lv_ldc2 hx hb X.2.2.2.1 (v := 20594117) (X.2.2.2.2.1 _ (x_bw75 8 rfl rfl)) wX_d1 ?_
  have el20594117 : (20594117 : Int64).toInt = 20594117 := by decide
  refine W.lcmp hx hb wX_d4 ?_
  have h_z4 := y_cmp v9 (20594117 : Int64)
  generalize hg_z4 : lg_cmp v9 (20594117 : Int64) = z4 at h_z4 ⊢
  have ec0 : (0 : Int32).toInt = 0 := by decide
  refine lv_if_ne hx hb wX_d5 (tgt := 12) (by decide) (fun q5 => ?_) (fun q5 => ?_)
  · have q5_ : ¬ z4.toInt = (0 : Int32).toInt := fun q => q5 (Int32.toInt_inj.mp q)
    refine lv_lload_n hx hb wX_d12 rfl (lv_at hl 0 rfl) ?_
    refine lv_ldc2 hx hb X.2.2.2.1 (v := 769508) (X.2.2.2.2.1 _ (x_bw75 9 rfl rfl)) wX_d13 ?_
    have el769508 : (769508 : Int64).toInt = 769508 := by decide
    refine W.lcmp hx hb wX_d16 ?_
    have h_z16 := y_cmp v9 (769508 : Int64)
    generalize hg_z16 : lg_cmp v9 (769508 : Int64) = z16 at h_z16 ⊢
    refine lv_if_ne hx hb wX_d17 (tgt := 24) (by decide) (fun q17 => ?_) (fun q17 => ?_)
    · have q17_ : ¬ z16.toInt = (0 : Int32).toInt := fun q => q17 (Int32.toInt_inj.mp q)
      refine lv_lload_n hx hb wX_d24 rfl (lv_at hl 0 rfl) ?_
      refine lv_ldc2 hx hb X.2.2.2.1 (v := 533957) (X.2.2.2.2.1 _ (x_bw75 10 rfl rfl)) wX_d25 ?_
      have el533957 : (533957 : Int64).toInt = 533957 := by decide
      refine W.lcmp hx hb wX_d28 ?_
      have h_z28 := y_cmp v9 (533957 : Int64)
      generalize hg_z28 : lg_cmp v9 (533957 : Int64) = z28 at h_z28 ⊢
      refine lv_if_ne hx hb wX_d29 (tgt := 36) (by decide) (fun q29 => ?_) (fun q29 => ?_)
      · have q29_ : ¬ z28.toInt = (0 : Int32).toInt := fun q => q29 (Int32.toInt_inj.mp q)
        refine lv_lload_n hx hb wX_d36 rfl (lv_at hl 0 rfl) ?_
        refine lv_ldc2 hx hb X.2.2.2.1 (v := 8556773) (X.2.2.2.2.1 _ (x_bw75 11 rfl rfl)) wX_d37 ?_
        have el8556773 : (8556773 : Int64).toInt = 8556773 := by decide
        refine W.lcmp hx hb wX_d40 ?_
        have h_z40 := y_cmp v9 (8556773 : Int64)
        generalize hg_z40 : lg_cmp v9 (8556773 : Int64) = z40 at h_z40 ⊢
        refine lv_if_ne hx hb wX_d41 (tgt := 48) (by decide) (fun q41 => ?_) (fun q41 => ?_)
        · have q41_ : ¬ z40.toInt = (0 : Int32).toInt := fun q => q41 (Int32.toInt_inj.mp q)
          refine lv_lload_n hx hb wX_d48 rfl (lv_at hl 0 rfl) ?_
          refine lv_ldc2 hx hb X.2.2.2.1 (v := 687358116) (X.2.2.2.2.1 _ (x_bw75 12 rfl rfl)) wX_d49 ?_
          have el687358116 : (687358116 : Int64).toInt = 687358116 := by decide
          refine W.lcmp hx hb wX_d52 ?_
          have h_z52 := y_cmp v9 (687358116 : Int64)
          generalize hg_z52 : lg_cmp v9 (687358116 : Int64) = z52 at h_z52 ⊢
          refine lv_if_ne hx hb wX_d53 (tgt := 60) (by decide) (fun q53 => ?_) (fun q53 => ?_)
          · have q53_ : ¬ z52.toInt = (0 : Int32).toInt := fun q => q53 (Int32.toInt_inj.mp q)
            refine lv_lload_n hx hb wX_d60 rfl (lv_at hl 0 rfl) ?_
            refine lv_ldc2 hx hb X.2.2.2.1 (v := 755084) (X.2.2.2.2.1 _ (x_bw75 13 rfl rfl)) wX_d61 ?_
            have el755084 : (755084 : Int64).toInt = 755084 := by decide
            refine W.lcmp hx hb wX_d64 ?_
            have h_z64 := y_cmp v9 (755084 : Int64)
            generalize hg_z64 : lg_cmp v9 (755084 : Int64) = z64 at h_z64 ⊢
            refine lv_if_ne hx hb wX_d65 (tgt := 72) (by decide) (fun q65 => ?_) (fun q65 => ?_)
            · have q65_ : ¬ z64.toInt = (0 : Int32).toInt := fun q => q65 (Int32.toInt_inj.mp q)
              refine lv_iconst hx hb wX_d72 (v := (-1)) (by decide) ?_
              have ecm1 : ((-1) : Int32).toInt = (-1) := by decide
              refine lv_istore_n hx hb wX_d73 rfl hl (by decide) (lv' := [(2, .int ((-1) : Int32)), (0, .long v9)]) rfl fun ls hl => ?_
              exact wX_L74 B rfl _ _ _ _ _ hI (lv_sub hl [0, 1] rfl) (Or.inr (Or.inr (Or.inr (Or.inr (Or.inr (Or.inr (⟨⟨by omega, by omega, by omega, by omega, by omega, by omega⟩, by decide⟩)))))))
            · have q65_ : z64.toInt = (0 : Int32).toInt := by rw [q65]
              refine lv_iconst hx hb wX_d68 (v := 5) (by decide) ?_
              have ec5 : (5 : Int32).toInt = 5 := by decide
              refine lv_goto hx hb wX_d69 (tgt := 73) (by decide) ?_
              refine lv_istore_n hx hb wX_d73 rfl hl (by decide) (lv' := [(2, .int (5 : Int32)), (0, .long v9)]) rfl fun ls hl => ?_
              exact wX_L74 B rfl _ _ _ _ _ hI (lv_sub hl [0, 1] rfl) (Or.inr (Or.inr (Or.inr (Or.inr (Or.inr (Or.inl ⟨by omega, by decide⟩))))))
          · have q53_ : z52.toInt = (0 : Int32).toInt := by rw [q53]
            refine lv_iconst hx hb wX_d56 (v := 4) (by decide) ?_
            have ec4 : (4 : Int32).toInt = 4 := by decide
            refine lv_goto hx hb wX_d57 (tgt := 73) (by decide) ?_
            refine lv_istore_n hx hb wX_d73 rfl hl (by decide) (lv' := [(2, .int (4 : Int32)), (0, .long v9)]) rfl fun ls hl => ?_
            exact wX_L74 B rfl _ _ _ _ _ hI (lv_sub hl [0, 1] rfl) (Or.inr (Or.inr (Or.inr (Or.inr (Or.inl ⟨by omega, by decide⟩)))))
        · have q41_ : z40.toInt = (0 : Int32).toInt := by rw [q41]
          refine lv_iconst hx hb wX_d44 (v := 3) (by decide) ?_
          have ec3 : (3 : Int32).toInt = 3 := by decide
          refine lv_goto hx hb wX_d45 (tgt := 73) (by decide) ?_
          refine lv_istore_n hx hb wX_d73 rfl hl (by decide) (lv' := [(2, .int (3 : Int32)), (0, .long v9)]) rfl fun ls hl => ?_
          exact wX_L74 B rfl _ _ _ _ _ hI (lv_sub hl [0, 1] rfl) (Or.inr (Or.inr (Or.inr (Or.inl ⟨by omega, by decide⟩))))
      · have q29_ : z28.toInt = (0 : Int32).toInt := by rw [q29]
        refine lv_iconst hx hb wX_d32 (v := 2) (by decide) ?_
        have ec2 : (2 : Int32).toInt = 2 := by decide
        refine lv_goto hx hb wX_d33 (tgt := 73) (by decide) ?_
        refine lv_istore_n hx hb wX_d73 rfl hl (by decide) (lv' := [(2, .int (2 : Int32)), (0, .long v9)]) rfl fun ls hl => ?_
        exact wX_L74 B rfl _ _ _ _ _ hI (lv_sub hl [0, 1] rfl) (Or.inr (Or.inr (Or.inl ⟨by omega, by decide⟩)))
    · have q17_ : z16.toInt = (0 : Int32).toInt := by rw [q17]
      refine lv_iconst hx hb wX_d20 (v := 1) (by decide) ?_
      have ec1 : (1 : Int32).toInt = 1 := by decide
      refine lv_goto hx hb wX_d21 (tgt := 73) (by decide) ?_
      refine lv_istore_n hx hb wX_d73 rfl hl (by decide) (lv' := [(2, .int (1 : Int32)), (0, .long v9)]) rfl fun ls hl => ?_
      exact wX_L74 B rfl _ _ _ _ _ hI (lv_sub hl [0, 1] rfl) (Or.inr (Or.inl ⟨by omega, by decide⟩))
  · have q5_ : z4.toInt = (0 : Int32).toInt := by rw [q5]
    refine lv_iconst hx hb wX_d8 (v := 0) (by decide) ?_
    refine lv_goto hx hb wX_d9 (tgt := 73) (by decide) ?_
    refine lv_istore_n hx hb wX_d73 rfl hl (by decide) (lv' := [(2, .int (0 : Int32)), (0, .long v9)]) rfl fun ls hl => ?_
    exact wX_L74 B rfl _ _ _ _ _ hI (lv_sub hl [0, 1] rfl) (Or.inl ⟨by omega, by decide⟩)
def z_PscX : yP := fun D av _ H _ _ H' => ∀ (this tx : Nat) (at_ ty : Int32) (ft : Nat → Int32), av = [.ref this] → x_sl D 12 11 this H = some (.int at_) → x_sl D 12 10 this H = some (.int ty) → x_sl D 12 9 this H = some (.ref tx) → t_c ft → y_A tx 240 H ft → ∃ at1 st1 tk1 va1 : Int32, x_sl D 12 11 this H' = some (.int at1) ∧ x_sl D 12 12 this H' = some (.int st1) ∧ x_sl D 12 13 this H' = some (.int tk1) ∧ x_sl D 12 14 this H' = some (.int va1) ∧ t_sc ft ty.toInt.toNat at_.toInt.toNat at1 st1 tk1 va1
theorem qX_d0 : decode xMsc.2.1 0 = .ok (.aload_n 0, 1) := dz_ok (by decide +kernel)
theorem qX_d1 : decode xMsc.2.1 1 = .ok (.bipush 32, 2) := dz_ok (by decide +kernel)
theorem qX_d3 : decode xMsc.2.1 3 = .ok (.bipush 32, 2) := dz_ok (by decide +kernel)
theorem qX_d5 : decode xMsc.2.1 5 = .ok (.invokevirtual 189, 3) := dz_ok (by decide +kernel)
theorem qX_d8 : decode xMsc.2.1 8 = .ok (.ifCond .eq 16, 3) := dz_ok (by decide +kernel)
theorem qX_d11 : decode xMsc.2.1 11 = .ok (.aload_n 0, 1) := dz_ok (by decide +kernel)
theorem qX_d12 : decode xMsc.2.1 12 = .ok (.dup, 1) := dz_ok (by decide +kernel)
theorem qX_d13 : decode xMsc.2.1 13 = .ok (.getfield 166, 3) := dz_ok (by decide +kernel)
theorem qX_d16 : decode xMsc.2.1 16 = .ok (.iconst 1, 1) := dz_ok (by decide +kernel)
theorem qX_d17 : decode xMsc.2.1 17 = .ok (.iadd, 1) := dz_ok (by decide +kernel)
theorem qX_d18 : decode xMsc.2.1 18 = .ok (.putfield 166, 3) := dz_ok (by decide +kernel)
theorem qX_d21 : decode xMsc.2.1 21 = .ok (.goto (-21), 3) := dz_ok (by decide +kernel)
theorem qX_d24 : decode xMsc.2.1 24 = .ok (.aload_n 0, 1) := dz_ok (by decide +kernel)
theorem qX_d25 : decode xMsc.2.1 25 = .ok (.aload_n 0, 1) := dz_ok (by decide +kernel)
theorem qX_d26 : decode xMsc.2.1 26 = .ok (.getfield 166, 3) := dz_ok (by decide +kernel)
theorem qX_d29 : decode xMsc.2.1 29 = .ok (.putfield 193, 3) := dz_ok (by decide +kernel)
theorem qX_d32 : decode xMsc.2.1 32 = .ok (.aload_n 0, 1) := dz_ok (by decide +kernel)
theorem qX_d33 : decode xMsc.2.1 33 = .ok (.getfield 166, 3) := dz_ok (by decide +kernel)
theorem qX_d36 : decode xMsc.2.1 36 = .ok (.aload_n 0, 1) := dz_ok (by decide +kernel)
theorem qX_d37 : decode xMsc.2.1 37 = .ok (.getfield 160, 3) := dz_ok (by decide +kernel)
theorem qX_d40 : decode xMsc.2.1 40 = .ok (.if_icmp .ne 9, 3) := dz_ok (by decide +kernel)
theorem qX_d43 : decode xMsc.2.1 43 = .ok (.aload_n 0, 1) := dz_ok (by decide +kernel)
theorem qX_d44 : decode xMsc.2.1 44 = .ok (.iconst 0, 1) := dz_ok (by decide +kernel)
theorem qX_d45 : decode xMsc.2.1 45 = .ok (.putfield 196, 3) := dz_ok (by decide +kernel)
theorem qX_d48 : decode xMsc.2.1 48 = .ok (.return_, 1) := dz_ok (by decide +kernel)
theorem qX_d49 : decode xMsc.2.1 49 = .ok (.aload_n 0, 1) := dz_ok (by decide +kernel)
theorem qX_d50 : decode xMsc.2.1 50 = .ok (.bipush 97, 2) := dz_ok (by decide +kernel)
theorem qX_d52 : decode xMsc.2.1 52 = .ok (.bipush 122, 2) := dz_ok (by decide +kernel)
theorem qX_d54 : decode xMsc.2.1 54 = .ok (.invokevirtual 189, 3) := dz_ok (by decide +kernel)
theorem qX_d57 : decode xMsc.2.1 57 = .ok (.ifCond .eq 97, 3) := dz_ok (by decide +kernel)
theorem qX_d60 : decode xMsc.2.1 60 = .ok (.lconst 0, 1) := dz_ok (by decide +kernel)
theorem qX_d61 : decode xMsc.2.1 61 = .ok (.lstore_n 1, 1) := dz_ok (by decide +kernel)
theorem qX_d62 : decode xMsc.2.1 62 = .ok (.aload_n 0, 1) := dz_ok (by decide +kernel)
theorem qX_d63 : decode xMsc.2.1 63 = .ok (.bipush 97, 2) := dz_ok (by decide +kernel)
theorem qX_d65 : decode xMsc.2.1 65 = .ok (.bipush 122, 2) := dz_ok (by decide +kernel)
theorem qX_d67 : decode xMsc.2.1 67 = .ok (.invokevirtual 189, 3) := dz_ok (by decide +kernel)
theorem qX_d70 : decode xMsc.2.1 70 = .ok (.ifCond .eq 57, 3) := dz_ok (by decide +kernel)
theorem qX_d73 : decode xMsc.2.1 73 = .ok (.aload_n 0, 1) := dz_ok (by decide +kernel)
theorem qX_d74 : decode xMsc.2.1 74 = .ok (.getfield 166, 3) := dz_ok (by decide +kernel)
theorem qX_d77 : decode xMsc.2.1 77 = .ok (.aload_n 0, 1) := dz_ok (by decide +kernel)
theorem qX_d78 : decode xMsc.2.1 78 = .ok (.getfield 193, 3) := dz_ok (by decide +kernel)
theorem qX_d81 : decode xMsc.2.1 81 = .ok (.isub, 1) := dz_ok (by decide +kernel)
theorem qX_d82 : decode xMsc.2.1 82 = .ok (.bipush 6, 2) := dz_ok (by decide +kernel)
theorem qX_d84 : decode xMsc.2.1 84 = .ok (.if_icmp .le 7, 3) := dz_ok (by decide +kernel)
theorem qX_d87 : decode xMsc.2.1 87 = .ok (.lconst 0, 1) := dz_ok (by decide +kernel)
theorem qX_d88 : decode xMsc.2.1 88 = .ok (.goto 25, 3) := dz_ok (by decide +kernel)
theorem qX_d91 : decode xMsc.2.1 91 = .ok (.ldc2_w 199, 3) := dz_ok (by decide +kernel)
theorem qX_d94 : decode xMsc.2.1 94 = .ok (.lload_n 1, 1) := dz_ok (by decide +kernel)
theorem qX_d95 : decode xMsc.2.1 95 = .ok (.lmul, 1) := dz_ok (by decide +kernel)
theorem qX_d96 : decode xMsc.2.1 96 = .ok (.aload_n 0, 1) := dz_ok (by decide +kernel)
theorem qX_d97 : decode xMsc.2.1 97 = .ok (.getfield 29, 3) := dz_ok (by decide +kernel)
theorem qX_d100 : decode xMsc.2.1 100 = .ok (.aload_n 0, 1) := dz_ok (by decide +kernel)
theorem qX_d101 : decode xMsc.2.1 101 = .ok (.getfield 166, 3) := dz_ok (by decide +kernel)
theorem qX_d104 : decode xMsc.2.1 104 = .ok (.iaload, 1) := dz_ok (by decide +kernel)
theorem qX_d105 : decode xMsc.2.1 105 = .ok (.i2l, 1) := dz_ok (by decide +kernel)
theorem qX_d106 : decode xMsc.2.1 106 = .ok (.ladd, 1) := dz_ok (by decide +kernel)
theorem qX_d107 : decode xMsc.2.1 107 = .ok (.ldc2_w 201, 3) := dz_ok (by decide +kernel)
theorem qX_d110 : decode xMsc.2.1 110 = .ok (.lsub, 1) := dz_ok (by decide +kernel)
theorem qX_d111 : decode xMsc.2.1 111 = .ok (.lconst 1, 1) := dz_ok (by decide +kernel)
theorem qX_d112 : decode xMsc.2.1 112 = .ok (.ladd, 1) := dz_ok (by decide +kernel)
theorem qX_d113 : decode xMsc.2.1 113 = .ok (.lstore_n 1, 1) := dz_ok (by decide +kernel)
theorem qX_d114 : decode xMsc.2.1 114 = .ok (.aload_n 0, 1) := dz_ok (by decide +kernel)
theorem qX_d115 : decode xMsc.2.1 115 = .ok (.dup, 1) := dz_ok (by decide +kernel)
theorem qX_d116 : decode xMsc.2.1 116 = .ok (.getfield 166, 3) := dz_ok (by decide +kernel)
theorem qX_d119 : decode xMsc.2.1 119 = .ok (.iconst 1, 1) := dz_ok (by decide +kernel)
theorem qX_d120 : decode xMsc.2.1 120 = .ok (.iadd, 1) := dz_ok (by decide +kernel)
theorem qX_d121 : decode xMsc.2.1 121 = .ok (.putfield 166, 3) := dz_ok (by decide +kernel)
theorem qX_d124 : decode xMsc.2.1 124 = .ok (.goto (-62), 3) := dz_ok (by decide +kernel)
theorem qX_d127 : decode xMsc.2.1 127 = .ok (.aload_n 0, 1) := dz_ok (by decide +kernel)
theorem qX_d128 : decode xMsc.2.1 128 = .ok (.aload_n 0, 1) := dz_ok (by decide +kernel)
theorem qX_d129 : decode xMsc.2.1 129 = .ok (.getfield 166, 3) := dz_ok (by decide +kernel)
theorem qX_d132 : decode xMsc.2.1 132 = .ok (.aload_n 0, 1) := dz_ok (by decide +kernel)
theorem qX_d133 : decode xMsc.2.1 133 = .ok (.getfield 193, 3) := dz_ok (by decide +kernel)
theorem qX_d136 : decode xMsc.2.1 136 = .ok (.isub, 1) := dz_ok (by decide +kernel)
theorem qX_d137 : decode xMsc.2.1 137 = .ok (.bipush 6, 2) := dz_ok (by decide +kernel)
theorem qX_d139 : decode xMsc.2.1 139 = .ok (.if_icmp .le 7, 3) := dz_ok (by decide +kernel)
theorem qX_d142 : decode xMsc.2.1 142 = .ok (.iconst 1, 1) := dz_ok (by decide +kernel)
theorem qX_d143 : decode xMsc.2.1 143 = .ok (.goto 7, 3) := dz_ok (by decide +kernel)
theorem qX_d146 : decode xMsc.2.1 146 = .ok (.lload_n 1, 1) := dz_ok (by decide +kernel)
theorem qX_d147 : decode xMsc.2.1 147 = .ok (.invokestatic 203, 3) := dz_ok (by decide +kernel)
theorem qX_d150 : decode xMsc.2.1 150 = .ok (.putfield 196, 3) := dz_ok (by decide +kernel)
theorem qX_d153 : decode xMsc.2.1 153 = .ok (.return_, 1) := dz_ok (by decide +kernel)
theorem qX_d154 : decode xMsc.2.1 154 = .ok (.aload_n 0, 1) := dz_ok (by decide +kernel)
theorem qX_d155 : decode xMsc.2.1 155 = .ok (.bipush 48, 2) := dz_ok (by decide +kernel)
theorem qX_d157 : decode xMsc.2.1 157 = .ok (.bipush 57, 2) := dz_ok (by decide +kernel)
theorem qX_d159 : decode xMsc.2.1 159 = .ok (.invokevirtual 189, 3) := dz_ok (by decide +kernel)
theorem qX_d162 : decode xMsc.2.1 162 = .ok (.ifCond .eq 99, 3) := dz_ok (by decide +kernel)
theorem qX_d165 : decode xMsc.2.1 165 = .ok (.aload_n 0, 1) := dz_ok (by decide +kernel)
theorem qX_d166 : decode xMsc.2.1 166 = .ok (.iconst 0, 1) := dz_ok (by decide +kernel)
theorem qX_d167 : decode xMsc.2.1 167 = .ok (.putfield 207, 3) := dz_ok (by decide +kernel)
theorem qX_d170 : decode xMsc.2.1 170 = .ok (.aload_n 0, 1) := dz_ok (by decide +kernel)
theorem qX_d171 : decode xMsc.2.1 171 = .ok (.bipush 48, 2) := dz_ok (by decide +kernel)
theorem qX_d173 : decode xMsc.2.1 173 = .ok (.bipush 57, 2) := dz_ok (by decide +kernel)
theorem qX_d175 : decode xMsc.2.1 175 = .ok (.invokevirtual 189, 3) := dz_ok (by decide +kernel)
theorem qX_d178 : decode xMsc.2.1 178 = .ok (.ifCond .eq 60, 3) := dz_ok (by decide +kernel)
theorem qX_d181 : decode xMsc.2.1 181 = .ok (.aload_n 0, 1) := dz_ok (by decide +kernel)
theorem qX_d182 : decode xMsc.2.1 182 = .ok (.aload_n 0, 1) := dz_ok (by decide +kernel)
theorem qX_d183 : decode xMsc.2.1 183 = .ok (.getfield 166, 3) := dz_ok (by decide +kernel)
theorem qX_d186 : decode xMsc.2.1 186 = .ok (.aload_n 0, 1) := dz_ok (by decide +kernel)
theorem qX_d187 : decode xMsc.2.1 187 = .ok (.getfield 193, 3) := dz_ok (by decide +kernel)
theorem qX_d190 : decode xMsc.2.1 190 = .ok (.isub, 1) := dz_ok (by decide +kernel)
theorem qX_d191 : decode xMsc.2.1 191 = .ok (.iconst 2, 1) := dz_ok (by decide +kernel)
theorem qX_d192 : decode xMsc.2.1 192 = .ok (.if_icmp .ge 26, 3) := dz_ok (by decide +kernel)
theorem qX_d195 : decode xMsc.2.1 195 = .ok (.bipush 10, 2) := dz_ok (by decide +kernel)
theorem qX_d197 : decode xMsc.2.1 197 = .ok (.aload_n 0, 1) := dz_ok (by decide +kernel)
theorem qX_d198 : decode xMsc.2.1 198 = .ok (.getfield 207, 3) := dz_ok (by decide +kernel)
theorem qX_d201 : decode xMsc.2.1 201 = .ok (.imul, 1) := dz_ok (by decide +kernel)
theorem qX_d202 : decode xMsc.2.1 202 = .ok (.aload_n 0, 1) := dz_ok (by decide +kernel)
theorem qX_d203 : decode xMsc.2.1 203 = .ok (.getfield 29, 3) := dz_ok (by decide +kernel)
theorem qX_d206 : decode xMsc.2.1 206 = .ok (.aload_n 0, 1) := dz_ok (by decide +kernel)
theorem qX_d207 : decode xMsc.2.1 207 = .ok (.getfield 166, 3) := dz_ok (by decide +kernel)
theorem qX_d210 : decode xMsc.2.1 210 = .ok (.iaload, 1) := dz_ok (by decide +kernel)
theorem qX_d211 : decode xMsc.2.1 211 = .ok (.iadd, 1) := dz_ok (by decide +kernel)
theorem qX_d212 : decode xMsc.2.1 212 = .ok (.bipush 48, 2) := dz_ok (by decide +kernel)
theorem qX_d214 : decode xMsc.2.1 214 = .ok (.isub, 1) := dz_ok (by decide +kernel)
theorem qX_d215 : decode xMsc.2.1 215 = .ok (.goto 7, 3) := dz_ok (by decide +kernel)
theorem qX_d218 : decode xMsc.2.1 218 = .ok (.aload_n 0, 1) := dz_ok (by decide +kernel)
theorem qX_d219 : decode xMsc.2.1 219 = .ok (.getfield 207, 3) := dz_ok (by decide +kernel)
theorem qX_d222 : decode xMsc.2.1 222 = .ok (.putfield 207, 3) := dz_ok (by decide +kernel)
theorem qX_d225 : decode xMsc.2.1 225 = .ok (.aload_n 0, 1) := dz_ok (by decide +kernel)
theorem qX_d226 : decode xMsc.2.1 226 = .ok (.dup, 1) := dz_ok (by decide +kernel)
theorem qX_d227 : decode xMsc.2.1 227 = .ok (.getfield 166, 3) := dz_ok (by decide +kernel)
theorem qX_d230 : decode xMsc.2.1 230 = .ok (.iconst 1, 1) := dz_ok (by decide +kernel)
theorem qX_d231 : decode xMsc.2.1 231 = .ok (.iadd, 1) := dz_ok (by decide +kernel)
theorem qX_d232 : decode xMsc.2.1 232 = .ok (.putfield 166, 3) := dz_ok (by decide +kernel)
theorem qX_d235 : decode xMsc.2.1 235 = .ok (.goto (-65), 3) := dz_ok (by decide +kernel)
theorem qX_d238 : decode xMsc.2.1 238 = .ok (.aload_n 0, 1) := dz_ok (by decide +kernel)
theorem qX_d239 : decode xMsc.2.1 239 = .ok (.aload_n 0, 1) := dz_ok (by decide +kernel)
theorem qX_d240 : decode xMsc.2.1 240 = .ok (.getfield 166, 3) := dz_ok (by decide +kernel)
theorem qX_d243 : decode xMsc.2.1 243 = .ok (.aload_n 0, 1) := dz_ok (by decide +kernel)
theorem qX_d244 : decode xMsc.2.1 244 = .ok (.getfield 193, 3) := dz_ok (by decide +kernel)
theorem qX_d247 : decode xMsc.2.1 247 = .ok (.isub, 1) := dz_ok (by decide +kernel)
theorem qX_d248 : decode xMsc.2.1 248 = .ok (.iconst 2, 1) := dz_ok (by decide +kernel)
theorem qX_d249 : decode xMsc.2.1 249 = .ok (.if_icmp .le 7, 3) := dz_ok (by decide +kernel)
theorem qX_d252 : decode xMsc.2.1 252 = .ok (.iconst 1, 1) := dz_ok (by decide +kernel)
theorem qX_d253 : decode xMsc.2.1 253 = .ok (.goto 4, 3) := dz_ok (by decide +kernel)
theorem qX_d256 : decode xMsc.2.1 256 = .ok (.iconst 2, 1) := dz_ok (by decide +kernel)
theorem qX_d257 : decode xMsc.2.1 257 = .ok (.putfield 196, 3) := dz_ok (by decide +kernel)
theorem qX_d260 : decode xMsc.2.1 260 = .ok (.return_, 1) := dz_ok (by decide +kernel)
theorem qX_d261 : decode xMsc.2.1 261 = .ok (.aload_n 0, 1) := dz_ok (by decide +kernel)
theorem qX_d262 : decode xMsc.2.1 262 = .ok (.aload_n 0, 1) := dz_ok (by decide +kernel)
theorem qX_d263 : decode xMsc.2.1 263 = .ok (.bipush 59, 2) := dz_ok (by decide +kernel)
theorem qX_d265 : decode xMsc.2.1 265 = .ok (.bipush 59, 2) := dz_ok (by decide +kernel)
theorem qX_d267 : decode xMsc.2.1 267 = .ok (.invokevirtual 189, 3) := dz_ok (by decide +kernel)
theorem qX_d270 : decode xMsc.2.1 270 = .ok (.ifCond .eq 7, 3) := dz_ok (by decide +kernel)
theorem qX_d273 : decode xMsc.2.1 273 = .ok (.iconst 3, 1) := dz_ok (by decide +kernel)
theorem qX_d274 : decode xMsc.2.1 274 = .ok (.goto 4, 3) := dz_ok (by decide +kernel)
theorem qX_d277 : decode xMsc.2.1 277 = .ok (.iconst 1, 1) := dz_ok (by decide +kernel)
theorem qX_d278 : decode xMsc.2.1 278 = .ok (.putfield 196, 3) := dz_ok (by decide +kernel)
theorem qX_d281 : decode xMsc.2.1 281 = .ok (.aload_n 0, 1) := dz_ok (by decide +kernel)
theorem qX_d282 : decode xMsc.2.1 282 = .ok (.dup, 1) := dz_ok (by decide +kernel)
theorem qX_d283 : decode xMsc.2.1 283 = .ok (.getfield 166, 3) := dz_ok (by decide +kernel)
theorem qX_d286 : decode xMsc.2.1 286 = .ok (.iconst 1, 1) := dz_ok (by decide +kernel)
theorem qX_d287 : decode xMsc.2.1 287 = .ok (.iadd, 1) := dz_ok (by decide +kernel)
theorem qX_d288 : decode xMsc.2.1 288 = .ok (.putfield 166, 3) := dz_ok (by decide +kernel)
theorem qX_d291 : decode xMsc.2.1 291 = .ok (.return_, 1) := dz_ok (by decide +kernel)
theorem qX_L62 {p : Program} {l : Launch} {e : Env} {s : State} {m : MethodId} {below : List Frame} {meth : Method} {c : Code} {D : va_G} {U : State} {Y0 : xY} {av : List Value} (B : y_B vwCl x_Tb x_Nb xMsc p s m meth c D U Y0 av) {this tx : Nat} {ty at0 : Int32} {ft : Nat → Int32} (hav : av = [.ref this]) (ha0 : x_sl D 12 11 this s.heap = some (.int at0)) (ht0 : x_sl D 12 10 this s.heap = some (.int ty)) (hs0 : x_sl D 12 9 this s.heap = some (.ref tx)) (hcn : t_c ft) (hA0 : y_A tx 240 s.heap ft) (hty : 0 ≤ ty.toInt ∧ ty.toInt ≤ 240) (hat0 : 0 ≤ at0.toInt ∧ at0.toInt ≤ ty.toInt) {st : Int32} (hat : t_at ft ty.toInt.toNat at0.toInt.toNat = st.toInt.toNat) (hst : 0 ≤ st.toInt ∧ st.toInt < ty.toInt) (hlt : t_lo (ft st.toInt.toNat) = true)  :
    ∀ (n : Nat), ∀ (H : Heap) (Y : xY) (locs : List Loc) (ls : Array Slot) (at_ : Int32) (v : Int64), x_I D x_G x_Zs U (x_efs xMsc) Y0 s.heap Y H locs → Y this = some 17 → Y tx = some 52 → x_sl D 12 9 this H = some (.ref tx) → x_sl D 12 11 this H = some (.int at_) → x_sl D 12 10 this H = some (.int ty) → x_sl D 12 12 this H = some (.int st) → y_A tx 240 H ft → lv_has ls xMsc.2.2.1 [(1, .long v), (0, .ref this)] → (st.toInt ≤ at_.toInt ∧ at_.toInt ≤ ty.toInt) → (t_pass t_lo ft ty.toInt.toNat st.toInt.toNat = t_pass t_lo ft ty.toInt.toNat at_.toInt.toNat) → (∀ i : Nat, (i : Int) < at_.toInt - st.toInt → 97 ≤ (ft (st.toInt.toNat + i)).toInt ∧ (ft (st.toInt.toNat + i)).toInt ≤ 122) → (at_.toInt - st.toInt ≤ 6 → v.toInt = t_cod ft st.toInt.toNat (at_.toInt - st.toInt).toNat) → (241 - at_.toInt).toNat < n → W p l e (x_rm xMsc) s m av.toArray below meth c H locs 0 0 (y_QQ below D x_G x_Zs U xMsc z_PscX av Y0 s) (F0 m 62 ls []) := by
  have X := B.1
  have hx := X.1
  have hb := X.2.1
  have hY0 := B.2.2.2.2.1
  intro n
  induction n with
  | zero => intro _ _ _ _ _ _ _ _ _ _ _ _ _ _ _ _ _ _ _ h; exact absurd h (Nat.not_lt_zero _)
  | succ n ih =>
    intro H Y locs ls at_ v  hI hY_this hY_tx hs_tx hsi_at hsi_typed hsi_start hA_tx hl hat_ hps hall hv hn
    refine lv_aload_n hx hb qX_d62 rfl (lv_at hl 1 rfl) ?_
    refine lv_bipush hx hb qX_d63 (v := 97) (by decide) ?_
    have ec97 : (97 : Int32).toInt = 97 := by decide
    refine lv_bipush hx hb qX_d65 (v := 122) (by decide) ?_
    have ec122 : (122 : Int32).toInt = 122 := by decide
    refine y_call (z := (0, 189, 3, some 17, xM178)) (av := [.ref this, .int (97 : Int32), .int (122 : Int32)]) (rest := []) (y_cokV (n := 2) (ci := 12) X ym_isAt rfl rfl rfl (x_cons (x_bw74 15 rfl rfl) (x_cons (x_bw75 1 rfl rfl) (x_cons (x_at 46 (by decide +kernel) rfl) (x_cons (x_bw0 9 rfl rfl) x_nilm)))) (x_bw75 2 rfl rfl) (by decide +kernel) ⟨Nat.le_of_ble_eq_true rfl, Nat.le_of_ble_eq_true rfl⟩) hY0 hI rfl qX_d67 hl.1 (Nat.le_of_ble_eq_true rfl) (Nat.le_of_ble_eq_true rfl) (Nat.le_of_ble_eq_true rfl) (y_cons (y_cref hY_this rfl) (y_cons ⟨_, rfl, x_i32 _⟩ (y_cons ⟨_, rfl, x_i32 _⟩ y_nil))) rfl (y_recv rfl hY_this) trivial (y_sub_ef rfl) fun v Yn o Hn L ho hr ha hIn hx_ hE hP => ?_
    have hPi := hP _ _ _ _ _ _ _ rfl hsi_at hsi_typed hs_tx hA_tx
    replace hs_tx := y_Efld hE hY_this rfl (by decide) (by decide) hs_tx
    replace hsi_at := y_Efld hE hY_this rfl (by decide) (by decide) hsi_at
    replace hsi_typed := y_Efld hE hY_this rfl (by decide) (by decide) hsi_typed
    replace hsi_start := y_Efld hE hY_this rfl (by decide) (by decide) hsi_start
    replace hA_tx := hA_tx.kept (y_Earr hE hY_tx rfl (by decide))
    replace hY_this := y_ext hx_ hI.1 hY_this
    replace hY_tx := y_ext hx_ hI.1 hY_tx
    obtain ⟨r67, rfl, hin_r67, hout_r67⟩ := hPi
    clear ho hr ha hE hP hI hx_
    rename x_I _ _ _ _ _ _ _ _ _ _ => hI
    have ec0 : (0 : Int32).toInt = 0 := by decide
    refine lv_if_eq hx hb qX_d70 (tgt := 127) (by decide) (fun q70 => ?_) (fun q70 => ?_)
    · have q70_ : r67.toInt = (0 : Int32).toInt := by rw [q70]
      have hq_127 := hout_r67 q70
      have hsp : t_pass t_lo ft ty.toInt.toNat at_.toInt.toNat = at_.toInt.toNat := t_pass_stop (fun q9 => hq_127 ⟨by omega, by have := of_decide_eq_true q9.2; omega, by have := of_decide_eq_true q9.2; omega⟩)
      have htk : t_tok ft ty.toInt.toNat at0.toInt.toNat = (1, at_.toInt.toNat) := by rw [t_tok_word hat (by omega) hlt, ← t_pass_step (by omega) hlt, hps, hsp]
      have hln9 : t_len ft ty.toInt.toNat at0.toInt.toNat = (at_.toInt - st.toInt).toNat := by unfold t_len; rw [htk, hat]; show at_.toInt.toNat - st.toInt.toNat = _; omega
      refine lv_aload_n hx hb qX_d127 rfl (lv_at hl 1 rfl) ?_
      refine lv_aload_n hx hb qX_d128 rfl (lv_at hl 1 rfl) ?_
      refine y_getf X (fl196 X.2.2.2.2.1) hI.1 hY_this rfl hsi_at qX_d129 ?_
      refine lv_aload_n hx hb qX_d132 rfl (lv_at hl 1 rfl) ?_
      refine y_getf X (fl_qX_240 X.2.2.2.2.1) hI.1 hY_this rfl hsi_start qX_d133 ?_
      refine lv_isub hx hb qX_d136 ?_
      generalize hg_z136 : at_ - st = z136
      have h_z136 : z136.toInt = at_.toInt - st.toInt := by rw [← hg_z136]; have := y_sub (x := at_) (y := st) (by omega) (by omega); exact this
      refine lv_bipush hx hb qX_d137 (v := 6) (by decide) ?_
      have ec6 : (6 : Int32).toInt = 6 := by decide
      refine lv_icmp_le hx hb qX_d139 (tgt := 146) (by decide) (fun q139 => ?_) (fun q139 => ?_)
      · have q139_ : z136.toInt ≤ (6 : Int32).toInt := x_le32.mp q139
        refine lv_lload_n hx hb qX_d146 rfl (lv_at hl 0 rfl) ?_
        refine y_call (z := (1, 203, 1, none, xM179)) (av := [.long v]) (rest := [.ref this]) (y_cokS (n := 1) X ym_wordX (x_cons (x_bw75 5 rfl rfl) (x_cons (x_bw75 6 rfl rfl) (x_cons (x_bw0 9 rfl rfl) x_nilm))) (x_bw75 7 rfl rfl) (by decide +kernel) ⟨Nat.le_of_ble_eq_true rfl, Nat.le_of_ble_eq_true rfl⟩) hY0 hI rfl qX_d147 hl.1 (Nat.le_of_ble_eq_true rfl) (Nat.le_of_ble_eq_true rfl) (Nat.le_of_ble_eq_true rfl) (y_cons ⟨_, rfl, x_i64 _⟩ y_nil) rfl (y_norecv rfl) trivial (y_sub_ef rfl) fun v Yn o Hn L ho hr ha hIn hx_ hE hP => ?_
        have hPw := hP _ rfl
        replace hs_tx := y_Efld hE hY_this rfl (by decide) (by decide) hs_tx
        replace hsi_at := y_Efld hE hY_this rfl (by decide) (by decide) hsi_at
        replace hsi_typed := y_Efld hE hY_this rfl (by decide) (by decide) hsi_typed
        replace hsi_start := y_Efld hE hY_this rfl (by decide) (by decide) hsi_start
        replace hA_tx := hA_tx.kept (y_Earr hE hY_tx rfl (by decide))
        replace hY_this := y_ext hx_ hI.1 hY_this
        replace hY_tx := y_ext hx_ hI.1 hY_tx
        obtain ⟨r147, rfl, hwR⟩ := hPw
        clear ho hr ha hE hP hI hx_
        rename x_I _ _ _ _ _ _ _ _ _ _ => hI
        refine y_putf X (fw_qX_241 X.2.2.2.2.1) hY0 hI hY_this rfl rfl ⟨_, rfl, x_i32 _⟩ (by decide +kernel) qX_d150 fun H sl hI ho hs hk => ?_
        replace hs_tx := hk _ _ (by decide +kernel) (by decide) hs_tx
        replace hsi_at := hk _ _ (by decide +kernel) (by decide) hsi_at
        replace hsi_typed := hk _ _ (by decide +kernel) (by decide) hsi_typed
        replace hsi_start := hk _ _ (by decide +kernel) (by decide) hsi_start
        replace hA_tx := hA_tx.kept (ho _ (y_ne hY_tx hY_this rfl))
        replace hs := hs
        have hs150 := hs
        obtain ⟨va9, hsi_value, -⟩ := y_fldI (k := 14) hI.1 hY_this rfl rfl
        rw [hv (by omega)] at hwR
        have hw9 := t_wR_item (fun i hi => hall i (by omega)) hwR
        subst hav
        exact y_return B hI rfl rfl List.mem_cons_self rfl (x_cs.mono B.2.2.2.2.2 (y_mon B hI)) (fun t' x' at' ty' ft' h1 h2 h3 h4 h5 h6 => by cases h1; cases h2.symm.trans ha0; cases h3.symm.trans ht0; cases h4.symm.trans hs0; cases t_uniq h6 hA0 h5 hcn; exact ⟨_, _, _, _, hsi_at, hsi_start, hs150, hsi_value, by rw [hat]; omega, by rw [htk]; omega, by unfold t_tk; rw [htk]; show r147.toInt = t_tc (t_it ft ty.toInt.toNat at0.toInt.toNat); unfold t_it; rw [hat, hln9]; exact hw9, (fun q9 => by rw [htk] at q9; exact absurd (show (1 : Nat) = 2 from q9) (by decide))⟩) (Nat.le_refl _) (Nat.le_refl _) qX_d153
      · have q139_ : (6 : Int32).toInt < z136.toInt := Int.not_le.mp fun q => q139 (x_le32.mpr q)
        refine lv_iconst hx hb qX_d142 (v := 1) (by decide) ?_
        have ec1 : (1 : Int32).toInt = 1 := by decide
        refine lv_goto hx hb qX_d143 (tgt := 150) (by decide) ?_
        refine y_putf X (fw_qX_241 X.2.2.2.2.1) hY0 hI hY_this rfl rfl ⟨_, rfl, x_i32 _⟩ (by decide +kernel) qX_d150 fun H sl hI ho hs hk => ?_
        replace hs_tx := hk _ _ (by decide +kernel) (by decide) hs_tx
        replace hsi_at := hk _ _ (by decide +kernel) (by decide) hsi_at
        replace hsi_typed := hk _ _ (by decide +kernel) (by decide) hsi_typed
        replace hsi_start := hk _ _ (by decide +kernel) (by decide) hsi_start
        replace hA_tx := hA_tx.kept (ho _ (y_ne hY_tx hY_this rfl))
        replace hs := hs
        have hs150 := hs
        obtain ⟨va9, hsi_value, -⟩ := y_fldI (k := 14) hI.1 hY_this rfl rfl
        subst hav
        exact y_return B hI rfl rfl List.mem_cons_self rfl (x_cs.mono B.2.2.2.2.2 (y_mon B hI)) (fun t' x' at' ty' ft' h1 h2 h3 h4 h5 h6 => by cases h1; cases h2.symm.trans ha0; cases h3.symm.trans ht0; cases h4.symm.trans hs0; cases t_uniq h6 hA0 h5 hcn; exact ⟨_, _, _, _, hsi_at, hsi_start, hs150, hsi_value, by rw [hat]; omega, by rw [htk]; omega, by unfold t_tk; rw [htk]; show (1 : Int32).toInt = t_tc (t_it ft ty.toInt.toNat at0.toInt.toNat); unfold t_it; rw [hat, hln9, t_item_long (by omega)]; decide, (fun q9 => by rw [htk] at q9; exact absurd (show (1 : Nat) = 2 from q9) (by decide))⟩) (Nat.le_refl _) (Nat.le_refl _) qX_d153
    · have q70_ : ¬ r67.toInt = (0 : Int32).toInt := fun q => q70 (Int32.toInt_inj.mp q)
      have hq_73 := hin_r67 q70
      refine lv_aload_n hx hb qX_d73 rfl (lv_at hl 1 rfl) ?_
      refine y_getf X (fl196 X.2.2.2.2.1) hI.1 hY_this rfl hsi_at qX_d74 ?_
      refine lv_aload_n hx hb qX_d77 rfl (lv_at hl 1 rfl) ?_
      refine y_getf X (fl_qX_240 X.2.2.2.2.1) hI.1 hY_this rfl hsi_start qX_d78 ?_
      refine lv_isub hx hb qX_d81 ?_
      generalize hg_z81 : at_ - st = z81
      have h_z81 : z81.toInt = at_.toInt - st.toInt := by rw [← hg_z81]; have := y_sub (x := at_) (y := st) (by omega) (by omega); exact this
      refine lv_bipush hx hb qX_d82 (v := 6) (by decide) ?_
      have ec6 : (6 : Int32).toInt = 6 := by decide
      refine lv_icmp_le hx hb qX_d84 (tgt := 91) (by decide) (fun q84 => ?_) (fun q84 => ?_)
      · have q84_ : z81.toInt ≤ (6 : Int32).toInt := x_le32.mp q84
        have hv9 := hv (by omega)
        have hvb := t_cod_b (t := ft) (s := st.toInt.toNat) (k := (at_.toInt - st.toInt).toNat) (by omega) (fun i hi => hall i (by omega))
        refine lv_ldc2 hx hb X.2.2.2.1 (v := 32) (X.2.2.2.2.1 _ (x_bw75 3 rfl rfl)) qX_d91 ?_
        have el32 : (32 : Int64).toInt = 32 := by decide
        refine lv_lload_n hx hb qX_d94 rfl (lv_at hl 0 rfl) ?_
        refine lv_lmul hx hb qX_d95 ?_
        generalize hg_z95 : (32 : Int64) * v = z95
        refine lv_aload_n hx hb qX_d96 rfl (lv_at hl 1 rfl) ?_
        refine y_getf X (fl195 X.2.2.2.2.1) hI.1 hY_this rfl hs_tx qX_d97 ?_
        refine lv_aload_n hx hb qX_d100 rfl (lv_at hl 1 rfl) ?_
        refine y_getf X (fl196 X.2.2.2.2.1) hI.1 hY_this rfl hsi_at qX_d101 ?_
        refine y_iald X hI.1 hY_tx rfl hA_tx (by omega) (by show _ < (240 : Int); omega) qX_d104 ?_
        obtain ⟨e104, hg_e104⟩ : ∃ e104 : Int32, ft at_.toInt.toNat = e104 := ⟨_, rfl⟩
        rw [hg_e104]
        obtain ⟨z105, hg_z105⟩ : ∃ z105 : Int64, e104.toInt64 = z105 := ⟨_, rfl⟩
        have h_z105 : z105.toInt = (e104).toInt := by rw [← hg_z105]; exact Int32.toInt_toInt64 _
        refine lv_i2l hx hb qX_d105 (v := z105) hg_z105 ?_
        refine lv_ladd hx hb qX_d106 ?_
        generalize hg_z106 : z95 + z105 = z106
        refine lv_ldc2 hx hb X.2.2.2.1 (v := 97) (X.2.2.2.2.1 _ (x_bw75 4 rfl rfl)) qX_d107 ?_
        have el97 : (97 : Int64).toInt = 97 := by decide
        refine lv_lsub hx hb qX_d110 ?_
        generalize hg_z110 : z106 - (97 : Int64) = z110
        refine lv_lconst hx hb qX_d111 (v := 1) (by decide) ?_
        have el1 : (1 : Int64).toInt = 1 := by decide
        refine lv_ladd hx hb qX_d112 ?_
        generalize hg_z112 : z110 + (1 : Int64) = z112
        have hl9 := z_l32 (v := v) (c := z105) (by omega) (by omega) (by rw [h_z105, ← hg_e104]; omega) (by rw [h_z105, ← hg_e104]; omega)
        rw [hg_z95, hg_z106, hg_z110, hg_z112, h_z105] at hl9
        refine lv_lstore_n hx hb qX_d113 rfl hl (by decide) (lv' := [(1, .long z112), (0, .ref this)]) rfl fun ls hl => ?_
        refine lv_aload_n hx hb qX_d114 rfl (lv_at hl 1 rfl) ?_
        refine lv_dup hx hb qX_d115 rfl ?_
        refine y_getf X (fl196 X.2.2.2.2.1) hI.1 hY_this rfl hsi_at qX_d116 ?_
        refine lv_iconst hx hb qX_d119 (v := 1) (by decide) ?_
        have ec1 : (1 : Int32).toInt = 1 := by decide
        refine lv_iadd hx hb qX_d120 ?_
        generalize hg_z120 : at_ + (1 : Int32) = z120
        have h_z120 : z120.toInt = at_.toInt + 1 := by rw [← hg_z120]; have := y_add (x := at_) (y := (1 : Int32)) (by rw [ec1]; omega) (by rw [ec1]; omega); rw [ec1] at this; exact this
        refine y_putf X (fw_rd_237s X.2.2.2.2.1) hY0 hI hY_this rfl rfl ⟨_, rfl, by show (0 : Int) ≤ _; omega, by show _ ≤ (240 : Int); omega⟩ (by decide +kernel) qX_d121 fun H sl hI ho hs hk => ?_
        replace hs_tx := hk _ _ (by decide +kernel) (by decide) hs_tx
        replace hsi_typed := hk _ _ (by decide +kernel) (by decide) hsi_typed
        replace hsi_start := hk _ _ (by decide +kernel) (by decide) hsi_start
        replace hA_tx := hA_tx.kept (ho _ (y_ne hY_tx hY_this rfl))
        replace hs := hs
        replace hsi_at := hs
        refine lv_goto hx hb qX_d124 (tgt := 62) (by decide) ?_
        exact ih _ _ _ _ _ _ hI hY_this hY_tx hs_tx hsi_at hsi_typed hsi_start hA_tx (lv_sub hl [0, 1] rfl) (by first | assumption | omega) (hps.trans ((t_pass_step (by omega) (decide_eq_true ⟨by omega, by omega⟩)).trans (by rw [show at_.toInt.toNat + 1 = z120.toInt.toNat by omega]))) (fun i hi => by by_cases ei : (i : Int) = at_.toInt - st.toInt; (rw [show st.toInt.toNat + i = at_.toInt.toNat by omega]; omega); exact hall i (by omega)) (fun q9 => by rw [show (z120.toInt - st.toInt).toNat = (at_.toInt - st.toInt).toNat + 1 by omega]; show _ = 32 * t_cod ft st.toInt.toNat (at_.toInt - st.toInt).toNat + (ft (st.toInt.toNat + (at_.toInt - st.toInt).toNat)).toInt - 96; rw [show st.toInt.toNat + (at_.toInt - st.toInt).toNat = at_.toInt.toNat by omega, hg_e104, ← hv9]; omega) (by omega)
      · have q84_ : (6 : Int32).toInt < z81.toInt := Int.not_le.mp fun q => q84 (x_le32.mpr q)
        refine lv_lconst hx hb qX_d87 (v := 0) (by decide) ?_
        have el0 : (0 : Int64).toInt = 0 := by decide
        refine lv_goto hx hb qX_d88 (tgt := 113) (by decide) ?_
        refine lv_lstore_n hx hb qX_d113 rfl hl (by decide) (lv' := [(1, .long (0 : Int64)), (0, .ref this)]) rfl fun ls hl => ?_
        refine lv_aload_n hx hb qX_d114 rfl (lv_at hl 1 rfl) ?_
        refine lv_dup hx hb qX_d115 rfl ?_
        refine y_getf X (fl196 X.2.2.2.2.1) hI.1 hY_this rfl hsi_at qX_d116 ?_
        refine lv_iconst hx hb qX_d119 (v := 1) (by decide) ?_
        have ec1 : (1 : Int32).toInt = 1 := by decide
        refine lv_iadd hx hb qX_d120 ?_
        generalize hg_z120 : at_ + (1 : Int32) = z120
        have h_z120 : z120.toInt = at_.toInt + 1 := by rw [← hg_z120]; have := y_add (x := at_) (y := (1 : Int32)) (by rw [ec1]; omega) (by rw [ec1]; omega); rw [ec1] at this; exact this
        refine y_putf X (fw_rd_237s X.2.2.2.2.1) hY0 hI hY_this rfl rfl ⟨_, rfl, by show (0 : Int) ≤ _; omega, by show _ ≤ (240 : Int); omega⟩ (by decide +kernel) qX_d121 fun H sl hI ho hs hk => ?_
        replace hs_tx := hk _ _ (by decide +kernel) (by decide) hs_tx
        replace hsi_typed := hk _ _ (by decide +kernel) (by decide) hsi_typed
        replace hsi_start := hk _ _ (by decide +kernel) (by decide) hsi_start
        replace hA_tx := hA_tx.kept (ho _ (y_ne hY_tx hY_this rfl))
        replace hs := hs
        replace hsi_at := hs
        refine lv_goto hx hb qX_d124 (tgt := 62) (by decide) ?_
        exact ih _ _ _ _ _ _ hI hY_this hY_tx hs_tx hsi_at hsi_typed hsi_start hA_tx (lv_sub hl [0, 1] rfl) (by first | assumption | omega) (hps.trans ((t_pass_step (by omega) (decide_eq_true ⟨by omega, by omega⟩)).trans (by rw [show at_.toInt.toNat + 1 = z120.toInt.toNat by omega]))) (fun i hi => by by_cases ei : (i : Int) = at_.toInt - st.toInt; (rw [show st.toInt.toNat + i = at_.toInt.toNat by omega]; omega); exact hall i (by omega)) (fun q9 => absurd q9 (by omega)) (by omega)
theorem qX_L170 {p : Program} {l : Launch} {e : Env} {s : State} {m : MethodId} {below : List Frame} {meth : Method} {c : Code} {D : va_G} {U : State} {Y0 : xY} {av : List Value} (B : y_B vwCl x_Tb x_Nb xMsc p s m meth c D U Y0 av) {this tx : Nat} {ty at0 : Int32} {ft : Nat → Int32} (hav : av = [.ref this]) (ha0 : x_sl D 12 11 this s.heap = some (.int at0)) (ht0 : x_sl D 12 10 this s.heap = some (.int ty)) (hs0 : x_sl D 12 9 this s.heap = some (.ref tx)) (hcn : t_c ft) (hA0 : y_A tx 240 s.heap ft) (hty : 0 ≤ ty.toInt ∧ ty.toInt ≤ 240) (hat0 : 0 ≤ at0.toInt ∧ at0.toInt ≤ ty.toInt) {st : Int32} (hat : t_at ft ty.toInt.toNat at0.toInt.toNat = st.toInt.toNat) (hst : 0 ≤ st.toInt ∧ st.toInt < ty.toInt) (hlt : t_di (ft st.toInt.toNat) = true)  :
    ∀ (n : Nat), ∀ (H : Heap) (Y : xY) (locs : List Loc) (ls : Array Slot) (at_ : Int32) (va : Int32), x_I D x_G x_Zs U (x_efs xMsc) Y0 s.heap Y H locs → Y this = some 17 → Y tx = some 52 → x_sl D 12 9 this H = some (.ref tx) → x_sl D 12 11 this H = some (.int at_) → x_sl D 12 10 this H = some (.int ty) → x_sl D 12 12 this H = some (.int st) → x_sl D 12 14 this H = some (.int va) → y_A tx 240 H ft → lv_has ls xMsc.2.2.1 [(0, .ref this)] → (st.toInt ≤ at_.toInt ∧ at_.toInt ≤ ty.toInt) → (t_pass t_di ft ty.toInt.toNat st.toInt.toNat = t_pass t_di ft ty.toInt.toNat at_.toInt.toNat) → (at_.toInt - st.toInt ≤ 2 → va.toInt = t_num ft st.toInt.toNat (at_.toInt - st.toInt).toNat) → (0 ≤ va.toInt ∧ va.toInt ≤ 99 ∧ (at_.toInt = st.toInt → va.toInt = 0) ∧ (at_.toInt ≤ st.toInt + 1 → va.toInt ≤ 9)) → (241 - at_.toInt).toNat < n → W p l e (x_rm xMsc) s m av.toArray below meth c H locs 0 0 (y_QQ below D x_G x_Zs U xMsc z_PscX av Y0 s) (F0 m 170 ls []) := by
  have X := B.1
  have hx := X.1
  have hb := X.2.1
  have hY0 := B.2.2.2.2.1
  intro n
  induction n with
  | zero => intro _ _ _ _ _ _ _ _ _ _ _ _ _ _ _ _ _ _ _ _ h; exact absurd h (Nat.not_lt_zero _)
  | succ n ih =>
    intro H Y locs ls at_ va  hI hY_this hY_tx hs_tx hsi_at hsi_typed hsi_start hsi_value hA_tx hl hat_ hps hv hvb hn
    refine lv_aload_n hx hb qX_d170 rfl (lv_at hl 0 rfl) ?_
    refine lv_bipush hx hb qX_d171 (v := 48) (by decide) ?_
    have ec48 : (48 : Int32).toInt = 48 := by decide
    refine lv_bipush hx hb qX_d173 (v := 57) (by decide) ?_
    have ec57 : (57 : Int32).toInt = 57 := by decide
    refine y_call (z := (0, 189, 3, some 17, xM178)) (av := [.ref this, .int (48 : Int32), .int (57 : Int32)]) (rest := []) (y_cokV (n := 2) (ci := 12) X ym_isAt rfl rfl rfl (x_cons (x_bw74 15 rfl rfl) (x_cons (x_bw75 1 rfl rfl) (x_cons (x_at 46 (by decide +kernel) rfl) (x_cons (x_bw0 9 rfl rfl) x_nilm)))) (x_bw75 2 rfl rfl) (by decide +kernel) ⟨Nat.le_of_ble_eq_true rfl, Nat.le_of_ble_eq_true rfl⟩) hY0 hI rfl qX_d175 hl.1 (Nat.le_of_ble_eq_true rfl) (Nat.le_of_ble_eq_true rfl) (Nat.le_of_ble_eq_true rfl) (y_cons (y_cref hY_this rfl) (y_cons ⟨_, rfl, x_i32 _⟩ (y_cons ⟨_, rfl, x_i32 _⟩ y_nil))) rfl (y_recv rfl hY_this) trivial (y_sub_ef rfl) fun v Yn o Hn L ho hr ha hIn hx_ hE hP => ?_
    have hPi := hP _ _ _ _ _ _ _ rfl hsi_at hsi_typed hs_tx hA_tx
    replace hs_tx := y_Efld hE hY_this rfl (by decide) (by decide) hs_tx
    replace hsi_at := y_Efld hE hY_this rfl (by decide) (by decide) hsi_at
    replace hsi_typed := y_Efld hE hY_this rfl (by decide) (by decide) hsi_typed
    replace hsi_start := y_Efld hE hY_this rfl (by decide) (by decide) hsi_start
    replace hsi_value := y_Efld hE hY_this rfl (by decide) (by decide) hsi_value
    replace hA_tx := hA_tx.kept (y_Earr hE hY_tx rfl (by decide))
    replace hY_this := y_ext hx_ hI.1 hY_this
    replace hY_tx := y_ext hx_ hI.1 hY_tx
    obtain ⟨r175, rfl, hin_r175, hout_r175⟩ := hPi
    clear ho hr ha hE hP hI hx_
    rename x_I _ _ _ _ _ _ _ _ _ _ => hI
    have ec0 : (0 : Int32).toInt = 0 := by decide
    refine lv_if_eq hx hb qX_d178 (tgt := 238) (by decide) (fun q178 => ?_) (fun q178 => ?_)
    · have q178_ : r175.toInt = (0 : Int32).toInt := by rw [q178]
      have hq_238 := hout_r175 q178
      have hsp : t_pass t_di ft ty.toInt.toNat at_.toInt.toNat = at_.toInt.toNat := t_pass_stop (fun q9 => hq_238 ⟨by omega, by have := of_decide_eq_true q9.2; omega, by have := of_decide_eq_true q9.2; omega⟩)
      have htk := t_tok_num hat (by omega) hlt
      rw [← t_pass_step (by omega) hlt, hps, hsp] at htk
      refine lv_aload_n hx hb qX_d238 rfl (lv_at hl 0 rfl) ?_
      refine lv_aload_n hx hb qX_d239 rfl (lv_at hl 0 rfl) ?_
      refine y_getf X (fl196 X.2.2.2.2.1) hI.1 hY_this rfl hsi_at qX_d240 ?_
      refine lv_aload_n hx hb qX_d243 rfl (lv_at hl 0 rfl) ?_
      refine y_getf X (fl_qX_240 X.2.2.2.2.1) hI.1 hY_this rfl hsi_start qX_d244 ?_
      refine lv_isub hx hb qX_d247 ?_
      generalize hg_z247 : at_ - st = z247
      have h_z247 : z247.toInt = at_.toInt - st.toInt := by rw [← hg_z247]; have := y_sub (x := at_) (y := st) (by omega) (by omega); exact this
      refine lv_iconst hx hb qX_d248 (v := 2) (by decide) ?_
      have ec2 : (2 : Int32).toInt = 2 := by decide
      refine lv_icmp_le hx hb qX_d249 (tgt := 256) (by decide) (fun q249 => ?_) (fun q249 => ?_)
      · have q249_ : z247.toInt ≤ (2 : Int32).toInt := x_le32.mp q249
        refine lv_iconst hx hb qX_d256 (v := 2) (by decide) ?_
        refine y_putf X (fw_qX_241 X.2.2.2.2.1) hY0 hI hY_this rfl rfl ⟨_, rfl, x_i32 _⟩ (by decide +kernel) qX_d257 fun H sl hI ho hs hk => ?_
        replace hs_tx := hk _ _ (by decide +kernel) (by decide) hs_tx
        replace hsi_at := hk _ _ (by decide +kernel) (by decide) hsi_at
        replace hsi_typed := hk _ _ (by decide +kernel) (by decide) hsi_typed
        replace hsi_start := hk _ _ (by decide +kernel) (by decide) hsi_start
        replace hsi_value := hk _ _ (by decide +kernel) (by decide) hsi_value
        replace hA_tx := hA_tx.kept (ho _ (y_ne hY_tx hY_this rfl))
        replace hs := hs
        have hs257 := hs
        rw [if_pos (by omega)] at htk
        subst hav
        exact y_return B hI rfl rfl List.mem_cons_self rfl (x_cs.mono B.2.2.2.2.2 (y_mon B hI)) (fun t' x' at' ty' ft' h1 h2 h3 h4 h5 h6 => by cases h1; cases h2.symm.trans ha0; cases h3.symm.trans ht0; cases h4.symm.trans hs0; cases t_uniq h6 hA0 h5 hcn; exact ⟨_, _, _, _, hsi_at, hsi_start, hs257, hsi_value, by rw [hat]; omega, by rw [htk]; omega, by unfold t_tk; rw [htk]; rfl, (fun _ => by rw [hv (by omega)]; unfold t_v t_len; rw [htk, hat]; congr 1; omega)⟩) (Nat.le_refl _) (Nat.le_refl _) qX_d260
      · have q249_ : (2 : Int32).toInt < z247.toInt := Int.not_le.mp fun q => q249 (x_le32.mpr q)
        refine lv_iconst hx hb qX_d252 (v := 1) (by decide) ?_
        have ec1 : (1 : Int32).toInt = 1 := by decide
        refine lv_goto hx hb qX_d253 (tgt := 257) (by decide) ?_
        refine y_putf X (fw_qX_241 X.2.2.2.2.1) hY0 hI hY_this rfl rfl ⟨_, rfl, x_i32 _⟩ (by decide +kernel) qX_d257 fun H sl hI ho hs hk => ?_
        replace hs_tx := hk _ _ (by decide +kernel) (by decide) hs_tx
        replace hsi_at := hk _ _ (by decide +kernel) (by decide) hsi_at
        replace hsi_typed := hk _ _ (by decide +kernel) (by decide) hsi_typed
        replace hsi_start := hk _ _ (by decide +kernel) (by decide) hsi_start
        replace hsi_value := hk _ _ (by decide +kernel) (by decide) hsi_value
        replace hA_tx := hA_tx.kept (ho _ (y_ne hY_tx hY_this rfl))
        replace hs := hs
        have hs257 := hs
        rw [if_neg (by omega)] at htk
        subst hav
        exact y_return B hI rfl rfl List.mem_cons_self rfl (x_cs.mono B.2.2.2.2.2 (y_mon B hI)) (fun t' x' at' ty' ft' h1 h2 h3 h4 h5 h6 => by cases h1; cases h2.symm.trans ha0; cases h3.symm.trans ht0; cases h4.symm.trans hs0; cases t_uniq h6 hA0 h5 hcn; exact ⟨_, _, _, _, hsi_at, hsi_start, hs257, hsi_value, by rw [hat]; omega, by rw [htk]; omega, by unfold t_tk; rw [htk]; rfl, (fun q9 => by rw [htk] at q9; exact absurd (show (4 : Nat) = 2 from q9) (by decide))⟩) (Nat.le_refl _) (Nat.le_refl _) qX_d260
    · have q178_ : ¬ r175.toInt = (0 : Int32).toInt := fun q => q178 (Int32.toInt_inj.mp q)
      have hq_181 := hin_r175 q178
      refine lv_aload_n hx hb qX_d181 rfl (lv_at hl 0 rfl) ?_
      refine lv_aload_n hx hb qX_d182 rfl (lv_at hl 0 rfl) ?_
      refine y_getf X (fl196 X.2.2.2.2.1) hI.1 hY_this rfl hsi_at qX_d183 ?_
      refine lv_aload_n hx hb qX_d186 rfl (lv_at hl 0 rfl) ?_
      refine y_getf X (fl_qX_240 X.2.2.2.2.1) hI.1 hY_this rfl hsi_start qX_d187 ?_
      refine lv_isub hx hb qX_d190 ?_
      generalize hg_z190 : at_ - st = z190
      have h_z190 : z190.toInt = at_.toInt - st.toInt := by rw [← hg_z190]; have := y_sub (x := at_) (y := st) (by omega) (by omega); exact this
      refine lv_iconst hx hb qX_d191 (v := 2) (by decide) ?_
      have ec2 : (2 : Int32).toInt = 2 := by decide
      refine lv_icmp_ge hx hb qX_d192 (tgt := 218) (by decide) (fun q192 => ?_) (fun q192 => ?_)
      · have q192_ : (2 : Int32).toInt ≤ z190.toInt := x_le32.mp q192
        refine lv_aload_n hx hb qX_d218 rfl (lv_at hl 0 rfl) ?_
        refine y_getf X (fl_rd_236s X.2.2.2.2.1) hI.1 hY_this rfl hsi_value qX_d219 ?_
        refine y_putf X (fw_qX_242 X.2.2.2.2.1) hY0 hI hY_this rfl rfl ⟨_, rfl, x_i32 _⟩ (by decide +kernel) qX_d222 fun H sl hI ho hs hk => ?_
        replace hs_tx := hk _ _ (by decide +kernel) (by decide) hs_tx
        replace hsi_at := hk _ _ (by decide +kernel) (by decide) hsi_at
        replace hsi_typed := hk _ _ (by decide +kernel) (by decide) hsi_typed
        replace hsi_start := hk _ _ (by decide +kernel) (by decide) hsi_start
        replace hA_tx := hA_tx.kept (ho _ (y_ne hY_tx hY_this rfl))
        replace hs := hs
        replace hsi_value := hs
        refine lv_aload_n hx hb qX_d225 rfl (lv_at hl 0 rfl) ?_
        refine lv_dup hx hb qX_d226 rfl ?_
        refine y_getf X (fl196 X.2.2.2.2.1) hI.1 hY_this rfl hsi_at qX_d227 ?_
        refine lv_iconst hx hb qX_d230 (v := 1) (by decide) ?_
        have ec1 : (1 : Int32).toInt = 1 := by decide
        refine lv_iadd hx hb qX_d231 ?_
        generalize hg_z231 : at_ + (1 : Int32) = z231
        have h_z231 : z231.toInt = at_.toInt + 1 := by rw [← hg_z231]; have := y_add (x := at_) (y := (1 : Int32)) (by rw [ec1]; omega) (by rw [ec1]; omega); rw [ec1] at this; exact this
        refine y_putf X (fw_rd_237s X.2.2.2.2.1) hY0 hI hY_this rfl rfl ⟨_, rfl, by show (0 : Int) ≤ _; omega, by show _ ≤ (240 : Int); omega⟩ (by decide +kernel) qX_d232 fun H sl hI ho hs hk => ?_
        replace hs_tx := hk _ _ (by decide +kernel) (by decide) hs_tx
        replace hsi_typed := hk _ _ (by decide +kernel) (by decide) hsi_typed
        replace hsi_start := hk _ _ (by decide +kernel) (by decide) hsi_start
        replace hsi_value := hk _ _ (by decide +kernel) (by decide) hsi_value
        replace hA_tx := hA_tx.kept (ho _ (y_ne hY_tx hY_this rfl))
        replace hs := hs
        replace hsi_at := hs
        refine lv_goto hx hb qX_d235 (tgt := 170) (by decide) ?_
        exact ih _ _ _ _ _ _ hI hY_this hY_tx hs_tx hsi_at hsi_typed hsi_start hsi_value hA_tx (lv_sub hl [0] rfl) (by first | assumption | omega) (hps.trans ((t_pass_step (by omega) (decide_eq_true ⟨by omega, by omega⟩)).trans (by rw [show at_.toInt.toNat + 1 = z231.toInt.toNat by omega]))) (fun q9 => absurd q9 (by omega)) ⟨by omega, by omega, fun _ => by omega, fun _ => by omega⟩ (by omega)
      · have q192_ : z190.toInt < (2 : Int32).toInt := Int.not_le.mp fun q => q192 (x_le32.mpr q)
        refine lv_bipush hx hb qX_d195 (v := 10) (by decide) ?_
        have ec10 : (10 : Int32).toInt = 10 := by decide
        refine lv_aload_n hx hb qX_d197 rfl (lv_at hl 0 rfl) ?_
        refine y_getf X (fl_rd_236s X.2.2.2.2.1) hI.1 hY_this rfl hsi_value qX_d198 ?_
        refine lv_imul hx hb qX_d201 ?_
        generalize hg_z201 : (10 : Int32) * va = z201
        have h_z201 : z201.toInt = 10 * va.toInt := by rw [← hg_z201]; have := y_mul (x := (10 : Int32)) (y := va) (by rw [ec10]; omega) (by rw [ec10]; omega); rw [ec10] at this; exact this
        refine lv_aload_n hx hb qX_d202 rfl (lv_at hl 0 rfl) ?_
        refine y_getf X (fl195 X.2.2.2.2.1) hI.1 hY_this rfl hs_tx qX_d203 ?_
        refine lv_aload_n hx hb qX_d206 rfl (lv_at hl 0 rfl) ?_
        refine y_getf X (fl196 X.2.2.2.2.1) hI.1 hY_this rfl hsi_at qX_d207 ?_
        refine y_iald X hI.1 hY_tx rfl hA_tx (by omega) (by show _ < (240 : Int); omega) qX_d210 ?_
        obtain ⟨e210, hg_e210⟩ : ∃ e210 : Int32, ft at_.toInt.toNat = e210 := ⟨_, rfl⟩
        rw [hg_e210]
        have hd9 : 48 ≤ e210.toInt ∧ e210.toInt ≤ 57 := by rw [← hg_e210]; omega
        refine lv_iadd hx hb qX_d211 ?_
        generalize hg_z211 : z201 + e210 = z211
        have h_z211 : z211.toInt = z201.toInt + e210.toInt := by rw [← hg_z211]; have := y_add (x := z201) (y := e210) (by omega) (by omega); exact this
        refine lv_bipush hx hb qX_d212 (v := 48) (by decide) ?_
        refine lv_isub hx hb qX_d214 ?_
        generalize hg_z214 : z211 - (48 : Int32) = z214
        have h_z214 : z214.toInt = z211.toInt - 48 := by rw [← hg_z214]; have := y_sub (x := z211) (y := (48 : Int32)) (by rw [ec48]; omega) (by rw [ec48]; omega); rw [ec48] at this; exact this
        refine lv_goto hx hb qX_d215 (tgt := 222) (by decide) ?_
        refine y_putf X (fw_qX_242 X.2.2.2.2.1) hY0 hI hY_this rfl rfl ⟨_, rfl, x_i32 _⟩ (by decide +kernel) qX_d222 fun H sl hI ho hs hk => ?_
        replace hs_tx := hk _ _ (by decide +kernel) (by decide) hs_tx
        replace hsi_at := hk _ _ (by decide +kernel) (by decide) hsi_at
        replace hsi_typed := hk _ _ (by decide +kernel) (by decide) hsi_typed
        replace hsi_start := hk _ _ (by decide +kernel) (by decide) hsi_start
        replace hA_tx := hA_tx.kept (ho _ (y_ne hY_tx hY_this rfl))
        replace hs := hs
        replace hsi_value := hs
        refine lv_aload_n hx hb qX_d225 rfl (lv_at hl 0 rfl) ?_
        refine lv_dup hx hb qX_d226 rfl ?_
        refine y_getf X (fl196 X.2.2.2.2.1) hI.1 hY_this rfl hsi_at qX_d227 ?_
        refine lv_iconst hx hb qX_d230 (v := 1) (by decide) ?_
        have ec1 : (1 : Int32).toInt = 1 := by decide
        refine lv_iadd hx hb qX_d231 ?_
        generalize hg_z231 : at_ + (1 : Int32) = z231
        have h_z231 : z231.toInt = at_.toInt + 1 := by rw [← hg_z231]; have := y_add (x := at_) (y := (1 : Int32)) (by rw [ec1]; omega) (by rw [ec1]; omega); rw [ec1] at this; exact this
        refine y_putf X (fw_rd_237s X.2.2.2.2.1) hY0 hI hY_this rfl rfl ⟨_, rfl, by show (0 : Int) ≤ _; omega, by show _ ≤ (240 : Int); omega⟩ (by decide +kernel) qX_d232 fun H sl hI ho hs hk => ?_
        replace hs_tx := hk _ _ (by decide +kernel) (by decide) hs_tx
        replace hsi_typed := hk _ _ (by decide +kernel) (by decide) hsi_typed
        replace hsi_start := hk _ _ (by decide +kernel) (by decide) hsi_start
        replace hsi_value := hk _ _ (by decide +kernel) (by decide) hsi_value
        replace hA_tx := hA_tx.kept (ho _ (y_ne hY_tx hY_this rfl))
        replace hs := hs
        replace hsi_at := hs
        refine lv_goto hx hb qX_d235 (tgt := 170) (by decide) ?_
        exact ih _ _ _ _ _ _ hI hY_this hY_tx hs_tx hsi_at hsi_typed hsi_start hsi_value hA_tx (lv_sub hl [0] rfl) (by first | assumption | omega) (hps.trans ((t_pass_step (by omega) (decide_eq_true ⟨by omega, by omega⟩)).trans (by rw [show at_.toInt.toNat + 1 = z231.toInt.toNat by omega]))) (fun q9 => by rw [show (z231.toInt - st.toInt).toNat = (at_.toInt - st.toInt).toNat + 1 by omega]; show _ = 10 * t_num ft st.toInt.toNat (at_.toInt - st.toInt).toNat + (ft (st.toInt.toNat + (at_.toInt - st.toInt).toNat)).toInt - 48; rw [show st.toInt.toNat + (at_.toInt - st.toInt).toNat = at_.toInt.toNat by omega, hg_e210, ← hv (by omega)]; omega) ⟨by omega, by omega, fun _ => by omega, fun _ => by omega⟩ (by omega)
theorem qX_L0 {p : Program} {l : Launch} {e : Env} {s : State} {m : MethodId} {below : List Frame} {meth : Method} {c : Code} {D : va_G} {U : State} {Y0 : xY} {av : List Value} (B : y_B vwCl x_Tb x_Nb xMsc p s m meth c D U Y0 av) {this tx : Nat} {ty at0 : Int32} {ft : Nat → Int32} (hav : av = [.ref this]) (ha0 : x_sl D 12 11 this s.heap = some (.int at0)) (ht0 : x_sl D 12 10 this s.heap = some (.int ty)) (hs0 : x_sl D 12 9 this s.heap = some (.ref tx)) (hcn : t_c ft) (hA0 : y_A tx 240 s.heap ft) (hty : 0 ≤ ty.toInt ∧ ty.toInt ≤ 240) (hat0 : 0 ≤ at0.toInt ∧ at0.toInt ≤ ty.toInt)  :
    ∀ (n : Nat), ∀ (H : Heap) (Y : xY) (locs : List Loc) (ls : Array Slot) (at_ : Int32), x_I D x_G x_Zs U (x_efs xMsc) Y0 s.heap Y H locs → Y this = some 17 → Y tx = some 52 → x_sl D 12 9 this H = some (.ref tx) → x_sl D 12 11 this H = some (.int at_) → x_sl D 12 10 this H = some (.int ty) → y_A tx 240 H ft → lv_has ls xMsc.2.2.1 [(0, .ref this)] → (at0.toInt ≤ at_.toInt ∧ at_.toInt ≤ ty.toInt) → (t_pass t_bl ft ty.toInt.toNat at0.toInt.toNat = t_pass t_bl ft ty.toInt.toNat at_.toInt.toNat) → (241 - at_.toInt).toNat < n → W p l e (x_rm xMsc) s m av.toArray below meth c H locs 0 0 (y_QQ below D x_G x_Zs U xMsc z_PscX av Y0 s) (F0 m 0 ls []) := by
  have X := B.1
  have hx := X.1
  have hb := X.2.1
  have hY0 := B.2.2.2.2.1
  intro n
  induction n with
  | zero => intro _ _ _ _ _ _ _ _ _ _ _ _ _ _ _ h; exact absurd h (Nat.not_lt_zero _)
  | succ n ih =>
    intro H Y locs ls at_  hI hY_this hY_tx hs_tx hsi_at hsi_typed hA_tx hl hat_ hps hn
    refine lv_aload_n hx hb qX_d0 rfl (lv_at hl 0 rfl) ?_
    refine lv_bipush hx hb qX_d1 (v := 32) (by decide) ?_
    have ec32 : (32 : Int32).toInt = 32 := by decide
    refine lv_bipush hx hb qX_d3 (v := 32) (by decide) ?_
    refine y_call (z := (0, 189, 3, some 17, xM178)) (av := [.ref this, .int (32 : Int32), .int (32 : Int32)]) (rest := []) (y_cokV (n := 2) (ci := 12) X ym_isAt rfl rfl rfl (x_cons (x_bw74 15 rfl rfl) (x_cons (x_bw75 1 rfl rfl) (x_cons (x_at 46 (by decide +kernel) rfl) (x_cons (x_bw0 9 rfl rfl) x_nilm)))) (x_bw75 2 rfl rfl) (by decide +kernel) ⟨Nat.le_of_ble_eq_true rfl, Nat.le_of_ble_eq_true rfl⟩) hY0 hI rfl qX_d5 hl.1 (Nat.le_of_ble_eq_true rfl) (Nat.le_of_ble_eq_true rfl) (Nat.le_of_ble_eq_true rfl) (y_cons (y_cref hY_this rfl) (y_cons ⟨_, rfl, x_i32 _⟩ (y_cons ⟨_, rfl, x_i32 _⟩ y_nil))) rfl (y_recv rfl hY_this) trivial (y_sub_ef rfl) fun v Yn o Hn L ho hr ha hIn hx_ hE hP => ?_
    have hPi := hP _ _ _ _ _ _ _ rfl hsi_at hsi_typed hs_tx hA_tx
    replace hs_tx := y_Efld hE hY_this rfl (by decide) (by decide) hs_tx
    replace hsi_at := y_Efld hE hY_this rfl (by decide) (by decide) hsi_at
    replace hsi_typed := y_Efld hE hY_this rfl (by decide) (by decide) hsi_typed
    replace hA_tx := hA_tx.kept (y_Earr hE hY_tx rfl (by decide))
    replace hY_this := y_ext hx_ hI.1 hY_this
    replace hY_tx := y_ext hx_ hI.1 hY_tx
    obtain ⟨r5, rfl, hin_r5, hout_r5⟩ := hPi
    clear ho hr ha hE hP hI hx_
    rename x_I _ _ _ _ _ _ _ _ _ _ => hI
    have ec0 : (0 : Int32).toInt = 0 := by decide
    refine lv_if_eq hx hb qX_d8 (tgt := 24) (by decide) (fun q8 => ?_) (fun q8 => ?_)
    · have q8_ : r5.toInt = (0 : Int32).toInt := by rw [q8]
      have hq_24 := hout_r5 q8
      have hat : t_at ft ty.toInt.toNat at0.toInt.toNat = at_.toInt.toNat := hps.trans (t_pass_stop (fun q9 => hq_24 ⟨by omega, by have := of_decide_eq_true q9.2; omega, by have := of_decide_eq_true q9.2; omega⟩))
      refine lv_aload_n hx hb qX_d24 rfl (lv_at hl 0 rfl) ?_
      refine lv_aload_n hx hb qX_d25 rfl (lv_at hl 0 rfl) ?_
      refine y_getf X (fl196 X.2.2.2.2.1) hI.1 hY_this rfl hsi_at qX_d26 ?_
      refine y_putf X (fw_qX_243 X.2.2.2.2.1) hY0 hI hY_this rfl rfl ⟨_, rfl, x_i32 _⟩ (by decide +kernel) qX_d29 fun H sl hI ho hs hk => ?_
      replace hs_tx := hk _ _ (by decide +kernel) (by decide) hs_tx
      replace hsi_at := hk _ _ (by decide +kernel) (by decide) hsi_at
      replace hsi_typed := hk _ _ (by decide +kernel) (by decide) hsi_typed
      replace hA_tx := hA_tx.kept (ho _ (y_ne hY_tx hY_this rfl))
      replace hs := hs
      have hs29 := hs
      refine lv_aload_n hx hb qX_d32 rfl (lv_at hl 0 rfl) ?_
      refine y_getf X (fl196 X.2.2.2.2.1) hI.1 hY_this rfl hsi_at qX_d33 ?_
      refine lv_aload_n hx hb qX_d36 rfl (lv_at hl 0 rfl) ?_
      refine y_getf X (fl193 X.2.2.2.2.1) hI.1 hY_this rfl hsi_typed qX_d37 ?_
      refine lv_icmp_ne hx hb qX_d40 (tgt := 49) (by decide) (fun q40 => ?_) (fun q40 => ?_)
      · have q40_ : ¬ at_.toInt = ty.toInt := fun q => q40 (Int32.toInt_inj.mp q)
        refine lv_aload_n hx hb qX_d49 rfl (lv_at hl 0 rfl) ?_
        refine lv_bipush hx hb qX_d50 (v := 97) (by decide) ?_
        have ec97 : (97 : Int32).toInt = 97 := by decide
        refine lv_bipush hx hb qX_d52 (v := 122) (by decide) ?_
        have ec122 : (122 : Int32).toInt = 122 := by decide
        refine y_call (z := (0, 189, 3, some 17, xM178)) (av := [.ref this, .int (97 : Int32), .int (122 : Int32)]) (rest := []) (y_cokV (n := 2) (ci := 12) X ym_isAt rfl rfl rfl (x_cons (x_bw74 15 rfl rfl) (x_cons (x_bw75 1 rfl rfl) (x_cons (x_at 46 (by decide +kernel) rfl) (x_cons (x_bw0 9 rfl rfl) x_nilm)))) (x_bw75 2 rfl rfl) (by decide +kernel) ⟨Nat.le_of_ble_eq_true rfl, Nat.le_of_ble_eq_true rfl⟩) hY0 hI rfl qX_d54 hl.1 (Nat.le_of_ble_eq_true rfl) (Nat.le_of_ble_eq_true rfl) (Nat.le_of_ble_eq_true rfl) (y_cons (y_cref hY_this rfl) (y_cons ⟨_, rfl, x_i32 _⟩ (y_cons ⟨_, rfl, x_i32 _⟩ y_nil))) rfl (y_recv rfl hY_this) trivial (y_sub_ef rfl) fun v Yn o Hn L ho hr ha hIn hx_ hE hP => ?_
        have hPi := hP _ _ _ _ _ _ _ rfl hsi_at hsi_typed hs_tx hA_tx
        replace hs_tx := y_Efld hE hY_this rfl (by decide) (by decide) hs_tx
        replace hsi_at := y_Efld hE hY_this rfl (by decide) (by decide) hsi_at
        replace hsi_typed := y_Efld hE hY_this rfl (by decide) (by decide) hsi_typed
        replace hs29 := y_Efld hE hY_this rfl (by decide) (by decide) hs29
        replace hA_tx := hA_tx.kept (y_Earr hE hY_tx rfl (by decide))
        replace hY_this := y_ext hx_ hI.1 hY_this
        replace hY_tx := y_ext hx_ hI.1 hY_tx
        obtain ⟨r54, rfl, hin_r54, hout_r54⟩ := hPi
        clear ho hr ha hE hP hI hx_
        rename x_I _ _ _ _ _ _ _ _ _ _ => hI
        refine lv_if_eq hx hb qX_d57 (tgt := 154) (by decide) (fun q57 => ?_) (fun q57 => ?_)
        · have q57_ : r54.toInt = (0 : Int32).toInt := by rw [q57]
          refine lv_aload_n hx hb qX_d154 rfl (lv_at hl 0 rfl) ?_
          refine lv_bipush hx hb qX_d155 (v := 48) (by decide) ?_
          have ec48 : (48 : Int32).toInt = 48 := by decide
          refine lv_bipush hx hb qX_d157 (v := 57) (by decide) ?_
          have ec57 : (57 : Int32).toInt = 57 := by decide
          refine y_call (z := (0, 189, 3, some 17, xM178)) (av := [.ref this, .int (48 : Int32), .int (57 : Int32)]) (rest := []) (y_cokV (n := 2) (ci := 12) X ym_isAt rfl rfl rfl (x_cons (x_bw74 15 rfl rfl) (x_cons (x_bw75 1 rfl rfl) (x_cons (x_at 46 (by decide +kernel) rfl) (x_cons (x_bw0 9 rfl rfl) x_nilm)))) (x_bw75 2 rfl rfl) (by decide +kernel) ⟨Nat.le_of_ble_eq_true rfl, Nat.le_of_ble_eq_true rfl⟩) hY0 hI rfl qX_d159 hl.1 (Nat.le_of_ble_eq_true rfl) (Nat.le_of_ble_eq_true rfl) (Nat.le_of_ble_eq_true rfl) (y_cons (y_cref hY_this rfl) (y_cons ⟨_, rfl, x_i32 _⟩ (y_cons ⟨_, rfl, x_i32 _⟩ y_nil))) rfl (y_recv rfl hY_this) trivial (y_sub_ef rfl) fun v Yn o Hn L ho hr ha hIn hx_ hE hP => ?_
          have hPi := hP _ _ _ _ _ _ _ rfl hsi_at hsi_typed hs_tx hA_tx
          replace hs_tx := y_Efld hE hY_this rfl (by decide) (by decide) hs_tx
          replace hsi_at := y_Efld hE hY_this rfl (by decide) (by decide) hsi_at
          replace hsi_typed := y_Efld hE hY_this rfl (by decide) (by decide) hsi_typed
          replace hs29 := y_Efld hE hY_this rfl (by decide) (by decide) hs29
          replace hA_tx := hA_tx.kept (y_Earr hE hY_tx rfl (by decide))
          replace hY_this := y_ext hx_ hI.1 hY_this
          replace hY_tx := y_ext hx_ hI.1 hY_tx
          obtain ⟨r159, rfl, hin_r159, hout_r159⟩ := hPi
          clear ho hr ha hE hP hI hx_
          rename x_I _ _ _ _ _ _ _ _ _ _ => hI
          refine lv_if_eq hx hb qX_d162 (tgt := 261) (by decide) (fun q162 => ?_) (fun q162 => ?_)
          · have q162_ : r159.toInt = (0 : Int32).toInt := by rw [q162]
            refine lv_aload_n hx hb qX_d261 rfl (lv_at hl 0 rfl) ?_
            refine lv_aload_n hx hb qX_d262 rfl (lv_at hl 0 rfl) ?_
            refine lv_bipush hx hb qX_d263 (v := 59) (by decide) ?_
            have ec59 : (59 : Int32).toInt = 59 := by decide
            refine lv_bipush hx hb qX_d265 (v := 59) (by decide) ?_
            refine y_call (z := (0, 189, 3, some 17, xM178)) (av := [.ref this, .int (59 : Int32), .int (59 : Int32)]) (rest := [.ref this]) (y_cokV (n := 2) (ci := 12) X ym_isAt rfl rfl rfl (x_cons (x_bw74 15 rfl rfl) (x_cons (x_bw75 1 rfl rfl) (x_cons (x_at 46 (by decide +kernel) rfl) (x_cons (x_bw0 9 rfl rfl) x_nilm)))) (x_bw75 2 rfl rfl) (by decide +kernel) ⟨Nat.le_of_ble_eq_true rfl, Nat.le_of_ble_eq_true rfl⟩) hY0 hI rfl qX_d267 hl.1 (Nat.le_of_ble_eq_true rfl) (Nat.le_of_ble_eq_true rfl) (Nat.le_of_ble_eq_true rfl) (y_cons (y_cref hY_this rfl) (y_cons ⟨_, rfl, x_i32 _⟩ (y_cons ⟨_, rfl, x_i32 _⟩ y_nil))) rfl (y_recv rfl hY_this) trivial (y_sub_ef rfl) fun v Yn o Hn L ho hr ha hIn hx_ hE hP => ?_
            have hPi := hP _ _ _ _ _ _ _ rfl hsi_at hsi_typed hs_tx hA_tx
            replace hs_tx := y_Efld hE hY_this rfl (by decide) (by decide) hs_tx
            replace hsi_at := y_Efld hE hY_this rfl (by decide) (by decide) hsi_at
            replace hsi_typed := y_Efld hE hY_this rfl (by decide) (by decide) hsi_typed
            replace hs29 := y_Efld hE hY_this rfl (by decide) (by decide) hs29
            replace hA_tx := hA_tx.kept (y_Earr hE hY_tx rfl (by decide))
            replace hY_this := y_ext hx_ hI.1 hY_this
            replace hY_tx := y_ext hx_ hI.1 hY_tx
            obtain ⟨r267, rfl, hin_r267, hout_r267⟩ := hPi
            clear ho hr ha hE hP hI hx_
            rename x_I _ _ _ _ _ _ _ _ _ _ => hI
            refine lv_if_eq hx hb qX_d270 (tgt := 277) (by decide) (fun q270 => ?_) (fun q270 => ?_)
            · have q270_ : r267.toInt = (0 : Int32).toInt := by rw [q270]
              refine lv_iconst hx hb qX_d277 (v := 1) (by decide) ?_
              have ec1 : (1 : Int32).toInt = 1 := by decide
              refine y_putf X (fw_qX_241 X.2.2.2.2.1) hY0 hI hY_this rfl rfl ⟨_, rfl, x_i32 _⟩ (by decide +kernel) qX_d278 fun H sl hI ho hs hk => ?_
              replace hs_tx := hk _ _ (by decide +kernel) (by decide) hs_tx
              replace hsi_at := hk _ _ (by decide +kernel) (by decide) hsi_at
              replace hsi_typed := hk _ _ (by decide +kernel) (by decide) hsi_typed
              replace hs29 := hk _ _ (by decide +kernel) (by decide) hs29
              replace hA_tx := hA_tx.kept (ho _ (y_ne hY_tx hY_this rfl))
              replace hs := hs
              have hs278 := hs
              refine lv_aload_n hx hb qX_d281 rfl (lv_at hl 0 rfl) ?_
              refine lv_dup hx hb qX_d282 rfl ?_
              refine y_getf X (fl196 X.2.2.2.2.1) hI.1 hY_this rfl hsi_at qX_d283 ?_
              refine lv_iconst hx hb qX_d286 (v := 1) (by decide) ?_
              refine lv_iadd hx hb qX_d287 ?_
              generalize hg_z287 : at_ + (1 : Int32) = z287
              have h_z287 : z287.toInt = at_.toInt + 1 := by rw [← hg_z287]; have := y_add (x := at_) (y := (1 : Int32)) (by rw [ec1]; omega) (by rw [ec1]; omega); rw [ec1] at this; exact this
              refine y_putf X (fw_rd_237s X.2.2.2.2.1) hY0 hI hY_this rfl rfl ⟨_, rfl, by show (0 : Int) ≤ _; omega, by show _ ≤ (240 : Int); omega⟩ (by decide +kernel) qX_d288 fun H sl hI ho hs hk => ?_
              replace hs_tx := hk _ _ (by decide +kernel) (by decide) hs_tx
              replace hsi_typed := hk _ _ (by decide +kernel) (by decide) hsi_typed
              replace hs29 := hk _ _ (by decide +kernel) (by decide) hs29
              replace hs278 := hk _ _ (by decide +kernel) (by decide) hs278
              replace hA_tx := hA_tx.kept (ho _ (y_ne hY_tx hY_this rfl))
              replace hs := hs
              replace hsi_at := hs
              obtain ⟨va9, hsi_value, -⟩ := y_fldI (k := 14) hI.1 hY_this rfl rfl
              have hq9 := hout_r267 q270
              have hq8 := hout_r159 q162
              have hq7 := hout_r54 q57
              have htk := t_tok_odd hat (by omega) (fun q9 => hq9 ⟨by omega, by omega, by omega⟩) (fun q9 => hq7 ⟨by omega, by have := of_decide_eq_true q9; omega, by have := of_decide_eq_true q9; omega⟩) (fun q9 => hq8 ⟨by omega, by have := of_decide_eq_true q9; omega, by have := of_decide_eq_true q9; omega⟩)
              rw [show at_.toInt.toNat + 1 = z287.toInt.toNat by omega] at htk
              subst hav
              exact y_return B hI rfl rfl List.mem_cons_self rfl (x_cs.mono B.2.2.2.2.2 (y_mon B hI)) (fun t' x' at' ty' ft' h1 h2 h3 h4 h5 h6 => by cases h1; cases h2.symm.trans ha0; cases h3.symm.trans ht0; cases h4.symm.trans hs0; cases t_uniq h6 hA0 h5 hcn; exact ⟨_, _, _, _, hsi_at, hs29, hs278, hsi_value, by rw [hat]; omega, by rw [htk]; omega, by unfold t_tk; rw [htk]; rfl, (fun q9 => by rw [htk] at q9; exact absurd (show (4 : Nat) = 2 from q9) (by decide))⟩) (Nat.le_refl _) (Nat.le_refl _) qX_d291
            · have q270_ : ¬ r267.toInt = (0 : Int32).toInt := fun q => q270 (Int32.toInt_inj.mp q)
              refine lv_iconst hx hb qX_d273 (v := 3) (by decide) ?_
              have ec3 : (3 : Int32).toInt = 3 := by decide
              refine lv_goto hx hb qX_d274 (tgt := 278) (by decide) ?_
              refine y_putf X (fw_qX_241 X.2.2.2.2.1) hY0 hI hY_this rfl rfl ⟨_, rfl, x_i32 _⟩ (by decide +kernel) qX_d278 fun H sl hI ho hs hk => ?_
              replace hs_tx := hk _ _ (by decide +kernel) (by decide) hs_tx
              replace hsi_at := hk _ _ (by decide +kernel) (by decide) hsi_at
              replace hsi_typed := hk _ _ (by decide +kernel) (by decide) hsi_typed
              replace hs29 := hk _ _ (by decide +kernel) (by decide) hs29
              replace hA_tx := hA_tx.kept (ho _ (y_ne hY_tx hY_this rfl))
              replace hs := hs
              have hs278 := hs
              refine lv_aload_n hx hb qX_d281 rfl (lv_at hl 0 rfl) ?_
              refine lv_dup hx hb qX_d282 rfl ?_
              refine y_getf X (fl196 X.2.2.2.2.1) hI.1 hY_this rfl hsi_at qX_d283 ?_
              refine lv_iconst hx hb qX_d286 (v := 1) (by decide) ?_
              have ec1 : (1 : Int32).toInt = 1 := by decide
              refine lv_iadd hx hb qX_d287 ?_
              generalize hg_z287 : at_ + (1 : Int32) = z287
              have h_z287 : z287.toInt = at_.toInt + 1 := by rw [← hg_z287]; have := y_add (x := at_) (y := (1 : Int32)) (by rw [ec1]; omega) (by rw [ec1]; omega); rw [ec1] at this; exact this
              refine y_putf X (fw_rd_237s X.2.2.2.2.1) hY0 hI hY_this rfl rfl ⟨_, rfl, by show (0 : Int) ≤ _; omega, by show _ ≤ (240 : Int); omega⟩ (by decide +kernel) qX_d288 fun H sl hI ho hs hk => ?_
              replace hs_tx := hk _ _ (by decide +kernel) (by decide) hs_tx
              replace hsi_typed := hk _ _ (by decide +kernel) (by decide) hsi_typed
              replace hs29 := hk _ _ (by decide +kernel) (by decide) hs29
              replace hs278 := hk _ _ (by decide +kernel) (by decide) hs278
              replace hA_tx := hA_tx.kept (ho _ (y_ne hY_tx hY_this rfl))
              replace hs := hs
              replace hsi_at := hs
              obtain ⟨va9, hsi_value, -⟩ := y_fldI (k := 14) hI.1 hY_this rfl rfl
              have hq9 := hin_r267 q270
              have htk := t_tok_stop hat (by omega) (by omega)
              rw [show at_.toInt.toNat + 1 = z287.toInt.toNat by omega] at htk
              subst hav
              exact y_return B hI rfl rfl List.mem_cons_self rfl (x_cs.mono B.2.2.2.2.2 (y_mon B hI)) (fun t' x' at' ty' ft' h1 h2 h3 h4 h5 h6 => by cases h1; cases h2.symm.trans ha0; cases h3.symm.trans ht0; cases h4.symm.trans hs0; cases t_uniq h6 hA0 h5 hcn; exact ⟨_, _, _, _, hsi_at, hs29, hs278, hsi_value, by rw [hat]; omega, by rw [htk]; omega, by unfold t_tk; rw [htk]; rfl, (fun q9 => by rw [htk] at q9; exact absurd (show (3 : Nat) = 2 from q9) (by decide))⟩) (Nat.le_refl _) (Nat.le_refl _) qX_d291
          · have q162_ : ¬ r159.toInt = (0 : Int32).toInt := fun q => q162 (Int32.toInt_inj.mp q)
            have hq_165 := hin_r159 q162
            refine lv_aload_n hx hb qX_d165 rfl (lv_at hl 0 rfl) ?_
            refine lv_iconst hx hb qX_d166 (v := 0) (by decide) ?_
            refine y_putf X (fw_qX_242 X.2.2.2.2.1) hY0 hI hY_this rfl rfl ⟨_, rfl, x_i32 _⟩ (by decide +kernel) qX_d167 fun H sl hI ho hs hk => ?_
            replace hs_tx := hk _ _ (by decide +kernel) (by decide) hs_tx
            replace hsi_at := hk _ _ (by decide +kernel) (by decide) hsi_at
            replace hsi_typed := hk _ _ (by decide +kernel) (by decide) hsi_typed
            replace hs29 := hk _ _ (by decide +kernel) (by decide) hs29
            replace hA_tx := hA_tx.kept (ho _ (y_ne hY_tx hY_this rfl))
            replace hs := hs
            have hs167 := hs
            have hlt : t_di (ft at_.toInt.toNat) = true := decide_eq_true ⟨by omega, by omega⟩
            have hsi_start := hs29
            exact qX_L170 B hav ha0 ht0 hs0 hcn hA0 hty hat0 (st := at_) hat (by omega) hlt 242 _ _ _ _ _ _ hI hY_this hY_tx hs_tx hsi_at hsi_typed hsi_start hs167 hA_tx (lv_sub hl [0] rfl) (by omega) rfl (fun _ => by rw [show (at_.toInt - at_.toInt).toNat = 0 by omega]; rfl) ⟨by decide, by decide, fun _ => by decide, fun _ => by decide⟩ (by omega)
        · have q57_ : ¬ r54.toInt = (0 : Int32).toInt := fun q => q57 (Int32.toInt_inj.mp q)
          have hq_60 := hin_r54 q57
          refine lv_lconst hx hb qX_d60 (v := 0) (by decide) ?_
          have el0 : (0 : Int64).toInt = 0 := by decide
          refine lv_lstore_n hx hb qX_d61 rfl hl (by decide) (lv' := [(1, .long (0 : Int64)), (0, .ref this)]) rfl fun ls hl => ?_
          have hlt : t_lo (ft at_.toInt.toNat) = true := decide_eq_true ⟨by omega, by omega⟩
          have hsi_start := hs29
          exact qX_L62 B hav ha0 ht0 hs0 hcn hA0 hty hat0 (st := at_) hat (by omega) hlt 242 _ _ _ _ _ _ hI hY_this hY_tx hs_tx hsi_at hsi_typed hsi_start hA_tx (lv_sub hl [0, 1] rfl) (by omega) rfl (fun i hi => absurd hi (by omega)) (fun _ => by rw [show (at_.toInt - at_.toInt).toNat = 0 by omega]; rfl) (by omega)
      · have q40_ : at_.toInt = ty.toInt := by rw [q40]
        refine lv_aload_n hx hb qX_d43 rfl (lv_at hl 0 rfl) ?_
        refine lv_iconst hx hb qX_d44 (v := 0) (by decide) ?_
        refine y_putf X (fw_qX_241 X.2.2.2.2.1) hY0 hI hY_this rfl rfl ⟨_, rfl, x_i32 _⟩ (by decide +kernel) qX_d45 fun H sl hI ho hs hk => ?_
        replace hs_tx := hk _ _ (by decide +kernel) (by decide) hs_tx
        replace hsi_at := hk _ _ (by decide +kernel) (by decide) hsi_at
        replace hsi_typed := hk _ _ (by decide +kernel) (by decide) hsi_typed
        replace hs29 := hk _ _ (by decide +kernel) (by decide) hs29
        replace hA_tx := hA_tx.kept (ho _ (y_ne hY_tx hY_this rfl))
        replace hs := hs
        have hs45 := hs
        obtain ⟨va9, hsi_value, -⟩ := y_fldI (k := 14) hI.1 hY_this rfl rfl
        have htk := t_tok_end hat (by omega)
        subst hav
        exact y_return B hI rfl rfl List.mem_cons_self rfl (x_cs.mono B.2.2.2.2.2 (y_mon B hI)) (fun t' x' at' ty' ft' h1 h2 h3 h4 h5 h6 => by cases h1; cases h2.symm.trans ha0; cases h3.symm.trans ht0; cases h4.symm.trans hs0; cases t_uniq h6 hA0 h5 hcn; exact ⟨_, _, _, _, hsi_at, hs29, hs45, hsi_value, by rw [hat]; omega, by rw [htk]; omega, by unfold t_tk; rw [htk]; rfl, (fun q9 => by rw [htk] at q9; exact absurd (show (0 : Nat) = 2 from q9) (by decide))⟩) (Nat.le_refl _) (Nat.le_refl _) qX_d48
    · have q8_ : ¬ r5.toInt = (0 : Int32).toInt := fun q => q8 (Int32.toInt_inj.mp q)
      have hq_11 := hin_r5 q8
      refine lv_aload_n hx hb qX_d11 rfl (lv_at hl 0 rfl) ?_
      refine lv_dup hx hb qX_d12 rfl ?_
      refine y_getf X (fl196 X.2.2.2.2.1) hI.1 hY_this rfl hsi_at qX_d13 ?_
      refine lv_iconst hx hb qX_d16 (v := 1) (by decide) ?_
      have ec1 : (1 : Int32).toInt = 1 := by decide
      refine lv_iadd hx hb qX_d17 ?_
      generalize hg_z17 : at_ + (1 : Int32) = z17
      have h_z17 : z17.toInt = at_.toInt + 1 := by rw [← hg_z17]; have := y_add (x := at_) (y := (1 : Int32)) (by rw [ec1]; omega) (by rw [ec1]; omega); rw [ec1] at this; exact this
      refine y_putf X (fw_rd_237s X.2.2.2.2.1) hY0 hI hY_this rfl rfl ⟨_, rfl, by show (0 : Int) ≤ _; omega, by show _ ≤ (240 : Int); omega⟩ (by decide +kernel) qX_d18 fun H sl hI ho hs hk => ?_
      replace hs_tx := hk _ _ (by decide +kernel) (by decide) hs_tx
      replace hsi_typed := hk _ _ (by decide +kernel) (by decide) hsi_typed
      replace hA_tx := hA_tx.kept (ho _ (y_ne hY_tx hY_this rfl))
      replace hs := hs
      replace hsi_at := hs
      refine lv_goto hx hb qX_d21 (tgt := 0) (by decide) ?_
      exact ih _ _ _ _ _ hI hY_this hY_tx hs_tx hsi_at hsi_typed hA_tx (lv_sub hl [0] rfl) (by first | assumption | omega) (hps.trans ((t_pass_step (by omega) (decide_eq_true (by omega))).trans (by rw [show at_.toInt.toNat + 1 = z17.toInt.toNat by omega]))) (by omega)
theorem ym_scanX : y_Met vwCl x_G x_Zs x_Tb x_Nb xMsc z_Ascans z_PscX := by
  refine y_main (by decide +kernel) (by decide +kernel) x_Tb_good x_Nb_ok ?_
  intro p l e s m below meth c D U Y0 av ls B hI hpre hl
  have X := B.1
  have hx := X.1
  have hb := X.2.1
  have hY0 := B.2.2.2.2.1
  obtain ⟨v0, rfl, hv0⟩ := x_one B.2.2.2.2.2
  obtain ⟨this, t0, rfl, ht0, hY_this⟩ := x_ref_at hv0 rfl
  obtain rfl := List.mem_singleton.mp ht0
  replace hl : lv_has ls xMsc.2.2.1 [(0, .ref this)] := hl
  obtain ⟨at_, hsi_at, hat⟩ := y_fldI (k := 11) hI.1 hY_this rfl rfl
  obtain ⟨ty, hsi_typed, hty⟩ := y_fldI (k := 10) hI.1 hY_this rfl rfl
  replace hat : (0 : Int) ≤ at_.toInt ∧ at_.toInt ≤ 240 := hat
  replace hty : (0 : Int) ≤ ty.toInt ∧ ty.toInt ≤ 240 := hty
  obtain ⟨tx, hs_tx, hY_tx⟩ := y_fldR (k := 9) hI.1 hY_this rfl rfl
  obtain ⟨ft9, hA9, -⟩ := y_arr hI.1 hY_tx rfl rfl
  obtain ⟨ft, hcn, hA_tx⟩ := t_canon hA9
  have hle := hpre _ _ _ rfl hsi_at hsi_typed
  exact qX_L0 B rfl hsi_at hsi_typed hs_tx hcn hA_tx hty ⟨hat.1, hle⟩ 242 _ _ _ _ _ hI hY_this hY_tx hs_tx hsi_at hsi_typed hA_tx hl ⟨Int.le_refl _, hle⟩ rfl (by omega)
def z_PnuX : yP := fun _ av _ _ v _ _ => ∀ x : Int32, av = [.int x] → ∃ r : Int32, v = some (.int r) ∧ ((30 ≤ x.toInt ∧ r.toInt = 1) ∨ (x.toInt < 30 ∧ (x.toInt = 20 ∨ x.toInt = 10 ∨ x.toInt = 15) ∧ r.toInt = 3) ∨ (x.toInt < 30 ∧ x.toInt ≠ 20 ∧ x.toInt ≠ 10 ∧ x.toInt ≠ 15 ∧ r.toInt = 4))
theorem t_tc_num : ∀ k, k < 10 → ∀ r : Int, ((30 ≤ t_tc k ∧ r = 1) ∨ (t_tc k < 30 ∧ (t_tc k = 20 ∨ t_tc k = 10 ∨ t_tc k = 15) ∧ r = 3) ∨ (t_tc k < 30 ∧ t_tc k ≠ 20 ∧ t_tc k ≠ 10 ∧ t_tc k ≠ 15 ∧ r = 4)) → r = t_NUM.getD k 0 := by
  intro k hk r h
  rcases (by omega : k = 0 ∨ k = 1 ∨ k = 2 ∨ k = 3 ∨ k = 4 ∨ k = 5 ∨ k = 6 ∨ k = 7 ∨ k = 8 ∨ k = 9) with rfl | rfl | rfl | rfl | rfl | rfl | rfl | rfl | rfl | rfl
  · have h : (30 ≤ (20 : Int) ∧ r = 1) ∨ ((20 : Int) < 30 ∧ ((20 : Int) = 20 ∨ (20 : Int) = 10 ∨ (20 : Int) = 15) ∧ r = 3) ∨ ((20 : Int) < 30 ∧ (20 : Int) ≠ 20 ∧ (20 : Int) ≠ 10 ∧ (20 : Int) ≠ 15 ∧ r = 4) := h
    show r = ((3 : Nat) : Int)
    omega
  · have h : (30 ≤ (10 : Int) ∧ r = 1) ∨ ((10 : Int) < 30 ∧ ((10 : Int) = 20 ∨ (10 : Int) = 10 ∨ (10 : Int) = 15) ∧ r = 3) ∨ ((10 : Int) < 30 ∧ (10 : Int) ≠ 20 ∧ (10 : Int) ≠ 10 ∧ (10 : Int) ≠ 15 ∧ r = 4) := h
    show r = ((3 : Nat) : Int)
    omega
  · have h : (30 ≤ (11 : Int) ∧ r = 1) ∨ ((11 : Int) < 30 ∧ ((11 : Int) = 20 ∨ (11 : Int) = 10 ∨ (11 : Int) = 15) ∧ r = 3) ∨ ((11 : Int) < 30 ∧ (11 : Int) ≠ 20 ∧ (11 : Int) ≠ 10 ∧ (11 : Int) ≠ 15 ∧ r = 4) := h
    show r = ((4 : Nat) : Int)
    omega
  · have h : (30 ≤ (12 : Int) ∧ r = 1) ∨ ((12 : Int) < 30 ∧ ((12 : Int) = 20 ∨ (12 : Int) = 10 ∨ (12 : Int) = 15) ∧ r = 3) ∨ ((12 : Int) < 30 ∧ (12 : Int) ≠ 20 ∧ (12 : Int) ≠ 10 ∧ (12 : Int) ≠ 15 ∧ r = 4) := h
    show r = ((4 : Nat) : Int)
    omega
  · have h : (30 ≤ (13 : Int) ∧ r = 1) ∨ ((13 : Int) < 30 ∧ ((13 : Int) = 20 ∨ (13 : Int) = 10 ∨ (13 : Int) = 15) ∧ r = 3) ∨ ((13 : Int) < 30 ∧ (13 : Int) ≠ 20 ∧ (13 : Int) ≠ 10 ∧ (13 : Int) ≠ 15 ∧ r = 4) := h
    show r = ((4 : Nat) : Int)
    omega
  · have h : (30 ≤ (14 : Int) ∧ r = 1) ∨ ((14 : Int) < 30 ∧ ((14 : Int) = 20 ∨ (14 : Int) = 10 ∨ (14 : Int) = 15) ∧ r = 3) ∨ ((14 : Int) < 30 ∧ (14 : Int) ≠ 20 ∧ (14 : Int) ≠ 10 ∧ (14 : Int) ≠ 15 ∧ r = 4) := h
    show r = ((4 : Nat) : Int)
    omega
  · have h : (30 ≤ (15 : Int) ∧ r = 1) ∨ ((15 : Int) < 30 ∧ ((15 : Int) = 20 ∨ (15 : Int) = 10 ∨ (15 : Int) = 15) ∧ r = 3) ∨ ((15 : Int) < 30 ∧ (15 : Int) ≠ 20 ∧ (15 : Int) ≠ 10 ∧ (15 : Int) ≠ 15 ∧ r = 4) := h
    show r = ((3 : Nat) : Int)
    omega
  · have h : (30 ≤ (30 : Int) ∧ r = 1) ∨ ((30 : Int) < 30 ∧ ((30 : Int) = 20 ∨ (30 : Int) = 10 ∨ (30 : Int) = 15) ∧ r = 3) ∨ ((30 : Int) < 30 ∧ (30 : Int) ≠ 20 ∧ (30 : Int) ≠ 10 ∧ (30 : Int) ≠ 15 ∧ r = 4) := h
    show r = ((1 : Nat) : Int)
    omega
  · have h : (30 ≤ (31 : Int) ∧ r = 1) ∨ ((31 : Int) < 30 ∧ ((31 : Int) = 20 ∨ (31 : Int) = 10 ∨ (31 : Int) = 15) ∧ r = 3) ∨ ((31 : Int) < 30 ∧ (31 : Int) ≠ 20 ∧ (31 : Int) ≠ 10 ∧ (31 : Int) ≠ 15 ∧ r = 4) := h
    show r = ((1 : Nat) : Int)
    omega
  · have h : (30 ≤ (32 : Int) ∧ r = 1) ∨ ((32 : Int) < 30 ∧ ((32 : Int) = 20 ∨ (32 : Int) = 10 ∨ (32 : Int) = 15) ∧ r = 3) ∨ ((32 : Int) < 30 ∧ (32 : Int) ≠ 20 ∧ (32 : Int) ≠ 10 ∧ (32 : Int) ≠ 15 ∧ r = 4) := h
    show r = ((1 : Nat) : Int)
    omega
theorem t_tc_lt : ∀ k, k < 10 → 10 ≤ t_tc k := by decide
theorem t_tk_lt {t : Nat → Int32} {n p : Nat} (h : 10 ≤ t_tk t n p) : (t_tok t n p).1 = 1 ∧ t_it t n p < 10 ∧ t_tk t n p = t_tc (t_it t n p) := by
  unfold t_tk at h ⊢
  split at h
  · omega
  · split at h
    · next h1 =>
      refine ⟨h1, ?_, by rw [if_neg (by omega), if_pos h1]⟩
      by_cases hk : t_it t n p < 10
      · exact hk
      · unfold t_tc at h
        rw [if_neg (by omega), if_neg (by omega), if_neg (by omega)] at h
        omega
    · split at h
      · omega
      · split at h <;> omega
theorem t_tk_not {t : Nat → Int32} {n p : Nat} (h : t_tk t n p < 10) : ¬ ((t_tok t n p).1 = 1 ∧ t_it t n p < 10) := fun q => by
  have := t_tc_lt _ q.2
  unfold t_tk at h
  rw [if_neg (by omega), if_pos q.1] at h
  omega
theorem t_tk_0 {t : Nat → Int32} {n p : Nat} : t_tk t n p = 0 ↔ (t_tok t n p).1 = 0 := by
  constructor
  · intro h
    unfold t_tk at h
    split at h
    · assumption
    · split at h
      · exfalso
        unfold t_tc at h
        repeat' split at h
        all_goals omega
      · repeat' split at h
        all_goals omega
  · intro h
    unfold t_tk
    rw [if_pos h]
theorem t_tk_2 {t : Nat → Int32} {n p : Nat} : t_tk t n p = 2 ↔ (t_tok t n p).1 = 2 := by
  constructor
  · intro h
    unfold t_tk at h
    split at h
    · omega
    · split at h
      · exfalso
        unfold t_tc at h
        repeat' split at h
        all_goals omega
      · split at h
        · assumption
        · split at h <;> omega
  · intro h
    unfold t_tk
    rw [if_neg (by omega), if_neg (by omega), if_pos h]
theorem t_tk_3 {t : Nat → Int32} {n p : Nat} : t_tk t n p = 3 ↔ (t_tok t n p).1 = 3 := by
  constructor
  · intro h
    unfold t_tk at h
    split at h
    · omega
    · split at h
      · exfalso
        unfold t_tc at h
        repeat' split at h
        all_goals omega
      · split at h
        · omega
        · split at h
          · assumption
          · omega
  · intro h
    unfold t_tk
    rw [if_neg (by omega), if_neg (by omega), if_neg (by omega), if_pos h]
theorem uX_d0 : decode xM180.2.1 0 = .ok (.iload_n 0, 1) := dz_ok (by decide +kernel)
theorem uX_d1 : decode xM180.2.1 1 = .ok (.bipush 30, 2) := dz_ok (by decide +kernel)
theorem uX_d3 : decode xM180.2.1 3 = .ok (.if_icmp .lt 7, 3) := dz_ok (by decide +kernel)
theorem uX_d6 : decode xM180.2.1 6 = .ok (.iconst 1, 1) := dz_ok (by decide +kernel)
theorem uX_d7 : decode xM180.2.1 7 = .ok (.goto 26, 3) := dz_ok (by decide +kernel)
theorem uX_d10 : decode xM180.2.1 10 = .ok (.iload_n 0, 1) := dz_ok (by decide +kernel)
theorem uX_d11 : decode xM180.2.1 11 = .ok (.bipush 20, 2) := dz_ok (by decide +kernel)
theorem uX_d13 : decode xM180.2.1 13 = .ok (.if_icmp .eq 15, 3) := dz_ok (by decide +kernel)
theorem uX_d16 : decode xM180.2.1 16 = .ok (.iload_n 0, 1) := dz_ok (by decide +kernel)
theorem uX_d17 : decode xM180.2.1 17 = .ok (.bipush 10, 2) := dz_ok (by decide +kernel)
theorem uX_d19 : decode xM180.2.1 19 = .ok (.if_icmp .eq 9, 3) := dz_ok (by decide +kernel)
theorem uX_d22 : decode xM180.2.1 22 = .ok (.iload_n 0, 1) := dz_ok (by decide +kernel)
theorem uX_d23 : decode xM180.2.1 23 = .ok (.bipush 15, 2) := dz_ok (by decide +kernel)
theorem uX_d25 : decode xM180.2.1 25 = .ok (.if_icmp .ne 7, 3) := dz_ok (by decide +kernel)
theorem uX_d28 : decode xM180.2.1 28 = .ok (.iconst 3, 1) := dz_ok (by decide +kernel)
theorem uX_d29 : decode xM180.2.1 29 = .ok (.goto 4, 3) := dz_ok (by decide +kernel)
theorem uX_d32 : decode xM180.2.1 32 = .ok (.iconst 4, 1) := dz_ok (by decide +kernel)
theorem uX_d33 : decode xM180.2.1 33 = .ok (.ireturn, 1) := dz_ok (by decide +kernel)
theorem ym_numsX : y_Met vwCl x_G x_Zs x_Tb x_Nb xM180 y_T z_PnuX := by
  refine y_main (by decide +kernel) (by decide +kernel) x_Tb_good x_Nb_ok ?_
  intro p l e s m below meth c D U Y0 av ls B hI hpre hl
  have X := B.1
  have hx := X.1
  have hb := X.2.1
  have hY0 := B.2.2.2.2.1
  obtain ⟨v0, rfl, ⟨x, rfl, -⟩⟩ := x_one B.2.2.2.2.2
  replace hl : lv_has ls xM180.2.2.1 [(0, .int x)] := hl
  refine lv_iload_n hx hb uX_d0 rfl (lv_at hl 0 rfl) ?_
  refine lv_bipush hx hb uX_d1 (v := 30) (by decide) ?_
  have ec30 : (30 : Int32).toInt = 30 := by decide
  refine lv_icmp_lt hx hb uX_d3 (tgt := 10) (by decide) (fun q3 => ?_) (fun q3 => ?_)
  · have q3_ : x.toInt < (30 : Int32).toInt := x_lt32.mp q3
    refine lv_iload_n hx hb uX_d10 rfl (lv_at hl 0 rfl) ?_
    refine lv_bipush hx hb uX_d11 (v := 20) (by decide) ?_
    have ec20 : (20 : Int32).toInt = 20 := by decide
    refine lv_icmp_eq hx hb uX_d13 (tgt := 28) (by decide) (fun q13 => ?_) (fun q13 => ?_)
    · have q13_ : x.toInt = (20 : Int32).toInt := by rw [q13]
      refine lv_iconst hx hb uX_d28 (v := 3) (by decide) ?_
      have ec3 : (3 : Int32).toInt = 3 := by decide
      refine lv_goto hx hb uX_d29 (tgt := 33) (by decide) ?_
      exact y_ireturn B hI rfl rfl rfl List.mem_cons_self ⟨_, rfl, ⟨_, rfl, by decide, by decide⟩⟩ (x_cs.mono B.2.2.2.2.2 (y_mon B hI)) (fun x' h9 => by cases h9; exact ⟨_, rfl, by omega⟩) (Nat.le_refl _) (Nat.le_refl _) uX_d33
    · have q13_ : ¬ x.toInt = (20 : Int32).toInt := fun q => q13 (Int32.toInt_inj.mp q)
      refine lv_iload_n hx hb uX_d16 rfl (lv_at hl 0 rfl) ?_
      refine lv_bipush hx hb uX_d17 (v := 10) (by decide) ?_
      have ec10 : (10 : Int32).toInt = 10 := by decide
      refine lv_icmp_eq hx hb uX_d19 (tgt := 28) (by decide) (fun q19 => ?_) (fun q19 => ?_)
      · have q19_ : x.toInt = (10 : Int32).toInt := by rw [q19]
        refine lv_iconst hx hb uX_d28 (v := 3) (by decide) ?_
        have ec3 : (3 : Int32).toInt = 3 := by decide
        refine lv_goto hx hb uX_d29 (tgt := 33) (by decide) ?_
        exact y_ireturn B hI rfl rfl rfl List.mem_cons_self ⟨_, rfl, ⟨_, rfl, by decide, by decide⟩⟩ (x_cs.mono B.2.2.2.2.2 (y_mon B hI)) (fun x' h9 => by cases h9; exact ⟨_, rfl, by omega⟩) (Nat.le_refl _) (Nat.le_refl _) uX_d33
      · have q19_ : ¬ x.toInt = (10 : Int32).toInt := fun q => q19 (Int32.toInt_inj.mp q)
        refine lv_iload_n hx hb uX_d22 rfl (lv_at hl 0 rfl) ?_
        refine lv_bipush hx hb uX_d23 (v := 15) (by decide) ?_
        have ec15 : (15 : Int32).toInt = 15 := by decide
        refine lv_icmp_ne hx hb uX_d25 (tgt := 32) (by decide) (fun q25 => ?_) (fun q25 => ?_)
        · have q25_ : ¬ x.toInt = (15 : Int32).toInt := fun q => q25 (Int32.toInt_inj.mp q)
          refine lv_iconst hx hb uX_d32 (v := 4) (by decide) ?_
          have ec4 : (4 : Int32).toInt = 4 := by decide
          exact y_ireturn B hI rfl rfl rfl List.mem_cons_self ⟨_, rfl, ⟨_, rfl, by decide, by decide⟩⟩ (x_cs.mono B.2.2.2.2.2 (y_mon B hI)) (fun x' h9 => by cases h9; exact ⟨_, rfl, by omega⟩) (Nat.le_refl _) (Nat.le_refl _) uX_d33
        · have q25_ : x.toInt = (15 : Int32).toInt := by rw [q25]
          refine lv_iconst hx hb uX_d28 (v := 3) (by decide) ?_
          have ec3 : (3 : Int32).toInt = 3 := by decide
          refine lv_goto hx hb uX_d29 (tgt := 33) (by decide) ?_
          exact y_ireturn B hI rfl rfl rfl List.mem_cons_self ⟨_, rfl, ⟨_, rfl, by decide, by decide⟩⟩ (x_cs.mono B.2.2.2.2.2 (y_mon B hI)) (fun x' h9 => by cases h9; exact ⟨_, rfl, by omega⟩) (Nat.le_refl _) (Nat.le_refl _) uX_d33
  · have q3_ : (30 : Int32).toInt ≤ x.toInt := Int.not_lt.mp fun q => q3 (x_lt32.mpr q)
    refine lv_iconst hx hb uX_d6 (v := 1) (by decide) ?_
    have ec1 : (1 : Int32).toInt = 1 := by decide
    refine lv_goto hx hb uX_d7 (tgt := 33) (by decide) ?_
    exact y_ireturn B hI rfl rfl rfl List.mem_cons_self ⟨_, rfl, ⟨_, rfl, by decide, by decide⟩⟩ (x_cs.mono B.2.2.2.2.2 (y_mon B hI)) (fun x' h9 => by cases h9; exact ⟨_, rfl, by omega⟩) (Nat.le_refl _) (Nat.le_refl _) uX_d33
def t_vn (t : Nat → Int32) (n N : Nat) (fv fu : Nat → Int32) : Prop := ∀ j, j < N → (fv j).toInt = t_tc (t_it t n (t_ip t n j)) ∧ ∀ l, l < 4 → (l < t_cnt t n (t_ip t n j) ∨ l = 3) → (fu (4 * j + l)).toInt = t_arg t n (t_ip t n j) l
def z_PrdX : yP := fun D av _ H v _ H' => ∀ (this tx ve nu : Nat) (ty : Int32) (ft : Nat → Int32), av = [.ref this] → x_sl D 12 10 this H = some (.int ty) → x_sl D 12 9 this H = some (.ref tx) → x_sl D 12 15 this H = some (.ref ve) → x_sl D 12 16 this H = some (.ref nu) → t_c ft → y_A tx 240 H ft → ∃ (N c q : Nat) (r it st : Int32) (fv fu : Nat → Int32), v = some (.int r) ∧ t_res ft ty.toInt.toNat N c q ∧ (c = 0 → r = 1) ∧ (c = 2 → r = 0 ∧ st.toInt = q) ∧ it.toInt = N ∧ x_sl D 12 17 this H' = some (.int it) ∧ x_sl D 12 12 this H' = some (.int st) ∧ y_A ve 240 H' fv ∧ y_A nu 960 H' fu ∧ t_vn ft ty.toInt.toNat N fv fu
theorem eX_d0 : decode xMrd.2.1 0 = .ok (.aload_n 0, 1) := dz_ok (by decide +kernel)
theorem eX_d1 : decode xMrd.2.1 1 = .ok (.iconst 0, 1) := dz_ok (by decide +kernel)
theorem eX_d2 : decode xMrd.2.1 2 = .ok (.putfield 166, 3) := dz_ok (by decide +kernel)
theorem eX_d5 : decode xMrd.2.1 5 = .ok (.aload_n 0, 1) := dz_ok (by decide +kernel)
theorem eX_d6 : decode xMrd.2.1 6 = .ok (.iconst 0, 1) := dz_ok (by decide +kernel)
theorem eX_d7 : decode xMrd.2.1 7 = .ok (.putfield 210, 3) := dz_ok (by decide +kernel)
theorem eX_d10 : decode xMrd.2.1 10 = .ok (.aload_n 0, 1) := dz_ok (by decide +kernel)
theorem eX_d11 : decode xMrd.2.1 11 = .ok (.invokevirtual 213, 3) := dz_ok (by decide +kernel)
theorem eX_d14 : decode xMrd.2.1 14 = .ok (.aload_n 0, 1) := dz_ok (by decide +kernel)
theorem eX_d15 : decode xMrd.2.1 15 = .ok (.getfield 196, 3) := dz_ok (by decide +kernel)
theorem eX_d18 : decode xMrd.2.1 18 = .ok (.ifCond .eq 118, 3) := dz_ok (by decide +kernel)
theorem eX_d21 : decode xMrd.2.1 21 = .ok (.aload_n 0, 1) := dz_ok (by decide +kernel)
theorem eX_d22 : decode xMrd.2.1 22 = .ok (.getfield 196, 3) := dz_ok (by decide +kernel)
theorem eX_d25 : decode xMrd.2.1 25 = .ok (.istore_n 1, 1) := dz_ok (by decide +kernel)
theorem eX_d26 : decode xMrd.2.1 26 = .ok (.iload_n 1, 1) := dz_ok (by decide +kernel)
theorem eX_d27 : decode xMrd.2.1 27 = .ok (.bipush 10, 2) := dz_ok (by decide +kernel)
theorem eX_d29 : decode xMrd.2.1 29 = .ok (.if_icmp .ge 5, 3) := dz_ok (by decide +kernel)
theorem eX_d32 : decode xMrd.2.1 32 = .ok (.iconst 0, 1) := dz_ok (by decide +kernel)
theorem eX_d33 : decode xMrd.2.1 33 = .ok (.ireturn, 1) := dz_ok (by decide +kernel)
theorem eX_d34 : decode xMrd.2.1 34 = .ok (.aload_n 0, 1) := dz_ok (by decide +kernel)
theorem eX_d35 : decode xMrd.2.1 35 = .ok (.invokevirtual 213, 3) := dz_ok (by decide +kernel)
theorem eX_d38 : decode xMrd.2.1 38 = .ok (.aload_n 0, 1) := dz_ok (by decide +kernel)
theorem eX_d39 : decode xMrd.2.1 39 = .ok (.getfield 35, 3) := dz_ok (by decide +kernel)
theorem eX_d42 : decode xMrd.2.1 42 = .ok (.iconst 4, 1) := dz_ok (by decide +kernel)
theorem eX_d43 : decode xMrd.2.1 43 = .ok (.aload_n 0, 1) := dz_ok (by decide +kernel)
theorem eX_d44 : decode xMrd.2.1 44 = .ok (.getfield 210, 3) := dz_ok (by decide +kernel)
theorem eX_d47 : decode xMrd.2.1 47 = .ok (.imul, 1) := dz_ok (by decide +kernel)
theorem eX_d48 : decode xMrd.2.1 48 = .ok (.iconst 3, 1) := dz_ok (by decide +kernel)
theorem eX_d49 : decode xMrd.2.1 49 = .ok (.iadd, 1) := dz_ok (by decide +kernel)
theorem eX_d50 : decode xMrd.2.1 50 = .ok (.iconst 0, 1) := dz_ok (by decide +kernel)
theorem eX_d51 : decode xMrd.2.1 51 = .ok (.iastore, 1) := dz_ok (by decide +kernel)
theorem eX_d52 : decode xMrd.2.1 52 = .ok (.iconst 0, 1) := dz_ok (by decide +kernel)
theorem eX_d53 : decode xMrd.2.1 53 = .ok (.istore_n 2, 1) := dz_ok (by decide +kernel)
theorem eX_d54 : decode xMrd.2.1 54 = .ok (.iload_n 2, 1) := dz_ok (by decide +kernel)
theorem eX_d55 : decode xMrd.2.1 55 = .ok (.iload_n 1, 1) := dz_ok (by decide +kernel)
theorem eX_d56 : decode xMrd.2.1 56 = .ok (.invokestatic 216, 3) := dz_ok (by decide +kernel)
theorem eX_d59 : decode xMrd.2.1 59 = .ok (.if_icmp .ge 40, 3) := dz_ok (by decide +kernel)
theorem eX_d62 : decode xMrd.2.1 62 = .ok (.aload_n 0, 1) := dz_ok (by decide +kernel)
theorem eX_d63 : decode xMrd.2.1 63 = .ok (.getfield 196, 3) := dz_ok (by decide +kernel)
theorem eX_d66 : decode xMrd.2.1 66 = .ok (.iconst 2, 1) := dz_ok (by decide +kernel)
theorem eX_d67 : decode xMrd.2.1 67 = .ok (.if_icmp .eq 5, 3) := dz_ok (by decide +kernel)
theorem eX_d70 : decode xMrd.2.1 70 = .ok (.iconst 0, 1) := dz_ok (by decide +kernel)
theorem eX_d71 : decode xMrd.2.1 71 = .ok (.ireturn, 1) := dz_ok (by decide +kernel)
theorem eX_d72 : decode xMrd.2.1 72 = .ok (.aload_n 0, 1) := dz_ok (by decide +kernel)
theorem eX_d73 : decode xMrd.2.1 73 = .ok (.getfield 35, 3) := dz_ok (by decide +kernel)
theorem eX_d76 : decode xMrd.2.1 76 = .ok (.iconst 4, 1) := dz_ok (by decide +kernel)
theorem eX_d77 : decode xMrd.2.1 77 = .ok (.aload_n 0, 1) := dz_ok (by decide +kernel)
theorem eX_d78 : decode xMrd.2.1 78 = .ok (.getfield 210, 3) := dz_ok (by decide +kernel)
theorem eX_d81 : decode xMrd.2.1 81 = .ok (.imul, 1) := dz_ok (by decide +kernel)
theorem eX_d82 : decode xMrd.2.1 82 = .ok (.iload_n 2, 1) := dz_ok (by decide +kernel)
theorem eX_d83 : decode xMrd.2.1 83 = .ok (.iadd, 1) := dz_ok (by decide +kernel)
theorem eX_d84 : decode xMrd.2.1 84 = .ok (.aload_n 0, 1) := dz_ok (by decide +kernel)
theorem eX_d85 : decode xMrd.2.1 85 = .ok (.getfield 207, 3) := dz_ok (by decide +kernel)
theorem eX_d88 : decode xMrd.2.1 88 = .ok (.iastore, 1) := dz_ok (by decide +kernel)
theorem eX_d89 : decode xMrd.2.1 89 = .ok (.aload_n 0, 1) := dz_ok (by decide +kernel)
theorem eX_d90 : decode xMrd.2.1 90 = .ok (.invokevirtual 213, 3) := dz_ok (by decide +kernel)
theorem eX_d93 : decode xMrd.2.1 93 = .ok (.iinc 2 1, 3) := dz_ok (by decide +kernel)
theorem eX_d96 : decode xMrd.2.1 96 = .ok (.goto (-42), 3) := dz_ok (by decide +kernel)
theorem eX_d99 : decode xMrd.2.1 99 = .ok (.aload_n 0, 1) := dz_ok (by decide +kernel)
theorem eX_d100 : decode xMrd.2.1 100 = .ok (.getfield 196, 3) := dz_ok (by decide +kernel)
theorem eX_d103 : decode xMrd.2.1 103 = .ok (.iconst 3, 1) := dz_ok (by decide +kernel)
theorem eX_d104 : decode xMrd.2.1 104 = .ok (.if_icmp .eq 5, 3) := dz_ok (by decide +kernel)
theorem eX_d107 : decode xMrd.2.1 107 = .ok (.iconst 0, 1) := dz_ok (by decide +kernel)
theorem eX_d108 : decode xMrd.2.1 108 = .ok (.ireturn, 1) := dz_ok (by decide +kernel)
theorem eX_d109 : decode xMrd.2.1 109 = .ok (.aload_n 0, 1) := dz_ok (by decide +kernel)
theorem eX_d110 : decode xMrd.2.1 110 = .ok (.getfield 32, 3) := dz_ok (by decide +kernel)
theorem eX_d113 : decode xMrd.2.1 113 = .ok (.aload_n 0, 1) := dz_ok (by decide +kernel)
theorem eX_d114 : decode xMrd.2.1 114 = .ok (.getfield 210, 3) := dz_ok (by decide +kernel)
theorem eX_d117 : decode xMrd.2.1 117 = .ok (.iload_n 1, 1) := dz_ok (by decide +kernel)
theorem eX_d118 : decode xMrd.2.1 118 = .ok (.iastore, 1) := dz_ok (by decide +kernel)
theorem eX_d119 : decode xMrd.2.1 119 = .ok (.aload_n 0, 1) := dz_ok (by decide +kernel)
theorem eX_d120 : decode xMrd.2.1 120 = .ok (.dup, 1) := dz_ok (by decide +kernel)
theorem eX_d121 : decode xMrd.2.1 121 = .ok (.getfield 210, 3) := dz_ok (by decide +kernel)
theorem eX_d124 : decode xMrd.2.1 124 = .ok (.iconst 1, 1) := dz_ok (by decide +kernel)
theorem eX_d125 : decode xMrd.2.1 125 = .ok (.iadd, 1) := dz_ok (by decide +kernel)
theorem eX_d126 : decode xMrd.2.1 126 = .ok (.putfield 210, 3) := dz_ok (by decide +kernel)
theorem eX_d129 : decode xMrd.2.1 129 = .ok (.aload_n 0, 1) := dz_ok (by decide +kernel)
theorem eX_d130 : decode xMrd.2.1 130 = .ok (.invokevirtual 213, 3) := dz_ok (by decide +kernel)
theorem eX_d133 : decode xMrd.2.1 133 = .ok (.goto (-119), 3) := dz_ok (by decide +kernel)
theorem eX_d136 : decode xMrd.2.1 136 = .ok (.iconst 1, 1) := dz_ok (by decide +kernel)
theorem eX_d137 : decode xMrd.2.1 137 = .ok (.ireturn, 1) := dz_ok (by decide +kernel)
theorem eX_L54 {p : Program} {l : Launch} {e : Env} {s : State} {m : MethodId} {below : List Frame} {meth : Method} {c : Code} {D : va_G} {U : State} {Y0 : xY} {av : List Value} (B : y_B vwCl x_Tb x_Nb xMrd p s m meth c D U Y0 av) {this tx ve nu : Nat} {ty : Int32} {ft : Nat → Int32} (hav : av = [.ref this]) (ht0 : x_sl D 12 10 this s.heap = some (.int ty)) (hs0 : x_sl D 12 9 this s.heap = some (.ref tx)) (hve0 : x_sl D 12 15 this s.heap = some (.ref ve)) (hnu0 : x_sl D 12 16 this s.heap = some (.ref nu)) (hcn : t_c ft) (hA0 : y_A tx 240 s.heap ft) (hty : 0 ≤ ty.toInt ∧ ty.toInt ≤ 240) {verb it : Int32} {fv : Nat → Int32} (hit : 0 ≤ it.toInt ∧ it.toInt ≤ 240) (hgd : t_good ft ty.toInt.toNat it.toInt.toNat) (hw1 : (t_tok ft ty.toInt.toNat (t_ip ft ty.toInt.toNat it.toInt.toNat)).1 = 1 ∧ t_it ft ty.toInt.toNat (t_ip ft ty.toInt.toNat it.toInt.toNat) < 10) (hvb : verb.toInt = t_tc (t_it ft ty.toInt.toNat (t_ip ft ty.toInt.toNat it.toInt.toNat)))
    (out14 : ∀ (H : Heap) (Y : xY) (locs : List Loc) (ls : Array Slot) (at1 : Int32) (tk1 : Int32) (it1 : Int32) (st1 : Int32) (va1 : Int32) (fv1 fu1 : Nat → Int32), x_I D x_G x_Zs U (x_efs xMrd) Y0 s.heap Y H locs → Y this = some 17 → Y tx = some 52 → Y ve = some 53 → Y nu = some 54 → x_sl D 12 9 this H = some (.ref tx) → x_sl D 12 15 this H = some (.ref ve) → x_sl D 12 16 this H = some (.ref nu) → x_sl D 12 11 this H = some (.int at1) → x_sl D 12 10 this H = some (.int ty) → x_sl D 12 13 this H = some (.int tk1) → x_sl D 12 17 this H = some (.int it1) → x_sl D 12 12 this H = some (.int st1) → x_sl D 12 14 this H = some (.int va1) → y_A tx 240 H ft → y_A ve 240 H fv1 → y_A nu 960 H fu1 → lv_has ls xMrd.2.2.1 [(0, .ref this)] → (0 ≤ it1.toInt ∧ it1.toInt ≤ 240) → (t_good ft ty.toInt.toNat it1.toInt.toNat) → (t_sc ft ty.toInt.toNat (t_ip ft ty.toInt.toNat it1.toInt.toNat) at1 st1 tk1 va1) → (t_vn ft ty.toInt.toNat it1.toInt.toNat fv1 fu1) → (it1.toInt = it.toInt + 1) → W p l e (x_rm xMrd) s m av.toArray below meth c H locs 0 0 (y_QQ below D x_G x_Zs U xMrd z_PrdX av Y0 s) (F0 m 14 ls [])) :
    ∀ (n : Nat), ∀ (H : Heap) (Y : xY) (locs : List Loc) (ls : Array Slot) (k : Int32) (at_ : Int32) (tk : Int32) (st : Int32) (va : Int32) (fu : Nat → Int32), x_I D x_G x_Zs U (x_efs xMrd) Y0 s.heap Y H locs → Y this = some 17 → Y tx = some 52 → Y ve = some 53 → Y nu = some 54 → x_sl D 12 9 this H = some (.ref tx) → x_sl D 12 15 this H = some (.ref ve) → x_sl D 12 16 this H = some (.ref nu) → x_sl D 12 11 this H = some (.int at_) → x_sl D 12 10 this H = some (.int ty) → x_sl D 12 13 this H = some (.int tk) → x_sl D 12 17 this H = some (.int it) → x_sl D 12 12 this H = some (.int st) → x_sl D 12 14 this H = some (.int va) → y_A tx 240 H ft → y_A ve 240 H fv → y_A nu 960 H fu → lv_has ls xMrd.2.2.1 [(2, .int k), (1, .int verb), (0, .ref this)] → (0 ≤ k.toInt ∧ k.toInt ≤ (t_cnt ft ty.toInt.toNat (t_ip ft ty.toInt.toNat it.toInt.toNat))) → (t_sc ft ty.toInt.toNat (t_ap ft ty.toInt.toNat k.toInt.toNat (t_tok ft ty.toInt.toNat (t_ip ft ty.toInt.toNat it.toInt.toNat)).2) at_ st tk va) → (t_args ft ty.toInt.toNat (t_cnt ft ty.toInt.toNat (t_ip ft ty.toInt.toNat it.toInt.toNat)) (t_tok ft ty.toInt.toNat (t_ip ft ty.toInt.toNat it.toInt.toNat)).2 = t_args ft ty.toInt.toNat ((t_cnt ft ty.toInt.toNat (t_ip ft ty.toInt.toNat it.toInt.toNat)) - k.toInt.toNat) (t_ap ft ty.toInt.toNat k.toInt.toNat (t_tok ft ty.toInt.toNat (t_ip ft ty.toInt.toNat it.toInt.toNat)).2)) → (t_vn ft ty.toInt.toNat it.toInt.toNat fv fu) → (∀ l : Nat, l < 4 → ((l : Int) < k.toInt ∨ l = 3) → (fu (4 * it.toInt.toNat + l)).toInt = if (l : Int) < k.toInt then t_v ft ty.toInt.toNat (t_ap ft ty.toInt.toNat l (t_tok ft ty.toInt.toNat (t_ip ft ty.toInt.toNat it.toInt.toNat)).2) else 0) → (5 - k.toInt).toNat < n → W p l e (x_rm xMrd) s m av.toArray below meth c H locs 0 0 (y_QQ below D x_G x_Zs U xMrd z_PrdX av Y0 s) (F0 m 54 ls []) := by
  have X := B.1
  have hx := X.1
  have hb := X.2.1
  have hY0 := B.2.2.2.2.1
  intro n
  induction n with
  | zero => intro _ _ _ _ _ _ _ _ _ _ _ _ _ _ _ _ _ _ _ _ _ _ _ _ _ _ _ _ _ _ _ _ _ h; exact absurd h (Nat.not_lt_zero _)
  | succ n ih =>
    intro H Y locs ls k at_ tk st va fu hI hY_this hY_tx hY_ve hY_nu hs_tx hs_ve hs_nu hsi_at hsi_typed hsi_token hsi_items hsi_start hsi_value hA_tx hA_ve hA_nu hl hk hsc har hvn hfu hn
    have hgl := t_good_le it.toInt.toNat hgd
    have hc4 := t_cnt4 (t := ft) (n := ty.toInt.toNat) (p := (t_ip ft ty.toInt.toNat it.toInt.toNat))
    have hq0 := (t_tok_le (t := ft) hgl.2).2.2.1
    have hal := t_ap_le (t := ft) hq0 k.toInt.toNat
    have hsl := t_tok_le (t := ft) hal.2
    have hnx0 := t_nx_it hw1
    have hsc1 := hsc.1
    have hsc2 := hsc.2.1
    have hsc3 := hsc.2.2.1
    have htl := t_tok_le (t := ft) hgl.2
    have hlt1 := htl.2.2.2 (by omega)
    refine lv_iload_n hx hb eX_d54 rfl (lv_at hl 0 rfl) ?_
    refine lv_iload_n hx hb eX_d55 rfl (lv_at hl 1 rfl) ?_
    refine y_call (z := (1, 216, 1, none, xM180)) (av := [.int verb]) (rest := [.int k]) (y_cokS (n := 1) X ym_numsX (x_cons (x_bw76 2 rfl rfl) (x_cons (x_bw76 3 rfl rfl) (x_cons (x_bw0 9 rfl rfl) x_nilm))) (x_bw76 4 rfl rfl) (by decide +kernel) ⟨Nat.le_of_ble_eq_true rfl, Nat.le_of_ble_eq_true rfl⟩) hY0 hI rfl eX_d56 hl.1 (Nat.le_of_ble_eq_true rfl) (Nat.le_of_ble_eq_true rfl) (Nat.le_of_ble_eq_true rfl) (y_cons ⟨_, rfl, x_i32 _⟩ y_nil) rfl (y_norecv rfl) trivial (y_sub_ef rfl) fun v Yn o Hn L ho hr ha hIn hx_ hE hP => ?_
    have hPu := hP _ rfl
    replace hs_tx := y_Efld hE hY_this rfl (by decide) (by decide) hs_tx
    replace hs_ve := y_Efld hE hY_this rfl (by decide) (by decide) hs_ve
    replace hs_nu := y_Efld hE hY_this rfl (by decide) (by decide) hs_nu
    replace hsi_at := y_Efld hE hY_this rfl (by decide) (by decide) hsi_at
    replace hsi_typed := y_Efld hE hY_this rfl (by decide) (by decide) hsi_typed
    replace hsi_token := y_Efld hE hY_this rfl (by decide) (by decide) hsi_token
    replace hsi_items := y_Efld hE hY_this rfl (by decide) (by decide) hsi_items
    replace hsi_start := y_Efld hE hY_this rfl (by decide) (by decide) hsi_start
    replace hsi_value := y_Efld hE hY_this rfl (by decide) (by decide) hsi_value
    replace hA_tx := hA_tx.kept (y_Earr hE hY_tx rfl (by decide))
    replace hA_ve := hA_ve.kept (y_Earr hE hY_ve rfl (by decide))
    replace hA_nu := hA_nu.kept (y_Earr hE hY_nu rfl (by decide))
    replace hY_this := y_ext hx_ hI.1 hY_this
    replace hY_tx := y_ext hx_ hI.1 hY_tx
    replace hY_ve := y_ext hx_ hI.1 hY_ve
    replace hY_nu := y_ext hx_ hI.1 hY_nu
    obtain ⟨r56, rfl, hnu⟩ := hPu
    clear ho hr ha hE hP hI hx_
    rename x_I _ _ _ _ _ _ _ _ _ _ => hI
    have hcn9 : r56.toInt = (t_cnt ft ty.toInt.toNat (t_ip ft ty.toInt.toNat it.toInt.toNat)) := t_tc_num _ hw1.2 _ (by rw [← hvb]; exact hnu)
    refine lv_icmp_ge hx hb eX_d59 (tgt := 99) (by decide) (fun q59 => ?_) (fun q59 => ?_)
    · have q59_ : r56.toInt ≤ k.toInt := x_le32.mp q59
      refine lv_aload_n hx hb eX_d99 rfl (lv_at hl 2 rfl) ?_
      refine y_getf X (fl_rd_233s X.2.2.2.2.1) hI.1 hY_this rfl hsi_token eX_d100 ?_
      refine lv_iconst hx hb eX_d103 (v := 3) (by decide) ?_
      have ec3 : (3 : Int32).toInt = 3 := by decide
      refine lv_icmp_eq hx hb eX_d104 (tgt := 109) (by decide) (fun q104 => ?_) (fun q104 => ?_)
      · have q104_ : tk.toInt = (3 : Int32).toInt := by rw [q104]
        refine lv_aload_n hx hb eX_d109 rfl (lv_at hl 2 rfl) ?_
        refine y_getf X (fl197 X.2.2.2.2.1) hI.1 hY_this rfl hs_ve eX_d110 ?_
        refine lv_aload_n hx hb eX_d113 rfl (lv_at hl 2 rfl) ?_
        refine y_getf X (fl_rd_234s X.2.2.2.2.1) hI.1 hY_this rfl hsi_items eX_d114 ?_
        refine lv_iload_n hx hb eX_d117 rfl (lv_at hl 1 rfl) ?_
        refine y_iast X hY0 hI hY_ve rfl hA_ve (by omega) (by show _ < (240 : Int); omega) ⟨_, rfl, x_i32 _⟩ (by decide +kernel) eX_d118 fun H locs hI h_new ho => ?_
        replace hA_ve := h_new
        generalize hf_f118 : y_up fv it.toInt.toNat verb = f118 at hA_ve
        replace hs_tx := y_slk hs_tx (ho _ (y_ne hY_this hY_ve rfl))
        replace hs_ve := y_slk hs_ve (ho _ (y_ne hY_this hY_ve rfl))
        replace hs_nu := y_slk hs_nu (ho _ (y_ne hY_this hY_ve rfl))
        replace hsi_at := y_slk hsi_at (ho _ (y_ne hY_this hY_ve rfl))
        replace hsi_typed := y_slk hsi_typed (ho _ (y_ne hY_this hY_ve rfl))
        replace hsi_token := y_slk hsi_token (ho _ (y_ne hY_this hY_ve rfl))
        replace hsi_items := y_slk hsi_items (ho _ (y_ne hY_this hY_ve rfl))
        replace hsi_start := y_slk hsi_start (ho _ (y_ne hY_this hY_ve rfl))
        replace hsi_value := y_slk hsi_value (ho _ (y_ne hY_this hY_ve rfl))
        replace hA_tx := hA_tx.kept (ho _ (y_ne hY_tx hY_ve rfl))
        replace hA_nu := hA_nu.kept (ho _ (y_ne hY_nu hY_ve rfl))
        refine lv_aload_n hx hb eX_d119 rfl (lv_at hl 2 rfl) ?_
        refine lv_dup hx hb eX_d120 rfl ?_
        refine y_getf X (fl_rd_234s X.2.2.2.2.1) hI.1 hY_this rfl hsi_items eX_d121 ?_
        refine lv_iconst hx hb eX_d124 (v := 1) (by decide) ?_
        have ec1 : (1 : Int32).toInt = 1 := by decide
        refine lv_iadd hx hb eX_d125 ?_
        generalize hg_z125 : it + (1 : Int32) = z125
        have h_z125 : z125.toInt = it.toInt + 1 := by rw [← hg_z125]; have := y_add (x := it) (y := (1 : Int32)) (by rw [ec1]; omega) (by rw [ec1]; omega); rw [ec1] at this; exact this
        refine y_putf X (fw_rd_235s X.2.2.2.2.1) hY0 hI hY_this rfl rfl ⟨_, rfl, by show (0 : Int) ≤ _; omega, by show _ ≤ (240 : Int); omega⟩ (by decide +kernel) eX_d126 fun H sl hI ho hs hk => ?_
        replace hs_tx := hk _ _ (by decide +kernel) (by decide) hs_tx
        replace hs_ve := hk _ _ (by decide +kernel) (by decide) hs_ve
        replace hs_nu := hk _ _ (by decide +kernel) (by decide) hs_nu
        replace hsi_at := hk _ _ (by decide +kernel) (by decide) hsi_at
        replace hsi_typed := hk _ _ (by decide +kernel) (by decide) hsi_typed
        replace hsi_token := hk _ _ (by decide +kernel) (by decide) hsi_token
        replace hsi_start := hk _ _ (by decide +kernel) (by decide) hsi_start
        replace hsi_value := hk _ _ (by decide +kernel) (by decide) hsi_value
        replace hA_tx := hA_tx.kept (ho _ (y_ne hY_tx hY_this rfl))
        replace hA_ve := hA_ve.kept (ho _ (y_ne hY_ve hY_this rfl))
        replace hA_nu := hA_nu.kept (ho _ (y_ne hY_nu hY_this rfl))
        replace hs := hs
        replace hsi_items := hs
        refine lv_aload_n hx hb eX_d129 rfl (lv_at hl 2 rfl) ?_
        refine y_call (z := (0, 213, 1, some 17, xMsc)) (av := [.ref this]) (rest := []) (y_cokV (n := 0) (ci := 12) X ym_scanX rfl rfl rfl (x_cons (x_bw74 11 rfl rfl) (x_cons (x_bw74 13 rfl rfl) (x_cons (x_at 45 (by decide +kernel) rfl) (x_cons (x_bw0 9 rfl rfl) x_nilm)))) (x_bw74 14 rfl rfl) (by decide +kernel) ⟨Nat.le_of_ble_eq_true rfl, Nat.le_of_ble_eq_true rfl⟩) hY0 hI rfl eX_d130 hl.1 (Nat.le_of_ble_eq_true rfl) (Nat.le_of_ble_eq_true rfl) (Nat.le_of_ble_eq_true rfl) (y_cons (y_cref hY_this rfl) y_nil) rfl (y_recv rfl hY_this) (fun this' at' ty' h1 h2 h3 => by cases h1; cases h2.symm.trans hsi_at; cases h3.symm.trans hsi_typed; omega) (y_sub_ef rfl) fun v Yn o Hn L ho hr ha hIn hx_ hE hP => ?_
        have hPs := hP _ _ _ _ _ rfl hsi_at hsi_typed hs_tx hcn hA_tx
        replace hs_tx := y_Efld hE hY_this rfl (by decide) (by decide) hs_tx
        replace hs_ve := y_Efld hE hY_this rfl (by decide) (by decide) hs_ve
        replace hs_nu := y_Efld hE hY_this rfl (by decide) (by decide) hs_nu
        replace hsi_typed := y_Efld hE hY_this rfl (by decide) (by decide) hsi_typed
        replace hsi_items := y_Efld hE hY_this rfl (by decide) (by decide) hsi_items
        replace hA_tx := hA_tx.kept (y_Earr hE hY_tx rfl (by decide))
        replace hA_ve := hA_ve.kept (y_Earr hE hY_ve rfl (by decide))
        replace hA_nu := hA_nu.kept (y_Earr hE hY_nu rfl (by decide))
        replace hY_this := y_ext hx_ hI.1 hY_this
        replace hY_tx := y_ext hx_ hI.1 hY_tx
        replace hY_ve := y_ext hx_ hI.1 hY_ve
        replace hY_nu := y_ext hx_ hI.1 hY_nu
        obtain rfl := y_ansV rfl ho hr
        obtain ⟨at130, st130, tk130, va130, hsi_at, hsi_start, hsi_token, hsi_value, hsc130⟩ := hPs
        clear ho hr ha hE hP hI hx_
        rename x_I _ _ _ _ _ _ _ _ _ _ => hI
        refine lv_goto hx hb eX_d133 (tgt := 14) (by decide) ?_
        have hk3 : (t_tok ft ty.toInt.toNat (t_ap ft ty.toInt.toNat k.toInt.toNat (t_tok ft ty.toInt.toNat (t_ip ft ty.toInt.toNat it.toInt.toNat)).2)).1 = 3 := t_tk_3.mp (by rw [← hsc3, q104]; decide)
        have hnx9 : t_nx ft ty.toInt.toNat (t_ip ft ty.toInt.toNat it.toInt.toNat) = (1, (t_tok ft ty.toInt.toNat (t_ap ft ty.toInt.toNat k.toInt.toNat (t_tok ft ty.toInt.toNat (t_ip ft ty.toInt.toNat it.toInt.toNat)).2)).2) := by rw [hnx0, har, show (t_cnt ft ty.toInt.toNat (t_ip ft ty.toInt.toNat it.toInt.toNat)) - k.toInt.toNat = 0 by omega]; exact t_args_0 hk3
        have his : z125.toInt.toNat = it.toInt.toNat + 1 := by omega
        have hip : t_ip ft ty.toInt.toNat z125.toInt.toNat = at_.toInt.toNat := by rw [his]; show (t_nx ft ty.toInt.toNat (t_ip ft ty.toInt.toNat it.toInt.toNat)).2 = _; rw [hnx9]; show (t_tok ft ty.toInt.toNat _).2 = _; omega
        exact out14 _ _ _ _ _ _ _ _ _ _ _ hI hY_this hY_tx hY_ve hY_nu hs_tx hs_ve hs_nu hsi_at hsi_typed hsi_token hsi_items hsi_start hsi_value hA_tx hA_ve hA_nu (lv_sub hl [2] rfl) (by first | assumption | omega) (by rw [his]; exact t_good_S hgd (by rw [hnx9])) (by rw [hip]; exact hsc130) (fun j hj => by rw [his] at hj; by_cases ej : j = it.toInt.toNat; (subst ej; exact ⟨by rw [← hf_f118, y_up_at, hvb], fun l l4 hl9 => by rw [hfu l l4 (by omega)]; unfold t_arg; by_cases hlt : (l : Int) < k.toInt; (rw [if_pos hlt, if_pos (by omega)]); rw [if_neg hlt, if_neg (by omega)]⟩); exact ⟨by rw [← hf_f118, y_up_ne ej]; exact (hvn j (by omega)).1, (hvn j (by omega)).2⟩) (by first | assumption | omega)
      · have q104_ : ¬ tk.toInt = (3 : Int32).toInt := fun q => q104 (Int32.toInt_inj.mp q)
        refine lv_iconst hx hb eX_d107 (v := 0) (by decide) ?_
        have ec0 : (0 : Int32).toInt = 0 := by decide
        have hnx9 : t_nx ft ty.toInt.toNat (t_ip ft ty.toInt.toNat it.toInt.toNat) = (2, t_at ft ty.toInt.toNat (t_ap ft ty.toInt.toNat k.toInt.toNat (t_tok ft ty.toInt.toNat (t_ip ft ty.toInt.toNat it.toInt.toNat)).2)) := by rw [hnx0, har, show (t_cnt ft ty.toInt.toNat (t_ip ft ty.toInt.toNat it.toInt.toNat)) - k.toInt.toNat = 0 by omega]; exact t_args_0F (fun q9 => q104 (Int32.toInt_inj.mp (by rw [hsc3, t_tk_3.mpr q9]; decide)))
        subst hav
        exact y_ireturn B hI rfl rfl rfl List.mem_cons_self ⟨_, rfl, ⟨_, rfl, by decide, by decide⟩⟩ (x_cs.mono B.2.2.2.2.2 (y_mon B hI)) (fun t' x' v' u' ty' ft' h1 h2 h3 h4 h5 h6 h7 => by cases h1; cases h2.symm.trans ht0; cases h3.symm.trans hs0; cases h4.symm.trans hve0; cases h5.symm.trans hnu0; cases t_uniq h7 hA0 h6 hcn; exact ⟨it.toInt.toNat, 2, _, _, _, _, _, _, rfl, ⟨hgd, hnx9, by decide⟩, fun q9 => absurd q9 (by decide), fun _ => ⟨rfl, by rw [hsc1]⟩, by omega, hsi_items, hsi_start, hA_ve, hA_nu, hvn⟩) (Nat.le_refl _) (Nat.le_refl _) eX_d108
    · have q59_ : k.toInt < r56.toInt := Int.not_le.mp fun q => q59 (x_le32.mpr q)
      refine lv_aload_n hx hb eX_d62 rfl (lv_at hl 2 rfl) ?_
      refine y_getf X (fl_rd_233s X.2.2.2.2.1) hI.1 hY_this rfl hsi_token eX_d63 ?_
      refine lv_iconst hx hb eX_d66 (v := 2) (by decide) ?_
      have ec2 : (2 : Int32).toInt = 2 := by decide
      refine lv_icmp_eq hx hb eX_d67 (tgt := 72) (by decide) (fun q67 => ?_) (fun q67 => ?_)
      · have q67_ : tk.toInt = (2 : Int32).toInt := by rw [q67]
        refine lv_aload_n hx hb eX_d72 rfl (lv_at hl 2 rfl) ?_
        refine y_getf X (fl198 X.2.2.2.2.1) hI.1 hY_this rfl hs_nu eX_d73 ?_
        refine lv_iconst hx hb eX_d76 (v := 4) (by decide) ?_
        have ec4 : (4 : Int32).toInt = 4 := by decide
        refine lv_aload_n hx hb eX_d77 rfl (lv_at hl 2 rfl) ?_
        refine y_getf X (fl_rd_234s X.2.2.2.2.1) hI.1 hY_this rfl hsi_items eX_d78 ?_
        refine lv_imul hx hb eX_d81 ?_
        generalize hg_z81 : (4 : Int32) * it = z81
        have h_z81 : z81.toInt = 4 * it.toInt := by rw [← hg_z81]; have := y_mul (x := (4 : Int32)) (y := it) (by rw [ec4]; omega) (by rw [ec4]; omega); rw [ec4] at this; exact this
        refine lv_iload_n hx hb eX_d82 rfl (lv_at hl 0 rfl) ?_
        refine lv_iadd hx hb eX_d83 ?_
        generalize hg_z83 : z81 + k = z83
        have h_z83 : z83.toInt = z81.toInt + k.toInt := by rw [← hg_z83]; have := y_add (x := z81) (y := k) (by omega) (by omega); exact this
        refine lv_aload_n hx hb eX_d84 rfl (lv_at hl 2 rfl) ?_
        refine y_getf X (fl_rd_236s X.2.2.2.2.1) hI.1 hY_this rfl hsi_value eX_d85 ?_
        refine y_iast X hY0 hI hY_nu rfl hA_nu (by omega) (by show _ < (960 : Int); omega) ⟨_, rfl, x_i32 _⟩ (by decide +kernel) eX_d88 fun H locs hI h_new ho => ?_
        replace hA_nu := h_new
        generalize hf_f88 : y_up fu z83.toInt.toNat va = f88 at hA_nu
        replace hs_tx := y_slk hs_tx (ho _ (y_ne hY_this hY_nu rfl))
        replace hs_ve := y_slk hs_ve (ho _ (y_ne hY_this hY_nu rfl))
        replace hs_nu := y_slk hs_nu (ho _ (y_ne hY_this hY_nu rfl))
        replace hsi_at := y_slk hsi_at (ho _ (y_ne hY_this hY_nu rfl))
        replace hsi_typed := y_slk hsi_typed (ho _ (y_ne hY_this hY_nu rfl))
        replace hsi_token := y_slk hsi_token (ho _ (y_ne hY_this hY_nu rfl))
        replace hsi_items := y_slk hsi_items (ho _ (y_ne hY_this hY_nu rfl))
        replace hsi_start := y_slk hsi_start (ho _ (y_ne hY_this hY_nu rfl))
        replace hsi_value := y_slk hsi_value (ho _ (y_ne hY_this hY_nu rfl))
        replace hA_tx := hA_tx.kept (ho _ (y_ne hY_tx hY_nu rfl))
        replace hA_ve := hA_ve.kept (ho _ (y_ne hY_ve hY_nu rfl))
        refine lv_aload_n hx hb eX_d89 rfl (lv_at hl 2 rfl) ?_
        refine y_call (z := (0, 213, 1, some 17, xMsc)) (av := [.ref this]) (rest := []) (y_cokV (n := 0) (ci := 12) X ym_scanX rfl rfl rfl (x_cons (x_bw74 11 rfl rfl) (x_cons (x_bw74 13 rfl rfl) (x_cons (x_at 45 (by decide +kernel) rfl) (x_cons (x_bw0 9 rfl rfl) x_nilm)))) (x_bw74 14 rfl rfl) (by decide +kernel) ⟨Nat.le_of_ble_eq_true rfl, Nat.le_of_ble_eq_true rfl⟩) hY0 hI rfl eX_d90 hl.1 (Nat.le_of_ble_eq_true rfl) (Nat.le_of_ble_eq_true rfl) (Nat.le_of_ble_eq_true rfl) (y_cons (y_cref hY_this rfl) y_nil) rfl (y_recv rfl hY_this) (fun this' at' ty' h1 h2 h3 => by cases h1; cases h2.symm.trans hsi_at; cases h3.symm.trans hsi_typed; omega) (y_sub_ef rfl) fun v Yn o Hn L ho hr ha hIn hx_ hE hP => ?_
        have hPs := hP _ _ _ _ _ rfl hsi_at hsi_typed hs_tx hcn hA_tx
        replace hs_tx := y_Efld hE hY_this rfl (by decide) (by decide) hs_tx
        replace hs_ve := y_Efld hE hY_this rfl (by decide) (by decide) hs_ve
        replace hs_nu := y_Efld hE hY_this rfl (by decide) (by decide) hs_nu
        replace hsi_typed := y_Efld hE hY_this rfl (by decide) (by decide) hsi_typed
        replace hsi_items := y_Efld hE hY_this rfl (by decide) (by decide) hsi_items
        replace hA_tx := hA_tx.kept (y_Earr hE hY_tx rfl (by decide))
        replace hA_ve := hA_ve.kept (y_Earr hE hY_ve rfl (by decide))
        replace hA_nu := hA_nu.kept (y_Earr hE hY_nu rfl (by decide))
        replace hY_this := y_ext hx_ hI.1 hY_this
        replace hY_tx := y_ext hx_ hI.1 hY_tx
        replace hY_ve := y_ext hx_ hI.1 hY_ve
        replace hY_nu := y_ext hx_ hI.1 hY_nu
        obtain rfl := y_ansV rfl ho hr
        obtain ⟨at90, st90, tk90, va90, hsi_at, hsi_start, hsi_token, hsi_value, hsc90⟩ := hPs
        clear ho hr ha hE hP hI hx_
        rename x_I _ _ _ _ _ _ _ _ _ _ => hI
        obtain ⟨z93, hg_z93⟩ : ∃ z93 : Int32, k + Int32.ofInt 1 = z93 := ⟨_, rfl⟩
        have h_z93 : z93.toInt = k.toInt + 1 := by rw [← hg_z93]; exact y_inc (by decide) (by omega) (by omega)
        refine lv_iinc hx hb eX_d93 hl (k := 0) rfl hg_z93 (by decide) (lv' := [(2, .int z93), (1, .int verb), (0, .ref this)]) rfl fun ls hl => ?_
        refine lv_goto hx hb eX_d96 (tgt := 54) (by decide) ?_
        have hk2 : (t_tok ft ty.toInt.toNat (t_ap ft ty.toInt.toNat k.toInt.toNat (t_tok ft ty.toInt.toNat (t_ip ft ty.toInt.toNat it.toInt.toNat)).2)).1 = 2 := t_tk_2.mp (by rw [← hsc3, q67]; decide)
        have hva := hsc.2.2.2 hk2
        have hks : z93.toInt.toNat = k.toInt.toNat + 1 := by omega
        exact ih _ _ _ _ _ _ _ _ _ _ hI hY_this hY_tx hY_ve hY_nu hs_tx hs_ve hs_nu hsi_at hsi_typed hsi_token hsi_items hsi_start hsi_value hA_tx hA_ve hA_nu (lv_sub hl [0, 1, 2] rfl) (by first | assumption | omega) (by rw [hks]; show t_sc ft ty.toInt.toNat (t_tok ft ty.toInt.toNat (t_ap ft ty.toInt.toNat k.toInt.toNat (t_tok ft ty.toInt.toNat (t_ip ft ty.toInt.toNat it.toInt.toNat)).2)).2 at90 st90 tk90 va90; rw [← show at_.toInt.toNat = (t_tok ft ty.toInt.toNat (t_ap ft ty.toInt.toNat k.toInt.toNat (t_tok ft ty.toInt.toNat (t_ip ft ty.toInt.toNat it.toInt.toNat)).2)).2 by omega]; exact hsc90) (by rw [har, show (t_cnt ft ty.toInt.toNat (t_ip ft ty.toInt.toNat it.toInt.toNat)) - k.toInt.toNat = ((t_cnt ft ty.toInt.toNat (t_ip ft ty.toInt.toNat it.toInt.toNat)) - z93.toInt.toNat) + 1 by omega, t_args_S hk2, hks]; rfl) (fun j hj => ⟨(hvn j hj).1, fun l l4 hl9 => by rw [← hf_f88, y_up_ne (by omega)]; exact (hvn j hj).2 l l4 hl9⟩) (fun l l4 hl9 => by rw [← hf_f88]; by_cases el : (l : Int) = k.toInt; (rw [show 4 * it.toInt.toNat + l = z83.toInt.toNat by omega, y_up_at, if_pos (by omega), hva, show l = k.toInt.toNat by omega]); rw [y_up_ne (by omega), hfu l l4 (by omega)]; by_cases hlt : (l : Int) < k.toInt; (rw [if_pos hlt, if_pos (by omega)]); rw [if_neg hlt, if_neg (by omega)]) (by omega)
      · have q67_ : ¬ tk.toInt = (2 : Int32).toInt := fun q => q67 (Int32.toInt_inj.mp q)
        refine lv_iconst hx hb eX_d70 (v := 0) (by decide) ?_
        have ec0 : (0 : Int32).toInt = 0 := by decide
        have hnx9 : t_nx ft ty.toInt.toNat (t_ip ft ty.toInt.toNat it.toInt.toNat) = (2, t_at ft ty.toInt.toNat (t_ap ft ty.toInt.toNat k.toInt.toNat (t_tok ft ty.toInt.toNat (t_ip ft ty.toInt.toNat it.toInt.toNat)).2)) := by rw [hnx0, har, show (t_cnt ft ty.toInt.toNat (t_ip ft ty.toInt.toNat it.toInt.toNat)) - k.toInt.toNat = ((t_cnt ft ty.toInt.toNat (t_ip ft ty.toInt.toNat it.toInt.toNat)) - k.toInt.toNat - 1) + 1 by omega]; exact t_args_F (fun q9 => q67 (Int32.toInt_inj.mp (by rw [hsc3, t_tk_2.mpr q9]; decide)))
        subst hav
        exact y_ireturn B hI rfl rfl rfl List.mem_cons_self ⟨_, rfl, ⟨_, rfl, by decide, by decide⟩⟩ (x_cs.mono B.2.2.2.2.2 (y_mon B hI)) (fun t' x' v' u' ty' ft' h1 h2 h3 h4 h5 h6 h7 => by cases h1; cases h2.symm.trans ht0; cases h3.symm.trans hs0; cases h4.symm.trans hve0; cases h5.symm.trans hnu0; cases t_uniq h7 hA0 h6 hcn; exact ⟨it.toInt.toNat, 2, _, _, _, _, _, _, rfl, ⟨hgd, hnx9, by decide⟩, fun q9 => absurd q9 (by decide), fun _ => ⟨rfl, by rw [hsc1]⟩, by omega, hsi_items, hsi_start, hA_ve, hA_nu, hvn⟩) (Nat.le_refl _) (Nat.le_refl _) eX_d71
theorem eX_L14 {p : Program} {l : Launch} {e : Env} {s : State} {m : MethodId} {below : List Frame} {meth : Method} {c : Code} {D : va_G} {U : State} {Y0 : xY} {av : List Value} (B : y_B vwCl x_Tb x_Nb xMrd p s m meth c D U Y0 av) {this tx ve nu : Nat} {ty : Int32} {ft : Nat → Int32} (hav : av = [.ref this]) (ht0 : x_sl D 12 10 this s.heap = some (.int ty)) (hs0 : x_sl D 12 9 this s.heap = some (.ref tx)) (hve0 : x_sl D 12 15 this s.heap = some (.ref ve)) (hnu0 : x_sl D 12 16 this s.heap = some (.ref nu)) (hcn : t_c ft) (hA0 : y_A tx 240 s.heap ft) (hty : 0 ≤ ty.toInt ∧ ty.toInt ≤ 240)  :
    ∀ (n : Nat), ∀ (H : Heap) (Y : xY) (locs : List Loc) (ls : Array Slot) (at_ : Int32) (tk : Int32) (it : Int32) (st : Int32) (va : Int32) (fv fu : Nat → Int32), x_I D x_G x_Zs U (x_efs xMrd) Y0 s.heap Y H locs → Y this = some 17 → Y tx = some 52 → Y ve = some 53 → Y nu = some 54 → x_sl D 12 9 this H = some (.ref tx) → x_sl D 12 15 this H = some (.ref ve) → x_sl D 12 16 this H = some (.ref nu) → x_sl D 12 11 this H = some (.int at_) → x_sl D 12 10 this H = some (.int ty) → x_sl D 12 13 this H = some (.int tk) → x_sl D 12 17 this H = some (.int it) → x_sl D 12 12 this H = some (.int st) → x_sl D 12 14 this H = some (.int va) → y_A tx 240 H ft → y_A ve 240 H fv → y_A nu 960 H fu → lv_has ls xMrd.2.2.1 [(0, .ref this)] → (0 ≤ it.toInt ∧ it.toInt ≤ 240) → (t_good ft ty.toInt.toNat it.toInt.toNat) → (t_sc ft ty.toInt.toNat (t_ip ft ty.toInt.toNat it.toInt.toNat) at_ st tk va) → (t_vn ft ty.toInt.toNat it.toInt.toNat fv fu) → (241 - it.toInt).toNat < n → W p l e (x_rm xMrd) s m av.toArray below meth c H locs 0 0 (y_QQ below D x_G x_Zs U xMrd z_PrdX av Y0 s) (F0 m 14 ls []) := by
  have X := B.1
  have hx := X.1
  have hb := X.2.1
  have hY0 := B.2.2.2.2.1
  intro n
  induction n with
  | zero => intro _ _ _ _ _ _ _ _ _ _ _ _ _ _ _ _ _ _ _ _ _ _ _ _ _ _ _ _ _ _ _ _ _ h; exact absurd h (Nat.not_lt_zero _)
  | succ n ih =>
    intro H Y locs ls at_ tk it st va fv fu hI hY_this hY_tx hY_ve hY_nu hs_tx hs_ve hs_nu hsi_at hsi_typed hsi_token hsi_items hsi_start hsi_value hA_tx hA_ve hA_nu hl hit hgd hsc hvn hn
    have hgl := t_good_le it.toInt.toNat hgd
    have hsl := t_tok_le (t := ft) hgl.2
    have hsc1 := hsc.1
    have hsc2 := hsc.2.1
    have hsc3 := hsc.2.2.1
    refine lv_aload_n hx hb eX_d14 rfl (lv_at hl 0 rfl) ?_
    refine y_getf X (fl_rd_233s X.2.2.2.2.1) hI.1 hY_this rfl hsi_token eX_d15 ?_
    have ec0 : (0 : Int32).toInt = 0 := by decide
    refine lv_if_eq hx hb eX_d18 (tgt := 136) (by decide) (fun q18 => ?_) (fun q18 => ?_)
    · have q18_ : tk.toInt = (0 : Int32).toInt := by rw [q18]
      refine lv_iconst hx hb eX_d136 (v := 1) (by decide) ?_
      have ec1 : (1 : Int32).toInt = 1 := by decide
      have hnx9 := t_nx_end (t := ft) (n := ty.toInt.toNat) (p := (t_ip ft ty.toInt.toNat it.toInt.toNat)) (t_tk_0.mp (by rw [← hsc3, q18]; decide))
      subst hav
      exact y_ireturn B hI rfl rfl rfl List.mem_cons_self ⟨_, rfl, ⟨_, rfl, by decide, by decide⟩⟩ (x_cs.mono B.2.2.2.2.2 (y_mon B hI)) (fun t' x' v' u' ty' ft' h1 h2 h3 h4 h5 h6 h7 => by cases h1; cases h2.symm.trans ht0; cases h3.symm.trans hs0; cases h4.symm.trans hve0; cases h5.symm.trans hnu0; cases t_uniq h7 hA0 h6 hcn; exact ⟨it.toInt.toNat, 0, _, _, _, _, _, _, rfl, ⟨hgd, hnx9, by decide⟩, fun _ => rfl, fun q9 => absurd q9 (by decide), by omega, hsi_items, hsi_start, hA_ve, hA_nu, hvn⟩) (Nat.le_refl _) (Nat.le_refl _) eX_d137
    · have q18_ : ¬ tk.toInt = (0 : Int32).toInt := fun q => q18 (Int32.toInt_inj.mp q)
      refine lv_aload_n hx hb eX_d21 rfl (lv_at hl 0 rfl) ?_
      refine y_getf X (fl_rd_233s X.2.2.2.2.1) hI.1 hY_this rfl hsi_token eX_d22 ?_
      refine lv_istore_n hx hb eX_d25 rfl hl (by decide) (lv' := [(1, .int tk), (0, .ref this)]) rfl fun ls hl => ?_
      refine lv_iload_n hx hb eX_d26 rfl (lv_at hl 0 rfl) ?_
      refine lv_bipush hx hb eX_d27 (v := 10) (by decide) ?_
      have ec10 : (10 : Int32).toInt = 10 := by decide
      refine lv_icmp_ge hx hb eX_d29 (tgt := 34) (by decide) (fun q29 => ?_) (fun q29 => ?_)
      · have q29_ : (10 : Int32).toInt ≤ tk.toInt := x_le32.mp q29
        have hw9 := t_tk_lt (t := ft) (n := ty.toInt.toNat) (p := (t_ip ft ty.toInt.toNat it.toInt.toNat)) (by rw [← hsc3]; omega)
        have hlt1 := hsl.2.2.2 (by omega)
        refine lv_aload_n hx hb eX_d34 rfl (lv_at hl 1 rfl) ?_
        refine y_call (z := (0, 213, 1, some 17, xMsc)) (av := [.ref this]) (rest := []) (y_cokV (n := 0) (ci := 12) X ym_scanX rfl rfl rfl (x_cons (x_bw74 11 rfl rfl) (x_cons (x_bw74 13 rfl rfl) (x_cons (x_at 45 (by decide +kernel) rfl) (x_cons (x_bw0 9 rfl rfl) x_nilm)))) (x_bw74 14 rfl rfl) (by decide +kernel) ⟨Nat.le_of_ble_eq_true rfl, Nat.le_of_ble_eq_true rfl⟩) hY0 hI rfl eX_d35 hl.1 (Nat.le_of_ble_eq_true rfl) (Nat.le_of_ble_eq_true rfl) (Nat.le_of_ble_eq_true rfl) (y_cons (y_cref hY_this rfl) y_nil) rfl (y_recv rfl hY_this) (fun this' at' ty' h1 h2 h3 => by cases h1; cases h2.symm.trans hsi_at; cases h3.symm.trans hsi_typed; omega) (y_sub_ef rfl) fun v Yn o Hn L ho hr ha hIn hx_ hE hP => ?_
        have hPs := hP _ _ _ _ _ rfl hsi_at hsi_typed hs_tx hcn hA_tx
        replace hs_tx := y_Efld hE hY_this rfl (by decide) (by decide) hs_tx
        replace hs_ve := y_Efld hE hY_this rfl (by decide) (by decide) hs_ve
        replace hs_nu := y_Efld hE hY_this rfl (by decide) (by decide) hs_nu
        replace hsi_typed := y_Efld hE hY_this rfl (by decide) (by decide) hsi_typed
        replace hsi_items := y_Efld hE hY_this rfl (by decide) (by decide) hsi_items
        replace hA_tx := hA_tx.kept (y_Earr hE hY_tx rfl (by decide))
        replace hA_ve := hA_ve.kept (y_Earr hE hY_ve rfl (by decide))
        replace hA_nu := hA_nu.kept (y_Earr hE hY_nu rfl (by decide))
        replace hY_this := y_ext hx_ hI.1 hY_this
        replace hY_tx := y_ext hx_ hI.1 hY_tx
        replace hY_ve := y_ext hx_ hI.1 hY_ve
        replace hY_nu := y_ext hx_ hI.1 hY_nu
        obtain rfl := y_ansV rfl ho hr
        obtain ⟨at35, st35, tk35, va35, hsi_at, hsi_start, hsi_token, hsi_value, hsc35⟩ := hPs
        clear ho hr ha hE hP hI hx_
        rename x_I _ _ _ _ _ _ _ _ _ _ => hI
        refine lv_aload_n hx hb eX_d38 rfl (lv_at hl 1 rfl) ?_
        refine y_getf X (fl198 X.2.2.2.2.1) hI.1 hY_this rfl hs_nu eX_d39 ?_
        refine lv_iconst hx hb eX_d42 (v := 4) (by decide) ?_
        have ec4 : (4 : Int32).toInt = 4 := by decide
        refine lv_aload_n hx hb eX_d43 rfl (lv_at hl 1 rfl) ?_
        refine y_getf X (fl_rd_234s X.2.2.2.2.1) hI.1 hY_this rfl hsi_items eX_d44 ?_
        refine lv_imul hx hb eX_d47 ?_
        generalize hg_z47 : (4 : Int32) * it = z47
        have h_z47 : z47.toInt = 4 * it.toInt := by rw [← hg_z47]; have := y_mul (x := (4 : Int32)) (y := it) (by rw [ec4]; omega) (by rw [ec4]; omega); rw [ec4] at this; exact this
        refine lv_iconst hx hb eX_d48 (v := 3) (by decide) ?_
        have ec3 : (3 : Int32).toInt = 3 := by decide
        refine lv_iadd hx hb eX_d49 ?_
        generalize hg_z49 : z47 + (3 : Int32) = z49
        have h_z49 : z49.toInt = z47.toInt + 3 := by rw [← hg_z49]; have := y_add (x := z47) (y := (3 : Int32)) (by rw [ec3]; omega) (by rw [ec3]; omega); rw [ec3] at this; exact this
        refine lv_iconst hx hb eX_d50 (v := 0) (by decide) ?_
        refine y_iast X hY0 hI hY_nu rfl hA_nu (by omega) (by show _ < (960 : Int); omega) ⟨_, rfl, x_i32 _⟩ (by decide +kernel) eX_d51 fun H locs hI h_new ho => ?_
        replace hA_nu := h_new
        generalize hf_f51 : y_up fu z49.toInt.toNat (0 : Int32) = f51 at hA_nu
        replace hs_tx := y_slk hs_tx (ho _ (y_ne hY_this hY_nu rfl))
        replace hs_ve := y_slk hs_ve (ho _ (y_ne hY_this hY_nu rfl))
        replace hs_nu := y_slk hs_nu (ho _ (y_ne hY_this hY_nu rfl))
        replace hsi_typed := y_slk hsi_typed (ho _ (y_ne hY_this hY_nu rfl))
        replace hsi_items := y_slk hsi_items (ho _ (y_ne hY_this hY_nu rfl))
        replace hsi_at := y_slk hsi_at (ho _ (y_ne hY_this hY_nu rfl))
        replace hsi_start := y_slk hsi_start (ho _ (y_ne hY_this hY_nu rfl))
        replace hsi_token := y_slk hsi_token (ho _ (y_ne hY_this hY_nu rfl))
        replace hsi_value := y_slk hsi_value (ho _ (y_ne hY_this hY_nu rfl))
        replace hA_tx := hA_tx.kept (ho _ (y_ne hY_tx hY_nu rfl))
        replace hA_ve := hA_ve.kept (ho _ (y_ne hY_ve hY_nu rfl))
        refine lv_iconst hx hb eX_d52 (v := 0) (by decide) ?_
        refine lv_istore_n hx hb eX_d53 rfl hl (by decide) (lv' := [(2, .int (0 : Int32)), (1, .int tk), (0, .ref this)]) rfl fun ls hl => ?_
        exact eX_L54 B hav ht0 hs0 hve0 hnu0 hcn hA0 hty hit hgd ⟨hw9.1, hw9.2.1⟩ (by rw [hsc3]; exact hw9.2.2) (fun H Y locs ls at1 tk1 it1 st1 va1 fv1 fu1 hI hY_this hY_tx hY_ve hY_nu hs_tx hs_ve hs_nu hsi_at hsi_typed hsi_token hsi_items hsi_start hsi_value hA_tx hA_ve hA_nu hl hit hgd hsc hvn hi1 => ih _ _ _ _ _ _ _ _ _ _ _ hI hY_this hY_tx hY_ve hY_nu hs_tx hs_ve hs_nu hsi_at hsi_typed hsi_token hsi_items hsi_start hsi_value hA_tx hA_ve hA_nu hl hit hgd hsc hvn (by omega)) 6 _ _ _ _ _ _ _ _ _ _ hI hY_this hY_tx hY_ve hY_nu hs_tx hs_ve hs_nu hsi_at hsi_typed hsi_token hsi_items hsi_start hsi_value hA_tx hA_ve hA_nu (lv_sub hl [0, 1, 2] rfl) ⟨by omega, by omega⟩ (by show t_sc ft ty.toInt.toNat (t_tok ft ty.toInt.toNat (t_ip ft ty.toInt.toNat it.toInt.toNat)).2 at35 st35 tk35 va35; rw [← show at_.toInt.toNat = (t_tok ft ty.toInt.toNat (t_ip ft ty.toInt.toNat it.toInt.toNat)).2 by omega]; exact hsc35) rfl (fun j hj => ⟨(hvn j hj).1, fun l l4 hl9 => by rw [← hf_f51, y_up_ne (by omega)]; exact (hvn j hj).2 l l4 hl9⟩) (fun l l4 hl9 => by rw [if_neg (by omega), ← hf_f51, show 4 * it.toInt.toNat + l = z49.toInt.toNat by omega, y_up_at]; decide) (by omega)
      · have q29_ : tk.toInt < (10 : Int32).toInt := Int.not_le.mp fun q => q29 (x_le32.mpr q)
        refine lv_iconst hx hb eX_d32 (v := 0) (by decide) ?_
        have hnx9 := t_nx_bad (t := ft) (n := ty.toInt.toNat) (p := (t_ip ft ty.toInt.toNat it.toInt.toNat)) (fun q9 => q18 (Int32.toInt_inj.mp (by rw [hsc3, t_tk_0.mpr q9]; decide))) (t_tk_not (by omega))
        subst hav
        exact y_ireturn B hI rfl rfl rfl List.mem_cons_self ⟨_, rfl, ⟨_, rfl, by decide, by decide⟩⟩ (x_cs.mono B.2.2.2.2.2 (y_mon B hI)) (fun t' x' v' u' ty' ft' h1 h2 h3 h4 h5 h6 h7 => by cases h1; cases h2.symm.trans ht0; cases h3.symm.trans hs0; cases h4.symm.trans hve0; cases h5.symm.trans hnu0; cases t_uniq h7 hA0 h6 hcn; exact ⟨it.toInt.toNat, 2, _, _, _, _, _, _, rfl, ⟨hgd, hnx9, by decide⟩, fun q9 => absurd q9 (by decide), fun _ => ⟨rfl, by rw [hsc1]⟩, by omega, hsi_items, hsi_start, hA_ve, hA_nu, hvn⟩) (Nat.le_refl _) (Nat.le_refl _) eX_d33
theorem ym_readX : y_Met vwCl x_G x_Zs x_Tb x_Nb xMrd y_T z_PrdX := by
  refine y_main (by decide +kernel) (by decide +kernel) x_Tb_good x_Nb_ok ?_
  intro p l e s m below meth c D U Y0 av ls B hI hpre hl
  have X := B.1
  have hx := X.1
  have hb := X.2.1
  have hY0 := B.2.2.2.2.1
  obtain ⟨v0, rfl, hv0⟩ := x_one B.2.2.2.2.2
  obtain ⟨this, t0, rfl, ht0, hY_this⟩ := x_ref_at hv0 rfl
  obtain rfl := List.mem_singleton.mp ht0
  replace hl : lv_has ls xMrd.2.2.1 [(0, .ref this)] := hl
  obtain ⟨ty, hsi_typed, hty⟩ := y_fldI (k := 10) hI.1 hY_this rfl rfl
  replace hty : (0 : Int) ≤ ty.toInt ∧ ty.toInt ≤ 240 := hty
  obtain ⟨tx, hs_tx, hY_tx⟩ := y_fldR (k := 9) hI.1 hY_this rfl rfl
  obtain ⟨ve, hs_ve, hY_ve⟩ := y_fldR (k := 15) hI.1 hY_this rfl rfl
  obtain ⟨nu, hs_nu, hY_nu⟩ := y_fldR (k := 16) hI.1 hY_this rfl rfl
  obtain ⟨ft9, hA9, -⟩ := y_arr hI.1 hY_tx rfl rfl
  obtain ⟨ft, hcn, hA_tx⟩ := t_canon hA9
  obtain ⟨fv, hA_ve, -⟩ := y_arr hI.1 hY_ve rfl rfl
  obtain ⟨fu, hA_nu, -⟩ := y_arr hI.1 hY_nu rfl rfl
  have ht0 := hsi_typed
  have hs0 := hs_tx
  have hve0 := hs_ve
  have hnu0 := hs_nu
  have hA0 := hA_tx
  refine lv_aload_n hx hb eX_d0 rfl (lv_at hl 0 rfl) ?_
  refine lv_iconst hx hb eX_d1 (v := 0) (by decide) ?_
  have ec0 : (0 : Int32).toInt = 0 := by decide
  refine y_putf X (fw_rd_237s X.2.2.2.2.1) hY0 hI hY_this rfl rfl ⟨_, rfl, by show (0 : Int) ≤ _; omega, by show _ ≤ (240 : Int); omega⟩ (by decide +kernel) eX_d2 fun H sl hI ho hs hk => ?_
  replace hs_tx := hk _ _ (by decide +kernel) (by decide) hs_tx
  replace hs_ve := hk _ _ (by decide +kernel) (by decide) hs_ve
  replace hs_nu := hk _ _ (by decide +kernel) (by decide) hs_nu
  replace hsi_typed := hk _ _ (by decide +kernel) (by decide) hsi_typed
  replace hA_tx := hA_tx.kept (ho _ (y_ne hY_tx hY_this rfl))
  replace hA_ve := hA_ve.kept (ho _ (y_ne hY_ve hY_this rfl))
  replace hA_nu := hA_nu.kept (ho _ (y_ne hY_nu hY_this rfl))
  replace hs := hs
  have hs2 := hs
  refine lv_aload_n hx hb eX_d5 rfl (lv_at hl 0 rfl) ?_
  refine lv_iconst hx hb eX_d6 (v := 0) (by decide) ?_
  refine y_putf X (fw_rd_235s X.2.2.2.2.1) hY0 hI hY_this rfl rfl ⟨_, rfl, by show (0 : Int) ≤ _; omega, by show _ ≤ (240 : Int); omega⟩ (by decide +kernel) eX_d7 fun H sl hI ho hs hk => ?_
  replace hs_tx := hk _ _ (by decide +kernel) (by decide) hs_tx
  replace hs_ve := hk _ _ (by decide +kernel) (by decide) hs_ve
  replace hs_nu := hk _ _ (by decide +kernel) (by decide) hs_nu
  replace hsi_typed := hk _ _ (by decide +kernel) (by decide) hsi_typed
  replace hs2 := hk _ _ (by decide +kernel) (by decide) hs2
  replace hA_tx := hA_tx.kept (ho _ (y_ne hY_tx hY_this rfl))
  replace hA_ve := hA_ve.kept (ho _ (y_ne hY_ve hY_this rfl))
  replace hA_nu := hA_nu.kept (ho _ (y_ne hY_nu hY_this rfl))
  replace hs := hs
  have hs7 := hs
  refine lv_aload_n hx hb eX_d10 rfl (lv_at hl 0 rfl) ?_
  refine y_call (z := (0, 213, 1, some 17, xMsc)) (av := [.ref this]) (rest := []) (y_cokV (n := 0) (ci := 12) X ym_scanX rfl rfl rfl (x_cons (x_bw74 11 rfl rfl) (x_cons (x_bw74 13 rfl rfl) (x_cons (x_at 45 (by decide +kernel) rfl) (x_cons (x_bw0 9 rfl rfl) x_nilm)))) (x_bw74 14 rfl rfl) (by decide +kernel) ⟨Nat.le_of_ble_eq_true rfl, Nat.le_of_ble_eq_true rfl⟩) hY0 hI rfl eX_d11 hl.1 (Nat.le_of_ble_eq_true rfl) (Nat.le_of_ble_eq_true rfl) (Nat.le_of_ble_eq_true rfl) (y_cons (y_cref hY_this rfl) y_nil) rfl (y_recv rfl hY_this) (fun this' at' ty' h1 h2 h3 => by cases h1; cases h2.symm.trans hs2; cases h3.symm.trans hsi_typed; omega) (y_sub_ef rfl) fun v Yn o Hn L ho hr ha hIn hx_ hE hP => ?_
  have hPs := hP _ _ _ _ _ rfl hs2 hsi_typed hs_tx hcn hA_tx
  replace hs_tx := y_Efld hE hY_this rfl (by decide) (by decide) hs_tx
  replace hs_ve := y_Efld hE hY_this rfl (by decide) (by decide) hs_ve
  replace hs_nu := y_Efld hE hY_this rfl (by decide) (by decide) hs_nu
  replace hsi_typed := y_Efld hE hY_this rfl (by decide) (by decide) hsi_typed
  replace hs7 := y_Efld hE hY_this rfl (by decide) (by decide) hs7
  replace hA_tx := hA_tx.kept (y_Earr hE hY_tx rfl (by decide))
  replace hA_ve := hA_ve.kept (y_Earr hE hY_ve rfl (by decide))
  replace hA_nu := hA_nu.kept (y_Earr hE hY_nu rfl (by decide))
  replace hY_this := y_ext hx_ hI.1 hY_this
  replace hY_tx := y_ext hx_ hI.1 hY_tx
  replace hY_ve := y_ext hx_ hI.1 hY_ve
  replace hY_nu := y_ext hx_ hI.1 hY_nu
  obtain rfl := y_ansV rfl ho hr
  obtain ⟨at11, st11, tk11, va11, hsi_at, hsi_start, hsi_token, hsi_value, hsc11⟩ := hPs
  clear ho hr ha hE hP hI hx_
  rename x_I _ _ _ _ _ _ _ _ _ _ => hI
  have hsi_items := hs7
  exact eX_L14 B rfl ht0 hs0 hve0 hnu0 hcn hA0 hty 242 _ _ _ _ _ _ _ _ _ _ _ hI hY_this hY_tx hY_ve hY_nu hs_tx hs_ve hs_nu hsi_at hsi_typed hsi_token hsi_items hsi_start hsi_value hA_tx hA_ve hA_nu (lv_sub hl [0] rfl) ⟨by decide, by decide⟩ (fun j hj => absurd hj (Nat.not_lt_zero _)) hsc11 (fun j hj => absurd hj (Nat.not_lt_zero _)) (by omega)

