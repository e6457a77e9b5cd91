
/-! THE NIGHT: lit, the first hour that is not lawful, how many are -/
def m_chg (f : Nat → Int32) (k : Nat) : Int32 := if 0 ≤ (f (136 + 2 * k)).toInt ∧ (f (136 + 2 * k)).toInt < (f 0).toInt then 1 <<< (f (136 + 2 * k) &&& 31) else 0
def m_lit (f : Nat → Int32) (w : Int32) : Nat → Int32
  | 0 => w
  | k + 1 => m_lit f w k ^^^ m_chg f k
/-- one is lit that is, put out that is not -/
def m_nbad (f : Nat → Int32) (w : Int32) (k : Nat) : Prop := ¬ m_chg f k = 0 ∧ ((¬ m_lit f w k &&& m_chg f k = 0) ↔ f (137 + 2 * k) = 1)
def m_nok (c : Int32 → Nat → Bool) (f : Nat → Int32) (w : Int32) (k : Nat) : Bool := c (m_lit f w (k + 1)) k
def m_nfst (c : Nat → Bool) : Nat → Int32
  | 0 => -1
  | k + 1 => if m_nfst c k = -1 ∧ c k = false then nI k else m_nfst c k
def m_ngd (c : Nat → Bool) : Nat → Int32
  | 0 => 0
  | k + 1 => if c k then m_ngd c k + 1 else m_ngd c k
def m_nt (c : Int32 → Nat → Bool) (f : Nat → Int32) (w t r : Int32) : Prop := (m_isS f w ∧ 0 ≤ t.toInt ∧ t.toInt ≤ 2 → (∀ k, k < 12 → (∀ j, j < k → ¬ m_nbad f w j) → m_nbad f w k → r = -3) ∧ ((∀ k, k < 12 → ¬ m_nbad f w k) → (t = 0 → r = m_nfst (m_nok c f w) 12) ∧ (t = 1 → r = m_ngd (m_nok c f w) 12) ∧ (¬ t = 0 → ¬ t = 1 → r = m_lit f w 12))) ∧ (¬ (m_isS f w ∧ 0 ≤ t.toInt ∧ t.toInt ≤ 2) → r = -2)
def m_ntC (f : Nat → Int32) (w : Int32) (k : Nat) : Bool := m_lc (m_VC f (f 4) (f (116 + k)) 0) w
def z_PThours : yP := fun D av Y H v _ _ => ∀ (this : Nat) (w : Int32) (f : Nat → Int32) (K : Nat → Option (Nat → Int32)) (t9 : Nat → Int32) (n9 : Int32), av = [.ref this, .int w] → z_RC D Y H this f K t9 n9 → ∃ r : Int32, v = some (.int r) ∧ m_bitsOf (m_isS f w) (m_hrC f w) 12 r
theorem hoq_d0 : decode xM82.2.1 0 = .ok (.aload_n 0, 1) := dz_ok (by decide +kernel)
theorem hoq_d1 : decode xM82.2.1 1 = .ok (.getfield 12, 3) := dz_ok (by decide +kernel)
theorem hoq_d4 : decode xM82.2.1 4 = .ok (.iload_n 1, 1) := dz_ok (by decide +kernel)
theorem hoq_d5 : decode xM82.2.1 5 = .ok (.invokevirtual 169, 3) := dz_ok (by decide +kernel)
theorem hoq_d8 : decode xM82.2.1 8 = .ok (.ifCond .ne 10, 3) := dz_ok (by decide +kernel)
theorem hoq_d11 : decode xM82.2.1 11 = .ok (.aload_n 0, 1) := dz_ok (by decide +kernel)
theorem hoq_d12 : decode xM82.2.1 12 = .ok (.bipush (-2), 2) := dz_ok (by decide +kernel)
theorem hoq_d14 : decode xM82.2.1 14 = .ok (.invokevirtual 59, 3) := dz_ok (by decide +kernel)
theorem hoq_d17 : decode xM82.2.1 17 = .ok (.ireturn, 1) := dz_ok (by decide +kernel)
theorem hoq_d18 : decode xM82.2.1 18 = .ok (.aload_n 0, 1) := dz_ok (by decide +kernel)
theorem hoq_d19 : decode xM82.2.1 19 = .ok (.getfield 33, 3) := dz_ok (by decide +kernel)
theorem hoq_d22 : decode xM82.2.1 22 = .ok (.aload_n 0, 1) := dz_ok (by decide +kernel)
theorem hoq_d23 : decode xM82.2.1 23 = .ok (.getfield 12, 3) := dz_ok (by decide +kernel)
theorem hoq_d26 : decode xM82.2.1 26 = .ok (.aload_n 0, 1) := dz_ok (by decide +kernel)
theorem hoq_d27 : decode xM82.2.1 27 = .ok (.getfield 12, 3) := dz_ok (by decide +kernel)
theorem hoq_d30 : decode xM82.2.1 30 = .ok (.getfield 95, 3) := dz_ok (by decide +kernel)
theorem hoq_d33 : decode xM82.2.1 33 = .ok (.iconst 0, 1) := dz_ok (by decide +kernel)
theorem hoq_d34 : decode xM82.2.1 34 = .ok (.iaload, 1) := dz_ok (by decide +kernel)
theorem hoq_d35 : decode xM82.2.1 35 = .ok (.invokevirtual 200, 3) := dz_ok (by decide +kernel)
theorem hoq_d38 : decode xM82.2.1 38 = .ok (.iconst 0, 1) := dz_ok (by decide +kernel)
theorem hoq_d39 : decode xM82.2.1 39 = .ok (.istore_n 2, 1) := dz_ok (by decide +kernel)
theorem hoq_d40 : decode xM82.2.1 40 = .ok (.iconst 0, 1) := dz_ok (by decide +kernel)
theorem hoq_d41 : decode xM82.2.1 41 = .ok (.istore_n 3, 1) := dz_ok (by decide +kernel)
theorem hoq_d42 : decode xM82.2.1 42 = .ok (.iload_n 3, 1) := dz_ok (by decide +kernel)
theorem hoq_d43 : decode xM82.2.1 43 = .ok (.bipush 12, 2) := dz_ok (by decide +kernel)
theorem hoq_d45 : decode xM82.2.1 45 = .ok (.if_icmp .ge 28, 3) := dz_ok (by decide +kernel)
theorem hoq_d48 : decode xM82.2.1 48 = .ok (.iload_n 2, 1) := dz_ok (by decide +kernel)
theorem hoq_d49 : decode xM82.2.1 49 = .ok (.aload_n 0, 1) := dz_ok (by decide +kernel)
theorem hoq_d50 : decode xM82.2.1 50 = .ok (.iload_n 3, 1) := dz_ok (by decide +kernel)
theorem hoq_d51 : decode xM82.2.1 51 = .ok (.iload_n 1, 1) := dz_ok (by decide +kernel)
theorem hoq_d52 : decode xM82.2.1 52 = .ok (.invokevirtual 210, 3) := dz_ok (by decide +kernel)
theorem hoq_d55 : decode xM82.2.1 55 = .ok (.ifCond .eq 9, 3) := dz_ok (by decide +kernel)
theorem hoq_d58 : decode xM82.2.1 58 = .ok (.iconst 1, 1) := dz_ok (by decide +kernel)
theorem hoq_d59 : decode xM82.2.1 59 = .ok (.iload_n 3, 1) := dz_ok (by decide +kernel)
theorem hoq_d60 : decode xM82.2.1 60 = .ok (.ishl, 1) := dz_ok (by decide +kernel)
theorem hoq_d61 : decode xM82.2.1 61 = .ok (.goto 4, 3) := dz_ok (by decide +kernel)
theorem hoq_d64 : decode xM82.2.1 64 = .ok (.iconst 0, 1) := dz_ok (by decide +kernel)
theorem hoq_d65 : decode xM82.2.1 65 = .ok (.ior, 1) := dz_ok (by decide +kernel)
theorem hoq_d66 : decode xM82.2.1 66 = .ok (.istore_n 2, 1) := dz_ok (by decide +kernel)
theorem hoq_d67 : decode xM82.2.1 67 = .ok (.iinc 3 1, 3) := dz_ok (by decide +kernel)
theorem hoq_d70 : decode xM82.2.1 70 = .ok (.goto (-28), 3) := dz_ok (by decide +kernel)
theorem hoq_d73 : decode xM82.2.1 73 = .ok (.iload_n 2, 1) := dz_ok (by decide +kernel)
theorem hoq_d74 : decode xM82.2.1 74 = .ok (.ireturn, 1) := dz_ok (by decide +kernel)
theorem hoq_L42 {p : Program} {l : Launch} {e : Env} {s : State} {m : MethodId} {below : List Frame} {meth : Method} {c : Code} {D : va_G} {U : State} {Y0 : xY} {av : List Value} (B : y_B vwCl x_Tb x_Nb xM82 p s m meth c D U Y0 av) {this ld ey vw en ed : Nat} {w : Int32} {f : Nat → Int32} {K : Nat → Option (Nat → Int32)} {tt : Nat → Int32} {nn : Int32} (hav : av = [.ref this, .int w]) (hR0 : z_RC D Y0 s.heap this f K tt nn) (hb0 : 0 ≤ (f 0).toInt ∧ (f 0).toInt ≤ 10) (hok : m_isS f w)  :
    ∀ (n : Nat), ∀ (H : Heap) (Y : xY) (locs : List Loc) (ls : Array Slot) (k : Int32) (al : Int32) (fn fd : Nat → Int32), x_I D x_G x_Zs U (x_efs xM82) Y0 s.heap Y H locs → Y this = some 0 → Y ld = some 2 → Y ey = some 6 → Y vw = some 32 → Y en = some 33 → Y ed = some 34 → x_sl D 11 0 this H = some (.ref ld) → x_sl D 11 4 this H = some (.ref ey) → x_sl D 0 1 ey H = some (.ref vw) → x_sl D 0 2 ey H = some (.ref en) → x_sl D 0 3 ey H = some (.ref ed) → y_A en 100 H fn → y_A ed 100 H fd → z_L D Y ld H f → lv_has ls xM82.2.2.1 [(3, .int k), (2, .int al), (0, .ref this), (1, .int w)] → (0 ≤ k.toInt ∧ k.toInt ≤ 12) → (∀ p q : Nat, p < q → (q : Int) < (f 0).toInt → m_gok fn fd f (f 4) p q) → (al = m_gg (m_hrC f w) 0 k.toInt.toNat) → (13 - k.toInt).toNat < n → W p l e (x_rm xM82) s m av.toArray below meth c H locs 0 0 (y_QQ below D x_G x_Zs U xM82 z_PThours av Y0 s) (F0 m 42 ls []) := by
  have X := B.1
  have hx := X.1
  have hb := X.2.1
  have hY0 := B.2.2.2.2.1
  intro n
  induction n with
  | zero => intro _ _ _ _ _ _ _ _ _ _ _ _ _ _ _ _ _ _ _ _ _ _ _ _ _ _ _ h; exact absurd h (Nat.not_lt_zero _)
  | succ n ih =>
    intro H Y locs ls k al fn fd hI hY_this hY_ld hY_ey hY_vw hY_en hY_ed hs_ld hs_ey hs_vw hs_en hs_ed hA_en hA_ed hL hl hk hok9 hal hn
    refine lv_iload_n hx hb hoq_d42 rfl (lv_at hl 0 rfl) ?_
    refine lv_bipush hx hb hoq_d43 (v := 12) (by decide) ?_
    have ec12 : (12 : Int32).toInt = 12 := by decide
    refine lv_icmp_ge hx hb hoq_d45 (tgt := 73) (by decide) (fun q45 => ?_) (fun q45 => ?_)
    · have q45_ : (12 : Int32).toInt ≤ k.toInt := x_le32.mp q45
      refine lv_iload_n hx hb hoq_d73 rfl (lv_at hl 1 rfl) ?_
      have hr9 : al = m_gg (m_hrC f w) 0 12 := by rw [hal, show k.toInt.toNat = 12 by omega]
      subst hav
      exact y_ireturn B hI rfl rfl rfl List.mem_cons_self ⟨_, rfl, ⟨_, rfl, x_i32 _⟩⟩ (x_cs.mono B.2.2.2.2.2 (y_mon B hI)) (fun t' w0' f' K' tt' nn' h1 h2 => by cases h1; obtain ⟨ef, -⟩ := hR0.eqs h2; subst ef; exact ⟨_, rfl, fun _ => hr9, fun q9 => absurd hok q9⟩) (Nat.le_refl _) (Nat.le_refl _) hoq_d74
    · have q45_ : k.toInt < (12 : Int32).toInt := Int.not_le.mp fun q => q45 (x_le32.mpr q)
      refine lv_iload_n hx hb hoq_d48 rfl (lv_at hl 1 rfl) ?_
      refine lv_aload_n hx hb hoq_d49 rfl (lv_at hl 2 rfl) ?_
      refine lv_iload_n hx hb hoq_d50 rfl (lv_at hl 0 rfl) ?_
      refine lv_iload_n hx hb hoq_d51 rfl (lv_at hl 3 rfl) ?_
      refine y_call (z := (0, 210, 3, some 0, xM81)) (av := [.ref this, .int k, .int w]) (rest := [.int al]) (y_cokV (n := 2) (ci := 11) X ym_isLawIn rfl rfl rfl (x_cons (x_bw46 0 rfl rfl) (x_cons (x_bw46 2 rfl rfl) (x_cons (x_at 14 (by decide +kernel) rfl) (x_cons (x_bw0 1 rfl rfl) x_nilm)))) (x_bw46 3 rfl rfl) (by decide +kernel) ⟨Nat.le_of_ble_eq_true rfl, Nat.le_of_ble_eq_true rfl⟩) hY0 hI rfl hoq_d52 hl.1 (Nat.le_of_ble_eq_true rfl) (Nat.le_of_ble_eq_true rfl) (Nat.le_of_ble_eq_true rfl) (y_cons (y_cref hY_this rfl) (y_cons ⟨_, rfl, by show (0 : Int) ≤ _; omega, by show _ ≤ (11 : Int); omega⟩ (y_cons ⟨_, rfl, x_i32 _⟩ y_nil))) rfl (y_recv rfl hY_this) (fun t' hd' h1 h2 => by cases h1; cases h2.symm.trans hs_ld; exact ⟨_, hL⟩) (y_sub_ef rfl) fun v Yn o Hn L ho hr ha hIn hx_ hE hP => ?_
      have hPl := hP _ _ _ _ _ _ _ _ _ _ (f 4) rfl hs_ld hs_ey hs_en hs_ed hL hA_en hA_ed hok9
      obtain rfl := hPl
      replace hs_ld := y_Efld hE hY_this rfl (by decide) (by decide) hs_ld
      replace hs_ey := y_Efld hE hY_this rfl (by decide) (by decide) hs_ey
      replace hs_vw := y_Efld hE hY_ey rfl (by decide) (by decide) hs_vw
      replace hs_en := y_Efld hE hY_ey rfl (by decide) (by decide) hs_en
      replace hs_ed := y_Efld hE hY_ey rfl (by decide) (by decide) hs_ed
      replace hA_en := hA_en.kept (y_Earr hE hY_en rfl (by decide))
      replace hA_ed := hA_ed.kept (y_Earr hE hY_ed rfl (by decide))
      replace hL := hL.E hY_ld hE (fun q u h => y_ext hx_ hI.1 h) (by decide +kernel)
      replace hY_this := y_ext hx_ hI.1 hY_this
      replace hY_ld := y_ext hx_ hI.1 hY_ld
      replace hY_ey := y_ext hx_ hI.1 hY_ey
      replace hY_vw := y_ext hx_ hI.1 hY_vw
      replace hY_en := y_ext hx_ hI.1 hY_en
      replace hY_ed := y_ext hx_ hI.1 hY_ed
      generalize hg_r52 : m_b (m_lc (m_VC f (f 4) (f (116 + k.toInt.toNat)) 0) w) = r52
      clear ho hr ha hE hP hI hx_
      rename x_I _ _ _ _ _ _ _ _ _ _ => hI
      have ec0 : (0 : Int32).toInt = 0 := by decide
      refine lv_if_eq hx hb hoq_d55 (tgt := 64) (by decide) (fun q55 => ?_) (fun q55 => ?_)
      · have q55_ : r52.toInt = (0 : Int32).toInt := by rw [q55]
        refine lv_iconst hx hb hoq_d64 (v := 0) (by decide) ?_
        refine lv_ior hx hb hoq_d65 ?_
        generalize hg_z65 : al ||| (0 : Int32) = z65
        refine lv_istore_n hx hb hoq_d66 rfl hl (by decide) (lv' := [(2, .int z65), (3, .int k), (0, .ref this), (1, .int w)]) rfl fun ls hl => ?_
        obtain ⟨z67, hg_z67⟩ : ∃ z67 : Int32, k + Int32.ofInt 1 = z67 := ⟨_, rfl⟩
        have h_z67 : z67.toInt = k.toInt + 1 := by rw [← hg_z67]; exact y_inc (by decide) (by omega) (by omega)
        refine lv_iinc hx hb hoq_d67 hl (k := 1) rfl hg_z67 (by decide) (lv' := [(3, .int z67), (2, .int z65), (0, .ref this), (1, .int w)]) rfl fun ls hl => ?_
        refine lv_goto hx hb hoq_d70 (tgt := 42) (by decide) ?_
        have his : z67.toInt.toNat = k.toInt.toNat + 1 := by omega
        have hnk := m_nj hk.1
        have hc : m_hrC f w k.toInt.toNat = false := m_b0 (hg_r52.trans q55)
        exact ih _ _ _ _ _ _ _ _ hI hY_this hY_ld hY_ey hY_vw hY_en hY_ed hs_ld hs_ey hs_vw hs_en hs_ed hA_en hA_ed hL (lv_sub hl [0, 1, 2, 3] rfl) (by first | assumption | omega) (by first | assumption | omega) (by rw [his, m_gg_F hc, ← hal, ← hg_z65]; exact m_or0) (by omega)
      · have q55_ : ¬ r52.toInt = (0 : Int32).toInt := fun q => q55 (Int32.toInt_inj.mp q)
        refine lv_iconst hx hb hoq_d58 (v := 1) (by decide) ?_
        have ec1 : (1 : Int32).toInt = 1 := by decide
        refine lv_iload_n hx hb hoq_d59 rfl (lv_at hl 0 rfl) ?_
        refine lv_ishl hx hb hoq_d60 ?_
        generalize hg_z60 : (1 : Int32) <<< (k &&& 31) = z60
        refine lv_goto hx hb hoq_d61 (tgt := 65) (by decide) ?_
        refine lv_ior hx hb hoq_d65 ?_
        generalize hg_z65 : al ||| z60 = z65
        refine lv_istore_n hx hb hoq_d66 rfl hl (by decide) (lv' := [(2, .int z65), (3, .int k), (0, .ref this), (1, .int w)]) rfl fun ls hl => ?_
        obtain ⟨z67, hg_z67⟩ : ∃ z67 : Int32, k + Int32.ofInt 1 = z67 := ⟨_, rfl⟩
        have h_z67 : z67.toInt = k.toInt + 1 := by rw [← hg_z67]; exact y_inc (by decide) (by omega) (by omega)
        refine lv_iinc hx hb hoq_d67 hl (k := 1) rfl hg_z67 (by decide) (lv' := [(3, .int z67), (2, .int z65), (0, .ref this), (1, .int w)]) rfl fun ls hl => ?_
        refine lv_goto hx hb hoq_d70 (tgt := 42) (by decide) ?_
        have his : z67.toInt.toNat = k.toInt.toNat + 1 := by omega
        have hnk := m_nj hk.1
        have hc : m_hrC f w k.toInt.toNat = true := m_bn (fun q => q55 (hg_r52.symm.trans q))
        exact ih _ _ _ _ _ _ _ _ hI hY_this hY_ld hY_ey hY_vw hY_en hY_ed hs_ld hs_ey hs_vw hs_en hs_ed hA_en hA_ed hL (lv_sub hl [0, 1, 2, 3] rfl) (by first | assumption | omega) (by first | assumption | omega) (by rw [his, m_gg_T hc, hnk, ← hal, ← hg_z65, ← hg_z60]; rfl) (by omega)
theorem ym_Thours : y_Met vwCl x_G x_Zs x_Tb x_Nb xM82 z_ATF z_PThours := by
  refine y_main (by decide +kernel) (by decide +kernel) x_Tb_good x_Nb_ok ?_
  intro p l e s m below meth c D U Y0 av ls B hI hpre hl
  have X := B.1
  have hx := X.1
  have hb := X.2.1
  have hY0 := B.2.2.2.2.1
  obtain ⟨v0, v1, rfl, hv0, ⟨w, rfl, -⟩⟩ := x_two B.2.2.2.2.2
  obtain ⟨this, t0, rfl, ht0, hY_this⟩ := x_ref_at hv0 rfl
  obtain rfl := List.mem_singleton.mp ht0
  replace hl : lv_has ls xM82.2.2.1 [(0, .ref this), (1, .int w)] := hl
  obtain ⟨f, K, tt, nn, hR0⟩ := hpre _ rfl
  obtain ⟨ld, dr, kp, tx, by_, kk, ⟨hs_ld, -⟩, ⟨hY_ld, -⟩, hL, -⟩ := id hR0
  obtain ⟨ey, hs_ey, hY_ey⟩ := y_fldR (k := 4) hI.1 hY_this rfl rfl
  obtain ⟨vw, hs_vw, hY_vw⟩ := y_fldR (k := 1) hI.1 hY_ey rfl rfl
  obtain ⟨en, hs_en, hY_en⟩ := y_fldR (k := 2) hI.1 hY_ey rfl rfl
  obtain ⟨ed, hs_ed, hY_ed⟩ := y_fldR (k := 3) hI.1 hY_ey rfl rfl
  have hn0 := hL.1.1
  have hn1 := hL.1.2.1
  have hn2 := hL.1.2.2
  have hb0 : 0 ≤ (f 0).toInt ∧ (f 0).toInt ≤ 10 := by obtain ⟨x9, e9, b9⟩ := y_fldI (k := 0) hI.1 hY_ld rfl rfl; rw [hn0] at e9; cases e9; exact b9
  have hb1 : 0 ≤ (f 1).toInt ∧ (f 1).toInt ≤ 8 := by obtain ⟨x9, e9, b9⟩ := y_fldI (k := 6) hI.1 hY_ld rfl rfl; rw [hn1] at e9; cases e9; exact b9
  have hb2 : 0 ≤ (f 2).toInt ∧ (f 2).toInt ≤ 8 := by obtain ⟨x9, e9, b9⟩ := y_fldI (k := 12) hI.1 hY_ld rfl rfl; rw [hn2] at e9; cases e9; exact b9
  obtain ⟨adial, hs_adial, hY_adial, hA_adial⟩ := hL.2.1 (10, 27, 4, 4, 1) (by decide)
  replace hA_adial : y_A adial 4 s.heap (fun j => f (4 + 1 * j)) := hA_adial
  refine lv_aload_n hx hb hoq_d0 rfl (lv_at hl 0 rfl) ?_
  refine y_getf X (fl8 X.2.2.2.2.1) hI.1 hY_this rfl hs_ld hoq_d1 ?_
  refine lv_iload_n hx hb hoq_d4 rfl (lv_at hl 1 rfl) ?_
  refine y_call (z := (0, 169, 2, some 2, xM67)) (av := [.ref ld, .int w]) (rest := []) (y_cokV (n := 1) (ci := 2) X ym_hasSet rfl rfl rfl (x_cons (x_bw42 2 rfl rfl) (x_cons (x_bw42 3 rfl rfl) (x_cons (x_bw42 4 rfl rfl) (x_cons (x_bw0 2 rfl rfl) x_nilm)))) (x_bw42 5 rfl rfl) (by decide +kernel) ⟨Nat.le_of_ble_eq_true rfl, Nat.le_of_ble_eq_true rfl⟩) hY0 hI rfl hoq_d5 hl.1 (Nat.le_of_ble_eq_true rfl) (Nat.le_of_ble_eq_true rfl) (Nat.le_of_ble_eq_true rfl) (y_cons (y_cref hY_ld rfl) (y_cons ⟨_, rfl, x_i32 _⟩ y_nil)) rfl (y_recv rfl hY_ld) trivial (y_sub_ef rfl) fun v Yn o Hn L ho hr ha hIn hx_ hE hP => ?_
  have hPh := hP _ _ _ rfl hn0
  replace hs_ld := y_Efld hE hY_this rfl (by decide) (by decide) hs_ld
  replace hs_ey := y_Efld hE hY_this rfl (by decide) (by decide) hs_ey
  replace hs_vw := y_Efld hE hY_ey rfl (by decide) (by decide) hs_vw
  replace hs_en := y_Efld hE hY_ey rfl (by decide) (by decide) hs_en
  replace hs_ed := y_Efld hE hY_ey rfl (by decide) (by decide) hs_ed
  replace hn0 := y_Efld hE hY_ld rfl (by decide) (by decide) hn0
  replace hs_adial := y_Efld hE hY_ld rfl (by decide) (by decide) hs_adial
  replace hA_adial := hA_adial.kept (y_Earr hE hY_adial rfl (by decide))
  replace hL := hL.E hY_ld hE (fun q u h => y_ext hx_ hI.1 h) (by decide +kernel)
  replace hY_this := y_ext hx_ hI.1 hY_this
  replace hY_ld := y_ext hx_ hI.1 hY_ld
  replace hY_ey := y_ext hx_ hI.1 hY_ey
  replace hY_vw := y_ext hx_ hI.1 hY_vw
  replace hY_en := y_ext hx_ hI.1 hY_en
  replace hY_ed := y_ext hx_ hI.1 hY_ed
  replace hY_adial := y_ext hx_ hI.1 hY_adial
  obtain ⟨r5, rfl, hin_r5, hout_r5⟩ := hPh
  clear ho hr ha hE hP hI hx_
  rename x_I _ _ _ _ _ _ _ _ _ _ => hI
  have ec0 : (0 : Int32).toInt = 0 := by decide
  refine lv_if_ne hx hb hoq_d8 (tgt := 18) (by decide) (fun q8 => ?_) (fun q8 => ?_)
  · have q8_ : ¬ r5.toInt = (0 : Int32).toInt := fun q => q8 (Int32.toInt_inj.mp q)
    have hok : m_isS f w := hin_r5 (by assumption)
    refine lv_aload_n hx hb hoq_d18 rfl (lv_at hl 0 rfl) ?_
    refine y_getf X (fl102 X.2.2.2.2.1) hI.1 hY_this rfl hs_ey hoq_d19 ?_
    refine lv_aload_n hx hb hoq_d22 rfl (lv_at hl 0 rfl) ?_
    refine y_getf X (fl8 X.2.2.2.2.1) hI.1 hY_this rfl hs_ld hoq_d23 ?_
    refine lv_aload_n hx hb hoq_d26 rfl (lv_at hl 0 rfl) ?_
    refine y_getf X (fl8 X.2.2.2.2.1) hI.1 hY_this rfl hs_ld hoq_d27 ?_
    refine y_getf X (fl58 X.2.2.2.2.1) hI.1 hY_ld rfl hs_adial hoq_d30 ?_
    refine lv_iconst hx hb hoq_d33 (v := 0) (by decide) ?_
    refine y_iald X hI.1 hY_adial rfl hA_adial (by omega) (by show _ < (4 : Int); omega) hoq_d34 ?_
    obtain ⟨e34, hg_e34⟩ : ∃ e34 : Int32, f (4 + 1 * (0 : Int32).toInt.toNat) = e34 := ⟨_, rfl⟩
    rw [hg_e34]
    have hy9 : e34 = f 4 := hg_e34.symm
    subst hy9
    refine y_call (z := (0, 200, 3, some 6, xM49)) (av := [.ref ey, .ref ld, .int (f 4)]) (rest := []) (y_cokV (n := 2) (ci := 0) X ym_gatherE rfl rfl rfl (x_cons (x_bw30 0 rfl rfl) (x_cons (x_bw30 1 rfl rfl) (x_cons (x_bw30 2 rfl rfl) (x_cons (x_bw0 6 rfl rfl) x_nilm)))) (x_bw30 3 rfl rfl) (by decide +kernel) ⟨Nat.le_of_ble_eq_true rfl, Nat.le_of_ble_eq_true rfl⟩) hY0 hI rfl hoq_d35 hl.1 (Nat.le_of_ble_eq_true rfl) (Nat.le_of_ble_eq_true rfl) (Nat.le_of_ble_eq_true rfl) (y_cons (y_cref hY_ey rfl) (y_cons (y_cref hY_ld rfl) (y_cons ⟨_, rfl, x_i32 _⟩ y_nil))) rfl (y_recv rfl hY_ey) (fun t' h1 => by cases h1; exact ⟨_, hL⟩) (y_sub_ef rfl) fun v Yn o Hn L ho hr ha hIn hx_ hE hP => ?_
    have hPg := hP _ _ _ _ _ _ rfl hs_en hs_ed hL
    replace hs_ld := y_Efld hE hY_this rfl (by decide) (by decide) hs_ld
    replace hs_ey := y_Efld hE hY_this rfl (by decide) (by decide) hs_ey
    replace hs_vw := y_Efld hE hY_ey rfl (by decide) (by decide) hs_vw
    replace hs_en := y_Efld hE hY_ey rfl (by decide) (by decide) hs_en
    replace hs_ed := y_Efld hE hY_ey rfl (by decide) (by decide) hs_ed
    replace hn0 := y_Efld hE hY_ld rfl (by decide) (by decide) hn0
    replace hs_adial := y_Efld hE hY_ld rfl (by decide) (by decide) hs_adial
    replace hA_adial := hA_adial.kept (y_Earr hE hY_adial rfl (by decide))
    replace hL := hL.E hY_ld hE (fun q u h => y_ext hx_ hI.1 h) (by decide +kernel)
    replace hY_this := y_ext hx_ hI.1 hY_this
    replace hY_ld := y_ext hx_ hI.1 hY_ld
    replace hY_ey := y_ext hx_ hI.1 hY_ey
    replace hY_vw := y_ext hx_ hI.1 hY_vw
    replace hY_en := y_ext hx_ hI.1 hY_en
    replace hY_ed := y_ext hx_ hI.1 hY_ed
    replace hY_adial := y_ext hx_ hI.1 hY_adial
    obtain rfl := y_ansV rfl ho hr
    obtain ⟨fn, fd, hA_en, hA_ed, hok9⟩ := hPg
    have hd09 : True := trivial
    clear ho hr ha hE hP hI hx_
    rename x_I _ _ _ _ _ _ _ _ _ _ => hI
    refine lv_iconst hx hb hoq_d38 (v := 0) (by decide) ?_
    refine lv_istore_n hx hb hoq_d39 rfl hl (by decide) (lv' := [(2, .int (0 : Int32)), (0, .ref this), (1, .int w)]) rfl fun ls hl => ?_
    refine lv_iconst hx hb hoq_d40 (v := 0) (by decide) ?_
    refine lv_istore_n hx hb hoq_d41 rfl hl (by decide) (lv' := [(3, .int (0 : Int32)), (2, .int (0 : Int32)), (0, .ref this), (1, .int w)]) rfl fun ls hl => ?_
    exact hoq_L42 B rfl hR0 hb0 hok 14 _ _ _ _ _ _ _ _ hI hY_this hY_ld hY_ey hY_vw hY_en hY_ed hs_ld hs_ey hs_vw hs_en hs_ed hA_en hA_ed hL (lv_sub hl [0, 1, 2, 3] rfl) (by first | assumption | omega) hok9 rfl (by omega)
  · have q8_ : r5.toInt = (0 : Int32).toInt := by rw [q8]
    have hno : ¬ m_isS f w := hout_r5 (by assumption)
    refine lv_aload_n hx hb hoq_d11 rfl (lv_at hl 0 rfl) ?_
    refine lv_bipush hx hb hoq_d12 (v := (-2)) (by decide) ?_
    have ecm2 : ((-2) : Int32).toInt = (-2) := by decide
    refine y_call (z := (0, 59, 2, some 0, xM8)) (av := [.ref this, .int ((-2) : Int32)]) (rest := []) (y_cokV (n := 1) (ci := 11) X ym_counted rfl rfl rfl (x_cons (x_bw19 7 rfl rfl) (x_cons (x_bw19 9 rfl rfl) (x_cons (x_at 1 (by decide +kernel) rfl) (x_cons (x_bw0 1 rfl rfl) x_nilm)))) (x_bw19 10 rfl rfl) (by decide +kernel) ⟨Nat.le_of_ble_eq_true rfl, Nat.le_of_ble_eq_true rfl⟩) hY0 hI rfl hoq_d14 hl.1 (Nat.le_of_ble_eq_true rfl) (Nat.le_of_ble_eq_true rfl) (Nat.le_of_ble_eq_true rfl) (y_cons (y_cref hY_this rfl) (y_cons ⟨_, rfl, x_i32 _⟩ y_nil)) rfl (y_recv rfl hY_this) trivial (y_sub_ef rfl) fun v Yn o Hn L ho hr ha hIn hx_ hE hP => ?_
    replace hs_ld := y_Efld hE hY_this rfl (by decide) (by decide) hs_ld
    replace hs_ey := y_Efld hE hY_this rfl (by decide) (by decide) hs_ey
    replace hs_vw := y_Efld hE hY_ey rfl (by decide) (by decide) hs_vw
    replace hs_en := y_Efld hE hY_ey rfl (by decide) (by decide) hs_en
    replace hs_ed := y_Efld hE hY_ey rfl (by decide) (by decide) hs_ed
    replace hn0 := y_Efld hE hY_ld rfl (by decide) (by decide) hn0
    replace hs_adial := y_Efld hE hY_ld rfl (by decide) (by decide) hs_adial
    replace hA_adial := hA_adial.kept (y_Earr hE hY_adial rfl (by decide))
    replace hL := hL.E hY_ld hE (fun q u h => y_ext hx_ hI.1 h) (by decide +kernel)
    replace hY_this := y_ext hx_ hI.1 hY_this
    replace hY_ld := y_ext hx_ hI.1 hY_ld
    replace hY_ey := y_ext hx_ hI.1 hY_ey
    replace hY_vw := y_ext hx_ hI.1 hY_vw
    replace hY_en := y_ext hx_ hI.1 hY_en
    replace hY_ed := y_ext hx_ hI.1 hY_ed
    replace hY_adial := y_ext hx_ hI.1 hY_adial
    obtain rfl := hP _ _ rfl
    clear ho hr ha hE hP hI hx_
    rename x_I _ _ _ _ _ _ _ _ _ _ => hI
    exact y_ireturn B hI rfl rfl rfl List.mem_cons_self ⟨_, rfl, ⟨_, rfl, x_i32 _⟩⟩ (x_cs.mono B.2.2.2.2.2 (y_mon B hI)) (fun t' w0' f' K' tt' nn' h1 h2 => by cases h1; obtain ⟨ef, -⟩ := hR0.eqs h2; subst ef; exact ⟨_, rfl, fun q9 => absurd q9 hno, fun _ => rfl⟩) (Nat.le_refl _) (Nat.le_refl _) hoq_d17
theorem m_sh10 : ∀ k, k < 10 → 0 ≤ ((1 : Int32) <<< (nI k &&& 31)).toInt ∧ ((1 : Int32) <<< (nI k &&& 31)).toInt ≤ 512 := by decide
def z_Pnc : yP := fun D av Y H v _ _ => ∀ (this : Nat) (k : Int32) (f : Nat → Int32), av = [.ref this, .int k] → z_L D Y this H f → v = some (.int (m_chg f k.toInt.toNat))
theorem ncq_d0 : decode xM127.2.1 0 = .ok (.aload_n 0, 1) := dz_ok (by decide +kernel)
theorem ncq_d1 : decode xM127.2.1 1 = .ok (.getfield 48, 3) := dz_ok (by decide +kernel)
theorem ncq_d4 : decode xM127.2.1 4 = .ok (.iload_n 1, 1) := dz_ok (by decide +kernel)
theorem ncq_d5 : decode xM127.2.1 5 = .ok (.iaload, 1) := dz_ok (by decide +kernel)
theorem ncq_d6 : decode xM127.2.1 6 = .ok (.istore_n 2, 1) := dz_ok (by decide +kernel)
theorem ncq_d7 : decode xM127.2.1 7 = .ok (.aload_n 0, 1) := dz_ok (by decide +kernel)
theorem ncq_d8 : decode xM127.2.1 8 = .ok (.iload_n 2, 1) := dz_ok (by decide +kernel)
theorem ncq_d9 : decode xM127.2.1 9 = .ok (.invokevirtual 136, 3) := dz_ok (by decide +kernel)
theorem ncq_d12 : decode xM127.2.1 12 = .ok (.ifCond .eq 9, 3) := dz_ok (by decide +kernel)
theorem ncq_d15 : decode xM127.2.1 15 = .ok (.iconst 1, 1) := dz_ok (by decide +kernel)
theorem ncq_d16 : decode xM127.2.1 16 = .ok (.iload_n 2, 1) := dz_ok (by decide +kernel)
theorem ncq_d17 : decode xM127.2.1 17 = .ok (.ishl, 1) := dz_ok (by decide +kernel)
theorem ncq_d18 : decode xM127.2.1 18 = .ok (.goto 4, 3) := dz_ok (by decide +kernel)
theorem ncq_d21 : decode xM127.2.1 21 = .ok (.iconst 0, 1) := dz_ok (by decide +kernel)
theorem ncq_d22 : decode xM127.2.1 22 = .ok (.ireturn, 1) := dz_ok (by decide +kernel)
theorem ym_nightChg : y_Met vwCl x_G x_Zs x_Tb x_Nb xM127 z_AL z_Pnc := by
  refine y_main (by decide +kernel) (by decide +kernel) x_Tb_good x_Nb_ok ?_
  intro p l e s m below meth c D U Y0 av ls B hI hAL hl
  have X := B.1
  have hx := X.1
  have hb := X.2.1
  have hY0 := B.2.2.2.2.1
  obtain ⟨v0, v1, rfl, hv0, ⟨k, rfl, hk⟩⟩ := x_two B.2.2.2.2.2
  replace hk : (0 : Int) ≤ k.toInt ∧ k.toInt ≤ 11 := hk
  obtain ⟨this, t0, rfl, ht0, hY_this⟩ := x_ref_at hv0 rfl
  obtain rfl := List.mem_singleton.mp ht0
  replace hl : lv_has ls xM127.2.2.1 [(0, .ref this), (1, .int k)] := hl
  obtain ⟨f, hL⟩ := hAL _ rfl
  have hL0 := hL
  have hhi := hL.1.1
  have hF : z_fr D Y0 s.heap s.heap this := fun _ _ _ _ _ _ _ => x_eq.of rfl
  obtain ⟨anightHill, hs_anightHill, hY_anightHill, hA_anightHill⟩ := hL.2.1 (14, 30, 12, 136, 2) (by decide)
  replace hA_anightHill : y_A anightHill 12 s.heap (fun j => f (136 + 2 * j)) := hA_anightHill
  have hs0_anightHill := hs_anightHill
  have hb0 : 0 ≤ (f 0).toInt ∧ (f 0).toInt ≤ 10 := by
    obtain ⟨x9, e9, b9⟩ := y_fldI (k := 0) hI.1 hY_this rfl rfl
    rw [hhi] at e9
    cases e9
    exact b9
  refine lv_aload_n hx hb ncq_d0 rfl (lv_at hl 0 rfl) ?_
  refine y_getf X (fl125 X.2.2.2.2.1) hI.1 hY_this rfl hs_anightHill ncq_d1 ?_
  refine lv_iload_n hx hb ncq_d4 rfl (lv_at hl 1 rfl) ?_
  refine y_iald X hI.1 hY_anightHill rfl hA_anightHill (by omega) (by show _ < (12 : Int); omega) ncq_d5 ?_
  obtain ⟨e5, hg_e5⟩ : ∃ e5 : Int32, f (136 + 2 * k.toInt.toNat) = e5 := ⟨_, rfl⟩
  rw [hg_e5]
  refine lv_istore_n hx hb ncq_d6 rfl hl (by decide) (lv' := [(2, .int e5), (0, .ref this), (1, .int k)]) rfl fun ls hl => ?_
  refine lv_aload_n hx hb ncq_d7 rfl (lv_at hl 1 rfl) ?_
  refine lv_iload_n hx hb ncq_d8 rfl (lv_at hl 0 rfl) ?_
  refine y_call (z := (0, 136, 2, some 2, xM40)) (av := [.ref this, .int e5]) (rest := []) (y_cokV (n := 1) (ci := 2) X ym_hasHill rfl rfl rfl (x_cons (x_bw58 9 rfl rfl) (x_cons (x_bw29 9 rfl rfl) (x_cons (x_bw29 10 rfl rfl) (x_cons (x_bw0 2 rfl rfl) x_nilm)))) (x_bw29 11 rfl rfl) (by decide +kernel) ⟨Nat.le_of_ble_eq_true rfl, Nat.le_of_ble_eq_true rfl⟩) hY0 hI rfl ncq_d9 hl.1 (Nat.le_of_ble_eq_true rfl) (Nat.le_of_ble_eq_true rfl) (Nat.le_of_ble_eq_true rfl) (y_cons (y_cref hY_this rfl) (y_cons ⟨_, rfl, x_i32 _⟩ y_nil)) rfl (y_recv rfl hY_this) trivial (y_sub_ef rfl) fun v Yn o Hn L ho hr ha hIn hx_ hE hP => ?_
  have hPh := hP _ _ _ rfl hhi
  replace hhi := y_Efld hE hY_this rfl (by decide) (by decide) hhi
  replace hs_anightHill := y_Efld hE hY_this rfl (by decide) (by decide) hs_anightHill
  replace hA_anightHill := hA_anightHill.kept (y_Earr hE hY_anightHill rfl (by decide))
  replace hY_this := y_ext hx_ hI.1 hY_this
  replace hY_anightHill := y_ext hx_ hI.1 hY_anightHill
  obtain ⟨r9, rfl, hin_r9, hout_r9⟩ := hPh
  clear ho hr ha hE hP hI hx_
  rename x_I _ _ _ _ _ _ _ _ _ _ => hI
  have ec0 : (0 : Int32).toInt = 0 := by decide
  refine lv_if_eq hx hb ncq_d12 (tgt := 21) (by decide) (fun q12 => ?_) (fun q12 => ?_)
  · have q12_ : r9.toInt = (0 : Int32).toInt := by rw [q12]
    refine lv_iconst hx hb ncq_d21 (v := 0) (by decide) ?_
    exact y_ireturn B hI rfl rfl rfl List.mem_cons_self ⟨_, rfl, ⟨_, rfl, by show (0 : Int) ≤ _; omega, by show _ ≤ (512 : Int); omega⟩⟩ (x_cs.mono B.2.2.2.2.2 (y_mon B hI)) (fun t' k' f' h1 h2 => by cases h1; cases h2.uniq hL0; refine congrArg (fun x => some (Value.int x)) ?_; unfold m_chg; rw [show f (136 + 2 * k.toInt.toNat) = e5 from hg_e5]; rw [if_neg (show ¬ (0 ≤ e5.toInt ∧ e5.toInt < (f 0).toInt) from hout_r9 (by assumption))]) (Nat.le_refl _) (Nat.le_refl _) ncq_d22
  · have q12_ : ¬ r9.toInt = (0 : Int32).toInt := fun q => q12 (Int32.toInt_inj.mp q)
    refine lv_iconst hx hb ncq_d15 (v := 1) (by decide) ?_
    have ec1 : (1 : Int32).toInt = 1 := by decide
    refine lv_iload_n hx hb ncq_d16 rfl (lv_at hl 0 rfl) ?_
    refine lv_ishl hx hb ncq_d17 ?_
    generalize hg_z17 : (1 : Int32) <<< (e5 &&& 31) = z17
    refine lv_goto hx hb ncq_d18 (tgt := 22) (by decide) ?_
    have hrx : 0 ≤ e5.toInt ∧ e5.toInt < (f 0).toInt := hin_r9 (by assumption)
    have hz17 := m_sh10 e5.toInt.toNat (by omega)
    rw [m_nj hrx.1, hg_z17] at hz17
    exact y_ireturn B hI rfl rfl rfl List.mem_cons_self ⟨_, rfl, ⟨_, rfl, by show (0 : Int) ≤ _; omega, by show _ ≤ (512 : Int); omega⟩⟩ (x_cs.mono B.2.2.2.2.2 (y_mon B hI)) (fun t' k' f' h1 h2 => by cases h1; cases h2.uniq hL0; refine congrArg (fun x => some (Value.int x)) ?_; unfold m_chg; rw [show f (136 + 2 * k.toInt.toNat) = e5 from hg_e5]; rw [if_pos (show 0 ≤ e5.toInt ∧ e5.toInt < (f 0).toInt from hin_r9 (by assumption)), hg_z17]) (Nat.le_refl _) (Nat.le_refl _) ncq_d22
def z_PTnight : yP := fun D av Y H v _ _ => ∀ (this : Nat) (w t : Int32) (f : Nat → Int32) (K : Nat → Option (Nat → Int32)) (t9 : Nat → Int32) (n9 : Int32), av = [.ref this, .int w, .int t] → z_RC D Y H this f K t9 n9 → ∃ r : Int32, v = some (.int r) ∧ m_nt (m_ntC f) f w t r
theorem niq_d0 : decode xM128.2.1 0 = .ok (.aload_n 0, 1) := dz_ok (by decide +kernel)
theorem niq_d1 : decode xM128.2.1 1 = .ok (.getfield 12, 3) := dz_ok (by decide +kernel)
theorem niq_d4 : decode xM128.2.1 4 = .ok (.iload_n 1, 1) := dz_ok (by decide +kernel)
theorem niq_d5 : decode xM128.2.1 5 = .ok (.invokevirtual 169, 3) := dz_ok (by decide +kernel)
theorem niq_d8 : decode xM128.2.1 8 = .ok (.ifCond .eq 12, 3) := dz_ok (by decide +kernel)
theorem niq_d11 : decode xM128.2.1 11 = .ok (.iload_n 2, 1) := dz_ok (by decide +kernel)
theorem niq_d12 : decode xM128.2.1 12 = .ok (.iconst 0, 1) := dz_ok (by decide +kernel)
theorem niq_d13 : decode xM128.2.1 13 = .ok (.iconst 2, 1) := dz_ok (by decide +kernel)
theorem niq_d14 : decode xM128.2.1 14 = .ok (.invokestatic 88, 3) := dz_ok (by decide +kernel)
theorem niq_d17 : decode xM128.2.1 17 = .ok (.ifCond .ne 10, 3) := dz_ok (by decide +kernel)
theorem niq_d20 : decode xM128.2.1 20 = .ok (.aload_n 0, 1) := dz_ok (by decide +kernel)
theorem niq_d21 : decode xM128.2.1 21 = .ok (.bipush (-2), 2) := dz_ok (by decide +kernel)
theorem niq_d23 : decode xM128.2.1 23 = .ok (.invokevirtual 59, 3) := dz_ok (by decide +kernel)
theorem niq_d26 : decode xM128.2.1 26 = .ok (.ireturn, 1) := dz_ok (by decide +kernel)
theorem niq_d27 : decode xM128.2.1 27 = .ok (.aload_n 0, 1) := dz_ok (by decide +kernel)
theorem niq_d28 : decode xM128.2.1 28 = .ok (.getfield 33, 3) := dz_ok (by decide +kernel)
theorem niq_d31 : decode xM128.2.1 31 = .ok (.aload_n 0, 1) := dz_ok (by decide +kernel)
theorem niq_d32 : decode xM128.2.1 32 = .ok (.getfield 12, 3) := dz_ok (by decide +kernel)
theorem niq_d35 : decode xM128.2.1 35 = .ok (.aload_n 0, 1) := dz_ok (by decide +kernel)
theorem niq_d36 : decode xM128.2.1 36 = .ok (.getfield 12, 3) := dz_ok (by decide +kernel)
theorem niq_d39 : decode xM128.2.1 39 = .ok (.getfield 95, 3) := dz_ok (by decide +kernel)
theorem niq_d42 : decode xM128.2.1 42 = .ok (.iconst 0, 1) := dz_ok (by decide +kernel)
theorem niq_d43 : decode xM128.2.1 43 = .ok (.iaload, 1) := dz_ok (by decide +kernel)
theorem niq_d44 : decode xM128.2.1 44 = .ok (.invokevirtual 200, 3) := dz_ok (by decide +kernel)
theorem niq_d47 : decode xM128.2.1 47 = .ok (.iload_n 1, 1) := dz_ok (by decide +kernel)
theorem niq_d48 : decode xM128.2.1 48 = .ok (.istore_n 3, 1) := dz_ok (by decide +kernel)
theorem niq_d49 : decode xM128.2.1 49 = .ok (.iconst (-1), 1) := dz_ok (by decide +kernel)
theorem niq_d50 : decode xM128.2.1 50 = .ok (.istore 4, 2) := dz_ok (by decide +kernel)
theorem niq_d52 : decode xM128.2.1 52 = .ok (.iconst 0, 1) := dz_ok (by decide +kernel)
theorem niq_d53 : decode xM128.2.1 53 = .ok (.istore 5, 2) := dz_ok (by decide +kernel)
theorem niq_d55 : decode xM128.2.1 55 = .ok (.iconst 0, 1) := dz_ok (by decide +kernel)
theorem niq_d56 : decode xM128.2.1 56 = .ok (.istore 6, 2) := dz_ok (by decide +kernel)
theorem niq_d58 : decode xM128.2.1 58 = .ok (.iload 6, 2) := dz_ok (by decide +kernel)
theorem niq_d60 : decode xM128.2.1 60 = .ok (.bipush 12, 2) := dz_ok (by decide +kernel)
theorem niq_d62 : decode xM128.2.1 62 = .ok (.if_icmp .ge 101, 3) := dz_ok (by decide +kernel)
theorem niq_d65 : decode xM128.2.1 65 = .ok (.aload_n 0, 1) := dz_ok (by decide +kernel)
theorem niq_d66 : decode xM128.2.1 66 = .ok (.getfield 12, 3) := dz_ok (by decide +kernel)
theorem niq_d69 : decode xM128.2.1 69 = .ok (.iload 6, 2) := dz_ok (by decide +kernel)
theorem niq_d71 : decode xM128.2.1 71 = .ok (.invokevirtual 289, 3) := dz_ok (by decide +kernel)
theorem niq_d74 : decode xM128.2.1 74 = .ok (.istore 7, 2) := dz_ok (by decide +kernel)
theorem niq_d76 : decode xM128.2.1 76 = .ok (.iload_n 3, 1) := dz_ok (by decide +kernel)
theorem niq_d77 : decode xM128.2.1 77 = .ok (.iload 7, 2) := dz_ok (by decide +kernel)
theorem niq_d79 : decode xM128.2.1 79 = .ok (.iand, 1) := dz_ok (by decide +kernel)
theorem niq_d80 : decode xM128.2.1 80 = .ok (.ifCond .eq 7, 3) := dz_ok (by decide +kernel)
theorem niq_d83 : decode xM128.2.1 83 = .ok (.iconst 1, 1) := dz_ok (by decide +kernel)
theorem niq_d84 : decode xM128.2.1 84 = .ok (.goto 4, 3) := dz_ok (by decide +kernel)
theorem niq_d87 : decode xM128.2.1 87 = .ok (.iconst 0, 1) := dz_ok (by decide +kernel)
theorem niq_d88 : decode xM128.2.1 88 = .ok (.istore 8, 2) := dz_ok (by decide +kernel)
theorem niq_d90 : decode xM128.2.1 90 = .ok (.iload 7, 2) := dz_ok (by decide +kernel)
theorem niq_d92 : decode xM128.2.1 92 = .ok (.ifCond .eq 34, 3) := dz_ok (by decide +kernel)
theorem niq_d95 : decode xM128.2.1 95 = .ok (.iload 8, 2) := dz_ok (by decide +kernel)
theorem niq_d97 : decode xM128.2.1 97 = .ok (.aload_n 0, 1) := dz_ok (by decide +kernel)
theorem niq_d98 : decode xM128.2.1 98 = .ok (.getfield 12, 3) := dz_ok (by decide +kernel)
theorem niq_d101 : decode xM128.2.1 101 = .ok (.getfield 286, 3) := dz_ok (by decide +kernel)
theorem niq_d104 : decode xM128.2.1 104 = .ok (.iload 6, 2) := dz_ok (by decide +kernel)
theorem niq_d106 : decode xM128.2.1 106 = .ok (.iaload, 1) := dz_ok (by decide +kernel)
theorem niq_d107 : decode xM128.2.1 107 = .ok (.iconst 1, 1) := dz_ok (by decide +kernel)
theorem niq_d108 : decode xM128.2.1 108 = .ok (.if_icmp .ne 7, 3) := dz_ok (by decide +kernel)
theorem niq_d111 : decode xM128.2.1 111 = .ok (.iconst 1, 1) := dz_ok (by decide +kernel)
theorem niq_d112 : decode xM128.2.1 112 = .ok (.goto 4, 3) := dz_ok (by decide +kernel)
theorem niq_d115 : decode xM128.2.1 115 = .ok (.iconst 0, 1) := dz_ok (by decide +kernel)
theorem niq_d116 : decode xM128.2.1 116 = .ok (.if_icmp .ne 10, 3) := dz_ok (by decide +kernel)
theorem niq_d119 : decode xM128.2.1 119 = .ok (.aload_n 0, 1) := dz_ok (by decide +kernel)
theorem niq_d120 : decode xM128.2.1 120 = .ok (.bipush (-3), 2) := dz_ok (by decide +kernel)
theorem niq_d122 : decode xM128.2.1 122 = .ok (.invokevirtual 59, 3) := dz_ok (by decide +kernel)
theorem niq_d125 : decode xM128.2.1 125 = .ok (.ireturn, 1) := dz_ok (by decide +kernel)
theorem niq_d126 : decode xM128.2.1 126 = .ok (.iload_n 3, 1) := dz_ok (by decide +kernel)
theorem niq_d127 : decode xM128.2.1 127 = .ok (.iload 7, 2) := dz_ok (by decide +kernel)
theorem niq_d129 : decode xM128.2.1 129 = .ok (.ixor, 1) := dz_ok (by decide +kernel)
theorem niq_d130 : decode xM128.2.1 130 = .ok (.istore_n 3, 1) := dz_ok (by decide +kernel)
theorem niq_d131 : decode xM128.2.1 131 = .ok (.aload_n 0, 1) := dz_ok (by decide +kernel)
theorem niq_d132 : decode xM128.2.1 132 = .ok (.iload 6, 2) := dz_ok (by decide +kernel)
theorem niq_d134 : decode xM128.2.1 134 = .ok (.iload_n 3, 1) := dz_ok (by decide +kernel)
theorem niq_d135 : decode xM128.2.1 135 = .ok (.invokevirtual 210, 3) := dz_ok (by decide +kernel)
theorem niq_d138 : decode xM128.2.1 138 = .ok (.ifCond .eq 9, 3) := dz_ok (by decide +kernel)
theorem niq_d141 : decode xM128.2.1 141 = .ok (.iinc 5 1, 3) := dz_ok (by decide +kernel)
theorem niq_d144 : decode xM128.2.1 144 = .ok (.goto 13, 3) := dz_ok (by decide +kernel)
theorem niq_d147 : decode xM128.2.1 147 = .ok (.iload 4, 2) := dz_ok (by decide +kernel)
theorem niq_d149 : decode xM128.2.1 149 = .ok (.iconst (-1), 1) := dz_ok (by decide +kernel)
theorem niq_d150 : decode xM128.2.1 150 = .ok (.if_icmp .ne 7, 3) := dz_ok (by decide +kernel)
theorem niq_d153 : decode xM128.2.1 153 = .ok (.iload 6, 2) := dz_ok (by decide +kernel)
theorem niq_d155 : decode xM128.2.1 155 = .ok (.istore 4, 2) := dz_ok (by decide +kernel)
theorem niq_d157 : decode xM128.2.1 157 = .ok (.iinc 6 1, 3) := dz_ok (by decide +kernel)
theorem niq_d160 : decode xM128.2.1 160 = .ok (.goto (-102), 3) := dz_ok (by decide +kernel)
theorem niq_d163 : decode xM128.2.1 163 = .ok (.iload_n 2, 1) := dz_ok (by decide +kernel)
theorem niq_d164 : decode xM128.2.1 164 = .ok (.ifCond .ne 6, 3) := dz_ok (by decide +kernel)
theorem niq_d167 : decode xM128.2.1 167 = .ok (.iload 4, 2) := dz_ok (by decide +kernel)
theorem niq_d169 : decode xM128.2.1 169 = .ok (.ireturn, 1) := dz_ok (by decide +kernel)
theorem niq_d170 : decode xM128.2.1 170 = .ok (.iload_n 2, 1) := dz_ok (by decide +kernel)
theorem niq_d171 : decode xM128.2.1 171 = .ok (.iconst 1, 1) := dz_ok (by decide +kernel)
theorem niq_d172 : decode xM128.2.1 172 = .ok (.if_icmp .ne 8, 3) := dz_ok (by decide +kernel)
theorem niq_d175 : decode xM128.2.1 175 = .ok (.iload 5, 2) := dz_ok (by decide +kernel)
theorem niq_d177 : decode xM128.2.1 177 = .ok (.goto 4, 3) := dz_ok (by decide +kernel)
theorem niq_d180 : decode xM128.2.1 180 = .ok (.iload_n 3, 1) := dz_ok (by decide +kernel)
theorem niq_d181 : decode xM128.2.1 181 = .ok (.ireturn, 1) := dz_ok (by decide +kernel)
theorem niq_L126 {p : Program} {l : Launch} {e : Env} {s : State} {m : MethodId} {below : List Frame} {meth : Method} {c : Code} {D : va_G} {U : State} {Y0 : xY} {av : List Value} (B : y_B vwCl x_Tb x_Nb xM128 p s m meth c D U Y0 av) {this ld ey vw en ed ahow : Nat} {w t : Int32} {f : Nat → Int32} {K : Nat → Option (Nat → Int32)} {tt : Nat → Int32} {nn : Int32} (hav : av = [.ref this, .int w, .int t]) (hR0 : z_RC D Y0 s.heap this f K tt nn) (hb0 : 0 ≤ (f 0).toInt ∧ (f 0).toInt ≤ 10) (hok : m_isS f w ∧ 0 ≤ t.toInt ∧ t.toInt ≤ 2) {k : Int32} (hk : 0 ≤ k.toInt ∧ k.toInt ≤ 11)
    (out58 : ∀ (H : Heap) (Y : xY) (locs : List Loc) (ls : Array Slot) (k1 : Int32) (gd1 : Int32) (fi1 : Int32) (li1 : Int32) (fn1 fd1 : Nat → Int32), x_I D x_G x_Zs U (x_efs xM128) Y0 s.heap Y H locs → Y this = some 0 → Y ld = some 2 → Y ey = some 6 → Y vw = some 32 → Y en = some 33 → Y ed = some 34 → Y ahow = some 31 → x_sl D 11 0 this H = some (.ref ld) → x_sl D 11 4 this H = some (.ref ey) → x_sl D 0 1 ey H = some (.ref vw) → x_sl D 0 2 ey H = some (.ref en) → x_sl D 0 3 ey H = some (.ref ed) → x_sl D 2 15 ld H = some (.ref ahow) → y_A en 100 H fn1 → y_A ed 100 H fd1 → y_A ahow 12 H (fun j => f (137 + 2 * j)) → z_L D Y ld H f → lv_has ls xM128.2.2.1 [(6, .int k1), (5, .int gd1), (4, .int fi1), (3, .int li1), (0, .ref this), (1, .int w), (2, .int t)] → (0 ≤ k1.toInt ∧ k1.toInt ≤ 12) → (∀ p q : Nat, p < q → (q : Int) < (f 0).toInt → m_gok fn1 fd1 f (f 4) p q) → (li1 = m_lit f w k1.toInt.toNat) → (fi1 = m_nfst (m_nok (m_ntC f) f w) k1.toInt.toNat) → (gd1 = m_ngd (m_nok (m_ntC f) f w) k1.toInt.toNat) → (∀ j : Nat, (j : Int) < k1.toInt → ¬ m_nbad f w j) → (0 ≤ gd1.toInt ∧ gd1.toInt ≤ k1.toInt) → (k1.toInt = k.toInt + 1) → W p l e (x_rm xM128) s m av.toArray below meth c H locs 0 0 (y_QQ below D x_G x_Zs U xM128 z_PTnight av Y0 s) (F0 m 58 ls [])) :
    ∀ (H : Heap) (Y : xY) (locs : List Loc) (ls : Array Slot) (ch : Int32) (gd : Int32) (fi : Int32) (li : Int32) (fn fd : Nat → Int32), x_I D x_G x_Zs U (x_efs xM128) Y0 s.heap Y H locs → Y this = some 0 → Y ld = some 2 → Y ey = some 6 → Y vw = some 32 → Y en = some 33 → Y ed = some 34 → Y ahow = some 31 → x_sl D 11 0 this H = some (.ref ld) → x_sl D 11 4 this H = some (.ref ey) → x_sl D 0 1 ey H = some (.ref vw) → x_sl D 0 2 ey H = some (.ref en) → x_sl D 0 3 ey H = some (.ref ed) → x_sl D 2 15 ld H = some (.ref ahow) → y_A en 100 H fn → y_A ed 100 H fd → y_A ahow 12 H (fun j => f (137 + 2 * j)) → z_L D Y ld H f → lv_has ls xM128.2.2.1 [(7, .int ch), (6, .int k), (5, .int gd), (4, .int fi), (3, .int li), (0, .ref this), (1, .int w), (2, .int t)] → (∀ p q : Nat, p < q → (q : Int) < (f 0).toInt → m_gok fn fd f (f 4) p q) → (li = m_lit f w k.toInt.toNat) → (fi = m_nfst (m_nok (m_ntC f) f w) k.toInt.toNat) → (gd = m_ngd (m_nok (m_ntC f) f w) k.toInt.toNat) → (∀ j : Nat, (j : Int) < k.toInt → ¬ m_nbad f w j) → (0 ≤ gd.toInt ∧ gd.toInt ≤ k.toInt) → (ch = m_chg f k.toInt.toNat) → (¬ m_nbad f w k.toInt.toNat) → W p l e (x_rm xM128) s m av.toArray below meth c H locs 0 0 (y_QQ below D x_G x_Zs U xM128 z_PTnight av Y0 s) (F0 m 126 ls []) := by
  have X := B.1
  have hx := X.1
  have hb := X.2.1
  have hY0 := B.2.2.2.2.1
  intro H Y locs ls ch gd fi li fn fd hI hY_this hY_ld hY_ey hY_vw hY_en hY_ed hY_ahow hs_ld hs_ey hs_vw hs_en hs_ed hs_ahow hA_en hA_ed hA_ahow hL hl hok9 hli hfi hgd hnb hgb hch hnk
  refine lv_iload_n hx hb niq_d126 rfl (lv_at hl 4 rfl) ?_
  refine lv_iload hx hb niq_d127 (lv_at hl 0 rfl) ?_
  refine lv_ixor hx hb niq_d129 ?_
  generalize hg_z129 : li ^^^ ch = z129
  refine lv_istore_n hx hb niq_d130 rfl hl (by decide) (lv' := [(3, .int z129), (7, .int ch), (6, .int k), (5, .int gd), (4, .int fi), (0, .ref this), (1, .int w), (2, .int t)]) rfl fun ls hl => ?_
  refine lv_aload_n hx hb niq_d131 rfl (lv_at hl 5 rfl) ?_
  refine lv_iload hx hb niq_d132 (lv_at hl 2 rfl) ?_
  refine lv_iload_n hx hb niq_d134 rfl (lv_at hl 0 rfl) ?_
  refine y_call (z := (0, 210, 3, some 0, xM81)) (av := [.ref this, .int k, .int z129]) (rest := []) (y_cokV (n := 2) (ci := 11) X ym_isLawIn rfl rfl rfl (x_cons (x_bw46 0 rfl rfl) (x_cons (x_bw46 2 rfl rfl) (x_cons (x_at 14 (by decide +kernel) rfl) (x_cons (x_bw0 1 rfl rfl) x_nilm)))) (x_bw46 3 rfl rfl) (by decide +kernel) ⟨Nat.le_of_ble_eq_true rfl, Nat.le_of_ble_eq_true rfl⟩) hY0 hI rfl niq_d135 hl.1 (Nat.le_of_ble_eq_true rfl) (Nat.le_of_ble_eq_true rfl) (Nat.le_of_ble_eq_true rfl) (y_cons (y_cref hY_this rfl) (y_cons ⟨_, rfl, by show (0 : Int) ≤ _; omega, by show _ ≤ (11 : Int); omega⟩ (y_cons ⟨_, rfl, x_i32 _⟩ y_nil))) rfl (y_recv rfl hY_this) (fun t' hd' h1 h2 => by cases h1; cases h2.symm.trans hs_ld; exact ⟨_, hL⟩) (y_sub_ef rfl) fun v Yn o Hn L ho hr ha hIn hx_ hE hP => ?_
  have hPl := hP _ _ _ _ _ _ _ _ _ _ (f 4) rfl hs_ld hs_ey hs_en hs_ed hL hA_en hA_ed hok9
  obtain rfl := hPl
  replace hs_ld := y_Efld hE hY_this rfl (by decide) (by decide) hs_ld
  replace hs_ey := y_Efld hE hY_this rfl (by decide) (by decide) hs_ey
  replace hs_vw := y_Efld hE hY_ey rfl (by decide) (by decide) hs_vw
  replace hs_en := y_Efld hE hY_ey rfl (by decide) (by decide) hs_en
  replace hs_ed := y_Efld hE hY_ey rfl (by decide) (by decide) hs_ed
  replace hs_ahow := y_Efld hE hY_ld rfl (by decide) (by decide) hs_ahow
  replace hA_en := hA_en.kept (y_Earr hE hY_en rfl (by decide))
  replace hA_ed := hA_ed.kept (y_Earr hE hY_ed rfl (by decide))
  replace hA_ahow := hA_ahow.kept (y_Earr hE hY_ahow rfl (by decide))
  replace hL := hL.E hY_ld hE (fun q u h => y_ext hx_ hI.1 h) (by decide +kernel)
  replace hY_this := y_ext hx_ hI.1 hY_this
  replace hY_ld := y_ext hx_ hI.1 hY_ld
  replace hY_ey := y_ext hx_ hI.1 hY_ey
  replace hY_vw := y_ext hx_ hI.1 hY_vw
  replace hY_en := y_ext hx_ hI.1 hY_en
  replace hY_ed := y_ext hx_ hI.1 hY_ed
  replace hY_ahow := y_ext hx_ hI.1 hY_ahow
  generalize hg_r135 : m_b (m_lc (m_VC f (f 4) (f (116 + k.toInt.toNat)) 0) z129) = r135
  clear ho hr ha hE hP hI hx_
  rename x_I _ _ _ _ _ _ _ _ _ _ => hI
  have ec0 : (0 : Int32).toInt = 0 := by decide
  refine lv_if_eq hx hb niq_d138 (tgt := 147) (by decide) (fun q138 => ?_) (fun q138 => ?_)
  · have q138_ : r135.toInt = (0 : Int32).toInt := by rw [q138]
    refine lv_iload hx hb niq_d147 (lv_at hl 4 rfl) ?_
    refine lv_iconst hx hb niq_d149 (v := (-1)) (by decide) ?_
    have ecm1 : ((-1) : Int32).toInt = (-1) := by decide
    refine lv_icmp_ne hx hb niq_d150 (tgt := 157) (by decide) (fun q150 => ?_) (fun q150 => ?_)
    · have q150_ : ¬ fi.toInt = ((-1) : Int32).toInt := fun q => q150 (Int32.toInt_inj.mp q)
      obtain ⟨z157, hg_z157⟩ : ∃ z157 : Int32, k + Int32.ofInt 1 = z157 := ⟨_, rfl⟩
      have h_z157 : z157.toInt = k.toInt + 1 := by rw [← hg_z157]; exact y_inc (by decide) (by omega) (by omega)
      refine lv_iinc hx hb niq_d157 hl (k := 2) rfl hg_z157 (by decide) (lv' := [(6, .int z157), (3, .int z129), (7, .int ch), (5, .int gd), (4, .int fi), (0, .ref this), (1, .int w), (2, .int t)]) rfl fun ls hl => ?_
      refine lv_goto hx hb niq_d160 (tgt := 58) (by decide) ?_
      have his : z157.toInt.toNat = k.toInt.toNat + 1 := by omega
      have hnj := m_nj hk.1
      have hlt : z129 = m_lit f w (k.toInt.toNat + 1) := by rw [← hg_z129, hli, hch]; rfl
      have hc : (m_nok (m_ntC f) f w) k.toInt.toNat = false := by unfold m_nok m_ntC; rw [← hlt]; exact m_b0 (hg_r135.trans q138)
      exact out58 _ _ _ _ _ _ _ _ _ _ hI hY_this hY_ld hY_ey hY_vw hY_en hY_ed hY_ahow hs_ld hs_ey hs_vw hs_en hs_ed hs_ahow hA_en hA_ed hA_ahow hL (lv_sub hl [0, 3, 4, 1, 5, 6, 7] rfl) (by first | assumption | omega) hok9 (by rw [his]; exact hlt) (by rw [his]; show _ = (if _ ∧ (m_nok (m_ntC f) f w) k.toInt.toNat = false then _ else _); first | (rw [if_pos ⟨hfi.symm.trans (by assumption), hc⟩, hnj]) | (rw [if_neg (fun h9 => absurd (hfi.trans h9.1) (by assumption))]; exact hfi)) (by rw [his]; show _ = (if (m_nok (m_ntC f) f w) k.toInt.toNat then _ else _); rw [hc]; exact hgd) (fun j hj => by by_cases e : (j : Int) = k.toInt; (rw [show j = k.toInt.toNat by omega]; exact hnk); exact hnb j (by omega)) (by first | assumption | omega) (by first | assumption | omega)
    · have q150_ : fi.toInt = ((-1) : Int32).toInt := by rw [q150]
      refine lv_iload hx hb niq_d153 (lv_at hl 2 rfl) ?_
      refine lv_istore hx hb niq_d155 hl (by decide) (lv' := [(4, .int k), (3, .int z129), (7, .int ch), (6, .int k), (5, .int gd), (0, .ref this), (1, .int w), (2, .int t)]) rfl fun ls hl => ?_
      obtain ⟨z157, hg_z157⟩ : ∃ z157 : Int32, k + Int32.ofInt 1 = z157 := ⟨_, rfl⟩
      have h_z157 : z157.toInt = k.toInt + 1 := by rw [← hg_z157]; exact y_inc (by decide) (by omega) (by omega)
      refine lv_iinc hx hb niq_d157 hl (k := 3) rfl hg_z157 (by decide) (lv' := [(6, .int z157), (4, .int k), (3, .int z129), (7, .int ch), (5, .int gd), (0, .ref this), (1, .int w), (2, .int t)]) rfl fun ls hl => ?_
      refine lv_goto hx hb niq_d160 (tgt := 58) (by decide) ?_
      have his : z157.toInt.toNat = k.toInt.toNat + 1 := by omega
      have hnj := m_nj hk.1
      have hlt : z129 = m_lit f w (k.toInt.toNat + 1) := by rw [← hg_z129, hli, hch]; rfl
      have hc : (m_nok (m_ntC f) f w) k.toInt.toNat = false := by unfold m_nok m_ntC; rw [← hlt]; exact m_b0 (hg_r135.trans q138)
      exact out58 _ _ _ _ _ _ _ _ _ _ hI hY_this hY_ld hY_ey hY_vw hY_en hY_ed hY_ahow hs_ld hs_ey hs_vw hs_en hs_ed hs_ahow hA_en hA_ed hA_ahow hL (lv_sub hl [0, 4, 1, 2, 5, 6, 7] rfl) (by first | assumption | omega) hok9 (by rw [his]; exact hlt) (by rw [his]; show _ = (if _ ∧ (m_nok (m_ntC f) f w) k.toInt.toNat = false then _ else _); first | (rw [if_pos ⟨hfi.symm.trans (by assumption), hc⟩, hnj]) | (rw [if_neg (fun h9 => absurd (hfi.trans h9.1) (by assumption))]; exact hfi)) (by rw [his]; show _ = (if (m_nok (m_ntC f) f w) k.toInt.toNat then _ else _); rw [hc]; exact hgd) (fun j hj => by by_cases e : (j : Int) = k.toInt; (rw [show j = k.toInt.toNat by omega]; exact hnk); exact hnb j (by omega)) (by first | assumption | omega) (by first | assumption | omega)
  · have q138_ : ¬ r135.toInt = (0 : Int32).toInt := fun q => q138 (Int32.toInt_inj.mp q)
    obtain ⟨z141, hg_z141⟩ : ∃ z141 : Int32, gd + Int32.ofInt 1 = z141 := ⟨_, rfl⟩
    have h_z141 : z141.toInt = gd.toInt + 1 := by rw [← hg_z141]; exact y_inc (by decide) (by omega) (by omega)
    refine lv_iinc hx hb niq_d141 hl (k := 3) rfl hg_z141 (by decide) (lv' := [(5, .int z141), (3, .int z129), (7, .int ch), (6, .int k), (4, .int fi), (0, .ref this), (1, .int w), (2, .int t)]) rfl fun ls hl => ?_
    refine lv_goto hx hb niq_d144 (tgt := 157) (by decide) ?_
    obtain ⟨z157, hg_z157⟩ : ∃ z157 : Int32, k + Int32.ofInt 1 = z157 := ⟨_, rfl⟩
    have h_z157 : z157.toInt = k.toInt + 1 := by rw [← hg_z157]; exact y_inc (by decide) (by omega) (by omega)
    refine lv_iinc hx hb niq_d157 hl (k := 3) rfl hg_z157 (by decide) (lv' := [(6, .int z157), (5, .int z141), (3, .int z129), (7, .int ch), (4, .int fi), (0, .ref this), (1, .int w), (2, .int t)]) rfl fun ls hl => ?_
    refine lv_goto hx hb niq_d160 (tgt := 58) (by decide) ?_
    have his : z157.toInt.toNat = k.toInt.toNat + 1 := by omega
    have hnj := m_nj hk.1
    have hlt : z129 = m_lit f w (k.toInt.toNat + 1) := by rw [← hg_z129, hli, hch]; rfl
    have hc : (m_nok (m_ntC f) f w) k.toInt.toNat = true := by unfold m_nok m_ntC; rw [← hlt]; exact m_bn (fun q => q138 (hg_r135.symm.trans q))
    exact out58 _ _ _ _ _ _ _ _ _ _ hI hY_this hY_ld hY_ey hY_vw hY_en hY_ed hY_ahow hs_ld hs_ey hs_vw hs_en hs_ed hs_ahow hA_en hA_ed hA_ahow hL (lv_sub hl [0, 1, 4, 2, 5, 6, 7] rfl) (by first | assumption | omega) hok9 (by rw [his]; exact hlt) (by rw [his]; show _ = (if _ ∧ (m_nok (m_ntC f) f w) k.toInt.toNat = false then _ else _); rw [if_neg (fun h9 => by rw [hc] at h9; cases h9.2)]; exact hfi) (by rw [his]; show _ = (if (m_nok (m_ntC f) f w) k.toInt.toNat then _ else _); rw [hc, ← hgd, ← hg_z141]; rfl) (fun j hj => by by_cases e : (j : Int) = k.toInt; (rw [show j = k.toInt.toNat by omega]; exact hnk); exact hnb j (by omega)) (by first | assumption | omega) (by first | assumption | omega)
theorem niq_L90 {p : Program} {l : Launch} {e : Env} {s : State} {m : MethodId} {below : List Frame} {meth : Method} {c : Code} {D : va_G} {U : State} {Y0 : xY} {av : List Value} (B : y_B vwCl x_Tb x_Nb xM128 p s m meth c D U Y0 av) {this ld ey vw en ed ahow : Nat} {w t : Int32} {f : Nat → Int32} {K : Nat → Option (Nat → Int32)} {tt : Nat → Int32} {nn : Int32} (hav : av = [.ref this, .int w, .int t]) (hR0 : z_RC D Y0 s.heap this f K tt nn) (hb0 : 0 ≤ (f 0).toInt ∧ (f 0).toInt ≤ 10) (hok : m_isS f w ∧ 0 ≤ t.toInt ∧ t.toInt ≤ 2) {k : Int32} (hk : 0 ≤ k.toInt ∧ k.toInt ≤ 11)
    (out58 : ∀ (H : Heap) (Y : xY) (locs : List Loc) (ls : Array Slot) (k1 : Int32) (gd1 : Int32) (fi1 : Int32) (li1 : Int32) (fn1 fd1 : Nat → Int32), x_I D x_G x_Zs U (x_efs xM128) Y0 s.heap Y H locs → Y this = some 0 → Y ld = some 2 → Y ey = some 6 → Y vw = some 32 → Y en = some 33 → Y ed = some 34 → Y ahow = some 31 → x_sl D 11 0 this H = some (.ref ld) → x_sl D 11 4 this H = some (.ref ey) → x_sl D 0 1 ey H = some (.ref vw) → x_sl D 0 2 ey H = some (.ref en) → x_sl D 0 3 ey H = some (.ref ed) → x_sl D 2 15 ld H = some (.ref ahow) → y_A en 100 H fn1 → y_A ed 100 H fd1 → y_A ahow 12 H (fun j => f (137 + 2 * j)) → z_L D Y ld H f → lv_has ls xM128.2.2.1 [(6, .int k1), (5, .int gd1), (4, .int fi1), (3, .int li1), (0, .ref this), (1, .int w), (2, .int t)] → (0 ≤ k1.toInt ∧ k1.toInt ≤ 12) → (∀ p q : Nat, p < q → (q : Int) < (f 0).toInt → m_gok fn1 fd1 f (f 4) p q) → (li1 = m_lit f w k1.toInt.toNat) → (fi1 = m_nfst (m_nok (m_ntC f) f w) k1.toInt.toNat) → (gd1 = m_ngd (m_nok (m_ntC f) f w) k1.toInt.toNat) → (∀ j : Nat, (j : Int) < k1.toInt → ¬ m_nbad f w j) → (0 ≤ gd1.toInt ∧ gd1.toInt ≤ k1.toInt) → (k1.toInt = k.toInt + 1) → W p l e (x_rm xM128) s m av.toArray below meth c H locs 0 0 (y_QQ below D x_G x_Zs U xM128 z_PTnight av Y0 s) (F0 m 58 ls [])) :
    ∀ (H : Heap) (Y : xY) (locs : List Loc) (ls : Array Slot) (il : Int32) (ch : Int32) (gd : Int32) (fi : Int32) (li : Int32) (fn fd : Nat → Int32), x_I D x_G x_Zs U (x_efs xM128) Y0 s.heap Y H locs → Y this = some 0 → Y ld = some 2 → Y ey = some 6 → Y vw = some 32 → Y en = some 33 → Y ed = some 34 → Y ahow = some 31 → x_sl D 11 0 this H = some (.ref ld) → x_sl D 11 4 this H = some (.ref ey) → x_sl D 0 1 ey H = some (.ref vw) → x_sl D 0 2 ey H = some (.ref en) → x_sl D 0 3 ey H = some (.ref ed) → x_sl D 2 15 ld H = some (.ref ahow) → y_A en 100 H fn → y_A ed 100 H fd → y_A ahow 12 H (fun j => f (137 + 2 * j)) → z_L D Y ld H f → lv_has ls xM128.2.2.1 [(8, .int il), (7, .int ch), (6, .int k), (5, .int gd), (4, .int fi), (3, .int li), (0, .ref this), (1, .int w), (2, .int t)] → (∀ p q : Nat, p < q → (q : Int) < (f 0).toInt → m_gok fn fd f (f 4) p q) → (li = m_lit f w k.toInt.toNat) → (fi = m_nfst (m_nok (m_ntC f) f w) k.toInt.toNat) → (gd = m_ngd (m_nok (m_ntC f) f w) k.toInt.toNat) → (∀ j : Nat, (j : Int) < k.toInt → ¬ m_nbad f w j) → (0 ≤ gd.toInt ∧ gd.toInt ≤ k.toInt) → (ch = m_chg f k.toInt.toNat) → (il = m_b (!(decide (li &&& ch = 0)))) → W p l e (x_rm xM128) s m av.toArray below meth c H locs 0 0 (y_QQ below D x_G x_Zs U xM128 z_PTnight av Y0 s) (F0 m 90 ls []) := by
  have X := B.1
  have hx := X.1
  have hb := X.2.1
  have hY0 := B.2.2.2.2.1
  intro H Y locs ls il ch gd fi li fn fd hI hY_this hY_ld hY_ey hY_vw hY_en hY_ed hY_ahow hs_ld hs_ey hs_vw hs_en hs_ed hs_ahow hA_en hA_ed hA_ahow hL hl hok9 hli hfi hgd hnb hgb hch hil
  refine lv_iload hx hb niq_d90 (lv_at hl 1 rfl) ?_
  have ec0 : (0 : Int32).toInt = 0 := by decide
  refine lv_if_eq hx hb niq_d92 (tgt := 126) (by decide) (fun q92 => ?_) (fun q92 => ?_)
  · have q92_ : ch.toInt = (0 : Int32).toInt := by rw [q92]
    exact niq_L126 B hav hR0 hb0 hok (by first | assumption | omega) (fun H Y locs ls k1 gd1 fi1 li1 fn1 fd1 hI hY_this hY_ld hY_ey hY_vw hY_en hY_ed hY_ahow hs_ld hs_ey hs_vw hs_en hs_ed hs_ahow hA_en hA_ed hA_ahow hL hl hk hok9 hli hfi hgd hnb hgb h_k1 => out58 _ _ _ _ _ _ _ _ _ _ hI hY_this hY_ld hY_ey hY_vw hY_en hY_ed hY_ahow hs_ld hs_ey hs_vw hs_en hs_ed hs_ahow hA_en hA_ed hA_ahow hL hl hk hok9 hli hfi hgd hnb hgb h_k1) _ _ _ _ _ _ _ _ _ _ hI hY_this hY_ld hY_ey hY_vw hY_en hY_ed hY_ahow hs_ld hs_ey hs_vw hs_en hs_ed hs_ahow hA_en hA_ed hA_ahow hL (lv_sub hl [1, 2, 3, 4, 5, 6, 7, 8] rfl) (by first | assumption | omega) (by first | assumption | omega) (by first | assumption | omega) (by first | assumption | omega) (by first | assumption | omega) (by first | assumption | omega) (by first | assumption | omega) (fun h9 => by unfold m_nbad at h9; rw [← hch, ← hli] at h9; first | exact h9.1 (by assumption) | (rw [show f (137 + 2 * k.toInt.toNat) = e106 from hg_e106] at h9; have h8 := h9.2; rw [hil] at q116; first | (rw [if_true] at h8) | skip; by_cases q : li &&& ch = 0; (rw [decide_eq_true q] at q116; first | (exact absurd (h8.mpr (by assumption)) (fun h7 => h7 q)) | (exact q116 rfl)); (rw [decide_eq_false q] at q116; first | (exact absurd (h8.mp q) (by assumption)) | (exact q116 rfl))))
  · have q92_ : ¬ ch.toInt = (0 : Int32).toInt := fun q => q92 (Int32.toInt_inj.mp q)
    refine lv_iload hx hb niq_d95 (lv_at hl 0 rfl) ?_
    refine lv_aload_n hx hb niq_d97 rfl (lv_at hl 6 rfl) ?_
    refine y_getf X (fl8 X.2.2.2.2.1) hI.1 hY_this rfl hs_ld niq_d98 ?_
    refine y_getf X (fl155 X.2.2.2.2.1) hI.1 hY_ld rfl hs_ahow niq_d101 ?_
    refine lv_iload hx hb niq_d104 (lv_at hl 2 rfl) ?_
    refine y_iald X hI.1 hY_ahow rfl hA_ahow (by omega) (by show _ < (12 : Int); omega) niq_d106 ?_
    obtain ⟨e106, hg_e106⟩ : ∃ e106 : Int32, f (137 + 2 * k.toInt.toNat) = e106 := ⟨_, rfl⟩
    rw [hg_e106]
    refine lv_iconst hx hb niq_d107 (v := 1) (by decide) ?_
    have ec1 : (1 : Int32).toInt = 1 := by decide
    refine lv_icmp_ne hx hb niq_d108 (tgt := 115) (by decide) (fun q108 => ?_) (fun q108 => ?_)
    · have q108_ : ¬ e106.toInt = (1 : Int32).toInt := fun q => q108 (Int32.toInt_inj.mp q)
      refine lv_iconst hx hb niq_d115 (v := 0) (by decide) ?_
      refine lv_icmp_ne hx hb niq_d116 (tgt := 126) (by decide) (fun q116 => ?_) (fun q116 => ?_)
      · have q116_ : ¬ il.toInt = (0 : Int32).toInt := fun q => q116 (Int32.toInt_inj.mp q)
        exact niq_L126 B hav hR0 hb0 hok (by first | assumption | omega) (fun H Y locs ls k1 gd1 fi1 li1 fn1 fd1 hI hY_this hY_ld hY_ey hY_vw hY_en hY_ed hY_ahow hs_ld hs_ey hs_vw hs_en hs_ed hs_ahow hA_en hA_ed hA_ahow hL hl hk hok9 hli hfi hgd hnb hgb h_k1 => out58 _ _ _ _ _ _ _ _ _ _ hI hY_this hY_ld hY_ey hY_vw hY_en hY_ed hY_ahow hs_ld hs_ey hs_vw hs_en hs_ed hs_ahow hA_en hA_ed hA_ahow hL hl hk hok9 hli hfi hgd hnb hgb h_k1) _ _ _ _ _ _ _ _ _ _ hI hY_this hY_ld hY_ey hY_vw hY_en hY_ed hY_ahow hs_ld hs_ey hs_vw hs_en hs_ed hs_ahow hA_en hA_ed hA_ahow hL (lv_sub hl [1, 2, 3, 4, 5, 6, 7, 8] rfl) (by first | assumption | omega) (by first | assumption | omega) (by first | assumption | omega) (by first | assumption | omega) (by first | assumption | omega) (by first | assumption | omega) (by first | assumption | omega) (fun h9 => by unfold m_nbad at h9; rw [← hch, ← hli] at h9; first | exact h9.1 (by assumption) | (rw [show f (137 + 2 * k.toInt.toNat) = e106 from hg_e106] at h9; have h8 := h9.2; rw [hil] at q116; first | (rw [if_true] at h8) | skip; by_cases q : li &&& ch = 0; (rw [decide_eq_true q] at q116; first | (exact absurd (h8.mpr (by assumption)) (fun h7 => h7 q)) | (exact q116 rfl)); (rw [decide_eq_false q] at q116; first | (exact absurd (h8.mp q) (by assumption)) | (exact q116 rfl))))
      · have q116_ : il.toInt = (0 : Int32).toInt := by rw [q116]
        refine lv_aload_n hx hb niq_d119 rfl (lv_at hl 6 rfl) ?_
        refine lv_bipush hx hb niq_d120 (v := (-3)) (by decide) ?_
        have ecm3 : ((-3) : Int32).toInt = (-3) := by decide
        refine y_call (z := (0, 59, 2, some 0, xM8)) (av := [.ref this, .int ((-3) : Int32)]) (rest := []) (y_cokV (n := 1) (ci := 11) X ym_counted rfl rfl rfl (x_cons (x_bw19 7 rfl rfl) (x_cons (x_bw19 9 rfl rfl) (x_cons (x_at 1 (by decide +kernel) rfl) (x_cons (x_bw0 1 rfl rfl) x_nilm)))) (x_bw19 10 rfl rfl) (by decide +kernel) ⟨Nat.le_of_ble_eq_true rfl, Nat.le_of_ble_eq_true rfl⟩) hY0 hI rfl niq_d122 hl.1 (Nat.le_of_ble_eq_true rfl) (Nat.le_of_ble_eq_true rfl) (Nat.le_of_ble_eq_true rfl) (y_cons (y_cref hY_this rfl) (y_cons ⟨_, rfl, x_i32 _⟩ y_nil)) rfl (y_recv rfl hY_this) trivial (y_sub_ef rfl) fun v Yn o Hn L ho hr ha hIn hx_ hE hP => ?_
        replace hs_ld := y_Efld hE hY_this rfl (by decide) (by decide) hs_ld
        replace hs_ey := y_Efld hE hY_this rfl (by decide) (by decide) hs_ey
        replace hs_vw := y_Efld hE hY_ey rfl (by decide) (by decide) hs_vw
        replace hs_en := y_Efld hE hY_ey rfl (by decide) (by decide) hs_en
        replace hs_ed := y_Efld hE hY_ey rfl (by decide) (by decide) hs_ed
        replace hs_ahow := y_Efld hE hY_ld rfl (by decide) (by decide) hs_ahow
        replace hA_en := hA_en.kept (y_Earr hE hY_en rfl (by decide))
        replace hA_ed := hA_ed.kept (y_Earr hE hY_ed rfl (by decide))
        replace hA_ahow := hA_ahow.kept (y_Earr hE hY_ahow rfl (by decide))
        replace hL := hL.E hY_ld hE (fun q u h => y_ext hx_ hI.1 h) (by decide +kernel)
        replace hY_this := y_ext hx_ hI.1 hY_this
        replace hY_ld := y_ext hx_ hI.1 hY_ld
        replace hY_ey := y_ext hx_ hI.1 hY_ey
        replace hY_vw := y_ext hx_ hI.1 hY_vw
        replace hY_en := y_ext hx_ hI.1 hY_en
        replace hY_ed := y_ext hx_ hI.1 hY_ed
        replace hY_ahow := y_ext hx_ hI.1 hY_ahow
        obtain rfl := hP _ _ rfl
        clear ho hr ha hE hP hI hx_
        rename x_I _ _ _ _ _ _ _ _ _ _ => hI
        have hbad : m_nbad f w k.toInt.toNat := by unfold m_nbad; rw [← hch, ← hli, show f (137 + 2 * k.toInt.toNat) = e106 from hg_e106]; refine ⟨by assumption, ?_⟩; rw [hil] at q116; by_cases q : li &&& ch = 0; (rw [decide_eq_true q] at q116; first | exact ⟨fun h => absurd q h, fun h => absurd h (by assumption)⟩ | exact absurd q116 (by decide)); (rw [decide_eq_false q] at q116; first | exact ⟨fun _ => by assumption, fun _ => q⟩ | exact absurd q116 (by decide))
        subst hav
        exact y_ireturn B hI rfl rfl rfl List.mem_cons_self ⟨_, rfl, ⟨_, rfl, x_i32 _⟩⟩ (x_cs.mono B.2.2.2.2.2 (y_mon B hI)) (fun t' w0' w1' f' K' tt' nn' h1 h2 => by cases h1; obtain ⟨ef, -⟩ := hR0.eqs h2; subst ef; exact ⟨_, rfl, fun _ => ⟨fun _ _ _ _ => rfl, fun h9 => absurd hbad (h9 _ (by omega))⟩, fun q9 => absurd hok q9⟩) (Nat.le_refl _) (Nat.le_refl _) niq_d125
    · have q108_ : e106.toInt = (1 : Int32).toInt := by rw [q108]
      refine lv_iconst hx hb niq_d111 (v := 1) (by decide) ?_
      refine lv_goto hx hb niq_d112 (tgt := 116) (by decide) ?_
      refine lv_icmp_ne hx hb niq_d116 (tgt := 126) (by decide) (fun q116 => ?_) (fun q116 => ?_)
      · have q116_ : ¬ il.toInt = (1 : Int32).toInt := fun q => q116 (Int32.toInt_inj.mp q)
        exact niq_L126 B hav hR0 hb0 hok (by first | assumption | omega) (fun H Y locs ls k1 gd1 fi1 li1 fn1 fd1 hI hY_this hY_ld hY_ey hY_vw hY_en hY_ed hY_ahow hs_ld hs_ey hs_vw hs_en hs_ed hs_ahow hA_en hA_ed hA_ahow hL hl hk hok9 hli hfi hgd hnb hgb h_k1 => out58 _ _ _ _ _ _ _ _ _ _ hI hY_this hY_ld hY_ey hY_vw hY_en hY_ed hY_ahow hs_ld hs_ey hs_vw hs_en hs_ed hs_ahow hA_en hA_ed hA_ahow hL hl hk hok9 hli hfi hgd hnb hgb h_k1) _ _ _ _ _ _ _ _ _ _ hI hY_this hY_ld hY_ey hY_vw hY_en hY_ed hY_ahow hs_ld hs_ey hs_vw hs_en hs_ed hs_ahow hA_en hA_ed hA_ahow hL (lv_sub hl [1, 2, 3, 4, 5, 6, 7, 8] rfl) (by first | assumption | omega) (by first | assumption | omega) (by first | assumption | omega) (by first | assumption | omega) (by first | assumption | omega) (by first | assumption | omega) (by first | assumption | omega) (fun h9 => by unfold m_nbad at h9; rw [← hch, ← hli] at h9; first | exact h9.1 (by assumption) | (rw [show f (137 + 2 * k.toInt.toNat) = e106 from hg_e106] at h9; have h8 := h9.2; rw [hil] at q116; first | (rw [if_true] at h8) | skip; by_cases q : li &&& ch = 0; (rw [decide_eq_true q] at q116; first | (exact absurd (h8.mpr (by assumption)) (fun h7 => h7 q)) | (exact q116 rfl)); (rw [decide_eq_false q] at q116; first | (exact absurd (h8.mp q) (by assumption)) | (exact q116 rfl))))
      · have q116_ : il.toInt = (1 : Int32).toInt := by rw [q116]
        refine lv_aload_n hx hb niq_d119 rfl (lv_at hl 6 rfl) ?_
        refine lv_bipush hx hb niq_d120 (v := (-3)) (by decide) ?_
        have ecm3 : ((-3) : Int32).toInt = (-3) := by decide
        refine y_call (z := (0, 59, 2, some 0, xM8)) (av := [.ref this, .int ((-3) : Int32)]) (rest := []) (y_cokV (n := 1) (ci := 11) X ym_counted rfl rfl rfl (x_cons (x_bw19 7 rfl rfl) (x_cons (x_bw19 9 rfl rfl) (x_cons (x_at 1 (by decide +kernel) rfl) (x_cons (x_bw0 1 rfl rfl) x_nilm)))) (x_bw19 10 rfl rfl) (by decide +kernel) ⟨Nat.le_of_ble_eq_true rfl, Nat.le_of_ble_eq_true rfl⟩) hY0 hI rfl niq_d122 hl.1 (Nat.le_of_ble_eq_true rfl) (Nat.le_of_ble_eq_true rfl) (Nat.le_of_ble_eq_true rfl) (y_cons (y_cref hY_this rfl) (y_cons ⟨_, rfl, x_i32 _⟩ y_nil)) rfl (y_recv rfl hY_this) trivial (y_sub_ef rfl) fun v Yn o Hn L ho hr ha hIn hx_ hE hP => ?_
        replace hs_ld := y_Efld hE hY_this rfl (by decide) (by decide) hs_ld
        replace hs_ey := y_Efld hE hY_this rfl (by decide) (by decide) hs_ey
        replace hs_vw := y_Efld hE hY_ey rfl (by decide) (by decide) hs_vw
        replace hs_en := y_Efld hE hY_ey rfl (by decide) (by decide) hs_en
        replace hs_ed := y_Efld hE hY_ey rfl (by decide) (by decide) hs_ed
        replace hs_ahow := y_Efld hE hY_ld rfl (by decide) (by decide) hs_ahow
        replace hA_en := hA_en.kept (y_Earr hE hY_en rfl (by decide))
        replace hA_ed := hA_ed.kept (y_Earr hE hY_ed rfl (by decide))
        replace hA_ahow := hA_ahow.kept (y_Earr hE hY_ahow rfl (by decide))
        replace hL := hL.E hY_ld hE (fun q u h => y_ext hx_ hI.1 h) (by decide +kernel)
        replace hY_this := y_ext hx_ hI.1 hY_this
        replace hY_ld := y_ext hx_ hI.1 hY_ld
        replace hY_ey := y_ext hx_ hI.1 hY_ey
        replace hY_vw := y_ext hx_ hI.1 hY_vw
        replace hY_en := y_ext hx_ hI.1 hY_en
        replace hY_ed := y_ext hx_ hI.1 hY_ed
        replace hY_ahow := y_ext hx_ hI.1 hY_ahow
        obtain rfl := hP _ _ rfl
        clear ho hr ha hE hP hI hx_
        rename x_I _ _ _ _ _ _ _ _ _ _ => hI
        have hbad : m_nbad f w k.toInt.toNat := by unfold m_nbad; rw [← hch, ← hli, show f (137 + 2 * k.toInt.toNat) = e106 from hg_e106]; refine ⟨by assumption, ?_⟩; rw [hil] at q116; by_cases q : li &&& ch = 0; (rw [decide_eq_true q] at q116; first | exact ⟨fun h => absurd q h, fun h => absurd h (by assumption)⟩ | exact absurd q116 (by decide)); (rw [decide_eq_false q] at q116; first | exact ⟨fun _ => by assumption, fun _ => q⟩ | exact absurd q116 (by decide))
        subst hav
        exact y_ireturn B hI rfl rfl rfl List.mem_cons_self ⟨_, rfl, ⟨_, rfl, x_i32 _⟩⟩ (x_cs.mono B.2.2.2.2.2 (y_mon B hI)) (fun t' w0' w1' f' K' tt' nn' h1 h2 => by cases h1; obtain ⟨ef, -⟩ := hR0.eqs h2; subst ef; exact ⟨_, rfl, fun _ => ⟨fun _ _ _ _ => rfl, fun h9 => absurd hbad (h9 _ (by omega))⟩, fun q9 => absurd hok q9⟩) (Nat.le_refl _) (Nat.le_refl _) niq_d125
theorem niq_L58 {p : Program} {l : Launch} {e : Env} {s : State} {m : MethodId} {below : List Frame} {meth : Method} {c : Code} {D : va_G} {U : State} {Y0 : xY} {av : List Value} (B : y_B vwCl x_Tb x_Nb xM128 p s m meth c D U Y0 av) {this ld ey vw en ed ahow : Nat} {w t : Int32} {f : Nat → Int32} {K : Nat → Option (Nat → Int32)} {tt : Nat → Int32} {nn : Int32} (hav : av = [.ref this, .int w, .int t]) (hR0 : z_RC D Y0 s.heap this f K tt nn) (hb0 : 0 ≤ (f 0).toInt ∧ (f 0).toInt ≤ 10) (hok : m_isS f w ∧ 0 ≤ t.toInt ∧ t.toInt ≤ 2)  :
    ∀ (n : Nat), ∀ (H : Heap) (Y : xY) (locs : List Loc) (ls : Array Slot) (k : Int32) (gd : Int32) (fi : Int32) (li : Int32) (fn fd : Nat → Int32), x_I D x_G x_Zs U (x_efs xM128) Y0 s.heap Y H locs → Y this = some 0 → Y ld = some 2 → Y ey = some 6 → Y vw = some 32 → Y en = some 33 → Y ed = some 34 → Y ahow = some 31 → x_sl D 11 0 this H = some (.ref ld) → x_sl D 11 4 this H = some (.ref ey) → x_sl D 0 1 ey H = some (.ref vw) → x_sl D 0 2 ey H = some (.ref en) → x_sl D 0 3 ey H = some (.ref ed) → x_sl D 2 15 ld H = some (.ref ahow) → y_A en 100 H fn → y_A ed 100 H fd → y_A ahow 12 H (fun j => f (137 + 2 * j)) → z_L D Y ld H f → lv_has ls xM128.2.2.1 [(6, .int k), (5, .int gd), (4, .int fi), (3, .int li), (0, .ref this), (1, .int w), (2, .int t)] → (0 ≤ k.toInt ∧ k.toInt ≤ 12) → (∀ p q : Nat, p < q → (q : Int) < (f 0).toInt → m_gok fn fd f (f 4) p q) → (li = m_lit f w k.toInt.toNat) → (fi = m_nfst (m_nok (m_ntC f) f w) k.toInt.toNat) → (gd = m_ngd (m_nok (m_ntC f) f w) k.toInt.toNat) → (∀ j : Nat, (j : Int) < k.toInt → ¬ m_nbad f w j) → (0 ≤ gd.toInt ∧ gd.toInt ≤ k.toInt) → (13 - k.toInt).toNat < n → W p l e (x_rm xM128) s m av.toArray below meth c H locs 0 0 (y_QQ below D x_G x_Zs U xM128 z_PTnight av Y0 s) (F0 m 58 ls []) := by
  have X := B.1
  have hx := X.1
  have hb := X.2.1
  have hY0 := B.2.2.2.2.1
  intro n
  induction n with
  | zero => intro _ _ _ _ _ _ _ _ _ _ _ _ _ _ _ _ _ _ _ _ _ _ _ _ _ _ _ _ _ _ _ _ _ _ _ _ h; exact absurd h (Nat.not_lt_zero _)
  | succ n ih =>
    intro H Y locs ls k gd fi li fn fd hI hY_this hY_ld hY_ey hY_vw hY_en hY_ed hY_ahow hs_ld hs_ey hs_vw hs_en hs_ed hs_ahow hA_en hA_ed hA_ahow hL hl hk hok9 hli hfi hgd hnb hgb hn
    refine lv_iload hx hb niq_d58 (lv_at hl 0 rfl) ?_
    refine lv_bipush hx hb niq_d60 (v := 12) (by decide) ?_
    have ec12 : (12 : Int32).toInt = 12 := by decide
    refine lv_icmp_ge hx hb niq_d62 (tgt := 163) (by decide) (fun q62 => ?_) (fun q62 => ?_)
    · have q62_ : (12 : Int32).toInt ≤ k.toInt := x_le32.mp q62
      refine lv_iload_n hx hb niq_d163 rfl (lv_at hl 6 rfl) ?_
      have ec0 : (0 : Int32).toInt = 0 := by decide
      refine lv_if_ne hx hb niq_d164 (tgt := 170) (by decide) (fun q164 => ?_) (fun q164 => ?_)
      · have q164_ : ¬ t.toInt = (0 : Int32).toInt := fun q => q164 (Int32.toInt_inj.mp q)
        refine lv_iload_n hx hb niq_d170 rfl (lv_at hl 6 rfl) ?_
        refine lv_iconst hx hb niq_d171 (v := 1) (by decide) ?_
        have ec1 : (1 : Int32).toInt = 1 := by decide
        refine lv_icmp_ne hx hb niq_d172 (tgt := 180) (by decide) (fun q172 => ?_) (fun q172 => ?_)
        · have q172_ : ¬ t.toInt = (1 : Int32).toInt := fun q => q172 (Int32.toInt_inj.mp q)
          refine lv_iload_n hx hb niq_d180 rfl (lv_at hl 3 rfl) ?_
          have hk12 : k.toInt.toNat = 12 := by omega
          rw [hk12] at hli hfi hgd
          have hnb9 : ∀ j, j < 12 → ¬ m_nbad f w j := fun j hj => hnb j (by omega)
          subst hav
          exact y_ireturn B hI rfl rfl rfl List.mem_cons_self ⟨_, rfl, ⟨_, rfl, x_i32 _⟩⟩ (x_cs.mono B.2.2.2.2.2 (y_mon B hI)) (fun t' w0' w1' f' K' tt' nn' h1 h2 => by cases h1; obtain ⟨ef, -⟩ := hR0.eqs h2; subst ef; exact ⟨_, rfl, fun _ => ⟨fun k9 h7 _ h9 => absurd h9 (hnb9 k9 h7), fun _ => ⟨fun h9 => absurd h9 (by assumption), fun h9 => absurd h9 (by assumption), fun _ _ => hli⟩⟩, fun q9 => absurd hok q9⟩) (Nat.le_refl _) (Nat.le_refl _) niq_d181
        · have q172_ : t.toInt = (1 : Int32).toInt := by rw [q172]
          refine lv_iload hx hb niq_d175 (lv_at hl 1 rfl) ?_
          refine lv_goto hx hb niq_d177 (tgt := 181) (by decide) ?_
          have hk12 : k.toInt.toNat = 12 := by omega
          rw [hk12] at hli hfi hgd
          have hnb9 : ∀ j, j < 12 → ¬ m_nbad f w j := fun j hj => hnb j (by omega)
          subst hav
          exact y_ireturn B hI rfl rfl rfl List.mem_cons_self ⟨_, rfl, ⟨_, rfl, x_i32 _⟩⟩ (x_cs.mono B.2.2.2.2.2 (y_mon B hI)) (fun t' w0' w1' f' K' tt' nn' h1 h2 => by cases h1; obtain ⟨ef, -⟩ := hR0.eqs h2; subst ef; exact ⟨_, rfl, fun _ => ⟨fun k9 h7 _ h9 => absurd h9 (hnb9 k9 h7), fun _ => ⟨fun h9 => absurd h9 (by assumption), fun _ => hgd, fun _ h9 => absurd (by assumption) h9⟩⟩, fun q9 => absurd hok q9⟩) (Nat.le_refl _) (Nat.le_refl _) niq_d181
      · have q164_ : t.toInt = (0 : Int32).toInt := by rw [q164]
        refine lv_iload hx hb niq_d167 (lv_at hl 2 rfl) ?_
        have hk12 : k.toInt.toNat = 12 := by omega
        rw [hk12] at hli hfi hgd
        have hnb9 : ∀ j, j < 12 → ¬ m_nbad f w j := fun j hj => hnb j (by omega)
        subst hav
        exact y_ireturn B hI rfl rfl rfl List.mem_cons_self ⟨_, rfl, ⟨_, rfl, x_i32 _⟩⟩ (x_cs.mono B.2.2.2.2.2 (y_mon B hI)) (fun t' w0' w1' f' K' tt' nn' h1 h2 => by cases h1; obtain ⟨ef, -⟩ := hR0.eqs h2; subst ef; exact ⟨_, rfl, fun _ => ⟨fun k9 h7 _ h9 => absurd h9 (hnb9 k9 h7), fun _ => ⟨fun _ => hfi, fun h9 => absurd (h9.symm.trans (show t = (0 : Int32) by assumption)) (by decide), fun h9 => absurd (by assumption) h9⟩⟩, fun q9 => absurd hok q9⟩) (Nat.le_refl _) (Nat.le_refl _) niq_d169
    · have q62_ : k.toInt < (12 : Int32).toInt := Int.not_le.mp fun q => q62 (x_le32.mpr q)
      refine lv_aload_n hx hb niq_d65 rfl (lv_at hl 4 rfl) ?_
      refine y_getf X (fl8 X.2.2.2.2.1) hI.1 hY_this rfl hs_ld niq_d66 ?_
      refine lv_iload hx hb niq_d69 (lv_at hl 0 rfl) ?_
      refine y_call (z := (0, 289, 2, some 2, xM127)) (av := [.ref ld, .int k]) (rest := []) (y_cokV (n := 1) (ci := 2) X ym_nightChg rfl rfl rfl (x_cons (x_bw58 5 rfl rfl) (x_cons (x_bw58 6 rfl rfl) (x_cons (x_bw58 7 rfl rfl) (x_cons (x_bw0 2 rfl rfl) x_nilm)))) (x_bw58 8 rfl rfl) (by decide +kernel) ⟨Nat.le_of_ble_eq_true rfl, Nat.le_of_ble_eq_true rfl⟩) hY0 hI rfl niq_d71 hl.1 (Nat.le_of_ble_eq_true rfl) (Nat.le_of_ble_eq_true rfl) (Nat.le_of_ble_eq_true rfl) (y_cons (y_cref hY_ld rfl) (y_cons ⟨_, rfl, by show (0 : Int) ≤ _; omega, by show _ ≤ (11 : Int); omega⟩ y_nil)) rfl (y_recv rfl hY_ld) (fun t' h1 => by cases h1; exact ⟨_, hL⟩) (y_sub_ef rfl) fun v Yn o Hn L ho hr ha hIn hx_ hE hP => ?_
      have hPn := hP _ _ _ rfl hL
      obtain rfl := hPn
      replace hs_ld := y_Efld hE hY_this rfl (by decide) (by decide) hs_ld
      replace hs_ey := y_Efld hE hY_this rfl (by decide) (by decide) hs_ey
      replace hs_vw := y_Efld hE hY_ey rfl (by decide) (by decide) hs_vw
      replace hs_en := y_Efld hE hY_ey rfl (by decide) (by decide) hs_en
      replace hs_ed := y_Efld hE hY_ey rfl (by decide) (by decide) hs_ed
      replace hs_ahow := y_Efld hE hY_ld rfl (by decide) (by decide) hs_ahow
      replace hA_en := hA_en.kept (y_Earr hE hY_en rfl (by decide))
      replace hA_ed := hA_ed.kept (y_Earr hE hY_ed rfl (by decide))
      replace hA_ahow := hA_ahow.kept (y_Earr hE hY_ahow rfl (by decide))
      replace hL := hL.E hY_ld hE (fun q u h => y_ext hx_ hI.1 h) (by decide +kernel)
      replace hY_this := y_ext hx_ hI.1 hY_this
      replace hY_ld := y_ext hx_ hI.1 hY_ld
      replace hY_ey := y_ext hx_ hI.1 hY_ey
      replace hY_vw := y_ext hx_ hI.1 hY_vw
      replace hY_en := y_ext hx_ hI.1 hY_en
      replace hY_ed := y_ext hx_ hI.1 hY_ed
      replace hY_ahow := y_ext hx_ hI.1 hY_ahow
      generalize hg_r71 : m_chg f k.toInt.toNat = r71
      clear ho hr ha hE hP hI hx_
      rename x_I _ _ _ _ _ _ _ _ _ _ => hI
      refine lv_istore hx hb niq_d74 hl (by decide) (lv' := [(7, .int r71), (6, .int k), (5, .int gd), (4, .int fi), (3, .int li), (0, .ref this), (1, .int w), (2, .int t)]) rfl fun ls hl => ?_
      refine lv_iload_n hx hb niq_d76 rfl (lv_at hl 4 rfl) ?_
      refine lv_iload hx hb niq_d77 (lv_at hl 0 rfl) ?_
      refine lv_iand hx hb niq_d79 ?_
      generalize hg_z79 : li &&& r71 = z79
      have ec0 : (0 : Int32).toInt = 0 := by decide
      refine lv_if_eq hx hb niq_d80 (tgt := 87) (by decide) (fun q80 => ?_) (fun q80 => ?_)
      · have q80_ : z79.toInt = (0 : Int32).toInt := by rw [q80]
        refine lv_iconst hx hb niq_d87 (v := 0) (by decide) ?_
        refine lv_istore hx hb niq_d88 hl (by decide) (lv' := [(8, .int (0 : Int32)), (7, .int r71), (6, .int k), (5, .int gd), (4, .int fi), (3, .int li), (0, .ref this), (1, .int w), (2, .int t)]) rfl fun ls hl => ?_
        have hch9 : r71 = m_chg f k.toInt.toNat := hg_r71.symm
        exact niq_L90 B hav hR0 hb0 hok (by first | assumption | omega) (fun H Y locs ls k1 gd1 fi1 li1 fn1 fd1 hI hY_this hY_ld hY_ey hY_vw hY_en hY_ed hY_ahow hs_ld hs_ey hs_vw hs_en hs_ed hs_ahow hA_en hA_ed hA_ahow hL hl hk hok9 hli hfi hgd hnb hgb h_k1 => ih _ _ _ _ _ _ _ _ _ _ hI hY_this hY_ld hY_ey hY_vw hY_en hY_ed hY_ahow hs_ld hs_ey hs_vw hs_en hs_ed hs_ahow hA_en hA_ed hA_ahow hL hl hk hok9 hli hfi hgd hnb hgb (by omega)) _ _ _ _ _ _ _ _ _ _ _ hI hY_this hY_ld hY_ey hY_vw hY_en hY_ed hY_ahow hs_ld hs_ey hs_vw hs_en hs_ed hs_ahow hA_en hA_ed hA_ahow hL (lv_sub hl [0, 1, 2, 3, 4, 5, 6, 7, 8] rfl) (by first | assumption | omega) (by first | assumption | omega) (by first | assumption | omega) (by first | assumption | omega) (by first | assumption | omega) (by first | assumption | omega) (by assumption) (by show _ = m_b (!(decide (li &&& r71 = 0))); rw [hg_z79]; first | (rw [decide_eq_true (show z79 = 0 from by assumption)]; rfl) | (rw [decide_eq_false (show ¬ z79 = 0 from by assumption)]; rfl))
      · have q80_ : ¬ z79.toInt = (0 : Int32).toInt := fun q => q80 (Int32.toInt_inj.mp q)
        refine lv_iconst hx hb niq_d83 (v := 1) (by decide) ?_
        have ec1 : (1 : Int32).toInt = 1 := by decide
        refine lv_goto hx hb niq_d84 (tgt := 88) (by decide) ?_
        refine lv_istore hx hb niq_d88 hl (by decide) (lv' := [(8, .int (1 : Int32)), (7, .int r71), (6, .int k), (5, .int gd), (4, .int fi), (3, .int li), (0, .ref this), (1, .int w), (2, .int t)]) rfl fun ls hl => ?_
        have hch9 : r71 = m_chg f k.toInt.toNat := hg_r71.symm
        exact niq_L90 B hav hR0 hb0 hok (by first | assumption | omega) (fun H Y locs ls k1 gd1 fi1 li1 fn1 fd1 hI hY_this hY_ld hY_ey hY_vw hY_en hY_ed hY_ahow hs_ld hs_ey hs_vw hs_en hs_ed hs_ahow hA_en hA_ed hA_ahow hL hl hk hok9 hli hfi hgd hnb hgb h_k1 => ih _ _ _ _ _ _ _ _ _ _ hI hY_this hY_ld hY_ey hY_vw hY_en hY_ed hY_ahow hs_ld hs_ey hs_vw hs_en hs_ed hs_ahow hA_en hA_ed hA_ahow hL hl hk hok9 hli hfi hgd hnb hgb (by omega)) _ _ _ _ _ _ _ _ _ _ _ hI hY_this hY_ld hY_ey hY_vw hY_en hY_ed hY_ahow hs_ld hs_ey hs_vw hs_en hs_ed hs_ahow hA_en hA_ed hA_ahow hL (lv_sub hl [0, 1, 2, 3, 4, 5, 6, 7, 8] rfl) (by first | assumption | omega) (by first | assumption | omega) (by first | assumption | omega) (by first | assumption | omega) (by first | assumption | omega) (by first | assumption | omega) (by assumption) (by show _ = m_b (!(decide (li &&& r71 = 0))); rw [hg_z79]; first | (rw [decide_eq_true (show z79 = 0 from by assumption)]; rfl) | (rw [decide_eq_false (show ¬ z79 = 0 from by assumption)]; rfl))
theorem ym_Tnight : y_Met vwCl x_G x_Zs x_Tb x_Nb xM128 z_ATF z_PTnight := by
  refine y_main (by decide +kernel) (by decide +kernel) x_Tb_good x_Nb_ok ?_
  intro p l e s m below meth c D U Y0 av ls B hI hpre hl
  have X := B.1
  have hx := X.1
  have hb := X.2.1
  have hY0 := B.2.2.2.2.1
  obtain ⟨v0, v1, v2, rfl, hv0, ⟨w, rfl, -⟩, ⟨t, rfl, -⟩⟩ := y_three B.2.2.2.2.2
  obtain ⟨this, t0, rfl, ht0, hY_this⟩ := x_ref_at hv0 rfl
  obtain rfl := List.mem_singleton.mp ht0
  replace hl : lv_has ls xM128.2.2.1 [(0, .ref this), (1, .int w), (2, .int t)] := hl
  obtain ⟨f, K, tt, nn, hR0⟩ := hpre _ rfl
  obtain ⟨ld, dr, kp, tx, by_, kk, ⟨hs_ld, -⟩, ⟨hY_ld, -⟩, hL, -⟩ := id hR0
  obtain ⟨ey, hs_ey, hY_ey⟩ := y_fldR (k := 4) hI.1 hY_this rfl rfl
  obtain ⟨vw, hs_vw, hY_vw⟩ := y_fldR (k := 1) hI.1 hY_ey rfl rfl
  obtain ⟨en, hs_en, hY_en⟩ := y_fldR (k := 2) hI.1 hY_ey rfl rfl
  obtain ⟨ed, hs_ed, hY_ed⟩ := y_fldR (k := 3) hI.1 hY_ey rfl rfl
  have hn0 := hL.1.1
  have hn1 := hL.1.2.1
  have hn2 := hL.1.2.2
  have hb0 : 0 ≤ (f 0).toInt ∧ (f 0).toInt ≤ 10 := by obtain ⟨x9, e9, b9⟩ := y_fldI (k := 0) hI.1 hY_ld rfl rfl; rw [hn0] at e9; cases e9; exact b9
  have hb1 : 0 ≤ (f 1).toInt ∧ (f 1).toInt ≤ 8 := by obtain ⟨x9, e9, b9⟩ := y_fldI (k := 6) hI.1 hY_ld rfl rfl; rw [hn1] at e9; cases e9; exact b9
  have hb2 : 0 ≤ (f 2).toInt ∧ (f 2).toInt ≤ 8 := by obtain ⟨x9, e9, b9⟩ := y_fldI (k := 12) hI.1 hY_ld rfl rfl; rw [hn2] at e9; cases e9; exact b9
  obtain ⟨adial, hs_adial, hY_adial, hA_adial⟩ := hL.2.1 (10, 27, 4, 4, 1) (by decide)
  replace hA_adial : y_A adial 4 s.heap (fun j => f (4 + 1 * j)) := hA_adial
  obtain ⟨ahow, hs_ahow, hY_ahow, hA_ahow⟩ := hL.2.1 (15, 31, 12, 137, 2) (by decide)
  replace hA_ahow : y_A ahow 12 s.heap (fun j => f (137 + 2 * j)) := hA_ahow
  refine lv_aload_n hx hb niq_d0 rfl (lv_at hl 0 rfl) ?_
  refine y_getf X (fl8 X.2.2.2.2.1) hI.1 hY_this rfl hs_ld niq_d1 ?_
  refine lv_iload_n hx hb niq_d4 rfl (lv_at hl 1 rfl) ?_
  refine y_call (z := (0, 169, 2, some 2, xM67)) (av := [.ref ld, .int w]) (rest := []) (y_cokV (n := 1) (ci := 2) X ym_hasSet rfl rfl rfl (x_cons (x_bw42 2 rfl rfl) (x_cons (x_bw42 3 rfl rfl) (x_cons (x_bw42 4 rfl rfl) (x_cons (x_bw0 2 rfl rfl) x_nilm)))) (x_bw42 5 rfl rfl) (by decide +kernel) ⟨Nat.le_of_ble_eq_true rfl, Nat.le_of_ble_eq_true rfl⟩) hY0 hI rfl niq_d5 hl.1 (Nat.le_of_ble_eq_true rfl) (Nat.le_of_ble_eq_true rfl) (Nat.le_of_ble_eq_true rfl) (y_cons (y_cref hY_ld rfl) (y_cons ⟨_, rfl, x_i32 _⟩ y_nil)) rfl (y_recv rfl hY_ld) trivial (y_sub_ef rfl) fun v Yn o Hn L ho hr ha hIn hx_ hE hP => ?_
  have hPh := hP _ _ _ rfl hn0
  replace hs_ld := y_Efld hE hY_this rfl (by decide) (by decide) hs_ld
  replace hs_ey := y_Efld hE hY_this rfl (by decide) (by decide) hs_ey
  replace hs_vw := y_Efld hE hY_ey rfl (by decide) (by decide) hs_vw
  replace hs_en := y_Efld hE hY_ey rfl (by decide) (by decide) hs_en
  replace hs_ed := y_Efld hE hY_ey rfl (by decide) (by decide) hs_ed
  replace hs_ahow := y_Efld hE hY_ld rfl (by decide) (by decide) hs_ahow
  replace hn0 := y_Efld hE hY_ld rfl (by decide) (by decide) hn0
  replace hs_adial := y_Efld hE hY_ld rfl (by decide) (by decide) hs_adial
  replace hA_adial := hA_adial.kept (y_Earr hE hY_adial rfl (by decide))
  replace hA_ahow := hA_ahow.kept (y_Earr hE hY_ahow rfl (by decide))
  replace hL := hL.E hY_ld hE (fun q u h => y_ext hx_ hI.1 h) (by decide +kernel)
  replace hY_this := y_ext hx_ hI.1 hY_this
  replace hY_ld := y_ext hx_ hI.1 hY_ld
  replace hY_ey := y_ext hx_ hI.1 hY_ey
  replace hY_vw := y_ext hx_ hI.1 hY_vw
  replace hY_en := y_ext hx_ hI.1 hY_en
  replace hY_ed := y_ext hx_ hI.1 hY_ed
  replace hY_ahow := y_ext hx_ hI.1 hY_ahow
  replace hY_adial := y_ext hx_ hI.1 hY_adial
  obtain ⟨r5, rfl, hin_r5, hout_r5⟩ := hPh
  clear ho hr ha hE hP hI hx_
  rename x_I _ _ _ _ _ _ _ _ _ _ => hI
  have ec0 : (0 : Int32).toInt = 0 := by decide
  refine lv_if_eq hx hb niq_d8 (tgt := 20) (by decide) (fun q8 => ?_) (fun q8 => ?_)
  · have q8_ : r5.toInt = (0 : Int32).toInt := by rw [q8]
    have hno : ¬ (m_isS f w ∧ 0 ≤ t.toInt ∧ t.toInt ≤ 2) := fun q9 => by first | exact hout_r5 (by assumption) q9.1 | (have h9 := hout_r14 (by assumption); omega)
    refine lv_aload_n hx hb niq_d20 rfl (lv_at hl 0 rfl) ?_
    refine lv_bipush hx hb niq_d21 (v := (-2)) (by decide) ?_
    have ecm2 : ((-2) : Int32).toInt = (-2) := by decide
    refine y_call (z := (0, 59, 2, some 0, xM8)) (av := [.ref this, .int ((-2) : Int32)]) (rest := []) (y_cokV (n := 1) (ci := 11) X ym_counted rfl rfl rfl (x_cons (x_bw19 7 rfl rfl) (x_cons (x_bw19 9 rfl rfl) (x_cons (x_at 1 (by decide +kernel) rfl) (x_cons (x_bw0 1 rfl rfl) x_nilm)))) (x_bw19 10 rfl rfl) (by decide +kernel) ⟨Nat.le_of_ble_eq_true rfl, Nat.le_of_ble_eq_true rfl⟩) hY0 hI rfl niq_d23 hl.1 (Nat.le_of_ble_eq_true rfl) (Nat.le_of_ble_eq_true rfl) (Nat.le_of_ble_eq_true rfl) (y_cons (y_cref hY_this rfl) (y_cons ⟨_, rfl, x_i32 _⟩ y_nil)) rfl (y_recv rfl hY_this) trivial (y_sub_ef rfl) fun v Yn o Hn L ho hr ha hIn hx_ hE hP => ?_
    replace hs_ld := y_Efld hE hY_this rfl (by decide) (by decide) hs_ld
    replace hs_ey := y_Efld hE hY_this rfl (by decide) (by decide) hs_ey
    replace hs_vw := y_Efld hE hY_ey rfl (by decide) (by decide) hs_vw
    replace hs_en := y_Efld hE hY_ey rfl (by decide) (by decide) hs_en
    replace hs_ed := y_Efld hE hY_ey rfl (by decide) (by decide) hs_ed
    replace hs_ahow := y_Efld hE hY_ld rfl (by decide) (by decide) hs_ahow
    replace hn0 := y_Efld hE hY_ld rfl (by decide) (by decide) hn0
    replace hs_adial := y_Efld hE hY_ld rfl (by decide) (by decide) hs_adial
    replace hA_adial := hA_adial.kept (y_Earr hE hY_adial rfl (by decide))
    replace hA_ahow := hA_ahow.kept (y_Earr hE hY_ahow rfl (by decide))
    replace hL := hL.E hY_ld hE (fun q u h => y_ext hx_ hI.1 h) (by decide +kernel)
    replace hY_this := y_ext hx_ hI.1 hY_this
    replace hY_ld := y_ext hx_ hI.1 hY_ld
    replace hY_ey := y_ext hx_ hI.1 hY_ey
    replace hY_vw := y_ext hx_ hI.1 hY_vw
    replace hY_en := y_ext hx_ hI.1 hY_en
    replace hY_ed := y_ext hx_ hI.1 hY_ed
    replace hY_ahow := y_ext hx_ hI.1 hY_ahow
    replace hY_adial := y_ext hx_ hI.1 hY_adial
    obtain rfl := hP _ _ rfl
    clear ho hr ha hE hP hI hx_
    rename x_I _ _ _ _ _ _ _ _ _ _ => hI
    exact y_ireturn B hI rfl rfl rfl List.mem_cons_self ⟨_, rfl, ⟨_, rfl, x_i32 _⟩⟩ (x_cs.mono B.2.2.2.2.2 (y_mon B hI)) (fun t' w0' w1' f' K' tt' nn' h1 h2 => by cases h1; obtain ⟨ef, -⟩ := hR0.eqs h2; subst ef; exact ⟨_, rfl, fun q9 => absurd q9 hno, fun _ => rfl⟩) (Nat.le_refl _) (Nat.le_refl _) niq_d26
  · have q8_ : ¬ r5.toInt = (0 : Int32).toInt := fun q => q8 (Int32.toInt_inj.mp q)
    refine lv_iload_n hx hb niq_d11 rfl (lv_at hl 2 rfl) ?_
    refine lv_iconst hx hb niq_d12 (v := 0) (by decide) ?_
    refine lv_iconst hx hb niq_d13 (v := 2) (by decide) ?_
    have ec2 : (2 : Int32).toInt = 2 := by decide
    refine y_call (z := (1, 88, 3, none, xM10)) (av := [.int t, .int (0 : Int32), .int (2 : Int32)]) (rest := []) (y_cokS (n := 3) X ym_within (x_cons (x_bw19 15 rfl rfl) (x_cons (x_bw19 1 rfl rfl) (x_cons (x_bw0 1 rfl rfl) x_nilm))) (x_bw19 2 rfl rfl) (by decide +kernel) ⟨Nat.le_of_ble_eq_true rfl, Nat.le_of_ble_eq_true rfl⟩) hY0 hI rfl niq_d14 hl.1 (Nat.le_of_ble_eq_true rfl) (Nat.le_of_ble_eq_true rfl) (Nat.le_of_ble_eq_true rfl) (y_cons ⟨_, rfl, x_i32 _⟩ (y_cons ⟨_, rfl, x_i32 _⟩ (y_cons ⟨_, rfl, x_i32 _⟩ y_nil))) rfl (y_norecv rfl) trivial (y_sub_ef rfl) fun v Yn o Hn L ho hr ha hIn hx_ hE hP => ?_
    replace hs_ld := y_Efld hE hY_this rfl (by decide) (by decide) hs_ld
    replace hs_ey := y_Efld hE hY_this rfl (by decide) (by decide) hs_ey
    replace hs_vw := y_Efld hE hY_ey rfl (by decide) (by decide) hs_vw
    replace hs_en := y_Efld hE hY_ey rfl (by decide) (by decide) hs_en
    replace hs_ed := y_Efld hE hY_ey rfl (by decide) (by decide) hs_ed
    replace hs_ahow := y_Efld hE hY_ld rfl (by decide) (by decide) hs_ahow
    replace hn0 := y_Efld hE hY_ld rfl (by decide) (by decide) hn0
    replace hs_adial := y_Efld hE hY_ld rfl (by decide) (by decide) hs_adial
    replace hA_adial := hA_adial.kept (y_Earr hE hY_adial rfl (by decide))
    replace hA_ahow := hA_ahow.kept (y_Earr hE hY_ahow rfl (by decide))
    replace hL := hL.E hY_ld hE (fun q u h => y_ext hx_ hI.1 h) (by decide +kernel)
    replace hY_this := y_ext hx_ hI.1 hY_this
    replace hY_ld := y_ext hx_ hI.1 hY_ld
    replace hY_ey := y_ext hx_ hI.1 hY_ey
    replace hY_vw := y_ext hx_ hI.1 hY_vw
    replace hY_en := y_ext hx_ hI.1 hY_en
    replace hY_ed := y_ext hx_ hI.1 hY_ed
    replace hY_ahow := y_ext hx_ hI.1 hY_ahow
    replace hY_adial := y_ext hx_ hI.1 hY_adial
    obtain ⟨r14, rfl, hin_r14, hout_r14⟩ := hP _ _ _ rfl
    clear ho hr ha hE hP hI hx_
    rename x_I _ _ _ _ _ _ _ _ _ _ => hI
    refine lv_if_ne hx hb niq_d17 (tgt := 27) (by decide) (fun q17 => ?_) (fun q17 => ?_)
    · have q17_ : ¬ r14.toInt = (0 : Int32).toInt := fun q => q17 (Int32.toInt_inj.mp q)
      have hw9 := hin_r14 (by assumption)
      have hok : m_isS f w ∧ 0 ≤ t.toInt ∧ t.toInt ≤ 2 := ⟨hin_r5 (by assumption), by omega, by omega⟩
      refine lv_aload_n hx hb niq_d27 rfl (lv_at hl 0 rfl) ?_
      refine y_getf X (fl102 X.2.2.2.2.1) hI.1 hY_this rfl hs_ey niq_d28 ?_
      refine lv_aload_n hx hb niq_d31 rfl (lv_at hl 0 rfl) ?_
      refine y_getf X (fl8 X.2.2.2.2.1) hI.1 hY_this rfl hs_ld niq_d32 ?_
      refine lv_aload_n hx hb niq_d35 rfl (lv_at hl 0 rfl) ?_
      refine y_getf X (fl8 X.2.2.2.2.1) hI.1 hY_this rfl hs_ld niq_d36 ?_
      refine y_getf X (fl58 X.2.2.2.2.1) hI.1 hY_ld rfl hs_adial niq_d39 ?_
      refine lv_iconst hx hb niq_d42 (v := 0) (by decide) ?_
      refine y_iald X hI.1 hY_adial rfl hA_adial (by omega) (by show _ < (4 : Int); omega) niq_d43 ?_
      obtain ⟨e43, hg_e43⟩ : ∃ e43 : Int32, f (4 + 1 * (0 : Int32).toInt.toNat) = e43 := ⟨_, rfl⟩
      rw [hg_e43]
      have hy9 : e43 = f 4 := hg_e43.symm
      subst hy9
      refine y_call (z := (0, 200, 3, some 6, xM49)) (av := [.ref ey, .ref ld, .int (f 4)]) (rest := []) (y_cokV (n := 2) (ci := 0) X ym_gatherE rfl rfl rfl (x_cons (x_bw30 0 rfl rfl) (x_cons (x_bw30 1 rfl rfl) (x_cons (x_bw30 2 rfl rfl) (x_cons (x_bw0 6 rfl rfl) x_nilm)))) (x_bw30 3 rfl rfl) (by decide +kernel) ⟨Nat.le_of_ble_eq_true rfl, Nat.le_of_ble_eq_true rfl⟩) hY0 hI rfl niq_d44 hl.1 (Nat.le_of_ble_eq_true rfl) (Nat.le_of_ble_eq_true rfl) (Nat.le_of_ble_eq_true rfl) (y_cons (y_cref hY_ey rfl) (y_cons (y_cref hY_ld rfl) (y_cons ⟨_, rfl, x_i32 _⟩ y_nil))) rfl (y_recv rfl hY_ey) (fun t' h1 => by cases h1; exact ⟨_, hL⟩) (y_sub_ef rfl) fun v Yn o Hn L ho hr ha hIn hx_ hE hP => ?_
      have hPg := hP _ _ _ _ _ _ rfl hs_en hs_ed hL
      replace hs_ld := y_Efld hE hY_this rfl (by decide) (by decide) hs_ld
      replace hs_ey := y_Efld hE hY_this rfl (by decide) (by decide) hs_ey
      replace hs_vw := y_Efld hE hY_ey rfl (by decide) (by decide) hs_vw
      replace hs_en := y_Efld hE hY_ey rfl (by decide) (by decide) hs_en
      replace hs_ed := y_Efld hE hY_ey rfl (by decide) (by decide) hs_ed
      replace hs_ahow := y_Efld hE hY_ld rfl (by decide) (by decide) hs_ahow
      replace hn0 := y_Efld hE hY_ld rfl (by decide) (by decide) hn0
      replace hs_adial := y_Efld hE hY_ld rfl (by decide) (by decide) hs_adial
      replace hA_adial := hA_adial.kept (y_Earr hE hY_adial rfl (by decide))
      replace hA_ahow := hA_ahow.kept (y_Earr hE hY_ahow rfl (by decide))
      replace hL := hL.E hY_ld hE (fun q u h => y_ext hx_ hI.1 h) (by decide +kernel)
      replace hY_this := y_ext hx_ hI.1 hY_this
      replace hY_ld := y_ext hx_ hI.1 hY_ld
      replace hY_ey := y_ext hx_ hI.1 hY_ey
      replace hY_vw := y_ext hx_ hI.1 hY_vw
      replace hY_en := y_ext hx_ hI.1 hY_en
      replace hY_ed := y_ext hx_ hI.1 hY_ed
      replace hY_ahow := y_ext hx_ hI.1 hY_ahow
      replace hY_adial := y_ext hx_ hI.1 hY_adial
      obtain rfl := y_ansV rfl ho hr
      obtain ⟨fn, fd, hA_en, hA_ed, hok9⟩ := hPg
      have hd09 : True := trivial
      clear ho hr ha hE hP hI hx_
      rename x_I _ _ _ _ _ _ _ _ _ _ => hI
      refine lv_iload_n hx hb niq_d47 rfl (lv_at hl 1 rfl) ?_
      refine lv_istore_n hx hb niq_d48 rfl hl (by decide) (lv' := [(3, .int w), (0, .ref this), (1, .int w), (2, .int t)]) rfl fun ls hl => ?_
      refine lv_iconst hx hb niq_d49 (v := (-1)) (by decide) ?_
      have ecm1 : ((-1) : Int32).toInt = (-1) := by decide
      refine lv_istore hx hb niq_d50 hl (by decide) (lv' := [(4, .int ((-1) : Int32)), (3, .int w), (0, .ref this), (1, .int w), (2, .int t)]) rfl fun ls hl => ?_
      refine lv_iconst hx hb niq_d52 (v := 0) (by decide) ?_
      refine lv_istore hx hb niq_d53 hl (by decide) (lv' := [(5, .int (0 : Int32)), (4, .int ((-1) : Int32)), (3, .int w), (0, .ref this), (1, .int w), (2, .int t)]) rfl fun ls hl => ?_
      refine lv_iconst hx hb niq_d55 (v := 0) (by decide) ?_
      refine lv_istore hx hb niq_d56 hl (by decide) (lv' := [(6, .int (0 : Int32)), (5, .int (0 : Int32)), (4, .int ((-1) : Int32)), (3, .int w), (0, .ref this), (1, .int w), (2, .int t)]) rfl fun ls hl => ?_
      exact niq_L58 B rfl hR0 hb0 hok 14 _ _ _ _ _ _ _ _ _ _ hI hY_this hY_ld hY_ey hY_vw hY_en hY_ed hY_ahow hs_ld hs_ey hs_vw hs_en hs_ed hs_ahow hA_en hA_ed hA_ahow hL (lv_sub hl [0, 1, 2, 3, 4, 5, 6] rfl) (by first | assumption | omega) hok9 rfl rfl rfl (fun j hj => absurd hj (by omega)) (by first | assumption | omega) (by omega)
    · have q17_ : r14.toInt = (0 : Int32).toInt := by rw [q17]
      have hno : ¬ (m_isS f w ∧ 0 ≤ t.toInt ∧ t.toInt ≤ 2) := fun q9 => by first | exact hout_r5 (by assumption) q9.1 | (have h9 := hout_r14 (by assumption); omega)
      refine lv_aload_n hx hb niq_d20 rfl (lv_at hl 0 rfl) ?_
      refine lv_bipush hx hb niq_d21 (v := (-2)) (by decide) ?_
      have ecm2 : ((-2) : Int32).toInt = (-2) := by decide
      refine y_call (z := (0, 59, 2, some 0, xM8)) (av := [.ref this, .int ((-2) : Int32)]) (rest := []) (y_cokV (n := 1) (ci := 11) X ym_counted rfl rfl rfl (x_cons (x_bw19 7 rfl rfl) (x_cons (x_bw19 9 rfl rfl) (x_cons (x_at 1 (by decide +kernel) rfl) (x_cons (x_bw0 1 rfl rfl) x_nilm)))) (x_bw19 10 rfl rfl) (by decide +kernel) ⟨Nat.le_of_ble_eq_true rfl, Nat.le_of_ble_eq_true rfl⟩) hY0 hI rfl niq_d23 hl.1 (Nat.le_of_ble_eq_true rfl) (Nat.le_of_ble_eq_true rfl) (Nat.le_of_ble_eq_true rfl) (y_cons (y_cref hY_this rfl) (y_cons ⟨_, rfl, x_i32 _⟩ y_nil)) rfl (y_recv rfl hY_this) trivial (y_sub_ef rfl) fun v Yn o Hn L ho hr ha hIn hx_ hE hP => ?_
      replace hs_ld := y_Efld hE hY_this rfl (by decide) (by decide) hs_ld
      replace hs_ey := y_Efld hE hY_this rfl (by decide) (by decide) hs_ey
      replace hs_vw := y_Efld hE hY_ey rfl (by decide) (by decide) hs_vw
      replace hs_en := y_Efld hE hY_ey rfl (by decide) (by decide) hs_en
      replace hs_ed := y_Efld hE hY_ey rfl (by decide) (by decide) hs_ed
      replace hs_ahow := y_Efld hE hY_ld rfl (by decide) (by decide) hs_ahow
      replace hn0 := y_Efld hE hY_ld rfl (by decide) (by decide) hn0
      replace hs_adial := y_Efld hE hY_ld rfl (by decide) (by decide) hs_adial
      replace hA_adial := hA_adial.kept (y_Earr hE hY_adial rfl (by decide))
      replace hA_ahow := hA_ahow.kept (y_Earr hE hY_ahow rfl (by decide))
      replace hL := hL.E hY_ld hE (fun q u h => y_ext hx_ hI.1 h) (by decide +kernel)
      replace hY_this := y_ext hx_ hI.1 hY_this
      replace hY_ld := y_ext hx_ hI.1 hY_ld
      replace hY_ey := y_ext hx_ hI.1 hY_ey
      replace hY_vw := y_ext hx_ hI.1 hY_vw
      replace hY_en := y_ext hx_ hI.1 hY_en
      replace hY_ed := y_ext hx_ hI.1 hY_ed
      replace hY_ahow := y_ext hx_ hI.1 hY_ahow
      replace hY_adial := y_ext hx_ hI.1 hY_adial
      obtain rfl := hP _ _ rfl
      clear ho hr ha hE hP hI hx_
      rename x_I _ _ _ _ _ _ _ _ _ _ => hI
      exact y_ireturn B hI rfl rfl rfl List.mem_cons_self ⟨_, rfl, ⟨_, rfl, x_i32 _⟩⟩ (x_cs.mono B.2.2.2.2.2 (y_mon B hI)) (fun t' w0' w1' f' K' tt' nn' h1 h2 => by cases h1; obtain ⟨ef, -⟩ := hR0.eqs h2; subst ef; exact ⟨_, rfl, fun q9 => absurd q9 hno, fun _ => rfl⟩) (Nat.le_refl _) (Nat.le_refl _) niq_d26
