theorem fl_sq_240 {s : State} {args : Array Value} (hts : ∀ w ∈ x_Tb, w.before args s = true) : x_fok vwCl x_G x_Tb s args "TwinFiresModel" (44, 17, 20) := ⟨12, _, RX12, TX12, "TwinFiresModel", rfl, rfl, Nat.le_of_ble_eq_true rfl, iX12, (hts _ (x_bw63 7 rfl rfl)), fun x h => h⟩
/-! HOW FAR: the reference's queue -/
def z_Asp : yA := fun D av Y H => ∀ (this lw bk : Nat) (fm : Int32) (gl fb : Nat → Int32), av = [.ref this, .int fm] → x_sl D 12 0 this H = some (.ref bk) → y_A bk 160 H fb → x_sl D 12 18 this H = some (.ref lw) → y_A lw 1024 H gl → fm.toInt ≤ (z_all (fb 0)).toInt ∧ ¬ gl fm.toInt.toNat = 0
def z_Psp2 : yP := fun D av Y H _ Y' H' => ∀ (this fr lw bk : Nat) (fm : Int32) (gl fb : Nat → Int32), av = [.ref this, .int fm] → x_sl D 12 0 this H = some (.ref bk) → y_A bk 160 H fb → x_sl D 12 18 this H = some (.ref lw) → y_A lw 1024 H gl → x_sl D 12 19 this H = some (.ref fr) → ∃ ff : Nat → Int32, y_A fr 1024 H' ff ∧ m_D (m_gl gl) ((z_all (fb 0)).toInt.toNat + 1) fm.toInt.toNat ff
theorem sq_d0 : decode xMsp.2.1 0 = .ok (.iconst 0, 1) := dz_ok (by decide +kernel)
theorem sq_d1 : decode xMsp.2.1 1 = .ok (.istore_n 2, 1) := dz_ok (by decide +kernel)
theorem sq_d2 : decode xMsp.2.1 2 = .ok (.iload_n 2, 1) := dz_ok (by decide +kernel)
theorem sq_d3 : decode xMsp.2.1 3 = .ok (.aload_n 0, 1) := dz_ok (by decide +kernel)
theorem sq_d4 : decode xMsp.2.1 4 = .ok (.invokevirtual 91, 3) := dz_ok (by decide +kernel)
theorem sq_d7 : decode xMsp.2.1 7 = .ok (.if_icmp .gt 16, 3) := dz_ok (by decide +kernel)
theorem sq_d10 : decode xMsp.2.1 10 = .ok (.aload_n 0, 1) := dz_ok (by decide +kernel)
theorem sq_d11 : decode xMsp.2.1 11 = .ok (.getfield 41, 3) := dz_ok (by decide +kernel)
theorem sq_d14 : decode xMsp.2.1 14 = .ok (.iload_n 2, 1) := dz_ok (by decide +kernel)
theorem sq_d15 : decode xMsp.2.1 15 = .ok (.iconst (-1), 1) := dz_ok (by decide +kernel)
theorem sq_d16 : decode xMsp.2.1 16 = .ok (.iastore, 1) := dz_ok (by decide +kernel)
theorem sq_d17 : decode xMsp.2.1 17 = .ok (.iinc 2 1, 3) := dz_ok (by decide +kernel)
theorem sq_d20 : decode xMsp.2.1 20 = .ok (.goto (-18), 3) := dz_ok (by decide +kernel)
theorem sq_d23 : decode xMsp.2.1 23 = .ok (.aload_n 0, 1) := dz_ok (by decide +kernel)
theorem sq_d24 : decode xMsp.2.1 24 = .ok (.getfield 41, 3) := dz_ok (by decide +kernel)
theorem sq_d27 : decode xMsp.2.1 27 = .ok (.iload_n 1, 1) := dz_ok (by decide +kernel)
theorem sq_d28 : decode xMsp.2.1 28 = .ok (.iconst 0, 1) := dz_ok (by decide +kernel)
theorem sq_d29 : decode xMsp.2.1 29 = .ok (.iastore, 1) := dz_ok (by decide +kernel)
theorem sq_d30 : decode xMsp.2.1 30 = .ok (.aload_n 0, 1) := dz_ok (by decide +kernel)
theorem sq_d31 : decode xMsp.2.1 31 = .ok (.getfield 44, 3) := dz_ok (by decide +kernel)
theorem sq_d34 : decode xMsp.2.1 34 = .ok (.iconst 0, 1) := dz_ok (by decide +kernel)
theorem sq_d35 : decode xMsp.2.1 35 = .ok (.iload_n 1, 1) := dz_ok (by decide +kernel)
theorem sq_d36 : decode xMsp.2.1 36 = .ok (.iastore, 1) := dz_ok (by decide +kernel)
theorem sq_d37 : decode xMsp.2.1 37 = .ok (.iconst 0, 1) := dz_ok (by decide +kernel)
theorem sq_d38 : decode xMsp.2.1 38 = .ok (.istore_n 2, 1) := dz_ok (by decide +kernel)
theorem sq_d39 : decode xMsp.2.1 39 = .ok (.iconst 1, 1) := dz_ok (by decide +kernel)
theorem sq_d40 : decode xMsp.2.1 40 = .ok (.istore_n 3, 1) := dz_ok (by decide +kernel)
theorem sq_d41 : decode xMsp.2.1 41 = .ok (.iload_n 2, 1) := dz_ok (by decide +kernel)
theorem sq_d42 : decode xMsp.2.1 42 = .ok (.iload_n 3, 1) := dz_ok (by decide +kernel)
theorem sq_d43 : decode xMsp.2.1 43 = .ok (.if_icmp .ge 93, 3) := dz_ok (by decide +kernel)
theorem sq_d46 : decode xMsp.2.1 46 = .ok (.aload_n 0, 1) := dz_ok (by decide +kernel)
theorem sq_d47 : decode xMsp.2.1 47 = .ok (.getfield 44, 3) := dz_ok (by decide +kernel)
theorem sq_d50 : decode xMsp.2.1 50 = .ok (.iload_n 2, 1) := dz_ok (by decide +kernel)
theorem sq_d51 : decode xMsp.2.1 51 = .ok (.iaload, 1) := dz_ok (by decide +kernel)
theorem sq_d52 : decode xMsp.2.1 52 = .ok (.istore 4, 2) := dz_ok (by decide +kernel)
theorem sq_d54 : decode xMsp.2.1 54 = .ok (.iinc 2 1, 3) := dz_ok (by decide +kernel)
theorem sq_d57 : decode xMsp.2.1 57 = .ok (.iconst 0, 1) := dz_ok (by decide +kernel)
theorem sq_d58 : decode xMsp.2.1 58 = .ok (.istore 5, 2) := dz_ok (by decide +kernel)
theorem sq_d60 : decode xMsp.2.1 60 = .ok (.iload 5, 2) := dz_ok (by decide +kernel)
theorem sq_d62 : decode xMsp.2.1 62 = .ok (.aload_n 0, 1) := dz_ok (by decide +kernel)
theorem sq_d63 : decode xMsp.2.1 63 = .ok (.invokevirtual 91, 3) := dz_ok (by decide +kernel)
theorem sq_d66 : decode xMsp.2.1 66 = .ok (.if_icmp .gt 67, 3) := dz_ok (by decide +kernel)
theorem sq_d69 : decode xMsp.2.1 69 = .ok (.aload_n 0, 1) := dz_ok (by decide +kernel)
theorem sq_d70 : decode xMsp.2.1 70 = .ok (.getfield 38, 3) := dz_ok (by decide +kernel)
theorem sq_d73 : decode xMsp.2.1 73 = .ok (.iload 5, 2) := dz_ok (by decide +kernel)
theorem sq_d75 : decode xMsp.2.1 75 = .ok (.baload, 1) := dz_ok (by decide +kernel)
theorem sq_d76 : decode xMsp.2.1 76 = .ok (.ifCond .eq 51, 3) := dz_ok (by decide +kernel)
theorem sq_d79 : decode xMsp.2.1 79 = .ok (.aload_n 0, 1) := dz_ok (by decide +kernel)
theorem sq_d80 : decode xMsp.2.1 80 = .ok (.getfield 41, 3) := dz_ok (by decide +kernel)
theorem sq_d83 : decode xMsp.2.1 83 = .ok (.iload 5, 2) := dz_ok (by decide +kernel)
theorem sq_d85 : decode xMsp.2.1 85 = .ok (.iaload, 1) := dz_ok (by decide +kernel)
theorem sq_d86 : decode xMsp.2.1 86 = .ok (.iconst (-1), 1) := dz_ok (by decide +kernel)
theorem sq_d87 : decode xMsp.2.1 87 = .ok (.if_icmp .ne 40, 3) := dz_ok (by decide +kernel)
theorem sq_d90 : decode xMsp.2.1 90 = .ok (.iload 4, 2) := dz_ok (by decide +kernel)
theorem sq_d92 : decode xMsp.2.1 92 = .ok (.iload 5, 2) := dz_ok (by decide +kernel)
theorem sq_d94 : decode xMsp.2.1 94 = .ok (.invokestatic 257, 3) := dz_ok (by decide +kernel)
theorem sq_d97 : decode xMsp.2.1 97 = .ok (.ifCond .eq 30, 3) := dz_ok (by decide +kernel)
theorem sq_d100 : decode xMsp.2.1 100 = .ok (.aload_n 0, 1) := dz_ok (by decide +kernel)
theorem sq_d101 : decode xMsp.2.1 101 = .ok (.getfield 41, 3) := dz_ok (by decide +kernel)
theorem sq_d104 : decode xMsp.2.1 104 = .ok (.iload 5, 2) := dz_ok (by decide +kernel)
theorem sq_d106 : decode xMsp.2.1 106 = .ok (.aload_n 0, 1) := dz_ok (by decide +kernel)
theorem sq_d107 : decode xMsp.2.1 107 = .ok (.getfield 41, 3) := dz_ok (by decide +kernel)
theorem sq_d110 : decode xMsp.2.1 110 = .ok (.iload 4, 2) := dz_ok (by decide +kernel)
theorem sq_d112 : decode xMsp.2.1 112 = .ok (.iaload, 1) := dz_ok (by decide +kernel)
theorem sq_d113 : decode xMsp.2.1 113 = .ok (.iconst 1, 1) := dz_ok (by decide +kernel)
theorem sq_d114 : decode xMsp.2.1 114 = .ok (.iadd, 1) := dz_ok (by decide +kernel)
theorem sq_d115 : decode xMsp.2.1 115 = .ok (.iastore, 1) := dz_ok (by decide +kernel)
theorem sq_d116 : decode xMsp.2.1 116 = .ok (.aload_n 0, 1) := dz_ok (by decide +kernel)
theorem sq_d117 : decode xMsp.2.1 117 = .ok (.getfield 44, 3) := dz_ok (by decide +kernel)
theorem sq_d120 : decode xMsp.2.1 120 = .ok (.iload_n 3, 1) := dz_ok (by decide +kernel)
theorem sq_d121 : decode xMsp.2.1 121 = .ok (.iload 5, 2) := dz_ok (by decide +kernel)
theorem sq_d123 : decode xMsp.2.1 123 = .ok (.iastore, 1) := dz_ok (by decide +kernel)
theorem sq_d124 : decode xMsp.2.1 124 = .ok (.iinc 3 1, 3) := dz_ok (by decide +kernel)
theorem sq_d127 : decode xMsp.2.1 127 = .ok (.iinc 5 1, 3) := dz_ok (by decide +kernel)
theorem sq_d130 : decode xMsp.2.1 130 = .ok (.goto (-70), 3) := dz_ok (by decide +kernel)
theorem sq_d133 : decode xMsp.2.1 133 = .ok (.goto (-92), 3) := dz_ok (by decide +kernel)
theorem sq_d136 : decode xMsp.2.1 136 = .ok (.return_, 1) := dz_ok (by decide +kernel)
theorem sq_L60 {p : Program} {l : Launch} {e : Env} {s : State} {m : MethodId} {below : List Frame} {meth : Method} {c : Code} {D : va_G} {U : State} {Y0 : xY} {av : List Value} (B : y_B vwCl x_Tb x_Nb xMsp p s m meth c D U Y0 av) {this bk fr qu lw : Nat} {fm : Int32} {fb gl : Nat → Int32} (hav : av = [.ref this, .int fm]) (hs0 : x_sl D 12 0 this s.heap = some (.ref bk)) (hA0 : y_A bk 160 s.heap fb) (hsl0 : x_sl D 12 18 this s.heap = some (.ref lw)) (hAl0 : y_A lw 1024 s.heap gl) (hsf0 : x_sl D 12 19 this s.heap = some (.ref fr)) (hN : 0 ≤ (z_all (fb 0)).toInt ∧ (z_all (fb 0)).toInt ≤ 1023) (hfm : 0 ≤ fm.toInt ∧ fm.toInt ≤ 1023) (hB_lw : ∀ j, j < 1024 → (0 : Int) ≤ (gl j).toInt ∧ (gl j).toInt ≤ 1) (hok : fm.toInt ≤ (z_all (fb 0)).toInt ∧ ¬ gl fm.toInt.toNat = 0) {se he : Int32} (hse0 : 0 ≤ se.toInt ∧ se.toInt ≤ 1023) (hhe : 1 ≤ he.toInt)
    (out41 : ∀ (H : Heap) (Y : xY) (locs : List Loc) (ls : Array Slot) (ta1 : Int32) (he1 : Int32) (ff1 qq1 : Nat → Int32), x_I D x_G x_Zs U (x_efs xMsp) Y0 s.heap Y H locs → Y this = some 17 → Y bk = some 46 → Y fr = some 56 → Y qu = some 57 → Y lw = some 55 → x_sl D 12 0 this H = some (.ref bk) → x_sl D 12 19 this H = some (.ref fr) → x_sl D 12 20 this H = some (.ref qu) → x_sl D 12 18 this H = some (.ref lw) → y_A bk 160 H fb → y_A fr 1024 H ff1 → y_A qu 1024 H qq1 → y_A lw 1024 H gl → lv_has ls xMsp.2.2.1 [(3, .int ta1), (2, .int he1), (0, .ref this), (1, .int fm)] → (∀ j, j < 1024 → (0 : Int) ≤ (qq1 j).toInt ∧ (qq1 j).toInt ≤ 1023) → (0 ≤ he1.toInt ∧ he1.toInt ≤ ta1.toInt) → (1 ≤ ta1.toInt ∧ ta1.toInt ≤ (z_cnt ff1 1024 : Int)) → (m_Q1 (m_gl gl) ((z_all (fb 0)).toInt.toNat + 1) fm.toInt.toNat ff1) → (m_QU (m_gl gl) ((z_all (fb 0)).toInt.toNat + 1) ff1 qq1 he1.toInt.toNat ta1.toInt.toNat) → (m_QB ff1 qq1 ta1.toInt.toNat) → (he1.toInt < ta1.toInt → m_QT ff1 qq1 ta1.toInt.toNat (ff1 (qq1 he1.toInt.toNat).toInt.toNat).toInt) → (∀ j : Nat, (j : Int) < he1.toInt → m_Q2 (m_gl gl) ((z_all (fb 0)).toInt.toNat + 1) ff1 (qq1 j).toInt.toNat) → (he1.toInt = he.toInt) → W p l e (x_rm xMsp) s m av.toArray below meth c H locs 0 0 (y_QQ below D x_G x_Zs U xMsp z_Psp2 av Y0 s) (F0 m 41 ls [])) :
    ∀ (n : Nat), ∀ (H : Heap) (Y : xY) (locs : List Loc) (ls : Array Slot) (to : Int32) (ta : Int32) (ff qq : Nat → Int32), x_I D x_G x_Zs U (x_efs xMsp) Y0 s.heap Y H locs → Y this = some 17 → Y bk = some 46 → Y fr = some 56 → Y qu = some 57 → Y lw = some 55 → x_sl D 12 0 this H = some (.ref bk) → x_sl D 12 19 this H = some (.ref fr) → x_sl D 12 20 this H = some (.ref qu) → x_sl D 12 18 this H = some (.ref lw) → y_A bk 160 H fb → y_A fr 1024 H ff → y_A qu 1024 H qq → y_A lw 1024 H gl → lv_has ls xMsp.2.2.1 [(5, .int to), (4, .int se), (2, .int he), (3, .int ta), (0, .ref this), (1, .int fm)] → (∀ j, j < 1024 → (0 : Int) ≤ (qq j).toInt ∧ (qq j).toInt ≤ 1023) → (0 ≤ to.toInt ∧ to.toInt ≤ (z_all (fb 0)).toInt + 1) → (he.toInt ≤ ta.toInt) → (1 ≤ ta.toInt ∧ ta.toInt ≤ (z_cnt ff 1024 : Int)) → (m_Q1 (m_gl gl) ((z_all (fb 0)).toInt.toNat + 1) fm.toInt.toNat ff) → (m_QU (m_gl gl) ((z_all (fb 0)).toInt.toNat + 1) ff qq he.toInt.toNat ta.toInt.toNat) → (m_QB ff qq ta.toInt.toNat) → (se = qq (he.toInt.toNat - 1)) → (m_QT ff qq ta.toInt.toNat (ff se.toInt.toNat).toInt) → (∀ j : Nat, (j : Int) < he.toInt - 1 → m_Q2 (m_gl gl) ((z_all (fb 0)).toInt.toNat + 1) ff (qq j).toInt.toNat) → (∀ t : Nat, (t : Int) < to.toInt → m_gl gl t = true → m_st se.toInt.toNat t → ¬ (ff t).toInt = -1 ∧ (ff t).toInt ≤ (ff se.toInt.toNat).toInt + 1) → (1025 - to.toInt).toNat < n → W p l e (x_rm xMsp) s m av.toArray below meth c H locs 0 0 (y_QQ below D x_G x_Zs U xMsp z_Psp2 av Y0 s) (F0 m 60 ls []) := by
  have X := B.1
  have hx := X.1
  have hb := X.2.1
  have hY0 := B.2.2.2.2.1
  intro n
  induction n with
  | zero => intro _ _ _ _ _ _ _ _ _ _ _ _ _ _ _ _ _ _ _ _ _ _ _ _ _ _ _ _ _ _ _ _ _ _ h; exact absurd h (Nat.not_lt_zero _)
  | succ n ih =>
    intro H Y locs ls to ta ff qq hI hY_this hY_bk hY_fr hY_qu hY_lw hs_bk hs_fr hs_qu hs_lw hA_bk hA_fr hA_qu hA_lw hl hB_qu hto hh hcnt hq1 hqu hqb hset hqt hcl hnx hn
    have hc9 := z_cnt_le ff 1024
    have hsq := hqu.2.1 (he.toInt.toNat - 1) (by omega)
    have hsb := hqb (he.toInt.toNat - 1) (by omega)
    rw [← hset] at hsq hsb
    refine lv_iload hx hb sq_d60 (lv_at hl 0 rfl) ?_
    refine lv_aload_n hx hb sq_d62 rfl (lv_at hl 4 rfl) ?_
    refine y_call (z := (0, 91, 1, some 17, xM182)) (av := [.ref this]) (rest := [.int to]) (y_cokV (n := 0) (ci := 12) X ym_all rfl rfl rfl (x_cons (x_bw77 4 rfl rfl) (x_cons (x_bw77 6 rfl rfl) (x_cons (x_at 49 (by decide +kernel) rfl) (x_cons (x_bw0 9 rfl rfl) x_nilm)))) (x_bw77 7 rfl rfl) (by decide +kernel) ⟨Nat.le_of_ble_eq_true rfl, Nat.le_of_ble_eq_true rfl⟩) hY0 hI rfl sq_d63 hl.1 (Nat.le_of_ble_eq_true rfl) (Nat.le_of_ble_eq_true rfl) (Nat.le_of_ble_eq_true rfl) (y_cons (y_cref hY_this rfl) y_nil) rfl (y_recv rfl hY_this) trivial (y_sub_ef rfl) fun v Yn o Hn L ho hr ha hIn hx_ hE hP => ?_
    have hPv := hP _ _ _ rfl hs_bk (hA_bk 0 (by decide))
    replace hs_bk := y_Efld hE hY_this rfl (by decide) (by decide) hs_bk
    replace hs_fr := y_Efld hE hY_this rfl (by decide) (by decide) hs_fr
    replace hs_qu := y_Efld hE hY_this rfl (by decide) (by decide) hs_qu
    replace hs_lw := y_Efld hE hY_this rfl (by decide) (by decide) hs_lw
    replace hA_bk := hA_bk.kept (y_Earr hE hY_bk rfl (by decide))
    replace hA_fr := hA_fr.kept (y_Earr hE hY_fr rfl (by decide))
    replace hA_qu := hA_qu.kept (y_Earr hE hY_qu rfl (by decide))
    replace hA_lw := hA_lw.kept (y_Earr hE hY_lw rfl (by decide))
    replace hY_this := y_ext hx_ hI.1 hY_this
    replace hY_bk := y_ext hx_ hI.1 hY_bk
    replace hY_fr := y_ext hx_ hI.1 hY_fr
    replace hY_qu := y_ext hx_ hI.1 hY_qu
    replace hY_lw := y_ext hx_ hI.1 hY_lw
    obtain rfl := hPv
    clear ho hr ha hE hP hI hx_
    rename x_I _ _ _ _ _ _ _ _ _ _ => hI
    refine lv_icmp_gt hx hb sq_d66 (tgt := 133) (by decide) (fun q66 => ?_) (fun q66 => ?_)
    · have q66_ : (z_all (fb 0)).toInt < to.toInt := x_lt32.mp q66
      refine lv_goto hx hb sq_d133 (tgt := 41) (by decide) ?_
      have hall : m_Q2 (m_gl gl) ((z_all (fb 0)).toInt.toNat + 1) ff se.toInt.toNat := fun t ht hLt9 hst8 => hnx t (by omega) hLt9 hst8
      exact out41 _ _ _ _ _ _ _ _ hI hY_this hY_bk hY_fr hY_qu hY_lw hs_bk hs_fr hs_qu hs_lw hA_bk hA_fr hA_qu hA_lw (lv_sub hl [3, 2, 4, 5] rfl) (by first | assumption | omega) (by omega) (by first | assumption | omega) (by first | assumption | omega) (by first | assumption | omega) (by first | assumption | omega) (fun h9 => fun j hj => by have h8 := hqt j hj; have h7 := hqu.2.2.1 (he.toInt.toNat - 1) he.toInt.toNat (by omega) (by omega); rw [← hset] at h7; omega) (fun j hj => by by_cases e9 : j = he.toInt.toNat - 1; (rw [e9, ← hset]; exact hall); exact hcl j (by omega)) rfl
    · have q66_ : to.toInt ≤ (z_all (fb 0)).toInt := Int.not_lt.mp fun q => q66 (x_lt32.mpr q)
      refine lv_aload_n hx hb sq_d69 rfl (lv_at hl 4 rfl) ?_
      refine y_getf X (fl200 X.2.2.2.2.1) hI.1 hY_this rfl hs_lw sq_d70 ?_
      refine lv_iload hx hb sq_d73 (lv_at hl 0 rfl) ?_
      refine y_zald X hI.1 hY_lw rfl hA_lw (by omega) (by show _ < (1024 : Int); omega) sq_d75 ?_
      obtain ⟨e75, hg_e75⟩ : ∃ e75 : Int32, gl to.toInt.toNat = e75 := ⟨_, rfl⟩
      rw [hg_e75]
      have h_e75 : (0 : Int) ≤ e75.toInt ∧ e75.toInt ≤ 1 := by rw [← hg_e75]; exact hB_lw _ (by omega)
      have ec0 : (0 : Int32).toInt = 0 := by decide
      refine lv_if_eq hx hb sq_d76 (tgt := 127) (by decide) (fun q76 => ?_) (fun q76 => ?_)
      · have q76_ : e75.toInt = (0 : Int32).toInt := by rw [q76]
        obtain ⟨z127, hg_z127⟩ : ∃ z127 : Int32, to + Int32.ofInt 1 = z127 := ⟨_, rfl⟩
        have h_z127 : z127.toInt = to.toInt + 1 := by rw [← hg_z127]; exact y_inc (by decide) (by omega) (by omega)
        refine lv_iinc hx hb sq_d127 hl (k := 0) rfl hg_z127 (by decide) (lv' := [(5, .int z127), (4, .int se), (2, .int he), (3, .int ta), (0, .ref this), (1, .int fm)]) rfl fun ls hl => ?_
        refine lv_goto hx hb sq_d130 (tgt := 60) (by decide) ?_
        exact ih _ _ _ _ _ _ _ _ hI hY_this hY_bk hY_fr hY_qu hY_lw hs_bk hs_fr hs_qu hs_lw hA_bk hA_fr hA_qu hA_lw (lv_sub hl [0, 1, 2, 3, 4, 5] rfl) (by first | assumption | omega) (by first | assumption | omega) (by first | assumption | omega) (by first | assumption | omega) (by first | assumption | omega) (by first | assumption | omega) (by first | assumption | omega) (by first | assumption | omega) (by first | assumption | omega) (by first | assumption | omega) (fun t ht hLt9 hst8 => by by_cases e9 : t = to.toInt.toNat; (rw [e9] at hLt9 hst8 ⊢; first | (exfalso; unfold m_gl at hLt9; rw [hg_e75, decide_eq_true q76] at hLt9; cases hLt9) | (exfalso; unfold m_st at hst8; rw [m_nj hse0.1, m_nj hto.1] at hst8; exact hns_r94 q97 hst8) | (have h6 : ¬ (ff to.toInt.toNat).toInt = -1 := (by rw [hg_e85]; omega); refine ⟨h6, ?_⟩; obtain ⟨j, j1, j2⟩ := hqu.2.2.2 to.toInt.toNat (by omega) h6; have h5 := hqt j j1; rw [j2] at h5; exact h5)); exact hnx t (by omega) hLt9 hst8) (by omega)
      · have q76_ : ¬ e75.toInt = (0 : Int32).toInt := fun q => q76 (Int32.toInt_inj.mp q)
        refine lv_aload_n hx hb sq_d79 rfl (lv_at hl 4 rfl) ?_
        refine y_getf X (fl211 X.2.2.2.2.1) hI.1 hY_this rfl hs_fr sq_d80 ?_
        refine lv_iload hx hb sq_d83 (lv_at hl 0 rfl) ?_
        refine y_iald X hI.1 hY_fr rfl hA_fr (by omega) (by show _ < (1024 : Int); omega) sq_d85 ?_
        obtain ⟨e85, hg_e85⟩ : ∃ e85 : Int32, ff to.toInt.toNat = e85 := ⟨_, rfl⟩
        rw [hg_e85]
        refine lv_iconst hx hb sq_d86 (v := (-1)) (by decide) ?_
        have ecm1 : ((-1) : Int32).toInt = (-1) := by decide
        refine lv_icmp_ne hx hb sq_d87 (tgt := 127) (by decide) (fun q87 => ?_) (fun q87 => ?_)
        · have q87_ : ¬ e85.toInt = ((-1) : Int32).toInt := fun q => q87 (Int32.toInt_inj.mp q)
          obtain ⟨z127, hg_z127⟩ : ∃ z127 : Int32, to + Int32.ofInt 1 = z127 := ⟨_, rfl⟩
          have h_z127 : z127.toInt = to.toInt + 1 := by rw [← hg_z127]; exact y_inc (by decide) (by omega) (by omega)
          refine lv_iinc hx hb sq_d127 hl (k := 0) rfl hg_z127 (by decide) (lv' := [(5, .int z127), (4, .int se), (2, .int he), (3, .int ta), (0, .ref this), (1, .int fm)]) rfl fun ls hl => ?_
          refine lv_goto hx hb sq_d130 (tgt := 60) (by decide) ?_
          exact ih _ _ _ _ _ _ _ _ hI hY_this hY_bk hY_fr hY_qu hY_lw hs_bk hs_fr hs_qu hs_lw hA_bk hA_fr hA_qu hA_lw (lv_sub hl [0, 1, 2, 3, 4, 5] rfl) (by first | assumption | omega) (by first | assumption | omega) (by first | assumption | omega) (by first | assumption | omega) (by first | assumption | omega) (by first | assumption | omega) (by first | assumption | omega) (by first | assumption | omega) (by first | assumption | omega) (by first | assumption | omega) (fun t ht hLt9 hst8 => by by_cases e9 : t = to.toInt.toNat; (rw [e9] at hLt9 hst8 ⊢; first | (exfalso; unfold m_gl at hLt9; rw [hg_e75, decide_eq_true q76] at hLt9; cases hLt9) | (exfalso; unfold m_st at hst8; rw [m_nj hse0.1, m_nj hto.1] at hst8; exact hns_r94 q97 hst8) | (have h6 : ¬ (ff to.toInt.toNat).toInt = -1 := (by rw [hg_e85]; omega); refine ⟨h6, ?_⟩; obtain ⟨j, j1, j2⟩ := hqu.2.2.2 to.toInt.toNat (by omega) h6; have h5 := hqt j j1; rw [j2] at h5; exact h5)); exact hnx t (by omega) hLt9 hst8) (by omega)
        · have q87_ : e85.toInt = ((-1) : Int32).toInt := by rw [q87]
          refine lv_iload hx hb sq_d90 (lv_at hl 1 rfl) ?_
          refine lv_iload hx hb sq_d92 (lv_at hl 0 rfl) ?_
          refine y_call (z := (1, 257, 2, none, xM205)) (av := [.int se, .int to]) (rest := []) (y_cokS (n := 2) X ym_isStep (x_cons (x_bw82 1 rfl rfl) (x_cons (x_bw82 2 rfl rfl) (x_cons (x_bw0 9 rfl rfl) x_nilm))) (x_bw82 3 rfl rfl) (by decide +kernel) ⟨Nat.le_of_ble_eq_true rfl, Nat.le_of_ble_eq_true rfl⟩) hY0 hI rfl sq_d94 hl.1 (Nat.le_of_ble_eq_true rfl) (Nat.le_of_ble_eq_true rfl) (Nat.le_of_ble_eq_true rfl) (y_cons ⟨_, rfl, x_i32 _⟩ (y_cons ⟨_, rfl, x_i32 _⟩ y_nil)) rfl (y_norecv rfl) trivial (y_sub_ef rfl) fun v Yn o Hn L ho hr ha hIn hx_ hE hP => ?_
          replace hs_bk := y_Efld hE hY_this rfl (by decide) (by decide) hs_bk
          replace hs_fr := y_Efld hE hY_this rfl (by decide) (by decide) hs_fr
          replace hs_qu := y_Efld hE hY_this rfl (by decide) (by decide) hs_qu
          replace hs_lw := y_Efld hE hY_this rfl (by decide) (by decide) hs_lw
          replace hA_bk := hA_bk.kept (y_Earr hE hY_bk rfl (by decide))
          replace hA_fr := hA_fr.kept (y_Earr hE hY_fr rfl (by decide))
          replace hA_qu := hA_qu.kept (y_Earr hE hY_qu rfl (by decide))
          replace hA_lw := hA_lw.kept (y_Earr hE hY_lw rfl (by decide))
          replace hY_this := y_ext hx_ hI.1 hY_this
          replace hY_bk := y_ext hx_ hI.1 hY_bk
          replace hY_fr := y_ext hx_ hI.1 hY_fr
          replace hY_qu := y_ext hx_ hI.1 hY_qu
          replace hY_lw := y_ext hx_ hI.1 hY_lw
          obtain ⟨r94, rfl, hst_r94, hns_r94⟩ : ∃ r : Int32, v = some (.int r) ∧ (¬ r = 0 → z_step se to) ∧ (r = 0 → ¬ z_step se to) := z_stepR (hP _ _ rfl)
          clear ho hr ha hE hP hI hx_
          rename x_I _ _ _ _ _ _ _ _ _ _ => hI
          refine lv_if_eq hx hb sq_d97 (tgt := 127) (by decide) (fun q97 => ?_) (fun q97 => ?_)
          · have q97_ : r94.toInt = (0 : Int32).toInt := by rw [q97]
            obtain ⟨z127, hg_z127⟩ : ∃ z127 : Int32, to + Int32.ofInt 1 = z127 := ⟨_, rfl⟩
            have h_z127 : z127.toInt = to.toInt + 1 := by rw [← hg_z127]; exact y_inc (by decide) (by omega) (by omega)
            refine lv_iinc hx hb sq_d127 hl (k := 0) rfl hg_z127 (by decide) (lv' := [(5, .int z127), (4, .int se), (2, .int he), (3, .int ta), (0, .ref this), (1, .int fm)]) rfl fun ls hl => ?_
            refine lv_goto hx hb sq_d130 (tgt := 60) (by decide) ?_
            exact ih _ _ _ _ _ _ _ _ hI hY_this hY_bk hY_fr hY_qu hY_lw hs_bk hs_fr hs_qu hs_lw hA_bk hA_fr hA_qu hA_lw (lv_sub hl [0, 1, 2, 3, 4, 5] rfl) (by first | assumption | omega) (by first | assumption | omega) (by first | assumption | omega) (by first | assumption | omega) (by first | assumption | omega) (by first | assumption | omega) (by first | assumption | omega) (by first | assumption | omega) (by first | assumption | omega) (by first | assumption | omega) (fun t ht hLt9 hst8 => by by_cases e9 : t = to.toInt.toNat; (rw [e9] at hLt9 hst8 ⊢; first | (exfalso; unfold m_gl at hLt9; rw [hg_e75, decide_eq_true q76] at hLt9; cases hLt9) | (exfalso; unfold m_st at hst8; rw [m_nj hse0.1, m_nj hto.1] at hst8; exact hns_r94 q97 hst8) | (have h6 : ¬ (ff to.toInt.toNat).toInt = -1 := (by rw [hg_e85]; omega); refine ⟨h6, ?_⟩; obtain ⟨j, j1, j2⟩ := hqu.2.2.2 to.toInt.toNat (by omega) h6; have h5 := hqt j j1; rw [j2] at h5; exact h5)); exact hnx t (by omega) hLt9 hst8) (by omega)
          · have q97_ : ¬ r94.toInt = (0 : Int32).toInt := fun q => q97 (Int32.toInt_inj.mp q)
            have hm : (ff to.toInt.toNat).toInt = -1 := by rw [hg_e85]; omega
            have hroom := z_cnt_lt hm 1024 (by omega)
            refine lv_aload_n hx hb sq_d100 rfl (lv_at hl 4 rfl) ?_
            refine y_getf X (fl211 X.2.2.2.2.1) hI.1 hY_this rfl hs_fr sq_d101 ?_
            refine lv_iload hx hb sq_d104 (lv_at hl 0 rfl) ?_
            refine lv_aload_n hx hb sq_d106 rfl (lv_at hl 4 rfl) ?_
            refine y_getf X (fl211 X.2.2.2.2.1) hI.1 hY_this rfl hs_fr sq_d107 ?_
            refine lv_iload hx hb sq_d110 (lv_at hl 1 rfl) ?_
            refine y_iald X hI.1 hY_fr rfl hA_fr (by omega) (by show _ < (1024 : Int); omega) sq_d112 ?_
            obtain ⟨e112, hg_e112⟩ : ∃ e112 : Int32, ff se.toInt.toNat = e112 := ⟨_, rfl⟩
            rw [hg_e112]
            have hF9 : (ff se.toInt.toNat).toInt = e112.toInt := by rw [hg_e112]
            refine lv_iconst hx hb sq_d113 (v := 1) (by decide) ?_
            have ec1 : (1 : Int32).toInt = 1 := by decide
            refine lv_iadd hx hb sq_d114 ?_
            generalize hg_z114 : e112 + (1 : Int32) = z114
            have h_z114 : z114.toInt = e112.toInt + 1 := by rw [← hg_z114]; have := y_add (x := e112) (y := (1 : Int32)) (by rw [ec1]; omega) (by rw [ec1]; omega); rw [ec1] at this; exact this
            refine y_iast X hY0 hI hY_fr rfl hA_fr (by omega) (by show _ < (1024 : Int); omega) ⟨_, rfl, x_i32 _⟩ (by decide +kernel) sq_d115 fun H locs hI h_new ho => ?_
            replace hA_fr := h_new
            generalize hf_f115 : y_up ff to.toInt.toNat z114 = f115 at hA_fr
            replace hs_bk := y_slk hs_bk (ho _ (y_ne hY_this hY_fr rfl))
            replace hs_fr := y_slk hs_fr (ho _ (y_ne hY_this hY_fr rfl))
            replace hs_qu := y_slk hs_qu (ho _ (y_ne hY_this hY_fr rfl))
            replace hs_lw := y_slk hs_lw (ho _ (y_ne hY_this hY_fr rfl))
            replace hA_bk := hA_bk.kept (ho _ (y_ne hY_bk hY_fr rfl))
            replace hA_qu := hA_qu.kept (ho _ (y_ne hY_qu hY_fr rfl))
            replace hA_lw := hA_lw.kept (ho _ (y_ne hY_lw hY_fr rfl))
            refine lv_aload_n hx hb sq_d116 rfl (lv_at hl 4 rfl) ?_
            refine y_getf X (fl_sq_240 X.2.2.2.2.1) hI.1 hY_this rfl hs_qu sq_d117 ?_
            refine lv_iload_n hx hb sq_d120 rfl (lv_at hl 3 rfl) ?_
            refine lv_iload hx hb sq_d121 (lv_at hl 0 rfl) ?_
            refine y_iast X hY0 hI hY_qu rfl hA_qu (by omega) (by show _ < (1024 : Int); omega) ⟨_, rfl, by show (0 : Int) ≤ _; omega, by show _ ≤ (1023 : Int); omega⟩ (by decide +kernel) sq_d123 fun H locs hI h_new ho => ?_
            replace hA_qu := h_new
            replace hB_qu := y_upb (i := ta.toInt.toNat) (v := to) hB_qu (by constructor <;> omega)
            generalize hf_f123 : y_up qq ta.toInt.toNat to = f123 at hA_qu hB_qu
            replace hs_bk := y_slk hs_bk (ho _ (y_ne hY_this hY_qu rfl))
            replace hs_fr := y_slk hs_fr (ho _ (y_ne hY_this hY_qu rfl))
            replace hs_qu := y_slk hs_qu (ho _ (y_ne hY_this hY_qu rfl))
            replace hs_lw := y_slk hs_lw (ho _ (y_ne hY_this hY_qu rfl))
            replace hA_bk := hA_bk.kept (ho _ (y_ne hY_bk hY_qu rfl))
            replace hA_fr := hA_fr.kept (ho _ (y_ne hY_fr hY_qu rfl))
            replace hA_lw := hA_lw.kept (ho _ (y_ne hY_lw hY_qu rfl))
            obtain ⟨z124, hg_z124⟩ : ∃ z124 : Int32, ta + Int32.ofInt 1 = z124 := ⟨_, rfl⟩
            have h_z124 : z124.toInt = ta.toInt + 1 := by rw [← hg_z124]; exact y_inc (by decide) (by omega) (by omega)
            refine lv_iinc hx hb sq_d124 hl (k := 3) rfl hg_z124 (by decide) (lv' := [(3, .int z124), (5, .int to), (4, .int se), (2, .int he), (0, .ref this), (1, .int fm)]) rfl fun ls hl => ?_
            obtain ⟨z127, hg_z127⟩ : ∃ z127 : Int32, to + Int32.ofInt 1 = z127 := ⟨_, rfl⟩
            have h_z127 : z127.toInt = to.toInt + 1 := by rw [← hg_z127]; exact y_inc (by decide) (by omega) (by omega)
            refine lv_iinc hx hb sq_d127 hl (k := 1) rfl hg_z127 (by decide) (lv' := [(5, .int z127), (3, .int z124), (4, .int se), (2, .int he), (0, .ref this), (1, .int fm)]) rfl fun ls hl => ?_
            refine lv_goto hx hb sq_d130 (tgt := 60) (by decide) ?_
            have hLt : m_gl gl to.toInt.toNat = true := by unfold m_gl; rw [hg_e75, decide_eq_false q76]; rfl
            have hst9 : m_st se.toInt.toNat to.toInt.toNat := by unfold m_st; rw [m_nj hse0.1, m_nj hto.1]; exact hst_r94 q97
            have hv9 : z114.toInt = (ff se.toInt.toNat).toInt + 1 := by omega
            have hne9 : se.toInt.toNat ≠ to.toInt.toNat := fun e9 => by have h7 := hsq.2.2.2; rw [e9] at h7; omega
            have hto9 : to.toInt.toNat < ((z_all (fb 0)).toInt.toNat + 1) := by omega
            have hN1 := hq1.push hsq.2.1 hto9 hsq.2.2.1 hLt hst9 hsq.2.2.2 hm hv9
            have hN2 := hqu.push hqt hto9 hLt (show to.toInt = (to.toInt.toNat : Int) by omega) hm hv9 hsq.2.2.2
            have hN3 := z_cnt_up hm (show ¬ z114.toInt = -1 by omega) 1024 (by omega)
            have hN4 := hqb.push hqu (show to.toInt = (to.toInt.toNat : Int) by omega) hm (show z114.toInt ≤ (ta.toInt.toNat : Int) by omega)
            have hit : z124.toInt.toNat = ta.toInt.toNat + 1 := by omega
            have hN5 : f115 se.toInt.toNat = ff se.toInt.toNat := by rw [← hf_f115, y_up_ne hne9]
            rw [hf_f115] at hN1 hN2 hN3 hN4
            rw [hf_f123] at hN2 hN4
            exact ih _ _ _ _ _ _ _ _ hI hY_this hY_bk hY_fr hY_qu hY_lw hs_bk hs_fr hs_qu hs_lw hA_bk hA_fr hA_qu hA_lw (lv_sub hl [0, 2, 3, 1, 4, 5] rfl) (by first | assumption | omega) (by first | assumption | omega) (by first | assumption | omega) (by omega) hN1 (by rw [hit]; exact hN2.1) (by rw [hit]; exact hN4) (by rw [← hf_f123, y_up_ne (show he.toInt.toNat - 1 ≠ ta.toInt.toNat by omega)]; exact hset) (by rw [hit, hN5]; exact hN2.2) (fun j hj => by rw [← hf_f123, y_up_ne (show j ≠ ta.toInt.toNat by omega), ← hf_f115]; exact (hcl j hj).push (fun e9 => by have h8 := (hqu.2.1 j (by omega)).2.2.2; rw [e9] at h8; omega) hm) (fun t ht hLt9 hst8 => by rw [hN5]; by_cases e9 : t = to.toInt.toNat; (rw [e9, ← hf_f115, y_up_at]; omega); rw [← hf_f115, y_up_ne e9]; exact hnx t (by omega) hLt9 hst8) (by omega)
theorem sq_L41 {p : Program} {l : Launch} {e : Env} {s : State} {m : MethodId} {below : List Frame} {meth : Method} {c : Code} {D : va_G} {U : State} {Y0 : xY} {av : List Value} (B : y_B vwCl x_Tb x_Nb xMsp p s m meth c D U Y0 av) {this bk fr qu lw : Nat} {fm : Int32} {fb gl : Nat → Int32} (hav : av = [.ref this, .int fm]) (hs0 : x_sl D 12 0 this s.heap = some (.ref bk)) (hA0 : y_A bk 160 s.heap fb) (hsl0 : x_sl D 12 18 this s.heap = some (.ref lw)) (hAl0 : y_A lw 1024 s.heap gl) (hsf0 : x_sl D 12 19 this s.heap = some (.ref fr)) (hN : 0 ≤ (z_all (fb 0)).toInt ∧ (z_all (fb 0)).toInt ≤ 1023) (hfm : 0 ≤ fm.toInt ∧ fm.toInt ≤ 1023) (hB_lw : ∀ j, j < 1024 → (0 : Int) ≤ (gl j).toInt ∧ (gl j).toInt ≤ 1) (hok : fm.toInt ≤ (z_all (fb 0)).toInt ∧ ¬ gl fm.toInt.toNat = 0)  :
    ∀ (n : Nat), ∀ (H : Heap) (Y : xY) (locs : List Loc) (ls : Array Slot) (ta : Int32) (he : Int32) (ff qq : Nat → Int32), x_I D x_G x_Zs U (x_efs xMsp) Y0 s.heap Y H locs → Y this = some 17 → Y bk = some 46 → Y fr = some 56 → Y qu = some 57 → Y lw = some 55 → x_sl D 12 0 this H = some (.ref bk) → x_sl D 12 19 this H = some (.ref fr) → x_sl D 12 20 this H = some (.ref qu) → x_sl D 12 18 this H = some (.ref lw) → y_A bk 160 H fb → y_A fr 1024 H ff → y_A qu 1024 H qq → y_A lw 1024 H gl → lv_has ls xMsp.2.2.1 [(3, .int ta), (2, .int he), (0, .ref this), (1, .int fm)] → (∀ j, j < 1024 → (0 : Int) ≤ (qq j).toInt ∧ (qq j).toInt ≤ 1023) → (0 ≤ he.toInt ∧ he.toInt ≤ ta.toInt) → (1 ≤ ta.toInt ∧ ta.toInt ≤ (z_cnt ff 1024 : Int)) → (m_Q1 (m_gl gl) ((z_all (fb 0)).toInt.toNat + 1) fm.toInt.toNat ff) → (m_QU (m_gl gl) ((z_all (fb 0)).toInt.toNat + 1) ff qq he.toInt.toNat ta.toInt.toNat) → (m_QB ff qq ta.toInt.toNat) → (he.toInt < ta.toInt → m_QT ff qq ta.toInt.toNat (ff (qq he.toInt.toNat).toInt.toNat).toInt) → (∀ j : Nat, (j : Int) < he.toInt → m_Q2 (m_gl gl) ((z_all (fb 0)).toInt.toNat + 1) ff (qq j).toInt.toNat) → (1025 - he.toInt).toNat < n → W p l e (x_rm xMsp) s m av.toArray below meth c H locs 0 0 (y_QQ below D x_G x_Zs U xMsp z_Psp2 av Y0 s) (F0 m 41 ls []) := by
  have X := B.1
  have hx := X.1
  have hb := X.2.1
  have hY0 := B.2.2.2.2.1
  intro n
  induction n with
  | zero => intro _ _ _ _ _ _ _ _ _ _ _ _ _ _ _ _ _ _ _ _ _ _ _ _ _ _ _ _ _ _ _ h; exact absurd h (Nat.not_lt_zero _)
  | succ n ih =>
    intro H Y locs ls ta he ff qq hI hY_this hY_bk hY_fr hY_qu hY_lw hs_bk hs_fr hs_qu hs_lw hA_bk hA_fr hA_qu hA_lw hl hB_qu hh hcnt hq1 hqu hqb hqt hcl hn
    have hc9 := z_cnt_le ff 1024
    refine lv_iload_n hx hb sq_d41 rfl (lv_at hl 1 rfl) ?_
    refine lv_iload_n hx hb sq_d42 rfl (lv_at hl 0 rfl) ?_
    refine lv_icmp_ge hx hb sq_d43 (tgt := 136) (by decide) (fun q43 => ?_) (fun q43 => ?_)
    · have q43_ : ta.toInt ≤ he.toInt := x_le32.mp q43
      have hD : m_D (m_gl gl) ((z_all (fb 0)).toInt.toNat + 1) fm.toInt.toNat ff := ⟨hq1, fun u hu hL hf => by obtain ⟨j, j1, j2⟩ := hqu.2.2.2 u hu hf; rw [← j2]; exact hcl j (by omega)⟩
      subst hav
      exact y_return B hI rfl rfl List.mem_cons_self rfl (x_cs.mono B.2.2.2.2.2 (y_mon B hI)) (fun t' f' l' b' m' g' c' h1 h2 h3 h4 h5 h6 => by cases h1; cases h2.symm.trans hs0; cases h4.symm.trans hsl0; cases h6.symm.trans hsf0; rw [show c' 0 = fb 0 from z_AR h3 hA0 (by decide)]; exact ⟨ff, hA_fr, hD.congrL fun s hs => by unfold m_gl; rw [z_AR hAl0 h5 (show s < 1024 by omega)]⟩) (Nat.le_refl _) (Nat.le_refl _) sq_d136
    · have q43_ : he.toInt < ta.toInt := Int.not_le.mp fun q => q43 (x_le32.mpr q)
      refine lv_aload_n hx hb sq_d46 rfl (lv_at hl 2 rfl) ?_
      refine y_getf X (fl_sq_240 X.2.2.2.2.1) hI.1 hY_this rfl hs_qu sq_d47 ?_
      refine lv_iload_n hx hb sq_d50 rfl (lv_at hl 1 rfl) ?_
      refine y_iald X hI.1 hY_qu rfl hA_qu (by omega) (by show _ < (1024 : Int); omega) sq_d51 ?_
      obtain ⟨e51, hg_e51⟩ : ∃ e51 : Int32, qq he.toInt.toNat = e51 := ⟨_, rfl⟩
      rw [hg_e51]
      have h_e51 : (0 : Int) ≤ e51.toInt ∧ e51.toInt ≤ 1023 := by rw [← hg_e51]; exact hB_qu _ (by omega)
      refine lv_istore hx hb sq_d52 hl (by decide) (lv' := [(4, .int e51), (3, .int ta), (2, .int he), (0, .ref this), (1, .int fm)]) rfl fun ls hl => ?_
      obtain ⟨z54, hg_z54⟩ : ∃ z54 : Int32, he + Int32.ofInt 1 = z54 := ⟨_, rfl⟩
      have h_z54 : z54.toInt = he.toInt + 1 := by rw [← hg_z54]; exact y_inc (by decide) (by omega) (by omega)
      refine lv_iinc hx hb sq_d54 hl (k := 2) rfl hg_z54 (by decide) (lv' := [(2, .int z54), (4, .int e51), (3, .int ta), (0, .ref this), (1, .int fm)]) rfl fun ls hl => ?_
      refine lv_iconst hx hb sq_d57 (v := 0) (by decide) ?_
      have ec0 : (0 : Int32).toInt = 0 := by decide
      refine lv_istore hx hb sq_d58 hl (by decide) (lv' := [(5, .int (0 : Int32)), (2, .int z54), (4, .int e51), (3, .int ta), (0, .ref this), (1, .int fm)]) rfl fun ls hl => ?_
      exact sq_L60 B hav hs0 hA0 hsl0 hAl0 hsf0 hN hfm hB_lw hok (by first | assumption | omega) (by first | assumption | omega) (fun H Y locs ls ta1 he1 ff1 qq1 hI hY_this hY_bk hY_fr hY_qu hY_lw hs_bk hs_fr hs_qu hs_lw hA_bk hA_fr hA_qu hA_lw hl hB_qu hh hcnt hq1 hqu hqb hqt hcl h_he1 => ih _ _ _ _ _ _ _ _ hI hY_this hY_bk hY_fr hY_qu hY_lw hs_bk hs_fr hs_qu hs_lw hA_bk hA_fr hA_qu hA_lw hl hB_qu hh hcnt hq1 hqu hqb hqt hcl (by omega)) 1026 _ _ _ _ _ _ _ _ hI hY_this hY_bk hY_fr hY_qu hY_lw hs_bk hs_fr hs_qu hs_lw hA_bk hA_fr hA_qu hA_lw (lv_sub hl [0, 2, 1, 3, 4, 5] rfl) (by first | assumption | omega) (by first | assumption | omega) (by first | assumption | omega) (by first | assumption | omega) (by first | assumption | omega) ⟨by omega, hqu.2⟩ (by first | assumption | omega) (by rw [show z54.toInt.toNat - 1 = he.toInt.toNat by omega]; exact hg_e51.symm) (by rw [← hg_e51]; exact hqt (by omega)) (fun j hj => hcl j (by omega)) (fun t ht => absurd ht (by omega)) (by omega)
theorem sq_L2 {p : Program} {l : Launch} {e : Env} {s : State} {m : MethodId} {below : List Frame} {meth : Method} {c : Code} {D : va_G} {U : State} {Y0 : xY} {av : List Value} (B : y_B vwCl x_Tb x_Nb xMsp p s m meth c D U Y0 av) {this bk fr qu lw : Nat} {fm : Int32} {fb gl : Nat → Int32} (hav : av = [.ref this, .int fm]) (hs0 : x_sl D 12 0 this s.heap = some (.ref bk)) (hA0 : y_A bk 160 s.heap fb) (hsl0 : x_sl D 12 18 this s.heap = some (.ref lw)) (hAl0 : y_A lw 1024 s.heap gl) (hsf0 : x_sl D 12 19 this s.heap = some (.ref fr)) (hN : 0 ≤ (z_all (fb 0)).toInt ∧ (z_all (fb 0)).toInt ≤ 1023) (hfm : 0 ≤ fm.toInt ∧ fm.toInt ≤ 1023) (hB_lw : ∀ j, j < 1024 → (0 : Int) ≤ (gl j).toInt ∧ (gl j).toInt ≤ 1) (hok : fm.toInt ≤ (z_all (fb 0)).toInt ∧ ¬ gl fm.toInt.toNat = 0)  :
    ∀ (n : Nat), ∀ (H : Heap) (Y : xY) (locs : List Loc) (ls : Array Slot) (k : Int32) (ff qq : Nat → Int32), x_I D x_G x_Zs U (x_efs xMsp) Y0 s.heap Y H locs → Y this = some 17 → Y bk = some 46 → Y fr = some 56 → Y qu = some 57 → Y lw = some 55 → x_sl D 12 0 this H = some (.ref bk) → x_sl D 12 19 this H = some (.ref fr) → x_sl D 12 20 this H = some (.ref qu) → x_sl D 12 18 this H = some (.ref lw) → y_A bk 160 H fb → y_A fr 1024 H ff → y_A qu 1024 H qq → y_A lw 1024 H gl → lv_has ls xMsp.2.2.1 [(2, .int k), (0, .ref this), (1, .int fm)] → (∀ j, j < 1024 → (0 : Int) ≤ (qq j).toInt ∧ (qq j).toInt ≤ 1023) → (0 ≤ k.toInt ∧ k.toInt ≤ (z_all (fb 0)).toInt + 1) → (∀ i : Nat, (i : Int) < k.toInt → (ff i).toInt = -1) → (1025 - k.toInt).toNat < n → W p l e (x_rm xMsp) s m av.toArray below meth c H locs 0 0 (y_QQ below D x_G x_Zs U xMsp z_Psp2 av Y0 s) (F0 m 2 ls []) := by
  have X := B.1
  have hx := X.1
  have hb := X.2.1
  have hY0 := B.2.2.2.2.1
  intro n
  induction n with
  | zero => intro _ _ _ _ _ _ _ _ _ _ _ _ _ _ _ _ _ _ _ _ _ _ _ _ _ h; exact absurd h (Nat.not_lt_zero _)
  | succ n ih =>
    intro H Y locs ls k ff qq hI hY_this hY_bk hY_fr hY_qu hY_lw hs_bk hs_fr hs_qu hs_lw hA_bk hA_fr hA_qu hA_lw hl hB_qu hk hf hn
    refine lv_iload_n hx hb sq_d2 rfl (lv_at hl 0 rfl) ?_
    refine lv_aload_n hx hb sq_d3 rfl (lv_at hl 1 rfl) ?_
    refine y_call (z := (0, 91, 1, some 17, xM182)) (av := [.ref this]) (rest := [.int k]) (y_cokV (n := 0) (ci := 12) X ym_all rfl rfl rfl (x_cons (x_bw77 4 rfl rfl) (x_cons (x_bw77 6 rfl rfl) (x_cons (x_at 49 (by decide +kernel) rfl) (x_cons (x_bw0 9 rfl rfl) x_nilm)))) (x_bw77 7 rfl rfl) (by decide +kernel) ⟨Nat.le_of_ble_eq_true rfl, Nat.le_of_ble_eq_true rfl⟩) hY0 hI rfl sq_d4 hl.1 (Nat.le_of_ble_eq_true rfl) (Nat.le_of_ble_eq_true rfl) (Nat.le_of_ble_eq_true rfl) (y_cons (y_cref hY_this rfl) y_nil) rfl (y_recv rfl hY_this) trivial (y_sub_ef rfl) fun v Yn o Hn L ho hr ha hIn hx_ hE hP => ?_
    have hPv := hP _ _ _ rfl hs_bk (hA_bk 0 (by decide))
    replace hs_bk := y_Efld hE hY_this rfl (by decide) (by decide) hs_bk
    replace hs_fr := y_Efld hE hY_this rfl (by decide) (by decide) hs_fr
    replace hs_qu := y_Efld hE hY_this rfl (by decide) (by decide) hs_qu
    replace hs_lw := y_Efld hE hY_this rfl (by decide) (by decide) hs_lw
    replace hA_bk := hA_bk.kept (y_Earr hE hY_bk rfl (by decide))
    replace hA_fr := hA_fr.kept (y_Earr hE hY_fr rfl (by decide))
    replace hA_qu := hA_qu.kept (y_Earr hE hY_qu rfl (by decide))
    replace hA_lw := hA_lw.kept (y_Earr hE hY_lw rfl (by decide))
    replace hY_this := y_ext hx_ hI.1 hY_this
    replace hY_bk := y_ext hx_ hI.1 hY_bk
    replace hY_fr := y_ext hx_ hI.1 hY_fr
    replace hY_qu := y_ext hx_ hI.1 hY_qu
    replace hY_lw := y_ext hx_ hI.1 hY_lw
    obtain rfl := hPv
    clear ho hr ha hE hP hI hx_
    rename x_I _ _ _ _ _ _ _ _ _ _ => hI
    refine lv_icmp_gt hx hb sq_d7 (tgt := 23) (by decide) (fun q7 => ?_) (fun q7 => ?_)
    · have q7_ : (z_all (fb 0)).toInt < k.toInt := x_lt32.mp q7
      refine lv_aload_n hx hb sq_d23 rfl (lv_at hl 1 rfl) ?_
      refine y_getf X (fl211 X.2.2.2.2.1) hI.1 hY_this rfl hs_fr sq_d24 ?_
      refine lv_iload_n hx hb sq_d27 rfl (lv_at hl 2 rfl) ?_
      refine lv_iconst hx hb sq_d28 (v := 0) (by decide) ?_
      have ec0 : (0 : Int32).toInt = 0 := by decide
      refine y_iast X hY0 hI hY_fr rfl hA_fr (by omega) (by show _ < (1024 : Int); omega) ⟨_, rfl, x_i32 _⟩ (by decide +kernel) sq_d29 fun H locs hI h_new ho => ?_
      replace hA_fr := h_new
      generalize hf_f29 : y_up ff fm.toInt.toNat (0 : Int32) = f29 at hA_fr
      replace hs_bk := y_slk hs_bk (ho _ (y_ne hY_this hY_fr rfl))
      replace hs_fr := y_slk hs_fr (ho _ (y_ne hY_this hY_fr rfl))
      replace hs_qu := y_slk hs_qu (ho _ (y_ne hY_this hY_fr rfl))
      replace hs_lw := y_slk hs_lw (ho _ (y_ne hY_this hY_fr rfl))
      replace hA_bk := hA_bk.kept (ho _ (y_ne hY_bk hY_fr rfl))
      replace hA_qu := hA_qu.kept (ho _ (y_ne hY_qu hY_fr rfl))
      replace hA_lw := hA_lw.kept (ho _ (y_ne hY_lw hY_fr rfl))
      refine lv_aload_n hx hb sq_d30 rfl (lv_at hl 1 rfl) ?_
      refine y_getf X (fl_sq_240 X.2.2.2.2.1) hI.1 hY_this rfl hs_qu sq_d31 ?_
      refine lv_iconst hx hb sq_d34 (v := 0) (by decide) ?_
      refine lv_iload_n hx hb sq_d35 rfl (lv_at hl 2 rfl) ?_
      refine y_iast X hY0 hI hY_qu rfl hA_qu (by omega) (by show _ < (1024 : Int); omega) ⟨_, rfl, by show (0 : Int) ≤ _; omega, by show _ ≤ (1023 : Int); omega⟩ (by decide +kernel) sq_d36 fun H locs hI h_new ho => ?_
      replace hA_qu := h_new
      replace hB_qu := y_upb (i := (0 : Int32).toInt.toNat) (v := fm) hB_qu (by constructor <;> omega)
      generalize hf_f36 : y_up qq (0 : Int32).toInt.toNat fm = f36 at hA_qu hB_qu
      replace hs_bk := y_slk hs_bk (ho _ (y_ne hY_this hY_qu rfl))
      replace hs_fr := y_slk hs_fr (ho _ (y_ne hY_this hY_qu rfl))
      replace hs_qu := y_slk hs_qu (ho _ (y_ne hY_this hY_qu rfl))
      replace hs_lw := y_slk hs_lw (ho _ (y_ne hY_this hY_qu rfl))
      replace hA_bk := hA_bk.kept (ho _ (y_ne hY_bk hY_qu rfl))
      replace hA_fr := hA_fr.kept (ho _ (y_ne hY_fr hY_qu rfl))
      replace hA_lw := hA_lw.kept (ho _ (y_ne hY_lw hY_qu rfl))
      refine lv_iconst hx hb sq_d37 (v := 0) (by decide) ?_
      refine lv_istore_n hx hb sq_d38 rfl hl (by decide) (lv' := [(2, .int (0 : Int32)), (0, .ref this), (1, .int fm)]) rfl fun ls hl => ?_
      refine lv_iconst hx hb sq_d39 (v := 1) (by decide) ?_
      have ec1 : (1 : Int32).toInt = 1 := by decide
      refine lv_istore_n hx hb sq_d40 rfl hl (by decide) (lv' := [(3, .int (1 : Int32)), (2, .int (0 : Int32)), (0, .ref this), (1, .int fm)]) rfl fun ls hl => ?_
      have hLf : m_gl gl fm.toInt.toNat = true := by unfold m_gl; rw [decide_eq_false hok.2]; rfl
      have hfN : fm.toInt.toNat < ((z_all (fb 0)).toInt.toNat + 1) := by omega
      have hQ := m_Q1.start (F := ff) (z := (0 : Int32)) hLf hfN (fun i hi => hf i (by omega)) (by decide)
      have hF0 : (y_up ff fm.toInt.toNat (0 : Int32) fm.toInt.toNat).toInt = 0 := by rw [y_up_at]; decide
      have hC := z_cnt_pos (f := y_up ff fm.toInt.toNat (0 : Int32)) (j := fm.toInt.toNat) (by omega) 1024 (by omega)
      rw [hf_f29] at hQ hF0 hC
      have hq0 : f36 0 = fm := by rw [← hf_f36, z_i0]; exact y_up_at
      have hU : m_QU (m_gl gl) ((z_all (fb 0)).toInt.toNat + 1) f29 f36 0 1 := by
        refine ⟨by omega, fun j hj => ?_, fun i j hij hj => ?_, fun s hs hs2 => ⟨0, by omega, ?_⟩⟩
        · rw [show j = 0 by omega, hq0]; exact ⟨hfm.1, hfN, hLf, by omega⟩
        · rw [show i = 0 by omega, show j = 0 by omega]; omega
        · rw [hq0]; by_cases e9 : s = fm.toInt.toNat; (exact e9.symm); rw [← hf_f29, y_up_ne e9] at hs2; exact absurd (hf s (by omega)) hs2
      exact sq_L41 B hav hs0 hA0 hsl0 hAl0 hsf0 hN hfm hB_lw hok 1026 _ _ _ _ _ _ _ _ hI hY_this hY_bk hY_fr hY_qu hY_lw hs_bk hs_fr hs_qu hs_lw hA_bk hA_fr hA_qu hA_lw (lv_sub hl [0, 1, 2, 3] rfl) (by first | assumption | omega) (by first | assumption | omega) (by rw [m_c1]; omega) hQ (by rw [z_i0, z_i1]; exact hU) (fun j hj => by have h9 : j = 0 := (by have : (1 : Int32).toInt.toNat = 1 := (by decide); omega); rw [h9, hq0]; omega) (fun _ j hj => by have h9 : j = 0 := (by have : (1 : Int32).toInt.toNat = 1 := (by decide); omega); rw [h9, z_i0]; omega) (fun j hj => absurd hj (by omega)) (by omega)
    · have q7_ : k.toInt ≤ (z_all (fb 0)).toInt := Int.not_lt.mp fun q => q7 (x_lt32.mpr q)
      refine lv_aload_n hx hb sq_d10 rfl (lv_at hl 1 rfl) ?_
      refine y_getf X (fl211 X.2.2.2.2.1) hI.1 hY_this rfl hs_fr sq_d11 ?_
      refine lv_iload_n hx hb sq_d14 rfl (lv_at hl 0 rfl) ?_
      refine lv_iconst hx hb sq_d15 (v := (-1)) (by decide) ?_
      have ecm1 : ((-1) : Int32).toInt = (-1) := by decide
      refine y_iast X hY0 hI hY_fr rfl hA_fr (by omega) (by show _ < (1024 : Int); omega) ⟨_, rfl, x_i32 _⟩ (by decide +kernel) sq_d16 fun H locs hI h_new ho => ?_
      replace hA_fr := h_new
      generalize hf_f16 : y_up ff k.toInt.toNat ((-1) : Int32) = f16 at hA_fr
      replace hs_bk := y_slk hs_bk (ho _ (y_ne hY_this hY_fr rfl))
      replace hs_fr := y_slk hs_fr (ho _ (y_ne hY_this hY_fr rfl))
      replace hs_qu := y_slk hs_qu (ho _ (y_ne hY_this hY_fr rfl))
      replace hs_lw := y_slk hs_lw (ho _ (y_ne hY_this hY_fr rfl))
      replace hA_bk := hA_bk.kept (ho _ (y_ne hY_bk hY_fr rfl))
      replace hA_qu := hA_qu.kept (ho _ (y_ne hY_qu hY_fr rfl))
      replace hA_lw := hA_lw.kept (ho _ (y_ne hY_lw hY_fr rfl))
      obtain ⟨z17, hg_z17⟩ : ∃ z17 : Int32, k + Int32.ofInt 1 = z17 := ⟨_, rfl⟩
      have h_z17 : z17.toInt = k.toInt + 1 := by rw [← hg_z17]; exact y_inc (by decide) (by omega) (by omega)
      refine lv_iinc hx hb sq_d17 hl (k := 0) rfl hg_z17 (by decide) (lv' := [(2, .int z17), (0, .ref this), (1, .int fm)]) rfl fun ls hl => ?_
      refine lv_goto hx hb sq_d20 (tgt := 2) (by decide) ?_
      exact ih _ _ _ _ _ _ _ hI hY_this hY_bk hY_fr hY_qu hY_lw hs_bk hs_fr hs_qu hs_lw hA_bk hA_fr hA_qu hA_lw (lv_sub hl [0, 1, 2] rfl) (by first | assumption | omega) (by first | assumption | omega) (fun i hi => by rw [← hf_f16]; by_cases e0 : i = k.toInt.toNat; (rw [e0, y_up_at]; decide); rw [y_up_ne e0]; exact hf i (by omega)) (by omega)
theorem ym_spreads2 : y_Met vwCl x_G x_Zs x_Tb x_Nb xMsp z_Asp z_Psp2 := by
  refine y_main (by decide +kernel) (by decide +kernel) x_Tb_good x_Nb_ok ?_
  intro p l e s m below meth c D U Y0 av ls B hI hpre hl
  have X := B.1
  have hx := X.1
  have hb := X.2.1
  have hY0 := B.2.2.2.2.1
  obtain ⟨v0, v1, rfl, hv0, ⟨fm, rfl, hfm⟩⟩ := x_two B.2.2.2.2.2
  replace hfm : 0 ≤ fm.toInt ∧ fm.toInt ≤ 1023 := hfm
  obtain ⟨this, t0, rfl, ht0, hY_this⟩ := x_ref_at hv0 rfl
  obtain rfl := List.mem_singleton.mp ht0
  replace hl : lv_has ls xMsp.2.2.1 [(0, .ref this), (1, .int fm)] := hl
  obtain ⟨bk, hs_bk, hY_bk⟩ := y_fldR (k := 0) hI.1 hY_this rfl rfl
  obtain ⟨fb9, hA9, hB9⟩ := y_arr hI.1 hY_bk rfl rfl
  obtain ⟨fb, hcn, hA_bk, hB_bk⟩ := z_canon (Y := Y0) (P := fun j v => x_c Y0 ([xI 0 10, xI 0 8, xI 0 8].getD j xF) (.int v)) hA9 hB9
  clear hA9 hB9 fb9
  have hs0 := hs_bk
  have hA0 := hA_bk
  have hd := z_hdr hB_bk
  have hd0 := hd.1
  have hd1 := hd.2.1
  obtain ⟨fr, hs_fr, hY_fr⟩ := y_fldR (k := 19) hI.1 hY_this rfl rfl
  obtain ⟨qu, hs_qu, hY_qu⟩ := y_fldR (k := 20) hI.1 hY_this rfl rfl
  obtain ⟨lw, hs_lw, hY_lw⟩ := y_fldR (k := 18) hI.1 hY_this rfl rfl
  obtain ⟨ff, hA_fr, -⟩ := y_arr hI.1 hY_fr rfl rfl
  obtain ⟨qq, hA_qu, hB_qu⟩ := y_arr hI.1 hY_qu rfl rfl
  obtain ⟨gl, hA_lw, hB_lw⟩ := y_arr hI.1 hY_lw rfl rfl
  replace hB_qu : ∀ j, j < 1024 → (0 : Int) ≤ (qq j).toInt ∧ (qq j).toInt ≤ 1023 := fun j hj => by obtain ⟨x, e0, e1⟩ := hB_qu j hj; cases e0; exact e1
  replace hB_lw : ∀ j, j < 1024 → (0 : Int) ≤ (gl j).toInt ∧ (gl j).toInt ≤ 1 := fun j hj => by obtain ⟨x, e0, e1⟩ := hB_lw j hj; cases e0; exact e1
  have hN : 0 ≤ (z_all (fb 0)).toInt ∧ (z_all (fb 0)).toInt ≤ 1023 := z_all_b hd0
  have hsl0 := hs_lw
  have hAl0 := hA_lw
  have hsf0 := hs_fr
  have hok := hpre _ _ _ _ _ _ rfl hs_bk hA_bk hs_lw hA_lw
  refine lv_iconst hx hb sq_d0 (v := 0) (by decide) ?_
  have ec0 : (0 : Int32).toInt = 0 := by decide
  refine lv_istore_n hx hb sq_d1 rfl hl (by decide) (lv' := [(2, .int (0 : Int32)), (0, .ref this), (1, .int fm)]) rfl fun ls hl => ?_
  exact sq_L2 B rfl hs0 hA0 hsl0 hAl0 hsf0 hN hfm hB_lw hok 1026 _ _ _ _ _ _ _ hI hY_this hY_bk hY_fr hY_qu hY_lw hs_bk hs_fr hs_qu hs_lw hA_bk hA_fr hA_qu hA_lw (lv_sub hl [0, 1, 2] rfl) (by first | assumption | omega) (by first | assumption | omega) (fun i hi => absurd hi (by omega)) (by omega)

