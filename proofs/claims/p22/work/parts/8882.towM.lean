/-! THE TOWER of the reference -/
def z_PMtow : yP := fun D av _ H v _ H' => ∀ (this bk : Nat) (h : Int32) (f : Nat → Int32), av = [.ref this, .int h] → x_sl D 12 0 this H = some (.ref bk) → z_c f → y_A bk 160 H f → y_A bk 160 H' f ∧ ∃ r : Int32, v = some (.int r) ∧ m_tow m_ltR f h r
theorem twrX_d0 : decode xM203.2.1 0 = .ok (.aload_n 0, 1) := dz_ok (by decide +kernel)
theorem twrX_d1 : decode xM203.2.1 1 = .ok (.iload_n 1, 1) := dz_ok (by decide +kernel)
theorem twrX_d2 : decode xM203.2.1 2 = .ok (.invokevirtual 151, 3) := dz_ok (by decide +kernel)
theorem twrX_d5 : decode xM203.2.1 5 = .ok (.ifCond .ne 8, 3) := dz_ok (by decide +kernel)
theorem twrX_d8 : decode xM203.2.1 8 = .ok (.aload_n 0, 1) := dz_ok (by decide +kernel)
theorem twrX_d9 : decode xM203.2.1 9 = .ok (.invokevirtual 102, 3) := dz_ok (by decide +kernel)
theorem twrX_d12 : decode xM203.2.1 12 = .ok (.ireturn, 1) := dz_ok (by decide +kernel)
theorem twrX_d13 : decode xM203.2.1 13 = .ok (.aload_n 0, 1) := dz_ok (by decide +kernel)
theorem twrX_d14 : decode xM203.2.1 14 = .ok (.iload_n 1, 1) := dz_ok (by decide +kernel)
theorem twrX_d15 : decode xM203.2.1 15 = .ok (.iconst 2, 1) := dz_ok (by decide +kernel)
theorem twrX_d16 : decode xM203.2.1 16 = .ok (.invokevirtual 99, 3) := dz_ok (by decide +kernel)
theorem twrX_d19 : decode xM203.2.1 19 = .ok (.istore_n 2, 1) := dz_ok (by decide +kernel)
theorem twrX_d20 : decode xM203.2.1 20 = .ok (.iconst (-1), 1) := dz_ok (by decide +kernel)
theorem twrX_d21 : decode xM203.2.1 21 = .ok (.istore_n 3, 1) := dz_ok (by decide +kernel)
theorem twrX_d22 : decode xM203.2.1 22 = .ok (.iconst 0, 1) := dz_ok (by decide +kernel)
theorem twrX_d23 : decode xM203.2.1 23 = .ok (.istore 4, 2) := dz_ok (by decide +kernel)
theorem twrX_d25 : decode xM203.2.1 25 = .ok (.iload 4, 2) := dz_ok (by decide +kernel)
theorem twrX_d27 : decode xM203.2.1 27 = .ok (.bipush 100, 2) := dz_ok (by decide +kernel)
theorem twrX_d29 : decode xM203.2.1 29 = .ok (.if_icmp .ge 104, 3) := dz_ok (by decide +kernel)
theorem twrX_d32 : decode xM203.2.1 32 = .ok (.iload_n 3, 1) := dz_ok (by decide +kernel)
theorem twrX_d33 : decode xM203.2.1 33 = .ok (.iconst (-1), 1) := dz_ok (by decide +kernel)
theorem twrX_d34 : decode xM203.2.1 34 = .ok (.if_icmp .ne 99, 3) := dz_ok (by decide +kernel)
theorem twrX_d37 : decode xM203.2.1 37 = .ok (.aload_n 0, 1) := dz_ok (by decide +kernel)
theorem twrX_d38 : decode xM203.2.1 38 = .ok (.getfield 7, 3) := dz_ok (by decide +kernel)
theorem twrX_d41 : decode xM203.2.1 41 = .ok (.bipush 10, 2) := dz_ok (by decide +kernel)
theorem twrX_d43 : decode xM203.2.1 43 = .ok (.iconst 5, 1) := dz_ok (by decide +kernel)
theorem twrX_d44 : decode xM203.2.1 44 = .ok (.iload_n 1, 1) := dz_ok (by decide +kernel)
theorem twrX_d45 : decode xM203.2.1 45 = .ok (.imul, 1) := dz_ok (by decide +kernel)
theorem twrX_d46 : decode xM203.2.1 46 = .ok (.iadd, 1) := dz_ok (by decide +kernel)
theorem twrX_d47 : decode xM203.2.1 47 = .ok (.iconst 2, 1) := dz_ok (by decide +kernel)
theorem twrX_d48 : decode xM203.2.1 48 = .ok (.iadd, 1) := dz_ok (by decide +kernel)
theorem twrX_d49 : decode xM203.2.1 49 = .ok (.iload 4, 2) := dz_ok (by decide +kernel)
theorem twrX_d51 : decode xM203.2.1 51 = .ok (.iastore, 1) := dz_ok (by decide +kernel)
theorem twrX_d52 : decode xM203.2.1 52 = .ok (.iconst 1, 1) := dz_ok (by decide +kernel)
theorem twrX_d53 : decode xM203.2.1 53 = .ok (.istore 5, 2) := dz_ok (by decide +kernel)
theorem twrX_d55 : decode xM203.2.1 55 = .ok (.iconst 0, 1) := dz_ok (by decide +kernel)
theorem twrX_d56 : decode xM203.2.1 56 = .ok (.istore 6, 2) := dz_ok (by decide +kernel)
theorem twrX_d58 : decode xM203.2.1 58 = .ok (.iload 6, 2) := dz_ok (by decide +kernel)
theorem twrX_d60 : decode xM203.2.1 60 = .ok (.aload_n 0, 1) := dz_ok (by decide +kernel)
theorem twrX_d61 : decode xM203.2.1 61 = .ok (.getfield 7, 3) := dz_ok (by decide +kernel)
theorem twrX_d64 : decode xM203.2.1 64 = .ok (.iconst 0, 1) := dz_ok (by decide +kernel)
theorem twrX_d65 : decode xM203.2.1 65 = .ok (.iaload, 1) := dz_ok (by decide +kernel)
theorem twrX_d66 : decode xM203.2.1 66 = .ok (.if_icmp .ge 49, 3) := dz_ok (by decide +kernel)
theorem twrX_d69 : decode xM203.2.1 69 = .ok (.iload 5, 2) := dz_ok (by decide +kernel)
theorem twrX_d71 : decode xM203.2.1 71 = .ok (.ifCond .eq 44, 3) := dz_ok (by decide +kernel)
theorem twrX_d74 : decode xM203.2.1 74 = .ok (.iload 6, 2) := dz_ok (by decide +kernel)
theorem twrX_d76 : decode xM203.2.1 76 = .ok (.iload_n 1, 1) := dz_ok (by decide +kernel)
theorem twrX_d77 : decode xM203.2.1 77 = .ok (.if_icmp .eq 25, 3) := dz_ok (by decide +kernel)
theorem twrX_d80 : decode xM203.2.1 80 = .ok (.aload_n 0, 1) := dz_ok (by decide +kernel)
theorem twrX_d81 : decode xM203.2.1 81 = .ok (.iload_n 1, 1) := dz_ok (by decide +kernel)
theorem twrX_d82 : decode xM203.2.1 82 = .ok (.iload 6, 2) := dz_ok (by decide +kernel)
theorem twrX_d84 : decode xM203.2.1 84 = .ok (.aload_n 0, 1) := dz_ok (by decide +kernel)
theorem twrX_d85 : decode xM203.2.1 85 = .ok (.getfield 7, 3) := dz_ok (by decide +kernel)
theorem twrX_d88 : decode xM203.2.1 88 = .ok (.iconst 4, 1) := dz_ok (by decide +kernel)
theorem twrX_d89 : decode xM203.2.1 89 = .ok (.iaload, 1) := dz_ok (by decide +kernel)
theorem twrX_d90 : decode xM203.2.1 90 = .ok (.aload_n 0, 1) := dz_ok (by decide +kernel)
theorem twrX_d91 : decode xM203.2.1 91 = .ok (.getfield 7, 3) := dz_ok (by decide +kernel)
theorem twrX_d94 : decode xM203.2.1 94 = .ok (.iconst 5, 1) := dz_ok (by decide +kernel)
theorem twrX_d95 : decode xM203.2.1 95 = .ok (.iaload, 1) := dz_ok (by decide +kernel)
theorem twrX_d96 : decode xM203.2.1 96 = .ok (.invokevirtual 140, 3) := dz_ok (by decide +kernel)
theorem twrX_d99 : decode xM203.2.1 99 = .ok (.ifCond .eq 7, 3) := dz_ok (by decide +kernel)
theorem twrX_d102 : decode xM203.2.1 102 = .ok (.iconst 1, 1) := dz_ok (by decide +kernel)
theorem twrX_d103 : decode xM203.2.1 103 = .ok (.goto 4, 3) := dz_ok (by decide +kernel)
theorem twrX_d106 : decode xM203.2.1 106 = .ok (.iconst 0, 1) := dz_ok (by decide +kernel)
theorem twrX_d107 : decode xM203.2.1 107 = .ok (.istore 5, 2) := dz_ok (by decide +kernel)
theorem twrX_d109 : decode xM203.2.1 109 = .ok (.iinc 6 1, 3) := dz_ok (by decide +kernel)
theorem twrX_d112 : decode xM203.2.1 112 = .ok (.goto (-54), 3) := dz_ok (by decide +kernel)
theorem twrX_d115 : decode xM203.2.1 115 = .ok (.iload 5, 2) := dz_ok (by decide +kernel)
theorem twrX_d117 : decode xM203.2.1 117 = .ok (.ifCond .eq 8, 3) := dz_ok (by decide +kernel)
theorem twrX_d120 : decode xM203.2.1 120 = .ok (.iload 4, 2) := dz_ok (by decide +kernel)
theorem twrX_d122 : decode xM203.2.1 122 = .ok (.goto 4, 3) := dz_ok (by decide +kernel)
theorem twrX_d125 : decode xM203.2.1 125 = .ok (.iconst (-1), 1) := dz_ok (by decide +kernel)
theorem twrX_d126 : decode xM203.2.1 126 = .ok (.istore_n 3, 1) := dz_ok (by decide +kernel)
theorem twrX_d127 : decode xM203.2.1 127 = .ok (.iinc 4 1, 3) := dz_ok (by decide +kernel)
theorem twrX_d130 : decode xM203.2.1 130 = .ok (.goto (-105), 3) := dz_ok (by decide +kernel)
theorem twrX_d133 : decode xM203.2.1 133 = .ok (.aload_n 0, 1) := dz_ok (by decide +kernel)
theorem twrX_d134 : decode xM203.2.1 134 = .ok (.getfield 7, 3) := dz_ok (by decide +kernel)
theorem twrX_d137 : decode xM203.2.1 137 = .ok (.bipush 10, 2) := dz_ok (by decide +kernel)
theorem twrX_d139 : decode xM203.2.1 139 = .ok (.iconst 5, 1) := dz_ok (by decide +kernel)
theorem twrX_d140 : decode xM203.2.1 140 = .ok (.iload_n 1, 1) := dz_ok (by decide +kernel)
theorem twrX_d141 : decode xM203.2.1 141 = .ok (.imul, 1) := dz_ok (by decide +kernel)
theorem twrX_d142 : decode xM203.2.1 142 = .ok (.iadd, 1) := dz_ok (by decide +kernel)
theorem twrX_d143 : decode xM203.2.1 143 = .ok (.iconst 2, 1) := dz_ok (by decide +kernel)
theorem twrX_d144 : decode xM203.2.1 144 = .ok (.iadd, 1) := dz_ok (by decide +kernel)
theorem twrX_d145 : decode xM203.2.1 145 = .ok (.iload_n 2, 1) := dz_ok (by decide +kernel)
theorem twrX_d146 : decode xM203.2.1 146 = .ok (.iastore, 1) := dz_ok (by decide +kernel)
theorem twrX_d147 : decode xM203.2.1 147 = .ok (.iload_n 3, 1) := dz_ok (by decide +kernel)
theorem twrX_d148 : decode xM203.2.1 148 = .ok (.ireturn, 1) := dz_ok (by decide +kernel)
theorem twrX_L58 {p : Program} {l : Launch} {e : Env} {s : State} {m : MethodId} {below : List Frame} {meth : Method} {c : Code} {D : va_G} {U : State} {Y0 : xY} {av : List Value} (B : y_B vwCl x_Tb x_Nb xM203 p s m meth c D U Y0 av) {this bk : Nat} {h had : Int32} {fb : Nat → Int32} (hav : av = [.ref this, .int h]) (hs0 : x_sl D 12 0 this s.heap = some (.ref bk)) (hA0 : y_A bk 160 s.heap fb) (hcn : z_c fb) (hd0 : 0 ≤ (fb 0).toInt ∧ (fb 0).toInt ≤ 10) (hok : m_isH fb h) (hh : 0 ≤ h.toInt ∧ h.toInt ≤ 9) (hhad : fb (12 + 5 * h.toInt.toNat) = had) {ht fo : Int32} {fz : Nat → Int32} (hht : 0 ≤ ht.toInt ∧ ht.toInt < 100) (hfz : fz = y_up fb (12 + 5 * h.toInt.toNat) ht) (hcz : z_c fz) (hlow : ∀ u : Int32, 0 ≤ u.toInt → u.toInt < ht.toInt → ¬ m_ok9 fb h.toInt.toNat (fb 0).toInt.toNat u)
    (out25 : ∀ (H : Heap) (Y : xY) (locs : List Loc) (ls : Array Slot) (ht1 : Int32) (fo1 : Int32) (wv1 : Int32) (fz1 : Nat → Int32), x_I D x_G x_Zs U (x_efs xM203) Y0 s.heap Y H locs → Y this = some 17 → Y bk = some 46 → x_sl D 12 0 this H = some (.ref bk) → y_A bk 160 H fz1 → lv_has ls xM203.2.2.1 [(4, .int ht1), (3, .int fo1), (2, .int had), (0, .ref this), (1, .int h)] → (0 ≤ ht1.toInt ∧ ht1.toInt ≤ 100) → (fz1 = y_up fb (12 + 5 * h.toInt.toNat) wv1) → ((fo1 = -1 ∧ ∀ u : Int32, 0 ≤ u.toInt → u.toInt < ht1.toInt → ¬ m_ok9 fb h.toInt.toNat (fb 0).toInt.toNat u) ∨ (0 ≤ fo1.toInt ∧ fo1.toInt ≤ 99 ∧ m_ok9 fb h.toInt.toNat (fb 0).toInt.toNat fo1 ∧ ∀ u : Int32, 0 ≤ u.toInt → u.toInt < fo1.toInt → ¬ m_ok9 fb h.toInt.toNat (fb 0).toInt.toNat u)) → (ht1.toInt = ht.toInt + 1) → W p l e (x_rm xM203) s m av.toArray below meth c H locs 0 0 (y_QQ below D x_G x_Zs U xM203 z_PMtow av Y0 s) (F0 m 25 ls [])) :
    ∀ (n : Nat), ∀ (H : Heap) (Y : xY) (locs : List Loc) (ls : Array Slot) (j : Int32) (is : Int32), x_I D x_G x_Zs U (x_efs xM203) Y0 s.heap Y H locs → Y this = some 17 → Y bk = some 46 → x_sl D 12 0 this H = some (.ref bk) → y_A bk 160 H fz → lv_has ls xM203.2.2.1 [(6, .int j), (5, .int is), (4, .int ht), (3, .int fo), (2, .int had), (0, .ref this), (1, .int h)] → (0 ≤ j.toInt ∧ j.toInt ≤ (fb 0).toInt) → (0 ≤ is.toInt ∧ is.toInt ≤ 1) → (is = 1 → ∀ k, k < j.toInt.toNat → k ≠ h.toInt.toNat → m_ss (y_up fb (12 + 5 * h.toInt.toNat) ht) h.toInt.toNat k (fb 4) (fb 5) = true) → (is = 0 → ∃ k, k < (fb 0).toInt.toNat ∧ k ≠ h.toInt.toNat ∧ m_ss (y_up fb (12 + 5 * h.toInt.toNat) ht) h.toInt.toNat k (fb 4) (fb 5) = false) → (11 - j.toInt).toNat < n → W p l e (x_rm xM203) s m av.toArray below meth c H locs 0 0 (y_QQ below D x_G x_Zs U xM203 z_PMtow av Y0 s) (F0 m 58 ls []) := by
  have X := B.1
  have hx := X.1
  have hb := X.2.1
  have hY0 := B.2.2.2.2.1
  intro n
  induction n with
  | zero => intro _ _ _ _ _ _ _ _ _ _ _ _ _ _ _ _ h; exact absurd h (Nat.not_lt_zero _)
  | succ n ih =>
    intro H Y locs ls j is  hI hY_this hY_bk hs_bk hA_bk hl hj his hi1 hi0 hn
    refine lv_iload hx hb twrX_d58 (lv_at hl 0 rfl) ?_
    refine lv_aload_n hx hb twrX_d60 rfl (lv_at hl 5 rfl) ?_
    refine y_getf X (fl190 X.2.2.2.2.1) hI.1 hY_this rfl hs_bk twrX_d61 ?_
    refine lv_iconst hx hb twrX_d64 (v := 0) (by decide) ?_
    have ec0 : (0 : Int32).toInt = 0 := by decide
    refine y_iald X hI.1 hY_bk rfl hA_bk (by omega) (by show _ < (160 : Int); omega) twrX_d65 ?_
    obtain ⟨e65, hg_e65⟩ : ∃ e65 : Int32, fz (0 : Int32).toInt.toNat = e65 := ⟨_, rfl⟩
    rw [hg_e65]
    have h_g0 : e65 = fb 0 := by rw [← hg_e65, hfz, show (0 : Int32).toInt.toNat = 0 by decide, y_up_ne (by omega)]
    have h_e65 : e65.toInt = (fb 0).toInt := by rw [h_g0]
    refine lv_icmp_ge hx hb twrX_d66 (tgt := 115) (by decide) (fun q66 => ?_) (fun q66 => ?_)
    · have q66_ : e65.toInt ≤ j.toInt := x_le32.mp q66
      refine lv_iload hx hb twrX_d115 (lv_at hl 1 rfl) ?_
      refine lv_if_eq hx hb twrX_d117 (tgt := 125) (by decide) (fun q117 => ?_) (fun q117 => ?_)
      · have q117_ : is.toInt = (0 : Int32).toInt := by rw [q117]
        refine lv_iconst hx hb twrX_d125 (v := (-1)) (by decide) ?_
        have ecm1 : ((-1) : Int32).toInt = (-1) := by decide
        refine lv_istore_n hx hb twrX_d126 rfl hl (by decide) (lv' := [(3, .int ((-1) : Int32)), (6, .int j), (5, .int is), (4, .int ht), (2, .int had), (0, .ref this), (1, .int h)]) rfl fun ls hl => ?_
        obtain ⟨z127, hg_z127⟩ : ∃ z127 : Int32, ht + Int32.ofInt 1 = z127 := ⟨_, rfl⟩
        have h_z127 : z127.toInt = ht.toInt + 1 := by rw [← hg_z127]; exact y_inc (by decide) (by omega) (by omega)
        refine lv_iinc hx hb twrX_d127 hl (k := 3) rfl hg_z127 (by decide) (lv' := [(4, .int z127), (3, .int ((-1) : Int32)), (6, .int j), (5, .int is), (2, .int had), (0, .ref this), (1, .int h)]) rfl fun ls hl => ?_
        refine lv_goto hx hb twrX_d130 (tgt := 25) (by decide) ?_
        have hh1 : z127.toInt = ht.toInt + 1 := by omega
        have his0 : is = 0 := by assumption
        obtain ⟨k9, k1, k2, k3⟩ := hi0 his0
        exact out25 _ _ _ _ _ _ _ _ hI hY_this hY_bk hs_bk hA_bk (lv_sub hl [0, 1, 4, 5, 6] rfl) ⟨by omega, by omega⟩ hfz (Or.inl ⟨rfl, fun u u1 u2 => by rcases (show u.toInt < ht.toInt ∨ u.toInt = ht.toInt by omega) with h9 | h9; exact hlow u u1 h9; (rw [Int32.toInt_inj.mp h9]; exact fun q => by rw [q k9 k1 k2] at k3; cases k3)⟩) (by omega)
      · have q117_ : ¬ is.toInt = (0 : Int32).toInt := fun q => q117 (Int32.toInt_inj.mp q)
        refine lv_iload hx hb twrX_d120 (lv_at hl 2 rfl) ?_
        refine lv_goto hx hb twrX_d122 (tgt := 126) (by decide) ?_
        refine lv_istore_n hx hb twrX_d126 rfl hl (by decide) (lv' := [(3, .int ht), (6, .int j), (5, .int is), (4, .int ht), (2, .int had), (0, .ref this), (1, .int h)]) rfl fun ls hl => ?_
        obtain ⟨z127, hg_z127⟩ : ∃ z127 : Int32, ht + Int32.ofInt 1 = z127 := ⟨_, rfl⟩
        have h_z127 : z127.toInt = ht.toInt + 1 := by rw [← hg_z127]; exact y_inc (by decide) (by omega) (by omega)
        refine lv_iinc hx hb twrX_d127 hl (k := 3) rfl hg_z127 (by decide) (lv' := [(4, .int z127), (3, .int ht), (6, .int j), (5, .int is), (2, .int had), (0, .ref this), (1, .int h)]) rfl fun ls hl => ?_
        refine lv_goto hx hb twrX_d130 (tgt := 25) (by decide) ?_
        have hh1 : z127.toInt = ht.toInt + 1 := by omega
        have his1 : is = 1 := by rcases y_01 his.1 his.2 with h9 | h9; exact absurd h9 (by assumption); exact h9
        exact out25 _ _ _ _ _ _ _ _ hI hY_this hY_bk hs_bk hA_bk (lv_sub hl [0, 1, 4, 5, 6] rfl) ⟨by omega, by omega⟩ hfz (Or.inr ⟨by omega, by omega, fun k k1 k2 => hi1 his1 k (by omega) k2, hlow⟩) (by omega)
    · have q66_ : j.toInt < e65.toInt := Int.not_le.mp fun q => q66 (x_le32.mpr q)
      refine lv_iload hx hb twrX_d69 (lv_at hl 1 rfl) ?_
      refine lv_if_eq hx hb twrX_d71 (tgt := 115) (by decide) (fun q71 => ?_) (fun q71 => ?_)
      · have q71_ : is.toInt = (0 : Int32).toInt := by rw [q71]
        refine lv_iload hx hb twrX_d115 (lv_at hl 1 rfl) ?_
        refine lv_if_eq hx hb twrX_d117 (tgt := 125) (by decide) (fun q117 => ?_) (fun q117 => ?_)
        · have q117_ : is.toInt = (0 : Int32).toInt := by rw [q117]
          refine lv_iconst hx hb twrX_d125 (v := (-1)) (by decide) ?_
          have ecm1 : ((-1) : Int32).toInt = (-1) := by decide
          refine lv_istore_n hx hb twrX_d126 rfl hl (by decide) (lv' := [(3, .int ((-1) : Int32)), (6, .int j), (5, .int is), (4, .int ht), (2, .int had), (0, .ref this), (1, .int h)]) rfl fun ls hl => ?_
          obtain ⟨z127, hg_z127⟩ : ∃ z127 : Int32, ht + Int32.ofInt 1 = z127 := ⟨_, rfl⟩
          have h_z127 : z127.toInt = ht.toInt + 1 := by rw [← hg_z127]; exact y_inc (by decide) (by omega) (by omega)
          refine lv_iinc hx hb twrX_d127 hl (k := 3) rfl hg_z127 (by decide) (lv' := [(4, .int z127), (3, .int ((-1) : Int32)), (6, .int j), (5, .int is), (2, .int had), (0, .ref this), (1, .int h)]) rfl fun ls hl => ?_
          refine lv_goto hx hb twrX_d130 (tgt := 25) (by decide) ?_
          have hh1 : z127.toInt = ht.toInt + 1 := by omega
          have his0 : is = 0 := by assumption
          obtain ⟨k9, k1, k2, k3⟩ := hi0 his0
          exact out25 _ _ _ _ _ _ _ _ hI hY_this hY_bk hs_bk hA_bk (lv_sub hl [0, 1, 4, 5, 6] rfl) ⟨by omega, by omega⟩ hfz (Or.inl ⟨rfl, fun u u1 u2 => by rcases (show u.toInt < ht.toInt ∨ u.toInt = ht.toInt by omega) with h9 | h9; exact hlow u u1 h9; (rw [Int32.toInt_inj.mp h9]; exact fun q => by rw [q k9 k1 k2] at k3; cases k3)⟩) (by omega)
        · have q117_ : ¬ is.toInt = (0 : Int32).toInt := fun q => q117 (Int32.toInt_inj.mp q)
          refine lv_iload hx hb twrX_d120 (lv_at hl 2 rfl) ?_
          refine lv_goto hx hb twrX_d122 (tgt := 126) (by decide) ?_
          refine lv_istore_n hx hb twrX_d126 rfl hl (by decide) (lv' := [(3, .int ht), (6, .int j), (5, .int is), (4, .int ht), (2, .int had), (0, .ref this), (1, .int h)]) rfl fun ls hl => ?_
          obtain ⟨z127, hg_z127⟩ : ∃ z127 : Int32, ht + Int32.ofInt 1 = z127 := ⟨_, rfl⟩
          have h_z127 : z127.toInt = ht.toInt + 1 := by rw [← hg_z127]; exact y_inc (by decide) (by omega) (by omega)
          refine lv_iinc hx hb twrX_d127 hl (k := 3) rfl hg_z127 (by decide) (lv' := [(4, .int z127), (3, .int ht), (6, .int j), (5, .int is), (2, .int had), (0, .ref this), (1, .int h)]) rfl fun ls hl => ?_
          refine lv_goto hx hb twrX_d130 (tgt := 25) (by decide) ?_
          have hh1 : z127.toInt = ht.toInt + 1 := by omega
          have his1 : is = 1 := by rcases y_01 his.1 his.2 with h9 | h9; exact absurd h9 (by assumption); exact h9
          exact out25 _ _ _ _ _ _ _ _ hI hY_this hY_bk hs_bk hA_bk (lv_sub hl [0, 1, 4, 5, 6] rfl) ⟨by omega, by omega⟩ hfz (Or.inr ⟨by omega, by omega, fun k k1 k2 => hi1 his1 k (by omega) k2, hlow⟩) (by omega)
      · have q71_ : ¬ is.toInt = (0 : Int32).toInt := fun q => q71 (Int32.toInt_inj.mp q)
        refine lv_iload hx hb twrX_d74 (lv_at hl 0 rfl) ?_
        refine lv_iload_n hx hb twrX_d76 rfl (lv_at hl 6 rfl) ?_
        refine lv_icmp_eq hx hb twrX_d77 (tgt := 102) (by decide) (fun q77 => ?_) (fun q77 => ?_)
        · have q77_ : j.toInt = h.toInt := by rw [q77]
          refine lv_iconst hx hb twrX_d102 (v := 1) (by decide) ?_
          have ec1 : (1 : Int32).toInt = 1 := by decide
          refine lv_goto hx hb twrX_d103 (tgt := 107) (by decide) ?_
          refine lv_istore hx hb twrX_d107 hl (by decide) (lv' := [(5, .int (1 : Int32)), (6, .int j), (4, .int ht), (3, .int fo), (2, .int had), (0, .ref this), (1, .int h)]) rfl fun ls hl => ?_
          obtain ⟨z109, hg_z109⟩ : ∃ z109 : Int32, j + Int32.ofInt 1 = z109 := ⟨_, rfl⟩
          have h_z109 : z109.toInt = j.toInt + 1 := by rw [← hg_z109]; exact y_inc (by decide) (by omega) (by omega)
          refine lv_iinc hx hb twrX_d109 hl (k := 1) rfl hg_z109 (by decide) (lv' := [(6, .int z109), (5, .int (1 : Int32)), (4, .int ht), (3, .int fo), (2, .int had), (0, .ref this), (1, .int h)]) rfl fun ls hl => ?_
          refine lv_goto hx hb twrX_d112 (tgt := 58) (by decide) ?_
          have hij : z109.toInt.toNat = j.toInt.toNat + 1 := by omega
          have his1 : is = 1 := by rcases y_01 his.1 his.2 with h9 | h9; exact absurd h9 (by assumption); exact h9
          exact ih _ _ _ _ _ _ hI hY_this hY_bk hs_bk hA_bk (lv_sub hl [0, 1, 2, 3, 4, 5, 6] rfl) (by first | assumption | omega) (by rw [m_c1]; omega) (fun _ k k1 k2 => by by_cases ek : k = j.toInt.toNat; (first | exact absurd ek (by omega) | (subst ek; exact m_bn (fun q => absurd (hs9.symm.trans q) (by assumption)))); exact hi1 his1 k (by omega) k2) (fun q => absurd q (by decide)) (by omega)
        · have q77_ : ¬ j.toInt = h.toInt := fun q => q77 (Int32.toInt_inj.mp q)
          refine lv_aload_n hx hb twrX_d80 rfl (lv_at hl 5 rfl) ?_
          refine lv_iload_n hx hb twrX_d81 rfl (lv_at hl 6 rfl) ?_
          refine lv_iload hx hb twrX_d82 (lv_at hl 0 rfl) ?_
          refine lv_aload_n hx hb twrX_d84 rfl (lv_at hl 5 rfl) ?_
          refine y_getf X (fl190 X.2.2.2.2.1) hI.1 hY_this rfl hs_bk twrX_d85 ?_
          refine lv_iconst hx hb twrX_d88 (v := 4) (by decide) ?_
          have ec4 : (4 : Int32).toInt = 4 := by decide
          refine y_iald X hI.1 hY_bk rfl hA_bk (by omega) (by show _ < (160 : Int); omega) twrX_d89 ?_
          obtain ⟨e89, hg_e89⟩ : ∃ e89 : Int32, fz (4 : Int32).toInt.toNat = e89 := ⟨_, rfl⟩
          rw [hg_e89]
          have h_g4 : e89 = fb 4 := by rw [← hg_e89, hfz, show (4 : Int32).toInt.toNat = 4 by decide, y_up_ne (by omega)]
          have h_e89 : e89.toInt = (fb 4).toInt := by rw [h_g4]
          refine lv_aload_n hx hb twrX_d90 rfl (lv_at hl 5 rfl) ?_
          refine y_getf X (fl190 X.2.2.2.2.1) hI.1 hY_this rfl hs_bk twrX_d91 ?_
          refine lv_iconst hx hb twrX_d94 (v := 5) (by decide) ?_
          have ec5 : (5 : Int32).toInt = 5 := by decide
          refine y_iald X hI.1 hY_bk rfl hA_bk (by omega) (by show _ < (160 : Int); omega) twrX_d95 ?_
          obtain ⟨e95, hg_e95⟩ : ∃ e95 : Int32, fz (5 : Int32).toInt.toNat = e95 := ⟨_, rfl⟩
          rw [hg_e95]
          have h_g5 : e95 = fb 5 := by rw [← hg_e95, hfz, show (5 : Int32).toInt.toNat = 5 by decide, y_up_ne (by omega)]
          have h_e95 : e95.toInt = (fb 5).toInt := by rw [h_g5]
          refine y_call (z := (0, 140, 5, some 17, xM173)) (av := [.ref this, .int h, .int j, .int e89, .int e95]) (rest := []) (y_cokV (n := 4) (ci := 12) X ym_isSight rfl rfl rfl (x_cons (x_bw72 6 rfl rfl) (x_cons (x_bw72 8 rfl rfl) (x_cons (x_at 41 (by decide +kernel) rfl) (x_cons (x_bw0 9 rfl rfl) x_nilm)))) (x_bw72 9 rfl rfl) (by decide +kernel) ⟨Nat.le_of_ble_eq_true rfl, Nat.le_of_ble_eq_true rfl⟩) hY0 hI rfl twrX_d96 hl.1 (Nat.le_of_ble_eq_true rfl) (Nat.le_of_ble_eq_true rfl) (Nat.le_of_ble_eq_true rfl) (y_cons (y_cref hY_this rfl) (y_cons ⟨_, rfl, by show (0 : Int) ≤ _; omega, by show _ ≤ (9 : Int); omega⟩ (y_cons ⟨_, rfl, by show (0 : Int) ≤ _; omega, by show _ ≤ (9 : Int); omega⟩ (y_cons ⟨_, rfl, x_i32 _⟩ (y_cons ⟨_, rfl, x_i32 _⟩ y_nil))))) rfl (y_recv rfl hY_this) trivial (y_sub_ef rfl) fun v Yn o Hn L ho hr ha hIn hx_ hE hP => ?_
          have hPs := hP _ _ _ _ _ _ _ rfl hs_bk hcz hA_bk
          obtain rfl := hPs
          replace hs_bk := y_Efld hE hY_this rfl (by decide) (by decide) hs_bk
          replace hA_bk := hA_bk.kept (y_Earr hE hY_bk rfl (by decide))
          replace hY_this := y_ext hx_ hI.1 hY_this
          replace hY_bk := y_ext hx_ hI.1 hY_bk
          generalize hg_r96 : m_b (m_ss fz h.toInt.toNat j.toInt.toNat e89 e95) = r96
          have hs9 : m_b (m_ss (y_up fb (12 + 5 * h.toInt.toNat) ht) h.toInt.toNat j.toInt.toNat (fb 4) (fb 5)) = r96 := by rw [← hg_r96, h_g4, h_g5, ← hfz]
          clear ho hr ha hE hP hI hx_
          rename x_I _ _ _ _ _ _ _ _ _ _ => hI
          refine lv_if_eq hx hb twrX_d99 (tgt := 106) (by decide) (fun q99 => ?_) (fun q99 => ?_)
          · have q99_ : r96.toInt = (0 : Int32).toInt := by rw [q99]
            refine lv_iconst hx hb twrX_d106 (v := 0) (by decide) ?_
            refine lv_istore hx hb twrX_d107 hl (by decide) (lv' := [(5, .int (0 : Int32)), (6, .int j), (4, .int ht), (3, .int fo), (2, .int had), (0, .ref this), (1, .int h)]) rfl fun ls hl => ?_
            obtain ⟨z109, hg_z109⟩ : ∃ z109 : Int32, j + Int32.ofInt 1 = z109 := ⟨_, rfl⟩
            have h_z109 : z109.toInt = j.toInt + 1 := by rw [← hg_z109]; exact y_inc (by decide) (by omega) (by omega)
            refine lv_iinc hx hb twrX_d109 hl (k := 1) rfl hg_z109 (by decide) (lv' := [(6, .int z109), (5, .int (0 : Int32)), (4, .int ht), (3, .int fo), (2, .int had), (0, .ref this), (1, .int h)]) rfl fun ls hl => ?_
            refine lv_goto hx hb twrX_d112 (tgt := 58) (by decide) ?_
            have hij : z109.toInt.toNat = j.toInt.toNat + 1 := by omega
            have his1 : is = 1 := by rcases y_01 his.1 his.2 with h9 | h9; exact absurd h9 (by assumption); exact h9
            exact ih _ _ _ _ _ _ hI hY_this hY_bk hs_bk hA_bk (lv_sub hl [0, 1, 2, 3, 4, 5, 6] rfl) (by first | assumption | omega) (by rw [m_c0]; omega) (fun q => absurd q (by decide)) (fun _ => ⟨j.toInt.toNat, by omega, by omega, m_b0 (hs9.trans (by assumption))⟩) (by omega)
          · have q99_ : ¬ r96.toInt = (0 : Int32).toInt := fun q => q99 (Int32.toInt_inj.mp q)
            refine lv_iconst hx hb twrX_d102 (v := 1) (by decide) ?_
            have ec1 : (1 : Int32).toInt = 1 := by decide
            refine lv_goto hx hb twrX_d103 (tgt := 107) (by decide) ?_
            refine lv_istore hx hb twrX_d107 hl (by decide) (lv' := [(5, .int (1 : Int32)), (6, .int j), (4, .int ht), (3, .int fo), (2, .int had), (0, .ref this), (1, .int h)]) rfl fun ls hl => ?_
            obtain ⟨z109, hg_z109⟩ : ∃ z109 : Int32, j + Int32.ofInt 1 = z109 := ⟨_, rfl⟩
            have h_z109 : z109.toInt = j.toInt + 1 := by rw [← hg_z109]; exact y_inc (by decide) (by omega) (by omega)
            refine lv_iinc hx hb twrX_d109 hl (k := 1) rfl hg_z109 (by decide) (lv' := [(6, .int z109), (5, .int (1 : Int32)), (4, .int ht), (3, .int fo), (2, .int had), (0, .ref this), (1, .int h)]) rfl fun ls hl => ?_
            refine lv_goto hx hb twrX_d112 (tgt := 58) (by decide) ?_
            have hij : z109.toInt.toNat = j.toInt.toNat + 1 := by omega
            have his1 : is = 1 := by rcases y_01 his.1 his.2 with h9 | h9; exact absurd h9 (by assumption); exact h9
            exact ih _ _ _ _ _ _ hI hY_this hY_bk hs_bk hA_bk (lv_sub hl [0, 1, 2, 3, 4, 5, 6] rfl) (by first | assumption | omega) (by rw [m_c1]; omega) (fun _ k k1 k2 => by by_cases ek : k = j.toInt.toNat; (first | exact absurd ek (by omega) | (subst ek; exact m_bn (fun q => absurd (hs9.symm.trans q) (by assumption)))); exact hi1 his1 k (by omega) k2) (fun q => absurd q (by decide)) (by omega)
theorem twrX_L25 {p : Program} {l : Launch} {e : Env} {s : State} {m : MethodId} {below : List Frame} {meth : Method} {c : Code} {D : va_G} {U : State} {Y0 : xY} {av : List Value} (B : y_B vwCl x_Tb x_Nb xM203 p s m meth c D U Y0 av) {this bk : Nat} {h had : Int32} {fb : Nat → Int32} (hav : av = [.ref this, .int h]) (hs0 : x_sl D 12 0 this s.heap = some (.ref bk)) (hA0 : y_A bk 160 s.heap fb) (hcn : z_c fb) (hd0 : 0 ≤ (fb 0).toInt ∧ (fb 0).toInt ≤ 10) (hok : m_isH fb h) (hh : 0 ≤ h.toInt ∧ h.toInt ≤ 9) (hhad : fb (12 + 5 * h.toInt.toNat) = had)  :
    ∀ (n : Nat), ∀ (H : Heap) (Y : xY) (locs : List Loc) (ls : Array Slot) (ht : Int32) (fo : Int32) (wv : Int32) (fz : Nat → Int32), x_I D x_G x_Zs U (x_efs xM203) Y0 s.heap Y H locs → Y this = some 17 → Y bk = some 46 → x_sl D 12 0 this H = some (.ref bk) → y_A bk 160 H fz → lv_has ls xM203.2.2.1 [(4, .int ht), (3, .int fo), (2, .int had), (0, .ref this), (1, .int h)] → (0 ≤ ht.toInt ∧ ht.toInt ≤ 100) → (fz = y_up fb (12 + 5 * h.toInt.toNat) wv) → ((fo = -1 ∧ ∀ u : Int32, 0 ≤ u.toInt → u.toInt < ht.toInt → ¬ m_ok9 fb h.toInt.toNat (fb 0).toInt.toNat u) ∨ (0 ≤ fo.toInt ∧ fo.toInt ≤ 99 ∧ m_ok9 fb h.toInt.toNat (fb 0).toInt.toNat fo ∧ ∀ u : Int32, 0 ≤ u.toInt → u.toInt < fo.toInt → ¬ m_ok9 fb h.toInt.toNat (fb 0).toInt.toNat u)) → (101 - ht.toInt).toNat < n → W p l e (x_rm xM203) s m av.toArray below meth c H locs 0 0 (y_QQ below D x_G x_Zs U xM203 z_PMtow av Y0 s) (F0 m 25 ls []) := by
  have X := B.1
  have hx := X.1
  have hb := X.2.1
  have hY0 := B.2.2.2.2.1
  intro n
  induction n with
  | zero => intro _ _ _ _ _ _ _ _ _ _ _ _ _ _ _ _ _ h; exact absurd h (Nat.not_lt_zero _)
  | succ n ih =>
    intro H Y locs ls ht fo wv fz hI hY_this hY_bk hs_bk hA_bk hl hht hfz hfo hn
    refine lv_iload hx hb twrX_d25 (lv_at hl 0 rfl) ?_
    refine lv_bipush hx hb twrX_d27 (v := 100) (by decide) ?_
    have ec100 : (100 : Int32).toInt = 100 := by decide
    refine lv_icmp_ge hx hb twrX_d29 (tgt := 133) (by decide) (fun q29 => ?_) (fun q29 => ?_)
    · have q29_ : (100 : Int32).toInt ≤ ht.toInt := x_le32.mp q29
      refine lv_aload_n hx hb twrX_d133 rfl (lv_at hl 3 rfl) ?_
      refine y_getf X (fl190 X.2.2.2.2.1) hI.1 hY_this rfl hs_bk twrX_d134 ?_
      refine lv_bipush hx hb twrX_d137 (v := 10) (by decide) ?_
      have ec10 : (10 : Int32).toInt = 10 := by decide
      refine lv_iconst hx hb twrX_d139 (v := 5) (by decide) ?_
      have ec5 : (5 : Int32).toInt = 5 := by decide
      refine lv_iload_n hx hb twrX_d140 rfl (lv_at hl 4 rfl) ?_
      refine lv_imul hx hb twrX_d141 ?_
      generalize hg_z141 : (5 : Int32) * h = z141
      have h_z141 : z141.toInt = 5 * h.toInt := by rw [← hg_z141]; have := y_mul (x := (5 : Int32)) (y := h) (by rw [ec5]; omega) (by rw [ec5]; omega); rw [ec5] at this; exact this
      refine lv_iadd hx hb twrX_d142 ?_
      generalize hg_z142 : (10 : Int32) + z141 = z142
      have h_z142 : z142.toInt = 10 + z141.toInt := by rw [← hg_z142]; have := y_add (x := (10 : Int32)) (y := z141) (by rw [ec10]; omega) (by rw [ec10]; omega); rw [ec10] at this; exact this
      refine lv_iconst hx hb twrX_d143 (v := 2) (by decide) ?_
      have ec2 : (2 : Int32).toInt = 2 := by decide
      refine lv_iadd hx hb twrX_d144 ?_
      generalize hg_z144 : z142 + (2 : Int32) = z144
      have h_z144 : z144.toInt = z142.toInt + 2 := by rw [← hg_z144]; have := y_add (x := z142) (y := (2 : Int32)) (by rw [ec2]; omega) (by rw [ec2]; omega); rw [ec2] at this; exact this
      refine lv_iload_n hx hb twrX_d145 rfl (lv_at hl 2 rfl) ?_
      refine y_iast X hY0 hI hY_bk rfl hA_bk (by omega) (by show _ < (160 : Int); omega) (by rw [z_get3 (by omega)]; exact ⟨_, rfl, x_i32 _⟩) (by decide +kernel) twrX_d146 fun H locs hI h_new ho => ?_
      replace hA_bk := h_new
      generalize hf_f146 : y_up fz z144.toInt.toNat had = f146 at hA_bk
      replace hs_bk := y_slk hs_bk (ho _ (y_ne hY_this hY_bk rfl))
      refine lv_iload_n hx hb twrX_d147 rfl (lv_at hl 1 rfl) ?_
      have hfe : f146 = fb := by rw [← hf_f146, hfz, show z144.toInt.toNat = 12 + 5 * h.toInt.toNat by omega, y_up_up, ← hhad]; exact y_up_self
      rw [hfe] at hA_bk
      have hr9 : m_ltR fb h.toInt.toNat fo := by rcases hfo with h9 | h9; (exact Or.inl ⟨h9.1, fun u u1 u2 => h9.2 u u1 (by first | omega | exact absurd h9.1 (by assumption))⟩); exact Or.inr h9
      subst hav
      exact y_ireturn B hI rfl rfl rfl List.mem_cons_self ⟨_, rfl, ⟨_, rfl, x_i32 _⟩⟩ (x_cs.mono B.2.2.2.2.2 (y_mon B hI)) (fun t' b' w0' f' h1 h2 h3 h4 => by cases h1; cases h2.symm.trans hs0; cases z_uniq h4 hA0 h3 hcn; exact ⟨hA_bk, _, rfl, fun _ => hr9, fun q9 => absurd hok q9⟩) (Nat.le_refl _) (Nat.le_refl _) twrX_d148
    · have q29_ : ht.toInt < (100 : Int32).toInt := Int.not_le.mp fun q => q29 (x_le32.mpr q)
      refine lv_iload_n hx hb twrX_d32 rfl (lv_at hl 1 rfl) ?_
      refine lv_iconst hx hb twrX_d33 (v := (-1)) (by decide) ?_
      have ecm1 : ((-1) : Int32).toInt = (-1) := by decide
      refine lv_icmp_ne hx hb twrX_d34 (tgt := 133) (by decide) (fun q34 => ?_) (fun q34 => ?_)
      · have q34_ : ¬ fo.toInt = ((-1) : Int32).toInt := fun q => q34 (Int32.toInt_inj.mp q)
        refine lv_aload_n hx hb twrX_d133 rfl (lv_at hl 3 rfl) ?_
        refine y_getf X (fl190 X.2.2.2.2.1) hI.1 hY_this rfl hs_bk twrX_d134 ?_
        refine lv_bipush hx hb twrX_d137 (v := 10) (by decide) ?_
        have ec10 : (10 : Int32).toInt = 10 := by decide
        refine lv_iconst hx hb twrX_d139 (v := 5) (by decide) ?_
        have ec5 : (5 : Int32).toInt = 5 := by decide
        refine lv_iload_n hx hb twrX_d140 rfl (lv_at hl 4 rfl) ?_
        refine lv_imul hx hb twrX_d141 ?_
        generalize hg_z141 : (5 : Int32) * h = z141
        have h_z141 : z141.toInt = 5 * h.toInt := by rw [← hg_z141]; have := y_mul (x := (5 : Int32)) (y := h) (by rw [ec5]; omega) (by rw [ec5]; omega); rw [ec5] at this; exact this
        refine lv_iadd hx hb twrX_d142 ?_
        generalize hg_z142 : (10 : Int32) + z141 = z142
        have h_z142 : z142.toInt = 10 + z141.toInt := by rw [← hg_z142]; have := y_add (x := (10 : Int32)) (y := z141) (by rw [ec10]; omega) (by rw [ec10]; omega); rw [ec10] at this; exact this
        refine lv_iconst hx hb twrX_d143 (v := 2) (by decide) ?_
        have ec2 : (2 : Int32).toInt = 2 := by decide
        refine lv_iadd hx hb twrX_d144 ?_
        generalize hg_z144 : z142 + (2 : Int32) = z144
        have h_z144 : z144.toInt = z142.toInt + 2 := by rw [← hg_z144]; have := y_add (x := z142) (y := (2 : Int32)) (by rw [ec2]; omega) (by rw [ec2]; omega); rw [ec2] at this; exact this
        refine lv_iload_n hx hb twrX_d145 rfl (lv_at hl 2 rfl) ?_
        refine y_iast X hY0 hI hY_bk rfl hA_bk (by omega) (by show _ < (160 : Int); omega) (by rw [z_get3 (by omega)]; exact ⟨_, rfl, x_i32 _⟩) (by decide +kernel) twrX_d146 fun H locs hI h_new ho => ?_
        replace hA_bk := h_new
        generalize hf_f146 : y_up fz z144.toInt.toNat had = f146 at hA_bk
        replace hs_bk := y_slk hs_bk (ho _ (y_ne hY_this hY_bk rfl))
        refine lv_iload_n hx hb twrX_d147 rfl (lv_at hl 1 rfl) ?_
        have hfe : f146 = fb := by rw [← hf_f146, hfz, show z144.toInt.toNat = 12 + 5 * h.toInt.toNat by omega, y_up_up, ← hhad]; exact y_up_self
        rw [hfe] at hA_bk
        have hr9 : m_ltR fb h.toInt.toNat fo := by rcases hfo with h9 | h9; (exact Or.inl ⟨h9.1, fun u u1 u2 => h9.2 u u1 (by first | omega | exact absurd h9.1 (by assumption))⟩); exact Or.inr h9
        subst hav
        exact y_ireturn B hI rfl rfl rfl List.mem_cons_self ⟨_, rfl, ⟨_, rfl, x_i32 _⟩⟩ (x_cs.mono B.2.2.2.2.2 (y_mon B hI)) (fun t' b' w0' f' h1 h2 h3 h4 => by cases h1; cases h2.symm.trans hs0; cases z_uniq h4 hA0 h3 hcn; exact ⟨hA_bk, _, rfl, fun _ => hr9, fun q9 => absurd hok q9⟩) (Nat.le_refl _) (Nat.le_refl _) twrX_d148
      · have q34_ : fo.toInt = ((-1) : Int32).toInt := by rw [q34]
        refine lv_aload_n hx hb twrX_d37 rfl (lv_at hl 3 rfl) ?_
        refine y_getf X (fl190 X.2.2.2.2.1) hI.1 hY_this rfl hs_bk twrX_d38 ?_
        refine lv_bipush hx hb twrX_d41 (v := 10) (by decide) ?_
        have ec10 : (10 : Int32).toInt = 10 := by decide
        refine lv_iconst hx hb twrX_d43 (v := 5) (by decide) ?_
        have ec5 : (5 : Int32).toInt = 5 := by decide
        refine lv_iload_n hx hb twrX_d44 rfl (lv_at hl 4 rfl) ?_
        refine lv_imul hx hb twrX_d45 ?_
        generalize hg_z45 : (5 : Int32) * h = z45
        have h_z45 : z45.toInt = 5 * h.toInt := by rw [← hg_z45]; have := y_mul (x := (5 : Int32)) (y := h) (by rw [ec5]; omega) (by rw [ec5]; omega); rw [ec5] at this; exact this
        refine lv_iadd hx hb twrX_d46 ?_
        generalize hg_z46 : (10 : Int32) + z45 = z46
        have h_z46 : z46.toInt = 10 + z45.toInt := by rw [← hg_z46]; have := y_add (x := (10 : Int32)) (y := z45) (by rw [ec10]; omega) (by rw [ec10]; omega); rw [ec10] at this; exact this
        refine lv_iconst hx hb twrX_d47 (v := 2) (by decide) ?_
        have ec2 : (2 : Int32).toInt = 2 := by decide
        refine lv_iadd hx hb twrX_d48 ?_
        generalize hg_z48 : z46 + (2 : Int32) = z48
        have h_z48 : z48.toInt = z46.toInt + 2 := by rw [← hg_z48]; have := y_add (x := z46) (y := (2 : Int32)) (by rw [ec2]; omega) (by rw [ec2]; omega); rw [ec2] at this; exact this
        refine lv_iload hx hb twrX_d49 (lv_at hl 0 rfl) ?_
        refine y_iast X hY0 hI hY_bk rfl hA_bk (by omega) (by show _ < (160 : Int); omega) (by rw [z_get3 (by omega)]; exact ⟨_, rfl, x_i32 _⟩) (by decide +kernel) twrX_d51 fun H locs hI h_new ho => ?_
        replace hA_bk := h_new
        generalize hf_f51 : y_up fz z48.toInt.toNat ht = f51 at hA_bk
        replace hs_bk := y_slk hs_bk (ho _ (y_ne hY_this hY_bk rfl))
        refine lv_iconst hx hb twrX_d52 (v := 1) (by decide) ?_
        have ec1 : (1 : Int32).toInt = 1 := by decide
        refine lv_istore hx hb twrX_d53 hl (by decide) (lv' := [(5, .int (1 : Int32)), (4, .int ht), (3, .int fo), (2, .int had), (0, .ref this), (1, .int h)]) rfl fun ls hl => ?_
        refine lv_iconst hx hb twrX_d55 (v := 0) (by decide) ?_
        have ec0 : (0 : Int32).toInt = 0 := by decide
        refine lv_istore hx hb twrX_d56 hl (by decide) (lv' := [(6, .int (0 : Int32)), (5, .int (1 : Int32)), (4, .int ht), (3, .int fo), (2, .int had), (0, .ref this), (1, .int h)]) rfl fun ls hl => ?_
        have hfo1 : ∀ u : Int32, 0 ≤ u.toInt → u.toInt < ht.toInt → ¬ m_ok9 fb h.toInt.toNat (fb 0).toInt.toNat u := by rcases hfo with h9 | h9; exact h9.2; exfalso; omega
        have hf51 : f51 = y_up fb (12 + 5 * h.toInt.toNat) ht := by rw [← hf_f51, hfz, show z48.toInt.toNat = 12 + 5 * h.toInt.toNat by omega]; exact y_up_up
        have hcz : z_c f51 := by rw [hf51]; exact fun p hp => by rw [y_up_ne (by omega)]; exact hcn p hp
        exact twrX_L58 B hav hs0 hA0 hcn hd0 hok hh hhad ⟨by omega, by omega⟩ hf51 hcz hfo1 (fun H Y locs ls ht1 fo1 wv1 fz1 hI hY_this hY_bk hs_bk hA_bk hl hht hfz hfo hx1 => ih _ _ _ _ _ _ _ _ hI hY_this hY_bk hs_bk hA_bk hl hht hfz hfo (by omega)) 12 _ _ _ _ _ _ hI hY_this hY_bk hs_bk hA_bk (lv_sub hl [0, 1, 2, 3, 4, 5, 6] rfl) (by first | assumption | omega) (by rw [m_c1]; omega) (fun _ k hk => absurd hk (by rw [z_i0]; omega)) (fun q => absurd q (by decide)) (by omega)
theorem ym_towerM : y_Met vwCl x_G x_Zs x_Tb x_Nb xM203 y_T z_PMtow := by
  refine y_main (by decide +kernel) (by decide +kernel) x_Tb_good x_Nb_ok ?_
  intro p l e s m below meth c D U Y0 av ls B hI _ hl
  have X := B.1
  have hx := X.1
  have hb := X.2.1
  have hY0 := B.2.2.2.2.1
  obtain ⟨v0, v1, rfl, hv0, ⟨h, rfl, -⟩⟩ := x_two B.2.2.2.2.2
  obtain ⟨this, t0, rfl, ht0, hY_this⟩ := x_ref_at hv0 rfl
  obtain rfl := List.mem_singleton.mp ht0
  replace hl : lv_has ls xM203.2.2.1 [(0, .ref this), (1, .int h)] := hl
  obtain ⟨bk, hs_bk, hY_bk⟩ := y_fldR (k := 0) hI.1 hY_this rfl rfl
  obtain ⟨fb9, hA9, hB9⟩ := y_arr hI.1 hY_bk rfl rfl
  obtain ⟨fb, hcn, hA_bk, hB_bk⟩ := z_canon (Y := Y0) (P := fun j v => x_c Y0 ([xI 0 10, xI 0 8, xI 0 8].getD j xF) (.int v)) hA9 hB9
  clear hA9 hB9 fb9
  have hs0 := hs_bk
  have hA0 := hA_bk
  have hd := z_hdr hB_bk
  have hd0 := hd.1
  have hd1 := hd.2.1
  refine lv_aload_n hx hb twrX_d0 rfl (lv_at hl 0 rfl) ?_
  refine lv_iload_n hx hb twrX_d1 rfl (lv_at hl 1 rfl) ?_
  refine y_call (z := (0, 151, 2, some 17, xM171)) (av := [.ref this, .int h]) (rest := []) (y_cokV (n := 1) (ci := 12) X ym_isHillX rfl rfl rfl (x_cons (x_bw72 2 rfl rfl) (x_cons (x_bw72 4 rfl rfl) (x_cons (x_at 40 (by decide +kernel) rfl) (x_cons (x_bw0 9 rfl rfl) x_nilm)))) (x_bw72 5 rfl rfl) (by decide +kernel) ⟨Nat.le_of_ble_eq_true rfl, Nat.le_of_ble_eq_true rfl⟩) hY0 hI rfl twrX_d2 hl.1 (Nat.le_of_ble_eq_true rfl) (Nat.le_of_ble_eq_true rfl) (Nat.le_of_ble_eq_true rfl) (y_cons (y_cref hY_this rfl) (y_cons ⟨_, rfl, x_i32 _⟩ y_nil)) rfl (y_recv rfl hY_this) trivial (y_sub_ef rfl) fun v Yn o Hn L ho hr ha hIn hx_ hE hP => ?_
  have hPq := hP _ _ _ _ rfl hs_bk hcn hA_bk
  replace hs_bk := y_Efld hE hY_this rfl (by decide) (by decide) hs_bk
  replace hA_bk := hA_bk.kept (y_Earr hE hY_bk rfl (by decide))
  replace hY_this := y_ext hx_ hI.1 hY_this
  replace hY_bk := y_ext hx_ hI.1 hY_bk
  obtain ⟨r2, rfl, hin_r2, hout_r2⟩ := hPq
  clear ho hr ha hE hP hI hx_
  rename x_I _ _ _ _ _ _ _ _ _ _ => hI
  have ec0 : (0 : Int32).toInt = 0 := by decide
  refine lv_if_ne hx hb twrX_d5 (tgt := 13) (by decide) (fun q5 => ?_) (fun q5 => ?_)
  · have q5_ : ¬ r2.toInt = (0 : Int32).toInt := fun q => q5 (Int32.toInt_inj.mp q)
    have hok : m_isH fb h := hin_r2 (by assumption)
    have hw := hok
    unfold m_isH at hw
    refine lv_aload_n hx hb twrX_d13 rfl (lv_at hl 0 rfl) ?_
    refine lv_iload_n hx hb twrX_d14 rfl (lv_at hl 1 rfl) ?_
    refine lv_iconst hx hb twrX_d15 (v := 2) (by decide) ?_
    have ec2 : (2 : Int32).toInt = 2 := by decide
    refine y_call (z := (0, 99, 3, some 17, xM145)) (av := [.ref this, .int h, .int (2 : Int32)]) (rest := []) (y_cokV (n := 2) (ci := 12) X ym_ofHill rfl rfl rfl (x_cons (x_bw67 15 rfl rfl) (x_cons (x_bw68 1 rfl rfl) (x_cons (x_at 31 (by decide +kernel) rfl) (x_cons (x_bw0 9 rfl rfl) x_nilm)))) (x_bw68 2 rfl rfl) (by decide +kernel) ⟨Nat.le_of_ble_eq_true rfl, Nat.le_of_ble_eq_true rfl⟩) hY0 hI rfl twrX_d16 hl.1 (Nat.le_of_ble_eq_true rfl) (Nat.le_of_ble_eq_true rfl) (Nat.le_of_ble_eq_true rfl) (y_cons (y_cref hY_this rfl) (y_cons ⟨_, rfl, by show (0 : Int) ≤ _; omega, by show _ ≤ (9 : Int); omega⟩ (y_cons ⟨_, rfl, by show (0 : Int) ≤ _; omega, by show _ ≤ (4 : Int); omega⟩ y_nil))) rfl (y_recv rfl hY_this) trivial (y_sub_ef rfl) fun v Yn o Hn L ho hr ha hIn hx_ hE hP => ?_
    have hPo := hP _ _ _ _ _ rfl hs_bk hA_bk
    replace hs_bk := y_Efld hE hY_this rfl (by decide) (by decide) hs_bk
    replace hA_bk := hA_bk.kept (y_Earr hE hY_bk rfl (by decide))
    replace hY_this := y_ext hx_ hI.1 hY_this
    replace hY_bk := y_ext hx_ hI.1 hY_bk
    obtain ⟨r16, hg_r16⟩ : ∃ r16 : Int32, fb (10 + 5 * (h).toInt.toNat + ((2 : Int32)).toInt.toNat) = r16 := ⟨_, rfl⟩
    rw [hg_r16] at hPo
    obtain rfl := hPo
    clear ho hr ha hE hP hI hx_
    rename x_I _ _ _ _ _ _ _ _ _ _ => hI
    refine lv_istore_n hx hb twrX_d19 rfl hl (by decide) (lv' := [(2, .int r16), (0, .ref this), (1, .int h)]) rfl fun ls hl => ?_
    refine lv_iconst hx hb twrX_d20 (v := (-1)) (by decide) ?_
    have ecm1 : ((-1) : Int32).toInt = (-1) := by decide
    refine lv_istore_n hx hb twrX_d21 rfl hl (by decide) (lv' := [(3, .int ((-1) : Int32)), (2, .int r16), (0, .ref this), (1, .int h)]) rfl fun ls hl => ?_
    refine lv_iconst hx hb twrX_d22 (v := 0) (by decide) ?_
    refine lv_istore hx hb twrX_d23 hl (by decide) (lv' := [(4, .int (0 : Int32)), (3, .int ((-1) : Int32)), (2, .int r16), (0, .ref this), (1, .int h)]) rfl fun ls hl => ?_
    have hhad : fb (12 + 5 * h.toInt.toNat) = r16 := by rw [← hg_r16]; congr 1; rw [show (2 : Int32).toInt.toNat = 2 by decide]; omega
    exact twrX_L25 B rfl hs0 hA0 hcn hd0 hok (by omega) hhad 102 _ _ _ _ _ _ (fb (12 + 5 * h.toInt.toNat)) _ hI hY_this hY_bk hs_bk hA_bk (lv_sub hl [0, 1, 2, 3, 4] rfl) (by omega) y_up_self.symm (Or.inl ⟨rfl, fun u u1 u2 => absurd u2 (by omega)⟩) (by omega)
  · have q5_ : r2.toInt = (0 : Int32).toInt := by rw [q5]
    have hno : ¬ m_isH fb h := hout_r2 (by assumption)
    refine lv_aload_n hx hb twrX_d8 rfl (lv_at hl 0 rfl) ?_
    refine y_call (z := (0, 102, 1, some 17, xM143)) (av := [.ref this]) (rest := []) (y_cokV (n := 0) (ci := 12) X ym_bad rfl rfl rfl (x_cons (x_bw68 3 rfl rfl) (x_cons (x_bw68 5 rfl rfl) (x_cons (x_at 32 (by decide +kernel) rfl) (x_cons (x_bw0 9 rfl rfl) x_nilm)))) (x_bw68 6 rfl rfl) (by decide +kernel) ⟨Nat.le_of_ble_eq_true rfl, Nat.le_of_ble_eq_true rfl⟩) hY0 hI rfl twrX_d9 hl.1 (Nat.le_of_ble_eq_true rfl) (Nat.le_of_ble_eq_true rfl) (Nat.le_of_ble_eq_true rfl) (y_cons (y_cref hY_this rfl) y_nil) rfl (y_recv rfl hY_this) trivial (y_sub_ef rfl) fun v Yn o Hn L ho hr ha hIn hx_ hE hP => ?_
    replace hs_bk := y_Efld hE hY_this rfl (by decide) (by decide) hs_bk
    replace hA_bk := hA_bk.kept (y_Earr hE hY_bk rfl (by decide))
    replace hY_this := y_ext hx_ hI.1 hY_this
    replace hY_bk := y_ext hx_ hI.1 hY_bk
    have hPb := hP
    obtain rfl := hPb
    clear ho hr ha hE hP hI hx_
    rename x_I _ _ _ _ _ _ _ _ _ _ => hI
    exact y_ireturn B hI rfl rfl rfl List.mem_cons_self ⟨_, rfl, ⟨_, rfl, x_i32 _⟩⟩ (x_cs.mono B.2.2.2.2.2 (y_mon B hI)) (fun t' b' w0' f' h1 h2 h3 h4 => by cases h1; cases h2.symm.trans hs0; cases z_uniq h4 hA0 h3 hcn; exact ⟨hA_bk, _, rfl, fun q9 => absurd q9 hno, fun _ => rfl⟩) (Nat.le_refl _) (Nat.le_refl _) twrX_d12

