theorem fl_by_209 {s : State} {args : Array Value} (hts : ∀ w ∈ x_Tb, w.before args s = true) : x_fok vwCl x_G x_Tb s args "TwinFiresModel" (56, 17, 24) := ⟨12, _, RX12, TX12, "TwinFiresModel", rfl, rfl, Nat.le_of_ble_eq_true rfl, iX12, (hts _ (x_bw63 11 rfl rfl)), fun x h => h⟩
def z_lc (N : Int) (gg : Nat → Int32) (e : Int) (to : Int32) (h : Int) (s : Int32) : Prop := (h = e ∧ s = to) ∨ (h < e ∧ ∃ b : Int32, 0 ≤ b.toInt ∧ b.toInt ≤ N ∧ ¬ gg (1024 * (h + 1) + b.toInt).toNat = 0 ∧ (b = s ∨ z_step s b))
def z_lq (N : Int) (ff gg : Nat → Int32) (e : Int) (to : Int32) (h : Int) (s : Int32) : Prop := ¬ gg (1024 * h + s.toInt).toNat = 0 → ¬ ff (1024 * h + s.toInt).toNat = 0 ∧ z_lc N gg e to h s
def z_lall (N : Int) (ff gg : Nat → Int32) (e : Int) (to : Int32) (h : Int) : Prop := (∀ (h' : Int) (s : Int32), h < h' → h' ≤ e → 0 ≤ s.toInt → s.toInt ≤ N → z_lq N ff gg e to h' s) ∧ (h < e → ∃ s : Int32, 0 ≤ s.toInt ∧ s.toInt ≤ N ∧ ¬ gg (1024 * (h + 1) + s.toInt).toNat = 0)
def z_lrow (N : Int) (ff gg : Nat → Int32) (e : Int) (to : Int32) (h k : Int) : Prop := ∀ s : Int32, 0 ≤ s.toInt → s.toInt < k → s.toInt ≤ N → z_lq N ff gg e to h s ∧ (¬ ff (1024 * h + s.toInt).toNat = 0 → z_lc N gg e to h s → ¬ gg (1024 * h + s.toInt).toNat = 0)
theorem z_lc.up {N : Int} {gg : Nat → Int32} {e h0 h : Int} {to s i v : Int32} (h00 : 0 ≤ h0) (hi : i.toInt < 1024 * (h + 1)) (hh : h ≤ h0) : z_lc N (y_up gg i.toInt.toNat v) e to h0 s ↔ z_lc N gg e to h0 s := by
  constructor
  · rintro (h | ⟨h1, a, h2, h3, h4, h5⟩)
    · exact .inl h
    · exact .inr ⟨h1, a, h2, h3, by rw [y_up_ne (by omega)] at h4; exact h4, h5⟩
  · rintro (h | ⟨h1, a, h2, h3, h4, h5⟩)
    · exact .inl h
    · exact .inr ⟨h1, a, h2, h3, by rw [y_up_ne (by omega)]; exact h4, h5⟩
theorem z_lall.store {N : Int} {ff gg : Nat → Int32} {e h : Int} {to s i v : Int32} (hN : N ≤ 1023) (H : z_lall N ff gg e to h) (h0 : 0 ≤ h) (s0 : 0 ≤ s.toInt) (s1 : s.toInt ≤ N) (hi : i.toInt = 1024 * h + s.toInt) : z_lall N ff (y_up gg i.toInt.toNat v) e to h := by
  refine ⟨fun h' t a1 a2 a3 a4 q => ?_, fun a1 => ?_⟩
  · rw [y_up_ne (by omega)] at q
    have := H.1 h' t a1 a2 a3 a4 q
    exact ⟨this.1, (z_lc.up (h := h) (by omega) (by omega) (by omega)).mpr this.2⟩
  · obtain ⟨t, a2, a3, a4⟩ := H.2 a1
    exact ⟨t, a2, a3, by rw [y_up_ne (by omega)]; exact a4⟩
theorem z_lrow.store {N : Int} {ff gg : Nat → Int32} {e h k : Int} {to s i v : Int32} (hN : N ≤ 1023) (H : z_lrow N ff gg e to h s.toInt) (h0 : 0 ≤ h) (s0 : 0 ≤ s.toInt) (s1 : s.toInt ≤ N) (hi : i.toInt = 1024 * h + s.toInt) (hv : ¬ v = 0 → ¬ ff (1024 * h + s.toInt).toNat = 0 ∧ z_lc N gg e to h s) (hw : v = 0 → ¬ ff (1024 * h + s.toInt).toNat = 0 → ¬ z_lc N gg e to h s) (hk : k = s.toInt + 1) : z_lrow N ff (y_up gg i.toInt.toNat v) e to h k := by
  intro t a1 a2 a3
  by_cases e0 : t = s
  · subst e0
    refine ⟨fun q => ?_, fun q1 q2 => ?_⟩
    · rw [show (1024 * h + t.toInt).toNat = i.toInt.toNat by omega, y_up_at] at q
      exact ⟨(hv q).1, (z_lc.up (h := h) (by omega) (by omega) (by omega)).mpr (hv q).2⟩
    · rw [show (1024 * h + t.toInt).toNat = i.toInt.toNat by omega, y_up_at]
      intro q
      exact hw q q1 ((z_lc.up (h := h) (by omega) (by omega) (by omega)).mp q2)
  · have e1 : ¬ t.toInt = s.toInt := fun e => e0 (Int32.toInt_inj.mp e)
    have := H t a1 (by omega) a3
    refine ⟨fun q => ?_, fun q1 q2 => ?_⟩
    · rw [y_up_ne (by omega)] at q
      exact ⟨(this.1 q).1, (z_lc.up (h := h) (by omega) (by omega) (by omega)).mpr (this.1 q).2⟩
    · rw [y_up_ne (by omega)]
      exact this.2 q1 ((z_lc.up (h := h) (by omega) (by omega) (by omega)).mp q2)
theorem z_lall.next {N : Int} {ff gg : Nat → Int32} {e h h1 k : Int} {to fm : Int32} (H : z_lall N ff gg e to h) (R : z_lrow N ff gg e to h k) (hk : N < k) (h0 : 0 ≤ h) (he : h ≤ e) (he2 : e ≤ 11) (hM : z_mall N ff fm 12 0) (ht0 : 0 ≤ to.toInt) (ht : to.toInt ≤ N) (hf : ¬ ff (1024 * e + to.toInt).toNat = 0) (hh : h1 = h - 1) : z_lall N ff gg e to h1 := by
  subst hh
  refine ⟨fun h' t a1 a2 a3 a4 => ?_, fun _ => ?_⟩
  · by_cases e0 : h' = h
    · rw [e0]; exact (R t a3 (by omega) a4).1
    · exact H.1 h' t (by omega) a2 a3 a4
  · rw [show h - 1 + 1 = h by omega]
    by_cases e0 : h = e
    · rw [e0] at R ⊢
      exact ⟨to, ht0, ht, (R to ht0 (by omega) ht).2 hf (.inl ⟨rfl, rfl⟩)⟩
    · obtain ⟨b, b0, b1, b2⟩ := H.2 (by omega)
      have q := H.1 (h + 1) b (by omega) (by omega) b0 b1 b2
      have q2 := hM.1 (h + 1) b (by omega) (by omega) b0 b1 q.1
      rcases q2 with ⟨q3, -⟩ | ⟨-, a, a0, a1, a2, a3⟩
      · omega
      · rw [show h + 1 - 1 = h by omega] at a2
        refine ⟨a, a0, a1, (R a a0 (by omega) a1).2 a2 (.inr ⟨by omega, b, b0, b1, b2, ?_⟩)⟩
        rcases a3 with a3 | a3
        · exact .inl a3.symm
        · exact .inr a3
theorem z_lall.first {N : Int} {ff gg : Nat → Int32} {e h : Int} {to fm : Int32} (H : z_lall N ff gg e to h) (h0 : h = -1) (he : 0 ≤ e) (he2 : e ≤ 11) (hM : z_mall N ff fm 12 0) (f0 : 0 ≤ fm.toInt) (f1 : fm.toInt ≤ N) : ¬ gg (1024 * 0 + fm.toInt).toNat = 0 := by
  subst h0
  obtain ⟨b, b0, b1, b2⟩ := H.2 (by omega)
  have q := H.1 0 b (by omega) he b0 b1 (by simpa using b2)
  rcases hM.1 0 b (by omega) (by omega) b0 b1 q.1 with ⟨-, q3⟩ | ⟨q3, -⟩
  · rw [← q3]; simpa using b2
  · omega
theorem z_lall.on {N : Int} {ff gg : Nat → Int32} {e h : Int} {to s : Int32} (H : z_lall N ff gg e to (-1)) (h0 : 1 ≤ h) (he : h ≤ e) (s0 : 0 ≤ s.toInt) (s1 : s.toInt ≤ N) (hg : ¬ gg (1024 * (h - 1) + s.toInt).toNat = 0) : ∃ b : Int32, 0 ≤ b.toInt ∧ b.toInt ≤ N ∧ ¬ gg (1024 * h + b.toInt).toNat = 0 ∧ (b = s ∨ z_step s b) := by
  rcases (H.1 (h - 1) s (by omega) (by omega) s0 s1 hg).2 with ⟨q, -⟩ | ⟨-, b, b0, b1, b2, b3⟩
  · omega
  · exact ⟨b, b0, b1, by rw [show h - 1 + 1 = h by omega] at b2; exact b2, b3⟩
def xMby : xM := (⟨"TwinFiresModel", "byMists", "(III)I"⟩, prog_14_method_62_code, 9, some .int, [xR false [17], xF, xF, xF], [([xR false [17], xF, xF, xF], some (xF))], [(50, 0), (51, 0), (59, 0), (60, 0), (61, 0)], (5, 131, 0, 0), none)
theorem by_d0 : decode xMby.2.1 0 = .ok (.aload_n 0, 1) := dz_ok (by decide +kernel)
theorem by_d1 : decode xMby.2.1 1 = .ok (.iload_n 1, 1) := dz_ok (by decide +kernel)
theorem by_d2 : decode xMby.2.1 2 = .ok (.invokevirtual 237, 3) := dz_ok (by decide +kernel)
theorem by_d5 : decode xMby.2.1 5 = .ok (.ifCond .eq 16, 3) := dz_ok (by decide +kernel)
theorem by_d8 : decode xMby.2.1 8 = .ok (.aload_n 0, 1) := dz_ok (by decide +kernel)
theorem by_d9 : decode xMby.2.1 9 = .ok (.iload_n 2, 1) := dz_ok (by decide +kernel)
theorem by_d10 : decode xMby.2.1 10 = .ok (.invokevirtual 237, 3) := dz_ok (by decide +kernel)
theorem by_d13 : decode xMby.2.1 13 = .ok (.ifCond .eq 8, 3) := dz_ok (by decide +kernel)
theorem by_d16 : decode xMby.2.1 16 = .ok (.iload_n 3, 1) := dz_ok (by decide +kernel)
theorem by_d17 : decode xMby.2.1 17 = .ok (.iconst (-1), 1) := dz_ok (by decide +kernel)
theorem by_d18 : decode xMby.2.1 18 = .ok (.if_icmp .ge 11, 3) := dz_ok (by decide +kernel)
theorem by_d21 : decode xMby.2.1 21 = .ok (.aload_n 0, 1) := dz_ok (by decide +kernel)
theorem by_d22 : decode xMby.2.1 22 = .ok (.iconst 0, 1) := dz_ok (by decide +kernel)
theorem by_d23 : decode xMby.2.1 23 = .ok (.bipush (-10), 2) := dz_ok (by decide +kernel)
theorem by_d25 : decode xMby.2.1 25 = .ok (.invokevirtual 76, 3) := dz_ok (by decide +kernel)
theorem by_d28 : decode xMby.2.1 28 = .ok (.ireturn, 1) := dz_ok (by decide +kernel)
theorem by_d29 : decode xMby.2.1 29 = .ok (.aload_n 0, 1) := dz_ok (by decide +kernel)
theorem by_d30 : decode xMby.2.1 30 = .ok (.iload_n 1, 1) := dz_ok (by decide +kernel)
theorem by_d31 : decode xMby.2.1 31 = .ok (.invokevirtual 269, 3) := dz_ok (by decide +kernel)
theorem by_d34 : decode xMby.2.1 34 = .ok (.aload_n 0, 1) := dz_ok (by decide +kernel)
theorem by_d35 : decode xMby.2.1 35 = .ok (.getfield 50, 3) := dz_ok (by decide +kernel)
theorem by_d38 : decode xMby.2.1 38 = .ok (.iload_n 1, 1) := dz_ok (by decide +kernel)
theorem by_d39 : decode xMby.2.1 39 = .ok (.baload, 1) := dz_ok (by decide +kernel)
theorem by_d40 : decode xMby.2.1 40 = .ok (.ifCond .ne 11, 3) := dz_ok (by decide +kernel)
theorem by_d43 : decode xMby.2.1 43 = .ok (.aload_n 0, 1) := dz_ok (by decide +kernel)
theorem by_d44 : decode xMby.2.1 44 = .ok (.iconst 1, 1) := dz_ok (by decide +kernel)
theorem by_d45 : decode xMby.2.1 45 = .ok (.bipush (-20), 2) := dz_ok (by decide +kernel)
theorem by_d47 : decode xMby.2.1 47 = .ok (.invokevirtual 76, 3) := dz_ok (by decide +kernel)
theorem by_d50 : decode xMby.2.1 50 = .ok (.ireturn, 1) := dz_ok (by decide +kernel)
theorem by_d51 : decode xMby.2.1 51 = .ok (.iconst 0, 1) := dz_ok (by decide +kernel)
theorem by_d52 : decode xMby.2.1 52 = .ok (.istore 4, 2) := dz_ok (by decide +kernel)
theorem by_d54 : decode xMby.2.1 54 = .ok (.iload 4, 2) := dz_ok (by decide +kernel)
theorem by_d56 : decode xMby.2.1 56 = .ok (.bipush 12, 2) := dz_ok (by decide +kernel)
theorem by_d58 : decode xMby.2.1 58 = .ok (.if_icmp .ge 36, 3) := dz_ok (by decide +kernel)
theorem by_d61 : decode xMby.2.1 61 = .ok (.aload_n 0, 1) := dz_ok (by decide +kernel)
theorem by_d62 : decode xMby.2.1 62 = .ok (.getfield 53, 3) := dz_ok (by decide +kernel)
theorem by_d65 : decode xMby.2.1 65 = .ok (.sipush 1024, 3) := dz_ok (by decide +kernel)
theorem by_d68 : decode xMby.2.1 68 = .ok (.iload 4, 2) := dz_ok (by decide +kernel)
theorem by_d70 : decode xMby.2.1 70 = .ok (.bipush 12, 2) := dz_ok (by decide +kernel)
theorem by_d72 : decode xMby.2.1 72 = .ok (.if_icmp .ge 8, 3) := dz_ok (by decide +kernel)
theorem by_d75 : decode xMby.2.1 75 = .ok (.iload 4, 2) := dz_ok (by decide +kernel)
theorem by_d77 : decode xMby.2.1 77 = .ok (.goto 4, 3) := dz_ok (by decide +kernel)
theorem by_d80 : decode xMby.2.1 80 = .ok (.iconst 0, 1) := dz_ok (by decide +kernel)
theorem by_d81 : decode xMby.2.1 81 = .ok (.imul, 1) := dz_ok (by decide +kernel)
theorem by_d82 : decode xMby.2.1 82 = .ok (.iload_n 2, 1) := dz_ok (by decide +kernel)
theorem by_d83 : decode xMby.2.1 83 = .ok (.iadd, 1) := dz_ok (by decide +kernel)
theorem by_d84 : decode xMby.2.1 84 = .ok (.baload, 1) := dz_ok (by decide +kernel)
theorem by_d85 : decode xMby.2.1 85 = .ok (.ifCond .ne 9, 3) := dz_ok (by decide +kernel)
theorem by_d88 : decode xMby.2.1 88 = .ok (.iinc 4 1, 3) := dz_ok (by decide +kernel)
theorem by_d91 : decode xMby.2.1 91 = .ok (.goto (-37), 3) := dz_ok (by decide +kernel)
theorem by_d94 : decode xMby.2.1 94 = .ok (.iload 4, 2) := dz_ok (by decide +kernel)
theorem by_d96 : decode xMby.2.1 96 = .ok (.bipush 12, 2) := dz_ok (by decide +kernel)
theorem by_d98 : decode xMby.2.1 98 = .ok (.if_icmp .ne 6, 3) := dz_ok (by decide +kernel)
theorem by_d101 : decode xMby.2.1 101 = .ok (.bipush (-6), 2) := dz_ok (by decide +kernel)
theorem by_d103 : decode xMby.2.1 103 = .ok (.ireturn, 1) := dz_ok (by decide +kernel)
theorem by_d104 : decode xMby.2.1 104 = .ok (.iload_n 3, 1) := dz_ok (by decide +kernel)
theorem by_d105 : decode xMby.2.1 105 = .ok (.iconst (-1), 1) := dz_ok (by decide +kernel)
theorem by_d106 : decode xMby.2.1 106 = .ok (.if_icmp .eq 9, 3) := dz_ok (by decide +kernel)
theorem by_d109 : decode xMby.2.1 109 = .ok (.iload_n 3, 1) := dz_ok (by decide +kernel)
theorem by_d110 : decode xMby.2.1 110 = .ok (.iload 4, 2) := dz_ok (by decide +kernel)
theorem by_d112 : decode xMby.2.1 112 = .ok (.if_icmp .le 16, 3) := dz_ok (by decide +kernel)
theorem by_d115 : decode xMby.2.1 115 = .ok (.iload_n 3, 1) := dz_ok (by decide +kernel)
theorem by_d116 : decode xMby.2.1 116 = .ok (.iconst (-1), 1) := dz_ok (by decide +kernel)
theorem by_d117 : decode xMby.2.1 117 = .ok (.if_icmp .ne 8, 3) := dz_ok (by decide +kernel)
theorem by_d120 : decode xMby.2.1 120 = .ok (.iload 4, 2) := dz_ok (by decide +kernel)
theorem by_d122 : decode xMby.2.1 122 = .ok (.goto 5, 3) := dz_ok (by decide +kernel)
theorem by_d125 : decode xMby.2.1 125 = .ok (.bipush (-5), 2) := dz_ok (by decide +kernel)
theorem by_d127 : decode xMby.2.1 127 = .ok (.ireturn, 1) := dz_ok (by decide +kernel)
theorem by_d128 : decode xMby.2.1 128 = .ok (.iload 4, 2) := dz_ok (by decide +kernel)
theorem by_d130 : decode xMby.2.1 130 = .ok (.istore 5, 2) := dz_ok (by decide +kernel)
theorem by_d132 : decode xMby.2.1 132 = .ok (.iload 5, 2) := dz_ok (by decide +kernel)
theorem by_d134 : decode xMby.2.1 134 = .ok (.ifCond .lt 178, 3) := dz_ok (by decide +kernel)
theorem by_d137 : decode xMby.2.1 137 = .ok (.iconst 0, 1) := dz_ok (by decide +kernel)
theorem by_d138 : decode xMby.2.1 138 = .ok (.istore 6, 2) := dz_ok (by decide +kernel)
theorem by_d140 : decode xMby.2.1 140 = .ok (.iload 6, 2) := dz_ok (by decide +kernel)
theorem by_d142 : decode xMby.2.1 142 = .ok (.aload_n 0, 1) := dz_ok (by decide +kernel)
theorem by_d143 : decode xMby.2.1 143 = .ok (.invokevirtual 91, 3) := dz_ok (by decide +kernel)
theorem by_d146 : decode xMby.2.1 146 = .ok (.if_icmp .gt 160, 3) := dz_ok (by decide +kernel)
theorem by_d149 : decode xMby.2.1 149 = .ok (.iload 5, 2) := dz_ok (by decide +kernel)
theorem by_d151 : decode xMby.2.1 151 = .ok (.iload 4, 2) := dz_ok (by decide +kernel)
theorem by_d153 : decode xMby.2.1 153 = .ok (.if_icmp .ne 13, 3) := dz_ok (by decide +kernel)
theorem by_d156 : decode xMby.2.1 156 = .ok (.iload 6, 2) := dz_ok (by decide +kernel)
theorem by_d158 : decode xMby.2.1 158 = .ok (.iload_n 2, 1) := dz_ok (by decide +kernel)
theorem by_d159 : decode xMby.2.1 159 = .ok (.if_icmp .ne 7, 3) := dz_ok (by decide +kernel)
theorem by_d162 : decode xMby.2.1 162 = .ok (.iconst 1, 1) := dz_ok (by decide +kernel)
theorem by_d163 : decode xMby.2.1 163 = .ok (.goto 4, 3) := dz_ok (by decide +kernel)
theorem by_d166 : decode xMby.2.1 166 = .ok (.iconst 0, 1) := dz_ok (by decide +kernel)
theorem by_d167 : decode xMby.2.1 167 = .ok (.istore 7, 2) := dz_ok (by decide +kernel)
theorem by_d169 : decode xMby.2.1 169 = .ok (.iconst 0, 1) := dz_ok (by decide +kernel)
theorem by_d170 : decode xMby.2.1 170 = .ok (.istore 8, 2) := dz_ok (by decide +kernel)
theorem by_d172 : decode xMby.2.1 172 = .ok (.iload 8, 2) := dz_ok (by decide +kernel)
theorem by_d174 : decode xMby.2.1 174 = .ok (.aload_n 0, 1) := dz_ok (by decide +kernel)
theorem by_d175 : decode xMby.2.1 175 = .ok (.invokevirtual 91, 3) := dz_ok (by decide +kernel)
theorem by_d178 : decode xMby.2.1 178 = .ok (.if_icmp .gt 81, 3) := dz_ok (by decide +kernel)
theorem by_d181 : decode xMby.2.1 181 = .ok (.iload 5, 2) := dz_ok (by decide +kernel)
theorem by_d183 : decode xMby.2.1 183 = .ok (.iload 4, 2) := dz_ok (by decide +kernel)
theorem by_d185 : decode xMby.2.1 185 = .ok (.if_icmp .ge 74, 3) := dz_ok (by decide +kernel)
theorem by_d188 : decode xMby.2.1 188 = .ok (.iload 7, 2) := dz_ok (by decide +kernel)
theorem by_d190 : decode xMby.2.1 190 = .ok (.ifCond .ne 69, 3) := dz_ok (by decide +kernel)
theorem by_d193 : decode xMby.2.1 193 = .ok (.aload_n 0, 1) := dz_ok (by decide +kernel)
theorem by_d194 : decode xMby.2.1 194 = .ok (.getfield 53, 3) := dz_ok (by decide +kernel)
theorem by_d197 : decode xMby.2.1 197 = .ok (.sipush 1024, 3) := dz_ok (by decide +kernel)
theorem by_d200 : decode xMby.2.1 200 = .ok (.iload 5, 2) := dz_ok (by decide +kernel)
theorem by_d202 : decode xMby.2.1 202 = .ok (.imul, 1) := dz_ok (by decide +kernel)
theorem by_d203 : decode xMby.2.1 203 = .ok (.iload 6, 2) := dz_ok (by decide +kernel)
theorem by_d205 : decode xMby.2.1 205 = .ok (.iadd, 1) := dz_ok (by decide +kernel)
theorem by_d206 : decode xMby.2.1 206 = .ok (.baload, 1) := dz_ok (by decide +kernel)
theorem by_d207 : decode xMby.2.1 207 = .ok (.ifCond .eq 52, 3) := dz_ok (by decide +kernel)
theorem by_d210 : decode xMby.2.1 210 = .ok (.aload_n 0, 1) := dz_ok (by decide +kernel)
theorem by_d211 : decode xMby.2.1 211 = .ok (.getfield 56, 3) := dz_ok (by decide +kernel)
theorem by_d214 : decode xMby.2.1 214 = .ok (.sipush 1024, 3) := dz_ok (by decide +kernel)
theorem by_d217 : decode xMby.2.1 217 = .ok (.iload 5, 2) := dz_ok (by decide +kernel)
theorem by_d219 : decode xMby.2.1 219 = .ok (.iconst 1, 1) := dz_ok (by decide +kernel)
theorem by_d220 : decode xMby.2.1 220 = .ok (.iadd, 1) := dz_ok (by decide +kernel)
theorem by_d221 : decode xMby.2.1 221 = .ok (.imul, 1) := dz_ok (by decide +kernel)
theorem by_d222 : decode xMby.2.1 222 = .ok (.iload 8, 2) := dz_ok (by decide +kernel)
theorem by_d224 : decode xMby.2.1 224 = .ok (.iadd, 1) := dz_ok (by decide +kernel)
theorem by_d225 : decode xMby.2.1 225 = .ok (.baload, 1) := dz_ok (by decide +kernel)
theorem by_d226 : decode xMby.2.1 226 = .ok (.ifCond .eq 24, 3) := dz_ok (by decide +kernel)
theorem by_d229 : decode xMby.2.1 229 = .ok (.iload 8, 2) := dz_ok (by decide +kernel)
theorem by_d231 : decode xMby.2.1 231 = .ok (.iload 6, 2) := dz_ok (by decide +kernel)
theorem by_d233 : decode xMby.2.1 233 = .ok (.if_icmp .eq 13, 3) := dz_ok (by decide +kernel)
theorem by_d236 : decode xMby.2.1 236 = .ok (.iload 6, 2) := dz_ok (by decide +kernel)
theorem by_d238 : decode xMby.2.1 238 = .ok (.iload 8, 2) := dz_ok (by decide +kernel)
theorem by_d240 : decode xMby.2.1 240 = .ok (.invokestatic 257, 3) := dz_ok (by decide +kernel)
theorem by_d243 : decode xMby.2.1 243 = .ok (.ifCond .eq 7, 3) := dz_ok (by decide +kernel)
theorem by_d246 : decode xMby.2.1 246 = .ok (.iconst 1, 1) := dz_ok (by decide +kernel)
theorem by_d247 : decode xMby.2.1 247 = .ok (.goto 4, 3) := dz_ok (by decide +kernel)
theorem by_d250 : decode xMby.2.1 250 = .ok (.iconst 0, 1) := dz_ok (by decide +kernel)
theorem by_d251 : decode xMby.2.1 251 = .ok (.istore 7, 2) := dz_ok (by decide +kernel)
theorem by_d253 : decode xMby.2.1 253 = .ok (.iinc 8 1, 3) := dz_ok (by decide +kernel)
theorem by_d256 : decode xMby.2.1 256 = .ok (.goto (-84), 3) := dz_ok (by decide +kernel)
theorem by_d259 : decode xMby.2.1 259 = .ok (.aload_n 0, 1) := dz_ok (by decide +kernel)
theorem by_d260 : decode xMby.2.1 260 = .ok (.getfield 56, 3) := dz_ok (by decide +kernel)
theorem by_d263 : decode xMby.2.1 263 = .ok (.sipush 1024, 3) := dz_ok (by decide +kernel)
theorem by_d266 : decode xMby.2.1 266 = .ok (.iload 5, 2) := dz_ok (by decide +kernel)
theorem by_d268 : decode xMby.2.1 268 = .ok (.imul, 1) := dz_ok (by decide +kernel)
theorem by_d269 : decode xMby.2.1 269 = .ok (.iload 6, 2) := dz_ok (by decide +kernel)
theorem by_d271 : decode xMby.2.1 271 = .ok (.iadd, 1) := dz_ok (by decide +kernel)
theorem by_d272 : decode xMby.2.1 272 = .ok (.iload 7, 2) := dz_ok (by decide +kernel)
theorem by_d274 : decode xMby.2.1 274 = .ok (.ifCond .eq 24, 3) := dz_ok (by decide +kernel)
theorem by_d277 : decode xMby.2.1 277 = .ok (.aload_n 0, 1) := dz_ok (by decide +kernel)
theorem by_d278 : decode xMby.2.1 278 = .ok (.getfield 53, 3) := dz_ok (by decide +kernel)
theorem by_d281 : decode xMby.2.1 281 = .ok (.sipush 1024, 3) := dz_ok (by decide +kernel)
theorem by_d284 : decode xMby.2.1 284 = .ok (.iload 5, 2) := dz_ok (by decide +kernel)
theorem by_d286 : decode xMby.2.1 286 = .ok (.imul, 1) := dz_ok (by decide +kernel)
theorem by_d287 : decode xMby.2.1 287 = .ok (.iload 6, 2) := dz_ok (by decide +kernel)
theorem by_d289 : decode xMby.2.1 289 = .ok (.iadd, 1) := dz_ok (by decide +kernel)
theorem by_d290 : decode xMby.2.1 290 = .ok (.baload, 1) := dz_ok (by decide +kernel)
theorem by_d291 : decode xMby.2.1 291 = .ok (.ifCond .eq 7, 3) := dz_ok (by decide +kernel)
theorem by_d294 : decode xMby.2.1 294 = .ok (.iconst 1, 1) := dz_ok (by decide +kernel)
theorem by_d295 : decode xMby.2.1 295 = .ok (.goto 4, 3) := dz_ok (by decide +kernel)
theorem by_d298 : decode xMby.2.1 298 = .ok (.iconst 0, 1) := dz_ok (by decide +kernel)
theorem by_d299 : decode xMby.2.1 299 = .ok (.bastore, 1) := dz_ok (by decide +kernel)
theorem by_d300 : decode xMby.2.1 300 = .ok (.iinc 6 1, 3) := dz_ok (by decide +kernel)
theorem by_d303 : decode xMby.2.1 303 = .ok (.goto (-163), 3) := dz_ok (by decide +kernel)
theorem by_d306 : decode xMby.2.1 306 = .ok (.iinc 5 (-1), 3) := dz_ok (by decide +kernel)
theorem by_d309 : decode xMby.2.1 309 = .ok (.goto (-177), 3) := dz_ok (by decide +kernel)
theorem by_d312 : decode xMby.2.1 312 = .ok (.iload_n 1, 1) := dz_ok (by decide +kernel)
theorem by_d313 : decode xMby.2.1 313 = .ok (.istore 5, 2) := dz_ok (by decide +kernel)
theorem by_d315 : decode xMby.2.1 315 = .ok (.iconst 1, 1) := dz_ok (by decide +kernel)
theorem by_d316 : decode xMby.2.1 316 = .ok (.istore 6, 2) := dz_ok (by decide +kernel)
theorem by_d318 : decode xMby.2.1 318 = .ok (.iload 6, 2) := dz_ok (by decide +kernel)
theorem by_d320 : decode xMby.2.1 320 = .ok (.iload_n 3, 1) := dz_ok (by decide +kernel)
theorem by_d321 : decode xMby.2.1 321 = .ok (.if_icmp .gt 56, 3) := dz_ok (by decide +kernel)
theorem by_d324 : decode xMby.2.1 324 = .ok (.iconst 0, 1) := dz_ok (by decide +kernel)
theorem by_d325 : decode xMby.2.1 325 = .ok (.istore 7, 2) := dz_ok (by decide +kernel)
theorem by_d327 : decode xMby.2.1 327 = .ok (.aload_n 0, 1) := dz_ok (by decide +kernel)
theorem by_d328 : decode xMby.2.1 328 = .ok (.getfield 56, 3) := dz_ok (by decide +kernel)
theorem by_d331 : decode xMby.2.1 331 = .ok (.sipush 1024, 3) := dz_ok (by decide +kernel)
theorem by_d334 : decode xMby.2.1 334 = .ok (.iload 6, 2) := dz_ok (by decide +kernel)
theorem by_d336 : decode xMby.2.1 336 = .ok (.imul, 1) := dz_ok (by decide +kernel)
theorem by_d337 : decode xMby.2.1 337 = .ok (.iload 7, 2) := dz_ok (by decide +kernel)
theorem by_d339 : decode xMby.2.1 339 = .ok (.iadd, 1) := dz_ok (by decide +kernel)
theorem by_d340 : decode xMby.2.1 340 = .ok (.baload, 1) := dz_ok (by decide +kernel)
theorem by_d341 : decode xMby.2.1 341 = .ok (.ifCond .eq 20, 3) := dz_ok (by decide +kernel)
theorem by_d344 : decode xMby.2.1 344 = .ok (.iload 7, 2) := dz_ok (by decide +kernel)
theorem by_d346 : decode xMby.2.1 346 = .ok (.iload 5, 2) := dz_ok (by decide +kernel)
theorem by_d348 : decode xMby.2.1 348 = .ok (.if_icmp .eq 19, 3) := dz_ok (by decide +kernel)
theorem by_d351 : decode xMby.2.1 351 = .ok (.iload 5, 2) := dz_ok (by decide +kernel)
theorem by_d353 : decode xMby.2.1 353 = .ok (.iload 7, 2) := dz_ok (by decide +kernel)
theorem by_d355 : decode xMby.2.1 355 = .ok (.invokestatic 257, 3) := dz_ok (by decide +kernel)
theorem by_d358 : decode xMby.2.1 358 = .ok (.ifCond .ne 9, 3) := dz_ok (by decide +kernel)
theorem by_d361 : decode xMby.2.1 361 = .ok (.iinc 7 1, 3) := dz_ok (by decide +kernel)
theorem by_d364 : decode xMby.2.1 364 = .ok (.goto (-37), 3) := dz_ok (by decide +kernel)
theorem by_d367 : decode xMby.2.1 367 = .ok (.iload 7, 2) := dz_ok (by decide +kernel)
theorem by_d369 : decode xMby.2.1 369 = .ok (.istore 5, 2) := dz_ok (by decide +kernel)
theorem by_d371 : decode xMby.2.1 371 = .ok (.iinc 6 1, 3) := dz_ok (by decide +kernel)
theorem by_d374 : decode xMby.2.1 374 = .ok (.goto (-56), 3) := dz_ok (by decide +kernel)
theorem by_d377 : decode xMby.2.1 377 = .ok (.iload 5, 2) := dz_ok (by decide +kernel)
theorem by_d379 : decode xMby.2.1 379 = .ok (.ireturn, 1) := dz_ok (by decide +kernel)
theorem by_L259 {p : Program} {l : Launch} {e : Env} {s : State} {m : MethodId} {below : List Frame} {meth : Method} {c : Code} {D : va_G} {U : State} {Y0 : xY} {av : List Value} (B : y_B vwCl x_Tb x_Nb xMby p s m meth c D U Y0 av) {this bk tr ld : Nat} {fm to i : Int32} {fb ff : Nat → Int32} (hN : 0 ≤ (z_all (fb 0)).toInt ∧ (z_all (fb 0)).toInt ≤ 1023) (hfm : 0 ≤ fm.toInt ∧ fm.toInt ≤ (z_all (fb 0)).toInt) (hto : 0 ≤ to.toInt ∧ to.toInt ≤ (z_all (fb 0)).toInt) (hi : -1 ≤ i.toInt) (hB_tr : ∀ j, j < 12288 → (0 : Int) ≤ (ff j).toInt ∧ (ff j).toInt ≤ 1) (hM : z_mall (z_all (fb 0)).toInt ff fm 12 0) {end_ : Int32} (hend : 0 ≤ end_.toInt ∧ end_.toInt ≤ 11) (hie : 0 ≤ i.toInt ∧ i.toInt ≤ end_.toInt) (hfe : ¬ ff (1024 * end_.toInt + to.toInt).toNat = 0) {h : Int32} (hh : 0 ≤ h.toInt ∧ h.toInt ≤ end_.toInt) {set : Int32} (hset : 0 ≤ set.toInt ∧ set.toInt ≤ (z_all (fb 0)).toInt) {gg : Nat → Int32} (hB_ld : ∀ j, j < 12288 → (0 : Int) ≤ (gg j).toInt ∧ (gg j).toInt ≤ 1) (hA : z_lall (z_all (fb 0)).toInt ff gg end_.toInt to  h.toInt) (hR : z_lrow (z_all (fb 0)).toInt ff gg end_.toInt to  h.toInt set.toInt)
    (out140 : ∀ (H : Heap) (Y : xY) (locs : List Loc) (ls : Array Slot) (set1 : Int32) (gg1 : Nat → Int32), x_I D x_G x_Zs U (x_efs xMby) Y0 s.heap Y H locs → Y this = some 17 → Y bk = some 46 → Y tr = some 60 → Y ld = some 61 → x_sl D 12 0 this H = some (.ref bk) → x_sl D 12 23 this H = some (.ref tr) → x_sl D 12 24 this H = some (.ref ld) → y_A bk 160 H fb → y_A tr 12288 H ff → y_A ld 12288 H gg1 → lv_has ls xMby.2.2.1 [(6, .int set1), (5, .int h), (4, .int end_), (0, .ref this), (1, .int fm), (2, .int to), (3, .int i)] → (∀ j, j < 12288 → (0 : Int) ≤ (gg1 j).toInt ∧ (gg1 j).toInt ≤ 1) → (0 ≤ set1.toInt ∧ set1.toInt ≤ (z_all (fb 0)).toInt + 1) → (z_lall (z_all (fb 0)).toInt ff gg1 end_.toInt to  h.toInt) → (z_lrow (z_all (fb 0)).toInt ff gg1 end_.toInt to  h.toInt set1.toInt) → (set1.toInt = set.toInt + 1) → W p l e (x_rm xMby) s m av.toArray below meth c H locs 0 0 (y_QQ below D x_G x_Zs U xMby y_TP av Y0 s) (F0 m 140 ls [])) :
    ∀ (H : Heap) (Y : xY) (locs : List Loc) (ls : Array Slot) (is : Int32), x_I D x_G x_Zs U (x_efs xMby) Y0 s.heap Y H locs → Y this = some 17 → Y bk = some 46 → Y tr = some 60 → Y ld = some 61 → x_sl D 12 0 this H = some (.ref bk) → x_sl D 12 23 this H = some (.ref tr) → x_sl D 12 24 this H = some (.ref ld) → y_A bk 160 H fb → y_A tr 12288 H ff → y_A ld 12288 H gg → lv_has ls xMby.2.2.1 [(7, .int is), (6, .int set), (5, .int h), (4, .int end_), (0, .ref this), (1, .int fm), (2, .int to), (3, .int i)] → (0 ≤ is.toInt ∧ is.toInt ≤ 1) → (¬ is = 0 → z_lc (z_all (fb 0)).toInt gg end_.toInt to h.toInt set) → (is = 0 → ¬ ff (1024 * h.toInt + set.toInt).toNat = 0 → ¬ z_lc (z_all (fb 0)).toInt gg end_.toInt to h.toInt set) → W p l e (x_rm xMby) s m av.toArray below meth c H locs 0 0 (y_QQ below D x_G x_Zs U xMby y_TP av Y0 s) (F0 m 259 ls []) := by
  have X := B.1
  have hx := X.1
  have hb := X.2.1
  have hY0 := B.2.2.2.2.1
  intro H Y locs ls is  hI hY_this hY_bk hY_tr hY_ld hs_bk hs_tr hs_ld hA_bk hA_tr hA_ld hl his hS hC
  refine lv_aload_n hx hb by_d259 rfl (lv_at hl 4 rfl) ?_
  refine y_getf X (fl_by_209 X.2.2.2.2.1) hI.1 hY_this rfl hs_ld by_d260 ?_
  refine lv_sipush hx hb by_d263 (v := 1024) (by decide) ?_
  have ec1024 : (1024 : Int32).toInt = 1024 := by decide
  refine lv_iload hx hb by_d266 (lv_at hl 2 rfl) ?_
  refine lv_imul hx hb by_d268 ?_
  generalize hg_z268 : (1024 : Int32) * h = z268
  have h_z268 : z268.toInt = 1024 * h.toInt := by rw [← hg_z268]; have := y_mul (x := (1024 : Int32)) (y := h) (by rw [ec1024]; omega) (by rw [ec1024]; omega); rw [ec1024] at this; exact this
  refine lv_iload hx hb by_d269 (lv_at hl 1 rfl) ?_
  refine lv_iadd hx hb by_d271 ?_
  generalize hg_z271 : z268 + set = z271
  have h_z271 : z271.toInt = z268.toInt + set.toInt := by rw [← hg_z271]; have := y_add (x := z268) (y := set) (by omega) (by omega); exact this
  refine lv_iload hx hb by_d272 (lv_at hl 0 rfl) ?_
  have ec0 : (0 : Int32).toInt = 0 := by decide
  refine lv_if_eq hx hb by_d274 (tgt := 298) (by decide) (fun q274 => ?_) (fun q274 => ?_)
  · have q274_ : is.toInt = (0 : Int32).toInt := by rw [q274]
    refine lv_iconst hx hb by_d298 (v := 0) (by decide) ?_
    refine y_zast X hY0 hI hY_ld rfl hA_ld (by omega) (by show _ < (12288 : Int); omega) (y_01 (by omega) (by omega)) ⟨_, rfl, by show (0 : Int) ≤ _; omega, by show _ ≤ (1 : Int); omega⟩ (by decide +kernel) by_d299 fun H locs hI h_new ho => ?_
    replace hA_ld := h_new
    replace hB_ld := y_upb (i := z271.toInt.toNat) (v := (0 : Int32)) hB_ld (by constructor <;> omega)
    generalize hf_f299 : y_up gg z271.toInt.toNat (0 : Int32) = f299 at hA_ld hB_ld
    replace hs_bk := y_slk hs_bk (ho _ (y_ne hY_this hY_ld rfl))
    replace hs_tr := y_slk hs_tr (ho _ (y_ne hY_this hY_ld rfl))
    replace hs_ld := y_slk hs_ld (ho _ (y_ne hY_this hY_ld rfl))
    replace hA_bk := hA_bk.kept (ho _ (y_ne hY_bk hY_ld rfl))
    replace hA_tr := hA_tr.kept (ho _ (y_ne hY_tr hY_ld rfl))
    obtain ⟨z300, hg_z300⟩ : ∃ z300 : Int32, set + Int32.ofInt 1 = z300 := ⟨_, rfl⟩
    have h_z300 : z300.toInt = set.toInt + 1 := by rw [← hg_z300]; exact y_inc (by decide) (by omega) (by omega)
    refine lv_iinc hx hb by_d300 hl (k := 1) rfl hg_z300 (by decide) (lv' := [(6, .int z300), (7, .int is), (5, .int h), (4, .int end_), (0, .ref this), (1, .int fm), (2, .int to), (3, .int i)]) rfl fun ls hl => ?_
    refine lv_goto hx hb by_d303 (tgt := 140) (by decide) ?_
    have hAn := hA.store (s := set) (v := (0 : Int32)) hN.2 (by omega) (by omega) (by omega) (i := z271) (by omega)
    have hRn := hR.store (s := set) (v := (0 : Int32)) (k := z300.toInt) hN.2 (by omega) (by omega) (by omega) (i := z271) (by omega) (fun q => by first | exact absurd rfl q | exact ⟨by rw [show (1024 * h.toInt + set.toInt).toNat = z289.toInt.toNat by omega, hg_e290]; exact q291, hS q274⟩) (fun q1 q2 q3 => by first | exact absurd q1 (by decide) | exact hC q274 q2 q3 | exact q2 (by rw [show (1024 * h.toInt + set.toInt).toNat = z289.toInt.toNat by omega, hg_e290]; exact q291)) (by omega)
    rw [hf_f299] at hAn hRn
    exact out140 _ _ _ _ _ _ hI hY_this hY_bk hY_tr hY_ld hs_bk hs_tr hs_ld hA_bk hA_tr hA_ld (lv_sub hl [0, 2, 3, 4, 5, 6, 7] rfl) (by first | assumption | omega) (by first | assumption | omega) hAn hRn (by first | assumption | omega)
  · have q274_ : ¬ is.toInt = (0 : Int32).toInt := fun q => q274 (Int32.toInt_inj.mp q)
    refine lv_aload_n hx hb by_d277 rfl (lv_at hl 4 rfl) ?_
    refine y_getf X (fl202 X.2.2.2.2.1) hI.1 hY_this rfl hs_tr by_d278 ?_
    refine lv_sipush hx hb by_d281 (v := 1024) (by decide) ?_
    refine lv_iload hx hb by_d284 (lv_at hl 2 rfl) ?_
    refine lv_imul hx hb by_d286 ?_
    generalize hg_z286 : (1024 : Int32) * h = z286
    have h_z286 : z286.toInt = 1024 * h.toInt := by rw [← hg_z286]; have := y_mul (x := (1024 : Int32)) (y := h) (by rw [ec1024]; omega) (by rw [ec1024]; omega); rw [ec1024] at this; exact this
    refine lv_iload hx hb by_d287 (lv_at hl 1 rfl) ?_
    refine lv_iadd hx hb by_d289 ?_
    generalize hg_z289 : z286 + set = z289
    have h_z289 : z289.toInt = z286.toInt + set.toInt := by rw [← hg_z289]; have := y_add (x := z286) (y := set) (by omega) (by omega); exact this
    refine y_zald X hI.1 hY_tr rfl hA_tr (by omega) (by show _ < (12288 : Int); omega) by_d290 ?_
    obtain ⟨e290, hg_e290⟩ : ∃ e290 : Int32, ff z289.toInt.toNat = e290 := ⟨_, rfl⟩
    rw [hg_e290]
    have h_e290 : (0 : Int) ≤ e290.toInt ∧ e290.toInt ≤ 1 := by rw [← hg_e290]; exact hB_tr _ (by omega)
    refine lv_if_eq hx hb by_d291 (tgt := 298) (by decide) (fun q291 => ?_) (fun q291 => ?_)
    · have q291_ : e290.toInt = (0 : Int32).toInt := by rw [q291]
      refine lv_iconst hx hb by_d298 (v := 0) (by decide) ?_
      refine y_zast X hY0 hI hY_ld rfl hA_ld (by omega) (by show _ < (12288 : Int); omega) (y_01 (by omega) (by omega)) ⟨_, rfl, by show (0 : Int) ≤ _; omega, by show _ ≤ (1 : Int); omega⟩ (by decide +kernel) by_d299 fun H locs hI h_new ho => ?_
      replace hA_ld := h_new
      replace hB_ld := y_upb (i := z271.toInt.toNat) (v := (0 : Int32)) hB_ld (by constructor <;> omega)
      generalize hf_f299 : y_up gg z271.toInt.toNat (0 : Int32) = f299 at hA_ld hB_ld
      replace hs_bk := y_slk hs_bk (ho _ (y_ne hY_this hY_ld rfl))
      replace hs_tr := y_slk hs_tr (ho _ (y_ne hY_this hY_ld rfl))
      replace hs_ld := y_slk hs_ld (ho _ (y_ne hY_this hY_ld rfl))
      replace hA_bk := hA_bk.kept (ho _ (y_ne hY_bk hY_ld rfl))
      replace hA_tr := hA_tr.kept (ho _ (y_ne hY_tr hY_ld rfl))
      obtain ⟨z300, hg_z300⟩ : ∃ z300 : Int32, set + Int32.ofInt 1 = z300 := ⟨_, rfl⟩
      have h_z300 : z300.toInt = set.toInt + 1 := by rw [← hg_z300]; exact y_inc (by decide) (by omega) (by omega)
      refine lv_iinc hx hb by_d300 hl (k := 1) rfl hg_z300 (by decide) (lv' := [(6, .int z300), (7, .int is), (5, .int h), (4, .int end_), (0, .ref this), (1, .int fm), (2, .int to), (3, .int i)]) rfl fun ls hl => ?_
      refine lv_goto hx hb by_d303 (tgt := 140) (by decide) ?_
      have hAn := hA.store (s := set) (v := (0 : Int32)) hN.2 (by omega) (by omega) (by omega) (i := z271) (by omega)
      have hRn := hR.store (s := set) (v := (0 : Int32)) (k := z300.toInt) hN.2 (by omega) (by omega) (by omega) (i := z271) (by omega) (fun q => by first | exact absurd rfl q | exact ⟨by rw [show (1024 * h.toInt + set.toInt).toNat = z289.toInt.toNat by omega, hg_e290]; exact q291, hS q274⟩) (fun q1 q2 q3 => by first | exact absurd q1 (by decide) | exact hC q274 q2 q3 | exact q2 (by rw [show (1024 * h.toInt + set.toInt).toNat = z289.toInt.toNat by omega, hg_e290]; exact q291)) (by omega)
      rw [hf_f299] at hAn hRn
      exact out140 _ _ _ _ _ _ hI hY_this hY_bk hY_tr hY_ld hs_bk hs_tr hs_ld hA_bk hA_tr hA_ld (lv_sub hl [0, 2, 3, 4, 5, 6, 7] rfl) (by first | assumption | omega) (by first | assumption | omega) hAn hRn (by first | assumption | omega)
    · have q291_ : ¬ e290.toInt = (0 : Int32).toInt := fun q => q291 (Int32.toInt_inj.mp q)
      refine lv_iconst hx hb by_d294 (v := 1) (by decide) ?_
      have ec1 : (1 : Int32).toInt = 1 := by decide
      refine lv_goto hx hb by_d295 (tgt := 299) (by decide) ?_
      refine y_zast X hY0 hI hY_ld rfl hA_ld (by omega) (by show _ < (12288 : Int); omega) (y_01 (by omega) (by omega)) ⟨_, rfl, by show (0 : Int) ≤ _; omega, by show _ ≤ (1 : Int); omega⟩ (by decide +kernel) by_d299 fun H locs hI h_new ho => ?_
      replace hA_ld := h_new
      replace hB_ld := y_upb (i := z271.toInt.toNat) (v := (1 : Int32)) hB_ld (by constructor <;> omega)
      generalize hf_f299 : y_up gg z271.toInt.toNat (1 : Int32) = f299 at hA_ld hB_ld
      replace hs_bk := y_slk hs_bk (ho _ (y_ne hY_this hY_ld rfl))
      replace hs_tr := y_slk hs_tr (ho _ (y_ne hY_this hY_ld rfl))
      replace hs_ld := y_slk hs_ld (ho _ (y_ne hY_this hY_ld rfl))
      replace hA_bk := hA_bk.kept (ho _ (y_ne hY_bk hY_ld rfl))
      replace hA_tr := hA_tr.kept (ho _ (y_ne hY_tr hY_ld rfl))
      obtain ⟨z300, hg_z300⟩ : ∃ z300 : Int32, set + Int32.ofInt 1 = z300 := ⟨_, rfl⟩
      have h_z300 : z300.toInt = set.toInt + 1 := by rw [← hg_z300]; exact y_inc (by decide) (by omega) (by omega)
      refine lv_iinc hx hb by_d300 hl (k := 1) rfl hg_z300 (by decide) (lv' := [(6, .int z300), (7, .int is), (5, .int h), (4, .int end_), (0, .ref this), (1, .int fm), (2, .int to), (3, .int i)]) rfl fun ls hl => ?_
      refine lv_goto hx hb by_d303 (tgt := 140) (by decide) ?_
      have hAn := hA.store (s := set) (v := (1 : Int32)) hN.2 (by omega) (by omega) (by omega) (i := z271) (by omega)
      have hRn := hR.store (s := set) (v := (1 : Int32)) (k := z300.toInt) hN.2 (by omega) (by omega) (by omega) (i := z271) (by omega) (fun q => by first | exact absurd rfl q | exact ⟨by rw [show (1024 * h.toInt + set.toInt).toNat = z289.toInt.toNat by omega, hg_e290]; exact q291, hS q274⟩) (fun q1 q2 q3 => by first | exact absurd q1 (by decide) | exact hC q274 q2 q3 | exact q2 (by rw [show (1024 * h.toInt + set.toInt).toNat = z289.toInt.toNat by omega, hg_e290]; exact q291)) (by omega)
      rw [hf_f299] at hAn hRn
      exact out140 _ _ _ _ _ _ hI hY_this hY_bk hY_tr hY_ld hs_bk hs_tr hs_ld hA_bk hA_tr hA_ld (lv_sub hl [0, 2, 3, 4, 5, 6, 7] rfl) (by first | assumption | omega) (by first | assumption | omega) hAn hRn (by first | assumption | omega)
theorem by_L172 {p : Program} {l : Launch} {e : Env} {s : State} {m : MethodId} {below : List Frame} {meth : Method} {c : Code} {D : va_G} {U : State} {Y0 : xY} {av : List Value} (B : y_B vwCl x_Tb x_Nb xMby p s m meth c D U Y0 av) {this bk tr ld : Nat} {fm to i : Int32} {fb ff : Nat → Int32} (hN : 0 ≤ (z_all (fb 0)).toInt ∧ (z_all (fb 0)).toInt ≤ 1023) (hfm : 0 ≤ fm.toInt ∧ fm.toInt ≤ (z_all (fb 0)).toInt) (hto : 0 ≤ to.toInt ∧ to.toInt ≤ (z_all (fb 0)).toInt) (hi : -1 ≤ i.toInt) (hB_tr : ∀ j, j < 12288 → (0 : Int) ≤ (ff j).toInt ∧ (ff j).toInt ≤ 1) (hM : z_mall (z_all (fb 0)).toInt ff fm 12 0) {end_ : Int32} (hend : 0 ≤ end_.toInt ∧ end_.toInt ≤ 11) (hie : 0 ≤ i.toInt ∧ i.toInt ≤ end_.toInt) (hfe : ¬ ff (1024 * end_.toInt + to.toInt).toNat = 0) {h : Int32} (hh : 0 ≤ h.toInt ∧ h.toInt ≤ end_.toInt) {set : Int32} (hset : 0 ≤ set.toInt ∧ set.toInt ≤ (z_all (fb 0)).toInt) {gg : Nat → Int32} (hB_ld : ∀ j, j < 12288 → (0 : Int) ≤ (gg j).toInt ∧ (gg j).toInt ≤ 1) (hA : z_lall (z_all (fb 0)).toInt ff gg end_.toInt to  h.toInt) (hR : z_lrow (z_all (fb 0)).toInt ff gg end_.toInt to  h.toInt set.toInt)
    (out140 : ∀ (H : Heap) (Y : xY) (locs : List Loc) (ls : Array Slot) (set1 : Int32) (gg1 : Nat → Int32), x_I D x_G x_Zs U (x_efs xMby) Y0 s.heap Y H locs → Y this = some 17 → Y bk = some 46 → Y tr = some 60 → Y ld = some 61 → x_sl D 12 0 this H = some (.ref bk) → x_sl D 12 23 this H = some (.ref tr) → x_sl D 12 24 this H = some (.ref ld) → y_A bk 160 H fb → y_A tr 12288 H ff → y_A ld 12288 H gg1 → lv_has ls xMby.2.2.1 [(6, .int set1), (5, .int h), (4, .int end_), (0, .ref this), (1, .int fm), (2, .int to), (3, .int i)] → (∀ j, j < 12288 → (0 : Int) ≤ (gg1 j).toInt ∧ (gg1 j).toInt ≤ 1) → (0 ≤ set1.toInt ∧ set1.toInt ≤ (z_all (fb 0)).toInt + 1) → (z_lall (z_all (fb 0)).toInt ff gg1 end_.toInt to  h.toInt) → (z_lrow (z_all (fb 0)).toInt ff gg1 end_.toInt to  h.toInt set1.toInt) → (set1.toInt = set.toInt + 1) → W p l e (x_rm xMby) s m av.toArray below meth c H locs 0 0 (y_QQ below D x_G x_Zs U xMby y_TP av Y0 s) (F0 m 140 ls [])) :
    ∀ (n : Nat), ∀ (H : Heap) (Y : xY) (locs : List Loc) (ls : Array Slot) (b : Int32) (is : Int32), x_I D x_G x_Zs U (x_efs xMby) Y0 s.heap Y H locs → Y this = some 17 → Y bk = some 46 → Y tr = some 60 → Y ld = some 61 → x_sl D 12 0 this H = some (.ref bk) → x_sl D 12 23 this H = some (.ref tr) → x_sl D 12 24 this H = some (.ref ld) → y_A bk 160 H fb → y_A tr 12288 H ff → y_A ld 12288 H gg → lv_has ls xMby.2.2.1 [(8, .int b), (7, .int is), (6, .int set), (5, .int h), (4, .int end_), (0, .ref this), (1, .int fm), (2, .int to), (3, .int i)] → (0 ≤ is.toInt ∧ is.toInt ≤ 1) → (0 ≤ b.toInt ∧ b.toInt ≤ (z_all (fb 0)).toInt + 1) → (¬ is = 0 → z_lc (z_all (fb 0)).toInt gg end_.toInt to h.toInt set) → (is = 0 → ¬ (h.toInt = end_.toInt ∧ set = to)) → (is = 0 → ∀ t : Int32, 0 ≤ t.toInt → t.toInt < b.toInt → ¬ (¬ gg (1024 * (h.toInt + 1) + t.toInt).toNat = 0 ∧ (t = set ∨ z_step set t))) → (1024 - b.toInt).toNat < n → W p l e (x_rm xMby) s m av.toArray below meth c H locs 0 0 (y_QQ below D x_G x_Zs U xMby y_TP av Y0 s) (F0 m 172 ls []) := by
  have X := B.1
  have hx := X.1
  have hb := X.2.1
  have hY0 := B.2.2.2.2.1
  intro n
  induction n with
  | zero => intro _ _ _ _ _ _ _ _ _ _ _ _ _ _ _ _ _ _ _ _ _ _ _ h; exact absurd h (Nat.not_lt_zero _)
  | succ n ih =>
    intro H Y locs ls b is  hI hY_this hY_bk hY_tr hY_ld hs_bk hs_tr hs_ld hA_bk hA_tr hA_ld hl his hb0 hS hC hC2 hn
    refine lv_iload hx hb by_d172 (lv_at hl 0 rfl) ?_
    refine lv_aload_n hx hb by_d174 rfl (lv_at hl 5 rfl) ?_
    refine y_call (z := (0, 91, 1, some 17, xM182)) (av := [.ref this]) (rest := [.int b]) (y_cokV (n := 0) (ci := 12) X ym_all rfl rfl rfl (x_cons (x_bw77 4 rfl rfl) (x_cons (x_bw77 6 rfl rfl) (x_cons (x_at 49 (by decide +kernel) rfl) (x_cons (x_bw0 9 rfl rfl) x_nilm)))) (x_bw77 7 rfl rfl) (by decide +kernel) ⟨Nat.le_of_ble_eq_true rfl, Nat.le_of_ble_eq_true rfl⟩) hY0 hI rfl by_d175 hl.1 (Nat.le_of_ble_eq_true rfl) (Nat.le_of_ble_eq_true rfl) (Nat.le_of_ble_eq_true rfl) (y_cons (y_cref hY_this rfl) y_nil) rfl (y_recv rfl hY_this) trivial (y_sub_ef rfl) fun v Yn o Hn L ho hr ha hIn hx_ hE hP => ?_
    have hPv := hP _ _ _ rfl hs_bk (hA_bk 0 (by decide))
    replace hs_bk := y_Efld hE hY_this rfl (by decide) (by decide) hs_bk
    replace hs_tr := y_Efld hE hY_this rfl (by decide) (by decide) hs_tr
    replace hs_ld := y_Efld hE hY_this rfl (by decide) (by decide) hs_ld
    replace hA_bk := hA_bk.kept (y_Earr hE hY_bk rfl (by decide))
    replace hA_tr := hA_tr.kept (y_Earr hE hY_tr rfl (by decide))
    replace hA_ld := hA_ld.kept (y_Earr hE hY_ld rfl (by decide))
    replace hY_this := y_ext hx_ hI.1 hY_this
    replace hY_bk := y_ext hx_ hI.1 hY_bk
    replace hY_tr := y_ext hx_ hI.1 hY_tr
    replace hY_ld := y_ext hx_ hI.1 hY_ld
    obtain rfl := hPv
    clear ho hr ha hE hP hI hx_
    rename x_I _ _ _ _ _ _ _ _ _ _ => hI
    refine lv_icmp_gt hx hb by_d178 (tgt := 259) (by decide) (fun q178 => ?_) (fun q178 => ?_)
    · have q178_ : (z_all (fb 0)).toInt < b.toInt := x_lt32.mp q178
      exact by_L259 B hN hfm hto hi hB_tr hM (by first | assumption | omega) (by first | assumption | omega) (by first | assumption | omega) (by first | assumption | omega) (by first | assumption | omega) (by first | assumption | omega) (by first | assumption | omega) (by first | assumption | omega) (fun H Y locs ls set1 gg1 hI hY_this hY_bk hY_tr hY_ld hs_bk hs_tr hs_ld hA_bk hA_tr hA_ld hl hB_ld hset0 hA hR hs1 => out140 _ _ _ _ _ _ hI hY_this hY_bk hY_tr hY_ld hs_bk hs_tr hs_ld hA_bk hA_tr hA_ld hl hB_ld hset0 hA hR hs1) _ _ _ _ _ hI hY_this hY_bk hY_tr hY_ld hs_bk hs_tr hs_ld hA_bk hA_tr hA_ld (lv_sub hl [1, 2, 3, 4, 5, 6, 7, 8] rfl) (by first | assumption | omega) (by first | assumption | omega) (fun q1 q2 q3 => by first | exact absurd q1 q190 | exact absurd (by rw [show (1024 * h.toInt + set.toInt).toNat = z205.toInt.toNat by omega, hg_e206]; exact q207) q2 | (rcases q3 with q3 | ⟨q3, t, t0, t1, t2, t3⟩; exact hC q1 q3; first | omega | exact hC2 q1 t t0 (by omega) ⟨t2, t3⟩))
    · have q178_ : b.toInt ≤ (z_all (fb 0)).toInt := Int.not_lt.mp fun q => q178 (x_lt32.mpr q)
      refine lv_iload hx hb by_d181 (lv_at hl 3 rfl) ?_
      refine lv_iload hx hb by_d183 (lv_at hl 4 rfl) ?_
      refine lv_icmp_ge hx hb by_d185 (tgt := 259) (by decide) (fun q185 => ?_) (fun q185 => ?_)
      · have q185_ : end_.toInt ≤ h.toInt := x_le32.mp q185
        exact by_L259 B hN hfm hto hi hB_tr hM (by first | assumption | omega) (by first | assumption | omega) (by first | assumption | omega) (by first | assumption | omega) (by first | assumption | omega) (by first | assumption | omega) (by first | assumption | omega) (by first | assumption | omega) (fun H Y locs ls set1 gg1 hI hY_this hY_bk hY_tr hY_ld hs_bk hs_tr hs_ld hA_bk hA_tr hA_ld hl hB_ld hset0 hA hR hs1 => out140 _ _ _ _ _ _ hI hY_this hY_bk hY_tr hY_ld hs_bk hs_tr hs_ld hA_bk hA_tr hA_ld hl hB_ld hset0 hA hR hs1) _ _ _ _ _ hI hY_this hY_bk hY_tr hY_ld hs_bk hs_tr hs_ld hA_bk hA_tr hA_ld (lv_sub hl [1, 2, 3, 4, 5, 6, 7, 8] rfl) (by first | assumption | omega) (by first | assumption | omega) (fun q1 q2 q3 => by first | exact absurd q1 q190 | exact absurd (by rw [show (1024 * h.toInt + set.toInt).toNat = z205.toInt.toNat by omega, hg_e206]; exact q207) q2 | (rcases q3 with q3 | ⟨q3, t, t0, t1, t2, t3⟩; exact hC q1 q3; first | omega | exact hC2 q1 t t0 (by omega) ⟨t2, t3⟩))
      · have q185_ : h.toInt < end_.toInt := Int.not_le.mp fun q => q185 (x_le32.mpr q)
        refine lv_iload hx hb by_d188 (lv_at hl 1 rfl) ?_
        have ec0 : (0 : Int32).toInt = 0 := by decide
        refine lv_if_ne hx hb by_d190 (tgt := 259) (by decide) (fun q190 => ?_) (fun q190 => ?_)
        · have q190_ : ¬ is.toInt = (0 : Int32).toInt := fun q => q190 (Int32.toInt_inj.mp q)
          exact by_L259 B hN hfm hto hi hB_tr hM (by first | assumption | omega) (by first | assumption | omega) (by first | assumption | omega) (by first | assumption | omega) (by first | assumption | omega) (by first | assumption | omega) (by first | assumption | omega) (by first | assumption | omega) (fun H Y locs ls set1 gg1 hI hY_this hY_bk hY_tr hY_ld hs_bk hs_tr hs_ld hA_bk hA_tr hA_ld hl hB_ld hset0 hA hR hs1 => out140 _ _ _ _ _ _ hI hY_this hY_bk hY_tr hY_ld hs_bk hs_tr hs_ld hA_bk hA_tr hA_ld hl hB_ld hset0 hA hR hs1) _ _ _ _ _ hI hY_this hY_bk hY_tr hY_ld hs_bk hs_tr hs_ld hA_bk hA_tr hA_ld (lv_sub hl [1, 2, 3, 4, 5, 6, 7, 8] rfl) (by first | assumption | omega) (by first | assumption | omega) (fun q1 q2 q3 => by first | exact absurd q1 q190 | exact absurd (by rw [show (1024 * h.toInt + set.toInt).toNat = z205.toInt.toNat by omega, hg_e206]; exact q207) q2 | (rcases q3 with q3 | ⟨q3, t, t0, t1, t2, t3⟩; exact hC q1 q3; first | omega | exact hC2 q1 t t0 (by omega) ⟨t2, t3⟩))
        · have q190_ : is.toInt = (0 : Int32).toInt := by rw [q190]
          refine lv_aload_n hx hb by_d193 rfl (lv_at hl 5 rfl) ?_
          refine y_getf X (fl202 X.2.2.2.2.1) hI.1 hY_this rfl hs_tr by_d194 ?_
          refine lv_sipush hx hb by_d197 (v := 1024) (by decide) ?_
          have ec1024 : (1024 : Int32).toInt = 1024 := by decide
          refine lv_iload hx hb by_d200 (lv_at hl 3 rfl) ?_
          refine lv_imul hx hb by_d202 ?_
          generalize hg_z202 : (1024 : Int32) * h = z202
          have h_z202 : z202.toInt = 1024 * h.toInt := by rw [← hg_z202]; have := y_mul (x := (1024 : Int32)) (y := h) (by rw [ec1024]; omega) (by rw [ec1024]; omega); rw [ec1024] at this; exact this
          refine lv_iload hx hb by_d203 (lv_at hl 2 rfl) ?_
          refine lv_iadd hx hb by_d205 ?_
          generalize hg_z205 : z202 + set = z205
          have h_z205 : z205.toInt = z202.toInt + set.toInt := by rw [← hg_z205]; have := y_add (x := z202) (y := set) (by omega) (by omega); exact this
          refine y_zald X hI.1 hY_tr rfl hA_tr (by omega) (by show _ < (12288 : Int); omega) by_d206 ?_
          obtain ⟨e206, hg_e206⟩ : ∃ e206 : Int32, ff z205.toInt.toNat = e206 := ⟨_, rfl⟩
          rw [hg_e206]
          have h_e206 : (0 : Int) ≤ e206.toInt ∧ e206.toInt ≤ 1 := by rw [← hg_e206]; exact hB_tr _ (by omega)
          refine lv_if_eq hx hb by_d207 (tgt := 259) (by decide) (fun q207 => ?_) (fun q207 => ?_)
          · have q207_ : e206.toInt = (0 : Int32).toInt := by rw [q207]
            exact by_L259 B hN hfm hto hi hB_tr hM (by first | assumption | omega) (by first | assumption | omega) (by first | assumption | omega) (by first | assumption | omega) (by first | assumption | omega) (by first | assumption | omega) (by first | assumption | omega) (by first | assumption | omega) (fun H Y locs ls set1 gg1 hI hY_this hY_bk hY_tr hY_ld hs_bk hs_tr hs_ld hA_bk hA_tr hA_ld hl hB_ld hset0 hA hR hs1 => out140 _ _ _ _ _ _ hI hY_this hY_bk hY_tr hY_ld hs_bk hs_tr hs_ld hA_bk hA_tr hA_ld hl hB_ld hset0 hA hR hs1) _ _ _ _ _ hI hY_this hY_bk hY_tr hY_ld hs_bk hs_tr hs_ld hA_bk hA_tr hA_ld (lv_sub hl [1, 2, 3, 4, 5, 6, 7, 8] rfl) (by first | assumption | omega) (by first | assumption | omega) (fun q1 q2 q3 => by first | exact absurd q1 q190 | exact absurd (by rw [show (1024 * h.toInt + set.toInt).toNat = z205.toInt.toNat by omega, hg_e206]; exact q207) q2 | (rcases q3 with q3 | ⟨q3, t, t0, t1, t2, t3⟩; exact hC q1 q3; first | omega | exact hC2 q1 t t0 (by omega) ⟨t2, t3⟩))
          · have q207_ : ¬ e206.toInt = (0 : Int32).toInt := fun q => q207 (Int32.toInt_inj.mp q)
            refine lv_aload_n hx hb by_d210 rfl (lv_at hl 5 rfl) ?_
            refine y_getf X (fl_by_209 X.2.2.2.2.1) hI.1 hY_this rfl hs_ld by_d211 ?_
            refine lv_sipush hx hb by_d214 (v := 1024) (by decide) ?_
            refine lv_iload hx hb by_d217 (lv_at hl 3 rfl) ?_
            refine lv_iconst hx hb by_d219 (v := 1) (by decide) ?_
            have ec1 : (1 : Int32).toInt = 1 := by decide
            refine lv_iadd hx hb by_d220 ?_
            generalize hg_z220 : h + (1 : Int32) = z220
            have h_z220 : z220.toInt = h.toInt + 1 := by rw [← hg_z220]; have := y_add (x := h) (y := (1 : Int32)) (by rw [ec1]; omega) (by rw [ec1]; omega); rw [ec1] at this; exact this
            refine lv_imul hx hb by_d221 ?_
            generalize hg_z221 : (1024 : Int32) * z220 = z221
            have h_z221 : z221.toInt = 1024 * z220.toInt := by rw [← hg_z221]; have := y_mul (x := (1024 : Int32)) (y := z220) (by rw [ec1024]; omega) (by rw [ec1024]; omega); rw [ec1024] at this; exact this
            refine lv_iload hx hb by_d222 (lv_at hl 0 rfl) ?_
            refine lv_iadd hx hb by_d224 ?_
            generalize hg_z224 : z221 + b = z224
            have h_z224 : z224.toInt = z221.toInt + b.toInt := by rw [← hg_z224]; have := y_add (x := z221) (y := b) (by omega) (by omega); exact this
            refine y_zald X hI.1 hY_ld rfl hA_ld (by omega) (by show _ < (12288 : Int); omega) by_d225 ?_
            obtain ⟨e225, hg_e225⟩ : ∃ e225 : Int32, gg z224.toInt.toNat = e225 := ⟨_, rfl⟩
            rw [hg_e225]
            have h_e225 : (0 : Int) ≤ e225.toInt ∧ e225.toInt ≤ 1 := by rw [← hg_e225]; exact hB_ld _ (by omega)
            refine lv_if_eq hx hb by_d226 (tgt := 250) (by decide) (fun q226 => ?_) (fun q226 => ?_)
            · have q226_ : e225.toInt = (0 : Int32).toInt := by rw [q226]
              refine lv_iconst hx hb by_d250 (v := 0) (by decide) ?_
              refine lv_istore hx hb by_d251 hl (by decide) (lv' := [(7, .int (0 : Int32)), (8, .int b), (6, .int set), (5, .int h), (4, .int end_), (0, .ref this), (1, .int fm), (2, .int to), (3, .int i)]) rfl fun ls hl => ?_
              obtain ⟨z253, hg_z253⟩ : ∃ z253 : Int32, b + Int32.ofInt 1 = z253 := ⟨_, rfl⟩
              have h_z253 : z253.toInt = b.toInt + 1 := by rw [← hg_z253]; exact y_inc (by decide) (by omega) (by omega)
              refine lv_iinc hx hb by_d253 hl (k := 1) rfl hg_z253 (by decide) (lv' := [(8, .int z253), (7, .int (0 : Int32)), (6, .int set), (5, .int h), (4, .int end_), (0, .ref this), (1, .int fm), (2, .int to), (3, .int i)]) rfl fun ls hl => ?_
              refine lv_goto hx hb by_d256 (tgt := 172) (by decide) ?_
              have hq : is = 0 := q190
              exact ih _ _ _ _ _ _ hI hY_this hY_bk hY_tr hY_ld hs_bk hs_tr hs_ld hA_bk hA_tr hA_ld (lv_sub hl [0, 1, 2, 3, 4, 5, 6, 7, 8] rfl) (by first | assumption | omega) (by first | assumption | omega) (fun q => by first | exact absurd rfl q | exact .inr ⟨by omega, b, by omega, by omega, by rw [show (1024 * (h.toInt + 1) + b.toInt).toNat = z224.toInt.toNat by omega, hg_e225]; exact q226, by first | exact .inl (Int32.toInt_inj.mp q233_) | exact .inr (hst_r240 q243)⟩) (fun _ => hC q190) (fun q t t0 t1 ⟨t2, t3⟩ => by first | exact absurd q (by decide) | (by_cases et : t = b; (subst et; first | (rw [show (1024 * (h.toInt + 1) + t.toInt).toNat = z224.toInt.toNat by omega, hg_e225] at t2; exact t2 q226) | (rcases t3 with t3 | t3; (exact q233 t3); exact hns_r240 q243 t3)); have et2 : ¬ t.toInt = b.toInt := fun e => et (Int32.toInt_inj.mp e); exact hC2 q190 t t0 (by omega) ⟨t2, t3⟩)) (by omega)
            · have q226_ : ¬ e225.toInt = (0 : Int32).toInt := fun q => q226 (Int32.toInt_inj.mp q)
              refine lv_iload hx hb by_d229 (lv_at hl 0 rfl) ?_
              refine lv_iload hx hb by_d231 (lv_at hl 2 rfl) ?_
              refine lv_icmp_eq hx hb by_d233 (tgt := 246) (by decide) (fun q233 => ?_) (fun q233 => ?_)
              · have q233_ : b.toInt = set.toInt := by rw [q233]
                refine lv_iconst hx hb by_d246 (v := 1) (by decide) ?_
                refine lv_goto hx hb by_d247 (tgt := 251) (by decide) ?_
                refine lv_istore hx hb by_d251 hl (by decide) (lv' := [(7, .int (1 : Int32)), (8, .int b), (6, .int set), (5, .int h), (4, .int end_), (0, .ref this), (1, .int fm), (2, .int to), (3, .int i)]) rfl fun ls hl => ?_
                obtain ⟨z253, hg_z253⟩ : ∃ z253 : Int32, b + Int32.ofInt 1 = z253 := ⟨_, rfl⟩
                have h_z253 : z253.toInt = b.toInt + 1 := by rw [← hg_z253]; exact y_inc (by decide) (by omega) (by omega)
                refine lv_iinc hx hb by_d253 hl (k := 1) rfl hg_z253 (by decide) (lv' := [(8, .int z253), (7, .int (1 : Int32)), (6, .int set), (5, .int h), (4, .int end_), (0, .ref this), (1, .int fm), (2, .int to), (3, .int i)]) rfl fun ls hl => ?_
                refine lv_goto hx hb by_d256 (tgt := 172) (by decide) ?_
                have hq : is = 0 := q190
                exact ih _ _ _ _ _ _ hI hY_this hY_bk hY_tr hY_ld hs_bk hs_tr hs_ld hA_bk hA_tr hA_ld (lv_sub hl [0, 1, 2, 3, 4, 5, 6, 7, 8] rfl) (by first | assumption | omega) (by first | assumption | omega) (fun q => by first | exact absurd rfl q | exact .inr ⟨by omega, b, by omega, by omega, by rw [show (1024 * (h.toInt + 1) + b.toInt).toNat = z224.toInt.toNat by omega, hg_e225]; exact q226, by first | exact .inl (Int32.toInt_inj.mp q233_) | exact .inr (hst_r240 q243)⟩) (fun _ => hC q190) (fun q t t0 t1 ⟨t2, t3⟩ => by first | exact absurd q (by decide) | (by_cases et : t = b; (subst et; first | (rw [show (1024 * (h.toInt + 1) + t.toInt).toNat = z224.toInt.toNat by omega, hg_e225] at t2; exact t2 q226) | (rcases t3 with t3 | t3; (exact q233 t3); exact hns_r240 q243 t3)); have et2 : ¬ t.toInt = b.toInt := fun e => et (Int32.toInt_inj.mp e); exact hC2 q190 t t0 (by omega) ⟨t2, t3⟩)) (by omega)
              · have q233_ : ¬ b.toInt = set.toInt := fun q => q233 (Int32.toInt_inj.mp q)
                refine lv_iload hx hb by_d236 (lv_at hl 2 rfl) ?_
                refine lv_iload hx hb by_d238 (lv_at hl 0 rfl) ?_
                refine y_call (z := (1, 257, 2, none, xM205)) (av := [.int set, .int b]) (rest := []) (y_cokS (n := 2) X ym_isStep (x_cons (x_bw82 1 rfl rfl) (x_cons (x_bw82 2 rfl rfl) (x_cons (x_bw0 9 rfl rfl) x_nilm))) (x_bw82 3 rfl rfl) (by decide +kernel) ⟨Nat.le_of_ble_eq_true rfl, Nat.le_of_ble_eq_true rfl⟩) hY0 hI rfl by_d240 hl.1 (Nat.le_of_ble_eq_true rfl) (Nat.le_of_ble_eq_true rfl) (Nat.le_of_ble_eq_true rfl) (y_cons ⟨_, rfl, x_i32 _⟩ (y_cons ⟨_, rfl, x_i32 _⟩ y_nil)) rfl (y_norecv rfl) trivial (y_sub_ef rfl) fun v Yn o Hn L ho hr ha hIn hx_ hE hP => ?_
                replace hs_bk := y_Efld hE hY_this rfl (by decide) (by decide) hs_bk
                replace hs_tr := y_Efld hE hY_this rfl (by decide) (by decide) hs_tr
                replace hs_ld := y_Efld hE hY_this rfl (by decide) (by decide) hs_ld
                replace hA_bk := hA_bk.kept (y_Earr hE hY_bk rfl (by decide))
                replace hA_tr := hA_tr.kept (y_Earr hE hY_tr rfl (by decide))
                replace hA_ld := hA_ld.kept (y_Earr hE hY_ld rfl (by decide))
                replace hY_this := y_ext hx_ hI.1 hY_this
                replace hY_bk := y_ext hx_ hI.1 hY_bk
                replace hY_tr := y_ext hx_ hI.1 hY_tr
                replace hY_ld := y_ext hx_ hI.1 hY_ld
                obtain ⟨r240, rfl, hst_r240, hns_r240⟩ : ∃ r : Int32, v = some (.int r) ∧ (¬ r = 0 → z_step set b) ∧ (r = 0 → ¬ z_step set b) := z_stepR (hP _ _ rfl)
                clear ho hr ha hE hP hI hx_
                rename x_I _ _ _ _ _ _ _ _ _ _ => hI
                refine lv_if_eq hx hb by_d243 (tgt := 250) (by decide) (fun q243 => ?_) (fun q243 => ?_)
                · have q243_ : r240.toInt = (0 : Int32).toInt := by rw [q243]
                  refine lv_iconst hx hb by_d250 (v := 0) (by decide) ?_
                  refine lv_istore hx hb by_d251 hl (by decide) (lv' := [(7, .int (0 : Int32)), (8, .int b), (6, .int set), (5, .int h), (4, .int end_), (0, .ref this), (1, .int fm), (2, .int to), (3, .int i)]) rfl fun ls hl => ?_
                  obtain ⟨z253, hg_z253⟩ : ∃ z253 : Int32, b + Int32.ofInt 1 = z253 := ⟨_, rfl⟩
                  have h_z253 : z253.toInt = b.toInt + 1 := by rw [← hg_z253]; exact y_inc (by decide) (by omega) (by omega)
                  refine lv_iinc hx hb by_d253 hl (k := 1) rfl hg_z253 (by decide) (lv' := [(8, .int z253), (7, .int (0 : Int32)), (6, .int set), (5, .int h), (4, .int end_), (0, .ref this), (1, .int fm), (2, .int to), (3, .int i)]) rfl fun ls hl => ?_
                  refine lv_goto hx hb by_d256 (tgt := 172) (by decide) ?_
                  have hq : is = 0 := q190
                  exact ih _ _ _ _ _ _ hI hY_this hY_bk hY_tr hY_ld hs_bk hs_tr hs_ld hA_bk hA_tr hA_ld (lv_sub hl [0, 1, 2, 3, 4, 5, 6, 7, 8] rfl) (by first | assumption | omega) (by first | assumption | omega) (fun q => by first | exact absurd rfl q | exact .inr ⟨by omega, b, by omega, by omega, by rw [show (1024 * (h.toInt + 1) + b.toInt).toNat = z224.toInt.toNat by omega, hg_e225]; exact q226, by first | exact .inl (Int32.toInt_inj.mp q233_) | exact .inr (hst_r240 q243)⟩) (fun _ => hC q190) (fun q t t0 t1 ⟨t2, t3⟩ => by first | exact absurd q (by decide) | (by_cases et : t = b; (subst et; first | (rw [show (1024 * (h.toInt + 1) + t.toInt).toNat = z224.toInt.toNat by omega, hg_e225] at t2; exact t2 q226) | (rcases t3 with t3 | t3; (exact q233 t3); exact hns_r240 q243 t3)); have et2 : ¬ t.toInt = b.toInt := fun e => et (Int32.toInt_inj.mp e); exact hC2 q190 t t0 (by omega) ⟨t2, t3⟩)) (by omega)
                · have q243_ : ¬ r240.toInt = (0 : Int32).toInt := fun q => q243 (Int32.toInt_inj.mp q)
                  refine lv_iconst hx hb by_d246 (v := 1) (by decide) ?_
                  refine lv_goto hx hb by_d247 (tgt := 251) (by decide) ?_
                  refine lv_istore hx hb by_d251 hl (by decide) (lv' := [(7, .int (1 : Int32)), (8, .int b), (6, .int set), (5, .int h), (4, .int end_), (0, .ref this), (1, .int fm), (2, .int to), (3, .int i)]) rfl fun ls hl => ?_
                  obtain ⟨z253, hg_z253⟩ : ∃ z253 : Int32, b + Int32.ofInt 1 = z253 := ⟨_, rfl⟩
                  have h_z253 : z253.toInt = b.toInt + 1 := by rw [← hg_z253]; exact y_inc (by decide) (by omega) (by omega)
                  refine lv_iinc hx hb by_d253 hl (k := 1) rfl hg_z253 (by decide) (lv' := [(8, .int z253), (7, .int (1 : Int32)), (6, .int set), (5, .int h), (4, .int end_), (0, .ref this), (1, .int fm), (2, .int to), (3, .int i)]) rfl fun ls hl => ?_
                  refine lv_goto hx hb by_d256 (tgt := 172) (by decide) ?_
                  have hq : is = 0 := q190
                  exact ih _ _ _ _ _ _ hI hY_this hY_bk hY_tr hY_ld hs_bk hs_tr hs_ld hA_bk hA_tr hA_ld (lv_sub hl [0, 1, 2, 3, 4, 5, 6, 7, 8] rfl) (by first | assumption | omega) (by first | assumption | omega) (fun q => by first | exact absurd rfl q | exact .inr ⟨by omega, b, by omega, by omega, by rw [show (1024 * (h.toInt + 1) + b.toInt).toNat = z224.toInt.toNat by omega, hg_e225]; exact q226, by first | exact .inl (Int32.toInt_inj.mp q233_) | exact .inr (hst_r240 q243)⟩) (fun _ => hC q190) (fun q t t0 t1 ⟨t2, t3⟩ => by first | exact absurd q (by decide) | (by_cases et : t = b; (subst et; first | (rw [show (1024 * (h.toInt + 1) + t.toInt).toNat = z224.toInt.toNat by omega, hg_e225] at t2; exact t2 q226) | (rcases t3 with t3 | t3; (exact q233 t3); exact hns_r240 q243 t3)); have et2 : ¬ t.toInt = b.toInt := fun e => et (Int32.toInt_inj.mp e); exact hC2 q190 t t0 (by omega) ⟨t2, t3⟩)) (by omega)
theorem by_L140 {p : Program} {l : Launch} {e : Env} {s : State} {m : MethodId} {below : List Frame} {meth : Method} {c : Code} {D : va_G} {U : State} {Y0 : xY} {av : List Value} (B : y_B vwCl x_Tb x_Nb xMby p s m meth c D U Y0 av) {this bk tr ld : Nat} {fm to i : Int32} {fb ff : Nat → Int32} (hN : 0 ≤ (z_all (fb 0)).toInt ∧ (z_all (fb 0)).toInt ≤ 1023) (hfm : 0 ≤ fm.toInt ∧ fm.toInt ≤ (z_all (fb 0)).toInt) (hto : 0 ≤ to.toInt ∧ to.toInt ≤ (z_all (fb 0)).toInt) (hi : -1 ≤ i.toInt) (hB_tr : ∀ j, j < 12288 → (0 : Int) ≤ (ff j).toInt ∧ (ff j).toInt ≤ 1) (hM : z_mall (z_all (fb 0)).toInt ff fm 12 0) {end_ : Int32} (hend : 0 ≤ end_.toInt ∧ end_.toInt ≤ 11) (hie : 0 ≤ i.toInt ∧ i.toInt ≤ end_.toInt) (hfe : ¬ ff (1024 * end_.toInt + to.toInt).toNat = 0) {h : Int32} (hh : 0 ≤ h.toInt ∧ h.toInt ≤ end_.toInt)
    (out132 : ∀ (H : Heap) (Y : xY) (locs : List Loc) (ls : Array Slot) (h1 : Int32) (gg : Nat → Int32), x_I D x_G x_Zs U (x_efs xMby) Y0 s.heap Y H locs → Y this = some 17 → Y bk = some 46 → Y tr = some 60 → Y ld = some 61 → x_sl D 12 0 this H = some (.ref bk) → x_sl D 12 23 this H = some (.ref tr) → x_sl D 12 24 this H = some (.ref ld) → y_A bk 160 H fb → y_A tr 12288 H ff → y_A ld 12288 H gg → lv_has ls xMby.2.2.1 [(5, .int h1), (4, .int end_), (0, .ref this), (1, .int fm), (2, .int to), (3, .int i)] → (∀ j, j < 12288 → (0 : Int) ≤ (gg j).toInt ∧ (gg j).toInt ≤ 1) → (-1 ≤ h1.toInt ∧ h1.toInt ≤ end_.toInt) → (z_lall (z_all (fb 0)).toInt ff gg end_.toInt to  h1.toInt) → (h1.toInt = h.toInt - 1) → W p l e (x_rm xMby) s m av.toArray below meth c H locs 0 0 (y_QQ below D x_G x_Zs U xMby y_TP av Y0 s) (F0 m 132 ls [])) :
    ∀ (n : Nat), ∀ (H : Heap) (Y : xY) (locs : List Loc) (ls : Array Slot) (set : Int32) (gg : Nat → Int32), x_I D x_G x_Zs U (x_efs xMby) Y0 s.heap Y H locs → Y this = some 17 → Y bk = some 46 → Y tr = some 60 → Y ld = some 61 → x_sl D 12 0 this H = some (.ref bk) → x_sl D 12 23 this H = some (.ref tr) → x_sl D 12 24 this H = some (.ref ld) → y_A bk 160 H fb → y_A tr 12288 H ff → y_A ld 12288 H gg → lv_has ls xMby.2.2.1 [(6, .int set), (5, .int h), (4, .int end_), (0, .ref this), (1, .int fm), (2, .int to), (3, .int i)] → (∀ j, j < 12288 → (0 : Int) ≤ (gg j).toInt ∧ (gg j).toInt ≤ 1) → (0 ≤ set.toInt ∧ set.toInt ≤ (z_all (fb 0)).toInt + 1) → (z_lall (z_all (fb 0)).toInt ff gg end_.toInt to  h.toInt) → (z_lrow (z_all (fb 0)).toInt ff gg end_.toInt to  h.toInt set.toInt) → (1024 - set.toInt).toNat < n → W p l e (x_rm xMby) s m av.toArray below meth c H locs 0 0 (y_QQ below D x_G x_Zs U xMby y_TP av Y0 s) (F0 m 140 ls []) := by
  have X := B.1
  have hx := X.1
  have hb := X.2.1
  have hY0 := B.2.2.2.2.1
  intro n
  induction n with
  | zero => intro _ _ _ _ _ _ _ _ _ _ _ _ _ _ _ _ _ _ _ _ _ _ h; exact absurd h (Nat.not_lt_zero _)
  | succ n ih =>
    intro H Y locs ls set gg hI hY_this hY_bk hY_tr hY_ld hs_bk hs_tr hs_ld hA_bk hA_tr hA_ld hl hB_ld hset0 hA hR hn
    refine lv_iload hx hb by_d140 (lv_at hl 0 rfl) ?_
    refine lv_aload_n hx hb by_d142 rfl (lv_at hl 3 rfl) ?_
    refine y_call (z := (0, 91, 1, some 17, xM182)) (av := [.ref this]) (rest := [.int set]) (y_cokV (n := 0) (ci := 12) X ym_all rfl rfl rfl (x_cons (x_bw77 4 rfl rfl) (x_cons (x_bw77 6 rfl rfl) (x_cons (x_at 49 (by decide +kernel) rfl) (x_cons (x_bw0 9 rfl rfl) x_nilm)))) (x_bw77 7 rfl rfl) (by decide +kernel) ⟨Nat.le_of_ble_eq_true rfl, Nat.le_of_ble_eq_true rfl⟩) hY0 hI rfl by_d143 hl.1 (Nat.le_of_ble_eq_true rfl) (Nat.le_of_ble_eq_true rfl) (Nat.le_of_ble_eq_true rfl) (y_cons (y_cref hY_this rfl) y_nil) rfl (y_recv rfl hY_this) trivial (y_sub_ef rfl) fun v Yn o Hn L ho hr ha hIn hx_ hE hP => ?_
    have hPv := hP _ _ _ rfl hs_bk (hA_bk 0 (by decide))
    replace hs_bk := y_Efld hE hY_this rfl (by decide) (by decide) hs_bk
    replace hs_tr := y_Efld hE hY_this rfl (by decide) (by decide) hs_tr
    replace hs_ld := y_Efld hE hY_this rfl (by decide) (by decide) hs_ld
    replace hA_bk := hA_bk.kept (y_Earr hE hY_bk rfl (by decide))
    replace hA_tr := hA_tr.kept (y_Earr hE hY_tr rfl (by decide))
    replace hA_ld := hA_ld.kept (y_Earr hE hY_ld rfl (by decide))
    replace hY_this := y_ext hx_ hI.1 hY_this
    replace hY_bk := y_ext hx_ hI.1 hY_bk
    replace hY_tr := y_ext hx_ hI.1 hY_tr
    replace hY_ld := y_ext hx_ hI.1 hY_ld
    obtain rfl := hPv
    clear ho hr ha hE hP hI hx_
    rename x_I _ _ _ _ _ _ _ _ _ _ => hI
    refine lv_icmp_gt hx hb by_d146 (tgt := 306) (by decide) (fun q146 => ?_) (fun q146 => ?_)
    · have q146_ : (z_all (fb 0)).toInt < set.toInt := x_lt32.mp q146
      obtain ⟨z306, hg_z306⟩ : ∃ z306 : Int32, h + Int32.ofInt (-1) = z306 := ⟨_, rfl⟩
      have h_z306 : z306.toInt = h.toInt + (-1) := by rw [← hg_z306]; exact y_inc (by decide) (by omega) (by omega)
      refine lv_iinc hx hb by_d306 hl (k := 1) rfl hg_z306 (by decide) (lv' := [(5, .int z306), (6, .int set), (4, .int end_), (0, .ref this), (1, .int fm), (2, .int to), (3, .int i)]) rfl fun ls hl => ?_
      refine lv_goto hx hb by_d309 (tgt := 132) (by decide) ?_
      exact out132 _ _ _ _ _ _ hI hY_this hY_bk hY_tr hY_ld hs_bk hs_tr hs_ld hA_bk hA_tr hA_ld (lv_sub hl [0, 2, 3, 4, 5, 6] rfl) (by first | assumption | omega) (by first | assumption | omega) (hA.next hR (by omega) (by omega) (by omega) (by omega) hM hto.1 hto.2 hfe (by omega)) (by first | assumption | omega)
    · have q146_ : set.toInt ≤ (z_all (fb 0)).toInt := Int.not_lt.mp fun q => q146 (x_lt32.mpr q)
      refine lv_iload hx hb by_d149 (lv_at hl 1 rfl) ?_
      refine lv_iload hx hb by_d151 (lv_at hl 2 rfl) ?_
      refine lv_icmp_ne hx hb by_d153 (tgt := 166) (by decide) (fun q153 => ?_) (fun q153 => ?_)
      · have q153_ : ¬ h.toInt = end_.toInt := fun q => q153 (Int32.toInt_inj.mp q)
        refine lv_iconst hx hb by_d166 (v := 0) (by decide) ?_
        have ec0 : (0 : Int32).toInt = 0 := by decide
        refine lv_istore hx hb by_d167 hl (by decide) (lv' := [(7, .int (0 : Int32)), (6, .int set), (5, .int h), (4, .int end_), (0, .ref this), (1, .int fm), (2, .int to), (3, .int i)]) rfl fun ls hl => ?_
        refine lv_iconst hx hb by_d169 (v := 0) (by decide) ?_
        refine lv_istore hx hb by_d170 hl (by decide) (lv' := [(8, .int (0 : Int32)), (7, .int (0 : Int32)), (6, .int set), (5, .int h), (4, .int end_), (0, .ref this), (1, .int fm), (2, .int to), (3, .int i)]) rfl fun ls hl => ?_
        exact by_L172 B hN hfm hto hi hB_tr hM (by first | assumption | omega) (by first | assumption | omega) (by first | assumption | omega) (by first | assumption | omega) (by first | assumption | omega) (by first | assumption | omega) (by first | assumption | omega) (by first | assumption | omega) (fun H Y locs ls set1 gg1 hI hY_this hY_bk hY_tr hY_ld hs_bk hs_tr hs_ld hA_bk hA_tr hA_ld hl hB_ld hset0 hA hR hs1 => ih _ _ _ _ _ _ hI hY_this hY_bk hY_tr hY_ld hs_bk hs_tr hs_ld hA_bk hA_tr hA_ld hl hB_ld hset0 hA hR (by omega)) 1025 _ _ _ _ _ _ hI hY_this hY_bk hY_tr hY_ld hs_bk hs_tr hs_ld hA_bk hA_tr hA_ld (lv_sub hl [0, 1, 2, 3, 4, 5, 6, 7, 8] rfl) (by first | assumption | omega) (by first | assumption | omega) (fun q => by first | exact absurd rfl q | exact .inl ⟨q153_, Int32.toInt_inj.mp q159_⟩) (fun q => by first | exact absurd q (by decide) | exact (fun q1 => q153_ q1.1) | exact (fun q1 => q159 q1.2)) (fun _ t t0 t1 => absurd t1 (by omega)) (by omega)
      · have q153_ : h.toInt = end_.toInt := by rw [q153]
        refine lv_iload hx hb by_d156 (lv_at hl 0 rfl) ?_
        refine lv_iload_n hx hb by_d158 rfl (lv_at hl 5 rfl) ?_
        refine lv_icmp_ne hx hb by_d159 (tgt := 166) (by decide) (fun q159 => ?_) (fun q159 => ?_)
        · have q159_ : ¬ set.toInt = to.toInt := fun q => q159 (Int32.toInt_inj.mp q)
          refine lv_iconst hx hb by_d166 (v := 0) (by decide) ?_
          have ec0 : (0 : Int32).toInt = 0 := by decide
          refine lv_istore hx hb by_d167 hl (by decide) (lv' := [(7, .int (0 : Int32)), (6, .int set), (5, .int h), (4, .int end_), (0, .ref this), (1, .int fm), (2, .int to), (3, .int i)]) rfl fun ls hl => ?_
          refine lv_iconst hx hb by_d169 (v := 0) (by decide) ?_
          refine lv_istore hx hb by_d170 hl (by decide) (lv' := [(8, .int (0 : Int32)), (7, .int (0 : Int32)), (6, .int set), (5, .int h), (4, .int end_), (0, .ref this), (1, .int fm), (2, .int to), (3, .int i)]) rfl fun ls hl => ?_
          exact by_L172 B hN hfm hto hi hB_tr hM (by first | assumption | omega) (by first | assumption | omega) (by first | assumption | omega) (by first | assumption | omega) (by first | assumption | omega) (by first | assumption | omega) (by first | assumption | omega) (by first | assumption | omega) (fun H Y locs ls set1 gg1 hI hY_this hY_bk hY_tr hY_ld hs_bk hs_tr hs_ld hA_bk hA_tr hA_ld hl hB_ld hset0 hA hR hs1 => ih _ _ _ _ _ _ hI hY_this hY_bk hY_tr hY_ld hs_bk hs_tr hs_ld hA_bk hA_tr hA_ld hl hB_ld hset0 hA hR (by omega)) 1025 _ _ _ _ _ _ hI hY_this hY_bk hY_tr hY_ld hs_bk hs_tr hs_ld hA_bk hA_tr hA_ld (lv_sub hl [0, 1, 2, 3, 4, 5, 6, 7, 8] rfl) (by first | assumption | omega) (by first | assumption | omega) (fun q => by first | exact absurd rfl q | exact .inl ⟨q153_, Int32.toInt_inj.mp q159_⟩) (fun q => by first | exact absurd q (by decide) | exact (fun q1 => q153_ q1.1) | exact (fun q1 => q159 q1.2)) (fun _ t t0 t1 => absurd t1 (by omega)) (by omega)
        · have q159_ : set.toInt = to.toInt := by rw [q159]
          refine lv_iconst hx hb by_d162 (v := 1) (by decide) ?_
          have ec1 : (1 : Int32).toInt = 1 := by decide
          refine lv_goto hx hb by_d163 (tgt := 167) (by decide) ?_
          refine lv_istore hx hb by_d167 hl (by decide) (lv' := [(7, .int (1 : Int32)), (6, .int set), (5, .int h), (4, .int end_), (0, .ref this), (1, .int fm), (2, .int to), (3, .int i)]) rfl fun ls hl => ?_
          refine lv_iconst hx hb by_d169 (v := 0) (by decide) ?_
          have ec0 : (0 : Int32).toInt = 0 := by decide
          refine lv_istore hx hb by_d170 hl (by decide) (lv' := [(8, .int (0 : Int32)), (7, .int (1 : Int32)), (6, .int set), (5, .int h), (4, .int end_), (0, .ref this), (1, .int fm), (2, .int to), (3, .int i)]) rfl fun ls hl => ?_
          exact by_L172 B hN hfm hto hi hB_tr hM (by first | assumption | omega) (by first | assumption | omega) (by first | assumption | omega) (by first | assumption | omega) (by first | assumption | omega) (by first | assumption | omega) (by first | assumption | omega) (by first | assumption | omega) (fun H Y locs ls set1 gg1 hI hY_this hY_bk hY_tr hY_ld hs_bk hs_tr hs_ld hA_bk hA_tr hA_ld hl hB_ld hset0 hA hR hs1 => ih _ _ _ _ _ _ hI hY_this hY_bk hY_tr hY_ld hs_bk hs_tr hs_ld hA_bk hA_tr hA_ld hl hB_ld hset0 hA hR (by omega)) 1025 _ _ _ _ _ _ hI hY_this hY_bk hY_tr hY_ld hs_bk hs_tr hs_ld hA_bk hA_tr hA_ld (lv_sub hl [0, 1, 2, 3, 4, 5, 6, 7, 8] rfl) (by first | assumption | omega) (by first | assumption | omega) (fun q => by first | exact absurd rfl q | exact .inl ⟨q153_, Int32.toInt_inj.mp q159_⟩) (fun q => by first | exact absurd q (by decide) | exact (fun q1 => q153_ q1.1) | exact (fun q1 => q159 q1.2)) (fun _ t t0 t1 => absurd t1 (by omega)) (by omega)
theorem by_L327 {p : Program} {l : Launch} {e : Env} {s : State} {m : MethodId} {below : List Frame} {meth : Method} {c : Code} {D : va_G} {U : State} {Y0 : xY} {av : List Value} (B : y_B vwCl x_Tb x_Nb xMby p s m meth c D U Y0 av) {this bk tr ld : Nat} {fm to i : Int32} {fb ff : Nat → Int32} (hN : 0 ≤ (z_all (fb 0)).toInt ∧ (z_all (fb 0)).toInt ≤ 1023) (hfm : 0 ≤ fm.toInt ∧ fm.toInt ≤ (z_all (fb 0)).toInt) (hto : 0 ≤ to.toInt ∧ to.toInt ≤ (z_all (fb 0)).toInt) (hi : -1 ≤ i.toInt) (hB_tr : ∀ j, j < 12288 → (0 : Int) ≤ (ff j).toInt ∧ (ff j).toInt ≤ 1) (hM : z_mall (z_all (fb 0)).toInt ff fm 12 0) {end_ : Int32} (hend : 0 ≤ end_.toInt ∧ end_.toInt ≤ 11) (hie : 0 ≤ i.toInt ∧ i.toInt ≤ end_.toInt) (hfe : ¬ ff (1024 * end_.toInt + to.toInt).toNat = 0) {gg : Nat → Int32} (hB_ld : ∀ j, j < 12288 → (0 : Int) ≤ (gg j).toInt ∧ (gg j).toInt ≤ 1) {h : Int32} (hh : 1 ≤ h.toInt ∧ h.toInt ≤ i.toInt) {set : Int32} (hset : 0 ≤ set.toInt ∧ set.toInt ≤ (z_all (fb 0)).toInt) {t : Int32} (ht : 0 ≤ t.toInt ∧ t.toInt ≤ (z_all (fb 0)).toInt) (htg : ¬ gg (1024 * h.toInt + t.toInt).toNat = 0) (hts : t = set ∨ z_step set t)
    (out318 : ∀ (H : Heap) (Y : xY) (locs : List Loc) (ls : Array Slot) (h1 : Int32) (set1 : Int32), x_I D x_G x_Zs U (x_efs xMby) Y0 s.heap Y H locs → Y this = some 17 → Y bk = some 46 → Y tr = some 60 → Y ld = some 61 → x_sl D 12 0 this H = some (.ref bk) → x_sl D 12 23 this H = some (.ref tr) → x_sl D 12 24 this H = some (.ref ld) → y_A bk 160 H fb → y_A tr 12288 H ff → y_A ld 12288 H gg → lv_has ls xMby.2.2.1 [(6, .int h1), (5, .int set1), (4, .int end_), (0, .ref this), (1, .int fm), (2, .int to), (3, .int i)] → (1 ≤ h1.toInt ∧ h1.toInt ≤ i.toInt + 1) → (0 ≤ set1.toInt ∧ set1.toInt ≤ (z_all (fb 0)).toInt) → (¬ gg (1024 * (h1.toInt - 1) + set1.toInt).toNat = 0) → (h1.toInt = h.toInt + 1) → W p l e (x_rm xMby) s m av.toArray below meth c H locs 0 0 (y_QQ below D x_G x_Zs U xMby y_TP av Y0 s) (F0 m 318 ls [])) :
    ∀ (n : Nat), ∀ (H : Heap) (Y : xY) (locs : List Loc) (ls : Array Slot) (next : Int32), x_I D x_G x_Zs U (x_efs xMby) Y0 s.heap Y H locs → Y this = some 17 → Y bk = some 46 → Y tr = some 60 → Y ld = some 61 → x_sl D 12 0 this H = some (.ref bk) → x_sl D 12 23 this H = some (.ref tr) → x_sl D 12 24 this H = some (.ref ld) → y_A bk 160 H fb → y_A tr 12288 H ff → y_A ld 12288 H gg → lv_has ls xMby.2.2.1 [(7, .int next), (6, .int h), (5, .int set), (4, .int end_), (0, .ref this), (1, .int fm), (2, .int to), (3, .int i)] → (0 ≤ next.toInt ∧ next.toInt ≤ t.toInt) → (1024 - next.toInt).toNat < n → W p l e (x_rm xMby) s m av.toArray below meth c H locs 0 0 (y_QQ below D x_G x_Zs U xMby y_TP av Y0 s) (F0 m 327 ls []) := by
  have X := B.1
  have hx := X.1
  have hb := X.2.1
  have hY0 := B.2.2.2.2.1
  intro n
  induction n with
  | zero => intro _ _ _ _ _ _ _ _ _ _ _ _ _ _ _ _ _ _ h; exact absurd h (Nat.not_lt_zero _)
  | succ n ih =>
    intro H Y locs ls next  hI hY_this hY_bk hY_tr hY_ld hs_bk hs_tr hs_ld hA_bk hA_tr hA_ld hl hn0 hn
    refine lv_aload_n hx hb by_d327 rfl (lv_at hl 4 rfl) ?_
    refine y_getf X (fl_by_209 X.2.2.2.2.1) hI.1 hY_this rfl hs_ld by_d328 ?_
    refine lv_sipush hx hb by_d331 (v := 1024) (by decide) ?_
    have ec1024 : (1024 : Int32).toInt = 1024 := by decide
    refine lv_iload hx hb by_d334 (lv_at hl 1 rfl) ?_
    refine lv_imul hx hb by_d336 ?_
    generalize hg_z336 : (1024 : Int32) * h = z336
    have h_z336 : z336.toInt = 1024 * h.toInt := by rw [← hg_z336]; have := y_mul (x := (1024 : Int32)) (y := h) (by rw [ec1024]; omega) (by rw [ec1024]; omega); rw [ec1024] at this; exact this
    refine lv_iload hx hb by_d337 (lv_at hl 0 rfl) ?_
    refine lv_iadd hx hb by_d339 ?_
    generalize hg_z339 : z336 + next = z339
    have h_z339 : z339.toInt = z336.toInt + next.toInt := by rw [← hg_z339]; have := y_add (x := z336) (y := next) (by omega) (by omega); exact this
    refine y_zald X hI.1 hY_ld rfl hA_ld (by omega) (by show _ < (12288 : Int); omega) by_d340 ?_
    obtain ⟨e340, hg_e340⟩ : ∃ e340 : Int32, gg z339.toInt.toNat = e340 := ⟨_, rfl⟩
    rw [hg_e340]
    have h_e340 : (0 : Int) ≤ e340.toInt ∧ e340.toInt ≤ 1 := by rw [← hg_e340]; exact hB_ld _ (by omega)
    have ec0 : (0 : Int32).toInt = 0 := by decide
    refine lv_if_eq hx hb by_d341 (tgt := 361) (by decide) (fun q341 => ?_) (fun q341 => ?_)
    · have q341_ : e340.toInt = (0 : Int32).toInt := by rw [q341]
      obtain ⟨z361, hg_z361⟩ : ∃ z361 : Int32, next + Int32.ofInt 1 = z361 := ⟨_, rfl⟩
      have h_z361 : z361.toInt = next.toInt + 1 := by rw [← hg_z361]; exact y_inc (by decide) (by omega) (by omega)
      refine lv_iinc hx hb by_d361 hl (k := 0) rfl hg_z361 (by decide) (lv' := [(7, .int z361), (6, .int h), (5, .int set), (4, .int end_), (0, .ref this), (1, .int fm), (2, .int to), (3, .int i)]) rfl fun ls hl => ?_
      refine lv_goto hx hb by_d364 (tgt := 327) (by decide) ?_
      exact ih _ _ _ _ _ hI hY_this hY_bk hY_tr hY_ld hs_bk hs_tr hs_ld hA_bk hA_tr hA_ld (lv_sub hl [0, 1, 2, 3, 4, 5, 6, 7] rfl) (by have : ¬ next = t := (fun e => by first | (rw [← e, show (1024 * h.toInt + next.toInt).toNat = z339.toInt.toNat by omega, hg_e340] at htg; exact htg q341) | (rw [← e] at hts; rcases hts with hts | hts; (exact q348 hts); exact hns_r355 q358 hts)); have : ¬ next.toInt = t.toInt := fun e => this (Int32.toInt_inj.mp e); omega) (by have : ¬ next = t := (fun e => by first | (rw [← e, show (1024 * h.toInt + next.toInt).toNat = z339.toInt.toNat by omega, hg_e340] at htg; exact htg q341) | (rw [← e] at hts; rcases hts with hts | hts; (exact q348 hts); exact hns_r355 q358 hts)); have : ¬ next.toInt = t.toInt := fun e => this (Int32.toInt_inj.mp e); omega)
    · have q341_ : ¬ e340.toInt = (0 : Int32).toInt := fun q => q341 (Int32.toInt_inj.mp q)
      refine lv_iload hx hb by_d344 (lv_at hl 0 rfl) ?_
      refine lv_iload hx hb by_d346 (lv_at hl 2 rfl) ?_
      refine lv_icmp_eq hx hb by_d348 (tgt := 367) (by decide) (fun q348 => ?_) (fun q348 => ?_)
      · have q348_ : next.toInt = set.toInt := by rw [q348]
        refine lv_iload hx hb by_d367 (lv_at hl 0 rfl) ?_
        refine lv_istore hx hb by_d369 hl (by decide) (lv' := [(5, .int next), (7, .int next), (6, .int h), (4, .int end_), (0, .ref this), (1, .int fm), (2, .int to), (3, .int i)]) rfl fun ls hl => ?_
        obtain ⟨z371, hg_z371⟩ : ∃ z371 : Int32, h + Int32.ofInt 1 = z371 := ⟨_, rfl⟩
        have h_z371 : z371.toInt = h.toInt + 1 := by rw [← hg_z371]; exact y_inc (by decide) (by omega) (by omega)
        refine lv_iinc hx hb by_d371 hl (k := 2) rfl hg_z371 (by decide) (lv' := [(6, .int z371), (5, .int next), (7, .int next), (4, .int end_), (0, .ref this), (1, .int fm), (2, .int to), (3, .int i)]) rfl fun ls hl => ?_
        refine lv_goto hx hb by_d374 (tgt := 318) (by decide) ?_
        exact out318 _ _ _ _ _ _ hI hY_this hY_bk hY_tr hY_ld hs_bk hs_tr hs_ld hA_bk hA_tr hA_ld (lv_sub hl [0, 1, 3, 4, 5, 6, 7] rfl) (by first | assumption | omega) (by first | assumption | omega) (by rw [show (1024 * (z371.toInt - 1) + next.toInt).toNat = z339.toInt.toNat by omega, hg_e340]; exact q341) (by first | assumption | omega)
      · have q348_ : ¬ next.toInt = set.toInt := fun q => q348 (Int32.toInt_inj.mp q)
        refine lv_iload hx hb by_d351 (lv_at hl 2 rfl) ?_
        refine lv_iload hx hb by_d353 (lv_at hl 0 rfl) ?_
        refine y_call (z := (1, 257, 2, none, xM205)) (av := [.int set, .int next]) (rest := []) (y_cokS (n := 2) X ym_isStep (x_cons (x_bw82 1 rfl rfl) (x_cons (x_bw82 2 rfl rfl) (x_cons (x_bw0 9 rfl rfl) x_nilm))) (x_bw82 3 rfl rfl) (by decide +kernel) ⟨Nat.le_of_ble_eq_true rfl, Nat.le_of_ble_eq_true rfl⟩) hY0 hI rfl by_d355 hl.1 (Nat.le_of_ble_eq_true rfl) (Nat.le_of_ble_eq_true rfl) (Nat.le_of_ble_eq_true rfl) (y_cons ⟨_, rfl, x_i32 _⟩ (y_cons ⟨_, rfl, x_i32 _⟩ y_nil)) rfl (y_norecv rfl) trivial (y_sub_ef rfl) fun v Yn o Hn L ho hr ha hIn hx_ hE hP => ?_
        replace hs_bk := y_Efld hE hY_this rfl (by decide) (by decide) hs_bk
        replace hs_tr := y_Efld hE hY_this rfl (by decide) (by decide) hs_tr
        replace hs_ld := y_Efld hE hY_this rfl (by decide) (by decide) hs_ld
        replace hA_bk := hA_bk.kept (y_Earr hE hY_bk rfl (by decide))
        replace hA_tr := hA_tr.kept (y_Earr hE hY_tr rfl (by decide))
        replace hA_ld := hA_ld.kept (y_Earr hE hY_ld rfl (by decide))
        replace hY_this := y_ext hx_ hI.1 hY_this
        replace hY_bk := y_ext hx_ hI.1 hY_bk
        replace hY_tr := y_ext hx_ hI.1 hY_tr
        replace hY_ld := y_ext hx_ hI.1 hY_ld
        obtain ⟨r355, rfl, hst_r355, hns_r355⟩ : ∃ r : Int32, v = some (.int r) ∧ (¬ r = 0 → z_step set next) ∧ (r = 0 → ¬ z_step set next) := z_stepR (hP _ _ rfl)
        clear ho hr ha hE hP hI hx_
        rename x_I _ _ _ _ _ _ _ _ _ _ => hI
        refine lv_if_ne hx hb by_d358 (tgt := 367) (by decide) (fun q358 => ?_) (fun q358 => ?_)
        · have q358_ : ¬ r355.toInt = (0 : Int32).toInt := fun q => q358 (Int32.toInt_inj.mp q)
          refine lv_iload hx hb by_d367 (lv_at hl 0 rfl) ?_
          refine lv_istore hx hb by_d369 hl (by decide) (lv' := [(5, .int next), (7, .int next), (6, .int h), (4, .int end_), (0, .ref this), (1, .int fm), (2, .int to), (3, .int i)]) rfl fun ls hl => ?_
          obtain ⟨z371, hg_z371⟩ : ∃ z371 : Int32, h + Int32.ofInt 1 = z371 := ⟨_, rfl⟩
          have h_z371 : z371.toInt = h.toInt + 1 := by rw [← hg_z371]; exact y_inc (by decide) (by omega) (by omega)
          refine lv_iinc hx hb by_d371 hl (k := 2) rfl hg_z371 (by decide) (lv' := [(6, .int z371), (5, .int next), (7, .int next), (4, .int end_), (0, .ref this), (1, .int fm), (2, .int to), (3, .int i)]) rfl fun ls hl => ?_
          refine lv_goto hx hb by_d374 (tgt := 318) (by decide) ?_
          exact out318 _ _ _ _ _ _ hI hY_this hY_bk hY_tr hY_ld hs_bk hs_tr hs_ld hA_bk hA_tr hA_ld (lv_sub hl [0, 1, 3, 4, 5, 6, 7] rfl) (by first | assumption | omega) (by first | assumption | omega) (by rw [show (1024 * (z371.toInt - 1) + next.toInt).toNat = z339.toInt.toNat by omega, hg_e340]; exact q341) (by first | assumption | omega)
        · have q358_ : r355.toInt = (0 : Int32).toInt := by rw [q358]
          obtain ⟨z361, hg_z361⟩ : ∃ z361 : Int32, next + Int32.ofInt 1 = z361 := ⟨_, rfl⟩
          have h_z361 : z361.toInt = next.toInt + 1 := by rw [← hg_z361]; exact y_inc (by decide) (by omega) (by omega)
          refine lv_iinc hx hb by_d361 hl (k := 0) rfl hg_z361 (by decide) (lv' := [(7, .int z361), (6, .int h), (5, .int set), (4, .int end_), (0, .ref this), (1, .int fm), (2, .int to), (3, .int i)]) rfl fun ls hl => ?_
          refine lv_goto hx hb by_d364 (tgt := 327) (by decide) ?_
          exact ih _ _ _ _ _ hI hY_this hY_bk hY_tr hY_ld hs_bk hs_tr hs_ld hA_bk hA_tr hA_ld (lv_sub hl [0, 1, 2, 3, 4, 5, 6, 7] rfl) (by have : ¬ next = t := (fun e => by first | (rw [← e, show (1024 * h.toInt + next.toInt).toNat = z339.toInt.toNat by omega, hg_e340] at htg; exact htg q341) | (rw [← e] at hts; rcases hts with hts | hts; (exact q348 hts); exact hns_r355 q358 hts)); have : ¬ next.toInt = t.toInt := fun e => this (Int32.toInt_inj.mp e); omega) (by have : ¬ next = t := (fun e => by first | (rw [← e, show (1024 * h.toInt + next.toInt).toNat = z339.toInt.toNat by omega, hg_e340] at htg; exact htg q341) | (rw [← e] at hts; rcases hts with hts | hts; (exact q348 hts); exact hns_r355 q358 hts)); have : ¬ next.toInt = t.toInt := fun e => this (Int32.toInt_inj.mp e); omega)
theorem by_L318 {p : Program} {l : Launch} {e : Env} {s : State} {m : MethodId} {below : List Frame} {meth : Method} {c : Code} {D : va_G} {U : State} {Y0 : xY} {av : List Value} (B : y_B vwCl x_Tb x_Nb xMby p s m meth c D U Y0 av) {this bk tr ld : Nat} {fm to i : Int32} {fb ff : Nat → Int32} (hN : 0 ≤ (z_all (fb 0)).toInt ∧ (z_all (fb 0)).toInt ≤ 1023) (hfm : 0 ≤ fm.toInt ∧ fm.toInt ≤ (z_all (fb 0)).toInt) (hto : 0 ≤ to.toInt ∧ to.toInt ≤ (z_all (fb 0)).toInt) (hi : -1 ≤ i.toInt) (hB_tr : ∀ j, j < 12288 → (0 : Int) ≤ (ff j).toInt ∧ (ff j).toInt ≤ 1) (hM : z_mall (z_all (fb 0)).toInt ff fm 12 0) {end_ : Int32} (hend : 0 ≤ end_.toInt ∧ end_.toInt ≤ 11) (hie : 0 ≤ i.toInt ∧ i.toInt ≤ end_.toInt) (hfe : ¬ ff (1024 * end_.toInt + to.toInt).toNat = 0) {gg : Nat → Int32} (hB_ld : ∀ j, j < 12288 → (0 : Int) ≤ (gg j).toInt ∧ (gg j).toInt ≤ 1) (hA : z_lall (z_all (fb 0)).toInt ff gg end_.toInt to  (-1)) :
    ∀ (n : Nat), ∀ (H : Heap) (Y : xY) (locs : List Loc) (ls : Array Slot) (h : Int32) (set : Int32), x_I D x_G x_Zs U (x_efs xMby) Y0 s.heap Y H locs → Y this = some 17 → Y bk = some 46 → Y tr = some 60 → Y ld = some 61 → x_sl D 12 0 this H = some (.ref bk) → x_sl D 12 23 this H = some (.ref tr) → x_sl D 12 24 this H = some (.ref ld) → y_A bk 160 H fb → y_A tr 12288 H ff → y_A ld 12288 H gg → lv_has ls xMby.2.2.1 [(6, .int h), (5, .int set), (4, .int end_), (0, .ref this), (1, .int fm), (2, .int to), (3, .int i)] → (1 ≤ h.toInt ∧ h.toInt ≤ i.toInt + 1) → (0 ≤ set.toInt ∧ set.toInt ≤ (z_all (fb 0)).toInt) → (¬ gg (1024 * (h.toInt - 1) + set.toInt).toNat = 0) → (13 - h.toInt).toNat < n → W p l e (x_rm xMby) s m av.toArray below meth c H locs 0 0 (y_QQ below D x_G x_Zs U xMby y_TP av Y0 s) (F0 m 318 ls []) := by
  have X := B.1
  have hx := X.1
  have hb := X.2.1
  have hY0 := B.2.2.2.2.1
  intro n
  induction n with
  | zero => intro _ _ _ _ _ _ _ _ _ _ _ _ _ _ _ _ _ _ _ _ _ h; exact absurd h (Nat.not_lt_zero _)
  | succ n ih =>
    intro H Y locs ls h set  hI hY_this hY_bk hY_tr hY_ld hs_bk hs_tr hs_ld hA_bk hA_tr hA_ld hl hh0 hset0 hgo hn
    refine lv_iload hx hb by_d318 (lv_at hl 0 rfl) ?_
    refine lv_iload_n hx hb by_d320 rfl (lv_at hl 6 rfl) ?_
    refine lv_icmp_gt hx hb by_d321 (tgt := 377) (by decide) (fun q321 => ?_) (fun q321 => ?_)
    · have q321_ : i.toInt < h.toInt := x_lt32.mp q321
      refine lv_iload hx hb by_d377 (lv_at hl 1 rfl) ?_
      exact y_ireturn B hI rfl rfl rfl List.mem_cons_self ⟨_, rfl, ⟨_, rfl, x_i32 _⟩⟩ (x_cs.mono B.2.2.2.2.2 (y_mon B hI)) trivial (Nat.le_refl _) (Nat.le_refl _) by_d379
    · have q321_ : h.toInt ≤ i.toInt := Int.not_lt.mp fun q => q321 (x_lt32.mpr q)
      obtain ⟨t, t0, t1, t2, t3⟩ := hA.on (h := h.toInt) (s := set) (by omega) (by omega) (by omega) (by omega) hgo
      refine lv_iconst hx hb by_d324 (v := 0) (by decide) ?_
      have ec0 : (0 : Int32).toInt = 0 := by decide
      refine lv_istore hx hb by_d325 hl (by decide) (lv' := [(7, .int (0 : Int32)), (6, .int h), (5, .int set), (4, .int end_), (0, .ref this), (1, .int fm), (2, .int to), (3, .int i)]) rfl fun ls hl => ?_
      exact by_L327 B hN hfm hto hi hB_tr hM (by first | assumption | omega) (by first | assumption | omega) (by first | assumption | omega) (by first | assumption | omega) (by first | assumption | omega) (by first | assumption | omega) ⟨t0, t1⟩ t2 t3 (fun H Y locs ls h1 set1 hI hY_this hY_bk hY_tr hY_ld hs_bk hs_tr hs_ld hA_bk hA_tr hA_ld hl hh0 hset0 hgo hh1 => ih _ _ _ _ _ _ hI hY_this hY_bk hY_tr hY_ld hs_bk hs_tr hs_ld hA_bk hA_tr hA_ld hl (by omega) hset0 hgo (by omega)) 1025 _ _ _ _ _ hI hY_this hY_bk hY_tr hY_ld hs_bk hs_tr hs_ld hA_bk hA_tr hA_ld (lv_sub hl [0, 1, 2, 3, 4, 5, 6, 7] rfl) (by first | assumption | omega) (by omega)
theorem by_L132 {p : Program} {l : Launch} {e : Env} {s : State} {m : MethodId} {below : List Frame} {meth : Method} {c : Code} {D : va_G} {U : State} {Y0 : xY} {av : List Value} (B : y_B vwCl x_Tb x_Nb xMby p s m meth c D U Y0 av) {this bk tr ld : Nat} {fm to i : Int32} {fb ff : Nat → Int32} (hN : 0 ≤ (z_all (fb 0)).toInt ∧ (z_all (fb 0)).toInt ≤ 1023) (hfm : 0 ≤ fm.toInt ∧ fm.toInt ≤ (z_all (fb 0)).toInt) (hto : 0 ≤ to.toInt ∧ to.toInt ≤ (z_all (fb 0)).toInt) (hi : -1 ≤ i.toInt) (hB_tr : ∀ j, j < 12288 → (0 : Int) ≤ (ff j).toInt ∧ (ff j).toInt ≤ 1) (hM : z_mall (z_all (fb 0)).toInt ff fm 12 0) {end_ : Int32} (hend : 0 ≤ end_.toInt ∧ end_.toInt ≤ 11) (hie : 0 ≤ i.toInt ∧ i.toInt ≤ end_.toInt) (hfe : ¬ ff (1024 * end_.toInt + to.toInt).toNat = 0) :
    ∀ (n : Nat), ∀ (H : Heap) (Y : xY) (locs : List Loc) (ls : Array Slot) (h : Int32) (gg : Nat → Int32), x_I D x_G x_Zs U (x_efs xMby) Y0 s.heap Y H locs → Y this = some 17 → Y bk = some 46 → Y tr = some 60 → Y ld = some 61 → x_sl D 12 0 this H = some (.ref bk) → x_sl D 12 23 this H = some (.ref tr) → x_sl D 12 24 this H = some (.ref ld) → y_A bk 160 H fb → y_A tr 12288 H ff → y_A ld 12288 H gg → lv_has ls xMby.2.2.1 [(5, .int h), (4, .int end_), (0, .ref this), (1, .int fm), (2, .int to), (3, .int i)] → (∀ j, j < 12288 → (0 : Int) ≤ (gg j).toInt ∧ (gg j).toInt ≤ 1) → (-1 ≤ h.toInt ∧ h.toInt ≤ end_.toInt) → (z_lall (z_all (fb 0)).toInt ff gg end_.toInt to  h.toInt) → (h.toInt + 1).toNat < n → W p l e (x_rm xMby) s m av.toArray below meth c H locs 0 0 (y_QQ below D x_G x_Zs U xMby y_TP av Y0 s) (F0 m 132 ls []) := by
  have X := B.1
  have hx := X.1
  have hb := X.2.1
  have hY0 := B.2.2.2.2.1
  intro n
  induction n with
  | zero => intro _ _ _ _ _ _ _ _ _ _ _ _ _ _ _ _ _ _ _ _ _ h; exact absurd h (Nat.not_lt_zero _)
  | succ n ih =>
    intro H Y locs ls h gg hI hY_this hY_bk hY_tr hY_ld hs_bk hs_tr hs_ld hA_bk hA_tr hA_ld hl hB_ld hh0 hA hn
    refine lv_iload hx hb by_d132 (lv_at hl 0 rfl) ?_
    have ec0 : (0 : Int32).toInt = 0 := by decide
    refine lv_if_lt hx hb by_d134 (tgt := 312) (by decide) (fun q134 => ?_) (fun q134 => ?_)
    · have q134_ : h.toInt < (0 : Int32).toInt := x_lt32.mp q134
      refine lv_iload_n hx hb by_d312 rfl (lv_at hl 3 rfl) ?_
      refine lv_istore hx hb by_d313 hl (by decide) (lv' := [(5, .int fm), (4, .int end_), (0, .ref this), (1, .int fm), (2, .int to), (3, .int i)]) rfl fun ls hl => ?_
      refine lv_iconst hx hb by_d315 (v := 1) (by decide) ?_
      have ec1 : (1 : Int32).toInt = 1 := by decide
      refine lv_istore hx hb by_d316 hl (by decide) (lv' := [(6, .int (1 : Int32)), (5, .int fm), (4, .int end_), (0, .ref this), (1, .int fm), (2, .int to), (3, .int i)]) rfl fun ls hl => ?_
      have hgo := hA.first (fm := fm) (by omega) (by omega) (by omega) hM hfm.1 hfm.2
      have hA1 := hA
      rw [show h.toInt = -1 by omega] at hA1
      exact by_L318 B hN hfm hto hi hB_tr hM (by first | assumption | omega) (by first | assumption | omega) (by first | assumption | omega) (by first | assumption | omega) hA1 14 _ _ _ _ _ _ hI hY_this hY_bk hY_tr hY_ld hs_bk hs_tr hs_ld hA_bk hA_tr hA_ld (lv_sub hl [0, 1, 2, 3, 4, 5, 6] rfl) (by first | assumption | omega) (by first | assumption | omega) (by rw [show (1 : Int32).toInt - 1 = 0 by decide]; exact hgo) (by omega)
    · have q134_ : (0 : Int32).toInt ≤ h.toInt := Int.not_lt.mp fun q => q134 (x_lt32.mpr q)
      refine lv_iconst hx hb by_d137 (v := 0) (by decide) ?_
      refine lv_istore hx hb by_d138 hl (by decide) (lv' := [(6, .int (0 : Int32)), (5, .int h), (4, .int end_), (0, .ref this), (1, .int fm), (2, .int to), (3, .int i)]) rfl fun ls hl => ?_
      exact by_L140 B hN hfm hto hi hB_tr hM (by first | assumption | omega) (by first | assumption | omega) (by first | assumption | omega) (by first | assumption | omega) (fun H Y locs ls h1 gg hI hY_this hY_bk hY_tr hY_ld hs_bk hs_tr hs_ld hA_bk hA_tr hA_ld hl hB_ld hh0 hA hh1 => ih _ _ _ _ _ _ hI hY_this hY_bk hY_tr hY_ld hs_bk hs_tr hs_ld hA_bk hA_tr hA_ld hl hB_ld hh0 hA (by omega)) 1025 _ _ _ _ _ _ hI hY_this hY_bk hY_tr hY_ld hs_bk hs_tr hs_ld hA_bk hA_tr hA_ld (lv_sub hl [0, 1, 2, 3, 4, 5, 6] rfl) (by first | assumption | omega) (by first | assumption | omega) (by first | assumption | omega) (fun t t0 t1 => absurd t1 (by omega)) (by omega)
theorem by_L54 {p : Program} {l : Launch} {e : Env} {s : State} {m : MethodId} {below : List Frame} {meth : Method} {c : Code} {D : va_G} {U : State} {Y0 : xY} {av : List Value} (B : y_B vwCl x_Tb x_Nb xMby p s m meth c D U Y0 av) {this bk tr ld : Nat} {fm to i : Int32} {fb ff : Nat → Int32} (hN : 0 ≤ (z_all (fb 0)).toInt ∧ (z_all (fb 0)).toInt ≤ 1023) (hfm : 0 ≤ fm.toInt ∧ fm.toInt ≤ (z_all (fb 0)).toInt) (hto : 0 ≤ to.toInt ∧ to.toInt ≤ (z_all (fb 0)).toInt) (hi : -1 ≤ i.toInt) (hB_tr : ∀ j, j < 12288 → (0 : Int) ≤ (ff j).toInt ∧ (ff j).toInt ≤ 1) (hM : z_mall (z_all (fb 0)).toInt ff fm 12 0)  :
    ∀ (n : Nat), ∀ (H : Heap) (Y : xY) (locs : List Loc) (ls : Array Slot) (end_ : Int32) (gg : Nat → Int32), x_I D x_G x_Zs U (x_efs xMby) Y0 s.heap Y H locs → Y this = some 17 → Y bk = some 46 → Y tr = some 60 → Y ld = some 61 → x_sl D 12 0 this H = some (.ref bk) → x_sl D 12 23 this H = some (.ref tr) → x_sl D 12 24 this H = some (.ref ld) → y_A bk 160 H fb → y_A tr 12288 H ff → y_A ld 12288 H gg → lv_has ls xMby.2.2.1 [(4, .int end_), (0, .ref this), (1, .int fm), (2, .int to), (3, .int i)] → (∀ j, j < 12288 → (0 : Int) ≤ (gg j).toInt ∧ (gg j).toInt ≤ 1) → (0 ≤ end_.toInt ∧ end_.toInt ≤ 12) → (12 - end_.toInt).toNat < n → W p l e (x_rm xMby) s m av.toArray below meth c H locs 0 0 (y_QQ below D x_G x_Zs U xMby y_TP av Y0 s) (F0 m 54 ls []) := by
  have X := B.1
  have hx := X.1
  have hb := X.2.1
  have hY0 := B.2.2.2.2.1
  intro n
  induction n with
  | zero => intro _ _ _ _ _ _ _ _ _ _ _ _ _ _ _ _ _ _ _ _ h; exact absurd h (Nat.not_lt_zero _)
  | succ n ih =>
    intro H Y locs ls end_ gg hI hY_this hY_bk hY_tr hY_ld hs_bk hs_tr hs_ld hA_bk hA_tr hA_ld hl hB_ld hend0 hn
    refine lv_iload hx hb by_d54 (lv_at hl 0 rfl) ?_
    refine lv_bipush hx hb by_d56 (v := 12) (by decide) ?_
    have ec12 : (12 : Int32).toInt = 12 := by decide
    refine lv_icmp_ge hx hb by_d58 (tgt := 94) (by decide) (fun q58 => ?_) (fun q58 => ?_)
    · have q58_ : (12 : Int32).toInt ≤ end_.toInt := x_le32.mp q58
      refine lv_iload hx hb by_d94 (lv_at hl 0 rfl) ?_
      refine lv_bipush hx hb by_d96 (v := 12) (by decide) ?_
      refine lv_icmp_ne hx hb by_d98 (tgt := 104) (by decide) (fun q98 => ?_) (fun q98 => ?_)
      · have q98_ : ¬ end_.toInt = (12 : Int32).toInt := fun q => q98 (Int32.toInt_inj.mp q)
        refine lv_iload_n hx hb by_d104 rfl (lv_at hl 4 rfl) ?_
        refine lv_iconst hx hb by_d105 (v := (-1)) (by decide) ?_
        have ecm1 : ((-1) : Int32).toInt = (-1) := by decide
        refine lv_icmp_eq hx hb by_d106 (tgt := 115) (by decide) (fun q106 => ?_) (fun q106 => ?_)
        · have q106_ : i.toInt = ((-1) : Int32).toInt := by rw [q106]
          refine lv_iload_n hx hb by_d115 rfl (lv_at hl 4 rfl) ?_
          refine lv_iconst hx hb by_d116 (v := (-1)) (by decide) ?_
          refine lv_icmp_ne hx hb by_d117 (tgt := 125) (by decide) (fun q117 => ?_) (fun q117 => ?_)
          · have q117_ : ¬ i.toInt = ((-1) : Int32).toInt := fun q => q117 (Int32.toInt_inj.mp q)
            refine lv_bipush hx hb by_d125 (v := (-5)) (by decide) ?_
            have ecm5 : ((-5) : Int32).toInt = (-5) := by decide
            exact y_ireturn B hI rfl rfl rfl List.mem_cons_self ⟨_, rfl, ⟨_, rfl, x_i32 _⟩⟩ (x_cs.mono B.2.2.2.2.2 (y_mon B hI)) trivial (Nat.le_refl _) (Nat.le_refl _) by_d127
          · have q117_ : i.toInt = ((-1) : Int32).toInt := by rw [q117]
            refine lv_iload hx hb by_d120 (lv_at hl 0 rfl) ?_
            refine lv_goto hx hb by_d122 (tgt := 127) (by decide) ?_
            exact y_ireturn B hI rfl rfl rfl List.mem_cons_self ⟨_, rfl, ⟨_, rfl, x_i32 _⟩⟩ (x_cs.mono B.2.2.2.2.2 (y_mon B hI)) trivial (Nat.le_refl _) (Nat.le_refl _) by_d127
        · have q106_ : ¬ i.toInt = ((-1) : Int32).toInt := fun q => q106 (Int32.toInt_inj.mp q)
          refine lv_iload_n hx hb by_d109 rfl (lv_at hl 4 rfl) ?_
          refine lv_iload hx hb by_d110 (lv_at hl 0 rfl) ?_
          refine lv_icmp_le hx hb by_d112 (tgt := 128) (by decide) (fun q112 => ?_) (fun q112 => ?_)
          · have q112_ : i.toInt ≤ end_.toInt := x_le32.mp q112
            refine lv_iload hx hb by_d128 (lv_at hl 0 rfl) ?_
            refine lv_istore hx hb by_d130 hl (by decide) (lv' := [(5, .int end_), (4, .int end_), (0, .ref this), (1, .int fm), (2, .int to), (3, .int i)]) rfl fun ls hl => ?_
            exact by_L132 B hN hfm hto hi hB_tr hM (by first | assumption | omega) (by first | assumption | omega) (by first | (rw [show (1024 * end_.toInt + to.toInt).toNat = z83.toInt.toNat by omega, hg_e84]; exact q85) | omega) 14 _ _ _ _ _ _ hI hY_this hY_bk hY_tr hY_ld hs_bk hs_tr hs_ld hA_bk hA_tr hA_ld (lv_sub hl [0, 1, 2, 3, 4, 5] rfl) (by first | assumption | omega) (by first | assumption | omega) ⟨fun h t a1 a2 => absurd a1 (by omega), fun a1 => absurd a1 (by omega)⟩ (by omega)
          · have q112_ : end_.toInt < i.toInt := Int.not_le.mp fun q => q112 (x_le32.mpr q)
            refine lv_iload_n hx hb by_d115 rfl (lv_at hl 4 rfl) ?_
            refine lv_iconst hx hb by_d116 (v := (-1)) (by decide) ?_
            refine lv_icmp_ne hx hb by_d117 (tgt := 125) (by decide) (fun q117 => ?_) (fun q117 => ?_)
            · have q117_ : ¬ i.toInt = ((-1) : Int32).toInt := fun q => q117 (Int32.toInt_inj.mp q)
              refine lv_bipush hx hb by_d125 (v := (-5)) (by decide) ?_
              have ecm5 : ((-5) : Int32).toInt = (-5) := by decide
              exact y_ireturn B hI rfl rfl rfl List.mem_cons_self ⟨_, rfl, ⟨_, rfl, x_i32 _⟩⟩ (x_cs.mono B.2.2.2.2.2 (y_mon B hI)) trivial (Nat.le_refl _) (Nat.le_refl _) by_d127
            · have q117_ : i.toInt = ((-1) : Int32).toInt := by rw [q117]
              refine lv_iload hx hb by_d120 (lv_at hl 0 rfl) ?_
              refine lv_goto hx hb by_d122 (tgt := 127) (by decide) ?_
              exact y_ireturn B hI rfl rfl rfl List.mem_cons_self ⟨_, rfl, ⟨_, rfl, x_i32 _⟩⟩ (x_cs.mono B.2.2.2.2.2 (y_mon B hI)) trivial (Nat.le_refl _) (Nat.le_refl _) by_d127
      · have q98_ : end_.toInt = (12 : Int32).toInt := by rw [q98]
        refine lv_bipush hx hb by_d101 (v := (-6)) (by decide) ?_
        have ecm6 : ((-6) : Int32).toInt = (-6) := by decide
        exact y_ireturn B hI rfl rfl rfl List.mem_cons_self ⟨_, rfl, ⟨_, rfl, x_i32 _⟩⟩ (x_cs.mono B.2.2.2.2.2 (y_mon B hI)) trivial (Nat.le_refl _) (Nat.le_refl _) by_d103
    · have q58_ : end_.toInt < (12 : Int32).toInt := Int.not_le.mp fun q => q58 (x_le32.mpr q)
      refine lv_aload_n hx hb by_d61 rfl (lv_at hl 1 rfl) ?_
      refine y_getf X (fl202 X.2.2.2.2.1) hI.1 hY_this rfl hs_tr by_d62 ?_
      refine lv_sipush hx hb by_d65 (v := 1024) (by decide) ?_
      have ec1024 : (1024 : Int32).toInt = 1024 := by decide
      refine lv_iload hx hb by_d68 (lv_at hl 0 rfl) ?_
      refine lv_bipush hx hb by_d70 (v := 12) (by decide) ?_
      refine lv_icmp_ge hx hb by_d72 (tgt := 80) (by decide) (fun q72 => ?_) (fun q72 => ?_)
      · have q72_ : (12 : Int32).toInt ≤ end_.toInt := x_le32.mp q72
        refine lv_iconst hx hb by_d80 (v := 0) (by decide) ?_
        have ec0 : (0 : Int32).toInt = 0 := by decide
        refine lv_imul hx hb by_d81 ?_
        generalize hg_z81 : (1024 : Int32) * (0 : Int32) = z81
        have h_z81 : z81.toInt = 1024 * 0 := by rw [← hg_z81]; have := y_mul (x := (1024 : Int32)) (y := (0 : Int32)) (by rw [ec1024, ec0]; omega) (by rw [ec1024, ec0]; omega); rw [ec1024, ec0] at this; exact this
        refine lv_iload_n hx hb by_d82 rfl (lv_at hl 3 rfl) ?_
        refine lv_iadd hx hb by_d83 ?_
        generalize hg_z83 : z81 + to = z83
        have h_z83 : z83.toInt = z81.toInt + to.toInt := by rw [← hg_z83]; have := y_add (x := z81) (y := to) (by omega) (by omega); exact this
        refine y_zald X hI.1 hY_tr rfl hA_tr (by omega) (by show _ < (12288 : Int); omega) by_d84 ?_
        obtain ⟨e84, hg_e84⟩ : ∃ e84 : Int32, ff z83.toInt.toNat = e84 := ⟨_, rfl⟩
        rw [hg_e84]
        have h_e84 : (0 : Int) ≤ e84.toInt ∧ e84.toInt ≤ 1 := by rw [← hg_e84]; exact hB_tr _ (by omega)
        refine lv_if_ne hx hb by_d85 (tgt := 94) (by decide) (fun q85 => ?_) (fun q85 => ?_)
        · have q85_ : ¬ e84.toInt = (0 : Int32).toInt := fun q => q85 (Int32.toInt_inj.mp q)
          refine lv_iload hx hb by_d94 (lv_at hl 0 rfl) ?_
          refine lv_bipush hx hb by_d96 (v := 12) (by decide) ?_
          refine lv_icmp_ne hx hb by_d98 (tgt := 104) (by decide) (fun q98 => ?_) (fun q98 => ?_)
          · have q98_ : ¬ end_.toInt = (12 : Int32).toInt := fun q => q98 (Int32.toInt_inj.mp q)
            refine lv_iload_n hx hb by_d104 rfl (lv_at hl 4 rfl) ?_
            refine lv_iconst hx hb by_d105 (v := (-1)) (by decide) ?_
            have ecm1 : ((-1) : Int32).toInt = (-1) := by decide
            refine lv_icmp_eq hx hb by_d106 (tgt := 115) (by decide) (fun q106 => ?_) (fun q106 => ?_)
            · have q106_ : i.toInt = ((-1) : Int32).toInt := by rw [q106]
              refine lv_iload_n hx hb by_d115 rfl (lv_at hl 4 rfl) ?_
              refine lv_iconst hx hb by_d116 (v := (-1)) (by decide) ?_
              refine lv_icmp_ne hx hb by_d117 (tgt := 125) (by decide) (fun q117 => ?_) (fun q117 => ?_)
              · have q117_ : ¬ i.toInt = ((-1) : Int32).toInt := fun q => q117 (Int32.toInt_inj.mp q)
                refine lv_bipush hx hb by_d125 (v := (-5)) (by decide) ?_
                have ecm5 : ((-5) : Int32).toInt = (-5) := by decide
                exact y_ireturn B hI rfl rfl rfl List.mem_cons_self ⟨_, rfl, ⟨_, rfl, x_i32 _⟩⟩ (x_cs.mono B.2.2.2.2.2 (y_mon B hI)) trivial (Nat.le_refl _) (Nat.le_refl _) by_d127
              · have q117_ : i.toInt = ((-1) : Int32).toInt := by rw [q117]
                refine lv_iload hx hb by_d120 (lv_at hl 0 rfl) ?_
                refine lv_goto hx hb by_d122 (tgt := 127) (by decide) ?_
                exact y_ireturn B hI rfl rfl rfl List.mem_cons_self ⟨_, rfl, ⟨_, rfl, x_i32 _⟩⟩ (x_cs.mono B.2.2.2.2.2 (y_mon B hI)) trivial (Nat.le_refl _) (Nat.le_refl _) by_d127
            · have q106_ : ¬ i.toInt = ((-1) : Int32).toInt := fun q => q106 (Int32.toInt_inj.mp q)
              refine lv_iload_n hx hb by_d109 rfl (lv_at hl 4 rfl) ?_
              refine lv_iload hx hb by_d110 (lv_at hl 0 rfl) ?_
              refine lv_icmp_le hx hb by_d112 (tgt := 128) (by decide) (fun q112 => ?_) (fun q112 => ?_)
              · have q112_ : i.toInt ≤ end_.toInt := x_le32.mp q112
                refine lv_iload hx hb by_d128 (lv_at hl 0 rfl) ?_
                refine lv_istore hx hb by_d130 hl (by decide) (lv' := [(5, .int end_), (4, .int end_), (0, .ref this), (1, .int fm), (2, .int to), (3, .int i)]) rfl fun ls hl => ?_
                exact by_L132 B hN hfm hto hi hB_tr hM (by first | assumption | omega) (by first | assumption | omega) (by first | (rw [show (1024 * end_.toInt + to.toInt).toNat = z83.toInt.toNat by omega, hg_e84]; exact q85) | omega) 14 _ _ _ _ _ _ hI hY_this hY_bk hY_tr hY_ld hs_bk hs_tr hs_ld hA_bk hA_tr hA_ld (lv_sub hl [0, 1, 2, 3, 4, 5] rfl) (by first | assumption | omega) (by first | assumption | omega) ⟨fun h t a1 a2 => absurd a1 (by omega), fun a1 => absurd a1 (by omega)⟩ (by omega)
              · have q112_ : end_.toInt < i.toInt := Int.not_le.mp fun q => q112 (x_le32.mpr q)
                refine lv_iload_n hx hb by_d115 rfl (lv_at hl 4 rfl) ?_
                refine lv_iconst hx hb by_d116 (v := (-1)) (by decide) ?_
                refine lv_icmp_ne hx hb by_d117 (tgt := 125) (by decide) (fun q117 => ?_) (fun q117 => ?_)
                · have q117_ : ¬ i.toInt = ((-1) : Int32).toInt := fun q => q117 (Int32.toInt_inj.mp q)
                  refine lv_bipush hx hb by_d125 (v := (-5)) (by decide) ?_
                  have ecm5 : ((-5) : Int32).toInt = (-5) := by decide
                  exact y_ireturn B hI rfl rfl rfl List.mem_cons_self ⟨_, rfl, ⟨_, rfl, x_i32 _⟩⟩ (x_cs.mono B.2.2.2.2.2 (y_mon B hI)) trivial (Nat.le_refl _) (Nat.le_refl _) by_d127
                · have q117_ : i.toInt = ((-1) : Int32).toInt := by rw [q117]
                  refine lv_iload hx hb by_d120 (lv_at hl 0 rfl) ?_
                  refine lv_goto hx hb by_d122 (tgt := 127) (by decide) ?_
                  exact y_ireturn B hI rfl rfl rfl List.mem_cons_self ⟨_, rfl, ⟨_, rfl, x_i32 _⟩⟩ (x_cs.mono B.2.2.2.2.2 (y_mon B hI)) trivial (Nat.le_refl _) (Nat.le_refl _) by_d127
          · have q98_ : end_.toInt = (12 : Int32).toInt := by rw [q98]
            refine lv_bipush hx hb by_d101 (v := (-6)) (by decide) ?_
            have ecm6 : ((-6) : Int32).toInt = (-6) := by decide
            exact y_ireturn B hI rfl rfl rfl List.mem_cons_self ⟨_, rfl, ⟨_, rfl, x_i32 _⟩⟩ (x_cs.mono B.2.2.2.2.2 (y_mon B hI)) trivial (Nat.le_refl _) (Nat.le_refl _) by_d103
        · have q85_ : e84.toInt = (0 : Int32).toInt := by rw [q85]
          obtain ⟨z88, hg_z88⟩ : ∃ z88 : Int32, end_ + Int32.ofInt 1 = z88 := ⟨_, rfl⟩
          have h_z88 : z88.toInt = end_.toInt + 1 := by rw [← hg_z88]; exact y_inc (by decide) (by omega) (by omega)
          refine lv_iinc hx hb by_d88 hl (k := 0) rfl hg_z88 (by decide) (lv' := [(4, .int z88), (0, .ref this), (1, .int fm), (2, .int to), (3, .int i)]) rfl fun ls hl => ?_
          refine lv_goto hx hb by_d91 (tgt := 54) (by decide) ?_
          exact ih _ _ _ _ _ _ hI hY_this hY_bk hY_tr hY_ld hs_bk hs_tr hs_ld hA_bk hA_tr hA_ld (lv_sub hl [0, 1, 2, 3, 4] rfl) (by first | assumption | omega) (by first | assumption | omega) (by omega)
      · have q72_ : end_.toInt < (12 : Int32).toInt := Int.not_le.mp fun q => q72 (x_le32.mpr q)
        refine lv_iload hx hb by_d75 (lv_at hl 0 rfl) ?_
        refine lv_goto hx hb by_d77 (tgt := 81) (by decide) ?_
        refine lv_imul hx hb by_d81 ?_
        generalize hg_z81 : (1024 : Int32) * end_ = z81
        have h_z81 : z81.toInt = 1024 * end_.toInt := by rw [← hg_z81]; have := y_mul (x := (1024 : Int32)) (y := end_) (by rw [ec1024]; omega) (by rw [ec1024]; omega); rw [ec1024] at this; exact this
        refine lv_iload_n hx hb by_d82 rfl (lv_at hl 3 rfl) ?_
        refine lv_iadd hx hb by_d83 ?_
        generalize hg_z83 : z81 + to = z83
        have h_z83 : z83.toInt = z81.toInt + to.toInt := by rw [← hg_z83]; have := y_add (x := z81) (y := to) (by omega) (by omega); exact this
        refine y_zald X hI.1 hY_tr rfl hA_tr (by omega) (by show _ < (12288 : Int); omega) by_d84 ?_
        obtain ⟨e84, hg_e84⟩ : ∃ e84 : Int32, ff z83.toInt.toNat = e84 := ⟨_, rfl⟩
        rw [hg_e84]
        have h_e84 : (0 : Int) ≤ e84.toInt ∧ e84.toInt ≤ 1 := by rw [← hg_e84]; exact hB_tr _ (by omega)
        have ec0 : (0 : Int32).toInt = 0 := by decide
        refine lv_if_ne hx hb by_d85 (tgt := 94) (by decide) (fun q85 => ?_) (fun q85 => ?_)
        · have q85_ : ¬ e84.toInt = (0 : Int32).toInt := fun q => q85 (Int32.toInt_inj.mp q)
          refine lv_iload hx hb by_d94 (lv_at hl 0 rfl) ?_
          refine lv_bipush hx hb by_d96 (v := 12) (by decide) ?_
          refine lv_icmp_ne hx hb by_d98 (tgt := 104) (by decide) (fun q98 => ?_) (fun q98 => ?_)
          · have q98_ : ¬ end_.toInt = (12 : Int32).toInt := fun q => q98 (Int32.toInt_inj.mp q)
            refine lv_iload_n hx hb by_d104 rfl (lv_at hl 4 rfl) ?_
            refine lv_iconst hx hb by_d105 (v := (-1)) (by decide) ?_
            have ecm1 : ((-1) : Int32).toInt = (-1) := by decide
            refine lv_icmp_eq hx hb by_d106 (tgt := 115) (by decide) (fun q106 => ?_) (fun q106 => ?_)
            · have q106_ : i.toInt = ((-1) : Int32).toInt := by rw [q106]
              refine lv_iload_n hx hb by_d115 rfl (lv_at hl 4 rfl) ?_
              refine lv_iconst hx hb by_d116 (v := (-1)) (by decide) ?_
              refine lv_icmp_ne hx hb by_d117 (tgt := 125) (by decide) (fun q117 => ?_) (fun q117 => ?_)
              · have q117_ : ¬ i.toInt = ((-1) : Int32).toInt := fun q => q117 (Int32.toInt_inj.mp q)
                refine lv_bipush hx hb by_d125 (v := (-5)) (by decide) ?_
                have ecm5 : ((-5) : Int32).toInt = (-5) := by decide
                exact y_ireturn B hI rfl rfl rfl List.mem_cons_self ⟨_, rfl, ⟨_, rfl, x_i32 _⟩⟩ (x_cs.mono B.2.2.2.2.2 (y_mon B hI)) trivial (Nat.le_refl _) (Nat.le_refl _) by_d127
              · have q117_ : i.toInt = ((-1) : Int32).toInt := by rw [q117]
                refine lv_iload hx hb by_d120 (lv_at hl 0 rfl) ?_
                refine lv_goto hx hb by_d122 (tgt := 127) (by decide) ?_
                exact y_ireturn B hI rfl rfl rfl List.mem_cons_self ⟨_, rfl, ⟨_, rfl, x_i32 _⟩⟩ (x_cs.mono B.2.2.2.2.2 (y_mon B hI)) trivial (Nat.le_refl _) (Nat.le_refl _) by_d127
            · have q106_ : ¬ i.toInt = ((-1) : Int32).toInt := fun q => q106 (Int32.toInt_inj.mp q)
              refine lv_iload_n hx hb by_d109 rfl (lv_at hl 4 rfl) ?_
              refine lv_iload hx hb by_d110 (lv_at hl 0 rfl) ?_
              refine lv_icmp_le hx hb by_d112 (tgt := 128) (by decide) (fun q112 => ?_) (fun q112 => ?_)
              · have q112_ : i.toInt ≤ end_.toInt := x_le32.mp q112
                refine lv_iload hx hb by_d128 (lv_at hl 0 rfl) ?_
                refine lv_istore hx hb by_d130 hl (by decide) (lv' := [(5, .int end_), (4, .int end_), (0, .ref this), (1, .int fm), (2, .int to), (3, .int i)]) rfl fun ls hl => ?_
                exact by_L132 B hN hfm hto hi hB_tr hM (by first | assumption | omega) (by first | assumption | omega) (by first | (rw [show (1024 * end_.toInt + to.toInt).toNat = z83.toInt.toNat by omega, hg_e84]; exact q85) | omega) 14 _ _ _ _ _ _ hI hY_this hY_bk hY_tr hY_ld hs_bk hs_tr hs_ld hA_bk hA_tr hA_ld (lv_sub hl [0, 1, 2, 3, 4, 5] rfl) (by first | assumption | omega) (by first | assumption | omega) ⟨fun h t a1 a2 => absurd a1 (by omega), fun a1 => absurd a1 (by omega)⟩ (by omega)
              · have q112_ : end_.toInt < i.toInt := Int.not_le.mp fun q => q112 (x_le32.mpr q)
                refine lv_iload_n hx hb by_d115 rfl (lv_at hl 4 rfl) ?_
                refine lv_iconst hx hb by_d116 (v := (-1)) (by decide) ?_
                refine lv_icmp_ne hx hb by_d117 (tgt := 125) (by decide) (fun q117 => ?_) (fun q117 => ?_)
                · have q117_ : ¬ i.toInt = ((-1) : Int32).toInt := fun q => q117 (Int32.toInt_inj.mp q)
                  refine lv_bipush hx hb by_d125 (v := (-5)) (by decide) ?_
                  have ecm5 : ((-5) : Int32).toInt = (-5) := by decide
                  exact y_ireturn B hI rfl rfl rfl List.mem_cons_self ⟨_, rfl, ⟨_, rfl, x_i32 _⟩⟩ (x_cs.mono B.2.2.2.2.2 (y_mon B hI)) trivial (Nat.le_refl _) (Nat.le_refl _) by_d127
                · have q117_ : i.toInt = ((-1) : Int32).toInt := by rw [q117]
                  refine lv_iload hx hb by_d120 (lv_at hl 0 rfl) ?_
                  refine lv_goto hx hb by_d122 (tgt := 127) (by decide) ?_
                  exact y_ireturn B hI rfl rfl rfl List.mem_cons_self ⟨_, rfl, ⟨_, rfl, x_i32 _⟩⟩ (x_cs.mono B.2.2.2.2.2 (y_mon B hI)) trivial (Nat.le_refl _) (Nat.le_refl _) by_d127
          · have q98_ : end_.toInt = (12 : Int32).toInt := by rw [q98]
            refine lv_bipush hx hb by_d101 (v := (-6)) (by decide) ?_
            have ecm6 : ((-6) : Int32).toInt = (-6) := by decide
            exact y_ireturn B hI rfl rfl rfl List.mem_cons_self ⟨_, rfl, ⟨_, rfl, x_i32 _⟩⟩ (x_cs.mono B.2.2.2.2.2 (y_mon B hI)) trivial (Nat.le_refl _) (Nat.le_refl _) by_d103
        · have q85_ : e84.toInt = (0 : Int32).toInt := by rw [q85]
          obtain ⟨z88, hg_z88⟩ : ∃ z88 : Int32, end_ + Int32.ofInt 1 = z88 := ⟨_, rfl⟩
          have h_z88 : z88.toInt = end_.toInt + 1 := by rw [← hg_z88]; exact y_inc (by decide) (by omega) (by omega)
          refine lv_iinc hx hb by_d88 hl (k := 0) rfl hg_z88 (by decide) (lv' := [(4, .int z88), (0, .ref this), (1, .int fm), (2, .int to), (3, .int i)]) rfl fun ls hl => ?_
          refine lv_goto hx hb by_d91 (tgt := 54) (by decide) ?_
          exact ih _ _ _ _ _ _ hI hY_this hY_bk hY_tr hY_ld hs_bk hs_tr hs_ld hA_bk hA_tr hA_ld (lv_sub hl [0, 1, 2, 3, 4] rfl) (by first | assumption | omega) (by first | assumption | omega) (by omega)
theorem ym_byMists : y_Met vwCl x_G x_Zs x_Tb x_Nb xMby y_T y_TP := by
  refine y_main (by decide +kernel) (by decide +kernel) x_Tb_good x_Nb_ok ?_
  intro p l e s m below meth c D U Y0 av ls B hI _ hl
  have X := B.1
  have hx := X.1
  have hb := X.2.1
  have hY0 := B.2.2.2.2.1
  obtain ⟨v0, v1, v2, v3, rfl, hv0, ⟨fm, rfl, -⟩, ⟨to, rfl, -⟩, ⟨i, rfl, -⟩⟩ := y_four B.2.2.2.2.2
  obtain ⟨this, t0, rfl, ht0, hY_this⟩ := x_ref_at hv0 rfl
  obtain rfl := List.mem_singleton.mp ht0
  replace hl : lv_has ls xMby.2.2.1 [(0, .ref this), (1, .int fm), (2, .int to), (3, .int i)] := hl
  obtain ⟨bk, hs_bk, hY_bk⟩ := y_fldR (k := 0) hI.1 hY_this rfl rfl
  obtain ⟨tr, hs_tr, hY_tr⟩ := y_fldR (k := 23) hI.1 hY_this rfl rfl
  obtain ⟨ld, hs_ld, hY_ld⟩ := y_fldR (k := 24) hI.1 hY_this rfl rfl
  obtain ⟨fb, hA_bk, hB_bk⟩ := y_arr hI.1 hY_bk rfl rfl
  have hN : 0 ≤ (z_all (fb 0)).toInt ∧ (z_all (fb 0)).toInt ≤ 1023 := z_all_b (by obtain ⟨x, e0, e1⟩ := hB_bk 0 (by decide); cases e0; exact e1)
  refine lv_aload_n hx hb by_d0 rfl (lv_at hl 0 rfl) ?_
  refine lv_iload_n hx hb by_d1 rfl (lv_at hl 1 rfl) ?_
  refine y_call (z := (0, 237, 2, some 17, xM184)) (av := [.ref this, .int fm]) (rest := []) (y_cokV (n := 1) (ci := 12) X ym_isSet rfl rfl rfl (x_cons (x_bw77 0 rfl rfl) (x_cons (x_bw77 2 rfl rfl) (x_cons (x_at 48 (by decide +kernel) rfl) (x_cons (x_bw0 9 rfl rfl) x_nilm)))) (x_bw77 3 rfl rfl) (by decide +kernel) ⟨Nat.le_of_ble_eq_true rfl, Nat.le_of_ble_eq_true rfl⟩) hY0 hI rfl by_d2 hl.1 (Nat.le_of_ble_eq_true rfl) (Nat.le_of_ble_eq_true rfl) (Nat.le_of_ble_eq_true rfl) (y_cons (y_cref hY_this rfl) (y_cons ⟨_, rfl, x_i32 _⟩ y_nil)) rfl (y_recv rfl hY_this) trivial (y_sub_ef rfl) fun v Yn o Hn L ho hr ha hIn hx_ hE hP => ?_
  have hPv := hP _ _ _ _ rfl hs_bk (hA_bk 0 (by decide))
  replace hs_bk := y_Efld hE hY_this rfl (by decide) (by decide) hs_bk
  replace hs_tr := y_Efld hE hY_this rfl (by decide) (by decide) hs_tr
  replace hs_ld := y_Efld hE hY_this rfl (by decide) (by decide) hs_ld
  replace hA_bk := hA_bk.kept (y_Earr hE hY_bk rfl (by decide))
  replace hY_this := y_ext hx_ hI.1 hY_this
  replace hY_bk := y_ext hx_ hI.1 hY_bk
  replace hY_tr := y_ext hx_ hI.1 hY_tr
  replace hY_ld := y_ext hx_ hI.1 hY_ld
  obtain ⟨r2, rfl, hin_r2, hout_r2⟩ := hPv
  clear ho hr ha hE hP hI hx_
  rename x_I _ _ _ _ _ _ _ _ _ _ => hI
  have ec0 : (0 : Int32).toInt = 0 := by decide
  refine lv_if_eq hx hb by_d5 (tgt := 21) (by decide) (fun q5 => ?_) (fun q5 => ?_)
  · have q5_ : r2.toInt = (0 : Int32).toInt := by rw [q5]
    refine lv_aload_n hx hb by_d21 rfl (lv_at hl 0 rfl) ?_
    refine lv_iconst hx hb by_d22 (v := 0) (by decide) ?_
    refine lv_bipush hx hb by_d23 (v := (-10)) (by decide) ?_
    have ecm10 : ((-10) : Int32).toInt = (-10) := by decide
    refine y_call (z := (0, 76, 3, some 17, xM142)) (av := [.ref this, .int (0 : Int32), .int ((-10) : Int32)]) (rest := []) (y_cok.of (x_cokV (n := 2) (ci := 12) X xm142 rfl rfl rfl (x_cons (x_bw68 7 rfl rfl) (x_cons (x_bw68 9 rfl rfl) (x_cons (x_at 33 (by decide +kernel) rfl) (x_cons (x_bw0 9 rfl rfl) x_nilm)))) (x_bw68 10 rfl rfl) (by decide +kernel) ⟨Nat.le_of_ble_eq_true rfl, Nat.le_of_ble_eq_true rfl⟩)) hY0 hI rfl by_d25 hl.1 (Nat.le_of_ble_eq_true rfl) (Nat.le_of_ble_eq_true rfl) (Nat.le_of_ble_eq_true rfl) (y_cons (y_cref hY_this rfl) (y_cons ⟨_, rfl, by show (0 : Int) ≤ _; omega, by show _ ≤ (2 : Int); omega⟩ (y_cons ⟨_, rfl, x_i32 _⟩ y_nil))) rfl (y_recv rfl hY_this) trivial (y_sub_ef rfl) fun v Yn o Hn L ho hr ha hIn hx_ hE hP => ?_
    replace hs_bk := y_Efld hE hY_this rfl (by decide) (by decide) hs_bk
    replace hs_tr := y_Efld hE hY_this rfl (by decide) (by decide) hs_tr
    replace hs_ld := y_Efld hE hY_this rfl (by decide) (by decide) hs_ld
    replace hA_bk := hA_bk.kept (y_Earr hE hY_bk rfl (by decide))
    replace hY_this := y_ext hx_ hI.1 hY_this
    replace hY_bk := y_ext hx_ hI.1 hY_bk
    replace hY_tr := y_ext hx_ hI.1 hY_tr
    replace hY_ld := y_ext hx_ hI.1 hY_ld
    obtain ⟨r25, rfl, h_r25⟩ := y_ansI (lo := (-2147483648)) (hi := 2147483647) (by decide) ho hr
    clear ho hr ha hE hP hI hx_
    rename x_I _ _ _ _ _ _ _ _ _ _ => hI
    exact y_ireturn B hI rfl rfl rfl List.mem_cons_self ⟨_, rfl, ⟨_, rfl, x_i32 _⟩⟩ (x_cs.mono B.2.2.2.2.2 (y_mon B hI)) trivial (Nat.le_refl _) (Nat.le_refl _) by_d28
  · have q5_ : ¬ r2.toInt = (0 : Int32).toInt := fun q => q5 (Int32.toInt_inj.mp q)
    refine lv_aload_n hx hb by_d8 rfl (lv_at hl 0 rfl) ?_
    refine lv_iload_n hx hb by_d9 rfl (lv_at hl 2 rfl) ?_
    refine y_call (z := (0, 237, 2, some 17, xM184)) (av := [.ref this, .int to]) (rest := []) (y_cokV (n := 1) (ci := 12) X ym_isSet rfl rfl rfl (x_cons (x_bw77 0 rfl rfl) (x_cons (x_bw77 2 rfl rfl) (x_cons (x_at 48 (by decide +kernel) rfl) (x_cons (x_bw0 9 rfl rfl) x_nilm)))) (x_bw77 3 rfl rfl) (by decide +kernel) ⟨Nat.le_of_ble_eq_true rfl, Nat.le_of_ble_eq_true rfl⟩) hY0 hI rfl by_d10 hl.1 (Nat.le_of_ble_eq_true rfl) (Nat.le_of_ble_eq_true rfl) (Nat.le_of_ble_eq_true rfl) (y_cons (y_cref hY_this rfl) (y_cons ⟨_, rfl, x_i32 _⟩ y_nil)) rfl (y_recv rfl hY_this) trivial (y_sub_ef rfl) fun v Yn o Hn L ho hr ha hIn hx_ hE hP => ?_
    have hPv := hP _ _ _ _ rfl hs_bk (hA_bk 0 (by decide))
    replace hs_bk := y_Efld hE hY_this rfl (by decide) (by decide) hs_bk
    replace hs_tr := y_Efld hE hY_this rfl (by decide) (by decide) hs_tr
    replace hs_ld := y_Efld hE hY_this rfl (by decide) (by decide) hs_ld
    replace hA_bk := hA_bk.kept (y_Earr hE hY_bk rfl (by decide))
    replace hY_this := y_ext hx_ hI.1 hY_this
    replace hY_bk := y_ext hx_ hI.1 hY_bk
    replace hY_tr := y_ext hx_ hI.1 hY_tr
    replace hY_ld := y_ext hx_ hI.1 hY_ld
    obtain ⟨r10, rfl, hin_r10, hout_r10⟩ := hPv
    clear ho hr ha hE hP hI hx_
    rename x_I _ _ _ _ _ _ _ _ _ _ => hI
    refine lv_if_eq hx hb by_d13 (tgt := 21) (by decide) (fun q13 => ?_) (fun q13 => ?_)
    · have q13_ : r10.toInt = (0 : Int32).toInt := by rw [q13]
      refine lv_aload_n hx hb by_d21 rfl (lv_at hl 0 rfl) ?_
      refine lv_iconst hx hb by_d22 (v := 0) (by decide) ?_
      refine lv_bipush hx hb by_d23 (v := (-10)) (by decide) ?_
      have ecm10 : ((-10) : Int32).toInt = (-10) := by decide
      refine y_call (z := (0, 76, 3, some 17, xM142)) (av := [.ref this, .int (0 : Int32), .int ((-10) : Int32)]) (rest := []) (y_cok.of (x_cokV (n := 2) (ci := 12) X xm142 rfl rfl rfl (x_cons (x_bw68 7 rfl rfl) (x_cons (x_bw68 9 rfl rfl) (x_cons (x_at 33 (by decide +kernel) rfl) (x_cons (x_bw0 9 rfl rfl) x_nilm)))) (x_bw68 10 rfl rfl) (by decide +kernel) ⟨Nat.le_of_ble_eq_true rfl, Nat.le_of_ble_eq_true rfl⟩)) hY0 hI rfl by_d25 hl.1 (Nat.le_of_ble_eq_true rfl) (Nat.le_of_ble_eq_true rfl) (Nat.le_of_ble_eq_true rfl) (y_cons (y_cref hY_this rfl) (y_cons ⟨_, rfl, by show (0 : Int) ≤ _; omega, by show _ ≤ (2 : Int); omega⟩ (y_cons ⟨_, rfl, x_i32 _⟩ y_nil))) rfl (y_recv rfl hY_this) trivial (y_sub_ef rfl) fun v Yn o Hn L ho hr ha hIn hx_ hE hP => ?_
      replace hs_bk := y_Efld hE hY_this rfl (by decide) (by decide) hs_bk
      replace hs_tr := y_Efld hE hY_this rfl (by decide) (by decide) hs_tr
      replace hs_ld := y_Efld hE hY_this rfl (by decide) (by decide) hs_ld
      replace hA_bk := hA_bk.kept (y_Earr hE hY_bk rfl (by decide))
      replace hY_this := y_ext hx_ hI.1 hY_this
      replace hY_bk := y_ext hx_ hI.1 hY_bk
      replace hY_tr := y_ext hx_ hI.1 hY_tr
      replace hY_ld := y_ext hx_ hI.1 hY_ld
      obtain ⟨r25, rfl, h_r25⟩ := y_ansI (lo := (-2147483648)) (hi := 2147483647) (by decide) ho hr
      clear ho hr ha hE hP hI hx_
      rename x_I _ _ _ _ _ _ _ _ _ _ => hI
      exact y_ireturn B hI rfl rfl rfl List.mem_cons_self ⟨_, rfl, ⟨_, rfl, x_i32 _⟩⟩ (x_cs.mono B.2.2.2.2.2 (y_mon B hI)) trivial (Nat.le_refl _) (Nat.le_refl _) by_d28
    · have q13_ : ¬ r10.toInt = (0 : Int32).toInt := fun q => q13 (Int32.toInt_inj.mp q)
      refine lv_iload_n hx hb by_d16 rfl (lv_at hl 3 rfl) ?_
      refine lv_iconst hx hb by_d17 (v := (-1)) (by decide) ?_
      have ecm1 : ((-1) : Int32).toInt = (-1) := by decide
      refine lv_icmp_ge hx hb by_d18 (tgt := 29) (by decide) (fun q18 => ?_) (fun q18 => ?_)
      · have q18_ : ((-1) : Int32).toInt ≤ i.toInt := x_le32.mp q18
        refine lv_aload_n hx hb by_d29 rfl (lv_at hl 0 rfl) ?_
        refine lv_iload_n hx hb by_d30 rfl (lv_at hl 1 rfl) ?_
        refine y_call (z := (0, 269, 2, some 17, xM207)) (av := [.ref this, .int fm]) (rest := []) (y_cokV (n := 1) (ci := 12) X ym_mists rfl rfl rfl (x_cons (x_bw83 1 rfl rfl) (x_cons (x_bw83 3 rfl rfl) (x_cons (x_at 57 (by decide +kernel) rfl) (x_cons (x_bw0 9 rfl rfl) x_nilm)))) (x_bw83 4 rfl rfl) (by decide +kernel) ⟨Nat.le_of_ble_eq_true rfl, Nat.le_of_ble_eq_true rfl⟩) hY0 hI rfl by_d31 hl.1 (Nat.le_of_ble_eq_true rfl) (Nat.le_of_ble_eq_true rfl) (Nat.le_of_ble_eq_true rfl) (y_cons (y_cref hY_this rfl) (y_cons ⟨_, rfl, x_i32 _⟩ y_nil)) rfl (y_recv rfl hY_this) trivial (y_sub_ef rfl) fun v Yn o Hn L ho hr ha hIn hx_ hE hP => ?_
        have hPm := hP _ _ _ _ _ rfl hs_bk hA_bk hs_tr
        replace hs_bk := y_Efld hE hY_this rfl (by decide) (by decide) hs_bk
        replace hs_tr := y_Efld hE hY_this rfl (by decide) (by decide) hs_tr
        replace hs_ld := y_Efld hE hY_this rfl (by decide) (by decide) hs_ld
        replace hA_bk := hA_bk.kept (y_Earr hE hY_bk rfl (by decide))
        replace hY_this := y_ext hx_ hI.1 hY_this
        replace hY_bk := y_ext hx_ hI.1 hY_bk
        replace hY_tr := y_ext hx_ hI.1 hY_tr
        replace hY_ld := y_ext hx_ hI.1 hY_ld
        obtain rfl := y_ansV rfl ho hr
        obtain ⟨ff, hA_tr, hB_tr, hM⟩ := hPm
        obtain ⟨gg, hA_ld, hB_ld⟩ := y_arr hIn.1 hY_ld rfl rfl
        replace hB_ld : ∀ j, j < 12288 → (0 : Int) ≤ (gg j).toInt ∧ (gg j).toInt ≤ 1 := fun j hj => by obtain ⟨x, e0, e1⟩ := hB_ld j hj; cases e0; exact e1
        have hfm := hin_r2 q5
        have hto := hin_r10 q13
        clear ho hr ha hE hP hI hx_
        rename x_I _ _ _ _ _ _ _ _ _ _ => hI
        refine lv_aload_n hx hb by_d34 rfl (lv_at hl 0 rfl) ?_
        obtain ⟨this_lawsAt, hs_this_lawsAt, hY_this_lawsAt⟩ := y_fldR (k := 22) hI.1 hY_this rfl rfl
        refine y_getf X (fl201 X.2.2.2.2.1) hI.1 hY_this rfl hs_this_lawsAt by_d35 ?_
        refine lv_iload_n hx hb by_d38 rfl (lv_at hl 1 rfl) ?_
        obtain ⟨f_this_lawsAt, hA_this_lawsAt, hB_this_lawsAt⟩ := y_arr hI.1 hY_this_lawsAt rfl rfl
        replace hB_this_lawsAt : ∀ j, j < 12288 → (0 : Int) ≤ (f_this_lawsAt j).toInt ∧ (f_this_lawsAt j).toInt ≤ 1 := fun j hj => by obtain ⟨x, e0, e1⟩ := hB_this_lawsAt j hj; cases e0; exact e1
        refine y_zald X hI.1 hY_this_lawsAt rfl hA_this_lawsAt (by omega) (by show _ < (12288 : Int); omega) by_d39 ?_
        obtain ⟨e39, hg_e39⟩ : ∃ e39 : Int32, f_this_lawsAt fm.toInt.toNat = e39 := ⟨_, rfl⟩
        rw [hg_e39]
        have h_e39 : (0 : Int) ≤ e39.toInt ∧ e39.toInt ≤ 1 := by rw [← hg_e39]; exact hB_this_lawsAt _ (by omega)
        refine lv_if_ne hx hb by_d40 (tgt := 51) (by decide) (fun q40 => ?_) (fun q40 => ?_)
        · have q40_ : ¬ e39.toInt = (0 : Int32).toInt := fun q => q40 (Int32.toInt_inj.mp q)
          refine lv_iconst hx hb by_d51 (v := 0) (by decide) ?_
          refine lv_istore hx hb by_d52 hl (by decide) (lv' := [(4, .int (0 : Int32)), (0, .ref this), (1, .int fm), (2, .int to), (3, .int i)]) rfl fun ls hl => ?_
          have hi : -1 ≤ i.toInt := by omega
          have hfm2 : 0 ≤ fm.toInt ∧ fm.toInt ≤ (z_all (fb 0)).toInt := by omega
          have hto2 : 0 ≤ to.toInt ∧ to.toInt ≤ (z_all (fb 0)).toInt := by omega
          exact by_L54 B hN hfm2 hto2 hi hB_tr hM 13 _ _ _ _ _ _ hI hY_this hY_bk hY_tr hY_ld hs_bk hs_tr hs_ld hA_bk hA_tr hA_ld (lv_sub hl [0, 1, 2, 3, 4] rfl) (by first | assumption | omega) (by first | assumption | omega) (by omega)
        · have q40_ : e39.toInt = (0 : Int32).toInt := by rw [q40]
          refine lv_aload_n hx hb by_d43 rfl (lv_at hl 0 rfl) ?_
          refine lv_iconst hx hb by_d44 (v := 1) (by decide) ?_
          have ec1 : (1 : Int32).toInt = 1 := by decide
          refine lv_bipush hx hb by_d45 (v := (-20)) (by decide) ?_
          have ecm20 : ((-20) : Int32).toInt = (-20) := by decide
          refine y_call (z := (0, 76, 3, some 17, xM142)) (av := [.ref this, .int (1 : Int32), .int ((-20) : Int32)]) (rest := []) (y_cok.of (x_cokV (n := 2) (ci := 12) X xm142 rfl rfl rfl (x_cons (x_bw68 7 rfl rfl) (x_cons (x_bw68 9 rfl rfl) (x_cons (x_at 33 (by decide +kernel) rfl) (x_cons (x_bw0 9 rfl rfl) x_nilm)))) (x_bw68 10 rfl rfl) (by decide +kernel) ⟨Nat.le_of_ble_eq_true rfl, Nat.le_of_ble_eq_true rfl⟩)) hY0 hI rfl by_d47 hl.1 (Nat.le_of_ble_eq_true rfl) (Nat.le_of_ble_eq_true rfl) (Nat.le_of_ble_eq_true rfl) (y_cons (y_cref hY_this rfl) (y_cons ⟨_, rfl, by show (0 : Int) ≤ _; omega, by show _ ≤ (2 : Int); omega⟩ (y_cons ⟨_, rfl, x_i32 _⟩ y_nil))) rfl (y_recv rfl hY_this) trivial (y_sub_ef rfl) fun v Yn o Hn L ho hr ha hIn hx_ hE hP => ?_
          replace hs_bk := y_Efld hE hY_this rfl (by decide) (by decide) hs_bk
          replace hs_tr := y_Efld hE hY_this rfl (by decide) (by decide) hs_tr
          replace hs_ld := y_Efld hE hY_this rfl (by decide) (by decide) hs_ld
          replace hs_this_lawsAt := y_Efld hE hY_this rfl (by decide) (by decide) hs_this_lawsAt
          replace hA_bk := hA_bk.kept (y_Earr hE hY_bk rfl (by decide))
          replace hA_tr := hA_tr.kept (y_Earr hE hY_tr rfl (by decide))
          replace hA_ld := hA_ld.kept (y_Earr hE hY_ld rfl (by decide))
          replace hA_this_lawsAt := hA_this_lawsAt.kept (y_Earr hE hY_this_lawsAt rfl (by decide))
          replace hY_this := y_ext hx_ hI.1 hY_this
          replace hY_bk := y_ext hx_ hI.1 hY_bk
          replace hY_tr := y_ext hx_ hI.1 hY_tr
          replace hY_ld := y_ext hx_ hI.1 hY_ld
          replace hY_this_lawsAt := y_ext hx_ hI.1 hY_this_lawsAt
          obtain ⟨r47, rfl, h_r47⟩ := y_ansI (lo := (-2147483648)) (hi := 2147483647) (by decide) ho hr
          clear ho hr ha hE hP hI hx_
          rename x_I _ _ _ _ _ _ _ _ _ _ => hI
          exact y_ireturn B hI rfl rfl rfl List.mem_cons_self ⟨_, rfl, ⟨_, rfl, x_i32 _⟩⟩ (x_cs.mono B.2.2.2.2.2 (y_mon B hI)) trivial (Nat.le_refl _) (Nat.le_refl _) by_d50
      · have q18_ : i.toInt < ((-1) : Int32).toInt := Int.not_le.mp fun q => q18 (x_le32.mpr q)
        refine lv_aload_n hx hb by_d21 rfl (lv_at hl 0 rfl) ?_
        refine lv_iconst hx hb by_d22 (v := 0) (by decide) ?_
        refine lv_bipush hx hb by_d23 (v := (-10)) (by decide) ?_
        have ecm10 : ((-10) : Int32).toInt = (-10) := by decide
        refine y_call (z := (0, 76, 3, some 17, xM142)) (av := [.ref this, .int (0 : Int32), .int ((-10) : Int32)]) (rest := []) (y_cok.of (x_cokV (n := 2) (ci := 12) X xm142 rfl rfl rfl (x_cons (x_bw68 7 rfl rfl) (x_cons (x_bw68 9 rfl rfl) (x_cons (x_at 33 (by decide +kernel) rfl) (x_cons (x_bw0 9 rfl rfl) x_nilm)))) (x_bw68 10 rfl rfl) (by decide +kernel) ⟨Nat.le_of_ble_eq_true rfl, Nat.le_of_ble_eq_true rfl⟩)) hY0 hI rfl by_d25 hl.1 (Nat.le_of_ble_eq_true rfl) (Nat.le_of_ble_eq_true rfl) (Nat.le_of_ble_eq_true rfl) (y_cons (y_cref hY_this rfl) (y_cons ⟨_, rfl, by show (0 : Int) ≤ _; omega, by show _ ≤ (2 : Int); omega⟩ (y_cons ⟨_, rfl, x_i32 _⟩ y_nil))) rfl (y_recv rfl hY_this) trivial (y_sub_ef rfl) fun v Yn o Hn L ho hr ha hIn hx_ hE hP => ?_
        replace hs_bk := y_Efld hE hY_this rfl (by decide) (by decide) hs_bk
        replace hs_tr := y_Efld hE hY_this rfl (by decide) (by decide) hs_tr
        replace hs_ld := y_Efld hE hY_this rfl (by decide) (by decide) hs_ld
        replace hA_bk := hA_bk.kept (y_Earr hE hY_bk rfl (by decide))
        replace hY_this := y_ext hx_ hI.1 hY_this
        replace hY_bk := y_ext hx_ hI.1 hY_bk
        replace hY_tr := y_ext hx_ hI.1 hY_tr
        replace hY_ld := y_ext hx_ hI.1 hY_ld
        obtain ⟨r25, rfl, h_r25⟩ := y_ansI (lo := (-2147483648)) (hi := 2147483647) (by decide) ho hr
        clear ho hr ha hE hP hI hx_
        rename x_I _ _ _ _ _ _ _ _ _ _ => hI
        exact y_ireturn B hI rfl rfl rfl List.mem_cons_self ⟨_, rfl, ⟨_, rfl, x_i32 _⟩⟩ (x_cs.mono B.2.2.2.2.2 (y_mon B hI)) trivial (Nat.le_refl _) (Nat.le_refl _) by_d28

