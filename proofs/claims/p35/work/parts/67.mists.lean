def z_mc (N : Int) (ff : Nat → Int32) (fm : Int32) (h : Int) (s : Int32) : Prop := (h = 0 ∧ s = fm) ∨ (0 < h ∧ ∃ a : Int32, 0 ≤ a.toInt ∧ a.toInt ≤ N ∧ ¬ ff (1024 * (h - 1) + a.toInt).toNat = 0 ∧ (a = s ∨ z_step a s))
def z_mq (N : Int) (ff : Nat → Int32) (fm : Int32) (h : Int) (s : Int32) : Prop := ¬ ff (1024 * h + s.toInt).toNat = 0 → z_mc N ff fm h s
def z_mall (N : Int) (ff : Nat → Int32) (fm : Int32) (h k : Int) : Prop := (∀ (h' : Int) (s : Int32), 0 ≤ h' → h' < h → 0 ≤ s.toInt → s.toInt ≤ N → z_mq N ff fm h' s) ∧ (∀ s : Int32, 0 ≤ s.toInt → s.toInt < k → s.toInt ≤ N → z_mq N ff fm h s)
theorem z_mc.up {N : Int} {ff : Nat → Int32} {fm : Int32} {h0 h : Int} {s i v : Int32} (hN : N ≤ 1023) (hi : 1024 * h ≤ i.toInt) (hh : h0 ≤ h) (h : z_mc N ff fm h0 s) : z_mc N (y_up ff i.toInt.toNat v) fm h0 s := by
  rcases h with h | ⟨h1, a, h2, h3, h4, h5⟩
  · exact .inl h
  · exact .inr ⟨h1, a, h2, h3, by rw [y_up_ne (by omega)]; exact h4, h5⟩
theorem z_mall.store {N : Int} {ff : Nat → Int32} {fm : Int32} {h k k' : Int} {s i v : Int32} (hN : N ≤ 1023) (H : z_mall N ff fm h k) (h0 : 0 ≤ h) (s0 : 0 ≤ s.toInt) (s1 : s.toInt ≤ N) (hi : i.toInt = 1024 * h + s.toInt) (hv : ¬ v = 0 → z_mc N ff fm h s) (hk : k' ≤ k ∨ (k' = k + 1 ∧ s.toInt = k)) : z_mall N (y_up ff i.toInt.toNat v) fm h k' := by
  refine ⟨fun h' t a1 a2 a3 a4 q => ?_, fun t a1 a2 a3 q => ?_⟩
  · rw [y_up_ne (by omega)] at q
    exact (H.1 h' t a1 a2 a3 a4 q).up hN (h := h) (by omega) (by omega)
  · by_cases e0 : t = s
    · subst e0
      rw [show (1024 * h + t.toInt).toNat = i.toInt.toNat by omega, y_up_at] at q
      exact (hv q).up hN (h := h) (by omega) (by omega)
    · have e1 : ¬ t.toInt = s.toInt := fun e => e0 (Int32.toInt_inj.mp e)
      rw [y_up_ne (by omega)] at q
      exact (H.2 t a1 (by omega) a3 q).up hN (h := h) (by omega) (by omega)
theorem z_mall.next {N : Int} {ff : Nat → Int32} {fm : Int32} {h h' k : Int} (H : z_mall N ff fm h k) (hk : N < k) (he : h' = h + 1) : z_mall N ff fm h' 0 := by
  subst he
  refine ⟨fun h' t a1 a2 a3 a4 => ?_, fun t a1 a2 => absurd a1 (by omega)⟩
  by_cases e0 : h' = h
  · rw [e0]; exact H.2 t a3 (by omega) a4
  · exact H.1 h' t a1 (by omega) a3 a4
theorem z_mall.less {N : Int} {ff : Nat → Int32} {fm : Int32} {h k k' : Int} (H : z_mall N ff fm h k) (hk : k' ≤ k) : z_mall N ff fm h k' := ⟨H.1, fun t a1 a2 a3 => H.2 t a1 (by omega) a3⟩
def z_Pmists : yP := fun D av Y H v Y' H' => ∀ (this bk tr : Nat) (fm : Int32) (fb : Nat → Int32), av = [.ref this, .int fm] → x_sl D 12 0 this H = some (.ref bk) → y_A bk 160 H fb → x_sl D 12 23 this H = some (.ref tr) →
  ∃ ff : Nat → Int32, y_A tr 12288 H' ff ∧ (∀ j, j < 12288 → (0 : Int) ≤ (ff j).toInt ∧ (ff j).toInt ≤ 1) ∧ z_mall (z_all (fb 0)).toInt ff fm 12 0
theorem mi_d0 : decode xM207.2.1 0 = .ok (.iconst 0, 1) := dz_ok (by decide +kernel)
theorem mi_d1 : decode xM207.2.1 1 = .ok (.istore_n 2, 1) := dz_ok (by decide +kernel)
theorem mi_d2 : decode xM207.2.1 2 = .ok (.iload_n 2, 1) := dz_ok (by decide +kernel)
theorem mi_d3 : decode xM207.2.1 3 = .ok (.bipush 12, 2) := dz_ok (by decide +kernel)
theorem mi_d5 : decode xM207.2.1 5 = .ok (.if_icmp .ge 223, 3) := dz_ok (by decide +kernel)
theorem mi_d8 : decode xM207.2.1 8 = .ok (.aload_n 0, 1) := dz_ok (by decide +kernel)
theorem mi_d9 : decode xM207.2.1 9 = .ok (.aload_n 0, 1) := dz_ok (by decide +kernel)
theorem mi_d10 : decode xM207.2.1 10 = .ok (.getfield 7, 3) := dz_ok (by decide +kernel)
theorem mi_d13 : decode xM207.2.1 13 = .ok (.iconst 4, 1) := dz_ok (by decide +kernel)
theorem mi_d14 : decode xM207.2.1 14 = .ok (.iaload, 1) := dz_ok (by decide +kernel)
theorem mi_d15 : decode xM207.2.1 15 = .ok (.aload_n 0, 1) := dz_ok (by decide +kernel)
theorem mi_d16 : decode xM207.2.1 16 = .ok (.getfield 7, 3) := dz_ok (by decide +kernel)
theorem mi_d19 : decode xM207.2.1 19 = .ok (.bipush 116, 2) := dz_ok (by decide +kernel)
theorem mi_d21 : decode xM207.2.1 21 = .ok (.iload_n 2, 1) := dz_ok (by decide +kernel)
theorem mi_d22 : decode xM207.2.1 22 = .ok (.iadd, 1) := dz_ok (by decide +kernel)
theorem mi_d23 : decode xM207.2.1 23 = .ok (.iaload, 1) := dz_ok (by decide +kernel)
theorem mi_d24 : decode xM207.2.1 24 = .ok (.invokevirtual 144, 3) := dz_ok (by decide +kernel)
theorem mi_d27 : decode xM207.2.1 27 = .ok (.iconst 0, 1) := dz_ok (by decide +kernel)
theorem mi_d28 : decode xM207.2.1 28 = .ok (.istore_n 3, 1) := dz_ok (by decide +kernel)
theorem mi_d29 : decode xM207.2.1 29 = .ok (.iload_n 3, 1) := dz_ok (by decide +kernel)
theorem mi_d30 : decode xM207.2.1 30 = .ok (.aload_n 0, 1) := dz_ok (by decide +kernel)
theorem mi_d31 : decode xM207.2.1 31 = .ok (.invokevirtual 91, 3) := dz_ok (by decide +kernel)
theorem mi_d34 : decode xM207.2.1 34 = .ok (.if_icmp .gt 61, 3) := dz_ok (by decide +kernel)
theorem mi_d37 : decode xM207.2.1 37 = .ok (.aload_n 0, 1) := dz_ok (by decide +kernel)
theorem mi_d38 : decode xM207.2.1 38 = .ok (.getfield 50, 3) := dz_ok (by decide +kernel)
theorem mi_d41 : decode xM207.2.1 41 = .ok (.sipush 1024, 3) := dz_ok (by decide +kernel)
theorem mi_d44 : decode xM207.2.1 44 = .ok (.iload_n 2, 1) := dz_ok (by decide +kernel)
theorem mi_d45 : decode xM207.2.1 45 = .ok (.imul, 1) := dz_ok (by decide +kernel)
theorem mi_d46 : decode xM207.2.1 46 = .ok (.iload_n 3, 1) := dz_ok (by decide +kernel)
theorem mi_d47 : decode xM207.2.1 47 = .ok (.iadd, 1) := dz_ok (by decide +kernel)
theorem mi_d48 : decode xM207.2.1 48 = .ok (.aload_n 0, 1) := dz_ok (by decide +kernel)
theorem mi_d49 : decode xM207.2.1 49 = .ok (.iload_n 3, 1) := dz_ok (by decide +kernel)
theorem mi_d50 : decode xM207.2.1 50 = .ok (.invokevirtual 243, 3) := dz_ok (by decide +kernel)
theorem mi_d53 : decode xM207.2.1 53 = .ok (.bastore, 1) := dz_ok (by decide +kernel)
theorem mi_d54 : decode xM207.2.1 54 = .ok (.aload_n 0, 1) := dz_ok (by decide +kernel)
theorem mi_d55 : decode xM207.2.1 55 = .ok (.getfield 53, 3) := dz_ok (by decide +kernel)
theorem mi_d58 : decode xM207.2.1 58 = .ok (.sipush 1024, 3) := dz_ok (by decide +kernel)
theorem mi_d61 : decode xM207.2.1 61 = .ok (.iload_n 2, 1) := dz_ok (by decide +kernel)
theorem mi_d62 : decode xM207.2.1 62 = .ok (.imul, 1) := dz_ok (by decide +kernel)
theorem mi_d63 : decode xM207.2.1 63 = .ok (.iload_n 3, 1) := dz_ok (by decide +kernel)
theorem mi_d64 : decode xM207.2.1 64 = .ok (.iadd, 1) := dz_ok (by decide +kernel)
theorem mi_d65 : decode xM207.2.1 65 = .ok (.iload_n 2, 1) := dz_ok (by decide +kernel)
theorem mi_d66 : decode xM207.2.1 66 = .ok (.ifCond .ne 21, 3) := dz_ok (by decide +kernel)
theorem mi_d69 : decode xM207.2.1 69 = .ok (.iload_n 3, 1) := dz_ok (by decide +kernel)
theorem mi_d70 : decode xM207.2.1 70 = .ok (.iload_n 1, 1) := dz_ok (by decide +kernel)
theorem mi_d71 : decode xM207.2.1 71 = .ok (.if_icmp .ne 16, 3) := dz_ok (by decide +kernel)
theorem mi_d74 : decode xM207.2.1 74 = .ok (.aload_n 0, 1) := dz_ok (by decide +kernel)
theorem mi_d75 : decode xM207.2.1 75 = .ok (.getfield 50, 3) := dz_ok (by decide +kernel)
theorem mi_d78 : decode xM207.2.1 78 = .ok (.iload_n 3, 1) := dz_ok (by decide +kernel)
theorem mi_d79 : decode xM207.2.1 79 = .ok (.baload, 1) := dz_ok (by decide +kernel)
theorem mi_d80 : decode xM207.2.1 80 = .ok (.ifCond .eq 7, 3) := dz_ok (by decide +kernel)
theorem mi_d83 : decode xM207.2.1 83 = .ok (.iconst 1, 1) := dz_ok (by decide +kernel)
theorem mi_d84 : decode xM207.2.1 84 = .ok (.goto 4, 3) := dz_ok (by decide +kernel)
theorem mi_d87 : decode xM207.2.1 87 = .ok (.iconst 0, 1) := dz_ok (by decide +kernel)
theorem mi_d88 : decode xM207.2.1 88 = .ok (.bastore, 1) := dz_ok (by decide +kernel)
theorem mi_d89 : decode xM207.2.1 89 = .ok (.iinc 3 1, 3) := dz_ok (by decide +kernel)
theorem mi_d92 : decode xM207.2.1 92 = .ok (.goto (-63), 3) := dz_ok (by decide +kernel)
theorem mi_d95 : decode xM207.2.1 95 = .ok (.iconst 0, 1) := dz_ok (by decide +kernel)
theorem mi_d96 : decode xM207.2.1 96 = .ok (.istore_n 3, 1) := dz_ok (by decide +kernel)
theorem mi_d97 : decode xM207.2.1 97 = .ok (.iload_n 3, 1) := dz_ok (by decide +kernel)
theorem mi_d98 : decode xM207.2.1 98 = .ok (.aload_n 0, 1) := dz_ok (by decide +kernel)
theorem mi_d99 : decode xM207.2.1 99 = .ok (.invokevirtual 91, 3) := dz_ok (by decide +kernel)
theorem mi_d102 : decode xM207.2.1 102 = .ok (.if_icmp .gt 120, 3) := dz_ok (by decide +kernel)
theorem mi_d105 : decode xM207.2.1 105 = .ok (.iload_n 2, 1) := dz_ok (by decide +kernel)
theorem mi_d106 : decode xM207.2.1 106 = .ok (.ifCond .le 116, 3) := dz_ok (by decide +kernel)
theorem mi_d109 : decode xM207.2.1 109 = .ok (.iconst 0, 1) := dz_ok (by decide +kernel)
theorem mi_d110 : decode xM207.2.1 110 = .ok (.istore 4, 2) := dz_ok (by decide +kernel)
theorem mi_d112 : decode xM207.2.1 112 = .ok (.iload 4, 2) := dz_ok (by decide +kernel)
theorem mi_d114 : decode xM207.2.1 114 = .ok (.aload_n 0, 1) := dz_ok (by decide +kernel)
theorem mi_d115 : decode xM207.2.1 115 = .ok (.invokevirtual 91, 3) := dz_ok (by decide +kernel)
theorem mi_d118 : decode xM207.2.1 118 = .ok (.if_icmp .gt 98, 3) := dz_ok (by decide +kernel)
theorem mi_d121 : decode xM207.2.1 121 = .ok (.aload_n 0, 1) := dz_ok (by decide +kernel)
theorem mi_d122 : decode xM207.2.1 122 = .ok (.getfield 50, 3) := dz_ok (by decide +kernel)
theorem mi_d125 : decode xM207.2.1 125 = .ok (.sipush 1024, 3) := dz_ok (by decide +kernel)
theorem mi_d128 : decode xM207.2.1 128 = .ok (.iload_n 2, 1) := dz_ok (by decide +kernel)
theorem mi_d129 : decode xM207.2.1 129 = .ok (.imul, 1) := dz_ok (by decide +kernel)
theorem mi_d130 : decode xM207.2.1 130 = .ok (.iload_n 3, 1) := dz_ok (by decide +kernel)
theorem mi_d131 : decode xM207.2.1 131 = .ok (.iadd, 1) := dz_ok (by decide +kernel)
theorem mi_d132 : decode xM207.2.1 132 = .ok (.baload, 1) := dz_ok (by decide +kernel)
theorem mi_d133 : decode xM207.2.1 133 = .ok (.ifCond .eq 83, 3) := dz_ok (by decide +kernel)
theorem mi_d136 : decode xM207.2.1 136 = .ok (.aload_n 0, 1) := dz_ok (by decide +kernel)
theorem mi_d137 : decode xM207.2.1 137 = .ok (.getfield 53, 3) := dz_ok (by decide +kernel)
theorem mi_d140 : decode xM207.2.1 140 = .ok (.sipush 1024, 3) := dz_ok (by decide +kernel)
theorem mi_d143 : decode xM207.2.1 143 = .ok (.iload_n 2, 1) := dz_ok (by decide +kernel)
theorem mi_d144 : decode xM207.2.1 144 = .ok (.imul, 1) := dz_ok (by decide +kernel)
theorem mi_d145 : decode xM207.2.1 145 = .ok (.iload_n 3, 1) := dz_ok (by decide +kernel)
theorem mi_d146 : decode xM207.2.1 146 = .ok (.iadd, 1) := dz_ok (by decide +kernel)
theorem mi_d147 : decode xM207.2.1 147 = .ok (.baload, 1) := dz_ok (by decide +kernel)
theorem mi_d148 : decode xM207.2.1 148 = .ok (.ifCond .ne 68, 3) := dz_ok (by decide +kernel)
theorem mi_d151 : decode xM207.2.1 151 = .ok (.aload_n 0, 1) := dz_ok (by decide +kernel)
theorem mi_d152 : decode xM207.2.1 152 = .ok (.getfield 53, 3) := dz_ok (by decide +kernel)
theorem mi_d155 : decode xM207.2.1 155 = .ok (.sipush 1024, 3) := dz_ok (by decide +kernel)
theorem mi_d158 : decode xM207.2.1 158 = .ok (.iload_n 2, 1) := dz_ok (by decide +kernel)
theorem mi_d159 : decode xM207.2.1 159 = .ok (.imul, 1) := dz_ok (by decide +kernel)
theorem mi_d160 : decode xM207.2.1 160 = .ok (.iload_n 3, 1) := dz_ok (by decide +kernel)
theorem mi_d161 : decode xM207.2.1 161 = .ok (.iadd, 1) := dz_ok (by decide +kernel)
theorem mi_d162 : decode xM207.2.1 162 = .ok (.aload_n 0, 1) := dz_ok (by decide +kernel)
theorem mi_d163 : decode xM207.2.1 163 = .ok (.getfield 53, 3) := dz_ok (by decide +kernel)
theorem mi_d166 : decode xM207.2.1 166 = .ok (.sipush 1024, 3) := dz_ok (by decide +kernel)
theorem mi_d169 : decode xM207.2.1 169 = .ok (.iload_n 2, 1) := dz_ok (by decide +kernel)
theorem mi_d170 : decode xM207.2.1 170 = .ok (.iconst 1, 1) := dz_ok (by decide +kernel)
theorem mi_d171 : decode xM207.2.1 171 = .ok (.if_icmp .ge 7, 3) := dz_ok (by decide +kernel)
theorem mi_d174 : decode xM207.2.1 174 = .ok (.iconst 0, 1) := dz_ok (by decide +kernel)
theorem mi_d175 : decode xM207.2.1 175 = .ok (.goto 6, 3) := dz_ok (by decide +kernel)
theorem mi_d178 : decode xM207.2.1 178 = .ok (.iload_n 2, 1) := dz_ok (by decide +kernel)
theorem mi_d179 : decode xM207.2.1 179 = .ok (.iconst 1, 1) := dz_ok (by decide +kernel)
theorem mi_d180 : decode xM207.2.1 180 = .ok (.isub, 1) := dz_ok (by decide +kernel)
theorem mi_d181 : decode xM207.2.1 181 = .ok (.imul, 1) := dz_ok (by decide +kernel)
theorem mi_d182 : decode xM207.2.1 182 = .ok (.iload 4, 2) := dz_ok (by decide +kernel)
theorem mi_d184 : decode xM207.2.1 184 = .ok (.iadd, 1) := dz_ok (by decide +kernel)
theorem mi_d185 : decode xM207.2.1 185 = .ok (.baload, 1) := dz_ok (by decide +kernel)
theorem mi_d186 : decode xM207.2.1 186 = .ok (.ifCond .eq 22, 3) := dz_ok (by decide +kernel)
theorem mi_d189 : decode xM207.2.1 189 = .ok (.iload 4, 2) := dz_ok (by decide +kernel)
theorem mi_d191 : decode xM207.2.1 191 = .ok (.iload_n 3, 1) := dz_ok (by decide +kernel)
theorem mi_d192 : decode xM207.2.1 192 = .ok (.if_icmp .eq 12, 3) := dz_ok (by decide +kernel)
theorem mi_d195 : decode xM207.2.1 195 = .ok (.iload 4, 2) := dz_ok (by decide +kernel)
theorem mi_d197 : decode xM207.2.1 197 = .ok (.iload_n 3, 1) := dz_ok (by decide +kernel)
theorem mi_d198 : decode xM207.2.1 198 = .ok (.invokestatic 257, 3) := dz_ok (by decide +kernel)
theorem mi_d201 : decode xM207.2.1 201 = .ok (.ifCond .eq 7, 3) := dz_ok (by decide +kernel)
theorem mi_d204 : decode xM207.2.1 204 = .ok (.iconst 1, 1) := dz_ok (by decide +kernel)
theorem mi_d205 : decode xM207.2.1 205 = .ok (.goto 4, 3) := dz_ok (by decide +kernel)
theorem mi_d208 : decode xM207.2.1 208 = .ok (.iconst 0, 1) := dz_ok (by decide +kernel)
theorem mi_d209 : decode xM207.2.1 209 = .ok (.bastore, 1) := dz_ok (by decide +kernel)
theorem mi_d210 : decode xM207.2.1 210 = .ok (.iinc 4 1, 3) := dz_ok (by decide +kernel)
theorem mi_d213 : decode xM207.2.1 213 = .ok (.goto (-101), 3) := dz_ok (by decide +kernel)
theorem mi_d216 : decode xM207.2.1 216 = .ok (.iinc 3 1, 3) := dz_ok (by decide +kernel)
theorem mi_d219 : decode xM207.2.1 219 = .ok (.goto (-122), 3) := dz_ok (by decide +kernel)
theorem mi_d222 : decode xM207.2.1 222 = .ok (.iinc 2 1, 3) := dz_ok (by decide +kernel)
theorem mi_d225 : decode xM207.2.1 225 = .ok (.goto (-223), 3) := dz_ok (by decide +kernel)
theorem mi_d228 : decode xM207.2.1 228 = .ok (.return_, 1) := dz_ok (by decide +kernel)
theorem mi_L112 {p : Program} {l : Launch} {e : Env} {s : State} {m : MethodId} {below : List Frame} {meth : Method} {c : Code} {D : va_G} {U : State} {Y0 : xY} {av : List Value} (B : y_B vwCl x_Tb x_Nb xM207 p s m meth c D U Y0 av) {this bk lw tr : Nat} {fm : Int32} {fb : Nat → Int32} (hav : av = [.ref this, .int fm]) (hN : 0 ≤ (z_all (fb 0)).toInt ∧ (z_all (fb 0)).toInt ≤ 1023) (fin : ∀ {H : Heap} {Y : xY} {ff : Nat → Int32}, y_A tr 12288 H ff → (∀ j, j < 12288 → (0 : Int) ≤ (ff j).toInt ∧ (ff j).toInt ≤ 1) → z_mall (z_all (fb 0)).toInt ff fm 12 0 → z_Pmists D av Y0 s.heap none Y H) {h : Int32} (hh : 0 ≤ h.toInt ∧ h.toInt ≤ 11) {set : Int32} (hset : 0 ≤ set.toInt ∧ set.toInt ≤ (z_all (fb 0)).toInt) (hpos : 0 < h.toInt) {gl : Nat → Int32} (hB_lw : ∀ j, j < 12288 → (0 : Int) ≤ (gl j).toInt ∧ (gl j).toInt ≤ 1)
    (out97 : ∀ (H : Heap) (Y : xY) (locs : List Loc) (ls : Array Slot) (set1 : Int32) (gl1 ff : Nat → Int32), x_I D x_G x_Zs U (x_efs xM207) Y0 s.heap Y H locs → Y this = some 17 → Y bk = some 46 → Y lw = some 59 → Y tr = some 60 → x_sl D 12 0 this H = some (.ref bk) → x_sl D 12 22 this H = some (.ref lw) → x_sl D 12 23 this H = some (.ref tr) → y_A bk 160 H fb → y_A lw 12288 H gl1 → y_A tr 12288 H ff → lv_has ls xM207.2.2.1 [(3, .int set1), (2, .int h), (0, .ref this), (1, .int fm)] → (∀ j, j < 12288 → (0 : Int) ≤ (gl1 j).toInt ∧ (gl1 j).toInt ≤ 1) → (∀ j, j < 12288 → (0 : Int) ≤ (ff j).toInt ∧ (ff j).toInt ≤ 1) → (0 ≤ set1.toInt ∧ set1.toInt ≤ (z_all (fb 0)).toInt + 1) → (z_mall (z_all (fb 0)).toInt ff fm h.toInt ((z_all (fb 0)).toInt + 1)) → (set1.toInt = set.toInt + 1) → W p l e (x_rm xM207) s m av.toArray below meth c H locs 0 0 (y_QQ below D x_G x_Zs U xM207 z_Pmists av Y0 s) (F0 m 97 ls [])) :
    ∀ (n : Nat), ∀ (H : Heap) (Y : xY) (locs : List Loc) (ls : Array Slot) (a : Int32) (ff : Nat → Int32), x_I D x_G x_Zs U (x_efs xM207) Y0 s.heap Y H locs → Y this = some 17 → Y bk = some 46 → Y lw = some 59 → Y tr = some 60 → x_sl D 12 0 this H = some (.ref bk) → x_sl D 12 22 this H = some (.ref lw) → x_sl D 12 23 this H = some (.ref tr) → y_A bk 160 H fb → y_A lw 12288 H gl → y_A tr 12288 H ff → lv_has ls xM207.2.2.1 [(4, .int a), (3, .int set), (2, .int h), (0, .ref this), (1, .int fm)] → (∀ j, j < 12288 → (0 : Int) ≤ (ff j).toInt ∧ (ff j).toInt ≤ 1) → (0 ≤ a.toInt ∧ a.toInt ≤ (z_all (fb 0)).toInt + 1) → (z_mall (z_all (fb 0)).toInt ff fm h.toInt ((z_all (fb 0)).toInt + 1)) → (1024 - a.toInt).toNat < n → W p l e (x_rm xM207) s m av.toArray below meth c H locs 0 0 (y_QQ below D x_G x_Zs U xM207 z_Pmists av Y0 s) (F0 m 112 ls []) := by
  have X := B.1
  have hx := X.1
  have hb := X.2.1
  have hY0 := B.2.2.2.2.1
  intro n
  induction n with
  | zero => intro _ _ _ _ _ _ _ _ _ _ _ _ _ _ _ _ _ _ _ _ _ h; exact absurd h (Nat.not_lt_zero _)
  | succ n ih =>
    intro H Y locs ls a ff hI hY_this hY_bk hY_lw hY_tr hs_bk hs_lw hs_tr hA_bk hA_lw hA_tr hl hB_tr ha0 hM hn
    refine lv_iload hx hb mi_d112 (lv_at hl 0 rfl) ?_
    refine lv_aload_n hx hb mi_d114 rfl (lv_at hl 3 rfl) ?_
    refine y_call (z := (0, 91, 1, some 17, xM182)) (av := [.ref this]) (rest := [.int a]) (y_cokV (n := 0) (ci := 12) X ym_all rfl rfl rfl (x_cons (x_bw77 4 rfl rfl) (x_cons (x_bw77 6 rfl rfl) (x_cons (x_at 49 (by decide +kernel) rfl) (x_cons (x_bw0 9 rfl rfl) x_nilm)))) (x_bw77 7 rfl rfl) (by decide +kernel) ⟨Nat.le_of_ble_eq_true rfl, Nat.le_of_ble_eq_true rfl⟩) hY0 hI rfl mi_d115 hl.1 (Nat.le_of_ble_eq_true rfl) (Nat.le_of_ble_eq_true rfl) (Nat.le_of_ble_eq_true rfl) (y_cons (y_cref hY_this rfl) y_nil) rfl (y_recv rfl hY_this) trivial (y_sub_ef rfl) fun v Yn o Hn L ho hr ha hIn hx_ hE hP => ?_
    have hPv := hP _ _ _ rfl hs_bk (hA_bk 0 (by decide))
    replace hs_bk := y_Efld hE hY_this rfl (by decide) (by decide) hs_bk
    replace hs_lw := y_Efld hE hY_this rfl (by decide) (by decide) hs_lw
    replace hs_tr := y_Efld hE hY_this rfl (by decide) (by decide) hs_tr
    replace hA_bk := hA_bk.kept (y_Earr hE hY_bk rfl (by decide))
    replace hA_lw := hA_lw.kept (y_Earr hE hY_lw rfl (by decide))
    replace hA_tr := hA_tr.kept (y_Earr hE hY_tr rfl (by decide))
    replace hY_this := y_ext hx_ hI.1 hY_this
    replace hY_bk := y_ext hx_ hI.1 hY_bk
    replace hY_lw := y_ext hx_ hI.1 hY_lw
    replace hY_tr := y_ext hx_ hI.1 hY_tr
    obtain rfl := hPv
    clear ho hr ha hE hP hI hx_
    rename x_I _ _ _ _ _ _ _ _ _ _ => hI
    refine lv_icmp_gt hx hb mi_d118 (tgt := 216) (by decide) (fun q118 => ?_) (fun q118 => ?_)
    · have q118_ : (z_all (fb 0)).toInt < a.toInt := x_lt32.mp q118
      obtain ⟨z216, hg_z216⟩ : ∃ z216 : Int32, set + Int32.ofInt 1 = z216 := ⟨_, rfl⟩
      have h_z216 : z216.toInt = set.toInt + 1 := by rw [← hg_z216]; exact y_inc (by decide) (by omega) (by omega)
      refine lv_iinc hx hb mi_d216 hl (k := 1) rfl hg_z216 (by decide) (lv' := [(3, .int z216), (4, .int a), (2, .int h), (0, .ref this), (1, .int fm)]) rfl fun ls hl => ?_
      refine lv_goto hx hb mi_d219 (tgt := 97) (by decide) ?_
      exact out97 _ _ _ _ _ _ _ hI hY_this hY_bk hY_lw hY_tr hs_bk hs_lw hs_tr hA_bk hA_lw hA_tr (lv_sub hl [0, 2, 3, 4] rfl) (by first | assumption | omega) (by first | assumption | omega) (by first | assumption | omega) (by first | assumption | omega) (by first | assumption | omega)
    · have q118_ : a.toInt ≤ (z_all (fb 0)).toInt := Int.not_lt.mp fun q => q118 (x_lt32.mpr q)
      refine lv_aload_n hx hb mi_d121 rfl (lv_at hl 3 rfl) ?_
      refine y_getf X (fl201 X.2.2.2.2.1) hI.1 hY_this rfl hs_lw mi_d122 ?_
      refine lv_sipush hx hb mi_d125 (v := 1024) (by decide) ?_
      have ec1024 : (1024 : Int32).toInt = 1024 := by decide
      refine lv_iload_n hx hb mi_d128 rfl (lv_at hl 2 rfl) ?_
      refine lv_imul hx hb mi_d129 ?_
      generalize hg_z129 : (1024 : Int32) * h = z129
      have h_z129 : z129.toInt = 1024 * h.toInt := by rw [← hg_z129]; have := y_mul (x := (1024 : Int32)) (y := h) (by rw [ec1024]; omega) (by rw [ec1024]; omega); rw [ec1024] at this; exact this
      refine lv_iload_n hx hb mi_d130 rfl (lv_at hl 1 rfl) ?_
      refine lv_iadd hx hb mi_d131 ?_
      generalize hg_z131 : z129 + set = z131
      have h_z131 : z131.toInt = z129.toInt + set.toInt := by rw [← hg_z131]; have := y_add (x := z129) (y := set) (by omega) (by omega); exact this
      refine y_zald X hI.1 hY_lw rfl hA_lw (by omega) (by show _ < (12288 : Int); omega) mi_d132 ?_
      obtain ⟨e132, hg_e132⟩ : ∃ e132 : Int32, gl z131.toInt.toNat = e132 := ⟨_, rfl⟩
      rw [hg_e132]
      have h_e132 : (0 : Int) ≤ e132.toInt ∧ e132.toInt ≤ 1 := by rw [← hg_e132]; exact hB_lw _ (by omega)
      have ec0 : (0 : Int32).toInt = 0 := by decide
      refine lv_if_eq hx hb mi_d133 (tgt := 216) (by decide) (fun q133 => ?_) (fun q133 => ?_)
      · have q133_ : e132.toInt = (0 : Int32).toInt := by rw [q133]
        obtain ⟨z216, hg_z216⟩ : ∃ z216 : Int32, set + Int32.ofInt 1 = z216 := ⟨_, rfl⟩
        have h_z216 : z216.toInt = set.toInt + 1 := by rw [← hg_z216]; exact y_inc (by decide) (by omega) (by omega)
        refine lv_iinc hx hb mi_d216 hl (k := 1) rfl hg_z216 (by decide) (lv' := [(3, .int z216), (4, .int a), (2, .int h), (0, .ref this), (1, .int fm)]) rfl fun ls hl => ?_
        refine lv_goto hx hb mi_d219 (tgt := 97) (by decide) ?_
        exact out97 _ _ _ _ _ _ _ hI hY_this hY_bk hY_lw hY_tr hs_bk hs_lw hs_tr hA_bk hA_lw hA_tr (lv_sub hl [0, 2, 3, 4] rfl) (by first | assumption | omega) (by first | assumption | omega) (by first | assumption | omega) (by first | assumption | omega) (by first | assumption | omega)
      · have q133_ : ¬ e132.toInt = (0 : Int32).toInt := fun q => q133 (Int32.toInt_inj.mp q)
        refine lv_aload_n hx hb mi_d136 rfl (lv_at hl 3 rfl) ?_
        refine y_getf X (fl202 X.2.2.2.2.1) hI.1 hY_this rfl hs_tr mi_d137 ?_
        refine lv_sipush hx hb mi_d140 (v := 1024) (by decide) ?_
        refine lv_iload_n hx hb mi_d143 rfl (lv_at hl 2 rfl) ?_
        refine lv_imul hx hb mi_d144 ?_
        generalize hg_z144 : (1024 : Int32) * h = z144
        have h_z144 : z144.toInt = 1024 * h.toInt := by rw [← hg_z144]; have := y_mul (x := (1024 : Int32)) (y := h) (by rw [ec1024]; omega) (by rw [ec1024]; omega); rw [ec1024] at this; exact this
        refine lv_iload_n hx hb mi_d145 rfl (lv_at hl 1 rfl) ?_
        refine lv_iadd hx hb mi_d146 ?_
        generalize hg_z146 : z144 + set = z146
        have h_z146 : z146.toInt = z144.toInt + set.toInt := by rw [← hg_z146]; have := y_add (x := z144) (y := set) (by omega) (by omega); exact this
        refine y_zald X hI.1 hY_tr rfl hA_tr (by omega) (by show _ < (12288 : Int); omega) mi_d147 ?_
        obtain ⟨e147, hg_e147⟩ : ∃ e147 : Int32, ff z146.toInt.toNat = e147 := ⟨_, rfl⟩
        rw [hg_e147]
        have h_e147 : (0 : Int) ≤ e147.toInt ∧ e147.toInt ≤ 1 := by rw [← hg_e147]; exact hB_tr _ (by omega)
        refine lv_if_ne hx hb mi_d148 (tgt := 216) (by decide) (fun q148 => ?_) (fun q148 => ?_)
        · have q148_ : ¬ e147.toInt = (0 : Int32).toInt := fun q => q148 (Int32.toInt_inj.mp q)
          obtain ⟨z216, hg_z216⟩ : ∃ z216 : Int32, set + Int32.ofInt 1 = z216 := ⟨_, rfl⟩
          have h_z216 : z216.toInt = set.toInt + 1 := by rw [← hg_z216]; exact y_inc (by decide) (by omega) (by omega)
          refine lv_iinc hx hb mi_d216 hl (k := 1) rfl hg_z216 (by decide) (lv' := [(3, .int z216), (4, .int a), (2, .int h), (0, .ref this), (1, .int fm)]) rfl fun ls hl => ?_
          refine lv_goto hx hb mi_d219 (tgt := 97) (by decide) ?_
          exact out97 _ _ _ _ _ _ _ hI hY_this hY_bk hY_lw hY_tr hs_bk hs_lw hs_tr hA_bk hA_lw hA_tr (lv_sub hl [0, 2, 3, 4] rfl) (by first | assumption | omega) (by first | assumption | omega) (by first | assumption | omega) (by first | assumption | omega) (by first | assumption | omega)
        · have q148_ : e147.toInt = (0 : Int32).toInt := by rw [q148]
          refine lv_aload_n hx hb mi_d151 rfl (lv_at hl 3 rfl) ?_
          refine y_getf X (fl202 X.2.2.2.2.1) hI.1 hY_this rfl hs_tr mi_d152 ?_
          refine lv_sipush hx hb mi_d155 (v := 1024) (by decide) ?_
          refine lv_iload_n hx hb mi_d158 rfl (lv_at hl 2 rfl) ?_
          refine lv_imul hx hb mi_d159 ?_
          generalize hg_z159 : (1024 : Int32) * h = z159
          have h_z159 : z159.toInt = 1024 * h.toInt := by rw [← hg_z159]; have := y_mul (x := (1024 : Int32)) (y := h) (by rw [ec1024]; omega) (by rw [ec1024]; omega); rw [ec1024] at this; exact this
          refine lv_iload_n hx hb mi_d160 rfl (lv_at hl 1 rfl) ?_
          refine lv_iadd hx hb mi_d161 ?_
          generalize hg_z161 : z159 + set = z161
          have h_z161 : z161.toInt = z159.toInt + set.toInt := by rw [← hg_z161]; have := y_add (x := z159) (y := set) (by omega) (by omega); exact this
          refine lv_aload_n hx hb mi_d162 rfl (lv_at hl 3 rfl) ?_
          refine y_getf X (fl202 X.2.2.2.2.1) hI.1 hY_this rfl hs_tr mi_d163 ?_
          refine lv_sipush hx hb mi_d166 (v := 1024) (by decide) ?_
          refine lv_iload_n hx hb mi_d169 rfl (lv_at hl 2 rfl) ?_
          refine lv_iconst hx hb mi_d170 (v := 1) (by decide) ?_
          have ec1 : (1 : Int32).toInt = 1 := by decide
          refine lv_icmp_ge hx hb mi_d171 (tgt := 178) (by decide) (fun q171 => ?_) (fun q171 => ?_)
          · have q171_ : (1 : Int32).toInt ≤ h.toInt := x_le32.mp q171
            refine lv_iload_n hx hb mi_d178 rfl (lv_at hl 2 rfl) ?_
            refine lv_iconst hx hb mi_d179 (v := 1) (by decide) ?_
            refine lv_isub hx hb mi_d180 ?_
            generalize hg_z180 : h - (1 : Int32) = z180
            have h_z180 : z180.toInt = h.toInt - 1 := by rw [← hg_z180]; have := y_sub (x := h) (y := (1 : Int32)) (by rw [ec1]; omega) (by rw [ec1]; omega); rw [ec1] at this; exact this
            refine lv_imul hx hb mi_d181 ?_
            generalize hg_z181 : (1024 : Int32) * z180 = z181
            have h_z181 : z181.toInt = 1024 * z180.toInt := by rw [← hg_z181]; have := y_mul (x := (1024 : Int32)) (y := z180) (by rw [ec1024]; omega) (by rw [ec1024]; omega); rw [ec1024] at this; exact this
            refine lv_iload hx hb mi_d182 (lv_at hl 0 rfl) ?_
            refine lv_iadd hx hb mi_d184 ?_
            generalize hg_z184 : z181 + a = z184
            have h_z184 : z184.toInt = z181.toInt + a.toInt := by rw [← hg_z184]; have := y_add (x := z181) (y := a) (by omega) (by omega); exact this
            refine y_zald X hI.1 hY_tr rfl hA_tr (by omega) (by show _ < (12288 : Int); omega) mi_d185 ?_
            obtain ⟨e185, hg_e185⟩ : ∃ e185 : Int32, ff z184.toInt.toNat = e185 := ⟨_, rfl⟩
            rw [hg_e185]
            have h_e185 : (0 : Int) ≤ e185.toInt ∧ e185.toInt ≤ 1 := by rw [← hg_e185]; exact hB_tr _ (by omega)
            refine lv_if_eq hx hb mi_d186 (tgt := 208) (by decide) (fun q186 => ?_) (fun q186 => ?_)
            · have q186_ : e185.toInt = (0 : Int32).toInt := by rw [q186]
              refine lv_iconst hx hb mi_d208 (v := 0) (by decide) ?_
              refine y_zast X hY0 hI hY_tr rfl hA_tr (by omega) (by show _ < (12288 : Int); omega) (y_01 (by omega) (by omega)) ⟨_, rfl, by show (0 : Int) ≤ _; omega, by show _ ≤ (1 : Int); omega⟩ (by decide +kernel) mi_d209 fun H locs hI h_new ho => ?_
              replace hA_tr := h_new
              replace hB_tr := y_upb (i := z161.toInt.toNat) (v := (0 : Int32)) hB_tr (by constructor <;> omega)
              generalize hf_f209 : y_up ff z161.toInt.toNat (0 : Int32) = f209 at hA_tr hB_tr
              replace hs_bk := y_slk hs_bk (ho _ (y_ne hY_this hY_tr rfl))
              replace hs_lw := y_slk hs_lw (ho _ (y_ne hY_this hY_tr rfl))
              replace hs_tr := y_slk hs_tr (ho _ (y_ne hY_this hY_tr rfl))
              replace hA_bk := hA_bk.kept (ho _ (y_ne hY_bk hY_tr rfl))
              replace hA_lw := hA_lw.kept (ho _ (y_ne hY_lw hY_tr rfl))
              obtain ⟨z210, hg_z210⟩ : ∃ z210 : Int32, a + Int32.ofInt 1 = z210 := ⟨_, rfl⟩
              have h_z210 : z210.toInt = a.toInt + 1 := by rw [← hg_z210]; exact y_inc (by decide) (by omega) (by omega)
              refine lv_iinc hx hb mi_d210 hl (k := 0) rfl hg_z210 (by decide) (lv' := [(4, .int z210), (3, .int set), (2, .int h), (0, .ref this), (1, .int fm)]) rfl fun ls hl => ?_
              refine lv_goto hx hb mi_d213 (tgt := 112) (by decide) ?_
              have hMn := hM.store (k' := (z_all (fb 0)).toInt + 1) (s := set) hN.2 (by omega) (by omega) (by omega) (i := z161) (by omega) (v := (0 : Int32)) (fun q => by first | exact absurd rfl q | exact .inr ⟨hpos, a, by omega, by omega, by first | (rw [show (1024 * (h.toInt - 1) + a.toInt).toNat = z184.toInt.toNat by omega, hg_e185]; exact q186), by first | exact .inl (Int32.toInt_inj.mp q192_) | exact .inr (hst_r198 q201)⟩) (by omega)
              rw [hf_f209] at hMn
              exact ih _ _ _ _ _ _ hI hY_this hY_bk hY_lw hY_tr hs_bk hs_lw hs_tr hA_bk hA_lw hA_tr (lv_sub hl [0, 1, 2, 3, 4] rfl) (by first | assumption | omega) (by first | assumption | omega) hMn (by omega)
            · have q186_ : ¬ e185.toInt = (0 : Int32).toInt := fun q => q186 (Int32.toInt_inj.mp q)
              refine lv_iload hx hb mi_d189 (lv_at hl 0 rfl) ?_
              refine lv_iload_n hx hb mi_d191 rfl (lv_at hl 1 rfl) ?_
              refine lv_icmp_eq hx hb mi_d192 (tgt := 204) (by decide) (fun q192 => ?_) (fun q192 => ?_)
              · have q192_ : a.toInt = set.toInt := by rw [q192]
                refine lv_iconst hx hb mi_d204 (v := 1) (by decide) ?_
                refine lv_goto hx hb mi_d205 (tgt := 209) (by decide) ?_
                refine y_zast X hY0 hI hY_tr rfl hA_tr (by omega) (by show _ < (12288 : Int); omega) (y_01 (by omega) (by omega)) ⟨_, rfl, by show (0 : Int) ≤ _; omega, by show _ ≤ (1 : Int); omega⟩ (by decide +kernel) mi_d209 fun H locs hI h_new ho => ?_
                replace hA_tr := h_new
                replace hB_tr := y_upb (i := z161.toInt.toNat) (v := (1 : Int32)) hB_tr (by constructor <;> omega)
                generalize hf_f209 : y_up ff z161.toInt.toNat (1 : Int32) = f209 at hA_tr hB_tr
                replace hs_bk := y_slk hs_bk (ho _ (y_ne hY_this hY_tr rfl))
                replace hs_lw := y_slk hs_lw (ho _ (y_ne hY_this hY_tr rfl))
                replace hs_tr := y_slk hs_tr (ho _ (y_ne hY_this hY_tr rfl))
                replace hA_bk := hA_bk.kept (ho _ (y_ne hY_bk hY_tr rfl))
                replace hA_lw := hA_lw.kept (ho _ (y_ne hY_lw hY_tr rfl))
                obtain ⟨z210, hg_z210⟩ : ∃ z210 : Int32, a + Int32.ofInt 1 = z210 := ⟨_, rfl⟩
                have h_z210 : z210.toInt = a.toInt + 1 := by rw [← hg_z210]; exact y_inc (by decide) (by omega) (by omega)
                refine lv_iinc hx hb mi_d210 hl (k := 0) rfl hg_z210 (by decide) (lv' := [(4, .int z210), (3, .int set), (2, .int h), (0, .ref this), (1, .int fm)]) rfl fun ls hl => ?_
                refine lv_goto hx hb mi_d213 (tgt := 112) (by decide) ?_
                have hMn := hM.store (k' := (z_all (fb 0)).toInt + 1) (s := set) hN.2 (by omega) (by omega) (by omega) (i := z161) (by omega) (v := (1 : Int32)) (fun q => by first | exact absurd rfl q | exact .inr ⟨hpos, a, by omega, by omega, by first | (rw [show (1024 * (h.toInt - 1) + a.toInt).toNat = z184.toInt.toNat by omega, hg_e185]; exact q186), by first | exact .inl (Int32.toInt_inj.mp q192_) | exact .inr (hst_r198 q201)⟩) (by omega)
                rw [hf_f209] at hMn
                exact ih _ _ _ _ _ _ hI hY_this hY_bk hY_lw hY_tr hs_bk hs_lw hs_tr hA_bk hA_lw hA_tr (lv_sub hl [0, 1, 2, 3, 4] rfl) (by first | assumption | omega) (by first | assumption | omega) hMn (by omega)
              · have q192_ : ¬ a.toInt = set.toInt := fun q => q192 (Int32.toInt_inj.mp q)
                refine lv_iload hx hb mi_d195 (lv_at hl 0 rfl) ?_
                refine lv_iload_n hx hb mi_d197 rfl (lv_at hl 1 rfl) ?_
                refine y_call (z := (1, 257, 2, none, xM205)) (av := [.int a, .int set]) (rest := [.int z161, .ref tr]) (y_cokS (n := 2) X ym_isStep (x_cons (x_bw82 1 rfl rfl) (x_cons (x_bw82 2 rfl rfl) (x_cons (x_bw0 9 rfl rfl) x_nilm))) (x_bw82 3 rfl rfl) (by decide +kernel) ⟨Nat.le_of_ble_eq_true rfl, Nat.le_of_ble_eq_true rfl⟩) hY0 hI rfl mi_d198 hl.1 (Nat.le_of_ble_eq_true rfl) (Nat.le_of_ble_eq_true rfl) (Nat.le_of_ble_eq_true rfl) (y_cons ⟨_, rfl, x_i32 _⟩ (y_cons ⟨_, rfl, x_i32 _⟩ y_nil)) rfl (y_norecv rfl) trivial (y_sub_ef rfl) fun v Yn o Hn L ho hr ha hIn hx_ hE hP => ?_
                replace hs_bk := y_Efld hE hY_this rfl (by decide) (by decide) hs_bk
                replace hs_lw := y_Efld hE hY_this rfl (by decide) (by decide) hs_lw
                replace hs_tr := y_Efld hE hY_this rfl (by decide) (by decide) hs_tr
                replace hA_bk := hA_bk.kept (y_Earr hE hY_bk rfl (by decide))
                replace hA_lw := hA_lw.kept (y_Earr hE hY_lw rfl (by decide))
                replace hA_tr := hA_tr.kept (y_Earr hE hY_tr rfl (by decide))
                replace hY_this := y_ext hx_ hI.1 hY_this
                replace hY_bk := y_ext hx_ hI.1 hY_bk
                replace hY_lw := y_ext hx_ hI.1 hY_lw
                replace hY_tr := y_ext hx_ hI.1 hY_tr
                obtain ⟨r198, rfl, hst_r198, hns_r198⟩ : ∃ r : Int32, v = some (.int r) ∧ (¬ r = 0 → z_step a set) ∧ (r = 0 → ¬ z_step a set) := z_stepR (hP _ _ rfl)
                clear ho hr ha hE hP hI hx_
                rename x_I _ _ _ _ _ _ _ _ _ _ => hI
                refine lv_if_eq hx hb mi_d201 (tgt := 208) (by decide) (fun q201 => ?_) (fun q201 => ?_)
                · have q201_ : r198.toInt = (0 : Int32).toInt := by rw [q201]
                  refine lv_iconst hx hb mi_d208 (v := 0) (by decide) ?_
                  refine y_zast X hY0 hI hY_tr rfl hA_tr (by omega) (by show _ < (12288 : Int); omega) (y_01 (by omega) (by omega)) ⟨_, rfl, by show (0 : Int) ≤ _; omega, by show _ ≤ (1 : Int); omega⟩ (by decide +kernel) mi_d209 fun H locs hI h_new ho => ?_
                  replace hA_tr := h_new
                  replace hB_tr := y_upb (i := z161.toInt.toNat) (v := (0 : Int32)) hB_tr (by constructor <;> omega)
                  generalize hf_f209 : y_up ff z161.toInt.toNat (0 : Int32) = f209 at hA_tr hB_tr
                  replace hs_bk := y_slk hs_bk (ho _ (y_ne hY_this hY_tr rfl))
                  replace hs_lw := y_slk hs_lw (ho _ (y_ne hY_this hY_tr rfl))
                  replace hs_tr := y_slk hs_tr (ho _ (y_ne hY_this hY_tr rfl))
                  replace hA_bk := hA_bk.kept (ho _ (y_ne hY_bk hY_tr rfl))
                  replace hA_lw := hA_lw.kept (ho _ (y_ne hY_lw hY_tr rfl))
                  obtain ⟨z210, hg_z210⟩ : ∃ z210 : Int32, a + Int32.ofInt 1 = z210 := ⟨_, rfl⟩
                  have h_z210 : z210.toInt = a.toInt + 1 := by rw [← hg_z210]; exact y_inc (by decide) (by omega) (by omega)
                  refine lv_iinc hx hb mi_d210 hl (k := 0) rfl hg_z210 (by decide) (lv' := [(4, .int z210), (3, .int set), (2, .int h), (0, .ref this), (1, .int fm)]) rfl fun ls hl => ?_
                  refine lv_goto hx hb mi_d213 (tgt := 112) (by decide) ?_
                  have hMn := hM.store (k' := (z_all (fb 0)).toInt + 1) (s := set) hN.2 (by omega) (by omega) (by omega) (i := z161) (by omega) (v := (0 : Int32)) (fun q => by first | exact absurd rfl q | exact .inr ⟨hpos, a, by omega, by omega, by first | (rw [show (1024 * (h.toInt - 1) + a.toInt).toNat = z184.toInt.toNat by omega, hg_e185]; exact q186), by first | exact .inl (Int32.toInt_inj.mp q192_) | exact .inr (hst_r198 q201)⟩) (by omega)
                  rw [hf_f209] at hMn
                  exact ih _ _ _ _ _ _ hI hY_this hY_bk hY_lw hY_tr hs_bk hs_lw hs_tr hA_bk hA_lw hA_tr (lv_sub hl [0, 1, 2, 3, 4] rfl) (by first | assumption | omega) (by first | assumption | omega) hMn (by omega)
                · have q201_ : ¬ r198.toInt = (0 : Int32).toInt := fun q => q201 (Int32.toInt_inj.mp q)
                  refine lv_iconst hx hb mi_d204 (v := 1) (by decide) ?_
                  refine lv_goto hx hb mi_d205 (tgt := 209) (by decide) ?_
                  refine y_zast X hY0 hI hY_tr rfl hA_tr (by omega) (by show _ < (12288 : Int); omega) (y_01 (by omega) (by omega)) ⟨_, rfl, by show (0 : Int) ≤ _; omega, by show _ ≤ (1 : Int); omega⟩ (by decide +kernel) mi_d209 fun H locs hI h_new ho => ?_
                  replace hA_tr := h_new
                  replace hB_tr := y_upb (i := z161.toInt.toNat) (v := (1 : Int32)) hB_tr (by constructor <;> omega)
                  generalize hf_f209 : y_up ff z161.toInt.toNat (1 : Int32) = f209 at hA_tr hB_tr
                  replace hs_bk := y_slk hs_bk (ho _ (y_ne hY_this hY_tr rfl))
                  replace hs_lw := y_slk hs_lw (ho _ (y_ne hY_this hY_tr rfl))
                  replace hs_tr := y_slk hs_tr (ho _ (y_ne hY_this hY_tr rfl))
                  replace hA_bk := hA_bk.kept (ho _ (y_ne hY_bk hY_tr rfl))
                  replace hA_lw := hA_lw.kept (ho _ (y_ne hY_lw hY_tr rfl))
                  obtain ⟨z210, hg_z210⟩ : ∃ z210 : Int32, a + Int32.ofInt 1 = z210 := ⟨_, rfl⟩
                  have h_z210 : z210.toInt = a.toInt + 1 := by rw [← hg_z210]; exact y_inc (by decide) (by omega) (by omega)
                  refine lv_iinc hx hb mi_d210 hl (k := 0) rfl hg_z210 (by decide) (lv' := [(4, .int z210), (3, .int set), (2, .int h), (0, .ref this), (1, .int fm)]) rfl fun ls hl => ?_
                  refine lv_goto hx hb mi_d213 (tgt := 112) (by decide) ?_
                  have hMn := hM.store (k' := (z_all (fb 0)).toInt + 1) (s := set) hN.2 (by omega) (by omega) (by omega) (i := z161) (by omega) (v := (1 : Int32)) (fun q => by first | exact absurd rfl q | exact .inr ⟨hpos, a, by omega, by omega, by first | (rw [show (1024 * (h.toInt - 1) + a.toInt).toNat = z184.toInt.toNat by omega, hg_e185]; exact q186), by first | exact .inl (Int32.toInt_inj.mp q192_) | exact .inr (hst_r198 q201)⟩) (by omega)
                  rw [hf_f209] at hMn
                  exact ih _ _ _ _ _ _ hI hY_this hY_bk hY_lw hY_tr hs_bk hs_lw hs_tr hA_bk hA_lw hA_tr (lv_sub hl [0, 1, 2, 3, 4] rfl) (by first | assumption | omega) (by first | assumption | omega) hMn (by omega)
          · have q171_ : h.toInt < (1 : Int32).toInt := Int.not_le.mp fun q => q171 (x_le32.mpr q)
            refine lv_iconst hx hb mi_d174 (v := 0) (by decide) ?_
            refine lv_goto hx hb mi_d175 (tgt := 181) (by decide) ?_
            refine lv_imul hx hb mi_d181 ?_
            generalize hg_z181 : (1024 : Int32) * (0 : Int32) = z181
            have h_z181 : z181.toInt = 1024 * 0 := by rw [← hg_z181]; have := y_mul (x := (1024 : Int32)) (y := (0 : Int32)) (by rw [ec1024, ec0]; omega) (by rw [ec1024, ec0]; omega); rw [ec1024, ec0] at this; exact this
            refine lv_iload hx hb mi_d182 (lv_at hl 0 rfl) ?_
            refine lv_iadd hx hb mi_d184 ?_
            generalize hg_z184 : z181 + a = z184
            have h_z184 : z184.toInt = z181.toInt + a.toInt := by rw [← hg_z184]; have := y_add (x := z181) (y := a) (by omega) (by omega); exact this
            refine y_zald X hI.1 hY_tr rfl hA_tr (by omega) (by show _ < (12288 : Int); omega) mi_d185 ?_
            obtain ⟨e185, hg_e185⟩ : ∃ e185 : Int32, ff z184.toInt.toNat = e185 := ⟨_, rfl⟩
            rw [hg_e185]
            have h_e185 : (0 : Int) ≤ e185.toInt ∧ e185.toInt ≤ 1 := by rw [← hg_e185]; exact hB_tr _ (by omega)
            refine lv_if_eq hx hb mi_d186 (tgt := 208) (by decide) (fun q186 => ?_) (fun q186 => ?_)
            · have q186_ : e185.toInt = (0 : Int32).toInt := by rw [q186]
              refine lv_iconst hx hb mi_d208 (v := 0) (by decide) ?_
              refine y_zast X hY0 hI hY_tr rfl hA_tr (by omega) (by show _ < (12288 : Int); omega) (y_01 (by omega) (by omega)) ⟨_, rfl, by show (0 : Int) ≤ _; omega, by show _ ≤ (1 : Int); omega⟩ (by decide +kernel) mi_d209 fun H locs hI h_new ho => ?_
              replace hA_tr := h_new
              replace hB_tr := y_upb (i := z161.toInt.toNat) (v := (0 : Int32)) hB_tr (by constructor <;> omega)
              generalize hf_f209 : y_up ff z161.toInt.toNat (0 : Int32) = f209 at hA_tr hB_tr
              replace hs_bk := y_slk hs_bk (ho _ (y_ne hY_this hY_tr rfl))
              replace hs_lw := y_slk hs_lw (ho _ (y_ne hY_this hY_tr rfl))
              replace hs_tr := y_slk hs_tr (ho _ (y_ne hY_this hY_tr rfl))
              replace hA_bk := hA_bk.kept (ho _ (y_ne hY_bk hY_tr rfl))
              replace hA_lw := hA_lw.kept (ho _ (y_ne hY_lw hY_tr rfl))
              obtain ⟨z210, hg_z210⟩ : ∃ z210 : Int32, a + Int32.ofInt 1 = z210 := ⟨_, rfl⟩
              have h_z210 : z210.toInt = a.toInt + 1 := by rw [← hg_z210]; exact y_inc (by decide) (by omega) (by omega)
              refine lv_iinc hx hb mi_d210 hl (k := 0) rfl hg_z210 (by decide) (lv' := [(4, .int z210), (3, .int set), (2, .int h), (0, .ref this), (1, .int fm)]) rfl fun ls hl => ?_
              refine lv_goto hx hb mi_d213 (tgt := 112) (by decide) ?_
              have hMn := hM.store (k' := (z_all (fb 0)).toInt + 1) (s := set) hN.2 (by omega) (by omega) (by omega) (i := z161) (by omega) (v := (0 : Int32)) (fun q => by first | exact absurd rfl q | exact .inr ⟨hpos, a, by omega, by omega, by first | (rw [show (1024 * (h.toInt - 1) + a.toInt).toNat = z184.toInt.toNat by omega, hg_e185]; exact q186), by first | exact .inl (Int32.toInt_inj.mp q192_) | exact .inr (hst_r198 q201)⟩) (by omega)
              rw [hf_f209] at hMn
              exact ih _ _ _ _ _ _ hI hY_this hY_bk hY_lw hY_tr hs_bk hs_lw hs_tr hA_bk hA_lw hA_tr (lv_sub hl [0, 1, 2, 3, 4] rfl) (by first | assumption | omega) (by first | assumption | omega) hMn (by omega)
            · have q186_ : ¬ e185.toInt = (0 : Int32).toInt := fun q => q186 (Int32.toInt_inj.mp q)
              refine lv_iload hx hb mi_d189 (lv_at hl 0 rfl) ?_
              refine lv_iload_n hx hb mi_d191 rfl (lv_at hl 1 rfl) ?_
              refine lv_icmp_eq hx hb mi_d192 (tgt := 204) (by decide) (fun q192 => ?_) (fun q192 => ?_)
              · have q192_ : a.toInt = set.toInt := by rw [q192]
                refine lv_iconst hx hb mi_d204 (v := 1) (by decide) ?_
                refine lv_goto hx hb mi_d205 (tgt := 209) (by decide) ?_
                refine y_zast X hY0 hI hY_tr rfl hA_tr (by omega) (by show _ < (12288 : Int); omega) (y_01 (by omega) (by omega)) ⟨_, rfl, by show (0 : Int) ≤ _; omega, by show _ ≤ (1 : Int); omega⟩ (by decide +kernel) mi_d209 fun H locs hI h_new ho => ?_
                replace hA_tr := h_new
                replace hB_tr := y_upb (i := z161.toInt.toNat) (v := (1 : Int32)) hB_tr (by constructor <;> omega)
                generalize hf_f209 : y_up ff z161.toInt.toNat (1 : Int32) = f209 at hA_tr hB_tr
                replace hs_bk := y_slk hs_bk (ho _ (y_ne hY_this hY_tr rfl))
                replace hs_lw := y_slk hs_lw (ho _ (y_ne hY_this hY_tr rfl))
                replace hs_tr := y_slk hs_tr (ho _ (y_ne hY_this hY_tr rfl))
                replace hA_bk := hA_bk.kept (ho _ (y_ne hY_bk hY_tr rfl))
                replace hA_lw := hA_lw.kept (ho _ (y_ne hY_lw hY_tr rfl))
                obtain ⟨z210, hg_z210⟩ : ∃ z210 : Int32, a + Int32.ofInt 1 = z210 := ⟨_, rfl⟩
                have h_z210 : z210.toInt = a.toInt + 1 := by rw [← hg_z210]; exact y_inc (by decide) (by omega) (by omega)
                refine lv_iinc hx hb mi_d210 hl (k := 0) rfl hg_z210 (by decide) (lv' := [(4, .int z210), (3, .int set), (2, .int h), (0, .ref this), (1, .int fm)]) rfl fun ls hl => ?_
                refine lv_goto hx hb mi_d213 (tgt := 112) (by decide) ?_
                have hMn := hM.store (k' := (z_all (fb 0)).toInt + 1) (s := set) hN.2 (by omega) (by omega) (by omega) (i := z161) (by omega) (v := (1 : Int32)) (fun q => by first | exact absurd rfl q | exact .inr ⟨hpos, a, by omega, by omega, by first | (rw [show (1024 * (h.toInt - 1) + a.toInt).toNat = z184.toInt.toNat by omega, hg_e185]; exact q186), by first | exact .inl (Int32.toInt_inj.mp q192_) | exact .inr (hst_r198 q201)⟩) (by omega)
                rw [hf_f209] at hMn
                exact ih _ _ _ _ _ _ hI hY_this hY_bk hY_lw hY_tr hs_bk hs_lw hs_tr hA_bk hA_lw hA_tr (lv_sub hl [0, 1, 2, 3, 4] rfl) (by first | assumption | omega) (by first | assumption | omega) hMn (by omega)
              · have q192_ : ¬ a.toInt = set.toInt := fun q => q192 (Int32.toInt_inj.mp q)
                refine lv_iload hx hb mi_d195 (lv_at hl 0 rfl) ?_
                refine lv_iload_n hx hb mi_d197 rfl (lv_at hl 1 rfl) ?_
                refine y_call (z := (1, 257, 2, none, xM205)) (av := [.int a, .int set]) (rest := [.int z161, .ref tr]) (y_cokS (n := 2) X ym_isStep (x_cons (x_bw82 1 rfl rfl) (x_cons (x_bw82 2 rfl rfl) (x_cons (x_bw0 9 rfl rfl) x_nilm))) (x_bw82 3 rfl rfl) (by decide +kernel) ⟨Nat.le_of_ble_eq_true rfl, Nat.le_of_ble_eq_true rfl⟩) hY0 hI rfl mi_d198 hl.1 (Nat.le_of_ble_eq_true rfl) (Nat.le_of_ble_eq_true rfl) (Nat.le_of_ble_eq_true rfl) (y_cons ⟨_, rfl, x_i32 _⟩ (y_cons ⟨_, rfl, x_i32 _⟩ y_nil)) rfl (y_norecv rfl) trivial (y_sub_ef rfl) fun v Yn o Hn L ho hr ha hIn hx_ hE hP => ?_
                replace hs_bk := y_Efld hE hY_this rfl (by decide) (by decide) hs_bk
                replace hs_lw := y_Efld hE hY_this rfl (by decide) (by decide) hs_lw
                replace hs_tr := y_Efld hE hY_this rfl (by decide) (by decide) hs_tr
                replace hA_bk := hA_bk.kept (y_Earr hE hY_bk rfl (by decide))
                replace hA_lw := hA_lw.kept (y_Earr hE hY_lw rfl (by decide))
                replace hA_tr := hA_tr.kept (y_Earr hE hY_tr rfl (by decide))
                replace hY_this := y_ext hx_ hI.1 hY_this
                replace hY_bk := y_ext hx_ hI.1 hY_bk
                replace hY_lw := y_ext hx_ hI.1 hY_lw
                replace hY_tr := y_ext hx_ hI.1 hY_tr
                obtain ⟨r198, rfl, hst_r198, hns_r198⟩ : ∃ r : Int32, v = some (.int r) ∧ (¬ r = 0 → z_step a set) ∧ (r = 0 → ¬ z_step a set) := z_stepR (hP _ _ rfl)
                clear ho hr ha hE hP hI hx_
                rename x_I _ _ _ _ _ _ _ _ _ _ => hI
                refine lv_if_eq hx hb mi_d201 (tgt := 208) (by decide) (fun q201 => ?_) (fun q201 => ?_)
                · have q201_ : r198.toInt = (0 : Int32).toInt := by rw [q201]
                  refine lv_iconst hx hb mi_d208 (v := 0) (by decide) ?_
                  refine y_zast X hY0 hI hY_tr rfl hA_tr (by omega) (by show _ < (12288 : Int); omega) (y_01 (by omega) (by omega)) ⟨_, rfl, by show (0 : Int) ≤ _; omega, by show _ ≤ (1 : Int); omega⟩ (by decide +kernel) mi_d209 fun H locs hI h_new ho => ?_
                  replace hA_tr := h_new
                  replace hB_tr := y_upb (i := z161.toInt.toNat) (v := (0 : Int32)) hB_tr (by constructor <;> omega)
                  generalize hf_f209 : y_up ff z161.toInt.toNat (0 : Int32) = f209 at hA_tr hB_tr
                  replace hs_bk := y_slk hs_bk (ho _ (y_ne hY_this hY_tr rfl))
                  replace hs_lw := y_slk hs_lw (ho _ (y_ne hY_this hY_tr rfl))
                  replace hs_tr := y_slk hs_tr (ho _ (y_ne hY_this hY_tr rfl))
                  replace hA_bk := hA_bk.kept (ho _ (y_ne hY_bk hY_tr rfl))
                  replace hA_lw := hA_lw.kept (ho _ (y_ne hY_lw hY_tr rfl))
                  obtain ⟨z210, hg_z210⟩ : ∃ z210 : Int32, a + Int32.ofInt 1 = z210 := ⟨_, rfl⟩
                  have h_z210 : z210.toInt = a.toInt + 1 := by rw [← hg_z210]; exact y_inc (by decide) (by omega) (by omega)
                  refine lv_iinc hx hb mi_d210 hl (k := 0) rfl hg_z210 (by decide) (lv' := [(4, .int z210), (3, .int set), (2, .int h), (0, .ref this), (1, .int fm)]) rfl fun ls hl => ?_
                  refine lv_goto hx hb mi_d213 (tgt := 112) (by decide) ?_
                  have hMn := hM.store (k' := (z_all (fb 0)).toInt + 1) (s := set) hN.2 (by omega) (by omega) (by omega) (i := z161) (by omega) (v := (0 : Int32)) (fun q => by first | exact absurd rfl q | exact .inr ⟨hpos, a, by omega, by omega, by first | (rw [show (1024 * (h.toInt - 1) + a.toInt).toNat = z184.toInt.toNat by omega, hg_e185]; exact q186), by first | exact .inl (Int32.toInt_inj.mp q192_) | exact .inr (hst_r198 q201)⟩) (by omega)
                  rw [hf_f209] at hMn
                  exact ih _ _ _ _ _ _ hI hY_this hY_bk hY_lw hY_tr hs_bk hs_lw hs_tr hA_bk hA_lw hA_tr (lv_sub hl [0, 1, 2, 3, 4] rfl) (by first | assumption | omega) (by first | assumption | omega) hMn (by omega)
                · have q201_ : ¬ r198.toInt = (0 : Int32).toInt := fun q => q201 (Int32.toInt_inj.mp q)
                  refine lv_iconst hx hb mi_d204 (v := 1) (by decide) ?_
                  refine lv_goto hx hb mi_d205 (tgt := 209) (by decide) ?_
                  refine y_zast X hY0 hI hY_tr rfl hA_tr (by omega) (by show _ < (12288 : Int); omega) (y_01 (by omega) (by omega)) ⟨_, rfl, by show (0 : Int) ≤ _; omega, by show _ ≤ (1 : Int); omega⟩ (by decide +kernel) mi_d209 fun H locs hI h_new ho => ?_
                  replace hA_tr := h_new
                  replace hB_tr := y_upb (i := z161.toInt.toNat) (v := (1 : Int32)) hB_tr (by constructor <;> omega)
                  generalize hf_f209 : y_up ff z161.toInt.toNat (1 : Int32) = f209 at hA_tr hB_tr
                  replace hs_bk := y_slk hs_bk (ho _ (y_ne hY_this hY_tr rfl))
                  replace hs_lw := y_slk hs_lw (ho _ (y_ne hY_this hY_tr rfl))
                  replace hs_tr := y_slk hs_tr (ho _ (y_ne hY_this hY_tr rfl))
                  replace hA_bk := hA_bk.kept (ho _ (y_ne hY_bk hY_tr rfl))
                  replace hA_lw := hA_lw.kept (ho _ (y_ne hY_lw hY_tr rfl))
                  obtain ⟨z210, hg_z210⟩ : ∃ z210 : Int32, a + Int32.ofInt 1 = z210 := ⟨_, rfl⟩
                  have h_z210 : z210.toInt = a.toInt + 1 := by rw [← hg_z210]; exact y_inc (by decide) (by omega) (by omega)
                  refine lv_iinc hx hb mi_d210 hl (k := 0) rfl hg_z210 (by decide) (lv' := [(4, .int z210), (3, .int set), (2, .int h), (0, .ref this), (1, .int fm)]) rfl fun ls hl => ?_
                  refine lv_goto hx hb mi_d213 (tgt := 112) (by decide) ?_
                  have hMn := hM.store (k' := (z_all (fb 0)).toInt + 1) (s := set) hN.2 (by omega) (by omega) (by omega) (i := z161) (by omega) (v := (1 : Int32)) (fun q => by first | exact absurd rfl q | exact .inr ⟨hpos, a, by omega, by omega, by first | (rw [show (1024 * (h.toInt - 1) + a.toInt).toNat = z184.toInt.toNat by omega, hg_e185]; exact q186), by first | exact .inl (Int32.toInt_inj.mp q192_) | exact .inr (hst_r198 q201)⟩) (by omega)
                  rw [hf_f209] at hMn
                  exact ih _ _ _ _ _ _ hI hY_this hY_bk hY_lw hY_tr hs_bk hs_lw hs_tr hA_bk hA_lw hA_tr (lv_sub hl [0, 1, 2, 3, 4] rfl) (by first | assumption | omega) (by first | assumption | omega) hMn (by omega)
theorem mi_L97 {p : Program} {l : Launch} {e : Env} {s : State} {m : MethodId} {below : List Frame} {meth : Method} {c : Code} {D : va_G} {U : State} {Y0 : xY} {av : List Value} (B : y_B vwCl x_Tb x_Nb xM207 p s m meth c D U Y0 av) {this bk lw tr : Nat} {fm : Int32} {fb : Nat → Int32} (hav : av = [.ref this, .int fm]) (hN : 0 ≤ (z_all (fb 0)).toInt ∧ (z_all (fb 0)).toInt ≤ 1023) (fin : ∀ {H : Heap} {Y : xY} {ff : Nat → Int32}, y_A tr 12288 H ff → (∀ j, j < 12288 → (0 : Int) ≤ (ff j).toInt ∧ (ff j).toInt ≤ 1) → z_mall (z_all (fb 0)).toInt ff fm 12 0 → z_Pmists D av Y0 s.heap none Y H) {h : Int32} (hh : 0 ≤ h.toInt ∧ h.toInt ≤ 11)
    (out2 : ∀ (H : Heap) (Y : xY) (locs : List Loc) (ls : Array Slot) (h1 : Int32) (gl ff : Nat → Int32), x_I D x_G x_Zs U (x_efs xM207) Y0 s.heap Y H locs → Y this = some 17 → Y bk = some 46 → Y lw = some 59 → Y tr = some 60 → x_sl D 12 0 this H = some (.ref bk) → x_sl D 12 22 this H = some (.ref lw) → x_sl D 12 23 this H = some (.ref tr) → y_A bk 160 H fb → y_A lw 12288 H gl → y_A tr 12288 H ff → lv_has ls xM207.2.2.1 [(2, .int h1), (0, .ref this), (1, .int fm)] → (∀ j, j < 12288 → (0 : Int) ≤ (gl j).toInt ∧ (gl j).toInt ≤ 1) → (∀ j, j < 12288 → (0 : Int) ≤ (ff j).toInt ∧ (ff j).toInt ≤ 1) → (0 ≤ h1.toInt ∧ h1.toInt ≤ 12) → (z_mall (z_all (fb 0)).toInt ff fm h1.toInt 0) → (h1.toInt = h.toInt + 1) → W p l e (x_rm xM207) s m av.toArray below meth c H locs 0 0 (y_QQ below D x_G x_Zs U xM207 z_Pmists av Y0 s) (F0 m 2 ls [])) :
    ∀ (n : Nat), ∀ (H : Heap) (Y : xY) (locs : List Loc) (ls : Array Slot) (set : Int32) (gl ff : Nat → Int32), x_I D x_G x_Zs U (x_efs xM207) Y0 s.heap Y H locs → Y this = some 17 → Y bk = some 46 → Y lw = some 59 → Y tr = some 60 → x_sl D 12 0 this H = some (.ref bk) → x_sl D 12 22 this H = some (.ref lw) → x_sl D 12 23 this H = some (.ref tr) → y_A bk 160 H fb → y_A lw 12288 H gl → y_A tr 12288 H ff → lv_has ls xM207.2.2.1 [(3, .int set), (2, .int h), (0, .ref this), (1, .int fm)] → (∀ j, j < 12288 → (0 : Int) ≤ (gl j).toInt ∧ (gl j).toInt ≤ 1) → (∀ j, j < 12288 → (0 : Int) ≤ (ff j).toInt ∧ (ff j).toInt ≤ 1) → (0 ≤ set.toInt ∧ set.toInt ≤ (z_all (fb 0)).toInt + 1) → (z_mall (z_all (fb 0)).toInt ff fm h.toInt ((z_all (fb 0)).toInt + 1)) → (1024 - set.toInt).toNat < n → W p l e (x_rm xM207) s m av.toArray below meth c H locs 0 0 (y_QQ below D x_G x_Zs U xM207 z_Pmists av Y0 s) (F0 m 97 ls []) := by
  have X := B.1
  have hx := X.1
  have hb := X.2.1
  have hY0 := B.2.2.2.2.1
  intro n
  induction n with
  | zero => intro _ _ _ _ _ _ _ _ _ _ _ _ _ _ _ _ _ _ _ _ _ _ _ h; exact absurd h (Nat.not_lt_zero _)
  | succ n ih =>
    intro H Y locs ls set gl ff hI hY_this hY_bk hY_lw hY_tr hs_bk hs_lw hs_tr hA_bk hA_lw hA_tr hl hB_lw hB_tr hset0 hM hn
    refine lv_iload_n hx hb mi_d97 rfl (lv_at hl 0 rfl) ?_
    refine lv_aload_n hx hb mi_d98 rfl (lv_at hl 2 rfl) ?_
    refine y_call (z := (0, 91, 1, some 17, xM182)) (av := [.ref this]) (rest := [.int set]) (y_cokV (n := 0) (ci := 12) X ym_all rfl rfl rfl (x_cons (x_bw77 4 rfl rfl) (x_cons (x_bw77 6 rfl rfl) (x_cons (x_at 49 (by decide +kernel) rfl) (x_cons (x_bw0 9 rfl rfl) x_nilm)))) (x_bw77 7 rfl rfl) (by decide +kernel) ⟨Nat.le_of_ble_eq_true rfl, Nat.le_of_ble_eq_true rfl⟩) hY0 hI rfl mi_d99 hl.1 (Nat.le_of_ble_eq_true rfl) (Nat.le_of_ble_eq_true rfl) (Nat.le_of_ble_eq_true rfl) (y_cons (y_cref hY_this rfl) y_nil) rfl (y_recv rfl hY_this) trivial (y_sub_ef rfl) fun v Yn o Hn L ho hr ha hIn hx_ hE hP => ?_
    have hPv := hP _ _ _ rfl hs_bk (hA_bk 0 (by decide))
    replace hs_bk := y_Efld hE hY_this rfl (by decide) (by decide) hs_bk
    replace hs_lw := y_Efld hE hY_this rfl (by decide) (by decide) hs_lw
    replace hs_tr := y_Efld hE hY_this rfl (by decide) (by decide) hs_tr
    replace hA_bk := hA_bk.kept (y_Earr hE hY_bk rfl (by decide))
    replace hA_lw := hA_lw.kept (y_Earr hE hY_lw rfl (by decide))
    replace hA_tr := hA_tr.kept (y_Earr hE hY_tr rfl (by decide))
    replace hY_this := y_ext hx_ hI.1 hY_this
    replace hY_bk := y_ext hx_ hI.1 hY_bk
    replace hY_lw := y_ext hx_ hI.1 hY_lw
    replace hY_tr := y_ext hx_ hI.1 hY_tr
    obtain rfl := hPv
    clear ho hr ha hE hP hI hx_
    rename x_I _ _ _ _ _ _ _ _ _ _ => hI
    refine lv_icmp_gt hx hb mi_d102 (tgt := 222) (by decide) (fun q102 => ?_) (fun q102 => ?_)
    · have q102_ : (z_all (fb 0)).toInt < set.toInt := x_lt32.mp q102
      obtain ⟨z222, hg_z222⟩ : ∃ z222 : Int32, h + Int32.ofInt 1 = z222 := ⟨_, rfl⟩
      have h_z222 : z222.toInt = h.toInt + 1 := by rw [← hg_z222]; exact y_inc (by decide) (by omega) (by omega)
      refine lv_iinc hx hb mi_d222 hl (k := 1) rfl hg_z222 (by decide) (lv' := [(2, .int z222), (3, .int set), (0, .ref this), (1, .int fm)]) rfl fun ls hl => ?_
      refine lv_goto hx hb mi_d225 (tgt := 2) (by decide) ?_
      exact out2 _ _ _ _ _ _ _ hI hY_this hY_bk hY_lw hY_tr hs_bk hs_lw hs_tr hA_bk hA_lw hA_tr (lv_sub hl [0, 2, 3] rfl) (by first | assumption | omega) (by first | assumption | omega) (by first | assumption | omega) (hM.next (by omega) (by omega)) (by first | assumption | omega)
    · have q102_ : set.toInt ≤ (z_all (fb 0)).toInt := Int.not_lt.mp fun q => q102 (x_lt32.mpr q)
      refine lv_iload_n hx hb mi_d105 rfl (lv_at hl 1 rfl) ?_
      have ec0 : (0 : Int32).toInt = 0 := by decide
      refine lv_if_le hx hb mi_d106 (tgt := 222) (by decide) (fun q106 => ?_) (fun q106 => ?_)
      · have q106_ : h.toInt ≤ (0 : Int32).toInt := x_le32.mp q106
        obtain ⟨z222, hg_z222⟩ : ∃ z222 : Int32, h + Int32.ofInt 1 = z222 := ⟨_, rfl⟩
        have h_z222 : z222.toInt = h.toInt + 1 := by rw [← hg_z222]; exact y_inc (by decide) (by omega) (by omega)
        refine lv_iinc hx hb mi_d222 hl (k := 1) rfl hg_z222 (by decide) (lv' := [(2, .int z222), (3, .int set), (0, .ref this), (1, .int fm)]) rfl fun ls hl => ?_
        refine lv_goto hx hb mi_d225 (tgt := 2) (by decide) ?_
        exact out2 _ _ _ _ _ _ _ hI hY_this hY_bk hY_lw hY_tr hs_bk hs_lw hs_tr hA_bk hA_lw hA_tr (lv_sub hl [0, 2, 3] rfl) (by first | assumption | omega) (by first | assumption | omega) (by first | assumption | omega) (hM.next (by omega) (by omega)) (by first | assumption | omega)
      · have q106_ : (0 : Int32).toInt < h.toInt := Int.not_le.mp fun q => q106 (x_le32.mpr q)
        refine lv_iconst hx hb mi_d109 (v := 0) (by decide) ?_
        refine lv_istore hx hb mi_d110 hl (by decide) (lv' := [(4, .int (0 : Int32)), (3, .int set), (2, .int h), (0, .ref this), (1, .int fm)]) rfl fun ls hl => ?_
        exact mi_L112 B hav hN fin (by first | assumption | omega) (by first | assumption | omega) (by first | assumption | omega) (by first | assumption | omega) (fun H Y locs ls set1 gl1 ff hI hY_this hY_bk hY_lw hY_tr hs_bk hs_lw hs_tr hA_bk hA_lw hA_tr hl hB_lw hB_tr hset0 hM hs1 => ih _ _ _ _ _ _ _ hI hY_this hY_bk hY_lw hY_tr hs_bk hs_lw hs_tr hA_bk hA_lw hA_tr hl hB_lw hB_tr hset0 hM (by omega)) 1025 _ _ _ _ _ _ hI hY_this hY_bk hY_lw hY_tr hs_bk hs_lw hs_tr hA_bk hA_lw hA_tr (lv_sub hl [0, 1, 2, 3, 4] rfl) (by first | assumption | omega) (by first | assumption | omega) (by first | assumption | omega) (by omega)
theorem mi_L29 {p : Program} {l : Launch} {e : Env} {s : State} {m : MethodId} {below : List Frame} {meth : Method} {c : Code} {D : va_G} {U : State} {Y0 : xY} {av : List Value} (B : y_B vwCl x_Tb x_Nb xM207 p s m meth c D U Y0 av) {this bk lw tr : Nat} {fm : Int32} {fb : Nat → Int32} (hav : av = [.ref this, .int fm]) (hN : 0 ≤ (z_all (fb 0)).toInt ∧ (z_all (fb 0)).toInt ≤ 1023) (fin : ∀ {H : Heap} {Y : xY} {ff : Nat → Int32}, y_A tr 12288 H ff → (∀ j, j < 12288 → (0 : Int) ≤ (ff j).toInt ∧ (ff j).toInt ≤ 1) → z_mall (z_all (fb 0)).toInt ff fm 12 0 → z_Pmists D av Y0 s.heap none Y H) {h : Int32} (hh : 0 ≤ h.toInt ∧ h.toInt ≤ 11)
    (out2 : ∀ (H : Heap) (Y : xY) (locs : List Loc) (ls : Array Slot) (h1 : Int32) (gl ff : Nat → Int32), x_I D x_G x_Zs U (x_efs xM207) Y0 s.heap Y H locs → Y this = some 17 → Y bk = some 46 → Y lw = some 59 → Y tr = some 60 → x_sl D 12 0 this H = some (.ref bk) → x_sl D 12 22 this H = some (.ref lw) → x_sl D 12 23 this H = some (.ref tr) → y_A bk 160 H fb → y_A lw 12288 H gl → y_A tr 12288 H ff → lv_has ls xM207.2.2.1 [(2, .int h1), (0, .ref this), (1, .int fm)] → (∀ j, j < 12288 → (0 : Int) ≤ (gl j).toInt ∧ (gl j).toInt ≤ 1) → (∀ j, j < 12288 → (0 : Int) ≤ (ff j).toInt ∧ (ff j).toInt ≤ 1) → (0 ≤ h1.toInt ∧ h1.toInt ≤ 12) → (z_mall (z_all (fb 0)).toInt ff fm h1.toInt 0) → (h1.toInt = h.toInt + 1) → W p l e (x_rm xM207) s m av.toArray below meth c H locs 0 0 (y_QQ below D x_G x_Zs U xM207 z_Pmists av Y0 s) (F0 m 2 ls [])) :
    ∀ (n : Nat), ∀ (H : Heap) (Y : xY) (locs : List Loc) (ls : Array Slot) (set : Int32) (gl ff : Nat → Int32), x_I D x_G x_Zs U (x_efs xM207) Y0 s.heap Y H locs → Y this = some 17 → Y bk = some 46 → Y lw = some 59 → Y tr = some 60 → x_sl D 12 0 this H = some (.ref bk) → x_sl D 12 22 this H = some (.ref lw) → x_sl D 12 23 this H = some (.ref tr) → y_A bk 160 H fb → y_A lw 12288 H gl → y_A tr 12288 H ff → lv_has ls xM207.2.2.1 [(3, .int set), (2, .int h), (0, .ref this), (1, .int fm)] → (∀ j, j < 12288 → (0 : Int) ≤ (gl j).toInt ∧ (gl j).toInt ≤ 1) → (∀ j, j < 12288 → (0 : Int) ≤ (ff j).toInt ∧ (ff j).toInt ≤ 1) → (0 ≤ set.toInt ∧ set.toInt ≤ (z_all (fb 0)).toInt + 1) → (z_mall (z_all (fb 0)).toInt ff fm h.toInt set.toInt) → (1024 - set.toInt).toNat < n → W p l e (x_rm xM207) s m av.toArray below meth c H locs 0 0 (y_QQ below D x_G x_Zs U xM207 z_Pmists av Y0 s) (F0 m 29 ls []) := by
  have X := B.1
  have hx := X.1
  have hb := X.2.1
  have hY0 := B.2.2.2.2.1
  intro n
  induction n with
  | zero => intro _ _ _ _ _ _ _ _ _ _ _ _ _ _ _ _ _ _ _ _ _ _ _ h; exact absurd h (Nat.not_lt_zero _)
  | succ n ih =>
    intro H Y locs ls set gl ff hI hY_this hY_bk hY_lw hY_tr hs_bk hs_lw hs_tr hA_bk hA_lw hA_tr hl hB_lw hB_tr hset0 hM hn
    refine lv_iload_n hx hb mi_d29 rfl (lv_at hl 0 rfl) ?_
    refine lv_aload_n hx hb mi_d30 rfl (lv_at hl 2 rfl) ?_
    refine y_call (z := (0, 91, 1, some 17, xM182)) (av := [.ref this]) (rest := [.int set]) (y_cokV (n := 0) (ci := 12) X ym_all rfl rfl rfl (x_cons (x_bw77 4 rfl rfl) (x_cons (x_bw77 6 rfl rfl) (x_cons (x_at 49 (by decide +kernel) rfl) (x_cons (x_bw0 9 rfl rfl) x_nilm)))) (x_bw77 7 rfl rfl) (by decide +kernel) ⟨Nat.le_of_ble_eq_true rfl, Nat.le_of_ble_eq_true rfl⟩) hY0 hI rfl mi_d31 hl.1 (Nat.le_of_ble_eq_true rfl) (Nat.le_of_ble_eq_true rfl) (Nat.le_of_ble_eq_true rfl) (y_cons (y_cref hY_this rfl) y_nil) rfl (y_recv rfl hY_this) trivial (y_sub_ef rfl) fun v Yn o Hn L ho hr ha hIn hx_ hE hP => ?_
    have hPv := hP _ _ _ rfl hs_bk (hA_bk 0 (by decide))
    replace hs_bk := y_Efld hE hY_this rfl (by decide) (by decide) hs_bk
    replace hs_lw := y_Efld hE hY_this rfl (by decide) (by decide) hs_lw
    replace hs_tr := y_Efld hE hY_this rfl (by decide) (by decide) hs_tr
    replace hA_bk := hA_bk.kept (y_Earr hE hY_bk rfl (by decide))
    replace hA_lw := hA_lw.kept (y_Earr hE hY_lw rfl (by decide))
    replace hA_tr := hA_tr.kept (y_Earr hE hY_tr rfl (by decide))
    replace hY_this := y_ext hx_ hI.1 hY_this
    replace hY_bk := y_ext hx_ hI.1 hY_bk
    replace hY_lw := y_ext hx_ hI.1 hY_lw
    replace hY_tr := y_ext hx_ hI.1 hY_tr
    obtain rfl := hPv
    clear ho hr ha hE hP hI hx_
    rename x_I _ _ _ _ _ _ _ _ _ _ => hI
    refine lv_icmp_gt hx hb mi_d34 (tgt := 95) (by decide) (fun q34 => ?_) (fun q34 => ?_)
    · have q34_ : (z_all (fb 0)).toInt < set.toInt := x_lt32.mp q34
      refine lv_iconst hx hb mi_d95 (v := 0) (by decide) ?_
      have ec0 : (0 : Int32).toInt = 0 := by decide
      refine lv_istore_n hx hb mi_d96 rfl hl (by decide) (lv' := [(3, .int (0 : Int32)), (2, .int h), (0, .ref this), (1, .int fm)]) rfl fun ls hl => ?_
      exact mi_L97 B hav hN fin (by first | assumption | omega) (fun H Y locs ls h1 gl ff hI hY_this hY_bk hY_lw hY_tr hs_bk hs_lw hs_tr hA_bk hA_lw hA_tr hl hB_lw hB_tr hh0 hM hh1 => out2 _ _ _ _ _ _ _ hI hY_this hY_bk hY_lw hY_tr hs_bk hs_lw hs_tr hA_bk hA_lw hA_tr hl hB_lw hB_tr hh0 hM hh1) 1025 _ _ _ _ _ _ _ hI hY_this hY_bk hY_lw hY_tr hs_bk hs_lw hs_tr hA_bk hA_lw hA_tr (lv_sub hl [0, 1, 2, 3] rfl) (by first | assumption | omega) (by first | assumption | omega) (by first | assumption | omega) (hM.less (by omega)) (by omega)
    · have q34_ : set.toInt ≤ (z_all (fb 0)).toInt := Int.not_lt.mp fun q => q34 (x_lt32.mpr q)
      refine lv_aload_n hx hb mi_d37 rfl (lv_at hl 2 rfl) ?_
      refine y_getf X (fl201 X.2.2.2.2.1) hI.1 hY_this rfl hs_lw mi_d38 ?_
      refine lv_sipush hx hb mi_d41 (v := 1024) (by decide) ?_
      have ec1024 : (1024 : Int32).toInt = 1024 := by decide
      refine lv_iload_n hx hb mi_d44 rfl (lv_at hl 1 rfl) ?_
      refine lv_imul hx hb mi_d45 ?_
      generalize hg_z45 : (1024 : Int32) * h = z45
      have h_z45 : z45.toInt = 1024 * h.toInt := by rw [← hg_z45]; have := y_mul (x := (1024 : Int32)) (y := h) (by rw [ec1024]; omega) (by rw [ec1024]; omega); rw [ec1024] at this; exact this
      refine lv_iload_n hx hb mi_d46 rfl (lv_at hl 0 rfl) ?_
      refine lv_iadd hx hb mi_d47 ?_
      generalize hg_z47 : z45 + set = z47
      have h_z47 : z47.toInt = z45.toInt + set.toInt := by rw [← hg_z47]; have := y_add (x := z45) (y := set) (by omega) (by omega); exact this
      refine lv_aload_n hx hb mi_d48 rfl (lv_at hl 2 rfl) ?_
      refine lv_iload_n hx hb mi_d49 rfl (lv_at hl 0 rfl) ?_
      refine y_call (z := (0, 243, 2, some 17, xM191)) (av := [.ref this, .int set]) (rest := [.int z47, .ref lw]) (y_cok.of (x_cokV (n := 1) (ci := 12) X xm191 rfl rfl rfl (x_cons (x_bw78 11 rfl rfl) (x_cons (x_bw78 13 rfl rfl) (x_cons (x_at 52 (by decide +kernel) rfl) (x_cons (x_bw0 9 rfl rfl) x_nilm)))) (x_bw78 14 rfl rfl) (by decide +kernel) ⟨Nat.le_of_ble_eq_true rfl, Nat.le_of_ble_eq_true rfl⟩)) hY0 hI rfl mi_d50 hl.1 (Nat.le_of_ble_eq_true rfl) (Nat.le_of_ble_eq_true rfl) (Nat.le_of_ble_eq_true rfl) (y_cons (y_cref hY_this rfl) (y_cons ⟨_, rfl, x_i32 _⟩ y_nil)) rfl (y_recv rfl hY_this) trivial (y_sub_ef rfl) fun v Yn o Hn L ho hr ha hIn hx_ hE hP => ?_
      replace hs_bk := y_Efld hE hY_this rfl (by decide) (by decide) hs_bk
      replace hs_lw := y_Efld hE hY_this rfl (by decide) (by decide) hs_lw
      replace hs_tr := y_Efld hE hY_this rfl (by decide) (by decide) hs_tr
      replace hA_bk := hA_bk.kept (y_Earr hE hY_bk rfl (by decide))
      replace hA_lw := hA_lw.kept (y_Earr hE hY_lw rfl (by decide))
      replace hA_tr := hA_tr.kept (y_Earr hE hY_tr rfl (by decide))
      replace hY_this := y_ext hx_ hI.1 hY_this
      replace hY_bk := y_ext hx_ hI.1 hY_bk
      replace hY_lw := y_ext hx_ hI.1 hY_lw
      replace hY_tr := y_ext hx_ hI.1 hY_tr
      obtain ⟨r50, rfl, h_r50⟩ := y_ansI (lo := 0) (hi := 1) (by decide) ho hr
      clear ho hr ha hE hP hI hx_
      rename x_I _ _ _ _ _ _ _ _ _ _ => hI
      refine y_zast X hY0 hI hY_lw rfl hA_lw (by omega) (by show _ < (12288 : Int); omega) (y_01 (by omega) (by omega)) ⟨_, rfl, by show (0 : Int) ≤ _; omega, by show _ ≤ (1 : Int); omega⟩ (by decide +kernel) mi_d53 fun H locs hI h_new ho => ?_
      replace hA_lw := h_new
      replace hB_lw := y_upb (i := z47.toInt.toNat) (v := r50) hB_lw (by constructor <;> omega)
      generalize hf_f53 : y_up gl z47.toInt.toNat r50 = f53 at hA_lw hB_lw
      replace hs_bk := y_slk hs_bk (ho _ (y_ne hY_this hY_lw rfl))
      replace hs_lw := y_slk hs_lw (ho _ (y_ne hY_this hY_lw rfl))
      replace hs_tr := y_slk hs_tr (ho _ (y_ne hY_this hY_lw rfl))
      replace hA_bk := hA_bk.kept (ho _ (y_ne hY_bk hY_lw rfl))
      replace hA_tr := hA_tr.kept (ho _ (y_ne hY_tr hY_lw rfl))
      refine lv_aload_n hx hb mi_d54 rfl (lv_at hl 2 rfl) ?_
      refine y_getf X (fl202 X.2.2.2.2.1) hI.1 hY_this rfl hs_tr mi_d55 ?_
      refine lv_sipush hx hb mi_d58 (v := 1024) (by decide) ?_
      refine lv_iload_n hx hb mi_d61 rfl (lv_at hl 1 rfl) ?_
      refine lv_imul hx hb mi_d62 ?_
      generalize hg_z62 : (1024 : Int32) * h = z62
      have h_z62 : z62.toInt = 1024 * h.toInt := by rw [← hg_z62]; have := y_mul (x := (1024 : Int32)) (y := h) (by rw [ec1024]; omega) (by rw [ec1024]; omega); rw [ec1024] at this; exact this
      refine lv_iload_n hx hb mi_d63 rfl (lv_at hl 0 rfl) ?_
      refine lv_iadd hx hb mi_d64 ?_
      generalize hg_z64 : z62 + set = z64
      have h_z64 : z64.toInt = z62.toInt + set.toInt := by rw [← hg_z64]; have := y_add (x := z62) (y := set) (by omega) (by omega); exact this
      refine lv_iload_n hx hb mi_d65 rfl (lv_at hl 1 rfl) ?_
      have ec0 : (0 : Int32).toInt = 0 := by decide
      refine lv_if_ne hx hb mi_d66 (tgt := 87) (by decide) (fun q66 => ?_) (fun q66 => ?_)
      · have q66_ : ¬ h.toInt = (0 : Int32).toInt := fun q => q66 (Int32.toInt_inj.mp q)
        refine lv_iconst hx hb mi_d87 (v := 0) (by decide) ?_
        refine y_zast X hY0 hI hY_tr rfl hA_tr (by omega) (by show _ < (12288 : Int); omega) (y_01 (by omega) (by omega)) ⟨_, rfl, by show (0 : Int) ≤ _; omega, by show _ ≤ (1 : Int); omega⟩ (by decide +kernel) mi_d88 fun H locs hI h_new ho => ?_
        replace hA_tr := h_new
        replace hB_tr := y_upb (i := z64.toInt.toNat) (v := (0 : Int32)) hB_tr (by constructor <;> omega)
        generalize hf_f88 : y_up ff z64.toInt.toNat (0 : Int32) = f88 at hA_tr hB_tr
        replace hs_bk := y_slk hs_bk (ho _ (y_ne hY_this hY_tr rfl))
        replace hs_lw := y_slk hs_lw (ho _ (y_ne hY_this hY_tr rfl))
        replace hs_tr := y_slk hs_tr (ho _ (y_ne hY_this hY_tr rfl))
        replace hA_bk := hA_bk.kept (ho _ (y_ne hY_bk hY_tr rfl))
        replace hA_lw := hA_lw.kept (ho _ (y_ne hY_lw hY_tr rfl))
        obtain ⟨z89, hg_z89⟩ : ∃ z89 : Int32, set + Int32.ofInt 1 = z89 := ⟨_, rfl⟩
        have h_z89 : z89.toInt = set.toInt + 1 := by rw [← hg_z89]; exact y_inc (by decide) (by omega) (by omega)
        refine lv_iinc hx hb mi_d89 hl (k := 0) rfl hg_z89 (by decide) (lv' := [(3, .int z89), (2, .int h), (0, .ref this), (1, .int fm)]) rfl fun ls hl => ?_
        refine lv_goto hx hb mi_d92 (tgt := 29) (by decide) ?_
        have hMn := hM.store (k' := z89.toInt) (s := set) hN.2 (by omega) (by omega) (by omega) (i := z64) (by omega) (v := (0 : Int32)) (fun q => by first | exact absurd rfl q | exact .inl ⟨by omega, Int32.toInt_inj.mp q71_⟩) (by omega)
        rw [hf_f88] at hMn
        exact ih _ _ _ _ _ _ _ hI hY_this hY_bk hY_lw hY_tr hs_bk hs_lw hs_tr hA_bk hA_lw hA_tr (lv_sub hl [0, 1, 2, 3] rfl) (by first | assumption | omega) (by first | assumption | omega) (by first | assumption | omega) hMn (by omega)
      · have q66_ : h.toInt = (0 : Int32).toInt := by rw [q66]
        refine lv_iload_n hx hb mi_d69 rfl (lv_at hl 0 rfl) ?_
        refine lv_iload_n hx hb mi_d70 rfl (lv_at hl 3 rfl) ?_
        refine lv_icmp_ne hx hb mi_d71 (tgt := 87) (by decide) (fun q71 => ?_) (fun q71 => ?_)
        · have q71_ : ¬ set.toInt = fm.toInt := fun q => q71 (Int32.toInt_inj.mp q)
          refine lv_iconst hx hb mi_d87 (v := 0) (by decide) ?_
          refine y_zast X hY0 hI hY_tr rfl hA_tr (by omega) (by show _ < (12288 : Int); omega) (y_01 (by omega) (by omega)) ⟨_, rfl, by show (0 : Int) ≤ _; omega, by show _ ≤ (1 : Int); omega⟩ (by decide +kernel) mi_d88 fun H locs hI h_new ho => ?_
          replace hA_tr := h_new
          replace hB_tr := y_upb (i := z64.toInt.toNat) (v := (0 : Int32)) hB_tr (by constructor <;> omega)
          generalize hf_f88 : y_up ff z64.toInt.toNat (0 : Int32) = f88 at hA_tr hB_tr
          replace hs_bk := y_slk hs_bk (ho _ (y_ne hY_this hY_tr rfl))
          replace hs_lw := y_slk hs_lw (ho _ (y_ne hY_this hY_tr rfl))
          replace hs_tr := y_slk hs_tr (ho _ (y_ne hY_this hY_tr rfl))
          replace hA_bk := hA_bk.kept (ho _ (y_ne hY_bk hY_tr rfl))
          replace hA_lw := hA_lw.kept (ho _ (y_ne hY_lw hY_tr rfl))
          obtain ⟨z89, hg_z89⟩ : ∃ z89 : Int32, set + Int32.ofInt 1 = z89 := ⟨_, rfl⟩
          have h_z89 : z89.toInt = set.toInt + 1 := by rw [← hg_z89]; exact y_inc (by decide) (by omega) (by omega)
          refine lv_iinc hx hb mi_d89 hl (k := 0) rfl hg_z89 (by decide) (lv' := [(3, .int z89), (2, .int h), (0, .ref this), (1, .int fm)]) rfl fun ls hl => ?_
          refine lv_goto hx hb mi_d92 (tgt := 29) (by decide) ?_
          have hMn := hM.store (k' := z89.toInt) (s := set) hN.2 (by omega) (by omega) (by omega) (i := z64) (by omega) (v := (0 : Int32)) (fun q => by first | exact absurd rfl q | exact .inl ⟨by omega, Int32.toInt_inj.mp q71_⟩) (by omega)
          rw [hf_f88] at hMn
          exact ih _ _ _ _ _ _ _ hI hY_this hY_bk hY_lw hY_tr hs_bk hs_lw hs_tr hA_bk hA_lw hA_tr (lv_sub hl [0, 1, 2, 3] rfl) (by first | assumption | omega) (by first | assumption | omega) (by first | assumption | omega) hMn (by omega)
        · have q71_ : set.toInt = fm.toInt := by rw [q71]
          refine lv_aload_n hx hb mi_d74 rfl (lv_at hl 2 rfl) ?_
          refine y_getf X (fl201 X.2.2.2.2.1) hI.1 hY_this rfl hs_lw mi_d75 ?_
          refine lv_iload_n hx hb mi_d78 rfl (lv_at hl 0 rfl) ?_
          refine y_zald X hI.1 hY_lw rfl hA_lw (by omega) (by show _ < (12288 : Int); omega) mi_d79 ?_
          obtain ⟨e79, hg_e79⟩ : ∃ e79 : Int32, f53 set.toInt.toNat = e79 := ⟨_, rfl⟩
          rw [hg_e79]
          have h_e79 : (0 : Int) ≤ e79.toInt ∧ e79.toInt ≤ 1 := by rw [← hg_e79]; exact hB_lw _ (by omega)
          refine lv_if_eq hx hb mi_d80 (tgt := 87) (by decide) (fun q80 => ?_) (fun q80 => ?_)
          · have q80_ : e79.toInt = (0 : Int32).toInt := by rw [q80]
            refine lv_iconst hx hb mi_d87 (v := 0) (by decide) ?_
            refine y_zast X hY0 hI hY_tr rfl hA_tr (by omega) (by show _ < (12288 : Int); omega) (y_01 (by omega) (by omega)) ⟨_, rfl, by show (0 : Int) ≤ _; omega, by show _ ≤ (1 : Int); omega⟩ (by decide +kernel) mi_d88 fun H locs hI h_new ho => ?_
            replace hA_tr := h_new
            replace hB_tr := y_upb (i := z64.toInt.toNat) (v := (0 : Int32)) hB_tr (by constructor <;> omega)
            generalize hf_f88 : y_up ff z64.toInt.toNat (0 : Int32) = f88 at hA_tr hB_tr
            replace hs_bk := y_slk hs_bk (ho _ (y_ne hY_this hY_tr rfl))
            replace hs_lw := y_slk hs_lw (ho _ (y_ne hY_this hY_tr rfl))
            replace hs_tr := y_slk hs_tr (ho _ (y_ne hY_this hY_tr rfl))
            replace hA_bk := hA_bk.kept (ho _ (y_ne hY_bk hY_tr rfl))
            replace hA_lw := hA_lw.kept (ho _ (y_ne hY_lw hY_tr rfl))
            obtain ⟨z89, hg_z89⟩ : ∃ z89 : Int32, set + Int32.ofInt 1 = z89 := ⟨_, rfl⟩
            have h_z89 : z89.toInt = set.toInt + 1 := by rw [← hg_z89]; exact y_inc (by decide) (by omega) (by omega)
            refine lv_iinc hx hb mi_d89 hl (k := 0) rfl hg_z89 (by decide) (lv' := [(3, .int z89), (2, .int h), (0, .ref this), (1, .int fm)]) rfl fun ls hl => ?_
            refine lv_goto hx hb mi_d92 (tgt := 29) (by decide) ?_
            have hMn := hM.store (k' := z89.toInt) (s := set) hN.2 (by omega) (by omega) (by omega) (i := z64) (by omega) (v := (0 : Int32)) (fun q => by first | exact absurd rfl q | exact .inl ⟨by omega, Int32.toInt_inj.mp q71_⟩) (by omega)
            rw [hf_f88] at hMn
            exact ih _ _ _ _ _ _ _ hI hY_this hY_bk hY_lw hY_tr hs_bk hs_lw hs_tr hA_bk hA_lw hA_tr (lv_sub hl [0, 1, 2, 3] rfl) (by first | assumption | omega) (by first | assumption | omega) (by first | assumption | omega) hMn (by omega)
          · have q80_ : ¬ e79.toInt = (0 : Int32).toInt := fun q => q80 (Int32.toInt_inj.mp q)
            refine lv_iconst hx hb mi_d83 (v := 1) (by decide) ?_
            have ec1 : (1 : Int32).toInt = 1 := by decide
            refine lv_goto hx hb mi_d84 (tgt := 88) (by decide) ?_
            refine y_zast X hY0 hI hY_tr rfl hA_tr (by omega) (by show _ < (12288 : Int); omega) (y_01 (by omega) (by omega)) ⟨_, rfl, by show (0 : Int) ≤ _; omega, by show _ ≤ (1 : Int); omega⟩ (by decide +kernel) mi_d88 fun H locs hI h_new ho => ?_
            replace hA_tr := h_new
            replace hB_tr := y_upb (i := z64.toInt.toNat) (v := (1 : Int32)) hB_tr (by constructor <;> omega)
            generalize hf_f88 : y_up ff z64.toInt.toNat (1 : Int32) = f88 at hA_tr hB_tr
            replace hs_bk := y_slk hs_bk (ho _ (y_ne hY_this hY_tr rfl))
            replace hs_lw := y_slk hs_lw (ho _ (y_ne hY_this hY_tr rfl))
            replace hs_tr := y_slk hs_tr (ho _ (y_ne hY_this hY_tr rfl))
            replace hA_bk := hA_bk.kept (ho _ (y_ne hY_bk hY_tr rfl))
            replace hA_lw := hA_lw.kept (ho _ (y_ne hY_lw hY_tr rfl))
            obtain ⟨z89, hg_z89⟩ : ∃ z89 : Int32, set + Int32.ofInt 1 = z89 := ⟨_, rfl⟩
            have h_z89 : z89.toInt = set.toInt + 1 := by rw [← hg_z89]; exact y_inc (by decide) (by omega) (by omega)
            refine lv_iinc hx hb mi_d89 hl (k := 0) rfl hg_z89 (by decide) (lv' := [(3, .int z89), (2, .int h), (0, .ref this), (1, .int fm)]) rfl fun ls hl => ?_
            refine lv_goto hx hb mi_d92 (tgt := 29) (by decide) ?_
            have hMn := hM.store (k' := z89.toInt) (s := set) hN.2 (by omega) (by omega) (by omega) (i := z64) (by omega) (v := (1 : Int32)) (fun q => by first | exact absurd rfl q | exact .inl ⟨by omega, Int32.toInt_inj.mp q71_⟩) (by omega)
            rw [hf_f88] at hMn
            exact ih _ _ _ _ _ _ _ hI hY_this hY_bk hY_lw hY_tr hs_bk hs_lw hs_tr hA_bk hA_lw hA_tr (lv_sub hl [0, 1, 2, 3] rfl) (by first | assumption | omega) (by first | assumption | omega) (by first | assumption | omega) hMn (by omega)
theorem mi_L2 {p : Program} {l : Launch} {e : Env} {s : State} {m : MethodId} {below : List Frame} {meth : Method} {c : Code} {D : va_G} {U : State} {Y0 : xY} {av : List Value} (B : y_B vwCl x_Tb x_Nb xM207 p s m meth c D U Y0 av) {this bk lw tr : Nat} {fm : Int32} {fb : Nat → Int32} (hav : av = [.ref this, .int fm]) (hN : 0 ≤ (z_all (fb 0)).toInt ∧ (z_all (fb 0)).toInt ≤ 1023) (fin : ∀ {H : Heap} {Y : xY} {ff : Nat → Int32}, y_A tr 12288 H ff → (∀ j, j < 12288 → (0 : Int) ≤ (ff j).toInt ∧ (ff j).toInt ≤ 1) → z_mall (z_all (fb 0)).toInt ff fm 12 0 → z_Pmists D av Y0 s.heap none Y H)  :
    ∀ (n : Nat), ∀ (H : Heap) (Y : xY) (locs : List Loc) (ls : Array Slot) (h : Int32) (gl ff : Nat → Int32), x_I D x_G x_Zs U (x_efs xM207) Y0 s.heap Y H locs → Y this = some 17 → Y bk = some 46 → Y lw = some 59 → Y tr = some 60 → x_sl D 12 0 this H = some (.ref bk) → x_sl D 12 22 this H = some (.ref lw) → x_sl D 12 23 this H = some (.ref tr) → y_A bk 160 H fb → y_A lw 12288 H gl → y_A tr 12288 H ff → lv_has ls xM207.2.2.1 [(2, .int h), (0, .ref this), (1, .int fm)] → (∀ j, j < 12288 → (0 : Int) ≤ (gl j).toInt ∧ (gl j).toInt ≤ 1) → (∀ j, j < 12288 → (0 : Int) ≤ (ff j).toInt ∧ (ff j).toInt ≤ 1) → (0 ≤ h.toInt ∧ h.toInt ≤ 12) → (z_mall (z_all (fb 0)).toInt ff fm h.toInt 0) → (12 - h.toInt).toNat < n → W p l e (x_rm xM207) s m av.toArray below meth c H locs 0 0 (y_QQ below D x_G x_Zs U xM207 z_Pmists av Y0 s) (F0 m 2 ls []) := by
  have X := B.1
  have hx := X.1
  have hb := X.2.1
  have hY0 := B.2.2.2.2.1
  intro n
  induction n with
  | zero => intro _ _ _ _ _ _ _ _ _ _ _ _ _ _ _ _ _ _ _ _ _ _ _ h; exact absurd h (Nat.not_lt_zero _)
  | succ n ih =>
    intro H Y locs ls h gl ff hI hY_this hY_bk hY_lw hY_tr hs_bk hs_lw hs_tr hA_bk hA_lw hA_tr hl hB_lw hB_tr hh0 hM hn
    refine lv_iload_n hx hb mi_d2 rfl (lv_at hl 0 rfl) ?_
    refine lv_bipush hx hb mi_d3 (v := 12) (by decide) ?_
    have ec12 : (12 : Int32).toInt = 12 := by decide
    refine lv_icmp_ge hx hb mi_d5 (tgt := 228) (by decide) (fun q5 => ?_) (fun q5 => ?_)
    · have q5_ : (12 : Int32).toInt ≤ h.toInt := x_le32.mp q5
      exact y_return B hI rfl rfl List.mem_cons_self rfl (x_cs.mono B.2.2.2.2.2 (y_mon B hI)) (fin hA_tr hB_tr (by rw [show (12 : Int) = h.toInt by omega]; exact hM)) (Nat.le_refl _) (Nat.le_refl _) mi_d228
    · have q5_ : h.toInt < (12 : Int32).toInt := Int.not_le.mp fun q => q5 (x_le32.mpr q)
      refine lv_aload_n hx hb mi_d8 rfl (lv_at hl 1 rfl) ?_
      refine lv_aload_n hx hb mi_d9 rfl (lv_at hl 1 rfl) ?_
      refine y_getf X (fl190 X.2.2.2.2.1) hI.1 hY_this rfl hs_bk mi_d10 ?_
      refine lv_iconst hx hb mi_d13 (v := 4) (by decide) ?_
      have ec4 : (4 : Int32).toInt = 4 := by decide
      refine y_iald X hI.1 hY_bk rfl hA_bk (by omega) (by show _ < (160 : Int); omega) mi_d14 ?_
      obtain ⟨e14, hg_e14⟩ : ∃ e14 : Int32, fb (4 : Int32).toInt.toNat = e14 := ⟨_, rfl⟩
      rw [hg_e14]
      refine lv_aload_n hx hb mi_d15 rfl (lv_at hl 1 rfl) ?_
      refine y_getf X (fl190 X.2.2.2.2.1) hI.1 hY_this rfl hs_bk mi_d16 ?_
      refine lv_bipush hx hb mi_d19 (v := 116) (by decide) ?_
      have ec116 : (116 : Int32).toInt = 116 := by decide
      refine lv_iload_n hx hb mi_d21 rfl (lv_at hl 0 rfl) ?_
      refine lv_iadd hx hb mi_d22 ?_
      generalize hg_z22 : (116 : Int32) + h = z22
      have h_z22 : z22.toInt = 116 + h.toInt := by rw [← hg_z22]; have := y_add (x := (116 : Int32)) (y := h) (by rw [ec116]; omega) (by rw [ec116]; omega); rw [ec116] at this; exact this
      refine y_iald X hI.1 hY_bk rfl hA_bk (by omega) (by show _ < (160 : Int); omega) mi_d23 ?_
      obtain ⟨e23, hg_e23⟩ : ∃ e23 : Int32, fb z22.toInt.toNat = e23 := ⟨_, rfl⟩
      rw [hg_e23]
      refine y_call (z := (0, 144, 3, some 17, xM185)) (av := [.ref this, .int e14, .int e23]) (rest := []) (y_cok.of (x_cokV (n := 2) (ci := 12) X xm185 rfl rfl rfl (x_cons (x_bw77 12 rfl rfl) (x_cons (x_bw77 14 rfl rfl) (x_cons (x_at 51 (by decide +kernel) rfl) (x_cons (x_bw0 9 rfl rfl) x_nilm)))) (x_bw77 15 rfl rfl) (by decide +kernel) ⟨Nat.le_of_ble_eq_true rfl, Nat.le_of_ble_eq_true rfl⟩)) hY0 hI rfl mi_d24 hl.1 (Nat.le_of_ble_eq_true rfl) (Nat.le_of_ble_eq_true rfl) (Nat.le_of_ble_eq_true rfl) (y_cons (y_cref hY_this rfl) (y_cons ⟨_, rfl, x_i32 _⟩ (y_cons ⟨_, rfl, x_i32 _⟩ y_nil))) rfl (y_recv rfl hY_this) trivial (y_sub_ef rfl) fun v Yn o Hn L ho hr ha hIn hx_ hE hP => ?_
      replace hs_bk := y_Efld hE hY_this rfl (by decide) (by decide) hs_bk
      replace hs_lw := y_Efld hE hY_this rfl (by decide) (by decide) hs_lw
      replace hs_tr := y_Efld hE hY_this rfl (by decide) (by decide) hs_tr
      replace hA_bk := hA_bk.kept (y_Earr hE hY_bk rfl (by decide))
      replace hA_lw := hA_lw.kept (y_Earr hE hY_lw rfl (by decide))
      replace hA_tr := hA_tr.kept (y_Earr hE hY_tr rfl (by decide))
      replace hY_this := y_ext hx_ hI.1 hY_this
      replace hY_bk := y_ext hx_ hI.1 hY_bk
      replace hY_lw := y_ext hx_ hI.1 hY_lw
      replace hY_tr := y_ext hx_ hI.1 hY_tr
      obtain rfl := y_ansV rfl ho hr
      clear ho hr ha hE hP hI hx_
      rename x_I _ _ _ _ _ _ _ _ _ _ => hI
      refine lv_iconst hx hb mi_d27 (v := 0) (by decide) ?_
      have ec0 : (0 : Int32).toInt = 0 := by decide
      refine lv_istore_n hx hb mi_d28 rfl hl (by decide) (lv' := [(3, .int (0 : Int32)), (2, .int h), (0, .ref this), (1, .int fm)]) rfl fun ls hl => ?_
      exact mi_L29 B hav hN fin (by first | assumption | omega) (fun H Y locs ls h1 gl ff hI hY_this hY_bk hY_lw hY_tr hs_bk hs_lw hs_tr hA_bk hA_lw hA_tr hl hB_lw hB_tr hh0 hM hh1 => ih _ _ _ _ _ _ _ hI hY_this hY_bk hY_lw hY_tr hs_bk hs_lw hs_tr hA_bk hA_lw hA_tr hl hB_lw hB_tr hh0 hM (by omega)) 1025 _ _ _ _ _ _ _ hI hY_this hY_bk hY_lw hY_tr hs_bk hs_lw hs_tr hA_bk hA_lw hA_tr (lv_sub hl [0, 1, 2, 3] rfl) (by first | assumption | omega) (by first | assumption | omega) (by first | assumption | omega) (by first | assumption | omega) (by omega)
theorem ym_mists : y_Met vwCl x_G x_Zs x_Tb x_Nb xM207 y_T z_Pmists := by
  refine y_main (by decide +kernel) (by decide +kernel) x_Tb_good x_Nb_ok ?_
  intro p l e s m below meth c D U Y0 av ls B hI _ hl
  have X := B.1
  have hx := X.1
  have hb := X.2.1
  have hY0 := B.2.2.2.2.1
  obtain ⟨v0, v1, rfl, hv0, ⟨fm, rfl, hfm⟩⟩ := x_two B.2.2.2.2.2
  obtain ⟨this, t0, rfl, ht0, hY_this⟩ := x_ref_at hv0 rfl
  obtain rfl := List.mem_singleton.mp ht0
  replace hl : lv_has ls xM207.2.2.1 [(0, .ref this), (1, .int fm)] := hl
  have hav : [Value.ref this, .int fm] = [.ref this, .int fm] := rfl
  obtain ⟨bk, hs_bk, hY_bk⟩ := y_fldR (k := 0) hI.1 hY_this rfl rfl
  obtain ⟨lw, hs_lw, hY_lw⟩ := y_fldR (k := 22) hI.1 hY_this rfl rfl
  obtain ⟨tr, hs_tr, hY_tr⟩ := y_fldR (k := 23) hI.1 hY_this rfl rfl
  obtain ⟨fb, hA_bk, hB_bk⟩ := y_arr hI.1 hY_bk rfl rfl
  obtain ⟨gl, hA_lw, hB_lw⟩ := y_arr hI.1 hY_lw rfl rfl
  obtain ⟨ff, hA_tr, hB_tr⟩ := y_arr hI.1 hY_tr rfl rfl
  replace hB_lw : ∀ j, j < 12288 → (0 : Int) ≤ (gl j).toInt ∧ (gl j).toInt ≤ 1 := fun j hj => by obtain ⟨x, e0, e1⟩ := hB_lw j hj; cases e0; exact e1
  replace hB_tr : ∀ j, j < 12288 → (0 : Int) ≤ (ff j).toInt ∧ (ff j).toInt ≤ 1 := fun j hj => by obtain ⟨x, e0, e1⟩ := hB_tr j hj; cases e0; exact e1
  have hN : 0 ≤ (z_all (fb 0)).toInt ∧ (z_all (fb 0)).toInt ≤ 1023 := z_all_b (by obtain ⟨x, e0, e1⟩ := hB_bk 0 (by decide); cases e0; exact e1)
  have fin : ∀ {H : Heap} {Y : xY} {ff : Nat → Int32}, y_A tr 12288 H ff → (∀ j, j < 12288 → (0 : Int) ≤ (ff j).toInt ∧ (ff j).toInt ≤ 1) → z_mall (z_all (fb 0)).toInt ff fm 12 0 → z_Pmists D [.ref this, .int fm] Y0 s.heap none Y H := by
    intro H Y ff hA hB hM this' bk' tr' fm' fb' h1 h2 h3 h4
    cases h1
    cases h2.symm.trans hs_bk
    cases h4.symm.trans hs_tr
    have eb : fb' 0 = fb 0 := by have := (h3 0 (by decide)).symm.trans (hA_bk 0 (by decide)); injection this with this; injection this
    rw [eb]
    exact ⟨ff, hA, hB, hM⟩
  refine lv_iconst hx hb mi_d0 (v := 0) (by decide) ?_
  have ec0 : (0 : Int32).toInt = 0 := by decide
  refine lv_istore_n hx hb mi_d1 rfl hl (by decide) (lv' := [(2, .int (0 : Int32)), (0, .ref this), (1, .int fm)]) rfl fun ls hl => ?_
  exact mi_L2 B hav hN fin 13 _ _ _ _ _ _ _ hI hY_this hY_bk hY_lw hY_tr hs_bk hs_lw hs_tr hA_bk hA_lw hA_tr (lv_sub hl [0, 1, 2] rfl) (by first | assumption | omega) (by first | assumption | omega) (by first | assumption | omega) ⟨fun h t a1 a2 => absurd a1 (by omega), fun t a1 a2 => absurd a1 (by omega)⟩ (by omega)

