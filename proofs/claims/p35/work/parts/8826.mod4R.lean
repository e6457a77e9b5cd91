def z_Pbk : yP := fun D av _ H _ _ H' => ∀ (this bk : Nat) (f : Nat → Int32), av[0]? = some (.ref this) → x_sl D 12 0 this H = some (.ref bk) → z_c f → y_A bk 160 H f → y_A bk 160 H' f
/-- the works j with a ≤ j < b are counted as done -/
def m_ab (f : Nat → Int32) (d : Int32) (a b : Nat) : Nat → Int32 := fun p => if (65 + 7 * a ≤ p ∧ p < 65 + 7 * b) ∧ (p - 65) % 7 = 0 then f p + ((d >>> (Int32.ofInt (((p - 65) / 7 : Nat) : Int) &&& 31)) &&& 1) else f p
theorem m_ab0 {f : Nat → Int32} {d : Int32} {a : Nat} : m_ab f d a a = f := by
  funext p
  unfold m_ab
  rw [if_neg (by omega)]
theorem m_ab_lo {f : Nat → Int32} {d : Int32} {a b p : Nat} (h : p < 65) : m_ab f d a b p = f p := by
  unfold m_ab
  rw [if_neg (by omega)]
theorem m_abU {f : Nat → Int32} {d t : Int32} (ht : 0 ≤ t.toInt) : y_up (m_ab f d 0 t.toInt.toNat) (65 + 7 * t.toInt.toNat) (m_ab f d 0 t.toInt.toNat (65 + 7 * t.toInt.toNat) + ((d >>> (t &&& 31)) &&& 1)) = m_ab f d 0 (t.toInt.toNat + 1) := by
  have e0 : m_ab f d 0 t.toInt.toNat (65 + 7 * t.toInt.toNat) = f (65 + 7 * t.toInt.toNat) := by
    unfold m_ab
    rw [if_neg (by omega)]
  have et : Int32.ofInt ((((65 + 7 * t.toInt.toNat) - 65) / 7 : Nat) : Int) = t := by
    rw [show ((((65 + 7 * t.toInt.toNat) - 65) / 7 : Nat) : Int) = t.toInt by omega]; exact Int32.ofInt_toInt t
  rw [e0]
  funext p
  by_cases ep : p = 65 + 7 * t.toInt.toNat
  · subst ep
    rw [y_up_at]
    unfold m_ab
    rw [if_pos (by omega), et]
  · rw [y_up_ne ep]
    unfold m_ab
    by_cases hp : (65 + 7 * 0 ≤ p ∧ p < 65 + 7 * t.toInt.toNat) ∧ (p - 65) % 7 = 0
    · rw [if_pos hp, if_pos (by omega)]
    · rw [if_neg hp, if_neg (by omega)]
theorem m_abD {f : Nat → Int32} {d t : Int32} {b : Nat} (ht : 0 ≤ t.toInt) (hb : t.toInt.toNat < b) : y_up (m_ab f d t.toInt.toNat b) (65 + 7 * t.toInt.toNat) (m_ab f d t.toInt.toNat b (65 + 7 * t.toInt.toNat) - ((d >>> (t &&& 31)) &&& 1)) = m_ab f d (t.toInt.toNat + 1) b := by
  have et : Int32.ofInt ((((65 + 7 * t.toInt.toNat) - 65) / 7 : Nat) : Int) = t := by
    rw [show ((((65 + 7 * t.toInt.toNat) - 65) / 7 : Nat) : Int) = t.toInt by omega]; exact Int32.ofInt_toInt t
  have e0 : m_ab f d t.toInt.toNat b (65 + 7 * t.toInt.toNat) = f (65 + 7 * t.toInt.toNat) + ((d >>> (t &&& 31)) &&& 1) := by
    unfold m_ab
    rw [if_pos (by omega), et]
  rw [e0, Int32.add_sub_cancel]
  funext p
  by_cases ep : p = 65 + 7 * t.toInt.toNat
  · subst ep
    rw [y_up_at]
    unfold m_ab
    rw [if_neg (by omega)]
  · rw [y_up_ne ep]
    unfold m_ab
    by_cases hp : (65 + 7 * t.toInt.toNat ≤ p ∧ p < 65 + 7 * b) ∧ (p - 65) % 7 = 0
    · rw [if_pos hp, if_pos (by omega)]
    · rw [if_neg hp, if_neg (by omega)]
theorem y_up_self {f : Nat → Int32} {p : Nat} : y_up f p (f p) = f := by
  funext q
  by_cases e : q = p
  · rw [e, y_up_at]
  · rw [y_up_ne e]
theorem y_up_up {f : Nat → Int32} {p : Nat} {v w : Int32} : y_up (y_up f p v) p w = y_up f p w := by
  funext q
  by_cases e : q = p
  · rw [e, y_up_at, y_up_at]
  · rw [y_up_ne e, y_up_ne e, y_up_ne e]
theorem wZ_d0 : decode xM200.2.1 0 = .ok (.iconst 0, 1) := dz_ok (by decide +kernel)
theorem wZ_d1 : decode xM200.2.1 1 = .ok (.istore_n 3, 1) := dz_ok (by decide +kernel)
theorem wZ_d2 : decode xM200.2.1 2 = .ok (.iconst 0, 1) := dz_ok (by decide +kernel)
theorem wZ_d3 : decode xM200.2.1 3 = .ok (.istore 4, 2) := dz_ok (by decide +kernel)
theorem wZ_d5 : decode xM200.2.1 5 = .ok (.iload 4, 2) := dz_ok (by decide +kernel)
theorem wZ_d7 : decode xM200.2.1 7 = .ok (.aload_n 0, 1) := dz_ok (by decide +kernel)
theorem wZ_d8 : decode xM200.2.1 8 = .ok (.getfield 7, 3) := dz_ok (by decide +kernel)
theorem wZ_d11 : decode xM200.2.1 11 = .ok (.iconst 1, 1) := dz_ok (by decide +kernel)
theorem wZ_d12 : decode xM200.2.1 12 = .ok (.iaload, 1) := dz_ok (by decide +kernel)
theorem wZ_d13 : decode xM200.2.1 13 = .ok (.if_icmp .ge 40, 3) := dz_ok (by decide +kernel)
theorem wZ_d16 : decode xM200.2.1 16 = .ok (.iload_n 3, 1) := dz_ok (by decide +kernel)
theorem wZ_d17 : decode xM200.2.1 17 = .ok (.aload_n 0, 1) := dz_ok (by decide +kernel)
theorem wZ_d18 : decode xM200.2.1 18 = .ok (.iload 4, 2) := dz_ok (by decide +kernel)
theorem wZ_d20 : decode xM200.2.1 20 = .ok (.iconst 0, 1) := dz_ok (by decide +kernel)
theorem wZ_d21 : decode xM200.2.1 21 = .ok (.invokevirtual 123, 3) := dz_ok (by decide +kernel)
theorem wZ_d24 : decode xM200.2.1 24 = .ok (.ifCond .eq 20, 3) := dz_ok (by decide +kernel)
theorem wZ_d27 : decode xM200.2.1 27 = .ok (.aload_n 0, 1) := dz_ok (by decide +kernel)
theorem wZ_d28 : decode xM200.2.1 28 = .ok (.iload 4, 2) := dz_ok (by decide +kernel)
theorem wZ_d30 : decode xM200.2.1 30 = .ok (.iconst 5, 1) := dz_ok (by decide +kernel)
theorem wZ_d31 : decode xM200.2.1 31 = .ok (.invokevirtual 123, 3) := dz_ok (by decide +kernel)
theorem wZ_d34 : decode xM200.2.1 34 = .ok (.ifCond .ne 10, 3) := dz_ok (by decide +kernel)
theorem wZ_d37 : decode xM200.2.1 37 = .ok (.iconst 1, 1) := dz_ok (by decide +kernel)
theorem wZ_d38 : decode xM200.2.1 38 = .ok (.iload 4, 2) := dz_ok (by decide +kernel)
theorem wZ_d40 : decode xM200.2.1 40 = .ok (.ishl, 1) := dz_ok (by decide +kernel)
theorem wZ_d41 : decode xM200.2.1 41 = .ok (.goto 4, 3) := dz_ok (by decide +kernel)
theorem wZ_d44 : decode xM200.2.1 44 = .ok (.iconst 0, 1) := dz_ok (by decide +kernel)
theorem wZ_d45 : decode xM200.2.1 45 = .ok (.ior, 1) := dz_ok (by decide +kernel)
theorem wZ_d46 : decode xM200.2.1 46 = .ok (.istore_n 3, 1) := dz_ok (by decide +kernel)
theorem wZ_d47 : decode xM200.2.1 47 = .ok (.iinc 4 1, 3) := dz_ok (by decide +kernel)
theorem wZ_d50 : decode xM200.2.1 50 = .ok (.goto (-45), 3) := dz_ok (by decide +kernel)
theorem wZ_d53 : decode xM200.2.1 53 = .ok (.iconst (-1), 1) := dz_ok (by decide +kernel)
theorem wZ_d54 : decode xM200.2.1 54 = .ok (.istore 4, 2) := dz_ok (by decide +kernel)
theorem wZ_d56 : decode xM200.2.1 56 = .ok (.iconst 0, 1) := dz_ok (by decide +kernel)
theorem wZ_d57 : decode xM200.2.1 57 = .ok (.istore 5, 2) := dz_ok (by decide +kernel)
theorem wZ_d59 : decode xM200.2.1 59 = .ok (.iload 5, 2) := dz_ok (by decide +kernel)
theorem wZ_d61 : decode xM200.2.1 61 = .ok (.iload_n 3, 1) := dz_ok (by decide +kernel)
theorem wZ_d62 : decode xM200.2.1 62 = .ok (.if_icmp .gt 152, 3) := dz_ok (by decide +kernel)
theorem wZ_d65 : decode xM200.2.1 65 = .ok (.iload 5, 2) := dz_ok (by decide +kernel)
theorem wZ_d67 : decode xM200.2.1 67 = .ok (.iload_n 3, 1) := dz_ok (by decide +kernel)
theorem wZ_d68 : decode xM200.2.1 68 = .ok (.iconst (-1), 1) := dz_ok (by decide +kernel)
theorem wZ_d69 : decode xM200.2.1 69 = .ok (.ixor, 1) := dz_ok (by decide +kernel)
theorem wZ_d70 : decode xM200.2.1 70 = .ok (.iand, 1) := dz_ok (by decide +kernel)
theorem wZ_d71 : decode xM200.2.1 71 = .ok (.ifCond .ne 137, 3) := dz_ok (by decide +kernel)
theorem wZ_d74 : decode xM200.2.1 74 = .ok (.iload 4, 2) := dz_ok (by decide +kernel)
theorem wZ_d76 : decode xM200.2.1 76 = .ok (.iconst (-1), 1) := dz_ok (by decide +kernel)
theorem wZ_d77 : decode xM200.2.1 77 = .ok (.if_icmp .eq 20, 3) := dz_ok (by decide +kernel)
theorem wZ_d80 : decode xM200.2.1 80 = .ok (.aload_n 0, 1) := dz_ok (by decide +kernel)
theorem wZ_d81 : decode xM200.2.1 81 = .ok (.iload 5, 2) := dz_ok (by decide +kernel)
theorem wZ_d83 : decode xM200.2.1 83 = .ok (.iload_n 2, 1) := dz_ok (by decide +kernel)
theorem wZ_d84 : decode xM200.2.1 84 = .ok (.invokevirtual 250, 3) := dz_ok (by decide +kernel)
theorem wZ_d87 : decode xM200.2.1 87 = .ok (.aload_n 0, 1) := dz_ok (by decide +kernel)
theorem wZ_d88 : decode xM200.2.1 88 = .ok (.iload 4, 2) := dz_ok (by decide +kernel)
theorem wZ_d90 : decode xM200.2.1 90 = .ok (.iload_n 2, 1) := dz_ok (by decide +kernel)
theorem wZ_d91 : decode xM200.2.1 91 = .ok (.invokevirtual 250, 3) := dz_ok (by decide +kernel)
theorem wZ_d94 : decode xM200.2.1 94 = .ok (.if_icmp .ge 114, 3) := dz_ok (by decide +kernel)
theorem wZ_d97 : decode xM200.2.1 97 = .ok (.iconst 0, 1) := dz_ok (by decide +kernel)
theorem wZ_d98 : decode xM200.2.1 98 = .ok (.istore 6, 2) := dz_ok (by decide +kernel)
theorem wZ_d100 : decode xM200.2.1 100 = .ok (.iload 6, 2) := dz_ok (by decide +kernel)
theorem wZ_d102 : decode xM200.2.1 102 = .ok (.aload_n 0, 1) := dz_ok (by decide +kernel)
theorem wZ_d103 : decode xM200.2.1 103 = .ok (.getfield 7, 3) := dz_ok (by decide +kernel)
theorem wZ_d106 : decode xM200.2.1 106 = .ok (.iconst 1, 1) := dz_ok (by decide +kernel)
theorem wZ_d107 : decode xM200.2.1 107 = .ok (.iaload, 1) := dz_ok (by decide +kernel)
theorem wZ_d108 : decode xM200.2.1 108 = .ok (.if_icmp .ge 34, 3) := dz_ok (by decide +kernel)
theorem wZ_d111 : decode xM200.2.1 111 = .ok (.aload_n 0, 1) := dz_ok (by decide +kernel)
theorem wZ_d112 : decode xM200.2.1 112 = .ok (.getfield 7, 3) := dz_ok (by decide +kernel)
theorem wZ_d115 : decode xM200.2.1 115 = .ok (.bipush 60, 2) := dz_ok (by decide +kernel)
theorem wZ_d117 : decode xM200.2.1 117 = .ok (.bipush 7, 2) := dz_ok (by decide +kernel)
theorem wZ_d119 : decode xM200.2.1 119 = .ok (.iload 6, 2) := dz_ok (by decide +kernel)
theorem wZ_d121 : decode xM200.2.1 121 = .ok (.imul, 1) := dz_ok (by decide +kernel)
theorem wZ_d122 : decode xM200.2.1 122 = .ok (.iadd, 1) := dz_ok (by decide +kernel)
theorem wZ_d123 : decode xM200.2.1 123 = .ok (.iconst 5, 1) := dz_ok (by decide +kernel)
theorem wZ_d124 : decode xM200.2.1 124 = .ok (.iadd, 1) := dz_ok (by decide +kernel)
theorem wZ_d125 : decode xM200.2.1 125 = .ok (.dup2, 1) := dz_ok (by decide +kernel)
theorem wZ_d126 : decode xM200.2.1 126 = .ok (.iaload, 1) := dz_ok (by decide +kernel)
theorem wZ_d127 : decode xM200.2.1 127 = .ok (.iload 5, 2) := dz_ok (by decide +kernel)
theorem wZ_d129 : decode xM200.2.1 129 = .ok (.iload 6, 2) := dz_ok (by decide +kernel)
theorem wZ_d131 : decode xM200.2.1 131 = .ok (.ishr, 1) := dz_ok (by decide +kernel)
theorem wZ_d132 : decode xM200.2.1 132 = .ok (.iconst 1, 1) := dz_ok (by decide +kernel)
theorem wZ_d133 : decode xM200.2.1 133 = .ok (.iand, 1) := dz_ok (by decide +kernel)
theorem wZ_d134 : decode xM200.2.1 134 = .ok (.iadd, 1) := dz_ok (by decide +kernel)
theorem wZ_d135 : decode xM200.2.1 135 = .ok (.iastore, 1) := dz_ok (by decide +kernel)
theorem wZ_d136 : decode xM200.2.1 136 = .ok (.iinc 6 1, 3) := dz_ok (by decide +kernel)
theorem wZ_d139 : decode xM200.2.1 139 = .ok (.goto (-39), 3) := dz_ok (by decide +kernel)
theorem wZ_d142 : decode xM200.2.1 142 = .ok (.aload_n 0, 1) := dz_ok (by decide +kernel)
theorem wZ_d143 : decode xM200.2.1 143 = .ok (.invokevirtual 240, 3) := dz_ok (by decide +kernel)
theorem wZ_d146 : decode xM200.2.1 146 = .ok (.aload_n 0, 1) := dz_ok (by decide +kernel)
theorem wZ_d147 : decode xM200.2.1 147 = .ok (.iload_n 1, 1) := dz_ok (by decide +kernel)
theorem wZ_d148 : decode xM200.2.1 148 = .ok (.invokevirtual 243, 3) := dz_ok (by decide +kernel)
theorem wZ_d151 : decode xM200.2.1 151 = .ok (.ifCond .eq 8, 3) := dz_ok (by decide +kernel)
theorem wZ_d154 : decode xM200.2.1 154 = .ok (.iload 5, 2) := dz_ok (by decide +kernel)
theorem wZ_d156 : decode xM200.2.1 156 = .ok (.goto 5, 3) := dz_ok (by decide +kernel)
theorem wZ_d159 : decode xM200.2.1 159 = .ok (.iload 4, 2) := dz_ok (by decide +kernel)
theorem wZ_d161 : decode xM200.2.1 161 = .ok (.istore 4, 2) := dz_ok (by decide +kernel)
theorem wZ_d163 : decode xM200.2.1 163 = .ok (.iconst 0, 1) := dz_ok (by decide +kernel)
theorem wZ_d164 : decode xM200.2.1 164 = .ok (.istore 6, 2) := dz_ok (by decide +kernel)
theorem wZ_d166 : decode xM200.2.1 166 = .ok (.iload 6, 2) := dz_ok (by decide +kernel)
theorem wZ_d168 : decode xM200.2.1 168 = .ok (.aload_n 0, 1) := dz_ok (by decide +kernel)
theorem wZ_d169 : decode xM200.2.1 169 = .ok (.getfield 7, 3) := dz_ok (by decide +kernel)
theorem wZ_d172 : decode xM200.2.1 172 = .ok (.iconst 1, 1) := dz_ok (by decide +kernel)
theorem wZ_d173 : decode xM200.2.1 173 = .ok (.iaload, 1) := dz_ok (by decide +kernel)
theorem wZ_d174 : decode xM200.2.1 174 = .ok (.if_icmp .ge 34, 3) := dz_ok (by decide +kernel)
theorem wZ_d177 : decode xM200.2.1 177 = .ok (.aload_n 0, 1) := dz_ok (by decide +kernel)
theorem wZ_d178 : decode xM200.2.1 178 = .ok (.getfield 7, 3) := dz_ok (by decide +kernel)
theorem wZ_d181 : decode xM200.2.1 181 = .ok (.bipush 60, 2) := dz_ok (by decide +kernel)
theorem wZ_d183 : decode xM200.2.1 183 = .ok (.bipush 7, 2) := dz_ok (by decide +kernel)
theorem wZ_d185 : decode xM200.2.1 185 = .ok (.iload 6, 2) := dz_ok (by decide +kernel)
theorem wZ_d187 : decode xM200.2.1 187 = .ok (.imul, 1) := dz_ok (by decide +kernel)
theorem wZ_d188 : decode xM200.2.1 188 = .ok (.iadd, 1) := dz_ok (by decide +kernel)
theorem wZ_d189 : decode xM200.2.1 189 = .ok (.iconst 5, 1) := dz_ok (by decide +kernel)
theorem wZ_d190 : decode xM200.2.1 190 = .ok (.iadd, 1) := dz_ok (by decide +kernel)
theorem wZ_d191 : decode xM200.2.1 191 = .ok (.dup2, 1) := dz_ok (by decide +kernel)
theorem wZ_d192 : decode xM200.2.1 192 = .ok (.iaload, 1) := dz_ok (by decide +kernel)
theorem wZ_d193 : decode xM200.2.1 193 = .ok (.iload 5, 2) := dz_ok (by decide +kernel)
theorem wZ_d195 : decode xM200.2.1 195 = .ok (.iload 6, 2) := dz_ok (by decide +kernel)
theorem wZ_d197 : decode xM200.2.1 197 = .ok (.ishr, 1) := dz_ok (by decide +kernel)
theorem wZ_d198 : decode xM200.2.1 198 = .ok (.iconst 1, 1) := dz_ok (by decide +kernel)
theorem wZ_d199 : decode xM200.2.1 199 = .ok (.iand, 1) := dz_ok (by decide +kernel)
theorem wZ_d200 : decode xM200.2.1 200 = .ok (.isub, 1) := dz_ok (by decide +kernel)
theorem wZ_d201 : decode xM200.2.1 201 = .ok (.iastore, 1) := dz_ok (by decide +kernel)
theorem wZ_d202 : decode xM200.2.1 202 = .ok (.iinc 6 1, 3) := dz_ok (by decide +kernel)
theorem wZ_d205 : decode xM200.2.1 205 = .ok (.goto (-39), 3) := dz_ok (by decide +kernel)
theorem wZ_d208 : decode xM200.2.1 208 = .ok (.iinc 5 1, 3) := dz_ok (by decide +kernel)
theorem wZ_d211 : decode xM200.2.1 211 = .ok (.goto (-152), 3) := dz_ok (by decide +kernel)
theorem wZ_d214 : decode xM200.2.1 214 = .ok (.iload 4, 2) := dz_ok (by decide +kernel)
theorem wZ_d216 : decode xM200.2.1 216 = .ok (.ireturn, 1) := dz_ok (by decide +kernel)
theorem wZ_L166 {p : Program} {l : Launch} {e : Env} {s : State} {m : MethodId} {below : List Frame} {meth : Method} {c : Code} {D : va_G} {U : State} {Y0 : xY} {av : List Value} (B : y_B vwCl x_Tb x_Nb xM200 p s m meth c D U Y0 av) {this bk : Nat} {x cs : Int32} {fb : Nat → Int32} (hav : av = [.ref this, .int x, .int cs]) (hs0 : x_sl D 12 0 this s.heap = some (.ref bk)) (hA0 : y_A bk 160 s.heap fb) (hcn : z_c fb) (hd1 : 0 ≤ (fb 1).toInt ∧ (fb 1).toInt ≤ 8) (hcs : 0 ≤ cs.toInt ∧ cs.toInt ≤ 1) {dn best may : Int32} (hmay : 0 ≤ may.toInt ∧ may.toInt ≤ 255) (hdn : 0 ≤ dn.toInt ∧ dn.toInt ≤ may.toInt) (hbest : -1 ≤ best.toInt ∧ best.toInt ≤ 255)
    (out59 : ∀ (H : Heap) (Y : xY) (locs : List Loc) (ls : Array Slot) (dn1 : Int32) (best1 : Int32) (may1 : Int32) (fz1 : Nat → Int32), x_I D x_G x_Zs U (x_efs xM200) Y0 s.heap Y H locs → Y this = some 17 → Y bk = some 46 → x_sl D 12 0 this H = some (.ref bk) → y_A bk 160 H fz1 → lv_has ls xM200.2.2.1 [(5, .int dn1), (4, .int best1), (3, .int may1), (0, .ref this), (1, .int x), (2, .int cs)] → (fz1 = fb) → (0 ≤ may1.toInt ∧ may1.toInt ≤ 255) → (0 ≤ dn1.toInt ∧ dn1.toInt ≤ may1.toInt + 1) → (-1 ≤ best1.toInt ∧ best1.toInt ≤ 255) → (dn1.toInt = dn.toInt + 1 ∧ may1.toInt = may.toInt) → W p l e (x_rm xM200) s m av.toArray below meth c H locs 0 0 (y_QQ below D x_G x_Zs U xM200 z_Pbk av Y0 s) (F0 m 59 ls [])) :
    ∀ (n : Nat), ∀ (H : Heap) (Y : xY) (locs : List Loc) (ls : Array Slot) (tt : Int32) (fz : Nat → Int32), x_I D x_G x_Zs U (x_efs xM200) Y0 s.heap Y H locs → Y this = some 17 → Y bk = some 46 → x_sl D 12 0 this H = some (.ref bk) → y_A bk 160 H fz → lv_has ls xM200.2.2.1 [(6, .int tt), (5, .int dn), (4, .int best), (3, .int may), (0, .ref this), (1, .int x), (2, .int cs)] → (0 ≤ tt.toInt ∧ tt.toInt ≤ (fb 1).toInt) → (fz = m_ab fb dn tt.toInt.toNat (fb 1).toInt.toNat) → (9 - tt.toInt).toNat < n → W p l e (x_rm xM200) s m av.toArray below meth c H locs 0 0 (y_QQ below D x_G x_Zs U xM200 z_Pbk av Y0 s) (F0 m 166 ls []) := by
  have X := B.1
  have hx := X.1
  have hb := X.2.1
  have hY0 := B.2.2.2.2.1
  intro n
  induction n with
  | zero => intro _ _ _ _ _ _ _ _ _ _ _ _ _ _ h; exact absurd h (Nat.not_lt_zero _)
  | succ n ih =>
    intro H Y locs ls tt fz hI hY_this hY_bk hs_bk hA_bk hl ht hfz hn
    refine lv_iload hx hb wZ_d166 (lv_at hl 0 rfl) ?_
    refine lv_aload_n hx hb wZ_d168 rfl (lv_at hl 4 rfl) ?_
    refine y_getf X (fl190 X.2.2.2.2.1) hI.1 hY_this rfl hs_bk wZ_d169 ?_
    refine lv_iconst hx hb wZ_d172 (v := 1) (by decide) ?_
    have ec1 : (1 : Int32).toInt = 1 := by decide
    refine y_iald X hI.1 hY_bk rfl hA_bk (by omega) (by show _ < (160 : Int); omega) wZ_d173 ?_
    obtain ⟨e173, hg_e173⟩ : ∃ e173 : Int32, fz (1 : Int32).toInt.toNat = e173 := ⟨_, rfl⟩
    rw [hg_e173]
    rw [z_i1] at hg_e173
    have h_e173 : e173.toInt = (fb 1).toInt := by rw [← hg_e173]; rw [hfz, m_ab_lo (by decide)]
    refine lv_icmp_ge hx hb wZ_d174 (tgt := 208) (by decide) (fun q174 => ?_) (fun q174 => ?_)
    · have q174_ : e173.toInt ≤ tt.toInt := x_le32.mp q174
      obtain ⟨z208, hg_z208⟩ : ∃ z208 : Int32, dn + Int32.ofInt 1 = z208 := ⟨_, rfl⟩
      have h_z208 : z208.toInt = dn.toInt + 1 := by rw [← hg_z208]; exact y_inc (by decide) (by omega) (by omega)
      refine lv_iinc hx hb wZ_d208 hl (k := 1) rfl hg_z208 (by decide) (lv' := [(5, .int z208), (6, .int tt), (4, .int best), (3, .int may), (0, .ref this), (1, .int x), (2, .int cs)]) rfl fun ls hl => ?_
      refine lv_goto hx hb wZ_d211 (tgt := 59) (by decide) ?_
      exact out59 _ _ _ _ _ _ _ _ hI hY_this hY_bk hs_bk hA_bk (lv_sub hl [0, 2, 3, 4, 5, 6] rfl) (by rw [hfz, show tt.toInt.toNat = (fb 1).toInt.toNat by omega]; exact m_ab0) hmay ⟨by omega, by omega⟩ hbest ⟨by omega, rfl⟩
    · have q174_ : tt.toInt < e173.toInt := Int.not_le.mp fun q => q174 (x_le32.mpr q)
      refine lv_aload_n hx hb wZ_d177 rfl (lv_at hl 4 rfl) ?_
      refine y_getf X (fl190 X.2.2.2.2.1) hI.1 hY_this rfl hs_bk wZ_d178 ?_
      refine lv_bipush hx hb wZ_d181 (v := 60) (by decide) ?_
      have ec60 : (60 : Int32).toInt = 60 := by decide
      refine lv_bipush hx hb wZ_d183 (v := 7) (by decide) ?_
      have ec7 : (7 : Int32).toInt = 7 := by decide
      refine lv_iload hx hb wZ_d185 (lv_at hl 0 rfl) ?_
      refine lv_imul hx hb wZ_d187 ?_
      generalize hg_z187 : (7 : Int32) * tt = z187
      have h_z187 : z187.toInt = 7 * tt.toInt := by rw [← hg_z187]; have := y_mul (x := (7 : Int32)) (y := tt) (by rw [ec7]; omega) (by rw [ec7]; omega); rw [ec7] at this; exact this
      refine lv_iadd hx hb wZ_d188 ?_
      generalize hg_z188 : (60 : Int32) + z187 = z188
      have h_z188 : z188.toInt = 60 + z187.toInt := by rw [← hg_z188]; have := y_add (x := (60 : Int32)) (y := z187) (by rw [ec60]; omega) (by rw [ec60]; omega); rw [ec60] at this; exact this
      refine lv_iconst hx hb wZ_d189 (v := 5) (by decide) ?_
      have ec5 : (5 : Int32).toInt = 5 := by decide
      refine lv_iadd hx hb wZ_d190 ?_
      generalize hg_z190 : z188 + (5 : Int32) = z190
      have h_z190 : z190.toInt = z188.toInt + 5 := by rw [← hg_z190]; have := y_add (x := z188) (y := (5 : Int32)) (by rw [ec5]; omega) (by rw [ec5]; omega); rw [ec5] at this; exact this
      refine lv_dup2_11 hx hb wZ_d191 rfl rfl ?_
      refine y_iald X hI.1 hY_bk rfl hA_bk (by omega) (by show _ < (160 : Int); omega) wZ_d192 ?_
      obtain ⟨e192, hg_e192⟩ : ∃ e192 : Int32, fz z190.toInt.toNat = e192 := ⟨_, rfl⟩
      rw [hg_e192]
      refine lv_iload hx hb wZ_d193 (lv_at hl 1 rfl) ?_
      refine lv_iload hx hb wZ_d195 (lv_at hl 0 rfl) ?_
      refine lv_ishr hx hb wZ_d197 ?_
      generalize hg_z197 : dn >>> (tt &&& 31) = z197
      refine lv_iconst hx hb wZ_d198 (v := 1) (by decide) ?_
      refine lv_iand hx hb wZ_d199 ?_
      generalize hg_z199 : z197 &&& (1 : Int32) = z199
      refine lv_isub hx hb wZ_d200 ?_
      generalize hg_z200 : e192 - z199 = z200
      refine y_iast X hY0 hI hY_bk rfl hA_bk (by omega) (by show _ < (160 : Int); omega) (by rw [z_get3 (by omega)]; exact ⟨_, rfl, x_i32 _⟩) (by decide +kernel) wZ_d201 fun H locs hI h_new ho => ?_
      replace hA_bk := h_new
      generalize hf_f201 : y_up fz z190.toInt.toNat z200 = f201 at hA_bk
      replace hs_bk := y_slk hs_bk (ho _ (y_ne hY_this hY_bk rfl))
      obtain ⟨z202, hg_z202⟩ : ∃ z202 : Int32, tt + Int32.ofInt 1 = z202 := ⟨_, rfl⟩
      have h_z202 : z202.toInt = tt.toInt + 1 := by rw [← hg_z202]; exact y_inc (by decide) (by omega) (by omega)
      refine lv_iinc hx hb wZ_d202 hl (k := 0) rfl hg_z202 (by decide) (lv' := [(6, .int z202), (5, .int dn), (4, .int best), (3, .int may), (0, .ref this), (1, .int x), (2, .int cs)]) rfl fun ls hl => ?_
      refine lv_goto hx hb wZ_d205 (tgt := 166) (by decide) ?_
      have hz9 : z190.toInt.toNat = 65 + 7 * tt.toInt.toNat := by omega
      exact ih _ _ _ _ _ _ hI hY_this hY_bk hs_bk hA_bk (lv_sub hl [0, 1, 2, 3, 4, 5, 6] rfl) (by first | assumption | omega) (by rw [show z202.toInt.toNat = tt.toInt.toNat + 1 by omega, ← m_abD (by omega) (by omega), ← hf_f201, ← hg_z200, ← hg_z199, ← hg_z197, ← hg_e192, hz9, hfz]) (by omega)
theorem wZ_L100 {p : Program} {l : Launch} {e : Env} {s : State} {m : MethodId} {below : List Frame} {meth : Method} {c : Code} {D : va_G} {U : State} {Y0 : xY} {av : List Value} (B : y_B vwCl x_Tb x_Nb xM200 p s m meth c D U Y0 av) {this bk : Nat} {x cs : Int32} {fb : Nat → Int32} (hav : av = [.ref this, .int x, .int cs]) (hs0 : x_sl D 12 0 this s.heap = some (.ref bk)) (hA0 : y_A bk 160 s.heap fb) (hcn : z_c fb) (hd1 : 0 ≤ (fb 1).toInt ∧ (fb 1).toInt ≤ 8) (hcs : 0 ≤ cs.toInt ∧ cs.toInt ≤ 1) {dn best may : Int32} (hmay : 0 ≤ may.toInt ∧ may.toInt ≤ 255) (hdn : 0 ≤ dn.toInt ∧ dn.toInt ≤ may.toInt) (hbest : -1 ≤ best.toInt ∧ best.toInt ≤ 255)
    (out59 : ∀ (H : Heap) (Y : xY) (locs : List Loc) (ls : Array Slot) (dn1 : Int32) (best1 : Int32) (may1 : Int32) (fz1 : Nat → Int32), x_I D x_G x_Zs U (x_efs xM200) Y0 s.heap Y H locs → Y this = some 17 → Y bk = some 46 → x_sl D 12 0 this H = some (.ref bk) → y_A bk 160 H fz1 → lv_has ls xM200.2.2.1 [(5, .int dn1), (4, .int best1), (3, .int may1), (0, .ref this), (1, .int x), (2, .int cs)] → (fz1 = fb) → (0 ≤ may1.toInt ∧ may1.toInt ≤ 255) → (0 ≤ dn1.toInt ∧ dn1.toInt ≤ may1.toInt + 1) → (-1 ≤ best1.toInt ∧ best1.toInt ≤ 255) → (dn1.toInt = dn.toInt + 1 ∧ may1.toInt = may.toInt) → W p l e (x_rm xM200) s m av.toArray below meth c H locs 0 0 (y_QQ below D x_G x_Zs U xM200 z_Pbk av Y0 s) (F0 m 59 ls [])) :
    ∀ (n : Nat), ∀ (H : Heap) (Y : xY) (locs : List Loc) (ls : Array Slot) (tt : Int32) (fz : Nat → Int32), x_I D x_G x_Zs U (x_efs xM200) Y0 s.heap Y H locs → Y this = some 17 → Y bk = some 46 → x_sl D 12 0 this H = some (.ref bk) → y_A bk 160 H fz → lv_has ls xM200.2.2.1 [(6, .int tt), (5, .int dn), (4, .int best), (3, .int may), (0, .ref this), (1, .int x), (2, .int cs)] → (0 ≤ tt.toInt ∧ tt.toInt ≤ (fb 1).toInt) → (fz = m_ab fb dn 0 tt.toInt.toNat) → (9 - tt.toInt).toNat < n → W p l e (x_rm xM200) s m av.toArray below meth c H locs 0 0 (y_QQ below D x_G x_Zs U xM200 z_Pbk av Y0 s) (F0 m 100 ls []) := by
  have X := B.1
  have hx := X.1
  have hb := X.2.1
  have hY0 := B.2.2.2.2.1
  intro n
  induction n with
  | zero => intro _ _ _ _ _ _ _ _ _ _ _ _ _ _ h; exact absurd h (Nat.not_lt_zero _)
  | succ n ih =>
    intro H Y locs ls tt fz hI hY_this hY_bk hs_bk hA_bk hl ht hfz hn
    refine lv_iload hx hb wZ_d100 (lv_at hl 0 rfl) ?_
    refine lv_aload_n hx hb wZ_d102 rfl (lv_at hl 4 rfl) ?_
    refine y_getf X (fl190 X.2.2.2.2.1) hI.1 hY_this rfl hs_bk wZ_d103 ?_
    refine lv_iconst hx hb wZ_d106 (v := 1) (by decide) ?_
    have ec1 : (1 : Int32).toInt = 1 := by decide
    refine y_iald X hI.1 hY_bk rfl hA_bk (by omega) (by show _ < (160 : Int); omega) wZ_d107 ?_
    obtain ⟨e107, hg_e107⟩ : ∃ e107 : Int32, fz (1 : Int32).toInt.toNat = e107 := ⟨_, rfl⟩
    rw [hg_e107]
    rw [z_i1] at hg_e107
    have h_e107 : e107.toInt = (fb 1).toInt := by rw [← hg_e107]; rw [hfz, m_ab_lo (by decide)]
    refine lv_icmp_ge hx hb wZ_d108 (tgt := 142) (by decide) (fun q108 => ?_) (fun q108 => ?_)
    · have q108_ : e107.toInt ≤ tt.toInt := x_le32.mp q108
      have ht9 : tt.toInt = (fb 1).toInt := by omega
      refine lv_aload_n hx hb wZ_d142 rfl (lv_at hl 4 rfl) ?_
      refine y_call (z := (0, 240, 1, some 17, xM186)) (av := [.ref this]) (rest := []) (y_cok.of (x_cokV (n := 0) (ci := 12) X xm186 rfl rfl rfl (x_cons (x_bw77 8 rfl rfl) (x_cons (x_bw77 10 rfl rfl) (x_cons (x_at 50 (by decide +kernel) rfl) (x_cons (x_bw0 9 rfl rfl) x_nilm)))) (x_bw77 11 rfl rfl) (by decide +kernel) ⟨Nat.le_of_ble_eq_true rfl, Nat.le_of_ble_eq_true rfl⟩)) hY0 hI rfl wZ_d143 hl.1 (Nat.le_of_ble_eq_true rfl) (Nat.le_of_ble_eq_true rfl) (Nat.le_of_ble_eq_true rfl) (y_cons (y_cref hY_this rfl) y_nil) rfl (y_recv rfl hY_this) trivial (y_sub_ef rfl) fun v Yn o Hn L ho hr ha hIn hx_ hE hP => ?_
      replace hs_bk := y_Efld hE hY_this rfl (by decide) (by decide) hs_bk
      replace hA_bk := hA_bk.kept (y_Earr hE hY_bk rfl (by decide))
      replace hY_this := y_ext hx_ hI.1 hY_this
      replace hY_bk := y_ext hx_ hI.1 hY_bk
      obtain rfl := y_ansV rfl ho hr
      clear ho hr ha hE hP hI hx_
      rename x_I _ _ _ _ _ _ _ _ _ _ => hI
      refine lv_aload_n hx hb wZ_d146 rfl (lv_at hl 4 rfl) ?_
      refine lv_iload_n hx hb wZ_d147 rfl (lv_at hl 5 rfl) ?_
      refine y_call (z := (0, 243, 2, some 17, xM191)) (av := [.ref this, .int x]) (rest := []) (y_cok.of (x_cokV (n := 1) (ci := 12) X xm191 rfl rfl rfl (x_cons (x_bw78 11 rfl rfl) (x_cons (x_bw78 13 rfl rfl) (x_cons (x_at 52 (by decide +kernel) rfl) (x_cons (x_bw0 9 rfl rfl) x_nilm)))) (x_bw78 14 rfl rfl) (by decide +kernel) ⟨Nat.le_of_ble_eq_true rfl, Nat.le_of_ble_eq_true rfl⟩)) hY0 hI rfl wZ_d148 hl.1 (Nat.le_of_ble_eq_true rfl) (Nat.le_of_ble_eq_true rfl) (Nat.le_of_ble_eq_true rfl) (y_cons (y_cref hY_this rfl) (y_cons ⟨_, rfl, x_i32 _⟩ y_nil)) rfl (y_recv rfl hY_this) trivial (y_sub_ef rfl) fun v Yn o Hn L ho hr ha hIn hx_ hE hP => ?_
      replace hs_bk := y_Efld hE hY_this rfl (by decide) (by decide) hs_bk
      replace hA_bk := hA_bk.kept (y_Earr hE hY_bk rfl (by decide))
      replace hY_this := y_ext hx_ hI.1 hY_this
      replace hY_bk := y_ext hx_ hI.1 hY_bk
      obtain ⟨r148, rfl, h_r148⟩ := y_ansI (lo := 0) (hi := 1) (by decide) ho hr
      clear ho hr ha hE hP hI hx_
      rename x_I _ _ _ _ _ _ _ _ _ _ => hI
      have ec0 : (0 : Int32).toInt = 0 := by decide
      refine lv_if_eq hx hb wZ_d151 (tgt := 159) (by decide) (fun q151 => ?_) (fun q151 => ?_)
      · have q151_ : r148.toInt = (0 : Int32).toInt := by rw [q151]
        refine lv_iload hx hb wZ_d159 (lv_at hl 2 rfl) ?_
        refine lv_istore hx hb wZ_d161 hl (by decide) (lv' := [(4, .int best), (6, .int tt), (5, .int dn), (3, .int may), (0, .ref this), (1, .int x), (2, .int cs)]) rfl fun ls hl => ?_
        refine lv_iconst hx hb wZ_d163 (v := 0) (by decide) ?_
        refine lv_istore hx hb wZ_d164 hl (by decide) (lv' := [(6, .int (0 : Int32)), (4, .int best), (5, .int dn), (3, .int may), (0, .ref this), (1, .int x), (2, .int cs)]) rfl fun ls hl => ?_
        exact wZ_L166 B hav hs0 hA0 hcn hd1 hcs hmay hdn (by omega) (fun H Y locs ls dn1 best1 may1 fz1 hI hY_this hY_bk hs_bk hA_bk hl hfz hmay hdn hbest hi1 => out59 _ _ _ _ _ _ _ _ hI hY_this hY_bk hs_bk hA_bk hl hfz hmay hdn hbest hi1) 10 _ _ _ _ _ _ hI hY_this hY_bk hs_bk hA_bk (lv_sub hl [0, 2, 1, 3, 4, 5, 6] rfl) (by omega) (by rw [hfz]; congr 1; omega) (by omega)
      · have q151_ : ¬ r148.toInt = (0 : Int32).toInt := fun q => q151 (Int32.toInt_inj.mp q)
        refine lv_iload hx hb wZ_d154 (lv_at hl 1 rfl) ?_
        refine lv_goto hx hb wZ_d156 (tgt := 161) (by decide) ?_
        refine lv_istore hx hb wZ_d161 hl (by decide) (lv' := [(4, .int dn), (6, .int tt), (5, .int dn), (3, .int may), (0, .ref this), (1, .int x), (2, .int cs)]) rfl fun ls hl => ?_
        refine lv_iconst hx hb wZ_d163 (v := 0) (by decide) ?_
        refine lv_istore hx hb wZ_d164 hl (by decide) (lv' := [(6, .int (0 : Int32)), (4, .int dn), (5, .int dn), (3, .int may), (0, .ref this), (1, .int x), (2, .int cs)]) rfl fun ls hl => ?_
        exact wZ_L166 B hav hs0 hA0 hcn hd1 hcs hmay hdn (by omega) (fun H Y locs ls dn1 best1 may1 fz1 hI hY_this hY_bk hs_bk hA_bk hl hfz hmay hdn hbest hi1 => out59 _ _ _ _ _ _ _ _ hI hY_this hY_bk hs_bk hA_bk hl hfz hmay hdn hbest hi1) 10 _ _ _ _ _ _ hI hY_this hY_bk hs_bk hA_bk (lv_sub hl [0, 2, 1, 3, 4, 5, 6] rfl) (by omega) (by rw [hfz]; congr 1; omega) (by omega)
    · have q108_ : tt.toInt < e107.toInt := Int.not_le.mp fun q => q108 (x_le32.mpr q)
      refine lv_aload_n hx hb wZ_d111 rfl (lv_at hl 4 rfl) ?_
      refine y_getf X (fl190 X.2.2.2.2.1) hI.1 hY_this rfl hs_bk wZ_d112 ?_
      refine lv_bipush hx hb wZ_d115 (v := 60) (by decide) ?_
      have ec60 : (60 : Int32).toInt = 60 := by decide
      refine lv_bipush hx hb wZ_d117 (v := 7) (by decide) ?_
      have ec7 : (7 : Int32).toInt = 7 := by decide
      refine lv_iload hx hb wZ_d119 (lv_at hl 0 rfl) ?_
      refine lv_imul hx hb wZ_d121 ?_
      generalize hg_z121 : (7 : Int32) * tt = z121
      have h_z121 : z121.toInt = 7 * tt.toInt := by rw [← hg_z121]; have := y_mul (x := (7 : Int32)) (y := tt) (by rw [ec7]; omega) (by rw [ec7]; omega); rw [ec7] at this; exact this
      refine lv_iadd hx hb wZ_d122 ?_
      generalize hg_z122 : (60 : Int32) + z121 = z122
      have h_z122 : z122.toInt = 60 + z121.toInt := by rw [← hg_z122]; have := y_add (x := (60 : Int32)) (y := z121) (by rw [ec60]; omega) (by rw [ec60]; omega); rw [ec60] at this; exact this
      refine lv_iconst hx hb wZ_d123 (v := 5) (by decide) ?_
      have ec5 : (5 : Int32).toInt = 5 := by decide
      refine lv_iadd hx hb wZ_d124 ?_
      generalize hg_z124 : z122 + (5 : Int32) = z124
      have h_z124 : z124.toInt = z122.toInt + 5 := by rw [← hg_z124]; have := y_add (x := z122) (y := (5 : Int32)) (by rw [ec5]; omega) (by rw [ec5]; omega); rw [ec5] at this; exact this
      refine lv_dup2_11 hx hb wZ_d125 rfl rfl ?_
      refine y_iald X hI.1 hY_bk rfl hA_bk (by omega) (by show _ < (160 : Int); omega) wZ_d126 ?_
      obtain ⟨e126, hg_e126⟩ : ∃ e126 : Int32, fz z124.toInt.toNat = e126 := ⟨_, rfl⟩
      rw [hg_e126]
      refine lv_iload hx hb wZ_d127 (lv_at hl 1 rfl) ?_
      refine lv_iload hx hb wZ_d129 (lv_at hl 0 rfl) ?_
      refine lv_ishr hx hb wZ_d131 ?_
      generalize hg_z131 : dn >>> (tt &&& 31) = z131
      refine lv_iconst hx hb wZ_d132 (v := 1) (by decide) ?_
      refine lv_iand hx hb wZ_d133 ?_
      generalize hg_z133 : z131 &&& (1 : Int32) = z133
      refine lv_iadd hx hb wZ_d134 ?_
      generalize hg_z134 : e126 + z133 = z134
      refine y_iast X hY0 hI hY_bk rfl hA_bk (by omega) (by show _ < (160 : Int); omega) (by rw [z_get3 (by omega)]; exact ⟨_, rfl, x_i32 _⟩) (by decide +kernel) wZ_d135 fun H locs hI h_new ho => ?_
      replace hA_bk := h_new
      generalize hf_f135 : y_up fz z124.toInt.toNat z134 = f135 at hA_bk
      replace hs_bk := y_slk hs_bk (ho _ (y_ne hY_this hY_bk rfl))
      obtain ⟨z136, hg_z136⟩ : ∃ z136 : Int32, tt + Int32.ofInt 1 = z136 := ⟨_, rfl⟩
      have h_z136 : z136.toInt = tt.toInt + 1 := by rw [← hg_z136]; exact y_inc (by decide) (by omega) (by omega)
      refine lv_iinc hx hb wZ_d136 hl (k := 0) rfl hg_z136 (by decide) (lv' := [(6, .int z136), (5, .int dn), (4, .int best), (3, .int may), (0, .ref this), (1, .int x), (2, .int cs)]) rfl fun ls hl => ?_
      refine lv_goto hx hb wZ_d139 (tgt := 100) (by decide) ?_
      have hz9 : z124.toInt.toNat = 65 + 7 * tt.toInt.toNat := by omega
      exact ih _ _ _ _ _ _ hI hY_this hY_bk hs_bk hA_bk (lv_sub hl [0, 1, 2, 3, 4, 5, 6] rfl) (by first | assumption | omega) (by rw [show z136.toInt.toNat = tt.toInt.toNat + 1 by omega, ← m_abU (by omega), ← hf_f135, ← hg_z134, ← hg_z133, ← hg_z131, ← hg_e126, hz9, hfz]) (by omega)
theorem wZ_L59 {p : Program} {l : Launch} {e : Env} {s : State} {m : MethodId} {below : List Frame} {meth : Method} {c : Code} {D : va_G} {U : State} {Y0 : xY} {av : List Value} (B : y_B vwCl x_Tb x_Nb xM200 p s m meth c D U Y0 av) {this bk : Nat} {x cs : Int32} {fb : Nat → Int32} (hav : av = [.ref this, .int x, .int cs]) (hs0 : x_sl D 12 0 this s.heap = some (.ref bk)) (hA0 : y_A bk 160 s.heap fb) (hcn : z_c fb) (hd1 : 0 ≤ (fb 1).toInt ∧ (fb 1).toInt ≤ 8) (hcs : 0 ≤ cs.toInt ∧ cs.toInt ≤ 1)  :
    ∀ (n : Nat), ∀ (H : Heap) (Y : xY) (locs : List Loc) (ls : Array Slot) (dn : Int32) (best : Int32) (may : Int32) (fz : Nat → Int32), x_I D x_G x_Zs U (x_efs xM200) Y0 s.heap Y H locs → Y this = some 17 → Y bk = some 46 → x_sl D 12 0 this H = some (.ref bk) → y_A bk 160 H fz → lv_has ls xM200.2.2.1 [(5, .int dn), (4, .int best), (3, .int may), (0, .ref this), (1, .int x), (2, .int cs)] → (fz = fb) → (0 ≤ may.toInt ∧ may.toInt ≤ 255) → (0 ≤ dn.toInt ∧ dn.toInt ≤ may.toInt + 1) → (-1 ≤ best.toInt ∧ best.toInt ≤ 255) → (256 - dn.toInt).toNat < n → W p l e (x_rm xM200) s m av.toArray below meth c H locs 0 0 (y_QQ below D x_G x_Zs U xM200 z_Pbk av Y0 s) (F0 m 59 ls []) := by
  have X := B.1
  have hx := X.1
  have hb := X.2.1
  have hY0 := B.2.2.2.2.1
  intro n
  induction n with
  | zero => intro _ _ _ _ _ _ _ _ _ _ _ _ _ _ _ _ _ _ h; exact absurd h (Nat.not_lt_zero _)
  | succ n ih =>
    intro H Y locs ls dn best may fz hI hY_this hY_bk hs_bk hA_bk hl hfz hmay hdn hbest hn
    refine lv_iload hx hb wZ_d59 (lv_at hl 0 rfl) ?_
    refine lv_iload_n hx hb wZ_d61 rfl (lv_at hl 2 rfl) ?_
    refine lv_icmp_gt hx hb wZ_d62 (tgt := 214) (by decide) (fun q62 => ?_) (fun q62 => ?_)
    · have q62_ : may.toInt < dn.toInt := x_lt32.mp q62
      refine lv_iload hx hb wZ_d214 (lv_at hl 1 rfl) ?_
      subst hav
      subst hfz
      exact y_ireturn B hI rfl rfl rfl List.mem_cons_self ⟨_, rfl, ⟨_, rfl, by show (-1 : Int) ≤ _; omega, by show _ ≤ (255 : Int); omega⟩⟩ (x_cs.mono B.2.2.2.2.2 (y_mon B hI)) (fun t' b' f' h1 h2 h3 h4 => by cases h1; cases h2.symm.trans hs0; cases z_uniq h4 hA0 h3 hcn; exact hA_bk) (Nat.le_refl _) (Nat.le_refl _) wZ_d216
    · have q62_ : dn.toInt ≤ may.toInt := Int.not_lt.mp fun q => q62 (x_lt32.mpr q)
      refine lv_iload hx hb wZ_d65 (lv_at hl 0 rfl) ?_
      refine lv_iload_n hx hb wZ_d67 rfl (lv_at hl 2 rfl) ?_
      refine lv_iconst hx hb wZ_d68 (v := (-1)) (by decide) ?_
      have ecm1 : ((-1) : Int32).toInt = (-1) := by decide
      refine lv_ixor hx hb wZ_d69 ?_
      generalize hg_z69 : may ^^^ ((-1) : Int32) = z69
      refine lv_iand hx hb wZ_d70 ?_
      generalize hg_z70 : dn &&& z69 = z70
      have ec0 : (0 : Int32).toInt = 0 := by decide
      refine lv_if_ne hx hb wZ_d71 (tgt := 208) (by decide) (fun q71 => ?_) (fun q71 => ?_)
      · have q71_ : ¬ z70.toInt = (0 : Int32).toInt := fun q => q71 (Int32.toInt_inj.mp q)
        obtain ⟨z208, hg_z208⟩ : ∃ z208 : Int32, dn + Int32.ofInt 1 = z208 := ⟨_, rfl⟩
        have h_z208 : z208.toInt = dn.toInt + 1 := by rw [← hg_z208]; exact y_inc (by decide) (by omega) (by omega)
        refine lv_iinc hx hb wZ_d208 hl (k := 0) rfl hg_z208 (by decide) (lv' := [(5, .int z208), (4, .int best), (3, .int may), (0, .ref this), (1, .int x), (2, .int cs)]) rfl fun ls hl => ?_
        refine lv_goto hx hb wZ_d211 (tgt := 59) (by decide) ?_
        exact ih _ _ _ _ _ _ _ _ hI hY_this hY_bk hs_bk hA_bk (lv_sub hl [0, 1, 2, 3, 4, 5] rfl) (by first | assumption | omega) (by first | assumption | omega) (by first | assumption | omega) (by first | assumption | omega) (by omega)
      · have q71_ : z70.toInt = (0 : Int32).toInt := by rw [q71]
        refine lv_iload hx hb wZ_d74 (lv_at hl 1 rfl) ?_
        refine lv_iconst hx hb wZ_d76 (v := (-1)) (by decide) ?_
        refine lv_icmp_eq hx hb wZ_d77 (tgt := 97) (by decide) (fun q77 => ?_) (fun q77 => ?_)
        · have q77_ : best.toInt = ((-1) : Int32).toInt := by rw [q77]
          refine lv_iconst hx hb wZ_d97 (v := 0) (by decide) ?_
          refine lv_istore hx hb wZ_d98 hl (by decide) (lv' := [(6, .int (0 : Int32)), (5, .int dn), (4, .int best), (3, .int may), (0, .ref this), (1, .int x), (2, .int cs)]) rfl fun ls hl => ?_
          exact wZ_L100 B hav hs0 hA0 hcn hd1 hcs hmay ⟨by omega, by omega⟩ hbest (fun H Y locs ls dn1 best1 may1 fz1 hI hY_this hY_bk hs_bk hA_bk hl hfz hmay hdn hbest hi1 => ih _ _ _ _ _ _ _ _ hI hY_this hY_bk hs_bk hA_bk hl hfz hmay hdn hbest (by omega)) 10 _ _ _ _ _ _ hI hY_this hY_bk hs_bk hA_bk (lv_sub hl [0, 1, 2, 3, 4, 5, 6] rfl) (by first | assumption | omega) (by rw [hfz]; exact m_ab0.symm) (by omega)
        · have q77_ : ¬ best.toInt = ((-1) : Int32).toInt := fun q => q77 (Int32.toInt_inj.mp q)
          refine lv_aload_n hx hb wZ_d80 rfl (lv_at hl 3 rfl) ?_
          refine lv_iload hx hb wZ_d81 (lv_at hl 0 rfl) ?_
          refine lv_iload_n hx hb wZ_d83 rfl (lv_at hl 5 rfl) ?_
          refine y_call (z := (0, 250, 3, some 17, xM199)) (av := [.ref this, .int dn, .int cs]) (rest := []) (y_cok.of (x_cokV (n := 2) (ci := 12) X xm199 rfl rfl rfl (x_cons (x_bw80 9 rfl rfl) (x_cons (x_bw80 11 rfl rfl) (x_cons (x_at 54 (by decide +kernel) rfl) (x_cons (x_bw0 9 rfl rfl) x_nilm)))) (x_bw80 12 rfl rfl) (by decide +kernel) ⟨Nat.le_of_ble_eq_true rfl, Nat.le_of_ble_eq_true rfl⟩)) hY0 hI rfl wZ_d84 hl.1 (Nat.le_of_ble_eq_true rfl) (Nat.le_of_ble_eq_true rfl) (Nat.le_of_ble_eq_true rfl) (y_cons (y_cref hY_this rfl) (y_cons ⟨_, rfl, x_i32 _⟩ (y_cons ⟨_, rfl, by show (0 : Int) ≤ _; omega, by show _ ≤ (1 : Int); omega⟩ y_nil))) rfl (y_recv rfl hY_this) trivial (y_sub_ef rfl) fun v Yn o Hn L ho hr ha hIn hx_ hE hP => ?_
          replace hs_bk := y_Efld hE hY_this rfl (by decide) (by decide) hs_bk
          replace hA_bk := hA_bk.kept (y_Earr hE hY_bk rfl (by decide))
          replace hY_this := y_ext hx_ hI.1 hY_this
          replace hY_bk := y_ext hx_ hI.1 hY_bk
          obtain ⟨r84, rfl, h_r84⟩ := y_ansI (lo := (-2147483648)) (hi := 2147483647) (by decide) ho hr
          clear ho hr ha hE hP hI hx_
          rename x_I _ _ _ _ _ _ _ _ _ _ => hI
          refine lv_aload_n hx hb wZ_d87 rfl (lv_at hl 3 rfl) ?_
          refine lv_iload hx hb wZ_d88 (lv_at hl 1 rfl) ?_
          refine lv_iload_n hx hb wZ_d90 rfl (lv_at hl 5 rfl) ?_
          refine y_call (z := (0, 250, 3, some 17, xM199)) (av := [.ref this, .int best, .int cs]) (rest := [.int r84]) (y_cok.of (x_cokV (n := 2) (ci := 12) X xm199 rfl rfl rfl (x_cons (x_bw80 9 rfl rfl) (x_cons (x_bw80 11 rfl rfl) (x_cons (x_at 54 (by decide +kernel) rfl) (x_cons (x_bw0 9 rfl rfl) x_nilm)))) (x_bw80 12 rfl rfl) (by decide +kernel) ⟨Nat.le_of_ble_eq_true rfl, Nat.le_of_ble_eq_true rfl⟩)) hY0 hI rfl wZ_d91 hl.1 (Nat.le_of_ble_eq_true rfl) (Nat.le_of_ble_eq_true rfl) (Nat.le_of_ble_eq_true rfl) (y_cons (y_cref hY_this rfl) (y_cons ⟨_, rfl, x_i32 _⟩ (y_cons ⟨_, rfl, by show (0 : Int) ≤ _; omega, by show _ ≤ (1 : Int); omega⟩ y_nil))) rfl (y_recv rfl hY_this) trivial (y_sub_ef rfl) fun v Yn o Hn L ho hr ha hIn hx_ hE hP => ?_
          replace hs_bk := y_Efld hE hY_this rfl (by decide) (by decide) hs_bk
          replace hA_bk := hA_bk.kept (y_Earr hE hY_bk rfl (by decide))
          replace hY_this := y_ext hx_ hI.1 hY_this
          replace hY_bk := y_ext hx_ hI.1 hY_bk
          obtain ⟨r91, rfl, h_r91⟩ := y_ansI (lo := (-2147483648)) (hi := 2147483647) (by decide) ho hr
          clear ho hr ha hE hP hI hx_
          rename x_I _ _ _ _ _ _ _ _ _ _ => hI
          refine lv_icmp_ge hx hb wZ_d94 (tgt := 208) (by decide) (fun q94 => ?_) (fun q94 => ?_)
          · have q94_ : r91.toInt ≤ r84.toInt := x_le32.mp q94
            obtain ⟨z208, hg_z208⟩ : ∃ z208 : Int32, dn + Int32.ofInt 1 = z208 := ⟨_, rfl⟩
            have h_z208 : z208.toInt = dn.toInt + 1 := by rw [← hg_z208]; exact y_inc (by decide) (by omega) (by omega)
            refine lv_iinc hx hb wZ_d208 hl (k := 0) rfl hg_z208 (by decide) (lv' := [(5, .int z208), (4, .int best), (3, .int may), (0, .ref this), (1, .int x), (2, .int cs)]) rfl fun ls hl => ?_
            refine lv_goto hx hb wZ_d211 (tgt := 59) (by decide) ?_
            exact ih _ _ _ _ _ _ _ _ hI hY_this hY_bk hs_bk hA_bk (lv_sub hl [0, 1, 2, 3, 4, 5] rfl) (by first | assumption | omega) (by first | assumption | omega) (by first | assumption | omega) (by first | assumption | omega) (by omega)
          · have q94_ : r84.toInt < r91.toInt := Int.not_le.mp fun q => q94 (x_le32.mpr q)
            refine lv_iconst hx hb wZ_d97 (v := 0) (by decide) ?_
            refine lv_istore hx hb wZ_d98 hl (by decide) (lv' := [(6, .int (0 : Int32)), (5, .int dn), (4, .int best), (3, .int may), (0, .ref this), (1, .int x), (2, .int cs)]) rfl fun ls hl => ?_
            exact wZ_L100 B hav hs0 hA0 hcn hd1 hcs hmay ⟨by omega, by omega⟩ hbest (fun H Y locs ls dn1 best1 may1 fz1 hI hY_this hY_bk hs_bk hA_bk hl hfz hmay hdn hbest hi1 => ih _ _ _ _ _ _ _ _ hI hY_this hY_bk hs_bk hA_bk hl hfz hmay hdn hbest (by omega)) 10 _ _ _ _ _ _ hI hY_this hY_bk hs_bk hA_bk (lv_sub hl [0, 1, 2, 3, 4, 5, 6] rfl) (by first | assumption | omega) (by rw [hfz]; exact m_ab0.symm) (by omega)
theorem wZ_L5 {p : Program} {l : Launch} {e : Env} {s : State} {m : MethodId} {below : List Frame} {meth : Method} {c : Code} {D : va_G} {U : State} {Y0 : xY} {av : List Value} (B : y_B vwCl x_Tb x_Nb xM200 p s m meth c D U Y0 av) {this bk : Nat} {x cs : Int32} {fb : Nat → Int32} (hav : av = [.ref this, .int x, .int cs]) (hs0 : x_sl D 12 0 this s.heap = some (.ref bk)) (hA0 : y_A bk 160 s.heap fb) (hcn : z_c fb) (hd1 : 0 ≤ (fb 1).toInt ∧ (fb 1).toInt ≤ 8) (hcs : 0 ≤ cs.toInt ∧ cs.toInt ≤ 1)  :
    ∀ (n : Nat), ∀ (H : Heap) (Y : xY) (locs : List Loc) (ls : Array Slot) (tt : Int32) (may : Int32), x_I D x_G x_Zs U (x_efs xM200) Y0 s.heap Y H locs → Y this = some 17 → Y bk = some 46 → x_sl D 12 0 this H = some (.ref bk) → y_A bk 160 H fb → lv_has ls xM200.2.2.1 [(4, .int tt), (3, .int may), (0, .ref this), (1, .int x), (2, .int cs)] → (0 ≤ tt.toInt ∧ tt.toInt ≤ (fb 1).toInt) → (0 ≤ may.toInt ∧ may.toInt ≤ 255) → (9 - tt.toInt).toNat < n → W p l e (x_rm xM200) s m av.toArray below meth c H locs 0 0 (y_QQ below D x_G x_Zs U xM200 z_Pbk av Y0 s) (F0 m 5 ls []) := by
  have X := B.1
  have hx := X.1
  have hb := X.2.1
  have hY0 := B.2.2.2.2.1
  intro n
  induction n with
  | zero => intro _ _ _ _ _ _ _ _ _ _ _ _ _ _ h; exact absurd h (Nat.not_lt_zero _)
  | succ n ih =>
    intro H Y locs ls tt may  hI hY_this hY_bk hs_bk hA_bk hl ht hmay hn
    refine lv_iload hx hb wZ_d5 (lv_at hl 0 rfl) ?_
    refine lv_aload_n hx hb wZ_d7 rfl (lv_at hl 2 rfl) ?_
    refine y_getf X (fl190 X.2.2.2.2.1) hI.1 hY_this rfl hs_bk wZ_d8 ?_
    refine lv_iconst hx hb wZ_d11 (v := 1) (by decide) ?_
    have ec1 : (1 : Int32).toInt = 1 := by decide
    refine y_iald X hI.1 hY_bk rfl hA_bk (by omega) (by show _ < (160 : Int); omega) wZ_d12 ?_
    obtain ⟨e12, hg_e12⟩ : ∃ e12 : Int32, fb (1 : Int32).toInt.toNat = e12 := ⟨_, rfl⟩
    rw [hg_e12]
    rw [z_i1] at hg_e12
    have h_e12 : e12.toInt = (fb 1).toInt := by rw [← hg_e12]
    refine lv_icmp_ge hx hb wZ_d13 (tgt := 53) (by decide) (fun q13 => ?_) (fun q13 => ?_)
    · have q13_ : e12.toInt ≤ tt.toInt := x_le32.mp q13
      refine lv_iconst hx hb wZ_d53 (v := (-1)) (by decide) ?_
      have ecm1 : ((-1) : Int32).toInt = (-1) := by decide
      refine lv_istore hx hb wZ_d54 hl (by decide) (lv' := [(4, .int ((-1) : Int32)), (3, .int may), (0, .ref this), (1, .int x), (2, .int cs)]) rfl fun ls hl => ?_
      refine lv_iconst hx hb wZ_d56 (v := 0) (by decide) ?_
      have ec0 : (0 : Int32).toInt = 0 := by decide
      refine lv_istore hx hb wZ_d57 hl (by decide) (lv' := [(5, .int (0 : Int32)), (4, .int ((-1) : Int32)), (3, .int may), (0, .ref this), (1, .int x), (2, .int cs)]) rfl fun ls hl => ?_
      exact wZ_L59 B hav hs0 hA0 hcn hd1 hcs 257 _ _ _ _ _ _ _ _ hI hY_this hY_bk hs_bk hA_bk (lv_sub hl [0, 1, 2, 3, 4, 5] rfl) rfl hmay ⟨by omega, by omega⟩ ⟨by decide, by decide⟩ (by omega)
    · have q13_ : tt.toInt < e12.toInt := Int.not_le.mp fun q => q13 (x_le32.mpr q)
      refine lv_iload_n hx hb wZ_d16 rfl (lv_at hl 1 rfl) ?_
      refine lv_aload_n hx hb wZ_d17 rfl (lv_at hl 2 rfl) ?_
      refine lv_iload hx hb wZ_d18 (lv_at hl 0 rfl) ?_
      refine lv_iconst hx hb wZ_d20 (v := 0) (by decide) ?_
      have ec0 : (0 : Int32).toInt = 0 := by decide
      refine y_call (z := (0, 123, 3, some 17, xM163)) (av := [.ref this, .int tt, .int (0 : Int32)]) (rest := [.int may]) (y_cokV (n := 2) (ci := 12) X ym_ofThing rfl rfl rfl (x_cons (x_bw70 7 rfl rfl) (x_cons (x_bw70 9 rfl rfl) (x_cons (x_at 37 (by decide +kernel) rfl) (x_cons (x_bw0 9 rfl rfl) x_nilm)))) (x_bw70 10 rfl rfl) (by decide +kernel) ⟨Nat.le_of_ble_eq_true rfl, Nat.le_of_ble_eq_true rfl⟩) hY0 hI rfl wZ_d21 hl.1 (Nat.le_of_ble_eq_true rfl) (Nat.le_of_ble_eq_true rfl) (Nat.le_of_ble_eq_true rfl) (y_cons (y_cref hY_this rfl) (y_cons ⟨_, rfl, by show (0 : Int) ≤ _; omega, by show _ ≤ (7 : Int); omega⟩ (y_cons ⟨_, rfl, by show (0 : Int) ≤ _; omega, by show _ ≤ (6 : Int); omega⟩ y_nil))) rfl (y_recv rfl hY_this) trivial (y_sub_ef rfl) fun v Yn o Hn L ho hr ha hIn hx_ hE hP => ?_
      have hPo := hP _ _ _ _ _ rfl hs_bk hA_bk
      replace hs_bk := y_Efld hE hY_this rfl (by decide) (by decide) hs_bk
      replace hA_bk := hA_bk.kept (y_Earr hE hY_bk rfl (by decide))
      replace hY_this := y_ext hx_ hI.1 hY_this
      replace hY_bk := y_ext hx_ hI.1 hY_bk
      obtain ⟨r21, hg_r21⟩ : ∃ r21 : Int32, fb (60 + 7 * (tt).toInt.toNat + ((0 : Int32)).toInt.toNat) = r21 := ⟨_, rfl⟩
      rw [hg_r21] at hPo
      obtain rfl := hPo
      clear ho hr ha hE hP hI hx_
      rename x_I _ _ _ _ _ _ _ _ _ _ => hI
      refine lv_if_eq hx hb wZ_d24 (tgt := 44) (by decide) (fun q24 => ?_) (fun q24 => ?_)
      · have q24_ : r21.toInt = (0 : Int32).toInt := by rw [q24]
        refine lv_iconst hx hb wZ_d44 (v := 0) (by decide) ?_
        have hor := x_or_ok (p := (0, 255)) (q := (0, 0)) (x := may) (y := 0) hmay ⟨by decide, by decide⟩
        replace hor : 0 ≤ (may ||| (0 : Int32)).toInt ∧ (may ||| (0 : Int32)).toInt ≤ 255 := ⟨Int.le_trans (by decide) hor.1, Int.le_trans hor.2 (by decide)⟩
        refine lv_ior hx hb wZ_d45 ?_
        generalize hg_z45 : may ||| (0 : Int32) = z45
        rw [hg_z45] at hor
        refine lv_istore_n hx hb wZ_d46 rfl hl (by decide) (lv' := [(3, .int z45), (4, .int tt), (0, .ref this), (1, .int x), (2, .int cs)]) rfl fun ls hl => ?_
        obtain ⟨z47, hg_z47⟩ : ∃ z47 : Int32, tt + Int32.ofInt 1 = z47 := ⟨_, rfl⟩
        have h_z47 : z47.toInt = tt.toInt + 1 := by rw [← hg_z47]; exact y_inc (by decide) (by omega) (by omega)
        refine lv_iinc hx hb wZ_d47 hl (k := 1) rfl hg_z47 (by decide) (lv' := [(4, .int z47), (3, .int z45), (0, .ref this), (1, .int x), (2, .int cs)]) rfl fun ls hl => ?_
        refine lv_goto hx hb wZ_d50 (tgt := 5) (by decide) ?_
        exact ih _ _ _ _ _ _ hI hY_this hY_bk hs_bk hA_bk (lv_sub hl [0, 1, 2, 3, 4] rfl) (by first | assumption | omega) hor (by omega)
      · have q24_ : ¬ r21.toInt = (0 : Int32).toInt := fun q => q24 (Int32.toInt_inj.mp q)
        refine lv_aload_n hx hb wZ_d27 rfl (lv_at hl 2 rfl) ?_
        refine lv_iload hx hb wZ_d28 (lv_at hl 0 rfl) ?_
        refine lv_iconst hx hb wZ_d30 (v := 5) (by decide) ?_
        have ec5 : (5 : Int32).toInt = 5 := by decide
        refine y_call (z := (0, 123, 3, some 17, xM163)) (av := [.ref this, .int tt, .int (5 : Int32)]) (rest := [.int may]) (y_cokV (n := 2) (ci := 12) X ym_ofThing rfl rfl rfl (x_cons (x_bw70 7 rfl rfl) (x_cons (x_bw70 9 rfl rfl) (x_cons (x_at 37 (by decide +kernel) rfl) (x_cons (x_bw0 9 rfl rfl) x_nilm)))) (x_bw70 10 rfl rfl) (by decide +kernel) ⟨Nat.le_of_ble_eq_true rfl, Nat.le_of_ble_eq_true rfl⟩) hY0 hI rfl wZ_d31 hl.1 (Nat.le_of_ble_eq_true rfl) (Nat.le_of_ble_eq_true rfl) (Nat.le_of_ble_eq_true rfl) (y_cons (y_cref hY_this rfl) (y_cons ⟨_, rfl, by show (0 : Int) ≤ _; omega, by show _ ≤ (7 : Int); omega⟩ (y_cons ⟨_, rfl, by show (0 : Int) ≤ _; omega, by show _ ≤ (6 : Int); omega⟩ y_nil))) rfl (y_recv rfl hY_this) trivial (y_sub_ef rfl) fun v Yn o Hn L ho hr ha hIn hx_ hE hP => ?_
        have hPo := hP _ _ _ _ _ rfl hs_bk hA_bk
        replace hs_bk := y_Efld hE hY_this rfl (by decide) (by decide) hs_bk
        replace hA_bk := hA_bk.kept (y_Earr hE hY_bk rfl (by decide))
        replace hY_this := y_ext hx_ hI.1 hY_this
        replace hY_bk := y_ext hx_ hI.1 hY_bk
        obtain ⟨r31, hg_r31⟩ : ∃ r31 : Int32, fb (60 + 7 * (tt).toInt.toNat + ((5 : Int32)).toInt.toNat) = r31 := ⟨_, rfl⟩
        rw [hg_r31] at hPo
        obtain rfl := hPo
        clear ho hr ha hE hP hI hx_
        rename x_I _ _ _ _ _ _ _ _ _ _ => hI
        refine lv_if_ne hx hb wZ_d34 (tgt := 44) (by decide) (fun q34 => ?_) (fun q34 => ?_)
        · have q34_ : ¬ r31.toInt = (0 : Int32).toInt := fun q => q34 (Int32.toInt_inj.mp q)
          refine lv_iconst hx hb wZ_d44 (v := 0) (by decide) ?_
          have hor := x_or_ok (p := (0, 255)) (q := (0, 0)) (x := may) (y := 0) hmay ⟨by decide, by decide⟩
          replace hor : 0 ≤ (may ||| (0 : Int32)).toInt ∧ (may ||| (0 : Int32)).toInt ≤ 255 := ⟨Int.le_trans (by decide) hor.1, Int.le_trans hor.2 (by decide)⟩
          refine lv_ior hx hb wZ_d45 ?_
          generalize hg_z45 : may ||| (0 : Int32) = z45
          rw [hg_z45] at hor
          refine lv_istore_n hx hb wZ_d46 rfl hl (by decide) (lv' := [(3, .int z45), (4, .int tt), (0, .ref this), (1, .int x), (2, .int cs)]) rfl fun ls hl => ?_
          obtain ⟨z47, hg_z47⟩ : ∃ z47 : Int32, tt + Int32.ofInt 1 = z47 := ⟨_, rfl⟩
          have h_z47 : z47.toInt = tt.toInt + 1 := by rw [← hg_z47]; exact y_inc (by decide) (by omega) (by omega)
          refine lv_iinc hx hb wZ_d47 hl (k := 1) rfl hg_z47 (by decide) (lv' := [(4, .int z47), (3, .int z45), (0, .ref this), (1, .int x), (2, .int cs)]) rfl fun ls hl => ?_
          refine lv_goto hx hb wZ_d50 (tgt := 5) (by decide) ?_
          exact ih _ _ _ _ _ _ hI hY_this hY_bk hs_bk hA_bk (lv_sub hl [0, 1, 2, 3, 4] rfl) (by first | assumption | omega) hor (by omega)
        · have q34_ : r31.toInt = (0 : Int32).toInt := by rw [q34]
          refine lv_iconst hx hb wZ_d37 (v := 1) (by decide) ?_
          refine lv_iload hx hb wZ_d38 (lv_at hl 0 rfl) ?_
          refine lv_ishl hx hb wZ_d40 ?_
          generalize hg_z40 : (1 : Int32) <<< (tt &&& 31) = z40
          refine lv_goto hx hb wZ_d41 (tgt := 45) (by decide) ?_
          have hsh : x_b (0, 128) z40 := by rw [← hg_z40]; have := x_shl_ok (p := (1, 1)) (q := (0, 7)) (x := 1) (y := tt) ⟨by decide, by decide⟩ ⟨by omega, by omega⟩; exact ⟨Int.le_trans (by decide) this.1, Int.le_trans this.2 (by decide)⟩
          have hor := x_or_ok (p := (0, 255)) (q := (0, 128)) (x := may) (y := z40) hmay hsh
          replace hor : 0 ≤ (may ||| z40).toInt ∧ (may ||| z40).toInt ≤ 255 := ⟨Int.le_trans (by decide) hor.1, Int.le_trans hor.2 (by decide)⟩
          refine lv_ior hx hb wZ_d45 ?_
          generalize hg_z45 : may ||| z40 = z45
          rw [hg_z45] at hor
          refine lv_istore_n hx hb wZ_d46 rfl hl (by decide) (lv' := [(3, .int z45), (4, .int tt), (0, .ref this), (1, .int x), (2, .int cs)]) rfl fun ls hl => ?_
          obtain ⟨z47, hg_z47⟩ : ∃ z47 : Int32, tt + Int32.ofInt 1 = z47 := ⟨_, rfl⟩
          have h_z47 : z47.toInt = tt.toInt + 1 := by rw [← hg_z47]; exact y_inc (by decide) (by omega) (by omega)
          refine lv_iinc hx hb wZ_d47 hl (k := 1) rfl hg_z47 (by decide) (lv' := [(4, .int z47), (3, .int z45), (0, .ref this), (1, .int x), (2, .int cs)]) rfl fun ls hl => ?_
          refine lv_goto hx hb wZ_d50 (tgt := 5) (by decide) ?_
          exact ih _ _ _ _ _ _ hI hY_this hY_bk hs_bk hA_bk (lv_sub hl [0, 1, 2, 3, 4] rfl) (by first | assumption | omega) hor (by omega)
theorem ym_worksX : y_Met vwCl x_G x_Zs x_Tb x_Nb xM200 y_T z_Pbk := by
  refine y_main (by decide +kernel) (by decide +kernel) x_Tb_good x_Nb_ok ?_
  intro p l e s m below meth c D U Y0 av ls B hI _ hl
  have X := B.1
  have hx := X.1
  have hb := X.2.1
  have hY0 := B.2.2.2.2.1
  obtain ⟨v0, v1, v2, rfl, hv0, ⟨x, rfl, -⟩, ⟨cs, rfl, hcs⟩⟩ := y_three B.2.2.2.2.2
  replace hcs : (0 : Int) ≤ cs.toInt ∧ cs.toInt ≤ 1 := hcs
  obtain ⟨this, t0, rfl, ht0, hY_this⟩ := x_ref_at hv0 rfl
  obtain rfl := List.mem_singleton.mp ht0
  replace hl : lv_has ls xM200.2.2.1 [(0, .ref this), (1, .int x), (2, .int cs)] := hl
  obtain ⟨bk, hs_bk, hY_bk⟩ := y_fldR (k := 0) hI.1 hY_this rfl rfl
  obtain ⟨fb9, hA9, hB9⟩ := y_arr hI.1 hY_bk rfl rfl
  obtain ⟨fb, hcn, hA_bk, hB_bk⟩ := z_canon (Y := Y0) (P := fun j v => x_c Y0 ([xI 0 10, xI 0 8, xI 0 8].getD j xF) (.int v)) hA9 hB9
  clear hA9 hB9 fb9
  have hs0 := hs_bk
  have hA0 := hA_bk
  have hd := z_hdr hB_bk
  have hd0 := hd.1
  have hd1 := hd.2.1
  refine lv_iconst hx hb wZ_d0 (v := 0) (by decide) ?_
  have ec0 : (0 : Int32).toInt = 0 := by decide
  refine lv_istore_n hx hb wZ_d1 rfl hl (by decide) (lv' := [(3, .int (0 : Int32)), (0, .ref this), (1, .int x), (2, .int cs)]) rfl fun ls hl => ?_
  refine lv_iconst hx hb wZ_d2 (v := 0) (by decide) ?_
  refine lv_istore hx hb wZ_d3 hl (by decide) (lv' := [(4, .int (0 : Int32)), (3, .int (0 : Int32)), (0, .ref this), (1, .int x), (2, .int cs)]) rfl fun ls hl => ?_
  exact wZ_L5 B rfl hs0 hA0 hcn hd1 hcs 10 _ _ _ _ _ _ hI hY_this hY_bk hs_bk hA_bk (lv_sub hl [0, 1, 2, 3, 4] rfl) (by first | assumption | omega) (by first | assumption | omega) (by omega)
theorem fZ_d0 : decode xM201.2.1 0 = .ok (.aload_n 0, 1) := dz_ok (by decide +kernel)
theorem fZ_d1 : decode xM201.2.1 1 = .ok (.iload_n 1, 1) := dz_ok (by decide +kernel)
theorem fZ_d2 : decode xM201.2.1 2 = .ok (.invokevirtual 237, 3) := dz_ok (by decide +kernel)
theorem fZ_d5 : decode xM201.2.1 5 = .ok (.ifCond .eq 13, 3) := dz_ok (by decide +kernel)
theorem fZ_d8 : decode xM201.2.1 8 = .ok (.iload_n 2, 1) := dz_ok (by decide +kernel)
theorem fZ_d9 : decode xM201.2.1 9 = .ok (.i2l, 1) := dz_ok (by decide +kernel)
theorem fZ_d10 : decode xM201.2.1 10 = .ok (.lconst 0, 1) := dz_ok (by decide +kernel)
theorem fZ_d11 : decode xM201.2.1 11 = .ok (.lconst 1, 1) := dz_ok (by decide +kernel)
theorem fZ_d12 : decode xM201.2.1 12 = .ok (.invokestatic 87, 3) := dz_ok (by decide +kernel)
theorem fZ_d15 : decode xM201.2.1 15 = .ok (.ifCond .ne 8, 3) := dz_ok (by decide +kernel)
theorem fZ_d18 : decode xM201.2.1 18 = .ok (.aload_n 0, 1) := dz_ok (by decide +kernel)
theorem fZ_d19 : decode xM201.2.1 19 = .ok (.invokevirtual 102, 3) := dz_ok (by decide +kernel)
theorem fZ_d22 : decode xM201.2.1 22 = .ok (.ireturn, 1) := dz_ok (by decide +kernel)
theorem fZ_d23 : decode xM201.2.1 23 = .ok (.aload_n 0, 1) := dz_ok (by decide +kernel)
theorem fZ_d24 : decode xM201.2.1 24 = .ok (.iload_n 1, 1) := dz_ok (by decide +kernel)
theorem fZ_d25 : decode xM201.2.1 25 = .ok (.iconst 0, 1) := dz_ok (by decide +kernel)
theorem fZ_d26 : decode xM201.2.1 26 = .ok (.invokevirtual 254, 3) := dz_ok (by decide +kernel)
theorem fZ_d29 : decode xM201.2.1 29 = .ok (.istore_n 3, 1) := dz_ok (by decide +kernel)
theorem fZ_d30 : decode xM201.2.1 30 = .ok (.iload_n 3, 1) := dz_ok (by decide +kernel)
theorem fZ_d31 : decode xM201.2.1 31 = .ok (.iconst (-1), 1) := dz_ok (by decide +kernel)
theorem fZ_d32 : decode xM201.2.1 32 = .ok (.if_icmp .eq 8, 3) := dz_ok (by decide +kernel)
theorem fZ_d35 : decode xM201.2.1 35 = .ok (.iload_n 2, 1) := dz_ok (by decide +kernel)
theorem fZ_d36 : decode xM201.2.1 36 = .ok (.iconst 1, 1) := dz_ok (by decide +kernel)
theorem fZ_d37 : decode xM201.2.1 37 = .ok (.if_icmp .ne 7, 3) := dz_ok (by decide +kernel)
theorem fZ_d40 : decode xM201.2.1 40 = .ok (.iload_n 3, 1) := dz_ok (by decide +kernel)
theorem fZ_d41 : decode xM201.2.1 41 = .ok (.goto 9, 3) := dz_ok (by decide +kernel)
theorem fZ_d44 : decode xM201.2.1 44 = .ok (.aload_n 0, 1) := dz_ok (by decide +kernel)
theorem fZ_d45 : decode xM201.2.1 45 = .ok (.iload_n 3, 1) := dz_ok (by decide +kernel)
theorem fZ_d46 : decode xM201.2.1 46 = .ok (.iconst 0, 1) := dz_ok (by decide +kernel)
theorem fZ_d47 : decode xM201.2.1 47 = .ok (.invokevirtual 250, 3) := dz_ok (by decide +kernel)
theorem fZ_d50 : decode xM201.2.1 50 = .ok (.ireturn, 1) := dz_ok (by decide +kernel)
theorem ym_fewestX : y_Met vwCl x_G x_Zs x_Tb x_Nb xM201 y_T z_Pbk := by
  refine y_main (by decide +kernel) (by decide +kernel) x_Tb_good x_Nb_ok ?_
  intro p l e s m below meth c D U Y0 av ls B hI _ hl
  have X := B.1
  have hx := X.1
  have hb := X.2.1
  have hY0 := B.2.2.2.2.1
  obtain ⟨v0, v1, v2, rfl, hv0, ⟨x, rfl, -⟩, ⟨y, rfl, -⟩⟩ := y_three B.2.2.2.2.2
  obtain ⟨this, t0, rfl, ht0, hY_this⟩ := x_ref_at hv0 rfl
  obtain rfl := List.mem_singleton.mp ht0
  replace hl : lv_has ls xM201.2.2.1 [(0, .ref this), (1, .int x), (2, .int y)] := hl
  obtain ⟨bk, hs_bk, hY_bk⟩ := y_fldR (k := 0) hI.1 hY_this rfl rfl
  obtain ⟨fb9, hA9, hB9⟩ := y_arr hI.1 hY_bk rfl rfl
  obtain ⟨fb, hcn, hA_bk, hB_bk⟩ := z_canon (Y := Y0) (P := fun j v => x_c Y0 ([xI 0 10, xI 0 8, xI 0 8].getD j xF) (.int v)) hA9 hB9
  clear hA9 hB9 fb9
  have hs0 := hs_bk
  have hA0 := hA_bk
  have hd := z_hdr hB_bk
  have hd0 := hd.1
  have hd1 := hd.2.1
  refine lv_aload_n hx hb fZ_d0 rfl (lv_at hl 0 rfl) ?_
  refine lv_iload_n hx hb fZ_d1 rfl (lv_at hl 1 rfl) ?_
  refine y_call (z := (0, 237, 2, some 17, xM184)) (av := [.ref this, .int x]) (rest := []) (y_cokV (n := 1) (ci := 12) X ym_isSet rfl rfl rfl (x_cons (x_bw77 0 rfl rfl) (x_cons (x_bw77 2 rfl rfl) (x_cons (x_at 48 (by decide +kernel) rfl) (x_cons (x_bw0 9 rfl rfl) x_nilm)))) (x_bw77 3 rfl rfl) (by decide +kernel) ⟨Nat.le_of_ble_eq_true rfl, Nat.le_of_ble_eq_true rfl⟩) hY0 hI rfl fZ_d2 hl.1 (Nat.le_of_ble_eq_true rfl) (Nat.le_of_ble_eq_true rfl) (Nat.le_of_ble_eq_true rfl) (y_cons (y_cref hY_this rfl) (y_cons ⟨_, rfl, x_i32 _⟩ y_nil)) rfl (y_recv rfl hY_this) trivial (y_sub_ef rfl) fun v Yn o Hn L ho hr ha hIn hx_ hE hP => ?_
  replace hs_bk := y_Efld hE hY_this rfl (by decide) (by decide) hs_bk
  replace hA_bk := hA_bk.kept (y_Earr hE hY_bk rfl (by decide))
  replace hY_this := y_ext hx_ hI.1 hY_this
  replace hY_bk := y_ext hx_ hI.1 hY_bk
  obtain ⟨r2, rfl, h_r2⟩ := y_ansI (lo := 0) (hi := 1) (by decide) ho hr
  clear ho hr ha hE hP hI hx_
  rename x_I _ _ _ _ _ _ _ _ _ _ => hI
  have ec0 : (0 : Int32).toInt = 0 := by decide
  refine lv_if_eq hx hb fZ_d5 (tgt := 18) (by decide) (fun q5 => ?_) (fun q5 => ?_)
  · have q5_ : r2.toInt = (0 : Int32).toInt := by rw [q5]
    refine lv_aload_n hx hb fZ_d18 rfl (lv_at hl 0 rfl) ?_
    refine y_call (z := (0, 102, 1, some 17, xM143)) (av := [.ref this]) (rest := []) (y_cokV (n := 0) (ci := 12) X ym_bad rfl rfl rfl (x_cons (x_bw68 3 rfl rfl) (x_cons (x_bw68 5 rfl rfl) (x_cons (x_at 32 (by decide +kernel) rfl) (x_cons (x_bw0 9 rfl rfl) x_nilm)))) (x_bw68 6 rfl rfl) (by decide +kernel) ⟨Nat.le_of_ble_eq_true rfl, Nat.le_of_ble_eq_true rfl⟩) hY0 hI rfl fZ_d19 hl.1 (Nat.le_of_ble_eq_true rfl) (Nat.le_of_ble_eq_true rfl) (Nat.le_of_ble_eq_true rfl) (y_cons (y_cref hY_this rfl) y_nil) rfl (y_recv rfl hY_this) trivial (y_sub_ef rfl) fun v Yn o Hn L ho hr ha hIn hx_ hE hP => ?_
    replace hs_bk := y_Efld hE hY_this rfl (by decide) (by decide) hs_bk
    replace hA_bk := hA_bk.kept (y_Earr hE hY_bk rfl (by decide))
    replace hY_this := y_ext hx_ hI.1 hY_this
    replace hY_bk := y_ext hx_ hI.1 hY_bk
    have hPb := hP
    obtain rfl := hPb
    clear ho hr ha hE hP hI hx_
    rename x_I _ _ _ _ _ _ _ _ _ _ => hI
    exact y_ireturn B hI rfl rfl rfl List.mem_cons_self ⟨_, rfl, ⟨_, rfl, x_i32 _⟩⟩ (x_cs.mono B.2.2.2.2.2 (y_mon B hI)) (fun t' b' f' h1 h2 h3 h4 => by cases h1; cases h2.symm.trans hs0; cases z_uniq h4 hA0 h3 hcn; exact hA_bk) (Nat.le_refl _) (Nat.le_refl _) fZ_d22
  · have q5_ : ¬ r2.toInt = (0 : Int32).toInt := fun q => q5 (Int32.toInt_inj.mp q)
    refine lv_iload_n hx hb fZ_d8 rfl (lv_at hl 2 rfl) ?_
    obtain ⟨z9, hg_z9⟩ : ∃ z9 : Int64, y.toInt64 = z9 := ⟨_, rfl⟩
    have h_z9 : z9.toInt = (y).toInt := by rw [← hg_z9]; exact Int32.toInt_toInt64 _
    refine lv_i2l hx hb fZ_d9 (v := z9) hg_z9 ?_
    refine lv_lconst hx hb fZ_d10 (v := 0) (by decide) ?_
    have el0 : (0 : Int64).toInt = 0 := by decide
    refine lv_lconst hx hb fZ_d11 (v := 1) (by decide) ?_
    have el1 : (1 : Int64).toInt = 1 := by decide
    refine y_call (z := (1, 87, 3, none, xM148)) (av := [.long z9, .long (0 : Int64), .long (1 : Int64)]) (rest := []) (y_cokS (n := 3) X ym_in (x_cons (x_bw67 11 rfl rfl) (x_cons (x_bw67 12 rfl rfl) (x_cons (x_bw0 9 rfl rfl) x_nilm))) (x_bw67 13 rfl rfl) (by decide +kernel) ⟨Nat.le_of_ble_eq_true rfl, Nat.le_of_ble_eq_true rfl⟩) hY0 hI rfl fZ_d12 hl.1 (Nat.le_of_ble_eq_true rfl) (Nat.le_of_ble_eq_true rfl) (Nat.le_of_ble_eq_true rfl) (y_cons ⟨_, rfl, x_i64 _⟩ (y_cons ⟨_, rfl, x_i64 _⟩ (y_cons ⟨_, rfl, x_i64 _⟩ y_nil))) rfl (y_norecv rfl) trivial (y_sub_ef rfl) fun v Yn o Hn L ho hr ha hIn hx_ hE hP => ?_
    replace hs_bk := y_Efld hE hY_this rfl (by decide) (by decide) hs_bk
    replace hA_bk := hA_bk.kept (y_Earr hE hY_bk rfl (by decide))
    replace hY_this := y_ext hx_ hI.1 hY_this
    replace hY_bk := y_ext hx_ hI.1 hY_bk
    obtain ⟨r12, rfl, hin_r12, hout_r12⟩ := z_inR2 (hP _ _ _ rfl)
    clear ho hr ha hE hP hI hx_
    rename x_I _ _ _ _ _ _ _ _ _ _ => hI
    refine lv_if_ne hx hb fZ_d15 (tgt := 23) (by decide) (fun q15 => ?_) (fun q15 => ?_)
    · have q15_ : ¬ r12.toInt = (0 : Int32).toInt := fun q => q15 (Int32.toInt_inj.mp q)
      refine lv_aload_n hx hb fZ_d23 rfl (lv_at hl 0 rfl) ?_
      refine lv_iload_n hx hb fZ_d24 rfl (lv_at hl 1 rfl) ?_
      refine lv_iconst hx hb fZ_d25 (v := 0) (by decide) ?_
      refine y_call (z := (0, 254, 3, some 17, xM200)) (av := [.ref this, .int x, .int (0 : Int32)]) (rest := []) (y_cokV (n := 2) (ci := 12) X ym_worksX rfl rfl rfl (x_cons (x_bw80 5 rfl rfl) (x_cons (x_bw80 7 rfl rfl) (x_cons (x_at 53 (by decide +kernel) rfl) (x_cons (x_bw0 9 rfl rfl) x_nilm)))) (x_bw80 8 rfl rfl) (by decide +kernel) ⟨Nat.le_of_ble_eq_true rfl, Nat.le_of_ble_eq_true rfl⟩) hY0 hI rfl fZ_d26 hl.1 (Nat.le_of_ble_eq_true rfl) (Nat.le_of_ble_eq_true rfl) (Nat.le_of_ble_eq_true rfl) (y_cons (y_cref hY_this rfl) (y_cons ⟨_, rfl, x_i32 _⟩ (y_cons ⟨_, rfl, by show (0 : Int) ≤ _; omega, by show _ ≤ (1 : Int); omega⟩ y_nil))) rfl (y_recv rfl hY_this) trivial (y_sub_ef rfl) fun v Yn o Hn L ho hr ha hIn hx_ hE hP => ?_
      have hPw := hP _ _ _ rfl hs_bk hcn hA_bk
      replace hs_bk := y_Efld hE hY_this rfl (by decide) (by decide) hs_bk
      replace hY_this := y_ext hx_ hI.1 hY_this
      replace hY_bk := y_ext hx_ hI.1 hY_bk
      obtain ⟨r26, rfl, h_r26⟩ := y_ansI (lo := (-1)) (hi := 255) (by decide) ho hr
      have hA_bk := hPw
      clear ho hr ha hE hP hI hx_
      rename x_I _ _ _ _ _ _ _ _ _ _ => hI
      refine lv_istore_n hx hb fZ_d29 rfl hl (by decide) (lv' := [(3, .int r26), (0, .ref this), (1, .int x), (2, .int y)]) rfl fun ls hl => ?_
      refine lv_iload_n hx hb fZ_d30 rfl (lv_at hl 0 rfl) ?_
      refine lv_iconst hx hb fZ_d31 (v := (-1)) (by decide) ?_
      have ecm1 : ((-1) : Int32).toInt = (-1) := by decide
      refine lv_icmp_eq hx hb fZ_d32 (tgt := 40) (by decide) (fun q32 => ?_) (fun q32 => ?_)
      · have q32_ : r26.toInt = ((-1) : Int32).toInt := by rw [q32]
        refine lv_iload_n hx hb fZ_d40 rfl (lv_at hl 0 rfl) ?_
        refine lv_goto hx hb fZ_d41 (tgt := 50) (by decide) ?_
        exact y_ireturn B hI rfl rfl rfl List.mem_cons_self ⟨_, rfl, ⟨_, rfl, x_i32 _⟩⟩ (x_cs.mono B.2.2.2.2.2 (y_mon B hI)) (fun t' b' f' h1 h2 h3 h4 => by cases h1; cases h2.symm.trans hs0; cases z_uniq h4 hA0 h3 hcn; exact hA_bk) (Nat.le_refl _) (Nat.le_refl _) fZ_d50
      · have q32_ : ¬ r26.toInt = ((-1) : Int32).toInt := fun q => q32 (Int32.toInt_inj.mp q)
        refine lv_iload_n hx hb fZ_d35 rfl (lv_at hl 3 rfl) ?_
        refine lv_iconst hx hb fZ_d36 (v := 1) (by decide) ?_
        have ec1 : (1 : Int32).toInt = 1 := by decide
        refine lv_icmp_ne hx hb fZ_d37 (tgt := 44) (by decide) (fun q37 => ?_) (fun q37 => ?_)
        · have q37_ : ¬ y.toInt = (1 : Int32).toInt := fun q => q37 (Int32.toInt_inj.mp q)
          refine lv_aload_n hx hb fZ_d44 rfl (lv_at hl 1 rfl) ?_
          refine lv_iload_n hx hb fZ_d45 rfl (lv_at hl 0 rfl) ?_
          refine lv_iconst hx hb fZ_d46 (v := 0) (by decide) ?_
          refine y_call (z := (0, 250, 3, some 17, xM199)) (av := [.ref this, .int r26, .int (0 : Int32)]) (rest := []) (y_cok.of (x_cokV (n := 2) (ci := 12) X xm199 rfl rfl rfl (x_cons (x_bw80 9 rfl rfl) (x_cons (x_bw80 11 rfl rfl) (x_cons (x_at 54 (by decide +kernel) rfl) (x_cons (x_bw0 9 rfl rfl) x_nilm)))) (x_bw80 12 rfl rfl) (by decide +kernel) ⟨Nat.le_of_ble_eq_true rfl, Nat.le_of_ble_eq_true rfl⟩)) hY0 hI rfl fZ_d47 hl.1 (Nat.le_of_ble_eq_true rfl) (Nat.le_of_ble_eq_true rfl) (Nat.le_of_ble_eq_true rfl) (y_cons (y_cref hY_this rfl) (y_cons ⟨_, rfl, x_i32 _⟩ (y_cons ⟨_, rfl, by show (0 : Int) ≤ _; omega, by show _ ≤ (1 : Int); omega⟩ y_nil))) rfl (y_recv rfl hY_this) trivial (y_sub_ef rfl) fun v Yn o Hn L ho hr ha hIn hx_ hE hP => ?_
          replace hs_bk := y_Efld hE hY_this rfl (by decide) (by decide) hs_bk
          replace hA_bk := hA_bk.kept (y_Earr hE hY_bk rfl (by decide))
          replace hY_this := y_ext hx_ hI.1 hY_this
          replace hY_bk := y_ext hx_ hI.1 hY_bk
          obtain ⟨r47, rfl, h_r47⟩ := y_ansI (lo := (-2147483648)) (hi := 2147483647) (by decide) ho hr
          clear ho hr ha hE hP hI hx_
          rename x_I _ _ _ _ _ _ _ _ _ _ => hI
          exact y_ireturn B hI rfl rfl rfl List.mem_cons_self ⟨_, rfl, ⟨_, rfl, x_i32 _⟩⟩ (x_cs.mono B.2.2.2.2.2 (y_mon B hI)) (fun t' b' f' h1 h2 h3 h4 => by cases h1; cases h2.symm.trans hs0; cases z_uniq h4 hA0 h3 hcn; exact hA_bk) (Nat.le_refl _) (Nat.le_refl _) fZ_d50
        · have q37_ : y.toInt = (1 : Int32).toInt := by rw [q37]
          refine lv_iload_n hx hb fZ_d40 rfl (lv_at hl 0 rfl) ?_
          refine lv_goto hx hb fZ_d41 (tgt := 50) (by decide) ?_
          exact y_ireturn B hI rfl rfl rfl List.mem_cons_self ⟨_, rfl, ⟨_, rfl, x_i32 _⟩⟩ (x_cs.mono B.2.2.2.2.2 (y_mon B hI)) (fun t' b' f' h1 h2 h3 h4 => by cases h1; cases h2.symm.trans hs0; cases z_uniq h4 hA0 h3 hcn; exact hA_bk) (Nat.le_refl _) (Nat.le_refl _) fZ_d50
    · have q15_ : r12.toInt = (0 : Int32).toInt := by rw [q15]
      refine lv_aload_n hx hb fZ_d18 rfl (lv_at hl 0 rfl) ?_
      refine y_call (z := (0, 102, 1, some 17, xM143)) (av := [.ref this]) (rest := []) (y_cokV (n := 0) (ci := 12) X ym_bad rfl rfl rfl (x_cons (x_bw68 3 rfl rfl) (x_cons (x_bw68 5 rfl rfl) (x_cons (x_at 32 (by decide +kernel) rfl) (x_cons (x_bw0 9 rfl rfl) x_nilm)))) (x_bw68 6 rfl rfl) (by decide +kernel) ⟨Nat.le_of_ble_eq_true rfl, Nat.le_of_ble_eq_true rfl⟩) hY0 hI rfl fZ_d19 hl.1 (Nat.le_of_ble_eq_true rfl) (Nat.le_of_ble_eq_true rfl) (Nat.le_of_ble_eq_true rfl) (y_cons (y_cref hY_this rfl) y_nil) rfl (y_recv rfl hY_this) trivial (y_sub_ef rfl) fun v Yn o Hn L ho hr ha hIn hx_ hE hP => ?_
      replace hs_bk := y_Efld hE hY_this rfl (by decide) (by decide) hs_bk
      replace hA_bk := hA_bk.kept (y_Earr hE hY_bk rfl (by decide))
      replace hY_this := y_ext hx_ hI.1 hY_this
      replace hY_bk := y_ext hx_ hI.1 hY_bk
      have hPb := hP
      obtain rfl := hPb
      clear ho hr ha hE hP hI hx_
      rename x_I _ _ _ _ _ _ _ _ _ _ => hI
      exact y_ireturn B hI rfl rfl rfl List.mem_cons_self ⟨_, rfl, ⟨_, rfl, x_i32 _⟩⟩ (x_cs.mono B.2.2.2.2.2 (y_mon B hI)) (fun t' b' f' h1 h2 h3 h4 => by cases h1; cases h2.symm.trans hs0; cases z_uniq h4 hA0 h3 hcn; exact hA_bk) (Nat.le_refl _) (Nat.le_refl _) fZ_d22
theorem hZ_d0 : decode xM202.2.1 0 = .ok (.aload_n 0, 1) := dz_ok (by decide +kernel)
theorem hZ_d1 : decode xM202.2.1 1 = .ok (.iload_n 1, 1) := dz_ok (by decide +kernel)
theorem hZ_d2 : decode xM202.2.1 2 = .ok (.invokevirtual 237, 3) := dz_ok (by decide +kernel)
theorem hZ_d5 : decode xM202.2.1 5 = .ok (.ifCond .eq 13, 3) := dz_ok (by decide +kernel)
theorem hZ_d8 : decode xM202.2.1 8 = .ok (.iload_n 2, 1) := dz_ok (by decide +kernel)
theorem hZ_d9 : decode xM202.2.1 9 = .ok (.i2l, 1) := dz_ok (by decide +kernel)
theorem hZ_d10 : decode xM202.2.1 10 = .ok (.lconst 0, 1) := dz_ok (by decide +kernel)
theorem hZ_d11 : decode xM202.2.1 11 = .ok (.lconst 1, 1) := dz_ok (by decide +kernel)
theorem hZ_d12 : decode xM202.2.1 12 = .ok (.invokestatic 87, 3) := dz_ok (by decide +kernel)
theorem hZ_d15 : decode xM202.2.1 15 = .ok (.ifCond .ne 8, 3) := dz_ok (by decide +kernel)
theorem hZ_d18 : decode xM202.2.1 18 = .ok (.aload_n 0, 1) := dz_ok (by decide +kernel)
theorem hZ_d19 : decode xM202.2.1 19 = .ok (.invokevirtual 102, 3) := dz_ok (by decide +kernel)
theorem hZ_d22 : decode xM202.2.1 22 = .ok (.ireturn, 1) := dz_ok (by decide +kernel)
theorem hZ_d23 : decode xM202.2.1 23 = .ok (.aload_n 0, 1) := dz_ok (by decide +kernel)
theorem hZ_d24 : decode xM202.2.1 24 = .ok (.iload_n 1, 1) := dz_ok (by decide +kernel)
theorem hZ_d25 : decode xM202.2.1 25 = .ok (.iconst 1, 1) := dz_ok (by decide +kernel)
theorem hZ_d26 : decode xM202.2.1 26 = .ok (.invokevirtual 254, 3) := dz_ok (by decide +kernel)
theorem hZ_d29 : decode xM202.2.1 29 = .ok (.istore_n 3, 1) := dz_ok (by decide +kernel)
theorem hZ_d30 : decode xM202.2.1 30 = .ok (.iload_n 3, 1) := dz_ok (by decide +kernel)
theorem hZ_d31 : decode xM202.2.1 31 = .ok (.iconst (-1), 1) := dz_ok (by decide +kernel)
theorem hZ_d32 : decode xM202.2.1 32 = .ok (.if_icmp .eq 8, 3) := dz_ok (by decide +kernel)
theorem hZ_d35 : decode xM202.2.1 35 = .ok (.iload_n 2, 1) := dz_ok (by decide +kernel)
theorem hZ_d36 : decode xM202.2.1 36 = .ok (.iconst 1, 1) := dz_ok (by decide +kernel)
theorem hZ_d37 : decode xM202.2.1 37 = .ok (.if_icmp .ne 7, 3) := dz_ok (by decide +kernel)
theorem hZ_d40 : decode xM202.2.1 40 = .ok (.iload_n 3, 1) := dz_ok (by decide +kernel)
theorem hZ_d41 : decode xM202.2.1 41 = .ok (.goto 9, 3) := dz_ok (by decide +kernel)
theorem hZ_d44 : decode xM202.2.1 44 = .ok (.aload_n 0, 1) := dz_ok (by decide +kernel)
theorem hZ_d45 : decode xM202.2.1 45 = .ok (.iload_n 3, 1) := dz_ok (by decide +kernel)
theorem hZ_d46 : decode xM202.2.1 46 = .ok (.iconst 1, 1) := dz_ok (by decide +kernel)
theorem hZ_d47 : decode xM202.2.1 47 = .ok (.invokevirtual 250, 3) := dz_ok (by decide +kernel)
theorem hZ_d50 : decode xM202.2.1 50 = .ok (.ireturn, 1) := dz_ok (by decide +kernel)
theorem ym_cheapestX : y_Met vwCl x_G x_Zs x_Tb x_Nb xM202 y_T z_Pbk := by
  refine y_main (by decide +kernel) (by decide +kernel) x_Tb_good x_Nb_ok ?_
  intro p l e s m below meth c D U Y0 av ls B hI _ hl
  have X := B.1
  have hx := X.1
  have hb := X.2.1
  have hY0 := B.2.2.2.2.1
  obtain ⟨v0, v1, v2, rfl, hv0, ⟨x, rfl, -⟩, ⟨y, rfl, -⟩⟩ := y_three B.2.2.2.2.2
  obtain ⟨this, t0, rfl, ht0, hY_this⟩ := x_ref_at hv0 rfl
  obtain rfl := List.mem_singleton.mp ht0
  replace hl : lv_has ls xM202.2.2.1 [(0, .ref this), (1, .int x), (2, .int y)] := hl
  obtain ⟨bk, hs_bk, hY_bk⟩ := y_fldR (k := 0) hI.1 hY_this rfl rfl
  obtain ⟨fb9, hA9, hB9⟩ := y_arr hI.1 hY_bk rfl rfl
  obtain ⟨fb, hcn, hA_bk, hB_bk⟩ := z_canon (Y := Y0) (P := fun j v => x_c Y0 ([xI 0 10, xI 0 8, xI 0 8].getD j xF) (.int v)) hA9 hB9
  clear hA9 hB9 fb9
  have hs0 := hs_bk
  have hA0 := hA_bk
  have hd := z_hdr hB_bk
  have hd0 := hd.1
  have hd1 := hd.2.1
  refine lv_aload_n hx hb hZ_d0 rfl (lv_at hl 0 rfl) ?_
  refine lv_iload_n hx hb hZ_d1 rfl (lv_at hl 1 rfl) ?_
  refine y_call (z := (0, 237, 2, some 17, xM184)) (av := [.ref this, .int x]) (rest := []) (y_cokV (n := 1) (ci := 12) X ym_isSet rfl rfl rfl (x_cons (x_bw77 0 rfl rfl) (x_cons (x_bw77 2 rfl rfl) (x_cons (x_at 48 (by decide +kernel) rfl) (x_cons (x_bw0 9 rfl rfl) x_nilm)))) (x_bw77 3 rfl rfl) (by decide +kernel) ⟨Nat.le_of_ble_eq_true rfl, Nat.le_of_ble_eq_true rfl⟩) hY0 hI rfl hZ_d2 hl.1 (Nat.le_of_ble_eq_true rfl) (Nat.le_of_ble_eq_true rfl) (Nat.le_of_ble_eq_true rfl) (y_cons (y_cref hY_this rfl) (y_cons ⟨_, rfl, x_i32 _⟩ y_nil)) rfl (y_recv rfl hY_this) trivial (y_sub_ef rfl) fun v Yn o Hn L ho hr ha hIn hx_ hE hP => ?_
  replace hs_bk := y_Efld hE hY_this rfl (by decide) (by decide) hs_bk
  replace hA_bk := hA_bk.kept (y_Earr hE hY_bk rfl (by decide))
  replace hY_this := y_ext hx_ hI.1 hY_this
  replace hY_bk := y_ext hx_ hI.1 hY_bk
  obtain ⟨r2, rfl, h_r2⟩ := y_ansI (lo := 0) (hi := 1) (by decide) ho hr
  clear ho hr ha hE hP hI hx_
  rename x_I _ _ _ _ _ _ _ _ _ _ => hI
  have ec0 : (0 : Int32).toInt = 0 := by decide
  refine lv_if_eq hx hb hZ_d5 (tgt := 18) (by decide) (fun q5 => ?_) (fun q5 => ?_)
  · have q5_ : r2.toInt = (0 : Int32).toInt := by rw [q5]
    refine lv_aload_n hx hb hZ_d18 rfl (lv_at hl 0 rfl) ?_
    refine y_call (z := (0, 102, 1, some 17, xM143)) (av := [.ref this]) (rest := []) (y_cokV (n := 0) (ci := 12) X ym_bad rfl rfl rfl (x_cons (x_bw68 3 rfl rfl) (x_cons (x_bw68 5 rfl rfl) (x_cons (x_at 32 (by decide +kernel) rfl) (x_cons (x_bw0 9 rfl rfl) x_nilm)))) (x_bw68 6 rfl rfl) (by decide +kernel) ⟨Nat.le_of_ble_eq_true rfl, Nat.le_of_ble_eq_true rfl⟩) hY0 hI rfl hZ_d19 hl.1 (Nat.le_of_ble_eq_true rfl) (Nat.le_of_ble_eq_true rfl) (Nat.le_of_ble_eq_true rfl) (y_cons (y_cref hY_this rfl) y_nil) rfl (y_recv rfl hY_this) trivial (y_sub_ef rfl) fun v Yn o Hn L ho hr ha hIn hx_ hE hP => ?_
    replace hs_bk := y_Efld hE hY_this rfl (by decide) (by decide) hs_bk
    replace hA_bk := hA_bk.kept (y_Earr hE hY_bk rfl (by decide))
    replace hY_this := y_ext hx_ hI.1 hY_this
    replace hY_bk := y_ext hx_ hI.1 hY_bk
    have hPb := hP
    obtain rfl := hPb
    clear ho hr ha hE hP hI hx_
    rename x_I _ _ _ _ _ _ _ _ _ _ => hI
    exact y_ireturn B hI rfl rfl rfl List.mem_cons_self ⟨_, rfl, ⟨_, rfl, x_i32 _⟩⟩ (x_cs.mono B.2.2.2.2.2 (y_mon B hI)) (fun t' b' f' h1 h2 h3 h4 => by cases h1; cases h2.symm.trans hs0; cases z_uniq h4 hA0 h3 hcn; exact hA_bk) (Nat.le_refl _) (Nat.le_refl _) hZ_d22
  · have q5_ : ¬ r2.toInt = (0 : Int32).toInt := fun q => q5 (Int32.toInt_inj.mp q)
    refine lv_iload_n hx hb hZ_d8 rfl (lv_at hl 2 rfl) ?_
    obtain ⟨z9, hg_z9⟩ : ∃ z9 : Int64, y.toInt64 = z9 := ⟨_, rfl⟩
    have h_z9 : z9.toInt = (y).toInt := by rw [← hg_z9]; exact Int32.toInt_toInt64 _
    refine lv_i2l hx hb hZ_d9 (v := z9) hg_z9 ?_
    refine lv_lconst hx hb hZ_d10 (v := 0) (by decide) ?_
    have el0 : (0 : Int64).toInt = 0 := by decide
    refine lv_lconst hx hb hZ_d11 (v := 1) (by decide) ?_
    have el1 : (1 : Int64).toInt = 1 := by decide
    refine y_call (z := (1, 87, 3, none, xM148)) (av := [.long z9, .long (0 : Int64), .long (1 : Int64)]) (rest := []) (y_cokS (n := 3) X ym_in (x_cons (x_bw67 11 rfl rfl) (x_cons (x_bw67 12 rfl rfl) (x_cons (x_bw0 9 rfl rfl) x_nilm))) (x_bw67 13 rfl rfl) (by decide +kernel) ⟨Nat.le_of_ble_eq_true rfl, Nat.le_of_ble_eq_true rfl⟩) hY0 hI rfl hZ_d12 hl.1 (Nat.le_of_ble_eq_true rfl) (Nat.le_of_ble_eq_true rfl) (Nat.le_of_ble_eq_true rfl) (y_cons ⟨_, rfl, x_i64 _⟩ (y_cons ⟨_, rfl, x_i64 _⟩ (y_cons ⟨_, rfl, x_i64 _⟩ y_nil))) rfl (y_norecv rfl) trivial (y_sub_ef rfl) fun v Yn o Hn L ho hr ha hIn hx_ hE hP => ?_
    replace hs_bk := y_Efld hE hY_this rfl (by decide) (by decide) hs_bk
    replace hA_bk := hA_bk.kept (y_Earr hE hY_bk rfl (by decide))
    replace hY_this := y_ext hx_ hI.1 hY_this
    replace hY_bk := y_ext hx_ hI.1 hY_bk
    obtain ⟨r12, rfl, hin_r12, hout_r12⟩ := z_inR2 (hP _ _ _ rfl)
    clear ho hr ha hE hP hI hx_
    rename x_I _ _ _ _ _ _ _ _ _ _ => hI
    refine lv_if_ne hx hb hZ_d15 (tgt := 23) (by decide) (fun q15 => ?_) (fun q15 => ?_)
    · have q15_ : ¬ r12.toInt = (0 : Int32).toInt := fun q => q15 (Int32.toInt_inj.mp q)
      refine lv_aload_n hx hb hZ_d23 rfl (lv_at hl 0 rfl) ?_
      refine lv_iload_n hx hb hZ_d24 rfl (lv_at hl 1 rfl) ?_
      refine lv_iconst hx hb hZ_d25 (v := 1) (by decide) ?_
      have ec1 : (1 : Int32).toInt = 1 := by decide
      refine y_call (z := (0, 254, 3, some 17, xM200)) (av := [.ref this, .int x, .int (1 : Int32)]) (rest := []) (y_cokV (n := 2) (ci := 12) X ym_worksX rfl rfl rfl (x_cons (x_bw80 5 rfl rfl) (x_cons (x_bw80 7 rfl rfl) (x_cons (x_at 53 (by decide +kernel) rfl) (x_cons (x_bw0 9 rfl rfl) x_nilm)))) (x_bw80 8 rfl rfl) (by decide +kernel) ⟨Nat.le_of_ble_eq_true rfl, Nat.le_of_ble_eq_true rfl⟩) hY0 hI rfl hZ_d26 hl.1 (Nat.le_of_ble_eq_true rfl) (Nat.le_of_ble_eq_true rfl) (Nat.le_of_ble_eq_true rfl) (y_cons (y_cref hY_this rfl) (y_cons ⟨_, rfl, x_i32 _⟩ (y_cons ⟨_, rfl, by show (0 : Int) ≤ _; omega, by show _ ≤ (1 : Int); omega⟩ y_nil))) rfl (y_recv rfl hY_this) trivial (y_sub_ef rfl) fun v Yn o Hn L ho hr ha hIn hx_ hE hP => ?_
      have hPw := hP _ _ _ rfl hs_bk hcn hA_bk
      replace hs_bk := y_Efld hE hY_this rfl (by decide) (by decide) hs_bk
      replace hY_this := y_ext hx_ hI.1 hY_this
      replace hY_bk := y_ext hx_ hI.1 hY_bk
      obtain ⟨r26, rfl, h_r26⟩ := y_ansI (lo := (-1)) (hi := 255) (by decide) ho hr
      have hA_bk := hPw
      clear ho hr ha hE hP hI hx_
      rename x_I _ _ _ _ _ _ _ _ _ _ => hI
      refine lv_istore_n hx hb hZ_d29 rfl hl (by decide) (lv' := [(3, .int r26), (0, .ref this), (1, .int x), (2, .int y)]) rfl fun ls hl => ?_
      refine lv_iload_n hx hb hZ_d30 rfl (lv_at hl 0 rfl) ?_
      refine lv_iconst hx hb hZ_d31 (v := (-1)) (by decide) ?_
      have ecm1 : ((-1) : Int32).toInt = (-1) := by decide
      refine lv_icmp_eq hx hb hZ_d32 (tgt := 40) (by decide) (fun q32 => ?_) (fun q32 => ?_)
      · have q32_ : r26.toInt = ((-1) : Int32).toInt := by rw [q32]
        refine lv_iload_n hx hb hZ_d40 rfl (lv_at hl 0 rfl) ?_
        refine lv_goto hx hb hZ_d41 (tgt := 50) (by decide) ?_
        exact y_ireturn B hI rfl rfl rfl List.mem_cons_self ⟨_, rfl, ⟨_, rfl, x_i32 _⟩⟩ (x_cs.mono B.2.2.2.2.2 (y_mon B hI)) (fun t' b' f' h1 h2 h3 h4 => by cases h1; cases h2.symm.trans hs0; cases z_uniq h4 hA0 h3 hcn; exact hA_bk) (Nat.le_refl _) (Nat.le_refl _) hZ_d50
      · have q32_ : ¬ r26.toInt = ((-1) : Int32).toInt := fun q => q32 (Int32.toInt_inj.mp q)
        refine lv_iload_n hx hb hZ_d35 rfl (lv_at hl 3 rfl) ?_
        refine lv_iconst hx hb hZ_d36 (v := 1) (by decide) ?_
        refine lv_icmp_ne hx hb hZ_d37 (tgt := 44) (by decide) (fun q37 => ?_) (fun q37 => ?_)
        · have q37_ : ¬ y.toInt = (1 : Int32).toInt := fun q => q37 (Int32.toInt_inj.mp q)
          refine lv_aload_n hx hb hZ_d44 rfl (lv_at hl 1 rfl) ?_
          refine lv_iload_n hx hb hZ_d45 rfl (lv_at hl 0 rfl) ?_
          refine lv_iconst hx hb hZ_d46 (v := 1) (by decide) ?_
          refine y_call (z := (0, 250, 3, some 17, xM199)) (av := [.ref this, .int r26, .int (1 : Int32)]) (rest := []) (y_cok.of (x_cokV (n := 2) (ci := 12) X xm199 rfl rfl rfl (x_cons (x_bw80 9 rfl rfl) (x_cons (x_bw80 11 rfl rfl) (x_cons (x_at 54 (by decide +kernel) rfl) (x_cons (x_bw0 9 rfl rfl) x_nilm)))) (x_bw80 12 rfl rfl) (by decide +kernel) ⟨Nat.le_of_ble_eq_true rfl, Nat.le_of_ble_eq_true rfl⟩)) hY0 hI rfl hZ_d47 hl.1 (Nat.le_of_ble_eq_true rfl) (Nat.le_of_ble_eq_true rfl) (Nat.le_of_ble_eq_true rfl) (y_cons (y_cref hY_this rfl) (y_cons ⟨_, rfl, x_i32 _⟩ (y_cons ⟨_, rfl, by show (0 : Int) ≤ _; omega, by show _ ≤ (1 : Int); omega⟩ y_nil))) rfl (y_recv rfl hY_this) trivial (y_sub_ef rfl) fun v Yn o Hn L ho hr ha hIn hx_ hE hP => ?_
          replace hs_bk := y_Efld hE hY_this rfl (by decide) (by decide) hs_bk
          replace hA_bk := hA_bk.kept (y_Earr hE hY_bk rfl (by decide))
          replace hY_this := y_ext hx_ hI.1 hY_this
          replace hY_bk := y_ext hx_ hI.1 hY_bk
          obtain ⟨r47, rfl, h_r47⟩ := y_ansI (lo := (-2147483648)) (hi := 2147483647) (by decide) ho hr
          clear ho hr ha hE hP hI hx_
          rename x_I _ _ _ _ _ _ _ _ _ _ => hI
          exact y_ireturn B hI rfl rfl rfl List.mem_cons_self ⟨_, rfl, ⟨_, rfl, x_i32 _⟩⟩ (x_cs.mono B.2.2.2.2.2 (y_mon B hI)) (fun t' b' f' h1 h2 h3 h4 => by cases h1; cases h2.symm.trans hs0; cases z_uniq h4 hA0 h3 hcn; exact hA_bk) (Nat.le_refl _) (Nat.le_refl _) hZ_d50
        · have q37_ : y.toInt = (1 : Int32).toInt := by rw [q37]
          refine lv_iload_n hx hb hZ_d40 rfl (lv_at hl 0 rfl) ?_
          refine lv_goto hx hb hZ_d41 (tgt := 50) (by decide) ?_
          exact y_ireturn B hI rfl rfl rfl List.mem_cons_self ⟨_, rfl, ⟨_, rfl, x_i32 _⟩⟩ (x_cs.mono B.2.2.2.2.2 (y_mon B hI)) (fun t' b' f' h1 h2 h3 h4 => by cases h1; cases h2.symm.trans hs0; cases z_uniq h4 hA0 h3 hcn; exact hA_bk) (Nat.le_refl _) (Nat.le_refl _) hZ_d50
    · have q15_ : r12.toInt = (0 : Int32).toInt := by rw [q15]
      refine lv_aload_n hx hb hZ_d18 rfl (lv_at hl 0 rfl) ?_
      refine y_call (z := (0, 102, 1, some 17, xM143)) (av := [.ref this]) (rest := []) (y_cokV (n := 0) (ci := 12) X ym_bad rfl rfl rfl (x_cons (x_bw68 3 rfl rfl) (x_cons (x_bw68 5 rfl rfl) (x_cons (x_at 32 (by decide +kernel) rfl) (x_cons (x_bw0 9 rfl rfl) x_nilm)))) (x_bw68 6 rfl rfl) (by decide +kernel) ⟨Nat.le_of_ble_eq_true rfl, Nat.le_of_ble_eq_true rfl⟩) hY0 hI rfl hZ_d19 hl.1 (Nat.le_of_ble_eq_true rfl) (Nat.le_of_ble_eq_true rfl) (Nat.le_of_ble_eq_true rfl) (y_cons (y_cref hY_this rfl) y_nil) rfl (y_recv rfl hY_this) trivial (y_sub_ef rfl) fun v Yn o Hn L ho hr ha hIn hx_ hE hP => ?_
      replace hs_bk := y_Efld hE hY_this rfl (by decide) (by decide) hs_bk
      replace hA_bk := hA_bk.kept (y_Earr hE hY_bk rfl (by decide))
      replace hY_this := y_ext hx_ hI.1 hY_this
      replace hY_bk := y_ext hx_ hI.1 hY_bk
      have hPb := hP
      obtain rfl := hPb
      clear ho hr ha hE hP hI hx_
      rename x_I _ _ _ _ _ _ _ _ _ _ => hI
      exact y_ireturn B hI rfl rfl rfl List.mem_cons_self ⟨_, rfl, ⟨_, rfl, x_i32 _⟩⟩ (x_cs.mono B.2.2.2.2.2 (y_mon B hI)) (fun t' b' f' h1 h2 h3 h4 => by cases h1; cases h2.symm.trans hs0; cases z_uniq h4 hA0 h3 hcn; exact hA_bk) (Nat.le_refl _) (Nat.le_refl _) hZ_d22
theorem oZ_d0 : decode xM203.2.1 0 = .ok (.aload_n 0, 1) := dz_ok (by decide +kernel)
theorem oZ_d1 : decode xM203.2.1 1 = .ok (.iload_n 1, 1) := dz_ok (by decide +kernel)
theorem oZ_d2 : decode xM203.2.1 2 = .ok (.invokevirtual 151, 3) := dz_ok (by decide +kernel)
theorem oZ_d5 : decode xM203.2.1 5 = .ok (.ifCond .ne 8, 3) := dz_ok (by decide +kernel)
theorem oZ_d8 : decode xM203.2.1 8 = .ok (.aload_n 0, 1) := dz_ok (by decide +kernel)
theorem oZ_d9 : decode xM203.2.1 9 = .ok (.invokevirtual 102, 3) := dz_ok (by decide +kernel)
theorem oZ_d12 : decode xM203.2.1 12 = .ok (.ireturn, 1) := dz_ok (by decide +kernel)
theorem oZ_d13 : decode xM203.2.1 13 = .ok (.aload_n 0, 1) := dz_ok (by decide +kernel)
theorem oZ_d14 : decode xM203.2.1 14 = .ok (.iload_n 1, 1) := dz_ok (by decide +kernel)
theorem oZ_d15 : decode xM203.2.1 15 = .ok (.iconst 2, 1) := dz_ok (by decide +kernel)
theorem oZ_d16 : decode xM203.2.1 16 = .ok (.invokevirtual 99, 3) := dz_ok (by decide +kernel)
theorem oZ_d19 : decode xM203.2.1 19 = .ok (.istore_n 2, 1) := dz_ok (by decide +kernel)
theorem oZ_d20 : decode xM203.2.1 20 = .ok (.iconst (-1), 1) := dz_ok (by decide +kernel)
theorem oZ_d21 : decode xM203.2.1 21 = .ok (.istore_n 3, 1) := dz_ok (by decide +kernel)
theorem oZ_d22 : decode xM203.2.1 22 = .ok (.iconst 0, 1) := dz_ok (by decide +kernel)
theorem oZ_d23 : decode xM203.2.1 23 = .ok (.istore 4, 2) := dz_ok (by decide +kernel)
theorem oZ_d25 : decode xM203.2.1 25 = .ok (.iload 4, 2) := dz_ok (by decide +kernel)
theorem oZ_d27 : decode xM203.2.1 27 = .ok (.bipush 100, 2) := dz_ok (by decide +kernel)
theorem oZ_d29 : decode xM203.2.1 29 = .ok (.if_icmp .ge 104, 3) := dz_ok (by decide +kernel)
theorem oZ_d32 : decode xM203.2.1 32 = .ok (.iload_n 3, 1) := dz_ok (by decide +kernel)
theorem oZ_d33 : decode xM203.2.1 33 = .ok (.iconst (-1), 1) := dz_ok (by decide +kernel)
theorem oZ_d34 : decode xM203.2.1 34 = .ok (.if_icmp .ne 99, 3) := dz_ok (by decide +kernel)
theorem oZ_d37 : decode xM203.2.1 37 = .ok (.aload_n 0, 1) := dz_ok (by decide +kernel)
theorem oZ_d38 : decode xM203.2.1 38 = .ok (.getfield 7, 3) := dz_ok (by decide +kernel)
theorem oZ_d41 : decode xM203.2.1 41 = .ok (.bipush 10, 2) := dz_ok (by decide +kernel)
theorem oZ_d43 : decode xM203.2.1 43 = .ok (.iconst 5, 1) := dz_ok (by decide +kernel)
theorem oZ_d44 : decode xM203.2.1 44 = .ok (.iload_n 1, 1) := dz_ok (by decide +kernel)
theorem oZ_d45 : decode xM203.2.1 45 = .ok (.imul, 1) := dz_ok (by decide +kernel)
theorem oZ_d46 : decode xM203.2.1 46 = .ok (.iadd, 1) := dz_ok (by decide +kernel)
theorem oZ_d47 : decode xM203.2.1 47 = .ok (.iconst 2, 1) := dz_ok (by decide +kernel)
theorem oZ_d48 : decode xM203.2.1 48 = .ok (.iadd, 1) := dz_ok (by decide +kernel)
theorem oZ_d49 : decode xM203.2.1 49 = .ok (.iload 4, 2) := dz_ok (by decide +kernel)
theorem oZ_d51 : decode xM203.2.1 51 = .ok (.iastore, 1) := dz_ok (by decide +kernel)
theorem oZ_d52 : decode xM203.2.1 52 = .ok (.iconst 1, 1) := dz_ok (by decide +kernel)
theorem oZ_d53 : decode xM203.2.1 53 = .ok (.istore 5, 2) := dz_ok (by decide +kernel)
theorem oZ_d55 : decode xM203.2.1 55 = .ok (.iconst 0, 1) := dz_ok (by decide +kernel)
theorem oZ_d56 : decode xM203.2.1 56 = .ok (.istore 6, 2) := dz_ok (by decide +kernel)
theorem oZ_d58 : decode xM203.2.1 58 = .ok (.iload 6, 2) := dz_ok (by decide +kernel)
theorem oZ_d60 : decode xM203.2.1 60 = .ok (.aload_n 0, 1) := dz_ok (by decide +kernel)
theorem oZ_d61 : decode xM203.2.1 61 = .ok (.getfield 7, 3) := dz_ok (by decide +kernel)
theorem oZ_d64 : decode xM203.2.1 64 = .ok (.iconst 0, 1) := dz_ok (by decide +kernel)
theorem oZ_d65 : decode xM203.2.1 65 = .ok (.iaload, 1) := dz_ok (by decide +kernel)
theorem oZ_d66 : decode xM203.2.1 66 = .ok (.if_icmp .ge 49, 3) := dz_ok (by decide +kernel)
theorem oZ_d69 : decode xM203.2.1 69 = .ok (.iload 5, 2) := dz_ok (by decide +kernel)
theorem oZ_d71 : decode xM203.2.1 71 = .ok (.ifCond .eq 44, 3) := dz_ok (by decide +kernel)
theorem oZ_d74 : decode xM203.2.1 74 = .ok (.iload 6, 2) := dz_ok (by decide +kernel)
theorem oZ_d76 : decode xM203.2.1 76 = .ok (.iload_n 1, 1) := dz_ok (by decide +kernel)
theorem oZ_d77 : decode xM203.2.1 77 = .ok (.if_icmp .eq 25, 3) := dz_ok (by decide +kernel)
theorem oZ_d80 : decode xM203.2.1 80 = .ok (.aload_n 0, 1) := dz_ok (by decide +kernel)
theorem oZ_d81 : decode xM203.2.1 81 = .ok (.iload_n 1, 1) := dz_ok (by decide +kernel)
theorem oZ_d82 : decode xM203.2.1 82 = .ok (.iload 6, 2) := dz_ok (by decide +kernel)
theorem oZ_d84 : decode xM203.2.1 84 = .ok (.aload_n 0, 1) := dz_ok (by decide +kernel)
theorem oZ_d85 : decode xM203.2.1 85 = .ok (.getfield 7, 3) := dz_ok (by decide +kernel)
theorem oZ_d88 : decode xM203.2.1 88 = .ok (.iconst 4, 1) := dz_ok (by decide +kernel)
theorem oZ_d89 : decode xM203.2.1 89 = .ok (.iaload, 1) := dz_ok (by decide +kernel)
theorem oZ_d90 : decode xM203.2.1 90 = .ok (.aload_n 0, 1) := dz_ok (by decide +kernel)
theorem oZ_d91 : decode xM203.2.1 91 = .ok (.getfield 7, 3) := dz_ok (by decide +kernel)
theorem oZ_d94 : decode xM203.2.1 94 = .ok (.iconst 5, 1) := dz_ok (by decide +kernel)
theorem oZ_d95 : decode xM203.2.1 95 = .ok (.iaload, 1) := dz_ok (by decide +kernel)
theorem oZ_d96 : decode xM203.2.1 96 = .ok (.invokevirtual 140, 3) := dz_ok (by decide +kernel)
theorem oZ_d99 : decode xM203.2.1 99 = .ok (.ifCond .eq 7, 3) := dz_ok (by decide +kernel)
theorem oZ_d102 : decode xM203.2.1 102 = .ok (.iconst 1, 1) := dz_ok (by decide +kernel)
theorem oZ_d103 : decode xM203.2.1 103 = .ok (.goto 4, 3) := dz_ok (by decide +kernel)
theorem oZ_d106 : decode xM203.2.1 106 = .ok (.iconst 0, 1) := dz_ok (by decide +kernel)
theorem oZ_d107 : decode xM203.2.1 107 = .ok (.istore 5, 2) := dz_ok (by decide +kernel)
theorem oZ_d109 : decode xM203.2.1 109 = .ok (.iinc 6 1, 3) := dz_ok (by decide +kernel)
theorem oZ_d112 : decode xM203.2.1 112 = .ok (.goto (-54), 3) := dz_ok (by decide +kernel)
theorem oZ_d115 : decode xM203.2.1 115 = .ok (.iload 5, 2) := dz_ok (by decide +kernel)
theorem oZ_d117 : decode xM203.2.1 117 = .ok (.ifCond .eq 8, 3) := dz_ok (by decide +kernel)
theorem oZ_d120 : decode xM203.2.1 120 = .ok (.iload 4, 2) := dz_ok (by decide +kernel)
theorem oZ_d122 : decode xM203.2.1 122 = .ok (.goto 4, 3) := dz_ok (by decide +kernel)
theorem oZ_d125 : decode xM203.2.1 125 = .ok (.iconst (-1), 1) := dz_ok (by decide +kernel)
theorem oZ_d126 : decode xM203.2.1 126 = .ok (.istore_n 3, 1) := dz_ok (by decide +kernel)
theorem oZ_d127 : decode xM203.2.1 127 = .ok (.iinc 4 1, 3) := dz_ok (by decide +kernel)
theorem oZ_d130 : decode xM203.2.1 130 = .ok (.goto (-105), 3) := dz_ok (by decide +kernel)
theorem oZ_d133 : decode xM203.2.1 133 = .ok (.aload_n 0, 1) := dz_ok (by decide +kernel)
theorem oZ_d134 : decode xM203.2.1 134 = .ok (.getfield 7, 3) := dz_ok (by decide +kernel)
theorem oZ_d137 : decode xM203.2.1 137 = .ok (.bipush 10, 2) := dz_ok (by decide +kernel)
theorem oZ_d139 : decode xM203.2.1 139 = .ok (.iconst 5, 1) := dz_ok (by decide +kernel)
theorem oZ_d140 : decode xM203.2.1 140 = .ok (.iload_n 1, 1) := dz_ok (by decide +kernel)
theorem oZ_d141 : decode xM203.2.1 141 = .ok (.imul, 1) := dz_ok (by decide +kernel)
theorem oZ_d142 : decode xM203.2.1 142 = .ok (.iadd, 1) := dz_ok (by decide +kernel)
theorem oZ_d143 : decode xM203.2.1 143 = .ok (.iconst 2, 1) := dz_ok (by decide +kernel)
theorem oZ_d144 : decode xM203.2.1 144 = .ok (.iadd, 1) := dz_ok (by decide +kernel)
theorem oZ_d145 : decode xM203.2.1 145 = .ok (.iload_n 2, 1) := dz_ok (by decide +kernel)
theorem oZ_d146 : decode xM203.2.1 146 = .ok (.iastore, 1) := dz_ok (by decide +kernel)
theorem oZ_d147 : decode xM203.2.1 147 = .ok (.iload_n 3, 1) := dz_ok (by decide +kernel)
theorem oZ_d148 : decode xM203.2.1 148 = .ok (.ireturn, 1) := dz_ok (by decide +kernel)
theorem oZ_L58 {p : Program} {l : Launch} {e : Env} {s : State} {m : MethodId} {below : List Frame} {meth : Method} {c : Code} {D : va_G} {U : State} {Y0 : xY} {av : List Value} (B : y_B vwCl x_Tb x_Nb xM203 p s m meth c D U Y0 av) {this bk : Nat} {h had : Int32} {fb : Nat → Int32} (hav : av = [.ref this, .int h]) (hs0 : x_sl D 12 0 this s.heap = some (.ref bk)) (hA0 : y_A bk 160 s.heap fb) (hcn : z_c fb) (hd0 : 0 ≤ (fb 0).toInt ∧ (fb 0).toInt ≤ 10) (hh : 0 ≤ h.toInt ∧ h.toInt ≤ 9) (hhad : fb (12 + 5 * h.toInt.toNat) = had) {ht fo wv : Int32} {fz : Nat → Int32} (hht : 0 ≤ ht.toInt ∧ ht.toInt < 100) (hfz : fz = y_up fb (12 + 5 * h.toInt.toNat) wv)
    (out25 : ∀ (H : Heap) (Y : xY) (locs : List Loc) (ls : Array Slot) (ht1 : Int32) (fo1 : Int32) (wv1 : Int32) (fz1 : Nat → Int32), x_I D x_G x_Zs U (x_efs xM203) Y0 s.heap Y H locs → Y this = some 17 → Y bk = some 46 → x_sl D 12 0 this H = some (.ref bk) → y_A bk 160 H fz1 → lv_has ls xM203.2.2.1 [(4, .int ht1), (3, .int fo1), (2, .int had), (0, .ref this), (1, .int h)] → (0 ≤ ht1.toInt ∧ ht1.toInt ≤ 100) → (fz1 = y_up fb (12 + 5 * h.toInt.toNat) wv1) → (ht1.toInt = ht.toInt + 1) → W p l e (x_rm xM203) s m av.toArray below meth c H locs 0 0 (y_QQ below D x_G x_Zs U xM203 z_Pbk av Y0 s) (F0 m 25 ls [])) :
    ∀ (n : Nat), ∀ (H : Heap) (Y : xY) (locs : List Loc) (ls : Array Slot) (b : Int32) (is : Int32), x_I D x_G x_Zs U (x_efs xM203) Y0 s.heap Y H locs → Y this = some 17 → Y bk = some 46 → x_sl D 12 0 this H = some (.ref bk) → y_A bk 160 H fz → lv_has ls xM203.2.2.1 [(6, .int b), (5, .int is), (4, .int ht), (3, .int fo), (2, .int had), (0, .ref this), (1, .int h)] → (0 ≤ b.toInt ∧ b.toInt ≤ (fb 0).toInt) → (0 ≤ is.toInt ∧ is.toInt ≤ 1) → (11 - b.toInt).toNat < n → W p l e (x_rm xM203) s m av.toArray below meth c H locs 0 0 (y_QQ below D x_G x_Zs U xM203 z_Pbk av Y0 s) (F0 m 58 ls []) := by
  have X := B.1
  have hx := X.1
  have hb := X.2.1
  have hY0 := B.2.2.2.2.1
  intro n
  induction n with
  | zero => intro _ _ _ _ _ _ _ _ _ _ _ _ _ _ h; exact absurd h (Nat.not_lt_zero _)
  | succ n ih =>
    intro H Y locs ls b is  hI hY_this hY_bk hs_bk hA_bk hl hb9 his hn
    refine lv_iload hx hb oZ_d58 (lv_at hl 0 rfl) ?_
    refine lv_aload_n hx hb oZ_d60 rfl (lv_at hl 5 rfl) ?_
    refine y_getf X (fl190 X.2.2.2.2.1) hI.1 hY_this rfl hs_bk oZ_d61 ?_
    refine lv_iconst hx hb oZ_d64 (v := 0) (by decide) ?_
    have ec0 : (0 : Int32).toInt = 0 := by decide
    refine y_iald X hI.1 hY_bk rfl hA_bk (by omega) (by show _ < (160 : Int); omega) oZ_d65 ?_
    obtain ⟨e65, hg_e65⟩ : ∃ e65 : Int32, fz (0 : Int32).toInt.toNat = e65 := ⟨_, rfl⟩
    rw [hg_e65]
    rw [z_i0] at hg_e65
    have h_e65 : e65.toInt = (fb 0).toInt := by rw [← hg_e65, hfz, y_up_ne (by omega)]
    refine lv_icmp_ge hx hb oZ_d66 (tgt := 115) (by decide) (fun q66 => ?_) (fun q66 => ?_)
    · have q66_ : e65.toInt ≤ b.toInt := x_le32.mp q66
      refine lv_iload hx hb oZ_d115 (lv_at hl 1 rfl) ?_
      refine lv_if_eq hx hb oZ_d117 (tgt := 125) (by decide) (fun q117 => ?_) (fun q117 => ?_)
      · have q117_ : is.toInt = (0 : Int32).toInt := by rw [q117]
        refine lv_iconst hx hb oZ_d125 (v := (-1)) (by decide) ?_
        have ecm1 : ((-1) : Int32).toInt = (-1) := by decide
        refine lv_istore_n hx hb oZ_d126 rfl hl (by decide) (lv' := [(3, .int ((-1) : Int32)), (6, .int b), (5, .int is), (4, .int ht), (2, .int had), (0, .ref this), (1, .int h)]) rfl fun ls hl => ?_
        obtain ⟨z127, hg_z127⟩ : ∃ z127 : Int32, ht + Int32.ofInt 1 = z127 := ⟨_, rfl⟩
        have h_z127 : z127.toInt = ht.toInt + 1 := by rw [← hg_z127]; exact y_inc (by decide) (by omega) (by omega)
        refine lv_iinc hx hb oZ_d127 hl (k := 3) rfl hg_z127 (by decide) (lv' := [(4, .int z127), (3, .int ((-1) : Int32)), (6, .int b), (5, .int is), (2, .int had), (0, .ref this), (1, .int h)]) rfl fun ls hl => ?_
        refine lv_goto hx hb oZ_d130 (tgt := 25) (by decide) ?_
        exact out25 _ _ _ _ _ _ _ _ hI hY_this hY_bk hs_bk hA_bk (lv_sub hl [0, 1, 4, 5, 6] rfl) ⟨by omega, by omega⟩ hfz (by first | assumption | omega)
      · have q117_ : ¬ is.toInt = (0 : Int32).toInt := fun q => q117 (Int32.toInt_inj.mp q)
        refine lv_iload hx hb oZ_d120 (lv_at hl 2 rfl) ?_
        refine lv_goto hx hb oZ_d122 (tgt := 126) (by decide) ?_
        refine lv_istore_n hx hb oZ_d126 rfl hl (by decide) (lv' := [(3, .int ht), (6, .int b), (5, .int is), (4, .int ht), (2, .int had), (0, .ref this), (1, .int h)]) rfl fun ls hl => ?_
        obtain ⟨z127, hg_z127⟩ : ∃ z127 : Int32, ht + Int32.ofInt 1 = z127 := ⟨_, rfl⟩
        have h_z127 : z127.toInt = ht.toInt + 1 := by rw [← hg_z127]; exact y_inc (by decide) (by omega) (by omega)
        refine lv_iinc hx hb oZ_d127 hl (k := 3) rfl hg_z127 (by decide) (lv' := [(4, .int z127), (3, .int ht), (6, .int b), (5, .int is), (2, .int had), (0, .ref this), (1, .int h)]) rfl fun ls hl => ?_
        refine lv_goto hx hb oZ_d130 (tgt := 25) (by decide) ?_
        exact out25 _ _ _ _ _ _ _ _ hI hY_this hY_bk hs_bk hA_bk (lv_sub hl [0, 1, 4, 5, 6] rfl) ⟨by omega, by omega⟩ hfz (by first | assumption | omega)
    · have q66_ : b.toInt < e65.toInt := Int.not_le.mp fun q => q66 (x_le32.mpr q)
      refine lv_iload hx hb oZ_d69 (lv_at hl 1 rfl) ?_
      refine lv_if_eq hx hb oZ_d71 (tgt := 115) (by decide) (fun q71 => ?_) (fun q71 => ?_)
      · have q71_ : is.toInt = (0 : Int32).toInt := by rw [q71]
        refine lv_iload hx hb oZ_d115 (lv_at hl 1 rfl) ?_
        refine lv_if_eq hx hb oZ_d117 (tgt := 125) (by decide) (fun q117 => ?_) (fun q117 => ?_)
        · have q117_ : is.toInt = (0 : Int32).toInt := by rw [q117]
          refine lv_iconst hx hb oZ_d125 (v := (-1)) (by decide) ?_
          have ecm1 : ((-1) : Int32).toInt = (-1) := by decide
          refine lv_istore_n hx hb oZ_d126 rfl hl (by decide) (lv' := [(3, .int ((-1) : Int32)), (6, .int b), (5, .int is), (4, .int ht), (2, .int had), (0, .ref this), (1, .int h)]) rfl fun ls hl => ?_
          obtain ⟨z127, hg_z127⟩ : ∃ z127 : Int32, ht + Int32.ofInt 1 = z127 := ⟨_, rfl⟩
          have h_z127 : z127.toInt = ht.toInt + 1 := by rw [← hg_z127]; exact y_inc (by decide) (by omega) (by omega)
          refine lv_iinc hx hb oZ_d127 hl (k := 3) rfl hg_z127 (by decide) (lv' := [(4, .int z127), (3, .int ((-1) : Int32)), (6, .int b), (5, .int is), (2, .int had), (0, .ref this), (1, .int h)]) rfl fun ls hl => ?_
          refine lv_goto hx hb oZ_d130 (tgt := 25) (by decide) ?_
          exact out25 _ _ _ _ _ _ _ _ hI hY_this hY_bk hs_bk hA_bk (lv_sub hl [0, 1, 4, 5, 6] rfl) ⟨by omega, by omega⟩ hfz (by first | assumption | omega)
        · have q117_ : ¬ is.toInt = (0 : Int32).toInt := fun q => q117 (Int32.toInt_inj.mp q)
          refine lv_iload hx hb oZ_d120 (lv_at hl 2 rfl) ?_
          refine lv_goto hx hb oZ_d122 (tgt := 126) (by decide) ?_
          refine lv_istore_n hx hb oZ_d126 rfl hl (by decide) (lv' := [(3, .int ht), (6, .int b), (5, .int is), (4, .int ht), (2, .int had), (0, .ref this), (1, .int h)]) rfl fun ls hl => ?_
          obtain ⟨z127, hg_z127⟩ : ∃ z127 : Int32, ht + Int32.ofInt 1 = z127 := ⟨_, rfl⟩
          have h_z127 : z127.toInt = ht.toInt + 1 := by rw [← hg_z127]; exact y_inc (by decide) (by omega) (by omega)
          refine lv_iinc hx hb oZ_d127 hl (k := 3) rfl hg_z127 (by decide) (lv' := [(4, .int z127), (3, .int ht), (6, .int b), (5, .int is), (2, .int had), (0, .ref this), (1, .int h)]) rfl fun ls hl => ?_
          refine lv_goto hx hb oZ_d130 (tgt := 25) (by decide) ?_
          exact out25 _ _ _ _ _ _ _ _ hI hY_this hY_bk hs_bk hA_bk (lv_sub hl [0, 1, 4, 5, 6] rfl) ⟨by omega, by omega⟩ hfz (by first | assumption | omega)
      · have q71_ : ¬ is.toInt = (0 : Int32).toInt := fun q => q71 (Int32.toInt_inj.mp q)
        refine lv_iload hx hb oZ_d74 (lv_at hl 0 rfl) ?_
        refine lv_iload_n hx hb oZ_d76 rfl (lv_at hl 6 rfl) ?_
        refine lv_icmp_eq hx hb oZ_d77 (tgt := 102) (by decide) (fun q77 => ?_) (fun q77 => ?_)
        · have q77_ : b.toInt = h.toInt := by rw [q77]
          refine lv_iconst hx hb oZ_d102 (v := 1) (by decide) ?_
          have ec1 : (1 : Int32).toInt = 1 := by decide
          refine lv_goto hx hb oZ_d103 (tgt := 107) (by decide) ?_
          refine lv_istore hx hb oZ_d107 hl (by decide) (lv' := [(5, .int (1 : Int32)), (6, .int b), (4, .int ht), (3, .int fo), (2, .int had), (0, .ref this), (1, .int h)]) rfl fun ls hl => ?_
          obtain ⟨z109, hg_z109⟩ : ∃ z109 : Int32, b + Int32.ofInt 1 = z109 := ⟨_, rfl⟩
          have h_z109 : z109.toInt = b.toInt + 1 := by rw [← hg_z109]; exact y_inc (by decide) (by omega) (by omega)
          refine lv_iinc hx hb oZ_d109 hl (k := 1) rfl hg_z109 (by decide) (lv' := [(6, .int z109), (5, .int (1 : Int32)), (4, .int ht), (3, .int fo), (2, .int had), (0, .ref this), (1, .int h)]) rfl fun ls hl => ?_
          refine lv_goto hx hb oZ_d112 (tgt := 58) (by decide) ?_
          exact ih _ _ _ _ _ _ hI hY_this hY_bk hs_bk hA_bk (lv_sub hl [0, 1, 2, 3, 4, 5, 6] rfl) (by first | assumption | omega) (by first | assumption | omega) (by omega)
        · have q77_ : ¬ b.toInt = h.toInt := fun q => q77 (Int32.toInt_inj.mp q)
          refine lv_aload_n hx hb oZ_d80 rfl (lv_at hl 5 rfl) ?_
          refine lv_iload_n hx hb oZ_d81 rfl (lv_at hl 6 rfl) ?_
          refine lv_iload hx hb oZ_d82 (lv_at hl 0 rfl) ?_
          refine lv_aload_n hx hb oZ_d84 rfl (lv_at hl 5 rfl) ?_
          refine y_getf X (fl190 X.2.2.2.2.1) hI.1 hY_this rfl hs_bk oZ_d85 ?_
          refine lv_iconst hx hb oZ_d88 (v := 4) (by decide) ?_
          have ec4 : (4 : Int32).toInt = 4 := by decide
          refine y_iald X hI.1 hY_bk rfl hA_bk (by omega) (by show _ < (160 : Int); omega) oZ_d89 ?_
          obtain ⟨e89, hg_e89⟩ : ∃ e89 : Int32, fz (4 : Int32).toInt.toNat = e89 := ⟨_, rfl⟩
          rw [hg_e89]
          refine lv_aload_n hx hb oZ_d90 rfl (lv_at hl 5 rfl) ?_
          refine y_getf X (fl190 X.2.2.2.2.1) hI.1 hY_this rfl hs_bk oZ_d91 ?_
          refine lv_iconst hx hb oZ_d94 (v := 5) (by decide) ?_
          have ec5 : (5 : Int32).toInt = 5 := by decide
          refine y_iald X hI.1 hY_bk rfl hA_bk (by omega) (by show _ < (160 : Int); omega) oZ_d95 ?_
          obtain ⟨e95, hg_e95⟩ : ∃ e95 : Int32, fz (5 : Int32).toInt.toNat = e95 := ⟨_, rfl⟩
          rw [hg_e95]
          refine y_call (z := (0, 140, 5, some 17, xM173)) (av := [.ref this, .int h, .int b, .int e89, .int e95]) (rest := []) (y_cok.of (x_cokV (n := 4) (ci := 12) X xm173 rfl rfl rfl (x_cons (x_bw72 6 rfl rfl) (x_cons (x_bw72 8 rfl rfl) (x_cons (x_at 41 (by decide +kernel) rfl) (x_cons (x_bw0 9 rfl rfl) x_nilm)))) (x_bw72 9 rfl rfl) (by decide +kernel) ⟨Nat.le_of_ble_eq_true rfl, Nat.le_of_ble_eq_true rfl⟩)) hY0 hI rfl oZ_d96 hl.1 (Nat.le_of_ble_eq_true rfl) (Nat.le_of_ble_eq_true rfl) (Nat.le_of_ble_eq_true rfl) (y_cons (y_cref hY_this rfl) (y_cons ⟨_, rfl, by show (0 : Int) ≤ _; omega, by show _ ≤ (9 : Int); omega⟩ (y_cons ⟨_, rfl, by show (0 : Int) ≤ _; omega, by show _ ≤ (9 : Int); omega⟩ (y_cons ⟨_, rfl, x_i32 _⟩ (y_cons ⟨_, rfl, x_i32 _⟩ y_nil))))) rfl (y_recv rfl hY_this) trivial (y_sub_ef rfl) fun v Yn o Hn L ho hr ha hIn hx_ hE hP => ?_
          replace hs_bk := y_Efld hE hY_this rfl (by decide) (by decide) hs_bk
          replace hA_bk := hA_bk.kept (y_Earr hE hY_bk rfl (by decide))
          replace hY_this := y_ext hx_ hI.1 hY_this
          replace hY_bk := y_ext hx_ hI.1 hY_bk
          obtain ⟨r96, rfl, h_r96⟩ := y_ansI (lo := 0) (hi := 1) (by decide) ho hr
          clear ho hr ha hE hP hI hx_
          rename x_I _ _ _ _ _ _ _ _ _ _ => hI
          refine lv_if_eq hx hb oZ_d99 (tgt := 106) (by decide) (fun q99 => ?_) (fun q99 => ?_)
          · have q99_ : r96.toInt = (0 : Int32).toInt := by rw [q99]
            refine lv_iconst hx hb oZ_d106 (v := 0) (by decide) ?_
            refine lv_istore hx hb oZ_d107 hl (by decide) (lv' := [(5, .int (0 : Int32)), (6, .int b), (4, .int ht), (3, .int fo), (2, .int had), (0, .ref this), (1, .int h)]) rfl fun ls hl => ?_
            obtain ⟨z109, hg_z109⟩ : ∃ z109 : Int32, b + Int32.ofInt 1 = z109 := ⟨_, rfl⟩
            have h_z109 : z109.toInt = b.toInt + 1 := by rw [← hg_z109]; exact y_inc (by decide) (by omega) (by omega)
            refine lv_iinc hx hb oZ_d109 hl (k := 1) rfl hg_z109 (by decide) (lv' := [(6, .int z109), (5, .int (0 : Int32)), (4, .int ht), (3, .int fo), (2, .int had), (0, .ref this), (1, .int h)]) rfl fun ls hl => ?_
            refine lv_goto hx hb oZ_d112 (tgt := 58) (by decide) ?_
            exact ih _ _ _ _ _ _ hI hY_this hY_bk hs_bk hA_bk (lv_sub hl [0, 1, 2, 3, 4, 5, 6] rfl) (by first | assumption | omega) (by first | assumption | omega) (by omega)
          · have q99_ : ¬ r96.toInt = (0 : Int32).toInt := fun q => q99 (Int32.toInt_inj.mp q)
            refine lv_iconst hx hb oZ_d102 (v := 1) (by decide) ?_
            have ec1 : (1 : Int32).toInt = 1 := by decide
            refine lv_goto hx hb oZ_d103 (tgt := 107) (by decide) ?_
            refine lv_istore hx hb oZ_d107 hl (by decide) (lv' := [(5, .int (1 : Int32)), (6, .int b), (4, .int ht), (3, .int fo), (2, .int had), (0, .ref this), (1, .int h)]) rfl fun ls hl => ?_
            obtain ⟨z109, hg_z109⟩ : ∃ z109 : Int32, b + Int32.ofInt 1 = z109 := ⟨_, rfl⟩
            have h_z109 : z109.toInt = b.toInt + 1 := by rw [← hg_z109]; exact y_inc (by decide) (by omega) (by omega)
            refine lv_iinc hx hb oZ_d109 hl (k := 1) rfl hg_z109 (by decide) (lv' := [(6, .int z109), (5, .int (1 : Int32)), (4, .int ht), (3, .int fo), (2, .int had), (0, .ref this), (1, .int h)]) rfl fun ls hl => ?_
            refine lv_goto hx hb oZ_d112 (tgt := 58) (by decide) ?_
            exact ih _ _ _ _ _ _ hI hY_this hY_bk hs_bk hA_bk (lv_sub hl [0, 1, 2, 3, 4, 5, 6] rfl) (by first | assumption | omega) (by first | assumption | omega) (by omega)
theorem oZ_L25 {p : Program} {l : Launch} {e : Env} {s : State} {m : MethodId} {below : List Frame} {meth : Method} {c : Code} {D : va_G} {U : State} {Y0 : xY} {av : List Value} (B : y_B vwCl x_Tb x_Nb xM203 p s m meth c D U Y0 av) {this bk : Nat} {h had : Int32} {fb : Nat → Int32} (hav : av = [.ref this, .int h]) (hs0 : x_sl D 12 0 this s.heap = some (.ref bk)) (hA0 : y_A bk 160 s.heap fb) (hcn : z_c fb) (hd0 : 0 ≤ (fb 0).toInt ∧ (fb 0).toInt ≤ 10) (hh : 0 ≤ h.toInt ∧ h.toInt ≤ 9) (hhad : fb (12 + 5 * h.toInt.toNat) = had)  :
    ∀ (n : Nat), ∀ (H : Heap) (Y : xY) (locs : List Loc) (ls : Array Slot) (ht : Int32) (fo : Int32) (wv : Int32) (fz : Nat → Int32), x_I D x_G x_Zs U (x_efs xM203) Y0 s.heap Y H locs → Y this = some 17 → Y bk = some 46 → x_sl D 12 0 this H = some (.ref bk) → y_A bk 160 H fz → lv_has ls xM203.2.2.1 [(4, .int ht), (3, .int fo), (2, .int had), (0, .ref this), (1, .int h)] → (0 ≤ ht.toInt ∧ ht.toInt ≤ 100) → (fz = y_up fb (12 + 5 * h.toInt.toNat) wv) → (101 - ht.toInt).toNat < n → W p l e (x_rm xM203) s m av.toArray below meth c H locs 0 0 (y_QQ below D x_G x_Zs U xM203 z_Pbk av Y0 s) (F0 m 25 ls []) := by
  have X := B.1
  have hx := X.1
  have hb := X.2.1
  have hY0 := B.2.2.2.2.1
  intro n
  induction n with
  | zero => intro _ _ _ _ _ _ _ _ _ _ _ _ _ _ _ _ h; exact absurd h (Nat.not_lt_zero _)
  | succ n ih =>
    intro H Y locs ls ht fo wv fz hI hY_this hY_bk hs_bk hA_bk hl hht hfz hn
    refine lv_iload hx hb oZ_d25 (lv_at hl 0 rfl) ?_
    refine lv_bipush hx hb oZ_d27 (v := 100) (by decide) ?_
    have ec100 : (100 : Int32).toInt = 100 := by decide
    refine lv_icmp_ge hx hb oZ_d29 (tgt := 133) (by decide) (fun q29 => ?_) (fun q29 => ?_)
    · have q29_ : (100 : Int32).toInt ≤ ht.toInt := x_le32.mp q29
      refine lv_aload_n hx hb oZ_d133 rfl (lv_at hl 3 rfl) ?_
      refine y_getf X (fl190 X.2.2.2.2.1) hI.1 hY_this rfl hs_bk oZ_d134 ?_
      refine lv_bipush hx hb oZ_d137 (v := 10) (by decide) ?_
      have ec10 : (10 : Int32).toInt = 10 := by decide
      refine lv_iconst hx hb oZ_d139 (v := 5) (by decide) ?_
      have ec5 : (5 : Int32).toInt = 5 := by decide
      refine lv_iload_n hx hb oZ_d140 rfl (lv_at hl 4 rfl) ?_
      refine lv_imul hx hb oZ_d141 ?_
      generalize hg_z141 : (5 : Int32) * h = z141
      have h_z141 : z141.toInt = 5 * h.toInt := by rw [← hg_z141]; have := y_mul (x := (5 : Int32)) (y := h) (by rw [ec5]; omega) (by rw [ec5]; omega); rw [ec5] at this; exact this
      refine lv_iadd hx hb oZ_d142 ?_
      generalize hg_z142 : (10 : Int32) + z141 = z142
      have h_z142 : z142.toInt = 10 + z141.toInt := by rw [← hg_z142]; have := y_add (x := (10 : Int32)) (y := z141) (by rw [ec10]; omega) (by rw [ec10]; omega); rw [ec10] at this; exact this
      refine lv_iconst hx hb oZ_d143 (v := 2) (by decide) ?_
      have ec2 : (2 : Int32).toInt = 2 := by decide
      refine lv_iadd hx hb oZ_d144 ?_
      generalize hg_z144 : z142 + (2 : Int32) = z144
      have h_z144 : z144.toInt = z142.toInt + 2 := by rw [← hg_z144]; have := y_add (x := z142) (y := (2 : Int32)) (by rw [ec2]; omega) (by rw [ec2]; omega); rw [ec2] at this; exact this
      refine lv_iload_n hx hb oZ_d145 rfl (lv_at hl 2 rfl) ?_
      refine y_iast X hY0 hI hY_bk rfl hA_bk (by omega) (by show _ < (160 : Int); omega) (by rw [z_get3 (by omega)]; exact ⟨_, rfl, x_i32 _⟩) (by decide +kernel) oZ_d146 fun H locs hI h_new ho => ?_
      replace hA_bk := h_new
      generalize hf_f146 : y_up fz z144.toInt.toNat had = f146 at hA_bk
      replace hs_bk := y_slk hs_bk (ho _ (y_ne hY_this hY_bk rfl))
      refine lv_iload_n hx hb oZ_d147 rfl (lv_at hl 1 rfl) ?_
      have hfe : f146 = fb := by rw [← hf_f146, hfz, show z144.toInt.toNat = 12 + 5 * h.toInt.toNat by omega, y_up_up, ← hhad]; exact y_up_self
      rw [hfe] at hA_bk
      subst hav
      exact y_ireturn B hI rfl rfl rfl List.mem_cons_self ⟨_, rfl, ⟨_, rfl, x_i32 _⟩⟩ (x_cs.mono B.2.2.2.2.2 (y_mon B hI)) (fun t' b' f' h1 h2 h3 h4 => by cases h1; cases h2.symm.trans hs0; cases z_uniq h4 hA0 h3 hcn; exact hA_bk) (Nat.le_refl _) (Nat.le_refl _) oZ_d148
    · have q29_ : ht.toInt < (100 : Int32).toInt := Int.not_le.mp fun q => q29 (x_le32.mpr q)
      refine lv_iload_n hx hb oZ_d32 rfl (lv_at hl 1 rfl) ?_
      refine lv_iconst hx hb oZ_d33 (v := (-1)) (by decide) ?_
      have ecm1 : ((-1) : Int32).toInt = (-1) := by decide
      refine lv_icmp_ne hx hb oZ_d34 (tgt := 133) (by decide) (fun q34 => ?_) (fun q34 => ?_)
      · have q34_ : ¬ fo.toInt = ((-1) : Int32).toInt := fun q => q34 (Int32.toInt_inj.mp q)
        refine lv_aload_n hx hb oZ_d133 rfl (lv_at hl 3 rfl) ?_
        refine y_getf X (fl190 X.2.2.2.2.1) hI.1 hY_this rfl hs_bk oZ_d134 ?_
        refine lv_bipush hx hb oZ_d137 (v := 10) (by decide) ?_
        have ec10 : (10 : Int32).toInt = 10 := by decide
        refine lv_iconst hx hb oZ_d139 (v := 5) (by decide) ?_
        have ec5 : (5 : Int32).toInt = 5 := by decide
        refine lv_iload_n hx hb oZ_d140 rfl (lv_at hl 4 rfl) ?_
        refine lv_imul hx hb oZ_d141 ?_
        generalize hg_z141 : (5 : Int32) * h = z141
        have h_z141 : z141.toInt = 5 * h.toInt := by rw [← hg_z141]; have := y_mul (x := (5 : Int32)) (y := h) (by rw [ec5]; omega) (by rw [ec5]; omega); rw [ec5] at this; exact this
        refine lv_iadd hx hb oZ_d142 ?_
        generalize hg_z142 : (10 : Int32) + z141 = z142
        have h_z142 : z142.toInt = 10 + z141.toInt := by rw [← hg_z142]; have := y_add (x := (10 : Int32)) (y := z141) (by rw [ec10]; omega) (by rw [ec10]; omega); rw [ec10] at this; exact this
        refine lv_iconst hx hb oZ_d143 (v := 2) (by decide) ?_
        have ec2 : (2 : Int32).toInt = 2 := by decide
        refine lv_iadd hx hb oZ_d144 ?_
        generalize hg_z144 : z142 + (2 : Int32) = z144
        have h_z144 : z144.toInt = z142.toInt + 2 := by rw [← hg_z144]; have := y_add (x := z142) (y := (2 : Int32)) (by rw [ec2]; omega) (by rw [ec2]; omega); rw [ec2] at this; exact this
        refine lv_iload_n hx hb oZ_d145 rfl (lv_at hl 2 rfl) ?_
        refine y_iast X hY0 hI hY_bk rfl hA_bk (by omega) (by show _ < (160 : Int); omega) (by rw [z_get3 (by omega)]; exact ⟨_, rfl, x_i32 _⟩) (by decide +kernel) oZ_d146 fun H locs hI h_new ho => ?_
        replace hA_bk := h_new
        generalize hf_f146 : y_up fz z144.toInt.toNat had = f146 at hA_bk
        replace hs_bk := y_slk hs_bk (ho _ (y_ne hY_this hY_bk rfl))
        refine lv_iload_n hx hb oZ_d147 rfl (lv_at hl 1 rfl) ?_
        have hfe : f146 = fb := by rw [← hf_f146, hfz, show z144.toInt.toNat = 12 + 5 * h.toInt.toNat by omega, y_up_up, ← hhad]; exact y_up_self
        rw [hfe] at hA_bk
        subst hav
        exact y_ireturn B hI rfl rfl rfl List.mem_cons_self ⟨_, rfl, ⟨_, rfl, x_i32 _⟩⟩ (x_cs.mono B.2.2.2.2.2 (y_mon B hI)) (fun t' b' f' h1 h2 h3 h4 => by cases h1; cases h2.symm.trans hs0; cases z_uniq h4 hA0 h3 hcn; exact hA_bk) (Nat.le_refl _) (Nat.le_refl _) oZ_d148
      · have q34_ : fo.toInt = ((-1) : Int32).toInt := by rw [q34]
        refine lv_aload_n hx hb oZ_d37 rfl (lv_at hl 3 rfl) ?_
        refine y_getf X (fl190 X.2.2.2.2.1) hI.1 hY_this rfl hs_bk oZ_d38 ?_
        refine lv_bipush hx hb oZ_d41 (v := 10) (by decide) ?_
        have ec10 : (10 : Int32).toInt = 10 := by decide
        refine lv_iconst hx hb oZ_d43 (v := 5) (by decide) ?_
        have ec5 : (5 : Int32).toInt = 5 := by decide
        refine lv_iload_n hx hb oZ_d44 rfl (lv_at hl 4 rfl) ?_
        refine lv_imul hx hb oZ_d45 ?_
        generalize hg_z45 : (5 : Int32) * h = z45
        have h_z45 : z45.toInt = 5 * h.toInt := by rw [← hg_z45]; have := y_mul (x := (5 : Int32)) (y := h) (by rw [ec5]; omega) (by rw [ec5]; omega); rw [ec5] at this; exact this
        refine lv_iadd hx hb oZ_d46 ?_
        generalize hg_z46 : (10 : Int32) + z45 = z46
        have h_z46 : z46.toInt = 10 + z45.toInt := by rw [← hg_z46]; have := y_add (x := (10 : Int32)) (y := z45) (by rw [ec10]; omega) (by rw [ec10]; omega); rw [ec10] at this; exact this
        refine lv_iconst hx hb oZ_d47 (v := 2) (by decide) ?_
        have ec2 : (2 : Int32).toInt = 2 := by decide
        refine lv_iadd hx hb oZ_d48 ?_
        generalize hg_z48 : z46 + (2 : Int32) = z48
        have h_z48 : z48.toInt = z46.toInt + 2 := by rw [← hg_z48]; have := y_add (x := z46) (y := (2 : Int32)) (by rw [ec2]; omega) (by rw [ec2]; omega); rw [ec2] at this; exact this
        refine lv_iload hx hb oZ_d49 (lv_at hl 0 rfl) ?_
        refine y_iast X hY0 hI hY_bk rfl hA_bk (by omega) (by show _ < (160 : Int); omega) (by rw [z_get3 (by omega)]; exact ⟨_, rfl, x_i32 _⟩) (by decide +kernel) oZ_d51 fun H locs hI h_new ho => ?_
        replace hA_bk := h_new
        generalize hf_f51 : y_up fz z48.toInt.toNat ht = f51 at hA_bk
        replace hs_bk := y_slk hs_bk (ho _ (y_ne hY_this hY_bk rfl))
        refine lv_iconst hx hb oZ_d52 (v := 1) (by decide) ?_
        have ec1 : (1 : Int32).toInt = 1 := by decide
        refine lv_istore hx hb oZ_d53 hl (by decide) (lv' := [(5, .int (1 : Int32)), (4, .int ht), (3, .int fo), (2, .int had), (0, .ref this), (1, .int h)]) rfl fun ls hl => ?_
        refine lv_iconst hx hb oZ_d55 (v := 0) (by decide) ?_
        have ec0 : (0 : Int32).toInt = 0 := by decide
        refine lv_istore hx hb oZ_d56 hl (by decide) (lv' := [(6, .int (0 : Int32)), (5, .int (1 : Int32)), (4, .int ht), (3, .int fo), (2, .int had), (0, .ref this), (1, .int h)]) rfl fun ls hl => ?_
        exact oZ_L58 B hav hs0 hA0 hcn hd0 hh hhad ⟨by omega, by omega⟩ (by rw [← hf_f51, hfz, show z48.toInt.toNat = 12 + 5 * h.toInt.toNat by omega]; exact y_up_up) (fun H Y locs ls ht1 fo1 wv1 fz1 hI hY_this hY_bk hs_bk hA_bk hl hht hfz hi1 => ih _ _ _ _ _ _ _ _ hI hY_this hY_bk hs_bk hA_bk hl hht hfz (by omega)) 12 _ _ _ _ _ _ hI hY_this hY_bk hs_bk hA_bk (lv_sub hl [0, 1, 2, 3, 4, 5, 6] rfl) (by first | assumption | omega) (by first | assumption | omega) (by omega)
theorem ym_towerX : y_Met vwCl x_G x_Zs x_Tb x_Nb xM203 y_T z_Pbk := by
  refine y_main (by decide +kernel) (by decide +kernel) x_Tb_good x_Nb_ok ?_
  intro p l e s m below meth c D U Y0 av ls B hI _ hl
  have X := B.1
  have hx := X.1
  have hb := X.2.1
  have hY0 := B.2.2.2.2.1
  obtain ⟨v0, v1, rfl, hv0, ⟨h, rfl, -⟩⟩ := x_two B.2.2.2.2.2
  obtain ⟨this, t0, rfl, ht0, hY_this⟩ := x_ref_at hv0 rfl
  obtain rfl := List.mem_singleton.mp ht0
  replace hl : lv_has ls xM203.2.2.1 [(0, .ref this), (1, .int h)] := hl
  obtain ⟨bk, hs_bk, hY_bk⟩ := y_fldR (k := 0) hI.1 hY_this rfl rfl
  obtain ⟨fb9, hA9, hB9⟩ := y_arr hI.1 hY_bk rfl rfl
  obtain ⟨fb, hcn, hA_bk, hB_bk⟩ := z_canon (Y := Y0) (P := fun j v => x_c Y0 ([xI 0 10, xI 0 8, xI 0 8].getD j xF) (.int v)) hA9 hB9
  clear hA9 hB9 fb9
  have hs0 := hs_bk
  have hA0 := hA_bk
  have hd := z_hdr hB_bk
  have hd0 := hd.1
  have hd1 := hd.2.1
  refine lv_aload_n hx hb oZ_d0 rfl (lv_at hl 0 rfl) ?_
  refine lv_iload_n hx hb oZ_d1 rfl (lv_at hl 1 rfl) ?_
  refine y_call (z := (0, 151, 2, some 17, xM171)) (av := [.ref this, .int h]) (rest := []) (y_cokV (n := 1) (ci := 12) X ym_isHillX rfl rfl rfl (x_cons (x_bw72 2 rfl rfl) (x_cons (x_bw72 4 rfl rfl) (x_cons (x_at 40 (by decide +kernel) rfl) (x_cons (x_bw0 9 rfl rfl) x_nilm)))) (x_bw72 5 rfl rfl) (by decide +kernel) ⟨Nat.le_of_ble_eq_true rfl, Nat.le_of_ble_eq_true rfl⟩) hY0 hI rfl oZ_d2 hl.1 (Nat.le_of_ble_eq_true rfl) (Nat.le_of_ble_eq_true rfl) (Nat.le_of_ble_eq_true rfl) (y_cons (y_cref hY_this rfl) (y_cons ⟨_, rfl, x_i32 _⟩ y_nil)) rfl (y_recv rfl hY_this) trivial (y_sub_ef rfl) fun v Yn o Hn L ho hr ha hIn hx_ hE hP => ?_
  have hPq := hP _ _ _ _ rfl hs_bk hcn hA_bk
  replace hs_bk := y_Efld hE hY_this rfl (by decide) (by decide) hs_bk
  replace hA_bk := hA_bk.kept (y_Earr hE hY_bk rfl (by decide))
  replace hY_this := y_ext hx_ hI.1 hY_this
  replace hY_bk := y_ext hx_ hI.1 hY_bk
  obtain ⟨r2, rfl, hin_r2, hout_r2⟩ := hPq
  clear ho hr ha hE hP hI hx_
  rename x_I _ _ _ _ _ _ _ _ _ _ => hI
  have ec0 : (0 : Int32).toInt = 0 := by decide
  refine lv_if_ne hx hb oZ_d5 (tgt := 13) (by decide) (fun q5 => ?_) (fun q5 => ?_)
  · have q5_ : ¬ r2.toInt = (0 : Int32).toInt := fun q => q5 (Int32.toInt_inj.mp q)
    have hw := hin_r2 (by assumption)
    unfold m_isH at hw
    refine lv_aload_n hx hb oZ_d13 rfl (lv_at hl 0 rfl) ?_
    refine lv_iload_n hx hb oZ_d14 rfl (lv_at hl 1 rfl) ?_
    refine lv_iconst hx hb oZ_d15 (v := 2) (by decide) ?_
    have ec2 : (2 : Int32).toInt = 2 := by decide
    refine y_call (z := (0, 99, 3, some 17, xM145)) (av := [.ref this, .int h, .int (2 : Int32)]) (rest := []) (y_cokV (n := 2) (ci := 12) X ym_ofHill rfl rfl rfl (x_cons (x_bw67 15 rfl rfl) (x_cons (x_bw68 1 rfl rfl) (x_cons (x_at 31 (by decide +kernel) rfl) (x_cons (x_bw0 9 rfl rfl) x_nilm)))) (x_bw68 2 rfl rfl) (by decide +kernel) ⟨Nat.le_of_ble_eq_true rfl, Nat.le_of_ble_eq_true rfl⟩) hY0 hI rfl oZ_d16 hl.1 (Nat.le_of_ble_eq_true rfl) (Nat.le_of_ble_eq_true rfl) (Nat.le_of_ble_eq_true rfl) (y_cons (y_cref hY_this rfl) (y_cons ⟨_, rfl, by show (0 : Int) ≤ _; omega, by show _ ≤ (9 : Int); omega⟩ (y_cons ⟨_, rfl, by show (0 : Int) ≤ _; omega, by show _ ≤ (4 : Int); omega⟩ y_nil))) rfl (y_recv rfl hY_this) trivial (y_sub_ef rfl) fun v Yn o Hn L ho hr ha hIn hx_ hE hP => ?_
    have hPo := hP _ _ _ _ _ rfl hs_bk hA_bk
    replace hs_bk := y_Efld hE hY_this rfl (by decide) (by decide) hs_bk
    replace hA_bk := hA_bk.kept (y_Earr hE hY_bk rfl (by decide))
    replace hY_this := y_ext hx_ hI.1 hY_this
    replace hY_bk := y_ext hx_ hI.1 hY_bk
    obtain ⟨r16, hg_r16⟩ : ∃ r16 : Int32, fb (10 + 5 * (h).toInt.toNat + ((2 : Int32)).toInt.toNat) = r16 := ⟨_, rfl⟩
    rw [hg_r16] at hPo
    obtain rfl := hPo
    clear ho hr ha hE hP hI hx_
    rename x_I _ _ _ _ _ _ _ _ _ _ => hI
    refine lv_istore_n hx hb oZ_d19 rfl hl (by decide) (lv' := [(2, .int r16), (0, .ref this), (1, .int h)]) rfl fun ls hl => ?_
    refine lv_iconst hx hb oZ_d20 (v := (-1)) (by decide) ?_
    have ecm1 : ((-1) : Int32).toInt = (-1) := by decide
    refine lv_istore_n hx hb oZ_d21 rfl hl (by decide) (lv' := [(3, .int ((-1) : Int32)), (2, .int r16), (0, .ref this), (1, .int h)]) rfl fun ls hl => ?_
    refine lv_iconst hx hb oZ_d22 (v := 0) (by decide) ?_
    refine lv_istore hx hb oZ_d23 hl (by decide) (lv' := [(4, .int (0 : Int32)), (3, .int ((-1) : Int32)), (2, .int r16), (0, .ref this), (1, .int h)]) rfl fun ls hl => ?_
    have hhad : fb (12 + 5 * h.toInt.toNat) = r16 := by rw [← hg_r16]; congr 1; rw [show (2 : Int32).toInt.toNat = 2 by decide]; omega
    exact oZ_L25 B rfl hs0 hA0 hcn hd0 (by omega) hhad 102 _ _ _ _ _ _ (fb (12 + 5 * h.toInt.toNat)) _ hI hY_this hY_bk hs_bk hA_bk (lv_sub hl [0, 1, 2, 3, 4] rfl) (by omega) y_up_self.symm (by omega)
  · have q5_ : r2.toInt = (0 : Int32).toInt := by rw [q5]
    refine lv_aload_n hx hb oZ_d8 rfl (lv_at hl 0 rfl) ?_
    refine y_call (z := (0, 102, 1, some 17, xM143)) (av := [.ref this]) (rest := []) (y_cokV (n := 0) (ci := 12) X ym_bad rfl rfl rfl (x_cons (x_bw68 3 rfl rfl) (x_cons (x_bw68 5 rfl rfl) (x_cons (x_at 32 (by decide +kernel) rfl) (x_cons (x_bw0 9 rfl rfl) x_nilm)))) (x_bw68 6 rfl rfl) (by decide +kernel) ⟨Nat.le_of_ble_eq_true rfl, Nat.le_of_ble_eq_true rfl⟩) hY0 hI rfl oZ_d9 hl.1 (Nat.le_of_ble_eq_true rfl) (Nat.le_of_ble_eq_true rfl) (Nat.le_of_ble_eq_true rfl) (y_cons (y_cref hY_this rfl) y_nil) rfl (y_recv rfl hY_this) trivial (y_sub_ef rfl) fun v Yn o Hn L ho hr ha hIn hx_ hE hP => ?_
    replace hs_bk := y_Efld hE hY_this rfl (by decide) (by decide) hs_bk
    replace hA_bk := hA_bk.kept (y_Earr hE hY_bk rfl (by decide))
    replace hY_this := y_ext hx_ hI.1 hY_this
    replace hY_bk := y_ext hx_ hI.1 hY_bk
    have hPb := hP
    obtain rfl := hPb
    clear ho hr ha hE hP hI hx_
    rename x_I _ _ _ _ _ _ _ _ _ _ => hI
    exact y_ireturn B hI rfl rfl rfl List.mem_cons_self ⟨_, rfl, ⟨_, rfl, x_i32 _⟩⟩ (x_cs.mono B.2.2.2.2.2 (y_mon B hI)) (fun t' b' f' h1 h2 h3 h4 => by cases h1; cases h2.symm.trans hs0; cases z_uniq h4 hA0 h3 hcn; exact hA_bk) (Nat.le_refl _) (Nat.le_refl _) oZ_d12

