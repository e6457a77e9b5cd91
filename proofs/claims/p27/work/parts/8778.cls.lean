
def z_Pcf : yP := fun D av Y H _ _ H' => ∀ this ot : Nat, av = [.ref this, .ref ot] → x_sl D 2 12 this H' = x_sl D 2 12 ot H ∧ ∀ q, Y q = some 2 → q ≠ this → x_sl D 2 12 q H' = x_sl D 2 12 q H
def z_Pun : yP := fun D av Y H v _ H' => ∀ (this hd : Nat) (a : Int32), av = [.ref this] → x_sl D 11 0 this H = some (.ref hd) → x_sl D 2 12 hd H = some (.int a) → v = some (.int a) ∧ x_sl D 2 12 hd H' = some (.int 0) ∧ ∀ q, Y q = some 2 → q ≠ hd → x_sl D 2 12 q H' = x_sl D 2 12 q H
def z_let (n a r a' : Int32) : Prop := (¬ (0 ≤ n.toInt ∧ n.toInt ≤ 9) → r.toInt = -2 ∧ a' = a) ∧ (0 ≤ n.toInt ∧ n.toInt ≤ 9 → 8 ≤ a.toInt → r.toInt = -4 ∧ a' = a) ∧ (0 ≤ n.toInt ∧ n.toInt ≤ 9 → a.toInt < 8 → r.toInt = a.toInt + 1 ∧ a'.toInt = a.toInt + 1)
theorem z_let.eq {n a r r2 a1 a2 : Int32} (h1 : z_let n a r a1) (h2 : z_let n a r2 a2) : r = r2 ∧ a1 = a2 := by
  by_cases hn : 0 ≤ n.toInt ∧ n.toInt ≤ 9
  · by_cases hl : a.toInt < 8
    · have p := h1.2.2 hn hl
      have q := h2.2.2 hn hl
      exact ⟨Int32.toInt_inj.mp (by omega), Int32.toInt_inj.mp (by omega)⟩
    · have p := h1.2.1 hn (by omega)
      have q := h2.2.1 hn (by omega)
      exact ⟨Int32.toInt_inj.mp (by omega), p.2.trans q.2.symm⟩
  · have p := h1.1 hn
    have q := h2.1 hn
    exact ⟨Int32.toInt_inj.mp (by omega), p.2.trans q.2.symm⟩
def z_Ple : yP := fun D av Y H v _ H' => ∀ (this hd : Nat) (n a : Int32), av = [.ref this, .int n] → x_sl D 11 0 this H = some (.ref hd) → x_sl D 2 12 hd H = some (.int a) → ∃ r a' : Int32, v = some (.int r) ∧ x_sl D 2 12 hd H' = some (.int a') ∧ (∀ q, Y q = some 2 → q ≠ hd → x_sl D 2 12 q H' = x_sl D 2 12 q H) ∧ z_let n a r a'
def z_Pfm : yP := fun D av Y H v _ H' => ∀ (this hd kp : Nat) (i : Int32), av = [.ref this, .int i] → x_sl D 11 0 this H = some (.ref hd) → x_sl D 11 2 this H = some (.ref kp) → (∀ q, Y q = some 2 → q ≠ hd → x_sl D 2 12 q H' = x_sl D 2 12 q H) ∧ (¬ (0 ≤ i.toInt ∧ i.toInt ≤ 1) → v = some (.int (-2)) ∧ x_sl D 2 12 hd H' = x_sl D 2 12 hd H) ∧ (0 ≤ i.toInt ∧ i.toInt ≤ 1 → y_at kp i.toInt.toNat H = some .null → v = some (.int (-3)) ∧ x_sl D 2 12 hd H' = x_sl D 2 12 hd H) ∧ (0 ≤ i.toInt ∧ i.toInt ≤ 1 → ∀ q, y_at kp i.toInt.toNat H = some (.ref q) → v = some (.int 1) ∧ x_sl D 2 12 hd H' = x_sl D 2 12 q H)
def z_Pim : yP := fun D av Y H v Y' H' => ∀ (this hd kp : Nat) (i : Int32), av = [.ref this, .int i] → x_sl D 11 0 this H = some (.ref hd) → x_sl D 11 2 this H = some (.ref kp) → (¬ (0 ≤ i.toInt ∧ i.toInt ≤ 1) → v = some (.int (-2)) ∧ (∀ q, Y q = some 2 → x_sl D 2 12 q H' = x_sl D 2 12 q H) ∧ (∀ j, j < 2 → y_at kp j H' = y_at kp j H)) ∧ (0 ≤ i.toInt ∧ i.toInt ≤ 1 → v = some (.int 1) ∧ ∃ q0 : Nat, y_at kp i.toInt.toNat H' = some (.ref q0) ∧ Y' q0 = some 2 ∧ (y_at kp i.toInt.toNat H = some (.ref q0) ∨ H.size ≤ q0) ∧ x_sl D 2 12 q0 H' = x_sl D 2 12 hd H ∧ (∀ q, Y q = some 2 → q ≠ q0 → x_sl D 2 12 q H' = x_sl D 2 12 q H) ∧ (∀ j, j < 2 → j ≠ i.toInt.toNat → y_at kp j H' = y_at kp j H))
def z_Ptl : yP := fun D av Y H v _ H' => ∀ (this hd dr : Nat), av = [.ref this] → x_sl D 11 0 this H = some (.ref hd) → x_sl D 11 1 this H = some (.ref dr) → ((x_sl D 11 0 this H' = some (.ref hd) ∧ x_sl D 11 1 this H' = some (.ref dr)) ∨ (x_sl D 11 0 this H' = some (.ref dr) ∧ x_sl D 11 1 this H' = some (.ref hd))) ∧ x_sl D 2 12 dr H' = x_sl D 2 12 hd H ∧ ∀ q, Y q = some 2 → q ≠ dr → x_sl D 2 12 q H' = x_sl D 2 12 q H
def z_Pli : yP := fun D av _ H _ _ H' => ∀ this : Nat, av = [.ref this] → x_sl D 2 12 this H' = x_sl D 2 12 this H
def z_Pt2 : yP := fun D av _ _ _ Y' H' => ∀ this : Nat, av = [.ref this] → z_Rc D Y' H' this 0 (fun _ => 0) (fun _ => 0)
theorem z_p12 {D : va_G} {b k : Nat} {H H' : Heap} {n : Nat} (hn : 12 < n) (hk12 : 12 ≠ k) (ho : ∀ q, q ≠ b → H'[q]? = H[q]?) (hk : ∀ j w, j < n → j ≠ k → x_sl D 2 j b H = w → x_sl D 2 j b H' = w) (q : Nat) : x_sl D 2 12 q H' = x_sl D 2 12 q H := by
  by_cases e0 : q = b
  · subst e0; exact hk 12 _ hn hk12 rfl
  · exact y_slk rfl (ho q e0)
theorem cf_d0 : decode xM58.2.1 0 = .ok (.aload_n 0, 1) := by decide +kernel
theorem cf_d1 : decode xM58.2.1 1 = .ok (.aload_n 1, 1) := by decide +kernel
theorem cf_d2 : decode xM58.2.1 2 = .ok (.getfield 63, 3) := by decide +kernel
theorem cf_d5 : decode xM58.2.1 5 = .ok (.putfield 63, 3) := by decide +kernel
theorem cf_d8 : decode xM58.2.1 8 = .ok (.aload_n 1, 1) := by decide +kernel
theorem cf_d9 : decode xM58.2.1 9 = .ok (.getfield 9, 3) := by decide +kernel
theorem cf_d12 : decode xM58.2.1 12 = .ok (.iconst 0, 1) := by decide +kernel
theorem cf_d13 : decode xM58.2.1 13 = .ok (.aload_n 0, 1) := by decide +kernel
theorem cf_d14 : decode xM58.2.1 14 = .ok (.getfield 9, 3) := by decide +kernel
theorem cf_d17 : decode xM58.2.1 17 = .ok (.iconst 0, 1) := by decide +kernel
theorem cf_d18 : decode xM58.2.1 18 = .ok (.bipush 10, 2) := by decide +kernel
theorem cf_d20 : decode xM58.2.1 20 = .ok (.invokestatic 67, 3) := by decide +kernel
theorem cf_d23 : decode xM58.2.1 23 = .ok (.aload_n 1, 1) := by decide +kernel
theorem cf_d24 : decode xM58.2.1 24 = .ok (.getfield 15, 3) := by decide +kernel
theorem cf_d27 : decode xM58.2.1 27 = .ok (.iconst 0, 1) := by decide +kernel
theorem cf_d28 : decode xM58.2.1 28 = .ok (.aload_n 0, 1) := by decide +kernel
theorem cf_d29 : decode xM58.2.1 29 = .ok (.getfield 15, 3) := by decide +kernel
theorem cf_d32 : decode xM58.2.1 32 = .ok (.iconst 0, 1) := by decide +kernel
theorem cf_d33 : decode xM58.2.1 33 = .ok (.bipush 10, 2) := by decide +kernel
theorem cf_d35 : decode xM58.2.1 35 = .ok (.invokestatic 67, 3) := by decide +kernel
theorem cf_d38 : decode xM58.2.1 38 = .ok (.aload_n 1, 1) := by decide +kernel
theorem cf_d39 : decode xM58.2.1 39 = .ok (.getfield 18, 3) := by decide +kernel
theorem cf_d42 : decode xM58.2.1 42 = .ok (.iconst 0, 1) := by decide +kernel
theorem cf_d43 : decode xM58.2.1 43 = .ok (.aload_n 0, 1) := by decide +kernel
theorem cf_d44 : decode xM58.2.1 44 = .ok (.getfield 18, 3) := by decide +kernel
theorem cf_d47 : decode xM58.2.1 47 = .ok (.iconst 0, 1) := by decide +kernel
theorem cf_d48 : decode xM58.2.1 48 = .ok (.bipush 10, 2) := by decide +kernel
theorem cf_d50 : decode xM58.2.1 50 = .ok (.invokestatic 67, 3) := by decide +kernel
theorem cf_d53 : decode xM58.2.1 53 = .ok (.aload_n 1, 1) := by decide +kernel
theorem cf_d54 : decode xM58.2.1 54 = .ok (.getfield 21, 3) := by decide +kernel
theorem cf_d57 : decode xM58.2.1 57 = .ok (.iconst 0, 1) := by decide +kernel
theorem cf_d58 : decode xM58.2.1 58 = .ok (.aload_n 0, 1) := by decide +kernel
theorem cf_d59 : decode xM58.2.1 59 = .ok (.getfield 21, 3) := by decide +kernel
theorem cf_d62 : decode xM58.2.1 62 = .ok (.iconst 0, 1) := by decide +kernel
theorem cf_d63 : decode xM58.2.1 63 = .ok (.bipush 10, 2) := by decide +kernel
theorem cf_d65 : decode xM58.2.1 65 = .ok (.invokestatic 67, 3) := by decide +kernel
theorem cf_d68 : decode xM58.2.1 68 = .ok (.aload_n 1, 1) := by decide +kernel
theorem cf_d69 : decode xM58.2.1 69 = .ok (.getfield 24, 3) := by decide +kernel
theorem cf_d72 : decode xM58.2.1 72 = .ok (.iconst 0, 1) := by decide +kernel
theorem cf_d73 : decode xM58.2.1 73 = .ok (.aload_n 0, 1) := by decide +kernel
theorem cf_d74 : decode xM58.2.1 74 = .ok (.getfield 24, 3) := by decide +kernel
theorem cf_d77 : decode xM58.2.1 77 = .ok (.iconst 0, 1) := by decide +kernel
theorem cf_d78 : decode xM58.2.1 78 = .ok (.bipush 10, 2) := by decide +kernel
theorem cf_d80 : decode xM58.2.1 80 = .ok (.invokestatic 67, 3) := by decide +kernel
theorem cf_d83 : decode xM58.2.1 83 = .ok (.aload_n 0, 1) := by decide +kernel
theorem cf_d84 : decode xM58.2.1 84 = .ok (.aload_n 1, 1) := by decide +kernel
theorem cf_d85 : decode xM58.2.1 85 = .ok (.getfield 73, 3) := by decide +kernel
theorem cf_d88 : decode xM58.2.1 88 = .ok (.putfield 73, 3) := by decide +kernel
theorem cf_d91 : decode xM58.2.1 91 = .ok (.iconst 0, 1) := by decide +kernel
theorem cf_d92 : decode xM58.2.1 92 = .ok (.istore_n 2, 1) := by decide +kernel
theorem cf_d93 : decode xM58.2.1 93 = .ok (.iload_n 2, 1) := by decide +kernel
theorem cf_d94 : decode xM58.2.1 94 = .ok (.bipush 8, 2) := by decide +kernel
theorem cf_d96 : decode xM58.2.1 96 = .ok (.if_icmp .ge 21, 3) := by decide +kernel
theorem cf_d99 : decode xM58.2.1 99 = .ok (.aload_n 0, 1) := by decide +kernel
theorem cf_d100 : decode xM58.2.1 100 = .ok (.getfield 29, 3) := by decide +kernel
theorem cf_d103 : decode xM58.2.1 103 = .ok (.iload_n 2, 1) := by decide +kernel
theorem cf_d104 : decode xM58.2.1 104 = .ok (.aload_n 1, 1) := by decide +kernel
theorem cf_d105 : decode xM58.2.1 105 = .ok (.getfield 29, 3) := by decide +kernel
theorem cf_d108 : decode xM58.2.1 108 = .ok (.iload_n 2, 1) := by decide +kernel
theorem cf_d109 : decode xM58.2.1 109 = .ok (.aaload, 1) := by decide +kernel
theorem cf_d110 : decode xM58.2.1 110 = .ok (.aastore, 1) := by decide +kernel
theorem cf_d111 : decode xM58.2.1 111 = .ok (.iinc 2 1, 3) := by decide +kernel
theorem cf_d114 : decode xM58.2.1 114 = .ok (.goto (-21), 3) := by decide +kernel
theorem cf_d117 : decode xM58.2.1 117 = .ok (.aload_n 1, 1) := by decide +kernel
theorem cf_d118 : decode xM58.2.1 118 = .ok (.getfield 33, 3) := by decide +kernel
theorem cf_d121 : decode xM58.2.1 121 = .ok (.iconst 0, 1) := by decide +kernel
theorem cf_d122 : decode xM58.2.1 122 = .ok (.aload_n 0, 1) := by decide +kernel
theorem cf_d123 : decode xM58.2.1 123 = .ok (.getfield 33, 3) := by decide +kernel
theorem cf_d126 : decode xM58.2.1 126 = .ok (.iconst 0, 1) := by decide +kernel
theorem cf_d127 : decode xM58.2.1 127 = .ok (.bipush 8, 2) := by decide +kernel
theorem cf_d129 : decode xM58.2.1 129 = .ok (.invokestatic 67, 3) := by decide +kernel
theorem cf_d132 : decode xM58.2.1 132 = .ok (.aload_n 1, 1) := by decide +kernel
theorem cf_d133 : decode xM58.2.1 133 = .ok (.getfield 36, 3) := by decide +kernel
theorem cf_d136 : decode xM58.2.1 136 = .ok (.iconst 0, 1) := by decide +kernel
theorem cf_d137 : decode xM58.2.1 137 = .ok (.aload_n 0, 1) := by decide +kernel
theorem cf_d138 : decode xM58.2.1 138 = .ok (.getfield 36, 3) := by decide +kernel
theorem cf_d141 : decode xM58.2.1 141 = .ok (.iconst 0, 1) := by decide +kernel
theorem cf_d142 : decode xM58.2.1 142 = .ok (.bipush 8, 2) := by decide +kernel
theorem cf_d144 : decode xM58.2.1 144 = .ok (.invokestatic 67, 3) := by decide +kernel
theorem cf_d147 : decode xM58.2.1 147 = .ok (.aload_n 1, 1) := by decide +kernel
theorem cf_d148 : decode xM58.2.1 148 = .ok (.getfield 39, 3) := by decide +kernel
theorem cf_d151 : decode xM58.2.1 151 = .ok (.iconst 0, 1) := by decide +kernel
theorem cf_d152 : decode xM58.2.1 152 = .ok (.aload_n 0, 1) := by decide +kernel
theorem cf_d153 : decode xM58.2.1 153 = .ok (.getfield 39, 3) := by decide +kernel
theorem cf_d156 : decode xM58.2.1 156 = .ok (.iconst 0, 1) := by decide +kernel
theorem cf_d157 : decode xM58.2.1 157 = .ok (.aload_n 0, 1) := by decide +kernel
theorem cf_d158 : decode xM58.2.1 158 = .ok (.getfield 39, 3) := by decide +kernel
theorem cf_d161 : decode xM58.2.1 161 = .ok (.arraylength, 1) := by decide +kernel
theorem cf_d162 : decode xM58.2.1 162 = .ok (.invokestatic 67, 3) := by decide +kernel
theorem cf_d165 : decode xM58.2.1 165 = .ok (.aload_n 1, 1) := by decide +kernel
theorem cf_d166 : decode xM58.2.1 166 = .ok (.getfield 42, 3) := by decide +kernel
theorem cf_d169 : decode xM58.2.1 169 = .ok (.iconst 0, 1) := by decide +kernel
theorem cf_d170 : decode xM58.2.1 170 = .ok (.aload_n 0, 1) := by decide +kernel
theorem cf_d171 : decode xM58.2.1 171 = .ok (.getfield 42, 3) := by decide +kernel
theorem cf_d174 : decode xM58.2.1 174 = .ok (.iconst 0, 1) := by decide +kernel
theorem cf_d175 : decode xM58.2.1 175 = .ok (.bipush 12, 2) := by decide +kernel
theorem cf_d177 : decode xM58.2.1 177 = .ok (.invokestatic 67, 3) := by decide +kernel
theorem cf_d180 : decode xM58.2.1 180 = .ok (.aload_n 0, 1) := by decide +kernel
theorem cf_d181 : decode xM58.2.1 181 = .ok (.aload_n 1, 1) := by decide +kernel
theorem cf_d182 : decode xM58.2.1 182 = .ok (.getfield 76, 3) := by decide +kernel
theorem cf_d185 : decode xM58.2.1 185 = .ok (.putfield 76, 3) := by decide +kernel
theorem cf_d188 : decode xM58.2.1 188 = .ok (.aload_n 1, 1) := by decide +kernel
theorem cf_d189 : decode xM58.2.1 189 = .ok (.getfield 45, 3) := by decide +kernel
theorem cf_d192 : decode xM58.2.1 192 = .ok (.iconst 0, 1) := by decide +kernel
theorem cf_d193 : decode xM58.2.1 193 = .ok (.aload_n 0, 1) := by decide +kernel
theorem cf_d194 : decode xM58.2.1 194 = .ok (.getfield 45, 3) := by decide +kernel
theorem cf_d197 : decode xM58.2.1 197 = .ok (.iconst 0, 1) := by decide +kernel
theorem cf_d198 : decode xM58.2.1 198 = .ok (.bipush 8, 2) := by decide +kernel
theorem cf_d200 : decode xM58.2.1 200 = .ok (.invokestatic 67, 3) := by decide +kernel
theorem cf_d203 : decode xM58.2.1 203 = .ok (.aload_n 1, 1) := by decide +kernel
theorem cf_d204 : decode xM58.2.1 204 = .ok (.getfield 48, 3) := by decide +kernel
theorem cf_d207 : decode xM58.2.1 207 = .ok (.iconst 0, 1) := by decide +kernel
theorem cf_d208 : decode xM58.2.1 208 = .ok (.aload_n 0, 1) := by decide +kernel
theorem cf_d209 : decode xM58.2.1 209 = .ok (.getfield 48, 3) := by decide +kernel
theorem cf_d212 : decode xM58.2.1 212 = .ok (.iconst 0, 1) := by decide +kernel
theorem cf_d213 : decode xM58.2.1 213 = .ok (.bipush 12, 2) := by decide +kernel
theorem cf_d215 : decode xM58.2.1 215 = .ok (.invokestatic 67, 3) := by decide +kernel
theorem cf_d218 : decode xM58.2.1 218 = .ok (.aload_n 1, 1) := by decide +kernel
theorem cf_d219 : decode xM58.2.1 219 = .ok (.getfield 51, 3) := by decide +kernel
theorem cf_d222 : decode xM58.2.1 222 = .ok (.iconst 0, 1) := by decide +kernel
theorem cf_d223 : decode xM58.2.1 223 = .ok (.aload_n 0, 1) := by decide +kernel
theorem cf_d224 : decode xM58.2.1 224 = .ok (.getfield 51, 3) := by decide +kernel
theorem cf_d227 : decode xM58.2.1 227 = .ok (.iconst 0, 1) := by decide +kernel
theorem cf_d228 : decode xM58.2.1 228 = .ok (.bipush 12, 2) := by decide +kernel
theorem cf_d230 : decode xM58.2.1 230 = .ok (.invokestatic 67, 3) := by decide +kernel
theorem cf_d233 : decode xM58.2.1 233 = .ok (.return_, 1) := by decide +kernel
theorem cf_L93 {p : Program} {l : Launch} {e : Env} {s : State} {m : MethodId} {below : List Frame} {meth : Method} {c : Code} {D : va_G} {U : State} {Y0 : xY} {av : List Value} (B : y_B vwCl x_Tb x_Nb xM58 p s m meth c D U Y0 av) {this ot ts os : Nat} (hav : av = [.ref this, .ref ot]) (hYo : Y0 ot = some 2)  :
    ∀ (n : Nat), ∀ (H : Heap) (Y : xY) (locs : List Loc) (ls : Array Slot) (i : Int32), x_I D x_G x_Zs U (x_efs xM58) Y0 s.heap Y H locs → Y this = some 2 → Y ot = some 2 → Y ts = some 24 → Y os = some 24 → x_sl D 2 7 this H = some (.ref ts) → x_sl D 2 7 ot H = some (.ref os) → lv_has ls xM58.2.2.1 [(2, .int i), (0, .ref this), (1, .ref ot)] → (0 ≤ i.toInt ∧ i.toInt ≤ 8) → (∀ q, Y0 q = some 2 → x_sl D 2 12 q H = x_sl D 2 12 q s.heap) → (8 - i.toInt).toNat < n → W p l e (x_rm xM58) s m av.toArray below meth c H locs 0 0 (y_QQ below D x_G x_Zs U xM58 z_Pcf av Y0 s) (F0 m 93 ls []) := by
  have X := B.1
  have hx := X.1
  have hb := X.2.1
  have hY0 := B.2.2.2.2.1
  intro n
  induction n with
  | zero => intro _ _ _ _ _ _ _ _ _ _ _ _ _ _ _ h; exact absurd h (Nat.not_lt_zero _)
  | succ n ih =>
    intro H Y locs ls i  hI hY_this hY_ot hY_ts hY_os hs_ts hs_os hl hi h12 hn
    refine lv_iload_n hx hb cf_d93 rfl (lv_at hl 0 rfl) ?_
    refine lv_bipush hx hb cf_d94 (v := 8) (by decide) ?_
    have ec8 : (8 : Int32).toInt = 8 := by decide
    refine lv_icmp_ge hx hb cf_d96 (tgt := 117) (by decide) (fun q96 => ?_) (fun q96 => ?_)
    · have q96_ : (8 : Int32).toInt ≤ i.toInt := x_le32.mp q96
      refine lv_aload_n hx hb cf_d117 rfl (lv_at hl 2 rfl) ?_
      obtain ⟨ot_done, hs_ot_done, hY_ot_done⟩ := y_fldR (k := 8) hI.1 hY_ot rfl rfl
      refine y_getf X (fl40 X.2.2.2.2.1) hI.1 hY_ot rfl hs_ot_done cf_d118 ?_
      refine lv_iconst hx hb cf_d121 (v := 0) (by decide) ?_
      have ec0 : (0 : Int32).toInt = 0 := by decide
      refine lv_aload_n hx hb cf_d122 rfl (lv_at hl 1 rfl) ?_
      obtain ⟨this_done, hs_this_done, hY_this_done⟩ := y_fldR (k := 8) hI.1 hY_this rfl rfl
      refine y_getf X (fl40 X.2.2.2.2.1) hI.1 hY_this rfl hs_this_done cf_d123 ?_
      refine lv_iconst hx hb cf_d126 (v := 0) (by decide) ?_
      refine lv_bipush hx hb cf_d127 (v := 8) (by decide) ?_
      obtain ⟨f_ot_done, hA_ot_done, hB_ot_done⟩ := y_arr hI.1 hY_ot_done rfl rfl
      refine y_acp (bd := this_done) (bs := ot_done) (t := 25) (n := 8) (rest := []) X (x_at 627 (by decide +kernel) rfl) (x_at 629 (by decide +kernel) rfl) (x_at 628 (by decide +kernel) rfl) (x_at 80 (by decide +kernel) rfl) (Nat.le_of_ble_eq_true rfl) (by decide) hY0 hI hY_this_done hY_ot_done rfl hA_ot_done (by decide) (by decide +kernel) hl.1 (Nat.le_of_ble_eq_true rfl) cf_d129 fun H locs hI h_new ho => ?_
      replace hs_ts := y_slk hs_ts (ho _ (y_ne hY_this hY_this_done rfl))
      replace hs_os := y_slk hs_os (ho _ (y_ne hY_ot hY_this_done rfl))
      replace hs_ot_done := y_slk hs_ot_done (ho _ (y_ne hY_ot hY_this_done rfl))
      replace hs_this_done := y_slk hs_this_done (ho _ (y_ne hY_this hY_this_done rfl))
      replace h12 := fun (q : Nat) (hq : Y0 q = some 2) => Eq.trans (y_slk rfl (ho q (y_ne (y_mon B hI _ _ hq) hY_this_done rfl))) (h12 q hq)
      refine lv_aload_n hx hb cf_d132 rfl (lv_at hl 2 rfl) ?_
      obtain ⟨ot_cost, hs_ot_cost, hY_ot_cost⟩ := y_fldR (k := 9) hI.1 hY_ot rfl rfl
      refine y_getf X (fl41 X.2.2.2.2.1) hI.1 hY_ot rfl hs_ot_cost cf_d133 ?_
      refine lv_iconst hx hb cf_d136 (v := 0) (by decide) ?_
      refine lv_aload_n hx hb cf_d137 rfl (lv_at hl 1 rfl) ?_
      obtain ⟨this_cost, hs_this_cost, hY_this_cost⟩ := y_fldR (k := 9) hI.1 hY_this rfl rfl
      refine y_getf X (fl41 X.2.2.2.2.1) hI.1 hY_this rfl hs_this_cost cf_d138 ?_
      refine lv_iconst hx hb cf_d141 (v := 0) (by decide) ?_
      refine lv_bipush hx hb cf_d142 (v := 8) (by decide) ?_
      obtain ⟨f_ot_cost, hA_ot_cost, hB_ot_cost⟩ := y_arr hI.1 hY_ot_cost rfl rfl
      refine y_acp (bd := this_cost) (bs := ot_cost) (t := 26) (n := 8) (rest := []) X (x_at 627 (by decide +kernel) rfl) (x_at 629 (by decide +kernel) rfl) (x_at 628 (by decide +kernel) rfl) (x_at 80 (by decide +kernel) rfl) (Nat.le_of_ble_eq_true rfl) (by decide) hY0 hI hY_this_cost hY_ot_cost rfl hA_ot_cost (by decide) (by decide +kernel) hl.1 (Nat.le_of_ble_eq_true rfl) cf_d144 fun H locs hI h_new ho => ?_
      replace hs_ts := y_slk hs_ts (ho _ (y_ne hY_this hY_this_cost rfl))
      replace hs_os := y_slk hs_os (ho _ (y_ne hY_ot hY_this_cost rfl))
      replace hs_ot_done := y_slk hs_ot_done (ho _ (y_ne hY_ot hY_this_cost rfl))
      replace hs_this_done := y_slk hs_this_done (ho _ (y_ne hY_this hY_this_cost rfl))
      replace hs_ot_cost := y_slk hs_ot_cost (ho _ (y_ne hY_ot hY_this_cost rfl))
      replace hs_this_cost := y_slk hs_this_cost (ho _ (y_ne hY_this hY_this_cost rfl))
      replace h12 := fun (q : Nat) (hq : Y0 q = some 2) => Eq.trans (y_slk rfl (ho q (y_ne (y_mon B hI _ _ hq) hY_this_cost rfl))) (h12 q hq)
      refine lv_aload_n hx hb cf_d147 rfl (lv_at hl 2 rfl) ?_
      obtain ⟨ot_dial, hs_ot_dial, hY_ot_dial⟩ := y_fldR (k := 10) hI.1 hY_ot rfl rfl
      refine y_getf X (fl44 X.2.2.2.2.1) hI.1 hY_ot rfl hs_ot_dial cf_d148 ?_
      refine lv_iconst hx hb cf_d151 (v := 0) (by decide) ?_
      refine lv_aload_n hx hb cf_d152 rfl (lv_at hl 1 rfl) ?_
      obtain ⟨this_dial, hs_this_dial, hY_this_dial⟩ := y_fldR (k := 10) hI.1 hY_this rfl rfl
      refine y_getf X (fl44 X.2.2.2.2.1) hI.1 hY_this rfl hs_this_dial cf_d153 ?_
      refine lv_iconst hx hb cf_d156 (v := 0) (by decide) ?_
      refine lv_aload_n hx hb cf_d157 rfl (lv_at hl 1 rfl) ?_
      refine y_getf X (fl44 X.2.2.2.2.1) hI.1 hY_this rfl hs_this_dial cf_d158 ?_
      refine y_alen X hI.1 hY_this_dial rfl cf_d161 ?_
      have h_nI4 : (nI 4).toInt = 4 := by decide
      obtain ⟨f_ot_dial, hA_ot_dial, hB_ot_dial⟩ := y_arr hI.1 hY_ot_dial rfl rfl
      refine y_acp (bd := this_dial) (bs := ot_dial) (t := 27) (n := 4) (rest := []) X (x_at 627 (by decide +kernel) rfl) (x_at 629 (by decide +kernel) rfl) (x_at 628 (by decide +kernel) rfl) (x_at 80 (by decide +kernel) rfl) (Nat.le_of_ble_eq_true rfl) (by decide) hY0 hI hY_this_dial hY_ot_dial rfl hA_ot_dial (by decide) (by decide +kernel) hl.1 (Nat.le_of_ble_eq_true rfl) cf_d162 fun H locs hI h_new ho => ?_
      replace hs_ts := y_slk hs_ts (ho _ (y_ne hY_this hY_this_dial rfl))
      replace hs_os := y_slk hs_os (ho _ (y_ne hY_ot hY_this_dial rfl))
      replace hs_ot_done := y_slk hs_ot_done (ho _ (y_ne hY_ot hY_this_dial rfl))
      replace hs_this_done := y_slk hs_this_done (ho _ (y_ne hY_this hY_this_dial rfl))
      replace hs_ot_cost := y_slk hs_ot_cost (ho _ (y_ne hY_ot hY_this_dial rfl))
      replace hs_this_cost := y_slk hs_this_cost (ho _ (y_ne hY_this hY_this_dial rfl))
      replace hs_ot_dial := y_slk hs_ot_dial (ho _ (y_ne hY_ot hY_this_dial rfl))
      replace hs_this_dial := y_slk hs_this_dial (ho _ (y_ne hY_this hY_this_dial rfl))
      replace h12 := fun (q : Nat) (hq : Y0 q = some 2) => Eq.trans (y_slk rfl (ho q (y_ne (y_mon B hI _ _ hq) hY_this_dial rfl))) (h12 q hq)
      refine lv_aload_n hx hb cf_d165 rfl (lv_at hl 2 rfl) ?_
      obtain ⟨ot_mists, hs_ot_mists, hY_ot_mists⟩ := y_fldR (k := 11) hI.1 hY_ot rfl rfl
      refine y_getf X (fl123 X.2.2.2.2.1) hI.1 hY_ot rfl hs_ot_mists cf_d166 ?_
      refine lv_iconst hx hb cf_d169 (v := 0) (by decide) ?_
      refine lv_aload_n hx hb cf_d170 rfl (lv_at hl 1 rfl) ?_
      obtain ⟨this_mists, hs_this_mists, hY_this_mists⟩ := y_fldR (k := 11) hI.1 hY_this rfl rfl
      refine y_getf X (fl123 X.2.2.2.2.1) hI.1 hY_this rfl hs_this_mists cf_d171 ?_
      refine lv_iconst hx hb cf_d174 (v := 0) (by decide) ?_
      refine lv_bipush hx hb cf_d175 (v := 12) (by decide) ?_
      have ec12 : (12 : Int32).toInt = 12 := by decide
      obtain ⟨f_ot_mists, hA_ot_mists, hB_ot_mists⟩ := y_arr hI.1 hY_ot_mists rfl rfl
      refine y_acp (bd := this_mists) (bs := ot_mists) (t := 28) (n := 12) (rest := []) X (x_at 627 (by decide +kernel) rfl) (x_at 629 (by decide +kernel) rfl) (x_at 628 (by decide +kernel) rfl) (x_at 80 (by decide +kernel) rfl) (Nat.le_of_ble_eq_true rfl) (by decide) hY0 hI hY_this_mists hY_ot_mists rfl hA_ot_mists (by decide) (by decide +kernel) hl.1 (Nat.le_of_ble_eq_true rfl) cf_d177 fun H locs hI h_new ho => ?_
      replace hs_ts := y_slk hs_ts (ho _ (y_ne hY_this hY_this_mists rfl))
      replace hs_os := y_slk hs_os (ho _ (y_ne hY_ot hY_this_mists rfl))
      replace hs_ot_done := y_slk hs_ot_done (ho _ (y_ne hY_ot hY_this_mists rfl))
      replace hs_this_done := y_slk hs_this_done (ho _ (y_ne hY_this hY_this_mists rfl))
      replace hs_ot_cost := y_slk hs_ot_cost (ho _ (y_ne hY_ot hY_this_mists rfl))
      replace hs_this_cost := y_slk hs_this_cost (ho _ (y_ne hY_this hY_this_mists rfl))
      replace hs_ot_dial := y_slk hs_ot_dial (ho _ (y_ne hY_ot hY_this_mists rfl))
      replace hs_this_dial := y_slk hs_this_dial (ho _ (y_ne hY_this hY_this_mists rfl))
      replace hs_ot_mists := y_slk hs_ot_mists (ho _ (y_ne hY_ot hY_this_mists rfl))
      replace hs_this_mists := y_slk hs_this_mists (ho _ (y_ne hY_this hY_this_mists rfl))
      replace h12 := fun (q : Nat) (hq : Y0 q = some 2) => Eq.trans (y_slk rfl (ho q (y_ne (y_mon B hI _ _ hq) hY_this_mists rfl))) (h12 q hq)
      refine lv_aload_n hx hb cf_d180 rfl (lv_at hl 1 rfl) ?_
      refine lv_aload_n hx hb cf_d181 rfl (lv_at hl 2 rfl) ?_
      have h12o := h12 ot hYo
      obtain ⟨letters_182, hs_ot_letters, h_letters_182⟩ := y_fldI (k := 12) hI.1 hY_ot rfl rfl
      replace h_letters_182 : (0 : Int) ≤ letters_182.toInt ∧ letters_182.toInt ≤ 8 := h_letters_182
      refine y_getf X (fl127 X.2.2.2.2.1) hI.1 hY_ot rfl hs_ot_letters cf_d182 ?_
      have hl182 := hs_ot_letters
      refine y_putf X (fw128 X.2.2.2.2.1) hY0 hI hY_this rfl rfl ⟨_, rfl, by show (0 : Int) ≤ _; omega, by show _ ≤ (8 : Int); omega⟩ (by decide +kernel) cf_d185 fun H sl hI ho hs hk => ?_
      replace hs_ts := hk _ _ (by decide +kernel) (by decide) hs_ts
      replace hs_this_done := hk _ _ (by decide +kernel) (by decide) hs_this_done
      replace hs_this_cost := hk _ _ (by decide +kernel) (by decide) hs_this_cost
      replace hs_this_dial := hk _ _ (by decide +kernel) (by decide) hs_this_dial
      replace hs_this_mists := hk _ _ (by decide +kernel) (by decide) hs_this_mists
      replace h12 := fun (q : Nat) (hq : Y0 q = some 2) (hnq : q ≠ this) => Eq.trans (y_slk rfl (ho q hnq)) (h12 q hq)
      have hv12 := hs
      replace hs := hs
      have hs185 := hs
      replace hv12 := Eq.trans hv12 (Eq.trans hl182.symm (h12o))
      refine lv_aload_n hx hb cf_d188 rfl (lv_at hl 2 rfl) ?_
      obtain ⟨ot_word, hs_ot_word, hY_ot_word⟩ := y_fldR (k := 13) hI.1 hY_ot rfl rfl
      refine y_getf X (fl124 X.2.2.2.2.1) hI.1 hY_ot rfl hs_ot_word cf_d189 ?_
      refine lv_iconst hx hb cf_d192 (v := 0) (by decide) ?_
      refine lv_aload_n hx hb cf_d193 rfl (lv_at hl 1 rfl) ?_
      obtain ⟨this_word, hs_this_word, hY_this_word⟩ := y_fldR (k := 13) hI.1 hY_this rfl rfl
      refine y_getf X (fl124 X.2.2.2.2.1) hI.1 hY_this rfl hs_this_word cf_d194 ?_
      refine lv_iconst hx hb cf_d197 (v := 0) (by decide) ?_
      refine lv_bipush hx hb cf_d198 (v := 8) (by decide) ?_
      obtain ⟨f_ot_word, hA_ot_word, hB_ot_word⟩ := y_arr hI.1 hY_ot_word rfl rfl
      refine y_acp (bd := this_word) (bs := ot_word) (t := 29) (n := 8) (rest := []) X (x_at 627 (by decide +kernel) rfl) (x_at 629 (by decide +kernel) rfl) (x_at 628 (by decide +kernel) rfl) (x_at 80 (by decide +kernel) rfl) (Nat.le_of_ble_eq_true rfl) (by decide) hY0 hI hY_this_word hY_ot_word rfl hA_ot_word (by decide) (by decide +kernel) hl.1 (Nat.le_of_ble_eq_true rfl) cf_d200 fun H locs hI h_new ho => ?_
      replace hs_ts := y_slk hs_ts (ho _ (y_ne hY_this hY_this_word rfl))
      replace hs_this_done := y_slk hs_this_done (ho _ (y_ne hY_this hY_this_word rfl))
      replace hs_this_cost := y_slk hs_this_cost (ho _ (y_ne hY_this hY_this_word rfl))
      replace hs_this_dial := y_slk hs_this_dial (ho _ (y_ne hY_this hY_this_word rfl))
      replace hs_this_mists := y_slk hs_this_mists (ho _ (y_ne hY_this hY_this_word rfl))
      replace hs185 := y_slk hs185 (ho _ (y_ne hY_this hY_this_word rfl))
      replace hs_ot_word := y_slk hs_ot_word (ho _ (y_ne hY_ot hY_this_word rfl))
      replace hs_this_word := y_slk hs_this_word (ho _ (y_ne hY_this hY_this_word rfl))
      replace h12 := fun (q : Nat) (hq : Y0 q = some 2) (hnq : q ≠ this) => Eq.trans (y_slk rfl (ho q (y_ne (y_mon B hI _ _ hq) hY_this_word rfl))) (h12 q hq hnq)
      replace hv12 := Eq.trans (y_slk rfl (ho _ (y_ne hY_this hY_this_word rfl))) hv12
      refine lv_aload_n hx hb cf_d203 rfl (lv_at hl 2 rfl) ?_
      obtain ⟨ot_nightHill, hs_ot_nightHill, hY_ot_nightHill⟩ := y_fldR (k := 14) hI.1 hY_ot rfl rfl
      refine y_getf X (fl125 X.2.2.2.2.1) hI.1 hY_ot rfl hs_ot_nightHill cf_d204 ?_
      refine lv_iconst hx hb cf_d207 (v := 0) (by decide) ?_
      refine lv_aload_n hx hb cf_d208 rfl (lv_at hl 1 rfl) ?_
      obtain ⟨this_nightHill, hs_this_nightHill, hY_this_nightHill⟩ := y_fldR (k := 14) hI.1 hY_this rfl rfl
      refine y_getf X (fl125 X.2.2.2.2.1) hI.1 hY_this rfl hs_this_nightHill cf_d209 ?_
      refine lv_iconst hx hb cf_d212 (v := 0) (by decide) ?_
      refine lv_bipush hx hb cf_d213 (v := 12) (by decide) ?_
      obtain ⟨f_ot_nightHill, hA_ot_nightHill, hB_ot_nightHill⟩ := y_arr hI.1 hY_ot_nightHill rfl rfl
      refine y_acp (bd := this_nightHill) (bs := ot_nightHill) (t := 30) (n := 12) (rest := []) X (x_at 627 (by decide +kernel) rfl) (x_at 629 (by decide +kernel) rfl) (x_at 628 (by decide +kernel) rfl) (x_at 80 (by decide +kernel) rfl) (Nat.le_of_ble_eq_true rfl) (by decide) hY0 hI hY_this_nightHill hY_ot_nightHill rfl hA_ot_nightHill (by decide) (by decide +kernel) hl.1 (Nat.le_of_ble_eq_true rfl) cf_d215 fun H locs hI h_new ho => ?_
      replace hs_ts := y_slk hs_ts (ho _ (y_ne hY_this hY_this_nightHill rfl))
      replace hs_this_done := y_slk hs_this_done (ho _ (y_ne hY_this hY_this_nightHill rfl))
      replace hs_this_cost := y_slk hs_this_cost (ho _ (y_ne hY_this hY_this_nightHill rfl))
      replace hs_this_dial := y_slk hs_this_dial (ho _ (y_ne hY_this hY_this_nightHill rfl))
      replace hs_this_mists := y_slk hs_this_mists (ho _ (y_ne hY_this hY_this_nightHill rfl))
      replace hs185 := y_slk hs185 (ho _ (y_ne hY_this hY_this_nightHill rfl))
      replace hs_ot_word := y_slk hs_ot_word (ho _ (y_ne hY_ot hY_this_nightHill rfl))
      replace hs_this_word := y_slk hs_this_word (ho _ (y_ne hY_this hY_this_nightHill rfl))
      replace hs_ot_nightHill := y_slk hs_ot_nightHill (ho _ (y_ne hY_ot hY_this_nightHill rfl))
      replace hs_this_nightHill := y_slk hs_this_nightHill (ho _ (y_ne hY_this hY_this_nightHill rfl))
      replace h12 := fun (q : Nat) (hq : Y0 q = some 2) (hnq : q ≠ this) => Eq.trans (y_slk rfl (ho q (y_ne (y_mon B hI _ _ hq) hY_this_nightHill rfl))) (h12 q hq hnq)
      replace hv12 := Eq.trans (y_slk rfl (ho _ (y_ne hY_this hY_this_nightHill rfl))) hv12
      refine lv_aload_n hx hb cf_d218 rfl (lv_at hl 2 rfl) ?_
      obtain ⟨ot_nightHow, hs_ot_nightHow, hY_ot_nightHow⟩ := y_fldR (k := 15) hI.1 hY_ot rfl rfl
      refine y_getf X (fl126 X.2.2.2.2.1) hI.1 hY_ot rfl hs_ot_nightHow cf_d219 ?_
      refine lv_iconst hx hb cf_d222 (v := 0) (by decide) ?_
      refine lv_aload_n hx hb cf_d223 rfl (lv_at hl 1 rfl) ?_
      obtain ⟨this_nightHow, hs_this_nightHow, hY_this_nightHow⟩ := y_fldR (k := 15) hI.1 hY_this rfl rfl
      refine y_getf X (fl126 X.2.2.2.2.1) hI.1 hY_this rfl hs_this_nightHow cf_d224 ?_
      refine lv_iconst hx hb cf_d227 (v := 0) (by decide) ?_
      refine lv_bipush hx hb cf_d228 (v := 12) (by decide) ?_
      obtain ⟨f_ot_nightHow, hA_ot_nightHow, hB_ot_nightHow⟩ := y_arr hI.1 hY_ot_nightHow rfl rfl
      refine y_acp (bd := this_nightHow) (bs := ot_nightHow) (t := 31) (n := 12) (rest := []) X (x_at 627 (by decide +kernel) rfl) (x_at 629 (by decide +kernel) rfl) (x_at 628 (by decide +kernel) rfl) (x_at 80 (by decide +kernel) rfl) (Nat.le_of_ble_eq_true rfl) (by decide) hY0 hI hY_this_nightHow hY_ot_nightHow rfl hA_ot_nightHow (by decide) (by decide +kernel) hl.1 (Nat.le_of_ble_eq_true rfl) cf_d230 fun H locs hI h_new ho => ?_
      replace hs_ts := y_slk hs_ts (ho _ (y_ne hY_this hY_this_nightHow rfl))
      replace hs_this_done := y_slk hs_this_done (ho _ (y_ne hY_this hY_this_nightHow rfl))
      replace hs_this_cost := y_slk hs_this_cost (ho _ (y_ne hY_this hY_this_nightHow rfl))
      replace hs_this_dial := y_slk hs_this_dial (ho _ (y_ne hY_this hY_this_nightHow rfl))
      replace hs_this_mists := y_slk hs_this_mists (ho _ (y_ne hY_this hY_this_nightHow rfl))
      replace hs185 := y_slk hs185 (ho _ (y_ne hY_this hY_this_nightHow rfl))
      replace hs_ot_word := y_slk hs_ot_word (ho _ (y_ne hY_ot hY_this_nightHow rfl))
      replace hs_this_word := y_slk hs_this_word (ho _ (y_ne hY_this hY_this_nightHow rfl))
      replace hs_ot_nightHill := y_slk hs_ot_nightHill (ho _ (y_ne hY_ot hY_this_nightHow rfl))
      replace hs_this_nightHill := y_slk hs_this_nightHill (ho _ (y_ne hY_this hY_this_nightHow rfl))
      replace hs_ot_nightHow := y_slk hs_ot_nightHow (ho _ (y_ne hY_ot hY_this_nightHow rfl))
      replace hs_this_nightHow := y_slk hs_this_nightHow (ho _ (y_ne hY_this hY_this_nightHow rfl))
      replace h12 := fun (q : Nat) (hq : Y0 q = some 2) (hnq : q ≠ this) => Eq.trans (y_slk rfl (ho q (y_ne (y_mon B hI _ _ hq) hY_this_nightHow rfl))) (h12 q hq hnq)
      replace hv12 := Eq.trans (y_slk rfl (ho _ (y_ne hY_this hY_this_nightHow rfl))) hv12
      subst hav
      exact y_return B hI rfl rfl List.mem_cons_self rfl (x_cs.mono B.2.2.2.2.2 (y_mon B hI)) (fun t' o' h1 => by cases h1; exact ⟨hv12, fun q hq hn => h12 q hq hn⟩) (Nat.le_refl _) (Nat.le_refl _) cf_d233
    · have q96_ : i.toInt < (8 : Int32).toInt := Int.not_le.mp fun q => q96 (x_le32.mpr q)
      refine lv_aload_n hx hb cf_d99 rfl (lv_at hl 1 rfl) ?_
      refine y_getf X (fl39 X.2.2.2.2.1) hI.1 hY_this rfl hs_ts cf_d100 ?_
      refine lv_iload_n hx hb cf_d103 rfl (lv_at hl 0 rfl) ?_
      refine lv_aload_n hx hb cf_d104 rfl (lv_at hl 2 rfl) ?_
      refine y_getf X (fl39 X.2.2.2.2.1) hI.1 hY_ot rfl hs_os cf_d105 ?_
      refine lv_iload_n hx hb cf_d108 rfl (lv_at hl 0 rfl) ?_
      obtain ⟨v109, hv109, hc109⟩ := y_elt (j := i.toInt.toNat) hI.1 hY_os rfl (by omega)
      refine y_aald X hI.1 hY_os rfl (by omega) (by show _ < (8 : Int); omega) hv109 cf_d109 ?_
      rcases hc109 with ⟨-, e9⟩ | ⟨q109, t109, e109, ht109, hY_q109⟩
      · exact absurd e9 (by decide)
      subst e109
      have hok : x_sok vwCl x_G s (24, t109) := by
        have ht9 := ht109
        simp only [List.mem_cons, List.not_mem_nil, or_false] at ht9
        rcases ht9 with rfl | rfl | rfl | rfl | rfl | rfl
        · exact ⟨_, _, _, "TwinFires$Stone", 6, _, _, rfl, rfl, rfl, x_castSelf (X.2.2.2.2.2.1.1 6 _ rfl).2⟩
        · exact ⟨_, _, _, "TwinFires$Stone", 10, _, _, rfl, rfl, rfl, X.2.2.2.2.2.2.2.2.1 _ (x_nt 1491 (by decide +kernel) rfl)⟩
        · exact ⟨_, _, _, "TwinFires$Stone", 4, _, _, rfl, rfl, rfl, X.2.2.2.2.2.2.2.2.1 _ (x_nt 1492 (by decide +kernel) rfl)⟩
        · exact ⟨_, _, _, "TwinFires$Stone", 1, _, _, rfl, rfl, rfl, X.2.2.2.2.2.2.2.2.1 _ (x_nt 1493 (by decide +kernel) rfl)⟩
        · exact ⟨_, _, _, "TwinFires$Stone", 8, _, _, rfl, rfl, rfl, X.2.2.2.2.2.2.2.2.1 _ (x_nt 1494 (by decide +kernel) rfl)⟩
        · exact ⟨_, _, _, "TwinFires$Stone", 9, _, _, rfl, rfl, rfl, X.2.2.2.2.2.2.2.2.1 _ (x_nt 1495 (by decide +kernel) rfl)⟩
      refine y_aastM (bv := q109) X hY0 hI hY_ts rfl hY_q109 hok (by omega) (by show _ < (8 : Int); omega) (Or.inr ⟨_, _, rfl, ht109, hY_q109⟩) (by decide +kernel) cf_d110 fun H locs hI h_at h_ne ho => ?_
      replace hs_ts := y_slk hs_ts (ho _ (y_ne hY_this hY_ts rfl))
      replace hs_os := y_slk hs_os (ho _ (y_ne hY_ot hY_ts rfl))
      replace h12 := fun (q : Nat) (hq : Y0 q = some 2) => Eq.trans (y_slk rfl (ho q (y_ne (y_mon B hI _ _ hq) hY_ts rfl))) (h12 q hq)
      obtain ⟨z111, hg_z111⟩ : ∃ z111 : Int32, i + Int32.ofInt 1 = z111 := ⟨_, rfl⟩
      have h_z111 : z111.toInt = i.toInt + 1 := by rw [← hg_z111]; exact y_inc (by decide) (by omega) (by omega)
      refine lv_iinc hx hb cf_d111 hl (k := 0) rfl hg_z111 (by decide) (lv' := [(2, .int z111), (0, .ref this), (1, .ref ot)]) rfl fun ls hl => ?_
      refine lv_goto hx hb cf_d114 (tgt := 93) (by decide) ?_
      exact ih _ _ _ _ _ hI hY_this hY_ot hY_ts hY_os hs_ts hs_os (lv_sub hl [0, 1, 2] rfl) (by first | assumption | omega) h12 (by omega)
theorem ym_copyFrom : y_Met vwCl x_G x_Zs x_Tb x_Nb xM58 y_T z_Pcf := by
  refine y_main (by decide +kernel) (by decide +kernel) x_Tb_good x_Nb_ok ?_
  intro p l e s m below meth c D U Y0 av ls B hI _ hl
  have X := B.1
  have hx := X.1
  have hb := X.2.1
  have hY0 := B.2.2.2.2.1
  obtain ⟨v0, v1, rfl, hv0, hv1⟩ := x_two B.2.2.2.2.2
  obtain ⟨this, t0, rfl, ht0, hY_this⟩ := x_ref_at hv0 rfl
  obtain rfl := List.mem_singleton.mp ht0
  obtain ⟨ot, t1, rfl, ht1, hY_ot⟩ := x_ref_at hv1 rfl
  obtain rfl := List.mem_singleton.mp ht1
  have hYo := hY_ot
  replace hl : lv_has ls xM58.2.2.1 [(0, .ref this), (1, .ref ot)] := hl
  have h12 : ∀ q, Y0 q = some 2 → x_sl D 2 12 q s.heap = x_sl D 2 12 q s.heap := fun _ _ => rfl
  refine lv_aload_n hx hb cf_d0 rfl (lv_at hl 0 rfl) ?_
  refine lv_aload_n hx hb cf_d1 rfl (lv_at hl 1 rfl) ?_
  obtain ⟨hills_2, hs_ot_hills, h_hills_2⟩ := y_fldI (k := 0) hI.1 hY_ot rfl rfl
  replace h_hills_2 : (0 : Int) ≤ hills_2.toInt ∧ hills_2.toInt ≤ 10 := h_hills_2
  refine y_getf X (fl2 X.2.2.2.2.1) hI.1 hY_ot rfl hs_ot_hills cf_d2 ?_
  refine y_putf X (fw6 X.2.2.2.2.1) hY0 hI hY_this rfl rfl ⟨_, rfl, by show (0 : Int) ≤ _; omega, by show _ ≤ (10 : Int); omega⟩ (by decide +kernel) cf_d5 fun H sl hI ho hs hk => ?_
  replace h12 := fun (q : Nat) (hq : Y0 q = some 2) => Eq.trans (z_p12 (by decide) (by decide) ho hk q) (h12 q hq)
  replace hs := hs
  have hs5 := hs
  refine lv_aload_n hx hb cf_d8 rfl (lv_at hl 1 rfl) ?_
  obtain ⟨ot_x, hs_ot_x, hY_ot_x⟩ := y_fldR (k := 1) hI.1 hY_ot rfl rfl
  refine y_getf X (fl0 X.2.2.2.2.1) hI.1 hY_ot rfl hs_ot_x cf_d9 ?_
  refine lv_iconst hx hb cf_d12 (v := 0) (by decide) ?_
  have ec0 : (0 : Int32).toInt = 0 := by decide
  refine lv_aload_n hx hb cf_d13 rfl (lv_at hl 0 rfl) ?_
  obtain ⟨this_x, hs_this_x, hY_this_x⟩ := y_fldR (k := 1) hI.1 hY_this rfl rfl
  refine y_getf X (fl0 X.2.2.2.2.1) hI.1 hY_this rfl hs_this_x cf_d14 ?_
  refine lv_iconst hx hb cf_d17 (v := 0) (by decide) ?_
  refine lv_bipush hx hb cf_d18 (v := 10) (by decide) ?_
  have ec10 : (10 : Int32).toInt = 10 := by decide
  obtain ⟨f_ot_x, hA_ot_x, hB_ot_x⟩ := y_arr hI.1 hY_ot_x rfl rfl
  refine y_acp (bd := this_x) (bs := ot_x) (t := 19) (n := 10) (rest := []) X (x_at 627 (by decide +kernel) rfl) (x_at 629 (by decide +kernel) rfl) (x_at 628 (by decide +kernel) rfl) (x_at 80 (by decide +kernel) rfl) (Nat.le_of_ble_eq_true rfl) (by decide) hY0 hI hY_this_x hY_ot_x rfl hA_ot_x (by decide) (by decide +kernel) hl.1 (Nat.le_of_ble_eq_true rfl) cf_d20 fun H locs hI h_new ho => ?_
  replace hs5 := y_slk hs5 (ho _ (y_ne hY_this hY_this_x rfl))
  replace hs_ot_x := y_slk hs_ot_x (ho _ (y_ne hY_ot hY_this_x rfl))
  replace hs_this_x := y_slk hs_this_x (ho _ (y_ne hY_this hY_this_x rfl))
  replace h12 := fun (q : Nat) (hq : Y0 q = some 2) => Eq.trans (y_slk rfl (ho q (y_ne (y_mon B hI _ _ hq) hY_this_x rfl))) (h12 q hq)
  refine lv_aload_n hx hb cf_d23 rfl (lv_at hl 1 rfl) ?_
  obtain ⟨ot_y, hs_ot_y, hY_ot_y⟩ := y_fldR (k := 2) hI.1 hY_ot rfl rfl
  refine y_getf X (fl1 X.2.2.2.2.1) hI.1 hY_ot rfl hs_ot_y cf_d24 ?_
  refine lv_iconst hx hb cf_d27 (v := 0) (by decide) ?_
  refine lv_aload_n hx hb cf_d28 rfl (lv_at hl 0 rfl) ?_
  obtain ⟨this_y, hs_this_y, hY_this_y⟩ := y_fldR (k := 2) hI.1 hY_this rfl rfl
  refine y_getf X (fl1 X.2.2.2.2.1) hI.1 hY_this rfl hs_this_y cf_d29 ?_
  refine lv_iconst hx hb cf_d32 (v := 0) (by decide) ?_
  refine lv_bipush hx hb cf_d33 (v := 10) (by decide) ?_
  obtain ⟨f_ot_y, hA_ot_y, hB_ot_y⟩ := y_arr hI.1 hY_ot_y rfl rfl
  refine y_acp (bd := this_y) (bs := ot_y) (t := 20) (n := 10) (rest := []) X (x_at 627 (by decide +kernel) rfl) (x_at 629 (by decide +kernel) rfl) (x_at 628 (by decide +kernel) rfl) (x_at 80 (by decide +kernel) rfl) (Nat.le_of_ble_eq_true rfl) (by decide) hY0 hI hY_this_y hY_ot_y rfl hA_ot_y (by decide) (by decide +kernel) hl.1 (Nat.le_of_ble_eq_true rfl) cf_d35 fun H locs hI h_new ho => ?_
  replace hs5 := y_slk hs5 (ho _ (y_ne hY_this hY_this_y rfl))
  replace hs_ot_x := y_slk hs_ot_x (ho _ (y_ne hY_ot hY_this_y rfl))
  replace hs_this_x := y_slk hs_this_x (ho _ (y_ne hY_this hY_this_y rfl))
  replace hs_ot_y := y_slk hs_ot_y (ho _ (y_ne hY_ot hY_this_y rfl))
  replace hs_this_y := y_slk hs_this_y (ho _ (y_ne hY_this hY_this_y rfl))
  replace h12 := fun (q : Nat) (hq : Y0 q = some 2) => Eq.trans (y_slk rfl (ho q (y_ne (y_mon B hI _ _ hq) hY_this_y rfl))) (h12 q hq)
  refine lv_aload_n hx hb cf_d38 rfl (lv_at hl 1 rfl) ?_
  obtain ⟨ot_height, hs_ot_height, hY_ot_height⟩ := y_fldR (k := 3) hI.1 hY_ot rfl rfl
  refine y_getf X (fl3 X.2.2.2.2.1) hI.1 hY_ot rfl hs_ot_height cf_d39 ?_
  refine lv_iconst hx hb cf_d42 (v := 0) (by decide) ?_
  refine lv_aload_n hx hb cf_d43 rfl (lv_at hl 0 rfl) ?_
  obtain ⟨this_height, hs_this_height, hY_this_height⟩ := y_fldR (k := 3) hI.1 hY_this rfl rfl
  refine y_getf X (fl3 X.2.2.2.2.1) hI.1 hY_this rfl hs_this_height cf_d44 ?_
  refine lv_iconst hx hb cf_d47 (v := 0) (by decide) ?_
  refine lv_bipush hx hb cf_d48 (v := 10) (by decide) ?_
  obtain ⟨f_ot_height, hA_ot_height, hB_ot_height⟩ := y_arr hI.1 hY_ot_height rfl rfl
  refine y_acp (bd := this_height) (bs := ot_height) (t := 21) (n := 10) (rest := []) X (x_at 627 (by decide +kernel) rfl) (x_at 629 (by decide +kernel) rfl) (x_at 628 (by decide +kernel) rfl) (x_at 80 (by decide +kernel) rfl) (Nat.le_of_ble_eq_true rfl) (by decide) hY0 hI hY_this_height hY_ot_height rfl hA_ot_height (by decide) (by decide +kernel) hl.1 (Nat.le_of_ble_eq_true rfl) cf_d50 fun H locs hI h_new ho => ?_
  replace hs5 := y_slk hs5 (ho _ (y_ne hY_this hY_this_height rfl))
  replace hs_ot_x := y_slk hs_ot_x (ho _ (y_ne hY_ot hY_this_height rfl))
  replace hs_this_x := y_slk hs_this_x (ho _ (y_ne hY_this hY_this_height rfl))
  replace hs_ot_y := y_slk hs_ot_y (ho _ (y_ne hY_ot hY_this_height rfl))
  replace hs_this_y := y_slk hs_this_y (ho _ (y_ne hY_this hY_this_height rfl))
  replace hs_ot_height := y_slk hs_ot_height (ho _ (y_ne hY_ot hY_this_height rfl))
  replace hs_this_height := y_slk hs_this_height (ho _ (y_ne hY_this hY_this_height rfl))
  replace h12 := fun (q : Nat) (hq : Y0 q = some 2) => Eq.trans (y_slk rfl (ho q (y_ne (y_mon B hI _ _ hq) hY_this_height rfl))) (h12 q hq)
  refine lv_aload_n hx hb cf_d53 rfl (lv_at hl 1 rfl) ?_
  obtain ⟨ot_report, hs_ot_report, hY_ot_report⟩ := y_fldR (k := 4) hI.1 hY_ot rfl rfl
  refine y_getf X (fl4 X.2.2.2.2.1) hI.1 hY_ot rfl hs_ot_report cf_d54 ?_
  refine lv_iconst hx hb cf_d57 (v := 0) (by decide) ?_
  refine lv_aload_n hx hb cf_d58 rfl (lv_at hl 0 rfl) ?_
  obtain ⟨this_report, hs_this_report, hY_this_report⟩ := y_fldR (k := 4) hI.1 hY_this rfl rfl
  refine y_getf X (fl4 X.2.2.2.2.1) hI.1 hY_this rfl hs_this_report cf_d59 ?_
  refine lv_iconst hx hb cf_d62 (v := 0) (by decide) ?_
  refine lv_bipush hx hb cf_d63 (v := 10) (by decide) ?_
  obtain ⟨f_ot_report, hA_ot_report, hB_ot_report⟩ := y_arr hI.1 hY_ot_report rfl rfl
  refine y_acp (bd := this_report) (bs := ot_report) (t := 22) (n := 10) (rest := []) X (x_at 627 (by decide +kernel) rfl) (x_at 629 (by decide +kernel) rfl) (x_at 628 (by decide +kernel) rfl) (x_at 80 (by decide +kernel) rfl) (Nat.le_of_ble_eq_true rfl) (by decide) hY0 hI hY_this_report hY_ot_report rfl hA_ot_report (by decide) (by decide +kernel) hl.1 (Nat.le_of_ble_eq_true rfl) cf_d65 fun H locs hI h_new ho => ?_
  replace hs5 := y_slk hs5 (ho _ (y_ne hY_this hY_this_report rfl))
  replace hs_ot_x := y_slk hs_ot_x (ho _ (y_ne hY_ot hY_this_report rfl))
  replace hs_this_x := y_slk hs_this_x (ho _ (y_ne hY_this hY_this_report rfl))
  replace hs_ot_y := y_slk hs_ot_y (ho _ (y_ne hY_ot hY_this_report rfl))
  replace hs_this_y := y_slk hs_this_y (ho _ (y_ne hY_this hY_this_report rfl))
  replace hs_ot_height := y_slk hs_ot_height (ho _ (y_ne hY_ot hY_this_report rfl))
  replace hs_this_height := y_slk hs_this_height (ho _ (y_ne hY_this hY_this_report rfl))
  replace hs_ot_report := y_slk hs_ot_report (ho _ (y_ne hY_ot hY_this_report rfl))
  replace hs_this_report := y_slk hs_this_report (ho _ (y_ne hY_this hY_this_report rfl))
  replace h12 := fun (q : Nat) (hq : Y0 q = some 2) => Eq.trans (y_slk rfl (ho q (y_ne (y_mon B hI _ _ hq) hY_this_report rfl))) (h12 q hq)
  refine lv_aload_n hx hb cf_d68 rfl (lv_at hl 1 rfl) ?_
  obtain ⟨ot_blame, hs_ot_blame, hY_ot_blame⟩ := y_fldR (k := 5) hI.1 hY_ot rfl rfl
  refine y_getf X (fl5 X.2.2.2.2.1) hI.1 hY_ot rfl hs_ot_blame cf_d69 ?_
  refine lv_iconst hx hb cf_d72 (v := 0) (by decide) ?_
  refine lv_aload_n hx hb cf_d73 rfl (lv_at hl 0 rfl) ?_
  obtain ⟨this_blame, hs_this_blame, hY_this_blame⟩ := y_fldR (k := 5) hI.1 hY_this rfl rfl
  refine y_getf X (fl5 X.2.2.2.2.1) hI.1 hY_this rfl hs_this_blame cf_d74 ?_
  refine lv_iconst hx hb cf_d77 (v := 0) (by decide) ?_
  refine lv_bipush hx hb cf_d78 (v := 10) (by decide) ?_
  obtain ⟨f_ot_blame, hA_ot_blame, hB_ot_blame⟩ := y_arr hI.1 hY_ot_blame rfl rfl
  refine y_acp (bd := this_blame) (bs := ot_blame) (t := 23) (n := 10) (rest := []) X (x_at 627 (by decide +kernel) rfl) (x_at 629 (by decide +kernel) rfl) (x_at 628 (by decide +kernel) rfl) (x_at 80 (by decide +kernel) rfl) (Nat.le_of_ble_eq_true rfl) (by decide) hY0 hI hY_this_blame hY_ot_blame rfl hA_ot_blame (by decide) (by decide +kernel) hl.1 (Nat.le_of_ble_eq_true rfl) cf_d80 fun H locs hI h_new ho => ?_
  replace hs5 := y_slk hs5 (ho _ (y_ne hY_this hY_this_blame rfl))
  replace hs_ot_x := y_slk hs_ot_x (ho _ (y_ne hY_ot hY_this_blame rfl))
  replace hs_this_x := y_slk hs_this_x (ho _ (y_ne hY_this hY_this_blame rfl))
  replace hs_ot_y := y_slk hs_ot_y (ho _ (y_ne hY_ot hY_this_blame rfl))
  replace hs_this_y := y_slk hs_this_y (ho _ (y_ne hY_this hY_this_blame rfl))
  replace hs_ot_height := y_slk hs_ot_height (ho _ (y_ne hY_ot hY_this_blame rfl))
  replace hs_this_height := y_slk hs_this_height (ho _ (y_ne hY_this hY_this_blame rfl))
  replace hs_ot_report := y_slk hs_ot_report (ho _ (y_ne hY_ot hY_this_blame rfl))
  replace hs_this_report := y_slk hs_this_report (ho _ (y_ne hY_this hY_this_blame rfl))
  replace hs_ot_blame := y_slk hs_ot_blame (ho _ (y_ne hY_ot hY_this_blame rfl))
  replace hs_this_blame := y_slk hs_this_blame (ho _ (y_ne hY_this hY_this_blame rfl))
  replace h12 := fun (q : Nat) (hq : Y0 q = some 2) => Eq.trans (y_slk rfl (ho q (y_ne (y_mon B hI _ _ hq) hY_this_blame rfl))) (h12 q hq)
  refine lv_aload_n hx hb cf_d83 rfl (lv_at hl 0 rfl) ?_
  refine lv_aload_n hx hb cf_d84 rfl (lv_at hl 1 rfl) ?_
  obtain ⟨things_85, hs_ot_things, h_things_85⟩ := y_fldI (k := 6) hI.1 hY_ot rfl rfl
  replace h_things_85 : (0 : Int) ≤ things_85.toInt ∧ things_85.toInt ≤ 8 := h_things_85
  refine y_getf X (fl42 X.2.2.2.2.1) hI.1 hY_ot rfl hs_ot_things cf_d85 ?_
  refine y_putf X (fw43 X.2.2.2.2.1) hY0 hI hY_this rfl rfl ⟨_, rfl, by show (0 : Int) ≤ _; omega, by show _ ≤ (8 : Int); omega⟩ (by decide +kernel) cf_d88 fun H sl hI ho hs hk => ?_
  replace hs5 := hk _ _ (by decide +kernel) (by decide) hs5
  replace hs_this_x := hk _ _ (by decide +kernel) (by decide) hs_this_x
  replace hs_this_y := hk _ _ (by decide +kernel) (by decide) hs_this_y
  replace hs_this_height := hk _ _ (by decide +kernel) (by decide) hs_this_height
  replace hs_this_report := hk _ _ (by decide +kernel) (by decide) hs_this_report
  replace hs_this_blame := hk _ _ (by decide +kernel) (by decide) hs_this_blame
  replace h12 := fun (q : Nat) (hq : Y0 q = some 2) => Eq.trans (z_p12 (by decide) (by decide) ho hk q) (h12 q hq)
  replace hs := hs
  have hs88 := hs
  refine lv_iconst hx hb cf_d91 (v := 0) (by decide) ?_
  refine lv_istore_n hx hb cf_d92 rfl hl (by decide) (lv' := [(2, .int (0 : Int32)), (0, .ref this), (1, .ref ot)]) rfl fun ls hl => ?_
  obtain ⟨ts, hs_ts, hY_ts⟩ := y_fldR (k := 7) hI.1 hY_this rfl rfl
  obtain ⟨os, hs_os, hY_os⟩ := y_fldR (k := 7) hI.1 hY_ot rfl rfl
  exact cf_L93 B rfl hYo 9 _ _ _ _ _ hI hY_this hY_ot hY_ts hY_os hs_ts hs_os (lv_sub hl [0, 1, 2] rfl) (by first | assumption | omega) h12 (by omega)
theorem uq_d0 : decode xM110.2.1 0 = .ok (.aload_n 0, 1) := by decide +kernel
theorem uq_d1 : decode xM110.2.1 1 = .ok (.getfield 12, 3) := by decide +kernel
theorem uq_d4 : decode xM110.2.1 4 = .ok (.getfield 254, 3) := by decide +kernel
theorem uq_d7 : decode xM110.2.1 7 = .ok (.istore_n 1, 1) := by decide +kernel
theorem uq_d8 : decode xM110.2.1 8 = .ok (.aload_n 0, 1) := by decide +kernel
theorem uq_d9 : decode xM110.2.1 9 = .ok (.getfield 12, 3) := by decide +kernel
theorem uq_d12 : decode xM110.2.1 12 = .ok (.iconst 0, 1) := by decide +kernel
theorem uq_d13 : decode xM110.2.1 13 = .ok (.putfield 254, 3) := by decide +kernel
theorem uq_d16 : decode xM110.2.1 16 = .ok (.iload_n 1, 1) := by decide +kernel
theorem uq_d17 : decode xM110.2.1 17 = .ok (.ireturn, 1) := by decide +kernel
theorem ym_unword : y_Met vwCl x_G x_Zs x_Tb x_Nb xM110 y_T z_Pun := by
  refine y_main (by decide +kernel) (by decide +kernel) x_Tb_good x_Nb_ok ?_
  intro p l e s m below meth c D U Y0 av ls B hI _ hl
  have X := B.1
  have hx := X.1
  have hb := X.2.1
  have hY0 := B.2.2.2.2.1
  obtain ⟨v0, rfl, hv0⟩ := x_one B.2.2.2.2.2
  obtain ⟨this, t0, rfl, ht0, hY_this⟩ := x_ref_at hv0 rfl
  obtain rfl := List.mem_singleton.mp ht0
  replace hl : lv_has ls xM110.2.2.1 [(0, .ref this)] := hl
  obtain ⟨hd, hs_hd, hY_hd⟩ := y_fldR (k := 0) hI.1 hY_this rfl rfl
  obtain ⟨la, hs_la, h_la⟩ := y_fldI (k := 12) hI.1 hY_hd rfl rfl
  replace h_la : (0 : Int) ≤ la.toInt ∧ la.toInt ≤ 8 := h_la
  have hs0 := hs_hd
  have hl0 := hs_la
  have h12 : ∀ q, Y0 q = some 2 → x_sl D 2 12 q s.heap = x_sl D 2 12 q s.heap := fun _ _ => rfl
  refine lv_aload_n hx hb uq_d0 rfl (lv_at hl 0 rfl) ?_
  refine y_getf X (fl8 X.2.2.2.2.1) hI.1 hY_this rfl hs_hd uq_d1 ?_
  refine y_getf X (fl142 X.2.2.2.2.1) hI.1 hY_hd rfl hs_la uq_d4 ?_
  refine lv_istore_n hx hb uq_d7 rfl hl (by decide) (lv' := [(1, .int la), (0, .ref this)]) rfl fun ls hl => ?_
  refine lv_aload_n hx hb uq_d8 rfl (lv_at hl 1 rfl) ?_
  refine y_getf X (fl8 X.2.2.2.2.1) hI.1 hY_this rfl hs_hd uq_d9 ?_
  refine lv_iconst hx hb uq_d12 (v := 0) (by decide) ?_
  have ec0 : (0 : Int32).toInt = 0 := by decide
  refine y_putf X (fw144 X.2.2.2.2.1) hY0 hI hY_hd rfl rfl ⟨_, rfl, by show (0 : Int) ≤ _; omega, by show _ ≤ (8 : Int); omega⟩ (by decide +kernel) uq_d13 fun H sl hI ho hs hk => ?_
  replace hs_hd := y_slk hs_hd (ho _ (y_ne hY_this hY_hd rfl))
  replace h12 := fun (q : Nat) (hq : Y0 q = some 2) (hnq : q ≠ hd) => Eq.trans (y_slk rfl (ho q hnq)) (h12 q hq)
  have hv12 := hs
  replace hs := hs
  replace hs_la := hs
  refine lv_iload_n hx hb uq_d16 rfl (lv_at hl 0 rfl) ?_
  exact y_ireturn B hI rfl rfl rfl List.mem_cons_self ⟨_, rfl, ⟨_, rfl, h_la⟩⟩ (x_cs.mono B.2.2.2.2.2 (y_mon B hI)) (fun t' d' a' h1 h2 h3 => by cases h1; cases h2.symm.trans hs0; cases h3.symm.trans hl0; exact ⟨rfl, hv12, h12⟩) (Nat.le_refl _) (Nat.le_refl _) uq_d17
theorem lq_d0 : decode xM109.2.1 0 = .ok (.iload_n 1, 1) := by decide +kernel
theorem lq_d1 : decode xM109.2.1 1 = .ok (.iconst 0, 1) := by decide +kernel
theorem lq_d2 : decode xM109.2.1 2 = .ok (.bipush 9, 2) := by decide +kernel
theorem lq_d4 : decode xM109.2.1 4 = .ok (.invokestatic 88, 3) := by decide +kernel
theorem lq_d7 : decode xM109.2.1 7 = .ok (.ifCond .ne 10, 3) := by decide +kernel
theorem lq_d10 : decode xM109.2.1 10 = .ok (.aload_n 0, 1) := by decide +kernel
theorem lq_d11 : decode xM109.2.1 11 = .ok (.bipush (-2), 2) := by decide +kernel
theorem lq_d13 : decode xM109.2.1 13 = .ok (.invokevirtual 59, 3) := by decide +kernel
theorem lq_d16 : decode xM109.2.1 16 = .ok (.ireturn, 1) := by decide +kernel
theorem lq_d17 : decode xM109.2.1 17 = .ok (.aload_n 0, 1) := by decide +kernel
theorem lq_d18 : decode xM109.2.1 18 = .ok (.getfield 12, 3) := by decide +kernel
theorem lq_d21 : decode xM109.2.1 21 = .ok (.getfield 254, 3) := by decide +kernel
theorem lq_d24 : decode xM109.2.1 24 = .ok (.bipush 8, 2) := by decide +kernel
theorem lq_d26 : decode xM109.2.1 26 = .ok (.if_icmp .lt 10, 3) := by decide +kernel
theorem lq_d29 : decode xM109.2.1 29 = .ok (.aload_n 0, 1) := by decide +kernel
theorem lq_d30 : decode xM109.2.1 30 = .ok (.bipush (-4), 2) := by decide +kernel
theorem lq_d32 : decode xM109.2.1 32 = .ok (.invokevirtual 59, 3) := by decide +kernel
theorem lq_d35 : decode xM109.2.1 35 = .ok (.ireturn, 1) := by decide +kernel
theorem lq_d36 : decode xM109.2.1 36 = .ok (.aload_n 0, 1) := by decide +kernel
theorem lq_d37 : decode xM109.2.1 37 = .ok (.getfield 12, 3) := by decide +kernel
theorem lq_d40 : decode xM109.2.1 40 = .ok (.getfield 257, 3) := by decide +kernel
theorem lq_d43 : decode xM109.2.1 43 = .ok (.aload_n 0, 1) := by decide +kernel
theorem lq_d44 : decode xM109.2.1 44 = .ok (.getfield 12, 3) := by decide +kernel
theorem lq_d47 : decode xM109.2.1 47 = .ok (.getfield 254, 3) := by decide +kernel
theorem lq_d50 : decode xM109.2.1 50 = .ok (.iload_n 1, 1) := by decide +kernel
theorem lq_d51 : decode xM109.2.1 51 = .ok (.iastore, 1) := by decide +kernel
theorem lq_d52 : decode xM109.2.1 52 = .ok (.aload_n 0, 1) := by decide +kernel
theorem lq_d53 : decode xM109.2.1 53 = .ok (.getfield 12, 3) := by decide +kernel
theorem lq_d56 : decode xM109.2.1 56 = .ok (.dup, 1) := by decide +kernel
theorem lq_d57 : decode xM109.2.1 57 = .ok (.getfield 254, 3) := by decide +kernel
theorem lq_d60 : decode xM109.2.1 60 = .ok (.iconst 1, 1) := by decide +kernel
theorem lq_d61 : decode xM109.2.1 61 = .ok (.iadd, 1) := by decide +kernel
theorem lq_d62 : decode xM109.2.1 62 = .ok (.putfield 254, 3) := by decide +kernel
theorem lq_d65 : decode xM109.2.1 65 = .ok (.aload_n 0, 1) := by decide +kernel
theorem lq_d66 : decode xM109.2.1 66 = .ok (.getfield 12, 3) := by decide +kernel
theorem lq_d69 : decode xM109.2.1 69 = .ok (.getfield 254, 3) := by decide +kernel
theorem lq_d72 : decode xM109.2.1 72 = .ok (.ireturn, 1) := by decide +kernel
theorem ym_letter : y_Met vwCl x_G x_Zs x_Tb x_Nb xM109 y_T z_Ple := by
  refine y_main (by decide +kernel) (by decide +kernel) x_Tb_good x_Nb_ok ?_
  intro p l e s m below meth c D U Y0 av ls B hI _ hl
  have X := B.1
  have hx := X.1
  have hb := X.2.1
  have hY0 := B.2.2.2.2.1
  obtain ⟨v0, v1, rfl, hv0, ⟨n, rfl, -⟩⟩ := x_two B.2.2.2.2.2
  obtain ⟨this, t0, rfl, ht0, hY_this⟩ := x_ref_at hv0 rfl
  obtain rfl := List.mem_singleton.mp ht0
  replace hl : lv_has ls xM109.2.2.1 [(0, .ref this), (1, .int n)] := hl
  obtain ⟨hd, hs_hd, hY_hd⟩ := y_fldR (k := 0) hI.1 hY_this rfl rfl
  obtain ⟨la, hs_la, h_la⟩ := y_fldI (k := 12) hI.1 hY_hd rfl rfl
  replace h_la : (0 : Int) ≤ la.toInt ∧ la.toInt ≤ 8 := h_la
  have hs0 := hs_hd
  have hl0 := hs_la
  have h12 : ∀ q, Y0 q = some 2 → x_sl D 2 12 q s.heap = x_sl D 2 12 q s.heap := fun _ _ => rfl
  refine lv_iload_n hx hb lq_d0 rfl (lv_at hl 1 rfl) ?_
  refine lv_iconst hx hb lq_d1 (v := 0) (by decide) ?_
  have ec0 : (0 : Int32).toInt = 0 := by decide
  refine lv_bipush hx hb lq_d2 (v := 9) (by decide) ?_
  have ec9 : (9 : Int32).toInt = 9 := by decide
  refine y_call (z := (1, 88, 3, none, xM10)) (av := [.int n, .int (0 : Int32), .int (9 : Int32)]) (rest := []) (y_cokS (n := 3) X ym_within (x_cons (x_at 383 (by decide +kernel) rfl) (x_cons (x_at 369 (by decide +kernel) rfl) (x_cons (x_at 65 (by decide +kernel) rfl) x_nilm))) (x_at 370 (by decide +kernel) rfl) (by decide +kernel) ⟨Nat.le_of_ble_eq_true rfl, Nat.le_of_ble_eq_true rfl⟩) hY0 hI rfl lq_d4 hl.1 (Nat.le_of_ble_eq_true rfl) (Nat.le_of_ble_eq_true rfl) (Nat.le_of_ble_eq_true rfl) (y_cons ⟨_, rfl, x_i32 _⟩ (y_cons ⟨_, rfl, x_i32 _⟩ (y_cons ⟨_, rfl, x_i32 _⟩ y_nil))) rfl (y_norecv rfl) trivial (y_sub_ef rfl) fun v Yn o Hn L ho hr ha hIn hx_ hE hP => ?_
  replace hs_hd := y_Efld hE hY_this rfl (by decide) (by decide) hs_hd
  replace hs_la := y_Efld hE hY_hd rfl (by decide) (by decide) hs_la
  replace h12 := fun (q : Nat) (hq : Y0 q = some 2) => Eq.trans (y_Efld hE (y_mon B hI _ _ hq) rfl (by decide) (by decide) rfl) (h12 q hq)
  replace hY_this := y_ext hx_ hI.1 hY_this
  replace hY_hd := y_ext hx_ hI.1 hY_hd
  obtain ⟨r4, rfl, hin_r4, hout_r4⟩ := hP _ _ _ rfl
  clear ho hr ha hE hP hI hx_
  rename x_I _ _ _ _ _ _ _ _ _ _ => hI
  refine lv_if_ne hx hb lq_d7 (tgt := 17) (by decide) (fun q7 => ?_) (fun q7 => ?_)
  · have q7_ : ¬ r4.toInt = (0 : Int32).toInt := fun q => q7 (Int32.toInt_inj.mp q)
    have hw := hin_r4 q7
    refine lv_aload_n hx hb lq_d17 rfl (lv_at hl 0 rfl) ?_
    refine y_getf X (fl8 X.2.2.2.2.1) hI.1 hY_this rfl hs_hd lq_d18 ?_
    refine y_getf X (fl142 X.2.2.2.2.1) hI.1 hY_hd rfl hs_la lq_d21 ?_
    refine lv_bipush hx hb lq_d24 (v := 8) (by decide) ?_
    have ec8 : (8 : Int32).toInt = 8 := by decide
    refine lv_icmp_lt hx hb lq_d26 (tgt := 36) (by decide) (fun q26 => ?_) (fun q26 => ?_)
    · have q26_ : la.toInt < (8 : Int32).toInt := x_lt32.mp q26
      refine lv_aload_n hx hb lq_d36 rfl (lv_at hl 0 rfl) ?_
      refine y_getf X (fl8 X.2.2.2.2.1) hI.1 hY_this rfl hs_hd lq_d37 ?_
      obtain ⟨hd_word, hs_hd_word, hY_hd_word⟩ := y_fldR (k := 13) hI.1 hY_hd rfl rfl
      refine y_getf X (fl143 X.2.2.2.2.1) hI.1 hY_hd rfl hs_hd_word lq_d40 ?_
      refine lv_aload_n hx hb lq_d43 rfl (lv_at hl 0 rfl) ?_
      refine y_getf X (fl8 X.2.2.2.2.1) hI.1 hY_this rfl hs_hd lq_d44 ?_
      refine y_getf X (fl142 X.2.2.2.2.1) hI.1 hY_hd rfl hs_la lq_d47 ?_
      refine lv_iload_n hx hb lq_d50 rfl (lv_at hl 1 rfl) ?_
      obtain ⟨f_hd_word, hA_hd_word, hB_hd_word⟩ := y_arr hI.1 hY_hd_word rfl rfl
      refine y_iast X hY0 hI hY_hd_word rfl hA_hd_word (by omega) (by show _ < (8 : Int); omega) ⟨_, rfl, x_i32 _⟩ (by decide +kernel) lq_d51 fun H locs hI h_new ho => ?_
      replace hA_hd_word := h_new
      generalize hf_f51 : y_up f_hd_word la.toInt.toNat n = f51 at hA_hd_word
      replace hs_hd := y_slk hs_hd (ho _ (y_ne hY_this hY_hd_word rfl))
      replace hs_la := y_slk hs_la (ho _ (y_ne hY_hd hY_hd_word rfl))
      replace hs_hd_word := y_slk hs_hd_word (ho _ (y_ne hY_hd hY_hd_word rfl))
      replace h12 := fun (q : Nat) (hq : Y0 q = some 2) => Eq.trans (y_slk rfl (ho q (y_ne (y_mon B hI _ _ hq) hY_hd_word rfl))) (h12 q hq)
      refine lv_aload_n hx hb lq_d52 rfl (lv_at hl 0 rfl) ?_
      refine y_getf X (fl8 X.2.2.2.2.1) hI.1 hY_this rfl hs_hd lq_d53 ?_
      refine lv_dup hx hb lq_d56 rfl ?_
      refine y_getf X (fl142 X.2.2.2.2.1) hI.1 hY_hd rfl hs_la lq_d57 ?_
      refine lv_iconst hx hb lq_d60 (v := 1) (by decide) ?_
      have ec1 : (1 : Int32).toInt = 1 := by decide
      refine lv_iadd hx hb lq_d61 ?_
      generalize hg_z61 : la + (1 : Int32) = z61
      have h_z61 : z61.toInt = la.toInt + 1 := by rw [← hg_z61]; have := y_add (x := la) (y := (1 : Int32)) (by rw [ec1]; omega) (by rw [ec1]; omega); rw [ec1] at this; exact this
      refine y_putf X (fw144 X.2.2.2.2.1) hY0 hI hY_hd rfl rfl ⟨_, rfl, by show (0 : Int) ≤ _; omega, by show _ ≤ (8 : Int); omega⟩ (by decide +kernel) lq_d62 fun H sl hI ho hs hk => ?_
      replace hs_hd := y_slk hs_hd (ho _ (y_ne hY_this hY_hd rfl))
      replace hs_hd_word := hk _ _ (by decide +kernel) (by decide) hs_hd_word
      replace hA_hd_word := hA_hd_word.kept (ho _ (y_ne hY_hd_word hY_hd rfl))
      replace h12 := fun (q : Nat) (hq : Y0 q = some 2) (hnq : q ≠ hd) => Eq.trans (y_slk rfl (ho q hnq)) (h12 q hq)
      have hv12 := hs
      replace hs := hs
      replace hs_la := hs
      refine lv_aload_n hx hb lq_d65 rfl (lv_at hl 0 rfl) ?_
      refine y_getf X (fl8 X.2.2.2.2.1) hI.1 hY_this rfl hs_hd lq_d66 ?_
      refine y_getf X (fl142 X.2.2.2.2.1) hI.1 hY_hd rfl hs_la lq_d69 ?_
      exact y_ireturn B hI rfl rfl rfl List.mem_cons_self ⟨_, rfl, ⟨_, rfl, x_i32 _⟩⟩ (x_cs.mono B.2.2.2.2.2 (y_mon B hI)) (fun t' d' n' a' h1 h2 h3 => by cases h1; cases h2.symm.trans hs0; cases h3.symm.trans hl0; exact ⟨_, _, rfl, hv12, h12, fun h => absurd (by omega) h, fun _ h => absurd h (by omega), fun _ _ => ⟨by omega, by omega⟩⟩) (Nat.le_refl _) (Nat.le_refl _) lq_d72
    · have q26_ : (8 : Int32).toInt ≤ la.toInt := Int.not_lt.mp fun q => q26 (x_lt32.mpr q)
      refine lv_aload_n hx hb lq_d29 rfl (lv_at hl 0 rfl) ?_
      refine lv_bipush hx hb lq_d30 (v := (-4)) (by decide) ?_
      have ecm4 : ((-4) : Int32).toInt = (-4) := by decide
      refine y_call (z := (0, 59, 2, some 0, xM8)) (av := [.ref this, .int ((-4) : Int32)]) (rest := []) (y_cokV (n := 1) (ci := 11) X ym_counted rfl rfl rfl (x_cons (x_at 375 (by decide +kernel) rfl) (x_cons (x_at 377 (by decide +kernel) rfl) (x_cons (x_at 1 (by decide +kernel) rfl) (x_cons (x_at 65 (by decide +kernel) rfl) x_nilm)))) (x_at 378 (by decide +kernel) rfl) (by decide +kernel) ⟨Nat.le_of_ble_eq_true rfl, Nat.le_of_ble_eq_true rfl⟩) hY0 hI rfl lq_d32 hl.1 (Nat.le_of_ble_eq_true rfl) (Nat.le_of_ble_eq_true rfl) (Nat.le_of_ble_eq_true rfl) (y_cons (y_cref hY_this rfl) (y_cons ⟨_, rfl, x_i32 _⟩ y_nil)) rfl (y_recv rfl hY_this) trivial (y_sub_ef rfl) fun v Yn o Hn L ho hr ha hIn hx_ hE hP => ?_
      replace hs_hd := y_Efld hE hY_this rfl (by decide) (by decide) hs_hd
      replace hs_la := y_Efld hE hY_hd rfl (by decide) (by decide) hs_la
      replace h12 := fun (q : Nat) (hq : Y0 q = some 2) => Eq.trans (y_Efld hE (y_mon B hI _ _ hq) rfl (by decide) (by decide) rfl) (h12 q hq)
      replace hY_this := y_ext hx_ hI.1 hY_this
      replace hY_hd := y_ext hx_ hI.1 hY_hd
      obtain rfl := hP _ _ rfl
      clear ho hr ha hE hP hI hx_
      rename x_I _ _ _ _ _ _ _ _ _ _ => hI
      exact y_ireturn B hI rfl rfl rfl List.mem_cons_self ⟨_, rfl, ⟨_, rfl, x_i32 _⟩⟩ (x_cs.mono B.2.2.2.2.2 (y_mon B hI)) (fun t' d' n' a' h1 h2 h3 => by cases h1; cases h2.symm.trans hs0; cases h3.symm.trans hl0; exact ⟨_, _, rfl, hs_la, fun q hq _ => h12 q hq, fun h => absurd (by omega) h, fun _ _ => ⟨by decide, rfl⟩, fun _ h => absurd h (by omega)⟩) (Nat.le_refl _) (Nat.le_refl _) lq_d35
  · have q7_ : r4.toInt = (0 : Int32).toInt := by rw [q7]
    have hw := hout_r4 q7
    refine lv_aload_n hx hb lq_d10 rfl (lv_at hl 0 rfl) ?_
    refine lv_bipush hx hb lq_d11 (v := (-2)) (by decide) ?_
    have ecm2 : ((-2) : Int32).toInt = (-2) := by decide
    refine y_call (z := (0, 59, 2, some 0, xM8)) (av := [.ref this, .int ((-2) : Int32)]) (rest := []) (y_cokV (n := 1) (ci := 11) X ym_counted rfl rfl rfl (x_cons (x_at 375 (by decide +kernel) rfl) (x_cons (x_at 377 (by decide +kernel) rfl) (x_cons (x_at 1 (by decide +kernel) rfl) (x_cons (x_at 65 (by decide +kernel) rfl) x_nilm)))) (x_at 378 (by decide +kernel) rfl) (by decide +kernel) ⟨Nat.le_of_ble_eq_true rfl, Nat.le_of_ble_eq_true rfl⟩) hY0 hI rfl lq_d13 hl.1 (Nat.le_of_ble_eq_true rfl) (Nat.le_of_ble_eq_true rfl) (Nat.le_of_ble_eq_true rfl) (y_cons (y_cref hY_this rfl) (y_cons ⟨_, rfl, x_i32 _⟩ y_nil)) rfl (y_recv rfl hY_this) trivial (y_sub_ef rfl) fun v Yn o Hn L ho hr ha hIn hx_ hE hP => ?_
    replace hs_hd := y_Efld hE hY_this rfl (by decide) (by decide) hs_hd
    replace hs_la := y_Efld hE hY_hd rfl (by decide) (by decide) hs_la
    replace h12 := fun (q : Nat) (hq : Y0 q = some 2) => Eq.trans (y_Efld hE (y_mon B hI _ _ hq) rfl (by decide) (by decide) rfl) (h12 q hq)
    replace hY_this := y_ext hx_ hI.1 hY_this
    replace hY_hd := y_ext hx_ hI.1 hY_hd
    obtain rfl := hP _ _ rfl
    clear ho hr ha hE hP hI hx_
    rename x_I _ _ _ _ _ _ _ _ _ _ => hI
    exact y_ireturn B hI rfl rfl rfl List.mem_cons_self ⟨_, rfl, ⟨_, rfl, x_i32 _⟩⟩ (x_cs.mono B.2.2.2.2.2 (y_mon B hI)) (fun t' d' n' a' h1 h2 h3 => by cases h1; cases h2.symm.trans hs0; cases h3.symm.trans hl0; exact ⟨_, _, rfl, hs_la, fun q hq _ => h12 q hq, fun _ => ⟨by decide, rfl⟩, fun h => absurd h (by omega), fun h => absurd h (by omega)⟩) (Nat.le_refl _) (Nat.le_refl _) lq_d16
theorem z_elt0 {D : va_G} {U : State} {Y0 : xY} {H : Heap} {kp j q : Nat} {n : Nat} (_ : ∀ q u, Y0 q = some u → q < n) (hH : x_H D x_G x_Zs U Y0 H) (hY : Y0 kp = some 41) (hv : y_at kp j H = some (.ref q)) : Y0 q = some 2 := by
  obtain ⟨g, g1, g2⟩ := hH.1 kp _ hY
  cases g1.symm.trans (show x_G[41]? = some (.inr (.object "TwinFires$Land", 2, [], xR true [2])) from rfl)
  obtain ⟨cell, w1, w2, w3, w4, w5, w6⟩ := g2
  unfold y_at at hv
  rw [w1] at hv
  rcases w6 j _ hv with ⟨e0, -⟩ | ⟨a, t, e0, ht, h9⟩
  · cases e0
  · cases e0
    obtain rfl := List.mem_singleton.mp ht
    exact h9
theorem fq_d0 : decode xM131.2.1 0 = .ok (.iload_n 1, 1) := by decide +kernel
theorem fq_d1 : decode xM131.2.1 1 = .ok (.iconst 0, 1) := by decide +kernel
theorem fq_d2 : decode xM131.2.1 2 = .ok (.aload_n 0, 1) := by decide +kernel
theorem fq_d3 : decode xM131.2.1 3 = .ok (.getfield 19, 3) := by decide +kernel
theorem fq_d6 : decode xM131.2.1 6 = .ok (.arraylength, 1) := by decide +kernel
theorem fq_d7 : decode xM131.2.1 7 = .ok (.iconst 1, 1) := by decide +kernel
theorem fq_d8 : decode xM131.2.1 8 = .ok (.isub, 1) := by decide +kernel
theorem fq_d9 : decode xM131.2.1 9 = .ok (.invokestatic 88, 3) := by decide +kernel
theorem fq_d12 : decode xM131.2.1 12 = .ok (.ifCond .ne 10, 3) := by decide +kernel
theorem fq_d15 : decode xM131.2.1 15 = .ok (.aload_n 0, 1) := by decide +kernel
theorem fq_d16 : decode xM131.2.1 16 = .ok (.bipush (-2), 2) := by decide +kernel
theorem fq_d18 : decode xM131.2.1 18 = .ok (.invokevirtual 59, 3) := by decide +kernel
theorem fq_d21 : decode xM131.2.1 21 = .ok (.ireturn, 1) := by decide +kernel
theorem fq_d22 : decode xM131.2.1 22 = .ok (.aload_n 0, 1) := by decide +kernel
theorem fq_d23 : decode xM131.2.1 23 = .ok (.getfield 19, 3) := by decide +kernel
theorem fq_d26 : decode xM131.2.1 26 = .ok (.iload_n 1, 1) := by decide +kernel
theorem fq_d27 : decode xM131.2.1 27 = .ok (.aaload, 1) := by decide +kernel
theorem fq_d28 : decode xM131.2.1 28 = .ok (.ifnonnull 10, 3) := by decide +kernel
theorem fq_d31 : decode xM131.2.1 31 = .ok (.aload_n 0, 1) := by decide +kernel
theorem fq_d32 : decode xM131.2.1 32 = .ok (.bipush (-3), 2) := by decide +kernel
theorem fq_d34 : decode xM131.2.1 34 = .ok (.invokevirtual 59, 3) := by decide +kernel
theorem fq_d37 : decode xM131.2.1 37 = .ok (.ireturn, 1) := by decide +kernel
theorem fq_d38 : decode xM131.2.1 38 = .ok (.aload_n 0, 1) := by decide +kernel
theorem fq_d39 : decode xM131.2.1 39 = .ok (.getfield 12, 3) := by decide +kernel
theorem fq_d42 : decode xM131.2.1 42 = .ok (.aload_n 0, 1) := by decide +kernel
theorem fq_d43 : decode xM131.2.1 43 = .ok (.getfield 19, 3) := by decide +kernel
theorem fq_d46 : decode xM131.2.1 46 = .ok (.iload_n 1, 1) := by decide +kernel
theorem fq_d47 : decode xM131.2.1 47 = .ok (.aaload, 1) := by decide +kernel
theorem fq_d48 : decode xM131.2.1 48 = .ok (.invokevirtual 148, 3) := by decide +kernel
theorem fq_d51 : decode xM131.2.1 51 = .ok (.iconst 1, 1) := by decide +kernel
theorem fq_d52 : decode xM131.2.1 52 = .ok (.ireturn, 1) := by decide +kernel
theorem ym_gfrom2 : y_Met vwCl x_G x_Zs x_Tb x_Nb xM131 y_T z_Pfm := by
  refine y_main (by decide +kernel) (by decide +kernel) x_Tb_good x_Nb_ok ?_
  intro p l e s m below meth c D U Y0 av ls B hI _ hl
  have X := B.1
  have hx := X.1
  have hb := X.2.1
  have hY0 := B.2.2.2.2.1
  have hts := X.2.2.2.2.1
  obtain ⟨v0, v1, rfl, hv0', ⟨i, rfl, -⟩⟩ := x_two B.2.2.2.2.2
  obtain ⟨this, t0, rfl, ht0, hY_this⟩ := x_ref_at hv0' rfl
  obtain rfl := List.mem_singleton.mp ht0
  replace hl : lv_has ls xM131.2.2.1 [(0, .ref this), (1, .int i)] := hl
  obtain ⟨hd, hs_hd, hY_hd⟩ := y_fldR (k := 0) hI.1 hY_this rfl rfl
  obtain ⟨kp, hs_kp, hY_kp⟩ := y_fldR (k := 2) hI.1 hY_this rfl rfl
  have hs0 := hs_hd
  have hs2 := hs_kp
  have hYd0 := hY_hd
  have hq_kp : s.heap[kp]? = s.heap[kp]? := rfl
  have h12 : ∀ q, Y0 q = some 2 → x_sl D 2 12 q s.heap = x_sl D 2 12 q s.heap := fun _ _ => rfl
  have hI0 := hI
  have hY_kp0 := hY_kp
  refine lv_iload_n hx hb fq_d0 rfl (lv_at hl 1 rfl) ?_
  refine lv_iconst hx hb fq_d1 (v := 0) (by decide) ?_
  have ec0 : (0 : Int32).toInt = 0 := by decide
  refine lv_aload_n hx hb fq_d2 rfl (lv_at hl 0 rfl) ?_
  refine y_getf X (fl158 X.2.2.2.2.1) hI.1 hY_this rfl hs_kp fq_d3 ?_
  refine y_alen X hI.1 hY_kp rfl fq_d6 ?_
  have h_nI2 : (nI 2).toInt = 2 := by decide
  refine lv_iconst hx hb fq_d7 (v := 1) (by decide) ?_
  have ec1 : (1 : Int32).toInt = 1 := by decide
  refine lv_isub hx hb fq_d8 ?_
  generalize hg_z8 : (nI 2) - (1 : Int32) = z8
  have h_z8 : z8.toInt = (nI 2).toInt - 1 := by rw [← hg_z8]; have := y_sub (x := (nI 2)) (y := (1 : Int32)) (by rw [ec1]; omega) (by rw [ec1]; omega); rw [ec1] at this; exact this
  refine y_call (z := (1, 88, 3, none, xM10)) (av := [.int i, .int (0 : Int32), .int z8]) (rest := []) (y_cokS (n := 3) X ym_within (x_cons (x_at 383 (by decide +kernel) rfl) (x_cons (x_at 369 (by decide +kernel) rfl) (x_cons (x_at 65 (by decide +kernel) rfl) x_nilm))) (x_at 370 (by decide +kernel) rfl) (by decide +kernel) ⟨Nat.le_of_ble_eq_true rfl, Nat.le_of_ble_eq_true rfl⟩) hY0 hI rfl fq_d9 hl.1 (Nat.le_of_ble_eq_true rfl) (Nat.le_of_ble_eq_true rfl) (Nat.le_of_ble_eq_true rfl) (y_cons ⟨_, rfl, x_i32 _⟩ (y_cons ⟨_, rfl, x_i32 _⟩ (y_cons ⟨_, rfl, x_i32 _⟩ y_nil))) rfl (y_norecv rfl) trivial (y_sub_ef rfl) fun v Yn o Hn L ho hr ha hIn hx_ hE hP => ?_
  replace hs_hd := y_Efld hE hY_this rfl (by decide) (by decide) hs_hd
  replace hs_kp := y_Efld hE hY_this rfl (by decide) (by decide) hs_kp
  replace h12 := fun (q : Nat) (hq : Y0 q = some 2) => Eq.trans (y_Efld hE (y_mon B hI _ _ hq) rfl (by decide) (by decide) rfl) (h12 q hq)
  replace hq_kp := (y_Earr hE hY_kp rfl (by decide)).trans hq_kp
  replace hY_this := y_ext hx_ hI.1 hY_this
  replace hY_hd := y_ext hx_ hI.1 hY_hd
  replace hY_kp := y_ext hx_ hI.1 hY_kp
  obtain ⟨r9, rfl, hin_r9, hout_r9⟩ := hP _ _ _ rfl
  clear ho hr ha hE hP hI hx_
  rename x_I _ _ _ _ _ _ _ _ _ _ => hI
  refine lv_if_ne hx hb fq_d12 (tgt := 22) (by decide) (fun q12 => ?_) (fun q12 => ?_)
  · have q12_ : ¬ r9.toInt = (0 : Int32).toInt := fun q => q12 (Int32.toInt_inj.mp q)
    have hw := hin_r9 q12
    refine lv_aload_n hx hb fq_d22 rfl (lv_at hl 0 rfl) ?_
    refine y_getf X (fl158 X.2.2.2.2.1) hI.1 hY_this rfl hs_kp fq_d23 ?_
    refine lv_iload_n hx hb fq_d26 rfl (lv_at hl 1 rfl) ?_
    obtain ⟨v27, hv27, hc27⟩ := y_elt (j := i.toInt.toNat) hI.1 hY_kp rfl (by omega)
    have hv0 : y_at kp i.toInt.toNat s.heap = some v27 := by rw [← z_atk hq_kp]; exact hv27
    refine y_aald X hI.1 hY_kp rfl (by omega) (by show _ < (2 : Int); omega) hv27 fq_d27 ?_
    rcases hc27 with ⟨e27, -⟩ | ⟨q27, t27, e27, ht27, hY_q27⟩
    · subst e27
      refine lv_ifnonnullN hx hb fq_d28 ?_
      refine lv_aload_n hx hb fq_d31 rfl (lv_at hl 0 rfl) ?_
      refine lv_bipush hx hb fq_d32 (v := (-3)) (by decide) ?_
      have ecm3 : ((-3) : Int32).toInt = (-3) := by decide
      refine y_call (z := (0, 59, 2, some 0, xM8)) (av := [.ref this, .int ((-3) : Int32)]) (rest := []) (y_cokV (n := 1) (ci := 11) X ym_counted rfl rfl rfl (x_cons (x_at 375 (by decide +kernel) rfl) (x_cons (x_at 377 (by decide +kernel) rfl) (x_cons (x_at 1 (by decide +kernel) rfl) (x_cons (x_at 65 (by decide +kernel) rfl) x_nilm)))) (x_at 378 (by decide +kernel) rfl) (by decide +kernel) ⟨Nat.le_of_ble_eq_true rfl, Nat.le_of_ble_eq_true rfl⟩) hY0 hI rfl fq_d34 hl.1 (Nat.le_of_ble_eq_true rfl) (Nat.le_of_ble_eq_true rfl) (Nat.le_of_ble_eq_true rfl) (y_cons (y_cref hY_this rfl) (y_cons ⟨_, rfl, x_i32 _⟩ y_nil)) rfl (y_recv rfl hY_this) trivial (y_sub_ef rfl) fun v Yn o Hn L ho hr ha hIn hx_ hE hP => ?_
      replace hs_hd := y_Efld hE hY_this rfl (by decide) (by decide) hs_hd
      replace hs_kp := y_Efld hE hY_this rfl (by decide) (by decide) hs_kp
      replace h12 := fun (q : Nat) (hq : Y0 q = some 2) => Eq.trans (y_Efld hE (y_mon B hI _ _ hq) rfl (by decide) (by decide) rfl) (h12 q hq)
      replace hq_kp := (y_Earr hE hY_kp rfl (by decide)).trans hq_kp
      replace hY_this := y_ext hx_ hI.1 hY_this
      replace hY_hd := y_ext hx_ hI.1 hY_hd
      replace hY_kp := y_ext hx_ hI.1 hY_kp
      obtain rfl := hP _ _ rfl
      clear ho hr ha hE hP hI hx_
      rename x_I _ _ _ _ _ _ _ _ _ _ => hI
      exact y_ireturn B hI rfl rfl rfl List.mem_cons_self ⟨_, rfl, ⟨_, rfl, x_i32 _⟩⟩ (x_cs.mono B.2.2.2.2.2 (y_mon B hI)) (fun t' d' k' i' h1 h2 h3 => by cases h1; cases h2.symm.trans hs0; cases h3.symm.trans hs2; exact ⟨fun q hq _ => h12 q hq, fun h => absurd (by omega) h, fun _ _ => ⟨rfl, h12 _ hYd0⟩, fun _ q hq => by rw [hv0] at hq; cases hq⟩) (Nat.le_refl _) (Nat.le_refl _) fq_d37
    · subst e27
      obtain rfl := List.mem_singleton.mp ht27
      refine lv_ifnonnull hx hb fq_d28 (tgt := 38) (by decide) ?_
      have hY_q0 : Y0 q27 = some 2 := z_elt0 B.2.2.2.2.1 hI0.1 hY_kp0 hv0
      refine lv_aload_n hx hb fq_d38 rfl (lv_at hl 0 rfl) ?_
      refine y_getf X (fl8 X.2.2.2.2.1) hI.1 hY_this rfl hs_hd fq_d39 ?_
      refine lv_aload_n hx hb fq_d42 rfl (lv_at hl 0 rfl) ?_
      refine y_getf X (fl158 X.2.2.2.2.1) hI.1 hY_this rfl hs_kp fq_d43 ?_
      refine lv_iload_n hx hb fq_d46 rfl (lv_at hl 1 rfl) ?_
      refine y_aald X hI.1 hY_kp rfl (by omega) (by show _ < (2 : Int); omega) hv27 fq_d47 ?_
      refine y_call (z := (0, 148, 2, some 2, xM58)) (av := [.ref hd, .ref q27]) (rest := []) (y_cokV (n := 1) (ci := 2) X ym_copyFrom rfl rfl rfl (x_cons (x_at 623 (by decide +kernel) rfl) (x_cons (x_at 624 (by decide +kernel) rfl) (x_cons (x_at 625 (by decide +kernel) rfl) (x_cons (x_at 66 (by decide +kernel) rfl) x_nilm)))) (x_at 626 (by decide +kernel) rfl) (by decide +kernel) ⟨Nat.le_of_ble_eq_true rfl, Nat.le_of_ble_eq_true rfl⟩) hY0 hI rfl fq_d48 hl.1 (Nat.le_of_ble_eq_true rfl) (Nat.le_of_ble_eq_true rfl) (Nat.le_of_ble_eq_true rfl) (y_cons (y_cref hY_hd rfl) (y_cons (y_cref hY_q27 rfl) y_nil)) rfl (y_recv rfl hY_hd) trivial (y_sub_ef rfl) fun v Yn o Hn L ho hr ha hIn hx_ hE hP => ?_
      have hPc := hP _ _ rfl
      replace hs_hd := y_Efld hE hY_this rfl (by decide) (by decide) hs_hd
      replace hs_kp := y_Efld hE hY_this rfl (by decide) (by decide) hs_kp
      have hv12 := Eq.trans (hPc.1) (h12 q27 hY_q0)
      replace h12 := fun (q : Nat) (hq : Y0 q = some 2) (hnq : q ≠ hd) => Eq.trans (hPc.2 q (y_mon B hI _ _ hq) hnq) (h12 q hq)
      replace hq_kp := (y_Earr hE hY_kp rfl (by decide)).trans hq_kp
      replace hY_this := y_ext hx_ hI.1 hY_this
      replace hY_hd := y_ext hx_ hI.1 hY_hd
      replace hY_kp := y_ext hx_ hI.1 hY_kp
      replace hY_q27 := y_ext hx_ hI.1 hY_q27
      obtain rfl := y_ansV rfl ho hr
      clear ho hr ha hE hP hI hx_
      rename x_I _ _ _ _ _ _ _ _ _ _ => hI
      refine lv_iconst hx hb fq_d51 (v := 1) (by decide) ?_
      exact y_ireturn B hI rfl rfl rfl List.mem_cons_self ⟨_, rfl, ⟨_, rfl, x_i32 _⟩⟩ (x_cs.mono B.2.2.2.2.2 (y_mon B hI)) (fun t' d' k' i' h1 h2 h3 => by cases h1; cases h2.symm.trans hs0; cases h3.symm.trans hs2; exact ⟨h12, fun h => absurd (by omega) h, fun _ hq => (by rw [hv0] at hq; cases hq), fun _ q hq => by rw [hv0] at hq; cases hq; exact ⟨rfl, hv12⟩⟩) (Nat.le_refl _) (Nat.le_refl _) fq_d52
  · have q12_ : r9.toInt = (0 : Int32).toInt := by rw [q12]
    have hw := hout_r9 q12
    refine lv_aload_n hx hb fq_d15 rfl (lv_at hl 0 rfl) ?_
    refine lv_bipush hx hb fq_d16 (v := (-2)) (by decide) ?_
    have ecm2 : ((-2) : Int32).toInt = (-2) := by decide
    refine y_call (z := (0, 59, 2, some 0, xM8)) (av := [.ref this, .int ((-2) : Int32)]) (rest := []) (y_cokV (n := 1) (ci := 11) X ym_counted rfl rfl rfl (x_cons (x_at 375 (by decide +kernel) rfl) (x_cons (x_at 377 (by decide +kernel) rfl) (x_cons (x_at 1 (by decide +kernel) rfl) (x_cons (x_at 65 (by decide +kernel) rfl) x_nilm)))) (x_at 378 (by decide +kernel) rfl) (by decide +kernel) ⟨Nat.le_of_ble_eq_true rfl, Nat.le_of_ble_eq_true rfl⟩) hY0 hI rfl fq_d18 hl.1 (Nat.le_of_ble_eq_true rfl) (Nat.le_of_ble_eq_true rfl) (Nat.le_of_ble_eq_true rfl) (y_cons (y_cref hY_this rfl) (y_cons ⟨_, rfl, x_i32 _⟩ y_nil)) rfl (y_recv rfl hY_this) trivial (y_sub_ef rfl) fun v Yn o Hn L ho hr ha hIn hx_ hE hP => ?_
    replace hs_hd := y_Efld hE hY_this rfl (by decide) (by decide) hs_hd
    replace hs_kp := y_Efld hE hY_this rfl (by decide) (by decide) hs_kp
    replace h12 := fun (q : Nat) (hq : Y0 q = some 2) => Eq.trans (y_Efld hE (y_mon B hI _ _ hq) rfl (by decide) (by decide) rfl) (h12 q hq)
    replace hq_kp := (y_Earr hE hY_kp rfl (by decide)).trans hq_kp
    replace hY_this := y_ext hx_ hI.1 hY_this
    replace hY_hd := y_ext hx_ hI.1 hY_hd
    replace hY_kp := y_ext hx_ hI.1 hY_kp
    obtain rfl := hP _ _ rfl
    clear ho hr ha hE hP hI hx_
    rename x_I _ _ _ _ _ _ _ _ _ _ => hI
    exact y_ireturn B hI rfl rfl rfl List.mem_cons_self ⟨_, rfl, ⟨_, rfl, x_i32 _⟩⟩ (x_cs.mono B.2.2.2.2.2 (y_mon B hI)) (fun t' d' k' i' h1 h2 h3 => by cases h1; cases h2.symm.trans hs0; cases h3.symm.trans hs2; exact ⟨fun q hq _ => h12 q hq, fun _ => ⟨rfl, h12 _ hYd0⟩, fun h => absurd h (by omega), fun h => absurd h (by omega)⟩) (Nat.le_refl _) (Nat.le_refl _) fq_d21
theorem gq_d0 : decode xMgi.2.1 0 = .ok (.iload_n 1, 1) := by decide +kernel
theorem gq_d1 : decode xMgi.2.1 1 = .ok (.iconst 0, 1) := by decide +kernel
theorem gq_d2 : decode xMgi.2.1 2 = .ok (.aload_n 0, 1) := by decide +kernel
theorem gq_d3 : decode xMgi.2.1 3 = .ok (.getfield 19, 3) := by decide +kernel
theorem gq_d6 : decode xMgi.2.1 6 = .ok (.arraylength, 1) := by decide +kernel
theorem gq_d7 : decode xMgi.2.1 7 = .ok (.iconst 1, 1) := by decide +kernel
theorem gq_d8 : decode xMgi.2.1 8 = .ok (.isub, 1) := by decide +kernel
theorem gq_d9 : decode xMgi.2.1 9 = .ok (.invokestatic 88, 3) := by decide +kernel
theorem gq_d12 : decode xMgi.2.1 12 = .ok (.ifCond .ne 10, 3) := by decide +kernel
theorem gq_d15 : decode xMgi.2.1 15 = .ok (.aload_n 0, 1) := by decide +kernel
theorem gq_d16 : decode xMgi.2.1 16 = .ok (.bipush (-2), 2) := by decide +kernel
theorem gq_d18 : decode xMgi.2.1 18 = .ok (.invokevirtual 59, 3) := by decide +kernel
theorem gq_d21 : decode xMgi.2.1 21 = .ok (.ireturn, 1) := by decide +kernel
theorem gq_d22 : decode xMgi.2.1 22 = .ok (.aload_n 0, 1) := by decide +kernel
theorem gq_d23 : decode xMgi.2.1 23 = .ok (.getfield 19, 3) := by decide +kernel
theorem gq_d26 : decode xMgi.2.1 26 = .ok (.iload_n 1, 1) := by decide +kernel
theorem gq_d27 : decode xMgi.2.1 27 = .ok (.aaload, 1) := by decide +kernel
theorem gq_d28 : decode xMgi.2.1 28 = .ok (.ifnonnull 16, 3) := by decide +kernel
theorem gq_d31 : decode xMgi.2.1 31 = .ok (.aload_n 0, 1) := by decide +kernel
theorem gq_d32 : decode xMgi.2.1 32 = .ok (.getfield 19, 3) := by decide +kernel
theorem gq_d35 : decode xMgi.2.1 35 = .ok (.iload_n 1, 1) := by decide +kernel
theorem gq_d36 : decode xMgi.2.1 36 = .ok (.new 9, 3) := by decide +kernel
theorem gq_d39 : decode xMgi.2.1 39 = .ok (.dup, 1) := by decide +kernel
theorem gq_d40 : decode xMgi.2.1 40 = .ok (.invokespecial 11, 3) := by decide +kernel
theorem gq_d43 : decode xMgi.2.1 43 = .ok (.aastore, 1) := by decide +kernel
theorem gq_d44 : decode xMgi.2.1 44 = .ok (.aload_n 0, 1) := by decide +kernel
theorem gq_d45 : decode xMgi.2.1 45 = .ok (.getfield 19, 3) := by decide +kernel
theorem gq_d48 : decode xMgi.2.1 48 = .ok (.iload_n 1, 1) := by decide +kernel
theorem gq_d49 : decode xMgi.2.1 49 = .ok (.aaload, 1) := by decide +kernel
theorem gq_d50 : decode xMgi.2.1 50 = .ok (.aload_n 0, 1) := by decide +kernel
theorem gq_d51 : decode xMgi.2.1 51 = .ok (.getfield 12, 3) := by decide +kernel
theorem gq_d54 : decode xMgi.2.1 54 = .ok (.invokevirtual 148, 3) := by decide +kernel
theorem gq_d57 : decode xMgi.2.1 57 = .ok (.iconst 1, 1) := by decide +kernel
theorem gq_d58 : decode xMgi.2.1 58 = .ok (.ireturn, 1) := by decide +kernel
theorem ym_gimage2 : y_Met vwCl x_G x_Zs x_Tb x_Nb xMgi y_T z_Pim := by
  refine y_main (by decide +kernel) (by decide +kernel) x_Tb_good x_Nb_ok ?_
  intro p l e s m below meth c D U Y0 av ls B hI _ hl
  have X := B.1
  have hx := X.1
  have hb := X.2.1
  have hY0 := B.2.2.2.2.1
  have hts := X.2.2.2.2.1
  obtain ⟨v0, v1, rfl, hv0', ⟨i, rfl, -⟩⟩ := x_two B.2.2.2.2.2
  obtain ⟨this, t0, rfl, ht0, hY_this⟩ := x_ref_at hv0' rfl
  obtain rfl := List.mem_singleton.mp ht0
  replace hl : lv_has ls xMgi.2.2.1 [(0, .ref this), (1, .int i)] := hl
  obtain ⟨hd, hs_hd, hY_hd⟩ := y_fldR (k := 0) hI.1 hY_this rfl rfl
  obtain ⟨kp, hs_kp, hY_kp⟩ := y_fldR (k := 2) hI.1 hY_this rfl rfl
  have hs0 := hs_hd
  have hs2 := hs_kp
  have hYd0 := hY_hd
  have hq_kp : s.heap[kp]? = s.heap[kp]? := rfl
  have h12 : ∀ q, Y0 q = some 2 → x_sl D 2 12 q s.heap = x_sl D 2 12 q s.heap := fun _ _ => rfl
  refine lv_iload_n hx hb gq_d0 rfl (lv_at hl 1 rfl) ?_
  refine lv_iconst hx hb gq_d1 (v := 0) (by decide) ?_
  have ec0 : (0 : Int32).toInt = 0 := by decide
  refine lv_aload_n hx hb gq_d2 rfl (lv_at hl 0 rfl) ?_
  refine y_getf X (fl158 X.2.2.2.2.1) hI.1 hY_this rfl hs_kp gq_d3 ?_
  refine y_alen X hI.1 hY_kp rfl gq_d6 ?_
  have h_nI2 : (nI 2).toInt = 2 := by decide
  refine lv_iconst hx hb gq_d7 (v := 1) (by decide) ?_
  have ec1 : (1 : Int32).toInt = 1 := by decide
  refine lv_isub hx hb gq_d8 ?_
  generalize hg_z8 : (nI 2) - (1 : Int32) = z8
  have h_z8 : z8.toInt = (nI 2).toInt - 1 := by rw [← hg_z8]; have := y_sub (x := (nI 2)) (y := (1 : Int32)) (by rw [ec1]; omega) (by rw [ec1]; omega); rw [ec1] at this; exact this
  refine y_call (z := (1, 88, 3, none, xM10)) (av := [.int i, .int (0 : Int32), .int z8]) (rest := []) (y_cokS (n := 3) X ym_within (x_cons (x_at 383 (by decide +kernel) rfl) (x_cons (x_at 369 (by decide +kernel) rfl) (x_cons (x_at 65 (by decide +kernel) rfl) x_nilm))) (x_at 370 (by decide +kernel) rfl) (by decide +kernel) ⟨Nat.le_of_ble_eq_true rfl, Nat.le_of_ble_eq_true rfl⟩) hY0 hI rfl gq_d9 hl.1 (Nat.le_of_ble_eq_true rfl) (Nat.le_of_ble_eq_true rfl) (Nat.le_of_ble_eq_true rfl) (y_cons ⟨_, rfl, x_i32 _⟩ (y_cons ⟨_, rfl, x_i32 _⟩ (y_cons ⟨_, rfl, x_i32 _⟩ y_nil))) rfl (y_norecv rfl) trivial (y_sub_ef rfl) fun v Yn o Hn L ho hr ha hIn hx_ hE hP => ?_
  replace hs_hd := y_Efld hE hY_this rfl (by decide) (by decide) hs_hd
  replace hs_kp := y_Efld hE hY_this rfl (by decide) (by decide) hs_kp
  replace h12 := fun (q : Nat) (hq : Y0 q = some 2) => Eq.trans (y_Efld hE (y_mon B hI _ _ hq) rfl (by decide) (by decide) rfl) (h12 q hq)
  replace hq_kp := (y_Earr hE hY_kp rfl (by decide)).trans hq_kp
  replace hY_this := y_ext hx_ hI.1 hY_this
  replace hY_hd := y_ext hx_ hI.1 hY_hd
  replace hY_kp := y_ext hx_ hI.1 hY_kp
  obtain ⟨r9, rfl, hin_r9, hout_r9⟩ := hP _ _ _ rfl
  clear ho hr ha hE hP hI hx_
  rename x_I _ _ _ _ _ _ _ _ _ _ => hI
  refine lv_if_ne hx hb gq_d12 (tgt := 22) (by decide) (fun q12 => ?_) (fun q12 => ?_)
  · have q12_ : ¬ r9.toInt = (0 : Int32).toInt := fun q => q12 (Int32.toInt_inj.mp q)
    have hw := hin_r9 q12
    refine lv_aload_n hx hb gq_d22 rfl (lv_at hl 0 rfl) ?_
    refine y_getf X (fl158 X.2.2.2.2.1) hI.1 hY_this rfl hs_kp gq_d23 ?_
    refine lv_iload_n hx hb gq_d26 rfl (lv_at hl 1 rfl) ?_
    obtain ⟨v27, hv27, hc27⟩ := y_elt (j := i.toInt.toNat) hI.1 hY_kp rfl (by omega)
    have hv0 : y_at kp i.toInt.toNat s.heap = some v27 := by rw [← z_atk hq_kp]; exact hv27
    refine y_aald X hI.1 hY_kp rfl (by omega) (by show _ < (2 : Int); omega) hv27 gq_d27 ?_
    rcases hc27 with ⟨e27, -⟩ | ⟨q27, t27, e27, ht27, hY_q27⟩
    · subst e27
      refine lv_ifnonnullN hx hb gq_d28 ?_
      refine lv_aload_n hx hb gq_d31 rfl (lv_at hl 0 rfl) ?_
      refine y_getf X (fl158 X.2.2.2.2.1) hI.1 hY_this rfl hs_kp gq_d32 ?_
      refine lv_iload_n hx hb gq_d35 rfl (lv_at hl 1 rfl) ?_
      refine y_newo (tag := 3) X hY0 hI rfl ⟨2, _, RX2, TX2, tyX2, rfl, rfl, iX2, tyX2_ok, (hts _ (x_at 94 (by decide +kernel) rfl)), (hts _ (x_at 95 (by decide +kernel) rfl)), (hts _ (x_at 66 (by decide +kernel) rfl)), x_dfl (by decide +kernel)⟩ (Nat.le_of_ble_eq_true rfl) (Nat.le_of_ble_eq_true rfl) gq_d36 fun Yn H n36 hnw => ?_
      obtain ⟨hIn, hmo, hY_n36, hfr_n36, hke⟩ := hnw
      replace hq_kp := (hke _ _ hY_kp).trans hq_kp
      replace hs_hd := y_slk hs_hd (hke _ _ hY_this)
      replace hs_kp := y_slk hs_kp (hke _ _ hY_this)
      replace h12 := fun (q : Nat) (hq : Y0 q = some 2) => Eq.trans (y_slk rfl (hke _ _ (y_mon B hI _ _ hq))) (h12 q hq)
      replace hY_this := hmo _ _ hY_this
      replace hY_hd := hmo _ _ hY_hd
      replace hY_kp := hmo _ _ hY_kp
      replace hI := hIn
      clear hIn hmo hke
      refine lv_dup hx hb gq_d39 rfl ?_
      refine y_callC (z := (2, 11, 1, none, xMli)) (b := n36) (rest := [.ref n36, .int i, .ref kp]) (y_cokI (n := 0) X ym_landInit rfl (x_cons (x_at 96 (by decide +kernel) rfl) (x_cons (x_at 97 (by decide +kernel) rfl) (x_cons (x_at 66 (by decide +kernel) rfl) x_nilm))) (x_at 98 (by decide +kernel) rfl) rfl (fun Y av h => x_this h) (by decide +kernel) ⟨Nat.le_of_ble_eq_true rfl, Nat.le_of_ble_eq_true rfl⟩) hY0 hI rfl gq_d40 hl.1 (Nat.le_of_ble_eq_true rfl) (Nat.le_of_ble_eq_true rfl) (Nat.le_of_ble_eq_true rfl) (y_cons (y_cref hY_n36 rfl) y_nil) rfl rfl trivial (y_sub_ef rfl) hfr_n36 rfl fun Yn Hn L hIn hY_n hk hE => ?_
      replace hq_kp := (y_Earr hE hY_kp rfl (by decide)).trans hq_kp
      replace hs_hd := y_Efld hE hY_this rfl (by decide) (by decide) hs_hd
      replace hs_kp := y_Efld hE hY_this rfl (by decide) (by decide) hs_kp
      replace h12 := fun (q : Nat) (hq : Y0 q = some 2) => Eq.trans (y_Efld hE (y_mon B hI _ _ hq) rfl (by decide) (by decide) rfl) (h12 q hq)
      replace hY_this := hk _ _ (y_ne hY_this hY_n36 rfl) hY_this
      replace hY_hd := hk _ _ (y_ne hY_hd hY_n36 rfl) hY_hd
      replace hY_kp := hk _ _ (y_ne hY_kp hY_n36 rfl) hY_kp
      replace hY_n36 := hY_n
      clear hI hE hk hY_n
      rename x_I _ _ _ _ _ _ _ _ _ _ => hI
      refine y_aast X hY0 hI hY_kp rfl hY_n36 rfl rfl (x_castSelf (X.2.2.2.2.2.1.1 2 _ rfl).2) (by omega) (by show _ < (2 : Int); omega) (y_crefA hY_n36 rfl) (by decide +kernel) gq_d43 fun H locs hI h_at h_ne ho => ?_
      replace hs_hd := y_slk hs_hd (ho _ (y_ne hY_this hY_kp rfl))
      replace hs_kp := y_slk hs_kp (ho _ (y_ne hY_this hY_kp rfl))
      replace h12 := fun (q : Nat) (hq : Y0 q = some 2) => Eq.trans (y_slk rfl (ho q (y_ne (y_mon B hI _ _ hq) hY_kp rfl))) (h12 q hq)
      have hoth : ∀ j : Nat, j ≠ i.toInt.toNat → y_at kp j H = y_at kp j s.heap := fun j hj => (h_ne j hj).trans (z_atk hq_kp)
      obtain ⟨Hk, hHk⟩ : ∃ Hk : Heap, Hk = H := ⟨_, rfl⟩
      have h_at0 := h_at
      rw [← hHk] at hoth h_at0
      replace hq_kp : H[kp]? = Hk[kp]? := by rw [hHk]
      refine lv_aload_n hx hb gq_d44 rfl (lv_at hl 0 rfl) ?_
      refine y_getf X (fl158 X.2.2.2.2.1) hI.1 hY_this rfl hs_kp gq_d45 ?_
      refine lv_iload_n hx hb gq_d48 rfl (lv_at hl 1 rfl) ?_
      refine y_aald X hI.1 hY_kp rfl (by omega) (by show _ < (2 : Int); omega) h_at gq_d49 ?_
      refine lv_aload_n hx hb gq_d50 rfl (lv_at hl 0 rfl) ?_
      refine y_getf X (fl8 X.2.2.2.2.1) hI.1 hY_this rfl hs_hd gq_d51 ?_
      refine y_call (z := (0, 148, 2, some 2, xM58)) (av := [.ref n36, .ref hd]) (rest := []) (y_cokV (n := 1) (ci := 2) X ym_copyFrom rfl rfl rfl (x_cons (x_at 623 (by decide +kernel) rfl) (x_cons (x_at 624 (by decide +kernel) rfl) (x_cons (x_at 625 (by decide +kernel) rfl) (x_cons (x_at 66 (by decide +kernel) rfl) x_nilm)))) (x_at 626 (by decide +kernel) rfl) (by decide +kernel) ⟨Nat.le_of_ble_eq_true rfl, Nat.le_of_ble_eq_true rfl⟩) hY0 hI rfl gq_d54 hl.1 (Nat.le_of_ble_eq_true rfl) (Nat.le_of_ble_eq_true rfl) (Nat.le_of_ble_eq_true rfl) (y_cons (y_cref hY_n36 rfl) (y_cons (y_cref hY_hd rfl) y_nil)) rfl (y_recv rfl hY_n36) trivial (y_sub_ef rfl) fun v Yn o Hn L ho hr ha hIn hx_ hE hP => ?_
      have hPc := hP _ _ rfl
      replace hs_hd := y_Efld hE hY_this rfl (by decide) (by decide) hs_hd
      replace hs_kp := y_Efld hE hY_this rfl (by decide) (by decide) hs_kp
      have hv12 := Eq.trans (hPc.1) (h12 hd hYd0)
      replace h12 := fun (q : Nat) (hq : Y0 q = some 2) (hnq : q ≠ n36) => Eq.trans (hPc.2 q (y_mon B hI _ _ hq) hnq) (h12 q hq)
      replace hq_kp := (y_Earr hE hY_kp rfl (by decide)).trans hq_kp
      replace hY_this := y_ext hx_ hI.1 hY_this
      replace hY_hd := y_ext hx_ hI.1 hY_hd
      replace hY_kp := y_ext hx_ hI.1 hY_kp
      replace hY_n36 := y_ext hx_ hI.1 hY_n36
      obtain rfl := y_ansV rfl ho hr
      clear ho hr ha hE hP hI hx_
      rename x_I _ _ _ _ _ _ _ _ _ _ => hI
      refine lv_iconst hx hb gq_d57 (v := 1) (by decide) ?_
      exact y_ireturn B hI rfl rfl rfl List.mem_cons_self ⟨_, rfl, ⟨_, rfl, x_i32 _⟩⟩ (x_cs.mono B.2.2.2.2.2 (y_mon B hI)) (fun t' d' k' i' h1 h2 h3 => by cases h1; cases h2.symm.trans hs0; cases h3.symm.trans hs2; exact ⟨fun h => absurd (by omega) h, fun _ => ⟨rfl, n36, (z_atk hq_kp).trans h_at0, hY_n36, Or.inr hfr_n36, hv12, h12, fun j _ hj => (z_atk hq_kp).trans (hoth j hj)⟩⟩) (by exact Nat.le_of_ble_eq_true rfl) (by exact Nat.le_of_ble_eq_true rfl) gq_d58
    · subst e27
      obtain rfl := List.mem_singleton.mp ht27
      refine lv_ifnonnull hx hb gq_d28 (tgt := 44) (by decide) ?_
      refine lv_aload_n hx hb gq_d44 rfl (lv_at hl 0 rfl) ?_
      refine y_getf X (fl158 X.2.2.2.2.1) hI.1 hY_this rfl hs_kp gq_d45 ?_
      refine lv_iload_n hx hb gq_d48 rfl (lv_at hl 1 rfl) ?_
      refine y_aald X hI.1 hY_kp rfl (by omega) (by show _ < (2 : Int); omega) hv27 gq_d49 ?_
      refine lv_aload_n hx hb gq_d50 rfl (lv_at hl 0 rfl) ?_
      refine y_getf X (fl8 X.2.2.2.2.1) hI.1 hY_this rfl hs_hd gq_d51 ?_
      refine y_call (z := (0, 148, 2, some 2, xM58)) (av := [.ref q27, .ref hd]) (rest := []) (y_cokV (n := 1) (ci := 2) X ym_copyFrom rfl rfl rfl (x_cons (x_at 623 (by decide +kernel) rfl) (x_cons (x_at 624 (by decide +kernel) rfl) (x_cons (x_at 625 (by decide +kernel) rfl) (x_cons (x_at 66 (by decide +kernel) rfl) x_nilm)))) (x_at 626 (by decide +kernel) rfl) (by decide +kernel) ⟨Nat.le_of_ble_eq_true rfl, Nat.le_of_ble_eq_true rfl⟩) hY0 hI rfl gq_d54 hl.1 (Nat.le_of_ble_eq_true rfl) (Nat.le_of_ble_eq_true rfl) (Nat.le_of_ble_eq_true rfl) (y_cons (y_cref hY_q27 rfl) (y_cons (y_cref hY_hd rfl) y_nil)) rfl (y_recv rfl hY_q27) trivial (y_sub_ef rfl) fun v Yn o Hn L ho hr ha hIn hx_ hE hP => ?_
      have hPc := hP _ _ rfl
      replace hs_hd := y_Efld hE hY_this rfl (by decide) (by decide) hs_hd
      replace hs_kp := y_Efld hE hY_this rfl (by decide) (by decide) hs_kp
      have hv12 := Eq.trans (hPc.1) (h12 hd hYd0)
      replace h12 := fun (q : Nat) (hq : Y0 q = some 2) (hnq : q ≠ q27) => Eq.trans (hPc.2 q (y_mon B hI _ _ hq) hnq) (h12 q hq)
      replace hq_kp := (y_Earr hE hY_kp rfl (by decide)).trans hq_kp
      replace hY_this := y_ext hx_ hI.1 hY_this
      replace hY_hd := y_ext hx_ hI.1 hY_hd
      replace hY_kp := y_ext hx_ hI.1 hY_kp
      replace hY_q27 := y_ext hx_ hI.1 hY_q27
      obtain rfl := y_ansV rfl ho hr
      clear ho hr ha hE hP hI hx_
      rename x_I _ _ _ _ _ _ _ _ _ _ => hI
      refine lv_iconst hx hb gq_d57 (v := 1) (by decide) ?_
      exact y_ireturn B hI rfl rfl rfl List.mem_cons_self ⟨_, rfl, ⟨_, rfl, x_i32 _⟩⟩ (x_cs.mono B.2.2.2.2.2 (y_mon B hI)) (fun t' d' k' i' h1 h2 h3 => by cases h1; cases h2.symm.trans hs0; cases h3.symm.trans hs2; exact ⟨fun h => absurd (by omega) h, fun _ => ⟨rfl, q27, (z_atk hq_kp).trans hv0, hY_q27, Or.inl hv0, hv12, h12, fun j _ hj => z_atk hq_kp⟩⟩) (by exact Nat.le_of_ble_eq_true rfl) (by exact Nat.le_of_ble_eq_true rfl) gq_d58
  · have q12_ : r9.toInt = (0 : Int32).toInt := by rw [q12]
    have hw := hout_r9 q12
    refine lv_aload_n hx hb gq_d15 rfl (lv_at hl 0 rfl) ?_
    refine lv_bipush hx hb gq_d16 (v := (-2)) (by decide) ?_
    have ecm2 : ((-2) : Int32).toInt = (-2) := by decide
    refine y_call (z := (0, 59, 2, some 0, xM8)) (av := [.ref this, .int ((-2) : Int32)]) (rest := []) (y_cokV (n := 1) (ci := 11) X ym_counted rfl rfl rfl (x_cons (x_at 375 (by decide +kernel) rfl) (x_cons (x_at 377 (by decide +kernel) rfl) (x_cons (x_at 1 (by decide +kernel) rfl) (x_cons (x_at 65 (by decide +kernel) rfl) x_nilm)))) (x_at 378 (by decide +kernel) rfl) (by decide +kernel) ⟨Nat.le_of_ble_eq_true rfl, Nat.le_of_ble_eq_true rfl⟩) hY0 hI rfl gq_d18 hl.1 (Nat.le_of_ble_eq_true rfl) (Nat.le_of_ble_eq_true rfl) (Nat.le_of_ble_eq_true rfl) (y_cons (y_cref hY_this rfl) (y_cons ⟨_, rfl, x_i32 _⟩ y_nil)) rfl (y_recv rfl hY_this) trivial (y_sub_ef rfl) fun v Yn o Hn L ho hr ha hIn hx_ hE hP => ?_
    replace hs_hd := y_Efld hE hY_this rfl (by decide) (by decide) hs_hd
    replace hs_kp := y_Efld hE hY_this rfl (by decide) (by decide) hs_kp
    replace h12 := fun (q : Nat) (hq : Y0 q = some 2) => Eq.trans (y_Efld hE (y_mon B hI _ _ hq) rfl (by decide) (by decide) rfl) (h12 q hq)
    replace hq_kp := (y_Earr hE hY_kp rfl (by decide)).trans hq_kp
    replace hY_this := y_ext hx_ hI.1 hY_this
    replace hY_hd := y_ext hx_ hI.1 hY_hd
    replace hY_kp := y_ext hx_ hI.1 hY_kp
    obtain rfl := hP _ _ rfl
    clear ho hr ha hE hP hI hx_
    rename x_I _ _ _ _ _ _ _ _ _ _ => hI
    exact y_ireturn B hI rfl rfl rfl List.mem_cons_self ⟨_, rfl, ⟨_, rfl, x_i32 _⟩⟩ (x_cs.mono B.2.2.2.2.2 (y_mon B hI)) (fun t' d' k' i' h1 h2 h3 => by cases h1; cases h2.symm.trans hs0; cases h3.symm.trans hs2; exact ⟨fun _ => ⟨rfl, h12, fun j _ => z_atk hq_kp⟩, fun h => absurd h (by omega)⟩) (by exact Nat.le_of_ble_eq_true rfl) (by exact Nat.le_of_ble_eq_true rfl) gq_d21
