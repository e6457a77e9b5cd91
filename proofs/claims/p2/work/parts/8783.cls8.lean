
def z_Pcf8 : yP := fun D av Y H _ _ H' => ∀ this ot mt om : Nat, av = [.ref this, .ref ot] → x_sl D 2 11 this H = some (.ref mt) → x_sl D 2 11 ot H = some (.ref om) → (∀ f, y_A om 12 H f → y_A mt 12 H' f) ∧ ∀ q, Y q = some 28 → q ≠ mt → H'[q]? = H[q]?
def z_Pmi8 : yP := fun D av Y H v _ H' => ∀ (this hd mh : Nat) (h w : Int32) (f : Nat → Int32), av = [.ref this, .int h, .int w] → x_sl D 11 0 this H = some (.ref hd) → x_sl D 2 11 hd H = some (.ref mh) → y_A mh 12 H f → (∀ q, Y q = some 28 → q ≠ mh → H'[q]? = H[q]?) ∧ (¬ z_okm h w → v = some (.int (-2)) ∧ y_A mh 12 H' f) ∧ (z_okm h w → v = some (.int (f h.toInt.toNat)) ∧ y_A mh 12 H' (y_up f h.toInt.toNat w))
def z_Pfm8 : yP := fun D av Y H v _ H' => ∀ (this hd kp mh : Nat) (i : Int32), av = [.ref this, .int i] → x_sl D 11 0 this H = some (.ref hd) → x_sl D 11 2 this H = some (.ref kp) → x_sl D 2 11 hd H = some (.ref mh) → (∀ q, Y q = some 28 → q ≠ mh → H'[q]? = H[q]?) ∧ (¬ (0 ≤ i.toInt ∧ i.toInt ≤ 1) → v = some (.int (-2)) ∧ H'[mh]? = H[mh]?) ∧ (0 ≤ i.toInt ∧ i.toInt ≤ 1 → y_at kp i.toInt.toNat H = some .null → v = some (.int (-3)) ∧ H'[mh]? = H[mh]?) ∧ (0 ≤ i.toInt ∧ i.toInt ≤ 1 → ∀ q mq : Nat, y_at kp i.toInt.toNat H = some (.ref q) → x_sl D 2 11 q H = some (.ref mq) → v = some (.int 1) ∧ ∀ f, y_A mq 12 H f → y_A mh 12 H' f)
def z_Pim8 : yP := fun D av Y H v Y' H' => ∀ (this hd kp mh : Nat) (i : Int32), av = [.ref this, .int i] → x_sl D 11 0 this H = some (.ref hd) → x_sl D 11 2 this H = some (.ref kp) → x_sl D 2 11 hd H = some (.ref mh) → (¬ (0 ≤ i.toInt ∧ i.toInt ≤ 1) → v = some (.int (-2)) ∧ (∀ q, Y q = some 28 → H'[q]? = H[q]?) ∧ (∀ j, j < 2 → y_at kp j H' = y_at kp j H)) ∧ (0 ≤ i.toInt ∧ i.toInt ≤ 1 → v = some (.int 1) ∧ ∃ q0 m0 : Nat, y_at kp i.toInt.toNat H' = some (.ref q0) ∧ Y' q0 = some 2 ∧ x_sl D 2 11 q0 H' = some (.ref m0) ∧ Y' m0 = some 28 ∧ (y_at kp i.toInt.toNat H = some (.ref q0) ∨ H.size ≤ m0) ∧ (∀ f, y_A mh 12 H f → y_A m0 12 H' f) ∧ (∀ q, Y q = some 28 → q ≠ m0 → H'[q]? = H[q]?) ∧ (∀ j, j < 2 → j ≠ i.toInt.toNat → y_at kp j H' = y_at kp j H))
def z_Ptl8 : yP := fun D av Y H v _ H' => ∀ (this hd dr mh md : Nat), av = [.ref this] → x_sl D 11 0 this H = some (.ref hd) → x_sl D 11 1 this H = some (.ref dr) → x_sl D 2 11 hd H = some (.ref mh) → x_sl D 2 11 dr H = some (.ref md) → ((x_sl D 11 0 this H' = some (.ref hd) ∧ x_sl D 11 1 this H' = some (.ref dr)) ∨ (x_sl D 11 0 this H' = some (.ref dr) ∧ x_sl D 11 1 this H' = some (.ref hd))) ∧ (∀ f, y_A mh 12 H f → y_A md 12 H' f) ∧ ∀ q, Y q = some 28 → q ≠ md → H'[q]? = H[q]?
def z_Pli8 : yP := fun D av _ H _ Y' H' => ∀ this : Nat, av = [.ref this] → ∃ mt : Nat, x_sl D 2 11 this H' = some (.ref mt) ∧ Y' mt = some 28 ∧ H.size ≤ mt ∧ y_A mt 12 H' (fun _ => 0)
def z_Pt8 : yP := fun D av _ _ _ Y' H' => ∀ this : Nat, av = [.ref this] → z_Sc D Y' H' this (fun _ => 0) (fun _ => 0) (fun _ _ => 0)
theorem z_pk {D : va_G} {b k j : Nat} {H H' : Heap} {n : Nat} (hn : j < n) (hjk : j ≠ k) (ho : ∀ q, q ≠ b → H'[q]? = H[q]?) (hk : ∀ j w, j < n → j ≠ k → x_sl D 2 j b H = w → x_sl D 2 j b H' = w) (q : Nat) : x_sl D 2 j q H' = x_sl D 2 j q H := by
  by_cases e0 : q = b
  · subst e0; exact hk j _ hn hjk rfl
  · exact y_slk rfl (ho q e0)
theorem z_AE {b N : Nat} {H : Heap} {f g : Nat → Int32} (h : y_A b N H f) (e : ∀ j, j < N → f j = g j) : y_A b N H g := fun j hj => by rw [h j hj, e j hj]
theorem z_AU {b N : Nat} {H H' : Heap} {f g : Nat → Int32} (h : y_A b N H f) (h' : y_A b N H' g) (e : H'[b]? = H[b]?) : ∀ j, j < N → g j = f j := fun j hj => by
  have h1 := h' j hj
  rw [z_atk e, h j hj] at h1
  injection h1 with h1
  injection h1 with h1
  exact h1.symm
theorem c8_d0 : decode xM58.2.1 0 = .ok (.aload_n 0, 1) := by decide +kernel
theorem c8_d1 : decode xM58.2.1 1 = .ok (.aload_n 1, 1) := by decide +kernel
theorem c8_d2 : decode xM58.2.1 2 = .ok (.getfield 63, 3) := by decide +kernel
theorem c8_d5 : decode xM58.2.1 5 = .ok (.putfield 63, 3) := by decide +kernel
theorem c8_d8 : decode xM58.2.1 8 = .ok (.aload_n 1, 1) := by decide +kernel
theorem c8_d9 : decode xM58.2.1 9 = .ok (.getfield 9, 3) := by decide +kernel
theorem c8_d12 : decode xM58.2.1 12 = .ok (.iconst 0, 1) := by decide +kernel
theorem c8_d13 : decode xM58.2.1 13 = .ok (.aload_n 0, 1) := by decide +kernel
theorem c8_d14 : decode xM58.2.1 14 = .ok (.getfield 9, 3) := by decide +kernel
theorem c8_d17 : decode xM58.2.1 17 = .ok (.iconst 0, 1) := by decide +kernel
theorem c8_d18 : decode xM58.2.1 18 = .ok (.bipush 10, 2) := by decide +kernel
theorem c8_d20 : decode xM58.2.1 20 = .ok (.invokestatic 67, 3) := by decide +kernel
theorem c8_d23 : decode xM58.2.1 23 = .ok (.aload_n 1, 1) := by decide +kernel
theorem c8_d24 : decode xM58.2.1 24 = .ok (.getfield 15, 3) := by decide +kernel
theorem c8_d27 : decode xM58.2.1 27 = .ok (.iconst 0, 1) := by decide +kernel
theorem c8_d28 : decode xM58.2.1 28 = .ok (.aload_n 0, 1) := by decide +kernel
theorem c8_d29 : decode xM58.2.1 29 = .ok (.getfield 15, 3) := by decide +kernel
theorem c8_d32 : decode xM58.2.1 32 = .ok (.iconst 0, 1) := by decide +kernel
theorem c8_d33 : decode xM58.2.1 33 = .ok (.bipush 10, 2) := by decide +kernel
theorem c8_d35 : decode xM58.2.1 35 = .ok (.invokestatic 67, 3) := by decide +kernel
theorem c8_d38 : decode xM58.2.1 38 = .ok (.aload_n 1, 1) := by decide +kernel
theorem c8_d39 : decode xM58.2.1 39 = .ok (.getfield 18, 3) := by decide +kernel
theorem c8_d42 : decode xM58.2.1 42 = .ok (.iconst 0, 1) := by decide +kernel
theorem c8_d43 : decode xM58.2.1 43 = .ok (.aload_n 0, 1) := by decide +kernel
theorem c8_d44 : decode xM58.2.1 44 = .ok (.getfield 18, 3) := by decide +kernel
theorem c8_d47 : decode xM58.2.1 47 = .ok (.iconst 0, 1) := by decide +kernel
theorem c8_d48 : decode xM58.2.1 48 = .ok (.bipush 10, 2) := by decide +kernel
theorem c8_d50 : decode xM58.2.1 50 = .ok (.invokestatic 67, 3) := by decide +kernel
theorem c8_d53 : decode xM58.2.1 53 = .ok (.aload_n 1, 1) := by decide +kernel
theorem c8_d54 : decode xM58.2.1 54 = .ok (.getfield 21, 3) := by decide +kernel
theorem c8_d57 : decode xM58.2.1 57 = .ok (.iconst 0, 1) := by decide +kernel
theorem c8_d58 : decode xM58.2.1 58 = .ok (.aload_n 0, 1) := by decide +kernel
theorem c8_d59 : decode xM58.2.1 59 = .ok (.getfield 21, 3) := by decide +kernel
theorem c8_d62 : decode xM58.2.1 62 = .ok (.iconst 0, 1) := by decide +kernel
theorem c8_d63 : decode xM58.2.1 63 = .ok (.bipush 10, 2) := by decide +kernel
theorem c8_d65 : decode xM58.2.1 65 = .ok (.invokestatic 67, 3) := by decide +kernel
theorem c8_d68 : decode xM58.2.1 68 = .ok (.aload_n 1, 1) := by decide +kernel
theorem c8_d69 : decode xM58.2.1 69 = .ok (.getfield 24, 3) := by decide +kernel
theorem c8_d72 : decode xM58.2.1 72 = .ok (.iconst 0, 1) := by decide +kernel
theorem c8_d73 : decode xM58.2.1 73 = .ok (.aload_n 0, 1) := by decide +kernel
theorem c8_d74 : decode xM58.2.1 74 = .ok (.getfield 24, 3) := by decide +kernel
theorem c8_d77 : decode xM58.2.1 77 = .ok (.iconst 0, 1) := by decide +kernel
theorem c8_d78 : decode xM58.2.1 78 = .ok (.bipush 10, 2) := by decide +kernel
theorem c8_d80 : decode xM58.2.1 80 = .ok (.invokestatic 67, 3) := by decide +kernel
theorem c8_d83 : decode xM58.2.1 83 = .ok (.aload_n 0, 1) := by decide +kernel
theorem c8_d84 : decode xM58.2.1 84 = .ok (.aload_n 1, 1) := by decide +kernel
theorem c8_d85 : decode xM58.2.1 85 = .ok (.getfield 73, 3) := by decide +kernel
theorem c8_d88 : decode xM58.2.1 88 = .ok (.putfield 73, 3) := by decide +kernel
theorem c8_d91 : decode xM58.2.1 91 = .ok (.iconst 0, 1) := by decide +kernel
theorem c8_d92 : decode xM58.2.1 92 = .ok (.istore_n 2, 1) := by decide +kernel
theorem c8_d93 : decode xM58.2.1 93 = .ok (.iload_n 2, 1) := by decide +kernel
theorem c8_d94 : decode xM58.2.1 94 = .ok (.bipush 8, 2) := by decide +kernel
theorem c8_d96 : decode xM58.2.1 96 = .ok (.if_icmp .ge 21, 3) := by decide +kernel
theorem c8_d99 : decode xM58.2.1 99 = .ok (.aload_n 0, 1) := by decide +kernel
theorem c8_d100 : decode xM58.2.1 100 = .ok (.getfield 29, 3) := by decide +kernel
theorem c8_d103 : decode xM58.2.1 103 = .ok (.iload_n 2, 1) := by decide +kernel
theorem c8_d104 : decode xM58.2.1 104 = .ok (.aload_n 1, 1) := by decide +kernel
theorem c8_d105 : decode xM58.2.1 105 = .ok (.getfield 29, 3) := by decide +kernel
theorem c8_d108 : decode xM58.2.1 108 = .ok (.iload_n 2, 1) := by decide +kernel
theorem c8_d109 : decode xM58.2.1 109 = .ok (.aaload, 1) := by decide +kernel
theorem c8_d110 : decode xM58.2.1 110 = .ok (.aastore, 1) := by decide +kernel
theorem c8_d111 : decode xM58.2.1 111 = .ok (.iinc 2 1, 3) := by decide +kernel
theorem c8_d114 : decode xM58.2.1 114 = .ok (.goto (-21), 3) := by decide +kernel
theorem c8_d117 : decode xM58.2.1 117 = .ok (.aload_n 1, 1) := by decide +kernel
theorem c8_d118 : decode xM58.2.1 118 = .ok (.getfield 33, 3) := by decide +kernel
theorem c8_d121 : decode xM58.2.1 121 = .ok (.iconst 0, 1) := by decide +kernel
theorem c8_d122 : decode xM58.2.1 122 = .ok (.aload_n 0, 1) := by decide +kernel
theorem c8_d123 : decode xM58.2.1 123 = .ok (.getfield 33, 3) := by decide +kernel
theorem c8_d126 : decode xM58.2.1 126 = .ok (.iconst 0, 1) := by decide +kernel
theorem c8_d127 : decode xM58.2.1 127 = .ok (.bipush 8, 2) := by decide +kernel
theorem c8_d129 : decode xM58.2.1 129 = .ok (.invokestatic 67, 3) := by decide +kernel
theorem c8_d132 : decode xM58.2.1 132 = .ok (.aload_n 1, 1) := by decide +kernel
theorem c8_d133 : decode xM58.2.1 133 = .ok (.getfield 36, 3) := by decide +kernel
theorem c8_d136 : decode xM58.2.1 136 = .ok (.iconst 0, 1) := by decide +kernel
theorem c8_d137 : decode xM58.2.1 137 = .ok (.aload_n 0, 1) := by decide +kernel
theorem c8_d138 : decode xM58.2.1 138 = .ok (.getfield 36, 3) := by decide +kernel
theorem c8_d141 : decode xM58.2.1 141 = .ok (.iconst 0, 1) := by decide +kernel
theorem c8_d142 : decode xM58.2.1 142 = .ok (.bipush 8, 2) := by decide +kernel
theorem c8_d144 : decode xM58.2.1 144 = .ok (.invokestatic 67, 3) := by decide +kernel
theorem c8_d147 : decode xM58.2.1 147 = .ok (.aload_n 1, 1) := by decide +kernel
theorem c8_d148 : decode xM58.2.1 148 = .ok (.getfield 39, 3) := by decide +kernel
theorem c8_d151 : decode xM58.2.1 151 = .ok (.iconst 0, 1) := by decide +kernel
theorem c8_d152 : decode xM58.2.1 152 = .ok (.aload_n 0, 1) := by decide +kernel
theorem c8_d153 : decode xM58.2.1 153 = .ok (.getfield 39, 3) := by decide +kernel
theorem c8_d156 : decode xM58.2.1 156 = .ok (.iconst 0, 1) := by decide +kernel
theorem c8_d157 : decode xM58.2.1 157 = .ok (.aload_n 0, 1) := by decide +kernel
theorem c8_d158 : decode xM58.2.1 158 = .ok (.getfield 39, 3) := by decide +kernel
theorem c8_d161 : decode xM58.2.1 161 = .ok (.arraylength, 1) := by decide +kernel
theorem c8_d162 : decode xM58.2.1 162 = .ok (.invokestatic 67, 3) := by decide +kernel
theorem c8_d165 : decode xM58.2.1 165 = .ok (.aload_n 1, 1) := by decide +kernel
theorem c8_d166 : decode xM58.2.1 166 = .ok (.getfield 42, 3) := by decide +kernel
theorem c8_d169 : decode xM58.2.1 169 = .ok (.iconst 0, 1) := by decide +kernel
theorem c8_d170 : decode xM58.2.1 170 = .ok (.aload_n 0, 1) := by decide +kernel
theorem c8_d171 : decode xM58.2.1 171 = .ok (.getfield 42, 3) := by decide +kernel
theorem c8_d174 : decode xM58.2.1 174 = .ok (.iconst 0, 1) := by decide +kernel
theorem c8_d175 : decode xM58.2.1 175 = .ok (.bipush 12, 2) := by decide +kernel
theorem c8_d177 : decode xM58.2.1 177 = .ok (.invokestatic 67, 3) := by decide +kernel
theorem c8_d180 : decode xM58.2.1 180 = .ok (.aload_n 0, 1) := by decide +kernel
theorem c8_d181 : decode xM58.2.1 181 = .ok (.aload_n 1, 1) := by decide +kernel
theorem c8_d182 : decode xM58.2.1 182 = .ok (.getfield 76, 3) := by decide +kernel
theorem c8_d185 : decode xM58.2.1 185 = .ok (.putfield 76, 3) := by decide +kernel
theorem c8_d188 : decode xM58.2.1 188 = .ok (.aload_n 1, 1) := by decide +kernel
theorem c8_d189 : decode xM58.2.1 189 = .ok (.getfield 45, 3) := by decide +kernel
theorem c8_d192 : decode xM58.2.1 192 = .ok (.iconst 0, 1) := by decide +kernel
theorem c8_d193 : decode xM58.2.1 193 = .ok (.aload_n 0, 1) := by decide +kernel
theorem c8_d194 : decode xM58.2.1 194 = .ok (.getfield 45, 3) := by decide +kernel
theorem c8_d197 : decode xM58.2.1 197 = .ok (.iconst 0, 1) := by decide +kernel
theorem c8_d198 : decode xM58.2.1 198 = .ok (.bipush 8, 2) := by decide +kernel
theorem c8_d200 : decode xM58.2.1 200 = .ok (.invokestatic 67, 3) := by decide +kernel
theorem c8_d203 : decode xM58.2.1 203 = .ok (.aload_n 1, 1) := by decide +kernel
theorem c8_d204 : decode xM58.2.1 204 = .ok (.getfield 48, 3) := by decide +kernel
theorem c8_d207 : decode xM58.2.1 207 = .ok (.iconst 0, 1) := by decide +kernel
theorem c8_d208 : decode xM58.2.1 208 = .ok (.aload_n 0, 1) := by decide +kernel
theorem c8_d209 : decode xM58.2.1 209 = .ok (.getfield 48, 3) := by decide +kernel
theorem c8_d212 : decode xM58.2.1 212 = .ok (.iconst 0, 1) := by decide +kernel
theorem c8_d213 : decode xM58.2.1 213 = .ok (.bipush 12, 2) := by decide +kernel
theorem c8_d215 : decode xM58.2.1 215 = .ok (.invokestatic 67, 3) := by decide +kernel
theorem c8_d218 : decode xM58.2.1 218 = .ok (.aload_n 1, 1) := by decide +kernel
theorem c8_d219 : decode xM58.2.1 219 = .ok (.getfield 51, 3) := by decide +kernel
theorem c8_d222 : decode xM58.2.1 222 = .ok (.iconst 0, 1) := by decide +kernel
theorem c8_d223 : decode xM58.2.1 223 = .ok (.aload_n 0, 1) := by decide +kernel
theorem c8_d224 : decode xM58.2.1 224 = .ok (.getfield 51, 3) := by decide +kernel
theorem c8_d227 : decode xM58.2.1 227 = .ok (.iconst 0, 1) := by decide +kernel
theorem c8_d228 : decode xM58.2.1 228 = .ok (.bipush 12, 2) := by decide +kernel
theorem c8_d230 : decode xM58.2.1 230 = .ok (.invokestatic 67, 3) := by decide +kernel
theorem c8_d233 : decode xM58.2.1 233 = .ok (.return_, 1) := by decide +kernel
theorem c8_L93 {p : Program} {l : Launch} {e : Env} {s : State} {m : MethodId} {below : List Frame} {meth : Method} {c : Code} {D : va_G} {U : State} {Y0 : xY} {av : List Value} (B : y_B vwCl x_Tb x_Nb xM58 p s m meth c D U Y0 av) {this ot ts os mt om : Nat} (hav : av = [.ref this, .ref ot]) (hYo : Y0 om = some 28) (hsA : x_sl D 2 11 this s.heap = some (.ref mt)) (hsB : x_sl D 2 11 ot s.heap = some (.ref om))  :
    ∀ (n : Nat), ∀ (H : Heap) (Y : xY) (locs : List Loc) (ls : Array Slot) (i : Int32), x_I D x_G x_Zs U (x_efs xM58) Y0 s.heap Y H locs → Y this = some 2 → Y ot = some 2 → Y ts = some 24 → Y os = some 24 → Y mt = some 28 → Y om = some 28 → x_sl D 2 7 this H = some (.ref ts) → x_sl D 2 7 ot H = some (.ref os) → x_sl D 2 11 this H = some (.ref mt) → x_sl D 2 11 ot H = some (.ref om) → lv_has ls xM58.2.2.1 [(2, .int i), (0, .ref this), (1, .ref ot)] → (0 ≤ i.toInt ∧ i.toInt ≤ 8) → (∀ q, Y0 q = some 28 → H[q]? = s.heap[q]?) → (8 - i.toInt).toNat < n → W p l e (x_rm xM58) s m av.toArray below meth c H locs 0 0 (y_QQ below D x_G x_Zs U xM58 z_Pcf8 av Y0 s) (F0 m 93 ls []) := by
  have X := B.1
  have hx := X.1
  have hb := X.2.1
  have hY0 := B.2.2.2.2.1
  intro n
  induction n with
  | zero => intro _ _ _ _ _ _ _ _ _ _ _ _ _ _ _ _ _ _ _ h; exact absurd h (Nat.not_lt_zero _)
  | succ n ih =>
    intro H Y locs ls i  hI hY_this hY_ot hY_ts hY_os hY_mt hY_om hs_ts hs_os hs_mt hs_om hl hi h28 hn
    refine lv_iload_n hx hb c8_d93 rfl (lv_at hl 0 rfl) ?_
    refine lv_bipush hx hb c8_d94 (v := 8) (by decide) ?_
    have ec8 : (8 : Int32).toInt = 8 := by decide
    refine lv_icmp_ge hx hb c8_d96 (tgt := 117) (by decide) (fun q96 => ?_) (fun q96 => ?_)
    · have q96_ : (8 : Int32).toInt ≤ i.toInt := x_le32.mp q96
      refine lv_aload_n hx hb c8_d117 rfl (lv_at hl 2 rfl) ?_
      obtain ⟨ot_done, hs_ot_done, hY_ot_done⟩ := y_fldR (k := 8) hI.1 hY_ot rfl rfl
      refine y_getf X (fl40 X.2.2.2.2.1) hI.1 hY_ot rfl hs_ot_done c8_d118 ?_
      refine lv_iconst hx hb c8_d121 (v := 0) (by decide) ?_
      have ec0 : (0 : Int32).toInt = 0 := by decide
      refine lv_aload_n hx hb c8_d122 rfl (lv_at hl 1 rfl) ?_
      obtain ⟨this_done, hs_this_done, hY_this_done⟩ := y_fldR (k := 8) hI.1 hY_this rfl rfl
      refine y_getf X (fl40 X.2.2.2.2.1) hI.1 hY_this rfl hs_this_done c8_d123 ?_
      refine lv_iconst hx hb c8_d126 (v := 0) (by decide) ?_
      refine lv_bipush hx hb c8_d127 (v := 8) (by decide) ?_
      obtain ⟨f_ot_done, hA_ot_done, hB_ot_done⟩ := y_arr hI.1 hY_ot_done rfl rfl
      refine y_acp (bd := this_done) (bs := ot_done) (t := 25) (n := 8) (rest := []) X (x_at 627 (by decide +kernel) rfl) (x_at 629 (by decide +kernel) rfl) (x_at 628 (by decide +kernel) rfl) (x_at 80 (by decide +kernel) rfl) (Nat.le_of_ble_eq_true rfl) (by decide) hY0 hI hY_this_done hY_ot_done rfl hA_ot_done (by decide) (by decide +kernel) hl.1 (Nat.le_of_ble_eq_true rfl) c8_d129 fun H locs hI h_new ho => ?_
      replace hs_ts := y_slk hs_ts (ho _ (y_ne hY_this hY_this_done rfl))
      replace hs_os := y_slk hs_os (ho _ (y_ne hY_ot hY_this_done rfl))
      replace hs_mt := y_slk hs_mt (ho _ (y_ne hY_this hY_this_done rfl))
      replace hs_om := y_slk hs_om (ho _ (y_ne hY_ot hY_this_done rfl))
      replace hs_ot_done := y_slk hs_ot_done (ho _ (y_ne hY_ot hY_this_done rfl))
      replace hs_this_done := y_slk hs_this_done (ho _ (y_ne hY_this hY_this_done rfl))
      replace h28 := fun (q : Nat) (hq : Y0 q = some 28) => Eq.trans (ho q (y_ne (y_mon B hI _ _ hq) hY_this_done rfl)) (h28 q hq)
      refine lv_aload_n hx hb c8_d132 rfl (lv_at hl 2 rfl) ?_
      obtain ⟨ot_cost, hs_ot_cost, hY_ot_cost⟩ := y_fldR (k := 9) hI.1 hY_ot rfl rfl
      refine y_getf X (fl41 X.2.2.2.2.1) hI.1 hY_ot rfl hs_ot_cost c8_d133 ?_
      refine lv_iconst hx hb c8_d136 (v := 0) (by decide) ?_
      refine lv_aload_n hx hb c8_d137 rfl (lv_at hl 1 rfl) ?_
      obtain ⟨this_cost, hs_this_cost, hY_this_cost⟩ := y_fldR (k := 9) hI.1 hY_this rfl rfl
      refine y_getf X (fl41 X.2.2.2.2.1) hI.1 hY_this rfl hs_this_cost c8_d138 ?_
      refine lv_iconst hx hb c8_d141 (v := 0) (by decide) ?_
      refine lv_bipush hx hb c8_d142 (v := 8) (by decide) ?_
      obtain ⟨f_ot_cost, hA_ot_cost, hB_ot_cost⟩ := y_arr hI.1 hY_ot_cost rfl rfl
      refine y_acp (bd := this_cost) (bs := ot_cost) (t := 26) (n := 8) (rest := []) X (x_at 627 (by decide +kernel) rfl) (x_at 629 (by decide +kernel) rfl) (x_at 628 (by decide +kernel) rfl) (x_at 80 (by decide +kernel) rfl) (Nat.le_of_ble_eq_true rfl) (by decide) hY0 hI hY_this_cost hY_ot_cost rfl hA_ot_cost (by decide) (by decide +kernel) hl.1 (Nat.le_of_ble_eq_true rfl) c8_d144 fun H locs hI h_new ho => ?_
      replace hs_ts := y_slk hs_ts (ho _ (y_ne hY_this hY_this_cost rfl))
      replace hs_os := y_slk hs_os (ho _ (y_ne hY_ot hY_this_cost rfl))
      replace hs_mt := y_slk hs_mt (ho _ (y_ne hY_this hY_this_cost rfl))
      replace hs_om := y_slk hs_om (ho _ (y_ne hY_ot hY_this_cost rfl))
      replace hs_ot_done := y_slk hs_ot_done (ho _ (y_ne hY_ot hY_this_cost rfl))
      replace hs_this_done := y_slk hs_this_done (ho _ (y_ne hY_this hY_this_cost rfl))
      replace hs_ot_cost := y_slk hs_ot_cost (ho _ (y_ne hY_ot hY_this_cost rfl))
      replace hs_this_cost := y_slk hs_this_cost (ho _ (y_ne hY_this hY_this_cost rfl))
      replace h28 := fun (q : Nat) (hq : Y0 q = some 28) => Eq.trans (ho q (y_ne (y_mon B hI _ _ hq) hY_this_cost rfl)) (h28 q hq)
      refine lv_aload_n hx hb c8_d147 rfl (lv_at hl 2 rfl) ?_
      obtain ⟨ot_dial, hs_ot_dial, hY_ot_dial⟩ := y_fldR (k := 10) hI.1 hY_ot rfl rfl
      refine y_getf X (fl44 X.2.2.2.2.1) hI.1 hY_ot rfl hs_ot_dial c8_d148 ?_
      refine lv_iconst hx hb c8_d151 (v := 0) (by decide) ?_
      refine lv_aload_n hx hb c8_d152 rfl (lv_at hl 1 rfl) ?_
      obtain ⟨this_dial, hs_this_dial, hY_this_dial⟩ := y_fldR (k := 10) hI.1 hY_this rfl rfl
      refine y_getf X (fl44 X.2.2.2.2.1) hI.1 hY_this rfl hs_this_dial c8_d153 ?_
      refine lv_iconst hx hb c8_d156 (v := 0) (by decide) ?_
      refine lv_aload_n hx hb c8_d157 rfl (lv_at hl 1 rfl) ?_
      refine y_getf X (fl44 X.2.2.2.2.1) hI.1 hY_this rfl hs_this_dial c8_d158 ?_
      refine y_alen X hI.1 hY_this_dial rfl c8_d161 ?_
      have h_nI4 : (nI 4).toInt = 4 := by decide
      obtain ⟨f_ot_dial, hA_ot_dial, hB_ot_dial⟩ := y_arr hI.1 hY_ot_dial rfl rfl
      refine y_acp (bd := this_dial) (bs := ot_dial) (t := 27) (n := 4) (rest := []) X (x_at 627 (by decide +kernel) rfl) (x_at 629 (by decide +kernel) rfl) (x_at 628 (by decide +kernel) rfl) (x_at 80 (by decide +kernel) rfl) (Nat.le_of_ble_eq_true rfl) (by decide) hY0 hI hY_this_dial hY_ot_dial rfl hA_ot_dial (by decide) (by decide +kernel) hl.1 (Nat.le_of_ble_eq_true rfl) c8_d162 fun H locs hI h_new ho => ?_
      replace hs_ts := y_slk hs_ts (ho _ (y_ne hY_this hY_this_dial rfl))
      replace hs_os := y_slk hs_os (ho _ (y_ne hY_ot hY_this_dial rfl))
      replace hs_mt := y_slk hs_mt (ho _ (y_ne hY_this hY_this_dial rfl))
      replace hs_om := y_slk hs_om (ho _ (y_ne hY_ot hY_this_dial rfl))
      replace hs_ot_done := y_slk hs_ot_done (ho _ (y_ne hY_ot hY_this_dial rfl))
      replace hs_this_done := y_slk hs_this_done (ho _ (y_ne hY_this hY_this_dial rfl))
      replace hs_ot_cost := y_slk hs_ot_cost (ho _ (y_ne hY_ot hY_this_dial rfl))
      replace hs_this_cost := y_slk hs_this_cost (ho _ (y_ne hY_this hY_this_dial rfl))
      replace hs_ot_dial := y_slk hs_ot_dial (ho _ (y_ne hY_ot hY_this_dial rfl))
      replace hs_this_dial := y_slk hs_this_dial (ho _ (y_ne hY_this hY_this_dial rfl))
      replace h28 := fun (q : Nat) (hq : Y0 q = some 28) => Eq.trans (ho q (y_ne (y_mon B hI _ _ hq) hY_this_dial rfl)) (h28 q hq)
      refine lv_aload_n hx hb c8_d165 rfl (lv_at hl 2 rfl) ?_
      refine y_getf X (fl123 X.2.2.2.2.1) hI.1 hY_ot rfl hs_om c8_d166 ?_
      refine lv_iconst hx hb c8_d169 (v := 0) (by decide) ?_
      refine lv_aload_n hx hb c8_d170 rfl (lv_at hl 1 rfl) ?_
      refine y_getf X (fl123 X.2.2.2.2.1) hI.1 hY_this rfl hs_mt c8_d171 ?_
      refine lv_iconst hx hb c8_d174 (v := 0) (by decide) ?_
      refine lv_bipush hx hb c8_d175 (v := 12) (by decide) ?_
      have ec12 : (12 : Int32).toInt = 12 := by decide
      obtain ⟨f_om, hA_om, hB_om⟩ := y_arr hI.1 hY_om rfl rfl
      have hAo := hA_om
      refine y_acp (bd := mt) (bs := om) (t := 28) (n := 12) (rest := []) X (x_at 627 (by decide +kernel) rfl) (x_at 629 (by decide +kernel) rfl) (x_at 628 (by decide +kernel) rfl) (x_at 80 (by decide +kernel) rfl) (Nat.le_of_ble_eq_true rfl) (by decide) hY0 hI hY_mt hY_om rfl hA_om (by decide) (by decide +kernel) hl.1 (Nat.le_of_ble_eq_true rfl) c8_d177 fun H locs hI h_new ho => ?_
      replace hs_ts := y_slk hs_ts (ho _ (y_ne hY_this hY_mt rfl))
      replace hs_os := y_slk hs_os (ho _ (y_ne hY_ot hY_mt rfl))
      replace hs_mt := y_slk hs_mt (ho _ (y_ne hY_this hY_mt rfl))
      replace hs_om := y_slk hs_om (ho _ (y_ne hY_ot hY_mt rfl))
      replace hs_ot_done := y_slk hs_ot_done (ho _ (y_ne hY_ot hY_mt rfl))
      replace hs_this_done := y_slk hs_this_done (ho _ (y_ne hY_this hY_mt rfl))
      replace hs_ot_cost := y_slk hs_ot_cost (ho _ (y_ne hY_ot hY_mt rfl))
      replace hs_this_cost := y_slk hs_this_cost (ho _ (y_ne hY_this hY_mt rfl))
      replace hs_ot_dial := y_slk hs_ot_dial (ho _ (y_ne hY_ot hY_mt rfl))
      replace hs_this_dial := y_slk hs_this_dial (ho _ (y_ne hY_this hY_mt rfl))
      have hv28 := fun (f : Nat → Int32) (hf : y_A om 12 s.heap f) => z_AE h_new (z_AU hf hAo (h28 om hYo))
      replace h28 := fun (q : Nat) (hq : Y0 q = some 28) (hnq : q ≠ mt) => Eq.trans (ho q hnq) (h28 q hq)
      refine lv_aload_n hx hb c8_d180 rfl (lv_at hl 1 rfl) ?_
      refine lv_aload_n hx hb c8_d181 rfl (lv_at hl 2 rfl) ?_
      obtain ⟨letters_182, hs_ot_letters, h_letters_182⟩ := y_fldI (k := 12) hI.1 hY_ot rfl rfl
      replace h_letters_182 : (0 : Int) ≤ letters_182.toInt ∧ letters_182.toInt ≤ 8 := h_letters_182
      refine y_getf X (fl127 X.2.2.2.2.1) hI.1 hY_ot rfl hs_ot_letters c8_d182 ?_
      refine y_putf X (fw128 X.2.2.2.2.1) hY0 hI hY_this rfl rfl ⟨_, rfl, by show (0 : Int) ≤ _; omega, by show _ ≤ (8 : Int); omega⟩ (by decide +kernel) c8_d185 fun H sl hI ho hs hk => ?_
      replace hs_ts := hk _ _ (by decide +kernel) (by decide) hs_ts
      replace hs_mt := hk _ _ (by decide +kernel) (by decide) hs_mt
      replace hs_this_done := hk _ _ (by decide +kernel) (by decide) hs_this_done
      replace hs_this_cost := hk _ _ (by decide +kernel) (by decide) hs_this_cost
      replace hs_this_dial := hk _ _ (by decide +kernel) (by decide) hs_this_dial
      replace h28 := fun (q : Nat) (hq : Y0 q = some 28) (hnq : q ≠ mt) => Eq.trans (ho q (y_ne (y_mon B hI _ _ hq) hY_this rfl)) (h28 q hq hnq)
      replace hv28 := fun (f : Nat → Int32) hf => (hv28 f hf).kept (ho _ (y_ne hY_mt hY_this rfl))
      replace hs := hs
      have hs185 := hs
      replace hs_os := (z_pk (by decide) (by decide) ho hk _).trans hs_os
      replace hs_om := (z_pk (by decide) (by decide) ho hk _).trans hs_om
      refine lv_aload_n hx hb c8_d188 rfl (lv_at hl 2 rfl) ?_
      obtain ⟨ot_word, hs_ot_word, hY_ot_word⟩ := y_fldR (k := 13) hI.1 hY_ot rfl rfl
      refine y_getf X (fl124 X.2.2.2.2.1) hI.1 hY_ot rfl hs_ot_word c8_d189 ?_
      refine lv_iconst hx hb c8_d192 (v := 0) (by decide) ?_
      refine lv_aload_n hx hb c8_d193 rfl (lv_at hl 1 rfl) ?_
      obtain ⟨this_word, hs_this_word, hY_this_word⟩ := y_fldR (k := 13) hI.1 hY_this rfl rfl
      refine y_getf X (fl124 X.2.2.2.2.1) hI.1 hY_this rfl hs_this_word c8_d194 ?_
      refine lv_iconst hx hb c8_d197 (v := 0) (by decide) ?_
      refine lv_bipush hx hb c8_d198 (v := 8) (by decide) ?_
      obtain ⟨f_ot_word, hA_ot_word, hB_ot_word⟩ := y_arr hI.1 hY_ot_word rfl rfl
      refine y_acp (bd := this_word) (bs := ot_word) (t := 29) (n := 8) (rest := []) X (x_at 627 (by decide +kernel) rfl) (x_at 629 (by decide +kernel) rfl) (x_at 628 (by decide +kernel) rfl) (x_at 80 (by decide +kernel) rfl) (Nat.le_of_ble_eq_true rfl) (by decide) hY0 hI hY_this_word hY_ot_word rfl hA_ot_word (by decide) (by decide +kernel) hl.1 (Nat.le_of_ble_eq_true rfl) c8_d200 fun H locs hI h_new ho => ?_
      replace hs_ts := y_slk hs_ts (ho _ (y_ne hY_this hY_this_word rfl))
      replace hs_mt := y_slk hs_mt (ho _ (y_ne hY_this hY_this_word rfl))
      replace hs_this_done := y_slk hs_this_done (ho _ (y_ne hY_this hY_this_word rfl))
      replace hs_this_cost := y_slk hs_this_cost (ho _ (y_ne hY_this hY_this_word rfl))
      replace hs_this_dial := y_slk hs_this_dial (ho _ (y_ne hY_this hY_this_word rfl))
      replace hs185 := y_slk hs185 (ho _ (y_ne hY_this hY_this_word rfl))
      replace hs_os := y_slk hs_os (ho _ (y_ne hY_ot hY_this_word rfl))
      replace hs_om := y_slk hs_om (ho _ (y_ne hY_ot hY_this_word rfl))
      replace hs_ot_word := y_slk hs_ot_word (ho _ (y_ne hY_ot hY_this_word rfl))
      replace hs_this_word := y_slk hs_this_word (ho _ (y_ne hY_this hY_this_word rfl))
      replace h28 := fun (q : Nat) (hq : Y0 q = some 28) (hnq : q ≠ mt) => Eq.trans (ho q (y_ne (y_mon B hI _ _ hq) hY_this_word rfl)) (h28 q hq hnq)
      replace hv28 := fun (f : Nat → Int32) hf => (hv28 f hf).kept (ho _ (y_ne hY_mt hY_this_word rfl))
      refine lv_aload_n hx hb c8_d203 rfl (lv_at hl 2 rfl) ?_
      obtain ⟨ot_nightHill, hs_ot_nightHill, hY_ot_nightHill⟩ := y_fldR (k := 14) hI.1 hY_ot rfl rfl
      refine y_getf X (fl125 X.2.2.2.2.1) hI.1 hY_ot rfl hs_ot_nightHill c8_d204 ?_
      refine lv_iconst hx hb c8_d207 (v := 0) (by decide) ?_
      refine lv_aload_n hx hb c8_d208 rfl (lv_at hl 1 rfl) ?_
      obtain ⟨this_nightHill, hs_this_nightHill, hY_this_nightHill⟩ := y_fldR (k := 14) hI.1 hY_this rfl rfl
      refine y_getf X (fl125 X.2.2.2.2.1) hI.1 hY_this rfl hs_this_nightHill c8_d209 ?_
      refine lv_iconst hx hb c8_d212 (v := 0) (by decide) ?_
      refine lv_bipush hx hb c8_d213 (v := 12) (by decide) ?_
      obtain ⟨f_ot_nightHill, hA_ot_nightHill, hB_ot_nightHill⟩ := y_arr hI.1 hY_ot_nightHill rfl rfl
      refine y_acp (bd := this_nightHill) (bs := ot_nightHill) (t := 30) (n := 12) (rest := []) X (x_at 627 (by decide +kernel) rfl) (x_at 629 (by decide +kernel) rfl) (x_at 628 (by decide +kernel) rfl) (x_at 80 (by decide +kernel) rfl) (Nat.le_of_ble_eq_true rfl) (by decide) hY0 hI hY_this_nightHill hY_ot_nightHill rfl hA_ot_nightHill (by decide) (by decide +kernel) hl.1 (Nat.le_of_ble_eq_true rfl) c8_d215 fun H locs hI h_new ho => ?_
      replace hs_ts := y_slk hs_ts (ho _ (y_ne hY_this hY_this_nightHill rfl))
      replace hs_mt := y_slk hs_mt (ho _ (y_ne hY_this hY_this_nightHill rfl))
      replace hs_this_done := y_slk hs_this_done (ho _ (y_ne hY_this hY_this_nightHill rfl))
      replace hs_this_cost := y_slk hs_this_cost (ho _ (y_ne hY_this hY_this_nightHill rfl))
      replace hs_this_dial := y_slk hs_this_dial (ho _ (y_ne hY_this hY_this_nightHill rfl))
      replace hs185 := y_slk hs185 (ho _ (y_ne hY_this hY_this_nightHill rfl))
      replace hs_os := y_slk hs_os (ho _ (y_ne hY_ot hY_this_nightHill rfl))
      replace hs_om := y_slk hs_om (ho _ (y_ne hY_ot hY_this_nightHill rfl))
      replace hs_ot_word := y_slk hs_ot_word (ho _ (y_ne hY_ot hY_this_nightHill rfl))
      replace hs_this_word := y_slk hs_this_word (ho _ (y_ne hY_this hY_this_nightHill rfl))
      replace hs_ot_nightHill := y_slk hs_ot_nightHill (ho _ (y_ne hY_ot hY_this_nightHill rfl))
      replace hs_this_nightHill := y_slk hs_this_nightHill (ho _ (y_ne hY_this hY_this_nightHill rfl))
      replace h28 := fun (q : Nat) (hq : Y0 q = some 28) (hnq : q ≠ mt) => Eq.trans (ho q (y_ne (y_mon B hI _ _ hq) hY_this_nightHill rfl)) (h28 q hq hnq)
      replace hv28 := fun (f : Nat → Int32) hf => (hv28 f hf).kept (ho _ (y_ne hY_mt hY_this_nightHill rfl))
      refine lv_aload_n hx hb c8_d218 rfl (lv_at hl 2 rfl) ?_
      obtain ⟨ot_nightHow, hs_ot_nightHow, hY_ot_nightHow⟩ := y_fldR (k := 15) hI.1 hY_ot rfl rfl
      refine y_getf X (fl126 X.2.2.2.2.1) hI.1 hY_ot rfl hs_ot_nightHow c8_d219 ?_
      refine lv_iconst hx hb c8_d222 (v := 0) (by decide) ?_
      refine lv_aload_n hx hb c8_d223 rfl (lv_at hl 1 rfl) ?_
      obtain ⟨this_nightHow, hs_this_nightHow, hY_this_nightHow⟩ := y_fldR (k := 15) hI.1 hY_this rfl rfl
      refine y_getf X (fl126 X.2.2.2.2.1) hI.1 hY_this rfl hs_this_nightHow c8_d224 ?_
      refine lv_iconst hx hb c8_d227 (v := 0) (by decide) ?_
      refine lv_bipush hx hb c8_d228 (v := 12) (by decide) ?_
      obtain ⟨f_ot_nightHow, hA_ot_nightHow, hB_ot_nightHow⟩ := y_arr hI.1 hY_ot_nightHow rfl rfl
      refine y_acp (bd := this_nightHow) (bs := ot_nightHow) (t := 31) (n := 12) (rest := []) X (x_at 627 (by decide +kernel) rfl) (x_at 629 (by decide +kernel) rfl) (x_at 628 (by decide +kernel) rfl) (x_at 80 (by decide +kernel) rfl) (Nat.le_of_ble_eq_true rfl) (by decide) hY0 hI hY_this_nightHow hY_ot_nightHow rfl hA_ot_nightHow (by decide) (by decide +kernel) hl.1 (Nat.le_of_ble_eq_true rfl) c8_d230 fun H locs hI h_new ho => ?_
      replace hs_ts := y_slk hs_ts (ho _ (y_ne hY_this hY_this_nightHow rfl))
      replace hs_mt := y_slk hs_mt (ho _ (y_ne hY_this hY_this_nightHow rfl))
      replace hs_this_done := y_slk hs_this_done (ho _ (y_ne hY_this hY_this_nightHow rfl))
      replace hs_this_cost := y_slk hs_this_cost (ho _ (y_ne hY_this hY_this_nightHow rfl))
      replace hs_this_dial := y_slk hs_this_dial (ho _ (y_ne hY_this hY_this_nightHow rfl))
      replace hs185 := y_slk hs185 (ho _ (y_ne hY_this hY_this_nightHow rfl))
      replace hs_os := y_slk hs_os (ho _ (y_ne hY_ot hY_this_nightHow rfl))
      replace hs_om := y_slk hs_om (ho _ (y_ne hY_ot hY_this_nightHow rfl))
      replace hs_ot_word := y_slk hs_ot_word (ho _ (y_ne hY_ot hY_this_nightHow rfl))
      replace hs_this_word := y_slk hs_this_word (ho _ (y_ne hY_this hY_this_nightHow rfl))
      replace hs_ot_nightHill := y_slk hs_ot_nightHill (ho _ (y_ne hY_ot hY_this_nightHow rfl))
      replace hs_this_nightHill := y_slk hs_this_nightHill (ho _ (y_ne hY_this hY_this_nightHow rfl))
      replace hs_ot_nightHow := y_slk hs_ot_nightHow (ho _ (y_ne hY_ot hY_this_nightHow rfl))
      replace hs_this_nightHow := y_slk hs_this_nightHow (ho _ (y_ne hY_this hY_this_nightHow rfl))
      replace h28 := fun (q : Nat) (hq : Y0 q = some 28) (hnq : q ≠ mt) => Eq.trans (ho q (y_ne (y_mon B hI _ _ hq) hY_this_nightHow rfl)) (h28 q hq hnq)
      replace hv28 := fun (f : Nat → Int32) hf => (hv28 f hf).kept (ho _ (y_ne hY_mt hY_this_nightHow rfl))
      subst hav
      exact y_return B hI rfl rfl List.mem_cons_self rfl (x_cs.mono B.2.2.2.2.2 (y_mon B hI)) (fun t' o' m1 m2 h1 h2 h3 => by cases h1; cases h2.symm.trans hsA; cases h3.symm.trans hsB; exact ⟨hv28, h28⟩) (Nat.le_refl _) (Nat.le_refl _) c8_d233
    · have q96_ : i.toInt < (8 : Int32).toInt := Int.not_le.mp fun q => q96 (x_le32.mpr q)
      refine lv_aload_n hx hb c8_d99 rfl (lv_at hl 1 rfl) ?_
      refine y_getf X (fl39 X.2.2.2.2.1) hI.1 hY_this rfl hs_ts c8_d100 ?_
      refine lv_iload_n hx hb c8_d103 rfl (lv_at hl 0 rfl) ?_
      refine lv_aload_n hx hb c8_d104 rfl (lv_at hl 2 rfl) ?_
      refine y_getf X (fl39 X.2.2.2.2.1) hI.1 hY_ot rfl hs_os c8_d105 ?_
      refine lv_iload_n hx hb c8_d108 rfl (lv_at hl 0 rfl) ?_
      obtain ⟨v109, hv109, hc109⟩ := y_elt (j := i.toInt.toNat) hI.1 hY_os rfl (by omega)
      refine y_aald X hI.1 hY_os rfl (by omega) (by show _ < (8 : Int); omega) hv109 c8_d109 ?_
      rcases hc109 with ⟨-, e9⟩ | ⟨q109, t109, e109, ht109, hY_q109⟩
      · exact absurd e9 (by decide)
      subst e109
      have hok : x_sok vwCl x_G s (24, t109) := by
        have ht9 := ht109
        simp only [List.mem_cons, List.not_mem_nil, or_false] at ht9
        rcases ht9 with rfl | rfl | rfl | rfl | rfl | rfl
        · exact ⟨_, _, _, "TwinFires$Stone", 6, _, _, rfl, rfl, rfl, x_castSelf (X.2.2.2.2.2.1.1 6 _ rfl).2⟩
        · exact ⟨_, _, _, "TwinFires$Stone", 10, _, _, rfl, rfl, rfl, X.2.2.2.2.2.2.2.2.1 _ (x_nt 1491 (by decide +kernel) rfl)⟩
        · exact ⟨_, _, _, "TwinFires$Stone", 4, _, _, rfl, rfl, rfl, X.2.2.2.2.2.2.2.2.1 _ (x_nt 1492 (by decide +kernel) rfl)⟩
        · exact ⟨_, _, _, "TwinFires$Stone", 1, _, _, rfl, rfl, rfl, X.2.2.2.2.2.2.2.2.1 _ (x_nt 1493 (by decide +kernel) rfl)⟩
        · exact ⟨_, _, _, "TwinFires$Stone", 8, _, _, rfl, rfl, rfl, X.2.2.2.2.2.2.2.2.1 _ (x_nt 1494 (by decide +kernel) rfl)⟩
        · exact ⟨_, _, _, "TwinFires$Stone", 9, _, _, rfl, rfl, rfl, X.2.2.2.2.2.2.2.2.1 _ (x_nt 1495 (by decide +kernel) rfl)⟩
      refine y_aastM (bv := q109) X hY0 hI hY_ts rfl hY_q109 hok (by omega) (by show _ < (8 : Int); omega) (Or.inr ⟨_, _, rfl, ht109, hY_q109⟩) (by decide +kernel) c8_d110 fun H locs hI h_at h_ne ho => ?_
      replace hs_ts := y_slk hs_ts (ho _ (y_ne hY_this hY_ts rfl))
      replace hs_os := y_slk hs_os (ho _ (y_ne hY_ot hY_ts rfl))
      replace hs_mt := y_slk hs_mt (ho _ (y_ne hY_this hY_ts rfl))
      replace hs_om := y_slk hs_om (ho _ (y_ne hY_ot hY_ts rfl))
      replace h28 := fun (q : Nat) (hq : Y0 q = some 28) => Eq.trans (ho q (y_ne (y_mon B hI _ _ hq) hY_ts rfl)) (h28 q hq)
      obtain ⟨z111, hg_z111⟩ : ∃ z111 : Int32, i + Int32.ofInt 1 = z111 := ⟨_, rfl⟩
      have h_z111 : z111.toInt = i.toInt + 1 := by rw [← hg_z111]; exact y_inc (by decide) (by omega) (by omega)
      refine lv_iinc hx hb c8_d111 hl (k := 0) rfl hg_z111 (by decide) (lv' := [(2, .int z111), (0, .ref this), (1, .ref ot)]) rfl fun ls hl => ?_
      refine lv_goto hx hb c8_d114 (tgt := 93) (by decide) ?_
      exact ih _ _ _ _ _ hI hY_this hY_ot hY_ts hY_os hY_mt hY_om hs_ts hs_os hs_mt hs_om (lv_sub hl [0, 1, 2] rfl) (by first | assumption | omega) h28 (by omega)
theorem ym_copyFrom8 : y_Met vwCl x_G x_Zs x_Tb x_Nb xM58 y_T z_Pcf8 := by
  refine y_main (by decide +kernel) (by decide +kernel) x_Tb_good x_Nb_ok ?_
  intro p l e s m below meth c D U Y0 av ls B hI _ hl
  have X := B.1
  have hx := X.1
  have hb := X.2.1
  have hY0 := B.2.2.2.2.1
  obtain ⟨v0, v1, rfl, hv0, hv1⟩ := x_two B.2.2.2.2.2
  obtain ⟨this, t0, rfl, ht0, hY_this⟩ := x_ref_at hv0 rfl
  obtain rfl := List.mem_singleton.mp ht0
  obtain ⟨ot, t1, rfl, ht1, hY_ot⟩ := x_ref_at hv1 rfl
  obtain rfl := List.mem_singleton.mp ht1
  replace hl : lv_has ls xM58.2.2.1 [(0, .ref this), (1, .ref ot)] := hl
  obtain ⟨mt, hs_mt, hY_mt⟩ := y_fldR (k := 11) hI.1 hY_this rfl rfl
  obtain ⟨om, hs_om, hY_om⟩ := y_fldR (k := 11) hI.1 hY_ot rfl rfl
  obtain ⟨ts, hs_ts, hY_ts⟩ := y_fldR (k := 7) hI.1 hY_this rfl rfl
  obtain ⟨os, hs_os, hY_os⟩ := y_fldR (k := 7) hI.1 hY_ot rfl rfl
  have hYo := hY_om
  have hsA := hs_mt
  have hsB := hs_om
  have h28 : ∀ q, Y0 q = some 28 → s.heap[q]? = s.heap[q]? := fun _ _ => rfl
  refine lv_aload_n hx hb c8_d0 rfl (lv_at hl 0 rfl) ?_
  refine lv_aload_n hx hb c8_d1 rfl (lv_at hl 1 rfl) ?_
  obtain ⟨hills_2, hs_ot_hills, h_hills_2⟩ := y_fldI (k := 0) hI.1 hY_ot rfl rfl
  replace h_hills_2 : (0 : Int) ≤ hills_2.toInt ∧ hills_2.toInt ≤ 10 := h_hills_2
  refine y_getf X (fl2 X.2.2.2.2.1) hI.1 hY_ot rfl hs_ot_hills c8_d2 ?_
  refine y_putf X (fw6 X.2.2.2.2.1) hY0 hI hY_this rfl rfl ⟨_, rfl, by show (0 : Int) ≤ _; omega, by show _ ≤ (10 : Int); omega⟩ (by decide +kernel) c8_d5 fun H sl hI ho hs hk => ?_
  replace hs_mt := hk _ _ (by decide +kernel) (by decide) hs_mt
  replace hs_ts := hk _ _ (by decide +kernel) (by decide) hs_ts
  replace h28 := fun (q : Nat) (hq : Y0 q = some 28) => Eq.trans (ho q (y_ne (y_mon B hI _ _ hq) hY_this rfl)) (h28 q hq)
  replace hs := hs
  have hs5 := hs
  replace hs_om := (z_pk (by decide) (by decide) ho hk _).trans hs_om
  replace hs_os := (z_pk (by decide) (by decide) ho hk _).trans hs_os
  refine lv_aload_n hx hb c8_d8 rfl (lv_at hl 1 rfl) ?_
  obtain ⟨ot_x, hs_ot_x, hY_ot_x⟩ := y_fldR (k := 1) hI.1 hY_ot rfl rfl
  refine y_getf X (fl0 X.2.2.2.2.1) hI.1 hY_ot rfl hs_ot_x c8_d9 ?_
  refine lv_iconst hx hb c8_d12 (v := 0) (by decide) ?_
  have ec0 : (0 : Int32).toInt = 0 := by decide
  refine lv_aload_n hx hb c8_d13 rfl (lv_at hl 0 rfl) ?_
  obtain ⟨this_x, hs_this_x, hY_this_x⟩ := y_fldR (k := 1) hI.1 hY_this rfl rfl
  refine y_getf X (fl0 X.2.2.2.2.1) hI.1 hY_this rfl hs_this_x c8_d14 ?_
  refine lv_iconst hx hb c8_d17 (v := 0) (by decide) ?_
  refine lv_bipush hx hb c8_d18 (v := 10) (by decide) ?_
  have ec10 : (10 : Int32).toInt = 10 := by decide
  obtain ⟨f_ot_x, hA_ot_x, hB_ot_x⟩ := y_arr hI.1 hY_ot_x rfl rfl
  refine y_acp (bd := this_x) (bs := ot_x) (t := 19) (n := 10) (rest := []) X (x_at 627 (by decide +kernel) rfl) (x_at 629 (by decide +kernel) rfl) (x_at 628 (by decide +kernel) rfl) (x_at 80 (by decide +kernel) rfl) (Nat.le_of_ble_eq_true rfl) (by decide) hY0 hI hY_this_x hY_ot_x rfl hA_ot_x (by decide) (by decide +kernel) hl.1 (Nat.le_of_ble_eq_true rfl) c8_d20 fun H locs hI h_new ho => ?_
  replace hs_mt := y_slk hs_mt (ho _ (y_ne hY_this hY_this_x rfl))
  replace hs_ts := y_slk hs_ts (ho _ (y_ne hY_this hY_this_x rfl))
  replace hs5 := y_slk hs5 (ho _ (y_ne hY_this hY_this_x rfl))
  replace hs_om := y_slk hs_om (ho _ (y_ne hY_ot hY_this_x rfl))
  replace hs_os := y_slk hs_os (ho _ (y_ne hY_ot hY_this_x rfl))
  replace hs_ot_x := y_slk hs_ot_x (ho _ (y_ne hY_ot hY_this_x rfl))
  replace hs_this_x := y_slk hs_this_x (ho _ (y_ne hY_this hY_this_x rfl))
  replace h28 := fun (q : Nat) (hq : Y0 q = some 28) => Eq.trans (ho q (y_ne (y_mon B hI _ _ hq) hY_this_x rfl)) (h28 q hq)
  refine lv_aload_n hx hb c8_d23 rfl (lv_at hl 1 rfl) ?_
  obtain ⟨ot_y, hs_ot_y, hY_ot_y⟩ := y_fldR (k := 2) hI.1 hY_ot rfl rfl
  refine y_getf X (fl1 X.2.2.2.2.1) hI.1 hY_ot rfl hs_ot_y c8_d24 ?_
  refine lv_iconst hx hb c8_d27 (v := 0) (by decide) ?_
  refine lv_aload_n hx hb c8_d28 rfl (lv_at hl 0 rfl) ?_
  obtain ⟨this_y, hs_this_y, hY_this_y⟩ := y_fldR (k := 2) hI.1 hY_this rfl rfl
  refine y_getf X (fl1 X.2.2.2.2.1) hI.1 hY_this rfl hs_this_y c8_d29 ?_
  refine lv_iconst hx hb c8_d32 (v := 0) (by decide) ?_
  refine lv_bipush hx hb c8_d33 (v := 10) (by decide) ?_
  obtain ⟨f_ot_y, hA_ot_y, hB_ot_y⟩ := y_arr hI.1 hY_ot_y rfl rfl
  refine y_acp (bd := this_y) (bs := ot_y) (t := 20) (n := 10) (rest := []) X (x_at 627 (by decide +kernel) rfl) (x_at 629 (by decide +kernel) rfl) (x_at 628 (by decide +kernel) rfl) (x_at 80 (by decide +kernel) rfl) (Nat.le_of_ble_eq_true rfl) (by decide) hY0 hI hY_this_y hY_ot_y rfl hA_ot_y (by decide) (by decide +kernel) hl.1 (Nat.le_of_ble_eq_true rfl) c8_d35 fun H locs hI h_new ho => ?_
  replace hs_mt := y_slk hs_mt (ho _ (y_ne hY_this hY_this_y rfl))
  replace hs_ts := y_slk hs_ts (ho _ (y_ne hY_this hY_this_y rfl))
  replace hs5 := y_slk hs5 (ho _ (y_ne hY_this hY_this_y rfl))
  replace hs_om := y_slk hs_om (ho _ (y_ne hY_ot hY_this_y rfl))
  replace hs_os := y_slk hs_os (ho _ (y_ne hY_ot hY_this_y rfl))
  replace hs_ot_x := y_slk hs_ot_x (ho _ (y_ne hY_ot hY_this_y rfl))
  replace hs_this_x := y_slk hs_this_x (ho _ (y_ne hY_this hY_this_y rfl))
  replace hs_ot_y := y_slk hs_ot_y (ho _ (y_ne hY_ot hY_this_y rfl))
  replace hs_this_y := y_slk hs_this_y (ho _ (y_ne hY_this hY_this_y rfl))
  replace h28 := fun (q : Nat) (hq : Y0 q = some 28) => Eq.trans (ho q (y_ne (y_mon B hI _ _ hq) hY_this_y rfl)) (h28 q hq)
  refine lv_aload_n hx hb c8_d38 rfl (lv_at hl 1 rfl) ?_
  obtain ⟨ot_height, hs_ot_height, hY_ot_height⟩ := y_fldR (k := 3) hI.1 hY_ot rfl rfl
  refine y_getf X (fl3 X.2.2.2.2.1) hI.1 hY_ot rfl hs_ot_height c8_d39 ?_
  refine lv_iconst hx hb c8_d42 (v := 0) (by decide) ?_
  refine lv_aload_n hx hb c8_d43 rfl (lv_at hl 0 rfl) ?_
  obtain ⟨this_height, hs_this_height, hY_this_height⟩ := y_fldR (k := 3) hI.1 hY_this rfl rfl
  refine y_getf X (fl3 X.2.2.2.2.1) hI.1 hY_this rfl hs_this_height c8_d44 ?_
  refine lv_iconst hx hb c8_d47 (v := 0) (by decide) ?_
  refine lv_bipush hx hb c8_d48 (v := 10) (by decide) ?_
  obtain ⟨f_ot_height, hA_ot_height, hB_ot_height⟩ := y_arr hI.1 hY_ot_height rfl rfl
  refine y_acp (bd := this_height) (bs := ot_height) (t := 21) (n := 10) (rest := []) X (x_at 627 (by decide +kernel) rfl) (x_at 629 (by decide +kernel) rfl) (x_at 628 (by decide +kernel) rfl) (x_at 80 (by decide +kernel) rfl) (Nat.le_of_ble_eq_true rfl) (by decide) hY0 hI hY_this_height hY_ot_height rfl hA_ot_height (by decide) (by decide +kernel) hl.1 (Nat.le_of_ble_eq_true rfl) c8_d50 fun H locs hI h_new ho => ?_
  replace hs_mt := y_slk hs_mt (ho _ (y_ne hY_this hY_this_height rfl))
  replace hs_ts := y_slk hs_ts (ho _ (y_ne hY_this hY_this_height rfl))
  replace hs5 := y_slk hs5 (ho _ (y_ne hY_this hY_this_height rfl))
  replace hs_om := y_slk hs_om (ho _ (y_ne hY_ot hY_this_height rfl))
  replace hs_os := y_slk hs_os (ho _ (y_ne hY_ot hY_this_height rfl))
  replace hs_ot_x := y_slk hs_ot_x (ho _ (y_ne hY_ot hY_this_height rfl))
  replace hs_this_x := y_slk hs_this_x (ho _ (y_ne hY_this hY_this_height rfl))
  replace hs_ot_y := y_slk hs_ot_y (ho _ (y_ne hY_ot hY_this_height rfl))
  replace hs_this_y := y_slk hs_this_y (ho _ (y_ne hY_this hY_this_height rfl))
  replace hs_ot_height := y_slk hs_ot_height (ho _ (y_ne hY_ot hY_this_height rfl))
  replace hs_this_height := y_slk hs_this_height (ho _ (y_ne hY_this hY_this_height rfl))
  replace h28 := fun (q : Nat) (hq : Y0 q = some 28) => Eq.trans (ho q (y_ne (y_mon B hI _ _ hq) hY_this_height rfl)) (h28 q hq)
  refine lv_aload_n hx hb c8_d53 rfl (lv_at hl 1 rfl) ?_
  obtain ⟨ot_report, hs_ot_report, hY_ot_report⟩ := y_fldR (k := 4) hI.1 hY_ot rfl rfl
  refine y_getf X (fl4 X.2.2.2.2.1) hI.1 hY_ot rfl hs_ot_report c8_d54 ?_
  refine lv_iconst hx hb c8_d57 (v := 0) (by decide) ?_
  refine lv_aload_n hx hb c8_d58 rfl (lv_at hl 0 rfl) ?_
  obtain ⟨this_report, hs_this_report, hY_this_report⟩ := y_fldR (k := 4) hI.1 hY_this rfl rfl
  refine y_getf X (fl4 X.2.2.2.2.1) hI.1 hY_this rfl hs_this_report c8_d59 ?_
  refine lv_iconst hx hb c8_d62 (v := 0) (by decide) ?_
  refine lv_bipush hx hb c8_d63 (v := 10) (by decide) ?_
  obtain ⟨f_ot_report, hA_ot_report, hB_ot_report⟩ := y_arr hI.1 hY_ot_report rfl rfl
  refine y_acp (bd := this_report) (bs := ot_report) (t := 22) (n := 10) (rest := []) X (x_at 627 (by decide +kernel) rfl) (x_at 629 (by decide +kernel) rfl) (x_at 628 (by decide +kernel) rfl) (x_at 80 (by decide +kernel) rfl) (Nat.le_of_ble_eq_true rfl) (by decide) hY0 hI hY_this_report hY_ot_report rfl hA_ot_report (by decide) (by decide +kernel) hl.1 (Nat.le_of_ble_eq_true rfl) c8_d65 fun H locs hI h_new ho => ?_
  replace hs_mt := y_slk hs_mt (ho _ (y_ne hY_this hY_this_report rfl))
  replace hs_ts := y_slk hs_ts (ho _ (y_ne hY_this hY_this_report rfl))
  replace hs5 := y_slk hs5 (ho _ (y_ne hY_this hY_this_report rfl))
  replace hs_om := y_slk hs_om (ho _ (y_ne hY_ot hY_this_report rfl))
  replace hs_os := y_slk hs_os (ho _ (y_ne hY_ot hY_this_report rfl))
  replace hs_ot_x := y_slk hs_ot_x (ho _ (y_ne hY_ot hY_this_report rfl))
  replace hs_this_x := y_slk hs_this_x (ho _ (y_ne hY_this hY_this_report rfl))
  replace hs_ot_y := y_slk hs_ot_y (ho _ (y_ne hY_ot hY_this_report rfl))
  replace hs_this_y := y_slk hs_this_y (ho _ (y_ne hY_this hY_this_report rfl))
  replace hs_ot_height := y_slk hs_ot_height (ho _ (y_ne hY_ot hY_this_report rfl))
  replace hs_this_height := y_slk hs_this_height (ho _ (y_ne hY_this hY_this_report rfl))
  replace hs_ot_report := y_slk hs_ot_report (ho _ (y_ne hY_ot hY_this_report rfl))
  replace hs_this_report := y_slk hs_this_report (ho _ (y_ne hY_this hY_this_report rfl))
  replace h28 := fun (q : Nat) (hq : Y0 q = some 28) => Eq.trans (ho q (y_ne (y_mon B hI _ _ hq) hY_this_report rfl)) (h28 q hq)
  refine lv_aload_n hx hb c8_d68 rfl (lv_at hl 1 rfl) ?_
  obtain ⟨ot_blame, hs_ot_blame, hY_ot_blame⟩ := y_fldR (k := 5) hI.1 hY_ot rfl rfl
  refine y_getf X (fl5 X.2.2.2.2.1) hI.1 hY_ot rfl hs_ot_blame c8_d69 ?_
  refine lv_iconst hx hb c8_d72 (v := 0) (by decide) ?_
  refine lv_aload_n hx hb c8_d73 rfl (lv_at hl 0 rfl) ?_
  obtain ⟨this_blame, hs_this_blame, hY_this_blame⟩ := y_fldR (k := 5) hI.1 hY_this rfl rfl
  refine y_getf X (fl5 X.2.2.2.2.1) hI.1 hY_this rfl hs_this_blame c8_d74 ?_
  refine lv_iconst hx hb c8_d77 (v := 0) (by decide) ?_
  refine lv_bipush hx hb c8_d78 (v := 10) (by decide) ?_
  obtain ⟨f_ot_blame, hA_ot_blame, hB_ot_blame⟩ := y_arr hI.1 hY_ot_blame rfl rfl
  refine y_acp (bd := this_blame) (bs := ot_blame) (t := 23) (n := 10) (rest := []) X (x_at 627 (by decide +kernel) rfl) (x_at 629 (by decide +kernel) rfl) (x_at 628 (by decide +kernel) rfl) (x_at 80 (by decide +kernel) rfl) (Nat.le_of_ble_eq_true rfl) (by decide) hY0 hI hY_this_blame hY_ot_blame rfl hA_ot_blame (by decide) (by decide +kernel) hl.1 (Nat.le_of_ble_eq_true rfl) c8_d80 fun H locs hI h_new ho => ?_
  replace hs_mt := y_slk hs_mt (ho _ (y_ne hY_this hY_this_blame rfl))
  replace hs_ts := y_slk hs_ts (ho _ (y_ne hY_this hY_this_blame rfl))
  replace hs5 := y_slk hs5 (ho _ (y_ne hY_this hY_this_blame rfl))
  replace hs_om := y_slk hs_om (ho _ (y_ne hY_ot hY_this_blame rfl))
  replace hs_os := y_slk hs_os (ho _ (y_ne hY_ot hY_this_blame rfl))
  replace hs_ot_x := y_slk hs_ot_x (ho _ (y_ne hY_ot hY_this_blame rfl))
  replace hs_this_x := y_slk hs_this_x (ho _ (y_ne hY_this hY_this_blame rfl))
  replace hs_ot_y := y_slk hs_ot_y (ho _ (y_ne hY_ot hY_this_blame rfl))
  replace hs_this_y := y_slk hs_this_y (ho _ (y_ne hY_this hY_this_blame rfl))
  replace hs_ot_height := y_slk hs_ot_height (ho _ (y_ne hY_ot hY_this_blame rfl))
  replace hs_this_height := y_slk hs_this_height (ho _ (y_ne hY_this hY_this_blame rfl))
  replace hs_ot_report := y_slk hs_ot_report (ho _ (y_ne hY_ot hY_this_blame rfl))
  replace hs_this_report := y_slk hs_this_report (ho _ (y_ne hY_this hY_this_blame rfl))
  replace hs_ot_blame := y_slk hs_ot_blame (ho _ (y_ne hY_ot hY_this_blame rfl))
  replace hs_this_blame := y_slk hs_this_blame (ho _ (y_ne hY_this hY_this_blame rfl))
  replace h28 := fun (q : Nat) (hq : Y0 q = some 28) => Eq.trans (ho q (y_ne (y_mon B hI _ _ hq) hY_this_blame rfl)) (h28 q hq)
  refine lv_aload_n hx hb c8_d83 rfl (lv_at hl 0 rfl) ?_
  refine lv_aload_n hx hb c8_d84 rfl (lv_at hl 1 rfl) ?_
  obtain ⟨things_85, hs_ot_things, h_things_85⟩ := y_fldI (k := 6) hI.1 hY_ot rfl rfl
  replace h_things_85 : (0 : Int) ≤ things_85.toInt ∧ things_85.toInt ≤ 8 := h_things_85
  refine y_getf X (fl42 X.2.2.2.2.1) hI.1 hY_ot rfl hs_ot_things c8_d85 ?_
  refine y_putf X (fw43 X.2.2.2.2.1) hY0 hI hY_this rfl rfl ⟨_, rfl, by show (0 : Int) ≤ _; omega, by show _ ≤ (8 : Int); omega⟩ (by decide +kernel) c8_d88 fun H sl hI ho hs hk => ?_
  replace hs_mt := hk _ _ (by decide +kernel) (by decide) hs_mt
  replace hs_ts := hk _ _ (by decide +kernel) (by decide) hs_ts
  replace hs5 := hk _ _ (by decide +kernel) (by decide) hs5
  replace hs_this_x := hk _ _ (by decide +kernel) (by decide) hs_this_x
  replace hs_this_y := hk _ _ (by decide +kernel) (by decide) hs_this_y
  replace hs_this_height := hk _ _ (by decide +kernel) (by decide) hs_this_height
  replace hs_this_report := hk _ _ (by decide +kernel) (by decide) hs_this_report
  replace hs_this_blame := hk _ _ (by decide +kernel) (by decide) hs_this_blame
  replace h28 := fun (q : Nat) (hq : Y0 q = some 28) => Eq.trans (ho q (y_ne (y_mon B hI _ _ hq) hY_this rfl)) (h28 q hq)
  replace hs := hs
  have hs88 := hs
  replace hs_om := (z_pk (by decide) (by decide) ho hk _).trans hs_om
  replace hs_os := (z_pk (by decide) (by decide) ho hk _).trans hs_os
  refine lv_iconst hx hb c8_d91 (v := 0) (by decide) ?_
  refine lv_istore_n hx hb c8_d92 rfl hl (by decide) (lv' := [(2, .int (0 : Int32)), (0, .ref this), (1, .ref ot)]) rfl fun ls hl => ?_
  exact c8_L93 B rfl hYo hsA hsB 9 _ _ _ _ _ hI hY_this hY_ot hY_ts hY_os hY_mt hY_om hs_ts hs_os hs_mt hs_om (lv_sub hl [0, 1, 2] rfl) (by first | assumption | omega) h28 (by omega)
theorem z_elt8 {D : va_G} {U : State} {Y0 : xY} {H : Heap} {kp j q : Nat} (hH : x_H D x_G x_Zs U Y0 H) (hY : Y0 kp = some 41) (hv : y_at kp j H = some (.ref q)) : Y0 q = some 2 := by
  obtain ⟨g, g1, g2⟩ := hH.1 kp _ hY
  cases g1.symm.trans (show x_G[41]? = some (.inr (.object "TwinFires$Land", 2, [], xR true [2])) from rfl)
  obtain ⟨cell, w1, w2, w3, w4, w5, w6⟩ := g2
  unfold y_at at hv
  rw [w1] at hv
  rcases w6 j _ hv with ⟨e0, -⟩ | ⟨a, t, e0, ht, h9⟩
  · cases e0
  · cases e0
    obtain rfl := List.mem_singleton.mp ht
    exact h9
theorem fz_d0 : decode xM131.2.1 0 = .ok (.iload_n 1, 1) := by decide +kernel
theorem fz_d1 : decode xM131.2.1 1 = .ok (.iconst 0, 1) := by decide +kernel
theorem fz_d2 : decode xM131.2.1 2 = .ok (.aload_n 0, 1) := by decide +kernel
theorem fz_d3 : decode xM131.2.1 3 = .ok (.getfield 19, 3) := by decide +kernel
theorem fz_d6 : decode xM131.2.1 6 = .ok (.arraylength, 1) := by decide +kernel
theorem fz_d7 : decode xM131.2.1 7 = .ok (.iconst 1, 1) := by decide +kernel
theorem fz_d8 : decode xM131.2.1 8 = .ok (.isub, 1) := by decide +kernel
theorem fz_d9 : decode xM131.2.1 9 = .ok (.invokestatic 88, 3) := by decide +kernel
theorem fz_d12 : decode xM131.2.1 12 = .ok (.ifCond .ne 10, 3) := by decide +kernel
theorem fz_d15 : decode xM131.2.1 15 = .ok (.aload_n 0, 1) := by decide +kernel
theorem fz_d16 : decode xM131.2.1 16 = .ok (.bipush (-2), 2) := by decide +kernel
theorem fz_d18 : decode xM131.2.1 18 = .ok (.invokevirtual 59, 3) := by decide +kernel
theorem fz_d21 : decode xM131.2.1 21 = .ok (.ireturn, 1) := by decide +kernel
theorem fz_d22 : decode xM131.2.1 22 = .ok (.aload_n 0, 1) := by decide +kernel
theorem fz_d23 : decode xM131.2.1 23 = .ok (.getfield 19, 3) := by decide +kernel
theorem fz_d26 : decode xM131.2.1 26 = .ok (.iload_n 1, 1) := by decide +kernel
theorem fz_d27 : decode xM131.2.1 27 = .ok (.aaload, 1) := by decide +kernel
theorem fz_d28 : decode xM131.2.1 28 = .ok (.ifnonnull 10, 3) := by decide +kernel
theorem fz_d31 : decode xM131.2.1 31 = .ok (.aload_n 0, 1) := by decide +kernel
theorem fz_d32 : decode xM131.2.1 32 = .ok (.bipush (-3), 2) := by decide +kernel
theorem fz_d34 : decode xM131.2.1 34 = .ok (.invokevirtual 59, 3) := by decide +kernel
theorem fz_d37 : decode xM131.2.1 37 = .ok (.ireturn, 1) := by decide +kernel
theorem fz_d38 : decode xM131.2.1 38 = .ok (.aload_n 0, 1) := by decide +kernel
theorem fz_d39 : decode xM131.2.1 39 = .ok (.getfield 12, 3) := by decide +kernel
theorem fz_d42 : decode xM131.2.1 42 = .ok (.aload_n 0, 1) := by decide +kernel
theorem fz_d43 : decode xM131.2.1 43 = .ok (.getfield 19, 3) := by decide +kernel
theorem fz_d46 : decode xM131.2.1 46 = .ok (.iload_n 1, 1) := by decide +kernel
theorem fz_d47 : decode xM131.2.1 47 = .ok (.aaload, 1) := by decide +kernel
theorem fz_d48 : decode xM131.2.1 48 = .ok (.invokevirtual 148, 3) := by decide +kernel
theorem fz_d51 : decode xM131.2.1 51 = .ok (.iconst 1, 1) := by decide +kernel
theorem fz_d52 : decode xM131.2.1 52 = .ok (.ireturn, 1) := by decide +kernel
theorem ym_gfrom8 : y_Met vwCl x_G x_Zs x_Tb x_Nb xM131 y_T z_Pfm8 := by
  refine y_main (by decide +kernel) (by decide +kernel) x_Tb_good x_Nb_ok ?_
  intro p l e s m below meth c D U Y0 av ls B hI _ hl
  have X := B.1
  have hx := X.1
  have hb := X.2.1
  have hY0 := B.2.2.2.2.1
  have hts := X.2.2.2.2.1
  obtain ⟨v0, v1, rfl, hv0', ⟨i, rfl, -⟩⟩ := x_two B.2.2.2.2.2
  obtain ⟨this, t0, rfl, ht0, hY_this⟩ := x_ref_at hv0' rfl
  obtain rfl := List.mem_singleton.mp ht0
  replace hl : lv_has ls xM131.2.2.1 [(0, .ref this), (1, .int i)] := hl
  obtain ⟨hd, hs_hd, hY_hd⟩ := y_fldR (k := 0) hI.1 hY_this rfl rfl
  obtain ⟨kp, hs_kp, hY_kp⟩ := y_fldR (k := 2) hI.1 hY_this rfl rfl
  obtain ⟨mh, hs_mh, hY_mh⟩ := y_fldR (k := 11) hI.1 hY_hd rfl rfl
  have hs0 := hs_hd
  have hs2 := hs_kp
  have hs1 := hs_mh
  have hYm0 := hY_mh
  have hY_kp0 := hY_kp
  have hI0 := hI
  have hq_kp : s.heap[kp]? = s.heap[kp]? := rfl
  have h28 : ∀ q, Y0 q = some 28 → s.heap[q]? = s.heap[q]? := fun _ _ => rfl
  refine lv_iload_n hx hb fz_d0 rfl (lv_at hl 1 rfl) ?_
  refine lv_iconst hx hb fz_d1 (v := 0) (by decide) ?_
  have ec0 : (0 : Int32).toInt = 0 := by decide
  refine lv_aload_n hx hb fz_d2 rfl (lv_at hl 0 rfl) ?_
  refine y_getf X (fl158 X.2.2.2.2.1) hI.1 hY_this rfl hs_kp fz_d3 ?_
  refine y_alen X hI.1 hY_kp rfl fz_d6 ?_
  have h_nI2 : (nI 2).toInt = 2 := by decide
  refine lv_iconst hx hb fz_d7 (v := 1) (by decide) ?_
  have ec1 : (1 : Int32).toInt = 1 := by decide
  refine lv_isub hx hb fz_d8 ?_
  generalize hg_z8 : (nI 2) - (1 : Int32) = z8
  have h_z8 : z8.toInt = (nI 2).toInt - 1 := by rw [← hg_z8]; have := y_sub (x := (nI 2)) (y := (1 : Int32)) (by rw [ec1]; omega) (by rw [ec1]; omega); rw [ec1] at this; exact this
  refine y_call (z := (1, 88, 3, none, xM10)) (av := [.int i, .int (0 : Int32), .int z8]) (rest := []) (y_cokS (n := 3) X ym_within (x_cons (x_at 383 (by decide +kernel) rfl) (x_cons (x_at 369 (by decide +kernel) rfl) (x_cons (x_at 65 (by decide +kernel) rfl) x_nilm))) (x_at 370 (by decide +kernel) rfl) (by decide +kernel) ⟨Nat.le_of_ble_eq_true rfl, Nat.le_of_ble_eq_true rfl⟩) hY0 hI rfl fz_d9 hl.1 (Nat.le_of_ble_eq_true rfl) (Nat.le_of_ble_eq_true rfl) (Nat.le_of_ble_eq_true rfl) (y_cons ⟨_, rfl, x_i32 _⟩ (y_cons ⟨_, rfl, x_i32 _⟩ (y_cons ⟨_, rfl, x_i32 _⟩ y_nil))) rfl (y_norecv rfl) trivial (y_sub_ef rfl) fun v Yn o Hn L ho hr ha hIn hx_ hE hP => ?_
  replace hs_hd := y_Efld hE hY_this rfl (by decide) (by decide) hs_hd
  replace hs_kp := y_Efld hE hY_this rfl (by decide) (by decide) hs_kp
  replace hs_mh := y_Efld hE hY_hd rfl (by decide) (by decide) hs_mh
  replace h28 := fun (q : Nat) (hq : Y0 q = some 28) => Eq.trans (y_Earr hE (y_mon B hI _ _ hq) rfl (by decide)) (h28 q hq)
  replace hq_kp := (y_Earr hE hY_kp rfl (by decide)).trans hq_kp
  replace hY_this := y_ext hx_ hI.1 hY_this
  replace hY_hd := y_ext hx_ hI.1 hY_hd
  replace hY_kp := y_ext hx_ hI.1 hY_kp
  replace hY_mh := y_ext hx_ hI.1 hY_mh
  obtain ⟨r9, rfl, hin_r9, hout_r9⟩ := hP _ _ _ rfl
  clear ho hr ha hE hP hI hx_
  rename x_I _ _ _ _ _ _ _ _ _ _ => hI
  refine lv_if_ne hx hb fz_d12 (tgt := 22) (by decide) (fun q12 => ?_) (fun q12 => ?_)
  · have q12_ : ¬ r9.toInt = (0 : Int32).toInt := fun q => q12 (Int32.toInt_inj.mp q)
    have hw := hin_r9 q12
    refine lv_aload_n hx hb fz_d22 rfl (lv_at hl 0 rfl) ?_
    refine y_getf X (fl158 X.2.2.2.2.1) hI.1 hY_this rfl hs_kp fz_d23 ?_
    refine lv_iload_n hx hb fz_d26 rfl (lv_at hl 1 rfl) ?_
    obtain ⟨v27, hv27, hc27⟩ := y_elt (j := i.toInt.toNat) hI.1 hY_kp rfl (by omega)
    have hv0 : y_at kp i.toInt.toNat s.heap = some v27 := by rw [← z_atk hq_kp]; exact hv27
    refine y_aald X hI.1 hY_kp rfl (by omega) (by show _ < (2 : Int); omega) hv27 fz_d27 ?_
    rcases hc27 with ⟨e27, -⟩ | ⟨q27, t27, e27, ht27, hY_q27⟩
    · subst e27
      refine lv_ifnonnullN hx hb fz_d28 ?_
      refine lv_aload_n hx hb fz_d31 rfl (lv_at hl 0 rfl) ?_
      refine lv_bipush hx hb fz_d32 (v := (-3)) (by decide) ?_
      have ecm3 : ((-3) : Int32).toInt = (-3) := by decide
      refine y_call (z := (0, 59, 2, some 0, xM8)) (av := [.ref this, .int ((-3) : Int32)]) (rest := []) (y_cokV (n := 1) (ci := 11) X ym_counted rfl rfl rfl (x_cons (x_at 375 (by decide +kernel) rfl) (x_cons (x_at 377 (by decide +kernel) rfl) (x_cons (x_at 1 (by decide +kernel) rfl) (x_cons (x_at 65 (by decide +kernel) rfl) x_nilm)))) (x_at 378 (by decide +kernel) rfl) (by decide +kernel) ⟨Nat.le_of_ble_eq_true rfl, Nat.le_of_ble_eq_true rfl⟩) hY0 hI rfl fz_d34 hl.1 (Nat.le_of_ble_eq_true rfl) (Nat.le_of_ble_eq_true rfl) (Nat.le_of_ble_eq_true rfl) (y_cons (y_cref hY_this rfl) (y_cons ⟨_, rfl, x_i32 _⟩ y_nil)) rfl (y_recv rfl hY_this) trivial (y_sub_ef rfl) fun v Yn o Hn L ho hr ha hIn hx_ hE hP => ?_
      replace hs_hd := y_Efld hE hY_this rfl (by decide) (by decide) hs_hd
      replace hs_kp := y_Efld hE hY_this rfl (by decide) (by decide) hs_kp
      replace hs_mh := y_Efld hE hY_hd rfl (by decide) (by decide) hs_mh
      replace h28 := fun (q : Nat) (hq : Y0 q = some 28) => Eq.trans (y_Earr hE (y_mon B hI _ _ hq) rfl (by decide)) (h28 q hq)
      replace hq_kp := (y_Earr hE hY_kp rfl (by decide)).trans hq_kp
      replace hY_this := y_ext hx_ hI.1 hY_this
      replace hY_hd := y_ext hx_ hI.1 hY_hd
      replace hY_kp := y_ext hx_ hI.1 hY_kp
      replace hY_mh := y_ext hx_ hI.1 hY_mh
      obtain rfl := hP _ _ rfl
      clear ho hr ha hE hP hI hx_
      rename x_I _ _ _ _ _ _ _ _ _ _ => hI
      exact y_ireturn B hI rfl rfl rfl List.mem_cons_self ⟨_, rfl, ⟨_, rfl, x_i32 _⟩⟩ (x_cs.mono B.2.2.2.2.2 (y_mon B hI)) (fun t' d' k' m' i' h1 h2 h3 h4 => by cases h1; cases h2.symm.trans hs0; cases h3.symm.trans hs2; cases h4.symm.trans hs1; exact ⟨fun q hq _ => h28 q hq, fun h => absurd (by omega) h, fun _ _ => ⟨rfl, h28 _ hYm0⟩, fun _ q mq hq => by rw [hv0] at hq; cases hq⟩) (Nat.le_refl _) (Nat.le_refl _) fz_d37
    · subst e27
      obtain rfl := List.mem_singleton.mp ht27
      refine lv_ifnonnull hx hb fz_d28 (tgt := 38) (by decide) ?_
      have hY_q0 : Y0 q27 = some 2 := z_elt8 hI0.1 hY_kp0 hv0
      obtain ⟨mq, hs_mq, hYq0⟩ := y_fldR (k := 11) hI0.1 hY_q0 rfl rfl
      have hsq := hs_mq
      have hY_mq := y_mon B hI _ _ hYq0
      replace hs_mq := y_Efld hI.2.2.1 hY_q0 rfl (by decide) (by decide) hs_mq
      refine lv_aload_n hx hb fz_d38 rfl (lv_at hl 0 rfl) ?_
      refine y_getf X (fl8 X.2.2.2.2.1) hI.1 hY_this rfl hs_hd fz_d39 ?_
      refine lv_aload_n hx hb fz_d42 rfl (lv_at hl 0 rfl) ?_
      refine y_getf X (fl158 X.2.2.2.2.1) hI.1 hY_this rfl hs_kp fz_d43 ?_
      refine lv_iload_n hx hb fz_d46 rfl (lv_at hl 1 rfl) ?_
      refine y_aald X hI.1 hY_kp rfl (by omega) (by show _ < (2 : Int); omega) hv27 fz_d47 ?_
      refine y_call (z := (0, 148, 2, some 2, xM58)) (av := [.ref hd, .ref q27]) (rest := []) (y_cokV (n := 1) (ci := 2) X ym_copyFrom8 rfl rfl rfl (x_cons (x_at 623 (by decide +kernel) rfl) (x_cons (x_at 624 (by decide +kernel) rfl) (x_cons (x_at 625 (by decide +kernel) rfl) (x_cons (x_at 66 (by decide +kernel) rfl) x_nilm)))) (x_at 626 (by decide +kernel) rfl) (by decide +kernel) ⟨Nat.le_of_ble_eq_true rfl, Nat.le_of_ble_eq_true rfl⟩) hY0 hI rfl fz_d48 hl.1 (Nat.le_of_ble_eq_true rfl) (Nat.le_of_ble_eq_true rfl) (Nat.le_of_ble_eq_true rfl) (y_cons (y_cref hY_hd rfl) (y_cons (y_cref hY_q27 rfl) y_nil)) rfl (y_recv rfl hY_hd) trivial (y_sub_ef rfl) fun v Yn o Hn L ho hr ha hIn hx_ hE hP => ?_
      have hPc := hP _ _ _ _ rfl hs_mh hs_mq
      replace hs_hd := y_Efld hE hY_this rfl (by decide) (by decide) hs_hd
      replace hs_kp := y_Efld hE hY_this rfl (by decide) (by decide) hs_kp
      replace hs_mh := y_Efld hE hY_hd rfl (by decide) (by decide) hs_mh
      replace hs_mq := y_Efld hE hY_q27 rfl (by decide) (by decide) hs_mq
      have hv28 := fun (f : Nat → Int32) hf => hPc.1 f (y_A.kept hf (h28 _ hYq0))
      replace h28 := fun (q : Nat) (hq : Y0 q = some 28) (hnq : q ≠ mh) => Eq.trans (hPc.2 q (y_mon B hI _ _ hq) hnq) (h28 q hq)
      replace hq_kp := (y_Earr hE hY_kp rfl (by decide)).trans hq_kp
      replace hY_this := y_ext hx_ hI.1 hY_this
      replace hY_hd := y_ext hx_ hI.1 hY_hd
      replace hY_kp := y_ext hx_ hI.1 hY_kp
      replace hY_mh := y_ext hx_ hI.1 hY_mh
      replace hY_q27 := y_ext hx_ hI.1 hY_q27
      replace hY_mq := y_ext hx_ hI.1 hY_mq
      obtain rfl := y_ansV rfl ho hr
      clear ho hr ha hE hP hI hx_
      rename x_I _ _ _ _ _ _ _ _ _ _ => hI
      refine lv_iconst hx hb fz_d51 (v := 1) (by decide) ?_
      exact y_ireturn B hI rfl rfl rfl List.mem_cons_self ⟨_, rfl, ⟨_, rfl, x_i32 _⟩⟩ (x_cs.mono B.2.2.2.2.2 (y_mon B hI)) (fun t' d' k' m' i' h1 h2 h3 h4 => by cases h1; cases h2.symm.trans hs0; cases h3.symm.trans hs2; cases h4.symm.trans hs1; exact ⟨h28, fun h => absurd (by omega) h, fun _ hq => (by rw [hv0] at hq; cases hq), fun _ q mq hq hq2 => by rw [hv0] at hq; cases hq; cases hq2.symm.trans hsq; exact ⟨rfl, hv28⟩⟩) (Nat.le_refl _) (Nat.le_refl _) fz_d52
  · have q12_ : r9.toInt = (0 : Int32).toInt := by rw [q12]
    have hw := hout_r9 q12
    refine lv_aload_n hx hb fz_d15 rfl (lv_at hl 0 rfl) ?_
    refine lv_bipush hx hb fz_d16 (v := (-2)) (by decide) ?_
    have ecm2 : ((-2) : Int32).toInt = (-2) := by decide
    refine y_call (z := (0, 59, 2, some 0, xM8)) (av := [.ref this, .int ((-2) : Int32)]) (rest := []) (y_cokV (n := 1) (ci := 11) X ym_counted rfl rfl rfl (x_cons (x_at 375 (by decide +kernel) rfl) (x_cons (x_at 377 (by decide +kernel) rfl) (x_cons (x_at 1 (by decide +kernel) rfl) (x_cons (x_at 65 (by decide +kernel) rfl) x_nilm)))) (x_at 378 (by decide +kernel) rfl) (by decide +kernel) ⟨Nat.le_of_ble_eq_true rfl, Nat.le_of_ble_eq_true rfl⟩) hY0 hI rfl fz_d18 hl.1 (Nat.le_of_ble_eq_true rfl) (Nat.le_of_ble_eq_true rfl) (Nat.le_of_ble_eq_true rfl) (y_cons (y_cref hY_this rfl) (y_cons ⟨_, rfl, x_i32 _⟩ y_nil)) rfl (y_recv rfl hY_this) trivial (y_sub_ef rfl) fun v Yn o Hn L ho hr ha hIn hx_ hE hP => ?_
    replace hs_hd := y_Efld hE hY_this rfl (by decide) (by decide) hs_hd
    replace hs_kp := y_Efld hE hY_this rfl (by decide) (by decide) hs_kp
    replace hs_mh := y_Efld hE hY_hd rfl (by decide) (by decide) hs_mh
    replace h28 := fun (q : Nat) (hq : Y0 q = some 28) => Eq.trans (y_Earr hE (y_mon B hI _ _ hq) rfl (by decide)) (h28 q hq)
    replace hq_kp := (y_Earr hE hY_kp rfl (by decide)).trans hq_kp
    replace hY_this := y_ext hx_ hI.1 hY_this
    replace hY_hd := y_ext hx_ hI.1 hY_hd
    replace hY_kp := y_ext hx_ hI.1 hY_kp
    replace hY_mh := y_ext hx_ hI.1 hY_mh
    obtain rfl := hP _ _ rfl
    clear ho hr ha hE hP hI hx_
    rename x_I _ _ _ _ _ _ _ _ _ _ => hI
    exact y_ireturn B hI rfl rfl rfl List.mem_cons_self ⟨_, rfl, ⟨_, rfl, x_i32 _⟩⟩ (x_cs.mono B.2.2.2.2.2 (y_mon B hI)) (fun t' d' k' m' i' h1 h2 h3 h4 => by cases h1; cases h2.symm.trans hs0; cases h3.symm.trans hs2; cases h4.symm.trans hs1; exact ⟨fun q hq _ => h28 q hq, fun _ => ⟨rfl, h28 _ hYm0⟩, fun h => absurd h (by omega), fun h => absurd h (by omega)⟩) (Nat.le_refl _) (Nat.le_refl _) fz_d21
