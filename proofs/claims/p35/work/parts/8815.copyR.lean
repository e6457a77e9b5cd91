section ZLC
variable {D : va_G} {Y : xY} {H H' : Heap} {q r : Nat} {f : Nat → Int32}
/-- a write to another land itself -/
theorem z_L.farI (h : z_L D Y q H f) (hqr : q ≠ r) (hr : Y r = some 2) (ho : ∀ b, b ≠ r → H'[b]? = H[b]?) : z_L D Y q H' f := by
  have h' := h
  obtain ⟨-, k1, ⟨b, b1, b2, b3⟩, -⟩ := h'
  have hne : ∀ (x u : Nat), Y x = some u → u ≠ 2 → x ≠ r := fun x u hx hu e0 => by
    subst e0
    rw [hx] at hr
    injection hr with hr
    exact hu hr
  refine h.kept (fun _ _ hh => hh) (ho q hqr) (fun c hc a ha => ?_) (fun a ha => ?_)
  · obtain ⟨a', e1, e2, -⟩ := k1 c hc
    cases e1.symm.trans ha
    have := z_C_tag c hc
    exact ho a (hne a _ e2 (by omega))
  · cases b1.symm.trans ha
    refine ⟨ho b (hne b 24 b2 (by decide)), fun j s hj hs => ?_⟩
    obtain ⟨s', s1, z, z1, z2, -⟩ := b3 j hj
    cases s1.symm.trans hs
    have := z_Kd_tag z z1
    exact ho s (hne s _ z2 (by omega))
/-- a write to another land's stones -/
theorem z_L.farS {a : Nat} (h : z_L D Y q H f) (hq : Y q = some 2) (hd : z_dis D H q r) (ha : x_sl D 2 7 r H = some (.ref a)) (hYa : Y a = some 24) (ho : ∀ b, b ≠ a → H'[b]? = H[b]?) : z_L D Y q H' f := by
  have hne : ∀ (x u : Nat), Y x = some u → u ≠ 24 → x ≠ a := fun x u hx hu e0 => by
    subst e0
    rw [hx] at hYa
    injection hYa with hYa
    exact hu hYa
  have h' := h
  obtain ⟨-, k1, ⟨b, b1, b2, b3⟩, -⟩ := h'
  refine h.kept (fun _ _ hh => hh) (ho q (hne q 2 hq (by decide))) (fun c hc a' h1 => ?_) (fun a' h1 => ?_)
  · obtain ⟨a'', e1, e2, -⟩ := k1 c hc
    cases e1.symm.trans h1
    have := z_C_tag c hc
    exact ho a' (hne a' _ e2 (by omega))
  · cases b1.symm.trans h1
    have hba : b ≠ a := fun e0 => by
      subst e0
      exact hd.2.2 (b1.trans ha.symm)
    refine ⟨ho b hba, fun j s hj hs => ?_⟩
    obtain ⟨s', s1, z, z1, z2, -⟩ := b3 j hj
    cases s1.symm.trans hs
    have := z_Kd_tag z z1
    exact ho s (hne s _ z2 (by omega))
end ZLC
def z_fld (D : va_G) (r : Nat) (H H' : Heap) : Prop := ∀ k, k < 16 → k ≠ 0 → k ≠ 6 → k ≠ 12 → x_sl D 2 k r H' = x_sl D 2 k r H
def z_Acp : yA := fun D av Y H => ∀ this ot : Nat, av = [.ref this, .ref ot] → ∃ g, z_L D Y ot H g ∧ z_dis D H ot this
def z_Pcp : yP := fun D av Y H _ Y' H' => ∀ (this ot : Nat) (g : Nat → Int32), av = [.ref this, .ref ot] → z_L D Y ot H g → z_fr D Y H H' this ∧ z_L D Y' this H' g ∧ z_fld D this H H'
theorem cp_d0 : decode xM58.2.1 0 = .ok (.aload_n 0, 1) := dz_ok (by decide +kernel)
theorem cp_d1 : decode xM58.2.1 1 = .ok (.aload_n 1, 1) := dz_ok (by decide +kernel)
theorem cp_d2 : decode xM58.2.1 2 = .ok (.getfield 63, 3) := dz_ok (by decide +kernel)
theorem cp_d5 : decode xM58.2.1 5 = .ok (.putfield 63, 3) := dz_ok (by decide +kernel)
theorem cp_d8 : decode xM58.2.1 8 = .ok (.aload_n 1, 1) := dz_ok (by decide +kernel)
theorem cp_d9 : decode xM58.2.1 9 = .ok (.getfield 9, 3) := dz_ok (by decide +kernel)
theorem cp_d12 : decode xM58.2.1 12 = .ok (.iconst 0, 1) := dz_ok (by decide +kernel)
theorem cp_d13 : decode xM58.2.1 13 = .ok (.aload_n 0, 1) := dz_ok (by decide +kernel)
theorem cp_d14 : decode xM58.2.1 14 = .ok (.getfield 9, 3) := dz_ok (by decide +kernel)
theorem cp_d17 : decode xM58.2.1 17 = .ok (.iconst 0, 1) := dz_ok (by decide +kernel)
theorem cp_d18 : decode xM58.2.1 18 = .ok (.bipush 10, 2) := dz_ok (by decide +kernel)
theorem cp_d20 : decode xM58.2.1 20 = .ok (.invokestatic 67, 3) := dz_ok (by decide +kernel)
theorem cp_d23 : decode xM58.2.1 23 = .ok (.aload_n 1, 1) := dz_ok (by decide +kernel)
theorem cp_d24 : decode xM58.2.1 24 = .ok (.getfield 15, 3) := dz_ok (by decide +kernel)
theorem cp_d27 : decode xM58.2.1 27 = .ok (.iconst 0, 1) := dz_ok (by decide +kernel)
theorem cp_d28 : decode xM58.2.1 28 = .ok (.aload_n 0, 1) := dz_ok (by decide +kernel)
theorem cp_d29 : decode xM58.2.1 29 = .ok (.getfield 15, 3) := dz_ok (by decide +kernel)
theorem cp_d32 : decode xM58.2.1 32 = .ok (.iconst 0, 1) := dz_ok (by decide +kernel)
theorem cp_d33 : decode xM58.2.1 33 = .ok (.bipush 10, 2) := dz_ok (by decide +kernel)
theorem cp_d35 : decode xM58.2.1 35 = .ok (.invokestatic 67, 3) := dz_ok (by decide +kernel)
theorem cp_d38 : decode xM58.2.1 38 = .ok (.aload_n 1, 1) := dz_ok (by decide +kernel)
theorem cp_d39 : decode xM58.2.1 39 = .ok (.getfield 18, 3) := dz_ok (by decide +kernel)
theorem cp_d42 : decode xM58.2.1 42 = .ok (.iconst 0, 1) := dz_ok (by decide +kernel)
theorem cp_d43 : decode xM58.2.1 43 = .ok (.aload_n 0, 1) := dz_ok (by decide +kernel)
theorem cp_d44 : decode xM58.2.1 44 = .ok (.getfield 18, 3) := dz_ok (by decide +kernel)
theorem cp_d47 : decode xM58.2.1 47 = .ok (.iconst 0, 1) := dz_ok (by decide +kernel)
theorem cp_d48 : decode xM58.2.1 48 = .ok (.bipush 10, 2) := dz_ok (by decide +kernel)
theorem cp_d50 : decode xM58.2.1 50 = .ok (.invokestatic 67, 3) := dz_ok (by decide +kernel)
theorem cp_d53 : decode xM58.2.1 53 = .ok (.aload_n 1, 1) := dz_ok (by decide +kernel)
theorem cp_d54 : decode xM58.2.1 54 = .ok (.getfield 21, 3) := dz_ok (by decide +kernel)
theorem cp_d57 : decode xM58.2.1 57 = .ok (.iconst 0, 1) := dz_ok (by decide +kernel)
theorem cp_d58 : decode xM58.2.1 58 = .ok (.aload_n 0, 1) := dz_ok (by decide +kernel)
theorem cp_d59 : decode xM58.2.1 59 = .ok (.getfield 21, 3) := dz_ok (by decide +kernel)
theorem cp_d62 : decode xM58.2.1 62 = .ok (.iconst 0, 1) := dz_ok (by decide +kernel)
theorem cp_d63 : decode xM58.2.1 63 = .ok (.bipush 10, 2) := dz_ok (by decide +kernel)
theorem cp_d65 : decode xM58.2.1 65 = .ok (.invokestatic 67, 3) := dz_ok (by decide +kernel)
theorem cp_d68 : decode xM58.2.1 68 = .ok (.aload_n 1, 1) := dz_ok (by decide +kernel)
theorem cp_d69 : decode xM58.2.1 69 = .ok (.getfield 24, 3) := dz_ok (by decide +kernel)
theorem cp_d72 : decode xM58.2.1 72 = .ok (.iconst 0, 1) := dz_ok (by decide +kernel)
theorem cp_d73 : decode xM58.2.1 73 = .ok (.aload_n 0, 1) := dz_ok (by decide +kernel)
theorem cp_d74 : decode xM58.2.1 74 = .ok (.getfield 24, 3) := dz_ok (by decide +kernel)
theorem cp_d77 : decode xM58.2.1 77 = .ok (.iconst 0, 1) := dz_ok (by decide +kernel)
theorem cp_d78 : decode xM58.2.1 78 = .ok (.bipush 10, 2) := dz_ok (by decide +kernel)
theorem cp_d80 : decode xM58.2.1 80 = .ok (.invokestatic 67, 3) := dz_ok (by decide +kernel)
theorem cp_d83 : decode xM58.2.1 83 = .ok (.aload_n 0, 1) := dz_ok (by decide +kernel)
theorem cp_d84 : decode xM58.2.1 84 = .ok (.aload_n 1, 1) := dz_ok (by decide +kernel)
theorem cp_d85 : decode xM58.2.1 85 = .ok (.getfield 73, 3) := dz_ok (by decide +kernel)
theorem cp_d88 : decode xM58.2.1 88 = .ok (.putfield 73, 3) := dz_ok (by decide +kernel)
theorem cp_d91 : decode xM58.2.1 91 = .ok (.iconst 0, 1) := dz_ok (by decide +kernel)
theorem cp_d92 : decode xM58.2.1 92 = .ok (.istore_n 2, 1) := dz_ok (by decide +kernel)
theorem cp_d93 : decode xM58.2.1 93 = .ok (.iload_n 2, 1) := dz_ok (by decide +kernel)
theorem cp_d94 : decode xM58.2.1 94 = .ok (.bipush 8, 2) := dz_ok (by decide +kernel)
theorem cp_d96 : decode xM58.2.1 96 = .ok (.if_icmp .ge 21, 3) := dz_ok (by decide +kernel)
theorem cp_d99 : decode xM58.2.1 99 = .ok (.aload_n 0, 1) := dz_ok (by decide +kernel)
theorem cp_d100 : decode xM58.2.1 100 = .ok (.getfield 29, 3) := dz_ok (by decide +kernel)
theorem cp_d103 : decode xM58.2.1 103 = .ok (.iload_n 2, 1) := dz_ok (by decide +kernel)
theorem cp_d104 : decode xM58.2.1 104 = .ok (.aload_n 1, 1) := dz_ok (by decide +kernel)
theorem cp_d105 : decode xM58.2.1 105 = .ok (.getfield 29, 3) := dz_ok (by decide +kernel)
theorem cp_d108 : decode xM58.2.1 108 = .ok (.iload_n 2, 1) := dz_ok (by decide +kernel)
theorem cp_d109 : decode xM58.2.1 109 = .ok (.aaload, 1) := dz_ok (by decide +kernel)
theorem cp_d110 : decode xM58.2.1 110 = .ok (.aastore, 1) := dz_ok (by decide +kernel)
theorem cp_d111 : decode xM58.2.1 111 = .ok (.iinc 2 1, 3) := dz_ok (by decide +kernel)
theorem cp_d114 : decode xM58.2.1 114 = .ok (.goto (-21), 3) := dz_ok (by decide +kernel)
theorem cp_d117 : decode xM58.2.1 117 = .ok (.aload_n 1, 1) := dz_ok (by decide +kernel)
theorem cp_d118 : decode xM58.2.1 118 = .ok (.getfield 33, 3) := dz_ok (by decide +kernel)
theorem cp_d121 : decode xM58.2.1 121 = .ok (.iconst 0, 1) := dz_ok (by decide +kernel)
theorem cp_d122 : decode xM58.2.1 122 = .ok (.aload_n 0, 1) := dz_ok (by decide +kernel)
theorem cp_d123 : decode xM58.2.1 123 = .ok (.getfield 33, 3) := dz_ok (by decide +kernel)
theorem cp_d126 : decode xM58.2.1 126 = .ok (.iconst 0, 1) := dz_ok (by decide +kernel)
theorem cp_d127 : decode xM58.2.1 127 = .ok (.bipush 8, 2) := dz_ok (by decide +kernel)
theorem cp_d129 : decode xM58.2.1 129 = .ok (.invokestatic 67, 3) := dz_ok (by decide +kernel)
theorem cp_d132 : decode xM58.2.1 132 = .ok (.aload_n 1, 1) := dz_ok (by decide +kernel)
theorem cp_d133 : decode xM58.2.1 133 = .ok (.getfield 36, 3) := dz_ok (by decide +kernel)
theorem cp_d136 : decode xM58.2.1 136 = .ok (.iconst 0, 1) := dz_ok (by decide +kernel)
theorem cp_d137 : decode xM58.2.1 137 = .ok (.aload_n 0, 1) := dz_ok (by decide +kernel)
theorem cp_d138 : decode xM58.2.1 138 = .ok (.getfield 36, 3) := dz_ok (by decide +kernel)
theorem cp_d141 : decode xM58.2.1 141 = .ok (.iconst 0, 1) := dz_ok (by decide +kernel)
theorem cp_d142 : decode xM58.2.1 142 = .ok (.bipush 8, 2) := dz_ok (by decide +kernel)
theorem cp_d144 : decode xM58.2.1 144 = .ok (.invokestatic 67, 3) := dz_ok (by decide +kernel)
theorem cp_d147 : decode xM58.2.1 147 = .ok (.aload_n 1, 1) := dz_ok (by decide +kernel)
theorem cp_d148 : decode xM58.2.1 148 = .ok (.getfield 39, 3) := dz_ok (by decide +kernel)
theorem cp_d151 : decode xM58.2.1 151 = .ok (.iconst 0, 1) := dz_ok (by decide +kernel)
theorem cp_d152 : decode xM58.2.1 152 = .ok (.aload_n 0, 1) := dz_ok (by decide +kernel)
theorem cp_d153 : decode xM58.2.1 153 = .ok (.getfield 39, 3) := dz_ok (by decide +kernel)
theorem cp_d156 : decode xM58.2.1 156 = .ok (.iconst 0, 1) := dz_ok (by decide +kernel)
theorem cp_d157 : decode xM58.2.1 157 = .ok (.aload_n 0, 1) := dz_ok (by decide +kernel)
theorem cp_d158 : decode xM58.2.1 158 = .ok (.getfield 39, 3) := dz_ok (by decide +kernel)
theorem cp_d161 : decode xM58.2.1 161 = .ok (.arraylength, 1) := dz_ok (by decide +kernel)
theorem cp_d162 : decode xM58.2.1 162 = .ok (.invokestatic 67, 3) := dz_ok (by decide +kernel)
theorem cp_d165 : decode xM58.2.1 165 = .ok (.aload_n 1, 1) := dz_ok (by decide +kernel)
theorem cp_d166 : decode xM58.2.1 166 = .ok (.getfield 42, 3) := dz_ok (by decide +kernel)
theorem cp_d169 : decode xM58.2.1 169 = .ok (.iconst 0, 1) := dz_ok (by decide +kernel)
theorem cp_d170 : decode xM58.2.1 170 = .ok (.aload_n 0, 1) := dz_ok (by decide +kernel)
theorem cp_d171 : decode xM58.2.1 171 = .ok (.getfield 42, 3) := dz_ok (by decide +kernel)
theorem cp_d174 : decode xM58.2.1 174 = .ok (.iconst 0, 1) := dz_ok (by decide +kernel)
theorem cp_d175 : decode xM58.2.1 175 = .ok (.bipush 12, 2) := dz_ok (by decide +kernel)
theorem cp_d177 : decode xM58.2.1 177 = .ok (.invokestatic 67, 3) := dz_ok (by decide +kernel)
theorem cp_d180 : decode xM58.2.1 180 = .ok (.aload_n 0, 1) := dz_ok (by decide +kernel)
theorem cp_d181 : decode xM58.2.1 181 = .ok (.aload_n 1, 1) := dz_ok (by decide +kernel)
theorem cp_d182 : decode xM58.2.1 182 = .ok (.getfield 76, 3) := dz_ok (by decide +kernel)
theorem cp_d185 : decode xM58.2.1 185 = .ok (.putfield 76, 3) := dz_ok (by decide +kernel)
theorem cp_d188 : decode xM58.2.1 188 = .ok (.aload_n 1, 1) := dz_ok (by decide +kernel)
theorem cp_d189 : decode xM58.2.1 189 = .ok (.getfield 45, 3) := dz_ok (by decide +kernel)
theorem cp_d192 : decode xM58.2.1 192 = .ok (.iconst 0, 1) := dz_ok (by decide +kernel)
theorem cp_d193 : decode xM58.2.1 193 = .ok (.aload_n 0, 1) := dz_ok (by decide +kernel)
theorem cp_d194 : decode xM58.2.1 194 = .ok (.getfield 45, 3) := dz_ok (by decide +kernel)
theorem cp_d197 : decode xM58.2.1 197 = .ok (.iconst 0, 1) := dz_ok (by decide +kernel)
theorem cp_d198 : decode xM58.2.1 198 = .ok (.bipush 8, 2) := dz_ok (by decide +kernel)
theorem cp_d200 : decode xM58.2.1 200 = .ok (.invokestatic 67, 3) := dz_ok (by decide +kernel)
theorem cp_d203 : decode xM58.2.1 203 = .ok (.aload_n 1, 1) := dz_ok (by decide +kernel)
theorem cp_d204 : decode xM58.2.1 204 = .ok (.getfield 48, 3) := dz_ok (by decide +kernel)
theorem cp_d207 : decode xM58.2.1 207 = .ok (.iconst 0, 1) := dz_ok (by decide +kernel)
theorem cp_d208 : decode xM58.2.1 208 = .ok (.aload_n 0, 1) := dz_ok (by decide +kernel)
theorem cp_d209 : decode xM58.2.1 209 = .ok (.getfield 48, 3) := dz_ok (by decide +kernel)
theorem cp_d212 : decode xM58.2.1 212 = .ok (.iconst 0, 1) := dz_ok (by decide +kernel)
theorem cp_d213 : decode xM58.2.1 213 = .ok (.bipush 12, 2) := dz_ok (by decide +kernel)
theorem cp_d215 : decode xM58.2.1 215 = .ok (.invokestatic 67, 3) := dz_ok (by decide +kernel)
theorem cp_d218 : decode xM58.2.1 218 = .ok (.aload_n 1, 1) := dz_ok (by decide +kernel)
theorem cp_d219 : decode xM58.2.1 219 = .ok (.getfield 51, 3) := dz_ok (by decide +kernel)
theorem cp_d222 : decode xM58.2.1 222 = .ok (.iconst 0, 1) := dz_ok (by decide +kernel)
theorem cp_d223 : decode xM58.2.1 223 = .ok (.aload_n 0, 1) := dz_ok (by decide +kernel)
theorem cp_d224 : decode xM58.2.1 224 = .ok (.getfield 51, 3) := dz_ok (by decide +kernel)
theorem cp_d227 : decode xM58.2.1 227 = .ok (.iconst 0, 1) := dz_ok (by decide +kernel)
theorem cp_d228 : decode xM58.2.1 228 = .ok (.bipush 12, 2) := dz_ok (by decide +kernel)
theorem cp_d230 : decode xM58.2.1 230 = .ok (.invokestatic 67, 3) := dz_ok (by decide +kernel)
theorem cp_d233 : decode xM58.2.1 233 = .ok (.return_, 1) := dz_ok (by decide +kernel)
theorem cp_L93 {p : Program} {l : Launch} {e : Env} {s : State} {m : MethodId} {below : List Frame} {meth : Method} {c : Code} {D : va_G} {U : State} {Y0 : xY} {av : List Value} (B : y_B vwCl x_Tb x_Nb xM58 p s m meth c D U Y0 av) {this ot this_x this_y this_height this_report this_blame this_stones ot_stones : Nat} {g : Nat → Int32} (hav : av = [.ref this, .ref ot]) (hO0 : z_L D Y0 ot s.heap g)  :
    ∀ (n : Nat), ∀ (H : Heap) (Y : xY) (locs : List Loc) (ls : Array Slot) (i : Int32), x_I D x_G x_Zs U (x_efs xM58) Y0 s.heap Y H locs → Y this = some 2 → Y ot = some 2 → Y this_x = some 19 → Y this_y = some 20 → Y this_height = some 21 → Y this_report = some 22 → Y this_blame = some 23 → Y this_stones = some 24 → Y ot_stones = some 24 → x_sl D 2 1 this H = some (.ref this_x) → x_sl D 2 2 this H = some (.ref this_y) → x_sl D 2 3 this H = some (.ref this_height) → x_sl D 2 4 this H = some (.ref this_report) → x_sl D 2 5 this H = some (.ref this_blame) → x_sl D 2 7 this H = some (.ref this_stones) → x_sl D 2 7 ot H = some (.ref ot_stones) → x_sl D 2 0 this H = some (.int (g 0)) → x_sl D 2 6 this H = some (.int (g 1)) → y_A this_x 10 H (fun j => g (10 + 5 * j)) → y_A this_y 10 H (fun j => g (11 + 5 * j)) → y_A this_height 10 H (fun j => g (12 + 5 * j)) → y_A this_report 10 H (fun j => g (13 + 5 * j)) → y_A this_blame 10 H (fun j => g (14 + 5 * j)) → lv_has ls xM58.2.2.1 [(2, .int i), (0, .ref this), (1, .ref ot)] → (0 ≤ i.toInt ∧ i.toInt ≤ 8) → (z_L D Y ot H g) → (z_dis D H ot this) → (z_fld D this s.heap H) → (z_fr D Y0 s.heap H this) → (∀ j : Nat, (j : Int) < i.toInt → y_at this_stones j H = y_at ot_stones j H) → (8 - i.toInt).toNat < n → W p l e (x_rm xM58) s m av.toArray below meth c H locs 0 0 (y_QQ below D x_G x_Zs U xM58 z_Pcp av Y0 s) (F0 m 93 ls []) := by
  have X := B.1
  have hx := X.1
  have hb := X.2.1
  have hY0 := B.2.2.2.2.1
  intro n
  induction n with
  | zero => intro _ _ _ _ _ _ _ _ _ _ _ _ _ _ _ _ _ _ _ _ _ _ _ _ _ _ _ _ _ _ _ _ _ _ _ _ h; exact absurd h (Nat.not_lt_zero _)
  | succ n ih =>
    intro H Y locs ls i  hI hY_this hY_ot hY_this_x hY_this_y hY_this_height hY_this_report hY_this_blame hY_this_stones hY_ot_stones hs_this_x hs_this_y hs_this_height hs_this_report hs_this_blame hs_this_stones hs_ot_stones hsi_hills hsi_things hA_this_x hA_this_y hA_this_height hA_this_report hA_this_blame hl hi hO hdis hfld hF hst hn
    refine lv_iload_n hx hb cp_d93 rfl (lv_at hl 0 rfl) ?_
    refine lv_bipush hx hb cp_d94 (v := 8) (by decide) ?_
    have ec8 : (8 : Int32).toInt = 8 := by decide
    refine lv_icmp_ge hx hb cp_d96 (tgt := 117) (by decide) (fun q96 => ?_) (fun q96 => ?_)
    · have q96_ : (8 : Int32).toInt ≤ i.toInt := x_le32.mp q96
      refine lv_aload_n hx hb cp_d117 rfl (lv_at hl 2 rfl) ?_
      obtain ⟨ot_done, hs_ot_done, hY_ot_done⟩ := y_fldR (k := 8) hI.1 hY_ot rfl rfl
      refine y_getf X (fl40 X.2.2.2.2.1) hI.1 hY_ot rfl hs_ot_done cp_d118 ?_
      refine lv_iconst hx hb cp_d121 (v := 0) (by decide) ?_
      have ec0 : (0 : Int32).toInt = 0 := by decide
      refine lv_aload_n hx hb cp_d122 rfl (lv_at hl 1 rfl) ?_
      obtain ⟨this_done, hs_this_done, hY_this_done⟩ := y_fldR (k := 8) hI.1 hY_this rfl rfl
      refine y_getf X (fl40 X.2.2.2.2.1) hI.1 hY_this rfl hs_this_done cp_d123 ?_
      refine lv_iconst hx hb cp_d126 (v := 0) (by decide) ?_
      refine lv_bipush hx hb cp_d127 (v := 8) (by decide) ?_
      obtain ⟨a9, e9, -, hAo⟩ := hO.2.1 (8, 25, 8, 65, 7) (by decide)
      cases e9.symm.trans hs_ot_done
      replace hAo : y_A ot_done 8 _ (fun j => g (65 + 7 * j)) := hAo
      have hs0_d := (hfld 8 (by decide) (by decide) (by decide) (by decide)).symm.trans hs_this_done
      refine y_acp (bd := this_done) (bs := ot_done) (t := 25) (n := 8) (rest := []) X (x_bw35 3 rfl rfl) (x_bw35 5 rfl rfl) (x_bw35 4 rfl rfl) (x_bw1 0 rfl rfl) (Nat.le_of_ble_eq_true rfl) (by decide) hY0 hI hY_this_done hY_ot_done rfl hAo (by decide) (by decide +kernel) hl.1 (Nat.le_of_ble_eq_true rfl) cp_d129 fun H locs hI h_new ho => ?_
      replace hO := hO.far hY_ot hdis (c := (8, 25, 8, 65, 7)) (by decide) hs_this_done hY_this_done ho
      replace hdis := hdis.moved (fun k _ _ _ _ => y_slk rfl (ho _ (y_ne hY_ot hY_this_done rfl))) (fun k _ _ _ _ => y_slk rfl (ho _ (y_ne hY_this hY_this_done rfl)))
      replace hfld : z_fld D this s.heap _ := fun k a b c d => (y_slk rfl (ho _ (y_ne hY_this hY_this_done rfl))).trans (hfld k a b c d)
      replace hF := fun b u g9 (hb : Y0 b = some u) (hg9 : x_G[u]? = some g9) (hn : b ≠ this) (hk9 : ∀ k, k < 16 → x_sl D 2 k this s.heap ≠ some (.ref b)) => x_eq.trans (x_eq.of (ho b (fun e0 => hk9 8 (by decide) (by rw [e0]; exact hs0_d)))) (hF b u g9 hb hg9 hn hk9)
      replace hs_this_x := y_slk hs_this_x (ho _ (y_ne hY_this hY_this_done rfl))
      replace hs_this_y := y_slk hs_this_y (ho _ (y_ne hY_this hY_this_done rfl))
      replace hs_this_height := y_slk hs_this_height (ho _ (y_ne hY_this hY_this_done rfl))
      replace hs_this_report := y_slk hs_this_report (ho _ (y_ne hY_this hY_this_done rfl))
      replace hs_this_blame := y_slk hs_this_blame (ho _ (y_ne hY_this hY_this_done rfl))
      replace hs_this_stones := y_slk hs_this_stones (ho _ (y_ne hY_this hY_this_done rfl))
      replace hs_ot_stones := y_slk hs_ot_stones (ho _ (y_ne hY_ot hY_this_done rfl))
      replace hsi_hills := y_slk hsi_hills (ho _ (y_ne hY_this hY_this_done rfl))
      replace hsi_things := y_slk hsi_things (ho _ (y_ne hY_this hY_this_done rfl))
      replace hs_ot_done := y_slk hs_ot_done (ho _ (y_ne hY_ot hY_this_done rfl))
      replace hs_this_done := y_slk hs_this_done (ho _ (y_ne hY_this hY_this_done rfl))
      replace hA_this_x := hA_this_x.kept (ho _ (y_ne hY_this_x hY_this_done rfl))
      replace hA_this_y := hA_this_y.kept (ho _ (y_ne hY_this_y hY_this_done rfl))
      replace hA_this_height := hA_this_height.kept (ho _ (y_ne hY_this_height hY_this_done rfl))
      replace hA_this_report := hA_this_report.kept (ho _ (y_ne hY_this_report hY_this_done rfl))
      replace hA_this_blame := hA_this_blame.kept (ho _ (y_ne hY_this_blame hY_this_done rfl))
      replace hst : ∀ j : Nat, (j : Int) < i.toInt → y_at this_stones j H = y_at ot_stones j H := fun j hj => by rw [z_atk (ho _ (y_ne hY_this_stones hY_this_done rfl)), z_atk (ho _ (y_ne hY_ot_stones hY_this_done rfl))]; exact hst j hj
      have hA_this_done := h_new
      refine lv_aload_n hx hb cp_d132 rfl (lv_at hl 2 rfl) ?_
      obtain ⟨ot_cost, hs_ot_cost, hY_ot_cost⟩ := y_fldR (k := 9) hI.1 hY_ot rfl rfl
      refine y_getf X (fl41 X.2.2.2.2.1) hI.1 hY_ot rfl hs_ot_cost cp_d133 ?_
      refine lv_iconst hx hb cp_d136 (v := 0) (by decide) ?_
      refine lv_aload_n hx hb cp_d137 rfl (lv_at hl 1 rfl) ?_
      obtain ⟨this_cost, hs_this_cost, hY_this_cost⟩ := y_fldR (k := 9) hI.1 hY_this rfl rfl
      refine y_getf X (fl41 X.2.2.2.2.1) hI.1 hY_this rfl hs_this_cost cp_d138 ?_
      refine lv_iconst hx hb cp_d141 (v := 0) (by decide) ?_
      refine lv_bipush hx hb cp_d142 (v := 8) (by decide) ?_
      obtain ⟨a9, e9, -, hAo⟩ := hO.2.1 (9, 26, 8, 66, 7) (by decide)
      cases e9.symm.trans hs_ot_cost
      replace hAo : y_A ot_cost 8 _ (fun j => g (66 + 7 * j)) := hAo
      have hs0_d := (hfld 9 (by decide) (by decide) (by decide) (by decide)).symm.trans hs_this_cost
      refine y_acp (bd := this_cost) (bs := ot_cost) (t := 26) (n := 8) (rest := []) X (x_bw35 3 rfl rfl) (x_bw35 5 rfl rfl) (x_bw35 4 rfl rfl) (x_bw1 0 rfl rfl) (Nat.le_of_ble_eq_true rfl) (by decide) hY0 hI hY_this_cost hY_ot_cost rfl hAo (by decide) (by decide +kernel) hl.1 (Nat.le_of_ble_eq_true rfl) cp_d144 fun H locs hI h_new ho => ?_
      replace hO := hO.far hY_ot hdis (c := (9, 26, 8, 66, 7)) (by decide) hs_this_cost hY_this_cost ho
      replace hdis := hdis.moved (fun k _ _ _ _ => y_slk rfl (ho _ (y_ne hY_ot hY_this_cost rfl))) (fun k _ _ _ _ => y_slk rfl (ho _ (y_ne hY_this hY_this_cost rfl)))
      replace hfld : z_fld D this s.heap _ := fun k a b c d => (y_slk rfl (ho _ (y_ne hY_this hY_this_cost rfl))).trans (hfld k a b c d)
      replace hF := fun b u g9 (hb : Y0 b = some u) (hg9 : x_G[u]? = some g9) (hn : b ≠ this) (hk9 : ∀ k, k < 16 → x_sl D 2 k this s.heap ≠ some (.ref b)) => x_eq.trans (x_eq.of (ho b (fun e0 => hk9 9 (by decide) (by rw [e0]; exact hs0_d)))) (hF b u g9 hb hg9 hn hk9)
      replace hs_this_x := y_slk hs_this_x (ho _ (y_ne hY_this hY_this_cost rfl))
      replace hs_this_y := y_slk hs_this_y (ho _ (y_ne hY_this hY_this_cost rfl))
      replace hs_this_height := y_slk hs_this_height (ho _ (y_ne hY_this hY_this_cost rfl))
      replace hs_this_report := y_slk hs_this_report (ho _ (y_ne hY_this hY_this_cost rfl))
      replace hs_this_blame := y_slk hs_this_blame (ho _ (y_ne hY_this hY_this_cost rfl))
      replace hs_this_stones := y_slk hs_this_stones (ho _ (y_ne hY_this hY_this_cost rfl))
      replace hs_ot_stones := y_slk hs_ot_stones (ho _ (y_ne hY_ot hY_this_cost rfl))
      replace hsi_hills := y_slk hsi_hills (ho _ (y_ne hY_this hY_this_cost rfl))
      replace hsi_things := y_slk hsi_things (ho _ (y_ne hY_this hY_this_cost rfl))
      replace hs_this_done := y_slk hs_this_done (ho _ (y_ne hY_this hY_this_cost rfl))
      replace hs_ot_cost := y_slk hs_ot_cost (ho _ (y_ne hY_ot hY_this_cost rfl))
      replace hs_this_cost := y_slk hs_this_cost (ho _ (y_ne hY_this hY_this_cost rfl))
      replace hA_this_x := hA_this_x.kept (ho _ (y_ne hY_this_x hY_this_cost rfl))
      replace hA_this_y := hA_this_y.kept (ho _ (y_ne hY_this_y hY_this_cost rfl))
      replace hA_this_height := hA_this_height.kept (ho _ (y_ne hY_this_height hY_this_cost rfl))
      replace hA_this_report := hA_this_report.kept (ho _ (y_ne hY_this_report hY_this_cost rfl))
      replace hA_this_blame := hA_this_blame.kept (ho _ (y_ne hY_this_blame hY_this_cost rfl))
      replace hA_this_done := hA_this_done.kept (ho _ (y_ne hY_this_done hY_this_cost rfl))
      replace hst : ∀ j : Nat, (j : Int) < i.toInt → y_at this_stones j H = y_at ot_stones j H := fun j hj => by rw [z_atk (ho _ (y_ne hY_this_stones hY_this_cost rfl)), z_atk (ho _ (y_ne hY_ot_stones hY_this_cost rfl))]; exact hst j hj
      have hA_this_cost := h_new
      refine lv_aload_n hx hb cp_d147 rfl (lv_at hl 2 rfl) ?_
      obtain ⟨ot_dial, hs_ot_dial, hY_ot_dial⟩ := y_fldR (k := 10) hI.1 hY_ot rfl rfl
      refine y_getf X (fl44 X.2.2.2.2.1) hI.1 hY_ot rfl hs_ot_dial cp_d148 ?_
      refine lv_iconst hx hb cp_d151 (v := 0) (by decide) ?_
      refine lv_aload_n hx hb cp_d152 rfl (lv_at hl 1 rfl) ?_
      obtain ⟨this_dial, hs_this_dial, hY_this_dial⟩ := y_fldR (k := 10) hI.1 hY_this rfl rfl
      refine y_getf X (fl44 X.2.2.2.2.1) hI.1 hY_this rfl hs_this_dial cp_d153 ?_
      refine lv_iconst hx hb cp_d156 (v := 0) (by decide) ?_
      refine lv_aload_n hx hb cp_d157 rfl (lv_at hl 1 rfl) ?_
      refine y_getf X (fl44 X.2.2.2.2.1) hI.1 hY_this rfl hs_this_dial cp_d158 ?_
      refine y_alen X hI.1 hY_this_dial rfl cp_d161 ?_
      have h_nI4 : (nI 4).toInt = 4 := by decide
      obtain ⟨a9, e9, -, hAo⟩ := hO.2.1 (10, 27, 4, 4, 1) (by decide)
      cases e9.symm.trans hs_ot_dial
      replace hAo : y_A ot_dial 4 _ (fun j => g (4 + 1 * j)) := hAo
      have hs0_d := (hfld 10 (by decide) (by decide) (by decide) (by decide)).symm.trans hs_this_dial
      refine y_acp (bd := this_dial) (bs := ot_dial) (t := 27) (n := 4) (rest := []) X (x_bw35 3 rfl rfl) (x_bw35 5 rfl rfl) (x_bw35 4 rfl rfl) (x_bw1 0 rfl rfl) (Nat.le_of_ble_eq_true rfl) (by decide) hY0 hI hY_this_dial hY_ot_dial rfl hAo (by decide) (by decide +kernel) hl.1 (Nat.le_of_ble_eq_true rfl) cp_d162 fun H locs hI h_new ho => ?_
      replace hO := hO.far hY_ot hdis (c := (10, 27, 4, 4, 1)) (by decide) hs_this_dial hY_this_dial ho
      replace hdis := hdis.moved (fun k _ _ _ _ => y_slk rfl (ho _ (y_ne hY_ot hY_this_dial rfl))) (fun k _ _ _ _ => y_slk rfl (ho _ (y_ne hY_this hY_this_dial rfl)))
      replace hfld : z_fld D this s.heap _ := fun k a b c d => (y_slk rfl (ho _ (y_ne hY_this hY_this_dial rfl))).trans (hfld k a b c d)
      replace hF := fun b u g9 (hb : Y0 b = some u) (hg9 : x_G[u]? = some g9) (hn : b ≠ this) (hk9 : ∀ k, k < 16 → x_sl D 2 k this s.heap ≠ some (.ref b)) => x_eq.trans (x_eq.of (ho b (fun e0 => hk9 10 (by decide) (by rw [e0]; exact hs0_d)))) (hF b u g9 hb hg9 hn hk9)
      replace hs_this_x := y_slk hs_this_x (ho _ (y_ne hY_this hY_this_dial rfl))
      replace hs_this_y := y_slk hs_this_y (ho _ (y_ne hY_this hY_this_dial rfl))
      replace hs_this_height := y_slk hs_this_height (ho _ (y_ne hY_this hY_this_dial rfl))
      replace hs_this_report := y_slk hs_this_report (ho _ (y_ne hY_this hY_this_dial rfl))
      replace hs_this_blame := y_slk hs_this_blame (ho _ (y_ne hY_this hY_this_dial rfl))
      replace hs_this_stones := y_slk hs_this_stones (ho _ (y_ne hY_this hY_this_dial rfl))
      replace hs_ot_stones := y_slk hs_ot_stones (ho _ (y_ne hY_ot hY_this_dial rfl))
      replace hsi_hills := y_slk hsi_hills (ho _ (y_ne hY_this hY_this_dial rfl))
      replace hsi_things := y_slk hsi_things (ho _ (y_ne hY_this hY_this_dial rfl))
      replace hs_this_done := y_slk hs_this_done (ho _ (y_ne hY_this hY_this_dial rfl))
      replace hs_this_cost := y_slk hs_this_cost (ho _ (y_ne hY_this hY_this_dial rfl))
      replace hs_ot_dial := y_slk hs_ot_dial (ho _ (y_ne hY_ot hY_this_dial rfl))
      replace hs_this_dial := y_slk hs_this_dial (ho _ (y_ne hY_this hY_this_dial rfl))
      replace hA_this_x := hA_this_x.kept (ho _ (y_ne hY_this_x hY_this_dial rfl))
      replace hA_this_y := hA_this_y.kept (ho _ (y_ne hY_this_y hY_this_dial rfl))
      replace hA_this_height := hA_this_height.kept (ho _ (y_ne hY_this_height hY_this_dial rfl))
      replace hA_this_report := hA_this_report.kept (ho _ (y_ne hY_this_report hY_this_dial rfl))
      replace hA_this_blame := hA_this_blame.kept (ho _ (y_ne hY_this_blame hY_this_dial rfl))
      replace hA_this_done := hA_this_done.kept (ho _ (y_ne hY_this_done hY_this_dial rfl))
      replace hA_this_cost := hA_this_cost.kept (ho _ (y_ne hY_this_cost hY_this_dial rfl))
      replace hst : ∀ j : Nat, (j : Int) < i.toInt → y_at this_stones j H = y_at ot_stones j H := fun j hj => by rw [z_atk (ho _ (y_ne hY_this_stones hY_this_dial rfl)), z_atk (ho _ (y_ne hY_ot_stones hY_this_dial rfl))]; exact hst j hj
      have hA_this_dial := h_new
      refine lv_aload_n hx hb cp_d165 rfl (lv_at hl 2 rfl) ?_
      obtain ⟨ot_mists, hs_ot_mists, hY_ot_mists⟩ := y_fldR (k := 11) hI.1 hY_ot rfl rfl
      refine y_getf X (fl123 X.2.2.2.2.1) hI.1 hY_ot rfl hs_ot_mists cp_d166 ?_
      refine lv_iconst hx hb cp_d169 (v := 0) (by decide) ?_
      refine lv_aload_n hx hb cp_d170 rfl (lv_at hl 1 rfl) ?_
      obtain ⟨this_mists, hs_this_mists, hY_this_mists⟩ := y_fldR (k := 11) hI.1 hY_this rfl rfl
      refine y_getf X (fl123 X.2.2.2.2.1) hI.1 hY_this rfl hs_this_mists cp_d171 ?_
      refine lv_iconst hx hb cp_d174 (v := 0) (by decide) ?_
      refine lv_bipush hx hb cp_d175 (v := 12) (by decide) ?_
      have ec12 : (12 : Int32).toInt = 12 := by decide
      obtain ⟨a9, e9, -, hAo⟩ := hO.2.1 (11, 28, 12, 116, 1) (by decide)
      cases e9.symm.trans hs_ot_mists
      replace hAo : y_A ot_mists 12 _ (fun j => g (116 + 1 * j)) := hAo
      have hs0_d := (hfld 11 (by decide) (by decide) (by decide) (by decide)).symm.trans hs_this_mists
      refine y_acp (bd := this_mists) (bs := ot_mists) (t := 28) (n := 12) (rest := []) X (x_bw35 3 rfl rfl) (x_bw35 5 rfl rfl) (x_bw35 4 rfl rfl) (x_bw1 0 rfl rfl) (Nat.le_of_ble_eq_true rfl) (by decide) hY0 hI hY_this_mists hY_ot_mists rfl hAo (by decide) (by decide +kernel) hl.1 (Nat.le_of_ble_eq_true rfl) cp_d177 fun H locs hI h_new ho => ?_
      replace hO := hO.far hY_ot hdis (c := (11, 28, 12, 116, 1)) (by decide) hs_this_mists hY_this_mists ho
      replace hdis := hdis.moved (fun k _ _ _ _ => y_slk rfl (ho _ (y_ne hY_ot hY_this_mists rfl))) (fun k _ _ _ _ => y_slk rfl (ho _ (y_ne hY_this hY_this_mists rfl)))
      replace hfld : z_fld D this s.heap _ := fun k a b c d => (y_slk rfl (ho _ (y_ne hY_this hY_this_mists rfl))).trans (hfld k a b c d)
      replace hF := fun b u g9 (hb : Y0 b = some u) (hg9 : x_G[u]? = some g9) (hn : b ≠ this) (hk9 : ∀ k, k < 16 → x_sl D 2 k this s.heap ≠ some (.ref b)) => x_eq.trans (x_eq.of (ho b (fun e0 => hk9 11 (by decide) (by rw [e0]; exact hs0_d)))) (hF b u g9 hb hg9 hn hk9)
      replace hs_this_x := y_slk hs_this_x (ho _ (y_ne hY_this hY_this_mists rfl))
      replace hs_this_y := y_slk hs_this_y (ho _ (y_ne hY_this hY_this_mists rfl))
      replace hs_this_height := y_slk hs_this_height (ho _ (y_ne hY_this hY_this_mists rfl))
      replace hs_this_report := y_slk hs_this_report (ho _ (y_ne hY_this hY_this_mists rfl))
      replace hs_this_blame := y_slk hs_this_blame (ho _ (y_ne hY_this hY_this_mists rfl))
      replace hs_this_stones := y_slk hs_this_stones (ho _ (y_ne hY_this hY_this_mists rfl))
      replace hs_ot_stones := y_slk hs_ot_stones (ho _ (y_ne hY_ot hY_this_mists rfl))
      replace hsi_hills := y_slk hsi_hills (ho _ (y_ne hY_this hY_this_mists rfl))
      replace hsi_things := y_slk hsi_things (ho _ (y_ne hY_this hY_this_mists rfl))
      replace hs_this_done := y_slk hs_this_done (ho _ (y_ne hY_this hY_this_mists rfl))
      replace hs_this_cost := y_slk hs_this_cost (ho _ (y_ne hY_this hY_this_mists rfl))
      replace hs_this_dial := y_slk hs_this_dial (ho _ (y_ne hY_this hY_this_mists rfl))
      replace hs_ot_mists := y_slk hs_ot_mists (ho _ (y_ne hY_ot hY_this_mists rfl))
      replace hs_this_mists := y_slk hs_this_mists (ho _ (y_ne hY_this hY_this_mists rfl))
      replace hA_this_x := hA_this_x.kept (ho _ (y_ne hY_this_x hY_this_mists rfl))
      replace hA_this_y := hA_this_y.kept (ho _ (y_ne hY_this_y hY_this_mists rfl))
      replace hA_this_height := hA_this_height.kept (ho _ (y_ne hY_this_height hY_this_mists rfl))
      replace hA_this_report := hA_this_report.kept (ho _ (y_ne hY_this_report hY_this_mists rfl))
      replace hA_this_blame := hA_this_blame.kept (ho _ (y_ne hY_this_blame hY_this_mists rfl))
      replace hA_this_done := hA_this_done.kept (ho _ (y_ne hY_this_done hY_this_mists rfl))
      replace hA_this_cost := hA_this_cost.kept (ho _ (y_ne hY_this_cost hY_this_mists rfl))
      replace hA_this_dial := hA_this_dial.kept (ho _ (y_ne hY_this_dial hY_this_mists rfl))
      replace hst : ∀ j : Nat, (j : Int) < i.toInt → y_at this_stones j H = y_at ot_stones j H := fun j hj => by rw [z_atk (ho _ (y_ne hY_this_stones hY_this_mists rfl)), z_atk (ho _ (y_ne hY_ot_stones hY_this_mists rfl))]; exact hst j hj
      have hA_this_mists := h_new
      refine lv_aload_n hx hb cp_d180 rfl (lv_at hl 1 rfl) ?_
      refine lv_aload_n hx hb cp_d181 rfl (lv_at hl 2 rfl) ?_
      have hs_n := hO.1.2.2
      have hnb : 0 ≤ (g 2).toInt ∧ (g 2).toInt ≤ 8 := by obtain ⟨x9, e9, b9⟩ := y_fldI (k := 12) hI.1 hY_ot rfl rfl; rw [hs_n] at e9; cases e9; exact b9
      refine y_getf X (fl127 X.2.2.2.2.1) hI.1 hY_ot rfl hs_n cp_d182 ?_
      refine y_putf X (fw128 X.2.2.2.2.1) hY0 hI hY_this rfl rfl ⟨_, rfl, by show (0 : Int) ≤ _; omega, by show _ ≤ (8 : Int); omega⟩ (by decide +kernel) cp_d185 fun H sl hI ho hs hk => ?_
      replace hs_this_x := hk _ _ (by decide +kernel) (by decide) hs_this_x
      replace hs_this_y := hk _ _ (by decide +kernel) (by decide) hs_this_y
      replace hs_this_height := hk _ _ (by decide +kernel) (by decide) hs_this_height
      replace hs_this_report := hk _ _ (by decide +kernel) (by decide) hs_this_report
      replace hs_this_blame := hk _ _ (by decide +kernel) (by decide) hs_this_blame
      replace hs_this_stones := hk _ _ (by decide +kernel) (by decide) hs_this_stones
      replace hsi_hills := hk _ _ (by decide +kernel) (by decide) hsi_hills
      replace hsi_things := hk _ _ (by decide +kernel) (by decide) hsi_things
      replace hs_this_done := hk _ _ (by decide +kernel) (by decide) hs_this_done
      replace hs_this_cost := hk _ _ (by decide +kernel) (by decide) hs_this_cost
      replace hs_this_dial := hk _ _ (by decide +kernel) (by decide) hs_this_dial
      replace hs_this_mists := hk _ _ (by decide +kernel) (by decide) hs_this_mists
      replace hA_this_x := hA_this_x.kept (ho _ (y_ne hY_this_x hY_this rfl))
      replace hA_this_y := hA_this_y.kept (ho _ (y_ne hY_this_y hY_this rfl))
      replace hA_this_height := hA_this_height.kept (ho _ (y_ne hY_this_height hY_this rfl))
      replace hA_this_report := hA_this_report.kept (ho _ (y_ne hY_this_report hY_this rfl))
      replace hA_this_blame := hA_this_blame.kept (ho _ (y_ne hY_this_blame hY_this rfl))
      replace hA_this_done := hA_this_done.kept (ho _ (y_ne hY_this_done hY_this rfl))
      replace hA_this_cost := hA_this_cost.kept (ho _ (y_ne hY_this_cost hY_this rfl))
      replace hA_this_dial := hA_this_dial.kept (ho _ (y_ne hY_this_dial hY_this rfl))
      replace hA_this_mists := hA_this_mists.kept (ho _ (y_ne hY_this_mists hY_this rfl))
      replace hO := hO.farI hdis.1 hY_this ho
      replace hdis := hdis.moved (fun k _ _ _ _ => y_slk rfl (ho _ hdis.1)) (fun k a b c d => hk k _ a (by omega) rfl)
      replace hfld : z_fld D this s.heap _ := fun k a b c d => (hk k _ a (by omega) rfl).trans (hfld k a b c d)
      replace hF := fun b u g9 (hb : Y0 b = some u) (hg9 : x_G[u]? = some g9) (hn : b ≠ this) (hk9 : ∀ k, k < 16 → x_sl D 2 k this s.heap ≠ some (.ref b)) => x_eq.trans (x_eq.of (ho b hn)) (hF b u g9 hb hg9 hn hk9)
      replace hst : ∀ j : Nat, (j : Int) < i.toInt → y_at this_stones j H = y_at ot_stones j H := fun j hj => by rw [z_atk (ho _ (y_ne hY_this_stones hY_this rfl)), z_atk (ho _ (y_ne hY_ot_stones hY_this rfl))]; exact hst j hj
      replace hs := hs
      have hs185 := hs
      replace hs_ot_stones := y_slk hs_ot_stones (ho _ hdis.1)
      refine lv_aload_n hx hb cp_d188 rfl (lv_at hl 2 rfl) ?_
      obtain ⟨ot_word, hs_ot_word, hY_ot_word⟩ := y_fldR (k := 13) hI.1 hY_ot rfl rfl
      refine y_getf X (fl124 X.2.2.2.2.1) hI.1 hY_ot rfl hs_ot_word cp_d189 ?_
      refine lv_iconst hx hb cp_d192 (v := 0) (by decide) ?_
      refine lv_aload_n hx hb cp_d193 rfl (lv_at hl 1 rfl) ?_
      obtain ⟨this_word, hs_this_word, hY_this_word⟩ := y_fldR (k := 13) hI.1 hY_this rfl rfl
      refine y_getf X (fl124 X.2.2.2.2.1) hI.1 hY_this rfl hs_this_word cp_d194 ?_
      refine lv_iconst hx hb cp_d197 (v := 0) (by decide) ?_
      refine lv_bipush hx hb cp_d198 (v := 8) (by decide) ?_
      obtain ⟨a9, e9, -, hAo⟩ := hO.2.1 (13, 29, 8, 128, 1) (by decide)
      cases e9.symm.trans hs_ot_word
      replace hAo : y_A ot_word 8 _ (fun j => g (128 + 1 * j)) := hAo
      have hs0_d := (hfld 13 (by decide) (by decide) (by decide) (by decide)).symm.trans hs_this_word
      refine y_acp (bd := this_word) (bs := ot_word) (t := 29) (n := 8) (rest := []) X (x_bw35 3 rfl rfl) (x_bw35 5 rfl rfl) (x_bw35 4 rfl rfl) (x_bw1 0 rfl rfl) (Nat.le_of_ble_eq_true rfl) (by decide) hY0 hI hY_this_word hY_ot_word rfl hAo (by decide) (by decide +kernel) hl.1 (Nat.le_of_ble_eq_true rfl) cp_d200 fun H locs hI h_new ho => ?_
      replace hO := hO.far hY_ot hdis (c := (13, 29, 8, 128, 1)) (by decide) hs_this_word hY_this_word ho
      replace hdis := hdis.moved (fun k _ _ _ _ => y_slk rfl (ho _ (y_ne hY_ot hY_this_word rfl))) (fun k _ _ _ _ => y_slk rfl (ho _ (y_ne hY_this hY_this_word rfl)))
      replace hfld : z_fld D this s.heap _ := fun k a b c d => (y_slk rfl (ho _ (y_ne hY_this hY_this_word rfl))).trans (hfld k a b c d)
      replace hF := fun b u g9 (hb : Y0 b = some u) (hg9 : x_G[u]? = some g9) (hn : b ≠ this) (hk9 : ∀ k, k < 16 → x_sl D 2 k this s.heap ≠ some (.ref b)) => x_eq.trans (x_eq.of (ho b (fun e0 => hk9 13 (by decide) (by rw [e0]; exact hs0_d)))) (hF b u g9 hb hg9 hn hk9)
      replace hs_this_x := y_slk hs_this_x (ho _ (y_ne hY_this hY_this_word rfl))
      replace hs_this_y := y_slk hs_this_y (ho _ (y_ne hY_this hY_this_word rfl))
      replace hs_this_height := y_slk hs_this_height (ho _ (y_ne hY_this hY_this_word rfl))
      replace hs_this_report := y_slk hs_this_report (ho _ (y_ne hY_this hY_this_word rfl))
      replace hs_this_blame := y_slk hs_this_blame (ho _ (y_ne hY_this hY_this_word rfl))
      replace hs_this_stones := y_slk hs_this_stones (ho _ (y_ne hY_this hY_this_word rfl))
      replace hsi_hills := y_slk hsi_hills (ho _ (y_ne hY_this hY_this_word rfl))
      replace hsi_things := y_slk hsi_things (ho _ (y_ne hY_this hY_this_word rfl))
      replace hs_this_done := y_slk hs_this_done (ho _ (y_ne hY_this hY_this_word rfl))
      replace hs_this_cost := y_slk hs_this_cost (ho _ (y_ne hY_this hY_this_word rfl))
      replace hs_this_dial := y_slk hs_this_dial (ho _ (y_ne hY_this hY_this_word rfl))
      replace hs_this_mists := y_slk hs_this_mists (ho _ (y_ne hY_this hY_this_word rfl))
      replace hs185 := y_slk hs185 (ho _ (y_ne hY_this hY_this_word rfl))
      replace hs_ot_stones := y_slk hs_ot_stones (ho _ (y_ne hY_ot hY_this_word rfl))
      replace hs_ot_word := y_slk hs_ot_word (ho _ (y_ne hY_ot hY_this_word rfl))
      replace hs_this_word := y_slk hs_this_word (ho _ (y_ne hY_this hY_this_word rfl))
      replace hA_this_x := hA_this_x.kept (ho _ (y_ne hY_this_x hY_this_word rfl))
      replace hA_this_y := hA_this_y.kept (ho _ (y_ne hY_this_y hY_this_word rfl))
      replace hA_this_height := hA_this_height.kept (ho _ (y_ne hY_this_height hY_this_word rfl))
      replace hA_this_report := hA_this_report.kept (ho _ (y_ne hY_this_report hY_this_word rfl))
      replace hA_this_blame := hA_this_blame.kept (ho _ (y_ne hY_this_blame hY_this_word rfl))
      replace hA_this_done := hA_this_done.kept (ho _ (y_ne hY_this_done hY_this_word rfl))
      replace hA_this_cost := hA_this_cost.kept (ho _ (y_ne hY_this_cost hY_this_word rfl))
      replace hA_this_dial := hA_this_dial.kept (ho _ (y_ne hY_this_dial hY_this_word rfl))
      replace hA_this_mists := hA_this_mists.kept (ho _ (y_ne hY_this_mists hY_this_word rfl))
      replace hst : ∀ j : Nat, (j : Int) < i.toInt → y_at this_stones j H = y_at ot_stones j H := fun j hj => by rw [z_atk (ho _ (y_ne hY_this_stones hY_this_word rfl)), z_atk (ho _ (y_ne hY_ot_stones hY_this_word rfl))]; exact hst j hj
      have hA_this_word := h_new
      refine lv_aload_n hx hb cp_d203 rfl (lv_at hl 2 rfl) ?_
      obtain ⟨ot_nightHill, hs_ot_nightHill, hY_ot_nightHill⟩ := y_fldR (k := 14) hI.1 hY_ot rfl rfl
      refine y_getf X (fl125 X.2.2.2.2.1) hI.1 hY_ot rfl hs_ot_nightHill cp_d204 ?_
      refine lv_iconst hx hb cp_d207 (v := 0) (by decide) ?_
      refine lv_aload_n hx hb cp_d208 rfl (lv_at hl 1 rfl) ?_
      obtain ⟨this_nightHill, hs_this_nightHill, hY_this_nightHill⟩ := y_fldR (k := 14) hI.1 hY_this rfl rfl
      refine y_getf X (fl125 X.2.2.2.2.1) hI.1 hY_this rfl hs_this_nightHill cp_d209 ?_
      refine lv_iconst hx hb cp_d212 (v := 0) (by decide) ?_
      refine lv_bipush hx hb cp_d213 (v := 12) (by decide) ?_
      obtain ⟨a9, e9, -, hAo⟩ := hO.2.1 (14, 30, 12, 136, 2) (by decide)
      cases e9.symm.trans hs_ot_nightHill
      replace hAo : y_A ot_nightHill 12 _ (fun j => g (136 + 2 * j)) := hAo
      have hs0_d := (hfld 14 (by decide) (by decide) (by decide) (by decide)).symm.trans hs_this_nightHill
      refine y_acp (bd := this_nightHill) (bs := ot_nightHill) (t := 30) (n := 12) (rest := []) X (x_bw35 3 rfl rfl) (x_bw35 5 rfl rfl) (x_bw35 4 rfl rfl) (x_bw1 0 rfl rfl) (Nat.le_of_ble_eq_true rfl) (by decide) hY0 hI hY_this_nightHill hY_ot_nightHill rfl hAo (by decide) (by decide +kernel) hl.1 (Nat.le_of_ble_eq_true rfl) cp_d215 fun H locs hI h_new ho => ?_
      replace hO := hO.far hY_ot hdis (c := (14, 30, 12, 136, 2)) (by decide) hs_this_nightHill hY_this_nightHill ho
      replace hdis := hdis.moved (fun k _ _ _ _ => y_slk rfl (ho _ (y_ne hY_ot hY_this_nightHill rfl))) (fun k _ _ _ _ => y_slk rfl (ho _ (y_ne hY_this hY_this_nightHill rfl)))
      replace hfld : z_fld D this s.heap _ := fun k a b c d => (y_slk rfl (ho _ (y_ne hY_this hY_this_nightHill rfl))).trans (hfld k a b c d)
      replace hF := fun b u g9 (hb : Y0 b = some u) (hg9 : x_G[u]? = some g9) (hn : b ≠ this) (hk9 : ∀ k, k < 16 → x_sl D 2 k this s.heap ≠ some (.ref b)) => x_eq.trans (x_eq.of (ho b (fun e0 => hk9 14 (by decide) (by rw [e0]; exact hs0_d)))) (hF b u g9 hb hg9 hn hk9)
      replace hs_this_x := y_slk hs_this_x (ho _ (y_ne hY_this hY_this_nightHill rfl))
      replace hs_this_y := y_slk hs_this_y (ho _ (y_ne hY_this hY_this_nightHill rfl))
      replace hs_this_height := y_slk hs_this_height (ho _ (y_ne hY_this hY_this_nightHill rfl))
      replace hs_this_report := y_slk hs_this_report (ho _ (y_ne hY_this hY_this_nightHill rfl))
      replace hs_this_blame := y_slk hs_this_blame (ho _ (y_ne hY_this hY_this_nightHill rfl))
      replace hs_this_stones := y_slk hs_this_stones (ho _ (y_ne hY_this hY_this_nightHill rfl))
      replace hsi_hills := y_slk hsi_hills (ho _ (y_ne hY_this hY_this_nightHill rfl))
      replace hsi_things := y_slk hsi_things (ho _ (y_ne hY_this hY_this_nightHill rfl))
      replace hs_this_done := y_slk hs_this_done (ho _ (y_ne hY_this hY_this_nightHill rfl))
      replace hs_this_cost := y_slk hs_this_cost (ho _ (y_ne hY_this hY_this_nightHill rfl))
      replace hs_this_dial := y_slk hs_this_dial (ho _ (y_ne hY_this hY_this_nightHill rfl))
      replace hs_this_mists := y_slk hs_this_mists (ho _ (y_ne hY_this hY_this_nightHill rfl))
      replace hs185 := y_slk hs185 (ho _ (y_ne hY_this hY_this_nightHill rfl))
      replace hs_ot_stones := y_slk hs_ot_stones (ho _ (y_ne hY_ot hY_this_nightHill rfl))
      replace hs_this_word := y_slk hs_this_word (ho _ (y_ne hY_this hY_this_nightHill rfl))
      replace hs_ot_nightHill := y_slk hs_ot_nightHill (ho _ (y_ne hY_ot hY_this_nightHill rfl))
      replace hs_this_nightHill := y_slk hs_this_nightHill (ho _ (y_ne hY_this hY_this_nightHill rfl))
      replace hA_this_x := hA_this_x.kept (ho _ (y_ne hY_this_x hY_this_nightHill rfl))
      replace hA_this_y := hA_this_y.kept (ho _ (y_ne hY_this_y hY_this_nightHill rfl))
      replace hA_this_height := hA_this_height.kept (ho _ (y_ne hY_this_height hY_this_nightHill rfl))
      replace hA_this_report := hA_this_report.kept (ho _ (y_ne hY_this_report hY_this_nightHill rfl))
      replace hA_this_blame := hA_this_blame.kept (ho _ (y_ne hY_this_blame hY_this_nightHill rfl))
      replace hA_this_done := hA_this_done.kept (ho _ (y_ne hY_this_done hY_this_nightHill rfl))
      replace hA_this_cost := hA_this_cost.kept (ho _ (y_ne hY_this_cost hY_this_nightHill rfl))
      replace hA_this_dial := hA_this_dial.kept (ho _ (y_ne hY_this_dial hY_this_nightHill rfl))
      replace hA_this_mists := hA_this_mists.kept (ho _ (y_ne hY_this_mists hY_this_nightHill rfl))
      replace hA_this_word := hA_this_word.kept (ho _ (y_ne hY_this_word hY_this_nightHill rfl))
      replace hst : ∀ j : Nat, (j : Int) < i.toInt → y_at this_stones j H = y_at ot_stones j H := fun j hj => by rw [z_atk (ho _ (y_ne hY_this_stones hY_this_nightHill rfl)), z_atk (ho _ (y_ne hY_ot_stones hY_this_nightHill rfl))]; exact hst j hj
      have hA_this_nightHill := h_new
      refine lv_aload_n hx hb cp_d218 rfl (lv_at hl 2 rfl) ?_
      obtain ⟨ot_nightHow, hs_ot_nightHow, hY_ot_nightHow⟩ := y_fldR (k := 15) hI.1 hY_ot rfl rfl
      refine y_getf X (fl126 X.2.2.2.2.1) hI.1 hY_ot rfl hs_ot_nightHow cp_d219 ?_
      refine lv_iconst hx hb cp_d222 (v := 0) (by decide) ?_
      refine lv_aload_n hx hb cp_d223 rfl (lv_at hl 1 rfl) ?_
      obtain ⟨this_nightHow, hs_this_nightHow, hY_this_nightHow⟩ := y_fldR (k := 15) hI.1 hY_this rfl rfl
      refine y_getf X (fl126 X.2.2.2.2.1) hI.1 hY_this rfl hs_this_nightHow cp_d224 ?_
      refine lv_iconst hx hb cp_d227 (v := 0) (by decide) ?_
      refine lv_bipush hx hb cp_d228 (v := 12) (by decide) ?_
      obtain ⟨a9, e9, -, hAo⟩ := hO.2.1 (15, 31, 12, 137, 2) (by decide)
      cases e9.symm.trans hs_ot_nightHow
      replace hAo : y_A ot_nightHow 12 _ (fun j => g (137 + 2 * j)) := hAo
      have hs0_d := (hfld 15 (by decide) (by decide) (by decide) (by decide)).symm.trans hs_this_nightHow
      refine y_acp (bd := this_nightHow) (bs := ot_nightHow) (t := 31) (n := 12) (rest := []) X (x_bw35 3 rfl rfl) (x_bw35 5 rfl rfl) (x_bw35 4 rfl rfl) (x_bw1 0 rfl rfl) (Nat.le_of_ble_eq_true rfl) (by decide) hY0 hI hY_this_nightHow hY_ot_nightHow rfl hAo (by decide) (by decide +kernel) hl.1 (Nat.le_of_ble_eq_true rfl) cp_d230 fun H locs hI h_new ho => ?_
      replace hO := hO.far hY_ot hdis (c := (15, 31, 12, 137, 2)) (by decide) hs_this_nightHow hY_this_nightHow ho
      replace hdis := hdis.moved (fun k _ _ _ _ => y_slk rfl (ho _ (y_ne hY_ot hY_this_nightHow rfl))) (fun k _ _ _ _ => y_slk rfl (ho _ (y_ne hY_this hY_this_nightHow rfl)))
      replace hfld : z_fld D this s.heap _ := fun k a b c d => (y_slk rfl (ho _ (y_ne hY_this hY_this_nightHow rfl))).trans (hfld k a b c d)
      replace hF := fun b u g9 (hb : Y0 b = some u) (hg9 : x_G[u]? = some g9) (hn : b ≠ this) (hk9 : ∀ k, k < 16 → x_sl D 2 k this s.heap ≠ some (.ref b)) => x_eq.trans (x_eq.of (ho b (fun e0 => hk9 15 (by decide) (by rw [e0]; exact hs0_d)))) (hF b u g9 hb hg9 hn hk9)
      replace hs_this_x := y_slk hs_this_x (ho _ (y_ne hY_this hY_this_nightHow rfl))
      replace hs_this_y := y_slk hs_this_y (ho _ (y_ne hY_this hY_this_nightHow rfl))
      replace hs_this_height := y_slk hs_this_height (ho _ (y_ne hY_this hY_this_nightHow rfl))
      replace hs_this_report := y_slk hs_this_report (ho _ (y_ne hY_this hY_this_nightHow rfl))
      replace hs_this_blame := y_slk hs_this_blame (ho _ (y_ne hY_this hY_this_nightHow rfl))
      replace hs_this_stones := y_slk hs_this_stones (ho _ (y_ne hY_this hY_this_nightHow rfl))
      replace hsi_hills := y_slk hsi_hills (ho _ (y_ne hY_this hY_this_nightHow rfl))
      replace hsi_things := y_slk hsi_things (ho _ (y_ne hY_this hY_this_nightHow rfl))
      replace hs_this_done := y_slk hs_this_done (ho _ (y_ne hY_this hY_this_nightHow rfl))
      replace hs_this_cost := y_slk hs_this_cost (ho _ (y_ne hY_this hY_this_nightHow rfl))
      replace hs_this_dial := y_slk hs_this_dial (ho _ (y_ne hY_this hY_this_nightHow rfl))
      replace hs_this_mists := y_slk hs_this_mists (ho _ (y_ne hY_this hY_this_nightHow rfl))
      replace hs185 := y_slk hs185 (ho _ (y_ne hY_this hY_this_nightHow rfl))
      replace hs_ot_stones := y_slk hs_ot_stones (ho _ (y_ne hY_ot hY_this_nightHow rfl))
      replace hs_this_word := y_slk hs_this_word (ho _ (y_ne hY_this hY_this_nightHow rfl))
      replace hs_this_nightHill := y_slk hs_this_nightHill (ho _ (y_ne hY_this hY_this_nightHow rfl))
      replace hs_ot_nightHow := y_slk hs_ot_nightHow (ho _ (y_ne hY_ot hY_this_nightHow rfl))
      replace hs_this_nightHow := y_slk hs_this_nightHow (ho _ (y_ne hY_this hY_this_nightHow rfl))
      replace hA_this_x := hA_this_x.kept (ho _ (y_ne hY_this_x hY_this_nightHow rfl))
      replace hA_this_y := hA_this_y.kept (ho _ (y_ne hY_this_y hY_this_nightHow rfl))
      replace hA_this_height := hA_this_height.kept (ho _ (y_ne hY_this_height hY_this_nightHow rfl))
      replace hA_this_report := hA_this_report.kept (ho _ (y_ne hY_this_report hY_this_nightHow rfl))
      replace hA_this_blame := hA_this_blame.kept (ho _ (y_ne hY_this_blame hY_this_nightHow rfl))
      replace hA_this_done := hA_this_done.kept (ho _ (y_ne hY_this_done hY_this_nightHow rfl))
      replace hA_this_cost := hA_this_cost.kept (ho _ (y_ne hY_this_cost hY_this_nightHow rfl))
      replace hA_this_dial := hA_this_dial.kept (ho _ (y_ne hY_this_dial hY_this_nightHow rfl))
      replace hA_this_mists := hA_this_mists.kept (ho _ (y_ne hY_this_mists hY_this_nightHow rfl))
      replace hA_this_word := hA_this_word.kept (ho _ (y_ne hY_this_word hY_this_nightHow rfl))
      replace hA_this_nightHill := hA_this_nightHill.kept (ho _ (y_ne hY_this_nightHill hY_this_nightHow rfl))
      replace hst : ∀ j : Nat, (j : Int) < i.toInt → y_at this_stones j H = y_at ot_stones j H := fun j hj => by rw [z_atk (ho _ (y_ne hY_this_stones hY_this_nightHow rfl)), z_atk (ho _ (y_ne hY_ot_stones hY_this_nightHow rfl))]; exact hst j hj
      have hA_this_nightHow := h_new
      have hcol : ∀ c ∈ z_C, ∃ a : Nat, x_sl D 2 c.1 this H = some (.ref a) ∧ Y a = some c.2.1 ∧ ∀ j, j < c.2.2.1 → y_at a j H = some (.int (g (z_pl c j))) := by
        intro c hc
        simp only [z_C, List.mem_cons, List.not_mem_nil, or_false] at hc
        rcases hc with rfl | rfl | rfl | rfl | rfl | rfl | rfl | rfl | rfl | rfl | rfl | rfl
        · exact ⟨this_x, hs_this_x, hY_this_x, hA_this_x⟩
        · exact ⟨this_y, hs_this_y, hY_this_y, hA_this_y⟩
        · exact ⟨this_height, hs_this_height, hY_this_height, hA_this_height⟩
        · exact ⟨this_report, hs_this_report, hY_this_report, hA_this_report⟩
        · exact ⟨this_blame, hs_this_blame, hY_this_blame, hA_this_blame⟩
        · exact ⟨this_done, hs_this_done, hY_this_done, hA_this_done⟩
        · exact ⟨this_cost, hs_this_cost, hY_this_cost, hA_this_cost⟩
        · exact ⟨this_dial, hs_this_dial, hY_this_dial, hA_this_dial⟩
        · exact ⟨this_mists, hs_this_mists, hY_this_mists, hA_this_mists⟩
        · exact ⟨this_word, hs_this_word, hY_this_word, hA_this_word⟩
        · exact ⟨this_nightHill, hs_this_nightHill, hY_this_nightHill, hA_this_nightHill⟩
        · exact ⟨this_nightHow, hs_this_nightHow, hY_this_nightHow, hA_this_nightHow⟩
      have hstn : ∃ a : Nat, x_sl D 2 7 this H = some (.ref a) ∧ Y a = some 24 ∧ ∀ j, j < 8 → ∃ s : Nat, y_at a j H = some (.ref s) ∧ z_st D Y s H g (60 + 7 * j) := by
        obtain ⟨a9, e1, -, e3⟩ := hO.2.2.1
        cases e1.symm.trans hs_ot_stones
        exact ⟨this_stones, hs_this_stones, hY_this_stones, fun j hj => by rw [hst j (by omega)]; exact e3 j hj⟩
      have hL : z_L D Y this H g := ⟨⟨hsi_hills, hsi_things, hs185⟩, hcol, hstn, hO.2.2.2⟩
      subst hav
      exact y_return B hI rfl rfl List.mem_cons_self rfl (x_cs.mono B.2.2.2.2.2 (y_mon B hI)) (fun t' o' g' h1 h2 => by cases h1; cases h2.uniq hO0; exact ⟨hF, hL, hfld⟩) (Nat.le_refl _) (Nat.le_refl _) cp_d233
    · have q96_ : i.toInt < (8 : Int32).toInt := Int.not_le.mp fun q => q96 (x_le32.mpr q)
      refine lv_aload_n hx hb cp_d99 rfl (lv_at hl 1 rfl) ?_
      refine y_getf X (fl39 X.2.2.2.2.1) hI.1 hY_this rfl hs_this_stones cp_d100 ?_
      refine lv_iload_n hx hb cp_d103 rfl (lv_at hl 0 rfl) ?_
      refine lv_aload_n hx hb cp_d104 rfl (lv_at hl 2 rfl) ?_
      refine y_getf X (fl39 X.2.2.2.2.1) hI.1 hY_ot rfl hs_ot_stones cp_d105 ?_
      refine lv_iload_n hx hb cp_d108 rfl (lv_at hl 0 rfl) ?_
      obtain ⟨v109, hv109, hc109⟩ := y_elt (j := i.toInt.toNat) hI.1 hY_ot_stones rfl (by omega)
      refine y_aald X hI.1 hY_ot_stones rfl (by omega) (by show _ < (8 : Int); omega) hv109 cp_d109 ?_
      rcases hc109 with ⟨-, e9⟩ | ⟨q109, t109, e109, ht109, hY_q109⟩
      · exact absurd e9 (by decide)
      subst e109
      have hok : x_sok vwCl x_G s (24, t109) := by
        have ht9 := ht109
        simp only [List.mem_cons, List.not_mem_nil, or_false] at ht9
        rcases ht9 with rfl | rfl | rfl | rfl | rfl | rfl
        · exact ⟨_, _, _, "TwinFires$Stone", 6, _, _, rfl, rfl, rfl, x_castSelf (X.2.2.2.2.2.1.1 6 _ rfl).2⟩
        · exact ⟨_, _, _, "TwinFires$Stone", 10, _, _, rfl, rfl, rfl, X.2.2.2.2.2.2.2.2.1 _ (x_bn89 3 rfl rfl)⟩
        · exact ⟨_, _, _, "TwinFires$Stone", 4, _, _, rfl, rfl, rfl, X.2.2.2.2.2.2.2.2.1 _ (x_bn89 4 rfl rfl)⟩
        · exact ⟨_, _, _, "TwinFires$Stone", 1, _, _, rfl, rfl, rfl, X.2.2.2.2.2.2.2.2.1 _ (x_bn89 5 rfl rfl)⟩
        · exact ⟨_, _, _, "TwinFires$Stone", 8, _, _, rfl, rfl, rfl, X.2.2.2.2.2.2.2.2.1 _ (x_bn89 6 rfl rfl)⟩
        · exact ⟨_, _, _, "TwinFires$Stone", 9, _, _, rfl, rfl, rfl, X.2.2.2.2.2.2.2.2.1 _ (x_bn89 7 rfl rfl)⟩
      have hs0_d := (hfld 7 (by decide) (by decide) (by decide) (by decide)).symm.trans hs_this_stones
      have hne9 : ot_stones ≠ this_stones := fun e0 => hdis.2.2 (by rw [hs_ot_stones, hs_this_stones, e0])
      refine y_aastM (bv := q109) X hY0 hI hY_this_stones rfl hY_q109 hok (by omega) (by show _ < (8 : Int); omega) (Or.inr ⟨_, _, rfl, ht109, hY_q109⟩) (by decide +kernel) cp_d110 fun H locs hI h_at h_ne ho => ?_
      replace hO := hO.farS hY_ot hdis hs_this_stones hY_this_stones ho
      replace hst : ∀ j : Nat, (j : Int) < i.toInt + 1 → y_at this_stones j H = y_at ot_stones j H := fun j hj => by by_cases ej : j = i.toInt.toNat; (rw [ej, h_at, z_atk (ho _ hne9)]; exact hv109.symm); rw [h_ne j ej, z_atk (ho _ hne9)]; exact hst j (by omega)
      replace hdis := hdis.moved (fun k _ _ _ _ => y_slk rfl (ho _ (y_ne hY_ot hY_this_stones rfl))) (fun k _ _ _ _ => y_slk rfl (ho _ (y_ne hY_this hY_this_stones rfl)))
      replace hfld : z_fld D this s.heap _ := fun k a b c d => (y_slk rfl (ho _ (y_ne hY_this hY_this_stones rfl))).trans (hfld k a b c d)
      replace hF := fun b u g9 (hb : Y0 b = some u) (hg9 : x_G[u]? = some g9) (hn : b ≠ this) (hk9 : ∀ k, k < 16 → x_sl D 2 k this s.heap ≠ some (.ref b)) => x_eq.trans (x_eq.of (ho b (fun e0 => hk9 7 (by decide) (by rw [e0]; exact hs0_d)))) (hF b u g9 hb hg9 hn hk9)
      replace hs_this_x := y_slk hs_this_x (ho _ (y_ne hY_this hY_this_stones rfl))
      replace hs_this_y := y_slk hs_this_y (ho _ (y_ne hY_this hY_this_stones rfl))
      replace hs_this_height := y_slk hs_this_height (ho _ (y_ne hY_this hY_this_stones rfl))
      replace hs_this_report := y_slk hs_this_report (ho _ (y_ne hY_this hY_this_stones rfl))
      replace hs_this_blame := y_slk hs_this_blame (ho _ (y_ne hY_this hY_this_stones rfl))
      replace hs_this_stones := y_slk hs_this_stones (ho _ (y_ne hY_this hY_this_stones rfl))
      replace hs_ot_stones := y_slk hs_ot_stones (ho _ (y_ne hY_ot hY_this_stones rfl))
      replace hsi_hills := y_slk hsi_hills (ho _ (y_ne hY_this hY_this_stones rfl))
      replace hsi_things := y_slk hsi_things (ho _ (y_ne hY_this hY_this_stones rfl))
      replace hA_this_x := hA_this_x.kept (ho _ (y_ne hY_this_x hY_this_stones rfl))
      replace hA_this_y := hA_this_y.kept (ho _ (y_ne hY_this_y hY_this_stones rfl))
      replace hA_this_height := hA_this_height.kept (ho _ (y_ne hY_this_height hY_this_stones rfl))
      replace hA_this_report := hA_this_report.kept (ho _ (y_ne hY_this_report hY_this_stones rfl))
      replace hA_this_blame := hA_this_blame.kept (ho _ (y_ne hY_this_blame hY_this_stones rfl))
      obtain ⟨z111, hg_z111⟩ : ∃ z111 : Int32, i + Int32.ofInt 1 = z111 := ⟨_, rfl⟩
      have h_z111 : z111.toInt = i.toInt + 1 := by rw [← hg_z111]; exact y_inc (by decide) (by omega) (by omega)
      refine lv_iinc hx hb cp_d111 hl (k := 0) rfl hg_z111 (by decide) (lv' := [(2, .int z111), (0, .ref this), (1, .ref ot)]) rfl fun ls hl => ?_
      refine lv_goto hx hb cp_d114 (tgt := 93) (by decide) ?_
      exact ih _ _ _ _ _ hI hY_this hY_ot hY_this_x hY_this_y hY_this_height hY_this_report hY_this_blame hY_this_stones hY_ot_stones hs_this_x hs_this_y hs_this_height hs_this_report hs_this_blame hs_this_stones hs_ot_stones hsi_hills hsi_things hA_this_x hA_this_y hA_this_height hA_this_report hA_this_blame (lv_sub hl [0, 1, 2] rfl) (by first | assumption | omega) hO hdis hfld hF (fun j hj => hst j (by omega)) (by omega)
theorem ym_copyX : y_Met vwCl x_G x_Zs x_Tb x_Nb xM58 z_Acp z_Pcp := by
  refine y_main (by decide +kernel) (by decide +kernel) x_Tb_good x_Nb_ok ?_
  intro p l e s m below meth c D U Y0 av ls B hI hpre hl
  have X := B.1
  have hx := X.1
  have hb := X.2.1
  have hY0 := B.2.2.2.2.1
  obtain ⟨v0, v1, rfl, hv0, hv1⟩ := x_two B.2.2.2.2.2
  obtain ⟨this, t0, rfl, ht0, hY_this⟩ := x_ref_at hv0 rfl
  obtain rfl := List.mem_singleton.mp ht0
  obtain ⟨ot, t1, rfl, ht1, hY_ot⟩ := x_ref_at hv1 rfl
  obtain rfl := List.mem_singleton.mp ht1
  replace hl : lv_has ls xM58.2.2.1 [(0, .ref this), (1, .ref ot)] := hl
  obtain ⟨g, hO, hdis⟩ := hpre _ _ rfl
  have hO0 := hO
  have hF : z_fr D Y0 s.heap s.heap this := fun _ _ _ _ _ _ _ => x_eq.of rfl
  have hfld : z_fld D this s.heap s.heap := fun _ _ _ _ _ => rfl
  refine lv_aload_n hx hb cp_d0 rfl (lv_at hl 0 rfl) ?_
  refine lv_aload_n hx hb cp_d1 rfl (lv_at hl 1 rfl) ?_
  have hs_n := hO.1.1
  have hnb : 0 ≤ (g 0).toInt ∧ (g 0).toInt ≤ 10 := by obtain ⟨x9, e9, b9⟩ := y_fldI (k := 0) hI.1 hY_ot rfl rfl; rw [hs_n] at e9; cases e9; exact b9
  refine y_getf X (fl2 X.2.2.2.2.1) hI.1 hY_ot rfl hs_n cp_d2 ?_
  refine y_putf X (fw6 X.2.2.2.2.1) hY0 hI hY_this rfl rfl ⟨_, rfl, by show (0 : Int) ≤ _; omega, by show _ ≤ (10 : Int); omega⟩ (by decide +kernel) cp_d5 fun H sl hI ho hs hk => ?_
  replace hO := hO.farI hdis.1 hY_this ho
  replace hdis := hdis.moved (fun k _ _ _ _ => y_slk rfl (ho _ hdis.1)) (fun k a b c d => hk k _ a (by omega) rfl)
  replace hfld : z_fld D this s.heap _ := fun k a b c d => (hk k _ a (by omega) rfl).trans (hfld k a b c d)
  replace hF := fun b u g9 (hb : Y0 b = some u) (hg9 : x_G[u]? = some g9) (hn : b ≠ this) (hk9 : ∀ k, k < 16 → x_sl D 2 k this s.heap ≠ some (.ref b)) => x_eq.trans (x_eq.of (ho b hn)) (hF b u g9 hb hg9 hn hk9)
  replace hs := hs
  have hs5 := hs
  refine lv_aload_n hx hb cp_d8 rfl (lv_at hl 1 rfl) ?_
  obtain ⟨ot_x, hs_ot_x, hY_ot_x⟩ := y_fldR (k := 1) hI.1 hY_ot rfl rfl
  refine y_getf X (fl0 X.2.2.2.2.1) hI.1 hY_ot rfl hs_ot_x cp_d9 ?_
  refine lv_iconst hx hb cp_d12 (v := 0) (by decide) ?_
  have ec0 : (0 : Int32).toInt = 0 := by decide
  refine lv_aload_n hx hb cp_d13 rfl (lv_at hl 0 rfl) ?_
  obtain ⟨this_x, hs_this_x, hY_this_x⟩ := y_fldR (k := 1) hI.1 hY_this rfl rfl
  refine y_getf X (fl0 X.2.2.2.2.1) hI.1 hY_this rfl hs_this_x cp_d14 ?_
  refine lv_iconst hx hb cp_d17 (v := 0) (by decide) ?_
  refine lv_bipush hx hb cp_d18 (v := 10) (by decide) ?_
  have ec10 : (10 : Int32).toInt = 10 := by decide
  obtain ⟨a9, e9, -, hAo⟩ := hO.2.1 (1, 19, 10, 10, 5) (by decide)
  cases e9.symm.trans hs_ot_x
  replace hAo : y_A ot_x 10 _ (fun j => g (10 + 5 * j)) := hAo
  have hs0_d := (hfld 1 (by decide) (by decide) (by decide) (by decide)).symm.trans hs_this_x
  refine y_acp (bd := this_x) (bs := ot_x) (t := 19) (n := 10) (rest := []) X (x_bw35 3 rfl rfl) (x_bw35 5 rfl rfl) (x_bw35 4 rfl rfl) (x_bw1 0 rfl rfl) (Nat.le_of_ble_eq_true rfl) (by decide) hY0 hI hY_this_x hY_ot_x rfl hAo (by decide) (by decide +kernel) hl.1 (Nat.le_of_ble_eq_true rfl) cp_d20 fun H locs hI h_new ho => ?_
  replace hO := hO.far hY_ot hdis (c := (1, 19, 10, 10, 5)) (by decide) hs_this_x hY_this_x ho
  replace hdis := hdis.moved (fun k _ _ _ _ => y_slk rfl (ho _ (y_ne hY_ot hY_this_x rfl))) (fun k _ _ _ _ => y_slk rfl (ho _ (y_ne hY_this hY_this_x rfl)))
  replace hfld : z_fld D this s.heap _ := fun k a b c d => (y_slk rfl (ho _ (y_ne hY_this hY_this_x rfl))).trans (hfld k a b c d)
  replace hF := fun b u g9 (hb : Y0 b = some u) (hg9 : x_G[u]? = some g9) (hn : b ≠ this) (hk9 : ∀ k, k < 16 → x_sl D 2 k this s.heap ≠ some (.ref b)) => x_eq.trans (x_eq.of (ho b (fun e0 => hk9 1 (by decide) (by rw [e0]; exact hs0_d)))) (hF b u g9 hb hg9 hn hk9)
  replace hs5 := y_slk hs5 (ho _ (y_ne hY_this hY_this_x rfl))
  replace hs_ot_x := y_slk hs_ot_x (ho _ (y_ne hY_ot hY_this_x rfl))
  replace hs_this_x := y_slk hs_this_x (ho _ (y_ne hY_this hY_this_x rfl))
  have hA_this_x := h_new
  refine lv_aload_n hx hb cp_d23 rfl (lv_at hl 1 rfl) ?_
  obtain ⟨ot_y, hs_ot_y, hY_ot_y⟩ := y_fldR (k := 2) hI.1 hY_ot rfl rfl
  refine y_getf X (fl1 X.2.2.2.2.1) hI.1 hY_ot rfl hs_ot_y cp_d24 ?_
  refine lv_iconst hx hb cp_d27 (v := 0) (by decide) ?_
  refine lv_aload_n hx hb cp_d28 rfl (lv_at hl 0 rfl) ?_
  obtain ⟨this_y, hs_this_y, hY_this_y⟩ := y_fldR (k := 2) hI.1 hY_this rfl rfl
  refine y_getf X (fl1 X.2.2.2.2.1) hI.1 hY_this rfl hs_this_y cp_d29 ?_
  refine lv_iconst hx hb cp_d32 (v := 0) (by decide) ?_
  refine lv_bipush hx hb cp_d33 (v := 10) (by decide) ?_
  obtain ⟨a9, e9, -, hAo⟩ := hO.2.1 (2, 20, 10, 11, 5) (by decide)
  cases e9.symm.trans hs_ot_y
  replace hAo : y_A ot_y 10 _ (fun j => g (11 + 5 * j)) := hAo
  have hs0_d := (hfld 2 (by decide) (by decide) (by decide) (by decide)).symm.trans hs_this_y
  refine y_acp (bd := this_y) (bs := ot_y) (t := 20) (n := 10) (rest := []) X (x_bw35 3 rfl rfl) (x_bw35 5 rfl rfl) (x_bw35 4 rfl rfl) (x_bw1 0 rfl rfl) (Nat.le_of_ble_eq_true rfl) (by decide) hY0 hI hY_this_y hY_ot_y rfl hAo (by decide) (by decide +kernel) hl.1 (Nat.le_of_ble_eq_true rfl) cp_d35 fun H locs hI h_new ho => ?_
  replace hO := hO.far hY_ot hdis (c := (2, 20, 10, 11, 5)) (by decide) hs_this_y hY_this_y ho
  replace hdis := hdis.moved (fun k _ _ _ _ => y_slk rfl (ho _ (y_ne hY_ot hY_this_y rfl))) (fun k _ _ _ _ => y_slk rfl (ho _ (y_ne hY_this hY_this_y rfl)))
  replace hfld : z_fld D this s.heap _ := fun k a b c d => (y_slk rfl (ho _ (y_ne hY_this hY_this_y rfl))).trans (hfld k a b c d)
  replace hF := fun b u g9 (hb : Y0 b = some u) (hg9 : x_G[u]? = some g9) (hn : b ≠ this) (hk9 : ∀ k, k < 16 → x_sl D 2 k this s.heap ≠ some (.ref b)) => x_eq.trans (x_eq.of (ho b (fun e0 => hk9 2 (by decide) (by rw [e0]; exact hs0_d)))) (hF b u g9 hb hg9 hn hk9)
  replace hs5 := y_slk hs5 (ho _ (y_ne hY_this hY_this_y rfl))
  replace hs_this_x := y_slk hs_this_x (ho _ (y_ne hY_this hY_this_y rfl))
  replace hs_ot_y := y_slk hs_ot_y (ho _ (y_ne hY_ot hY_this_y rfl))
  replace hs_this_y := y_slk hs_this_y (ho _ (y_ne hY_this hY_this_y rfl))
  replace hA_this_x := hA_this_x.kept (ho _ (y_ne hY_this_x hY_this_y rfl))
  have hA_this_y := h_new
  refine lv_aload_n hx hb cp_d38 rfl (lv_at hl 1 rfl) ?_
  obtain ⟨ot_height, hs_ot_height, hY_ot_height⟩ := y_fldR (k := 3) hI.1 hY_ot rfl rfl
  refine y_getf X (fl3 X.2.2.2.2.1) hI.1 hY_ot rfl hs_ot_height cp_d39 ?_
  refine lv_iconst hx hb cp_d42 (v := 0) (by decide) ?_
  refine lv_aload_n hx hb cp_d43 rfl (lv_at hl 0 rfl) ?_
  obtain ⟨this_height, hs_this_height, hY_this_height⟩ := y_fldR (k := 3) hI.1 hY_this rfl rfl
  refine y_getf X (fl3 X.2.2.2.2.1) hI.1 hY_this rfl hs_this_height cp_d44 ?_
  refine lv_iconst hx hb cp_d47 (v := 0) (by decide) ?_
  refine lv_bipush hx hb cp_d48 (v := 10) (by decide) ?_
  obtain ⟨a9, e9, -, hAo⟩ := hO.2.1 (3, 21, 10, 12, 5) (by decide)
  cases e9.symm.trans hs_ot_height
  replace hAo : y_A ot_height 10 _ (fun j => g (12 + 5 * j)) := hAo
  have hs0_d := (hfld 3 (by decide) (by decide) (by decide) (by decide)).symm.trans hs_this_height
  refine y_acp (bd := this_height) (bs := ot_height) (t := 21) (n := 10) (rest := []) X (x_bw35 3 rfl rfl) (x_bw35 5 rfl rfl) (x_bw35 4 rfl rfl) (x_bw1 0 rfl rfl) (Nat.le_of_ble_eq_true rfl) (by decide) hY0 hI hY_this_height hY_ot_height rfl hAo (by decide) (by decide +kernel) hl.1 (Nat.le_of_ble_eq_true rfl) cp_d50 fun H locs hI h_new ho => ?_
  replace hO := hO.far hY_ot hdis (c := (3, 21, 10, 12, 5)) (by decide) hs_this_height hY_this_height ho
  replace hdis := hdis.moved (fun k _ _ _ _ => y_slk rfl (ho _ (y_ne hY_ot hY_this_height rfl))) (fun k _ _ _ _ => y_slk rfl (ho _ (y_ne hY_this hY_this_height rfl)))
  replace hfld : z_fld D this s.heap _ := fun k a b c d => (y_slk rfl (ho _ (y_ne hY_this hY_this_height rfl))).trans (hfld k a b c d)
  replace hF := fun b u g9 (hb : Y0 b = some u) (hg9 : x_G[u]? = some g9) (hn : b ≠ this) (hk9 : ∀ k, k < 16 → x_sl D 2 k this s.heap ≠ some (.ref b)) => x_eq.trans (x_eq.of (ho b (fun e0 => hk9 3 (by decide) (by rw [e0]; exact hs0_d)))) (hF b u g9 hb hg9 hn hk9)
  replace hs5 := y_slk hs5 (ho _ (y_ne hY_this hY_this_height rfl))
  replace hs_this_x := y_slk hs_this_x (ho _ (y_ne hY_this hY_this_height rfl))
  replace hs_this_y := y_slk hs_this_y (ho _ (y_ne hY_this hY_this_height rfl))
  replace hs_ot_height := y_slk hs_ot_height (ho _ (y_ne hY_ot hY_this_height rfl))
  replace hs_this_height := y_slk hs_this_height (ho _ (y_ne hY_this hY_this_height rfl))
  replace hA_this_x := hA_this_x.kept (ho _ (y_ne hY_this_x hY_this_height rfl))
  replace hA_this_y := hA_this_y.kept (ho _ (y_ne hY_this_y hY_this_height rfl))
  have hA_this_height := h_new
  refine lv_aload_n hx hb cp_d53 rfl (lv_at hl 1 rfl) ?_
  obtain ⟨ot_report, hs_ot_report, hY_ot_report⟩ := y_fldR (k := 4) hI.1 hY_ot rfl rfl
  refine y_getf X (fl4 X.2.2.2.2.1) hI.1 hY_ot rfl hs_ot_report cp_d54 ?_
  refine lv_iconst hx hb cp_d57 (v := 0) (by decide) ?_
  refine lv_aload_n hx hb cp_d58 rfl (lv_at hl 0 rfl) ?_
  obtain ⟨this_report, hs_this_report, hY_this_report⟩ := y_fldR (k := 4) hI.1 hY_this rfl rfl
  refine y_getf X (fl4 X.2.2.2.2.1) hI.1 hY_this rfl hs_this_report cp_d59 ?_
  refine lv_iconst hx hb cp_d62 (v := 0) (by decide) ?_
  refine lv_bipush hx hb cp_d63 (v := 10) (by decide) ?_
  obtain ⟨a9, e9, -, hAo⟩ := hO.2.1 (4, 22, 10, 13, 5) (by decide)
  cases e9.symm.trans hs_ot_report
  replace hAo : y_A ot_report 10 _ (fun j => g (13 + 5 * j)) := hAo
  have hs0_d := (hfld 4 (by decide) (by decide) (by decide) (by decide)).symm.trans hs_this_report
  refine y_acp (bd := this_report) (bs := ot_report) (t := 22) (n := 10) (rest := []) X (x_bw35 3 rfl rfl) (x_bw35 5 rfl rfl) (x_bw35 4 rfl rfl) (x_bw1 0 rfl rfl) (Nat.le_of_ble_eq_true rfl) (by decide) hY0 hI hY_this_report hY_ot_report rfl hAo (by decide) (by decide +kernel) hl.1 (Nat.le_of_ble_eq_true rfl) cp_d65 fun H locs hI h_new ho => ?_
  replace hO := hO.far hY_ot hdis (c := (4, 22, 10, 13, 5)) (by decide) hs_this_report hY_this_report ho
  replace hdis := hdis.moved (fun k _ _ _ _ => y_slk rfl (ho _ (y_ne hY_ot hY_this_report rfl))) (fun k _ _ _ _ => y_slk rfl (ho _ (y_ne hY_this hY_this_report rfl)))
  replace hfld : z_fld D this s.heap _ := fun k a b c d => (y_slk rfl (ho _ (y_ne hY_this hY_this_report rfl))).trans (hfld k a b c d)
  replace hF := fun b u g9 (hb : Y0 b = some u) (hg9 : x_G[u]? = some g9) (hn : b ≠ this) (hk9 : ∀ k, k < 16 → x_sl D 2 k this s.heap ≠ some (.ref b)) => x_eq.trans (x_eq.of (ho b (fun e0 => hk9 4 (by decide) (by rw [e0]; exact hs0_d)))) (hF b u g9 hb hg9 hn hk9)
  replace hs5 := y_slk hs5 (ho _ (y_ne hY_this hY_this_report rfl))
  replace hs_this_x := y_slk hs_this_x (ho _ (y_ne hY_this hY_this_report rfl))
  replace hs_this_y := y_slk hs_this_y (ho _ (y_ne hY_this hY_this_report rfl))
  replace hs_this_height := y_slk hs_this_height (ho _ (y_ne hY_this hY_this_report rfl))
  replace hs_ot_report := y_slk hs_ot_report (ho _ (y_ne hY_ot hY_this_report rfl))
  replace hs_this_report := y_slk hs_this_report (ho _ (y_ne hY_this hY_this_report rfl))
  replace hA_this_x := hA_this_x.kept (ho _ (y_ne hY_this_x hY_this_report rfl))
  replace hA_this_y := hA_this_y.kept (ho _ (y_ne hY_this_y hY_this_report rfl))
  replace hA_this_height := hA_this_height.kept (ho _ (y_ne hY_this_height hY_this_report rfl))
  have hA_this_report := h_new
  refine lv_aload_n hx hb cp_d68 rfl (lv_at hl 1 rfl) ?_
  obtain ⟨ot_blame, hs_ot_blame, hY_ot_blame⟩ := y_fldR (k := 5) hI.1 hY_ot rfl rfl
  refine y_getf X (fl5 X.2.2.2.2.1) hI.1 hY_ot rfl hs_ot_blame cp_d69 ?_
  refine lv_iconst hx hb cp_d72 (v := 0) (by decide) ?_
  refine lv_aload_n hx hb cp_d73 rfl (lv_at hl 0 rfl) ?_
  obtain ⟨this_blame, hs_this_blame, hY_this_blame⟩ := y_fldR (k := 5) hI.1 hY_this rfl rfl
  refine y_getf X (fl5 X.2.2.2.2.1) hI.1 hY_this rfl hs_this_blame cp_d74 ?_
  refine lv_iconst hx hb cp_d77 (v := 0) (by decide) ?_
  refine lv_bipush hx hb cp_d78 (v := 10) (by decide) ?_
  obtain ⟨a9, e9, -, hAo⟩ := hO.2.1 (5, 23, 10, 14, 5) (by decide)
  cases e9.symm.trans hs_ot_blame
  replace hAo : y_A ot_blame 10 _ (fun j => g (14 + 5 * j)) := hAo
  have hs0_d := (hfld 5 (by decide) (by decide) (by decide) (by decide)).symm.trans hs_this_blame
  refine y_acp (bd := this_blame) (bs := ot_blame) (t := 23) (n := 10) (rest := []) X (x_bw35 3 rfl rfl) (x_bw35 5 rfl rfl) (x_bw35 4 rfl rfl) (x_bw1 0 rfl rfl) (Nat.le_of_ble_eq_true rfl) (by decide) hY0 hI hY_this_blame hY_ot_blame rfl hAo (by decide) (by decide +kernel) hl.1 (Nat.le_of_ble_eq_true rfl) cp_d80 fun H locs hI h_new ho => ?_
  replace hO := hO.far hY_ot hdis (c := (5, 23, 10, 14, 5)) (by decide) hs_this_blame hY_this_blame ho
  replace hdis := hdis.moved (fun k _ _ _ _ => y_slk rfl (ho _ (y_ne hY_ot hY_this_blame rfl))) (fun k _ _ _ _ => y_slk rfl (ho _ (y_ne hY_this hY_this_blame rfl)))
  replace hfld : z_fld D this s.heap _ := fun k a b c d => (y_slk rfl (ho _ (y_ne hY_this hY_this_blame rfl))).trans (hfld k a b c d)
  replace hF := fun b u g9 (hb : Y0 b = some u) (hg9 : x_G[u]? = some g9) (hn : b ≠ this) (hk9 : ∀ k, k < 16 → x_sl D 2 k this s.heap ≠ some (.ref b)) => x_eq.trans (x_eq.of (ho b (fun e0 => hk9 5 (by decide) (by rw [e0]; exact hs0_d)))) (hF b u g9 hb hg9 hn hk9)
  replace hs5 := y_slk hs5 (ho _ (y_ne hY_this hY_this_blame rfl))
  replace hs_this_x := y_slk hs_this_x (ho _ (y_ne hY_this hY_this_blame rfl))
  replace hs_this_y := y_slk hs_this_y (ho _ (y_ne hY_this hY_this_blame rfl))
  replace hs_this_height := y_slk hs_this_height (ho _ (y_ne hY_this hY_this_blame rfl))
  replace hs_this_report := y_slk hs_this_report (ho _ (y_ne hY_this hY_this_blame rfl))
  replace hs_ot_blame := y_slk hs_ot_blame (ho _ (y_ne hY_ot hY_this_blame rfl))
  replace hs_this_blame := y_slk hs_this_blame (ho _ (y_ne hY_this hY_this_blame rfl))
  replace hA_this_x := hA_this_x.kept (ho _ (y_ne hY_this_x hY_this_blame rfl))
  replace hA_this_y := hA_this_y.kept (ho _ (y_ne hY_this_y hY_this_blame rfl))
  replace hA_this_height := hA_this_height.kept (ho _ (y_ne hY_this_height hY_this_blame rfl))
  replace hA_this_report := hA_this_report.kept (ho _ (y_ne hY_this_report hY_this_blame rfl))
  have hA_this_blame := h_new
  refine lv_aload_n hx hb cp_d83 rfl (lv_at hl 0 rfl) ?_
  refine lv_aload_n hx hb cp_d84 rfl (lv_at hl 1 rfl) ?_
  have hs_n := hO.1.2.1
  have hnb : 0 ≤ (g 1).toInt ∧ (g 1).toInt ≤ 8 := by obtain ⟨x9, e9, b9⟩ := y_fldI (k := 6) hI.1 hY_ot rfl rfl; rw [hs_n] at e9; cases e9; exact b9
  refine y_getf X (fl42 X.2.2.2.2.1) hI.1 hY_ot rfl hs_n cp_d85 ?_
  refine y_putf X (fw43 X.2.2.2.2.1) hY0 hI hY_this rfl rfl ⟨_, rfl, by show (0 : Int) ≤ _; omega, by show _ ≤ (8 : Int); omega⟩ (by decide +kernel) cp_d88 fun H sl hI ho hs hk => ?_
  replace hs5 := hk _ _ (by decide +kernel) (by decide) hs5
  replace hs_this_x := hk _ _ (by decide +kernel) (by decide) hs_this_x
  replace hs_this_y := hk _ _ (by decide +kernel) (by decide) hs_this_y
  replace hs_this_height := hk _ _ (by decide +kernel) (by decide) hs_this_height
  replace hs_this_report := hk _ _ (by decide +kernel) (by decide) hs_this_report
  replace hs_this_blame := hk _ _ (by decide +kernel) (by decide) hs_this_blame
  replace hA_this_x := hA_this_x.kept (ho _ (y_ne hY_this_x hY_this rfl))
  replace hA_this_y := hA_this_y.kept (ho _ (y_ne hY_this_y hY_this rfl))
  replace hA_this_height := hA_this_height.kept (ho _ (y_ne hY_this_height hY_this rfl))
  replace hA_this_report := hA_this_report.kept (ho _ (y_ne hY_this_report hY_this rfl))
  replace hA_this_blame := hA_this_blame.kept (ho _ (y_ne hY_this_blame hY_this rfl))
  replace hO := hO.farI hdis.1 hY_this ho
  replace hdis := hdis.moved (fun k _ _ _ _ => y_slk rfl (ho _ hdis.1)) (fun k a b c d => hk k _ a (by omega) rfl)
  replace hfld : z_fld D this s.heap _ := fun k a b c d => (hk k _ a (by omega) rfl).trans (hfld k a b c d)
  replace hF := fun b u g9 (hb : Y0 b = some u) (hg9 : x_G[u]? = some g9) (hn : b ≠ this) (hk9 : ∀ k, k < 16 → x_sl D 2 k this s.heap ≠ some (.ref b)) => x_eq.trans (x_eq.of (ho b hn)) (hF b u g9 hb hg9 hn hk9)
  replace hs := hs
  have hs88 := hs
  refine lv_iconst hx hb cp_d91 (v := 0) (by decide) ?_
  refine lv_istore_n hx hb cp_d92 rfl hl (by decide) (lv' := [(2, .int (0 : Int32)), (0, .ref this), (1, .ref ot)]) rfl fun ls hl => ?_
  obtain ⟨this_stones, hs_this_stones, hY_this_stones⟩ := y_fldR (k := 7) hI.1 hY_this rfl rfl
  obtain ⟨ot_stones, hs_ot_stones, hY_ot_stones⟩ := y_fldR (k := 7) hI.1 hY_ot rfl rfl
  have hsi_hills := hs5
  have hsi_things := hs88
  exact cp_L93 B rfl hO0 9 _ _ _ _ _ hI hY_this hY_ot hY_this_x hY_this_y hY_this_height hY_this_report hY_this_blame hY_this_stones hY_ot_stones hs_this_x hs_this_y hs_this_height hs_this_report hs_this_blame hs_this_stones hs_ot_stones hsi_hills hsi_things hA_this_x hA_this_y hA_this_height hA_this_report hA_this_blame (lv_sub hl [0, 1, 2] rfl) (by first | assumption | omega) hO hdis hfld hF (fun j hj => absurd hj (by omega)) (by omega)

