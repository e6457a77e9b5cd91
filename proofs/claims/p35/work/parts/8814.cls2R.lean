section ZLB
variable {D : va_G} {Y Y' : xY} {H H' : Heap} {q : Nat} {f : Nat → Int32}
/-- all cells of ours as they were -/
theorem z_L.xeq (h : z_L D Y q H f) (hq : Y q = some 2) (hm : ∀ b u, Y b = some u → Y' b = some u) (hk : ∀ b u g, Y b = some u → x_G[u]? = some g → x_eq D g b H H') : z_L D Y' q H' f := by
  have h' := h
  obtain ⟨-, k1, ⟨b, b1, b2, b3⟩, -⟩ := h'
  have harr : ∀ (a t : Nat), Y a = some t → 19 ≤ t → t ≤ 31 → H'[a]? = H[a]? := fun a t ha h1 h2 => by
    obtain ⟨gg, hg⟩ : ∃ gg, x_G[t]? = some (.inr gg) := by
      rcases (by omega : t = 19 ∨ t = 20 ∨ t = 21 ∨ t = 22 ∨ t = 23 ∨ t = 24 ∨ t = 25 ∨ t = 26 ∨ t = 27 ∨ t = 28 ∨ t = 29 ∨ t = 30 ∨ t = 31) with rfl | rfl | rfl | rfl | rfl | rfl | rfl | rfl | rfl | rfl | rfl | rfl | rfl <;> exact ⟨_, rfl⟩
    exact hk a t _ ha hg
  refine h.keptS hm (fun k hk9 => ?_) (fun c hc a ha => ?_) (fun a ha => ?_)
  · have h9 := hk q 2 _ hq rfl
    exact h9 k hk9
  · obtain ⟨a', e1, e2, -⟩ := k1 c hc
    cases e1.symm.trans ha
    have := z_C_tag c hc
    exact harr a _ e2 (by omega) (by omega)
  · cases b1.symm.trans ha
    refine ⟨harr b 24 b2 (by omega) (by omega), fun j s hj hs z hz hY k hk9 => ?_⟩
    simp only [z_Kd, List.mem_cons, List.not_mem_nil, or_false] at hz
    rcases hz with rfl | rfl | rfl | rfl | rfl | rfl
    · have h9 := hk s 11 _ hY rfl
      exact h9 k hk9
    · have h9 := hk s 12 _ hY rfl
      exact h9 k hk9
    · have h9 := hk s 13 _ hY rfl
      exact h9 k hk9
    · have h9 := hk s 14 _ hY rfl
      exact h9 k hk9
    · have h9 := hk s 15 _ hY rfl
      exact h9 k hk9
    · have h9 := hk s 16 _ hY rfl
      exact h9 k hk9
def z_up5 (f : Nat → Int32) (j : Nat) (k x y h g : Int32) : Nat → Int32 := y_up (y_up (y_up (y_up (y_up f (60 + 7 * j) k) (61 + 7 * j) x) (62 + 7 * j) y) (63 + 7 * j) h) (64 + 7 * j) g
theorem z_up5_ne {j p : Nat} {k x y h g : Int32} (hp : p < 60 + 7 * j ∨ 64 + 7 * j < p) : z_up5 f j k x y h g p = f p := by
  unfold z_up5
  rw [y_up_ne (by omega), y_up_ne (by omega), y_up_ne (by omega), y_up_ne (by omega), y_up_ne (by omega)]
/-- another stone at place j -/
theorem z_L.putS {j a n : Nat} {k x y h9 g : Int32} {z : Nat × Nat} (h : z_L D Y q H f) (hq : Y q = some 2) (hj : j < 8) (ha : x_sl D 2 7 q H = some (.ref a)) (hat : y_at a j H' = some (.ref n)) (hne : ∀ i, i ≠ j → y_at a i H' = y_at a i H) (ho : ∀ b, b ≠ a → H'[b]? = H[b]?) (hz : z ∈ z_Kd) (hY : Y n = some z.1) (hk : (z.1 : Int) = 11 + k.toInt) (s0 : x_sl D z.2 0 n H' = some (.int k)) (s1 : x_sl D z.2 1 n H' = some (.int x)) (s2 : x_sl D z.2 2 n H' = some (.int y)) (s3 : x_sl D z.2 3 n H' = some (.int h9)) (s4 : x_sl D z.2 4 n H' = some (.int g)) : z_L D Y q H' (z_up5 f j k x y h9 g) := by
  obtain ⟨⟨i1, i2, i3⟩, k1, ⟨b, b1, b2, b3⟩, hz9⟩ := h
  cases b1.symm.trans ha
  have hne9 : ∀ (x u : Nat), Y x = some u → u ≠ 24 → x ≠ a := fun x u hx hu e0 => by
    subst e0
    rw [hx] at b2
    injection b2 with b2
    exact hu b2
  have hq0 : H'[q]? = H[q]? := ho q (hne9 q 2 hq (by decide))
  refine ⟨⟨?_, ?_, ?_⟩, fun c hc => ?_, ⟨a, y_slk ha hq0, b2, fun i hi => ?_⟩, fun p hp => ?_⟩
  · rw [z_up5_ne (by omega)]; exact y_slk i1 hq0
  · rw [z_up5_ne (by omega)]; exact y_slk i2 hq0
  · rw [z_up5_ne (by omega)]; exact y_slk i3 hq0
  · obtain ⟨d, d1, d2, d3⟩ := k1 c hc
    refine ⟨d, y_slk d1 hq0, d2, fun i hi => ?_⟩
    have ht := z_C_tag c hc
    have hp0 := z_pl_st c hc i hi j hj 0 (by decide)
    have hp1 := z_pl_st c hc i hi j hj 1 (by decide)
    have hp2 := z_pl_st c hc i hi j hj 2 (by decide)
    have hp3 := z_pl_st c hc i hi j hj 3 (by decide)
    have hp4 := z_pl_st c hc i hi j hj 4 (by decide)
    rw [z_up5_ne (by omega), z_atk (ho d (hne9 d _ d2 (by omega)))]; exact d3 i hi
  · by_cases e : i = j
    · subst e
      refine ⟨n, hat, z, hz, hY, ?_, fun k9 hk9 => ?_⟩
      · rw [show z_up5 f i k x y h9 g (60 + 7 * i) = k by unfold z_up5; rw [y_up_ne (by omega), y_up_ne (by omega), y_up_ne (by omega), y_up_ne (by omega), y_up_at]]; exact hk
      · rcases (by omega : k9 = 0 ∨ k9 = 1 ∨ k9 = 2 ∨ k9 = 3 ∨ k9 = 4) with rfl | rfl | rfl | rfl | rfl
        · rw [show z_up5 f i k x y h9 g (60 + 7 * i + 0) = k by unfold z_up5; rw [y_up_ne (by omega), y_up_ne (by omega), y_up_ne (by omega), y_up_ne (by omega)]; exact y_up_at]; exact s0
        · rw [show z_up5 f i k x y h9 g (60 + 7 * i + 1) = x by unfold z_up5; rw [y_up_ne (by omega), y_up_ne (by omega), y_up_ne (by omega), show 60 + 7 * i + 1 = 61 + 7 * i by omega]; exact y_up_at]; exact s1
        · rw [show z_up5 f i k x y h9 g (60 + 7 * i + 2) = y by unfold z_up5; rw [y_up_ne (by omega), y_up_ne (by omega), show 60 + 7 * i + 2 = 62 + 7 * i by omega]; exact y_up_at]; exact s2
        · rw [show z_up5 f i k x y h9 g (60 + 7 * i + 3) = h9 by unfold z_up5; rw [y_up_ne (by omega), show 60 + 7 * i + 3 = 63 + 7 * i by omega]; exact y_up_at]; exact s3
        · rw [show z_up5 f i k x y h9 g (60 + 7 * i + 4) = g by unfold z_up5; rw [show 60 + 7 * i + 4 = 64 + 7 * i by omega]; exact y_up_at]; exact s4
    · obtain ⟨s, s5, s6⟩ := b3 i hi
      have ht : s ≠ a := by
        obtain ⟨z', z1, z2, -⟩ := s6
        have := z_Kd_tag z' z1
        exact hne9 s _ z2 (by omega)
      exact ⟨s, by rw [hne i e]; exact s5, (s6.kept (fun _ _ hh => hh) (ho s ht)).same (fun k9 hk9 => z_up5_ne (by omega))⟩
  · rw [z_up5_ne]; exact hz9 p hp
    simp only [z_np, Bool.or_eq_true, decide_eq_true_eq] at hp
    omega
end ZLB
def z_Pat : yP := fun D av Y H v Y' H' => ∀ (this : Nat) (k x y h g : Int32) (f : Nat → Int32), av = [.ref this, .int k, .int x, .int y, .int h, .int g] → z_L D Y this H f → z_fr D Y H H' this ∧ ∃ (r : Int32) (f1 : Nat → Int32), v = some (.int r) ∧ z_L D Y' this H' f1 ∧ m_thing f k x y h g r f1
theorem aT_d0 : decode xM20.2.1 0 = .ok (.iload_n 1, 1) := dz_ok (by decide +kernel)
theorem aT_d1 : decode xM20.2.1 1 = .ok (.ifCond .eq 12, 3) := dz_ok (by decide +kernel)
theorem aT_d4 : decode xM20.2.1 4 = .ok (.iload_n 1, 1) := dz_ok (by decide +kernel)
theorem aT_d5 : decode xM20.2.1 5 = .ok (.iconst 5, 1) := dz_ok (by decide +kernel)
theorem aT_d6 : decode xM20.2.1 6 = .ok (.if_icmp .eq 7, 3) := dz_ok (by decide +kernel)
theorem aT_d9 : decode xM20.2.1 9 = .ok (.iconst 1, 1) := dz_ok (by decide +kernel)
theorem aT_d10 : decode xM20.2.1 10 = .ok (.goto 4, 3) := dz_ok (by decide +kernel)
theorem aT_d13 : decode xM20.2.1 13 = .ok (.iconst 0, 1) := dz_ok (by decide +kernel)
theorem aT_d14 : decode xM20.2.1 14 = .ok (.istore 6, 2) := dz_ok (by decide +kernel)
theorem aT_d16 : decode xM20.2.1 16 = .ok (.iload_n 1, 1) := dz_ok (by decide +kernel)
theorem aT_d17 : decode xM20.2.1 17 = .ok (.iconst 0, 1) := dz_ok (by decide +kernel)
theorem aT_d18 : decode xM20.2.1 18 = .ok (.iconst 5, 1) := dz_ok (by decide +kernel)
theorem aT_d19 : decode xM20.2.1 19 = .ok (.invokestatic 83, 3) := dz_ok (by decide +kernel)
theorem aT_d22 : decode xM20.2.1 22 = .ok (.ifCond .eq 42, 3) := dz_ok (by decide +kernel)
theorem aT_d25 : decode xM20.2.1 25 = .ok (.iload_n 2, 1) := dz_ok (by decide +kernel)
theorem aT_d26 : decode xM20.2.1 26 = .ok (.iload_n 3, 1) := dz_ok (by decide +kernel)
theorem aT_d27 : decode xM20.2.1 27 = .ok (.invokestatic 79, 3) := dz_ok (by decide +kernel)
theorem aT_d30 : decode xM20.2.1 30 = .ok (.ifCond .eq 34, 3) := dz_ok (by decide +kernel)
theorem aT_d33 : decode xM20.2.1 33 = .ok (.iload 4, 2) := dz_ok (by decide +kernel)
theorem aT_d35 : decode xM20.2.1 35 = .ok (.iconst 0, 1) := dz_ok (by decide +kernel)
theorem aT_d36 : decode xM20.2.1 36 = .ok (.bipush 99, 2) := dz_ok (by decide +kernel)
theorem aT_d38 : decode xM20.2.1 38 = .ok (.invokestatic 83, 3) := dz_ok (by decide +kernel)
theorem aT_d41 : decode xM20.2.1 41 = .ok (.ifCond .eq 23, 3) := dz_ok (by decide +kernel)
theorem aT_d44 : decode xM20.2.1 44 = .ok (.iload 5, 2) := dz_ok (by decide +kernel)
theorem aT_d46 : decode xM20.2.1 46 = .ok (.iconst 0, 1) := dz_ok (by decide +kernel)
theorem aT_d47 : decode xM20.2.1 47 = .ok (.iload 6, 2) := dz_ok (by decide +kernel)
theorem aT_d49 : decode xM20.2.1 49 = .ok (.ifCond .eq 8, 3) := dz_ok (by decide +kernel)
theorem aT_d52 : decode xM20.2.1 52 = .ok (.bipush 9, 2) := dz_ok (by decide +kernel)
theorem aT_d54 : decode xM20.2.1 54 = .ok (.goto 4, 3) := dz_ok (by decide +kernel)
theorem aT_d57 : decode xM20.2.1 57 = .ok (.iconst 0, 1) := dz_ok (by decide +kernel)
theorem aT_d58 : decode xM20.2.1 58 = .ok (.invokestatic 83, 3) := dz_ok (by decide +kernel)
theorem aT_d61 : decode xM20.2.1 61 = .ok (.ifCond .ne 6, 3) := dz_ok (by decide +kernel)
theorem aT_d64 : decode xM20.2.1 64 = .ok (.bipush (-2), 2) := dz_ok (by decide +kernel)
theorem aT_d66 : decode xM20.2.1 66 = .ok (.ireturn, 1) := dz_ok (by decide +kernel)
theorem aT_d67 : decode xM20.2.1 67 = .ok (.aload_n 0, 1) := dz_ok (by decide +kernel)
theorem aT_d68 : decode xM20.2.1 68 = .ok (.getfield 73, 3) := dz_ok (by decide +kernel)
theorem aT_d71 : decode xM20.2.1 71 = .ok (.bipush 8, 2) := dz_ok (by decide +kernel)
theorem aT_d73 : decode xM20.2.1 73 = .ok (.if_icmp .lt 6, 3) := dz_ok (by decide +kernel)
theorem aT_d76 : decode xM20.2.1 76 = .ok (.bipush (-4), 2) := dz_ok (by decide +kernel)
theorem aT_d78 : decode xM20.2.1 78 = .ok (.ireturn, 1) := dz_ok (by decide +kernel)
theorem aT_d79 : decode xM20.2.1 79 = .ok (.iload_n 1, 1) := dz_ok (by decide +kernel)
theorem aT_d80 : decode xM20.2.1 80 = .ok (.tableswitch 166 1 5 #[36, 62, 88, 114, 140], 36) := dz_ok (by decide +kernel)
theorem aT_d116 : decode xM20.2.1 116 = .ok (.aload_n 0, 1) := dz_ok (by decide +kernel)
theorem aT_d117 : decode xM20.2.1 117 = .ok (.getfield 29, 3) := dz_ok (by decide +kernel)
theorem aT_d120 : decode xM20.2.1 120 = .ok (.aload_n 0, 1) := dz_ok (by decide +kernel)
theorem aT_d121 : decode xM20.2.1 121 = .ok (.getfield 73, 3) := dz_ok (by decide +kernel)
theorem aT_d124 : decode xM20.2.1 124 = .ok (.new 90, 3) := dz_ok (by decide +kernel)
theorem aT_d127 : decode xM20.2.1 127 = .ok (.dup, 1) := dz_ok (by decide +kernel)
theorem aT_d128 : decode xM20.2.1 128 = .ok (.iload_n 1, 1) := dz_ok (by decide +kernel)
theorem aT_d129 : decode xM20.2.1 129 = .ok (.iload_n 2, 1) := dz_ok (by decide +kernel)
theorem aT_d130 : decode xM20.2.1 130 = .ok (.iload_n 3, 1) := dz_ok (by decide +kernel)
theorem aT_d131 : decode xM20.2.1 131 = .ok (.iload 4, 2) := dz_ok (by decide +kernel)
theorem aT_d133 : decode xM20.2.1 133 = .ok (.iload 5, 2) := dz_ok (by decide +kernel)
theorem aT_d135 : decode xM20.2.1 135 = .ok (.invokespecial 92, 3) := dz_ok (by decide +kernel)
theorem aT_d138 : decode xM20.2.1 138 = .ok (.aastore, 1) := dz_ok (by decide +kernel)
theorem aT_d139 : decode xM20.2.1 139 = .ok (.goto 130, 3) := dz_ok (by decide +kernel)
theorem aT_d142 : decode xM20.2.1 142 = .ok (.aload_n 0, 1) := dz_ok (by decide +kernel)
theorem aT_d143 : decode xM20.2.1 143 = .ok (.getfield 29, 3) := dz_ok (by decide +kernel)
theorem aT_d146 : decode xM20.2.1 146 = .ok (.aload_n 0, 1) := dz_ok (by decide +kernel)
theorem aT_d147 : decode xM20.2.1 147 = .ok (.getfield 73, 3) := dz_ok (by decide +kernel)
theorem aT_d150 : decode xM20.2.1 150 = .ok (.new 93, 3) := dz_ok (by decide +kernel)
theorem aT_d153 : decode xM20.2.1 153 = .ok (.dup, 1) := dz_ok (by decide +kernel)
theorem aT_d154 : decode xM20.2.1 154 = .ok (.iload_n 1, 1) := dz_ok (by decide +kernel)
theorem aT_d155 : decode xM20.2.1 155 = .ok (.iload_n 2, 1) := dz_ok (by decide +kernel)
theorem aT_d156 : decode xM20.2.1 156 = .ok (.iload_n 3, 1) := dz_ok (by decide +kernel)
theorem aT_d157 : decode xM20.2.1 157 = .ok (.iload 4, 2) := dz_ok (by decide +kernel)
theorem aT_d159 : decode xM20.2.1 159 = .ok (.iload 5, 2) := dz_ok (by decide +kernel)
theorem aT_d161 : decode xM20.2.1 161 = .ok (.invokespecial 95, 3) := dz_ok (by decide +kernel)
theorem aT_d164 : decode xM20.2.1 164 = .ok (.aastore, 1) := dz_ok (by decide +kernel)
theorem aT_d165 : decode xM20.2.1 165 = .ok (.goto 104, 3) := dz_ok (by decide +kernel)
theorem aT_d168 : decode xM20.2.1 168 = .ok (.aload_n 0, 1) := dz_ok (by decide +kernel)
theorem aT_d169 : decode xM20.2.1 169 = .ok (.getfield 29, 3) := dz_ok (by decide +kernel)
theorem aT_d172 : decode xM20.2.1 172 = .ok (.aload_n 0, 1) := dz_ok (by decide +kernel)
theorem aT_d173 : decode xM20.2.1 173 = .ok (.getfield 73, 3) := dz_ok (by decide +kernel)
theorem aT_d176 : decode xM20.2.1 176 = .ok (.new 96, 3) := dz_ok (by decide +kernel)
theorem aT_d179 : decode xM20.2.1 179 = .ok (.dup, 1) := dz_ok (by decide +kernel)
theorem aT_d180 : decode xM20.2.1 180 = .ok (.iload_n 1, 1) := dz_ok (by decide +kernel)
theorem aT_d181 : decode xM20.2.1 181 = .ok (.iload_n 2, 1) := dz_ok (by decide +kernel)
theorem aT_d182 : decode xM20.2.1 182 = .ok (.iload_n 3, 1) := dz_ok (by decide +kernel)
theorem aT_d183 : decode xM20.2.1 183 = .ok (.iload 4, 2) := dz_ok (by decide +kernel)
theorem aT_d185 : decode xM20.2.1 185 = .ok (.iload 5, 2) := dz_ok (by decide +kernel)
theorem aT_d187 : decode xM20.2.1 187 = .ok (.invokespecial 98, 3) := dz_ok (by decide +kernel)
theorem aT_d190 : decode xM20.2.1 190 = .ok (.aastore, 1) := dz_ok (by decide +kernel)
theorem aT_d191 : decode xM20.2.1 191 = .ok (.goto 78, 3) := dz_ok (by decide +kernel)
theorem aT_d194 : decode xM20.2.1 194 = .ok (.aload_n 0, 1) := dz_ok (by decide +kernel)
theorem aT_d195 : decode xM20.2.1 195 = .ok (.getfield 29, 3) := dz_ok (by decide +kernel)
theorem aT_d198 : decode xM20.2.1 198 = .ok (.aload_n 0, 1) := dz_ok (by decide +kernel)
theorem aT_d199 : decode xM20.2.1 199 = .ok (.getfield 73, 3) := dz_ok (by decide +kernel)
theorem aT_d202 : decode xM20.2.1 202 = .ok (.new 99, 3) := dz_ok (by decide +kernel)
theorem aT_d205 : decode xM20.2.1 205 = .ok (.dup, 1) := dz_ok (by decide +kernel)
theorem aT_d206 : decode xM20.2.1 206 = .ok (.iload_n 1, 1) := dz_ok (by decide +kernel)
theorem aT_d207 : decode xM20.2.1 207 = .ok (.iload_n 2, 1) := dz_ok (by decide +kernel)
theorem aT_d208 : decode xM20.2.1 208 = .ok (.iload_n 3, 1) := dz_ok (by decide +kernel)
theorem aT_d209 : decode xM20.2.1 209 = .ok (.iload 4, 2) := dz_ok (by decide +kernel)
theorem aT_d211 : decode xM20.2.1 211 = .ok (.iload 5, 2) := dz_ok (by decide +kernel)
theorem aT_d213 : decode xM20.2.1 213 = .ok (.invokespecial 101, 3) := dz_ok (by decide +kernel)
theorem aT_d216 : decode xM20.2.1 216 = .ok (.aastore, 1) := dz_ok (by decide +kernel)
theorem aT_d217 : decode xM20.2.1 217 = .ok (.goto 52, 3) := dz_ok (by decide +kernel)
theorem aT_d220 : decode xM20.2.1 220 = .ok (.aload_n 0, 1) := dz_ok (by decide +kernel)
theorem aT_d221 : decode xM20.2.1 221 = .ok (.getfield 29, 3) := dz_ok (by decide +kernel)
theorem aT_d224 : decode xM20.2.1 224 = .ok (.aload_n 0, 1) := dz_ok (by decide +kernel)
theorem aT_d225 : decode xM20.2.1 225 = .ok (.getfield 73, 3) := dz_ok (by decide +kernel)
theorem aT_d228 : decode xM20.2.1 228 = .ok (.new 102, 3) := dz_ok (by decide +kernel)
theorem aT_d231 : decode xM20.2.1 231 = .ok (.dup, 1) := dz_ok (by decide +kernel)
theorem aT_d232 : decode xM20.2.1 232 = .ok (.iload_n 1, 1) := dz_ok (by decide +kernel)
theorem aT_d233 : decode xM20.2.1 233 = .ok (.iload_n 2, 1) := dz_ok (by decide +kernel)
theorem aT_d234 : decode xM20.2.1 234 = .ok (.iload_n 3, 1) := dz_ok (by decide +kernel)
theorem aT_d235 : decode xM20.2.1 235 = .ok (.iload 4, 2) := dz_ok (by decide +kernel)
theorem aT_d237 : decode xM20.2.1 237 = .ok (.iload 5, 2) := dz_ok (by decide +kernel)
theorem aT_d239 : decode xM20.2.1 239 = .ok (.invokespecial 104, 3) := dz_ok (by decide +kernel)
theorem aT_d242 : decode xM20.2.1 242 = .ok (.aastore, 1) := dz_ok (by decide +kernel)
theorem aT_d243 : decode xM20.2.1 243 = .ok (.goto 26, 3) := dz_ok (by decide +kernel)
theorem aT_d246 : decode xM20.2.1 246 = .ok (.aload_n 0, 1) := dz_ok (by decide +kernel)
theorem aT_d247 : decode xM20.2.1 247 = .ok (.getfield 29, 3) := dz_ok (by decide +kernel)
theorem aT_d250 : decode xM20.2.1 250 = .ok (.aload_n 0, 1) := dz_ok (by decide +kernel)
theorem aT_d251 : decode xM20.2.1 251 = .ok (.getfield 73, 3) := dz_ok (by decide +kernel)
theorem aT_d254 : decode xM20.2.1 254 = .ok (.new 27, 3) := dz_ok (by decide +kernel)
theorem aT_d257 : decode xM20.2.1 257 = .ok (.dup, 1) := dz_ok (by decide +kernel)
theorem aT_d258 : decode xM20.2.1 258 = .ok (.iload_n 1, 1) := dz_ok (by decide +kernel)
theorem aT_d259 : decode xM20.2.1 259 = .ok (.iload_n 2, 1) := dz_ok (by decide +kernel)
theorem aT_d260 : decode xM20.2.1 260 = .ok (.iload_n 3, 1) := dz_ok (by decide +kernel)
theorem aT_d261 : decode xM20.2.1 261 = .ok (.iload 4, 2) := dz_ok (by decide +kernel)
theorem aT_d263 : decode xM20.2.1 263 = .ok (.iload 5, 2) := dz_ok (by decide +kernel)
theorem aT_d265 : decode xM20.2.1 265 = .ok (.invokespecial 60, 3) := dz_ok (by decide +kernel)
theorem aT_d268 : decode xM20.2.1 268 = .ok (.aastore, 1) := dz_ok (by decide +kernel)
theorem aT_d269 : decode xM20.2.1 269 = .ok (.aload_n 0, 1) := dz_ok (by decide +kernel)
theorem aT_d270 : decode xM20.2.1 270 = .ok (.getfield 33, 3) := dz_ok (by decide +kernel)
theorem aT_d273 : decode xM20.2.1 273 = .ok (.aload_n 0, 1) := dz_ok (by decide +kernel)
theorem aT_d274 : decode xM20.2.1 274 = .ok (.getfield 73, 3) := dz_ok (by decide +kernel)
theorem aT_d277 : decode xM20.2.1 277 = .ok (.iconst 0, 1) := dz_ok (by decide +kernel)
theorem aT_d278 : decode xM20.2.1 278 = .ok (.iastore, 1) := dz_ok (by decide +kernel)
theorem aT_d279 : decode xM20.2.1 279 = .ok (.aload_n 0, 1) := dz_ok (by decide +kernel)
theorem aT_d280 : decode xM20.2.1 280 = .ok (.getfield 36, 3) := dz_ok (by decide +kernel)
theorem aT_d283 : decode xM20.2.1 283 = .ok (.aload_n 0, 1) := dz_ok (by decide +kernel)
theorem aT_d284 : decode xM20.2.1 284 = .ok (.getfield 73, 3) := dz_ok (by decide +kernel)
theorem aT_d287 : decode xM20.2.1 287 = .ok (.iconst 1, 1) := dz_ok (by decide +kernel)
theorem aT_d288 : decode xM20.2.1 288 = .ok (.iastore, 1) := dz_ok (by decide +kernel)
theorem aT_d289 : decode xM20.2.1 289 = .ok (.aload_n 0, 1) := dz_ok (by decide +kernel)
theorem aT_d290 : decode xM20.2.1 290 = .ok (.dup, 1) := dz_ok (by decide +kernel)
theorem aT_d291 : decode xM20.2.1 291 = .ok (.getfield 73, 3) := dz_ok (by decide +kernel)
theorem aT_d294 : decode xM20.2.1 294 = .ok (.iconst 1, 1) := dz_ok (by decide +kernel)
theorem aT_d295 : decode xM20.2.1 295 = .ok (.iadd, 1) := dz_ok (by decide +kernel)
theorem aT_d296 : decode xM20.2.1 296 = .ok (.putfield 73, 3) := dz_ok (by decide +kernel)
theorem aT_d299 : decode xM20.2.1 299 = .ok (.aload_n 0, 1) := dz_ok (by decide +kernel)
theorem aT_d300 : decode xM20.2.1 300 = .ok (.getfield 73, 3) := dz_ok (by decide +kernel)
theorem aT_d303 : decode xM20.2.1 303 = .ok (.iconst 1, 1) := dz_ok (by decide +kernel)
theorem aT_d304 : decode xM20.2.1 304 = .ok (.isub, 1) := dz_ok (by decide +kernel)
theorem aT_d305 : decode xM20.2.1 305 = .ok (.ireturn, 1) := dz_ok (by decide +kernel)
theorem aT_L269 {p : Program} {l : Launch} {e : Env} {s : State} {m : MethodId} {below : List Frame} {meth : Method} {c : Code} {D : va_G} {U : State} {Y0 : xY} {av : List Value} (B : y_B vwCl x_Tb x_Nb xM20 p s m meth c D U Y0 av) {this astones adone acost : Nat} {k x y h g : Int32} {f : Nat → Int32} (hav : av = [.ref this, .int k, .int x, .int y, .int h, .int g]) (hL0 : z_L D Y0 this s.heap f) (hs0_astones : x_sl D 2 7 this s.heap = some (.ref astones)) (hs0_adone : x_sl D 2 8 this s.heap = some (.ref adone)) (hs0_acost : x_sl D 2 9 this s.heap = some (.ref acost)) (hd1 : 0 ≤ (f 1).toInt ∧ (f 1).toInt < 8) (hok : m_tOk k x y h g)  :
    ∀ (H : Heap) (Y : xY) (locs : List Loc) (ls : Array Slot), x_I D x_G x_Zs U (x_efs xM20) Y0 s.heap Y H locs → Y this = some 2 → Y astones = some 24 → Y adone = some 25 → Y acost = some 26 → x_sl D 2 7 this H = some (.ref astones) → x_sl D 2 8 this H = some (.ref adone) → x_sl D 2 9 this H = some (.ref acost) → x_sl D 2 6 this H = some (.int (f 1)) → y_A adone 8 H (fun j => f (65 + 7 * j)) → y_A acost 8 H (fun j => f (66 + 7 * j)) → lv_has ls xM20.2.2.1 [(0, .ref this), (1, .int k), (2, .int x), (3, .int y), (4, .int h), (5, .int g)] → (z_L D Y this H (z_up5 f (f 1).toInt.toNat k x y h g)) → (z_fr D Y0 s.heap H this) → W p l e (x_rm xM20) s m av.toArray below meth c H locs 1 5 (y_QQ below D x_G x_Zs U xM20 z_Pat av Y0 s) (F0 m 269 ls []) := by
  have X := B.1
  have hx := X.1
  have hb := X.2.1
  have hY0 := B.2.2.2.2.1
  intro H Y locs ls   hI hY_this hY_astones hY_adone hY_acost hs_astones hs_adone hs_acost hsi_things hA_adone hA_acost hl hL hF
  refine lv_aload_n hx hb aT_d269 rfl (lv_at hl 0 rfl) ?_
  refine y_getf X (fl40 X.2.2.2.2.1) hI.1 hY_this rfl hs_adone aT_d270 ?_
  refine lv_aload_n hx hb aT_d273 rfl (lv_at hl 0 rfl) ?_
  refine y_getf X (fl42 X.2.2.2.2.1) hI.1 hY_this rfl hsi_things aT_d274 ?_
  refine lv_iconst hx hb aT_d277 (v := 0) (by decide) ?_
  have ec0 : (0 : Int32).toInt = 0 := by decide
  have hs_old := hs_adone
  have hA_old := hA_adone
  refine y_iast X hY0 hI hY_adone rfl hA_adone (by omega) (by show _ < (8 : Int); omega) ⟨_, rfl, x_i32 _⟩ (by decide +kernel) aT_d278 fun H locs hI h_new ho => ?_
  replace hA_adone := h_new
  generalize hf_f278 : y_up (fun j => f (65 + 7 * j)) (f 1).toInt.toNat (0 : Int32) = f278 at hA_adone
  replace hs_astones := y_slk hs_astones (ho _ (y_ne hY_this hY_adone rfl))
  replace hs_adone := y_slk hs_adone (ho _ (y_ne hY_this hY_adone rfl))
  replace hs_acost := y_slk hs_acost (ho _ (y_ne hY_this hY_adone rfl))
  replace hsi_things := y_slk hsi_things (ho _ (y_ne hY_this hY_adone rfl))
  replace hA_acost := hA_acost.kept (ho _ (y_ne hY_acost hY_adone rfl))
  replace hL := hL.putA (c := (8, 25, 8, 65, 7)) (N := 8) hY_this (by decide) rfl (by omega) hs_old hA_old h_new ho
  replace hF := fun b u g9 (hb : Y0 b = some u) (hg9 : x_G[u]? = some g9) (hn : b ≠ this) (hk9 : ∀ k, k < 16 → x_sl D 2 k this s.heap ≠ some (.ref b)) => x_eq.trans (x_eq.of (ho b (fun e0 => hk9 8 (by decide) (by rw [e0]; exact hs0_adone)))) (hF b u g9 hb hg9 hn hk9)
  refine lv_aload_n hx hb aT_d279 rfl (lv_at hl 0 rfl) ?_
  refine y_getf X (fl41 X.2.2.2.2.1) hI.1 hY_this rfl hs_acost aT_d280 ?_
  refine lv_aload_n hx hb aT_d283 rfl (lv_at hl 0 rfl) ?_
  refine y_getf X (fl42 X.2.2.2.2.1) hI.1 hY_this rfl hsi_things aT_d284 ?_
  refine lv_iconst hx hb aT_d287 (v := 1) (by decide) ?_
  have ec1 : (1 : Int32).toInt = 1 := by decide
  have hs_old := hs_acost
  have hA_old := hA_acost
  refine y_iast X hY0 hI hY_acost rfl hA_acost (by omega) (by show _ < (8 : Int); omega) ⟨_, rfl, x_i32 _⟩ (by decide +kernel) aT_d288 fun H locs hI h_new ho => ?_
  replace hA_acost := h_new
  generalize hf_f288 : y_up (fun j => f (66 + 7 * j)) (f 1).toInt.toNat (1 : Int32) = f288 at hA_acost
  replace hs_astones := y_slk hs_astones (ho _ (y_ne hY_this hY_acost rfl))
  replace hs_adone := y_slk hs_adone (ho _ (y_ne hY_this hY_acost rfl))
  replace hs_acost := y_slk hs_acost (ho _ (y_ne hY_this hY_acost rfl))
  replace hsi_things := y_slk hsi_things (ho _ (y_ne hY_this hY_acost rfl))
  replace hA_adone := hA_adone.kept (ho _ (y_ne hY_adone hY_acost rfl))
  replace hL := hL.putA (c := (9, 26, 8, 66, 7)) (N := 8) hY_this (by decide) rfl (by omega) hs_old hA_old h_new ho
  replace hF := fun b u g9 (hb : Y0 b = some u) (hg9 : x_G[u]? = some g9) (hn : b ≠ this) (hk9 : ∀ k, k < 16 → x_sl D 2 k this s.heap ≠ some (.ref b)) => x_eq.trans (x_eq.of (ho b (fun e0 => hk9 9 (by decide) (by rw [e0]; exact hs0_acost)))) (hF b u g9 hb hg9 hn hk9)
  refine lv_aload_n hx hb aT_d289 rfl (lv_at hl 0 rfl) ?_
  refine lv_dup hx hb aT_d290 rfl ?_
  refine y_getf X (fl42 X.2.2.2.2.1) hI.1 hY_this rfl hsi_things aT_d291 ?_
  refine lv_iconst hx hb aT_d294 (v := 1) (by decide) ?_
  refine lv_iadd hx hb aT_d295 ?_
  generalize hg_z295 : (f 1) + (1 : Int32) = z295
  have h_z295 : z295.toInt = (f 1).toInt + 1 := by rw [← hg_z295]; have := y_add (x := (f 1)) (y := (1 : Int32)) (by rw [ec1]; omega) (by rw [ec1]; omega); rw [ec1] at this; exact this
  refine y_putf X (fw43 X.2.2.2.2.1) hY0 hI hY_this rfl rfl ⟨_, rfl, by show (0 : Int) ≤ _; omega, by show _ ≤ (8 : Int); omega⟩ (by decide +kernel) aT_d296 fun H sl hI ho hs hk => ?_
  replace hs_astones := hk _ _ (by decide +kernel) (by decide) hs_astones
  replace hs_adone := hk _ _ (by decide +kernel) (by decide) hs_adone
  replace hs_acost := hk _ _ (by decide +kernel) (by decide) hs_acost
  replace hA_adone := hA_adone.kept (ho _ (y_ne hY_adone hY_this rfl))
  replace hA_acost := hA_acost.kept (ho _ (y_ne hY_acost hY_this rfl))
  replace hL := hL.puti (k := 6) (p := 1) hY_this (by decide) hs (fun i hi hn => hk i _ hi hn rfl) ho
  replace hF := fun b u g9 (hb : Y0 b = some u) (hg9 : x_G[u]? = some g9) (hn : b ≠ this) (hk9 : ∀ k, k < 16 → x_sl D 2 k this s.heap ≠ some (.ref b)) => x_eq.trans (x_eq.of (ho b hn)) (hF b u g9 hb hg9 hn hk9)
  replace hs := hs
  replace hsi_things := hs
  refine lv_aload_n hx hb aT_d299 rfl (lv_at hl 0 rfl) ?_
  refine y_getf X (fl42 X.2.2.2.2.1) hI.1 hY_this rfl hsi_things aT_d300 ?_
  refine lv_iconst hx hb aT_d303 (v := 1) (by decide) ?_
  refine lv_isub hx hb aT_d304 ?_
  generalize hg_z304 : z295 - (1 : Int32) = z304
  have h_z304 : z304.toInt = z295.toInt - 1 := by rw [← hg_z304]; have := y_sub (x := z295) (y := (1 : Int32)) (by rw [ec1]; omega) (by rw [ec1]; omega); rw [ec1] at this; exact this
  have h_r : z304 = f 1 := Int32.toInt_inj.mp (by omega)
  rw [← hg_z295] at hL
  subst hav
  exact y_ireturn B hI rfl rfl rfl List.mem_cons_self ⟨_, rfl, ⟨_, rfl, by show (-4 : Int) ≤ _; omega, by show _ ≤ (7 : Int); omega⟩⟩ (x_cs.mono B.2.2.2.2.2 (y_mon B hI)) (fun t' k' x' y' h' g' f' h1 h2 => by cases h1; cases h2.uniq hL0; exact ⟨hF, _, _, rfl, hL, fun q9 => absurd hok q9, fun _ q9 => absurd q9 (by omega), fun _ _ => ⟨h_r, rfl⟩⟩) (by exact Nat.le_of_ble_eq_true rfl) (by exact Nat.le_of_ble_eq_true rfl) aT_d305
theorem ym_addThing : y_Met vwCl x_G x_Zs x_Tb x_Nb xM20 z_AL z_Pat := by
  refine y_main (by decide +kernel) (by decide +kernel) x_Tb_good x_Nb_ok ?_
  intro p l e s m below meth c D U Y0 av ls B hI hAL hl
  have X := B.1
  have hx := X.1
  have hb := X.2.1
  have hY0 := B.2.2.2.2.1
  have hts := X.2.2.2.2.1
  obtain ⟨v0, v1, v2, v3, v4, v5, rfl, hv0, ⟨k, rfl, -⟩, ⟨x, rfl, -⟩, ⟨y, rfl, -⟩, ⟨h, rfl, -⟩, ⟨g, rfl, -⟩⟩ := y_six9 B.2.2.2.2.2
  obtain ⟨this, t0, rfl, ht0, hY_this⟩ := x_ref_at hv0 rfl
  obtain rfl := List.mem_singleton.mp ht0
  replace hl : lv_has ls xM20.2.2.1 [(0, .ref this), (1, .int k), (2, .int x), (3, .int y), (4, .int h), (5, .int g)] := hl
  obtain ⟨f, hL⟩ := hAL _ rfl
  have hL0 := hL
  have hhi := hL.1.1
  obtain ⟨adone, hs_adone, hY_adone, hA_adone⟩ := hL.2.1 (8, 25, 8, 65, 7) (by decide)
  replace hA_adone : y_A adone 8 s.heap (fun j => f (65 + 7 * j)) := hA_adone
  have hs0_adone := hs_adone
  obtain ⟨acost, hs_acost, hY_acost, hA_acost⟩ := hL.2.1 (9, 26, 8, 66, 7) (by decide)
  replace hA_acost : y_A acost 8 s.heap (fun j => f (66 + 7 * j)) := hA_acost
  have hs0_acost := hs_acost
  obtain ⟨astones, hs_astones, hY_astones, -⟩ := hL.2.2.1
  have hs0_astones := hs_astones
  have hsi_things := hL.1.2.1
  have hYt0 := hY_this
  have hK : ∀ b u g9, Y0 b = some u → x_G[u]? = some g9 → x_eq D g9 b s.heap s.heap := fun _ _ _ _ _ => x_eq.of rfl
  have hd8 : 0 ≤ (f 1).toInt ∧ (f 1).toInt ≤ 8 := by
    obtain ⟨x9, e9, b9⟩ := y_fldI (k := 6) hI.1 hY_this rfl rfl
    rw [hsi_things] at e9
    cases e9
    exact b9
  refine lv_iload_n hx hb aT_d0 rfl (lv_at hl 1 rfl) ?_
  have ec0 : (0 : Int32).toInt = 0 := by decide
  refine lv_if_eq hx hb aT_d1 (tgt := 13) (by decide) (fun q1 => ?_) (fun q1 => ?_)
  · have q1_ : k.toInt = (0 : Int32).toInt := by rw [q1]
    refine lv_iconst hx hb aT_d13 (v := 0) (by decide) ?_
    refine lv_istore hx hb aT_d14 hl (by decide) (lv' := [(6, .int (0 : Int32)), (0, .ref this), (1, .int k), (2, .int x), (3, .int y), (4, .int h), (5, .int g)]) rfl fun ls hl => ?_
    refine lv_iload_n hx hb aT_d16 rfl (lv_at hl 2 rfl) ?_
    refine lv_iconst hx hb aT_d17 (v := 0) (by decide) ?_
    refine lv_iconst hx hb aT_d18 (v := 5) (by decide) ?_
    have ec5 : (5 : Int32).toInt = 5 := by decide
    refine y_call (z := (1, 83, 3, none, xM10)) (av := [.int k, .int (0 : Int32), .int (5 : Int32)]) (rest := []) (y_cokSN (n := 3) (host := "TwinFires") X ym_within (x_cons (x_bw19 1 rfl rfl) (x_cons (x_bw0 1 rfl rfl) x_nilm)) (x_bn19 0 rfl rfl) (x_bw19 2 rfl rfl) (by decide +kernel) ⟨Nat.le_of_ble_eq_true rfl, Nat.le_of_ble_eq_true rfl⟩) hY0 hI rfl aT_d19 hl.1 (Nat.le_of_ble_eq_true rfl) (Nat.le_of_ble_eq_true rfl) (Nat.le_of_ble_eq_true rfl) (y_cons ⟨_, rfl, x_i32 _⟩ (y_cons ⟨_, rfl, x_i32 _⟩ (y_cons ⟨_, rfl, x_i32 _⟩ y_nil))) rfl (y_norecv rfl) trivial (y_sub_ef rfl) fun v Yn o Hn L ho hr ha hIn hx_ hE hP => ?_
    replace hs_astones := y_Efld hE hY_this rfl (by decide) (by decide) hs_astones
    replace hs_adone := y_Efld hE hY_this rfl (by decide) (by decide) hs_adone
    replace hs_acost := y_Efld hE hY_this rfl (by decide) (by decide) hs_acost
    replace hsi_things := y_Efld hE hY_this rfl (by decide) (by decide) hsi_things
    replace hA_adone := hA_adone.kept (y_Earr hE hY_adone rfl (by decide))
    replace hA_acost := hA_acost.kept (y_Earr hE hY_acost rfl (by decide))
    replace hK := fun b u g9 (hb : Y0 b = some u) (hg9 : x_G[u]? = some g9) => x_eq.trans (x_eq.E hE (y_mon B hI _ _ hb) hg9 rfl) (hK b u g9 hb hg9)
    replace hY_this := y_ext hx_ hI.1 hY_this
    replace hY_astones := y_ext hx_ hI.1 hY_astones
    replace hY_adone := y_ext hx_ hI.1 hY_adone
    replace hY_acost := y_ext hx_ hI.1 hY_acost
    obtain ⟨r19, rfl, hin_r19, hout_r19⟩ := hP _ _ _ rfl
    clear ho hr ha hE hP hI hx_
    rename x_I _ _ _ _ _ _ _ _ _ _ => hI
    refine lv_if_eq hx hb aT_d22 (tgt := 64) (by decide) (fun q22 => ?_) (fun q22 => ?_)
    · have q22_ : r19.toInt = (0 : Int32).toInt := by rw [q22]
      have hno : ¬ m_tOk k x y h g := fun q9 => by obtain ⟨a1, a2, a3, a4, a5, a6⟩ := q9; first | (have := hout_r19 (by assumption); omega) | (exact hout_r27 (by assumption) ⟨a2, a3⟩) | (have := hout_r38 (by assumption); omega) | (have := hout_r58 (by assumption); omega)
      refine lv_bipush hx hb aT_d64 (v := (-2)) (by decide) ?_
      have ecm2 : ((-2) : Int32).toInt = (-2) := by decide
      have hL : z_L D _ this _ f := hL0.xeq hYt0 (y_mon B hI) hK
      have hF : z_fr D Y0 s.heap _ this := fun b u g9 hb hg9 _ _ => hK b u g9 hb hg9
      exact y_ireturn B hI rfl rfl rfl List.mem_cons_self ⟨_, rfl, ⟨_, rfl, by decide, by decide⟩⟩ (x_cs.mono B.2.2.2.2.2 (y_mon B hI)) (fun t' k' x' y' h' g' f' h1 h2 => by cases h1; cases h2.uniq hL0; exact ⟨hF, _, _, rfl, hL, fun _ => ⟨rfl, rfl⟩, fun q9 => absurd q9 hno, fun q9 => absurd q9 hno⟩) (by exact Nat.le_of_ble_eq_true rfl) (by exact Nat.le_of_ble_eq_true rfl) aT_d66
    · have q22_ : ¬ r19.toInt = (0 : Int32).toInt := fun q => q22 (Int32.toInt_inj.mp q)
      refine lv_iload_n hx hb aT_d25 rfl (lv_at hl 3 rfl) ?_
      refine lv_iload_n hx hb aT_d26 rfl (lv_at hl 4 rfl) ?_
      refine y_call (z := (1, 79, 2, none, xM2)) (av := [.int x, .int y]) (rest := []) (y_cokS (n := 2) X ym_isPlace (x_cons (x_bw18 13 rfl rfl) (x_cons (x_bw18 14 rfl rfl) (x_cons (x_bw0 2 rfl rfl) x_nilm))) (x_bw18 15 rfl rfl) (by decide +kernel) ⟨Nat.le_of_ble_eq_true rfl, Nat.le_of_ble_eq_true rfl⟩) hY0 hI rfl aT_d27 hl.1 (Nat.le_of_ble_eq_true rfl) (Nat.le_of_ble_eq_true rfl) (Nat.le_of_ble_eq_true rfl) (y_cons ⟨_, rfl, x_i32 _⟩ (y_cons ⟨_, rfl, x_i32 _⟩ y_nil)) rfl (y_norecv rfl) trivial (y_sub_ef rfl) fun v Yn o Hn L ho hr ha hIn hx_ hE hP => ?_
      replace hs_astones := y_Efld hE hY_this rfl (by decide) (by decide) hs_astones
      replace hs_adone := y_Efld hE hY_this rfl (by decide) (by decide) hs_adone
      replace hs_acost := y_Efld hE hY_this rfl (by decide) (by decide) hs_acost
      replace hsi_things := y_Efld hE hY_this rfl (by decide) (by decide) hsi_things
      replace hA_adone := hA_adone.kept (y_Earr hE hY_adone rfl (by decide))
      replace hA_acost := hA_acost.kept (y_Earr hE hY_acost rfl (by decide))
      replace hK := fun b u g9 (hb : Y0 b = some u) (hg9 : x_G[u]? = some g9) => x_eq.trans (x_eq.E hE (y_mon B hI _ _ hb) hg9 rfl) (hK b u g9 hb hg9)
      replace hY_this := y_ext hx_ hI.1 hY_this
      replace hY_astones := y_ext hx_ hI.1 hY_astones
      replace hY_adone := y_ext hx_ hI.1 hY_adone
      replace hY_acost := y_ext hx_ hI.1 hY_acost
      obtain ⟨r27, rfl, hin_r27, hout_r27⟩ := hP _ _ rfl
      clear ho hr ha hE hP hI hx_
      rename x_I _ _ _ _ _ _ _ _ _ _ => hI
      refine lv_if_eq hx hb aT_d30 (tgt := 64) (by decide) (fun q30 => ?_) (fun q30 => ?_)
      · have q30_ : r27.toInt = (0 : Int32).toInt := by rw [q30]
        have hno : ¬ m_tOk k x y h g := fun q9 => by obtain ⟨a1, a2, a3, a4, a5, a6⟩ := q9; first | (have := hout_r19 (by assumption); omega) | (exact hout_r27 (by assumption) ⟨a2, a3⟩) | (have := hout_r38 (by assumption); omega) | (have := hout_r58 (by assumption); omega)
        refine lv_bipush hx hb aT_d64 (v := (-2)) (by decide) ?_
        have ecm2 : ((-2) : Int32).toInt = (-2) := by decide
        have hL : z_L D _ this _ f := hL0.xeq hYt0 (y_mon B hI) hK
        have hF : z_fr D Y0 s.heap _ this := fun b u g9 hb hg9 _ _ => hK b u g9 hb hg9
        exact y_ireturn B hI rfl rfl rfl List.mem_cons_self ⟨_, rfl, ⟨_, rfl, by decide, by decide⟩⟩ (x_cs.mono B.2.2.2.2.2 (y_mon B hI)) (fun t' k' x' y' h' g' f' h1 h2 => by cases h1; cases h2.uniq hL0; exact ⟨hF, _, _, rfl, hL, fun _ => ⟨rfl, rfl⟩, fun q9 => absurd q9 hno, fun q9 => absurd q9 hno⟩) (by exact Nat.le_of_ble_eq_true rfl) (by exact Nat.le_of_ble_eq_true rfl) aT_d66
      · have q30_ : ¬ r27.toInt = (0 : Int32).toInt := fun q => q30 (Int32.toInt_inj.mp q)
        refine lv_iload hx hb aT_d33 (lv_at hl 5 rfl) ?_
        refine lv_iconst hx hb aT_d35 (v := 0) (by decide) ?_
        refine lv_bipush hx hb aT_d36 (v := 99) (by decide) ?_
        have ec99 : (99 : Int32).toInt = 99 := by decide
        refine y_call (z := (1, 83, 3, none, xM10)) (av := [.int h, .int (0 : Int32), .int (99 : Int32)]) (rest := []) (y_cokSN (n := 3) (host := "TwinFires") X ym_within (x_cons (x_bw19 1 rfl rfl) (x_cons (x_bw0 1 rfl rfl) x_nilm)) (x_bn19 0 rfl rfl) (x_bw19 2 rfl rfl) (by decide +kernel) ⟨Nat.le_of_ble_eq_true rfl, Nat.le_of_ble_eq_true rfl⟩) hY0 hI rfl aT_d38 hl.1 (Nat.le_of_ble_eq_true rfl) (Nat.le_of_ble_eq_true rfl) (Nat.le_of_ble_eq_true rfl) (y_cons ⟨_, rfl, x_i32 _⟩ (y_cons ⟨_, rfl, x_i32 _⟩ (y_cons ⟨_, rfl, x_i32 _⟩ y_nil))) rfl (y_norecv rfl) trivial (y_sub_ef rfl) fun v Yn o Hn L ho hr ha hIn hx_ hE hP => ?_
        replace hs_astones := y_Efld hE hY_this rfl (by decide) (by decide) hs_astones
        replace hs_adone := y_Efld hE hY_this rfl (by decide) (by decide) hs_adone
        replace hs_acost := y_Efld hE hY_this rfl (by decide) (by decide) hs_acost
        replace hsi_things := y_Efld hE hY_this rfl (by decide) (by decide) hsi_things
        replace hA_adone := hA_adone.kept (y_Earr hE hY_adone rfl (by decide))
        replace hA_acost := hA_acost.kept (y_Earr hE hY_acost rfl (by decide))
        replace hK := fun b u g9 (hb : Y0 b = some u) (hg9 : x_G[u]? = some g9) => x_eq.trans (x_eq.E hE (y_mon B hI _ _ hb) hg9 rfl) (hK b u g9 hb hg9)
        replace hY_this := y_ext hx_ hI.1 hY_this
        replace hY_astones := y_ext hx_ hI.1 hY_astones
        replace hY_adone := y_ext hx_ hI.1 hY_adone
        replace hY_acost := y_ext hx_ hI.1 hY_acost
        obtain ⟨r38, rfl, hin_r38, hout_r38⟩ := hP _ _ _ rfl
        clear ho hr ha hE hP hI hx_
        rename x_I _ _ _ _ _ _ _ _ _ _ => hI
        refine lv_if_eq hx hb aT_d41 (tgt := 64) (by decide) (fun q41 => ?_) (fun q41 => ?_)
        · have q41_ : r38.toInt = (0 : Int32).toInt := by rw [q41]
          have hno : ¬ m_tOk k x y h g := fun q9 => by obtain ⟨a1, a2, a3, a4, a5, a6⟩ := q9; first | (have := hout_r19 (by assumption); omega) | (exact hout_r27 (by assumption) ⟨a2, a3⟩) | (have := hout_r38 (by assumption); omega) | (have := hout_r58 (by assumption); omega)
          refine lv_bipush hx hb aT_d64 (v := (-2)) (by decide) ?_
          have ecm2 : ((-2) : Int32).toInt = (-2) := by decide
          have hL : z_L D _ this _ f := hL0.xeq hYt0 (y_mon B hI) hK
          have hF : z_fr D Y0 s.heap _ this := fun b u g9 hb hg9 _ _ => hK b u g9 hb hg9
          exact y_ireturn B hI rfl rfl rfl List.mem_cons_self ⟨_, rfl, ⟨_, rfl, by decide, by decide⟩⟩ (x_cs.mono B.2.2.2.2.2 (y_mon B hI)) (fun t' k' x' y' h' g' f' h1 h2 => by cases h1; cases h2.uniq hL0; exact ⟨hF, _, _, rfl, hL, fun _ => ⟨rfl, rfl⟩, fun q9 => absurd q9 hno, fun q9 => absurd q9 hno⟩) (by exact Nat.le_of_ble_eq_true rfl) (by exact Nat.le_of_ble_eq_true rfl) aT_d66
        · have q41_ : ¬ r38.toInt = (0 : Int32).toInt := fun q => q41 (Int32.toInt_inj.mp q)
          refine lv_iload hx hb aT_d44 (lv_at hl 6 rfl) ?_
          refine lv_iconst hx hb aT_d46 (v := 0) (by decide) ?_
          refine lv_iload hx hb aT_d47 (lv_at hl 0 rfl) ?_
          refine lv_if_eq hx hb aT_d49 (tgt := 57) (by decide) (fun q49 => ?_) (fun q49 => ?_)
          · have q49_ : (0 : Int32).toInt = (0 : Int32).toInt := by rw [q49]
            refine lv_iconst hx hb aT_d57 (v := 0) (by decide) ?_
            refine y_call (z := (1, 83, 3, none, xM10)) (av := [.int g, .int (0 : Int32), .int (0 : Int32)]) (rest := []) (y_cokSN (n := 3) (host := "TwinFires") X ym_within (x_cons (x_bw19 1 rfl rfl) (x_cons (x_bw0 1 rfl rfl) x_nilm)) (x_bn19 0 rfl rfl) (x_bw19 2 rfl rfl) (by decide +kernel) ⟨Nat.le_of_ble_eq_true rfl, Nat.le_of_ble_eq_true rfl⟩) hY0 hI rfl aT_d58 hl.1 (Nat.le_of_ble_eq_true rfl) (Nat.le_of_ble_eq_true rfl) (Nat.le_of_ble_eq_true rfl) (y_cons ⟨_, rfl, x_i32 _⟩ (y_cons ⟨_, rfl, x_i32 _⟩ (y_cons ⟨_, rfl, x_i32 _⟩ y_nil))) rfl (y_norecv rfl) trivial (y_sub_ef rfl) fun v Yn o Hn L ho hr ha hIn hx_ hE hP => ?_
            replace hs_astones := y_Efld hE hY_this rfl (by decide) (by decide) hs_astones
            replace hs_adone := y_Efld hE hY_this rfl (by decide) (by decide) hs_adone
            replace hs_acost := y_Efld hE hY_this rfl (by decide) (by decide) hs_acost
            replace hsi_things := y_Efld hE hY_this rfl (by decide) (by decide) hsi_things
            replace hA_adone := hA_adone.kept (y_Earr hE hY_adone rfl (by decide))
            replace hA_acost := hA_acost.kept (y_Earr hE hY_acost rfl (by decide))
            replace hK := fun b u g9 (hb : Y0 b = some u) (hg9 : x_G[u]? = some g9) => x_eq.trans (x_eq.E hE (y_mon B hI _ _ hb) hg9 rfl) (hK b u g9 hb hg9)
            replace hY_this := y_ext hx_ hI.1 hY_this
            replace hY_astones := y_ext hx_ hI.1 hY_astones
            replace hY_adone := y_ext hx_ hI.1 hY_adone
            replace hY_acost := y_ext hx_ hI.1 hY_acost
            obtain ⟨r58, rfl, hin_r58, hout_r58⟩ := hP _ _ _ rfl
            clear ho hr ha hE hP hI hx_
            rename x_I _ _ _ _ _ _ _ _ _ _ => hI
            refine lv_if_ne hx hb aT_d61 (tgt := 67) (by decide) (fun q61 => ?_) (fun q61 => ?_)
            · have q61_ : ¬ r58.toInt = (0 : Int32).toInt := fun q => q61 (Int32.toInt_inj.mp q)
              have hw1 := hin_r19 (by assumption)
              have hw2 := hin_r27 (by assumption)
              have hw3 := hin_r38 (by assumption)
              have hw4 := hin_r58 (by assumption)
              have hok : m_tOk k x y h g := ⟨by omega, hw2.1, hw2.2, by omega, by omega, fun q9 => by omega⟩
              refine lv_aload_n hx hb aT_d67 rfl (lv_at hl 1 rfl) ?_
              refine y_getf X (fl42 X.2.2.2.2.1) hI.1 hY_this rfl hsi_things aT_d68 ?_
              refine lv_bipush hx hb aT_d71 (v := 8) (by decide) ?_
              have ec8 : (8 : Int32).toInt = 8 := by decide
              refine lv_icmp_lt hx hb aT_d73 (tgt := 79) (by decide) (fun q73 => ?_) (fun q73 => ?_)
              · have q73_ : (f 1).toInt < (8 : Int32).toInt := x_lt32.mp q73
                have hd1 : 0 ≤ (f 1).toInt ∧ (f 1).toInt < 8 := by omega
                refine lv_iload_n hx hb aT_d79 rfl (lv_at hl 2 rfl) ?_
                have hk9 : 0 ≤ k.toInt ∧ k.toInt ≤ 5 := hok.1
                by_cases hlo : k.toInt < 1 ∨ 5 < k.toInt
                · refine lv_tableOut hx hb aT_d80 hlo (tgt := 246) (by decide) ?_
                  refine lv_aload_n hx hb aT_d246 rfl (lv_at hl 1 rfl) ?_
                  refine y_getf X (fl39 X.2.2.2.2.1) hI.1 hY_this rfl hs_astones aT_d247 ?_
                  refine lv_aload_n hx hb aT_d250 rfl (lv_at hl 1 rfl) ?_
                  refine y_getf X (fl42 X.2.2.2.2.1) hI.1 hY_this rfl hsi_things aT_d251 ?_
                  refine y_newo (tag := 11) X hY0 hI rfl ⟨6, _, RX6, TX6, tyX6, rfl, rfl, iX6, tyX6_ok, (hts _ (x_bw2 4 rfl rfl)), (hts _ (x_bw2 9 rfl rfl)), (hts _ (x_bw0 4 rfl rfl)), x_dfl (by decide +kernel)⟩ (Nat.le_of_ble_eq_true rfl) (Nat.le_of_ble_eq_true rfl) aT_d254 fun Yn H n254 hnw => ?_
                  obtain ⟨hIn, hmo, hY_n254, hfr_n254, hke⟩ := hnw
                  replace hs_astones := y_slk hs_astones (hke _ _ hY_this)
                  replace hs_adone := y_slk hs_adone (hke _ _ hY_this)
                  replace hs_acost := y_slk hs_acost (hke _ _ hY_this)
                  replace hsi_things := y_slk hsi_things (hke _ _ hY_this)
                  replace hA_adone := hA_adone.kept (hke _ _ hY_adone)
                  replace hA_acost := hA_acost.kept (hke _ _ hY_acost)
                  replace hK := fun b u g9 (hb : Y0 b = some u) (hg9 : x_G[u]? = some g9) => x_eq.trans (x_eq.of (hke _ _ (y_mon B hI _ _ hb))) (hK b u g9 hb hg9)
                  replace hY_this := hmo _ _ hY_this
                  replace hY_astones := hmo _ _ hY_astones
                  replace hY_adone := hmo _ _ hY_adone
                  replace hY_acost := hmo _ _ hY_acost
                  replace hI := hIn
                  clear hIn hmo hke
                  refine lv_dup hx hb aT_d257 rfl ?_
                  refine lv_iload_n hx hb aT_d258 rfl (lv_at hl 2 rfl) ?_
                  refine lv_iload_n hx hb aT_d259 rfl (lv_at hl 3 rfl) ?_
                  refine lv_iload_n hx hb aT_d260 rfl (lv_at hl 4 rfl) ?_
                  refine lv_iload hx hb aT_d261 (lv_at hl 5 rfl) ?_
                  refine lv_iload hx hb aT_d263 (lv_at hl 6 rfl) ?_
                  refine y_call (z := (2, 60, 6, none, xM13)) (av := [.ref n254, .int k, .int x, .int y, .int h, .int g]) (rest := [.ref n254, .int (f 1), .ref astones]) (y_cokI (n := 5) X ym_stone rfl (x_cons (x_bw2 10 rfl rfl) (x_cons (x_bw2 11 rfl rfl) (x_cons (x_bw0 4 rfl rfl) x_nilm))) (x_bw2 12 rfl rfl) rfl (fun Y av h => x_this h) (by decide +kernel) ⟨Nat.le_of_ble_eq_true rfl, Nat.le_of_ble_eq_true rfl⟩) hY0 hI rfl aT_d265 hl.1 (Nat.le_of_ble_eq_true rfl) (Nat.le_of_ble_eq_true rfl) (Nat.le_of_ble_eq_true rfl) (y_cons (y_cref hY_n254 rfl) (y_cons ⟨_, rfl, x_i32 _⟩ (y_cons ⟨_, rfl, x_i32 _⟩ (y_cons ⟨_, rfl, x_i32 _⟩ (y_cons ⟨_, rfl, x_i32 _⟩ (y_cons ⟨_, rfl, x_i32 _⟩ y_nil)))))) rfl (y_norecv rfl) trivial (y_sub_ef rfl) fun v Yn o Hn L ho hr ha hIn hx_ hE hP => ?_
                  have hPs := hP _ _ _ _ _ _ rfl
                  have hPf := hPs.1 (11, 6) (by decide) hY_n254
                  replace hs_astones := y_Efld hE hY_this rfl (by decide) (by decide) hs_astones
                  replace hs_adone := y_Efld hE hY_this rfl (by decide) (by decide) hs_adone
                  replace hs_acost := y_Efld hE hY_this rfl (by decide) (by decide) hs_acost
                  replace hsi_things := y_Efld hE hY_this rfl (by decide) (by decide) hsi_things
                  replace hA_adone := hA_adone.kept (y_Earr hE hY_adone rfl (by decide))
                  replace hA_acost := hA_acost.kept (y_Earr hE hY_acost rfl (by decide))
                  replace hK := fun b u g9 (hb : Y0 b = some u) (hg9 : x_G[u]? = some g9) => x_eq.trans (x_eq.of (hPs.2 b (fun e0 => absurd (hY0 _ _ hb) (by rw [e0]; exact Nat.not_lt.mpr hfr_n254)))) (hK b u g9 hb hg9)
                  replace hY_this := y_ext hx_ hI.1 hY_this
                  replace hY_astones := y_ext hx_ hI.1 hY_astones
                  replace hY_adone := y_ext hx_ hI.1 hY_adone
                  replace hY_acost := y_ext hx_ hI.1 hY_acost
                  replace hY_n254 := y_ext hx_ hI.1 hY_n254
                  obtain rfl := y_ansV rfl ho hr
                  obtain ⟨hst0, hst1, hst2, hst3, hst4⟩ := hPf
                  clear ho hr ha hE hP hI hx_
                  rename x_I _ _ _ _ _ _ _ _ _ _ => hI
                  have hLc := hL0.xeq hYt0 (y_mon B hI) hK
                  have hs9 := hs_astones
                  refine y_aast X hY0 hI hY_astones rfl hY_n254 rfl rfl (x_castSelf (X.2.2.2.2.2.1.1 6 _ rfl).2) (by omega) (by show _ < (8 : Int); omega) (y_crefA hY_n254 rfl) (by decide +kernel) aT_d268 fun H locs hI h_at h_ne ho => ?_
                  replace hs_astones := y_slk hs_astones (ho _ (y_ne hY_this hY_astones rfl))
                  replace hs_adone := y_slk hs_adone (ho _ (y_ne hY_this hY_astones rfl))
                  replace hs_acost := y_slk hs_acost (ho _ (y_ne hY_this hY_astones rfl))
                  replace hsi_things := y_slk hsi_things (ho _ (y_ne hY_this hY_astones rfl))
                  replace hst0 := y_slk hst0 (ho _ (y_ne hY_n254 hY_astones rfl))
                  replace hst1 := y_slk hst1 (ho _ (y_ne hY_n254 hY_astones rfl))
                  replace hst2 := y_slk hst2 (ho _ (y_ne hY_n254 hY_astones rfl))
                  replace hst3 := y_slk hst3 (ho _ (y_ne hY_n254 hY_astones rfl))
                  replace hst4 := y_slk hst4 (ho _ (y_ne hY_n254 hY_astones rfl))
                  replace hA_adone := hA_adone.kept (ho _ (y_ne hY_adone hY_astones rfl))
                  replace hA_acost := hA_acost.kept (ho _ (y_ne hY_acost hY_astones rfl))
                  have hL := hLc.putS hY_this (j := (f 1).toInt.toNat) (z := (11, 6)) (by omega) hs9 h_at h_ne ho (by decide) hY_n254 (by show ((11 : Nat) : Int) = 11 + k.toInt; omega) hst0 hst1 hst2 hst3 hst4
                  have hF : z_fr D Y0 s.heap _ this := fun b u g9 hb hg9 hn hk9 => x_eq.trans (x_eq.of (ho b (fun e0 => hk9 7 (by decide) (by rw [e0]; exact hs0_astones)))) (hK b u g9 hb hg9)
                  exact aT_L269 B rfl hL0 hs0_astones hs0_adone hs0_acost hd1 hok _ _ _ _ hI hY_this hY_astones hY_adone hY_acost hs_astones hs_adone hs_acost hsi_things hA_adone hA_acost (lv_sub hl [1, 2, 3, 4, 5, 6] rfl) (by first | assumption | omega) (by first | assumption | omega)
                rcases (show k.toInt = 1 ∨ k.toInt = 2 ∨ k.toInt = 3 ∨ k.toInt = 4 ∨ k.toInt = 5 by omega) with hq9 | hq9 | hq9 | hq9 | hq9
                · refine lv_tableIn hx hb aT_d80 (by omega) (by omega) (off := 36) (by rw [hq9]; rfl) (tgt := 116) (by decide) ?_
                  refine lv_aload_n hx hb aT_d116 rfl (lv_at hl 1 rfl) ?_
                  refine y_getf X (fl39 X.2.2.2.2.1) hI.1 hY_this rfl hs_astones aT_d117 ?_
                  refine lv_aload_n hx hb aT_d120 rfl (lv_at hl 1 rfl) ?_
                  refine y_getf X (fl42 X.2.2.2.2.1) hI.1 hY_this rfl hsi_things aT_d121 ?_
                  refine y_newo (tag := 12) X hY0 hI rfl ⟨10, _, RX10, TX10, tyX10, rfl, rfl, iX10, tyX10_ok, (hts _ (x_bw20 8 rfl rfl)), (hts _ (x_bw20 9 rfl rfl)), (hts _ (x_bw0 10 rfl rfl)), x_dfl (by decide +kernel)⟩ (Nat.le_of_ble_eq_true rfl) (Nat.le_of_ble_eq_true rfl) aT_d124 fun Yn H n124 hnw => ?_
                  obtain ⟨hIn, hmo, hY_n124, hfr_n124, hke⟩ := hnw
                  replace hs_astones := y_slk hs_astones (hke _ _ hY_this)
                  replace hs_adone := y_slk hs_adone (hke _ _ hY_this)
                  replace hs_acost := y_slk hs_acost (hke _ _ hY_this)
                  replace hsi_things := y_slk hsi_things (hke _ _ hY_this)
                  replace hA_adone := hA_adone.kept (hke _ _ hY_adone)
                  replace hA_acost := hA_acost.kept (hke _ _ hY_acost)
                  replace hK := fun b u g9 (hb : Y0 b = some u) (hg9 : x_G[u]? = some g9) => x_eq.trans (x_eq.of (hke _ _ (y_mon B hI _ _ hb))) (hK b u g9 hb hg9)
                  replace hY_this := hmo _ _ hY_this
                  replace hY_astones := hmo _ _ hY_astones
                  replace hY_adone := hmo _ _ hY_adone
                  replace hY_acost := hmo _ _ hY_acost
                  replace hI := hIn
                  clear hIn hmo hke
                  refine lv_dup hx hb aT_d127 rfl ?_
                  refine lv_iload_n hx hb aT_d128 rfl (lv_at hl 2 rfl) ?_
                  refine lv_iload_n hx hb aT_d129 rfl (lv_at hl 3 rfl) ?_
                  refine lv_iload_n hx hb aT_d130 rfl (lv_at hl 4 rfl) ?_
                  refine lv_iload hx hb aT_d131 (lv_at hl 5 rfl) ?_
                  refine lv_iload hx hb aT_d133 (lv_at hl 6 rfl) ?_
                  refine y_call (z := (2, 92, 6, none, xM14)) (av := [.ref n124, .int k, .int x, .int y, .int h, .int g]) (rest := [.ref n124, .int (f 1), .ref astones]) (y_cokI (n := 5) X ym_wood rfl (x_cons (x_bw20 10 rfl rfl) (x_cons (x_bw20 11 rfl rfl) (x_cons (x_bw0 10 rfl rfl) x_nilm))) (x_bw20 12 rfl rfl) rfl (fun Y av h => x_this h) (by decide +kernel) ⟨Nat.le_of_ble_eq_true rfl, Nat.le_of_ble_eq_true rfl⟩) hY0 hI rfl aT_d135 hl.1 (Nat.le_of_ble_eq_true rfl) (Nat.le_of_ble_eq_true rfl) (Nat.le_of_ble_eq_true rfl) (y_cons (y_cref hY_n124 rfl) (y_cons ⟨_, rfl, x_i32 _⟩ (y_cons ⟨_, rfl, x_i32 _⟩ (y_cons ⟨_, rfl, x_i32 _⟩ (y_cons ⟨_, rfl, x_i32 _⟩ (y_cons ⟨_, rfl, x_i32 _⟩ y_nil)))))) rfl (y_norecv rfl) trivial (y_sub_ef rfl) fun v Yn o Hn L ho hr ha hIn hx_ hE hP => ?_
                  have hPs := hP _ _ _ _ _ _ rfl
                  have hPf := hPs.1 (12, 10) (by decide) hY_n124
                  replace hs_astones := y_Efld hE hY_this rfl (by decide) (by decide) hs_astones
                  replace hs_adone := y_Efld hE hY_this rfl (by decide) (by decide) hs_adone
                  replace hs_acost := y_Efld hE hY_this rfl (by decide) (by decide) hs_acost
                  replace hsi_things := y_Efld hE hY_this rfl (by decide) (by decide) hsi_things
                  replace hA_adone := hA_adone.kept (y_Earr hE hY_adone rfl (by decide))
                  replace hA_acost := hA_acost.kept (y_Earr hE hY_acost rfl (by decide))
                  replace hK := fun b u g9 (hb : Y0 b = some u) (hg9 : x_G[u]? = some g9) => x_eq.trans (x_eq.of (hPs.2 b (fun e0 => absurd (hY0 _ _ hb) (by rw [e0]; exact Nat.not_lt.mpr hfr_n124)))) (hK b u g9 hb hg9)
                  replace hY_this := y_ext hx_ hI.1 hY_this
                  replace hY_astones := y_ext hx_ hI.1 hY_astones
                  replace hY_adone := y_ext hx_ hI.1 hY_adone
                  replace hY_acost := y_ext hx_ hI.1 hY_acost
                  replace hY_n124 := y_ext hx_ hI.1 hY_n124
                  obtain rfl := y_ansV rfl ho hr
                  obtain ⟨hst0, hst1, hst2, hst3, hst4⟩ := hPf
                  clear ho hr ha hE hP hI hx_
                  rename x_I _ _ _ _ _ _ _ _ _ _ => hI
                  have hLc := hL0.xeq hYt0 (y_mon B hI) hK
                  have hs9 := hs_astones
                  refine y_aast X hY0 hI hY_astones rfl hY_n124 rfl rfl (X.2.2.2.2.2.2.2.2.1 _ (x_bn89 3 rfl rfl)) (by omega) (by show _ < (8 : Int); omega) (y_crefA hY_n124 rfl) (by decide +kernel) aT_d138 fun H locs hI h_at h_ne ho => ?_
                  replace hs_astones := y_slk hs_astones (ho _ (y_ne hY_this hY_astones rfl))
                  replace hs_adone := y_slk hs_adone (ho _ (y_ne hY_this hY_astones rfl))
                  replace hs_acost := y_slk hs_acost (ho _ (y_ne hY_this hY_astones rfl))
                  replace hsi_things := y_slk hsi_things (ho _ (y_ne hY_this hY_astones rfl))
                  replace hst0 := y_slk hst0 (ho _ (y_ne hY_n124 hY_astones rfl))
                  replace hst1 := y_slk hst1 (ho _ (y_ne hY_n124 hY_astones rfl))
                  replace hst2 := y_slk hst2 (ho _ (y_ne hY_n124 hY_astones rfl))
                  replace hst3 := y_slk hst3 (ho _ (y_ne hY_n124 hY_astones rfl))
                  replace hst4 := y_slk hst4 (ho _ (y_ne hY_n124 hY_astones rfl))
                  replace hA_adone := hA_adone.kept (ho _ (y_ne hY_adone hY_astones rfl))
                  replace hA_acost := hA_acost.kept (ho _ (y_ne hY_acost hY_astones rfl))
                  refine lv_goto hx hb aT_d139 (tgt := 269) (by decide) ?_
                  have hL := hLc.putS hY_this (j := (f 1).toInt.toNat) (z := (12, 10)) (by omega) hs9 h_at h_ne ho (by decide) hY_n124 (by show ((12 : Nat) : Int) = 11 + k.toInt; omega) hst0 hst1 hst2 hst3 hst4
                  have hF : z_fr D Y0 s.heap _ this := fun b u g9 hb hg9 hn hk9 => x_eq.trans (x_eq.of (ho b (fun e0 => hk9 7 (by decide) (by rw [e0]; exact hs0_astones)))) (hK b u g9 hb hg9)
                  exact aT_L269 B rfl hL0 hs0_astones hs0_adone hs0_acost hd1 hok _ _ _ _ hI hY_this hY_astones hY_adone hY_acost hs_astones hs_adone hs_acost hsi_things hA_adone hA_acost (lv_sub hl [1, 2, 3, 4, 5, 6] rfl) (by first | assumption | omega) (by first | assumption | omega)
                · refine lv_tableIn hx hb aT_d80 (by omega) (by omega) (off := 62) (by rw [hq9]; rfl) (tgt := 142) (by decide) ?_
                  refine lv_aload_n hx hb aT_d142 rfl (lv_at hl 1 rfl) ?_
                  refine y_getf X (fl39 X.2.2.2.2.1) hI.1 hY_this rfl hs_astones aT_d143 ?_
                  refine lv_aload_n hx hb aT_d146 rfl (lv_at hl 1 rfl) ?_
                  refine y_getf X (fl42 X.2.2.2.2.1) hI.1 hY_this rfl hsi_things aT_d147 ?_
                  refine y_newo (tag := 13) X hY0 hI rfl ⟨4, _, RX4, TX4, tyX4, rfl, rfl, iX4, tyX4_ok, (hts _ (x_bw21 4 rfl rfl)), (hts _ (x_bw21 5 rfl rfl)), (hts _ (x_bw0 11 rfl rfl)), x_dfl (by decide +kernel)⟩ (Nat.le_of_ble_eq_true rfl) (Nat.le_of_ble_eq_true rfl) aT_d150 fun Yn H n150 hnw => ?_
                  obtain ⟨hIn, hmo, hY_n150, hfr_n150, hke⟩ := hnw
                  replace hs_astones := y_slk hs_astones (hke _ _ hY_this)
                  replace hs_adone := y_slk hs_adone (hke _ _ hY_this)
                  replace hs_acost := y_slk hs_acost (hke _ _ hY_this)
                  replace hsi_things := y_slk hsi_things (hke _ _ hY_this)
                  replace hA_adone := hA_adone.kept (hke _ _ hY_adone)
                  replace hA_acost := hA_acost.kept (hke _ _ hY_acost)
                  replace hK := fun b u g9 (hb : Y0 b = some u) (hg9 : x_G[u]? = some g9) => x_eq.trans (x_eq.of (hke _ _ (y_mon B hI _ _ hb))) (hK b u g9 hb hg9)
                  replace hY_this := hmo _ _ hY_this
                  replace hY_astones := hmo _ _ hY_astones
                  replace hY_adone := hmo _ _ hY_adone
                  replace hY_acost := hmo _ _ hY_acost
                  replace hI := hIn
                  clear hIn hmo hke
                  refine lv_dup hx hb aT_d153 rfl ?_
                  refine lv_iload_n hx hb aT_d154 rfl (lv_at hl 2 rfl) ?_
                  refine lv_iload_n hx hb aT_d155 rfl (lv_at hl 3 rfl) ?_
                  refine lv_iload_n hx hb aT_d156 rfl (lv_at hl 4 rfl) ?_
                  refine lv_iload hx hb aT_d157 (lv_at hl 5 rfl) ?_
                  refine lv_iload hx hb aT_d159 (lv_at hl 6 rfl) ?_
                  refine y_call (z := (2, 95, 6, none, xM15)) (av := [.ref n150, .int k, .int x, .int y, .int h, .int g]) (rest := [.ref n150, .int (f 1), .ref astones]) (y_cokI (n := 5) X ym_pine rfl (x_cons (x_bw21 6 rfl rfl) (x_cons (x_bw21 7 rfl rfl) (x_cons (x_bw0 11 rfl rfl) x_nilm))) (x_bw21 8 rfl rfl) rfl (fun Y av h => x_this h) (by decide +kernel) ⟨Nat.le_of_ble_eq_true rfl, Nat.le_of_ble_eq_true rfl⟩) hY0 hI rfl aT_d161 hl.1 (Nat.le_of_ble_eq_true rfl) (Nat.le_of_ble_eq_true rfl) (Nat.le_of_ble_eq_true rfl) (y_cons (y_cref hY_n150 rfl) (y_cons ⟨_, rfl, x_i32 _⟩ (y_cons ⟨_, rfl, x_i32 _⟩ (y_cons ⟨_, rfl, x_i32 _⟩ (y_cons ⟨_, rfl, x_i32 _⟩ (y_cons ⟨_, rfl, x_i32 _⟩ y_nil)))))) rfl (y_norecv rfl) trivial (y_sub_ef rfl) fun v Yn o Hn L ho hr ha hIn hx_ hE hP => ?_
                  have hPs := hP _ _ _ _ _ _ rfl
                  have hPf := hPs.1 (13, 4) (by decide) hY_n150
                  replace hs_astones := y_Efld hE hY_this rfl (by decide) (by decide) hs_astones
                  replace hs_adone := y_Efld hE hY_this rfl (by decide) (by decide) hs_adone
                  replace hs_acost := y_Efld hE hY_this rfl (by decide) (by decide) hs_acost
                  replace hsi_things := y_Efld hE hY_this rfl (by decide) (by decide) hsi_things
                  replace hA_adone := hA_adone.kept (y_Earr hE hY_adone rfl (by decide))
                  replace hA_acost := hA_acost.kept (y_Earr hE hY_acost rfl (by decide))
                  replace hK := fun b u g9 (hb : Y0 b = some u) (hg9 : x_G[u]? = some g9) => x_eq.trans (x_eq.of (hPs.2 b (fun e0 => absurd (hY0 _ _ hb) (by rw [e0]; exact Nat.not_lt.mpr hfr_n150)))) (hK b u g9 hb hg9)
                  replace hY_this := y_ext hx_ hI.1 hY_this
                  replace hY_astones := y_ext hx_ hI.1 hY_astones
                  replace hY_adone := y_ext hx_ hI.1 hY_adone
                  replace hY_acost := y_ext hx_ hI.1 hY_acost
                  replace hY_n150 := y_ext hx_ hI.1 hY_n150
                  obtain rfl := y_ansV rfl ho hr
                  obtain ⟨hst0, hst1, hst2, hst3, hst4⟩ := hPf
                  clear ho hr ha hE hP hI hx_
                  rename x_I _ _ _ _ _ _ _ _ _ _ => hI
                  have hLc := hL0.xeq hYt0 (y_mon B hI) hK
                  have hs9 := hs_astones
                  refine y_aast X hY0 hI hY_astones rfl hY_n150 rfl rfl (X.2.2.2.2.2.2.2.2.1 _ (x_bn89 4 rfl rfl)) (by omega) (by show _ < (8 : Int); omega) (y_crefA hY_n150 rfl) (by decide +kernel) aT_d164 fun H locs hI h_at h_ne ho => ?_
                  replace hs_astones := y_slk hs_astones (ho _ (y_ne hY_this hY_astones rfl))
                  replace hs_adone := y_slk hs_adone (ho _ (y_ne hY_this hY_astones rfl))
                  replace hs_acost := y_slk hs_acost (ho _ (y_ne hY_this hY_astones rfl))
                  replace hsi_things := y_slk hsi_things (ho _ (y_ne hY_this hY_astones rfl))
                  replace hst0 := y_slk hst0 (ho _ (y_ne hY_n150 hY_astones rfl))
                  replace hst1 := y_slk hst1 (ho _ (y_ne hY_n150 hY_astones rfl))
                  replace hst2 := y_slk hst2 (ho _ (y_ne hY_n150 hY_astones rfl))
                  replace hst3 := y_slk hst3 (ho _ (y_ne hY_n150 hY_astones rfl))
                  replace hst4 := y_slk hst4 (ho _ (y_ne hY_n150 hY_astones rfl))
                  replace hA_adone := hA_adone.kept (ho _ (y_ne hY_adone hY_astones rfl))
                  replace hA_acost := hA_acost.kept (ho _ (y_ne hY_acost hY_astones rfl))
                  refine lv_goto hx hb aT_d165 (tgt := 269) (by decide) ?_
                  have hL := hLc.putS hY_this (j := (f 1).toInt.toNat) (z := (13, 4)) (by omega) hs9 h_at h_ne ho (by decide) hY_n150 (by show ((13 : Nat) : Int) = 11 + k.toInt; omega) hst0 hst1 hst2 hst3 hst4
                  have hF : z_fr D Y0 s.heap _ this := fun b u g9 hb hg9 hn hk9 => x_eq.trans (x_eq.of (ho b (fun e0 => hk9 7 (by decide) (by rw [e0]; exact hs0_astones)))) (hK b u g9 hb hg9)
                  exact aT_L269 B rfl hL0 hs0_astones hs0_adone hs0_acost hd1 hok _ _ _ _ hI hY_this hY_astones hY_adone hY_acost hs_astones hs_adone hs_acost hsi_things hA_adone hA_acost (lv_sub hl [1, 2, 3, 4, 5, 6] rfl) (by first | assumption | omega) (by first | assumption | omega)
                · refine lv_tableIn hx hb aT_d80 (by omega) (by omega) (off := 88) (by rw [hq9]; rfl) (tgt := 168) (by decide) ?_
                  refine lv_aload_n hx hb aT_d168 rfl (lv_at hl 1 rfl) ?_
                  refine y_getf X (fl39 X.2.2.2.2.1) hI.1 hY_this rfl hs_astones aT_d169 ?_
                  refine lv_aload_n hx hb aT_d172 rfl (lv_at hl 1 rfl) ?_
                  refine y_getf X (fl42 X.2.2.2.2.1) hI.1 hY_this rfl hsi_things aT_d173 ?_
                  refine y_newo (tag := 14) X hY0 hI rfl ⟨1, _, RX1, TX1, tyX1, rfl, rfl, iX1, tyX1_ok, (hts _ (x_bw22 0 rfl rfl)), (hts _ (x_bw22 1 rfl rfl)), (hts _ (x_bw0 12 rfl rfl)), x_dfl (by decide +kernel)⟩ (Nat.le_of_ble_eq_true rfl) (Nat.le_of_ble_eq_true rfl) aT_d176 fun Yn H n176 hnw => ?_
                  obtain ⟨hIn, hmo, hY_n176, hfr_n176, hke⟩ := hnw
                  replace hs_astones := y_slk hs_astones (hke _ _ hY_this)
                  replace hs_adone := y_slk hs_adone (hke _ _ hY_this)
                  replace hs_acost := y_slk hs_acost (hke _ _ hY_this)
                  replace hsi_things := y_slk hsi_things (hke _ _ hY_this)
                  replace hA_adone := hA_adone.kept (hke _ _ hY_adone)
                  replace hA_acost := hA_acost.kept (hke _ _ hY_acost)
                  replace hK := fun b u g9 (hb : Y0 b = some u) (hg9 : x_G[u]? = some g9) => x_eq.trans (x_eq.of (hke _ _ (y_mon B hI _ _ hb))) (hK b u g9 hb hg9)
                  replace hY_this := hmo _ _ hY_this
                  replace hY_astones := hmo _ _ hY_astones
                  replace hY_adone := hmo _ _ hY_adone
                  replace hY_acost := hmo _ _ hY_acost
                  replace hI := hIn
                  clear hIn hmo hke
                  refine lv_dup hx hb aT_d179 rfl ?_
                  refine lv_iload_n hx hb aT_d180 rfl (lv_at hl 2 rfl) ?_
                  refine lv_iload_n hx hb aT_d181 rfl (lv_at hl 3 rfl) ?_
                  refine lv_iload_n hx hb aT_d182 rfl (lv_at hl 4 rfl) ?_
                  refine lv_iload hx hb aT_d183 (lv_at hl 5 rfl) ?_
                  refine lv_iload hx hb aT_d185 (lv_at hl 6 rfl) ?_
                  refine y_call (z := (2, 98, 6, none, xM16)) (av := [.ref n176, .int k, .int x, .int y, .int h, .int g]) (rest := [.ref n176, .int (f 1), .ref astones]) (y_cokI (n := 5) X ym_hedge rfl (x_cons (x_bw22 2 rfl rfl) (x_cons (x_bw22 3 rfl rfl) (x_cons (x_bw0 12 rfl rfl) x_nilm))) (x_bw22 4 rfl rfl) rfl (fun Y av h => x_this h) (by decide +kernel) ⟨Nat.le_of_ble_eq_true rfl, Nat.le_of_ble_eq_true rfl⟩) hY0 hI rfl aT_d187 hl.1 (Nat.le_of_ble_eq_true rfl) (Nat.le_of_ble_eq_true rfl) (Nat.le_of_ble_eq_true rfl) (y_cons (y_cref hY_n176 rfl) (y_cons ⟨_, rfl, x_i32 _⟩ (y_cons ⟨_, rfl, x_i32 _⟩ (y_cons ⟨_, rfl, x_i32 _⟩ (y_cons ⟨_, rfl, x_i32 _⟩ (y_cons ⟨_, rfl, x_i32 _⟩ y_nil)))))) rfl (y_norecv rfl) trivial (y_sub_ef rfl) fun v Yn o Hn L ho hr ha hIn hx_ hE hP => ?_
                  have hPs := hP _ _ _ _ _ _ rfl
                  have hPf := hPs.1 (14, 1) (by decide) hY_n176
                  replace hs_astones := y_Efld hE hY_this rfl (by decide) (by decide) hs_astones
                  replace hs_adone := y_Efld hE hY_this rfl (by decide) (by decide) hs_adone
                  replace hs_acost := y_Efld hE hY_this rfl (by decide) (by decide) hs_acost
                  replace hsi_things := y_Efld hE hY_this rfl (by decide) (by decide) hsi_things
                  replace hA_adone := hA_adone.kept (y_Earr hE hY_adone rfl (by decide))
                  replace hA_acost := hA_acost.kept (y_Earr hE hY_acost rfl (by decide))
                  replace hK := fun b u g9 (hb : Y0 b = some u) (hg9 : x_G[u]? = some g9) => x_eq.trans (x_eq.of (hPs.2 b (fun e0 => absurd (hY0 _ _ hb) (by rw [e0]; exact Nat.not_lt.mpr hfr_n176)))) (hK b u g9 hb hg9)
                  replace hY_this := y_ext hx_ hI.1 hY_this
                  replace hY_astones := y_ext hx_ hI.1 hY_astones
                  replace hY_adone := y_ext hx_ hI.1 hY_adone
                  replace hY_acost := y_ext hx_ hI.1 hY_acost
                  replace hY_n176 := y_ext hx_ hI.1 hY_n176
                  obtain rfl := y_ansV rfl ho hr
                  obtain ⟨hst0, hst1, hst2, hst3, hst4⟩ := hPf
                  clear ho hr ha hE hP hI hx_
                  rename x_I _ _ _ _ _ _ _ _ _ _ => hI
                  have hLc := hL0.xeq hYt0 (y_mon B hI) hK
                  have hs9 := hs_astones
                  refine y_aast X hY0 hI hY_astones rfl hY_n176 rfl rfl (X.2.2.2.2.2.2.2.2.1 _ (x_bn89 5 rfl rfl)) (by omega) (by show _ < (8 : Int); omega) (y_crefA hY_n176 rfl) (by decide +kernel) aT_d190 fun H locs hI h_at h_ne ho => ?_
                  replace hs_astones := y_slk hs_astones (ho _ (y_ne hY_this hY_astones rfl))
                  replace hs_adone := y_slk hs_adone (ho _ (y_ne hY_this hY_astones rfl))
                  replace hs_acost := y_slk hs_acost (ho _ (y_ne hY_this hY_astones rfl))
                  replace hsi_things := y_slk hsi_things (ho _ (y_ne hY_this hY_astones rfl))
                  replace hst0 := y_slk hst0 (ho _ (y_ne hY_n176 hY_astones rfl))
                  replace hst1 := y_slk hst1 (ho _ (y_ne hY_n176 hY_astones rfl))
                  replace hst2 := y_slk hst2 (ho _ (y_ne hY_n176 hY_astones rfl))
                  replace hst3 := y_slk hst3 (ho _ (y_ne hY_n176 hY_astones rfl))
                  replace hst4 := y_slk hst4 (ho _ (y_ne hY_n176 hY_astones rfl))
                  replace hA_adone := hA_adone.kept (ho _ (y_ne hY_adone hY_astones rfl))
                  replace hA_acost := hA_acost.kept (ho _ (y_ne hY_acost hY_astones rfl))
                  refine lv_goto hx hb aT_d191 (tgt := 269) (by decide) ?_
                  have hL := hLc.putS hY_this (j := (f 1).toInt.toNat) (z := (14, 1)) (by omega) hs9 h_at h_ne ho (by decide) hY_n176 (by show ((14 : Nat) : Int) = 11 + k.toInt; omega) hst0 hst1 hst2 hst3 hst4
                  have hF : z_fr D Y0 s.heap _ this := fun b u g9 hb hg9 hn hk9 => x_eq.trans (x_eq.of (ho b (fun e0 => hk9 7 (by decide) (by rw [e0]; exact hs0_astones)))) (hK b u g9 hb hg9)
                  exact aT_L269 B rfl hL0 hs0_astones hs0_adone hs0_acost hd1 hok _ _ _ _ hI hY_this hY_astones hY_adone hY_acost hs_astones hs_adone hs_acost hsi_things hA_adone hA_acost (lv_sub hl [1, 2, 3, 4, 5, 6] rfl) (by first | assumption | omega) (by first | assumption | omega)
                · refine lv_tableIn hx hb aT_d80 (by omega) (by omega) (off := 114) (by rw [hq9]; rfl) (tgt := 194) (by decide) ?_
                  refine lv_aload_n hx hb aT_d194 rfl (lv_at hl 1 rfl) ?_
                  refine y_getf X (fl39 X.2.2.2.2.1) hI.1 hY_this rfl hs_astones aT_d195 ?_
                  refine lv_aload_n hx hb aT_d198 rfl (lv_at hl 1 rfl) ?_
                  refine y_getf X (fl42 X.2.2.2.2.1) hI.1 hY_this rfl hsi_things aT_d199 ?_
                  refine y_newo (tag := 15) X hY0 hI rfl ⟨8, _, RX8, TX8, tyX8, rfl, rfl, iX8, tyX8_ok, (hts _ (x_bw22 12 rfl rfl)), (hts _ (x_bw22 13 rfl rfl)), (hts _ (x_bw0 13 rfl rfl)), x_dfl (by decide +kernel)⟩ (Nat.le_of_ble_eq_true rfl) (Nat.le_of_ble_eq_true rfl) aT_d202 fun Yn H n202 hnw => ?_
                  obtain ⟨hIn, hmo, hY_n202, hfr_n202, hke⟩ := hnw
                  replace hs_astones := y_slk hs_astones (hke _ _ hY_this)
                  replace hs_adone := y_slk hs_adone (hke _ _ hY_this)
                  replace hs_acost := y_slk hs_acost (hke _ _ hY_this)
                  replace hsi_things := y_slk hsi_things (hke _ _ hY_this)
                  replace hA_adone := hA_adone.kept (hke _ _ hY_adone)
                  replace hA_acost := hA_acost.kept (hke _ _ hY_acost)
                  replace hK := fun b u g9 (hb : Y0 b = some u) (hg9 : x_G[u]? = some g9) => x_eq.trans (x_eq.of (hke _ _ (y_mon B hI _ _ hb))) (hK b u g9 hb hg9)
                  replace hY_this := hmo _ _ hY_this
                  replace hY_astones := hmo _ _ hY_astones
                  replace hY_adone := hmo _ _ hY_adone
                  replace hY_acost := hmo _ _ hY_acost
                  replace hI := hIn
                  clear hIn hmo hke
                  refine lv_dup hx hb aT_d205 rfl ?_
                  refine lv_iload_n hx hb aT_d206 rfl (lv_at hl 2 rfl) ?_
                  refine lv_iload_n hx hb aT_d207 rfl (lv_at hl 3 rfl) ?_
                  refine lv_iload_n hx hb aT_d208 rfl (lv_at hl 4 rfl) ?_
                  refine lv_iload hx hb aT_d209 (lv_at hl 5 rfl) ?_
                  refine lv_iload hx hb aT_d211 (lv_at hl 6 rfl) ?_
                  refine y_call (z := (2, 101, 6, none, xM17)) (av := [.ref n202, .int k, .int x, .int y, .int h, .int g]) (rest := [.ref n202, .int (f 1), .ref astones]) (y_cokI (n := 5) X ym_topped rfl (x_cons (x_bw22 14 rfl rfl) (x_cons (x_bw22 15 rfl rfl) (x_cons (x_bw0 13 rfl rfl) x_nilm))) (x_bw23 0 rfl rfl) rfl (fun Y av h => x_this h) (by decide +kernel) ⟨Nat.le_of_ble_eq_true rfl, Nat.le_of_ble_eq_true rfl⟩) hY0 hI rfl aT_d213 hl.1 (Nat.le_of_ble_eq_true rfl) (Nat.le_of_ble_eq_true rfl) (Nat.le_of_ble_eq_true rfl) (y_cons (y_cref hY_n202 rfl) (y_cons ⟨_, rfl, x_i32 _⟩ (y_cons ⟨_, rfl, x_i32 _⟩ (y_cons ⟨_, rfl, x_i32 _⟩ (y_cons ⟨_, rfl, x_i32 _⟩ (y_cons ⟨_, rfl, x_i32 _⟩ y_nil)))))) rfl (y_norecv rfl) trivial (y_sub_ef rfl) fun v Yn o Hn L ho hr ha hIn hx_ hE hP => ?_
                  have hPs := hP _ _ _ _ _ _ rfl
                  have hPf := hPs.1 (15, 8) (by decide) hY_n202
                  replace hs_astones := y_Efld hE hY_this rfl (by decide) (by decide) hs_astones
                  replace hs_adone := y_Efld hE hY_this rfl (by decide) (by decide) hs_adone
                  replace hs_acost := y_Efld hE hY_this rfl (by decide) (by decide) hs_acost
                  replace hsi_things := y_Efld hE hY_this rfl (by decide) (by decide) hsi_things
                  replace hA_adone := hA_adone.kept (y_Earr hE hY_adone rfl (by decide))
                  replace hA_acost := hA_acost.kept (y_Earr hE hY_acost rfl (by decide))
                  replace hK := fun b u g9 (hb : Y0 b = some u) (hg9 : x_G[u]? = some g9) => x_eq.trans (x_eq.of (hPs.2 b (fun e0 => absurd (hY0 _ _ hb) (by rw [e0]; exact Nat.not_lt.mpr hfr_n202)))) (hK b u g9 hb hg9)
                  replace hY_this := y_ext hx_ hI.1 hY_this
                  replace hY_astones := y_ext hx_ hI.1 hY_astones
                  replace hY_adone := y_ext hx_ hI.1 hY_adone
                  replace hY_acost := y_ext hx_ hI.1 hY_acost
                  replace hY_n202 := y_ext hx_ hI.1 hY_n202
                  obtain rfl := y_ansV rfl ho hr
                  obtain ⟨hst0, hst1, hst2, hst3, hst4⟩ := hPf
                  clear ho hr ha hE hP hI hx_
                  rename x_I _ _ _ _ _ _ _ _ _ _ => hI
                  have hLc := hL0.xeq hYt0 (y_mon B hI) hK
                  have hs9 := hs_astones
                  refine y_aast X hY0 hI hY_astones rfl hY_n202 rfl rfl (X.2.2.2.2.2.2.2.2.1 _ (x_bn89 6 rfl rfl)) (by omega) (by show _ < (8 : Int); omega) (y_crefA hY_n202 rfl) (by decide +kernel) aT_d216 fun H locs hI h_at h_ne ho => ?_
                  replace hs_astones := y_slk hs_astones (ho _ (y_ne hY_this hY_astones rfl))
                  replace hs_adone := y_slk hs_adone (ho _ (y_ne hY_this hY_astones rfl))
                  replace hs_acost := y_slk hs_acost (ho _ (y_ne hY_this hY_astones rfl))
                  replace hsi_things := y_slk hsi_things (ho _ (y_ne hY_this hY_astones rfl))
                  replace hst0 := y_slk hst0 (ho _ (y_ne hY_n202 hY_astones rfl))
                  replace hst1 := y_slk hst1 (ho _ (y_ne hY_n202 hY_astones rfl))
                  replace hst2 := y_slk hst2 (ho _ (y_ne hY_n202 hY_astones rfl))
                  replace hst3 := y_slk hst3 (ho _ (y_ne hY_n202 hY_astones rfl))
                  replace hst4 := y_slk hst4 (ho _ (y_ne hY_n202 hY_astones rfl))
                  replace hA_adone := hA_adone.kept (ho _ (y_ne hY_adone hY_astones rfl))
                  replace hA_acost := hA_acost.kept (ho _ (y_ne hY_acost hY_astones rfl))
                  refine lv_goto hx hb aT_d217 (tgt := 269) (by decide) ?_
                  have hL := hLc.putS hY_this (j := (f 1).toInt.toNat) (z := (15, 8)) (by omega) hs9 h_at h_ne ho (by decide) hY_n202 (by show ((15 : Nat) : Int) = 11 + k.toInt; omega) hst0 hst1 hst2 hst3 hst4
                  have hF : z_fr D Y0 s.heap _ this := fun b u g9 hb hg9 hn hk9 => x_eq.trans (x_eq.of (ho b (fun e0 => hk9 7 (by decide) (by rw [e0]; exact hs0_astones)))) (hK b u g9 hb hg9)
                  exact aT_L269 B rfl hL0 hs0_astones hs0_adone hs0_acost hd1 hok _ _ _ _ hI hY_this hY_astones hY_adone hY_acost hs_astones hs_adone hs_acost hsi_things hA_adone hA_acost (lv_sub hl [1, 2, 3, 4, 5, 6] rfl) (by first | assumption | omega) (by first | assumption | omega)
                · refine lv_tableIn hx hb aT_d80 (by omega) (by omega) (off := 140) (by rw [hq9]; rfl) (tgt := 220) (by decide) ?_
                  refine lv_aload_n hx hb aT_d220 rfl (lv_at hl 1 rfl) ?_
                  refine y_getf X (fl39 X.2.2.2.2.1) hI.1 hY_this rfl hs_astones aT_d221 ?_
                  refine lv_aload_n hx hb aT_d224 rfl (lv_at hl 1 rfl) ?_
                  refine y_getf X (fl42 X.2.2.2.2.1) hI.1 hY_this rfl hsi_things aT_d225 ?_
                  refine y_newo (tag := 16) X hY0 hI rfl ⟨9, _, RX9, TX9, tyX9, rfl, rfl, iX9, tyX9_ok, (hts _ (x_bw23 8 rfl rfl)), (hts _ (x_bw23 9 rfl rfl)), (hts _ (x_bw0 14 rfl rfl)), x_dfl (by decide +kernel)⟩ (Nat.le_of_ble_eq_true rfl) (Nat.le_of_ble_eq_true rfl) aT_d228 fun Yn H n228 hnw => ?_
                  obtain ⟨hIn, hmo, hY_n228, hfr_n228, hke⟩ := hnw
                  replace hs_astones := y_slk hs_astones (hke _ _ hY_this)
                  replace hs_adone := y_slk hs_adone (hke _ _ hY_this)
                  replace hs_acost := y_slk hs_acost (hke _ _ hY_this)
                  replace hsi_things := y_slk hsi_things (hke _ _ hY_this)
                  replace hA_adone := hA_adone.kept (hke _ _ hY_adone)
                  replace hA_acost := hA_acost.kept (hke _ _ hY_acost)
                  replace hK := fun b u g9 (hb : Y0 b = some u) (hg9 : x_G[u]? = some g9) => x_eq.trans (x_eq.of (hke _ _ (y_mon B hI _ _ hb))) (hK b u g9 hb hg9)
                  replace hY_this := hmo _ _ hY_this
                  replace hY_astones := hmo _ _ hY_astones
                  replace hY_adone := hmo _ _ hY_adone
                  replace hY_acost := hmo _ _ hY_acost
                  replace hI := hIn
                  clear hIn hmo hke
                  refine lv_dup hx hb aT_d231 rfl ?_
                  refine lv_iload_n hx hb aT_d232 rfl (lv_at hl 2 rfl) ?_
                  refine lv_iload_n hx hb aT_d233 rfl (lv_at hl 3 rfl) ?_
                  refine lv_iload_n hx hb aT_d234 rfl (lv_at hl 4 rfl) ?_
                  refine lv_iload hx hb aT_d235 (lv_at hl 5 rfl) ?_
                  refine lv_iload hx hb aT_d237 (lv_at hl 6 rfl) ?_
                  refine y_call (z := (2, 104, 6, none, xM18)) (av := [.ref n228, .int k, .int x, .int y, .int h, .int g]) (rest := [.ref n228, .int (f 1), .ref astones]) (y_cokI (n := 5) X ym_wall rfl (x_cons (x_bw23 10 rfl rfl) (x_cons (x_bw23 11 rfl rfl) (x_cons (x_bw0 14 rfl rfl) x_nilm))) (x_bw23 12 rfl rfl) rfl (fun Y av h => x_this h) (by decide +kernel) ⟨Nat.le_of_ble_eq_true rfl, Nat.le_of_ble_eq_true rfl⟩) hY0 hI rfl aT_d239 hl.1 (Nat.le_of_ble_eq_true rfl) (Nat.le_of_ble_eq_true rfl) (Nat.le_of_ble_eq_true rfl) (y_cons (y_cref hY_n228 rfl) (y_cons ⟨_, rfl, x_i32 _⟩ (y_cons ⟨_, rfl, x_i32 _⟩ (y_cons ⟨_, rfl, x_i32 _⟩ (y_cons ⟨_, rfl, x_i32 _⟩ (y_cons ⟨_, rfl, x_i32 _⟩ y_nil)))))) rfl (y_norecv rfl) trivial (y_sub_ef rfl) fun v Yn o Hn L ho hr ha hIn hx_ hE hP => ?_
                  have hPs := hP _ _ _ _ _ _ rfl
                  have hPf := hPs.1 (16, 9) (by decide) hY_n228
                  replace hs_astones := y_Efld hE hY_this rfl (by decide) (by decide) hs_astones
                  replace hs_adone := y_Efld hE hY_this rfl (by decide) (by decide) hs_adone
                  replace hs_acost := y_Efld hE hY_this rfl (by decide) (by decide) hs_acost
                  replace hsi_things := y_Efld hE hY_this rfl (by decide) (by decide) hsi_things
                  replace hA_adone := hA_adone.kept (y_Earr hE hY_adone rfl (by decide))
                  replace hA_acost := hA_acost.kept (y_Earr hE hY_acost rfl (by decide))
                  replace hK := fun b u g9 (hb : Y0 b = some u) (hg9 : x_G[u]? = some g9) => x_eq.trans (x_eq.of (hPs.2 b (fun e0 => absurd (hY0 _ _ hb) (by rw [e0]; exact Nat.not_lt.mpr hfr_n228)))) (hK b u g9 hb hg9)
                  replace hY_this := y_ext hx_ hI.1 hY_this
                  replace hY_astones := y_ext hx_ hI.1 hY_astones
                  replace hY_adone := y_ext hx_ hI.1 hY_adone
                  replace hY_acost := y_ext hx_ hI.1 hY_acost
                  replace hY_n228 := y_ext hx_ hI.1 hY_n228
                  obtain rfl := y_ansV rfl ho hr
                  obtain ⟨hst0, hst1, hst2, hst3, hst4⟩ := hPf
                  clear ho hr ha hE hP hI hx_
                  rename x_I _ _ _ _ _ _ _ _ _ _ => hI
                  have hLc := hL0.xeq hYt0 (y_mon B hI) hK
                  have hs9 := hs_astones
                  refine y_aast X hY0 hI hY_astones rfl hY_n228 rfl rfl (X.2.2.2.2.2.2.2.2.1 _ (x_bn89 7 rfl rfl)) (by omega) (by show _ < (8 : Int); omega) (y_crefA hY_n228 rfl) (by decide +kernel) aT_d242 fun H locs hI h_at h_ne ho => ?_
                  replace hs_astones := y_slk hs_astones (ho _ (y_ne hY_this hY_astones rfl))
                  replace hs_adone := y_slk hs_adone (ho _ (y_ne hY_this hY_astones rfl))
                  replace hs_acost := y_slk hs_acost (ho _ (y_ne hY_this hY_astones rfl))
                  replace hsi_things := y_slk hsi_things (ho _ (y_ne hY_this hY_astones rfl))
                  replace hst0 := y_slk hst0 (ho _ (y_ne hY_n228 hY_astones rfl))
                  replace hst1 := y_slk hst1 (ho _ (y_ne hY_n228 hY_astones rfl))
                  replace hst2 := y_slk hst2 (ho _ (y_ne hY_n228 hY_astones rfl))
                  replace hst3 := y_slk hst3 (ho _ (y_ne hY_n228 hY_astones rfl))
                  replace hst4 := y_slk hst4 (ho _ (y_ne hY_n228 hY_astones rfl))
                  replace hA_adone := hA_adone.kept (ho _ (y_ne hY_adone hY_astones rfl))
                  replace hA_acost := hA_acost.kept (ho _ (y_ne hY_acost hY_astones rfl))
                  refine lv_goto hx hb aT_d243 (tgt := 269) (by decide) ?_
                  have hL := hLc.putS hY_this (j := (f 1).toInt.toNat) (z := (16, 9)) (by omega) hs9 h_at h_ne ho (by decide) hY_n228 (by show ((16 : Nat) : Int) = 11 + k.toInt; omega) hst0 hst1 hst2 hst3 hst4
                  have hF : z_fr D Y0 s.heap _ this := fun b u g9 hb hg9 hn hk9 => x_eq.trans (x_eq.of (ho b (fun e0 => hk9 7 (by decide) (by rw [e0]; exact hs0_astones)))) (hK b u g9 hb hg9)
                  exact aT_L269 B rfl hL0 hs0_astones hs0_adone hs0_acost hd1 hok _ _ _ _ hI hY_this hY_astones hY_adone hY_acost hs_astones hs_adone hs_acost hsi_things hA_adone hA_acost (lv_sub hl [1, 2, 3, 4, 5, 6] rfl) (by first | assumption | omega) (by first | assumption | omega)
              · have q73_ : (8 : Int32).toInt ≤ (f 1).toInt := Int.not_lt.mp fun q => q73 (x_lt32.mpr q)
                refine lv_bipush hx hb aT_d76 (v := (-4)) (by decide) ?_
                have ecm4 : ((-4) : Int32).toInt = (-4) := by decide
                have hL : z_L D _ this _ f := hL0.xeq hYt0 (y_mon B hI) hK
                have hF : z_fr D Y0 s.heap _ this := fun b u g9 hb hg9 _ _ => hK b u g9 hb hg9
                exact y_ireturn B hI rfl rfl rfl List.mem_cons_self ⟨_, rfl, ⟨_, rfl, by decide, by decide⟩⟩ (x_cs.mono B.2.2.2.2.2 (y_mon B hI)) (fun t' k' x' y' h' g' f' h1 h2 => by cases h1; cases h2.uniq hL0; exact ⟨hF, _, _, rfl, hL, fun q9 => absurd hok q9, fun _ _ => ⟨rfl, rfl⟩, fun _ q9 => absurd q9 (by omega)⟩) (by exact Nat.le_of_ble_eq_true rfl) (by exact Nat.le_of_ble_eq_true rfl) aT_d78
            · have q61_ : r58.toInt = (0 : Int32).toInt := by rw [q61]
              have hno : ¬ m_tOk k x y h g := fun q9 => by obtain ⟨a1, a2, a3, a4, a5, a6⟩ := q9; first | (have := hout_r19 (by assumption); omega) | (exact hout_r27 (by assumption) ⟨a2, a3⟩) | (have := hout_r38 (by assumption); omega) | (have := hout_r58 (by assumption); omega)
              refine lv_bipush hx hb aT_d64 (v := (-2)) (by decide) ?_
              have ecm2 : ((-2) : Int32).toInt = (-2) := by decide
              have hL : z_L D _ this _ f := hL0.xeq hYt0 (y_mon B hI) hK
              have hF : z_fr D Y0 s.heap _ this := fun b u g9 hb hg9 _ _ => hK b u g9 hb hg9
              exact y_ireturn B hI rfl rfl rfl List.mem_cons_self ⟨_, rfl, ⟨_, rfl, by decide, by decide⟩⟩ (x_cs.mono B.2.2.2.2.2 (y_mon B hI)) (fun t' k' x' y' h' g' f' h1 h2 => by cases h1; cases h2.uniq hL0; exact ⟨hF, _, _, rfl, hL, fun _ => ⟨rfl, rfl⟩, fun q9 => absurd q9 hno, fun q9 => absurd q9 hno⟩) (by exact Nat.le_of_ble_eq_true rfl) (by exact Nat.le_of_ble_eq_true rfl) aT_d66
          · have q49_ : ¬ (0 : Int32).toInt = (0 : Int32).toInt := fun q => q49 (Int32.toInt_inj.mp q)
            refine lv_bipush hx hb aT_d52 (v := 9) (by decide) ?_
            have ec9 : (9 : Int32).toInt = 9 := by decide
            refine lv_goto hx hb aT_d54 (tgt := 58) (by decide) ?_
            refine y_call (z := (1, 83, 3, none, xM10)) (av := [.int g, .int (0 : Int32), .int (9 : Int32)]) (rest := []) (y_cokSN (n := 3) (host := "TwinFires") X ym_within (x_cons (x_bw19 1 rfl rfl) (x_cons (x_bw0 1 rfl rfl) x_nilm)) (x_bn19 0 rfl rfl) (x_bw19 2 rfl rfl) (by decide +kernel) ⟨Nat.le_of_ble_eq_true rfl, Nat.le_of_ble_eq_true rfl⟩) hY0 hI rfl aT_d58 hl.1 (Nat.le_of_ble_eq_true rfl) (Nat.le_of_ble_eq_true rfl) (Nat.le_of_ble_eq_true rfl) (y_cons ⟨_, rfl, x_i32 _⟩ (y_cons ⟨_, rfl, x_i32 _⟩ (y_cons ⟨_, rfl, x_i32 _⟩ y_nil))) rfl (y_norecv rfl) trivial (y_sub_ef rfl) fun v Yn o Hn L ho hr ha hIn hx_ hE hP => ?_
            replace hs_astones := y_Efld hE hY_this rfl (by decide) (by decide) hs_astones
            replace hs_adone := y_Efld hE hY_this rfl (by decide) (by decide) hs_adone
            replace hs_acost := y_Efld hE hY_this rfl (by decide) (by decide) hs_acost
            replace hsi_things := y_Efld hE hY_this rfl (by decide) (by decide) hsi_things
            replace hA_adone := hA_adone.kept (y_Earr hE hY_adone rfl (by decide))
            replace hA_acost := hA_acost.kept (y_Earr hE hY_acost rfl (by decide))
            replace hK := fun b u g9 (hb : Y0 b = some u) (hg9 : x_G[u]? = some g9) => x_eq.trans (x_eq.E hE (y_mon B hI _ _ hb) hg9 rfl) (hK b u g9 hb hg9)
            replace hY_this := y_ext hx_ hI.1 hY_this
            replace hY_astones := y_ext hx_ hI.1 hY_astones
            replace hY_adone := y_ext hx_ hI.1 hY_adone
            replace hY_acost := y_ext hx_ hI.1 hY_acost
            obtain ⟨r58, rfl, hin_r58, hout_r58⟩ := hP _ _ _ rfl
            clear ho hr ha hE hP hI hx_
            rename x_I _ _ _ _ _ _ _ _ _ _ => hI
            refine lv_if_ne hx hb aT_d61 (tgt := 67) (by decide) (fun q61 => ?_) (fun q61 => ?_)
            · have q61_ : ¬ r58.toInt = (0 : Int32).toInt := fun q => q61 (Int32.toInt_inj.mp q)
              have hw1 := hin_r19 (by assumption)
              have hw2 := hin_r27 (by assumption)
              have hw3 := hin_r38 (by assumption)
              have hw4 := hin_r58 (by assumption)
              have hok : m_tOk k x y h g := ⟨by omega, hw2.1, hw2.2, by omega, by omega, fun q9 => by omega⟩
              refine lv_aload_n hx hb aT_d67 rfl (lv_at hl 1 rfl) ?_
              refine y_getf X (fl42 X.2.2.2.2.1) hI.1 hY_this rfl hsi_things aT_d68 ?_
              refine lv_bipush hx hb aT_d71 (v := 8) (by decide) ?_
              have ec8 : (8 : Int32).toInt = 8 := by decide
              refine lv_icmp_lt hx hb aT_d73 (tgt := 79) (by decide) (fun q73 => ?_) (fun q73 => ?_)
              · have q73_ : (f 1).toInt < (8 : Int32).toInt := x_lt32.mp q73
                have hd1 : 0 ≤ (f 1).toInt ∧ (f 1).toInt < 8 := by omega
                refine lv_iload_n hx hb aT_d79 rfl (lv_at hl 2 rfl) ?_
                have hk9 : 0 ≤ k.toInt ∧ k.toInt ≤ 5 := hok.1
                by_cases hlo : k.toInt < 1 ∨ 5 < k.toInt
                · refine lv_tableOut hx hb aT_d80 hlo (tgt := 246) (by decide) ?_
                  refine lv_aload_n hx hb aT_d246 rfl (lv_at hl 1 rfl) ?_
                  refine y_getf X (fl39 X.2.2.2.2.1) hI.1 hY_this rfl hs_astones aT_d247 ?_
                  refine lv_aload_n hx hb aT_d250 rfl (lv_at hl 1 rfl) ?_
                  refine y_getf X (fl42 X.2.2.2.2.1) hI.1 hY_this rfl hsi_things aT_d251 ?_
                  refine y_newo (tag := 11) X hY0 hI rfl ⟨6, _, RX6, TX6, tyX6, rfl, rfl, iX6, tyX6_ok, (hts _ (x_bw2 4 rfl rfl)), (hts _ (x_bw2 9 rfl rfl)), (hts _ (x_bw0 4 rfl rfl)), x_dfl (by decide +kernel)⟩ (Nat.le_of_ble_eq_true rfl) (Nat.le_of_ble_eq_true rfl) aT_d254 fun Yn H n254 hnw => ?_
                  obtain ⟨hIn, hmo, hY_n254, hfr_n254, hke⟩ := hnw
                  replace hs_astones := y_slk hs_astones (hke _ _ hY_this)
                  replace hs_adone := y_slk hs_adone (hke _ _ hY_this)
                  replace hs_acost := y_slk hs_acost (hke _ _ hY_this)
                  replace hsi_things := y_slk hsi_things (hke _ _ hY_this)
                  replace hA_adone := hA_adone.kept (hke _ _ hY_adone)
                  replace hA_acost := hA_acost.kept (hke _ _ hY_acost)
                  replace hK := fun b u g9 (hb : Y0 b = some u) (hg9 : x_G[u]? = some g9) => x_eq.trans (x_eq.of (hke _ _ (y_mon B hI _ _ hb))) (hK b u g9 hb hg9)
                  replace hY_this := hmo _ _ hY_this
                  replace hY_astones := hmo _ _ hY_astones
                  replace hY_adone := hmo _ _ hY_adone
                  replace hY_acost := hmo _ _ hY_acost
                  replace hI := hIn
                  clear hIn hmo hke
                  refine lv_dup hx hb aT_d257 rfl ?_
                  refine lv_iload_n hx hb aT_d258 rfl (lv_at hl 2 rfl) ?_
                  refine lv_iload_n hx hb aT_d259 rfl (lv_at hl 3 rfl) ?_
                  refine lv_iload_n hx hb aT_d260 rfl (lv_at hl 4 rfl) ?_
                  refine lv_iload hx hb aT_d261 (lv_at hl 5 rfl) ?_
                  refine lv_iload hx hb aT_d263 (lv_at hl 6 rfl) ?_
                  refine y_call (z := (2, 60, 6, none, xM13)) (av := [.ref n254, .int k, .int x, .int y, .int h, .int g]) (rest := [.ref n254, .int (f 1), .ref astones]) (y_cokI (n := 5) X ym_stone rfl (x_cons (x_bw2 10 rfl rfl) (x_cons (x_bw2 11 rfl rfl) (x_cons (x_bw0 4 rfl rfl) x_nilm))) (x_bw2 12 rfl rfl) rfl (fun Y av h => x_this h) (by decide +kernel) ⟨Nat.le_of_ble_eq_true rfl, Nat.le_of_ble_eq_true rfl⟩) hY0 hI rfl aT_d265 hl.1 (Nat.le_of_ble_eq_true rfl) (Nat.le_of_ble_eq_true rfl) (Nat.le_of_ble_eq_true rfl) (y_cons (y_cref hY_n254 rfl) (y_cons ⟨_, rfl, x_i32 _⟩ (y_cons ⟨_, rfl, x_i32 _⟩ (y_cons ⟨_, rfl, x_i32 _⟩ (y_cons ⟨_, rfl, x_i32 _⟩ (y_cons ⟨_, rfl, x_i32 _⟩ y_nil)))))) rfl (y_norecv rfl) trivial (y_sub_ef rfl) fun v Yn o Hn L ho hr ha hIn hx_ hE hP => ?_
                  have hPs := hP _ _ _ _ _ _ rfl
                  have hPf := hPs.1 (11, 6) (by decide) hY_n254
                  replace hs_astones := y_Efld hE hY_this rfl (by decide) (by decide) hs_astones
                  replace hs_adone := y_Efld hE hY_this rfl (by decide) (by decide) hs_adone
                  replace hs_acost := y_Efld hE hY_this rfl (by decide) (by decide) hs_acost
                  replace hsi_things := y_Efld hE hY_this rfl (by decide) (by decide) hsi_things
                  replace hA_adone := hA_adone.kept (y_Earr hE hY_adone rfl (by decide))
                  replace hA_acost := hA_acost.kept (y_Earr hE hY_acost rfl (by decide))
                  replace hK := fun b u g9 (hb : Y0 b = some u) (hg9 : x_G[u]? = some g9) => x_eq.trans (x_eq.of (hPs.2 b (fun e0 => absurd (hY0 _ _ hb) (by rw [e0]; exact Nat.not_lt.mpr hfr_n254)))) (hK b u g9 hb hg9)
                  replace hY_this := y_ext hx_ hI.1 hY_this
                  replace hY_astones := y_ext hx_ hI.1 hY_astones
                  replace hY_adone := y_ext hx_ hI.1 hY_adone
                  replace hY_acost := y_ext hx_ hI.1 hY_acost
                  replace hY_n254 := y_ext hx_ hI.1 hY_n254
                  obtain rfl := y_ansV rfl ho hr
                  obtain ⟨hst0, hst1, hst2, hst3, hst4⟩ := hPf
                  clear ho hr ha hE hP hI hx_
                  rename x_I _ _ _ _ _ _ _ _ _ _ => hI
                  have hLc := hL0.xeq hYt0 (y_mon B hI) hK
                  have hs9 := hs_astones
                  refine y_aast X hY0 hI hY_astones rfl hY_n254 rfl rfl (x_castSelf (X.2.2.2.2.2.1.1 6 _ rfl).2) (by omega) (by show _ < (8 : Int); omega) (y_crefA hY_n254 rfl) (by decide +kernel) aT_d268 fun H locs hI h_at h_ne ho => ?_
                  replace hs_astones := y_slk hs_astones (ho _ (y_ne hY_this hY_astones rfl))
                  replace hs_adone := y_slk hs_adone (ho _ (y_ne hY_this hY_astones rfl))
                  replace hs_acost := y_slk hs_acost (ho _ (y_ne hY_this hY_astones rfl))
                  replace hsi_things := y_slk hsi_things (ho _ (y_ne hY_this hY_astones rfl))
                  replace hst0 := y_slk hst0 (ho _ (y_ne hY_n254 hY_astones rfl))
                  replace hst1 := y_slk hst1 (ho _ (y_ne hY_n254 hY_astones rfl))
                  replace hst2 := y_slk hst2 (ho _ (y_ne hY_n254 hY_astones rfl))
                  replace hst3 := y_slk hst3 (ho _ (y_ne hY_n254 hY_astones rfl))
                  replace hst4 := y_slk hst4 (ho _ (y_ne hY_n254 hY_astones rfl))
                  replace hA_adone := hA_adone.kept (ho _ (y_ne hY_adone hY_astones rfl))
                  replace hA_acost := hA_acost.kept (ho _ (y_ne hY_acost hY_astones rfl))
                  have hL := hLc.putS hY_this (j := (f 1).toInt.toNat) (z := (11, 6)) (by omega) hs9 h_at h_ne ho (by decide) hY_n254 (by show ((11 : Nat) : Int) = 11 + k.toInt; omega) hst0 hst1 hst2 hst3 hst4
                  have hF : z_fr D Y0 s.heap _ this := fun b u g9 hb hg9 hn hk9 => x_eq.trans (x_eq.of (ho b (fun e0 => hk9 7 (by decide) (by rw [e0]; exact hs0_astones)))) (hK b u g9 hb hg9)
                  exact aT_L269 B rfl hL0 hs0_astones hs0_adone hs0_acost hd1 hok _ _ _ _ hI hY_this hY_astones hY_adone hY_acost hs_astones hs_adone hs_acost hsi_things hA_adone hA_acost (lv_sub hl [1, 2, 3, 4, 5, 6] rfl) (by first | assumption | omega) (by first | assumption | omega)
                rcases (show k.toInt = 1 ∨ k.toInt = 2 ∨ k.toInt = 3 ∨ k.toInt = 4 ∨ k.toInt = 5 by omega) with hq9 | hq9 | hq9 | hq9 | hq9
                · refine lv_tableIn hx hb aT_d80 (by omega) (by omega) (off := 36) (by rw [hq9]; rfl) (tgt := 116) (by decide) ?_
                  refine lv_aload_n hx hb aT_d116 rfl (lv_at hl 1 rfl) ?_
                  refine y_getf X (fl39 X.2.2.2.2.1) hI.1 hY_this rfl hs_astones aT_d117 ?_
                  refine lv_aload_n hx hb aT_d120 rfl (lv_at hl 1 rfl) ?_
                  refine y_getf X (fl42 X.2.2.2.2.1) hI.1 hY_this rfl hsi_things aT_d121 ?_
                  refine y_newo (tag := 12) X hY0 hI rfl ⟨10, _, RX10, TX10, tyX10, rfl, rfl, iX10, tyX10_ok, (hts _ (x_bw20 8 rfl rfl)), (hts _ (x_bw20 9 rfl rfl)), (hts _ (x_bw0 10 rfl rfl)), x_dfl (by decide +kernel)⟩ (Nat.le_of_ble_eq_true rfl) (Nat.le_of_ble_eq_true rfl) aT_d124 fun Yn H n124 hnw => ?_
                  obtain ⟨hIn, hmo, hY_n124, hfr_n124, hke⟩ := hnw
                  replace hs_astones := y_slk hs_astones (hke _ _ hY_this)
                  replace hs_adone := y_slk hs_adone (hke _ _ hY_this)
                  replace hs_acost := y_slk hs_acost (hke _ _ hY_this)
                  replace hsi_things := y_slk hsi_things (hke _ _ hY_this)
                  replace hA_adone := hA_adone.kept (hke _ _ hY_adone)
                  replace hA_acost := hA_acost.kept (hke _ _ hY_acost)
                  replace hK := fun b u g9 (hb : Y0 b = some u) (hg9 : x_G[u]? = some g9) => x_eq.trans (x_eq.of (hke _ _ (y_mon B hI _ _ hb))) (hK b u g9 hb hg9)
                  replace hY_this := hmo _ _ hY_this
                  replace hY_astones := hmo _ _ hY_astones
                  replace hY_adone := hmo _ _ hY_adone
                  replace hY_acost := hmo _ _ hY_acost
                  replace hI := hIn
                  clear hIn hmo hke
                  refine lv_dup hx hb aT_d127 rfl ?_
                  refine lv_iload_n hx hb aT_d128 rfl (lv_at hl 2 rfl) ?_
                  refine lv_iload_n hx hb aT_d129 rfl (lv_at hl 3 rfl) ?_
                  refine lv_iload_n hx hb aT_d130 rfl (lv_at hl 4 rfl) ?_
                  refine lv_iload hx hb aT_d131 (lv_at hl 5 rfl) ?_
                  refine lv_iload hx hb aT_d133 (lv_at hl 6 rfl) ?_
                  refine y_call (z := (2, 92, 6, none, xM14)) (av := [.ref n124, .int k, .int x, .int y, .int h, .int g]) (rest := [.ref n124, .int (f 1), .ref astones]) (y_cokI (n := 5) X ym_wood rfl (x_cons (x_bw20 10 rfl rfl) (x_cons (x_bw20 11 rfl rfl) (x_cons (x_bw0 10 rfl rfl) x_nilm))) (x_bw20 12 rfl rfl) rfl (fun Y av h => x_this h) (by decide +kernel) ⟨Nat.le_of_ble_eq_true rfl, Nat.le_of_ble_eq_true rfl⟩) hY0 hI rfl aT_d135 hl.1 (Nat.le_of_ble_eq_true rfl) (Nat.le_of_ble_eq_true rfl) (Nat.le_of_ble_eq_true rfl) (y_cons (y_cref hY_n124 rfl) (y_cons ⟨_, rfl, x_i32 _⟩ (y_cons ⟨_, rfl, x_i32 _⟩ (y_cons ⟨_, rfl, x_i32 _⟩ (y_cons ⟨_, rfl, x_i32 _⟩ (y_cons ⟨_, rfl, x_i32 _⟩ y_nil)))))) rfl (y_norecv rfl) trivial (y_sub_ef rfl) fun v Yn o Hn L ho hr ha hIn hx_ hE hP => ?_
                  have hPs := hP _ _ _ _ _ _ rfl
                  have hPf := hPs.1 (12, 10) (by decide) hY_n124
                  replace hs_astones := y_Efld hE hY_this rfl (by decide) (by decide) hs_astones
                  replace hs_adone := y_Efld hE hY_this rfl (by decide) (by decide) hs_adone
                  replace hs_acost := y_Efld hE hY_this rfl (by decide) (by decide) hs_acost
                  replace hsi_things := y_Efld hE hY_this rfl (by decide) (by decide) hsi_things
                  replace hA_adone := hA_adone.kept (y_Earr hE hY_adone rfl (by decide))
                  replace hA_acost := hA_acost.kept (y_Earr hE hY_acost rfl (by decide))
                  replace hK := fun b u g9 (hb : Y0 b = some u) (hg9 : x_G[u]? = some g9) => x_eq.trans (x_eq.of (hPs.2 b (fun e0 => absurd (hY0 _ _ hb) (by rw [e0]; exact Nat.not_lt.mpr hfr_n124)))) (hK b u g9 hb hg9)
                  replace hY_this := y_ext hx_ hI.1 hY_this
                  replace hY_astones := y_ext hx_ hI.1 hY_astones
                  replace hY_adone := y_ext hx_ hI.1 hY_adone
                  replace hY_acost := y_ext hx_ hI.1 hY_acost
                  replace hY_n124 := y_ext hx_ hI.1 hY_n124
                  obtain rfl := y_ansV rfl ho hr
                  obtain ⟨hst0, hst1, hst2, hst3, hst4⟩ := hPf
                  clear ho hr ha hE hP hI hx_
                  rename x_I _ _ _ _ _ _ _ _ _ _ => hI
                  have hLc := hL0.xeq hYt0 (y_mon B hI) hK
                  have hs9 := hs_astones
                  refine y_aast X hY0 hI hY_astones rfl hY_n124 rfl rfl (X.2.2.2.2.2.2.2.2.1 _ (x_bn89 3 rfl rfl)) (by omega) (by show _ < (8 : Int); omega) (y_crefA hY_n124 rfl) (by decide +kernel) aT_d138 fun H locs hI h_at h_ne ho => ?_
                  replace hs_astones := y_slk hs_astones (ho _ (y_ne hY_this hY_astones rfl))
                  replace hs_adone := y_slk hs_adone (ho _ (y_ne hY_this hY_astones rfl))
                  replace hs_acost := y_slk hs_acost (ho _ (y_ne hY_this hY_astones rfl))
                  replace hsi_things := y_slk hsi_things (ho _ (y_ne hY_this hY_astones rfl))
                  replace hst0 := y_slk hst0 (ho _ (y_ne hY_n124 hY_astones rfl))
                  replace hst1 := y_slk hst1 (ho _ (y_ne hY_n124 hY_astones rfl))
                  replace hst2 := y_slk hst2 (ho _ (y_ne hY_n124 hY_astones rfl))
                  replace hst3 := y_slk hst3 (ho _ (y_ne hY_n124 hY_astones rfl))
                  replace hst4 := y_slk hst4 (ho _ (y_ne hY_n124 hY_astones rfl))
                  replace hA_adone := hA_adone.kept (ho _ (y_ne hY_adone hY_astones rfl))
                  replace hA_acost := hA_acost.kept (ho _ (y_ne hY_acost hY_astones rfl))
                  refine lv_goto hx hb aT_d139 (tgt := 269) (by decide) ?_
                  have hL := hLc.putS hY_this (j := (f 1).toInt.toNat) (z := (12, 10)) (by omega) hs9 h_at h_ne ho (by decide) hY_n124 (by show ((12 : Nat) : Int) = 11 + k.toInt; omega) hst0 hst1 hst2 hst3 hst4
                  have hF : z_fr D Y0 s.heap _ this := fun b u g9 hb hg9 hn hk9 => x_eq.trans (x_eq.of (ho b (fun e0 => hk9 7 (by decide) (by rw [e0]; exact hs0_astones)))) (hK b u g9 hb hg9)
                  exact aT_L269 B rfl hL0 hs0_astones hs0_adone hs0_acost hd1 hok _ _ _ _ hI hY_this hY_astones hY_adone hY_acost hs_astones hs_adone hs_acost hsi_things hA_adone hA_acost (lv_sub hl [1, 2, 3, 4, 5, 6] rfl) (by first | assumption | omega) (by first | assumption | omega)
                · refine lv_tableIn hx hb aT_d80 (by omega) (by omega) (off := 62) (by rw [hq9]; rfl) (tgt := 142) (by decide) ?_
                  refine lv_aload_n hx hb aT_d142 rfl (lv_at hl 1 rfl) ?_
                  refine y_getf X (fl39 X.2.2.2.2.1) hI.1 hY_this rfl hs_astones aT_d143 ?_
                  refine lv_aload_n hx hb aT_d146 rfl (lv_at hl 1 rfl) ?_
                  refine y_getf X (fl42 X.2.2.2.2.1) hI.1 hY_this rfl hsi_things aT_d147 ?_
                  refine y_newo (tag := 13) X hY0 hI rfl ⟨4, _, RX4, TX4, tyX4, rfl, rfl, iX4, tyX4_ok, (hts _ (x_bw21 4 rfl rfl)), (hts _ (x_bw21 5 rfl rfl)), (hts _ (x_bw0 11 rfl rfl)), x_dfl (by decide +kernel)⟩ (Nat.le_of_ble_eq_true rfl) (Nat.le_of_ble_eq_true rfl) aT_d150 fun Yn H n150 hnw => ?_
                  obtain ⟨hIn, hmo, hY_n150, hfr_n150, hke⟩ := hnw
                  replace hs_astones := y_slk hs_astones (hke _ _ hY_this)
                  replace hs_adone := y_slk hs_adone (hke _ _ hY_this)
                  replace hs_acost := y_slk hs_acost (hke _ _ hY_this)
                  replace hsi_things := y_slk hsi_things (hke _ _ hY_this)
                  replace hA_adone := hA_adone.kept (hke _ _ hY_adone)
                  replace hA_acost := hA_acost.kept (hke _ _ hY_acost)
                  replace hK := fun b u g9 (hb : Y0 b = some u) (hg9 : x_G[u]? = some g9) => x_eq.trans (x_eq.of (hke _ _ (y_mon B hI _ _ hb))) (hK b u g9 hb hg9)
                  replace hY_this := hmo _ _ hY_this
                  replace hY_astones := hmo _ _ hY_astones
                  replace hY_adone := hmo _ _ hY_adone
                  replace hY_acost := hmo _ _ hY_acost
                  replace hI := hIn
                  clear hIn hmo hke
                  refine lv_dup hx hb aT_d153 rfl ?_
                  refine lv_iload_n hx hb aT_d154 rfl (lv_at hl 2 rfl) ?_
                  refine lv_iload_n hx hb aT_d155 rfl (lv_at hl 3 rfl) ?_
                  refine lv_iload_n hx hb aT_d156 rfl (lv_at hl 4 rfl) ?_
                  refine lv_iload hx hb aT_d157 (lv_at hl 5 rfl) ?_
                  refine lv_iload hx hb aT_d159 (lv_at hl 6 rfl) ?_
                  refine y_call (z := (2, 95, 6, none, xM15)) (av := [.ref n150, .int k, .int x, .int y, .int h, .int g]) (rest := [.ref n150, .int (f 1), .ref astones]) (y_cokI (n := 5) X ym_pine rfl (x_cons (x_bw21 6 rfl rfl) (x_cons (x_bw21 7 rfl rfl) (x_cons (x_bw0 11 rfl rfl) x_nilm))) (x_bw21 8 rfl rfl) rfl (fun Y av h => x_this h) (by decide +kernel) ⟨Nat.le_of_ble_eq_true rfl, Nat.le_of_ble_eq_true rfl⟩) hY0 hI rfl aT_d161 hl.1 (Nat.le_of_ble_eq_true rfl) (Nat.le_of_ble_eq_true rfl) (Nat.le_of_ble_eq_true rfl) (y_cons (y_cref hY_n150 rfl) (y_cons ⟨_, rfl, x_i32 _⟩ (y_cons ⟨_, rfl, x_i32 _⟩ (y_cons ⟨_, rfl, x_i32 _⟩ (y_cons ⟨_, rfl, x_i32 _⟩ (y_cons ⟨_, rfl, x_i32 _⟩ y_nil)))))) rfl (y_norecv rfl) trivial (y_sub_ef rfl) fun v Yn o Hn L ho hr ha hIn hx_ hE hP => ?_
                  have hPs := hP _ _ _ _ _ _ rfl
                  have hPf := hPs.1 (13, 4) (by decide) hY_n150
                  replace hs_astones := y_Efld hE hY_this rfl (by decide) (by decide) hs_astones
                  replace hs_adone := y_Efld hE hY_this rfl (by decide) (by decide) hs_adone
                  replace hs_acost := y_Efld hE hY_this rfl (by decide) (by decide) hs_acost
                  replace hsi_things := y_Efld hE hY_this rfl (by decide) (by decide) hsi_things
                  replace hA_adone := hA_adone.kept (y_Earr hE hY_adone rfl (by decide))
                  replace hA_acost := hA_acost.kept (y_Earr hE hY_acost rfl (by decide))
                  replace hK := fun b u g9 (hb : Y0 b = some u) (hg9 : x_G[u]? = some g9) => x_eq.trans (x_eq.of (hPs.2 b (fun e0 => absurd (hY0 _ _ hb) (by rw [e0]; exact Nat.not_lt.mpr hfr_n150)))) (hK b u g9 hb hg9)
                  replace hY_this := y_ext hx_ hI.1 hY_this
                  replace hY_astones := y_ext hx_ hI.1 hY_astones
                  replace hY_adone := y_ext hx_ hI.1 hY_adone
                  replace hY_acost := y_ext hx_ hI.1 hY_acost
                  replace hY_n150 := y_ext hx_ hI.1 hY_n150
                  obtain rfl := y_ansV rfl ho hr
                  obtain ⟨hst0, hst1, hst2, hst3, hst4⟩ := hPf
                  clear ho hr ha hE hP hI hx_
                  rename x_I _ _ _ _ _ _ _ _ _ _ => hI
                  have hLc := hL0.xeq hYt0 (y_mon B hI) hK
                  have hs9 := hs_astones
                  refine y_aast X hY0 hI hY_astones rfl hY_n150 rfl rfl (X.2.2.2.2.2.2.2.2.1 _ (x_bn89 4 rfl rfl)) (by omega) (by show _ < (8 : Int); omega) (y_crefA hY_n150 rfl) (by decide +kernel) aT_d164 fun H locs hI h_at h_ne ho => ?_
                  replace hs_astones := y_slk hs_astones (ho _ (y_ne hY_this hY_astones rfl))
                  replace hs_adone := y_slk hs_adone (ho _ (y_ne hY_this hY_astones rfl))
                  replace hs_acost := y_slk hs_acost (ho _ (y_ne hY_this hY_astones rfl))
                  replace hsi_things := y_slk hsi_things (ho _ (y_ne hY_this hY_astones rfl))
                  replace hst0 := y_slk hst0 (ho _ (y_ne hY_n150 hY_astones rfl))
                  replace hst1 := y_slk hst1 (ho _ (y_ne hY_n150 hY_astones rfl))
                  replace hst2 := y_slk hst2 (ho _ (y_ne hY_n150 hY_astones rfl))
                  replace hst3 := y_slk hst3 (ho _ (y_ne hY_n150 hY_astones rfl))
                  replace hst4 := y_slk hst4 (ho _ (y_ne hY_n150 hY_astones rfl))
                  replace hA_adone := hA_adone.kept (ho _ (y_ne hY_adone hY_astones rfl))
                  replace hA_acost := hA_acost.kept (ho _ (y_ne hY_acost hY_astones rfl))
                  refine lv_goto hx hb aT_d165 (tgt := 269) (by decide) ?_
                  have hL := hLc.putS hY_this (j := (f 1).toInt.toNat) (z := (13, 4)) (by omega) hs9 h_at h_ne ho (by decide) hY_n150 (by show ((13 : Nat) : Int) = 11 + k.toInt; omega) hst0 hst1 hst2 hst3 hst4
                  have hF : z_fr D Y0 s.heap _ this := fun b u g9 hb hg9 hn hk9 => x_eq.trans (x_eq.of (ho b (fun e0 => hk9 7 (by decide) (by rw [e0]; exact hs0_astones)))) (hK b u g9 hb hg9)
                  exact aT_L269 B rfl hL0 hs0_astones hs0_adone hs0_acost hd1 hok _ _ _ _ hI hY_this hY_astones hY_adone hY_acost hs_astones hs_adone hs_acost hsi_things hA_adone hA_acost (lv_sub hl [1, 2, 3, 4, 5, 6] rfl) (by first | assumption | omega) (by first | assumption | omega)
                · refine lv_tableIn hx hb aT_d80 (by omega) (by omega) (off := 88) (by rw [hq9]; rfl) (tgt := 168) (by decide) ?_
                  refine lv_aload_n hx hb aT_d168 rfl (lv_at hl 1 rfl) ?_
                  refine y_getf X (fl39 X.2.2.2.2.1) hI.1 hY_this rfl hs_astones aT_d169 ?_
                  refine lv_aload_n hx hb aT_d172 rfl (lv_at hl 1 rfl) ?_
                  refine y_getf X (fl42 X.2.2.2.2.1) hI.1 hY_this rfl hsi_things aT_d173 ?_
                  refine y_newo (tag := 14) X hY0 hI rfl ⟨1, _, RX1, TX1, tyX1, rfl, rfl, iX1, tyX1_ok, (hts _ (x_bw22 0 rfl rfl)), (hts _ (x_bw22 1 rfl rfl)), (hts _ (x_bw0 12 rfl rfl)), x_dfl (by decide +kernel)⟩ (Nat.le_of_ble_eq_true rfl) (Nat.le_of_ble_eq_true rfl) aT_d176 fun Yn H n176 hnw => ?_
                  obtain ⟨hIn, hmo, hY_n176, hfr_n176, hke⟩ := hnw
                  replace hs_astones := y_slk hs_astones (hke _ _ hY_this)
                  replace hs_adone := y_slk hs_adone (hke _ _ hY_this)
                  replace hs_acost := y_slk hs_acost (hke _ _ hY_this)
                  replace hsi_things := y_slk hsi_things (hke _ _ hY_this)
                  replace hA_adone := hA_adone.kept (hke _ _ hY_adone)
                  replace hA_acost := hA_acost.kept (hke _ _ hY_acost)
                  replace hK := fun b u g9 (hb : Y0 b = some u) (hg9 : x_G[u]? = some g9) => x_eq.trans (x_eq.of (hke _ _ (y_mon B hI _ _ hb))) (hK b u g9 hb hg9)
                  replace hY_this := hmo _ _ hY_this
                  replace hY_astones := hmo _ _ hY_astones
                  replace hY_adone := hmo _ _ hY_adone
                  replace hY_acost := hmo _ _ hY_acost
                  replace hI := hIn
                  clear hIn hmo hke
                  refine lv_dup hx hb aT_d179 rfl ?_
                  refine lv_iload_n hx hb aT_d180 rfl (lv_at hl 2 rfl) ?_
                  refine lv_iload_n hx hb aT_d181 rfl (lv_at hl 3 rfl) ?_
                  refine lv_iload_n hx hb aT_d182 rfl (lv_at hl 4 rfl) ?_
                  refine lv_iload hx hb aT_d183 (lv_at hl 5 rfl) ?_
                  refine lv_iload hx hb aT_d185 (lv_at hl 6 rfl) ?_
                  refine y_call (z := (2, 98, 6, none, xM16)) (av := [.ref n176, .int k, .int x, .int y, .int h, .int g]) (rest := [.ref n176, .int (f 1), .ref astones]) (y_cokI (n := 5) X ym_hedge rfl (x_cons (x_bw22 2 rfl rfl) (x_cons (x_bw22 3 rfl rfl) (x_cons (x_bw0 12 rfl rfl) x_nilm))) (x_bw22 4 rfl rfl) rfl (fun Y av h => x_this h) (by decide +kernel) ⟨Nat.le_of_ble_eq_true rfl, Nat.le_of_ble_eq_true rfl⟩) hY0 hI rfl aT_d187 hl.1 (Nat.le_of_ble_eq_true rfl) (Nat.le_of_ble_eq_true rfl) (Nat.le_of_ble_eq_true rfl) (y_cons (y_cref hY_n176 rfl) (y_cons ⟨_, rfl, x_i32 _⟩ (y_cons ⟨_, rfl, x_i32 _⟩ (y_cons ⟨_, rfl, x_i32 _⟩ (y_cons ⟨_, rfl, x_i32 _⟩ (y_cons ⟨_, rfl, x_i32 _⟩ y_nil)))))) rfl (y_norecv rfl) trivial (y_sub_ef rfl) fun v Yn o Hn L ho hr ha hIn hx_ hE hP => ?_
                  have hPs := hP _ _ _ _ _ _ rfl
                  have hPf := hPs.1 (14, 1) (by decide) hY_n176
                  replace hs_astones := y_Efld hE hY_this rfl (by decide) (by decide) hs_astones
                  replace hs_adone := y_Efld hE hY_this rfl (by decide) (by decide) hs_adone
                  replace hs_acost := y_Efld hE hY_this rfl (by decide) (by decide) hs_acost
                  replace hsi_things := y_Efld hE hY_this rfl (by decide) (by decide) hsi_things
                  replace hA_adone := hA_adone.kept (y_Earr hE hY_adone rfl (by decide))
                  replace hA_acost := hA_acost.kept (y_Earr hE hY_acost rfl (by decide))
                  replace hK := fun b u g9 (hb : Y0 b = some u) (hg9 : x_G[u]? = some g9) => x_eq.trans (x_eq.of (hPs.2 b (fun e0 => absurd (hY0 _ _ hb) (by rw [e0]; exact Nat.not_lt.mpr hfr_n176)))) (hK b u g9 hb hg9)
                  replace hY_this := y_ext hx_ hI.1 hY_this
                  replace hY_astones := y_ext hx_ hI.1 hY_astones
                  replace hY_adone := y_ext hx_ hI.1 hY_adone
                  replace hY_acost := y_ext hx_ hI.1 hY_acost
                  replace hY_n176 := y_ext hx_ hI.1 hY_n176
                  obtain rfl := y_ansV rfl ho hr
                  obtain ⟨hst0, hst1, hst2, hst3, hst4⟩ := hPf
                  clear ho hr ha hE hP hI hx_
                  rename x_I _ _ _ _ _ _ _ _ _ _ => hI
                  have hLc := hL0.xeq hYt0 (y_mon B hI) hK
                  have hs9 := hs_astones
                  refine y_aast X hY0 hI hY_astones rfl hY_n176 rfl rfl (X.2.2.2.2.2.2.2.2.1 _ (x_bn89 5 rfl rfl)) (by omega) (by show _ < (8 : Int); omega) (y_crefA hY_n176 rfl) (by decide +kernel) aT_d190 fun H locs hI h_at h_ne ho => ?_
                  replace hs_astones := y_slk hs_astones (ho _ (y_ne hY_this hY_astones rfl))
                  replace hs_adone := y_slk hs_adone (ho _ (y_ne hY_this hY_astones rfl))
                  replace hs_acost := y_slk hs_acost (ho _ (y_ne hY_this hY_astones rfl))
                  replace hsi_things := y_slk hsi_things (ho _ (y_ne hY_this hY_astones rfl))
                  replace hst0 := y_slk hst0 (ho _ (y_ne hY_n176 hY_astones rfl))
                  replace hst1 := y_slk hst1 (ho _ (y_ne hY_n176 hY_astones rfl))
                  replace hst2 := y_slk hst2 (ho _ (y_ne hY_n176 hY_astones rfl))
                  replace hst3 := y_slk hst3 (ho _ (y_ne hY_n176 hY_astones rfl))
                  replace hst4 := y_slk hst4 (ho _ (y_ne hY_n176 hY_astones rfl))
                  replace hA_adone := hA_adone.kept (ho _ (y_ne hY_adone hY_astones rfl))
                  replace hA_acost := hA_acost.kept (ho _ (y_ne hY_acost hY_astones rfl))
                  refine lv_goto hx hb aT_d191 (tgt := 269) (by decide) ?_
                  have hL := hLc.putS hY_this (j := (f 1).toInt.toNat) (z := (14, 1)) (by omega) hs9 h_at h_ne ho (by decide) hY_n176 (by show ((14 : Nat) : Int) = 11 + k.toInt; omega) hst0 hst1 hst2 hst3 hst4
                  have hF : z_fr D Y0 s.heap _ this := fun b u g9 hb hg9 hn hk9 => x_eq.trans (x_eq.of (ho b (fun e0 => hk9 7 (by decide) (by rw [e0]; exact hs0_astones)))) (hK b u g9 hb hg9)
                  exact aT_L269 B rfl hL0 hs0_astones hs0_adone hs0_acost hd1 hok _ _ _ _ hI hY_this hY_astones hY_adone hY_acost hs_astones hs_adone hs_acost hsi_things hA_adone hA_acost (lv_sub hl [1, 2, 3, 4, 5, 6] rfl) (by first | assumption | omega) (by first | assumption | omega)
                · refine lv_tableIn hx hb aT_d80 (by omega) (by omega) (off := 114) (by rw [hq9]; rfl) (tgt := 194) (by decide) ?_
                  refine lv_aload_n hx hb aT_d194 rfl (lv_at hl 1 rfl) ?_
                  refine y_getf X (fl39 X.2.2.2.2.1) hI.1 hY_this rfl hs_astones aT_d195 ?_
                  refine lv_aload_n hx hb aT_d198 rfl (lv_at hl 1 rfl) ?_
                  refine y_getf X (fl42 X.2.2.2.2.1) hI.1 hY_this rfl hsi_things aT_d199 ?_
                  refine y_newo (tag := 15) X hY0 hI rfl ⟨8, _, RX8, TX8, tyX8, rfl, rfl, iX8, tyX8_ok, (hts _ (x_bw22 12 rfl rfl)), (hts _ (x_bw22 13 rfl rfl)), (hts _ (x_bw0 13 rfl rfl)), x_dfl (by decide +kernel)⟩ (Nat.le_of_ble_eq_true rfl) (Nat.le_of_ble_eq_true rfl) aT_d202 fun Yn H n202 hnw => ?_
                  obtain ⟨hIn, hmo, hY_n202, hfr_n202, hke⟩ := hnw
                  replace hs_astones := y_slk hs_astones (hke _ _ hY_this)
                  replace hs_adone := y_slk hs_adone (hke _ _ hY_this)
                  replace hs_acost := y_slk hs_acost (hke _ _ hY_this)
                  replace hsi_things := y_slk hsi_things (hke _ _ hY_this)
                  replace hA_adone := hA_adone.kept (hke _ _ hY_adone)
                  replace hA_acost := hA_acost.kept (hke _ _ hY_acost)
                  replace hK := fun b u g9 (hb : Y0 b = some u) (hg9 : x_G[u]? = some g9) => x_eq.trans (x_eq.of (hke _ _ (y_mon B hI _ _ hb))) (hK b u g9 hb hg9)
                  replace hY_this := hmo _ _ hY_this
                  replace hY_astones := hmo _ _ hY_astones
                  replace hY_adone := hmo _ _ hY_adone
                  replace hY_acost := hmo _ _ hY_acost
                  replace hI := hIn
                  clear hIn hmo hke
                  refine lv_dup hx hb aT_d205 rfl ?_
                  refine lv_iload_n hx hb aT_d206 rfl (lv_at hl 2 rfl) ?_
                  refine lv_iload_n hx hb aT_d207 rfl (lv_at hl 3 rfl) ?_
                  refine lv_iload_n hx hb aT_d208 rfl (lv_at hl 4 rfl) ?_
                  refine lv_iload hx hb aT_d209 (lv_at hl 5 rfl) ?_
                  refine lv_iload hx hb aT_d211 (lv_at hl 6 rfl) ?_
                  refine y_call (z := (2, 101, 6, none, xM17)) (av := [.ref n202, .int k, .int x, .int y, .int h, .int g]) (rest := [.ref n202, .int (f 1), .ref astones]) (y_cokI (n := 5) X ym_topped rfl (x_cons (x_bw22 14 rfl rfl) (x_cons (x_bw22 15 rfl rfl) (x_cons (x_bw0 13 rfl rfl) x_nilm))) (x_bw23 0 rfl rfl) rfl (fun Y av h => x_this h) (by decide +kernel) ⟨Nat.le_of_ble_eq_true rfl, Nat.le_of_ble_eq_true rfl⟩) hY0 hI rfl aT_d213 hl.1 (Nat.le_of_ble_eq_true rfl) (Nat.le_of_ble_eq_true rfl) (Nat.le_of_ble_eq_true rfl) (y_cons (y_cref hY_n202 rfl) (y_cons ⟨_, rfl, x_i32 _⟩ (y_cons ⟨_, rfl, x_i32 _⟩ (y_cons ⟨_, rfl, x_i32 _⟩ (y_cons ⟨_, rfl, x_i32 _⟩ (y_cons ⟨_, rfl, x_i32 _⟩ y_nil)))))) rfl (y_norecv rfl) trivial (y_sub_ef rfl) fun v Yn o Hn L ho hr ha hIn hx_ hE hP => ?_
                  have hPs := hP _ _ _ _ _ _ rfl
                  have hPf := hPs.1 (15, 8) (by decide) hY_n202
                  replace hs_astones := y_Efld hE hY_this rfl (by decide) (by decide) hs_astones
                  replace hs_adone := y_Efld hE hY_this rfl (by decide) (by decide) hs_adone
                  replace hs_acost := y_Efld hE hY_this rfl (by decide) (by decide) hs_acost
                  replace hsi_things := y_Efld hE hY_this rfl (by decide) (by decide) hsi_things
                  replace hA_adone := hA_adone.kept (y_Earr hE hY_adone rfl (by decide))
                  replace hA_acost := hA_acost.kept (y_Earr hE hY_acost rfl (by decide))
                  replace hK := fun b u g9 (hb : Y0 b = some u) (hg9 : x_G[u]? = some g9) => x_eq.trans (x_eq.of (hPs.2 b (fun e0 => absurd (hY0 _ _ hb) (by rw [e0]; exact Nat.not_lt.mpr hfr_n202)))) (hK b u g9 hb hg9)
                  replace hY_this := y_ext hx_ hI.1 hY_this
                  replace hY_astones := y_ext hx_ hI.1 hY_astones
                  replace hY_adone := y_ext hx_ hI.1 hY_adone
                  replace hY_acost := y_ext hx_ hI.1 hY_acost
                  replace hY_n202 := y_ext hx_ hI.1 hY_n202
                  obtain rfl := y_ansV rfl ho hr
                  obtain ⟨hst0, hst1, hst2, hst3, hst4⟩ := hPf
                  clear ho hr ha hE hP hI hx_
                  rename x_I _ _ _ _ _ _ _ _ _ _ => hI
                  have hLc := hL0.xeq hYt0 (y_mon B hI) hK
                  have hs9 := hs_astones
                  refine y_aast X hY0 hI hY_astones rfl hY_n202 rfl rfl (X.2.2.2.2.2.2.2.2.1 _ (x_bn89 6 rfl rfl)) (by omega) (by show _ < (8 : Int); omega) (y_crefA hY_n202 rfl) (by decide +kernel) aT_d216 fun H locs hI h_at h_ne ho => ?_
                  replace hs_astones := y_slk hs_astones (ho _ (y_ne hY_this hY_astones rfl))
                  replace hs_adone := y_slk hs_adone (ho _ (y_ne hY_this hY_astones rfl))
                  replace hs_acost := y_slk hs_acost (ho _ (y_ne hY_this hY_astones rfl))
                  replace hsi_things := y_slk hsi_things (ho _ (y_ne hY_this hY_astones rfl))
                  replace hst0 := y_slk hst0 (ho _ (y_ne hY_n202 hY_astones rfl))
                  replace hst1 := y_slk hst1 (ho _ (y_ne hY_n202 hY_astones rfl))
                  replace hst2 := y_slk hst2 (ho _ (y_ne hY_n202 hY_astones rfl))
                  replace hst3 := y_slk hst3 (ho _ (y_ne hY_n202 hY_astones rfl))
                  replace hst4 := y_slk hst4 (ho _ (y_ne hY_n202 hY_astones rfl))
                  replace hA_adone := hA_adone.kept (ho _ (y_ne hY_adone hY_astones rfl))
                  replace hA_acost := hA_acost.kept (ho _ (y_ne hY_acost hY_astones rfl))
                  refine lv_goto hx hb aT_d217 (tgt := 269) (by decide) ?_
                  have hL := hLc.putS hY_this (j := (f 1).toInt.toNat) (z := (15, 8)) (by omega) hs9 h_at h_ne ho (by decide) hY_n202 (by show ((15 : Nat) : Int) = 11 + k.toInt; omega) hst0 hst1 hst2 hst3 hst4
                  have hF : z_fr D Y0 s.heap _ this := fun b u g9 hb hg9 hn hk9 => x_eq.trans (x_eq.of (ho b (fun e0 => hk9 7 (by decide) (by rw [e0]; exact hs0_astones)))) (hK b u g9 hb hg9)
                  exact aT_L269 B rfl hL0 hs0_astones hs0_adone hs0_acost hd1 hok _ _ _ _ hI hY_this hY_astones hY_adone hY_acost hs_astones hs_adone hs_acost hsi_things hA_adone hA_acost (lv_sub hl [1, 2, 3, 4, 5, 6] rfl) (by first | assumption | omega) (by first | assumption | omega)
                · refine lv_tableIn hx hb aT_d80 (by omega) (by omega) (off := 140) (by rw [hq9]; rfl) (tgt := 220) (by decide) ?_
                  refine lv_aload_n hx hb aT_d220 rfl (lv_at hl 1 rfl) ?_
                  refine y_getf X (fl39 X.2.2.2.2.1) hI.1 hY_this rfl hs_astones aT_d221 ?_
                  refine lv_aload_n hx hb aT_d224 rfl (lv_at hl 1 rfl) ?_
                  refine y_getf X (fl42 X.2.2.2.2.1) hI.1 hY_this rfl hsi_things aT_d225 ?_
                  refine y_newo (tag := 16) X hY0 hI rfl ⟨9, _, RX9, TX9, tyX9, rfl, rfl, iX9, tyX9_ok, (hts _ (x_bw23 8 rfl rfl)), (hts _ (x_bw23 9 rfl rfl)), (hts _ (x_bw0 14 rfl rfl)), x_dfl (by decide +kernel)⟩ (Nat.le_of_ble_eq_true rfl) (Nat.le_of_ble_eq_true rfl) aT_d228 fun Yn H n228 hnw => ?_
                  obtain ⟨hIn, hmo, hY_n228, hfr_n228, hke⟩ := hnw
                  replace hs_astones := y_slk hs_astones (hke _ _ hY_this)
                  replace hs_adone := y_slk hs_adone (hke _ _ hY_this)
                  replace hs_acost := y_slk hs_acost (hke _ _ hY_this)
                  replace hsi_things := y_slk hsi_things (hke _ _ hY_this)
                  replace hA_adone := hA_adone.kept (hke _ _ hY_adone)
                  replace hA_acost := hA_acost.kept (hke _ _ hY_acost)
                  replace hK := fun b u g9 (hb : Y0 b = some u) (hg9 : x_G[u]? = some g9) => x_eq.trans (x_eq.of (hke _ _ (y_mon B hI _ _ hb))) (hK b u g9 hb hg9)
                  replace hY_this := hmo _ _ hY_this
                  replace hY_astones := hmo _ _ hY_astones
                  replace hY_adone := hmo _ _ hY_adone
                  replace hY_acost := hmo _ _ hY_acost
                  replace hI := hIn
                  clear hIn hmo hke
                  refine lv_dup hx hb aT_d231 rfl ?_
                  refine lv_iload_n hx hb aT_d232 rfl (lv_at hl 2 rfl) ?_
                  refine lv_iload_n hx hb aT_d233 rfl (lv_at hl 3 rfl) ?_
                  refine lv_iload_n hx hb aT_d234 rfl (lv_at hl 4 rfl) ?_
                  refine lv_iload hx hb aT_d235 (lv_at hl 5 rfl) ?_
                  refine lv_iload hx hb aT_d237 (lv_at hl 6 rfl) ?_
                  refine y_call (z := (2, 104, 6, none, xM18)) (av := [.ref n228, .int k, .int x, .int y, .int h, .int g]) (rest := [.ref n228, .int (f 1), .ref astones]) (y_cokI (n := 5) X ym_wall rfl (x_cons (x_bw23 10 rfl rfl) (x_cons (x_bw23 11 rfl rfl) (x_cons (x_bw0 14 rfl rfl) x_nilm))) (x_bw23 12 rfl rfl) rfl (fun Y av h => x_this h) (by decide +kernel) ⟨Nat.le_of_ble_eq_true rfl, Nat.le_of_ble_eq_true rfl⟩) hY0 hI rfl aT_d239 hl.1 (Nat.le_of_ble_eq_true rfl) (Nat.le_of_ble_eq_true rfl) (Nat.le_of_ble_eq_true rfl) (y_cons (y_cref hY_n228 rfl) (y_cons ⟨_, rfl, x_i32 _⟩ (y_cons ⟨_, rfl, x_i32 _⟩ (y_cons ⟨_, rfl, x_i32 _⟩ (y_cons ⟨_, rfl, x_i32 _⟩ (y_cons ⟨_, rfl, x_i32 _⟩ y_nil)))))) rfl (y_norecv rfl) trivial (y_sub_ef rfl) fun v Yn o Hn L ho hr ha hIn hx_ hE hP => ?_
                  have hPs := hP _ _ _ _ _ _ rfl
                  have hPf := hPs.1 (16, 9) (by decide) hY_n228
                  replace hs_astones := y_Efld hE hY_this rfl (by decide) (by decide) hs_astones
                  replace hs_adone := y_Efld hE hY_this rfl (by decide) (by decide) hs_adone
                  replace hs_acost := y_Efld hE hY_this rfl (by decide) (by decide) hs_acost
                  replace hsi_things := y_Efld hE hY_this rfl (by decide) (by decide) hsi_things
                  replace hA_adone := hA_adone.kept (y_Earr hE hY_adone rfl (by decide))
                  replace hA_acost := hA_acost.kept (y_Earr hE hY_acost rfl (by decide))
                  replace hK := fun b u g9 (hb : Y0 b = some u) (hg9 : x_G[u]? = some g9) => x_eq.trans (x_eq.of (hPs.2 b (fun e0 => absurd (hY0 _ _ hb) (by rw [e0]; exact Nat.not_lt.mpr hfr_n228)))) (hK b u g9 hb hg9)
                  replace hY_this := y_ext hx_ hI.1 hY_this
                  replace hY_astones := y_ext hx_ hI.1 hY_astones
                  replace hY_adone := y_ext hx_ hI.1 hY_adone
                  replace hY_acost := y_ext hx_ hI.1 hY_acost
                  replace hY_n228 := y_ext hx_ hI.1 hY_n228
                  obtain rfl := y_ansV rfl ho hr
                  obtain ⟨hst0, hst1, hst2, hst3, hst4⟩ := hPf
                  clear ho hr ha hE hP hI hx_
                  rename x_I _ _ _ _ _ _ _ _ _ _ => hI
                  have hLc := hL0.xeq hYt0 (y_mon B hI) hK
                  have hs9 := hs_astones
                  refine y_aast X hY0 hI hY_astones rfl hY_n228 rfl rfl (X.2.2.2.2.2.2.2.2.1 _ (x_bn89 7 rfl rfl)) (by omega) (by show _ < (8 : Int); omega) (y_crefA hY_n228 rfl) (by decide +kernel) aT_d242 fun H locs hI h_at h_ne ho => ?_
                  replace hs_astones := y_slk hs_astones (ho _ (y_ne hY_this hY_astones rfl))
                  replace hs_adone := y_slk hs_adone (ho _ (y_ne hY_this hY_astones rfl))
                  replace hs_acost := y_slk hs_acost (ho _ (y_ne hY_this hY_astones rfl))
                  replace hsi_things := y_slk hsi_things (ho _ (y_ne hY_this hY_astones rfl))
                  replace hst0 := y_slk hst0 (ho _ (y_ne hY_n228 hY_astones rfl))
                  replace hst1 := y_slk hst1 (ho _ (y_ne hY_n228 hY_astones rfl))
                  replace hst2 := y_slk hst2 (ho _ (y_ne hY_n228 hY_astones rfl))
                  replace hst3 := y_slk hst3 (ho _ (y_ne hY_n228 hY_astones rfl))
                  replace hst4 := y_slk hst4 (ho _ (y_ne hY_n228 hY_astones rfl))
                  replace hA_adone := hA_adone.kept (ho _ (y_ne hY_adone hY_astones rfl))
                  replace hA_acost := hA_acost.kept (ho _ (y_ne hY_acost hY_astones rfl))
                  refine lv_goto hx hb aT_d243 (tgt := 269) (by decide) ?_
                  have hL := hLc.putS hY_this (j := (f 1).toInt.toNat) (z := (16, 9)) (by omega) hs9 h_at h_ne ho (by decide) hY_n228 (by show ((16 : Nat) : Int) = 11 + k.toInt; omega) hst0 hst1 hst2 hst3 hst4
                  have hF : z_fr D Y0 s.heap _ this := fun b u g9 hb hg9 hn hk9 => x_eq.trans (x_eq.of (ho b (fun e0 => hk9 7 (by decide) (by rw [e0]; exact hs0_astones)))) (hK b u g9 hb hg9)
                  exact aT_L269 B rfl hL0 hs0_astones hs0_adone hs0_acost hd1 hok _ _ _ _ hI hY_this hY_astones hY_adone hY_acost hs_astones hs_adone hs_acost hsi_things hA_adone hA_acost (lv_sub hl [1, 2, 3, 4, 5, 6] rfl) (by first | assumption | omega) (by first | assumption | omega)
              · have q73_ : (8 : Int32).toInt ≤ (f 1).toInt := Int.not_lt.mp fun q => q73 (x_lt32.mpr q)
                refine lv_bipush hx hb aT_d76 (v := (-4)) (by decide) ?_
                have ecm4 : ((-4) : Int32).toInt = (-4) := by decide
                have hL : z_L D _ this _ f := hL0.xeq hYt0 (y_mon B hI) hK
                have hF : z_fr D Y0 s.heap _ this := fun b u g9 hb hg9 _ _ => hK b u g9 hb hg9
                exact y_ireturn B hI rfl rfl rfl List.mem_cons_self ⟨_, rfl, ⟨_, rfl, by decide, by decide⟩⟩ (x_cs.mono B.2.2.2.2.2 (y_mon B hI)) (fun t' k' x' y' h' g' f' h1 h2 => by cases h1; cases h2.uniq hL0; exact ⟨hF, _, _, rfl, hL, fun q9 => absurd hok q9, fun _ _ => ⟨rfl, rfl⟩, fun _ q9 => absurd q9 (by omega)⟩) (by exact Nat.le_of_ble_eq_true rfl) (by exact Nat.le_of_ble_eq_true rfl) aT_d78
            · have q61_ : r58.toInt = (0 : Int32).toInt := by rw [q61]
              have hno : ¬ m_tOk k x y h g := fun q9 => by obtain ⟨a1, a2, a3, a4, a5, a6⟩ := q9; first | (have := hout_r19 (by assumption); omega) | (exact hout_r27 (by assumption) ⟨a2, a3⟩) | (have := hout_r38 (by assumption); omega) | (have := hout_r58 (by assumption); omega)
              refine lv_bipush hx hb aT_d64 (v := (-2)) (by decide) ?_
              have ecm2 : ((-2) : Int32).toInt = (-2) := by decide
              have hL : z_L D _ this _ f := hL0.xeq hYt0 (y_mon B hI) hK
              have hF : z_fr D Y0 s.heap _ this := fun b u g9 hb hg9 _ _ => hK b u g9 hb hg9
              exact y_ireturn B hI rfl rfl rfl List.mem_cons_self ⟨_, rfl, ⟨_, rfl, by decide, by decide⟩⟩ (x_cs.mono B.2.2.2.2.2 (y_mon B hI)) (fun t' k' x' y' h' g' f' h1 h2 => by cases h1; cases h2.uniq hL0; exact ⟨hF, _, _, rfl, hL, fun _ => ⟨rfl, rfl⟩, fun q9 => absurd q9 hno, fun q9 => absurd q9 hno⟩) (by exact Nat.le_of_ble_eq_true rfl) (by exact Nat.le_of_ble_eq_true rfl) aT_d66
  · have q1_ : ¬ k.toInt = (0 : Int32).toInt := fun q => q1 (Int32.toInt_inj.mp q)
    refine lv_iload_n hx hb aT_d4 rfl (lv_at hl 1 rfl) ?_
    refine lv_iconst hx hb aT_d5 (v := 5) (by decide) ?_
    have ec5 : (5 : Int32).toInt = 5 := by decide
    refine lv_icmp_eq hx hb aT_d6 (tgt := 13) (by decide) (fun q6 => ?_) (fun q6 => ?_)
    · have q6_ : k.toInt = (5 : Int32).toInt := by rw [q6]
      refine lv_iconst hx hb aT_d13 (v := 0) (by decide) ?_
      refine lv_istore hx hb aT_d14 hl (by decide) (lv' := [(6, .int (0 : Int32)), (0, .ref this), (1, .int k), (2, .int x), (3, .int y), (4, .int h), (5, .int g)]) rfl fun ls hl => ?_
      refine lv_iload_n hx hb aT_d16 rfl (lv_at hl 2 rfl) ?_
      refine lv_iconst hx hb aT_d17 (v := 0) (by decide) ?_
      refine lv_iconst hx hb aT_d18 (v := 5) (by decide) ?_
      refine y_call (z := (1, 83, 3, none, xM10)) (av := [.int k, .int (0 : Int32), .int (5 : Int32)]) (rest := []) (y_cokSN (n := 3) (host := "TwinFires") X ym_within (x_cons (x_bw19 1 rfl rfl) (x_cons (x_bw0 1 rfl rfl) x_nilm)) (x_bn19 0 rfl rfl) (x_bw19 2 rfl rfl) (by decide +kernel) ⟨Nat.le_of_ble_eq_true rfl, Nat.le_of_ble_eq_true rfl⟩) hY0 hI rfl aT_d19 hl.1 (Nat.le_of_ble_eq_true rfl) (Nat.le_of_ble_eq_true rfl) (Nat.le_of_ble_eq_true rfl) (y_cons ⟨_, rfl, x_i32 _⟩ (y_cons ⟨_, rfl, x_i32 _⟩ (y_cons ⟨_, rfl, x_i32 _⟩ y_nil))) rfl (y_norecv rfl) trivial (y_sub_ef rfl) fun v Yn o Hn L ho hr ha hIn hx_ hE hP => ?_
      replace hs_astones := y_Efld hE hY_this rfl (by decide) (by decide) hs_astones
      replace hs_adone := y_Efld hE hY_this rfl (by decide) (by decide) hs_adone
      replace hs_acost := y_Efld hE hY_this rfl (by decide) (by decide) hs_acost
      replace hsi_things := y_Efld hE hY_this rfl (by decide) (by decide) hsi_things
      replace hA_adone := hA_adone.kept (y_Earr hE hY_adone rfl (by decide))
      replace hA_acost := hA_acost.kept (y_Earr hE hY_acost rfl (by decide))
      replace hK := fun b u g9 (hb : Y0 b = some u) (hg9 : x_G[u]? = some g9) => x_eq.trans (x_eq.E hE (y_mon B hI _ _ hb) hg9 rfl) (hK b u g9 hb hg9)
      replace hY_this := y_ext hx_ hI.1 hY_this
      replace hY_astones := y_ext hx_ hI.1 hY_astones
      replace hY_adone := y_ext hx_ hI.1 hY_adone
      replace hY_acost := y_ext hx_ hI.1 hY_acost
      obtain ⟨r19, rfl, hin_r19, hout_r19⟩ := hP _ _ _ rfl
      clear ho hr ha hE hP hI hx_
      rename x_I _ _ _ _ _ _ _ _ _ _ => hI
      refine lv_if_eq hx hb aT_d22 (tgt := 64) (by decide) (fun q22 => ?_) (fun q22 => ?_)
      · have q22_ : r19.toInt = (0 : Int32).toInt := by rw [q22]
        have hno : ¬ m_tOk k x y h g := fun q9 => by obtain ⟨a1, a2, a3, a4, a5, a6⟩ := q9; first | (have := hout_r19 (by assumption); omega) | (exact hout_r27 (by assumption) ⟨a2, a3⟩) | (have := hout_r38 (by assumption); omega) | (have := hout_r58 (by assumption); omega)
        refine lv_bipush hx hb aT_d64 (v := (-2)) (by decide) ?_
        have ecm2 : ((-2) : Int32).toInt = (-2) := by decide
        have hL : z_L D _ this _ f := hL0.xeq hYt0 (y_mon B hI) hK
        have hF : z_fr D Y0 s.heap _ this := fun b u g9 hb hg9 _ _ => hK b u g9 hb hg9
        exact y_ireturn B hI rfl rfl rfl List.mem_cons_self ⟨_, rfl, ⟨_, rfl, by decide, by decide⟩⟩ (x_cs.mono B.2.2.2.2.2 (y_mon B hI)) (fun t' k' x' y' h' g' f' h1 h2 => by cases h1; cases h2.uniq hL0; exact ⟨hF, _, _, rfl, hL, fun _ => ⟨rfl, rfl⟩, fun q9 => absurd q9 hno, fun q9 => absurd q9 hno⟩) (by exact Nat.le_of_ble_eq_true rfl) (by exact Nat.le_of_ble_eq_true rfl) aT_d66
      · have q22_ : ¬ r19.toInt = (0 : Int32).toInt := fun q => q22 (Int32.toInt_inj.mp q)
        refine lv_iload_n hx hb aT_d25 rfl (lv_at hl 3 rfl) ?_
        refine lv_iload_n hx hb aT_d26 rfl (lv_at hl 4 rfl) ?_
        refine y_call (z := (1, 79, 2, none, xM2)) (av := [.int x, .int y]) (rest := []) (y_cokS (n := 2) X ym_isPlace (x_cons (x_bw18 13 rfl rfl) (x_cons (x_bw18 14 rfl rfl) (x_cons (x_bw0 2 rfl rfl) x_nilm))) (x_bw18 15 rfl rfl) (by decide +kernel) ⟨Nat.le_of_ble_eq_true rfl, Nat.le_of_ble_eq_true rfl⟩) hY0 hI rfl aT_d27 hl.1 (Nat.le_of_ble_eq_true rfl) (Nat.le_of_ble_eq_true rfl) (Nat.le_of_ble_eq_true rfl) (y_cons ⟨_, rfl, x_i32 _⟩ (y_cons ⟨_, rfl, x_i32 _⟩ y_nil)) rfl (y_norecv rfl) trivial (y_sub_ef rfl) fun v Yn o Hn L ho hr ha hIn hx_ hE hP => ?_
        replace hs_astones := y_Efld hE hY_this rfl (by decide) (by decide) hs_astones
        replace hs_adone := y_Efld hE hY_this rfl (by decide) (by decide) hs_adone
        replace hs_acost := y_Efld hE hY_this rfl (by decide) (by decide) hs_acost
        replace hsi_things := y_Efld hE hY_this rfl (by decide) (by decide) hsi_things
        replace hA_adone := hA_adone.kept (y_Earr hE hY_adone rfl (by decide))
        replace hA_acost := hA_acost.kept (y_Earr hE hY_acost rfl (by decide))
        replace hK := fun b u g9 (hb : Y0 b = some u) (hg9 : x_G[u]? = some g9) => x_eq.trans (x_eq.E hE (y_mon B hI _ _ hb) hg9 rfl) (hK b u g9 hb hg9)
        replace hY_this := y_ext hx_ hI.1 hY_this
        replace hY_astones := y_ext hx_ hI.1 hY_astones
        replace hY_adone := y_ext hx_ hI.1 hY_adone
        replace hY_acost := y_ext hx_ hI.1 hY_acost
        obtain ⟨r27, rfl, hin_r27, hout_r27⟩ := hP _ _ rfl
        clear ho hr ha hE hP hI hx_
        rename x_I _ _ _ _ _ _ _ _ _ _ => hI
        refine lv_if_eq hx hb aT_d30 (tgt := 64) (by decide) (fun q30 => ?_) (fun q30 => ?_)
        · have q30_ : r27.toInt = (0 : Int32).toInt := by rw [q30]
          have hno : ¬ m_tOk k x y h g := fun q9 => by obtain ⟨a1, a2, a3, a4, a5, a6⟩ := q9; first | (have := hout_r19 (by assumption); omega) | (exact hout_r27 (by assumption) ⟨a2, a3⟩) | (have := hout_r38 (by assumption); omega) | (have := hout_r58 (by assumption); omega)
          refine lv_bipush hx hb aT_d64 (v := (-2)) (by decide) ?_
          have ecm2 : ((-2) : Int32).toInt = (-2) := by decide
          have hL : z_L D _ this _ f := hL0.xeq hYt0 (y_mon B hI) hK
          have hF : z_fr D Y0 s.heap _ this := fun b u g9 hb hg9 _ _ => hK b u g9 hb hg9
          exact y_ireturn B hI rfl rfl rfl List.mem_cons_self ⟨_, rfl, ⟨_, rfl, by decide, by decide⟩⟩ (x_cs.mono B.2.2.2.2.2 (y_mon B hI)) (fun t' k' x' y' h' g' f' h1 h2 => by cases h1; cases h2.uniq hL0; exact ⟨hF, _, _, rfl, hL, fun _ => ⟨rfl, rfl⟩, fun q9 => absurd q9 hno, fun q9 => absurd q9 hno⟩) (by exact Nat.le_of_ble_eq_true rfl) (by exact Nat.le_of_ble_eq_true rfl) aT_d66
        · have q30_ : ¬ r27.toInt = (0 : Int32).toInt := fun q => q30 (Int32.toInt_inj.mp q)
          refine lv_iload hx hb aT_d33 (lv_at hl 5 rfl) ?_
          refine lv_iconst hx hb aT_d35 (v := 0) (by decide) ?_
          refine lv_bipush hx hb aT_d36 (v := 99) (by decide) ?_
          have ec99 : (99 : Int32).toInt = 99 := by decide
          refine y_call (z := (1, 83, 3, none, xM10)) (av := [.int h, .int (0 : Int32), .int (99 : Int32)]) (rest := []) (y_cokSN (n := 3) (host := "TwinFires") X ym_within (x_cons (x_bw19 1 rfl rfl) (x_cons (x_bw0 1 rfl rfl) x_nilm)) (x_bn19 0 rfl rfl) (x_bw19 2 rfl rfl) (by decide +kernel) ⟨Nat.le_of_ble_eq_true rfl, Nat.le_of_ble_eq_true rfl⟩) hY0 hI rfl aT_d38 hl.1 (Nat.le_of_ble_eq_true rfl) (Nat.le_of_ble_eq_true rfl) (Nat.le_of_ble_eq_true rfl) (y_cons ⟨_, rfl, x_i32 _⟩ (y_cons ⟨_, rfl, x_i32 _⟩ (y_cons ⟨_, rfl, x_i32 _⟩ y_nil))) rfl (y_norecv rfl) trivial (y_sub_ef rfl) fun v Yn o Hn L ho hr ha hIn hx_ hE hP => ?_
          replace hs_astones := y_Efld hE hY_this rfl (by decide) (by decide) hs_astones
          replace hs_adone := y_Efld hE hY_this rfl (by decide) (by decide) hs_adone
          replace hs_acost := y_Efld hE hY_this rfl (by decide) (by decide) hs_acost
          replace hsi_things := y_Efld hE hY_this rfl (by decide) (by decide) hsi_things
          replace hA_adone := hA_adone.kept (y_Earr hE hY_adone rfl (by decide))
          replace hA_acost := hA_acost.kept (y_Earr hE hY_acost rfl (by decide))
          replace hK := fun b u g9 (hb : Y0 b = some u) (hg9 : x_G[u]? = some g9) => x_eq.trans (x_eq.E hE (y_mon B hI _ _ hb) hg9 rfl) (hK b u g9 hb hg9)
          replace hY_this := y_ext hx_ hI.1 hY_this
          replace hY_astones := y_ext hx_ hI.1 hY_astones
          replace hY_adone := y_ext hx_ hI.1 hY_adone
          replace hY_acost := y_ext hx_ hI.1 hY_acost
          obtain ⟨r38, rfl, hin_r38, hout_r38⟩ := hP _ _ _ rfl
          clear ho hr ha hE hP hI hx_
          rename x_I _ _ _ _ _ _ _ _ _ _ => hI
          refine lv_if_eq hx hb aT_d41 (tgt := 64) (by decide) (fun q41 => ?_) (fun q41 => ?_)
          · have q41_ : r38.toInt = (0 : Int32).toInt := by rw [q41]
            have hno : ¬ m_tOk k x y h g := fun q9 => by obtain ⟨a1, a2, a3, a4, a5, a6⟩ := q9; first | (have := hout_r19 (by assumption); omega) | (exact hout_r27 (by assumption) ⟨a2, a3⟩) | (have := hout_r38 (by assumption); omega) | (have := hout_r58 (by assumption); omega)
            refine lv_bipush hx hb aT_d64 (v := (-2)) (by decide) ?_
            have ecm2 : ((-2) : Int32).toInt = (-2) := by decide
            have hL : z_L D _ this _ f := hL0.xeq hYt0 (y_mon B hI) hK
            have hF : z_fr D Y0 s.heap _ this := fun b u g9 hb hg9 _ _ => hK b u g9 hb hg9
            exact y_ireturn B hI rfl rfl rfl List.mem_cons_self ⟨_, rfl, ⟨_, rfl, by decide, by decide⟩⟩ (x_cs.mono B.2.2.2.2.2 (y_mon B hI)) (fun t' k' x' y' h' g' f' h1 h2 => by cases h1; cases h2.uniq hL0; exact ⟨hF, _, _, rfl, hL, fun _ => ⟨rfl, rfl⟩, fun q9 => absurd q9 hno, fun q9 => absurd q9 hno⟩) (by exact Nat.le_of_ble_eq_true rfl) (by exact Nat.le_of_ble_eq_true rfl) aT_d66
          · have q41_ : ¬ r38.toInt = (0 : Int32).toInt := fun q => q41 (Int32.toInt_inj.mp q)
            refine lv_iload hx hb aT_d44 (lv_at hl 6 rfl) ?_
            refine lv_iconst hx hb aT_d46 (v := 0) (by decide) ?_
            refine lv_iload hx hb aT_d47 (lv_at hl 0 rfl) ?_
            refine lv_if_eq hx hb aT_d49 (tgt := 57) (by decide) (fun q49 => ?_) (fun q49 => ?_)
            · have q49_ : (0 : Int32).toInt = (0 : Int32).toInt := by rw [q49]
              refine lv_iconst hx hb aT_d57 (v := 0) (by decide) ?_
              refine y_call (z := (1, 83, 3, none, xM10)) (av := [.int g, .int (0 : Int32), .int (0 : Int32)]) (rest := []) (y_cokSN (n := 3) (host := "TwinFires") X ym_within (x_cons (x_bw19 1 rfl rfl) (x_cons (x_bw0 1 rfl rfl) x_nilm)) (x_bn19 0 rfl rfl) (x_bw19 2 rfl rfl) (by decide +kernel) ⟨Nat.le_of_ble_eq_true rfl, Nat.le_of_ble_eq_true rfl⟩) hY0 hI rfl aT_d58 hl.1 (Nat.le_of_ble_eq_true rfl) (Nat.le_of_ble_eq_true rfl) (Nat.le_of_ble_eq_true rfl) (y_cons ⟨_, rfl, x_i32 _⟩ (y_cons ⟨_, rfl, x_i32 _⟩ (y_cons ⟨_, rfl, x_i32 _⟩ y_nil))) rfl (y_norecv rfl) trivial (y_sub_ef rfl) fun v Yn o Hn L ho hr ha hIn hx_ hE hP => ?_
              replace hs_astones := y_Efld hE hY_this rfl (by decide) (by decide) hs_astones
              replace hs_adone := y_Efld hE hY_this rfl (by decide) (by decide) hs_adone
              replace hs_acost := y_Efld hE hY_this rfl (by decide) (by decide) hs_acost
              replace hsi_things := y_Efld hE hY_this rfl (by decide) (by decide) hsi_things
              replace hA_adone := hA_adone.kept (y_Earr hE hY_adone rfl (by decide))
              replace hA_acost := hA_acost.kept (y_Earr hE hY_acost rfl (by decide))
              replace hK := fun b u g9 (hb : Y0 b = some u) (hg9 : x_G[u]? = some g9) => x_eq.trans (x_eq.E hE (y_mon B hI _ _ hb) hg9 rfl) (hK b u g9 hb hg9)
              replace hY_this := y_ext hx_ hI.1 hY_this
              replace hY_astones := y_ext hx_ hI.1 hY_astones
              replace hY_adone := y_ext hx_ hI.1 hY_adone
              replace hY_acost := y_ext hx_ hI.1 hY_acost
              obtain ⟨r58, rfl, hin_r58, hout_r58⟩ := hP _ _ _ rfl
              clear ho hr ha hE hP hI hx_
              rename x_I _ _ _ _ _ _ _ _ _ _ => hI
              refine lv_if_ne hx hb aT_d61 (tgt := 67) (by decide) (fun q61 => ?_) (fun q61 => ?_)
              · have q61_ : ¬ r58.toInt = (0 : Int32).toInt := fun q => q61 (Int32.toInt_inj.mp q)
                have hw1 := hin_r19 (by assumption)
                have hw2 := hin_r27 (by assumption)
                have hw3 := hin_r38 (by assumption)
                have hw4 := hin_r58 (by assumption)
                have hok : m_tOk k x y h g := ⟨by omega, hw2.1, hw2.2, by omega, by omega, fun q9 => by omega⟩
                refine lv_aload_n hx hb aT_d67 rfl (lv_at hl 1 rfl) ?_
                refine y_getf X (fl42 X.2.2.2.2.1) hI.1 hY_this rfl hsi_things aT_d68 ?_
                refine lv_bipush hx hb aT_d71 (v := 8) (by decide) ?_
                have ec8 : (8 : Int32).toInt = 8 := by decide
                refine lv_icmp_lt hx hb aT_d73 (tgt := 79) (by decide) (fun q73 => ?_) (fun q73 => ?_)
                · have q73_ : (f 1).toInt < (8 : Int32).toInt := x_lt32.mp q73
                  have hd1 : 0 ≤ (f 1).toInt ∧ (f 1).toInt < 8 := by omega
                  refine lv_iload_n hx hb aT_d79 rfl (lv_at hl 2 rfl) ?_
                  have hk9 : 0 ≤ k.toInt ∧ k.toInt ≤ 5 := hok.1
                  by_cases hlo : k.toInt < 1 ∨ 5 < k.toInt
                  · refine lv_tableOut hx hb aT_d80 hlo (tgt := 246) (by decide) ?_
                    refine lv_aload_n hx hb aT_d246 rfl (lv_at hl 1 rfl) ?_
                    refine y_getf X (fl39 X.2.2.2.2.1) hI.1 hY_this rfl hs_astones aT_d247 ?_
                    refine lv_aload_n hx hb aT_d250 rfl (lv_at hl 1 rfl) ?_
                    refine y_getf X (fl42 X.2.2.2.2.1) hI.1 hY_this rfl hsi_things aT_d251 ?_
                    refine y_newo (tag := 11) X hY0 hI rfl ⟨6, _, RX6, TX6, tyX6, rfl, rfl, iX6, tyX6_ok, (hts _ (x_bw2 4 rfl rfl)), (hts _ (x_bw2 9 rfl rfl)), (hts _ (x_bw0 4 rfl rfl)), x_dfl (by decide +kernel)⟩ (Nat.le_of_ble_eq_true rfl) (Nat.le_of_ble_eq_true rfl) aT_d254 fun Yn H n254 hnw => ?_
                    obtain ⟨hIn, hmo, hY_n254, hfr_n254, hke⟩ := hnw
                    replace hs_astones := y_slk hs_astones (hke _ _ hY_this)
                    replace hs_adone := y_slk hs_adone (hke _ _ hY_this)
                    replace hs_acost := y_slk hs_acost (hke _ _ hY_this)
                    replace hsi_things := y_slk hsi_things (hke _ _ hY_this)
                    replace hA_adone := hA_adone.kept (hke _ _ hY_adone)
                    replace hA_acost := hA_acost.kept (hke _ _ hY_acost)
                    replace hK := fun b u g9 (hb : Y0 b = some u) (hg9 : x_G[u]? = some g9) => x_eq.trans (x_eq.of (hke _ _ (y_mon B hI _ _ hb))) (hK b u g9 hb hg9)
                    replace hY_this := hmo _ _ hY_this
                    replace hY_astones := hmo _ _ hY_astones
                    replace hY_adone := hmo _ _ hY_adone
                    replace hY_acost := hmo _ _ hY_acost
                    replace hI := hIn
                    clear hIn hmo hke
                    refine lv_dup hx hb aT_d257 rfl ?_
                    refine lv_iload_n hx hb aT_d258 rfl (lv_at hl 2 rfl) ?_
                    refine lv_iload_n hx hb aT_d259 rfl (lv_at hl 3 rfl) ?_
                    refine lv_iload_n hx hb aT_d260 rfl (lv_at hl 4 rfl) ?_
                    refine lv_iload hx hb aT_d261 (lv_at hl 5 rfl) ?_
                    refine lv_iload hx hb aT_d263 (lv_at hl 6 rfl) ?_
                    refine y_call (z := (2, 60, 6, none, xM13)) (av := [.ref n254, .int k, .int x, .int y, .int h, .int g]) (rest := [.ref n254, .int (f 1), .ref astones]) (y_cokI (n := 5) X ym_stone rfl (x_cons (x_bw2 10 rfl rfl) (x_cons (x_bw2 11 rfl rfl) (x_cons (x_bw0 4 rfl rfl) x_nilm))) (x_bw2 12 rfl rfl) rfl (fun Y av h => x_this h) (by decide +kernel) ⟨Nat.le_of_ble_eq_true rfl, Nat.le_of_ble_eq_true rfl⟩) hY0 hI rfl aT_d265 hl.1 (Nat.le_of_ble_eq_true rfl) (Nat.le_of_ble_eq_true rfl) (Nat.le_of_ble_eq_true rfl) (y_cons (y_cref hY_n254 rfl) (y_cons ⟨_, rfl, x_i32 _⟩ (y_cons ⟨_, rfl, x_i32 _⟩ (y_cons ⟨_, rfl, x_i32 _⟩ (y_cons ⟨_, rfl, x_i32 _⟩ (y_cons ⟨_, rfl, x_i32 _⟩ y_nil)))))) rfl (y_norecv rfl) trivial (y_sub_ef rfl) fun v Yn o Hn L ho hr ha hIn hx_ hE hP => ?_
                    have hPs := hP _ _ _ _ _ _ rfl
                    have hPf := hPs.1 (11, 6) (by decide) hY_n254
                    replace hs_astones := y_Efld hE hY_this rfl (by decide) (by decide) hs_astones
                    replace hs_adone := y_Efld hE hY_this rfl (by decide) (by decide) hs_adone
                    replace hs_acost := y_Efld hE hY_this rfl (by decide) (by decide) hs_acost
                    replace hsi_things := y_Efld hE hY_this rfl (by decide) (by decide) hsi_things
                    replace hA_adone := hA_adone.kept (y_Earr hE hY_adone rfl (by decide))
                    replace hA_acost := hA_acost.kept (y_Earr hE hY_acost rfl (by decide))
                    replace hK := fun b u g9 (hb : Y0 b = some u) (hg9 : x_G[u]? = some g9) => x_eq.trans (x_eq.of (hPs.2 b (fun e0 => absurd (hY0 _ _ hb) (by rw [e0]; exact Nat.not_lt.mpr hfr_n254)))) (hK b u g9 hb hg9)
                    replace hY_this := y_ext hx_ hI.1 hY_this
                    replace hY_astones := y_ext hx_ hI.1 hY_astones
                    replace hY_adone := y_ext hx_ hI.1 hY_adone
                    replace hY_acost := y_ext hx_ hI.1 hY_acost
                    replace hY_n254 := y_ext hx_ hI.1 hY_n254
                    obtain rfl := y_ansV rfl ho hr
                    obtain ⟨hst0, hst1, hst2, hst3, hst4⟩ := hPf
                    clear ho hr ha hE hP hI hx_
                    rename x_I _ _ _ _ _ _ _ _ _ _ => hI
                    have hLc := hL0.xeq hYt0 (y_mon B hI) hK
                    have hs9 := hs_astones
                    refine y_aast X hY0 hI hY_astones rfl hY_n254 rfl rfl (x_castSelf (X.2.2.2.2.2.1.1 6 _ rfl).2) (by omega) (by show _ < (8 : Int); omega) (y_crefA hY_n254 rfl) (by decide +kernel) aT_d268 fun H locs hI h_at h_ne ho => ?_
                    replace hs_astones := y_slk hs_astones (ho _ (y_ne hY_this hY_astones rfl))
                    replace hs_adone := y_slk hs_adone (ho _ (y_ne hY_this hY_astones rfl))
                    replace hs_acost := y_slk hs_acost (ho _ (y_ne hY_this hY_astones rfl))
                    replace hsi_things := y_slk hsi_things (ho _ (y_ne hY_this hY_astones rfl))
                    replace hst0 := y_slk hst0 (ho _ (y_ne hY_n254 hY_astones rfl))
                    replace hst1 := y_slk hst1 (ho _ (y_ne hY_n254 hY_astones rfl))
                    replace hst2 := y_slk hst2 (ho _ (y_ne hY_n254 hY_astones rfl))
                    replace hst3 := y_slk hst3 (ho _ (y_ne hY_n254 hY_astones rfl))
                    replace hst4 := y_slk hst4 (ho _ (y_ne hY_n254 hY_astones rfl))
                    replace hA_adone := hA_adone.kept (ho _ (y_ne hY_adone hY_astones rfl))
                    replace hA_acost := hA_acost.kept (ho _ (y_ne hY_acost hY_astones rfl))
                    have hL := hLc.putS hY_this (j := (f 1).toInt.toNat) (z := (11, 6)) (by omega) hs9 h_at h_ne ho (by decide) hY_n254 (by show ((11 : Nat) : Int) = 11 + k.toInt; omega) hst0 hst1 hst2 hst3 hst4
                    have hF : z_fr D Y0 s.heap _ this := fun b u g9 hb hg9 hn hk9 => x_eq.trans (x_eq.of (ho b (fun e0 => hk9 7 (by decide) (by rw [e0]; exact hs0_astones)))) (hK b u g9 hb hg9)
                    exact aT_L269 B rfl hL0 hs0_astones hs0_adone hs0_acost hd1 hok _ _ _ _ hI hY_this hY_astones hY_adone hY_acost hs_astones hs_adone hs_acost hsi_things hA_adone hA_acost (lv_sub hl [1, 2, 3, 4, 5, 6] rfl) (by first | assumption | omega) (by first | assumption | omega)
                  rcases (show k.toInt = 1 ∨ k.toInt = 2 ∨ k.toInt = 3 ∨ k.toInt = 4 ∨ k.toInt = 5 by omega) with hq9 | hq9 | hq9 | hq9 | hq9
                  · refine lv_tableIn hx hb aT_d80 (by omega) (by omega) (off := 36) (by rw [hq9]; rfl) (tgt := 116) (by decide) ?_
                    refine lv_aload_n hx hb aT_d116 rfl (lv_at hl 1 rfl) ?_
                    refine y_getf X (fl39 X.2.2.2.2.1) hI.1 hY_this rfl hs_astones aT_d117 ?_
                    refine lv_aload_n hx hb aT_d120 rfl (lv_at hl 1 rfl) ?_
                    refine y_getf X (fl42 X.2.2.2.2.1) hI.1 hY_this rfl hsi_things aT_d121 ?_
                    refine y_newo (tag := 12) X hY0 hI rfl ⟨10, _, RX10, TX10, tyX10, rfl, rfl, iX10, tyX10_ok, (hts _ (x_bw20 8 rfl rfl)), (hts _ (x_bw20 9 rfl rfl)), (hts _ (x_bw0 10 rfl rfl)), x_dfl (by decide +kernel)⟩ (Nat.le_of_ble_eq_true rfl) (Nat.le_of_ble_eq_true rfl) aT_d124 fun Yn H n124 hnw => ?_
                    obtain ⟨hIn, hmo, hY_n124, hfr_n124, hke⟩ := hnw
                    replace hs_astones := y_slk hs_astones (hke _ _ hY_this)
                    replace hs_adone := y_slk hs_adone (hke _ _ hY_this)
                    replace hs_acost := y_slk hs_acost (hke _ _ hY_this)
                    replace hsi_things := y_slk hsi_things (hke _ _ hY_this)
                    replace hA_adone := hA_adone.kept (hke _ _ hY_adone)
                    replace hA_acost := hA_acost.kept (hke _ _ hY_acost)
                    replace hK := fun b u g9 (hb : Y0 b = some u) (hg9 : x_G[u]? = some g9) => x_eq.trans (x_eq.of (hke _ _ (y_mon B hI _ _ hb))) (hK b u g9 hb hg9)
                    replace hY_this := hmo _ _ hY_this
                    replace hY_astones := hmo _ _ hY_astones
                    replace hY_adone := hmo _ _ hY_adone
                    replace hY_acost := hmo _ _ hY_acost
                    replace hI := hIn
                    clear hIn hmo hke
                    refine lv_dup hx hb aT_d127 rfl ?_
                    refine lv_iload_n hx hb aT_d128 rfl (lv_at hl 2 rfl) ?_
                    refine lv_iload_n hx hb aT_d129 rfl (lv_at hl 3 rfl) ?_
                    refine lv_iload_n hx hb aT_d130 rfl (lv_at hl 4 rfl) ?_
                    refine lv_iload hx hb aT_d131 (lv_at hl 5 rfl) ?_
                    refine lv_iload hx hb aT_d133 (lv_at hl 6 rfl) ?_
                    refine y_call (z := (2, 92, 6, none, xM14)) (av := [.ref n124, .int k, .int x, .int y, .int h, .int g]) (rest := [.ref n124, .int (f 1), .ref astones]) (y_cokI (n := 5) X ym_wood rfl (x_cons (x_bw20 10 rfl rfl) (x_cons (x_bw20 11 rfl rfl) (x_cons (x_bw0 10 rfl rfl) x_nilm))) (x_bw20 12 rfl rfl) rfl (fun Y av h => x_this h) (by decide +kernel) ⟨Nat.le_of_ble_eq_true rfl, Nat.le_of_ble_eq_true rfl⟩) hY0 hI rfl aT_d135 hl.1 (Nat.le_of_ble_eq_true rfl) (Nat.le_of_ble_eq_true rfl) (Nat.le_of_ble_eq_true rfl) (y_cons (y_cref hY_n124 rfl) (y_cons ⟨_, rfl, x_i32 _⟩ (y_cons ⟨_, rfl, x_i32 _⟩ (y_cons ⟨_, rfl, x_i32 _⟩ (y_cons ⟨_, rfl, x_i32 _⟩ (y_cons ⟨_, rfl, x_i32 _⟩ y_nil)))))) rfl (y_norecv rfl) trivial (y_sub_ef rfl) fun v Yn o Hn L ho hr ha hIn hx_ hE hP => ?_
                    have hPs := hP _ _ _ _ _ _ rfl
                    have hPf := hPs.1 (12, 10) (by decide) hY_n124
                    replace hs_astones := y_Efld hE hY_this rfl (by decide) (by decide) hs_astones
                    replace hs_adone := y_Efld hE hY_this rfl (by decide) (by decide) hs_adone
                    replace hs_acost := y_Efld hE hY_this rfl (by decide) (by decide) hs_acost
                    replace hsi_things := y_Efld hE hY_this rfl (by decide) (by decide) hsi_things
                    replace hA_adone := hA_adone.kept (y_Earr hE hY_adone rfl (by decide))
                    replace hA_acost := hA_acost.kept (y_Earr hE hY_acost rfl (by decide))
                    replace hK := fun b u g9 (hb : Y0 b = some u) (hg9 : x_G[u]? = some g9) => x_eq.trans (x_eq.of (hPs.2 b (fun e0 => absurd (hY0 _ _ hb) (by rw [e0]; exact Nat.not_lt.mpr hfr_n124)))) (hK b u g9 hb hg9)
                    replace hY_this := y_ext hx_ hI.1 hY_this
                    replace hY_astones := y_ext hx_ hI.1 hY_astones
                    replace hY_adone := y_ext hx_ hI.1 hY_adone
                    replace hY_acost := y_ext hx_ hI.1 hY_acost
                    replace hY_n124 := y_ext hx_ hI.1 hY_n124
                    obtain rfl := y_ansV rfl ho hr
                    obtain ⟨hst0, hst1, hst2, hst3, hst4⟩ := hPf
                    clear ho hr ha hE hP hI hx_
                    rename x_I _ _ _ _ _ _ _ _ _ _ => hI
                    have hLc := hL0.xeq hYt0 (y_mon B hI) hK
                    have hs9 := hs_astones
                    refine y_aast X hY0 hI hY_astones rfl hY_n124 rfl rfl (X.2.2.2.2.2.2.2.2.1 _ (x_bn89 3 rfl rfl)) (by omega) (by show _ < (8 : Int); omega) (y_crefA hY_n124 rfl) (by decide +kernel) aT_d138 fun H locs hI h_at h_ne ho => ?_
                    replace hs_astones := y_slk hs_astones (ho _ (y_ne hY_this hY_astones rfl))
                    replace hs_adone := y_slk hs_adone (ho _ (y_ne hY_this hY_astones rfl))
                    replace hs_acost := y_slk hs_acost (ho _ (y_ne hY_this hY_astones rfl))
                    replace hsi_things := y_slk hsi_things (ho _ (y_ne hY_this hY_astones rfl))
                    replace hst0 := y_slk hst0 (ho _ (y_ne hY_n124 hY_astones rfl))
                    replace hst1 := y_slk hst1 (ho _ (y_ne hY_n124 hY_astones rfl))
                    replace hst2 := y_slk hst2 (ho _ (y_ne hY_n124 hY_astones rfl))
                    replace hst3 := y_slk hst3 (ho _ (y_ne hY_n124 hY_astones rfl))
                    replace hst4 := y_slk hst4 (ho _ (y_ne hY_n124 hY_astones rfl))
                    replace hA_adone := hA_adone.kept (ho _ (y_ne hY_adone hY_astones rfl))
                    replace hA_acost := hA_acost.kept (ho _ (y_ne hY_acost hY_astones rfl))
                    refine lv_goto hx hb aT_d139 (tgt := 269) (by decide) ?_
                    have hL := hLc.putS hY_this (j := (f 1).toInt.toNat) (z := (12, 10)) (by omega) hs9 h_at h_ne ho (by decide) hY_n124 (by show ((12 : Nat) : Int) = 11 + k.toInt; omega) hst0 hst1 hst2 hst3 hst4
                    have hF : z_fr D Y0 s.heap _ this := fun b u g9 hb hg9 hn hk9 => x_eq.trans (x_eq.of (ho b (fun e0 => hk9 7 (by decide) (by rw [e0]; exact hs0_astones)))) (hK b u g9 hb hg9)
                    exact aT_L269 B rfl hL0 hs0_astones hs0_adone hs0_acost hd1 hok _ _ _ _ hI hY_this hY_astones hY_adone hY_acost hs_astones hs_adone hs_acost hsi_things hA_adone hA_acost (lv_sub hl [1, 2, 3, 4, 5, 6] rfl) (by first | assumption | omega) (by first | assumption | omega)
                  · refine lv_tableIn hx hb aT_d80 (by omega) (by omega) (off := 62) (by rw [hq9]; rfl) (tgt := 142) (by decide) ?_
                    refine lv_aload_n hx hb aT_d142 rfl (lv_at hl 1 rfl) ?_
                    refine y_getf X (fl39 X.2.2.2.2.1) hI.1 hY_this rfl hs_astones aT_d143 ?_
                    refine lv_aload_n hx hb aT_d146 rfl (lv_at hl 1 rfl) ?_
                    refine y_getf X (fl42 X.2.2.2.2.1) hI.1 hY_this rfl hsi_things aT_d147 ?_
                    refine y_newo (tag := 13) X hY0 hI rfl ⟨4, _, RX4, TX4, tyX4, rfl, rfl, iX4, tyX4_ok, (hts _ (x_bw21 4 rfl rfl)), (hts _ (x_bw21 5 rfl rfl)), (hts _ (x_bw0 11 rfl rfl)), x_dfl (by decide +kernel)⟩ (Nat.le_of_ble_eq_true rfl) (Nat.le_of_ble_eq_true rfl) aT_d150 fun Yn H n150 hnw => ?_
                    obtain ⟨hIn, hmo, hY_n150, hfr_n150, hke⟩ := hnw
                    replace hs_astones := y_slk hs_astones (hke _ _ hY_this)
                    replace hs_adone := y_slk hs_adone (hke _ _ hY_this)
                    replace hs_acost := y_slk hs_acost (hke _ _ hY_this)
                    replace hsi_things := y_slk hsi_things (hke _ _ hY_this)
                    replace hA_adone := hA_adone.kept (hke _ _ hY_adone)
                    replace hA_acost := hA_acost.kept (hke _ _ hY_acost)
                    replace hK := fun b u g9 (hb : Y0 b = some u) (hg9 : x_G[u]? = some g9) => x_eq.trans (x_eq.of (hke _ _ (y_mon B hI _ _ hb))) (hK b u g9 hb hg9)
                    replace hY_this := hmo _ _ hY_this
                    replace hY_astones := hmo _ _ hY_astones
                    replace hY_adone := hmo _ _ hY_adone
                    replace hY_acost := hmo _ _ hY_acost
                    replace hI := hIn
                    clear hIn hmo hke
                    refine lv_dup hx hb aT_d153 rfl ?_
                    refine lv_iload_n hx hb aT_d154 rfl (lv_at hl 2 rfl) ?_
                    refine lv_iload_n hx hb aT_d155 rfl (lv_at hl 3 rfl) ?_
                    refine lv_iload_n hx hb aT_d156 rfl (lv_at hl 4 rfl) ?_
                    refine lv_iload hx hb aT_d157 (lv_at hl 5 rfl) ?_
                    refine lv_iload hx hb aT_d159 (lv_at hl 6 rfl) ?_
                    refine y_call (z := (2, 95, 6, none, xM15)) (av := [.ref n150, .int k, .int x, .int y, .int h, .int g]) (rest := [.ref n150, .int (f 1), .ref astones]) (y_cokI (n := 5) X ym_pine rfl (x_cons (x_bw21 6 rfl rfl) (x_cons (x_bw21 7 rfl rfl) (x_cons (x_bw0 11 rfl rfl) x_nilm))) (x_bw21 8 rfl rfl) rfl (fun Y av h => x_this h) (by decide +kernel) ⟨Nat.le_of_ble_eq_true rfl, Nat.le_of_ble_eq_true rfl⟩) hY0 hI rfl aT_d161 hl.1 (Nat.le_of_ble_eq_true rfl) (Nat.le_of_ble_eq_true rfl) (Nat.le_of_ble_eq_true rfl) (y_cons (y_cref hY_n150 rfl) (y_cons ⟨_, rfl, x_i32 _⟩ (y_cons ⟨_, rfl, x_i32 _⟩ (y_cons ⟨_, rfl, x_i32 _⟩ (y_cons ⟨_, rfl, x_i32 _⟩ (y_cons ⟨_, rfl, x_i32 _⟩ y_nil)))))) rfl (y_norecv rfl) trivial (y_sub_ef rfl) fun v Yn o Hn L ho hr ha hIn hx_ hE hP => ?_
                    have hPs := hP _ _ _ _ _ _ rfl
                    have hPf := hPs.1 (13, 4) (by decide) hY_n150
                    replace hs_astones := y_Efld hE hY_this rfl (by decide) (by decide) hs_astones
                    replace hs_adone := y_Efld hE hY_this rfl (by decide) (by decide) hs_adone
                    replace hs_acost := y_Efld hE hY_this rfl (by decide) (by decide) hs_acost
                    replace hsi_things := y_Efld hE hY_this rfl (by decide) (by decide) hsi_things
                    replace hA_adone := hA_adone.kept (y_Earr hE hY_adone rfl (by decide))
                    replace hA_acost := hA_acost.kept (y_Earr hE hY_acost rfl (by decide))
                    replace hK := fun b u g9 (hb : Y0 b = some u) (hg9 : x_G[u]? = some g9) => x_eq.trans (x_eq.of (hPs.2 b (fun e0 => absurd (hY0 _ _ hb) (by rw [e0]; exact Nat.not_lt.mpr hfr_n150)))) (hK b u g9 hb hg9)
                    replace hY_this := y_ext hx_ hI.1 hY_this
                    replace hY_astones := y_ext hx_ hI.1 hY_astones
                    replace hY_adone := y_ext hx_ hI.1 hY_adone
                    replace hY_acost := y_ext hx_ hI.1 hY_acost
                    replace hY_n150 := y_ext hx_ hI.1 hY_n150
                    obtain rfl := y_ansV rfl ho hr
                    obtain ⟨hst0, hst1, hst2, hst3, hst4⟩ := hPf
                    clear ho hr ha hE hP hI hx_
                    rename x_I _ _ _ _ _ _ _ _ _ _ => hI
                    have hLc := hL0.xeq hYt0 (y_mon B hI) hK
                    have hs9 := hs_astones
                    refine y_aast X hY0 hI hY_astones rfl hY_n150 rfl rfl (X.2.2.2.2.2.2.2.2.1 _ (x_bn89 4 rfl rfl)) (by omega) (by show _ < (8 : Int); omega) (y_crefA hY_n150 rfl) (by decide +kernel) aT_d164 fun H locs hI h_at h_ne ho => ?_
                    replace hs_astones := y_slk hs_astones (ho _ (y_ne hY_this hY_astones rfl))
                    replace hs_adone := y_slk hs_adone (ho _ (y_ne hY_this hY_astones rfl))
                    replace hs_acost := y_slk hs_acost (ho _ (y_ne hY_this hY_astones rfl))
                    replace hsi_things := y_slk hsi_things (ho _ (y_ne hY_this hY_astones rfl))
                    replace hst0 := y_slk hst0 (ho _ (y_ne hY_n150 hY_astones rfl))
                    replace hst1 := y_slk hst1 (ho _ (y_ne hY_n150 hY_astones rfl))
                    replace hst2 := y_slk hst2 (ho _ (y_ne hY_n150 hY_astones rfl))
                    replace hst3 := y_slk hst3 (ho _ (y_ne hY_n150 hY_astones rfl))
                    replace hst4 := y_slk hst4 (ho _ (y_ne hY_n150 hY_astones rfl))
                    replace hA_adone := hA_adone.kept (ho _ (y_ne hY_adone hY_astones rfl))
                    replace hA_acost := hA_acost.kept (ho _ (y_ne hY_acost hY_astones rfl))
                    refine lv_goto hx hb aT_d165 (tgt := 269) (by decide) ?_
                    have hL := hLc.putS hY_this (j := (f 1).toInt.toNat) (z := (13, 4)) (by omega) hs9 h_at h_ne ho (by decide) hY_n150 (by show ((13 : Nat) : Int) = 11 + k.toInt; omega) hst0 hst1 hst2 hst3 hst4
                    have hF : z_fr D Y0 s.heap _ this := fun b u g9 hb hg9 hn hk9 => x_eq.trans (x_eq.of (ho b (fun e0 => hk9 7 (by decide) (by rw [e0]; exact hs0_astones)))) (hK b u g9 hb hg9)
                    exact aT_L269 B rfl hL0 hs0_astones hs0_adone hs0_acost hd1 hok _ _ _ _ hI hY_this hY_astones hY_adone hY_acost hs_astones hs_adone hs_acost hsi_things hA_adone hA_acost (lv_sub hl [1, 2, 3, 4, 5, 6] rfl) (by first | assumption | omega) (by first | assumption | omega)
                  · refine lv_tableIn hx hb aT_d80 (by omega) (by omega) (off := 88) (by rw [hq9]; rfl) (tgt := 168) (by decide) ?_
                    refine lv_aload_n hx hb aT_d168 rfl (lv_at hl 1 rfl) ?_
                    refine y_getf X (fl39 X.2.2.2.2.1) hI.1 hY_this rfl hs_astones aT_d169 ?_
                    refine lv_aload_n hx hb aT_d172 rfl (lv_at hl 1 rfl) ?_
                    refine y_getf X (fl42 X.2.2.2.2.1) hI.1 hY_this rfl hsi_things aT_d173 ?_
                    refine y_newo (tag := 14) X hY0 hI rfl ⟨1, _, RX1, TX1, tyX1, rfl, rfl, iX1, tyX1_ok, (hts _ (x_bw22 0 rfl rfl)), (hts _ (x_bw22 1 rfl rfl)), (hts _ (x_bw0 12 rfl rfl)), x_dfl (by decide +kernel)⟩ (Nat.le_of_ble_eq_true rfl) (Nat.le_of_ble_eq_true rfl) aT_d176 fun Yn H n176 hnw => ?_
                    obtain ⟨hIn, hmo, hY_n176, hfr_n176, hke⟩ := hnw
                    replace hs_astones := y_slk hs_astones (hke _ _ hY_this)
                    replace hs_adone := y_slk hs_adone (hke _ _ hY_this)
                    replace hs_acost := y_slk hs_acost (hke _ _ hY_this)
                    replace hsi_things := y_slk hsi_things (hke _ _ hY_this)
                    replace hA_adone := hA_adone.kept (hke _ _ hY_adone)
                    replace hA_acost := hA_acost.kept (hke _ _ hY_acost)
                    replace hK := fun b u g9 (hb : Y0 b = some u) (hg9 : x_G[u]? = some g9) => x_eq.trans (x_eq.of (hke _ _ (y_mon B hI _ _ hb))) (hK b u g9 hb hg9)
                    replace hY_this := hmo _ _ hY_this
                    replace hY_astones := hmo _ _ hY_astones
                    replace hY_adone := hmo _ _ hY_adone
                    replace hY_acost := hmo _ _ hY_acost
                    replace hI := hIn
                    clear hIn hmo hke
                    refine lv_dup hx hb aT_d179 rfl ?_
                    refine lv_iload_n hx hb aT_d180 rfl (lv_at hl 2 rfl) ?_
                    refine lv_iload_n hx hb aT_d181 rfl (lv_at hl 3 rfl) ?_
                    refine lv_iload_n hx hb aT_d182 rfl (lv_at hl 4 rfl) ?_
                    refine lv_iload hx hb aT_d183 (lv_at hl 5 rfl) ?_
                    refine lv_iload hx hb aT_d185 (lv_at hl 6 rfl) ?_
                    refine y_call (z := (2, 98, 6, none, xM16)) (av := [.ref n176, .int k, .int x, .int y, .int h, .int g]) (rest := [.ref n176, .int (f 1), .ref astones]) (y_cokI (n := 5) X ym_hedge rfl (x_cons (x_bw22 2 rfl rfl) (x_cons (x_bw22 3 rfl rfl) (x_cons (x_bw0 12 rfl rfl) x_nilm))) (x_bw22 4 rfl rfl) rfl (fun Y av h => x_this h) (by decide +kernel) ⟨Nat.le_of_ble_eq_true rfl, Nat.le_of_ble_eq_true rfl⟩) hY0 hI rfl aT_d187 hl.1 (Nat.le_of_ble_eq_true rfl) (Nat.le_of_ble_eq_true rfl) (Nat.le_of_ble_eq_true rfl) (y_cons (y_cref hY_n176 rfl) (y_cons ⟨_, rfl, x_i32 _⟩ (y_cons ⟨_, rfl, x_i32 _⟩ (y_cons ⟨_, rfl, x_i32 _⟩ (y_cons ⟨_, rfl, x_i32 _⟩ (y_cons ⟨_, rfl, x_i32 _⟩ y_nil)))))) rfl (y_norecv rfl) trivial (y_sub_ef rfl) fun v Yn o Hn L ho hr ha hIn hx_ hE hP => ?_
                    have hPs := hP _ _ _ _ _ _ rfl
                    have hPf := hPs.1 (14, 1) (by decide) hY_n176
                    replace hs_astones := y_Efld hE hY_this rfl (by decide) (by decide) hs_astones
                    replace hs_adone := y_Efld hE hY_this rfl (by decide) (by decide) hs_adone
                    replace hs_acost := y_Efld hE hY_this rfl (by decide) (by decide) hs_acost
                    replace hsi_things := y_Efld hE hY_this rfl (by decide) (by decide) hsi_things
                    replace hA_adone := hA_adone.kept (y_Earr hE hY_adone rfl (by decide))
                    replace hA_acost := hA_acost.kept (y_Earr hE hY_acost rfl (by decide))
                    replace hK := fun b u g9 (hb : Y0 b = some u) (hg9 : x_G[u]? = some g9) => x_eq.trans (x_eq.of (hPs.2 b (fun e0 => absurd (hY0 _ _ hb) (by rw [e0]; exact Nat.not_lt.mpr hfr_n176)))) (hK b u g9 hb hg9)
                    replace hY_this := y_ext hx_ hI.1 hY_this
                    replace hY_astones := y_ext hx_ hI.1 hY_astones
                    replace hY_adone := y_ext hx_ hI.1 hY_adone
                    replace hY_acost := y_ext hx_ hI.1 hY_acost
                    replace hY_n176 := y_ext hx_ hI.1 hY_n176
                    obtain rfl := y_ansV rfl ho hr
                    obtain ⟨hst0, hst1, hst2, hst3, hst4⟩ := hPf
                    clear ho hr ha hE hP hI hx_
                    rename x_I _ _ _ _ _ _ _ _ _ _ => hI
                    have hLc := hL0.xeq hYt0 (y_mon B hI) hK
                    have hs9 := hs_astones
                    refine y_aast X hY0 hI hY_astones rfl hY_n176 rfl rfl (X.2.2.2.2.2.2.2.2.1 _ (x_bn89 5 rfl rfl)) (by omega) (by show _ < (8 : Int); omega) (y_crefA hY_n176 rfl) (by decide +kernel) aT_d190 fun H locs hI h_at h_ne ho => ?_
                    replace hs_astones := y_slk hs_astones (ho _ (y_ne hY_this hY_astones rfl))
                    replace hs_adone := y_slk hs_adone (ho _ (y_ne hY_this hY_astones rfl))
                    replace hs_acost := y_slk hs_acost (ho _ (y_ne hY_this hY_astones rfl))
                    replace hsi_things := y_slk hsi_things (ho _ (y_ne hY_this hY_astones rfl))
                    replace hst0 := y_slk hst0 (ho _ (y_ne hY_n176 hY_astones rfl))
                    replace hst1 := y_slk hst1 (ho _ (y_ne hY_n176 hY_astones rfl))
                    replace hst2 := y_slk hst2 (ho _ (y_ne hY_n176 hY_astones rfl))
                    replace hst3 := y_slk hst3 (ho _ (y_ne hY_n176 hY_astones rfl))
                    replace hst4 := y_slk hst4 (ho _ (y_ne hY_n176 hY_astones rfl))
                    replace hA_adone := hA_adone.kept (ho _ (y_ne hY_adone hY_astones rfl))
                    replace hA_acost := hA_acost.kept (ho _ (y_ne hY_acost hY_astones rfl))
                    refine lv_goto hx hb aT_d191 (tgt := 269) (by decide) ?_
                    have hL := hLc.putS hY_this (j := (f 1).toInt.toNat) (z := (14, 1)) (by omega) hs9 h_at h_ne ho (by decide) hY_n176 (by show ((14 : Nat) : Int) = 11 + k.toInt; omega) hst0 hst1 hst2 hst3 hst4
                    have hF : z_fr D Y0 s.heap _ this := fun b u g9 hb hg9 hn hk9 => x_eq.trans (x_eq.of (ho b (fun e0 => hk9 7 (by decide) (by rw [e0]; exact hs0_astones)))) (hK b u g9 hb hg9)
                    exact aT_L269 B rfl hL0 hs0_astones hs0_adone hs0_acost hd1 hok _ _ _ _ hI hY_this hY_astones hY_adone hY_acost hs_astones hs_adone hs_acost hsi_things hA_adone hA_acost (lv_sub hl [1, 2, 3, 4, 5, 6] rfl) (by first | assumption | omega) (by first | assumption | omega)
                  · refine lv_tableIn hx hb aT_d80 (by omega) (by omega) (off := 114) (by rw [hq9]; rfl) (tgt := 194) (by decide) ?_
                    refine lv_aload_n hx hb aT_d194 rfl (lv_at hl 1 rfl) ?_
                    refine y_getf X (fl39 X.2.2.2.2.1) hI.1 hY_this rfl hs_astones aT_d195 ?_
                    refine lv_aload_n hx hb aT_d198 rfl (lv_at hl 1 rfl) ?_
                    refine y_getf X (fl42 X.2.2.2.2.1) hI.1 hY_this rfl hsi_things aT_d199 ?_
                    refine y_newo (tag := 15) X hY0 hI rfl ⟨8, _, RX8, TX8, tyX8, rfl, rfl, iX8, tyX8_ok, (hts _ (x_bw22 12 rfl rfl)), (hts _ (x_bw22 13 rfl rfl)), (hts _ (x_bw0 13 rfl rfl)), x_dfl (by decide +kernel)⟩ (Nat.le_of_ble_eq_true rfl) (Nat.le_of_ble_eq_true rfl) aT_d202 fun Yn H n202 hnw => ?_
                    obtain ⟨hIn, hmo, hY_n202, hfr_n202, hke⟩ := hnw
                    replace hs_astones := y_slk hs_astones (hke _ _ hY_this)
                    replace hs_adone := y_slk hs_adone (hke _ _ hY_this)
                    replace hs_acost := y_slk hs_acost (hke _ _ hY_this)
                    replace hsi_things := y_slk hsi_things (hke _ _ hY_this)
                    replace hA_adone := hA_adone.kept (hke _ _ hY_adone)
                    replace hA_acost := hA_acost.kept (hke _ _ hY_acost)
                    replace hK := fun b u g9 (hb : Y0 b = some u) (hg9 : x_G[u]? = some g9) => x_eq.trans (x_eq.of (hke _ _ (y_mon B hI _ _ hb))) (hK b u g9 hb hg9)
                    replace hY_this := hmo _ _ hY_this
                    replace hY_astones := hmo _ _ hY_astones
                    replace hY_adone := hmo _ _ hY_adone
                    replace hY_acost := hmo _ _ hY_acost
                    replace hI := hIn
                    clear hIn hmo hke
                    refine lv_dup hx hb aT_d205 rfl ?_
                    refine lv_iload_n hx hb aT_d206 rfl (lv_at hl 2 rfl) ?_
                    refine lv_iload_n hx hb aT_d207 rfl (lv_at hl 3 rfl) ?_
                    refine lv_iload_n hx hb aT_d208 rfl (lv_at hl 4 rfl) ?_
                    refine lv_iload hx hb aT_d209 (lv_at hl 5 rfl) ?_
                    refine lv_iload hx hb aT_d211 (lv_at hl 6 rfl) ?_
                    refine y_call (z := (2, 101, 6, none, xM17)) (av := [.ref n202, .int k, .int x, .int y, .int h, .int g]) (rest := [.ref n202, .int (f 1), .ref astones]) (y_cokI (n := 5) X ym_topped rfl (x_cons (x_bw22 14 rfl rfl) (x_cons (x_bw22 15 rfl rfl) (x_cons (x_bw0 13 rfl rfl) x_nilm))) (x_bw23 0 rfl rfl) rfl (fun Y av h => x_this h) (by decide +kernel) ⟨Nat.le_of_ble_eq_true rfl, Nat.le_of_ble_eq_true rfl⟩) hY0 hI rfl aT_d213 hl.1 (Nat.le_of_ble_eq_true rfl) (Nat.le_of_ble_eq_true rfl) (Nat.le_of_ble_eq_true rfl) (y_cons (y_cref hY_n202 rfl) (y_cons ⟨_, rfl, x_i32 _⟩ (y_cons ⟨_, rfl, x_i32 _⟩ (y_cons ⟨_, rfl, x_i32 _⟩ (y_cons ⟨_, rfl, x_i32 _⟩ (y_cons ⟨_, rfl, x_i32 _⟩ y_nil)))))) rfl (y_norecv rfl) trivial (y_sub_ef rfl) fun v Yn o Hn L ho hr ha hIn hx_ hE hP => ?_
                    have hPs := hP _ _ _ _ _ _ rfl
                    have hPf := hPs.1 (15, 8) (by decide) hY_n202
                    replace hs_astones := y_Efld hE hY_this rfl (by decide) (by decide) hs_astones
                    replace hs_adone := y_Efld hE hY_this rfl (by decide) (by decide) hs_adone
                    replace hs_acost := y_Efld hE hY_this rfl (by decide) (by decide) hs_acost
                    replace hsi_things := y_Efld hE hY_this rfl (by decide) (by decide) hsi_things
                    replace hA_adone := hA_adone.kept (y_Earr hE hY_adone rfl (by decide))
                    replace hA_acost := hA_acost.kept (y_Earr hE hY_acost rfl (by decide))
                    replace hK := fun b u g9 (hb : Y0 b = some u) (hg9 : x_G[u]? = some g9) => x_eq.trans (x_eq.of (hPs.2 b (fun e0 => absurd (hY0 _ _ hb) (by rw [e0]; exact Nat.not_lt.mpr hfr_n202)))) (hK b u g9 hb hg9)
                    replace hY_this := y_ext hx_ hI.1 hY_this
                    replace hY_astones := y_ext hx_ hI.1 hY_astones
                    replace hY_adone := y_ext hx_ hI.1 hY_adone
                    replace hY_acost := y_ext hx_ hI.1 hY_acost
                    replace hY_n202 := y_ext hx_ hI.1 hY_n202
                    obtain rfl := y_ansV rfl ho hr
                    obtain ⟨hst0, hst1, hst2, hst3, hst4⟩ := hPf
                    clear ho hr ha hE hP hI hx_
                    rename x_I _ _ _ _ _ _ _ _ _ _ => hI
                    have hLc := hL0.xeq hYt0 (y_mon B hI) hK
                    have hs9 := hs_astones
                    refine y_aast X hY0 hI hY_astones rfl hY_n202 rfl rfl (X.2.2.2.2.2.2.2.2.1 _ (x_bn89 6 rfl rfl)) (by omega) (by show _ < (8 : Int); omega) (y_crefA hY_n202 rfl) (by decide +kernel) aT_d216 fun H locs hI h_at h_ne ho => ?_
                    replace hs_astones := y_slk hs_astones (ho _ (y_ne hY_this hY_astones rfl))
                    replace hs_adone := y_slk hs_adone (ho _ (y_ne hY_this hY_astones rfl))
                    replace hs_acost := y_slk hs_acost (ho _ (y_ne hY_this hY_astones rfl))
                    replace hsi_things := y_slk hsi_things (ho _ (y_ne hY_this hY_astones rfl))
                    replace hst0 := y_slk hst0 (ho _ (y_ne hY_n202 hY_astones rfl))
                    replace hst1 := y_slk hst1 (ho _ (y_ne hY_n202 hY_astones rfl))
                    replace hst2 := y_slk hst2 (ho _ (y_ne hY_n202 hY_astones rfl))
                    replace hst3 := y_slk hst3 (ho _ (y_ne hY_n202 hY_astones rfl))
                    replace hst4 := y_slk hst4 (ho _ (y_ne hY_n202 hY_astones rfl))
                    replace hA_adone := hA_adone.kept (ho _ (y_ne hY_adone hY_astones rfl))
                    replace hA_acost := hA_acost.kept (ho _ (y_ne hY_acost hY_astones rfl))
                    refine lv_goto hx hb aT_d217 (tgt := 269) (by decide) ?_
                    have hL := hLc.putS hY_this (j := (f 1).toInt.toNat) (z := (15, 8)) (by omega) hs9 h_at h_ne ho (by decide) hY_n202 (by show ((15 : Nat) : Int) = 11 + k.toInt; omega) hst0 hst1 hst2 hst3 hst4
                    have hF : z_fr D Y0 s.heap _ this := fun b u g9 hb hg9 hn hk9 => x_eq.trans (x_eq.of (ho b (fun e0 => hk9 7 (by decide) (by rw [e0]; exact hs0_astones)))) (hK b u g9 hb hg9)
                    exact aT_L269 B rfl hL0 hs0_astones hs0_adone hs0_acost hd1 hok _ _ _ _ hI hY_this hY_astones hY_adone hY_acost hs_astones hs_adone hs_acost hsi_things hA_adone hA_acost (lv_sub hl [1, 2, 3, 4, 5, 6] rfl) (by first | assumption | omega) (by first | assumption | omega)
                  · refine lv_tableIn hx hb aT_d80 (by omega) (by omega) (off := 140) (by rw [hq9]; rfl) (tgt := 220) (by decide) ?_
                    refine lv_aload_n hx hb aT_d220 rfl (lv_at hl 1 rfl) ?_
                    refine y_getf X (fl39 X.2.2.2.2.1) hI.1 hY_this rfl hs_astones aT_d221 ?_
                    refine lv_aload_n hx hb aT_d224 rfl (lv_at hl 1 rfl) ?_
                    refine y_getf X (fl42 X.2.2.2.2.1) hI.1 hY_this rfl hsi_things aT_d225 ?_
                    refine y_newo (tag := 16) X hY0 hI rfl ⟨9, _, RX9, TX9, tyX9, rfl, rfl, iX9, tyX9_ok, (hts _ (x_bw23 8 rfl rfl)), (hts _ (x_bw23 9 rfl rfl)), (hts _ (x_bw0 14 rfl rfl)), x_dfl (by decide +kernel)⟩ (Nat.le_of_ble_eq_true rfl) (Nat.le_of_ble_eq_true rfl) aT_d228 fun Yn H n228 hnw => ?_
                    obtain ⟨hIn, hmo, hY_n228, hfr_n228, hke⟩ := hnw
                    replace hs_astones := y_slk hs_astones (hke _ _ hY_this)
                    replace hs_adone := y_slk hs_adone (hke _ _ hY_this)
                    replace hs_acost := y_slk hs_acost (hke _ _ hY_this)
                    replace hsi_things := y_slk hsi_things (hke _ _ hY_this)
                    replace hA_adone := hA_adone.kept (hke _ _ hY_adone)
                    replace hA_acost := hA_acost.kept (hke _ _ hY_acost)
                    replace hK := fun b u g9 (hb : Y0 b = some u) (hg9 : x_G[u]? = some g9) => x_eq.trans (x_eq.of (hke _ _ (y_mon B hI _ _ hb))) (hK b u g9 hb hg9)
                    replace hY_this := hmo _ _ hY_this
                    replace hY_astones := hmo _ _ hY_astones
                    replace hY_adone := hmo _ _ hY_adone
                    replace hY_acost := hmo _ _ hY_acost
                    replace hI := hIn
                    clear hIn hmo hke
                    refine lv_dup hx hb aT_d231 rfl ?_
                    refine lv_iload_n hx hb aT_d232 rfl (lv_at hl 2 rfl) ?_
                    refine lv_iload_n hx hb aT_d233 rfl (lv_at hl 3 rfl) ?_
                    refine lv_iload_n hx hb aT_d234 rfl (lv_at hl 4 rfl) ?_
                    refine lv_iload hx hb aT_d235 (lv_at hl 5 rfl) ?_
                    refine lv_iload hx hb aT_d237 (lv_at hl 6 rfl) ?_
                    refine y_call (z := (2, 104, 6, none, xM18)) (av := [.ref n228, .int k, .int x, .int y, .int h, .int g]) (rest := [.ref n228, .int (f 1), .ref astones]) (y_cokI (n := 5) X ym_wall rfl (x_cons (x_bw23 10 rfl rfl) (x_cons (x_bw23 11 rfl rfl) (x_cons (x_bw0 14 rfl rfl) x_nilm))) (x_bw23 12 rfl rfl) rfl (fun Y av h => x_this h) (by decide +kernel) ⟨Nat.le_of_ble_eq_true rfl, Nat.le_of_ble_eq_true rfl⟩) hY0 hI rfl aT_d239 hl.1 (Nat.le_of_ble_eq_true rfl) (Nat.le_of_ble_eq_true rfl) (Nat.le_of_ble_eq_true rfl) (y_cons (y_cref hY_n228 rfl) (y_cons ⟨_, rfl, x_i32 _⟩ (y_cons ⟨_, rfl, x_i32 _⟩ (y_cons ⟨_, rfl, x_i32 _⟩ (y_cons ⟨_, rfl, x_i32 _⟩ (y_cons ⟨_, rfl, x_i32 _⟩ y_nil)))))) rfl (y_norecv rfl) trivial (y_sub_ef rfl) fun v Yn o Hn L ho hr ha hIn hx_ hE hP => ?_
                    have hPs := hP _ _ _ _ _ _ rfl
                    have hPf := hPs.1 (16, 9) (by decide) hY_n228
                    replace hs_astones := y_Efld hE hY_this rfl (by decide) (by decide) hs_astones
                    replace hs_adone := y_Efld hE hY_this rfl (by decide) (by decide) hs_adone
                    replace hs_acost := y_Efld hE hY_this rfl (by decide) (by decide) hs_acost
                    replace hsi_things := y_Efld hE hY_this rfl (by decide) (by decide) hsi_things
                    replace hA_adone := hA_adone.kept (y_Earr hE hY_adone rfl (by decide))
                    replace hA_acost := hA_acost.kept (y_Earr hE hY_acost rfl (by decide))
                    replace hK := fun b u g9 (hb : Y0 b = some u) (hg9 : x_G[u]? = some g9) => x_eq.trans (x_eq.of (hPs.2 b (fun e0 => absurd (hY0 _ _ hb) (by rw [e0]; exact Nat.not_lt.mpr hfr_n228)))) (hK b u g9 hb hg9)
                    replace hY_this := y_ext hx_ hI.1 hY_this
                    replace hY_astones := y_ext hx_ hI.1 hY_astones
                    replace hY_adone := y_ext hx_ hI.1 hY_adone
                    replace hY_acost := y_ext hx_ hI.1 hY_acost
                    replace hY_n228 := y_ext hx_ hI.1 hY_n228
                    obtain rfl := y_ansV rfl ho hr
                    obtain ⟨hst0, hst1, hst2, hst3, hst4⟩ := hPf
                    clear ho hr ha hE hP hI hx_
                    rename x_I _ _ _ _ _ _ _ _ _ _ => hI
                    have hLc := hL0.xeq hYt0 (y_mon B hI) hK
                    have hs9 := hs_astones
                    refine y_aast X hY0 hI hY_astones rfl hY_n228 rfl rfl (X.2.2.2.2.2.2.2.2.1 _ (x_bn89 7 rfl rfl)) (by omega) (by show _ < (8 : Int); omega) (y_crefA hY_n228 rfl) (by decide +kernel) aT_d242 fun H locs hI h_at h_ne ho => ?_
                    replace hs_astones := y_slk hs_astones (ho _ (y_ne hY_this hY_astones rfl))
                    replace hs_adone := y_slk hs_adone (ho _ (y_ne hY_this hY_astones rfl))
                    replace hs_acost := y_slk hs_acost (ho _ (y_ne hY_this hY_astones rfl))
                    replace hsi_things := y_slk hsi_things (ho _ (y_ne hY_this hY_astones rfl))
                    replace hst0 := y_slk hst0 (ho _ (y_ne hY_n228 hY_astones rfl))
                    replace hst1 := y_slk hst1 (ho _ (y_ne hY_n228 hY_astones rfl))
                    replace hst2 := y_slk hst2 (ho _ (y_ne hY_n228 hY_astones rfl))
                    replace hst3 := y_slk hst3 (ho _ (y_ne hY_n228 hY_astones rfl))
                    replace hst4 := y_slk hst4 (ho _ (y_ne hY_n228 hY_astones rfl))
                    replace hA_adone := hA_adone.kept (ho _ (y_ne hY_adone hY_astones rfl))
                    replace hA_acost := hA_acost.kept (ho _ (y_ne hY_acost hY_astones rfl))
                    refine lv_goto hx hb aT_d243 (tgt := 269) (by decide) ?_
                    have hL := hLc.putS hY_this (j := (f 1).toInt.toNat) (z := (16, 9)) (by omega) hs9 h_at h_ne ho (by decide) hY_n228 (by show ((16 : Nat) : Int) = 11 + k.toInt; omega) hst0 hst1 hst2 hst3 hst4
                    have hF : z_fr D Y0 s.heap _ this := fun b u g9 hb hg9 hn hk9 => x_eq.trans (x_eq.of (ho b (fun e0 => hk9 7 (by decide) (by rw [e0]; exact hs0_astones)))) (hK b u g9 hb hg9)
                    exact aT_L269 B rfl hL0 hs0_astones hs0_adone hs0_acost hd1 hok _ _ _ _ hI hY_this hY_astones hY_adone hY_acost hs_astones hs_adone hs_acost hsi_things hA_adone hA_acost (lv_sub hl [1, 2, 3, 4, 5, 6] rfl) (by first | assumption | omega) (by first | assumption | omega)
                · have q73_ : (8 : Int32).toInt ≤ (f 1).toInt := Int.not_lt.mp fun q => q73 (x_lt32.mpr q)
                  refine lv_bipush hx hb aT_d76 (v := (-4)) (by decide) ?_
                  have ecm4 : ((-4) : Int32).toInt = (-4) := by decide
                  have hL : z_L D _ this _ f := hL0.xeq hYt0 (y_mon B hI) hK
                  have hF : z_fr D Y0 s.heap _ this := fun b u g9 hb hg9 _ _ => hK b u g9 hb hg9
                  exact y_ireturn B hI rfl rfl rfl List.mem_cons_self ⟨_, rfl, ⟨_, rfl, by decide, by decide⟩⟩ (x_cs.mono B.2.2.2.2.2 (y_mon B hI)) (fun t' k' x' y' h' g' f' h1 h2 => by cases h1; cases h2.uniq hL0; exact ⟨hF, _, _, rfl, hL, fun q9 => absurd hok q9, fun _ _ => ⟨rfl, rfl⟩, fun _ q9 => absurd q9 (by omega)⟩) (by exact Nat.le_of_ble_eq_true rfl) (by exact Nat.le_of_ble_eq_true rfl) aT_d78
              · have q61_ : r58.toInt = (0 : Int32).toInt := by rw [q61]
                have hno : ¬ m_tOk k x y h g := fun q9 => by obtain ⟨a1, a2, a3, a4, a5, a6⟩ := q9; first | (have := hout_r19 (by assumption); omega) | (exact hout_r27 (by assumption) ⟨a2, a3⟩) | (have := hout_r38 (by assumption); omega) | (have := hout_r58 (by assumption); omega)
                refine lv_bipush hx hb aT_d64 (v := (-2)) (by decide) ?_
                have ecm2 : ((-2) : Int32).toInt = (-2) := by decide
                have hL : z_L D _ this _ f := hL0.xeq hYt0 (y_mon B hI) hK
                have hF : z_fr D Y0 s.heap _ this := fun b u g9 hb hg9 _ _ => hK b u g9 hb hg9
                exact y_ireturn B hI rfl rfl rfl List.mem_cons_self ⟨_, rfl, ⟨_, rfl, by decide, by decide⟩⟩ (x_cs.mono B.2.2.2.2.2 (y_mon B hI)) (fun t' k' x' y' h' g' f' h1 h2 => by cases h1; cases h2.uniq hL0; exact ⟨hF, _, _, rfl, hL, fun _ => ⟨rfl, rfl⟩, fun q9 => absurd q9 hno, fun q9 => absurd q9 hno⟩) (by exact Nat.le_of_ble_eq_true rfl) (by exact Nat.le_of_ble_eq_true rfl) aT_d66
            · have q49_ : ¬ (0 : Int32).toInt = (0 : Int32).toInt := fun q => q49 (Int32.toInt_inj.mp q)
              refine lv_bipush hx hb aT_d52 (v := 9) (by decide) ?_
              have ec9 : (9 : Int32).toInt = 9 := by decide
              refine lv_goto hx hb aT_d54 (tgt := 58) (by decide) ?_
              refine y_call (z := (1, 83, 3, none, xM10)) (av := [.int g, .int (0 : Int32), .int (9 : Int32)]) (rest := []) (y_cokSN (n := 3) (host := "TwinFires") X ym_within (x_cons (x_bw19 1 rfl rfl) (x_cons (x_bw0 1 rfl rfl) x_nilm)) (x_bn19 0 rfl rfl) (x_bw19 2 rfl rfl) (by decide +kernel) ⟨Nat.le_of_ble_eq_true rfl, Nat.le_of_ble_eq_true rfl⟩) hY0 hI rfl aT_d58 hl.1 (Nat.le_of_ble_eq_true rfl) (Nat.le_of_ble_eq_true rfl) (Nat.le_of_ble_eq_true rfl) (y_cons ⟨_, rfl, x_i32 _⟩ (y_cons ⟨_, rfl, x_i32 _⟩ (y_cons ⟨_, rfl, x_i32 _⟩ y_nil))) rfl (y_norecv rfl) trivial (y_sub_ef rfl) fun v Yn o Hn L ho hr ha hIn hx_ hE hP => ?_
              replace hs_astones := y_Efld hE hY_this rfl (by decide) (by decide) hs_astones
              replace hs_adone := y_Efld hE hY_this rfl (by decide) (by decide) hs_adone
              replace hs_acost := y_Efld hE hY_this rfl (by decide) (by decide) hs_acost
              replace hsi_things := y_Efld hE hY_this rfl (by decide) (by decide) hsi_things
              replace hA_adone := hA_adone.kept (y_Earr hE hY_adone rfl (by decide))
              replace hA_acost := hA_acost.kept (y_Earr hE hY_acost rfl (by decide))
              replace hK := fun b u g9 (hb : Y0 b = some u) (hg9 : x_G[u]? = some g9) => x_eq.trans (x_eq.E hE (y_mon B hI _ _ hb) hg9 rfl) (hK b u g9 hb hg9)
              replace hY_this := y_ext hx_ hI.1 hY_this
              replace hY_astones := y_ext hx_ hI.1 hY_astones
              replace hY_adone := y_ext hx_ hI.1 hY_adone
              replace hY_acost := y_ext hx_ hI.1 hY_acost
              obtain ⟨r58, rfl, hin_r58, hout_r58⟩ := hP _ _ _ rfl
              clear ho hr ha hE hP hI hx_
              rename x_I _ _ _ _ _ _ _ _ _ _ => hI
              refine lv_if_ne hx hb aT_d61 (tgt := 67) (by decide) (fun q61 => ?_) (fun q61 => ?_)
              · have q61_ : ¬ r58.toInt = (0 : Int32).toInt := fun q => q61 (Int32.toInt_inj.mp q)
                have hw1 := hin_r19 (by assumption)
                have hw2 := hin_r27 (by assumption)
                have hw3 := hin_r38 (by assumption)
                have hw4 := hin_r58 (by assumption)
                have hok : m_tOk k x y h g := ⟨by omega, hw2.1, hw2.2, by omega, by omega, fun q9 => by omega⟩
                refine lv_aload_n hx hb aT_d67 rfl (lv_at hl 1 rfl) ?_
                refine y_getf X (fl42 X.2.2.2.2.1) hI.1 hY_this rfl hsi_things aT_d68 ?_
                refine lv_bipush hx hb aT_d71 (v := 8) (by decide) ?_
                have ec8 : (8 : Int32).toInt = 8 := by decide
                refine lv_icmp_lt hx hb aT_d73 (tgt := 79) (by decide) (fun q73 => ?_) (fun q73 => ?_)
                · have q73_ : (f 1).toInt < (8 : Int32).toInt := x_lt32.mp q73
                  have hd1 : 0 ≤ (f 1).toInt ∧ (f 1).toInt < 8 := by omega
                  refine lv_iload_n hx hb aT_d79 rfl (lv_at hl 2 rfl) ?_
                  have hk9 : 0 ≤ k.toInt ∧ k.toInt ≤ 5 := hok.1
                  by_cases hlo : k.toInt < 1 ∨ 5 < k.toInt
                  · refine lv_tableOut hx hb aT_d80 hlo (tgt := 246) (by decide) ?_
                    refine lv_aload_n hx hb aT_d246 rfl (lv_at hl 1 rfl) ?_
                    refine y_getf X (fl39 X.2.2.2.2.1) hI.1 hY_this rfl hs_astones aT_d247 ?_
                    refine lv_aload_n hx hb aT_d250 rfl (lv_at hl 1 rfl) ?_
                    refine y_getf X (fl42 X.2.2.2.2.1) hI.1 hY_this rfl hsi_things aT_d251 ?_
                    refine y_newo (tag := 11) X hY0 hI rfl ⟨6, _, RX6, TX6, tyX6, rfl, rfl, iX6, tyX6_ok, (hts _ (x_bw2 4 rfl rfl)), (hts _ (x_bw2 9 rfl rfl)), (hts _ (x_bw0 4 rfl rfl)), x_dfl (by decide +kernel)⟩ (Nat.le_of_ble_eq_true rfl) (Nat.le_of_ble_eq_true rfl) aT_d254 fun Yn H n254 hnw => ?_
                    obtain ⟨hIn, hmo, hY_n254, hfr_n254, hke⟩ := hnw
                    replace hs_astones := y_slk hs_astones (hke _ _ hY_this)
                    replace hs_adone := y_slk hs_adone (hke _ _ hY_this)
                    replace hs_acost := y_slk hs_acost (hke _ _ hY_this)
                    replace hsi_things := y_slk hsi_things (hke _ _ hY_this)
                    replace hA_adone := hA_adone.kept (hke _ _ hY_adone)
                    replace hA_acost := hA_acost.kept (hke _ _ hY_acost)
                    replace hK := fun b u g9 (hb : Y0 b = some u) (hg9 : x_G[u]? = some g9) => x_eq.trans (x_eq.of (hke _ _ (y_mon B hI _ _ hb))) (hK b u g9 hb hg9)
                    replace hY_this := hmo _ _ hY_this
                    replace hY_astones := hmo _ _ hY_astones
                    replace hY_adone := hmo _ _ hY_adone
                    replace hY_acost := hmo _ _ hY_acost
                    replace hI := hIn
                    clear hIn hmo hke
                    refine lv_dup hx hb aT_d257 rfl ?_
                    refine lv_iload_n hx hb aT_d258 rfl (lv_at hl 2 rfl) ?_
                    refine lv_iload_n hx hb aT_d259 rfl (lv_at hl 3 rfl) ?_
                    refine lv_iload_n hx hb aT_d260 rfl (lv_at hl 4 rfl) ?_
                    refine lv_iload hx hb aT_d261 (lv_at hl 5 rfl) ?_
                    refine lv_iload hx hb aT_d263 (lv_at hl 6 rfl) ?_
                    refine y_call (z := (2, 60, 6, none, xM13)) (av := [.ref n254, .int k, .int x, .int y, .int h, .int g]) (rest := [.ref n254, .int (f 1), .ref astones]) (y_cokI (n := 5) X ym_stone rfl (x_cons (x_bw2 10 rfl rfl) (x_cons (x_bw2 11 rfl rfl) (x_cons (x_bw0 4 rfl rfl) x_nilm))) (x_bw2 12 rfl rfl) rfl (fun Y av h => x_this h) (by decide +kernel) ⟨Nat.le_of_ble_eq_true rfl, Nat.le_of_ble_eq_true rfl⟩) hY0 hI rfl aT_d265 hl.1 (Nat.le_of_ble_eq_true rfl) (Nat.le_of_ble_eq_true rfl) (Nat.le_of_ble_eq_true rfl) (y_cons (y_cref hY_n254 rfl) (y_cons ⟨_, rfl, x_i32 _⟩ (y_cons ⟨_, rfl, x_i32 _⟩ (y_cons ⟨_, rfl, x_i32 _⟩ (y_cons ⟨_, rfl, x_i32 _⟩ (y_cons ⟨_, rfl, x_i32 _⟩ y_nil)))))) rfl (y_norecv rfl) trivial (y_sub_ef rfl) fun v Yn o Hn L ho hr ha hIn hx_ hE hP => ?_
                    have hPs := hP _ _ _ _ _ _ rfl
                    have hPf := hPs.1 (11, 6) (by decide) hY_n254
                    replace hs_astones := y_Efld hE hY_this rfl (by decide) (by decide) hs_astones
                    replace hs_adone := y_Efld hE hY_this rfl (by decide) (by decide) hs_adone
                    replace hs_acost := y_Efld hE hY_this rfl (by decide) (by decide) hs_acost
                    replace hsi_things := y_Efld hE hY_this rfl (by decide) (by decide) hsi_things
                    replace hA_adone := hA_adone.kept (y_Earr hE hY_adone rfl (by decide))
                    replace hA_acost := hA_acost.kept (y_Earr hE hY_acost rfl (by decide))
                    replace hK := fun b u g9 (hb : Y0 b = some u) (hg9 : x_G[u]? = some g9) => x_eq.trans (x_eq.of (hPs.2 b (fun e0 => absurd (hY0 _ _ hb) (by rw [e0]; exact Nat.not_lt.mpr hfr_n254)))) (hK b u g9 hb hg9)
                    replace hY_this := y_ext hx_ hI.1 hY_this
                    replace hY_astones := y_ext hx_ hI.1 hY_astones
                    replace hY_adone := y_ext hx_ hI.1 hY_adone
                    replace hY_acost := y_ext hx_ hI.1 hY_acost
                    replace hY_n254 := y_ext hx_ hI.1 hY_n254
                    obtain rfl := y_ansV rfl ho hr
                    obtain ⟨hst0, hst1, hst2, hst3, hst4⟩ := hPf
                    clear ho hr ha hE hP hI hx_
                    rename x_I _ _ _ _ _ _ _ _ _ _ => hI
                    have hLc := hL0.xeq hYt0 (y_mon B hI) hK
                    have hs9 := hs_astones
                    refine y_aast X hY0 hI hY_astones rfl hY_n254 rfl rfl (x_castSelf (X.2.2.2.2.2.1.1 6 _ rfl).2) (by omega) (by show _ < (8 : Int); omega) (y_crefA hY_n254 rfl) (by decide +kernel) aT_d268 fun H locs hI h_at h_ne ho => ?_
                    replace hs_astones := y_slk hs_astones (ho _ (y_ne hY_this hY_astones rfl))
                    replace hs_adone := y_slk hs_adone (ho _ (y_ne hY_this hY_astones rfl))
                    replace hs_acost := y_slk hs_acost (ho _ (y_ne hY_this hY_astones rfl))
                    replace hsi_things := y_slk hsi_things (ho _ (y_ne hY_this hY_astones rfl))
                    replace hst0 := y_slk hst0 (ho _ (y_ne hY_n254 hY_astones rfl))
                    replace hst1 := y_slk hst1 (ho _ (y_ne hY_n254 hY_astones rfl))
                    replace hst2 := y_slk hst2 (ho _ (y_ne hY_n254 hY_astones rfl))
                    replace hst3 := y_slk hst3 (ho _ (y_ne hY_n254 hY_astones rfl))
                    replace hst4 := y_slk hst4 (ho _ (y_ne hY_n254 hY_astones rfl))
                    replace hA_adone := hA_adone.kept (ho _ (y_ne hY_adone hY_astones rfl))
                    replace hA_acost := hA_acost.kept (ho _ (y_ne hY_acost hY_astones rfl))
                    have hL := hLc.putS hY_this (j := (f 1).toInt.toNat) (z := (11, 6)) (by omega) hs9 h_at h_ne ho (by decide) hY_n254 (by show ((11 : Nat) : Int) = 11 + k.toInt; omega) hst0 hst1 hst2 hst3 hst4
                    have hF : z_fr D Y0 s.heap _ this := fun b u g9 hb hg9 hn hk9 => x_eq.trans (x_eq.of (ho b (fun e0 => hk9 7 (by decide) (by rw [e0]; exact hs0_astones)))) (hK b u g9 hb hg9)
                    exact aT_L269 B rfl hL0 hs0_astones hs0_adone hs0_acost hd1 hok _ _ _ _ hI hY_this hY_astones hY_adone hY_acost hs_astones hs_adone hs_acost hsi_things hA_adone hA_acost (lv_sub hl [1, 2, 3, 4, 5, 6] rfl) (by first | assumption | omega) (by first | assumption | omega)
                  rcases (show k.toInt = 1 ∨ k.toInt = 2 ∨ k.toInt = 3 ∨ k.toInt = 4 ∨ k.toInt = 5 by omega) with hq9 | hq9 | hq9 | hq9 | hq9
                  · refine lv_tableIn hx hb aT_d80 (by omega) (by omega) (off := 36) (by rw [hq9]; rfl) (tgt := 116) (by decide) ?_
                    refine lv_aload_n hx hb aT_d116 rfl (lv_at hl 1 rfl) ?_
                    refine y_getf X (fl39 X.2.2.2.2.1) hI.1 hY_this rfl hs_astones aT_d117 ?_
                    refine lv_aload_n hx hb aT_d120 rfl (lv_at hl 1 rfl) ?_
                    refine y_getf X (fl42 X.2.2.2.2.1) hI.1 hY_this rfl hsi_things aT_d121 ?_
                    refine y_newo (tag := 12) X hY0 hI rfl ⟨10, _, RX10, TX10, tyX10, rfl, rfl, iX10, tyX10_ok, (hts _ (x_bw20 8 rfl rfl)), (hts _ (x_bw20 9 rfl rfl)), (hts _ (x_bw0 10 rfl rfl)), x_dfl (by decide +kernel)⟩ (Nat.le_of_ble_eq_true rfl) (Nat.le_of_ble_eq_true rfl) aT_d124 fun Yn H n124 hnw => ?_
                    obtain ⟨hIn, hmo, hY_n124, hfr_n124, hke⟩ := hnw
                    replace hs_astones := y_slk hs_astones (hke _ _ hY_this)
                    replace hs_adone := y_slk hs_adone (hke _ _ hY_this)
                    replace hs_acost := y_slk hs_acost (hke _ _ hY_this)
                    replace hsi_things := y_slk hsi_things (hke _ _ hY_this)
                    replace hA_adone := hA_adone.kept (hke _ _ hY_adone)
                    replace hA_acost := hA_acost.kept (hke _ _ hY_acost)
                    replace hK := fun b u g9 (hb : Y0 b = some u) (hg9 : x_G[u]? = some g9) => x_eq.trans (x_eq.of (hke _ _ (y_mon B hI _ _ hb))) (hK b u g9 hb hg9)
                    replace hY_this := hmo _ _ hY_this
                    replace hY_astones := hmo _ _ hY_astones
                    replace hY_adone := hmo _ _ hY_adone
                    replace hY_acost := hmo _ _ hY_acost
                    replace hI := hIn
                    clear hIn hmo hke
                    refine lv_dup hx hb aT_d127 rfl ?_
                    refine lv_iload_n hx hb aT_d128 rfl (lv_at hl 2 rfl) ?_
                    refine lv_iload_n hx hb aT_d129 rfl (lv_at hl 3 rfl) ?_
                    refine lv_iload_n hx hb aT_d130 rfl (lv_at hl 4 rfl) ?_
                    refine lv_iload hx hb aT_d131 (lv_at hl 5 rfl) ?_
                    refine lv_iload hx hb aT_d133 (lv_at hl 6 rfl) ?_
                    refine y_call (z := (2, 92, 6, none, xM14)) (av := [.ref n124, .int k, .int x, .int y, .int h, .int g]) (rest := [.ref n124, .int (f 1), .ref astones]) (y_cokI (n := 5) X ym_wood rfl (x_cons (x_bw20 10 rfl rfl) (x_cons (x_bw20 11 rfl rfl) (x_cons (x_bw0 10 rfl rfl) x_nilm))) (x_bw20 12 rfl rfl) rfl (fun Y av h => x_this h) (by decide +kernel) ⟨Nat.le_of_ble_eq_true rfl, Nat.le_of_ble_eq_true rfl⟩) hY0 hI rfl aT_d135 hl.1 (Nat.le_of_ble_eq_true rfl) (Nat.le_of_ble_eq_true rfl) (Nat.le_of_ble_eq_true rfl) (y_cons (y_cref hY_n124 rfl) (y_cons ⟨_, rfl, x_i32 _⟩ (y_cons ⟨_, rfl, x_i32 _⟩ (y_cons ⟨_, rfl, x_i32 _⟩ (y_cons ⟨_, rfl, x_i32 _⟩ (y_cons ⟨_, rfl, x_i32 _⟩ y_nil)))))) rfl (y_norecv rfl) trivial (y_sub_ef rfl) fun v Yn o Hn L ho hr ha hIn hx_ hE hP => ?_
                    have hPs := hP _ _ _ _ _ _ rfl
                    have hPf := hPs.1 (12, 10) (by decide) hY_n124
                    replace hs_astones := y_Efld hE hY_this rfl (by decide) (by decide) hs_astones
                    replace hs_adone := y_Efld hE hY_this rfl (by decide) (by decide) hs_adone
                    replace hs_acost := y_Efld hE hY_this rfl (by decide) (by decide) hs_acost
                    replace hsi_things := y_Efld hE hY_this rfl (by decide) (by decide) hsi_things
                    replace hA_adone := hA_adone.kept (y_Earr hE hY_adone rfl (by decide))
                    replace hA_acost := hA_acost.kept (y_Earr hE hY_acost rfl (by decide))
                    replace hK := fun b u g9 (hb : Y0 b = some u) (hg9 : x_G[u]? = some g9) => x_eq.trans (x_eq.of (hPs.2 b (fun e0 => absurd (hY0 _ _ hb) (by rw [e0]; exact Nat.not_lt.mpr hfr_n124)))) (hK b u g9 hb hg9)
                    replace hY_this := y_ext hx_ hI.1 hY_this
                    replace hY_astones := y_ext hx_ hI.1 hY_astones
                    replace hY_adone := y_ext hx_ hI.1 hY_adone
                    replace hY_acost := y_ext hx_ hI.1 hY_acost
                    replace hY_n124 := y_ext hx_ hI.1 hY_n124
                    obtain rfl := y_ansV rfl ho hr
                    obtain ⟨hst0, hst1, hst2, hst3, hst4⟩ := hPf
                    clear ho hr ha hE hP hI hx_
                    rename x_I _ _ _ _ _ _ _ _ _ _ => hI
                    have hLc := hL0.xeq hYt0 (y_mon B hI) hK
                    have hs9 := hs_astones
                    refine y_aast X hY0 hI hY_astones rfl hY_n124 rfl rfl (X.2.2.2.2.2.2.2.2.1 _ (x_bn89 3 rfl rfl)) (by omega) (by show _ < (8 : Int); omega) (y_crefA hY_n124 rfl) (by decide +kernel) aT_d138 fun H locs hI h_at h_ne ho => ?_
                    replace hs_astones := y_slk hs_astones (ho _ (y_ne hY_this hY_astones rfl))
                    replace hs_adone := y_slk hs_adone (ho _ (y_ne hY_this hY_astones rfl))
                    replace hs_acost := y_slk hs_acost (ho _ (y_ne hY_this hY_astones rfl))
                    replace hsi_things := y_slk hsi_things (ho _ (y_ne hY_this hY_astones rfl))
                    replace hst0 := y_slk hst0 (ho _ (y_ne hY_n124 hY_astones rfl))
                    replace hst1 := y_slk hst1 (ho _ (y_ne hY_n124 hY_astones rfl))
                    replace hst2 := y_slk hst2 (ho _ (y_ne hY_n124 hY_astones rfl))
                    replace hst3 := y_slk hst3 (ho _ (y_ne hY_n124 hY_astones rfl))
                    replace hst4 := y_slk hst4 (ho _ (y_ne hY_n124 hY_astones rfl))
                    replace hA_adone := hA_adone.kept (ho _ (y_ne hY_adone hY_astones rfl))
                    replace hA_acost := hA_acost.kept (ho _ (y_ne hY_acost hY_astones rfl))
                    refine lv_goto hx hb aT_d139 (tgt := 269) (by decide) ?_
                    have hL := hLc.putS hY_this (j := (f 1).toInt.toNat) (z := (12, 10)) (by omega) hs9 h_at h_ne ho (by decide) hY_n124 (by show ((12 : Nat) : Int) = 11 + k.toInt; omega) hst0 hst1 hst2 hst3 hst4
                    have hF : z_fr D Y0 s.heap _ this := fun b u g9 hb hg9 hn hk9 => x_eq.trans (x_eq.of (ho b (fun e0 => hk9 7 (by decide) (by rw [e0]; exact hs0_astones)))) (hK b u g9 hb hg9)
                    exact aT_L269 B rfl hL0 hs0_astones hs0_adone hs0_acost hd1 hok _ _ _ _ hI hY_this hY_astones hY_adone hY_acost hs_astones hs_adone hs_acost hsi_things hA_adone hA_acost (lv_sub hl [1, 2, 3, 4, 5, 6] rfl) (by first | assumption | omega) (by first | assumption | omega)
                  · refine lv_tableIn hx hb aT_d80 (by omega) (by omega) (off := 62) (by rw [hq9]; rfl) (tgt := 142) (by decide) ?_
                    refine lv_aload_n hx hb aT_d142 rfl (lv_at hl 1 rfl) ?_
                    refine y_getf X (fl39 X.2.2.2.2.1) hI.1 hY_this rfl hs_astones aT_d143 ?_
                    refine lv_aload_n hx hb aT_d146 rfl (lv_at hl 1 rfl) ?_
                    refine y_getf X (fl42 X.2.2.2.2.1) hI.1 hY_this rfl hsi_things aT_d147 ?_
                    refine y_newo (tag := 13) X hY0 hI rfl ⟨4, _, RX4, TX4, tyX4, rfl, rfl, iX4, tyX4_ok, (hts _ (x_bw21 4 rfl rfl)), (hts _ (x_bw21 5 rfl rfl)), (hts _ (x_bw0 11 rfl rfl)), x_dfl (by decide +kernel)⟩ (Nat.le_of_ble_eq_true rfl) (Nat.le_of_ble_eq_true rfl) aT_d150 fun Yn H n150 hnw => ?_
                    obtain ⟨hIn, hmo, hY_n150, hfr_n150, hke⟩ := hnw
                    replace hs_astones := y_slk hs_astones (hke _ _ hY_this)
                    replace hs_adone := y_slk hs_adone (hke _ _ hY_this)
                    replace hs_acost := y_slk hs_acost (hke _ _ hY_this)
                    replace hsi_things := y_slk hsi_things (hke _ _ hY_this)
                    replace hA_adone := hA_adone.kept (hke _ _ hY_adone)
                    replace hA_acost := hA_acost.kept (hke _ _ hY_acost)
                    replace hK := fun b u g9 (hb : Y0 b = some u) (hg9 : x_G[u]? = some g9) => x_eq.trans (x_eq.of (hke _ _ (y_mon B hI _ _ hb))) (hK b u g9 hb hg9)
                    replace hY_this := hmo _ _ hY_this
                    replace hY_astones := hmo _ _ hY_astones
                    replace hY_adone := hmo _ _ hY_adone
                    replace hY_acost := hmo _ _ hY_acost
                    replace hI := hIn
                    clear hIn hmo hke
                    refine lv_dup hx hb aT_d153 rfl ?_
                    refine lv_iload_n hx hb aT_d154 rfl (lv_at hl 2 rfl) ?_
                    refine lv_iload_n hx hb aT_d155 rfl (lv_at hl 3 rfl) ?_
                    refine lv_iload_n hx hb aT_d156 rfl (lv_at hl 4 rfl) ?_
                    refine lv_iload hx hb aT_d157 (lv_at hl 5 rfl) ?_
                    refine lv_iload hx hb aT_d159 (lv_at hl 6 rfl) ?_
                    refine y_call (z := (2, 95, 6, none, xM15)) (av := [.ref n150, .int k, .int x, .int y, .int h, .int g]) (rest := [.ref n150, .int (f 1), .ref astones]) (y_cokI (n := 5) X ym_pine rfl (x_cons (x_bw21 6 rfl rfl) (x_cons (x_bw21 7 rfl rfl) (x_cons (x_bw0 11 rfl rfl) x_nilm))) (x_bw21 8 rfl rfl) rfl (fun Y av h => x_this h) (by decide +kernel) ⟨Nat.le_of_ble_eq_true rfl, Nat.le_of_ble_eq_true rfl⟩) hY0 hI rfl aT_d161 hl.1 (Nat.le_of_ble_eq_true rfl) (Nat.le_of_ble_eq_true rfl) (Nat.le_of_ble_eq_true rfl) (y_cons (y_cref hY_n150 rfl) (y_cons ⟨_, rfl, x_i32 _⟩ (y_cons ⟨_, rfl, x_i32 _⟩ (y_cons ⟨_, rfl, x_i32 _⟩ (y_cons ⟨_, rfl, x_i32 _⟩ (y_cons ⟨_, rfl, x_i32 _⟩ y_nil)))))) rfl (y_norecv rfl) trivial (y_sub_ef rfl) fun v Yn o Hn L ho hr ha hIn hx_ hE hP => ?_
                    have hPs := hP _ _ _ _ _ _ rfl
                    have hPf := hPs.1 (13, 4) (by decide) hY_n150
                    replace hs_astones := y_Efld hE hY_this rfl (by decide) (by decide) hs_astones
                    replace hs_adone := y_Efld hE hY_this rfl (by decide) (by decide) hs_adone
                    replace hs_acost := y_Efld hE hY_this rfl (by decide) (by decide) hs_acost
                    replace hsi_things := y_Efld hE hY_this rfl (by decide) (by decide) hsi_things
                    replace hA_adone := hA_adone.kept (y_Earr hE hY_adone rfl (by decide))
                    replace hA_acost := hA_acost.kept (y_Earr hE hY_acost rfl (by decide))
                    replace hK := fun b u g9 (hb : Y0 b = some u) (hg9 : x_G[u]? = some g9) => x_eq.trans (x_eq.of (hPs.2 b (fun e0 => absurd (hY0 _ _ hb) (by rw [e0]; exact Nat.not_lt.mpr hfr_n150)))) (hK b u g9 hb hg9)
                    replace hY_this := y_ext hx_ hI.1 hY_this
                    replace hY_astones := y_ext hx_ hI.1 hY_astones
                    replace hY_adone := y_ext hx_ hI.1 hY_adone
                    replace hY_acost := y_ext hx_ hI.1 hY_acost
                    replace hY_n150 := y_ext hx_ hI.1 hY_n150
                    obtain rfl := y_ansV rfl ho hr
                    obtain ⟨hst0, hst1, hst2, hst3, hst4⟩ := hPf
                    clear ho hr ha hE hP hI hx_
                    rename x_I _ _ _ _ _ _ _ _ _ _ => hI
                    have hLc := hL0.xeq hYt0 (y_mon B hI) hK
                    have hs9 := hs_astones
                    refine y_aast X hY0 hI hY_astones rfl hY_n150 rfl rfl (X.2.2.2.2.2.2.2.2.1 _ (x_bn89 4 rfl rfl)) (by omega) (by show _ < (8 : Int); omega) (y_crefA hY_n150 rfl) (by decide +kernel) aT_d164 fun H locs hI h_at h_ne ho => ?_
                    replace hs_astones := y_slk hs_astones (ho _ (y_ne hY_this hY_astones rfl))
                    replace hs_adone := y_slk hs_adone (ho _ (y_ne hY_this hY_astones rfl))
                    replace hs_acost := y_slk hs_acost (ho _ (y_ne hY_this hY_astones rfl))
                    replace hsi_things := y_slk hsi_things (ho _ (y_ne hY_this hY_astones rfl))
                    replace hst0 := y_slk hst0 (ho _ (y_ne hY_n150 hY_astones rfl))
                    replace hst1 := y_slk hst1 (ho _ (y_ne hY_n150 hY_astones rfl))
                    replace hst2 := y_slk hst2 (ho _ (y_ne hY_n150 hY_astones rfl))
                    replace hst3 := y_slk hst3 (ho _ (y_ne hY_n150 hY_astones rfl))
                    replace hst4 := y_slk hst4 (ho _ (y_ne hY_n150 hY_astones rfl))
                    replace hA_adone := hA_adone.kept (ho _ (y_ne hY_adone hY_astones rfl))
                    replace hA_acost := hA_acost.kept (ho _ (y_ne hY_acost hY_astones rfl))
                    refine lv_goto hx hb aT_d165 (tgt := 269) (by decide) ?_
                    have hL := hLc.putS hY_this (j := (f 1).toInt.toNat) (z := (13, 4)) (by omega) hs9 h_at h_ne ho (by decide) hY_n150 (by show ((13 : Nat) : Int) = 11 + k.toInt; omega) hst0 hst1 hst2 hst3 hst4
                    have hF : z_fr D Y0 s.heap _ this := fun b u g9 hb hg9 hn hk9 => x_eq.trans (x_eq.of (ho b (fun e0 => hk9 7 (by decide) (by rw [e0]; exact hs0_astones)))) (hK b u g9 hb hg9)
                    exact aT_L269 B rfl hL0 hs0_astones hs0_adone hs0_acost hd1 hok _ _ _ _ hI hY_this hY_astones hY_adone hY_acost hs_astones hs_adone hs_acost hsi_things hA_adone hA_acost (lv_sub hl [1, 2, 3, 4, 5, 6] rfl) (by first | assumption | omega) (by first | assumption | omega)
                  · refine lv_tableIn hx hb aT_d80 (by omega) (by omega) (off := 88) (by rw [hq9]; rfl) (tgt := 168) (by decide) ?_
                    refine lv_aload_n hx hb aT_d168 rfl (lv_at hl 1 rfl) ?_
                    refine y_getf X (fl39 X.2.2.2.2.1) hI.1 hY_this rfl hs_astones aT_d169 ?_
                    refine lv_aload_n hx hb aT_d172 rfl (lv_at hl 1 rfl) ?_
                    refine y_getf X (fl42 X.2.2.2.2.1) hI.1 hY_this rfl hsi_things aT_d173 ?_
                    refine y_newo (tag := 14) X hY0 hI rfl ⟨1, _, RX1, TX1, tyX1, rfl, rfl, iX1, tyX1_ok, (hts _ (x_bw22 0 rfl rfl)), (hts _ (x_bw22 1 rfl rfl)), (hts _ (x_bw0 12 rfl rfl)), x_dfl (by decide +kernel)⟩ (Nat.le_of_ble_eq_true rfl) (Nat.le_of_ble_eq_true rfl) aT_d176 fun Yn H n176 hnw => ?_
                    obtain ⟨hIn, hmo, hY_n176, hfr_n176, hke⟩ := hnw
                    replace hs_astones := y_slk hs_astones (hke _ _ hY_this)
                    replace hs_adone := y_slk hs_adone (hke _ _ hY_this)
                    replace hs_acost := y_slk hs_acost (hke _ _ hY_this)
                    replace hsi_things := y_slk hsi_things (hke _ _ hY_this)
                    replace hA_adone := hA_adone.kept (hke _ _ hY_adone)
                    replace hA_acost := hA_acost.kept (hke _ _ hY_acost)
                    replace hK := fun b u g9 (hb : Y0 b = some u) (hg9 : x_G[u]? = some g9) => x_eq.trans (x_eq.of (hke _ _ (y_mon B hI _ _ hb))) (hK b u g9 hb hg9)
                    replace hY_this := hmo _ _ hY_this
                    replace hY_astones := hmo _ _ hY_astones
                    replace hY_adone := hmo _ _ hY_adone
                    replace hY_acost := hmo _ _ hY_acost
                    replace hI := hIn
                    clear hIn hmo hke
                    refine lv_dup hx hb aT_d179 rfl ?_
                    refine lv_iload_n hx hb aT_d180 rfl (lv_at hl 2 rfl) ?_
                    refine lv_iload_n hx hb aT_d181 rfl (lv_at hl 3 rfl) ?_
                    refine lv_iload_n hx hb aT_d182 rfl (lv_at hl 4 rfl) ?_
                    refine lv_iload hx hb aT_d183 (lv_at hl 5 rfl) ?_
                    refine lv_iload hx hb aT_d185 (lv_at hl 6 rfl) ?_
                    refine y_call (z := (2, 98, 6, none, xM16)) (av := [.ref n176, .int k, .int x, .int y, .int h, .int g]) (rest := [.ref n176, .int (f 1), .ref astones]) (y_cokI (n := 5) X ym_hedge rfl (x_cons (x_bw22 2 rfl rfl) (x_cons (x_bw22 3 rfl rfl) (x_cons (x_bw0 12 rfl rfl) x_nilm))) (x_bw22 4 rfl rfl) rfl (fun Y av h => x_this h) (by decide +kernel) ⟨Nat.le_of_ble_eq_true rfl, Nat.le_of_ble_eq_true rfl⟩) hY0 hI rfl aT_d187 hl.1 (Nat.le_of_ble_eq_true rfl) (Nat.le_of_ble_eq_true rfl) (Nat.le_of_ble_eq_true rfl) (y_cons (y_cref hY_n176 rfl) (y_cons ⟨_, rfl, x_i32 _⟩ (y_cons ⟨_, rfl, x_i32 _⟩ (y_cons ⟨_, rfl, x_i32 _⟩ (y_cons ⟨_, rfl, x_i32 _⟩ (y_cons ⟨_, rfl, x_i32 _⟩ y_nil)))))) rfl (y_norecv rfl) trivial (y_sub_ef rfl) fun v Yn o Hn L ho hr ha hIn hx_ hE hP => ?_
                    have hPs := hP _ _ _ _ _ _ rfl
                    have hPf := hPs.1 (14, 1) (by decide) hY_n176
                    replace hs_astones := y_Efld hE hY_this rfl (by decide) (by decide) hs_astones
                    replace hs_adone := y_Efld hE hY_this rfl (by decide) (by decide) hs_adone
                    replace hs_acost := y_Efld hE hY_this rfl (by decide) (by decide) hs_acost
                    replace hsi_things := y_Efld hE hY_this rfl (by decide) (by decide) hsi_things
                    replace hA_adone := hA_adone.kept (y_Earr hE hY_adone rfl (by decide))
                    replace hA_acost := hA_acost.kept (y_Earr hE hY_acost rfl (by decide))
                    replace hK := fun b u g9 (hb : Y0 b = some u) (hg9 : x_G[u]? = some g9) => x_eq.trans (x_eq.of (hPs.2 b (fun e0 => absurd (hY0 _ _ hb) (by rw [e0]; exact Nat.not_lt.mpr hfr_n176)))) (hK b u g9 hb hg9)
                    replace hY_this := y_ext hx_ hI.1 hY_this
                    replace hY_astones := y_ext hx_ hI.1 hY_astones
                    replace hY_adone := y_ext hx_ hI.1 hY_adone
                    replace hY_acost := y_ext hx_ hI.1 hY_acost
                    replace hY_n176 := y_ext hx_ hI.1 hY_n176
                    obtain rfl := y_ansV rfl ho hr
                    obtain ⟨hst0, hst1, hst2, hst3, hst4⟩ := hPf
                    clear ho hr ha hE hP hI hx_
                    rename x_I _ _ _ _ _ _ _ _ _ _ => hI
                    have hLc := hL0.xeq hYt0 (y_mon B hI) hK
                    have hs9 := hs_astones
                    refine y_aast X hY0 hI hY_astones rfl hY_n176 rfl rfl (X.2.2.2.2.2.2.2.2.1 _ (x_bn89 5 rfl rfl)) (by omega) (by show _ < (8 : Int); omega) (y_crefA hY_n176 rfl) (by decide +kernel) aT_d190 fun H locs hI h_at h_ne ho => ?_
                    replace hs_astones := y_slk hs_astones (ho _ (y_ne hY_this hY_astones rfl))
                    replace hs_adone := y_slk hs_adone (ho _ (y_ne hY_this hY_astones rfl))
                    replace hs_acost := y_slk hs_acost (ho _ (y_ne hY_this hY_astones rfl))
                    replace hsi_things := y_slk hsi_things (ho _ (y_ne hY_this hY_astones rfl))
                    replace hst0 := y_slk hst0 (ho _ (y_ne hY_n176 hY_astones rfl))
                    replace hst1 := y_slk hst1 (ho _ (y_ne hY_n176 hY_astones rfl))
                    replace hst2 := y_slk hst2 (ho _ (y_ne hY_n176 hY_astones rfl))
                    replace hst3 := y_slk hst3 (ho _ (y_ne hY_n176 hY_astones rfl))
                    replace hst4 := y_slk hst4 (ho _ (y_ne hY_n176 hY_astones rfl))
                    replace hA_adone := hA_adone.kept (ho _ (y_ne hY_adone hY_astones rfl))
                    replace hA_acost := hA_acost.kept (ho _ (y_ne hY_acost hY_astones rfl))
                    refine lv_goto hx hb aT_d191 (tgt := 269) (by decide) ?_
                    have hL := hLc.putS hY_this (j := (f 1).toInt.toNat) (z := (14, 1)) (by omega) hs9 h_at h_ne ho (by decide) hY_n176 (by show ((14 : Nat) : Int) = 11 + k.toInt; omega) hst0 hst1 hst2 hst3 hst4
                    have hF : z_fr D Y0 s.heap _ this := fun b u g9 hb hg9 hn hk9 => x_eq.trans (x_eq.of (ho b (fun e0 => hk9 7 (by decide) (by rw [e0]; exact hs0_astones)))) (hK b u g9 hb hg9)
                    exact aT_L269 B rfl hL0 hs0_astones hs0_adone hs0_acost hd1 hok _ _ _ _ hI hY_this hY_astones hY_adone hY_acost hs_astones hs_adone hs_acost hsi_things hA_adone hA_acost (lv_sub hl [1, 2, 3, 4, 5, 6] rfl) (by first | assumption | omega) (by first | assumption | omega)
                  · refine lv_tableIn hx hb aT_d80 (by omega) (by omega) (off := 114) (by rw [hq9]; rfl) (tgt := 194) (by decide) ?_
                    refine lv_aload_n hx hb aT_d194 rfl (lv_at hl 1 rfl) ?_
                    refine y_getf X (fl39 X.2.2.2.2.1) hI.1 hY_this rfl hs_astones aT_d195 ?_
                    refine lv_aload_n hx hb aT_d198 rfl (lv_at hl 1 rfl) ?_
                    refine y_getf X (fl42 X.2.2.2.2.1) hI.1 hY_this rfl hsi_things aT_d199 ?_
                    refine y_newo (tag := 15) X hY0 hI rfl ⟨8, _, RX8, TX8, tyX8, rfl, rfl, iX8, tyX8_ok, (hts _ (x_bw22 12 rfl rfl)), (hts _ (x_bw22 13 rfl rfl)), (hts _ (x_bw0 13 rfl rfl)), x_dfl (by decide +kernel)⟩ (Nat.le_of_ble_eq_true rfl) (Nat.le_of_ble_eq_true rfl) aT_d202 fun Yn H n202 hnw => ?_
                    obtain ⟨hIn, hmo, hY_n202, hfr_n202, hke⟩ := hnw
                    replace hs_astones := y_slk hs_astones (hke _ _ hY_this)
                    replace hs_adone := y_slk hs_adone (hke _ _ hY_this)
                    replace hs_acost := y_slk hs_acost (hke _ _ hY_this)
                    replace hsi_things := y_slk hsi_things (hke _ _ hY_this)
                    replace hA_adone := hA_adone.kept (hke _ _ hY_adone)
                    replace hA_acost := hA_acost.kept (hke _ _ hY_acost)
                    replace hK := fun b u g9 (hb : Y0 b = some u) (hg9 : x_G[u]? = some g9) => x_eq.trans (x_eq.of (hke _ _ (y_mon B hI _ _ hb))) (hK b u g9 hb hg9)
                    replace hY_this := hmo _ _ hY_this
                    replace hY_astones := hmo _ _ hY_astones
                    replace hY_adone := hmo _ _ hY_adone
                    replace hY_acost := hmo _ _ hY_acost
                    replace hI := hIn
                    clear hIn hmo hke
                    refine lv_dup hx hb aT_d205 rfl ?_
                    refine lv_iload_n hx hb aT_d206 rfl (lv_at hl 2 rfl) ?_
                    refine lv_iload_n hx hb aT_d207 rfl (lv_at hl 3 rfl) ?_
                    refine lv_iload_n hx hb aT_d208 rfl (lv_at hl 4 rfl) ?_
                    refine lv_iload hx hb aT_d209 (lv_at hl 5 rfl) ?_
                    refine lv_iload hx hb aT_d211 (lv_at hl 6 rfl) ?_
                    refine y_call (z := (2, 101, 6, none, xM17)) (av := [.ref n202, .int k, .int x, .int y, .int h, .int g]) (rest := [.ref n202, .int (f 1), .ref astones]) (y_cokI (n := 5) X ym_topped rfl (x_cons (x_bw22 14 rfl rfl) (x_cons (x_bw22 15 rfl rfl) (x_cons (x_bw0 13 rfl rfl) x_nilm))) (x_bw23 0 rfl rfl) rfl (fun Y av h => x_this h) (by decide +kernel) ⟨Nat.le_of_ble_eq_true rfl, Nat.le_of_ble_eq_true rfl⟩) hY0 hI rfl aT_d213 hl.1 (Nat.le_of_ble_eq_true rfl) (Nat.le_of_ble_eq_true rfl) (Nat.le_of_ble_eq_true rfl) (y_cons (y_cref hY_n202 rfl) (y_cons ⟨_, rfl, x_i32 _⟩ (y_cons ⟨_, rfl, x_i32 _⟩ (y_cons ⟨_, rfl, x_i32 _⟩ (y_cons ⟨_, rfl, x_i32 _⟩ (y_cons ⟨_, rfl, x_i32 _⟩ y_nil)))))) rfl (y_norecv rfl) trivial (y_sub_ef rfl) fun v Yn o Hn L ho hr ha hIn hx_ hE hP => ?_
                    have hPs := hP _ _ _ _ _ _ rfl
                    have hPf := hPs.1 (15, 8) (by decide) hY_n202
                    replace hs_astones := y_Efld hE hY_this rfl (by decide) (by decide) hs_astones
                    replace hs_adone := y_Efld hE hY_this rfl (by decide) (by decide) hs_adone
                    replace hs_acost := y_Efld hE hY_this rfl (by decide) (by decide) hs_acost
                    replace hsi_things := y_Efld hE hY_this rfl (by decide) (by decide) hsi_things
                    replace hA_adone := hA_adone.kept (y_Earr hE hY_adone rfl (by decide))
                    replace hA_acost := hA_acost.kept (y_Earr hE hY_acost rfl (by decide))
                    replace hK := fun b u g9 (hb : Y0 b = some u) (hg9 : x_G[u]? = some g9) => x_eq.trans (x_eq.of (hPs.2 b (fun e0 => absurd (hY0 _ _ hb) (by rw [e0]; exact Nat.not_lt.mpr hfr_n202)))) (hK b u g9 hb hg9)
                    replace hY_this := y_ext hx_ hI.1 hY_this
                    replace hY_astones := y_ext hx_ hI.1 hY_astones
                    replace hY_adone := y_ext hx_ hI.1 hY_adone
                    replace hY_acost := y_ext hx_ hI.1 hY_acost
                    replace hY_n202 := y_ext hx_ hI.1 hY_n202
                    obtain rfl := y_ansV rfl ho hr
                    obtain ⟨hst0, hst1, hst2, hst3, hst4⟩ := hPf
                    clear ho hr ha hE hP hI hx_
                    rename x_I _ _ _ _ _ _ _ _ _ _ => hI
                    have hLc := hL0.xeq hYt0 (y_mon B hI) hK
                    have hs9 := hs_astones
                    refine y_aast X hY0 hI hY_astones rfl hY_n202 rfl rfl (X.2.2.2.2.2.2.2.2.1 _ (x_bn89 6 rfl rfl)) (by omega) (by show _ < (8 : Int); omega) (y_crefA hY_n202 rfl) (by decide +kernel) aT_d216 fun H locs hI h_at h_ne ho => ?_
                    replace hs_astones := y_slk hs_astones (ho _ (y_ne hY_this hY_astones rfl))
                    replace hs_adone := y_slk hs_adone (ho _ (y_ne hY_this hY_astones rfl))
                    replace hs_acost := y_slk hs_acost (ho _ (y_ne hY_this hY_astones rfl))
                    replace hsi_things := y_slk hsi_things (ho _ (y_ne hY_this hY_astones rfl))
                    replace hst0 := y_slk hst0 (ho _ (y_ne hY_n202 hY_astones rfl))
                    replace hst1 := y_slk hst1 (ho _ (y_ne hY_n202 hY_astones rfl))
                    replace hst2 := y_slk hst2 (ho _ (y_ne hY_n202 hY_astones rfl))
                    replace hst3 := y_slk hst3 (ho _ (y_ne hY_n202 hY_astones rfl))
                    replace hst4 := y_slk hst4 (ho _ (y_ne hY_n202 hY_astones rfl))
                    replace hA_adone := hA_adone.kept (ho _ (y_ne hY_adone hY_astones rfl))
                    replace hA_acost := hA_acost.kept (ho _ (y_ne hY_acost hY_astones rfl))
                    refine lv_goto hx hb aT_d217 (tgt := 269) (by decide) ?_
                    have hL := hLc.putS hY_this (j := (f 1).toInt.toNat) (z := (15, 8)) (by omega) hs9 h_at h_ne ho (by decide) hY_n202 (by show ((15 : Nat) : Int) = 11 + k.toInt; omega) hst0 hst1 hst2 hst3 hst4
                    have hF : z_fr D Y0 s.heap _ this := fun b u g9 hb hg9 hn hk9 => x_eq.trans (x_eq.of (ho b (fun e0 => hk9 7 (by decide) (by rw [e0]; exact hs0_astones)))) (hK b u g9 hb hg9)
                    exact aT_L269 B rfl hL0 hs0_astones hs0_adone hs0_acost hd1 hok _ _ _ _ hI hY_this hY_astones hY_adone hY_acost hs_astones hs_adone hs_acost hsi_things hA_adone hA_acost (lv_sub hl [1, 2, 3, 4, 5, 6] rfl) (by first | assumption | omega) (by first | assumption | omega)
                  · refine lv_tableIn hx hb aT_d80 (by omega) (by omega) (off := 140) (by rw [hq9]; rfl) (tgt := 220) (by decide) ?_
                    refine lv_aload_n hx hb aT_d220 rfl (lv_at hl 1 rfl) ?_
                    refine y_getf X (fl39 X.2.2.2.2.1) hI.1 hY_this rfl hs_astones aT_d221 ?_
                    refine lv_aload_n hx hb aT_d224 rfl (lv_at hl 1 rfl) ?_
                    refine y_getf X (fl42 X.2.2.2.2.1) hI.1 hY_this rfl hsi_things aT_d225 ?_
                    refine y_newo (tag := 16) X hY0 hI rfl ⟨9, _, RX9, TX9, tyX9, rfl, rfl, iX9, tyX9_ok, (hts _ (x_bw23 8 rfl rfl)), (hts _ (x_bw23 9 rfl rfl)), (hts _ (x_bw0 14 rfl rfl)), x_dfl (by decide +kernel)⟩ (Nat.le_of_ble_eq_true rfl) (Nat.le_of_ble_eq_true rfl) aT_d228 fun Yn H n228 hnw => ?_
                    obtain ⟨hIn, hmo, hY_n228, hfr_n228, hke⟩ := hnw
                    replace hs_astones := y_slk hs_astones (hke _ _ hY_this)
                    replace hs_adone := y_slk hs_adone (hke _ _ hY_this)
                    replace hs_acost := y_slk hs_acost (hke _ _ hY_this)
                    replace hsi_things := y_slk hsi_things (hke _ _ hY_this)
                    replace hA_adone := hA_adone.kept (hke _ _ hY_adone)
                    replace hA_acost := hA_acost.kept (hke _ _ hY_acost)
                    replace hK := fun b u g9 (hb : Y0 b = some u) (hg9 : x_G[u]? = some g9) => x_eq.trans (x_eq.of (hke _ _ (y_mon B hI _ _ hb))) (hK b u g9 hb hg9)
                    replace hY_this := hmo _ _ hY_this
                    replace hY_astones := hmo _ _ hY_astones
                    replace hY_adone := hmo _ _ hY_adone
                    replace hY_acost := hmo _ _ hY_acost
                    replace hI := hIn
                    clear hIn hmo hke
                    refine lv_dup hx hb aT_d231 rfl ?_
                    refine lv_iload_n hx hb aT_d232 rfl (lv_at hl 2 rfl) ?_
                    refine lv_iload_n hx hb aT_d233 rfl (lv_at hl 3 rfl) ?_
                    refine lv_iload_n hx hb aT_d234 rfl (lv_at hl 4 rfl) ?_
                    refine lv_iload hx hb aT_d235 (lv_at hl 5 rfl) ?_
                    refine lv_iload hx hb aT_d237 (lv_at hl 6 rfl) ?_
                    refine y_call (z := (2, 104, 6, none, xM18)) (av := [.ref n228, .int k, .int x, .int y, .int h, .int g]) (rest := [.ref n228, .int (f 1), .ref astones]) (y_cokI (n := 5) X ym_wall rfl (x_cons (x_bw23 10 rfl rfl) (x_cons (x_bw23 11 rfl rfl) (x_cons (x_bw0 14 rfl rfl) x_nilm))) (x_bw23 12 rfl rfl) rfl (fun Y av h => x_this h) (by decide +kernel) ⟨Nat.le_of_ble_eq_true rfl, Nat.le_of_ble_eq_true rfl⟩) hY0 hI rfl aT_d239 hl.1 (Nat.le_of_ble_eq_true rfl) (Nat.le_of_ble_eq_true rfl) (Nat.le_of_ble_eq_true rfl) (y_cons (y_cref hY_n228 rfl) (y_cons ⟨_, rfl, x_i32 _⟩ (y_cons ⟨_, rfl, x_i32 _⟩ (y_cons ⟨_, rfl, x_i32 _⟩ (y_cons ⟨_, rfl, x_i32 _⟩ (y_cons ⟨_, rfl, x_i32 _⟩ y_nil)))))) rfl (y_norecv rfl) trivial (y_sub_ef rfl) fun v Yn o Hn L ho hr ha hIn hx_ hE hP => ?_
                    have hPs := hP _ _ _ _ _ _ rfl
                    have hPf := hPs.1 (16, 9) (by decide) hY_n228
                    replace hs_astones := y_Efld hE hY_this rfl (by decide) (by decide) hs_astones
                    replace hs_adone := y_Efld hE hY_this rfl (by decide) (by decide) hs_adone
                    replace hs_acost := y_Efld hE hY_this rfl (by decide) (by decide) hs_acost
                    replace hsi_things := y_Efld hE hY_this rfl (by decide) (by decide) hsi_things
                    replace hA_adone := hA_adone.kept (y_Earr hE hY_adone rfl (by decide))
                    replace hA_acost := hA_acost.kept (y_Earr hE hY_acost rfl (by decide))
                    replace hK := fun b u g9 (hb : Y0 b = some u) (hg9 : x_G[u]? = some g9) => x_eq.trans (x_eq.of (hPs.2 b (fun e0 => absurd (hY0 _ _ hb) (by rw [e0]; exact Nat.not_lt.mpr hfr_n228)))) (hK b u g9 hb hg9)
                    replace hY_this := y_ext hx_ hI.1 hY_this
                    replace hY_astones := y_ext hx_ hI.1 hY_astones
                    replace hY_adone := y_ext hx_ hI.1 hY_adone
                    replace hY_acost := y_ext hx_ hI.1 hY_acost
                    replace hY_n228 := y_ext hx_ hI.1 hY_n228
                    obtain rfl := y_ansV rfl ho hr
                    obtain ⟨hst0, hst1, hst2, hst3, hst4⟩ := hPf
                    clear ho hr ha hE hP hI hx_
                    rename x_I _ _ _ _ _ _ _ _ _ _ => hI
                    have hLc := hL0.xeq hYt0 (y_mon B hI) hK
                    have hs9 := hs_astones
                    refine y_aast X hY0 hI hY_astones rfl hY_n228 rfl rfl (X.2.2.2.2.2.2.2.2.1 _ (x_bn89 7 rfl rfl)) (by omega) (by show _ < (8 : Int); omega) (y_crefA hY_n228 rfl) (by decide +kernel) aT_d242 fun H locs hI h_at h_ne ho => ?_
                    replace hs_astones := y_slk hs_astones (ho _ (y_ne hY_this hY_astones rfl))
                    replace hs_adone := y_slk hs_adone (ho _ (y_ne hY_this hY_astones rfl))
                    replace hs_acost := y_slk hs_acost (ho _ (y_ne hY_this hY_astones rfl))
                    replace hsi_things := y_slk hsi_things (ho _ (y_ne hY_this hY_astones rfl))
                    replace hst0 := y_slk hst0 (ho _ (y_ne hY_n228 hY_astones rfl))
                    replace hst1 := y_slk hst1 (ho _ (y_ne hY_n228 hY_astones rfl))
                    replace hst2 := y_slk hst2 (ho _ (y_ne hY_n228 hY_astones rfl))
                    replace hst3 := y_slk hst3 (ho _ (y_ne hY_n228 hY_astones rfl))
                    replace hst4 := y_slk hst4 (ho _ (y_ne hY_n228 hY_astones rfl))
                    replace hA_adone := hA_adone.kept (ho _ (y_ne hY_adone hY_astones rfl))
                    replace hA_acost := hA_acost.kept (ho _ (y_ne hY_acost hY_astones rfl))
                    refine lv_goto hx hb aT_d243 (tgt := 269) (by decide) ?_
                    have hL := hLc.putS hY_this (j := (f 1).toInt.toNat) (z := (16, 9)) (by omega) hs9 h_at h_ne ho (by decide) hY_n228 (by show ((16 : Nat) : Int) = 11 + k.toInt; omega) hst0 hst1 hst2 hst3 hst4
                    have hF : z_fr D Y0 s.heap _ this := fun b u g9 hb hg9 hn hk9 => x_eq.trans (x_eq.of (ho b (fun e0 => hk9 7 (by decide) (by rw [e0]; exact hs0_astones)))) (hK b u g9 hb hg9)
                    exact aT_L269 B rfl hL0 hs0_astones hs0_adone hs0_acost hd1 hok _ _ _ _ hI hY_this hY_astones hY_adone hY_acost hs_astones hs_adone hs_acost hsi_things hA_adone hA_acost (lv_sub hl [1, 2, 3, 4, 5, 6] rfl) (by first | assumption | omega) (by first | assumption | omega)
                · have q73_ : (8 : Int32).toInt ≤ (f 1).toInt := Int.not_lt.mp fun q => q73 (x_lt32.mpr q)
                  refine lv_bipush hx hb aT_d76 (v := (-4)) (by decide) ?_
                  have ecm4 : ((-4) : Int32).toInt = (-4) := by decide
                  have hL : z_L D _ this _ f := hL0.xeq hYt0 (y_mon B hI) hK
                  have hF : z_fr D Y0 s.heap _ this := fun b u g9 hb hg9 _ _ => hK b u g9 hb hg9
                  exact y_ireturn B hI rfl rfl rfl List.mem_cons_self ⟨_, rfl, ⟨_, rfl, by decide, by decide⟩⟩ (x_cs.mono B.2.2.2.2.2 (y_mon B hI)) (fun t' k' x' y' h' g' f' h1 h2 => by cases h1; cases h2.uniq hL0; exact ⟨hF, _, _, rfl, hL, fun q9 => absurd hok q9, fun _ _ => ⟨rfl, rfl⟩, fun _ q9 => absurd q9 (by omega)⟩) (by exact Nat.le_of_ble_eq_true rfl) (by exact Nat.le_of_ble_eq_true rfl) aT_d78
              · have q61_ : r58.toInt = (0 : Int32).toInt := by rw [q61]
                have hno : ¬ m_tOk k x y h g := fun q9 => by obtain ⟨a1, a2, a3, a4, a5, a6⟩ := q9; first | (have := hout_r19 (by assumption); omega) | (exact hout_r27 (by assumption) ⟨a2, a3⟩) | (have := hout_r38 (by assumption); omega) | (have := hout_r58 (by assumption); omega)
                refine lv_bipush hx hb aT_d64 (v := (-2)) (by decide) ?_
                have ecm2 : ((-2) : Int32).toInt = (-2) := by decide
                have hL : z_L D _ this _ f := hL0.xeq hYt0 (y_mon B hI) hK
                have hF : z_fr D Y0 s.heap _ this := fun b u g9 hb hg9 _ _ => hK b u g9 hb hg9
                exact y_ireturn B hI rfl rfl rfl List.mem_cons_self ⟨_, rfl, ⟨_, rfl, by decide, by decide⟩⟩ (x_cs.mono B.2.2.2.2.2 (y_mon B hI)) (fun t' k' x' y' h' g' f' h1 h2 => by cases h1; cases h2.uniq hL0; exact ⟨hF, _, _, rfl, hL, fun _ => ⟨rfl, rfl⟩, fun q9 => absurd q9 hno, fun q9 => absurd q9 hno⟩) (by exact Nat.le_of_ble_eq_true rfl) (by exact Nat.le_of_ble_eq_true rfl) aT_d66
    · have q6_ : ¬ k.toInt = (5 : Int32).toInt := fun q => q6 (Int32.toInt_inj.mp q)
      refine lv_iconst hx hb aT_d9 (v := 1) (by decide) ?_
      have ec1 : (1 : Int32).toInt = 1 := by decide
      refine lv_goto hx hb aT_d10 (tgt := 14) (by decide) ?_
      refine lv_istore hx hb aT_d14 hl (by decide) (lv' := [(6, .int (1 : Int32)), (0, .ref this), (1, .int k), (2, .int x), (3, .int y), (4, .int h), (5, .int g)]) rfl fun ls hl => ?_
      refine lv_iload_n hx hb aT_d16 rfl (lv_at hl 2 rfl) ?_
      refine lv_iconst hx hb aT_d17 (v := 0) (by decide) ?_
      refine lv_iconst hx hb aT_d18 (v := 5) (by decide) ?_
      refine y_call (z := (1, 83, 3, none, xM10)) (av := [.int k, .int (0 : Int32), .int (5 : Int32)]) (rest := []) (y_cokSN (n := 3) (host := "TwinFires") X ym_within (x_cons (x_bw19 1 rfl rfl) (x_cons (x_bw0 1 rfl rfl) x_nilm)) (x_bn19 0 rfl rfl) (x_bw19 2 rfl rfl) (by decide +kernel) ⟨Nat.le_of_ble_eq_true rfl, Nat.le_of_ble_eq_true rfl⟩) hY0 hI rfl aT_d19 hl.1 (Nat.le_of_ble_eq_true rfl) (Nat.le_of_ble_eq_true rfl) (Nat.le_of_ble_eq_true rfl) (y_cons ⟨_, rfl, x_i32 _⟩ (y_cons ⟨_, rfl, x_i32 _⟩ (y_cons ⟨_, rfl, x_i32 _⟩ y_nil))) rfl (y_norecv rfl) trivial (y_sub_ef rfl) fun v Yn o Hn L ho hr ha hIn hx_ hE hP => ?_
      replace hs_astones := y_Efld hE hY_this rfl (by decide) (by decide) hs_astones
      replace hs_adone := y_Efld hE hY_this rfl (by decide) (by decide) hs_adone
      replace hs_acost := y_Efld hE hY_this rfl (by decide) (by decide) hs_acost
      replace hsi_things := y_Efld hE hY_this rfl (by decide) (by decide) hsi_things
      replace hA_adone := hA_adone.kept (y_Earr hE hY_adone rfl (by decide))
      replace hA_acost := hA_acost.kept (y_Earr hE hY_acost rfl (by decide))
      replace hK := fun b u g9 (hb : Y0 b = some u) (hg9 : x_G[u]? = some g9) => x_eq.trans (x_eq.E hE (y_mon B hI _ _ hb) hg9 rfl) (hK b u g9 hb hg9)
      replace hY_this := y_ext hx_ hI.1 hY_this
      replace hY_astones := y_ext hx_ hI.1 hY_astones
      replace hY_adone := y_ext hx_ hI.1 hY_adone
      replace hY_acost := y_ext hx_ hI.1 hY_acost
      obtain ⟨r19, rfl, hin_r19, hout_r19⟩ := hP _ _ _ rfl
      clear ho hr ha hE hP hI hx_
      rename x_I _ _ _ _ _ _ _ _ _ _ => hI
      refine lv_if_eq hx hb aT_d22 (tgt := 64) (by decide) (fun q22 => ?_) (fun q22 => ?_)
      · have q22_ : r19.toInt = (0 : Int32).toInt := by rw [q22]
        have hno : ¬ m_tOk k x y h g := fun q9 => by obtain ⟨a1, a2, a3, a4, a5, a6⟩ := q9; first | (have := hout_r19 (by assumption); omega) | (exact hout_r27 (by assumption) ⟨a2, a3⟩) | (have := hout_r38 (by assumption); omega) | (have := hout_r58 (by assumption); omega)
        refine lv_bipush hx hb aT_d64 (v := (-2)) (by decide) ?_
        have ecm2 : ((-2) : Int32).toInt = (-2) := by decide
        have hL : z_L D _ this _ f := hL0.xeq hYt0 (y_mon B hI) hK
        have hF : z_fr D Y0 s.heap _ this := fun b u g9 hb hg9 _ _ => hK b u g9 hb hg9
        exact y_ireturn B hI rfl rfl rfl List.mem_cons_self ⟨_, rfl, ⟨_, rfl, by decide, by decide⟩⟩ (x_cs.mono B.2.2.2.2.2 (y_mon B hI)) (fun t' k' x' y' h' g' f' h1 h2 => by cases h1; cases h2.uniq hL0; exact ⟨hF, _, _, rfl, hL, fun _ => ⟨rfl, rfl⟩, fun q9 => absurd q9 hno, fun q9 => absurd q9 hno⟩) (by exact Nat.le_of_ble_eq_true rfl) (by exact Nat.le_of_ble_eq_true rfl) aT_d66
      · have q22_ : ¬ r19.toInt = (0 : Int32).toInt := fun q => q22 (Int32.toInt_inj.mp q)
        refine lv_iload_n hx hb aT_d25 rfl (lv_at hl 3 rfl) ?_
        refine lv_iload_n hx hb aT_d26 rfl (lv_at hl 4 rfl) ?_
        refine y_call (z := (1, 79, 2, none, xM2)) (av := [.int x, .int y]) (rest := []) (y_cokS (n := 2) X ym_isPlace (x_cons (x_bw18 13 rfl rfl) (x_cons (x_bw18 14 rfl rfl) (x_cons (x_bw0 2 rfl rfl) x_nilm))) (x_bw18 15 rfl rfl) (by decide +kernel) ⟨Nat.le_of_ble_eq_true rfl, Nat.le_of_ble_eq_true rfl⟩) hY0 hI rfl aT_d27 hl.1 (Nat.le_of_ble_eq_true rfl) (Nat.le_of_ble_eq_true rfl) (Nat.le_of_ble_eq_true rfl) (y_cons ⟨_, rfl, x_i32 _⟩ (y_cons ⟨_, rfl, x_i32 _⟩ y_nil)) rfl (y_norecv rfl) trivial (y_sub_ef rfl) fun v Yn o Hn L ho hr ha hIn hx_ hE hP => ?_
        replace hs_astones := y_Efld hE hY_this rfl (by decide) (by decide) hs_astones
        replace hs_adone := y_Efld hE hY_this rfl (by decide) (by decide) hs_adone
        replace hs_acost := y_Efld hE hY_this rfl (by decide) (by decide) hs_acost
        replace hsi_things := y_Efld hE hY_this rfl (by decide) (by decide) hsi_things
        replace hA_adone := hA_adone.kept (y_Earr hE hY_adone rfl (by decide))
        replace hA_acost := hA_acost.kept (y_Earr hE hY_acost rfl (by decide))
        replace hK := fun b u g9 (hb : Y0 b = some u) (hg9 : x_G[u]? = some g9) => x_eq.trans (x_eq.E hE (y_mon B hI _ _ hb) hg9 rfl) (hK b u g9 hb hg9)
        replace hY_this := y_ext hx_ hI.1 hY_this
        replace hY_astones := y_ext hx_ hI.1 hY_astones
        replace hY_adone := y_ext hx_ hI.1 hY_adone
        replace hY_acost := y_ext hx_ hI.1 hY_acost
        obtain ⟨r27, rfl, hin_r27, hout_r27⟩ := hP _ _ rfl
        clear ho hr ha hE hP hI hx_
        rename x_I _ _ _ _ _ _ _ _ _ _ => hI
        refine lv_if_eq hx hb aT_d30 (tgt := 64) (by decide) (fun q30 => ?_) (fun q30 => ?_)
        · have q30_ : r27.toInt = (0 : Int32).toInt := by rw [q30]
          have hno : ¬ m_tOk k x y h g := fun q9 => by obtain ⟨a1, a2, a3, a4, a5, a6⟩ := q9; first | (have := hout_r19 (by assumption); omega) | (exact hout_r27 (by assumption) ⟨a2, a3⟩) | (have := hout_r38 (by assumption); omega) | (have := hout_r58 (by assumption); omega)
          refine lv_bipush hx hb aT_d64 (v := (-2)) (by decide) ?_
          have ecm2 : ((-2) : Int32).toInt = (-2) := by decide
          have hL : z_L D _ this _ f := hL0.xeq hYt0 (y_mon B hI) hK
          have hF : z_fr D Y0 s.heap _ this := fun b u g9 hb hg9 _ _ => hK b u g9 hb hg9
          exact y_ireturn B hI rfl rfl rfl List.mem_cons_self ⟨_, rfl, ⟨_, rfl, by decide, by decide⟩⟩ (x_cs.mono B.2.2.2.2.2 (y_mon B hI)) (fun t' k' x' y' h' g' f' h1 h2 => by cases h1; cases h2.uniq hL0; exact ⟨hF, _, _, rfl, hL, fun _ => ⟨rfl, rfl⟩, fun q9 => absurd q9 hno, fun q9 => absurd q9 hno⟩) (by exact Nat.le_of_ble_eq_true rfl) (by exact Nat.le_of_ble_eq_true rfl) aT_d66
        · have q30_ : ¬ r27.toInt = (0 : Int32).toInt := fun q => q30 (Int32.toInt_inj.mp q)
          refine lv_iload hx hb aT_d33 (lv_at hl 5 rfl) ?_
          refine lv_iconst hx hb aT_d35 (v := 0) (by decide) ?_
          refine lv_bipush hx hb aT_d36 (v := 99) (by decide) ?_
          have ec99 : (99 : Int32).toInt = 99 := by decide
          refine y_call (z := (1, 83, 3, none, xM10)) (av := [.int h, .int (0 : Int32), .int (99 : Int32)]) (rest := []) (y_cokSN (n := 3) (host := "TwinFires") X ym_within (x_cons (x_bw19 1 rfl rfl) (x_cons (x_bw0 1 rfl rfl) x_nilm)) (x_bn19 0 rfl rfl) (x_bw19 2 rfl rfl) (by decide +kernel) ⟨Nat.le_of_ble_eq_true rfl, Nat.le_of_ble_eq_true rfl⟩) hY0 hI rfl aT_d38 hl.1 (Nat.le_of_ble_eq_true rfl) (Nat.le_of_ble_eq_true rfl) (Nat.le_of_ble_eq_true rfl) (y_cons ⟨_, rfl, x_i32 _⟩ (y_cons ⟨_, rfl, x_i32 _⟩ (y_cons ⟨_, rfl, x_i32 _⟩ y_nil))) rfl (y_norecv rfl) trivial (y_sub_ef rfl) fun v Yn o Hn L ho hr ha hIn hx_ hE hP => ?_
          replace hs_astones := y_Efld hE hY_this rfl (by decide) (by decide) hs_astones
          replace hs_adone := y_Efld hE hY_this rfl (by decide) (by decide) hs_adone
          replace hs_acost := y_Efld hE hY_this rfl (by decide) (by decide) hs_acost
          replace hsi_things := y_Efld hE hY_this rfl (by decide) (by decide) hsi_things
          replace hA_adone := hA_adone.kept (y_Earr hE hY_adone rfl (by decide))
          replace hA_acost := hA_acost.kept (y_Earr hE hY_acost rfl (by decide))
          replace hK := fun b u g9 (hb : Y0 b = some u) (hg9 : x_G[u]? = some g9) => x_eq.trans (x_eq.E hE (y_mon B hI _ _ hb) hg9 rfl) (hK b u g9 hb hg9)
          replace hY_this := y_ext hx_ hI.1 hY_this
          replace hY_astones := y_ext hx_ hI.1 hY_astones
          replace hY_adone := y_ext hx_ hI.1 hY_adone
          replace hY_acost := y_ext hx_ hI.1 hY_acost
          obtain ⟨r38, rfl, hin_r38, hout_r38⟩ := hP _ _ _ rfl
          clear ho hr ha hE hP hI hx_
          rename x_I _ _ _ _ _ _ _ _ _ _ => hI
          refine lv_if_eq hx hb aT_d41 (tgt := 64) (by decide) (fun q41 => ?_) (fun q41 => ?_)
          · have q41_ : r38.toInt = (0 : Int32).toInt := by rw [q41]
            have hno : ¬ m_tOk k x y h g := fun q9 => by obtain ⟨a1, a2, a3, a4, a5, a6⟩ := q9; first | (have := hout_r19 (by assumption); omega) | (exact hout_r27 (by assumption) ⟨a2, a3⟩) | (have := hout_r38 (by assumption); omega) | (have := hout_r58 (by assumption); omega)
            refine lv_bipush hx hb aT_d64 (v := (-2)) (by decide) ?_
            have ecm2 : ((-2) : Int32).toInt = (-2) := by decide
            have hL : z_L D _ this _ f := hL0.xeq hYt0 (y_mon B hI) hK
            have hF : z_fr D Y0 s.heap _ this := fun b u g9 hb hg9 _ _ => hK b u g9 hb hg9
            exact y_ireturn B hI rfl rfl rfl List.mem_cons_self ⟨_, rfl, ⟨_, rfl, by decide, by decide⟩⟩ (x_cs.mono B.2.2.2.2.2 (y_mon B hI)) (fun t' k' x' y' h' g' f' h1 h2 => by cases h1; cases h2.uniq hL0; exact ⟨hF, _, _, rfl, hL, fun _ => ⟨rfl, rfl⟩, fun q9 => absurd q9 hno, fun q9 => absurd q9 hno⟩) (by exact Nat.le_of_ble_eq_true rfl) (by exact Nat.le_of_ble_eq_true rfl) aT_d66
          · have q41_ : ¬ r38.toInt = (0 : Int32).toInt := fun q => q41 (Int32.toInt_inj.mp q)
            refine lv_iload hx hb aT_d44 (lv_at hl 6 rfl) ?_
            refine lv_iconst hx hb aT_d46 (v := 0) (by decide) ?_
            refine lv_iload hx hb aT_d47 (lv_at hl 0 rfl) ?_
            refine lv_if_eq hx hb aT_d49 (tgt := 57) (by decide) (fun q49 => ?_) (fun q49 => ?_)
            · have q49_ : (1 : Int32).toInt = (0 : Int32).toInt := by rw [q49]
              refine lv_iconst hx hb aT_d57 (v := 0) (by decide) ?_
              refine y_call (z := (1, 83, 3, none, xM10)) (av := [.int g, .int (0 : Int32), .int (0 : Int32)]) (rest := []) (y_cokSN (n := 3) (host := "TwinFires") X ym_within (x_cons (x_bw19 1 rfl rfl) (x_cons (x_bw0 1 rfl rfl) x_nilm)) (x_bn19 0 rfl rfl) (x_bw19 2 rfl rfl) (by decide +kernel) ⟨Nat.le_of_ble_eq_true rfl, Nat.le_of_ble_eq_true rfl⟩) hY0 hI rfl aT_d58 hl.1 (Nat.le_of_ble_eq_true rfl) (Nat.le_of_ble_eq_true rfl) (Nat.le_of_ble_eq_true rfl) (y_cons ⟨_, rfl, x_i32 _⟩ (y_cons ⟨_, rfl, x_i32 _⟩ (y_cons ⟨_, rfl, x_i32 _⟩ y_nil))) rfl (y_norecv rfl) trivial (y_sub_ef rfl) fun v Yn o Hn L ho hr ha hIn hx_ hE hP => ?_
              replace hs_astones := y_Efld hE hY_this rfl (by decide) (by decide) hs_astones
              replace hs_adone := y_Efld hE hY_this rfl (by decide) (by decide) hs_adone
              replace hs_acost := y_Efld hE hY_this rfl (by decide) (by decide) hs_acost
              replace hsi_things := y_Efld hE hY_this rfl (by decide) (by decide) hsi_things
              replace hA_adone := hA_adone.kept (y_Earr hE hY_adone rfl (by decide))
              replace hA_acost := hA_acost.kept (y_Earr hE hY_acost rfl (by decide))
              replace hK := fun b u g9 (hb : Y0 b = some u) (hg9 : x_G[u]? = some g9) => x_eq.trans (x_eq.E hE (y_mon B hI _ _ hb) hg9 rfl) (hK b u g9 hb hg9)
              replace hY_this := y_ext hx_ hI.1 hY_this
              replace hY_astones := y_ext hx_ hI.1 hY_astones
              replace hY_adone := y_ext hx_ hI.1 hY_adone
              replace hY_acost := y_ext hx_ hI.1 hY_acost
              obtain ⟨r58, rfl, hin_r58, hout_r58⟩ := hP _ _ _ rfl
              clear ho hr ha hE hP hI hx_
              rename x_I _ _ _ _ _ _ _ _ _ _ => hI
              refine lv_if_ne hx hb aT_d61 (tgt := 67) (by decide) (fun q61 => ?_) (fun q61 => ?_)
              · have q61_ : ¬ r58.toInt = (0 : Int32).toInt := fun q => q61 (Int32.toInt_inj.mp q)
                have hw1 := hin_r19 (by assumption)
                have hw2 := hin_r27 (by assumption)
                have hw3 := hin_r38 (by assumption)
                have hw4 := hin_r58 (by assumption)
                have hok : m_tOk k x y h g := ⟨by omega, hw2.1, hw2.2, by omega, by omega, fun q9 => by omega⟩
                refine lv_aload_n hx hb aT_d67 rfl (lv_at hl 1 rfl) ?_
                refine y_getf X (fl42 X.2.2.2.2.1) hI.1 hY_this rfl hsi_things aT_d68 ?_
                refine lv_bipush hx hb aT_d71 (v := 8) (by decide) ?_
                have ec8 : (8 : Int32).toInt = 8 := by decide
                refine lv_icmp_lt hx hb aT_d73 (tgt := 79) (by decide) (fun q73 => ?_) (fun q73 => ?_)
                · have q73_ : (f 1).toInt < (8 : Int32).toInt := x_lt32.mp q73
                  have hd1 : 0 ≤ (f 1).toInt ∧ (f 1).toInt < 8 := by omega
                  refine lv_iload_n hx hb aT_d79 rfl (lv_at hl 2 rfl) ?_
                  have hk9 : 0 ≤ k.toInt ∧ k.toInt ≤ 5 := hok.1
                  by_cases hlo : k.toInt < 1 ∨ 5 < k.toInt
                  · refine lv_tableOut hx hb aT_d80 hlo (tgt := 246) (by decide) ?_
                    refine lv_aload_n hx hb aT_d246 rfl (lv_at hl 1 rfl) ?_
                    refine y_getf X (fl39 X.2.2.2.2.1) hI.1 hY_this rfl hs_astones aT_d247 ?_
                    refine lv_aload_n hx hb aT_d250 rfl (lv_at hl 1 rfl) ?_
                    refine y_getf X (fl42 X.2.2.2.2.1) hI.1 hY_this rfl hsi_things aT_d251 ?_
                    refine y_newo (tag := 11) X hY0 hI rfl ⟨6, _, RX6, TX6, tyX6, rfl, rfl, iX6, tyX6_ok, (hts _ (x_bw2 4 rfl rfl)), (hts _ (x_bw2 9 rfl rfl)), (hts _ (x_bw0 4 rfl rfl)), x_dfl (by decide +kernel)⟩ (Nat.le_of_ble_eq_true rfl) (Nat.le_of_ble_eq_true rfl) aT_d254 fun Yn H n254 hnw => ?_
                    obtain ⟨hIn, hmo, hY_n254, hfr_n254, hke⟩ := hnw
                    replace hs_astones := y_slk hs_astones (hke _ _ hY_this)
                    replace hs_adone := y_slk hs_adone (hke _ _ hY_this)
                    replace hs_acost := y_slk hs_acost (hke _ _ hY_this)
                    replace hsi_things := y_slk hsi_things (hke _ _ hY_this)
                    replace hA_adone := hA_adone.kept (hke _ _ hY_adone)
                    replace hA_acost := hA_acost.kept (hke _ _ hY_acost)
                    replace hK := fun b u g9 (hb : Y0 b = some u) (hg9 : x_G[u]? = some g9) => x_eq.trans (x_eq.of (hke _ _ (y_mon B hI _ _ hb))) (hK b u g9 hb hg9)
                    replace hY_this := hmo _ _ hY_this
                    replace hY_astones := hmo _ _ hY_astones
                    replace hY_adone := hmo _ _ hY_adone
                    replace hY_acost := hmo _ _ hY_acost
                    replace hI := hIn
                    clear hIn hmo hke
                    refine lv_dup hx hb aT_d257 rfl ?_
                    refine lv_iload_n hx hb aT_d258 rfl (lv_at hl 2 rfl) ?_
                    refine lv_iload_n hx hb aT_d259 rfl (lv_at hl 3 rfl) ?_
                    refine lv_iload_n hx hb aT_d260 rfl (lv_at hl 4 rfl) ?_
                    refine lv_iload hx hb aT_d261 (lv_at hl 5 rfl) ?_
                    refine lv_iload hx hb aT_d263 (lv_at hl 6 rfl) ?_
                    refine y_call (z := (2, 60, 6, none, xM13)) (av := [.ref n254, .int k, .int x, .int y, .int h, .int g]) (rest := [.ref n254, .int (f 1), .ref astones]) (y_cokI (n := 5) X ym_stone rfl (x_cons (x_bw2 10 rfl rfl) (x_cons (x_bw2 11 rfl rfl) (x_cons (x_bw0 4 rfl rfl) x_nilm))) (x_bw2 12 rfl rfl) rfl (fun Y av h => x_this h) (by decide +kernel) ⟨Nat.le_of_ble_eq_true rfl, Nat.le_of_ble_eq_true rfl⟩) hY0 hI rfl aT_d265 hl.1 (Nat.le_of_ble_eq_true rfl) (Nat.le_of_ble_eq_true rfl) (Nat.le_of_ble_eq_true rfl) (y_cons (y_cref hY_n254 rfl) (y_cons ⟨_, rfl, x_i32 _⟩ (y_cons ⟨_, rfl, x_i32 _⟩ (y_cons ⟨_, rfl, x_i32 _⟩ (y_cons ⟨_, rfl, x_i32 _⟩ (y_cons ⟨_, rfl, x_i32 _⟩ y_nil)))))) rfl (y_norecv rfl) trivial (y_sub_ef rfl) fun v Yn o Hn L ho hr ha hIn hx_ hE hP => ?_
                    have hPs := hP _ _ _ _ _ _ rfl
                    have hPf := hPs.1 (11, 6) (by decide) hY_n254
                    replace hs_astones := y_Efld hE hY_this rfl (by decide) (by decide) hs_astones
                    replace hs_adone := y_Efld hE hY_this rfl (by decide) (by decide) hs_adone
                    replace hs_acost := y_Efld hE hY_this rfl (by decide) (by decide) hs_acost
                    replace hsi_things := y_Efld hE hY_this rfl (by decide) (by decide) hsi_things
                    replace hA_adone := hA_adone.kept (y_Earr hE hY_adone rfl (by decide))
                    replace hA_acost := hA_acost.kept (y_Earr hE hY_acost rfl (by decide))
                    replace hK := fun b u g9 (hb : Y0 b = some u) (hg9 : x_G[u]? = some g9) => x_eq.trans (x_eq.of (hPs.2 b (fun e0 => absurd (hY0 _ _ hb) (by rw [e0]; exact Nat.not_lt.mpr hfr_n254)))) (hK b u g9 hb hg9)
                    replace hY_this := y_ext hx_ hI.1 hY_this
                    replace hY_astones := y_ext hx_ hI.1 hY_astones
                    replace hY_adone := y_ext hx_ hI.1 hY_adone
                    replace hY_acost := y_ext hx_ hI.1 hY_acost
                    replace hY_n254 := y_ext hx_ hI.1 hY_n254
                    obtain rfl := y_ansV rfl ho hr
                    obtain ⟨hst0, hst1, hst2, hst3, hst4⟩ := hPf
                    clear ho hr ha hE hP hI hx_
                    rename x_I _ _ _ _ _ _ _ _ _ _ => hI
                    have hLc := hL0.xeq hYt0 (y_mon B hI) hK
                    have hs9 := hs_astones
                    refine y_aast X hY0 hI hY_astones rfl hY_n254 rfl rfl (x_castSelf (X.2.2.2.2.2.1.1 6 _ rfl).2) (by omega) (by show _ < (8 : Int); omega) (y_crefA hY_n254 rfl) (by decide +kernel) aT_d268 fun H locs hI h_at h_ne ho => ?_
                    replace hs_astones := y_slk hs_astones (ho _ (y_ne hY_this hY_astones rfl))
                    replace hs_adone := y_slk hs_adone (ho _ (y_ne hY_this hY_astones rfl))
                    replace hs_acost := y_slk hs_acost (ho _ (y_ne hY_this hY_astones rfl))
                    replace hsi_things := y_slk hsi_things (ho _ (y_ne hY_this hY_astones rfl))
                    replace hst0 := y_slk hst0 (ho _ (y_ne hY_n254 hY_astones rfl))
                    replace hst1 := y_slk hst1 (ho _ (y_ne hY_n254 hY_astones rfl))
                    replace hst2 := y_slk hst2 (ho _ (y_ne hY_n254 hY_astones rfl))
                    replace hst3 := y_slk hst3 (ho _ (y_ne hY_n254 hY_astones rfl))
                    replace hst4 := y_slk hst4 (ho _ (y_ne hY_n254 hY_astones rfl))
                    replace hA_adone := hA_adone.kept (ho _ (y_ne hY_adone hY_astones rfl))
                    replace hA_acost := hA_acost.kept (ho _ (y_ne hY_acost hY_astones rfl))
                    have hL := hLc.putS hY_this (j := (f 1).toInt.toNat) (z := (11, 6)) (by omega) hs9 h_at h_ne ho (by decide) hY_n254 (by show ((11 : Nat) : Int) = 11 + k.toInt; omega) hst0 hst1 hst2 hst3 hst4
                    have hF : z_fr D Y0 s.heap _ this := fun b u g9 hb hg9 hn hk9 => x_eq.trans (x_eq.of (ho b (fun e0 => hk9 7 (by decide) (by rw [e0]; exact hs0_astones)))) (hK b u g9 hb hg9)
                    exact aT_L269 B rfl hL0 hs0_astones hs0_adone hs0_acost hd1 hok _ _ _ _ hI hY_this hY_astones hY_adone hY_acost hs_astones hs_adone hs_acost hsi_things hA_adone hA_acost (lv_sub hl [1, 2, 3, 4, 5, 6] rfl) (by first | assumption | omega) (by first | assumption | omega)
                  rcases (show k.toInt = 1 ∨ k.toInt = 2 ∨ k.toInt = 3 ∨ k.toInt = 4 ∨ k.toInt = 5 by omega) with hq9 | hq9 | hq9 | hq9 | hq9
                  · refine lv_tableIn hx hb aT_d80 (by omega) (by omega) (off := 36) (by rw [hq9]; rfl) (tgt := 116) (by decide) ?_
                    refine lv_aload_n hx hb aT_d116 rfl (lv_at hl 1 rfl) ?_
                    refine y_getf X (fl39 X.2.2.2.2.1) hI.1 hY_this rfl hs_astones aT_d117 ?_
                    refine lv_aload_n hx hb aT_d120 rfl (lv_at hl 1 rfl) ?_
                    refine y_getf X (fl42 X.2.2.2.2.1) hI.1 hY_this rfl hsi_things aT_d121 ?_
                    refine y_newo (tag := 12) X hY0 hI rfl ⟨10, _, RX10, TX10, tyX10, rfl, rfl, iX10, tyX10_ok, (hts _ (x_bw20 8 rfl rfl)), (hts _ (x_bw20 9 rfl rfl)), (hts _ (x_bw0 10 rfl rfl)), x_dfl (by decide +kernel)⟩ (Nat.le_of_ble_eq_true rfl) (Nat.le_of_ble_eq_true rfl) aT_d124 fun Yn H n124 hnw => ?_
                    obtain ⟨hIn, hmo, hY_n124, hfr_n124, hke⟩ := hnw
                    replace hs_astones := y_slk hs_astones (hke _ _ hY_this)
                    replace hs_adone := y_slk hs_adone (hke _ _ hY_this)
                    replace hs_acost := y_slk hs_acost (hke _ _ hY_this)
                    replace hsi_things := y_slk hsi_things (hke _ _ hY_this)
                    replace hA_adone := hA_adone.kept (hke _ _ hY_adone)
                    replace hA_acost := hA_acost.kept (hke _ _ hY_acost)
                    replace hK := fun b u g9 (hb : Y0 b = some u) (hg9 : x_G[u]? = some g9) => x_eq.trans (x_eq.of (hke _ _ (y_mon B hI _ _ hb))) (hK b u g9 hb hg9)
                    replace hY_this := hmo _ _ hY_this
                    replace hY_astones := hmo _ _ hY_astones
                    replace hY_adone := hmo _ _ hY_adone
                    replace hY_acost := hmo _ _ hY_acost
                    replace hI := hIn
                    clear hIn hmo hke
                    refine lv_dup hx hb aT_d127 rfl ?_
                    refine lv_iload_n hx hb aT_d128 rfl (lv_at hl 2 rfl) ?_
                    refine lv_iload_n hx hb aT_d129 rfl (lv_at hl 3 rfl) ?_
                    refine lv_iload_n hx hb aT_d130 rfl (lv_at hl 4 rfl) ?_
                    refine lv_iload hx hb aT_d131 (lv_at hl 5 rfl) ?_
                    refine lv_iload hx hb aT_d133 (lv_at hl 6 rfl) ?_
                    refine y_call (z := (2, 92, 6, none, xM14)) (av := [.ref n124, .int k, .int x, .int y, .int h, .int g]) (rest := [.ref n124, .int (f 1), .ref astones]) (y_cokI (n := 5) X ym_wood rfl (x_cons (x_bw20 10 rfl rfl) (x_cons (x_bw20 11 rfl rfl) (x_cons (x_bw0 10 rfl rfl) x_nilm))) (x_bw20 12 rfl rfl) rfl (fun Y av h => x_this h) (by decide +kernel) ⟨Nat.le_of_ble_eq_true rfl, Nat.le_of_ble_eq_true rfl⟩) hY0 hI rfl aT_d135 hl.1 (Nat.le_of_ble_eq_true rfl) (Nat.le_of_ble_eq_true rfl) (Nat.le_of_ble_eq_true rfl) (y_cons (y_cref hY_n124 rfl) (y_cons ⟨_, rfl, x_i32 _⟩ (y_cons ⟨_, rfl, x_i32 _⟩ (y_cons ⟨_, rfl, x_i32 _⟩ (y_cons ⟨_, rfl, x_i32 _⟩ (y_cons ⟨_, rfl, x_i32 _⟩ y_nil)))))) rfl (y_norecv rfl) trivial (y_sub_ef rfl) fun v Yn o Hn L ho hr ha hIn hx_ hE hP => ?_
                    have hPs := hP _ _ _ _ _ _ rfl
                    have hPf := hPs.1 (12, 10) (by decide) hY_n124
                    replace hs_astones := y_Efld hE hY_this rfl (by decide) (by decide) hs_astones
                    replace hs_adone := y_Efld hE hY_this rfl (by decide) (by decide) hs_adone
                    replace hs_acost := y_Efld hE hY_this rfl (by decide) (by decide) hs_acost
                    replace hsi_things := y_Efld hE hY_this rfl (by decide) (by decide) hsi_things
                    replace hA_adone := hA_adone.kept (y_Earr hE hY_adone rfl (by decide))
                    replace hA_acost := hA_acost.kept (y_Earr hE hY_acost rfl (by decide))
                    replace hK := fun b u g9 (hb : Y0 b = some u) (hg9 : x_G[u]? = some g9) => x_eq.trans (x_eq.of (hPs.2 b (fun e0 => absurd (hY0 _ _ hb) (by rw [e0]; exact Nat.not_lt.mpr hfr_n124)))) (hK b u g9 hb hg9)
                    replace hY_this := y_ext hx_ hI.1 hY_this
                    replace hY_astones := y_ext hx_ hI.1 hY_astones
                    replace hY_adone := y_ext hx_ hI.1 hY_adone
                    replace hY_acost := y_ext hx_ hI.1 hY_acost
                    replace hY_n124 := y_ext hx_ hI.1 hY_n124
                    obtain rfl := y_ansV rfl ho hr
                    obtain ⟨hst0, hst1, hst2, hst3, hst4⟩ := hPf
                    clear ho hr ha hE hP hI hx_
                    rename x_I _ _ _ _ _ _ _ _ _ _ => hI
                    have hLc := hL0.xeq hYt0 (y_mon B hI) hK
                    have hs9 := hs_astones
                    refine y_aast X hY0 hI hY_astones rfl hY_n124 rfl rfl (X.2.2.2.2.2.2.2.2.1 _ (x_bn89 3 rfl rfl)) (by omega) (by show _ < (8 : Int); omega) (y_crefA hY_n124 rfl) (by decide +kernel) aT_d138 fun H locs hI h_at h_ne ho => ?_
                    replace hs_astones := y_slk hs_astones (ho _ (y_ne hY_this hY_astones rfl))
                    replace hs_adone := y_slk hs_adone (ho _ (y_ne hY_this hY_astones rfl))
                    replace hs_acost := y_slk hs_acost (ho _ (y_ne hY_this hY_astones rfl))
                    replace hsi_things := y_slk hsi_things (ho _ (y_ne hY_this hY_astones rfl))
                    replace hst0 := y_slk hst0 (ho _ (y_ne hY_n124 hY_astones rfl))
                    replace hst1 := y_slk hst1 (ho _ (y_ne hY_n124 hY_astones rfl))
                    replace hst2 := y_slk hst2 (ho _ (y_ne hY_n124 hY_astones rfl))
                    replace hst3 := y_slk hst3 (ho _ (y_ne hY_n124 hY_astones rfl))
                    replace hst4 := y_slk hst4 (ho _ (y_ne hY_n124 hY_astones rfl))
                    replace hA_adone := hA_adone.kept (ho _ (y_ne hY_adone hY_astones rfl))
                    replace hA_acost := hA_acost.kept (ho _ (y_ne hY_acost hY_astones rfl))
                    refine lv_goto hx hb aT_d139 (tgt := 269) (by decide) ?_
                    have hL := hLc.putS hY_this (j := (f 1).toInt.toNat) (z := (12, 10)) (by omega) hs9 h_at h_ne ho (by decide) hY_n124 (by show ((12 : Nat) : Int) = 11 + k.toInt; omega) hst0 hst1 hst2 hst3 hst4
                    have hF : z_fr D Y0 s.heap _ this := fun b u g9 hb hg9 hn hk9 => x_eq.trans (x_eq.of (ho b (fun e0 => hk9 7 (by decide) (by rw [e0]; exact hs0_astones)))) (hK b u g9 hb hg9)
                    exact aT_L269 B rfl hL0 hs0_astones hs0_adone hs0_acost hd1 hok _ _ _ _ hI hY_this hY_astones hY_adone hY_acost hs_astones hs_adone hs_acost hsi_things hA_adone hA_acost (lv_sub hl [1, 2, 3, 4, 5, 6] rfl) (by first | assumption | omega) (by first | assumption | omega)
                  · refine lv_tableIn hx hb aT_d80 (by omega) (by omega) (off := 62) (by rw [hq9]; rfl) (tgt := 142) (by decide) ?_
                    refine lv_aload_n hx hb aT_d142 rfl (lv_at hl 1 rfl) ?_
                    refine y_getf X (fl39 X.2.2.2.2.1) hI.1 hY_this rfl hs_astones aT_d143 ?_
                    refine lv_aload_n hx hb aT_d146 rfl (lv_at hl 1 rfl) ?_
                    refine y_getf X (fl42 X.2.2.2.2.1) hI.1 hY_this rfl hsi_things aT_d147 ?_
                    refine y_newo (tag := 13) X hY0 hI rfl ⟨4, _, RX4, TX4, tyX4, rfl, rfl, iX4, tyX4_ok, (hts _ (x_bw21 4 rfl rfl)), (hts _ (x_bw21 5 rfl rfl)), (hts _ (x_bw0 11 rfl rfl)), x_dfl (by decide +kernel)⟩ (Nat.le_of_ble_eq_true rfl) (Nat.le_of_ble_eq_true rfl) aT_d150 fun Yn H n150 hnw => ?_
                    obtain ⟨hIn, hmo, hY_n150, hfr_n150, hke⟩ := hnw
                    replace hs_astones := y_slk hs_astones (hke _ _ hY_this)
                    replace hs_adone := y_slk hs_adone (hke _ _ hY_this)
                    replace hs_acost := y_slk hs_acost (hke _ _ hY_this)
                    replace hsi_things := y_slk hsi_things (hke _ _ hY_this)
                    replace hA_adone := hA_adone.kept (hke _ _ hY_adone)
                    replace hA_acost := hA_acost.kept (hke _ _ hY_acost)
                    replace hK := fun b u g9 (hb : Y0 b = some u) (hg9 : x_G[u]? = some g9) => x_eq.trans (x_eq.of (hke _ _ (y_mon B hI _ _ hb))) (hK b u g9 hb hg9)
                    replace hY_this := hmo _ _ hY_this
                    replace hY_astones := hmo _ _ hY_astones
                    replace hY_adone := hmo _ _ hY_adone
                    replace hY_acost := hmo _ _ hY_acost
                    replace hI := hIn
                    clear hIn hmo hke
                    refine lv_dup hx hb aT_d153 rfl ?_
                    refine lv_iload_n hx hb aT_d154 rfl (lv_at hl 2 rfl) ?_
                    refine lv_iload_n hx hb aT_d155 rfl (lv_at hl 3 rfl) ?_
                    refine lv_iload_n hx hb aT_d156 rfl (lv_at hl 4 rfl) ?_
                    refine lv_iload hx hb aT_d157 (lv_at hl 5 rfl) ?_
                    refine lv_iload hx hb aT_d159 (lv_at hl 6 rfl) ?_
                    refine y_call (z := (2, 95, 6, none, xM15)) (av := [.ref n150, .int k, .int x, .int y, .int h, .int g]) (rest := [.ref n150, .int (f 1), .ref astones]) (y_cokI (n := 5) X ym_pine rfl (x_cons (x_bw21 6 rfl rfl) (x_cons (x_bw21 7 rfl rfl) (x_cons (x_bw0 11 rfl rfl) x_nilm))) (x_bw21 8 rfl rfl) rfl (fun Y av h => x_this h) (by decide +kernel) ⟨Nat.le_of_ble_eq_true rfl, Nat.le_of_ble_eq_true rfl⟩) hY0 hI rfl aT_d161 hl.1 (Nat.le_of_ble_eq_true rfl) (Nat.le_of_ble_eq_true rfl) (Nat.le_of_ble_eq_true rfl) (y_cons (y_cref hY_n150 rfl) (y_cons ⟨_, rfl, x_i32 _⟩ (y_cons ⟨_, rfl, x_i32 _⟩ (y_cons ⟨_, rfl, x_i32 _⟩ (y_cons ⟨_, rfl, x_i32 _⟩ (y_cons ⟨_, rfl, x_i32 _⟩ y_nil)))))) rfl (y_norecv rfl) trivial (y_sub_ef rfl) fun v Yn o Hn L ho hr ha hIn hx_ hE hP => ?_
                    have hPs := hP _ _ _ _ _ _ rfl
                    have hPf := hPs.1 (13, 4) (by decide) hY_n150
                    replace hs_astones := y_Efld hE hY_this rfl (by decide) (by decide) hs_astones
                    replace hs_adone := y_Efld hE hY_this rfl (by decide) (by decide) hs_adone
                    replace hs_acost := y_Efld hE hY_this rfl (by decide) (by decide) hs_acost
                    replace hsi_things := y_Efld hE hY_this rfl (by decide) (by decide) hsi_things
                    replace hA_adone := hA_adone.kept (y_Earr hE hY_adone rfl (by decide))
                    replace hA_acost := hA_acost.kept (y_Earr hE hY_acost rfl (by decide))
                    replace hK := fun b u g9 (hb : Y0 b = some u) (hg9 : x_G[u]? = some g9) => x_eq.trans (x_eq.of (hPs.2 b (fun e0 => absurd (hY0 _ _ hb) (by rw [e0]; exact Nat.not_lt.mpr hfr_n150)))) (hK b u g9 hb hg9)
                    replace hY_this := y_ext hx_ hI.1 hY_this
                    replace hY_astones := y_ext hx_ hI.1 hY_astones
                    replace hY_adone := y_ext hx_ hI.1 hY_adone
                    replace hY_acost := y_ext hx_ hI.1 hY_acost
                    replace hY_n150 := y_ext hx_ hI.1 hY_n150
                    obtain rfl := y_ansV rfl ho hr
                    obtain ⟨hst0, hst1, hst2, hst3, hst4⟩ := hPf
                    clear ho hr ha hE hP hI hx_
                    rename x_I _ _ _ _ _ _ _ _ _ _ => hI
                    have hLc := hL0.xeq hYt0 (y_mon B hI) hK
                    have hs9 := hs_astones
                    refine y_aast X hY0 hI hY_astones rfl hY_n150 rfl rfl (X.2.2.2.2.2.2.2.2.1 _ (x_bn89 4 rfl rfl)) (by omega) (by show _ < (8 : Int); omega) (y_crefA hY_n150 rfl) (by decide +kernel) aT_d164 fun H locs hI h_at h_ne ho => ?_
                    replace hs_astones := y_slk hs_astones (ho _ (y_ne hY_this hY_astones rfl))
                    replace hs_adone := y_slk hs_adone (ho _ (y_ne hY_this hY_astones rfl))
                    replace hs_acost := y_slk hs_acost (ho _ (y_ne hY_this hY_astones rfl))
                    replace hsi_things := y_slk hsi_things (ho _ (y_ne hY_this hY_astones rfl))
                    replace hst0 := y_slk hst0 (ho _ (y_ne hY_n150 hY_astones rfl))
                    replace hst1 := y_slk hst1 (ho _ (y_ne hY_n150 hY_astones rfl))
                    replace hst2 := y_slk hst2 (ho _ (y_ne hY_n150 hY_astones rfl))
                    replace hst3 := y_slk hst3 (ho _ (y_ne hY_n150 hY_astones rfl))
                    replace hst4 := y_slk hst4 (ho _ (y_ne hY_n150 hY_astones rfl))
                    replace hA_adone := hA_adone.kept (ho _ (y_ne hY_adone hY_astones rfl))
                    replace hA_acost := hA_acost.kept (ho _ (y_ne hY_acost hY_astones rfl))
                    refine lv_goto hx hb aT_d165 (tgt := 269) (by decide) ?_
                    have hL := hLc.putS hY_this (j := (f 1).toInt.toNat) (z := (13, 4)) (by omega) hs9 h_at h_ne ho (by decide) hY_n150 (by show ((13 : Nat) : Int) = 11 + k.toInt; omega) hst0 hst1 hst2 hst3 hst4
                    have hF : z_fr D Y0 s.heap _ this := fun b u g9 hb hg9 hn hk9 => x_eq.trans (x_eq.of (ho b (fun e0 => hk9 7 (by decide) (by rw [e0]; exact hs0_astones)))) (hK b u g9 hb hg9)
                    exact aT_L269 B rfl hL0 hs0_astones hs0_adone hs0_acost hd1 hok _ _ _ _ hI hY_this hY_astones hY_adone hY_acost hs_astones hs_adone hs_acost hsi_things hA_adone hA_acost (lv_sub hl [1, 2, 3, 4, 5, 6] rfl) (by first | assumption | omega) (by first | assumption | omega)
                  · refine lv_tableIn hx hb aT_d80 (by omega) (by omega) (off := 88) (by rw [hq9]; rfl) (tgt := 168) (by decide) ?_
                    refine lv_aload_n hx hb aT_d168 rfl (lv_at hl 1 rfl) ?_
                    refine y_getf X (fl39 X.2.2.2.2.1) hI.1 hY_this rfl hs_astones aT_d169 ?_
                    refine lv_aload_n hx hb aT_d172 rfl (lv_at hl 1 rfl) ?_
                    refine y_getf X (fl42 X.2.2.2.2.1) hI.1 hY_this rfl hsi_things aT_d173 ?_
                    refine y_newo (tag := 14) X hY0 hI rfl ⟨1, _, RX1, TX1, tyX1, rfl, rfl, iX1, tyX1_ok, (hts _ (x_bw22 0 rfl rfl)), (hts _ (x_bw22 1 rfl rfl)), (hts _ (x_bw0 12 rfl rfl)), x_dfl (by decide +kernel)⟩ (Nat.le_of_ble_eq_true rfl) (Nat.le_of_ble_eq_true rfl) aT_d176 fun Yn H n176 hnw => ?_
                    obtain ⟨hIn, hmo, hY_n176, hfr_n176, hke⟩ := hnw
                    replace hs_astones := y_slk hs_astones (hke _ _ hY_this)
                    replace hs_adone := y_slk hs_adone (hke _ _ hY_this)
                    replace hs_acost := y_slk hs_acost (hke _ _ hY_this)
                    replace hsi_things := y_slk hsi_things (hke _ _ hY_this)
                    replace hA_adone := hA_adone.kept (hke _ _ hY_adone)
                    replace hA_acost := hA_acost.kept (hke _ _ hY_acost)
                    replace hK := fun b u g9 (hb : Y0 b = some u) (hg9 : x_G[u]? = some g9) => x_eq.trans (x_eq.of (hke _ _ (y_mon B hI _ _ hb))) (hK b u g9 hb hg9)
                    replace hY_this := hmo _ _ hY_this
                    replace hY_astones := hmo _ _ hY_astones
                    replace hY_adone := hmo _ _ hY_adone
                    replace hY_acost := hmo _ _ hY_acost
                    replace hI := hIn
                    clear hIn hmo hke
                    refine lv_dup hx hb aT_d179 rfl ?_
                    refine lv_iload_n hx hb aT_d180 rfl (lv_at hl 2 rfl) ?_
                    refine lv_iload_n hx hb aT_d181 rfl (lv_at hl 3 rfl) ?_
                    refine lv_iload_n hx hb aT_d182 rfl (lv_at hl 4 rfl) ?_
                    refine lv_iload hx hb aT_d183 (lv_at hl 5 rfl) ?_
                    refine lv_iload hx hb aT_d185 (lv_at hl 6 rfl) ?_
                    refine y_call (z := (2, 98, 6, none, xM16)) (av := [.ref n176, .int k, .int x, .int y, .int h, .int g]) (rest := [.ref n176, .int (f 1), .ref astones]) (y_cokI (n := 5) X ym_hedge rfl (x_cons (x_bw22 2 rfl rfl) (x_cons (x_bw22 3 rfl rfl) (x_cons (x_bw0 12 rfl rfl) x_nilm))) (x_bw22 4 rfl rfl) rfl (fun Y av h => x_this h) (by decide +kernel) ⟨Nat.le_of_ble_eq_true rfl, Nat.le_of_ble_eq_true rfl⟩) hY0 hI rfl aT_d187 hl.1 (Nat.le_of_ble_eq_true rfl) (Nat.le_of_ble_eq_true rfl) (Nat.le_of_ble_eq_true rfl) (y_cons (y_cref hY_n176 rfl) (y_cons ⟨_, rfl, x_i32 _⟩ (y_cons ⟨_, rfl, x_i32 _⟩ (y_cons ⟨_, rfl, x_i32 _⟩ (y_cons ⟨_, rfl, x_i32 _⟩ (y_cons ⟨_, rfl, x_i32 _⟩ y_nil)))))) rfl (y_norecv rfl) trivial (y_sub_ef rfl) fun v Yn o Hn L ho hr ha hIn hx_ hE hP => ?_
                    have hPs := hP _ _ _ _ _ _ rfl
                    have hPf := hPs.1 (14, 1) (by decide) hY_n176
                    replace hs_astones := y_Efld hE hY_this rfl (by decide) (by decide) hs_astones
                    replace hs_adone := y_Efld hE hY_this rfl (by decide) (by decide) hs_adone
                    replace hs_acost := y_Efld hE hY_this rfl (by decide) (by decide) hs_acost
                    replace hsi_things := y_Efld hE hY_this rfl (by decide) (by decide) hsi_things
                    replace hA_adone := hA_adone.kept (y_Earr hE hY_adone rfl (by decide))
                    replace hA_acost := hA_acost.kept (y_Earr hE hY_acost rfl (by decide))
                    replace hK := fun b u g9 (hb : Y0 b = some u) (hg9 : x_G[u]? = some g9) => x_eq.trans (x_eq.of (hPs.2 b (fun e0 => absurd (hY0 _ _ hb) (by rw [e0]; exact Nat.not_lt.mpr hfr_n176)))) (hK b u g9 hb hg9)
                    replace hY_this := y_ext hx_ hI.1 hY_this
                    replace hY_astones := y_ext hx_ hI.1 hY_astones
                    replace hY_adone := y_ext hx_ hI.1 hY_adone
                    replace hY_acost := y_ext hx_ hI.1 hY_acost
                    replace hY_n176 := y_ext hx_ hI.1 hY_n176
                    obtain rfl := y_ansV rfl ho hr
                    obtain ⟨hst0, hst1, hst2, hst3, hst4⟩ := hPf
                    clear ho hr ha hE hP hI hx_
                    rename x_I _ _ _ _ _ _ _ _ _ _ => hI
                    have hLc := hL0.xeq hYt0 (y_mon B hI) hK
                    have hs9 := hs_astones
                    refine y_aast X hY0 hI hY_astones rfl hY_n176 rfl rfl (X.2.2.2.2.2.2.2.2.1 _ (x_bn89 5 rfl rfl)) (by omega) (by show _ < (8 : Int); omega) (y_crefA hY_n176 rfl) (by decide +kernel) aT_d190 fun H locs hI h_at h_ne ho => ?_
                    replace hs_astones := y_slk hs_astones (ho _ (y_ne hY_this hY_astones rfl))
                    replace hs_adone := y_slk hs_adone (ho _ (y_ne hY_this hY_astones rfl))
                    replace hs_acost := y_slk hs_acost (ho _ (y_ne hY_this hY_astones rfl))
                    replace hsi_things := y_slk hsi_things (ho _ (y_ne hY_this hY_astones rfl))
                    replace hst0 := y_slk hst0 (ho _ (y_ne hY_n176 hY_astones rfl))
                    replace hst1 := y_slk hst1 (ho _ (y_ne hY_n176 hY_astones rfl))
                    replace hst2 := y_slk hst2 (ho _ (y_ne hY_n176 hY_astones rfl))
                    replace hst3 := y_slk hst3 (ho _ (y_ne hY_n176 hY_astones rfl))
                    replace hst4 := y_slk hst4 (ho _ (y_ne hY_n176 hY_astones rfl))
                    replace hA_adone := hA_adone.kept (ho _ (y_ne hY_adone hY_astones rfl))
                    replace hA_acost := hA_acost.kept (ho _ (y_ne hY_acost hY_astones rfl))
                    refine lv_goto hx hb aT_d191 (tgt := 269) (by decide) ?_
                    have hL := hLc.putS hY_this (j := (f 1).toInt.toNat) (z := (14, 1)) (by omega) hs9 h_at h_ne ho (by decide) hY_n176 (by show ((14 : Nat) : Int) = 11 + k.toInt; omega) hst0 hst1 hst2 hst3 hst4
                    have hF : z_fr D Y0 s.heap _ this := fun b u g9 hb hg9 hn hk9 => x_eq.trans (x_eq.of (ho b (fun e0 => hk9 7 (by decide) (by rw [e0]; exact hs0_astones)))) (hK b u g9 hb hg9)
                    exact aT_L269 B rfl hL0 hs0_astones hs0_adone hs0_acost hd1 hok _ _ _ _ hI hY_this hY_astones hY_adone hY_acost hs_astones hs_adone hs_acost hsi_things hA_adone hA_acost (lv_sub hl [1, 2, 3, 4, 5, 6] rfl) (by first | assumption | omega) (by first | assumption | omega)
                  · refine lv_tableIn hx hb aT_d80 (by omega) (by omega) (off := 114) (by rw [hq9]; rfl) (tgt := 194) (by decide) ?_
                    refine lv_aload_n hx hb aT_d194 rfl (lv_at hl 1 rfl) ?_
                    refine y_getf X (fl39 X.2.2.2.2.1) hI.1 hY_this rfl hs_astones aT_d195 ?_
                    refine lv_aload_n hx hb aT_d198 rfl (lv_at hl 1 rfl) ?_
                    refine y_getf X (fl42 X.2.2.2.2.1) hI.1 hY_this rfl hsi_things aT_d199 ?_
                    refine y_newo (tag := 15) X hY0 hI rfl ⟨8, _, RX8, TX8, tyX8, rfl, rfl, iX8, tyX8_ok, (hts _ (x_bw22 12 rfl rfl)), (hts _ (x_bw22 13 rfl rfl)), (hts _ (x_bw0 13 rfl rfl)), x_dfl (by decide +kernel)⟩ (Nat.le_of_ble_eq_true rfl) (Nat.le_of_ble_eq_true rfl) aT_d202 fun Yn H n202 hnw => ?_
                    obtain ⟨hIn, hmo, hY_n202, hfr_n202, hke⟩ := hnw
                    replace hs_astones := y_slk hs_astones (hke _ _ hY_this)
                    replace hs_adone := y_slk hs_adone (hke _ _ hY_this)
                    replace hs_acost := y_slk hs_acost (hke _ _ hY_this)
                    replace hsi_things := y_slk hsi_things (hke _ _ hY_this)
                    replace hA_adone := hA_adone.kept (hke _ _ hY_adone)
                    replace hA_acost := hA_acost.kept (hke _ _ hY_acost)
                    replace hK := fun b u g9 (hb : Y0 b = some u) (hg9 : x_G[u]? = some g9) => x_eq.trans (x_eq.of (hke _ _ (y_mon B hI _ _ hb))) (hK b u g9 hb hg9)
                    replace hY_this := hmo _ _ hY_this
                    replace hY_astones := hmo _ _ hY_astones
                    replace hY_adone := hmo _ _ hY_adone
                    replace hY_acost := hmo _ _ hY_acost
                    replace hI := hIn
                    clear hIn hmo hke
                    refine lv_dup hx hb aT_d205 rfl ?_
                    refine lv_iload_n hx hb aT_d206 rfl (lv_at hl 2 rfl) ?_
                    refine lv_iload_n hx hb aT_d207 rfl (lv_at hl 3 rfl) ?_
                    refine lv_iload_n hx hb aT_d208 rfl (lv_at hl 4 rfl) ?_
                    refine lv_iload hx hb aT_d209 (lv_at hl 5 rfl) ?_
                    refine lv_iload hx hb aT_d211 (lv_at hl 6 rfl) ?_
                    refine y_call (z := (2, 101, 6, none, xM17)) (av := [.ref n202, .int k, .int x, .int y, .int h, .int g]) (rest := [.ref n202, .int (f 1), .ref astones]) (y_cokI (n := 5) X ym_topped rfl (x_cons (x_bw22 14 rfl rfl) (x_cons (x_bw22 15 rfl rfl) (x_cons (x_bw0 13 rfl rfl) x_nilm))) (x_bw23 0 rfl rfl) rfl (fun Y av h => x_this h) (by decide +kernel) ⟨Nat.le_of_ble_eq_true rfl, Nat.le_of_ble_eq_true rfl⟩) hY0 hI rfl aT_d213 hl.1 (Nat.le_of_ble_eq_true rfl) (Nat.le_of_ble_eq_true rfl) (Nat.le_of_ble_eq_true rfl) (y_cons (y_cref hY_n202 rfl) (y_cons ⟨_, rfl, x_i32 _⟩ (y_cons ⟨_, rfl, x_i32 _⟩ (y_cons ⟨_, rfl, x_i32 _⟩ (y_cons ⟨_, rfl, x_i32 _⟩ (y_cons ⟨_, rfl, x_i32 _⟩ y_nil)))))) rfl (y_norecv rfl) trivial (y_sub_ef rfl) fun v Yn o Hn L ho hr ha hIn hx_ hE hP => ?_
                    have hPs := hP _ _ _ _ _ _ rfl
                    have hPf := hPs.1 (15, 8) (by decide) hY_n202
                    replace hs_astones := y_Efld hE hY_this rfl (by decide) (by decide) hs_astones
                    replace hs_adone := y_Efld hE hY_this rfl (by decide) (by decide) hs_adone
                    replace hs_acost := y_Efld hE hY_this rfl (by decide) (by decide) hs_acost
                    replace hsi_things := y_Efld hE hY_this rfl (by decide) (by decide) hsi_things
                    replace hA_adone := hA_adone.kept (y_Earr hE hY_adone rfl (by decide))
                    replace hA_acost := hA_acost.kept (y_Earr hE hY_acost rfl (by decide))
                    replace hK := fun b u g9 (hb : Y0 b = some u) (hg9 : x_G[u]? = some g9) => x_eq.trans (x_eq.of (hPs.2 b (fun e0 => absurd (hY0 _ _ hb) (by rw [e0]; exact Nat.not_lt.mpr hfr_n202)))) (hK b u g9 hb hg9)
                    replace hY_this := y_ext hx_ hI.1 hY_this
                    replace hY_astones := y_ext hx_ hI.1 hY_astones
                    replace hY_adone := y_ext hx_ hI.1 hY_adone
                    replace hY_acost := y_ext hx_ hI.1 hY_acost
                    replace hY_n202 := y_ext hx_ hI.1 hY_n202
                    obtain rfl := y_ansV rfl ho hr
                    obtain ⟨hst0, hst1, hst2, hst3, hst4⟩ := hPf
                    clear ho hr ha hE hP hI hx_
                    rename x_I _ _ _ _ _ _ _ _ _ _ => hI
                    have hLc := hL0.xeq hYt0 (y_mon B hI) hK
                    have hs9 := hs_astones
                    refine y_aast X hY0 hI hY_astones rfl hY_n202 rfl rfl (X.2.2.2.2.2.2.2.2.1 _ (x_bn89 6 rfl rfl)) (by omega) (by show _ < (8 : Int); omega) (y_crefA hY_n202 rfl) (by decide +kernel) aT_d216 fun H locs hI h_at h_ne ho => ?_
                    replace hs_astones := y_slk hs_astones (ho _ (y_ne hY_this hY_astones rfl))
                    replace hs_adone := y_slk hs_adone (ho _ (y_ne hY_this hY_astones rfl))
                    replace hs_acost := y_slk hs_acost (ho _ (y_ne hY_this hY_astones rfl))
                    replace hsi_things := y_slk hsi_things (ho _ (y_ne hY_this hY_astones rfl))
                    replace hst0 := y_slk hst0 (ho _ (y_ne hY_n202 hY_astones rfl))
                    replace hst1 := y_slk hst1 (ho _ (y_ne hY_n202 hY_astones rfl))
                    replace hst2 := y_slk hst2 (ho _ (y_ne hY_n202 hY_astones rfl))
                    replace hst3 := y_slk hst3 (ho _ (y_ne hY_n202 hY_astones rfl))
                    replace hst4 := y_slk hst4 (ho _ (y_ne hY_n202 hY_astones rfl))
                    replace hA_adone := hA_adone.kept (ho _ (y_ne hY_adone hY_astones rfl))
                    replace hA_acost := hA_acost.kept (ho _ (y_ne hY_acost hY_astones rfl))
                    refine lv_goto hx hb aT_d217 (tgt := 269) (by decide) ?_
                    have hL := hLc.putS hY_this (j := (f 1).toInt.toNat) (z := (15, 8)) (by omega) hs9 h_at h_ne ho (by decide) hY_n202 (by show ((15 : Nat) : Int) = 11 + k.toInt; omega) hst0 hst1 hst2 hst3 hst4
                    have hF : z_fr D Y0 s.heap _ this := fun b u g9 hb hg9 hn hk9 => x_eq.trans (x_eq.of (ho b (fun e0 => hk9 7 (by decide) (by rw [e0]; exact hs0_astones)))) (hK b u g9 hb hg9)
                    exact aT_L269 B rfl hL0 hs0_astones hs0_adone hs0_acost hd1 hok _ _ _ _ hI hY_this hY_astones hY_adone hY_acost hs_astones hs_adone hs_acost hsi_things hA_adone hA_acost (lv_sub hl [1, 2, 3, 4, 5, 6] rfl) (by first | assumption | omega) (by first | assumption | omega)
                  · refine lv_tableIn hx hb aT_d80 (by omega) (by omega) (off := 140) (by rw [hq9]; rfl) (tgt := 220) (by decide) ?_
                    refine lv_aload_n hx hb aT_d220 rfl (lv_at hl 1 rfl) ?_
                    refine y_getf X (fl39 X.2.2.2.2.1) hI.1 hY_this rfl hs_astones aT_d221 ?_
                    refine lv_aload_n hx hb aT_d224 rfl (lv_at hl 1 rfl) ?_
                    refine y_getf X (fl42 X.2.2.2.2.1) hI.1 hY_this rfl hsi_things aT_d225 ?_
                    refine y_newo (tag := 16) X hY0 hI rfl ⟨9, _, RX9, TX9, tyX9, rfl, rfl, iX9, tyX9_ok, (hts _ (x_bw23 8 rfl rfl)), (hts _ (x_bw23 9 rfl rfl)), (hts _ (x_bw0 14 rfl rfl)), x_dfl (by decide +kernel)⟩ (Nat.le_of_ble_eq_true rfl) (Nat.le_of_ble_eq_true rfl) aT_d228 fun Yn H n228 hnw => ?_
                    obtain ⟨hIn, hmo, hY_n228, hfr_n228, hke⟩ := hnw
                    replace hs_astones := y_slk hs_astones (hke _ _ hY_this)
                    replace hs_adone := y_slk hs_adone (hke _ _ hY_this)
                    replace hs_acost := y_slk hs_acost (hke _ _ hY_this)
                    replace hsi_things := y_slk hsi_things (hke _ _ hY_this)
                    replace hA_adone := hA_adone.kept (hke _ _ hY_adone)
                    replace hA_acost := hA_acost.kept (hke _ _ hY_acost)
                    replace hK := fun b u g9 (hb : Y0 b = some u) (hg9 : x_G[u]? = some g9) => x_eq.trans (x_eq.of (hke _ _ (y_mon B hI _ _ hb))) (hK b u g9 hb hg9)
                    replace hY_this := hmo _ _ hY_this
                    replace hY_astones := hmo _ _ hY_astones
                    replace hY_adone := hmo _ _ hY_adone
                    replace hY_acost := hmo _ _ hY_acost
                    replace hI := hIn
                    clear hIn hmo hke
                    refine lv_dup hx hb aT_d231 rfl ?_
                    refine lv_iload_n hx hb aT_d232 rfl (lv_at hl 2 rfl) ?_
                    refine lv_iload_n hx hb aT_d233 rfl (lv_at hl 3 rfl) ?_
                    refine lv_iload_n hx hb aT_d234 rfl (lv_at hl 4 rfl) ?_
                    refine lv_iload hx hb aT_d235 (lv_at hl 5 rfl) ?_
                    refine lv_iload hx hb aT_d237 (lv_at hl 6 rfl) ?_
                    refine y_call (z := (2, 104, 6, none, xM18)) (av := [.ref n228, .int k, .int x, .int y, .int h, .int g]) (rest := [.ref n228, .int (f 1), .ref astones]) (y_cokI (n := 5) X ym_wall rfl (x_cons (x_bw23 10 rfl rfl) (x_cons (x_bw23 11 rfl rfl) (x_cons (x_bw0 14 rfl rfl) x_nilm))) (x_bw23 12 rfl rfl) rfl (fun Y av h => x_this h) (by decide +kernel) ⟨Nat.le_of_ble_eq_true rfl, Nat.le_of_ble_eq_true rfl⟩) hY0 hI rfl aT_d239 hl.1 (Nat.le_of_ble_eq_true rfl) (Nat.le_of_ble_eq_true rfl) (Nat.le_of_ble_eq_true rfl) (y_cons (y_cref hY_n228 rfl) (y_cons ⟨_, rfl, x_i32 _⟩ (y_cons ⟨_, rfl, x_i32 _⟩ (y_cons ⟨_, rfl, x_i32 _⟩ (y_cons ⟨_, rfl, x_i32 _⟩ (y_cons ⟨_, rfl, x_i32 _⟩ y_nil)))))) rfl (y_norecv rfl) trivial (y_sub_ef rfl) fun v Yn o Hn L ho hr ha hIn hx_ hE hP => ?_
                    have hPs := hP _ _ _ _ _ _ rfl
                    have hPf := hPs.1 (16, 9) (by decide) hY_n228
                    replace hs_astones := y_Efld hE hY_this rfl (by decide) (by decide) hs_astones
                    replace hs_adone := y_Efld hE hY_this rfl (by decide) (by decide) hs_adone
                    replace hs_acost := y_Efld hE hY_this rfl (by decide) (by decide) hs_acost
                    replace hsi_things := y_Efld hE hY_this rfl (by decide) (by decide) hsi_things
                    replace hA_adone := hA_adone.kept (y_Earr hE hY_adone rfl (by decide))
                    replace hA_acost := hA_acost.kept (y_Earr hE hY_acost rfl (by decide))
                    replace hK := fun b u g9 (hb : Y0 b = some u) (hg9 : x_G[u]? = some g9) => x_eq.trans (x_eq.of (hPs.2 b (fun e0 => absurd (hY0 _ _ hb) (by rw [e0]; exact Nat.not_lt.mpr hfr_n228)))) (hK b u g9 hb hg9)
                    replace hY_this := y_ext hx_ hI.1 hY_this
                    replace hY_astones := y_ext hx_ hI.1 hY_astones
                    replace hY_adone := y_ext hx_ hI.1 hY_adone
                    replace hY_acost := y_ext hx_ hI.1 hY_acost
                    replace hY_n228 := y_ext hx_ hI.1 hY_n228
                    obtain rfl := y_ansV rfl ho hr
                    obtain ⟨hst0, hst1, hst2, hst3, hst4⟩ := hPf
                    clear ho hr ha hE hP hI hx_
                    rename x_I _ _ _ _ _ _ _ _ _ _ => hI
                    have hLc := hL0.xeq hYt0 (y_mon B hI) hK
                    have hs9 := hs_astones
                    refine y_aast X hY0 hI hY_astones rfl hY_n228 rfl rfl (X.2.2.2.2.2.2.2.2.1 _ (x_bn89 7 rfl rfl)) (by omega) (by show _ < (8 : Int); omega) (y_crefA hY_n228 rfl) (by decide +kernel) aT_d242 fun H locs hI h_at h_ne ho => ?_
                    replace hs_astones := y_slk hs_astones (ho _ (y_ne hY_this hY_astones rfl))
                    replace hs_adone := y_slk hs_adone (ho _ (y_ne hY_this hY_astones rfl))
                    replace hs_acost := y_slk hs_acost (ho _ (y_ne hY_this hY_astones rfl))
                    replace hsi_things := y_slk hsi_things (ho _ (y_ne hY_this hY_astones rfl))
                    replace hst0 := y_slk hst0 (ho _ (y_ne hY_n228 hY_astones rfl))
                    replace hst1 := y_slk hst1 (ho _ (y_ne hY_n228 hY_astones rfl))
                    replace hst2 := y_slk hst2 (ho _ (y_ne hY_n228 hY_astones rfl))
                    replace hst3 := y_slk hst3 (ho _ (y_ne hY_n228 hY_astones rfl))
                    replace hst4 := y_slk hst4 (ho _ (y_ne hY_n228 hY_astones rfl))
                    replace hA_adone := hA_adone.kept (ho _ (y_ne hY_adone hY_astones rfl))
                    replace hA_acost := hA_acost.kept (ho _ (y_ne hY_acost hY_astones rfl))
                    refine lv_goto hx hb aT_d243 (tgt := 269) (by decide) ?_
                    have hL := hLc.putS hY_this (j := (f 1).toInt.toNat) (z := (16, 9)) (by omega) hs9 h_at h_ne ho (by decide) hY_n228 (by show ((16 : Nat) : Int) = 11 + k.toInt; omega) hst0 hst1 hst2 hst3 hst4
                    have hF : z_fr D Y0 s.heap _ this := fun b u g9 hb hg9 hn hk9 => x_eq.trans (x_eq.of (ho b (fun e0 => hk9 7 (by decide) (by rw [e0]; exact hs0_astones)))) (hK b u g9 hb hg9)
                    exact aT_L269 B rfl hL0 hs0_astones hs0_adone hs0_acost hd1 hok _ _ _ _ hI hY_this hY_astones hY_adone hY_acost hs_astones hs_adone hs_acost hsi_things hA_adone hA_acost (lv_sub hl [1, 2, 3, 4, 5, 6] rfl) (by first | assumption | omega) (by first | assumption | omega)
                · have q73_ : (8 : Int32).toInt ≤ (f 1).toInt := Int.not_lt.mp fun q => q73 (x_lt32.mpr q)
                  refine lv_bipush hx hb aT_d76 (v := (-4)) (by decide) ?_
                  have ecm4 : ((-4) : Int32).toInt = (-4) := by decide
                  have hL : z_L D _ this _ f := hL0.xeq hYt0 (y_mon B hI) hK
                  have hF : z_fr D Y0 s.heap _ this := fun b u g9 hb hg9 _ _ => hK b u g9 hb hg9
                  exact y_ireturn B hI rfl rfl rfl List.mem_cons_self ⟨_, rfl, ⟨_, rfl, by decide, by decide⟩⟩ (x_cs.mono B.2.2.2.2.2 (y_mon B hI)) (fun t' k' x' y' h' g' f' h1 h2 => by cases h1; cases h2.uniq hL0; exact ⟨hF, _, _, rfl, hL, fun q9 => absurd hok q9, fun _ _ => ⟨rfl, rfl⟩, fun _ q9 => absurd q9 (by omega)⟩) (by exact Nat.le_of_ble_eq_true rfl) (by exact Nat.le_of_ble_eq_true rfl) aT_d78
              · have q61_ : r58.toInt = (0 : Int32).toInt := by rw [q61]
                have hno : ¬ m_tOk k x y h g := fun q9 => by obtain ⟨a1, a2, a3, a4, a5, a6⟩ := q9; first | (have := hout_r19 (by assumption); omega) | (exact hout_r27 (by assumption) ⟨a2, a3⟩) | (have := hout_r38 (by assumption); omega) | (have := hout_r58 (by assumption); omega)
                refine lv_bipush hx hb aT_d64 (v := (-2)) (by decide) ?_
                have ecm2 : ((-2) : Int32).toInt = (-2) := by decide
                have hL : z_L D _ this _ f := hL0.xeq hYt0 (y_mon B hI) hK
                have hF : z_fr D Y0 s.heap _ this := fun b u g9 hb hg9 _ _ => hK b u g9 hb hg9
                exact y_ireturn B hI rfl rfl rfl List.mem_cons_self ⟨_, rfl, ⟨_, rfl, by decide, by decide⟩⟩ (x_cs.mono B.2.2.2.2.2 (y_mon B hI)) (fun t' k' x' y' h' g' f' h1 h2 => by cases h1; cases h2.uniq hL0; exact ⟨hF, _, _, rfl, hL, fun _ => ⟨rfl, rfl⟩, fun q9 => absurd q9 hno, fun q9 => absurd q9 hno⟩) (by exact Nat.le_of_ble_eq_true rfl) (by exact Nat.le_of_ble_eq_true rfl) aT_d66
            · have q49_ : ¬ (1 : Int32).toInt = (0 : Int32).toInt := fun q => q49 (Int32.toInt_inj.mp q)
              refine lv_bipush hx hb aT_d52 (v := 9) (by decide) ?_
              have ec9 : (9 : Int32).toInt = 9 := by decide
              refine lv_goto hx hb aT_d54 (tgt := 58) (by decide) ?_
              refine y_call (z := (1, 83, 3, none, xM10)) (av := [.int g, .int (0 : Int32), .int (9 : Int32)]) (rest := []) (y_cokSN (n := 3) (host := "TwinFires") X ym_within (x_cons (x_bw19 1 rfl rfl) (x_cons (x_bw0 1 rfl rfl) x_nilm)) (x_bn19 0 rfl rfl) (x_bw19 2 rfl rfl) (by decide +kernel) ⟨Nat.le_of_ble_eq_true rfl, Nat.le_of_ble_eq_true rfl⟩) hY0 hI rfl aT_d58 hl.1 (Nat.le_of_ble_eq_true rfl) (Nat.le_of_ble_eq_true rfl) (Nat.le_of_ble_eq_true rfl) (y_cons ⟨_, rfl, x_i32 _⟩ (y_cons ⟨_, rfl, x_i32 _⟩ (y_cons ⟨_, rfl, x_i32 _⟩ y_nil))) rfl (y_norecv rfl) trivial (y_sub_ef rfl) fun v Yn o Hn L ho hr ha hIn hx_ hE hP => ?_
              replace hs_astones := y_Efld hE hY_this rfl (by decide) (by decide) hs_astones
              replace hs_adone := y_Efld hE hY_this rfl (by decide) (by decide) hs_adone
              replace hs_acost := y_Efld hE hY_this rfl (by decide) (by decide) hs_acost
              replace hsi_things := y_Efld hE hY_this rfl (by decide) (by decide) hsi_things
              replace hA_adone := hA_adone.kept (y_Earr hE hY_adone rfl (by decide))
              replace hA_acost := hA_acost.kept (y_Earr hE hY_acost rfl (by decide))
              replace hK := fun b u g9 (hb : Y0 b = some u) (hg9 : x_G[u]? = some g9) => x_eq.trans (x_eq.E hE (y_mon B hI _ _ hb) hg9 rfl) (hK b u g9 hb hg9)
              replace hY_this := y_ext hx_ hI.1 hY_this
              replace hY_astones := y_ext hx_ hI.1 hY_astones
              replace hY_adone := y_ext hx_ hI.1 hY_adone
              replace hY_acost := y_ext hx_ hI.1 hY_acost
              obtain ⟨r58, rfl, hin_r58, hout_r58⟩ := hP _ _ _ rfl
              clear ho hr ha hE hP hI hx_
              rename x_I _ _ _ _ _ _ _ _ _ _ => hI
              refine lv_if_ne hx hb aT_d61 (tgt := 67) (by decide) (fun q61 => ?_) (fun q61 => ?_)
              · have q61_ : ¬ r58.toInt = (0 : Int32).toInt := fun q => q61 (Int32.toInt_inj.mp q)
                have hw1 := hin_r19 (by assumption)
                have hw2 := hin_r27 (by assumption)
                have hw3 := hin_r38 (by assumption)
                have hw4 := hin_r58 (by assumption)
                have hok : m_tOk k x y h g := ⟨by omega, hw2.1, hw2.2, by omega, by omega, fun q9 => by omega⟩
                refine lv_aload_n hx hb aT_d67 rfl (lv_at hl 1 rfl) ?_
                refine y_getf X (fl42 X.2.2.2.2.1) hI.1 hY_this rfl hsi_things aT_d68 ?_
                refine lv_bipush hx hb aT_d71 (v := 8) (by decide) ?_
                have ec8 : (8 : Int32).toInt = 8 := by decide
                refine lv_icmp_lt hx hb aT_d73 (tgt := 79) (by decide) (fun q73 => ?_) (fun q73 => ?_)
                · have q73_ : (f 1).toInt < (8 : Int32).toInt := x_lt32.mp q73
                  have hd1 : 0 ≤ (f 1).toInt ∧ (f 1).toInt < 8 := by omega
                  refine lv_iload_n hx hb aT_d79 rfl (lv_at hl 2 rfl) ?_
                  have hk9 : 0 ≤ k.toInt ∧ k.toInt ≤ 5 := hok.1
                  by_cases hlo : k.toInt < 1 ∨ 5 < k.toInt
                  · refine lv_tableOut hx hb aT_d80 hlo (tgt := 246) (by decide) ?_
                    refine lv_aload_n hx hb aT_d246 rfl (lv_at hl 1 rfl) ?_
                    refine y_getf X (fl39 X.2.2.2.2.1) hI.1 hY_this rfl hs_astones aT_d247 ?_
                    refine lv_aload_n hx hb aT_d250 rfl (lv_at hl 1 rfl) ?_
                    refine y_getf X (fl42 X.2.2.2.2.1) hI.1 hY_this rfl hsi_things aT_d251 ?_
                    refine y_newo (tag := 11) X hY0 hI rfl ⟨6, _, RX6, TX6, tyX6, rfl, rfl, iX6, tyX6_ok, (hts _ (x_bw2 4 rfl rfl)), (hts _ (x_bw2 9 rfl rfl)), (hts _ (x_bw0 4 rfl rfl)), x_dfl (by decide +kernel)⟩ (Nat.le_of_ble_eq_true rfl) (Nat.le_of_ble_eq_true rfl) aT_d254 fun Yn H n254 hnw => ?_
                    obtain ⟨hIn, hmo, hY_n254, hfr_n254, hke⟩ := hnw
                    replace hs_astones := y_slk hs_astones (hke _ _ hY_this)
                    replace hs_adone := y_slk hs_adone (hke _ _ hY_this)
                    replace hs_acost := y_slk hs_acost (hke _ _ hY_this)
                    replace hsi_things := y_slk hsi_things (hke _ _ hY_this)
                    replace hA_adone := hA_adone.kept (hke _ _ hY_adone)
                    replace hA_acost := hA_acost.kept (hke _ _ hY_acost)
                    replace hK := fun b u g9 (hb : Y0 b = some u) (hg9 : x_G[u]? = some g9) => x_eq.trans (x_eq.of (hke _ _ (y_mon B hI _ _ hb))) (hK b u g9 hb hg9)
                    replace hY_this := hmo _ _ hY_this
                    replace hY_astones := hmo _ _ hY_astones
                    replace hY_adone := hmo _ _ hY_adone
                    replace hY_acost := hmo _ _ hY_acost
                    replace hI := hIn
                    clear hIn hmo hke
                    refine lv_dup hx hb aT_d257 rfl ?_
                    refine lv_iload_n hx hb aT_d258 rfl (lv_at hl 2 rfl) ?_
                    refine lv_iload_n hx hb aT_d259 rfl (lv_at hl 3 rfl) ?_
                    refine lv_iload_n hx hb aT_d260 rfl (lv_at hl 4 rfl) ?_
                    refine lv_iload hx hb aT_d261 (lv_at hl 5 rfl) ?_
                    refine lv_iload hx hb aT_d263 (lv_at hl 6 rfl) ?_
                    refine y_call (z := (2, 60, 6, none, xM13)) (av := [.ref n254, .int k, .int x, .int y, .int h, .int g]) (rest := [.ref n254, .int (f 1), .ref astones]) (y_cokI (n := 5) X ym_stone rfl (x_cons (x_bw2 10 rfl rfl) (x_cons (x_bw2 11 rfl rfl) (x_cons (x_bw0 4 rfl rfl) x_nilm))) (x_bw2 12 rfl rfl) rfl (fun Y av h => x_this h) (by decide +kernel) ⟨Nat.le_of_ble_eq_true rfl, Nat.le_of_ble_eq_true rfl⟩) hY0 hI rfl aT_d265 hl.1 (Nat.le_of_ble_eq_true rfl) (Nat.le_of_ble_eq_true rfl) (Nat.le_of_ble_eq_true rfl) (y_cons (y_cref hY_n254 rfl) (y_cons ⟨_, rfl, x_i32 _⟩ (y_cons ⟨_, rfl, x_i32 _⟩ (y_cons ⟨_, rfl, x_i32 _⟩ (y_cons ⟨_, rfl, x_i32 _⟩ (y_cons ⟨_, rfl, x_i32 _⟩ y_nil)))))) rfl (y_norecv rfl) trivial (y_sub_ef rfl) fun v Yn o Hn L ho hr ha hIn hx_ hE hP => ?_
                    have hPs := hP _ _ _ _ _ _ rfl
                    have hPf := hPs.1 (11, 6) (by decide) hY_n254
                    replace hs_astones := y_Efld hE hY_this rfl (by decide) (by decide) hs_astones
                    replace hs_adone := y_Efld hE hY_this rfl (by decide) (by decide) hs_adone
                    replace hs_acost := y_Efld hE hY_this rfl (by decide) (by decide) hs_acost
                    replace hsi_things := y_Efld hE hY_this rfl (by decide) (by decide) hsi_things
                    replace hA_adone := hA_adone.kept (y_Earr hE hY_adone rfl (by decide))
                    replace hA_acost := hA_acost.kept (y_Earr hE hY_acost rfl (by decide))
                    replace hK := fun b u g9 (hb : Y0 b = some u) (hg9 : x_G[u]? = some g9) => x_eq.trans (x_eq.of (hPs.2 b (fun e0 => absurd (hY0 _ _ hb) (by rw [e0]; exact Nat.not_lt.mpr hfr_n254)))) (hK b u g9 hb hg9)
                    replace hY_this := y_ext hx_ hI.1 hY_this
                    replace hY_astones := y_ext hx_ hI.1 hY_astones
                    replace hY_adone := y_ext hx_ hI.1 hY_adone
                    replace hY_acost := y_ext hx_ hI.1 hY_acost
                    replace hY_n254 := y_ext hx_ hI.1 hY_n254
                    obtain rfl := y_ansV rfl ho hr
                    obtain ⟨hst0, hst1, hst2, hst3, hst4⟩ := hPf
                    clear ho hr ha hE hP hI hx_
                    rename x_I _ _ _ _ _ _ _ _ _ _ => hI
                    have hLc := hL0.xeq hYt0 (y_mon B hI) hK
                    have hs9 := hs_astones
                    refine y_aast X hY0 hI hY_astones rfl hY_n254 rfl rfl (x_castSelf (X.2.2.2.2.2.1.1 6 _ rfl).2) (by omega) (by show _ < (8 : Int); omega) (y_crefA hY_n254 rfl) (by decide +kernel) aT_d268 fun H locs hI h_at h_ne ho => ?_
                    replace hs_astones := y_slk hs_astones (ho _ (y_ne hY_this hY_astones rfl))
                    replace hs_adone := y_slk hs_adone (ho _ (y_ne hY_this hY_astones rfl))
                    replace hs_acost := y_slk hs_acost (ho _ (y_ne hY_this hY_astones rfl))
                    replace hsi_things := y_slk hsi_things (ho _ (y_ne hY_this hY_astones rfl))
                    replace hst0 := y_slk hst0 (ho _ (y_ne hY_n254 hY_astones rfl))
                    replace hst1 := y_slk hst1 (ho _ (y_ne hY_n254 hY_astones rfl))
                    replace hst2 := y_slk hst2 (ho _ (y_ne hY_n254 hY_astones rfl))
                    replace hst3 := y_slk hst3 (ho _ (y_ne hY_n254 hY_astones rfl))
                    replace hst4 := y_slk hst4 (ho _ (y_ne hY_n254 hY_astones rfl))
                    replace hA_adone := hA_adone.kept (ho _ (y_ne hY_adone hY_astones rfl))
                    replace hA_acost := hA_acost.kept (ho _ (y_ne hY_acost hY_astones rfl))
                    have hL := hLc.putS hY_this (j := (f 1).toInt.toNat) (z := (11, 6)) (by omega) hs9 h_at h_ne ho (by decide) hY_n254 (by show ((11 : Nat) : Int) = 11 + k.toInt; omega) hst0 hst1 hst2 hst3 hst4
                    have hF : z_fr D Y0 s.heap _ this := fun b u g9 hb hg9 hn hk9 => x_eq.trans (x_eq.of (ho b (fun e0 => hk9 7 (by decide) (by rw [e0]; exact hs0_astones)))) (hK b u g9 hb hg9)
                    exact aT_L269 B rfl hL0 hs0_astones hs0_adone hs0_acost hd1 hok _ _ _ _ hI hY_this hY_astones hY_adone hY_acost hs_astones hs_adone hs_acost hsi_things hA_adone hA_acost (lv_sub hl [1, 2, 3, 4, 5, 6] rfl) (by first | assumption | omega) (by first | assumption | omega)
                  rcases (show k.toInt = 1 ∨ k.toInt = 2 ∨ k.toInt = 3 ∨ k.toInt = 4 ∨ k.toInt = 5 by omega) with hq9 | hq9 | hq9 | hq9 | hq9
                  · refine lv_tableIn hx hb aT_d80 (by omega) (by omega) (off := 36) (by rw [hq9]; rfl) (tgt := 116) (by decide) ?_
                    refine lv_aload_n hx hb aT_d116 rfl (lv_at hl 1 rfl) ?_
                    refine y_getf X (fl39 X.2.2.2.2.1) hI.1 hY_this rfl hs_astones aT_d117 ?_
                    refine lv_aload_n hx hb aT_d120 rfl (lv_at hl 1 rfl) ?_
                    refine y_getf X (fl42 X.2.2.2.2.1) hI.1 hY_this rfl hsi_things aT_d121 ?_
                    refine y_newo (tag := 12) X hY0 hI rfl ⟨10, _, RX10, TX10, tyX10, rfl, rfl, iX10, tyX10_ok, (hts _ (x_bw20 8 rfl rfl)), (hts _ (x_bw20 9 rfl rfl)), (hts _ (x_bw0 10 rfl rfl)), x_dfl (by decide +kernel)⟩ (Nat.le_of_ble_eq_true rfl) (Nat.le_of_ble_eq_true rfl) aT_d124 fun Yn H n124 hnw => ?_
                    obtain ⟨hIn, hmo, hY_n124, hfr_n124, hke⟩ := hnw
                    replace hs_astones := y_slk hs_astones (hke _ _ hY_this)
                    replace hs_adone := y_slk hs_adone (hke _ _ hY_this)
                    replace hs_acost := y_slk hs_acost (hke _ _ hY_this)
                    replace hsi_things := y_slk hsi_things (hke _ _ hY_this)
                    replace hA_adone := hA_adone.kept (hke _ _ hY_adone)
                    replace hA_acost := hA_acost.kept (hke _ _ hY_acost)
                    replace hK := fun b u g9 (hb : Y0 b = some u) (hg9 : x_G[u]? = some g9) => x_eq.trans (x_eq.of (hke _ _ (y_mon B hI _ _ hb))) (hK b u g9 hb hg9)
                    replace hY_this := hmo _ _ hY_this
                    replace hY_astones := hmo _ _ hY_astones
                    replace hY_adone := hmo _ _ hY_adone
                    replace hY_acost := hmo _ _ hY_acost
                    replace hI := hIn
                    clear hIn hmo hke
                    refine lv_dup hx hb aT_d127 rfl ?_
                    refine lv_iload_n hx hb aT_d128 rfl (lv_at hl 2 rfl) ?_
                    refine lv_iload_n hx hb aT_d129 rfl (lv_at hl 3 rfl) ?_
                    refine lv_iload_n hx hb aT_d130 rfl (lv_at hl 4 rfl) ?_
                    refine lv_iload hx hb aT_d131 (lv_at hl 5 rfl) ?_
                    refine lv_iload hx hb aT_d133 (lv_at hl 6 rfl) ?_
                    refine y_call (z := (2, 92, 6, none, xM14)) (av := [.ref n124, .int k, .int x, .int y, .int h, .int g]) (rest := [.ref n124, .int (f 1), .ref astones]) (y_cokI (n := 5) X ym_wood rfl (x_cons (x_bw20 10 rfl rfl) (x_cons (x_bw20 11 rfl rfl) (x_cons (x_bw0 10 rfl rfl) x_nilm))) (x_bw20 12 rfl rfl) rfl (fun Y av h => x_this h) (by decide +kernel) ⟨Nat.le_of_ble_eq_true rfl, Nat.le_of_ble_eq_true rfl⟩) hY0 hI rfl aT_d135 hl.1 (Nat.le_of_ble_eq_true rfl) (Nat.le_of_ble_eq_true rfl) (Nat.le_of_ble_eq_true rfl) (y_cons (y_cref hY_n124 rfl) (y_cons ⟨_, rfl, x_i32 _⟩ (y_cons ⟨_, rfl, x_i32 _⟩ (y_cons ⟨_, rfl, x_i32 _⟩ (y_cons ⟨_, rfl, x_i32 _⟩ (y_cons ⟨_, rfl, x_i32 _⟩ y_nil)))))) rfl (y_norecv rfl) trivial (y_sub_ef rfl) fun v Yn o Hn L ho hr ha hIn hx_ hE hP => ?_
                    have hPs := hP _ _ _ _ _ _ rfl
                    have hPf := hPs.1 (12, 10) (by decide) hY_n124
                    replace hs_astones := y_Efld hE hY_this rfl (by decide) (by decide) hs_astones
                    replace hs_adone := y_Efld hE hY_this rfl (by decide) (by decide) hs_adone
                    replace hs_acost := y_Efld hE hY_this rfl (by decide) (by decide) hs_acost
                    replace hsi_things := y_Efld hE hY_this rfl (by decide) (by decide) hsi_things
                    replace hA_adone := hA_adone.kept (y_Earr hE hY_adone rfl (by decide))
                    replace hA_acost := hA_acost.kept (y_Earr hE hY_acost rfl (by decide))
                    replace hK := fun b u g9 (hb : Y0 b = some u) (hg9 : x_G[u]? = some g9) => x_eq.trans (x_eq.of (hPs.2 b (fun e0 => absurd (hY0 _ _ hb) (by rw [e0]; exact Nat.not_lt.mpr hfr_n124)))) (hK b u g9 hb hg9)
                    replace hY_this := y_ext hx_ hI.1 hY_this
                    replace hY_astones := y_ext hx_ hI.1 hY_astones
                    replace hY_adone := y_ext hx_ hI.1 hY_adone
                    replace hY_acost := y_ext hx_ hI.1 hY_acost
                    replace hY_n124 := y_ext hx_ hI.1 hY_n124
                    obtain rfl := y_ansV rfl ho hr
                    obtain ⟨hst0, hst1, hst2, hst3, hst4⟩ := hPf
                    clear ho hr ha hE hP hI hx_
                    rename x_I _ _ _ _ _ _ _ _ _ _ => hI
                    have hLc := hL0.xeq hYt0 (y_mon B hI) hK
                    have hs9 := hs_astones
                    refine y_aast X hY0 hI hY_astones rfl hY_n124 rfl rfl (X.2.2.2.2.2.2.2.2.1 _ (x_bn89 3 rfl rfl)) (by omega) (by show _ < (8 : Int); omega) (y_crefA hY_n124 rfl) (by decide +kernel) aT_d138 fun H locs hI h_at h_ne ho => ?_
                    replace hs_astones := y_slk hs_astones (ho _ (y_ne hY_this hY_astones rfl))
                    replace hs_adone := y_slk hs_adone (ho _ (y_ne hY_this hY_astones rfl))
                    replace hs_acost := y_slk hs_acost (ho _ (y_ne hY_this hY_astones rfl))
                    replace hsi_things := y_slk hsi_things (ho _ (y_ne hY_this hY_astones rfl))
                    replace hst0 := y_slk hst0 (ho _ (y_ne hY_n124 hY_astones rfl))
                    replace hst1 := y_slk hst1 (ho _ (y_ne hY_n124 hY_astones rfl))
                    replace hst2 := y_slk hst2 (ho _ (y_ne hY_n124 hY_astones rfl))
                    replace hst3 := y_slk hst3 (ho _ (y_ne hY_n124 hY_astones rfl))
                    replace hst4 := y_slk hst4 (ho _ (y_ne hY_n124 hY_astones rfl))
                    replace hA_adone := hA_adone.kept (ho _ (y_ne hY_adone hY_astones rfl))
                    replace hA_acost := hA_acost.kept (ho _ (y_ne hY_acost hY_astones rfl))
                    refine lv_goto hx hb aT_d139 (tgt := 269) (by decide) ?_
                    have hL := hLc.putS hY_this (j := (f 1).toInt.toNat) (z := (12, 10)) (by omega) hs9 h_at h_ne ho (by decide) hY_n124 (by show ((12 : Nat) : Int) = 11 + k.toInt; omega) hst0 hst1 hst2 hst3 hst4
                    have hF : z_fr D Y0 s.heap _ this := fun b u g9 hb hg9 hn hk9 => x_eq.trans (x_eq.of (ho b (fun e0 => hk9 7 (by decide) (by rw [e0]; exact hs0_astones)))) (hK b u g9 hb hg9)
                    exact aT_L269 B rfl hL0 hs0_astones hs0_adone hs0_acost hd1 hok _ _ _ _ hI hY_this hY_astones hY_adone hY_acost hs_astones hs_adone hs_acost hsi_things hA_adone hA_acost (lv_sub hl [1, 2, 3, 4, 5, 6] rfl) (by first | assumption | omega) (by first | assumption | omega)
                  · refine lv_tableIn hx hb aT_d80 (by omega) (by omega) (off := 62) (by rw [hq9]; rfl) (tgt := 142) (by decide) ?_
                    refine lv_aload_n hx hb aT_d142 rfl (lv_at hl 1 rfl) ?_
                    refine y_getf X (fl39 X.2.2.2.2.1) hI.1 hY_this rfl hs_astones aT_d143 ?_
                    refine lv_aload_n hx hb aT_d146 rfl (lv_at hl 1 rfl) ?_
                    refine y_getf X (fl42 X.2.2.2.2.1) hI.1 hY_this rfl hsi_things aT_d147 ?_
                    refine y_newo (tag := 13) X hY0 hI rfl ⟨4, _, RX4, TX4, tyX4, rfl, rfl, iX4, tyX4_ok, (hts _ (x_bw21 4 rfl rfl)), (hts _ (x_bw21 5 rfl rfl)), (hts _ (x_bw0 11 rfl rfl)), x_dfl (by decide +kernel)⟩ (Nat.le_of_ble_eq_true rfl) (Nat.le_of_ble_eq_true rfl) aT_d150 fun Yn H n150 hnw => ?_
                    obtain ⟨hIn, hmo, hY_n150, hfr_n150, hke⟩ := hnw
                    replace hs_astones := y_slk hs_astones (hke _ _ hY_this)
                    replace hs_adone := y_slk hs_adone (hke _ _ hY_this)
                    replace hs_acost := y_slk hs_acost (hke _ _ hY_this)
                    replace hsi_things := y_slk hsi_things (hke _ _ hY_this)
                    replace hA_adone := hA_adone.kept (hke _ _ hY_adone)
                    replace hA_acost := hA_acost.kept (hke _ _ hY_acost)
                    replace hK := fun b u g9 (hb : Y0 b = some u) (hg9 : x_G[u]? = some g9) => x_eq.trans (x_eq.of (hke _ _ (y_mon B hI _ _ hb))) (hK b u g9 hb hg9)
                    replace hY_this := hmo _ _ hY_this
                    replace hY_astones := hmo _ _ hY_astones
                    replace hY_adone := hmo _ _ hY_adone
                    replace hY_acost := hmo _ _ hY_acost
                    replace hI := hIn
                    clear hIn hmo hke
                    refine lv_dup hx hb aT_d153 rfl ?_
                    refine lv_iload_n hx hb aT_d154 rfl (lv_at hl 2 rfl) ?_
                    refine lv_iload_n hx hb aT_d155 rfl (lv_at hl 3 rfl) ?_
                    refine lv_iload_n hx hb aT_d156 rfl (lv_at hl 4 rfl) ?_
                    refine lv_iload hx hb aT_d157 (lv_at hl 5 rfl) ?_
                    refine lv_iload hx hb aT_d159 (lv_at hl 6 rfl) ?_
                    refine y_call (z := (2, 95, 6, none, xM15)) (av := [.ref n150, .int k, .int x, .int y, .int h, .int g]) (rest := [.ref n150, .int (f 1), .ref astones]) (y_cokI (n := 5) X ym_pine rfl (x_cons (x_bw21 6 rfl rfl) (x_cons (x_bw21 7 rfl rfl) (x_cons (x_bw0 11 rfl rfl) x_nilm))) (x_bw21 8 rfl rfl) rfl (fun Y av h => x_this h) (by decide +kernel) ⟨Nat.le_of_ble_eq_true rfl, Nat.le_of_ble_eq_true rfl⟩) hY0 hI rfl aT_d161 hl.1 (Nat.le_of_ble_eq_true rfl) (Nat.le_of_ble_eq_true rfl) (Nat.le_of_ble_eq_true rfl) (y_cons (y_cref hY_n150 rfl) (y_cons ⟨_, rfl, x_i32 _⟩ (y_cons ⟨_, rfl, x_i32 _⟩ (y_cons ⟨_, rfl, x_i32 _⟩ (y_cons ⟨_, rfl, x_i32 _⟩ (y_cons ⟨_, rfl, x_i32 _⟩ y_nil)))))) rfl (y_norecv rfl) trivial (y_sub_ef rfl) fun v Yn o Hn L ho hr ha hIn hx_ hE hP => ?_
                    have hPs := hP _ _ _ _ _ _ rfl
                    have hPf := hPs.1 (13, 4) (by decide) hY_n150
                    replace hs_astones := y_Efld hE hY_this rfl (by decide) (by decide) hs_astones
                    replace hs_adone := y_Efld hE hY_this rfl (by decide) (by decide) hs_adone
                    replace hs_acost := y_Efld hE hY_this rfl (by decide) (by decide) hs_acost
                    replace hsi_things := y_Efld hE hY_this rfl (by decide) (by decide) hsi_things
                    replace hA_adone := hA_adone.kept (y_Earr hE hY_adone rfl (by decide))
                    replace hA_acost := hA_acost.kept (y_Earr hE hY_acost rfl (by decide))
                    replace hK := fun b u g9 (hb : Y0 b = some u) (hg9 : x_G[u]? = some g9) => x_eq.trans (x_eq.of (hPs.2 b (fun e0 => absurd (hY0 _ _ hb) (by rw [e0]; exact Nat.not_lt.mpr hfr_n150)))) (hK b u g9 hb hg9)
                    replace hY_this := y_ext hx_ hI.1 hY_this
                    replace hY_astones := y_ext hx_ hI.1 hY_astones
                    replace hY_adone := y_ext hx_ hI.1 hY_adone
                    replace hY_acost := y_ext hx_ hI.1 hY_acost
                    replace hY_n150 := y_ext hx_ hI.1 hY_n150
                    obtain rfl := y_ansV rfl ho hr
                    obtain ⟨hst0, hst1, hst2, hst3, hst4⟩ := hPf
                    clear ho hr ha hE hP hI hx_
                    rename x_I _ _ _ _ _ _ _ _ _ _ => hI
                    have hLc := hL0.xeq hYt0 (y_mon B hI) hK
                    have hs9 := hs_astones
                    refine y_aast X hY0 hI hY_astones rfl hY_n150 rfl rfl (X.2.2.2.2.2.2.2.2.1 _ (x_bn89 4 rfl rfl)) (by omega) (by show _ < (8 : Int); omega) (y_crefA hY_n150 rfl) (by decide +kernel) aT_d164 fun H locs hI h_at h_ne ho => ?_
                    replace hs_astones := y_slk hs_astones (ho _ (y_ne hY_this hY_astones rfl))
                    replace hs_adone := y_slk hs_adone (ho _ (y_ne hY_this hY_astones rfl))
                    replace hs_acost := y_slk hs_acost (ho _ (y_ne hY_this hY_astones rfl))
                    replace hsi_things := y_slk hsi_things (ho _ (y_ne hY_this hY_astones rfl))
                    replace hst0 := y_slk hst0 (ho _ (y_ne hY_n150 hY_astones rfl))
                    replace hst1 := y_slk hst1 (ho _ (y_ne hY_n150 hY_astones rfl))
                    replace hst2 := y_slk hst2 (ho _ (y_ne hY_n150 hY_astones rfl))
                    replace hst3 := y_slk hst3 (ho _ (y_ne hY_n150 hY_astones rfl))
                    replace hst4 := y_slk hst4 (ho _ (y_ne hY_n150 hY_astones rfl))
                    replace hA_adone := hA_adone.kept (ho _ (y_ne hY_adone hY_astones rfl))
                    replace hA_acost := hA_acost.kept (ho _ (y_ne hY_acost hY_astones rfl))
                    refine lv_goto hx hb aT_d165 (tgt := 269) (by decide) ?_
                    have hL := hLc.putS hY_this (j := (f 1).toInt.toNat) (z := (13, 4)) (by omega) hs9 h_at h_ne ho (by decide) hY_n150 (by show ((13 : Nat) : Int) = 11 + k.toInt; omega) hst0 hst1 hst2 hst3 hst4
                    have hF : z_fr D Y0 s.heap _ this := fun b u g9 hb hg9 hn hk9 => x_eq.trans (x_eq.of (ho b (fun e0 => hk9 7 (by decide) (by rw [e0]; exact hs0_astones)))) (hK b u g9 hb hg9)
                    exact aT_L269 B rfl hL0 hs0_astones hs0_adone hs0_acost hd1 hok _ _ _ _ hI hY_this hY_astones hY_adone hY_acost hs_astones hs_adone hs_acost hsi_things hA_adone hA_acost (lv_sub hl [1, 2, 3, 4, 5, 6] rfl) (by first | assumption | omega) (by first | assumption | omega)
                  · refine lv_tableIn hx hb aT_d80 (by omega) (by omega) (off := 88) (by rw [hq9]; rfl) (tgt := 168) (by decide) ?_
                    refine lv_aload_n hx hb aT_d168 rfl (lv_at hl 1 rfl) ?_
                    refine y_getf X (fl39 X.2.2.2.2.1) hI.1 hY_this rfl hs_astones aT_d169 ?_
                    refine lv_aload_n hx hb aT_d172 rfl (lv_at hl 1 rfl) ?_
                    refine y_getf X (fl42 X.2.2.2.2.1) hI.1 hY_this rfl hsi_things aT_d173 ?_
                    refine y_newo (tag := 14) X hY0 hI rfl ⟨1, _, RX1, TX1, tyX1, rfl, rfl, iX1, tyX1_ok, (hts _ (x_bw22 0 rfl rfl)), (hts _ (x_bw22 1 rfl rfl)), (hts _ (x_bw0 12 rfl rfl)), x_dfl (by decide +kernel)⟩ (Nat.le_of_ble_eq_true rfl) (Nat.le_of_ble_eq_true rfl) aT_d176 fun Yn H n176 hnw => ?_
                    obtain ⟨hIn, hmo, hY_n176, hfr_n176, hke⟩ := hnw
                    replace hs_astones := y_slk hs_astones (hke _ _ hY_this)
                    replace hs_adone := y_slk hs_adone (hke _ _ hY_this)
                    replace hs_acost := y_slk hs_acost (hke _ _ hY_this)
                    replace hsi_things := y_slk hsi_things (hke _ _ hY_this)
                    replace hA_adone := hA_adone.kept (hke _ _ hY_adone)
                    replace hA_acost := hA_acost.kept (hke _ _ hY_acost)
                    replace hK := fun b u g9 (hb : Y0 b = some u) (hg9 : x_G[u]? = some g9) => x_eq.trans (x_eq.of (hke _ _ (y_mon B hI _ _ hb))) (hK b u g9 hb hg9)
                    replace hY_this := hmo _ _ hY_this
                    replace hY_astones := hmo _ _ hY_astones
                    replace hY_adone := hmo _ _ hY_adone
                    replace hY_acost := hmo _ _ hY_acost
                    replace hI := hIn
                    clear hIn hmo hke
                    refine lv_dup hx hb aT_d179 rfl ?_
                    refine lv_iload_n hx hb aT_d180 rfl (lv_at hl 2 rfl) ?_
                    refine lv_iload_n hx hb aT_d181 rfl (lv_at hl 3 rfl) ?_
                    refine lv_iload_n hx hb aT_d182 rfl (lv_at hl 4 rfl) ?_
                    refine lv_iload hx hb aT_d183 (lv_at hl 5 rfl) ?_
                    refine lv_iload hx hb aT_d185 (lv_at hl 6 rfl) ?_
                    refine y_call (z := (2, 98, 6, none, xM16)) (av := [.ref n176, .int k, .int x, .int y, .int h, .int g]) (rest := [.ref n176, .int (f 1), .ref astones]) (y_cokI (n := 5) X ym_hedge rfl (x_cons (x_bw22 2 rfl rfl) (x_cons (x_bw22 3 rfl rfl) (x_cons (x_bw0 12 rfl rfl) x_nilm))) (x_bw22 4 rfl rfl) rfl (fun Y av h => x_this h) (by decide +kernel) ⟨Nat.le_of_ble_eq_true rfl, Nat.le_of_ble_eq_true rfl⟩) hY0 hI rfl aT_d187 hl.1 (Nat.le_of_ble_eq_true rfl) (Nat.le_of_ble_eq_true rfl) (Nat.le_of_ble_eq_true rfl) (y_cons (y_cref hY_n176 rfl) (y_cons ⟨_, rfl, x_i32 _⟩ (y_cons ⟨_, rfl, x_i32 _⟩ (y_cons ⟨_, rfl, x_i32 _⟩ (y_cons ⟨_, rfl, x_i32 _⟩ (y_cons ⟨_, rfl, x_i32 _⟩ y_nil)))))) rfl (y_norecv rfl) trivial (y_sub_ef rfl) fun v Yn o Hn L ho hr ha hIn hx_ hE hP => ?_
                    have hPs := hP _ _ _ _ _ _ rfl
                    have hPf := hPs.1 (14, 1) (by decide) hY_n176
                    replace hs_astones := y_Efld hE hY_this rfl (by decide) (by decide) hs_astones
                    replace hs_adone := y_Efld hE hY_this rfl (by decide) (by decide) hs_adone
                    replace hs_acost := y_Efld hE hY_this rfl (by decide) (by decide) hs_acost
                    replace hsi_things := y_Efld hE hY_this rfl (by decide) (by decide) hsi_things
                    replace hA_adone := hA_adone.kept (y_Earr hE hY_adone rfl (by decide))
                    replace hA_acost := hA_acost.kept (y_Earr hE hY_acost rfl (by decide))
                    replace hK := fun b u g9 (hb : Y0 b = some u) (hg9 : x_G[u]? = some g9) => x_eq.trans (x_eq.of (hPs.2 b (fun e0 => absurd (hY0 _ _ hb) (by rw [e0]; exact Nat.not_lt.mpr hfr_n176)))) (hK b u g9 hb hg9)
                    replace hY_this := y_ext hx_ hI.1 hY_this
                    replace hY_astones := y_ext hx_ hI.1 hY_astones
                    replace hY_adone := y_ext hx_ hI.1 hY_adone
                    replace hY_acost := y_ext hx_ hI.1 hY_acost
                    replace hY_n176 := y_ext hx_ hI.1 hY_n176
                    obtain rfl := y_ansV rfl ho hr
                    obtain ⟨hst0, hst1, hst2, hst3, hst4⟩ := hPf
                    clear ho hr ha hE hP hI hx_
                    rename x_I _ _ _ _ _ _ _ _ _ _ => hI
                    have hLc := hL0.xeq hYt0 (y_mon B hI) hK
                    have hs9 := hs_astones
                    refine y_aast X hY0 hI hY_astones rfl hY_n176 rfl rfl (X.2.2.2.2.2.2.2.2.1 _ (x_bn89 5 rfl rfl)) (by omega) (by show _ < (8 : Int); omega) (y_crefA hY_n176 rfl) (by decide +kernel) aT_d190 fun H locs hI h_at h_ne ho => ?_
                    replace hs_astones := y_slk hs_astones (ho _ (y_ne hY_this hY_astones rfl))
                    replace hs_adone := y_slk hs_adone (ho _ (y_ne hY_this hY_astones rfl))
                    replace hs_acost := y_slk hs_acost (ho _ (y_ne hY_this hY_astones rfl))
                    replace hsi_things := y_slk hsi_things (ho _ (y_ne hY_this hY_astones rfl))
                    replace hst0 := y_slk hst0 (ho _ (y_ne hY_n176 hY_astones rfl))
                    replace hst1 := y_slk hst1 (ho _ (y_ne hY_n176 hY_astones rfl))
                    replace hst2 := y_slk hst2 (ho _ (y_ne hY_n176 hY_astones rfl))
                    replace hst3 := y_slk hst3 (ho _ (y_ne hY_n176 hY_astones rfl))
                    replace hst4 := y_slk hst4 (ho _ (y_ne hY_n176 hY_astones rfl))
                    replace hA_adone := hA_adone.kept (ho _ (y_ne hY_adone hY_astones rfl))
                    replace hA_acost := hA_acost.kept (ho _ (y_ne hY_acost hY_astones rfl))
                    refine lv_goto hx hb aT_d191 (tgt := 269) (by decide) ?_
                    have hL := hLc.putS hY_this (j := (f 1).toInt.toNat) (z := (14, 1)) (by omega) hs9 h_at h_ne ho (by decide) hY_n176 (by show ((14 : Nat) : Int) = 11 + k.toInt; omega) hst0 hst1 hst2 hst3 hst4
                    have hF : z_fr D Y0 s.heap _ this := fun b u g9 hb hg9 hn hk9 => x_eq.trans (x_eq.of (ho b (fun e0 => hk9 7 (by decide) (by rw [e0]; exact hs0_astones)))) (hK b u g9 hb hg9)
                    exact aT_L269 B rfl hL0 hs0_astones hs0_adone hs0_acost hd1 hok _ _ _ _ hI hY_this hY_astones hY_adone hY_acost hs_astones hs_adone hs_acost hsi_things hA_adone hA_acost (lv_sub hl [1, 2, 3, 4, 5, 6] rfl) (by first | assumption | omega) (by first | assumption | omega)
                  · refine lv_tableIn hx hb aT_d80 (by omega) (by omega) (off := 114) (by rw [hq9]; rfl) (tgt := 194) (by decide) ?_
                    refine lv_aload_n hx hb aT_d194 rfl (lv_at hl 1 rfl) ?_
                    refine y_getf X (fl39 X.2.2.2.2.1) hI.1 hY_this rfl hs_astones aT_d195 ?_
                    refine lv_aload_n hx hb aT_d198 rfl (lv_at hl 1 rfl) ?_
                    refine y_getf X (fl42 X.2.2.2.2.1) hI.1 hY_this rfl hsi_things aT_d199 ?_
                    refine y_newo (tag := 15) X hY0 hI rfl ⟨8, _, RX8, TX8, tyX8, rfl, rfl, iX8, tyX8_ok, (hts _ (x_bw22 12 rfl rfl)), (hts _ (x_bw22 13 rfl rfl)), (hts _ (x_bw0 13 rfl rfl)), x_dfl (by decide +kernel)⟩ (Nat.le_of_ble_eq_true rfl) (Nat.le_of_ble_eq_true rfl) aT_d202 fun Yn H n202 hnw => ?_
                    obtain ⟨hIn, hmo, hY_n202, hfr_n202, hke⟩ := hnw
                    replace hs_astones := y_slk hs_astones (hke _ _ hY_this)
                    replace hs_adone := y_slk hs_adone (hke _ _ hY_this)
                    replace hs_acost := y_slk hs_acost (hke _ _ hY_this)
                    replace hsi_things := y_slk hsi_things (hke _ _ hY_this)
                    replace hA_adone := hA_adone.kept (hke _ _ hY_adone)
                    replace hA_acost := hA_acost.kept (hke _ _ hY_acost)
                    replace hK := fun b u g9 (hb : Y0 b = some u) (hg9 : x_G[u]? = some g9) => x_eq.trans (x_eq.of (hke _ _ (y_mon B hI _ _ hb))) (hK b u g9 hb hg9)
                    replace hY_this := hmo _ _ hY_this
                    replace hY_astones := hmo _ _ hY_astones
                    replace hY_adone := hmo _ _ hY_adone
                    replace hY_acost := hmo _ _ hY_acost
                    replace hI := hIn
                    clear hIn hmo hke
                    refine lv_dup hx hb aT_d205 rfl ?_
                    refine lv_iload_n hx hb aT_d206 rfl (lv_at hl 2 rfl) ?_
                    refine lv_iload_n hx hb aT_d207 rfl (lv_at hl 3 rfl) ?_
                    refine lv_iload_n hx hb aT_d208 rfl (lv_at hl 4 rfl) ?_
                    refine lv_iload hx hb aT_d209 (lv_at hl 5 rfl) ?_
                    refine lv_iload hx hb aT_d211 (lv_at hl 6 rfl) ?_
                    refine y_call (z := (2, 101, 6, none, xM17)) (av := [.ref n202, .int k, .int x, .int y, .int h, .int g]) (rest := [.ref n202, .int (f 1), .ref astones]) (y_cokI (n := 5) X ym_topped rfl (x_cons (x_bw22 14 rfl rfl) (x_cons (x_bw22 15 rfl rfl) (x_cons (x_bw0 13 rfl rfl) x_nilm))) (x_bw23 0 rfl rfl) rfl (fun Y av h => x_this h) (by decide +kernel) ⟨Nat.le_of_ble_eq_true rfl, Nat.le_of_ble_eq_true rfl⟩) hY0 hI rfl aT_d213 hl.1 (Nat.le_of_ble_eq_true rfl) (Nat.le_of_ble_eq_true rfl) (Nat.le_of_ble_eq_true rfl) (y_cons (y_cref hY_n202 rfl) (y_cons ⟨_, rfl, x_i32 _⟩ (y_cons ⟨_, rfl, x_i32 _⟩ (y_cons ⟨_, rfl, x_i32 _⟩ (y_cons ⟨_, rfl, x_i32 _⟩ (y_cons ⟨_, rfl, x_i32 _⟩ y_nil)))))) rfl (y_norecv rfl) trivial (y_sub_ef rfl) fun v Yn o Hn L ho hr ha hIn hx_ hE hP => ?_
                    have hPs := hP _ _ _ _ _ _ rfl
                    have hPf := hPs.1 (15, 8) (by decide) hY_n202
                    replace hs_astones := y_Efld hE hY_this rfl (by decide) (by decide) hs_astones
                    replace hs_adone := y_Efld hE hY_this rfl (by decide) (by decide) hs_adone
                    replace hs_acost := y_Efld hE hY_this rfl (by decide) (by decide) hs_acost
                    replace hsi_things := y_Efld hE hY_this rfl (by decide) (by decide) hsi_things
                    replace hA_adone := hA_adone.kept (y_Earr hE hY_adone rfl (by decide))
                    replace hA_acost := hA_acost.kept (y_Earr hE hY_acost rfl (by decide))
                    replace hK := fun b u g9 (hb : Y0 b = some u) (hg9 : x_G[u]? = some g9) => x_eq.trans (x_eq.of (hPs.2 b (fun e0 => absurd (hY0 _ _ hb) (by rw [e0]; exact Nat.not_lt.mpr hfr_n202)))) (hK b u g9 hb hg9)
                    replace hY_this := y_ext hx_ hI.1 hY_this
                    replace hY_astones := y_ext hx_ hI.1 hY_astones
                    replace hY_adone := y_ext hx_ hI.1 hY_adone
                    replace hY_acost := y_ext hx_ hI.1 hY_acost
                    replace hY_n202 := y_ext hx_ hI.1 hY_n202
                    obtain rfl := y_ansV rfl ho hr
                    obtain ⟨hst0, hst1, hst2, hst3, hst4⟩ := hPf
                    clear ho hr ha hE hP hI hx_
                    rename x_I _ _ _ _ _ _ _ _ _ _ => hI
                    have hLc := hL0.xeq hYt0 (y_mon B hI) hK
                    have hs9 := hs_astones
                    refine y_aast X hY0 hI hY_astones rfl hY_n202 rfl rfl (X.2.2.2.2.2.2.2.2.1 _ (x_bn89 6 rfl rfl)) (by omega) (by show _ < (8 : Int); omega) (y_crefA hY_n202 rfl) (by decide +kernel) aT_d216 fun H locs hI h_at h_ne ho => ?_
                    replace hs_astones := y_slk hs_astones (ho _ (y_ne hY_this hY_astones rfl))
                    replace hs_adone := y_slk hs_adone (ho _ (y_ne hY_this hY_astones rfl))
                    replace hs_acost := y_slk hs_acost (ho _ (y_ne hY_this hY_astones rfl))
                    replace hsi_things := y_slk hsi_things (ho _ (y_ne hY_this hY_astones rfl))
                    replace hst0 := y_slk hst0 (ho _ (y_ne hY_n202 hY_astones rfl))
                    replace hst1 := y_slk hst1 (ho _ (y_ne hY_n202 hY_astones rfl))
                    replace hst2 := y_slk hst2 (ho _ (y_ne hY_n202 hY_astones rfl))
                    replace hst3 := y_slk hst3 (ho _ (y_ne hY_n202 hY_astones rfl))
                    replace hst4 := y_slk hst4 (ho _ (y_ne hY_n202 hY_astones rfl))
                    replace hA_adone := hA_adone.kept (ho _ (y_ne hY_adone hY_astones rfl))
                    replace hA_acost := hA_acost.kept (ho _ (y_ne hY_acost hY_astones rfl))
                    refine lv_goto hx hb aT_d217 (tgt := 269) (by decide) ?_
                    have hL := hLc.putS hY_this (j := (f 1).toInt.toNat) (z := (15, 8)) (by omega) hs9 h_at h_ne ho (by decide) hY_n202 (by show ((15 : Nat) : Int) = 11 + k.toInt; omega) hst0 hst1 hst2 hst3 hst4
                    have hF : z_fr D Y0 s.heap _ this := fun b u g9 hb hg9 hn hk9 => x_eq.trans (x_eq.of (ho b (fun e0 => hk9 7 (by decide) (by rw [e0]; exact hs0_astones)))) (hK b u g9 hb hg9)
                    exact aT_L269 B rfl hL0 hs0_astones hs0_adone hs0_acost hd1 hok _ _ _ _ hI hY_this hY_astones hY_adone hY_acost hs_astones hs_adone hs_acost hsi_things hA_adone hA_acost (lv_sub hl [1, 2, 3, 4, 5, 6] rfl) (by first | assumption | omega) (by first | assumption | omega)
                  · refine lv_tableIn hx hb aT_d80 (by omega) (by omega) (off := 140) (by rw [hq9]; rfl) (tgt := 220) (by decide) ?_
                    refine lv_aload_n hx hb aT_d220 rfl (lv_at hl 1 rfl) ?_
                    refine y_getf X (fl39 X.2.2.2.2.1) hI.1 hY_this rfl hs_astones aT_d221 ?_
                    refine lv_aload_n hx hb aT_d224 rfl (lv_at hl 1 rfl) ?_
                    refine y_getf X (fl42 X.2.2.2.2.1) hI.1 hY_this rfl hsi_things aT_d225 ?_
                    refine y_newo (tag := 16) X hY0 hI rfl ⟨9, _, RX9, TX9, tyX9, rfl, rfl, iX9, tyX9_ok, (hts _ (x_bw23 8 rfl rfl)), (hts _ (x_bw23 9 rfl rfl)), (hts _ (x_bw0 14 rfl rfl)), x_dfl (by decide +kernel)⟩ (Nat.le_of_ble_eq_true rfl) (Nat.le_of_ble_eq_true rfl) aT_d228 fun Yn H n228 hnw => ?_
                    obtain ⟨hIn, hmo, hY_n228, hfr_n228, hke⟩ := hnw
                    replace hs_astones := y_slk hs_astones (hke _ _ hY_this)
                    replace hs_adone := y_slk hs_adone (hke _ _ hY_this)
                    replace hs_acost := y_slk hs_acost (hke _ _ hY_this)
                    replace hsi_things := y_slk hsi_things (hke _ _ hY_this)
                    replace hA_adone := hA_adone.kept (hke _ _ hY_adone)
                    replace hA_acost := hA_acost.kept (hke _ _ hY_acost)
                    replace hK := fun b u g9 (hb : Y0 b = some u) (hg9 : x_G[u]? = some g9) => x_eq.trans (x_eq.of (hke _ _ (y_mon B hI _ _ hb))) (hK b u g9 hb hg9)
                    replace hY_this := hmo _ _ hY_this
                    replace hY_astones := hmo _ _ hY_astones
                    replace hY_adone := hmo _ _ hY_adone
                    replace hY_acost := hmo _ _ hY_acost
                    replace hI := hIn
                    clear hIn hmo hke
                    refine lv_dup hx hb aT_d231 rfl ?_
                    refine lv_iload_n hx hb aT_d232 rfl (lv_at hl 2 rfl) ?_
                    refine lv_iload_n hx hb aT_d233 rfl (lv_at hl 3 rfl) ?_
                    refine lv_iload_n hx hb aT_d234 rfl (lv_at hl 4 rfl) ?_
                    refine lv_iload hx hb aT_d235 (lv_at hl 5 rfl) ?_
                    refine lv_iload hx hb aT_d237 (lv_at hl 6 rfl) ?_
                    refine y_call (z := (2, 104, 6, none, xM18)) (av := [.ref n228, .int k, .int x, .int y, .int h, .int g]) (rest := [.ref n228, .int (f 1), .ref astones]) (y_cokI (n := 5) X ym_wall rfl (x_cons (x_bw23 10 rfl rfl) (x_cons (x_bw23 11 rfl rfl) (x_cons (x_bw0 14 rfl rfl) x_nilm))) (x_bw23 12 rfl rfl) rfl (fun Y av h => x_this h) (by decide +kernel) ⟨Nat.le_of_ble_eq_true rfl, Nat.le_of_ble_eq_true rfl⟩) hY0 hI rfl aT_d239 hl.1 (Nat.le_of_ble_eq_true rfl) (Nat.le_of_ble_eq_true rfl) (Nat.le_of_ble_eq_true rfl) (y_cons (y_cref hY_n228 rfl) (y_cons ⟨_, rfl, x_i32 _⟩ (y_cons ⟨_, rfl, x_i32 _⟩ (y_cons ⟨_, rfl, x_i32 _⟩ (y_cons ⟨_, rfl, x_i32 _⟩ (y_cons ⟨_, rfl, x_i32 _⟩ y_nil)))))) rfl (y_norecv rfl) trivial (y_sub_ef rfl) fun v Yn o Hn L ho hr ha hIn hx_ hE hP => ?_
                    have hPs := hP _ _ _ _ _ _ rfl
                    have hPf := hPs.1 (16, 9) (by decide) hY_n228
                    replace hs_astones := y_Efld hE hY_this rfl (by decide) (by decide) hs_astones
                    replace hs_adone := y_Efld hE hY_this rfl (by decide) (by decide) hs_adone
                    replace hs_acost := y_Efld hE hY_this rfl (by decide) (by decide) hs_acost
                    replace hsi_things := y_Efld hE hY_this rfl (by decide) (by decide) hsi_things
                    replace hA_adone := hA_adone.kept (y_Earr hE hY_adone rfl (by decide))
                    replace hA_acost := hA_acost.kept (y_Earr hE hY_acost rfl (by decide))
                    replace hK := fun b u g9 (hb : Y0 b = some u) (hg9 : x_G[u]? = some g9) => x_eq.trans (x_eq.of (hPs.2 b (fun e0 => absurd (hY0 _ _ hb) (by rw [e0]; exact Nat.not_lt.mpr hfr_n228)))) (hK b u g9 hb hg9)
                    replace hY_this := y_ext hx_ hI.1 hY_this
                    replace hY_astones := y_ext hx_ hI.1 hY_astones
                    replace hY_adone := y_ext hx_ hI.1 hY_adone
                    replace hY_acost := y_ext hx_ hI.1 hY_acost
                    replace hY_n228 := y_ext hx_ hI.1 hY_n228
                    obtain rfl := y_ansV rfl ho hr
                    obtain ⟨hst0, hst1, hst2, hst3, hst4⟩ := hPf
                    clear ho hr ha hE hP hI hx_
                    rename x_I _ _ _ _ _ _ _ _ _ _ => hI
                    have hLc := hL0.xeq hYt0 (y_mon B hI) hK
                    have hs9 := hs_astones
                    refine y_aast X hY0 hI hY_astones rfl hY_n228 rfl rfl (X.2.2.2.2.2.2.2.2.1 _ (x_bn89 7 rfl rfl)) (by omega) (by show _ < (8 : Int); omega) (y_crefA hY_n228 rfl) (by decide +kernel) aT_d242 fun H locs hI h_at h_ne ho => ?_
                    replace hs_astones := y_slk hs_astones (ho _ (y_ne hY_this hY_astones rfl))
                    replace hs_adone := y_slk hs_adone (ho _ (y_ne hY_this hY_astones rfl))
                    replace hs_acost := y_slk hs_acost (ho _ (y_ne hY_this hY_astones rfl))
                    replace hsi_things := y_slk hsi_things (ho _ (y_ne hY_this hY_astones rfl))
                    replace hst0 := y_slk hst0 (ho _ (y_ne hY_n228 hY_astones rfl))
                    replace hst1 := y_slk hst1 (ho _ (y_ne hY_n228 hY_astones rfl))
                    replace hst2 := y_slk hst2 (ho _ (y_ne hY_n228 hY_astones rfl))
                    replace hst3 := y_slk hst3 (ho _ (y_ne hY_n228 hY_astones rfl))
                    replace hst4 := y_slk hst4 (ho _ (y_ne hY_n228 hY_astones rfl))
                    replace hA_adone := hA_adone.kept (ho _ (y_ne hY_adone hY_astones rfl))
                    replace hA_acost := hA_acost.kept (ho _ (y_ne hY_acost hY_astones rfl))
                    refine lv_goto hx hb aT_d243 (tgt := 269) (by decide) ?_
                    have hL := hLc.putS hY_this (j := (f 1).toInt.toNat) (z := (16, 9)) (by omega) hs9 h_at h_ne ho (by decide) hY_n228 (by show ((16 : Nat) : Int) = 11 + k.toInt; omega) hst0 hst1 hst2 hst3 hst4
                    have hF : z_fr D Y0 s.heap _ this := fun b u g9 hb hg9 hn hk9 => x_eq.trans (x_eq.of (ho b (fun e0 => hk9 7 (by decide) (by rw [e0]; exact hs0_astones)))) (hK b u g9 hb hg9)
                    exact aT_L269 B rfl hL0 hs0_astones hs0_adone hs0_acost hd1 hok _ _ _ _ hI hY_this hY_astones hY_adone hY_acost hs_astones hs_adone hs_acost hsi_things hA_adone hA_acost (lv_sub hl [1, 2, 3, 4, 5, 6] rfl) (by first | assumption | omega) (by first | assumption | omega)
                · have q73_ : (8 : Int32).toInt ≤ (f 1).toInt := Int.not_lt.mp fun q => q73 (x_lt32.mpr q)
                  refine lv_bipush hx hb aT_d76 (v := (-4)) (by decide) ?_
                  have ecm4 : ((-4) : Int32).toInt = (-4) := by decide
                  have hL : z_L D _ this _ f := hL0.xeq hYt0 (y_mon B hI) hK
                  have hF : z_fr D Y0 s.heap _ this := fun b u g9 hb hg9 _ _ => hK b u g9 hb hg9
                  exact y_ireturn B hI rfl rfl rfl List.mem_cons_self ⟨_, rfl, ⟨_, rfl, by decide, by decide⟩⟩ (x_cs.mono B.2.2.2.2.2 (y_mon B hI)) (fun t' k' x' y' h' g' f' h1 h2 => by cases h1; cases h2.uniq hL0; exact ⟨hF, _, _, rfl, hL, fun q9 => absurd hok q9, fun _ _ => ⟨rfl, rfl⟩, fun _ q9 => absurd q9 (by omega)⟩) (by exact Nat.le_of_ble_eq_true rfl) (by exact Nat.le_of_ble_eq_true rfl) aT_d78
              · have q61_ : r58.toInt = (0 : Int32).toInt := by rw [q61]
                have hno : ¬ m_tOk k x y h g := fun q9 => by obtain ⟨a1, a2, a3, a4, a5, a6⟩ := q9; first | (have := hout_r19 (by assumption); omega) | (exact hout_r27 (by assumption) ⟨a2, a3⟩) | (have := hout_r38 (by assumption); omega) | (have := hout_r58 (by assumption); omega)
                refine lv_bipush hx hb aT_d64 (v := (-2)) (by decide) ?_
                have ecm2 : ((-2) : Int32).toInt = (-2) := by decide
                have hL : z_L D _ this _ f := hL0.xeq hYt0 (y_mon B hI) hK
                have hF : z_fr D Y0 s.heap _ this := fun b u g9 hb hg9 _ _ => hK b u g9 hb hg9
                exact y_ireturn B hI rfl rfl rfl List.mem_cons_self ⟨_, rfl, ⟨_, rfl, by decide, by decide⟩⟩ (x_cs.mono B.2.2.2.2.2 (y_mon B hI)) (fun t' k' x' y' h' g' f' h1 h2 => by cases h1; cases h2.uniq hL0; exact ⟨hF, _, _, rfl, hL, fun _ => ⟨rfl, rfl⟩, fun q9 => absurd q9 hno, fun q9 => absurd q9 hno⟩) (by exact Nat.le_of_ble_eq_true rfl) (by exact Nat.le_of_ble_eq_true rfl) aT_d66
theorem t_tell_cls {ft f fn g : Nat → Int32} {n p : Nat} {r item : Int32} (hi : item.toInt = t_it ft n p) (hn : ∀ i, i < 4 → (fn i).toInt = t_arg ft n p i) (h0 : item.toInt = 0 → m_hill f (fn 0) (fn 1) (fn 2) r g) (h1 : 1 ≤ item.toInt → item.toInt ≤ 6 → m_thing f (Int32.ofInt (item.toInt - 1)) (fn 0) (fn 1) (fn 2) (fn 3) r g) (h7 : 7 ≤ item.toInt → m_put f (Int32.ofInt (item.toInt - 7)) (fn 0) r g) : m_tell ft n p f r g := by
  have e : ∀ i, i < 4 → Int32.ofInt (t_arg ft n p i) = fn i := fun i h4 => z_ofi (hn i h4)
  refine ⟨fun q => ?_, fun q1 q2 => ?_, fun q => ?_⟩
  · rw [e 0 (by decide), e 1 (by decide), e 2 (by decide)]; exact h0 (by omega)
  · rw [e 0 (by decide), e 1 (by decide), e 2 (by decide), e 3 (by decide), ← hi]; exact h1 (by omega) (by omega)
  · rw [e 0 (by decide), ← hi]; exact h7 (by omega)
def z_Ptl : yP := fun D av Y H v Y' H' => ∀ (this nu n p : Nat) (item : Int32) (f fn ft : Nat → Int32), av = [.ref this, .int item, .ref nu] → z_L D Y this H f → y_A nu 4 H fn → item.toInt = t_it ft n p → (∀ i, i < 4 → (fn i).toInt = t_arg ft n p i) → z_fr D Y H H' this ∧ ∃ (r : Int32) (g : Nat → Int32), v = some (.int r) ∧ z_L D Y' this H' g ∧ m_tell ft n p f r g
theorem tI_d0 : decode xM66.2.1 0 = .ok (.iload_n 1, 1) := dz_ok (by decide +kernel)
theorem tI_d1 : decode xM66.2.1 1 = .ok (.ifCond .ne 17, 3) := dz_ok (by decide +kernel)
theorem tI_d4 : decode xM66.2.1 4 = .ok (.aload_n 0, 1) := dz_ok (by decide +kernel)
theorem tI_d5 : decode xM66.2.1 5 = .ok (.aload_n 2, 1) := dz_ok (by decide +kernel)
theorem tI_d6 : decode xM66.2.1 6 = .ok (.iconst 0, 1) := dz_ok (by decide +kernel)
theorem tI_d7 : decode xM66.2.1 7 = .ok (.iaload, 1) := dz_ok (by decide +kernel)
theorem tI_d8 : decode xM66.2.1 8 = .ok (.aload_n 2, 1) := dz_ok (by decide +kernel)
theorem tI_d9 : decode xM66.2.1 9 = .ok (.iconst 1, 1) := dz_ok (by decide +kernel)
theorem tI_d10 : decode xM66.2.1 10 = .ok (.iaload, 1) := dz_ok (by decide +kernel)
theorem tI_d11 : decode xM66.2.1 11 = .ok (.aload_n 2, 1) := dz_ok (by decide +kernel)
theorem tI_d12 : decode xM66.2.1 12 = .ok (.iconst 2, 1) := dz_ok (by decide +kernel)
theorem tI_d13 : decode xM66.2.1 13 = .ok (.iaload, 1) := dz_ok (by decide +kernel)
theorem tI_d14 : decode xM66.2.1 14 = .ok (.invokevirtual 111, 3) := dz_ok (by decide +kernel)
theorem tI_d17 : decode xM66.2.1 17 = .ok (.ireturn, 1) := dz_ok (by decide +kernel)
theorem tI_d18 : decode xM66.2.1 18 = .ok (.iload_n 1, 1) := dz_ok (by decide +kernel)
theorem tI_d19 : decode xM66.2.1 19 = .ok (.bipush 7, 2) := dz_ok (by decide +kernel)
theorem tI_d21 : decode xM66.2.1 21 = .ok (.if_icmp .ge 23, 3) := dz_ok (by decide +kernel)
theorem tI_d24 : decode xM66.2.1 24 = .ok (.aload_n 0, 1) := dz_ok (by decide +kernel)
theorem tI_d25 : decode xM66.2.1 25 = .ok (.iload_n 1, 1) := dz_ok (by decide +kernel)
theorem tI_d26 : decode xM66.2.1 26 = .ok (.iconst 1, 1) := dz_ok (by decide +kernel)
theorem tI_d27 : decode xM66.2.1 27 = .ok (.isub, 1) := dz_ok (by decide +kernel)
theorem tI_d28 : decode xM66.2.1 28 = .ok (.aload_n 2, 1) := dz_ok (by decide +kernel)
theorem tI_d29 : decode xM66.2.1 29 = .ok (.iconst 0, 1) := dz_ok (by decide +kernel)
theorem tI_d30 : decode xM66.2.1 30 = .ok (.iaload, 1) := dz_ok (by decide +kernel)
theorem tI_d31 : decode xM66.2.1 31 = .ok (.aload_n 2, 1) := dz_ok (by decide +kernel)
theorem tI_d32 : decode xM66.2.1 32 = .ok (.iconst 1, 1) := dz_ok (by decide +kernel)
theorem tI_d33 : decode xM66.2.1 33 = .ok (.iaload, 1) := dz_ok (by decide +kernel)
theorem tI_d34 : decode xM66.2.1 34 = .ok (.aload_n 2, 1) := dz_ok (by decide +kernel)
theorem tI_d35 : decode xM66.2.1 35 = .ok (.iconst 2, 1) := dz_ok (by decide +kernel)
theorem tI_d36 : decode xM66.2.1 36 = .ok (.iaload, 1) := dz_ok (by decide +kernel)
theorem tI_d37 : decode xM66.2.1 37 = .ok (.aload_n 2, 1) := dz_ok (by decide +kernel)
theorem tI_d38 : decode xM66.2.1 38 = .ok (.iconst 3, 1) := dz_ok (by decide +kernel)
theorem tI_d39 : decode xM66.2.1 39 = .ok (.iaload, 1) := dz_ok (by decide +kernel)
theorem tI_d40 : decode xM66.2.1 40 = .ok (.invokevirtual 117, 3) := dz_ok (by decide +kernel)
theorem tI_d43 : decode xM66.2.1 43 = .ok (.ireturn, 1) := dz_ok (by decide +kernel)
theorem tI_d44 : decode xM66.2.1 44 = .ok (.aload_n 0, 1) := dz_ok (by decide +kernel)
theorem tI_d45 : decode xM66.2.1 45 = .ok (.iload_n 1, 1) := dz_ok (by decide +kernel)
theorem tI_d46 : decode xM66.2.1 46 = .ok (.bipush 7, 2) := dz_ok (by decide +kernel)
theorem tI_d48 : decode xM66.2.1 48 = .ok (.isub, 1) := dz_ok (by decide +kernel)
theorem tI_d49 : decode xM66.2.1 49 = .ok (.aload_n 2, 1) := dz_ok (by decide +kernel)
theorem tI_d50 : decode xM66.2.1 50 = .ok (.iconst 0, 1) := dz_ok (by decide +kernel)
theorem tI_d51 : decode xM66.2.1 51 = .ok (.iaload, 1) := dz_ok (by decide +kernel)
theorem tI_d52 : decode xM66.2.1 52 = .ok (.invokevirtual 121, 3) := dz_ok (by decide +kernel)
theorem tI_d55 : decode xM66.2.1 55 = .ok (.ireturn, 1) := dz_ok (by decide +kernel)
theorem ym_tellItem : y_Met vwCl x_G x_Zs x_Tb x_Nb xM66 z_AL z_Ptl := by
  refine y_main (by decide +kernel) (by decide +kernel) x_Tb_good x_Nb_ok ?_
  intro p l e s m below meth c D U Y0 av ls B hI hAL hl
  have X := B.1
  have hx := X.1
  have hb := X.2.1
  have hY0 := B.2.2.2.2.1
  have hts := X.2.2.2.2.1
  obtain ⟨v0, v1, v2, rfl, hv0, ⟨item, rfl, -⟩, hv2⟩ := y_three B.2.2.2.2.2
  obtain ⟨this, t0, rfl, ht0, hY_this⟩ := x_ref_at hv0 rfl
  obtain rfl := List.mem_singleton.mp ht0
  obtain ⟨nu, t2, rfl, ht2, hY_nu⟩ := x_ref_at hv2 rfl
  obtain rfl := List.mem_singleton.mp ht2
  replace hl : lv_has ls xM66.2.2.1 [(0, .ref this), (1, .int item), (2, .ref nu)] := hl
  obtain ⟨f, hL⟩ := hAL _ rfl
  have hL0 := hL
  obtain ⟨fn, hA_nu, -⟩ := y_arr hI.1 hY_nu rfl rfl
  have hA0 := hA_nu
  refine lv_iload_n hx hb tI_d0 rfl (lv_at hl 1 rfl) ?_
  have ec0 : (0 : Int32).toInt = 0 := by decide
  refine lv_if_ne hx hb tI_d1 (tgt := 18) (by decide) (fun q1 => ?_) (fun q1 => ?_)
  · have q1_ : ¬ item.toInt = (0 : Int32).toInt := fun q => q1 (Int32.toInt_inj.mp q)
    refine lv_iload_n hx hb tI_d18 rfl (lv_at hl 1 rfl) ?_
    refine lv_bipush hx hb tI_d19 (v := 7) (by decide) ?_
    have ec7 : (7 : Int32).toInt = 7 := by decide
    refine lv_icmp_ge hx hb tI_d21 (tgt := 44) (by decide) (fun q21 => ?_) (fun q21 => ?_)
    · have q21_ : (7 : Int32).toInt ≤ item.toInt := x_le32.mp q21
      refine lv_aload_n hx hb tI_d44 rfl (lv_at hl 0 rfl) ?_
      refine lv_iload_n hx hb tI_d45 rfl (lv_at hl 1 rfl) ?_
      refine lv_bipush hx hb tI_d46 (v := 7) (by decide) ?_
      refine lv_isub hx hb tI_d48 ?_
      generalize hg_z48 : item - (7 : Int32) = z48
      refine lv_aload_n hx hb tI_d49 rfl (lv_at hl 2 rfl) ?_
      refine lv_iconst hx hb tI_d50 (v := 0) (by decide) ?_
      refine y_iald X hI.1 hY_nu rfl hA_nu (by omega) (by show _ < (4 : Int); omega) tI_d51 ?_
      obtain ⟨e51, hg_e51⟩ : ∃ e51 : Int32, fn (0 : Int32).toInt.toNat = e51 := ⟨_, rfl⟩
      rw [hg_e51]
      refine y_call (z := (0, 121, 3, some 2, xM23)) (av := [.ref this, .int z48, .int e51]) (rest := []) (y_cokV (n := 2) (ci := 2) X ym_setDial rfl rfl rfl (x_cons (x_bw41 12 rfl rfl) (x_cons (x_bw24 9 rfl rfl) (x_cons (x_bw24 10 rfl rfl) (x_cons (x_bw0 2 rfl rfl) x_nilm)))) (x_bw24 11 rfl rfl) (by decide +kernel) ⟨Nat.le_of_ble_eq_true rfl, Nat.le_of_ble_eq_true rfl⟩) hY0 hI rfl tI_d52 hl.1 (Nat.le_of_ble_eq_true rfl) (by exact Nat.le_of_ble_eq_true rfl) (by exact Nat.le_of_ble_eq_true rfl) (y_cons (y_cref hY_this rfl) (y_cons ⟨_, rfl, x_i32 _⟩ (y_cons ⟨_, rfl, x_i32 _⟩ y_nil))) rfl (y_recv rfl hY_this) (fun t' h1 => by cases h1; exact ⟨_, hL⟩) (y_sub_ef rfl) fun v Yn o Hn L ho hr ha hIn hx_ hE hP => ?_
      obtain ⟨hF, r9, g9, rfl, hL9, hm9⟩ := hP _ _ _ _ rfl hL
      replace hA_nu := hA_nu.kept (y_Earr hE hY_nu rfl (by decide))
      replace hY_this := y_ext hx_ hI.1 hY_this
      replace hY_nu := y_ext hx_ hI.1 hY_nu
      clear ho hr ha hE hP hI hx_
      rename x_I _ _ _ _ _ _ _ _ _ _ => hI
      rw [show (0 : Int32).toInt.toNat = 0 by decide] at hg_e51
      exact y_ireturn B hI rfl rfl rfl List.mem_cons_self ⟨_, rfl, ⟨_, rfl, x_i32 _⟩⟩ (x_cs.mono B.2.2.2.2.2 (y_mon B hI)) (fun t' nu' n' p' item' f' fn' ft' h1 h2 h3 h4 h5 => by cases h1; cases h2.uniq hL0; have u0 : fn' 0 = e51 := (z_AR h3 hA0 (by decide)).trans hg_e51; exact ⟨hF, _, _, rfl, hL9, t_tell_cls h4 h5 (fun q9 => absurd q9 (by omega)) (fun q8 q9 => absurd q9 (by omega)) (fun q9 => by rw [u0, z_ofi (x := z48) (by have hb9 := x_i32 item; have := y_sub (x := item) (y := 7) (by omega) (by omega); rw [← hg_z48, this]; rfl)]; exact hm9)⟩) (by exact Nat.le_of_ble_eq_true rfl) (by exact Nat.le_of_ble_eq_true rfl) tI_d55
    · have q21_ : item.toInt < (7 : Int32).toInt := Int.not_le.mp fun q => q21 (x_le32.mpr q)
      refine lv_aload_n hx hb tI_d24 rfl (lv_at hl 0 rfl) ?_
      refine lv_iload_n hx hb tI_d25 rfl (lv_at hl 1 rfl) ?_
      refine lv_iconst hx hb tI_d26 (v := 1) (by decide) ?_
      have ec1 : (1 : Int32).toInt = 1 := by decide
      refine lv_isub hx hb tI_d27 ?_
      generalize hg_z27 : item - (1 : Int32) = z27
      refine lv_aload_n hx hb tI_d28 rfl (lv_at hl 2 rfl) ?_
      refine lv_iconst hx hb tI_d29 (v := 0) (by decide) ?_
      refine y_iald X hI.1 hY_nu rfl hA_nu (by omega) (by show _ < (4 : Int); omega) tI_d30 ?_
      obtain ⟨e30, hg_e30⟩ : ∃ e30 : Int32, fn (0 : Int32).toInt.toNat = e30 := ⟨_, rfl⟩
      rw [hg_e30]
      refine lv_aload_n hx hb tI_d31 rfl (lv_at hl 2 rfl) ?_
      refine lv_iconst hx hb tI_d32 (v := 1) (by decide) ?_
      refine y_iald X hI.1 hY_nu rfl hA_nu (by omega) (by show _ < (4 : Int); omega) tI_d33 ?_
      obtain ⟨e33, hg_e33⟩ : ∃ e33 : Int32, fn (1 : Int32).toInt.toNat = e33 := ⟨_, rfl⟩
      rw [hg_e33]
      refine lv_aload_n hx hb tI_d34 rfl (lv_at hl 2 rfl) ?_
      refine lv_iconst hx hb tI_d35 (v := 2) (by decide) ?_
      have ec2 : (2 : Int32).toInt = 2 := by decide
      refine y_iald X hI.1 hY_nu rfl hA_nu (by omega) (by show _ < (4 : Int); omega) tI_d36 ?_
      obtain ⟨e36, hg_e36⟩ : ∃ e36 : Int32, fn (2 : Int32).toInt.toNat = e36 := ⟨_, rfl⟩
      rw [hg_e36]
      refine lv_aload_n hx hb tI_d37 rfl (lv_at hl 2 rfl) ?_
      refine lv_iconst hx hb tI_d38 (v := 3) (by decide) ?_
      have ec3 : (3 : Int32).toInt = 3 := by decide
      refine y_iald X hI.1 hY_nu rfl hA_nu (by omega) (by show _ < (4 : Int); omega) tI_d39 ?_
      obtain ⟨e39, hg_e39⟩ : ∃ e39 : Int32, fn (3 : Int32).toInt.toNat = e39 := ⟨_, rfl⟩
      rw [hg_e39]
      refine y_call (z := (0, 117, 6, some 2, xM20)) (av := [.ref this, .int z27, .int e30, .int e33, .int e36, .int e39]) (rest := []) (y_cokV (n := 5) (ci := 2) X ym_addThing rfl rfl rfl (x_cons (x_bw41 11 rfl rfl) (x_cons (x_bw20 5 rfl rfl) (x_cons (x_bw20 6 rfl rfl) (x_cons (x_bw0 2 rfl rfl) x_nilm)))) (x_bw20 7 rfl rfl) (by decide +kernel) ⟨Nat.le_of_ble_eq_true rfl, Nat.le_of_ble_eq_true rfl⟩) hY0 hI rfl tI_d40 hl.1 (Nat.le_of_ble_eq_true rfl) (by exact Nat.le_of_ble_eq_true rfl) (by exact Nat.le_of_ble_eq_true rfl) (y_cons (y_cref hY_this rfl) (y_cons ⟨_, rfl, x_i32 _⟩ (y_cons ⟨_, rfl, x_i32 _⟩ (y_cons ⟨_, rfl, x_i32 _⟩ (y_cons ⟨_, rfl, x_i32 _⟩ (y_cons ⟨_, rfl, x_i32 _⟩ y_nil)))))) rfl (y_recv rfl hY_this) (fun t' h1 => by cases h1; exact ⟨_, hL⟩) (y_sub_ef rfl) fun v Yn o Hn L ho hr ha hIn hx_ hE hP => ?_
      obtain ⟨hF, r9, g9, rfl, hL9, hm9⟩ := hP _ _ _ _ _ _ _ rfl hL
      replace hA_nu := hA_nu.kept (y_Earr hE hY_nu rfl (by decide))
      replace hY_this := y_ext hx_ hI.1 hY_this
      replace hY_nu := y_ext hx_ hI.1 hY_nu
      clear ho hr ha hE hP hI hx_
      rename x_I _ _ _ _ _ _ _ _ _ _ => hI
      rw [show (0 : Int32).toInt.toNat = 0 by decide] at hg_e30
      rw [show (1 : Int32).toInt.toNat = 1 by decide] at hg_e33
      rw [show (2 : Int32).toInt.toNat = 2 by decide] at hg_e36
      rw [show (3 : Int32).toInt.toNat = 3 by decide] at hg_e39
      exact y_ireturn B hI rfl rfl rfl List.mem_cons_self ⟨_, rfl, ⟨_, rfl, x_i32 _⟩⟩ (x_cs.mono B.2.2.2.2.2 (y_mon B hI)) (fun t' nu' n' p' item' f' fn' ft' h1 h2 h3 h4 h5 => by cases h1; cases h2.uniq hL0; have u0 : fn' 0 = e30 := (z_AR h3 hA0 (by decide)).trans hg_e30; have u1 : fn' 1 = e33 := (z_AR h3 hA0 (by decide)).trans hg_e33; have u2 : fn' 2 = e36 := (z_AR h3 hA0 (by decide)).trans hg_e36; have u3 : fn' 3 = e39 := (z_AR h3 hA0 (by decide)).trans hg_e39; exact ⟨hF, _, _, rfl, hL9, t_tell_cls h4 h5 (fun q9 => absurd q9 (by omega)) (fun q8 q9 => by rw [u0, u1, u2, u3, z_ofi (x := z27) (by have hb9 := x_i32 item; have := y_sub (x := item) (y := 1) (by omega) (by omega); rw [← hg_z27, this]; rfl)]; exact hm9) (fun q9 => absurd q9 (by omega))⟩) (by exact Nat.le_of_ble_eq_true rfl) (by exact Nat.le_of_ble_eq_true rfl) tI_d43
  · have q1_ : item.toInt = (0 : Int32).toInt := by rw [q1]
    refine lv_aload_n hx hb tI_d4 rfl (lv_at hl 0 rfl) ?_
    refine lv_aload_n hx hb tI_d5 rfl (lv_at hl 2 rfl) ?_
    refine lv_iconst hx hb tI_d6 (v := 0) (by decide) ?_
    refine y_iald X hI.1 hY_nu rfl hA_nu (by omega) (by show _ < (4 : Int); omega) tI_d7 ?_
    obtain ⟨e7, hg_e7⟩ : ∃ e7 : Int32, fn (0 : Int32).toInt.toNat = e7 := ⟨_, rfl⟩
    rw [hg_e7]
    refine lv_aload_n hx hb tI_d8 rfl (lv_at hl 2 rfl) ?_
    refine lv_iconst hx hb tI_d9 (v := 1) (by decide) ?_
    have ec1 : (1 : Int32).toInt = 1 := by decide
    refine y_iald X hI.1 hY_nu rfl hA_nu (by omega) (by show _ < (4 : Int); omega) tI_d10 ?_
    obtain ⟨e10, hg_e10⟩ : ∃ e10 : Int32, fn (1 : Int32).toInt.toNat = e10 := ⟨_, rfl⟩
    rw [hg_e10]
    refine lv_aload_n hx hb tI_d11 rfl (lv_at hl 2 rfl) ?_
    refine lv_iconst hx hb tI_d12 (v := 2) (by decide) ?_
    have ec2 : (2 : Int32).toInt = 2 := by decide
    refine y_iald X hI.1 hY_nu rfl hA_nu (by omega) (by show _ < (4 : Int); omega) tI_d13 ?_
    obtain ⟨e13, hg_e13⟩ : ∃ e13 : Int32, fn (2 : Int32).toInt.toNat = e13 := ⟨_, rfl⟩
    rw [hg_e13]
    refine y_call (z := (0, 111, 4, some 2, xM5)) (av := [.ref this, .int e7, .int e10, .int e13]) (rest := []) (y_cokV (n := 3) (ci := 2) X ym_addHill rfl rfl rfl (x_cons (x_bw41 10 rfl rfl) (x_cons (x_bw18 10 rfl rfl) (x_cons (x_bw18 11 rfl rfl) (x_cons (x_bw0 2 rfl rfl) x_nilm)))) (x_bw18 12 rfl rfl) (by decide +kernel) ⟨Nat.le_of_ble_eq_true rfl, Nat.le_of_ble_eq_true rfl⟩) hY0 hI rfl tI_d14 hl.1 (Nat.le_of_ble_eq_true rfl) (by exact Nat.le_of_ble_eq_true rfl) (by exact Nat.le_of_ble_eq_true rfl) (y_cons (y_cref hY_this rfl) (y_cons ⟨_, rfl, x_i32 _⟩ (y_cons ⟨_, rfl, x_i32 _⟩ (y_cons ⟨_, rfl, x_i32 _⟩ y_nil)))) rfl (y_recv rfl hY_this) (fun t' h1 => by cases h1; exact ⟨_, hL⟩) (y_sub_ef rfl) fun v Yn o Hn L ho hr ha hIn hx_ hE hP => ?_
    obtain ⟨hF, r9, g9, rfl, hL9, hm9⟩ := hP _ _ _ _ _ rfl hL
    replace hA_nu := hA_nu.kept (y_Earr hE hY_nu rfl (by decide))
    replace hY_this := y_ext hx_ hI.1 hY_this
    replace hY_nu := y_ext hx_ hI.1 hY_nu
    clear ho hr ha hE hP hI hx_
    rename x_I _ _ _ _ _ _ _ _ _ _ => hI
    rw [show (0 : Int32).toInt.toNat = 0 by decide] at hg_e7
    rw [show (1 : Int32).toInt.toNat = 1 by decide] at hg_e10
    rw [show (2 : Int32).toInt.toNat = 2 by decide] at hg_e13
    exact y_ireturn B hI rfl rfl rfl List.mem_cons_self ⟨_, rfl, ⟨_, rfl, x_i32 _⟩⟩ (x_cs.mono B.2.2.2.2.2 (y_mon B hI)) (fun t' nu' n' p' item' f' fn' ft' h1 h2 h3 h4 h5 => by cases h1; cases h2.uniq hL0; have u0 : fn' 0 = e7 := (z_AR h3 hA0 (by decide)).trans hg_e7; have u1 : fn' 1 = e10 := (z_AR h3 hA0 (by decide)).trans hg_e10; have u2 : fn' 2 = e13 := (z_AR h3 hA0 (by decide)).trans hg_e13; exact ⟨hF, _, _, rfl, hL9, t_tell_cls h4 h5 (fun _ => by rw [u0, u1, u2]; exact hm9) (fun q9 => absurd q9 (by omega)) (fun q9 => absurd q9 (by omega))⟩) (by exact Nat.le_of_ble_eq_true rfl) (by exact Nat.le_of_ble_eq_true rfl) tI_d17

