/-! A LINE: eight numbers; all as the class reckons them -/
def z_Ln (D : va_G) (q : Nat) (H : Heap) (l : Nat → Int32) : Prop := (∀ k, k < 8 → x_sl D 3 k q H = some (.int (l k))) ∧ ∀ k, 8 ≤ k → l k = 0
theorem z_Ln.uniq {D : va_G} {q : Nat} {H : Heap} {l l' : Nat → Int32} (h : z_Ln D q H l) (h' : z_Ln D q H l') : l = l' := by
  funext k
  by_cases hk : k < 8
  · exact z_intI (h.1 k hk) (h'.1 k hk)
  · rw [h.2 k (by omega), h'.2 k (by omega)]
theorem z_Ln.kept {D : va_G} {q : Nat} {H H' : Heap} {l : Nat → Int32} (h : z_Ln D q H l) (e : ∀ k, k < 8 → x_sl D 3 k q H' = x_sl D 3 k q H) : z_Ln D q H' l := ⟨fun k hk => by rw [e k hk]; exact h.1 k hk, h.2⟩
theorem z_Ln.E {D : va_G} {Y : xY} {q : Nat} {H H' : Heap} {l : Nat → Int32} {ef : List (Nat × Nat)} (h : z_Ln D q H l) (hq : Y q = some 10) (hE : x_E D x_G ef Y H H') (hn : ef.all (fun z => !(Nat.beq z.1 10)) = true) : z_Ln D q H' l :=
  h.kept fun k hk => (x_eq.E (g := x_G[10]) hE hq rfl hn) k hk
theorem z_LnE {D : va_G} {Zs : List xZ} {U : State} {Y : xY} {q : Nat} {H : Heap} (hH : x_H D x_G Zs U Y H) (hq : Y q = some 10) : ∃ l, z_Ln D q H l := by
  obtain ⟨v0, h0, -⟩ := y_fldI (k := 0) hH hq rfl rfl
  obtain ⟨v1, h1, -⟩ := y_fldI (k := 1) hH hq rfl rfl
  obtain ⟨v2, h2, -⟩ := y_fldI (k := 2) hH hq rfl rfl
  obtain ⟨v3, h3, -⟩ := y_fldI (k := 3) hH hq rfl rfl
  obtain ⟨v4, h4, -⟩ := y_fldI (k := 4) hH hq rfl rfl
  obtain ⟨v5, h5, -⟩ := y_fldI (k := 5) hH hq rfl rfl
  obtain ⟨v6, h6, -⟩ := y_fldI (k := 6) hH hq rfl rfl
  obtain ⟨v7, h7, -⟩ := y_fldI (k := 7) hH hq rfl rfl
  refine ⟨fun k => ([v0, v1, v2, v3, v4, v5, v6, v7] : List Int32).getD k 0, fun k hk => ?_, fun k hk => ?_⟩
  · rcases (by omega : k = 0 ∨ k = 1 ∨ k = 2 ∨ k = 3 ∨ k = 4 ∨ k = 5 ∨ k = 6 ∨ k = 7) with rfl | rfl | rfl | rfl | rfl | rfl | rfl | rfl
    · exact h0
    · exact h1
    · exact h2
    · exact h3
    · exact h4
    · exact h5
    · exact h6
    · exact h7
  · match k, hk with
    | k + 8, _ => rfl
def m_abs (v : Int32) : Int32 := if 0 ≤ v then v else 0 - v
def m_max (a b : Int32) : Int32 := if a < b then b else a
/-- the line from hill a to hill b -/
def m_ln (f : Nat → Int32) (a b : Nat) : Nat → Int32
  | 0 => f (10 + 5 * a)
  | 1 => f (11 + 5 * a)
  | 2 => f (10 + 5 * b) - f (10 + 5 * a)
  | 3 => f (11 + 5 * b) - f (11 + 5 * a)
  | 4 => f 6 * m_max (m_abs (f (10 + 5 * b) - f (10 + 5 * a))) (m_abs (f (11 + 5 * b) - f (11 + 5 * a)))
  | 5 => f (12 + 5 * a)
  | 6 => f (12 + 5 * b)
  | 7 => (f (10 + 5 * b) - f (10 + 5 * a)) * (f (10 + 5 * b) - f (10 + 5 * a)) + (f (11 + 5 * b) - f (11 + 5 * a)) * (f (11 + 5 * b) - f (11 + 5 * a))
  | _ => 0
def m_al (l : Nat → Int32) (x y : Int32) : Int32 := (x - l 0) * l 2 + (y - l 1) * l 3
def m_bt (l : Nat → Int32) (x y : Int32) : Bool := decide (0 < (m_al l x y).toInt) && decide ((m_al l x y).toInt < (l 7).toInt)
def m_mt (l : Nat → Int32) (x y : Int32) : Bool := m_bt l x y && decide ((m_abs ((x - l 0) * l 3 - (y - l 1) * l 2)).toInt ≤ (l 4).toInt)
def m_ov (l : Nat → Int32) (x y h : Int32) : Int32 := (l 5 - h) * l 7 + (l 6 - l 5) * m_al l x y
def m_hd (l : Nat → Int32) (x y h : Int32) : Bool := decide ((m_ov l x y h).toInt < 0)
def m_b (b : Bool) : Int32 := if b then 1 else 0
theorem m_b0 {b : Bool} (h : m_b b = 0) : b = false := by cases b with
  | false => rfl
  | true => exact absurd h (by decide)
theorem m_bn {b : Bool} (h : ¬ m_b b = 0) : b = true := by cases b with
  | true => rfl
  | false => exact absurd rfl h
def z_Pal : yP := fun D av _ H v _ _ => ∀ (this : Nat) (x y : Int32) (l : Nat → Int32), av = [.ref this, .int x, .int y] → z_Ln D this H l → v = some (.int (m_al l x y))
def z_Pbt : yP := fun D av _ H v _ _ => ∀ (this : Nat) (x y : Int32) (l : Nat → Int32), av = [.ref this, .int x, .int y] → z_Ln D this H l → v = some (.int (m_b (m_bt l x y)))
def z_Pmt : yP := fun D av _ H v _ _ => ∀ (this : Nat) (x y : Int32) (l : Nat → Int32), av = [.ref this, .int x, .int y] → z_Ln D this H l → v = some (.int (m_b (m_mt l x y)))
def z_Pov : yP := fun D av _ H v _ _ => ∀ (this : Nat) (x y h : Int32) (l : Nat → Int32), av = [.ref this, .int x, .int y, .int h] → z_Ln D this H l → v = some (.int (m_ov l x y h))
def z_Pih : yP := fun D av _ H v _ _ => ∀ (this : Nat) (x y h : Int32) (l : Nat → Int32), av = [.ref this, .int x, .int y, .int h] → z_Ln D this H l → v = some (.int (m_b (m_hd l x y h)))
theorem alq_d0 : decode xM42.2.1 0 = .ok (.iload_n 1, 1) := dz_ok (by decide +kernel)
theorem alq_d1 : decode xM42.2.1 1 = .ok (.aload_n 0, 1) := dz_ok (by decide +kernel)
theorem alq_d2 : decode xM42.2.1 2 = .ok (.getfield 15, 3) := dz_ok (by decide +kernel)
theorem alq_d5 : decode xM42.2.1 5 = .ok (.isub, 1) := dz_ok (by decide +kernel)
theorem alq_d6 : decode xM42.2.1 6 = .ok (.aload_n 0, 1) := dz_ok (by decide +kernel)
theorem alq_d7 : decode xM42.2.1 7 = .ok (.getfield 27, 3) := dz_ok (by decide +kernel)
theorem alq_d10 : decode xM42.2.1 10 = .ok (.imul, 1) := dz_ok (by decide +kernel)
theorem alq_d11 : decode xM42.2.1 11 = .ok (.iload_n 2, 1) := dz_ok (by decide +kernel)
theorem alq_d12 : decode xM42.2.1 12 = .ok (.aload_n 0, 1) := dz_ok (by decide +kernel)
theorem alq_d13 : decode xM42.2.1 13 = .ok (.getfield 24, 3) := dz_ok (by decide +kernel)
theorem alq_d16 : decode xM42.2.1 16 = .ok (.isub, 1) := dz_ok (by decide +kernel)
theorem alq_d17 : decode xM42.2.1 17 = .ok (.aload_n 0, 1) := dz_ok (by decide +kernel)
theorem alq_d18 : decode xM42.2.1 18 = .ok (.getfield 30, 3) := dz_ok (by decide +kernel)
theorem alq_d21 : decode xM42.2.1 21 = .ok (.imul, 1) := dz_ok (by decide +kernel)
theorem alq_d22 : decode xM42.2.1 22 = .ok (.iadd, 1) := dz_ok (by decide +kernel)
theorem alq_d23 : decode xM42.2.1 23 = .ok (.ireturn, 1) := dz_ok (by decide +kernel)
theorem ym_along : y_Met vwCl x_G x_Zs x_Tb x_Nb xM42 y_T z_Pal := by
  refine y_main (by decide +kernel) (by decide +kernel) x_Tb_good x_Nb_ok ?_
  intro p l e s m below meth c D U Y0 av ls B hI _ hl
  have X := B.1
  have hx := X.1
  have hb := X.2.1
  have hY0 := B.2.2.2.2.1
  obtain ⟨v0, v1, v2, rfl, hv0, ⟨x, rfl, -⟩, ⟨y, rfl, -⟩⟩ := y_three B.2.2.2.2.2
  obtain ⟨this, t0, rfl, ht0, hY_this⟩ := x_ref_at hv0 rfl
  obtain rfl := List.mem_singleton.mp ht0
  replace hl : lv_has ls xM42.2.2.1 [(0, .ref this), (1, .int x), (2, .int y)] := hl
  obtain ⟨l, hLn⟩ := z_LnE hI.1 hY_this
  have hLn0 := hLn
  have hs_l0 := hLn.1 0 (by decide)
  have hs_l1 := hLn.1 1 (by decide)
  have hs_l2 := hLn.1 2 (by decide)
  have hs_l3 := hLn.1 3 (by decide)
  refine lv_iload_n hx hb alq_d0 rfl (lv_at hl 1 rfl) ?_
  refine lv_aload_n hx hb alq_d1 rfl (lv_at hl 0 rfl) ?_
  refine y_getf X (fl60 X.2.2.2.2.1) hI.1 hY_this rfl hs_l0 alq_d2 ?_
  refine lv_isub hx hb alq_d5 ?_
  generalize hg_z5 : x - (l 0) = z5
  refine lv_aload_n hx hb alq_d6 rfl (lv_at hl 0 rfl) ?_
  refine y_getf X (fl63 X.2.2.2.2.1) hI.1 hY_this rfl hs_l2 alq_d7 ?_
  refine lv_imul hx hb alq_d10 ?_
  generalize hg_z10 : z5 * (l 2) = z10
  refine lv_iload_n hx hb alq_d11 rfl (lv_at hl 2 rfl) ?_
  refine lv_aload_n hx hb alq_d12 rfl (lv_at hl 0 rfl) ?_
  refine y_getf X (fl62 X.2.2.2.2.1) hI.1 hY_this rfl hs_l1 alq_d13 ?_
  refine lv_isub hx hb alq_d16 ?_
  generalize hg_z16 : y - (l 1) = z16
  refine lv_aload_n hx hb alq_d17 rfl (lv_at hl 0 rfl) ?_
  refine y_getf X (fl64 X.2.2.2.2.1) hI.1 hY_this rfl hs_l3 alq_d18 ?_
  refine lv_imul hx hb alq_d21 ?_
  generalize hg_z21 : z16 * (l 3) = z21
  refine lv_iadd hx hb alq_d22 ?_
  generalize hg_z22 : z10 + z21 = z22
  subst hg_z5
  subst hg_z10
  subst hg_z16
  subst hg_z21
  subst hg_z22
  exact y_ireturn B hI rfl rfl rfl List.mem_cons_self ⟨_, rfl, ⟨_, rfl, x_i32 _⟩⟩ (x_cs.mono B.2.2.2.2.2 (y_mon B hI)) (fun t' w0' w1' l' h1 h2 => by cases h1; cases h2.uniq hLn0; rfl) (Nat.le_refl _) (Nat.le_refl _) alq_d23
theorem btq_d0 : decode xM43.2.1 0 = .ok (.aload_n 0, 1) := dz_ok (by decide +kernel)
theorem btq_d1 : decode xM43.2.1 1 = .ok (.iload_n 1, 1) := dz_ok (by decide +kernel)
theorem btq_d2 : decode xM43.2.1 2 = .ok (.iload_n 2, 1) := dz_ok (by decide +kernel)
theorem btq_d3 : decode xM43.2.1 3 = .ok (.invokevirtual 61, 3) := dz_ok (by decide +kernel)
theorem btq_d6 : decode xM43.2.1 6 = .ok (.istore_n 3, 1) := dz_ok (by decide +kernel)
theorem btq_d7 : decode xM43.2.1 7 = .ok (.iload_n 3, 1) := dz_ok (by decide +kernel)
theorem btq_d8 : decode xM43.2.1 8 = .ok (.ifCond .le 15, 3) := dz_ok (by decide +kernel)
theorem btq_d11 : decode xM43.2.1 11 = .ok (.iload_n 3, 1) := dz_ok (by decide +kernel)
theorem btq_d12 : decode xM43.2.1 12 = .ok (.aload_n 0, 1) := dz_ok (by decide +kernel)
theorem btq_d13 : decode xM43.2.1 13 = .ok (.getfield 58, 3) := dz_ok (by decide +kernel)
theorem btq_d16 : decode xM43.2.1 16 = .ok (.if_icmp .ge 7, 3) := dz_ok (by decide +kernel)
theorem btq_d19 : decode xM43.2.1 19 = .ok (.iconst 1, 1) := dz_ok (by decide +kernel)
theorem btq_d20 : decode xM43.2.1 20 = .ok (.goto 4, 3) := dz_ok (by decide +kernel)
theorem btq_d23 : decode xM43.2.1 23 = .ok (.iconst 0, 1) := dz_ok (by decide +kernel)
theorem btq_d24 : decode xM43.2.1 24 = .ok (.ireturn, 1) := dz_ok (by decide +kernel)
theorem ym_isBetween : y_Met vwCl x_G x_Zs x_Tb x_Nb xM43 y_T z_Pbt := by
  refine y_main (by decide +kernel) (by decide +kernel) x_Tb_good x_Nb_ok ?_
  intro p l e s m below meth c D U Y0 av ls B hI _ hl
  have X := B.1
  have hx := X.1
  have hb := X.2.1
  have hY0 := B.2.2.2.2.1
  obtain ⟨v0, v1, v2, rfl, hv0, ⟨x, rfl, -⟩, ⟨y, rfl, -⟩⟩ := y_three B.2.2.2.2.2
  obtain ⟨this, t0, rfl, ht0, hY_this⟩ := x_ref_at hv0 rfl
  obtain rfl := List.mem_singleton.mp ht0
  replace hl : lv_has ls xM43.2.2.1 [(0, .ref this), (1, .int x), (2, .int y)] := hl
  obtain ⟨l, hLn⟩ := z_LnE hI.1 hY_this
  have hLn0 := hLn
  have hs_l7 := hLn.1 7 (by decide)
  refine lv_aload_n hx hb btq_d0 rfl (lv_at hl 0 rfl) ?_
  refine lv_iload_n hx hb btq_d1 rfl (lv_at hl 1 rfl) ?_
  refine lv_iload_n hx hb btq_d2 rfl (lv_at hl 2 rfl) ?_
  refine y_call (z := (0, 61, 3, some 10, xM42)) (av := [.ref this, .int x, .int y]) (rest := []) (y_cokV (n := 2) (ci := 3) X ym_along rfl rfl rfl (x_cons (x_bw31 10 rfl rfl) (x_cons (x_bw31 12 rfl rfl) (x_cons (x_at 5 (by decide +kernel) rfl) (x_cons (x_bw0 7 rfl rfl) x_nilm)))) (x_bw31 13 rfl rfl) (by decide +kernel) ⟨Nat.le_of_ble_eq_true rfl, Nat.le_of_ble_eq_true rfl⟩) hY0 hI rfl btq_d3 hl.1 (Nat.le_of_ble_eq_true rfl) (Nat.le_of_ble_eq_true rfl) (Nat.le_of_ble_eq_true rfl) (y_cons (y_cref hY_this rfl) (y_cons ⟨_, rfl, x_i32 _⟩ (y_cons ⟨_, rfl, x_i32 _⟩ y_nil))) rfl (y_recv rfl hY_this) trivial (y_sub_ef rfl) fun v Yn o Hn L ho hr ha hIn hx_ hE hP => ?_
  have hPl := hP _ _ _ _ rfl hLn
  obtain rfl := hPl
  replace hLn := hLn.E hY_this hE (by decide)
  replace hs_l7 := y_Efld hE hY_this rfl (by decide) (by decide) hs_l7
  replace hY_this := y_ext hx_ hI.1 hY_this
  generalize hg_r3 : m_al l x y = r3
  clear ho hr ha hE hP hI hx_
  rename x_I _ _ _ _ _ _ _ _ _ _ => hI
  refine lv_istore_n hx hb btq_d6 rfl hl (by decide) (lv' := [(3, .int r3), (0, .ref this), (1, .int x), (2, .int y)]) rfl fun ls hl => ?_
  refine lv_iload_n hx hb btq_d7 rfl (lv_at hl 0 rfl) ?_
  have ec0 : (0 : Int32).toInt = 0 := by decide
  refine lv_if_le hx hb btq_d8 (tgt := 23) (by decide) (fun q8 => ?_) (fun q8 => ?_)
  · have q8_ : r3.toInt ≤ (0 : Int32).toInt := x_le32.mp q8
    refine lv_iconst hx hb btq_d23 (v := 0) (by decide) ?_
    subst hg_r3
    exact y_ireturn B hI rfl rfl rfl (List.mem_cons_of_mem _ List.mem_cons_self) ⟨_, rfl, ⟨_, rfl, by decide, by decide⟩⟩ (x_cs.mono B.2.2.2.2.2 (y_mon B hI)) (fun t' w0' w1' l' h1 h2 => by cases h1; cases h2.uniq hLn0; rw [show m_bt l x y = false by unfold m_bt; rw [Bool.and_eq_false_iff, decide_eq_false_iff_not, decide_eq_false_iff_not]; omega]; rfl) (Nat.le_refl _) (Nat.le_refl _) btq_d24
  · have q8_ : (0 : Int32).toInt < r3.toInt := Int.not_le.mp fun q => q8 (x_le32.mpr q)
    refine lv_iload_n hx hb btq_d11 rfl (lv_at hl 0 rfl) ?_
    refine lv_aload_n hx hb btq_d12 rfl (lv_at hl 1 rfl) ?_
    refine y_getf X (fl75 X.2.2.2.2.1) hI.1 hY_this rfl hs_l7 btq_d13 ?_
    refine lv_icmp_ge hx hb btq_d16 (tgt := 23) (by decide) (fun q16 => ?_) (fun q16 => ?_)
    · have q16_ : (l 7).toInt ≤ r3.toInt := x_le32.mp q16
      refine lv_iconst hx hb btq_d23 (v := 0) (by decide) ?_
      subst hg_r3
      exact y_ireturn B hI rfl rfl rfl (List.mem_cons_of_mem _ List.mem_cons_self) ⟨_, rfl, ⟨_, rfl, by decide, by decide⟩⟩ (x_cs.mono B.2.2.2.2.2 (y_mon B hI)) (fun t' w0' w1' l' h1 h2 => by cases h1; cases h2.uniq hLn0; rw [show m_bt l x y = false by unfold m_bt; rw [Bool.and_eq_false_iff, decide_eq_false_iff_not, decide_eq_false_iff_not]; omega]; rfl) (Nat.le_refl _) (Nat.le_refl _) btq_d24
    · have q16_ : r3.toInt < (l 7).toInt := Int.not_le.mp fun q => q16 (x_le32.mpr q)
      refine lv_iconst hx hb btq_d19 (v := 1) (by decide) ?_
      have ec1 : (1 : Int32).toInt = 1 := by decide
      refine lv_goto hx hb btq_d20 (tgt := 24) (by decide) ?_
      subst hg_r3
      exact y_ireturn B hI rfl rfl rfl List.mem_cons_self ⟨_, rfl, ⟨_, rfl, by decide, by decide⟩⟩ (x_cs.mono B.2.2.2.2.2 (y_mon B hI)) (fun t' w0' w1' l' h1 h2 => by cases h1; cases h2.uniq hLn0; rw [show m_bt l x y = true by unfold m_bt; rw [decide_eq_true (show 0 < (m_al l x y).toInt by omega), decide_eq_true (show (m_al l x y).toInt < (l 7).toInt by omega)]; rfl]; rfl) (Nat.le_refl _) (Nat.le_refl _) btq_d24
theorem mtq_d0 : decode xM44.2.1 0 = .ok (.iload_n 1, 1) := dz_ok (by decide +kernel)
theorem mtq_d1 : decode xM44.2.1 1 = .ok (.aload_n 0, 1) := dz_ok (by decide +kernel)
theorem mtq_d2 : decode xM44.2.1 2 = .ok (.getfield 15, 3) := dz_ok (by decide +kernel)
theorem mtq_d5 : decode xM44.2.1 5 = .ok (.isub, 1) := dz_ok (by decide +kernel)
theorem mtq_d6 : decode xM44.2.1 6 = .ok (.aload_n 0, 1) := dz_ok (by decide +kernel)
theorem mtq_d7 : decode xM44.2.1 7 = .ok (.getfield 30, 3) := dz_ok (by decide +kernel)
theorem mtq_d10 : decode xM44.2.1 10 = .ok (.imul, 1) := dz_ok (by decide +kernel)
theorem mtq_d11 : decode xM44.2.1 11 = .ok (.iload_n 2, 1) := dz_ok (by decide +kernel)
theorem mtq_d12 : decode xM44.2.1 12 = .ok (.aload_n 0, 1) := dz_ok (by decide +kernel)
theorem mtq_d13 : decode xM44.2.1 13 = .ok (.getfield 24, 3) := dz_ok (by decide +kernel)
theorem mtq_d16 : decode xM44.2.1 16 = .ok (.isub, 1) := dz_ok (by decide +kernel)
theorem mtq_d17 : decode xM44.2.1 17 = .ok (.aload_n 0, 1) := dz_ok (by decide +kernel)
theorem mtq_d18 : decode xM44.2.1 18 = .ok (.getfield 27, 3) := dz_ok (by decide +kernel)
theorem mtq_d21 : decode xM44.2.1 21 = .ok (.imul, 1) := dz_ok (by decide +kernel)
theorem mtq_d22 : decode xM44.2.1 22 = .ok (.isub, 1) := dz_ok (by decide +kernel)
theorem mtq_d23 : decode xM44.2.1 23 = .ok (.invokestatic 36, 3) := dz_ok (by decide +kernel)
theorem mtq_d26 : decode xM44.2.1 26 = .ok (.istore_n 3, 1) := dz_ok (by decide +kernel)
theorem mtq_d27 : decode xM44.2.1 27 = .ok (.aload_n 0, 1) := dz_ok (by decide +kernel)
theorem mtq_d28 : decode xM44.2.1 28 = .ok (.iload_n 1, 1) := dz_ok (by decide +kernel)
theorem mtq_d29 : decode xM44.2.1 29 = .ok (.iload_n 2, 1) := dz_ok (by decide +kernel)
theorem mtq_d30 : decode xM44.2.1 30 = .ok (.invokevirtual 64, 3) := dz_ok (by decide +kernel)
theorem mtq_d33 : decode xM44.2.1 33 = .ok (.ifCond .eq 15, 3) := dz_ok (by decide +kernel)
theorem mtq_d36 : decode xM44.2.1 36 = .ok (.iload_n 3, 1) := dz_ok (by decide +kernel)
theorem mtq_d37 : decode xM44.2.1 37 = .ok (.aload_n 0, 1) := dz_ok (by decide +kernel)
theorem mtq_d38 : decode xM44.2.1 38 = .ok (.getfield 46, 3) := dz_ok (by decide +kernel)
theorem mtq_d41 : decode xM44.2.1 41 = .ok (.if_icmp .gt 7, 3) := dz_ok (by decide +kernel)
theorem mtq_d44 : decode xM44.2.1 44 = .ok (.iconst 1, 1) := dz_ok (by decide +kernel)
theorem mtq_d45 : decode xM44.2.1 45 = .ok (.goto 4, 3) := dz_ok (by decide +kernel)
theorem mtq_d48 : decode xM44.2.1 48 = .ok (.iconst 0, 1) := dz_ok (by decide +kernel)
theorem mtq_d49 : decode xM44.2.1 49 = .ok (.ireturn, 1) := dz_ok (by decide +kernel)
theorem ym_meets : y_Met vwCl x_G x_Zs x_Tb x_Nb xM44 y_T z_Pmt := by
  refine y_main (by decide +kernel) (by decide +kernel) x_Tb_good x_Nb_ok ?_
  intro p l e s m below meth c D U Y0 av ls B hI _ hl
  have X := B.1
  have hx := X.1
  have hb := X.2.1
  have hY0 := B.2.2.2.2.1
  obtain ⟨v0, v1, v2, rfl, hv0, ⟨x, rfl, -⟩, ⟨y, rfl, -⟩⟩ := y_three B.2.2.2.2.2
  obtain ⟨this, t0, rfl, ht0, hY_this⟩ := x_ref_at hv0 rfl
  obtain rfl := List.mem_singleton.mp ht0
  replace hl : lv_has ls xM44.2.2.1 [(0, .ref this), (1, .int x), (2, .int y)] := hl
  obtain ⟨l, hLn⟩ := z_LnE hI.1 hY_this
  have hLn0 := hLn
  have hs_l0 := hLn.1 0 (by decide)
  have hs_l1 := hLn.1 1 (by decide)
  have hs_l2 := hLn.1 2 (by decide)
  have hs_l3 := hLn.1 3 (by decide)
  have hs_l4 := hLn.1 4 (by decide)
  refine lv_iload_n hx hb mtq_d0 rfl (lv_at hl 1 rfl) ?_
  refine lv_aload_n hx hb mtq_d1 rfl (lv_at hl 0 rfl) ?_
  refine y_getf X (fl60 X.2.2.2.2.1) hI.1 hY_this rfl hs_l0 mtq_d2 ?_
  refine lv_isub hx hb mtq_d5 ?_
  generalize hg_z5 : x - (l 0) = z5
  refine lv_aload_n hx hb mtq_d6 rfl (lv_at hl 0 rfl) ?_
  refine y_getf X (fl64 X.2.2.2.2.1) hI.1 hY_this rfl hs_l3 mtq_d7 ?_
  refine lv_imul hx hb mtq_d10 ?_
  generalize hg_z10 : z5 * (l 3) = z10
  refine lv_iload_n hx hb mtq_d11 rfl (lv_at hl 2 rfl) ?_
  refine lv_aload_n hx hb mtq_d12 rfl (lv_at hl 0 rfl) ?_
  refine y_getf X (fl62 X.2.2.2.2.1) hI.1 hY_this rfl hs_l1 mtq_d13 ?_
  refine lv_isub hx hb mtq_d16 ?_
  generalize hg_z16 : y - (l 1) = z16
  refine lv_aload_n hx hb mtq_d17 rfl (lv_at hl 0 rfl) ?_
  refine y_getf X (fl63 X.2.2.2.2.1) hI.1 hY_this rfl hs_l2 mtq_d18 ?_
  refine lv_imul hx hb mtq_d21 ?_
  generalize hg_z21 : z16 * (l 2) = z21
  refine lv_isub hx hb mtq_d22 ?_
  generalize hg_z22 : z10 - z21 = z22
  refine y_call (z := (1, 36, 1, none, (xMm1 Lib.Math.abs.name prog_16_method_59_code))) (av := [.int z22]) (rest := []) (y_cokAbs X (by decide +kernel) (x_cons (x_bw30 8 rfl rfl) (x_cons (x_bw30 9 rfl rfl) (x_cons (x_bw0 15 rfl rfl) (x_cons (x_bw30 10 rfl rfl) x_nilm)))) ⟨Nat.le_of_ble_eq_true rfl, Nat.le_of_ble_eq_true rfl⟩) hY0 hI rfl mtq_d23 hl.1 (Nat.le_of_ble_eq_true rfl) (Nat.le_of_ble_eq_true rfl) (Nat.le_of_ble_eq_true rfl) (y_cons ⟨_, rfl, x_i32 _⟩ y_nil) rfl (y_norecv rfl) trivial (y_sub_ef rfl) fun v Yn o Hn L ho hr ha hIn hx_ hE hP => ?_
  replace hLn := hLn.E hY_this hE (by decide)
  replace hs_l0 := y_Efld hE hY_this rfl (by decide) (by decide) hs_l0
  replace hs_l1 := y_Efld hE hY_this rfl (by decide) (by decide) hs_l1
  replace hs_l2 := y_Efld hE hY_this rfl (by decide) (by decide) hs_l2
  replace hs_l3 := y_Efld hE hY_this rfl (by decide) (by decide) hs_l3
  replace hs_l4 := y_Efld hE hY_this rfl (by decide) (by decide) hs_l4
  replace hY_this := y_ext hx_ hI.1 hY_this
  obtain rfl := hP _ rfl
  generalize hg_r23 : (if 0 ≤ z22 then z22 else 0 - z22) = r23
  clear ho hr ha hE hP hI hx_
  rename x_I _ _ _ _ _ _ _ _ _ _ => hI
  refine lv_istore_n hx hb mtq_d26 rfl hl (by decide) (lv' := [(3, .int r23), (0, .ref this), (1, .int x), (2, .int y)]) rfl fun ls hl => ?_
  refine lv_aload_n hx hb mtq_d27 rfl (lv_at hl 1 rfl) ?_
  refine lv_iload_n hx hb mtq_d28 rfl (lv_at hl 2 rfl) ?_
  refine lv_iload_n hx hb mtq_d29 rfl (lv_at hl 3 rfl) ?_
  refine y_call (z := (0, 64, 3, some 10, xM43)) (av := [.ref this, .int x, .int y]) (rest := []) (y_cokV (n := 2) (ci := 3) X ym_isBetween rfl rfl rfl (x_cons (x_bw31 6 rfl rfl) (x_cons (x_bw31 7 rfl rfl) (x_cons (x_bw31 8 rfl rfl) (x_cons (x_bw0 7 rfl rfl) x_nilm)))) (x_bw31 9 rfl rfl) (by decide +kernel) ⟨Nat.le_of_ble_eq_true rfl, Nat.le_of_ble_eq_true rfl⟩) hY0 hI rfl mtq_d30 hl.1 (Nat.le_of_ble_eq_true rfl) (Nat.le_of_ble_eq_true rfl) (Nat.le_of_ble_eq_true rfl) (y_cons (y_cref hY_this rfl) (y_cons ⟨_, rfl, x_i32 _⟩ (y_cons ⟨_, rfl, x_i32 _⟩ y_nil))) rfl (y_recv rfl hY_this) trivial (y_sub_ef rfl) fun v Yn o Hn L ho hr ha hIn hx_ hE hP => ?_
  have hPl := hP _ _ _ _ rfl hLn
  obtain rfl := hPl
  replace hLn := hLn.E hY_this hE (by decide)
  replace hs_l0 := y_Efld hE hY_this rfl (by decide) (by decide) hs_l0
  replace hs_l1 := y_Efld hE hY_this rfl (by decide) (by decide) hs_l1
  replace hs_l2 := y_Efld hE hY_this rfl (by decide) (by decide) hs_l2
  replace hs_l3 := y_Efld hE hY_this rfl (by decide) (by decide) hs_l3
  replace hs_l4 := y_Efld hE hY_this rfl (by decide) (by decide) hs_l4
  replace hY_this := y_ext hx_ hI.1 hY_this
  generalize hg_r30 : m_b (m_bt l x y) = r30
  clear ho hr ha hE hP hI hx_
  rename x_I _ _ _ _ _ _ _ _ _ _ => hI
  have ec0 : (0 : Int32).toInt = 0 := by decide
  refine lv_if_eq hx hb mtq_d33 (tgt := 48) (by decide) (fun q33 => ?_) (fun q33 => ?_)
  · have q33_ : r30.toInt = (0 : Int32).toInt := by rw [q33]
    refine lv_iconst hx hb mtq_d48 (v := 0) (by decide) ?_
    subst hg_r30
    subst hg_z5
    subst hg_z10
    subst hg_z16
    subst hg_z21
    subst hg_z22
    change (if (0 : Int32) ≤ _ then _ else _) = _ at hg_r23
    replace hg_r23 : m_abs ((x - l 0) * l 3 - (y - l 1) * l 2) = r23 := hg_r23
    subst hg_r23
    exact y_ireturn B hI rfl rfl rfl List.mem_cons_self ⟨_, rfl, ⟨_, rfl, by decide, by decide⟩⟩ (x_cs.mono B.2.2.2.2.2 (y_mon B hI)) (fun t' w0' w1' l' h1 h2 => by cases h1; cases h2.uniq hLn0; rw [show m_mt l x y = false by unfold m_mt; first | (rw [m_b0 q33, Bool.false_and]) | (rw [m_bn q33, Bool.true_and]; exact decide_eq_false (by omega))]; rfl) (Nat.le_refl _) (Nat.le_refl _) mtq_d49
  · have q33_ : ¬ r30.toInt = (0 : Int32).toInt := fun q => q33 (Int32.toInt_inj.mp q)
    refine lv_iload_n hx hb mtq_d36 rfl (lv_at hl 0 rfl) ?_
    refine lv_aload_n hx hb mtq_d37 rfl (lv_at hl 1 rfl) ?_
    refine y_getf X (fl76 X.2.2.2.2.1) hI.1 hY_this rfl hs_l4 mtq_d38 ?_
    refine lv_icmp_gt hx hb mtq_d41 (tgt := 48) (by decide) (fun q41 => ?_) (fun q41 => ?_)
    · have q41_ : (l 4).toInt < r23.toInt := x_lt32.mp q41
      refine lv_iconst hx hb mtq_d48 (v := 0) (by decide) ?_
      subst hg_r30
      subst hg_z5
      subst hg_z10
      subst hg_z16
      subst hg_z21
      subst hg_z22
      change (if (0 : Int32) ≤ _ then _ else _) = _ at hg_r23
      replace hg_r23 : m_abs ((x - l 0) * l 3 - (y - l 1) * l 2) = r23 := hg_r23
      subst hg_r23
      exact y_ireturn B hI rfl rfl rfl List.mem_cons_self ⟨_, rfl, ⟨_, rfl, by decide, by decide⟩⟩ (x_cs.mono B.2.2.2.2.2 (y_mon B hI)) (fun t' w0' w1' l' h1 h2 => by cases h1; cases h2.uniq hLn0; rw [show m_mt l x y = false by unfold m_mt; first | (rw [m_b0 q33, Bool.false_and]) | (rw [m_bn q33, Bool.true_and]; exact decide_eq_false (by omega))]; rfl) (Nat.le_refl _) (Nat.le_refl _) mtq_d49
    · have q41_ : r23.toInt ≤ (l 4).toInt := Int.not_lt.mp fun q => q41 (x_lt32.mpr q)
      refine lv_iconst hx hb mtq_d44 (v := 1) (by decide) ?_
      have ec1 : (1 : Int32).toInt = 1 := by decide
      refine lv_goto hx hb mtq_d45 (tgt := 49) (by decide) ?_
      subst hg_r30
      subst hg_z5
      subst hg_z10
      subst hg_z16
      subst hg_z21
      subst hg_z22
      change (if (0 : Int32) ≤ _ then _ else _) = _ at hg_r23
      replace hg_r23 : m_abs ((x - l 0) * l 3 - (y - l 1) * l 2) = r23 := hg_r23
      subst hg_r23
      exact y_ireturn B hI rfl rfl rfl (List.mem_cons_of_mem _ List.mem_cons_self) ⟨_, rfl, ⟨_, rfl, by decide, by decide⟩⟩ (x_cs.mono B.2.2.2.2.2 (y_mon B hI)) (fun t' w0' w1' l' h1 h2 => by cases h1; cases h2.uniq hLn0; rw [show m_mt l x y = true by unfold m_mt; rw [m_bn q33, Bool.true_and]; exact decide_eq_true (by omega)]; rfl) (Nat.le_refl _) (Nat.le_refl _) mtq_d49
theorem ovq_d0 : decode xM45.2.1 0 = .ok (.aload_n 0, 1) := dz_ok (by decide +kernel)
theorem ovq_d1 : decode xM45.2.1 1 = .ok (.getfield 52, 3) := dz_ok (by decide +kernel)
theorem ovq_d4 : decode xM45.2.1 4 = .ok (.iload_n 3, 1) := dz_ok (by decide +kernel)
theorem ovq_d5 : decode xM45.2.1 5 = .ok (.isub, 1) := dz_ok (by decide +kernel)
theorem ovq_d6 : decode xM45.2.1 6 = .ok (.aload_n 0, 1) := dz_ok (by decide +kernel)
theorem ovq_d7 : decode xM45.2.1 7 = .ok (.getfield 58, 3) := dz_ok (by decide +kernel)
theorem ovq_d10 : decode xM45.2.1 10 = .ok (.imul, 1) := dz_ok (by decide +kernel)
theorem ovq_d11 : decode xM45.2.1 11 = .ok (.aload_n 0, 1) := dz_ok (by decide +kernel)
theorem ovq_d12 : decode xM45.2.1 12 = .ok (.getfield 55, 3) := dz_ok (by decide +kernel)
theorem ovq_d15 : decode xM45.2.1 15 = .ok (.aload_n 0, 1) := dz_ok (by decide +kernel)
theorem ovq_d16 : decode xM45.2.1 16 = .ok (.getfield 52, 3) := dz_ok (by decide +kernel)
theorem ovq_d19 : decode xM45.2.1 19 = .ok (.isub, 1) := dz_ok (by decide +kernel)
theorem ovq_d20 : decode xM45.2.1 20 = .ok (.aload_n 0, 1) := dz_ok (by decide +kernel)
theorem ovq_d21 : decode xM45.2.1 21 = .ok (.iload_n 1, 1) := dz_ok (by decide +kernel)
theorem ovq_d22 : decode xM45.2.1 22 = .ok (.iload_n 2, 1) := dz_ok (by decide +kernel)
theorem ovq_d23 : decode xM45.2.1 23 = .ok (.invokevirtual 61, 3) := dz_ok (by decide +kernel)
theorem ovq_d26 : decode xM45.2.1 26 = .ok (.imul, 1) := dz_ok (by decide +kernel)
theorem ovq_d27 : decode xM45.2.1 27 = .ok (.iadd, 1) := dz_ok (by decide +kernel)
theorem ovq_d28 : decode xM45.2.1 28 = .ok (.ireturn, 1) := dz_ok (by decide +kernel)
theorem ym_over : y_Met vwCl x_G x_Zs x_Tb x_Nb xM45 y_T z_Pov := by
  refine y_main (by decide +kernel) (by decide +kernel) x_Tb_good x_Nb_ok ?_
  intro p l e s m below meth c D U Y0 av ls B hI _ hl
  have X := B.1
  have hx := X.1
  have hb := X.2.1
  have hY0 := B.2.2.2.2.1
  obtain ⟨v0, v1, v2, v3, rfl, hv0, ⟨x, rfl, -⟩, ⟨y, rfl, -⟩, ⟨h, rfl, -⟩⟩ := y_four B.2.2.2.2.2
  obtain ⟨this, t0, rfl, ht0, hY_this⟩ := x_ref_at hv0 rfl
  obtain rfl := List.mem_singleton.mp ht0
  replace hl : lv_has ls xM45.2.2.1 [(0, .ref this), (1, .int x), (2, .int y), (3, .int h)] := hl
  obtain ⟨l, hLn⟩ := z_LnE hI.1 hY_this
  have hLn0 := hLn
  have hs_l5 := hLn.1 5 (by decide)
  have hs_l6 := hLn.1 6 (by decide)
  have hs_l7 := hLn.1 7 (by decide)
  refine lv_aload_n hx hb ovq_d0 rfl (lv_at hl 0 rfl) ?_
  refine y_getf X (fl77 X.2.2.2.2.1) hI.1 hY_this rfl hs_l5 ovq_d1 ?_
  refine lv_iload_n hx hb ovq_d4 rfl (lv_at hl 3 rfl) ?_
  refine lv_isub hx hb ovq_d5 ?_
  generalize hg_z5 : (l 5) - h = z5
  refine lv_aload_n hx hb ovq_d6 rfl (lv_at hl 0 rfl) ?_
  refine y_getf X (fl75 X.2.2.2.2.1) hI.1 hY_this rfl hs_l7 ovq_d7 ?_
  refine lv_imul hx hb ovq_d10 ?_
  generalize hg_z10 : z5 * (l 7) = z10
  refine lv_aload_n hx hb ovq_d11 rfl (lv_at hl 0 rfl) ?_
  refine y_getf X (fl78 X.2.2.2.2.1) hI.1 hY_this rfl hs_l6 ovq_d12 ?_
  refine lv_aload_n hx hb ovq_d15 rfl (lv_at hl 0 rfl) ?_
  refine y_getf X (fl77 X.2.2.2.2.1) hI.1 hY_this rfl hs_l5 ovq_d16 ?_
  refine lv_isub hx hb ovq_d19 ?_
  generalize hg_z19 : (l 6) - (l 5) = z19
  refine lv_aload_n hx hb ovq_d20 rfl (lv_at hl 0 rfl) ?_
  refine lv_iload_n hx hb ovq_d21 rfl (lv_at hl 1 rfl) ?_
  refine lv_iload_n hx hb ovq_d22 rfl (lv_at hl 2 rfl) ?_
  refine y_call (z := (0, 61, 3, some 10, xM42)) (av := [.ref this, .int x, .int y]) (rest := [.int z19, .int z10]) (y_cokV (n := 2) (ci := 3) X ym_along rfl rfl rfl (x_cons (x_bw31 10 rfl rfl) (x_cons (x_bw31 12 rfl rfl) (x_cons (x_at 5 (by decide +kernel) rfl) (x_cons (x_bw0 7 rfl rfl) x_nilm)))) (x_bw31 13 rfl rfl) (by decide +kernel) ⟨Nat.le_of_ble_eq_true rfl, Nat.le_of_ble_eq_true rfl⟩) hY0 hI rfl ovq_d23 hl.1 (Nat.le_of_ble_eq_true rfl) (Nat.le_of_ble_eq_true rfl) (Nat.le_of_ble_eq_true rfl) (y_cons (y_cref hY_this rfl) (y_cons ⟨_, rfl, x_i32 _⟩ (y_cons ⟨_, rfl, x_i32 _⟩ y_nil))) rfl (y_recv rfl hY_this) trivial (y_sub_ef rfl) fun v Yn o Hn L ho hr ha hIn hx_ hE hP => ?_
  have hPl := hP _ _ _ _ rfl hLn
  obtain rfl := hPl
  replace hLn := hLn.E hY_this hE (by decide)
  replace hs_l5 := y_Efld hE hY_this rfl (by decide) (by decide) hs_l5
  replace hs_l6 := y_Efld hE hY_this rfl (by decide) (by decide) hs_l6
  replace hs_l7 := y_Efld hE hY_this rfl (by decide) (by decide) hs_l7
  replace hY_this := y_ext hx_ hI.1 hY_this
  generalize hg_r23 : m_al l x y = r23
  clear ho hr ha hE hP hI hx_
  rename x_I _ _ _ _ _ _ _ _ _ _ => hI
  refine lv_imul hx hb ovq_d26 ?_
  generalize hg_z26 : z19 * r23 = z26
  refine lv_iadd hx hb ovq_d27 ?_
  generalize hg_z27 : z10 + z26 = z27
  subst hg_z5
  subst hg_z10
  subst hg_z19
  subst hg_r23
  subst hg_z26
  subst hg_z27
  exact y_ireturn B hI rfl rfl rfl List.mem_cons_self ⟨_, rfl, ⟨_, rfl, x_i32 _⟩⟩ (x_cs.mono B.2.2.2.2.2 (y_mon B hI)) (fun t' w0' w1' w2' l' h1 h2 => by cases h1; cases h2.uniq hLn0; rfl) (Nat.le_refl _) (Nat.le_refl _) ovq_d28
theorem ihq_d0 : decode xM46.2.1 0 = .ok (.aload_n 0, 1) := dz_ok (by decide +kernel)
theorem ihq_d1 : decode xM46.2.1 1 = .ok (.iload_n 1, 1) := dz_ok (by decide +kernel)
theorem ihq_d2 : decode xM46.2.1 2 = .ok (.iload_n 2, 1) := dz_ok (by decide +kernel)
theorem ihq_d3 : decode xM46.2.1 3 = .ok (.iload_n 3, 1) := dz_ok (by decide +kernel)
theorem ihq_d4 : decode xM46.2.1 4 = .ok (.invokevirtual 68, 3) := dz_ok (by decide +kernel)
theorem ihq_d7 : decode xM46.2.1 7 = .ok (.ifCond .ge 7, 3) := dz_ok (by decide +kernel)
theorem ihq_d10 : decode xM46.2.1 10 = .ok (.iconst 1, 1) := dz_ok (by decide +kernel)
theorem ihq_d11 : decode xM46.2.1 11 = .ok (.goto 4, 3) := dz_ok (by decide +kernel)
theorem ihq_d14 : decode xM46.2.1 14 = .ok (.iconst 0, 1) := dz_ok (by decide +kernel)
theorem ihq_d15 : decode xM46.2.1 15 = .ok (.ireturn, 1) := dz_ok (by decide +kernel)
theorem ym_isHidden : y_Met vwCl x_G x_Zs x_Tb x_Nb xM46 y_T z_Pih := by
  refine y_main (by decide +kernel) (by decide +kernel) x_Tb_good x_Nb_ok ?_
  intro p l e s m below meth c D U Y0 av ls B hI _ hl
  have X := B.1
  have hx := X.1
  have hb := X.2.1
  have hY0 := B.2.2.2.2.1
  obtain ⟨v0, v1, v2, v3, rfl, hv0, ⟨x, rfl, -⟩, ⟨y, rfl, -⟩, ⟨h, rfl, -⟩⟩ := y_four B.2.2.2.2.2
  obtain ⟨this, t0, rfl, ht0, hY_this⟩ := x_ref_at hv0 rfl
  obtain rfl := List.mem_singleton.mp ht0
  replace hl : lv_has ls xM46.2.2.1 [(0, .ref this), (1, .int x), (2, .int y), (3, .int h)] := hl
  obtain ⟨l, hLn⟩ := z_LnE hI.1 hY_this
  have hLn0 := hLn

  refine lv_aload_n hx hb ihq_d0 rfl (lv_at hl 0 rfl) ?_
  refine lv_iload_n hx hb ihq_d1 rfl (lv_at hl 1 rfl) ?_
  refine lv_iload_n hx hb ihq_d2 rfl (lv_at hl 2 rfl) ?_
  refine lv_iload_n hx hb ihq_d3 rfl (lv_at hl 3 rfl) ?_
  refine y_call (z := (0, 68, 4, some 10, xM45)) (av := [.ref this, .int x, .int y, .int h]) (rest := []) (y_cokV (n := 3) (ci := 3) X ym_over rfl rfl rfl (x_cons (x_bw32 2 rfl rfl) (x_cons (x_bw32 3 rfl rfl) (x_cons (x_bw32 4 rfl rfl) (x_cons (x_bw0 7 rfl rfl) x_nilm)))) (x_bw32 5 rfl rfl) (by decide +kernel) ⟨Nat.le_of_ble_eq_true rfl, Nat.le_of_ble_eq_true rfl⟩) hY0 hI rfl ihq_d4 hl.1 (Nat.le_of_ble_eq_true rfl) (Nat.le_of_ble_eq_true rfl) (Nat.le_of_ble_eq_true rfl) (y_cons (y_cref hY_this rfl) (y_cons ⟨_, rfl, x_i32 _⟩ (y_cons ⟨_, rfl, x_i32 _⟩ (y_cons ⟨_, rfl, x_i32 _⟩ y_nil)))) rfl (y_recv rfl hY_this) trivial (y_sub_ef rfl) fun v Yn o Hn L ho hr ha hIn hx_ hE hP => ?_
  have hPl := hP _ _ _ _ _ rfl hLn
  obtain rfl := hPl
  replace hLn := hLn.E hY_this hE (by decide)
  replace hY_this := y_ext hx_ hI.1 hY_this
  generalize hg_r4 : m_ov l x y h = r4
  clear ho hr ha hE hP hI hx_
  rename x_I _ _ _ _ _ _ _ _ _ _ => hI
  have ec0 : (0 : Int32).toInt = 0 := by decide
  refine lv_if_ge hx hb ihq_d7 (tgt := 14) (by decide) (fun q7 => ?_) (fun q7 => ?_)
  · have q7_ : (0 : Int32).toInt ≤ r4.toInt := x_le32.mp q7
    refine lv_iconst hx hb ihq_d14 (v := 0) (by decide) ?_
    subst hg_r4
    exact y_ireturn B hI rfl rfl rfl (List.mem_cons_of_mem _ List.mem_cons_self) ⟨_, rfl, ⟨_, rfl, by decide, by decide⟩⟩ (x_cs.mono B.2.2.2.2.2 (y_mon B hI)) (fun t' w0' w1' w2' l' h1 h2 => by cases h1; cases h2.uniq hLn0; rw [show m_hd l x y h = false by unfold m_hd; exact decide_eq_false (by omega)]; rfl) (Nat.le_refl _) (Nat.le_refl _) ihq_d15
  · have q7_ : r4.toInt < (0 : Int32).toInt := Int.not_le.mp fun q => q7 (x_le32.mpr q)
    refine lv_iconst hx hb ihq_d10 (v := 1) (by decide) ?_
    have ec1 : (1 : Int32).toInt = 1 := by decide
    refine lv_goto hx hb ihq_d11 (tgt := 15) (by decide) ?_
    subst hg_r4
    exact y_ireturn B hI rfl rfl rfl List.mem_cons_self ⟨_, rfl, ⟨_, rfl, by decide, by decide⟩⟩ (x_cs.mono B.2.2.2.2.2 (y_mon B hI)) (fun t' w0' w1' w2' l' h1 h2 => by cases h1; cases h2.uniq hLn0; rw [show m_hd l x y h = true by unfold m_hd; exact decide_eq_true (by omega)]; rfl) (Nat.le_refl _) (Nat.le_refl _) ihq_d15
def z_AL1 : yA := fun D av Y H => ∀ q : Nat, av[1]? = some (.ref q) → ∃ f, z_L D Y q H f
def z_Pdw : yP := fun D av Y H _ _ H' => ∀ (this q : Nat) (a b : Int32) (f : Nat → Int32), av = [.ref this, .ref q, .int a, .int b] → z_L D Y q H f → z_Ln D this H' (m_ln f a.toInt.toNat b.toInt.toNat)
theorem dwq_d0 : decode xM41.2.1 0 = .ok (.aload_n 0, 1) := dz_ok (by decide +kernel)
theorem dwq_d1 : decode xM41.2.1 1 = .ok (.aload_n 1, 1) := dz_ok (by decide +kernel)
theorem dwq_d2 : decode xM41.2.1 2 = .ok (.getfield 9, 3) := dz_ok (by decide +kernel)
theorem dwq_d5 : decode xM41.2.1 5 = .ok (.iload_n 2, 1) := dz_ok (by decide +kernel)
theorem dwq_d6 : decode xM41.2.1 6 = .ok (.iaload, 1) := dz_ok (by decide +kernel)
theorem dwq_d7 : decode xM41.2.1 7 = .ok (.putfield 15, 3) := dz_ok (by decide +kernel)
theorem dwq_d10 : decode xM41.2.1 10 = .ok (.aload_n 0, 1) := dz_ok (by decide +kernel)
theorem dwq_d11 : decode xM41.2.1 11 = .ok (.aload_n 1, 1) := dz_ok (by decide +kernel)
theorem dwq_d12 : decode xM41.2.1 12 = .ok (.getfield 21, 3) := dz_ok (by decide +kernel)
theorem dwq_d15 : decode xM41.2.1 15 = .ok (.iload_n 2, 1) := dz_ok (by decide +kernel)
theorem dwq_d16 : decode xM41.2.1 16 = .ok (.iaload, 1) := dz_ok (by decide +kernel)
theorem dwq_d17 : decode xM41.2.1 17 = .ok (.putfield 24, 3) := dz_ok (by decide +kernel)
theorem dwq_d20 : decode xM41.2.1 20 = .ok (.aload_n 0, 1) := dz_ok (by decide +kernel)
theorem dwq_d21 : decode xM41.2.1 21 = .ok (.aload_n 1, 1) := dz_ok (by decide +kernel)
theorem dwq_d22 : decode xM41.2.1 22 = .ok (.getfield 9, 3) := dz_ok (by decide +kernel)
theorem dwq_d25 : decode xM41.2.1 25 = .ok (.iload_n 3, 1) := dz_ok (by decide +kernel)
theorem dwq_d26 : decode xM41.2.1 26 = .ok (.iaload, 1) := dz_ok (by decide +kernel)
theorem dwq_d27 : decode xM41.2.1 27 = .ok (.aload_n 0, 1) := dz_ok (by decide +kernel)
theorem dwq_d28 : decode xM41.2.1 28 = .ok (.getfield 15, 3) := dz_ok (by decide +kernel)
theorem dwq_d31 : decode xM41.2.1 31 = .ok (.isub, 1) := dz_ok (by decide +kernel)
theorem dwq_d32 : decode xM41.2.1 32 = .ok (.putfield 27, 3) := dz_ok (by decide +kernel)
theorem dwq_d35 : decode xM41.2.1 35 = .ok (.aload_n 0, 1) := dz_ok (by decide +kernel)
theorem dwq_d36 : decode xM41.2.1 36 = .ok (.aload_n 1, 1) := dz_ok (by decide +kernel)
theorem dwq_d37 : decode xM41.2.1 37 = .ok (.getfield 21, 3) := dz_ok (by decide +kernel)
theorem dwq_d40 : decode xM41.2.1 40 = .ok (.iload_n 3, 1) := dz_ok (by decide +kernel)
theorem dwq_d41 : decode xM41.2.1 41 = .ok (.iaload, 1) := dz_ok (by decide +kernel)
theorem dwq_d42 : decode xM41.2.1 42 = .ok (.aload_n 0, 1) := dz_ok (by decide +kernel)
theorem dwq_d43 : decode xM41.2.1 43 = .ok (.getfield 24, 3) := dz_ok (by decide +kernel)
theorem dwq_d46 : decode xM41.2.1 46 = .ok (.isub, 1) := dz_ok (by decide +kernel)
theorem dwq_d47 : decode xM41.2.1 47 = .ok (.putfield 30, 3) := dz_ok (by decide +kernel)
theorem dwq_d50 : decode xM41.2.1 50 = .ok (.aload_n 0, 1) := dz_ok (by decide +kernel)
theorem dwq_d51 : decode xM41.2.1 51 = .ok (.aload_n 1, 1) := dz_ok (by decide +kernel)
theorem dwq_d52 : decode xM41.2.1 52 = .ok (.getfield 33, 3) := dz_ok (by decide +kernel)
theorem dwq_d55 : decode xM41.2.1 55 = .ok (.iconst 2, 1) := dz_ok (by decide +kernel)
theorem dwq_d56 : decode xM41.2.1 56 = .ok (.iaload, 1) := dz_ok (by decide +kernel)
theorem dwq_d57 : decode xM41.2.1 57 = .ok (.aload_n 0, 1) := dz_ok (by decide +kernel)
theorem dwq_d58 : decode xM41.2.1 58 = .ok (.getfield 27, 3) := dz_ok (by decide +kernel)
theorem dwq_d61 : decode xM41.2.1 61 = .ok (.invokestatic 36, 3) := dz_ok (by decide +kernel)
theorem dwq_d64 : decode xM41.2.1 64 = .ok (.aload_n 0, 1) := dz_ok (by decide +kernel)
theorem dwq_d65 : decode xM41.2.1 65 = .ok (.getfield 30, 3) := dz_ok (by decide +kernel)
theorem dwq_d68 : decode xM41.2.1 68 = .ok (.invokestatic 36, 3) := dz_ok (by decide +kernel)
theorem dwq_d71 : decode xM41.2.1 71 = .ok (.invokestatic 42, 3) := dz_ok (by decide +kernel)
theorem dwq_d74 : decode xM41.2.1 74 = .ok (.imul, 1) := dz_ok (by decide +kernel)
theorem dwq_d75 : decode xM41.2.1 75 = .ok (.putfield 46, 3) := dz_ok (by decide +kernel)
theorem dwq_d78 : decode xM41.2.1 78 = .ok (.aload_n 0, 1) := dz_ok (by decide +kernel)
theorem dwq_d79 : decode xM41.2.1 79 = .ok (.aload_n 1, 1) := dz_ok (by decide +kernel)
theorem dwq_d80 : decode xM41.2.1 80 = .ok (.getfield 49, 3) := dz_ok (by decide +kernel)
theorem dwq_d83 : decode xM41.2.1 83 = .ok (.iload_n 2, 1) := dz_ok (by decide +kernel)
theorem dwq_d84 : decode xM41.2.1 84 = .ok (.iaload, 1) := dz_ok (by decide +kernel)
theorem dwq_d85 : decode xM41.2.1 85 = .ok (.putfield 52, 3) := dz_ok (by decide +kernel)
theorem dwq_d88 : decode xM41.2.1 88 = .ok (.aload_n 0, 1) := dz_ok (by decide +kernel)
theorem dwq_d89 : decode xM41.2.1 89 = .ok (.aload_n 1, 1) := dz_ok (by decide +kernel)
theorem dwq_d90 : decode xM41.2.1 90 = .ok (.getfield 49, 3) := dz_ok (by decide +kernel)
theorem dwq_d93 : decode xM41.2.1 93 = .ok (.iload_n 3, 1) := dz_ok (by decide +kernel)
theorem dwq_d94 : decode xM41.2.1 94 = .ok (.iaload, 1) := dz_ok (by decide +kernel)
theorem dwq_d95 : decode xM41.2.1 95 = .ok (.putfield 55, 3) := dz_ok (by decide +kernel)
theorem dwq_d98 : decode xM41.2.1 98 = .ok (.aload_n 0, 1) := dz_ok (by decide +kernel)
theorem dwq_d99 : decode xM41.2.1 99 = .ok (.aload_n 0, 1) := dz_ok (by decide +kernel)
theorem dwq_d100 : decode xM41.2.1 100 = .ok (.getfield 27, 3) := dz_ok (by decide +kernel)
theorem dwq_d103 : decode xM41.2.1 103 = .ok (.aload_n 0, 1) := dz_ok (by decide +kernel)
theorem dwq_d104 : decode xM41.2.1 104 = .ok (.getfield 27, 3) := dz_ok (by decide +kernel)
theorem dwq_d107 : decode xM41.2.1 107 = .ok (.imul, 1) := dz_ok (by decide +kernel)
theorem dwq_d108 : decode xM41.2.1 108 = .ok (.aload_n 0, 1) := dz_ok (by decide +kernel)
theorem dwq_d109 : decode xM41.2.1 109 = .ok (.getfield 30, 3) := dz_ok (by decide +kernel)
theorem dwq_d112 : decode xM41.2.1 112 = .ok (.aload_n 0, 1) := dz_ok (by decide +kernel)
theorem dwq_d113 : decode xM41.2.1 113 = .ok (.getfield 30, 3) := dz_ok (by decide +kernel)
theorem dwq_d116 : decode xM41.2.1 116 = .ok (.imul, 1) := dz_ok (by decide +kernel)
theorem dwq_d117 : decode xM41.2.1 117 = .ok (.iadd, 1) := dz_ok (by decide +kernel)
theorem dwq_d118 : decode xM41.2.1 118 = .ok (.putfield 58, 3) := dz_ok (by decide +kernel)
theorem dwq_d121 : decode xM41.2.1 121 = .ok (.return_, 1) := dz_ok (by decide +kernel)
theorem ym_draw : y_Met vwCl x_G x_Zs x_Tb x_Nb xM41 z_AL1 z_Pdw := by
  refine y_main (by decide +kernel) (by decide +kernel) x_Tb_good x_Nb_ok ?_
  intro p l e s m below meth c D U Y0 av ls B hI hpre hl
  have X := B.1
  have hx := X.1
  have hb := X.2.1
  have hY0 := B.2.2.2.2.1
  obtain ⟨v0, v1, v2, v3, rfl, hv0, hv1, ⟨a, rfl, ha9⟩, ⟨b, rfl, hb9⟩⟩ := y_four B.2.2.2.2.2
  replace ha9 : (0 : Int) ≤ a.toInt ∧ a.toInt ≤ 9 := ha9
  replace hb9 : (0 : Int) ≤ b.toInt ∧ b.toInt ≤ 9 := hb9
  obtain ⟨this, t0, rfl, ht0, hY_this⟩ := x_ref_at hv0 rfl
  obtain rfl := List.mem_singleton.mp ht0
  obtain ⟨ld, t1, rfl, ht1, hY_ld⟩ := x_ref_at hv1 rfl
  obtain rfl := List.mem_singleton.mp ht1
  replace hl : lv_has ls xM41.2.2.1 [(0, .ref this), (1, .ref ld), (2, .int a), (3, .int b)] := hl
  obtain ⟨f, hL⟩ := hpre _ rfl
  have hL0 := hL
  obtain ⟨l, hLn⟩ := z_LnE hI.1 hY_this
  have hs_l0 := hLn.1 0 (by decide)
  have hs_l1 := hLn.1 1 (by decide)
  have hs_l2 := hLn.1 2 (by decide)
  have hs_l3 := hLn.1 3 (by decide)
  have hs_l4 := hLn.1 4 (by decide)
  have hs_l5 := hLn.1 5 (by decide)
  have hs_l6 := hLn.1 6 (by decide)
  have hs_l7 := hLn.1 7 (by decide)
  obtain ⟨ax, hs_ax, hY_ax, hA_ax⟩ := hL.2.1 (1, 19, 10, 10, 5) (by decide)
  replace hA_ax : y_A ax 10 s.heap (fun j => f (10 + 5 * j)) := hA_ax
  obtain ⟨ay, hs_ay, hY_ay, hA_ay⟩ := hL.2.1 (2, 20, 10, 11, 5) (by decide)
  replace hA_ay : y_A ay 10 s.heap (fun j => f (11 + 5 * j)) := hA_ay
  obtain ⟨aheight, hs_aheight, hY_aheight, hA_aheight⟩ := hL.2.1 (3, 21, 10, 12, 5) (by decide)
  replace hA_aheight : y_A aheight 10 s.heap (fun j => f (12 + 5 * j)) := hA_aheight
  obtain ⟨adial, hs_adial, hY_adial, hA_adial⟩ := hL.2.1 (10, 27, 4, 4, 1) (by decide)
  replace hA_adial : y_A adial 4 s.heap (fun j => f (4 + 1 * j)) := hA_adial
  refine lv_aload_n hx hb dwq_d0 rfl (lv_at hl 0 rfl) ?_
  refine lv_aload_n hx hb dwq_d1 rfl (lv_at hl 1 rfl) ?_
  refine y_getf X (fl59 X.2.2.2.2.1) hI.1 hY_ld rfl hs_ax dwq_d2 ?_
  refine lv_iload_n hx hb dwq_d5 rfl (lv_at hl 2 rfl) ?_
  refine y_iald X hI.1 hY_ax rfl hA_ax (by omega) (by show _ < (10 : Int); omega) dwq_d6 ?_
  obtain ⟨e6, hg_e6⟩ : ∃ e6 : Int32, f (10 + 5 * a.toInt.toNat) = e6 := ⟨_, rfl⟩
  rw [hg_e6]
  refine y_putf X (fw67 X.2.2.2.2.1) hY0 hI hY_this rfl rfl ⟨_, rfl, x_i32 _⟩ (by decide +kernel) dwq_d7 fun H sl hI ho hs hk => ?_
  replace hs_l1 := hk _ _ (by decide +kernel) (by decide) hs_l1
  replace hs_l2 := hk _ _ (by decide +kernel) (by decide) hs_l2
  replace hs_l3 := hk _ _ (by decide +kernel) (by decide) hs_l3
  replace hs_l4 := hk _ _ (by decide +kernel) (by decide) hs_l4
  replace hs_l5 := hk _ _ (by decide +kernel) (by decide) hs_l5
  replace hs_l6 := hk _ _ (by decide +kernel) (by decide) hs_l6
  replace hs_l7 := hk _ _ (by decide +kernel) (by decide) hs_l7
  replace hs_ax := y_slk hs_ax (ho _ (y_ne hY_ld hY_this rfl))
  replace hs_ay := y_slk hs_ay (ho _ (y_ne hY_ld hY_this rfl))
  replace hs_aheight := y_slk hs_aheight (ho _ (y_ne hY_ld hY_this rfl))
  replace hs_adial := y_slk hs_adial (ho _ (y_ne hY_ld hY_this rfl))
  replace hA_ax := hA_ax.kept (ho _ (y_ne hY_ax hY_this rfl))
  replace hA_ay := hA_ay.kept (ho _ (y_ne hY_ay hY_this rfl))
  replace hA_aheight := hA_aheight.kept (ho _ (y_ne hY_aheight hY_this rfl))
  replace hA_adial := hA_adial.kept (ho _ (y_ne hY_adial hY_this rfl))
  replace hs := hs
  replace hs_l0 := hs
  refine lv_aload_n hx hb dwq_d10 rfl (lv_at hl 0 rfl) ?_
  refine lv_aload_n hx hb dwq_d11 rfl (lv_at hl 1 rfl) ?_
  refine y_getf X (fl61 X.2.2.2.2.1) hI.1 hY_ld rfl hs_ay dwq_d12 ?_
  refine lv_iload_n hx hb dwq_d15 rfl (lv_at hl 2 rfl) ?_
  refine y_iald X hI.1 hY_ay rfl hA_ay (by omega) (by show _ < (10 : Int); omega) dwq_d16 ?_
  obtain ⟨e16, hg_e16⟩ : ∃ e16 : Int32, f (11 + 5 * a.toInt.toNat) = e16 := ⟨_, rfl⟩
  rw [hg_e16]
  refine y_putf X (fw68 X.2.2.2.2.1) hY0 hI hY_this rfl rfl ⟨_, rfl, x_i32 _⟩ (by decide +kernel) dwq_d17 fun H sl hI ho hs hk => ?_
  replace hs_l0 := hk _ _ (by decide +kernel) (by decide) hs_l0
  replace hs_l2 := hk _ _ (by decide +kernel) (by decide) hs_l2
  replace hs_l3 := hk _ _ (by decide +kernel) (by decide) hs_l3
  replace hs_l4 := hk _ _ (by decide +kernel) (by decide) hs_l4
  replace hs_l5 := hk _ _ (by decide +kernel) (by decide) hs_l5
  replace hs_l6 := hk _ _ (by decide +kernel) (by decide) hs_l6
  replace hs_l7 := hk _ _ (by decide +kernel) (by decide) hs_l7
  replace hs_ax := y_slk hs_ax (ho _ (y_ne hY_ld hY_this rfl))
  replace hs_ay := y_slk hs_ay (ho _ (y_ne hY_ld hY_this rfl))
  replace hs_aheight := y_slk hs_aheight (ho _ (y_ne hY_ld hY_this rfl))
  replace hs_adial := y_slk hs_adial (ho _ (y_ne hY_ld hY_this rfl))
  replace hA_ax := hA_ax.kept (ho _ (y_ne hY_ax hY_this rfl))
  replace hA_ay := hA_ay.kept (ho _ (y_ne hY_ay hY_this rfl))
  replace hA_aheight := hA_aheight.kept (ho _ (y_ne hY_aheight hY_this rfl))
  replace hA_adial := hA_adial.kept (ho _ (y_ne hY_adial hY_this rfl))
  replace hs := hs
  replace hs_l1 := hs
  refine lv_aload_n hx hb dwq_d20 rfl (lv_at hl 0 rfl) ?_
  refine lv_aload_n hx hb dwq_d21 rfl (lv_at hl 1 rfl) ?_
  refine y_getf X (fl59 X.2.2.2.2.1) hI.1 hY_ld rfl hs_ax dwq_d22 ?_
  refine lv_iload_n hx hb dwq_d25 rfl (lv_at hl 3 rfl) ?_
  refine y_iald X hI.1 hY_ax rfl hA_ax (by omega) (by show _ < (10 : Int); omega) dwq_d26 ?_
  obtain ⟨e26, hg_e26⟩ : ∃ e26 : Int32, f (10 + 5 * b.toInt.toNat) = e26 := ⟨_, rfl⟩
  rw [hg_e26]
  refine lv_aload_n hx hb dwq_d27 rfl (lv_at hl 0 rfl) ?_
  refine y_getf X (fl60 X.2.2.2.2.1) hI.1 hY_this rfl hs_l0 dwq_d28 ?_
  refine lv_isub hx hb dwq_d31 ?_
  generalize hg_z31 : e26 - e6 = z31
  refine y_putf X (fw69 X.2.2.2.2.1) hY0 hI hY_this rfl rfl ⟨_, rfl, x_i32 _⟩ (by decide +kernel) dwq_d32 fun H sl hI ho hs hk => ?_
  replace hs_l0 := hk _ _ (by decide +kernel) (by decide) hs_l0
  replace hs_l1 := hk _ _ (by decide +kernel) (by decide) hs_l1
  replace hs_l3 := hk _ _ (by decide +kernel) (by decide) hs_l3
  replace hs_l4 := hk _ _ (by decide +kernel) (by decide) hs_l4
  replace hs_l5 := hk _ _ (by decide +kernel) (by decide) hs_l5
  replace hs_l6 := hk _ _ (by decide +kernel) (by decide) hs_l6
  replace hs_l7 := hk _ _ (by decide +kernel) (by decide) hs_l7
  replace hs_ax := y_slk hs_ax (ho _ (y_ne hY_ld hY_this rfl))
  replace hs_ay := y_slk hs_ay (ho _ (y_ne hY_ld hY_this rfl))
  replace hs_aheight := y_slk hs_aheight (ho _ (y_ne hY_ld hY_this rfl))
  replace hs_adial := y_slk hs_adial (ho _ (y_ne hY_ld hY_this rfl))
  replace hA_ax := hA_ax.kept (ho _ (y_ne hY_ax hY_this rfl))
  replace hA_ay := hA_ay.kept (ho _ (y_ne hY_ay hY_this rfl))
  replace hA_aheight := hA_aheight.kept (ho _ (y_ne hY_aheight hY_this rfl))
  replace hA_adial := hA_adial.kept (ho _ (y_ne hY_adial hY_this rfl))
  replace hs := hs
  replace hs_l2 := hs
  refine lv_aload_n hx hb dwq_d35 rfl (lv_at hl 0 rfl) ?_
  refine lv_aload_n hx hb dwq_d36 rfl (lv_at hl 1 rfl) ?_
  refine y_getf X (fl61 X.2.2.2.2.1) hI.1 hY_ld rfl hs_ay dwq_d37 ?_
  refine lv_iload_n hx hb dwq_d40 rfl (lv_at hl 3 rfl) ?_
  refine y_iald X hI.1 hY_ay rfl hA_ay (by omega) (by show _ < (10 : Int); omega) dwq_d41 ?_
  obtain ⟨e41, hg_e41⟩ : ∃ e41 : Int32, f (11 + 5 * b.toInt.toNat) = e41 := ⟨_, rfl⟩
  rw [hg_e41]
  refine lv_aload_n hx hb dwq_d42 rfl (lv_at hl 0 rfl) ?_
  refine y_getf X (fl62 X.2.2.2.2.1) hI.1 hY_this rfl hs_l1 dwq_d43 ?_
  refine lv_isub hx hb dwq_d46 ?_
  generalize hg_z46 : e41 - e16 = z46
  refine y_putf X (fw70 X.2.2.2.2.1) hY0 hI hY_this rfl rfl ⟨_, rfl, x_i32 _⟩ (by decide +kernel) dwq_d47 fun H sl hI ho hs hk => ?_
  replace hs_l0 := hk _ _ (by decide +kernel) (by decide) hs_l0
  replace hs_l1 := hk _ _ (by decide +kernel) (by decide) hs_l1
  replace hs_l2 := hk _ _ (by decide +kernel) (by decide) hs_l2
  replace hs_l4 := hk _ _ (by decide +kernel) (by decide) hs_l4
  replace hs_l5 := hk _ _ (by decide +kernel) (by decide) hs_l5
  replace hs_l6 := hk _ _ (by decide +kernel) (by decide) hs_l6
  replace hs_l7 := hk _ _ (by decide +kernel) (by decide) hs_l7
  replace hs_ax := y_slk hs_ax (ho _ (y_ne hY_ld hY_this rfl))
  replace hs_ay := y_slk hs_ay (ho _ (y_ne hY_ld hY_this rfl))
  replace hs_aheight := y_slk hs_aheight (ho _ (y_ne hY_ld hY_this rfl))
  replace hs_adial := y_slk hs_adial (ho _ (y_ne hY_ld hY_this rfl))
  replace hA_ax := hA_ax.kept (ho _ (y_ne hY_ax hY_this rfl))
  replace hA_ay := hA_ay.kept (ho _ (y_ne hY_ay hY_this rfl))
  replace hA_aheight := hA_aheight.kept (ho _ (y_ne hY_aheight hY_this rfl))
  replace hA_adial := hA_adial.kept (ho _ (y_ne hY_adial hY_this rfl))
  replace hs := hs
  replace hs_l3 := hs
  refine lv_aload_n hx hb dwq_d50 rfl (lv_at hl 0 rfl) ?_
  refine lv_aload_n hx hb dwq_d51 rfl (lv_at hl 1 rfl) ?_
  refine y_getf X (fl65 X.2.2.2.2.1) hI.1 hY_ld rfl hs_adial dwq_d52 ?_
  refine lv_iconst hx hb dwq_d55 (v := 2) (by decide) ?_
  have ec2 : (2 : Int32).toInt = 2 := by decide
  refine y_iald X hI.1 hY_adial rfl hA_adial (by omega) (by show _ < (4 : Int); omega) dwq_d56 ?_
  obtain ⟨e56, hg_e56⟩ : ∃ e56 : Int32, f (4 + 1 * (2 : Int32).toInt.toNat) = e56 := ⟨_, rfl⟩
  rw [hg_e56]
  refine lv_aload_n hx hb dwq_d57 rfl (lv_at hl 0 rfl) ?_
  refine y_getf X (fl63 X.2.2.2.2.1) hI.1 hY_this rfl hs_l2 dwq_d58 ?_
  refine y_call (z := (1, 36, 1, none, (xMm1 Lib.Math.abs.name prog_16_method_59_code))) (av := [.int z31]) (rest := [.int e56, .ref this]) (y_cokAbs X (by decide +kernel) (x_cons (x_bw30 8 rfl rfl) (x_cons (x_bw30 9 rfl rfl) (x_cons (x_bw0 15 rfl rfl) (x_cons (x_bw30 10 rfl rfl) x_nilm)))) ⟨Nat.le_of_ble_eq_true rfl, Nat.le_of_ble_eq_true rfl⟩) hY0 hI rfl dwq_d61 hl.1 (Nat.le_of_ble_eq_true rfl) (Nat.le_of_ble_eq_true rfl) (Nat.le_of_ble_eq_true rfl) (y_cons ⟨_, rfl, x_i32 _⟩ y_nil) rfl (y_norecv rfl) trivial (y_sub_ef rfl) fun v Yn o Hn L ho hr ha hIn hx_ hE hP => ?_
  replace hs_l0 := y_Efld hE hY_this rfl (by decide) (by decide) hs_l0
  replace hs_l1 := y_Efld hE hY_this rfl (by decide) (by decide) hs_l1
  replace hs_l2 := y_Efld hE hY_this rfl (by decide) (by decide) hs_l2
  replace hs_l3 := y_Efld hE hY_this rfl (by decide) (by decide) hs_l3
  replace hs_l4 := y_Efld hE hY_this rfl (by decide) (by decide) hs_l4
  replace hs_l5 := y_Efld hE hY_this rfl (by decide) (by decide) hs_l5
  replace hs_l6 := y_Efld hE hY_this rfl (by decide) (by decide) hs_l6
  replace hs_l7 := y_Efld hE hY_this rfl (by decide) (by decide) hs_l7
  replace hs_ax := y_Efld hE hY_ld rfl (by decide) (by decide) hs_ax
  replace hs_ay := y_Efld hE hY_ld rfl (by decide) (by decide) hs_ay
  replace hs_aheight := y_Efld hE hY_ld rfl (by decide) (by decide) hs_aheight
  replace hs_adial := y_Efld hE hY_ld rfl (by decide) (by decide) hs_adial
  replace hA_ax := hA_ax.kept (y_Earr hE hY_ax rfl (by decide))
  replace hA_ay := hA_ay.kept (y_Earr hE hY_ay rfl (by decide))
  replace hA_aheight := hA_aheight.kept (y_Earr hE hY_aheight rfl (by decide))
  replace hA_adial := hA_adial.kept (y_Earr hE hY_adial rfl (by decide))
  replace hY_this := y_ext hx_ hI.1 hY_this
  replace hY_ld := y_ext hx_ hI.1 hY_ld
  replace hY_ax := y_ext hx_ hI.1 hY_ax
  replace hY_ay := y_ext hx_ hI.1 hY_ay
  replace hY_aheight := y_ext hx_ hI.1 hY_aheight
  replace hY_adial := y_ext hx_ hI.1 hY_adial
  obtain rfl := hP _ rfl
  generalize hg_r61 : (if 0 ≤ z31 then z31 else 0 - z31) = r61
  clear ho hr ha hE hP hI hx_
  rename x_I _ _ _ _ _ _ _ _ _ _ => hI
  refine lv_aload_n hx hb dwq_d64 rfl (lv_at hl 0 rfl) ?_
  refine y_getf X (fl64 X.2.2.2.2.1) hI.1 hY_this rfl hs_l3 dwq_d65 ?_
  refine y_call (z := (1, 36, 1, none, (xMm1 Lib.Math.abs.name prog_16_method_59_code))) (av := [.int z46]) (rest := [.int r61, .int e56, .ref this]) (y_cokAbs X (by decide +kernel) (x_cons (x_bw30 8 rfl rfl) (x_cons (x_bw30 9 rfl rfl) (x_cons (x_bw0 15 rfl rfl) (x_cons (x_bw30 10 rfl rfl) x_nilm)))) ⟨Nat.le_of_ble_eq_true rfl, Nat.le_of_ble_eq_true rfl⟩) hY0 hI rfl dwq_d68 hl.1 (Nat.le_of_ble_eq_true rfl) (Nat.le_of_ble_eq_true rfl) (Nat.le_of_ble_eq_true rfl) (y_cons ⟨_, rfl, x_i32 _⟩ y_nil) rfl (y_norecv rfl) trivial (y_sub_ef rfl) fun v Yn o Hn L ho hr ha hIn hx_ hE hP => ?_
  replace hs_l0 := y_Efld hE hY_this rfl (by decide) (by decide) hs_l0
  replace hs_l1 := y_Efld hE hY_this rfl (by decide) (by decide) hs_l1
  replace hs_l2 := y_Efld hE hY_this rfl (by decide) (by decide) hs_l2
  replace hs_l3 := y_Efld hE hY_this rfl (by decide) (by decide) hs_l3
  replace hs_l4 := y_Efld hE hY_this rfl (by decide) (by decide) hs_l4
  replace hs_l5 := y_Efld hE hY_this rfl (by decide) (by decide) hs_l5
  replace hs_l6 := y_Efld hE hY_this rfl (by decide) (by decide) hs_l6
  replace hs_l7 := y_Efld hE hY_this rfl (by decide) (by decide) hs_l7
  replace hs_ax := y_Efld hE hY_ld rfl (by decide) (by decide) hs_ax
  replace hs_ay := y_Efld hE hY_ld rfl (by decide) (by decide) hs_ay
  replace hs_aheight := y_Efld hE hY_ld rfl (by decide) (by decide) hs_aheight
  replace hs_adial := y_Efld hE hY_ld rfl (by decide) (by decide) hs_adial
  replace hA_ax := hA_ax.kept (y_Earr hE hY_ax rfl (by decide))
  replace hA_ay := hA_ay.kept (y_Earr hE hY_ay rfl (by decide))
  replace hA_aheight := hA_aheight.kept (y_Earr hE hY_aheight rfl (by decide))
  replace hA_adial := hA_adial.kept (y_Earr hE hY_adial rfl (by decide))
  replace hY_this := y_ext hx_ hI.1 hY_this
  replace hY_ld := y_ext hx_ hI.1 hY_ld
  replace hY_ax := y_ext hx_ hI.1 hY_ax
  replace hY_ay := y_ext hx_ hI.1 hY_ay
  replace hY_aheight := y_ext hx_ hI.1 hY_aheight
  replace hY_adial := y_ext hx_ hI.1 hY_adial
  obtain rfl := hP _ rfl
  generalize hg_r68 : (if 0 ≤ z46 then z46 else 0 - z46) = r68
  clear ho hr ha hE hP hI hx_
  rename x_I _ _ _ _ _ _ _ _ _ _ => hI
  refine y_call (z := (1, 42, 2, none, (xMm2 Lib.Math.max.name prog_16_method_65_code))) (av := [.int r61, .int r68]) (rest := [.int e56, .ref this]) (y_cokMax X (by decide +kernel) (x_cons (x_bw30 11 rfl rfl) (x_cons (x_bw30 12 rfl rfl) (x_cons (x_bw0 15 rfl rfl) (x_cons (x_bw30 13 rfl rfl) x_nilm)))) ⟨Nat.le_of_ble_eq_true rfl, Nat.le_of_ble_eq_true rfl⟩) hY0 hI rfl dwq_d71 hl.1 (Nat.le_of_ble_eq_true rfl) (Nat.le_of_ble_eq_true rfl) (Nat.le_of_ble_eq_true rfl) (y_cons ⟨_, rfl, x_i32 _⟩ (y_cons ⟨_, rfl, x_i32 _⟩ y_nil)) rfl (y_norecv rfl) trivial (y_sub_ef rfl) fun v Yn o Hn L ho hr ha hIn hx_ hE hP => ?_
  replace hs_l0 := y_Efld hE hY_this rfl (by decide) (by decide) hs_l0
  replace hs_l1 := y_Efld hE hY_this rfl (by decide) (by decide) hs_l1
  replace hs_l2 := y_Efld hE hY_this rfl (by decide) (by decide) hs_l2
  replace hs_l3 := y_Efld hE hY_this rfl (by decide) (by decide) hs_l3
  replace hs_l4 := y_Efld hE hY_this rfl (by decide) (by decide) hs_l4
  replace hs_l5 := y_Efld hE hY_this rfl (by decide) (by decide) hs_l5
  replace hs_l6 := y_Efld hE hY_this rfl (by decide) (by decide) hs_l6
  replace hs_l7 := y_Efld hE hY_this rfl (by decide) (by decide) hs_l7
  replace hs_ax := y_Efld hE hY_ld rfl (by decide) (by decide) hs_ax
  replace hs_ay := y_Efld hE hY_ld rfl (by decide) (by decide) hs_ay
  replace hs_aheight := y_Efld hE hY_ld rfl (by decide) (by decide) hs_aheight
  replace hs_adial := y_Efld hE hY_ld rfl (by decide) (by decide) hs_adial
  replace hA_ax := hA_ax.kept (y_Earr hE hY_ax rfl (by decide))
  replace hA_ay := hA_ay.kept (y_Earr hE hY_ay rfl (by decide))
  replace hA_aheight := hA_aheight.kept (y_Earr hE hY_aheight rfl (by decide))
  replace hA_adial := hA_adial.kept (y_Earr hE hY_adial rfl (by decide))
  replace hY_this := y_ext hx_ hI.1 hY_this
  replace hY_ld := y_ext hx_ hI.1 hY_ld
  replace hY_ax := y_ext hx_ hI.1 hY_ax
  replace hY_ay := y_ext hx_ hI.1 hY_ay
  replace hY_aheight := y_ext hx_ hI.1 hY_aheight
  replace hY_adial := y_ext hx_ hI.1 hY_adial
  obtain rfl := hP _ _ rfl
  generalize hg_r71 : (if r61 < r68 then r68 else r61) = r71
  clear ho hr ha hE hP hI hx_
  rename x_I _ _ _ _ _ _ _ _ _ _ => hI
  refine lv_imul hx hb dwq_d74 ?_
  generalize hg_z74 : e56 * r71 = z74
  refine y_putf X (fw71 X.2.2.2.2.1) hY0 hI hY_this rfl rfl ⟨_, rfl, x_i32 _⟩ (by decide +kernel) dwq_d75 fun H sl hI ho hs hk => ?_
  replace hs_l0 := hk _ _ (by decide +kernel) (by decide) hs_l0
  replace hs_l1 := hk _ _ (by decide +kernel) (by decide) hs_l1
  replace hs_l2 := hk _ _ (by decide +kernel) (by decide) hs_l2
  replace hs_l3 := hk _ _ (by decide +kernel) (by decide) hs_l3
  replace hs_l5 := hk _ _ (by decide +kernel) (by decide) hs_l5
  replace hs_l6 := hk _ _ (by decide +kernel) (by decide) hs_l6
  replace hs_l7 := hk _ _ (by decide +kernel) (by decide) hs_l7
  replace hs_ax := y_slk hs_ax (ho _ (y_ne hY_ld hY_this rfl))
  replace hs_ay := y_slk hs_ay (ho _ (y_ne hY_ld hY_this rfl))
  replace hs_aheight := y_slk hs_aheight (ho _ (y_ne hY_ld hY_this rfl))
  replace hs_adial := y_slk hs_adial (ho _ (y_ne hY_ld hY_this rfl))
  replace hA_ax := hA_ax.kept (ho _ (y_ne hY_ax hY_this rfl))
  replace hA_ay := hA_ay.kept (ho _ (y_ne hY_ay hY_this rfl))
  replace hA_aheight := hA_aheight.kept (ho _ (y_ne hY_aheight hY_this rfl))
  replace hA_adial := hA_adial.kept (ho _ (y_ne hY_adial hY_this rfl))
  replace hs := hs
  replace hs_l4 := hs
  refine lv_aload_n hx hb dwq_d78 rfl (lv_at hl 0 rfl) ?_
  refine lv_aload_n hx hb dwq_d79 rfl (lv_at hl 1 rfl) ?_
  refine y_getf X (fl66 X.2.2.2.2.1) hI.1 hY_ld rfl hs_aheight dwq_d80 ?_
  refine lv_iload_n hx hb dwq_d83 rfl (lv_at hl 2 rfl) ?_
  refine y_iald X hI.1 hY_aheight rfl hA_aheight (by omega) (by show _ < (10 : Int); omega) dwq_d84 ?_
  obtain ⟨e84, hg_e84⟩ : ∃ e84 : Int32, f (12 + 5 * a.toInt.toNat) = e84 := ⟨_, rfl⟩
  rw [hg_e84]
  refine y_putf X (fw72 X.2.2.2.2.1) hY0 hI hY_this rfl rfl ⟨_, rfl, x_i32 _⟩ (by decide +kernel) dwq_d85 fun H sl hI ho hs hk => ?_
  replace hs_l0 := hk _ _ (by decide +kernel) (by decide) hs_l0
  replace hs_l1 := hk _ _ (by decide +kernel) (by decide) hs_l1
  replace hs_l2 := hk _ _ (by decide +kernel) (by decide) hs_l2
  replace hs_l3 := hk _ _ (by decide +kernel) (by decide) hs_l3
  replace hs_l4 := hk _ _ (by decide +kernel) (by decide) hs_l4
  replace hs_l6 := hk _ _ (by decide +kernel) (by decide) hs_l6
  replace hs_l7 := hk _ _ (by decide +kernel) (by decide) hs_l7
  replace hs_ax := y_slk hs_ax (ho _ (y_ne hY_ld hY_this rfl))
  replace hs_ay := y_slk hs_ay (ho _ (y_ne hY_ld hY_this rfl))
  replace hs_aheight := y_slk hs_aheight (ho _ (y_ne hY_ld hY_this rfl))
  replace hs_adial := y_slk hs_adial (ho _ (y_ne hY_ld hY_this rfl))
  replace hA_ax := hA_ax.kept (ho _ (y_ne hY_ax hY_this rfl))
  replace hA_ay := hA_ay.kept (ho _ (y_ne hY_ay hY_this rfl))
  replace hA_aheight := hA_aheight.kept (ho _ (y_ne hY_aheight hY_this rfl))
  replace hA_adial := hA_adial.kept (ho _ (y_ne hY_adial hY_this rfl))
  replace hs := hs
  replace hs_l5 := hs
  refine lv_aload_n hx hb dwq_d88 rfl (lv_at hl 0 rfl) ?_
  refine lv_aload_n hx hb dwq_d89 rfl (lv_at hl 1 rfl) ?_
  refine y_getf X (fl66 X.2.2.2.2.1) hI.1 hY_ld rfl hs_aheight dwq_d90 ?_
  refine lv_iload_n hx hb dwq_d93 rfl (lv_at hl 3 rfl) ?_
  refine y_iald X hI.1 hY_aheight rfl hA_aheight (by omega) (by show _ < (10 : Int); omega) dwq_d94 ?_
  obtain ⟨e94, hg_e94⟩ : ∃ e94 : Int32, f (12 + 5 * b.toInt.toNat) = e94 := ⟨_, rfl⟩
  rw [hg_e94]
  refine y_putf X (fw73 X.2.2.2.2.1) hY0 hI hY_this rfl rfl ⟨_, rfl, x_i32 _⟩ (by decide +kernel) dwq_d95 fun H sl hI ho hs hk => ?_
  replace hs_l0 := hk _ _ (by decide +kernel) (by decide) hs_l0
  replace hs_l1 := hk _ _ (by decide +kernel) (by decide) hs_l1
  replace hs_l2 := hk _ _ (by decide +kernel) (by decide) hs_l2
  replace hs_l3 := hk _ _ (by decide +kernel) (by decide) hs_l3
  replace hs_l4 := hk _ _ (by decide +kernel) (by decide) hs_l4
  replace hs_l5 := hk _ _ (by decide +kernel) (by decide) hs_l5
  replace hs_l7 := hk _ _ (by decide +kernel) (by decide) hs_l7
  replace hs_ax := y_slk hs_ax (ho _ (y_ne hY_ld hY_this rfl))
  replace hs_ay := y_slk hs_ay (ho _ (y_ne hY_ld hY_this rfl))
  replace hs_aheight := y_slk hs_aheight (ho _ (y_ne hY_ld hY_this rfl))
  replace hs_adial := y_slk hs_adial (ho _ (y_ne hY_ld hY_this rfl))
  replace hA_ax := hA_ax.kept (ho _ (y_ne hY_ax hY_this rfl))
  replace hA_ay := hA_ay.kept (ho _ (y_ne hY_ay hY_this rfl))
  replace hA_aheight := hA_aheight.kept (ho _ (y_ne hY_aheight hY_this rfl))
  replace hA_adial := hA_adial.kept (ho _ (y_ne hY_adial hY_this rfl))
  replace hs := hs
  replace hs_l6 := hs
  refine lv_aload_n hx hb dwq_d98 rfl (lv_at hl 0 rfl) ?_
  refine lv_aload_n hx hb dwq_d99 rfl (lv_at hl 0 rfl) ?_
  refine y_getf X (fl63 X.2.2.2.2.1) hI.1 hY_this rfl hs_l2 dwq_d100 ?_
  refine lv_aload_n hx hb dwq_d103 rfl (lv_at hl 0 rfl) ?_
  refine y_getf X (fl63 X.2.2.2.2.1) hI.1 hY_this rfl hs_l2 dwq_d104 ?_
  refine lv_imul hx hb dwq_d107 ?_
  generalize hg_z107 : z31 * z31 = z107
  refine lv_aload_n hx hb dwq_d108 rfl (lv_at hl 0 rfl) ?_
  refine y_getf X (fl64 X.2.2.2.2.1) hI.1 hY_this rfl hs_l3 dwq_d109 ?_
  refine lv_aload_n hx hb dwq_d112 rfl (lv_at hl 0 rfl) ?_
  refine y_getf X (fl64 X.2.2.2.2.1) hI.1 hY_this rfl hs_l3 dwq_d113 ?_
  refine lv_imul hx hb dwq_d116 ?_
  generalize hg_z116 : z46 * z46 = z116
  refine lv_iadd hx hb dwq_d117 ?_
  generalize hg_z117 : z107 + z116 = z117
  refine y_putf X (fw74 X.2.2.2.2.1) hY0 hI hY_this rfl rfl ⟨_, rfl, x_i32 _⟩ (by decide +kernel) dwq_d118 fun H sl hI ho hs hk => ?_
  replace hs_l0 := hk _ _ (by decide +kernel) (by decide) hs_l0
  replace hs_l1 := hk _ _ (by decide +kernel) (by decide) hs_l1
  replace hs_l2 := hk _ _ (by decide +kernel) (by decide) hs_l2
  replace hs_l3 := hk _ _ (by decide +kernel) (by decide) hs_l3
  replace hs_l4 := hk _ _ (by decide +kernel) (by decide) hs_l4
  replace hs_l5 := hk _ _ (by decide +kernel) (by decide) hs_l5
  replace hs_l6 := hk _ _ (by decide +kernel) (by decide) hs_l6
  replace hs_ax := y_slk hs_ax (ho _ (y_ne hY_ld hY_this rfl))
  replace hs_ay := y_slk hs_ay (ho _ (y_ne hY_ld hY_this rfl))
  replace hs_aheight := y_slk hs_aheight (ho _ (y_ne hY_ld hY_this rfl))
  replace hs_adial := y_slk hs_adial (ho _ (y_ne hY_ld hY_this rfl))
  replace hA_ax := hA_ax.kept (ho _ (y_ne hY_ax hY_this rfl))
  replace hA_ay := hA_ay.kept (ho _ (y_ne hY_ay hY_this rfl))
  replace hA_aheight := hA_aheight.kept (ho _ (y_ne hY_aheight hY_this rfl))
  replace hA_adial := hA_adial.kept (ho _ (y_ne hY_adial hY_this rfl))
  replace hs := hs
  replace hs_l7 := hs
  replace hg_r61 : m_abs z31 = r61 := hg_r61
  replace hg_r68 : m_abs z46 = r68 := hg_r68
  replace hg_r71 : m_max r61 r68 = r71 := hg_r71
  subst hg_e6
  subst hg_e16
  subst hg_e26
  subst hg_z31
  subst hg_e41
  subst hg_z46
  subst hg_e56
  subst hg_r61
  subst hg_r68
  subst hg_r71
  subst hg_z74
  subst hg_e84
  subst hg_e94
  subst hg_z107
  subst hg_z116
  subst hg_z117
  exact y_return B hI rfl rfl List.mem_cons_self rfl (x_cs.mono B.2.2.2.2.2 (y_mon B hI)) (fun t' q' a' b' f' h1 h2 => by cases h1; cases h2.uniq hL0; refine ⟨fun k hk => ?_, fun k hk => ?_⟩; (rcases (by omega : k = 0 ∨ k = 1 ∨ k = 2 ∨ k = 3 ∨ k = 4 ∨ k = 5 ∨ k = 6 ∨ k = 7) with rfl | rfl | rfl | rfl | rfl | rfl | rfl | rfl; exact hs_l0; exact hs_l1; exact hs_l2; exact hs_l3; exact hs_l4; exact hs_l5; exact hs_l6; exact hs_l7); (match k, hk with | k + 8, _ => rfl)) (Nat.le_refl _) (Nat.le_refl _) dwq_d121

