theorem fl209 {s : State} {args : Array Value} (hts : ∀ w ∈ x_Tb, w.before args s = true) : x_fok vwCl x_G x_Tb s args "TwinFiresModel" (41, 17, 19) := ⟨12, _, RX12, TX12, "TwinFiresModel", rfl, rfl, Nat.le_of_ble_eq_true rfl, iX12, (hts _ (x_bw63 6 rfl rfl)), fun x h => h⟩
theorem fl210 {s : State} {args : Array Value} (hts : ∀ w ∈ x_Tb, w.before args s = true) : x_fok vwCl x_G x_Tb s args "TwinFiresModel" (44, 17, 20) := ⟨12, _, RX12, TX12, "TwinFiresModel", rfl, rfl, Nat.le_of_ble_eq_true rfl, iX12, (hts _ (x_bw63 7 rfl rfl)), fun x h => h⟩
def xMsp : xM := (⟨"TwinFiresModel", "spreads", "(I)V"⟩, prog_14_method_57_code, 6, none, [xR false [17], xI 0 1023], [([xR false [17], xI 0 1023], none)], [(56, 0), (57, 0)], (2, 44, 0, 0), none)
theorem z_stepR {v : Option Value} {a b : Int32} (h : (v = some (.int 1) ∧ z_step a b) ∨ (v = some (.int 0) ∧ ¬ z_step a b)) : ∃ r : Int32, v = some (.int r) ∧ (¬ r = 0 → z_step a b) ∧ (r = 0 → ¬ z_step a b) := by
  rcases h with ⟨h1, h2⟩ | ⟨h1, h2⟩
  · exact ⟨1, h1, fun _ => h2, fun q => absurd q (by decide)⟩
  · exact ⟨0, h1, fun q => absurd rfl q, fun _ => h2⟩
def z_cnt (f : Nat → Int32) : Nat → Nat
  | 0 => 0
  | n + 1 => z_cnt f n + (if (f n).toInt = -1 then 0 else 1)
theorem z_cnt_le (f : Nat → Int32) : ∀ n, z_cnt f n ≤ n
  | 0 => Nat.le_refl _
  | n + 1 => by
    have := z_cnt_le f n
    unfold z_cnt
    split <;> omega
theorem z_cnt_lt {f : Nat → Int32} {j : Nat} (h : (f j).toInt = -1) : ∀ n, j < n → z_cnt f n < n
  | 0, hj => absurd hj (Nat.not_lt_zero _)
  | n + 1, hj => by
    unfold z_cnt
    by_cases e0 : j = n
    · subst e0
      rw [if_pos h]
      have := z_cnt_le f j
      omega
    · have := z_cnt_lt h n (by omega)
      split <;> omega
theorem z_cnt_pos {f : Nat → Int32} {j : Nat} (h : ¬ (f j).toInt = -1) : ∀ n, j < n → 1 ≤ z_cnt f n
  | 0, hj => absurd hj (Nat.not_lt_zero _)
  | n + 1, hj => by
    unfold z_cnt
    by_cases e0 : j = n
    · subst e0
      rw [if_neg h]
      omega
    · have := z_cnt_pos h n (by omega)
      omega
theorem z_cnt_same {f : Nat → Int32} {j : Nat} {v : Int32} : ∀ n, n ≤ j → z_cnt (y_up f j v) n = z_cnt f n
  | 0, _ => rfl
  | n + 1, hj => by
    unfold z_cnt
    rw [z_cnt_same n (by omega), y_up_ne (by omega)]
theorem z_cnt_up {f : Nat → Int32} {j : Nat} {v : Int32} (h : (f j).toInt = -1) (hv : ¬ v.toInt = -1) : ∀ n, j < n → z_cnt (y_up f j v) n = z_cnt f n + 1
  | 0, hj => absurd hj (Nat.not_lt_zero _)
  | n + 1, hj => by
    unfold z_cnt
    by_cases e0 : j = n
    · subst e0
      rw [z_cnt_same j (Nat.le_refl _), y_up_at, if_neg hv, if_pos h]
    · rw [z_cnt_up h hv n (by omega), y_up_ne (fun e1 => e0 e1.symm)]
      omega
def z_Pr (N1 : Int) (gl ff : Nat → Int32) : Prop := ∀ s : Int32, 0 ≤ s.toInt → s.toInt ≤ N1 → 0 < (ff s.toInt.toNat).toInt → ∃ p : Int32, 0 ≤ p.toInt ∧ p.toInt ≤ N1 ∧ ¬ gl p.toInt.toNat = 0 ∧ (ff p.toInt.toNat).toInt = (ff s.toInt.toNat).toInt - 1 ∧ z_step p s
def z_J (good : Prop) (N1 : Int) (gl ff qq : Nat → Int32) (fr : Int32) (tail : Int) : Prop :=
  1 ≤ tail ∧ tail ≤ (z_cnt ff 1024 : Int) ∧ (ff fr.toInt.toNat).toInt = 0 ∧
  (∀ j : Nat, (j : Int) < tail → 0 ≤ (qq j).toInt ∧ (qq j).toInt ≤ 1023 ∧ 0 ≤ (ff (qq j).toInt.toNat).toInt ∧ (ff (qq j).toInt.toNat).toInt ≤ j) ∧ (good → (∀ j : Nat, (j : Int) < tail → (qq j).toInt ≤ N1 ∧ ¬ gl (qq j).toInt.toNat = 0) ∧ z_Pr N1 gl ff)
theorem z_J.room {good : Prop} {N1 : Int} {gl ff qq : Nat → Int32} {fr : Int32} {tail : Int} (h : z_J good N1 gl ff qq fr tail) {to : Int32} (h0 : 0 ≤ to.toInt) (h1 : to.toInt < 1024) (hm : (ff to.toInt.toNat).toInt = -1) : tail < 1024 := by
  have h2 := h.2.1
  have := z_cnt_lt hm 1024 (by omega)
  omega
theorem z_J.push {good : Prop} {N1 : Int} {gl ff qq : Nat → Int32} {fr : Int32} {tail : Int} (h : z_J good N1 gl ff qq fr tail) (hN : N1 ≤ 1023) {to v : Int32} (h0 : 0 ≤ to.toInt) (h1 : to.toInt ≤ N1) (hm : (ff to.toInt.toNat).toInt = -1) (hg : ¬ gl to.toInt.toNat = 0) {hd : Nat} (hh : (hd : Int) < tail) (hv : v.toInt = (ff (qq hd).toInt.toNat).toInt + 1) (hs : z_step (qq hd) to) (hf0 : 0 ≤ fr.toInt) :
    z_J good N1 gl (y_up ff to.toInt.toNat v) (y_up qq tail.toNat to) fr (tail + 1) := by
  obtain ⟨a1, a2, a3, a4, a5⟩ := h
  have hq := a4 hd hh
  have hv1 : ¬ v.toInt = -1 := by omega
  have hne : ∀ s : Int32, 0 ≤ s.toInt → 0 ≤ (ff s.toInt.toNat).toInt → s.toInt.toNat ≠ to.toInt.toNat := fun s _ hs e0 => by rw [e0, hm] at hs; omega
  refine ⟨by omega, ?_, ?_, fun j hj => ?_, fun good => ⟨fun j hj => ?_, fun s s0 s1 s2 => ?_⟩⟩
  · rw [z_cnt_up hm hv1 1024 (by omega)]
    omega
  · rw [y_up_ne (hne fr hf0 (by omega))]; exact a3
  · by_cases ej : j = tail.toNat
    · subst ej
      rw [y_up_at, y_up_at]
      exact ⟨h0, by omega, by omega, by omega⟩
    · rw [y_up_ne ej]
      have hj4 := a4 j (by omega)
      rw [y_up_ne (hne _ hj4.1 hj4.2.2.1)]
      exact hj4
  · by_cases ej : j = tail.toNat
    · subst ej
      rw [y_up_at]
      exact ⟨h1, hg⟩
    · rw [y_up_ne ej]
      exact (a5 good).1 j (by omega)
  · have hq2 := (a5 good).1 hd hh
    by_cases es : s.toInt.toNat = to.toInt.toNat
    · have e1 : s = to := Int32.toInt_inj.mp (by omega)
      subst e1
      rw [y_up_at]
      refine ⟨qq hd, hq.1, hq2.1, hq2.2, ?_, hs⟩
      rw [y_up_ne (hne _ hq.1 hq.2.2.1)]
      omega
    · rw [y_up_ne es] at s2 ⊢
      obtain ⟨p, p0, p1, p2, p3, p4⟩ := (a5 good).2 s s0 s1 s2
      refine ⟨p, p0, p1, p2, ?_, p4⟩
      rw [y_up_ne (hne p p0 (by omega))]
      exact p3
theorem z_J.start {N1 : Int} {gl ff qq : Nat → Int32} {fr : Int32} (hN : N1 ≤ 1023) (h0 : 0 ≤ fr.toInt) (h1 : fr.toInt ≤ 1023) (hf : ∀ s : Nat, (s : Int) ≤ N1 → (ff s).toInt = -1) {z : Int32} (hz : z.toInt = 0) : z_J (fr.toInt ≤ N1 ∧ ¬ gl fr.toInt.toNat = 0) N1 gl (y_up ff fr.toInt.toNat z) (y_up qq 0 fr) fr 1 := by
  refine ⟨by omega, ?_, by rw [y_up_at]; exact hz, fun j hj => ?_, fun good => ⟨fun j hj => ?_, fun s s0 s1 s2 => ?_⟩⟩
  · have := z_cnt_pos (f := y_up ff fr.toInt.toNat z) (j := fr.toInt.toNat) (by rw [y_up_at]; omega) 1024 (by omega)
    omega
  · have e0 : j = 0 := by omega
    subst e0
    rw [y_up_at, y_up_at]
    exact ⟨h0, h1, by omega, by omega⟩
  · have e0 : j = 0 := by omega
    subst e0
    rw [y_up_at]
    exact good
  · by_cases es : s.toInt.toNat = fr.toInt.toNat
    · rw [es, y_up_at] at s2; omega
    · rw [y_up_ne es, hf _ (by omega)] at s2; omega
def z_Pspreads : yP := fun D av Y H v Y' H' => ∀ (this fr lw bk : Nat) (fm : Int32) (gl fb : Nat → Int32), av = [.ref this, .int fm] → x_sl D 12 0 this H = some (.ref bk) → y_A bk 160 H fb → x_sl D 12 18 this H = some (.ref lw) → y_A lw 1024 H gl → x_sl D 12 19 this H = some (.ref fr) → fm.toInt ≤ (z_all (fb 0)).toInt → ¬ gl fm.toInt.toNat = 0 →
  ∃ ff : Nat → Int32, y_A fr 1024 H' ff ∧ (ff fm.toInt.toNat).toInt = 0 ∧ z_Pr (z_all (fb 0)).toInt gl ff
theorem sp_d0 : decode xMsp.2.1 0 = .ok (.iconst 0, 1) := dz_ok (by decide +kernel)
theorem sp_d1 : decode xMsp.2.1 1 = .ok (.istore_n 2, 1) := dz_ok (by decide +kernel)
theorem sp_d2 : decode xMsp.2.1 2 = .ok (.iload_n 2, 1) := dz_ok (by decide +kernel)
theorem sp_d3 : decode xMsp.2.1 3 = .ok (.aload_n 0, 1) := dz_ok (by decide +kernel)
theorem sp_d4 : decode xMsp.2.1 4 = .ok (.invokevirtual 91, 3) := dz_ok (by decide +kernel)
theorem sp_d7 : decode xMsp.2.1 7 = .ok (.if_icmp .gt 16, 3) := dz_ok (by decide +kernel)
theorem sp_d10 : decode xMsp.2.1 10 = .ok (.aload_n 0, 1) := dz_ok (by decide +kernel)
theorem sp_d11 : decode xMsp.2.1 11 = .ok (.getfield 41, 3) := dz_ok (by decide +kernel)
theorem sp_d14 : decode xMsp.2.1 14 = .ok (.iload_n 2, 1) := dz_ok (by decide +kernel)
theorem sp_d15 : decode xMsp.2.1 15 = .ok (.iconst (-1), 1) := dz_ok (by decide +kernel)
theorem sp_d16 : decode xMsp.2.1 16 = .ok (.iastore, 1) := dz_ok (by decide +kernel)
theorem sp_d17 : decode xMsp.2.1 17 = .ok (.iinc 2 1, 3) := dz_ok (by decide +kernel)
theorem sp_d20 : decode xMsp.2.1 20 = .ok (.goto (-18), 3) := dz_ok (by decide +kernel)
theorem sp_d23 : decode xMsp.2.1 23 = .ok (.aload_n 0, 1) := dz_ok (by decide +kernel)
theorem sp_d24 : decode xMsp.2.1 24 = .ok (.getfield 41, 3) := dz_ok (by decide +kernel)
theorem sp_d27 : decode xMsp.2.1 27 = .ok (.iload_n 1, 1) := dz_ok (by decide +kernel)
theorem sp_d28 : decode xMsp.2.1 28 = .ok (.iconst 0, 1) := dz_ok (by decide +kernel)
theorem sp_d29 : decode xMsp.2.1 29 = .ok (.iastore, 1) := dz_ok (by decide +kernel)
theorem sp_d30 : decode xMsp.2.1 30 = .ok (.aload_n 0, 1) := dz_ok (by decide +kernel)
theorem sp_d31 : decode xMsp.2.1 31 = .ok (.getfield 44, 3) := dz_ok (by decide +kernel)
theorem sp_d34 : decode xMsp.2.1 34 = .ok (.iconst 0, 1) := dz_ok (by decide +kernel)
theorem sp_d35 : decode xMsp.2.1 35 = .ok (.iload_n 1, 1) := dz_ok (by decide +kernel)
theorem sp_d36 : decode xMsp.2.1 36 = .ok (.iastore, 1) := dz_ok (by decide +kernel)
theorem sp_d37 : decode xMsp.2.1 37 = .ok (.iconst 0, 1) := dz_ok (by decide +kernel)
theorem sp_d38 : decode xMsp.2.1 38 = .ok (.istore_n 2, 1) := dz_ok (by decide +kernel)
theorem sp_d39 : decode xMsp.2.1 39 = .ok (.iconst 1, 1) := dz_ok (by decide +kernel)
theorem sp_d40 : decode xMsp.2.1 40 = .ok (.istore_n 3, 1) := dz_ok (by decide +kernel)
theorem sp_d41 : decode xMsp.2.1 41 = .ok (.iload_n 2, 1) := dz_ok (by decide +kernel)
theorem sp_d42 : decode xMsp.2.1 42 = .ok (.iload_n 3, 1) := dz_ok (by decide +kernel)
theorem sp_d43 : decode xMsp.2.1 43 = .ok (.if_icmp .ge 93, 3) := dz_ok (by decide +kernel)
theorem sp_d46 : decode xMsp.2.1 46 = .ok (.aload_n 0, 1) := dz_ok (by decide +kernel)
theorem sp_d47 : decode xMsp.2.1 47 = .ok (.getfield 44, 3) := dz_ok (by decide +kernel)
theorem sp_d50 : decode xMsp.2.1 50 = .ok (.iload_n 2, 1) := dz_ok (by decide +kernel)
theorem sp_d51 : decode xMsp.2.1 51 = .ok (.iaload, 1) := dz_ok (by decide +kernel)
theorem sp_d52 : decode xMsp.2.1 52 = .ok (.istore 4, 2) := dz_ok (by decide +kernel)
theorem sp_d54 : decode xMsp.2.1 54 = .ok (.iinc 2 1, 3) := dz_ok (by decide +kernel)
theorem sp_d57 : decode xMsp.2.1 57 = .ok (.iconst 0, 1) := dz_ok (by decide +kernel)
theorem sp_d58 : decode xMsp.2.1 58 = .ok (.istore 5, 2) := dz_ok (by decide +kernel)
theorem sp_d60 : decode xMsp.2.1 60 = .ok (.iload 5, 2) := dz_ok (by decide +kernel)
theorem sp_d62 : decode xMsp.2.1 62 = .ok (.aload_n 0, 1) := dz_ok (by decide +kernel)
theorem sp_d63 : decode xMsp.2.1 63 = .ok (.invokevirtual 91, 3) := dz_ok (by decide +kernel)
theorem sp_d66 : decode xMsp.2.1 66 = .ok (.if_icmp .gt 67, 3) := dz_ok (by decide +kernel)
theorem sp_d69 : decode xMsp.2.1 69 = .ok (.aload_n 0, 1) := dz_ok (by decide +kernel)
theorem sp_d70 : decode xMsp.2.1 70 = .ok (.getfield 38, 3) := dz_ok (by decide +kernel)
theorem sp_d73 : decode xMsp.2.1 73 = .ok (.iload 5, 2) := dz_ok (by decide +kernel)
theorem sp_d75 : decode xMsp.2.1 75 = .ok (.baload, 1) := dz_ok (by decide +kernel)
theorem sp_d76 : decode xMsp.2.1 76 = .ok (.ifCond .eq 51, 3) := dz_ok (by decide +kernel)
theorem sp_d79 : decode xMsp.2.1 79 = .ok (.aload_n 0, 1) := dz_ok (by decide +kernel)
theorem sp_d80 : decode xMsp.2.1 80 = .ok (.getfield 41, 3) := dz_ok (by decide +kernel)
theorem sp_d83 : decode xMsp.2.1 83 = .ok (.iload 5, 2) := dz_ok (by decide +kernel)
theorem sp_d85 : decode xMsp.2.1 85 = .ok (.iaload, 1) := dz_ok (by decide +kernel)
theorem sp_d86 : decode xMsp.2.1 86 = .ok (.iconst (-1), 1) := dz_ok (by decide +kernel)
theorem sp_d87 : decode xMsp.2.1 87 = .ok (.if_icmp .ne 40, 3) := dz_ok (by decide +kernel)
theorem sp_d90 : decode xMsp.2.1 90 = .ok (.iload 4, 2) := dz_ok (by decide +kernel)
theorem sp_d92 : decode xMsp.2.1 92 = .ok (.iload 5, 2) := dz_ok (by decide +kernel)
theorem sp_d94 : decode xMsp.2.1 94 = .ok (.invokestatic 257, 3) := dz_ok (by decide +kernel)
theorem sp_d97 : decode xMsp.2.1 97 = .ok (.ifCond .eq 30, 3) := dz_ok (by decide +kernel)
theorem sp_d100 : decode xMsp.2.1 100 = .ok (.aload_n 0, 1) := dz_ok (by decide +kernel)
theorem sp_d101 : decode xMsp.2.1 101 = .ok (.getfield 41, 3) := dz_ok (by decide +kernel)
theorem sp_d104 : decode xMsp.2.1 104 = .ok (.iload 5, 2) := dz_ok (by decide +kernel)
theorem sp_d106 : decode xMsp.2.1 106 = .ok (.aload_n 0, 1) := dz_ok (by decide +kernel)
theorem sp_d107 : decode xMsp.2.1 107 = .ok (.getfield 41, 3) := dz_ok (by decide +kernel)
theorem sp_d110 : decode xMsp.2.1 110 = .ok (.iload 4, 2) := dz_ok (by decide +kernel)
theorem sp_d112 : decode xMsp.2.1 112 = .ok (.iaload, 1) := dz_ok (by decide +kernel)
theorem sp_d113 : decode xMsp.2.1 113 = .ok (.iconst 1, 1) := dz_ok (by decide +kernel)
theorem sp_d114 : decode xMsp.2.1 114 = .ok (.iadd, 1) := dz_ok (by decide +kernel)
theorem sp_d115 : decode xMsp.2.1 115 = .ok (.iastore, 1) := dz_ok (by decide +kernel)
theorem sp_d116 : decode xMsp.2.1 116 = .ok (.aload_n 0, 1) := dz_ok (by decide +kernel)
theorem sp_d117 : decode xMsp.2.1 117 = .ok (.getfield 44, 3) := dz_ok (by decide +kernel)
theorem sp_d120 : decode xMsp.2.1 120 = .ok (.iload_n 3, 1) := dz_ok (by decide +kernel)
theorem sp_d121 : decode xMsp.2.1 121 = .ok (.iload 5, 2) := dz_ok (by decide +kernel)
theorem sp_d123 : decode xMsp.2.1 123 = .ok (.iastore, 1) := dz_ok (by decide +kernel)
theorem sp_d124 : decode xMsp.2.1 124 = .ok (.iinc 3 1, 3) := dz_ok (by decide +kernel)
theorem sp_d127 : decode xMsp.2.1 127 = .ok (.iinc 5 1, 3) := dz_ok (by decide +kernel)
theorem sp_d130 : decode xMsp.2.1 130 = .ok (.goto (-70), 3) := dz_ok (by decide +kernel)
theorem sp_d133 : decode xMsp.2.1 133 = .ok (.goto (-92), 3) := dz_ok (by decide +kernel)
theorem sp_d136 : decode xMsp.2.1 136 = .ok (.return_, 1) := dz_ok (by decide +kernel)
theorem sp_in {p : Program} {l : Launch} {e : Env} {s : State} {m : MethodId} {below : List Frame} {meth : Method} {c : Code} {D : va_G} {U : State} {Y0 : xY} {av : List Value} (B : y_B vwCl x_Tb x_Nb xMsp p s m meth c D U Y0 av) {this fr qu lw bk : Nat} {fm : Int32} {gl fb : Nat → Int32} (hav : av = [.ref this, .int fm]) (hN : 0 ≤ (z_all (fb 0)).toInt ∧ (z_all (fb 0)).toInt ≤ 1023) (hfm : 0 ≤ fm.toInt ∧ fm.toInt ≤ 1023) (hB_lw : ∀ j, j < 1024 → (0 : Int) ≤ (gl j).toInt ∧ (gl j).toInt ≤ 1) {set head : Int32} {hd : Nat} (hset0 : 0 ≤ set.toInt ∧ set.toInt ≤ 1023)
    (out : ∀ (H : Heap) (Y : xY) (locs : List Loc) (ls : Array Slot) (tail : Int32) (ff qq : Nat → Int32), x_I D x_G x_Zs U (x_efs xMsp) Y0 s.heap Y H locs → Y this = some 17 → Y fr = some 56 → Y qu = some 57 → Y lw = some 55 → Y bk = some 46 → x_sl D 12 19 this H = some (.ref fr) → x_sl D 12 20 this H = some (.ref qu) → x_sl D 12 18 this H = some (.ref lw) → x_sl D 12 0 this H = some (.ref bk) → y_A fr 1024 H ff → y_A qu 1024 H qq → y_A lw 1024 H gl → y_A bk 160 H fb → lv_has ls xMsp.2.2.1 [(3, .int tail), (2, .int head), (0, .ref this), (1, .int fm)] → (∀ j, j < 1024 → (0 : Int) ≤ (qq j).toInt ∧ (qq j).toInt ≤ 1023) → z_J (fm.toInt ≤ (z_all (fb 0)).toInt ∧ ¬ gl fm.toInt.toNat = 0) (z_all (fb 0)).toInt gl ff qq fm tail.toInt → W p l e (x_rm xMsp) s m av.toArray below meth c H locs 0 0 (y_QQ below D x_G x_Zs U xMsp z_Pspreads av Y0 s) (F0 m 41 ls [])) :
    ∀ (n : Nat) (H : Heap) (Y : xY) (locs : List Loc) (ls : Array Slot) (tail to : Int32) (ff qq : Nat → Int32), x_I D x_G x_Zs U (x_efs xMsp) Y0 s.heap Y H locs → Y this = some 17 → Y fr = some 56 → Y qu = some 57 → Y lw = some 55 → Y bk = some 46 → x_sl D 12 19 this H = some (.ref fr) → x_sl D 12 20 this H = some (.ref qu) → x_sl D 12 18 this H = some (.ref lw) → x_sl D 12 0 this H = some (.ref bk) → y_A fr 1024 H ff → y_A qu 1024 H qq → y_A lw 1024 H gl → y_A bk 160 H fb → lv_has ls xMsp.2.2.1 [(5, .int to), (4, .int set), (2, .int head), (3, .int tail), (0, .ref this), (1, .int fm)] → (∀ j, j < 1024 → (0 : Int) ≤ (qq j).toInt ∧ (qq j).toInt ≤ 1023) → z_J (fm.toInt ≤ (z_all (fb 0)).toInt ∧ ¬ gl fm.toInt.toNat = 0) (z_all (fb 0)).toInt gl ff qq fm tail.toInt → set = qq hd → (hd : Int) < tail.toInt → 0 ≤ to.toInt → to.toInt ≤ 1024 → (1024 - to.toInt).toNat < n → W p l e (x_rm xMsp) s m av.toArray below meth c H locs 0 0 (y_QQ below D x_G x_Zs U xMsp z_Pspreads av Y0 s) (F0 m 60 ls []) := by
  have X := B.1
  have hx := X.1
  have hb := X.2.1
  have hY0 := B.2.2.2.2.1
  intro n
  induction n with
  | zero => intro H Y locs ls tail to ff qq _ _ _ _ _ _ _ _ _ _ _ _ _ _ _ _ _ _ _ _ _ h; exact absurd h (Nat.not_lt_zero _)
  | succ n ih =>
    intro H Y locs ls tail to ff qq hI hY_this hY_fr hY_qu hY_lw hY_bk hs_far hs_queue hs_laws hs_book hA_fr hA_qu hA_lw hA_bk hl hB_qu hJ hset hhd h_to0 h_to1 hn
    have hB_fr := ()
    have hB_bk := ()
    have hJ1 := hJ.1
    have hJ2 : tail.toInt ≤ 1024 := Int.le_trans hJ.2.1 (Int.ofNat_le.mpr (z_cnt_le ff 1024))
    refine lv_iload hx hb sp_d60 (lv_at hl 0 rfl) ?_
    refine lv_aload_n hx hb sp_d62 rfl (lv_at hl 4 rfl) ?_
    refine y_call (z := (0, 91, 1, some 17, xM182)) (av := [.ref this]) (rest := [.int to]) (y_cokV (n := 0) (ci := 12) X ym_all rfl rfl rfl (x_cons (x_bw77 4 rfl rfl) (x_cons (x_bw77 6 rfl rfl) (x_cons (x_at 49 (by decide +kernel) rfl) (x_cons (x_bw0 9 rfl rfl) x_nilm)))) (x_bw77 7 rfl rfl) (by decide +kernel) ⟨Nat.le_of_ble_eq_true rfl, Nat.le_of_ble_eq_true rfl⟩) hY0 hI rfl sp_d63 hl.1 (Nat.le_of_ble_eq_true rfl) (Nat.le_of_ble_eq_true rfl) (Nat.le_of_ble_eq_true rfl) (y_cons (y_cref hY_this rfl) y_nil) rfl (y_recv rfl hY_this) trivial (y_sub_ef rfl) fun v Yn o Hn L ho hr ha hIn hx_ hE hP => ?_
    have hPv := hP _ _ _ rfl hs_book (hA_bk 0 (by decide))
    replace hs_far := y_Efld hE hY_this rfl (by decide) (by decide) hs_far
    replace hs_queue := y_Efld hE hY_this rfl (by decide) (by decide) hs_queue
    replace hs_laws := y_Efld hE hY_this rfl (by decide) (by decide) hs_laws
    replace hs_book := y_Efld hE hY_this rfl (by decide) (by decide) hs_book
    replace hA_fr := hA_fr.kept (y_Earr hE hY_fr rfl (by decide))
    replace hA_qu := hA_qu.kept (y_Earr hE hY_qu rfl (by decide))
    replace hA_lw := hA_lw.kept (y_Earr hE hY_lw rfl (by decide))
    replace hA_bk := hA_bk.kept (y_Earr hE hY_bk rfl (by decide))
    replace hY_this := y_ext hx_ hI.1 hY_this
    replace hY_fr := y_ext hx_ hI.1 hY_fr
    replace hY_qu := y_ext hx_ hI.1 hY_qu
    replace hY_lw := y_ext hx_ hI.1 hY_lw
    replace hY_bk := y_ext hx_ hI.1 hY_bk
    obtain rfl := hPv
    clear ho hr ha hE hP hI hx_
    rename x_I _ _ _ _ _ _ _ _ _ _ => hI
    refine lv_icmp_gt hx hb sp_d66 (tgt := 133) (by decide) (fun q66 => ?_) (fun q66 => ?_)
    · have q66_ : (z_all (fb 0)).toInt < to.toInt := x_lt32.mp q66
      refine lv_goto hx hb sp_d133 (tgt := 41) (by decide) ?_
      exact out _ _ _ _ _ _ _ hI hY_this hY_fr hY_qu hY_lw hY_bk hs_far hs_queue hs_laws hs_book hA_fr hA_qu hA_lw hA_bk (lv_sub hl [3, 2, 4, 5] rfl) hB_qu hJ
    · have q66_ : to.toInt ≤ (z_all (fb 0)).toInt := Int.not_lt.mp fun q => q66 (x_lt32.mpr q)
      refine lv_aload_n hx hb sp_d69 rfl (lv_at hl 4 rfl) ?_
      refine y_getf X (fl200 X.2.2.2.2.1) hI.1 hY_this rfl hs_laws sp_d70 ?_
      refine lv_iload hx hb sp_d73 (lv_at hl 0 rfl) ?_
      refine y_zald X hI.1 hY_lw rfl hA_lw (by omega) (by show _ < (1024 : Int); omega) sp_d75 ?_
      obtain ⟨e75, hg_e75⟩ : ∃ e75 : Int32, gl to.toInt.toNat = e75 := ⟨_, rfl⟩
      rw [hg_e75]
      have h_e75 : (0 : Int) ≤ e75.toInt ∧ e75.toInt ≤ 1 := by rw [← hg_e75]; exact hB_lw _ (by omega)
      have ec0 : (0 : Int32).toInt = 0 := by decide
      refine lv_if_eq hx hb sp_d76 (tgt := 127) (by decide) (fun q76 => ?_) (fun q76 => ?_)
      · have q76_ : e75.toInt = (0 : Int32).toInt := by rw [q76]
        obtain ⟨z127, hg_z127⟩ : ∃ z127 : Int32, to + Int32.ofInt 1 = z127 := ⟨_, rfl⟩
        have h_z127 : z127.toInt = to.toInt + 1 := by rw [← hg_z127]; exact y_inc (by decide) (by omega) (by omega)
        refine lv_iinc hx hb sp_d127 hl (k := 0) rfl hg_z127 (by decide) (lv' := [(5, .int z127), (4, .int set), (2, .int head), (3, .int tail), (0, .ref this), (1, .int fm)]) rfl fun ls hl => ?_
        refine lv_goto hx hb sp_d130 (tgt := 60) (by decide) ?_
        exact ih _ _ _ _ _ _ _ _ hI hY_this hY_fr hY_qu hY_lw hY_bk hs_far hs_queue hs_laws hs_book hA_fr hA_qu hA_lw hA_bk hl hB_qu hJ hset hhd (by omega) (by omega) (by omega)
      · have q76_ : ¬ e75.toInt = (0 : Int32).toInt := fun q => q76 (Int32.toInt_inj.mp q)
        refine lv_aload_n hx hb sp_d79 rfl (lv_at hl 4 rfl) ?_
        refine y_getf X (fl209 X.2.2.2.2.1) hI.1 hY_this rfl hs_far sp_d80 ?_
        refine lv_iload hx hb sp_d83 (lv_at hl 0 rfl) ?_
        refine y_iald X hI.1 hY_fr rfl hA_fr (by omega) (by show _ < (1024 : Int); omega) sp_d85 ?_
        obtain ⟨e85, hg_e85⟩ : ∃ e85 : Int32, ff to.toInt.toNat = e85 := ⟨_, rfl⟩
        rw [hg_e85]
        refine lv_iconst hx hb sp_d86 (v := (-1)) (by decide) ?_
        have ecm1 : ((-1) : Int32).toInt = (-1) := by decide
        refine lv_icmp_ne hx hb sp_d87 (tgt := 127) (by decide) (fun q87 => ?_) (fun q87 => ?_)
        · have q87_ : ¬ e85.toInt = ((-1) : Int32).toInt := fun q => q87 (Int32.toInt_inj.mp q)
          obtain ⟨z127, hg_z127⟩ : ∃ z127 : Int32, to + Int32.ofInt 1 = z127 := ⟨_, rfl⟩
          have h_z127 : z127.toInt = to.toInt + 1 := by rw [← hg_z127]; exact y_inc (by decide) (by omega) (by omega)
          refine lv_iinc hx hb sp_d127 hl (k := 0) rfl hg_z127 (by decide) (lv' := [(5, .int z127), (4, .int set), (2, .int head), (3, .int tail), (0, .ref this), (1, .int fm)]) rfl fun ls hl => ?_
          refine lv_goto hx hb sp_d130 (tgt := 60) (by decide) ?_
          exact ih _ _ _ _ _ _ _ _ hI hY_this hY_fr hY_qu hY_lw hY_bk hs_far hs_queue hs_laws hs_book hA_fr hA_qu hA_lw hA_bk hl hB_qu hJ hset hhd (by omega) (by omega) (by omega)
        · have q87_ : e85.toInt = ((-1) : Int32).toInt := by rw [q87]
          refine lv_iload hx hb sp_d90 (lv_at hl 1 rfl) ?_
          refine lv_iload hx hb sp_d92 (lv_at hl 0 rfl) ?_
          refine y_call (z := (1, 257, 2, none, xM205)) (av := [.int set, .int to]) (rest := []) (y_cokS (n := 2) X ym_isStep (x_cons (x_bw82 1 rfl rfl) (x_cons (x_bw82 2 rfl rfl) (x_cons (x_bw0 9 rfl rfl) x_nilm))) (x_bw82 3 rfl rfl) (by decide +kernel) ⟨Nat.le_of_ble_eq_true rfl, Nat.le_of_ble_eq_true rfl⟩) hY0 hI rfl sp_d94 hl.1 (Nat.le_of_ble_eq_true rfl) (Nat.le_of_ble_eq_true rfl) (Nat.le_of_ble_eq_true rfl) (y_cons ⟨_, rfl, x_i32 _⟩ (y_cons ⟨_, rfl, x_i32 _⟩ y_nil)) rfl (y_norecv rfl) trivial (y_sub_ef rfl) fun v Yn o Hn L ho hr ha hIn hx_ hE hP => ?_
          replace hs_far := y_Efld hE hY_this rfl (by decide) (by decide) hs_far
          replace hs_queue := y_Efld hE hY_this rfl (by decide) (by decide) hs_queue
          replace hs_laws := y_Efld hE hY_this rfl (by decide) (by decide) hs_laws
          replace hs_book := y_Efld hE hY_this rfl (by decide) (by decide) hs_book
          replace hA_fr := hA_fr.kept (y_Earr hE hY_fr rfl (by decide))
          replace hA_qu := hA_qu.kept (y_Earr hE hY_qu rfl (by decide))
          replace hA_lw := hA_lw.kept (y_Earr hE hY_lw rfl (by decide))
          replace hA_bk := hA_bk.kept (y_Earr hE hY_bk rfl (by decide))
          replace hY_this := y_ext hx_ hI.1 hY_this
          replace hY_fr := y_ext hx_ hI.1 hY_fr
          replace hY_qu := y_ext hx_ hI.1 hY_qu
          replace hY_lw := y_ext hx_ hI.1 hY_lw
          replace hY_bk := y_ext hx_ hI.1 hY_bk
          obtain ⟨r94, rfl, hst_r94, hns_r94⟩ : ∃ r : Int32, v = some (.int r) ∧ (¬ r = 0 → z_step set to) ∧ (r = 0 → ¬ z_step set to) := z_stepR (hP _ _ rfl)
          clear ho hr ha hE hP hI hx_
          rename x_I _ _ _ _ _ _ _ _ _ _ => hI
          refine lv_if_eq hx hb sp_d97 (tgt := 127) (by decide) (fun q97 => ?_) (fun q97 => ?_)
          · have q97_ : r94.toInt = (0 : Int32).toInt := by rw [q97]
            obtain ⟨z127, hg_z127⟩ : ∃ z127 : Int32, to + Int32.ofInt 1 = z127 := ⟨_, rfl⟩
            have h_z127 : z127.toInt = to.toInt + 1 := by rw [← hg_z127]; exact y_inc (by decide) (by omega) (by omega)
            refine lv_iinc hx hb sp_d127 hl (k := 0) rfl hg_z127 (by decide) (lv' := [(5, .int z127), (4, .int set), (2, .int head), (3, .int tail), (0, .ref this), (1, .int fm)]) rfl fun ls hl => ?_
            refine lv_goto hx hb sp_d130 (tgt := 60) (by decide) ?_
            exact ih _ _ _ _ _ _ _ _ hI hY_this hY_fr hY_qu hY_lw hY_bk hs_far hs_queue hs_laws hs_book hA_fr hA_qu hA_lw hA_bk hl hB_qu hJ hset hhd (by omega) (by omega) (by omega)
          · have q97_ : ¬ r94.toInt = (0 : Int32).toInt := fun q => q97 (Int32.toInt_inj.mp q)
            have hm : (ff to.toInt.toNat).toInt = -1 := by rw [hg_e85]; omega
            have hroom := hJ.room h_to0 (by omega) hm
            refine lv_aload_n hx hb sp_d100 rfl (lv_at hl 4 rfl) ?_
            refine y_getf X (fl209 X.2.2.2.2.1) hI.1 hY_this rfl hs_far sp_d101 ?_
            refine lv_iload hx hb sp_d104 (lv_at hl 0 rfl) ?_
            refine lv_aload_n hx hb sp_d106 rfl (lv_at hl 4 rfl) ?_
            refine y_getf X (fl209 X.2.2.2.2.1) hI.1 hY_this rfl hs_far sp_d107 ?_
            refine lv_iload hx hb sp_d110 (lv_at hl 1 rfl) ?_
            refine y_iald X hI.1 hY_fr rfl hA_fr (by omega) (by show _ < (1024 : Int); omega) sp_d112 ?_
            obtain ⟨e112, hg_e112⟩ : ∃ e112 : Int32, ff set.toInt.toNat = e112 := ⟨_, rfl⟩
            rw [hg_e112]
            have hq := hJ.2.2.2.1 hd hhd
            rw [← hset, hg_e112] at hq
            refine lv_iconst hx hb sp_d113 (v := 1) (by decide) ?_
            have ec1 : (1 : Int32).toInt = 1 := by decide
            refine lv_iadd hx hb sp_d114 ?_
            generalize hg_z114 : e112 + (1 : Int32) = z114
            have h_z114 : z114.toInt = e112.toInt + (1 : Int32).toInt := by rw [← hg_z114]; exact y_add (by omega) (by omega)
            refine y_iast X hY0 hI hY_fr rfl hA_fr (by omega) (by show _ < (1024 : Int); omega) ⟨_, rfl, x_i32 _⟩ (by decide +kernel) sp_d115 fun H locs hI h_new ho => ?_
            replace hA_fr := h_new
            generalize hf_f115 : y_up ff to.toInt.toNat z114 = f115 at hA_fr
            replace hs_far := y_slk hs_far (ho _ (y_ne hY_this hY_fr rfl))
            replace hs_queue := y_slk hs_queue (ho _ (y_ne hY_this hY_fr rfl))
            replace hs_laws := y_slk hs_laws (ho _ (y_ne hY_this hY_fr rfl))
            replace hs_book := y_slk hs_book (ho _ (y_ne hY_this hY_fr rfl))
            replace hA_qu := hA_qu.kept (ho _ (y_ne hY_qu hY_fr rfl))
            replace hA_lw := hA_lw.kept (ho _ (y_ne hY_lw hY_fr rfl))
            replace hA_bk := hA_bk.kept (ho _ (y_ne hY_bk hY_fr rfl))
            refine lv_aload_n hx hb sp_d116 rfl (lv_at hl 4 rfl) ?_
            refine y_getf X (fl210 X.2.2.2.2.1) hI.1 hY_this rfl hs_queue sp_d117 ?_
            refine lv_iload_n hx hb sp_d120 rfl (lv_at hl 3 rfl) ?_
            refine lv_iload hx hb sp_d121 (lv_at hl 0 rfl) ?_
            refine y_iast X hY0 hI hY_qu rfl hA_qu (by omega) (by show _ < (1024 : Int); omega) ⟨_, rfl, by show (0 : Int) ≤ _; omega, by show _ ≤ (1023 : Int); omega⟩ (by decide +kernel) sp_d123 fun H locs hI h_new ho => ?_
            replace hA_qu := h_new
            replace hB_qu := y_upb (i := tail.toInt.toNat) (v := to) hB_qu (by constructor <;> omega)
            generalize hf_f123 : y_up qq tail.toInt.toNat to = f123 at hA_qu hB_qu
            replace hs_far := y_slk hs_far (ho _ (y_ne hY_this hY_qu rfl))
            replace hs_queue := y_slk hs_queue (ho _ (y_ne hY_this hY_qu rfl))
            replace hs_laws := y_slk hs_laws (ho _ (y_ne hY_this hY_qu rfl))
            replace hs_book := y_slk hs_book (ho _ (y_ne hY_this hY_qu rfl))
            replace hA_fr := hA_fr.kept (ho _ (y_ne hY_fr hY_qu rfl))
            replace hA_lw := hA_lw.kept (ho _ (y_ne hY_lw hY_qu rfl))
            replace hA_bk := hA_bk.kept (ho _ (y_ne hY_bk hY_qu rfl))
            obtain ⟨z124, hg_z124⟩ : ∃ z124 : Int32, tail + Int32.ofInt 1 = z124 := ⟨_, rfl⟩
            have h_z124 : z124.toInt = tail.toInt + 1 := by rw [← hg_z124]; exact y_inc (by decide) (by omega) (by omega)
            refine lv_iinc hx hb sp_d124 hl (k := 3) rfl hg_z124 (by decide) (lv' := [(3, .int z124), (5, .int to), (4, .int set), (2, .int head), (0, .ref this), (1, .int fm)]) rfl fun ls hl => ?_
            obtain ⟨z127, hg_z127⟩ : ∃ z127 : Int32, to + Int32.ofInt 1 = z127 := ⟨_, rfl⟩
            have h_z127 : z127.toInt = to.toInt + 1 := by rw [← hg_z127]; exact y_inc (by decide) (by omega) (by omega)
            refine lv_iinc hx hb sp_d127 hl (k := 1) rfl hg_z127 (by decide) (lv' := [(5, .int z127), (3, .int z124), (4, .int set), (2, .int head), (0, .ref this), (1, .int fm)]) rfl fun ls hl => ?_
            refine lv_goto hx hb sp_d130 (tgt := 60) (by decide) ?_
            have hJn := hJ.push hN.2 h_to0 (by omega) hm (by rw [hg_e75]; exact q76) hhd (v := z114) (by rw [← hset, hg_e112]; omega) (by rw [← hset]; exact hst_r94 q97) hfm.1
            have htn : tail.toInt.toNat = tail.toInt.toNat := rfl
            rw [hf_f115, hf_f123] at hJn
            have hset2 : set = f123 hd := by rw [← hf_f123, y_up_ne (by omega)]; exact hset
            exact ih _ _ _ _ _ _ _ _ hI hY_this hY_fr hY_qu hY_lw hY_bk hs_far hs_queue hs_laws hs_book hA_fr hA_qu hA_lw hA_bk (lv_sub hl [0, 2, 3, 1, 4, 5] rfl) hB_qu (by rw [show z124.toInt = tail.toInt + 1 by omega]; exact hJn) hset2 (by omega) (by omega) (by omega) (by omega)
theorem sp_out {p : Program} {l : Launch} {e : Env} {s : State} {m : MethodId} {below : List Frame} {meth : Method} {c : Code} {D : va_G} {U : State} {Y0 : xY} {av : List Value} (B : y_B vwCl x_Tb x_Nb xMsp p s m meth c D U Y0 av) {this fr qu lw bk : Nat} {fm : Int32} {gl fb : Nat → Int32} (hav : av = [.ref this, .int fm]) (hN : 0 ≤ (z_all (fb 0)).toInt ∧ (z_all (fb 0)).toInt ≤ 1023) (hfm : 0 ≤ fm.toInt ∧ fm.toInt ≤ 1023) (hB_lw : ∀ j, j < 1024 → (0 : Int) ≤ (gl j).toInt ∧ (gl j).toInt ≤ 1)
    (fin : ∀ {H : Heap} {Y : xY} {ff qq : Nat → Int32} {tail : Int}, x_sl D 12 19 this H = some (.ref fr) → x_sl D 12 18 this H = some (.ref lw) → x_sl D 12 0 this H = some (.ref bk) → y_A fr 1024 H ff → y_A lw 1024 H gl → y_A bk 160 H fb → z_J (fm.toInt ≤ (z_all (fb 0)).toInt ∧ ¬ gl fm.toInt.toNat = 0) (z_all (fb 0)).toInt gl ff qq fm tail → z_Pspreads D av Y0 s.heap none Y H) :
    ∀ (n : Nat) (H : Heap) (Y : xY) (locs : List Loc) (ls : Array Slot) (head tail : Int32) (ff qq : Nat → Int32), x_I D x_G x_Zs U (x_efs xMsp) Y0 s.heap Y H locs → Y this = some 17 → Y fr = some 56 → Y qu = some 57 → Y lw = some 55 → Y bk = some 46 → x_sl D 12 19 this H = some (.ref fr) → x_sl D 12 20 this H = some (.ref qu) → x_sl D 12 18 this H = some (.ref lw) → x_sl D 12 0 this H = some (.ref bk) → y_A fr 1024 H ff → y_A qu 1024 H qq → y_A lw 1024 H gl → y_A bk 160 H fb → lv_has ls xMsp.2.2.1 [(3, .int tail), (2, .int head), (0, .ref this), (1, .int fm)] → (∀ j, j < 1024 → (0 : Int) ≤ (qq j).toInt ∧ (qq j).toInt ≤ 1023) → z_J (fm.toInt ≤ (z_all (fb 0)).toInt ∧ ¬ gl fm.toInt.toNat = 0) (z_all (fb 0)).toInt gl ff qq fm tail.toInt → 0 ≤ head.toInt → (1024 - head.toInt).toNat < n → W p l e (x_rm xMsp) s m av.toArray below meth c H locs 0 0 (y_QQ below D x_G x_Zs U xMsp z_Pspreads av Y0 s) (F0 m 41 ls []) := by
  have X := B.1
  have hx := X.1
  have hb := X.2.1
  have hY0 := B.2.2.2.2.1
  intro n
  induction n with
  | zero => intro H Y locs ls head tail ff qq _ _ _ _ _ _ _ _ _ _ _ _ _ _ _ _ _ _ h; exact absurd h (Nat.not_lt_zero _)
  | succ n ih =>
    intro H Y locs ls head tail ff qq hI hY_this hY_fr hY_qu hY_lw hY_bk hs_far hs_queue hs_laws hs_book hA_fr hA_qu hA_lw hA_bk hl hB_qu hJ h_h0 hn
    have hB_fr := ()
    have hB_bk := ()
    have hJ1 := hJ.1
    have hJ2 : tail.toInt ≤ 1024 := Int.le_trans hJ.2.1 (Int.ofNat_le.mpr (z_cnt_le ff 1024))
    refine lv_iload_n hx hb sp_d41 rfl (lv_at hl 1 rfl) ?_
    refine lv_iload_n hx hb sp_d42 rfl (lv_at hl 0 rfl) ?_
    refine lv_icmp_ge hx hb sp_d43 (tgt := 136) (by decide) (fun q43 => ?_) (fun q43 => ?_)
    · have q43_ : tail.toInt ≤ head.toInt := x_le32.mp q43
      exact y_return B hI rfl rfl List.mem_cons_self rfl (x_cs.mono B.2.2.2.2.2 (y_mon B hI)) (fin hs_far hs_laws hs_book hA_fr hA_lw hA_bk hJ) (Nat.le_refl _) (Nat.le_refl _) sp_d136
    · have q43_ : head.toInt < tail.toInt := Int.not_le.mp fun q => q43 (x_le32.mpr q)
      refine lv_aload_n hx hb sp_d46 rfl (lv_at hl 2 rfl) ?_
      refine y_getf X (fl210 X.2.2.2.2.1) hI.1 hY_this rfl hs_queue sp_d47 ?_
      refine lv_iload_n hx hb sp_d50 rfl (lv_at hl 1 rfl) ?_
      refine y_iald X hI.1 hY_qu rfl hA_qu (by omega) (by show _ < (1024 : Int); omega) sp_d51 ?_
      obtain ⟨e51, hg_e51⟩ : ∃ e51 : Int32, qq head.toInt.toNat = e51 := ⟨_, rfl⟩
      rw [hg_e51]
      have h_e51 : (0 : Int) ≤ e51.toInt ∧ e51.toInt ≤ 1023 := by rw [← hg_e51]; exact hB_qu _ (by omega)
      have hhd : ((head.toInt.toNat : Nat) : Int) < tail.toInt := by omega
      refine lv_istore hx hb sp_d52 hl (by decide) (lv' := [(4, .int e51), (3, .int tail), (2, .int head), (0, .ref this), (1, .int fm)]) rfl fun ls hl => ?_
      obtain ⟨z54, hg_z54⟩ : ∃ z54 : Int32, head + Int32.ofInt 1 = z54 := ⟨_, rfl⟩
      have h_z54 : z54.toInt = head.toInt + 1 := by rw [← hg_z54]; exact y_inc (by decide) (by omega) (by omega)
      refine lv_iinc hx hb sp_d54 hl (k := 2) rfl hg_z54 (by decide) (lv' := [(2, .int z54), (4, .int e51), (3, .int tail), (0, .ref this), (1, .int fm)]) rfl fun ls hl => ?_
      refine lv_iconst hx hb sp_d57 (v := 0) (by decide) ?_
      have ec0 : (0 : Int32).toInt = 0 := by decide
      refine lv_istore hx hb sp_d58 hl (by decide) (lv' := [(5, .int (0 : Int32)), (2, .int z54), (4, .int e51), (3, .int tail), (0, .ref this), (1, .int fm)]) rfl fun ls hl => ?_
      have ih2 := fun H Y locs ls tail ff qq a1 a2 a3 a4 a5 a6 a7 a8 a9 b1 b2 b3 b4 b5 b6 b7 b8 => ih H Y locs ls z54 tail ff qq a1 a2 a3 a4 a5 a6 a7 a8 a9 b1 b2 b3 b4 b5 b6 b7 b8 (by omega) (by omega)
      exact sp_in B hav hN hfm hB_lw h_e51 ih2 1100 _ _ _ _ _ _ _ _ hI hY_this hY_fr hY_qu hY_lw hY_bk hs_far hs_queue hs_laws hs_book hA_fr hA_qu hA_lw hA_bk (lv_sub hl [0, 2, 1, 3, 4, 5] rfl) hB_qu hJ hg_e51.symm hhd (by omega) (by omega) (by omega)
theorem sp_ini {p : Program} {l : Launch} {e : Env} {s : State} {m : MethodId} {below : List Frame} {meth : Method} {c : Code} {D : va_G} {U : State} {Y0 : xY} {av : List Value} (B : y_B vwCl x_Tb x_Nb xMsp p s m meth c D U Y0 av) {this fr qu lw bk : Nat} {fm : Int32} {gl fb : Nat → Int32} (hav : av = [.ref this, .int fm]) (hN : 0 ≤ (z_all (fb 0)).toInt ∧ (z_all (fb 0)).toInt ≤ 1023) (hfm : 0 ≤ fm.toInt ∧ fm.toInt ≤ 1023) (hB_lw : ∀ j, j < 1024 → (0 : Int) ≤ (gl j).toInt ∧ (gl j).toInt ≤ 1) {qq : Nat → Int32} (hB_qu : ∀ j, j < 1024 → (0 : Int) ≤ (qq j).toInt ∧ (qq j).toInt ≤ 1023)
    (fin : ∀ {H : Heap} {Y : xY} {ff qq : Nat → Int32} {tail : Int}, x_sl D 12 19 this H = some (.ref fr) → x_sl D 12 18 this H = some (.ref lw) → x_sl D 12 0 this H = some (.ref bk) → y_A fr 1024 H ff → y_A lw 1024 H gl → y_A bk 160 H fb → z_J (fm.toInt ≤ (z_all (fb 0)).toInt ∧ ¬ gl fm.toInt.toNat = 0) (z_all (fb 0)).toInt gl ff qq fm tail → z_Pspreads D av Y0 s.heap none Y H) :
    ∀ (n : Nat) (H : Heap) (Y : xY) (locs : List Loc) (ls : Array Slot) (set : Int32) (ff : Nat → Int32), x_I D x_G x_Zs U (x_efs xMsp) Y0 s.heap Y H locs → Y this = some 17 → Y fr = some 56 → Y qu = some 57 → Y lw = some 55 → Y bk = some 46 → x_sl D 12 19 this H = some (.ref fr) → x_sl D 12 20 this H = some (.ref qu) → x_sl D 12 18 this H = some (.ref lw) → x_sl D 12 0 this H = some (.ref bk) → y_A fr 1024 H ff → y_A qu 1024 H qq → y_A lw 1024 H gl → y_A bk 160 H fb → lv_has ls xMsp.2.2.1 [(2, .int set), (0, .ref this), (1, .int fm)] → (∀ i : Nat, (i : Int) < set.toInt → (ff i).toInt = -1) → 0 ≤ set.toInt → set.toInt ≤ 1024 → (1024 - set.toInt).toNat < n → W p l e (x_rm xMsp) s m av.toArray below meth c H locs 0 0 (y_QQ below D x_G x_Zs U xMsp z_Pspreads av Y0 s) (F0 m 2 ls []) := by
  have X := B.1
  have hx := X.1
  have hb := X.2.1
  have hY0 := B.2.2.2.2.1
  intro n
  induction n with
  | zero => intro H Y locs ls set ff _ _ _ _ _ _ _ _ _ _ _ _ _ _ _ _ _ _ h; exact absurd h (Nat.not_lt_zero _)
  | succ n ih =>
    intro H Y locs ls set ff hI hY_this hY_fr hY_qu hY_lw hY_bk hs_far hs_queue hs_laws hs_book hA_fr hA_qu hA_lw hA_bk hl hf h_s0 h_s1 hn
    have hB_fr := ()
    have hB_bk := ()
    refine lv_iload_n hx hb sp_d2 rfl (lv_at hl 0 rfl) ?_
    refine lv_aload_n hx hb sp_d3 rfl (lv_at hl 1 rfl) ?_
    refine y_call (z := (0, 91, 1, some 17, xM182)) (av := [.ref this]) (rest := [.int set]) (y_cokV (n := 0) (ci := 12) X ym_all rfl rfl rfl (x_cons (x_bw77 4 rfl rfl) (x_cons (x_bw77 6 rfl rfl) (x_cons (x_at 49 (by decide +kernel) rfl) (x_cons (x_bw0 9 rfl rfl) x_nilm)))) (x_bw77 7 rfl rfl) (by decide +kernel) ⟨Nat.le_of_ble_eq_true rfl, Nat.le_of_ble_eq_true rfl⟩) hY0 hI rfl sp_d4 hl.1 (Nat.le_of_ble_eq_true rfl) (Nat.le_of_ble_eq_true rfl) (Nat.le_of_ble_eq_true rfl) (y_cons (y_cref hY_this rfl) y_nil) rfl (y_recv rfl hY_this) trivial (y_sub_ef rfl) fun v Yn o Hn L ho hr ha hIn hx_ hE hP => ?_
    have hPv := hP _ _ _ rfl hs_book (hA_bk 0 (by decide))
    replace hs_far := y_Efld hE hY_this rfl (by decide) (by decide) hs_far
    replace hs_queue := y_Efld hE hY_this rfl (by decide) (by decide) hs_queue
    replace hs_laws := y_Efld hE hY_this rfl (by decide) (by decide) hs_laws
    replace hs_book := y_Efld hE hY_this rfl (by decide) (by decide) hs_book
    replace hA_fr := hA_fr.kept (y_Earr hE hY_fr rfl (by decide))
    replace hA_qu := hA_qu.kept (y_Earr hE hY_qu rfl (by decide))
    replace hA_lw := hA_lw.kept (y_Earr hE hY_lw rfl (by decide))
    replace hA_bk := hA_bk.kept (y_Earr hE hY_bk rfl (by decide))
    replace hY_this := y_ext hx_ hI.1 hY_this
    replace hY_fr := y_ext hx_ hI.1 hY_fr
    replace hY_qu := y_ext hx_ hI.1 hY_qu
    replace hY_lw := y_ext hx_ hI.1 hY_lw
    replace hY_bk := y_ext hx_ hI.1 hY_bk
    obtain rfl := hPv
    clear ho hr ha hE hP hI hx_
    rename x_I _ _ _ _ _ _ _ _ _ _ => hI
    refine lv_icmp_gt hx hb sp_d7 (tgt := 23) (by decide) (fun q7 => ?_) (fun q7 => ?_)
    · have q7_ : (z_all (fb 0)).toInt < set.toInt := x_lt32.mp q7
      refine lv_aload_n hx hb sp_d23 rfl (lv_at hl 1 rfl) ?_
      refine y_getf X (fl209 X.2.2.2.2.1) hI.1 hY_this rfl hs_far sp_d24 ?_
      refine lv_iload_n hx hb sp_d27 rfl (lv_at hl 2 rfl) ?_
      refine lv_iconst hx hb sp_d28 (v := 0) (by decide) ?_
      have ec0 : (0 : Int32).toInt = 0 := by decide
      refine y_iast X hY0 hI hY_fr rfl hA_fr (by omega) (by show _ < (1024 : Int); omega) ⟨_, rfl, x_i32 _⟩ (by decide +kernel) sp_d29 fun H locs hI h_new ho => ?_
      replace hA_fr := h_new
      generalize hf_f29 : y_up ff fm.toInt.toNat (0 : Int32) = f29 at hA_fr
      replace hs_far := y_slk hs_far (ho _ (y_ne hY_this hY_fr rfl))
      replace hs_queue := y_slk hs_queue (ho _ (y_ne hY_this hY_fr rfl))
      replace hs_laws := y_slk hs_laws (ho _ (y_ne hY_this hY_fr rfl))
      replace hs_book := y_slk hs_book (ho _ (y_ne hY_this hY_fr rfl))
      replace hA_qu := hA_qu.kept (ho _ (y_ne hY_qu hY_fr rfl))
      replace hA_lw := hA_lw.kept (ho _ (y_ne hY_lw hY_fr rfl))
      replace hA_bk := hA_bk.kept (ho _ (y_ne hY_bk hY_fr rfl))
      refine lv_aload_n hx hb sp_d30 rfl (lv_at hl 1 rfl) ?_
      refine y_getf X (fl210 X.2.2.2.2.1) hI.1 hY_this rfl hs_queue sp_d31 ?_
      refine lv_iconst hx hb sp_d34 (v := 0) (by decide) ?_
      refine lv_iload_n hx hb sp_d35 rfl (lv_at hl 2 rfl) ?_
      refine y_iast X hY0 hI hY_qu rfl hA_qu (by omega) (by show _ < (1024 : Int); omega) ⟨_, rfl, by show (0 : Int) ≤ _; omega, by show _ ≤ (1023 : Int); omega⟩ (by decide +kernel) sp_d36 fun H locs hI h_new ho => ?_
      replace hA_qu := h_new
      replace hB_qu := y_upb (i := (0 : Int32).toInt.toNat) (v := fm) hB_qu (by constructor <;> omega)
      generalize hf_f36 : y_up qq (0 : Int32).toInt.toNat fm = f36 at hA_qu hB_qu
      replace hs_far := y_slk hs_far (ho _ (y_ne hY_this hY_qu rfl))
      replace hs_queue := y_slk hs_queue (ho _ (y_ne hY_this hY_qu rfl))
      replace hs_laws := y_slk hs_laws (ho _ (y_ne hY_this hY_qu rfl))
      replace hs_book := y_slk hs_book (ho _ (y_ne hY_this hY_qu rfl))
      replace hA_fr := hA_fr.kept (ho _ (y_ne hY_fr hY_qu rfl))
      replace hA_lw := hA_lw.kept (ho _ (y_ne hY_lw hY_qu rfl))
      replace hA_bk := hA_bk.kept (ho _ (y_ne hY_bk hY_qu rfl))
      refine lv_iconst hx hb sp_d37 (v := 0) (by decide) ?_
      refine lv_istore_n hx hb sp_d38 rfl hl (by decide) (lv' := [(2, .int (0 : Int32)), (0, .ref this), (1, .int fm)]) rfl fun ls hl => ?_
      refine lv_iconst hx hb sp_d39 (v := 1) (by decide) ?_
      have ec1 : (1 : Int32).toInt = 1 := by decide
      refine lv_istore_n hx hb sp_d40 rfl hl (by decide) (lv' := [(3, .int (1 : Int32)), (2, .int (0 : Int32)), (0, .ref this), (1, .int fm)]) rfl fun ls hl => ?_
      have hJ := z_J.start (gl := gl) (ff := ff) (qq := qq) (fr := fm) hN.2 hfm.1 hfm.2 (fun i hi => hf i (by omega)) ec0
      have e0 : (0 : Int32).toInt.toNat = 0 := rfl
      rw [e0] at hf_f36
      rw [hf_f29, hf_f36] at hJ
      exact sp_out B hav hN hfm hB_lw fin 1100 _ _ _ _ _ _ _ _ hI hY_this hY_fr hY_qu hY_lw hY_bk hs_far hs_queue hs_laws hs_book hA_fr hA_qu hA_lw hA_bk (lv_sub hl [0, 1, 2, 3] rfl) hB_qu hJ (by omega) (by omega)
    · have q7_ : set.toInt ≤ (z_all (fb 0)).toInt := Int.not_lt.mp fun q => q7 (x_lt32.mpr q)
      refine lv_aload_n hx hb sp_d10 rfl (lv_at hl 1 rfl) ?_
      refine y_getf X (fl209 X.2.2.2.2.1) hI.1 hY_this rfl hs_far sp_d11 ?_
      refine lv_iload_n hx hb sp_d14 rfl (lv_at hl 0 rfl) ?_
      refine lv_iconst hx hb sp_d15 (v := (-1)) (by decide) ?_
      have ecm1 : ((-1) : Int32).toInt = (-1) := by decide
      refine y_iast X hY0 hI hY_fr rfl hA_fr (by omega) (by show _ < (1024 : Int); omega) ⟨_, rfl, x_i32 _⟩ (by decide +kernel) sp_d16 fun H locs hI h_new ho => ?_
      replace hA_fr := h_new
      generalize hf_f16 : y_up ff set.toInt.toNat ((-1) : Int32) = f16 at hA_fr
      replace hs_far := y_slk hs_far (ho _ (y_ne hY_this hY_fr rfl))
      replace hs_queue := y_slk hs_queue (ho _ (y_ne hY_this hY_fr rfl))
      replace hs_laws := y_slk hs_laws (ho _ (y_ne hY_this hY_fr rfl))
      replace hs_book := y_slk hs_book (ho _ (y_ne hY_this hY_fr rfl))
      replace hA_qu := hA_qu.kept (ho _ (y_ne hY_qu hY_fr rfl))
      replace hA_lw := hA_lw.kept (ho _ (y_ne hY_lw hY_fr rfl))
      replace hA_bk := hA_bk.kept (ho _ (y_ne hY_bk hY_fr rfl))
      obtain ⟨z17, hg_z17⟩ : ∃ z17 : Int32, set + Int32.ofInt 1 = z17 := ⟨_, rfl⟩
      have h_z17 : z17.toInt = set.toInt + 1 := by rw [← hg_z17]; exact y_inc (by decide) (by omega) (by omega)
      refine lv_iinc hx hb sp_d17 hl (k := 0) rfl hg_z17 (by decide) (lv' := [(2, .int z17), (0, .ref this), (1, .int fm)]) rfl fun ls hl => ?_
      refine lv_goto hx hb sp_d20 (tgt := 2) (by decide) ?_
      exact ih _ _ _ _ _ _ hI hY_this hY_fr hY_qu hY_lw hY_bk hs_far hs_queue hs_laws hs_book hA_fr hA_qu hA_lw hA_bk hl (fun i hi => by rw [← hf_f16]; by_cases e0 : i = set.toInt.toNat; rw [e0, y_up_at]; exact ecm1; rw [y_up_ne e0]; exact hf i (by omega)) (by omega) (by omega) (by omega)
theorem ym_spreads : y_Met vwCl x_G x_Zs x_Tb x_Nb xMsp y_T z_Pspreads := by
  refine y_main (by decide +kernel) (by decide +kernel) x_Tb_good x_Nb_ok ?_
  intro p l e s m below meth c D U Y0 av ls B hI _ hl
  have X := B.1
  have hx := X.1
  have hb := X.2.1
  have hY0 := B.2.2.2.2.1
  obtain ⟨v0, v1, rfl, hv0, ⟨fm, rfl, hfm⟩⟩ := x_two B.2.2.2.2.2
  obtain ⟨this, t0, rfl, ht0, hY_this⟩ := x_ref_at hv0 rfl
  obtain rfl := List.mem_singleton.mp ht0
  replace hl : lv_has ls xMsp.2.2.1 [(0, .ref this), (1, .int fm)] := hl
  replace hfm : 0 ≤ fm.toInt ∧ fm.toInt ≤ 1023 := hfm
  obtain ⟨fr, hs_far, hY_fr⟩ := y_fldR (k := 19) hI.1 hY_this rfl rfl
  obtain ⟨qu, hs_queue, hY_qu⟩ := y_fldR (k := 20) hI.1 hY_this rfl rfl
  obtain ⟨lw, hs_laws, hY_lw⟩ := y_fldR (k := 18) hI.1 hY_this rfl rfl
  obtain ⟨bk, hs_book, hY_bk⟩ := y_fldR (k := 0) hI.1 hY_this rfl rfl
  obtain ⟨ff, hA_fr, hB_fr⟩ := y_arr hI.1 hY_fr rfl rfl
  obtain ⟨qq, hA_qu, hB_qu⟩ := y_arr hI.1 hY_qu rfl rfl
  obtain ⟨gl, hA_lw, hB_lw⟩ := y_arr hI.1 hY_lw rfl rfl
  obtain ⟨fb, hA_bk, hB_bk⟩ := y_arr hI.1 hY_bk rfl rfl
  replace hB_qu : ∀ j, j < 1024 → (0 : Int) ≤ (qq j).toInt ∧ (qq j).toInt ≤ 1023 := fun j hj => by obtain ⟨x, e0, e1⟩ := hB_qu j hj; cases e0; exact e1
  replace hB_lw : ∀ j, j < 1024 → (0 : Int) ≤ (gl j).toInt ∧ (gl j).toInt ≤ 1 := fun j hj => by obtain ⟨x, e0, e1⟩ := hB_lw j hj; cases e0; exact e1
  have hN : 0 ≤ (z_all (fb 0)).toInt ∧ (z_all (fb 0)).toInt ≤ 1023 := z_all_b (by obtain ⟨x, e0, e1⟩ := hB_bk 0 (by decide); cases e0; exact e1)
  have fin : ∀ {H : Heap} {Y : xY} {ff qq : Nat → Int32} {tail : Int}, x_sl D 12 19 this H = some (.ref fr) → x_sl D 12 18 this H = some (.ref lw) → x_sl D 12 0 this H = some (.ref bk) → y_A fr 1024 H ff → y_A lw 1024 H gl → y_A bk 160 H fb → z_J (fm.toInt ≤ (z_all (fb 0)).toInt ∧ ¬ gl fm.toInt.toNat = 0) (z_all (fb 0)).toInt gl ff qq fm tail → z_Pspreads D [.ref this, .int fm] Y0 s.heap none Y H := by
    intro H Y ff qq tail _ _ _ hA _ _ hJ this' fr' lw' bk' fm' gl' fb' h1 h2 h3 h4 h5 h6 h7 h8
    cases h1
    cases h2.symm.trans hs_book
    cases h4.symm.trans hs_laws
    cases h6.symm.trans hs_far
    have eb : fb' 0 = fb 0 := by have := (h3 0 (by decide)).symm.trans (hA_bk 0 (by decide)); injection this with this; injection this
    have eg : ∀ j, j < 1024 → gl' j = gl j := fun j hj => by have := (h5 j hj).symm.trans (hA_lw j hj); injection this with this; injection this
    rw [eb] at h7 ⊢
    refine ⟨ff, hA, hJ.2.2.1, fun s s0 s1 s2 => ?_⟩
    obtain ⟨p, p0, p1, p2, p3⟩ := (hJ.2.2.2.2 ⟨h7, by rw [← eg _ (by omega)]; exact h8⟩).2 s s0 s1 s2
    exact ⟨p, p0, p1, by rw [eg _ (by omega)]; exact p2, p3⟩
  refine lv_iconst hx hb sp_d0 (v := 0) (by decide) ?_
  have ec0 : (0 : Int32).toInt = 0 := by decide
  refine lv_istore_n hx hb sp_d1 rfl hl (by decide) (lv' := [(2, .int (0 : Int32)), (0, .ref this), (1, .int fm)]) rfl fun ls hl => ?_
  exact sp_ini B rfl hN hfm hB_lw hB_qu fin 1100 _ _ _ _ _ _ hI hY_this hY_fr hY_qu hY_lw hY_bk hs_far hs_queue hs_laws hs_book hA_fr hA_qu hA_lw hA_bk hl (fun i hi => absurd hi (by omega)) (by omega) (by omega) (by omega)

