theorem y_ansL {Y : xY} {outs : List (List xV × Option xV)} {o : List xV × Option xV} {v : Option Value} (h : outs.all (fun o => match o.2 with
    | some (.inr (.inl _)) => true
    | _ => false) = true) (ho : o ∈ outs) (hr : x_ret Y o.2 v) : ∃ x : Int64, v = some (.long x) := by
  have h1 := List.all_eq_true.mp h o ho
  rcases o with ⟨a, r⟩
  dsimp only at h1 hr
  rcases r with _ | (q | q | q)
  · cases h1
  · cases h1
  · obtain ⟨w, e1, x, e2, -⟩ := hr
    exact ⟨x, by rw [e1, e2]⟩
  · cases h1
/-- nothing is ours yet -/
abbrev z_Y0 : xY := fun _ => none
theorem z_nY {a : Nat} : ¬ ∃ t, z_Y0 a = some t := fun ⟨_, h⟩ => by cases h
theorem z_Tb {args : Array Value} {s : State} (hts : ∀ w ∈ lw_tbl, w.before args s = true) : ∀ w ∈ x_Tb, w.before args s = true := fun w hw => hts w (List.mem_filter.mp hw).1
theorem z_Nb {args : Array Value} {s : State} (hts : ∀ w ∈ lw_tbl, w.before args s = true) : ∀ w ∈ x_Nb, va_Nw w s := fun w hw => by
  obtain ⟨h1, h2⟩ := List.mem_filter.mp hw
  have h3 := hts w h1
  unfold x_Nk at h2
  split at h2
  · exact va_Nw.of rfl h3
  · exact va_Nw.of rfl h3
  · exact va_Nw.of rfl h3
  · exact va_Nw.of rfl h3
  · exact va_AO.of h3
  · cases h2
theorem z_known {args : Array Value} {s : State} (hts : ∀ w ∈ lw_tbl, w.before args s = true) : ∃ D : va_G, va_K D vwCl [] s := by
  have h0 : ∀ c : Nat, ∃ q : ClassId × (Nat → Nat), ∀ r : vw_C, vwCl[c]? = some r → u_Kn s r.1 r.2.1 r.2.2 q.1 q.2 := by
    intro c
    match c with
    | 0 => obtain ⟨cC, iS, h⟩ := u_known (N := 4) (n := 4) (z_Tb hts) iX0 (z_Tb hts _ (x_bw11 10 rfl rfl)); exact ⟨(cC, iS), fun r hr => by cases hr; exact h⟩
    | 1 => obtain ⟨cC, iS, h⟩ := u_known (N := 5) (n := 5) (z_Tb hts) iX1 (z_Tb hts _ (x_bw22 1 rfl rfl)); exact ⟨(cC, iS), fun r hr => by cases hr; exact h⟩
    | 2 => obtain ⟨cC, iS, h⟩ := u_known (N := 16) (n := 16) (z_Tb hts) iX2 (z_Tb hts _ (x_bw1 15 rfl rfl)); exact ⟨(cC, iS), fun r hr => by cases hr; exact h⟩
    | 3 => obtain ⟨cC, iS, h⟩ := u_known (N := 8) (n := 8) (z_Tb hts) iX3 (z_Tb hts _ (x_bw12 0 rfl rfl)); exact ⟨(cC, iS), fun r hr => by cases hr; exact h⟩
    | 4 => obtain ⟨cC, iS, h⟩ := u_known (N := 5) (n := 5) (z_Tb hts) iX4 (z_Tb hts _ (x_bw21 5 rfl rfl)); exact ⟨(cC, iS), fun r hr => by cases hr; exact h⟩
    | 5 => obtain ⟨cC, iS, h⟩ := u_known (N := 6) (n := 6) (z_Tb hts) iX5 (z_Tb hts _ (x_bw14 15 rfl rfl)); exact ⟨(cC, iS), fun r hr => by cases hr; exact h⟩
    | 6 => obtain ⟨cC, iS, h⟩ := u_known (N := 5) (n := 5) (z_Tb hts) iX6 (z_Tb hts _ (x_bw2 9 rfl rfl)); exact ⟨(cC, iS), fun r hr => by cases hr; exact h⟩
    | 7 => obtain ⟨cC, iS, h⟩ := u_known (N := 5) (n := 5) (z_Tb hts) iX7 (z_Tb hts _ (x_bw10 2 rfl rfl)); exact ⟨(cC, iS), fun r hr => by cases hr; exact h⟩
    | 8 => obtain ⟨cC, iS, h⟩ := u_known (N := 5) (n := 5) (z_Tb hts) iX8 (z_Tb hts _ (x_bw22 13 rfl rfl)); exact ⟨(cC, iS), fun r hr => by cases hr; exact h⟩
    | 9 => obtain ⟨cC, iS, h⟩ := u_known (N := 5) (n := 5) (z_Tb hts) iX9 (z_Tb hts _ (x_bw23 9 rfl rfl)); exact ⟨(cC, iS), fun r hr => by cases hr; exact h⟩
    | 10 => obtain ⟨cC, iS, h⟩ := u_known (N := 5) (n := 5) (z_Tb hts) iX10 (z_Tb hts _ (x_bw20 9 rfl rfl)); exact ⟨(cC, iS), fun r hr => by cases hr; exact h⟩
    | 11 => obtain ⟨cC, iS, h⟩ := u_known (N := 9) (n := 9) (z_Tb hts) iX11 (z_Tb hts _ (x_bw1 7 rfl rfl)); exact ⟨(cC, iS), fun r hr => by cases hr; exact h⟩
    | 12 => obtain ⟨cC, iS, h⟩ := u_known (N := 27) (n := 27) (z_Tb hts) iX12 (z_Tb hts _ (x_bw61 10 rfl rfl)); exact ⟨(cC, iS), fun r hr => by cases hr; exact h⟩
    | c + 13 => exact ⟨(0, fun _ => 0), fun r hr => by cases hr⟩
  obtain ⟨f, hf⟩ := Classical.axiomOfChoice h0
  exact ⟨(fun c => (f c).1, fun c => (f c).2), fun c q hq => hf c q hq, fun k q hk => by cases hk⟩
theorem z_static {args : Array Value} {s : State} (z : xZ) {N : Nat} {f : Nat → Int32} (hN : N = (x_zn z.2.2.2).1) (hN2 : N < 2 ^ 31) (hl : (Cond.laysStatic z.1 z.2.1 z.2.2.1).before args s = true) (hi : (Cond.initialized z.1).before args s = true) (ha : (Cond.arrayOf (.static z.1 z.2.1 z.2.2.1) .int).before args s = true) (hlen : (Cond.eq (.length (.static z.1 z.2.1 z.2.2.1)) (.int (Int32.ofNat N))).before args s = true)
    (hel : ∀ j, j < N → (Cond.eq (.elem (.static z.1 z.2.1 z.2.2.1) (.int (Int32.ofNat j))) (.int (f j))).before args s = true) (hr : ∀ j, j < N → (x_zn z.2.2.2).2.1 ≤ (f j).toInt ∧ (f j).toInt ≤ (x_zn z.2.2.2).2.2) (hv : ∀ j, f j = x_zv z.2.2.2 j := by intro j; rfl) : x_z1 z s z_Y0 s.heap := by
  obtain ⟨t, ht, hT⟩ := va_Tof (f := fun j => .int (f j)) (A := fun q => ∃ t, z_Y0 q = some t) hN2 ha (va_eqt hlen) (fun j hj => va_eqt (hel j hj)) (fun a _ => z_nY)
  refine ⟨t, f, va_Zof hl hi ht (fun a _ => z_nY), ?_, ?_⟩
  · rw [← hN]; exact hT
  · rw [← hN]; exact fun j hj => ⟨hr j hj, hv j⟩
theorem z_string {args : Array Value} {s : State} (z : Nat × String × Nat) {byt : List Int32} (hN2 : z.2.2 < 2 ^ 31) (h0 : (Cond.stringRef "TwinFires$Text" z.1 z.2.1).before args s = true) (h1 : (Cond.exactly (.string "TwinFires$Text" z.1) "java/lang/String").before args s = true) (h2 : (Cond.eq (.field (.string "TwinFires$Text" z.1) "java/lang/String" "coder" "B") (.int 0)).before args s = true) (h3 : (Cond.arrayOf (.field (.string "TwinFires$Text" z.1) "java/lang/String" "value" "[B") .byte).before args s = true)
    (h4 : (Cond.eq (.length (.field (.string "TwinFires$Text" z.1) "java/lang/String" "value" "[B")) (.int (Int32.ofNat z.2.2))).before args s = true) (h5 : ∀ j, j < z.2.2 → (Cond.eq (.elem (.field (.string "TwinFires$Text" z.1) "java/lang/String" "value" "[B") (.int (Int32.ofNat j))) (.int (byt.getD j 0))).before args s = true)
    (h6 : va_Z "java/lang/String" "COMPACT_STRINGS" "Z" (.int 1) (fun q => ∃ t, z_Y0 q = some t) s s.heap) (h7 : ∃ v : Value, (v = .null ∨ ∃ a, v = .ref a) ∧ va_Z "jdk/internal/util/Preconditions" "SIOOBE_FORMATTER" "Ljava/util/function/BiFunction;" v (fun q => ∃ t, z_Y0 q = some t) s s.heap) (hv : ∀ j, byt.getD j 0 = x_sL z.1 j := by intro j; rfl) : x_s1 z s z_Y0 s.heap := by
  have e1 : ∀ i, i < 1 → i = 0 := fun i hi => by omega
  obtain ⟨adK, adV, hS, hT⟩ := vk_Sof (args := args) (s := s) (N := 1) (tm := fun _ => .string "TwinFires$Text" z.1) (len := [z.2.2]) (byt := [byt]) (A := fun q => ∃ t, z_Y0 q = some t) (fun i hi => by rw [e1 i hi]; exact hN2) (fun i hi => h1) (fun i hi => h2) (fun i hi => h3) (fun i hi => by rw [e1 i hi]; exact h4) (fun i hi j hj => by rw [e1 i hi] at hj ⊢; exact h5 j hj) (fun i j hi hj hij => absurd ((e1 i hi).trans (e1 j hj).symm) hij) (fun a _ => z_nY)
  have hz := hS.1 0 (by omega)
  exact ⟨adK 0, adV 0, fun j => byt.getD j 0, ⟨vk_R.of (A := args) h0 (hT 0 (by omega)), hv⟩, hz.1, hz.2.1, hz.2.2.1, hz.2.2.2, h6, h7⟩
theorem z_fl {args : Array Value} {s : State} (hg : (Jvm.Cond.and given_1 narrow_1).before args s = true) (i : Nat) {w : Cond} (h : (flatC (Jvm.Cond.and given_1 narrow_1))[i]? = some w) : w.before args s = true := flat_of_before _ hg w (List.mem_of_getElem? h)
theorem z_isRef {v : Value} (h : v.isRef = true) : v = .null ∨ ∃ a, v = .ref a := by
  cases v with
  | null => exact Or.inl rfl
  | ref a => exact Or.inr ⟨a, rfl⟩
  | _ => cases h
theorem z_H0 {args : Array Value} {s : State} (D : va_G) (hts : ∀ w ∈ lw_tbl, w.before args s = true) (hg : (Jvm.Cond.and given_1 narrow_1).before args s = true) : x_H D x_G x_Zs s z_Y0 s.heap := by
  refine ⟨fun a t h => (by cases h), ?_, ?_⟩
  · refine x_cons ?_ (x_cons ?_ (x_cons ?_ x_nilm))
    · refine z_static (N := 4) (f := fun j => ([0, 0, 0, 1] : List Int32).getD j 0) _ (by decide) (by decide) (hts _ (List.mem_of_getElem? (i := 461) (by decide +kernel))) (hts _ (List.mem_of_getElem? (i := 65) (by decide +kernel))) (z_fl hg 5 (by decide +kernel)) (z_fl hg 6 (by decide +kernel)) (fun j hj => ?_) (fun j hj => ?_)
      · match j, hj with
        | 0, _ => exact (z_fl hg 7 (by decide +kernel))
        | 1, _ => exact (z_fl hg 8 (by decide +kernel))
        | 2, _ => exact (z_fl hg 9 (by decide +kernel))
        | 3, _ => exact (z_fl hg 10 (by decide +kernel))
        | j + 4, h => exact absurd h (by omega)
      · match j, hj with
        | 0, _ => decide
        | 1, _ => decide
        | 2, _ => decide
        | 3, _ => decide
        | j + 4, h => exact absurd h (by omega)
    · refine z_static (N := 4) (f := fun j => ([99, 99, 3, 10] : List Int32).getD j 0) _ (by decide) (by decide) (hts _ (List.mem_of_getElem? (i := 463) (by decide +kernel))) (hts _ (List.mem_of_getElem? (i := 65) (by decide +kernel))) (z_fl hg 12 (by decide +kernel)) (z_fl hg 13 (by decide +kernel)) (fun j hj => ?_) (fun j hj => ?_)
      · match j, hj with
        | 0, _ => exact (z_fl hg 14 (by decide +kernel))
        | 1, _ => exact (z_fl hg 15 (by decide +kernel))
        | 2, _ => exact (z_fl hg 16 (by decide +kernel))
        | 3, _ => exact (z_fl hg 17 (by decide +kernel))
        | j + 4, h => exact absurd h (by omega)
      · match j, hj with
        | 0, _ => decide
        | 1, _ => decide
        | 2, _ => decide
        | 3, _ => decide
        | j + 4, h => exact absurd h (by omega)
    · refine z_static (N := 10) (f := fun j => ([3, 3, 4, 4, 4, 4, 3, 1, 1, 1] : List Int32).getD j 0) _ (by decide) (by decide) (hts _ (List.mem_of_getElem? (i := 721) (by decide +kernel))) (hts _ (List.mem_of_getElem? (i := 69) (by decide +kernel))) (z_fl hg 24 (by decide +kernel)) (z_fl hg 25 (by decide +kernel)) (fun j hj => ?_) (fun j hj => ?_)
      · match j, hj with
        | 0, _ => exact (z_fl hg 26 (by decide +kernel))
        | 1, _ => exact (z_fl hg 27 (by decide +kernel))
        | 2, _ => exact (z_fl hg 28 (by decide +kernel))
        | 3, _ => exact (z_fl hg 29 (by decide +kernel))
        | 4, _ => exact (z_fl hg 30 (by decide +kernel))
        | 5, _ => exact (z_fl hg 31 (by decide +kernel))
        | 6, _ => exact (z_fl hg 32 (by decide +kernel))
        | 7, _ => exact (z_fl hg 33 (by decide +kernel))
        | 8, _ => exact (z_fl hg 34 (by decide +kernel))
        | 9, _ => exact (z_fl hg 35 (by decide +kernel))
        | j + 10, h => exact absurd h (by omega)
      · match j, hj with
        | 0, _ => decide
        | 1, _ => decide
        | 2, _ => decide
        | 3, _ => decide
        | 4, _ => decide
        | 5, _ => decide
        | 6, _ => decide
        | 7, _ => decide
        | 8, _ => decide
        | 9, _ => decide
        | j + 10, h => exact absurd h (by omega)
  · have h6 : va_Z "java/lang/String" "COMPACT_STRINGS" "Z" (.int 1) (fun q => ∃ t, z_Y0 q = some t) s s.heap := va_Zof (hts _ (List.mem_of_getElem? (i := 680) (by decide +kernel))) (hts _ (List.mem_of_getElem? (i := 81) (by decide +kernel))) (va_eqt (z_fl hg 18 (by decide +kernel))) (fun a _ => z_nY)
    have h7 : ∃ v : Value, (v = .null ∨ ∃ a, v = .ref a) ∧ va_Z "jdk/internal/util/Preconditions" "SIOOBE_FORMATTER" "Ljava/util/function/BiFunction;" v (fun q => ∃ t, z_Y0 q = some t) s s.heap := by
      obtain ⟨v, hv, hr⟩ := Cond.isRef_spec (args := args) (first := s) (o := none) (s := s) (idx := []) (t := .static "jdk/internal/util/Preconditions" "SIOOBE_FORMATTER" "Ljava/util/function/BiFunction;") (z_fl hg 19 (by decide +kernel))
      exact ⟨v, z_isRef hr, va_Zof (hts _ (List.mem_of_getElem? (i := 696) (by decide +kernel))) (hts _ (List.mem_of_getElem? (i := 83) (by decide +kernel))) hv (fun a _ => z_nY)⟩
    refine x_cons ?_ (x_cons ?_ (x_cons ?_ (x_cons ?_ (x_cons ?_ (x_cons ?_ (x_cons ?_ (x_cons ?_ (x_cons ?_ (x_cons ?_ (x_nilm))))))))))
    · refine z_string (byt := [104, 105, 108, 108]) _ (by decide) (hts _ (List.mem_of_getElem? (i := 657) (by decide +kernel))) (z_fl hg 57 (by decide +kernel)) (z_fl hg 58 (by decide +kernel)) (z_fl hg 59 (by decide +kernel)) (z_fl hg 60 (by decide +kernel)) (fun j hj => ?_) h6 h7
      match j, hj with
      | 0, _ => exact (z_fl hg 61 (by decide +kernel))
      | 1, _ => exact (z_fl hg 62 (by decide +kernel))
      | 2, _ => exact (z_fl hg 63 (by decide +kernel))
      | 3, _ => exact (z_fl hg 64 (by decide +kernel))
      | j + 4, h => exact absurd h (by show ¬ j + 4 < 4; omega)
    · refine z_string (byt := [115, 116, 111, 110, 101]) _ (by decide) (hts _ (List.mem_of_getElem? (i := 658) (by decide +kernel))) (z_fl hg 65 (by decide +kernel)) (z_fl hg 66 (by decide +kernel)) (z_fl hg 67 (by decide +kernel)) (z_fl hg 68 (by decide +kernel)) (fun j hj => ?_) h6 h7
      match j, hj with
      | 0, _ => exact (z_fl hg 69 (by decide +kernel))
      | 1, _ => exact (z_fl hg 70 (by decide +kernel))
      | 2, _ => exact (z_fl hg 71 (by decide +kernel))
      | 3, _ => exact (z_fl hg 72 (by decide +kernel))
      | 4, _ => exact (z_fl hg 73 (by decide +kernel))
      | j + 5, h => exact absurd h (by show ¬ j + 5 < 5; omega)
    · refine z_string (byt := [119, 111, 111, 100]) _ (by decide) (hts _ (List.mem_of_getElem? (i := 659) (by decide +kernel))) (z_fl hg 75 (by decide +kernel)) (z_fl hg 76 (by decide +kernel)) (z_fl hg 77 (by decide +kernel)) (z_fl hg 78 (by decide +kernel)) (fun j hj => ?_) h6 h7
      match j, hj with
      | 0, _ => exact (z_fl hg 79 (by decide +kernel))
      | 1, _ => exact (z_fl hg 80 (by decide +kernel))
      | 2, _ => exact (z_fl hg 81 (by decide +kernel))
      | 3, _ => exact (z_fl hg 82 (by decide +kernel))
      | j + 4, h => exact absurd h (by show ¬ j + 4 < 4; omega)
    · refine z_string (byt := [112, 105, 110, 101]) _ (by decide) (hts _ (List.mem_of_getElem? (i := 660) (by decide +kernel))) (z_fl hg 85 (by decide +kernel)) (z_fl hg 86 (by decide +kernel)) (z_fl hg 87 (by decide +kernel)) (z_fl hg 88 (by decide +kernel)) (fun j hj => ?_) h6 h7
      match j, hj with
      | 0, _ => exact (z_fl hg 89 (by decide +kernel))
      | 1, _ => exact (z_fl hg 90 (by decide +kernel))
      | 2, _ => exact (z_fl hg 91 (by decide +kernel))
      | 3, _ => exact (z_fl hg 92 (by decide +kernel))
      | j + 4, h => exact absurd h (by show ¬ j + 4 < 4; omega)
    · refine z_string (byt := [104, 101, 100, 103, 101]) _ (by decide) (hts _ (List.mem_of_getElem? (i := 661) (by decide +kernel))) (z_fl hg 96 (by decide +kernel)) (z_fl hg 97 (by decide +kernel)) (z_fl hg 98 (by decide +kernel)) (z_fl hg 99 (by decide +kernel)) (fun j hj => ?_) h6 h7
      match j, hj with
      | 0, _ => exact (z_fl hg 100 (by decide +kernel))
      | 1, _ => exact (z_fl hg 101 (by decide +kernel))
      | 2, _ => exact (z_fl hg 102 (by decide +kernel))
      | 3, _ => exact (z_fl hg 103 (by decide +kernel))
      | 4, _ => exact (z_fl hg 104 (by decide +kernel))
      | j + 5, h => exact absurd h (by show ¬ j + 5 < 5; omega)
    · refine z_string (byt := [116, 111, 112, 112, 101, 100]) _ (by decide) (hts _ (List.mem_of_getElem? (i := 662) (by decide +kernel))) (z_fl hg 109 (by decide +kernel)) (z_fl hg 110 (by decide +kernel)) (z_fl hg 111 (by decide +kernel)) (z_fl hg 112 (by decide +kernel)) (fun j hj => ?_) h6 h7
      match j, hj with
      | 0, _ => exact (z_fl hg 113 (by decide +kernel))
      | 1, _ => exact (z_fl hg 114 (by decide +kernel))
      | 2, _ => exact (z_fl hg 115 (by decide +kernel))
      | 3, _ => exact (z_fl hg 116 (by decide +kernel))
      | 4, _ => exact (z_fl hg 117 (by decide +kernel))
      | 5, _ => exact (z_fl hg 118 (by decide +kernel))
      | j + 6, h => exact absurd h (by show ¬ j + 6 < 6; omega)
    · refine z_string (byt := [119, 97, 108, 108]) _ (by decide) (hts _ (List.mem_of_getElem? (i := 663) (by decide +kernel))) (z_fl hg 124 (by decide +kernel)) (z_fl hg 125 (by decide +kernel)) (z_fl hg 126 (by decide +kernel)) (z_fl hg 127 (by decide +kernel)) (fun j hj => ?_) h6 h7
      match j, hj with
      | 0, _ => exact (z_fl hg 128 (by decide +kernel))
      | 1, _ => exact (z_fl hg 129 (by decide +kernel))
      | 2, _ => exact (z_fl hg 130 (by decide +kernel))
      | 3, _ => exact (z_fl hg 131 (by decide +kernel))
      | j + 4, h => exact absurd h (by show ¬ j + 4 < 4; omega)
    · refine z_string (byt := [121, 101, 97, 114]) _ (by decide) (hts _ (List.mem_of_getElem? (i := 664) (by decide +kernel))) (z_fl hg 138 (by decide +kernel)) (z_fl hg 139 (by decide +kernel)) (z_fl hg 140 (by decide +kernel)) (z_fl hg 141 (by decide +kernel)) (fun j hj => ?_) h6 h7
      match j, hj with
      | 0, _ => exact (z_fl hg 142 (by decide +kernel))
      | 1, _ => exact (z_fl hg 143 (by decide +kernel))
      | 2, _ => exact (z_fl hg 144 (by decide +kernel))
      | 3, _ => exact (z_fl hg 145 (by decide +kernel))
      | j + 4, h => exact absurd h (by show ¬ j + 4 < 4; omega)
    · refine z_string (byt := [109, 105, 115, 116]) _ (by decide) (hts _ (List.mem_of_getElem? (i := 665) (by decide +kernel))) (z_fl hg 153 (by decide +kernel)) (z_fl hg 154 (by decide +kernel)) (z_fl hg 155 (by decide +kernel)) (z_fl hg 156 (by decide +kernel)) (fun j hj => ?_) h6 h7
      match j, hj with
      | 0, _ => exact (z_fl hg 157 (by decide +kernel))
      | 1, _ => exact (z_fl hg 158 (by decide +kernel))
      | 2, _ => exact (z_fl hg 159 (by decide +kernel))
      | 3, _ => exact (z_fl hg 160 (by decide +kernel))
      | j + 4, h => exact absurd h (by show ¬ j + 4 < 4; omega)
    · refine z_string (byt := [119, 105, 100, 101]) _ (by decide) (hts _ (List.mem_of_getElem? (i := 666) (by decide +kernel))) (z_fl hg 169 (by decide +kernel)) (z_fl hg 170 (by decide +kernel)) (z_fl hg 171 (by decide +kernel)) (z_fl hg 172 (by decide +kernel)) (fun j hj => ?_) h6 h7
      match j, hj with
      | 0, _ => exact (z_fl hg 173 (by decide +kernel))
      | 1, _ => exact (z_fl hg 174 (by decide +kernel))
      | 2, _ => exact (z_fl hg 175 (by decide +kernel))
      | 3, _ => exact (z_fl hg 176 (by decide +kernel))
      | j + 4, h => exact absurd h (by show ¬ j + 4 < 4; omega)

