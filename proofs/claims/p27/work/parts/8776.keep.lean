/-! a contract with kept places, and what it says beside the plain one -/
def x_exc (M : xM) (l : List (Nat × Nat)) : xM := (M.1, M.2.1, M.2.2.1, M.2.2.2.1, M.2.2.2.2.1, M.2.2.2.2.2.1, M.2.2.2.2.2.2.1 ++ l, M.2.2.2.2.2.2.2.1, M.2.2.2.2.2.2.2.2)
def y_PK (l : List (Nat × Nat)) : yP := fun _ _ Y H _ _ H' => ∀ b t j : Nat, Y b = some t → (t, j + 1000) ∈ l → y_at b j H' = y_at b j H
theorem x_E.exc {D : va_G} {G : List xG} {ef l : List (Nat × Nat)} {Y : xY} {H0 H : Heap} (hl : ∀ z ∈ l, 1000 ≤ z.2 ∧ ∃ q, G[z.1]? = some (.inr q)) (h : x_E D G (ef ++ l) Y H0 H) : x_E D G ef Y H0 H := by
  intro a t g ha hg
  have q1 := h a t g ha hg
  rcases g with o | q
  · intro k hk hn
    refine q1 k hk (fun hz => ?_)
    rcases List.mem_append.mp hz with hz | hz
    · exact hn hz
    · obtain ⟨-, q, h2⟩ := hl _ hz
      cases hg.symm.trans h2
  · refine ⟨fun hn => q1.1 (fun hz => ?_), fun j hj => q1.2 j (List.mem_append_left _ hj)⟩
    rcases List.mem_append.mp hz with hz | hz
    · exact hn hz
    · have := (hl _ hz).1
      exact absurd this (by show ¬ 1000 ≤ 0; decide)
theorem y_cok.exc {p : Program} {l : Launch} {e : Env} {R : Room} {s : State} {m : MethodId} {args : Array Value} {below : List Frame} {meth : Method} {c : Code} {D : va_G} {G : List xG} {Zs : List xZ} {U : State} {nL : Nat} {cc : ByteArray} {k1 k2 k3 : Nat} {k4 : Option Nat} {M : xM} {xl : List (Nat × Nat)}
    (hl : ∀ z ∈ xl, 1000 ≤ z.2 ∧ ∃ q, G[z.1]? = some (.inr q)) (h : x_cok p l e R s m args below meth c D G Zs U nL cc (k1, k2, k3, k4, x_exc M xl)) : y_cok p l e R s m args below meth c D G Zs U nL cc (k1, k2, k3, k4, M) y_T (y_PK xl) := by
  intro H locs cells slots pc ls rest av Y h1 h2 h3 h4 h5 h6 h7 h8 h9 _ T hT X
  obtain ⟨v, st₀, t, T', L, a1, a2, a3, a4, a5, ⟨v', Y', o, b1, b2, b3, b4, b5, b6, b7, b8⟩, a7⟩ := h H locs cells slots pc ls rest av Y h1 h2 h3 h4 h5 h6 h7 h8 h9 T hT X
  have b7 : x_E D G (x_efs M ++ xl) Y st₀.heap t.heap := b7
  refine ⟨v, st₀, t, T', L, a1, a2, a3, a4, a5, ⟨v', Y', o, b1, b2, b3, b4, b5, b6, x_E.exc hl b7, b8, fun b t j hY hj => ?_⟩, a7⟩
  obtain ⟨-, q, hg⟩ := hl _ hj
  exact (b7 b t _ hY hg).2 j (List.mem_append_right _ hj)
abbrev xc2 : List (Nat × Nat) := [(46, 1002)]
theorem xc2_ok : ∀ z ∈ xc2, 1000 ≤ z.2 ∧ ∃ q, x_G[z.1]? = some (.inr q) := fun z hz => by
  obtain rfl := List.mem_singleton.mp hz
  exact ⟨by decide, _, rfl⟩
def uM140 : xM := x_exc xM140 xc2
def uT140 : xTab := ([(7, 17, 0)], [], [], [], [], [], [], [], [], [], [])
set_option maxRecDepth 100000 in
set_option maxHeartbeats 4000000 in
theorem uk140 : x_TOK vwCl x_G x_Zs x_Tb x_Nb uM140 uT140 := by
  intro p l e s m args below meth c D U hx hb hml hts hown hK hK0 hU hnm hN
  have X : x_cx p s m args c D U uM140.2.1 uM140.2.2.1 vwCl x_Tb x_Nb uM140.1.cls := ⟨hx, hb, hml, hown, hts, hK, hK0, hU, hN, x_Tb_good, x_Nb_ok⟩
  exact ⟨(x_cons (fl190 hts) x_nilm), x_nilm, x_nilm, x_nilm, x_nilm, x_nilm, x_nilm, x_nilm, x_nilm, x_nilm, x_nilm⟩
set_option maxRecDepth 1000000 in
theorem um140 : x_Met vwCl x_G x_Zs x_Tb x_Nb uM140 := x_main uT140 [] [] 2500 (by decide +kernel) (by decide +kernel) uk140 (by decide +kernel)
def uM147 : xM := x_exc xM147 xc2
def uT147 : xTab := ([(7, 17, 0)], [], [], [], [], [], [(95, 19), (97, 99)], [(1, 87, 3, none, xM141), (1, 87, 3, none, xM144), (0, 99, 3, some 17, xM145), (0, 102, 1, some 17, xM143), (0, 105, 1, some 17, xM146)], [], [], [])
set_option maxRecDepth 100000 in
set_option maxHeartbeats 4000000 in
theorem uk147 : x_TOK vwCl x_G x_Zs x_Tb x_Nb uM147 uT147 := by
  intro p l e s m args below meth c D U hx hb hml hts hown hK hK0 hU hnm hN
  have X : x_cx p s m args c D U uM147.2.1 uM147.2.2.1 vwCl x_Tb x_Nb uM147.1.cls := ⟨hx, hb, hml, hown, hts, hK, hK0, hU, hN, x_Tb_good, x_Nb_ok⟩
  exact ⟨(x_cons (fl190 hts) x_nilm), x_nilm, x_nilm, x_nilm, x_nilm, x_nilm, (x_cons ⟨19, rfl, (hts _ (x_at 1146 (by decide +kernel) rfl))⟩ (x_cons ⟨99, rfl, (hts _ (x_at 1150 (by decide +kernel) rfl))⟩ x_nilm)), (x_cons (x_cokS X xm141 (x_cons (x_at 1147 (by decide +kernel) rfl) (x_cons (x_at 1148 (by decide +kernel) rfl) (x_cons (x_at 73 (by decide +kernel) rfl) x_nilm))) (x_at 1149 (by decide +kernel) rfl) (by decide +kernel) ⟨Nat.le_of_ble_eq_true rfl, Nat.le_of_ble_eq_true rfl⟩) (x_cons (x_cokS X xm144 (x_cons (x_at 1147 (by decide +kernel) rfl) (x_cons (x_at 1148 (by decide +kernel) rfl) (x_cons (x_at 73 (by decide +kernel) rfl) x_nilm))) (x_at 1149 (by decide +kernel) rfl) (by decide +kernel) ⟨Nat.le_of_ble_eq_true rfl, Nat.le_of_ble_eq_true rfl⟩) (x_cons (x_cokV (ci := 12) X xm145 rfl rfl rfl (x_cons (x_at 1151 (by decide +kernel) rfl) (x_cons (x_at 1153 (by decide +kernel) rfl) (x_cons (x_at 31 (by decide +kernel) rfl) (x_cons (x_at 73 (by decide +kernel) rfl) x_nilm)))) (x_at 1154 (by decide +kernel) rfl) (by decide +kernel) ⟨Nat.le_of_ble_eq_true rfl, Nat.le_of_ble_eq_true rfl⟩) (x_cons (x_cokV (ci := 12) X xm143 rfl rfl rfl (x_cons (x_at 1155 (by decide +kernel) rfl) (x_cons (x_at 1157 (by decide +kernel) rfl) (x_cons (x_at 32 (by decide +kernel) rfl) (x_cons (x_at 73 (by decide +kernel) rfl) x_nilm)))) (x_at 1158 (by decide +kernel) rfl) (by decide +kernel) ⟨Nat.le_of_ble_eq_true rfl, Nat.le_of_ble_eq_true rfl⟩) (x_cons (x_cokV (ci := 12) X xm146 rfl rfl rfl (x_cons (x_at 1163 (by decide +kernel) rfl) (x_cons (x_at 1165 (by decide +kernel) rfl) (x_cons (x_at 34 (by decide +kernel) rfl) (x_cons (x_at 73 (by decide +kernel) rfl) x_nilm)))) (x_at 1166 (by decide +kernel) rfl) (by decide +kernel) ⟨Nat.le_of_ble_eq_true rfl, Nat.le_of_ble_eq_true rfl⟩) x_nilm))))), x_nilm, x_nilm, x_nilm⟩
set_option maxRecDepth 1000000 in
theorem um147 : x_Met vwCl x_G x_Zs x_Tb x_Nb uM147 := x_main uT147 [(46, ([(0, xR false [17]), (1, xF), (2, xF), (3, xF), (4, xI 0 1), (5, xI 0 10)], [], []), (5, true), [], false, 0, [])] [] 2500 (by decide +kernel) (by decide +kernel) uk147 (by decide +kernel)
def uM152 : xM := x_exc xM152 xc2
def uT152 : xTab := ([(7, 17, 0)], [], [], [], [], [], [(95, 19), (97, 99), (108, 5), (110, 9)], [(1, 87, 3, none, xM149), (1, 87, 3, none, xM141), (1, 87, 3, none, xM144), (1, 87, 3, none, xM150), (1, 87, 3, none, xM151), (0, 102, 1, some 17, xM143), (0, 105, 1, some 17, xM146)], [], [], [])
set_option maxRecDepth 100000 in
set_option maxHeartbeats 4000000 in
theorem uk152 : x_TOK vwCl x_G x_Zs x_Tb x_Nb uM152 uT152 := by
  intro p l e s m args below meth c D U hx hb hml hts hown hK hK0 hU hnm hN
  have X : x_cx p s m args c D U uM152.2.1 uM152.2.2.1 vwCl x_Tb x_Nb uM152.1.cls := ⟨hx, hb, hml, hown, hts, hK, hK0, hU, hN, x_Tb_good, x_Nb_ok⟩
  exact ⟨(x_cons (fl190 hts) x_nilm), x_nilm, x_nilm, x_nilm, x_nilm, x_nilm, (x_cons ⟨19, rfl, (hts _ (x_at 1146 (by decide +kernel) rfl))⟩ (x_cons ⟨99, rfl, (hts _ (x_at 1150 (by decide +kernel) rfl))⟩ (x_cons ⟨5, rfl, (hts _ (x_at 1171 (by decide +kernel) rfl))⟩ (x_cons ⟨9, rfl, (hts _ (x_at 1172 (by decide +kernel) rfl))⟩ x_nilm)))), (x_cons (x_cokS X xm149 (x_cons (x_at 1147 (by decide +kernel) rfl) (x_cons (x_at 1148 (by decide +kernel) rfl) (x_cons (x_at 73 (by decide +kernel) rfl) x_nilm))) (x_at 1149 (by decide +kernel) rfl) (by decide +kernel) ⟨Nat.le_of_ble_eq_true rfl, Nat.le_of_ble_eq_true rfl⟩) (x_cons (x_cokS X xm141 (x_cons (x_at 1147 (by decide +kernel) rfl) (x_cons (x_at 1148 (by decide +kernel) rfl) (x_cons (x_at 73 (by decide +kernel) rfl) x_nilm))) (x_at 1149 (by decide +kernel) rfl) (by decide +kernel) ⟨Nat.le_of_ble_eq_true rfl, Nat.le_of_ble_eq_true rfl⟩) (x_cons (x_cokS X xm144 (x_cons (x_at 1147 (by decide +kernel) rfl) (x_cons (x_at 1148 (by decide +kernel) rfl) (x_cons (x_at 73 (by decide +kernel) rfl) x_nilm))) (x_at 1149 (by decide +kernel) rfl) (by decide +kernel) ⟨Nat.le_of_ble_eq_true rfl, Nat.le_of_ble_eq_true rfl⟩) (x_cons (x_cokS X xm150 (x_cons (x_at 1147 (by decide +kernel) rfl) (x_cons (x_at 1148 (by decide +kernel) rfl) (x_cons (x_at 73 (by decide +kernel) rfl) x_nilm))) (x_at 1149 (by decide +kernel) rfl) (by decide +kernel) ⟨Nat.le_of_ble_eq_true rfl, Nat.le_of_ble_eq_true rfl⟩) (x_cons (x_cokS X xm151 (x_cons (x_at 1147 (by decide +kernel) rfl) (x_cons (x_at 1148 (by decide +kernel) rfl) (x_cons (x_at 73 (by decide +kernel) rfl) x_nilm))) (x_at 1149 (by decide +kernel) rfl) (by decide +kernel) ⟨Nat.le_of_ble_eq_true rfl, Nat.le_of_ble_eq_true rfl⟩) (x_cons (x_cokV (ci := 12) X xm143 rfl rfl rfl (x_cons (x_at 1155 (by decide +kernel) rfl) (x_cons (x_at 1157 (by decide +kernel) rfl) (x_cons (x_at 32 (by decide +kernel) rfl) (x_cons (x_at 73 (by decide +kernel) rfl) x_nilm)))) (x_at 1158 (by decide +kernel) rfl) (by decide +kernel) ⟨Nat.le_of_ble_eq_true rfl, Nat.le_of_ble_eq_true rfl⟩) (x_cons (x_cokV (ci := 12) X xm146 rfl rfl rfl (x_cons (x_at 1163 (by decide +kernel) rfl) (x_cons (x_at 1165 (by decide +kernel) rfl) (x_cons (x_at 34 (by decide +kernel) rfl) (x_cons (x_at 73 (by decide +kernel) rfl) x_nilm)))) (x_at 1166 (by decide +kernel) rfl) (by decide +kernel) ⟨Nat.le_of_ble_eq_true rfl, Nat.le_of_ble_eq_true rfl⟩) x_nilm))))))), x_nilm, x_nilm, x_nilm⟩
set_option maxRecDepth 1000000 in
theorem um152 : x_Met vwCl x_G x_Zs x_Tb x_Nb uM152 := x_main uT152 [] [] 2500 (by decide +kernel) (by decide +kernel) uk152 (by decide +kernel)
def uM153 : xM := x_exc xM153 xc2
def uT153 : xTab := ([(7, 17, 0)], [], [], [], [], [], [], [], [], [], [])
set_option maxRecDepth 100000 in
set_option maxHeartbeats 4000000 in
theorem uk153 : x_TOK vwCl x_G x_Zs x_Tb x_Nb uM153 uT153 := by
  intro p l e s m args below meth c D U hx hb hml hts hown hK hK0 hU hnm hN
  have X : x_cx p s m args c D U uM153.2.1 uM153.2.2.1 vwCl x_Tb x_Nb uM153.1.cls := ⟨hx, hb, hml, hown, hts, hK, hK0, hU, hN, x_Tb_good, x_Nb_ok⟩
  exact ⟨(x_cons (fl190 hts) x_nilm), x_nilm, x_nilm, x_nilm, x_nilm, x_nilm, x_nilm, x_nilm, x_nilm, x_nilm, x_nilm⟩
set_option maxRecDepth 1000000 in
theorem um153 : x_Met vwCl x_G x_Zs x_Tb x_Nb uM153 := x_main uT153 [] [] 2500 (by decide +kernel) (by decide +kernel) uk153 (by decide +kernel)
def uM155 : xM := x_exc xM155 xc2
def uT155 : xTab := ([(7, 17, 0)], [], [], [], [], [], [], [], [], [], [])
set_option maxRecDepth 100000 in
set_option maxHeartbeats 4000000 in
theorem uk155 : x_TOK vwCl x_G x_Zs x_Tb x_Nb uM155 uT155 := by
  intro p l e s m args below meth c D U hx hb hml hts hown hK hK0 hU hnm hN
  have X : x_cx p s m args c D U uM155.2.1 uM155.2.2.1 vwCl x_Tb x_Nb uM155.1.cls := ⟨hx, hb, hml, hown, hts, hK, hK0, hU, hN, x_Tb_good, x_Nb_ok⟩
  exact ⟨(x_cons (fl190 hts) x_nilm), x_nilm, x_nilm, x_nilm, x_nilm, x_nilm, x_nilm, x_nilm, x_nilm, x_nilm, x_nilm⟩
set_option maxRecDepth 1000000 in
theorem um155 : x_Met vwCl x_G x_Zs x_Tb x_Nb uM155 := x_main uT155 [] [] 2500 (by decide +kernel) (by decide +kernel) uk155 (by decide +kernel)
def uM157 : xM := x_exc xM157 xc2
def uT157 : xTab := ([(7, 17, 0)], [], [], [], [], [], [], [], [], [], [])
set_option maxRecDepth 100000 in
set_option maxHeartbeats 4000000 in
theorem uk157 : x_TOK vwCl x_G x_Zs x_Tb x_Nb uM157 uT157 := by
  intro p l e s m args below meth c D U hx hb hml hts hown hK hK0 hU hnm hN
  have X : x_cx p s m args c D U uM157.2.1 uM157.2.2.1 vwCl x_Tb x_Nb uM157.1.cls := ⟨hx, hb, hml, hown, hts, hK, hK0, hU, hN, x_Tb_good, x_Nb_ok⟩
  exact ⟨(x_cons (fl190 hts) x_nilm), x_nilm, x_nilm, x_nilm, x_nilm, x_nilm, x_nilm, x_nilm, x_nilm, x_nilm, x_nilm⟩
set_option maxRecDepth 1000000 in
theorem um157 : x_Met vwCl x_G x_Zs x_Tb x_Nb uM157 := x_main uT157 [] [] 2500 (by decide +kernel) (by decide +kernel) uk157 (by decide +kernel)
def uM158 : xM := x_exc xM158 xc2
def uT158 : xTab := ([(7, 17, 0)], [], [], [], [], [], [], [], [], [], [])
set_option maxRecDepth 100000 in
set_option maxHeartbeats 4000000 in
theorem uk158 : x_TOK vwCl x_G x_Zs x_Tb x_Nb uM158 uT158 := by
  intro p l e s m args below meth c D U hx hb hml hts hown hK hK0 hU hnm hN
  have X : x_cx p s m args c D U uM158.2.1 uM158.2.2.1 vwCl x_Tb x_Nb uM158.1.cls := ⟨hx, hb, hml, hown, hts, hK, hK0, hU, hN, x_Tb_good, x_Nb_ok⟩
  exact ⟨(x_cons (fl190 hts) x_nilm), x_nilm, x_nilm, x_nilm, x_nilm, x_nilm, x_nilm, x_nilm, x_nilm, x_nilm, x_nilm⟩
set_option maxRecDepth 1000000 in
theorem um158 : x_Met vwCl x_G x_Zs x_Tb x_Nb uM158 := x_main uT158 [] [] 2500 (by decide +kernel) (by decide +kernel) uk158 (by decide +kernel)
def uM159 : xM := x_exc xM159 xc2
def uT159 : xTab := ([], [], [], [], [], [], [(97, 99), (112, 3), (114, 10)], [(1, 87, 3, none, xM144), (1, 87, 3, none, xM154), (1, 87, 3, none, xM156), (0, 102, 1, some 17, xM143), (0, 116, 3, some 17, uM155), (0, 116, 3, some 17, uM157), (0, 116, 3, some 17, uM153), (0, 116, 3, some 17, uM158)], [], [], [])
set_option maxRecDepth 100000 in
set_option maxHeartbeats 4000000 in
theorem uk159 : x_TOK vwCl x_G x_Zs x_Tb x_Nb uM159 uT159 := by
  intro p l e s m args below meth c D U hx hb hml hts hown hK hK0 hU hnm hN
  have X : x_cx p s m args c D U uM159.2.1 uM159.2.2.1 vwCl x_Tb x_Nb uM159.1.cls := ⟨hx, hb, hml, hown, hts, hK, hK0, hU, hN, x_Tb_good, x_Nb_ok⟩
  exact ⟨x_nilm, x_nilm, x_nilm, x_nilm, x_nilm, x_nilm, (x_cons ⟨99, rfl, (hts _ (x_at 1150 (by decide +kernel) rfl))⟩ (x_cons ⟨3, rfl, (hts _ (x_at 1177 (by decide +kernel) rfl))⟩ (x_cons ⟨10, rfl, (hts _ (x_at 1178 (by decide +kernel) rfl))⟩ x_nilm))), (x_cons (x_cokS X xm144 (x_cons (x_at 1147 (by decide +kernel) rfl) (x_cons (x_at 1148 (by decide +kernel) rfl) (x_cons (x_at 73 (by decide +kernel) rfl) x_nilm))) (x_at 1149 (by decide +kernel) rfl) (by decide +kernel) ⟨Nat.le_of_ble_eq_true rfl, Nat.le_of_ble_eq_true rfl⟩) (x_cons (x_cokS X xm154 (x_cons (x_at 1147 (by decide +kernel) rfl) (x_cons (x_at 1148 (by decide +kernel) rfl) (x_cons (x_at 73 (by decide +kernel) rfl) x_nilm))) (x_at 1149 (by decide +kernel) rfl) (by decide +kernel) ⟨Nat.le_of_ble_eq_true rfl, Nat.le_of_ble_eq_true rfl⟩) (x_cons (x_cokS X xm156 (x_cons (x_at 1147 (by decide +kernel) rfl) (x_cons (x_at 1148 (by decide +kernel) rfl) (x_cons (x_at 73 (by decide +kernel) rfl) x_nilm))) (x_at 1149 (by decide +kernel) rfl) (by decide +kernel) ⟨Nat.le_of_ble_eq_true rfl, Nat.le_of_ble_eq_true rfl⟩) (x_cons (x_cokV (ci := 12) X xm143 rfl rfl rfl (x_cons (x_at 1155 (by decide +kernel) rfl) (x_cons (x_at 1157 (by decide +kernel) rfl) (x_cons (x_at 32 (by decide +kernel) rfl) (x_cons (x_at 73 (by decide +kernel) rfl) x_nilm)))) (x_at 1158 (by decide +kernel) rfl) (by decide +kernel) ⟨Nat.le_of_ble_eq_true rfl, Nat.le_of_ble_eq_true rfl⟩) (x_cons (x_cokV (ci := 12) X um155 rfl rfl rfl (x_cons (x_at 1179 (by decide +kernel) rfl) (x_cons (x_at 1181 (by decide +kernel) rfl) (x_cons (x_at 35 (by decide +kernel) rfl) (x_cons (x_at 73 (by decide +kernel) rfl) x_nilm)))) (x_at 1182 (by decide +kernel) rfl) (by decide +kernel) ⟨Nat.le_of_ble_eq_true rfl, Nat.le_of_ble_eq_true rfl⟩) (x_cons (x_cokV (ci := 12) X um157 rfl rfl rfl (x_cons (x_at 1179 (by decide +kernel) rfl) (x_cons (x_at 1181 (by decide +kernel) rfl) (x_cons (x_at 35 (by decide +kernel) rfl) (x_cons (x_at 73 (by decide +kernel) rfl) x_nilm)))) (x_at 1182 (by decide +kernel) rfl) (by decide +kernel) ⟨Nat.le_of_ble_eq_true rfl, Nat.le_of_ble_eq_true rfl⟩) (x_cons (x_cokV (ci := 12) X um153 rfl rfl rfl (x_cons (x_at 1179 (by decide +kernel) rfl) (x_cons (x_at 1181 (by decide +kernel) rfl) (x_cons (x_at 35 (by decide +kernel) rfl) (x_cons (x_at 73 (by decide +kernel) rfl) x_nilm)))) (x_at 1182 (by decide +kernel) rfl) (by decide +kernel) ⟨Nat.le_of_ble_eq_true rfl, Nat.le_of_ble_eq_true rfl⟩) (x_cons (x_cokV (ci := 12) X um158 rfl rfl rfl (x_cons (x_at 1179 (by decide +kernel) rfl) (x_cons (x_at 1181 (by decide +kernel) rfl) (x_cons (x_at 35 (by decide +kernel) rfl) (x_cons (x_at 73 (by decide +kernel) rfl) x_nilm)))) (x_at 1182 (by decide +kernel) rfl) (by decide +kernel) ⟨Nat.le_of_ble_eq_true rfl, Nat.le_of_ble_eq_true rfl⟩) x_nilm)))))))), x_nilm, x_nilm, x_nilm⟩
set_option maxRecDepth 1000000 in
theorem um159 : x_Met vwCl x_G x_Zs x_Tb x_Nb uM159 := x_main uT159 [] [] 2500 (by decide +kernel) (by decide +kernel) uk159 (by decide +kernel)
def uM160 : xM := x_exc xM160 xc2
def uT160 : xTab := ([(7, 17, 0)], [], [], [], [], [], [], [], [], [], [])
set_option maxRecDepth 100000 in
set_option maxHeartbeats 4000000 in
theorem uk160 : x_TOK vwCl x_G x_Zs x_Tb x_Nb uM160 uT160 := by
  intro p l e s m args below meth c D U hx hb hml hts hown hK hK0 hU hnm hN
  have X : x_cx p s m args c D U uM160.2.1 uM160.2.2.1 vwCl x_Tb x_Nb uM160.1.cls := ⟨hx, hb, hml, hown, hts, hK, hK0, hU, hN, x_Tb_good, x_Nb_ok⟩
  exact ⟨(x_cons (fl190 hts) x_nilm), x_nilm, x_nilm, x_nilm, x_nilm, x_nilm, x_nilm, x_nilm, x_nilm, x_nilm, x_nilm⟩
set_option maxRecDepth 1000000 in
theorem um160 : x_Met vwCl x_G x_Zs x_Tb x_Nb uM160 := x_main uT160 [] [] 2500 (by decide +kernel) (by decide +kernel) uk160 (by decide +kernel)
def uM165 : xM := x_exc xM165 xc2
def uT165 : xTab := ([(7, 17, 0)], [], [], [], [], [], [], [(0, 102, 1, some 17, xM143), (0, 119, 2, some 17, xM162), (0, 123, 3, some 17, xM163), (0, 126, 1, some 17, xM164)], [], [], [])
set_option maxRecDepth 100000 in
set_option maxHeartbeats 4000000 in
theorem uk165 : x_TOK vwCl x_G x_Zs x_Tb x_Nb uM165 uT165 := by
  intro p l e s m args below meth c D U hx hb hml hts hown hK hK0 hU hnm hN
  have X : x_cx p s m args c D U uM165.2.1 uM165.2.2.1 vwCl x_Tb x_Nb uM165.1.cls := ⟨hx, hb, hml, hown, hts, hK, hK0, hU, hN, x_Tb_good, x_Nb_ok⟩
  exact ⟨(x_cons (fl190 hts) x_nilm), x_nilm, x_nilm, x_nilm, x_nilm, x_nilm, x_nilm, (x_cons (x_cokV (ci := 12) X xm143 rfl rfl rfl (x_cons (x_at 1155 (by decide +kernel) rfl) (x_cons (x_at 1157 (by decide +kernel) rfl) (x_cons (x_at 32 (by decide +kernel) rfl) (x_cons (x_at 73 (by decide +kernel) rfl) x_nilm)))) (x_at 1158 (by decide +kernel) rfl) (by decide +kernel) ⟨Nat.le_of_ble_eq_true rfl, Nat.le_of_ble_eq_true rfl⟩) (x_cons (x_cokV (ci := 12) X xm162 rfl rfl rfl (x_cons (x_at 1187 (by decide +kernel) rfl) (x_cons (x_at 1189 (by decide +kernel) rfl) (x_cons (x_at 36 (by decide +kernel) rfl) (x_cons (x_at 73 (by decide +kernel) rfl) x_nilm)))) (x_at 1190 (by decide +kernel) rfl) (by decide +kernel) ⟨Nat.le_of_ble_eq_true rfl, Nat.le_of_ble_eq_true rfl⟩) (x_cons (x_cokV (ci := 12) X xm163 rfl rfl rfl (x_cons (x_at 1191 (by decide +kernel) rfl) (x_cons (x_at 1193 (by decide +kernel) rfl) (x_cons (x_at 37 (by decide +kernel) rfl) (x_cons (x_at 73 (by decide +kernel) rfl) x_nilm)))) (x_at 1194 (by decide +kernel) rfl) (by decide +kernel) ⟨Nat.le_of_ble_eq_true rfl, Nat.le_of_ble_eq_true rfl⟩) (x_cons (x_cokV (ci := 12) X xm164 rfl rfl rfl (x_cons (x_at 1195 (by decide +kernel) rfl) (x_cons (x_at 1197 (by decide +kernel) rfl) (x_cons (x_at 38 (by decide +kernel) rfl) (x_cons (x_at 73 (by decide +kernel) rfl) x_nilm)))) (x_at 1198 (by decide +kernel) rfl) (by decide +kernel) ⟨Nat.le_of_ble_eq_true rfl, Nat.le_of_ble_eq_true rfl⟩) x_nilm)))), x_nilm, x_nilm, x_nilm⟩
set_option maxRecDepth 1000000 in
theorem um165 : x_Met vwCl x_G x_Zs x_Tb x_Nb uM165 := x_main uT165 [] [] 2500 (by decide +kernel) (by decide +kernel) uk165 (by decide +kernel)
def uM166 : xM := x_exc xM166 xc2
def uT166 : xTab := ([], [], [], [], [], [], [(97, 99)], [(1, 87, 3, none, xM144), (0, 102, 1, some 17, xM143), (0, 116, 3, some 17, uM160), (0, 119, 2, some 17, xM162)], [], [], [])
set_option maxRecDepth 100000 in
set_option maxHeartbeats 4000000 in
theorem uk166 : x_TOK vwCl x_G x_Zs x_Tb x_Nb uM166 uT166 := by
  intro p l e s m args below meth c D U hx hb hml hts hown hK hK0 hU hnm hN
  have X : x_cx p s m args c D U uM166.2.1 uM166.2.2.1 vwCl x_Tb x_Nb uM166.1.cls := ⟨hx, hb, hml, hown, hts, hK, hK0, hU, hN, x_Tb_good, x_Nb_ok⟩
  exact ⟨x_nilm, x_nilm, x_nilm, x_nilm, x_nilm, x_nilm, (x_cons ⟨99, rfl, (hts _ (x_at 1150 (by decide +kernel) rfl))⟩ x_nilm), (x_cons (x_cokS X xm144 (x_cons (x_at 1147 (by decide +kernel) rfl) (x_cons (x_at 1148 (by decide +kernel) rfl) (x_cons (x_at 73 (by decide +kernel) rfl) x_nilm))) (x_at 1149 (by decide +kernel) rfl) (by decide +kernel) ⟨Nat.le_of_ble_eq_true rfl, Nat.le_of_ble_eq_true rfl⟩) (x_cons (x_cokV (ci := 12) X xm143 rfl rfl rfl (x_cons (x_at 1155 (by decide +kernel) rfl) (x_cons (x_at 1157 (by decide +kernel) rfl) (x_cons (x_at 32 (by decide +kernel) rfl) (x_cons (x_at 73 (by decide +kernel) rfl) x_nilm)))) (x_at 1158 (by decide +kernel) rfl) (by decide +kernel) ⟨Nat.le_of_ble_eq_true rfl, Nat.le_of_ble_eq_true rfl⟩) (x_cons (x_cokV (ci := 12) X um160 rfl rfl rfl (x_cons (x_at 1179 (by decide +kernel) rfl) (x_cons (x_at 1181 (by decide +kernel) rfl) (x_cons (x_at 35 (by decide +kernel) rfl) (x_cons (x_at 73 (by decide +kernel) rfl) x_nilm)))) (x_at 1182 (by decide +kernel) rfl) (by decide +kernel) ⟨Nat.le_of_ble_eq_true rfl, Nat.le_of_ble_eq_true rfl⟩) (x_cons (x_cokV (ci := 12) X xm162 rfl rfl rfl (x_cons (x_at 1187 (by decide +kernel) rfl) (x_cons (x_at 1189 (by decide +kernel) rfl) (x_cons (x_at 36 (by decide +kernel) rfl) (x_cons (x_at 73 (by decide +kernel) rfl) x_nilm)))) (x_at 1190 (by decide +kernel) rfl) (by decide +kernel) ⟨Nat.le_of_ble_eq_true rfl, Nat.le_of_ble_eq_true rfl⟩) x_nilm)))), x_nilm, x_nilm, x_nilm⟩
set_option maxRecDepth 1000000 in
theorem um166 : x_Met vwCl x_G x_Zs x_Tb x_Nb uM166 := x_main uT166 [] [] 2500 (by decide +kernel) (by decide +kernel) uk166 (by decide +kernel)
def uM181 : xM := x_exc xM181 xc2
def uT181 : xTab := ([(32, 17, 15), (35, 17, 16)], [], [], [], [], [], [], [(0, 219, 3, some 17, uM159), (0, 222, 4, some 17, uM147), (0, 226, 6, some 17, uM152)], [], [], [])
set_option maxRecDepth 100000 in
set_option maxHeartbeats 4000000 in
theorem uk181 : x_TOK vwCl x_G x_Zs x_Tb x_Nb uM181 uT181 := by
  intro p l e s m args below meth c D U hx hb hml hts hown hK hK0 hU hnm hN
  have X : x_cx p s m args c D U uM181.2.1 uM181.2.2.1 vwCl x_Tb x_Nb uM181.1.cls := ⟨hx, hb, hml, hown, hts, hK, hK0, hU, hN, x_Tb_good, x_Nb_ok⟩
  exact ⟨(x_cons (fl197 hts) (x_cons (fl198 hts) x_nilm)), x_nilm, x_nilm, x_nilm, x_nilm, x_nilm, x_nilm, (x_cons (x_cokV (ci := 12) X um159 rfl rfl rfl (x_cons (x_at 1289 (by decide +kernel) rfl) (x_cons (x_at 1174 (by decide +kernel) rfl) (x_cons (x_at 1175 (by decide +kernel) rfl) (x_cons (x_at 73 (by decide +kernel) rfl) x_nilm)))) (x_at 1176 (by decide +kernel) rfl) (by decide +kernel) ⟨Nat.le_of_ble_eq_true rfl, Nat.le_of_ble_eq_true rfl⟩) (x_cons (x_cokV (ci := 12) X um147 rfl rfl rfl (x_cons (x_at 1290 (by decide +kernel) rfl) (x_cons (x_at 1143 (by decide +kernel) rfl) (x_cons (x_at 1144 (by decide +kernel) rfl) (x_cons (x_at 73 (by decide +kernel) rfl) x_nilm)))) (x_at 1145 (by decide +kernel) rfl) (by decide +kernel) ⟨Nat.le_of_ble_eq_true rfl, Nat.le_of_ble_eq_true rfl⟩) (x_cons (x_cokV (ci := 12) X um152 rfl rfl rfl (x_cons (x_at 1291 (by decide +kernel) rfl) (x_cons (x_at 1168 (by decide +kernel) rfl) (x_cons (x_at 1169 (by decide +kernel) rfl) (x_cons (x_at 73 (by decide +kernel) rfl) x_nilm)))) (x_at 1170 (by decide +kernel) rfl) (by decide +kernel) ⟨Nat.le_of_ble_eq_true rfl, Nat.le_of_ble_eq_true rfl⟩) x_nilm))), x_nilm, x_nilm, x_nilm⟩
set_option maxRecDepth 1000000 in
theorem um181 : x_Met vwCl x_G x_Zs x_Tb x_Nb uM181 := x_main uT181 [] [] 2500 (by decide +kernel) (by decide +kernel) uk181 (by decide +kernel)
def uM197 : xM := x_exc xM197 xc2
def uT197 : xTab := ([], [], [], [], [], [], [(97, 99), (248, 11)], [(1, 87, 3, none, xM196), (1, 87, 3, none, xM144), (0, 102, 1, some 17, xM143), (0, 116, 3, some 17, uM160)], [], [], [])
set_option maxRecDepth 100000 in
set_option maxHeartbeats 4000000 in
theorem uk197 : x_TOK vwCl x_G x_Zs x_Tb x_Nb uM197 uT197 := by
  intro p l e s m args below meth c D U hx hb hml hts hown hK hK0 hU hnm hN
  have X : x_cx p s m args c D U uM197.2.1 uM197.2.2.1 vwCl x_Tb x_Nb uM197.1.cls := ⟨hx, hb, hml, hown, hts, hK, hK0, hU, hN, x_Tb_good, x_Nb_ok⟩
  exact ⟨x_nilm, x_nilm, x_nilm, x_nilm, x_nilm, x_nilm, (x_cons ⟨99, rfl, (hts _ (x_at 1150 (by decide +kernel) rfl))⟩ (x_cons ⟨11, rfl, (hts _ (x_at 1340 (by decide +kernel) rfl))⟩ x_nilm)), (x_cons (x_cokS X xm196 (x_cons (x_at 1147 (by decide +kernel) rfl) (x_cons (x_at 1148 (by decide +kernel) rfl) (x_cons (x_at 73 (by decide +kernel) rfl) x_nilm))) (x_at 1149 (by decide +kernel) rfl) (by decide +kernel) ⟨Nat.le_of_ble_eq_true rfl, Nat.le_of_ble_eq_true rfl⟩) (x_cons (x_cokS X xm144 (x_cons (x_at 1147 (by decide +kernel) rfl) (x_cons (x_at 1148 (by decide +kernel) rfl) (x_cons (x_at 73 (by decide +kernel) rfl) x_nilm))) (x_at 1149 (by decide +kernel) rfl) (by decide +kernel) ⟨Nat.le_of_ble_eq_true rfl, Nat.le_of_ble_eq_true rfl⟩) (x_cons (x_cokV (ci := 12) X xm143 rfl rfl rfl (x_cons (x_at 1155 (by decide +kernel) rfl) (x_cons (x_at 1157 (by decide +kernel) rfl) (x_cons (x_at 32 (by decide +kernel) rfl) (x_cons (x_at 73 (by decide +kernel) rfl) x_nilm)))) (x_at 1158 (by decide +kernel) rfl) (by decide +kernel) ⟨Nat.le_of_ble_eq_true rfl, Nat.le_of_ble_eq_true rfl⟩) (x_cons (x_cokV (ci := 12) X um160 rfl rfl rfl (x_cons (x_at 1179 (by decide +kernel) rfl) (x_cons (x_at 1181 (by decide +kernel) rfl) (x_cons (x_at 35 (by decide +kernel) rfl) (x_cons (x_at 73 (by decide +kernel) rfl) x_nilm)))) (x_at 1182 (by decide +kernel) rfl) (by decide +kernel) ⟨Nat.le_of_ble_eq_true rfl, Nat.le_of_ble_eq_true rfl⟩) x_nilm)))), x_nilm, x_nilm, x_nilm⟩
set_option maxRecDepth 1000000 in
theorem um197 : x_Met vwCl x_G x_Zs x_Tb x_Nb uM197 := x_main uT197 [] [] 2500 (by decide +kernel) (by decide +kernel) uk197 (by decide +kernel)
def uM200 : xM := x_exc xM200 xc2
def uT200 : xTab := ([(7, 17, 0)], [], [], [], [], [], [], [(0, 123, 3, some 17, xM163), (0, 240, 1, some 17, xM186), (0, 243, 2, some 17, xM191), (0, 250, 3, some 17, xM199)], [], [], [])
set_option maxRecDepth 100000 in
set_option maxHeartbeats 4000000 in
theorem uk200 : x_TOK vwCl x_G x_Zs x_Tb x_Nb uM200 uT200 := by
  intro p l e s m args below meth c D U hx hb hml hts hown hK hK0 hU hnm hN
  have X : x_cx p s m args c D U uM200.2.1 uM200.2.2.1 vwCl x_Tb x_Nb uM200.1.cls := ⟨hx, hb, hml, hown, hts, hK, hK0, hU, hN, x_Tb_good, x_Nb_ok⟩
  exact ⟨(x_cons (fl190 hts) x_nilm), x_nilm, x_nilm, x_nilm, x_nilm, x_nilm, x_nilm, (x_cons (x_cokV (ci := 12) X xm163 rfl rfl rfl (x_cons (x_at 1191 (by decide +kernel) rfl) (x_cons (x_at 1193 (by decide +kernel) rfl) (x_cons (x_at 37 (by decide +kernel) rfl) (x_cons (x_at 73 (by decide +kernel) rfl) x_nilm)))) (x_at 1194 (by decide +kernel) rfl) (by decide +kernel) ⟨Nat.le_of_ble_eq_true rfl, Nat.le_of_ble_eq_true rfl⟩) (x_cons (x_cokV (ci := 12) X xm186 rfl rfl rfl (x_cons (x_at 1304 (by decide +kernel) rfl) (x_cons (x_at 1306 (by decide +kernel) rfl) (x_cons (x_at 50 (by decide +kernel) rfl) (x_cons (x_at 73 (by decide +kernel) rfl) x_nilm)))) (x_at 1307 (by decide +kernel) rfl) (by decide +kernel) ⟨Nat.le_of_ble_eq_true rfl, Nat.le_of_ble_eq_true rfl⟩) (x_cons (x_cokV (ci := 12) X xm191 rfl rfl rfl (x_cons (x_at 1323 (by decide +kernel) rfl) (x_cons (x_at 1325 (by decide +kernel) rfl) (x_cons (x_at 52 (by decide +kernel) rfl) (x_cons (x_at 73 (by decide +kernel) rfl) x_nilm)))) (x_at 1326 (by decide +kernel) rfl) (by decide +kernel) ⟨Nat.le_of_ble_eq_true rfl, Nat.le_of_ble_eq_true rfl⟩) (x_cons (x_cokV (ci := 12) X xm199 rfl rfl rfl (x_cons (x_at 1353 (by decide +kernel) rfl) (x_cons (x_at 1355 (by decide +kernel) rfl) (x_cons (x_at 54 (by decide +kernel) rfl) (x_cons (x_at 73 (by decide +kernel) rfl) x_nilm)))) (x_at 1356 (by decide +kernel) rfl) (by decide +kernel) ⟨Nat.le_of_ble_eq_true rfl, Nat.le_of_ble_eq_true rfl⟩) x_nilm)))), x_nilm, x_nilm, x_nilm⟩
set_option maxRecDepth 1000000 in
theorem um200 : x_Met vwCl x_G x_Zs x_Tb x_Nb uM200 := x_main uT200 [(5, ([(0, xR false [17]), (1, xF), (2, xI 0 1), (3, xI 0 255), (4, xI 0 8)], [], []), (4, true), [], false, 0, []), (59, ([(0, xR false [17]), (1, xF), (2, xI 0 1), (3, xI 0 255), (4, xI (-1) 255), (5, xI 0 319)], [], [(0, 12, 0, xR false [46])]), (5, true), [], false, 0, []), (100, ([(0, xR false [17]), (1, xF), (2, xI 0 1), (3, xI 0 255), (4, xI (-1) 255), (5, xI 0 255), (6, xI 0 8)], [], [(0, 12, 0, xR false [46])]), (6, true), [5], false, 1, []), (166, ([(0, xR false [17]), (1, xF), (2, xI 0 1), (3, xI 0 255), (4, xI (-1) 255), (5, xI 0 255), (6, xI 0 8)], [], [(0, 12, 0, xR false [46])]), (6, true), [5], false, 1, [])] [] 2500 (by decide +kernel) (by decide +kernel) uk200 (by decide +kernel)
def uM201 : xM := x_exc xM201 xc2
def uT201 : xTab := ([], [], [], [], [], [], [], [(1, 87, 3, none, xM188), (0, 102, 1, some 17, xM143), (0, 237, 2, some 17, xM184), (0, 250, 3, some 17, xM199), (0, 254, 3, some 17, uM200)], [], [], [])
set_option maxRecDepth 100000 in
set_option maxHeartbeats 4000000 in
theorem uk201 : x_TOK vwCl x_G x_Zs x_Tb x_Nb uM201 uT201 := by
  intro p l e s m args below meth c D U hx hb hml hts hown hK hK0 hU hnm hN
  have X : x_cx p s m args c D U uM201.2.1 uM201.2.2.1 vwCl x_Tb x_Nb uM201.1.cls := ⟨hx, hb, hml, hown, hts, hK, hK0, hU, hN, x_Tb_good, x_Nb_ok⟩
  exact ⟨x_nilm, x_nilm, x_nilm, x_nilm, x_nilm, x_nilm, x_nilm, (x_cons (x_cokS X xm188 (x_cons (x_at 1147 (by decide +kernel) rfl) (x_cons (x_at 1148 (by decide +kernel) rfl) (x_cons (x_at 73 (by decide +kernel) rfl) x_nilm))) (x_at 1149 (by decide +kernel) rfl) (by decide +kernel) ⟨Nat.le_of_ble_eq_true rfl, Nat.le_of_ble_eq_true rfl⟩) (x_cons (x_cokV (ci := 12) X xm143 rfl rfl rfl (x_cons (x_at 1155 (by decide +kernel) rfl) (x_cons (x_at 1157 (by decide +kernel) rfl) (x_cons (x_at 32 (by decide +kernel) rfl) (x_cons (x_at 73 (by decide +kernel) rfl) x_nilm)))) (x_at 1158 (by decide +kernel) rfl) (by decide +kernel) ⟨Nat.le_of_ble_eq_true rfl, Nat.le_of_ble_eq_true rfl⟩) (x_cons (x_cokV (ci := 12) X xm184 rfl rfl rfl (x_cons (x_at 1296 (by decide +kernel) rfl) (x_cons (x_at 1298 (by decide +kernel) rfl) (x_cons (x_at 48 (by decide +kernel) rfl) (x_cons (x_at 73 (by decide +kernel) rfl) x_nilm)))) (x_at 1299 (by decide +kernel) rfl) (by decide +kernel) ⟨Nat.le_of_ble_eq_true rfl, Nat.le_of_ble_eq_true rfl⟩) (x_cons (x_cokV (ci := 12) X xm199 rfl rfl rfl (x_cons (x_at 1353 (by decide +kernel) rfl) (x_cons (x_at 1355 (by decide +kernel) rfl) (x_cons (x_at 54 (by decide +kernel) rfl) (x_cons (x_at 73 (by decide +kernel) rfl) x_nilm)))) (x_at 1356 (by decide +kernel) rfl) (by decide +kernel) ⟨Nat.le_of_ble_eq_true rfl, Nat.le_of_ble_eq_true rfl⟩) (x_cons (x_cokV (ci := 12) X um200 rfl rfl rfl (x_cons (x_at 1349 (by decide +kernel) rfl) (x_cons (x_at 1351 (by decide +kernel) rfl) (x_cons (x_at 53 (by decide +kernel) rfl) (x_cons (x_at 73 (by decide +kernel) rfl) x_nilm)))) (x_at 1352 (by decide +kernel) rfl) (by decide +kernel) ⟨Nat.le_of_ble_eq_true rfl, Nat.le_of_ble_eq_true rfl⟩) x_nilm))))), x_nilm, x_nilm, x_nilm⟩
set_option maxRecDepth 1000000 in
theorem um201 : x_Met vwCl x_G x_Zs x_Tb x_Nb uM201 := x_main uT201 [] [] 2500 (by decide +kernel) (by decide +kernel) uk201 (by decide +kernel)
def uM202 : xM := x_exc xM202 xc2
def uT202 : xTab := ([], [], [], [], [], [], [], [(1, 87, 3, none, xM188), (0, 102, 1, some 17, xM143), (0, 237, 2, some 17, xM184), (0, 250, 3, some 17, xM199), (0, 254, 3, some 17, uM200)], [], [], [])
set_option maxRecDepth 100000 in
set_option maxHeartbeats 4000000 in
theorem uk202 : x_TOK vwCl x_G x_Zs x_Tb x_Nb uM202 uT202 := by
  intro p l e s m args below meth c D U hx hb hml hts hown hK hK0 hU hnm hN
  have X : x_cx p s m args c D U uM202.2.1 uM202.2.2.1 vwCl x_Tb x_Nb uM202.1.cls := ⟨hx, hb, hml, hown, hts, hK, hK0, hU, hN, x_Tb_good, x_Nb_ok⟩
  exact ⟨x_nilm, x_nilm, x_nilm, x_nilm, x_nilm, x_nilm, x_nilm, (x_cons (x_cokS X xm188 (x_cons (x_at 1147 (by decide +kernel) rfl) (x_cons (x_at 1148 (by decide +kernel) rfl) (x_cons (x_at 73 (by decide +kernel) rfl) x_nilm))) (x_at 1149 (by decide +kernel) rfl) (by decide +kernel) ⟨Nat.le_of_ble_eq_true rfl, Nat.le_of_ble_eq_true rfl⟩) (x_cons (x_cokV (ci := 12) X xm143 rfl rfl rfl (x_cons (x_at 1155 (by decide +kernel) rfl) (x_cons (x_at 1157 (by decide +kernel) rfl) (x_cons (x_at 32 (by decide +kernel) rfl) (x_cons (x_at 73 (by decide +kernel) rfl) x_nilm)))) (x_at 1158 (by decide +kernel) rfl) (by decide +kernel) ⟨Nat.le_of_ble_eq_true rfl, Nat.le_of_ble_eq_true rfl⟩) (x_cons (x_cokV (ci := 12) X xm184 rfl rfl rfl (x_cons (x_at 1296 (by decide +kernel) rfl) (x_cons (x_at 1298 (by decide +kernel) rfl) (x_cons (x_at 48 (by decide +kernel) rfl) (x_cons (x_at 73 (by decide +kernel) rfl) x_nilm)))) (x_at 1299 (by decide +kernel) rfl) (by decide +kernel) ⟨Nat.le_of_ble_eq_true rfl, Nat.le_of_ble_eq_true rfl⟩) (x_cons (x_cokV (ci := 12) X xm199 rfl rfl rfl (x_cons (x_at 1353 (by decide +kernel) rfl) (x_cons (x_at 1355 (by decide +kernel) rfl) (x_cons (x_at 54 (by decide +kernel) rfl) (x_cons (x_at 73 (by decide +kernel) rfl) x_nilm)))) (x_at 1356 (by decide +kernel) rfl) (by decide +kernel) ⟨Nat.le_of_ble_eq_true rfl, Nat.le_of_ble_eq_true rfl⟩) (x_cons (x_cokV (ci := 12) X um200 rfl rfl rfl (x_cons (x_at 1349 (by decide +kernel) rfl) (x_cons (x_at 1351 (by decide +kernel) rfl) (x_cons (x_at 53 (by decide +kernel) rfl) (x_cons (x_at 73 (by decide +kernel) rfl) x_nilm)))) (x_at 1352 (by decide +kernel) rfl) (by decide +kernel) ⟨Nat.le_of_ble_eq_true rfl, Nat.le_of_ble_eq_true rfl⟩) x_nilm))))), x_nilm, x_nilm, x_nilm⟩
set_option maxRecDepth 1000000 in
theorem um202 : x_Met vwCl x_G x_Zs x_Tb x_Nb uM202 := x_main uT202 [] [] 2500 (by decide +kernel) (by decide +kernel) uk202 (by decide +kernel)
def uM203 : xM := x_exc xM203 xc2
def uT203 : xTab := ([(7, 17, 0)], [], [], [], [], [], [], [(0, 99, 3, some 17, xM145), (0, 102, 1, some 17, xM143), (0, 140, 5, some 17, xM173), (0, 151, 2, some 17, xM171)], [], [], [])
set_option maxRecDepth 100000 in
set_option maxHeartbeats 4000000 in
theorem uk203 : x_TOK vwCl x_G x_Zs x_Tb x_Nb uM203 uT203 := by
  intro p l e s m args below meth c D U hx hb hml hts hown hK hK0 hU hnm hN
  have X : x_cx p s m args c D U uM203.2.1 uM203.2.2.1 vwCl x_Tb x_Nb uM203.1.cls := ⟨hx, hb, hml, hown, hts, hK, hK0, hU, hN, x_Tb_good, x_Nb_ok⟩
  exact ⟨(x_cons (fl190 hts) x_nilm), x_nilm, x_nilm, x_nilm, x_nilm, x_nilm, x_nilm, (x_cons (x_cokV (ci := 12) X xm145 rfl rfl rfl (x_cons (x_at 1151 (by decide +kernel) rfl) (x_cons (x_at 1153 (by decide +kernel) rfl) (x_cons (x_at 31 (by decide +kernel) rfl) (x_cons (x_at 73 (by decide +kernel) rfl) x_nilm)))) (x_at 1154 (by decide +kernel) rfl) (by decide +kernel) ⟨Nat.le_of_ble_eq_true rfl, Nat.le_of_ble_eq_true rfl⟩) (x_cons (x_cokV (ci := 12) X xm143 rfl rfl rfl (x_cons (x_at 1155 (by decide +kernel) rfl) (x_cons (x_at 1157 (by decide +kernel) rfl) (x_cons (x_at 32 (by decide +kernel) rfl) (x_cons (x_at 73 (by decide +kernel) rfl) x_nilm)))) (x_at 1158 (by decide +kernel) rfl) (by decide +kernel) ⟨Nat.le_of_ble_eq_true rfl, Nat.le_of_ble_eq_true rfl⟩) (x_cons (x_cokV (ci := 12) X xm173 rfl rfl rfl (x_cons (x_at 1222 (by decide +kernel) rfl) (x_cons (x_at 1224 (by decide +kernel) rfl) (x_cons (x_at 41 (by decide +kernel) rfl) (x_cons (x_at 73 (by decide +kernel) rfl) x_nilm)))) (x_at 1225 (by decide +kernel) rfl) (by decide +kernel) ⟨Nat.le_of_ble_eq_true rfl, Nat.le_of_ble_eq_true rfl⟩) (x_cons (x_cokV (ci := 12) X xm171 rfl rfl rfl (x_cons (x_at 1218 (by decide +kernel) rfl) (x_cons (x_at 1220 (by decide +kernel) rfl) (x_cons (x_at 40 (by decide +kernel) rfl) (x_cons (x_at 73 (by decide +kernel) rfl) x_nilm)))) (x_at 1221 (by decide +kernel) rfl) (by decide +kernel) ⟨Nat.le_of_ble_eq_true rfl, Nat.le_of_ble_eq_true rfl⟩) x_nilm)))), x_nilm, x_nilm, x_nilm⟩
set_option maxRecDepth 1000000 in
theorem um203 : x_Met vwCl x_G x_Zs x_Tb x_Nb uM203 := x_main uT203 [(25, ([(0, xR false [17]), (1, xI 0 9), (2, xF), (3, xI (-1) 99), (4, xI 0 100)], [], []), (4, true), [], false, 0, []), (58, ([(0, xR false [17]), (1, xI 0 9), (2, xF), (3, xI (-1) (-1)), (4, xI 0 99), (5, xI 0 1), (6, xI 0 10)], [], [(0, 12, 0, xR false [46])]), (6, true), [4], false, 1, [])] [] 2500 (by decide +kernel) (by decide +kernel) uk203 (by decide +kernel)
def uM213 : xM := x_exc xM213 xc2
def uT213 : xTab := ([], [], [], [], [], [], [(110, 9), (246, -1)], [(1, 87, 3, none, xM212), (0, 76, 3, some 17, xM142), (0, 116, 3, some 17, uM160), (0, 151, 2, some 17, xM171)], [], [], [])
set_option maxRecDepth 100000 in
set_option maxHeartbeats 4000000 in
theorem uk213 : x_TOK vwCl x_G x_Zs x_Tb x_Nb uM213 uT213 := by
  intro p l e s m args below meth c D U hx hb hml hts hown hK hK0 hU hnm hN
  have X : x_cx p s m args c D U uM213.2.1 uM213.2.2.1 vwCl x_Tb x_Nb uM213.1.cls := ⟨hx, hb, hml, hown, hts, hK, hK0, hU, hN, x_Tb_good, x_Nb_ok⟩
  exact ⟨x_nilm, x_nilm, x_nilm, x_nilm, x_nilm, x_nilm, (x_cons ⟨9, rfl, (hts _ (x_at 1172 (by decide +kernel) rfl))⟩ (x_cons ⟨-1, rfl, (hts _ (x_at 1331 (by decide +kernel) rfl))⟩ x_nilm)), (x_cons (x_cokS X xm212 (x_cons (x_at 1147 (by decide +kernel) rfl) (x_cons (x_at 1148 (by decide +kernel) rfl) (x_cons (x_at 73 (by decide +kernel) rfl) x_nilm))) (x_at 1149 (by decide +kernel) rfl) (by decide +kernel) ⟨Nat.le_of_ble_eq_true rfl, Nat.le_of_ble_eq_true rfl⟩) (x_cons (x_cokV (ci := 12) X xm142 rfl rfl rfl (x_cons (x_at 1159 (by decide +kernel) rfl) (x_cons (x_at 1161 (by decide +kernel) rfl) (x_cons (x_at 33 (by decide +kernel) rfl) (x_cons (x_at 73 (by decide +kernel) rfl) x_nilm)))) (x_at 1162 (by decide +kernel) rfl) (by decide +kernel) ⟨Nat.le_of_ble_eq_true rfl, Nat.le_of_ble_eq_true rfl⟩) (x_cons (x_cokV (ci := 12) X um160 rfl rfl rfl (x_cons (x_at 1179 (by decide +kernel) rfl) (x_cons (x_at 1181 (by decide +kernel) rfl) (x_cons (x_at 35 (by decide +kernel) rfl) (x_cons (x_at 73 (by decide +kernel) rfl) x_nilm)))) (x_at 1182 (by decide +kernel) rfl) (by decide +kernel) ⟨Nat.le_of_ble_eq_true rfl, Nat.le_of_ble_eq_true rfl⟩) (x_cons (x_cokV (ci := 12) X xm171 rfl rfl rfl (x_cons (x_at 1218 (by decide +kernel) rfl) (x_cons (x_at 1220 (by decide +kernel) rfl) (x_cons (x_at 40 (by decide +kernel) rfl) (x_cons (x_at 73 (by decide +kernel) rfl) x_nilm)))) (x_at 1221 (by decide +kernel) rfl) (by decide +kernel) ⟨Nat.le_of_ble_eq_true rfl, Nat.le_of_ble_eq_true rfl⟩) x_nilm)))), x_nilm, x_nilm, x_nilm⟩
set_option maxRecDepth 1000000 in
theorem um213 : x_Met vwCl x_G x_Zs x_Tb x_Nb uM213 := x_main uT213 [] [] 2500 (by decide +kernel) (by decide +kernel) uk213 (by decide +kernel)
def uM214 : xM := x_exc xM214 xc2
def uT214 : xTab := ([], [], [], [], [], [], [(110, 9)], [(1, 87, 3, none, xM151), (0, 102, 1, some 17, xM143), (0, 116, 3, some 17, uM160), (0, 151, 2, some 17, xM171)], [], [], [])
set_option maxRecDepth 100000 in
set_option maxHeartbeats 4000000 in
theorem uk214 : x_TOK vwCl x_G x_Zs x_Tb x_Nb uM214 uT214 := by
  intro p l e s m args below meth c D U hx hb hml hts hown hK hK0 hU hnm hN
  have X : x_cx p s m args c D U uM214.2.1 uM214.2.2.1 vwCl x_Tb x_Nb uM214.1.cls := ⟨hx, hb, hml, hown, hts, hK, hK0, hU, hN, x_Tb_good, x_Nb_ok⟩
  exact ⟨x_nilm, x_nilm, x_nilm, x_nilm, x_nilm, x_nilm, (x_cons ⟨9, rfl, (hts _ (x_at 1172 (by decide +kernel) rfl))⟩ x_nilm), (x_cons (x_cokS X xm151 (x_cons (x_at 1147 (by decide +kernel) rfl) (x_cons (x_at 1148 (by decide +kernel) rfl) (x_cons (x_at 73 (by decide +kernel) rfl) x_nilm))) (x_at 1149 (by decide +kernel) rfl) (by decide +kernel) ⟨Nat.le_of_ble_eq_true rfl, Nat.le_of_ble_eq_true rfl⟩) (x_cons (x_cokV (ci := 12) X xm143 rfl rfl rfl (x_cons (x_at 1155 (by decide +kernel) rfl) (x_cons (x_at 1157 (by decide +kernel) rfl) (x_cons (x_at 32 (by decide +kernel) rfl) (x_cons (x_at 73 (by decide +kernel) rfl) x_nilm)))) (x_at 1158 (by decide +kernel) rfl) (by decide +kernel) ⟨Nat.le_of_ble_eq_true rfl, Nat.le_of_ble_eq_true rfl⟩) (x_cons (x_cokV (ci := 12) X um160 rfl rfl rfl (x_cons (x_at 1179 (by decide +kernel) rfl) (x_cons (x_at 1181 (by decide +kernel) rfl) (x_cons (x_at 35 (by decide +kernel) rfl) (x_cons (x_at 73 (by decide +kernel) rfl) x_nilm)))) (x_at 1182 (by decide +kernel) rfl) (by decide +kernel) ⟨Nat.le_of_ble_eq_true rfl, Nat.le_of_ble_eq_true rfl⟩) (x_cons (x_cokV (ci := 12) X xm171 rfl rfl rfl (x_cons (x_at 1218 (by decide +kernel) rfl) (x_cons (x_at 1220 (by decide +kernel) rfl) (x_cons (x_at 40 (by decide +kernel) rfl) (x_cons (x_at 73 (by decide +kernel) rfl) x_nilm)))) (x_at 1221 (by decide +kernel) rfl) (by decide +kernel) ⟨Nat.le_of_ble_eq_true rfl, Nat.le_of_ble_eq_true rfl⟩) x_nilm)))), x_nilm, x_nilm, x_nilm⟩
set_option maxRecDepth 1000000 in
theorem um214 : x_Met vwCl x_G x_Zs x_Tb x_Nb uM214 := x_main uT214 [] [] 2500 (by decide +kernel) (by decide +kernel) uk214 (by decide +kernel)
def uM219 : xM := x_exc xM219 xc2
def uT219 : xTab := ([(7, 17, 0)], [], [], [], [], [], [(248, 11)], [(1, 87, 3, none, xM196), (1, 87, 3, none, xM188), (0, 102, 1, some 17, xM143), (0, 151, 2, some 17, xM171)], [], [], [])
set_option maxRecDepth 100000 in
set_option maxHeartbeats 4000000 in
theorem uk219 : x_TOK vwCl x_G x_Zs x_Tb x_Nb uM219 uT219 := by
  intro p l e s m args below meth c D U hx hb hml hts hown hK hK0 hU hnm hN
  have X : x_cx p s m args c D U uM219.2.1 uM219.2.2.1 vwCl x_Tb x_Nb uM219.1.cls := ⟨hx, hb, hml, hown, hts, hK, hK0, hU, hN, x_Tb_good, x_Nb_ok⟩
  exact ⟨(x_cons (fl190 hts) x_nilm), x_nilm, x_nilm, x_nilm, x_nilm, x_nilm, (x_cons ⟨11, rfl, (hts _ (x_at 1340 (by decide +kernel) rfl))⟩ x_nilm), (x_cons (x_cokS X xm196 (x_cons (x_at 1147 (by decide +kernel) rfl) (x_cons (x_at 1148 (by decide +kernel) rfl) (x_cons (x_at 73 (by decide +kernel) rfl) x_nilm))) (x_at 1149 (by decide +kernel) rfl) (by decide +kernel) ⟨Nat.le_of_ble_eq_true rfl, Nat.le_of_ble_eq_true rfl⟩) (x_cons (x_cokS X xm188 (x_cons (x_at 1147 (by decide +kernel) rfl) (x_cons (x_at 1148 (by decide +kernel) rfl) (x_cons (x_at 73 (by decide +kernel) rfl) x_nilm))) (x_at 1149 (by decide +kernel) rfl) (by decide +kernel) ⟨Nat.le_of_ble_eq_true rfl, Nat.le_of_ble_eq_true rfl⟩) (x_cons (x_cokV (ci := 12) X xm143 rfl rfl rfl (x_cons (x_at 1155 (by decide +kernel) rfl) (x_cons (x_at 1157 (by decide +kernel) rfl) (x_cons (x_at 32 (by decide +kernel) rfl) (x_cons (x_at 73 (by decide +kernel) rfl) x_nilm)))) (x_at 1158 (by decide +kernel) rfl) (by decide +kernel) ⟨Nat.le_of_ble_eq_true rfl, Nat.le_of_ble_eq_true rfl⟩) (x_cons (x_cokV (ci := 12) X xm171 rfl rfl rfl (x_cons (x_at 1218 (by decide +kernel) rfl) (x_cons (x_at 1220 (by decide +kernel) rfl) (x_cons (x_at 40 (by decide +kernel) rfl) (x_cons (x_at 73 (by decide +kernel) rfl) x_nilm)))) (x_at 1221 (by decide +kernel) rfl) (by decide +kernel) ⟨Nat.le_of_ble_eq_true rfl, Nat.le_of_ble_eq_true rfl⟩) x_nilm)))), x_nilm, x_nilm, x_nilm⟩
set_option maxRecDepth 1000000 in
theorem um219 : x_Met vwCl x_G x_Zs x_Tb x_Nb uM219 := x_main uT219 [] [] 2500 (by decide +kernel) (by decide +kernel) uk219 (by decide +kernel)
