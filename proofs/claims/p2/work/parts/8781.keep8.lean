abbrev xc8 : List (Nat × Nat) := [(46, 1116), (46, 1117), (46, 1118), (46, 1119), (46, 1120), (46, 1121), (46, 1122), (46, 1123), (46, 1124), (46, 1125), (46, 1126), (46, 1127)]
theorem xc8_a : ∀ z ∈ xc8, z.1 = 46 ∧ 1000 ≤ z.2 := by decide
theorem xc8_ok : ∀ z ∈ xc8, 1000 ≤ z.2 ∧ ∃ q, x_G[z.1]? = some (.inr q) := fun z hz => ⟨(xc8_a z hz).2, by rw [(xc8_a z hz).1]; exact ⟨_, rfl⟩⟩
theorem xc8_in : ∀ q, q < 12 → (46, 116 + q + 1000) ∈ xc8 := by decide
def xM160n : xM := (xM160.1, xM160.2.1, xM160.2.2.1, xM160.2.2.2.1, [xR false [17], xI 13 115, xF], [([xR false [17], xI 13 115, xF], some (xF))], [(46, 0)], (0, 0, 0, 0), none)
def vM140 : xM := x_exc xM140 xc8
def vT140 : xTab := ([(7, 17, 0)], [], [], [], [], [], [], [], [], [], [])
set_option maxRecDepth 100000 in
set_option maxHeartbeats 4000000 in
theorem vk140 : x_TOK vwCl x_G x_Zs x_Tb x_Nb vM140 vT140 := by
  intro p l e s m args below meth c D U hx hb hml hts hown hK hK0 hU hnm hN
  have X : x_cx p s m args c D U vM140.2.1 vM140.2.2.1 vwCl x_Tb x_Nb vM140.1.cls := ⟨hx, hb, hml, hown, hts, hK, hK0, hU, hN, x_Tb_good, x_Nb_ok⟩
  exact ⟨(x_cons (fl190 hts) x_nilm), x_nilm, x_nilm, x_nilm, x_nilm, x_nilm, x_nilm, x_nilm, x_nilm, x_nilm, x_nilm⟩
set_option maxRecDepth 1000000 in
theorem vm140 : x_Met vwCl x_G x_Zs x_Tb x_Nb vM140 := x_main vT140 [] [] 2500 (by decide +kernel) (by decide +kernel) vk140 (by decide +kernel)
def vM147 : xM := x_exc xM147 xc8
def vT147 : xTab := ([(7, 17, 0)], [], [], [], [], [], [(95, 19), (97, 99)], [(1, 87, 3, none, xM141), (1, 87, 3, none, xM144), (0, 99, 3, some 17, xM145), (0, 102, 1, some 17, xM143), (0, 105, 1, some 17, xM146)], [], [], [])
set_option maxRecDepth 100000 in
set_option maxHeartbeats 4000000 in
theorem vk147 : x_TOK vwCl x_G x_Zs x_Tb x_Nb vM147 vT147 := by
  intro p l e s m args below meth c D U hx hb hml hts hown hK hK0 hU hnm hN
  have X : x_cx p s m args c D U vM147.2.1 vM147.2.2.1 vwCl x_Tb x_Nb vM147.1.cls := ⟨hx, hb, hml, hown, hts, hK, hK0, hU, hN, x_Tb_good, x_Nb_ok⟩
  exact ⟨(x_cons (fl190 hts) x_nilm), x_nilm, x_nilm, x_nilm, x_nilm, x_nilm, (x_cons ⟨19, rfl, (hts _ (x_at 1146 (by decide +kernel) rfl))⟩ (x_cons ⟨99, rfl, (hts _ (x_at 1150 (by decide +kernel) rfl))⟩ x_nilm)), (x_cons (x_cokS X xm141 (x_cons (x_at 1147 (by decide +kernel) rfl) (x_cons (x_at 1148 (by decide +kernel) rfl) (x_cons (x_at 73 (by decide +kernel) rfl) x_nilm))) (x_at 1149 (by decide +kernel) rfl) (by decide +kernel) ⟨Nat.le_of_ble_eq_true rfl, Nat.le_of_ble_eq_true rfl⟩) (x_cons (x_cokS X xm144 (x_cons (x_at 1147 (by decide +kernel) rfl) (x_cons (x_at 1148 (by decide +kernel) rfl) (x_cons (x_at 73 (by decide +kernel) rfl) x_nilm))) (x_at 1149 (by decide +kernel) rfl) (by decide +kernel) ⟨Nat.le_of_ble_eq_true rfl, Nat.le_of_ble_eq_true rfl⟩) (x_cons (x_cokV (ci := 12) X xm145 rfl rfl rfl (x_cons (x_at 1151 (by decide +kernel) rfl) (x_cons (x_at 1153 (by decide +kernel) rfl) (x_cons (x_at 31 (by decide +kernel) rfl) (x_cons (x_at 73 (by decide +kernel) rfl) x_nilm)))) (x_at 1154 (by decide +kernel) rfl) (by decide +kernel) ⟨Nat.le_of_ble_eq_true rfl, Nat.le_of_ble_eq_true rfl⟩) (x_cons (x_cokV (ci := 12) X xm143 rfl rfl rfl (x_cons (x_at 1155 (by decide +kernel) rfl) (x_cons (x_at 1157 (by decide +kernel) rfl) (x_cons (x_at 32 (by decide +kernel) rfl) (x_cons (x_at 73 (by decide +kernel) rfl) x_nilm)))) (x_at 1158 (by decide +kernel) rfl) (by decide +kernel) ⟨Nat.le_of_ble_eq_true rfl, Nat.le_of_ble_eq_true rfl⟩) (x_cons (x_cokV (ci := 12) X xm146 rfl rfl rfl (x_cons (x_at 1163 (by decide +kernel) rfl) (x_cons (x_at 1165 (by decide +kernel) rfl) (x_cons (x_at 34 (by decide +kernel) rfl) (x_cons (x_at 73 (by decide +kernel) rfl) x_nilm)))) (x_at 1166 (by decide +kernel) rfl) (by decide +kernel) ⟨Nat.le_of_ble_eq_true rfl, Nat.le_of_ble_eq_true rfl⟩) x_nilm))))), x_nilm, x_nilm, x_nilm⟩
set_option maxRecDepth 1000000 in
theorem vm147 : x_Met vwCl x_G x_Zs x_Tb x_Nb vM147 := x_main vT147 [(46, ([(0, xR false [17]), (1, xF), (2, xF), (3, xF), (4, xI 0 1), (5, xI 0 10)], [], []), (5, true), [], false, 0, [])] [] 2500 (by decide +kernel) (by decide +kernel) vk147 (by decide +kernel)
def vM152 : xM := x_exc xM152 xc8
def vT152 : xTab := ([(7, 17, 0)], [], [], [], [], [], [(95, 19), (97, 99), (108, 5), (110, 9)], [(1, 87, 3, none, xM149), (1, 87, 3, none, xM141), (1, 87, 3, none, xM144), (1, 87, 3, none, xM150), (1, 87, 3, none, xM151), (0, 102, 1, some 17, xM143), (0, 105, 1, some 17, xM146)], [], [], [])
set_option maxRecDepth 100000 in
set_option maxHeartbeats 4000000 in
theorem vk152 : x_TOK vwCl x_G x_Zs x_Tb x_Nb vM152 vT152 := by
  intro p l e s m args below meth c D U hx hb hml hts hown hK hK0 hU hnm hN
  have X : x_cx p s m args c D U vM152.2.1 vM152.2.2.1 vwCl x_Tb x_Nb vM152.1.cls := ⟨hx, hb, hml, hown, hts, hK, hK0, hU, hN, x_Tb_good, x_Nb_ok⟩
  exact ⟨(x_cons (fl190 hts) x_nilm), x_nilm, x_nilm, x_nilm, x_nilm, x_nilm, (x_cons ⟨19, rfl, (hts _ (x_at 1146 (by decide +kernel) rfl))⟩ (x_cons ⟨99, rfl, (hts _ (x_at 1150 (by decide +kernel) rfl))⟩ (x_cons ⟨5, rfl, (hts _ (x_at 1171 (by decide +kernel) rfl))⟩ (x_cons ⟨9, rfl, (hts _ (x_at 1172 (by decide +kernel) rfl))⟩ x_nilm)))), (x_cons (x_cokS X xm149 (x_cons (x_at 1147 (by decide +kernel) rfl) (x_cons (x_at 1148 (by decide +kernel) rfl) (x_cons (x_at 73 (by decide +kernel) rfl) x_nilm))) (x_at 1149 (by decide +kernel) rfl) (by decide +kernel) ⟨Nat.le_of_ble_eq_true rfl, Nat.le_of_ble_eq_true rfl⟩) (x_cons (x_cokS X xm141 (x_cons (x_at 1147 (by decide +kernel) rfl) (x_cons (x_at 1148 (by decide +kernel) rfl) (x_cons (x_at 73 (by decide +kernel) rfl) x_nilm))) (x_at 1149 (by decide +kernel) rfl) (by decide +kernel) ⟨Nat.le_of_ble_eq_true rfl, Nat.le_of_ble_eq_true rfl⟩) (x_cons (x_cokS X xm144 (x_cons (x_at 1147 (by decide +kernel) rfl) (x_cons (x_at 1148 (by decide +kernel) rfl) (x_cons (x_at 73 (by decide +kernel) rfl) x_nilm))) (x_at 1149 (by decide +kernel) rfl) (by decide +kernel) ⟨Nat.le_of_ble_eq_true rfl, Nat.le_of_ble_eq_true rfl⟩) (x_cons (x_cokS X xm150 (x_cons (x_at 1147 (by decide +kernel) rfl) (x_cons (x_at 1148 (by decide +kernel) rfl) (x_cons (x_at 73 (by decide +kernel) rfl) x_nilm))) (x_at 1149 (by decide +kernel) rfl) (by decide +kernel) ⟨Nat.le_of_ble_eq_true rfl, Nat.le_of_ble_eq_true rfl⟩) (x_cons (x_cokS X xm151 (x_cons (x_at 1147 (by decide +kernel) rfl) (x_cons (x_at 1148 (by decide +kernel) rfl) (x_cons (x_at 73 (by decide +kernel) rfl) x_nilm))) (x_at 1149 (by decide +kernel) rfl) (by decide +kernel) ⟨Nat.le_of_ble_eq_true rfl, Nat.le_of_ble_eq_true rfl⟩) (x_cons (x_cokV (ci := 12) X xm143 rfl rfl rfl (x_cons (x_at 1155 (by decide +kernel) rfl) (x_cons (x_at 1157 (by decide +kernel) rfl) (x_cons (x_at 32 (by decide +kernel) rfl) (x_cons (x_at 73 (by decide +kernel) rfl) x_nilm)))) (x_at 1158 (by decide +kernel) rfl) (by decide +kernel) ⟨Nat.le_of_ble_eq_true rfl, Nat.le_of_ble_eq_true rfl⟩) (x_cons (x_cokV (ci := 12) X xm146 rfl rfl rfl (x_cons (x_at 1163 (by decide +kernel) rfl) (x_cons (x_at 1165 (by decide +kernel) rfl) (x_cons (x_at 34 (by decide +kernel) rfl) (x_cons (x_at 73 (by decide +kernel) rfl) x_nilm)))) (x_at 1166 (by decide +kernel) rfl) (by decide +kernel) ⟨Nat.le_of_ble_eq_true rfl, Nat.le_of_ble_eq_true rfl⟩) x_nilm))))))), x_nilm, x_nilm, x_nilm⟩
set_option maxRecDepth 1000000 in
theorem vm152 : x_Met vwCl x_G x_Zs x_Tb x_Nb vM152 := x_main vT152 [] [] 2500 (by decide +kernel) (by decide +kernel) vk152 (by decide +kernel)
def vM153 : xM := x_exc xM153 xc8
def vT153 : xTab := ([(7, 17, 0)], [], [], [], [], [], [], [], [], [], [])
set_option maxRecDepth 100000 in
set_option maxHeartbeats 4000000 in
theorem vk153 : x_TOK vwCl x_G x_Zs x_Tb x_Nb vM153 vT153 := by
  intro p l e s m args below meth c D U hx hb hml hts hown hK hK0 hU hnm hN
  have X : x_cx p s m args c D U vM153.2.1 vM153.2.2.1 vwCl x_Tb x_Nb vM153.1.cls := ⟨hx, hb, hml, hown, hts, hK, hK0, hU, hN, x_Tb_good, x_Nb_ok⟩
  exact ⟨(x_cons (fl190 hts) x_nilm), x_nilm, x_nilm, x_nilm, x_nilm, x_nilm, x_nilm, x_nilm, x_nilm, x_nilm, x_nilm⟩
set_option maxRecDepth 1000000 in
theorem vm153 : x_Met vwCl x_G x_Zs x_Tb x_Nb vM153 := x_main vT153 [] [] 2500 (by decide +kernel) (by decide +kernel) vk153 (by decide +kernel)
def vM155 : xM := x_exc xM155 xc8
def vT155 : xTab := ([(7, 17, 0)], [], [], [], [], [], [], [], [], [], [])
set_option maxRecDepth 100000 in
set_option maxHeartbeats 4000000 in
theorem vk155 : x_TOK vwCl x_G x_Zs x_Tb x_Nb vM155 vT155 := by
  intro p l e s m args below meth c D U hx hb hml hts hown hK hK0 hU hnm hN
  have X : x_cx p s m args c D U vM155.2.1 vM155.2.2.1 vwCl x_Tb x_Nb vM155.1.cls := ⟨hx, hb, hml, hown, hts, hK, hK0, hU, hN, x_Tb_good, x_Nb_ok⟩
  exact ⟨(x_cons (fl190 hts) x_nilm), x_nilm, x_nilm, x_nilm, x_nilm, x_nilm, x_nilm, x_nilm, x_nilm, x_nilm, x_nilm⟩
set_option maxRecDepth 1000000 in
theorem vm155 : x_Met vwCl x_G x_Zs x_Tb x_Nb vM155 := x_main vT155 [] [] 2500 (by decide +kernel) (by decide +kernel) vk155 (by decide +kernel)
def vM157 : xM := x_exc xM157 xc8
def vT157 : xTab := ([(7, 17, 0)], [], [], [], [], [], [], [], [], [], [])
set_option maxRecDepth 100000 in
set_option maxHeartbeats 4000000 in
theorem vk157 : x_TOK vwCl x_G x_Zs x_Tb x_Nb vM157 vT157 := by
  intro p l e s m args below meth c D U hx hb hml hts hown hK hK0 hU hnm hN
  have X : x_cx p s m args c D U vM157.2.1 vM157.2.2.1 vwCl x_Tb x_Nb vM157.1.cls := ⟨hx, hb, hml, hown, hts, hK, hK0, hU, hN, x_Tb_good, x_Nb_ok⟩
  exact ⟨(x_cons (fl190 hts) x_nilm), x_nilm, x_nilm, x_nilm, x_nilm, x_nilm, x_nilm, x_nilm, x_nilm, x_nilm, x_nilm⟩
set_option maxRecDepth 1000000 in
theorem vm157 : x_Met vwCl x_G x_Zs x_Tb x_Nb vM157 := x_main vT157 [] [] 2500 (by decide +kernel) (by decide +kernel) vk157 (by decide +kernel)
def vM158 : xM := x_exc xM158 xc8
def vT158 : xTab := ([(7, 17, 0)], [], [], [], [], [], [], [], [], [], [])
set_option maxRecDepth 100000 in
set_option maxHeartbeats 4000000 in
theorem vk158 : x_TOK vwCl x_G x_Zs x_Tb x_Nb vM158 vT158 := by
  intro p l e s m args below meth c D U hx hb hml hts hown hK hK0 hU hnm hN
  have X : x_cx p s m args c D U vM158.2.1 vM158.2.2.1 vwCl x_Tb x_Nb vM158.1.cls := ⟨hx, hb, hml, hown, hts, hK, hK0, hU, hN, x_Tb_good, x_Nb_ok⟩
  exact ⟨(x_cons (fl190 hts) x_nilm), x_nilm, x_nilm, x_nilm, x_nilm, x_nilm, x_nilm, x_nilm, x_nilm, x_nilm, x_nilm⟩
set_option maxRecDepth 1000000 in
theorem vm158 : x_Met vwCl x_G x_Zs x_Tb x_Nb vM158 := x_main vT158 [] [] 2500 (by decide +kernel) (by decide +kernel) vk158 (by decide +kernel)
def vM159 : xM := x_exc xM159 xc8
def vT159 : xTab := ([], [], [], [], [], [], [(97, 99), (112, 3), (114, 10)], [(1, 87, 3, none, xM144), (1, 87, 3, none, xM154), (1, 87, 3, none, xM156), (0, 102, 1, some 17, xM143), (0, 116, 3, some 17, vM155), (0, 116, 3, some 17, vM157), (0, 116, 3, some 17, vM153), (0, 116, 3, some 17, vM158)], [], [], [])
set_option maxRecDepth 100000 in
set_option maxHeartbeats 4000000 in
theorem vk159 : x_TOK vwCl x_G x_Zs x_Tb x_Nb vM159 vT159 := by
  intro p l e s m args below meth c D U hx hb hml hts hown hK hK0 hU hnm hN
  have X : x_cx p s m args c D U vM159.2.1 vM159.2.2.1 vwCl x_Tb x_Nb vM159.1.cls := ⟨hx, hb, hml, hown, hts, hK, hK0, hU, hN, x_Tb_good, x_Nb_ok⟩
  exact ⟨x_nilm, x_nilm, x_nilm, x_nilm, x_nilm, x_nilm, (x_cons ⟨99, rfl, (hts _ (x_at 1150 (by decide +kernel) rfl))⟩ (x_cons ⟨3, rfl, (hts _ (x_at 1177 (by decide +kernel) rfl))⟩ (x_cons ⟨10, rfl, (hts _ (x_at 1178 (by decide +kernel) rfl))⟩ x_nilm))), (x_cons (x_cokS X xm144 (x_cons (x_at 1147 (by decide +kernel) rfl) (x_cons (x_at 1148 (by decide +kernel) rfl) (x_cons (x_at 73 (by decide +kernel) rfl) x_nilm))) (x_at 1149 (by decide +kernel) rfl) (by decide +kernel) ⟨Nat.le_of_ble_eq_true rfl, Nat.le_of_ble_eq_true rfl⟩) (x_cons (x_cokS X xm154 (x_cons (x_at 1147 (by decide +kernel) rfl) (x_cons (x_at 1148 (by decide +kernel) rfl) (x_cons (x_at 73 (by decide +kernel) rfl) x_nilm))) (x_at 1149 (by decide +kernel) rfl) (by decide +kernel) ⟨Nat.le_of_ble_eq_true rfl, Nat.le_of_ble_eq_true rfl⟩) (x_cons (x_cokS X xm156 (x_cons (x_at 1147 (by decide +kernel) rfl) (x_cons (x_at 1148 (by decide +kernel) rfl) (x_cons (x_at 73 (by decide +kernel) rfl) x_nilm))) (x_at 1149 (by decide +kernel) rfl) (by decide +kernel) ⟨Nat.le_of_ble_eq_true rfl, Nat.le_of_ble_eq_true rfl⟩) (x_cons (x_cokV (ci := 12) X xm143 rfl rfl rfl (x_cons (x_at 1155 (by decide +kernel) rfl) (x_cons (x_at 1157 (by decide +kernel) rfl) (x_cons (x_at 32 (by decide +kernel) rfl) (x_cons (x_at 73 (by decide +kernel) rfl) x_nilm)))) (x_at 1158 (by decide +kernel) rfl) (by decide +kernel) ⟨Nat.le_of_ble_eq_true rfl, Nat.le_of_ble_eq_true rfl⟩) (x_cons (x_cokV (ci := 12) X vm155 rfl rfl rfl (x_cons (x_at 1179 (by decide +kernel) rfl) (x_cons (x_at 1181 (by decide +kernel) rfl) (x_cons (x_at 35 (by decide +kernel) rfl) (x_cons (x_at 73 (by decide +kernel) rfl) x_nilm)))) (x_at 1182 (by decide +kernel) rfl) (by decide +kernel) ⟨Nat.le_of_ble_eq_true rfl, Nat.le_of_ble_eq_true rfl⟩) (x_cons (x_cokV (ci := 12) X vm157 rfl rfl rfl (x_cons (x_at 1179 (by decide +kernel) rfl) (x_cons (x_at 1181 (by decide +kernel) rfl) (x_cons (x_at 35 (by decide +kernel) rfl) (x_cons (x_at 73 (by decide +kernel) rfl) x_nilm)))) (x_at 1182 (by decide +kernel) rfl) (by decide +kernel) ⟨Nat.le_of_ble_eq_true rfl, Nat.le_of_ble_eq_true rfl⟩) (x_cons (x_cokV (ci := 12) X vm153 rfl rfl rfl (x_cons (x_at 1179 (by decide +kernel) rfl) (x_cons (x_at 1181 (by decide +kernel) rfl) (x_cons (x_at 35 (by decide +kernel) rfl) (x_cons (x_at 73 (by decide +kernel) rfl) x_nilm)))) (x_at 1182 (by decide +kernel) rfl) (by decide +kernel) ⟨Nat.le_of_ble_eq_true rfl, Nat.le_of_ble_eq_true rfl⟩) (x_cons (x_cokV (ci := 12) X vm158 rfl rfl rfl (x_cons (x_at 1179 (by decide +kernel) rfl) (x_cons (x_at 1181 (by decide +kernel) rfl) (x_cons (x_at 35 (by decide +kernel) rfl) (x_cons (x_at 73 (by decide +kernel) rfl) x_nilm)))) (x_at 1182 (by decide +kernel) rfl) (by decide +kernel) ⟨Nat.le_of_ble_eq_true rfl, Nat.le_of_ble_eq_true rfl⟩) x_nilm)))))))), x_nilm, x_nilm, x_nilm⟩
set_option maxRecDepth 1000000 in
theorem vm159 : x_Met vwCl x_G x_Zs x_Tb x_Nb vM159 := x_main vT159 [] [] 2500 (by decide +kernel) (by decide +kernel) vk159 (by decide +kernel)
def vM160 : xM := x_exc xM160n xc8
def vT160 : xTab := ([(7, 17, 0)], [], [], [], [], [], [], [], [], [], [])
set_option maxRecDepth 100000 in
set_option maxHeartbeats 4000000 in
theorem vk160 : x_TOK vwCl x_G x_Zs x_Tb x_Nb vM160 vT160 := by
  intro p l e s m args below meth c D U hx hb hml hts hown hK hK0 hU hnm hN
  have X : x_cx p s m args c D U vM160.2.1 vM160.2.2.1 vwCl x_Tb x_Nb vM160.1.cls := ⟨hx, hb, hml, hown, hts, hK, hK0, hU, hN, x_Tb_good, x_Nb_ok⟩
  exact ⟨(x_cons (fl190 hts) x_nilm), x_nilm, x_nilm, x_nilm, x_nilm, x_nilm, x_nilm, x_nilm, x_nilm, x_nilm, x_nilm⟩
set_option maxRecDepth 1000000 in
theorem vm160 : x_Met vwCl x_G x_Zs x_Tb x_Nb vM160 := x_main vT160 [] [] 2500 (by decide +kernel) (by decide +kernel) vk160 (by decide +kernel)
def vM165 : xM := x_exc xM165 xc8
def vT165 : xTab := ([(7, 17, 0)], [], [], [], [], [], [], [(0, 102, 1, some 17, xM143), (0, 119, 2, some 17, xM162), (0, 123, 3, some 17, xM163), (0, 126, 1, some 17, xM164)], [], [], [])
set_option maxRecDepth 100000 in
set_option maxHeartbeats 4000000 in
theorem vk165 : x_TOK vwCl x_G x_Zs x_Tb x_Nb vM165 vT165 := by
  intro p l e s m args below meth c D U hx hb hml hts hown hK hK0 hU hnm hN
  have X : x_cx p s m args c D U vM165.2.1 vM165.2.2.1 vwCl x_Tb x_Nb vM165.1.cls := ⟨hx, hb, hml, hown, hts, hK, hK0, hU, hN, x_Tb_good, x_Nb_ok⟩
  exact ⟨(x_cons (fl190 hts) x_nilm), x_nilm, x_nilm, x_nilm, x_nilm, x_nilm, x_nilm, (x_cons (x_cokV (ci := 12) X xm143 rfl rfl rfl (x_cons (x_at 1155 (by decide +kernel) rfl) (x_cons (x_at 1157 (by decide +kernel) rfl) (x_cons (x_at 32 (by decide +kernel) rfl) (x_cons (x_at 73 (by decide +kernel) rfl) x_nilm)))) (x_at 1158 (by decide +kernel) rfl) (by decide +kernel) ⟨Nat.le_of_ble_eq_true rfl, Nat.le_of_ble_eq_true rfl⟩) (x_cons (x_cokV (ci := 12) X xm162 rfl rfl rfl (x_cons (x_at 1187 (by decide +kernel) rfl) (x_cons (x_at 1189 (by decide +kernel) rfl) (x_cons (x_at 36 (by decide +kernel) rfl) (x_cons (x_at 73 (by decide +kernel) rfl) x_nilm)))) (x_at 1190 (by decide +kernel) rfl) (by decide +kernel) ⟨Nat.le_of_ble_eq_true rfl, Nat.le_of_ble_eq_true rfl⟩) (x_cons (x_cokV (ci := 12) X xm163 rfl rfl rfl (x_cons (x_at 1191 (by decide +kernel) rfl) (x_cons (x_at 1193 (by decide +kernel) rfl) (x_cons (x_at 37 (by decide +kernel) rfl) (x_cons (x_at 73 (by decide +kernel) rfl) x_nilm)))) (x_at 1194 (by decide +kernel) rfl) (by decide +kernel) ⟨Nat.le_of_ble_eq_true rfl, Nat.le_of_ble_eq_true rfl⟩) (x_cons (x_cokV (ci := 12) X xm164 rfl rfl rfl (x_cons (x_at 1195 (by decide +kernel) rfl) (x_cons (x_at 1197 (by decide +kernel) rfl) (x_cons (x_at 38 (by decide +kernel) rfl) (x_cons (x_at 73 (by decide +kernel) rfl) x_nilm)))) (x_at 1198 (by decide +kernel) rfl) (by decide +kernel) ⟨Nat.le_of_ble_eq_true rfl, Nat.le_of_ble_eq_true rfl⟩) x_nilm)))), x_nilm, x_nilm, x_nilm⟩
set_option maxRecDepth 1000000 in
theorem vm165 : x_Met vwCl x_G x_Zs x_Tb x_Nb vM165 := x_main vT165 [] [] 2500 (by decide +kernel) (by decide +kernel) vk165 (by decide +kernel)
def vM166 : xM := x_exc xM166 xc8
def vT166 : xTab := ([], [], [], [], [], [], [(97, 99)], [(1, 87, 3, none, xM144), (0, 102, 1, some 17, xM143), (0, 116, 3, some 17, vM160), (0, 119, 2, some 17, xM162)], [], [], [])
set_option maxRecDepth 100000 in
set_option maxHeartbeats 4000000 in
theorem vk166 : x_TOK vwCl x_G x_Zs x_Tb x_Nb vM166 vT166 := by
  intro p l e s m args below meth c D U hx hb hml hts hown hK hK0 hU hnm hN
  have X : x_cx p s m args c D U vM166.2.1 vM166.2.2.1 vwCl x_Tb x_Nb vM166.1.cls := ⟨hx, hb, hml, hown, hts, hK, hK0, hU, hN, x_Tb_good, x_Nb_ok⟩
  exact ⟨x_nilm, x_nilm, x_nilm, x_nilm, x_nilm, x_nilm, (x_cons ⟨99, rfl, (hts _ (x_at 1150 (by decide +kernel) rfl))⟩ x_nilm), (x_cons (x_cokS X xm144 (x_cons (x_at 1147 (by decide +kernel) rfl) (x_cons (x_at 1148 (by decide +kernel) rfl) (x_cons (x_at 73 (by decide +kernel) rfl) x_nilm))) (x_at 1149 (by decide +kernel) rfl) (by decide +kernel) ⟨Nat.le_of_ble_eq_true rfl, Nat.le_of_ble_eq_true rfl⟩) (x_cons (x_cokV (ci := 12) X xm143 rfl rfl rfl (x_cons (x_at 1155 (by decide +kernel) rfl) (x_cons (x_at 1157 (by decide +kernel) rfl) (x_cons (x_at 32 (by decide +kernel) rfl) (x_cons (x_at 73 (by decide +kernel) rfl) x_nilm)))) (x_at 1158 (by decide +kernel) rfl) (by decide +kernel) ⟨Nat.le_of_ble_eq_true rfl, Nat.le_of_ble_eq_true rfl⟩) (x_cons (x_cokV (ci := 12) X vm160 rfl rfl rfl (x_cons (x_at 1179 (by decide +kernel) rfl) (x_cons (x_at 1181 (by decide +kernel) rfl) (x_cons (x_at 35 (by decide +kernel) rfl) (x_cons (x_at 73 (by decide +kernel) rfl) x_nilm)))) (x_at 1182 (by decide +kernel) rfl) (by decide +kernel) ⟨Nat.le_of_ble_eq_true rfl, Nat.le_of_ble_eq_true rfl⟩) (x_cons (x_cokV (ci := 12) X xm162 rfl rfl rfl (x_cons (x_at 1187 (by decide +kernel) rfl) (x_cons (x_at 1189 (by decide +kernel) rfl) (x_cons (x_at 36 (by decide +kernel) rfl) (x_cons (x_at 73 (by decide +kernel) rfl) x_nilm)))) (x_at 1190 (by decide +kernel) rfl) (by decide +kernel) ⟨Nat.le_of_ble_eq_true rfl, Nat.le_of_ble_eq_true rfl⟩) x_nilm)))), x_nilm, x_nilm, x_nilm⟩
set_option maxRecDepth 1000000 in
theorem vm166 : x_Met vwCl x_G x_Zs x_Tb x_Nb vM166 := x_main vT166 [] [] 2500 (by decide +kernel) (by decide +kernel) vk166 (by decide +kernel)
def vM181 : xM := x_exc xM181 xc8
def vT181 : xTab := ([(32, 17, 15), (35, 17, 16)], [], [], [], [], [], [], [(0, 219, 3, some 17, vM159), (0, 222, 4, some 17, vM147), (0, 226, 6, some 17, vM152)], [], [], [])
set_option maxRecDepth 100000 in
set_option maxHeartbeats 4000000 in
theorem vk181 : x_TOK vwCl x_G x_Zs x_Tb x_Nb vM181 vT181 := by
  intro p l e s m args below meth c D U hx hb hml hts hown hK hK0 hU hnm hN
  have X : x_cx p s m args c D U vM181.2.1 vM181.2.2.1 vwCl x_Tb x_Nb vM181.1.cls := ⟨hx, hb, hml, hown, hts, hK, hK0, hU, hN, x_Tb_good, x_Nb_ok⟩
  exact ⟨(x_cons (fl197 hts) (x_cons (fl198 hts) x_nilm)), x_nilm, x_nilm, x_nilm, x_nilm, x_nilm, x_nilm, (x_cons (x_cokV (ci := 12) X vm159 rfl rfl rfl (x_cons (x_at 1289 (by decide +kernel) rfl) (x_cons (x_at 1174 (by decide +kernel) rfl) (x_cons (x_at 1175 (by decide +kernel) rfl) (x_cons (x_at 73 (by decide +kernel) rfl) x_nilm)))) (x_at 1176 (by decide +kernel) rfl) (by decide +kernel) ⟨Nat.le_of_ble_eq_true rfl, Nat.le_of_ble_eq_true rfl⟩) (x_cons (x_cokV (ci := 12) X vm147 rfl rfl rfl (x_cons (x_at 1290 (by decide +kernel) rfl) (x_cons (x_at 1143 (by decide +kernel) rfl) (x_cons (x_at 1144 (by decide +kernel) rfl) (x_cons (x_at 73 (by decide +kernel) rfl) x_nilm)))) (x_at 1145 (by decide +kernel) rfl) (by decide +kernel) ⟨Nat.le_of_ble_eq_true rfl, Nat.le_of_ble_eq_true rfl⟩) (x_cons (x_cokV (ci := 12) X vm152 rfl rfl rfl (x_cons (x_at 1291 (by decide +kernel) rfl) (x_cons (x_at 1168 (by decide +kernel) rfl) (x_cons (x_at 1169 (by decide +kernel) rfl) (x_cons (x_at 73 (by decide +kernel) rfl) x_nilm)))) (x_at 1170 (by decide +kernel) rfl) (by decide +kernel) ⟨Nat.le_of_ble_eq_true rfl, Nat.le_of_ble_eq_true rfl⟩) x_nilm))), x_nilm, x_nilm, x_nilm⟩
set_option maxRecDepth 1000000 in
theorem vm181 : x_Met vwCl x_G x_Zs x_Tb x_Nb vM181 := x_main vT181 [] [] 2500 (by decide +kernel) (by decide +kernel) vk181 (by decide +kernel)
def vM200 : xM := x_exc xM200 xc8
def vT200 : xTab := ([(7, 17, 0)], [], [], [], [], [], [], [(0, 123, 3, some 17, xM163), (0, 240, 1, some 17, xM186), (0, 243, 2, some 17, xM191), (0, 250, 3, some 17, xM199)], [], [], [])
set_option maxRecDepth 100000 in
set_option maxHeartbeats 4000000 in
theorem vk200 : x_TOK vwCl x_G x_Zs x_Tb x_Nb vM200 vT200 := by
  intro p l e s m args below meth c D U hx hb hml hts hown hK hK0 hU hnm hN
  have X : x_cx p s m args c D U vM200.2.1 vM200.2.2.1 vwCl x_Tb x_Nb vM200.1.cls := ⟨hx, hb, hml, hown, hts, hK, hK0, hU, hN, x_Tb_good, x_Nb_ok⟩
  exact ⟨(x_cons (fl190 hts) x_nilm), x_nilm, x_nilm, x_nilm, x_nilm, x_nilm, x_nilm, (x_cons (x_cokV (ci := 12) X xm163 rfl rfl rfl (x_cons (x_at 1191 (by decide +kernel) rfl) (x_cons (x_at 1193 (by decide +kernel) rfl) (x_cons (x_at 37 (by decide +kernel) rfl) (x_cons (x_at 73 (by decide +kernel) rfl) x_nilm)))) (x_at 1194 (by decide +kernel) rfl) (by decide +kernel) ⟨Nat.le_of_ble_eq_true rfl, Nat.le_of_ble_eq_true rfl⟩) (x_cons (x_cokV (ci := 12) X xm186 rfl rfl rfl (x_cons (x_at 1304 (by decide +kernel) rfl) (x_cons (x_at 1306 (by decide +kernel) rfl) (x_cons (x_at 50 (by decide +kernel) rfl) (x_cons (x_at 73 (by decide +kernel) rfl) x_nilm)))) (x_at 1307 (by decide +kernel) rfl) (by decide +kernel) ⟨Nat.le_of_ble_eq_true rfl, Nat.le_of_ble_eq_true rfl⟩) (x_cons (x_cokV (ci := 12) X xm191 rfl rfl rfl (x_cons (x_at 1323 (by decide +kernel) rfl) (x_cons (x_at 1325 (by decide +kernel) rfl) (x_cons (x_at 52 (by decide +kernel) rfl) (x_cons (x_at 73 (by decide +kernel) rfl) x_nilm)))) (x_at 1326 (by decide +kernel) rfl) (by decide +kernel) ⟨Nat.le_of_ble_eq_true rfl, Nat.le_of_ble_eq_true rfl⟩) (x_cons (x_cokV (ci := 12) X xm199 rfl rfl rfl (x_cons (x_at 1353 (by decide +kernel) rfl) (x_cons (x_at 1355 (by decide +kernel) rfl) (x_cons (x_at 54 (by decide +kernel) rfl) (x_cons (x_at 73 (by decide +kernel) rfl) x_nilm)))) (x_at 1356 (by decide +kernel) rfl) (by decide +kernel) ⟨Nat.le_of_ble_eq_true rfl, Nat.le_of_ble_eq_true rfl⟩) x_nilm)))), x_nilm, x_nilm, x_nilm⟩
set_option maxRecDepth 1000000 in
theorem vm200 : x_Met vwCl x_G x_Zs x_Tb x_Nb vM200 := x_main vT200 [(5, ([(0, xR false [17]), (1, xF), (2, xI 0 1), (3, xI 0 255), (4, xI 0 8)], [], []), (4, true), [], false, 0, []), (59, ([(0, xR false [17]), (1, xF), (2, xI 0 1), (3, xI 0 255), (4, xI (-1) 255), (5, xI 0 319)], [], [(0, 12, 0, xR false [46])]), (5, true), [], false, 0, []), (100, ([(0, xR false [17]), (1, xF), (2, xI 0 1), (3, xI 0 255), (4, xI (-1) 255), (5, xI 0 255), (6, xI 0 8)], [], [(0, 12, 0, xR false [46])]), (6, true), [5], false, 1, []), (166, ([(0, xR false [17]), (1, xF), (2, xI 0 1), (3, xI 0 255), (4, xI (-1) 255), (5, xI 0 255), (6, xI 0 8)], [], [(0, 12, 0, xR false [46])]), (6, true), [5], false, 1, [])] [] 2500 (by decide +kernel) (by decide +kernel) vk200 (by decide +kernel)
def vM201 : xM := x_exc xM201 xc8
def vT201 : xTab := ([], [], [], [], [], [], [], [(1, 87, 3, none, xM188), (0, 102, 1, some 17, xM143), (0, 237, 2, some 17, xM184), (0, 250, 3, some 17, xM199), (0, 254, 3, some 17, vM200)], [], [], [])
set_option maxRecDepth 100000 in
set_option maxHeartbeats 4000000 in
theorem vk201 : x_TOK vwCl x_G x_Zs x_Tb x_Nb vM201 vT201 := by
  intro p l e s m args below meth c D U hx hb hml hts hown hK hK0 hU hnm hN
  have X : x_cx p s m args c D U vM201.2.1 vM201.2.2.1 vwCl x_Tb x_Nb vM201.1.cls := ⟨hx, hb, hml, hown, hts, hK, hK0, hU, hN, x_Tb_good, x_Nb_ok⟩
  exact ⟨x_nilm, x_nilm, x_nilm, x_nilm, x_nilm, x_nilm, x_nilm, (x_cons (x_cokS X xm188 (x_cons (x_at 1147 (by decide +kernel) rfl) (x_cons (x_at 1148 (by decide +kernel) rfl) (x_cons (x_at 73 (by decide +kernel) rfl) x_nilm))) (x_at 1149 (by decide +kernel) rfl) (by decide +kernel) ⟨Nat.le_of_ble_eq_true rfl, Nat.le_of_ble_eq_true rfl⟩) (x_cons (x_cokV (ci := 12) X xm143 rfl rfl rfl (x_cons (x_at 1155 (by decide +kernel) rfl) (x_cons (x_at 1157 (by decide +kernel) rfl) (x_cons (x_at 32 (by decide +kernel) rfl) (x_cons (x_at 73 (by decide +kernel) rfl) x_nilm)))) (x_at 1158 (by decide +kernel) rfl) (by decide +kernel) ⟨Nat.le_of_ble_eq_true rfl, Nat.le_of_ble_eq_true rfl⟩) (x_cons (x_cokV (ci := 12) X xm184 rfl rfl rfl (x_cons (x_at 1296 (by decide +kernel) rfl) (x_cons (x_at 1298 (by decide +kernel) rfl) (x_cons (x_at 48 (by decide +kernel) rfl) (x_cons (x_at 73 (by decide +kernel) rfl) x_nilm)))) (x_at 1299 (by decide +kernel) rfl) (by decide +kernel) ⟨Nat.le_of_ble_eq_true rfl, Nat.le_of_ble_eq_true rfl⟩) (x_cons (x_cokV (ci := 12) X xm199 rfl rfl rfl (x_cons (x_at 1353 (by decide +kernel) rfl) (x_cons (x_at 1355 (by decide +kernel) rfl) (x_cons (x_at 54 (by decide +kernel) rfl) (x_cons (x_at 73 (by decide +kernel) rfl) x_nilm)))) (x_at 1356 (by decide +kernel) rfl) (by decide +kernel) ⟨Nat.le_of_ble_eq_true rfl, Nat.le_of_ble_eq_true rfl⟩) (x_cons (x_cokV (ci := 12) X vm200 rfl rfl rfl (x_cons (x_at 1349 (by decide +kernel) rfl) (x_cons (x_at 1351 (by decide +kernel) rfl) (x_cons (x_at 53 (by decide +kernel) rfl) (x_cons (x_at 73 (by decide +kernel) rfl) x_nilm)))) (x_at 1352 (by decide +kernel) rfl) (by decide +kernel) ⟨Nat.le_of_ble_eq_true rfl, Nat.le_of_ble_eq_true rfl⟩) x_nilm))))), x_nilm, x_nilm, x_nilm⟩
set_option maxRecDepth 1000000 in
theorem vm201 : x_Met vwCl x_G x_Zs x_Tb x_Nb vM201 := x_main vT201 [] [] 2500 (by decide +kernel) (by decide +kernel) vk201 (by decide +kernel)
def vM202 : xM := x_exc xM202 xc8
def vT202 : xTab := ([], [], [], [], [], [], [], [(1, 87, 3, none, xM188), (0, 102, 1, some 17, xM143), (0, 237, 2, some 17, xM184), (0, 250, 3, some 17, xM199), (0, 254, 3, some 17, vM200)], [], [], [])
set_option maxRecDepth 100000 in
set_option maxHeartbeats 4000000 in
theorem vk202 : x_TOK vwCl x_G x_Zs x_Tb x_Nb vM202 vT202 := by
  intro p l e s m args below meth c D U hx hb hml hts hown hK hK0 hU hnm hN
  have X : x_cx p s m args c D U vM202.2.1 vM202.2.2.1 vwCl x_Tb x_Nb vM202.1.cls := ⟨hx, hb, hml, hown, hts, hK, hK0, hU, hN, x_Tb_good, x_Nb_ok⟩
  exact ⟨x_nilm, x_nilm, x_nilm, x_nilm, x_nilm, x_nilm, x_nilm, (x_cons (x_cokS X xm188 (x_cons (x_at 1147 (by decide +kernel) rfl) (x_cons (x_at 1148 (by decide +kernel) rfl) (x_cons (x_at 73 (by decide +kernel) rfl) x_nilm))) (x_at 1149 (by decide +kernel) rfl) (by decide +kernel) ⟨Nat.le_of_ble_eq_true rfl, Nat.le_of_ble_eq_true rfl⟩) (x_cons (x_cokV (ci := 12) X xm143 rfl rfl rfl (x_cons (x_at 1155 (by decide +kernel) rfl) (x_cons (x_at 1157 (by decide +kernel) rfl) (x_cons (x_at 32 (by decide +kernel) rfl) (x_cons (x_at 73 (by decide +kernel) rfl) x_nilm)))) (x_at 1158 (by decide +kernel) rfl) (by decide +kernel) ⟨Nat.le_of_ble_eq_true rfl, Nat.le_of_ble_eq_true rfl⟩) (x_cons (x_cokV (ci := 12) X xm184 rfl rfl rfl (x_cons (x_at 1296 (by decide +kernel) rfl) (x_cons (x_at 1298 (by decide +kernel) rfl) (x_cons (x_at 48 (by decide +kernel) rfl) (x_cons (x_at 73 (by decide +kernel) rfl) x_nilm)))) (x_at 1299 (by decide +kernel) rfl) (by decide +kernel) ⟨Nat.le_of_ble_eq_true rfl, Nat.le_of_ble_eq_true rfl⟩) (x_cons (x_cokV (ci := 12) X xm199 rfl rfl rfl (x_cons (x_at 1353 (by decide +kernel) rfl) (x_cons (x_at 1355 (by decide +kernel) rfl) (x_cons (x_at 54 (by decide +kernel) rfl) (x_cons (x_at 73 (by decide +kernel) rfl) x_nilm)))) (x_at 1356 (by decide +kernel) rfl) (by decide +kernel) ⟨Nat.le_of_ble_eq_true rfl, Nat.le_of_ble_eq_true rfl⟩) (x_cons (x_cokV (ci := 12) X vm200 rfl rfl rfl (x_cons (x_at 1349 (by decide +kernel) rfl) (x_cons (x_at 1351 (by decide +kernel) rfl) (x_cons (x_at 53 (by decide +kernel) rfl) (x_cons (x_at 73 (by decide +kernel) rfl) x_nilm)))) (x_at 1352 (by decide +kernel) rfl) (by decide +kernel) ⟨Nat.le_of_ble_eq_true rfl, Nat.le_of_ble_eq_true rfl⟩) x_nilm))))), x_nilm, x_nilm, x_nilm⟩
set_option maxRecDepth 1000000 in
theorem vm202 : x_Met vwCl x_G x_Zs x_Tb x_Nb vM202 := x_main vT202 [] [] 2500 (by decide +kernel) (by decide +kernel) vk202 (by decide +kernel)
def vM203 : xM := x_exc xM203 xc8
def vT203 : xTab := ([(7, 17, 0)], [], [], [], [], [], [], [(0, 99, 3, some 17, xM145), (0, 102, 1, some 17, xM143), (0, 140, 5, some 17, xM173), (0, 151, 2, some 17, xM171)], [], [], [])
set_option maxRecDepth 100000 in
set_option maxHeartbeats 4000000 in
theorem vk203 : x_TOK vwCl x_G x_Zs x_Tb x_Nb vM203 vT203 := by
  intro p l e s m args below meth c D U hx hb hml hts hown hK hK0 hU hnm hN
  have X : x_cx p s m args c D U vM203.2.1 vM203.2.2.1 vwCl x_Tb x_Nb vM203.1.cls := ⟨hx, hb, hml, hown, hts, hK, hK0, hU, hN, x_Tb_good, x_Nb_ok⟩
  exact ⟨(x_cons (fl190 hts) x_nilm), x_nilm, x_nilm, x_nilm, x_nilm, x_nilm, x_nilm, (x_cons (x_cokV (ci := 12) X xm145 rfl rfl rfl (x_cons (x_at 1151 (by decide +kernel) rfl) (x_cons (x_at 1153 (by decide +kernel) rfl) (x_cons (x_at 31 (by decide +kernel) rfl) (x_cons (x_at 73 (by decide +kernel) rfl) x_nilm)))) (x_at 1154 (by decide +kernel) rfl) (by decide +kernel) ⟨Nat.le_of_ble_eq_true rfl, Nat.le_of_ble_eq_true rfl⟩) (x_cons (x_cokV (ci := 12) X xm143 rfl rfl rfl (x_cons (x_at 1155 (by decide +kernel) rfl) (x_cons (x_at 1157 (by decide +kernel) rfl) (x_cons (x_at 32 (by decide +kernel) rfl) (x_cons (x_at 73 (by decide +kernel) rfl) x_nilm)))) (x_at 1158 (by decide +kernel) rfl) (by decide +kernel) ⟨Nat.le_of_ble_eq_true rfl, Nat.le_of_ble_eq_true rfl⟩) (x_cons (x_cokV (ci := 12) X xm173 rfl rfl rfl (x_cons (x_at 1222 (by decide +kernel) rfl) (x_cons (x_at 1224 (by decide +kernel) rfl) (x_cons (x_at 41 (by decide +kernel) rfl) (x_cons (x_at 73 (by decide +kernel) rfl) x_nilm)))) (x_at 1225 (by decide +kernel) rfl) (by decide +kernel) ⟨Nat.le_of_ble_eq_true rfl, Nat.le_of_ble_eq_true rfl⟩) (x_cons (x_cokV (ci := 12) X xm171 rfl rfl rfl (x_cons (x_at 1218 (by decide +kernel) rfl) (x_cons (x_at 1220 (by decide +kernel) rfl) (x_cons (x_at 40 (by decide +kernel) rfl) (x_cons (x_at 73 (by decide +kernel) rfl) x_nilm)))) (x_at 1221 (by decide +kernel) rfl) (by decide +kernel) ⟨Nat.le_of_ble_eq_true rfl, Nat.le_of_ble_eq_true rfl⟩) x_nilm)))), x_nilm, x_nilm, x_nilm⟩
set_option maxRecDepth 1000000 in
theorem vm203 : x_Met vwCl x_G x_Zs x_Tb x_Nb vM203 := x_main vT203 [(25, ([(0, xR false [17]), (1, xI 0 9), (2, xF), (3, xI (-1) 99), (4, xI 0 100)], [], []), (4, true), [], false, 0, []), (58, ([(0, xR false [17]), (1, xI 0 9), (2, xF), (3, xI (-1) (-1)), (4, xI 0 99), (5, xI 0 1), (6, xI 0 10)], [], [(0, 12, 0, xR false [46])]), (6, true), [4], false, 1, [])] [] 2500 (by decide +kernel) (by decide +kernel) vk203 (by decide +kernel)
def vM213 : xM := x_exc xM213 xc8
def vT213 : xTab := ([], [], [], [], [], [], [(110, 9), (246, -1)], [(1, 87, 3, none, xM212), (0, 76, 3, some 17, xM142), (0, 116, 3, some 17, vM160), (0, 151, 2, some 17, xM171)], [], [], [])
set_option maxRecDepth 100000 in
set_option maxHeartbeats 4000000 in
theorem vk213 : x_TOK vwCl x_G x_Zs x_Tb x_Nb vM213 vT213 := by
  intro p l e s m args below meth c D U hx hb hml hts hown hK hK0 hU hnm hN
  have X : x_cx p s m args c D U vM213.2.1 vM213.2.2.1 vwCl x_Tb x_Nb vM213.1.cls := ⟨hx, hb, hml, hown, hts, hK, hK0, hU, hN, x_Tb_good, x_Nb_ok⟩
  exact ⟨x_nilm, x_nilm, x_nilm, x_nilm, x_nilm, x_nilm, (x_cons ⟨9, rfl, (hts _ (x_at 1172 (by decide +kernel) rfl))⟩ (x_cons ⟨-1, rfl, (hts _ (x_at 1331 (by decide +kernel) rfl))⟩ x_nilm)), (x_cons (x_cokS X xm212 (x_cons (x_at 1147 (by decide +kernel) rfl) (x_cons (x_at 1148 (by decide +kernel) rfl) (x_cons (x_at 73 (by decide +kernel) rfl) x_nilm))) (x_at 1149 (by decide +kernel) rfl) (by decide +kernel) ⟨Nat.le_of_ble_eq_true rfl, Nat.le_of_ble_eq_true rfl⟩) (x_cons (x_cokV (ci := 12) X xm142 rfl rfl rfl (x_cons (x_at 1159 (by decide +kernel) rfl) (x_cons (x_at 1161 (by decide +kernel) rfl) (x_cons (x_at 33 (by decide +kernel) rfl) (x_cons (x_at 73 (by decide +kernel) rfl) x_nilm)))) (x_at 1162 (by decide +kernel) rfl) (by decide +kernel) ⟨Nat.le_of_ble_eq_true rfl, Nat.le_of_ble_eq_true rfl⟩) (x_cons (x_cokV (ci := 12) X vm160 rfl rfl rfl (x_cons (x_at 1179 (by decide +kernel) rfl) (x_cons (x_at 1181 (by decide +kernel) rfl) (x_cons (x_at 35 (by decide +kernel) rfl) (x_cons (x_at 73 (by decide +kernel) rfl) x_nilm)))) (x_at 1182 (by decide +kernel) rfl) (by decide +kernel) ⟨Nat.le_of_ble_eq_true rfl, Nat.le_of_ble_eq_true rfl⟩) (x_cons (x_cokV (ci := 12) X xm171 rfl rfl rfl (x_cons (x_at 1218 (by decide +kernel) rfl) (x_cons (x_at 1220 (by decide +kernel) rfl) (x_cons (x_at 40 (by decide +kernel) rfl) (x_cons (x_at 73 (by decide +kernel) rfl) x_nilm)))) (x_at 1221 (by decide +kernel) rfl) (by decide +kernel) ⟨Nat.le_of_ble_eq_true rfl, Nat.le_of_ble_eq_true rfl⟩) x_nilm)))), x_nilm, x_nilm, x_nilm⟩
set_option maxRecDepth 1000000 in
theorem vm213 : x_Met vwCl x_G x_Zs x_Tb x_Nb vM213 := x_main vT213 [] [] 2500 (by decide +kernel) (by decide +kernel) vk213 (by decide +kernel)
def vM214 : xM := x_exc xM214 xc8
def vT214 : xTab := ([], [], [], [], [], [], [(110, 9)], [(1, 87, 3, none, xM151), (0, 102, 1, some 17, xM143), (0, 116, 3, some 17, vM160), (0, 151, 2, some 17, xM171)], [], [], [])
set_option maxRecDepth 100000 in
set_option maxHeartbeats 4000000 in
theorem vk214 : x_TOK vwCl x_G x_Zs x_Tb x_Nb vM214 vT214 := by
  intro p l e s m args below meth c D U hx hb hml hts hown hK hK0 hU hnm hN
  have X : x_cx p s m args c D U vM214.2.1 vM214.2.2.1 vwCl x_Tb x_Nb vM214.1.cls := ⟨hx, hb, hml, hown, hts, hK, hK0, hU, hN, x_Tb_good, x_Nb_ok⟩
  exact ⟨x_nilm, x_nilm, x_nilm, x_nilm, x_nilm, x_nilm, (x_cons ⟨9, rfl, (hts _ (x_at 1172 (by decide +kernel) rfl))⟩ x_nilm), (x_cons (x_cokS X xm151 (x_cons (x_at 1147 (by decide +kernel) rfl) (x_cons (x_at 1148 (by decide +kernel) rfl) (x_cons (x_at 73 (by decide +kernel) rfl) x_nilm))) (x_at 1149 (by decide +kernel) rfl) (by decide +kernel) ⟨Nat.le_of_ble_eq_true rfl, Nat.le_of_ble_eq_true rfl⟩) (x_cons (x_cokV (ci := 12) X xm143 rfl rfl rfl (x_cons (x_at 1155 (by decide +kernel) rfl) (x_cons (x_at 1157 (by decide +kernel) rfl) (x_cons (x_at 32 (by decide +kernel) rfl) (x_cons (x_at 73 (by decide +kernel) rfl) x_nilm)))) (x_at 1158 (by decide +kernel) rfl) (by decide +kernel) ⟨Nat.le_of_ble_eq_true rfl, Nat.le_of_ble_eq_true rfl⟩) (x_cons (x_cokV (ci := 12) X vm160 rfl rfl rfl (x_cons (x_at 1179 (by decide +kernel) rfl) (x_cons (x_at 1181 (by decide +kernel) rfl) (x_cons (x_at 35 (by decide +kernel) rfl) (x_cons (x_at 73 (by decide +kernel) rfl) x_nilm)))) (x_at 1182 (by decide +kernel) rfl) (by decide +kernel) ⟨Nat.le_of_ble_eq_true rfl, Nat.le_of_ble_eq_true rfl⟩) (x_cons (x_cokV (ci := 12) X xm171 rfl rfl rfl (x_cons (x_at 1218 (by decide +kernel) rfl) (x_cons (x_at 1220 (by decide +kernel) rfl) (x_cons (x_at 40 (by decide +kernel) rfl) (x_cons (x_at 73 (by decide +kernel) rfl) x_nilm)))) (x_at 1221 (by decide +kernel) rfl) (by decide +kernel) ⟨Nat.le_of_ble_eq_true rfl, Nat.le_of_ble_eq_true rfl⟩) x_nilm)))), x_nilm, x_nilm, x_nilm⟩
set_option maxRecDepth 1000000 in
theorem vm214 : x_Met vwCl x_G x_Zs x_Tb x_Nb vM214 := x_main vT214 [] [] 2500 (by decide +kernel) (by decide +kernel) vk214 (by decide +kernel)
def vM219 : xM := x_exc xM219 xc8
def vT219 : xTab := ([(7, 17, 0)], [], [], [], [], [], [(248, 11)], [(1, 87, 3, none, xM196), (1, 87, 3, none, xM188), (0, 102, 1, some 17, xM143), (0, 151, 2, some 17, xM171)], [], [], [])
set_option maxRecDepth 100000 in
set_option maxHeartbeats 4000000 in
theorem vk219 : x_TOK vwCl x_G x_Zs x_Tb x_Nb vM219 vT219 := by
  intro p l e s m args below meth c D U hx hb hml hts hown hK hK0 hU hnm hN
  have X : x_cx p s m args c D U vM219.2.1 vM219.2.2.1 vwCl x_Tb x_Nb vM219.1.cls := ⟨hx, hb, hml, hown, hts, hK, hK0, hU, hN, x_Tb_good, x_Nb_ok⟩
  exact ⟨(x_cons (fl190 hts) x_nilm), x_nilm, x_nilm, x_nilm, x_nilm, x_nilm, (x_cons ⟨11, rfl, (hts _ (x_at 1340 (by decide +kernel) rfl))⟩ x_nilm), (x_cons (x_cokS X xm196 (x_cons (x_at 1147 (by decide +kernel) rfl) (x_cons (x_at 1148 (by decide +kernel) rfl) (x_cons (x_at 73 (by decide +kernel) rfl) x_nilm))) (x_at 1149 (by decide +kernel) rfl) (by decide +kernel) ⟨Nat.le_of_ble_eq_true rfl, Nat.le_of_ble_eq_true rfl⟩) (x_cons (x_cokS X xm188 (x_cons (x_at 1147 (by decide +kernel) rfl) (x_cons (x_at 1148 (by decide +kernel) rfl) (x_cons (x_at 73 (by decide +kernel) rfl) x_nilm))) (x_at 1149 (by decide +kernel) rfl) (by decide +kernel) ⟨Nat.le_of_ble_eq_true rfl, Nat.le_of_ble_eq_true rfl⟩) (x_cons (x_cokV (ci := 12) X xm143 rfl rfl rfl (x_cons (x_at 1155 (by decide +kernel) rfl) (x_cons (x_at 1157 (by decide +kernel) rfl) (x_cons (x_at 32 (by decide +kernel) rfl) (x_cons (x_at 73 (by decide +kernel) rfl) x_nilm)))) (x_at 1158 (by decide +kernel) rfl) (by decide +kernel) ⟨Nat.le_of_ble_eq_true rfl, Nat.le_of_ble_eq_true rfl⟩) (x_cons (x_cokV (ci := 12) X xm171 rfl rfl rfl (x_cons (x_at 1218 (by decide +kernel) rfl) (x_cons (x_at 1220 (by decide +kernel) rfl) (x_cons (x_at 40 (by decide +kernel) rfl) (x_cons (x_at 73 (by decide +kernel) rfl) x_nilm)))) (x_at 1221 (by decide +kernel) rfl) (by decide +kernel) ⟨Nat.le_of_ble_eq_true rfl, Nat.le_of_ble_eq_true rfl⟩) x_nilm)))), x_nilm, x_nilm, x_nilm⟩
set_option maxRecDepth 1000000 in
theorem vm219 : x_Met vwCl x_G x_Zs x_Tb x_Nb vM219 := x_main vT219 [] [] 2500 (by decide +kernel) (by decide +kernel) vk219 (by decide +kernel)
