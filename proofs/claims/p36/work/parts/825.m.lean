
/-- java/util/Arrays.fill([II)V -/
def xM1017 : xM := (⟨"java/util/Arrays", "fill", "([II)V"⟩, prog_21_method_103_code, 4, none, [xR false [40], xI 0 0], [([xR false [40], xI 0 0], none)], [(40, 0)], (0, 0, 0, 0), none)
def xT1017 : xTab := ([], [], [], [], [], [], [], [], [], [], [])
set_option maxRecDepth 100000 in
set_option maxHeartbeats 4000000 in
theorem xk1017 : x_TOK vwCl x_G x_Zs x_Tb x_Nb xM1017 xT1017 := by
  intro p l e s m args below meth c D U hx hb hml hts hown hK hK0 hU hnm hN
  have X : x_cx p s m args c D U xM1017.2.1 xM1017.2.2.1 vwCl x_Tb x_Nb xM1017.1.cls := ⟨hx, hb, hml, hown, hts, hK, hK0, hU, hN, x_Tb_good, x_Nb_ok⟩
  exact ⟨x_nilm, x_nilm, x_nilm, x_nilm, x_nilm, x_nilm, x_nilm, x_nilm, x_nilm, x_nilm, x_nilm⟩
set_option maxRecDepth 1000000 in
theorem xm1017 : x_Met vwCl x_G x_Zs x_Tb x_Nb xM1017 := x_main xT1017 [(5, ([(0, xR false [40]), (1, xI 0 0), (2, xI 0 4), (3, xI 4 4)], [], []), (2, true), [], false, 0, [])] [] 2500 (by decide +kernel) (by decide +kernel) xk1017 (by decide +kernel)
