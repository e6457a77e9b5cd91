def z_hd (f : Nat → Int32) : Prop := (0 ≤ (f 0).toInt ∧ (f 0).toInt ≤ 10) ∧ (0 ≤ (f 1).toInt ∧ (f 1).toInt ≤ 8) ∧ (0 ≤ (f 2).toInt ∧ (f 2).toInt ≤ 8)
theorem z_hdc {Y : xY} {f : Nat → Int32} (h : z_hd f) : ∀ k : Nat, x_c Y ([xI 0 10, xI 0 8, xI 0 8].getD k xF) (.int (f k))
  | 0 => ⟨_, rfl, h.1⟩
  | 1 => ⟨_, rfl, h.2.1⟩
  | 2 => ⟨_, rfl, h.2.2⟩
  | n + 3 => ⟨_, rfl, x_i32 _⟩
theorem z_hdr {Y : xY} {f : Nat → Int32} (h : ∀ j, j < 160 → x_c Y ([xI 0 10, xI 0 8, xI 0 8].getD j xF) (.int (f j))) : z_hd f := by
  refine ⟨?_, ?_, ?_⟩
  · obtain ⟨x, e0, e1⟩ := h 0 (by decide); cases e0; exact e1
  · obtain ⟨x, e0, e1⟩ := h 1 (by decide); cases e0; exact e1
  · obtain ⟨x, e0, e1⟩ := h 2 (by decide); cases e0; exact e1
abbrev z_preI : List xV := [xI 0 10, xI 0 8, xI 0 8, xF, xF, xF, xF, xF, xF, xF, xF, xF, xF, xF, xF, xF, xF, xF, xF, xF, xF, xF, xF, xF, xF, xF, xF, xF, xF, xF, xF, xF, xF, xF, xF, xF, xF, xF, xF, xF, xF, xF, xF, xF, xF, xF, xF, xF, xF, xF, xF, xF, xF, xF, xF, xF, xF, xF, xF, xF, xF, xF, xF, xF, xF, xF, xF, xF, xF, xF, xF, xF, xF, xF, xF, xF, xF, xF, xF, xF, xF, xF, xF, xF, xF, xF, xF, xF, xF, xF, xF, xF, xF, xF, xF, xF, xF, xF, xF, xF, xF, xF, xF, xF, xF, xF, xF, xF, xF, xF, xF, xF, xF, xF, xF, xF, xF, xF, xF, xF, xF, xF, xF, xF, xF, xF, xF, xF, xF, xF, xF, xF, xF, xF, xF, xF, xF, xF, xF, xF, xF, xF, xF, xF, xF, xF, xF, xF, xF, xF, xF, xF, xF, xF, xF, xF, xF, xF, xF, xF, xI 0 10, xI 0 8, xI 0 8]
theorem z_preI_at : ∀ i : Fin 2, ∀ k : Fin 160, z_preI.getD (160 * i.val + k.val) xF = [xI 0 10, xI 0 8, xI 0 8].getD k.val xF := by decide +kernel
theorem z_preI_i {i k : Int32} (h0 : 0 ≤ i.toInt) (h1 : i.toInt ≤ 1) (k0 : 0 ≤ k.toInt) (k1 : k.toInt < 160) {x : Int32} (hx : x.toInt = 160 * i.toInt + k.toInt) : z_preI.getD x.toInt.toNat xF = [xI 0 10, xI 0 8, xI 0 8].getD k.toInt.toNat xF := by
  have := z_preI_at ⟨i.toInt.toNat, by omega⟩ ⟨k.toInt.toNat, by omega⟩
  rw [← this]
  congr 1
  show x.toInt.toNat = 160 * i.toInt.toNat + k.toInt.toNat
  omega
def xMrd : xM := (⟨"TwinFiresModel", "reads", "()Z"⟩, prog_14_method_40_code, 3, some .boolean, [xR false [17]], [([xR false [17]], some (xI 0 1))], [(17, 11), (17, 12), (17, 13), (17, 14), (17, 17), (53, 0), (54, 0)], (3, 69, 0, 0), none)
def xMty : xM := (⟨"TwinFiresModel", "type", "(JI)I"⟩, prog_14_method_34_code, 5, some .int, [xR false [17], xFL, xF], [([xR false [17], xFL, xF], some (xF))], [(17, 10), (50, 0), (52, 0)], (2, 42, 0, 0), none)
def xMfr : xM := (⟨"TwinFiresModel", "from", "(I)I"⟩, prog_14_method_79_code, 3, some .int, [xR false [17], xF], [([xR false [17], xF], some (xF))], [(46, 0), (50, 0)], (2, 42, 0, 0), none)
theorem z_hdi {Y : xY} {fi : Nat → Int32} {i : Int32} (hi : 0 ≤ i.toInt ∧ i.toInt ≤ 1) (h : ∀ j, j < 320 → x_c Y (z_preI.getD j xF) (.int (fi j))) : z_hd fun k => fi (160 * i.toInt + k).toNat := by
  have hz : ∀ j, j < 160 → x_c Y ([xI 0 10, xI 0 8, xI 0 8].getD j xF) (.int (fi (160 * i.toInt + j).toNat)) := fun j hj => by
    have e := z_preI_at ⟨i.toInt.toNat, by omega⟩ ⟨j, hj⟩
    have := h (160 * i.toInt + j).toNat (by omega)
    rw [show (160 * i.toInt + (j : Int)).toNat = 160 * i.toInt.toNat + j by omega] at this ⊢
    have e2 : z_preI.getD (160 * i.toInt.toNat + j) xF = [xI 0 10, xI 0 8, xI 0 8].getD j xF := e
    rw [e2] at this
    exact this
  exact z_hdr hz
