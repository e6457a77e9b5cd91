def z_rr (D : va_G) (H : Heap) (this : Nat) : Prop := ∀ ro rd rn : Nat, x_sl D 11 5 this H = some (.ref ro) → x_sl D 5 4 ro H = some (.ref rd) → x_sl D 5 5 ro H = some (.ref rn) → rd ≠ rn
