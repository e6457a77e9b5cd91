section ASE
variable {f V V' : Nat → Int32} {a b h w t r r' : Int32}
theorem m_rg.y4 (hg : m_rg f) : 0 ≤ (f 4).toInt ∧ (f 4).toInt ≤ 99 := (hg 4 (by decide)).to m_T0.2.2.2.1
end ASE
