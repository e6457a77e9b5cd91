/-! THE TOWER of the class -/
theorem z_Ln.put {D : va_G} {q : Nat} {H H' : Heap} {l : Nat → Int32} {u : Int32} (h : z_Ln D q H l) (hs : x_sl D 3 5 q H' = some (.int u)) (hk : ∀ j w, j < 8 → j ≠ 5 → x_sl D 3 j q H = w → x_sl D 3 j q H' = w) : z_Ln D q H' (y_up l 5 u) := by
  refine ⟨fun k hk9 => ?_, fun k hk9 => ?_⟩
  · by_cases e : k = 5
    · subst e; rw [y_up_at]; exact hs
    · rw [y_up_ne e]; exact hk k _ hk9 e (h.1 k hk9)
  · rw [y_up_ne (by omega)]; exact h.2 k hk9
theorem m_lft.up {l : Nat → Int32} {x y h v v0 r : Int32} (q : m_lft (y_up l 5 v) x y h v0 r) : m_lft l x y h v0 r :=
  ⟨q.1, fun u a b => ⟨(q.2.1 u a b).1, by rw [← m_hdv_up (v := v)]; exact (q.2.1 u a b).2⟩, fun a => by rw [← m_hdv_up (v := v)]; exact q.2.2 a⟩
