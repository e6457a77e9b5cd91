/-! a contract with kept places, and what it says beside the plain one -/
def x_exc (M : xM) (l : List (Nat × Nat)) : xM := (M.1, M.2.1, M.2.2.1, M.2.2.2.1, M.2.2.2.2.1, M.2.2.2.2.2.1, M.2.2.2.2.2.2.1 ++ l, M.2.2.2.2.2.2.2.1, M.2.2.2.2.2.2.2.2)
def y_PK (l : List (Nat × Nat)) : yP := fun _ _ Y H _ _ H' => ∀ b t j : Nat, Y b = some t → (t, j + 1000) ∈ l → y_at b j H' = y_at b j H
theorem x_E.exc {D : va_G} {G : List xG} {ef l : List (Nat × Nat)} {Y : xY} {H0 H : Heap} (hl : ∀ z ∈ l, 1000 ≤ z.2 ∧ ∃ q, G[z.1]? = some (.inr q)) (h : x_E D G (ef ++ l) Y H0 H) : x_E D G ef Y H0 H := by
  intro a t g ha hg
  have q1 := h a t g ha hg
  rcases g with o | q
  · intro k hk hn
    refine q1 k hk (fun hz => ?_)
    rcases List.mem_append.mp hz with hz | hz
    · exact hn hz
    · obtain ⟨-, q, h2⟩ := hl _ hz
      cases hg.symm.trans h2
  · refine ⟨fun hn => q1.1 (fun hz => ?_), fun j hj => q1.2 j (List.mem_append_left _ hj)⟩
    rcases List.mem_append.mp hz with hz | hz
    · exact hn hz
    · have := (hl _ hz).1
      exact absurd this (by show ¬ 1000 ≤ 0; decide)
theorem y_cok.exc {p : Program} {l : Launch} {e : Env} {R : Room} {s : State} {m : MethodId} {args : Array Value} {below : List Frame} {meth : Method} {c : Code} {D : va_G} {G : List xG} {Zs : List xZ} {U : State} {nL : Nat} {cc : ByteArray} {k1 k2 k3 : Nat} {k4 : Option Nat} {M : xM} {xl : List (Nat × Nat)}
    (hl : ∀ z ∈ xl, 1000 ≤ z.2 ∧ ∃ q, G[z.1]? = some (.inr q)) (h : x_cok p l e R s m args below meth c D G Zs U nL cc (k1, k2, k3, k4, x_exc M xl)) : y_cok p l e R s m args below meth c D G Zs U nL cc (k1, k2, k3, k4, M) y_T (y_PK xl) := by
  intro H locs cells slots pc ls rest av Y h1 h2 h3 h4 h5 h6 h7 h8 h9 _ T hT X
  obtain ⟨v, st₀, t, T', L, a1, a2, a3, a4, a5, ⟨v', Y', o, b1, b2, b3, b4, b5, b6, b7, b8⟩, a7⟩ := h H locs cells slots pc ls rest av Y h1 h2 h3 h4 h5 h6 h7 h8 h9 T hT X
  have b7 : x_E D G (x_efs M ++ xl) Y st₀.heap t.heap := b7
  refine ⟨v, st₀, t, T', L, a1, a2, a3, a4, a5, ⟨v', Y', o, b1, b2, b3, b4, b5, b6, x_E.exc hl b7, b8, fun b t j hY hj => ?_⟩, a7⟩
  obtain ⟨-, q, hg⟩ := hl _ hj
  exact (b7 b t _ hY hg).2 j (List.mem_append_right _ hj)
