theorem y_inc {x : Int32} {n : Int} (hn : (Int32.ofInt n).toInt = n) (h1 : -2147483648 ≤ x.toInt + n) (h2 : x.toInt + n ≤ 2147483647) : (x + Int32.ofInt n).toInt = x.toInt + n := by
  rw [y_add (by rw [hn]; exact h1) (by rw [hn]; exact h2), hn]
theorem y_01 {v : Int32} (h0 : 0 ≤ v.toInt) (h1 : v.toInt ≤ 1) : v = 0 ∨ v = 1 := by
  have z0 : (0 : Int32).toInt = 0 := by decide
  have z1 : (1 : Int32).toInt = 1 := by decide
  rcases (by omega : v.toInt = 0 ∨ v.toInt = 1) with q | q
  · exact Or.inl (Int32.toInt_inj.mp (by omega))
  · exact Or.inr (Int32.toInt_inj.mp (by omega))
theorem y_upb {f : Nat → Int32} {i N : Nat} {v : Int32} {lo hi : Int} (h : ∀ j, j < N → lo ≤ (f j).toInt ∧ (f j).toInt ≤ hi) (hv : lo ≤ v.toInt ∧ v.toInt ≤ hi) : ∀ j, j < N → lo ≤ (y_up f i v j).toInt ∧ (y_up f i v j).toInt ≤ hi := by
  intro j hj
  by_cases e0 : j = i
  · rw [e0, y_up_at]; exact hv
  · rw [y_up_ne e0]; exact h j hj
theorem y_nil {Y : xY} : x_cs Y [] [] := ⟨rfl, fun k t v h _ => by cases h⟩
theorem y_cons {Y : xY} {t : xV} {v : Value} {ts : List xV} {vs : List Value} (h : x_c Y t v) (hs : x_cs Y ts vs) : x_cs Y (t :: ts) (v :: vs) := by
  refine ⟨by have := hs.1; simp [this], fun k t' v' h1 h2 => ?_⟩
  cases k with
  | zero => cases h1; cases h2; exact h
  | succ k => exact hs.2 k t' v' (by simpa using h1) (by simpa using h2)
theorem y_cref {Y : xY} {b t : Nat} {ts : List Nat} (h : Y b = some t) (hm : ts.any (fun u => Nat.beq t u) = true) : x_c Y (.inr (.inr (false, ts))) (.ref b) := by
  obtain ⟨u, h1, h2⟩ := List.any_eq_true.mp hm
  have := Nat.eq_of_beq_eq_true h2
  subst this
  exact Or.inr ⟨b, t, rfl, h1, h⟩
theorem y_recv {Y : xY} {b t : Nat} {vs : List Value} {o : Option Nat} (ho : o = some t) (h : Y b = some t) : ∀ u, o = some u → ∃ b' : Nat, (.ref b :: vs : List Value)[0]? = some (.ref b') ∧ Y b' = some u := fun u hu => by
  rw [ho] at hu; cases hu; exact ⟨b, rfl, h⟩
theorem y_norecv {Y : xY} {vs : List Value} {o : Option Nat} (ho : o = none) : ∀ u, o = some u → ∃ b' : Nat, vs[0]? = some (.ref b') ∧ Y b' = some u := fun u hu => by
  rw [ho] at hu; cases hu
theorem y_ansI {Y : xY} {outs : List (List xV × Option xV)} {o : List xV × Option xV} {v : Option Value} {lo hi : Int} (h : outs.all (fun o => match o.2 with
    | some t => x_le t (.inl (lo, hi))
    | none => false) = true) (ho : o ∈ outs) (hr : x_ret Y o.2 v) : ∃ x : Int32, v = some (.int x) ∧ lo ≤ x.toInt ∧ x.toInt ≤ hi := by
  have h1 := List.all_eq_true.mp h o ho
  split at h1
  · next t ht =>
    rw [ht] at hr
    obtain ⟨w, e1, e2⟩ := hr
    obtain ⟨x, e3, e4⟩ := x_le_ok h1 e2
    exact ⟨x, by rw [e1, e3], e4⟩
  · cases h1
theorem y_ansV {Y : xY} {outs : List (List xV × Option xV)} {o : List xV × Option xV} {v : Option Value} (h : outs.all (fun o => o.2.isNone) = true) (ho : o ∈ outs) (hr : x_ret Y o.2 v) : v = none := by
  have h1 := List.all_eq_true.mp h o ho
  rw [Option.isNone_iff_eq_none.mp h1] at hr
  exact hr
theorem y_sub_ef {l1 l2 : List (Nat × Nat)} (h : x_sb l1 l2 = true) : x_Sb l1 l2 := x_sb_ok h
theorem y_ext {Y Y' : xY} {H : Heap} {D : va_G} {G : List xG} {Zs : List xZ} {U : State} {b t : Nat} (hx : ∀ q, q < H.size → Y' q = Y q) (hH : x_H D G Zs U Y H) (h : Y b = some t) : Y' b = some t := by
  rw [hx b (hH.lt h)]; exact h

