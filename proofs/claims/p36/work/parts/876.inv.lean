theorem z_invk {kp : Nat} {H H' : Heap} {fk : Nat → Int32} (hv : ∀ j, j < 2 → (y_at kp j H = some .null ↔ fk j = 0)) (hq : H'[kp]? = H[kp]?) : ∀ j, j < 2 → (y_at kp j H' = some .null ↔ fk j = 0) := fun j hj => by
  rw [z_atk hq]; exact hv j hj
theorem z_imgInv {kp mk : Nat} {Hb H1 H2 : Heap} {fk : Nat → Int32} {i : Int32} (hv : ∀ j, j < 2 → (y_at kp j Hb = some .null ↔ fk j = 0)) (hgo : ∀ j : Nat, j < 2 → ¬ (j : Int) = i.toInt → y_at kp j H1 = y_at kp j Hb) (hgn : 0 ≤ i.toInt ∧ i.toInt ≤ 1 → ∃ q, y_at kp i.toInt.toNat H1 = some (.ref q))
    (hmo : 0 ≤ i.toInt ∧ i.toInt ≤ 1 → y_A mk 2 H2 (y_up fk i.toInt.toNat 1)) (hmn : ¬ (0 ≤ i.toInt ∧ i.toInt ≤ 1) → y_A mk 2 H2 fk) (hkk : H2[kp]? = H1[kp]?) : ∃ fk2 : Nat → Int32, y_A mk 2 H2 fk2 ∧ ∀ j, j < 2 → (y_at kp j H2 = some .null ↔ fk2 j = 0) := by
  by_cases hi : 0 ≤ i.toInt ∧ i.toInt ≤ 1
  · refine ⟨_, hmo hi, fun j hj => ?_⟩
    rw [z_atk hkk]
    by_cases ej : j = i.toInt.toNat
    · subst ej
      obtain ⟨q, hq⟩ := hgn hi
      rw [hq, y_up_at]
      exact ⟨fun h => (by cases h), fun h => absurd h (by decide)⟩
    · rw [hgo j hj (by omega), y_up_ne ej]
      exact hv j hj
  · refine ⟨_, hmn hi, fun j hj => ?_⟩
    rw [z_atk hkk, hgo j hj (by omega)]
    exact hv j hj
theorem z_fromA {Y : xY} {kp : Nat} {H : Heap} {fk : Nat → Int32} {i : Int32} {v : Option Value} (h : (¬ (0 ≤ i.toInt ∧ i.toInt ≤ 1) → v = some (.int (-2))) ∧ (0 ≤ i.toInt ∧ i.toInt ≤ 1 → y_at kp i.toInt.toNat H = some .null → v = some (.int (-3))) ∧ (0 ≤ i.toInt ∧ i.toInt ≤ 1 → ∀ q, y_at kp i.toInt.toNat H = some (.ref q) → v = some (.int 1))) (hv : ∀ j, j < 2 → (y_at kp j H = some .null ↔ fk j = 0))
    (hel : 0 ≤ i.toInt ∧ i.toInt ≤ 1 → ∃ w, y_at kp i.toInt.toNat H = some w ∧ x_c Y (.inr (.inr (true, [2]))) w) : ∃ r : Int32, v = some (.int r) ∧ r.toInt = (if 0 ≤ i.toInt ∧ i.toInt ≤ 1 then (if fk i.toInt.toNat = 0 then -3 else 1) else -2) := by
  by_cases hi : 0 ≤ i.toInt ∧ i.toInt ≤ 1
  · rw [if_pos hi]
    obtain ⟨w, h1, h2⟩ := hel hi
    rcases h2 with ⟨e0, -⟩ | ⟨a, t, e0, -⟩
    · subst e0
      rw [if_pos ((hv _ (by omega)).mp h1)]
      exact ⟨_, h.2.1 hi h1, by decide⟩
    · subst e0
      rw [if_neg (fun q => by have := (hv _ (by omega)).mpr q; rw [h1] at this; cases this)]
      exact ⟨_, h.2.2 hi a h1, by decide⟩
  · rw [if_neg hi]
    exact ⟨_, h.1 hi, by decide⟩
theorem z_fromB {fk : Nat → Int32} {i : Int32} {v : Option Value} (h : (¬ (0 ≤ i.toInt ∧ i.toInt ≤ 1) → v = some (.int (-2))) ∧ (0 ≤ i.toInt ∧ i.toInt ≤ 1 → fk i.toInt.toNat = 0 → v = some (.int (-3))) ∧ (0 ≤ i.toInt ∧ i.toInt ≤ 1 → ¬ fk i.toInt.toNat = 0 → v = some (.int 1))) : ∃ r : Int32, v = some (.int r) ∧ r.toInt = (if 0 ≤ i.toInt ∧ i.toInt ≤ 1 then (if fk i.toInt.toNat = 0 then -3 else 1) else -2) := by
  by_cases hi : 0 ≤ i.toInt ∧ i.toInt ≤ 1
  · rw [if_pos hi]
    by_cases hz : fk i.toInt.toNat = 0
    · rw [if_pos hz]; exact ⟨_, h.2.1 hi hz, by decide⟩
    · rw [if_neg hz]; exact ⟨_, h.2.2 hi hz, by decide⟩
  · rw [if_neg hi]
    exact ⟨_, h.1 hi, by decide⟩
