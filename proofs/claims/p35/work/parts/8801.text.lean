/-! A TEXT'S TOKENS: bytes t, n of them -/
def t_run (P : Int32 → Bool) (t : Nat → Int32) (n : Nat) : Nat → Nat → Nat
  | 0, p => p
  | k + 1, p => if p < n ∧ P (t p) = true then t_run P t n k (p + 1) else p
def t_pass (P : Int32 → Bool) (t : Nat → Int32) (n p : Nat) : Nat := t_run P t n (n - p) p
theorem t_run_le {P : Int32 → Bool} {t : Nat → Int32} {n : Nat} : ∀ (k p : Nat), p ≤ n → p ≤ t_run P t n k p ∧ t_run P t n k p ≤ n := by
  intro k
  induction k with
  | zero => intro p hp; exact ⟨Nat.le_refl _, hp⟩
  | succ k ih =>
    intro p hp
    unfold t_run
    split
    · next h => have := ih (p + 1) (by omega); omega
    · exact ⟨Nat.le_refl _, hp⟩
theorem t_pass_le {P : Int32 → Bool} {t : Nat → Int32} {n p : Nat} (hp : p ≤ n) : p ≤ t_pass P t n p ∧ t_pass P t n p ≤ n := t_run_le _ _ hp
theorem t_pass_step {P : Int32 → Bool} {t : Nat → Int32} {n p : Nat} (h : p < n) (hP : P (t p) = true) : t_pass P t n p = t_pass P t n (p + 1) := by
  unfold t_pass
  rw [show n - p = (n - (p + 1)) + 1 by omega]
  show (if p < n ∧ P (t p) = true then t_run P t n (n - (p + 1)) (p + 1) else p) = _
  rw [if_pos ⟨h, hP⟩]
theorem t_pass_stop {P : Int32 → Bool} {t : Nat → Int32} {n p : Nat} (h : ¬ (p < n ∧ P (t p) = true)) : t_pass P t n p = p := by
  unfold t_pass
  cases hk : n - p with
  | zero => rfl
  | succ k =>
    show (if p < n ∧ P (t p) = true then t_run P t n k (p + 1) else p) = _
    rw [if_neg h]
def t_bl (x : Int32) : Bool := decide (x.toInt = 32)
def t_lo (x : Int32) : Bool := decide (97 ≤ x.toInt ∧ x.toInt ≤ 122)
def t_di (x : Int32) : Bool := decide (48 ≤ x.toInt ∧ x.toInt ≤ 57)
/-- a token from p on: its kind (0 the end, 1 a word, 2 a number, 3 a stop, 4 wrong), where it begins, where it ends -/
def t_at (t : Nat → Int32) (n p : Nat) : Nat := t_pass t_bl t n p
def t_tok (t : Nat → Int32) (n p : Nat) : Nat × Nat := if n ≤ t_at t n p then (0, t_at t n p) else if (t (t_at t n p)).toInt = 59 then (3, t_at t n p + 1) else if t_lo (t (t_at t n p)) = true then (1, t_pass t_lo t n (t_at t n p + 1)) else if t_di (t (t_at t n p)) = true then (if t_pass t_di t n (t_at t n p + 1) - t_at t n p ≤ 2 then 2 else 4, t_pass t_di t n (t_at t n p + 1)) else (4, t_at t n p + 1)
theorem t_tok_le {t : Nat → Int32} {n p : Nat} (hp : p ≤ n) : p ≤ t_at t n p ∧ t_at t n p ≤ (t_tok t n p).2 ∧ (t_tok t n p).2 ≤ n ∧ ((t_tok t n p).1 ≠ 0 → t_at t n p < (t_tok t n p).2) := by
  have h1 : p ≤ t_at t n p ∧ t_at t n p ≤ n := t_pass_le hp
  unfold t_tok
  by_cases h0 : n ≤ t_at t n p
  · rw [if_pos h0]; exact ⟨h1.1, Nat.le_refl _, h1.2, fun h => absurd rfl h⟩
  · rw [if_neg h0]
    split
    · exact ⟨h1.1, Nat.le_succ _, by show _ + 1 ≤ n; omega, fun _ => Nat.lt_succ_self _⟩
    · split
      · have h2 := t_pass_le (P := t_lo) (t := t) (n := n) (p := t_at t n p + 1) (by omega)
        exact ⟨h1.1, by show _ ≤ t_pass _ _ _ _; omega, h2.2, fun _ => by show _ < t_pass _ _ _ _; omega⟩
      · split
        · have h2 := t_pass_le (P := t_di) (t := t) (n := n) (p := t_at t n p + 1) (by omega)
          exact ⟨h1.1, by show _ ≤ t_pass _ _ _ _; omega, h2.2, fun _ => by show _ < t_pass _ _ _ _; omega⟩
        · exact ⟨h1.1, Nat.le_succ _, by show _ + 1 ≤ n; omega, fun _ => Nat.lt_succ_self _⟩
/-- the number that stands there -/
def t_num (t : Nat → Int32) (s : Nat) : Nat → Int
  | 0 => 0
  | k + 1 => 10 * t_num t s k + (t (s + k)).toInt - 48
/-- the word's number: five bits a letter -/
def t_cod (t : Nat → Int32) (s : Nat) : Nat → Int
  | 0 => 0
  | k + 1 => 32 * t_cod t s k + (t (s + k)).toInt - 96
def t_words : List (List Int) := [[104, 105, 108, 108], [115, 116, 111, 110, 101], [119, 111, 111, 100], [112, 105, 110, 101], [104, 101, 100, 103, 101], [116, 111, 112, 112, 101, 100], [119, 97, 108, 108], [121, 101, 97, 114], [109, 105, 115, 116], [119, 105, 100, 101]]
def t_codes : List Int := [271756, 20594117, 769508, 533957, 8556773, 687358116, 755084, 824370, 435828, 763013]
/-- the bytes from s on are this word, and no more than it -/
def t_is (t : Nat → Int32) (s len : Nat) (w : List Int) : Prop := len = w.length ∧ ∀ i, i < w.length → (t (s + i)).toInt = w.getD i 0
def t_wc (w : Nat → Int) : Nat → Int
  | 0 => 0
  | k + 1 => 32 * t_wc w k + w k - 96
theorem t_cod_pos {t : Nat → Int32} {s : Nat} : ∀ k, (∀ i, i < k → 97 ≤ (t (s + i)).toInt ∧ (t (s + i)).toInt ≤ 122) → 0 ≤ t_cod t s k ∧ (0 < k → 0 < t_cod t s k) := by
  intro k
  induction k with
  | zero => intro _; exact ⟨Int.le_refl _, fun h => absurd h (Nat.lt_irrefl _)⟩
  | succ k ih =>
    intro h
    have h1 := ih (fun i hi => h i (by omega))
    have h2 := h k (by omega)
    show 0 ≤ 32 * t_cod t s k + (t (s + k)).toInt - 96 ∧ (0 < k + 1 → 0 < 32 * t_cod t s k + (t (s + k)).toInt - 96)
    omega
theorem t_wc_pos {w : Nat → Int} : ∀ k, (∀ i, i < k → 97 ≤ w i ∧ w i ≤ 122) → 0 ≤ t_wc w k ∧ (0 < k → 0 < t_wc w k) := by
  intro k
  induction k with
  | zero => intro _; exact ⟨Int.le_refl _, fun h => absurd h (Nat.lt_irrefl _)⟩
  | succ k ih =>
    intro h
    have h1 := ih (fun i hi => h i (by omega))
    have h2 := h k (by omega)
    show 0 ≤ 32 * t_wc w k + w k - 96 ∧ (0 < k + 1 → 0 < 32 * t_wc w k + w k - 96)
    omega
/-- five bits a letter tell the letters -/
theorem t_cod_inj {t : Nat → Int32} {s : Nat} {w : Nat → Int} : ∀ (k L : Nat), (∀ i, i < k → 97 ≤ (t (s + i)).toInt ∧ (t (s + i)).toInt ≤ 122) → (∀ i, i < L → 97 ≤ w i ∧ w i ≤ 122) → t_cod t s k = t_wc w L → k = L ∧ ∀ i, i < k → (t (s + i)).toInt = w i := by
  intro k
  induction k with
  | zero =>
    intro L _ hw h
    cases L with
    | zero => exact ⟨rfl, fun i hi => absurd hi (Nat.not_lt_zero _)⟩
    | succ L =>
      have h1 := (t_wc_pos (L + 1) hw).2 (Nat.succ_pos _)
      have h2 : t_cod t s 0 = 0 := rfl
      omega
  | succ k ih =>
    intro L ht hw h
    cases L with
    | zero =>
      have h1 := (t_cod_pos (k + 1) ht).2 (Nat.succ_pos _)
      have h2 : t_wc w 0 = 0 := rfl
      omega
    | succ L =>
      have h : 32 * t_cod t s k + (t (s + k)).toInt - 96 = 32 * t_wc w L + w L - 96 := h
      have hk := ht k (by omega)
      have hl := hw L (by omega)
      obtain ⟨e1, e2⟩ := ih L (fun i hi => ht i (by omega)) (fun i hi => hw i (by omega)) (by omega)
      subst e1
      refine ⟨rfl, fun i hi => ?_⟩
      by_cases ei : i = k
      · subst ei; omega
      · exact e2 i (by omega)
theorem t_cod_of {t : Nat → Int32} {s : Nat} {w : Nat → Int} : ∀ (k : Nat), (∀ i, i < k → (t (s + i)).toInt = w i) → t_cod t s k = t_wc w k := by
  intro k
  induction k with
  | zero => intro _; rfl
  | succ k ih =>
    intro h
    show 32 * t_cod t s k + (t (s + k)).toInt - 96 = 32 * t_wc w k + w k - 96
    rw [ih (fun i hi => h i (by omega)), h k (by omega)]
/-- a word of small letters is told by its number -/
theorem t_is_iff {t : Nat → Int32} {s len : Nat} {w : List Int} (ht : ∀ i, i < len → 97 ≤ (t (s + i)).toInt ∧ (t (s + i)).toInt ≤ 122) (hw : ∀ i, i < w.length → 97 ≤ w.getD i 0 ∧ w.getD i 0 ≤ 122) : t_is t s len w ↔ t_cod t s len = t_wc (fun i => w.getD i 0) w.length := by
  constructor
  · intro h
    rw [h.1]
    exact t_cod_of _ (fun i hi => h.2 i hi)
  · intro h
    obtain ⟨e1, e2⟩ := t_cod_inj len w.length ht hw h
    exact ⟨e1, fun i hi => e2 i (by omega)⟩
theorem t_codes_ok : ∀ k, k < 10 → t_wc (fun i => (t_words.getD k []).getD i 0) (t_words.getD k []).length = t_codes.getD k 0 := by decide
theorem t_words_ok : ∀ k, k < 10 → ∀ i, i < (t_words.getD k []).length → 97 ≤ (t_words.getD k []).getD i 0 ∧ (t_words.getD k []).getD i 0 ≤ 122 := by decide
/-- which of the ten words; 10: none of them -/
def t_item (t : Nat → Int32) (s len : Nat) : Nat := (List.range 10).find? (fun k => decide (len = (t_words.getD k []).length) && (List.range (t_words.getD k []).length).all (fun i => decide ((t (s + i)).toInt = (t_words.getD k []).getD i 0))) |>.getD 10

