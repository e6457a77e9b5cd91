/-! THE CHECKER'S STATE: bounds and tags of numbered values; locals and stack by their numbers; known fields (object, class, field, value); differences (value, value, int); the numbers of loop heads' measures; objects made here; cells and slots made so far. -/
abbrev xS : Type := List xV × List (Nat × Nat) × List Nat × List (Nat × Nat × Nat × Nat) × List (Nat × Nat × Int) × List Nat × List Nat × Nat × Nat
abbrev x_cells (a : xS) : Nat := a.2.2.2.2.2.2.2.1
abbrev x_slots (a : xS) : Nat := a.2.2.2.2.2.2.2.2
def x_wf (a : xS) : Bool :=
  a.2.1.all (fun q => Nat.blt q.2 a.1.length) && (a.2.2.1.all (fun k => Nat.blt k a.1.length) && (a.2.2.2.1.all (fun f => Nat.blt f.1 a.1.length && Nat.blt f.2.2.2 a.1.length) &&
  (a.2.2.2.2.1.all (fun d => Nat.blt d.1 a.1.length && Nat.blt d.2.1 a.1.length) && (a.2.2.2.2.2.1.all (fun k => Nat.blt k a.1.length) && a.2.2.2.2.2.2.1.all (fun k => Nat.blt k a.1.length)))))
def x_num (v : Value) : Option Int := match v with
  | .int x => some x.toInt
  | .long x => some x.toInt
  | _ => none
def x_dif (r : Nat → Value) (d : Nat × Nat × Int) : Prop := ∃ x y : Int, x_num (r d.1) = some x ∧ x_num (r d.2.1) = some y ∧ x = y + d.2.2
/-- a known field of an object (class ci), or place of an array (ci = 1000) -/
def x_fv (D : va_G) (ci k a : Nat) (H : Heap) : Option Value := (H[a]?).bind fun cell => cell.slots[if ci = 1000 then k else D.2 ci k]?
theorem x_fv_sl {D : va_G} {ci k a : Nat} {H : Heap} (h : ¬ ci = 1000) : x_fv D ci k a H = x_sl D ci k a H := by
  unfold x_fv x_sl
  rw [if_neg h]
def x_C (D : va_G) (Y0 : xY) (nL : Nat) (mu : List Value) (Y : xY) (H : Heap) (a : xS) (r : Nat → Value) (ls : Array Slot) (st : List Value) : Prop :=
  (∀ (k : Nat) (t : xV), a.1[k]? = some t → x_c Y t (r k)) ∧ lv_has ls nL (a.2.1.map fun q => (q.1, r q.2)) ∧ st = a.2.2.1.map r ∧
  (∀ f ∈ a.2.2.2.1, ∃ b : Nat, r f.1 = .ref b ∧ x_fv D f.2.1 f.2.2.1 b H = some (r f.2.2.2)) ∧
  (∀ d ∈ a.2.2.2.2.1, x_dif r d) ∧
  a.2.2.2.2.2.1.map r = mu ∧ (∀ k ∈ a.2.2.2.2.2.2.1, ∃ b : Nat, r k = .ref b ∧ Y0 b = none)
def x_psh (a : xS) (S : List Nat) (t : xV) : xS := (a.1 ++ [t], a.2.1, a.1.length :: S, a.2.2.2)
def x_top (a : xS) (S : List Nat) : xS := (a.1, a.2.1, S, a.2.2.2)
theorem x_wf_spec {a : xS} (h : x_wf a = true) : (∀ q ∈ a.2.1, q.2 < a.1.length) ∧ (∀ k ∈ a.2.2.1, k < a.1.length) ∧ (∀ f ∈ a.2.2.2.1, f.1 < a.1.length ∧ f.2.2.2 < a.1.length) ∧
    (∀ d ∈ a.2.2.2.2.1, d.1 < a.1.length ∧ d.2.1 < a.1.length) ∧ (∀ k ∈ a.2.2.2.2.2.1, k < a.1.length) ∧ (∀ k ∈ a.2.2.2.2.2.2.1, k < a.1.length) := by
  simp only [x_wf, Bool.and_eq_true, List.all_eq_true, Nat.blt_eq] at h
  exact ⟨h.1, h.2.1, h.2.2.1, h.2.2.2.1, h.2.2.2.2.1, h.2.2.2.2.2⟩
section XC
variable {D : va_G} {Y0 Y : xY} {nL : Nat} {mu : List Value} {H : Heap} {a : xS} {r : Nat → Value} {ls : Array Slot} {st : List Value}
theorem x_env_app {E : List xV} {t u : xV} {k : Nat} (h : (E ++ [t])[k]? = some u) : (k < E.length ∧ E[k]? = some u) ∨ (k = E.length ∧ u = t) := by
  by_cases hk : k < E.length
  · rw [List.getElem?_append_left hk] at h
    exact Or.inl ⟨hk, h⟩
  · rw [List.getElem?_append_right (by omega)] at h
    have hz : k - E.length < 1 := (List.getElem?_eq_some_iff.mp h).1
    have e : k = E.length := by omega
    subst e
    rw [Nat.sub_self] at h
    exact Or.inr ⟨rfl, (Option.some.inj h).symm⟩
/-- the stack is another row of values that are known -/
theorem x_C.stk (h : x_C D Y0 nL mu Y H a r ls st) (S : List Nat) : x_C D Y0 nL mu Y H (x_top a S) r ls (S.map r) := ⟨h.1, h.2.1, rfl, h.2.2.2⟩
/-- better bounds -/
theorem x_C.env (h : x_C D Y0 nL mu Y H a r ls st) {E : List xV} (he : ∀ (k : Nat) (t : xV), E[k]? = some t → x_c Y t (r k)) (S : List Nat) : x_C D Y0 nL mu Y H (E, a.2.1, S, a.2.2.2) r ls (S.map r) := ⟨he, h.2.1, rfl, h.2.2.2⟩
theorem x_up_ag {r : Nat → Value} {n k : Nat} {v : Value} (h : k < n) : updV r n v k = r k := by
  unfold updV
  rw [if_neg (Nat.ne_of_lt h)]
theorem x_up_at {r : Nat → Value} {n : Nat} {v : Value} : updV r n v n = v := by
  unfold updV
  rw [if_pos rfl]
/-- a new value, with its number -/
theorem x_C.new (hw : x_wf a = true) (h : x_C D Y0 nL mu Y H a r ls st) {t : xV} {v : Value} (hv : x_c Y t v) : x_C D Y0 nL mu Y H (a.1 ++ [t], a.2) (updV r a.1.length v) ls st := by
  obtain ⟨w1, w2, w3, w4, w5, w6⟩ := x_wf_spec hw
  obtain ⟨h1, h2, h3, h4, h5, h6, h7⟩ := h
  refine ⟨fun k u hk => ?_, ?_, ?_, fun f hf => ?_, fun d hd => ?_, ?_, fun k hk => ?_⟩
  · rcases x_env_app hk with ⟨q1, q2⟩ | ⟨q1, q2⟩
    · rw [x_up_ag q1]; exact h1 k u q2
    · rw [q1, q2, x_up_at]; exact hv
  · have e : (a.2.1.map fun q => (q.1, updV r a.1.length v q.2)) = a.2.1.map fun q => (q.1, r q.2) := List.map_congr_left fun q hq => by rw [x_up_ag (w1 q hq)]
    show lv_has ls nL (a.2.1.map fun q => (q.1, updV r a.1.length v q.2))
    rw [e]; exact h2
  · rw [h3]
    exact List.map_congr_left fun k hk => by rw [x_up_ag (w2 k hk)]
  · obtain ⟨b, q1, q2⟩ := h4 f hf
    exact ⟨b, by rw [x_up_ag (w3 f hf).1]; exact q1, by rw [x_up_ag (w3 f hf).2]; exact q2⟩
  · obtain ⟨x, y, q1, q2, q3⟩ := h5 d hd
    exact ⟨x, y, by rw [x_up_ag (w4 d hd).1]; exact q1, by rw [x_up_ag (w4 d hd).2]; exact q2, q3⟩
  · rw [← h6]
    exact List.map_congr_left fun k hk => by rw [x_up_ag (w5 k hk)]
  · obtain ⟨b, q1, q2⟩ := h7 k hk
    exact ⟨b, by rw [x_up_ag (w6 k hk)]; exact q1, q2⟩
theorem x_C.psh (hw : x_wf a = true) (h : x_C D Y0 nL mu Y H a r ls st) {S : List Nat} (hS : ∀ k ∈ S, k < a.1.length) {t : xV} {v : Value} (hv : x_c Y t v) : x_C D Y0 nL mu Y H (x_psh a S t) (updV r a.1.length v) ls (v :: S.map r) := by
  have q := (h.new hw hv).stk (a.1.length :: S)
  have e : (a.1.length :: S).map (updV r a.1.length v) = v :: S.map r := by
    rw [List.map_cons, x_up_at, List.map_congr_left fun k hk => x_up_ag (hS k hk)]
  rw [e] at q
  exact q
theorem x_C.loc (h : x_C D Y0 nL mu Y H a r ls st) {i k : Nat} (hk : (i, k) ∈ a.2.1) : ls[i]? = some (.val (r k)) := h.2.1.2.2 (i, r k) (List.mem_map.mpr ⟨(i, k), hk, rfl⟩)
/-- other locals, of values that are known -/
theorem x_C.locs {ls' : Array Slot} (h : x_C D Y0 nL mu Y H a r ls st) {L : List (Nat × Nat)} (hl : lv_has ls' nL (L.map fun q => (q.1, r q.2))) (S : List Nat) : x_C D Y0 nL mu Y H (a.1, L, S, a.2.2.2) r ls' (S.map r) := ⟨h.1, hl, rfl, h.2.2.2⟩
theorem x_C.dif (h : x_C D Y0 nL mu Y H a r ls st) {d : Nat × Nat × Int} (hd : x_dif r d) : x_C D Y0 nL mu Y H (a.1, a.2.1, a.2.2.1, a.2.2.2.1, d :: a.2.2.2.2.1, a.2.2.2.2.2) r ls st := by
  obtain ⟨h1, h2, h3, h4, h5, h6⟩ := h
  refine ⟨h1, h2, h3, h4, fun q hq => ?_, h6⟩
  rcases List.mem_cons.mp hq with e | hq
  · rw [e]; exact hd
  · exact h5 q hq
end XC
/-! what a method's body keeps, from its start to each of its steps -/
def x_I (D : va_G) (G : List xG) (Zs : List xZ) (U : State) (ef : List (Nat × Nat)) (Y0 : xY) (H0 : Heap) (Y : xY) (H : Heap) (locs : List Loc) : Prop :=
  x_H D G Zs U Y H ∧ (∀ q, q < H0.size → Y q = Y0 q) ∧ x_E D G ef Y0 H0 H ∧ va_S (fun q => (∃ t, Y0 q = some t) ∨ H0.size ≤ q) H0 H locs
section XK
variable (p : Program) (l : Launch) (e : Env) (R : Room) (s : State) (m : MethodId) (args : Array Value) (below : List Frame) (meth : Method) (c : Code) (Q : State → Prop)
variable (D : va_G) (G : List xG) (Zs : List xZ) (U : State) (ef : List (Nat × Nat)) (Y0 : xY) (H0 : Heap) (nL : Nat) (mu : List Value)
/-- from every state that the checker's state tells of, at this place, the machine comes to Q -/
def x_K (q : Nat × xS) : Prop := ∀ (Y : xY) (H : Heap) (locs : List Loc) (r : Nat → Value) (ls : Array Slot) (st : List Value),
  x_I D G Zs U ef Y0 H0 Y H locs → x_C D Y0 nL mu Y H q.2 r ls st → W p l e R s m args below meth c H locs (x_cells q.2) (x_slots q.2) Q (F0 m q.1 ls st)
end XK
/-! steps: the places that come next, with their states; none: the checker doesn't see that this is safe -/
abbrev xN : Type := Option (List (Nat × xS))
def x_bin (a : xS) (pc : Nat) (f : Int × Int → Int × Int → Option (Int × Int)) : xN := match a.2.2.1 with
  | y :: x :: S => (match a.1[y]?, a.1[x]? with
    | some (.inl q), some (.inl u) => (match f u q with
      | some t => some [(pc + 1, x_psh a S (.inl t))]
      | none => none)
    | _, _ => none)
  | _ => none
def x_un (a : xS) (pc : Nat) (f : Int × Int → Int × Int) : xN := match a.2.2.1 with
  | x :: S => (match a.1[x]? with
    | some (.inl u) => some [(pc + 1, x_psh a S (.inl (f u)))]
    | _ => none)
  | _ => none
/-- a sum with a number that is known, or one that needn't be -/
def x_addS (a : xS) (pc : Nat) : xN := match a.2.2.1 with
  | y :: x :: S => (match a.1[y]?, a.1[x]? with
    | some (.inl q), some (.inl u) => some [(pc + 1, (let b := x_psh a S (.inl (x_addB u q))
        if q.1 = q.2 ∧ -2147483648 ≤ u.1 + q.1 ∧ u.2 + q.2 ≤ 2147483647 then (b.1, b.2.1, b.2.2.1, b.2.2.2.1, (a.1.length, x, q.1) :: b.2.2.2.2.1, b.2.2.2.2.2) else b))]
    | _, _ => none)
  | _ => none
def x_binL (a : xS) (pc : Nat) (nz : Bool) : xN := match a.2.2.1 with
  | y :: x :: S => (match a.1[y]?, a.1[x]? with
    | some (.inr (.inl q)), some (.inr (.inl _)) => if nz = true ∧ ¬ (0 < q.1 ∨ q.2 < 0) then none else some [(pc + 1, x_psh a S (.inr (.inl x_fullL)))]
    | _, _ => none)
  | _ => none
def x_shL (a : xS) (pc : Nat) : xN := match a.2.2.1 with
  | y :: x :: S => (match a.1[y]?, a.1[x]? with
    | some (.inl _), some (.inr (.inl _)) => some [(pc + 1, x_psh a S (.inr (.inl x_fullL)))]
    | _, _ => none)
  | _ => none
def x_unL (a : xS) (pc : Nat) : xN := match a.2.2.1 with
  | x :: S => (match a.1[x]? with
    | some (.inr (.inl _)) => some [(pc + 1, x_psh a S (.inr (.inl x_fullL)))]
    | _ => none)
  | _ => none
def x_i2l (a : xS) (pc : Nat) : xN := match a.2.2.1 with
  | x :: S => (match a.1[x]? with
    | some (.inl u) => some [(pc + 1, (a.1 ++ [.inr (.inl u)], a.2.1, a.1.length :: S, a.2.2.2.1, (a.1.length, x, 0) :: a.2.2.2.2.1, a.2.2.2.2.2))]
    | _ => none)
  | _ => none
def x_l2i (a : xS) (pc : Nat) : xN := match a.2.2.1 with
  | x :: S => (match a.1[x]? with
    | some (.inr (.inl u)) => some [(pc + 1, x_psh a S (.inl (x_clip u.1 u.2)))]
    | _ => none)
  | _ => none
def x_ref2 (a : xS) (S : List Nat) (x y : Nat) (b : Option xB2) (pc : Nat) : List (Nat × xS) := match b with
  | some b => [(pc, ((a.1.set x (.inl b.1)).set y (.inl b.2), a.2.1, S, a.2.2.2))]
  | none => []
def x_icmp (a : xS) (pc : Nat) (off : Int) (f g : Int × Int → Int × Int → Option xB2) : xN := match a.2.2.1 with
  | y :: x :: S => (match a.1[y]?, a.1[x]? with
    | some (.inl q), some (.inl u) => if (pc : Int) + off = ((((pc : Int) + off).toNat : Nat) : Int) then some (x_ref2 a S x y (f u q) ((pc : Int) + off).toNat ++ x_ref2 a S x y (g u q) (pc + 3)) else none
    | _, _ => none)
  | _ => none
def x_if0 (a : xS) (pc : Nat) (off : Int) (f g : Int × Int → Int × Int → Option xB2) : xN := match a.2.2.1 with
  | x :: S => (match a.1[x]? with
    | some (.inl u) => if (pc : Int) + off = ((((pc : Int) + off).toNat : Nat) : Int) then some ((match f u (0, 0) with
        | some b => [(((pc : Int) + off).toNat, (a.1.set x (.inl b.1), a.2.1, S, a.2.2.2))]
        | none => []) ++ (match g u (0, 0) with
        | some b => [(pc + 3, (a.1.set x (.inl b.1), a.2.1, S, a.2.2.2))]
        | none => [])) else none
    | _ => none)
  | _ => none
def x_ld (a : xS) (pc : Nat) (i : Nat) (f : xV → Bool) : xN := match a.2.1.find? (fun q => q.1 == i) with
  | some q => (match a.1[q.2]? with
    | some t => if f t then some [(pc, x_top a (q.2 :: a.2.2.1))] else none
    | none => none)
  | none => none
def x_isI : xV → Bool | .inl _ => true | _ => false
def x_isL : xV → Bool | .inr (.inl _) => true | _ => false
def x_isR : xV → Bool | .inr (.inr _) => true | _ => false
def x_n2 (E : List xV) (k : Nat) : Bool := match E[k]? with
  | some (.inl _) => true
  | some (.inr (.inr _)) => true
  | _ => false
def x_sto (a : xS) (pc : Nat) (i nL : Nat) (f : xV → Bool) : xN := match a.2.2.1 with
  | x :: S => (match a.1[x]? with
    | some t => if f t = true ∧ i < nL then some [(pc, (a.1, (i, x) :: a.2.1.filter (fun q => !(q.1 == i) && (!(q.1 + 1 == i) || x_n2 a.1 q.2)), S, a.2.2.2))] else none
    | none => none)
  | _ => none
def x_stoL (a : xS) (pc : Nat) (i nL : Nat) : xN := match a.2.2.1 with
  | x :: S => (match a.1[x]? with
    | some (.inr (.inl _)) => if i + 1 < nL then some [(pc, (a.1, (i, x) :: a.2.1.filter (fun q => !(q.1 == i) && (!(q.1 == i + 1) && (!(q.1 + 1 == i) || x_n2 a.1 q.2))), S, a.2.2.2))] else none
    | _ => none)
  | _ => none
def x_iinc (a : xS) (pc : Nat) (i nL : Nat) (n : Int) : xN := match a.2.1.find? (fun q => q.1 == i) with
  | some q => (match a.1[q.2]? with
    | some (.inl u) => if -32768 ≤ n ∧ n ≤ 32767 ∧ i < nL then (if -2147483648 ≤ u.1 + n ∧ u.2 + n ≤ 2147483647 then some [(pc + 3, (a.1 ++ [.inl (u.1 + n, u.2 + n)], (i, a.1.length) :: a.2.1.filter (fun z => !(z.1 == i) && (!(z.1 + 1 == i) || x_n2 a.1 z.2)), a.2.2.1, a.2.2.2.1, (a.1.length, q.2, n) :: a.2.2.2.2.1, a.2.2.2.2.2))]
        else some [(pc + 3, (a.1 ++ [.inl x_full], (i, a.1.length) :: a.2.1.filter (fun z => !(z.1 == i) && (!(z.1 + 1 == i) || x_n2 a.1 z.2)), a.2.2.1, a.2.2.2))]) else none
    | _ => none)
  | none => none
def x_lcmp (a : xS) (pc : Nat) : xN := match a.2.2.1 with
  | y :: x :: S => (match a.1[y]?, a.1[x]? with
    | some (.inr (.inl q)), some (.inr (.inl u)) => some ((match x_rlt u q with
        | some b => [(pc + 1, x_psh ((a.1.set x (.inr (.inl b.1))).set y (.inr (.inl b.2)), a.2) S (.inl (-1, -1)))]
        | none => []) ++ ((match x_req u q with
        | some b => [(pc + 1, x_psh ((a.1.set x (.inr (.inl b.1))).set y (.inr (.inl b.2)), a.2) S (.inl (0, 0)))]
        | none => []) ++ (match x_rlt q u with
        | some b => [(pc + 1, x_psh ((a.1.set x (.inr (.inl b.2))).set y (.inr (.inl b.1)), a.2) S (.inl (1, 1)))]
        | none => [])))
    | _, _ => none)
  | _ => none

