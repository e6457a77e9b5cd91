/-! a fast decoder: a byte by the list's own recursor, an opcode by a short table -/
noncomputable def dz_nth {α : Type} (l : List α) : Nat → Option α := List.rec (motive := fun _ => Nat → Option α) (fun _ => none) (fun a _ ih n => Nat.rec (motive := fun _ => Option α) (some a) (fun m _ => ih m) n) l
theorem dz_nth_eq {α : Type} (l : List α) : ∀ n, dz_nth l n = l[n]? := by
  induction l with
  | nil => intro n; exact (List.getElem?_nil).symm
  | cons a l ih =>
    intro n
    cases n with
    | zero => rfl
    | succ n => exact (ih n).trans (List.getElem?_cons_succ).symm
noncomputable def dz_b (code : ByteArray) (p : Nat) : Option Nat := Option.rec (motive := fun _ => Option Nat) none (fun v => some v.toNat) (dz_nth code.data.toList p)
theorem dz_u1 {code : ByteArray} {p b : Nat} (h : dz_b code p = some b) : (Reader.u1 : Decoder Nat) code p = .ok (b, p + 1) := by
  have hp : p < code.size ∧ ∀ hp : p < code.size, code[p].toNat = b := by
    unfold dz_b at h
    rw [dz_nth_eq] at h
    rcases Nat.lt_or_ge p code.data.toList.length with h1 | h1
    · refine ⟨h1, fun hp => ?_⟩
      have h2 : code.data.toList[p]? = some (code.data.toList[p]'h1) := List.getElem?_eq_getElem h1
      rw [h2] at h
      injection h with h
    · rw [List.getElem?_eq_none h1] at h; cases h
  obtain ⟨hp, e⟩ := hp
  have e2 : (Reader.u1 : Decoder Nat) code p = (if h : p < code.size then .ok (code[p].toNat, p + 1) else .error (HasTruncated.truncated p)) := by
    unfold Reader.u1
    show (if h : p < code.size then _ else _ : Decoder Nat) code p = _
    rw [dif_pos hp, dif_pos hp]; rfl
  rw [e2, dif_pos hp, e hp]
abbrev dzT : Type := ByteArray → Nat → Option (Instr × Nat)
noncomputable def dz_0 (i : Instr) : dzT := fun _ _ => some (i, 1)
noncomputable def dz_1 (f : Nat → Instr) : dzT := fun c p => Option.rec (motive := fun _ => Option (Instr × Nat)) none (fun a => some (f a, 2)) (dz_b c (p + 1))
noncomputable def dz_2 (f : Nat → Nat → Option Instr) : dzT := fun c p => Option.rec (motive := fun _ => Option (Instr × Nat)) none (fun a => Option.rec (motive := fun _ => Option (Instr × Nat)) none (fun b => Option.rec (motive := fun _ => Option (Instr × Nat)) none (fun i => some (i, 3)) (f a b)) (dz_b c (p + 1 + 1))) (dz_b c (p + 1))
theorem dz_1i {f : Nat → Instr} {c : ByteArray} {p : Nat} {r : Instr × Nat} (h : dz_1 f c p = some r) : ∃ a, (Reader.u1 : Decoder Nat) c (p + 1) = .ok (a, p + 1 + 1) ∧ r = (f a, 2) := by
  unfold dz_1 at h
  cases e : dz_b c (p + 1) with
  | none => rw [e] at h; cases h
  | some a =>
    rw [e] at h
    injection h with h
    exact ⟨a, dz_u1 e, h.symm⟩
theorem dz_2i {f : Nat → Nat → Option Instr} {c : ByteArray} {p : Nat} {r : Instr × Nat} (h : dz_2 f c p = some r) : ∃ a b i, (Reader.u1 : Decoder Nat) c (p + 1) = .ok (a, p + 1 + 1) ∧ (Reader.u1 : Decoder Nat) c (p + 1 + 1) = .ok (b, p + 1 + 1 + 1) ∧ f a b = some i ∧ r = (i, 3) := by
  unfold dz_2 at h
  cases e : dz_b c (p + 1) with
  | none => rw [e] at h; cases h
  | some a =>
    rw [e] at h
    dsimp only at h
    cases e2 : dz_b c (p + 1 + 1) with
    | none => rw [e2] at h; cases h
    | some b =>
      rw [e2] at h
      dsimp only at h
      cases e3 : f a b with
      | none => rw [e3] at h; cases h
      | some i =>
        rw [e3] at h
        injection h with h
        exact ⟨a, b, i, dz_u1 e, dz_u1 e2, e3, h.symm⟩
def dzOK (op : Nat) (g : dzT) : Prop := ∀ (c : ByteArray) (p : Nat) (r : Instr × Nat), (Reader.u1 : Decoder Nat) c p = .ok (op, p + 1) → g c p = some r → decode c p = .ok r
theorem dz_op42 : dzOK 42 (dz_0 (.aload_n 0)) := by
  intro c p r h hg
  cases hg
  unfold decode Decoder.instr Reader.runAt
  change Except.bind (Except.bind ((Reader.u1 : Decoder Nat) c p) _) _ = _
  rw [h]
  exact congrArg (fun z => Except.ok (Instr.aload_n 0, z)) (Nat.add_sub_cancel_left ..)
theorem dz_op180 : dzOK 180 (dz_2 (fun a b => some (Instr.getfield (a * 256 + b)))) := by
  intro c p r h hg
  obtain ⟨a, b, i, h1, h2, h3, rfl⟩ := dz_2i hg
  cases h3
  unfold decode Decoder.instr Reader.runAt
  change Except.bind (Except.bind ((Reader.u1 : Decoder Nat) c p) _) _ = _
  rw [h]
  change Except.bind (Except.bind (Except.bind ((Reader.u1 : Decoder Nat) c (p + 1)) _) _) _ = _
  rw [h1]
  change Except.bind (Except.bind (Except.bind ((Reader.u1 : Decoder Nat) c (p + 1 + 1)) _) _) _ = _
  rw [h2]
  exact congrArg (fun z => Except.ok (_, z)) (show p + 1 + 1 + 1 - p = 3 by omega)
theorem dz_op182 : dzOK 182 (dz_2 (fun a b => some (Instr.invokevirtual (a * 256 + b)))) := by
  intro c p r h hg
  obtain ⟨a, b, i, h1, h2, h3, rfl⟩ := dz_2i hg
  cases h3
  unfold decode Decoder.instr Reader.runAt
  change Except.bind (Except.bind ((Reader.u1 : Decoder Nat) c p) _) _ = _
  rw [h]
  change Except.bind (Except.bind (Except.bind ((Reader.u1 : Decoder Nat) c (p + 1)) _) _) _ = _
  rw [h1]
  change Except.bind (Except.bind (Except.bind ((Reader.u1 : Decoder Nat) c (p + 1 + 1)) _) _) _ = _
  rw [h2]
  exact congrArg (fun z => Except.ok (_, z)) (show p + 1 + 1 + 1 - p = 3 by omega)
theorem dz_op21 : dzOK 21 (dz_1 (fun a => Instr.iload a)) := by
  intro c p r h hg
  obtain ⟨a, h1, rfl⟩ := dz_1i hg
  unfold decode Decoder.instr Reader.runAt
  change Except.bind (Except.bind ((Reader.u1 : Decoder Nat) c p) _) _ = _
  rw [h]
  change Except.bind (Except.bind ((Reader.u1 : Decoder Nat) c (p + 1)) _) _ = _
  rw [h1]
  exact congrArg (fun z => Except.ok ((fun a => Instr.iload a) a, z)) (show p + 1 + 1 - p = 2 by omega)
theorem dz_op27 : dzOK 27 (dz_0 (.iload_n 1)) := by
  intro c p r h hg
  cases hg
  unfold decode Decoder.instr Reader.runAt
  change Except.bind (Except.bind ((Reader.u1 : Decoder Nat) c p) _) _ = _
  rw [h]
  exact congrArg (fun z => Except.ok (Instr.iload_n 1, z)) (Nat.add_sub_cancel_left ..)
theorem dz_op3 : dzOK 3 (dz_0 (.iconst 0)) := by
  intro c p r h hg
  cases hg
  unfold decode Decoder.instr Reader.runAt
  change Except.bind (Except.bind ((Reader.u1 : Decoder Nat) c p) _) _ = _
  rw [h]
  exact congrArg (fun z => Except.ok (Instr.iconst 0, z)) (Nat.add_sub_cancel_left ..)
theorem dz_op29 : dzOK 29 (dz_0 (.iload_n 3)) := by
  intro c p r h hg
  cases hg
  unfold decode Decoder.instr Reader.runAt
  change Except.bind (Except.bind ((Reader.u1 : Decoder Nat) c p) _) _ = _
  rw [h]
  exact congrArg (fun z => Except.ok (Instr.iload_n 3, z)) (Nat.add_sub_cancel_left ..)
theorem dz_op46 : dzOK 46 (dz_0 (.iaload)) := by
  intro c p r h hg
  cases hg
  unfold decode Decoder.instr Reader.runAt
  change Except.bind (Except.bind ((Reader.u1 : Decoder Nat) c p) _) _ = _
  rw [h]
  exact congrArg (fun z => Except.ok (Instr.iaload, z)) (Nat.add_sub_cancel_left ..)
theorem dz_op4 : dzOK 4 (dz_0 (.iconst 1)) := by
  intro c p r h hg
  cases hg
  unfold decode Decoder.instr Reader.runAt
  change Except.bind (Except.bind ((Reader.u1 : Decoder Nat) c p) _) _ = _
  rw [h]
  exact congrArg (fun z => Except.ok (Instr.iconst 1, z)) (Nat.add_sub_cancel_left ..)
theorem dz_op167 : dzOK 167 (dz_2 (fun a b => some (Instr.goto (Reader.signed 16 (a * 256 + b))))) := by
  intro c p r h hg
  obtain ⟨a, b, i, h1, h2, h3, rfl⟩ := dz_2i hg
  cases h3
  unfold decode Decoder.instr Reader.runAt
  change Except.bind (Except.bind ((Reader.u1 : Decoder Nat) c p) _) _ = _
  rw [h]
  change Except.bind (Except.bind (Except.bind (Except.bind ((Reader.u1 : Decoder Nat) c (p + 1)) _) _) _) _ = _
  rw [h1]
  change Except.bind (Except.bind (Except.bind (Except.bind ((Reader.u1 : Decoder Nat) c (p + 1 + 1)) _) _) _) _ = _
  rw [h2]
  exact congrArg (fun z => Except.ok (_, z)) (show p + 1 + 1 + 1 - p = 3 by omega)
theorem dz_op172 : dzOK 172 (dz_0 (.ireturn)) := by
  intro c p r h hg
  cases hg
  unfold decode Decoder.instr Reader.runAt
  change Except.bind (Except.bind ((Reader.u1 : Decoder Nat) c p) _) _ = _
  rw [h]
  exact congrArg (fun z => Except.ok (Instr.ireturn, z)) (Nat.add_sub_cancel_left ..)
theorem dz_op28 : dzOK 28 (dz_0 (.iload_n 2)) := by
  intro c p r h hg
  cases hg
  unfold decode Decoder.instr Reader.runAt
  change Except.bind (Except.bind ((Reader.u1 : Decoder Nat) c p) _) _ = _
  rw [h]
  exact congrArg (fun z => Except.ok (Instr.iload_n 2, z)) (Nat.add_sub_cancel_left ..)
theorem dz_op96 : dzOK 96 (dz_0 (.iadd)) := by
  intro c p r h hg
  cases hg
  unfold decode Decoder.instr Reader.runAt
  change Except.bind (Except.bind ((Reader.u1 : Decoder Nat) c p) _) _ = _
  rw [h]
  exact congrArg (fun z => Except.ok (Instr.iadd, z)) (Nat.add_sub_cancel_left ..)
theorem dz_op16 : dzOK 16 (dz_1 (fun a => Instr.bipush (Reader.signed 8 a))) := by
  intro c p r h hg
  obtain ⟨a, h1, rfl⟩ := dz_1i hg
  unfold decode Decoder.instr Reader.runAt
  change Except.bind (Except.bind ((Reader.u1 : Decoder Nat) c p) _) _ = _
  rw [h]
  change Except.bind (Except.bind (Except.bind ((Reader.u1 : Decoder Nat) c (p + 1)) _) _) _ = _
  rw [h1]
  exact congrArg (fun z => Except.ok ((fun a => Instr.bipush (Reader.signed 8 a)) a, z)) (show p + 1 + 1 - p = 2 by omega)
theorem dz_op153 : dzOK 153 (dz_2 (fun a b => some (Instr.ifCond .eq (Reader.signed 16 (a * 256 + b))))) := by
  intro c p r h hg
  obtain ⟨a, b, i, h1, h2, h3, rfl⟩ := dz_2i hg
  cases h3
  unfold decode Decoder.instr Reader.runAt
  change Except.bind (Except.bind ((Reader.u1 : Decoder Nat) c p) _) _ = _
  rw [h]
  change Except.bind (Except.bind (Except.bind (Except.bind ((Reader.u1 : Decoder Nat) c (p + 1)) _) _) _) _ = _
  rw [h1]
  change Except.bind (Except.bind (Except.bind (Except.bind ((Reader.u1 : Decoder Nat) c (p + 1 + 1)) _) _) _) _ = _
  rw [h2]
  exact congrArg (fun z => Except.ok (_, z)) (show p + 1 + 1 + 1 - p = 3 by omega)
theorem dz_op184 : dzOK 184 (dz_2 (fun a b => some (Instr.invokestatic (a * 256 + b)))) := by
  intro c p r h hg
  obtain ⟨a, b, i, h1, h2, h3, rfl⟩ := dz_2i hg
  cases h3
  unfold decode Decoder.instr Reader.runAt
  change Except.bind (Except.bind ((Reader.u1 : Decoder Nat) c p) _) _ = _
  rw [h]
  change Except.bind (Except.bind (Except.bind ((Reader.u1 : Decoder Nat) c (p + 1)) _) _) _ = _
  rw [h1]
  change Except.bind (Except.bind (Except.bind ((Reader.u1 : Decoder Nat) c (p + 1 + 1)) _) _) _ = _
  rw [h2]
  exact congrArg (fun z => Except.ok (_, z)) (show p + 1 + 1 + 1 - p = 3 by omega)
theorem dz_op54 : dzOK 54 (dz_1 (fun a => Instr.istore a)) := by
  intro c p r h hg
  obtain ⟨a, h1, rfl⟩ := dz_1i hg
  unfold decode Decoder.instr Reader.runAt
  change Except.bind (Except.bind ((Reader.u1 : Decoder Nat) c p) _) _ = _
  rw [h]
  change Except.bind (Except.bind ((Reader.u1 : Decoder Nat) c (p + 1)) _) _ = _
  rw [h1]
  exact congrArg (fun z => Except.ok ((fun a => Instr.istore a) a, z)) (show p + 1 + 1 - p = 2 by omega)
theorem dz_op132 : dzOK 132 (dz_2 (fun a b => some (Instr.iinc a (Reader.signed 8 b)))) := by
  intro c p r h hg
  obtain ⟨a, b, i, h1, h2, h3, rfl⟩ := dz_2i hg
  cases h3
  unfold decode Decoder.instr Reader.runAt
  change Except.bind (Except.bind ((Reader.u1 : Decoder Nat) c p) _) _ = _
  rw [h]
  change Except.bind (Except.bind ((Reader.u1 : Decoder Nat) c (p + 1)) _) _ = _
  rw [h1]
  change Except.bind (Except.bind (Except.bind ((Reader.u1 : Decoder Nat) c (p + 1 + 1)) _) _) _ = _
  rw [h2]
  exact congrArg (fun z => Except.ok (_, z)) (show p + 1 + 1 + 1 - p = 3 by omega)
theorem dz_op162 : dzOK 162 (dz_2 (fun a b => some (Instr.if_icmp .ge (Reader.signed 16 (a * 256 + b))))) := by
  intro c p r h hg
  obtain ⟨a, b, i, h1, h2, h3, rfl⟩ := dz_2i hg
  cases h3
  unfold decode Decoder.instr Reader.runAt
  change Except.bind (Except.bind ((Reader.u1 : Decoder Nat) c p) _) _ = _
  rw [h]
  change Except.bind (Except.bind (Except.bind (Except.bind ((Reader.u1 : Decoder Nat) c (p + 1)) _) _) _) _ = _
  rw [h1]
  change Except.bind (Except.bind (Except.bind (Except.bind ((Reader.u1 : Decoder Nat) c (p + 1 + 1)) _) _) _) _ = _
  rw [h2]
  exact congrArg (fun z => Except.ok (_, z)) (show p + 1 + 1 + 1 - p = 3 by omega)
theorem dz_op154 : dzOK 154 (dz_2 (fun a b => some (Instr.ifCond .ne (Reader.signed 16 (a * 256 + b))))) := by
  intro c p r h hg
  obtain ⟨a, b, i, h1, h2, h3, rfl⟩ := dz_2i hg
  cases h3
  unfold decode Decoder.instr Reader.runAt
  change Except.bind (Except.bind ((Reader.u1 : Decoder Nat) c p) _) _ = _
  rw [h]
  change Except.bind (Except.bind (Except.bind (Except.bind ((Reader.u1 : Decoder Nat) c (p + 1)) _) _) _) _ = _
  rw [h1]
  change Except.bind (Except.bind (Except.bind (Except.bind ((Reader.u1 : Decoder Nat) c (p + 1 + 1)) _) _) _) _ = _
  rw [h2]
  exact congrArg (fun z => Except.ok (_, z)) (show p + 1 + 1 + 1 - p = 3 by omega)
theorem dz_op43 : dzOK 43 (dz_0 (.aload_n 1)) := by
  intro c p r h hg
  cases hg
  unfold decode Decoder.instr Reader.runAt
  change Except.bind (Except.bind ((Reader.u1 : Decoder Nat) c p) _) _ = _
  rw [h]
  exact congrArg (fun z => Except.ok (Instr.aload_n 1, z)) (Nat.add_sub_cancel_left ..)
theorem dz_op181 : dzOK 181 (dz_2 (fun a b => some (Instr.putfield (a * 256 + b)))) := by
  intro c p r h hg
  obtain ⟨a, b, i, h1, h2, h3, rfl⟩ := dz_2i hg
  cases h3
  unfold decode Decoder.instr Reader.runAt
  change Except.bind (Except.bind ((Reader.u1 : Decoder Nat) c p) _) _ = _
  rw [h]
  change Except.bind (Except.bind (Except.bind ((Reader.u1 : Decoder Nat) c (p + 1)) _) _) _ = _
  rw [h1]
  change Except.bind (Except.bind (Except.bind ((Reader.u1 : Decoder Nat) c (p + 1 + 1)) _) _) _ = _
  rw [h2]
  exact congrArg (fun z => Except.ok (_, z)) (show p + 1 + 1 + 1 - p = 3 by omega)
theorem dz_op5 : dzOK 5 (dz_0 (.iconst 2)) := by
  intro c p r h hg
  cases hg
  unfold decode Decoder.instr Reader.runAt
  change Except.bind (Except.bind ((Reader.u1 : Decoder Nat) c p) _) _ = _
  rw [h]
  exact congrArg (fun z => Except.ok (Instr.iconst 2, z)) (Nat.add_sub_cancel_left ..)
theorem dz_op160 : dzOK 160 (dz_2 (fun a b => some (Instr.if_icmp .ne (Reader.signed 16 (a * 256 + b))))) := by
  intro c p r h hg
  obtain ⟨a, b, i, h1, h2, h3, rfl⟩ := dz_2i hg
  cases h3
  unfold decode Decoder.instr Reader.runAt
  change Except.bind (Except.bind ((Reader.u1 : Decoder Nat) c p) _) _ = _
  rw [h]
  change Except.bind (Except.bind (Except.bind (Except.bind ((Reader.u1 : Decoder Nat) c (p + 1)) _) _) _) _ = _
  rw [h1]
  change Except.bind (Except.bind (Except.bind (Except.bind ((Reader.u1 : Decoder Nat) c (p + 1 + 1)) _) _) _) _ = _
  rw [h2]
  exact congrArg (fun z => Except.ok (_, z)) (show p + 1 + 1 + 1 - p = 3 by omega)
theorem dz_op2 : dzOK 2 (dz_0 (.iconst (-1))) := by
  intro c p r h hg
  cases hg
  unfold decode Decoder.instr Reader.runAt
  change Except.bind (Except.bind ((Reader.u1 : Decoder Nat) c p) _) _ = _
  rw [h]
  exact congrArg (fun z => Except.ok (Instr.iconst (-1), z)) (Nat.add_sub_cancel_left ..)
theorem dz_op79 : dzOK 79 (dz_0 (.iastore)) := by
  intro c p r h hg
  cases hg
  unfold decode Decoder.instr Reader.runAt
  change Except.bind (Except.bind ((Reader.u1 : Decoder Nat) c p) _) _ = _
  rw [h]
  exact congrArg (fun z => Except.ok (Instr.iastore, z)) (Nat.add_sub_cancel_left ..)
theorem dz_op133 : dzOK 133 (dz_0 (.i2l)) := by
  intro c p r h hg
  cases hg
  unfold decode Decoder.instr Reader.runAt
  change Except.bind (Except.bind ((Reader.u1 : Decoder Nat) c p) _) _ = _
  rw [h]
  exact congrArg (fun z => Except.ok (Instr.i2l, z)) (Nat.add_sub_cancel_left ..)
theorem dz_op104 : dzOK 104 (dz_0 (.imul)) := by
  intro c p r h hg
  cases hg
  unfold decode Decoder.instr Reader.runAt
  change Except.bind (Except.bind ((Reader.u1 : Decoder Nat) c p) _) _ = _
  rw [h]
  exact congrArg (fun z => Except.ok (Instr.imul, z)) (Nat.add_sub_cancel_left ..)
theorem dz_op87 : dzOK 87 (dz_0 (.pop)) := by
  intro c p r h hg
  cases hg
  unfold decode Decoder.instr Reader.runAt
  change Except.bind (Except.bind ((Reader.u1 : Decoder Nat) c p) _) _ = _
  rw [h]
  exact congrArg (fun z => Except.ok (Instr.pop, z)) (Nat.add_sub_cancel_left ..)
theorem dz_op62 : dzOK 62 (dz_0 (.istore_n 3)) := by
  intro c p r h hg
  cases hg
  unfold decode Decoder.instr Reader.runAt
  change Except.bind (Except.bind ((Reader.u1 : Decoder Nat) c p) _) _ = _
  rw [h]
  exact congrArg (fun z => Except.ok (Instr.istore_n 3, z)) (Nat.add_sub_cancel_left ..)
theorem dz_op17 : dzOK 17 (dz_2 (fun a b => some (Instr.sipush (Reader.signed 16 (a * 256 + b))))) := by
  intro c p r h hg
  obtain ⟨a, b, i, h1, h2, h3, rfl⟩ := dz_2i hg
  cases h3
  unfold decode Decoder.instr Reader.runAt
  change Except.bind (Except.bind ((Reader.u1 : Decoder Nat) c p) _) _ = _
  rw [h]
  change Except.bind (Except.bind (Except.bind (Except.bind ((Reader.u1 : Decoder Nat) c (p + 1)) _) _) _) _ = _
  rw [h1]
  change Except.bind (Except.bind (Except.bind (Except.bind ((Reader.u1 : Decoder Nat) c (p + 1 + 1)) _) _) _) _ = _
  rw [h2]
  exact congrArg (fun z => Except.ok (_, z)) (show p + 1 + 1 + 1 - p = 3 by omega)
theorem dz_op100 : dzOK 100 (dz_0 (.isub)) := by
  intro c p r h hg
  cases hg
  unfold decode Decoder.instr Reader.runAt
  change Except.bind (Except.bind ((Reader.u1 : Decoder Nat) c p) _) _ = _
  rw [h]
  exact congrArg (fun z => Except.ok (Instr.isub, z)) (Nat.add_sub_cancel_left ..)
theorem dz_op61 : dzOK 61 (dz_0 (.istore_n 2)) := by
  intro c p r h hg
  cases hg
  unfold decode Decoder.instr Reader.runAt
  change Except.bind (Except.bind ((Reader.u1 : Decoder Nat) c p) _) _ = _
  rw [h]
  exact congrArg (fun z => Except.ok (Instr.istore_n 2, z)) (Nat.add_sub_cancel_left ..)
theorem dz_op44 : dzOK 44 (dz_0 (.aload_n 2)) := by
  intro c p r h hg
  cases hg
  unfold decode Decoder.instr Reader.runAt
  change Except.bind (Except.bind ((Reader.u1 : Decoder Nat) c p) _) _ = _
  rw [h]
  exact congrArg (fun z => Except.ok (Instr.aload_n 2, z)) (Nat.add_sub_cancel_left ..)
theorem dz_op9 : dzOK 9 (dz_0 (.lconst 0)) := by
  intro c p r h hg
  cases hg
  unfold decode Decoder.instr Reader.runAt
  change Except.bind (Except.bind ((Reader.u1 : Decoder Nat) c p) _) _ = _
  rw [h]
  exact congrArg (fun z => Except.ok (Instr.lconst 0, z)) (Nat.add_sub_cancel_left ..)
theorem dz_op20 : dzOK 20 (dz_2 (fun a b => some (Instr.ldc2_w (a * 256 + b)))) := by
  intro c p r h hg
  obtain ⟨a, b, i, h1, h2, h3, rfl⟩ := dz_2i hg
  cases h3
  unfold decode Decoder.instr Reader.runAt
  change Except.bind (Except.bind ((Reader.u1 : Decoder Nat) c p) _) _ = _
  rw [h]
  change Except.bind (Except.bind (Except.bind ((Reader.u1 : Decoder Nat) c (p + 1)) _) _) _ = _
  rw [h1]
  change Except.bind (Except.bind (Except.bind ((Reader.u1 : Decoder Nat) c (p + 1 + 1)) _) _) _ = _
  rw [h2]
  exact congrArg (fun z => Except.ok (_, z)) (show p + 1 + 1 + 1 - p = 3 by omega)
theorem dz_op159 : dzOK 159 (dz_2 (fun a b => some (Instr.if_icmp .eq (Reader.signed 16 (a * 256 + b))))) := by
  intro c p r h hg
  obtain ⟨a, b, i, h1, h2, h3, rfl⟩ := dz_2i hg
  cases h3
  unfold decode Decoder.instr Reader.runAt
  change Except.bind (Except.bind ((Reader.u1 : Decoder Nat) c p) _) _ = _
  rw [h]
  change Except.bind (Except.bind (Except.bind (Except.bind ((Reader.u1 : Decoder Nat) c (p + 1)) _) _) _) _ = _
  rw [h1]
  change Except.bind (Except.bind (Except.bind (Except.bind ((Reader.u1 : Decoder Nat) c (p + 1 + 1)) _) _) _) _ = _
  rw [h2]
  exact congrArg (fun z => Except.ok (_, z)) (show p + 1 + 1 + 1 - p = 3 by omega)
theorem dz_op126 : dzOK 126 (dz_0 (.iand)) := by
  intro c p r h hg
  cases hg
  unfold decode Decoder.instr Reader.runAt
  change Except.bind (Except.bind ((Reader.u1 : Decoder Nat) c p) _) _ = _
  rw [h]
  exact congrArg (fun z => Except.ok (Instr.iand, z)) (Nat.add_sub_cancel_left ..)
theorem dz_op6 : dzOK 6 (dz_0 (.iconst 3)) := by
  intro c p r h hg
  cases hg
  unfold decode Decoder.instr Reader.runAt
  change Except.bind (Except.bind ((Reader.u1 : Decoder Nat) c p) _) _ = _
  rw [h]
  exact congrArg (fun z => Except.ok (Instr.iconst 3, z)) (Nat.add_sub_cancel_left ..)
theorem dz_op177 : dzOK 177 (dz_0 (.return_)) := by
  intro c p r h hg
  cases hg
  unfold decode Decoder.instr Reader.runAt
  change Except.bind (Except.bind ((Reader.u1 : Decoder Nat) c p) _) _ = _
  rw [h]
  exact congrArg (fun z => Except.ok (Instr.return_, z)) (Nat.add_sub_cancel_left ..)
theorem dz_op26 : dzOK 26 (dz_0 (.iload_n 0)) := by
  intro c p r h hg
  cases hg
  unfold decode Decoder.instr Reader.runAt
  change Except.bind (Except.bind ((Reader.u1 : Decoder Nat) c p) _) _ = _
  rw [h]
  exact congrArg (fun z => Except.ok (Instr.iload_n 0, z)) (Nat.add_sub_cancel_left ..)
theorem dz_op120 : dzOK 120 (dz_0 (.ishl)) := by
  intro c p r h hg
  cases hg
  unfold decode Decoder.instr Reader.runAt
  change Except.bind (Except.bind ((Reader.u1 : Decoder Nat) c p) _) _ = _
  rw [h]
  exact congrArg (fun z => Except.ok (Instr.ishl, z)) (Nat.add_sub_cancel_left ..)
theorem dz_op7 : dzOK 7 (dz_0 (.iconst 4)) := by
  intro c p r h hg
  cases hg
  unfold decode Decoder.instr Reader.runAt
  change Except.bind (Except.bind ((Reader.u1 : Decoder Nat) c p) _) _ = _
  rw [h]
  exact congrArg (fun z => Except.ok (Instr.iconst 4, z)) (Nat.add_sub_cancel_left ..)
theorem dz_op33 : dzOK 33 (dz_0 (.lload_n 3)) := by
  intro c p r h hg
  cases hg
  unfold decode Decoder.instr Reader.runAt
  change Except.bind (Except.bind ((Reader.u1 : Decoder Nat) c p) _) _ = _
  rw [h]
  exact congrArg (fun z => Except.ok (Instr.lload_n 3, z)) (Nat.add_sub_cancel_left ..)
theorem dz_op183 : dzOK 183 (dz_2 (fun a b => some (Instr.invokespecial (a * 256 + b)))) := by
  intro c p r h hg
  obtain ⟨a, b, i, h1, h2, h3, rfl⟩ := dz_2i hg
  cases h3
  unfold decode Decoder.instr Reader.runAt
  change Except.bind (Except.bind ((Reader.u1 : Decoder Nat) c p) _) _ = _
  rw [h]
  change Except.bind (Except.bind (Except.bind ((Reader.u1 : Decoder Nat) c (p + 1)) _) _) _ = _
  rw [h1]
  change Except.bind (Except.bind (Except.bind ((Reader.u1 : Decoder Nat) c (p + 1 + 1)) _) _) _ = _
  rw [h2]
  exact congrArg (fun z => Except.ok (_, z)) (show p + 1 + 1 + 1 - p = 3 by omega)
theorem dz_op89 : dzOK 89 (dz_0 (.dup)) := by
  intro c p r h hg
  cases hg
  unfold decode Decoder.instr Reader.runAt
  change Except.bind (Except.bind ((Reader.u1 : Decoder Nat) c p) _) _ = _
  rw [h]
  exact congrArg (fun z => Except.ok (Instr.dup, z)) (Nat.add_sub_cancel_left ..)
theorem dz_op31 : dzOK 31 (dz_0 (.lload_n 1)) := by
  intro c p r h hg
  cases hg
  unfold decode Decoder.instr Reader.runAt
  change Except.bind (Except.bind ((Reader.u1 : Decoder Nat) c p) _) _ = _
  rw [h]
  exact congrArg (fun z => Except.ok (Instr.lload_n 1, z)) (Nat.add_sub_cancel_left ..)
theorem dz_op8 : dzOK 8 (dz_0 (.iconst 5)) := by
  intro c p r h hg
  cases hg
  unfold decode Decoder.instr Reader.runAt
  change Except.bind (Except.bind ((Reader.u1 : Decoder Nat) c p) _) _ = _
  rw [h]
  exact congrArg (fun z => Except.ok (Instr.iconst 5, z)) (Nat.add_sub_cancel_left ..)
theorem dz_op66 : dzOK 66 (dz_0 (.lstore_n 3)) := by
  intro c p r h hg
  cases hg
  unfold decode Decoder.instr Reader.runAt
  change Except.bind (Except.bind ((Reader.u1 : Decoder Nat) c p) _) _ = _
  rw [h]
  exact congrArg (fun z => Except.ok (Instr.lstore_n 3, z)) (Nat.add_sub_cancel_left ..)
theorem dz_op163 : dzOK 163 (dz_2 (fun a b => some (Instr.if_icmp .gt (Reader.signed 16 (a * 256 + b))))) := by
  intro c p r h hg
  obtain ⟨a, b, i, h1, h2, h3, rfl⟩ := dz_2i hg
  cases h3
  unfold decode Decoder.instr Reader.runAt
  change Except.bind (Except.bind ((Reader.u1 : Decoder Nat) c p) _) _ = _
  rw [h]
  change Except.bind (Except.bind (Except.bind (Except.bind ((Reader.u1 : Decoder Nat) c (p + 1)) _) _) _) _ = _
  rw [h1]
  change Except.bind (Except.bind (Except.bind (Except.bind ((Reader.u1 : Decoder Nat) c (p + 1 + 1)) _) _) _) _ = _
  rw [h2]
  exact congrArg (fun z => Except.ok (_, z)) (show p + 1 + 1 + 1 - p = 3 by omega)
theorem dz_op128 : dzOK 128 (dz_0 (.ior)) := by
  intro c p r h hg
  cases hg
  unfold decode Decoder.instr Reader.runAt
  change Except.bind (Except.bind ((Reader.u1 : Decoder Nat) c p) _) _ = _
  rw [h]
  exact congrArg (fun z => Except.ok (Instr.ior, z)) (Nat.add_sub_cancel_left ..)
theorem dz_op25 : dzOK 25 (dz_1 (fun a => Instr.aload a)) := by
  intro c p r h hg
  obtain ⟨a, h1, rfl⟩ := dz_1i hg
  unfold decode Decoder.instr Reader.runAt
  change Except.bind (Except.bind ((Reader.u1 : Decoder Nat) c p) _) _ = _
  rw [h]
  change Except.bind (Except.bind ((Reader.u1 : Decoder Nat) c (p + 1)) _) _ = _
  rw [h1]
  exact congrArg (fun z => Except.ok ((fun a => Instr.aload a) a, z)) (show p + 1 + 1 - p = 2 by omega)
theorem dz_op51 : dzOK 51 (dz_0 (.baload)) := by
  intro c p r h hg
  cases hg
  unfold decode Decoder.instr Reader.runAt
  change Except.bind (Except.bind ((Reader.u1 : Decoder Nat) c p) _) _ = _
  rw [h]
  exact congrArg (fun z => Except.ok (Instr.baload, z)) (Nat.add_sub_cancel_left ..)
theorem dz_op22 : dzOK 22 (dz_1 (fun a => Instr.lload a)) := by
  intro c p r h hg
  obtain ⟨a, h1, rfl⟩ := dz_1i hg
  unfold decode Decoder.instr Reader.runAt
  change Except.bind (Except.bind ((Reader.u1 : Decoder Nat) c p) _) _ = _
  rw [h]
  change Except.bind (Except.bind ((Reader.u1 : Decoder Nat) c (p + 1)) _) _ = _
  rw [h1]
  exact congrArg (fun z => Except.ok ((fun a => Instr.lload a) a, z)) (show p + 1 + 1 - p = 2 by omega)
theorem dz_op60 : dzOK 60 (dz_0 (.istore_n 1)) := by
  intro c p r h hg
  cases hg
  unfold decode Decoder.instr Reader.runAt
  change Except.bind (Except.bind ((Reader.u1 : Decoder Nat) c p) _) _ = _
  rw [h]
  exact congrArg (fun z => Except.ok (Instr.istore_n 1, z)) (Nat.add_sub_cancel_left ..)
theorem dz_op64 : dzOK 64 (dz_0 (.lstore_n 1)) := by
  intro c p r h hg
  cases hg
  unfold decode Decoder.instr Reader.runAt
  change Except.bind (Except.bind ((Reader.u1 : Decoder Nat) c p) _) _ = _
  rw [h]
  exact congrArg (fun z => Except.ok (Instr.lstore_n 1, z)) (Nat.add_sub_cancel_left ..)
theorem dz_op148 : dzOK 148 (dz_0 (.lcmp)) := by
  intro c p r h hg
  cases hg
  unfold decode Decoder.instr Reader.runAt
  change Except.bind (Except.bind ((Reader.u1 : Decoder Nat) c p) _) _ = _
  rw [h]
  exact congrArg (fun z => Except.ok (Instr.lcmp, z)) (Nat.add_sub_cancel_left ..)
theorem dz_op30 : dzOK 30 (dz_0 (.lload_n 0)) := by
  intro c p r h hg
  cases hg
  unfold decode Decoder.instr Reader.runAt
  change Except.bind (Except.bind ((Reader.u1 : Decoder Nat) c p) _) _ = _
  rw [h]
  exact congrArg (fun z => Except.ok (Instr.lload_n 0, z)) (Nat.add_sub_cancel_left ..)
theorem dz_op187 : dzOK 187 (dz_2 (fun a b => some (Instr.new (a * 256 + b)))) := by
  intro c p r h hg
  obtain ⟨a, b, i, h1, h2, h3, rfl⟩ := dz_2i hg
  cases h3
  unfold decode Decoder.instr Reader.runAt
  change Except.bind (Except.bind ((Reader.u1 : Decoder Nat) c p) _) _ = _
  rw [h]
  change Except.bind (Except.bind (Except.bind ((Reader.u1 : Decoder Nat) c (p + 1)) _) _) _ = _
  rw [h1]
  change Except.bind (Except.bind (Except.bind ((Reader.u1 : Decoder Nat) c (p + 1 + 1)) _) _) _ = _
  rw [h2]
  exact congrArg (fun z => Except.ok (_, z)) (show p + 1 + 1 + 1 - p = 3 by omega)
theorem dz_op122 : dzOK 122 (dz_0 (.ishr)) := by
  intro c p r h hg
  cases hg
  unfold decode Decoder.instr Reader.runAt
  change Except.bind (Except.bind ((Reader.u1 : Decoder Nat) c p) _) _ = _
  rw [h]
  exact congrArg (fun z => Except.ok (Instr.ishr, z)) (Nat.add_sub_cancel_left ..)
theorem dz_op164 : dzOK 164 (dz_2 (fun a b => some (Instr.if_icmp .le (Reader.signed 16 (a * 256 + b))))) := by
  intro c p r h hg
  obtain ⟨a, b, i, h1, h2, h3, rfl⟩ := dz_2i hg
  cases h3
  unfold decode Decoder.instr Reader.runAt
  change Except.bind (Except.bind ((Reader.u1 : Decoder Nat) c p) _) _ = _
  rw [h]
  change Except.bind (Except.bind (Except.bind (Except.bind ((Reader.u1 : Decoder Nat) c (p + 1)) _) _) _) _ = _
  rw [h1]
  change Except.bind (Except.bind (Except.bind (Except.bind ((Reader.u1 : Decoder Nat) c (p + 1 + 1)) _) _) _) _ = _
  rw [h2]
  exact congrArg (fun z => Except.ok (_, z)) (show p + 1 + 1 + 1 - p = 3 by omega)
theorem dz_op161 : dzOK 161 (dz_2 (fun a b => some (Instr.if_icmp .lt (Reader.signed 16 (a * 256 + b))))) := by
  intro c p r h hg
  obtain ⟨a, b, i, h1, h2, h3, rfl⟩ := dz_2i hg
  cases h3
  unfold decode Decoder.instr Reader.runAt
  change Except.bind (Except.bind ((Reader.u1 : Decoder Nat) c p) _) _ = _
  rw [h]
  change Except.bind (Except.bind (Except.bind (Except.bind ((Reader.u1 : Decoder Nat) c (p + 1)) _) _) _) _ = _
  rw [h1]
  change Except.bind (Except.bind (Except.bind (Except.bind ((Reader.u1 : Decoder Nat) c (p + 1 + 1)) _) _) _) _ = _
  rw [h2]
  exact congrArg (fun z => Except.ok (_, z)) (show p + 1 + 1 + 1 - p = 3 by omega)
theorem dz_op92 : dzOK 92 (dz_0 (.dup2)) := by
  intro c p r h hg
  cases hg
  unfold decode Decoder.instr Reader.runAt
  change Except.bind (Except.bind ((Reader.u1 : Decoder Nat) c p) _) _ = _
  rw [h]
  exact congrArg (fun z => Except.ok (Instr.dup2, z)) (Nat.add_sub_cancel_left ..)
theorem dz_op55 : dzOK 55 (dz_1 (fun a => Instr.lstore a)) := by
  intro c p r h hg
  obtain ⟨a, h1, rfl⟩ := dz_1i hg
  unfold decode Decoder.instr Reader.runAt
  change Except.bind (Except.bind ((Reader.u1 : Decoder Nat) c p) _) _ = _
  rw [h]
  change Except.bind (Except.bind ((Reader.u1 : Decoder Nat) c (p + 1)) _) _ = _
  rw [h1]
  exact congrArg (fun z => Except.ok ((fun a => Instr.lstore a) a, z)) (show p + 1 + 1 - p = 2 by omega)
theorem dz_op173 : dzOK 173 (dz_0 (.lreturn)) := by
  intro c p r h hg
  cases hg
  unfold decode Decoder.instr Reader.runAt
  change Except.bind (Except.bind ((Reader.u1 : Decoder Nat) c p) _) _ = _
  rw [h]
  exact congrArg (fun z => Except.ok (Instr.lreturn, z)) (Nat.add_sub_cancel_left ..)
theorem dz_op10 : dzOK 10 (dz_0 (.lconst 1)) := by
  intro c p r h hg
  cases hg
  unfold decode Decoder.instr Reader.runAt
  change Except.bind (Except.bind ((Reader.u1 : Decoder Nat) c p) _) _ = _
  rw [h]
  exact congrArg (fun z => Except.ok (Instr.lconst 1, z)) (Nat.add_sub_cancel_left ..)
theorem dz_op50 : dzOK 50 (dz_0 (.aaload)) := by
  intro c p r h hg
  cases hg
  unfold decode Decoder.instr Reader.runAt
  change Except.bind (Except.bind ((Reader.u1 : Decoder Nat) c p) _) _ = _
  rw [h]
  exact congrArg (fun z => Except.ok (Instr.aaload, z)) (Nat.add_sub_cancel_left ..)
theorem dz_op178 : dzOK 178 (dz_2 (fun a b => some (Instr.getstatic (a * 256 + b)))) := by
  intro c p r h hg
  obtain ⟨a, b, i, h1, h2, h3, rfl⟩ := dz_2i hg
  cases h3
  unfold decode Decoder.instr Reader.runAt
  change Except.bind (Except.bind ((Reader.u1 : Decoder Nat) c p) _) _ = _
  rw [h]
  change Except.bind (Except.bind (Except.bind ((Reader.u1 : Decoder Nat) c (p + 1)) _) _) _ = _
  rw [h1]
  change Except.bind (Except.bind (Except.bind ((Reader.u1 : Decoder Nat) c (p + 1 + 1)) _) _) _ = _
  rw [h2]
  exact congrArg (fun z => Except.ok (_, z)) (show p + 1 + 1 + 1 - p = 3 by omega)
theorem dz_op155 : dzOK 155 (dz_2 (fun a b => some (Instr.ifCond .lt (Reader.signed 16 (a * 256 + b))))) := by
  intro c p r h hg
  obtain ⟨a, b, i, h1, h2, h3, rfl⟩ := dz_2i hg
  cases h3
  unfold decode Decoder.instr Reader.runAt
  change Except.bind (Except.bind ((Reader.u1 : Decoder Nat) c p) _) _ = _
  rw [h]
  change Except.bind (Except.bind (Except.bind (Except.bind ((Reader.u1 : Decoder Nat) c (p + 1)) _) _) _) _ = _
  rw [h1]
  change Except.bind (Except.bind (Except.bind (Except.bind ((Reader.u1 : Decoder Nat) c (p + 1 + 1)) _) _) _) _ = _
  rw [h2]
  exact congrArg (fun z => Except.ok (_, z)) (show p + 1 + 1 + 1 - p = 3 by omega)
theorem dz_op18 : dzOK 18 (dz_1 (fun a => Instr.ldc a)) := by
  intro c p r h hg
  obtain ⟨a, h1, rfl⟩ := dz_1i hg
  unfold decode Decoder.instr Reader.runAt
  change Except.bind (Except.bind ((Reader.u1 : Decoder Nat) c p) _) _ = _
  rw [h]
  change Except.bind (Except.bind ((Reader.u1 : Decoder Nat) c (p + 1)) _) _ = _
  rw [h1]
  exact congrArg (fun z => Except.ok ((fun a => Instr.ldc a) a, z)) (show p + 1 + 1 - p = 2 by omega)
theorem dz_op130 : dzOK 130 (dz_0 (.ixor)) := by
  intro c p r h hg
  cases hg
  unfold decode Decoder.instr Reader.runAt
  change Except.bind (Except.bind ((Reader.u1 : Decoder Nat) c p) _) _ = _
  rw [h]
  exact congrArg (fun z => Except.ok (Instr.ixor, z)) (Nat.add_sub_cancel_left ..)
theorem dz_op176 : dzOK 176 (dz_0 (.areturn)) := by
  intro c p r h hg
  cases hg
  unfold decode Decoder.instr Reader.runAt
  change Except.bind (Except.bind ((Reader.u1 : Decoder Nat) c p) _) _ = _
  rw [h]
  exact congrArg (fun z => Except.ok (Instr.areturn, z)) (Nat.add_sub_cancel_left ..)
theorem dz_op83 : dzOK 83 (dz_0 (.aastore)) := by
  intro c p r h hg
  cases hg
  unfold decode Decoder.instr Reader.runAt
  change Except.bind (Except.bind ((Reader.u1 : Decoder Nat) c p) _) _ = _
  rw [h]
  exact congrArg (fun z => Except.ok (Instr.aastore, z)) (Nat.add_sub_cancel_left ..)
theorem dz_op190 : dzOK 190 (dz_0 (.arraylength)) := by
  intro c p r h hg
  cases hg
  unfold decode Decoder.instr Reader.runAt
  change Except.bind (Except.bind ((Reader.u1 : Decoder Nat) c p) _) _ = _
  rw [h]
  exact congrArg (fun z => Except.ok (Instr.arraylength, z)) (Nat.add_sub_cancel_left ..)
theorem dz_op156 : dzOK 156 (dz_2 (fun a b => some (Instr.ifCond .ge (Reader.signed 16 (a * 256 + b))))) := by
  intro c p r h hg
  obtain ⟨a, b, i, h1, h2, h3, rfl⟩ := dz_2i hg
  cases h3
  unfold decode Decoder.instr Reader.runAt
  change Except.bind (Except.bind ((Reader.u1 : Decoder Nat) c p) _) _ = _
  rw [h]
  change Except.bind (Except.bind (Except.bind (Except.bind ((Reader.u1 : Decoder Nat) c (p + 1)) _) _) _) _ = _
  rw [h1]
  change Except.bind (Except.bind (Except.bind (Except.bind ((Reader.u1 : Decoder Nat) c (p + 1 + 1)) _) _) _) _ = _
  rw [h2]
  exact congrArg (fun z => Except.ok (_, z)) (show p + 1 + 1 + 1 - p = 3 by omega)
theorem dz_op97 : dzOK 97 (dz_0 (.ladd)) := by
  intro c p r h hg
  cases hg
  unfold decode Decoder.instr Reader.runAt
  change Except.bind (Except.bind ((Reader.u1 : Decoder Nat) c p) _) _ = _
  rw [h]
  exact congrArg (fun z => Except.ok (Instr.ladd, z)) (Nat.add_sub_cancel_left ..)
theorem dz_op105 : dzOK 105 (dz_0 (.lmul)) := by
  intro c p r h hg
  cases hg
  unfold decode Decoder.instr Reader.runAt
  change Except.bind (Except.bind ((Reader.u1 : Decoder Nat) c p) _) _ = _
  rw [h]
  exact congrArg (fun z => Except.ok (Instr.lmul, z)) (Nat.add_sub_cancel_left ..)
theorem dz_op84 : dzOK 84 (dz_0 (.bastore)) := by
  intro c p r h hg
  cases hg
  unfold decode Decoder.instr Reader.runAt
  change Except.bind (Except.bind ((Reader.u1 : Decoder Nat) c p) _) _ = _
  rw [h]
  exact congrArg (fun z => Except.ok (Instr.bastore, z)) (Nat.add_sub_cancel_left ..)
theorem dz_op158 : dzOK 158 (dz_2 (fun a b => some (Instr.ifCond .le (Reader.signed 16 (a * 256 + b))))) := by
  intro c p r h hg
  obtain ⟨a, b, i, h1, h2, h3, rfl⟩ := dz_2i hg
  cases h3
  unfold decode Decoder.instr Reader.runAt
  change Except.bind (Except.bind ((Reader.u1 : Decoder Nat) c p) _) _ = _
  rw [h]
  change Except.bind (Except.bind (Except.bind (Except.bind ((Reader.u1 : Decoder Nat) c (p + 1)) _) _) _) _ = _
  rw [h1]
  change Except.bind (Except.bind (Except.bind (Except.bind ((Reader.u1 : Decoder Nat) c (p + 1 + 1)) _) _) _) _ = _
  rw [h2]
  exact congrArg (fun z => Except.ok (_, z)) (show p + 1 + 1 + 1 - p = 3 by omega)
theorem dz_op58 : dzOK 58 (dz_1 (fun a => Instr.astore a)) := by
  intro c p r h hg
  obtain ⟨a, h1, rfl⟩ := dz_1i hg
  unfold decode Decoder.instr Reader.runAt
  change Except.bind (Except.bind ((Reader.u1 : Decoder Nat) c p) _) _ = _
  rw [h]
  change Except.bind (Except.bind ((Reader.u1 : Decoder Nat) c (p + 1)) _) _ = _
  rw [h1]
  exact congrArg (fun z => Except.ok ((fun a => Instr.astore a) a, z)) (show p + 1 + 1 - p = 2 by omega)
theorem dz_op19 : dzOK 19 (dz_2 (fun a b => some (Instr.ldc_w (a * 256 + b)))) := by
  intro c p r h hg
  obtain ⟨a, b, i, h1, h2, h3, rfl⟩ := dz_2i hg
  cases h3
  unfold decode Decoder.instr Reader.runAt
  change Except.bind (Except.bind ((Reader.u1 : Decoder Nat) c p) _) _ = _
  rw [h]
  change Except.bind (Except.bind (Except.bind ((Reader.u1 : Decoder Nat) c (p + 1)) _) _) _ = _
  rw [h1]
  change Except.bind (Except.bind (Except.bind ((Reader.u1 : Decoder Nat) c (p + 1 + 1)) _) _) _ = _
  rw [h2]
  exact congrArg (fun z => Except.ok (_, z)) (show p + 1 + 1 + 1 - p = 3 by omega)
theorem dz_op124 : dzOK 124 (dz_0 (.iushr)) := by
  intro c p r h hg
  cases hg
  unfold decode Decoder.instr Reader.runAt
  change Except.bind (Except.bind ((Reader.u1 : Decoder Nat) c p) _) _ = _
  rw [h]
  exact congrArg (fun z => Except.ok (Instr.iushr, z)) (Nat.add_sub_cancel_left ..)
theorem dz_op59 : dzOK 59 (dz_0 (.istore_n 0)) := by
  intro c p r h hg
  cases hg
  unfold decode Decoder.instr Reader.runAt
  change Except.bind (Except.bind ((Reader.u1 : Decoder Nat) c p) _) _ = _
  rw [h]
  exact congrArg (fun z => Except.ok (Instr.istore_n 0, z)) (Nat.add_sub_cancel_left ..)
theorem dz_op116 : dzOK 116 (dz_0 (.ineg)) := by
  intro c p r h hg
  cases hg
  unfold decode Decoder.instr Reader.runAt
  change Except.bind (Except.bind ((Reader.u1 : Decoder Nat) c p) _) _ = _
  rw [h]
  exact congrArg (fun z => Except.ok (Instr.ineg, z)) (Nat.add_sub_cancel_left ..)
theorem dz_op109 : dzOK 109 (dz_0 (.ldiv)) := by
  intro c p r h hg
  cases hg
  unfold decode Decoder.instr Reader.runAt
  change Except.bind (Except.bind ((Reader.u1 : Decoder Nat) c p) _) _ = _
  rw [h]
  exact congrArg (fun z => Except.ok (Instr.ldiv, z)) (Nat.add_sub_cancel_left ..)
theorem dz_op88 : dzOK 88 (dz_0 (.pop2)) := by
  intro c p r h hg
  cases hg
  unfold decode Decoder.instr Reader.runAt
  change Except.bind (Except.bind ((Reader.u1 : Decoder Nat) c p) _) _ = _
  rw [h]
  exact congrArg (fun z => Except.ok (Instr.pop2, z)) (Nat.add_sub_cancel_left ..)
theorem dz_op112 : dzOK 112 (dz_0 (.irem)) := by
  intro c p r h hg
  cases hg
  unfold decode Decoder.instr Reader.runAt
  change Except.bind (Except.bind ((Reader.u1 : Decoder Nat) c p) _) _ = _
  rw [h]
  exact congrArg (fun z => Except.ok (Instr.irem, z)) (Nat.add_sub_cancel_left ..)
theorem dz_op108 : dzOK 108 (dz_0 (.idiv)) := by
  intro c p r h hg
  cases hg
  unfold decode Decoder.instr Reader.runAt
  change Except.bind (Except.bind ((Reader.u1 : Decoder Nat) c p) _) _ = _
  rw [h]
  exact congrArg (fun z => Except.ok (Instr.idiv, z)) (Nat.add_sub_cancel_left ..)
theorem dz_op32 : dzOK 32 (dz_0 (.lload_n 2)) := by
  intro c p r h hg
  cases hg
  unfold decode Decoder.instr Reader.runAt
  change Except.bind (Except.bind ((Reader.u1 : Decoder Nat) c p) _) _ = _
  rw [h]
  exact congrArg (fun z => Except.ok (Instr.lload_n 2, z)) (Nat.add_sub_cancel_left ..)
theorem dz_op127 : dzOK 127 (dz_0 (.land)) := by
  intro c p r h hg
  cases hg
  unfold decode Decoder.instr Reader.runAt
  change Except.bind (Except.bind ((Reader.u1 : Decoder Nat) c p) _) _ = _
  rw [h]
  exact congrArg (fun z => Except.ok (Instr.land, z)) (Nat.add_sub_cancel_left ..)
theorem dz_op189 : dzOK 189 (dz_2 (fun a b => some (Instr.anewarray (a * 256 + b)))) := by
  intro c p r h hg
  obtain ⟨a, b, i, h1, h2, h3, rfl⟩ := dz_2i hg
  cases h3
  unfold decode Decoder.instr Reader.runAt
  change Except.bind (Except.bind ((Reader.u1 : Decoder Nat) c p) _) _ = _
  rw [h]
  change Except.bind (Except.bind (Except.bind ((Reader.u1 : Decoder Nat) c (p + 1)) _) _) _ = _
  rw [h1]
  change Except.bind (Except.bind (Except.bind ((Reader.u1 : Decoder Nat) c (p + 1 + 1)) _) _) _ = _
  rw [h2]
  exact congrArg (fun z => Except.ok (_, z)) (show p + 1 + 1 + 1 - p = 3 by omega)
theorem dz_op76 : dzOK 76 (dz_0 (.astore_n 1)) := by
  intro c p r h hg
  cases hg
  unfold decode Decoder.instr Reader.runAt
  change Except.bind (Except.bind ((Reader.u1 : Decoder Nat) c p) _) _ = _
  rw [h]
  exact congrArg (fun z => Except.ok (Instr.astore_n 1, z)) (Nat.add_sub_cancel_left ..)
theorem dz_op113 : dzOK 113 (dz_0 (.lrem)) := by
  intro c p r h hg
  cases hg
  unfold decode Decoder.instr Reader.runAt
  change Except.bind (Except.bind ((Reader.u1 : Decoder Nat) c p) _) _ = _
  rw [h]
  exact congrArg (fun z => Except.ok (Instr.lrem, z)) (Nat.add_sub_cancel_left ..)
theorem dz_op117 : dzOK 117 (dz_0 (.lneg)) := by
  intro c p r h hg
  cases hg
  unfold decode Decoder.instr Reader.runAt
  change Except.bind (Except.bind ((Reader.u1 : Decoder Nat) c p) _) _ = _
  rw [h]
  exact congrArg (fun z => Except.ok (Instr.lneg, z)) (Nat.add_sub_cancel_left ..)
theorem dz_op136 : dzOK 136 (dz_0 (.l2i)) := by
  intro c p r h hg
  cases hg
  unfold decode Decoder.instr Reader.runAt
  change Except.bind (Except.bind ((Reader.u1 : Decoder Nat) c p) _) _ = _
  rw [h]
  exact congrArg (fun z => Except.ok (Instr.l2i, z)) (Nat.add_sub_cancel_left ..)
theorem dz_op146 : dzOK 146 (dz_0 (.i2c)) := by
  intro c p r h hg
  cases hg
  unfold decode Decoder.instr Reader.runAt
  change Except.bind (Except.bind ((Reader.u1 : Decoder Nat) c p) _) _ = _
  rw [h]
  exact congrArg (fun z => Except.ok (Instr.i2c, z)) (Nat.add_sub_cancel_left ..)
theorem dz_op191 : dzOK 191 (dz_0 (.athrow)) := by
  intro c p r h hg
  cases hg
  unfold decode Decoder.instr Reader.runAt
  change Except.bind (Except.bind ((Reader.u1 : Decoder Nat) c p) _) _ = _
  rw [h]
  exact congrArg (fun z => Except.ok (Instr.athrow, z)) (Nat.add_sub_cancel_left ..)
theorem dz_op199 : dzOK 199 (dz_2 (fun a b => some (Instr.ifnonnull (Reader.signed 16 (a * 256 + b))))) := by
  intro c p r h hg
  obtain ⟨a, b, i, h1, h2, h3, rfl⟩ := dz_2i hg
  cases h3
  unfold decode Decoder.instr Reader.runAt
  change Except.bind (Except.bind ((Reader.u1 : Decoder Nat) c p) _) _ = _
  rw [h]
  change Except.bind (Except.bind (Except.bind (Except.bind ((Reader.u1 : Decoder Nat) c (p + 1)) _) _) _) _ = _
  rw [h1]
  change Except.bind (Except.bind (Except.bind (Except.bind ((Reader.u1 : Decoder Nat) c (p + 1 + 1)) _) _) _) _ = _
  rw [h2]
  exact congrArg (fun z => Except.ok (_, z)) (show p + 1 + 1 + 1 - p = 3 by omega)
theorem dz_op121 : dzOK 121 (dz_0 (.lshl)) := by
  intro c p r h hg
  cases hg
  unfold decode Decoder.instr Reader.runAt
  change Except.bind (Except.bind ((Reader.u1 : Decoder Nat) c p) _) _ = _
  rw [h]
  exact congrArg (fun z => Except.ok (Instr.lshl, z)) (Nat.add_sub_cancel_left ..)
theorem dz_op129 : dzOK 129 (dz_0 (.lor)) := by
  intro c p r h hg
  cases hg
  unfold decode Decoder.instr Reader.runAt
  change Except.bind (Except.bind ((Reader.u1 : Decoder Nat) c p) _) _ = _
  rw [h]
  exact congrArg (fun z => Except.ok (Instr.lor, z)) (Nat.add_sub_cancel_left ..)
theorem dz_op125 : dzOK 125 (dz_0 (.lushr)) := by
  intro c p r h hg
  cases hg
  unfold decode Decoder.instr Reader.runAt
  change Except.bind (Except.bind ((Reader.u1 : Decoder Nat) c p) _) _ = _
  rw [h]
  exact congrArg (fun z => Except.ok (Instr.lushr, z)) (Nat.add_sub_cancel_left ..)
theorem dz_op157 : dzOK 157 (dz_2 (fun a b => some (Instr.ifCond .gt (Reader.signed 16 (a * 256 + b))))) := by
  intro c p r h hg
  obtain ⟨a, b, i, h1, h2, h3, rfl⟩ := dz_2i hg
  cases h3
  unfold decode Decoder.instr Reader.runAt
  change Except.bind (Except.bind ((Reader.u1 : Decoder Nat) c p) _) _ = _
  rw [h]
  change Except.bind (Except.bind (Except.bind (Except.bind ((Reader.u1 : Decoder Nat) c (p + 1)) _) _) _) _ = _
  rw [h1]
  change Except.bind (Except.bind (Except.bind (Except.bind ((Reader.u1 : Decoder Nat) c (p + 1 + 1)) _) _) _) _ = _
  rw [h2]
  exact congrArg (fun z => Except.ok (_, z)) (show p + 1 + 1 + 1 - p = 3 by omega)
theorem dz_op123 : dzOK 123 (dz_0 (.lshr)) := by
  intro c p r h hg
  cases hg
  unfold decode Decoder.instr Reader.runAt
  change Except.bind (Except.bind ((Reader.u1 : Decoder Nat) c p) _) _ = _
  rw [h]
  exact congrArg (fun z => Except.ok (Instr.lshr, z)) (Nat.add_sub_cancel_left ..)
theorem dz_op101 : dzOK 101 (dz_0 (.lsub)) := by
  intro c p r h hg
  cases hg
  unfold decode Decoder.instr Reader.runAt
  change Except.bind (Except.bind ((Reader.u1 : Decoder Nat) c p) _) _ = _
  rw [h]
  exact congrArg (fun z => Except.ok (Instr.lsub, z)) (Nat.add_sub_cancel_left ..)
theorem dz_op77 : dzOK 77 (dz_0 (.astore_n 2)) := by
  intro c p r h hg
  cases hg
  unfold decode Decoder.instr Reader.runAt
  change Except.bind (Except.bind ((Reader.u1 : Decoder Nat) c p) _) _ = _
  rw [h]
  exact congrArg (fun z => Except.ok (Instr.astore_n 2, z)) (Nat.add_sub_cancel_left ..)
noncomputable def dz_T : List (Nat × dzT) := [(42, dz_0 (.aload_n 0)), (180, dz_2 (fun a b => some (Instr.getfield (a * 256 + b)))), (182, dz_2 (fun a b => some (Instr.invokevirtual (a * 256 + b)))), (21, dz_1 (fun a => Instr.iload a)), (27, dz_0 (.iload_n 1)), (3, dz_0 (.iconst 0)), (29, dz_0 (.iload_n 3)), (46, dz_0 (.iaload)), (4, dz_0 (.iconst 1)), (167, dz_2 (fun a b => some (Instr.goto (Reader.signed 16 (a * 256 + b))))), (172, dz_0 (.ireturn)), (28, dz_0 (.iload_n 2)), (96, dz_0 (.iadd)), (16, dz_1 (fun a => Instr.bipush (Reader.signed 8 a))), (153, dz_2 (fun a b => some (Instr.ifCond .eq (Reader.signed 16 (a * 256 + b))))), (184, dz_2 (fun a b => some (Instr.invokestatic (a * 256 + b)))), (54, dz_1 (fun a => Instr.istore a)), (132, dz_2 (fun a b => some (Instr.iinc a (Reader.signed 8 b)))), (162, dz_2 (fun a b => some (Instr.if_icmp .ge (Reader.signed 16 (a * 256 + b))))), (154, dz_2 (fun a b => some (Instr.ifCond .ne (Reader.signed 16 (a * 256 + b))))), (43, dz_0 (.aload_n 1)), (181, dz_2 (fun a b => some (Instr.putfield (a * 256 + b)))), (5, dz_0 (.iconst 2)), (160, dz_2 (fun a b => some (Instr.if_icmp .ne (Reader.signed 16 (a * 256 + b))))), (2, dz_0 (.iconst (-1))), (79, dz_0 (.iastore)), (133, dz_0 (.i2l)), (104, dz_0 (.imul)), (87, dz_0 (.pop)), (62, dz_0 (.istore_n 3)), (17, dz_2 (fun a b => some (Instr.sipush (Reader.signed 16 (a * 256 + b))))), (100, dz_0 (.isub)), (61, dz_0 (.istore_n 2)), (44, dz_0 (.aload_n 2)), (9, dz_0 (.lconst 0)), (20, dz_2 (fun a b => some (Instr.ldc2_w (a * 256 + b)))), (159, dz_2 (fun a b => some (Instr.if_icmp .eq (Reader.signed 16 (a * 256 + b))))), (126, dz_0 (.iand)), (6, dz_0 (.iconst 3)), (177, dz_0 (.return_)), (26, dz_0 (.iload_n 0)), (120, dz_0 (.ishl)), (7, dz_0 (.iconst 4)), (33, dz_0 (.lload_n 3)), (183, dz_2 (fun a b => some (Instr.invokespecial (a * 256 + b)))), (89, dz_0 (.dup)), (31, dz_0 (.lload_n 1)), (8, dz_0 (.iconst 5)), (66, dz_0 (.lstore_n 3)), (163, dz_2 (fun a b => some (Instr.if_icmp .gt (Reader.signed 16 (a * 256 + b))))), (128, dz_0 (.ior)), (25, dz_1 (fun a => Instr.aload a)), (51, dz_0 (.baload)), (22, dz_1 (fun a => Instr.lload a)), (60, dz_0 (.istore_n 1)), (64, dz_0 (.lstore_n 1)), (148, dz_0 (.lcmp)), (30, dz_0 (.lload_n 0)), (187, dz_2 (fun a b => some (Instr.new (a * 256 + b)))), (122, dz_0 (.ishr)), (164, dz_2 (fun a b => some (Instr.if_icmp .le (Reader.signed 16 (a * 256 + b))))), (161, dz_2 (fun a b => some (Instr.if_icmp .lt (Reader.signed 16 (a * 256 + b))))), (92, dz_0 (.dup2)), (55, dz_1 (fun a => Instr.lstore a)), (173, dz_0 (.lreturn)), (10, dz_0 (.lconst 1)), (50, dz_0 (.aaload)), (178, dz_2 (fun a b => some (Instr.getstatic (a * 256 + b)))), (155, dz_2 (fun a b => some (Instr.ifCond .lt (Reader.signed 16 (a * 256 + b))))), (18, dz_1 (fun a => Instr.ldc a)), (130, dz_0 (.ixor)), (176, dz_0 (.areturn)), (83, dz_0 (.aastore)), (190, dz_0 (.arraylength)), (156, dz_2 (fun a b => some (Instr.ifCond .ge (Reader.signed 16 (a * 256 + b))))), (97, dz_0 (.ladd)), (105, dz_0 (.lmul)), (84, dz_0 (.bastore)), (158, dz_2 (fun a b => some (Instr.ifCond .le (Reader.signed 16 (a * 256 + b))))), (58, dz_1 (fun a => Instr.astore a)), (19, dz_2 (fun a b => some (Instr.ldc_w (a * 256 + b)))), (124, dz_0 (.iushr)), (59, dz_0 (.istore_n 0)), (116, dz_0 (.ineg)), (109, dz_0 (.ldiv)), (88, dz_0 (.pop2)), (112, dz_0 (.irem)), (108, dz_0 (.idiv)), (32, dz_0 (.lload_n 2)), (127, dz_0 (.land)), (189, dz_2 (fun a b => some (Instr.anewarray (a * 256 + b)))), (76, dz_0 (.astore_n 1)), (113, dz_0 (.lrem)), (117, dz_0 (.lneg)), (136, dz_0 (.l2i)), (146, dz_0 (.i2c)), (191, dz_0 (.athrow)), (199, dz_2 (fun a b => some (Instr.ifnonnull (Reader.signed 16 (a * 256 + b))))), (121, dz_0 (.lshl)), (129, dz_0 (.lor)), (125, dz_0 (.lushr)), (157, dz_2 (fun a b => some (Instr.ifCond .gt (Reader.signed 16 (a * 256 + b))))), (123, dz_0 (.lshr)), (101, dz_0 (.lsub)), (77, dz_0 (.astore_n 2))]
set_option maxRecDepth 100000 in
theorem dz_T_ok : ∀ e ∈ dz_T, dzOK e.1 e.2 := (List.forall_mem_cons.mpr ⟨dz_op42, (List.forall_mem_cons.mpr ⟨dz_op180, (List.forall_mem_cons.mpr ⟨dz_op182, (List.forall_mem_cons.mpr ⟨dz_op21, (List.forall_mem_cons.mpr ⟨dz_op27, (List.forall_mem_cons.mpr ⟨dz_op3, (List.forall_mem_cons.mpr ⟨dz_op29, (List.forall_mem_cons.mpr ⟨dz_op46, (List.forall_mem_cons.mpr ⟨dz_op4, (List.forall_mem_cons.mpr ⟨dz_op167, (List.forall_mem_cons.mpr ⟨dz_op172, (List.forall_mem_cons.mpr ⟨dz_op28, (List.forall_mem_cons.mpr ⟨dz_op96, (List.forall_mem_cons.mpr ⟨dz_op16, (List.forall_mem_cons.mpr ⟨dz_op153, (List.forall_mem_cons.mpr ⟨dz_op184, (List.forall_mem_cons.mpr ⟨dz_op54, (List.forall_mem_cons.mpr ⟨dz_op132, (List.forall_mem_cons.mpr ⟨dz_op162, (List.forall_mem_cons.mpr ⟨dz_op154, (List.forall_mem_cons.mpr ⟨dz_op43, (List.forall_mem_cons.mpr ⟨dz_op181, (List.forall_mem_cons.mpr ⟨dz_op5, (List.forall_mem_cons.mpr ⟨dz_op160, (List.forall_mem_cons.mpr ⟨dz_op2, (List.forall_mem_cons.mpr ⟨dz_op79, (List.forall_mem_cons.mpr ⟨dz_op133, (List.forall_mem_cons.mpr ⟨dz_op104, (List.forall_mem_cons.mpr ⟨dz_op87, (List.forall_mem_cons.mpr ⟨dz_op62, (List.forall_mem_cons.mpr ⟨dz_op17, (List.forall_mem_cons.mpr ⟨dz_op100, (List.forall_mem_cons.mpr ⟨dz_op61, (List.forall_mem_cons.mpr ⟨dz_op44, (List.forall_mem_cons.mpr ⟨dz_op9, (List.forall_mem_cons.mpr ⟨dz_op20, (List.forall_mem_cons.mpr ⟨dz_op159, (List.forall_mem_cons.mpr ⟨dz_op126, (List.forall_mem_cons.mpr ⟨dz_op6, (List.forall_mem_cons.mpr ⟨dz_op177, (List.forall_mem_cons.mpr ⟨dz_op26, (List.forall_mem_cons.mpr ⟨dz_op120, (List.forall_mem_cons.mpr ⟨dz_op7, (List.forall_mem_cons.mpr ⟨dz_op33, (List.forall_mem_cons.mpr ⟨dz_op183, (List.forall_mem_cons.mpr ⟨dz_op89, (List.forall_mem_cons.mpr ⟨dz_op31, (List.forall_mem_cons.mpr ⟨dz_op8, (List.forall_mem_cons.mpr ⟨dz_op66, (List.forall_mem_cons.mpr ⟨dz_op163, (List.forall_mem_cons.mpr ⟨dz_op128, (List.forall_mem_cons.mpr ⟨dz_op25, (List.forall_mem_cons.mpr ⟨dz_op51, (List.forall_mem_cons.mpr ⟨dz_op22, (List.forall_mem_cons.mpr ⟨dz_op60, (List.forall_mem_cons.mpr ⟨dz_op64, (List.forall_mem_cons.mpr ⟨dz_op148, (List.forall_mem_cons.mpr ⟨dz_op30, (List.forall_mem_cons.mpr ⟨dz_op187, (List.forall_mem_cons.mpr ⟨dz_op122, (List.forall_mem_cons.mpr ⟨dz_op164, (List.forall_mem_cons.mpr ⟨dz_op161, (List.forall_mem_cons.mpr ⟨dz_op92, (List.forall_mem_cons.mpr ⟨dz_op55, (List.forall_mem_cons.mpr ⟨dz_op173, (List.forall_mem_cons.mpr ⟨dz_op10, (List.forall_mem_cons.mpr ⟨dz_op50, (List.forall_mem_cons.mpr ⟨dz_op178, (List.forall_mem_cons.mpr ⟨dz_op155, (List.forall_mem_cons.mpr ⟨dz_op18, (List.forall_mem_cons.mpr ⟨dz_op130, (List.forall_mem_cons.mpr ⟨dz_op176, (List.forall_mem_cons.mpr ⟨dz_op83, (List.forall_mem_cons.mpr ⟨dz_op190, (List.forall_mem_cons.mpr ⟨dz_op156, (List.forall_mem_cons.mpr ⟨dz_op97, (List.forall_mem_cons.mpr ⟨dz_op105, (List.forall_mem_cons.mpr ⟨dz_op84, (List.forall_mem_cons.mpr ⟨dz_op158, (List.forall_mem_cons.mpr ⟨dz_op58, (List.forall_mem_cons.mpr ⟨dz_op19, (List.forall_mem_cons.mpr ⟨dz_op124, (List.forall_mem_cons.mpr ⟨dz_op59, (List.forall_mem_cons.mpr ⟨dz_op116, (List.forall_mem_cons.mpr ⟨dz_op109, (List.forall_mem_cons.mpr ⟨dz_op88, (List.forall_mem_cons.mpr ⟨dz_op112, (List.forall_mem_cons.mpr ⟨dz_op108, (List.forall_mem_cons.mpr ⟨dz_op32, (List.forall_mem_cons.mpr ⟨dz_op127, (List.forall_mem_cons.mpr ⟨dz_op189, (List.forall_mem_cons.mpr ⟨dz_op76, (List.forall_mem_cons.mpr ⟨dz_op113, (List.forall_mem_cons.mpr ⟨dz_op117, (List.forall_mem_cons.mpr ⟨dz_op136, (List.forall_mem_cons.mpr ⟨dz_op146, (List.forall_mem_cons.mpr ⟨dz_op191, (List.forall_mem_cons.mpr ⟨dz_op199, (List.forall_mem_cons.mpr ⟨dz_op121, (List.forall_mem_cons.mpr ⟨dz_op129, (List.forall_mem_cons.mpr ⟨dz_op125, (List.forall_mem_cons.mpr ⟨dz_op157, (List.forall_mem_cons.mpr ⟨dz_op123, (List.forall_mem_cons.mpr ⟨dz_op101, (List.forall_mem_cons.mpr ⟨dz_op77, (fun _ h => absurd h List.not_mem_nil)⟩)⟩)⟩)⟩)⟩)⟩)⟩)⟩)⟩)⟩)⟩)⟩)⟩)⟩)⟩)⟩)⟩)⟩)⟩)⟩)⟩)⟩)⟩)⟩)⟩)⟩)⟩)⟩)⟩)⟩)⟩)⟩)⟩)⟩)⟩)⟩)⟩)⟩)⟩)⟩)⟩)⟩)⟩)⟩)⟩)⟩)⟩)⟩)⟩)⟩)⟩)⟩)⟩)⟩)⟩)⟩)⟩)⟩)⟩)⟩)⟩)⟩)⟩)⟩)⟩)⟩)⟩)⟩)⟩)⟩)⟩)⟩)⟩)⟩)⟩)⟩)⟩)⟩)⟩)⟩)⟩)⟩)⟩)⟩)⟩)⟩)⟩)⟩)⟩)⟩)⟩)⟩)⟩)⟩)⟩)⟩)⟩)⟩)⟩)⟩)⟩)⟩)⟩)⟩)⟩)
noncomputable def dz_find (op : Nat) (l : List (Nat × dzT)) : Option dzT := List.rec (motive := fun _ => Option dzT) none (fun e _ ih => Bool.rec (motive := fun _ => Option dzT) ih (some e.2) (Nat.beq e.1 op)) l
theorem dz_find_ok {op : Nat} {g : dzT} : ∀ (l : List (Nat × dzT)), (∀ e ∈ l, dzOK e.1 e.2) → dz_find op l = some g → dzOK op g := by
  intro l
  induction l with
  | nil => intro _ h; cases h
  | cons e l ih =>
    intro hl h
    obtain ⟨h1, h2⟩ := List.forall_mem_cons.mp hl
    cases hb : Nat.beq e.1 op with
    | false =>
      have h3 : (Bool.rec (motive := fun _ => Option dzT) (dz_find op l) (some e.2) (Nat.beq e.1 op) : Option dzT) = some g := h
      rw [hb] at h3
      exact ih h2 h3
    | true =>
      have h3 : (Bool.rec (motive := fun _ => Option dzT) (dz_find op l) (some e.2) (Nat.beq e.1 op) : Option dzT) = some g := h
      rw [hb] at h3
      injection h3 with h3
      rw [← Nat.eq_of_beq_eq_true hb, ← h3]; exact h1
/-- what the fast one knows; the slow one for the rest -/
noncomputable def dz_dec (c : ByteArray) (p : Nat) : Option (Instr × Nat) := Option.rec (motive := fun _ => Option (Instr × Nat)) none (fun op => Option.rec (motive := fun _ => Option (Instr × Nat)) (match decode c p with | .ok r => some r | .error _ => none) (fun g => g c p) (dz_find op dz_T)) (dz_b c p)
theorem dz_ok {c : ByteArray} {p : Nat} {r : Instr × Nat} (h : dz_dec c p = some r) : decode c p = .ok r := by
  unfold dz_dec at h
  cases e : dz_b c p with
  | none => rw [e] at h; cases h
  | some op =>
    rw [e] at h
    dsimp only at h
    cases e2 : dz_find op dz_T with
    | none =>
      rw [e2] at h
      have h3 : (match decode c p with | .ok r => some r | .error _ => none) = some r := h
      split at h3
      · next r' hr => injection h3 with h3; rw [← h3]; exact hr
      · cases h3
    | some g =>
      rw [e2] at h
      exact dz_find_ok _ dz_T_ok e2 _ _ _ (dz_u1 e) h

