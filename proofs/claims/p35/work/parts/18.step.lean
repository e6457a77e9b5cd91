/-! ONE INSTRUCTION -/
def x_len (i : Instr) : Nat := match i with
  | .bipush _ => 2 | .ldc _ => 2 | .iload _ => 2 | .lload _ => 2 | .aload _ => 2 | .istore _ => 2 | .lstore _ => 2 | .astore _ => 2 | .newarray _ => 2
  | .sipush _ => 3 | .ldc_w _ => 3 | .ldc2_w _ => 3 | .iinc _ _ => 3 | .if_icmp _ _ => 3 | .ifCond _ _ => 3 | .ifnull _ => 3 | .ifnonnull _ => 3 | .goto _ => 3
  | .getfield _ => 3 | .putfield _ => 3 | .getstatic _ => 3 | .invokevirtual _ => 3 | .invokestatic _ => 3 | .invokespecial _ => 3 | .new _ => 3 | .anewarray _ => 3
  | _ => 1
def x_lenF (i : Instr) (n : Nat) : Nat := match i with
  | .tableswitch _ _ _ _ => n
  | i => x_len i
def x_swp (o : Option xB2) : Option xB2 := o.map (fun b => (b.2, b.1))
def x_nz (q : Int × Int) : Bool := decide (0 < q.1) || decide (q.2 < 0)
abbrev xTab : Type := List (Nat × Nat × Nat) × List (Nat × Nat × Nat) × List (Nat × Nat) × List (Nat × Nat) × List (Nat × Nat) × List (Nat × Int) × List (Nat × Int) × List xCl × List Nat × List (Nat × Nat) × List (Nat × Nat)
abbrev tb_pf (T : xTab) := T.1
abbrev tb_pw (T : xTab) := T.2.1
abbrev tb_pn (T : xTab) := T.2.2.1
abbrev tb_pa (T : xTab) := T.2.2.2.1
abbrev tb_ps (T : xTab) := T.2.2.2.2.1
abbrev tb_pk (T : xTab) := T.2.2.2.2.2.1
abbrev tb_pl (T : xTab) := T.2.2.2.2.2.2.1
abbrev tb_cs (T : xTab) := T.2.2.2.2.2.2.2.1
abbrev tb_oi (T : xTab) := T.2.2.2.2.2.2.2.2.1
abbrev tb_ao (T : xTab) := T.2.2.2.2.2.2.2.2.2.1
abbrev tb_ac (T : xTab) := T.2.2.2.2.2.2.2.2.2.2
/-- an int that is known -/
def x_k (a : xS) (pc : Nat) (n : Int) : xN := if -2147483648 ≤ n ∧ n ≤ 2147483647 then some [(pc, x_psh a a.2.2.1 (.inl (n, n)))] else none
def x_kL (a : xS) (pc : Nat) (n : Int) : xN := if -9223372036854775808 ≤ n ∧ n ≤ 9223372036854775807 then some [(pc, x_psh a a.2.2.1 (.inr (.inl (n, n))))] else none
def x_oi (a : xS) (pc : Nat) : xN := match a.2.2.1 with
  | x :: S => (match a.1[x]? with
    | some (.inr (.inr (false, _))) => if x_ct a.1 S ≤ 8 then some [(pc + 3, x_top a S)] else none
    | _ => none)
  | _ => none
def x_gs (a : xS) (pc tag : Nat) : xN := some [(pc + 3, x_psh a a.2.2.1 (.inr (.inr (false, [tag]))))]
def x_stp (nL : Nat) (G : List xG) (ef : List (Nat × Nat)) (T : xTab) (mc ms : Nat) (i : Instr) (pc : Nat) (a : xS) : xN := match i with
  | .iconst n => if -128 ≤ n ∧ n ≤ 127 then x_k a (pc + 1) n else none
  | .bipush n => if -128 ≤ n ∧ n ≤ 127 then x_k a (pc + 2) n else none
  | .sipush n => if -32768 ≤ n ∧ n ≤ 32767 then x_k a (pc + 3) n else none
  | .ldc idx => (match (tb_pk T).find? (fun z => z.1 == idx) with
    | some z => x_k a (pc + 2) z.2
    | none => none)
  | .ldc_w idx => (match (tb_pk T).find? (fun z => z.1 == idx) with
    | some z => x_k a (pc + 3) z.2
    | none => none)
  | .ldc2_w idx => (match (tb_pl T).find? (fun z => z.1 == idx) with
    | some z => x_kL a (pc + 3) z.2
    | none => none)
  | .lconst n => x_kL a (pc + 1) ((n : Nat) : Int)
  | .iload i => x_ld a (pc + 2) i x_isI
  | .iload_n k => x_ld a (pc + 1) (k : Nat) x_isI
  | .lload i => x_ld a (pc + 2) i x_isL
  | .lload_n k => x_ld a (pc + 1) (k : Nat) x_isL
  | .aload i => x_ld a (pc + 2) i x_isR
  | .aload_n k => x_ld a (pc + 1) (k : Nat) x_isR
  | .istore i => x_sto a (pc + 2) i nL x_isI
  | .istore_n k => x_sto a (pc + 1) (k : Nat) nL x_isI
  | .astore i => x_sto a (pc + 2) i nL x_isR
  | .astore_n k => x_sto a (pc + 1) (k : Nat) nL x_isR
  | .lstore i => x_stoL a (pc + 2) i nL
  | .lstore_n k => x_stoL a (pc + 1) (k : Nat) nL
  | .iinc i n => x_iinc a pc i nL n
  | .iadd => x_addS a pc
  | .isub => x_bin a pc (fun u q => some (x_subB u q))
  | .imul => x_bin a pc (fun u q => some (x_mulB u q))
  | .iand => x_bin a pc (fun u q => some (x_andB u q))
  | .ior => x_bin a pc (fun u q => some (x_orB u q))
  | .ixor => x_bin a pc (fun u q => some (x_orB u q))
  | .ishl => x_bin a pc (fun u q => some (x_shlB u q))
  | .ishr => x_bin a pc (fun u q => some (x_shrB u q))
  | .iushr => x_bin a pc (fun _ _ => some x_full)
  | .idiv => x_bin a pc (fun u q => if x_nz q then some (x_divB u q) else none)
  | .irem => x_bin a pc (fun u q => if x_nz q then some (x_remB u q) else none)
  | .ineg => x_un a pc x_negB
  | .i2l => x_i2l a pc
  | .l2i => x_l2i a pc
  | .ladd => x_binL a pc false
  | .lsub => x_binL a pc false
  | .lmul => x_binL a pc false
  | .land => x_binL a pc false
  | .lor => x_binL a pc false
  | .ldiv => x_binL a pc true
  | .lrem => x_binL a pc true
  | .lneg => x_unL a pc
  | .lshl => x_shL a pc
  | .lshr => x_shL a pc
  | .lushr => x_shL a pc
  | .lcmp => x_lcmp a pc
  | .if_icmp .eq off => x_icmp a pc off x_req x_rne
  | .if_icmp .ne off => x_icmp a pc off x_rne x_req
  | .if_icmp .lt off => x_icmp a pc off x_rlt (fun u q => x_swp (x_rle q u))
  | .if_icmp .ge off => x_icmp a pc off (fun u q => x_swp (x_rle q u)) x_rlt
  | .if_icmp .gt off => x_icmp a pc off (fun u q => x_swp (x_rlt q u)) x_rle
  | .if_icmp .le off => x_icmp a pc off x_rle (fun u q => x_swp (x_rlt q u))
  | .ifCond .eq off => x_if0 a pc off x_req x_rne
  | .ifCond .ne off => x_if0 a pc off x_rne x_req
  | .ifCond .lt off => x_if0 a pc off x_rlt (fun u q => x_swp (x_rle q u))
  | .ifCond .ge off => x_if0 a pc off (fun u q => x_swp (x_rle q u)) x_rlt
  | .ifCond .gt off => x_if0 a pc off (fun u q => x_swp (x_rlt q u)) x_rle
  | .ifCond .le off => x_if0 a pc off x_rle (fun u q => x_swp (x_rlt q u))
  | .ifnull off => x_ifn a pc off false
  | .ifnonnull off => x_ifn a pc off true
  | .goto off => (match x_tgt pc off with
    | some t => some [(t, a)]
    | none => none)
  | .tableswitch d lo hi offs => x_sw a pc d lo hi offs
  | .dup => x_dup a pc
  | .dup2 => x_dup2 a pc
  | .pop => x_pop a pc
  | .pop2 => x_pop2 a pc
  | .getfield idx => x_gf G (tb_pf T) a pc idx
  | .putfield idx => x_pf G (tb_pw T) ef a pc idx
  | .getstatic idx => (match (tb_ps T).find? (fun z => z.1 == idx) with
    | some z => x_gs a pc z.2
    | none => none)
  | .iaload => x_ial G a pc (fun t => t == .int)
  | .baload => x_ial G a pc (fun t => t == .boolean || t == .byte)
  | .aaload => x_ial G a pc (fun t => t.isReference)
  | .iastore => x_ias G ef a pc
  | .bastore => x_bas G ef a pc
  | .aastore => x_aas G ef (tb_ao T) a pc
  | .arraylength => x_aln G a pc
  | .new idx => x_newo G (tb_pn T) mc ms a pc idx
  | .newarray _ => x_newa G (tb_pa T) mc ms a pc 2
  | .anewarray _ => x_newa G (tb_pa T) mc ms a pc 3
  | .invokevirtual idx => x_call G ef (tb_cs T) mc ms a pc 0 idx
  | .invokestatic idx => if (tb_ac T).any (fun z => z.1 == idx) then x_acp G ef a pc else x_call G ef (tb_cs T) mc ms a pc 1 idx
  | .invokespecial idx => if (tb_oi T).any (fun z => z == idx) then x_oi a pc else x_call G ef (tb_cs T) mc ms a pc 2 idx
  | _ => none
section XZ
variable {p : Program} {l : Launch} {e : Env} {R : Room} {s : State} {m : MethodId} {args : Array Value} {below : List Frame} {meth : Method} {c : Code} {Q : State → Prop}
variable {D : va_G} {G : List xG} {Zs : List xZ} {U : State} {ef : List (Nat × Nat)} {Y0 : xY} {H0 : Heap} {nL : Nat} {mu : List Value}
variable {cc : ByteArray} {pc : Nat} {a : xS} {sc : List (Nat × xS)} {cl : List vw_C} {Ts : List Cond} {own : String}
variable (p l e R s m args below meth c D G Zs U nL cc cl Ts own) in
/-- the tables of a method's code are right, by the words at hand -/
def x_tok (T : xTab) : Prop :=
  (∀ z ∈ tb_pf T, x_fok cl G Ts s args own z) ∧ (∀ z ∈ tb_pw T, x_pok cl G Ts s args own meth.name z) ∧ (∀ z ∈ tb_pn T, x_nok cl G Ts s args own z) ∧
  (∀ z ∈ tb_pa T, (∀ at_, decode cc z.1 = .ok (.newarray at_, 2) → x_aok G s args at_ z.2) ∧ ∀ idx, decode cc z.1 = .ok (.anewarray idx, 3) → x_rok G s args own idx z.2) ∧
  (∀ z ∈ tb_ps T, ∀ (Q : State → Prop) (H : Heap) (locs : List Loc) (cells slots pc : Nat) (ls : Array Slot) (rest : List Value) (Y : xY), decode cc pc = .ok (.getstatic z.1, 3) → x_H D G Zs U Y H → (∀ b : Nat, Y b = some z.2 → W p l e R s m args below meth c H locs cells slots Q (F0 m (pc + 3) ls (.ref b :: rest))) → W p l e R s m args below meth c H locs cells slots Q (F0 m pc ls rest)) ∧
  (∀ z ∈ tb_pk T, ∃ v : Int32, v.toInt = z.2 ∧ (Cond.constant own z.1 v).before args s = true) ∧ (∀ z ∈ tb_pl T, ∃ v : Int64, v.toInt = z.2 ∧ (Cond.constantLong own z.1 v).before args s = true) ∧
  (∀ z ∈ tb_cs T, x_cok p l e R s m args below meth c D G Zs U nL cc z) ∧
  (∀ z ∈ tb_oi T, (Cond.methodLink own z objectInit).before args s = true ∧ (Cond.instanceMethod objectInit).before args s = true ∧ (Cond.code objectInit ⟨#[0xb1]⟩ 1 none).before args s = true ∧ 1 ≤ R.frames ∧ 20 ≤ R.locals) ∧
  (∀ z ∈ tb_ao T, x_sok cl G s z) ∧
  (∀ z ∈ tb_ac T, (Cond.methodLink own z.1 arraycopyName).before args s = true ∧ (Cond.native arraycopyName).before args s = true ∧ (Cond.static arraycopyName).before args s = true ∧ (Cond.initialized "java/lang/System").before args s = true ∧ 1 ≤ R.frames ∧ nativeFrameWords "java/lang/System" "arraycopy" 5 + 19 ≤ R.locals)
theorem x_swp_ok {o : Option xB2} {x y : Int32} (h : ∃ b : xB2, o = some b ∧ x_b b.1 y ∧ x_b b.2 x) : ∃ b : xB2, x_swp o = some b ∧ x_b b.1 x ∧ x_b b.2 y := by
  obtain ⟨b, h1, h2, h3⟩ := h
  exact ⟨(b.2, b.1), by rw [h1]; rfl, h3, h2⟩
theorem x_lt32 {x y : Int32} : x < y ↔ x.toInt < y.toInt := Int32.lt_iff_toInt_lt
theorem x_le32 {x y : Int32} : x ≤ y ↔ x.toInt ≤ y.toInt := Int32.le_iff_toInt_le
theorem x_b0 : x_b (0, 0) (0 : Int32) := by unfold x_b; decide
theorem x_1st {o : Option xB2} {x y : Int32} (h : ∃ b : xB2, o = some b ∧ x_b b.1 x ∧ x_b b.2 y) : ∃ b : xB2, o = some b ∧ x_b b.1 x := by
  obtain ⟨b, h1, h2, -⟩ := h
  exact ⟨b, h1, h2⟩
theorem x_k_ok {pc' : Nat} {n : Int} {v : Int32} (hw : x_wf a = true) (hv : v.toInt = n) (row : ∀ (H : Heap) (locs : List Loc) (cells slots : Nat) (ls : Array Slot) (rest : List Value), W p l e R s m args below meth c H locs cells slots Q (F0 m pc' ls (.int v :: rest)) → W p l e R s m args below meth c H locs cells slots Q (F0 m pc ls rest))
    (h : x_k a pc' n = some sc) (hs : ∀ q ∈ sc, x_K p l e R s m args below meth c Q D G Zs U ef Y0 H0 nL mu q) : x_K p l e R s m args below meth c Q D G Zs U ef Y0 H0 nL mu (pc, a) := by
  unfold x_k at h
  split at h
  · cases h
    exact x_cst_ok (t := .inl (n, n)) (v := .int v) hw (fun Y => ⟨v, rfl, by show n ≤ _; omega, by show _ ≤ n; omega⟩) row (hs _ List.mem_cons_self)
  · cases h
theorem x_kL_ok {pc' : Nat} {n : Int} {v : Int64} (hw : x_wf a = true) (hv : v.toInt = n) (row : ∀ (H : Heap) (locs : List Loc) (cells slots : Nat) (ls : Array Slot) (rest : List Value), W p l e R s m args below meth c H locs cells slots Q (F0 m pc' ls (.long v :: rest)) → W p l e R s m args below meth c H locs cells slots Q (F0 m pc ls rest))
    (h : x_kL a pc' n = some sc) (hs : ∀ q ∈ sc, x_K p l e R s m args below meth c Q D G Zs U ef Y0 H0 nL mu q) : x_K p l e R s m args below meth c Q D G Zs U ef Y0 H0 nL mu (pc, a) := by
  unfold x_kL at h
  split at h
  · cases h
    exact x_cst_ok (t := .inr (.inl (n, n))) (v := .long v) hw (fun Y => ⟨v, rfl, by show n ≤ _; omega, by show _ ≤ n; omega⟩) row (hs _ List.mem_cons_self)
  · cases h
theorem x_isI_ok {Y : xY} {t : xV} {v : Value} (h : x_isI t = true) (hc : x_c Y t v) : ∃ x : Int32, v = .int x := by
  rcases t with q | q | q
  · obtain ⟨x, e0, -⟩ := hc; exact ⟨x, e0⟩
  · cases h
  · cases h
theorem x_isL_ok {Y : xY} {t : xV} {v : Value} (h : x_isL t = true) (hc : x_c Y t v) : ∃ x : Int64, v = .long x := by
  rcases t with q | q | q
  · cases h
  · obtain ⟨x, e0, -⟩ := hc; exact ⟨x, e0⟩
  · cases h
theorem x_isR_ok {Y : xY} {t : xV} {v : Value} (h : x_isR t = true) (hc : x_c Y t v) : v = .null ∨ ∃ b : Nat, v = .ref b := by
  rcases t with q | q | q
  · cases h
  · cases h
  · rcases hc with ⟨e0, -⟩ | ⟨b, t, e0, -⟩
    · exact Or.inl e0
    · exact Or.inr ⟨b, e0⟩
theorem x_nz_ok {q : Int × Int} {y : Int32} (h : x_nz q = true) (hb : x_b q y) : ¬ y = 0 := by
  intro e0
  subst e0
  simp only [x_nz, Bool.or_eq_true, decide_eq_true_eq] at h
  have a1 := hb.1; have a2 := hb.2
  have z : (0 : Int32).toInt = 0 := rfl
  omega
theorem x_l01 : ∀ n : Fin 2, (Int64.ofNat (n : Nat)).toInt = ((n : Nat) : Int) := by decide
set_option maxHeartbeats 4000000 in
theorem x_stp_ok {T : xTab} {mc ms : Nat} {i : Instr} {len : Nat} (hw : x_wf a = true) (hx : p.tables.exec = Jvm.exec) (hb : c.code = cc) (hml : c.maxLocals = nL) (hts : ∀ w ∈ Ts, w.before args s = true) (hown : s.vm.findClass own = some m.cls) (hK : va_K D cl [] s) (hU : U.WarmedH s.vm)
    (hY0 : ∀ q u, Y0 q = some u → q < H0.size) (hT : x_tok p l e R s m args below meth c D G Zs U nL cc cl Ts own T) (hmc : mc ≤ R.cells) (hms : ms ≤ R.slots) (hd : decode cc pc = .ok (i, len)) (hlen : len = x_lenF i len)
    (h : x_stp nL G ef T mc ms i pc a = some sc) (hs : ∀ q ∈ sc, x_K p l e R s m args below meth c Q D G Zs U ef Y0 H0 nL mu q) : x_K p l e R s m args below meth c Q D G Zs U ef Y0 H0 nL mu (pc, a) := by
  obtain ⟨tpf, tpw, tpn, tpa, tps, tpk, tpl, tcs, toi, tao, tac⟩ := hT
  cases i <;> first
    | (dsimp only [x_stp] at h; cases h; done)
    | skip
  all_goals first
    | (change len = 1 at hlen; subst hlen)
    | (change len = 2 at hlen; subst hlen)
    | (change len = 3 at hlen; subst hlen)
    | skip
  all_goals dsimp only [x_stp] at h
  case aaload => exact x_ial_ok (i := .aaload) hw hU (fun H locs cells slots ls rest b cell j v et ht h1 h2 h3 h4 h5 k => W.aald hx hb h1 h2 ht h3 h4 h5 rfl rfl hd k) h hs
  case aastore => exact x_aas_ok hx hb hU hK hY0 tao hd h hs
  case aload i =>
    refine x_ld_ok (fun Y H locs cells slots ls rest t v ht hc hl k => ?_) h hs
    rcases x_isR_ok ht hc with e0 | ⟨b, e0⟩
    · rw [e0] at hl k; exact lv_aloadN hx hb hd hl k
    · rw [e0] at hl k; exact lv_aload hx hb hd hl k
  case aload_n i =>
    refine x_ld_ok (fun Y H locs cells slots ls rest t v ht hc hl k => ?_) h hs
    rcases x_isR_ok ht hc with e0 | ⟨b, e0⟩
    · rw [e0] at hl k; exact lv_aload_nN hx hb hd rfl hl k
    · rw [e0] at hl k; exact lv_aload_n hx hb hd rfl hl k
  case anewarray idx => exact x_newr_ok hw hx hb hU hown hY0 (fun z hz he => (tpa z hz).2 idx (by rw [he]; exact hd)) hmc hms hd h hs
  case arraylength => exact x_aln_ok hw hx hb hU hd h hs
  case astore i =>
    refine x_sto_ok (fun Y H locs cells slots ls rest t v lv ht hc hl hn k => ?_) h hs
    rcases x_isR_ok ht hc with e0 | ⟨b, e0⟩
    · subst e0; exact lv_astoreN hx hb hd hl hn rfl k
    · subst e0; exact lv_astore hx hb hd hl hn rfl k
  case astore_n i =>
    refine x_sto_ok (fun Y H locs cells slots ls rest t v lv ht hc hl hn k => ?_) h hs
    rcases x_isR_ok ht hc with e0 | ⟨b, e0⟩
    · subst e0; exact lv_astore_nN hx hb hd rfl hl hn rfl k
    · subst e0; exact lv_astore_n hx hb hd rfl hl hn rfl k
  case baload =>
    refine x_ial_ok (i := .baload) hw hU (fun H locs cells slots ls rest b cell j v et ht h1 h2 h3 h4 h5 k => ?_) h hs
    simp only [Bool.or_eq_true, beq_iff_eq] at ht
    rcases ht with e0 | e0
    · subst e0; exact W.zald hx hb h1 h2 h3 h4 h5 rfl rfl hd k
    · subst e0; exact W.bald hx hb h1 h2 h3 h4 h5 rfl rfl hd k
  case bastore => exact x_bas_ok hx hb hU hY0 hd h hs
  case bipush n =>
    split at h
    · next hn =>
      have ev : ((Int8.ofInt n).toInt32).toInt = n := by
        rw [Int8.toInt_toInt32, Int8.toInt_ofInt]
        show Int.bmod n 256 = n
        exact Int.bmod_eq_of_le (by omega) (by omega)
      exact x_k_ok hw ev (fun H locs cells slots ls rest k => lv_bipush hx hb hd rfl k) h hs
    · cases h
  case dup =>
    unfold x_dup at h
    split at h
    · next x S hS =>
      split at h
      · next hn =>
        cases h
        exact x_stk_ok hS (fun Y H locs cells slots ls r hr k => lv_dup hx hb hd (x_n2_ok hr hn) k) (hs _ List.mem_cons_self)
      · cases h
    · cases h
  case dup2 =>
    unfold x_dup2 at h
    split at h
    · next y x S hS =>
      split at h
      · next hn =>
        cases h
        exact x_stk_ok hS (fun Y H locs cells slots ls r hr k => lv_dup2_11 hx hb hd (x_n2_ok hr hn.2) (x_n2_ok hr hn.1) k) (hs _ List.mem_cons_self)
      · cases h
    · cases h
  case getfield idx => exact x_gf_ok hw hx hb hts hown hK tpf hd h hs
  case getstatic idx =>
    split at h
    · next z hz =>
      have hzm := List.mem_of_find?_eq_some hz
      have hze := List.find?_some hz
      simp only [beq_iff_eq] at hze
      subst hze
      cases h
      intro Y H locs r ls st hI hC
      have hst := hC.2.2.1
      rw [hst]
      refine tps z hzm Q H locs _ _ pc ls _ Y hd hI.1 fun b hb' => ?_
      exact hs _ List.mem_cons_self Y H locs _ ls _ hI (hC.psh hw (x_wf_spec hw).2.1 (Or.inr ⟨b, z.2, rfl, List.mem_cons_self, hb'⟩))
    · cases h
  case goto off =>
    split at h
    · next t ht =>
      cases h
      intro Y H locs r ls st hI hC
      exact lv_goto hx hb hd (x_tgt_ok ht) (hs _ List.mem_cons_self Y H locs r ls st hI hC)
    · cases h
  case i2l => exact x_i2l_ok hw hx hb hd h hs
  case iadd => exact x_addS_ok hw hx hb hd h hs
  case iaload =>
    refine x_ial_ok (i := .iaload) hw hU (fun H locs cells slots ls rest b cell j v et ht h1 h2 h3 h4 h5 k => ?_) h hs
    simp only [beq_iff_eq] at ht
    subst ht
    exact W.iald hx hb h1 h2 h3 h4 h5 rfl rfl hd k
  case iand => exact x_bin_ok hw (fun u q t x y e0 h1 h2 => by cases e0; exact x_and_ok h1 h2) (fun H locs cells slots ls rest x y u q t _ _ _ k => lv_iand hx hb hd k) h hs
  case iastore => exact x_ias_ok hx hb hU hY0 hd h hs
  case iconst n =>
    split at h
    · next hn =>
      have ev : (Int32.ofInt n).toInt = n := by rw [Int32.toInt_ofInt, x_bm (by omega) (by omega)]
      exact x_k_ok hw ev (fun H locs cells slots ls rest k => lv_iconst hx hb hd rfl k) h hs
    · cases h
  case idiv =>
    refine x_bin_ok (g := fun x y => x / y) hw (fun u q t x y e0 h1 h2 => ?_) (fun H locs cells slots ls rest x y u q t e0 _ h2 k => ?_) h hs
    · split at e0
      · cases e0; exact x_div_ok h1 h2
      · cases e0
    · split at e0
      · next hz => exact lv_idiv hx hb hd (x_nz_ok hz h2) k
      · cases e0
  case if_icmp cond off =>
    cases cond <;> dsimp only at h
    · exact x_icmp_ok (P := fun x y => x = y) (fun u q x y h1 h2 hp => x_req_ok h1 h2 (by rw [hp])) (fun u q x y h1 h2 hp => x_rne_ok h1 h2 (fun e0 => hp (Int32.toInt_inj.mp e0))) (fun H locs cells slots ls rest x y tgt ht k1 k2 => lv_icmp_eq hx hb hd ht k1 k2) h hs
    · exact x_icmp_ok (P := fun x y => ¬ x = y) (fun u q x y h1 h2 hp => x_rne_ok h1 h2 (fun e0 => hp (Int32.toInt_inj.mp e0))) (fun u q x y h1 h2 hp => x_req_ok h1 h2 (by rw [Decidable.not_not.mp hp])) (fun H locs cells slots ls rest x y tgt ht k1 k2 => lv_icmp_ne hx hb hd ht k1 (fun e0 => k2 (fun hn => hn e0))) h hs
    · exact x_icmp_ok (P := fun x y => x < y) (fun u q x y h1 h2 hp => x_rlt_ok h1 h2 (x_lt32.mp hp)) (fun u q x y h1 h2 hp => x_swp_ok (x_rle_ok h2 h1 (by rw [x_lt32] at hp; omega))) (fun H locs cells slots ls rest x y tgt ht k1 k2 => lv_icmp_lt hx hb hd ht k1 k2) h hs
    · exact x_icmp_ok (P := fun x y => y ≤ x) (fun u q x y h1 h2 hp => x_swp_ok (x_rle_ok h2 h1 (x_le32.mp hp))) (fun u q x y h1 h2 hp => x_rlt_ok h1 h2 (by rw [x_le32] at hp; omega)) (fun H locs cells slots ls rest x y tgt ht k1 k2 => lv_icmp_ge hx hb hd ht k1 k2) h hs
    · exact x_icmp_ok (P := fun x y => y < x) (fun u q x y h1 h2 hp => x_swp_ok (x_rlt_ok h2 h1 (x_lt32.mp hp))) (fun u q x y h1 h2 hp => x_rle_ok h1 h2 (by rw [x_lt32] at hp; omega)) (fun H locs cells slots ls rest x y tgt ht k1 k2 => lv_icmp_gt hx hb hd ht k1 k2) h hs
    · exact x_icmp_ok (P := fun x y => x ≤ y) (fun u q x y h1 h2 hp => x_rle_ok h1 h2 (x_le32.mp hp)) (fun u q x y h1 h2 hp => x_swp_ok (x_rlt_ok h2 h1 (by rw [x_le32] at hp; omega))) (fun H locs cells slots ls rest x y tgt ht k1 k2 => lv_icmp_le hx hb hd ht k1 k2) h hs
  case ifCond cond off =>
    cases cond <;> dsimp only at h
    · exact x_if0_ok (P := fun x => x = 0) (fun u x h1 hp => x_1st (x_req_ok h1 x_b0 (by rw [hp]))) (fun u x h1 hp => x_1st (x_rne_ok h1 x_b0 (fun e0 => hp (Int32.toInt_inj.mp e0)))) (fun H locs cells slots ls rest x tgt ht k1 k2 => lv_if_eq hx hb hd ht k1 k2) h hs
    · exact x_if0_ok (P := fun x => ¬ x = 0) (fun u x h1 hp => x_1st (x_rne_ok h1 x_b0 (fun e0 => hp (Int32.toInt_inj.mp e0)))) (fun u x h1 hp => x_1st (x_req_ok h1 x_b0 (by rw [Decidable.not_not.mp hp]))) (fun H locs cells slots ls rest x tgt ht k1 k2 => lv_if_ne hx hb hd ht k1 (fun e0 => k2 (fun hn => hn e0))) h hs
    · exact x_if0_ok (P := fun x => x < 0) (fun u x h1 hp => x_1st (x_rlt_ok h1 x_b0 (x_lt32.mp hp))) (fun u x h1 hp => x_1st (x_swp_ok (x_rle_ok x_b0 h1 (by rw [x_lt32] at hp; omega)))) (fun H locs cells slots ls rest x tgt ht k1 k2 => lv_if_lt hx hb hd ht k1 k2) h hs
    · exact x_if0_ok (P := fun x => 0 ≤ x) (fun u x h1 hp => x_1st (x_swp_ok (x_rle_ok x_b0 h1 (x_le32.mp hp)))) (fun u x h1 hp => x_1st (x_rlt_ok h1 x_b0 (by rw [x_le32] at hp; omega))) (fun H locs cells slots ls rest x tgt ht k1 k2 => lv_if_ge hx hb hd ht k1 k2) h hs
    · exact x_if0_ok (P := fun x => 0 < x) (fun u x h1 hp => x_1st (x_swp_ok (x_rlt_ok x_b0 h1 (x_lt32.mp hp)))) (fun u x h1 hp => x_1st (x_rle_ok h1 x_b0 (by rw [x_lt32] at hp; omega))) (fun H locs cells slots ls rest x tgt ht k1 k2 => lv_if_gt hx hb hd ht k1 k2) h hs
    · exact x_if0_ok (P := fun x => x ≤ 0) (fun u x h1 hp => x_1st (x_rle_ok h1 x_b0 (x_le32.mp hp))) (fun u x h1 hp => x_1st (x_swp_ok (x_rlt_ok x_b0 h1 (by rw [x_le32] at hp; omega)))) (fun H locs cells slots ls rest x tgt ht k1 k2 => lv_if_le hx hb hd ht k1 k2) h hs
  case ifnonnull off => exact x_ifn_ok (non := true) (fun H locs cells slots ls rest b tgt ht k => lv_ifnonnull hx hb hd ht k) (fun H locs cells slots ls rest tgt ht k => lv_ifnonnullN hx hb hd k) h hs
  case ifnull off => exact x_ifn_ok (non := false) (fun H locs cells slots ls rest b tgt ht k => lv_ifnull hx hb hd k) (fun H locs cells slots ls rest tgt ht k => lv_ifnullN hx hb hd ht k) h hs
  case iinc i n => exact x_iinc_ok hw hx hb hd h hs
  case iload i =>
    refine x_ld_ok (fun Y H locs cells slots ls rest t v ht hc hl k => ?_) h hs
    obtain ⟨x, e0⟩ := x_isI_ok ht hc
    rw [e0] at hl k; exact lv_iload hx hb hd hl k
  case iload_n i =>
    refine x_ld_ok (fun Y H locs cells slots ls rest t v ht hc hl k => ?_) h hs
    obtain ⟨x, e0⟩ := x_isI_ok ht hc
    rw [e0] at hl k; exact lv_iload_n hx hb hd rfl hl k
  case imul => exact x_bin_ok hw (fun u q t x y e0 h1 h2 => by cases e0; exact x_mul_ok h1 h2) (fun H locs cells slots ls rest x y u q t _ _ _ k => lv_imul hx hb hd k) h hs
  case ineg => exact x_un_ok hw (fun u x h1 => x_neg_ok h1) (fun H locs cells slots ls rest x k => lv_ineg hx hb hd k) h hs
  case invokespecial idx =>
    split at h
    · next hoi =>
      obtain ⟨z, hz, hze⟩ := List.any_eq_true.mp hoi
      simp only [beq_iff_eq] at hze
      subst hze
      obtain ⟨o1, o2, o3, o4, o5⟩ := toi z hz
      unfold x_oi at h
      split at h
      · next x S hS =>
        split at h
        · next ts hts' =>
          split at h
          · next hct =>
            cases h
            intro Y H locs r ls st hI hC
            obtain ⟨b, t, eb, -, -⟩ := x_ref_at (hC.1 x _ hts') rfl
            have hst : st = .ref b :: S.map r := by rw [hC.2.2.1, hS, List.map_cons, eb]
            rw [hst]
            have hcat := Nat.le_trans (x_ct_ok hC.1 S) hct
            refine W.objInit hx hb hown o1 o2 o3 rfl (by rw [hml]; exact hC.2.1.1) rfl hd o4 (by show 2 * 0 + _ + 12 ≤ _; omega) ?_
            exact hs _ List.mem_cons_self Y H locs r ls _ hI (hC.stk S)
          · cases h
        · cases h
      · cases h
    · exact x_call_ok (kind := 2) hw hY0 tcs hd hmc hms h hs
  case invokestatic idx =>
    split at h
    · next hac =>
      obtain ⟨z, hz, hze⟩ := List.any_eq_true.mp hac
      simp only [beq_iff_eq] at hze
      subst hze
      obtain ⟨o1, o2, o3, o4, o5, o6⟩ := tac z hz
      exact x_acp_ok hx hb hml hown hU hY0 o1 o2 o3 o4 o5 o6 hd h hs
    · exact x_call_ok (kind := 1) hw hY0 tcs hd hmc hms h hs
  case invokevirtual idx => exact x_call_ok (kind := 0) hw hY0 tcs hd hmc hms h hs
  case ior => exact x_bin_ok hw (fun u q t x y e0 h1 h2 => by cases e0; exact x_or_ok h1 h2) (fun H locs cells slots ls rest x y u q t _ _ _ k => lv_ior hx hb hd k) h hs
  case irem =>
    refine x_bin_ok (g := fun x y => x - x / y * y) hw (fun u q t x y e0 h1 h2 => ?_) (fun H locs cells slots ls rest x y u q t e0 _ h2 k => ?_) h hs
    · split at e0
      · cases e0; exact x_rem_ok h1 h2
      · cases e0
    · split at e0
      · next hz => exact lv_irem hx hb hd (x_nz_ok hz h2) k
      · cases e0
  case ishl => exact x_bin_ok hw (fun u q t x y e0 h1 h2 => by cases e0; exact x_shl_ok h1 h2) (fun H locs cells slots ls rest x y u q t _ _ _ k => lv_ishl hx hb hd k) h hs
  case ishr => exact x_bin_ok hw (fun u q t x y e0 h1 h2 => by cases e0; exact x_shr_ok h1 h2) (fun H locs cells slots ls rest x y u q t _ _ _ k => lv_ishr hx hb hd k) h hs
  case istore i =>
    refine x_sto_ok (fun Y H locs cells slots ls rest t v lv ht hc hl hn k => ?_) h hs
    obtain ⟨x, e0⟩ := x_isI_ok ht hc
    subst e0; exact lv_istore hx hb hd hl hn rfl k
  case istore_n i =>
    refine x_sto_ok (fun Y H locs cells slots ls rest t v lv ht hc hl hn k => ?_) h hs
    obtain ⟨x, e0⟩ := x_isI_ok ht hc
    subst e0; exact lv_istore_n hx hb hd rfl hl hn rfl k
  case isub => exact x_bin_ok hw (fun u q t x y e0 h1 h2 => by cases e0; exact x_sub_ok h1 h2) (fun H locs cells slots ls rest x y u q t _ _ _ k => lv_isub hx hb hd k) h hs
  case iushr => exact x_bin_ok hw (fun u q t x y e0 h1 h2 => by cases e0; exact x_fullb _) (fun H locs cells slots ls rest x y u q t _ _ _ k => lv_iushr hx hb hd rfl k) h hs
  case ixor => exact x_bin_ok hw (fun u q t x y e0 h1 h2 => by cases e0; exact x_xor_ok h1 h2) (fun H locs cells slots ls rest x y u q t _ _ _ k => lv_ixor hx hb hd k) h hs
  case l2i => exact x_l2i_ok hw hx hb hd h hs
  case ladd => exact x_binL_ok hw (fun H locs cells slots ls rest x y _ k => lv_ladd hx hb hd k) h hs
  case land => exact x_binL_ok hw (fun H locs cells slots ls rest x y _ k => lv_land hx hb hd k) h hs
  case lcmp => exact x_lcmp_ok hw hx hb hd h hs
  case lconst n =>
    have ev : (Int64.ofNat (n : Nat)).toInt = ((n : Nat) : Int) := x_l01 n
    exact x_kL_ok hw ev (fun H locs cells slots ls rest k => lv_lconst hx hb hd rfl k) h hs
  case ldc idx =>
    split at h
    · next z hz =>
      have hzm := List.mem_of_find?_eq_some hz
      have hze := List.find?_some hz
      simp only [beq_iff_eq] at hze
      subst hze
      obtain ⟨v, e0, hk⟩ := tpk z hzm
      exact x_k_ok hw e0 (fun H locs cells slots ls rest k => lv_ldc hx hb hown hk hd k) h hs
    · cases h
  case ldc_w idx =>
    split at h
    · next z hz =>
      have hzm := List.mem_of_find?_eq_some hz
      have hze := List.find?_some hz
      simp only [beq_iff_eq] at hze
      subst hze
      obtain ⟨v, e0, hk⟩ := tpk z hzm
      exact x_k_ok hw e0 (fun H locs cells slots ls rest k => lv_ldcw hx hb hown hk hd k) h hs
    · cases h
  case ldc2_w idx =>
    split at h
    · next z hz =>
      have hzm := List.mem_of_find?_eq_some hz
      have hze := List.find?_some hz
      simp only [beq_iff_eq] at hze
      subst hze
      obtain ⟨v, e0, hk⟩ := tpl z hzm
      exact x_kL_ok hw e0 (fun H locs cells slots ls rest k => lv_ldc2 hx hb hown hk hd k) h hs
    · cases h
  case ldiv => exact x_binL_ok hw (fun H locs cells slots ls rest x y hz k => lv_ldiv hx hb hd (hz rfl) k) h hs
  case lload i =>
    refine x_ld_ok (fun Y H locs cells slots ls rest t v ht hc hl k => ?_) h hs
    obtain ⟨x, e0⟩ := x_isL_ok ht hc
    rw [e0] at hl k; exact lv_lload hx hb hd hl k
  case lload_n i =>
    refine x_ld_ok (fun Y H locs cells slots ls rest t v ht hc hl k => ?_) h hs
    obtain ⟨x, e0⟩ := x_isL_ok ht hc
    rw [e0] at hl k; exact lv_lload_n hx hb hd rfl hl k
  case lmul => exact x_binL_ok hw (fun H locs cells slots ls rest x y _ k => lv_lmul hx hb hd k) h hs
  case lneg => exact x_unL_ok hw (fun H locs cells slots ls rest x k => lv_lneg hx hb hd k) h hs
  case lor => exact x_binL_ok hw (fun H locs cells slots ls rest x y _ k => lv_lor hx hb hd k) h hs
  case lrem => exact x_binL_ok hw (fun H locs cells slots ls rest x y hz k => lv_lrem hx hb hd (hz rfl) k) h hs
  case lshl => exact x_shL_ok hw (fun H locs cells slots ls rest x y k => lv_lshl hx hb hd rfl k) h hs
  case lshr => exact x_shL_ok hw (fun H locs cells slots ls rest x y k => lv_lshr hx hb hd rfl k) h hs
  case lstore i => exact x_stoL_ok (fun H locs cells slots ls rest v lv hl hn k => lv_lstore hx hb hd hl hn rfl k) h hs
  case lstore_n i => exact x_stoL_ok (fun H locs cells slots ls rest v lv hl hn k => lv_lstore_n hx hb hd rfl hl hn rfl k) h hs
  case lsub => exact x_binL_ok hw (fun H locs cells slots ls rest x y _ k => lv_lsub hx hb hd k) h hs
  case lushr => exact x_shL_ok hw (fun H locs cells slots ls rest x y k => lv_lushr hx hb hd rfl k) h hs
  case new idx => exact x_newo_ok hw hx hb hts hown hK hY0 tpn hmc hms hd h hs
  case newarray at_ => exact x_newa_ok hw hx hb hU hY0 (fun z hz he => (tpa z hz).1 at_ (by rw [he]; exact hd)) hmc hms hd h hs
  case pop =>
    unfold x_pop at h
    split at h
    · next x S hS =>
      split at h
      · next hn =>
        cases h
        exact x_stk_ok hS (fun Y H locs cells slots ls r hr k => lv_pop hx hb hd (x_n2_ok hr hn) k) (hs _ List.mem_cons_self)
      · cases h
    · cases h
  case pop2 =>
    unfold x_pop2 at h
    split at h
    · next x S hS =>
      split at h
      · next u hu =>
        cases h
        refine x_stk_ok hS (fun Y H locs cells slots ls r hr k => ?_) (hs _ List.mem_cons_self)
        obtain ⟨v, e0, -⟩ := hr x _ hu
        refine lv_pop2_2 hx hb hd ?_ k
        rw [e0]; rfl
      · cases h
    · cases h
  case putfield idx => exact x_pf_ok hx hb hts hown hK hY0 tpw hd h hs
  case sipush n =>
    split at h
    · next hn =>
      have ev : ((Int16.ofInt n).toInt32).toInt = n := by
        rw [Int16.toInt_toInt32, Int16.toInt_ofInt]
        show Int.bmod n 65536 = n
        exact Int.bmod_eq_of_le (by omega) (by omega)
      exact x_k_ok hw ev (fun H locs cells slots ls rest k => lv_sipush hx hb hd rfl k) h hs
    · cases h
  case tableswitch d lo hi offs => exact x_sw_ok hx hb hd h hs
end XZ
