theorem z_dis.mv {D : va_G} {Y : xY} {H H' : Heap} {r c : Nat} (h : z_dis D H r c) (hr : Y r = some 2) (hc : Y c = some 2) (hk : ∀ b u g, Y b = some u → (u = 2 ∨ (11 ≤ u ∧ u ≤ 31)) → x_G[u]? = some g → x_eq D g b H H') : z_dis D H' r c := h.moved (fun k hk9 _ _ _ => (hk r 2 _ hr (Or.inl rfl) rfl) k hk9) (fun k hk9 _ _ _ => (hk c 2 _ hc (Or.inl rfl) rfl) k hk9)
theorem y_cokIN {p : Program} {l : Launch} {e : Env} {R : Room} {s : State} {m : MethodId} {args : Array Value} {below : List Frame} {meth : Method} {c : Code} {D : va_G} {G : List xG} {Zs : List xZ} {U : State} {nL : Nat} {cc : ByteArray} {cl : List vw_C} {Tb Nb : List Cond} {own : String} {M : xM} {A : yA} {P : yP} {idx n : Nat} {host : String} (X : x_cx p s m args c D U cc nL cl Tb Nb own) (hM : y_Met cl G Zs Tb Nb M A P) (hret : M.2.2.2.1 = none) (h : ∀ w ∈ [Cond.instanceMethod M.1, .initialized M.1.cls], w ∈ Tb) (hl : Cond.methodLinkNest own idx M.1 host ∈ Nb) (hc : Cond.code M.1 M.2.1 M.2.2.1 M.2.2.2.1 ∈ Tb) (hi : M.1.name = "<init>")
    (h0 : ∀ (Y : xY) (av : List Value), x_cs Y (x_args M) av → ∃ (b : Nat) (As : List Value), av = .ref b :: As)
    (hd : M.1.cls ≠ "java/lang/invoke/MethodHandle" ∧ M.1.cls ≠ "java/lang/invoke/VarHandle" ∧ (parseMethodDescriptor M.1.desc).map (fun d => d.parameters.length) = some n) (hR : (x_rm M).frames + 1 ≤ R.frames ∧ 8 + (M.2.2.1 + 11) + (x_rm M).locals ≤ R.locals) :
    y_cok p l e R s m args below meth c D G Zs U nL cc (2, idx, n + 1, none, M) A P := by
  intro H locs cells slots pc ls rest av Y hdec hls hrest hcl hsl hH hcs hlen hrt hA
  obtain ⟨hx, hb, hml, hown, hts, hK, hK0, hU, hNw, hG, hN⟩ := X
  obtain ⟨b, As, rfl⟩ := h0 Y av hcs
  have hM1 := hM l D U Y H.size (.ref b :: As) hK0 hcs
  rw [hret] at hM1 hc
  rw [List.reverse_cons, List.append_assoc]
  have hg : GoodIn Tb (Cond.code M.1 M.2.1 M.2.2.1 none :: Tb) := fun w hw => by
    have hm : w ∈ Tb := by
      rcases List.mem_cons.mp hw with q | q
      · rw [q]; exact hc
      · exact q
    exact ⟨hm, good_of_word (hG w hm)⟩
  exact va_runIN (As := As) (rest := rest) (Ts := Tb) (host := host) ⟨hx, hb, hml, hown, hts⟩ hM1 ⟨va_cnB n hts hg rfl rfl rfl (hNw _ hl) (hts _ (h _ (by simp))) hd hR, hi, hts _ (h _ (by simp))⟩ ⟨y_blind hN, y_pre hN hNw hU hH hA⟩ rfl (by simpa using hlen) hls rfl (lv_room hrest) hdec ⟨hcl, hsl⟩
