abbrev xI (a b : Int) : xV := .inl (a, b)
abbrev xL (a b : Int) : xV := .inr (.inl (a, b))
abbrev xR (n : Bool) (ts : List Nat) : xV := .inr (.inr (n, ts))
abbrev xF : xV := .inl (-2147483648, 2147483647)
abbrev xFL : xV := .inr (.inl (-9223372036854775808, 9223372036854775807))
/-- the tags: 0 TF 1 TFr 2 LA 3 LAr 4 TX 5 TXr 6 EY 7 EYr 8 RO 9 ROr 10 LI 11 ST 12 WD 13 PI 14 HE 15 TP 16 WA 17 MO 18 MOr 19 Lx 20 Ly 21 Lheight 22 Lreport 23 Lblame 24 Lstones 25 Ldone 26 Lcost 27 Ldial 28 Lmists 29 Lword 30 LnightHill 31 LnightHow 32 Eview 33 EhidesNow 34 EhidesDone 35 Rsets 36 Rhours 37 Rmarks 38 Rread 39 Xbytes 40 Xnumbers 41 Tkept 42 Trefused 43 SL 44 SG 45 SN 46 Mbook 47 Mimages 48 Mkept 49 Mbefore 50 Mrefused 51 Msee 52 Mtext 53 Mverbs 54 Mnums 55 Mlaws 56 Mfar 57 Mqueue 58 Mseen 59 MlawsAt 60 Mthere 61 Mleads 62 Mread 63 Mwaits -/
def x_G : List xG := [
  .inl (11, [xR false [2], xR false [2], xR false [41], xR false [4], xR false [6], xR false [8], xR false [42], xFL, xFL]),
  .inl (11, [xR true [2], xR true [2], xR true [41], xR true [4], xR true [6], xR true [8], xR true [42], xFL, xFL]),
  .inl (2, [xI 0 10, xR false [19], xR false [20], xR false [21], xR false [22], xR false [23], xI 0 8, xR false [24], xR false [25], xR false [26], xR false [27], xR false [28], xI 0 8, xR false [29], xR false [30], xR false [31]]),
  .inl (2, [xI 0 10, xR true [19], xR true [20], xR true [21], xR true [22], xR true [23], xI 0 8, xR true [24, 64], xR true [25], xR true [26], xR true [27], xR true [28], xI 0 8, xR true [29], xR true [30], xR true [31]]),
  .inl (7, [xR false [39], xR false [40], xI 0 240, xI 0 240, xI 0 240]),
  .inl (7, [xR true [39], xR true [40], xI 0 240, xI 0 240, xI 0 240]),
  .inl (0, [xR false [10], xR false [32], xR false [33], xR false [34]]),
  .inl (0, [xR true [10], xR true [32], xR true [33], xR true [34]]),
  .inl (5, [xR false [35], xI 0 1024, xR false [36], xR false [37], xR false [38], xR false [38]]),
  .inl (5, [xR true [35], xI 0 1024, xR true [36], xR true [37], xR true [38], xR true [38]]),
  .inl (3, [xF, xF, xF, xF, xF, xF, xF, xF]),
  .inl (6, [xF, xF, xF, xF, xF]),
  .inl (10, [xF, xF, xF, xF, xF]),
  .inl (4, [xF, xF, xF, xF, xF]),
  .inl (1, [xF, xF, xF, xF, xF]),
  .inl (8, [xF, xF, xF, xF, xF]),
  .inl (9, [xF, xF, xF, xF, xF]),
  .inl (12, [xR false [46], xR false [47], xR false [48], xR false [49], xR false [50], xI 0 1, xFL, xFL, xR false [51], xR false [52], xI 0 240, xI 0 240, xF, xF, xF, xR false [53], xR false [54], xI 0 240, xR false [55], xR false [56], xR false [57], xR false [58], xR false [59], xR false [60], xR false [61], xR false [62], xR false [63]]),
  .inl (12, [xR true [46], xR true [47], xR true [48], xR true [49], xR true [50], xI 0 1, xFL, xFL, xR true [51], xR true [52], xI 0 240, xI 0 240, xF, xF, xF, xR true [53], xR true [54], xI 0 240, xR true [55], xR true [56], xR true [57], xR true [58], xR true [59], xR true [60], xR true [61], xR true [62], xR true [63]]),
  .inr (.int, 10, [], xF),
  .inr (.int, 10, [], xF),
  .inr (.int, 10, [], xF),
  .inr (.int, 10, [], xF),
  .inr (.int, 10, [], xF),
  .inr ((.object "TwinFires$Stone"), 8, [], xR false [11, 12, 13, 14, 15, 16]),
  .inr (.int, 8, [], xF),
  .inr (.int, 8, [], xF),
  .inr (.int, 4, [], xF),
  .inr (.int, 12, [], xF),
  .inr (.int, 8, [], xF),
  .inr (.int, 12, [], xF),
  .inr (.int, 12, [], xF),
  .inr (.int, 10, [], xF),
  .inr (.int, 100, [], xF),
  .inr (.int, 100, [], xF),
  .inr (.int, 1024, [], xI 0 1023),
  .inr (.int, 1024, [], xF),
  .inr (.int, 1024, [], xF),
  .inr (.int, 1024, [], xI (-1) 8),
  .inr (.int, 240, [], xF),
  .inr (.int, 4, [], xF),
  .inr ((.object "TwinFires$Land"), 2, [], xR true [2]),
  .inr (.int, 3, [], xF),
  .inr (.int, 4, [], xF),
  .inr (.int, 4, [], xF),
  .inr (.int, 10, [], xI 0 4),
  .inr (.int, 160, [xI 0 10, xI 0 8, xI 0 8], xF),
  .inr (.int, 320, [xI 0 10, xI 0 8, xI 0 8, xF, xF, xF, xF, xF, xF, xF, xF, xF, xF, xF, xF, xF, xF, xF, xF, xF, xF, xF, xF, xF, xF, xF, xF, xF, xF, xF, xF, xF, xF, xF, xF, xF, xF, xF, xF, xF, xF, xF, xF, xF, xF, xF, xF, xF, xF, xF, xF, xF, xF, xF, xF, xF, xF, xF, xF, xF, xF, xF, xF, xF, xF, xF, xF, xF, xF, xF, xF, xF, xF, xF, xF, xF, xF, xF, xF, xF, xF, xF, xF, xF, xF, xF, xF, xF, xF, xF, xF, xF, xF, xF, xF, xF, xF, xF, xF, xF, xF, xF, xF, xF, xF, xF, xF, xF, xF, xF, xF, xF, xF, xF, xF, xF, xF, xF, xF, xF, xF, xF, xF, xF, xF, xF, xF, xF, xF, xF, xF, xF, xF, xF, xF, xF, xF, xF, xF, xF, xF, xF, xF, xF, xF, xF, xF, xF, xF, xF, xF, xF, xF, xF, xF, xF, xF, xF, xF, xF, xI 0 10, xI 0 8, xI 0 8], xF),
  .inr (.boolean, 2, [], xI 0 1),
  .inr (.int, 160, [xI 0 10, xI 0 8, xI 0 8], xF),
  .inr (.int, 3, [], xF),
  .inr (.int, 10, [], xF),
  .inr (.int, 240, [], xF),
  .inr (.int, 240, [], xF),
  .inr (.int, 960, [], xF),
  .inr (.boolean, 1024, [], xI 0 1),
  .inr (.int, 1024, [], xF),
  .inr (.int, 1024, [], xI 0 1023),
  .inr (.boolean, 1024, [], xI 0 1),
  .inr (.boolean, 12288, [], xI 0 1),
  .inr (.boolean, 12288, [], xI 0 1),
  .inr (.boolean, 12288, [], xI 0 1),
  .inr (.int, 9216, [], xF),
  .inr (.int, 9216, [], xI 0 9215),
  .inr ((.object "TwinFires$Stone"), 8, [], xR true [11, 12, 13, 14, 15, 16])]
def x_Zs : List xZ := [("TwinFires", "LEAST", "[I", 43), ("TwinFires", "GREATEST", "[I", 44), ("TwinFires$Text", "NUMBERS", "[I", 45)]
def x_Tb : List Cond := lw_tbl.filter goodWord
def x_Nb : List Cond := lw_tbl.filter x_Nk
theorem x_Tb_good : ∀ w ∈ x_Tb, goodWord w = true := fun w hw => (List.mem_filter.mp hw).2
theorem x_Nb_ok : ∀ w ∈ x_Nb, x_Nk w = true := fun w hw => (List.mem_filter.mp hw).2
theorem x_at {w : Cond} (i : Nat) (h : lw_tbl[i]? = some w) (hg : goodWord w = true) : w ∈ x_Tb := List.mem_filter.mpr ⟨List.mem_of_getElem? h, hg⟩
theorem x_nt {w : Cond} (i : Nat) (h : lw_tbl[i]? = some w) (hg : x_Nk w = true) : w ∈ x_Nb := List.mem_filter.mpr ⟨List.mem_of_getElem? h, hg⟩
theorem x_nilm {α : Type} {P : α → Prop} : ∀ w ∈ ([] : List α), P w := fun _ h => absurd h List.not_mem_nil
theorem x_cons {α : Type} {P : α → Prop} {a : α} {l : List α} (h : P a) (t : ∀ w ∈ l, P w) : ∀ w ∈ a :: l, P w := List.forall_mem_cons.mpr ⟨h, t⟩
theorem x_fitI (lo hi : Int) : x_fit (.inl (lo, hi)) .int := fun _ v h => by obtain ⟨x, e0, -⟩ := h; rw [e0]; exact ⟨rfl, rfl⟩
theorem x_fitL (lo hi : Int) : x_fit (.inr (.inl (lo, hi))) .long := fun _ v h => by obtain ⟨x, e0, -⟩ := h; rw [e0]; exact ⟨rfl, rfl⟩
theorem x_fitO (q : Bool × List Nat) (C : String) : x_fit (.inr (.inr q)) (.object C) := fun _ v h => by rcases h with ⟨e0, -⟩ | ⟨b, t, e0, -⟩ <;> rw [e0] <;> exact ⟨rfl, rfl⟩
theorem x_fitA1 (q : Bool × List Nat) (C : FieldType) : x_fit (.inr (.inr q)) (.array C) := fun _ v h => by rcases h with ⟨e0, -⟩ | ⟨b, t, e0, -⟩ <;> rw [e0] <;> exact ⟨rfl, rfl⟩
theorem x_fitB : x_fit (.inl (0, 1)) .boolean := fun _ v h => by
  obtain ⟨x, e0, h1, h2⟩ := h
  have h1 : (0 : Int) ≤ x.toInt := h1
  have h2 : x.toInt ≤ 1 := h2
  rw [e0]
  rcases (by omega : x.toInt = 0 ∨ x.toInt = 1) with q | q
  · have : x = 0 := Int32.toInt_inj.mp q
    subst this; exact ⟨rfl, rfl⟩
  · have : x = 1 := Int32.toInt_inj.mp q
    subst this; exact ⟨rfl, rfl⟩
set_option maxRecDepth 100000 in
theorem iX0 : ∀ w ∈ u_ws RX0 TX0 4, w ∈ x_Tb := by decide +kernel
set_option maxRecDepth 100000 in
theorem iX1 : ∀ w ∈ u_ws RX1 TX1 5, w ∈ x_Tb := by decide +kernel
set_option maxRecDepth 100000 in
theorem iX2 : ∀ w ∈ u_ws RX2 TX2 16, w ∈ x_Tb := by decide +kernel
set_option maxRecDepth 100000 in
theorem iX3 : ∀ w ∈ u_ws RX3 TX3 8, w ∈ x_Tb := by decide +kernel
set_option maxRecDepth 100000 in
theorem iX4 : ∀ w ∈ u_ws RX4 TX4 5, w ∈ x_Tb := by decide +kernel
set_option maxRecDepth 100000 in
theorem iX5 : ∀ w ∈ u_ws RX5 TX5 6, w ∈ x_Tb := by decide +kernel
set_option maxRecDepth 100000 in
theorem iX6 : ∀ w ∈ u_ws RX6 TX6 5, w ∈ x_Tb := by decide +kernel
set_option maxRecDepth 100000 in
theorem iX7 : ∀ w ∈ u_ws RX7 TX7 5, w ∈ x_Tb := by decide +kernel
set_option maxRecDepth 100000 in
theorem iX8 : ∀ w ∈ u_ws RX8 TX8 5, w ∈ x_Tb := by decide +kernel
set_option maxRecDepth 100000 in
theorem iX9 : ∀ w ∈ u_ws RX9 TX9 5, w ∈ x_Tb := by decide +kernel
set_option maxRecDepth 100000 in
theorem iX10 : ∀ w ∈ u_ws RX10 TX10 5, w ∈ x_Tb := by decide +kernel
set_option maxRecDepth 100000 in
theorem iX11 : ∀ w ∈ u_ws RX11 TX11 9, w ∈ x_Tb := by decide +kernel
set_option maxRecDepth 100000 in
theorem iX12 : ∀ w ∈ u_ws RX12 TX12 27, w ∈ x_Tb := by decide +kernel
