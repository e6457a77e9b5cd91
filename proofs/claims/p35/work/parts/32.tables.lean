abbrev xI (a b : Int) : xV := .inl (a, b)
abbrev xL (a b : Int) : xV := .inr (.inl (a, b))
abbrev xR (n : Bool) (ts : List Nat) : xV := .inr (.inr (n, ts))
abbrev xF : xV := .inl (-2147483648, 2147483647)
abbrev xFL : xV := .inr (.inl (-9223372036854775808, 9223372036854775807))
/-- the tags: 0 TF 1 TFr 2 LA 3 LAr 4 TX 5 TXr 6 EY 7 EYr 8 RO 9 ROr 10 LI 11 ST 12 WD 13 PI 14 HE 15 TP 16 WA 17 MO 18 MOr 19 Lx 20 Ly 21 Lheight 22 Lreport 23 Lblame 24 Lstones 25 Ldone 26 Lcost 27 Ldial 28 Lmists 29 Lword 30 LnightHill 31 LnightHow 32 Eview 33 EhidesNow 34 EhidesDone 35 Rsets 36 Rhours 37 Rmarks 38 Rread 39 Xbytes 40 Xnumbers 41 Tkept 42 Trefused 43 SL 44 SG 45 SN 46 Mbook 47 Mimages 48 Mkept 49 Mbefore 50 Mrefused 51 Msee 52 Mtext 53 Mverbs 54 Mnums 55 Mlaws 56 Mfar 57 Mqueue 58 Mseen 59 MlawsAt 60 Mthere 61 Mleads 62 Mread 63 Mwaits -/
def x_G : List xG := [
  .inl (11, [xR false [2], xR false [2], xR false [41], xR false [4], xR false [6], xR false [8], xR false [42], xFL, xFL]),
  .inl (11, [xR true [2], xR true [2], xR true [41], xR true [4], xR true [6], xR true [8], xR true [42], xFL, xFL]),
  .inl (2, [xI 0 10, xR false [19], xR false [20], xR false [21], xR false [22], xR false [23], xI 0 8, xR false [24], xR false [25], xR false [26], xR false [27], xR false [28], xI 0 8, xR false [29], xR false [30], xR false [31]]),
  .inl (2, [xI 0 10, xR true [19], xR true [20], xR true [21], xR true [22], xR true [23], xI 0 8, xR true [24, 64], xR true [25], xR true [26], xR true [27], xR true [28], xI 0 8, xR true [29], xR true [30], xR true [31]]),
  .inl (7, [xR false [39], xR false [40], xI 0 240, xI 0 240, xI 0 240]),
  .inl (7, [xR true [39], xR true [40], xI 0 240, xI 0 240, xI 0 240]),
  .inl (0, [xR false [10], xR false [32], xR false [33], xR false [34]]),
  .inl (0, [xR true [10], xR true [32], xR true [33], xR true [34]]),
  .inl (5, [xR false [35], xI 0 1024, xR false [36], xR false [37], xR false [38], xR false [38]]),
  .inl (5, [xR true [35], xI 0 1024, xR true [36], xR true [37], xR true [38], xR true [38]]),
  .inl (3, [xF, xF, xF, xF, xF, xF, xF, xF]),
  .inl (6, [xF, xF, xF, xF, xF]),
  .inl (10, [xF, xF, xF, xF, xF]),
  .inl (4, [xF, xF, xF, xF, xF]),
  .inl (1, [xF, xF, xF, xF, xF]),
  .inl (8, [xF, xF, xF, xF, xF]),
  .inl (9, [xF, xF, xF, xF, xF]),
  .inl (12, [xR false [46], xR false [47], xR false [48], xR false [49], xR false [50], xI 0 1, xFL, xFL, xR false [51], xR false [52], xI 0 240, xI 0 240, xF, xF, xF, xR false [53], xR false [54], xI 0 240, xR false [55], xR false [56], xR false [57], xR false [58], xR false [59], xR false [60], xR false [61], xR false [62], xR false [63]]),
  .inl (12, [xR true [46], xR true [47], xR true [48], xR true [49], xR true [50], xI 0 1, xFL, xFL, xR true [51], xR true [52], xI 0 240, xI 0 240, xF, xF, xF, xR true [53], xR true [54], xI 0 240, xR true [55], xR true [56], xR true [57], xR true [58], xR true [59], xR true [60], xR true [61], xR true [62], xR true [63]]),
  .inr (.int, 10, [], xF),
  .inr (.int, 10, [], xF),
  .inr (.int, 10, [], xF),
  .inr (.int, 10, [], xF),
  .inr (.int, 10, [], xF),
  .inr ((.object "TwinFires$Stone"), 8, [], xR false [11, 12, 13, 14, 15, 16]),
  .inr (.int, 8, [], xF),
  .inr (.int, 8, [], xF),
  .inr (.int, 4, [], xF),
  .inr (.int, 12, [], xF),
  .inr (.int, 8, [], xF),
  .inr (.int, 12, [], xF),
  .inr (.int, 12, [], xF),
  .inr (.int, 10, [], xF),
  .inr (.int, 100, [], xF),
  .inr (.int, 100, [], xF),
  .inr (.int, 1024, [], xI 0 1023),
  .inr (.int, 1024, [], xF),
  .inr (.int, 1024, [], xF),
  .inr (.int, 1024, [], xI (-1) 8),
  .inr (.int, 240, [], xF),
  .inr (.int, 4, [], xF),
  .inr ((.object "TwinFires$Land"), 2, [], xR true [2]),
  .inr (.int, 3, [], xF),
  .inr (.int, 4, [], xF),
  .inr (.int, 4, [], xF),
  .inr (.int, 10, [], xI 0 4),
  .inr (.int, 160, [xI 0 10, xI 0 8, xI 0 8], xF),
  .inr (.int, 320, [xI 0 10, xI 0 8, xI 0 8, xF, xF, xF, xF, xF, xF, xF, xF, xF, xF, xF, xF, xF, xF, xF, xF, xF, xF, xF, xF, xF, xF, xF, xF, xF, xF, xF, xF, xF, xF, xF, xF, xF, xF, xF, xF, xF, xF, xF, xF, xF, xF, xF, xF, xF, xF, xF, xF, xF, xF, xF, xF, xF, xF, xF, xF, xF, xF, xF, xF, xF, xF, xF, xF, xF, xF, xF, xF, xF, xF, xF, xF, xF, xF, xF, xF, xF, xF, xF, xF, xF, xF, xF, xF, xF, xF, xF, xF, xF, xF, xF, xF, xF, xF, xF, xF, xF, xF, xF, xF, xF, xF, xF, xF, xF, xF, xF, xF, xF, xF, xF, xF, xF, xF, xF, xF, xF, xF, xF, xF, xF, xF, xF, xF, xF, xF, xF, xF, xF, xF, xF, xF, xF, xF, xF, xF, xF, xF, xF, xF, xF, xF, xF, xF, xF, xF, xF, xF, xF, xF, xF, xF, xF, xF, xF, xF, xF, xI 0 10, xI 0 8, xI 0 8], xF),
  .inr (.boolean, 2, [], xI 0 1),
  .inr (.int, 160, [xI 0 10, xI 0 8, xI 0 8], xF),
  .inr (.int, 3, [], xF),
  .inr (.int, 10, [], xF),
  .inr (.int, 240, [], xF),
  .inr (.int, 240, [], xF),
  .inr (.int, 960, [], xF),
  .inr (.boolean, 1024, [], xI 0 1),
  .inr (.int, 1024, [], xF),
  .inr (.int, 1024, [], xI 0 1023),
  .inr (.boolean, 1024, [], xI 0 1),
  .inr (.boolean, 12288, [], xI 0 1),
  .inr (.boolean, 12288, [], xI 0 1),
  .inr (.boolean, 12288, [], xI 0 1),
  .inr (.int, 9216, [], xF),
  .inr (.int, 9216, [], xI 0 9215),
  .inr ((.object "TwinFires$Stone"), 8, [], xR true [11, 12, 13, 14, 15, 16])]
def x_Zs : List xZ := [("TwinFires", "LEAST", "[I", 43), ("TwinFires", "GREATEST", "[I", 44), ("TwinFires$Text", "NUMBERS", "[I", 45)]
def x_Tb : List Cond := lw_tbl.filter goodWord
def x_Nb : List Cond := lw_tbl.filter x_Nk
theorem x_Tb_good : ∀ w ∈ x_Tb, goodWord w = true := fun w hw => (List.mem_filter.mp hw).2
theorem x_Nb_ok : ∀ w ∈ x_Nb, x_Nk w = true := fun w hw => (List.mem_filter.mp hw).2
theorem x_at {w : Cond} (i : Nat) (h : lw_tbl[i]? = some w) (hg : goodWord w = true) : w ∈ x_Tb := List.mem_filter.mpr ⟨List.mem_of_getElem? h, hg⟩
theorem x_bw0 {w : Cond} (i : Nat) (h : x_B0[i]? = some w) (hg : goodWord w = true) : w ∈ x_Tb := List.mem_filter.mpr ⟨List.mem_append_right _ (x_m0 (List.mem_of_getElem? h)), hg⟩
theorem x_bw1 {w : Cond} (i : Nat) (h : x_B1[i]? = some w) (hg : goodWord w = true) : w ∈ x_Tb := List.mem_filter.mpr ⟨List.mem_append_right _ (x_m1 (List.mem_of_getElem? h)), hg⟩
theorem x_bw2 {w : Cond} (i : Nat) (h : x_B2[i]? = some w) (hg : goodWord w = true) : w ∈ x_Tb := List.mem_filter.mpr ⟨List.mem_append_right _ (x_m2 (List.mem_of_getElem? h)), hg⟩
theorem x_bn2 {w : Cond} (i : Nat) (h : x_B2[i]? = some w) (hg : x_Nk w = true) : w ∈ x_Nb := List.mem_filter.mpr ⟨List.mem_append_right _ (x_m2 (List.mem_of_getElem? h)), hg⟩
theorem x_bw3 {w : Cond} (i : Nat) (h : x_B3[i]? = some w) (hg : goodWord w = true) : w ∈ x_Tb := List.mem_filter.mpr ⟨List.mem_append_right _ (x_m3 (List.mem_of_getElem? h)), hg⟩
theorem x_bw4 {w : Cond} (i : Nat) (h : x_B4[i]? = some w) (hg : goodWord w = true) : w ∈ x_Tb := List.mem_filter.mpr ⟨List.mem_append_right _ (x_m4 (List.mem_of_getElem? h)), hg⟩
theorem x_bw5 {w : Cond} (i : Nat) (h : x_B5[i]? = some w) (hg : goodWord w = true) : w ∈ x_Tb := List.mem_filter.mpr ⟨List.mem_append_right _ (x_m5 (List.mem_of_getElem? h)), hg⟩
theorem x_bw6 {w : Cond} (i : Nat) (h : x_B6[i]? = some w) (hg : goodWord w = true) : w ∈ x_Tb := List.mem_filter.mpr ⟨List.mem_append_right _ (x_m6 (List.mem_of_getElem? h)), hg⟩
theorem x_bw7 {w : Cond} (i : Nat) (h : x_B7[i]? = some w) (hg : goodWord w = true) : w ∈ x_Tb := List.mem_filter.mpr ⟨List.mem_append_right _ (x_m7 (List.mem_of_getElem? h)), hg⟩
theorem x_bw10 {w : Cond} (i : Nat) (h : x_B10[i]? = some w) (hg : goodWord w = true) : w ∈ x_Tb := List.mem_filter.mpr ⟨List.mem_append_right _ (x_m10 (List.mem_of_getElem? h)), hg⟩
theorem x_bn10 {w : Cond} (i : Nat) (h : x_B10[i]? = some w) (hg : x_Nk w = true) : w ∈ x_Nb := List.mem_filter.mpr ⟨List.mem_append_right _ (x_m10 (List.mem_of_getElem? h)), hg⟩
theorem x_bw11 {w : Cond} (i : Nat) (h : x_B11[i]? = some w) (hg : goodWord w = true) : w ∈ x_Tb := List.mem_filter.mpr ⟨List.mem_append_right _ (x_m11 (List.mem_of_getElem? h)), hg⟩
theorem x_bn11 {w : Cond} (i : Nat) (h : x_B11[i]? = some w) (hg : x_Nk w = true) : w ∈ x_Nb := List.mem_filter.mpr ⟨List.mem_append_right _ (x_m11 (List.mem_of_getElem? h)), hg⟩
theorem x_bw12 {w : Cond} (i : Nat) (h : x_B12[i]? = some w) (hg : goodWord w = true) : w ∈ x_Tb := List.mem_filter.mpr ⟨List.mem_append_right _ (x_m12 (List.mem_of_getElem? h)), hg⟩
theorem x_bn12 {w : Cond} (i : Nat) (h : x_B12[i]? = some w) (hg : x_Nk w = true) : w ∈ x_Nb := List.mem_filter.mpr ⟨List.mem_append_right _ (x_m12 (List.mem_of_getElem? h)), hg⟩
theorem x_bw13 {w : Cond} (i : Nat) (h : x_B13[i]? = some w) (hg : goodWord w = true) : w ∈ x_Tb := List.mem_filter.mpr ⟨List.mem_append_right _ (x_m13 (List.mem_of_getElem? h)), hg⟩
theorem x_bw14 {w : Cond} (i : Nat) (h : x_B14[i]? = some w) (hg : goodWord w = true) : w ∈ x_Tb := List.mem_filter.mpr ⟨List.mem_append_right _ (x_m14 (List.mem_of_getElem? h)), hg⟩
theorem x_bw15 {w : Cond} (i : Nat) (h : x_B15[i]? = some w) (hg : goodWord w = true) : w ∈ x_Tb := List.mem_filter.mpr ⟨List.mem_append_right _ (x_m15 (List.mem_of_getElem? h)), hg⟩
theorem x_bn15 {w : Cond} (i : Nat) (h : x_B15[i]? = some w) (hg : x_Nk w = true) : w ∈ x_Nb := List.mem_filter.mpr ⟨List.mem_append_right _ (x_m15 (List.mem_of_getElem? h)), hg⟩
theorem x_bw16 {w : Cond} (i : Nat) (h : x_B16[i]? = some w) (hg : goodWord w = true) : w ∈ x_Tb := List.mem_filter.mpr ⟨List.mem_append_right _ (x_m16 (List.mem_of_getElem? h)), hg⟩
theorem x_bw17 {w : Cond} (i : Nat) (h : x_B17[i]? = some w) (hg : goodWord w = true) : w ∈ x_Tb := List.mem_filter.mpr ⟨List.mem_append_right _ (x_m17 (List.mem_of_getElem? h)), hg⟩
theorem x_bw18 {w : Cond} (i : Nat) (h : x_B18[i]? = some w) (hg : goodWord w = true) : w ∈ x_Tb := List.mem_filter.mpr ⟨List.mem_append_right _ (x_m18 (List.mem_of_getElem? h)), hg⟩
theorem x_bw19 {w : Cond} (i : Nat) (h : x_B19[i]? = some w) (hg : goodWord w = true) : w ∈ x_Tb := List.mem_filter.mpr ⟨List.mem_append_right _ (x_m19 (List.mem_of_getElem? h)), hg⟩
theorem x_bn19 {w : Cond} (i : Nat) (h : x_B19[i]? = some w) (hg : x_Nk w = true) : w ∈ x_Nb := List.mem_filter.mpr ⟨List.mem_append_right _ (x_m19 (List.mem_of_getElem? h)), hg⟩
theorem x_bw20 {w : Cond} (i : Nat) (h : x_B20[i]? = some w) (hg : goodWord w = true) : w ∈ x_Tb := List.mem_filter.mpr ⟨List.mem_append_right _ (x_m20 (List.mem_of_getElem? h)), hg⟩
theorem x_bw21 {w : Cond} (i : Nat) (h : x_B21[i]? = some w) (hg : goodWord w = true) : w ∈ x_Tb := List.mem_filter.mpr ⟨List.mem_append_right _ (x_m21 (List.mem_of_getElem? h)), hg⟩
theorem x_bw22 {w : Cond} (i : Nat) (h : x_B22[i]? = some w) (hg : goodWord w = true) : w ∈ x_Tb := List.mem_filter.mpr ⟨List.mem_append_right _ (x_m22 (List.mem_of_getElem? h)), hg⟩
theorem x_bw23 {w : Cond} (i : Nat) (h : x_B23[i]? = some w) (hg : goodWord w = true) : w ∈ x_Tb := List.mem_filter.mpr ⟨List.mem_append_right _ (x_m23 (List.mem_of_getElem? h)), hg⟩
theorem x_bw24 {w : Cond} (i : Nat) (h : x_B24[i]? = some w) (hg : goodWord w = true) : w ∈ x_Tb := List.mem_filter.mpr ⟨List.mem_append_right _ (x_m24 (List.mem_of_getElem? h)), hg⟩
theorem x_bn24 {w : Cond} (i : Nat) (h : x_B24[i]? = some w) (hg : x_Nk w = true) : w ∈ x_Nb := List.mem_filter.mpr ⟨List.mem_append_right _ (x_m24 (List.mem_of_getElem? h)), hg⟩
theorem x_bw25 {w : Cond} (i : Nat) (h : x_B25[i]? = some w) (hg : goodWord w = true) : w ∈ x_Tb := List.mem_filter.mpr ⟨List.mem_append_right _ (x_m25 (List.mem_of_getElem? h)), hg⟩
theorem x_bw26 {w : Cond} (i : Nat) (h : x_B26[i]? = some w) (hg : goodWord w = true) : w ∈ x_Tb := List.mem_filter.mpr ⟨List.mem_append_right _ (x_m26 (List.mem_of_getElem? h)), hg⟩
theorem x_bw27 {w : Cond} (i : Nat) (h : x_B27[i]? = some w) (hg : goodWord w = true) : w ∈ x_Tb := List.mem_filter.mpr ⟨List.mem_append_right _ (x_m27 (List.mem_of_getElem? h)), hg⟩
theorem x_bw28 {w : Cond} (i : Nat) (h : x_B28[i]? = some w) (hg : goodWord w = true) : w ∈ x_Tb := List.mem_filter.mpr ⟨List.mem_append_right _ (x_m28 (List.mem_of_getElem? h)), hg⟩
theorem x_bw29 {w : Cond} (i : Nat) (h : x_B29[i]? = some w) (hg : goodWord w = true) : w ∈ x_Tb := List.mem_filter.mpr ⟨List.mem_append_right _ (x_m29 (List.mem_of_getElem? h)), hg⟩
theorem x_bw30 {w : Cond} (i : Nat) (h : x_B30[i]? = some w) (hg : goodWord w = true) : w ∈ x_Tb := List.mem_filter.mpr ⟨List.mem_append_right _ (x_m30 (List.mem_of_getElem? h)), hg⟩
theorem x_bw31 {w : Cond} (i : Nat) (h : x_B31[i]? = some w) (hg : goodWord w = true) : w ∈ x_Tb := List.mem_filter.mpr ⟨List.mem_append_right _ (x_m31 (List.mem_of_getElem? h)), hg⟩
theorem x_bw32 {w : Cond} (i : Nat) (h : x_B32[i]? = some w) (hg : goodWord w = true) : w ∈ x_Tb := List.mem_filter.mpr ⟨List.mem_append_right _ (x_m32 (List.mem_of_getElem? h)), hg⟩
theorem x_bw33 {w : Cond} (i : Nat) (h : x_B33[i]? = some w) (hg : goodWord w = true) : w ∈ x_Tb := List.mem_filter.mpr ⟨List.mem_append_right _ (x_m33 (List.mem_of_getElem? h)), hg⟩
theorem x_bw34 {w : Cond} (i : Nat) (h : x_B34[i]? = some w) (hg : goodWord w = true) : w ∈ x_Tb := List.mem_filter.mpr ⟨List.mem_append_right _ (x_m34 (List.mem_of_getElem? h)), hg⟩
theorem x_bn34 {w : Cond} (i : Nat) (h : x_B34[i]? = some w) (hg : x_Nk w = true) : w ∈ x_Nb := List.mem_filter.mpr ⟨List.mem_append_right _ (x_m34 (List.mem_of_getElem? h)), hg⟩
theorem x_bw35 {w : Cond} (i : Nat) (h : x_B35[i]? = some w) (hg : goodWord w = true) : w ∈ x_Tb := List.mem_filter.mpr ⟨List.mem_append_right _ (x_m35 (List.mem_of_getElem? h)), hg⟩
theorem x_bw36 {w : Cond} (i : Nat) (h : x_B36[i]? = some w) (hg : goodWord w = true) : w ∈ x_Tb := List.mem_filter.mpr ⟨List.mem_append_right _ (x_m36 (List.mem_of_getElem? h)), hg⟩
theorem x_bw37 {w : Cond} (i : Nat) (h : x_B37[i]? = some w) (hg : goodWord w = true) : w ∈ x_Tb := List.mem_filter.mpr ⟨List.mem_append_right _ (x_m37 (List.mem_of_getElem? h)), hg⟩
theorem x_bw38 {w : Cond} (i : Nat) (h : x_B38[i]? = some w) (hg : goodWord w = true) : w ∈ x_Tb := List.mem_filter.mpr ⟨List.mem_append_right _ (x_m38 (List.mem_of_getElem? h)), hg⟩
theorem x_bw39 {w : Cond} (i : Nat) (h : x_B39[i]? = some w) (hg : goodWord w = true) : w ∈ x_Tb := List.mem_filter.mpr ⟨List.mem_append_right _ (x_m39 (List.mem_of_getElem? h)), hg⟩
theorem x_bw40 {w : Cond} (i : Nat) (h : x_B40[i]? = some w) (hg : goodWord w = true) : w ∈ x_Tb := List.mem_filter.mpr ⟨List.mem_append_right _ (x_m40 (List.mem_of_getElem? h)), hg⟩
theorem x_bw41 {w : Cond} (i : Nat) (h : x_B41[i]? = some w) (hg : goodWord w = true) : w ∈ x_Tb := List.mem_filter.mpr ⟨List.mem_append_right _ (x_m41 (List.mem_of_getElem? h)), hg⟩
theorem x_bw42 {w : Cond} (i : Nat) (h : x_B42[i]? = some w) (hg : goodWord w = true) : w ∈ x_Tb := List.mem_filter.mpr ⟨List.mem_append_right _ (x_m42 (List.mem_of_getElem? h)), hg⟩
theorem x_bn42 {w : Cond} (i : Nat) (h : x_B42[i]? = some w) (hg : x_Nk w = true) : w ∈ x_Nb := List.mem_filter.mpr ⟨List.mem_append_right _ (x_m42 (List.mem_of_getElem? h)), hg⟩
theorem x_bw43 {w : Cond} (i : Nat) (h : x_B43[i]? = some w) (hg : goodWord w = true) : w ∈ x_Tb := List.mem_filter.mpr ⟨List.mem_append_right _ (x_m43 (List.mem_of_getElem? h)), hg⟩
theorem x_bw44 {w : Cond} (i : Nat) (h : x_B44[i]? = some w) (hg : goodWord w = true) : w ∈ x_Tb := List.mem_filter.mpr ⟨List.mem_append_right _ (x_m44 (List.mem_of_getElem? h)), hg⟩
theorem x_bw45 {w : Cond} (i : Nat) (h : x_B45[i]? = some w) (hg : goodWord w = true) : w ∈ x_Tb := List.mem_filter.mpr ⟨List.mem_append_right _ (x_m45 (List.mem_of_getElem? h)), hg⟩
theorem x_bw46 {w : Cond} (i : Nat) (h : x_B46[i]? = some w) (hg : goodWord w = true) : w ∈ x_Tb := List.mem_filter.mpr ⟨List.mem_append_right _ (x_m46 (List.mem_of_getElem? h)), hg⟩
theorem x_bw47 {w : Cond} (i : Nat) (h : x_B47[i]? = some w) (hg : goodWord w = true) : w ∈ x_Tb := List.mem_filter.mpr ⟨List.mem_append_right _ (x_m47 (List.mem_of_getElem? h)), hg⟩
theorem x_bn47 {w : Cond} (i : Nat) (h : x_B47[i]? = some w) (hg : x_Nk w = true) : w ∈ x_Nb := List.mem_filter.mpr ⟨List.mem_append_right _ (x_m47 (List.mem_of_getElem? h)), hg⟩
theorem x_bw48 {w : Cond} (i : Nat) (h : x_B48[i]? = some w) (hg : goodWord w = true) : w ∈ x_Tb := List.mem_filter.mpr ⟨List.mem_append_right _ (x_m48 (List.mem_of_getElem? h)), hg⟩
theorem x_bw49 {w : Cond} (i : Nat) (h : x_B49[i]? = some w) (hg : goodWord w = true) : w ∈ x_Tb := List.mem_filter.mpr ⟨List.mem_append_right _ (x_m49 (List.mem_of_getElem? h)), hg⟩
theorem x_bw50 {w : Cond} (i : Nat) (h : x_B50[i]? = some w) (hg : goodWord w = true) : w ∈ x_Tb := List.mem_filter.mpr ⟨List.mem_append_right _ (x_m50 (List.mem_of_getElem? h)), hg⟩
theorem x_bw51 {w : Cond} (i : Nat) (h : x_B51[i]? = some w) (hg : goodWord w = true) : w ∈ x_Tb := List.mem_filter.mpr ⟨List.mem_append_right _ (x_m51 (List.mem_of_getElem? h)), hg⟩
theorem x_bn51 {w : Cond} (i : Nat) (h : x_B51[i]? = some w) (hg : x_Nk w = true) : w ∈ x_Nb := List.mem_filter.mpr ⟨List.mem_append_right _ (x_m51 (List.mem_of_getElem? h)), hg⟩
theorem x_bw52 {w : Cond} (i : Nat) (h : x_B52[i]? = some w) (hg : goodWord w = true) : w ∈ x_Tb := List.mem_filter.mpr ⟨List.mem_append_right _ (x_m52 (List.mem_of_getElem? h)), hg⟩
theorem x_bn52 {w : Cond} (i : Nat) (h : x_B52[i]? = some w) (hg : x_Nk w = true) : w ∈ x_Nb := List.mem_filter.mpr ⟨List.mem_append_right _ (x_m52 (List.mem_of_getElem? h)), hg⟩
theorem x_bw53 {w : Cond} (i : Nat) (h : x_B53[i]? = some w) (hg : goodWord w = true) : w ∈ x_Tb := List.mem_filter.mpr ⟨List.mem_append_right _ (x_m53 (List.mem_of_getElem? h)), hg⟩
theorem x_bw54 {w : Cond} (i : Nat) (h : x_B54[i]? = some w) (hg : goodWord w = true) : w ∈ x_Tb := List.mem_filter.mpr ⟨List.mem_append_right _ (x_m54 (List.mem_of_getElem? h)), hg⟩
theorem x_bw55 {w : Cond} (i : Nat) (h : x_B55[i]? = some w) (hg : goodWord w = true) : w ∈ x_Tb := List.mem_filter.mpr ⟨List.mem_append_right _ (x_m55 (List.mem_of_getElem? h)), hg⟩
theorem x_bw56 {w : Cond} (i : Nat) (h : x_B56[i]? = some w) (hg : goodWord w = true) : w ∈ x_Tb := List.mem_filter.mpr ⟨List.mem_append_right _ (x_m56 (List.mem_of_getElem? h)), hg⟩
theorem x_bw57 {w : Cond} (i : Nat) (h : x_B57[i]? = some w) (hg : goodWord w = true) : w ∈ x_Tb := List.mem_filter.mpr ⟨List.mem_append_right _ (x_m57 (List.mem_of_getElem? h)), hg⟩
theorem x_bw58 {w : Cond} (i : Nat) (h : x_B58[i]? = some w) (hg : goodWord w = true) : w ∈ x_Tb := List.mem_filter.mpr ⟨List.mem_append_right _ (x_m58 (List.mem_of_getElem? h)), hg⟩
theorem x_bw59 {w : Cond} (i : Nat) (h : x_B59[i]? = some w) (hg : goodWord w = true) : w ∈ x_Tb := List.mem_filter.mpr ⟨List.mem_append_right _ (x_m59 (List.mem_of_getElem? h)), hg⟩
theorem x_bw60 {w : Cond} (i : Nat) (h : x_B60[i]? = some w) (hg : goodWord w = true) : w ∈ x_Tb := List.mem_filter.mpr ⟨List.mem_append_right _ (x_m60 (List.mem_of_getElem? h)), hg⟩
theorem x_bw61 {w : Cond} (i : Nat) (h : x_B61[i]? = some w) (hg : goodWord w = true) : w ∈ x_Tb := List.mem_filter.mpr ⟨List.mem_append_right _ (x_m61 (List.mem_of_getElem? h)), hg⟩
theorem x_bn61 {w : Cond} (i : Nat) (h : x_B61[i]? = some w) (hg : x_Nk w = true) : w ∈ x_Nb := List.mem_filter.mpr ⟨List.mem_append_right _ (x_m61 (List.mem_of_getElem? h)), hg⟩
theorem x_bw62 {w : Cond} (i : Nat) (h : x_B62[i]? = some w) (hg : goodWord w = true) : w ∈ x_Tb := List.mem_filter.mpr ⟨List.mem_append_right _ (x_m62 (List.mem_of_getElem? h)), hg⟩
theorem x_bw63 {w : Cond} (i : Nat) (h : x_B63[i]? = some w) (hg : goodWord w = true) : w ∈ x_Tb := List.mem_filter.mpr ⟨List.mem_append_right _ (x_m63 (List.mem_of_getElem? h)), hg⟩
theorem x_bw67 {w : Cond} (i : Nat) (h : x_B67[i]? = some w) (hg : goodWord w = true) : w ∈ x_Tb := List.mem_filter.mpr ⟨List.mem_append_right _ (x_m67 (List.mem_of_getElem? h)), hg⟩
theorem x_bw68 {w : Cond} (i : Nat) (h : x_B68[i]? = some w) (hg : goodWord w = true) : w ∈ x_Tb := List.mem_filter.mpr ⟨List.mem_append_right _ (x_m68 (List.mem_of_getElem? h)), hg⟩
theorem x_bw69 {w : Cond} (i : Nat) (h : x_B69[i]? = some w) (hg : goodWord w = true) : w ∈ x_Tb := List.mem_filter.mpr ⟨List.mem_append_right _ (x_m69 (List.mem_of_getElem? h)), hg⟩
theorem x_bw70 {w : Cond} (i : Nat) (h : x_B70[i]? = some w) (hg : goodWord w = true) : w ∈ x_Tb := List.mem_filter.mpr ⟨List.mem_append_right _ (x_m70 (List.mem_of_getElem? h)), hg⟩
theorem x_bw71 {w : Cond} (i : Nat) (h : x_B71[i]? = some w) (hg : goodWord w = true) : w ∈ x_Tb := List.mem_filter.mpr ⟨List.mem_append_right _ (x_m71 (List.mem_of_getElem? h)), hg⟩
theorem x_bw72 {w : Cond} (i : Nat) (h : x_B72[i]? = some w) (hg : goodWord w = true) : w ∈ x_Tb := List.mem_filter.mpr ⟨List.mem_append_right _ (x_m72 (List.mem_of_getElem? h)), hg⟩
theorem x_bw73 {w : Cond} (i : Nat) (h : x_B73[i]? = some w) (hg : goodWord w = true) : w ∈ x_Tb := List.mem_filter.mpr ⟨List.mem_append_right _ (x_m73 (List.mem_of_getElem? h)), hg⟩
theorem x_bw74 {w : Cond} (i : Nat) (h : x_B74[i]? = some w) (hg : goodWord w = true) : w ∈ x_Tb := List.mem_filter.mpr ⟨List.mem_append_right _ (x_m74 (List.mem_of_getElem? h)), hg⟩
theorem x_bw75 {w : Cond} (i : Nat) (h : x_B75[i]? = some w) (hg : goodWord w = true) : w ∈ x_Tb := List.mem_filter.mpr ⟨List.mem_append_right _ (x_m75 (List.mem_of_getElem? h)), hg⟩
theorem x_bw76 {w : Cond} (i : Nat) (h : x_B76[i]? = some w) (hg : goodWord w = true) : w ∈ x_Tb := List.mem_filter.mpr ⟨List.mem_append_right _ (x_m76 (List.mem_of_getElem? h)), hg⟩
theorem x_bw77 {w : Cond} (i : Nat) (h : x_B77[i]? = some w) (hg : goodWord w = true) : w ∈ x_Tb := List.mem_filter.mpr ⟨List.mem_append_right _ (x_m77 (List.mem_of_getElem? h)), hg⟩
theorem x_bw78 {w : Cond} (i : Nat) (h : x_B78[i]? = some w) (hg : goodWord w = true) : w ∈ x_Tb := List.mem_filter.mpr ⟨List.mem_append_right _ (x_m78 (List.mem_of_getElem? h)), hg⟩
theorem x_bw79 {w : Cond} (i : Nat) (h : x_B79[i]? = some w) (hg : goodWord w = true) : w ∈ x_Tb := List.mem_filter.mpr ⟨List.mem_append_right _ (x_m79 (List.mem_of_getElem? h)), hg⟩
theorem x_bw80 {w : Cond} (i : Nat) (h : x_B80[i]? = some w) (hg : goodWord w = true) : w ∈ x_Tb := List.mem_filter.mpr ⟨List.mem_append_right _ (x_m80 (List.mem_of_getElem? h)), hg⟩
theorem x_bw81 {w : Cond} (i : Nat) (h : x_B81[i]? = some w) (hg : goodWord w = true) : w ∈ x_Tb := List.mem_filter.mpr ⟨List.mem_append_right _ (x_m81 (List.mem_of_getElem? h)), hg⟩
theorem x_bw82 {w : Cond} (i : Nat) (h : x_B82[i]? = some w) (hg : goodWord w = true) : w ∈ x_Tb := List.mem_filter.mpr ⟨List.mem_append_right _ (x_m82 (List.mem_of_getElem? h)), hg⟩
theorem x_bw83 {w : Cond} (i : Nat) (h : x_B83[i]? = some w) (hg : goodWord w = true) : w ∈ x_Tb := List.mem_filter.mpr ⟨List.mem_append_right _ (x_m83 (List.mem_of_getElem? h)), hg⟩
theorem x_bw84 {w : Cond} (i : Nat) (h : x_B84[i]? = some w) (hg : goodWord w = true) : w ∈ x_Tb := List.mem_filter.mpr ⟨List.mem_append_right _ (x_m84 (List.mem_of_getElem? h)), hg⟩
theorem x_bw85 {w : Cond} (i : Nat) (h : x_B85[i]? = some w) (hg : goodWord w = true) : w ∈ x_Tb := List.mem_filter.mpr ⟨List.mem_append_right _ (x_m85 (List.mem_of_getElem? h)), hg⟩
theorem x_bw86 {w : Cond} (i : Nat) (h : x_B86[i]? = some w) (hg : goodWord w = true) : w ∈ x_Tb := List.mem_filter.mpr ⟨List.mem_append_right _ (x_m86 (List.mem_of_getElem? h)), hg⟩
theorem x_bw87 {w : Cond} (i : Nat) (h : x_B87[i]? = some w) (hg : goodWord w = true) : w ∈ x_Tb := List.mem_filter.mpr ⟨List.mem_append_right _ (x_m87 (List.mem_of_getElem? h)), hg⟩
theorem x_bw88 {w : Cond} (i : Nat) (h : x_B88[i]? = some w) (hg : goodWord w = true) : w ∈ x_Tb := List.mem_filter.mpr ⟨List.mem_append_right _ (x_m88 (List.mem_of_getElem? h)), hg⟩
theorem x_bw89 {w : Cond} (i : Nat) (h : x_B89[i]? = some w) (hg : goodWord w = true) : w ∈ x_Tb := List.mem_filter.mpr ⟨List.mem_append_right _ (x_m89 (List.mem_of_getElem? h)), hg⟩
theorem x_bn89 {w : Cond} (i : Nat) (h : x_B89[i]? = some w) (hg : x_Nk w = true) : w ∈ x_Nb := List.mem_filter.mpr ⟨List.mem_append_right _ (x_m89 (List.mem_of_getElem? h)), hg⟩
theorem x_viaB {l B : List Cond} (hB : ∀ w ∈ B, w ∈ tables_1) (h : l.all (fun w => decide (w ∈ B) && goodWord w) = true) : ∀ w ∈ l, w ∈ x_Tb := fun w hw => by
  have h1 := List.all_eq_true.mp h w hw
  rw [Bool.and_eq_true, decide_eq_true_eq] at h1
  exact List.mem_filter.mpr ⟨List.mem_append_right _ (hB w h1.1), h1.2⟩
theorem x_nilm {α : Type} {P : α → Prop} : ∀ w ∈ ([] : List α), P w := fun _ h => absurd h List.not_mem_nil
theorem x_cons {α : Type} {P : α → Prop} {a : α} {l : List α} (h : P a) (t : ∀ w ∈ l, P w) : ∀ w ∈ a :: l, P w := List.forall_mem_cons.mpr ⟨h, t⟩
theorem x_fitI (lo hi : Int) : x_fit (.inl (lo, hi)) .int := fun _ v h => by obtain ⟨x, e0, -⟩ := h; rw [e0]; exact ⟨rfl, rfl⟩
theorem x_fitL (lo hi : Int) : x_fit (.inr (.inl (lo, hi))) .long := fun _ v h => by obtain ⟨x, e0, -⟩ := h; rw [e0]; exact ⟨rfl, rfl⟩
theorem x_fitO (q : Bool × List Nat) (C : String) : x_fit (.inr (.inr q)) (.object C) := fun _ v h => by rcases h with ⟨e0, -⟩ | ⟨b, t, e0, -⟩ <;> rw [e0] <;> exact ⟨rfl, rfl⟩
theorem x_fitA1 (q : Bool × List Nat) (C : FieldType) : x_fit (.inr (.inr q)) (.array C) := fun _ v h => by rcases h with ⟨e0, -⟩ | ⟨b, t, e0, -⟩ <;> rw [e0] <;> exact ⟨rfl, rfl⟩
theorem x_fitB : x_fit (.inl (0, 1)) .boolean := fun _ v h => by
  obtain ⟨x, e0, h1, h2⟩ := h
  have h1 : (0 : Int) ≤ x.toInt := h1
  have h2 : x.toInt ≤ 1 := h2
  rw [e0]
  rcases (by omega : x.toInt = 0 ∨ x.toInt = 1) with q | q
  · have : x = 0 := Int32.toInt_inj.mp q
    subst this; exact ⟨rfl, rfl⟩
  · have : x = 1 := Int32.toInt_inj.mp q
    subst this; exact ⟨rfl, rfl⟩
set_option maxRecDepth 100000 in
theorem iX0 : ∀ w ∈ u_ws RX0 TX0 4, w ∈ x_Tb := x_viaB (B := x_B14) (fun w hw => x_m14 hw) (by decide +kernel)
set_option maxRecDepth 100000 in
theorem iX1 : ∀ w ∈ u_ws RX1 TX1 5, w ∈ x_Tb := x_viaB (B := x_B22) (fun w hw => x_m22 hw) (by decide +kernel)
set_option maxRecDepth 100000 in
theorem iX2 : ∀ w ∈ u_ws RX2 TX2 16, w ∈ x_Tb := x_viaB (B := ((x_B7 ++ x_B8) ++ x_B9)) (List.forall_mem_append.mpr ⟨(List.forall_mem_append.mpr ⟨(fun w hw => x_m7 hw), fun w hw => x_m8 hw⟩), fun w hw => x_m9 hw⟩) (by decide +kernel)
set_option maxRecDepth 100000 in
theorem iX3 : ∀ w ∈ u_ws RX3 TX3 8, w ∈ x_Tb := x_viaB (B := (x_B12 ++ x_B13)) (List.forall_mem_append.mpr ⟨(fun w hw => x_m12 hw), fun w hw => x_m13 hw⟩) (by decide +kernel)
set_option maxRecDepth 100000 in
theorem iX4 : ∀ w ∈ u_ws RX4 TX4 5, w ∈ x_Tb := x_viaB (B := x_B21) (fun w hw => x_m21 hw) (by decide +kernel)
set_option maxRecDepth 100000 in
theorem iX5 : ∀ w ∈ u_ws RX5 TX5 6, w ∈ x_Tb := x_viaB (B := (x_B15 ++ x_B16)) (List.forall_mem_append.mpr ⟨(fun w hw => x_m15 hw), fun w hw => x_m16 hw⟩) (by decide +kernel)
set_option maxRecDepth 100000 in
theorem iX6 : ∀ w ∈ u_ws RX6 TX6 5, w ∈ x_Tb := x_viaB (B := x_B4) (fun w hw => x_m4 hw) (by decide +kernel)
set_option maxRecDepth 100000 in
theorem iX7 : ∀ w ∈ u_ws RX7 TX7 5, w ∈ x_Tb := x_viaB (B := (x_B10 ++ x_B11)) (List.forall_mem_append.mpr ⟨(fun w hw => x_m10 hw), fun w hw => x_m11 hw⟩) (by decide +kernel)
set_option maxRecDepth 100000 in
theorem iX8 : ∀ w ∈ u_ws RX8 TX8 5, w ∈ x_Tb := x_viaB (B := x_B23) (fun w hw => x_m23 hw) (by decide +kernel)
set_option maxRecDepth 100000 in
theorem iX9 : ∀ w ∈ u_ws RX9 TX9 5, w ∈ x_Tb := x_viaB (B := (x_B23 ++ x_B24)) (List.forall_mem_append.mpr ⟨(fun w hw => x_m23 hw), fun w hw => x_m24 hw⟩) (by decide +kernel)
set_option maxRecDepth 100000 in
theorem iX10 : ∀ w ∈ u_ws RX10 TX10 5, w ∈ x_Tb := x_viaB (B := (x_B20 ++ x_B21)) (List.forall_mem_append.mpr ⟨(fun w hw => x_m20 hw), fun w hw => x_m21 hw⟩) (by decide +kernel)
set_option maxRecDepth 100000 in
theorem iX11 : ∀ w ∈ u_ws RX11 TX11 9, w ∈ x_Tb := x_viaB (B := (x_B17 ++ x_B18)) (List.forall_mem_append.mpr ⟨(fun w hw => x_m17 hw), fun w hw => x_m18 hw⟩) (by decide +kernel)
set_option maxRecDepth 100000 in
theorem iX12 : ∀ w ∈ u_ws RX12 TX12 27, w ∈ x_Tb := x_viaB (B := ((((x_B63 ++ x_B64) ++ x_B65) ++ x_B66) ++ x_B67)) (List.forall_mem_append.mpr ⟨(List.forall_mem_append.mpr ⟨(List.forall_mem_append.mpr ⟨(List.forall_mem_append.mpr ⟨(fun w hw => x_m63 hw), fun w hw => x_m64 hw⟩), fun w hw => x_m65 hw⟩), fun w hw => x_m66 hw⟩), fun w hw => x_m67 hw⟩) (by decide +kernel)

