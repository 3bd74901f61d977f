/-! ===== the law: one case a call ===== -/
def xl_LL : List (Nat × Nat) := [(9, 0), (12, 106), (13, 9), (17, 107), (18, 14), (21, 110), (22, 16), (26, 113), (27, 19), (30, 115), (31, 30), (34, 121), (35, 36), (38, 127), (39, 38), (42, 129), (43, 43), (47, 133), (48, 44), (52, 134), (53, 55), (56, 130), (57, 58), (60, 141), (61, 63), (64, 144), (65, 65), (68, 145), (69, 66), (72, 146), (73, 68), (76, 147), (77, 71), (80, 148), (81, 72), (84, 149), (85, 74), (88, 153), (89, 77), (92, 155), (93, 79), (97, 156), (98, 82), (101, 158), (102, 84), (105, 159), (106, 88), (109, 160), (110, 91), (113, 161), (114, 92), (118, 162), (119, 97), (123, 166), (124, 100), (127, 168), (128, 103), (131, 169), (134, 104), (138, 170), (139, 105), (142, 171)]
abbrev xw_LL (q : Nat × Nat) : Cond := .methodLink R_law q.1 (xm_pr q.2).1
set_option maxRecDepth 100000 in
theorem xo_LL : ∀ w ∈ xl_LL.map xw_LL, w ∈ xm_tb := xm_mem_of [57, 776, 356, 838, 374, 851, 384, 863, 396, 873, 440, 896, 462, 920, 472, 927, 492, 945, 496, 951, 545, 933, 558, 978, 582, 992, 591, 997, 595, 1001, 606, 1009, 619, 1013, 623, 1017, 633, 1033, 645, 1041, 654, 1045, 671, 1054, 681, 1058, 697, 1063, 712, 1067, 716, 1071, 738, 1086, 751, 1094, 762, 1098, 766, 1102, 770, 1106] (by decide +kernel) (by decide +kernel)
def xl_LP : List (Nat × Nat) := [(0, 0), (106, 0), (9, 2), (107, 2), (14, 2), (110, 2), (16, 4), (113, 4), (19, 2), (115, 2), (30, 2), (121, 2), (36, 2), (127, 2), (38, 2), (129, 2), (43, 1), (133, 1), (44, 0), (134, 0), (55, 1), (130, 1), (58, 1), (141, 1), (63, 1), (144, 1), (65, 2), (145, 2), (66, 1), (146, 1), (68, 0), (147, 0), (71, 1), (148, 1), (72, 2), (149, 2), (74, 2), (153, 2), (77, 0), (155, 0), (79, 3), (156, 3), (82, 2), (158, 2), (84, 2), (159, 2), (88, 0), (160, 0), (91, 0), (161, 0), (92, 6), (162, 6), (97, 5), (166, 5), (100, 3), (168, 3), (103, 1), (169, 1), (104, 4), (170, 4), (105, 5), (171, 5)]
theorem xo_LP : ∀ q ∈ xl_LP, (parseMethodDescriptor (xm_pr q.1).1.desc).map (fun d => d.parameters.length) = some q.2 := by decide +kernel
section XL
variable {p : Program} {l : Launch} {e : Env} {s : State} {m : MethodId} {below : List Frame} {meth : Method} {c : Code} {b L : Nat} {xs : Nat → Int32} {D : va_G} {T : xm_T} {Q : State → Prop}
def xKK (p : Program) (l : Launch) (e : Env) (s : State) (m : MethodId) (b : Nat) (below : List Frame) (meth : Method) (c : Code) (Q : State → Prop) (D : va_G) (T : xm_T) (ls : Array Slot) : Prop := ∀ b' I L' H locs, xE b' I L' → xLS s D T (xS b', I, L', xP b') H locs → xLW p l e s m b below meth c Q (xS b', I, L', xP b') H locs (F0 m 1180 ls [])
def xLs (s : State) (b : Nat) (ls : Array Slot) (i : Nat) : Prop := ls.size = 4 ∧ ls[0]? = some (.val (.ref b)) ∧ ls[1]? = some (.val (.ref (s.heap.size + 0))) ∧ ls[2]? = some (.val (.ref (s.heap.size + 60))) ∧ ls[3]? = some (.val (.int (nI i)))
theorem xo_KK : Cond.constantLong R_law 132 4294967295 ∈ xm_tb := xm_mem_of (ws := [Cond.constantLong R_law 132 4294967295]) [1110] (by decide +kernel) (by decide +kernel) _ List.mem_cons_self
theorem xW_lawn {i : Nat} {ls : Array Slot} {b' : Bool} {I : Nat → Nat → Int32} {L' : Nat → Nat → Int64} {H : Heap} {locs : List Loc} (X : xLC p s m c b L xs D T) (S : xLS s D T (xS b', I, L', xP b') H locs) (hE : xE b' I L') (hl : xLs s b ls i) (hi : i + 7 ≤ L) (kk : xKK p l e s m b below meth c Q D T ls) : xLW p l e s m b below meth c Q (xS b', I, L', xP b') H locs (F0 m 168 ls []) := by
  obtain ⟨hsz, h0, h1, h2, h3⟩ := hl
  obtain ⟨r1, z1, c1, v, b1, J, M, rfl, rfl, hm⟩ := xT_lawn (xs (i + 1)) (xs (i + 2)) b' I L' hE
  obtain ⟨r2, z2, c2, rfl, I2, L2, rfl, hE2⟩ := hm
  refine lv_aload_n X.1 X.2.1 xd_168 rfl h1 ?_
  refine xl_rd X S h0 h3 (k := 1) (by omega) (by decide) xr_169 ?_
  refine xl_rd X S h0 h3 (k := 2) (by omega) (by decide) xr_174 ?_
  refine xl_call (as := [.int (xs (i + 1)), .int (xs (i + 2))]) (rest := []) (a0 := 0) (mi := 9) (n := 2) X xd_179 (xm_mem_map xo_LL (a := (13, 9)) (by decide)) (by decide) (by decide) (xo_LP (9, 2) (by decide)) rfl rfl c1 (Nat.le_of_ble_eq_true rfl) (xl_bd _ _ _ _) S hsz ?_
  intro H1 locs1 S1
  refine lv_aload_n X.1 X.2.1 xd_182 rfl h2 ?_
  refine xl_rd X S1 h0 h3 (k := 1) (by omega) (by decide) xr_183 ?_
  refine xl_rd X S1 h0 h3 (k := 2) (by omega) (by decide) xr_188 ?_
  refine xl_call (as := [.int (xs (i + 1)), .int (xs (i + 2))]) (rest := [.int v]) (a0 := 60) (mi := 107) (n := 2) X xd_193 (xm_mem_map xo_LL (a := (17, 107)) (by decide)) (by decide) (by decide) (xo_LP (107, 2) (by decide)) rfl rfl c2 (Nat.le_of_ble_eq_true rfl) (xl_bd _ _ _ _) S1 hsz ?_
  intro H2 locs2 S2
  exact lv_icmp_eq (tgt := 1180) X.1 X.2.1 xd_196 (by decide) (fun _ => kk _ _ _ _ _ hE2 S2) (fun q => absurd rfl q)
theorem xW_soil {i : Nat} {ls : Array Slot} {b' : Bool} {I : Nat → Nat → Int32} {L' : Nat → Nat → Int64} {H : Heap} {locs : List Loc} (X : xLC p s m c b L xs D T) (S : xLS s D T (xS b', I, L', xP b') H locs) (hE : xE b' I L') (hl : xLs s b ls i) (hi : i + 7 ≤ L) (kk : xKK p l e s m b below meth c Q D T ls) : xLW p l e s m b below meth c Q (xS b', I, L', xP b') H locs (F0 m 201 ls []) := by
  obtain ⟨hsz, h0, h1, h2, h3⟩ := hl
  obtain ⟨r1, z1, c1, v, b1, J, M, rfl, rfl, hm⟩ := xT_soil (xs (i + 1)) (xs (i + 2)) b' I L' hE
  obtain ⟨r2, z2, c2, rfl, I2, L2, rfl, hE2⟩ := hm
  refine lv_aload_n X.1 X.2.1 xd_201 rfl h1 ?_
  refine xl_rd X S h0 h3 (k := 1) (by omega) (by decide) xr_202 ?_
  refine xl_rd X S h0 h3 (k := 2) (by omega) (by decide) xr_207 ?_
  refine xl_call (as := [.int (xs (i + 1)), .int (xs (i + 2))]) (rest := []) (a0 := 0) (mi := 14) (n := 2) X xd_212 (xm_mem_map xo_LL (a := (18, 14)) (by decide)) (by decide) (by decide) (xo_LP (14, 2) (by decide)) rfl rfl c1 (Nat.le_of_ble_eq_true rfl) (xl_bd _ _ _ _) S hsz ?_
  intro H1 locs1 S1
  refine lv_aload_n X.1 X.2.1 xd_215 rfl h2 ?_
  refine xl_rd X S1 h0 h3 (k := 1) (by omega) (by decide) xr_216 ?_
  refine xl_rd X S1 h0 h3 (k := 2) (by omega) (by decide) xr_221 ?_
  refine xl_call (as := [.int (xs (i + 1)), .int (xs (i + 2))]) (rest := [.int v]) (a0 := 60) (mi := 110) (n := 2) X xd_226 (xm_mem_map xo_LL (a := (21, 110)) (by decide)) (by decide) (by decide) (xo_LP (110, 2) (by decide)) rfl rfl c2 (Nat.le_of_ble_eq_true rfl) (xl_bd _ _ _ _) S1 hsz ?_
  intro H2 locs2 S2
  exact lv_icmp_eq (tgt := 1180) X.1 X.2.1 xd_229 (by decide) (fun _ => kk _ _ _ _ _ hE2 S2) (fun q => absurd rfl q)
theorem xW_sprinkler {i : Nat} {ls : Array Slot} {b' : Bool} {I : Nat → Nat → Int32} {L' : Nat → Nat → Int64} {H : Heap} {locs : List Loc} (X : xLC p s m c b L xs D T) (S : xLS s D T (xS b', I, L', xP b') H locs) (hE : xE b' I L') (hl : xLs s b ls i) (hi : i + 7 ≤ L) (kk : xKK p l e s m b below meth c Q D T ls) : xLW p l e s m b below meth c Q (xS b', I, L', xP b') H locs (F0 m 234 ls []) := by
  obtain ⟨hsz, h0, h1, h2, h3⟩ := hl
  obtain ⟨r1, z1, c1, v, b1, J, M, rfl, rfl, hm⟩ := xT_sprinkler (xs (i + 1)) (xs (i + 2)) (xs (i + 3)) (xs (i + 4)) b' I L' hE
  obtain ⟨r2, z2, c2, rfl, I2, L2, rfl, hE2⟩ := hm
  refine lv_aload_n X.1 X.2.1 xd_234 rfl h1 ?_
  refine xl_rd X S h0 h3 (k := 1) (by omega) (by decide) xr_235 ?_
  refine xl_rd X S h0 h3 (k := 2) (by omega) (by decide) xr_240 ?_
  refine xl_rd X S h0 h3 (k := 3) (by omega) (by decide) xr_245 ?_
  refine xl_rd X S h0 h3 (k := 4) (by omega) (by decide) xr_250 ?_
  refine xl_call (as := [.int (xs (i + 1)), .int (xs (i + 2)), .int (xs (i + 3)), .int (xs (i + 4))]) (rest := []) (a0 := 0) (mi := 16) (n := 4) X xd_255 (xm_mem_map xo_LL (a := (22, 16)) (by decide)) (by decide) (by decide) (xo_LP (16, 4) (by decide)) rfl rfl c1 (Nat.le_of_ble_eq_true rfl) (xl_bd _ _ _ _) S hsz ?_
  intro H1 locs1 S1
  refine lv_aload_n X.1 X.2.1 xd_258 rfl h2 ?_
  refine xl_rd X S1 h0 h3 (k := 1) (by omega) (by decide) xr_259 ?_
  refine xl_rd X S1 h0 h3 (k := 2) (by omega) (by decide) xr_264 ?_
  refine xl_rd X S1 h0 h3 (k := 3) (by omega) (by decide) xr_269 ?_
  refine xl_rd X S1 h0 h3 (k := 4) (by omega) (by decide) xr_274 ?_
  refine xl_call (as := [.int (xs (i + 1)), .int (xs (i + 2)), .int (xs (i + 3)), .int (xs (i + 4))]) (rest := [.int v]) (a0 := 60) (mi := 113) (n := 4) X xd_279 (xm_mem_map xo_LL (a := (26, 113)) (by decide)) (by decide) (by decide) (xo_LP (113, 4) (by decide)) rfl rfl c2 (Nat.le_of_ble_eq_true rfl) (xl_bd _ _ _ _) S1 hsz ?_
  intro H2 locs2 S2
  exact lv_icmp_eq (tgt := 1180) X.1 X.2.1 xd_282 (by decide) (fun _ => kk _ _ _ _ _ hE2 S2) (fun q => absurd rfl q)
theorem xW_of {i : Nat} {ls : Array Slot} {b' : Bool} {I : Nat → Nat → Int32} {L' : Nat → Nat → Int64} {H : Heap} {locs : List Loc} (X : xLC p s m c b L xs D T) (S : xLS s D T (xS b', I, L', xP b') H locs) (hE : xE b' I L') (hl : xLs s b ls i) (hi : i + 7 ≤ L) (kk : xKK p l e s m b below meth c Q D T ls) : xLW p l e s m b below meth c Q (xS b', I, L', xP b') H locs (F0 m 287 ls []) := by
  obtain ⟨hsz, h0, h1, h2, h3⟩ := hl
  obtain ⟨r1, z1, c1, v, b1, J, M, rfl, rfl, hm⟩ := xT_of (xs (i + 1)) (xs (i + 2)) b' I L' hE
  obtain ⟨r2, z2, c2, rfl, I2, L2, rfl, hE2⟩ := hm
  refine lv_aload_n X.1 X.2.1 xd_287 rfl h1 ?_
  refine xl_rd X S h0 h3 (k := 1) (by omega) (by decide) xr_288 ?_
  refine xl_rd X S h0 h3 (k := 2) (by omega) (by decide) xr_293 ?_
  refine xl_call (as := [.int (xs (i + 1)), .int (xs (i + 2))]) (rest := []) (a0 := 0) (mi := 19) (n := 2) X xd_298 (xm_mem_map xo_LL (a := (27, 19)) (by decide)) (by decide) (by decide) (xo_LP (19, 2) (by decide)) rfl rfl c1 (Nat.le_of_ble_eq_true rfl) (xl_bd _ _ _ _) S hsz ?_
  intro H1 locs1 S1
  refine lv_aload_n X.1 X.2.1 xd_301 rfl h2 ?_
  refine xl_rd X S1 h0 h3 (k := 1) (by omega) (by decide) xr_302 ?_
  refine xl_rd X S1 h0 h3 (k := 2) (by omega) (by decide) xr_307 ?_
  refine xl_call (as := [.int (xs (i + 1)), .int (xs (i + 2))]) (rest := [.int v]) (a0 := 60) (mi := 115) (n := 2) X xd_312 (xm_mem_map xo_LL (a := (30, 115)) (by decide)) (by decide) (by decide) (xo_LP (115, 2) (by decide)) rfl rfl c2 (Nat.le_of_ble_eq_true rfl) (xl_bd _ _ _ _) S1 hsz ?_
  intro H2 locs2 S2
  exact lv_icmp_eq (tgt := 1180) X.1 X.2.1 xd_315 (by decide) (fun _ => kk _ _ _ _ _ hE2 S2) (fun q => absurd rfl q)
theorem xW_cell {i : Nat} {ls : Array Slot} {b' : Bool} {I : Nat → Nat → Int32} {L' : Nat → Nat → Int64} {H : Heap} {locs : List Loc} (X : xLC p s m c b L xs D T) (S : xLS s D T (xS b', I, L', xP b') H locs) (hE : xE b' I L') (hl : xLs s b ls i) (hi : i + 7 ≤ L) (kk : xKK p l e s m b below meth c Q D T ls) : xLW p l e s m b below meth c Q (xS b', I, L', xP b') H locs (F0 m 320 ls []) := by
  obtain ⟨hsz, h0, h1, h2, h3⟩ := hl
  obtain ⟨r1, z1, c1, v, b1, J, M, rfl, rfl, hm⟩ := xT_cell (xs (i + 1)) (xs (i + 2)) b' I L' hE
  obtain ⟨r2, z2, c2, rfl, I2, L2, rfl, hE2⟩ := hm
  refine lv_aload_n X.1 X.2.1 xd_320 rfl h1 ?_
  refine xl_rd X S h0 h3 (k := 1) (by omega) (by decide) xr_321 ?_
  refine xl_rd X S h0 h3 (k := 2) (by omega) (by decide) xr_326 ?_
  refine xl_call (as := [.int (xs (i + 1)), .int (xs (i + 2))]) (rest := []) (a0 := 0) (mi := 30) (n := 2) X xd_331 (xm_mem_map xo_LL (a := (31, 30)) (by decide)) (by decide) (by decide) (xo_LP (30, 2) (by decide)) rfl rfl c1 (Nat.le_of_ble_eq_true rfl) (xl_bd _ _ _ _) S hsz ?_
  intro H1 locs1 S1
  refine lv_aload_n X.1 X.2.1 xd_334 rfl h2 ?_
  refine xl_rd X S1 h0 h3 (k := 1) (by omega) (by decide) xr_335 ?_
  refine xl_rd X S1 h0 h3 (k := 2) (by omega) (by decide) xr_340 ?_
  refine xl_call (as := [.int (xs (i + 1)), .int (xs (i + 2))]) (rest := [.int v]) (a0 := 60) (mi := 121) (n := 2) X xd_345 (xm_mem_map xo_LL (a := (34, 121)) (by decide)) (by decide) (by decide) (xo_LP (121, 2) (by decide)) rfl rfl c2 (Nat.le_of_ble_eq_true rfl) (xl_bd _ _ _ _) S1 hsz ?_
  intro H2 locs2 S2
  exact lv_icmp_eq (tgt := 1180) X.1 X.2.1 xd_348 (by decide) (fun _ => kk _ _ _ _ _ hE2 S2) (fun q => absurd rfl q)
theorem xW_turn {i : Nat} {ls : Array Slot} {b' : Bool} {I : Nat → Nat → Int32} {L' : Nat → Nat → Int64} {H : Heap} {locs : List Loc} (X : xLC p s m c b L xs D T) (S : xLS s D T (xS b', I, L', xP b') H locs) (hE : xE b' I L') (hl : xLs s b ls i) (hi : i + 7 ≤ L) (kk : xKK p l e s m b below meth c Q D T ls) : xLW p l e s m b below meth c Q (xS b', I, L', xP b') H locs (F0 m 353 ls []) := by
  obtain ⟨hsz, h0, h1, h2, h3⟩ := hl
  obtain ⟨r1, z1, c1, v, b1, J, M, rfl, rfl, hm⟩ := xT_turn (xs (i + 1)) (xs (i + 2)) b' I L' hE
  obtain ⟨r2, z2, c2, rfl, I2, L2, rfl, hE2⟩ := hm
  refine lv_aload_n X.1 X.2.1 xd_353 rfl h1 ?_
  refine xl_rd X S h0 h3 (k := 1) (by omega) (by decide) xr_354 ?_
  refine xl_rd X S h0 h3 (k := 2) (by omega) (by decide) xr_359 ?_
  refine xl_call (as := [.int (xs (i + 1)), .int (xs (i + 2))]) (rest := []) (a0 := 0) (mi := 36) (n := 2) X xd_364 (xm_mem_map xo_LL (a := (35, 36)) (by decide)) (by decide) (by decide) (xo_LP (36, 2) (by decide)) rfl rfl c1 (Nat.le_of_ble_eq_true rfl) (xl_bd _ _ _ _) S hsz ?_
  intro H1 locs1 S1
  refine lv_aload_n X.1 X.2.1 xd_367 rfl h2 ?_
  refine xl_rd X S1 h0 h3 (k := 1) (by omega) (by decide) xr_368 ?_
  refine xl_rd X S1 h0 h3 (k := 2) (by omega) (by decide) xr_373 ?_
  refine xl_call (as := [.int (xs (i + 1)), .int (xs (i + 2))]) (rest := [.int v]) (a0 := 60) (mi := 127) (n := 2) X xd_378 (xm_mem_map xo_LL (a := (38, 127)) (by decide)) (by decide) (by decide) (xo_LP (127, 2) (by decide)) rfl rfl c2 (Nat.le_of_ble_eq_true rfl) (xl_bd _ _ _ _) S1 hsz ?_
  intro H2 locs2 S2
  exact lv_icmp_eq (tgt := 1180) X.1 X.2.1 xd_381 (by decide) (fun _ => kk _ _ _ _ _ hE2 S2) (fun q => absurd rfl q)
theorem xW_rule {i : Nat} {ls : Array Slot} {b' : Bool} {I : Nat → Nat → Int32} {L' : Nat → Nat → Int64} {H : Heap} {locs : List Loc} (X : xLC p s m c b L xs D T) (S : xLS s D T (xS b', I, L', xP b') H locs) (hE : xE b' I L') (hl : xLs s b ls i) (hi : i + 7 ≤ L) (kk : xKK p l e s m b below meth c Q D T ls) : xLW p l e s m b below meth c Q (xS b', I, L', xP b') H locs (F0 m 386 ls []) := by
  obtain ⟨hsz, h0, h1, h2, h3⟩ := hl
  obtain ⟨r1, z1, c1, v, b1, J, M, rfl, rfl, hm⟩ := xT_rule (xs (i + 1)) (xs (i + 2)) b' I L' hE
  obtain ⟨r2, z2, c2, rfl, I2, L2, rfl, hE2⟩ := hm
  refine lv_aload_n X.1 X.2.1 xd_386 rfl h1 ?_
  refine xl_rd X S h0 h3 (k := 1) (by omega) (by decide) xr_387 ?_
  refine xl_rd X S h0 h3 (k := 2) (by omega) (by decide) xr_392 ?_
  refine xl_call (as := [.int (xs (i + 1)), .int (xs (i + 2))]) (rest := []) (a0 := 0) (mi := 38) (n := 2) X xd_397 (xm_mem_map xo_LL (a := (39, 38)) (by decide)) (by decide) (by decide) (xo_LP (38, 2) (by decide)) rfl rfl c1 (Nat.le_of_ble_eq_true rfl) (xl_bd _ _ _ _) S hsz ?_
  intro H1 locs1 S1
  refine lv_aload_n X.1 X.2.1 xd_400 rfl h2 ?_
  refine xl_rd X S1 h0 h3 (k := 1) (by omega) (by decide) xr_401 ?_
  refine xl_rd X S1 h0 h3 (k := 2) (by omega) (by decide) xr_406 ?_
  refine xl_call (as := [.int (xs (i + 1)), .int (xs (i + 2))]) (rest := [.int v]) (a0 := 60) (mi := 129) (n := 2) X xd_411 (xm_mem_map xo_LL (a := (42, 129)) (by decide)) (by decide) (by decide) (xo_LP (129, 2) (by decide)) rfl rfl c2 (Nat.le_of_ble_eq_true rfl) (xl_bd _ _ _ _) S1 hsz ?_
  intro H2 locs2 S2
  exact lv_icmp_eq (tgt := 1180) X.1 X.2.1 xd_414 (by decide) (fun _ => kk _ _ _ _ _ hE2 S2) (fun q => absurd rfl q)
theorem xW_type {i : Nat} {ls : Array Slot} {b' : Bool} {I : Nat → Nat → Int32} {L' : Nat → Nat → Int64} {H : Heap} {locs : List Loc} (X : xLC p s m c b L xs D T) (S : xLS s D T (xS b', I, L', xP b') H locs) (hE : xE b' I L') (hl : xLs s b ls i) (hi : i + 7 ≤ L) (kk : xKK p l e s m b below meth c Q D T ls) : xLW p l e s m b below meth c Q (xS b', I, L', xP b') H locs (F0 m 419 ls []) := by
  obtain ⟨hsz, h0, h1, h2, h3⟩ := hl
  obtain ⟨r1, z1, c1, v, b1, J, M, rfl, rfl, hm⟩ := xT_type (xs (i + 1)) b' I L' hE
  obtain ⟨r2, z2, c2, rfl, I2, L2, rfl, hE2⟩ := hm
  refine lv_aload_n X.1 X.2.1 xd_419 rfl h1 ?_
  refine xl_rd X S h0 h3 (k := 1) (by omega) (by decide) xr_420 ?_
  refine xl_call (as := [.int (xs (i + 1))]) (rest := []) (a0 := 0) (mi := 43) (n := 1) X xd_425 (xm_mem_map xo_LL (a := (43, 43)) (by decide)) (by decide) (by decide) (xo_LP (43, 1) (by decide)) rfl rfl c1 (Nat.le_of_ble_eq_true rfl) (xl_bd _ _ _ _) S hsz ?_
  intro H1 locs1 S1
  refine lv_aload_n X.1 X.2.1 xd_428 rfl h2 ?_
  refine xl_rd X S1 h0 h3 (k := 1) (by omega) (by decide) xr_429 ?_
  refine xl_call (as := [.int (xs (i + 1))]) (rest := [.int v]) (a0 := 60) (mi := 133) (n := 1) X xd_434 (xm_mem_map xo_LL (a := (47, 133)) (by decide)) (by decide) (by decide) (xo_LP (133, 1) (by decide)) rfl rfl c2 (Nat.le_of_ble_eq_true rfl) (xl_bd _ _ _ _) S1 hsz ?_
  intro H2 locs2 S2
  exact lv_icmp_eq (tgt := 1180) X.1 X.2.1 xd_437 (by decide) (fun _ => kk _ _ _ _ _ hE2 S2) (fun q => absurd rfl q)
theorem xW_garden {i : Nat} {ls : Array Slot} {b' : Bool} {I : Nat → Nat → Int32} {L' : Nat → Nat → Int64} {H : Heap} {locs : List Loc} (X : xLC p s m c b L xs D T) (S : xLS s D T (xS b', I, L', xP b') H locs) (hE : xE b' I L') (hl : xLs s b ls i) (hi : i + 7 ≤ L) (kk : xKK p l e s m b below meth c Q D T ls) : xLW p l e s m b below meth c Q (xS b', I, L', xP b') H locs (F0 m 442 ls []) := by
  obtain ⟨hsz, h0, h1, h2, h3⟩ := hl
  obtain ⟨r1, z1, c1, v, b1, J, M, rfl, rfl, hm⟩ := xT_garden b' I L' hE
  obtain ⟨r2, z2, c2, rfl, I2, L2, rfl, hE2⟩ := hm
  refine lv_aload_n X.1 X.2.1 xd_442 rfl h1 ?_
  refine xl_call (as := []) (rest := []) (a0 := 0) (mi := 44) (n := 0) X xd_443 (xm_mem_map xo_LL (a := (48, 44)) (by decide)) (by decide) (by decide) (xo_LP (44, 0) (by decide)) rfl rfl c1 (Nat.le_of_ble_eq_true rfl) (xl_bd _ _ _ _) S hsz ?_
  intro H1 locs1 S1
  refine lv_aload_n X.1 X.2.1 xd_446 rfl h2 ?_
  refine xl_call (as := []) (rest := [.int v]) (a0 := 60) (mi := 134) (n := 0) X xd_447 (xm_mem_map xo_LL (a := (52, 134)) (by decide)) (by decide) (by decide) (xo_LP (134, 0) (by decide)) rfl rfl c2 (Nat.le_of_ble_eq_true rfl) (xl_bd _ _ _ _) S1 hsz ?_
  intro H2 locs2 S2
  exact lv_icmp_eq (tgt := 1180) X.1 X.2.1 xd_450 (by decide) (fun _ => kk _ _ _ _ _ hE2 S2) (fun q => absurd rfl q)
theorem xW_count {i : Nat} {ls : Array Slot} {b' : Bool} {I : Nat → Nat → Int32} {L' : Nat → Nat → Int64} {H : Heap} {locs : List Loc} (X : xLC p s m c b L xs D T) (S : xLS s D T (xS b', I, L', xP b') H locs) (hE : xE b' I L') (hl : xLs s b ls i) (hi : i + 7 ≤ L) (kk : xKK p l e s m b below meth c Q D T ls) : xLW p l e s m b below meth c Q (xS b', I, L', xP b') H locs (F0 m 455 ls []) := by
  obtain ⟨hsz, h0, h1, h2, h3⟩ := hl
  obtain ⟨r1, z1, c1, v, b1, J, M, rfl, rfl, hm⟩ := xT_count (xs (i + 1)) b' I L' hE
  obtain ⟨r2, z2, c2, rfl, I2, L2, rfl, hE2⟩ := hm
  refine lv_aload_n X.1 X.2.1 xd_455 rfl h1 ?_
  refine xl_rd X S h0 h3 (k := 1) (by omega) (by decide) xr_456 ?_
  refine xl_call (as := [.int (xs (i + 1))]) (rest := []) (a0 := 0) (mi := 55) (n := 1) X xd_461 (xm_mem_map xo_LL (a := (53, 55)) (by decide)) (by decide) (by decide) (xo_LP (55, 1) (by decide)) rfl rfl c1 (Nat.le_of_ble_eq_true rfl) (xl_bd _ _ _ _) S hsz ?_
  intro H1 locs1 S1
  refine lv_aload_n X.1 X.2.1 xd_464 rfl h2 ?_
  refine xl_rd X S1 h0 h3 (k := 1) (by omega) (by decide) xr_465 ?_
  refine xl_call (as := [.int (xs (i + 1))]) (rest := [.int v]) (a0 := 60) (mi := 130) (n := 1) X xd_470 (xm_mem_map xo_LL (a := (56, 130)) (by decide)) (by decide) (by decide) (xo_LP (130, 1) (by decide)) rfl rfl c2 (Nat.le_of_ble_eq_true rfl) (xl_bd _ _ _ _) S1 hsz ?_
  intro H2 locs2 S2
  exact lv_icmp_eq (tgt := 1180) X.1 X.2.1 xd_473 (by decide) (fun _ => kk _ _ _ _ _ hE2 S2) (fun q => absurd rfl q)
theorem xW_minutes {i : Nat} {ls : Array Slot} {b' : Bool} {I : Nat → Nat → Int32} {L' : Nat → Nat → Int64} {H : Heap} {locs : List Loc} (X : xLC p s m c b L xs D T) (S : xLS s D T (xS b', I, L', xP b') H locs) (hE : xE b' I L') (hl : xLs s b ls i) (hi : i + 7 ≤ L) (kk : xKK p l e s m b below meth c Q D T ls) : xLW p l e s m b below meth c Q (xS b', I, L', xP b') H locs (F0 m 478 ls []) := by
  obtain ⟨hsz, h0, h1, h2, h3⟩ := hl
  obtain ⟨r1, z1, c1, v, b1, J, M, rfl, rfl, hm⟩ := xT_minutes (xs (i + 1)) b' I L' hE
  obtain ⟨r2, z2, c2, rfl, I2, L2, rfl, hE2⟩ := hm
  refine lv_aload_n X.1 X.2.1 xd_478 rfl h1 ?_
  refine xl_rd X S h0 h3 (k := 1) (by omega) (by decide) xr_479 ?_
  refine xl_call (as := [.int (xs (i + 1))]) (rest := []) (a0 := 0) (mi := 58) (n := 1) X xd_484 (xm_mem_map xo_LL (a := (57, 58)) (by decide)) (by decide) (by decide) (xo_LP (58, 1) (by decide)) rfl rfl c1 (Nat.le_of_ble_eq_true rfl) (xl_bd _ _ _ _) S hsz ?_
  intro H1 locs1 S1
  refine lv_aload_n X.1 X.2.1 xd_487 rfl h2 ?_
  refine xl_rd X S1 h0 h3 (k := 1) (by omega) (by decide) xr_488 ?_
  refine xl_call (as := [.int (xs (i + 1))]) (rest := [.int v]) (a0 := 60) (mi := 141) (n := 1) X xd_493 (xm_mem_map xo_LL (a := (60, 141)) (by decide)) (by decide) (by decide) (xo_LP (141, 1) (by decide)) rfl rfl c2 (Nat.le_of_ble_eq_true rfl) (xl_bd _ _ _ _) S1 hsz ?_
  intro H2 locs2 S2
  exact lv_icmp_eq (tgt := 1180) X.1 X.2.1 xd_496 (by decide) (fun _ => kk _ _ _ _ _ hE2 S2) (fun q => absurd rfl q)
theorem xW_sun {i : Nat} {ls : Array Slot} {b' : Bool} {I : Nat → Nat → Int32} {L' : Nat → Nat → Int64} {H : Heap} {locs : List Loc} (X : xLC p s m c b L xs D T) (S : xLS s D T (xS b', I, L', xP b') H locs) (hE : xE b' I L') (hl : xLs s b ls i) (hi : i + 7 ≤ L) (kk : xKK p l e s m b below meth c Q D T ls) : xLW p l e s m b below meth c Q (xS b', I, L', xP b') H locs (F0 m 501 ls []) := by
  obtain ⟨hsz, h0, h1, h2, h3⟩ := hl
  obtain ⟨r1, z1, c1, v, b1, J, M, rfl, rfl, hm⟩ := xT_sun (xs (i + 1)) b' I L' hE
  obtain ⟨r2, z2, c2, rfl, I2, L2, rfl, hE2⟩ := hm
  refine lv_aload_n X.1 X.2.1 xd_501 rfl h1 ?_
  refine xl_rd X S h0 h3 (k := 1) (by omega) (by decide) xr_502 ?_
  refine xl_call (as := [.int (xs (i + 1))]) (rest := []) (a0 := 0) (mi := 63) (n := 1) X xd_507 (xm_mem_map xo_LL (a := (61, 63)) (by decide)) (by decide) (by decide) (xo_LP (63, 1) (by decide)) rfl rfl c1 (Nat.le_of_ble_eq_true rfl) (xl_bd _ _ _ _) S hsz ?_
  intro H1 locs1 S1
  refine lv_aload_n X.1 X.2.1 xd_510 rfl h2 ?_
  refine xl_rd X S1 h0 h3 (k := 1) (by omega) (by decide) xr_511 ?_
  refine xl_call (as := [.int (xs (i + 1))]) (rest := [.int v]) (a0 := 60) (mi := 144) (n := 1) X xd_516 (xm_mem_map xo_LL (a := (64, 144)) (by decide)) (by decide) (by decide) (xo_LP (144, 1) (by decide)) rfl rfl c2 (Nat.le_of_ble_eq_true rfl) (xl_bd _ _ _ _) S1 hsz ?_
  intro H2 locs2 S2
  exact lv_icmp_eq (tgt := 1180) X.1 X.2.1 xd_519 (by decide) (fun _ => kk _ _ _ _ _ hE2 S2) (fun q => absurd rfl q)
theorem xW_move {i : Nat} {ls : Array Slot} {b' : Bool} {I : Nat → Nat → Int32} {L' : Nat → Nat → Int64} {H : Heap} {locs : List Loc} (X : xLC p s m c b L xs D T) (S : xLS s D T (xS b', I, L', xP b') H locs) (hE : xE b' I L') (hl : xLs s b ls i) (hi : i + 7 ≤ L) (kk : xKK p l e s m b below meth c Q D T ls) : xLW p l e s m b below meth c Q (xS b', I, L', xP b') H locs (F0 m 524 ls []) := by
  obtain ⟨hsz, h0, h1, h2, h3⟩ := hl
  obtain ⟨r1, z1, c1, v, b1, J, M, rfl, rfl, hm⟩ := xT_move (xs (i + 1)) (xs (i + 2)) b' I L' hE
  obtain ⟨r2, z2, c2, rfl, I2, L2, rfl, hE2⟩ := hm
  refine lv_aload_n X.1 X.2.1 xd_524 rfl h1 ?_
  refine xl_rd X S h0 h3 (k := 1) (by omega) (by decide) xr_525 ?_
  refine xl_rd X S h0 h3 (k := 2) (by omega) (by decide) xr_530 ?_
  refine xl_call (as := [.int (xs (i + 1)), .int (xs (i + 2))]) (rest := []) (a0 := 0) (mi := 65) (n := 2) X xd_535 (xm_mem_map xo_LL (a := (65, 65)) (by decide)) (by decide) (by decide) (xo_LP (65, 2) (by decide)) rfl rfl c1 (Nat.le_of_ble_eq_true rfl) (xl_bd _ _ _ _) S hsz ?_
  intro H1 locs1 S1
  refine lv_aload_n X.1 X.2.1 xd_538 rfl h2 ?_
  refine xl_rd X S1 h0 h3 (k := 1) (by omega) (by decide) xr_539 ?_
  refine xl_rd X S1 h0 h3 (k := 2) (by omega) (by decide) xr_544 ?_
  refine xl_call (as := [.int (xs (i + 1)), .int (xs (i + 2))]) (rest := [.int v]) (a0 := 60) (mi := 145) (n := 2) X xd_549 (xm_mem_map xo_LL (a := (68, 145)) (by decide)) (by decide) (by decide) (xo_LP (145, 2) (by decide)) rfl rfl c2 (Nat.le_of_ble_eq_true rfl) (xl_bd _ _ _ _) S1 hsz ?_
  intro H2 locs2 S2
  exact lv_icmp_eq (tgt := 1180) X.1 X.2.1 xd_552 (by decide) (fun _ => kk _ _ _ _ _ hE2 S2) (fun q => absurd rfl q)
theorem xW_drift {i : Nat} {ls : Array Slot} {b' : Bool} {I : Nat → Nat → Int32} {L' : Nat → Nat → Int64} {H : Heap} {locs : List Loc} (X : xLC p s m c b L xs D T) (S : xLS s D T (xS b', I, L', xP b') H locs) (hE : xE b' I L') (hl : xLs s b ls i) (hi : i + 7 ≤ L) (kk : xKK p l e s m b below meth c Q D T ls) : xLW p l e s m b below meth c Q (xS b', I, L', xP b') H locs (F0 m 557 ls []) := by
  obtain ⟨hsz, h0, h1, h2, h3⟩ := hl
  obtain ⟨r1, z1, c1, v, b1, J, M, rfl, rfl, hm⟩ := xT_drift (xs (i + 1)) b' I L' hE
  obtain ⟨r2, z2, c2, rfl, I2, L2, rfl, hE2⟩ := hm
  refine lv_aload_n X.1 X.2.1 xd_557 rfl h1 ?_
  refine xl_rd X S h0 h3 (k := 1) (by omega) (by decide) xr_558 ?_
  refine xl_call (as := [.int (xs (i + 1))]) (rest := []) (a0 := 0) (mi := 66) (n := 1) X xd_563 (xm_mem_map xo_LL (a := (69, 66)) (by decide)) (by decide) (by decide) (xo_LP (66, 1) (by decide)) rfl rfl c1 (Nat.le_of_ble_eq_true rfl) (xl_bd _ _ _ _) S hsz ?_
  intro H1 locs1 S1
  refine lv_aload_n X.1 X.2.1 xd_566 rfl h2 ?_
  refine xl_rd X S1 h0 h3 (k := 1) (by omega) (by decide) xr_567 ?_
  refine xl_call (as := [.int (xs (i + 1))]) (rest := [.int v]) (a0 := 60) (mi := 146) (n := 1) X xd_572 (xm_mem_map xo_LL (a := (72, 146)) (by decide)) (by decide) (by decide) (xo_LP (146, 1) (by decide)) rfl rfl c2 (Nat.le_of_ble_eq_true rfl) (xl_bd _ _ _ _) S1 hsz ?_
  intro H2 locs2 S2
  exact lv_icmp_eq (tgt := 1180) X.1 X.2.1 xd_575 (by decide) (fun _ => kk _ _ _ _ _ hE2 S2) (fun q => absurd rfl q)
theorem xW_undo {i : Nat} {ls : Array Slot} {b' : Bool} {I : Nat → Nat → Int32} {L' : Nat → Nat → Int64} {H : Heap} {locs : List Loc} (X : xLC p s m c b L xs D T) (S : xLS s D T (xS b', I, L', xP b') H locs) (hE : xE b' I L') (hl : xLs s b ls i) (hi : i + 7 ≤ L) (kk : xKK p l e s m b below meth c Q D T ls) : xLW p l e s m b below meth c Q (xS b', I, L', xP b') H locs (F0 m 580 ls []) := by
  obtain ⟨hsz, h0, h1, h2, h3⟩ := hl
  obtain ⟨r1, z1, c1, v, b1, J, M, rfl, rfl, hm⟩ := xT_undo b' I L' hE
  obtain ⟨r2, z2, c2, rfl, I2, L2, rfl, hE2⟩ := hm
  refine lv_aload_n X.1 X.2.1 xd_580 rfl h1 ?_
  refine xl_call (as := []) (rest := []) (a0 := 0) (mi := 68) (n := 0) X xd_581 (xm_mem_map xo_LL (a := (73, 68)) (by decide)) (by decide) (by decide) (xo_LP (68, 0) (by decide)) rfl rfl c1 (Nat.le_of_ble_eq_true rfl) (xl_bd _ _ _ _) S hsz ?_
  intro H1 locs1 S1
  refine lv_aload_n X.1 X.2.1 xd_584 rfl h2 ?_
  refine xl_call (as := []) (rest := [.int v]) (a0 := 60) (mi := 147) (n := 0) X xd_585 (xm_mem_map xo_LL (a := (76, 147)) (by decide)) (by decide) (by decide) (xo_LP (147, 0) (by decide)) rfl rfl c2 (Nat.le_of_ble_eq_true rfl) (xl_bd _ _ _ _) S1 hsz ?_
  intro H2 locs2 S2
  exact lv_icmp_eq (tgt := 1180) X.1 X.2.1 xd_588 (by decide) (fun _ => kk _ _ _ _ _ hE2 S2) (fun q => absurd rfl q)
theorem xW_seed {i : Nat} {ls : Array Slot} {b' : Bool} {I : Nat → Nat → Int32} {L' : Nat → Nat → Int64} {H : Heap} {locs : List Loc} (X : xLC p s m c b L xs D T) (S : xLS s D T (xS b', I, L', xP b') H locs) (hE : xE b' I L') (hl : xLs s b ls i) (hi : i + 7 ≤ L) (kk : xKK p l e s m b below meth c Q D T ls) : xLW p l e s m b below meth c Q (xS b', I, L', xP b') H locs (F0 m 593 ls []) := by
  obtain ⟨hsz, h0, h1, h2, h3⟩ := hl
  obtain ⟨r1, z1, c1, v, b1, J, M, rfl, rfl, hm⟩ := xT_seed (xs (i + 1)) b' I L' hE
  obtain ⟨r2, z2, c2, rfl, I2, L2, rfl, hE2⟩ := hm
  refine lv_aload_n X.1 X.2.1 xd_593 rfl h1 ?_
  refine xl_rd X S h0 h3 (k := 1) (by omega) (by decide) xr_594 ?_
  refine xl_call (as := [.int (xs (i + 1))]) (rest := []) (a0 := 0) (mi := 71) (n := 1) X xd_599 (xm_mem_map xo_LL (a := (77, 71)) (by decide)) (by decide) (by decide) (xo_LP (71, 1) (by decide)) rfl rfl c1 (Nat.le_of_ble_eq_true rfl) (xl_bd _ _ _ _) S hsz ?_
  intro H1 locs1 S1
  refine lv_aload_n X.1 X.2.1 xd_602 rfl h2 ?_
  refine xl_rd X S1 h0 h3 (k := 1) (by omega) (by decide) xr_603 ?_
  refine xl_call (as := [.int (xs (i + 1))]) (rest := [.int v]) (a0 := 60) (mi := 148) (n := 1) X xd_608 (xm_mem_map xo_LL (a := (80, 148)) (by decide)) (by decide) (by decide) (xo_LP (148, 1) (by decide)) rfl rfl c2 (Nat.le_of_ble_eq_true rfl) (xl_bd _ _ _ _) S1 hsz ?_
  intro H2 locs2 S2
  exact lv_icmp_eq (tgt := 1180) X.1 X.2.1 xd_611 (by decide) (fun _ => kk _ _ _ _ _ hE2 S2) (fun q => absurd rfl q)
theorem xW_ahead {i : Nat} {ls : Array Slot} {b' : Bool} {I : Nat → Nat → Int32} {L' : Nat → Nat → Int64} {H : Heap} {locs : List Loc} (X : xLC p s m c b L xs D T) (S : xLS s D T (xS b', I, L', xP b') H locs) (hE : xE b' I L') (hl : xLs s b ls i) (hi : i + 7 ≤ L) (kk : xKK p l e s m b below meth c Q D T ls) : xLW p l e s m b below meth c Q (xS b', I, L', xP b') H locs (F0 m 616 ls []) := by
  obtain ⟨hsz, h0, h1, h2, h3⟩ := hl
  obtain ⟨r1, z1, c1, v, b1, J, M, rfl, rfl, hm⟩ := xT_ahead (xs (i + 1)) (xs (i + 2)) b' I L' hE
  obtain ⟨r2, z2, c2, rfl, I2, L2, rfl, hE2⟩ := hm
  refine lv_aload_n X.1 X.2.1 xd_616 rfl h1 ?_
  refine xl_rd X S h0 h3 (k := 1) (by omega) (by decide) xr_617 ?_
  refine xl_rd X S h0 h3 (k := 2) (by omega) (by decide) xr_622 ?_
  refine xl_call (as := [.int (xs (i + 1)), .int (xs (i + 2))]) (rest := []) (a0 := 0) (mi := 72) (n := 2) X xd_627 (xm_mem_map xo_LL (a := (81, 72)) (by decide)) (by decide) (by decide) (xo_LP (72, 2) (by decide)) rfl rfl c1 (Nat.le_of_ble_eq_true rfl) (xl_bd _ _ _ _) S hsz ?_
  intro H1 locs1 S1
  refine lv_aload_n X.1 X.2.1 xd_630 rfl h2 ?_
  refine xl_rd X S1 h0 h3 (k := 1) (by omega) (by decide) xr_631 ?_
  refine xl_rd X S1 h0 h3 (k := 2) (by omega) (by decide) xr_636 ?_
  refine xl_call (as := [.int (xs (i + 1)), .int (xs (i + 2))]) (rest := [.int v]) (a0 := 60) (mi := 149) (n := 2) X xd_641 (xm_mem_map xo_LL (a := (84, 149)) (by decide)) (by decide) (by decide) (xo_LP (149, 2) (by decide)) rfl rfl c2 (Nat.le_of_ble_eq_true rfl) (xl_bd _ _ _ _) S1 hsz ?_
  intro H2 locs2 S2
  exact lv_icmp_eq (tgt := 1180) X.1 X.2.1 xd_644 (by decide) (fun _ => kk _ _ _ _ _ hE2 S2) (fun q => absurd rfl q)
theorem xW_wrongs {i : Nat} {ls : Array Slot} {b' : Bool} {I : Nat → Nat → Int32} {L' : Nat → Nat → Int64} {H : Heap} {locs : List Loc} (X : xLC p s m c b L xs D T) (S : xLS s D T (xS b', I, L', xP b') H locs) (hE : xE b' I L') (hl : xLs s b ls i) (hi : i + 7 ≤ L) (kk : xKK p l e s m b below meth c Q D T ls) : xLW p l e s m b below meth c Q (xS b', I, L', xP b') H locs (F0 m 649 ls []) := by
  obtain ⟨hsz, h0, h1, h2, h3⟩ := hl
  obtain ⟨r1, z1, c1, v, b1, J, M, rfl, rfl, hm⟩ := xT_wrongs (xs (i + 1)) (xs (i + 2)) b' I L' hE
  obtain ⟨r2, z2, c2, rfl, I2, L2, rfl, hE2⟩ := hm
  refine lv_aload_n X.1 X.2.1 xd_649 rfl h1 ?_
  refine xl_rd X S h0 h3 (k := 1) (by omega) (by decide) xr_650 ?_
  refine xl_rd X S h0 h3 (k := 2) (by omega) (by decide) xr_655 ?_
  refine xl_call (as := [.int (xs (i + 1)), .int (xs (i + 2))]) (rest := []) (a0 := 0) (mi := 74) (n := 2) X xd_660 (xm_mem_map xo_LL (a := (85, 74)) (by decide)) (by decide) (by decide) (xo_LP (74, 2) (by decide)) rfl rfl c1 (Nat.le_of_ble_eq_true rfl) (xl_bd _ _ _ _) S hsz ?_
  intro H1 locs1 S1
  refine lv_aload_n X.1 X.2.1 xd_663 rfl h2 ?_
  refine xl_rd X S1 h0 h3 (k := 1) (by omega) (by decide) xr_664 ?_
  refine xl_rd X S1 h0 h3 (k := 2) (by omega) (by decide) xr_669 ?_
  refine xl_call (as := [.int (xs (i + 1)), .int (xs (i + 2))]) (rest := [.int v]) (a0 := 60) (mi := 153) (n := 2) X xd_674 (xm_mem_map xo_LL (a := (88, 153)) (by decide)) (by decide) (by decide) (xo_LP (153, 2) (by decide)) rfl rfl c2 (Nat.le_of_ble_eq_true rfl) (xl_bd _ _ _ _) S1 hsz ?_
  intro H2 locs2 S2
  exact lv_icmp_eq (tgt := 1180) X.1 X.2.1 xd_677 (by decide) (fun _ => kk _ _ _ _ _ hE2 S2) (fun q => absurd rfl q)
theorem xW_enough {i : Nat} {ls : Array Slot} {b' : Bool} {I : Nat → Nat → Int32} {L' : Nat → Nat → Int64} {H : Heap} {locs : List Loc} (X : xLC p s m c b L xs D T) (S : xLS s D T (xS b', I, L', xP b') H locs) (hE : xE b' I L') (hl : xLs s b ls i) (hi : i + 7 ≤ L) (kk : xKK p l e s m b below meth c Q D T ls) : xLW p l e s m b below meth c Q (xS b', I, L', xP b') H locs (F0 m 682 ls []) := by
  obtain ⟨hsz, h0, h1, h2, h3⟩ := hl
  obtain ⟨r1, z1, c1, v, b1, J, M, rfl, rfl, hm⟩ := xT_enough b' I L' hE
  obtain ⟨r2, z2, c2, rfl, I2, L2, rfl, hE2⟩ := hm
  refine lv_aload_n X.1 X.2.1 xd_682 rfl h1 ?_
  refine xl_call (as := []) (rest := []) (a0 := 0) (mi := 77) (n := 0) X xd_683 (xm_mem_map xo_LL (a := (89, 77)) (by decide)) (by decide) (by decide) (xo_LP (77, 0) (by decide)) rfl rfl c1 (Nat.le_of_ble_eq_true rfl) (xl_bd _ _ _ _) S hsz ?_
  intro H1 locs1 S1
  refine lv_aload_n X.1 X.2.1 xd_686 rfl h2 ?_
  refine xl_call (as := []) (rest := [.int v]) (a0 := 60) (mi := 155) (n := 0) X xd_687 (xm_mem_map xo_LL (a := (92, 155)) (by decide)) (by decide) (by decide) (xo_LP (155, 0) (by decide)) rfl rfl c2 (Nat.le_of_ble_eq_true rfl) (xl_bd _ _ _ _) S1 hsz ?_
  intro H2 locs2 S2
  exact lv_icmp_eq (tgt := 1180) X.1 X.2.1 xd_690 (by decide) (fun _ => kk _ _ _ _ _ hE2 S2) (fun q => absurd rfl q)
theorem xW_stand {i : Nat} {ls : Array Slot} {b' : Bool} {I : Nat → Nat → Int32} {L' : Nat → Nat → Int64} {H : Heap} {locs : List Loc} (X : xLC p s m c b L xs D T) (S : xLS s D T (xS b', I, L', xP b') H locs) (hE : xE b' I L') (hl : xLs s b ls i) (hi : i + 7 ≤ L) (kk : xKK p l e s m b below meth c Q D T ls) : xLW p l e s m b below meth c Q (xS b', I, L', xP b') H locs (F0 m 695 ls []) := by
  obtain ⟨hsz, h0, h1, h2, h3⟩ := hl
  obtain ⟨r1, z1, c1, v, b1, J, M, rfl, rfl, hm⟩ := xT_stand (xs (i + 1)) (xs (i + 2)) (xs (i + 3)) b' I L' hE
  obtain ⟨r2, z2, c2, rfl, I2, L2, rfl, hE2⟩ := hm
  refine lv_aload_n X.1 X.2.1 xd_695 rfl h1 ?_
  refine xl_rd X S h0 h3 (k := 1) (by omega) (by decide) xr_696 ?_
  refine xl_rd X S h0 h3 (k := 2) (by omega) (by decide) xr_701 ?_
  refine xl_rd X S h0 h3 (k := 3) (by omega) (by decide) xr_706 ?_
  refine xl_call (as := [.int (xs (i + 1)), .int (xs (i + 2)), .int (xs (i + 3))]) (rest := []) (a0 := 0) (mi := 79) (n := 3) X xd_711 (xm_mem_map xo_LL (a := (93, 79)) (by decide)) (by decide) (by decide) (xo_LP (79, 3) (by decide)) rfl rfl c1 (Nat.le_of_ble_eq_true rfl) (xl_bd _ _ _ _) S hsz ?_
  intro H1 locs1 S1
  refine lv_aload_n X.1 X.2.1 xd_714 rfl h2 ?_
  refine xl_rd X S1 h0 h3 (k := 1) (by omega) (by decide) xr_715 ?_
  refine xl_rd X S1 h0 h3 (k := 2) (by omega) (by decide) xr_720 ?_
  refine xl_rd X S1 h0 h3 (k := 3) (by omega) (by decide) xr_725 ?_
  refine xl_call (as := [.int (xs (i + 1)), .int (xs (i + 2)), .int (xs (i + 3))]) (rest := [.int v]) (a0 := 60) (mi := 156) (n := 3) X xd_730 (xm_mem_map xo_LL (a := (97, 156)) (by decide)) (by decide) (by decide) (xo_LP (156, 3) (by decide)) rfl rfl c2 (Nat.le_of_ble_eq_true rfl) (xl_bd _ _ _ _) S1 hsz ?_
  intro H2 locs2 S2
  exact lv_icmp_eq (tgt := 1180) X.1 X.2.1 xd_733 (by decide) (fun _ => kk _ _ _ _ _ hE2 S2) (fun q => absurd rfl q)
theorem xW_set {i : Nat} {ls : Array Slot} {b' : Bool} {I : Nat → Nat → Int32} {L' : Nat → Nat → Int64} {H : Heap} {locs : List Loc} (X : xLC p s m c b L xs D T) (S : xLS s D T (xS b', I, L', xP b') H locs) (hE : xE b' I L') (hl : xLs s b ls i) (hi : i + 7 ≤ L) (kk : xKK p l e s m b below meth c Q D T ls) : xLW p l e s m b below meth c Q (xS b', I, L', xP b') H locs (F0 m 738 ls []) := by
  obtain ⟨hsz, h0, h1, h2, h3⟩ := hl
  obtain ⟨r1, z1, c1, v, b1, J, M, rfl, rfl, hm⟩ := xT_set (xs (i + 1)) (xs (i + 2)) b' I L' hE
  obtain ⟨r2, z2, c2, rfl, I2, L2, rfl, hE2⟩ := hm
  refine lv_aload_n X.1 X.2.1 xd_738 rfl h1 ?_
  refine xl_rd X S h0 h3 (k := 1) (by omega) (by decide) xr_739 ?_
  refine xl_rd X S h0 h3 (k := 2) (by omega) (by decide) xr_744 ?_
  refine xl_call (as := [.int (xs (i + 1)), .int (xs (i + 2))]) (rest := []) (a0 := 0) (mi := 82) (n := 2) X xd_749 (xm_mem_map xo_LL (a := (98, 82)) (by decide)) (by decide) (by decide) (xo_LP (82, 2) (by decide)) rfl rfl c1 (Nat.le_of_ble_eq_true rfl) (xl_bd _ _ _ _) S hsz ?_
  intro H1 locs1 S1
  refine lv_aload_n X.1 X.2.1 xd_752 rfl h2 ?_
  refine xl_rd X S1 h0 h3 (k := 1) (by omega) (by decide) xr_753 ?_
  refine xl_rd X S1 h0 h3 (k := 2) (by omega) (by decide) xr_758 ?_
  refine xl_call (as := [.int (xs (i + 1)), .int (xs (i + 2))]) (rest := [.int v]) (a0 := 60) (mi := 158) (n := 2) X xd_763 (xm_mem_map xo_LL (a := (101, 158)) (by decide)) (by decide) (by decide) (xo_LP (158, 2) (by decide)) rfl rfl c2 (Nat.le_of_ble_eq_true rfl) (xl_bd _ _ _ _) S1 hsz ?_
  intro H2 locs2 S2
  exact lv_icmp_eq (tgt := 1180) X.1 X.2.1 xd_766 (by decide) (fun _ => kk _ _ _ _ _ hE2 S2) (fun q => absurd rfl q)
theorem xW_turns {i : Nat} {ls : Array Slot} {b' : Bool} {I : Nat → Nat → Int32} {L' : Nat → Nat → Int64} {H : Heap} {locs : List Loc} (X : xLC p s m c b L xs D T) (S : xLS s D T (xS b', I, L', xP b') H locs) (hE : xE b' I L') (hl : xLs s b ls i) (hi : i + 7 ≤ L) (kk : xKK p l e s m b below meth c Q D T ls) : xLW p l e s m b below meth c Q (xS b', I, L', xP b') H locs (F0 m 771 ls []) := by
  obtain ⟨hsz, h0, h1, h2, h3⟩ := hl
  obtain ⟨r1, z1, c1, v, b1, J, M, rfl, rfl, hm⟩ := xT_turns (xs (i + 1)) (xs (i + 2)) b' I L' hE
  obtain ⟨r2, z2, c2, rfl, I2, L2, rfl, hE2⟩ := hm
  refine lv_aload_n X.1 X.2.1 xd_771 rfl h1 ?_
  refine xl_rd X S h0 h3 (k := 1) (by omega) (by decide) xr_772 ?_
  refine xl_rd X S h0 h3 (k := 2) (by omega) (by decide) xr_777 ?_
  refine xl_call (as := [.int (xs (i + 1)), .int (xs (i + 2))]) (rest := []) (a0 := 0) (mi := 84) (n := 2) X xd_782 (xm_mem_map xo_LL (a := (102, 84)) (by decide)) (by decide) (by decide) (xo_LP (84, 2) (by decide)) rfl rfl c1 (Nat.le_of_ble_eq_true rfl) (xl_bd _ _ _ _) S hsz ?_
  intro H1 locs1 S1
  refine lv_aload_n X.1 X.2.1 xd_785 rfl h2 ?_
  refine xl_rd X S1 h0 h3 (k := 1) (by omega) (by decide) xr_786 ?_
  refine xl_rd X S1 h0 h3 (k := 2) (by omega) (by decide) xr_791 ?_
  refine xl_call (as := [.int (xs (i + 1)), .int (xs (i + 2))]) (rest := [.int v]) (a0 := 60) (mi := 159) (n := 2) X xd_796 (xm_mem_map xo_LL (a := (105, 159)) (by decide)) (by decide) (by decide) (xo_LP (159, 2) (by decide)) rfl rfl c2 (Nat.le_of_ble_eq_true rfl) (xl_bd _ _ _ _) S1 hsz ?_
  intro H2 locs2 S2
  exact lv_icmp_eq (tgt := 1180) X.1 X.2.1 xd_799 (by decide) (fun _ => kk _ _ _ _ _ hE2 S2) (fun q => absurd rfl q)
theorem xW_image {i : Nat} {ls : Array Slot} {b' : Bool} {I : Nat → Nat → Int32} {L' : Nat → Nat → Int64} {H : Heap} {locs : List Loc} (X : xLC p s m c b L xs D T) (S : xLS s D T (xS b', I, L', xP b') H locs) (hE : xE b' I L') (hl : xLs s b ls i) (hi : i + 7 ≤ L) (kk : xKK p l e s m b below meth c Q D T ls) : xLW p l e s m b below meth c Q (xS b', I, L', xP b') H locs (F0 m 804 ls []) := by
  obtain ⟨hsz, h0, h1, h2, h3⟩ := hl
  obtain ⟨r1, z1, c1, v, b1, J, M, rfl, rfl, hm⟩ := xT_image b' I L' hE
  obtain ⟨r2, z2, c2, rfl, I2, L2, rfl, hE2⟩ := hm
  refine lv_aload_n X.1 X.2.1 xd_804 rfl h1 ?_
  refine xl_call (as := []) (rest := []) (a0 := 0) (mi := 88) (n := 0) X xd_805 (xm_mem_map xo_LL (a := (106, 88)) (by decide)) (by decide) (by decide) (xo_LP (88, 0) (by decide)) rfl rfl c1 (Nat.le_of_ble_eq_true rfl) (xl_bd _ _ _ _) S hsz ?_
  intro H1 locs1 S1
  refine lv_aload_n X.1 X.2.1 xd_808 rfl h2 ?_
  refine xl_call (as := []) (rest := [.int v]) (a0 := 60) (mi := 160) (n := 0) X xd_809 (xm_mem_map xo_LL (a := (109, 160)) (by decide)) (by decide) (by decide) (xo_LP (160, 0) (by decide)) rfl rfl c2 (Nat.le_of_ble_eq_true rfl) (xl_bd _ _ _ _) S1 hsz ?_
  intro H2 locs2 S2
  exact lv_icmp_eq (tgt := 1180) X.1 X.2.1 xd_812 (by decide) (fun _ => kk _ _ _ _ _ hE2 S2) (fun q => absurd rfl q)
theorem xW_restore {i : Nat} {ls : Array Slot} {b' : Bool} {I : Nat → Nat → Int32} {L' : Nat → Nat → Int64} {H : Heap} {locs : List Loc} (X : xLC p s m c b L xs D T) (S : xLS s D T (xS b', I, L', xP b') H locs) (hE : xE b' I L') (hl : xLs s b ls i) (hi : i + 7 ≤ L) (kk : xKK p l e s m b below meth c Q D T ls) : xLW p l e s m b below meth c Q (xS b', I, L', xP b') H locs (F0 m 817 ls []) := by
  obtain ⟨hsz, h0, h1, h2, h3⟩ := hl
  obtain ⟨r1, z1, c1, v, b1, J, M, rfl, rfl, hm⟩ := xT_restore b' I L' hE
  obtain ⟨r2, z2, c2, rfl, I2, L2, rfl, hE2⟩ := hm
  refine lv_aload_n X.1 X.2.1 xd_817 rfl h1 ?_
  refine xl_call (as := []) (rest := []) (a0 := 0) (mi := 91) (n := 0) X xd_818 (xm_mem_map xo_LL (a := (110, 91)) (by decide)) (by decide) (by decide) (xo_LP (91, 0) (by decide)) rfl rfl c1 (Nat.le_of_ble_eq_true rfl) (xl_bd _ _ _ _) S hsz ?_
  intro H1 locs1 S1
  refine lv_aload_n X.1 X.2.1 xd_821 rfl h2 ?_
  refine xl_call (as := []) (rest := [.int v]) (a0 := 60) (mi := 161) (n := 0) X xd_822 (xm_mem_map xo_LL (a := (113, 161)) (by decide)) (by decide) (by decide) (xo_LP (161, 0) (by decide)) rfl rfl c2 (Nat.le_of_ble_eq_true rfl) (xl_bd _ _ _ _) S1 hsz ?_
  intro H2 locs2 S2
  exact lv_icmp_eq (tgt := 1180) X.1 X.2.1 xd_825 (by decide) (fun _ => kk _ _ _ _ _ hE2 S2) (fun q => absurd rfl q)
theorem xW_tins {i : Nat} {ls : Array Slot} {b' : Bool} {I : Nat → Nat → Int32} {L' : Nat → Nat → Int64} {H : Heap} {locs : List Loc} (X : xLC p s m c b L xs D T) (S : xLS s D T (xS b', I, L', xP b') H locs) (hE : xE b' I L') (hl : xLs s b ls i) (hi : i + 7 ≤ L) (kk : xKK p l e s m b below meth c Q D T ls) : xLW p l e s m b below meth c Q (xS b', I, L', xP b') H locs (F0 m 830 ls []) := by
  obtain ⟨hsz, h0, h1, h2, h3⟩ := hl
  obtain ⟨r1, z1, c1, v, b1, J, M, rfl, rfl, hm⟩ := xT_tins (xs (i + 1)) (xs (i + 2)) (xs (i + 3)) (xs (i + 4)) (xs (i + 5)) (xs (i + 6)) b' I L' hE
  obtain ⟨r2, z2, c2, rfl, I2, L2, rfl, hE2⟩ := hm
  refine lv_aload_n X.1 X.2.1 xd_830 rfl h1 ?_
  refine xl_rd X S h0 h3 (k := 1) (by omega) (by decide) xr_831 ?_
  refine xl_rd X S h0 h3 (k := 2) (by omega) (by decide) xr_836 ?_
  refine xl_rd X S h0 h3 (k := 3) (by omega) (by decide) xr_841 ?_
  refine xl_rd X S h0 h3 (k := 4) (by omega) (by decide) xr_846 ?_
  refine xl_rd X S h0 h3 (k := 5) (by omega) (by decide) xr_851 ?_
  refine xl_rd6 X S h0 h3 (k := 6) (by omega) (by decide) xr_856 ?_
  refine xl_call (as := [.int (xs (i + 1)), .int (xs (i + 2)), .int (xs (i + 3)), .int (xs (i + 4)), .int (xs (i + 5)), .int (xs (i + 6))]) (rest := []) (a0 := 0) (mi := 92) (n := 6) X xd_862 (xm_mem_map xo_LL (a := (114, 92)) (by decide)) (by decide) (by decide) (xo_LP (92, 6) (by decide)) rfl rfl c1 (Nat.le_of_ble_eq_true rfl) (xl_bd _ _ _ _) S hsz ?_
  intro H1 locs1 S1
  refine lv_aload_n X.1 X.2.1 xd_865 rfl h2 ?_
  refine xl_rd X S1 h0 h3 (k := 1) (by omega) (by decide) xr_866 ?_
  refine xl_rd X S1 h0 h3 (k := 2) (by omega) (by decide) xr_871 ?_
  refine xl_rd X S1 h0 h3 (k := 3) (by omega) (by decide) xr_876 ?_
  refine xl_rd X S1 h0 h3 (k := 4) (by omega) (by decide) xr_881 ?_
  refine xl_rd X S1 h0 h3 (k := 5) (by omega) (by decide) xr_886 ?_
  refine xl_rd6 X S1 h0 h3 (k := 6) (by omega) (by decide) xr_891 ?_
  refine xl_call (as := [.int (xs (i + 1)), .int (xs (i + 2)), .int (xs (i + 3)), .int (xs (i + 4)), .int (xs (i + 5)), .int (xs (i + 6))]) (rest := [.int v]) (a0 := 60) (mi := 162) (n := 6) X xd_897 (xm_mem_map xo_LL (a := (118, 162)) (by decide)) (by decide) (by decide) (xo_LP (162, 6) (by decide)) rfl rfl c2 (Nat.le_of_ble_eq_true rfl) (xl_bd _ _ _ _) S1 hsz ?_
  intro H2 locs2 S2
  exact lv_icmp_eq (tgt := 1180) X.1 X.2.1 xd_900 (by decide) (fun _ => kk _ _ _ _ _ hE2 S2) (fun q => absurd rfl q)
theorem xW_film {i : Nat} {ls : Array Slot} {b' : Bool} {I : Nat → Nat → Int32} {L' : Nat → Nat → Int64} {H : Heap} {locs : List Loc} (X : xLC p s m c b L xs D T) (S : xLS s D T (xS b', I, L', xP b') H locs) (hE : xE b' I L') (hl : xLs s b ls i) (hi : i + 7 ≤ L) (kk : xKK p l e s m b below meth c Q D T ls) : xLW p l e s m b below meth c Q (xS b', I, L', xP b') H locs (F0 m 905 ls []) := by
  obtain ⟨hsz, h0, h1, h2, h3⟩ := hl
  obtain ⟨r1, z1, c1, v, b1, J, M, rfl, rfl, hm⟩ := xT_film (xs (i + 1)) (xs (i + 2)) (xs (i + 3)) (xs (i + 4)) (xs (i + 5)) b' I L' hE
  obtain ⟨r2, z2, c2, rfl, I2, L2, rfl, hE2⟩ := hm
  refine lv_aload_n X.1 X.2.1 xd_905 rfl h1 ?_
  refine xl_rd X S h0 h3 (k := 1) (by omega) (by decide) xr_906 ?_
  refine xl_rd X S h0 h3 (k := 2) (by omega) (by decide) xr_911 ?_
  refine xl_rd X S h0 h3 (k := 3) (by omega) (by decide) xr_916 ?_
  refine xl_rd X S h0 h3 (k := 4) (by omega) (by decide) xr_921 ?_
  refine xl_rd X S h0 h3 (k := 5) (by omega) (by decide) xr_926 ?_
  refine xl_call (as := [.int (xs (i + 1)), .int (xs (i + 2)), .int (xs (i + 3)), .int (xs (i + 4)), .int (xs (i + 5))]) (rest := []) (a0 := 0) (mi := 97) (n := 5) X xd_931 (xm_mem_map xo_LL (a := (119, 97)) (by decide)) (by decide) (by decide) (xo_LP (97, 5) (by decide)) rfl rfl c1 (Nat.le_of_ble_eq_true rfl) (xl_bd _ _ _ _) S hsz ?_
  intro H1 locs1 S1
  refine lv_aload_n X.1 X.2.1 xd_934 rfl h2 ?_
  refine xl_rd X S1 h0 h3 (k := 1) (by omega) (by decide) xr_935 ?_
  refine xl_rd X S1 h0 h3 (k := 2) (by omega) (by decide) xr_940 ?_
  refine xl_rd X S1 h0 h3 (k := 3) (by omega) (by decide) xr_945 ?_
  refine xl_rd X S1 h0 h3 (k := 4) (by omega) (by decide) xr_950 ?_
  refine xl_rd X S1 h0 h3 (k := 5) (by omega) (by decide) xr_955 ?_
  refine xl_call (as := [.int (xs (i + 1)), .int (xs (i + 2)), .int (xs (i + 3)), .int (xs (i + 4)), .int (xs (i + 5))]) (rest := [.int v]) (a0 := 60) (mi := 166) (n := 5) X xd_960 (xm_mem_map xo_LL (a := (123, 166)) (by decide)) (by decide) (by decide) (xo_LP (166, 5) (by decide)) rfl rfl c2 (Nat.le_of_ble_eq_true rfl) (xl_bd _ _ _ _) S1 hsz ?_
  intro H2 locs2 S2
  exact lv_icmp_eq (tgt := 1180) X.1 X.2.1 xd_963 (by decide) (fun _ => kk _ _ _ _ _ hE2 S2) (fun q => absurd rfl q)
theorem xW_sheet {i : Nat} {ls : Array Slot} {b' : Bool} {I : Nat → Nat → Int32} {L' : Nat → Nat → Int64} {H : Heap} {locs : List Loc} (X : xLC p s m c b L xs D T) (S : xLS s D T (xS b', I, L', xP b') H locs) (hE : xE b' I L') (hl : xLs s b ls i) (hi : i + 7 ≤ L) (kk : xKK p l e s m b below meth c Q D T ls) : xLW p l e s m b below meth c Q (xS b', I, L', xP b') H locs (F0 m 968 ls []) := by
  obtain ⟨hsz, h0, h1, h2, h3⟩ := hl
  obtain ⟨r1, z1, c1, v, b1, J, M, rfl, rfl, hm⟩ := xT_sheet (xs (i + 1)) (xs (i + 2)) (xs (i + 3)) b' I L' hE
  obtain ⟨r2, z2, c2, rfl, I2, L2, rfl, hE2⟩ := hm
  refine lv_aload_n X.1 X.2.1 xd_968 rfl h1 ?_
  refine xl_rd X S h0 h3 (k := 1) (by omega) (by decide) xr_969 ?_
  refine xl_rd X S h0 h3 (k := 2) (by omega) (by decide) xr_974 ?_
  refine xl_rd X S h0 h3 (k := 3) (by omega) (by decide) xr_979 ?_
  refine xl_call (as := [.int (xs (i + 1)), .int (xs (i + 2)), .int (xs (i + 3))]) (rest := []) (a0 := 0) (mi := 100) (n := 3) X xd_984 (xm_mem_map xo_LL (a := (124, 100)) (by decide)) (by decide) (by decide) (xo_LP (100, 3) (by decide)) rfl rfl c1 (Nat.le_of_ble_eq_true rfl) (xl_bd _ _ _ _) S hsz ?_
  intro H1 locs1 S1
  refine lv_aload_n X.1 X.2.1 xd_987 rfl h2 ?_
  refine xl_rd X S1 h0 h3 (k := 1) (by omega) (by decide) xr_988 ?_
  refine xl_rd X S1 h0 h3 (k := 2) (by omega) (by decide) xr_993 ?_
  refine xl_rd X S1 h0 h3 (k := 3) (by omega) (by decide) xr_998 ?_
  refine xl_call (as := [.int (xs (i + 1)), .int (xs (i + 2)), .int (xs (i + 3))]) (rest := [.int v]) (a0 := 60) (mi := 168) (n := 3) X xd_1003 (xm_mem_map xo_LL (a := (127, 168)) (by decide)) (by decide) (by decide) (xo_LP (168, 3) (by decide)) rfl rfl c2 (Nat.le_of_ble_eq_true rfl) (xl_bd _ _ _ _) S1 hsz ?_
  intro H2 locs2 S2
  exact lv_icmp_eq (tgt := 1180) X.1 X.2.1 xd_1006 (by decide) (fun _ => kk _ _ _ _ _ hE2 S2) (fun q => absurd rfl q)
theorem xW_drop {i : Nat} {ls : Array Slot} {b' : Bool} {I : Nat → Nat → Int32} {L' : Nat → Nat → Int64} {H : Heap} {locs : List Loc} (X : xLC p s m c b L xs D T) (S : xLS s D T (xS b', I, L', xP b') H locs) (hE : xE b' I L') (hl : xLs s b ls i) (hi : i + 7 ≤ L) (kk : xKK p l e s m b below meth c Q D T ls) : xLW p l e s m b below meth c Q (xS b', I, L', xP b') H locs (F0 m 1011 ls []) := by
  obtain ⟨hsz, h0, h1, h2, h3⟩ := hl
  obtain ⟨r1, z1, c1, v, b1, J, M, rfl, rfl, hm⟩ := xT_drop (xs (i + 1)) b' I L' hE
  obtain ⟨r2, z2, c2, rfl, I2, L2, rfl, hE2⟩ := hm
  refine lv_aload_n X.1 X.2.1 xd_1011 rfl h1 ?_
  refine xl_rd X S h0 h3 (k := 1) (by omega) (by decide) xr_1012 ?_
  refine xl_call (as := [.int (xs (i + 1))]) (rest := []) (a0 := 0) (mi := 103) (n := 1) X xd_1017 (xm_mem_map xo_LL (a := (128, 103)) (by decide)) (by decide) (by decide) (xo_LP (103, 1) (by decide)) rfl rfl c1 (Nat.le_of_ble_eq_true rfl) (xl_bd _ _ _ _) S hsz ?_
  intro H1 locs1 S1
  refine lv_aload_n X.1 X.2.1 xd_1020 rfl h2 ?_
  refine xl_rd X S1 h0 h3 (k := 1) (by omega) (by decide) xr_1021 ?_
  refine xl_call (as := [.int (xs (i + 1))]) (rest := [.int v]) (a0 := 60) (mi := 169) (n := 1) X xd_1026 (xm_mem_map xo_LL (a := (131, 169)) (by decide)) (by decide) (by decide) (xo_LP (169, 1) (by decide)) rfl rfl c2 (Nat.le_of_ble_eq_true rfl) (xl_bd _ _ _ _) S1 hsz ?_
  intro H2 locs2 S2
  exact lv_icmp_eq (tgt := 1180) X.1 X.2.1 xd_1029 (by decide) (fun _ => kk _ _ _ _ _ hE2 S2) (fun q => absurd rfl q)
theorem xW_item {i : Nat} {ls : Array Slot} {b' : Bool} {I : Nat → Nat → Int32} {L' : Nat → Nat → Int64} {H : Heap} {locs : List Loc} (X : xLC p s m c b L xs D T) (S : xLS s D T (xS b', I, L', xP b') H locs) (hE : xE b' I L') (hl : xLs s b ls i) (hi : i + 7 ≤ L) (kk : xKK p l e s m b below meth c Q D T ls) : xLW p l e s m b below meth c Q (xS b', I, L', xP b') H locs (F0 m 1034 ls []) := by
  obtain ⟨hsz, h0, h1, h2, h3⟩ := hl
  obtain ⟨r1, z1, c1, v, b1, J, M, rfl, rfl, hm⟩ := xT_item (xs (i + 1)) (xs (i + 2)) (xs (i + 3)) (((xs (i + 4)).toInt64 <<< ((32 : Int32).toInt64 &&& 63)) ||| ((xs (i + 5)).toInt64 &&& 4294967295)) b' I L' hE
  obtain ⟨r2, z2, c2, rfl, I2, L2, rfl, hE2⟩ := hm
  refine lv_aload_n X.1 X.2.1 xd_1034 rfl h1 ?_
  refine xl_rd X S h0 h3 (k := 1) (by omega) (by decide) xr_1035 ?_
  refine xl_rd X S h0 h3 (k := 2) (by omega) (by decide) xr_1040 ?_
  refine xl_rd X S h0 h3 (k := 3) (by omega) (by decide) xr_1045 ?_
  refine xl_rd X S h0 h3 (k := 4) (by omega) (by decide) xr_1050 ?_
  refine lv_i2l X.1 X.2.1 xd_1055 rfl ?_
  refine lv_bipush (v := 32) X.1 X.2.1 xd_1056 (by decide) ?_
  refine lv_lshl X.1 X.2.1 xd_1058 rfl ?_
  refine xl_rd X S h0 h3 (k := 5) (by omega) (by decide) xr_1059 ?_
  refine lv_i2l X.1 X.2.1 xd_1064 rfl ?_
  refine lv_ldc2 (v := 4294967295) X.1 X.2.1 X.2.2.2.1 (X.2.2.2.2.1 _ xo_KK) xd_1065 ?_
  refine lv_land X.1 X.2.1 xd_1068 ?_
  refine lv_lor X.1 X.2.1 xd_1069 ?_
  refine xl_call (as := [.int (xs (i + 1)), .int (xs (i + 2)), .int (xs (i + 3)), .long (((xs (i + 4)).toInt64 <<< ((32 : Int32).toInt64 &&& 63)) ||| ((xs (i + 5)).toInt64 &&& 4294967295))]) (rest := []) (a0 := 0) (mi := 104) (n := 4) X xd_1070 (xm_mem_map xo_LL (a := (134, 104)) (by decide)) (by decide) (by decide) (xo_LP (104, 4) (by decide)) rfl rfl c1 (Nat.le_of_ble_eq_true rfl) (xl_bd _ _ _ _) S hsz ?_
  intro H1 locs1 S1
  refine lv_aload_n X.1 X.2.1 xd_1073 rfl h2 ?_
  refine xl_rd X S1 h0 h3 (k := 1) (by omega) (by decide) xr_1074 ?_
  refine xl_rd X S1 h0 h3 (k := 2) (by omega) (by decide) xr_1079 ?_
  refine xl_rd X S1 h0 h3 (k := 3) (by omega) (by decide) xr_1084 ?_
  refine xl_rd X S1 h0 h3 (k := 4) (by omega) (by decide) xr_1089 ?_
  refine lv_i2l X.1 X.2.1 xd_1094 rfl ?_
  refine lv_bipush (v := 32) X.1 X.2.1 xd_1095 (by decide) ?_
  refine lv_lshl X.1 X.2.1 xd_1097 rfl ?_
  refine xl_rd X S1 h0 h3 (k := 5) (by omega) (by decide) xr_1098 ?_
  refine lv_i2l X.1 X.2.1 xd_1103 rfl ?_
  refine lv_ldc2 (v := 4294967295) X.1 X.2.1 X.2.2.2.1 (X.2.2.2.2.1 _ xo_KK) xd_1104 ?_
  refine lv_land X.1 X.2.1 xd_1107 ?_
  refine lv_lor X.1 X.2.1 xd_1108 ?_
  refine xl_call (as := [.int (xs (i + 1)), .int (xs (i + 2)), .int (xs (i + 3)), .long (((xs (i + 4)).toInt64 <<< ((32 : Int32).toInt64 &&& 63)) ||| ((xs (i + 5)).toInt64 &&& 4294967295))]) (rest := [.int v]) (a0 := 60) (mi := 170) (n := 4) X xd_1109 (xm_mem_map xo_LL (a := (138, 170)) (by decide)) (by decide) (by decide) (xo_LP (170, 4) (by decide)) rfl rfl c2 (Nat.le_of_ble_eq_true rfl) (xl_bd _ _ _ _) S1 hsz ?_
  intro H2 locs2 S2
  exact lv_icmp_eq (tgt := 1180) X.1 X.2.1 xd_1112 (by decide) (fun _ => kk _ _ _ _ _ hE2 S2) (fun q => absurd rfl q)
theorem xW_copy {i : Nat} {ls : Array Slot} {b' : Bool} {I : Nat → Nat → Int32} {L' : Nat → Nat → Int64} {H : Heap} {locs : List Loc} (X : xLC p s m c b L xs D T) (S : xLS s D T (xS b', I, L', xP b') H locs) (hE : xE b' I L') (hl : xLs s b ls i) (hi : i + 7 ≤ L) (kk : xKK p l e s m b below meth c Q D T ls) : xLW p l e s m b below meth c Q (xS b', I, L', xP b') H locs (F0 m 1117 ls []) := by
  obtain ⟨hsz, h0, h1, h2, h3⟩ := hl
  obtain ⟨r1, z1, c1, v, b1, J, M, rfl, rfl, hm⟩ := xT_copy (xs (i + 1)) (xs (i + 2)) (xs (i + 3)) (xs (i + 4)) (xs (i + 5)) b' I L' hE
  obtain ⟨r2, z2, c2, rfl, I2, L2, rfl, hE2⟩ := hm
  refine lv_aload_n X.1 X.2.1 xd_1117 rfl h1 ?_
  refine xl_rd X S h0 h3 (k := 1) (by omega) (by decide) xr_1118 ?_
  refine xl_rd X S h0 h3 (k := 2) (by omega) (by decide) xr_1123 ?_
  refine xl_rd X S h0 h3 (k := 3) (by omega) (by decide) xr_1128 ?_
  refine xl_rd X S h0 h3 (k := 4) (by omega) (by decide) xr_1133 ?_
  refine xl_rd X S h0 h3 (k := 5) (by omega) (by decide) xr_1138 ?_
  refine xl_call (as := [.int (xs (i + 1)), .int (xs (i + 2)), .int (xs (i + 3)), .int (xs (i + 4)), .int (xs (i + 5))]) (rest := []) (a0 := 0) (mi := 105) (n := 5) X xd_1143 (xm_mem_map xo_LL (a := (139, 105)) (by decide)) (by decide) (by decide) (xo_LP (105, 5) (by decide)) rfl rfl c1 (Nat.le_of_ble_eq_true rfl) (xl_bd _ _ _ _) S hsz ?_
  intro H1 locs1 S1
  refine lv_aload_n X.1 X.2.1 xd_1146 rfl h2 ?_
  refine xl_rd X S1 h0 h3 (k := 1) (by omega) (by decide) xr_1147 ?_
  refine xl_rd X S1 h0 h3 (k := 2) (by omega) (by decide) xr_1152 ?_
  refine xl_rd X S1 h0 h3 (k := 3) (by omega) (by decide) xr_1157 ?_
  refine xl_rd X S1 h0 h3 (k := 4) (by omega) (by decide) xr_1162 ?_
  refine xl_rd X S1 h0 h3 (k := 5) (by omega) (by decide) xr_1167 ?_
  refine xl_call (as := [.int (xs (i + 1)), .int (xs (i + 2)), .int (xs (i + 3)), .int (xs (i + 4)), .int (xs (i + 5))]) (rest := [.int v]) (a0 := 60) (mi := 171) (n := 5) X xd_1172 (xm_mem_map xo_LL (a := (142, 171)) (by decide)) (by decide) (by decide) (xo_LP (171, 5) (by decide)) rfl rfl c2 (Nat.le_of_ble_eq_true rfl) (xl_bd _ _ _ _) S1 hsz ?_
  intro H2 locs2 S2
  exact lv_icmp_eq (tgt := 1180) X.1 X.2.1 xd_1175 (by decide) (fun _ => kk _ _ _ _ _ hE2 S2) (fun q => absurd rfl q)
end XL
