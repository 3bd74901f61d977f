/-! ===== calls: lawn, soil, sprinkler, seed, rule, count ===== -/
theorem c_lawn0 {d : Nat} {b : Bool} {I : Nat → Nat → Int32} {L : Nat → Nat → Int64} {N : Nat → Nat} {u : Nat} {U : Nat → Nat → Nat} (hP : xPL N u U 1 I) (hK : xUK N u U) {x y : Int32} (hx : ¬ (2 ≤ x.toInt ∧ x.toInt ≤ 8 ∧ 2 ≤ y.toInt ∧ y.toInt ≤ 8)) : xm_Z (d + 3) 9 [.ref 0, .int x, .int y] (xS b, I, L, xP b) (fun rz hz => xQC b I L (-1) N u U rz hz) := by
  refine xw_S xb_9 (l := [.ref 0, .int x, .int y]) (Nat.le_of_ble_eq_true rfl) rfl ?_
  refine xw_go xb_9 3 (f1 := (4, [.ref 0, .int x, .int y], [.int 8, .int 2, .int x])) (h1 := (xS b, I, L, xP b)) rfl trivial ?_
  refine xw_call xb_9 rfl rfl rfl rfl rfl (Or.inl rfl) c_within ?_
  rintro _ _ ⟨rfl, rfl⟩
  refine xw_at (f' := (7, [.ref 0, .int x, .int y], [.int (nI (xB (decide ((2 : Int32).toInt ≤ x.toInt ∧ x.toInt ≤ (8 : Int32).toInt))))])) (h' := (xS b, I, L, xP b)) rfl rfl ?_
  refine xw_go xb_9 1 (f1 := (if (nI (xB (decide ((2 : Int32).toInt ≤ x.toInt ∧ x.toInt ≤ (8 : Int32).toInt)))) = 0 then 20 else 10, [.ref 0, .int x, .int y], [])) (h1 := (xS b, I, L, xP b)) rfl trivial ?_
  refine xw_if (fun c_7 => ?_) (fun c_7 => ?_)
  · skip
    refine xw_go xb_9 1 (f1 := (21, [.ref 0, .int x, .int y], [.int (-1)])) (h1 := (xS b, I, L, xP b)) rfl trivial ?_
    refine xw_ret xb_9 rfl rfl trivial ?_
    exact xQC_same hP
  · skip
    refine xw_go xb_9 3 (f1 := (14, [.ref 0, .int x, .int y], [.int 8, .int 2, .int y])) (h1 := (xS b, I, L, xP b)) rfl trivial ?_
    refine xw_call xb_9 rfl rfl rfl rfl rfl (Or.inl rfl) c_within ?_
    rintro _ _ ⟨rfl, rfl⟩
    refine xw_at (f' := (17, [.ref 0, .int x, .int y], [.int (nI (xB (decide ((2 : Int32).toInt ≤ y.toInt ∧ y.toInt ≤ (8 : Int32).toInt))))])) (h' := (xS b, I, L, xP b)) rfl rfl ?_
    refine xw_go xb_9 1 (f1 := (if ¬ (nI (xB (decide ((2 : Int32).toInt ≤ y.toInt ∧ y.toInt ≤ (8 : Int32).toInt)))) = 0 then 22 else 20, [.ref 0, .int x, .int y], [])) (h1 := (xS b, I, L, xP b)) rfl trivial ?_
    refine xw_if (fun c_17 => ?_) (fun c_17 => ?_)
    · skip
      exfalso
      try simp only [xB_dec, Classical.not_not] at c_7 c_17
      try simp (disch := omega) only [xt_eq, xt_lt, xt_le, xkt_0, xkt_1, xkt_2, xkt_3, xkt_4, xkt_5, xkt_6, xkt_7, xkt_8, xkt_9, xkt_10, xkt_11, xkt_12, xkt_13, xkt_14, xkt_16, xkt_20, xkt_24, xkt_31, xkt_32, xkt_40, xkt_44, xkt_47, xkt_48, xkt_57, xkt_59, xkt_60, xkt_63, xkt_64, xkt_65, xkt_72, xkt_95, xkt_99, xkt_100, xkt_101, xkt_103, xkt_110, xkt_112, xkt_113, xkt_114, xkt_119, xkt_126, xkt_159, xkt_576, xkt_999, xkt_9999, xkt_65536, xkt_999999, xkt_m1, xkt_m2, xkt_m3, xkt_m4, xkt_m11, xkt_m12, xkt_m13, xkt_m14, xkt_m20, xjt_0, xjt_1, xjt_2, xjt_3, xjt_4, xjt_5, xjt_6, xjt_7, xjt_8, xjt_9, xjt_10, xjt_11, xjt_12, xjt_13, xjt_14, xjt_16, xjt_20, xjt_24, xjt_31, xjt_32, xjt_40, xjt_44, xjt_47, xjt_48, xjt_57, xjt_59, xjt_60, xjt_63, xjt_64, xjt_65, xjt_72, xjt_95, xjt_99, xjt_100, xjt_101, xjt_103, xjt_110, xjt_112, xjt_113, xjt_114, xjt_119, xjt_126, xjt_159, xjt_576, xjt_999, xjt_9999, xjt_65536, xjt_999999, xt64, xt_n, not_true_eq_false, not_false_eq_true, Classical.not_not] at c_7 c_17
      all_goals omega
    · skip
      refine xw_go xb_9 1 (f1 := (21, [.ref 0, .int x, .int y], [.int (-1)])) (h1 := (xS b, I, L, xP b)) rfl trivial ?_
      refine xw_ret xb_9 rfl rfl trivial ?_
      exact xQC_same hP

theorem c_lawn1 {d : Nat} {b : Bool} {I : Nat → Nat → Int32} {L : Nat → Nat → Int64} {N : Nat → Nat} {u : Nat} {U : Nat → Nat → Nat} (hP : xPL N u U 1 I) (hK : xUK N u U) {r c : Nat} (hr : 2 ≤ r ∧ r ≤ 8) (hc : 2 ≤ c ∧ c ≤ 8) {x : Int32} (e_x : x = nI r) {y : Int32} (e_y : y = nI c) : xm_Z (d + 3) 9 [.ref 0, .int x, .int y] (xS b, I, L, xP b) (fun rz hz => xQC b I L (nI (r * c)) (xnw N r c) 0 U rz hz) := by
  subst e_x
  subst e_y
  refine xw_S xb_9 (l := [.ref 0, .int (nI r), .int (nI c)]) (Nat.le_of_ble_eq_true rfl) rfl ?_
  refine xw_go xb_9 3 (f1 := (4, [.ref 0, .int (nI r), .int (nI c)], [.int 8, .int 2, .int (nI r)])) (h1 := (xS b, I, L, xP b)) rfl trivial ?_
  refine xw_call xb_9 rfl rfl rfl rfl rfl (Or.inl rfl) c_within ?_
  rintro _ _ ⟨rfl, rfl⟩
  refine xw_at (f' := (7, [.ref 0, .int (nI r), .int (nI c)], [.int (nI (xB (decide ((2 : Int32).toInt ≤ (nI r).toInt ∧ (nI r).toInt ≤ (8 : Int32).toInt))))])) (h' := (xS b, I, L, xP b)) rfl rfl ?_
  refine xw_go xb_9 1 (f1 := (if (nI (xB (decide ((2 : Int32).toInt ≤ (nI r).toInt ∧ (nI r).toInt ≤ (8 : Int32).toInt)))) = 0 then 20 else 10, [.ref 0, .int (nI r), .int (nI c)], [])) (h1 := (xS b, I, L, xP b)) rfl trivial ?_
  refine xw_if (fun c_7 => ?_) (fun c_7 => ?_)
  · skip
    exfalso
    try simp only [xB_dec, Classical.not_not] at c_7
    try simp (disch := omega) only [xt_eq, xt_lt, xt_le, xkt_0, xkt_1, xkt_2, xkt_3, xkt_4, xkt_5, xkt_6, xkt_7, xkt_8, xkt_9, xkt_10, xkt_11, xkt_12, xkt_13, xkt_14, xkt_16, xkt_20, xkt_24, xkt_31, xkt_32, xkt_40, xkt_44, xkt_47, xkt_48, xkt_57, xkt_59, xkt_60, xkt_63, xkt_64, xkt_65, xkt_72, xkt_95, xkt_99, xkt_100, xkt_101, xkt_103, xkt_110, xkt_112, xkt_113, xkt_114, xkt_119, xkt_126, xkt_159, xkt_576, xkt_999, xkt_9999, xkt_65536, xkt_999999, xkt_m1, xkt_m2, xkt_m3, xkt_m4, xkt_m11, xkt_m12, xkt_m13, xkt_m14, xkt_m20, xjt_0, xjt_1, xjt_2, xjt_3, xjt_4, xjt_5, xjt_6, xjt_7, xjt_8, xjt_9, xjt_10, xjt_11, xjt_12, xjt_13, xjt_14, xjt_16, xjt_20, xjt_24, xjt_31, xjt_32, xjt_40, xjt_44, xjt_47, xjt_48, xjt_57, xjt_59, xjt_60, xjt_63, xjt_64, xjt_65, xjt_72, xjt_95, xjt_99, xjt_100, xjt_101, xjt_103, xjt_110, xjt_112, xjt_113, xjt_114, xjt_119, xjt_126, xjt_159, xjt_576, xjt_999, xjt_9999, xjt_65536, xjt_999999, xt64, xt_n, not_true_eq_false, not_false_eq_true, Classical.not_not] at c_7
    all_goals omega
  · skip
    refine xw_go xb_9 3 (f1 := (14, [.ref 0, .int (nI r), .int (nI c)], [.int 8, .int 2, .int (nI c)])) (h1 := (xS b, I, L, xP b)) rfl trivial ?_
    refine xw_call xb_9 rfl rfl rfl rfl rfl (Or.inl rfl) c_within ?_
    rintro _ _ ⟨rfl, rfl⟩
    refine xw_at (f' := (17, [.ref 0, .int (nI r), .int (nI c)], [.int (nI (xB (decide ((2 : Int32).toInt ≤ (nI c).toInt ∧ (nI c).toInt ≤ (8 : Int32).toInt))))])) (h' := (xS b, I, L, xP b)) rfl rfl ?_
    refine xw_go xb_9 1 (f1 := (if ¬ (nI (xB (decide ((2 : Int32).toInt ≤ (nI c).toInt ∧ (nI c).toInt ≤ (8 : Int32).toInt)))) = 0 then 22 else 20, [.ref 0, .int (nI r), .int (nI c)], [])) (h1 := (xS b, I, L, xP b)) rfl trivial ?_
    refine xw_if (fun c_17 => ?_) (fun c_17 => ?_)
    · skip
      refine xw_go xb_9 4 (f1 := (28, [.ref 0, .int (nI r), .int (nI c)], [.int (nI c), .int (nI r), .ref 1])) (h1 := (xS b, I, L, xP b)) rfl ⟨rfl, trivial⟩ ?_
      refine xw_call xb_9 rfl rfl rfl rfl rfl (Or.inr ⟨_, _, rfl, rfl⟩) c_begin1 ?_
      rintro _ _ ⟨rfl, I1, rfl, hf, g0, g1, g5, g6, g11, g12, gk, gs, gw, gu, gv⟩
      refine xw_at (f' := (31, [.ref 0, .int (nI r), .int (nI c)], [])) (h' := (xS b, I1, L, xP b)) rfl rfl ?_
      refine xw_go xb_9 2 (f1 := (35, [.ref 0, .int (nI r), .int (nI c)], [.ref 1])) (h1 := (xS b, I1, L, xP b)) rfl ⟨rfl, trivial⟩ ?_
      refine xw_call xb_9 rfl rfl rfl rfl rfl (Or.inr ⟨_, _, rfl, rfl⟩) (c_cells (R := r) (C := c) g0 g1) ?_
      rintro _ _ ⟨rfl, rfl⟩
      refine xw_at (f' := (38, [.ref 0, .int (nI r), .int (nI c)], [.int (nI (r * c))])) (h' := (xS b, I1, L, xP b)) rfl rfl ?_
      refine xw_ret xb_9 rfl rfl trivial ?_
      obtain ⟨_, nx, hnx, hu, hx, hr⟩ := hP
      exact ⟨rfl, I1, rfl, xPF_l hf (by decide), xPL_0 (xPN_b ‹xPN N 1 I› g0 g1 g5 g6 g11 g12 gk gs gw) gu hnx (by rw [gv 2 (by decide)]; exact hx)⟩
    · skip
      exfalso
      try simp only [xB_dec, Classical.not_not] at c_7 c_17
      try simp (disch := omega) only [xt_eq, xt_lt, xt_le, xkt_0, xkt_1, xkt_2, xkt_3, xkt_4, xkt_5, xkt_6, xkt_7, xkt_8, xkt_9, xkt_10, xkt_11, xkt_12, xkt_13, xkt_14, xkt_16, xkt_20, xkt_24, xkt_31, xkt_32, xkt_40, xkt_44, xkt_47, xkt_48, xkt_57, xkt_59, xkt_60, xkt_63, xkt_64, xkt_65, xkt_72, xkt_95, xkt_99, xkt_100, xkt_101, xkt_103, xkt_110, xkt_112, xkt_113, xkt_114, xkt_119, xkt_126, xkt_159, xkt_576, xkt_999, xkt_9999, xkt_65536, xkt_999999, xkt_m1, xkt_m2, xkt_m3, xkt_m4, xkt_m11, xkt_m12, xkt_m13, xkt_m14, xkt_m20, xjt_0, xjt_1, xjt_2, xjt_3, xjt_4, xjt_5, xjt_6, xjt_7, xjt_8, xjt_9, xjt_10, xjt_11, xjt_12, xjt_13, xjt_14, xjt_16, xjt_20, xjt_24, xjt_31, xjt_32, xjt_40, xjt_44, xjt_47, xjt_48, xjt_57, xjt_59, xjt_60, xjt_63, xjt_64, xjt_65, xjt_72, xjt_95, xjt_99, xjt_100, xjt_101, xjt_103, xjt_110, xjt_112, xjt_113, xjt_114, xjt_119, xjt_126, xjt_159, xjt_576, xjt_999, xjt_9999, xjt_65536, xjt_999999, xt64, xt_n, not_true_eq_false, not_false_eq_true, Classical.not_not] at c_7 c_17
      all_goals omega

theorem m_lawn0 {d : Nat} {b : Bool} {I : Nat → Nat → Int32} {L : Nat → Nat → Int64} {N : Nat → Nat} {u : Nat} {U : Nat → Nat → Nat} (hM : xML N u U I) (hK : xUK N u U) {x y : Int32} (hx : ¬ (2 ≤ x.toInt ∧ x.toInt ≤ 8 ∧ 2 ≤ y.toInt ∧ y.toInt ≤ 8)) : xm_Z (d + 3) 107 [.ref 60, .int x, .int y] (xS b, I, L, xP b) (fun rz hz => xQM b I L (-1) N u U rz hz) := by
  refine xw_S xb_107 (l := [.ref 60, .int x, .int y]) (Nat.le_of_ble_eq_true rfl) rfl ?_
  refine xw_go xb_107 4 (f1 := (8, [.ref 60, .int x, .int y], [.long 8, .long 2, .long x.toInt64])) (h1 := (xS b, I, L, xP b)) rfl trivial ?_
  refine xw_call xb_107 rfl rfl rfl rfl rfl (Or.inl rfl) m_in ?_
  rintro _ _ ⟨rfl, rfl⟩
  refine xw_at (f' := (11, [.ref 60, .int x, .int y], [.int (nI (xB (decide ((2 : Int64).toInt ≤ x.toInt64.toInt ∧ x.toInt64.toInt ≤ (8 : Int64).toInt))))])) (h' := (xS b, I, L, xP b)) rfl rfl ?_
  refine xw_go xb_107 1 (f1 := (if (nI (xB (decide ((2 : Int64).toInt ≤ x.toInt64.toInt ∧ x.toInt64.toInt ≤ (8 : Int64).toInt)))) = 0 then 28 else 14, [.ref 60, .int x, .int y], [])) (h1 := (xS b, I, L, xP b)) rfl trivial ?_
  refine xw_if (fun c_11 => ?_) (fun c_11 => ?_)
  · skip
    refine xw_go xb_107 1 (f1 := (29, [.ref 60, .int x, .int y], [.int (-1)])) (h1 := (xS b, I, L, xP b)) rfl trivial ?_
    refine xw_ret xb_107 rfl rfl trivial ?_
    exact xQM_same hM
  · skip
    refine xw_go xb_107 4 (f1 := (22, [.ref 60, .int x, .int y], [.long 8, .long 2, .long y.toInt64])) (h1 := (xS b, I, L, xP b)) rfl trivial ?_
    refine xw_call xb_107 rfl rfl rfl rfl rfl (Or.inl rfl) m_in ?_
    rintro _ _ ⟨rfl, rfl⟩
    refine xw_at (f' := (25, [.ref 60, .int x, .int y], [.int (nI (xB (decide ((2 : Int64).toInt ≤ y.toInt64.toInt ∧ y.toInt64.toInt ≤ (8 : Int64).toInt))))])) (h' := (xS b, I, L, xP b)) rfl rfl ?_
    refine xw_go xb_107 1 (f1 := (if ¬ (nI (xB (decide ((2 : Int64).toInt ≤ y.toInt64.toInt ∧ y.toInt64.toInt ≤ (8 : Int64).toInt)))) = 0 then 30 else 28, [.ref 60, .int x, .int y], [])) (h1 := (xS b, I, L, xP b)) rfl trivial ?_
    refine xw_if (fun c_25 => ?_) (fun c_25 => ?_)
    · skip
      exfalso
      try simp only [xB_dec, Classical.not_not] at c_11 c_25
      try simp (disch := omega) only [xt_eq, xt_lt, xt_le, xkt_0, xkt_1, xkt_2, xkt_3, xkt_4, xkt_5, xkt_6, xkt_7, xkt_8, xkt_9, xkt_10, xkt_11, xkt_12, xkt_13, xkt_14, xkt_16, xkt_20, xkt_24, xkt_31, xkt_32, xkt_40, xkt_44, xkt_47, xkt_48, xkt_57, xkt_59, xkt_60, xkt_63, xkt_64, xkt_65, xkt_72, xkt_95, xkt_99, xkt_100, xkt_101, xkt_103, xkt_110, xkt_112, xkt_113, xkt_114, xkt_119, xkt_126, xkt_159, xkt_576, xkt_999, xkt_9999, xkt_65536, xkt_999999, xkt_m1, xkt_m2, xkt_m3, xkt_m4, xkt_m11, xkt_m12, xkt_m13, xkt_m14, xkt_m20, xjt_0, xjt_1, xjt_2, xjt_3, xjt_4, xjt_5, xjt_6, xjt_7, xjt_8, xjt_9, xjt_10, xjt_11, xjt_12, xjt_13, xjt_14, xjt_16, xjt_20, xjt_24, xjt_31, xjt_32, xjt_40, xjt_44, xjt_47, xjt_48, xjt_57, xjt_59, xjt_60, xjt_63, xjt_64, xjt_65, xjt_72, xjt_95, xjt_99, xjt_100, xjt_101, xjt_103, xjt_110, xjt_112, xjt_113, xjt_114, xjt_119, xjt_126, xjt_159, xjt_576, xjt_999, xjt_9999, xjt_65536, xjt_999999, xt64, xt_n, not_true_eq_false, not_false_eq_true, Classical.not_not] at c_11 c_25
      all_goals omega
    · skip
      refine xw_go xb_107 1 (f1 := (29, [.ref 60, .int x, .int y], [.int (-1)])) (h1 := (xS b, I, L, xP b)) rfl trivial ?_
      refine xw_ret xb_107 rfl rfl trivial ?_
      exact xQM_same hM

theorem m_lawn1 {d : Nat} {b : Bool} {I : Nat → Nat → Int32} {L : Nat → Nat → Int64} {N : Nat → Nat} {u : Nat} {U : Nat → Nat → Nat} (hM : xML N u U I) (hK : xUK N u U) {r c : Nat} (hr : 2 ≤ r ∧ r ≤ 8) (hc : 2 ≤ c ∧ c ≤ 8) {x : Int32} (e_x : x = nI r) {y : Int32} (e_y : y = nI c) : xm_Z (d + 3) 107 [.ref 60, .int x, .int y] (xS b, I, L, xP b) (fun rz hz => xQM b I L (nI (r * c)) (xnw N r c) 0 U rz hz) := by
  subst e_x
  subst e_y
  refine xw_S xb_107 (l := [.ref 60, .int (nI r), .int (nI c)]) (Nat.le_of_ble_eq_true rfl) rfl ?_
  refine xw_go xb_107 4 (f1 := (8, [.ref 60, .int (nI r), .int (nI c)], [.long 8, .long 2, .long ((nI r).toInt64)])) (h1 := (xS b, I, L, xP b)) rfl trivial ?_
  refine xw_call xb_107 rfl rfl rfl rfl rfl (Or.inl rfl) m_in ?_
  rintro _ _ ⟨rfl, rfl⟩
  refine xw_at (f' := (11, [.ref 60, .int (nI r), .int (nI c)], [.int (nI (xB (decide ((2 : Int64).toInt ≤ (nI r).toInt64.toInt ∧ (nI r).toInt64.toInt ≤ (8 : Int64).toInt))))])) (h' := (xS b, I, L, xP b)) rfl rfl ?_
  refine xw_go xb_107 1 (f1 := (if (nI (xB (decide ((2 : Int64).toInt ≤ (nI r).toInt64.toInt ∧ (nI r).toInt64.toInt ≤ (8 : Int64).toInt)))) = 0 then 28 else 14, [.ref 60, .int (nI r), .int (nI c)], [])) (h1 := (xS b, I, L, xP b)) rfl trivial ?_
  refine xw_if (fun c_11 => ?_) (fun c_11 => ?_)
  · skip
    exfalso
    try simp only [xB_dec, Classical.not_not] at c_11
    try simp (disch := omega) only [xt_eq, xt_lt, xt_le, xkt_0, xkt_1, xkt_2, xkt_3, xkt_4, xkt_5, xkt_6, xkt_7, xkt_8, xkt_9, xkt_10, xkt_11, xkt_12, xkt_13, xkt_14, xkt_16, xkt_20, xkt_24, xkt_31, xkt_32, xkt_40, xkt_44, xkt_47, xkt_48, xkt_57, xkt_59, xkt_60, xkt_63, xkt_64, xkt_65, xkt_72, xkt_95, xkt_99, xkt_100, xkt_101, xkt_103, xkt_110, xkt_112, xkt_113, xkt_114, xkt_119, xkt_126, xkt_159, xkt_576, xkt_999, xkt_9999, xkt_65536, xkt_999999, xkt_m1, xkt_m2, xkt_m3, xkt_m4, xkt_m11, xkt_m12, xkt_m13, xkt_m14, xkt_m20, xjt_0, xjt_1, xjt_2, xjt_3, xjt_4, xjt_5, xjt_6, xjt_7, xjt_8, xjt_9, xjt_10, xjt_11, xjt_12, xjt_13, xjt_14, xjt_16, xjt_20, xjt_24, xjt_31, xjt_32, xjt_40, xjt_44, xjt_47, xjt_48, xjt_57, xjt_59, xjt_60, xjt_63, xjt_64, xjt_65, xjt_72, xjt_95, xjt_99, xjt_100, xjt_101, xjt_103, xjt_110, xjt_112, xjt_113, xjt_114, xjt_119, xjt_126, xjt_159, xjt_576, xjt_999, xjt_9999, xjt_65536, xjt_999999, xt64, xt_n, not_true_eq_false, not_false_eq_true, Classical.not_not] at c_11
    all_goals omega
  · skip
    refine xw_go xb_107 4 (f1 := (22, [.ref 60, .int (nI r), .int (nI c)], [.long 8, .long 2, .long ((nI c).toInt64)])) (h1 := (xS b, I, L, xP b)) rfl trivial ?_
    refine xw_call xb_107 rfl rfl rfl rfl rfl (Or.inl rfl) m_in ?_
    rintro _ _ ⟨rfl, rfl⟩
    refine xw_at (f' := (25, [.ref 60, .int (nI r), .int (nI c)], [.int (nI (xB (decide ((2 : Int64).toInt ≤ (nI c).toInt64.toInt ∧ (nI c).toInt64.toInt ≤ (8 : Int64).toInt))))])) (h' := (xS b, I, L, xP b)) rfl rfl ?_
    refine xw_go xb_107 1 (f1 := (if ¬ (nI (xB (decide ((2 : Int64).toInt ≤ (nI c).toInt64.toInt ∧ (nI c).toInt64.toInt ≤ (8 : Int64).toInt)))) = 0 then 30 else 28, [.ref 60, .int (nI r), .int (nI c)], [])) (h1 := (xS b, I, L, xP b)) rfl trivial ?_
    refine xw_if (fun c_25 => ?_) (fun c_25 => ?_)
    · skip
      refine xw_go xb_107 3 (f1 := (33, [.ref 60, .int (nI r), .int (nI c)], [.int (nI c), .int (nI r), .ref 60])) (h1 := (xS b, I, L, xP b)) rfl trivial ?_
      refine xw_call xb_107 rfl rfl rfl rfl rfl (Or.inr ⟨_, _, rfl, rfl⟩) (m_freshLawn hM.1 rfl rfl) ?_
      rintro _ _ ⟨rfl, I1, rfl, g1, g2, g3⟩
      refine xw_at (f' := (36, [.ref 60, .int (nI r), .int (nI c)], [])) (h' := (xS b, I1, L, xP b)) rfl rfl ?_
      refine xw_go xb_107 3 (f1 := (39, [.ref 60, .int (nI r), .int (nI c)], [.int ((nI r) * (nI c))])) (h1 := (xS b, I1, L, xP b)) rfl trivial ?_
      refine xw_ret xb_107 rfl rfl trivial ?_
      refine ⟨xm_some (congrArg Value.int (pk_mul _ _)), I1, rfl, g3, g1, g2, fun j hj => absurd hj (Nat.not_lt_zero j)⟩
    · skip
      exfalso
      try simp only [xB_dec, Classical.not_not] at c_11 c_25
      try simp (disch := omega) only [xt_eq, xt_lt, xt_le, xkt_0, xkt_1, xkt_2, xkt_3, xkt_4, xkt_5, xkt_6, xkt_7, xkt_8, xkt_9, xkt_10, xkt_11, xkt_12, xkt_13, xkt_14, xkt_16, xkt_20, xkt_24, xkt_31, xkt_32, xkt_40, xkt_44, xkt_47, xkt_48, xkt_57, xkt_59, xkt_60, xkt_63, xkt_64, xkt_65, xkt_72, xkt_95, xkt_99, xkt_100, xkt_101, xkt_103, xkt_110, xkt_112, xkt_113, xkt_114, xkt_119, xkt_126, xkt_159, xkt_576, xkt_999, xkt_9999, xkt_65536, xkt_999999, xkt_m1, xkt_m2, xkt_m3, xkt_m4, xkt_m11, xkt_m12, xkt_m13, xkt_m14, xkt_m20, xjt_0, xjt_1, xjt_2, xjt_3, xjt_4, xjt_5, xjt_6, xjt_7, xjt_8, xjt_9, xjt_10, xjt_11, xjt_12, xjt_13, xjt_14, xjt_16, xjt_20, xjt_24, xjt_31, xjt_32, xjt_40, xjt_44, xjt_47, xjt_48, xjt_57, xjt_59, xjt_60, xjt_63, xjt_64, xjt_65, xjt_72, xjt_95, xjt_99, xjt_100, xjt_101, xjt_103, xjt_110, xjt_112, xjt_113, xjt_114, xjt_119, xjt_126, xjt_159, xjt_576, xjt_999, xjt_9999, xjt_65536, xjt_999999, xt64, xt_n, not_true_eq_false, not_false_eq_true, Classical.not_not] at c_11 c_25
      all_goals omega

theorem c_soil0 {d : Nat} {b : Bool} {I : Nat → Nat → Int32} {L : Nat → Nat → Int64} {N : Nat → Nat} {u : Nat} {U : Nat → Nat → Nat} (hP : xPL N u U 1 I) (hK : xUK N u U) {x y : Int32} (hx : ¬ (0 ≤ x.toInt ∧ x.toInt < ((N 0 * N 1 : Nat) : Int) ∧ 0 ≤ y.toInt ∧ y.toInt ≤ 2)) : xm_Z (d + 3) 14 [.ref 0, .int x, .int y] (xS b, I, L, xP b) (fun rz hz => xQC b I L (-1) N u U rz hz) := by
  have hO := hK.1
  have hb := hK.1.1
  have c64 : N 0 * N 1 ≤ 64 := xce_le hO
  have c4 : 4 ≤ N 0 * N 1 := xce_ge hO
  obtain ⟨⟨hN0, hN1, hN2, hN3, hN4, hN5, hN6, hN7, hN8, hN9, hN10⟩, hNs, hNw, hNp⟩ := hP.1
  refine xw_S xb_14 (l := [.ref 0, .int x, .int y, .float 0]) (Nat.le_of_ble_eq_true rfl) rfl ?_
  refine xw_go xb_14 3 (f1 := (5, [.ref 0, .int x, .int y, .float 0], [.int x, .ref 1])) (h1 := (xS b, I, L, xP b)) rfl ⟨rfl, trivial⟩ ?_
  refine xw_call xb_14 rfl rfl rfl rfl rfl (Or.inr ⟨_, _, rfl, rfl⟩) (c_hasCell (I := I) hN0 hN1 (by omega) (by omega) (by omega)) ?_
  rintro _ _ ⟨rfl, rfl⟩
  refine xw_at (f' := (8, [.ref 0, .int x, .int y, .float 0], [.int (nI (xB (decide (0 ≤ x.toInt ∧ x.toInt < ((N 0 * N 1 : Nat) : Int)))))])) (h' := (xS b, I, L, xP b)) rfl rfl ?_
  refine xw_go xb_14 1 (f1 := (if (nI (xB (decide (0 ≤ x.toInt ∧ x.toInt < ((N 0 * N 1 : Nat) : Int))))) = 0 then 20 else 11, [.ref 0, .int x, .int y, .float 0], [])) (h1 := (xS b, I, L, xP b)) rfl trivial ?_
  refine xw_if (fun c_8 => ?_) (fun c_8 => ?_)
  · skip
    refine xw_go xb_14 1 (f1 := (21, [.ref 0, .int x, .int y, .float 0], [.int (-1)])) (h1 := (xS b, I, L, xP b)) rfl trivial ?_
    refine xw_ret xb_14 rfl rfl trivial ?_
    exact xQC_same hP
  · skip
    refine xw_go xb_14 3 (f1 := (14, [.ref 0, .int x, .int y, .float 0], [.int 2, .int 0, .int y])) (h1 := (xS b, I, L, xP b)) rfl trivial ?_
    refine xw_call xb_14 rfl rfl rfl rfl rfl (Or.inl rfl) c_within ?_
    rintro _ _ ⟨rfl, rfl⟩
    refine xw_at (f' := (17, [.ref 0, .int x, .int y, .float 0], [.int (nI (xB (decide ((0 : Int32).toInt ≤ y.toInt ∧ y.toInt ≤ (2 : Int32).toInt))))])) (h' := (xS b, I, L, xP b)) rfl rfl ?_
    refine xw_go xb_14 1 (f1 := (if ¬ (nI (xB (decide ((0 : Int32).toInt ≤ y.toInt ∧ y.toInt ≤ (2 : Int32).toInt)))) = 0 then 22 else 20, [.ref 0, .int x, .int y, .float 0], [])) (h1 := (xS b, I, L, xP b)) rfl trivial ?_
    refine xw_if (fun c_17 => ?_) (fun c_17 => ?_)
    · skip
      exfalso
      try simp only [xB_dec, Classical.not_not] at c_8 c_17
      try simp (disch := omega) only [xt_eq, xt_lt, xt_le, xkt_0, xkt_1, xkt_2, xkt_3, xkt_4, xkt_5, xkt_6, xkt_7, xkt_8, xkt_9, xkt_10, xkt_11, xkt_12, xkt_13, xkt_14, xkt_16, xkt_20, xkt_24, xkt_31, xkt_32, xkt_40, xkt_44, xkt_47, xkt_48, xkt_57, xkt_59, xkt_60, xkt_63, xkt_64, xkt_65, xkt_72, xkt_95, xkt_99, xkt_100, xkt_101, xkt_103, xkt_110, xkt_112, xkt_113, xkt_114, xkt_119, xkt_126, xkt_159, xkt_576, xkt_999, xkt_9999, xkt_65536, xkt_999999, xkt_m1, xkt_m2, xkt_m3, xkt_m4, xkt_m11, xkt_m12, xkt_m13, xkt_m14, xkt_m20, xjt_0, xjt_1, xjt_2, xjt_3, xjt_4, xjt_5, xjt_6, xjt_7, xjt_8, xjt_9, xjt_10, xjt_11, xjt_12, xjt_13, xjt_14, xjt_16, xjt_20, xjt_24, xjt_31, xjt_32, xjt_40, xjt_44, xjt_47, xjt_48, xjt_57, xjt_59, xjt_60, xjt_63, xjt_64, xjt_65, xjt_72, xjt_95, xjt_99, xjt_100, xjt_101, xjt_103, xjt_110, xjt_112, xjt_113, xjt_114, xjt_119, xjt_126, xjt_159, xjt_576, xjt_999, xjt_9999, xjt_65536, xjt_999999, xt64, xt_n, not_true_eq_false, not_false_eq_true, Classical.not_not] at c_8 c_17
      all_goals omega
    · skip
      refine xw_go xb_14 1 (f1 := (21, [.ref 0, .int x, .int y, .float 0], [.int (-1)])) (h1 := (xS b, I, L, xP b)) rfl trivial ?_
      refine xw_ret xb_14 rfl rfl trivial ?_
      exact xQC_same hP

theorem c_soil1 {d : Nat} {b : Bool} {I : Nat → Nat → Int32} {L : Nat → Nat → Int64} {N : Nat → Nat} {u : Nat} {U : Nat → Nat → Nat} (hP : xPL N u U 1 I) (hK : xUK N u U) {c w : Nat} (hc : c < N 0 * N 1) (hw : w < 3) {x : Int32} (e_x : x = nI c) {y : Int32} (e_y : y = nI w) : xm_Z (d + 3) 14 [.ref 0, .int x, .int y] (xS b, I, L, xP b) (fun rz hz => xQC b I L (nI (N (31 + c))) (va_up N (31 + c) w) u U rz hz) := by
  subst e_x
  subst e_y
  have hO := hK.1
  have hb := hK.1.1
  have c64 : N 0 * N 1 ≤ 64 := xce_le hO
  have c4 : 4 ≤ N 0 * N 1 := xce_ge hO
  obtain ⟨⟨hN0, hN1, hN2, hN3, hN4, hN5, hN6, hN7, hN8, hN9, hN10⟩, hNs, hNw, hNp⟩ := hP.1
  refine xw_S xb_14 (l := [.ref 0, .int (nI c), .int (nI w), .float 0]) (Nat.le_of_ble_eq_true rfl) rfl ?_
  refine xw_go xb_14 3 (f1 := (5, [.ref 0, .int (nI c), .int (nI w), .float 0], [.int (nI c), .ref 1])) (h1 := (xS b, I, L, xP b)) rfl ⟨rfl, trivial⟩ ?_
  refine xw_call xb_14 rfl rfl rfl rfl rfl (Or.inr ⟨_, _, rfl, rfl⟩) (c_hasCell (I := I) hN0 hN1 (by omega) (by omega) (by omega)) ?_
  rintro _ _ ⟨rfl, rfl⟩
  refine xw_at (f' := (8, [.ref 0, .int (nI c), .int (nI w), .float 0], [.int (nI (xB (decide (0 ≤ (nI c).toInt ∧ (nI c).toInt < ((N 0 * N 1 : Nat) : Int)))))])) (h' := (xS b, I, L, xP b)) rfl rfl ?_
  refine xw_go xb_14 1 (f1 := (if (nI (xB (decide (0 ≤ (nI c).toInt ∧ (nI c).toInt < ((N 0 * N 1 : Nat) : Int))))) = 0 then 20 else 11, [.ref 0, .int (nI c), .int (nI w), .float 0], [])) (h1 := (xS b, I, L, xP b)) rfl trivial ?_
  refine xw_if (fun c_8 => ?_) (fun c_8 => ?_)
  · skip
    exfalso
    try simp only [xB_dec, Classical.not_not] at c_8
    try simp (disch := omega) only [xt_eq, xt_lt, xt_le, xkt_0, xkt_1, xkt_2, xkt_3, xkt_4, xkt_5, xkt_6, xkt_7, xkt_8, xkt_9, xkt_10, xkt_11, xkt_12, xkt_13, xkt_14, xkt_16, xkt_20, xkt_24, xkt_31, xkt_32, xkt_40, xkt_44, xkt_47, xkt_48, xkt_57, xkt_59, xkt_60, xkt_63, xkt_64, xkt_65, xkt_72, xkt_95, xkt_99, xkt_100, xkt_101, xkt_103, xkt_110, xkt_112, xkt_113, xkt_114, xkt_119, xkt_126, xkt_159, xkt_576, xkt_999, xkt_9999, xkt_65536, xkt_999999, xkt_m1, xkt_m2, xkt_m3, xkt_m4, xkt_m11, xkt_m12, xkt_m13, xkt_m14, xkt_m20, xjt_0, xjt_1, xjt_2, xjt_3, xjt_4, xjt_5, xjt_6, xjt_7, xjt_8, xjt_9, xjt_10, xjt_11, xjt_12, xjt_13, xjt_14, xjt_16, xjt_20, xjt_24, xjt_31, xjt_32, xjt_40, xjt_44, xjt_47, xjt_48, xjt_57, xjt_59, xjt_60, xjt_63, xjt_64, xjt_65, xjt_72, xjt_95, xjt_99, xjt_100, xjt_101, xjt_103, xjt_110, xjt_112, xjt_113, xjt_114, xjt_119, xjt_126, xjt_159, xjt_576, xjt_999, xjt_9999, xjt_65536, xjt_999999, xt64, xt_n, not_true_eq_false, not_false_eq_true, Classical.not_not] at c_8
    all_goals omega
  · skip
    refine xw_go xb_14 3 (f1 := (14, [.ref 0, .int (nI c), .int (nI w), .float 0], [.int 2, .int 0, .int (nI w)])) (h1 := (xS b, I, L, xP b)) rfl trivial ?_
    refine xw_call xb_14 rfl rfl rfl rfl rfl (Or.inl rfl) c_within ?_
    rintro _ _ ⟨rfl, rfl⟩
    refine xw_at (f' := (17, [.ref 0, .int (nI c), .int (nI w), .float 0], [.int (nI (xB (decide ((0 : Int32).toInt ≤ (nI w).toInt ∧ (nI w).toInt ≤ (2 : Int32).toInt))))])) (h' := (xS b, I, L, xP b)) rfl rfl ?_
    refine xw_go xb_14 1 (f1 := (if ¬ (nI (xB (decide ((0 : Int32).toInt ≤ (nI w).toInt ∧ (nI w).toInt ≤ (2 : Int32).toInt)))) = 0 then 22 else 20, [.ref 0, .int (nI c), .int (nI w), .float 0], [])) (h1 := (xS b, I, L, xP b)) rfl trivial ?_
    refine xw_if (fun c_17 => ?_) (fun c_17 => ?_)
    · skip
      refine xw_go xb_14 13 (f1 := (43, [.ref 0, .int (nI c), .int (nI w), .int (I 2 (nI c).toNatClampNeg)], [.int (I 2 (nI c).toNatClampNeg)])) (h1 := (xS b, xm_up I 2 (nI c).toNatClampNeg (nI w), L, xP b)) rfl ⟨rfl, rfl, (xn_ar (n := c) (N := 64) rfl (by omega) (by decide)), rfl, rfl, (xn_ar (n := c) (N := 64) rfl (by omega) (by decide)), trivial⟩ ?_
      refine xw_ret xb_14 rfl rfl trivial ?_
      rw [xn_cl (by omega)]
      refine ⟨xm_some (congrArg Value.int (hNs c (by omega))), _, rfl, xPF_u (xPF_r I) (by decide), xPL_N hP (xPN_u (k := 31 + c) (by omega) hP.1 (by omega) ?_ ?_ rfl) ?_ (fun a h1 h2 => xm_up_o (by omega))⟩
      · unfold xrow
        rw [if_neg (by omega), if_neg (by omega), if_pos (by omega)]
      · unfold xcol
        rw [if_neg (by omega), if_neg (by omega), if_pos (by omega)]
        omega
      · exact xm_vu_o (by omega)
    · skip
      exfalso
      try simp only [xB_dec, Classical.not_not] at c_8 c_17
      try simp (disch := omega) only [xt_eq, xt_lt, xt_le, xkt_0, xkt_1, xkt_2, xkt_3, xkt_4, xkt_5, xkt_6, xkt_7, xkt_8, xkt_9, xkt_10, xkt_11, xkt_12, xkt_13, xkt_14, xkt_16, xkt_20, xkt_24, xkt_31, xkt_32, xkt_40, xkt_44, xkt_47, xkt_48, xkt_57, xkt_59, xkt_60, xkt_63, xkt_64, xkt_65, xkt_72, xkt_95, xkt_99, xkt_100, xkt_101, xkt_103, xkt_110, xkt_112, xkt_113, xkt_114, xkt_119, xkt_126, xkt_159, xkt_576, xkt_999, xkt_9999, xkt_65536, xkt_999999, xkt_m1, xkt_m2, xkt_m3, xkt_m4, xkt_m11, xkt_m12, xkt_m13, xkt_m14, xkt_m20, xjt_0, xjt_1, xjt_2, xjt_3, xjt_4, xjt_5, xjt_6, xjt_7, xjt_8, xjt_9, xjt_10, xjt_11, xjt_12, xjt_13, xjt_14, xjt_16, xjt_20, xjt_24, xjt_31, xjt_32, xjt_40, xjt_44, xjt_47, xjt_48, xjt_57, xjt_59, xjt_60, xjt_63, xjt_64, xjt_65, xjt_72, xjt_95, xjt_99, xjt_100, xjt_101, xjt_103, xjt_110, xjt_112, xjt_113, xjt_114, xjt_119, xjt_126, xjt_159, xjt_576, xjt_999, xjt_9999, xjt_65536, xjt_999999, xt64, xt_n, not_true_eq_false, not_false_eq_true, Classical.not_not] at c_8 c_17
      all_goals omega

theorem m_soil0 {d : Nat} {b : Bool} {I : Nat → Nat → Int32} {L : Nat → Nat → Int64} {N : Nat → Nat} {u : Nat} {U : Nat → Nat → Nat} (hM : xML N u U I) (hK : xUK N u U) {x y : Int32} (hx : ¬ (0 ≤ x.toInt ∧ x.toInt < ((N 0 * N 1 : Nat) : Int) ∧ 0 ≤ y.toInt ∧ y.toInt ≤ 2)) : xm_Z (d + 3) 110 [.ref 60, .int x, .int y] (xS b, I, L, xP b) (fun rz hz => xQM b I L (-1) N u U rz hz) := by
  have hO := hK.1
  have hb := hK.1.1
  have c64 : N 0 * N 1 ≤ 64 := xce_le hO
  have c4 : 4 ≤ N 0 * N 1 := xce_ge hO
  refine xw_S xb_110 (l := [.ref 60, .int x, .int y, .float 0]) (Nat.le_of_ble_eq_true rfl) rfl ?_
  refine xw_go xb_110 2 (f1 := (2, [.ref 60, .int x, .int y, .float 0], [.int x, .ref 60])) (h1 := (xS b, I, L, xP b)) rfl trivial ?_
  refine xw_call xb_110 rfl rfl rfl rfl rfl (Or.inr ⟨_, _, rfl, rfl⟩) (m_isCell (I := I) hM.1 hO) ?_
  rintro _ _ ⟨rfl, rfl⟩
  refine xw_at (f' := (5, [.ref 60, .int x, .int y, .float 0], [.int (nI (xB (decide (0 ≤ x.toInt ∧ x.toInt < ((N 0 * N 1 : Nat) : Int)))))])) (h' := (xS b, I, L, xP b)) rfl rfl ?_
  refine xw_go xb_110 1 (f1 := (if (nI (xB (decide (0 ≤ x.toInt ∧ x.toInt < ((N 0 * N 1 : Nat) : Int))))) = 0 then 20 else 8, [.ref 60, .int x, .int y, .float 0], [])) (h1 := (xS b, I, L, xP b)) rfl trivial ?_
  refine xw_if (fun c_5 => ?_) (fun c_5 => ?_)
  · skip
    refine xw_go xb_110 1 (f1 := (21, [.ref 60, .int x, .int y, .float 0], [.int (-1)])) (h1 := (xS b, I, L, xP b)) rfl trivial ?_
    refine xw_ret xb_110 rfl rfl trivial ?_
    exact xQM_same hM
  · skip
    refine xw_go xb_110 4 (f1 := (14, [.ref 60, .int x, .int y, .float 0], [.long 2, .long 0, .long y.toInt64])) (h1 := (xS b, I, L, xP b)) rfl trivial ?_
    refine xw_call xb_110 rfl rfl rfl rfl rfl (Or.inl rfl) m_in ?_
    rintro _ _ ⟨rfl, rfl⟩
    refine xw_at (f' := (17, [.ref 60, .int x, .int y, .float 0], [.int (nI (xB (decide ((0 : Int64).toInt ≤ y.toInt64.toInt ∧ y.toInt64.toInt ≤ (2 : Int64).toInt))))])) (h' := (xS b, I, L, xP b)) rfl rfl ?_
    refine xw_go xb_110 1 (f1 := (if ¬ (nI (xB (decide ((0 : Int64).toInt ≤ y.toInt64.toInt ∧ y.toInt64.toInt ≤ (2 : Int64).toInt)))) = 0 then 22 else 20, [.ref 60, .int x, .int y, .float 0], [])) (h1 := (xS b, I, L, xP b)) rfl trivial ?_
    refine xw_if (fun c_17 => ?_) (fun c_17 => ?_)
    · skip
      exfalso
      try simp only [xB_dec, Classical.not_not] at c_5 c_17
      try simp (disch := omega) only [xt_eq, xt_lt, xt_le, xkt_0, xkt_1, xkt_2, xkt_3, xkt_4, xkt_5, xkt_6, xkt_7, xkt_8, xkt_9, xkt_10, xkt_11, xkt_12, xkt_13, xkt_14, xkt_16, xkt_20, xkt_24, xkt_31, xkt_32, xkt_40, xkt_44, xkt_47, xkt_48, xkt_57, xkt_59, xkt_60, xkt_63, xkt_64, xkt_65, xkt_72, xkt_95, xkt_99, xkt_100, xkt_101, xkt_103, xkt_110, xkt_112, xkt_113, xkt_114, xkt_119, xkt_126, xkt_159, xkt_576, xkt_999, xkt_9999, xkt_65536, xkt_999999, xkt_m1, xkt_m2, xkt_m3, xkt_m4, xkt_m11, xkt_m12, xkt_m13, xkt_m14, xkt_m20, xjt_0, xjt_1, xjt_2, xjt_3, xjt_4, xjt_5, xjt_6, xjt_7, xjt_8, xjt_9, xjt_10, xjt_11, xjt_12, xjt_13, xjt_14, xjt_16, xjt_20, xjt_24, xjt_31, xjt_32, xjt_40, xjt_44, xjt_47, xjt_48, xjt_57, xjt_59, xjt_60, xjt_63, xjt_64, xjt_65, xjt_72, xjt_95, xjt_99, xjt_100, xjt_101, xjt_103, xjt_110, xjt_112, xjt_113, xjt_114, xjt_119, xjt_126, xjt_159, xjt_576, xjt_999, xjt_9999, xjt_65536, xjt_999999, xt64, xt_n, not_true_eq_false, not_false_eq_true, Classical.not_not] at c_5 c_17
      all_goals omega
    · skip
      refine xw_go xb_110 1 (f1 := (21, [.ref 60, .int x, .int y, .float 0], [.int (-1)])) (h1 := (xS b, I, L, xP b)) rfl trivial ?_
      refine xw_ret xb_110 rfl rfl trivial ?_
      exact xQM_same hM

theorem m_soil1 {d : Nat} {b : Bool} {I : Nat → Nat → Int32} {L : Nat → Nat → Int64} {N : Nat → Nat} {u : Nat} {U : Nat → Nat → Nat} (hM : xML N u U I) (hK : xUK N u U) {c w : Nat} (hc : c < N 0 * N 1) (hw : w < 3) {x : Int32} (e_x : x = nI c) {y : Int32} (e_y : y = nI w) : xm_Z (d + 3) 110 [.ref 60, .int x, .int y] (xS b, I, L, xP b) (fun rz hz => xQM b I L (nI (N (31 + c))) (va_up N (31 + c) w) u U rz hz) := by
  subst e_x
  subst e_y
  have hO := hK.1
  have hb := hK.1.1
  have c64 : N 0 * N 1 ≤ 64 := xce_le hO
  have c4 : 4 ≤ N 0 * N 1 := xce_ge hO
  refine xw_S xb_110 (l := [.ref 60, .int (nI c), .int (nI w), .float 0]) (Nat.le_of_ble_eq_true rfl) rfl ?_
  refine xw_go xb_110 2 (f1 := (2, [.ref 60, .int (nI c), .int (nI w), .float 0], [.int (nI c), .ref 60])) (h1 := (xS b, I, L, xP b)) rfl trivial ?_
  refine xw_call xb_110 rfl rfl rfl rfl rfl (Or.inr ⟨_, _, rfl, rfl⟩) (m_isCell (I := I) hM.1 hO) ?_
  rintro _ _ ⟨rfl, rfl⟩
  refine xw_at (f' := (5, [.ref 60, .int (nI c), .int (nI w), .float 0], [.int (nI (xB (decide (0 ≤ (nI c).toInt ∧ (nI c).toInt < ((N 0 * N 1 : Nat) : Int)))))])) (h' := (xS b, I, L, xP b)) rfl rfl ?_
  refine xw_go xb_110 1 (f1 := (if (nI (xB (decide (0 ≤ (nI c).toInt ∧ (nI c).toInt < ((N 0 * N 1 : Nat) : Int))))) = 0 then 20 else 8, [.ref 60, .int (nI c), .int (nI w), .float 0], [])) (h1 := (xS b, I, L, xP b)) rfl trivial ?_
  refine xw_if (fun c_5 => ?_) (fun c_5 => ?_)
  · skip
    exfalso
    try simp only [xB_dec, Classical.not_not] at c_5
    try simp (disch := omega) only [xt_eq, xt_lt, xt_le, xkt_0, xkt_1, xkt_2, xkt_3, xkt_4, xkt_5, xkt_6, xkt_7, xkt_8, xkt_9, xkt_10, xkt_11, xkt_12, xkt_13, xkt_14, xkt_16, xkt_20, xkt_24, xkt_31, xkt_32, xkt_40, xkt_44, xkt_47, xkt_48, xkt_57, xkt_59, xkt_60, xkt_63, xkt_64, xkt_65, xkt_72, xkt_95, xkt_99, xkt_100, xkt_101, xkt_103, xkt_110, xkt_112, xkt_113, xkt_114, xkt_119, xkt_126, xkt_159, xkt_576, xkt_999, xkt_9999, xkt_65536, xkt_999999, xkt_m1, xkt_m2, xkt_m3, xkt_m4, xkt_m11, xkt_m12, xkt_m13, xkt_m14, xkt_m20, xjt_0, xjt_1, xjt_2, xjt_3, xjt_4, xjt_5, xjt_6, xjt_7, xjt_8, xjt_9, xjt_10, xjt_11, xjt_12, xjt_13, xjt_14, xjt_16, xjt_20, xjt_24, xjt_31, xjt_32, xjt_40, xjt_44, xjt_47, xjt_48, xjt_57, xjt_59, xjt_60, xjt_63, xjt_64, xjt_65, xjt_72, xjt_95, xjt_99, xjt_100, xjt_101, xjt_103, xjt_110, xjt_112, xjt_113, xjt_114, xjt_119, xjt_126, xjt_159, xjt_576, xjt_999, xjt_9999, xjt_65536, xjt_999999, xt64, xt_n, not_true_eq_false, not_false_eq_true, Classical.not_not] at c_5
    all_goals omega
  · skip
    refine xw_go xb_110 4 (f1 := (14, [.ref 60, .int (nI c), .int (nI w), .float 0], [.long 2, .long 0, .long ((nI w).toInt64)])) (h1 := (xS b, I, L, xP b)) rfl trivial ?_
    refine xw_call xb_110 rfl rfl rfl rfl rfl (Or.inl rfl) m_in ?_
    rintro _ _ ⟨rfl, rfl⟩
    refine xw_at (f' := (17, [.ref 60, .int (nI c), .int (nI w), .float 0], [.int (nI (xB (decide ((0 : Int64).toInt ≤ (nI w).toInt64.toInt ∧ (nI w).toInt64.toInt ≤ (2 : Int64).toInt))))])) (h' := (xS b, I, L, xP b)) rfl rfl ?_
    refine xw_go xb_110 1 (f1 := (if ¬ (nI (xB (decide ((0 : Int64).toInt ≤ (nI w).toInt64.toInt ∧ (nI w).toInt64.toInt ≤ (2 : Int64).toInt)))) = 0 then 22 else 20, [.ref 60, .int (nI c), .int (nI w), .float 0], [])) (h1 := (xS b, I, L, xP b)) rfl trivial ?_
    refine xw_if (fun c_17 => ?_) (fun c_17 => ?_)
    · skip
      refine xw_go xb_110 15 (f1 := (43, [.ref 60, .int (nI c), .int (nI w), .int (I 61 (31 + (nI c)).toNatClampNeg)], [.int (I 61 (31 + (nI c)).toNatClampNeg)])) (h1 := (xS b, xm_up I 61 (31 + (nI c)).toNatClampNeg (nI w), L, xP b)) rfl ⟨rfl, (xn_ar' (n := 31 + c) (N := 159) rfl (show 31 + nI c = _ by rw [xl_31, nI_add]) (by omega) (by decide)), rfl, (xn_ar' (n := 31 + c) (N := 159) rfl (show 31 + nI c = _ by rw [xl_31, nI_add]) (by omega) (by decide)), trivial⟩ ?_
      refine xw_ret xb_110 rfl rfl trivial ?_
      rw [xl_31, nI_add, xn_cl (by omega)]
      exact ⟨xm_some (congrArg Value.int (hM.1 _ (by omega))), _, rfl, xMF_u (xMF_r I) (Or.inl rfl), xML_N hM (xMN_u hM.1 rfl rfl) rfl rfl⟩
    · skip
      exfalso
      try simp only [xB_dec, Classical.not_not] at c_5 c_17
      try simp (disch := omega) only [xt_eq, xt_lt, xt_le, xkt_0, xkt_1, xkt_2, xkt_3, xkt_4, xkt_5, xkt_6, xkt_7, xkt_8, xkt_9, xkt_10, xkt_11, xkt_12, xkt_13, xkt_14, xkt_16, xkt_20, xkt_24, xkt_31, xkt_32, xkt_40, xkt_44, xkt_47, xkt_48, xkt_57, xkt_59, xkt_60, xkt_63, xkt_64, xkt_65, xkt_72, xkt_95, xkt_99, xkt_100, xkt_101, xkt_103, xkt_110, xkt_112, xkt_113, xkt_114, xkt_119, xkt_126, xkt_159, xkt_576, xkt_999, xkt_9999, xkt_65536, xkt_999999, xkt_m1, xkt_m2, xkt_m3, xkt_m4, xkt_m11, xkt_m12, xkt_m13, xkt_m14, xkt_m20, xjt_0, xjt_1, xjt_2, xjt_3, xjt_4, xjt_5, xjt_6, xjt_7, xjt_8, xjt_9, xjt_10, xjt_11, xjt_12, xjt_13, xjt_14, xjt_16, xjt_20, xjt_24, xjt_31, xjt_32, xjt_40, xjt_44, xjt_47, xjt_48, xjt_57, xjt_59, xjt_60, xjt_63, xjt_64, xjt_65, xjt_72, xjt_95, xjt_99, xjt_100, xjt_101, xjt_103, xjt_110, xjt_112, xjt_113, xjt_114, xjt_119, xjt_126, xjt_159, xjt_576, xjt_999, xjt_9999, xjt_65536, xjt_999999, xt64, xt_n, not_true_eq_false, not_false_eq_true, Classical.not_not] at c_5 c_17
      all_goals omega

theorem c_sprinkler0 {d : Nat} {b : Bool} {I : Nat → Nat → Int32} {L : Nat → Nat → Int64} {N : Nat → Nat} {u : Nat} {U : Nat → Nat → Nat} (hP : xPL N u U 1 I) (hK : xUK N u U) {x y z w : Int32} (hx : ¬ (0 ≤ x.toInt ∧ x.toInt ≤ 4 ∧ 0 ≤ y.toInt ∧ y.toInt < ((N 0 * N 1 : Nat) : Int) ∧ 0 ≤ z.toInt ∧ z.toInt ≤ 4 ∧ 1 ≤ w.toInt ∧ w.toInt ≤ 9)) : xm_Z (d + 3) 16 [.ref 0, .int x, .int y, .int z, .int w] (xS b, I, L, xP b) (fun rz hz => xQC b I L (-1) N u U rz hz) := by
  have hO := hK.1
  have hb := hK.1.1
  have c64 : N 0 * N 1 ≤ 64 := xce_le hO
  have c4 : 4 ≤ N 0 * N 1 := xce_ge hO
  obtain ⟨⟨hN0, hN1, hN2, hN3, hN4, hN5, hN6, hN7, hN8, hN9, hN10⟩, hNs, hNw, hNp⟩ := hP.1
  refine xw_S xb_16 (l := [.ref 0, .int x, .int y, .int z, .int w]) (Nat.le_of_ble_eq_true rfl) rfl ?_
  refine xw_go xb_16 3 (f1 := (3, [.ref 0, .int x, .int y, .int z, .int w], [.int 4, .int 0, .int x])) (h1 := (xS b, I, L, xP b)) rfl trivial ?_
  refine xw_call xb_16 rfl rfl rfl rfl rfl (Or.inl rfl) c_within ?_
  rintro _ _ ⟨rfl, rfl⟩
  refine xw_at (f' := (6, [.ref 0, .int x, .int y, .int z, .int w], [.int (nI (xB (decide ((0 : Int32).toInt ≤ x.toInt ∧ x.toInt ≤ (4 : Int32).toInt))))])) (h' := (xS b, I, L, xP b)) rfl rfl ?_
  refine xw_go xb_16 1 (f1 := (if (nI (xB (decide ((0 : Int32).toInt ≤ x.toInt ∧ x.toInt ≤ (4 : Int32).toInt)))) = 0 then 40 else 9, [.ref 0, .int x, .int y, .int z, .int w], [])) (h1 := (xS b, I, L, xP b)) rfl trivial ?_
  refine xw_if (fun c_6 => ?_) (fun c_6 => ?_)
  · skip
    refine xw_go xb_16 1 (f1 := (41, [.ref 0, .int x, .int y, .int z, .int w], [.int (-1)])) (h1 := (xS b, I, L, xP b)) rfl trivial ?_
    refine xw_ret xb_16 rfl rfl trivial ?_
    exact xQC_same hP
  · skip
    refine xw_go xb_16 3 (f1 := (14, [.ref 0, .int x, .int y, .int z, .int w], [.int y, .ref 1])) (h1 := (xS b, I, L, xP b)) rfl ⟨rfl, trivial⟩ ?_
    refine xw_call xb_16 rfl rfl rfl rfl rfl (Or.inr ⟨_, _, rfl, rfl⟩) (c_hasCell (I := I) hN0 hN1 (by omega) (by omega) (by omega)) ?_
    rintro _ _ ⟨rfl, rfl⟩
    refine xw_at (f' := (17, [.ref 0, .int x, .int y, .int z, .int w], [.int (nI (xB (decide (0 ≤ y.toInt ∧ y.toInt < ((N 0 * N 1 : Nat) : Int)))))])) (h' := (xS b, I, L, xP b)) rfl rfl ?_
    refine xw_go xb_16 1 (f1 := (if (nI (xB (decide (0 ≤ y.toInt ∧ y.toInt < ((N 0 * N 1 : Nat) : Int))))) = 0 then 40 else 20, [.ref 0, .int x, .int y, .int z, .int w], [])) (h1 := (xS b, I, L, xP b)) rfl trivial ?_
    refine xw_if (fun c_17 => ?_) (fun c_17 => ?_)
    · skip
      refine xw_go xb_16 1 (f1 := (41, [.ref 0, .int x, .int y, .int z, .int w], [.int (-1)])) (h1 := (xS b, I, L, xP b)) rfl trivial ?_
      refine xw_ret xb_16 rfl rfl trivial ?_
      exact xQC_same hP
    · skip
      refine xw_go xb_16 3 (f1 := (23, [.ref 0, .int x, .int y, .int z, .int w], [.int 4, .int 0, .int z])) (h1 := (xS b, I, L, xP b)) rfl trivial ?_
      refine xw_call xb_16 rfl rfl rfl rfl rfl (Or.inl rfl) c_within ?_
      rintro _ _ ⟨rfl, rfl⟩
      refine xw_at (f' := (26, [.ref 0, .int x, .int y, .int z, .int w], [.int (nI (xB (decide ((0 : Int32).toInt ≤ z.toInt ∧ z.toInt ≤ (4 : Int32).toInt))))])) (h' := (xS b, I, L, xP b)) rfl rfl ?_
      refine xw_go xb_16 1 (f1 := (if (nI (xB (decide ((0 : Int32).toInt ≤ z.toInt ∧ z.toInt ≤ (4 : Int32).toInt)))) = 0 then 40 else 29, [.ref 0, .int x, .int y, .int z, .int w], [])) (h1 := (xS b, I, L, xP b)) rfl trivial ?_
      refine xw_if (fun c_26 => ?_) (fun c_26 => ?_)
      · skip
        refine xw_go xb_16 1 (f1 := (41, [.ref 0, .int x, .int y, .int z, .int w], [.int (-1)])) (h1 := (xS b, I, L, xP b)) rfl trivial ?_
        refine xw_ret xb_16 rfl rfl trivial ?_
        exact xQC_same hP
      · skip
        refine xw_go xb_16 3 (f1 := (34, [.ref 0, .int x, .int y, .int z, .int w], [.int 9, .int 1, .int w])) (h1 := (xS b, I, L, xP b)) rfl trivial ?_
        refine xw_call xb_16 rfl rfl rfl rfl rfl (Or.inl rfl) c_within ?_
        rintro _ _ ⟨rfl, rfl⟩
        refine xw_at (f' := (37, [.ref 0, .int x, .int y, .int z, .int w], [.int (nI (xB (decide ((1 : Int32).toInt ≤ w.toInt ∧ w.toInt ≤ (9 : Int32).toInt))))])) (h' := (xS b, I, L, xP b)) rfl rfl ?_
        refine xw_go xb_16 1 (f1 := (if ¬ (nI (xB (decide ((1 : Int32).toInt ≤ w.toInt ∧ w.toInt ≤ (9 : Int32).toInt)))) = 0 then 42 else 40, [.ref 0, .int x, .int y, .int z, .int w], [])) (h1 := (xS b, I, L, xP b)) rfl trivial ?_
        refine xw_if (fun c_37 => ?_) (fun c_37 => ?_)
        · skip
          exfalso
          try simp only [xB_dec, Classical.not_not] at c_6 c_17 c_26 c_37
          try simp (disch := omega) only [xt_eq, xt_lt, xt_le, xkt_0, xkt_1, xkt_2, xkt_3, xkt_4, xkt_5, xkt_6, xkt_7, xkt_8, xkt_9, xkt_10, xkt_11, xkt_12, xkt_13, xkt_14, xkt_16, xkt_20, xkt_24, xkt_31, xkt_32, xkt_40, xkt_44, xkt_47, xkt_48, xkt_57, xkt_59, xkt_60, xkt_63, xkt_64, xkt_65, xkt_72, xkt_95, xkt_99, xkt_100, xkt_101, xkt_103, xkt_110, xkt_112, xkt_113, xkt_114, xkt_119, xkt_126, xkt_159, xkt_576, xkt_999, xkt_9999, xkt_65536, xkt_999999, xkt_m1, xkt_m2, xkt_m3, xkt_m4, xkt_m11, xkt_m12, xkt_m13, xkt_m14, xkt_m20, xjt_0, xjt_1, xjt_2, xjt_3, xjt_4, xjt_5, xjt_6, xjt_7, xjt_8, xjt_9, xjt_10, xjt_11, xjt_12, xjt_13, xjt_14, xjt_16, xjt_20, xjt_24, xjt_31, xjt_32, xjt_40, xjt_44, xjt_47, xjt_48, xjt_57, xjt_59, xjt_60, xjt_63, xjt_64, xjt_65, xjt_72, xjt_95, xjt_99, xjt_100, xjt_101, xjt_103, xjt_110, xjt_112, xjt_113, xjt_114, xjt_119, xjt_126, xjt_159, xjt_576, xjt_999, xjt_9999, xjt_65536, xjt_999999, xt64, xt_n, not_true_eq_false, not_false_eq_true, Classical.not_not] at c_6 c_17 c_26 c_37
          all_goals omega
        · skip
          refine xw_go xb_16 1 (f1 := (41, [.ref 0, .int x, .int y, .int z, .int w], [.int (-1)])) (h1 := (xS b, I, L, xP b)) rfl trivial ?_
          refine xw_ret xb_16 rfl rfl trivial ?_
          exact xQC_same hP

theorem c_sprinkler1 {d : Nat} {b : Bool} {I : Nat → Nat → Int32} {L : Nat → Nat → Int64} {N : Nat → Nat} {u : Nat} {U : Nat → Nat → Nat} (hP : xPL N u U 1 I) (hK : xUK N u U) {k pl re pw : Nat} (hk : k < 5) (hpl : pl < N 0 * N 1) (hre : re < 5) (hpw : 1 ≤ pw ∧ pw < 10) (h5 : N 2 = 5) {x : Int32} (e_x : x = nI k) {y : Int32} (e_y : y = nI pl) {z : Int32} (e_z : z = nI re) {w : Int32} (e_w : w = nI pw) : xm_Z (d + 3) 16 [.ref 0, .int x, .int y, .int z, .int w] (xS b, I, L, xP b) (fun rz hz => xQC b I L (-3) N u U rz hz) := by
  subst e_x
  subst e_y
  subst e_z
  subst e_w
  have hO := hK.1
  have hb := hK.1.1
  have c64 : N 0 * N 1 ≤ 64 := xce_le hO
  have c4 : 4 ≤ N 0 * N 1 := xce_ge hO
  obtain ⟨⟨hN0, hN1, hN2, hN3, hN4, hN5, hN6, hN7, hN8, hN9, hN10⟩, hNs, hNw, hNp⟩ := hP.1
  refine xw_S xb_16 (l := [.ref 0, .int (nI k), .int (nI pl), .int (nI re), .int (nI pw)]) (Nat.le_of_ble_eq_true rfl) rfl ?_
  refine xw_go xb_16 3 (f1 := (3, [.ref 0, .int (nI k), .int (nI pl), .int (nI re), .int (nI pw)], [.int 4, .int 0, .int (nI k)])) (h1 := (xS b, I, L, xP b)) rfl trivial ?_
  refine xw_call xb_16 rfl rfl rfl rfl rfl (Or.inl rfl) c_within ?_
  rintro _ _ ⟨rfl, rfl⟩
  refine xw_at (f' := (6, [.ref 0, .int (nI k), .int (nI pl), .int (nI re), .int (nI pw)], [.int (nI (xB (decide ((0 : Int32).toInt ≤ (nI k).toInt ∧ (nI k).toInt ≤ (4 : Int32).toInt))))])) (h' := (xS b, I, L, xP b)) rfl rfl ?_
  refine xw_go xb_16 1 (f1 := (if (nI (xB (decide ((0 : Int32).toInt ≤ (nI k).toInt ∧ (nI k).toInt ≤ (4 : Int32).toInt)))) = 0 then 40 else 9, [.ref 0, .int (nI k), .int (nI pl), .int (nI re), .int (nI pw)], [])) (h1 := (xS b, I, L, xP b)) rfl trivial ?_
  refine xw_if (fun c_6 => ?_) (fun c_6 => ?_)
  · skip
    exfalso
    try simp only [xB_dec, Classical.not_not] at c_6
    try simp (disch := omega) only [xt_eq, xt_lt, xt_le, xkt_0, xkt_1, xkt_2, xkt_3, xkt_4, xkt_5, xkt_6, xkt_7, xkt_8, xkt_9, xkt_10, xkt_11, xkt_12, xkt_13, xkt_14, xkt_16, xkt_20, xkt_24, xkt_31, xkt_32, xkt_40, xkt_44, xkt_47, xkt_48, xkt_57, xkt_59, xkt_60, xkt_63, xkt_64, xkt_65, xkt_72, xkt_95, xkt_99, xkt_100, xkt_101, xkt_103, xkt_110, xkt_112, xkt_113, xkt_114, xkt_119, xkt_126, xkt_159, xkt_576, xkt_999, xkt_9999, xkt_65536, xkt_999999, xkt_m1, xkt_m2, xkt_m3, xkt_m4, xkt_m11, xkt_m12, xkt_m13, xkt_m14, xkt_m20, xjt_0, xjt_1, xjt_2, xjt_3, xjt_4, xjt_5, xjt_6, xjt_7, xjt_8, xjt_9, xjt_10, xjt_11, xjt_12, xjt_13, xjt_14, xjt_16, xjt_20, xjt_24, xjt_31, xjt_32, xjt_40, xjt_44, xjt_47, xjt_48, xjt_57, xjt_59, xjt_60, xjt_63, xjt_64, xjt_65, xjt_72, xjt_95, xjt_99, xjt_100, xjt_101, xjt_103, xjt_110, xjt_112, xjt_113, xjt_114, xjt_119, xjt_126, xjt_159, xjt_576, xjt_999, xjt_9999, xjt_65536, xjt_999999, xt64, xt_n, not_true_eq_false, not_false_eq_true, Classical.not_not] at c_6
    all_goals omega
  · skip
    refine xw_go xb_16 3 (f1 := (14, [.ref 0, .int (nI k), .int (nI pl), .int (nI re), .int (nI pw)], [.int (nI pl), .ref 1])) (h1 := (xS b, I, L, xP b)) rfl ⟨rfl, trivial⟩ ?_
    refine xw_call xb_16 rfl rfl rfl rfl rfl (Or.inr ⟨_, _, rfl, rfl⟩) (c_hasCell (I := I) hN0 hN1 (by omega) (by omega) (by omega)) ?_
    rintro _ _ ⟨rfl, rfl⟩
    refine xw_at (f' := (17, [.ref 0, .int (nI k), .int (nI pl), .int (nI re), .int (nI pw)], [.int (nI (xB (decide (0 ≤ (nI pl).toInt ∧ (nI pl).toInt < ((N 0 * N 1 : Nat) : Int)))))])) (h' := (xS b, I, L, xP b)) rfl rfl ?_
    refine xw_go xb_16 1 (f1 := (if (nI (xB (decide (0 ≤ (nI pl).toInt ∧ (nI pl).toInt < ((N 0 * N 1 : Nat) : Int))))) = 0 then 40 else 20, [.ref 0, .int (nI k), .int (nI pl), .int (nI re), .int (nI pw)], [])) (h1 := (xS b, I, L, xP b)) rfl trivial ?_
    refine xw_if (fun c_17 => ?_) (fun c_17 => ?_)
    · skip
      exfalso
      try simp only [xB_dec, Classical.not_not] at c_6 c_17
      try simp (disch := omega) only [xt_eq, xt_lt, xt_le, xkt_0, xkt_1, xkt_2, xkt_3, xkt_4, xkt_5, xkt_6, xkt_7, xkt_8, xkt_9, xkt_10, xkt_11, xkt_12, xkt_13, xkt_14, xkt_16, xkt_20, xkt_24, xkt_31, xkt_32, xkt_40, xkt_44, xkt_47, xkt_48, xkt_57, xkt_59, xkt_60, xkt_63, xkt_64, xkt_65, xkt_72, xkt_95, xkt_99, xkt_100, xkt_101, xkt_103, xkt_110, xkt_112, xkt_113, xkt_114, xkt_119, xkt_126, xkt_159, xkt_576, xkt_999, xkt_9999, xkt_65536, xkt_999999, xkt_m1, xkt_m2, xkt_m3, xkt_m4, xkt_m11, xkt_m12, xkt_m13, xkt_m14, xkt_m20, xjt_0, xjt_1, xjt_2, xjt_3, xjt_4, xjt_5, xjt_6, xjt_7, xjt_8, xjt_9, xjt_10, xjt_11, xjt_12, xjt_13, xjt_14, xjt_16, xjt_20, xjt_24, xjt_31, xjt_32, xjt_40, xjt_44, xjt_47, xjt_48, xjt_57, xjt_59, xjt_60, xjt_63, xjt_64, xjt_65, xjt_72, xjt_95, xjt_99, xjt_100, xjt_101, xjt_103, xjt_110, xjt_112, xjt_113, xjt_114, xjt_119, xjt_126, xjt_159, xjt_576, xjt_999, xjt_9999, xjt_65536, xjt_999999, xt64, xt_n, not_true_eq_false, not_false_eq_true, Classical.not_not] at c_6 c_17
      all_goals omega
    · skip
      refine xw_go xb_16 3 (f1 := (23, [.ref 0, .int (nI k), .int (nI pl), .int (nI re), .int (nI pw)], [.int 4, .int 0, .int (nI re)])) (h1 := (xS b, I, L, xP b)) rfl trivial ?_
      refine xw_call xb_16 rfl rfl rfl rfl rfl (Or.inl rfl) c_within ?_
      rintro _ _ ⟨rfl, rfl⟩
      refine xw_at (f' := (26, [.ref 0, .int (nI k), .int (nI pl), .int (nI re), .int (nI pw)], [.int (nI (xB (decide ((0 : Int32).toInt ≤ (nI re).toInt ∧ (nI re).toInt ≤ (4 : Int32).toInt))))])) (h' := (xS b, I, L, xP b)) rfl rfl ?_
      refine xw_go xb_16 1 (f1 := (if (nI (xB (decide ((0 : Int32).toInt ≤ (nI re).toInt ∧ (nI re).toInt ≤ (4 : Int32).toInt)))) = 0 then 40 else 29, [.ref 0, .int (nI k), .int (nI pl), .int (nI re), .int (nI pw)], [])) (h1 := (xS b, I, L, xP b)) rfl trivial ?_
      refine xw_if (fun c_26 => ?_) (fun c_26 => ?_)
      · skip
        exfalso
        try simp only [xB_dec, Classical.not_not] at c_6 c_17 c_26
        try simp (disch := omega) only [xt_eq, xt_lt, xt_le, xkt_0, xkt_1, xkt_2, xkt_3, xkt_4, xkt_5, xkt_6, xkt_7, xkt_8, xkt_9, xkt_10, xkt_11, xkt_12, xkt_13, xkt_14, xkt_16, xkt_20, xkt_24, xkt_31, xkt_32, xkt_40, xkt_44, xkt_47, xkt_48, xkt_57, xkt_59, xkt_60, xkt_63, xkt_64, xkt_65, xkt_72, xkt_95, xkt_99, xkt_100, xkt_101, xkt_103, xkt_110, xkt_112, xkt_113, xkt_114, xkt_119, xkt_126, xkt_159, xkt_576, xkt_999, xkt_9999, xkt_65536, xkt_999999, xkt_m1, xkt_m2, xkt_m3, xkt_m4, xkt_m11, xkt_m12, xkt_m13, xkt_m14, xkt_m20, xjt_0, xjt_1, xjt_2, xjt_3, xjt_4, xjt_5, xjt_6, xjt_7, xjt_8, xjt_9, xjt_10, xjt_11, xjt_12, xjt_13, xjt_14, xjt_16, xjt_20, xjt_24, xjt_31, xjt_32, xjt_40, xjt_44, xjt_47, xjt_48, xjt_57, xjt_59, xjt_60, xjt_63, xjt_64, xjt_65, xjt_72, xjt_95, xjt_99, xjt_100, xjt_101, xjt_103, xjt_110, xjt_112, xjt_113, xjt_114, xjt_119, xjt_126, xjt_159, xjt_576, xjt_999, xjt_9999, xjt_65536, xjt_999999, xt64, xt_n, not_true_eq_false, not_false_eq_true, Classical.not_not] at c_6 c_17 c_26
        all_goals omega
      · skip
        refine xw_go xb_16 3 (f1 := (34, [.ref 0, .int (nI k), .int (nI pl), .int (nI re), .int (nI pw)], [.int 9, .int 1, .int (nI pw)])) (h1 := (xS b, I, L, xP b)) rfl trivial ?_
        refine xw_call xb_16 rfl rfl rfl rfl rfl (Or.inl rfl) c_within ?_
        rintro _ _ ⟨rfl, rfl⟩
        refine xw_at (f' := (37, [.ref 0, .int (nI k), .int (nI pl), .int (nI re), .int (nI pw)], [.int (nI (xB (decide ((1 : Int32).toInt ≤ (nI pw).toInt ∧ (nI pw).toInt ≤ (9 : Int32).toInt))))])) (h' := (xS b, I, L, xP b)) rfl rfl ?_
        refine xw_go xb_16 1 (f1 := (if ¬ (nI (xB (decide ((1 : Int32).toInt ≤ (nI pw).toInt ∧ (nI pw).toInt ≤ (9 : Int32).toInt)))) = 0 then 42 else 40, [.ref 0, .int (nI k), .int (nI pl), .int (nI re), .int (nI pw)], [])) (h1 := (xS b, I, L, xP b)) rfl trivial ?_
        refine xw_if (fun c_37 => ?_) (fun c_37 => ?_)
        · skip
          refine xw_go xb_16 5 (f1 := (if (I 1 5) < 5 then 56 else 53, [.ref 0, .int (nI k), .int (nI pl), .int (nI re), .int (nI pw)], [])) (h1 := (xS b, I, L, xP b)) rfl ⟨rfl, rfl, trivial⟩ ?_
          refine xw_if (fun c_50 => ?_) (fun c_50 => ?_)
          · skip
            exfalso
            rw [hN2, h5] at c_50
            exact absurd c_50 (by decide)
          · skip
            refine xw_go xb_16 1 (f1 := (55, [.ref 0, .int (nI k), .int (nI pl), .int (nI re), .int (nI pw)], [.int (-3)])) (h1 := (xS b, I, L, xP b)) rfl trivial ?_
            refine xw_ret xb_16 rfl rfl trivial ?_
            exact xQC_same hP
        · skip
          exfalso
          try simp only [xB_dec, Classical.not_not] at c_6 c_17 c_26 c_37
          try simp (disch := omega) only [xt_eq, xt_lt, xt_le, xkt_0, xkt_1, xkt_2, xkt_3, xkt_4, xkt_5, xkt_6, xkt_7, xkt_8, xkt_9, xkt_10, xkt_11, xkt_12, xkt_13, xkt_14, xkt_16, xkt_20, xkt_24, xkt_31, xkt_32, xkt_40, xkt_44, xkt_47, xkt_48, xkt_57, xkt_59, xkt_60, xkt_63, xkt_64, xkt_65, xkt_72, xkt_95, xkt_99, xkt_100, xkt_101, xkt_103, xkt_110, xkt_112, xkt_113, xkt_114, xkt_119, xkt_126, xkt_159, xkt_576, xkt_999, xkt_9999, xkt_65536, xkt_999999, xkt_m1, xkt_m2, xkt_m3, xkt_m4, xkt_m11, xkt_m12, xkt_m13, xkt_m14, xkt_m20, xjt_0, xjt_1, xjt_2, xjt_3, xjt_4, xjt_5, xjt_6, xjt_7, xjt_8, xjt_9, xjt_10, xjt_11, xjt_12, xjt_13, xjt_14, xjt_16, xjt_20, xjt_24, xjt_31, xjt_32, xjt_40, xjt_44, xjt_47, xjt_48, xjt_57, xjt_59, xjt_60, xjt_63, xjt_64, xjt_65, xjt_72, xjt_95, xjt_99, xjt_100, xjt_101, xjt_103, xjt_110, xjt_112, xjt_113, xjt_114, xjt_119, xjt_126, xjt_159, xjt_576, xjt_999, xjt_9999, xjt_65536, xjt_999999, xt64, xt_n, not_true_eq_false, not_false_eq_true, Classical.not_not] at c_6 c_17 c_26 c_37
          all_goals omega

set_option maxHeartbeats 4000000 in
theorem c_sprinkler2 {d : Nat} {b : Bool} {I : Nat → Nat → Int32} {L : Nat → Nat → Int64} {N : Nat → Nat} {u : Nat} {U : Nat → Nat → Nat} (hP : xPL N u U 1 I) (hK : xUK N u U) {k pl re pw : Nat} (hk : k < 5) (hpl : pl < N 0 * N 1) (hre : re < 5) (hpw : 1 ≤ pw ∧ pw < 10) (h5 : N 2 < 5) {x : Int32} (e_x : x = nI k) {y : Int32} (e_y : y = nI pl) {z : Int32} (e_z : z = nI re) {w : Int32} (e_w : w = nI pw) : xm_Z (d + 3) 16 [.ref 0, .int x, .int y, .int z, .int w] (xS b, I, L, xP b) (fun rz hz => xQC b I L (nI (N 2)) (xadd N k pl re pw) 0 U rz hz) := by
  subst e_x
  subst e_y
  subst e_z
  subst e_w
  have hO := hK.1
  have hb := hK.1.1
  have c64 : N 0 * N 1 ≤ 64 := xce_le hO
  have c4 : 4 ≤ N 0 * N 1 := xce_ge hO
  obtain ⟨⟨hN0, hN1, hN2, hN3, hN4, hN5, hN6, hN7, hN8, hN9, hN10⟩, hNs, hNw, hNp⟩ := hP.1
  refine xw_S xb_16 (l := [.ref 0, .int (nI k), .int (nI pl), .int (nI re), .int (nI pw)]) (Nat.le_of_ble_eq_true rfl) rfl ?_
  refine xw_go xb_16 3 (f1 := (3, [.ref 0, .int (nI k), .int (nI pl), .int (nI re), .int (nI pw)], [.int 4, .int 0, .int (nI k)])) (h1 := (xS b, I, L, xP b)) rfl trivial ?_
  refine xw_call xb_16 rfl rfl rfl rfl rfl (Or.inl rfl) c_within ?_
  rintro _ _ ⟨rfl, rfl⟩
  refine xw_at (f' := (6, [.ref 0, .int (nI k), .int (nI pl), .int (nI re), .int (nI pw)], [.int (nI (xB (decide ((0 : Int32).toInt ≤ (nI k).toInt ∧ (nI k).toInt ≤ (4 : Int32).toInt))))])) (h' := (xS b, I, L, xP b)) rfl rfl ?_
  refine xw_go xb_16 1 (f1 := (if (nI (xB (decide ((0 : Int32).toInt ≤ (nI k).toInt ∧ (nI k).toInt ≤ (4 : Int32).toInt)))) = 0 then 40 else 9, [.ref 0, .int (nI k), .int (nI pl), .int (nI re), .int (nI pw)], [])) (h1 := (xS b, I, L, xP b)) rfl trivial ?_
  refine xw_if (fun c_6 => ?_) (fun c_6 => ?_)
  · skip
    exfalso
    try simp only [xB_dec, Classical.not_not] at c_6
    try simp (disch := omega) only [xt_eq, xt_lt, xt_le, xkt_0, xkt_1, xkt_2, xkt_3, xkt_4, xkt_5, xkt_6, xkt_7, xkt_8, xkt_9, xkt_10, xkt_11, xkt_12, xkt_13, xkt_14, xkt_16, xkt_20, xkt_24, xkt_31, xkt_32, xkt_40, xkt_44, xkt_47, xkt_48, xkt_57, xkt_59, xkt_60, xkt_63, xkt_64, xkt_65, xkt_72, xkt_95, xkt_99, xkt_100, xkt_101, xkt_103, xkt_110, xkt_112, xkt_113, xkt_114, xkt_119, xkt_126, xkt_159, xkt_576, xkt_999, xkt_9999, xkt_65536, xkt_999999, xkt_m1, xkt_m2, xkt_m3, xkt_m4, xkt_m11, xkt_m12, xkt_m13, xkt_m14, xkt_m20, xjt_0, xjt_1, xjt_2, xjt_3, xjt_4, xjt_5, xjt_6, xjt_7, xjt_8, xjt_9, xjt_10, xjt_11, xjt_12, xjt_13, xjt_14, xjt_16, xjt_20, xjt_24, xjt_31, xjt_32, xjt_40, xjt_44, xjt_47, xjt_48, xjt_57, xjt_59, xjt_60, xjt_63, xjt_64, xjt_65, xjt_72, xjt_95, xjt_99, xjt_100, xjt_101, xjt_103, xjt_110, xjt_112, xjt_113, xjt_114, xjt_119, xjt_126, xjt_159, xjt_576, xjt_999, xjt_9999, xjt_65536, xjt_999999, xt64, xt_n, not_true_eq_false, not_false_eq_true, Classical.not_not] at c_6
    all_goals omega
  · skip
    refine xw_go xb_16 3 (f1 := (14, [.ref 0, .int (nI k), .int (nI pl), .int (nI re), .int (nI pw)], [.int (nI pl), .ref 1])) (h1 := (xS b, I, L, xP b)) rfl ⟨rfl, trivial⟩ ?_
    refine xw_call xb_16 rfl rfl rfl rfl rfl (Or.inr ⟨_, _, rfl, rfl⟩) (c_hasCell (I := I) hN0 hN1 (by omega) (by omega) (by omega)) ?_
    rintro _ _ ⟨rfl, rfl⟩
    refine xw_at (f' := (17, [.ref 0, .int (nI k), .int (nI pl), .int (nI re), .int (nI pw)], [.int (nI (xB (decide (0 ≤ (nI pl).toInt ∧ (nI pl).toInt < ((N 0 * N 1 : Nat) : Int)))))])) (h' := (xS b, I, L, xP b)) rfl rfl ?_
    refine xw_go xb_16 1 (f1 := (if (nI (xB (decide (0 ≤ (nI pl).toInt ∧ (nI pl).toInt < ((N 0 * N 1 : Nat) : Int))))) = 0 then 40 else 20, [.ref 0, .int (nI k), .int (nI pl), .int (nI re), .int (nI pw)], [])) (h1 := (xS b, I, L, xP b)) rfl trivial ?_
    refine xw_if (fun c_17 => ?_) (fun c_17 => ?_)
    · skip
      exfalso
      try simp only [xB_dec, Classical.not_not] at c_6 c_17
      try simp (disch := omega) only [xt_eq, xt_lt, xt_le, xkt_0, xkt_1, xkt_2, xkt_3, xkt_4, xkt_5, xkt_6, xkt_7, xkt_8, xkt_9, xkt_10, xkt_11, xkt_12, xkt_13, xkt_14, xkt_16, xkt_20, xkt_24, xkt_31, xkt_32, xkt_40, xkt_44, xkt_47, xkt_48, xkt_57, xkt_59, xkt_60, xkt_63, xkt_64, xkt_65, xkt_72, xkt_95, xkt_99, xkt_100, xkt_101, xkt_103, xkt_110, xkt_112, xkt_113, xkt_114, xkt_119, xkt_126, xkt_159, xkt_576, xkt_999, xkt_9999, xkt_65536, xkt_999999, xkt_m1, xkt_m2, xkt_m3, xkt_m4, xkt_m11, xkt_m12, xkt_m13, xkt_m14, xkt_m20, xjt_0, xjt_1, xjt_2, xjt_3, xjt_4, xjt_5, xjt_6, xjt_7, xjt_8, xjt_9, xjt_10, xjt_11, xjt_12, xjt_13, xjt_14, xjt_16, xjt_20, xjt_24, xjt_31, xjt_32, xjt_40, xjt_44, xjt_47, xjt_48, xjt_57, xjt_59, xjt_60, xjt_63, xjt_64, xjt_65, xjt_72, xjt_95, xjt_99, xjt_100, xjt_101, xjt_103, xjt_110, xjt_112, xjt_113, xjt_114, xjt_119, xjt_126, xjt_159, xjt_576, xjt_999, xjt_9999, xjt_65536, xjt_999999, xt64, xt_n, not_true_eq_false, not_false_eq_true, Classical.not_not] at c_6 c_17
      all_goals omega
    · skip
      refine xw_go xb_16 3 (f1 := (23, [.ref 0, .int (nI k), .int (nI pl), .int (nI re), .int (nI pw)], [.int 4, .int 0, .int (nI re)])) (h1 := (xS b, I, L, xP b)) rfl trivial ?_
      refine xw_call xb_16 rfl rfl rfl rfl rfl (Or.inl rfl) c_within ?_
      rintro _ _ ⟨rfl, rfl⟩
      refine xw_at (f' := (26, [.ref 0, .int (nI k), .int (nI pl), .int (nI re), .int (nI pw)], [.int (nI (xB (decide ((0 : Int32).toInt ≤ (nI re).toInt ∧ (nI re).toInt ≤ (4 : Int32).toInt))))])) (h' := (xS b, I, L, xP b)) rfl rfl ?_
      refine xw_go xb_16 1 (f1 := (if (nI (xB (decide ((0 : Int32).toInt ≤ (nI re).toInt ∧ (nI re).toInt ≤ (4 : Int32).toInt)))) = 0 then 40 else 29, [.ref 0, .int (nI k), .int (nI pl), .int (nI re), .int (nI pw)], [])) (h1 := (xS b, I, L, xP b)) rfl trivial ?_
      refine xw_if (fun c_26 => ?_) (fun c_26 => ?_)
      · skip
        exfalso
        try simp only [xB_dec, Classical.not_not] at c_6 c_17 c_26
        try simp (disch := omega) only [xt_eq, xt_lt, xt_le, xkt_0, xkt_1, xkt_2, xkt_3, xkt_4, xkt_5, xkt_6, xkt_7, xkt_8, xkt_9, xkt_10, xkt_11, xkt_12, xkt_13, xkt_14, xkt_16, xkt_20, xkt_24, xkt_31, xkt_32, xkt_40, xkt_44, xkt_47, xkt_48, xkt_57, xkt_59, xkt_60, xkt_63, xkt_64, xkt_65, xkt_72, xkt_95, xkt_99, xkt_100, xkt_101, xkt_103, xkt_110, xkt_112, xkt_113, xkt_114, xkt_119, xkt_126, xkt_159, xkt_576, xkt_999, xkt_9999, xkt_65536, xkt_999999, xkt_m1, xkt_m2, xkt_m3, xkt_m4, xkt_m11, xkt_m12, xkt_m13, xkt_m14, xkt_m20, xjt_0, xjt_1, xjt_2, xjt_3, xjt_4, xjt_5, xjt_6, xjt_7, xjt_8, xjt_9, xjt_10, xjt_11, xjt_12, xjt_13, xjt_14, xjt_16, xjt_20, xjt_24, xjt_31, xjt_32, xjt_40, xjt_44, xjt_47, xjt_48, xjt_57, xjt_59, xjt_60, xjt_63, xjt_64, xjt_65, xjt_72, xjt_95, xjt_99, xjt_100, xjt_101, xjt_103, xjt_110, xjt_112, xjt_113, xjt_114, xjt_119, xjt_126, xjt_159, xjt_576, xjt_999, xjt_9999, xjt_65536, xjt_999999, xt64, xt_n, not_true_eq_false, not_false_eq_true, Classical.not_not] at c_6 c_17 c_26
        all_goals omega
      · skip
        refine xw_go xb_16 3 (f1 := (34, [.ref 0, .int (nI k), .int (nI pl), .int (nI re), .int (nI pw)], [.int 9, .int 1, .int (nI pw)])) (h1 := (xS b, I, L, xP b)) rfl trivial ?_
        refine xw_call xb_16 rfl rfl rfl rfl rfl (Or.inl rfl) c_within ?_
        rintro _ _ ⟨rfl, rfl⟩
        refine xw_at (f' := (37, [.ref 0, .int (nI k), .int (nI pl), .int (nI re), .int (nI pw)], [.int (nI (xB (decide ((1 : Int32).toInt ≤ (nI pw).toInt ∧ (nI pw).toInt ≤ (9 : Int32).toInt))))])) (h' := (xS b, I, L, xP b)) rfl rfl ?_
        refine xw_go xb_16 1 (f1 := (if ¬ (nI (xB (decide ((1 : Int32).toInt ≤ (nI pw).toInt ∧ (nI pw).toInt ≤ (9 : Int32).toInt)))) = 0 then 42 else 40, [.ref 0, .int (nI k), .int (nI pl), .int (nI re), .int (nI pw)], [])) (h1 := (xS b, I, L, xP b)) rfl trivial ?_
        refine xw_if (fun c_37 => ?_) (fun c_37 => ?_)
        · skip
          refine xw_go xb_16 5 (f1 := (if (I 1 5) < 5 then 56 else 53, [.ref 0, .int (nI k), .int (nI pl), .int (nI re), .int (nI pw)], [])) (h1 := (xS b, I, L, xP b)) rfl ⟨rfl, rfl, trivial⟩ ?_
          refine xw_if (fun c_50 => ?_) (fun c_50 => ?_)
          · skip
            refine xw_go xb_16 6 (f1 := (65, [.ref 0, .int (nI k), .int (nI pl), .int (nI re), .int (nI pw)], [.int (nI pw), .int (nI re), .int (nI pl), .int (nI k), .ref 1])) (h1 := (xS b, I, L, xP b)) rfl ⟨rfl, trivial⟩ ?_
            refine xw_call xb_16 rfl rfl rfl rfl rfl (Or.inr ⟨_, _, rfl, rfl⟩) (c_add1 (n := N 2) hN2 h5) ?_
            rintro _ _ ⟨rfl, rfl⟩
            refine xw_at (f' := (68, [.ref 0, .int (nI k), .int (nI pl), .int (nI re), .int (nI pw)], [])) (h' := (xS b, xm_up (xm_up (xm_up (xm_up (xm_up (xm_up I (15 + N 2) 0 (nI k)) (15 + N 2) 1 (nI pl)) (15 + N 2) 2 (nI re)) (15 + N 2) 3 (nI pw)) 1 5 (nI (N 2 + 1))) 5 1 0, L, xP b)) rfl rfl ?_
            refine xw_go xb_16 5 (f1 := (77, [.ref 0, .int (nI k), .int (nI pl), .int (nI re), .int (nI pw)], [.int (((xm_up (xm_up (xm_up (xm_up (xm_up (xm_up I (15 + N 2) 0 (nI k)) (15 + N 2) 1 (nI pl)) (15 + N 2) 2 (nI re)) (15 + N 2) 3 (nI pw)) 1 5 (nI (N 2 + 1))) 5 1 0) 1 5) - 1)])) (h1 := (xS b, xm_up (xm_up (xm_up (xm_up (xm_up (xm_up I (15 + N 2) 0 (nI k)) (15 + N 2) 1 (nI pl)) (15 + N 2) 2 (nI re)) (15 + N 2) 3 (nI pw)) 1 5 (nI (N 2 + 1))) 5 1 0, L, xP b)) rfl ⟨rfl, rfl, trivial⟩ ?_
            refine xw_ret xb_16 rfl rfl trivial ?_
            obtain ⟨hP1, nx, hnx, hu, hx, hr⟩ := hP
            refine ⟨xm_some (congrArg Value.int ?_), _, rfl, xPF_u (xPF_u (xPF_u (xPF_u (xPF_u (xPF_u (xPF_r I) ?_) ?_) ?_) ?_) (by decide)) (by decide), xPL_0 (xPN_fr ?_ (xPN_add h5 hP1 rfl) ?_) ?_ hnx ?_⟩
            · show nI (N 2 + 1) - 1 = _
              rw [xl_1, xn_sub (by omega), Nat.add_sub_cancel]
            · omega
            · omega
            · omega
            · omega
            · show N 2 + 1 ≤ 5; omega
            · intro a ha
              rw [xm_up_o (by omega)]
            · exact xm_up_at _ _ _ _
            · rw [xm_up_ne (Or.inr (by decide)), xm_up_o (by decide), xm_up_o (by omega), xm_up_o (by omega), xm_up_o (by omega), xm_up_o (by omega)]
              exact hx
          · skip
            exfalso
            rw [hN2, xl_5, nI_ltI (by omega) (by omega)] at c_50
            omega
        · skip
          exfalso
          try simp only [xB_dec, Classical.not_not] at c_6 c_17 c_26 c_37
          try simp (disch := omega) only [xt_eq, xt_lt, xt_le, xkt_0, xkt_1, xkt_2, xkt_3, xkt_4, xkt_5, xkt_6, xkt_7, xkt_8, xkt_9, xkt_10, xkt_11, xkt_12, xkt_13, xkt_14, xkt_16, xkt_20, xkt_24, xkt_31, xkt_32, xkt_40, xkt_44, xkt_47, xkt_48, xkt_57, xkt_59, xkt_60, xkt_63, xkt_64, xkt_65, xkt_72, xkt_95, xkt_99, xkt_100, xkt_101, xkt_103, xkt_110, xkt_112, xkt_113, xkt_114, xkt_119, xkt_126, xkt_159, xkt_576, xkt_999, xkt_9999, xkt_65536, xkt_999999, xkt_m1, xkt_m2, xkt_m3, xkt_m4, xkt_m11, xkt_m12, xkt_m13, xkt_m14, xkt_m20, xjt_0, xjt_1, xjt_2, xjt_3, xjt_4, xjt_5, xjt_6, xjt_7, xjt_8, xjt_9, xjt_10, xjt_11, xjt_12, xjt_13, xjt_14, xjt_16, xjt_20, xjt_24, xjt_31, xjt_32, xjt_40, xjt_44, xjt_47, xjt_48, xjt_57, xjt_59, xjt_60, xjt_63, xjt_64, xjt_65, xjt_72, xjt_95, xjt_99, xjt_100, xjt_101, xjt_103, xjt_110, xjt_112, xjt_113, xjt_114, xjt_119, xjt_126, xjt_159, xjt_576, xjt_999, xjt_9999, xjt_65536, xjt_999999, xt64, xt_n, not_true_eq_false, not_false_eq_true, Classical.not_not] at c_6 c_17 c_26 c_37
          all_goals omega

theorem m_sprinkler0 {d : Nat} {b : Bool} {I : Nat → Nat → Int32} {L : Nat → Nat → Int64} {N : Nat → Nat} {u : Nat} {U : Nat → Nat → Nat} (hM : xML N u U I) (hK : xUK N u U) {x y z w : Int32} (hx : ¬ (0 ≤ x.toInt ∧ x.toInt ≤ 4 ∧ 0 ≤ y.toInt ∧ y.toInt < ((N 0 * N 1 : Nat) : Int) ∧ 0 ≤ z.toInt ∧ z.toInt ≤ 4 ∧ 1 ≤ w.toInt ∧ w.toInt ≤ 9)) : xm_Z (d + 3) 113 [.ref 60, .int x, .int y, .int z, .int w] (xS b, I, L, xP b) (fun rz hz => xQM b I L (-1) N u U rz hz) := by
  have hO := hK.1
  have hb := hK.1.1
  have c64 : N 0 * N 1 ≤ 64 := xce_le hO
  have c4 : 4 ≤ N 0 * N 1 := xce_ge hO
  refine xw_S xb_113 (l := [.ref 60, .int x, .int y, .int z, .int w]) (Nat.le_of_ble_eq_true rfl) rfl ?_
  refine xw_go xb_113 4 (f1 := (6, [.ref 60, .int x, .int y, .int z, .int w], [.long 4, .long 0, .long x.toInt64])) (h1 := (xS b, I, L, xP b)) rfl trivial ?_
  refine xw_call xb_113 rfl rfl rfl rfl rfl (Or.inl rfl) m_in ?_
  rintro _ _ ⟨rfl, rfl⟩
  refine xw_at (f' := (9, [.ref 60, .int x, .int y, .int z, .int w], [.int (nI (xB (decide ((0 : Int64).toInt ≤ x.toInt64.toInt ∧ x.toInt64.toInt ≤ (4 : Int64).toInt))))])) (h' := (xS b, I, L, xP b)) rfl rfl ?_
  refine xw_go xb_113 1 (f1 := (if (nI (xB (decide ((0 : Int64).toInt ≤ x.toInt64.toInt ∧ x.toInt64.toInt ≤ (4 : Int64).toInt)))) = 0 then 45 else 12, [.ref 60, .int x, .int y, .int z, .int w], [])) (h1 := (xS b, I, L, xP b)) rfl trivial ?_
  refine xw_if (fun c_9 => ?_) (fun c_9 => ?_)
  · skip
    refine xw_go xb_113 1 (f1 := (46, [.ref 60, .int x, .int y, .int z, .int w], [.int (-1)])) (h1 := (xS b, I, L, xP b)) rfl trivial ?_
    refine xw_ret xb_113 rfl rfl trivial ?_
    exact xQM_same hM
  · skip
    refine xw_go xb_113 2 (f1 := (14, [.ref 60, .int x, .int y, .int z, .int w], [.int y, .ref 60])) (h1 := (xS b, I, L, xP b)) rfl trivial ?_
    refine xw_call xb_113 rfl rfl rfl rfl rfl (Or.inr ⟨_, _, rfl, rfl⟩) (m_isCell (I := I) hM.1 hO) ?_
    rintro _ _ ⟨rfl, rfl⟩
    refine xw_at (f' := (17, [.ref 60, .int x, .int y, .int z, .int w], [.int (nI (xB (decide (0 ≤ y.toInt ∧ y.toInt < ((N 0 * N 1 : Nat) : Int)))))])) (h' := (xS b, I, L, xP b)) rfl rfl ?_
    refine xw_go xb_113 1 (f1 := (if (nI (xB (decide (0 ≤ y.toInt ∧ y.toInt < ((N 0 * N 1 : Nat) : Int))))) = 0 then 45 else 20, [.ref 60, .int x, .int y, .int z, .int w], [])) (h1 := (xS b, I, L, xP b)) rfl trivial ?_
    refine xw_if (fun c_17 => ?_) (fun c_17 => ?_)
    · skip
      refine xw_go xb_113 1 (f1 := (46, [.ref 60, .int x, .int y, .int z, .int w], [.int (-1)])) (h1 := (xS b, I, L, xP b)) rfl trivial ?_
      refine xw_ret xb_113 rfl rfl trivial ?_
      exact xQM_same hM
    · skip
      refine xw_go xb_113 4 (f1 := (26, [.ref 60, .int x, .int y, .int z, .int w], [.long 4, .long 0, .long z.toInt64])) (h1 := (xS b, I, L, xP b)) rfl trivial ?_
      refine xw_call xb_113 rfl rfl rfl rfl rfl (Or.inl rfl) m_in ?_
      rintro _ _ ⟨rfl, rfl⟩
      refine xw_at (f' := (29, [.ref 60, .int x, .int y, .int z, .int w], [.int (nI (xB (decide ((0 : Int64).toInt ≤ z.toInt64.toInt ∧ z.toInt64.toInt ≤ (4 : Int64).toInt))))])) (h' := (xS b, I, L, xP b)) rfl rfl ?_
      refine xw_go xb_113 1 (f1 := (if (nI (xB (decide ((0 : Int64).toInt ≤ z.toInt64.toInt ∧ z.toInt64.toInt ≤ (4 : Int64).toInt)))) = 0 then 45 else 32, [.ref 60, .int x, .int y, .int z, .int w], [])) (h1 := (xS b, I, L, xP b)) rfl trivial ?_
      refine xw_if (fun c_29 => ?_) (fun c_29 => ?_)
      · skip
        refine xw_go xb_113 1 (f1 := (46, [.ref 60, .int x, .int y, .int z, .int w], [.int (-1)])) (h1 := (xS b, I, L, xP b)) rfl trivial ?_
        refine xw_ret xb_113 rfl rfl trivial ?_
        exact xQM_same hM
      · skip
        refine xw_go xb_113 4 (f1 := (39, [.ref 60, .int x, .int y, .int z, .int w], [.long 9, .long 1, .long w.toInt64])) (h1 := (xS b, I, L, xP b)) rfl trivial ?_
        refine xw_call xb_113 rfl rfl rfl rfl rfl (Or.inl rfl) m_in ?_
        rintro _ _ ⟨rfl, rfl⟩
        refine xw_at (f' := (42, [.ref 60, .int x, .int y, .int z, .int w], [.int (nI (xB (decide ((1 : Int64).toInt ≤ w.toInt64.toInt ∧ w.toInt64.toInt ≤ (9 : Int64).toInt))))])) (h' := (xS b, I, L, xP b)) rfl rfl ?_
        refine xw_go xb_113 1 (f1 := (if ¬ (nI (xB (decide ((1 : Int64).toInt ≤ w.toInt64.toInt ∧ w.toInt64.toInt ≤ (9 : Int64).toInt)))) = 0 then 47 else 45, [.ref 60, .int x, .int y, .int z, .int w], [])) (h1 := (xS b, I, L, xP b)) rfl trivial ?_
        refine xw_if (fun c_42 => ?_) (fun c_42 => ?_)
        · skip
          exfalso
          try simp only [xB_dec, Classical.not_not] at c_9 c_17 c_29 c_42
          try simp (disch := omega) only [xt_eq, xt_lt, xt_le, xkt_0, xkt_1, xkt_2, xkt_3, xkt_4, xkt_5, xkt_6, xkt_7, xkt_8, xkt_9, xkt_10, xkt_11, xkt_12, xkt_13, xkt_14, xkt_16, xkt_20, xkt_24, xkt_31, xkt_32, xkt_40, xkt_44, xkt_47, xkt_48, xkt_57, xkt_59, xkt_60, xkt_63, xkt_64, xkt_65, xkt_72, xkt_95, xkt_99, xkt_100, xkt_101, xkt_103, xkt_110, xkt_112, xkt_113, xkt_114, xkt_119, xkt_126, xkt_159, xkt_576, xkt_999, xkt_9999, xkt_65536, xkt_999999, xkt_m1, xkt_m2, xkt_m3, xkt_m4, xkt_m11, xkt_m12, xkt_m13, xkt_m14, xkt_m20, xjt_0, xjt_1, xjt_2, xjt_3, xjt_4, xjt_5, xjt_6, xjt_7, xjt_8, xjt_9, xjt_10, xjt_11, xjt_12, xjt_13, xjt_14, xjt_16, xjt_20, xjt_24, xjt_31, xjt_32, xjt_40, xjt_44, xjt_47, xjt_48, xjt_57, xjt_59, xjt_60, xjt_63, xjt_64, xjt_65, xjt_72, xjt_95, xjt_99, xjt_100, xjt_101, xjt_103, xjt_110, xjt_112, xjt_113, xjt_114, xjt_119, xjt_126, xjt_159, xjt_576, xjt_999, xjt_9999, xjt_65536, xjt_999999, xt64, xt_n, not_true_eq_false, not_false_eq_true, Classical.not_not] at c_9 c_17 c_29 c_42
          all_goals omega
        · skip
          refine xw_go xb_113 1 (f1 := (46, [.ref 60, .int x, .int y, .int z, .int w], [.int (-1)])) (h1 := (xS b, I, L, xP b)) rfl trivial ?_
          refine xw_ret xb_113 rfl rfl trivial ?_
          exact xQM_same hM

theorem m_sprinkler1 {d : Nat} {b : Bool} {I : Nat → Nat → Int32} {L : Nat → Nat → Int64} {N : Nat → Nat} {u : Nat} {U : Nat → Nat → Nat} (hM : xML N u U I) (hK : xUK N u U) {k pl re pw : Nat} (hk : k < 5) (hpl : pl < N 0 * N 1) (hre : re < 5) (hpw : 1 ≤ pw ∧ pw < 10) (h5 : N 2 = 5) {x : Int32} (e_x : x = nI k) {y : Int32} (e_y : y = nI pl) {z : Int32} (e_z : z = nI re) {w : Int32} (e_w : w = nI pw) : xm_Z (d + 3) 113 [.ref 60, .int x, .int y, .int z, .int w] (xS b, I, L, xP b) (fun rz hz => xQM b I L (-3) N u U rz hz) := by
  subst e_x
  subst e_y
  subst e_z
  subst e_w
  have hO := hK.1
  have hb := hK.1.1
  have c64 : N 0 * N 1 ≤ 64 := xce_le hO
  have c4 : 4 ≤ N 0 * N 1 := xce_ge hO
  refine xw_S xb_113 (l := [.ref 60, .int (nI k), .int (nI pl), .int (nI re), .int (nI pw)]) (Nat.le_of_ble_eq_true rfl) rfl ?_
  refine xw_go xb_113 4 (f1 := (6, [.ref 60, .int (nI k), .int (nI pl), .int (nI re), .int (nI pw)], [.long 4, .long 0, .long ((nI k).toInt64)])) (h1 := (xS b, I, L, xP b)) rfl trivial ?_
  refine xw_call xb_113 rfl rfl rfl rfl rfl (Or.inl rfl) m_in ?_
  rintro _ _ ⟨rfl, rfl⟩
  refine xw_at (f' := (9, [.ref 60, .int (nI k), .int (nI pl), .int (nI re), .int (nI pw)], [.int (nI (xB (decide ((0 : Int64).toInt ≤ (nI k).toInt64.toInt ∧ (nI k).toInt64.toInt ≤ (4 : Int64).toInt))))])) (h' := (xS b, I, L, xP b)) rfl rfl ?_
  refine xw_go xb_113 1 (f1 := (if (nI (xB (decide ((0 : Int64).toInt ≤ (nI k).toInt64.toInt ∧ (nI k).toInt64.toInt ≤ (4 : Int64).toInt)))) = 0 then 45 else 12, [.ref 60, .int (nI k), .int (nI pl), .int (nI re), .int (nI pw)], [])) (h1 := (xS b, I, L, xP b)) rfl trivial ?_
  refine xw_if (fun c_9 => ?_) (fun c_9 => ?_)
  · skip
    exfalso
    try simp only [xB_dec, Classical.not_not] at c_9
    try simp (disch := omega) only [xt_eq, xt_lt, xt_le, xkt_0, xkt_1, xkt_2, xkt_3, xkt_4, xkt_5, xkt_6, xkt_7, xkt_8, xkt_9, xkt_10, xkt_11, xkt_12, xkt_13, xkt_14, xkt_16, xkt_20, xkt_24, xkt_31, xkt_32, xkt_40, xkt_44, xkt_47, xkt_48, xkt_57, xkt_59, xkt_60, xkt_63, xkt_64, xkt_65, xkt_72, xkt_95, xkt_99, xkt_100, xkt_101, xkt_103, xkt_110, xkt_112, xkt_113, xkt_114, xkt_119, xkt_126, xkt_159, xkt_576, xkt_999, xkt_9999, xkt_65536, xkt_999999, xkt_m1, xkt_m2, xkt_m3, xkt_m4, xkt_m11, xkt_m12, xkt_m13, xkt_m14, xkt_m20, xjt_0, xjt_1, xjt_2, xjt_3, xjt_4, xjt_5, xjt_6, xjt_7, xjt_8, xjt_9, xjt_10, xjt_11, xjt_12, xjt_13, xjt_14, xjt_16, xjt_20, xjt_24, xjt_31, xjt_32, xjt_40, xjt_44, xjt_47, xjt_48, xjt_57, xjt_59, xjt_60, xjt_63, xjt_64, xjt_65, xjt_72, xjt_95, xjt_99, xjt_100, xjt_101, xjt_103, xjt_110, xjt_112, xjt_113, xjt_114, xjt_119, xjt_126, xjt_159, xjt_576, xjt_999, xjt_9999, xjt_65536, xjt_999999, xt64, xt_n, not_true_eq_false, not_false_eq_true, Classical.not_not] at c_9
    all_goals omega
  · skip
    refine xw_go xb_113 2 (f1 := (14, [.ref 60, .int (nI k), .int (nI pl), .int (nI re), .int (nI pw)], [.int (nI pl), .ref 60])) (h1 := (xS b, I, L, xP b)) rfl trivial ?_
    refine xw_call xb_113 rfl rfl rfl rfl rfl (Or.inr ⟨_, _, rfl, rfl⟩) (m_isCell (I := I) hM.1 hO) ?_
    rintro _ _ ⟨rfl, rfl⟩
    refine xw_at (f' := (17, [.ref 60, .int (nI k), .int (nI pl), .int (nI re), .int (nI pw)], [.int (nI (xB (decide (0 ≤ (nI pl).toInt ∧ (nI pl).toInt < ((N 0 * N 1 : Nat) : Int)))))])) (h' := (xS b, I, L, xP b)) rfl rfl ?_
    refine xw_go xb_113 1 (f1 := (if (nI (xB (decide (0 ≤ (nI pl).toInt ∧ (nI pl).toInt < ((N 0 * N 1 : Nat) : Int))))) = 0 then 45 else 20, [.ref 60, .int (nI k), .int (nI pl), .int (nI re), .int (nI pw)], [])) (h1 := (xS b, I, L, xP b)) rfl trivial ?_
    refine xw_if (fun c_17 => ?_) (fun c_17 => ?_)
    · skip
      exfalso
      try simp only [xB_dec, Classical.not_not] at c_9 c_17
      try simp (disch := omega) only [xt_eq, xt_lt, xt_le, xkt_0, xkt_1, xkt_2, xkt_3, xkt_4, xkt_5, xkt_6, xkt_7, xkt_8, xkt_9, xkt_10, xkt_11, xkt_12, xkt_13, xkt_14, xkt_16, xkt_20, xkt_24, xkt_31, xkt_32, xkt_40, xkt_44, xkt_47, xkt_48, xkt_57, xkt_59, xkt_60, xkt_63, xkt_64, xkt_65, xkt_72, xkt_95, xkt_99, xkt_100, xkt_101, xkt_103, xkt_110, xkt_112, xkt_113, xkt_114, xkt_119, xkt_126, xkt_159, xkt_576, xkt_999, xkt_9999, xkt_65536, xkt_999999, xkt_m1, xkt_m2, xkt_m3, xkt_m4, xkt_m11, xkt_m12, xkt_m13, xkt_m14, xkt_m20, xjt_0, xjt_1, xjt_2, xjt_3, xjt_4, xjt_5, xjt_6, xjt_7, xjt_8, xjt_9, xjt_10, xjt_11, xjt_12, xjt_13, xjt_14, xjt_16, xjt_20, xjt_24, xjt_31, xjt_32, xjt_40, xjt_44, xjt_47, xjt_48, xjt_57, xjt_59, xjt_60, xjt_63, xjt_64, xjt_65, xjt_72, xjt_95, xjt_99, xjt_100, xjt_101, xjt_103, xjt_110, xjt_112, xjt_113, xjt_114, xjt_119, xjt_126, xjt_159, xjt_576, xjt_999, xjt_9999, xjt_65536, xjt_999999, xt64, xt_n, not_true_eq_false, not_false_eq_true, Classical.not_not] at c_9 c_17
      all_goals omega
    · skip
      refine xw_go xb_113 4 (f1 := (26, [.ref 60, .int (nI k), .int (nI pl), .int (nI re), .int (nI pw)], [.long 4, .long 0, .long ((nI re).toInt64)])) (h1 := (xS b, I, L, xP b)) rfl trivial ?_
      refine xw_call xb_113 rfl rfl rfl rfl rfl (Or.inl rfl) m_in ?_
      rintro _ _ ⟨rfl, rfl⟩
      refine xw_at (f' := (29, [.ref 60, .int (nI k), .int (nI pl), .int (nI re), .int (nI pw)], [.int (nI (xB (decide ((0 : Int64).toInt ≤ (nI re).toInt64.toInt ∧ (nI re).toInt64.toInt ≤ (4 : Int64).toInt))))])) (h' := (xS b, I, L, xP b)) rfl rfl ?_
      refine xw_go xb_113 1 (f1 := (if (nI (xB (decide ((0 : Int64).toInt ≤ (nI re).toInt64.toInt ∧ (nI re).toInt64.toInt ≤ (4 : Int64).toInt)))) = 0 then 45 else 32, [.ref 60, .int (nI k), .int (nI pl), .int (nI re), .int (nI pw)], [])) (h1 := (xS b, I, L, xP b)) rfl trivial ?_
      refine xw_if (fun c_29 => ?_) (fun c_29 => ?_)
      · skip
        exfalso
        try simp only [xB_dec, Classical.not_not] at c_9 c_17 c_29
        try simp (disch := omega) only [xt_eq, xt_lt, xt_le, xkt_0, xkt_1, xkt_2, xkt_3, xkt_4, xkt_5, xkt_6, xkt_7, xkt_8, xkt_9, xkt_10, xkt_11, xkt_12, xkt_13, xkt_14, xkt_16, xkt_20, xkt_24, xkt_31, xkt_32, xkt_40, xkt_44, xkt_47, xkt_48, xkt_57, xkt_59, xkt_60, xkt_63, xkt_64, xkt_65, xkt_72, xkt_95, xkt_99, xkt_100, xkt_101, xkt_103, xkt_110, xkt_112, xkt_113, xkt_114, xkt_119, xkt_126, xkt_159, xkt_576, xkt_999, xkt_9999, xkt_65536, xkt_999999, xkt_m1, xkt_m2, xkt_m3, xkt_m4, xkt_m11, xkt_m12, xkt_m13, xkt_m14, xkt_m20, xjt_0, xjt_1, xjt_2, xjt_3, xjt_4, xjt_5, xjt_6, xjt_7, xjt_8, xjt_9, xjt_10, xjt_11, xjt_12, xjt_13, xjt_14, xjt_16, xjt_20, xjt_24, xjt_31, xjt_32, xjt_40, xjt_44, xjt_47, xjt_48, xjt_57, xjt_59, xjt_60, xjt_63, xjt_64, xjt_65, xjt_72, xjt_95, xjt_99, xjt_100, xjt_101, xjt_103, xjt_110, xjt_112, xjt_113, xjt_114, xjt_119, xjt_126, xjt_159, xjt_576, xjt_999, xjt_9999, xjt_65536, xjt_999999, xt64, xt_n, not_true_eq_false, not_false_eq_true, Classical.not_not] at c_9 c_17 c_29
        all_goals omega
      · skip
        refine xw_go xb_113 4 (f1 := (39, [.ref 60, .int (nI k), .int (nI pl), .int (nI re), .int (nI pw)], [.long 9, .long 1, .long ((nI pw).toInt64)])) (h1 := (xS b, I, L, xP b)) rfl trivial ?_
        refine xw_call xb_113 rfl rfl rfl rfl rfl (Or.inl rfl) m_in ?_
        rintro _ _ ⟨rfl, rfl⟩
        refine xw_at (f' := (42, [.ref 60, .int (nI k), .int (nI pl), .int (nI re), .int (nI pw)], [.int (nI (xB (decide ((1 : Int64).toInt ≤ (nI pw).toInt64.toInt ∧ (nI pw).toInt64.toInt ≤ (9 : Int64).toInt))))])) (h' := (xS b, I, L, xP b)) rfl rfl ?_
        refine xw_go xb_113 1 (f1 := (if ¬ (nI (xB (decide ((1 : Int64).toInt ≤ (nI pw).toInt64.toInt ∧ (nI pw).toInt64.toInt ≤ (9 : Int64).toInt)))) = 0 then 47 else 45, [.ref 60, .int (nI k), .int (nI pl), .int (nI re), .int (nI pw)], [])) (h1 := (xS b, I, L, xP b)) rfl trivial ?_
        refine xw_if (fun c_42 => ?_) (fun c_42 => ?_)
        · skip
          refine xw_go xb_113 6 (f1 := (if ¬ (I 61 (2 : Int32).toNatClampNeg) = 5 then 60 else 57, [.ref 60, .int (nI k), .int (nI pl), .int (nI re), .int (nI pw)], [])) (h1 := (xS b, I, L, xP b)) rfl ⟨rfl, (xn_ar (n := 2) (N := 159) rfl (by decide) (by decide)), trivial⟩ ?_
          refine xw_if (fun c_54 => ?_) (fun c_54 => ?_)
          · skip
            exfalso
            rw [show (2 : Int32).toNatClampNeg = 2 from rfl, hM.1 2 (by decide), h5] at c_54
            exact absurd rfl c_54
          · skip
            refine xw_go xb_113 1 (f1 := (59, [.ref 60, .int (nI k), .int (nI pl), .int (nI re), .int (nI pw)], [.int (-3)])) (h1 := (xS b, I, L, xP b)) rfl trivial ?_
            refine xw_ret xb_113 rfl rfl trivial ?_
            exact xQM_same hM
        · skip
          exfalso
          try simp only [xB_dec, Classical.not_not] at c_9 c_17 c_29 c_42
          try simp (disch := omega) only [xt_eq, xt_lt, xt_le, xkt_0, xkt_1, xkt_2, xkt_3, xkt_4, xkt_5, xkt_6, xkt_7, xkt_8, xkt_9, xkt_10, xkt_11, xkt_12, xkt_13, xkt_14, xkt_16, xkt_20, xkt_24, xkt_31, xkt_32, xkt_40, xkt_44, xkt_47, xkt_48, xkt_57, xkt_59, xkt_60, xkt_63, xkt_64, xkt_65, xkt_72, xkt_95, xkt_99, xkt_100, xkt_101, xkt_103, xkt_110, xkt_112, xkt_113, xkt_114, xkt_119, xkt_126, xkt_159, xkt_576, xkt_999, xkt_9999, xkt_65536, xkt_999999, xkt_m1, xkt_m2, xkt_m3, xkt_m4, xkt_m11, xkt_m12, xkt_m13, xkt_m14, xkt_m20, xjt_0, xjt_1, xjt_2, xjt_3, xjt_4, xjt_5, xjt_6, xjt_7, xjt_8, xjt_9, xjt_10, xjt_11, xjt_12, xjt_13, xjt_14, xjt_16, xjt_20, xjt_24, xjt_31, xjt_32, xjt_40, xjt_44, xjt_47, xjt_48, xjt_57, xjt_59, xjt_60, xjt_63, xjt_64, xjt_65, xjt_72, xjt_95, xjt_99, xjt_100, xjt_101, xjt_103, xjt_110, xjt_112, xjt_113, xjt_114, xjt_119, xjt_126, xjt_159, xjt_576, xjt_999, xjt_9999, xjt_65536, xjt_999999, xt64, xt_n, not_true_eq_false, not_false_eq_true, Classical.not_not] at c_9 c_17 c_29 c_42
          all_goals omega

theorem m_sprinkler2 {d : Nat} {b : Bool} {I : Nat → Nat → Int32} {L : Nat → Nat → Int64} {N : Nat → Nat} {u : Nat} {U : Nat → Nat → Nat} (hM : xML N u U I) (hK : xUK N u U) {k pl re pw : Nat} (hk : k < 5) (hpl : pl < N 0 * N 1) (hre : re < 5) (hpw : 1 ≤ pw ∧ pw < 10) (h5 : N 2 < 5) {x : Int32} (e_x : x = nI k) {y : Int32} (e_y : y = nI pl) {z : Int32} (e_z : z = nI re) {w : Int32} (e_w : w = nI pw) : xm_Z (d + 3) 113 [.ref 60, .int x, .int y, .int z, .int w] (xS b, I, L, xP b) (fun rz hz => xQM b I L (nI (N 2)) (xadd N k pl re pw) 0 U rz hz) := by
  subst e_x
  subst e_y
  subst e_z
  subst e_w
  have hO := hK.1
  have hb := hK.1.1
  have c64 : N 0 * N 1 ≤ 64 := xce_le hO
  have c4 : 4 ≤ N 0 * N 1 := xce_ge hO
  refine xw_S xb_113 (l := [.ref 60, .int (nI k), .int (nI pl), .int (nI re), .int (nI pw)]) (Nat.le_of_ble_eq_true rfl) rfl ?_
  refine xw_go xb_113 4 (f1 := (6, [.ref 60, .int (nI k), .int (nI pl), .int (nI re), .int (nI pw)], [.long 4, .long 0, .long ((nI k).toInt64)])) (h1 := (xS b, I, L, xP b)) rfl trivial ?_
  refine xw_call xb_113 rfl rfl rfl rfl rfl (Or.inl rfl) m_in ?_
  rintro _ _ ⟨rfl, rfl⟩
  refine xw_at (f' := (9, [.ref 60, .int (nI k), .int (nI pl), .int (nI re), .int (nI pw)], [.int (nI (xB (decide ((0 : Int64).toInt ≤ (nI k).toInt64.toInt ∧ (nI k).toInt64.toInt ≤ (4 : Int64).toInt))))])) (h' := (xS b, I, L, xP b)) rfl rfl ?_
  refine xw_go xb_113 1 (f1 := (if (nI (xB (decide ((0 : Int64).toInt ≤ (nI k).toInt64.toInt ∧ (nI k).toInt64.toInt ≤ (4 : Int64).toInt)))) = 0 then 45 else 12, [.ref 60, .int (nI k), .int (nI pl), .int (nI re), .int (nI pw)], [])) (h1 := (xS b, I, L, xP b)) rfl trivial ?_
  refine xw_if (fun c_9 => ?_) (fun c_9 => ?_)
  · skip
    exfalso
    try simp only [xB_dec, Classical.not_not] at c_9
    try simp (disch := omega) only [xt_eq, xt_lt, xt_le, xkt_0, xkt_1, xkt_2, xkt_3, xkt_4, xkt_5, xkt_6, xkt_7, xkt_8, xkt_9, xkt_10, xkt_11, xkt_12, xkt_13, xkt_14, xkt_16, xkt_20, xkt_24, xkt_31, xkt_32, xkt_40, xkt_44, xkt_47, xkt_48, xkt_57, xkt_59, xkt_60, xkt_63, xkt_64, xkt_65, xkt_72, xkt_95, xkt_99, xkt_100, xkt_101, xkt_103, xkt_110, xkt_112, xkt_113, xkt_114, xkt_119, xkt_126, xkt_159, xkt_576, xkt_999, xkt_9999, xkt_65536, xkt_999999, xkt_m1, xkt_m2, xkt_m3, xkt_m4, xkt_m11, xkt_m12, xkt_m13, xkt_m14, xkt_m20, xjt_0, xjt_1, xjt_2, xjt_3, xjt_4, xjt_5, xjt_6, xjt_7, xjt_8, xjt_9, xjt_10, xjt_11, xjt_12, xjt_13, xjt_14, xjt_16, xjt_20, xjt_24, xjt_31, xjt_32, xjt_40, xjt_44, xjt_47, xjt_48, xjt_57, xjt_59, xjt_60, xjt_63, xjt_64, xjt_65, xjt_72, xjt_95, xjt_99, xjt_100, xjt_101, xjt_103, xjt_110, xjt_112, xjt_113, xjt_114, xjt_119, xjt_126, xjt_159, xjt_576, xjt_999, xjt_9999, xjt_65536, xjt_999999, xt64, xt_n, not_true_eq_false, not_false_eq_true, Classical.not_not] at c_9
    all_goals omega
  · skip
    refine xw_go xb_113 2 (f1 := (14, [.ref 60, .int (nI k), .int (nI pl), .int (nI re), .int (nI pw)], [.int (nI pl), .ref 60])) (h1 := (xS b, I, L, xP b)) rfl trivial ?_
    refine xw_call xb_113 rfl rfl rfl rfl rfl (Or.inr ⟨_, _, rfl, rfl⟩) (m_isCell (I := I) hM.1 hO) ?_
    rintro _ _ ⟨rfl, rfl⟩
    refine xw_at (f' := (17, [.ref 60, .int (nI k), .int (nI pl), .int (nI re), .int (nI pw)], [.int (nI (xB (decide (0 ≤ (nI pl).toInt ∧ (nI pl).toInt < ((N 0 * N 1 : Nat) : Int)))))])) (h' := (xS b, I, L, xP b)) rfl rfl ?_
    refine xw_go xb_113 1 (f1 := (if (nI (xB (decide (0 ≤ (nI pl).toInt ∧ (nI pl).toInt < ((N 0 * N 1 : Nat) : Int))))) = 0 then 45 else 20, [.ref 60, .int (nI k), .int (nI pl), .int (nI re), .int (nI pw)], [])) (h1 := (xS b, I, L, xP b)) rfl trivial ?_
    refine xw_if (fun c_17 => ?_) (fun c_17 => ?_)
    · skip
      exfalso
      try simp only [xB_dec, Classical.not_not] at c_9 c_17
      try simp (disch := omega) only [xt_eq, xt_lt, xt_le, xkt_0, xkt_1, xkt_2, xkt_3, xkt_4, xkt_5, xkt_6, xkt_7, xkt_8, xkt_9, xkt_10, xkt_11, xkt_12, xkt_13, xkt_14, xkt_16, xkt_20, xkt_24, xkt_31, xkt_32, xkt_40, xkt_44, xkt_47, xkt_48, xkt_57, xkt_59, xkt_60, xkt_63, xkt_64, xkt_65, xkt_72, xkt_95, xkt_99, xkt_100, xkt_101, xkt_103, xkt_110, xkt_112, xkt_113, xkt_114, xkt_119, xkt_126, xkt_159, xkt_576, xkt_999, xkt_9999, xkt_65536, xkt_999999, xkt_m1, xkt_m2, xkt_m3, xkt_m4, xkt_m11, xkt_m12, xkt_m13, xkt_m14, xkt_m20, xjt_0, xjt_1, xjt_2, xjt_3, xjt_4, xjt_5, xjt_6, xjt_7, xjt_8, xjt_9, xjt_10, xjt_11, xjt_12, xjt_13, xjt_14, xjt_16, xjt_20, xjt_24, xjt_31, xjt_32, xjt_40, xjt_44, xjt_47, xjt_48, xjt_57, xjt_59, xjt_60, xjt_63, xjt_64, xjt_65, xjt_72, xjt_95, xjt_99, xjt_100, xjt_101, xjt_103, xjt_110, xjt_112, xjt_113, xjt_114, xjt_119, xjt_126, xjt_159, xjt_576, xjt_999, xjt_9999, xjt_65536, xjt_999999, xt64, xt_n, not_true_eq_false, not_false_eq_true, Classical.not_not] at c_9 c_17
      all_goals omega
    · skip
      refine xw_go xb_113 4 (f1 := (26, [.ref 60, .int (nI k), .int (nI pl), .int (nI re), .int (nI pw)], [.long 4, .long 0, .long ((nI re).toInt64)])) (h1 := (xS b, I, L, xP b)) rfl trivial ?_
      refine xw_call xb_113 rfl rfl rfl rfl rfl (Or.inl rfl) m_in ?_
      rintro _ _ ⟨rfl, rfl⟩
      refine xw_at (f' := (29, [.ref 60, .int (nI k), .int (nI pl), .int (nI re), .int (nI pw)], [.int (nI (xB (decide ((0 : Int64).toInt ≤ (nI re).toInt64.toInt ∧ (nI re).toInt64.toInt ≤ (4 : Int64).toInt))))])) (h' := (xS b, I, L, xP b)) rfl rfl ?_
      refine xw_go xb_113 1 (f1 := (if (nI (xB (decide ((0 : Int64).toInt ≤ (nI re).toInt64.toInt ∧ (nI re).toInt64.toInt ≤ (4 : Int64).toInt)))) = 0 then 45 else 32, [.ref 60, .int (nI k), .int (nI pl), .int (nI re), .int (nI pw)], [])) (h1 := (xS b, I, L, xP b)) rfl trivial ?_
      refine xw_if (fun c_29 => ?_) (fun c_29 => ?_)
      · skip
        exfalso
        try simp only [xB_dec, Classical.not_not] at c_9 c_17 c_29
        try simp (disch := omega) only [xt_eq, xt_lt, xt_le, xkt_0, xkt_1, xkt_2, xkt_3, xkt_4, xkt_5, xkt_6, xkt_7, xkt_8, xkt_9, xkt_10, xkt_11, xkt_12, xkt_13, xkt_14, xkt_16, xkt_20, xkt_24, xkt_31, xkt_32, xkt_40, xkt_44, xkt_47, xkt_48, xkt_57, xkt_59, xkt_60, xkt_63, xkt_64, xkt_65, xkt_72, xkt_95, xkt_99, xkt_100, xkt_101, xkt_103, xkt_110, xkt_112, xkt_113, xkt_114, xkt_119, xkt_126, xkt_159, xkt_576, xkt_999, xkt_9999, xkt_65536, xkt_999999, xkt_m1, xkt_m2, xkt_m3, xkt_m4, xkt_m11, xkt_m12, xkt_m13, xkt_m14, xkt_m20, xjt_0, xjt_1, xjt_2, xjt_3, xjt_4, xjt_5, xjt_6, xjt_7, xjt_8, xjt_9, xjt_10, xjt_11, xjt_12, xjt_13, xjt_14, xjt_16, xjt_20, xjt_24, xjt_31, xjt_32, xjt_40, xjt_44, xjt_47, xjt_48, xjt_57, xjt_59, xjt_60, xjt_63, xjt_64, xjt_65, xjt_72, xjt_95, xjt_99, xjt_100, xjt_101, xjt_103, xjt_110, xjt_112, xjt_113, xjt_114, xjt_119, xjt_126, xjt_159, xjt_576, xjt_999, xjt_9999, xjt_65536, xjt_999999, xt64, xt_n, not_true_eq_false, not_false_eq_true, Classical.not_not] at c_9 c_17 c_29
        all_goals omega
      · skip
        refine xw_go xb_113 4 (f1 := (39, [.ref 60, .int (nI k), .int (nI pl), .int (nI re), .int (nI pw)], [.long 9, .long 1, .long ((nI pw).toInt64)])) (h1 := (xS b, I, L, xP b)) rfl trivial ?_
        refine xw_call xb_113 rfl rfl rfl rfl rfl (Or.inl rfl) m_in ?_
        rintro _ _ ⟨rfl, rfl⟩
        refine xw_at (f' := (42, [.ref 60, .int (nI k), .int (nI pl), .int (nI re), .int (nI pw)], [.int (nI (xB (decide ((1 : Int64).toInt ≤ (nI pw).toInt64.toInt ∧ (nI pw).toInt64.toInt ≤ (9 : Int64).toInt))))])) (h' := (xS b, I, L, xP b)) rfl rfl ?_
        refine xw_go xb_113 1 (f1 := (if ¬ (nI (xB (decide ((1 : Int64).toInt ≤ (nI pw).toInt64.toInt ∧ (nI pw).toInt64.toInt ≤ (9 : Int64).toInt)))) = 0 then 47 else 45, [.ref 60, .int (nI k), .int (nI pl), .int (nI re), .int (nI pw)], [])) (h1 := (xS b, I, L, xP b)) rfl trivial ?_
        refine xw_if (fun c_42 => ?_) (fun c_42 => ?_)
        · skip
          refine xw_go xb_113 6 (f1 := (if ¬ (I 61 (2 : Int32).toNatClampNeg) = 5 then 60 else 57, [.ref 60, .int (nI k), .int (nI pl), .int (nI re), .int (nI pw)], [])) (h1 := (xS b, I, L, xP b)) rfl ⟨rfl, (xn_ar (n := 2) (N := 159) rfl (by decide) (by decide)), trivial⟩ ?_
          refine xw_if (fun c_54 => ?_) (fun c_54 => ?_)
          · skip
            refine xw_go xb_113 5 (f1 := (66, [.ref 60, .int (nI k), .int (nI pl), .int (nI re), .int (nI pw)], [.int (nI pw), .int (nI re), .int (nI pl), .int (nI k), .ref 60])) (h1 := (xS b, I, L, xP b)) rfl trivial ?_
            refine xw_call xb_113 rfl rfl rfl rfl rfl (Or.inr ⟨_, _, rfl, rfl⟩) (m_comes hM.1 h5 rfl rfl rfl rfl) ?_
            rintro _ _ ⟨rfl, I1, rfl, g1, g2, g3⟩
            refine xw_at (f' := (69, [.ref 60, .int (nI k), .int (nI pl), .int (nI re), .int (nI pw)], [])) (h' := (xS b, I1, L, xP b)) rfl rfl ?_
            refine xw_go xb_113 6 (f1 := (77, [.ref 60, .int (nI k), .int (nI pl), .int (nI re), .int (nI pw)], [.int ((I1 61 (2 : Int32).toNatClampNeg) - 1)])) (h1 := (xS b, I1, L, xP b)) rfl ⟨rfl, (xn_ar (n := 2) (N := 159) rfl (by decide) (by decide)), trivial⟩ ?_
            refine xw_ret xb_113 rfl rfl trivial ?_
            refine ⟨xm_some (congrArg Value.int ?_), I1, rfl, g3, g1, g2, fun j hj => absurd hj (Nat.not_lt_zero j)⟩
            rw [show (2 : Int32).toNatClampNeg = 2 from rfl, g1 2 (by decide)]
            show nI (N 2 + 1) - 1 = _
            rw [xl_1, xn_sub (by omega), Nat.add_sub_cancel]
          · skip
            exfalso
            rw [show (2 : Int32).toNatClampNeg = 2 from rfl, hM.1 2 (by decide), Classical.not_not, xl_5, nI_eq (by omega) (by omega)] at c_54
            omega
        · skip
          exfalso
          try simp only [xB_dec, Classical.not_not] at c_9 c_17 c_29 c_42
          try simp (disch := omega) only [xt_eq, xt_lt, xt_le, xkt_0, xkt_1, xkt_2, xkt_3, xkt_4, xkt_5, xkt_6, xkt_7, xkt_8, xkt_9, xkt_10, xkt_11, xkt_12, xkt_13, xkt_14, xkt_16, xkt_20, xkt_24, xkt_31, xkt_32, xkt_40, xkt_44, xkt_47, xkt_48, xkt_57, xkt_59, xkt_60, xkt_63, xkt_64, xkt_65, xkt_72, xkt_95, xkt_99, xkt_100, xkt_101, xkt_103, xkt_110, xkt_112, xkt_113, xkt_114, xkt_119, xkt_126, xkt_159, xkt_576, xkt_999, xkt_9999, xkt_65536, xkt_999999, xkt_m1, xkt_m2, xkt_m3, xkt_m4, xkt_m11, xkt_m12, xkt_m13, xkt_m14, xkt_m20, xjt_0, xjt_1, xjt_2, xjt_3, xjt_4, xjt_5, xjt_6, xjt_7, xjt_8, xjt_9, xjt_10, xjt_11, xjt_12, xjt_13, xjt_14, xjt_16, xjt_20, xjt_24, xjt_31, xjt_32, xjt_40, xjt_44, xjt_47, xjt_48, xjt_57, xjt_59, xjt_60, xjt_63, xjt_64, xjt_65, xjt_72, xjt_95, xjt_99, xjt_100, xjt_101, xjt_103, xjt_110, xjt_112, xjt_113, xjt_114, xjt_119, xjt_126, xjt_159, xjt_576, xjt_999, xjt_9999, xjt_65536, xjt_999999, xt64, xt_n, not_true_eq_false, not_false_eq_true, Classical.not_not] at c_9 c_17 c_29 c_42
          all_goals omega

theorem c_seed0 {d : Nat} {b : Bool} {I : Nat → Nat → Int32} {L : Nat → Nat → Int64} {N : Nat → Nat} {u : Nat} {U : Nat → Nat → Nat} (hP : xPL N u U 1 I) (hK : xUK N u U) {x : Int32} (hx : x.toInt < 0) : xm_Z (d + 1) 71 [.ref 0, .int x] (xS b, I, L, xP b) (fun rz hz => xQC b I L (-1) N u U rz hz) := by
  refine xw_S xb_71 (l := [.ref 0, .int x, .float 0]) (Nat.le_of_ble_eq_true rfl) rfl ?_
  refine xw_go xb_71 2 (f1 := (if 0 ≤ x then 6 else 4, [.ref 0, .int x, .float 0], [])) (h1 := (xS b, I, L, xP b)) rfl trivial ?_
  refine xw_if (fun c_1 => ?_) (fun c_1 => ?_)
  · skip
    exfalso
    try simp only [xB_dec, Classical.not_not] at c_1
    try simp (disch := omega) only [xt_eq, xt_lt, xt_le, xkt_0, xkt_1, xkt_2, xkt_3, xkt_4, xkt_5, xkt_6, xkt_7, xkt_8, xkt_9, xkt_10, xkt_11, xkt_12, xkt_13, xkt_14, xkt_16, xkt_20, xkt_24, xkt_31, xkt_32, xkt_40, xkt_44, xkt_47, xkt_48, xkt_57, xkt_59, xkt_60, xkt_63, xkt_64, xkt_65, xkt_72, xkt_95, xkt_99, xkt_100, xkt_101, xkt_103, xkt_110, xkt_112, xkt_113, xkt_114, xkt_119, xkt_126, xkt_159, xkt_576, xkt_999, xkt_9999, xkt_65536, xkt_999999, xkt_m1, xkt_m2, xkt_m3, xkt_m4, xkt_m11, xkt_m12, xkt_m13, xkt_m14, xkt_m20, xjt_0, xjt_1, xjt_2, xjt_3, xjt_4, xjt_5, xjt_6, xjt_7, xjt_8, xjt_9, xjt_10, xjt_11, xjt_12, xjt_13, xjt_14, xjt_16, xjt_20, xjt_24, xjt_31, xjt_32, xjt_40, xjt_44, xjt_47, xjt_48, xjt_57, xjt_59, xjt_60, xjt_63, xjt_64, xjt_65, xjt_72, xjt_95, xjt_99, xjt_100, xjt_101, xjt_103, xjt_110, xjt_112, xjt_113, xjt_114, xjt_119, xjt_126, xjt_159, xjt_576, xjt_999, xjt_9999, xjt_65536, xjt_999999, xt64, xt_n, not_true_eq_false, not_false_eq_true, Classical.not_not] at c_1
    all_goals omega
  · skip
    refine xw_go xb_71 1 (f1 := (5, [.ref 0, .int x, .float 0], [.int (-1)])) (h1 := (xS b, I, L, xP b)) rfl trivial ?_
    refine xw_ret xb_71 rfl rfl trivial ?_
    exact xQC_same hP

theorem c_seed1 {d : Nat} {b : Bool} {I : Nat → Nat → Int32} {L : Nat → Nat → Int64} {N : Nat → Nat} {u : Nat} {U : Nat → Nat → Nat} (hP : xPL N u U 1 I) (hK : xUK N u U) {w : Nat} (hw : w < 2 ^ 31) {x : Int32} (e_x : x = nI w) : xm_Z (d + 1) 71 [.ref 0, .int x] (xS b, I, L, xP b) (fun rz hz => xQC b I L (nI (N 10)) (va_up N 10 w) u U rz hz) := by
  subst e_x
  have hO := hK.1
  have hb := hK.1.1
  have c64 : N 0 * N 1 ≤ 64 := xce_le hO
  have c4 : 4 ≤ N 0 * N 1 := xce_ge hO
  obtain ⟨⟨hN0, hN1, hN2, hN3, hN4, hN5, hN6, hN7, hN8, hN9, hN10⟩, hNs, hNw, hNp⟩ := hP.1
  refine xw_S xb_71 (l := [.ref 0, .int (nI w), .float 0]) (Nat.le_of_ble_eq_true rfl) rfl ?_
  refine xw_go xb_71 2 (f1 := (if 0 ≤ (nI w) then 6 else 4, [.ref 0, .int (nI w), .float 0], [])) (h1 := (xS b, I, L, xP b)) rfl trivial ?_
  refine xw_if (fun c_1 => ?_) (fun c_1 => ?_)
  · skip
    refine xw_go xb_71 9 (f1 := (23, [.ref 0, .int (nI w), .int (I 1 13)], [.int (I 1 13)])) (h1 := (xS b, xm_up I 1 13 (nI w), L, xP b)) rfl ⟨rfl, rfl, rfl, rfl, trivial⟩ ?_
    refine xw_ret xb_71 rfl rfl trivial ?_
    refine ⟨xm_some (congrArg Value.int hN10), _, rfl, xPF_u (xPF_r I) (by decide), xPL_N hP (xPN_u (k := 10) (by omega) hP.1 (by omega) rfl rfl rfl) (xm_vu_o (by omega)) (fun a h1 h2 => xm_up_o (by omega))⟩
  · skip
    exfalso
    try simp only [xB_dec, Classical.not_not] at c_1
    try simp (disch := omega) only [xt_eq, xt_lt, xt_le, xkt_0, xkt_1, xkt_2, xkt_3, xkt_4, xkt_5, xkt_6, xkt_7, xkt_8, xkt_9, xkt_10, xkt_11, xkt_12, xkt_13, xkt_14, xkt_16, xkt_20, xkt_24, xkt_31, xkt_32, xkt_40, xkt_44, xkt_47, xkt_48, xkt_57, xkt_59, xkt_60, xkt_63, xkt_64, xkt_65, xkt_72, xkt_95, xkt_99, xkt_100, xkt_101, xkt_103, xkt_110, xkt_112, xkt_113, xkt_114, xkt_119, xkt_126, xkt_159, xkt_576, xkt_999, xkt_9999, xkt_65536, xkt_999999, xkt_m1, xkt_m2, xkt_m3, xkt_m4, xkt_m11, xkt_m12, xkt_m13, xkt_m14, xkt_m20, xjt_0, xjt_1, xjt_2, xjt_3, xjt_4, xjt_5, xjt_6, xjt_7, xjt_8, xjt_9, xjt_10, xjt_11, xjt_12, xjt_13, xjt_14, xjt_16, xjt_20, xjt_24, xjt_31, xjt_32, xjt_40, xjt_44, xjt_47, xjt_48, xjt_57, xjt_59, xjt_60, xjt_63, xjt_64, xjt_65, xjt_72, xjt_95, xjt_99, xjt_100, xjt_101, xjt_103, xjt_110, xjt_112, xjt_113, xjt_114, xjt_119, xjt_126, xjt_159, xjt_576, xjt_999, xjt_9999, xjt_65536, xjt_999999, xt64, xt_n, not_true_eq_false, not_false_eq_true, Classical.not_not] at c_1
    all_goals omega

theorem m_seed0 {d : Nat} {b : Bool} {I : Nat → Nat → Int32} {L : Nat → Nat → Int64} {N : Nat → Nat} {u : Nat} {U : Nat → Nat → Nat} (hM : xML N u U I) (hK : xUK N u U) {x : Int32} (hx : x.toInt < 0) : xm_Z (d + 1) 148 [.ref 60, .int x] (xS b, I, L, xP b) (fun rz hz => xQM b I L (-1) N u U rz hz) := by
  refine xw_S xb_148 (l := [.ref 60, .int x, .float 0]) (Nat.le_of_ble_eq_true rfl) rfl ?_
  refine xw_go xb_148 2 (f1 := (if 0 ≤ x then 6 else 4, [.ref 60, .int x, .float 0], [])) (h1 := (xS b, I, L, xP b)) rfl trivial ?_
  refine xw_if (fun c_1 => ?_) (fun c_1 => ?_)
  · skip
    exfalso
    try simp only [xB_dec, Classical.not_not] at c_1
    try simp (disch := omega) only [xt_eq, xt_lt, xt_le, xkt_0, xkt_1, xkt_2, xkt_3, xkt_4, xkt_5, xkt_6, xkt_7, xkt_8, xkt_9, xkt_10, xkt_11, xkt_12, xkt_13, xkt_14, xkt_16, xkt_20, xkt_24, xkt_31, xkt_32, xkt_40, xkt_44, xkt_47, xkt_48, xkt_57, xkt_59, xkt_60, xkt_63, xkt_64, xkt_65, xkt_72, xkt_95, xkt_99, xkt_100, xkt_101, xkt_103, xkt_110, xkt_112, xkt_113, xkt_114, xkt_119, xkt_126, xkt_159, xkt_576, xkt_999, xkt_9999, xkt_65536, xkt_999999, xkt_m1, xkt_m2, xkt_m3, xkt_m4, xkt_m11, xkt_m12, xkt_m13, xkt_m14, xkt_m20, xjt_0, xjt_1, xjt_2, xjt_3, xjt_4, xjt_5, xjt_6, xjt_7, xjt_8, xjt_9, xjt_10, xjt_11, xjt_12, xjt_13, xjt_14, xjt_16, xjt_20, xjt_24, xjt_31, xjt_32, xjt_40, xjt_44, xjt_47, xjt_48, xjt_57, xjt_59, xjt_60, xjt_63, xjt_64, xjt_65, xjt_72, xjt_95, xjt_99, xjt_100, xjt_101, xjt_103, xjt_110, xjt_112, xjt_113, xjt_114, xjt_119, xjt_126, xjt_159, xjt_576, xjt_999, xjt_9999, xjt_65536, xjt_999999, xt64, xt_n, not_true_eq_false, not_false_eq_true, Classical.not_not] at c_1
    all_goals omega
  · skip
    refine xw_go xb_148 1 (f1 := (5, [.ref 60, .int x, .float 0], [.int (-1)])) (h1 := (xS b, I, L, xP b)) rfl trivial ?_
    refine xw_ret xb_148 rfl rfl trivial ?_
    exact xQM_same hM

theorem m_seed1 {d : Nat} {b : Bool} {I : Nat → Nat → Int32} {L : Nat → Nat → Int64} {N : Nat → Nat} {u : Nat} {U : Nat → Nat → Nat} (hM : xML N u U I) (hK : xUK N u U) {w : Nat} (hw : w < 2 ^ 31) {x : Int32} (e_x : x = nI w) : xm_Z (d + 1) 148 [.ref 60, .int x] (xS b, I, L, xP b) (fun rz hz => xQM b I L (nI (N 10)) (va_up N 10 w) u U rz hz) := by
  subst e_x
  refine xw_S xb_148 (l := [.ref 60, .int (nI w), .float 0]) (Nat.le_of_ble_eq_true rfl) rfl ?_
  refine xw_go xb_148 2 (f1 := (if 0 ≤ (nI w) then 6 else 4, [.ref 60, .int (nI w), .float 0], [])) (h1 := (xS b, I, L, xP b)) rfl trivial ?_
  refine xw_if (fun c_1 => ?_) (fun c_1 => ?_)
  · skip
    refine xw_go xb_148 11 (f1 := (23, [.ref 60, .int (nI w), .int (I 61 (10 : Int32).toNatClampNeg)], [.int (I 61 (10 : Int32).toNatClampNeg)])) (h1 := (xS b, xm_up I 61 (10 : Int32).toNatClampNeg (nI w), L, xP b)) rfl ⟨rfl, (xn_ar (n := 10) (N := 159) rfl (by decide) (by decide)), rfl, (xn_ar (n := 10) (N := 159) rfl (by decide) (by decide)), trivial⟩ ?_
    refine xw_ret xb_148 rfl rfl trivial ?_
    exact ⟨xm_some (congrArg Value.int (hM.1 10 (by decide))), _, rfl, xMF_u (xMF_r I) (Or.inl rfl), xML_N hM (xMN_u hM.1 rfl rfl) rfl rfl⟩
  · skip
    exfalso
    try simp only [xB_dec, Classical.not_not] at c_1
    try simp (disch := omega) only [xt_eq, xt_lt, xt_le, xkt_0, xkt_1, xkt_2, xkt_3, xkt_4, xkt_5, xkt_6, xkt_7, xkt_8, xkt_9, xkt_10, xkt_11, xkt_12, xkt_13, xkt_14, xkt_16, xkt_20, xkt_24, xkt_31, xkt_32, xkt_40, xkt_44, xkt_47, xkt_48, xkt_57, xkt_59, xkt_60, xkt_63, xkt_64, xkt_65, xkt_72, xkt_95, xkt_99, xkt_100, xkt_101, xkt_103, xkt_110, xkt_112, xkt_113, xkt_114, xkt_119, xkt_126, xkt_159, xkt_576, xkt_999, xkt_9999, xkt_65536, xkt_999999, xkt_m1, xkt_m2, xkt_m3, xkt_m4, xkt_m11, xkt_m12, xkt_m13, xkt_m14, xkt_m20, xjt_0, xjt_1, xjt_2, xjt_3, xjt_4, xjt_5, xjt_6, xjt_7, xjt_8, xjt_9, xjt_10, xjt_11, xjt_12, xjt_13, xjt_14, xjt_16, xjt_20, xjt_24, xjt_31, xjt_32, xjt_40, xjt_44, xjt_47, xjt_48, xjt_57, xjt_59, xjt_60, xjt_63, xjt_64, xjt_65, xjt_72, xjt_95, xjt_99, xjt_100, xjt_101, xjt_103, xjt_110, xjt_112, xjt_113, xjt_114, xjt_119, xjt_126, xjt_159, xjt_576, xjt_999, xjt_9999, xjt_65536, xjt_999999, xt64, xt_n, not_true_eq_false, not_false_eq_true, Classical.not_not] at c_1
    all_goals omega

theorem c_rule0 {d : Nat} {b : Bool} {I : Nat → Nat → Int32} {L : Nat → Nat → Int64} {N : Nat → Nat} {u : Nat} {U : Nat → Nat → Nat} (hP : xPL N u U 1 I) (hK : xUK N u U) {x y : Int32} (hx : ¬ ((x.toInt = 0 ∧ 0 ≤ y.toInt ∧ y.toInt ≤ 3) ∨ (x.toInt = 1 ∧ 1 ≤ y.toInt ∧ y.toInt ≤ 5) ∨ ((x.toInt = 2 ∨ x.toInt = 3) ∧ 0 ≤ y.toInt ∧ y.toInt ≤ 999))) : xm_Z (d + 2) 38 [.ref 0, .int x, .int y] (xS b, I, L, xP b) (fun rz hz => xQC b I L (-1) N u U rz hz) := by
  refine xw_S xb_38 (l := [.ref 0, .int x, .int y]) (Nat.le_of_ble_eq_true rfl) rfl ?_
  refine xw_go xb_38 2 (f1 := (xm_sw [(0, 32), (1, 54), (2, 76), (3, 100)] 124 x, [.ref 0, .int x, .int y], [])) (h1 := (xS b, I, L, xP b)) rfl trivial ?_
  refine xw_if (fun c_1_0 => ?_) (fun c_1_0 => ?_)
  · skip
    refine xw_go xb_38 3 (f1 := (35, [.ref 0, .int x, .int y], [.int 3, .int 0, .int y])) (h1 := (xS b, I, L, xP b)) rfl trivial ?_
    refine xw_call xb_38 rfl rfl rfl rfl rfl (Or.inl rfl) c_within ?_
    rintro _ _ ⟨rfl, rfl⟩
    refine xw_at (f' := (38, [.ref 0, .int x, .int y], [.int (nI (xB (decide ((0 : Int32).toInt ≤ y.toInt ∧ y.toInt ≤ (3 : Int32).toInt))))])) (h' := (xS b, I, L, xP b)) rfl rfl ?_
    refine xw_go xb_38 1 (f1 := (if (nI (xB (decide ((0 : Int32).toInt ≤ y.toInt ∧ y.toInt ≤ (3 : Int32).toInt)))) = 0 then 52 else 41, [.ref 0, .int x, .int y], [])) (h1 := (xS b, I, L, xP b)) rfl trivial ?_
    refine xw_if (fun c_38 => ?_) (fun c_38 => ?_)
    · skip
      refine xw_go xb_38 1 (f1 := (53, [.ref 0, .int x, .int y], [.int (-1)])) (h1 := (xS b, I, L, xP b)) rfl trivial ?_
      refine xw_ret xb_38 rfl rfl trivial ?_
      exact xQC_same hP
    · skip
      exfalso
      try simp only [xB_dec, Classical.not_not] at c_1_0 c_38
      try simp (disch := omega) only [xt_eq, xt_lt, xt_le, xkt_0, xkt_1, xkt_2, xkt_3, xkt_4, xkt_5, xkt_6, xkt_7, xkt_8, xkt_9, xkt_10, xkt_11, xkt_12, xkt_13, xkt_14, xkt_16, xkt_20, xkt_24, xkt_31, xkt_32, xkt_40, xkt_44, xkt_47, xkt_48, xkt_57, xkt_59, xkt_60, xkt_63, xkt_64, xkt_65, xkt_72, xkt_95, xkt_99, xkt_100, xkt_101, xkt_103, xkt_110, xkt_112, xkt_113, xkt_114, xkt_119, xkt_126, xkt_159, xkt_576, xkt_999, xkt_9999, xkt_65536, xkt_999999, xkt_m1, xkt_m2, xkt_m3, xkt_m4, xkt_m11, xkt_m12, xkt_m13, xkt_m14, xkt_m20, xjt_0, xjt_1, xjt_2, xjt_3, xjt_4, xjt_5, xjt_6, xjt_7, xjt_8, xjt_9, xjt_10, xjt_11, xjt_12, xjt_13, xjt_14, xjt_16, xjt_20, xjt_24, xjt_31, xjt_32, xjt_40, xjt_44, xjt_47, xjt_48, xjt_57, xjt_59, xjt_60, xjt_63, xjt_64, xjt_65, xjt_72, xjt_95, xjt_99, xjt_100, xjt_101, xjt_103, xjt_110, xjt_112, xjt_113, xjt_114, xjt_119, xjt_126, xjt_159, xjt_576, xjt_999, xjt_9999, xjt_65536, xjt_999999, xt64, xt_n, not_true_eq_false, not_false_eq_true, Classical.not_not] at c_1_0 c_38
      all_goals omega
  refine xw_if (fun c_1_1 => ?_) (fun c_1_1 => ?_)
  · skip
    refine xw_go xb_38 3 (f1 := (57, [.ref 0, .int x, .int y], [.int 5, .int 1, .int y])) (h1 := (xS b, I, L, xP b)) rfl trivial ?_
    refine xw_call xb_38 rfl rfl rfl rfl rfl (Or.inl rfl) c_within ?_
    rintro _ _ ⟨rfl, rfl⟩
    refine xw_at (f' := (60, [.ref 0, .int x, .int y], [.int (nI (xB (decide ((1 : Int32).toInt ≤ y.toInt ∧ y.toInt ≤ (5 : Int32).toInt))))])) (h' := (xS b, I, L, xP b)) rfl rfl ?_
    refine xw_go xb_38 1 (f1 := (if (nI (xB (decide ((1 : Int32).toInt ≤ y.toInt ∧ y.toInt ≤ (5 : Int32).toInt)))) = 0 then 74 else 63, [.ref 0, .int x, .int y], [])) (h1 := (xS b, I, L, xP b)) rfl trivial ?_
    refine xw_if (fun c_60 => ?_) (fun c_60 => ?_)
    · skip
      refine xw_go xb_38 1 (f1 := (75, [.ref 0, .int x, .int y], [.int (-1)])) (h1 := (xS b, I, L, xP b)) rfl trivial ?_
      refine xw_ret xb_38 rfl rfl trivial ?_
      exact xQC_same hP
    · skip
      exfalso
      try simp only [xB_dec, Classical.not_not] at c_1_0 c_1_1 c_60
      try simp (disch := omega) only [xt_eq, xt_lt, xt_le, xkt_0, xkt_1, xkt_2, xkt_3, xkt_4, xkt_5, xkt_6, xkt_7, xkt_8, xkt_9, xkt_10, xkt_11, xkt_12, xkt_13, xkt_14, xkt_16, xkt_20, xkt_24, xkt_31, xkt_32, xkt_40, xkt_44, xkt_47, xkt_48, xkt_57, xkt_59, xkt_60, xkt_63, xkt_64, xkt_65, xkt_72, xkt_95, xkt_99, xkt_100, xkt_101, xkt_103, xkt_110, xkt_112, xkt_113, xkt_114, xkt_119, xkt_126, xkt_159, xkt_576, xkt_999, xkt_9999, xkt_65536, xkt_999999, xkt_m1, xkt_m2, xkt_m3, xkt_m4, xkt_m11, xkt_m12, xkt_m13, xkt_m14, xkt_m20, xjt_0, xjt_1, xjt_2, xjt_3, xjt_4, xjt_5, xjt_6, xjt_7, xjt_8, xjt_9, xjt_10, xjt_11, xjt_12, xjt_13, xjt_14, xjt_16, xjt_20, xjt_24, xjt_31, xjt_32, xjt_40, xjt_44, xjt_47, xjt_48, xjt_57, xjt_59, xjt_60, xjt_63, xjt_64, xjt_65, xjt_72, xjt_95, xjt_99, xjt_100, xjt_101, xjt_103, xjt_110, xjt_112, xjt_113, xjt_114, xjt_119, xjt_126, xjt_159, xjt_576, xjt_999, xjt_9999, xjt_65536, xjt_999999, xt64, xt_n, not_true_eq_false, not_false_eq_true, Classical.not_not] at c_1_0 c_1_1 c_60
      all_goals omega
  refine xw_if (fun c_1_2 => ?_) (fun c_1_2 => ?_)
  · skip
    refine xw_go xb_38 3 (f1 := (81, [.ref 0, .int x, .int y], [.int 999, .int 0, .int y])) (h1 := (xS b, I, L, xP b)) rfl trivial ?_
    refine xw_call xb_38 rfl rfl rfl rfl rfl (Or.inl rfl) c_within ?_
    rintro _ _ ⟨rfl, rfl⟩
    refine xw_at (f' := (84, [.ref 0, .int x, .int y], [.int (nI (xB (decide ((0 : Int32).toInt ≤ y.toInt ∧ y.toInt ≤ (999 : Int32).toInt))))])) (h' := (xS b, I, L, xP b)) rfl rfl ?_
    refine xw_go xb_38 1 (f1 := (if (nI (xB (decide ((0 : Int32).toInt ≤ y.toInt ∧ y.toInt ≤ (999 : Int32).toInt)))) = 0 then 98 else 87, [.ref 0, .int x, .int y], [])) (h1 := (xS b, I, L, xP b)) rfl trivial ?_
    refine xw_if (fun c_84 => ?_) (fun c_84 => ?_)
    · skip
      refine xw_go xb_38 1 (f1 := (99, [.ref 0, .int x, .int y], [.int (-1)])) (h1 := (xS b, I, L, xP b)) rfl trivial ?_
      refine xw_ret xb_38 rfl rfl trivial ?_
      exact xQC_same hP
    · skip
      exfalso
      try simp only [xB_dec, Classical.not_not] at c_1_0 c_1_1 c_1_2 c_84
      try simp (disch := omega) only [xt_eq, xt_lt, xt_le, xkt_0, xkt_1, xkt_2, xkt_3, xkt_4, xkt_5, xkt_6, xkt_7, xkt_8, xkt_9, xkt_10, xkt_11, xkt_12, xkt_13, xkt_14, xkt_16, xkt_20, xkt_24, xkt_31, xkt_32, xkt_40, xkt_44, xkt_47, xkt_48, xkt_57, xkt_59, xkt_60, xkt_63, xkt_64, xkt_65, xkt_72, xkt_95, xkt_99, xkt_100, xkt_101, xkt_103, xkt_110, xkt_112, xkt_113, xkt_114, xkt_119, xkt_126, xkt_159, xkt_576, xkt_999, xkt_9999, xkt_65536, xkt_999999, xkt_m1, xkt_m2, xkt_m3, xkt_m4, xkt_m11, xkt_m12, xkt_m13, xkt_m14, xkt_m20, xjt_0, xjt_1, xjt_2, xjt_3, xjt_4, xjt_5, xjt_6, xjt_7, xjt_8, xjt_9, xjt_10, xjt_11, xjt_12, xjt_13, xjt_14, xjt_16, xjt_20, xjt_24, xjt_31, xjt_32, xjt_40, xjt_44, xjt_47, xjt_48, xjt_57, xjt_59, xjt_60, xjt_63, xjt_64, xjt_65, xjt_72, xjt_95, xjt_99, xjt_100, xjt_101, xjt_103, xjt_110, xjt_112, xjt_113, xjt_114, xjt_119, xjt_126, xjt_159, xjt_576, xjt_999, xjt_9999, xjt_65536, xjt_999999, xt64, xt_n, not_true_eq_false, not_false_eq_true, Classical.not_not] at c_1_0 c_1_1 c_1_2 c_84
      all_goals omega
  refine xw_if (fun c_1_3 => ?_) (fun c_1_3 => ?_)
  · skip
    refine xw_go xb_38 3 (f1 := (105, [.ref 0, .int x, .int y], [.int 999, .int 0, .int y])) (h1 := (xS b, I, L, xP b)) rfl trivial ?_
    refine xw_call xb_38 rfl rfl rfl rfl rfl (Or.inl rfl) c_within ?_
    rintro _ _ ⟨rfl, rfl⟩
    refine xw_at (f' := (108, [.ref 0, .int x, .int y], [.int (nI (xB (decide ((0 : Int32).toInt ≤ y.toInt ∧ y.toInt ≤ (999 : Int32).toInt))))])) (h' := (xS b, I, L, xP b)) rfl rfl ?_
    refine xw_go xb_38 1 (f1 := (if (nI (xB (decide ((0 : Int32).toInt ≤ y.toInt ∧ y.toInt ≤ (999 : Int32).toInt)))) = 0 then 122 else 111, [.ref 0, .int x, .int y], [])) (h1 := (xS b, I, L, xP b)) rfl trivial ?_
    refine xw_if (fun c_108 => ?_) (fun c_108 => ?_)
    · skip
      refine xw_go xb_38 1 (f1 := (123, [.ref 0, .int x, .int y], [.int (-1)])) (h1 := (xS b, I, L, xP b)) rfl trivial ?_
      refine xw_ret xb_38 rfl rfl trivial ?_
      exact xQC_same hP
    · skip
      exfalso
      try simp only [xB_dec, Classical.not_not] at c_1_0 c_1_1 c_1_2 c_1_3 c_108
      try simp (disch := omega) only [xt_eq, xt_lt, xt_le, xkt_0, xkt_1, xkt_2, xkt_3, xkt_4, xkt_5, xkt_6, xkt_7, xkt_8, xkt_9, xkt_10, xkt_11, xkt_12, xkt_13, xkt_14, xkt_16, xkt_20, xkt_24, xkt_31, xkt_32, xkt_40, xkt_44, xkt_47, xkt_48, xkt_57, xkt_59, xkt_60, xkt_63, xkt_64, xkt_65, xkt_72, xkt_95, xkt_99, xkt_100, xkt_101, xkt_103, xkt_110, xkt_112, xkt_113, xkt_114, xkt_119, xkt_126, xkt_159, xkt_576, xkt_999, xkt_9999, xkt_65536, xkt_999999, xkt_m1, xkt_m2, xkt_m3, xkt_m4, xkt_m11, xkt_m12, xkt_m13, xkt_m14, xkt_m20, xjt_0, xjt_1, xjt_2, xjt_3, xjt_4, xjt_5, xjt_6, xjt_7, xjt_8, xjt_9, xjt_10, xjt_11, xjt_12, xjt_13, xjt_14, xjt_16, xjt_20, xjt_24, xjt_31, xjt_32, xjt_40, xjt_44, xjt_47, xjt_48, xjt_57, xjt_59, xjt_60, xjt_63, xjt_64, xjt_65, xjt_72, xjt_95, xjt_99, xjt_100, xjt_101, xjt_103, xjt_110, xjt_112, xjt_113, xjt_114, xjt_119, xjt_126, xjt_159, xjt_576, xjt_999, xjt_9999, xjt_65536, xjt_999999, xt64, xt_n, not_true_eq_false, not_false_eq_true, Classical.not_not] at c_1_0 c_1_1 c_1_2 c_1_3 c_108
      all_goals omega
  refine xw_at (f' := (124, [.ref 0, .int x, .int y], [])) (h' := (xS b, I, L, xP b)) rfl rfl ?_
  refine xw_go xb_38 1 (f1 := (125, [.ref 0, .int x, .int y], [.int (-1)])) (h1 := (xS b, I, L, xP b)) rfl trivial ?_
  refine xw_ret xb_38 rfl rfl trivial ?_
  exact xQC_same hP

theorem c_rule10 {d : Nat} {b : Bool} {I : Nat → Nat → Int32} {L : Nat → Nat → Int64} {N : Nat → Nat} {u : Nat} {U : Nat → Nat → Nat} (hP : xPL N u U 1 I) (hK : xUK N u U) {w : Nat} (hw : 0 ≤ w ∧ w ≤ 3) {x : Int32} (e_x : x = nI 0) {y : Int32} (e_y : y = nI w) : xm_Z (d + 2) 38 [.ref 0, .int x, .int y] (xS b, I, L, xP b) (fun rz hz => xQC b I L (nI (N 5)) (va_up N 5 w) u U rz hz) := by
  subst e_x
  subst e_y
  have hO := hK.1
  have hb := hK.1.1
  have c64 : N 0 * N 1 ≤ 64 := xce_le hO
  have c4 : 4 ≤ N 0 * N 1 := xce_ge hO
  obtain ⟨⟨hN0, hN1, hN2, hN3, hN4, hN5, hN6, hN7, hN8, hN9, hN10⟩, hNs, hNw, hNp⟩ := hP.1
  refine xw_S xb_38 (l := [.ref 0, .int (nI 0), .int (nI w)]) (Nat.le_of_ble_eq_true rfl) rfl ?_
  refine xw_go xb_38 2 (f1 := (xm_sw [(0, 32), (1, 54), (2, 76), (3, 100)] 124 (nI 0), [.ref 0, .int (nI 0), .int (nI w)], [])) (h1 := (xS b, I, L, xP b)) rfl trivial ?_
  refine xw_if (fun c_1_0 => ?_) (fun c_1_0 => ?_)
  · skip
    refine xw_go xb_38 3 (f1 := (35, [.ref 0, .int (nI 0), .int (nI w)], [.int 3, .int 0, .int (nI w)])) (h1 := (xS b, I, L, xP b)) rfl trivial ?_
    refine xw_call xb_38 rfl rfl rfl rfl rfl (Or.inl rfl) c_within ?_
    rintro _ _ ⟨rfl, rfl⟩
    refine xw_at (f' := (38, [.ref 0, .int (nI 0), .int (nI w)], [.int (nI (xB (decide ((0 : Int32).toInt ≤ (nI w).toInt ∧ (nI w).toInt ≤ (3 : Int32).toInt))))])) (h' := (xS b, I, L, xP b)) rfl rfl ?_
    refine xw_go xb_38 1 (f1 := (if (nI (xB (decide ((0 : Int32).toInt ≤ (nI w).toInt ∧ (nI w).toInt ≤ (3 : Int32).toInt)))) = 0 then 52 else 41, [.ref 0, .int (nI 0), .int (nI w)], [])) (h1 := (xS b, I, L, xP b)) rfl trivial ?_
    refine xw_if (fun c_38 => ?_) (fun c_38 => ?_)
    · skip
      exfalso
      try simp only [xB_dec, Classical.not_not] at c_1_0 c_38
      try simp (disch := omega) only [xt_eq, xt_lt, xt_le, xkt_0, xkt_1, xkt_2, xkt_3, xkt_4, xkt_5, xkt_6, xkt_7, xkt_8, xkt_9, xkt_10, xkt_11, xkt_12, xkt_13, xkt_14, xkt_16, xkt_20, xkt_24, xkt_31, xkt_32, xkt_40, xkt_44, xkt_47, xkt_48, xkt_57, xkt_59, xkt_60, xkt_63, xkt_64, xkt_65, xkt_72, xkt_95, xkt_99, xkt_100, xkt_101, xkt_103, xkt_110, xkt_112, xkt_113, xkt_114, xkt_119, xkt_126, xkt_159, xkt_576, xkt_999, xkt_9999, xkt_65536, xkt_999999, xkt_m1, xkt_m2, xkt_m3, xkt_m4, xkt_m11, xkt_m12, xkt_m13, xkt_m14, xkt_m20, xjt_0, xjt_1, xjt_2, xjt_3, xjt_4, xjt_5, xjt_6, xjt_7, xjt_8, xjt_9, xjt_10, xjt_11, xjt_12, xjt_13, xjt_14, xjt_16, xjt_20, xjt_24, xjt_31, xjt_32, xjt_40, xjt_44, xjt_47, xjt_48, xjt_57, xjt_59, xjt_60, xjt_63, xjt_64, xjt_65, xjt_72, xjt_95, xjt_99, xjt_100, xjt_101, xjt_103, xjt_110, xjt_112, xjt_113, xjt_114, xjt_119, xjt_126, xjt_159, xjt_576, xjt_999, xjt_9999, xjt_65536, xjt_999999, xt64, xt_n, not_true_eq_false, not_false_eq_true, Classical.not_not] at c_1_0 c_38
      all_goals omega
    · skip
      refine xw_go xb_38 3 (f1 := (46, [.ref 0, .int (nI 0), .int (nI w)], [.int (nI w), .ref 1])) (h1 := (xS b, I, L, xP b)) rfl ⟨rfl, trivial⟩ ?_
      refine xw_call xb_38 rfl rfl rfl rfl rfl (Or.inr ⟨_, _, rfl, rfl⟩) (c_changeWind (I := I)) ?_
      rintro _ _ ⟨rfl, rfl⟩
      refine xw_at (f' := (49, [.ref 0, .int (nI 0), .int (nI w)], [.int (I 1 7)])) (h' := (xS b, xm_up I 1 7 (nI w), L, xP b)) rfl rfl ?_
      refine xw_go xb_38 1 (f1 := (53, [.ref 0, .int (nI 0), .int (nI w)], [.int (I 1 7)])) (h1 := (xS b, xm_up I 1 7 (nI w), L, xP b)) rfl trivial ?_
      refine xw_ret xb_38 rfl rfl trivial ?_
      refine ⟨xm_some (congrArg Value.int hN5), _, rfl, xPF_u (xPF_r I) (by decide), xPL_N hP (xPN_u (k := 5) (by omega) hP.1 (by omega) rfl rfl rfl) (xm_vu_o (by omega)) (fun a h1 h2 => xm_up_o (by omega))⟩
  refine xw_if (fun c_1_1 => ?_) (fun c_1_1 => ?_)
  · skip
    exfalso
    try simp only [xB_dec, Classical.not_not] at c_1_0 c_1_1
    try simp (disch := omega) only [xt_eq, xt_lt, xt_le, xkt_0, xkt_1, xkt_2, xkt_3, xkt_4, xkt_5, xkt_6, xkt_7, xkt_8, xkt_9, xkt_10, xkt_11, xkt_12, xkt_13, xkt_14, xkt_16, xkt_20, xkt_24, xkt_31, xkt_32, xkt_40, xkt_44, xkt_47, xkt_48, xkt_57, xkt_59, xkt_60, xkt_63, xkt_64, xkt_65, xkt_72, xkt_95, xkt_99, xkt_100, xkt_101, xkt_103, xkt_110, xkt_112, xkt_113, xkt_114, xkt_119, xkt_126, xkt_159, xkt_576, xkt_999, xkt_9999, xkt_65536, xkt_999999, xkt_m1, xkt_m2, xkt_m3, xkt_m4, xkt_m11, xkt_m12, xkt_m13, xkt_m14, xkt_m20, xjt_0, xjt_1, xjt_2, xjt_3, xjt_4, xjt_5, xjt_6, xjt_7, xjt_8, xjt_9, xjt_10, xjt_11, xjt_12, xjt_13, xjt_14, xjt_16, xjt_20, xjt_24, xjt_31, xjt_32, xjt_40, xjt_44, xjt_47, xjt_48, xjt_57, xjt_59, xjt_60, xjt_63, xjt_64, xjt_65, xjt_72, xjt_95, xjt_99, xjt_100, xjt_101, xjt_103, xjt_110, xjt_112, xjt_113, xjt_114, xjt_119, xjt_126, xjt_159, xjt_576, xjt_999, xjt_9999, xjt_65536, xjt_999999, xt64, xt_n, not_true_eq_false, not_false_eq_true, Classical.not_not] at c_1_0 c_1_1
    all_goals omega
  refine xw_if (fun c_1_2 => ?_) (fun c_1_2 => ?_)
  · skip
    exfalso
    try simp only [xB_dec, Classical.not_not] at c_1_0 c_1_1 c_1_2
    try simp (disch := omega) only [xt_eq, xt_lt, xt_le, xkt_0, xkt_1, xkt_2, xkt_3, xkt_4, xkt_5, xkt_6, xkt_7, xkt_8, xkt_9, xkt_10, xkt_11, xkt_12, xkt_13, xkt_14, xkt_16, xkt_20, xkt_24, xkt_31, xkt_32, xkt_40, xkt_44, xkt_47, xkt_48, xkt_57, xkt_59, xkt_60, xkt_63, xkt_64, xkt_65, xkt_72, xkt_95, xkt_99, xkt_100, xkt_101, xkt_103, xkt_110, xkt_112, xkt_113, xkt_114, xkt_119, xkt_126, xkt_159, xkt_576, xkt_999, xkt_9999, xkt_65536, xkt_999999, xkt_m1, xkt_m2, xkt_m3, xkt_m4, xkt_m11, xkt_m12, xkt_m13, xkt_m14, xkt_m20, xjt_0, xjt_1, xjt_2, xjt_3, xjt_4, xjt_5, xjt_6, xjt_7, xjt_8, xjt_9, xjt_10, xjt_11, xjt_12, xjt_13, xjt_14, xjt_16, xjt_20, xjt_24, xjt_31, xjt_32, xjt_40, xjt_44, xjt_47, xjt_48, xjt_57, xjt_59, xjt_60, xjt_63, xjt_64, xjt_65, xjt_72, xjt_95, xjt_99, xjt_100, xjt_101, xjt_103, xjt_110, xjt_112, xjt_113, xjt_114, xjt_119, xjt_126, xjt_159, xjt_576, xjt_999, xjt_9999, xjt_65536, xjt_999999, xt64, xt_n, not_true_eq_false, not_false_eq_true, Classical.not_not] at c_1_0 c_1_1 c_1_2
    all_goals omega
  refine xw_if (fun c_1_3 => ?_) (fun c_1_3 => ?_)
  · skip
    exfalso
    try simp only [xB_dec, Classical.not_not] at c_1_0 c_1_1 c_1_2 c_1_3
    try simp (disch := omega) only [xt_eq, xt_lt, xt_le, xkt_0, xkt_1, xkt_2, xkt_3, xkt_4, xkt_5, xkt_6, xkt_7, xkt_8, xkt_9, xkt_10, xkt_11, xkt_12, xkt_13, xkt_14, xkt_16, xkt_20, xkt_24, xkt_31, xkt_32, xkt_40, xkt_44, xkt_47, xkt_48, xkt_57, xkt_59, xkt_60, xkt_63, xkt_64, xkt_65, xkt_72, xkt_95, xkt_99, xkt_100, xkt_101, xkt_103, xkt_110, xkt_112, xkt_113, xkt_114, xkt_119, xkt_126, xkt_159, xkt_576, xkt_999, xkt_9999, xkt_65536, xkt_999999, xkt_m1, xkt_m2, xkt_m3, xkt_m4, xkt_m11, xkt_m12, xkt_m13, xkt_m14, xkt_m20, xjt_0, xjt_1, xjt_2, xjt_3, xjt_4, xjt_5, xjt_6, xjt_7, xjt_8, xjt_9, xjt_10, xjt_11, xjt_12, xjt_13, xjt_14, xjt_16, xjt_20, xjt_24, xjt_31, xjt_32, xjt_40, xjt_44, xjt_47, xjt_48, xjt_57, xjt_59, xjt_60, xjt_63, xjt_64, xjt_65, xjt_72, xjt_95, xjt_99, xjt_100, xjt_101, xjt_103, xjt_110, xjt_112, xjt_113, xjt_114, xjt_119, xjt_126, xjt_159, xjt_576, xjt_999, xjt_9999, xjt_65536, xjt_999999, xt64, xt_n, not_true_eq_false, not_false_eq_true, Classical.not_not] at c_1_0 c_1_1 c_1_2 c_1_3
    all_goals omega
  refine xw_at (f' := (124, [.ref 0, .int (nI 0), .int (nI w)], [])) (h' := (xS b, I, L, xP b)) rfl rfl ?_
  exfalso
  try simp only [xB_dec, Classical.not_not] at c_1_0 c_1_1 c_1_2 c_1_3
  try simp (disch := omega) only [xt_eq, xt_lt, xt_le, xkt_0, xkt_1, xkt_2, xkt_3, xkt_4, xkt_5, xkt_6, xkt_7, xkt_8, xkt_9, xkt_10, xkt_11, xkt_12, xkt_13, xkt_14, xkt_16, xkt_20, xkt_24, xkt_31, xkt_32, xkt_40, xkt_44, xkt_47, xkt_48, xkt_57, xkt_59, xkt_60, xkt_63, xkt_64, xkt_65, xkt_72, xkt_95, xkt_99, xkt_100, xkt_101, xkt_103, xkt_110, xkt_112, xkt_113, xkt_114, xkt_119, xkt_126, xkt_159, xkt_576, xkt_999, xkt_9999, xkt_65536, xkt_999999, xkt_m1, xkt_m2, xkt_m3, xkt_m4, xkt_m11, xkt_m12, xkt_m13, xkt_m14, xkt_m20, xjt_0, xjt_1, xjt_2, xjt_3, xjt_4, xjt_5, xjt_6, xjt_7, xjt_8, xjt_9, xjt_10, xjt_11, xjt_12, xjt_13, xjt_14, xjt_16, xjt_20, xjt_24, xjt_31, xjt_32, xjt_40, xjt_44, xjt_47, xjt_48, xjt_57, xjt_59, xjt_60, xjt_63, xjt_64, xjt_65, xjt_72, xjt_95, xjt_99, xjt_100, xjt_101, xjt_103, xjt_110, xjt_112, xjt_113, xjt_114, xjt_119, xjt_126, xjt_159, xjt_576, xjt_999, xjt_9999, xjt_65536, xjt_999999, xt64, xt_n, not_true_eq_false, not_false_eq_true, Classical.not_not] at c_1_0 c_1_1 c_1_2 c_1_3
  all_goals omega

theorem c_rule11 {d : Nat} {b : Bool} {I : Nat → Nat → Int32} {L : Nat → Nat → Int64} {N : Nat → Nat} {u : Nat} {U : Nat → Nat → Nat} (hP : xPL N u U 1 I) (hK : xUK N u U) {w : Nat} (hw : 1 ≤ w ∧ w ≤ 5) {x : Int32} (e_x : x = nI 1) {y : Int32} (e_y : y = nI w) : xm_Z (d + 2) 38 [.ref 0, .int x, .int y] (xS b, I, L, xP b) (fun rz hz => xQC b I L (nI (N 6)) (va_up N 6 w) u U rz hz) := by
  subst e_x
  subst e_y
  have hO := hK.1
  have hb := hK.1.1
  have c64 : N 0 * N 1 ≤ 64 := xce_le hO
  have c4 : 4 ≤ N 0 * N 1 := xce_ge hO
  obtain ⟨⟨hN0, hN1, hN2, hN3, hN4, hN5, hN6, hN7, hN8, hN9, hN10⟩, hNs, hNw, hNp⟩ := hP.1
  refine xw_S xb_38 (l := [.ref 0, .int (nI 1), .int (nI w)]) (Nat.le_of_ble_eq_true rfl) rfl ?_
  refine xw_go xb_38 2 (f1 := (xm_sw [(0, 32), (1, 54), (2, 76), (3, 100)] 124 (nI 1), [.ref 0, .int (nI 1), .int (nI w)], [])) (h1 := (xS b, I, L, xP b)) rfl trivial ?_
  refine xw_if (fun c_1_0 => ?_) (fun c_1_0 => ?_)
  · skip
    exfalso
    try simp only [xB_dec, Classical.not_not] at c_1_0
    try simp (disch := omega) only [xt_eq, xt_lt, xt_le, xkt_0, xkt_1, xkt_2, xkt_3, xkt_4, xkt_5, xkt_6, xkt_7, xkt_8, xkt_9, xkt_10, xkt_11, xkt_12, xkt_13, xkt_14, xkt_16, xkt_20, xkt_24, xkt_31, xkt_32, xkt_40, xkt_44, xkt_47, xkt_48, xkt_57, xkt_59, xkt_60, xkt_63, xkt_64, xkt_65, xkt_72, xkt_95, xkt_99, xkt_100, xkt_101, xkt_103, xkt_110, xkt_112, xkt_113, xkt_114, xkt_119, xkt_126, xkt_159, xkt_576, xkt_999, xkt_9999, xkt_65536, xkt_999999, xkt_m1, xkt_m2, xkt_m3, xkt_m4, xkt_m11, xkt_m12, xkt_m13, xkt_m14, xkt_m20, xjt_0, xjt_1, xjt_2, xjt_3, xjt_4, xjt_5, xjt_6, xjt_7, xjt_8, xjt_9, xjt_10, xjt_11, xjt_12, xjt_13, xjt_14, xjt_16, xjt_20, xjt_24, xjt_31, xjt_32, xjt_40, xjt_44, xjt_47, xjt_48, xjt_57, xjt_59, xjt_60, xjt_63, xjt_64, xjt_65, xjt_72, xjt_95, xjt_99, xjt_100, xjt_101, xjt_103, xjt_110, xjt_112, xjt_113, xjt_114, xjt_119, xjt_126, xjt_159, xjt_576, xjt_999, xjt_9999, xjt_65536, xjt_999999, xt64, xt_n, not_true_eq_false, not_false_eq_true, Classical.not_not] at c_1_0
    all_goals omega
  refine xw_if (fun c_1_1 => ?_) (fun c_1_1 => ?_)
  · skip
    refine xw_go xb_38 3 (f1 := (57, [.ref 0, .int (nI 1), .int (nI w)], [.int 5, .int 1, .int (nI w)])) (h1 := (xS b, I, L, xP b)) rfl trivial ?_
    refine xw_call xb_38 rfl rfl rfl rfl rfl (Or.inl rfl) c_within ?_
    rintro _ _ ⟨rfl, rfl⟩
    refine xw_at (f' := (60, [.ref 0, .int (nI 1), .int (nI w)], [.int (nI (xB (decide ((1 : Int32).toInt ≤ (nI w).toInt ∧ (nI w).toInt ≤ (5 : Int32).toInt))))])) (h' := (xS b, I, L, xP b)) rfl rfl ?_
    refine xw_go xb_38 1 (f1 := (if (nI (xB (decide ((1 : Int32).toInt ≤ (nI w).toInt ∧ (nI w).toInt ≤ (5 : Int32).toInt)))) = 0 then 74 else 63, [.ref 0, .int (nI 1), .int (nI w)], [])) (h1 := (xS b, I, L, xP b)) rfl trivial ?_
    refine xw_if (fun c_60 => ?_) (fun c_60 => ?_)
    · skip
      exfalso
      try simp only [xB_dec, Classical.not_not] at c_1_0 c_1_1 c_60
      try simp (disch := omega) only [xt_eq, xt_lt, xt_le, xkt_0, xkt_1, xkt_2, xkt_3, xkt_4, xkt_5, xkt_6, xkt_7, xkt_8, xkt_9, xkt_10, xkt_11, xkt_12, xkt_13, xkt_14, xkt_16, xkt_20, xkt_24, xkt_31, xkt_32, xkt_40, xkt_44, xkt_47, xkt_48, xkt_57, xkt_59, xkt_60, xkt_63, xkt_64, xkt_65, xkt_72, xkt_95, xkt_99, xkt_100, xkt_101, xkt_103, xkt_110, xkt_112, xkt_113, xkt_114, xkt_119, xkt_126, xkt_159, xkt_576, xkt_999, xkt_9999, xkt_65536, xkt_999999, xkt_m1, xkt_m2, xkt_m3, xkt_m4, xkt_m11, xkt_m12, xkt_m13, xkt_m14, xkt_m20, xjt_0, xjt_1, xjt_2, xjt_3, xjt_4, xjt_5, xjt_6, xjt_7, xjt_8, xjt_9, xjt_10, xjt_11, xjt_12, xjt_13, xjt_14, xjt_16, xjt_20, xjt_24, xjt_31, xjt_32, xjt_40, xjt_44, xjt_47, xjt_48, xjt_57, xjt_59, xjt_60, xjt_63, xjt_64, xjt_65, xjt_72, xjt_95, xjt_99, xjt_100, xjt_101, xjt_103, xjt_110, xjt_112, xjt_113, xjt_114, xjt_119, xjt_126, xjt_159, xjt_576, xjt_999, xjt_9999, xjt_65536, xjt_999999, xt64, xt_n, not_true_eq_false, not_false_eq_true, Classical.not_not] at c_1_0 c_1_1 c_60
      all_goals omega
    · skip
      refine xw_go xb_38 3 (f1 := (68, [.ref 0, .int (nI 1), .int (nI w)], [.int (nI w), .ref 1])) (h1 := (xS b, I, L, xP b)) rfl ⟨rfl, trivial⟩ ?_
      refine xw_call xb_38 rfl rfl rfl rfl rfl (Or.inr ⟨_, _, rfl, rfl⟩) (c_changeTap (I := I)) ?_
      rintro _ _ ⟨rfl, rfl⟩
      refine xw_at (f' := (71, [.ref 0, .int (nI 1), .int (nI w)], [.int (I 1 8)])) (h' := (xS b, xm_up I 1 8 (nI w), L, xP b)) rfl rfl ?_
      refine xw_go xb_38 1 (f1 := (75, [.ref 0, .int (nI 1), .int (nI w)], [.int (I 1 8)])) (h1 := (xS b, xm_up I 1 8 (nI w), L, xP b)) rfl trivial ?_
      refine xw_ret xb_38 rfl rfl trivial ?_
      refine ⟨xm_some (congrArg Value.int hN6), _, rfl, xPF_u (xPF_r I) (by decide), xPL_N hP (xPN_u (k := 6) (by omega) hP.1 (by omega) rfl rfl rfl) (xm_vu_o (by omega)) (fun a h1 h2 => xm_up_o (by omega))⟩
  refine xw_if (fun c_1_2 => ?_) (fun c_1_2 => ?_)
  · skip
    exfalso
    try simp only [xB_dec, Classical.not_not] at c_1_0 c_1_1 c_1_2
    try simp (disch := omega) only [xt_eq, xt_lt, xt_le, xkt_0, xkt_1, xkt_2, xkt_3, xkt_4, xkt_5, xkt_6, xkt_7, xkt_8, xkt_9, xkt_10, xkt_11, xkt_12, xkt_13, xkt_14, xkt_16, xkt_20, xkt_24, xkt_31, xkt_32, xkt_40, xkt_44, xkt_47, xkt_48, xkt_57, xkt_59, xkt_60, xkt_63, xkt_64, xkt_65, xkt_72, xkt_95, xkt_99, xkt_100, xkt_101, xkt_103, xkt_110, xkt_112, xkt_113, xkt_114, xkt_119, xkt_126, xkt_159, xkt_576, xkt_999, xkt_9999, xkt_65536, xkt_999999, xkt_m1, xkt_m2, xkt_m3, xkt_m4, xkt_m11, xkt_m12, xkt_m13, xkt_m14, xkt_m20, xjt_0, xjt_1, xjt_2, xjt_3, xjt_4, xjt_5, xjt_6, xjt_7, xjt_8, xjt_9, xjt_10, xjt_11, xjt_12, xjt_13, xjt_14, xjt_16, xjt_20, xjt_24, xjt_31, xjt_32, xjt_40, xjt_44, xjt_47, xjt_48, xjt_57, xjt_59, xjt_60, xjt_63, xjt_64, xjt_65, xjt_72, xjt_95, xjt_99, xjt_100, xjt_101, xjt_103, xjt_110, xjt_112, xjt_113, xjt_114, xjt_119, xjt_126, xjt_159, xjt_576, xjt_999, xjt_9999, xjt_65536, xjt_999999, xt64, xt_n, not_true_eq_false, not_false_eq_true, Classical.not_not] at c_1_0 c_1_1 c_1_2
    all_goals omega
  refine xw_if (fun c_1_3 => ?_) (fun c_1_3 => ?_)
  · skip
    exfalso
    try simp only [xB_dec, Classical.not_not] at c_1_0 c_1_1 c_1_2 c_1_3
    try simp (disch := omega) only [xt_eq, xt_lt, xt_le, xkt_0, xkt_1, xkt_2, xkt_3, xkt_4, xkt_5, xkt_6, xkt_7, xkt_8, xkt_9, xkt_10, xkt_11, xkt_12, xkt_13, xkt_14, xkt_16, xkt_20, xkt_24, xkt_31, xkt_32, xkt_40, xkt_44, xkt_47, xkt_48, xkt_57, xkt_59, xkt_60, xkt_63, xkt_64, xkt_65, xkt_72, xkt_95, xkt_99, xkt_100, xkt_101, xkt_103, xkt_110, xkt_112, xkt_113, xkt_114, xkt_119, xkt_126, xkt_159, xkt_576, xkt_999, xkt_9999, xkt_65536, xkt_999999, xkt_m1, xkt_m2, xkt_m3, xkt_m4, xkt_m11, xkt_m12, xkt_m13, xkt_m14, xkt_m20, xjt_0, xjt_1, xjt_2, xjt_3, xjt_4, xjt_5, xjt_6, xjt_7, xjt_8, xjt_9, xjt_10, xjt_11, xjt_12, xjt_13, xjt_14, xjt_16, xjt_20, xjt_24, xjt_31, xjt_32, xjt_40, xjt_44, xjt_47, xjt_48, xjt_57, xjt_59, xjt_60, xjt_63, xjt_64, xjt_65, xjt_72, xjt_95, xjt_99, xjt_100, xjt_101, xjt_103, xjt_110, xjt_112, xjt_113, xjt_114, xjt_119, xjt_126, xjt_159, xjt_576, xjt_999, xjt_9999, xjt_65536, xjt_999999, xt64, xt_n, not_true_eq_false, not_false_eq_true, Classical.not_not] at c_1_0 c_1_1 c_1_2 c_1_3
    all_goals omega
  refine xw_at (f' := (124, [.ref 0, .int (nI 1), .int (nI w)], [])) (h' := (xS b, I, L, xP b)) rfl rfl ?_
  exfalso
  try simp only [xB_dec, Classical.not_not] at c_1_0 c_1_1 c_1_2 c_1_3
  try simp (disch := omega) only [xt_eq, xt_lt, xt_le, xkt_0, xkt_1, xkt_2, xkt_3, xkt_4, xkt_5, xkt_6, xkt_7, xkt_8, xkt_9, xkt_10, xkt_11, xkt_12, xkt_13, xkt_14, xkt_16, xkt_20, xkt_24, xkt_31, xkt_32, xkt_40, xkt_44, xkt_47, xkt_48, xkt_57, xkt_59, xkt_60, xkt_63, xkt_64, xkt_65, xkt_72, xkt_95, xkt_99, xkt_100, xkt_101, xkt_103, xkt_110, xkt_112, xkt_113, xkt_114, xkt_119, xkt_126, xkt_159, xkt_576, xkt_999, xkt_9999, xkt_65536, xkt_999999, xkt_m1, xkt_m2, xkt_m3, xkt_m4, xkt_m11, xkt_m12, xkt_m13, xkt_m14, xkt_m20, xjt_0, xjt_1, xjt_2, xjt_3, xjt_4, xjt_5, xjt_6, xjt_7, xjt_8, xjt_9, xjt_10, xjt_11, xjt_12, xjt_13, xjt_14, xjt_16, xjt_20, xjt_24, xjt_31, xjt_32, xjt_40, xjt_44, xjt_47, xjt_48, xjt_57, xjt_59, xjt_60, xjt_63, xjt_64, xjt_65, xjt_72, xjt_95, xjt_99, xjt_100, xjt_101, xjt_103, xjt_110, xjt_112, xjt_113, xjt_114, xjt_119, xjt_126, xjt_159, xjt_576, xjt_999, xjt_9999, xjt_65536, xjt_999999, xt64, xt_n, not_true_eq_false, not_false_eq_true, Classical.not_not] at c_1_0 c_1_1 c_1_2 c_1_3
  all_goals omega

theorem c_rule12 {d : Nat} {b : Bool} {I : Nat → Nat → Int32} {L : Nat → Nat → Int64} {N : Nat → Nat} {u : Nat} {U : Nat → Nat → Nat} (hP : xPL N u U 1 I) (hK : xUK N u U) {w : Nat} (hw : 0 ≤ w ∧ w ≤ 999) {x : Int32} (e_x : x = nI 2) {y : Int32} (e_y : y = nI w) : xm_Z (d + 2) 38 [.ref 0, .int x, .int y] (xS b, I, L, xP b) (fun rz hz => xQC b I L (nI (N 7)) (va_up N 7 w) u U rz hz) := by
  subst e_x
  subst e_y
  have hO := hK.1
  have hb := hK.1.1
  have c64 : N 0 * N 1 ≤ 64 := xce_le hO
  have c4 : 4 ≤ N 0 * N 1 := xce_ge hO
  obtain ⟨⟨hN0, hN1, hN2, hN3, hN4, hN5, hN6, hN7, hN8, hN9, hN10⟩, hNs, hNw, hNp⟩ := hP.1
  refine xw_S xb_38 (l := [.ref 0, .int (nI 2), .int (nI w)]) (Nat.le_of_ble_eq_true rfl) rfl ?_
  refine xw_go xb_38 2 (f1 := (xm_sw [(0, 32), (1, 54), (2, 76), (3, 100)] 124 (nI 2), [.ref 0, .int (nI 2), .int (nI w)], [])) (h1 := (xS b, I, L, xP b)) rfl trivial ?_
  refine xw_if (fun c_1_0 => ?_) (fun c_1_0 => ?_)
  · skip
    exfalso
    try simp only [xB_dec, Classical.not_not] at c_1_0
    try simp (disch := omega) only [xt_eq, xt_lt, xt_le, xkt_0, xkt_1, xkt_2, xkt_3, xkt_4, xkt_5, xkt_6, xkt_7, xkt_8, xkt_9, xkt_10, xkt_11, xkt_12, xkt_13, xkt_14, xkt_16, xkt_20, xkt_24, xkt_31, xkt_32, xkt_40, xkt_44, xkt_47, xkt_48, xkt_57, xkt_59, xkt_60, xkt_63, xkt_64, xkt_65, xkt_72, xkt_95, xkt_99, xkt_100, xkt_101, xkt_103, xkt_110, xkt_112, xkt_113, xkt_114, xkt_119, xkt_126, xkt_159, xkt_576, xkt_999, xkt_9999, xkt_65536, xkt_999999, xkt_m1, xkt_m2, xkt_m3, xkt_m4, xkt_m11, xkt_m12, xkt_m13, xkt_m14, xkt_m20, xjt_0, xjt_1, xjt_2, xjt_3, xjt_4, xjt_5, xjt_6, xjt_7, xjt_8, xjt_9, xjt_10, xjt_11, xjt_12, xjt_13, xjt_14, xjt_16, xjt_20, xjt_24, xjt_31, xjt_32, xjt_40, xjt_44, xjt_47, xjt_48, xjt_57, xjt_59, xjt_60, xjt_63, xjt_64, xjt_65, xjt_72, xjt_95, xjt_99, xjt_100, xjt_101, xjt_103, xjt_110, xjt_112, xjt_113, xjt_114, xjt_119, xjt_126, xjt_159, xjt_576, xjt_999, xjt_9999, xjt_65536, xjt_999999, xt64, xt_n, not_true_eq_false, not_false_eq_true, Classical.not_not] at c_1_0
    all_goals omega
  refine xw_if (fun c_1_1 => ?_) (fun c_1_1 => ?_)
  · skip
    exfalso
    try simp only [xB_dec, Classical.not_not] at c_1_0 c_1_1
    try simp (disch := omega) only [xt_eq, xt_lt, xt_le, xkt_0, xkt_1, xkt_2, xkt_3, xkt_4, xkt_5, xkt_6, xkt_7, xkt_8, xkt_9, xkt_10, xkt_11, xkt_12, xkt_13, xkt_14, xkt_16, xkt_20, xkt_24, xkt_31, xkt_32, xkt_40, xkt_44, xkt_47, xkt_48, xkt_57, xkt_59, xkt_60, xkt_63, xkt_64, xkt_65, xkt_72, xkt_95, xkt_99, xkt_100, xkt_101, xkt_103, xkt_110, xkt_112, xkt_113, xkt_114, xkt_119, xkt_126, xkt_159, xkt_576, xkt_999, xkt_9999, xkt_65536, xkt_999999, xkt_m1, xkt_m2, xkt_m3, xkt_m4, xkt_m11, xkt_m12, xkt_m13, xkt_m14, xkt_m20, xjt_0, xjt_1, xjt_2, xjt_3, xjt_4, xjt_5, xjt_6, xjt_7, xjt_8, xjt_9, xjt_10, xjt_11, xjt_12, xjt_13, xjt_14, xjt_16, xjt_20, xjt_24, xjt_31, xjt_32, xjt_40, xjt_44, xjt_47, xjt_48, xjt_57, xjt_59, xjt_60, xjt_63, xjt_64, xjt_65, xjt_72, xjt_95, xjt_99, xjt_100, xjt_101, xjt_103, xjt_110, xjt_112, xjt_113, xjt_114, xjt_119, xjt_126, xjt_159, xjt_576, xjt_999, xjt_9999, xjt_65536, xjt_999999, xt64, xt_n, not_true_eq_false, not_false_eq_true, Classical.not_not] at c_1_0 c_1_1
    all_goals omega
  refine xw_if (fun c_1_2 => ?_) (fun c_1_2 => ?_)
  · skip
    refine xw_go xb_38 3 (f1 := (81, [.ref 0, .int (nI 2), .int (nI w)], [.int 999, .int 0, .int (nI w)])) (h1 := (xS b, I, L, xP b)) rfl trivial ?_
    refine xw_call xb_38 rfl rfl rfl rfl rfl (Or.inl rfl) c_within ?_
    rintro _ _ ⟨rfl, rfl⟩
    refine xw_at (f' := (84, [.ref 0, .int (nI 2), .int (nI w)], [.int (nI (xB (decide ((0 : Int32).toInt ≤ (nI w).toInt ∧ (nI w).toInt ≤ (999 : Int32).toInt))))])) (h' := (xS b, I, L, xP b)) rfl rfl ?_
    refine xw_go xb_38 1 (f1 := (if (nI (xB (decide ((0 : Int32).toInt ≤ (nI w).toInt ∧ (nI w).toInt ≤ (999 : Int32).toInt)))) = 0 then 98 else 87, [.ref 0, .int (nI 2), .int (nI w)], [])) (h1 := (xS b, I, L, xP b)) rfl trivial ?_
    refine xw_if (fun c_84 => ?_) (fun c_84 => ?_)
    · skip
      exfalso
      try simp only [xB_dec, Classical.not_not] at c_1_0 c_1_1 c_1_2 c_84
      try simp (disch := omega) only [xt_eq, xt_lt, xt_le, xkt_0, xkt_1, xkt_2, xkt_3, xkt_4, xkt_5, xkt_6, xkt_7, xkt_8, xkt_9, xkt_10, xkt_11, xkt_12, xkt_13, xkt_14, xkt_16, xkt_20, xkt_24, xkt_31, xkt_32, xkt_40, xkt_44, xkt_47, xkt_48, xkt_57, xkt_59, xkt_60, xkt_63, xkt_64, xkt_65, xkt_72, xkt_95, xkt_99, xkt_100, xkt_101, xkt_103, xkt_110, xkt_112, xkt_113, xkt_114, xkt_119, xkt_126, xkt_159, xkt_576, xkt_999, xkt_9999, xkt_65536, xkt_999999, xkt_m1, xkt_m2, xkt_m3, xkt_m4, xkt_m11, xkt_m12, xkt_m13, xkt_m14, xkt_m20, xjt_0, xjt_1, xjt_2, xjt_3, xjt_4, xjt_5, xjt_6, xjt_7, xjt_8, xjt_9, xjt_10, xjt_11, xjt_12, xjt_13, xjt_14, xjt_16, xjt_20, xjt_24, xjt_31, xjt_32, xjt_40, xjt_44, xjt_47, xjt_48, xjt_57, xjt_59, xjt_60, xjt_63, xjt_64, xjt_65, xjt_72, xjt_95, xjt_99, xjt_100, xjt_101, xjt_103, xjt_110, xjt_112, xjt_113, xjt_114, xjt_119, xjt_126, xjt_159, xjt_576, xjt_999, xjt_9999, xjt_65536, xjt_999999, xt64, xt_n, not_true_eq_false, not_false_eq_true, Classical.not_not] at c_1_0 c_1_1 c_1_2 c_84
      all_goals omega
    · skip
      refine xw_go xb_38 3 (f1 := (92, [.ref 0, .int (nI 2), .int (nI w)], [.int (nI w), .ref 1])) (h1 := (xS b, I, L, xP b)) rfl ⟨rfl, trivial⟩ ?_
      refine xw_call xb_38 rfl rfl rfl rfl rfl (Or.inr ⟨_, _, rfl, rfl⟩) (c_changeLeast (I := I)) ?_
      rintro _ _ ⟨rfl, rfl⟩
      refine xw_at (f' := (95, [.ref 0, .int (nI 2), .int (nI w)], [.int (I 1 9)])) (h' := (xS b, xm_up I 1 9 (nI w), L, xP b)) rfl rfl ?_
      refine xw_go xb_38 1 (f1 := (99, [.ref 0, .int (nI 2), .int (nI w)], [.int (I 1 9)])) (h1 := (xS b, xm_up I 1 9 (nI w), L, xP b)) rfl trivial ?_
      refine xw_ret xb_38 rfl rfl trivial ?_
      refine ⟨xm_some (congrArg Value.int hN7), _, rfl, xPF_u (xPF_r I) (by decide), xPL_N hP (xPN_u (k := 7) (by omega) hP.1 (by omega) rfl rfl rfl) (xm_vu_o (by omega)) (fun a h1 h2 => xm_up_o (by omega))⟩
  refine xw_if (fun c_1_3 => ?_) (fun c_1_3 => ?_)
  · skip
    exfalso
    try simp only [xB_dec, Classical.not_not] at c_1_0 c_1_1 c_1_2 c_1_3
    try simp (disch := omega) only [xt_eq, xt_lt, xt_le, xkt_0, xkt_1, xkt_2, xkt_3, xkt_4, xkt_5, xkt_6, xkt_7, xkt_8, xkt_9, xkt_10, xkt_11, xkt_12, xkt_13, xkt_14, xkt_16, xkt_20, xkt_24, xkt_31, xkt_32, xkt_40, xkt_44, xkt_47, xkt_48, xkt_57, xkt_59, xkt_60, xkt_63, xkt_64, xkt_65, xkt_72, xkt_95, xkt_99, xkt_100, xkt_101, xkt_103, xkt_110, xkt_112, xkt_113, xkt_114, xkt_119, xkt_126, xkt_159, xkt_576, xkt_999, xkt_9999, xkt_65536, xkt_999999, xkt_m1, xkt_m2, xkt_m3, xkt_m4, xkt_m11, xkt_m12, xkt_m13, xkt_m14, xkt_m20, xjt_0, xjt_1, xjt_2, xjt_3, xjt_4, xjt_5, xjt_6, xjt_7, xjt_8, xjt_9, xjt_10, xjt_11, xjt_12, xjt_13, xjt_14, xjt_16, xjt_20, xjt_24, xjt_31, xjt_32, xjt_40, xjt_44, xjt_47, xjt_48, xjt_57, xjt_59, xjt_60, xjt_63, xjt_64, xjt_65, xjt_72, xjt_95, xjt_99, xjt_100, xjt_101, xjt_103, xjt_110, xjt_112, xjt_113, xjt_114, xjt_119, xjt_126, xjt_159, xjt_576, xjt_999, xjt_9999, xjt_65536, xjt_999999, xt64, xt_n, not_true_eq_false, not_false_eq_true, Classical.not_not] at c_1_0 c_1_1 c_1_2 c_1_3
    all_goals omega
  refine xw_at (f' := (124, [.ref 0, .int (nI 2), .int (nI w)], [])) (h' := (xS b, I, L, xP b)) rfl rfl ?_
  exfalso
  try simp only [xB_dec, Classical.not_not] at c_1_0 c_1_1 c_1_2 c_1_3
  try simp (disch := omega) only [xt_eq, xt_lt, xt_le, xkt_0, xkt_1, xkt_2, xkt_3, xkt_4, xkt_5, xkt_6, xkt_7, xkt_8, xkt_9, xkt_10, xkt_11, xkt_12, xkt_13, xkt_14, xkt_16, xkt_20, xkt_24, xkt_31, xkt_32, xkt_40, xkt_44, xkt_47, xkt_48, xkt_57, xkt_59, xkt_60, xkt_63, xkt_64, xkt_65, xkt_72, xkt_95, xkt_99, xkt_100, xkt_101, xkt_103, xkt_110, xkt_112, xkt_113, xkt_114, xkt_119, xkt_126, xkt_159, xkt_576, xkt_999, xkt_9999, xkt_65536, xkt_999999, xkt_m1, xkt_m2, xkt_m3, xkt_m4, xkt_m11, xkt_m12, xkt_m13, xkt_m14, xkt_m20, xjt_0, xjt_1, xjt_2, xjt_3, xjt_4, xjt_5, xjt_6, xjt_7, xjt_8, xjt_9, xjt_10, xjt_11, xjt_12, xjt_13, xjt_14, xjt_16, xjt_20, xjt_24, xjt_31, xjt_32, xjt_40, xjt_44, xjt_47, xjt_48, xjt_57, xjt_59, xjt_60, xjt_63, xjt_64, xjt_65, xjt_72, xjt_95, xjt_99, xjt_100, xjt_101, xjt_103, xjt_110, xjt_112, xjt_113, xjt_114, xjt_119, xjt_126, xjt_159, xjt_576, xjt_999, xjt_9999, xjt_65536, xjt_999999, xt64, xt_n, not_true_eq_false, not_false_eq_true, Classical.not_not] at c_1_0 c_1_1 c_1_2 c_1_3
  all_goals omega

theorem c_rule13 {d : Nat} {b : Bool} {I : Nat → Nat → Int32} {L : Nat → Nat → Int64} {N : Nat → Nat} {u : Nat} {U : Nat → Nat → Nat} (hP : xPL N u U 1 I) (hK : xUK N u U) {w : Nat} (hw : 0 ≤ w ∧ w ≤ 999) {x : Int32} (e_x : x = nI 3) {y : Int32} (e_y : y = nI w) : xm_Z (d + 2) 38 [.ref 0, .int x, .int y] (xS b, I, L, xP b) (fun rz hz => xQC b I L (nI (N 8)) (va_up N 8 w) u U rz hz) := by
  subst e_x
  subst e_y
  have hO := hK.1
  have hb := hK.1.1
  have c64 : N 0 * N 1 ≤ 64 := xce_le hO
  have c4 : 4 ≤ N 0 * N 1 := xce_ge hO
  obtain ⟨⟨hN0, hN1, hN2, hN3, hN4, hN5, hN6, hN7, hN8, hN9, hN10⟩, hNs, hNw, hNp⟩ := hP.1
  refine xw_S xb_38 (l := [.ref 0, .int (nI 3), .int (nI w)]) (Nat.le_of_ble_eq_true rfl) rfl ?_
  refine xw_go xb_38 2 (f1 := (xm_sw [(0, 32), (1, 54), (2, 76), (3, 100)] 124 (nI 3), [.ref 0, .int (nI 3), .int (nI w)], [])) (h1 := (xS b, I, L, xP b)) rfl trivial ?_
  refine xw_if (fun c_1_0 => ?_) (fun c_1_0 => ?_)
  · skip
    exfalso
    try simp only [xB_dec, Classical.not_not] at c_1_0
    try simp (disch := omega) only [xt_eq, xt_lt, xt_le, xkt_0, xkt_1, xkt_2, xkt_3, xkt_4, xkt_5, xkt_6, xkt_7, xkt_8, xkt_9, xkt_10, xkt_11, xkt_12, xkt_13, xkt_14, xkt_16, xkt_20, xkt_24, xkt_31, xkt_32, xkt_40, xkt_44, xkt_47, xkt_48, xkt_57, xkt_59, xkt_60, xkt_63, xkt_64, xkt_65, xkt_72, xkt_95, xkt_99, xkt_100, xkt_101, xkt_103, xkt_110, xkt_112, xkt_113, xkt_114, xkt_119, xkt_126, xkt_159, xkt_576, xkt_999, xkt_9999, xkt_65536, xkt_999999, xkt_m1, xkt_m2, xkt_m3, xkt_m4, xkt_m11, xkt_m12, xkt_m13, xkt_m14, xkt_m20, xjt_0, xjt_1, xjt_2, xjt_3, xjt_4, xjt_5, xjt_6, xjt_7, xjt_8, xjt_9, xjt_10, xjt_11, xjt_12, xjt_13, xjt_14, xjt_16, xjt_20, xjt_24, xjt_31, xjt_32, xjt_40, xjt_44, xjt_47, xjt_48, xjt_57, xjt_59, xjt_60, xjt_63, xjt_64, xjt_65, xjt_72, xjt_95, xjt_99, xjt_100, xjt_101, xjt_103, xjt_110, xjt_112, xjt_113, xjt_114, xjt_119, xjt_126, xjt_159, xjt_576, xjt_999, xjt_9999, xjt_65536, xjt_999999, xt64, xt_n, not_true_eq_false, not_false_eq_true, Classical.not_not] at c_1_0
    all_goals omega
  refine xw_if (fun c_1_1 => ?_) (fun c_1_1 => ?_)
  · skip
    exfalso
    try simp only [xB_dec, Classical.not_not] at c_1_0 c_1_1
    try simp (disch := omega) only [xt_eq, xt_lt, xt_le, xkt_0, xkt_1, xkt_2, xkt_3, xkt_4, xkt_5, xkt_6, xkt_7, xkt_8, xkt_9, xkt_10, xkt_11, xkt_12, xkt_13, xkt_14, xkt_16, xkt_20, xkt_24, xkt_31, xkt_32, xkt_40, xkt_44, xkt_47, xkt_48, xkt_57, xkt_59, xkt_60, xkt_63, xkt_64, xkt_65, xkt_72, xkt_95, xkt_99, xkt_100, xkt_101, xkt_103, xkt_110, xkt_112, xkt_113, xkt_114, xkt_119, xkt_126, xkt_159, xkt_576, xkt_999, xkt_9999, xkt_65536, xkt_999999, xkt_m1, xkt_m2, xkt_m3, xkt_m4, xkt_m11, xkt_m12, xkt_m13, xkt_m14, xkt_m20, xjt_0, xjt_1, xjt_2, xjt_3, xjt_4, xjt_5, xjt_6, xjt_7, xjt_8, xjt_9, xjt_10, xjt_11, xjt_12, xjt_13, xjt_14, xjt_16, xjt_20, xjt_24, xjt_31, xjt_32, xjt_40, xjt_44, xjt_47, xjt_48, xjt_57, xjt_59, xjt_60, xjt_63, xjt_64, xjt_65, xjt_72, xjt_95, xjt_99, xjt_100, xjt_101, xjt_103, xjt_110, xjt_112, xjt_113, xjt_114, xjt_119, xjt_126, xjt_159, xjt_576, xjt_999, xjt_9999, xjt_65536, xjt_999999, xt64, xt_n, not_true_eq_false, not_false_eq_true, Classical.not_not] at c_1_0 c_1_1
    all_goals omega
  refine xw_if (fun c_1_2 => ?_) (fun c_1_2 => ?_)
  · skip
    exfalso
    try simp only [xB_dec, Classical.not_not] at c_1_0 c_1_1 c_1_2
    try simp (disch := omega) only [xt_eq, xt_lt, xt_le, xkt_0, xkt_1, xkt_2, xkt_3, xkt_4, xkt_5, xkt_6, xkt_7, xkt_8, xkt_9, xkt_10, xkt_11, xkt_12, xkt_13, xkt_14, xkt_16, xkt_20, xkt_24, xkt_31, xkt_32, xkt_40, xkt_44, xkt_47, xkt_48, xkt_57, xkt_59, xkt_60, xkt_63, xkt_64, xkt_65, xkt_72, xkt_95, xkt_99, xkt_100, xkt_101, xkt_103, xkt_110, xkt_112, xkt_113, xkt_114, xkt_119, xkt_126, xkt_159, xkt_576, xkt_999, xkt_9999, xkt_65536, xkt_999999, xkt_m1, xkt_m2, xkt_m3, xkt_m4, xkt_m11, xkt_m12, xkt_m13, xkt_m14, xkt_m20, xjt_0, xjt_1, xjt_2, xjt_3, xjt_4, xjt_5, xjt_6, xjt_7, xjt_8, xjt_9, xjt_10, xjt_11, xjt_12, xjt_13, xjt_14, xjt_16, xjt_20, xjt_24, xjt_31, xjt_32, xjt_40, xjt_44, xjt_47, xjt_48, xjt_57, xjt_59, xjt_60, xjt_63, xjt_64, xjt_65, xjt_72, xjt_95, xjt_99, xjt_100, xjt_101, xjt_103, xjt_110, xjt_112, xjt_113, xjt_114, xjt_119, xjt_126, xjt_159, xjt_576, xjt_999, xjt_9999, xjt_65536, xjt_999999, xt64, xt_n, not_true_eq_false, not_false_eq_true, Classical.not_not] at c_1_0 c_1_1 c_1_2
    all_goals omega
  refine xw_if (fun c_1_3 => ?_) (fun c_1_3 => ?_)
  · skip
    refine xw_go xb_38 3 (f1 := (105, [.ref 0, .int (nI 3), .int (nI w)], [.int 999, .int 0, .int (nI w)])) (h1 := (xS b, I, L, xP b)) rfl trivial ?_
    refine xw_call xb_38 rfl rfl rfl rfl rfl (Or.inl rfl) c_within ?_
    rintro _ _ ⟨rfl, rfl⟩
    refine xw_at (f' := (108, [.ref 0, .int (nI 3), .int (nI w)], [.int (nI (xB (decide ((0 : Int32).toInt ≤ (nI w).toInt ∧ (nI w).toInt ≤ (999 : Int32).toInt))))])) (h' := (xS b, I, L, xP b)) rfl rfl ?_
    refine xw_go xb_38 1 (f1 := (if (nI (xB (decide ((0 : Int32).toInt ≤ (nI w).toInt ∧ (nI w).toInt ≤ (999 : Int32).toInt)))) = 0 then 122 else 111, [.ref 0, .int (nI 3), .int (nI w)], [])) (h1 := (xS b, I, L, xP b)) rfl trivial ?_
    refine xw_if (fun c_108 => ?_) (fun c_108 => ?_)
    · skip
      exfalso
      try simp only [xB_dec, Classical.not_not] at c_1_0 c_1_1 c_1_2 c_1_3 c_108
      try simp (disch := omega) only [xt_eq, xt_lt, xt_le, xkt_0, xkt_1, xkt_2, xkt_3, xkt_4, xkt_5, xkt_6, xkt_7, xkt_8, xkt_9, xkt_10, xkt_11, xkt_12, xkt_13, xkt_14, xkt_16, xkt_20, xkt_24, xkt_31, xkt_32, xkt_40, xkt_44, xkt_47, xkt_48, xkt_57, xkt_59, xkt_60, xkt_63, xkt_64, xkt_65, xkt_72, xkt_95, xkt_99, xkt_100, xkt_101, xkt_103, xkt_110, xkt_112, xkt_113, xkt_114, xkt_119, xkt_126, xkt_159, xkt_576, xkt_999, xkt_9999, xkt_65536, xkt_999999, xkt_m1, xkt_m2, xkt_m3, xkt_m4, xkt_m11, xkt_m12, xkt_m13, xkt_m14, xkt_m20, xjt_0, xjt_1, xjt_2, xjt_3, xjt_4, xjt_5, xjt_6, xjt_7, xjt_8, xjt_9, xjt_10, xjt_11, xjt_12, xjt_13, xjt_14, xjt_16, xjt_20, xjt_24, xjt_31, xjt_32, xjt_40, xjt_44, xjt_47, xjt_48, xjt_57, xjt_59, xjt_60, xjt_63, xjt_64, xjt_65, xjt_72, xjt_95, xjt_99, xjt_100, xjt_101, xjt_103, xjt_110, xjt_112, xjt_113, xjt_114, xjt_119, xjt_126, xjt_159, xjt_576, xjt_999, xjt_9999, xjt_65536, xjt_999999, xt64, xt_n, not_true_eq_false, not_false_eq_true, Classical.not_not] at c_1_0 c_1_1 c_1_2 c_1_3 c_108
      all_goals omega
    · skip
      refine xw_go xb_38 3 (f1 := (116, [.ref 0, .int (nI 3), .int (nI w)], [.int (nI w), .ref 1])) (h1 := (xS b, I, L, xP b)) rfl ⟨rfl, trivial⟩ ?_
      refine xw_call xb_38 rfl rfl rfl rfl rfl (Or.inr ⟨_, _, rfl, rfl⟩) (c_changeMost (I := I)) ?_
      rintro _ _ ⟨rfl, rfl⟩
      refine xw_at (f' := (119, [.ref 0, .int (nI 3), .int (nI w)], [.int (I 1 10)])) (h' := (xS b, xm_up I 1 10 (nI w), L, xP b)) rfl rfl ?_
      refine xw_go xb_38 1 (f1 := (123, [.ref 0, .int (nI 3), .int (nI w)], [.int (I 1 10)])) (h1 := (xS b, xm_up I 1 10 (nI w), L, xP b)) rfl trivial ?_
      refine xw_ret xb_38 rfl rfl trivial ?_
      refine ⟨xm_some (congrArg Value.int hN8), _, rfl, xPF_u (xPF_r I) (by decide), xPL_N hP (xPN_u (k := 8) (by omega) hP.1 (by omega) rfl rfl rfl) (xm_vu_o (by omega)) (fun a h1 h2 => xm_up_o (by omega))⟩
  refine xw_at (f' := (124, [.ref 0, .int (nI 3), .int (nI w)], [])) (h' := (xS b, I, L, xP b)) rfl rfl ?_
  exfalso
  try simp only [xB_dec, Classical.not_not] at c_1_0 c_1_1 c_1_2 c_1_3
  try simp (disch := omega) only [xt_eq, xt_lt, xt_le, xkt_0, xkt_1, xkt_2, xkt_3, xkt_4, xkt_5, xkt_6, xkt_7, xkt_8, xkt_9, xkt_10, xkt_11, xkt_12, xkt_13, xkt_14, xkt_16, xkt_20, xkt_24, xkt_31, xkt_32, xkt_40, xkt_44, xkt_47, xkt_48, xkt_57, xkt_59, xkt_60, xkt_63, xkt_64, xkt_65, xkt_72, xkt_95, xkt_99, xkt_100, xkt_101, xkt_103, xkt_110, xkt_112, xkt_113, xkt_114, xkt_119, xkt_126, xkt_159, xkt_576, xkt_999, xkt_9999, xkt_65536, xkt_999999, xkt_m1, xkt_m2, xkt_m3, xkt_m4, xkt_m11, xkt_m12, xkt_m13, xkt_m14, xkt_m20, xjt_0, xjt_1, xjt_2, xjt_3, xjt_4, xjt_5, xjt_6, xjt_7, xjt_8, xjt_9, xjt_10, xjt_11, xjt_12, xjt_13, xjt_14, xjt_16, xjt_20, xjt_24, xjt_31, xjt_32, xjt_40, xjt_44, xjt_47, xjt_48, xjt_57, xjt_59, xjt_60, xjt_63, xjt_64, xjt_65, xjt_72, xjt_95, xjt_99, xjt_100, xjt_101, xjt_103, xjt_110, xjt_112, xjt_113, xjt_114, xjt_119, xjt_126, xjt_159, xjt_576, xjt_999, xjt_9999, xjt_65536, xjt_999999, xt64, xt_n, not_true_eq_false, not_false_eq_true, Classical.not_not] at c_1_0 c_1_1 c_1_2 c_1_3
  all_goals omega

theorem m_rule0 {d : Nat} {b : Bool} {I : Nat → Nat → Int32} {L : Nat → Nat → Int64} {N : Nat → Nat} {u : Nat} {U : Nat → Nat → Nat} (hM : xML N u U I) (hK : xUK N u U) {x y : Int32} (hx : ¬ ((x.toInt = 0 ∧ 0 ≤ y.toInt ∧ y.toInt ≤ 3) ∨ (x.toInt = 1 ∧ 1 ≤ y.toInt ∧ y.toInt ≤ 5) ∨ ((x.toInt = 2 ∨ x.toInt = 3) ∧ 0 ≤ y.toInt ∧ y.toInt ≤ 999))) : xm_Z (d + 2) 129 [.ref 60, .int x, .int y] (xS b, I, L, xP b) (fun rz hz => xQM b I L (-1) N u U rz hz) := by
  refine xw_S xb_129 (l := [.ref 60, .int x, .int y, .float 0, .float 0]) (Nat.le_of_ble_eq_true rfl) rfl ?_
  refine xw_go xb_129 2 (f1 := (if ¬ x = 0 then 16 else 4, [.ref 60, .int x, .int y, .float 0, .float 0], [])) (h1 := (xS b, I, L, xP b)) rfl trivial ?_
  refine xw_if (fun c_1 => ?_) (fun c_1 => ?_)
  · skip
    refine xw_go xb_129 3 (f1 := (if ¬ x = 1 then 33 else 21, [.ref 60, .int x, .int y, .float 0, .float 0], [])) (h1 := (xS b, I, L, xP b)) rfl trivial ?_
    refine xw_if (fun c_18 => ?_) (fun c_18 => ?_)
    · skip
      refine xw_go xb_129 3 (f1 := (if x = 2 then 43 else 38, [.ref 60, .int x, .int y, .float 0, .float 0], [])) (h1 := (xS b, I, L, xP b)) rfl trivial ?_
      refine xw_if (fun c_35 => ?_) (fun c_35 => ?_)
      · skip
        refine xw_go xb_129 4 (f1 := (49, [.ref 60, .int x, .int y, .float 0, .float 0], [.long 999, .long 0, .long y.toInt64])) (h1 := (xS b, I, L, xP b)) rfl trivial ?_
        refine xw_call xb_129 rfl rfl rfl rfl rfl (Or.inl rfl) m_in ?_
        rintro _ _ ⟨rfl, rfl⟩
        refine xw_at (f' := (52, [.ref 60, .int x, .int y, .float 0, .float 0], [.int (nI (xB (decide ((0 : Int64).toInt ≤ y.toInt64.toInt ∧ y.toInt64.toInt ≤ (999 : Int64).toInt))))])) (h' := (xS b, I, L, xP b)) rfl rfl ?_
        refine xw_go xb_129 1 (f1 := (if (nI (xB (decide ((0 : Int64).toInt ≤ y.toInt64.toInt ∧ y.toInt64.toInt ≤ (999 : Int64).toInt)))) = 0 then 59 else 55, [.ref 60, .int x, .int y, .float 0, .float 0], [])) (h1 := (xS b, I, L, xP b)) rfl trivial ?_
        refine xw_if (fun c_52 => ?_) (fun c_52 => ?_)
        · skip
          refine xw_go xb_129 4 (f1 := (if ¬ 0 = 0 then 67 else 65, [.ref 60, .int x, .int y, .int 0, .float 0], [])) (h1 := (xS b, I, L, xP b)) rfl trivial ?_
          refine xw_if (fun c_62 => ?_) (fun c_62 => ?_)
          · skip
            exfalso
            try simp only [xB_dec, Classical.not_not] at c_1 c_18 c_35 c_52 c_62
            try simp (disch := omega) only [xt_eq, xt_lt, xt_le, xkt_0, xkt_1, xkt_2, xkt_3, xkt_4, xkt_5, xkt_6, xkt_7, xkt_8, xkt_9, xkt_10, xkt_11, xkt_12, xkt_13, xkt_14, xkt_16, xkt_20, xkt_24, xkt_31, xkt_32, xkt_40, xkt_44, xkt_47, xkt_48, xkt_57, xkt_59, xkt_60, xkt_63, xkt_64, xkt_65, xkt_72, xkt_95, xkt_99, xkt_100, xkt_101, xkt_103, xkt_110, xkt_112, xkt_113, xkt_114, xkt_119, xkt_126, xkt_159, xkt_576, xkt_999, xkt_9999, xkt_65536, xkt_999999, xkt_m1, xkt_m2, xkt_m3, xkt_m4, xkt_m11, xkt_m12, xkt_m13, xkt_m14, xkt_m20, xjt_0, xjt_1, xjt_2, xjt_3, xjt_4, xjt_5, xjt_6, xjt_7, xjt_8, xjt_9, xjt_10, xjt_11, xjt_12, xjt_13, xjt_14, xjt_16, xjt_20, xjt_24, xjt_31, xjt_32, xjt_40, xjt_44, xjt_47, xjt_48, xjt_57, xjt_59, xjt_60, xjt_63, xjt_64, xjt_65, xjt_72, xjt_95, xjt_99, xjt_100, xjt_101, xjt_103, xjt_110, xjt_112, xjt_113, xjt_114, xjt_119, xjt_126, xjt_159, xjt_576, xjt_999, xjt_9999, xjt_65536, xjt_999999, xt64, xt_n, not_true_eq_false, not_false_eq_true, Classical.not_not] at c_1 c_18 c_35 c_52 c_62
            all_goals omega
          · skip
            refine xw_go xb_129 1 (f1 := (66, [.ref 60, .int x, .int y, .int 0, .float 0], [.int (-1)])) (h1 := (xS b, I, L, xP b)) rfl trivial ?_
            refine xw_ret xb_129 rfl rfl trivial ?_
            exact xQM_same hM
        · skip
          refine xw_go xb_129 5 (f1 := (if ¬ 1 = 0 then 67 else 65, [.ref 60, .int x, .int y, .int 1, .float 0], [])) (h1 := (xS b, I, L, xP b)) rfl trivial ?_
          refine xw_if (fun c_62 => ?_) (fun c_62 => ?_)
          · skip
            exfalso
            try simp only [xB_dec, Classical.not_not] at c_1 c_18 c_35 c_52 c_62
            try simp (disch := omega) only [xt_eq, xt_lt, xt_le, xkt_0, xkt_1, xkt_2, xkt_3, xkt_4, xkt_5, xkt_6, xkt_7, xkt_8, xkt_9, xkt_10, xkt_11, xkt_12, xkt_13, xkt_14, xkt_16, xkt_20, xkt_24, xkt_31, xkt_32, xkt_40, xkt_44, xkt_47, xkt_48, xkt_57, xkt_59, xkt_60, xkt_63, xkt_64, xkt_65, xkt_72, xkt_95, xkt_99, xkt_100, xkt_101, xkt_103, xkt_110, xkt_112, xkt_113, xkt_114, xkt_119, xkt_126, xkt_159, xkt_576, xkt_999, xkt_9999, xkt_65536, xkt_999999, xkt_m1, xkt_m2, xkt_m3, xkt_m4, xkt_m11, xkt_m12, xkt_m13, xkt_m14, xkt_m20, xjt_0, xjt_1, xjt_2, xjt_3, xjt_4, xjt_5, xjt_6, xjt_7, xjt_8, xjt_9, xjt_10, xjt_11, xjt_12, xjt_13, xjt_14, xjt_16, xjt_20, xjt_24, xjt_31, xjt_32, xjt_40, xjt_44, xjt_47, xjt_48, xjt_57, xjt_59, xjt_60, xjt_63, xjt_64, xjt_65, xjt_72, xjt_95, xjt_99, xjt_100, xjt_101, xjt_103, xjt_110, xjt_112, xjt_113, xjt_114, xjt_119, xjt_126, xjt_159, xjt_576, xjt_999, xjt_9999, xjt_65536, xjt_999999, xt64, xt_n, not_true_eq_false, not_false_eq_true, Classical.not_not] at c_1 c_18 c_35 c_52 c_62
            all_goals omega
          · skip
            refine xw_go xb_129 1 (f1 := (66, [.ref 60, .int x, .int y, .int 1, .float 0], [.int (-1)])) (h1 := (xS b, I, L, xP b)) rfl trivial ?_
            refine xw_ret xb_129 rfl rfl trivial ?_
            exact xQM_same hM
      · skip
        refine xw_go xb_129 3 (f1 := (if ¬ x = 3 then 59 else 43, [.ref 60, .int x, .int y, .float 0, .float 0], [])) (h1 := (xS b, I, L, xP b)) rfl trivial ?_
        refine xw_if (fun c_40 => ?_) (fun c_40 => ?_)
        · skip
          refine xw_go xb_129 4 (f1 := (if ¬ 0 = 0 then 67 else 65, [.ref 60, .int x, .int y, .int 0, .float 0], [])) (h1 := (xS b, I, L, xP b)) rfl trivial ?_
          refine xw_if (fun c_62 => ?_) (fun c_62 => ?_)
          · skip
            exfalso
            try simp only [xB_dec, Classical.not_not] at c_1 c_18 c_35 c_40 c_62
            try simp (disch := omega) only [xt_eq, xt_lt, xt_le, xkt_0, xkt_1, xkt_2, xkt_3, xkt_4, xkt_5, xkt_6, xkt_7, xkt_8, xkt_9, xkt_10, xkt_11, xkt_12, xkt_13, xkt_14, xkt_16, xkt_20, xkt_24, xkt_31, xkt_32, xkt_40, xkt_44, xkt_47, xkt_48, xkt_57, xkt_59, xkt_60, xkt_63, xkt_64, xkt_65, xkt_72, xkt_95, xkt_99, xkt_100, xkt_101, xkt_103, xkt_110, xkt_112, xkt_113, xkt_114, xkt_119, xkt_126, xkt_159, xkt_576, xkt_999, xkt_9999, xkt_65536, xkt_999999, xkt_m1, xkt_m2, xkt_m3, xkt_m4, xkt_m11, xkt_m12, xkt_m13, xkt_m14, xkt_m20, xjt_0, xjt_1, xjt_2, xjt_3, xjt_4, xjt_5, xjt_6, xjt_7, xjt_8, xjt_9, xjt_10, xjt_11, xjt_12, xjt_13, xjt_14, xjt_16, xjt_20, xjt_24, xjt_31, xjt_32, xjt_40, xjt_44, xjt_47, xjt_48, xjt_57, xjt_59, xjt_60, xjt_63, xjt_64, xjt_65, xjt_72, xjt_95, xjt_99, xjt_100, xjt_101, xjt_103, xjt_110, xjt_112, xjt_113, xjt_114, xjt_119, xjt_126, xjt_159, xjt_576, xjt_999, xjt_9999, xjt_65536, xjt_999999, xt64, xt_n, not_true_eq_false, not_false_eq_true, Classical.not_not] at c_1 c_18 c_35 c_40 c_62
            all_goals omega
          · skip
            refine xw_go xb_129 1 (f1 := (66, [.ref 60, .int x, .int y, .int 0, .float 0], [.int (-1)])) (h1 := (xS b, I, L, xP b)) rfl trivial ?_
            refine xw_ret xb_129 rfl rfl trivial ?_
            exact xQM_same hM
        · skip
          refine xw_go xb_129 4 (f1 := (49, [.ref 60, .int x, .int y, .float 0, .float 0], [.long 999, .long 0, .long y.toInt64])) (h1 := (xS b, I, L, xP b)) rfl trivial ?_
          refine xw_call xb_129 rfl rfl rfl rfl rfl (Or.inl rfl) m_in ?_
          rintro _ _ ⟨rfl, rfl⟩
          refine xw_at (f' := (52, [.ref 60, .int x, .int y, .float 0, .float 0], [.int (nI (xB (decide ((0 : Int64).toInt ≤ y.toInt64.toInt ∧ y.toInt64.toInt ≤ (999 : Int64).toInt))))])) (h' := (xS b, I, L, xP b)) rfl rfl ?_
          refine xw_go xb_129 1 (f1 := (if (nI (xB (decide ((0 : Int64).toInt ≤ y.toInt64.toInt ∧ y.toInt64.toInt ≤ (999 : Int64).toInt)))) = 0 then 59 else 55, [.ref 60, .int x, .int y, .float 0, .float 0], [])) (h1 := (xS b, I, L, xP b)) rfl trivial ?_
          refine xw_if (fun c_52 => ?_) (fun c_52 => ?_)
          · skip
            refine xw_go xb_129 4 (f1 := (if ¬ 0 = 0 then 67 else 65, [.ref 60, .int x, .int y, .int 0, .float 0], [])) (h1 := (xS b, I, L, xP b)) rfl trivial ?_
            refine xw_if (fun c_62 => ?_) (fun c_62 => ?_)
            · skip
              exfalso
              try simp only [xB_dec, Classical.not_not] at c_1 c_18 c_35 c_40 c_52 c_62
              try simp (disch := omega) only [xt_eq, xt_lt, xt_le, xkt_0, xkt_1, xkt_2, xkt_3, xkt_4, xkt_5, xkt_6, xkt_7, xkt_8, xkt_9, xkt_10, xkt_11, xkt_12, xkt_13, xkt_14, xkt_16, xkt_20, xkt_24, xkt_31, xkt_32, xkt_40, xkt_44, xkt_47, xkt_48, xkt_57, xkt_59, xkt_60, xkt_63, xkt_64, xkt_65, xkt_72, xkt_95, xkt_99, xkt_100, xkt_101, xkt_103, xkt_110, xkt_112, xkt_113, xkt_114, xkt_119, xkt_126, xkt_159, xkt_576, xkt_999, xkt_9999, xkt_65536, xkt_999999, xkt_m1, xkt_m2, xkt_m3, xkt_m4, xkt_m11, xkt_m12, xkt_m13, xkt_m14, xkt_m20, xjt_0, xjt_1, xjt_2, xjt_3, xjt_4, xjt_5, xjt_6, xjt_7, xjt_8, xjt_9, xjt_10, xjt_11, xjt_12, xjt_13, xjt_14, xjt_16, xjt_20, xjt_24, xjt_31, xjt_32, xjt_40, xjt_44, xjt_47, xjt_48, xjt_57, xjt_59, xjt_60, xjt_63, xjt_64, xjt_65, xjt_72, xjt_95, xjt_99, xjt_100, xjt_101, xjt_103, xjt_110, xjt_112, xjt_113, xjt_114, xjt_119, xjt_126, xjt_159, xjt_576, xjt_999, xjt_9999, xjt_65536, xjt_999999, xt64, xt_n, not_true_eq_false, not_false_eq_true, Classical.not_not] at c_1 c_18 c_35 c_40 c_52 c_62
              all_goals omega
            · skip
              refine xw_go xb_129 1 (f1 := (66, [.ref 60, .int x, .int y, .int 0, .float 0], [.int (-1)])) (h1 := (xS b, I, L, xP b)) rfl trivial ?_
              refine xw_ret xb_129 rfl rfl trivial ?_
              exact xQM_same hM
          · skip
            refine xw_go xb_129 5 (f1 := (if ¬ 1 = 0 then 67 else 65, [.ref 60, .int x, .int y, .int 1, .float 0], [])) (h1 := (xS b, I, L, xP b)) rfl trivial ?_
            refine xw_if (fun c_62 => ?_) (fun c_62 => ?_)
            · skip
              exfalso
              try simp only [xB_dec, Classical.not_not] at c_1 c_18 c_35 c_40 c_52 c_62
              try simp (disch := omega) only [xt_eq, xt_lt, xt_le, xkt_0, xkt_1, xkt_2, xkt_3, xkt_4, xkt_5, xkt_6, xkt_7, xkt_8, xkt_9, xkt_10, xkt_11, xkt_12, xkt_13, xkt_14, xkt_16, xkt_20, xkt_24, xkt_31, xkt_32, xkt_40, xkt_44, xkt_47, xkt_48, xkt_57, xkt_59, xkt_60, xkt_63, xkt_64, xkt_65, xkt_72, xkt_95, xkt_99, xkt_100, xkt_101, xkt_103, xkt_110, xkt_112, xkt_113, xkt_114, xkt_119, xkt_126, xkt_159, xkt_576, xkt_999, xkt_9999, xkt_65536, xkt_999999, xkt_m1, xkt_m2, xkt_m3, xkt_m4, xkt_m11, xkt_m12, xkt_m13, xkt_m14, xkt_m20, xjt_0, xjt_1, xjt_2, xjt_3, xjt_4, xjt_5, xjt_6, xjt_7, xjt_8, xjt_9, xjt_10, xjt_11, xjt_12, xjt_13, xjt_14, xjt_16, xjt_20, xjt_24, xjt_31, xjt_32, xjt_40, xjt_44, xjt_47, xjt_48, xjt_57, xjt_59, xjt_60, xjt_63, xjt_64, xjt_65, xjt_72, xjt_95, xjt_99, xjt_100, xjt_101, xjt_103, xjt_110, xjt_112, xjt_113, xjt_114, xjt_119, xjt_126, xjt_159, xjt_576, xjt_999, xjt_9999, xjt_65536, xjt_999999, xt64, xt_n, not_true_eq_false, not_false_eq_true, Classical.not_not] at c_1 c_18 c_35 c_40 c_52 c_62
              all_goals omega
            · skip
              refine xw_go xb_129 1 (f1 := (66, [.ref 60, .int x, .int y, .int 1, .float 0], [.int (-1)])) (h1 := (xS b, I, L, xP b)) rfl trivial ?_
              refine xw_ret xb_129 rfl rfl trivial ?_
              exact xQM_same hM
    · skip
      refine xw_go xb_129 4 (f1 := (27, [.ref 60, .int x, .int y, .float 0, .float 0], [.long 5, .long 1, .long y.toInt64])) (h1 := (xS b, I, L, xP b)) rfl trivial ?_
      refine xw_call xb_129 rfl rfl rfl rfl rfl (Or.inl rfl) m_in ?_
      rintro _ _ ⟨rfl, rfl⟩
      refine xw_at (f' := (30, [.ref 60, .int x, .int y, .float 0, .float 0], [.int (nI (xB (decide ((1 : Int64).toInt ≤ y.toInt64.toInt ∧ y.toInt64.toInt ≤ (5 : Int64).toInt))))])) (h' := (xS b, I, L, xP b)) rfl rfl ?_
      refine xw_go xb_129 4 (f1 := (if ¬ (nI (xB (decide ((1 : Int64).toInt ≤ y.toInt64.toInt ∧ y.toInt64.toInt ≤ (5 : Int64).toInt)))) = 0 then 67 else 65, [.ref 60, .int x, .int y, .int (nI (xB (decide ((1 : Int64).toInt ≤ y.toInt64.toInt ∧ y.toInt64.toInt ≤ (5 : Int64).toInt)))), .float 0], [])) (h1 := (xS b, I, L, xP b)) rfl trivial ?_
      refine xw_if (fun c_62 => ?_) (fun c_62 => ?_)
      · skip
        exfalso
        try simp only [xB_dec, Classical.not_not] at c_1 c_18 c_62
        try simp (disch := omega) only [xt_eq, xt_lt, xt_le, xkt_0, xkt_1, xkt_2, xkt_3, xkt_4, xkt_5, xkt_6, xkt_7, xkt_8, xkt_9, xkt_10, xkt_11, xkt_12, xkt_13, xkt_14, xkt_16, xkt_20, xkt_24, xkt_31, xkt_32, xkt_40, xkt_44, xkt_47, xkt_48, xkt_57, xkt_59, xkt_60, xkt_63, xkt_64, xkt_65, xkt_72, xkt_95, xkt_99, xkt_100, xkt_101, xkt_103, xkt_110, xkt_112, xkt_113, xkt_114, xkt_119, xkt_126, xkt_159, xkt_576, xkt_999, xkt_9999, xkt_65536, xkt_999999, xkt_m1, xkt_m2, xkt_m3, xkt_m4, xkt_m11, xkt_m12, xkt_m13, xkt_m14, xkt_m20, xjt_0, xjt_1, xjt_2, xjt_3, xjt_4, xjt_5, xjt_6, xjt_7, xjt_8, xjt_9, xjt_10, xjt_11, xjt_12, xjt_13, xjt_14, xjt_16, xjt_20, xjt_24, xjt_31, xjt_32, xjt_40, xjt_44, xjt_47, xjt_48, xjt_57, xjt_59, xjt_60, xjt_63, xjt_64, xjt_65, xjt_72, xjt_95, xjt_99, xjt_100, xjt_101, xjt_103, xjt_110, xjt_112, xjt_113, xjt_114, xjt_119, xjt_126, xjt_159, xjt_576, xjt_999, xjt_9999, xjt_65536, xjt_999999, xt64, xt_n, not_true_eq_false, not_false_eq_true, Classical.not_not] at c_1 c_18 c_62
        all_goals omega
      · skip
        refine xw_go xb_129 1 (f1 := (66, [.ref 60, .int x, .int y, .int (nI (xB (decide ((1 : Int64).toInt ≤ y.toInt64.toInt ∧ y.toInt64.toInt ≤ (5 : Int64).toInt)))), .float 0], [.int (-1)])) (h1 := (xS b, I, L, xP b)) rfl trivial ?_
        refine xw_ret xb_129 rfl rfl trivial ?_
        exact xQM_same hM
  · skip
    refine xw_go xb_129 4 (f1 := (10, [.ref 60, .int x, .int y, .float 0, .float 0], [.long 3, .long 0, .long y.toInt64])) (h1 := (xS b, I, L, xP b)) rfl trivial ?_
    refine xw_call xb_129 rfl rfl rfl rfl rfl (Or.inl rfl) m_in ?_
    rintro _ _ ⟨rfl, rfl⟩
    refine xw_at (f' := (13, [.ref 60, .int x, .int y, .float 0, .float 0], [.int (nI (xB (decide ((0 : Int64).toInt ≤ y.toInt64.toInt ∧ y.toInt64.toInt ≤ (3 : Int64).toInt))))])) (h' := (xS b, I, L, xP b)) rfl rfl ?_
    refine xw_go xb_129 4 (f1 := (if ¬ (nI (xB (decide ((0 : Int64).toInt ≤ y.toInt64.toInt ∧ y.toInt64.toInt ≤ (3 : Int64).toInt)))) = 0 then 67 else 65, [.ref 60, .int x, .int y, .int (nI (xB (decide ((0 : Int64).toInt ≤ y.toInt64.toInt ∧ y.toInt64.toInt ≤ (3 : Int64).toInt)))), .float 0], [])) (h1 := (xS b, I, L, xP b)) rfl trivial ?_
    refine xw_if (fun c_62 => ?_) (fun c_62 => ?_)
    · skip
      exfalso
      try simp only [xB_dec, Classical.not_not] at c_1 c_62
      try simp (disch := omega) only [xt_eq, xt_lt, xt_le, xkt_0, xkt_1, xkt_2, xkt_3, xkt_4, xkt_5, xkt_6, xkt_7, xkt_8, xkt_9, xkt_10, xkt_11, xkt_12, xkt_13, xkt_14, xkt_16, xkt_20, xkt_24, xkt_31, xkt_32, xkt_40, xkt_44, xkt_47, xkt_48, xkt_57, xkt_59, xkt_60, xkt_63, xkt_64, xkt_65, xkt_72, xkt_95, xkt_99, xkt_100, xkt_101, xkt_103, xkt_110, xkt_112, xkt_113, xkt_114, xkt_119, xkt_126, xkt_159, xkt_576, xkt_999, xkt_9999, xkt_65536, xkt_999999, xkt_m1, xkt_m2, xkt_m3, xkt_m4, xkt_m11, xkt_m12, xkt_m13, xkt_m14, xkt_m20, xjt_0, xjt_1, xjt_2, xjt_3, xjt_4, xjt_5, xjt_6, xjt_7, xjt_8, xjt_9, xjt_10, xjt_11, xjt_12, xjt_13, xjt_14, xjt_16, xjt_20, xjt_24, xjt_31, xjt_32, xjt_40, xjt_44, xjt_47, xjt_48, xjt_57, xjt_59, xjt_60, xjt_63, xjt_64, xjt_65, xjt_72, xjt_95, xjt_99, xjt_100, xjt_101, xjt_103, xjt_110, xjt_112, xjt_113, xjt_114, xjt_119, xjt_126, xjt_159, xjt_576, xjt_999, xjt_9999, xjt_65536, xjt_999999, xt64, xt_n, not_true_eq_false, not_false_eq_true, Classical.not_not] at c_1 c_62
      all_goals omega
    · skip
      refine xw_go xb_129 1 (f1 := (66, [.ref 60, .int x, .int y, .int (nI (xB (decide ((0 : Int64).toInt ≤ y.toInt64.toInt ∧ y.toInt64.toInt ≤ (3 : Int64).toInt)))), .float 0], [.int (-1)])) (h1 := (xS b, I, L, xP b)) rfl trivial ?_
      refine xw_ret xb_129 rfl rfl trivial ?_
      exact xQM_same hM

theorem m_rule10 {d : Nat} {b : Bool} {I : Nat → Nat → Int32} {L : Nat → Nat → Int64} {N : Nat → Nat} {u : Nat} {U : Nat → Nat → Nat} (hM : xML N u U I) (hK : xUK N u U) {w : Nat} (hw : 0 ≤ w ∧ w ≤ 3) {x : Int32} (e_x : x = nI 0) {y : Int32} (e_y : y = nI w) : xm_Z (d + 2) 129 [.ref 60, .int x, .int y] (xS b, I, L, xP b) (fun rz hz => xQM b I L (nI (N 5)) (va_up N 5 w) u U rz hz) := by
  subst e_x
  subst e_y
  refine xw_S xb_129 (l := [.ref 60, .int (nI 0), .int (nI w), .float 0, .float 0]) (Nat.le_of_ble_eq_true rfl) rfl ?_
  refine xw_go xb_129 2 (f1 := (if ¬ (nI 0) = 0 then 16 else 4, [.ref 60, .int (nI 0), .int (nI w), .float 0, .float 0], [])) (h1 := (xS b, I, L, xP b)) rfl trivial ?_
  refine xw_if (fun c_1 => ?_) (fun c_1 => ?_)
  · skip
    refine xw_go xb_129 3 (f1 := (if ¬ (nI 0) = 1 then 33 else 21, [.ref 60, .int (nI 0), .int (nI w), .float 0, .float 0], [])) (h1 := (xS b, I, L, xP b)) rfl trivial ?_
    refine xw_if (fun c_18 => ?_) (fun c_18 => ?_)
    · skip
      refine xw_go xb_129 3 (f1 := (if (nI 0) = 2 then 43 else 38, [.ref 60, .int (nI 0), .int (nI w), .float 0, .float 0], [])) (h1 := (xS b, I, L, xP b)) rfl trivial ?_
      refine xw_if (fun c_35 => ?_) (fun c_35 => ?_)
      · skip
        refine xw_go xb_129 4 (f1 := (49, [.ref 60, .int (nI 0), .int (nI w), .float 0, .float 0], [.long 999, .long 0, .long ((nI w).toInt64)])) (h1 := (xS b, I, L, xP b)) rfl trivial ?_
        refine xw_call xb_129 rfl rfl rfl rfl rfl (Or.inl rfl) m_in ?_
        rintro _ _ ⟨rfl, rfl⟩
        refine xw_at (f' := (52, [.ref 60, .int (nI 0), .int (nI w), .float 0, .float 0], [.int (nI (xB (decide ((0 : Int64).toInt ≤ (nI w).toInt64.toInt ∧ (nI w).toInt64.toInt ≤ (999 : Int64).toInt))))])) (h' := (xS b, I, L, xP b)) rfl rfl ?_
        refine xw_go xb_129 1 (f1 := (if (nI (xB (decide ((0 : Int64).toInt ≤ (nI w).toInt64.toInt ∧ (nI w).toInt64.toInt ≤ (999 : Int64).toInt)))) = 0 then 59 else 55, [.ref 60, .int (nI 0), .int (nI w), .float 0, .float 0], [])) (h1 := (xS b, I, L, xP b)) rfl trivial ?_
        refine xw_if (fun c_52 => ?_) (fun c_52 => ?_)
        · skip
          refine xw_go xb_129 4 (f1 := (if ¬ 0 = 0 then 67 else 65, [.ref 60, .int (nI 0), .int (nI w), .int 0, .float 0], [])) (h1 := (xS b, I, L, xP b)) rfl trivial ?_
          refine xw_if (fun c_62 => ?_) (fun c_62 => ?_)
          · skip
            refine xw_go xb_129 15 (f1 := (88, [.ref 60, .int (nI 0), .int (nI w), .int 0, .int (I 61 (5 + (nI 0)).toNatClampNeg)], [.int (I 61 (5 + (nI 0)).toNatClampNeg)])) (h1 := (xS b, xm_up I 61 (5 + (nI 0)).toNatClampNeg (nI w), L, xP b)) rfl ⟨rfl, (xn_ar' (n := 5) (N := 159) rfl (show 5 + nI 0 = _ by rw [xl_5, nI_add]) (by omega) (by decide)), rfl, (xn_ar' (n := 5) (N := 159) rfl (show 5 + nI 0 = _ by rw [xl_5, nI_add]) (by omega) (by decide)), trivial⟩ ?_
            refine xw_ret xb_129 rfl rfl trivial ?_
            rw [show (5 : Int32) + nI 0 = nI 5 from (by rw [xl_5, nI_add]), xn_cl (by omega)]
            exact ⟨xm_some (congrArg Value.int (hM.1 5 (by decide))), _, rfl, xMF_u (xMF_r I) (Or.inl rfl), xML_N hM (xMN_u hM.1 rfl rfl) rfl rfl⟩
          · skip
            exfalso
            try simp only [xB_dec, Classical.not_not] at c_1 c_18 c_35 c_52 c_62
            try simp (disch := omega) only [xt_eq, xt_lt, xt_le, xkt_0, xkt_1, xkt_2, xkt_3, xkt_4, xkt_5, xkt_6, xkt_7, xkt_8, xkt_9, xkt_10, xkt_11, xkt_12, xkt_13, xkt_14, xkt_16, xkt_20, xkt_24, xkt_31, xkt_32, xkt_40, xkt_44, xkt_47, xkt_48, xkt_57, xkt_59, xkt_60, xkt_63, xkt_64, xkt_65, xkt_72, xkt_95, xkt_99, xkt_100, xkt_101, xkt_103, xkt_110, xkt_112, xkt_113, xkt_114, xkt_119, xkt_126, xkt_159, xkt_576, xkt_999, xkt_9999, xkt_65536, xkt_999999, xkt_m1, xkt_m2, xkt_m3, xkt_m4, xkt_m11, xkt_m12, xkt_m13, xkt_m14, xkt_m20, xjt_0, xjt_1, xjt_2, xjt_3, xjt_4, xjt_5, xjt_6, xjt_7, xjt_8, xjt_9, xjt_10, xjt_11, xjt_12, xjt_13, xjt_14, xjt_16, xjt_20, xjt_24, xjt_31, xjt_32, xjt_40, xjt_44, xjt_47, xjt_48, xjt_57, xjt_59, xjt_60, xjt_63, xjt_64, xjt_65, xjt_72, xjt_95, xjt_99, xjt_100, xjt_101, xjt_103, xjt_110, xjt_112, xjt_113, xjt_114, xjt_119, xjt_126, xjt_159, xjt_576, xjt_999, xjt_9999, xjt_65536, xjt_999999, xt64, xt_n, not_true_eq_false, not_false_eq_true, Classical.not_not] at c_1 c_18 c_35 c_52 c_62
            all_goals omega
        · skip
          refine xw_go xb_129 5 (f1 := (if ¬ 1 = 0 then 67 else 65, [.ref 60, .int (nI 0), .int (nI w), .int 1, .float 0], [])) (h1 := (xS b, I, L, xP b)) rfl trivial ?_
          refine xw_if (fun c_62 => ?_) (fun c_62 => ?_)
          · skip
            refine xw_go xb_129 15 (f1 := (88, [.ref 60, .int (nI 0), .int (nI w), .int 1, .int (I 61 (5 + (nI 0)).toNatClampNeg)], [.int (I 61 (5 + (nI 0)).toNatClampNeg)])) (h1 := (xS b, xm_up I 61 (5 + (nI 0)).toNatClampNeg (nI w), L, xP b)) rfl ⟨rfl, (xn_ar' (n := 5) (N := 159) rfl (show 5 + nI 0 = _ by rw [xl_5, nI_add]) (by omega) (by decide)), rfl, (xn_ar' (n := 5) (N := 159) rfl (show 5 + nI 0 = _ by rw [xl_5, nI_add]) (by omega) (by decide)), trivial⟩ ?_
            refine xw_ret xb_129 rfl rfl trivial ?_
            rw [show (5 : Int32) + nI 0 = nI 5 from (by rw [xl_5, nI_add]), xn_cl (by omega)]
            exact ⟨xm_some (congrArg Value.int (hM.1 5 (by decide))), _, rfl, xMF_u (xMF_r I) (Or.inl rfl), xML_N hM (xMN_u hM.1 rfl rfl) rfl rfl⟩
          · skip
            exfalso
            try simp only [xB_dec, Classical.not_not] at c_1 c_18 c_35 c_52 c_62
            try simp (disch := omega) only [xt_eq, xt_lt, xt_le, xkt_0, xkt_1, xkt_2, xkt_3, xkt_4, xkt_5, xkt_6, xkt_7, xkt_8, xkt_9, xkt_10, xkt_11, xkt_12, xkt_13, xkt_14, xkt_16, xkt_20, xkt_24, xkt_31, xkt_32, xkt_40, xkt_44, xkt_47, xkt_48, xkt_57, xkt_59, xkt_60, xkt_63, xkt_64, xkt_65, xkt_72, xkt_95, xkt_99, xkt_100, xkt_101, xkt_103, xkt_110, xkt_112, xkt_113, xkt_114, xkt_119, xkt_126, xkt_159, xkt_576, xkt_999, xkt_9999, xkt_65536, xkt_999999, xkt_m1, xkt_m2, xkt_m3, xkt_m4, xkt_m11, xkt_m12, xkt_m13, xkt_m14, xkt_m20, xjt_0, xjt_1, xjt_2, xjt_3, xjt_4, xjt_5, xjt_6, xjt_7, xjt_8, xjt_9, xjt_10, xjt_11, xjt_12, xjt_13, xjt_14, xjt_16, xjt_20, xjt_24, xjt_31, xjt_32, xjt_40, xjt_44, xjt_47, xjt_48, xjt_57, xjt_59, xjt_60, xjt_63, xjt_64, xjt_65, xjt_72, xjt_95, xjt_99, xjt_100, xjt_101, xjt_103, xjt_110, xjt_112, xjt_113, xjt_114, xjt_119, xjt_126, xjt_159, xjt_576, xjt_999, xjt_9999, xjt_65536, xjt_999999, xt64, xt_n, not_true_eq_false, not_false_eq_true, Classical.not_not] at c_1 c_18 c_35 c_52 c_62
            all_goals omega
      · skip
        refine xw_go xb_129 3 (f1 := (if ¬ (nI 0) = 3 then 59 else 43, [.ref 60, .int (nI 0), .int (nI w), .float 0, .float 0], [])) (h1 := (xS b, I, L, xP b)) rfl trivial ?_
        refine xw_if (fun c_40 => ?_) (fun c_40 => ?_)
        · skip
          refine xw_go xb_129 4 (f1 := (if ¬ 0 = 0 then 67 else 65, [.ref 60, .int (nI 0), .int (nI w), .int 0, .float 0], [])) (h1 := (xS b, I, L, xP b)) rfl trivial ?_
          refine xw_if (fun c_62 => ?_) (fun c_62 => ?_)
          · skip
            refine xw_go xb_129 15 (f1 := (88, [.ref 60, .int (nI 0), .int (nI w), .int 0, .int (I 61 (5 + (nI 0)).toNatClampNeg)], [.int (I 61 (5 + (nI 0)).toNatClampNeg)])) (h1 := (xS b, xm_up I 61 (5 + (nI 0)).toNatClampNeg (nI w), L, xP b)) rfl ⟨rfl, (xn_ar' (n := 5) (N := 159) rfl (show 5 + nI 0 = _ by rw [xl_5, nI_add]) (by omega) (by decide)), rfl, (xn_ar' (n := 5) (N := 159) rfl (show 5 + nI 0 = _ by rw [xl_5, nI_add]) (by omega) (by decide)), trivial⟩ ?_
            refine xw_ret xb_129 rfl rfl trivial ?_
            rw [show (5 : Int32) + nI 0 = nI 5 from (by rw [xl_5, nI_add]), xn_cl (by omega)]
            exact ⟨xm_some (congrArg Value.int (hM.1 5 (by decide))), _, rfl, xMF_u (xMF_r I) (Or.inl rfl), xML_N hM (xMN_u hM.1 rfl rfl) rfl rfl⟩
          · skip
            exfalso
            try simp only [xB_dec, Classical.not_not] at c_1 c_18 c_35 c_40 c_62
            try simp (disch := omega) only [xt_eq, xt_lt, xt_le, xkt_0, xkt_1, xkt_2, xkt_3, xkt_4, xkt_5, xkt_6, xkt_7, xkt_8, xkt_9, xkt_10, xkt_11, xkt_12, xkt_13, xkt_14, xkt_16, xkt_20, xkt_24, xkt_31, xkt_32, xkt_40, xkt_44, xkt_47, xkt_48, xkt_57, xkt_59, xkt_60, xkt_63, xkt_64, xkt_65, xkt_72, xkt_95, xkt_99, xkt_100, xkt_101, xkt_103, xkt_110, xkt_112, xkt_113, xkt_114, xkt_119, xkt_126, xkt_159, xkt_576, xkt_999, xkt_9999, xkt_65536, xkt_999999, xkt_m1, xkt_m2, xkt_m3, xkt_m4, xkt_m11, xkt_m12, xkt_m13, xkt_m14, xkt_m20, xjt_0, xjt_1, xjt_2, xjt_3, xjt_4, xjt_5, xjt_6, xjt_7, xjt_8, xjt_9, xjt_10, xjt_11, xjt_12, xjt_13, xjt_14, xjt_16, xjt_20, xjt_24, xjt_31, xjt_32, xjt_40, xjt_44, xjt_47, xjt_48, xjt_57, xjt_59, xjt_60, xjt_63, xjt_64, xjt_65, xjt_72, xjt_95, xjt_99, xjt_100, xjt_101, xjt_103, xjt_110, xjt_112, xjt_113, xjt_114, xjt_119, xjt_126, xjt_159, xjt_576, xjt_999, xjt_9999, xjt_65536, xjt_999999, xt64, xt_n, not_true_eq_false, not_false_eq_true, Classical.not_not] at c_1 c_18 c_35 c_40 c_62
            all_goals omega
        · skip
          refine xw_go xb_129 4 (f1 := (49, [.ref 60, .int (nI 0), .int (nI w), .float 0, .float 0], [.long 999, .long 0, .long ((nI w).toInt64)])) (h1 := (xS b, I, L, xP b)) rfl trivial ?_
          refine xw_call xb_129 rfl rfl rfl rfl rfl (Or.inl rfl) m_in ?_
          rintro _ _ ⟨rfl, rfl⟩
          refine xw_at (f' := (52, [.ref 60, .int (nI 0), .int (nI w), .float 0, .float 0], [.int (nI (xB (decide ((0 : Int64).toInt ≤ (nI w).toInt64.toInt ∧ (nI w).toInt64.toInt ≤ (999 : Int64).toInt))))])) (h' := (xS b, I, L, xP b)) rfl rfl ?_
          refine xw_go xb_129 1 (f1 := (if (nI (xB (decide ((0 : Int64).toInt ≤ (nI w).toInt64.toInt ∧ (nI w).toInt64.toInt ≤ (999 : Int64).toInt)))) = 0 then 59 else 55, [.ref 60, .int (nI 0), .int (nI w), .float 0, .float 0], [])) (h1 := (xS b, I, L, xP b)) rfl trivial ?_
          refine xw_if (fun c_52 => ?_) (fun c_52 => ?_)
          · skip
            refine xw_go xb_129 4 (f1 := (if ¬ 0 = 0 then 67 else 65, [.ref 60, .int (nI 0), .int (nI w), .int 0, .float 0], [])) (h1 := (xS b, I, L, xP b)) rfl trivial ?_
            refine xw_if (fun c_62 => ?_) (fun c_62 => ?_)
            · skip
              refine xw_go xb_129 15 (f1 := (88, [.ref 60, .int (nI 0), .int (nI w), .int 0, .int (I 61 (5 + (nI 0)).toNatClampNeg)], [.int (I 61 (5 + (nI 0)).toNatClampNeg)])) (h1 := (xS b, xm_up I 61 (5 + (nI 0)).toNatClampNeg (nI w), L, xP b)) rfl ⟨rfl, (xn_ar' (n := 5) (N := 159) rfl (show 5 + nI 0 = _ by rw [xl_5, nI_add]) (by omega) (by decide)), rfl, (xn_ar' (n := 5) (N := 159) rfl (show 5 + nI 0 = _ by rw [xl_5, nI_add]) (by omega) (by decide)), trivial⟩ ?_
              refine xw_ret xb_129 rfl rfl trivial ?_
              rw [show (5 : Int32) + nI 0 = nI 5 from (by rw [xl_5, nI_add]), xn_cl (by omega)]
              exact ⟨xm_some (congrArg Value.int (hM.1 5 (by decide))), _, rfl, xMF_u (xMF_r I) (Or.inl rfl), xML_N hM (xMN_u hM.1 rfl rfl) rfl rfl⟩
            · skip
              exfalso
              try simp only [xB_dec, Classical.not_not] at c_1 c_18 c_35 c_40 c_52 c_62
              try simp (disch := omega) only [xt_eq, xt_lt, xt_le, xkt_0, xkt_1, xkt_2, xkt_3, xkt_4, xkt_5, xkt_6, xkt_7, xkt_8, xkt_9, xkt_10, xkt_11, xkt_12, xkt_13, xkt_14, xkt_16, xkt_20, xkt_24, xkt_31, xkt_32, xkt_40, xkt_44, xkt_47, xkt_48, xkt_57, xkt_59, xkt_60, xkt_63, xkt_64, xkt_65, xkt_72, xkt_95, xkt_99, xkt_100, xkt_101, xkt_103, xkt_110, xkt_112, xkt_113, xkt_114, xkt_119, xkt_126, xkt_159, xkt_576, xkt_999, xkt_9999, xkt_65536, xkt_999999, xkt_m1, xkt_m2, xkt_m3, xkt_m4, xkt_m11, xkt_m12, xkt_m13, xkt_m14, xkt_m20, xjt_0, xjt_1, xjt_2, xjt_3, xjt_4, xjt_5, xjt_6, xjt_7, xjt_8, xjt_9, xjt_10, xjt_11, xjt_12, xjt_13, xjt_14, xjt_16, xjt_20, xjt_24, xjt_31, xjt_32, xjt_40, xjt_44, xjt_47, xjt_48, xjt_57, xjt_59, xjt_60, xjt_63, xjt_64, xjt_65, xjt_72, xjt_95, xjt_99, xjt_100, xjt_101, xjt_103, xjt_110, xjt_112, xjt_113, xjt_114, xjt_119, xjt_126, xjt_159, xjt_576, xjt_999, xjt_9999, xjt_65536, xjt_999999, xt64, xt_n, not_true_eq_false, not_false_eq_true, Classical.not_not] at c_1 c_18 c_35 c_40 c_52 c_62
              all_goals omega
          · skip
            refine xw_go xb_129 5 (f1 := (if ¬ 1 = 0 then 67 else 65, [.ref 60, .int (nI 0), .int (nI w), .int 1, .float 0], [])) (h1 := (xS b, I, L, xP b)) rfl trivial ?_
            refine xw_if (fun c_62 => ?_) (fun c_62 => ?_)
            · skip
              refine xw_go xb_129 15 (f1 := (88, [.ref 60, .int (nI 0), .int (nI w), .int 1, .int (I 61 (5 + (nI 0)).toNatClampNeg)], [.int (I 61 (5 + (nI 0)).toNatClampNeg)])) (h1 := (xS b, xm_up I 61 (5 + (nI 0)).toNatClampNeg (nI w), L, xP b)) rfl ⟨rfl, (xn_ar' (n := 5) (N := 159) rfl (show 5 + nI 0 = _ by rw [xl_5, nI_add]) (by omega) (by decide)), rfl, (xn_ar' (n := 5) (N := 159) rfl (show 5 + nI 0 = _ by rw [xl_5, nI_add]) (by omega) (by decide)), trivial⟩ ?_
              refine xw_ret xb_129 rfl rfl trivial ?_
              rw [show (5 : Int32) + nI 0 = nI 5 from (by rw [xl_5, nI_add]), xn_cl (by omega)]
              exact ⟨xm_some (congrArg Value.int (hM.1 5 (by decide))), _, rfl, xMF_u (xMF_r I) (Or.inl rfl), xML_N hM (xMN_u hM.1 rfl rfl) rfl rfl⟩
            · skip
              exfalso
              try simp only [xB_dec, Classical.not_not] at c_1 c_18 c_35 c_40 c_52 c_62
              try simp (disch := omega) only [xt_eq, xt_lt, xt_le, xkt_0, xkt_1, xkt_2, xkt_3, xkt_4, xkt_5, xkt_6, xkt_7, xkt_8, xkt_9, xkt_10, xkt_11, xkt_12, xkt_13, xkt_14, xkt_16, xkt_20, xkt_24, xkt_31, xkt_32, xkt_40, xkt_44, xkt_47, xkt_48, xkt_57, xkt_59, xkt_60, xkt_63, xkt_64, xkt_65, xkt_72, xkt_95, xkt_99, xkt_100, xkt_101, xkt_103, xkt_110, xkt_112, xkt_113, xkt_114, xkt_119, xkt_126, xkt_159, xkt_576, xkt_999, xkt_9999, xkt_65536, xkt_999999, xkt_m1, xkt_m2, xkt_m3, xkt_m4, xkt_m11, xkt_m12, xkt_m13, xkt_m14, xkt_m20, xjt_0, xjt_1, xjt_2, xjt_3, xjt_4, xjt_5, xjt_6, xjt_7, xjt_8, xjt_9, xjt_10, xjt_11, xjt_12, xjt_13, xjt_14, xjt_16, xjt_20, xjt_24, xjt_31, xjt_32, xjt_40, xjt_44, xjt_47, xjt_48, xjt_57, xjt_59, xjt_60, xjt_63, xjt_64, xjt_65, xjt_72, xjt_95, xjt_99, xjt_100, xjt_101, xjt_103, xjt_110, xjt_112, xjt_113, xjt_114, xjt_119, xjt_126, xjt_159, xjt_576, xjt_999, xjt_9999, xjt_65536, xjt_999999, xt64, xt_n, not_true_eq_false, not_false_eq_true, Classical.not_not] at c_1 c_18 c_35 c_40 c_52 c_62
              all_goals omega
    · skip
      refine xw_go xb_129 4 (f1 := (27, [.ref 60, .int (nI 0), .int (nI w), .float 0, .float 0], [.long 5, .long 1, .long ((nI w).toInt64)])) (h1 := (xS b, I, L, xP b)) rfl trivial ?_
      refine xw_call xb_129 rfl rfl rfl rfl rfl (Or.inl rfl) m_in ?_
      rintro _ _ ⟨rfl, rfl⟩
      refine xw_at (f' := (30, [.ref 60, .int (nI 0), .int (nI w), .float 0, .float 0], [.int (nI (xB (decide ((1 : Int64).toInt ≤ (nI w).toInt64.toInt ∧ (nI w).toInt64.toInt ≤ (5 : Int64).toInt))))])) (h' := (xS b, I, L, xP b)) rfl rfl ?_
      refine xw_go xb_129 4 (f1 := (if ¬ (nI (xB (decide ((1 : Int64).toInt ≤ (nI w).toInt64.toInt ∧ (nI w).toInt64.toInt ≤ (5 : Int64).toInt)))) = 0 then 67 else 65, [.ref 60, .int (nI 0), .int (nI w), .int (nI (xB (decide ((1 : Int64).toInt ≤ (nI w).toInt64.toInt ∧ (nI w).toInt64.toInt ≤ (5 : Int64).toInt)))), .float 0], [])) (h1 := (xS b, I, L, xP b)) rfl trivial ?_
      refine xw_if (fun c_62 => ?_) (fun c_62 => ?_)
      · skip
        refine xw_go xb_129 15 (f1 := (88, [.ref 60, .int (nI 0), .int (nI w), .int (nI (xB (decide ((1 : Int64).toInt ≤ (nI w).toInt64.toInt ∧ (nI w).toInt64.toInt ≤ (5 : Int64).toInt)))), .int (I 61 (5 + (nI 0)).toNatClampNeg)], [.int (I 61 (5 + (nI 0)).toNatClampNeg)])) (h1 := (xS b, xm_up I 61 (5 + (nI 0)).toNatClampNeg (nI w), L, xP b)) rfl ⟨rfl, (xn_ar' (n := 5) (N := 159) rfl (show 5 + nI 0 = _ by rw [xl_5, nI_add]) (by omega) (by decide)), rfl, (xn_ar' (n := 5) (N := 159) rfl (show 5 + nI 0 = _ by rw [xl_5, nI_add]) (by omega) (by decide)), trivial⟩ ?_
        refine xw_ret xb_129 rfl rfl trivial ?_
        rw [show (5 : Int32) + nI 0 = nI 5 from (by rw [xl_5, nI_add]), xn_cl (by omega)]
        exact ⟨xm_some (congrArg Value.int (hM.1 5 (by decide))), _, rfl, xMF_u (xMF_r I) (Or.inl rfl), xML_N hM (xMN_u hM.1 rfl rfl) rfl rfl⟩
      · skip
        exfalso
        try simp only [xB_dec, Classical.not_not] at c_1 c_18 c_62
        try simp (disch := omega) only [xt_eq, xt_lt, xt_le, xkt_0, xkt_1, xkt_2, xkt_3, xkt_4, xkt_5, xkt_6, xkt_7, xkt_8, xkt_9, xkt_10, xkt_11, xkt_12, xkt_13, xkt_14, xkt_16, xkt_20, xkt_24, xkt_31, xkt_32, xkt_40, xkt_44, xkt_47, xkt_48, xkt_57, xkt_59, xkt_60, xkt_63, xkt_64, xkt_65, xkt_72, xkt_95, xkt_99, xkt_100, xkt_101, xkt_103, xkt_110, xkt_112, xkt_113, xkt_114, xkt_119, xkt_126, xkt_159, xkt_576, xkt_999, xkt_9999, xkt_65536, xkt_999999, xkt_m1, xkt_m2, xkt_m3, xkt_m4, xkt_m11, xkt_m12, xkt_m13, xkt_m14, xkt_m20, xjt_0, xjt_1, xjt_2, xjt_3, xjt_4, xjt_5, xjt_6, xjt_7, xjt_8, xjt_9, xjt_10, xjt_11, xjt_12, xjt_13, xjt_14, xjt_16, xjt_20, xjt_24, xjt_31, xjt_32, xjt_40, xjt_44, xjt_47, xjt_48, xjt_57, xjt_59, xjt_60, xjt_63, xjt_64, xjt_65, xjt_72, xjt_95, xjt_99, xjt_100, xjt_101, xjt_103, xjt_110, xjt_112, xjt_113, xjt_114, xjt_119, xjt_126, xjt_159, xjt_576, xjt_999, xjt_9999, xjt_65536, xjt_999999, xt64, xt_n, not_true_eq_false, not_false_eq_true, Classical.not_not] at c_1 c_18 c_62
        all_goals omega
  · skip
    refine xw_go xb_129 4 (f1 := (10, [.ref 60, .int (nI 0), .int (nI w), .float 0, .float 0], [.long 3, .long 0, .long ((nI w).toInt64)])) (h1 := (xS b, I, L, xP b)) rfl trivial ?_
    refine xw_call xb_129 rfl rfl rfl rfl rfl (Or.inl rfl) m_in ?_
    rintro _ _ ⟨rfl, rfl⟩
    refine xw_at (f' := (13, [.ref 60, .int (nI 0), .int (nI w), .float 0, .float 0], [.int (nI (xB (decide ((0 : Int64).toInt ≤ (nI w).toInt64.toInt ∧ (nI w).toInt64.toInt ≤ (3 : Int64).toInt))))])) (h' := (xS b, I, L, xP b)) rfl rfl ?_
    refine xw_go xb_129 4 (f1 := (if ¬ (nI (xB (decide ((0 : Int64).toInt ≤ (nI w).toInt64.toInt ∧ (nI w).toInt64.toInt ≤ (3 : Int64).toInt)))) = 0 then 67 else 65, [.ref 60, .int (nI 0), .int (nI w), .int (nI (xB (decide ((0 : Int64).toInt ≤ (nI w).toInt64.toInt ∧ (nI w).toInt64.toInt ≤ (3 : Int64).toInt)))), .float 0], [])) (h1 := (xS b, I, L, xP b)) rfl trivial ?_
    refine xw_if (fun c_62 => ?_) (fun c_62 => ?_)
    · skip
      refine xw_go xb_129 15 (f1 := (88, [.ref 60, .int (nI 0), .int (nI w), .int (nI (xB (decide ((0 : Int64).toInt ≤ (nI w).toInt64.toInt ∧ (nI w).toInt64.toInt ≤ (3 : Int64).toInt)))), .int (I 61 (5 + (nI 0)).toNatClampNeg)], [.int (I 61 (5 + (nI 0)).toNatClampNeg)])) (h1 := (xS b, xm_up I 61 (5 + (nI 0)).toNatClampNeg (nI w), L, xP b)) rfl ⟨rfl, (xn_ar' (n := 5) (N := 159) rfl (show 5 + nI 0 = _ by rw [xl_5, nI_add]) (by omega) (by decide)), rfl, (xn_ar' (n := 5) (N := 159) rfl (show 5 + nI 0 = _ by rw [xl_5, nI_add]) (by omega) (by decide)), trivial⟩ ?_
      refine xw_ret xb_129 rfl rfl trivial ?_
      rw [show (5 : Int32) + nI 0 = nI 5 from (by rw [xl_5, nI_add]), xn_cl (by omega)]
      exact ⟨xm_some (congrArg Value.int (hM.1 5 (by decide))), _, rfl, xMF_u (xMF_r I) (Or.inl rfl), xML_N hM (xMN_u hM.1 rfl rfl) rfl rfl⟩
    · skip
      exfalso
      try simp only [xB_dec, Classical.not_not] at c_1 c_62
      try simp (disch := omega) only [xt_eq, xt_lt, xt_le, xkt_0, xkt_1, xkt_2, xkt_3, xkt_4, xkt_5, xkt_6, xkt_7, xkt_8, xkt_9, xkt_10, xkt_11, xkt_12, xkt_13, xkt_14, xkt_16, xkt_20, xkt_24, xkt_31, xkt_32, xkt_40, xkt_44, xkt_47, xkt_48, xkt_57, xkt_59, xkt_60, xkt_63, xkt_64, xkt_65, xkt_72, xkt_95, xkt_99, xkt_100, xkt_101, xkt_103, xkt_110, xkt_112, xkt_113, xkt_114, xkt_119, xkt_126, xkt_159, xkt_576, xkt_999, xkt_9999, xkt_65536, xkt_999999, xkt_m1, xkt_m2, xkt_m3, xkt_m4, xkt_m11, xkt_m12, xkt_m13, xkt_m14, xkt_m20, xjt_0, xjt_1, xjt_2, xjt_3, xjt_4, xjt_5, xjt_6, xjt_7, xjt_8, xjt_9, xjt_10, xjt_11, xjt_12, xjt_13, xjt_14, xjt_16, xjt_20, xjt_24, xjt_31, xjt_32, xjt_40, xjt_44, xjt_47, xjt_48, xjt_57, xjt_59, xjt_60, xjt_63, xjt_64, xjt_65, xjt_72, xjt_95, xjt_99, xjt_100, xjt_101, xjt_103, xjt_110, xjt_112, xjt_113, xjt_114, xjt_119, xjt_126, xjt_159, xjt_576, xjt_999, xjt_9999, xjt_65536, xjt_999999, xt64, xt_n, not_true_eq_false, not_false_eq_true, Classical.not_not] at c_1 c_62
      all_goals omega

theorem m_rule11 {d : Nat} {b : Bool} {I : Nat → Nat → Int32} {L : Nat → Nat → Int64} {N : Nat → Nat} {u : Nat} {U : Nat → Nat → Nat} (hM : xML N u U I) (hK : xUK N u U) {w : Nat} (hw : 1 ≤ w ∧ w ≤ 5) {x : Int32} (e_x : x = nI 1) {y : Int32} (e_y : y = nI w) : xm_Z (d + 2) 129 [.ref 60, .int x, .int y] (xS b, I, L, xP b) (fun rz hz => xQM b I L (nI (N 6)) (va_up N 6 w) u U rz hz) := by
  subst e_x
  subst e_y
  refine xw_S xb_129 (l := [.ref 60, .int (nI 1), .int (nI w), .float 0, .float 0]) (Nat.le_of_ble_eq_true rfl) rfl ?_
  refine xw_go xb_129 2 (f1 := (if ¬ (nI 1) = 0 then 16 else 4, [.ref 60, .int (nI 1), .int (nI w), .float 0, .float 0], [])) (h1 := (xS b, I, L, xP b)) rfl trivial ?_
  refine xw_if (fun c_1 => ?_) (fun c_1 => ?_)
  · skip
    refine xw_go xb_129 3 (f1 := (if ¬ (nI 1) = 1 then 33 else 21, [.ref 60, .int (nI 1), .int (nI w), .float 0, .float 0], [])) (h1 := (xS b, I, L, xP b)) rfl trivial ?_
    refine xw_if (fun c_18 => ?_) (fun c_18 => ?_)
    · skip
      refine xw_go xb_129 3 (f1 := (if (nI 1) = 2 then 43 else 38, [.ref 60, .int (nI 1), .int (nI w), .float 0, .float 0], [])) (h1 := (xS b, I, L, xP b)) rfl trivial ?_
      refine xw_if (fun c_35 => ?_) (fun c_35 => ?_)
      · skip
        refine xw_go xb_129 4 (f1 := (49, [.ref 60, .int (nI 1), .int (nI w), .float 0, .float 0], [.long 999, .long 0, .long ((nI w).toInt64)])) (h1 := (xS b, I, L, xP b)) rfl trivial ?_
        refine xw_call xb_129 rfl rfl rfl rfl rfl (Or.inl rfl) m_in ?_
        rintro _ _ ⟨rfl, rfl⟩
        refine xw_at (f' := (52, [.ref 60, .int (nI 1), .int (nI w), .float 0, .float 0], [.int (nI (xB (decide ((0 : Int64).toInt ≤ (nI w).toInt64.toInt ∧ (nI w).toInt64.toInt ≤ (999 : Int64).toInt))))])) (h' := (xS b, I, L, xP b)) rfl rfl ?_
        refine xw_go xb_129 1 (f1 := (if (nI (xB (decide ((0 : Int64).toInt ≤ (nI w).toInt64.toInt ∧ (nI w).toInt64.toInt ≤ (999 : Int64).toInt)))) = 0 then 59 else 55, [.ref 60, .int (nI 1), .int (nI w), .float 0, .float 0], [])) (h1 := (xS b, I, L, xP b)) rfl trivial ?_
        refine xw_if (fun c_52 => ?_) (fun c_52 => ?_)
        · skip
          refine xw_go xb_129 4 (f1 := (if ¬ 0 = 0 then 67 else 65, [.ref 60, .int (nI 1), .int (nI w), .int 0, .float 0], [])) (h1 := (xS b, I, L, xP b)) rfl trivial ?_
          refine xw_if (fun c_62 => ?_) (fun c_62 => ?_)
          · skip
            refine xw_go xb_129 15 (f1 := (88, [.ref 60, .int (nI 1), .int (nI w), .int 0, .int (I 61 (5 + (nI 1)).toNatClampNeg)], [.int (I 61 (5 + (nI 1)).toNatClampNeg)])) (h1 := (xS b, xm_up I 61 (5 + (nI 1)).toNatClampNeg (nI w), L, xP b)) rfl ⟨rfl, (xn_ar' (n := 6) (N := 159) rfl (show 5 + nI 1 = _ by rw [xl_5, nI_add]) (by omega) (by decide)), rfl, (xn_ar' (n := 6) (N := 159) rfl (show 5 + nI 1 = _ by rw [xl_5, nI_add]) (by omega) (by decide)), trivial⟩ ?_
            refine xw_ret xb_129 rfl rfl trivial ?_
            rw [show (5 : Int32) + nI 1 = nI 6 from (by rw [xl_5, nI_add]), xn_cl (by omega)]
            exact ⟨xm_some (congrArg Value.int (hM.1 6 (by decide))), _, rfl, xMF_u (xMF_r I) (Or.inl rfl), xML_N hM (xMN_u hM.1 rfl rfl) rfl rfl⟩
          · skip
            exfalso
            try simp only [xB_dec, Classical.not_not] at c_1 c_18 c_35 c_52 c_62
            try simp (disch := omega) only [xt_eq, xt_lt, xt_le, xkt_0, xkt_1, xkt_2, xkt_3, xkt_4, xkt_5, xkt_6, xkt_7, xkt_8, xkt_9, xkt_10, xkt_11, xkt_12, xkt_13, xkt_14, xkt_16, xkt_20, xkt_24, xkt_31, xkt_32, xkt_40, xkt_44, xkt_47, xkt_48, xkt_57, xkt_59, xkt_60, xkt_63, xkt_64, xkt_65, xkt_72, xkt_95, xkt_99, xkt_100, xkt_101, xkt_103, xkt_110, xkt_112, xkt_113, xkt_114, xkt_119, xkt_126, xkt_159, xkt_576, xkt_999, xkt_9999, xkt_65536, xkt_999999, xkt_m1, xkt_m2, xkt_m3, xkt_m4, xkt_m11, xkt_m12, xkt_m13, xkt_m14, xkt_m20, xjt_0, xjt_1, xjt_2, xjt_3, xjt_4, xjt_5, xjt_6, xjt_7, xjt_8, xjt_9, xjt_10, xjt_11, xjt_12, xjt_13, xjt_14, xjt_16, xjt_20, xjt_24, xjt_31, xjt_32, xjt_40, xjt_44, xjt_47, xjt_48, xjt_57, xjt_59, xjt_60, xjt_63, xjt_64, xjt_65, xjt_72, xjt_95, xjt_99, xjt_100, xjt_101, xjt_103, xjt_110, xjt_112, xjt_113, xjt_114, xjt_119, xjt_126, xjt_159, xjt_576, xjt_999, xjt_9999, xjt_65536, xjt_999999, xt64, xt_n, not_true_eq_false, not_false_eq_true, Classical.not_not] at c_1 c_18 c_35 c_52 c_62
            all_goals omega
        · skip
          refine xw_go xb_129 5 (f1 := (if ¬ 1 = 0 then 67 else 65, [.ref 60, .int (nI 1), .int (nI w), .int 1, .float 0], [])) (h1 := (xS b, I, L, xP b)) rfl trivial ?_
          refine xw_if (fun c_62 => ?_) (fun c_62 => ?_)
          · skip
            refine xw_go xb_129 15 (f1 := (88, [.ref 60, .int (nI 1), .int (nI w), .int 1, .int (I 61 (5 + (nI 1)).toNatClampNeg)], [.int (I 61 (5 + (nI 1)).toNatClampNeg)])) (h1 := (xS b, xm_up I 61 (5 + (nI 1)).toNatClampNeg (nI w), L, xP b)) rfl ⟨rfl, (xn_ar' (n := 6) (N := 159) rfl (show 5 + nI 1 = _ by rw [xl_5, nI_add]) (by omega) (by decide)), rfl, (xn_ar' (n := 6) (N := 159) rfl (show 5 + nI 1 = _ by rw [xl_5, nI_add]) (by omega) (by decide)), trivial⟩ ?_
            refine xw_ret xb_129 rfl rfl trivial ?_
            rw [show (5 : Int32) + nI 1 = nI 6 from (by rw [xl_5, nI_add]), xn_cl (by omega)]
            exact ⟨xm_some (congrArg Value.int (hM.1 6 (by decide))), _, rfl, xMF_u (xMF_r I) (Or.inl rfl), xML_N hM (xMN_u hM.1 rfl rfl) rfl rfl⟩
          · skip
            exfalso
            try simp only [xB_dec, Classical.not_not] at c_1 c_18 c_35 c_52 c_62
            try simp (disch := omega) only [xt_eq, xt_lt, xt_le, xkt_0, xkt_1, xkt_2, xkt_3, xkt_4, xkt_5, xkt_6, xkt_7, xkt_8, xkt_9, xkt_10, xkt_11, xkt_12, xkt_13, xkt_14, xkt_16, xkt_20, xkt_24, xkt_31, xkt_32, xkt_40, xkt_44, xkt_47, xkt_48, xkt_57, xkt_59, xkt_60, xkt_63, xkt_64, xkt_65, xkt_72, xkt_95, xkt_99, xkt_100, xkt_101, xkt_103, xkt_110, xkt_112, xkt_113, xkt_114, xkt_119, xkt_126, xkt_159, xkt_576, xkt_999, xkt_9999, xkt_65536, xkt_999999, xkt_m1, xkt_m2, xkt_m3, xkt_m4, xkt_m11, xkt_m12, xkt_m13, xkt_m14, xkt_m20, xjt_0, xjt_1, xjt_2, xjt_3, xjt_4, xjt_5, xjt_6, xjt_7, xjt_8, xjt_9, xjt_10, xjt_11, xjt_12, xjt_13, xjt_14, xjt_16, xjt_20, xjt_24, xjt_31, xjt_32, xjt_40, xjt_44, xjt_47, xjt_48, xjt_57, xjt_59, xjt_60, xjt_63, xjt_64, xjt_65, xjt_72, xjt_95, xjt_99, xjt_100, xjt_101, xjt_103, xjt_110, xjt_112, xjt_113, xjt_114, xjt_119, xjt_126, xjt_159, xjt_576, xjt_999, xjt_9999, xjt_65536, xjt_999999, xt64, xt_n, not_true_eq_false, not_false_eq_true, Classical.not_not] at c_1 c_18 c_35 c_52 c_62
            all_goals omega
      · skip
        refine xw_go xb_129 3 (f1 := (if ¬ (nI 1) = 3 then 59 else 43, [.ref 60, .int (nI 1), .int (nI w), .float 0, .float 0], [])) (h1 := (xS b, I, L, xP b)) rfl trivial ?_
        refine xw_if (fun c_40 => ?_) (fun c_40 => ?_)
        · skip
          refine xw_go xb_129 4 (f1 := (if ¬ 0 = 0 then 67 else 65, [.ref 60, .int (nI 1), .int (nI w), .int 0, .float 0], [])) (h1 := (xS b, I, L, xP b)) rfl trivial ?_
          refine xw_if (fun c_62 => ?_) (fun c_62 => ?_)
          · skip
            refine xw_go xb_129 15 (f1 := (88, [.ref 60, .int (nI 1), .int (nI w), .int 0, .int (I 61 (5 + (nI 1)).toNatClampNeg)], [.int (I 61 (5 + (nI 1)).toNatClampNeg)])) (h1 := (xS b, xm_up I 61 (5 + (nI 1)).toNatClampNeg (nI w), L, xP b)) rfl ⟨rfl, (xn_ar' (n := 6) (N := 159) rfl (show 5 + nI 1 = _ by rw [xl_5, nI_add]) (by omega) (by decide)), rfl, (xn_ar' (n := 6) (N := 159) rfl (show 5 + nI 1 = _ by rw [xl_5, nI_add]) (by omega) (by decide)), trivial⟩ ?_
            refine xw_ret xb_129 rfl rfl trivial ?_
            rw [show (5 : Int32) + nI 1 = nI 6 from (by rw [xl_5, nI_add]), xn_cl (by omega)]
            exact ⟨xm_some (congrArg Value.int (hM.1 6 (by decide))), _, rfl, xMF_u (xMF_r I) (Or.inl rfl), xML_N hM (xMN_u hM.1 rfl rfl) rfl rfl⟩
          · skip
            exfalso
            try simp only [xB_dec, Classical.not_not] at c_1 c_18 c_35 c_40 c_62
            try simp (disch := omega) only [xt_eq, xt_lt, xt_le, xkt_0, xkt_1, xkt_2, xkt_3, xkt_4, xkt_5, xkt_6, xkt_7, xkt_8, xkt_9, xkt_10, xkt_11, xkt_12, xkt_13, xkt_14, xkt_16, xkt_20, xkt_24, xkt_31, xkt_32, xkt_40, xkt_44, xkt_47, xkt_48, xkt_57, xkt_59, xkt_60, xkt_63, xkt_64, xkt_65, xkt_72, xkt_95, xkt_99, xkt_100, xkt_101, xkt_103, xkt_110, xkt_112, xkt_113, xkt_114, xkt_119, xkt_126, xkt_159, xkt_576, xkt_999, xkt_9999, xkt_65536, xkt_999999, xkt_m1, xkt_m2, xkt_m3, xkt_m4, xkt_m11, xkt_m12, xkt_m13, xkt_m14, xkt_m20, xjt_0, xjt_1, xjt_2, xjt_3, xjt_4, xjt_5, xjt_6, xjt_7, xjt_8, xjt_9, xjt_10, xjt_11, xjt_12, xjt_13, xjt_14, xjt_16, xjt_20, xjt_24, xjt_31, xjt_32, xjt_40, xjt_44, xjt_47, xjt_48, xjt_57, xjt_59, xjt_60, xjt_63, xjt_64, xjt_65, xjt_72, xjt_95, xjt_99, xjt_100, xjt_101, xjt_103, xjt_110, xjt_112, xjt_113, xjt_114, xjt_119, xjt_126, xjt_159, xjt_576, xjt_999, xjt_9999, xjt_65536, xjt_999999, xt64, xt_n, not_true_eq_false, not_false_eq_true, Classical.not_not] at c_1 c_18 c_35 c_40 c_62
            all_goals omega
        · skip
          refine xw_go xb_129 4 (f1 := (49, [.ref 60, .int (nI 1), .int (nI w), .float 0, .float 0], [.long 999, .long 0, .long ((nI w).toInt64)])) (h1 := (xS b, I, L, xP b)) rfl trivial ?_
          refine xw_call xb_129 rfl rfl rfl rfl rfl (Or.inl rfl) m_in ?_
          rintro _ _ ⟨rfl, rfl⟩
          refine xw_at (f' := (52, [.ref 60, .int (nI 1), .int (nI w), .float 0, .float 0], [.int (nI (xB (decide ((0 : Int64).toInt ≤ (nI w).toInt64.toInt ∧ (nI w).toInt64.toInt ≤ (999 : Int64).toInt))))])) (h' := (xS b, I, L, xP b)) rfl rfl ?_
          refine xw_go xb_129 1 (f1 := (if (nI (xB (decide ((0 : Int64).toInt ≤ (nI w).toInt64.toInt ∧ (nI w).toInt64.toInt ≤ (999 : Int64).toInt)))) = 0 then 59 else 55, [.ref 60, .int (nI 1), .int (nI w), .float 0, .float 0], [])) (h1 := (xS b, I, L, xP b)) rfl trivial ?_
          refine xw_if (fun c_52 => ?_) (fun c_52 => ?_)
          · skip
            refine xw_go xb_129 4 (f1 := (if ¬ 0 = 0 then 67 else 65, [.ref 60, .int (nI 1), .int (nI w), .int 0, .float 0], [])) (h1 := (xS b, I, L, xP b)) rfl trivial ?_
            refine xw_if (fun c_62 => ?_) (fun c_62 => ?_)
            · skip
              refine xw_go xb_129 15 (f1 := (88, [.ref 60, .int (nI 1), .int (nI w), .int 0, .int (I 61 (5 + (nI 1)).toNatClampNeg)], [.int (I 61 (5 + (nI 1)).toNatClampNeg)])) (h1 := (xS b, xm_up I 61 (5 + (nI 1)).toNatClampNeg (nI w), L, xP b)) rfl ⟨rfl, (xn_ar' (n := 6) (N := 159) rfl (show 5 + nI 1 = _ by rw [xl_5, nI_add]) (by omega) (by decide)), rfl, (xn_ar' (n := 6) (N := 159) rfl (show 5 + nI 1 = _ by rw [xl_5, nI_add]) (by omega) (by decide)), trivial⟩ ?_
              refine xw_ret xb_129 rfl rfl trivial ?_
              rw [show (5 : Int32) + nI 1 = nI 6 from (by rw [xl_5, nI_add]), xn_cl (by omega)]
              exact ⟨xm_some (congrArg Value.int (hM.1 6 (by decide))), _, rfl, xMF_u (xMF_r I) (Or.inl rfl), xML_N hM (xMN_u hM.1 rfl rfl) rfl rfl⟩
            · skip
              exfalso
              try simp only [xB_dec, Classical.not_not] at c_1 c_18 c_35 c_40 c_52 c_62
              try simp (disch := omega) only [xt_eq, xt_lt, xt_le, xkt_0, xkt_1, xkt_2, xkt_3, xkt_4, xkt_5, xkt_6, xkt_7, xkt_8, xkt_9, xkt_10, xkt_11, xkt_12, xkt_13, xkt_14, xkt_16, xkt_20, xkt_24, xkt_31, xkt_32, xkt_40, xkt_44, xkt_47, xkt_48, xkt_57, xkt_59, xkt_60, xkt_63, xkt_64, xkt_65, xkt_72, xkt_95, xkt_99, xkt_100, xkt_101, xkt_103, xkt_110, xkt_112, xkt_113, xkt_114, xkt_119, xkt_126, xkt_159, xkt_576, xkt_999, xkt_9999, xkt_65536, xkt_999999, xkt_m1, xkt_m2, xkt_m3, xkt_m4, xkt_m11, xkt_m12, xkt_m13, xkt_m14, xkt_m20, xjt_0, xjt_1, xjt_2, xjt_3, xjt_4, xjt_5, xjt_6, xjt_7, xjt_8, xjt_9, xjt_10, xjt_11, xjt_12, xjt_13, xjt_14, xjt_16, xjt_20, xjt_24, xjt_31, xjt_32, xjt_40, xjt_44, xjt_47, xjt_48, xjt_57, xjt_59, xjt_60, xjt_63, xjt_64, xjt_65, xjt_72, xjt_95, xjt_99, xjt_100, xjt_101, xjt_103, xjt_110, xjt_112, xjt_113, xjt_114, xjt_119, xjt_126, xjt_159, xjt_576, xjt_999, xjt_9999, xjt_65536, xjt_999999, xt64, xt_n, not_true_eq_false, not_false_eq_true, Classical.not_not] at c_1 c_18 c_35 c_40 c_52 c_62
              all_goals omega
          · skip
            refine xw_go xb_129 5 (f1 := (if ¬ 1 = 0 then 67 else 65, [.ref 60, .int (nI 1), .int (nI w), .int 1, .float 0], [])) (h1 := (xS b, I, L, xP b)) rfl trivial ?_
            refine xw_if (fun c_62 => ?_) (fun c_62 => ?_)
            · skip
              refine xw_go xb_129 15 (f1 := (88, [.ref 60, .int (nI 1), .int (nI w), .int 1, .int (I 61 (5 + (nI 1)).toNatClampNeg)], [.int (I 61 (5 + (nI 1)).toNatClampNeg)])) (h1 := (xS b, xm_up I 61 (5 + (nI 1)).toNatClampNeg (nI w), L, xP b)) rfl ⟨rfl, (xn_ar' (n := 6) (N := 159) rfl (show 5 + nI 1 = _ by rw [xl_5, nI_add]) (by omega) (by decide)), rfl, (xn_ar' (n := 6) (N := 159) rfl (show 5 + nI 1 = _ by rw [xl_5, nI_add]) (by omega) (by decide)), trivial⟩ ?_
              refine xw_ret xb_129 rfl rfl trivial ?_
              rw [show (5 : Int32) + nI 1 = nI 6 from (by rw [xl_5, nI_add]), xn_cl (by omega)]
              exact ⟨xm_some (congrArg Value.int (hM.1 6 (by decide))), _, rfl, xMF_u (xMF_r I) (Or.inl rfl), xML_N hM (xMN_u hM.1 rfl rfl) rfl rfl⟩
            · skip
              exfalso
              try simp only [xB_dec, Classical.not_not] at c_1 c_18 c_35 c_40 c_52 c_62
              try simp (disch := omega) only [xt_eq, xt_lt, xt_le, xkt_0, xkt_1, xkt_2, xkt_3, xkt_4, xkt_5, xkt_6, xkt_7, xkt_8, xkt_9, xkt_10, xkt_11, xkt_12, xkt_13, xkt_14, xkt_16, xkt_20, xkt_24, xkt_31, xkt_32, xkt_40, xkt_44, xkt_47, xkt_48, xkt_57, xkt_59, xkt_60, xkt_63, xkt_64, xkt_65, xkt_72, xkt_95, xkt_99, xkt_100, xkt_101, xkt_103, xkt_110, xkt_112, xkt_113, xkt_114, xkt_119, xkt_126, xkt_159, xkt_576, xkt_999, xkt_9999, xkt_65536, xkt_999999, xkt_m1, xkt_m2, xkt_m3, xkt_m4, xkt_m11, xkt_m12, xkt_m13, xkt_m14, xkt_m20, xjt_0, xjt_1, xjt_2, xjt_3, xjt_4, xjt_5, xjt_6, xjt_7, xjt_8, xjt_9, xjt_10, xjt_11, xjt_12, xjt_13, xjt_14, xjt_16, xjt_20, xjt_24, xjt_31, xjt_32, xjt_40, xjt_44, xjt_47, xjt_48, xjt_57, xjt_59, xjt_60, xjt_63, xjt_64, xjt_65, xjt_72, xjt_95, xjt_99, xjt_100, xjt_101, xjt_103, xjt_110, xjt_112, xjt_113, xjt_114, xjt_119, xjt_126, xjt_159, xjt_576, xjt_999, xjt_9999, xjt_65536, xjt_999999, xt64, xt_n, not_true_eq_false, not_false_eq_true, Classical.not_not] at c_1 c_18 c_35 c_40 c_52 c_62
              all_goals omega
    · skip
      refine xw_go xb_129 4 (f1 := (27, [.ref 60, .int (nI 1), .int (nI w), .float 0, .float 0], [.long 5, .long 1, .long ((nI w).toInt64)])) (h1 := (xS b, I, L, xP b)) rfl trivial ?_
      refine xw_call xb_129 rfl rfl rfl rfl rfl (Or.inl rfl) m_in ?_
      rintro _ _ ⟨rfl, rfl⟩
      refine xw_at (f' := (30, [.ref 60, .int (nI 1), .int (nI w), .float 0, .float 0], [.int (nI (xB (decide ((1 : Int64).toInt ≤ (nI w).toInt64.toInt ∧ (nI w).toInt64.toInt ≤ (5 : Int64).toInt))))])) (h' := (xS b, I, L, xP b)) rfl rfl ?_
      refine xw_go xb_129 4 (f1 := (if ¬ (nI (xB (decide ((1 : Int64).toInt ≤ (nI w).toInt64.toInt ∧ (nI w).toInt64.toInt ≤ (5 : Int64).toInt)))) = 0 then 67 else 65, [.ref 60, .int (nI 1), .int (nI w), .int (nI (xB (decide ((1 : Int64).toInt ≤ (nI w).toInt64.toInt ∧ (nI w).toInt64.toInt ≤ (5 : Int64).toInt)))), .float 0], [])) (h1 := (xS b, I, L, xP b)) rfl trivial ?_
      refine xw_if (fun c_62 => ?_) (fun c_62 => ?_)
      · skip
        refine xw_go xb_129 15 (f1 := (88, [.ref 60, .int (nI 1), .int (nI w), .int (nI (xB (decide ((1 : Int64).toInt ≤ (nI w).toInt64.toInt ∧ (nI w).toInt64.toInt ≤ (5 : Int64).toInt)))), .int (I 61 (5 + (nI 1)).toNatClampNeg)], [.int (I 61 (5 + (nI 1)).toNatClampNeg)])) (h1 := (xS b, xm_up I 61 (5 + (nI 1)).toNatClampNeg (nI w), L, xP b)) rfl ⟨rfl, (xn_ar' (n := 6) (N := 159) rfl (show 5 + nI 1 = _ by rw [xl_5, nI_add]) (by omega) (by decide)), rfl, (xn_ar' (n := 6) (N := 159) rfl (show 5 + nI 1 = _ by rw [xl_5, nI_add]) (by omega) (by decide)), trivial⟩ ?_
        refine xw_ret xb_129 rfl rfl trivial ?_
        rw [show (5 : Int32) + nI 1 = nI 6 from (by rw [xl_5, nI_add]), xn_cl (by omega)]
        exact ⟨xm_some (congrArg Value.int (hM.1 6 (by decide))), _, rfl, xMF_u (xMF_r I) (Or.inl rfl), xML_N hM (xMN_u hM.1 rfl rfl) rfl rfl⟩
      · skip
        exfalso
        try simp only [xB_dec, Classical.not_not] at c_1 c_18 c_62
        try simp (disch := omega) only [xt_eq, xt_lt, xt_le, xkt_0, xkt_1, xkt_2, xkt_3, xkt_4, xkt_5, xkt_6, xkt_7, xkt_8, xkt_9, xkt_10, xkt_11, xkt_12, xkt_13, xkt_14, xkt_16, xkt_20, xkt_24, xkt_31, xkt_32, xkt_40, xkt_44, xkt_47, xkt_48, xkt_57, xkt_59, xkt_60, xkt_63, xkt_64, xkt_65, xkt_72, xkt_95, xkt_99, xkt_100, xkt_101, xkt_103, xkt_110, xkt_112, xkt_113, xkt_114, xkt_119, xkt_126, xkt_159, xkt_576, xkt_999, xkt_9999, xkt_65536, xkt_999999, xkt_m1, xkt_m2, xkt_m3, xkt_m4, xkt_m11, xkt_m12, xkt_m13, xkt_m14, xkt_m20, xjt_0, xjt_1, xjt_2, xjt_3, xjt_4, xjt_5, xjt_6, xjt_7, xjt_8, xjt_9, xjt_10, xjt_11, xjt_12, xjt_13, xjt_14, xjt_16, xjt_20, xjt_24, xjt_31, xjt_32, xjt_40, xjt_44, xjt_47, xjt_48, xjt_57, xjt_59, xjt_60, xjt_63, xjt_64, xjt_65, xjt_72, xjt_95, xjt_99, xjt_100, xjt_101, xjt_103, xjt_110, xjt_112, xjt_113, xjt_114, xjt_119, xjt_126, xjt_159, xjt_576, xjt_999, xjt_9999, xjt_65536, xjt_999999, xt64, xt_n, not_true_eq_false, not_false_eq_true, Classical.not_not] at c_1 c_18 c_62
        all_goals omega
  · skip
    refine xw_go xb_129 4 (f1 := (10, [.ref 60, .int (nI 1), .int (nI w), .float 0, .float 0], [.long 3, .long 0, .long ((nI w).toInt64)])) (h1 := (xS b, I, L, xP b)) rfl trivial ?_
    refine xw_call xb_129 rfl rfl rfl rfl rfl (Or.inl rfl) m_in ?_
    rintro _ _ ⟨rfl, rfl⟩
    refine xw_at (f' := (13, [.ref 60, .int (nI 1), .int (nI w), .float 0, .float 0], [.int (nI (xB (decide ((0 : Int64).toInt ≤ (nI w).toInt64.toInt ∧ (nI w).toInt64.toInt ≤ (3 : Int64).toInt))))])) (h' := (xS b, I, L, xP b)) rfl rfl ?_
    refine xw_go xb_129 4 (f1 := (if ¬ (nI (xB (decide ((0 : Int64).toInt ≤ (nI w).toInt64.toInt ∧ (nI w).toInt64.toInt ≤ (3 : Int64).toInt)))) = 0 then 67 else 65, [.ref 60, .int (nI 1), .int (nI w), .int (nI (xB (decide ((0 : Int64).toInt ≤ (nI w).toInt64.toInt ∧ (nI w).toInt64.toInt ≤ (3 : Int64).toInt)))), .float 0], [])) (h1 := (xS b, I, L, xP b)) rfl trivial ?_
    refine xw_if (fun c_62 => ?_) (fun c_62 => ?_)
    · skip
      refine xw_go xb_129 15 (f1 := (88, [.ref 60, .int (nI 1), .int (nI w), .int (nI (xB (decide ((0 : Int64).toInt ≤ (nI w).toInt64.toInt ∧ (nI w).toInt64.toInt ≤ (3 : Int64).toInt)))), .int (I 61 (5 + (nI 1)).toNatClampNeg)], [.int (I 61 (5 + (nI 1)).toNatClampNeg)])) (h1 := (xS b, xm_up I 61 (5 + (nI 1)).toNatClampNeg (nI w), L, xP b)) rfl ⟨rfl, (xn_ar' (n := 6) (N := 159) rfl (show 5 + nI 1 = _ by rw [xl_5, nI_add]) (by omega) (by decide)), rfl, (xn_ar' (n := 6) (N := 159) rfl (show 5 + nI 1 = _ by rw [xl_5, nI_add]) (by omega) (by decide)), trivial⟩ ?_
      refine xw_ret xb_129 rfl rfl trivial ?_
      rw [show (5 : Int32) + nI 1 = nI 6 from (by rw [xl_5, nI_add]), xn_cl (by omega)]
      exact ⟨xm_some (congrArg Value.int (hM.1 6 (by decide))), _, rfl, xMF_u (xMF_r I) (Or.inl rfl), xML_N hM (xMN_u hM.1 rfl rfl) rfl rfl⟩
    · skip
      exfalso
      try simp only [xB_dec, Classical.not_not] at c_1 c_62
      try simp (disch := omega) only [xt_eq, xt_lt, xt_le, xkt_0, xkt_1, xkt_2, xkt_3, xkt_4, xkt_5, xkt_6, xkt_7, xkt_8, xkt_9, xkt_10, xkt_11, xkt_12, xkt_13, xkt_14, xkt_16, xkt_20, xkt_24, xkt_31, xkt_32, xkt_40, xkt_44, xkt_47, xkt_48, xkt_57, xkt_59, xkt_60, xkt_63, xkt_64, xkt_65, xkt_72, xkt_95, xkt_99, xkt_100, xkt_101, xkt_103, xkt_110, xkt_112, xkt_113, xkt_114, xkt_119, xkt_126, xkt_159, xkt_576, xkt_999, xkt_9999, xkt_65536, xkt_999999, xkt_m1, xkt_m2, xkt_m3, xkt_m4, xkt_m11, xkt_m12, xkt_m13, xkt_m14, xkt_m20, xjt_0, xjt_1, xjt_2, xjt_3, xjt_4, xjt_5, xjt_6, xjt_7, xjt_8, xjt_9, xjt_10, xjt_11, xjt_12, xjt_13, xjt_14, xjt_16, xjt_20, xjt_24, xjt_31, xjt_32, xjt_40, xjt_44, xjt_47, xjt_48, xjt_57, xjt_59, xjt_60, xjt_63, xjt_64, xjt_65, xjt_72, xjt_95, xjt_99, xjt_100, xjt_101, xjt_103, xjt_110, xjt_112, xjt_113, xjt_114, xjt_119, xjt_126, xjt_159, xjt_576, xjt_999, xjt_9999, xjt_65536, xjt_999999, xt64, xt_n, not_true_eq_false, not_false_eq_true, Classical.not_not] at c_1 c_62
      all_goals omega

theorem m_rule12 {d : Nat} {b : Bool} {I : Nat → Nat → Int32} {L : Nat → Nat → Int64} {N : Nat → Nat} {u : Nat} {U : Nat → Nat → Nat} (hM : xML N u U I) (hK : xUK N u U) {w : Nat} (hw : 0 ≤ w ∧ w ≤ 999) {x : Int32} (e_x : x = nI 2) {y : Int32} (e_y : y = nI w) : xm_Z (d + 2) 129 [.ref 60, .int x, .int y] (xS b, I, L, xP b) (fun rz hz => xQM b I L (nI (N 7)) (va_up N 7 w) u U rz hz) := by
  subst e_x
  subst e_y
  refine xw_S xb_129 (l := [.ref 60, .int (nI 2), .int (nI w), .float 0, .float 0]) (Nat.le_of_ble_eq_true rfl) rfl ?_
  refine xw_go xb_129 2 (f1 := (if ¬ (nI 2) = 0 then 16 else 4, [.ref 60, .int (nI 2), .int (nI w), .float 0, .float 0], [])) (h1 := (xS b, I, L, xP b)) rfl trivial ?_
  refine xw_if (fun c_1 => ?_) (fun c_1 => ?_)
  · skip
    refine xw_go xb_129 3 (f1 := (if ¬ (nI 2) = 1 then 33 else 21, [.ref 60, .int (nI 2), .int (nI w), .float 0, .float 0], [])) (h1 := (xS b, I, L, xP b)) rfl trivial ?_
    refine xw_if (fun c_18 => ?_) (fun c_18 => ?_)
    · skip
      refine xw_go xb_129 3 (f1 := (if (nI 2) = 2 then 43 else 38, [.ref 60, .int (nI 2), .int (nI w), .float 0, .float 0], [])) (h1 := (xS b, I, L, xP b)) rfl trivial ?_
      refine xw_if (fun c_35 => ?_) (fun c_35 => ?_)
      · skip
        refine xw_go xb_129 4 (f1 := (49, [.ref 60, .int (nI 2), .int (nI w), .float 0, .float 0], [.long 999, .long 0, .long ((nI w).toInt64)])) (h1 := (xS b, I, L, xP b)) rfl trivial ?_
        refine xw_call xb_129 rfl rfl rfl rfl rfl (Or.inl rfl) m_in ?_
        rintro _ _ ⟨rfl, rfl⟩
        refine xw_at (f' := (52, [.ref 60, .int (nI 2), .int (nI w), .float 0, .float 0], [.int (nI (xB (decide ((0 : Int64).toInt ≤ (nI w).toInt64.toInt ∧ (nI w).toInt64.toInt ≤ (999 : Int64).toInt))))])) (h' := (xS b, I, L, xP b)) rfl rfl ?_
        refine xw_go xb_129 1 (f1 := (if (nI (xB (decide ((0 : Int64).toInt ≤ (nI w).toInt64.toInt ∧ (nI w).toInt64.toInt ≤ (999 : Int64).toInt)))) = 0 then 59 else 55, [.ref 60, .int (nI 2), .int (nI w), .float 0, .float 0], [])) (h1 := (xS b, I, L, xP b)) rfl trivial ?_
        refine xw_if (fun c_52 => ?_) (fun c_52 => ?_)
        · skip
          refine xw_go xb_129 4 (f1 := (if ¬ 0 = 0 then 67 else 65, [.ref 60, .int (nI 2), .int (nI w), .int 0, .float 0], [])) (h1 := (xS b, I, L, xP b)) rfl trivial ?_
          refine xw_if (fun c_62 => ?_) (fun c_62 => ?_)
          · skip
            refine xw_go xb_129 15 (f1 := (88, [.ref 60, .int (nI 2), .int (nI w), .int 0, .int (I 61 (5 + (nI 2)).toNatClampNeg)], [.int (I 61 (5 + (nI 2)).toNatClampNeg)])) (h1 := (xS b, xm_up I 61 (5 + (nI 2)).toNatClampNeg (nI w), L, xP b)) rfl ⟨rfl, (xn_ar' (n := 7) (N := 159) rfl (show 5 + nI 2 = _ by rw [xl_5, nI_add]) (by omega) (by decide)), rfl, (xn_ar' (n := 7) (N := 159) rfl (show 5 + nI 2 = _ by rw [xl_5, nI_add]) (by omega) (by decide)), trivial⟩ ?_
            refine xw_ret xb_129 rfl rfl trivial ?_
            rw [show (5 : Int32) + nI 2 = nI 7 from (by rw [xl_5, nI_add]), xn_cl (by omega)]
            exact ⟨xm_some (congrArg Value.int (hM.1 7 (by decide))), _, rfl, xMF_u (xMF_r I) (Or.inl rfl), xML_N hM (xMN_u hM.1 rfl rfl) rfl rfl⟩
          · skip
            exfalso
            try simp only [xB_dec, Classical.not_not] at c_1 c_18 c_35 c_52 c_62
            try simp (disch := omega) only [xt_eq, xt_lt, xt_le, xkt_0, xkt_1, xkt_2, xkt_3, xkt_4, xkt_5, xkt_6, xkt_7, xkt_8, xkt_9, xkt_10, xkt_11, xkt_12, xkt_13, xkt_14, xkt_16, xkt_20, xkt_24, xkt_31, xkt_32, xkt_40, xkt_44, xkt_47, xkt_48, xkt_57, xkt_59, xkt_60, xkt_63, xkt_64, xkt_65, xkt_72, xkt_95, xkt_99, xkt_100, xkt_101, xkt_103, xkt_110, xkt_112, xkt_113, xkt_114, xkt_119, xkt_126, xkt_159, xkt_576, xkt_999, xkt_9999, xkt_65536, xkt_999999, xkt_m1, xkt_m2, xkt_m3, xkt_m4, xkt_m11, xkt_m12, xkt_m13, xkt_m14, xkt_m20, xjt_0, xjt_1, xjt_2, xjt_3, xjt_4, xjt_5, xjt_6, xjt_7, xjt_8, xjt_9, xjt_10, xjt_11, xjt_12, xjt_13, xjt_14, xjt_16, xjt_20, xjt_24, xjt_31, xjt_32, xjt_40, xjt_44, xjt_47, xjt_48, xjt_57, xjt_59, xjt_60, xjt_63, xjt_64, xjt_65, xjt_72, xjt_95, xjt_99, xjt_100, xjt_101, xjt_103, xjt_110, xjt_112, xjt_113, xjt_114, xjt_119, xjt_126, xjt_159, xjt_576, xjt_999, xjt_9999, xjt_65536, xjt_999999, xt64, xt_n, not_true_eq_false, not_false_eq_true, Classical.not_not] at c_1 c_18 c_35 c_52 c_62
            all_goals omega
        · skip
          refine xw_go xb_129 5 (f1 := (if ¬ 1 = 0 then 67 else 65, [.ref 60, .int (nI 2), .int (nI w), .int 1, .float 0], [])) (h1 := (xS b, I, L, xP b)) rfl trivial ?_
          refine xw_if (fun c_62 => ?_) (fun c_62 => ?_)
          · skip
            refine xw_go xb_129 15 (f1 := (88, [.ref 60, .int (nI 2), .int (nI w), .int 1, .int (I 61 (5 + (nI 2)).toNatClampNeg)], [.int (I 61 (5 + (nI 2)).toNatClampNeg)])) (h1 := (xS b, xm_up I 61 (5 + (nI 2)).toNatClampNeg (nI w), L, xP b)) rfl ⟨rfl, (xn_ar' (n := 7) (N := 159) rfl (show 5 + nI 2 = _ by rw [xl_5, nI_add]) (by omega) (by decide)), rfl, (xn_ar' (n := 7) (N := 159) rfl (show 5 + nI 2 = _ by rw [xl_5, nI_add]) (by omega) (by decide)), trivial⟩ ?_
            refine xw_ret xb_129 rfl rfl trivial ?_
            rw [show (5 : Int32) + nI 2 = nI 7 from (by rw [xl_5, nI_add]), xn_cl (by omega)]
            exact ⟨xm_some (congrArg Value.int (hM.1 7 (by decide))), _, rfl, xMF_u (xMF_r I) (Or.inl rfl), xML_N hM (xMN_u hM.1 rfl rfl) rfl rfl⟩
          · skip
            exfalso
            try simp only [xB_dec, Classical.not_not] at c_1 c_18 c_35 c_52 c_62
            try simp (disch := omega) only [xt_eq, xt_lt, xt_le, xkt_0, xkt_1, xkt_2, xkt_3, xkt_4, xkt_5, xkt_6, xkt_7, xkt_8, xkt_9, xkt_10, xkt_11, xkt_12, xkt_13, xkt_14, xkt_16, xkt_20, xkt_24, xkt_31, xkt_32, xkt_40, xkt_44, xkt_47, xkt_48, xkt_57, xkt_59, xkt_60, xkt_63, xkt_64, xkt_65, xkt_72, xkt_95, xkt_99, xkt_100, xkt_101, xkt_103, xkt_110, xkt_112, xkt_113, xkt_114, xkt_119, xkt_126, xkt_159, xkt_576, xkt_999, xkt_9999, xkt_65536, xkt_999999, xkt_m1, xkt_m2, xkt_m3, xkt_m4, xkt_m11, xkt_m12, xkt_m13, xkt_m14, xkt_m20, xjt_0, xjt_1, xjt_2, xjt_3, xjt_4, xjt_5, xjt_6, xjt_7, xjt_8, xjt_9, xjt_10, xjt_11, xjt_12, xjt_13, xjt_14, xjt_16, xjt_20, xjt_24, xjt_31, xjt_32, xjt_40, xjt_44, xjt_47, xjt_48, xjt_57, xjt_59, xjt_60, xjt_63, xjt_64, xjt_65, xjt_72, xjt_95, xjt_99, xjt_100, xjt_101, xjt_103, xjt_110, xjt_112, xjt_113, xjt_114, xjt_119, xjt_126, xjt_159, xjt_576, xjt_999, xjt_9999, xjt_65536, xjt_999999, xt64, xt_n, not_true_eq_false, not_false_eq_true, Classical.not_not] at c_1 c_18 c_35 c_52 c_62
            all_goals omega
      · skip
        refine xw_go xb_129 3 (f1 := (if ¬ (nI 2) = 3 then 59 else 43, [.ref 60, .int (nI 2), .int (nI w), .float 0, .float 0], [])) (h1 := (xS b, I, L, xP b)) rfl trivial ?_
        refine xw_if (fun c_40 => ?_) (fun c_40 => ?_)
        · skip
          refine xw_go xb_129 4 (f1 := (if ¬ 0 = 0 then 67 else 65, [.ref 60, .int (nI 2), .int (nI w), .int 0, .float 0], [])) (h1 := (xS b, I, L, xP b)) rfl trivial ?_
          refine xw_if (fun c_62 => ?_) (fun c_62 => ?_)
          · skip
            refine xw_go xb_129 15 (f1 := (88, [.ref 60, .int (nI 2), .int (nI w), .int 0, .int (I 61 (5 + (nI 2)).toNatClampNeg)], [.int (I 61 (5 + (nI 2)).toNatClampNeg)])) (h1 := (xS b, xm_up I 61 (5 + (nI 2)).toNatClampNeg (nI w), L, xP b)) rfl ⟨rfl, (xn_ar' (n := 7) (N := 159) rfl (show 5 + nI 2 = _ by rw [xl_5, nI_add]) (by omega) (by decide)), rfl, (xn_ar' (n := 7) (N := 159) rfl (show 5 + nI 2 = _ by rw [xl_5, nI_add]) (by omega) (by decide)), trivial⟩ ?_
            refine xw_ret xb_129 rfl rfl trivial ?_
            rw [show (5 : Int32) + nI 2 = nI 7 from (by rw [xl_5, nI_add]), xn_cl (by omega)]
            exact ⟨xm_some (congrArg Value.int (hM.1 7 (by decide))), _, rfl, xMF_u (xMF_r I) (Or.inl rfl), xML_N hM (xMN_u hM.1 rfl rfl) rfl rfl⟩
          · skip
            exfalso
            try simp only [xB_dec, Classical.not_not] at c_1 c_18 c_35 c_40 c_62
            try simp (disch := omega) only [xt_eq, xt_lt, xt_le, xkt_0, xkt_1, xkt_2, xkt_3, xkt_4, xkt_5, xkt_6, xkt_7, xkt_8, xkt_9, xkt_10, xkt_11, xkt_12, xkt_13, xkt_14, xkt_16, xkt_20, xkt_24, xkt_31, xkt_32, xkt_40, xkt_44, xkt_47, xkt_48, xkt_57, xkt_59, xkt_60, xkt_63, xkt_64, xkt_65, xkt_72, xkt_95, xkt_99, xkt_100, xkt_101, xkt_103, xkt_110, xkt_112, xkt_113, xkt_114, xkt_119, xkt_126, xkt_159, xkt_576, xkt_999, xkt_9999, xkt_65536, xkt_999999, xkt_m1, xkt_m2, xkt_m3, xkt_m4, xkt_m11, xkt_m12, xkt_m13, xkt_m14, xkt_m20, xjt_0, xjt_1, xjt_2, xjt_3, xjt_4, xjt_5, xjt_6, xjt_7, xjt_8, xjt_9, xjt_10, xjt_11, xjt_12, xjt_13, xjt_14, xjt_16, xjt_20, xjt_24, xjt_31, xjt_32, xjt_40, xjt_44, xjt_47, xjt_48, xjt_57, xjt_59, xjt_60, xjt_63, xjt_64, xjt_65, xjt_72, xjt_95, xjt_99, xjt_100, xjt_101, xjt_103, xjt_110, xjt_112, xjt_113, xjt_114, xjt_119, xjt_126, xjt_159, xjt_576, xjt_999, xjt_9999, xjt_65536, xjt_999999, xt64, xt_n, not_true_eq_false, not_false_eq_true, Classical.not_not] at c_1 c_18 c_35 c_40 c_62
            all_goals omega
        · skip
          refine xw_go xb_129 4 (f1 := (49, [.ref 60, .int (nI 2), .int (nI w), .float 0, .float 0], [.long 999, .long 0, .long ((nI w).toInt64)])) (h1 := (xS b, I, L, xP b)) rfl trivial ?_
          refine xw_call xb_129 rfl rfl rfl rfl rfl (Or.inl rfl) m_in ?_
          rintro _ _ ⟨rfl, rfl⟩
          refine xw_at (f' := (52, [.ref 60, .int (nI 2), .int (nI w), .float 0, .float 0], [.int (nI (xB (decide ((0 : Int64).toInt ≤ (nI w).toInt64.toInt ∧ (nI w).toInt64.toInt ≤ (999 : Int64).toInt))))])) (h' := (xS b, I, L, xP b)) rfl rfl ?_
          refine xw_go xb_129 1 (f1 := (if (nI (xB (decide ((0 : Int64).toInt ≤ (nI w).toInt64.toInt ∧ (nI w).toInt64.toInt ≤ (999 : Int64).toInt)))) = 0 then 59 else 55, [.ref 60, .int (nI 2), .int (nI w), .float 0, .float 0], [])) (h1 := (xS b, I, L, xP b)) rfl trivial ?_
          refine xw_if (fun c_52 => ?_) (fun c_52 => ?_)
          · skip
            refine xw_go xb_129 4 (f1 := (if ¬ 0 = 0 then 67 else 65, [.ref 60, .int (nI 2), .int (nI w), .int 0, .float 0], [])) (h1 := (xS b, I, L, xP b)) rfl trivial ?_
            refine xw_if (fun c_62 => ?_) (fun c_62 => ?_)
            · skip
              refine xw_go xb_129 15 (f1 := (88, [.ref 60, .int (nI 2), .int (nI w), .int 0, .int (I 61 (5 + (nI 2)).toNatClampNeg)], [.int (I 61 (5 + (nI 2)).toNatClampNeg)])) (h1 := (xS b, xm_up I 61 (5 + (nI 2)).toNatClampNeg (nI w), L, xP b)) rfl ⟨rfl, (xn_ar' (n := 7) (N := 159) rfl (show 5 + nI 2 = _ by rw [xl_5, nI_add]) (by omega) (by decide)), rfl, (xn_ar' (n := 7) (N := 159) rfl (show 5 + nI 2 = _ by rw [xl_5, nI_add]) (by omega) (by decide)), trivial⟩ ?_
              refine xw_ret xb_129 rfl rfl trivial ?_
              rw [show (5 : Int32) + nI 2 = nI 7 from (by rw [xl_5, nI_add]), xn_cl (by omega)]
              exact ⟨xm_some (congrArg Value.int (hM.1 7 (by decide))), _, rfl, xMF_u (xMF_r I) (Or.inl rfl), xML_N hM (xMN_u hM.1 rfl rfl) rfl rfl⟩
            · skip
              exfalso
              try simp only [xB_dec, Classical.not_not] at c_1 c_18 c_35 c_40 c_52 c_62
              try simp (disch := omega) only [xt_eq, xt_lt, xt_le, xkt_0, xkt_1, xkt_2, xkt_3, xkt_4, xkt_5, xkt_6, xkt_7, xkt_8, xkt_9, xkt_10, xkt_11, xkt_12, xkt_13, xkt_14, xkt_16, xkt_20, xkt_24, xkt_31, xkt_32, xkt_40, xkt_44, xkt_47, xkt_48, xkt_57, xkt_59, xkt_60, xkt_63, xkt_64, xkt_65, xkt_72, xkt_95, xkt_99, xkt_100, xkt_101, xkt_103, xkt_110, xkt_112, xkt_113, xkt_114, xkt_119, xkt_126, xkt_159, xkt_576, xkt_999, xkt_9999, xkt_65536, xkt_999999, xkt_m1, xkt_m2, xkt_m3, xkt_m4, xkt_m11, xkt_m12, xkt_m13, xkt_m14, xkt_m20, xjt_0, xjt_1, xjt_2, xjt_3, xjt_4, xjt_5, xjt_6, xjt_7, xjt_8, xjt_9, xjt_10, xjt_11, xjt_12, xjt_13, xjt_14, xjt_16, xjt_20, xjt_24, xjt_31, xjt_32, xjt_40, xjt_44, xjt_47, xjt_48, xjt_57, xjt_59, xjt_60, xjt_63, xjt_64, xjt_65, xjt_72, xjt_95, xjt_99, xjt_100, xjt_101, xjt_103, xjt_110, xjt_112, xjt_113, xjt_114, xjt_119, xjt_126, xjt_159, xjt_576, xjt_999, xjt_9999, xjt_65536, xjt_999999, xt64, xt_n, not_true_eq_false, not_false_eq_true, Classical.not_not] at c_1 c_18 c_35 c_40 c_52 c_62
              all_goals omega
          · skip
            refine xw_go xb_129 5 (f1 := (if ¬ 1 = 0 then 67 else 65, [.ref 60, .int (nI 2), .int (nI w), .int 1, .float 0], [])) (h1 := (xS b, I, L, xP b)) rfl trivial ?_
            refine xw_if (fun c_62 => ?_) (fun c_62 => ?_)
            · skip
              refine xw_go xb_129 15 (f1 := (88, [.ref 60, .int (nI 2), .int (nI w), .int 1, .int (I 61 (5 + (nI 2)).toNatClampNeg)], [.int (I 61 (5 + (nI 2)).toNatClampNeg)])) (h1 := (xS b, xm_up I 61 (5 + (nI 2)).toNatClampNeg (nI w), L, xP b)) rfl ⟨rfl, (xn_ar' (n := 7) (N := 159) rfl (show 5 + nI 2 = _ by rw [xl_5, nI_add]) (by omega) (by decide)), rfl, (xn_ar' (n := 7) (N := 159) rfl (show 5 + nI 2 = _ by rw [xl_5, nI_add]) (by omega) (by decide)), trivial⟩ ?_
              refine xw_ret xb_129 rfl rfl trivial ?_
              rw [show (5 : Int32) + nI 2 = nI 7 from (by rw [xl_5, nI_add]), xn_cl (by omega)]
              exact ⟨xm_some (congrArg Value.int (hM.1 7 (by decide))), _, rfl, xMF_u (xMF_r I) (Or.inl rfl), xML_N hM (xMN_u hM.1 rfl rfl) rfl rfl⟩
            · skip
              exfalso
              try simp only [xB_dec, Classical.not_not] at c_1 c_18 c_35 c_40 c_52 c_62
              try simp (disch := omega) only [xt_eq, xt_lt, xt_le, xkt_0, xkt_1, xkt_2, xkt_3, xkt_4, xkt_5, xkt_6, xkt_7, xkt_8, xkt_9, xkt_10, xkt_11, xkt_12, xkt_13, xkt_14, xkt_16, xkt_20, xkt_24, xkt_31, xkt_32, xkt_40, xkt_44, xkt_47, xkt_48, xkt_57, xkt_59, xkt_60, xkt_63, xkt_64, xkt_65, xkt_72, xkt_95, xkt_99, xkt_100, xkt_101, xkt_103, xkt_110, xkt_112, xkt_113, xkt_114, xkt_119, xkt_126, xkt_159, xkt_576, xkt_999, xkt_9999, xkt_65536, xkt_999999, xkt_m1, xkt_m2, xkt_m3, xkt_m4, xkt_m11, xkt_m12, xkt_m13, xkt_m14, xkt_m20, xjt_0, xjt_1, xjt_2, xjt_3, xjt_4, xjt_5, xjt_6, xjt_7, xjt_8, xjt_9, xjt_10, xjt_11, xjt_12, xjt_13, xjt_14, xjt_16, xjt_20, xjt_24, xjt_31, xjt_32, xjt_40, xjt_44, xjt_47, xjt_48, xjt_57, xjt_59, xjt_60, xjt_63, xjt_64, xjt_65, xjt_72, xjt_95, xjt_99, xjt_100, xjt_101, xjt_103, xjt_110, xjt_112, xjt_113, xjt_114, xjt_119, xjt_126, xjt_159, xjt_576, xjt_999, xjt_9999, xjt_65536, xjt_999999, xt64, xt_n, not_true_eq_false, not_false_eq_true, Classical.not_not] at c_1 c_18 c_35 c_40 c_52 c_62
              all_goals omega
    · skip
      refine xw_go xb_129 4 (f1 := (27, [.ref 60, .int (nI 2), .int (nI w), .float 0, .float 0], [.long 5, .long 1, .long ((nI w).toInt64)])) (h1 := (xS b, I, L, xP b)) rfl trivial ?_
      refine xw_call xb_129 rfl rfl rfl rfl rfl (Or.inl rfl) m_in ?_
      rintro _ _ ⟨rfl, rfl⟩
      refine xw_at (f' := (30, [.ref 60, .int (nI 2), .int (nI w), .float 0, .float 0], [.int (nI (xB (decide ((1 : Int64).toInt ≤ (nI w).toInt64.toInt ∧ (nI w).toInt64.toInt ≤ (5 : Int64).toInt))))])) (h' := (xS b, I, L, xP b)) rfl rfl ?_
      refine xw_go xb_129 4 (f1 := (if ¬ (nI (xB (decide ((1 : Int64).toInt ≤ (nI w).toInt64.toInt ∧ (nI w).toInt64.toInt ≤ (5 : Int64).toInt)))) = 0 then 67 else 65, [.ref 60, .int (nI 2), .int (nI w), .int (nI (xB (decide ((1 : Int64).toInt ≤ (nI w).toInt64.toInt ∧ (nI w).toInt64.toInt ≤ (5 : Int64).toInt)))), .float 0], [])) (h1 := (xS b, I, L, xP b)) rfl trivial ?_
      refine xw_if (fun c_62 => ?_) (fun c_62 => ?_)
      · skip
        refine xw_go xb_129 15 (f1 := (88, [.ref 60, .int (nI 2), .int (nI w), .int (nI (xB (decide ((1 : Int64).toInt ≤ (nI w).toInt64.toInt ∧ (nI w).toInt64.toInt ≤ (5 : Int64).toInt)))), .int (I 61 (5 + (nI 2)).toNatClampNeg)], [.int (I 61 (5 + (nI 2)).toNatClampNeg)])) (h1 := (xS b, xm_up I 61 (5 + (nI 2)).toNatClampNeg (nI w), L, xP b)) rfl ⟨rfl, (xn_ar' (n := 7) (N := 159) rfl (show 5 + nI 2 = _ by rw [xl_5, nI_add]) (by omega) (by decide)), rfl, (xn_ar' (n := 7) (N := 159) rfl (show 5 + nI 2 = _ by rw [xl_5, nI_add]) (by omega) (by decide)), trivial⟩ ?_
        refine xw_ret xb_129 rfl rfl trivial ?_
        rw [show (5 : Int32) + nI 2 = nI 7 from (by rw [xl_5, nI_add]), xn_cl (by omega)]
        exact ⟨xm_some (congrArg Value.int (hM.1 7 (by decide))), _, rfl, xMF_u (xMF_r I) (Or.inl rfl), xML_N hM (xMN_u hM.1 rfl rfl) rfl rfl⟩
      · skip
        exfalso
        try simp only [xB_dec, Classical.not_not] at c_1 c_18 c_62
        try simp (disch := omega) only [xt_eq, xt_lt, xt_le, xkt_0, xkt_1, xkt_2, xkt_3, xkt_4, xkt_5, xkt_6, xkt_7, xkt_8, xkt_9, xkt_10, xkt_11, xkt_12, xkt_13, xkt_14, xkt_16, xkt_20, xkt_24, xkt_31, xkt_32, xkt_40, xkt_44, xkt_47, xkt_48, xkt_57, xkt_59, xkt_60, xkt_63, xkt_64, xkt_65, xkt_72, xkt_95, xkt_99, xkt_100, xkt_101, xkt_103, xkt_110, xkt_112, xkt_113, xkt_114, xkt_119, xkt_126, xkt_159, xkt_576, xkt_999, xkt_9999, xkt_65536, xkt_999999, xkt_m1, xkt_m2, xkt_m3, xkt_m4, xkt_m11, xkt_m12, xkt_m13, xkt_m14, xkt_m20, xjt_0, xjt_1, xjt_2, xjt_3, xjt_4, xjt_5, xjt_6, xjt_7, xjt_8, xjt_9, xjt_10, xjt_11, xjt_12, xjt_13, xjt_14, xjt_16, xjt_20, xjt_24, xjt_31, xjt_32, xjt_40, xjt_44, xjt_47, xjt_48, xjt_57, xjt_59, xjt_60, xjt_63, xjt_64, xjt_65, xjt_72, xjt_95, xjt_99, xjt_100, xjt_101, xjt_103, xjt_110, xjt_112, xjt_113, xjt_114, xjt_119, xjt_126, xjt_159, xjt_576, xjt_999, xjt_9999, xjt_65536, xjt_999999, xt64, xt_n, not_true_eq_false, not_false_eq_true, Classical.not_not] at c_1 c_18 c_62
        all_goals omega
  · skip
    refine xw_go xb_129 4 (f1 := (10, [.ref 60, .int (nI 2), .int (nI w), .float 0, .float 0], [.long 3, .long 0, .long ((nI w).toInt64)])) (h1 := (xS b, I, L, xP b)) rfl trivial ?_
    refine xw_call xb_129 rfl rfl rfl rfl rfl (Or.inl rfl) m_in ?_
    rintro _ _ ⟨rfl, rfl⟩
    refine xw_at (f' := (13, [.ref 60, .int (nI 2), .int (nI w), .float 0, .float 0], [.int (nI (xB (decide ((0 : Int64).toInt ≤ (nI w).toInt64.toInt ∧ (nI w).toInt64.toInt ≤ (3 : Int64).toInt))))])) (h' := (xS b, I, L, xP b)) rfl rfl ?_
    refine xw_go xb_129 4 (f1 := (if ¬ (nI (xB (decide ((0 : Int64).toInt ≤ (nI w).toInt64.toInt ∧ (nI w).toInt64.toInt ≤ (3 : Int64).toInt)))) = 0 then 67 else 65, [.ref 60, .int (nI 2), .int (nI w), .int (nI (xB (decide ((0 : Int64).toInt ≤ (nI w).toInt64.toInt ∧ (nI w).toInt64.toInt ≤ (3 : Int64).toInt)))), .float 0], [])) (h1 := (xS b, I, L, xP b)) rfl trivial ?_
    refine xw_if (fun c_62 => ?_) (fun c_62 => ?_)
    · skip
      refine xw_go xb_129 15 (f1 := (88, [.ref 60, .int (nI 2), .int (nI w), .int (nI (xB (decide ((0 : Int64).toInt ≤ (nI w).toInt64.toInt ∧ (nI w).toInt64.toInt ≤ (3 : Int64).toInt)))), .int (I 61 (5 + (nI 2)).toNatClampNeg)], [.int (I 61 (5 + (nI 2)).toNatClampNeg)])) (h1 := (xS b, xm_up I 61 (5 + (nI 2)).toNatClampNeg (nI w), L, xP b)) rfl ⟨rfl, (xn_ar' (n := 7) (N := 159) rfl (show 5 + nI 2 = _ by rw [xl_5, nI_add]) (by omega) (by decide)), rfl, (xn_ar' (n := 7) (N := 159) rfl (show 5 + nI 2 = _ by rw [xl_5, nI_add]) (by omega) (by decide)), trivial⟩ ?_
      refine xw_ret xb_129 rfl rfl trivial ?_
      rw [show (5 : Int32) + nI 2 = nI 7 from (by rw [xl_5, nI_add]), xn_cl (by omega)]
      exact ⟨xm_some (congrArg Value.int (hM.1 7 (by decide))), _, rfl, xMF_u (xMF_r I) (Or.inl rfl), xML_N hM (xMN_u hM.1 rfl rfl) rfl rfl⟩
    · skip
      exfalso
      try simp only [xB_dec, Classical.not_not] at c_1 c_62
      try simp (disch := omega) only [xt_eq, xt_lt, xt_le, xkt_0, xkt_1, xkt_2, xkt_3, xkt_4, xkt_5, xkt_6, xkt_7, xkt_8, xkt_9, xkt_10, xkt_11, xkt_12, xkt_13, xkt_14, xkt_16, xkt_20, xkt_24, xkt_31, xkt_32, xkt_40, xkt_44, xkt_47, xkt_48, xkt_57, xkt_59, xkt_60, xkt_63, xkt_64, xkt_65, xkt_72, xkt_95, xkt_99, xkt_100, xkt_101, xkt_103, xkt_110, xkt_112, xkt_113, xkt_114, xkt_119, xkt_126, xkt_159, xkt_576, xkt_999, xkt_9999, xkt_65536, xkt_999999, xkt_m1, xkt_m2, xkt_m3, xkt_m4, xkt_m11, xkt_m12, xkt_m13, xkt_m14, xkt_m20, xjt_0, xjt_1, xjt_2, xjt_3, xjt_4, xjt_5, xjt_6, xjt_7, xjt_8, xjt_9, xjt_10, xjt_11, xjt_12, xjt_13, xjt_14, xjt_16, xjt_20, xjt_24, xjt_31, xjt_32, xjt_40, xjt_44, xjt_47, xjt_48, xjt_57, xjt_59, xjt_60, xjt_63, xjt_64, xjt_65, xjt_72, xjt_95, xjt_99, xjt_100, xjt_101, xjt_103, xjt_110, xjt_112, xjt_113, xjt_114, xjt_119, xjt_126, xjt_159, xjt_576, xjt_999, xjt_9999, xjt_65536, xjt_999999, xt64, xt_n, not_true_eq_false, not_false_eq_true, Classical.not_not] at c_1 c_62
      all_goals omega

theorem m_rule13 {d : Nat} {b : Bool} {I : Nat → Nat → Int32} {L : Nat → Nat → Int64} {N : Nat → Nat} {u : Nat} {U : Nat → Nat → Nat} (hM : xML N u U I) (hK : xUK N u U) {w : Nat} (hw : 0 ≤ w ∧ w ≤ 999) {x : Int32} (e_x : x = nI 3) {y : Int32} (e_y : y = nI w) : xm_Z (d + 2) 129 [.ref 60, .int x, .int y] (xS b, I, L, xP b) (fun rz hz => xQM b I L (nI (N 8)) (va_up N 8 w) u U rz hz) := by
  subst e_x
  subst e_y
  refine xw_S xb_129 (l := [.ref 60, .int (nI 3), .int (nI w), .float 0, .float 0]) (Nat.le_of_ble_eq_true rfl) rfl ?_
  refine xw_go xb_129 2 (f1 := (if ¬ (nI 3) = 0 then 16 else 4, [.ref 60, .int (nI 3), .int (nI w), .float 0, .float 0], [])) (h1 := (xS b, I, L, xP b)) rfl trivial ?_
  refine xw_if (fun c_1 => ?_) (fun c_1 => ?_)
  · skip
    refine xw_go xb_129 3 (f1 := (if ¬ (nI 3) = 1 then 33 else 21, [.ref 60, .int (nI 3), .int (nI w), .float 0, .float 0], [])) (h1 := (xS b, I, L, xP b)) rfl trivial ?_
    refine xw_if (fun c_18 => ?_) (fun c_18 => ?_)
    · skip
      refine xw_go xb_129 3 (f1 := (if (nI 3) = 2 then 43 else 38, [.ref 60, .int (nI 3), .int (nI w), .float 0, .float 0], [])) (h1 := (xS b, I, L, xP b)) rfl trivial ?_
      refine xw_if (fun c_35 => ?_) (fun c_35 => ?_)
      · skip
        refine xw_go xb_129 4 (f1 := (49, [.ref 60, .int (nI 3), .int (nI w), .float 0, .float 0], [.long 999, .long 0, .long ((nI w).toInt64)])) (h1 := (xS b, I, L, xP b)) rfl trivial ?_
        refine xw_call xb_129 rfl rfl rfl rfl rfl (Or.inl rfl) m_in ?_
        rintro _ _ ⟨rfl, rfl⟩
        refine xw_at (f' := (52, [.ref 60, .int (nI 3), .int (nI w), .float 0, .float 0], [.int (nI (xB (decide ((0 : Int64).toInt ≤ (nI w).toInt64.toInt ∧ (nI w).toInt64.toInt ≤ (999 : Int64).toInt))))])) (h' := (xS b, I, L, xP b)) rfl rfl ?_
        refine xw_go xb_129 1 (f1 := (if (nI (xB (decide ((0 : Int64).toInt ≤ (nI w).toInt64.toInt ∧ (nI w).toInt64.toInt ≤ (999 : Int64).toInt)))) = 0 then 59 else 55, [.ref 60, .int (nI 3), .int (nI w), .float 0, .float 0], [])) (h1 := (xS b, I, L, xP b)) rfl trivial ?_
        refine xw_if (fun c_52 => ?_) (fun c_52 => ?_)
        · skip
          refine xw_go xb_129 4 (f1 := (if ¬ 0 = 0 then 67 else 65, [.ref 60, .int (nI 3), .int (nI w), .int 0, .float 0], [])) (h1 := (xS b, I, L, xP b)) rfl trivial ?_
          refine xw_if (fun c_62 => ?_) (fun c_62 => ?_)
          · skip
            refine xw_go xb_129 15 (f1 := (88, [.ref 60, .int (nI 3), .int (nI w), .int 0, .int (I 61 (5 + (nI 3)).toNatClampNeg)], [.int (I 61 (5 + (nI 3)).toNatClampNeg)])) (h1 := (xS b, xm_up I 61 (5 + (nI 3)).toNatClampNeg (nI w), L, xP b)) rfl ⟨rfl, (xn_ar' (n := 8) (N := 159) rfl (show 5 + nI 3 = _ by rw [xl_5, nI_add]) (by omega) (by decide)), rfl, (xn_ar' (n := 8) (N := 159) rfl (show 5 + nI 3 = _ by rw [xl_5, nI_add]) (by omega) (by decide)), trivial⟩ ?_
            refine xw_ret xb_129 rfl rfl trivial ?_
            rw [show (5 : Int32) + nI 3 = nI 8 from (by rw [xl_5, nI_add]), xn_cl (by omega)]
            exact ⟨xm_some (congrArg Value.int (hM.1 8 (by decide))), _, rfl, xMF_u (xMF_r I) (Or.inl rfl), xML_N hM (xMN_u hM.1 rfl rfl) rfl rfl⟩
          · skip
            exfalso
            try simp only [xB_dec, Classical.not_not] at c_1 c_18 c_35 c_52 c_62
            try simp (disch := omega) only [xt_eq, xt_lt, xt_le, xkt_0, xkt_1, xkt_2, xkt_3, xkt_4, xkt_5, xkt_6, xkt_7, xkt_8, xkt_9, xkt_10, xkt_11, xkt_12, xkt_13, xkt_14, xkt_16, xkt_20, xkt_24, xkt_31, xkt_32, xkt_40, xkt_44, xkt_47, xkt_48, xkt_57, xkt_59, xkt_60, xkt_63, xkt_64, xkt_65, xkt_72, xkt_95, xkt_99, xkt_100, xkt_101, xkt_103, xkt_110, xkt_112, xkt_113, xkt_114, xkt_119, xkt_126, xkt_159, xkt_576, xkt_999, xkt_9999, xkt_65536, xkt_999999, xkt_m1, xkt_m2, xkt_m3, xkt_m4, xkt_m11, xkt_m12, xkt_m13, xkt_m14, xkt_m20, xjt_0, xjt_1, xjt_2, xjt_3, xjt_4, xjt_5, xjt_6, xjt_7, xjt_8, xjt_9, xjt_10, xjt_11, xjt_12, xjt_13, xjt_14, xjt_16, xjt_20, xjt_24, xjt_31, xjt_32, xjt_40, xjt_44, xjt_47, xjt_48, xjt_57, xjt_59, xjt_60, xjt_63, xjt_64, xjt_65, xjt_72, xjt_95, xjt_99, xjt_100, xjt_101, xjt_103, xjt_110, xjt_112, xjt_113, xjt_114, xjt_119, xjt_126, xjt_159, xjt_576, xjt_999, xjt_9999, xjt_65536, xjt_999999, xt64, xt_n, not_true_eq_false, not_false_eq_true, Classical.not_not] at c_1 c_18 c_35 c_52 c_62
            all_goals omega
        · skip
          refine xw_go xb_129 5 (f1 := (if ¬ 1 = 0 then 67 else 65, [.ref 60, .int (nI 3), .int (nI w), .int 1, .float 0], [])) (h1 := (xS b, I, L, xP b)) rfl trivial ?_
          refine xw_if (fun c_62 => ?_) (fun c_62 => ?_)
          · skip
            refine xw_go xb_129 15 (f1 := (88, [.ref 60, .int (nI 3), .int (nI w), .int 1, .int (I 61 (5 + (nI 3)).toNatClampNeg)], [.int (I 61 (5 + (nI 3)).toNatClampNeg)])) (h1 := (xS b, xm_up I 61 (5 + (nI 3)).toNatClampNeg (nI w), L, xP b)) rfl ⟨rfl, (xn_ar' (n := 8) (N := 159) rfl (show 5 + nI 3 = _ by rw [xl_5, nI_add]) (by omega) (by decide)), rfl, (xn_ar' (n := 8) (N := 159) rfl (show 5 + nI 3 = _ by rw [xl_5, nI_add]) (by omega) (by decide)), trivial⟩ ?_
            refine xw_ret xb_129 rfl rfl trivial ?_
            rw [show (5 : Int32) + nI 3 = nI 8 from (by rw [xl_5, nI_add]), xn_cl (by omega)]
            exact ⟨xm_some (congrArg Value.int (hM.1 8 (by decide))), _, rfl, xMF_u (xMF_r I) (Or.inl rfl), xML_N hM (xMN_u hM.1 rfl rfl) rfl rfl⟩
          · skip
            exfalso
            try simp only [xB_dec, Classical.not_not] at c_1 c_18 c_35 c_52 c_62
            try simp (disch := omega) only [xt_eq, xt_lt, xt_le, xkt_0, xkt_1, xkt_2, xkt_3, xkt_4, xkt_5, xkt_6, xkt_7, xkt_8, xkt_9, xkt_10, xkt_11, xkt_12, xkt_13, xkt_14, xkt_16, xkt_20, xkt_24, xkt_31, xkt_32, xkt_40, xkt_44, xkt_47, xkt_48, xkt_57, xkt_59, xkt_60, xkt_63, xkt_64, xkt_65, xkt_72, xkt_95, xkt_99, xkt_100, xkt_101, xkt_103, xkt_110, xkt_112, xkt_113, xkt_114, xkt_119, xkt_126, xkt_159, xkt_576, xkt_999, xkt_9999, xkt_65536, xkt_999999, xkt_m1, xkt_m2, xkt_m3, xkt_m4, xkt_m11, xkt_m12, xkt_m13, xkt_m14, xkt_m20, xjt_0, xjt_1, xjt_2, xjt_3, xjt_4, xjt_5, xjt_6, xjt_7, xjt_8, xjt_9, xjt_10, xjt_11, xjt_12, xjt_13, xjt_14, xjt_16, xjt_20, xjt_24, xjt_31, xjt_32, xjt_40, xjt_44, xjt_47, xjt_48, xjt_57, xjt_59, xjt_60, xjt_63, xjt_64, xjt_65, xjt_72, xjt_95, xjt_99, xjt_100, xjt_101, xjt_103, xjt_110, xjt_112, xjt_113, xjt_114, xjt_119, xjt_126, xjt_159, xjt_576, xjt_999, xjt_9999, xjt_65536, xjt_999999, xt64, xt_n, not_true_eq_false, not_false_eq_true, Classical.not_not] at c_1 c_18 c_35 c_52 c_62
            all_goals omega
      · skip
        refine xw_go xb_129 3 (f1 := (if ¬ (nI 3) = 3 then 59 else 43, [.ref 60, .int (nI 3), .int (nI w), .float 0, .float 0], [])) (h1 := (xS b, I, L, xP b)) rfl trivial ?_
        refine xw_if (fun c_40 => ?_) (fun c_40 => ?_)
        · skip
          refine xw_go xb_129 4 (f1 := (if ¬ 0 = 0 then 67 else 65, [.ref 60, .int (nI 3), .int (nI w), .int 0, .float 0], [])) (h1 := (xS b, I, L, xP b)) rfl trivial ?_
          refine xw_if (fun c_62 => ?_) (fun c_62 => ?_)
          · skip
            refine xw_go xb_129 15 (f1 := (88, [.ref 60, .int (nI 3), .int (nI w), .int 0, .int (I 61 (5 + (nI 3)).toNatClampNeg)], [.int (I 61 (5 + (nI 3)).toNatClampNeg)])) (h1 := (xS b, xm_up I 61 (5 + (nI 3)).toNatClampNeg (nI w), L, xP b)) rfl ⟨rfl, (xn_ar' (n := 8) (N := 159) rfl (show 5 + nI 3 = _ by rw [xl_5, nI_add]) (by omega) (by decide)), rfl, (xn_ar' (n := 8) (N := 159) rfl (show 5 + nI 3 = _ by rw [xl_5, nI_add]) (by omega) (by decide)), trivial⟩ ?_
            refine xw_ret xb_129 rfl rfl trivial ?_
            rw [show (5 : Int32) + nI 3 = nI 8 from (by rw [xl_5, nI_add]), xn_cl (by omega)]
            exact ⟨xm_some (congrArg Value.int (hM.1 8 (by decide))), _, rfl, xMF_u (xMF_r I) (Or.inl rfl), xML_N hM (xMN_u hM.1 rfl rfl) rfl rfl⟩
          · skip
            exfalso
            try simp only [xB_dec, Classical.not_not] at c_1 c_18 c_35 c_40 c_62
            try simp (disch := omega) only [xt_eq, xt_lt, xt_le, xkt_0, xkt_1, xkt_2, xkt_3, xkt_4, xkt_5, xkt_6, xkt_7, xkt_8, xkt_9, xkt_10, xkt_11, xkt_12, xkt_13, xkt_14, xkt_16, xkt_20, xkt_24, xkt_31, xkt_32, xkt_40, xkt_44, xkt_47, xkt_48, xkt_57, xkt_59, xkt_60, xkt_63, xkt_64, xkt_65, xkt_72, xkt_95, xkt_99, xkt_100, xkt_101, xkt_103, xkt_110, xkt_112, xkt_113, xkt_114, xkt_119, xkt_126, xkt_159, xkt_576, xkt_999, xkt_9999, xkt_65536, xkt_999999, xkt_m1, xkt_m2, xkt_m3, xkt_m4, xkt_m11, xkt_m12, xkt_m13, xkt_m14, xkt_m20, xjt_0, xjt_1, xjt_2, xjt_3, xjt_4, xjt_5, xjt_6, xjt_7, xjt_8, xjt_9, xjt_10, xjt_11, xjt_12, xjt_13, xjt_14, xjt_16, xjt_20, xjt_24, xjt_31, xjt_32, xjt_40, xjt_44, xjt_47, xjt_48, xjt_57, xjt_59, xjt_60, xjt_63, xjt_64, xjt_65, xjt_72, xjt_95, xjt_99, xjt_100, xjt_101, xjt_103, xjt_110, xjt_112, xjt_113, xjt_114, xjt_119, xjt_126, xjt_159, xjt_576, xjt_999, xjt_9999, xjt_65536, xjt_999999, xt64, xt_n, not_true_eq_false, not_false_eq_true, Classical.not_not] at c_1 c_18 c_35 c_40 c_62
            all_goals omega
        · skip
          refine xw_go xb_129 4 (f1 := (49, [.ref 60, .int (nI 3), .int (nI w), .float 0, .float 0], [.long 999, .long 0, .long ((nI w).toInt64)])) (h1 := (xS b, I, L, xP b)) rfl trivial ?_
          refine xw_call xb_129 rfl rfl rfl rfl rfl (Or.inl rfl) m_in ?_
          rintro _ _ ⟨rfl, rfl⟩
          refine xw_at (f' := (52, [.ref 60, .int (nI 3), .int (nI w), .float 0, .float 0], [.int (nI (xB (decide ((0 : Int64).toInt ≤ (nI w).toInt64.toInt ∧ (nI w).toInt64.toInt ≤ (999 : Int64).toInt))))])) (h' := (xS b, I, L, xP b)) rfl rfl ?_
          refine xw_go xb_129 1 (f1 := (if (nI (xB (decide ((0 : Int64).toInt ≤ (nI w).toInt64.toInt ∧ (nI w).toInt64.toInt ≤ (999 : Int64).toInt)))) = 0 then 59 else 55, [.ref 60, .int (nI 3), .int (nI w), .float 0, .float 0], [])) (h1 := (xS b, I, L, xP b)) rfl trivial ?_
          refine xw_if (fun c_52 => ?_) (fun c_52 => ?_)
          · skip
            refine xw_go xb_129 4 (f1 := (if ¬ 0 = 0 then 67 else 65, [.ref 60, .int (nI 3), .int (nI w), .int 0, .float 0], [])) (h1 := (xS b, I, L, xP b)) rfl trivial ?_
            refine xw_if (fun c_62 => ?_) (fun c_62 => ?_)
            · skip
              refine xw_go xb_129 15 (f1 := (88, [.ref 60, .int (nI 3), .int (nI w), .int 0, .int (I 61 (5 + (nI 3)).toNatClampNeg)], [.int (I 61 (5 + (nI 3)).toNatClampNeg)])) (h1 := (xS b, xm_up I 61 (5 + (nI 3)).toNatClampNeg (nI w), L, xP b)) rfl ⟨rfl, (xn_ar' (n := 8) (N := 159) rfl (show 5 + nI 3 = _ by rw [xl_5, nI_add]) (by omega) (by decide)), rfl, (xn_ar' (n := 8) (N := 159) rfl (show 5 + nI 3 = _ by rw [xl_5, nI_add]) (by omega) (by decide)), trivial⟩ ?_
              refine xw_ret xb_129 rfl rfl trivial ?_
              rw [show (5 : Int32) + nI 3 = nI 8 from (by rw [xl_5, nI_add]), xn_cl (by omega)]
              exact ⟨xm_some (congrArg Value.int (hM.1 8 (by decide))), _, rfl, xMF_u (xMF_r I) (Or.inl rfl), xML_N hM (xMN_u hM.1 rfl rfl) rfl rfl⟩
            · skip
              exfalso
              try simp only [xB_dec, Classical.not_not] at c_1 c_18 c_35 c_40 c_52 c_62
              try simp (disch := omega) only [xt_eq, xt_lt, xt_le, xkt_0, xkt_1, xkt_2, xkt_3, xkt_4, xkt_5, xkt_6, xkt_7, xkt_8, xkt_9, xkt_10, xkt_11, xkt_12, xkt_13, xkt_14, xkt_16, xkt_20, xkt_24, xkt_31, xkt_32, xkt_40, xkt_44, xkt_47, xkt_48, xkt_57, xkt_59, xkt_60, xkt_63, xkt_64, xkt_65, xkt_72, xkt_95, xkt_99, xkt_100, xkt_101, xkt_103, xkt_110, xkt_112, xkt_113, xkt_114, xkt_119, xkt_126, xkt_159, xkt_576, xkt_999, xkt_9999, xkt_65536, xkt_999999, xkt_m1, xkt_m2, xkt_m3, xkt_m4, xkt_m11, xkt_m12, xkt_m13, xkt_m14, xkt_m20, xjt_0, xjt_1, xjt_2, xjt_3, xjt_4, xjt_5, xjt_6, xjt_7, xjt_8, xjt_9, xjt_10, xjt_11, xjt_12, xjt_13, xjt_14, xjt_16, xjt_20, xjt_24, xjt_31, xjt_32, xjt_40, xjt_44, xjt_47, xjt_48, xjt_57, xjt_59, xjt_60, xjt_63, xjt_64, xjt_65, xjt_72, xjt_95, xjt_99, xjt_100, xjt_101, xjt_103, xjt_110, xjt_112, xjt_113, xjt_114, xjt_119, xjt_126, xjt_159, xjt_576, xjt_999, xjt_9999, xjt_65536, xjt_999999, xt64, xt_n, not_true_eq_false, not_false_eq_true, Classical.not_not] at c_1 c_18 c_35 c_40 c_52 c_62
              all_goals omega
          · skip
            refine xw_go xb_129 5 (f1 := (if ¬ 1 = 0 then 67 else 65, [.ref 60, .int (nI 3), .int (nI w), .int 1, .float 0], [])) (h1 := (xS b, I, L, xP b)) rfl trivial ?_
            refine xw_if (fun c_62 => ?_) (fun c_62 => ?_)
            · skip
              refine xw_go xb_129 15 (f1 := (88, [.ref 60, .int (nI 3), .int (nI w), .int 1, .int (I 61 (5 + (nI 3)).toNatClampNeg)], [.int (I 61 (5 + (nI 3)).toNatClampNeg)])) (h1 := (xS b, xm_up I 61 (5 + (nI 3)).toNatClampNeg (nI w), L, xP b)) rfl ⟨rfl, (xn_ar' (n := 8) (N := 159) rfl (show 5 + nI 3 = _ by rw [xl_5, nI_add]) (by omega) (by decide)), rfl, (xn_ar' (n := 8) (N := 159) rfl (show 5 + nI 3 = _ by rw [xl_5, nI_add]) (by omega) (by decide)), trivial⟩ ?_
              refine xw_ret xb_129 rfl rfl trivial ?_
              rw [show (5 : Int32) + nI 3 = nI 8 from (by rw [xl_5, nI_add]), xn_cl (by omega)]
              exact ⟨xm_some (congrArg Value.int (hM.1 8 (by decide))), _, rfl, xMF_u (xMF_r I) (Or.inl rfl), xML_N hM (xMN_u hM.1 rfl rfl) rfl rfl⟩
            · skip
              exfalso
              try simp only [xB_dec, Classical.not_not] at c_1 c_18 c_35 c_40 c_52 c_62
              try simp (disch := omega) only [xt_eq, xt_lt, xt_le, xkt_0, xkt_1, xkt_2, xkt_3, xkt_4, xkt_5, xkt_6, xkt_7, xkt_8, xkt_9, xkt_10, xkt_11, xkt_12, xkt_13, xkt_14, xkt_16, xkt_20, xkt_24, xkt_31, xkt_32, xkt_40, xkt_44, xkt_47, xkt_48, xkt_57, xkt_59, xkt_60, xkt_63, xkt_64, xkt_65, xkt_72, xkt_95, xkt_99, xkt_100, xkt_101, xkt_103, xkt_110, xkt_112, xkt_113, xkt_114, xkt_119, xkt_126, xkt_159, xkt_576, xkt_999, xkt_9999, xkt_65536, xkt_999999, xkt_m1, xkt_m2, xkt_m3, xkt_m4, xkt_m11, xkt_m12, xkt_m13, xkt_m14, xkt_m20, xjt_0, xjt_1, xjt_2, xjt_3, xjt_4, xjt_5, xjt_6, xjt_7, xjt_8, xjt_9, xjt_10, xjt_11, xjt_12, xjt_13, xjt_14, xjt_16, xjt_20, xjt_24, xjt_31, xjt_32, xjt_40, xjt_44, xjt_47, xjt_48, xjt_57, xjt_59, xjt_60, xjt_63, xjt_64, xjt_65, xjt_72, xjt_95, xjt_99, xjt_100, xjt_101, xjt_103, xjt_110, xjt_112, xjt_113, xjt_114, xjt_119, xjt_126, xjt_159, xjt_576, xjt_999, xjt_9999, xjt_65536, xjt_999999, xt64, xt_n, not_true_eq_false, not_false_eq_true, Classical.not_not] at c_1 c_18 c_35 c_40 c_52 c_62
              all_goals omega
    · skip
      refine xw_go xb_129 4 (f1 := (27, [.ref 60, .int (nI 3), .int (nI w), .float 0, .float 0], [.long 5, .long 1, .long ((nI w).toInt64)])) (h1 := (xS b, I, L, xP b)) rfl trivial ?_
      refine xw_call xb_129 rfl rfl rfl rfl rfl (Or.inl rfl) m_in ?_
      rintro _ _ ⟨rfl, rfl⟩
      refine xw_at (f' := (30, [.ref 60, .int (nI 3), .int (nI w), .float 0, .float 0], [.int (nI (xB (decide ((1 : Int64).toInt ≤ (nI w).toInt64.toInt ∧ (nI w).toInt64.toInt ≤ (5 : Int64).toInt))))])) (h' := (xS b, I, L, xP b)) rfl rfl ?_
      refine xw_go xb_129 4 (f1 := (if ¬ (nI (xB (decide ((1 : Int64).toInt ≤ (nI w).toInt64.toInt ∧ (nI w).toInt64.toInt ≤ (5 : Int64).toInt)))) = 0 then 67 else 65, [.ref 60, .int (nI 3), .int (nI w), .int (nI (xB (decide ((1 : Int64).toInt ≤ (nI w).toInt64.toInt ∧ (nI w).toInt64.toInt ≤ (5 : Int64).toInt)))), .float 0], [])) (h1 := (xS b, I, L, xP b)) rfl trivial ?_
      refine xw_if (fun c_62 => ?_) (fun c_62 => ?_)
      · skip
        refine xw_go xb_129 15 (f1 := (88, [.ref 60, .int (nI 3), .int (nI w), .int (nI (xB (decide ((1 : Int64).toInt ≤ (nI w).toInt64.toInt ∧ (nI w).toInt64.toInt ≤ (5 : Int64).toInt)))), .int (I 61 (5 + (nI 3)).toNatClampNeg)], [.int (I 61 (5 + (nI 3)).toNatClampNeg)])) (h1 := (xS b, xm_up I 61 (5 + (nI 3)).toNatClampNeg (nI w), L, xP b)) rfl ⟨rfl, (xn_ar' (n := 8) (N := 159) rfl (show 5 + nI 3 = _ by rw [xl_5, nI_add]) (by omega) (by decide)), rfl, (xn_ar' (n := 8) (N := 159) rfl (show 5 + nI 3 = _ by rw [xl_5, nI_add]) (by omega) (by decide)), trivial⟩ ?_
        refine xw_ret xb_129 rfl rfl trivial ?_
        rw [show (5 : Int32) + nI 3 = nI 8 from (by rw [xl_5, nI_add]), xn_cl (by omega)]
        exact ⟨xm_some (congrArg Value.int (hM.1 8 (by decide))), _, rfl, xMF_u (xMF_r I) (Or.inl rfl), xML_N hM (xMN_u hM.1 rfl rfl) rfl rfl⟩
      · skip
        exfalso
        try simp only [xB_dec, Classical.not_not] at c_1 c_18 c_62
        try simp (disch := omega) only [xt_eq, xt_lt, xt_le, xkt_0, xkt_1, xkt_2, xkt_3, xkt_4, xkt_5, xkt_6, xkt_7, xkt_8, xkt_9, xkt_10, xkt_11, xkt_12, xkt_13, xkt_14, xkt_16, xkt_20, xkt_24, xkt_31, xkt_32, xkt_40, xkt_44, xkt_47, xkt_48, xkt_57, xkt_59, xkt_60, xkt_63, xkt_64, xkt_65, xkt_72, xkt_95, xkt_99, xkt_100, xkt_101, xkt_103, xkt_110, xkt_112, xkt_113, xkt_114, xkt_119, xkt_126, xkt_159, xkt_576, xkt_999, xkt_9999, xkt_65536, xkt_999999, xkt_m1, xkt_m2, xkt_m3, xkt_m4, xkt_m11, xkt_m12, xkt_m13, xkt_m14, xkt_m20, xjt_0, xjt_1, xjt_2, xjt_3, xjt_4, xjt_5, xjt_6, xjt_7, xjt_8, xjt_9, xjt_10, xjt_11, xjt_12, xjt_13, xjt_14, xjt_16, xjt_20, xjt_24, xjt_31, xjt_32, xjt_40, xjt_44, xjt_47, xjt_48, xjt_57, xjt_59, xjt_60, xjt_63, xjt_64, xjt_65, xjt_72, xjt_95, xjt_99, xjt_100, xjt_101, xjt_103, xjt_110, xjt_112, xjt_113, xjt_114, xjt_119, xjt_126, xjt_159, xjt_576, xjt_999, xjt_9999, xjt_65536, xjt_999999, xt64, xt_n, not_true_eq_false, not_false_eq_true, Classical.not_not] at c_1 c_18 c_62
        all_goals omega
  · skip
    refine xw_go xb_129 4 (f1 := (10, [.ref 60, .int (nI 3), .int (nI w), .float 0, .float 0], [.long 3, .long 0, .long ((nI w).toInt64)])) (h1 := (xS b, I, L, xP b)) rfl trivial ?_
    refine xw_call xb_129 rfl rfl rfl rfl rfl (Or.inl rfl) m_in ?_
    rintro _ _ ⟨rfl, rfl⟩
    refine xw_at (f' := (13, [.ref 60, .int (nI 3), .int (nI w), .float 0, .float 0], [.int (nI (xB (decide ((0 : Int64).toInt ≤ (nI w).toInt64.toInt ∧ (nI w).toInt64.toInt ≤ (3 : Int64).toInt))))])) (h' := (xS b, I, L, xP b)) rfl rfl ?_
    refine xw_go xb_129 4 (f1 := (if ¬ (nI (xB (decide ((0 : Int64).toInt ≤ (nI w).toInt64.toInt ∧ (nI w).toInt64.toInt ≤ (3 : Int64).toInt)))) = 0 then 67 else 65, [.ref 60, .int (nI 3), .int (nI w), .int (nI (xB (decide ((0 : Int64).toInt ≤ (nI w).toInt64.toInt ∧ (nI w).toInt64.toInt ≤ (3 : Int64).toInt)))), .float 0], [])) (h1 := (xS b, I, L, xP b)) rfl trivial ?_
    refine xw_if (fun c_62 => ?_) (fun c_62 => ?_)
    · skip
      refine xw_go xb_129 15 (f1 := (88, [.ref 60, .int (nI 3), .int (nI w), .int (nI (xB (decide ((0 : Int64).toInt ≤ (nI w).toInt64.toInt ∧ (nI w).toInt64.toInt ≤ (3 : Int64).toInt)))), .int (I 61 (5 + (nI 3)).toNatClampNeg)], [.int (I 61 (5 + (nI 3)).toNatClampNeg)])) (h1 := (xS b, xm_up I 61 (5 + (nI 3)).toNatClampNeg (nI w), L, xP b)) rfl ⟨rfl, (xn_ar' (n := 8) (N := 159) rfl (show 5 + nI 3 = _ by rw [xl_5, nI_add]) (by omega) (by decide)), rfl, (xn_ar' (n := 8) (N := 159) rfl (show 5 + nI 3 = _ by rw [xl_5, nI_add]) (by omega) (by decide)), trivial⟩ ?_
      refine xw_ret xb_129 rfl rfl trivial ?_
      rw [show (5 : Int32) + nI 3 = nI 8 from (by rw [xl_5, nI_add]), xn_cl (by omega)]
      exact ⟨xm_some (congrArg Value.int (hM.1 8 (by decide))), _, rfl, xMF_u (xMF_r I) (Or.inl rfl), xML_N hM (xMN_u hM.1 rfl rfl) rfl rfl⟩
    · skip
      exfalso
      try simp only [xB_dec, Classical.not_not] at c_1 c_62
      try simp (disch := omega) only [xt_eq, xt_lt, xt_le, xkt_0, xkt_1, xkt_2, xkt_3, xkt_4, xkt_5, xkt_6, xkt_7, xkt_8, xkt_9, xkt_10, xkt_11, xkt_12, xkt_13, xkt_14, xkt_16, xkt_20, xkt_24, xkt_31, xkt_32, xkt_40, xkt_44, xkt_47, xkt_48, xkt_57, xkt_59, xkt_60, xkt_63, xkt_64, xkt_65, xkt_72, xkt_95, xkt_99, xkt_100, xkt_101, xkt_103, xkt_110, xkt_112, xkt_113, xkt_114, xkt_119, xkt_126, xkt_159, xkt_576, xkt_999, xkt_9999, xkt_65536, xkt_999999, xkt_m1, xkt_m2, xkt_m3, xkt_m4, xkt_m11, xkt_m12, xkt_m13, xkt_m14, xkt_m20, xjt_0, xjt_1, xjt_2, xjt_3, xjt_4, xjt_5, xjt_6, xjt_7, xjt_8, xjt_9, xjt_10, xjt_11, xjt_12, xjt_13, xjt_14, xjt_16, xjt_20, xjt_24, xjt_31, xjt_32, xjt_40, xjt_44, xjt_47, xjt_48, xjt_57, xjt_59, xjt_60, xjt_63, xjt_64, xjt_65, xjt_72, xjt_95, xjt_99, xjt_100, xjt_101, xjt_103, xjt_110, xjt_112, xjt_113, xjt_114, xjt_119, xjt_126, xjt_159, xjt_576, xjt_999, xjt_9999, xjt_65536, xjt_999999, xt64, xt_n, not_true_eq_false, not_false_eq_true, Classical.not_not] at c_1 c_62
      all_goals omega

theorem c_count0 {d : Nat} {b : Bool} {I : Nat → Nat → Int32} {L : Nat → Nat → Int64} {N : Nat → Nat} {u : Nat} {U : Nat → Nat → Nat} (hP : xPL N u U 1 I) (hK : xUK N u U) {x : Int32} (hx : x.toInt < 0 ∨ 12 < x.toInt) : xm_Z (d + 4) 55 [.ref 0, .int x] (xS b, I, L, xP b) (fun rz hz => xQC b I L (-1) N u U rz hz) := by
  refine xw_S xb_55 (l := [.ref 0, .int x]) (Nat.le_of_ble_eq_true rfl) rfl ?_
  refine xw_go xb_55 2 (f1 := (xm_sw [(0, 68), (1, 76), (2, 84), (3, 92), (4, 100), (5, 108), (6, 116), (7, 124), (8, 132), (9, 140), (10, 148), (11, 156), (12, 171)] 182 x, [.ref 0, .int x], [])) (h1 := (xS b, I, L, xP b)) rfl trivial ?_
  refine xw_if (fun c_1_0 => ?_) (fun c_1_0 => ?_)
  · skip
    exfalso
    try simp only [xB_dec, Classical.not_not] at c_1_0
    try simp (disch := omega) only [xt_eq, xt_lt, xt_le, xkt_0, xkt_1, xkt_2, xkt_3, xkt_4, xkt_5, xkt_6, xkt_7, xkt_8, xkt_9, xkt_10, xkt_11, xkt_12, xkt_13, xkt_14, xkt_16, xkt_20, xkt_24, xkt_31, xkt_32, xkt_40, xkt_44, xkt_47, xkt_48, xkt_57, xkt_59, xkt_60, xkt_63, xkt_64, xkt_65, xkt_72, xkt_95, xkt_99, xkt_100, xkt_101, xkt_103, xkt_110, xkt_112, xkt_113, xkt_114, xkt_119, xkt_126, xkt_159, xkt_576, xkt_999, xkt_9999, xkt_65536, xkt_999999, xkt_m1, xkt_m2, xkt_m3, xkt_m4, xkt_m11, xkt_m12, xkt_m13, xkt_m14, xkt_m20, xjt_0, xjt_1, xjt_2, xjt_3, xjt_4, xjt_5, xjt_6, xjt_7, xjt_8, xjt_9, xjt_10, xjt_11, xjt_12, xjt_13, xjt_14, xjt_16, xjt_20, xjt_24, xjt_31, xjt_32, xjt_40, xjt_44, xjt_47, xjt_48, xjt_57, xjt_59, xjt_60, xjt_63, xjt_64, xjt_65, xjt_72, xjt_95, xjt_99, xjt_100, xjt_101, xjt_103, xjt_110, xjt_112, xjt_113, xjt_114, xjt_119, xjt_126, xjt_159, xjt_576, xjt_999, xjt_9999, xjt_65536, xjt_999999, xt64, xt_n, not_true_eq_false, not_false_eq_true, Classical.not_not] at c_1_0
    all_goals omega
  refine xw_if (fun c_1_1 => ?_) (fun c_1_1 => ?_)
  · skip
    exfalso
    try simp only [xB_dec, Classical.not_not] at c_1_0 c_1_1
    try simp (disch := omega) only [xt_eq, xt_lt, xt_le, xkt_0, xkt_1, xkt_2, xkt_3, xkt_4, xkt_5, xkt_6, xkt_7, xkt_8, xkt_9, xkt_10, xkt_11, xkt_12, xkt_13, xkt_14, xkt_16, xkt_20, xkt_24, xkt_31, xkt_32, xkt_40, xkt_44, xkt_47, xkt_48, xkt_57, xkt_59, xkt_60, xkt_63, xkt_64, xkt_65, xkt_72, xkt_95, xkt_99, xkt_100, xkt_101, xkt_103, xkt_110, xkt_112, xkt_113, xkt_114, xkt_119, xkt_126, xkt_159, xkt_576, xkt_999, xkt_9999, xkt_65536, xkt_999999, xkt_m1, xkt_m2, xkt_m3, xkt_m4, xkt_m11, xkt_m12, xkt_m13, xkt_m14, xkt_m20, xjt_0, xjt_1, xjt_2, xjt_3, xjt_4, xjt_5, xjt_6, xjt_7, xjt_8, xjt_9, xjt_10, xjt_11, xjt_12, xjt_13, xjt_14, xjt_16, xjt_20, xjt_24, xjt_31, xjt_32, xjt_40, xjt_44, xjt_47, xjt_48, xjt_57, xjt_59, xjt_60, xjt_63, xjt_64, xjt_65, xjt_72, xjt_95, xjt_99, xjt_100, xjt_101, xjt_103, xjt_110, xjt_112, xjt_113, xjt_114, xjt_119, xjt_126, xjt_159, xjt_576, xjt_999, xjt_9999, xjt_65536, xjt_999999, xt64, xt_n, not_true_eq_false, not_false_eq_true, Classical.not_not] at c_1_0 c_1_1
    all_goals omega
  refine xw_if (fun c_1_2 => ?_) (fun c_1_2 => ?_)
  · skip
    exfalso
    try simp only [xB_dec, Classical.not_not] at c_1_0 c_1_1 c_1_2
    try simp (disch := omega) only [xt_eq, xt_lt, xt_le, xkt_0, xkt_1, xkt_2, xkt_3, xkt_4, xkt_5, xkt_6, xkt_7, xkt_8, xkt_9, xkt_10, xkt_11, xkt_12, xkt_13, xkt_14, xkt_16, xkt_20, xkt_24, xkt_31, xkt_32, xkt_40, xkt_44, xkt_47, xkt_48, xkt_57, xkt_59, xkt_60, xkt_63, xkt_64, xkt_65, xkt_72, xkt_95, xkt_99, xkt_100, xkt_101, xkt_103, xkt_110, xkt_112, xkt_113, xkt_114, xkt_119, xkt_126, xkt_159, xkt_576, xkt_999, xkt_9999, xkt_65536, xkt_999999, xkt_m1, xkt_m2, xkt_m3, xkt_m4, xkt_m11, xkt_m12, xkt_m13, xkt_m14, xkt_m20, xjt_0, xjt_1, xjt_2, xjt_3, xjt_4, xjt_5, xjt_6, xjt_7, xjt_8, xjt_9, xjt_10, xjt_11, xjt_12, xjt_13, xjt_14, xjt_16, xjt_20, xjt_24, xjt_31, xjt_32, xjt_40, xjt_44, xjt_47, xjt_48, xjt_57, xjt_59, xjt_60, xjt_63, xjt_64, xjt_65, xjt_72, xjt_95, xjt_99, xjt_100, xjt_101, xjt_103, xjt_110, xjt_112, xjt_113, xjt_114, xjt_119, xjt_126, xjt_159, xjt_576, xjt_999, xjt_9999, xjt_65536, xjt_999999, xt64, xt_n, not_true_eq_false, not_false_eq_true, Classical.not_not] at c_1_0 c_1_1 c_1_2
    all_goals omega
  refine xw_if (fun c_1_3 => ?_) (fun c_1_3 => ?_)
  · skip
    exfalso
    try simp only [xB_dec, Classical.not_not] at c_1_0 c_1_1 c_1_2 c_1_3
    try simp (disch := omega) only [xt_eq, xt_lt, xt_le, xkt_0, xkt_1, xkt_2, xkt_3, xkt_4, xkt_5, xkt_6, xkt_7, xkt_8, xkt_9, xkt_10, xkt_11, xkt_12, xkt_13, xkt_14, xkt_16, xkt_20, xkt_24, xkt_31, xkt_32, xkt_40, xkt_44, xkt_47, xkt_48, xkt_57, xkt_59, xkt_60, xkt_63, xkt_64, xkt_65, xkt_72, xkt_95, xkt_99, xkt_100, xkt_101, xkt_103, xkt_110, xkt_112, xkt_113, xkt_114, xkt_119, xkt_126, xkt_159, xkt_576, xkt_999, xkt_9999, xkt_65536, xkt_999999, xkt_m1, xkt_m2, xkt_m3, xkt_m4, xkt_m11, xkt_m12, xkt_m13, xkt_m14, xkt_m20, xjt_0, xjt_1, xjt_2, xjt_3, xjt_4, xjt_5, xjt_6, xjt_7, xjt_8, xjt_9, xjt_10, xjt_11, xjt_12, xjt_13, xjt_14, xjt_16, xjt_20, xjt_24, xjt_31, xjt_32, xjt_40, xjt_44, xjt_47, xjt_48, xjt_57, xjt_59, xjt_60, xjt_63, xjt_64, xjt_65, xjt_72, xjt_95, xjt_99, xjt_100, xjt_101, xjt_103, xjt_110, xjt_112, xjt_113, xjt_114, xjt_119, xjt_126, xjt_159, xjt_576, xjt_999, xjt_9999, xjt_65536, xjt_999999, xt64, xt_n, not_true_eq_false, not_false_eq_true, Classical.not_not] at c_1_0 c_1_1 c_1_2 c_1_3
    all_goals omega
  refine xw_if (fun c_1_4 => ?_) (fun c_1_4 => ?_)
  · skip
    exfalso
    try simp only [xB_dec, Classical.not_not] at c_1_0 c_1_1 c_1_2 c_1_3 c_1_4
    try simp (disch := omega) only [xt_eq, xt_lt, xt_le, xkt_0, xkt_1, xkt_2, xkt_3, xkt_4, xkt_5, xkt_6, xkt_7, xkt_8, xkt_9, xkt_10, xkt_11, xkt_12, xkt_13, xkt_14, xkt_16, xkt_20, xkt_24, xkt_31, xkt_32, xkt_40, xkt_44, xkt_47, xkt_48, xkt_57, xkt_59, xkt_60, xkt_63, xkt_64, xkt_65, xkt_72, xkt_95, xkt_99, xkt_100, xkt_101, xkt_103, xkt_110, xkt_112, xkt_113, xkt_114, xkt_119, xkt_126, xkt_159, xkt_576, xkt_999, xkt_9999, xkt_65536, xkt_999999, xkt_m1, xkt_m2, xkt_m3, xkt_m4, xkt_m11, xkt_m12, xkt_m13, xkt_m14, xkt_m20, xjt_0, xjt_1, xjt_2, xjt_3, xjt_4, xjt_5, xjt_6, xjt_7, xjt_8, xjt_9, xjt_10, xjt_11, xjt_12, xjt_13, xjt_14, xjt_16, xjt_20, xjt_24, xjt_31, xjt_32, xjt_40, xjt_44, xjt_47, xjt_48, xjt_57, xjt_59, xjt_60, xjt_63, xjt_64, xjt_65, xjt_72, xjt_95, xjt_99, xjt_100, xjt_101, xjt_103, xjt_110, xjt_112, xjt_113, xjt_114, xjt_119, xjt_126, xjt_159, xjt_576, xjt_999, xjt_9999, xjt_65536, xjt_999999, xt64, xt_n, not_true_eq_false, not_false_eq_true, Classical.not_not] at c_1_0 c_1_1 c_1_2 c_1_3 c_1_4
    all_goals omega
  refine xw_if (fun c_1_5 => ?_) (fun c_1_5 => ?_)
  · skip
    exfalso
    try simp only [xB_dec, Classical.not_not] at c_1_0 c_1_1 c_1_2 c_1_3 c_1_4 c_1_5
    try simp (disch := omega) only [xt_eq, xt_lt, xt_le, xkt_0, xkt_1, xkt_2, xkt_3, xkt_4, xkt_5, xkt_6, xkt_7, xkt_8, xkt_9, xkt_10, xkt_11, xkt_12, xkt_13, xkt_14, xkt_16, xkt_20, xkt_24, xkt_31, xkt_32, xkt_40, xkt_44, xkt_47, xkt_48, xkt_57, xkt_59, xkt_60, xkt_63, xkt_64, xkt_65, xkt_72, xkt_95, xkt_99, xkt_100, xkt_101, xkt_103, xkt_110, xkt_112, xkt_113, xkt_114, xkt_119, xkt_126, xkt_159, xkt_576, xkt_999, xkt_9999, xkt_65536, xkt_999999, xkt_m1, xkt_m2, xkt_m3, xkt_m4, xkt_m11, xkt_m12, xkt_m13, xkt_m14, xkt_m20, xjt_0, xjt_1, xjt_2, xjt_3, xjt_4, xjt_5, xjt_6, xjt_7, xjt_8, xjt_9, xjt_10, xjt_11, xjt_12, xjt_13, xjt_14, xjt_16, xjt_20, xjt_24, xjt_31, xjt_32, xjt_40, xjt_44, xjt_47, xjt_48, xjt_57, xjt_59, xjt_60, xjt_63, xjt_64, xjt_65, xjt_72, xjt_95, xjt_99, xjt_100, xjt_101, xjt_103, xjt_110, xjt_112, xjt_113, xjt_114, xjt_119, xjt_126, xjt_159, xjt_576, xjt_999, xjt_9999, xjt_65536, xjt_999999, xt64, xt_n, not_true_eq_false, not_false_eq_true, Classical.not_not] at c_1_0 c_1_1 c_1_2 c_1_3 c_1_4 c_1_5
    all_goals omega
  refine xw_if (fun c_1_6 => ?_) (fun c_1_6 => ?_)
  · skip
    exfalso
    try simp only [xB_dec, Classical.not_not] at c_1_0 c_1_1 c_1_2 c_1_3 c_1_4 c_1_5 c_1_6
    try simp (disch := omega) only [xt_eq, xt_lt, xt_le, xkt_0, xkt_1, xkt_2, xkt_3, xkt_4, xkt_5, xkt_6, xkt_7, xkt_8, xkt_9, xkt_10, xkt_11, xkt_12, xkt_13, xkt_14, xkt_16, xkt_20, xkt_24, xkt_31, xkt_32, xkt_40, xkt_44, xkt_47, xkt_48, xkt_57, xkt_59, xkt_60, xkt_63, xkt_64, xkt_65, xkt_72, xkt_95, xkt_99, xkt_100, xkt_101, xkt_103, xkt_110, xkt_112, xkt_113, xkt_114, xkt_119, xkt_126, xkt_159, xkt_576, xkt_999, xkt_9999, xkt_65536, xkt_999999, xkt_m1, xkt_m2, xkt_m3, xkt_m4, xkt_m11, xkt_m12, xkt_m13, xkt_m14, xkt_m20, xjt_0, xjt_1, xjt_2, xjt_3, xjt_4, xjt_5, xjt_6, xjt_7, xjt_8, xjt_9, xjt_10, xjt_11, xjt_12, xjt_13, xjt_14, xjt_16, xjt_20, xjt_24, xjt_31, xjt_32, xjt_40, xjt_44, xjt_47, xjt_48, xjt_57, xjt_59, xjt_60, xjt_63, xjt_64, xjt_65, xjt_72, xjt_95, xjt_99, xjt_100, xjt_101, xjt_103, xjt_110, xjt_112, xjt_113, xjt_114, xjt_119, xjt_126, xjt_159, xjt_576, xjt_999, xjt_9999, xjt_65536, xjt_999999, xt64, xt_n, not_true_eq_false, not_false_eq_true, Classical.not_not] at c_1_0 c_1_1 c_1_2 c_1_3 c_1_4 c_1_5 c_1_6
    all_goals omega
  refine xw_if (fun c_1_7 => ?_) (fun c_1_7 => ?_)
  · skip
    exfalso
    try simp only [xB_dec, Classical.not_not] at c_1_0 c_1_1 c_1_2 c_1_3 c_1_4 c_1_5 c_1_6 c_1_7
    try simp (disch := omega) only [xt_eq, xt_lt, xt_le, xkt_0, xkt_1, xkt_2, xkt_3, xkt_4, xkt_5, xkt_6, xkt_7, xkt_8, xkt_9, xkt_10, xkt_11, xkt_12, xkt_13, xkt_14, xkt_16, xkt_20, xkt_24, xkt_31, xkt_32, xkt_40, xkt_44, xkt_47, xkt_48, xkt_57, xkt_59, xkt_60, xkt_63, xkt_64, xkt_65, xkt_72, xkt_95, xkt_99, xkt_100, xkt_101, xkt_103, xkt_110, xkt_112, xkt_113, xkt_114, xkt_119, xkt_126, xkt_159, xkt_576, xkt_999, xkt_9999, xkt_65536, xkt_999999, xkt_m1, xkt_m2, xkt_m3, xkt_m4, xkt_m11, xkt_m12, xkt_m13, xkt_m14, xkt_m20, xjt_0, xjt_1, xjt_2, xjt_3, xjt_4, xjt_5, xjt_6, xjt_7, xjt_8, xjt_9, xjt_10, xjt_11, xjt_12, xjt_13, xjt_14, xjt_16, xjt_20, xjt_24, xjt_31, xjt_32, xjt_40, xjt_44, xjt_47, xjt_48, xjt_57, xjt_59, xjt_60, xjt_63, xjt_64, xjt_65, xjt_72, xjt_95, xjt_99, xjt_100, xjt_101, xjt_103, xjt_110, xjt_112, xjt_113, xjt_114, xjt_119, xjt_126, xjt_159, xjt_576, xjt_999, xjt_9999, xjt_65536, xjt_999999, xt64, xt_n, not_true_eq_false, not_false_eq_true, Classical.not_not] at c_1_0 c_1_1 c_1_2 c_1_3 c_1_4 c_1_5 c_1_6 c_1_7
    all_goals omega
  refine xw_if (fun c_1_8 => ?_) (fun c_1_8 => ?_)
  · skip
    exfalso
    try simp only [xB_dec, Classical.not_not] at c_1_0 c_1_1 c_1_2 c_1_3 c_1_4 c_1_5 c_1_6 c_1_7 c_1_8
    try simp (disch := omega) only [xt_eq, xt_lt, xt_le, xkt_0, xkt_1, xkt_2, xkt_3, xkt_4, xkt_5, xkt_6, xkt_7, xkt_8, xkt_9, xkt_10, xkt_11, xkt_12, xkt_13, xkt_14, xkt_16, xkt_20, xkt_24, xkt_31, xkt_32, xkt_40, xkt_44, xkt_47, xkt_48, xkt_57, xkt_59, xkt_60, xkt_63, xkt_64, xkt_65, xkt_72, xkt_95, xkt_99, xkt_100, xkt_101, xkt_103, xkt_110, xkt_112, xkt_113, xkt_114, xkt_119, xkt_126, xkt_159, xkt_576, xkt_999, xkt_9999, xkt_65536, xkt_999999, xkt_m1, xkt_m2, xkt_m3, xkt_m4, xkt_m11, xkt_m12, xkt_m13, xkt_m14, xkt_m20, xjt_0, xjt_1, xjt_2, xjt_3, xjt_4, xjt_5, xjt_6, xjt_7, xjt_8, xjt_9, xjt_10, xjt_11, xjt_12, xjt_13, xjt_14, xjt_16, xjt_20, xjt_24, xjt_31, xjt_32, xjt_40, xjt_44, xjt_47, xjt_48, xjt_57, xjt_59, xjt_60, xjt_63, xjt_64, xjt_65, xjt_72, xjt_95, xjt_99, xjt_100, xjt_101, xjt_103, xjt_110, xjt_112, xjt_113, xjt_114, xjt_119, xjt_126, xjt_159, xjt_576, xjt_999, xjt_9999, xjt_65536, xjt_999999, xt64, xt_n, not_true_eq_false, not_false_eq_true, Classical.not_not] at c_1_0 c_1_1 c_1_2 c_1_3 c_1_4 c_1_5 c_1_6 c_1_7 c_1_8
    all_goals omega
  refine xw_if (fun c_1_9 => ?_) (fun c_1_9 => ?_)
  · skip
    exfalso
    try simp only [xB_dec, Classical.not_not] at c_1_0 c_1_1 c_1_2 c_1_3 c_1_4 c_1_5 c_1_6 c_1_7 c_1_8 c_1_9
    try simp (disch := omega) only [xt_eq, xt_lt, xt_le, xkt_0, xkt_1, xkt_2, xkt_3, xkt_4, xkt_5, xkt_6, xkt_7, xkt_8, xkt_9, xkt_10, xkt_11, xkt_12, xkt_13, xkt_14, xkt_16, xkt_20, xkt_24, xkt_31, xkt_32, xkt_40, xkt_44, xkt_47, xkt_48, xkt_57, xkt_59, xkt_60, xkt_63, xkt_64, xkt_65, xkt_72, xkt_95, xkt_99, xkt_100, xkt_101, xkt_103, xkt_110, xkt_112, xkt_113, xkt_114, xkt_119, xkt_126, xkt_159, xkt_576, xkt_999, xkt_9999, xkt_65536, xkt_999999, xkt_m1, xkt_m2, xkt_m3, xkt_m4, xkt_m11, xkt_m12, xkt_m13, xkt_m14, xkt_m20, xjt_0, xjt_1, xjt_2, xjt_3, xjt_4, xjt_5, xjt_6, xjt_7, xjt_8, xjt_9, xjt_10, xjt_11, xjt_12, xjt_13, xjt_14, xjt_16, xjt_20, xjt_24, xjt_31, xjt_32, xjt_40, xjt_44, xjt_47, xjt_48, xjt_57, xjt_59, xjt_60, xjt_63, xjt_64, xjt_65, xjt_72, xjt_95, xjt_99, xjt_100, xjt_101, xjt_103, xjt_110, xjt_112, xjt_113, xjt_114, xjt_119, xjt_126, xjt_159, xjt_576, xjt_999, xjt_9999, xjt_65536, xjt_999999, xt64, xt_n, not_true_eq_false, not_false_eq_true, Classical.not_not] at c_1_0 c_1_1 c_1_2 c_1_3 c_1_4 c_1_5 c_1_6 c_1_7 c_1_8 c_1_9
    all_goals omega
  refine xw_if (fun c_1_10 => ?_) (fun c_1_10 => ?_)
  · skip
    exfalso
    try simp only [xB_dec, Classical.not_not] at c_1_0 c_1_1 c_1_2 c_1_3 c_1_4 c_1_5 c_1_6 c_1_7 c_1_8 c_1_9 c_1_10
    try simp (disch := omega) only [xt_eq, xt_lt, xt_le, xkt_0, xkt_1, xkt_2, xkt_3, xkt_4, xkt_5, xkt_6, xkt_7, xkt_8, xkt_9, xkt_10, xkt_11, xkt_12, xkt_13, xkt_14, xkt_16, xkt_20, xkt_24, xkt_31, xkt_32, xkt_40, xkt_44, xkt_47, xkt_48, xkt_57, xkt_59, xkt_60, xkt_63, xkt_64, xkt_65, xkt_72, xkt_95, xkt_99, xkt_100, xkt_101, xkt_103, xkt_110, xkt_112, xkt_113, xkt_114, xkt_119, xkt_126, xkt_159, xkt_576, xkt_999, xkt_9999, xkt_65536, xkt_999999, xkt_m1, xkt_m2, xkt_m3, xkt_m4, xkt_m11, xkt_m12, xkt_m13, xkt_m14, xkt_m20, xjt_0, xjt_1, xjt_2, xjt_3, xjt_4, xjt_5, xjt_6, xjt_7, xjt_8, xjt_9, xjt_10, xjt_11, xjt_12, xjt_13, xjt_14, xjt_16, xjt_20, xjt_24, xjt_31, xjt_32, xjt_40, xjt_44, xjt_47, xjt_48, xjt_57, xjt_59, xjt_60, xjt_63, xjt_64, xjt_65, xjt_72, xjt_95, xjt_99, xjt_100, xjt_101, xjt_103, xjt_110, xjt_112, xjt_113, xjt_114, xjt_119, xjt_126, xjt_159, xjt_576, xjt_999, xjt_9999, xjt_65536, xjt_999999, xt64, xt_n, not_true_eq_false, not_false_eq_true, Classical.not_not] at c_1_0 c_1_1 c_1_2 c_1_3 c_1_4 c_1_5 c_1_6 c_1_7 c_1_8 c_1_9 c_1_10
    all_goals omega
  refine xw_if (fun c_1_11 => ?_) (fun c_1_11 => ?_)
  · skip
    exfalso
    try simp only [xB_dec, Classical.not_not] at c_1_0 c_1_1 c_1_2 c_1_3 c_1_4 c_1_5 c_1_6 c_1_7 c_1_8 c_1_9 c_1_10 c_1_11
    try simp (disch := omega) only [xt_eq, xt_lt, xt_le, xkt_0, xkt_1, xkt_2, xkt_3, xkt_4, xkt_5, xkt_6, xkt_7, xkt_8, xkt_9, xkt_10, xkt_11, xkt_12, xkt_13, xkt_14, xkt_16, xkt_20, xkt_24, xkt_31, xkt_32, xkt_40, xkt_44, xkt_47, xkt_48, xkt_57, xkt_59, xkt_60, xkt_63, xkt_64, xkt_65, xkt_72, xkt_95, xkt_99, xkt_100, xkt_101, xkt_103, xkt_110, xkt_112, xkt_113, xkt_114, xkt_119, xkt_126, xkt_159, xkt_576, xkt_999, xkt_9999, xkt_65536, xkt_999999, xkt_m1, xkt_m2, xkt_m3, xkt_m4, xkt_m11, xkt_m12, xkt_m13, xkt_m14, xkt_m20, xjt_0, xjt_1, xjt_2, xjt_3, xjt_4, xjt_5, xjt_6, xjt_7, xjt_8, xjt_9, xjt_10, xjt_11, xjt_12, xjt_13, xjt_14, xjt_16, xjt_20, xjt_24, xjt_31, xjt_32, xjt_40, xjt_44, xjt_47, xjt_48, xjt_57, xjt_59, xjt_60, xjt_63, xjt_64, xjt_65, xjt_72, xjt_95, xjt_99, xjt_100, xjt_101, xjt_103, xjt_110, xjt_112, xjt_113, xjt_114, xjt_119, xjt_126, xjt_159, xjt_576, xjt_999, xjt_9999, xjt_65536, xjt_999999, xt64, xt_n, not_true_eq_false, not_false_eq_true, Classical.not_not] at c_1_0 c_1_1 c_1_2 c_1_3 c_1_4 c_1_5 c_1_6 c_1_7 c_1_8 c_1_9 c_1_10 c_1_11
    all_goals omega
  refine xw_if (fun c_1_12 => ?_) (fun c_1_12 => ?_)
  · skip
    exfalso
    try simp only [xB_dec, Classical.not_not] at c_1_0 c_1_1 c_1_2 c_1_3 c_1_4 c_1_5 c_1_6 c_1_7 c_1_8 c_1_9 c_1_10 c_1_11 c_1_12
    try simp (disch := omega) only [xt_eq, xt_lt, xt_le, xkt_0, xkt_1, xkt_2, xkt_3, xkt_4, xkt_5, xkt_6, xkt_7, xkt_8, xkt_9, xkt_10, xkt_11, xkt_12, xkt_13, xkt_14, xkt_16, xkt_20, xkt_24, xkt_31, xkt_32, xkt_40, xkt_44, xkt_47, xkt_48, xkt_57, xkt_59, xkt_60, xkt_63, xkt_64, xkt_65, xkt_72, xkt_95, xkt_99, xkt_100, xkt_101, xkt_103, xkt_110, xkt_112, xkt_113, xkt_114, xkt_119, xkt_126, xkt_159, xkt_576, xkt_999, xkt_9999, xkt_65536, xkt_999999, xkt_m1, xkt_m2, xkt_m3, xkt_m4, xkt_m11, xkt_m12, xkt_m13, xkt_m14, xkt_m20, xjt_0, xjt_1, xjt_2, xjt_3, xjt_4, xjt_5, xjt_6, xjt_7, xjt_8, xjt_9, xjt_10, xjt_11, xjt_12, xjt_13, xjt_14, xjt_16, xjt_20, xjt_24, xjt_31, xjt_32, xjt_40, xjt_44, xjt_47, xjt_48, xjt_57, xjt_59, xjt_60, xjt_63, xjt_64, xjt_65, xjt_72, xjt_95, xjt_99, xjt_100, xjt_101, xjt_103, xjt_110, xjt_112, xjt_113, xjt_114, xjt_119, xjt_126, xjt_159, xjt_576, xjt_999, xjt_9999, xjt_65536, xjt_999999, xt64, xt_n, not_true_eq_false, not_false_eq_true, Classical.not_not] at c_1_0 c_1_1 c_1_2 c_1_3 c_1_4 c_1_5 c_1_6 c_1_7 c_1_8 c_1_9 c_1_10 c_1_11 c_1_12
    all_goals omega
  refine xw_at (f' := (182, [.ref 0, .int x], [])) (h' := (xS b, I, L, xP b)) rfl rfl ?_
  refine xw_go xb_55 1 (f1 := (183, [.ref 0, .int x], [.int (-1)])) (h1 := (xS b, I, L, xP b)) rfl trivial ?_
  refine xw_ret xb_55 rfl rfl trivial ?_
  exact xQC_same hP

theorem c_count1 {d : Nat} {b : Bool} {I : Nat → Nat → Int32} {L : Nat → Nat → Int64} {N : Nat → Nat} {u : Nat} {U : Nat → Nat → Nat} (hP : xPL N u U 1 I) (hK : xUK N u U) {k : Nat} (hk : k < 10) {x : Int32} (e_x : x = nI k) : xm_Z (d + 4) 55 [.ref 0, .int x] (xS b, I, L, xP b) (fun rz hz => xQC b I L (nI (N k)) N u U rz hz) := by
  subst e_x
  have hO := hK.1
  have hb := hK.1.1
  have c64 : N 0 * N 1 ≤ 64 := xce_le hO
  have c4 : 4 ≤ N 0 * N 1 := xce_ge hO
  obtain ⟨⟨hN0, hN1, hN2, hN3, hN4, hN5, hN6, hN7, hN8, hN9, hN10⟩, hNs, hNw, hNp⟩ := hP.1
  refine xw_S xb_55 (l := [.ref 0, .int (nI k)]) (Nat.le_of_ble_eq_true rfl) rfl ?_
  refine xw_go xb_55 2 (f1 := (xm_sw [(0, 68), (1, 76), (2, 84), (3, 92), (4, 100), (5, 108), (6, 116), (7, 124), (8, 132), (9, 140), (10, 148), (11, 156), (12, 171)] 182 (nI k), [.ref 0, .int (nI k)], [])) (h1 := (xS b, I, L, xP b)) rfl trivial ?_
  refine xw_if (fun c_1_0 => ?_) (fun c_1_0 => ?_)
  · skip
    refine xw_go xb_55 3 (f1 := (75, [.ref 0, .int (nI k)], [.int (I 1 0)])) (h1 := (xS b, I, L, xP b)) rfl ⟨rfl, rfl, trivial⟩ ?_
    refine xw_ret xb_55 rfl rfl trivial ?_
    have ek : k = 0 := by
      try simp only [xB_dec, Classical.not_not] at c_1_0
      try simp (disch := omega) only [xt_eq, xt_lt, xt_le, xkt_0, xkt_1, xkt_2, xkt_3, xkt_4, xkt_5, xkt_6, xkt_7, xkt_8, xkt_9, xkt_10, xkt_11, xkt_12, xkt_13, xkt_14, xkt_16, xkt_20, xkt_24, xkt_31, xkt_32, xkt_40, xkt_44, xkt_47, xkt_48, xkt_57, xkt_59, xkt_60, xkt_63, xkt_64, xkt_65, xkt_72, xkt_95, xkt_99, xkt_100, xkt_101, xkt_103, xkt_110, xkt_112, xkt_113, xkt_114, xkt_119, xkt_126, xkt_159, xkt_576, xkt_999, xkt_9999, xkt_65536, xkt_999999, xkt_m1, xkt_m2, xkt_m3, xkt_m4, xkt_m11, xkt_m12, xkt_m13, xkt_m14, xkt_m20, xjt_0, xjt_1, xjt_2, xjt_3, xjt_4, xjt_5, xjt_6, xjt_7, xjt_8, xjt_9, xjt_10, xjt_11, xjt_12, xjt_13, xjt_14, xjt_16, xjt_20, xjt_24, xjt_31, xjt_32, xjt_40, xjt_44, xjt_47, xjt_48, xjt_57, xjt_59, xjt_60, xjt_63, xjt_64, xjt_65, xjt_72, xjt_95, xjt_99, xjt_100, xjt_101, xjt_103, xjt_110, xjt_112, xjt_113, xjt_114, xjt_119, xjt_126, xjt_159, xjt_576, xjt_999, xjt_9999, xjt_65536, xjt_999999, xt64, xt_n, not_true_eq_false, not_false_eq_true, Classical.not_not] at c_1_0
      all_goals omega
    subst ek
    exact ⟨xm_some (congrArg Value.int hN0), I, rfl, xPF_r I, hP⟩
  refine xw_if (fun c_1_1 => ?_) (fun c_1_1 => ?_)
  · skip
    refine xw_go xb_55 3 (f1 := (83, [.ref 0, .int (nI k)], [.int (I 1 1)])) (h1 := (xS b, I, L, xP b)) rfl ⟨rfl, rfl, trivial⟩ ?_
    refine xw_ret xb_55 rfl rfl trivial ?_
    have ek : k = 1 := by
      try simp only [xB_dec, Classical.not_not] at c_1_1
      try simp (disch := omega) only [xt_eq, xt_lt, xt_le, xkt_0, xkt_1, xkt_2, xkt_3, xkt_4, xkt_5, xkt_6, xkt_7, xkt_8, xkt_9, xkt_10, xkt_11, xkt_12, xkt_13, xkt_14, xkt_16, xkt_20, xkt_24, xkt_31, xkt_32, xkt_40, xkt_44, xkt_47, xkt_48, xkt_57, xkt_59, xkt_60, xkt_63, xkt_64, xkt_65, xkt_72, xkt_95, xkt_99, xkt_100, xkt_101, xkt_103, xkt_110, xkt_112, xkt_113, xkt_114, xkt_119, xkt_126, xkt_159, xkt_576, xkt_999, xkt_9999, xkt_65536, xkt_999999, xkt_m1, xkt_m2, xkt_m3, xkt_m4, xkt_m11, xkt_m12, xkt_m13, xkt_m14, xkt_m20, xjt_0, xjt_1, xjt_2, xjt_3, xjt_4, xjt_5, xjt_6, xjt_7, xjt_8, xjt_9, xjt_10, xjt_11, xjt_12, xjt_13, xjt_14, xjt_16, xjt_20, xjt_24, xjt_31, xjt_32, xjt_40, xjt_44, xjt_47, xjt_48, xjt_57, xjt_59, xjt_60, xjt_63, xjt_64, xjt_65, xjt_72, xjt_95, xjt_99, xjt_100, xjt_101, xjt_103, xjt_110, xjt_112, xjt_113, xjt_114, xjt_119, xjt_126, xjt_159, xjt_576, xjt_999, xjt_9999, xjt_65536, xjt_999999, xt64, xt_n, not_true_eq_false, not_false_eq_true, Classical.not_not] at c_1_1
      all_goals omega
    subst ek
    exact ⟨xm_some (congrArg Value.int hN1), I, rfl, xPF_r I, hP⟩
  refine xw_if (fun c_1_2 => ?_) (fun c_1_2 => ?_)
  · skip
    refine xw_go xb_55 3 (f1 := (91, [.ref 0, .int (nI k)], [.int (I 1 5)])) (h1 := (xS b, I, L, xP b)) rfl ⟨rfl, rfl, trivial⟩ ?_
    refine xw_ret xb_55 rfl rfl trivial ?_
    have ek : k = 2 := by
      try simp only [xB_dec, Classical.not_not] at c_1_2
      try simp (disch := omega) only [xt_eq, xt_lt, xt_le, xkt_0, xkt_1, xkt_2, xkt_3, xkt_4, xkt_5, xkt_6, xkt_7, xkt_8, xkt_9, xkt_10, xkt_11, xkt_12, xkt_13, xkt_14, xkt_16, xkt_20, xkt_24, xkt_31, xkt_32, xkt_40, xkt_44, xkt_47, xkt_48, xkt_57, xkt_59, xkt_60, xkt_63, xkt_64, xkt_65, xkt_72, xkt_95, xkt_99, xkt_100, xkt_101, xkt_103, xkt_110, xkt_112, xkt_113, xkt_114, xkt_119, xkt_126, xkt_159, xkt_576, xkt_999, xkt_9999, xkt_65536, xkt_999999, xkt_m1, xkt_m2, xkt_m3, xkt_m4, xkt_m11, xkt_m12, xkt_m13, xkt_m14, xkt_m20, xjt_0, xjt_1, xjt_2, xjt_3, xjt_4, xjt_5, xjt_6, xjt_7, xjt_8, xjt_9, xjt_10, xjt_11, xjt_12, xjt_13, xjt_14, xjt_16, xjt_20, xjt_24, xjt_31, xjt_32, xjt_40, xjt_44, xjt_47, xjt_48, xjt_57, xjt_59, xjt_60, xjt_63, xjt_64, xjt_65, xjt_72, xjt_95, xjt_99, xjt_100, xjt_101, xjt_103, xjt_110, xjt_112, xjt_113, xjt_114, xjt_119, xjt_126, xjt_159, xjt_576, xjt_999, xjt_9999, xjt_65536, xjt_999999, xt64, xt_n, not_true_eq_false, not_false_eq_true, Classical.not_not] at c_1_2
      all_goals omega
    subst ek
    exact ⟨xm_some (congrArg Value.int hN2), I, rfl, xPF_r I, hP⟩
  refine xw_if (fun c_1_3 => ?_) (fun c_1_3 => ?_)
  · skip
    refine xw_go xb_55 3 (f1 := (99, [.ref 0, .int (nI k)], [.int (I 1 6)])) (h1 := (xS b, I, L, xP b)) rfl ⟨rfl, rfl, trivial⟩ ?_
    refine xw_ret xb_55 rfl rfl trivial ?_
    have ek : k = 3 := by
      try simp only [xB_dec, Classical.not_not] at c_1_3
      try simp (disch := omega) only [xt_eq, xt_lt, xt_le, xkt_0, xkt_1, xkt_2, xkt_3, xkt_4, xkt_5, xkt_6, xkt_7, xkt_8, xkt_9, xkt_10, xkt_11, xkt_12, xkt_13, xkt_14, xkt_16, xkt_20, xkt_24, xkt_31, xkt_32, xkt_40, xkt_44, xkt_47, xkt_48, xkt_57, xkt_59, xkt_60, xkt_63, xkt_64, xkt_65, xkt_72, xkt_95, xkt_99, xkt_100, xkt_101, xkt_103, xkt_110, xkt_112, xkt_113, xkt_114, xkt_119, xkt_126, xkt_159, xkt_576, xkt_999, xkt_9999, xkt_65536, xkt_999999, xkt_m1, xkt_m2, xkt_m3, xkt_m4, xkt_m11, xkt_m12, xkt_m13, xkt_m14, xkt_m20, xjt_0, xjt_1, xjt_2, xjt_3, xjt_4, xjt_5, xjt_6, xjt_7, xjt_8, xjt_9, xjt_10, xjt_11, xjt_12, xjt_13, xjt_14, xjt_16, xjt_20, xjt_24, xjt_31, xjt_32, xjt_40, xjt_44, xjt_47, xjt_48, xjt_57, xjt_59, xjt_60, xjt_63, xjt_64, xjt_65, xjt_72, xjt_95, xjt_99, xjt_100, xjt_101, xjt_103, xjt_110, xjt_112, xjt_113, xjt_114, xjt_119, xjt_126, xjt_159, xjt_576, xjt_999, xjt_9999, xjt_65536, xjt_999999, xt64, xt_n, not_true_eq_false, not_false_eq_true, Classical.not_not] at c_1_3
      all_goals omega
    subst ek
    exact ⟨xm_some (congrArg Value.int hN3), I, rfl, xPF_r I, hP⟩
  refine xw_if (fun c_1_4 => ?_) (fun c_1_4 => ?_)
  · skip
    refine xw_go xb_55 3 (f1 := (107, [.ref 0, .int (nI k)], [.int (I 1 11)])) (h1 := (xS b, I, L, xP b)) rfl ⟨rfl, rfl, trivial⟩ ?_
    refine xw_ret xb_55 rfl rfl trivial ?_
    have ek : k = 4 := by
      try simp only [xB_dec, Classical.not_not] at c_1_4
      try simp (disch := omega) only [xt_eq, xt_lt, xt_le, xkt_0, xkt_1, xkt_2, xkt_3, xkt_4, xkt_5, xkt_6, xkt_7, xkt_8, xkt_9, xkt_10, xkt_11, xkt_12, xkt_13, xkt_14, xkt_16, xkt_20, xkt_24, xkt_31, xkt_32, xkt_40, xkt_44, xkt_47, xkt_48, xkt_57, xkt_59, xkt_60, xkt_63, xkt_64, xkt_65, xkt_72, xkt_95, xkt_99, xkt_100, xkt_101, xkt_103, xkt_110, xkt_112, xkt_113, xkt_114, xkt_119, xkt_126, xkt_159, xkt_576, xkt_999, xkt_9999, xkt_65536, xkt_999999, xkt_m1, xkt_m2, xkt_m3, xkt_m4, xkt_m11, xkt_m12, xkt_m13, xkt_m14, xkt_m20, xjt_0, xjt_1, xjt_2, xjt_3, xjt_4, xjt_5, xjt_6, xjt_7, xjt_8, xjt_9, xjt_10, xjt_11, xjt_12, xjt_13, xjt_14, xjt_16, xjt_20, xjt_24, xjt_31, xjt_32, xjt_40, xjt_44, xjt_47, xjt_48, xjt_57, xjt_59, xjt_60, xjt_63, xjt_64, xjt_65, xjt_72, xjt_95, xjt_99, xjt_100, xjt_101, xjt_103, xjt_110, xjt_112, xjt_113, xjt_114, xjt_119, xjt_126, xjt_159, xjt_576, xjt_999, xjt_9999, xjt_65536, xjt_999999, xt64, xt_n, not_true_eq_false, not_false_eq_true, Classical.not_not] at c_1_4
      all_goals omega
    subst ek
    exact ⟨xm_some (congrArg Value.int hN4), I, rfl, xPF_r I, hP⟩
  refine xw_if (fun c_1_5 => ?_) (fun c_1_5 => ?_)
  · skip
    refine xw_go xb_55 3 (f1 := (115, [.ref 0, .int (nI k)], [.int (I 1 7)])) (h1 := (xS b, I, L, xP b)) rfl ⟨rfl, rfl, trivial⟩ ?_
    refine xw_ret xb_55 rfl rfl trivial ?_
    have ek : k = 5 := by
      try simp only [xB_dec, Classical.not_not] at c_1_5
      try simp (disch := omega) only [xt_eq, xt_lt, xt_le, xkt_0, xkt_1, xkt_2, xkt_3, xkt_4, xkt_5, xkt_6, xkt_7, xkt_8, xkt_9, xkt_10, xkt_11, xkt_12, xkt_13, xkt_14, xkt_16, xkt_20, xkt_24, xkt_31, xkt_32, xkt_40, xkt_44, xkt_47, xkt_48, xkt_57, xkt_59, xkt_60, xkt_63, xkt_64, xkt_65, xkt_72, xkt_95, xkt_99, xkt_100, xkt_101, xkt_103, xkt_110, xkt_112, xkt_113, xkt_114, xkt_119, xkt_126, xkt_159, xkt_576, xkt_999, xkt_9999, xkt_65536, xkt_999999, xkt_m1, xkt_m2, xkt_m3, xkt_m4, xkt_m11, xkt_m12, xkt_m13, xkt_m14, xkt_m20, xjt_0, xjt_1, xjt_2, xjt_3, xjt_4, xjt_5, xjt_6, xjt_7, xjt_8, xjt_9, xjt_10, xjt_11, xjt_12, xjt_13, xjt_14, xjt_16, xjt_20, xjt_24, xjt_31, xjt_32, xjt_40, xjt_44, xjt_47, xjt_48, xjt_57, xjt_59, xjt_60, xjt_63, xjt_64, xjt_65, xjt_72, xjt_95, xjt_99, xjt_100, xjt_101, xjt_103, xjt_110, xjt_112, xjt_113, xjt_114, xjt_119, xjt_126, xjt_159, xjt_576, xjt_999, xjt_9999, xjt_65536, xjt_999999, xt64, xt_n, not_true_eq_false, not_false_eq_true, Classical.not_not] at c_1_5
      all_goals omega
    subst ek
    exact ⟨xm_some (congrArg Value.int hN5), I, rfl, xPF_r I, hP⟩
  refine xw_if (fun c_1_6 => ?_) (fun c_1_6 => ?_)
  · skip
    refine xw_go xb_55 3 (f1 := (123, [.ref 0, .int (nI k)], [.int (I 1 8)])) (h1 := (xS b, I, L, xP b)) rfl ⟨rfl, rfl, trivial⟩ ?_
    refine xw_ret xb_55 rfl rfl trivial ?_
    have ek : k = 6 := by
      try simp only [xB_dec, Classical.not_not] at c_1_6
      try simp (disch := omega) only [xt_eq, xt_lt, xt_le, xkt_0, xkt_1, xkt_2, xkt_3, xkt_4, xkt_5, xkt_6, xkt_7, xkt_8, xkt_9, xkt_10, xkt_11, xkt_12, xkt_13, xkt_14, xkt_16, xkt_20, xkt_24, xkt_31, xkt_32, xkt_40, xkt_44, xkt_47, xkt_48, xkt_57, xkt_59, xkt_60, xkt_63, xkt_64, xkt_65, xkt_72, xkt_95, xkt_99, xkt_100, xkt_101, xkt_103, xkt_110, xkt_112, xkt_113, xkt_114, xkt_119, xkt_126, xkt_159, xkt_576, xkt_999, xkt_9999, xkt_65536, xkt_999999, xkt_m1, xkt_m2, xkt_m3, xkt_m4, xkt_m11, xkt_m12, xkt_m13, xkt_m14, xkt_m20, xjt_0, xjt_1, xjt_2, xjt_3, xjt_4, xjt_5, xjt_6, xjt_7, xjt_8, xjt_9, xjt_10, xjt_11, xjt_12, xjt_13, xjt_14, xjt_16, xjt_20, xjt_24, xjt_31, xjt_32, xjt_40, xjt_44, xjt_47, xjt_48, xjt_57, xjt_59, xjt_60, xjt_63, xjt_64, xjt_65, xjt_72, xjt_95, xjt_99, xjt_100, xjt_101, xjt_103, xjt_110, xjt_112, xjt_113, xjt_114, xjt_119, xjt_126, xjt_159, xjt_576, xjt_999, xjt_9999, xjt_65536, xjt_999999, xt64, xt_n, not_true_eq_false, not_false_eq_true, Classical.not_not] at c_1_6
      all_goals omega
    subst ek
    exact ⟨xm_some (congrArg Value.int hN6), I, rfl, xPF_r I, hP⟩
  refine xw_if (fun c_1_7 => ?_) (fun c_1_7 => ?_)
  · skip
    refine xw_go xb_55 3 (f1 := (131, [.ref 0, .int (nI k)], [.int (I 1 9)])) (h1 := (xS b, I, L, xP b)) rfl ⟨rfl, rfl, trivial⟩ ?_
    refine xw_ret xb_55 rfl rfl trivial ?_
    have ek : k = 7 := by
      try simp only [xB_dec, Classical.not_not] at c_1_7
      try simp (disch := omega) only [xt_eq, xt_lt, xt_le, xkt_0, xkt_1, xkt_2, xkt_3, xkt_4, xkt_5, xkt_6, xkt_7, xkt_8, xkt_9, xkt_10, xkt_11, xkt_12, xkt_13, xkt_14, xkt_16, xkt_20, xkt_24, xkt_31, xkt_32, xkt_40, xkt_44, xkt_47, xkt_48, xkt_57, xkt_59, xkt_60, xkt_63, xkt_64, xkt_65, xkt_72, xkt_95, xkt_99, xkt_100, xkt_101, xkt_103, xkt_110, xkt_112, xkt_113, xkt_114, xkt_119, xkt_126, xkt_159, xkt_576, xkt_999, xkt_9999, xkt_65536, xkt_999999, xkt_m1, xkt_m2, xkt_m3, xkt_m4, xkt_m11, xkt_m12, xkt_m13, xkt_m14, xkt_m20, xjt_0, xjt_1, xjt_2, xjt_3, xjt_4, xjt_5, xjt_6, xjt_7, xjt_8, xjt_9, xjt_10, xjt_11, xjt_12, xjt_13, xjt_14, xjt_16, xjt_20, xjt_24, xjt_31, xjt_32, xjt_40, xjt_44, xjt_47, xjt_48, xjt_57, xjt_59, xjt_60, xjt_63, xjt_64, xjt_65, xjt_72, xjt_95, xjt_99, xjt_100, xjt_101, xjt_103, xjt_110, xjt_112, xjt_113, xjt_114, xjt_119, xjt_126, xjt_159, xjt_576, xjt_999, xjt_9999, xjt_65536, xjt_999999, xt64, xt_n, not_true_eq_false, not_false_eq_true, Classical.not_not] at c_1_7
      all_goals omega
    subst ek
    exact ⟨xm_some (congrArg Value.int hN7), I, rfl, xPF_r I, hP⟩
  refine xw_if (fun c_1_8 => ?_) (fun c_1_8 => ?_)
  · skip
    refine xw_go xb_55 3 (f1 := (139, [.ref 0, .int (nI k)], [.int (I 1 10)])) (h1 := (xS b, I, L, xP b)) rfl ⟨rfl, rfl, trivial⟩ ?_
    refine xw_ret xb_55 rfl rfl trivial ?_
    have ek : k = 8 := by
      try simp only [xB_dec, Classical.not_not] at c_1_8
      try simp (disch := omega) only [xt_eq, xt_lt, xt_le, xkt_0, xkt_1, xkt_2, xkt_3, xkt_4, xkt_5, xkt_6, xkt_7, xkt_8, xkt_9, xkt_10, xkt_11, xkt_12, xkt_13, xkt_14, xkt_16, xkt_20, xkt_24, xkt_31, xkt_32, xkt_40, xkt_44, xkt_47, xkt_48, xkt_57, xkt_59, xkt_60, xkt_63, xkt_64, xkt_65, xkt_72, xkt_95, xkt_99, xkt_100, xkt_101, xkt_103, xkt_110, xkt_112, xkt_113, xkt_114, xkt_119, xkt_126, xkt_159, xkt_576, xkt_999, xkt_9999, xkt_65536, xkt_999999, xkt_m1, xkt_m2, xkt_m3, xkt_m4, xkt_m11, xkt_m12, xkt_m13, xkt_m14, xkt_m20, xjt_0, xjt_1, xjt_2, xjt_3, xjt_4, xjt_5, xjt_6, xjt_7, xjt_8, xjt_9, xjt_10, xjt_11, xjt_12, xjt_13, xjt_14, xjt_16, xjt_20, xjt_24, xjt_31, xjt_32, xjt_40, xjt_44, xjt_47, xjt_48, xjt_57, xjt_59, xjt_60, xjt_63, xjt_64, xjt_65, xjt_72, xjt_95, xjt_99, xjt_100, xjt_101, xjt_103, xjt_110, xjt_112, xjt_113, xjt_114, xjt_119, xjt_126, xjt_159, xjt_576, xjt_999, xjt_9999, xjt_65536, xjt_999999, xt64, xt_n, not_true_eq_false, not_false_eq_true, Classical.not_not] at c_1_8
      all_goals omega
    subst ek
    exact ⟨xm_some (congrArg Value.int hN8), I, rfl, xPF_r I, hP⟩
  refine xw_if (fun c_1_9 => ?_) (fun c_1_9 => ?_)
  · skip
    refine xw_go xb_55 3 (f1 := (147, [.ref 0, .int (nI k)], [.int (I 1 12)])) (h1 := (xS b, I, L, xP b)) rfl ⟨rfl, rfl, trivial⟩ ?_
    refine xw_ret xb_55 rfl rfl trivial ?_
    have ek : k = 9 := by
      try simp only [xB_dec, Classical.not_not] at c_1_9
      try simp (disch := omega) only [xt_eq, xt_lt, xt_le, xkt_0, xkt_1, xkt_2, xkt_3, xkt_4, xkt_5, xkt_6, xkt_7, xkt_8, xkt_9, xkt_10, xkt_11, xkt_12, xkt_13, xkt_14, xkt_16, xkt_20, xkt_24, xkt_31, xkt_32, xkt_40, xkt_44, xkt_47, xkt_48, xkt_57, xkt_59, xkt_60, xkt_63, xkt_64, xkt_65, xkt_72, xkt_95, xkt_99, xkt_100, xkt_101, xkt_103, xkt_110, xkt_112, xkt_113, xkt_114, xkt_119, xkt_126, xkt_159, xkt_576, xkt_999, xkt_9999, xkt_65536, xkt_999999, xkt_m1, xkt_m2, xkt_m3, xkt_m4, xkt_m11, xkt_m12, xkt_m13, xkt_m14, xkt_m20, xjt_0, xjt_1, xjt_2, xjt_3, xjt_4, xjt_5, xjt_6, xjt_7, xjt_8, xjt_9, xjt_10, xjt_11, xjt_12, xjt_13, xjt_14, xjt_16, xjt_20, xjt_24, xjt_31, xjt_32, xjt_40, xjt_44, xjt_47, xjt_48, xjt_57, xjt_59, xjt_60, xjt_63, xjt_64, xjt_65, xjt_72, xjt_95, xjt_99, xjt_100, xjt_101, xjt_103, xjt_110, xjt_112, xjt_113, xjt_114, xjt_119, xjt_126, xjt_159, xjt_576, xjt_999, xjt_9999, xjt_65536, xjt_999999, xt64, xt_n, not_true_eq_false, not_false_eq_true, Classical.not_not] at c_1_9
      all_goals omega
    subst ek
    exact ⟨xm_some (congrArg Value.int hN9), I, rfl, xPF_r I, hP⟩
  refine xw_if (fun c_1_10 => ?_) (fun c_1_10 => ?_)
  · skip
    exfalso
    try simp only [xB_dec, Classical.not_not] at c_1_0 c_1_1 c_1_2 c_1_3 c_1_4 c_1_5 c_1_6 c_1_7 c_1_8 c_1_9 c_1_10
    try simp (disch := omega) only [xt_eq, xt_lt, xt_le, xkt_0, xkt_1, xkt_2, xkt_3, xkt_4, xkt_5, xkt_6, xkt_7, xkt_8, xkt_9, xkt_10, xkt_11, xkt_12, xkt_13, xkt_14, xkt_16, xkt_20, xkt_24, xkt_31, xkt_32, xkt_40, xkt_44, xkt_47, xkt_48, xkt_57, xkt_59, xkt_60, xkt_63, xkt_64, xkt_65, xkt_72, xkt_95, xkt_99, xkt_100, xkt_101, xkt_103, xkt_110, xkt_112, xkt_113, xkt_114, xkt_119, xkt_126, xkt_159, xkt_576, xkt_999, xkt_9999, xkt_65536, xkt_999999, xkt_m1, xkt_m2, xkt_m3, xkt_m4, xkt_m11, xkt_m12, xkt_m13, xkt_m14, xkt_m20, xjt_0, xjt_1, xjt_2, xjt_3, xjt_4, xjt_5, xjt_6, xjt_7, xjt_8, xjt_9, xjt_10, xjt_11, xjt_12, xjt_13, xjt_14, xjt_16, xjt_20, xjt_24, xjt_31, xjt_32, xjt_40, xjt_44, xjt_47, xjt_48, xjt_57, xjt_59, xjt_60, xjt_63, xjt_64, xjt_65, xjt_72, xjt_95, xjt_99, xjt_100, xjt_101, xjt_103, xjt_110, xjt_112, xjt_113, xjt_114, xjt_119, xjt_126, xjt_159, xjt_576, xjt_999, xjt_9999, xjt_65536, xjt_999999, xt64, xt_n, not_true_eq_false, not_false_eq_true, Classical.not_not] at c_1_0 c_1_1 c_1_2 c_1_3 c_1_4 c_1_5 c_1_6 c_1_7 c_1_8 c_1_9 c_1_10
    all_goals omega
  refine xw_if (fun c_1_11 => ?_) (fun c_1_11 => ?_)
  · skip
    exfalso
    try simp only [xB_dec, Classical.not_not] at c_1_0 c_1_1 c_1_2 c_1_3 c_1_4 c_1_5 c_1_6 c_1_7 c_1_8 c_1_9 c_1_10 c_1_11
    try simp (disch := omega) only [xt_eq, xt_lt, xt_le, xkt_0, xkt_1, xkt_2, xkt_3, xkt_4, xkt_5, xkt_6, xkt_7, xkt_8, xkt_9, xkt_10, xkt_11, xkt_12, xkt_13, xkt_14, xkt_16, xkt_20, xkt_24, xkt_31, xkt_32, xkt_40, xkt_44, xkt_47, xkt_48, xkt_57, xkt_59, xkt_60, xkt_63, xkt_64, xkt_65, xkt_72, xkt_95, xkt_99, xkt_100, xkt_101, xkt_103, xkt_110, xkt_112, xkt_113, xkt_114, xkt_119, xkt_126, xkt_159, xkt_576, xkt_999, xkt_9999, xkt_65536, xkt_999999, xkt_m1, xkt_m2, xkt_m3, xkt_m4, xkt_m11, xkt_m12, xkt_m13, xkt_m14, xkt_m20, xjt_0, xjt_1, xjt_2, xjt_3, xjt_4, xjt_5, xjt_6, xjt_7, xjt_8, xjt_9, xjt_10, xjt_11, xjt_12, xjt_13, xjt_14, xjt_16, xjt_20, xjt_24, xjt_31, xjt_32, xjt_40, xjt_44, xjt_47, xjt_48, xjt_57, xjt_59, xjt_60, xjt_63, xjt_64, xjt_65, xjt_72, xjt_95, xjt_99, xjt_100, xjt_101, xjt_103, xjt_110, xjt_112, xjt_113, xjt_114, xjt_119, xjt_126, xjt_159, xjt_576, xjt_999, xjt_9999, xjt_65536, xjt_999999, xt64, xt_n, not_true_eq_false, not_false_eq_true, Classical.not_not] at c_1_0 c_1_1 c_1_2 c_1_3 c_1_4 c_1_5 c_1_6 c_1_7 c_1_8 c_1_9 c_1_10 c_1_11
    all_goals omega
  refine xw_if (fun c_1_12 => ?_) (fun c_1_12 => ?_)
  · skip
    exfalso
    try simp only [xB_dec, Classical.not_not] at c_1_0 c_1_1 c_1_2 c_1_3 c_1_4 c_1_5 c_1_6 c_1_7 c_1_8 c_1_9 c_1_10 c_1_11 c_1_12
    try simp (disch := omega) only [xt_eq, xt_lt, xt_le, xkt_0, xkt_1, xkt_2, xkt_3, xkt_4, xkt_5, xkt_6, xkt_7, xkt_8, xkt_9, xkt_10, xkt_11, xkt_12, xkt_13, xkt_14, xkt_16, xkt_20, xkt_24, xkt_31, xkt_32, xkt_40, xkt_44, xkt_47, xkt_48, xkt_57, xkt_59, xkt_60, xkt_63, xkt_64, xkt_65, xkt_72, xkt_95, xkt_99, xkt_100, xkt_101, xkt_103, xkt_110, xkt_112, xkt_113, xkt_114, xkt_119, xkt_126, xkt_159, xkt_576, xkt_999, xkt_9999, xkt_65536, xkt_999999, xkt_m1, xkt_m2, xkt_m3, xkt_m4, xkt_m11, xkt_m12, xkt_m13, xkt_m14, xkt_m20, xjt_0, xjt_1, xjt_2, xjt_3, xjt_4, xjt_5, xjt_6, xjt_7, xjt_8, xjt_9, xjt_10, xjt_11, xjt_12, xjt_13, xjt_14, xjt_16, xjt_20, xjt_24, xjt_31, xjt_32, xjt_40, xjt_44, xjt_47, xjt_48, xjt_57, xjt_59, xjt_60, xjt_63, xjt_64, xjt_65, xjt_72, xjt_95, xjt_99, xjt_100, xjt_101, xjt_103, xjt_110, xjt_112, xjt_113, xjt_114, xjt_119, xjt_126, xjt_159, xjt_576, xjt_999, xjt_9999, xjt_65536, xjt_999999, xt64, xt_n, not_true_eq_false, not_false_eq_true, Classical.not_not] at c_1_0 c_1_1 c_1_2 c_1_3 c_1_4 c_1_5 c_1_6 c_1_7 c_1_8 c_1_9 c_1_10 c_1_11 c_1_12
    all_goals omega
  refine xw_at (f' := (182, [.ref 0, .int (nI k)], [])) (h' := (xS b, I, L, xP b)) rfl rfl ?_
  exfalso
  try simp only [xB_dec, Classical.not_not] at c_1_0 c_1_1 c_1_2 c_1_3 c_1_4 c_1_5 c_1_6 c_1_7 c_1_8 c_1_9 c_1_10 c_1_11 c_1_12
  try simp (disch := omega) only [xt_eq, xt_lt, xt_le, xkt_0, xkt_1, xkt_2, xkt_3, xkt_4, xkt_5, xkt_6, xkt_7, xkt_8, xkt_9, xkt_10, xkt_11, xkt_12, xkt_13, xkt_14, xkt_16, xkt_20, xkt_24, xkt_31, xkt_32, xkt_40, xkt_44, xkt_47, xkt_48, xkt_57, xkt_59, xkt_60, xkt_63, xkt_64, xkt_65, xkt_72, xkt_95, xkt_99, xkt_100, xkt_101, xkt_103, xkt_110, xkt_112, xkt_113, xkt_114, xkt_119, xkt_126, xkt_159, xkt_576, xkt_999, xkt_9999, xkt_65536, xkt_999999, xkt_m1, xkt_m2, xkt_m3, xkt_m4, xkt_m11, xkt_m12, xkt_m13, xkt_m14, xkt_m20, xjt_0, xjt_1, xjt_2, xjt_3, xjt_4, xjt_5, xjt_6, xjt_7, xjt_8, xjt_9, xjt_10, xjt_11, xjt_12, xjt_13, xjt_14, xjt_16, xjt_20, xjt_24, xjt_31, xjt_32, xjt_40, xjt_44, xjt_47, xjt_48, xjt_57, xjt_59, xjt_60, xjt_63, xjt_64, xjt_65, xjt_72, xjt_95, xjt_99, xjt_100, xjt_101, xjt_103, xjt_110, xjt_112, xjt_113, xjt_114, xjt_119, xjt_126, xjt_159, xjt_576, xjt_999, xjt_9999, xjt_65536, xjt_999999, xt64, xt_n, not_true_eq_false, not_false_eq_true, Classical.not_not] at c_1_0 c_1_1 c_1_2 c_1_3 c_1_4 c_1_5 c_1_6 c_1_7 c_1_8 c_1_9 c_1_10 c_1_11 c_1_12
  all_goals omega

theorem c_count10 {d : Nat} {b : Bool} {I : Nat → Nat → Int32} {L : Nat → Nat → Int64} {N : Nat → Nat} {u : Nat} {U : Nat → Nat → Nat} (hP : xPL N u U 1 I) (hK : xUK N u U)  {x : Int32} (e_x : x = nI 10) : xm_Z (d + 4) 55 [.ref 0, .int x] (xS b, I, L, xP b) (fun rz hz => xQC b I L (nI (xsum (fun c => N (95 + c)) (N 0 * N 1))) N u U rz hz) := by
  subst e_x
  have hO := hK.1
  have hb := hK.1.1
  have c64 : N 0 * N 1 ≤ 64 := xce_le hO
  have c4 : 4 ≤ N 0 * N 1 := xce_ge hO
  obtain ⟨⟨hN0, hN1, hN2, hN3, hN4, hN5, hN6, hN7, hN8, hN9, hN10⟩, hNs, hNw, hNp⟩ := hP.1
  refine xw_S xb_55 (l := [.ref 0, .int (nI 10)]) (Nat.le_of_ble_eq_true rfl) rfl ?_
  refine xw_go xb_55 2 (f1 := (xm_sw [(0, 68), (1, 76), (2, 84), (3, 92), (4, 100), (5, 108), (6, 116), (7, 124), (8, 132), (9, 140), (10, 148), (11, 156), (12, 171)] 182 (nI 10), [.ref 0, .int (nI 10)], [])) (h1 := (xS b, I, L, xP b)) rfl trivial ?_
  refine xw_if (fun c_1_0 => ?_) (fun c_1_0 => ?_)
  · skip
    exfalso
    try simp only [xB_dec, Classical.not_not] at c_1_0
    try simp (disch := omega) only [xt_eq, xt_lt, xt_le, xkt_0, xkt_1, xkt_2, xkt_3, xkt_4, xkt_5, xkt_6, xkt_7, xkt_8, xkt_9, xkt_10, xkt_11, xkt_12, xkt_13, xkt_14, xkt_16, xkt_20, xkt_24, xkt_31, xkt_32, xkt_40, xkt_44, xkt_47, xkt_48, xkt_57, xkt_59, xkt_60, xkt_63, xkt_64, xkt_65, xkt_72, xkt_95, xkt_99, xkt_100, xkt_101, xkt_103, xkt_110, xkt_112, xkt_113, xkt_114, xkt_119, xkt_126, xkt_159, xkt_576, xkt_999, xkt_9999, xkt_65536, xkt_999999, xkt_m1, xkt_m2, xkt_m3, xkt_m4, xkt_m11, xkt_m12, xkt_m13, xkt_m14, xkt_m20, xjt_0, xjt_1, xjt_2, xjt_3, xjt_4, xjt_5, xjt_6, xjt_7, xjt_8, xjt_9, xjt_10, xjt_11, xjt_12, xjt_13, xjt_14, xjt_16, xjt_20, xjt_24, xjt_31, xjt_32, xjt_40, xjt_44, xjt_47, xjt_48, xjt_57, xjt_59, xjt_60, xjt_63, xjt_64, xjt_65, xjt_72, xjt_95, xjt_99, xjt_100, xjt_101, xjt_103, xjt_110, xjt_112, xjt_113, xjt_114, xjt_119, xjt_126, xjt_159, xjt_576, xjt_999, xjt_9999, xjt_65536, xjt_999999, xt64, xt_n, not_true_eq_false, not_false_eq_true, Classical.not_not] at c_1_0
    all_goals omega
  refine xw_if (fun c_1_1 => ?_) (fun c_1_1 => ?_)
  · skip
    exfalso
    try simp only [xB_dec, Classical.not_not] at c_1_0 c_1_1
    try simp (disch := omega) only [xt_eq, xt_lt, xt_le, xkt_0, xkt_1, xkt_2, xkt_3, xkt_4, xkt_5, xkt_6, xkt_7, xkt_8, xkt_9, xkt_10, xkt_11, xkt_12, xkt_13, xkt_14, xkt_16, xkt_20, xkt_24, xkt_31, xkt_32, xkt_40, xkt_44, xkt_47, xkt_48, xkt_57, xkt_59, xkt_60, xkt_63, xkt_64, xkt_65, xkt_72, xkt_95, xkt_99, xkt_100, xkt_101, xkt_103, xkt_110, xkt_112, xkt_113, xkt_114, xkt_119, xkt_126, xkt_159, xkt_576, xkt_999, xkt_9999, xkt_65536, xkt_999999, xkt_m1, xkt_m2, xkt_m3, xkt_m4, xkt_m11, xkt_m12, xkt_m13, xkt_m14, xkt_m20, xjt_0, xjt_1, xjt_2, xjt_3, xjt_4, xjt_5, xjt_6, xjt_7, xjt_8, xjt_9, xjt_10, xjt_11, xjt_12, xjt_13, xjt_14, xjt_16, xjt_20, xjt_24, xjt_31, xjt_32, xjt_40, xjt_44, xjt_47, xjt_48, xjt_57, xjt_59, xjt_60, xjt_63, xjt_64, xjt_65, xjt_72, xjt_95, xjt_99, xjt_100, xjt_101, xjt_103, xjt_110, xjt_112, xjt_113, xjt_114, xjt_119, xjt_126, xjt_159, xjt_576, xjt_999, xjt_9999, xjt_65536, xjt_999999, xt64, xt_n, not_true_eq_false, not_false_eq_true, Classical.not_not] at c_1_0 c_1_1
    all_goals omega
  refine xw_if (fun c_1_2 => ?_) (fun c_1_2 => ?_)
  · skip
    exfalso
    try simp only [xB_dec, Classical.not_not] at c_1_0 c_1_1 c_1_2
    try simp (disch := omega) only [xt_eq, xt_lt, xt_le, xkt_0, xkt_1, xkt_2, xkt_3, xkt_4, xkt_5, xkt_6, xkt_7, xkt_8, xkt_9, xkt_10, xkt_11, xkt_12, xkt_13, xkt_14, xkt_16, xkt_20, xkt_24, xkt_31, xkt_32, xkt_40, xkt_44, xkt_47, xkt_48, xkt_57, xkt_59, xkt_60, xkt_63, xkt_64, xkt_65, xkt_72, xkt_95, xkt_99, xkt_100, xkt_101, xkt_103, xkt_110, xkt_112, xkt_113, xkt_114, xkt_119, xkt_126, xkt_159, xkt_576, xkt_999, xkt_9999, xkt_65536, xkt_999999, xkt_m1, xkt_m2, xkt_m3, xkt_m4, xkt_m11, xkt_m12, xkt_m13, xkt_m14, xkt_m20, xjt_0, xjt_1, xjt_2, xjt_3, xjt_4, xjt_5, xjt_6, xjt_7, xjt_8, xjt_9, xjt_10, xjt_11, xjt_12, xjt_13, xjt_14, xjt_16, xjt_20, xjt_24, xjt_31, xjt_32, xjt_40, xjt_44, xjt_47, xjt_48, xjt_57, xjt_59, xjt_60, xjt_63, xjt_64, xjt_65, xjt_72, xjt_95, xjt_99, xjt_100, xjt_101, xjt_103, xjt_110, xjt_112, xjt_113, xjt_114, xjt_119, xjt_126, xjt_159, xjt_576, xjt_999, xjt_9999, xjt_65536, xjt_999999, xt64, xt_n, not_true_eq_false, not_false_eq_true, Classical.not_not] at c_1_0 c_1_1 c_1_2
    all_goals omega
  refine xw_if (fun c_1_3 => ?_) (fun c_1_3 => ?_)
  · skip
    exfalso
    try simp only [xB_dec, Classical.not_not] at c_1_0 c_1_1 c_1_2 c_1_3
    try simp (disch := omega) only [xt_eq, xt_lt, xt_le, xkt_0, xkt_1, xkt_2, xkt_3, xkt_4, xkt_5, xkt_6, xkt_7, xkt_8, xkt_9, xkt_10, xkt_11, xkt_12, xkt_13, xkt_14, xkt_16, xkt_20, xkt_24, xkt_31, xkt_32, xkt_40, xkt_44, xkt_47, xkt_48, xkt_57, xkt_59, xkt_60, xkt_63, xkt_64, xkt_65, xkt_72, xkt_95, xkt_99, xkt_100, xkt_101, xkt_103, xkt_110, xkt_112, xkt_113, xkt_114, xkt_119, xkt_126, xkt_159, xkt_576, xkt_999, xkt_9999, xkt_65536, xkt_999999, xkt_m1, xkt_m2, xkt_m3, xkt_m4, xkt_m11, xkt_m12, xkt_m13, xkt_m14, xkt_m20, xjt_0, xjt_1, xjt_2, xjt_3, xjt_4, xjt_5, xjt_6, xjt_7, xjt_8, xjt_9, xjt_10, xjt_11, xjt_12, xjt_13, xjt_14, xjt_16, xjt_20, xjt_24, xjt_31, xjt_32, xjt_40, xjt_44, xjt_47, xjt_48, xjt_57, xjt_59, xjt_60, xjt_63, xjt_64, xjt_65, xjt_72, xjt_95, xjt_99, xjt_100, xjt_101, xjt_103, xjt_110, xjt_112, xjt_113, xjt_114, xjt_119, xjt_126, xjt_159, xjt_576, xjt_999, xjt_9999, xjt_65536, xjt_999999, xt64, xt_n, not_true_eq_false, not_false_eq_true, Classical.not_not] at c_1_0 c_1_1 c_1_2 c_1_3
    all_goals omega
  refine xw_if (fun c_1_4 => ?_) (fun c_1_4 => ?_)
  · skip
    exfalso
    try simp only [xB_dec, Classical.not_not] at c_1_0 c_1_1 c_1_2 c_1_3 c_1_4
    try simp (disch := omega) only [xt_eq, xt_lt, xt_le, xkt_0, xkt_1, xkt_2, xkt_3, xkt_4, xkt_5, xkt_6, xkt_7, xkt_8, xkt_9, xkt_10, xkt_11, xkt_12, xkt_13, xkt_14, xkt_16, xkt_20, xkt_24, xkt_31, xkt_32, xkt_40, xkt_44, xkt_47, xkt_48, xkt_57, xkt_59, xkt_60, xkt_63, xkt_64, xkt_65, xkt_72, xkt_95, xkt_99, xkt_100, xkt_101, xkt_103, xkt_110, xkt_112, xkt_113, xkt_114, xkt_119, xkt_126, xkt_159, xkt_576, xkt_999, xkt_9999, xkt_65536, xkt_999999, xkt_m1, xkt_m2, xkt_m3, xkt_m4, xkt_m11, xkt_m12, xkt_m13, xkt_m14, xkt_m20, xjt_0, xjt_1, xjt_2, xjt_3, xjt_4, xjt_5, xjt_6, xjt_7, xjt_8, xjt_9, xjt_10, xjt_11, xjt_12, xjt_13, xjt_14, xjt_16, xjt_20, xjt_24, xjt_31, xjt_32, xjt_40, xjt_44, xjt_47, xjt_48, xjt_57, xjt_59, xjt_60, xjt_63, xjt_64, xjt_65, xjt_72, xjt_95, xjt_99, xjt_100, xjt_101, xjt_103, xjt_110, xjt_112, xjt_113, xjt_114, xjt_119, xjt_126, xjt_159, xjt_576, xjt_999, xjt_9999, xjt_65536, xjt_999999, xt64, xt_n, not_true_eq_false, not_false_eq_true, Classical.not_not] at c_1_0 c_1_1 c_1_2 c_1_3 c_1_4
    all_goals omega
  refine xw_if (fun c_1_5 => ?_) (fun c_1_5 => ?_)
  · skip
    exfalso
    try simp only [xB_dec, Classical.not_not] at c_1_0 c_1_1 c_1_2 c_1_3 c_1_4 c_1_5
    try simp (disch := omega) only [xt_eq, xt_lt, xt_le, xkt_0, xkt_1, xkt_2, xkt_3, xkt_4, xkt_5, xkt_6, xkt_7, xkt_8, xkt_9, xkt_10, xkt_11, xkt_12, xkt_13, xkt_14, xkt_16, xkt_20, xkt_24, xkt_31, xkt_32, xkt_40, xkt_44, xkt_47, xkt_48, xkt_57, xkt_59, xkt_60, xkt_63, xkt_64, xkt_65, xkt_72, xkt_95, xkt_99, xkt_100, xkt_101, xkt_103, xkt_110, xkt_112, xkt_113, xkt_114, xkt_119, xkt_126, xkt_159, xkt_576, xkt_999, xkt_9999, xkt_65536, xkt_999999, xkt_m1, xkt_m2, xkt_m3, xkt_m4, xkt_m11, xkt_m12, xkt_m13, xkt_m14, xkt_m20, xjt_0, xjt_1, xjt_2, xjt_3, xjt_4, xjt_5, xjt_6, xjt_7, xjt_8, xjt_9, xjt_10, xjt_11, xjt_12, xjt_13, xjt_14, xjt_16, xjt_20, xjt_24, xjt_31, xjt_32, xjt_40, xjt_44, xjt_47, xjt_48, xjt_57, xjt_59, xjt_60, xjt_63, xjt_64, xjt_65, xjt_72, xjt_95, xjt_99, xjt_100, xjt_101, xjt_103, xjt_110, xjt_112, xjt_113, xjt_114, xjt_119, xjt_126, xjt_159, xjt_576, xjt_999, xjt_9999, xjt_65536, xjt_999999, xt64, xt_n, not_true_eq_false, not_false_eq_true, Classical.not_not] at c_1_0 c_1_1 c_1_2 c_1_3 c_1_4 c_1_5
    all_goals omega
  refine xw_if (fun c_1_6 => ?_) (fun c_1_6 => ?_)
  · skip
    exfalso
    try simp only [xB_dec, Classical.not_not] at c_1_0 c_1_1 c_1_2 c_1_3 c_1_4 c_1_5 c_1_6
    try simp (disch := omega) only [xt_eq, xt_lt, xt_le, xkt_0, xkt_1, xkt_2, xkt_3, xkt_4, xkt_5, xkt_6, xkt_7, xkt_8, xkt_9, xkt_10, xkt_11, xkt_12, xkt_13, xkt_14, xkt_16, xkt_20, xkt_24, xkt_31, xkt_32, xkt_40, xkt_44, xkt_47, xkt_48, xkt_57, xkt_59, xkt_60, xkt_63, xkt_64, xkt_65, xkt_72, xkt_95, xkt_99, xkt_100, xkt_101, xkt_103, xkt_110, xkt_112, xkt_113, xkt_114, xkt_119, xkt_126, xkt_159, xkt_576, xkt_999, xkt_9999, xkt_65536, xkt_999999, xkt_m1, xkt_m2, xkt_m3, xkt_m4, xkt_m11, xkt_m12, xkt_m13, xkt_m14, xkt_m20, xjt_0, xjt_1, xjt_2, xjt_3, xjt_4, xjt_5, xjt_6, xjt_7, xjt_8, xjt_9, xjt_10, xjt_11, xjt_12, xjt_13, xjt_14, xjt_16, xjt_20, xjt_24, xjt_31, xjt_32, xjt_40, xjt_44, xjt_47, xjt_48, xjt_57, xjt_59, xjt_60, xjt_63, xjt_64, xjt_65, xjt_72, xjt_95, xjt_99, xjt_100, xjt_101, xjt_103, xjt_110, xjt_112, xjt_113, xjt_114, xjt_119, xjt_126, xjt_159, xjt_576, xjt_999, xjt_9999, xjt_65536, xjt_999999, xt64, xt_n, not_true_eq_false, not_false_eq_true, Classical.not_not] at c_1_0 c_1_1 c_1_2 c_1_3 c_1_4 c_1_5 c_1_6
    all_goals omega
  refine xw_if (fun c_1_7 => ?_) (fun c_1_7 => ?_)
  · skip
    exfalso
    try simp only [xB_dec, Classical.not_not] at c_1_0 c_1_1 c_1_2 c_1_3 c_1_4 c_1_5 c_1_6 c_1_7
    try simp (disch := omega) only [xt_eq, xt_lt, xt_le, xkt_0, xkt_1, xkt_2, xkt_3, xkt_4, xkt_5, xkt_6, xkt_7, xkt_8, xkt_9, xkt_10, xkt_11, xkt_12, xkt_13, xkt_14, xkt_16, xkt_20, xkt_24, xkt_31, xkt_32, xkt_40, xkt_44, xkt_47, xkt_48, xkt_57, xkt_59, xkt_60, xkt_63, xkt_64, xkt_65, xkt_72, xkt_95, xkt_99, xkt_100, xkt_101, xkt_103, xkt_110, xkt_112, xkt_113, xkt_114, xkt_119, xkt_126, xkt_159, xkt_576, xkt_999, xkt_9999, xkt_65536, xkt_999999, xkt_m1, xkt_m2, xkt_m3, xkt_m4, xkt_m11, xkt_m12, xkt_m13, xkt_m14, xkt_m20, xjt_0, xjt_1, xjt_2, xjt_3, xjt_4, xjt_5, xjt_6, xjt_7, xjt_8, xjt_9, xjt_10, xjt_11, xjt_12, xjt_13, xjt_14, xjt_16, xjt_20, xjt_24, xjt_31, xjt_32, xjt_40, xjt_44, xjt_47, xjt_48, xjt_57, xjt_59, xjt_60, xjt_63, xjt_64, xjt_65, xjt_72, xjt_95, xjt_99, xjt_100, xjt_101, xjt_103, xjt_110, xjt_112, xjt_113, xjt_114, xjt_119, xjt_126, xjt_159, xjt_576, xjt_999, xjt_9999, xjt_65536, xjt_999999, xt64, xt_n, not_true_eq_false, not_false_eq_true, Classical.not_not] at c_1_0 c_1_1 c_1_2 c_1_3 c_1_4 c_1_5 c_1_6 c_1_7
    all_goals omega
  refine xw_if (fun c_1_8 => ?_) (fun c_1_8 => ?_)
  · skip
    exfalso
    try simp only [xB_dec, Classical.not_not] at c_1_0 c_1_1 c_1_2 c_1_3 c_1_4 c_1_5 c_1_6 c_1_7 c_1_8
    try simp (disch := omega) only [xt_eq, xt_lt, xt_le, xkt_0, xkt_1, xkt_2, xkt_3, xkt_4, xkt_5, xkt_6, xkt_7, xkt_8, xkt_9, xkt_10, xkt_11, xkt_12, xkt_13, xkt_14, xkt_16, xkt_20, xkt_24, xkt_31, xkt_32, xkt_40, xkt_44, xkt_47, xkt_48, xkt_57, xkt_59, xkt_60, xkt_63, xkt_64, xkt_65, xkt_72, xkt_95, xkt_99, xkt_100, xkt_101, xkt_103, xkt_110, xkt_112, xkt_113, xkt_114, xkt_119, xkt_126, xkt_159, xkt_576, xkt_999, xkt_9999, xkt_65536, xkt_999999, xkt_m1, xkt_m2, xkt_m3, xkt_m4, xkt_m11, xkt_m12, xkt_m13, xkt_m14, xkt_m20, xjt_0, xjt_1, xjt_2, xjt_3, xjt_4, xjt_5, xjt_6, xjt_7, xjt_8, xjt_9, xjt_10, xjt_11, xjt_12, xjt_13, xjt_14, xjt_16, xjt_20, xjt_24, xjt_31, xjt_32, xjt_40, xjt_44, xjt_47, xjt_48, xjt_57, xjt_59, xjt_60, xjt_63, xjt_64, xjt_65, xjt_72, xjt_95, xjt_99, xjt_100, xjt_101, xjt_103, xjt_110, xjt_112, xjt_113, xjt_114, xjt_119, xjt_126, xjt_159, xjt_576, xjt_999, xjt_9999, xjt_65536, xjt_999999, xt64, xt_n, not_true_eq_false, not_false_eq_true, Classical.not_not] at c_1_0 c_1_1 c_1_2 c_1_3 c_1_4 c_1_5 c_1_6 c_1_7 c_1_8
    all_goals omega
  refine xw_if (fun c_1_9 => ?_) (fun c_1_9 => ?_)
  · skip
    exfalso
    try simp only [xB_dec, Classical.not_not] at c_1_0 c_1_1 c_1_2 c_1_3 c_1_4 c_1_5 c_1_6 c_1_7 c_1_8 c_1_9
    try simp (disch := omega) only [xt_eq, xt_lt, xt_le, xkt_0, xkt_1, xkt_2, xkt_3, xkt_4, xkt_5, xkt_6, xkt_7, xkt_8, xkt_9, xkt_10, xkt_11, xkt_12, xkt_13, xkt_14, xkt_16, xkt_20, xkt_24, xkt_31, xkt_32, xkt_40, xkt_44, xkt_47, xkt_48, xkt_57, xkt_59, xkt_60, xkt_63, xkt_64, xkt_65, xkt_72, xkt_95, xkt_99, xkt_100, xkt_101, xkt_103, xkt_110, xkt_112, xkt_113, xkt_114, xkt_119, xkt_126, xkt_159, xkt_576, xkt_999, xkt_9999, xkt_65536, xkt_999999, xkt_m1, xkt_m2, xkt_m3, xkt_m4, xkt_m11, xkt_m12, xkt_m13, xkt_m14, xkt_m20, xjt_0, xjt_1, xjt_2, xjt_3, xjt_4, xjt_5, xjt_6, xjt_7, xjt_8, xjt_9, xjt_10, xjt_11, xjt_12, xjt_13, xjt_14, xjt_16, xjt_20, xjt_24, xjt_31, xjt_32, xjt_40, xjt_44, xjt_47, xjt_48, xjt_57, xjt_59, xjt_60, xjt_63, xjt_64, xjt_65, xjt_72, xjt_95, xjt_99, xjt_100, xjt_101, xjt_103, xjt_110, xjt_112, xjt_113, xjt_114, xjt_119, xjt_126, xjt_159, xjt_576, xjt_999, xjt_9999, xjt_65536, xjt_999999, xt64, xt_n, not_true_eq_false, not_false_eq_true, Classical.not_not] at c_1_0 c_1_1 c_1_2 c_1_3 c_1_4 c_1_5 c_1_6 c_1_7 c_1_8 c_1_9
    all_goals omega
  refine xw_if (fun c_1_10 => ?_) (fun c_1_10 => ?_)
  · skip
    refine xw_go xb_55 2 (f1 := (152, [.ref 0, .int (nI 10)], [.ref 1])) (h1 := (xS b, I, L, xP b)) rfl ⟨rfl, trivial⟩ ?_
    refine xw_call xb_55 rfl rfl rfl rfl rfl (Or.inr ⟨_, _, rfl, rfl⟩) (c_wetTogether (I := I) hN0 hN1 (by omega) (by omega) (wt := fun c => N (95 + c)) (fun c hc => hNw c (by omega))) ?_
    rintro _ _ ⟨rfl, rfl⟩
    refine xw_at (f' := (155, [.ref 0, .int (nI 10)], [.int (nI (xsum (fun c => N (95 + c)) (N 0 * N 1)))])) (h' := (xS b, I, L, xP b)) rfl rfl ?_
    refine xw_ret xb_55 rfl rfl trivial ?_
    exact ⟨rfl, I, rfl, xPF_r I, hP⟩
  refine xw_if (fun c_1_11 => ?_) (fun c_1_11 => ?_)
  · skip
    exfalso
    try simp only [xB_dec, Classical.not_not] at c_1_0 c_1_1 c_1_2 c_1_3 c_1_4 c_1_5 c_1_6 c_1_7 c_1_8 c_1_9 c_1_10 c_1_11
    try simp (disch := omega) only [xt_eq, xt_lt, xt_le, xkt_0, xkt_1, xkt_2, xkt_3, xkt_4, xkt_5, xkt_6, xkt_7, xkt_8, xkt_9, xkt_10, xkt_11, xkt_12, xkt_13, xkt_14, xkt_16, xkt_20, xkt_24, xkt_31, xkt_32, xkt_40, xkt_44, xkt_47, xkt_48, xkt_57, xkt_59, xkt_60, xkt_63, xkt_64, xkt_65, xkt_72, xkt_95, xkt_99, xkt_100, xkt_101, xkt_103, xkt_110, xkt_112, xkt_113, xkt_114, xkt_119, xkt_126, xkt_159, xkt_576, xkt_999, xkt_9999, xkt_65536, xkt_999999, xkt_m1, xkt_m2, xkt_m3, xkt_m4, xkt_m11, xkt_m12, xkt_m13, xkt_m14, xkt_m20, xjt_0, xjt_1, xjt_2, xjt_3, xjt_4, xjt_5, xjt_6, xjt_7, xjt_8, xjt_9, xjt_10, xjt_11, xjt_12, xjt_13, xjt_14, xjt_16, xjt_20, xjt_24, xjt_31, xjt_32, xjt_40, xjt_44, xjt_47, xjt_48, xjt_57, xjt_59, xjt_60, xjt_63, xjt_64, xjt_65, xjt_72, xjt_95, xjt_99, xjt_100, xjt_101, xjt_103, xjt_110, xjt_112, xjt_113, xjt_114, xjt_119, xjt_126, xjt_159, xjt_576, xjt_999, xjt_9999, xjt_65536, xjt_999999, xt64, xt_n, not_true_eq_false, not_false_eq_true, Classical.not_not] at c_1_0 c_1_1 c_1_2 c_1_3 c_1_4 c_1_5 c_1_6 c_1_7 c_1_8 c_1_9 c_1_10 c_1_11
    all_goals omega
  refine xw_if (fun c_1_12 => ?_) (fun c_1_12 => ?_)
  · skip
    exfalso
    try simp only [xB_dec, Classical.not_not] at c_1_0 c_1_1 c_1_2 c_1_3 c_1_4 c_1_5 c_1_6 c_1_7 c_1_8 c_1_9 c_1_10 c_1_11 c_1_12
    try simp (disch := omega) only [xt_eq, xt_lt, xt_le, xkt_0, xkt_1, xkt_2, xkt_3, xkt_4, xkt_5, xkt_6, xkt_7, xkt_8, xkt_9, xkt_10, xkt_11, xkt_12, xkt_13, xkt_14, xkt_16, xkt_20, xkt_24, xkt_31, xkt_32, xkt_40, xkt_44, xkt_47, xkt_48, xkt_57, xkt_59, xkt_60, xkt_63, xkt_64, xkt_65, xkt_72, xkt_95, xkt_99, xkt_100, xkt_101, xkt_103, xkt_110, xkt_112, xkt_113, xkt_114, xkt_119, xkt_126, xkt_159, xkt_576, xkt_999, xkt_9999, xkt_65536, xkt_999999, xkt_m1, xkt_m2, xkt_m3, xkt_m4, xkt_m11, xkt_m12, xkt_m13, xkt_m14, xkt_m20, xjt_0, xjt_1, xjt_2, xjt_3, xjt_4, xjt_5, xjt_6, xjt_7, xjt_8, xjt_9, xjt_10, xjt_11, xjt_12, xjt_13, xjt_14, xjt_16, xjt_20, xjt_24, xjt_31, xjt_32, xjt_40, xjt_44, xjt_47, xjt_48, xjt_57, xjt_59, xjt_60, xjt_63, xjt_64, xjt_65, xjt_72, xjt_95, xjt_99, xjt_100, xjt_101, xjt_103, xjt_110, xjt_112, xjt_113, xjt_114, xjt_119, xjt_126, xjt_159, xjt_576, xjt_999, xjt_9999, xjt_65536, xjt_999999, xt64, xt_n, not_true_eq_false, not_false_eq_true, Classical.not_not] at c_1_0 c_1_1 c_1_2 c_1_3 c_1_4 c_1_5 c_1_6 c_1_7 c_1_8 c_1_9 c_1_10 c_1_11 c_1_12
    all_goals omega
  refine xw_at (f' := (182, [.ref 0, .int (nI 10)], [])) (h' := (xS b, I, L, xP b)) rfl rfl ?_
  exfalso
  try simp only [xB_dec, Classical.not_not] at c_1_0 c_1_1 c_1_2 c_1_3 c_1_4 c_1_5 c_1_6 c_1_7 c_1_8 c_1_9 c_1_10 c_1_11 c_1_12
  try simp (disch := omega) only [xt_eq, xt_lt, xt_le, xkt_0, xkt_1, xkt_2, xkt_3, xkt_4, xkt_5, xkt_6, xkt_7, xkt_8, xkt_9, xkt_10, xkt_11, xkt_12, xkt_13, xkt_14, xkt_16, xkt_20, xkt_24, xkt_31, xkt_32, xkt_40, xkt_44, xkt_47, xkt_48, xkt_57, xkt_59, xkt_60, xkt_63, xkt_64, xkt_65, xkt_72, xkt_95, xkt_99, xkt_100, xkt_101, xkt_103, xkt_110, xkt_112, xkt_113, xkt_114, xkt_119, xkt_126, xkt_159, xkt_576, xkt_999, xkt_9999, xkt_65536, xkt_999999, xkt_m1, xkt_m2, xkt_m3, xkt_m4, xkt_m11, xkt_m12, xkt_m13, xkt_m14, xkt_m20, xjt_0, xjt_1, xjt_2, xjt_3, xjt_4, xjt_5, xjt_6, xjt_7, xjt_8, xjt_9, xjt_10, xjt_11, xjt_12, xjt_13, xjt_14, xjt_16, xjt_20, xjt_24, xjt_31, xjt_32, xjt_40, xjt_44, xjt_47, xjt_48, xjt_57, xjt_59, xjt_60, xjt_63, xjt_64, xjt_65, xjt_72, xjt_95, xjt_99, xjt_100, xjt_101, xjt_103, xjt_110, xjt_112, xjt_113, xjt_114, xjt_119, xjt_126, xjt_159, xjt_576, xjt_999, xjt_9999, xjt_65536, xjt_999999, xt64, xt_n, not_true_eq_false, not_false_eq_true, Classical.not_not] at c_1_0 c_1_1 c_1_2 c_1_3 c_1_4 c_1_5 c_1_6 c_1_7 c_1_8 c_1_9 c_1_10 c_1_11 c_1_12
  all_goals omega

theorem c_count11 {d : Nat} {b : Bool} {I : Nat → Nat → Int32} {L : Nat → Nat → Int64} {N : Nat → Nat} {u : Nat} {U : Nat → Nat → Nat} (hP : xPL N u U 1 I) (hK : xUK N u U)  {x : Int32} (e_x : x = nI 11) : xm_Z (d + 4) 55 [.ref 0, .int x] (xS b, I, L, xP b) (fun rz hz => xQC b I L (nI (xwc N)) N u U rz hz) := by
  subst e_x
  have hO := hK.1
  have hb := hK.1.1
  have c64 : N 0 * N 1 ≤ 64 := xce_le hO
  have c4 : 4 ≤ N 0 * N 1 := xce_ge hO
  obtain ⟨⟨hN0, hN1, hN2, hN3, hN4, hN5, hN6, hN7, hN8, hN9, hN10⟩, hNs, hNw, hNp⟩ := hP.1
  refine xw_S xb_55 (l := [.ref 0, .int (nI 11)]) (Nat.le_of_ble_eq_true rfl) rfl ?_
  refine xw_go xb_55 2 (f1 := (xm_sw [(0, 68), (1, 76), (2, 84), (3, 92), (4, 100), (5, 108), (6, 116), (7, 124), (8, 132), (9, 140), (10, 148), (11, 156), (12, 171)] 182 (nI 11), [.ref 0, .int (nI 11)], [])) (h1 := (xS b, I, L, xP b)) rfl trivial ?_
  refine xw_if (fun c_1_0 => ?_) (fun c_1_0 => ?_)
  · skip
    exfalso
    try simp only [xB_dec, Classical.not_not] at c_1_0
    try simp (disch := omega) only [xt_eq, xt_lt, xt_le, xkt_0, xkt_1, xkt_2, xkt_3, xkt_4, xkt_5, xkt_6, xkt_7, xkt_8, xkt_9, xkt_10, xkt_11, xkt_12, xkt_13, xkt_14, xkt_16, xkt_20, xkt_24, xkt_31, xkt_32, xkt_40, xkt_44, xkt_47, xkt_48, xkt_57, xkt_59, xkt_60, xkt_63, xkt_64, xkt_65, xkt_72, xkt_95, xkt_99, xkt_100, xkt_101, xkt_103, xkt_110, xkt_112, xkt_113, xkt_114, xkt_119, xkt_126, xkt_159, xkt_576, xkt_999, xkt_9999, xkt_65536, xkt_999999, xkt_m1, xkt_m2, xkt_m3, xkt_m4, xkt_m11, xkt_m12, xkt_m13, xkt_m14, xkt_m20, xjt_0, xjt_1, xjt_2, xjt_3, xjt_4, xjt_5, xjt_6, xjt_7, xjt_8, xjt_9, xjt_10, xjt_11, xjt_12, xjt_13, xjt_14, xjt_16, xjt_20, xjt_24, xjt_31, xjt_32, xjt_40, xjt_44, xjt_47, xjt_48, xjt_57, xjt_59, xjt_60, xjt_63, xjt_64, xjt_65, xjt_72, xjt_95, xjt_99, xjt_100, xjt_101, xjt_103, xjt_110, xjt_112, xjt_113, xjt_114, xjt_119, xjt_126, xjt_159, xjt_576, xjt_999, xjt_9999, xjt_65536, xjt_999999, xt64, xt_n, not_true_eq_false, not_false_eq_true, Classical.not_not] at c_1_0
    all_goals omega
  refine xw_if (fun c_1_1 => ?_) (fun c_1_1 => ?_)
  · skip
    exfalso
    try simp only [xB_dec, Classical.not_not] at c_1_0 c_1_1
    try simp (disch := omega) only [xt_eq, xt_lt, xt_le, xkt_0, xkt_1, xkt_2, xkt_3, xkt_4, xkt_5, xkt_6, xkt_7, xkt_8, xkt_9, xkt_10, xkt_11, xkt_12, xkt_13, xkt_14, xkt_16, xkt_20, xkt_24, xkt_31, xkt_32, xkt_40, xkt_44, xkt_47, xkt_48, xkt_57, xkt_59, xkt_60, xkt_63, xkt_64, xkt_65, xkt_72, xkt_95, xkt_99, xkt_100, xkt_101, xkt_103, xkt_110, xkt_112, xkt_113, xkt_114, xkt_119, xkt_126, xkt_159, xkt_576, xkt_999, xkt_9999, xkt_65536, xkt_999999, xkt_m1, xkt_m2, xkt_m3, xkt_m4, xkt_m11, xkt_m12, xkt_m13, xkt_m14, xkt_m20, xjt_0, xjt_1, xjt_2, xjt_3, xjt_4, xjt_5, xjt_6, xjt_7, xjt_8, xjt_9, xjt_10, xjt_11, xjt_12, xjt_13, xjt_14, xjt_16, xjt_20, xjt_24, xjt_31, xjt_32, xjt_40, xjt_44, xjt_47, xjt_48, xjt_57, xjt_59, xjt_60, xjt_63, xjt_64, xjt_65, xjt_72, xjt_95, xjt_99, xjt_100, xjt_101, xjt_103, xjt_110, xjt_112, xjt_113, xjt_114, xjt_119, xjt_126, xjt_159, xjt_576, xjt_999, xjt_9999, xjt_65536, xjt_999999, xt64, xt_n, not_true_eq_false, not_false_eq_true, Classical.not_not] at c_1_0 c_1_1
    all_goals omega
  refine xw_if (fun c_1_2 => ?_) (fun c_1_2 => ?_)
  · skip
    exfalso
    try simp only [xB_dec, Classical.not_not] at c_1_0 c_1_1 c_1_2
    try simp (disch := omega) only [xt_eq, xt_lt, xt_le, xkt_0, xkt_1, xkt_2, xkt_3, xkt_4, xkt_5, xkt_6, xkt_7, xkt_8, xkt_9, xkt_10, xkt_11, xkt_12, xkt_13, xkt_14, xkt_16, xkt_20, xkt_24, xkt_31, xkt_32, xkt_40, xkt_44, xkt_47, xkt_48, xkt_57, xkt_59, xkt_60, xkt_63, xkt_64, xkt_65, xkt_72, xkt_95, xkt_99, xkt_100, xkt_101, xkt_103, xkt_110, xkt_112, xkt_113, xkt_114, xkt_119, xkt_126, xkt_159, xkt_576, xkt_999, xkt_9999, xkt_65536, xkt_999999, xkt_m1, xkt_m2, xkt_m3, xkt_m4, xkt_m11, xkt_m12, xkt_m13, xkt_m14, xkt_m20, xjt_0, xjt_1, xjt_2, xjt_3, xjt_4, xjt_5, xjt_6, xjt_7, xjt_8, xjt_9, xjt_10, xjt_11, xjt_12, xjt_13, xjt_14, xjt_16, xjt_20, xjt_24, xjt_31, xjt_32, xjt_40, xjt_44, xjt_47, xjt_48, xjt_57, xjt_59, xjt_60, xjt_63, xjt_64, xjt_65, xjt_72, xjt_95, xjt_99, xjt_100, xjt_101, xjt_103, xjt_110, xjt_112, xjt_113, xjt_114, xjt_119, xjt_126, xjt_159, xjt_576, xjt_999, xjt_9999, xjt_65536, xjt_999999, xt64, xt_n, not_true_eq_false, not_false_eq_true, Classical.not_not] at c_1_0 c_1_1 c_1_2
    all_goals omega
  refine xw_if (fun c_1_3 => ?_) (fun c_1_3 => ?_)
  · skip
    exfalso
    try simp only [xB_dec, Classical.not_not] at c_1_0 c_1_1 c_1_2 c_1_3
    try simp (disch := omega) only [xt_eq, xt_lt, xt_le, xkt_0, xkt_1, xkt_2, xkt_3, xkt_4, xkt_5, xkt_6, xkt_7, xkt_8, xkt_9, xkt_10, xkt_11, xkt_12, xkt_13, xkt_14, xkt_16, xkt_20, xkt_24, xkt_31, xkt_32, xkt_40, xkt_44, xkt_47, xkt_48, xkt_57, xkt_59, xkt_60, xkt_63, xkt_64, xkt_65, xkt_72, xkt_95, xkt_99, xkt_100, xkt_101, xkt_103, xkt_110, xkt_112, xkt_113, xkt_114, xkt_119, xkt_126, xkt_159, xkt_576, xkt_999, xkt_9999, xkt_65536, xkt_999999, xkt_m1, xkt_m2, xkt_m3, xkt_m4, xkt_m11, xkt_m12, xkt_m13, xkt_m14, xkt_m20, xjt_0, xjt_1, xjt_2, xjt_3, xjt_4, xjt_5, xjt_6, xjt_7, xjt_8, xjt_9, xjt_10, xjt_11, xjt_12, xjt_13, xjt_14, xjt_16, xjt_20, xjt_24, xjt_31, xjt_32, xjt_40, xjt_44, xjt_47, xjt_48, xjt_57, xjt_59, xjt_60, xjt_63, xjt_64, xjt_65, xjt_72, xjt_95, xjt_99, xjt_100, xjt_101, xjt_103, xjt_110, xjt_112, xjt_113, xjt_114, xjt_119, xjt_126, xjt_159, xjt_576, xjt_999, xjt_9999, xjt_65536, xjt_999999, xt64, xt_n, not_true_eq_false, not_false_eq_true, Classical.not_not] at c_1_0 c_1_1 c_1_2 c_1_3
    all_goals omega
  refine xw_if (fun c_1_4 => ?_) (fun c_1_4 => ?_)
  · skip
    exfalso
    try simp only [xB_dec, Classical.not_not] at c_1_0 c_1_1 c_1_2 c_1_3 c_1_4
    try simp (disch := omega) only [xt_eq, xt_lt, xt_le, xkt_0, xkt_1, xkt_2, xkt_3, xkt_4, xkt_5, xkt_6, xkt_7, xkt_8, xkt_9, xkt_10, xkt_11, xkt_12, xkt_13, xkt_14, xkt_16, xkt_20, xkt_24, xkt_31, xkt_32, xkt_40, xkt_44, xkt_47, xkt_48, xkt_57, xkt_59, xkt_60, xkt_63, xkt_64, xkt_65, xkt_72, xkt_95, xkt_99, xkt_100, xkt_101, xkt_103, xkt_110, xkt_112, xkt_113, xkt_114, xkt_119, xkt_126, xkt_159, xkt_576, xkt_999, xkt_9999, xkt_65536, xkt_999999, xkt_m1, xkt_m2, xkt_m3, xkt_m4, xkt_m11, xkt_m12, xkt_m13, xkt_m14, xkt_m20, xjt_0, xjt_1, xjt_2, xjt_3, xjt_4, xjt_5, xjt_6, xjt_7, xjt_8, xjt_9, xjt_10, xjt_11, xjt_12, xjt_13, xjt_14, xjt_16, xjt_20, xjt_24, xjt_31, xjt_32, xjt_40, xjt_44, xjt_47, xjt_48, xjt_57, xjt_59, xjt_60, xjt_63, xjt_64, xjt_65, xjt_72, xjt_95, xjt_99, xjt_100, xjt_101, xjt_103, xjt_110, xjt_112, xjt_113, xjt_114, xjt_119, xjt_126, xjt_159, xjt_576, xjt_999, xjt_9999, xjt_65536, xjt_999999, xt64, xt_n, not_true_eq_false, not_false_eq_true, Classical.not_not] at c_1_0 c_1_1 c_1_2 c_1_3 c_1_4
    all_goals omega
  refine xw_if (fun c_1_5 => ?_) (fun c_1_5 => ?_)
  · skip
    exfalso
    try simp only [xB_dec, Classical.not_not] at c_1_0 c_1_1 c_1_2 c_1_3 c_1_4 c_1_5
    try simp (disch := omega) only [xt_eq, xt_lt, xt_le, xkt_0, xkt_1, xkt_2, xkt_3, xkt_4, xkt_5, xkt_6, xkt_7, xkt_8, xkt_9, xkt_10, xkt_11, xkt_12, xkt_13, xkt_14, xkt_16, xkt_20, xkt_24, xkt_31, xkt_32, xkt_40, xkt_44, xkt_47, xkt_48, xkt_57, xkt_59, xkt_60, xkt_63, xkt_64, xkt_65, xkt_72, xkt_95, xkt_99, xkt_100, xkt_101, xkt_103, xkt_110, xkt_112, xkt_113, xkt_114, xkt_119, xkt_126, xkt_159, xkt_576, xkt_999, xkt_9999, xkt_65536, xkt_999999, xkt_m1, xkt_m2, xkt_m3, xkt_m4, xkt_m11, xkt_m12, xkt_m13, xkt_m14, xkt_m20, xjt_0, xjt_1, xjt_2, xjt_3, xjt_4, xjt_5, xjt_6, xjt_7, xjt_8, xjt_9, xjt_10, xjt_11, xjt_12, xjt_13, xjt_14, xjt_16, xjt_20, xjt_24, xjt_31, xjt_32, xjt_40, xjt_44, xjt_47, xjt_48, xjt_57, xjt_59, xjt_60, xjt_63, xjt_64, xjt_65, xjt_72, xjt_95, xjt_99, xjt_100, xjt_101, xjt_103, xjt_110, xjt_112, xjt_113, xjt_114, xjt_119, xjt_126, xjt_159, xjt_576, xjt_999, xjt_9999, xjt_65536, xjt_999999, xt64, xt_n, not_true_eq_false, not_false_eq_true, Classical.not_not] at c_1_0 c_1_1 c_1_2 c_1_3 c_1_4 c_1_5
    all_goals omega
  refine xw_if (fun c_1_6 => ?_) (fun c_1_6 => ?_)
  · skip
    exfalso
    try simp only [xB_dec, Classical.not_not] at c_1_0 c_1_1 c_1_2 c_1_3 c_1_4 c_1_5 c_1_6
    try simp (disch := omega) only [xt_eq, xt_lt, xt_le, xkt_0, xkt_1, xkt_2, xkt_3, xkt_4, xkt_5, xkt_6, xkt_7, xkt_8, xkt_9, xkt_10, xkt_11, xkt_12, xkt_13, xkt_14, xkt_16, xkt_20, xkt_24, xkt_31, xkt_32, xkt_40, xkt_44, xkt_47, xkt_48, xkt_57, xkt_59, xkt_60, xkt_63, xkt_64, xkt_65, xkt_72, xkt_95, xkt_99, xkt_100, xkt_101, xkt_103, xkt_110, xkt_112, xkt_113, xkt_114, xkt_119, xkt_126, xkt_159, xkt_576, xkt_999, xkt_9999, xkt_65536, xkt_999999, xkt_m1, xkt_m2, xkt_m3, xkt_m4, xkt_m11, xkt_m12, xkt_m13, xkt_m14, xkt_m20, xjt_0, xjt_1, xjt_2, xjt_3, xjt_4, xjt_5, xjt_6, xjt_7, xjt_8, xjt_9, xjt_10, xjt_11, xjt_12, xjt_13, xjt_14, xjt_16, xjt_20, xjt_24, xjt_31, xjt_32, xjt_40, xjt_44, xjt_47, xjt_48, xjt_57, xjt_59, xjt_60, xjt_63, xjt_64, xjt_65, xjt_72, xjt_95, xjt_99, xjt_100, xjt_101, xjt_103, xjt_110, xjt_112, xjt_113, xjt_114, xjt_119, xjt_126, xjt_159, xjt_576, xjt_999, xjt_9999, xjt_65536, xjt_999999, xt64, xt_n, not_true_eq_false, not_false_eq_true, Classical.not_not] at c_1_0 c_1_1 c_1_2 c_1_3 c_1_4 c_1_5 c_1_6
    all_goals omega
  refine xw_if (fun c_1_7 => ?_) (fun c_1_7 => ?_)
  · skip
    exfalso
    try simp only [xB_dec, Classical.not_not] at c_1_0 c_1_1 c_1_2 c_1_3 c_1_4 c_1_5 c_1_6 c_1_7
    try simp (disch := omega) only [xt_eq, xt_lt, xt_le, xkt_0, xkt_1, xkt_2, xkt_3, xkt_4, xkt_5, xkt_6, xkt_7, xkt_8, xkt_9, xkt_10, xkt_11, xkt_12, xkt_13, xkt_14, xkt_16, xkt_20, xkt_24, xkt_31, xkt_32, xkt_40, xkt_44, xkt_47, xkt_48, xkt_57, xkt_59, xkt_60, xkt_63, xkt_64, xkt_65, xkt_72, xkt_95, xkt_99, xkt_100, xkt_101, xkt_103, xkt_110, xkt_112, xkt_113, xkt_114, xkt_119, xkt_126, xkt_159, xkt_576, xkt_999, xkt_9999, xkt_65536, xkt_999999, xkt_m1, xkt_m2, xkt_m3, xkt_m4, xkt_m11, xkt_m12, xkt_m13, xkt_m14, xkt_m20, xjt_0, xjt_1, xjt_2, xjt_3, xjt_4, xjt_5, xjt_6, xjt_7, xjt_8, xjt_9, xjt_10, xjt_11, xjt_12, xjt_13, xjt_14, xjt_16, xjt_20, xjt_24, xjt_31, xjt_32, xjt_40, xjt_44, xjt_47, xjt_48, xjt_57, xjt_59, xjt_60, xjt_63, xjt_64, xjt_65, xjt_72, xjt_95, xjt_99, xjt_100, xjt_101, xjt_103, xjt_110, xjt_112, xjt_113, xjt_114, xjt_119, xjt_126, xjt_159, xjt_576, xjt_999, xjt_9999, xjt_65536, xjt_999999, xt64, xt_n, not_true_eq_false, not_false_eq_true, Classical.not_not] at c_1_0 c_1_1 c_1_2 c_1_3 c_1_4 c_1_5 c_1_6 c_1_7
    all_goals omega
  refine xw_if (fun c_1_8 => ?_) (fun c_1_8 => ?_)
  · skip
    exfalso
    try simp only [xB_dec, Classical.not_not] at c_1_0 c_1_1 c_1_2 c_1_3 c_1_4 c_1_5 c_1_6 c_1_7 c_1_8
    try simp (disch := omega) only [xt_eq, xt_lt, xt_le, xkt_0, xkt_1, xkt_2, xkt_3, xkt_4, xkt_5, xkt_6, xkt_7, xkt_8, xkt_9, xkt_10, xkt_11, xkt_12, xkt_13, xkt_14, xkt_16, xkt_20, xkt_24, xkt_31, xkt_32, xkt_40, xkt_44, xkt_47, xkt_48, xkt_57, xkt_59, xkt_60, xkt_63, xkt_64, xkt_65, xkt_72, xkt_95, xkt_99, xkt_100, xkt_101, xkt_103, xkt_110, xkt_112, xkt_113, xkt_114, xkt_119, xkt_126, xkt_159, xkt_576, xkt_999, xkt_9999, xkt_65536, xkt_999999, xkt_m1, xkt_m2, xkt_m3, xkt_m4, xkt_m11, xkt_m12, xkt_m13, xkt_m14, xkt_m20, xjt_0, xjt_1, xjt_2, xjt_3, xjt_4, xjt_5, xjt_6, xjt_7, xjt_8, xjt_9, xjt_10, xjt_11, xjt_12, xjt_13, xjt_14, xjt_16, xjt_20, xjt_24, xjt_31, xjt_32, xjt_40, xjt_44, xjt_47, xjt_48, xjt_57, xjt_59, xjt_60, xjt_63, xjt_64, xjt_65, xjt_72, xjt_95, xjt_99, xjt_100, xjt_101, xjt_103, xjt_110, xjt_112, xjt_113, xjt_114, xjt_119, xjt_126, xjt_159, xjt_576, xjt_999, xjt_9999, xjt_65536, xjt_999999, xt64, xt_n, not_true_eq_false, not_false_eq_true, Classical.not_not] at c_1_0 c_1_1 c_1_2 c_1_3 c_1_4 c_1_5 c_1_6 c_1_7 c_1_8
    all_goals omega
  refine xw_if (fun c_1_9 => ?_) (fun c_1_9 => ?_)
  · skip
    exfalso
    try simp only [xB_dec, Classical.not_not] at c_1_0 c_1_1 c_1_2 c_1_3 c_1_4 c_1_5 c_1_6 c_1_7 c_1_8 c_1_9
    try simp (disch := omega) only [xt_eq, xt_lt, xt_le, xkt_0, xkt_1, xkt_2, xkt_3, xkt_4, xkt_5, xkt_6, xkt_7, xkt_8, xkt_9, xkt_10, xkt_11, xkt_12, xkt_13, xkt_14, xkt_16, xkt_20, xkt_24, xkt_31, xkt_32, xkt_40, xkt_44, xkt_47, xkt_48, xkt_57, xkt_59, xkt_60, xkt_63, xkt_64, xkt_65, xkt_72, xkt_95, xkt_99, xkt_100, xkt_101, xkt_103, xkt_110, xkt_112, xkt_113, xkt_114, xkt_119, xkt_126, xkt_159, xkt_576, xkt_999, xkt_9999, xkt_65536, xkt_999999, xkt_m1, xkt_m2, xkt_m3, xkt_m4, xkt_m11, xkt_m12, xkt_m13, xkt_m14, xkt_m20, xjt_0, xjt_1, xjt_2, xjt_3, xjt_4, xjt_5, xjt_6, xjt_7, xjt_8, xjt_9, xjt_10, xjt_11, xjt_12, xjt_13, xjt_14, xjt_16, xjt_20, xjt_24, xjt_31, xjt_32, xjt_40, xjt_44, xjt_47, xjt_48, xjt_57, xjt_59, xjt_60, xjt_63, xjt_64, xjt_65, xjt_72, xjt_95, xjt_99, xjt_100, xjt_101, xjt_103, xjt_110, xjt_112, xjt_113, xjt_114, xjt_119, xjt_126, xjt_159, xjt_576, xjt_999, xjt_9999, xjt_65536, xjt_999999, xt64, xt_n, not_true_eq_false, not_false_eq_true, Classical.not_not] at c_1_0 c_1_1 c_1_2 c_1_3 c_1_4 c_1_5 c_1_6 c_1_7 c_1_8 c_1_9
    all_goals omega
  refine xw_if (fun c_1_10 => ?_) (fun c_1_10 => ?_)
  · skip
    exfalso
    try simp only [xB_dec, Classical.not_not] at c_1_0 c_1_1 c_1_2 c_1_3 c_1_4 c_1_5 c_1_6 c_1_7 c_1_8 c_1_9 c_1_10
    try simp (disch := omega) only [xt_eq, xt_lt, xt_le, xkt_0, xkt_1, xkt_2, xkt_3, xkt_4, xkt_5, xkt_6, xkt_7, xkt_8, xkt_9, xkt_10, xkt_11, xkt_12, xkt_13, xkt_14, xkt_16, xkt_20, xkt_24, xkt_31, xkt_32, xkt_40, xkt_44, xkt_47, xkt_48, xkt_57, xkt_59, xkt_60, xkt_63, xkt_64, xkt_65, xkt_72, xkt_95, xkt_99, xkt_100, xkt_101, xkt_103, xkt_110, xkt_112, xkt_113, xkt_114, xkt_119, xkt_126, xkt_159, xkt_576, xkt_999, xkt_9999, xkt_65536, xkt_999999, xkt_m1, xkt_m2, xkt_m3, xkt_m4, xkt_m11, xkt_m12, xkt_m13, xkt_m14, xkt_m20, xjt_0, xjt_1, xjt_2, xjt_3, xjt_4, xjt_5, xjt_6, xjt_7, xjt_8, xjt_9, xjt_10, xjt_11, xjt_12, xjt_13, xjt_14, xjt_16, xjt_20, xjt_24, xjt_31, xjt_32, xjt_40, xjt_44, xjt_47, xjt_48, xjt_57, xjt_59, xjt_60, xjt_63, xjt_64, xjt_65, xjt_72, xjt_95, xjt_99, xjt_100, xjt_101, xjt_103, xjt_110, xjt_112, xjt_113, xjt_114, xjt_119, xjt_126, xjt_159, xjt_576, xjt_999, xjt_9999, xjt_65536, xjt_999999, xt64, xt_n, not_true_eq_false, not_false_eq_true, Classical.not_not] at c_1_0 c_1_1 c_1_2 c_1_3 c_1_4 c_1_5 c_1_6 c_1_7 c_1_8 c_1_9 c_1_10
    all_goals omega
  refine xw_if (fun c_1_11 => ?_) (fun c_1_11 => ?_)
  · skip
    refine xw_go xb_55 5 (f1 := (167, [.ref 0, .int (nI 11)], [.ref 3, .ref 1])) (h1 := (xS b, I, L, xP b)) rfl ⟨rfl, rfl, rfl, trivial⟩ ?_
    refine xw_call xb_55 rfl rfl rfl rfl rfl (Or.inr ⟨_, _, rfl, rfl⟩) (c_wrongIn (I := I) hN0 hN1 (by omega) (by omega) (so := fun c => N (31 + c)) (wt := fun c => N (95 + c)) hNs hO.2.1 (w := 3) rfl (fun c hc => hNw c (by omega)) (fun c hc => by have := hO.2.2.1 c (by omega); show N (95 + c) < _; omega) hN7 (by omega) hN8 (by omega)) ?_
    rintro _ _ ⟨rfl, rfl⟩
    refine xw_at (f' := (170, [.ref 0, .int (nI 11)], [.int (nI (xwc N))])) (h' := (xS b, I, L, xP b)) rfl rfl ?_
    refine xw_ret xb_55 rfl rfl trivial ?_
    exact ⟨rfl, I, rfl, xPF_r I, hP⟩
  refine xw_if (fun c_1_12 => ?_) (fun c_1_12 => ?_)
  · skip
    exfalso
    try simp only [xB_dec, Classical.not_not] at c_1_0 c_1_1 c_1_2 c_1_3 c_1_4 c_1_5 c_1_6 c_1_7 c_1_8 c_1_9 c_1_10 c_1_11 c_1_12
    try simp (disch := omega) only [xt_eq, xt_lt, xt_le, xkt_0, xkt_1, xkt_2, xkt_3, xkt_4, xkt_5, xkt_6, xkt_7, xkt_8, xkt_9, xkt_10, xkt_11, xkt_12, xkt_13, xkt_14, xkt_16, xkt_20, xkt_24, xkt_31, xkt_32, xkt_40, xkt_44, xkt_47, xkt_48, xkt_57, xkt_59, xkt_60, xkt_63, xkt_64, xkt_65, xkt_72, xkt_95, xkt_99, xkt_100, xkt_101, xkt_103, xkt_110, xkt_112, xkt_113, xkt_114, xkt_119, xkt_126, xkt_159, xkt_576, xkt_999, xkt_9999, xkt_65536, xkt_999999, xkt_m1, xkt_m2, xkt_m3, xkt_m4, xkt_m11, xkt_m12, xkt_m13, xkt_m14, xkt_m20, xjt_0, xjt_1, xjt_2, xjt_3, xjt_4, xjt_5, xjt_6, xjt_7, xjt_8, xjt_9, xjt_10, xjt_11, xjt_12, xjt_13, xjt_14, xjt_16, xjt_20, xjt_24, xjt_31, xjt_32, xjt_40, xjt_44, xjt_47, xjt_48, xjt_57, xjt_59, xjt_60, xjt_63, xjt_64, xjt_65, xjt_72, xjt_95, xjt_99, xjt_100, xjt_101, xjt_103, xjt_110, xjt_112, xjt_113, xjt_114, xjt_119, xjt_126, xjt_159, xjt_576, xjt_999, xjt_9999, xjt_65536, xjt_999999, xt64, xt_n, not_true_eq_false, not_false_eq_true, Classical.not_not] at c_1_0 c_1_1 c_1_2 c_1_3 c_1_4 c_1_5 c_1_6 c_1_7 c_1_8 c_1_9 c_1_10 c_1_11 c_1_12
    all_goals omega
  refine xw_at (f' := (182, [.ref 0, .int (nI 11)], [])) (h' := (xS b, I, L, xP b)) rfl rfl ?_
  exfalso
  try simp only [xB_dec, Classical.not_not] at c_1_0 c_1_1 c_1_2 c_1_3 c_1_4 c_1_5 c_1_6 c_1_7 c_1_8 c_1_9 c_1_10 c_1_11 c_1_12
  try simp (disch := omega) only [xt_eq, xt_lt, xt_le, xkt_0, xkt_1, xkt_2, xkt_3, xkt_4, xkt_5, xkt_6, xkt_7, xkt_8, xkt_9, xkt_10, xkt_11, xkt_12, xkt_13, xkt_14, xkt_16, xkt_20, xkt_24, xkt_31, xkt_32, xkt_40, xkt_44, xkt_47, xkt_48, xkt_57, xkt_59, xkt_60, xkt_63, xkt_64, xkt_65, xkt_72, xkt_95, xkt_99, xkt_100, xkt_101, xkt_103, xkt_110, xkt_112, xkt_113, xkt_114, xkt_119, xkt_126, xkt_159, xkt_576, xkt_999, xkt_9999, xkt_65536, xkt_999999, xkt_m1, xkt_m2, xkt_m3, xkt_m4, xkt_m11, xkt_m12, xkt_m13, xkt_m14, xkt_m20, xjt_0, xjt_1, xjt_2, xjt_3, xjt_4, xjt_5, xjt_6, xjt_7, xjt_8, xjt_9, xjt_10, xjt_11, xjt_12, xjt_13, xjt_14, xjt_16, xjt_20, xjt_24, xjt_31, xjt_32, xjt_40, xjt_44, xjt_47, xjt_48, xjt_57, xjt_59, xjt_60, xjt_63, xjt_64, xjt_65, xjt_72, xjt_95, xjt_99, xjt_100, xjt_101, xjt_103, xjt_110, xjt_112, xjt_113, xjt_114, xjt_119, xjt_126, xjt_159, xjt_576, xjt_999, xjt_9999, xjt_65536, xjt_999999, xt64, xt_n, not_true_eq_false, not_false_eq_true, Classical.not_not] at c_1_0 c_1_1 c_1_2 c_1_3 c_1_4 c_1_5 c_1_6 c_1_7 c_1_8 c_1_9 c_1_10 c_1_11 c_1_12
  all_goals omega

theorem c_count12 {d : Nat} {b : Bool} {I : Nat → Nat → Int32} {L : Nat → Nat → Int64} {N : Nat → Nat} {u : Nat} {U : Nat → Nat → Nat} (hP : xPL N u U 1 I) (hK : xUK N u U)  {x : Int32} (e_x : x = nI 12) : xm_Z (d + 4) 55 [.ref 0, .int x] (xS b, I, L, xP b) (fun rz hz => xQC b I L (nI (u)) N u U rz hz) := by
  subst e_x
  have hO := hK.1
  have hb := hK.1.1
  have c64 : N 0 * N 1 ≤ 64 := xce_le hO
  have c4 : 4 ≤ N 0 * N 1 := xce_ge hO
  obtain ⟨⟨hN0, hN1, hN2, hN3, hN4, hN5, hN6, hN7, hN8, hN9, hN10⟩, hNs, hNw, hNp⟩ := hP.1
  refine xw_S xb_55 (l := [.ref 0, .int (nI 12)]) (Nat.le_of_ble_eq_true rfl) rfl ?_
  refine xw_go xb_55 2 (f1 := (xm_sw [(0, 68), (1, 76), (2, 84), (3, 92), (4, 100), (5, 108), (6, 116), (7, 124), (8, 132), (9, 140), (10, 148), (11, 156), (12, 171)] 182 (nI 12), [.ref 0, .int (nI 12)], [])) (h1 := (xS b, I, L, xP b)) rfl trivial ?_
  refine xw_if (fun c_1_0 => ?_) (fun c_1_0 => ?_)
  · skip
    exfalso
    try simp only [xB_dec, Classical.not_not] at c_1_0
    try simp (disch := omega) only [xt_eq, xt_lt, xt_le, xkt_0, xkt_1, xkt_2, xkt_3, xkt_4, xkt_5, xkt_6, xkt_7, xkt_8, xkt_9, xkt_10, xkt_11, xkt_12, xkt_13, xkt_14, xkt_16, xkt_20, xkt_24, xkt_31, xkt_32, xkt_40, xkt_44, xkt_47, xkt_48, xkt_57, xkt_59, xkt_60, xkt_63, xkt_64, xkt_65, xkt_72, xkt_95, xkt_99, xkt_100, xkt_101, xkt_103, xkt_110, xkt_112, xkt_113, xkt_114, xkt_119, xkt_126, xkt_159, xkt_576, xkt_999, xkt_9999, xkt_65536, xkt_999999, xkt_m1, xkt_m2, xkt_m3, xkt_m4, xkt_m11, xkt_m12, xkt_m13, xkt_m14, xkt_m20, xjt_0, xjt_1, xjt_2, xjt_3, xjt_4, xjt_5, xjt_6, xjt_7, xjt_8, xjt_9, xjt_10, xjt_11, xjt_12, xjt_13, xjt_14, xjt_16, xjt_20, xjt_24, xjt_31, xjt_32, xjt_40, xjt_44, xjt_47, xjt_48, xjt_57, xjt_59, xjt_60, xjt_63, xjt_64, xjt_65, xjt_72, xjt_95, xjt_99, xjt_100, xjt_101, xjt_103, xjt_110, xjt_112, xjt_113, xjt_114, xjt_119, xjt_126, xjt_159, xjt_576, xjt_999, xjt_9999, xjt_65536, xjt_999999, xt64, xt_n, not_true_eq_false, not_false_eq_true, Classical.not_not] at c_1_0
    all_goals omega
  refine xw_if (fun c_1_1 => ?_) (fun c_1_1 => ?_)
  · skip
    exfalso
    try simp only [xB_dec, Classical.not_not] at c_1_0 c_1_1
    try simp (disch := omega) only [xt_eq, xt_lt, xt_le, xkt_0, xkt_1, xkt_2, xkt_3, xkt_4, xkt_5, xkt_6, xkt_7, xkt_8, xkt_9, xkt_10, xkt_11, xkt_12, xkt_13, xkt_14, xkt_16, xkt_20, xkt_24, xkt_31, xkt_32, xkt_40, xkt_44, xkt_47, xkt_48, xkt_57, xkt_59, xkt_60, xkt_63, xkt_64, xkt_65, xkt_72, xkt_95, xkt_99, xkt_100, xkt_101, xkt_103, xkt_110, xkt_112, xkt_113, xkt_114, xkt_119, xkt_126, xkt_159, xkt_576, xkt_999, xkt_9999, xkt_65536, xkt_999999, xkt_m1, xkt_m2, xkt_m3, xkt_m4, xkt_m11, xkt_m12, xkt_m13, xkt_m14, xkt_m20, xjt_0, xjt_1, xjt_2, xjt_3, xjt_4, xjt_5, xjt_6, xjt_7, xjt_8, xjt_9, xjt_10, xjt_11, xjt_12, xjt_13, xjt_14, xjt_16, xjt_20, xjt_24, xjt_31, xjt_32, xjt_40, xjt_44, xjt_47, xjt_48, xjt_57, xjt_59, xjt_60, xjt_63, xjt_64, xjt_65, xjt_72, xjt_95, xjt_99, xjt_100, xjt_101, xjt_103, xjt_110, xjt_112, xjt_113, xjt_114, xjt_119, xjt_126, xjt_159, xjt_576, xjt_999, xjt_9999, xjt_65536, xjt_999999, xt64, xt_n, not_true_eq_false, not_false_eq_true, Classical.not_not] at c_1_0 c_1_1
    all_goals omega
  refine xw_if (fun c_1_2 => ?_) (fun c_1_2 => ?_)
  · skip
    exfalso
    try simp only [xB_dec, Classical.not_not] at c_1_0 c_1_1 c_1_2
    try simp (disch := omega) only [xt_eq, xt_lt, xt_le, xkt_0, xkt_1, xkt_2, xkt_3, xkt_4, xkt_5, xkt_6, xkt_7, xkt_8, xkt_9, xkt_10, xkt_11, xkt_12, xkt_13, xkt_14, xkt_16, xkt_20, xkt_24, xkt_31, xkt_32, xkt_40, xkt_44, xkt_47, xkt_48, xkt_57, xkt_59, xkt_60, xkt_63, xkt_64, xkt_65, xkt_72, xkt_95, xkt_99, xkt_100, xkt_101, xkt_103, xkt_110, xkt_112, xkt_113, xkt_114, xkt_119, xkt_126, xkt_159, xkt_576, xkt_999, xkt_9999, xkt_65536, xkt_999999, xkt_m1, xkt_m2, xkt_m3, xkt_m4, xkt_m11, xkt_m12, xkt_m13, xkt_m14, xkt_m20, xjt_0, xjt_1, xjt_2, xjt_3, xjt_4, xjt_5, xjt_6, xjt_7, xjt_8, xjt_9, xjt_10, xjt_11, xjt_12, xjt_13, xjt_14, xjt_16, xjt_20, xjt_24, xjt_31, xjt_32, xjt_40, xjt_44, xjt_47, xjt_48, xjt_57, xjt_59, xjt_60, xjt_63, xjt_64, xjt_65, xjt_72, xjt_95, xjt_99, xjt_100, xjt_101, xjt_103, xjt_110, xjt_112, xjt_113, xjt_114, xjt_119, xjt_126, xjt_159, xjt_576, xjt_999, xjt_9999, xjt_65536, xjt_999999, xt64, xt_n, not_true_eq_false, not_false_eq_true, Classical.not_not] at c_1_0 c_1_1 c_1_2
    all_goals omega
  refine xw_if (fun c_1_3 => ?_) (fun c_1_3 => ?_)
  · skip
    exfalso
    try simp only [xB_dec, Classical.not_not] at c_1_0 c_1_1 c_1_2 c_1_3
    try simp (disch := omega) only [xt_eq, xt_lt, xt_le, xkt_0, xkt_1, xkt_2, xkt_3, xkt_4, xkt_5, xkt_6, xkt_7, xkt_8, xkt_9, xkt_10, xkt_11, xkt_12, xkt_13, xkt_14, xkt_16, xkt_20, xkt_24, xkt_31, xkt_32, xkt_40, xkt_44, xkt_47, xkt_48, xkt_57, xkt_59, xkt_60, xkt_63, xkt_64, xkt_65, xkt_72, xkt_95, xkt_99, xkt_100, xkt_101, xkt_103, xkt_110, xkt_112, xkt_113, xkt_114, xkt_119, xkt_126, xkt_159, xkt_576, xkt_999, xkt_9999, xkt_65536, xkt_999999, xkt_m1, xkt_m2, xkt_m3, xkt_m4, xkt_m11, xkt_m12, xkt_m13, xkt_m14, xkt_m20, xjt_0, xjt_1, xjt_2, xjt_3, xjt_4, xjt_5, xjt_6, xjt_7, xjt_8, xjt_9, xjt_10, xjt_11, xjt_12, xjt_13, xjt_14, xjt_16, xjt_20, xjt_24, xjt_31, xjt_32, xjt_40, xjt_44, xjt_47, xjt_48, xjt_57, xjt_59, xjt_60, xjt_63, xjt_64, xjt_65, xjt_72, xjt_95, xjt_99, xjt_100, xjt_101, xjt_103, xjt_110, xjt_112, xjt_113, xjt_114, xjt_119, xjt_126, xjt_159, xjt_576, xjt_999, xjt_9999, xjt_65536, xjt_999999, xt64, xt_n, not_true_eq_false, not_false_eq_true, Classical.not_not] at c_1_0 c_1_1 c_1_2 c_1_3
    all_goals omega
  refine xw_if (fun c_1_4 => ?_) (fun c_1_4 => ?_)
  · skip
    exfalso
    try simp only [xB_dec, Classical.not_not] at c_1_0 c_1_1 c_1_2 c_1_3 c_1_4
    try simp (disch := omega) only [xt_eq, xt_lt, xt_le, xkt_0, xkt_1, xkt_2, xkt_3, xkt_4, xkt_5, xkt_6, xkt_7, xkt_8, xkt_9, xkt_10, xkt_11, xkt_12, xkt_13, xkt_14, xkt_16, xkt_20, xkt_24, xkt_31, xkt_32, xkt_40, xkt_44, xkt_47, xkt_48, xkt_57, xkt_59, xkt_60, xkt_63, xkt_64, xkt_65, xkt_72, xkt_95, xkt_99, xkt_100, xkt_101, xkt_103, xkt_110, xkt_112, xkt_113, xkt_114, xkt_119, xkt_126, xkt_159, xkt_576, xkt_999, xkt_9999, xkt_65536, xkt_999999, xkt_m1, xkt_m2, xkt_m3, xkt_m4, xkt_m11, xkt_m12, xkt_m13, xkt_m14, xkt_m20, xjt_0, xjt_1, xjt_2, xjt_3, xjt_4, xjt_5, xjt_6, xjt_7, xjt_8, xjt_9, xjt_10, xjt_11, xjt_12, xjt_13, xjt_14, xjt_16, xjt_20, xjt_24, xjt_31, xjt_32, xjt_40, xjt_44, xjt_47, xjt_48, xjt_57, xjt_59, xjt_60, xjt_63, xjt_64, xjt_65, xjt_72, xjt_95, xjt_99, xjt_100, xjt_101, xjt_103, xjt_110, xjt_112, xjt_113, xjt_114, xjt_119, xjt_126, xjt_159, xjt_576, xjt_999, xjt_9999, xjt_65536, xjt_999999, xt64, xt_n, not_true_eq_false, not_false_eq_true, Classical.not_not] at c_1_0 c_1_1 c_1_2 c_1_3 c_1_4
    all_goals omega
  refine xw_if (fun c_1_5 => ?_) (fun c_1_5 => ?_)
  · skip
    exfalso
    try simp only [xB_dec, Classical.not_not] at c_1_0 c_1_1 c_1_2 c_1_3 c_1_4 c_1_5
    try simp (disch := omega) only [xt_eq, xt_lt, xt_le, xkt_0, xkt_1, xkt_2, xkt_3, xkt_4, xkt_5, xkt_6, xkt_7, xkt_8, xkt_9, xkt_10, xkt_11, xkt_12, xkt_13, xkt_14, xkt_16, xkt_20, xkt_24, xkt_31, xkt_32, xkt_40, xkt_44, xkt_47, xkt_48, xkt_57, xkt_59, xkt_60, xkt_63, xkt_64, xkt_65, xkt_72, xkt_95, xkt_99, xkt_100, xkt_101, xkt_103, xkt_110, xkt_112, xkt_113, xkt_114, xkt_119, xkt_126, xkt_159, xkt_576, xkt_999, xkt_9999, xkt_65536, xkt_999999, xkt_m1, xkt_m2, xkt_m3, xkt_m4, xkt_m11, xkt_m12, xkt_m13, xkt_m14, xkt_m20, xjt_0, xjt_1, xjt_2, xjt_3, xjt_4, xjt_5, xjt_6, xjt_7, xjt_8, xjt_9, xjt_10, xjt_11, xjt_12, xjt_13, xjt_14, xjt_16, xjt_20, xjt_24, xjt_31, xjt_32, xjt_40, xjt_44, xjt_47, xjt_48, xjt_57, xjt_59, xjt_60, xjt_63, xjt_64, xjt_65, xjt_72, xjt_95, xjt_99, xjt_100, xjt_101, xjt_103, xjt_110, xjt_112, xjt_113, xjt_114, xjt_119, xjt_126, xjt_159, xjt_576, xjt_999, xjt_9999, xjt_65536, xjt_999999, xt64, xt_n, not_true_eq_false, not_false_eq_true, Classical.not_not] at c_1_0 c_1_1 c_1_2 c_1_3 c_1_4 c_1_5
    all_goals omega
  refine xw_if (fun c_1_6 => ?_) (fun c_1_6 => ?_)
  · skip
    exfalso
    try simp only [xB_dec, Classical.not_not] at c_1_0 c_1_1 c_1_2 c_1_3 c_1_4 c_1_5 c_1_6
    try simp (disch := omega) only [xt_eq, xt_lt, xt_le, xkt_0, xkt_1, xkt_2, xkt_3, xkt_4, xkt_5, xkt_6, xkt_7, xkt_8, xkt_9, xkt_10, xkt_11, xkt_12, xkt_13, xkt_14, xkt_16, xkt_20, xkt_24, xkt_31, xkt_32, xkt_40, xkt_44, xkt_47, xkt_48, xkt_57, xkt_59, xkt_60, xkt_63, xkt_64, xkt_65, xkt_72, xkt_95, xkt_99, xkt_100, xkt_101, xkt_103, xkt_110, xkt_112, xkt_113, xkt_114, xkt_119, xkt_126, xkt_159, xkt_576, xkt_999, xkt_9999, xkt_65536, xkt_999999, xkt_m1, xkt_m2, xkt_m3, xkt_m4, xkt_m11, xkt_m12, xkt_m13, xkt_m14, xkt_m20, xjt_0, xjt_1, xjt_2, xjt_3, xjt_4, xjt_5, xjt_6, xjt_7, xjt_8, xjt_9, xjt_10, xjt_11, xjt_12, xjt_13, xjt_14, xjt_16, xjt_20, xjt_24, xjt_31, xjt_32, xjt_40, xjt_44, xjt_47, xjt_48, xjt_57, xjt_59, xjt_60, xjt_63, xjt_64, xjt_65, xjt_72, xjt_95, xjt_99, xjt_100, xjt_101, xjt_103, xjt_110, xjt_112, xjt_113, xjt_114, xjt_119, xjt_126, xjt_159, xjt_576, xjt_999, xjt_9999, xjt_65536, xjt_999999, xt64, xt_n, not_true_eq_false, not_false_eq_true, Classical.not_not] at c_1_0 c_1_1 c_1_2 c_1_3 c_1_4 c_1_5 c_1_6
    all_goals omega
  refine xw_if (fun c_1_7 => ?_) (fun c_1_7 => ?_)
  · skip
    exfalso
    try simp only [xB_dec, Classical.not_not] at c_1_0 c_1_1 c_1_2 c_1_3 c_1_4 c_1_5 c_1_6 c_1_7
    try simp (disch := omega) only [xt_eq, xt_lt, xt_le, xkt_0, xkt_1, xkt_2, xkt_3, xkt_4, xkt_5, xkt_6, xkt_7, xkt_8, xkt_9, xkt_10, xkt_11, xkt_12, xkt_13, xkt_14, xkt_16, xkt_20, xkt_24, xkt_31, xkt_32, xkt_40, xkt_44, xkt_47, xkt_48, xkt_57, xkt_59, xkt_60, xkt_63, xkt_64, xkt_65, xkt_72, xkt_95, xkt_99, xkt_100, xkt_101, xkt_103, xkt_110, xkt_112, xkt_113, xkt_114, xkt_119, xkt_126, xkt_159, xkt_576, xkt_999, xkt_9999, xkt_65536, xkt_999999, xkt_m1, xkt_m2, xkt_m3, xkt_m4, xkt_m11, xkt_m12, xkt_m13, xkt_m14, xkt_m20, xjt_0, xjt_1, xjt_2, xjt_3, xjt_4, xjt_5, xjt_6, xjt_7, xjt_8, xjt_9, xjt_10, xjt_11, xjt_12, xjt_13, xjt_14, xjt_16, xjt_20, xjt_24, xjt_31, xjt_32, xjt_40, xjt_44, xjt_47, xjt_48, xjt_57, xjt_59, xjt_60, xjt_63, xjt_64, xjt_65, xjt_72, xjt_95, xjt_99, xjt_100, xjt_101, xjt_103, xjt_110, xjt_112, xjt_113, xjt_114, xjt_119, xjt_126, xjt_159, xjt_576, xjt_999, xjt_9999, xjt_65536, xjt_999999, xt64, xt_n, not_true_eq_false, not_false_eq_true, Classical.not_not] at c_1_0 c_1_1 c_1_2 c_1_3 c_1_4 c_1_5 c_1_6 c_1_7
    all_goals omega
  refine xw_if (fun c_1_8 => ?_) (fun c_1_8 => ?_)
  · skip
    exfalso
    try simp only [xB_dec, Classical.not_not] at c_1_0 c_1_1 c_1_2 c_1_3 c_1_4 c_1_5 c_1_6 c_1_7 c_1_8
    try simp (disch := omega) only [xt_eq, xt_lt, xt_le, xkt_0, xkt_1, xkt_2, xkt_3, xkt_4, xkt_5, xkt_6, xkt_7, xkt_8, xkt_9, xkt_10, xkt_11, xkt_12, xkt_13, xkt_14, xkt_16, xkt_20, xkt_24, xkt_31, xkt_32, xkt_40, xkt_44, xkt_47, xkt_48, xkt_57, xkt_59, xkt_60, xkt_63, xkt_64, xkt_65, xkt_72, xkt_95, xkt_99, xkt_100, xkt_101, xkt_103, xkt_110, xkt_112, xkt_113, xkt_114, xkt_119, xkt_126, xkt_159, xkt_576, xkt_999, xkt_9999, xkt_65536, xkt_999999, xkt_m1, xkt_m2, xkt_m3, xkt_m4, xkt_m11, xkt_m12, xkt_m13, xkt_m14, xkt_m20, xjt_0, xjt_1, xjt_2, xjt_3, xjt_4, xjt_5, xjt_6, xjt_7, xjt_8, xjt_9, xjt_10, xjt_11, xjt_12, xjt_13, xjt_14, xjt_16, xjt_20, xjt_24, xjt_31, xjt_32, xjt_40, xjt_44, xjt_47, xjt_48, xjt_57, xjt_59, xjt_60, xjt_63, xjt_64, xjt_65, xjt_72, xjt_95, xjt_99, xjt_100, xjt_101, xjt_103, xjt_110, xjt_112, xjt_113, xjt_114, xjt_119, xjt_126, xjt_159, xjt_576, xjt_999, xjt_9999, xjt_65536, xjt_999999, xt64, xt_n, not_true_eq_false, not_false_eq_true, Classical.not_not] at c_1_0 c_1_1 c_1_2 c_1_3 c_1_4 c_1_5 c_1_6 c_1_7 c_1_8
    all_goals omega
  refine xw_if (fun c_1_9 => ?_) (fun c_1_9 => ?_)
  · skip
    exfalso
    try simp only [xB_dec, Classical.not_not] at c_1_0 c_1_1 c_1_2 c_1_3 c_1_4 c_1_5 c_1_6 c_1_7 c_1_8 c_1_9
    try simp (disch := omega) only [xt_eq, xt_lt, xt_le, xkt_0, xkt_1, xkt_2, xkt_3, xkt_4, xkt_5, xkt_6, xkt_7, xkt_8, xkt_9, xkt_10, xkt_11, xkt_12, xkt_13, xkt_14, xkt_16, xkt_20, xkt_24, xkt_31, xkt_32, xkt_40, xkt_44, xkt_47, xkt_48, xkt_57, xkt_59, xkt_60, xkt_63, xkt_64, xkt_65, xkt_72, xkt_95, xkt_99, xkt_100, xkt_101, xkt_103, xkt_110, xkt_112, xkt_113, xkt_114, xkt_119, xkt_126, xkt_159, xkt_576, xkt_999, xkt_9999, xkt_65536, xkt_999999, xkt_m1, xkt_m2, xkt_m3, xkt_m4, xkt_m11, xkt_m12, xkt_m13, xkt_m14, xkt_m20, xjt_0, xjt_1, xjt_2, xjt_3, xjt_4, xjt_5, xjt_6, xjt_7, xjt_8, xjt_9, xjt_10, xjt_11, xjt_12, xjt_13, xjt_14, xjt_16, xjt_20, xjt_24, xjt_31, xjt_32, xjt_40, xjt_44, xjt_47, xjt_48, xjt_57, xjt_59, xjt_60, xjt_63, xjt_64, xjt_65, xjt_72, xjt_95, xjt_99, xjt_100, xjt_101, xjt_103, xjt_110, xjt_112, xjt_113, xjt_114, xjt_119, xjt_126, xjt_159, xjt_576, xjt_999, xjt_9999, xjt_65536, xjt_999999, xt64, xt_n, not_true_eq_false, not_false_eq_true, Classical.not_not] at c_1_0 c_1_1 c_1_2 c_1_3 c_1_4 c_1_5 c_1_6 c_1_7 c_1_8 c_1_9
    all_goals omega
  refine xw_if (fun c_1_10 => ?_) (fun c_1_10 => ?_)
  · skip
    exfalso
    try simp only [xB_dec, Classical.not_not] at c_1_0 c_1_1 c_1_2 c_1_3 c_1_4 c_1_5 c_1_6 c_1_7 c_1_8 c_1_9 c_1_10
    try simp (disch := omega) only [xt_eq, xt_lt, xt_le, xkt_0, xkt_1, xkt_2, xkt_3, xkt_4, xkt_5, xkt_6, xkt_7, xkt_8, xkt_9, xkt_10, xkt_11, xkt_12, xkt_13, xkt_14, xkt_16, xkt_20, xkt_24, xkt_31, xkt_32, xkt_40, xkt_44, xkt_47, xkt_48, xkt_57, xkt_59, xkt_60, xkt_63, xkt_64, xkt_65, xkt_72, xkt_95, xkt_99, xkt_100, xkt_101, xkt_103, xkt_110, xkt_112, xkt_113, xkt_114, xkt_119, xkt_126, xkt_159, xkt_576, xkt_999, xkt_9999, xkt_65536, xkt_999999, xkt_m1, xkt_m2, xkt_m3, xkt_m4, xkt_m11, xkt_m12, xkt_m13, xkt_m14, xkt_m20, xjt_0, xjt_1, xjt_2, xjt_3, xjt_4, xjt_5, xjt_6, xjt_7, xjt_8, xjt_9, xjt_10, xjt_11, xjt_12, xjt_13, xjt_14, xjt_16, xjt_20, xjt_24, xjt_31, xjt_32, xjt_40, xjt_44, xjt_47, xjt_48, xjt_57, xjt_59, xjt_60, xjt_63, xjt_64, xjt_65, xjt_72, xjt_95, xjt_99, xjt_100, xjt_101, xjt_103, xjt_110, xjt_112, xjt_113, xjt_114, xjt_119, xjt_126, xjt_159, xjt_576, xjt_999, xjt_9999, xjt_65536, xjt_999999, xt64, xt_n, not_true_eq_false, not_false_eq_true, Classical.not_not] at c_1_0 c_1_1 c_1_2 c_1_3 c_1_4 c_1_5 c_1_6 c_1_7 c_1_8 c_1_9 c_1_10
    all_goals omega
  refine xw_if (fun c_1_11 => ?_) (fun c_1_11 => ?_)
  · skip
    exfalso
    try simp only [xB_dec, Classical.not_not] at c_1_0 c_1_1 c_1_2 c_1_3 c_1_4 c_1_5 c_1_6 c_1_7 c_1_8 c_1_9 c_1_10 c_1_11
    try simp (disch := omega) only [xt_eq, xt_lt, xt_le, xkt_0, xkt_1, xkt_2, xkt_3, xkt_4, xkt_5, xkt_6, xkt_7, xkt_8, xkt_9, xkt_10, xkt_11, xkt_12, xkt_13, xkt_14, xkt_16, xkt_20, xkt_24, xkt_31, xkt_32, xkt_40, xkt_44, xkt_47, xkt_48, xkt_57, xkt_59, xkt_60, xkt_63, xkt_64, xkt_65, xkt_72, xkt_95, xkt_99, xkt_100, xkt_101, xkt_103, xkt_110, xkt_112, xkt_113, xkt_114, xkt_119, xkt_126, xkt_159, xkt_576, xkt_999, xkt_9999, xkt_65536, xkt_999999, xkt_m1, xkt_m2, xkt_m3, xkt_m4, xkt_m11, xkt_m12, xkt_m13, xkt_m14, xkt_m20, xjt_0, xjt_1, xjt_2, xjt_3, xjt_4, xjt_5, xjt_6, xjt_7, xjt_8, xjt_9, xjt_10, xjt_11, xjt_12, xjt_13, xjt_14, xjt_16, xjt_20, xjt_24, xjt_31, xjt_32, xjt_40, xjt_44, xjt_47, xjt_48, xjt_57, xjt_59, xjt_60, xjt_63, xjt_64, xjt_65, xjt_72, xjt_95, xjt_99, xjt_100, xjt_101, xjt_103, xjt_110, xjt_112, xjt_113, xjt_114, xjt_119, xjt_126, xjt_159, xjt_576, xjt_999, xjt_9999, xjt_65536, xjt_999999, xt64, xt_n, not_true_eq_false, not_false_eq_true, Classical.not_not] at c_1_0 c_1_1 c_1_2 c_1_3 c_1_4 c_1_5 c_1_6 c_1_7 c_1_8 c_1_9 c_1_10 c_1_11
    all_goals omega
  refine xw_if (fun c_1_12 => ?_) (fun c_1_12 => ?_)
  · skip
    refine xw_go xb_55 4 (f1 := (181, [.ref 0, .int (nI 12)], [.int (I 5 1)])) (h1 := (xS b, I, L, xP b)) rfl ⟨rfl, rfl, rfl, trivial⟩ ?_
    refine xw_ret xb_55 rfl rfl trivial ?_
    obtain ⟨h1, nx, h2, h3, h4⟩ := hP
    exact ⟨xm_some (congrArg Value.int h3), I, rfl, xPF_r I, h1, nx, h2, h3, h4⟩
  refine xw_at (f' := (182, [.ref 0, .int (nI 12)], [])) (h' := (xS b, I, L, xP b)) rfl rfl ?_
  exfalso
  try simp only [xB_dec, Classical.not_not] at c_1_0 c_1_1 c_1_2 c_1_3 c_1_4 c_1_5 c_1_6 c_1_7 c_1_8 c_1_9 c_1_10 c_1_11 c_1_12
  try simp (disch := omega) only [xt_eq, xt_lt, xt_le, xkt_0, xkt_1, xkt_2, xkt_3, xkt_4, xkt_5, xkt_6, xkt_7, xkt_8, xkt_9, xkt_10, xkt_11, xkt_12, xkt_13, xkt_14, xkt_16, xkt_20, xkt_24, xkt_31, xkt_32, xkt_40, xkt_44, xkt_47, xkt_48, xkt_57, xkt_59, xkt_60, xkt_63, xkt_64, xkt_65, xkt_72, xkt_95, xkt_99, xkt_100, xkt_101, xkt_103, xkt_110, xkt_112, xkt_113, xkt_114, xkt_119, xkt_126, xkt_159, xkt_576, xkt_999, xkt_9999, xkt_65536, xkt_999999, xkt_m1, xkt_m2, xkt_m3, xkt_m4, xkt_m11, xkt_m12, xkt_m13, xkt_m14, xkt_m20, xjt_0, xjt_1, xjt_2, xjt_3, xjt_4, xjt_5, xjt_6, xjt_7, xjt_8, xjt_9, xjt_10, xjt_11, xjt_12, xjt_13, xjt_14, xjt_16, xjt_20, xjt_24, xjt_31, xjt_32, xjt_40, xjt_44, xjt_47, xjt_48, xjt_57, xjt_59, xjt_60, xjt_63, xjt_64, xjt_65, xjt_72, xjt_95, xjt_99, xjt_100, xjt_101, xjt_103, xjt_110, xjt_112, xjt_113, xjt_114, xjt_119, xjt_126, xjt_159, xjt_576, xjt_999, xjt_9999, xjt_65536, xjt_999999, xt64, xt_n, not_true_eq_false, not_false_eq_true, Classical.not_not] at c_1_0 c_1_1 c_1_2 c_1_3 c_1_4 c_1_5 c_1_6 c_1_7 c_1_8 c_1_9 c_1_10 c_1_11 c_1_12
  all_goals omega

theorem m_count0 {d : Nat} {b : Bool} {I : Nat → Nat → Int32} {L : Nat → Nat → Int64} {N : Nat → Nat} {u : Nat} {U : Nat → Nat → Nat} (hM : xML N u U I) (hK : xUK N u U) {x : Int32} (hx : x.toInt < 0 ∨ 12 < x.toInt) : xm_Z (d + 4) 130 [.ref 60, .int x] (xS b, I, L, xP b) (fun rz hz => xQM b I L (-1) N u U rz hz) := by
  have hO := hK.1
  have hb := hK.1.1
  have c64 : N 0 * N 1 ≤ 64 := xce_le hO
  have c4 : 4 ≤ N 0 * N 1 := xce_ge hO
  refine xw_S xb_130 (l := [.ref 60, .int x]) (Nat.le_of_ble_eq_true rfl) rfl ?_
  refine xw_go xb_130 4 (f1 := (6, [.ref 60, .int x], [.long 9, .long 0, .long x.toInt64])) (h1 := (xS b, I, L, xP b)) rfl trivial ?_
  refine xw_call xb_130 rfl rfl rfl rfl rfl (Or.inl rfl) m_in ?_
  rintro _ _ ⟨rfl, rfl⟩
  refine xw_at (f' := (9, [.ref 60, .int x], [.int (nI (xB (decide ((0 : Int64).toInt ≤ x.toInt64.toInt ∧ x.toInt64.toInt ≤ (9 : Int64).toInt))))])) (h' := (xS b, I, L, xP b)) rfl rfl ?_
  refine xw_go xb_130 1 (f1 := (if (nI (xB (decide ((0 : Int64).toInt ≤ x.toInt64.toInt ∧ x.toInt64.toInt ≤ (9 : Int64).toInt)))) = 0 then 19 else 12, [.ref 60, .int x], [])) (h1 := (xS b, I, L, xP b)) rfl trivial ?_
  refine xw_if (fun c_9 => ?_) (fun c_9 => ?_)
  · skip
    refine xw_go xb_130 3 (f1 := (if ¬ x = 10 then 32 else 25, [.ref 60, .int x], [])) (h1 := (xS b, I, L, xP b)) rfl trivial ?_
    refine xw_if (fun c_22 => ?_) (fun c_22 => ?_)
    · skip
      refine xw_go xb_130 3 (f1 := (if ¬ x = 11 then 45 else 38, [.ref 60, .int x], [])) (h1 := (xS b, I, L, xP b)) rfl trivial ?_
      refine xw_if (fun c_35 => ?_) (fun c_35 => ?_)
      · skip
        refine xw_go xb_130 3 (f1 := (if ¬ x = 12 then 58 else 51, [.ref 60, .int x], [])) (h1 := (xS b, I, L, xP b)) rfl trivial ?_
        refine xw_if (fun c_48 => ?_) (fun c_48 => ?_)
        · skip
          refine xw_go xb_130 1 (f1 := (59, [.ref 60, .int x], [.int (-1)])) (h1 := (xS b, I, L, xP b)) rfl trivial ?_
          refine xw_ret xb_130 rfl rfl trivial ?_
          exact xQM_same hM
        · skip
          exfalso
          try simp only [xB_dec, Classical.not_not] at c_9 c_22 c_35 c_48
          try simp (disch := omega) only [xt_eq, xt_lt, xt_le, xkt_0, xkt_1, xkt_2, xkt_3, xkt_4, xkt_5, xkt_6, xkt_7, xkt_8, xkt_9, xkt_10, xkt_11, xkt_12, xkt_13, xkt_14, xkt_16, xkt_20, xkt_24, xkt_31, xkt_32, xkt_40, xkt_44, xkt_47, xkt_48, xkt_57, xkt_59, xkt_60, xkt_63, xkt_64, xkt_65, xkt_72, xkt_95, xkt_99, xkt_100, xkt_101, xkt_103, xkt_110, xkt_112, xkt_113, xkt_114, xkt_119, xkt_126, xkt_159, xkt_576, xkt_999, xkt_9999, xkt_65536, xkt_999999, xkt_m1, xkt_m2, xkt_m3, xkt_m4, xkt_m11, xkt_m12, xkt_m13, xkt_m14, xkt_m20, xjt_0, xjt_1, xjt_2, xjt_3, xjt_4, xjt_5, xjt_6, xjt_7, xjt_8, xjt_9, xjt_10, xjt_11, xjt_12, xjt_13, xjt_14, xjt_16, xjt_20, xjt_24, xjt_31, xjt_32, xjt_40, xjt_44, xjt_47, xjt_48, xjt_57, xjt_59, xjt_60, xjt_63, xjt_64, xjt_65, xjt_72, xjt_95, xjt_99, xjt_100, xjt_101, xjt_103, xjt_110, xjt_112, xjt_113, xjt_114, xjt_119, xjt_126, xjt_159, xjt_576, xjt_999, xjt_9999, xjt_65536, xjt_999999, xt64, xt_n, not_true_eq_false, not_false_eq_true, Classical.not_not] at c_9 c_22 c_35 c_48
          all_goals omega
      · skip
        exfalso
        try simp only [xB_dec, Classical.not_not] at c_9 c_22 c_35
        try simp (disch := omega) only [xt_eq, xt_lt, xt_le, xkt_0, xkt_1, xkt_2, xkt_3, xkt_4, xkt_5, xkt_6, xkt_7, xkt_8, xkt_9, xkt_10, xkt_11, xkt_12, xkt_13, xkt_14, xkt_16, xkt_20, xkt_24, xkt_31, xkt_32, xkt_40, xkt_44, xkt_47, xkt_48, xkt_57, xkt_59, xkt_60, xkt_63, xkt_64, xkt_65, xkt_72, xkt_95, xkt_99, xkt_100, xkt_101, xkt_103, xkt_110, xkt_112, xkt_113, xkt_114, xkt_119, xkt_126, xkt_159, xkt_576, xkt_999, xkt_9999, xkt_65536, xkt_999999, xkt_m1, xkt_m2, xkt_m3, xkt_m4, xkt_m11, xkt_m12, xkt_m13, xkt_m14, xkt_m20, xjt_0, xjt_1, xjt_2, xjt_3, xjt_4, xjt_5, xjt_6, xjt_7, xjt_8, xjt_9, xjt_10, xjt_11, xjt_12, xjt_13, xjt_14, xjt_16, xjt_20, xjt_24, xjt_31, xjt_32, xjt_40, xjt_44, xjt_47, xjt_48, xjt_57, xjt_59, xjt_60, xjt_63, xjt_64, xjt_65, xjt_72, xjt_95, xjt_99, xjt_100, xjt_101, xjt_103, xjt_110, xjt_112, xjt_113, xjt_114, xjt_119, xjt_126, xjt_159, xjt_576, xjt_999, xjt_9999, xjt_65536, xjt_999999, xt64, xt_n, not_true_eq_false, not_false_eq_true, Classical.not_not] at c_9 c_22 c_35
        all_goals omega
    · skip
      exfalso
      try simp only [xB_dec, Classical.not_not] at c_9 c_22
      try simp (disch := omega) only [xt_eq, xt_lt, xt_le, xkt_0, xkt_1, xkt_2, xkt_3, xkt_4, xkt_5, xkt_6, xkt_7, xkt_8, xkt_9, xkt_10, xkt_11, xkt_12, xkt_13, xkt_14, xkt_16, xkt_20, xkt_24, xkt_31, xkt_32, xkt_40, xkt_44, xkt_47, xkt_48, xkt_57, xkt_59, xkt_60, xkt_63, xkt_64, xkt_65, xkt_72, xkt_95, xkt_99, xkt_100, xkt_101, xkt_103, xkt_110, xkt_112, xkt_113, xkt_114, xkt_119, xkt_126, xkt_159, xkt_576, xkt_999, xkt_9999, xkt_65536, xkt_999999, xkt_m1, xkt_m2, xkt_m3, xkt_m4, xkt_m11, xkt_m12, xkt_m13, xkt_m14, xkt_m20, xjt_0, xjt_1, xjt_2, xjt_3, xjt_4, xjt_5, xjt_6, xjt_7, xjt_8, xjt_9, xjt_10, xjt_11, xjt_12, xjt_13, xjt_14, xjt_16, xjt_20, xjt_24, xjt_31, xjt_32, xjt_40, xjt_44, xjt_47, xjt_48, xjt_57, xjt_59, xjt_60, xjt_63, xjt_64, xjt_65, xjt_72, xjt_95, xjt_99, xjt_100, xjt_101, xjt_103, xjt_110, xjt_112, xjt_113, xjt_114, xjt_119, xjt_126, xjt_159, xjt_576, xjt_999, xjt_9999, xjt_65536, xjt_999999, xt64, xt_n, not_true_eq_false, not_false_eq_true, Classical.not_not] at c_9 c_22
      all_goals omega
  · skip
    exfalso
    try simp only [xB_dec, Classical.not_not] at c_9
    try simp (disch := omega) only [xt_eq, xt_lt, xt_le, xkt_0, xkt_1, xkt_2, xkt_3, xkt_4, xkt_5, xkt_6, xkt_7, xkt_8, xkt_9, xkt_10, xkt_11, xkt_12, xkt_13, xkt_14, xkt_16, xkt_20, xkt_24, xkt_31, xkt_32, xkt_40, xkt_44, xkt_47, xkt_48, xkt_57, xkt_59, xkt_60, xkt_63, xkt_64, xkt_65, xkt_72, xkt_95, xkt_99, xkt_100, xkt_101, xkt_103, xkt_110, xkt_112, xkt_113, xkt_114, xkt_119, xkt_126, xkt_159, xkt_576, xkt_999, xkt_9999, xkt_65536, xkt_999999, xkt_m1, xkt_m2, xkt_m3, xkt_m4, xkt_m11, xkt_m12, xkt_m13, xkt_m14, xkt_m20, xjt_0, xjt_1, xjt_2, xjt_3, xjt_4, xjt_5, xjt_6, xjt_7, xjt_8, xjt_9, xjt_10, xjt_11, xjt_12, xjt_13, xjt_14, xjt_16, xjt_20, xjt_24, xjt_31, xjt_32, xjt_40, xjt_44, xjt_47, xjt_48, xjt_57, xjt_59, xjt_60, xjt_63, xjt_64, xjt_65, xjt_72, xjt_95, xjt_99, xjt_100, xjt_101, xjt_103, xjt_110, xjt_112, xjt_113, xjt_114, xjt_119, xjt_126, xjt_159, xjt_576, xjt_999, xjt_9999, xjt_65536, xjt_999999, xt64, xt_n, not_true_eq_false, not_false_eq_true, Classical.not_not] at c_9
    all_goals omega

theorem m_count1 {d : Nat} {b : Bool} {I : Nat → Nat → Int32} {L : Nat → Nat → Int64} {N : Nat → Nat} {u : Nat} {U : Nat → Nat → Nat} (hM : xML N u U I) (hK : xUK N u U) {k : Nat} (hk : k < 10) {x : Int32} (e_x : x = nI k) : xm_Z (d + 4) 130 [.ref 60, .int x] (xS b, I, L, xP b) (fun rz hz => xQM b I L (nI (N k)) N u U rz hz) := by
  subst e_x
  have hO := hK.1
  have hb := hK.1.1
  have c64 : N 0 * N 1 ≤ 64 := xce_le hO
  have c4 : 4 ≤ N 0 * N 1 := xce_ge hO
  refine xw_S xb_130 (l := [.ref 60, .int (nI k)]) (Nat.le_of_ble_eq_true rfl) rfl ?_
  refine xw_go xb_130 4 (f1 := (6, [.ref 60, .int (nI k)], [.long 9, .long 0, .long ((nI k).toInt64)])) (h1 := (xS b, I, L, xP b)) rfl trivial ?_
  refine xw_call xb_130 rfl rfl rfl rfl rfl (Or.inl rfl) m_in ?_
  rintro _ _ ⟨rfl, rfl⟩
  refine xw_at (f' := (9, [.ref 60, .int (nI k)], [.int (nI (xB (decide ((0 : Int64).toInt ≤ (nI k).toInt64.toInt ∧ (nI k).toInt64.toInt ≤ (9 : Int64).toInt))))])) (h' := (xS b, I, L, xP b)) rfl rfl ?_
  refine xw_go xb_130 1 (f1 := (if (nI (xB (decide ((0 : Int64).toInt ≤ (nI k).toInt64.toInt ∧ (nI k).toInt64.toInt ≤ (9 : Int64).toInt)))) = 0 then 19 else 12, [.ref 60, .int (nI k)], [])) (h1 := (xS b, I, L, xP b)) rfl trivial ?_
  refine xw_if (fun c_9 => ?_) (fun c_9 => ?_)
  · skip
    exfalso
    try simp only [xB_dec, Classical.not_not] at c_9
    try simp (disch := omega) only [xt_eq, xt_lt, xt_le, xkt_0, xkt_1, xkt_2, xkt_3, xkt_4, xkt_5, xkt_6, xkt_7, xkt_8, xkt_9, xkt_10, xkt_11, xkt_12, xkt_13, xkt_14, xkt_16, xkt_20, xkt_24, xkt_31, xkt_32, xkt_40, xkt_44, xkt_47, xkt_48, xkt_57, xkt_59, xkt_60, xkt_63, xkt_64, xkt_65, xkt_72, xkt_95, xkt_99, xkt_100, xkt_101, xkt_103, xkt_110, xkt_112, xkt_113, xkt_114, xkt_119, xkt_126, xkt_159, xkt_576, xkt_999, xkt_9999, xkt_65536, xkt_999999, xkt_m1, xkt_m2, xkt_m3, xkt_m4, xkt_m11, xkt_m12, xkt_m13, xkt_m14, xkt_m20, xjt_0, xjt_1, xjt_2, xjt_3, xjt_4, xjt_5, xjt_6, xjt_7, xjt_8, xjt_9, xjt_10, xjt_11, xjt_12, xjt_13, xjt_14, xjt_16, xjt_20, xjt_24, xjt_31, xjt_32, xjt_40, xjt_44, xjt_47, xjt_48, xjt_57, xjt_59, xjt_60, xjt_63, xjt_64, xjt_65, xjt_72, xjt_95, xjt_99, xjt_100, xjt_101, xjt_103, xjt_110, xjt_112, xjt_113, xjt_114, xjt_119, xjt_126, xjt_159, xjt_576, xjt_999, xjt_9999, xjt_65536, xjt_999999, xt64, xt_n, not_true_eq_false, not_false_eq_true, Classical.not_not] at c_9
    all_goals omega
  · skip
    refine xw_go xb_130 4 (f1 := (18, [.ref 60, .int (nI k)], [.int (I 61 (nI k).toNatClampNeg)])) (h1 := (xS b, I, L, xP b)) rfl ⟨rfl, (xn_ar (n := k) (N := 159) rfl (by omega) (by decide)), trivial⟩ ?_
    refine xw_ret xb_130 rfl rfl trivial ?_
    rw [xn_cl (by omega), hM.1 k (by omega)]
    exact xQM_same hM

theorem m_count10 {d : Nat} {b : Bool} {I : Nat → Nat → Int32} {L : Nat → Nat → Int64} {N : Nat → Nat} {u : Nat} {U : Nat → Nat → Nat} (hM : xML N u U I) (hK : xUK N u U)  {x : Int32} (e_x : x = nI 10) : xm_Z (d + 4) 130 [.ref 60, .int x] (xS b, I, L, xP b) (fun rz hz => xQM b I L (nI (xsum (fun c => N (95 + c)) (N 0 * N 1))) N u U rz hz) := by
  subst e_x
  have hO := hK.1
  have hb := hK.1.1
  have c64 : N 0 * N 1 ≤ 64 := xce_le hO
  have c4 : 4 ≤ N 0 * N 1 := xce_ge hO
  refine xw_S xb_130 (l := [.ref 60, .int (nI 10)]) (Nat.le_of_ble_eq_true rfl) rfl ?_
  refine xw_go xb_130 4 (f1 := (6, [.ref 60, .int (nI 10)], [.long 9, .long 0, .long ((nI 10).toInt64)])) (h1 := (xS b, I, L, xP b)) rfl trivial ?_
  refine xw_call xb_130 rfl rfl rfl rfl rfl (Or.inl rfl) m_in ?_
  rintro _ _ ⟨rfl, rfl⟩
  refine xw_at (f' := (9, [.ref 60, .int (nI 10)], [.int (nI (xB (decide ((0 : Int64).toInt ≤ (nI 10).toInt64.toInt ∧ (nI 10).toInt64.toInt ≤ (9 : Int64).toInt))))])) (h' := (xS b, I, L, xP b)) rfl rfl ?_
  refine xw_go xb_130 1 (f1 := (if (nI (xB (decide ((0 : Int64).toInt ≤ (nI 10).toInt64.toInt ∧ (nI 10).toInt64.toInt ≤ (9 : Int64).toInt)))) = 0 then 19 else 12, [.ref 60, .int (nI 10)], [])) (h1 := (xS b, I, L, xP b)) rfl trivial ?_
  refine xw_if (fun c_9 => ?_) (fun c_9 => ?_)
  · skip
    refine xw_go xb_130 3 (f1 := (if ¬ (nI 10) = 10 then 32 else 25, [.ref 60, .int (nI 10)], [])) (h1 := (xS b, I, L, xP b)) rfl trivial ?_
    refine xw_if (fun c_22 => ?_) (fun c_22 => ?_)
    · skip
      exfalso
      try simp only [xB_dec, Classical.not_not] at c_9 c_22
      try simp (disch := omega) only [xt_eq, xt_lt, xt_le, xkt_0, xkt_1, xkt_2, xkt_3, xkt_4, xkt_5, xkt_6, xkt_7, xkt_8, xkt_9, xkt_10, xkt_11, xkt_12, xkt_13, xkt_14, xkt_16, xkt_20, xkt_24, xkt_31, xkt_32, xkt_40, xkt_44, xkt_47, xkt_48, xkt_57, xkt_59, xkt_60, xkt_63, xkt_64, xkt_65, xkt_72, xkt_95, xkt_99, xkt_100, xkt_101, xkt_103, xkt_110, xkt_112, xkt_113, xkt_114, xkt_119, xkt_126, xkt_159, xkt_576, xkt_999, xkt_9999, xkt_65536, xkt_999999, xkt_m1, xkt_m2, xkt_m3, xkt_m4, xkt_m11, xkt_m12, xkt_m13, xkt_m14, xkt_m20, xjt_0, xjt_1, xjt_2, xjt_3, xjt_4, xjt_5, xjt_6, xjt_7, xjt_8, xjt_9, xjt_10, xjt_11, xjt_12, xjt_13, xjt_14, xjt_16, xjt_20, xjt_24, xjt_31, xjt_32, xjt_40, xjt_44, xjt_47, xjt_48, xjt_57, xjt_59, xjt_60, xjt_63, xjt_64, xjt_65, xjt_72, xjt_95, xjt_99, xjt_100, xjt_101, xjt_103, xjt_110, xjt_112, xjt_113, xjt_114, xjt_119, xjt_126, xjt_159, xjt_576, xjt_999, xjt_9999, xjt_65536, xjt_999999, xt64, xt_n, not_true_eq_false, not_false_eq_true, Classical.not_not] at c_9 c_22
      all_goals omega
    · skip
      refine xw_go xb_130 1 (f1 := (26, [.ref 60, .int (nI 10)], [.ref 60])) (h1 := (xS b, I, L, xP b)) rfl trivial ?_
      refine xw_call xb_130 rfl rfl rfl rfl rfl (Or.inr ⟨_, _, rfl, rfl⟩) (m_wetness (I := I) hM.1 hO) ?_
      rintro _ _ ⟨rfl, rfl⟩
      refine xw_at (f' := (29, [.ref 60, .int (nI 10)], [.int (nI (xsum (fun c => N (95 + c)) (N 0 * N 1)))])) (h' := (xS b, I, L, xP b)) rfl rfl ?_
      refine xw_go xb_130 1 (f1 := (59, [.ref 60, .int (nI 10)], [.int (nI (xsum (fun c => N (95 + c)) (N 0 * N 1)))])) (h1 := (xS b, I, L, xP b)) rfl trivial ?_
      refine xw_ret xb_130 rfl rfl trivial ?_
      exact xQM_same hM
  · skip
    exfalso
    try simp only [xB_dec, Classical.not_not] at c_9
    try simp (disch := omega) only [xt_eq, xt_lt, xt_le, xkt_0, xkt_1, xkt_2, xkt_3, xkt_4, xkt_5, xkt_6, xkt_7, xkt_8, xkt_9, xkt_10, xkt_11, xkt_12, xkt_13, xkt_14, xkt_16, xkt_20, xkt_24, xkt_31, xkt_32, xkt_40, xkt_44, xkt_47, xkt_48, xkt_57, xkt_59, xkt_60, xkt_63, xkt_64, xkt_65, xkt_72, xkt_95, xkt_99, xkt_100, xkt_101, xkt_103, xkt_110, xkt_112, xkt_113, xkt_114, xkt_119, xkt_126, xkt_159, xkt_576, xkt_999, xkt_9999, xkt_65536, xkt_999999, xkt_m1, xkt_m2, xkt_m3, xkt_m4, xkt_m11, xkt_m12, xkt_m13, xkt_m14, xkt_m20, xjt_0, xjt_1, xjt_2, xjt_3, xjt_4, xjt_5, xjt_6, xjt_7, xjt_8, xjt_9, xjt_10, xjt_11, xjt_12, xjt_13, xjt_14, xjt_16, xjt_20, xjt_24, xjt_31, xjt_32, xjt_40, xjt_44, xjt_47, xjt_48, xjt_57, xjt_59, xjt_60, xjt_63, xjt_64, xjt_65, xjt_72, xjt_95, xjt_99, xjt_100, xjt_101, xjt_103, xjt_110, xjt_112, xjt_113, xjt_114, xjt_119, xjt_126, xjt_159, xjt_576, xjt_999, xjt_9999, xjt_65536, xjt_999999, xt64, xt_n, not_true_eq_false, not_false_eq_true, Classical.not_not] at c_9
    all_goals omega

theorem m_count11 {d : Nat} {b : Bool} {I : Nat → Nat → Int32} {L : Nat → Nat → Int64} {N : Nat → Nat} {u : Nat} {U : Nat → Nat → Nat} (hM : xML N u U I) (hK : xUK N u U)  {x : Int32} (e_x : x = nI 11) : xm_Z (d + 4) 130 [.ref 60, .int x] (xS b, I, L, xP b) (fun rz hz => xQM b I L (nI (xwc N)) N u U rz hz) := by
  subst e_x
  have hO := hK.1
  have hb := hK.1.1
  have c64 : N 0 * N 1 ≤ 64 := xce_le hO
  have c4 : 4 ≤ N 0 * N 1 := xce_ge hO
  refine xw_S xb_130 (l := [.ref 60, .int (nI 11)]) (Nat.le_of_ble_eq_true rfl) rfl ?_
  refine xw_go xb_130 4 (f1 := (6, [.ref 60, .int (nI 11)], [.long 9, .long 0, .long ((nI 11).toInt64)])) (h1 := (xS b, I, L, xP b)) rfl trivial ?_
  refine xw_call xb_130 rfl rfl rfl rfl rfl (Or.inl rfl) m_in ?_
  rintro _ _ ⟨rfl, rfl⟩
  refine xw_at (f' := (9, [.ref 60, .int (nI 11)], [.int (nI (xB (decide ((0 : Int64).toInt ≤ (nI 11).toInt64.toInt ∧ (nI 11).toInt64.toInt ≤ (9 : Int64).toInt))))])) (h' := (xS b, I, L, xP b)) rfl rfl ?_
  refine xw_go xb_130 1 (f1 := (if (nI (xB (decide ((0 : Int64).toInt ≤ (nI 11).toInt64.toInt ∧ (nI 11).toInt64.toInt ≤ (9 : Int64).toInt)))) = 0 then 19 else 12, [.ref 60, .int (nI 11)], [])) (h1 := (xS b, I, L, xP b)) rfl trivial ?_
  refine xw_if (fun c_9 => ?_) (fun c_9 => ?_)
  · skip
    refine xw_go xb_130 3 (f1 := (if ¬ (nI 11) = 10 then 32 else 25, [.ref 60, .int (nI 11)], [])) (h1 := (xS b, I, L, xP b)) rfl trivial ?_
    refine xw_if (fun c_22 => ?_) (fun c_22 => ?_)
    · skip
      refine xw_go xb_130 3 (f1 := (if ¬ (nI 11) = 11 then 45 else 38, [.ref 60, .int (nI 11)], [])) (h1 := (xS b, I, L, xP b)) rfl trivial ?_
      refine xw_if (fun c_35 => ?_) (fun c_35 => ?_)
      · skip
        exfalso
        try simp only [xB_dec, Classical.not_not] at c_9 c_22 c_35
        try simp (disch := omega) only [xt_eq, xt_lt, xt_le, xkt_0, xkt_1, xkt_2, xkt_3, xkt_4, xkt_5, xkt_6, xkt_7, xkt_8, xkt_9, xkt_10, xkt_11, xkt_12, xkt_13, xkt_14, xkt_16, xkt_20, xkt_24, xkt_31, xkt_32, xkt_40, xkt_44, xkt_47, xkt_48, xkt_57, xkt_59, xkt_60, xkt_63, xkt_64, xkt_65, xkt_72, xkt_95, xkt_99, xkt_100, xkt_101, xkt_103, xkt_110, xkt_112, xkt_113, xkt_114, xkt_119, xkt_126, xkt_159, xkt_576, xkt_999, xkt_9999, xkt_65536, xkt_999999, xkt_m1, xkt_m2, xkt_m3, xkt_m4, xkt_m11, xkt_m12, xkt_m13, xkt_m14, xkt_m20, xjt_0, xjt_1, xjt_2, xjt_3, xjt_4, xjt_5, xjt_6, xjt_7, xjt_8, xjt_9, xjt_10, xjt_11, xjt_12, xjt_13, xjt_14, xjt_16, xjt_20, xjt_24, xjt_31, xjt_32, xjt_40, xjt_44, xjt_47, xjt_48, xjt_57, xjt_59, xjt_60, xjt_63, xjt_64, xjt_65, xjt_72, xjt_95, xjt_99, xjt_100, xjt_101, xjt_103, xjt_110, xjt_112, xjt_113, xjt_114, xjt_119, xjt_126, xjt_159, xjt_576, xjt_999, xjt_9999, xjt_65536, xjt_999999, xt64, xt_n, not_true_eq_false, not_false_eq_true, Classical.not_not] at c_9 c_22 c_35
        all_goals omega
      · skip
        refine xw_go xb_130 1 (f1 := (39, [.ref 60, .int (nI 11)], [.ref 60])) (h1 := (xS b, I, L, xP b)) rfl trivial ?_
        refine xw_call xb_130 rfl rfl rfl rfl rfl (Or.inr ⟨_, _, rfl, rfl⟩) (m_wrongOnes (I := I) hM.1 hO) ?_
        rintro _ _ ⟨rfl, rfl⟩
        refine xw_at (f' := (42, [.ref 60, .int (nI 11)], [.int (nI (xwc N))])) (h' := (xS b, I, L, xP b)) rfl rfl ?_
        refine xw_go xb_130 1 (f1 := (59, [.ref 60, .int (nI 11)], [.int (nI (xwc N))])) (h1 := (xS b, I, L, xP b)) rfl trivial ?_
        refine xw_ret xb_130 rfl rfl trivial ?_
        exact xQM_same hM
    · skip
      exfalso
      try simp only [xB_dec, Classical.not_not] at c_9 c_22
      try simp (disch := omega) only [xt_eq, xt_lt, xt_le, xkt_0, xkt_1, xkt_2, xkt_3, xkt_4, xkt_5, xkt_6, xkt_7, xkt_8, xkt_9, xkt_10, xkt_11, xkt_12, xkt_13, xkt_14, xkt_16, xkt_20, xkt_24, xkt_31, xkt_32, xkt_40, xkt_44, xkt_47, xkt_48, xkt_57, xkt_59, xkt_60, xkt_63, xkt_64, xkt_65, xkt_72, xkt_95, xkt_99, xkt_100, xkt_101, xkt_103, xkt_110, xkt_112, xkt_113, xkt_114, xkt_119, xkt_126, xkt_159, xkt_576, xkt_999, xkt_9999, xkt_65536, xkt_999999, xkt_m1, xkt_m2, xkt_m3, xkt_m4, xkt_m11, xkt_m12, xkt_m13, xkt_m14, xkt_m20, xjt_0, xjt_1, xjt_2, xjt_3, xjt_4, xjt_5, xjt_6, xjt_7, xjt_8, xjt_9, xjt_10, xjt_11, xjt_12, xjt_13, xjt_14, xjt_16, xjt_20, xjt_24, xjt_31, xjt_32, xjt_40, xjt_44, xjt_47, xjt_48, xjt_57, xjt_59, xjt_60, xjt_63, xjt_64, xjt_65, xjt_72, xjt_95, xjt_99, xjt_100, xjt_101, xjt_103, xjt_110, xjt_112, xjt_113, xjt_114, xjt_119, xjt_126, xjt_159, xjt_576, xjt_999, xjt_9999, xjt_65536, xjt_999999, xt64, xt_n, not_true_eq_false, not_false_eq_true, Classical.not_not] at c_9 c_22
      all_goals omega
  · skip
    exfalso
    try simp only [xB_dec, Classical.not_not] at c_9
    try simp (disch := omega) only [xt_eq, xt_lt, xt_le, xkt_0, xkt_1, xkt_2, xkt_3, xkt_4, xkt_5, xkt_6, xkt_7, xkt_8, xkt_9, xkt_10, xkt_11, xkt_12, xkt_13, xkt_14, xkt_16, xkt_20, xkt_24, xkt_31, xkt_32, xkt_40, xkt_44, xkt_47, xkt_48, xkt_57, xkt_59, xkt_60, xkt_63, xkt_64, xkt_65, xkt_72, xkt_95, xkt_99, xkt_100, xkt_101, xkt_103, xkt_110, xkt_112, xkt_113, xkt_114, xkt_119, xkt_126, xkt_159, xkt_576, xkt_999, xkt_9999, xkt_65536, xkt_999999, xkt_m1, xkt_m2, xkt_m3, xkt_m4, xkt_m11, xkt_m12, xkt_m13, xkt_m14, xkt_m20, xjt_0, xjt_1, xjt_2, xjt_3, xjt_4, xjt_5, xjt_6, xjt_7, xjt_8, xjt_9, xjt_10, xjt_11, xjt_12, xjt_13, xjt_14, xjt_16, xjt_20, xjt_24, xjt_31, xjt_32, xjt_40, xjt_44, xjt_47, xjt_48, xjt_57, xjt_59, xjt_60, xjt_63, xjt_64, xjt_65, xjt_72, xjt_95, xjt_99, xjt_100, xjt_101, xjt_103, xjt_110, xjt_112, xjt_113, xjt_114, xjt_119, xjt_126, xjt_159, xjt_576, xjt_999, xjt_9999, xjt_65536, xjt_999999, xt64, xt_n, not_true_eq_false, not_false_eq_true, Classical.not_not] at c_9
    all_goals omega

theorem m_count12 {d : Nat} {b : Bool} {I : Nat → Nat → Int32} {L : Nat → Nat → Int64} {N : Nat → Nat} {u : Nat} {U : Nat → Nat → Nat} (hM : xML N u U I) (hK : xUK N u U)  {x : Int32} (e_x : x = nI 12) : xm_Z (d + 4) 130 [.ref 60, .int x] (xS b, I, L, xP b) (fun rz hz => xQM b I L (nI (u)) N u U rz hz) := by
  subst e_x
  have hO := hK.1
  have hb := hK.1.1
  have c64 : N 0 * N 1 ≤ 64 := xce_le hO
  have c4 : 4 ≤ N 0 * N 1 := xce_ge hO
  refine xw_S xb_130 (l := [.ref 60, .int (nI 12)]) (Nat.le_of_ble_eq_true rfl) rfl ?_
  refine xw_go xb_130 4 (f1 := (6, [.ref 60, .int (nI 12)], [.long 9, .long 0, .long ((nI 12).toInt64)])) (h1 := (xS b, I, L, xP b)) rfl trivial ?_
  refine xw_call xb_130 rfl rfl rfl rfl rfl (Or.inl rfl) m_in ?_
  rintro _ _ ⟨rfl, rfl⟩
  refine xw_at (f' := (9, [.ref 60, .int (nI 12)], [.int (nI (xB (decide ((0 : Int64).toInt ≤ (nI 12).toInt64.toInt ∧ (nI 12).toInt64.toInt ≤ (9 : Int64).toInt))))])) (h' := (xS b, I, L, xP b)) rfl rfl ?_
  refine xw_go xb_130 1 (f1 := (if (nI (xB (decide ((0 : Int64).toInt ≤ (nI 12).toInt64.toInt ∧ (nI 12).toInt64.toInt ≤ (9 : Int64).toInt)))) = 0 then 19 else 12, [.ref 60, .int (nI 12)], [])) (h1 := (xS b, I, L, xP b)) rfl trivial ?_
  refine xw_if (fun c_9 => ?_) (fun c_9 => ?_)
  · skip
    refine xw_go xb_130 3 (f1 := (if ¬ (nI 12) = 10 then 32 else 25, [.ref 60, .int (nI 12)], [])) (h1 := (xS b, I, L, xP b)) rfl trivial ?_
    refine xw_if (fun c_22 => ?_) (fun c_22 => ?_)
    · skip
      refine xw_go xb_130 3 (f1 := (if ¬ (nI 12) = 11 then 45 else 38, [.ref 60, .int (nI 12)], [])) (h1 := (xS b, I, L, xP b)) rfl trivial ?_
      refine xw_if (fun c_35 => ?_) (fun c_35 => ?_)
      · skip
        refine xw_go xb_130 3 (f1 := (if ¬ (nI 12) = 12 then 58 else 51, [.ref 60, .int (nI 12)], [])) (h1 := (xS b, I, L, xP b)) rfl trivial ?_
        refine xw_if (fun c_48 => ?_) (fun c_48 => ?_)
        · skip
          exfalso
          try simp only [xB_dec, Classical.not_not] at c_9 c_22 c_35 c_48
          try simp (disch := omega) only [xt_eq, xt_lt, xt_le, xkt_0, xkt_1, xkt_2, xkt_3, xkt_4, xkt_5, xkt_6, xkt_7, xkt_8, xkt_9, xkt_10, xkt_11, xkt_12, xkt_13, xkt_14, xkt_16, xkt_20, xkt_24, xkt_31, xkt_32, xkt_40, xkt_44, xkt_47, xkt_48, xkt_57, xkt_59, xkt_60, xkt_63, xkt_64, xkt_65, xkt_72, xkt_95, xkt_99, xkt_100, xkt_101, xkt_103, xkt_110, xkt_112, xkt_113, xkt_114, xkt_119, xkt_126, xkt_159, xkt_576, xkt_999, xkt_9999, xkt_65536, xkt_999999, xkt_m1, xkt_m2, xkt_m3, xkt_m4, xkt_m11, xkt_m12, xkt_m13, xkt_m14, xkt_m20, xjt_0, xjt_1, xjt_2, xjt_3, xjt_4, xjt_5, xjt_6, xjt_7, xjt_8, xjt_9, xjt_10, xjt_11, xjt_12, xjt_13, xjt_14, xjt_16, xjt_20, xjt_24, xjt_31, xjt_32, xjt_40, xjt_44, xjt_47, xjt_48, xjt_57, xjt_59, xjt_60, xjt_63, xjt_64, xjt_65, xjt_72, xjt_95, xjt_99, xjt_100, xjt_101, xjt_103, xjt_110, xjt_112, xjt_113, xjt_114, xjt_119, xjt_126, xjt_159, xjt_576, xjt_999, xjt_9999, xjt_65536, xjt_999999, xt64, xt_n, not_true_eq_false, not_false_eq_true, Classical.not_not] at c_9 c_22 c_35 c_48
          all_goals omega
        · skip
          refine xw_go xb_130 3 (f1 := (59, [.ref 60, .int (nI 12)], [.int (I 60 10)])) (h1 := (xS b, I, L, xP b)) rfl ⟨rfl, trivial⟩ ?_
          refine xw_ret xb_130 rfl rfl trivial ?_
          rw [hM.2.1]
          exact xQM_same hM
      · skip
        exfalso
        try simp only [xB_dec, Classical.not_not] at c_9 c_22 c_35
        try simp (disch := omega) only [xt_eq, xt_lt, xt_le, xkt_0, xkt_1, xkt_2, xkt_3, xkt_4, xkt_5, xkt_6, xkt_7, xkt_8, xkt_9, xkt_10, xkt_11, xkt_12, xkt_13, xkt_14, xkt_16, xkt_20, xkt_24, xkt_31, xkt_32, xkt_40, xkt_44, xkt_47, xkt_48, xkt_57, xkt_59, xkt_60, xkt_63, xkt_64, xkt_65, xkt_72, xkt_95, xkt_99, xkt_100, xkt_101, xkt_103, xkt_110, xkt_112, xkt_113, xkt_114, xkt_119, xkt_126, xkt_159, xkt_576, xkt_999, xkt_9999, xkt_65536, xkt_999999, xkt_m1, xkt_m2, xkt_m3, xkt_m4, xkt_m11, xkt_m12, xkt_m13, xkt_m14, xkt_m20, xjt_0, xjt_1, xjt_2, xjt_3, xjt_4, xjt_5, xjt_6, xjt_7, xjt_8, xjt_9, xjt_10, xjt_11, xjt_12, xjt_13, xjt_14, xjt_16, xjt_20, xjt_24, xjt_31, xjt_32, xjt_40, xjt_44, xjt_47, xjt_48, xjt_57, xjt_59, xjt_60, xjt_63, xjt_64, xjt_65, xjt_72, xjt_95, xjt_99, xjt_100, xjt_101, xjt_103, xjt_110, xjt_112, xjt_113, xjt_114, xjt_119, xjt_126, xjt_159, xjt_576, xjt_999, xjt_9999, xjt_65536, xjt_999999, xt64, xt_n, not_true_eq_false, not_false_eq_true, Classical.not_not] at c_9 c_22 c_35
        all_goals omega
    · skip
      exfalso
      try simp only [xB_dec, Classical.not_not] at c_9 c_22
      try simp (disch := omega) only [xt_eq, xt_lt, xt_le, xkt_0, xkt_1, xkt_2, xkt_3, xkt_4, xkt_5, xkt_6, xkt_7, xkt_8, xkt_9, xkt_10, xkt_11, xkt_12, xkt_13, xkt_14, xkt_16, xkt_20, xkt_24, xkt_31, xkt_32, xkt_40, xkt_44, xkt_47, xkt_48, xkt_57, xkt_59, xkt_60, xkt_63, xkt_64, xkt_65, xkt_72, xkt_95, xkt_99, xkt_100, xkt_101, xkt_103, xkt_110, xkt_112, xkt_113, xkt_114, xkt_119, xkt_126, xkt_159, xkt_576, xkt_999, xkt_9999, xkt_65536, xkt_999999, xkt_m1, xkt_m2, xkt_m3, xkt_m4, xkt_m11, xkt_m12, xkt_m13, xkt_m14, xkt_m20, xjt_0, xjt_1, xjt_2, xjt_3, xjt_4, xjt_5, xjt_6, xjt_7, xjt_8, xjt_9, xjt_10, xjt_11, xjt_12, xjt_13, xjt_14, xjt_16, xjt_20, xjt_24, xjt_31, xjt_32, xjt_40, xjt_44, xjt_47, xjt_48, xjt_57, xjt_59, xjt_60, xjt_63, xjt_64, xjt_65, xjt_72, xjt_95, xjt_99, xjt_100, xjt_101, xjt_103, xjt_110, xjt_112, xjt_113, xjt_114, xjt_119, xjt_126, xjt_159, xjt_576, xjt_999, xjt_9999, xjt_65536, xjt_999999, xt64, xt_n, not_true_eq_false, not_false_eq_true, Classical.not_not] at c_9 c_22
      all_goals omega
  · skip
    exfalso
    try simp only [xB_dec, Classical.not_not] at c_9
    try simp (disch := omega) only [xt_eq, xt_lt, xt_le, xkt_0, xkt_1, xkt_2, xkt_3, xkt_4, xkt_5, xkt_6, xkt_7, xkt_8, xkt_9, xkt_10, xkt_11, xkt_12, xkt_13, xkt_14, xkt_16, xkt_20, xkt_24, xkt_31, xkt_32, xkt_40, xkt_44, xkt_47, xkt_48, xkt_57, xkt_59, xkt_60, xkt_63, xkt_64, xkt_65, xkt_72, xkt_95, xkt_99, xkt_100, xkt_101, xkt_103, xkt_110, xkt_112, xkt_113, xkt_114, xkt_119, xkt_126, xkt_159, xkt_576, xkt_999, xkt_9999, xkt_65536, xkt_999999, xkt_m1, xkt_m2, xkt_m3, xkt_m4, xkt_m11, xkt_m12, xkt_m13, xkt_m14, xkt_m20, xjt_0, xjt_1, xjt_2, xjt_3, xjt_4, xjt_5, xjt_6, xjt_7, xjt_8, xjt_9, xjt_10, xjt_11, xjt_12, xjt_13, xjt_14, xjt_16, xjt_20, xjt_24, xjt_31, xjt_32, xjt_40, xjt_44, xjt_47, xjt_48, xjt_57, xjt_59, xjt_60, xjt_63, xjt_64, xjt_65, xjt_72, xjt_95, xjt_99, xjt_100, xjt_101, xjt_103, xjt_110, xjt_112, xjt_113, xjt_114, xjt_119, xjt_126, xjt_159, xjt_576, xjt_999, xjt_9999, xjt_65536, xjt_999999, xt64, xt_n, not_true_eq_false, not_false_eq_true, Classical.not_not] at c_9
    all_goals omega

