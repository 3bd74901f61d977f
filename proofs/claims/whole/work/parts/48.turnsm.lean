/-! ===== calls: turns ===== -/
theorem xZ_d {d d' mi : Nat} {as : List Value} {h : xm_H} {Q : Option Value → xm_H → Prop} (e : d = d') (z : xm_Z d' mi as h Q) : xm_Z d mi as h Q := by
  rw [e]
  exact z
theorem xn_dec (a : Nat) : nI (a + 1) + (-1) = nI a := by
  rw [← nI_1, Int32.add_assoc, show (1 : Int32) + (-1) = 0 from by decide, Int32.add_zero]
theorem xp243 {n : Nat} (h : n ≤ 5) : 3 ^ n ≤ 243 := Nat.pow_le_pow_right (n := 3) (by decide) h
theorem xp3 (n : Nat) : 0 < 3 ^ n := Nat.pow_pos (by decide)
theorem c_turns0 {d : Nat} {b : Bool} {I : Nat → Nat → Int32} {L : Nat → Nat → Int64} {N : Nat → Nat} {u : Nat} {U : Nat → Nat → Nat} (hP : xPL N u U 1 I) (hK : xUK N u U) {x y : Int32} (hx : ¬ (1 ≤ x.toInt ∧ x.toInt ≤ 20 ∧ (y.toInt = -4 ∨ (0 ≤ y.toInt ∧ y.toInt < (N 2 : Int))))) : xm_Z (d + 12) 84 [.ref 0, .int x, .int y] (xS b, I, L, xP b) (fun rz hz => xQC b I L (-1) N u U rz hz) := by
  have hO := hK.1
  have hb := hK.1.1
  have c64 : N 0 * N 1 ≤ 64 := xce_le hO
  have c4 : 4 ≤ N 0 * N 1 := xce_ge hO
  obtain ⟨⟨hN0, hN1, hN2, hN3, hN4, hN5, hN6, hN7, hN8, hN9, hN10⟩, hNs, hNw, hNp⟩ := hP.1
  refine xw_S xb_84 (l := [.ref 0, .int x, .int y]) (Nat.le_of_ble_eq_true rfl) rfl ?_
  refine xw_go xb_84 3 (f1 := (4, [.ref 0, .int x, .int y], [.int 20, .int 1, .int x])) (h1 := (xS b, I, L, xP b)) rfl trivial ?_
  refine xw_call xb_84 rfl rfl rfl rfl rfl (Or.inl rfl) c_within ?_
  rintro _ _ ⟨rfl, rfl⟩
  refine xw_at (f' := (7, [.ref 0, .int x, .int y], [.int (nI (xB (decide ((1 : Int32).toInt ≤ x.toInt ∧ x.toInt ≤ (20 : Int32).toInt))))])) (h' := (xS b, I, L, xP b)) rfl rfl ?_
  refine xw_go xb_84 1 (f1 := (if (nI (xB (decide ((1 : Int32).toInt ≤ x.toInt ∧ x.toInt ≤ (20 : Int32).toInt)))) = 0 then 27 else 10, [.ref 0, .int x, .int y], [])) (h1 := (xS b, I, L, xP b)) rfl trivial ?_
  refine xw_if (fun c_7 => ?_) (fun c_7 => ?_)
  · skip
    refine xw_go xb_84 1 (f1 := (28, [.ref 0, .int x, .int y], [.int (-1)])) (h1 := (xS b, I, L, xP b)) rfl trivial ?_
    refine xw_ret xb_84 rfl rfl trivial ?_
    exact xQC_same hP
  · skip
    refine xw_go xb_84 3 (f1 := (if y = (-4) then 29 else 16, [.ref 0, .int x, .int y], [])) (h1 := (xS b, I, L, xP b)) rfl trivial ?_
    refine xw_if (fun c_13 => ?_) (fun c_13 => ?_)
    · skip
      exfalso
      try simp only [xB_dec, Classical.not_not] at c_7 c_13
      try simp (disch := omega) only [xt_eq, xt_lt, xt_le, xkt_0, xkt_1, xkt_2, xkt_3, xkt_4, xkt_5, xkt_6, xkt_7, xkt_8, xkt_9, xkt_10, xkt_11, xkt_12, xkt_13, xkt_14, xkt_16, xkt_20, xkt_24, xkt_31, xkt_32, xkt_40, xkt_44, xkt_47, xkt_48, xkt_57, xkt_59, xkt_60, xkt_63, xkt_64, xkt_65, xkt_72, xkt_95, xkt_99, xkt_100, xkt_101, xkt_103, xkt_110, xkt_112, xkt_113, xkt_114, xkt_119, xkt_126, xkt_159, xkt_576, xkt_999, xkt_9999, xkt_65536, xkt_999999, xkt_m1, xkt_m2, xkt_m3, xkt_m4, xkt_m11, xkt_m12, xkt_m13, xkt_m14, xkt_m20, xjt_0, xjt_1, xjt_2, xjt_3, xjt_4, xjt_5, xjt_6, xjt_7, xjt_8, xjt_9, xjt_10, xjt_11, xjt_12, xjt_13, xjt_14, xjt_16, xjt_20, xjt_24, xjt_31, xjt_32, xjt_40, xjt_44, xjt_47, xjt_48, xjt_57, xjt_59, xjt_60, xjt_63, xjt_64, xjt_65, xjt_72, xjt_95, xjt_99, xjt_100, xjt_101, xjt_103, xjt_110, xjt_112, xjt_113, xjt_114, xjt_119, xjt_126, xjt_159, xjt_576, xjt_999, xjt_9999, xjt_65536, xjt_999999, xt64, xt_n, not_true_eq_false, not_false_eq_true, Classical.not_not] at c_7 c_13
      all_goals omega
    · skip
      refine xw_go xb_84 3 (f1 := (21, [.ref 0, .int x, .int y], [.int y, .ref 1])) (h1 := (xS b, I, L, xP b)) rfl ⟨rfl, trivial⟩ ?_
      refine xw_call xb_84 rfl rfl rfl rfl rfl (Or.inr ⟨_, _, rfl, rfl⟩) (c_hasSprinkler (I := I) hN2 (by omega)) ?_
      rintro _ _ ⟨rfl, rfl⟩
      refine xw_at (f' := (24, [.ref 0, .int x, .int y], [.int (nI (xB (decide (0 ≤ y.toInt ∧ y.toInt < (N 2 : Int)))))])) (h' := (xS b, I, L, xP b)) rfl rfl ?_
      refine xw_go xb_84 1 (f1 := (if ¬ (nI (xB (decide (0 ≤ y.toInt ∧ y.toInt < (N 2 : Int))))) = 0 then 29 else 27, [.ref 0, .int x, .int y], [])) (h1 := (xS b, I, L, xP b)) rfl trivial ?_
      refine xw_if (fun c_24 => ?_) (fun c_24 => ?_)
      · skip
        exfalso
        try simp only [xB_dec, Classical.not_not] at c_7 c_13 c_24
        try simp (disch := omega) only [xt_eq, xt_lt, xt_le, xkt_0, xkt_1, xkt_2, xkt_3, xkt_4, xkt_5, xkt_6, xkt_7, xkt_8, xkt_9, xkt_10, xkt_11, xkt_12, xkt_13, xkt_14, xkt_16, xkt_20, xkt_24, xkt_31, xkt_32, xkt_40, xkt_44, xkt_47, xkt_48, xkt_57, xkt_59, xkt_60, xkt_63, xkt_64, xkt_65, xkt_72, xkt_95, xkt_99, xkt_100, xkt_101, xkt_103, xkt_110, xkt_112, xkt_113, xkt_114, xkt_119, xkt_126, xkt_159, xkt_576, xkt_999, xkt_9999, xkt_65536, xkt_999999, xkt_m1, xkt_m2, xkt_m3, xkt_m4, xkt_m11, xkt_m12, xkt_m13, xkt_m14, xkt_m20, xjt_0, xjt_1, xjt_2, xjt_3, xjt_4, xjt_5, xjt_6, xjt_7, xjt_8, xjt_9, xjt_10, xjt_11, xjt_12, xjt_13, xjt_14, xjt_16, xjt_20, xjt_24, xjt_31, xjt_32, xjt_40, xjt_44, xjt_47, xjt_48, xjt_57, xjt_59, xjt_60, xjt_63, xjt_64, xjt_65, xjt_72, xjt_95, xjt_99, xjt_100, xjt_101, xjt_103, xjt_110, xjt_112, xjt_113, xjt_114, xjt_119, xjt_126, xjt_159, xjt_576, xjt_999, xjt_9999, xjt_65536, xjt_999999, xt64, xt_n, not_true_eq_false, not_false_eq_true, Classical.not_not] at c_7 c_13 c_24
        all_goals omega
      · skip
        refine xw_go xb_84 1 (f1 := (28, [.ref 0, .int x, .int y], [.int (-1)])) (h1 := (xS b, I, L, xP b)) rfl trivial ?_
        refine xw_ret xb_84 rfl rfl trivial ?_
        exact xQC_same hP

theorem m_turns0 {d : Nat} {b : Bool} {I : Nat → Nat → Int32} {L : Nat → Nat → Int64} {N : Nat → Nat} {u : Nat} {U : Nat → Nat → Nat} (hM : xML N u U I) (hK : xUK N u U) {x y : Int32} (hx : ¬ (1 ≤ x.toInt ∧ x.toInt ≤ 20 ∧ (y.toInt = -4 ∨ (0 ≤ y.toInt ∧ y.toInt < (N 2 : Int))))) : xm_Z (d + 12) 159 [.ref 60, .int x, .int y] (xS b, I, L, xP b) (fun rz hz => xQM b I L (-1) N u U rz hz) := by
  have hO := hK.1
  have hb := hK.1.1
  have c64 : N 0 * N 1 ≤ 64 := xce_le hO
  have c4 : 4 ≤ N 0 * N 1 := xce_ge hO
  refine xw_S xb_159 (l := [.ref 60, .int x, .int y, .float 0, .float 0, .float 0, .float 0, .float 0, .float 0, .float 0, .float 0, .float 0]) (Nat.le_of_ble_eq_true rfl) rfl ?_
  refine xw_go xb_159 4 (f1 := (6, [.ref 60, .int x, .int y, .float 0, .float 0, .float 0, .float 0, .float 0, .float 0, .float 0, .float 0, .float 0], [.long 20, .long 1, .long x.toInt64])) (h1 := (xS b, I, L, xP b)) rfl trivial ?_
  refine xw_call xb_159 rfl rfl rfl rfl rfl (Or.inl rfl) m_in ?_
  rintro _ _ ⟨rfl, rfl⟩
  refine xw_at (f' := (9, [.ref 60, .int x, .int y, .float 0, .float 0, .float 0, .float 0, .float 0, .float 0, .float 0, .float 0, .float 0], [.int (nI (xB (decide ((1 : Int64).toInt ≤ x.toInt64.toInt ∧ x.toInt64.toInt ≤ (20 : Int64).toInt))))])) (h' := (xS b, I, L, xP b)) rfl rfl ?_
  refine xw_go xb_159 1 (f1 := (if (nI (xB (decide ((1 : Int64).toInt ≤ x.toInt64.toInt ∧ x.toInt64.toInt ≤ (20 : Int64).toInt)))) = 0 then 26 else 12, [.ref 60, .int x, .int y, .float 0, .float 0, .float 0, .float 0, .float 0, .float 0, .float 0, .float 0, .float 0], [])) (h1 := (xS b, I, L, xP b)) rfl trivial ?_
  refine xw_if (fun c_9 => ?_) (fun c_9 => ?_)
  · skip
    refine xw_go xb_159 1 (f1 := (27, [.ref 60, .int x, .int y, .float 0, .float 0, .float 0, .float 0, .float 0, .float 0, .float 0, .float 0, .float 0], [.int (-1)])) (h1 := (xS b, I, L, xP b)) rfl trivial ?_
    refine xw_ret xb_159 rfl rfl trivial ?_
    exact xQM_same hM
  · skip
    refine xw_go xb_159 3 (f1 := (if y = (-4) then 28 else 18, [.ref 60, .int x, .int y, .float 0, .float 0, .float 0, .float 0, .float 0, .float 0, .float 0, .float 0, .float 0], [])) (h1 := (xS b, I, L, xP b)) rfl trivial ?_
    refine xw_if (fun c_15 => ?_) (fun c_15 => ?_)
    · skip
      exfalso
      try simp only [xB_dec, Classical.not_not] at c_9 c_15
      try simp (disch := omega) only [xt_eq, xt_lt, xt_le, xkt_0, xkt_1, xkt_2, xkt_3, xkt_4, xkt_5, xkt_6, xkt_7, xkt_8, xkt_9, xkt_10, xkt_11, xkt_12, xkt_13, xkt_14, xkt_16, xkt_20, xkt_24, xkt_31, xkt_32, xkt_40, xkt_44, xkt_47, xkt_48, xkt_57, xkt_59, xkt_60, xkt_63, xkt_64, xkt_65, xkt_72, xkt_95, xkt_99, xkt_100, xkt_101, xkt_103, xkt_110, xkt_112, xkt_113, xkt_114, xkt_119, xkt_126, xkt_159, xkt_576, xkt_999, xkt_9999, xkt_65536, xkt_999999, xkt_m1, xkt_m2, xkt_m3, xkt_m4, xkt_m11, xkt_m12, xkt_m13, xkt_m14, xkt_m20, xjt_0, xjt_1, xjt_2, xjt_3, xjt_4, xjt_5, xjt_6, xjt_7, xjt_8, xjt_9, xjt_10, xjt_11, xjt_12, xjt_13, xjt_14, xjt_16, xjt_20, xjt_24, xjt_31, xjt_32, xjt_40, xjt_44, xjt_47, xjt_48, xjt_57, xjt_59, xjt_60, xjt_63, xjt_64, xjt_65, xjt_72, xjt_95, xjt_99, xjt_100, xjt_101, xjt_103, xjt_110, xjt_112, xjt_113, xjt_114, xjt_119, xjt_126, xjt_159, xjt_576, xjt_999, xjt_9999, xjt_65536, xjt_999999, xt64, xt_n, not_true_eq_false, not_false_eq_true, Classical.not_not] at c_9 c_15
      all_goals omega
    · skip
      refine xw_go xb_159 2 (f1 := (20, [.ref 60, .int x, .int y, .float 0, .float 0, .float 0, .float 0, .float 0, .float 0, .float 0, .float 0, .float 0], [.int y, .ref 60])) (h1 := (xS b, I, L, xP b)) rfl trivial ?_
      refine xw_call xb_159 rfl rfl rfl rfl rfl (Or.inr ⟨_, _, rfl, rfl⟩) (m_isSprinkler (I := I) hM.1 hO) ?_
      rintro _ _ ⟨rfl, rfl⟩
      refine xw_at (f' := (23, [.ref 60, .int x, .int y, .float 0, .float 0, .float 0, .float 0, .float 0, .float 0, .float 0, .float 0, .float 0], [.int (nI (xB (decide (0 ≤ y.toInt ∧ y.toInt < (N 2 : Int)))))])) (h' := (xS b, I, L, xP b)) rfl rfl ?_
      refine xw_go xb_159 1 (f1 := (if ¬ (nI (xB (decide (0 ≤ y.toInt ∧ y.toInt < (N 2 : Int))))) = 0 then 28 else 26, [.ref 60, .int x, .int y, .float 0, .float 0, .float 0, .float 0, .float 0, .float 0, .float 0, .float 0, .float 0], [])) (h1 := (xS b, I, L, xP b)) rfl trivial ?_
      refine xw_if (fun c_23 => ?_) (fun c_23 => ?_)
      · skip
        exfalso
        try simp only [xB_dec, Classical.not_not] at c_9 c_15 c_23
        try simp (disch := omega) only [xt_eq, xt_lt, xt_le, xkt_0, xkt_1, xkt_2, xkt_3, xkt_4, xkt_5, xkt_6, xkt_7, xkt_8, xkt_9, xkt_10, xkt_11, xkt_12, xkt_13, xkt_14, xkt_16, xkt_20, xkt_24, xkt_31, xkt_32, xkt_40, xkt_44, xkt_47, xkt_48, xkt_57, xkt_59, xkt_60, xkt_63, xkt_64, xkt_65, xkt_72, xkt_95, xkt_99, xkt_100, xkt_101, xkt_103, xkt_110, xkt_112, xkt_113, xkt_114, xkt_119, xkt_126, xkt_159, xkt_576, xkt_999, xkt_9999, xkt_65536, xkt_999999, xkt_m1, xkt_m2, xkt_m3, xkt_m4, xkt_m11, xkt_m12, xkt_m13, xkt_m14, xkt_m20, xjt_0, xjt_1, xjt_2, xjt_3, xjt_4, xjt_5, xjt_6, xjt_7, xjt_8, xjt_9, xjt_10, xjt_11, xjt_12, xjt_13, xjt_14, xjt_16, xjt_20, xjt_24, xjt_31, xjt_32, xjt_40, xjt_44, xjt_47, xjt_48, xjt_57, xjt_59, xjt_60, xjt_63, xjt_64, xjt_65, xjt_72, xjt_95, xjt_99, xjt_100, xjt_101, xjt_103, xjt_110, xjt_112, xjt_113, xjt_114, xjt_119, xjt_126, xjt_159, xjt_576, xjt_999, xjt_9999, xjt_65536, xjt_999999, xt64, xt_n, not_true_eq_false, not_false_eq_true, Classical.not_not] at c_9 c_15 c_23
        all_goals omega
      · skip
        refine xw_go xb_159 1 (f1 := (27, [.ref 60, .int x, .int y, .float 0, .float 0, .float 0, .float 0, .float 0, .float 0, .float 0, .float 0, .float 0], [.int (-1)])) (h1 := (xS b, I, L, xP b)) rfl trivial ?_
        refine xw_ret xb_159 rfl rfl trivial ?_
        exact xQM_same hM

theorem c_turns1 {d : Nat} {b : Bool} {I : Nat → Nat → Int32} {L : Nat → Nat → Int64} {N : Nat → Nat} {u : Nat} {U : Nat → Nat → Nat} (hP : xPL N u U 1 I) (hK : xUK N u U) {m : Nat} (hm : 1 ≤ m ∧ m ≤ 20) {x : Int32} (e_x : x = nI m) : xm_Z (d + 12) 84 [.ref 0, .int x, .int (-4)] (xS b, I, L, xP b) (fun rz hz => xQC b I L (nI (xtb N m (N 2) (3 ^ N 2)).1) N u U rz hz) := by
  subst e_x
  have hO := hK.1
  have hb := hK.1.1
  have c64 : N 0 * N 1 ≤ 64 := xce_le hO
  have c4 : 4 ≤ N 0 * N 1 := xce_ge hO
  obtain ⟨⟨hN0, hN1, hN2, hN3, hN4, hN5, hN6, hN7, hN8, hN9, hN10⟩, hNs, hNw, hNp⟩ := hP.1
  refine xw_S xb_84 (l := [.ref 0, .int (nI m), .int (-4)]) (Nat.le_of_ble_eq_true rfl) rfl ?_
  refine xw_go xb_84 3 (f1 := (4, [.ref 0, .int (nI m), .int (-4)], [.int 20, .int 1, .int (nI m)])) (h1 := (xS b, I, L, xP b)) rfl trivial ?_
  refine xw_call xb_84 rfl rfl rfl rfl rfl (Or.inl rfl) c_within ?_
  rintro _ _ ⟨rfl, rfl⟩
  refine xw_at (f' := (7, [.ref 0, .int (nI m), .int (-4)], [.int (nI (xB (decide ((1 : Int32).toInt ≤ (nI m).toInt ∧ (nI m).toInt ≤ (20 : Int32).toInt))))])) (h' := (xS b, I, L, xP b)) rfl rfl ?_
  refine xw_go xb_84 1 (f1 := (if (nI (xB (decide ((1 : Int32).toInt ≤ (nI m).toInt ∧ (nI m).toInt ≤ (20 : Int32).toInt)))) = 0 then 27 else 10, [.ref 0, .int (nI m), .int (-4)], [])) (h1 := (xS b, I, L, xP b)) rfl trivial ?_
  refine xw_if (fun c_7 => ?_) (fun c_7 => ?_)
  · skip
    exfalso
    try simp only [xB_dec, Classical.not_not] at c_7
    try simp (disch := omega) only [xt_eq, xt_lt, xt_le, xkt_0, xkt_1, xkt_2, xkt_3, xkt_4, xkt_5, xkt_6, xkt_7, xkt_8, xkt_9, xkt_10, xkt_11, xkt_12, xkt_13, xkt_14, xkt_16, xkt_20, xkt_24, xkt_31, xkt_32, xkt_40, xkt_44, xkt_47, xkt_48, xkt_57, xkt_59, xkt_60, xkt_63, xkt_64, xkt_65, xkt_72, xkt_95, xkt_99, xkt_100, xkt_101, xkt_103, xkt_110, xkt_112, xkt_113, xkt_114, xkt_119, xkt_126, xkt_159, xkt_576, xkt_999, xkt_9999, xkt_65536, xkt_999999, xkt_m1, xkt_m2, xkt_m3, xkt_m4, xkt_m11, xkt_m12, xkt_m13, xkt_m14, xkt_m20, xjt_0, xjt_1, xjt_2, xjt_3, xjt_4, xjt_5, xjt_6, xjt_7, xjt_8, xjt_9, xjt_10, xjt_11, xjt_12, xjt_13, xjt_14, xjt_16, xjt_20, xjt_24, xjt_31, xjt_32, xjt_40, xjt_44, xjt_47, xjt_48, xjt_57, xjt_59, xjt_60, xjt_63, xjt_64, xjt_65, xjt_72, xjt_95, xjt_99, xjt_100, xjt_101, xjt_103, xjt_110, xjt_112, xjt_113, xjt_114, xjt_119, xjt_126, xjt_159, xjt_576, xjt_999, xjt_9999, xjt_65536, xjt_999999, xt64, xt_n, not_true_eq_false, not_false_eq_true, Classical.not_not] at c_7
    all_goals omega
  · skip
    refine xw_go xb_84 6 (f1 := (34, [.ref 0, .int (nI m), .int (-4)], [.int (nI m), .ref 24])) (h1 := (xS b, I, L, xP b)) rfl ⟨rfl, trivial⟩ ?_
    refine xw_call xb_84 rfl rfl rfl rfl rfl (Or.inr ⟨_, _, rfl, rfl⟩) (xZ_d (show d + 11 = d + (5 - N 2) + N 2 + 6 by omega) (c_findTurns (I := I) hP.1 hO (m := m) hK.2.1 hm rfl)) ?_
    rintro _ _ ⟨rfl, I1, rfl, g1, g2⟩
    refine xw_at (f' := (37, [.ref 0, .int (nI m), .int (-4)], [])) (h' := (xS b, I1, L, xP b)) rfl rfl ?_
    refine xw_go xb_84 7 (f1 := (62, [.ref 0, .int (nI m), .int (-4)], [.int (I1 24 8)])) (h1 := (xS b, I1, L, xP b)) rfl ⟨rfl, rfl, trivial⟩ ?_
    refine xw_ret xb_84 rfl rfl trivial ?_
    exact ⟨xm_some (congrArg Value.int g2.1), I1, rfl, xFF_P g1, xFF_L g1 (by omega) hP⟩

theorem c_turns2 {d : Nat} {b : Bool} {I : Nat → Nat → Int32} {L : Nat → Nat → Int64} {N : Nat → Nat} {u : Nat} {U : Nat → Nat → Nat} (hP : xPL N u U 1 I) (hK : xUK N u U) {m i : Nat} (hm : 1 ≤ m ∧ m ≤ 20) (hi : i < N 2) {x : Int32} (e_x : x = nI m) {y : Int32} (e_y : y = nI i) : xm_Z (d + 12) 84 [.ref 0, .int x, .int y] (xS b, I, L, xP b) (fun rz hz => xQC b I L (nI (m * ((xtb N m (N 2) (3 ^ N 2)).2.2 / 3 ^ (N 2 - 1 - i) % 3))) N u U rz hz) := by
  subst e_x
  subst e_y
  have hO := hK.1
  have hb := hK.1.1
  have c64 : N 0 * N 1 ≤ 64 := xce_le hO
  have c4 : 4 ≤ N 0 * N 1 := xce_ge hO
  obtain ⟨⟨hN0, hN1, hN2, hN3, hN4, hN5, hN6, hN7, hN8, hN9, hN10⟩, hNs, hNw, hNp⟩ := hP.1
  refine xw_S xb_84 (l := [.ref 0, .int (nI m), .int (nI i)]) (Nat.le_of_ble_eq_true rfl) rfl ?_
  refine xw_go xb_84 3 (f1 := (4, [.ref 0, .int (nI m), .int (nI i)], [.int 20, .int 1, .int (nI m)])) (h1 := (xS b, I, L, xP b)) rfl trivial ?_
  refine xw_call xb_84 rfl rfl rfl rfl rfl (Or.inl rfl) c_within ?_
  rintro _ _ ⟨rfl, rfl⟩
  refine xw_at (f' := (7, [.ref 0, .int (nI m), .int (nI i)], [.int (nI (xB (decide ((1 : Int32).toInt ≤ (nI m).toInt ∧ (nI m).toInt ≤ (20 : Int32).toInt))))])) (h' := (xS b, I, L, xP b)) rfl rfl ?_
  refine xw_go xb_84 1 (f1 := (if (nI (xB (decide ((1 : Int32).toInt ≤ (nI m).toInt ∧ (nI m).toInt ≤ (20 : Int32).toInt)))) = 0 then 27 else 10, [.ref 0, .int (nI m), .int (nI i)], [])) (h1 := (xS b, I, L, xP b)) rfl trivial ?_
  refine xw_if (fun c_7 => ?_) (fun c_7 => ?_)
  · skip
    exfalso
    try simp only [xB_dec, Classical.not_not] at c_7
    try simp (disch := omega) only [xt_eq, xt_lt, xt_le, xkt_0, xkt_1, xkt_2, xkt_3, xkt_4, xkt_5, xkt_6, xkt_7, xkt_8, xkt_9, xkt_10, xkt_11, xkt_12, xkt_13, xkt_14, xkt_16, xkt_20, xkt_24, xkt_31, xkt_32, xkt_40, xkt_44, xkt_47, xkt_48, xkt_57, xkt_59, xkt_60, xkt_63, xkt_64, xkt_65, xkt_72, xkt_95, xkt_99, xkt_100, xkt_101, xkt_103, xkt_110, xkt_112, xkt_113, xkt_114, xkt_119, xkt_126, xkt_159, xkt_576, xkt_999, xkt_9999, xkt_65536, xkt_999999, xkt_m1, xkt_m2, xkt_m3, xkt_m4, xkt_m11, xkt_m12, xkt_m13, xkt_m14, xkt_m20, xjt_0, xjt_1, xjt_2, xjt_3, xjt_4, xjt_5, xjt_6, xjt_7, xjt_8, xjt_9, xjt_10, xjt_11, xjt_12, xjt_13, xjt_14, xjt_16, xjt_20, xjt_24, xjt_31, xjt_32, xjt_40, xjt_44, xjt_47, xjt_48, xjt_57, xjt_59, xjt_60, xjt_63, xjt_64, xjt_65, xjt_72, xjt_95, xjt_99, xjt_100, xjt_101, xjt_103, xjt_110, xjt_112, xjt_113, xjt_114, xjt_119, xjt_126, xjt_159, xjt_576, xjt_999, xjt_9999, xjt_65536, xjt_999999, xt64, xt_n, not_true_eq_false, not_false_eq_true, Classical.not_not] at c_7
    all_goals omega
  · skip
    refine xw_go xb_84 3 (f1 := (if (nI i) = (-4) then 29 else 16, [.ref 0, .int (nI m), .int (nI i)], [])) (h1 := (xS b, I, L, xP b)) rfl trivial ?_
    refine xw_if (fun c_13 => ?_) (fun c_13 => ?_)
    · skip
      skip
      refine xw_go xb_84 3 (f1 := (34, [.ref 0, .int (nI m), .int (nI i)], [.int (nI m), .ref 24])) (h1 := (xS b, I, L, xP b)) rfl ⟨rfl, trivial⟩ ?_
      refine xw_call xb_84 rfl rfl rfl rfl rfl (Or.inr ⟨_, _, rfl, rfl⟩) (xZ_d (show d + 11 = d + (5 - N 2) + N 2 + 6 by omega) (c_findTurns (I := I) hP.1 hO (m := m) hK.2.1 hm rfl)) ?_
      rintro _ _ ⟨rfl, I1, rfl, g1, g2⟩
      refine xw_at (f' := (37, [.ref 0, .int (nI m), .int (nI i)], [])) (h' := (xS b, I1, L, xP b)) rfl rfl ?_
      refine xw_go xb_84 3 (f1 := (if ¬ (nI i) = (-4) then 53 else 43, [.ref 0, .int (nI m), .int (nI i)], [])) (h1 := (xS b, I1, L, xP b)) rfl trivial ?_
      refine xw_if (fun c_40 => ?_) (fun c_40 => ?_)
      · skip
        refine xw_go xb_84 5 (f1 := (62, [.ref 0, .int (nI m), .int (nI i)], [.int (I1 41 (nI i).toNatClampNeg)])) (h1 := (xS b, I1, L, xP b)) rfl ⟨rfl, rfl, (xn_ar (n := i) (N := 5) rfl (by omega) (by decide)), trivial⟩ ?_
        refine xw_ret xb_84 rfl rfl trivial ?_
        rw [xn_cl (by omega), g2.2.2 (xp3 _) i hi]
        exact ⟨rfl, I1, rfl, xFF_P g1, xFF_L g1 (by omega) hP⟩
      · skip
        exfalso
        try simp only [xB_dec, Classical.not_not] at c_7 c_13 c_40
        try simp (disch := omega) only [xt_eq, xt_lt, xt_le, xkt_0, xkt_1, xkt_2, xkt_3, xkt_4, xkt_5, xkt_6, xkt_7, xkt_8, xkt_9, xkt_10, xkt_11, xkt_12, xkt_13, xkt_14, xkt_16, xkt_20, xkt_24, xkt_31, xkt_32, xkt_40, xkt_44, xkt_47, xkt_48, xkt_57, xkt_59, xkt_60, xkt_63, xkt_64, xkt_65, xkt_72, xkt_95, xkt_99, xkt_100, xkt_101, xkt_103, xkt_110, xkt_112, xkt_113, xkt_114, xkt_119, xkt_126, xkt_159, xkt_576, xkt_999, xkt_9999, xkt_65536, xkt_999999, xkt_m1, xkt_m2, xkt_m3, xkt_m4, xkt_m11, xkt_m12, xkt_m13, xkt_m14, xkt_m20, xjt_0, xjt_1, xjt_2, xjt_3, xjt_4, xjt_5, xjt_6, xjt_7, xjt_8, xjt_9, xjt_10, xjt_11, xjt_12, xjt_13, xjt_14, xjt_16, xjt_20, xjt_24, xjt_31, xjt_32, xjt_40, xjt_44, xjt_47, xjt_48, xjt_57, xjt_59, xjt_60, xjt_63, xjt_64, xjt_65, xjt_72, xjt_95, xjt_99, xjt_100, xjt_101, xjt_103, xjt_110, xjt_112, xjt_113, xjt_114, xjt_119, xjt_126, xjt_159, xjt_576, xjt_999, xjt_9999, xjt_65536, xjt_999999, xt64, xt_n, not_true_eq_false, not_false_eq_true, Classical.not_not] at c_7 c_13 c_40
        all_goals omega
    · skip
      refine xw_go xb_84 3 (f1 := (21, [.ref 0, .int (nI m), .int (nI i)], [.int (nI i), .ref 1])) (h1 := (xS b, I, L, xP b)) rfl ⟨rfl, trivial⟩ ?_
      refine xw_call xb_84 rfl rfl rfl rfl rfl (Or.inr ⟨_, _, rfl, rfl⟩) (c_hasSprinkler (I := I) hN2 (by omega)) ?_
      rintro _ _ ⟨rfl, rfl⟩
      refine xw_at (f' := (24, [.ref 0, .int (nI m), .int (nI i)], [.int (nI (xB (decide (0 ≤ (nI i).toInt ∧ (nI i).toInt < (N 2 : Int)))))])) (h' := (xS b, I, L, xP b)) rfl rfl ?_
      refine xw_go xb_84 1 (f1 := (if ¬ (nI (xB (decide (0 ≤ (nI i).toInt ∧ (nI i).toInt < (N 2 : Int))))) = 0 then 29 else 27, [.ref 0, .int (nI m), .int (nI i)], [])) (h1 := (xS b, I, L, xP b)) rfl trivial ?_
      refine xw_if (fun c_24 => ?_) (fun c_24 => ?_)
      · skip
        skip
        refine xw_go xb_84 3 (f1 := (34, [.ref 0, .int (nI m), .int (nI i)], [.int (nI m), .ref 24])) (h1 := (xS b, I, L, xP b)) rfl ⟨rfl, trivial⟩ ?_
        refine xw_call xb_84 rfl rfl rfl rfl rfl (Or.inr ⟨_, _, rfl, rfl⟩) (xZ_d (show d + 11 = d + (5 - N 2) + N 2 + 6 by omega) (c_findTurns (I := I) hP.1 hO (m := m) hK.2.1 hm rfl)) ?_
        rintro _ _ ⟨rfl, I1, rfl, g1, g2⟩
        refine xw_at (f' := (37, [.ref 0, .int (nI m), .int (nI i)], [])) (h' := (xS b, I1, L, xP b)) rfl rfl ?_
        refine xw_go xb_84 3 (f1 := (if ¬ (nI i) = (-4) then 53 else 43, [.ref 0, .int (nI m), .int (nI i)], [])) (h1 := (xS b, I1, L, xP b)) rfl trivial ?_
        refine xw_if (fun c_40 => ?_) (fun c_40 => ?_)
        · skip
          refine xw_go xb_84 5 (f1 := (62, [.ref 0, .int (nI m), .int (nI i)], [.int (I1 41 (nI i).toNatClampNeg)])) (h1 := (xS b, I1, L, xP b)) rfl ⟨rfl, rfl, (xn_ar (n := i) (N := 5) rfl (by omega) (by decide)), trivial⟩ ?_
          refine xw_ret xb_84 rfl rfl trivial ?_
          rw [xn_cl (by omega), g2.2.2 (xp3 _) i hi]
          exact ⟨rfl, I1, rfl, xFF_P g1, xFF_L g1 (by omega) hP⟩
        · skip
          exfalso
          try simp only [xB_dec, Classical.not_not] at c_7 c_13 c_24 c_40
          try simp (disch := omega) only [xt_eq, xt_lt, xt_le, xkt_0, xkt_1, xkt_2, xkt_3, xkt_4, xkt_5, xkt_6, xkt_7, xkt_8, xkt_9, xkt_10, xkt_11, xkt_12, xkt_13, xkt_14, xkt_16, xkt_20, xkt_24, xkt_31, xkt_32, xkt_40, xkt_44, xkt_47, xkt_48, xkt_57, xkt_59, xkt_60, xkt_63, xkt_64, xkt_65, xkt_72, xkt_95, xkt_99, xkt_100, xkt_101, xkt_103, xkt_110, xkt_112, xkt_113, xkt_114, xkt_119, xkt_126, xkt_159, xkt_576, xkt_999, xkt_9999, xkt_65536, xkt_999999, xkt_m1, xkt_m2, xkt_m3, xkt_m4, xkt_m11, xkt_m12, xkt_m13, xkt_m14, xkt_m20, xjt_0, xjt_1, xjt_2, xjt_3, xjt_4, xjt_5, xjt_6, xjt_7, xjt_8, xjt_9, xjt_10, xjt_11, xjt_12, xjt_13, xjt_14, xjt_16, xjt_20, xjt_24, xjt_31, xjt_32, xjt_40, xjt_44, xjt_47, xjt_48, xjt_57, xjt_59, xjt_60, xjt_63, xjt_64, xjt_65, xjt_72, xjt_95, xjt_99, xjt_100, xjt_101, xjt_103, xjt_110, xjt_112, xjt_113, xjt_114, xjt_119, xjt_126, xjt_159, xjt_576, xjt_999, xjt_9999, xjt_65536, xjt_999999, xt64, xt_n, not_true_eq_false, not_false_eq_true, Classical.not_not] at c_7 c_13 c_24 c_40
          all_goals omega
      · skip
        exfalso
        try simp only [xB_dec, Classical.not_not] at c_7 c_13 c_24
        try simp (disch := omega) only [xt_eq, xt_lt, xt_le, xkt_0, xkt_1, xkt_2, xkt_3, xkt_4, xkt_5, xkt_6, xkt_7, xkt_8, xkt_9, xkt_10, xkt_11, xkt_12, xkt_13, xkt_14, xkt_16, xkt_20, xkt_24, xkt_31, xkt_32, xkt_40, xkt_44, xkt_47, xkt_48, xkt_57, xkt_59, xkt_60, xkt_63, xkt_64, xkt_65, xkt_72, xkt_95, xkt_99, xkt_100, xkt_101, xkt_103, xkt_110, xkt_112, xkt_113, xkt_114, xkt_119, xkt_126, xkt_159, xkt_576, xkt_999, xkt_9999, xkt_65536, xkt_999999, xkt_m1, xkt_m2, xkt_m3, xkt_m4, xkt_m11, xkt_m12, xkt_m13, xkt_m14, xkt_m20, xjt_0, xjt_1, xjt_2, xjt_3, xjt_4, xjt_5, xjt_6, xjt_7, xjt_8, xjt_9, xjt_10, xjt_11, xjt_12, xjt_13, xjt_14, xjt_16, xjt_20, xjt_24, xjt_31, xjt_32, xjt_40, xjt_44, xjt_47, xjt_48, xjt_57, xjt_59, xjt_60, xjt_63, xjt_64, xjt_65, xjt_72, xjt_95, xjt_99, xjt_100, xjt_101, xjt_103, xjt_110, xjt_112, xjt_113, xjt_114, xjt_119, xjt_126, xjt_159, xjt_576, xjt_999, xjt_9999, xjt_65536, xjt_999999, xt64, xt_n, not_true_eq_false, not_false_eq_true, Classical.not_not] at c_7 c_13 c_24
        all_goals omega

set_option maxHeartbeats 4000000 in
theorem m_ways {d : Nat} {b : Bool} {I : Nat → Nat → Int32} {L : Nat → Nat → Int64} {N : Nat → Nat} {u : Nat} {U : Nat → Nat → Nat} (hM : xML N u U I) (hK : xUK N u U) {m : Nat} (hm : 1 ≤ m ∧ m ≤ 20) {y : Int32} {Q : Option Value → xm_H → Prop} (kk : ∀ J, xMF I J → J 68 = xfil 159 (I 61) (I 68) → J 67 = I 67 → J 60 = I 60 → xMN N J → xm_W (d + 5) 159 (240, [.ref 60, .int (nI m), .int y, .int (nI (3 ^ N 2)), .int (nI (xtb N m (N 2) (3 ^ N 2)).1), .int (nI (xtb N m (N 2) (3 ^ N 2)).2.1), .int (nI (xtb N m (N 2) (3 ^ N 2)).2.2), .int (nI (3 ^ N 2)), .float 0, .float 0, .float 0, .float 0], []) (xS b, J, L, xP b) Q) : xm_W (d + 5) 159 (28, [.ref 60, .int (nI m), .int y, .float 0, .float 0, .float 0, .float 0, .float 0, .float 0, .float 0, .float 0, .float 0], []) (xS b, I, L, xP b) Q := by
  have hO := hK.1
  have hb := hK.1.1
  have c64 : N 0 * N 1 ≤ 64 := xce_le hO
  have c4 : 4 ≤ N 0 * N 1 := xce_ge hO
  have w243 := xp243 hb.2.2.2.2.1
  have w1 := xp3 (N 2)
  refine xw_go xb_159 4 (f1 := (33, [.ref 60, .int (nI m), .int y, .int 1, .int 0, .float 0, .float 0, .float 0, .float 0, .float 0, .float 0, .float 0], [])) (h1 := (xS b, I, L, xP b)) rfl trivial ?_
  refine xw_at (f' := (33, [.ref 60, .int (nI m), .int y, .int (nI (3 ^ 0)), .int (nI 0), .float 0, .float 0, .float 0, .float 0, .float 0, .float 0, .float 0], [])) (h' := (xS b, I, L, xP b)) rfl rfl ?_
  refine xw_loop (N 2) (fun p => (33, [.ref 60, .int (nI m), .int y, .int (nI (3 ^ p)), .int (nI p), .float 0, .float 0, .float 0, .float 0, .float 0, .float 0, .float 0], [])) (fun p => (xS b, I, L, xP b)) (fun p hp ih => ?_) ?_ 0 (Nat.zero_le _)
  · have e3 : 3 ^ (p + 1) = 3 ^ p * 3 := Nat.pow_succ _ _
    refine xw_go xb_159 5 (f1 := (41, [.ref 60, .int (nI m), .int y, .int (nI (3 ^ p)), .int (nI p), .float 0, .float 0, .float 0, .float 0, .float 0, .float 0, .float 0], [.int (I 61 (2 : Int32).toNatClampNeg), .int (nI p)])) (h1 := (xS b, I, L, xP b)) rfl ⟨rfl, (xn_ar (n := 2) (N := 159) rfl (by decide) (by decide)), trivial⟩ ?_
    refine xw_cong (l' := [.ref 60, .int (nI m), .int y, .int (nI (3 ^ p)), .int (nI p), .float 0, .float 0, .float 0, .float 0, .float 0, .float 0, .float 0]) (st' := [.int (nI (N 2)), .int (nI p)]) (h' := (xS b, I, L, xP b)) rfl (show ([.int (I 61 (2 : Int32).toNatClampNeg), .int (nI p)] : List Value) = [.int (nI (N 2)), .int (nI p)] from ?_) rfl ?_
    · rw [show (2 : Int32).toNatClampNeg = 2 from rfl, hM.1 2 (by decide)]
    refine xw_go xb_159 1 (f1 := (if (nI (N 2)) ≤ (nI p) then 54 else 44, [.ref 60, .int (nI m), .int y, .int (nI (3 ^ p)), .int (nI p), .float 0, .float 0, .float 0, .float 0, .float 0, .float 0, .float 0], [])) (h1 := (xS b, I, L, xP b)) rfl trivial ?_
    refine xw_if (fun c_41 => ?_) (fun c_41 => ?_)
    · skip
      exfalso
      try simp only [xB_dec, Classical.not_not] at c_41
      try simp (disch := omega) only [xt_eq, xt_lt, xt_le, xkt_0, xkt_1, xkt_2, xkt_3, xkt_4, xkt_5, xkt_6, xkt_7, xkt_8, xkt_9, xkt_10, xkt_11, xkt_12, xkt_13, xkt_14, xkt_16, xkt_20, xkt_24, xkt_31, xkt_32, xkt_40, xkt_44, xkt_47, xkt_48, xkt_57, xkt_59, xkt_60, xkt_63, xkt_64, xkt_65, xkt_72, xkt_95, xkt_99, xkt_100, xkt_101, xkt_103, xkt_110, xkt_112, xkt_113, xkt_114, xkt_119, xkt_126, xkt_159, xkt_576, xkt_999, xkt_9999, xkt_65536, xkt_999999, xkt_m1, xkt_m2, xkt_m3, xkt_m4, xkt_m11, xkt_m12, xkt_m13, xkt_m14, xkt_m20, xjt_0, xjt_1, xjt_2, xjt_3, xjt_4, xjt_5, xjt_6, xjt_7, xjt_8, xjt_9, xjt_10, xjt_11, xjt_12, xjt_13, xjt_14, xjt_16, xjt_20, xjt_24, xjt_31, xjt_32, xjt_40, xjt_44, xjt_47, xjt_48, xjt_57, xjt_59, xjt_60, xjt_63, xjt_64, xjt_65, xjt_72, xjt_95, xjt_99, xjt_100, xjt_101, xjt_103, xjt_110, xjt_112, xjt_113, xjt_114, xjt_119, xjt_126, xjt_159, xjt_576, xjt_999, xjt_9999, xjt_65536, xjt_999999, xt64, xt_n, not_true_eq_false, not_false_eq_true, Classical.not_not] at c_41
      all_goals omega
    · skip
      refine xw_go xb_159 6 (f1 := (33, [.ref 60, .int (nI m), .int y, .int ((nI (3 ^ p)) * 3), .int ((nI p) + 1), .float 0, .float 0, .float 0, .float 0, .float 0, .float 0, .float 0], [])) (h1 := (xS b, I, L, xP b)) rfl trivial ?_
      refine xw_cong ?_ rfl rfl ih
      rw [nI_1, xl_3, pk_mul, e3]
  · skip
    refine xw_go xb_159 5 (f1 := (41, [.ref 60, .int (nI m), .int y, .int (nI (3 ^ (N 2))), .int (nI (N 2)), .float 0, .float 0, .float 0, .float 0, .float 0, .float 0, .float 0], [.int (I 61 (2 : Int32).toNatClampNeg), .int (nI (N 2))])) (h1 := (xS b, I, L, xP b)) rfl ⟨rfl, (xn_ar (n := 2) (N := 159) rfl (by decide) (by decide)), trivial⟩ ?_
    refine xw_cong (l' := [.ref 60, .int (nI m), .int y, .int (nI (3 ^ (N 2))), .int (nI (N 2)), .float 0, .float 0, .float 0, .float 0, .float 0, .float 0, .float 0]) (st' := [.int (nI (N 2)), .int (nI (N 2))]) (h' := (xS b, I, L, xP b)) rfl (show ([.int (I 61 (2 : Int32).toNatClampNeg), .int (nI (N 2))] : List Value) = [.int (nI (N 2)), .int (nI (N 2))] from ?_) rfl ?_
    · rw [show (2 : Int32).toNatClampNeg = 2 from rfl, hM.1 2 (by decide)]
    refine xw_go xb_159 1 (f1 := (if (nI (N 2)) ≤ (nI (N 2)) then 54 else 44, [.ref 60, .int (nI m), .int y, .int (nI (3 ^ (N 2))), .int (nI (N 2)), .float 0, .float 0, .float 0, .float 0, .float 0, .float 0, .float 0], [])) (h1 := (xS b, I, L, xP b)) rfl trivial ?_
    refine xw_if (fun c_41 => ?_) (fun c_41 => ?_)
    · skip
      refine xw_go xb_159 7 (f1 := (65, [.ref 60, .int (nI m), .int y, .int (nI (3 ^ (N 2))), .int (-4), .int 0, .int 0, .float 0, .float 0, .float 0, .float 0, .float 0], [.ref 60])) (h1 := (xS b, I, L, xP b)) rfl trivial ?_
      refine xw_call xb_159 rfl rfl rfl rfl rfl (Or.inr ⟨_, _, rfl, rfl⟩) (m_asides (I := I)) ?_
      rintro _ _ ⟨rfl, rfl⟩
      refine xw_at (f' := (68, [.ref 60, .int (nI m), .int y, .int (nI (3 ^ (N 2))), .int (-4), .int 0, .int 0, .float 0, .float 0, .float 0, .float 0, .float 0], [])) (h' := (xS b, va_up I 68 (xfil 159 (I 61) (I 68)), L, xP b)) rfl rfl ?_
      refine xw_go xb_159 2 (f1 := (71, [.ref 60, .int (nI m), .int y, .int (nI (3 ^ (N 2))), .int (-4), .int 0, .int 0, .int 0, .float 0, .float 0, .float 0, .float 0], [])) (h1 := (xS b, va_up I 68 (xfil 159 (I 61) (I 68)), L, xP b)) rfl trivial ?_
      have LOOP : ∀ h, (1 ≤ 1 ∧ ∃ J, h = (xS b, J, L, xP b) ∧ xMF I J ∧ J 68 = xfil 159 (I 61) (I 68) ∧ J 67 = I 67 ∧ J 60 = I 60 ∧ xMN N J) → xm_W (d + 5) 159 (71, [.ref 60, .int (nI m), .int y, .int (nI (3 ^ N 2)), .int (nI (xtb N m (N 2) 1).1), .int (nI (xtb N m (N 2) 1).2.1), .int (nI (xtb N m (N 2) 1).2.2), .int (nI 1), .float 0, .float 0, .float 0, .float 0], []) h Q := by
        intro h hV
        refine xw_loopP (3 ^ N 2) (fun w => (71, [.ref 60, .int (nI m), .int y, .int (nI (3 ^ N 2)), .int (nI (xtb N m (N 2) w).1), .int (nI (xtb N m (N 2) w).2.1), .int (nI (xtb N m (N 2) w).2.2), .int (nI w), .float 0, .float 0, .float 0, .float 0], [])) (fun w h => 1 ≤ w ∧ ∃ J, h = (xS b, J, L, xP b) ∧ xMF I J ∧ J 68 = xfil 159 (I 61) (I 68) ∧ J 67 = I 67 ∧ J 60 = I 60 ∧ xMN N J) (fun w h hw hV ih => ?_) (fun h hV => ?_) 1 h w1 hV
        · obtain ⟨hc1, J, rfl, j1, j2, j3, j4, j5⟩ := hV
          obtain ⟨t1, t2, t3⟩ := xtb_le (N := N) (m := m) (n := N 2) hO hK.2.1 hm.2 (by omega) w
          have j5 : xMN (xpw N m 0 (w / 3 ^ (N 2 - 0))) J := j5
          refine xw_go xb_159 3 (f1 := (if (nI (3 ^ N 2)) ≤ (nI w) then 240 else 77, [.ref 60, .int (nI m), .int y, .int (nI (3 ^ N 2)), .int (nI (xtb N m (N 2) w).1), .int (nI (xtb N m (N 2) w).2.1), .int (nI (xtb N m (N 2) w).2.2), .int (nI w), .float 0, .float 0, .float 0, .float 0], [])) (h1 := (xS b, J, L, xP b)) rfl trivial ?_
          refine xw_if (fun c_74 => ?_) (fun c_74 => ?_)
          · skip
            exfalso
            try simp only [xB_dec, Classical.not_not] at c_74
            try simp (disch := omega) only [xt_eq, xt_lt, xt_le, xkt_0, xkt_1, xkt_2, xkt_3, xkt_4, xkt_5, xkt_6, xkt_7, xkt_8, xkt_9, xkt_10, xkt_11, xkt_12, xkt_13, xkt_14, xkt_16, xkt_20, xkt_24, xkt_31, xkt_32, xkt_40, xkt_44, xkt_47, xkt_48, xkt_57, xkt_59, xkt_60, xkt_63, xkt_64, xkt_65, xkt_72, xkt_95, xkt_99, xkt_100, xkt_101, xkt_103, xkt_110, xkt_112, xkt_113, xkt_114, xkt_119, xkt_126, xkt_159, xkt_576, xkt_999, xkt_9999, xkt_65536, xkt_999999, xkt_m1, xkt_m2, xkt_m3, xkt_m4, xkt_m11, xkt_m12, xkt_m13, xkt_m14, xkt_m20, xjt_0, xjt_1, xjt_2, xjt_3, xjt_4, xjt_5, xjt_6, xjt_7, xjt_8, xjt_9, xjt_10, xjt_11, xjt_12, xjt_13, xjt_14, xjt_16, xjt_20, xjt_24, xjt_31, xjt_32, xjt_40, xjt_44, xjt_47, xjt_48, xjt_57, xjt_59, xjt_60, xjt_63, xjt_64, xjt_65, xjt_72, xjt_95, xjt_99, xjt_100, xjt_101, xjt_103, xjt_110, xjt_112, xjt_113, xjt_114, xjt_119, xjt_126, xjt_159, xjt_576, xjt_999, xjt_9999, xjt_65536, xjt_999999, xt64, xt_n, not_true_eq_false, not_false_eq_true, Classical.not_not] at c_74
            all_goals omega
          · skip
            refine xw_go xb_159 6 (f1 := (86, [.ref 60, .int (nI m), .int y, .int (nI (3 ^ N 2)), .int (nI (xtb N m (N 2) w).1), .int (nI (xtb N m (N 2) w).2.1), .int (nI (xtb N m (N 2) w).2.2), .int (nI w), .int (nI (3 ^ N 2)), .int 0, .int 0, .float 0], [])) (h1 := (xS b, J, L, xP b)) rfl trivial ?_
            refine xw_at (f' := (86, [.ref 60, .int (nI m), .int y, .int (nI (3 ^ N 2)), .int (nI (xtb N m (N 2) w).1), .int (nI (xtb N m (N 2) w).2.1), .int (nI (xtb N m (N 2) w).2.2), .int (nI w), .int (nI (3 ^ (N 2 - 0))), .int (nI (xtg 0 (w / 3 ^ (N 2 - 0)))), .int (nI 0), .float 0], [])) (h' := (xS b, J, L, xP b)) rfl rfl ?_
            refine xw_loopP (N 2) (fun p => (86, [.ref 60, .int (nI m), .int y, .int (nI (3 ^ N 2)), .int (nI (xtb N m (N 2) w).1), .int (nI (xtb N m (N 2) w).2.1), .int (nI (xtb N m (N 2) w).2.2), .int (nI w), .int (nI (3 ^ (N 2 - p))), .int (nI (xtg p (w / 3 ^ (N 2 - p)))), .int (nI p), .float 0], [])) (fun p h => ∃ K, h = (xS b, K, L, xP b) ∧ xMF I K ∧ K 68 = xfil 159 (I 61) (I 68) ∧ K 67 = I 67 ∧ K 60 = I 60 ∧ xMN (xpw N m p (w / 3 ^ (N 2 - p))) K) (fun p h hp hV ih => ?_) (fun h hV => ?_) 0 _ (Nat.zero_le _) ⟨J, rfl, j1, j2, j3, j4, j5⟩
            · obtain ⟨K, rfl, k1, k2, k3, k4, k5⟩ := hV
              have e3 : 3 ^ (N 2 - p) = 3 ^ (N 2 - (p + 1)) * 3 := by
                rw [← Nat.pow_succ]
                congr 1
                omega
              have eq : w / 3 ^ (N 2 - p) = (w / 3 ^ (N 2 - (p + 1))) / 3 := by
                rw [e3, Nat.div_div_eq_div_mul]
              have hl : 3 ^ (N 2 - (p + 1)) ≤ 243 := xp243 (by omega)
              have hl0 := xp3 (N 2 - (p + 1))
              have hq : (w / 3 ^ (N 2 - (p + 1))) ≤ w := Nat.div_le_self _ _
              have ok := xpw_ok hO hK.2.1 hm.2 p ((w / 3 ^ (N 2 - (p + 1))) / 3) (by omega)
              have m4 := xpw_m (N := N) (m := m) (s := p) (q := (w / 3 ^ (N 2 - (p + 1))) / 3) hK.2.1 hm.2 (by omega)
              have tm : (w / 3 ^ (N 2 - (p + 1))) % 3 * m ≤ 2 * 20 := Nat.mul_le_mul (by omega) hm.2
              have p32 : 2 ^ p < 32 := Nat.lt_of_lt_of_le (Nat.pow_lt_pow_right (a := 2) (by decide) hp) (xp32 hb.2.2.2.2.1)
              rw [eq] at k5
              have kw : K 61 5 = nI (N 5) := by
                rw [k5 5 (by decide), xpw_lo (k := 5) (by decide) (by decide) (by decide)]
              refine xw_go xb_159 5 (f1 := (94, [.ref 60, .int (nI m), .int y, .int (nI (3 ^ N 2)), .int (nI (xtb N m (N 2) w).1), .int (nI (xtb N m (N 2) w).2.1), .int (nI (xtb N m (N 2) w).2.2), .int (nI w), .int (nI (3 ^ (N 2 - p))), .int (nI (xtg p (w / 3 ^ (N 2 - p)))), .int (nI p), .float 0], [.int (K 61 (2 : Int32).toNatClampNeg), .int (nI p)])) (h1 := (xS b, K, L, xP b)) rfl ⟨rfl, (xn_ar (n := 2) (N := 159) rfl (by decide) (by decide)), trivial⟩ ?_
              refine xw_cong (l' := [.ref 60, .int (nI m), .int y, .int (nI (3 ^ N 2)), .int (nI (xtb N m (N 2) w).1), .int (nI (xtb N m (N 2) w).2.1), .int (nI (xtb N m (N 2) w).2.2), .int (nI w), .int (nI (3 ^ (N 2 - p))), .int (nI (xtg p (w / 3 ^ (N 2 - p)))), .int (nI p), .float 0]) (st' := [.int (nI (N 2)), .int (nI p)]) (h' := (xS b, K, L, xP b)) rfl (show ([.int (K 61 (2 : Int32).toNatClampNeg), .int (nI p)] : List Value) = [.int (nI (N 2)), .int (nI p)] from ?_) rfl ?_
              · rw [show (2 : Int32).toNatClampNeg = 2 from rfl, k5 2 (by decide), xpw_lo (k := 2) (by decide) (by decide) (by decide)]
              refine xw_go xb_159 1 (f1 := (if (nI (N 2)) ≤ (nI p) then 147 else 97, [.ref 60, .int (nI m), .int y, .int (nI (3 ^ N 2)), .int (nI (xtb N m (N 2) w).1), .int (nI (xtb N m (N 2) w).2.1), .int (nI (xtb N m (N 2) w).2.2), .int (nI w), .int (nI (3 ^ (N 2 - p))), .int (nI (xtg p (w / 3 ^ (N 2 - p)))), .int (nI p), .float 0], [])) (h1 := (xS b, K, L, xP b)) rfl trivial ?_
              refine xw_if (fun c_94 => ?_) (fun c_94 => ?_)
              · skip
                exfalso
                try simp only [xB_dec, Classical.not_not] at c_94
                try simp (disch := omega) only [xt_eq, xt_lt, xt_le, xkt_0, xkt_1, xkt_2, xkt_3, xkt_4, xkt_5, xkt_6, xkt_7, xkt_8, xkt_9, xkt_10, xkt_11, xkt_12, xkt_13, xkt_14, xkt_16, xkt_20, xkt_24, xkt_31, xkt_32, xkt_40, xkt_44, xkt_47, xkt_48, xkt_57, xkt_59, xkt_60, xkt_63, xkt_64, xkt_65, xkt_72, xkt_95, xkt_99, xkt_100, xkt_101, xkt_103, xkt_110, xkt_112, xkt_113, xkt_114, xkt_119, xkt_126, xkt_159, xkt_576, xkt_999, xkt_9999, xkt_65536, xkt_999999, xkt_m1, xkt_m2, xkt_m3, xkt_m4, xkt_m11, xkt_m12, xkt_m13, xkt_m14, xkt_m20, xjt_0, xjt_1, xjt_2, xjt_3, xjt_4, xjt_5, xjt_6, xjt_7, xjt_8, xjt_9, xjt_10, xjt_11, xjt_12, xjt_13, xjt_14, xjt_16, xjt_20, xjt_24, xjt_31, xjt_32, xjt_40, xjt_44, xjt_47, xjt_48, xjt_57, xjt_59, xjt_60, xjt_63, xjt_64, xjt_65, xjt_72, xjt_95, xjt_99, xjt_100, xjt_101, xjt_103, xjt_110, xjt_112, xjt_113, xjt_114, xjt_119, xjt_126, xjt_159, xjt_576, xjt_999, xjt_9999, xjt_65536, xjt_999999, xt64, xt_n, not_true_eq_false, not_false_eq_true, Classical.not_not] at c_94
                all_goals omega
              · skip
                refine xw_go xb_159 4 (f1 := (103, [.ref 60, .int (nI m), .int y, .int (nI (3 ^ N 2)), .int (nI (xtb N m (N 2) w).1), .int (nI (xtb N m (N 2) w).2.1), .int (nI (xtb N m (N 2) w).2.2), .int (nI w), .int ((nI (3 ^ (N 2 - p))) / 3), .int (nI (xtg p (w / 3 ^ (N 2 - p)))), .int (nI p), .float 0], [])) (h1 := (xS b, K, L, xP b)) rfl ⟨(by decide), trivial⟩ ?_
                refine xw_cong (l' := [.ref 60, .int (nI m), .int y, .int (nI (3 ^ N 2)), .int (nI (xtb N m (N 2) w).1), .int (nI (xtb N m (N 2) w).2.1), .int (nI (xtb N m (N 2) w).2.2), .int (nI w), .int (nI (3 ^ (N 2 - (p + 1)))), .int (nI (xtg p (w / 3 ^ (N 2 - p)))), .int (nI p), .float 0]) (st' := []) (h' := (xS b, K, L, xP b)) (show ([.ref 60, .int (nI m), .int y, .int (nI (3 ^ N 2)), .int (nI (xtb N m (N 2) w).1), .int (nI (xtb N m (N 2) w).2.1), .int (nI (xtb N m (N 2) w).2.2), .int (nI w), .int ((nI (3 ^ (N 2 - p))) / 3), .int (nI (xtg p (w / 3 ^ (N 2 - p)))), .int (nI p), .float 0] : List Value) = [.ref 60, .int (nI m), .int y, .int (nI (3 ^ N 2)), .int (nI (xtb N m (N 2) w).1), .int (nI (xtb N m (N 2) w).2.1), .int (nI (xtb N m (N 2) w).2.2), .int (nI w), .int (nI (3 ^ (N 2 - (p + 1)))), .int (nI (xtg p (w / 3 ^ (N 2 - p)))), .int (nI p), .float 0] from ?_) rfl rfl ?_
                · rw [e3, xl_3, xn_div (by omega) (by omega) (by omega), Nat.mul_div_cancel _ (by decide)]
                refine xw_go xb_159 6 (f1 := (112, [.ref 60, .int (nI m), .int y, .int (nI (3 ^ N 2)), .int (nI (xtb N m (N 2) w).1), .int (nI (xtb N m (N 2) w).2.1), .int (nI (xtb N m (N 2) w).2.2), .int (nI w), .int (nI (3 ^ (N 2 - (p + 1)))), .int (nI (xtg p (w / 3 ^ (N 2 - p)))), .int (nI p), .int (((nI w) / (nI (3 ^ (N 2 - (p + 1))))) - ((nI w) / (nI (3 ^ (N 2 - (p + 1))))) / 3 * 3)], [])) (h1 := (xS b, K, L, xP b)) rfl ⟨(xn_ne (by omega) hl0), (by decide), trivial⟩ ?_
                refine xw_cong (l' := [.ref 60, .int (nI m), .int y, .int (nI (3 ^ N 2)), .int (nI (xtb N m (N 2) w).1), .int (nI (xtb N m (N 2) w).2.1), .int (nI (xtb N m (N 2) w).2.2), .int (nI w), .int (nI (3 ^ (N 2 - (p + 1)))), .int (nI (xtg p (w / 3 ^ (N 2 - p)))), .int (nI p), .int (nI ((w / 3 ^ (N 2 - (p + 1))) % 3))]) (st' := []) (h' := (xS b, K, L, xP b)) (show ([.ref 60, .int (nI m), .int y, .int (nI (3 ^ N 2)), .int (nI (xtb N m (N 2) w).1), .int (nI (xtb N m (N 2) w).2.1), .int (nI (xtb N m (N 2) w).2.2), .int (nI w), .int (nI (3 ^ (N 2 - (p + 1)))), .int (nI (xtg p (w / 3 ^ (N 2 - p)))), .int (nI p), .int (((nI w) / (nI (3 ^ (N 2 - (p + 1))))) - ((nI w) / (nI (3 ^ (N 2 - (p + 1))))) / 3 * 3)] : List Value) = [.ref 60, .int (nI m), .int y, .int (nI (3 ^ N 2)), .int (nI (xtb N m (N 2) w).1), .int (nI (xtb N m (N 2) w).2.1), .int (nI (xtb N m (N 2) w).2.2), .int (nI w), .int (nI (3 ^ (N 2 - (p + 1)))), .int (nI (xtg p (w / 3 ^ (N 2 - p)))), .int (nI p), .int (nI ((w / 3 ^ (N 2 - (p + 1))) % 3))] from ?_) rfl rfl ?_
                · rw [xn_div (by omega) (by omega) (by omega), xl_3, xn_rem (by omega) (by omega) (by omega)]
                refine xw_go xb_159 12 (f1 := (130, [.ref 60, .int (nI m), .int y, .int (nI (3 ^ N 2)), .int (nI (xtb N m (N 2) w).1), .int (nI (xtb N m (N 2) w).2.1), .int (nI (xtb N m (N 2) w).2.2), .int (nI w), .int (nI (3 ^ (N 2 - (p + 1)))), .int ((nI (xtg p (w / 3 ^ (N 2 - p)))) + (nI ((w / 3 ^ (N 2 - (p + 1))) % 3))), .int (nI p), .int (nI ((w / 3 ^ (N 2 - (p + 1))) % 3))], [.int (K 61 (5 : Int32).toNatClampNeg), .int (1 <<< ((nI p) &&& 31)), .ref 60])) (h1 := (xS b, K, L, xP b)) rfl ⟨rfl, (xn_ar (n := 5) (N := 159) rfl (by decide) (by decide)), trivial⟩ ?_
                refine xw_call xb_159 rfl rfl rfl rfl rfl (Or.inr ⟨_, _, rfl, rfl⟩) (m_rains (I := K) k5 ok (o := 2 ^ p) (wi := N 5) p32 (by omega) (xsh p (by omega)) kw) ?_
                rintro _ _ ⟨rfl, X, rfl, hX⟩
                refine xw_at (f' := (133, [.ref 60, .int (nI m), .int y, .int (nI (3 ^ N 2)), .int (nI (xtb N m (N 2) w).1), .int (nI (xtb N m (N 2) w).2.1), .int (nI (xtb N m (N 2) w).2.2), .int (nI w), .int (nI (3 ^ (N 2 - (p + 1)))), .int ((nI (xtg p (w / 3 ^ (N 2 - p)))) + (nI ((w / 3 ^ (N 2 - (p + 1))) % 3))), .int (nI p), .int (nI ((w / 3 ^ (N 2 - (p + 1))) % 3))], [])) (h' := (xS b, va_up K 62 X, L, xP b)) rfl rfl ?_
                refine xw_go xb_159 4 (f1 := (138, [.ref 60, .int (nI m), .int y, .int (nI (3 ^ N 2)), .int (nI (xtb N m (N 2) w).1), .int (nI (xtb N m (N 2) w).2.1), .int (nI (xtb N m (N 2) w).2.2), .int (nI w), .int (nI (3 ^ (N 2 - (p + 1)))), .int ((nI (xtg p (w / 3 ^ (N 2 - p)))) + (nI ((w / 3 ^ (N 2 - (p + 1))) % 3))), .int (nI p), .int (nI ((w / 3 ^ (N 2 - (p + 1))) % 3))], [.int ((nI ((w / 3 ^ (N 2 - (p + 1))) % 3)) * (nI m)), .ref 60])) (h1 := (xS b, va_up K 62 X, L, xP b)) rfl trivial ?_
                refine xw_call xb_159 rfl rfl rfl rfl rfl (Or.inr ⟨_, _, rfl, rfl⟩) (m_goesOn (I := (va_up K 62 X)) (N := xpw N m p ((w / 3 ^ (N 2 - (p + 1))) / 3)) k5 ok (fv := xfa N (2 ^ p) (N 5)) (fun j hj => by rw [← xfa_pw (m := m) (s := p) (q := (w / 3 ^ (N 2 - (p + 1))) / 3) hO]; exact hX j hj) (fun j hj => by have := xfa_le hO (2 ^ p) (N 5) j; omega) (n := (w / 3 ^ (N 2 - (p + 1))) % 3 * m) (by omega) (pk_mul _ _)) ?_
                rintro _ _ ⟨rfl, X1, Y1, rfl, hY⟩
                refine xw_at (f' := (141, [.ref 60, .int (nI m), .int y, .int (nI (3 ^ N 2)), .int (nI (xtb N m (N 2) w).1), .int (nI (xtb N m (N 2) w).2.1), .int (nI (xtb N m (N 2) w).2.2), .int (nI w), .int (nI (3 ^ (N 2 - (p + 1)))), .int ((nI (xtg p (w / 3 ^ (N 2 - p)))) + (nI ((w / 3 ^ (N 2 - (p + 1))) % 3))), .int (nI p), .int (nI ((w / 3 ^ (N 2 - (p + 1))) % 3))], [])) (h' := (xS b, va_up (va_up (va_up K 62 X) 63 X1) 61 Y1, L, xP b)) rfl rfl ?_
                refine xw_go xb_159 2 (f1 := (86, [.ref 60, .int (nI m), .int y, .int (nI (3 ^ N 2)), .int (nI (xtb N m (N 2) w).1), .int (nI (xtb N m (N 2) w).2.1), .int (nI (xtb N m (N 2) w).2.2), .int (nI w), .int (nI (3 ^ (N 2 - (p + 1)))), .int ((nI (xtg p (w / 3 ^ (N 2 - p)))) + (nI ((w / 3 ^ (N 2 - (p + 1))) % 3))), .int ((nI p) + 1), .int (nI ((w / 3 ^ (N 2 - (p + 1))) % 3))], [])) (h1 := (xS b, va_up (va_up (va_up K 62 X) 63 X1) 61 Y1, L, xP b)) rfl trivial ?_
                refine xw_fg (l0 := [.ref 60, .int (nI m), .int y, .int (nI (3 ^ N 2)), .int (nI (xtb N m (N 2) w).1), .int (nI (xtb N m (N 2) w).2.1), .int (nI (xtb N m (N 2) w).2.2), .int (nI w), .int (nI (3 ^ (N 2 - (p + 1)))), .int ((nI (xtg p (w / 3 ^ (N 2 - p)))) + (nI ((w / 3 ^ (N 2 - (p + 1))) % 3))), .int ((nI p) + 1), .float 0]) ⟨Or.inr rfl, Or.inr rfl, Or.inr rfl, Or.inr rfl, Or.inr rfl, Or.inr rfl, Or.inr rfl, Or.inr rfl, Or.inr rfl, Or.inr rfl, Or.inr rfl, Or.inl rfl, trivial⟩ ?_
                refine xw_cong ?_ rfl rfl (ih _ ⟨_, rfl, xMF_v (xMF_v (xMF_v k1 (by decide)) (by decide)) (by decide), k2, k3, k4, fun k hk => hY k hk⟩)
                rw [nI_1, eq, nI_add]
                rfl
            · obtain ⟨K, rfl, k1, k2, k3, k4, k5⟩ := hV
              have e0 : w / 3 ^ (N 2 - N 2) = w := by rw [Nat.sub_self, Nat.pow_zero, Nat.div_one]
              rw [e0] at k5
              have ok := xpw_ok hO hK.2.1 hm.2 (N 2) w (by omega)
              have own := xwc_le ok
              have tg := xtg_le (N 2) w
              refine xw_at (f' := (86, [.ref 60, .int (nI m), .int y, .int (nI (3 ^ N 2)), .int (nI (xtb N m (N 2) w).1), .int (nI (xtb N m (N 2) w).2.1), .int (nI (xtb N m (N 2) w).2.2), .int (nI w), .int (nI (3 ^ (N 2 - N 2))), .int (nI (xtg (N 2) w)), .int (nI (N 2)), .float 0], [])) (h' := (xS b, K, L, xP b)) (by rw [e0]) rfl ?_
              refine xw_go xb_159 5 (f1 := (94, [.ref 60, .int (nI m), .int y, .int (nI (3 ^ N 2)), .int (nI (xtb N m (N 2) w).1), .int (nI (xtb N m (N 2) w).2.1), .int (nI (xtb N m (N 2) w).2.2), .int (nI w), .int (nI (3 ^ (N 2 - N 2))), .int (nI (xtg (N 2) w)), .int (nI (N 2)), .float 0], [.int (K 61 (2 : Int32).toNatClampNeg), .int (nI (N 2))])) (h1 := (xS b, K, L, xP b)) rfl ⟨rfl, (xn_ar (n := 2) (N := 159) rfl (by decide) (by decide)), trivial⟩ ?_
              refine xw_cong (l' := [.ref 60, .int (nI m), .int y, .int (nI (3 ^ N 2)), .int (nI (xtb N m (N 2) w).1), .int (nI (xtb N m (N 2) w).2.1), .int (nI (xtb N m (N 2) w).2.2), .int (nI w), .int (nI (3 ^ (N 2 - N 2))), .int (nI (xtg (N 2) w)), .int (nI (N 2)), .float 0]) (st' := [.int (nI (N 2)), .int (nI (N 2))]) (h' := (xS b, K, L, xP b)) rfl (show ([.int (K 61 (2 : Int32).toNatClampNeg), .int (nI (N 2))] : List Value) = [.int (nI (N 2)), .int (nI (N 2))] from ?_) rfl ?_
              · rw [show (2 : Int32).toNatClampNeg = 2 from rfl, k5 2 (by decide), xpw_lo (k := 2) (by decide) (by decide) (by decide)]
              refine xw_go xb_159 1 (f1 := (if (nI (N 2)) ≤ (nI (N 2)) then 147 else 97, [.ref 60, .int (nI m), .int y, .int (nI (3 ^ N 2)), .int (nI (xtb N m (N 2) w).1), .int (nI (xtb N m (N 2) w).2.1), .int (nI (xtb N m (N 2) w).2.2), .int (nI w), .int (nI (3 ^ (N 2 - N 2))), .int (nI (xtg (N 2) w)), .int (nI (N 2)), .float 0], [])) (h1 := (xS b, K, L, xP b)) rfl trivial ?_
              refine xw_if (fun c_94 => ?_) (fun c_94 => ?_)
              · skip
                refine xw_go xb_159 1 (f1 := (148, [.ref 60, .int (nI m), .int y, .int (nI (3 ^ N 2)), .int (nI (xtb N m (N 2) w).1), .int (nI (xtb N m (N 2) w).2.1), .int (nI (xtb N m (N 2) w).2.2), .int (nI w), .int (nI (3 ^ (N 2 - N 2))), .int (nI (xtg (N 2) w)), .int (nI (N 2)), .float 0], [.ref 60])) (h1 := (xS b, K, L, xP b)) rfl trivial ?_
                refine xw_call xb_159 rfl rfl rfl rfl rfl (Or.inr ⟨_, _, rfl, rfl⟩) (m_wrongOnes (I := K) k5 ok) ?_
                rintro _ _ ⟨rfl, rfl⟩
                refine xw_at (f' := (151, [.ref 60, .int (nI m), .int y, .int (nI (3 ^ N 2)), .int (nI (xtb N m (N 2) w).1), .int (nI (xtb N m (N 2) w).2.1), .int (nI (xtb N m (N 2) w).2.2), .int (nI w), .int (nI (3 ^ (N 2 - N 2))), .int (nI (xtg (N 2) w)), .int (nI (N 2)), .float 0], [.int (nI (xwc (xpw N m (N 2) w)))])) (h' := (xS b, K, L, xP b)) rfl rfl ?_
                refine xw_go xb_159 2 (f1 := (154, [.ref 60, .int (nI m), .int y, .int (nI (3 ^ N 2)), .int (nI (xtb N m (N 2) w).1), .int (nI (xtb N m (N 2) w).2.1), .int (nI (xtb N m (N 2) w).2.2), .int (nI w), .int (nI (3 ^ (N 2 - N 2))), .int (nI (xtg (N 2) w)), .int (nI (xwc (xpw N m (N 2) w))), .float 0], [.ref 60])) (h1 := (xS b, K, L, xP b)) rfl trivial ?_
                refine xw_call xb_159 rfl rfl rfl rfl rfl (Or.inr ⟨_, _, rfl, rfl⟩) (m_backs (I := K)) ?_
                rintro _ _ ⟨rfl, rfl⟩
                refine xw_at (f' := (157, [.ref 60, .int (nI m), .int y, .int (nI (3 ^ N 2)), .int (nI (xtb N m (N 2) w).1), .int (nI (xtb N m (N 2) w).2.1), .int (nI (xtb N m (N 2) w).2.2), .int (nI w), .int (nI (3 ^ (N 2 - N 2))), .int (nI (xtg (N 2) w)), .int (nI (xwc (xpw N m (N 2) w))), .float 0], [])) (h' := (xS b, va_up K 61 (xfil 159 (K 68) (K 61)), L, xP b)) rfl rfl ?_
                have g5 : xMN N (va_up K 61 (xfil 159 (K 68) (K 61))) := fun k hk => by
                  rw [show ∀ (f : Nat → Nat → Int32) (g : Nat → Int32), va_up f 61 g 61 = g from fun f g => by simp [va_up], k2]
                  unfold xfil
                  rw [if_pos hk, if_pos hk]
                  exact hM.1 k hk
                refine xw_go xb_159 3 (f1 := (if (nI (xtb N m (N 2) w).1) = (-4) then 185 else 164, [.ref 60, .int (nI m), .int y, .int (nI (3 ^ N 2)), .int (nI (xtb N m (N 2) w).1), .int (nI (xtb N m (N 2) w).2.1), .int (nI (xtb N m (N 2) w).2.2), .int (nI w), .int (nI (3 ^ (N 2 - N 2))), .int (nI (xtg (N 2) w)), .int (nI (xwc (xpw N m (N 2) w))), .float 0], [])) (h1 := (xS b, va_up K 61 (xfil 159 (K 68) (K 61)), L, xP b)) rfl trivial ?_
                refine xw_if (fun c_161 => ?_) (fun c_161 => ?_)
                · skip
                  refine xw_go xb_159 20 (f1 := (71, [.ref 60, .int (nI m), .int y, .int (nI (3 ^ N 2)), .int (nI (xwc (xpw N m (N 2) w))), .int (nI (xtg (N 2) w)), .int (nI w), .int ((nI w) + 1), .int (nI (3 ^ (N 2 - N 2))), .int (nI (xtg (N 2) w)), .int (nI (xwc (xpw N m (N 2) w))), .int 1], [])) (h1 := (xS b, va_up K 61 (xfil 159 (K 68) (K 61)), L, xP b)) rfl trivial ?_
                  refine xw_fg (l0 := [.ref 60, .int (nI m), .int y, .int (nI (3 ^ N 2)), .int (nI (xwc (xpw N m (N 2) w))), .int (nI (xtg (N 2) w)), .int (nI w), .int ((nI w) + 1), .float 0, .float 0, .float 0, .float 0]) ⟨Or.inr rfl, Or.inr rfl, Or.inr rfl, Or.inr rfl, Or.inr rfl, Or.inr rfl, Or.inr rfl, Or.inr rfl, Or.inl rfl, Or.inl rfl, Or.inl rfl, Or.inl rfl, trivial⟩ ?_
                  have hy := xtb_y (N := N) (m := m) (n := N 2) (w := w) (by
                    try simp only [xB_dec, Classical.not_not] at c_94 c_161
                    try simp (disch := omega) only [xt_eq, xt_lt, xt_le, xkt_0, xkt_1, xkt_2, xkt_3, xkt_4, xkt_5, xkt_6, xkt_7, xkt_8, xkt_9, xkt_10, xkt_11, xkt_12, xkt_13, xkt_14, xkt_16, xkt_20, xkt_24, xkt_31, xkt_32, xkt_40, xkt_44, xkt_47, xkt_48, xkt_57, xkt_59, xkt_60, xkt_63, xkt_64, xkt_65, xkt_72, xkt_95, xkt_99, xkt_100, xkt_101, xkt_103, xkt_110, xkt_112, xkt_113, xkt_114, xkt_119, xkt_126, xkt_159, xkt_576, xkt_999, xkt_9999, xkt_65536, xkt_999999, xkt_m1, xkt_m2, xkt_m3, xkt_m4, xkt_m11, xkt_m12, xkt_m13, xkt_m14, xkt_m20, xjt_0, xjt_1, xjt_2, xjt_3, xjt_4, xjt_5, xjt_6, xjt_7, xjt_8, xjt_9, xjt_10, xjt_11, xjt_12, xjt_13, xjt_14, xjt_16, xjt_20, xjt_24, xjt_31, xjt_32, xjt_40, xjt_44, xjt_47, xjt_48, xjt_57, xjt_59, xjt_60, xjt_63, xjt_64, xjt_65, xjt_72, xjt_95, xjt_99, xjt_100, xjt_101, xjt_103, xjt_110, xjt_112, xjt_113, xjt_114, xjt_119, xjt_126, xjt_159, xjt_576, xjt_999, xjt_9999, xjt_65536, xjt_999999, xt64, xt_n, not_true_eq_false, not_false_eq_true, Classical.not_not] at c_94 c_161
                    all_goals omega)
                  refine xw_cong ?_ rfl rfl (ih _ ⟨by omega, _, rfl, xMF_v k1 (by decide), k2, k3, k4, g5⟩)
                  rw [hy, nI_1]
                · skip
                  refine xw_go xb_159 3 (f1 := (if (nI (xwc (xpw N m (N 2) w))) < (nI (xtb N m (N 2) w).1) then 185 else 171, [.ref 60, .int (nI m), .int y, .int (nI (3 ^ N 2)), .int (nI (xtb N m (N 2) w).1), .int (nI (xtb N m (N 2) w).2.1), .int (nI (xtb N m (N 2) w).2.2), .int (nI w), .int (nI (3 ^ (N 2 - N 2))), .int (nI (xtg (N 2) w)), .int (nI (xwc (xpw N m (N 2) w))), .float 0], [])) (h1 := (xS b, va_up K 61 (xfil 159 (K 68) (K 61)), L, xP b)) rfl trivial ?_
                  refine xw_if (fun c_168 => ?_) (fun c_168 => ?_)
                  · skip
                    refine xw_go xb_159 20 (f1 := (71, [.ref 60, .int (nI m), .int y, .int (nI (3 ^ N 2)), .int (nI (xwc (xpw N m (N 2) w))), .int (nI (xtg (N 2) w)), .int (nI w), .int ((nI w) + 1), .int (nI (3 ^ (N 2 - N 2))), .int (nI (xtg (N 2) w)), .int (nI (xwc (xpw N m (N 2) w))), .int 1], [])) (h1 := (xS b, va_up K 61 (xfil 159 (K 68) (K 61)), L, xP b)) rfl trivial ?_
                    refine xw_fg (l0 := [.ref 60, .int (nI m), .int y, .int (nI (3 ^ N 2)), .int (nI (xwc (xpw N m (N 2) w))), .int (nI (xtg (N 2) w)), .int (nI w), .int ((nI w) + 1), .float 0, .float 0, .float 0, .float 0]) ⟨Or.inr rfl, Or.inr rfl, Or.inr rfl, Or.inr rfl, Or.inr rfl, Or.inr rfl, Or.inr rfl, Or.inr rfl, Or.inl rfl, Or.inl rfl, Or.inl rfl, Or.inl rfl, trivial⟩ ?_
                    have hy := xtb_y (N := N) (m := m) (n := N 2) (w := w) (by
                      try simp only [xB_dec, Classical.not_not] at c_94 c_161 c_168
                      try simp (disch := omega) only [xt_eq, xt_lt, xt_le, xkt_0, xkt_1, xkt_2, xkt_3, xkt_4, xkt_5, xkt_6, xkt_7, xkt_8, xkt_9, xkt_10, xkt_11, xkt_12, xkt_13, xkt_14, xkt_16, xkt_20, xkt_24, xkt_31, xkt_32, xkt_40, xkt_44, xkt_47, xkt_48, xkt_57, xkt_59, xkt_60, xkt_63, xkt_64, xkt_65, xkt_72, xkt_95, xkt_99, xkt_100, xkt_101, xkt_103, xkt_110, xkt_112, xkt_113, xkt_114, xkt_119, xkt_126, xkt_159, xkt_576, xkt_999, xkt_9999, xkt_65536, xkt_999999, xkt_m1, xkt_m2, xkt_m3, xkt_m4, xkt_m11, xkt_m12, xkt_m13, xkt_m14, xkt_m20, xjt_0, xjt_1, xjt_2, xjt_3, xjt_4, xjt_5, xjt_6, xjt_7, xjt_8, xjt_9, xjt_10, xjt_11, xjt_12, xjt_13, xjt_14, xjt_16, xjt_20, xjt_24, xjt_31, xjt_32, xjt_40, xjt_44, xjt_47, xjt_48, xjt_57, xjt_59, xjt_60, xjt_63, xjt_64, xjt_65, xjt_72, xjt_95, xjt_99, xjt_100, xjt_101, xjt_103, xjt_110, xjt_112, xjt_113, xjt_114, xjt_119, xjt_126, xjt_159, xjt_576, xjt_999, xjt_9999, xjt_65536, xjt_999999, xt64, xt_n, not_true_eq_false, not_false_eq_true, Classical.not_not] at c_94 c_161 c_168
                      all_goals omega)
                    refine xw_cong ?_ rfl rfl (ih _ ⟨by omega, _, rfl, xMF_v k1 (by decide), k2, k3, k4, g5⟩)
                    rw [hy, nI_1]
                  · skip
                    refine xw_go xb_159 3 (f1 := (if ¬ (nI (xwc (xpw N m (N 2) w))) = (nI (xtb N m (N 2) w).1) then 189 else 178, [.ref 60, .int (nI m), .int y, .int (nI (3 ^ N 2)), .int (nI (xtb N m (N 2) w).1), .int (nI (xtb N m (N 2) w).2.1), .int (nI (xtb N m (N 2) w).2.2), .int (nI w), .int (nI (3 ^ (N 2 - N 2))), .int (nI (xtg (N 2) w)), .int (nI (xwc (xpw N m (N 2) w))), .float 0], [])) (h1 := (xS b, va_up K 61 (xfil 159 (K 68) (K 61)), L, xP b)) rfl trivial ?_
                    refine xw_if (fun c_175 => ?_) (fun c_175 => ?_)
                    · skip
                      refine xw_go xb_159 16 (f1 := (71, [.ref 60, .int (nI m), .int y, .int (nI (3 ^ N 2)), .int (nI (xtb N m (N 2) w).1), .int (nI (xtb N m (N 2) w).2.1), .int (nI (xtb N m (N 2) w).2.2), .int ((nI w) + 1), .int (nI (3 ^ (N 2 - N 2))), .int (nI (xtg (N 2) w)), .int (nI (xwc (xpw N m (N 2) w))), .int 0], [])) (h1 := (xS b, va_up K 61 (xfil 159 (K 68) (K 61)), L, xP b)) rfl trivial ?_
                      refine xw_fg (l0 := [.ref 60, .int (nI m), .int y, .int (nI (3 ^ N 2)), .int (nI (xtb N m (N 2) w).1), .int (nI (xtb N m (N 2) w).2.1), .int (nI (xtb N m (N 2) w).2.2), .int ((nI w) + 1), .float 0, .float 0, .float 0, .float 0]) ⟨Or.inr rfl, Or.inr rfl, Or.inr rfl, Or.inr rfl, Or.inr rfl, Or.inr rfl, Or.inr rfl, Or.inr rfl, Or.inl rfl, Or.inl rfl, Or.inl rfl, Or.inl rfl, trivial⟩ ?_
                      have hy := xtb_n (N := N) (m := m) (n := N 2) (w := w) (by
                        try simp only [xB_dec, Classical.not_not] at c_94 c_161 c_168 c_175
                        try simp (disch := omega) only [xt_eq, xt_lt, xt_le, xkt_0, xkt_1, xkt_2, xkt_3, xkt_4, xkt_5, xkt_6, xkt_7, xkt_8, xkt_9, xkt_10, xkt_11, xkt_12, xkt_13, xkt_14, xkt_16, xkt_20, xkt_24, xkt_31, xkt_32, xkt_40, xkt_44, xkt_47, xkt_48, xkt_57, xkt_59, xkt_60, xkt_63, xkt_64, xkt_65, xkt_72, xkt_95, xkt_99, xkt_100, xkt_101, xkt_103, xkt_110, xkt_112, xkt_113, xkt_114, xkt_119, xkt_126, xkt_159, xkt_576, xkt_999, xkt_9999, xkt_65536, xkt_999999, xkt_m1, xkt_m2, xkt_m3, xkt_m4, xkt_m11, xkt_m12, xkt_m13, xkt_m14, xkt_m20, xjt_0, xjt_1, xjt_2, xjt_3, xjt_4, xjt_5, xjt_6, xjt_7, xjt_8, xjt_9, xjt_10, xjt_11, xjt_12, xjt_13, xjt_14, xjt_16, xjt_20, xjt_24, xjt_31, xjt_32, xjt_40, xjt_44, xjt_47, xjt_48, xjt_57, xjt_59, xjt_60, xjt_63, xjt_64, xjt_65, xjt_72, xjt_95, xjt_99, xjt_100, xjt_101, xjt_103, xjt_110, xjt_112, xjt_113, xjt_114, xjt_119, xjt_126, xjt_159, xjt_576, xjt_999, xjt_9999, xjt_65536, xjt_999999, xt64, xt_n, not_true_eq_false, not_false_eq_true, Classical.not_not] at c_94 c_161 c_168 c_175
                        all_goals omega)
                      refine xw_cong ?_ rfl rfl (ih _ ⟨by omega, _, rfl, xMF_v k1 (by decide), k2, k3, k4, g5⟩)
                      rw [hy, nI_1]
                    · skip
                      refine xw_go xb_159 3 (f1 := (if (nI (xtb N m (N 2) w).2.1) ≤ (nI (xtg (N 2) w)) then 189 else 185, [.ref 60, .int (nI m), .int y, .int (nI (3 ^ N 2)), .int (nI (xtb N m (N 2) w).1), .int (nI (xtb N m (N 2) w).2.1), .int (nI (xtb N m (N 2) w).2.2), .int (nI w), .int (nI (3 ^ (N 2 - N 2))), .int (nI (xtg (N 2) w)), .int (nI (xwc (xpw N m (N 2) w))), .float 0], [])) (h1 := (xS b, va_up K 61 (xfil 159 (K 68) (K 61)), L, xP b)) rfl trivial ?_
                      refine xw_if (fun c_182 => ?_) (fun c_182 => ?_)
                      · skip
                        refine xw_go xb_159 16 (f1 := (71, [.ref 60, .int (nI m), .int y, .int (nI (3 ^ N 2)), .int (nI (xtb N m (N 2) w).1), .int (nI (xtb N m (N 2) w).2.1), .int (nI (xtb N m (N 2) w).2.2), .int ((nI w) + 1), .int (nI (3 ^ (N 2 - N 2))), .int (nI (xtg (N 2) w)), .int (nI (xwc (xpw N m (N 2) w))), .int 0], [])) (h1 := (xS b, va_up K 61 (xfil 159 (K 68) (K 61)), L, xP b)) rfl trivial ?_
                        refine xw_fg (l0 := [.ref 60, .int (nI m), .int y, .int (nI (3 ^ N 2)), .int (nI (xtb N m (N 2) w).1), .int (nI (xtb N m (N 2) w).2.1), .int (nI (xtb N m (N 2) w).2.2), .int ((nI w) + 1), .float 0, .float 0, .float 0, .float 0]) ⟨Or.inr rfl, Or.inr rfl, Or.inr rfl, Or.inr rfl, Or.inr rfl, Or.inr rfl, Or.inr rfl, Or.inr rfl, Or.inl rfl, Or.inl rfl, Or.inl rfl, Or.inl rfl, trivial⟩ ?_
                        have hy := xtb_n (N := N) (m := m) (n := N 2) (w := w) (by
                          try simp only [xB_dec, Classical.not_not] at c_94 c_161 c_168 c_175 c_182
                          try simp (disch := omega) only [xt_eq, xt_lt, xt_le, xkt_0, xkt_1, xkt_2, xkt_3, xkt_4, xkt_5, xkt_6, xkt_7, xkt_8, xkt_9, xkt_10, xkt_11, xkt_12, xkt_13, xkt_14, xkt_16, xkt_20, xkt_24, xkt_31, xkt_32, xkt_40, xkt_44, xkt_47, xkt_48, xkt_57, xkt_59, xkt_60, xkt_63, xkt_64, xkt_65, xkt_72, xkt_95, xkt_99, xkt_100, xkt_101, xkt_103, xkt_110, xkt_112, xkt_113, xkt_114, xkt_119, xkt_126, xkt_159, xkt_576, xkt_999, xkt_9999, xkt_65536, xkt_999999, xkt_m1, xkt_m2, xkt_m3, xkt_m4, xkt_m11, xkt_m12, xkt_m13, xkt_m14, xkt_m20, xjt_0, xjt_1, xjt_2, xjt_3, xjt_4, xjt_5, xjt_6, xjt_7, xjt_8, xjt_9, xjt_10, xjt_11, xjt_12, xjt_13, xjt_14, xjt_16, xjt_20, xjt_24, xjt_31, xjt_32, xjt_40, xjt_44, xjt_47, xjt_48, xjt_57, xjt_59, xjt_60, xjt_63, xjt_64, xjt_65, xjt_72, xjt_95, xjt_99, xjt_100, xjt_101, xjt_103, xjt_110, xjt_112, xjt_113, xjt_114, xjt_119, xjt_126, xjt_159, xjt_576, xjt_999, xjt_9999, xjt_65536, xjt_999999, xt64, xt_n, not_true_eq_false, not_false_eq_true, Classical.not_not] at c_94 c_161 c_168 c_175 c_182
                          all_goals omega)
                        refine xw_cong ?_ rfl rfl (ih _ ⟨by omega, _, rfl, xMF_v k1 (by decide), k2, k3, k4, g5⟩)
                        rw [hy, nI_1]
                      · skip
                        refine xw_go xb_159 20 (f1 := (71, [.ref 60, .int (nI m), .int y, .int (nI (3 ^ N 2)), .int (nI (xwc (xpw N m (N 2) w))), .int (nI (xtg (N 2) w)), .int (nI w), .int ((nI w) + 1), .int (nI (3 ^ (N 2 - N 2))), .int (nI (xtg (N 2) w)), .int (nI (xwc (xpw N m (N 2) w))), .int 1], [])) (h1 := (xS b, va_up K 61 (xfil 159 (K 68) (K 61)), L, xP b)) rfl trivial ?_
                        refine xw_fg (l0 := [.ref 60, .int (nI m), .int y, .int (nI (3 ^ N 2)), .int (nI (xwc (xpw N m (N 2) w))), .int (nI (xtg (N 2) w)), .int (nI w), .int ((nI w) + 1), .float 0, .float 0, .float 0, .float 0]) ⟨Or.inr rfl, Or.inr rfl, Or.inr rfl, Or.inr rfl, Or.inr rfl, Or.inr rfl, Or.inr rfl, Or.inr rfl, Or.inl rfl, Or.inl rfl, Or.inl rfl, Or.inl rfl, trivial⟩ ?_
                        have hy := xtb_y (N := N) (m := m) (n := N 2) (w := w) (by
                          try simp only [xB_dec, Classical.not_not] at c_94 c_161 c_168 c_175 c_182
                          try simp (disch := omega) only [xt_eq, xt_lt, xt_le, xkt_0, xkt_1, xkt_2, xkt_3, xkt_4, xkt_5, xkt_6, xkt_7, xkt_8, xkt_9, xkt_10, xkt_11, xkt_12, xkt_13, xkt_14, xkt_16, xkt_20, xkt_24, xkt_31, xkt_32, xkt_40, xkt_44, xkt_47, xkt_48, xkt_57, xkt_59, xkt_60, xkt_63, xkt_64, xkt_65, xkt_72, xkt_95, xkt_99, xkt_100, xkt_101, xkt_103, xkt_110, xkt_112, xkt_113, xkt_114, xkt_119, xkt_126, xkt_159, xkt_576, xkt_999, xkt_9999, xkt_65536, xkt_999999, xkt_m1, xkt_m2, xkt_m3, xkt_m4, xkt_m11, xkt_m12, xkt_m13, xkt_m14, xkt_m20, xjt_0, xjt_1, xjt_2, xjt_3, xjt_4, xjt_5, xjt_6, xjt_7, xjt_8, xjt_9, xjt_10, xjt_11, xjt_12, xjt_13, xjt_14, xjt_16, xjt_20, xjt_24, xjt_31, xjt_32, xjt_40, xjt_44, xjt_47, xjt_48, xjt_57, xjt_59, xjt_60, xjt_63, xjt_64, xjt_65, xjt_72, xjt_95, xjt_99, xjt_100, xjt_101, xjt_103, xjt_110, xjt_112, xjt_113, xjt_114, xjt_119, xjt_126, xjt_159, xjt_576, xjt_999, xjt_9999, xjt_65536, xjt_999999, xt64, xt_n, not_true_eq_false, not_false_eq_true, Classical.not_not] at c_94 c_161 c_168 c_175 c_182
                          all_goals omega)
                        refine xw_cong ?_ rfl rfl (ih _ ⟨by omega, _, rfl, xMF_v k1 (by decide), k2, k3, k4, g5⟩)
                        rw [hy, nI_1]
              · skip
                exfalso
                try simp only [xB_dec, Classical.not_not] at c_94
                try simp (disch := omega) only [xt_eq, xt_lt, xt_le, xkt_0, xkt_1, xkt_2, xkt_3, xkt_4, xkt_5, xkt_6, xkt_7, xkt_8, xkt_9, xkt_10, xkt_11, xkt_12, xkt_13, xkt_14, xkt_16, xkt_20, xkt_24, xkt_31, xkt_32, xkt_40, xkt_44, xkt_47, xkt_48, xkt_57, xkt_59, xkt_60, xkt_63, xkt_64, xkt_65, xkt_72, xkt_95, xkt_99, xkt_100, xkt_101, xkt_103, xkt_110, xkt_112, xkt_113, xkt_114, xkt_119, xkt_126, xkt_159, xkt_576, xkt_999, xkt_9999, xkt_65536, xkt_999999, xkt_m1, xkt_m2, xkt_m3, xkt_m4, xkt_m11, xkt_m12, xkt_m13, xkt_m14, xkt_m20, xjt_0, xjt_1, xjt_2, xjt_3, xjt_4, xjt_5, xjt_6, xjt_7, xjt_8, xjt_9, xjt_10, xjt_11, xjt_12, xjt_13, xjt_14, xjt_16, xjt_20, xjt_24, xjt_31, xjt_32, xjt_40, xjt_44, xjt_47, xjt_48, xjt_57, xjt_59, xjt_60, xjt_63, xjt_64, xjt_65, xjt_72, xjt_95, xjt_99, xjt_100, xjt_101, xjt_103, xjt_110, xjt_112, xjt_113, xjt_114, xjt_119, xjt_126, xjt_159, xjt_576, xjt_999, xjt_9999, xjt_65536, xjt_999999, xt64, xt_n, not_true_eq_false, not_false_eq_true, Classical.not_not] at c_94
                all_goals omega
        · obtain ⟨hc1, J, rfl, j1, j2, j3, j4, j5⟩ := hV
          refine xw_go xb_159 3 (f1 := (if (nI (3 ^ N 2)) ≤ (nI (3 ^ N 2)) then 240 else 77, [.ref 60, .int (nI m), .int y, .int (nI (3 ^ N 2)), .int (nI (xtb N m (N 2) (3 ^ N 2)).1), .int (nI (xtb N m (N 2) (3 ^ N 2)).2.1), .int (nI (xtb N m (N 2) (3 ^ N 2)).2.2), .int (nI (3 ^ N 2)), .float 0, .float 0, .float 0, .float 0], [])) (h1 := (xS b, J, L, xP b)) rfl trivial ?_
          refine xw_if (fun c_74 => ?_) (fun c_74 => ?_)
          · skip
            exact kk J j1 j2 j3 j4 j5
          · skip
            exfalso
            try simp only [xB_dec, Classical.not_not] at c_74
            try simp (disch := omega) only [xt_eq, xt_lt, xt_le, xkt_0, xkt_1, xkt_2, xkt_3, xkt_4, xkt_5, xkt_6, xkt_7, xkt_8, xkt_9, xkt_10, xkt_11, xkt_12, xkt_13, xkt_14, xkt_16, xkt_20, xkt_24, xkt_31, xkt_32, xkt_40, xkt_44, xkt_47, xkt_48, xkt_57, xkt_59, xkt_60, xkt_63, xkt_64, xkt_65, xkt_72, xkt_95, xkt_99, xkt_100, xkt_101, xkt_103, xkt_110, xkt_112, xkt_113, xkt_114, xkt_119, xkt_126, xkt_159, xkt_576, xkt_999, xkt_9999, xkt_65536, xkt_999999, xkt_m1, xkt_m2, xkt_m3, xkt_m4, xkt_m11, xkt_m12, xkt_m13, xkt_m14, xkt_m20, xjt_0, xjt_1, xjt_2, xjt_3, xjt_4, xjt_5, xjt_6, xjt_7, xjt_8, xjt_9, xjt_10, xjt_11, xjt_12, xjt_13, xjt_14, xjt_16, xjt_20, xjt_24, xjt_31, xjt_32, xjt_40, xjt_44, xjt_47, xjt_48, xjt_57, xjt_59, xjt_60, xjt_63, xjt_64, xjt_65, xjt_72, xjt_95, xjt_99, xjt_100, xjt_101, xjt_103, xjt_110, xjt_112, xjt_113, xjt_114, xjt_119, xjt_126, xjt_159, xjt_576, xjt_999, xjt_9999, xjt_65536, xjt_999999, xt64, xt_n, not_true_eq_false, not_false_eq_true, Classical.not_not] at c_74
            all_goals omega
      obtain ⟨J, hJ⟩ : ∃ J, J = va_up I 68 (xfil 159 (I 61) (I 68)) := ⟨_, rfl⟩
      have j1 : xMF I J := by rw [hJ]; exact xMF_v (xMF_r I) (by decide)
      have j2 : J 68 = xfil 159 (I 61) (I 68) := by rw [hJ]; rfl
      have j3 : J 67 = I 67 := by rw [hJ]; rfl
      have j4 : J 60 = I 60 := by rw [hJ]; rfl
      have j5 : xMN N J := by rw [hJ]; exact fun k hk => hM.1 k hk
      rw [← hJ]
      clear hJ
      have j5 : xMN (xpw N m 0 (0 / 3 ^ (N 2 - 0))) J := j5
      refine xw_fg (l0 := [.ref 60, .int (nI m), .int y, .int (nI (3 ^ N 2)), .int (-4), .int 0, .int 0, .int (nI 0), .float 0, .float 0, .float 0, .float 0]) ⟨Or.inr rfl, Or.inr rfl, Or.inr rfl, Or.inr rfl, Or.inr rfl, Or.inr rfl, Or.inr rfl, Or.inr rfl, Or.inl rfl, Or.inl rfl, Or.inl rfl, Or.inl rfl, trivial⟩ ?_
      refine xw_go xb_159 3 (f1 := (if (nI (3 ^ N 2)) ≤ (nI 0) then 240 else 77, [.ref 60, .int (nI m), .int y, .int (nI (3 ^ N 2)), .int (-4), .int 0, .int 0, .int (nI 0), .float 0, .float 0, .float 0, .float 0], [])) (h1 := (xS b, J, L, xP b)) rfl trivial ?_
      refine xw_if (fun c_74 => ?_) (fun c_74 => ?_)
      · skip
        exfalso
        try simp only [xB_dec, Classical.not_not] at c_74
        try simp (disch := omega) only [xt_eq, xt_lt, xt_le, xkt_0, xkt_1, xkt_2, xkt_3, xkt_4, xkt_5, xkt_6, xkt_7, xkt_8, xkt_9, xkt_10, xkt_11, xkt_12, xkt_13, xkt_14, xkt_16, xkt_20, xkt_24, xkt_31, xkt_32, xkt_40, xkt_44, xkt_47, xkt_48, xkt_57, xkt_59, xkt_60, xkt_63, xkt_64, xkt_65, xkt_72, xkt_95, xkt_99, xkt_100, xkt_101, xkt_103, xkt_110, xkt_112, xkt_113, xkt_114, xkt_119, xkt_126, xkt_159, xkt_576, xkt_999, xkt_9999, xkt_65536, xkt_999999, xkt_m1, xkt_m2, xkt_m3, xkt_m4, xkt_m11, xkt_m12, xkt_m13, xkt_m14, xkt_m20, xjt_0, xjt_1, xjt_2, xjt_3, xjt_4, xjt_5, xjt_6, xjt_7, xjt_8, xjt_9, xjt_10, xjt_11, xjt_12, xjt_13, xjt_14, xjt_16, xjt_20, xjt_24, xjt_31, xjt_32, xjt_40, xjt_44, xjt_47, xjt_48, xjt_57, xjt_59, xjt_60, xjt_63, xjt_64, xjt_65, xjt_72, xjt_95, xjt_99, xjt_100, xjt_101, xjt_103, xjt_110, xjt_112, xjt_113, xjt_114, xjt_119, xjt_126, xjt_159, xjt_576, xjt_999, xjt_9999, xjt_65536, xjt_999999, xt64, xt_n, not_true_eq_false, not_false_eq_true, Classical.not_not] at c_74
        all_goals omega
      · skip
        refine xw_go xb_159 6 (f1 := (86, [.ref 60, .int (nI m), .int y, .int (nI (3 ^ N 2)), .int (-4), .int 0, .int 0, .int (nI 0), .int (nI (3 ^ N 2)), .int 0, .int 0, .float 0], [])) (h1 := (xS b, J, L, xP b)) rfl trivial ?_
        refine xw_at (f' := (86, [.ref 60, .int (nI m), .int y, .int (nI (3 ^ N 2)), .int (-4), .int 0, .int 0, .int (nI 0), .int (nI (3 ^ (N 2 - 0))), .int (nI (xtg 0 (0 / 3 ^ (N 2 - 0)))), .int (nI 0), .float 0], [])) (h' := (xS b, J, L, xP b)) rfl rfl ?_
        refine xw_loopP (N 2) (fun p => (86, [.ref 60, .int (nI m), .int y, .int (nI (3 ^ N 2)), .int (-4), .int 0, .int 0, .int (nI 0), .int (nI (3 ^ (N 2 - p))), .int (nI (xtg p (0 / 3 ^ (N 2 - p)))), .int (nI p), .float 0], [])) (fun p h => ∃ K, h = (xS b, K, L, xP b) ∧ xMF I K ∧ K 68 = xfil 159 (I 61) (I 68) ∧ K 67 = I 67 ∧ K 60 = I 60 ∧ xMN (xpw N m p (0 / 3 ^ (N 2 - p))) K) (fun p h hp hV ih => ?_) (fun h hV => ?_) 0 _ (Nat.zero_le _) ⟨J, rfl, j1, j2, j3, j4, j5⟩
        · obtain ⟨K, rfl, k1, k2, k3, k4, k5⟩ := hV
          have e3 : 3 ^ (N 2 - p) = 3 ^ (N 2 - (p + 1)) * 3 := by
            rw [← Nat.pow_succ]
            congr 1
            omega
          have eq : 0 / 3 ^ (N 2 - p) = (0 / 3 ^ (N 2 - (p + 1))) / 3 := by
            rw [e3, Nat.div_div_eq_div_mul]
          have hl : 3 ^ (N 2 - (p + 1)) ≤ 243 := xp243 (by omega)
          have hl0 := xp3 (N 2 - (p + 1))
          have hq : (0 / 3 ^ (N 2 - (p + 1))) ≤ 0 := Nat.div_le_self _ _
          have ok := xpw_ok hO hK.2.1 hm.2 p ((0 / 3 ^ (N 2 - (p + 1))) / 3) (by omega)
          have m4 := xpw_m (N := N) (m := m) (s := p) (q := (0 / 3 ^ (N 2 - (p + 1))) / 3) hK.2.1 hm.2 (by omega)
          have tm : (0 / 3 ^ (N 2 - (p + 1))) % 3 * m ≤ 2 * 20 := Nat.mul_le_mul (by omega) hm.2
          have p32 : 2 ^ p < 32 := Nat.lt_of_lt_of_le (Nat.pow_lt_pow_right (a := 2) (by decide) hp) (xp32 hb.2.2.2.2.1)
          rw [eq] at k5
          have kw : K 61 5 = nI (N 5) := by
            rw [k5 5 (by decide), xpw_lo (k := 5) (by decide) (by decide) (by decide)]
          refine xw_go xb_159 5 (f1 := (94, [.ref 60, .int (nI m), .int y, .int (nI (3 ^ N 2)), .int (-4), .int 0, .int 0, .int (nI 0), .int (nI (3 ^ (N 2 - p))), .int (nI (xtg p (0 / 3 ^ (N 2 - p)))), .int (nI p), .float 0], [.int (K 61 (2 : Int32).toNatClampNeg), .int (nI p)])) (h1 := (xS b, K, L, xP b)) rfl ⟨rfl, (xn_ar (n := 2) (N := 159) rfl (by decide) (by decide)), trivial⟩ ?_
          refine xw_cong (l' := [.ref 60, .int (nI m), .int y, .int (nI (3 ^ N 2)), .int (-4), .int 0, .int 0, .int (nI 0), .int (nI (3 ^ (N 2 - p))), .int (nI (xtg p (0 / 3 ^ (N 2 - p)))), .int (nI p), .float 0]) (st' := [.int (nI (N 2)), .int (nI p)]) (h' := (xS b, K, L, xP b)) rfl (show ([.int (K 61 (2 : Int32).toNatClampNeg), .int (nI p)] : List Value) = [.int (nI (N 2)), .int (nI p)] from ?_) rfl ?_
          · rw [show (2 : Int32).toNatClampNeg = 2 from rfl, k5 2 (by decide), xpw_lo (k := 2) (by decide) (by decide) (by decide)]
          refine xw_go xb_159 1 (f1 := (if (nI (N 2)) ≤ (nI p) then 147 else 97, [.ref 60, .int (nI m), .int y, .int (nI (3 ^ N 2)), .int (-4), .int 0, .int 0, .int (nI 0), .int (nI (3 ^ (N 2 - p))), .int (nI (xtg p (0 / 3 ^ (N 2 - p)))), .int (nI p), .float 0], [])) (h1 := (xS b, K, L, xP b)) rfl trivial ?_
          refine xw_if (fun c_94 => ?_) (fun c_94 => ?_)
          · skip
            exfalso
            try simp only [xB_dec, Classical.not_not] at c_94
            try simp (disch := omega) only [xt_eq, xt_lt, xt_le, xkt_0, xkt_1, xkt_2, xkt_3, xkt_4, xkt_5, xkt_6, xkt_7, xkt_8, xkt_9, xkt_10, xkt_11, xkt_12, xkt_13, xkt_14, xkt_16, xkt_20, xkt_24, xkt_31, xkt_32, xkt_40, xkt_44, xkt_47, xkt_48, xkt_57, xkt_59, xkt_60, xkt_63, xkt_64, xkt_65, xkt_72, xkt_95, xkt_99, xkt_100, xkt_101, xkt_103, xkt_110, xkt_112, xkt_113, xkt_114, xkt_119, xkt_126, xkt_159, xkt_576, xkt_999, xkt_9999, xkt_65536, xkt_999999, xkt_m1, xkt_m2, xkt_m3, xkt_m4, xkt_m11, xkt_m12, xkt_m13, xkt_m14, xkt_m20, xjt_0, xjt_1, xjt_2, xjt_3, xjt_4, xjt_5, xjt_6, xjt_7, xjt_8, xjt_9, xjt_10, xjt_11, xjt_12, xjt_13, xjt_14, xjt_16, xjt_20, xjt_24, xjt_31, xjt_32, xjt_40, xjt_44, xjt_47, xjt_48, xjt_57, xjt_59, xjt_60, xjt_63, xjt_64, xjt_65, xjt_72, xjt_95, xjt_99, xjt_100, xjt_101, xjt_103, xjt_110, xjt_112, xjt_113, xjt_114, xjt_119, xjt_126, xjt_159, xjt_576, xjt_999, xjt_9999, xjt_65536, xjt_999999, xt64, xt_n, not_true_eq_false, not_false_eq_true, Classical.not_not] at c_94
            all_goals omega
          · skip
            refine xw_go xb_159 4 (f1 := (103, [.ref 60, .int (nI m), .int y, .int (nI (3 ^ N 2)), .int (-4), .int 0, .int 0, .int (nI 0), .int ((nI (3 ^ (N 2 - p))) / 3), .int (nI (xtg p (0 / 3 ^ (N 2 - p)))), .int (nI p), .float 0], [])) (h1 := (xS b, K, L, xP b)) rfl ⟨(by decide), trivial⟩ ?_
            refine xw_cong (l' := [.ref 60, .int (nI m), .int y, .int (nI (3 ^ N 2)), .int (-4), .int 0, .int 0, .int (nI 0), .int (nI (3 ^ (N 2 - (p + 1)))), .int (nI (xtg p (0 / 3 ^ (N 2 - p)))), .int (nI p), .float 0]) (st' := []) (h' := (xS b, K, L, xP b)) (show ([.ref 60, .int (nI m), .int y, .int (nI (3 ^ N 2)), .int (-4), .int 0, .int 0, .int (nI 0), .int ((nI (3 ^ (N 2 - p))) / 3), .int (nI (xtg p (0 / 3 ^ (N 2 - p)))), .int (nI p), .float 0] : List Value) = [.ref 60, .int (nI m), .int y, .int (nI (3 ^ N 2)), .int (-4), .int 0, .int 0, .int (nI 0), .int (nI (3 ^ (N 2 - (p + 1)))), .int (nI (xtg p (0 / 3 ^ (N 2 - p)))), .int (nI p), .float 0] from ?_) rfl rfl ?_
            · rw [e3, xl_3, xn_div (by omega) (by omega) (by omega), Nat.mul_div_cancel _ (by decide)]
            refine xw_go xb_159 6 (f1 := (112, [.ref 60, .int (nI m), .int y, .int (nI (3 ^ N 2)), .int (-4), .int 0, .int 0, .int (nI 0), .int (nI (3 ^ (N 2 - (p + 1)))), .int (nI (xtg p (0 / 3 ^ (N 2 - p)))), .int (nI p), .int (((nI 0) / (nI (3 ^ (N 2 - (p + 1))))) - ((nI 0) / (nI (3 ^ (N 2 - (p + 1))))) / 3 * 3)], [])) (h1 := (xS b, K, L, xP b)) rfl ⟨(xn_ne (by omega) hl0), (by decide), trivial⟩ ?_
            refine xw_cong (l' := [.ref 60, .int (nI m), .int y, .int (nI (3 ^ N 2)), .int (-4), .int 0, .int 0, .int (nI 0), .int (nI (3 ^ (N 2 - (p + 1)))), .int (nI (xtg p (0 / 3 ^ (N 2 - p)))), .int (nI p), .int (nI ((0 / 3 ^ (N 2 - (p + 1))) % 3))]) (st' := []) (h' := (xS b, K, L, xP b)) (show ([.ref 60, .int (nI m), .int y, .int (nI (3 ^ N 2)), .int (-4), .int 0, .int 0, .int (nI 0), .int (nI (3 ^ (N 2 - (p + 1)))), .int (nI (xtg p (0 / 3 ^ (N 2 - p)))), .int (nI p), .int (((nI 0) / (nI (3 ^ (N 2 - (p + 1))))) - ((nI 0) / (nI (3 ^ (N 2 - (p + 1))))) / 3 * 3)] : List Value) = [.ref 60, .int (nI m), .int y, .int (nI (3 ^ N 2)), .int (-4), .int 0, .int 0, .int (nI 0), .int (nI (3 ^ (N 2 - (p + 1)))), .int (nI (xtg p (0 / 3 ^ (N 2 - p)))), .int (nI p), .int (nI ((0 / 3 ^ (N 2 - (p + 1))) % 3))] from ?_) rfl rfl ?_
            · rw [xn_div (by omega) (by omega) (by omega), xl_3, xn_rem (by omega) (by omega) (by omega)]
            refine xw_go xb_159 12 (f1 := (130, [.ref 60, .int (nI m), .int y, .int (nI (3 ^ N 2)), .int (-4), .int 0, .int 0, .int (nI 0), .int (nI (3 ^ (N 2 - (p + 1)))), .int ((nI (xtg p (0 / 3 ^ (N 2 - p)))) + (nI ((0 / 3 ^ (N 2 - (p + 1))) % 3))), .int (nI p), .int (nI ((0 / 3 ^ (N 2 - (p + 1))) % 3))], [.int (K 61 (5 : Int32).toNatClampNeg), .int (1 <<< ((nI p) &&& 31)), .ref 60])) (h1 := (xS b, K, L, xP b)) rfl ⟨rfl, (xn_ar (n := 5) (N := 159) rfl (by decide) (by decide)), trivial⟩ ?_
            refine xw_call xb_159 rfl rfl rfl rfl rfl (Or.inr ⟨_, _, rfl, rfl⟩) (m_rains (I := K) k5 ok (o := 2 ^ p) (wi := N 5) p32 (by omega) (xsh p (by omega)) kw) ?_
            rintro _ _ ⟨rfl, X, rfl, hX⟩
            refine xw_at (f' := (133, [.ref 60, .int (nI m), .int y, .int (nI (3 ^ N 2)), .int (-4), .int 0, .int 0, .int (nI 0), .int (nI (3 ^ (N 2 - (p + 1)))), .int ((nI (xtg p (0 / 3 ^ (N 2 - p)))) + (nI ((0 / 3 ^ (N 2 - (p + 1))) % 3))), .int (nI p), .int (nI ((0 / 3 ^ (N 2 - (p + 1))) % 3))], [])) (h' := (xS b, va_up K 62 X, L, xP b)) rfl rfl ?_
            refine xw_go xb_159 4 (f1 := (138, [.ref 60, .int (nI m), .int y, .int (nI (3 ^ N 2)), .int (-4), .int 0, .int 0, .int (nI 0), .int (nI (3 ^ (N 2 - (p + 1)))), .int ((nI (xtg p (0 / 3 ^ (N 2 - p)))) + (nI ((0 / 3 ^ (N 2 - (p + 1))) % 3))), .int (nI p), .int (nI ((0 / 3 ^ (N 2 - (p + 1))) % 3))], [.int ((nI ((0 / 3 ^ (N 2 - (p + 1))) % 3)) * (nI m)), .ref 60])) (h1 := (xS b, va_up K 62 X, L, xP b)) rfl trivial ?_
            refine xw_call xb_159 rfl rfl rfl rfl rfl (Or.inr ⟨_, _, rfl, rfl⟩) (m_goesOn (I := (va_up K 62 X)) (N := xpw N m p ((0 / 3 ^ (N 2 - (p + 1))) / 3)) k5 ok (fv := xfa N (2 ^ p) (N 5)) (fun j hj => by rw [← xfa_pw (m := m) (s := p) (q := (0 / 3 ^ (N 2 - (p + 1))) / 3) hO]; exact hX j hj) (fun j hj => by have := xfa_le hO (2 ^ p) (N 5) j; omega) (n := (0 / 3 ^ (N 2 - (p + 1))) % 3 * m) (by omega) (pk_mul _ _)) ?_
            rintro _ _ ⟨rfl, X1, Y1, rfl, hY⟩
            refine xw_at (f' := (141, [.ref 60, .int (nI m), .int y, .int (nI (3 ^ N 2)), .int (-4), .int 0, .int 0, .int (nI 0), .int (nI (3 ^ (N 2 - (p + 1)))), .int ((nI (xtg p (0 / 3 ^ (N 2 - p)))) + (nI ((0 / 3 ^ (N 2 - (p + 1))) % 3))), .int (nI p), .int (nI ((0 / 3 ^ (N 2 - (p + 1))) % 3))], [])) (h' := (xS b, va_up (va_up (va_up K 62 X) 63 X1) 61 Y1, L, xP b)) rfl rfl ?_
            refine xw_go xb_159 2 (f1 := (86, [.ref 60, .int (nI m), .int y, .int (nI (3 ^ N 2)), .int (-4), .int 0, .int 0, .int (nI 0), .int (nI (3 ^ (N 2 - (p + 1)))), .int ((nI (xtg p (0 / 3 ^ (N 2 - p)))) + (nI ((0 / 3 ^ (N 2 - (p + 1))) % 3))), .int ((nI p) + 1), .int (nI ((0 / 3 ^ (N 2 - (p + 1))) % 3))], [])) (h1 := (xS b, va_up (va_up (va_up K 62 X) 63 X1) 61 Y1, L, xP b)) rfl trivial ?_
            refine xw_fg (l0 := [.ref 60, .int (nI m), .int y, .int (nI (3 ^ N 2)), .int (-4), .int 0, .int 0, .int (nI 0), .int (nI (3 ^ (N 2 - (p + 1)))), .int ((nI (xtg p (0 / 3 ^ (N 2 - p)))) + (nI ((0 / 3 ^ (N 2 - (p + 1))) % 3))), .int ((nI p) + 1), .float 0]) ⟨Or.inr rfl, Or.inr rfl, Or.inr rfl, Or.inr rfl, Or.inr rfl, Or.inr rfl, Or.inr rfl, Or.inr rfl, Or.inr rfl, Or.inr rfl, Or.inr rfl, Or.inl rfl, trivial⟩ ?_
            refine xw_cong ?_ rfl rfl (ih _ ⟨_, rfl, xMF_v (xMF_v (xMF_v k1 (by decide)) (by decide)) (by decide), k2, k3, k4, fun k hk => hY k hk⟩)
            rw [nI_1, eq, nI_add]
            rfl
        · obtain ⟨K, rfl, k1, k2, k3, k4, k5⟩ := hV
          have e0 : 0 / 3 ^ (N 2 - N 2) = 0 := by rw [Nat.sub_self, Nat.pow_zero, Nat.div_one]
          rw [e0] at k5
          have ok := xpw_ok hO hK.2.1 hm.2 (N 2) 0 (by omega)
          have own := xwc_le ok
          have tg := xtg_le (N 2) 0
          refine xw_at (f' := (86, [.ref 60, .int (nI m), .int y, .int (nI (3 ^ N 2)), .int (-4), .int 0, .int 0, .int (nI 0), .int (nI (3 ^ (N 2 - N 2))), .int (nI (xtg (N 2) 0)), .int (nI (N 2)), .float 0], [])) (h' := (xS b, K, L, xP b)) (by rw [e0]) rfl ?_
          refine xw_go xb_159 5 (f1 := (94, [.ref 60, .int (nI m), .int y, .int (nI (3 ^ N 2)), .int (-4), .int 0, .int 0, .int (nI 0), .int (nI (3 ^ (N 2 - N 2))), .int (nI (xtg (N 2) 0)), .int (nI (N 2)), .float 0], [.int (K 61 (2 : Int32).toNatClampNeg), .int (nI (N 2))])) (h1 := (xS b, K, L, xP b)) rfl ⟨rfl, (xn_ar (n := 2) (N := 159) rfl (by decide) (by decide)), trivial⟩ ?_
          refine xw_cong (l' := [.ref 60, .int (nI m), .int y, .int (nI (3 ^ N 2)), .int (-4), .int 0, .int 0, .int (nI 0), .int (nI (3 ^ (N 2 - N 2))), .int (nI (xtg (N 2) 0)), .int (nI (N 2)), .float 0]) (st' := [.int (nI (N 2)), .int (nI (N 2))]) (h' := (xS b, K, L, xP b)) rfl (show ([.int (K 61 (2 : Int32).toNatClampNeg), .int (nI (N 2))] : List Value) = [.int (nI (N 2)), .int (nI (N 2))] from ?_) rfl ?_
          · rw [show (2 : Int32).toNatClampNeg = 2 from rfl, k5 2 (by decide), xpw_lo (k := 2) (by decide) (by decide) (by decide)]
          refine xw_go xb_159 1 (f1 := (if (nI (N 2)) ≤ (nI (N 2)) then 147 else 97, [.ref 60, .int (nI m), .int y, .int (nI (3 ^ N 2)), .int (-4), .int 0, .int 0, .int (nI 0), .int (nI (3 ^ (N 2 - N 2))), .int (nI (xtg (N 2) 0)), .int (nI (N 2)), .float 0], [])) (h1 := (xS b, K, L, xP b)) rfl trivial ?_
          refine xw_if (fun c_94 => ?_) (fun c_94 => ?_)
          · skip
            refine xw_go xb_159 1 (f1 := (148, [.ref 60, .int (nI m), .int y, .int (nI (3 ^ N 2)), .int (-4), .int 0, .int 0, .int (nI 0), .int (nI (3 ^ (N 2 - N 2))), .int (nI (xtg (N 2) 0)), .int (nI (N 2)), .float 0], [.ref 60])) (h1 := (xS b, K, L, xP b)) rfl trivial ?_
            refine xw_call xb_159 rfl rfl rfl rfl rfl (Or.inr ⟨_, _, rfl, rfl⟩) (m_wrongOnes (I := K) k5 ok) ?_
            rintro _ _ ⟨rfl, rfl⟩
            refine xw_at (f' := (151, [.ref 60, .int (nI m), .int y, .int (nI (3 ^ N 2)), .int (-4), .int 0, .int 0, .int (nI 0), .int (nI (3 ^ (N 2 - N 2))), .int (nI (xtg (N 2) 0)), .int (nI (N 2)), .float 0], [.int (nI (xwc (xpw N m (N 2) 0)))])) (h' := (xS b, K, L, xP b)) rfl rfl ?_
            refine xw_go xb_159 2 (f1 := (154, [.ref 60, .int (nI m), .int y, .int (nI (3 ^ N 2)), .int (-4), .int 0, .int 0, .int (nI 0), .int (nI (3 ^ (N 2 - N 2))), .int (nI (xtg (N 2) 0)), .int (nI (xwc (xpw N m (N 2) 0))), .float 0], [.ref 60])) (h1 := (xS b, K, L, xP b)) rfl trivial ?_
            refine xw_call xb_159 rfl rfl rfl rfl rfl (Or.inr ⟨_, _, rfl, rfl⟩) (m_backs (I := K)) ?_
            rintro _ _ ⟨rfl, rfl⟩
            refine xw_at (f' := (157, [.ref 60, .int (nI m), .int y, .int (nI (3 ^ N 2)), .int (-4), .int 0, .int 0, .int (nI 0), .int (nI (3 ^ (N 2 - N 2))), .int (nI (xtg (N 2) 0)), .int (nI (xwc (xpw N m (N 2) 0))), .float 0], [])) (h' := (xS b, va_up K 61 (xfil 159 (K 68) (K 61)), L, xP b)) rfl rfl ?_
            have g5 : xMN N (va_up K 61 (xfil 159 (K 68) (K 61))) := fun k hk => by
              rw [show ∀ (f : Nat → Nat → Int32) (g : Nat → Int32), va_up f 61 g 61 = g from fun f g => by simp [va_up], k2]
              unfold xfil
              rw [if_pos hk, if_pos hk]
              exact hM.1 k hk
            refine xw_go xb_159 23 (f1 := (71, [.ref 60, .int (nI m), .int y, .int (nI (3 ^ N 2)), .int (nI (xwc (xpw N m (N 2) 0))), .int (nI (xtg (N 2) 0)), .int (nI 0), .int ((nI 0) + 1), .int (nI (3 ^ (N 2 - N 2))), .int (nI (xtg (N 2) 0)), .int (nI (xwc (xpw N m (N 2) 0))), .int 1], [])) (h1 := (xS b, va_up K 61 (xfil 159 (K 68) (K 61)), L, xP b)) rfl trivial ?_
            refine xw_fg (l0 := [.ref 60, .int (nI m), .int y, .int (nI (3 ^ N 2)), .int (nI (xwc (xpw N m (N 2) 0))), .int (nI (xtg (N 2) 0)), .int (nI 0), .int ((nI 0) + 1), .float 0, .float 0, .float 0, .float 0]) ⟨Or.inr rfl, Or.inr rfl, Or.inr rfl, Or.inr rfl, Or.inr rfl, Or.inr rfl, Or.inr rfl, Or.inr rfl, Or.inl rfl, Or.inl rfl, Or.inl rfl, Or.inl rfl, trivial⟩ ?_
            have e65 : (xtb N m (N 2) 0).1 = 65 := rfl
            have hy := xtb_y (N := N) (m := m) (n := N 2) (w := 0) (Or.inl (by omega))
            refine xw_cong ?_ rfl rfl (LOOP _ ⟨by omega, _, rfl, xMF_v k1 (by decide), k2, k3, k4, g5⟩)
            rw [hy]
            rfl
          · skip
            exfalso
            try simp only [xB_dec, Classical.not_not] at c_94
            try simp (disch := omega) only [xt_eq, xt_lt, xt_le, xkt_0, xkt_1, xkt_2, xkt_3, xkt_4, xkt_5, xkt_6, xkt_7, xkt_8, xkt_9, xkt_10, xkt_11, xkt_12, xkt_13, xkt_14, xkt_16, xkt_20, xkt_24, xkt_31, xkt_32, xkt_40, xkt_44, xkt_47, xkt_48, xkt_57, xkt_59, xkt_60, xkt_63, xkt_64, xkt_65, xkt_72, xkt_95, xkt_99, xkt_100, xkt_101, xkt_103, xkt_110, xkt_112, xkt_113, xkt_114, xkt_119, xkt_126, xkt_159, xkt_576, xkt_999, xkt_9999, xkt_65536, xkt_999999, xkt_m1, xkt_m2, xkt_m3, xkt_m4, xkt_m11, xkt_m12, xkt_m13, xkt_m14, xkt_m20, xjt_0, xjt_1, xjt_2, xjt_3, xjt_4, xjt_5, xjt_6, xjt_7, xjt_8, xjt_9, xjt_10, xjt_11, xjt_12, xjt_13, xjt_14, xjt_16, xjt_20, xjt_24, xjt_31, xjt_32, xjt_40, xjt_44, xjt_47, xjt_48, xjt_57, xjt_59, xjt_60, xjt_63, xjt_64, xjt_65, xjt_72, xjt_95, xjt_99, xjt_100, xjt_101, xjt_103, xjt_110, xjt_112, xjt_113, xjt_114, xjt_119, xjt_126, xjt_159, xjt_576, xjt_999, xjt_9999, xjt_65536, xjt_999999, xt64, xt_n, not_true_eq_false, not_false_eq_true, Classical.not_not] at c_94
            all_goals omega
    · skip
      exfalso
      try simp only [xB_dec, Classical.not_not] at c_41
      try simp (disch := omega) only [xt_eq, xt_lt, xt_le, xkt_0, xkt_1, xkt_2, xkt_3, xkt_4, xkt_5, xkt_6, xkt_7, xkt_8, xkt_9, xkt_10, xkt_11, xkt_12, xkt_13, xkt_14, xkt_16, xkt_20, xkt_24, xkt_31, xkt_32, xkt_40, xkt_44, xkt_47, xkt_48, xkt_57, xkt_59, xkt_60, xkt_63, xkt_64, xkt_65, xkt_72, xkt_95, xkt_99, xkt_100, xkt_101, xkt_103, xkt_110, xkt_112, xkt_113, xkt_114, xkt_119, xkt_126, xkt_159, xkt_576, xkt_999, xkt_9999, xkt_65536, xkt_999999, xkt_m1, xkt_m2, xkt_m3, xkt_m4, xkt_m11, xkt_m12, xkt_m13, xkt_m14, xkt_m20, xjt_0, xjt_1, xjt_2, xjt_3, xjt_4, xjt_5, xjt_6, xjt_7, xjt_8, xjt_9, xjt_10, xjt_11, xjt_12, xjt_13, xjt_14, xjt_16, xjt_20, xjt_24, xjt_31, xjt_32, xjt_40, xjt_44, xjt_47, xjt_48, xjt_57, xjt_59, xjt_60, xjt_63, xjt_64, xjt_65, xjt_72, xjt_95, xjt_99, xjt_100, xjt_101, xjt_103, xjt_110, xjt_112, xjt_113, xjt_114, xjt_119, xjt_126, xjt_159, xjt_576, xjt_999, xjt_9999, xjt_65536, xjt_999999, xt64, xt_n, not_true_eq_false, not_false_eq_true, Classical.not_not] at c_41
      all_goals omega
theorem m_turns1 {d : Nat} {b : Bool} {I : Nat → Nat → Int32} {L : Nat → Nat → Int64} {N : Nat → Nat} {u : Nat} {U : Nat → Nat → Nat} (hM : xML N u U I) (hK : xUK N u U) {m : Nat} (hm : 1 ≤ m ∧ m ≤ 20) {x : Int32} (e_x : x = nI m) : xm_Z (d + 12) 159 [.ref 60, .int x, .int (-4)] (xS b, I, L, xP b) (fun rz hz => xQM b I L (nI (xtb N m (N 2) (3 ^ N 2)).1) N u U rz hz) := by
  subst e_x
  have hO := hK.1
  have hb := hK.1.1
  have c64 : N 0 * N 1 ≤ 64 := xce_le hO
  have c4 : 4 ≤ N 0 * N 1 := xce_ge hO
  refine xw_S xb_159 (l := [.ref 60, .int (nI m), .int (-4), .float 0, .float 0, .float 0, .float 0, .float 0, .float 0, .float 0, .float 0, .float 0]) (Nat.le_of_ble_eq_true rfl) rfl ?_
  refine xw_go xb_159 4 (f1 := (6, [.ref 60, .int (nI m), .int (-4), .float 0, .float 0, .float 0, .float 0, .float 0, .float 0, .float 0, .float 0, .float 0], [.long 20, .long 1, .long ((nI m).toInt64)])) (h1 := (xS b, I, L, xP b)) rfl trivial ?_
  refine xw_call xb_159 rfl rfl rfl rfl rfl (Or.inl rfl) m_in ?_
  rintro _ _ ⟨rfl, rfl⟩
  refine xw_at (f' := (9, [.ref 60, .int (nI m), .int (-4), .float 0, .float 0, .float 0, .float 0, .float 0, .float 0, .float 0, .float 0, .float 0], [.int (nI (xB (decide ((1 : Int64).toInt ≤ (nI m).toInt64.toInt ∧ (nI m).toInt64.toInt ≤ (20 : Int64).toInt))))])) (h' := (xS b, I, L, xP b)) rfl rfl ?_
  refine xw_go xb_159 1 (f1 := (if (nI (xB (decide ((1 : Int64).toInt ≤ (nI m).toInt64.toInt ∧ (nI m).toInt64.toInt ≤ (20 : Int64).toInt)))) = 0 then 26 else 12, [.ref 60, .int (nI m), .int (-4), .float 0, .float 0, .float 0, .float 0, .float 0, .float 0, .float 0, .float 0, .float 0], [])) (h1 := (xS b, I, L, xP b)) rfl trivial ?_
  refine xw_if (fun c_9 => ?_) (fun c_9 => ?_)
  · skip
    exfalso
    try simp only [xB_dec, Classical.not_not] at c_9
    try simp (disch := omega) only [xt_eq, xt_lt, xt_le, xkt_0, xkt_1, xkt_2, xkt_3, xkt_4, xkt_5, xkt_6, xkt_7, xkt_8, xkt_9, xkt_10, xkt_11, xkt_12, xkt_13, xkt_14, xkt_16, xkt_20, xkt_24, xkt_31, xkt_32, xkt_40, xkt_44, xkt_47, xkt_48, xkt_57, xkt_59, xkt_60, xkt_63, xkt_64, xkt_65, xkt_72, xkt_95, xkt_99, xkt_100, xkt_101, xkt_103, xkt_110, xkt_112, xkt_113, xkt_114, xkt_119, xkt_126, xkt_159, xkt_576, xkt_999, xkt_9999, xkt_65536, xkt_999999, xkt_m1, xkt_m2, xkt_m3, xkt_m4, xkt_m11, xkt_m12, xkt_m13, xkt_m14, xkt_m20, xjt_0, xjt_1, xjt_2, xjt_3, xjt_4, xjt_5, xjt_6, xjt_7, xjt_8, xjt_9, xjt_10, xjt_11, xjt_12, xjt_13, xjt_14, xjt_16, xjt_20, xjt_24, xjt_31, xjt_32, xjt_40, xjt_44, xjt_47, xjt_48, xjt_57, xjt_59, xjt_60, xjt_63, xjt_64, xjt_65, xjt_72, xjt_95, xjt_99, xjt_100, xjt_101, xjt_103, xjt_110, xjt_112, xjt_113, xjt_114, xjt_119, xjt_126, xjt_159, xjt_576, xjt_999, xjt_9999, xjt_65536, xjt_999999, xt64, xt_n, not_true_eq_false, not_false_eq_true, Classical.not_not] at c_9
    all_goals omega
  · skip
    refine xw_go xb_159 3 (f1 := (28, [.ref 60, .int (nI m), .int (-4), .float 0, .float 0, .float 0, .float 0, .float 0, .float 0, .float 0, .float 0, .float 0], [])) (h1 := (xS b, I, L, xP b)) rfl trivial ?_
    refine m_ways hM hK hm fun J j1 j2 j3 j4 j5 => ?_
    refine xw_go xb_159 4 (f1 := (248, [.ref 60, .int (nI m), .int (-4), .int (nI (3 ^ N 2)), .int (nI (xtb N m (N 2) (3 ^ N 2)).1), .int (nI (xtb N m (N 2) (3 ^ N 2)).2.1), .int (nI (xtb N m (N 2) (3 ^ N 2)).2.2), .int (nI (3 ^ N 2)), .float 0, .float 0, .float 0, .float 0], [.int (nI (xtb N m (N 2) (3 ^ N 2)).1)])) (h1 := (xS b, J, L, xP b)) rfl trivial ?_
    refine xw_ret xb_159 rfl rfl trivial ?_
    exact ⟨rfl, J, rfl, j1, xML_N hM j5 (by rw [j4]) j3⟩

theorem m_turns2 {d : Nat} {b : Bool} {I : Nat → Nat → Int32} {L : Nat → Nat → Int64} {N : Nat → Nat} {u : Nat} {U : Nat → Nat → Nat} (hM : xML N u U I) (hK : xUK N u U) {m i : Nat} (hm : 1 ≤ m ∧ m ≤ 20) (hi : i < N 2) {x : Int32} (e_x : x = nI m) {y : Int32} (e_y : y = nI i) : xm_Z (d + 12) 159 [.ref 60, .int x, .int y] (xS b, I, L, xP b) (fun rz hz => xQM b I L (nI (m * ((xtb N m (N 2) (3 ^ N 2)).2.2 / 3 ^ (N 2 - 1 - i) % 3))) N u U rz hz) := by
  subst e_x
  subst e_y
  have hO := hK.1
  have hb := hK.1.1
  have c64 : N 0 * N 1 ≤ 64 := xce_le hO
  have c4 : 4 ≤ N 0 * N 1 := xce_ge hO
  obtain ⟨t1, t2, t3⟩ := xtb_le (N := N) (m := m) (n := N 2) hO hK.2.1 hm.2 (by omega) (3 ^ N 2)
  have w243 := xp243 hb.2.2.2.2.1
  refine xw_S xb_159 (l := [.ref 60, .int (nI m), .int (nI i), .float 0, .float 0, .float 0, .float 0, .float 0, .float 0, .float 0, .float 0, .float 0]) (Nat.le_of_ble_eq_true rfl) rfl ?_
  refine xw_go xb_159 4 (f1 := (6, [.ref 60, .int (nI m), .int (nI i), .float 0, .float 0, .float 0, .float 0, .float 0, .float 0, .float 0, .float 0, .float 0], [.long 20, .long 1, .long ((nI m).toInt64)])) (h1 := (xS b, I, L, xP b)) rfl trivial ?_
  refine xw_call xb_159 rfl rfl rfl rfl rfl (Or.inl rfl) m_in ?_
  rintro _ _ ⟨rfl, rfl⟩
  refine xw_at (f' := (9, [.ref 60, .int (nI m), .int (nI i), .float 0, .float 0, .float 0, .float 0, .float 0, .float 0, .float 0, .float 0, .float 0], [.int (nI (xB (decide ((1 : Int64).toInt ≤ (nI m).toInt64.toInt ∧ (nI m).toInt64.toInt ≤ (20 : Int64).toInt))))])) (h' := (xS b, I, L, xP b)) rfl rfl ?_
  refine xw_go xb_159 1 (f1 := (if (nI (xB (decide ((1 : Int64).toInt ≤ (nI m).toInt64.toInt ∧ (nI m).toInt64.toInt ≤ (20 : Int64).toInt)))) = 0 then 26 else 12, [.ref 60, .int (nI m), .int (nI i), .float 0, .float 0, .float 0, .float 0, .float 0, .float 0, .float 0, .float 0, .float 0], [])) (h1 := (xS b, I, L, xP b)) rfl trivial ?_
  refine xw_if (fun c_9 => ?_) (fun c_9 => ?_)
  · skip
    exfalso
    try simp only [xB_dec, Classical.not_not] at c_9
    try simp (disch := omega) only [xt_eq, xt_lt, xt_le, xkt_0, xkt_1, xkt_2, xkt_3, xkt_4, xkt_5, xkt_6, xkt_7, xkt_8, xkt_9, xkt_10, xkt_11, xkt_12, xkt_13, xkt_14, xkt_16, xkt_20, xkt_24, xkt_31, xkt_32, xkt_40, xkt_44, xkt_47, xkt_48, xkt_57, xkt_59, xkt_60, xkt_63, xkt_64, xkt_65, xkt_72, xkt_95, xkt_99, xkt_100, xkt_101, xkt_103, xkt_110, xkt_112, xkt_113, xkt_114, xkt_119, xkt_126, xkt_159, xkt_576, xkt_999, xkt_9999, xkt_65536, xkt_999999, xkt_m1, xkt_m2, xkt_m3, xkt_m4, xkt_m11, xkt_m12, xkt_m13, xkt_m14, xkt_m20, xjt_0, xjt_1, xjt_2, xjt_3, xjt_4, xjt_5, xjt_6, xjt_7, xjt_8, xjt_9, xjt_10, xjt_11, xjt_12, xjt_13, xjt_14, xjt_16, xjt_20, xjt_24, xjt_31, xjt_32, xjt_40, xjt_44, xjt_47, xjt_48, xjt_57, xjt_59, xjt_60, xjt_63, xjt_64, xjt_65, xjt_72, xjt_95, xjt_99, xjt_100, xjt_101, xjt_103, xjt_110, xjt_112, xjt_113, xjt_114, xjt_119, xjt_126, xjt_159, xjt_576, xjt_999, xjt_9999, xjt_65536, xjt_999999, xt64, xt_n, not_true_eq_false, not_false_eq_true, Classical.not_not] at c_9
    all_goals omega
  · skip
    refine xw_go xb_159 3 (f1 := (if (nI i) = (-4) then 28 else 18, [.ref 60, .int (nI m), .int (nI i), .float 0, .float 0, .float 0, .float 0, .float 0, .float 0, .float 0, .float 0, .float 0], [])) (h1 := (xS b, I, L, xP b)) rfl trivial ?_
    refine xw_if (fun c_15 => ?_) (fun c_15 => ?_)
    · skip
      refine m_ways hM hK hm fun J j1 j2 j3 j4 j5 => ?_
      refine xw_go xb_159 3 (f1 := (if ¬ (nI i) = (-4) then 249 else 246, [.ref 60, .int (nI m), .int (nI i), .int (nI (3 ^ N 2)), .int (nI (xtb N m (N 2) (3 ^ N 2)).1), .int (nI (xtb N m (N 2) (3 ^ N 2)).2.1), .int (nI (xtb N m (N 2) (3 ^ N 2)).2.2), .int (nI (3 ^ N 2)), .float 0, .float 0, .float 0, .float 0], [])) (h1 := (xS b, J, L, xP b)) rfl trivial ?_
      refine xw_if (fun c_243 => ?_) (fun c_243 => ?_)
      · skip
        refine xw_go xb_159 9 (f1 := (262, [.ref 60, .int (nI m), .int (nI i), .int (nI (3 ^ N 2)), .int (nI (xtb N m (N 2) (3 ^ N 2)).1), .int (nI (xtb N m (N 2) (3 ^ N 2)).2.1), .int (nI (xtb N m (N 2) (3 ^ N 2)).2.2), .int 1, .int ((J 61 (2 : Int32).toNatClampNeg) - 1), .float 0, .float 0, .float 0], [])) (h1 := (xS b, J, L, xP b)) rfl ⟨rfl, (xn_ar (n := 2) (N := 159) rfl (by decide) (by decide)), trivial⟩ ?_
        refine xw_at (f' := (262, [.ref 60, .int (nI m), .int (nI i), .int (nI (3 ^ N 2)), .int (nI (xtb N m (N 2) (3 ^ N 2)).1), .int (nI (xtb N m (N 2) (3 ^ N 2)).2.1), .int (nI (xtb N m (N 2) (3 ^ N 2)).2.2), .int (nI (3 ^ 0)), .int (nI (N 2 - 1 - 0)), .float 0, .float 0, .float 0], [])) (h' := (xS b, J, L, xP b)) ?_ rfl ?_
        · rw [show (2 : Int32).toNatClampNeg = 2 from rfl, j5 2 (by decide), xl_1, xn_sub (by omega)]
          rfl
        refine xw_loop (N 2 - 1 - i) (fun k => (262, [.ref 60, .int (nI m), .int (nI i), .int (nI (3 ^ N 2)), .int (nI (xtb N m (N 2) (3 ^ N 2)).1), .int (nI (xtb N m (N 2) (3 ^ N 2)).2.1), .int (nI (xtb N m (N 2) (3 ^ N 2)).2.2), .int (nI (3 ^ k)), .int (nI (N 2 - 1 - k)), .float 0, .float 0, .float 0], [])) (fun k => (xS b, J, L, xP b)) (fun k hk ih => ?_) ?_ 0 (Nat.zero_le _)
        · have e3 : 3 ^ (k + 1) = 3 ^ k * 3 := Nat.pow_succ _ _
          refine xw_go xb_159 3 (f1 := (if (nI (N 2 - 1 - k)) ≤ (nI i) then 280 else 268, [.ref 60, .int (nI m), .int (nI i), .int (nI (3 ^ N 2)), .int (nI (xtb N m (N 2) (3 ^ N 2)).1), .int (nI (xtb N m (N 2) (3 ^ N 2)).2.1), .int (nI (xtb N m (N 2) (3 ^ N 2)).2.2), .int (nI (3 ^ k)), .int (nI (N 2 - 1 - k)), .float 0, .float 0, .float 0], [])) (h1 := (xS b, J, L, xP b)) rfl trivial ?_
          refine xw_if (fun c_265 => ?_) (fun c_265 => ?_)
          · skip
            exfalso
            try simp only [xB_dec, Classical.not_not] at c_265
            try simp (disch := omega) only [xt_eq, xt_lt, xt_le, xkt_0, xkt_1, xkt_2, xkt_3, xkt_4, xkt_5, xkt_6, xkt_7, xkt_8, xkt_9, xkt_10, xkt_11, xkt_12, xkt_13, xkt_14, xkt_16, xkt_20, xkt_24, xkt_31, xkt_32, xkt_40, xkt_44, xkt_47, xkt_48, xkt_57, xkt_59, xkt_60, xkt_63, xkt_64, xkt_65, xkt_72, xkt_95, xkt_99, xkt_100, xkt_101, xkt_103, xkt_110, xkt_112, xkt_113, xkt_114, xkt_119, xkt_126, xkt_159, xkt_576, xkt_999, xkt_9999, xkt_65536, xkt_999999, xkt_m1, xkt_m2, xkt_m3, xkt_m4, xkt_m11, xkt_m12, xkt_m13, xkt_m14, xkt_m20, xjt_0, xjt_1, xjt_2, xjt_3, xjt_4, xjt_5, xjt_6, xjt_7, xjt_8, xjt_9, xjt_10, xjt_11, xjt_12, xjt_13, xjt_14, xjt_16, xjt_20, xjt_24, xjt_31, xjt_32, xjt_40, xjt_44, xjt_47, xjt_48, xjt_57, xjt_59, xjt_60, xjt_63, xjt_64, xjt_65, xjt_72, xjt_95, xjt_99, xjt_100, xjt_101, xjt_103, xjt_110, xjt_112, xjt_113, xjt_114, xjt_119, xjt_126, xjt_159, xjt_576, xjt_999, xjt_9999, xjt_65536, xjt_999999, xt64, xt_n, not_true_eq_false, not_false_eq_true, Classical.not_not] at c_265
            all_goals omega
          · skip
            refine xw_go xb_159 6 (f1 := (262, [.ref 60, .int (nI m), .int (nI i), .int (nI (3 ^ N 2)), .int (nI (xtb N m (N 2) (3 ^ N 2)).1), .int (nI (xtb N m (N 2) (3 ^ N 2)).2.1), .int (nI (xtb N m (N 2) (3 ^ N 2)).2.2), .int ((nI (3 ^ k)) * 3), .int ((nI (N 2 - 1 - k)) + (-1)), .float 0, .float 0, .float 0], [])) (h1 := (xS b, J, L, xP b)) rfl trivial ?_
            refine xw_cong ?_ rfl rfl ih
            rw [xl_3, pk_mul, e3, show N 2 - 1 - k = (N 2 - 1 - (k + 1)) + 1 by omega, xn_dec]
        · have hl : 3 ^ (N 2 - 1 - i) ≤ 243 := xp243 (by omega)
          have hl0 := xp3 (N 2 - 1 - i)
          refine xw_go xb_159 3 (f1 := (if (nI (N 2 - 1 - (N 2 - 1 - i))) ≤ (nI i) then 280 else 268, [.ref 60, .int (nI m), .int (nI i), .int (nI (3 ^ N 2)), .int (nI (xtb N m (N 2) (3 ^ N 2)).1), .int (nI (xtb N m (N 2) (3 ^ N 2)).2.1), .int (nI (xtb N m (N 2) (3 ^ N 2)).2.2), .int (nI (3 ^ (N 2 - 1 - i))), .int (nI (N 2 - 1 - (N 2 - 1 - i))), .float 0, .float 0, .float 0], [])) (h1 := (xS b, J, L, xP b)) rfl trivial ?_
          refine xw_if (fun c_265 => ?_) (fun c_265 => ?_)
          · skip
            refine xw_go xb_159 7 (f1 := (289, [.ref 60, .int (nI m), .int (nI i), .int (nI (3 ^ N 2)), .int (nI (xtb N m (N 2) (3 ^ N 2)).1), .int (nI (xtb N m (N 2) (3 ^ N 2)).2.1), .int (nI (xtb N m (N 2) (3 ^ N 2)).2.2), .int (nI (3 ^ (N 2 - 1 - i))), .int (nI (N 2 - 1 - (N 2 - 1 - i))), .float 0, .float 0, .float 0], [.int ((nI m) * (((nI (xtb N m (N 2) (3 ^ N 2)).2.2) / (nI (3 ^ (N 2 - 1 - i)))) - ((nI (xtb N m (N 2) (3 ^ N 2)).2.2) / (nI (3 ^ (N 2 - 1 - i)))) / 3 * 3))])) (h1 := (xS b, J, L, xP b)) rfl ⟨(xn_ne (by omega) hl0), (by decide), trivial⟩ ?_
            refine xw_ret xb_159 rfl rfl trivial ?_
            have hq : (xtb N m (N 2) (3 ^ N 2)).2.2 / 3 ^ (N 2 - 1 - i) ≤ (xtb N m (N 2) (3 ^ N 2)).2.2 := Nat.div_le_self _ _
            rw [xn_div (by omega) hl0 (by omega), xl_3, xn_rem (by omega) (by omega) (by omega), pk_mul]
            exact ⟨rfl, J, rfl, j1, xML_N hM j5 (by rw [j4]) j3⟩
          · skip
            exfalso
            try simp only [xB_dec, Classical.not_not] at c_265
            try simp (disch := omega) only [xt_eq, xt_lt, xt_le, xkt_0, xkt_1, xkt_2, xkt_3, xkt_4, xkt_5, xkt_6, xkt_7, xkt_8, xkt_9, xkt_10, xkt_11, xkt_12, xkt_13, xkt_14, xkt_16, xkt_20, xkt_24, xkt_31, xkt_32, xkt_40, xkt_44, xkt_47, xkt_48, xkt_57, xkt_59, xkt_60, xkt_63, xkt_64, xkt_65, xkt_72, xkt_95, xkt_99, xkt_100, xkt_101, xkt_103, xkt_110, xkt_112, xkt_113, xkt_114, xkt_119, xkt_126, xkt_159, xkt_576, xkt_999, xkt_9999, xkt_65536, xkt_999999, xkt_m1, xkt_m2, xkt_m3, xkt_m4, xkt_m11, xkt_m12, xkt_m13, xkt_m14, xkt_m20, xjt_0, xjt_1, xjt_2, xjt_3, xjt_4, xjt_5, xjt_6, xjt_7, xjt_8, xjt_9, xjt_10, xjt_11, xjt_12, xjt_13, xjt_14, xjt_16, xjt_20, xjt_24, xjt_31, xjt_32, xjt_40, xjt_44, xjt_47, xjt_48, xjt_57, xjt_59, xjt_60, xjt_63, xjt_64, xjt_65, xjt_72, xjt_95, xjt_99, xjt_100, xjt_101, xjt_103, xjt_110, xjt_112, xjt_113, xjt_114, xjt_119, xjt_126, xjt_159, xjt_576, xjt_999, xjt_9999, xjt_65536, xjt_999999, xt64, xt_n, not_true_eq_false, not_false_eq_true, Classical.not_not] at c_265
            all_goals omega
      · skip
        exfalso
        try simp only [xB_dec, Classical.not_not] at c_243
        try simp (disch := omega) only [xt_eq, xt_lt, xt_le, xkt_0, xkt_1, xkt_2, xkt_3, xkt_4, xkt_5, xkt_6, xkt_7, xkt_8, xkt_9, xkt_10, xkt_11, xkt_12, xkt_13, xkt_14, xkt_16, xkt_20, xkt_24, xkt_31, xkt_32, xkt_40, xkt_44, xkt_47, xkt_48, xkt_57, xkt_59, xkt_60, xkt_63, xkt_64, xkt_65, xkt_72, xkt_95, xkt_99, xkt_100, xkt_101, xkt_103, xkt_110, xkt_112, xkt_113, xkt_114, xkt_119, xkt_126, xkt_159, xkt_576, xkt_999, xkt_9999, xkt_65536, xkt_999999, xkt_m1, xkt_m2, xkt_m3, xkt_m4, xkt_m11, xkt_m12, xkt_m13, xkt_m14, xkt_m20, xjt_0, xjt_1, xjt_2, xjt_3, xjt_4, xjt_5, xjt_6, xjt_7, xjt_8, xjt_9, xjt_10, xjt_11, xjt_12, xjt_13, xjt_14, xjt_16, xjt_20, xjt_24, xjt_31, xjt_32, xjt_40, xjt_44, xjt_47, xjt_48, xjt_57, xjt_59, xjt_60, xjt_63, xjt_64, xjt_65, xjt_72, xjt_95, xjt_99, xjt_100, xjt_101, xjt_103, xjt_110, xjt_112, xjt_113, xjt_114, xjt_119, xjt_126, xjt_159, xjt_576, xjt_999, xjt_9999, xjt_65536, xjt_999999, xt64, xt_n, not_true_eq_false, not_false_eq_true, Classical.not_not] at c_243
        all_goals omega
    · skip
      refine xw_go xb_159 2 (f1 := (20, [.ref 60, .int (nI m), .int (nI i), .float 0, .float 0, .float 0, .float 0, .float 0, .float 0, .float 0, .float 0, .float 0], [.int (nI i), .ref 60])) (h1 := (xS b, I, L, xP b)) rfl trivial ?_
      refine xw_call xb_159 rfl rfl rfl rfl rfl (Or.inr ⟨_, _, rfl, rfl⟩) (m_isSprinkler (I := I) hM.1 hO) ?_
      rintro _ _ ⟨rfl, rfl⟩
      refine xw_at (f' := (23, [.ref 60, .int (nI m), .int (nI i), .float 0, .float 0, .float 0, .float 0, .float 0, .float 0, .float 0, .float 0, .float 0], [.int (nI (xB (decide (0 ≤ (nI i).toInt ∧ (nI i).toInt < (N 2 : Int)))))])) (h' := (xS b, I, L, xP b)) rfl rfl ?_
      refine xw_go xb_159 1 (f1 := (if ¬ (nI (xB (decide (0 ≤ (nI i).toInt ∧ (nI i).toInt < (N 2 : Int))))) = 0 then 28 else 26, [.ref 60, .int (nI m), .int (nI i), .float 0, .float 0, .float 0, .float 0, .float 0, .float 0, .float 0, .float 0, .float 0], [])) (h1 := (xS b, I, L, xP b)) rfl trivial ?_
      refine xw_if (fun c_23 => ?_) (fun c_23 => ?_)
      · skip
        refine m_ways hM hK hm fun J j1 j2 j3 j4 j5 => ?_
        refine xw_go xb_159 3 (f1 := (if ¬ (nI i) = (-4) then 249 else 246, [.ref 60, .int (nI m), .int (nI i), .int (nI (3 ^ N 2)), .int (nI (xtb N m (N 2) (3 ^ N 2)).1), .int (nI (xtb N m (N 2) (3 ^ N 2)).2.1), .int (nI (xtb N m (N 2) (3 ^ N 2)).2.2), .int (nI (3 ^ N 2)), .float 0, .float 0, .float 0, .float 0], [])) (h1 := (xS b, J, L, xP b)) rfl trivial ?_
        refine xw_if (fun c_243 => ?_) (fun c_243 => ?_)
        · skip
          refine xw_go xb_159 9 (f1 := (262, [.ref 60, .int (nI m), .int (nI i), .int (nI (3 ^ N 2)), .int (nI (xtb N m (N 2) (3 ^ N 2)).1), .int (nI (xtb N m (N 2) (3 ^ N 2)).2.1), .int (nI (xtb N m (N 2) (3 ^ N 2)).2.2), .int 1, .int ((J 61 (2 : Int32).toNatClampNeg) - 1), .float 0, .float 0, .float 0], [])) (h1 := (xS b, J, L, xP b)) rfl ⟨rfl, (xn_ar (n := 2) (N := 159) rfl (by decide) (by decide)), trivial⟩ ?_
          refine xw_at (f' := (262, [.ref 60, .int (nI m), .int (nI i), .int (nI (3 ^ N 2)), .int (nI (xtb N m (N 2) (3 ^ N 2)).1), .int (nI (xtb N m (N 2) (3 ^ N 2)).2.1), .int (nI (xtb N m (N 2) (3 ^ N 2)).2.2), .int (nI (3 ^ 0)), .int (nI (N 2 - 1 - 0)), .float 0, .float 0, .float 0], [])) (h' := (xS b, J, L, xP b)) ?_ rfl ?_
          · rw [show (2 : Int32).toNatClampNeg = 2 from rfl, j5 2 (by decide), xl_1, xn_sub (by omega)]
            rfl
          refine xw_loop (N 2 - 1 - i) (fun k => (262, [.ref 60, .int (nI m), .int (nI i), .int (nI (3 ^ N 2)), .int (nI (xtb N m (N 2) (3 ^ N 2)).1), .int (nI (xtb N m (N 2) (3 ^ N 2)).2.1), .int (nI (xtb N m (N 2) (3 ^ N 2)).2.2), .int (nI (3 ^ k)), .int (nI (N 2 - 1 - k)), .float 0, .float 0, .float 0], [])) (fun k => (xS b, J, L, xP b)) (fun k hk ih => ?_) ?_ 0 (Nat.zero_le _)
          · have e3 : 3 ^ (k + 1) = 3 ^ k * 3 := Nat.pow_succ _ _
            refine xw_go xb_159 3 (f1 := (if (nI (N 2 - 1 - k)) ≤ (nI i) then 280 else 268, [.ref 60, .int (nI m), .int (nI i), .int (nI (3 ^ N 2)), .int (nI (xtb N m (N 2) (3 ^ N 2)).1), .int (nI (xtb N m (N 2) (3 ^ N 2)).2.1), .int (nI (xtb N m (N 2) (3 ^ N 2)).2.2), .int (nI (3 ^ k)), .int (nI (N 2 - 1 - k)), .float 0, .float 0, .float 0], [])) (h1 := (xS b, J, L, xP b)) rfl trivial ?_
            refine xw_if (fun c_265 => ?_) (fun c_265 => ?_)
            · skip
              exfalso
              try simp only [xB_dec, Classical.not_not] at c_265
              try simp (disch := omega) only [xt_eq, xt_lt, xt_le, xkt_0, xkt_1, xkt_2, xkt_3, xkt_4, xkt_5, xkt_6, xkt_7, xkt_8, xkt_9, xkt_10, xkt_11, xkt_12, xkt_13, xkt_14, xkt_16, xkt_20, xkt_24, xkt_31, xkt_32, xkt_40, xkt_44, xkt_47, xkt_48, xkt_57, xkt_59, xkt_60, xkt_63, xkt_64, xkt_65, xkt_72, xkt_95, xkt_99, xkt_100, xkt_101, xkt_103, xkt_110, xkt_112, xkt_113, xkt_114, xkt_119, xkt_126, xkt_159, xkt_576, xkt_999, xkt_9999, xkt_65536, xkt_999999, xkt_m1, xkt_m2, xkt_m3, xkt_m4, xkt_m11, xkt_m12, xkt_m13, xkt_m14, xkt_m20, xjt_0, xjt_1, xjt_2, xjt_3, xjt_4, xjt_5, xjt_6, xjt_7, xjt_8, xjt_9, xjt_10, xjt_11, xjt_12, xjt_13, xjt_14, xjt_16, xjt_20, xjt_24, xjt_31, xjt_32, xjt_40, xjt_44, xjt_47, xjt_48, xjt_57, xjt_59, xjt_60, xjt_63, xjt_64, xjt_65, xjt_72, xjt_95, xjt_99, xjt_100, xjt_101, xjt_103, xjt_110, xjt_112, xjt_113, xjt_114, xjt_119, xjt_126, xjt_159, xjt_576, xjt_999, xjt_9999, xjt_65536, xjt_999999, xt64, xt_n, not_true_eq_false, not_false_eq_true, Classical.not_not] at c_265
              all_goals omega
            · skip
              refine xw_go xb_159 6 (f1 := (262, [.ref 60, .int (nI m), .int (nI i), .int (nI (3 ^ N 2)), .int (nI (xtb N m (N 2) (3 ^ N 2)).1), .int (nI (xtb N m (N 2) (3 ^ N 2)).2.1), .int (nI (xtb N m (N 2) (3 ^ N 2)).2.2), .int ((nI (3 ^ k)) * 3), .int ((nI (N 2 - 1 - k)) + (-1)), .float 0, .float 0, .float 0], [])) (h1 := (xS b, J, L, xP b)) rfl trivial ?_
              refine xw_cong ?_ rfl rfl ih
              rw [xl_3, pk_mul, e3, show N 2 - 1 - k = (N 2 - 1 - (k + 1)) + 1 by omega, xn_dec]
          · have hl : 3 ^ (N 2 - 1 - i) ≤ 243 := xp243 (by omega)
            have hl0 := xp3 (N 2 - 1 - i)
            refine xw_go xb_159 3 (f1 := (if (nI (N 2 - 1 - (N 2 - 1 - i))) ≤ (nI i) then 280 else 268, [.ref 60, .int (nI m), .int (nI i), .int (nI (3 ^ N 2)), .int (nI (xtb N m (N 2) (3 ^ N 2)).1), .int (nI (xtb N m (N 2) (3 ^ N 2)).2.1), .int (nI (xtb N m (N 2) (3 ^ N 2)).2.2), .int (nI (3 ^ (N 2 - 1 - i))), .int (nI (N 2 - 1 - (N 2 - 1 - i))), .float 0, .float 0, .float 0], [])) (h1 := (xS b, J, L, xP b)) rfl trivial ?_
            refine xw_if (fun c_265 => ?_) (fun c_265 => ?_)
            · skip
              refine xw_go xb_159 7 (f1 := (289, [.ref 60, .int (nI m), .int (nI i), .int (nI (3 ^ N 2)), .int (nI (xtb N m (N 2) (3 ^ N 2)).1), .int (nI (xtb N m (N 2) (3 ^ N 2)).2.1), .int (nI (xtb N m (N 2) (3 ^ N 2)).2.2), .int (nI (3 ^ (N 2 - 1 - i))), .int (nI (N 2 - 1 - (N 2 - 1 - i))), .float 0, .float 0, .float 0], [.int ((nI m) * (((nI (xtb N m (N 2) (3 ^ N 2)).2.2) / (nI (3 ^ (N 2 - 1 - i)))) - ((nI (xtb N m (N 2) (3 ^ N 2)).2.2) / (nI (3 ^ (N 2 - 1 - i)))) / 3 * 3))])) (h1 := (xS b, J, L, xP b)) rfl ⟨(xn_ne (by omega) hl0), (by decide), trivial⟩ ?_
              refine xw_ret xb_159 rfl rfl trivial ?_
              have hq : (xtb N m (N 2) (3 ^ N 2)).2.2 / 3 ^ (N 2 - 1 - i) ≤ (xtb N m (N 2) (3 ^ N 2)).2.2 := Nat.div_le_self _ _
              rw [xn_div (by omega) hl0 (by omega), xl_3, xn_rem (by omega) (by omega) (by omega), pk_mul]
              exact ⟨rfl, J, rfl, j1, xML_N hM j5 (by rw [j4]) j3⟩
            · skip
              exfalso
              try simp only [xB_dec, Classical.not_not] at c_265
              try simp (disch := omega) only [xt_eq, xt_lt, xt_le, xkt_0, xkt_1, xkt_2, xkt_3, xkt_4, xkt_5, xkt_6, xkt_7, xkt_8, xkt_9, xkt_10, xkt_11, xkt_12, xkt_13, xkt_14, xkt_16, xkt_20, xkt_24, xkt_31, xkt_32, xkt_40, xkt_44, xkt_47, xkt_48, xkt_57, xkt_59, xkt_60, xkt_63, xkt_64, xkt_65, xkt_72, xkt_95, xkt_99, xkt_100, xkt_101, xkt_103, xkt_110, xkt_112, xkt_113, xkt_114, xkt_119, xkt_126, xkt_159, xkt_576, xkt_999, xkt_9999, xkt_65536, xkt_999999, xkt_m1, xkt_m2, xkt_m3, xkt_m4, xkt_m11, xkt_m12, xkt_m13, xkt_m14, xkt_m20, xjt_0, xjt_1, xjt_2, xjt_3, xjt_4, xjt_5, xjt_6, xjt_7, xjt_8, xjt_9, xjt_10, xjt_11, xjt_12, xjt_13, xjt_14, xjt_16, xjt_20, xjt_24, xjt_31, xjt_32, xjt_40, xjt_44, xjt_47, xjt_48, xjt_57, xjt_59, xjt_60, xjt_63, xjt_64, xjt_65, xjt_72, xjt_95, xjt_99, xjt_100, xjt_101, xjt_103, xjt_110, xjt_112, xjt_113, xjt_114, xjt_119, xjt_126, xjt_159, xjt_576, xjt_999, xjt_9999, xjt_65536, xjt_999999, xt64, xt_n, not_true_eq_false, not_false_eq_true, Classical.not_not] at c_265
              all_goals omega
        · skip
          exfalso
          try simp only [xB_dec, Classical.not_not] at c_243
          try simp (disch := omega) only [xt_eq, xt_lt, xt_le, xkt_0, xkt_1, xkt_2, xkt_3, xkt_4, xkt_5, xkt_6, xkt_7, xkt_8, xkt_9, xkt_10, xkt_11, xkt_12, xkt_13, xkt_14, xkt_16, xkt_20, xkt_24, xkt_31, xkt_32, xkt_40, xkt_44, xkt_47, xkt_48, xkt_57, xkt_59, xkt_60, xkt_63, xkt_64, xkt_65, xkt_72, xkt_95, xkt_99, xkt_100, xkt_101, xkt_103, xkt_110, xkt_112, xkt_113, xkt_114, xkt_119, xkt_126, xkt_159, xkt_576, xkt_999, xkt_9999, xkt_65536, xkt_999999, xkt_m1, xkt_m2, xkt_m3, xkt_m4, xkt_m11, xkt_m12, xkt_m13, xkt_m14, xkt_m20, xjt_0, xjt_1, xjt_2, xjt_3, xjt_4, xjt_5, xjt_6, xjt_7, xjt_8, xjt_9, xjt_10, xjt_11, xjt_12, xjt_13, xjt_14, xjt_16, xjt_20, xjt_24, xjt_31, xjt_32, xjt_40, xjt_44, xjt_47, xjt_48, xjt_57, xjt_59, xjt_60, xjt_63, xjt_64, xjt_65, xjt_72, xjt_95, xjt_99, xjt_100, xjt_101, xjt_103, xjt_110, xjt_112, xjt_113, xjt_114, xjt_119, xjt_126, xjt_159, xjt_576, xjt_999, xjt_9999, xjt_65536, xjt_999999, xt64, xt_n, not_true_eq_false, not_false_eq_true, Classical.not_not] at c_243
          all_goals omega
      · skip
        exfalso
        try simp only [xB_dec, Classical.not_not] at c_9 c_15 c_23
        try simp (disch := omega) only [xt_eq, xt_lt, xt_le, xkt_0, xkt_1, xkt_2, xkt_3, xkt_4, xkt_5, xkt_6, xkt_7, xkt_8, xkt_9, xkt_10, xkt_11, xkt_12, xkt_13, xkt_14, xkt_16, xkt_20, xkt_24, xkt_31, xkt_32, xkt_40, xkt_44, xkt_47, xkt_48, xkt_57, xkt_59, xkt_60, xkt_63, xkt_64, xkt_65, xkt_72, xkt_95, xkt_99, xkt_100, xkt_101, xkt_103, xkt_110, xkt_112, xkt_113, xkt_114, xkt_119, xkt_126, xkt_159, xkt_576, xkt_999, xkt_9999, xkt_65536, xkt_999999, xkt_m1, xkt_m2, xkt_m3, xkt_m4, xkt_m11, xkt_m12, xkt_m13, xkt_m14, xkt_m20, xjt_0, xjt_1, xjt_2, xjt_3, xjt_4, xjt_5, xjt_6, xjt_7, xjt_8, xjt_9, xjt_10, xjt_11, xjt_12, xjt_13, xjt_14, xjt_16, xjt_20, xjt_24, xjt_31, xjt_32, xjt_40, xjt_44, xjt_47, xjt_48, xjt_57, xjt_59, xjt_60, xjt_63, xjt_64, xjt_65, xjt_72, xjt_95, xjt_99, xjt_100, xjt_101, xjt_103, xjt_110, xjt_112, xjt_113, xjt_114, xjt_119, xjt_126, xjt_159, xjt_576, xjt_999, xjt_9999, xjt_65536, xjt_999999, xt64, xt_n, not_true_eq_false, not_false_eq_true, Classical.not_not] at c_9 c_15 c_23
        all_goals omega

