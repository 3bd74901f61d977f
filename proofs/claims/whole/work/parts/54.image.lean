/-! ===== calls: type, image, restore ===== -/
theorem c_type0 {d : Nat} {b : Bool} {I : Nat → Nat → Int32} {L : Nat → Nat → Int64} {x : Int32} (hx : ¬ (32 ≤ x.toInt ∧ x.toInt ≤ 126)) : xm_Z (d + 2) 43 [.ref 0, .int x] (xS b, I, L, xP b) (fun rz hz => rz = some (.int (-1)) ∧ hz = (xS b, I, L, xP b)) := by
  refine xw_S xb_43 (l := [.ref 0, .int x]) (Nat.le_of_ble_eq_true rfl) rfl ?_
  refine xw_go xb_43 3 (f1 := (5, [.ref 0, .int x], [.int 126, .int 32, .int x])) (h1 := (xS b, I, L, xP b)) rfl trivial ?_
  refine xw_call xb_43 rfl rfl rfl rfl rfl (Or.inl rfl) c_within ?_
  rintro _ _ ⟨rfl, rfl⟩
  refine xw_at (f' := (8, [.ref 0, .int x], [.int (nI (xB (decide ((32 : Int32).toInt ≤ x.toInt ∧ x.toInt ≤ (126 : Int32).toInt))))])) (h' := (xS b, I, L, xP b)) rfl rfl ?_
  refine xw_go xb_43 1 (f1 := (if ¬ (nI (xB (decide ((32 : Int32).toInt ≤ x.toInt ∧ x.toInt ≤ (126 : Int32).toInt)))) = 0 then 13 else 11, [.ref 0, .int x], [])) (h1 := (xS b, I, L, xP b)) rfl trivial ?_
  refine xw_if (fun c_8 => ?_) (fun c_8 => ?_)
  · skip
    exfalso
    try simp only [xB_dec, Classical.not_not] at c_8
    try simp (disch := omega) only [xt_eq, xt_lt, xt_le, xkt_0, xkt_1, xkt_2, xkt_3, xkt_4, xkt_5, xkt_6, xkt_7, xkt_8, xkt_9, xkt_10, xkt_11, xkt_12, xkt_13, xkt_14, xkt_16, xkt_20, xkt_24, xkt_31, xkt_32, xkt_40, xkt_44, xkt_47, xkt_48, xkt_57, xkt_59, xkt_60, xkt_63, xkt_64, xkt_65, xkt_72, xkt_95, xkt_99, xkt_100, xkt_101, xkt_103, xkt_110, xkt_112, xkt_113, xkt_114, xkt_119, xkt_126, xkt_159, xkt_576, xkt_999, xkt_9999, xkt_65536, xkt_999999, xkt_m1, xkt_m2, xkt_m3, xkt_m4, xkt_m11, xkt_m12, xkt_m13, xkt_m14, xkt_m20, xjt_0, xjt_1, xjt_2, xjt_3, xjt_4, xjt_5, xjt_6, xjt_7, xjt_8, xjt_9, xjt_10, xjt_11, xjt_12, xjt_13, xjt_14, xjt_16, xjt_20, xjt_24, xjt_31, xjt_32, xjt_40, xjt_44, xjt_47, xjt_48, xjt_57, xjt_59, xjt_60, xjt_63, xjt_64, xjt_65, xjt_72, xjt_95, xjt_99, xjt_100, xjt_101, xjt_103, xjt_110, xjt_112, xjt_113, xjt_114, xjt_119, xjt_126, xjt_159, xjt_576, xjt_999, xjt_9999, xjt_65536, xjt_999999, xt64, xt_n, not_true_eq_false, not_false_eq_true, Classical.not_not] at c_8
    all_goals omega
  · skip
    refine xw_go xb_43 1 (f1 := (12, [.ref 0, .int x], [.int (-1)])) (h1 := (xS b, I, L, xP b)) rfl trivial ?_
    refine xw_ret xb_43 rfl rfl trivial ?_
    exact ⟨rfl, rfl⟩

theorem m_type0 {d : Nat} {b : Bool} {I : Nat → Nat → Int32} {L : Nat → Nat → Int64} {x : Int32} (hx : ¬ (32 ≤ x.toInt ∧ x.toInt ≤ 126)) : xm_Z (d + 2) 133 [.ref 60, .int x] (xS b, I, L, xP b) (fun rz hz => rz = some (.int (-1)) ∧ hz = (xS b, I, L, xP b)) := by
  refine xw_S xb_133 (l := [.ref 60, .int x]) (Nat.le_of_ble_eq_true rfl) rfl ?_
  refine xw_go xb_133 4 (f1 := (8, [.ref 60, .int x], [.long 126, .long 32, .long x.toInt64])) (h1 := (xS b, I, L, xP b)) rfl trivial ?_
  refine xw_call xb_133 rfl rfl rfl rfl rfl (Or.inl rfl) m_in ?_
  rintro _ _ ⟨rfl, rfl⟩
  refine xw_at (f' := (11, [.ref 60, .int x], [.int (nI (xB (decide ((32 : Int64).toInt ≤ x.toInt64.toInt ∧ x.toInt64.toInt ≤ (126 : Int64).toInt))))])) (h' := (xS b, I, L, xP b)) rfl rfl ?_
  refine xw_go xb_133 1 (f1 := (if ¬ (nI (xB (decide ((32 : Int64).toInt ≤ x.toInt64.toInt ∧ x.toInt64.toInt ≤ (126 : Int64).toInt)))) = 0 then 16 else 14, [.ref 60, .int x], [])) (h1 := (xS b, I, L, xP b)) rfl trivial ?_
  refine xw_if (fun c_11 => ?_) (fun c_11 => ?_)
  · skip
    exfalso
    try simp only [xB_dec, Classical.not_not] at c_11
    try simp (disch := omega) only [xt_eq, xt_lt, xt_le, xkt_0, xkt_1, xkt_2, xkt_3, xkt_4, xkt_5, xkt_6, xkt_7, xkt_8, xkt_9, xkt_10, xkt_11, xkt_12, xkt_13, xkt_14, xkt_16, xkt_20, xkt_24, xkt_31, xkt_32, xkt_40, xkt_44, xkt_47, xkt_48, xkt_57, xkt_59, xkt_60, xkt_63, xkt_64, xkt_65, xkt_72, xkt_95, xkt_99, xkt_100, xkt_101, xkt_103, xkt_110, xkt_112, xkt_113, xkt_114, xkt_119, xkt_126, xkt_159, xkt_576, xkt_999, xkt_9999, xkt_65536, xkt_999999, xkt_m1, xkt_m2, xkt_m3, xkt_m4, xkt_m11, xkt_m12, xkt_m13, xkt_m14, xkt_m20, xjt_0, xjt_1, xjt_2, xjt_3, xjt_4, xjt_5, xjt_6, xjt_7, xjt_8, xjt_9, xjt_10, xjt_11, xjt_12, xjt_13, xjt_14, xjt_16, xjt_20, xjt_24, xjt_31, xjt_32, xjt_40, xjt_44, xjt_47, xjt_48, xjt_57, xjt_59, xjt_60, xjt_63, xjt_64, xjt_65, xjt_72, xjt_95, xjt_99, xjt_100, xjt_101, xjt_103, xjt_110, xjt_112, xjt_113, xjt_114, xjt_119, xjt_126, xjt_159, xjt_576, xjt_999, xjt_9999, xjt_65536, xjt_999999, xt64, xt_n, not_true_eq_false, not_false_eq_true, Classical.not_not] at c_11
    all_goals omega
  · skip
    refine xw_go xb_133 1 (f1 := (15, [.ref 60, .int x], [.int (-1)])) (h1 := (xS b, I, L, xP b)) rfl trivial ?_
    refine xw_ret xb_133 rfl rfl trivial ?_
    exact ⟨rfl, rfl⟩

theorem c_type1 {d : Nat} {b : Bool} {I : Nat → Nat → Int32} {L : Nat → Nat → Int64} {x : Int32} (hx : 32 ≤ x.toInt ∧ x.toInt ≤ 126) {t : Nat} (ht : I 0 5 = nI t) (h110 : t = 110) : xm_Z (d + 2) 43 [.ref 0, .int x] (xS b, I, L, xP b) (fun rz hz => rz = some (.int (-3)) ∧ hz = (xS b, I, L, xP b)) := by
  refine xw_S xb_43 (l := [.ref 0, .int x]) (Nat.le_of_ble_eq_true rfl) rfl ?_
  refine xw_go xb_43 3 (f1 := (5, [.ref 0, .int x], [.int 126, .int 32, .int x])) (h1 := (xS b, I, L, xP b)) rfl trivial ?_
  refine xw_call xb_43 rfl rfl rfl rfl rfl (Or.inl rfl) c_within ?_
  rintro _ _ ⟨rfl, rfl⟩
  refine xw_at (f' := (8, [.ref 0, .int x], [.int (nI (xB (decide ((32 : Int32).toInt ≤ x.toInt ∧ x.toInt ≤ (126 : Int32).toInt))))])) (h' := (xS b, I, L, xP b)) rfl rfl ?_
  refine xw_go xb_43 1 (f1 := (if ¬ (nI (xB (decide ((32 : Int32).toInt ≤ x.toInt ∧ x.toInt ≤ (126 : Int32).toInt)))) = 0 then 13 else 11, [.ref 0, .int x], [])) (h1 := (xS b, I, L, xP b)) rfl trivial ?_
  refine xw_if (fun c_8 => ?_) (fun c_8 => ?_)
  · skip
    refine xw_go xb_43 2 (f1 := (17, [.ref 0, .int x], [.int (I 0 5)])) (h1 := (xS b, I, L, xP b)) rfl ⟨rfl, trivial⟩ ?_
    refine xw_cong (l' := [.ref 0, .int x]) (st' := [.int (nI t)]) (h' := (xS b, I, L, xP b)) rfl (show ([.int (I 0 5)] : List Value) = [.int (nI t)] from ?_) rfl ?_
    · rw [ht]
    refine xw_go xb_43 2 (f1 := (if (nI t) < 110 then 25 else 22, [.ref 0, .int x], [])) (h1 := (xS b, I, L, xP b)) rfl trivial ?_
    refine xw_if (fun c_19 => ?_) (fun c_19 => ?_)
    · skip
      exfalso
      try simp only [xB_dec, Classical.not_not] at c_8 c_19
      try simp (disch := omega) only [xt_eq, xt_lt, xt_le, xkt_0, xkt_1, xkt_2, xkt_3, xkt_4, xkt_5, xkt_6, xkt_7, xkt_8, xkt_9, xkt_10, xkt_11, xkt_12, xkt_13, xkt_14, xkt_16, xkt_20, xkt_24, xkt_31, xkt_32, xkt_40, xkt_44, xkt_47, xkt_48, xkt_57, xkt_59, xkt_60, xkt_63, xkt_64, xkt_65, xkt_72, xkt_95, xkt_99, xkt_100, xkt_101, xkt_103, xkt_110, xkt_112, xkt_113, xkt_114, xkt_119, xkt_126, xkt_159, xkt_576, xkt_999, xkt_9999, xkt_65536, xkt_999999, xkt_m1, xkt_m2, xkt_m3, xkt_m4, xkt_m11, xkt_m12, xkt_m13, xkt_m14, xkt_m20, xjt_0, xjt_1, xjt_2, xjt_3, xjt_4, xjt_5, xjt_6, xjt_7, xjt_8, xjt_9, xjt_10, xjt_11, xjt_12, xjt_13, xjt_14, xjt_16, xjt_20, xjt_24, xjt_31, xjt_32, xjt_40, xjt_44, xjt_47, xjt_48, xjt_57, xjt_59, xjt_60, xjt_63, xjt_64, xjt_65, xjt_72, xjt_95, xjt_99, xjt_100, xjt_101, xjt_103, xjt_110, xjt_112, xjt_113, xjt_114, xjt_119, xjt_126, xjt_159, xjt_576, xjt_999, xjt_9999, xjt_65536, xjt_999999, xt64, xt_n, not_true_eq_false, not_false_eq_true, Classical.not_not] at c_8 c_19
      all_goals omega
    · skip
      refine xw_go xb_43 1 (f1 := (24, [.ref 0, .int x], [.int (-3)])) (h1 := (xS b, I, L, xP b)) rfl trivial ?_
      refine xw_ret xb_43 rfl rfl trivial ?_
      exact ⟨rfl, rfl⟩
  · skip
    exfalso
    try simp only [xB_dec, Classical.not_not] at c_8
    try simp (disch := omega) only [xt_eq, xt_lt, xt_le, xkt_0, xkt_1, xkt_2, xkt_3, xkt_4, xkt_5, xkt_6, xkt_7, xkt_8, xkt_9, xkt_10, xkt_11, xkt_12, xkt_13, xkt_14, xkt_16, xkt_20, xkt_24, xkt_31, xkt_32, xkt_40, xkt_44, xkt_47, xkt_48, xkt_57, xkt_59, xkt_60, xkt_63, xkt_64, xkt_65, xkt_72, xkt_95, xkt_99, xkt_100, xkt_101, xkt_103, xkt_110, xkt_112, xkt_113, xkt_114, xkt_119, xkt_126, xkt_159, xkt_576, xkt_999, xkt_9999, xkt_65536, xkt_999999, xkt_m1, xkt_m2, xkt_m3, xkt_m4, xkt_m11, xkt_m12, xkt_m13, xkt_m14, xkt_m20, xjt_0, xjt_1, xjt_2, xjt_3, xjt_4, xjt_5, xjt_6, xjt_7, xjt_8, xjt_9, xjt_10, xjt_11, xjt_12, xjt_13, xjt_14, xjt_16, xjt_20, xjt_24, xjt_31, xjt_32, xjt_40, xjt_44, xjt_47, xjt_48, xjt_57, xjt_59, xjt_60, xjt_63, xjt_64, xjt_65, xjt_72, xjt_95, xjt_99, xjt_100, xjt_101, xjt_103, xjt_110, xjt_112, xjt_113, xjt_114, xjt_119, xjt_126, xjt_159, xjt_576, xjt_999, xjt_9999, xjt_65536, xjt_999999, xt64, xt_n, not_true_eq_false, not_false_eq_true, Classical.not_not] at c_8
    all_goals omega

theorem m_type1 {d : Nat} {b : Bool} {I : Nat → Nat → Int32} {L : Nat → Nat → Int64} {x : Int32} (hx : 32 ≤ x.toInt ∧ x.toInt ≤ 126) {t : Nat} (ht : I 60 4 = nI t) (h110 : t = 110) : xm_Z (d + 2) 133 [.ref 60, .int x] (xS b, I, L, xP b) (fun rz hz => rz = some (.int (-3)) ∧ hz = (xS b, I, L, xP b)) := by
  refine xw_S xb_133 (l := [.ref 60, .int x]) (Nat.le_of_ble_eq_true rfl) rfl ?_
  refine xw_go xb_133 4 (f1 := (8, [.ref 60, .int x], [.long 126, .long 32, .long x.toInt64])) (h1 := (xS b, I, L, xP b)) rfl trivial ?_
  refine xw_call xb_133 rfl rfl rfl rfl rfl (Or.inl rfl) m_in ?_
  rintro _ _ ⟨rfl, rfl⟩
  refine xw_at (f' := (11, [.ref 60, .int x], [.int (nI (xB (decide ((32 : Int64).toInt ≤ x.toInt64.toInt ∧ x.toInt64.toInt ≤ (126 : Int64).toInt))))])) (h' := (xS b, I, L, xP b)) rfl rfl ?_
  refine xw_go xb_133 1 (f1 := (if ¬ (nI (xB (decide ((32 : Int64).toInt ≤ x.toInt64.toInt ∧ x.toInt64.toInt ≤ (126 : Int64).toInt)))) = 0 then 16 else 14, [.ref 60, .int x], [])) (h1 := (xS b, I, L, xP b)) rfl trivial ?_
  refine xw_if (fun c_11 => ?_) (fun c_11 => ?_)
  · skip
    refine xw_go xb_133 2 (f1 := (20, [.ref 60, .int x], [.int (I 60 4)])) (h1 := (xS b, I, L, xP b)) rfl ⟨rfl, trivial⟩ ?_
    refine xw_cong (l' := [.ref 60, .int x]) (st' := [.int (nI t)]) (h' := (xS b, I, L, xP b)) rfl (show ([.int (I 60 4)] : List Value) = [.int (nI t)] from ?_) rfl ?_
    · rw [ht]
    refine xw_go xb_133 2 (f1 := (if ¬ (nI t) = 110 then 28 else 25, [.ref 60, .int x], [])) (h1 := (xS b, I, L, xP b)) rfl trivial ?_
    refine xw_if (fun c_22 => ?_) (fun c_22 => ?_)
    · skip
      exfalso
      try simp only [xB_dec, Classical.not_not] at c_11 c_22
      try simp (disch := omega) only [xt_eq, xt_lt, xt_le, xkt_0, xkt_1, xkt_2, xkt_3, xkt_4, xkt_5, xkt_6, xkt_7, xkt_8, xkt_9, xkt_10, xkt_11, xkt_12, xkt_13, xkt_14, xkt_16, xkt_20, xkt_24, xkt_31, xkt_32, xkt_40, xkt_44, xkt_47, xkt_48, xkt_57, xkt_59, xkt_60, xkt_63, xkt_64, xkt_65, xkt_72, xkt_95, xkt_99, xkt_100, xkt_101, xkt_103, xkt_110, xkt_112, xkt_113, xkt_114, xkt_119, xkt_126, xkt_159, xkt_576, xkt_999, xkt_9999, xkt_65536, xkt_999999, xkt_m1, xkt_m2, xkt_m3, xkt_m4, xkt_m11, xkt_m12, xkt_m13, xkt_m14, xkt_m20, xjt_0, xjt_1, xjt_2, xjt_3, xjt_4, xjt_5, xjt_6, xjt_7, xjt_8, xjt_9, xjt_10, xjt_11, xjt_12, xjt_13, xjt_14, xjt_16, xjt_20, xjt_24, xjt_31, xjt_32, xjt_40, xjt_44, xjt_47, xjt_48, xjt_57, xjt_59, xjt_60, xjt_63, xjt_64, xjt_65, xjt_72, xjt_95, xjt_99, xjt_100, xjt_101, xjt_103, xjt_110, xjt_112, xjt_113, xjt_114, xjt_119, xjt_126, xjt_159, xjt_576, xjt_999, xjt_9999, xjt_65536, xjt_999999, xt64, xt_n, not_true_eq_false, not_false_eq_true, Classical.not_not] at c_11 c_22
      all_goals omega
    · skip
      refine xw_go xb_133 1 (f1 := (27, [.ref 60, .int x], [.int (-3)])) (h1 := (xS b, I, L, xP b)) rfl trivial ?_
      refine xw_ret xb_133 rfl rfl trivial ?_
      exact ⟨rfl, rfl⟩
  · skip
    exfalso
    try simp only [xB_dec, Classical.not_not] at c_11
    try simp (disch := omega) only [xt_eq, xt_lt, xt_le, xkt_0, xkt_1, xkt_2, xkt_3, xkt_4, xkt_5, xkt_6, xkt_7, xkt_8, xkt_9, xkt_10, xkt_11, xkt_12, xkt_13, xkt_14, xkt_16, xkt_20, xkt_24, xkt_31, xkt_32, xkt_40, xkt_44, xkt_47, xkt_48, xkt_57, xkt_59, xkt_60, xkt_63, xkt_64, xkt_65, xkt_72, xkt_95, xkt_99, xkt_100, xkt_101, xkt_103, xkt_110, xkt_112, xkt_113, xkt_114, xkt_119, xkt_126, xkt_159, xkt_576, xkt_999, xkt_9999, xkt_65536, xkt_999999, xkt_m1, xkt_m2, xkt_m3, xkt_m4, xkt_m11, xkt_m12, xkt_m13, xkt_m14, xkt_m20, xjt_0, xjt_1, xjt_2, xjt_3, xjt_4, xjt_5, xjt_6, xjt_7, xjt_8, xjt_9, xjt_10, xjt_11, xjt_12, xjt_13, xjt_14, xjt_16, xjt_20, xjt_24, xjt_31, xjt_32, xjt_40, xjt_44, xjt_47, xjt_48, xjt_57, xjt_59, xjt_60, xjt_63, xjt_64, xjt_65, xjt_72, xjt_95, xjt_99, xjt_100, xjt_101, xjt_103, xjt_110, xjt_112, xjt_113, xjt_114, xjt_119, xjt_126, xjt_159, xjt_576, xjt_999, xjt_9999, xjt_65536, xjt_999999, xt64, xt_n, not_true_eq_false, not_false_eq_true, Classical.not_not] at c_11
    all_goals omega

theorem c_type2 {d : Nat} {b : Bool} {I : Nat → Nat → Int32} {L : Nat → Nat → Int64} {x : Int32} (hx : 32 ≤ x.toInt ∧ x.toInt ≤ 126) {t : Nat} (ht : I 0 5 = nI t) (h110 : t < 110) : xm_Z (d + 2) 43 [.ref 0, .int x] (xS b, I, L, xP b) (fun rz hz => rz = some (.int (nI (t + 1))) ∧ hz = (xS b, xm_up (xm_up I 42 t x) 0 5 (nI (t + 1)), L, xP b)) := by
  refine xw_S xb_43 (l := [.ref 0, .int x]) (Nat.le_of_ble_eq_true rfl) rfl ?_
  refine xw_go xb_43 3 (f1 := (5, [.ref 0, .int x], [.int 126, .int 32, .int x])) (h1 := (xS b, I, L, xP b)) rfl trivial ?_
  refine xw_call xb_43 rfl rfl rfl rfl rfl (Or.inl rfl) c_within ?_
  rintro _ _ ⟨rfl, rfl⟩
  refine xw_at (f' := (8, [.ref 0, .int x], [.int (nI (xB (decide ((32 : Int32).toInt ≤ x.toInt ∧ x.toInt ≤ (126 : Int32).toInt))))])) (h' := (xS b, I, L, xP b)) rfl rfl ?_
  refine xw_go xb_43 1 (f1 := (if ¬ (nI (xB (decide ((32 : Int32).toInt ≤ x.toInt ∧ x.toInt ≤ (126 : Int32).toInt)))) = 0 then 13 else 11, [.ref 0, .int x], [])) (h1 := (xS b, I, L, xP b)) rfl trivial ?_
  refine xw_if (fun c_8 => ?_) (fun c_8 => ?_)
  · skip
    refine xw_go xb_43 2 (f1 := (17, [.ref 0, .int x], [.int (I 0 5)])) (h1 := (xS b, I, L, xP b)) rfl ⟨rfl, trivial⟩ ?_
    refine xw_cong (l' := [.ref 0, .int x]) (st' := [.int (nI t)]) (h' := (xS b, I, L, xP b)) rfl (show ([.int (I 0 5)] : List Value) = [.int (nI t)] from ?_) rfl ?_
    · rw [ht]
    refine xw_go xb_43 2 (f1 := (if (nI t) < 110 then 25 else 22, [.ref 0, .int x], [])) (h1 := (xS b, I, L, xP b)) rfl trivial ?_
    refine xw_if (fun c_19 => ?_) (fun c_19 => ?_)
    · skip
      refine xw_go xb_43 4 (f1 := (33, [.ref 0, .int x], [.int (I 0 5), .ref 42])) (h1 := (xS b, I, L, xP b)) rfl ⟨rfl, rfl, trivial⟩ ?_
      refine xw_cong (l' := [.ref 0, .int x]) (st' := [.int (nI t), .ref 42]) (h' := (xS b, I, L, xP b)) rfl (show ([.int (I 0 5), .ref 42] : List Value) = [.int (nI t), .ref 42] from ?_) rfl ?_
      · rw [ht]
      refine xw_go xb_43 10 (f1 := (49, [.ref 0, .int x], [.int ((xm_up (xm_up I 42 (nI t).toNatClampNeg x) 0 5 (((xm_up I 42 (nI t).toNatClampNeg x) 0 5) + 1)) 0 5)])) (h1 := (xS b, xm_up (xm_up I 42 (nI t).toNatClampNeg x) 0 5 (((xm_up I 42 (nI t).toNatClampNeg x) 0 5) + 1), L, xP b)) rfl ⟨(xn_ar (n := t) (N := 110) rfl (by omega) (by decide)), rfl, rfl, rfl, trivial⟩ ?_
      refine xw_ret xb_43 rfl rfl trivial ?_
      have e1 : xm_up I 42 (nI t).toNatClampNeg x 0 5 = nI t := by rw [xm_up_o (by decide)]; exact ht
      refine ⟨?_, ?_⟩
      · rw [xm_up_at, e1, nI_1]
      · rw [e1, xn_cl (by omega), nI_1]
    · skip
      exfalso
      try simp only [xB_dec, Classical.not_not] at c_8 c_19
      try simp (disch := omega) only [xt_eq, xt_lt, xt_le, xkt_0, xkt_1, xkt_2, xkt_3, xkt_4, xkt_5, xkt_6, xkt_7, xkt_8, xkt_9, xkt_10, xkt_11, xkt_12, xkt_13, xkt_14, xkt_16, xkt_20, xkt_24, xkt_31, xkt_32, xkt_40, xkt_44, xkt_47, xkt_48, xkt_57, xkt_59, xkt_60, xkt_63, xkt_64, xkt_65, xkt_72, xkt_95, xkt_99, xkt_100, xkt_101, xkt_103, xkt_110, xkt_112, xkt_113, xkt_114, xkt_119, xkt_126, xkt_159, xkt_576, xkt_999, xkt_9999, xkt_65536, xkt_999999, xkt_m1, xkt_m2, xkt_m3, xkt_m4, xkt_m11, xkt_m12, xkt_m13, xkt_m14, xkt_m20, xjt_0, xjt_1, xjt_2, xjt_3, xjt_4, xjt_5, xjt_6, xjt_7, xjt_8, xjt_9, xjt_10, xjt_11, xjt_12, xjt_13, xjt_14, xjt_16, xjt_20, xjt_24, xjt_31, xjt_32, xjt_40, xjt_44, xjt_47, xjt_48, xjt_57, xjt_59, xjt_60, xjt_63, xjt_64, xjt_65, xjt_72, xjt_95, xjt_99, xjt_100, xjt_101, xjt_103, xjt_110, xjt_112, xjt_113, xjt_114, xjt_119, xjt_126, xjt_159, xjt_576, xjt_999, xjt_9999, xjt_65536, xjt_999999, xt64, xt_n, not_true_eq_false, not_false_eq_true, Classical.not_not] at c_8 c_19
      all_goals omega
  · skip
    exfalso
    try simp only [xB_dec, Classical.not_not] at c_8
    try simp (disch := omega) only [xt_eq, xt_lt, xt_le, xkt_0, xkt_1, xkt_2, xkt_3, xkt_4, xkt_5, xkt_6, xkt_7, xkt_8, xkt_9, xkt_10, xkt_11, xkt_12, xkt_13, xkt_14, xkt_16, xkt_20, xkt_24, xkt_31, xkt_32, xkt_40, xkt_44, xkt_47, xkt_48, xkt_57, xkt_59, xkt_60, xkt_63, xkt_64, xkt_65, xkt_72, xkt_95, xkt_99, xkt_100, xkt_101, xkt_103, xkt_110, xkt_112, xkt_113, xkt_114, xkt_119, xkt_126, xkt_159, xkt_576, xkt_999, xkt_9999, xkt_65536, xkt_999999, xkt_m1, xkt_m2, xkt_m3, xkt_m4, xkt_m11, xkt_m12, xkt_m13, xkt_m14, xkt_m20, xjt_0, xjt_1, xjt_2, xjt_3, xjt_4, xjt_5, xjt_6, xjt_7, xjt_8, xjt_9, xjt_10, xjt_11, xjt_12, xjt_13, xjt_14, xjt_16, xjt_20, xjt_24, xjt_31, xjt_32, xjt_40, xjt_44, xjt_47, xjt_48, xjt_57, xjt_59, xjt_60, xjt_63, xjt_64, xjt_65, xjt_72, xjt_95, xjt_99, xjt_100, xjt_101, xjt_103, xjt_110, xjt_112, xjt_113, xjt_114, xjt_119, xjt_126, xjt_159, xjt_576, xjt_999, xjt_9999, xjt_65536, xjt_999999, xt64, xt_n, not_true_eq_false, not_false_eq_true, Classical.not_not] at c_8
    all_goals omega

theorem m_type2 {d : Nat} {b : Bool} {I : Nat → Nat → Int32} {L : Nat → Nat → Int64} {x : Int32} (hx : 32 ≤ x.toInt ∧ x.toInt ≤ 126) {t : Nat} (ht : I 60 4 = nI t) (h110 : t < 110) : xm_Z (d + 2) 133 [.ref 60, .int x] (xS b, I, L, xP b) (fun rz hz => rz = some (.int (nI (t + 1))) ∧ hz = (xS b, xm_up (xm_up I 64 t x) 60 4 (nI (t + 1)), L, xP b)) := by
  refine xw_S xb_133 (l := [.ref 60, .int x]) (Nat.le_of_ble_eq_true rfl) rfl ?_
  refine xw_go xb_133 4 (f1 := (8, [.ref 60, .int x], [.long 126, .long 32, .long x.toInt64])) (h1 := (xS b, I, L, xP b)) rfl trivial ?_
  refine xw_call xb_133 rfl rfl rfl rfl rfl (Or.inl rfl) m_in ?_
  rintro _ _ ⟨rfl, rfl⟩
  refine xw_at (f' := (11, [.ref 60, .int x], [.int (nI (xB (decide ((32 : Int64).toInt ≤ x.toInt64.toInt ∧ x.toInt64.toInt ≤ (126 : Int64).toInt))))])) (h' := (xS b, I, L, xP b)) rfl rfl ?_
  refine xw_go xb_133 1 (f1 := (if ¬ (nI (xB (decide ((32 : Int64).toInt ≤ x.toInt64.toInt ∧ x.toInt64.toInt ≤ (126 : Int64).toInt)))) = 0 then 16 else 14, [.ref 60, .int x], [])) (h1 := (xS b, I, L, xP b)) rfl trivial ?_
  refine xw_if (fun c_11 => ?_) (fun c_11 => ?_)
  · skip
    refine xw_go xb_133 2 (f1 := (20, [.ref 60, .int x], [.int (I 60 4)])) (h1 := (xS b, I, L, xP b)) rfl ⟨rfl, trivial⟩ ?_
    refine xw_cong (l' := [.ref 60, .int x]) (st' := [.int (nI t)]) (h' := (xS b, I, L, xP b)) rfl (show ([.int (I 60 4)] : List Value) = [.int (nI t)] from ?_) rfl ?_
    · rw [ht]
    refine xw_go xb_133 2 (f1 := (if ¬ (nI t) = 110 then 28 else 25, [.ref 60, .int x], [])) (h1 := (xS b, I, L, xP b)) rfl trivial ?_
    refine xw_if (fun c_22 => ?_) (fun c_22 => ?_)
    · skip
      refine xw_go xb_133 4 (f1 := (36, [.ref 60, .int x], [.int (I 60 4), .ref 64])) (h1 := (xS b, I, L, xP b)) rfl ⟨rfl, rfl, trivial⟩ ?_
      refine xw_cong (l' := [.ref 60, .int x]) (st' := [.int (nI t), .ref 64]) (h' := (xS b, I, L, xP b)) rfl (show ([.int (I 60 4), .ref 64] : List Value) = [.int (nI t), .ref 64] from ?_) rfl ?_
      · rw [ht]
      refine xw_go xb_133 10 (f1 := (52, [.ref 60, .int x], [.int ((xm_up (xm_up I 64 (nI t).toNatClampNeg x) 60 4 (((xm_up I 64 (nI t).toNatClampNeg x) 60 4) + 1)) 60 4)])) (h1 := (xS b, xm_up (xm_up I 64 (nI t).toNatClampNeg x) 60 4 (((xm_up I 64 (nI t).toNatClampNeg x) 60 4) + 1), L, xP b)) rfl ⟨(xn_ar (n := t) (N := 110) rfl (by omega) (by decide)), rfl, rfl, rfl, trivial⟩ ?_
      refine xw_ret xb_133 rfl rfl trivial ?_
      have e1 : xm_up I 64 (nI t).toNatClampNeg x 60 4 = nI t := by rw [xm_up_o (by decide)]; exact ht
      refine ⟨?_, ?_⟩
      · rw [xm_up_at, e1, nI_1]
      · rw [e1, xn_cl (by omega), nI_1]
    · skip
      exfalso
      try simp only [xB_dec, Classical.not_not] at c_11 c_22
      try simp (disch := omega) only [xt_eq, xt_lt, xt_le, xkt_0, xkt_1, xkt_2, xkt_3, xkt_4, xkt_5, xkt_6, xkt_7, xkt_8, xkt_9, xkt_10, xkt_11, xkt_12, xkt_13, xkt_14, xkt_16, xkt_20, xkt_24, xkt_31, xkt_32, xkt_40, xkt_44, xkt_47, xkt_48, xkt_57, xkt_59, xkt_60, xkt_63, xkt_64, xkt_65, xkt_72, xkt_95, xkt_99, xkt_100, xkt_101, xkt_103, xkt_110, xkt_112, xkt_113, xkt_114, xkt_119, xkt_126, xkt_159, xkt_576, xkt_999, xkt_9999, xkt_65536, xkt_999999, xkt_m1, xkt_m2, xkt_m3, xkt_m4, xkt_m11, xkt_m12, xkt_m13, xkt_m14, xkt_m20, xjt_0, xjt_1, xjt_2, xjt_3, xjt_4, xjt_5, xjt_6, xjt_7, xjt_8, xjt_9, xjt_10, xjt_11, xjt_12, xjt_13, xjt_14, xjt_16, xjt_20, xjt_24, xjt_31, xjt_32, xjt_40, xjt_44, xjt_47, xjt_48, xjt_57, xjt_59, xjt_60, xjt_63, xjt_64, xjt_65, xjt_72, xjt_95, xjt_99, xjt_100, xjt_101, xjt_103, xjt_110, xjt_112, xjt_113, xjt_114, xjt_119, xjt_126, xjt_159, xjt_576, xjt_999, xjt_9999, xjt_65536, xjt_999999, xt64, xt_n, not_true_eq_false, not_false_eq_true, Classical.not_not] at c_11 c_22
      all_goals omega
  · skip
    exfalso
    try simp only [xB_dec, Classical.not_not] at c_11
    try simp (disch := omega) only [xt_eq, xt_lt, xt_le, xkt_0, xkt_1, xkt_2, xkt_3, xkt_4, xkt_5, xkt_6, xkt_7, xkt_8, xkt_9, xkt_10, xkt_11, xkt_12, xkt_13, xkt_14, xkt_16, xkt_20, xkt_24, xkt_31, xkt_32, xkt_40, xkt_44, xkt_47, xkt_48, xkt_57, xkt_59, xkt_60, xkt_63, xkt_64, xkt_65, xkt_72, xkt_95, xkt_99, xkt_100, xkt_101, xkt_103, xkt_110, xkt_112, xkt_113, xkt_114, xkt_119, xkt_126, xkt_159, xkt_576, xkt_999, xkt_9999, xkt_65536, xkt_999999, xkt_m1, xkt_m2, xkt_m3, xkt_m4, xkt_m11, xkt_m12, xkt_m13, xkt_m14, xkt_m20, xjt_0, xjt_1, xjt_2, xjt_3, xjt_4, xjt_5, xjt_6, xjt_7, xjt_8, xjt_9, xjt_10, xjt_11, xjt_12, xjt_13, xjt_14, xjt_16, xjt_20, xjt_24, xjt_31, xjt_32, xjt_40, xjt_44, xjt_47, xjt_48, xjt_57, xjt_59, xjt_60, xjt_63, xjt_64, xjt_65, xjt_72, xjt_95, xjt_99, xjt_100, xjt_101, xjt_103, xjt_110, xjt_112, xjt_113, xjt_114, xjt_119, xjt_126, xjt_159, xjt_576, xjt_999, xjt_9999, xjt_65536, xjt_999999, xt64, xt_n, not_true_eq_false, not_false_eq_true, Classical.not_not] at c_11
    all_goals omega

theorem c_image0 {d : Nat} {I : Nat → Nat → Int32} {L : Nat → Nat → Int64} {N : Nat → Nat} {u : Nat} {U : Nat → Nat → Nat} (hP : xPL N u U 1 I) (hK : xUK N u U)  : xm_Z (d + 5) 88 [.ref 0] (xS false, I, L, xP false) (fun rz hz => rz = some (.int 1) ∧ ∃ I' L', hz = (xS true, I', L', xP true) ∧ xPL N u U 74 I' ∧ ∀ a, a < 74 → I' a = I a ∧ L' a = L a) := by
  refine xw_S xb_88 (l := [.ref 0]) (Nat.le_of_ble_eq_true rfl) rfl ?_
  refine xw_go xb_88 2 rfl ⟨rfl, trivial⟩ ?_
  refine xw_at (f' := (4, [.ref 0], [xm_o (xP false 0 7)])) (h' := (xS false, I, L, xP false)) rfl rfl ?_
  refine xw_cong (l' := [.ref 0]) (st' := [.null]) (h' := (xS false, I, L, xP false)) rfl (show ([xm_o (xP false 0 7)] : List Value) = [.null] from ?_) rfl ?_
  · rfl
  refine xw_go xb_88 4 rfl trivial ?_
  refine xw_at (f' := (12, [.ref 0], [.ref 74, .ref 74, .ref 0])) (h' := (xS false ++ [(8, 15)], va_up I 74 (fun _ => 0), va_up L 74 (fun _ => 0), va_up (xP false) 74 (fun _ => none))) rfl rfl ?_
  refine xw_call xb_88 rfl rfl rfl rfl rfl (Or.inr ⟨_, _, rfl, rfl⟩) (c_plot74 (I := (va_up I 74 (fun _ => 0))) (L := (va_up L 74 (fun _ => 0))) (P := (va_up (xP false) 74 (fun _ => none)))) ?_
  rintro _ _ ⟨rfl, rfl⟩
  refine xw_at (f' := (15, [.ref 0], [.ref 74, .ref 0])) (h' := (xS false ++ [(8, 15), (0, 64), (0, 64), (2, 5), (7, 3), (4, 8), (0, 72), (0, 72), (0, 72), (0, 72), (0, 72), (0, 72), (0, 72), (0, 72), (11, 4), (11, 4), (11, 4), (11, 4), (11, 4)], xjI_plot74 (va_up I 74 (fun _ => 0)), xjL_plot74 (va_up L 74 (fun _ => 0)), xjP_plot74 (va_up (xP false) 74 (fun _ => none)))) rfl rfl ?_
  refine xw_go xb_88 1 rfl ⟨rfl, rfl, trivial⟩ ?_
  refine xw_at (f' := (18, [.ref 0], [])) (h' := (xS false ++ [(8, 15), (0, 64), (0, 64), (2, 5), (7, 3), (4, 8), (0, 72), (0, 72), (0, 72), (0, 72), (0, 72), (0, 72), (0, 72), (0, 72), (11, 4), (11, 4), (11, 4), (11, 4), (11, 4)], xjI_plot74 (va_up I 74 (fun _ => 0)), xjL_plot74 (va_up L 74 (fun _ => 0)), xm_up (xjP_plot74 (va_up (xP false) 74 (fun _ => none))) 0 7 (some 74))) rfl rfl ?_
  obtain ⟨I1, hI1⟩ : ∃ I1, I1 = xjI_plot74 (va_up I 74 (fun _ => 0)) := ⟨_, rfl⟩
  obtain ⟨L1, hL1⟩ : ∃ L1, L1 = xjL_plot74 (va_up L 74 (fun _ => 0)) := ⟨_, rfl⟩
  have i1 : ∀ a, a < 74 → I1 a = I a := fun a ha => by
    rw [hI1]
    unfold xjI_plot74 xjI_past74Init
    simp (disch := omega) only [xm_vu_o, xm_up_o]
  have l1 : ∀ a, a < 74 → L1 a = L a := fun a ha => by
    rw [hL1]
    unfold xjL_plot74 xjL_past74Init
    simp (disch := omega) only [xm_vu_o, xm_up_o]
  refine xw_at (f' := (18, [.ref 0], [])) (h' := (xS true, I1, L1, xP true)) rfl (by rw [hI1, hL1, ← xP_img]; rfl) ?_
  clear hI1 hL1
  have hP1 : xPL N u U 1 I1 := xPL_fr (by have := hK.1.1; omega) hP fun a h1 h2 => i1 a (by omega)
  refine xw_go xb_88 2 (f1 := (22, [.ref 0], [xm_o (xP true 0 7)])) (h1 := (xS true, I1, L1, xP true)) rfl ⟨rfl, trivial⟩ ?_
  refine xw_cong (l' := [.ref 0]) (st' := [.ref 74]) (h' := (xS true, I1, L1, xP true)) rfl (show ([xm_o (xP true 0 7)] : List Value) = [.ref 74] from ?_) rfl ?_
  · rfl
  refine xw_go xb_88 2 (f1 := (26, [.ref 0], [.ref 1, .ref 74])) (h1 := (xS true, I1, L1, xP true)) rfl ⟨rfl, trivial⟩ ?_
  refine xw_call xb_88 rfl rfl rfl rfl rfl (Or.inr ⟨_, _, rfl, rfl⟩) (c_like74 (I := I1) (L := L1) hP1 hK) ?_
  rintro _ _ ⟨rfl, I2, rfl, g1, g2⟩
  refine xw_at (f' := (29, [.ref 0], [])) (h' := (xS true, I2, L1, xP true)) rfl rfl ?_
  refine xw_go xb_88 1 (f1 := (30, [.ref 0], [.int 1])) (h1 := (xS true, I2, L1, xP true)) rfl trivial ?_
  refine xw_ret xb_88 rfl rfl trivial ?_
  exact ⟨rfl, I2, L1, rfl, g1, fun a ha => ⟨by rw [g2 a (by omega), i1 a ha], l1 a ha⟩⟩

theorem c_image1 {d : Nat} {I : Nat → Nat → Int32} {L : Nat → Nat → Int64} {N : Nat → Nat} {u : Nat} {U : Nat → Nat → Nat} (hP : xPL N u U 1 I) (hK : xUK N u U)  : xm_Z (d + 5) 88 [.ref 0] (xS true, I, L, xP true) (fun rz hz => rz = some (.int 1) ∧ ∃ I' L', hz = (xS true, I', L', xP true) ∧ xPL N u U 74 I' ∧ ∀ a, a < 74 → I' a = I a ∧ L' a = L a) := by
  refine xw_S xb_88 (l := [.ref 0]) (Nat.le_of_ble_eq_true rfl) rfl ?_
  refine xw_go xb_88 2 (f1 := (4, [.ref 0], [xm_o (xP true 0 7)])) (h1 := (xS true, I, L, xP true)) rfl ⟨rfl, trivial⟩ ?_
  refine xw_cong (l' := [.ref 0]) (st' := [.ref 74]) (h' := (xS true, I, L, xP true)) rfl (show ([xm_o (xP true 0 7)] : List Value) = [.ref 74] from ?_) rfl ?_
  · rfl
  refine xw_go xb_88 3 (f1 := (22, [.ref 0], [xm_o (xP true 0 7)])) (h1 := (xS true, I, L, xP true)) rfl ⟨rfl, trivial⟩ ?_
  refine xw_cong (l' := [.ref 0]) (st' := [.ref 74]) (h' := (xS true, I, L, xP true)) rfl (show ([xm_o (xP true 0 7)] : List Value) = [.ref 74] from ?_) rfl ?_
  · rfl
  refine xw_go xb_88 2 (f1 := (26, [.ref 0], [.ref 1, .ref 74])) (h1 := (xS true, I, L, xP true)) rfl ⟨rfl, trivial⟩ ?_
  refine xw_call xb_88 rfl rfl rfl rfl rfl (Or.inr ⟨_, _, rfl, rfl⟩) (c_like74 (I := I) (L := L) hP hK) ?_
  rintro _ _ ⟨rfl, I2, rfl, g1, g2⟩
  refine xw_at (f' := (29, [.ref 0], [])) (h' := (xS true, I2, L, xP true)) rfl rfl ?_
  refine xw_go xb_88 1 (f1 := (30, [.ref 0], [.int 1])) (h1 := (xS true, I2, L, xP true)) rfl trivial ?_
  refine xw_ret xb_88 rfl rfl trivial ?_
  exact ⟨rfl, I2, L, rfl, g1, fun a ha => ⟨g2 a (by omega), rfl⟩⟩

theorem c_restore0 {d : Nat} {I : Nat → Nat → Int32} {L : Nat → Nat → Int64}  : xm_Z (d + 5) 91 [.ref 0] (xS false, I, L, xP false) (fun rz hz => rz = some (.int (-4)) ∧ hz = (xS false, I, L, xP false)) := by
  refine xw_S xb_91 (l := [.ref 0]) (Nat.le_of_ble_eq_true rfl) rfl ?_
  refine xw_go xb_91 2 (f1 := (4, [.ref 0], [xm_o (xP false 0 7)])) (h1 := (xS false, I, L, xP false)) rfl ⟨rfl, trivial⟩ ?_
  refine xw_cong (l' := [.ref 0]) (st' := [.null]) (h' := (xS false, I, L, xP false)) rfl (show ([xm_o (xP false 0 7)] : List Value) = [.null] from ?_) rfl ?_
  · rfl
  refine xw_go xb_91 2 (f1 := (9, [.ref 0], [.int (-4)])) (h1 := (xS false, I, L, xP false)) rfl trivial ?_
  refine xw_ret xb_91 rfl rfl trivial ?_
  exact ⟨rfl, rfl⟩

theorem c_restore1 {d : Nat} {I : Nat → Nat → Int32} {L : Nat → Nat → Int64} {N : Nat → Nat} {u : Nat} {U : Nat → Nat → Nat} (hP : xPL N u U 74 I) (hK : xUK N u U) : xm_Z (d + 5) 91 [.ref 0] (xS true, I, L, xP true) (fun rz hz => rz = some (.int 1) ∧ ∃ I', hz = (xS true, I', L, xP true) ∧ xPL N u U 1 I' ∧ ∀ a, a < 1 ∨ 20 ≤ a → I' a = I a) := by
  refine xw_S xb_91 (l := [.ref 0]) (Nat.le_of_ble_eq_true rfl) rfl ?_
  refine xw_go xb_91 2 (f1 := (4, [.ref 0], [xm_o (xP true 0 7)])) (h1 := (xS true, I, L, xP true)) rfl ⟨rfl, trivial⟩ ?_
  refine xw_cong (l' := [.ref 0]) (st' := [.ref 74]) (h' := (xS true, I, L, xP true)) rfl (show ([xm_o (xP true 0 7)] : List Value) = [.ref 74] from ?_) rfl ?_
  · rfl
  refine xw_go xb_91 5 (f1 := (18, [.ref 0], [xm_o (xP true 0 7), .ref 1])) (h1 := (xS true, I, L, xP true)) rfl ⟨rfl, rfl, trivial⟩ ?_
  refine xw_cong (l' := [.ref 0]) (st' := [.ref 74, .ref 1]) (h' := (xS true, I, L, xP true)) rfl (show ([xm_o (xP true 0 7), .ref 1] : List Value) = [.ref 74, .ref 1] from ?_) rfl ?_
  · rfl
  refine xw_call xb_91 rfl rfl rfl rfl rfl (Or.inr ⟨_, _, rfl, rfl⟩) (c_like1 (I := I) (L := L) hP hK) ?_
  rintro _ _ ⟨rfl, I2, rfl, g1, g2⟩
  refine xw_at (f' := (21, [.ref 0], [])) (h' := (xS true, I2, L, xP true)) rfl rfl ?_
  refine xw_go xb_91 1 (f1 := (22, [.ref 0], [.int 1])) (h1 := (xS true, I2, L, xP true)) rfl trivial ?_
  refine xw_ret xb_91 rfl rfl trivial ?_
  exact ⟨rfl, I2, rfl, g1, g2⟩

/-- the model's image -/
def xKM (N : Nat → Nat) (u : Nat) (U : Nat → Nat → Nat) (I : Nat → Nat → Int32) : Prop := (∀ k, k < 159 → I 69 k = nI (N k)) ∧ I 60 13 = nI u ∧ (∀ j, j < u → ∀ i, i < 72 → I 69 (159 + (72 * j + i)) = nI (U j i)) ∧ I 60 14 = 1
theorem m_image {d : Nat} {b : Bool} {I : Nat → Nat → Int32} {L : Nat → Nat → Int64} {N : Nat → Nat} {u : Nat} {U : Nat → Nat → Nat} (hM : xML N u U I) (hK : xUK N u U)  : xm_Z (d + 5) 160 [.ref 60] (xS b, I, L, xP b) (fun rz hz => rz = some (.int 1) ∧ ∃ I', hz = (xS b, I', L, xP b) ∧ xKM N u U I' ∧ (∀ a, a ≠ 60 → a ≠ 69 → I' a = I a) ∧ ∀ k, k ≠ 13 → k ≠ 14 → I' 60 k = I 60 k) := by
  have hu := hK.2.2.1
  refine xw_S xb_160 (l := [.ref 60, .float 0]) (Nat.le_of_ble_eq_true rfl) rfl ?_
  refine xw_go xb_160 2 (f1 := (2, [.ref 60, .int 0], [])) (h1 := (xS b, I, L, xP b)) rfl trivial ?_
  refine xw_at (f' := (2, [.ref 60, .int (nI 0)], [])) (h' := (xS b, va_up (I) 69 (va_cpy ((I) 61) ((I) 69) 0 0 0), L, xP b)) rfl (by rw [xcy_0, xm_up_id]) ?_
  refine xw_loop 159 (fun k => (2, [.ref 60, .int (nI k)], [])) (fun k => (xS b, va_up (I) 69 (va_cpy ((I) 61) ((I) 69) 0 0 k), L, xP b)) (fun k hk ih => ?_) ?_ 0 (Nat.zero_le _)
  · skip
    refine xw_go xb_160 3 (f1 := (if 159 ≤ (nI k) then 27 else 9, [.ref 60, .int (nI k)], [])) (h1 := (xS b, va_up (I) 69 (va_cpy ((I) 61) ((I) 69) 0 0 k), L, xP b)) rfl trivial ?_
    refine xw_if (fun c_6 => ?_) (fun c_6 => ?_)
    · skip
      exfalso
      try simp only [xB_dec, Classical.not_not] at c_6
      try simp (disch := omega) only [xt_eq, xt_lt, xt_le, xkt_0, xkt_1, xkt_2, xkt_3, xkt_4, xkt_5, xkt_6, xkt_7, xkt_8, xkt_9, xkt_10, xkt_11, xkt_12, xkt_13, xkt_14, xkt_16, xkt_20, xkt_24, xkt_31, xkt_32, xkt_40, xkt_44, xkt_47, xkt_48, xkt_57, xkt_59, xkt_60, xkt_63, xkt_64, xkt_65, xkt_72, xkt_95, xkt_99, xkt_100, xkt_101, xkt_103, xkt_110, xkt_112, xkt_113, xkt_114, xkt_119, xkt_126, xkt_159, xkt_576, xkt_999, xkt_9999, xkt_65536, xkt_999999, xkt_m1, xkt_m2, xkt_m3, xkt_m4, xkt_m11, xkt_m12, xkt_m13, xkt_m14, xkt_m20, xjt_0, xjt_1, xjt_2, xjt_3, xjt_4, xjt_5, xjt_6, xjt_7, xjt_8, xjt_9, xjt_10, xjt_11, xjt_12, xjt_13, xjt_14, xjt_16, xjt_20, xjt_24, xjt_31, xjt_32, xjt_40, xjt_44, xjt_47, xjt_48, xjt_57, xjt_59, xjt_60, xjt_63, xjt_64, xjt_65, xjt_72, xjt_95, xjt_99, xjt_100, xjt_101, xjt_103, xjt_110, xjt_112, xjt_113, xjt_114, xjt_119, xjt_126, xjt_159, xjt_576, xjt_999, xjt_9999, xjt_65536, xjt_999999, xt64, xt_n, not_true_eq_false, not_false_eq_true, Classical.not_not] at c_6
      all_goals omega
    · skip
      refine xw_go xb_160 10 (f1 := (2, [.ref 60, .int ((nI k) + 1)], [])) (h1 := (xS b, xm_up (va_up (I) 69 (va_cpy ((I) 61) ((I) 69) 0 0 k)) 69 (nI k).toNatClampNeg ((va_up (I) 69 (va_cpy ((I) 61) ((I) 69) 0 0 k)) 61 (nI k).toNatClampNeg), L, xP b)) rfl ⟨rfl, rfl, (xn_ar (n := k) (N := 159) rfl (by omega) (by decide)), (xn_ar (n := k) (N := 735) rfl (by omega) (by decide)), trivial⟩ ?_
      refine xw_cong ?_ rfl ?_ ih
      · rw [nI_1]
      · refine congrArg (fun X => (xS b, X, L, xP b)) ?_
        refine xcy_up ?_ ?_
        · simp (disch := omega) only [xl_159, nI_add, xn_cl, Nat.zero_add]
        · rw [xm_vu_o (by decide)]
          simp (disch := omega) only [xl_159, nI_add, xn_cl, Nat.zero_add]
  · skip
    refine xw_go xb_160 3 (f1 := (if 159 ≤ (nI 159) then 27 else 9, [.ref 60, .int (nI 159)], [])) (h1 := (xS b, va_up (I) 69 (va_cpy ((I) 61) ((I) 69) 0 0 159), L, xP b)) rfl trivial ?_
    refine xw_if (fun c_6 => ?_) (fun c_6 => ?_)
    · skip
      refine xw_go xb_160 2 (f1 := (29, [.ref 60, .int 0], [])) (h1 := (xS b, va_up (I) 69 (va_cpy ((I) 61) ((I) 69) 0 0 159), L, xP b)) rfl trivial ?_
      refine xw_at (f' := (29, [.ref 60, .int (nI 0)], [])) (h' := (xS b, va_up (va_up (I) 69 (va_cpy ((I) 61) ((I) 69) 0 0 159)) 69 (va_cpy ((va_up (I) 69 (va_cpy ((I) 61) ((I) 69) 0 0 159)) 67) ((va_up (I) 69 (va_cpy ((I) 61) ((I) 69) 0 0 159)) 69) 0 159 0), L, xP b)) rfl (by rw [xcy_0, xm_up_id]) ?_
      refine xw_loop 576 (fun k => (29, [.ref 60, .int (nI k)], [])) (fun k => (xS b, va_up (va_up (I) 69 (va_cpy ((I) 61) ((I) 69) 0 0 159)) 69 (va_cpy ((va_up (I) 69 (va_cpy ((I) 61) ((I) 69) 0 0 159)) 67) ((va_up (I) 69 (va_cpy ((I) 61) ((I) 69) 0 0 159)) 69) 0 159 k), L, xP b)) (fun k hk ih => ?_) ?_ 0 (Nat.zero_le _)
      · skip
        refine xw_go xb_160 3 (f1 := (if 576 ≤ (nI k) then 58 else 36, [.ref 60, .int (nI k)], [])) (h1 := (xS b, va_up (va_up (I) 69 (va_cpy ((I) 61) ((I) 69) 0 0 159)) 69 (va_cpy ((va_up (I) 69 (va_cpy ((I) 61) ((I) 69) 0 0 159)) 67) ((va_up (I) 69 (va_cpy ((I) 61) ((I) 69) 0 0 159)) 69) 0 159 k), L, xP b)) rfl trivial ?_
        refine xw_if (fun c_33 => ?_) (fun c_33 => ?_)
        · skip
          exfalso
          try simp only [xB_dec, Classical.not_not] at c_33
          try simp (disch := omega) only [xt_eq, xt_lt, xt_le, xkt_0, xkt_1, xkt_2, xkt_3, xkt_4, xkt_5, xkt_6, xkt_7, xkt_8, xkt_9, xkt_10, xkt_11, xkt_12, xkt_13, xkt_14, xkt_16, xkt_20, xkt_24, xkt_31, xkt_32, xkt_40, xkt_44, xkt_47, xkt_48, xkt_57, xkt_59, xkt_60, xkt_63, xkt_64, xkt_65, xkt_72, xkt_95, xkt_99, xkt_100, xkt_101, xkt_103, xkt_110, xkt_112, xkt_113, xkt_114, xkt_119, xkt_126, xkt_159, xkt_576, xkt_999, xkt_9999, xkt_65536, xkt_999999, xkt_m1, xkt_m2, xkt_m3, xkt_m4, xkt_m11, xkt_m12, xkt_m13, xkt_m14, xkt_m20, xjt_0, xjt_1, xjt_2, xjt_3, xjt_4, xjt_5, xjt_6, xjt_7, xjt_8, xjt_9, xjt_10, xjt_11, xjt_12, xjt_13, xjt_14, xjt_16, xjt_20, xjt_24, xjt_31, xjt_32, xjt_40, xjt_44, xjt_47, xjt_48, xjt_57, xjt_59, xjt_60, xjt_63, xjt_64, xjt_65, xjt_72, xjt_95, xjt_99, xjt_100, xjt_101, xjt_103, xjt_110, xjt_112, xjt_113, xjt_114, xjt_119, xjt_126, xjt_159, xjt_576, xjt_999, xjt_9999, xjt_65536, xjt_999999, xt64, xt_n, not_true_eq_false, not_false_eq_true, Classical.not_not] at c_33
          all_goals omega
        · skip
          refine xw_go xb_160 12 (f1 := (29, [.ref 60, .int ((nI k) + 1)], [])) (h1 := (xS b, xm_up (va_up (va_up (I) 69 (va_cpy ((I) 61) ((I) 69) 0 0 159)) 69 (va_cpy ((va_up (I) 69 (va_cpy ((I) 61) ((I) 69) 0 0 159)) 67) ((va_up (I) 69 (va_cpy ((I) 61) ((I) 69) 0 0 159)) 69) 0 159 k)) 69 (159 + (nI k)).toNatClampNeg ((va_up (va_up (I) 69 (va_cpy ((I) 61) ((I) 69) 0 0 159)) 69 (va_cpy ((va_up (I) 69 (va_cpy ((I) 61) ((I) 69) 0 0 159)) 67) ((va_up (I) 69 (va_cpy ((I) 61) ((I) 69) 0 0 159)) 69) 0 159 k)) 67 (nI k).toNatClampNeg), L, xP b)) rfl ⟨rfl, rfl, (xn_ar (n := k) (N := 576) rfl (by omega) (by decide)), (xn_ar' (n := 159 + k) (N := 735) rfl (show 159 + nI k = _ by rw [xl_159, nI_add]) (by omega) (by decide)), trivial⟩ ?_
          refine xw_cong ?_ rfl ?_ ih
          · rw [nI_1]
          · refine congrArg (fun X => (xS b, X, L, xP b)) ?_
            refine xcy_up ?_ ?_
            · simp (disch := omega) only [xl_159, nI_add, xn_cl, Nat.zero_add]
            · rw [xm_vu_o (by decide)]
              simp (disch := omega) only [xl_159, nI_add, xn_cl, Nat.zero_add]
      · skip
        refine xw_go xb_160 3 (f1 := (if 576 ≤ (nI 576) then 58 else 36, [.ref 60, .int (nI 576)], [])) (h1 := (xS b, va_up (va_up (I) 69 (va_cpy ((I) 61) ((I) 69) 0 0 159)) 69 (va_cpy ((va_up (I) 69 (va_cpy ((I) 61) ((I) 69) 0 0 159)) 67) ((va_up (I) 69 (va_cpy ((I) 61) ((I) 69) 0 0 159)) 69) 0 159 576), L, xP b)) rfl trivial ?_
        refine xw_if (fun c_33 => ?_) (fun c_33 => ?_)
        · skip
          refine xw_go xb_160 8 (f1 := (72, [.ref 60, .int (nI 576)], [.int 1])) (h1 := (xS b, xm_up (xm_up (va_up (va_up (I) 69 (va_cpy ((I) 61) ((I) 69) 0 0 159)) 69 (va_cpy ((va_up (I) 69 (va_cpy ((I) 61) ((I) 69) 0 0 159)) 67) ((va_up (I) 69 (va_cpy ((I) 61) ((I) 69) 0 0 159)) 69) 0 159 576)) 60 13 ((va_up (va_up (I) 69 (va_cpy ((I) 61) ((I) 69) 0 0 159)) 69 (va_cpy ((va_up (I) 69 (va_cpy ((I) 61) ((I) 69) 0 0 159)) 67) ((va_up (I) 69 (va_cpy ((I) 61) ((I) 69) 0 0 159)) 69) 0 159 576)) 60 10)) 60 14 1, L, xP b)) rfl ⟨rfl, rfl, rfl, (Or.inr rfl), trivial⟩ ?_
          refine xw_ret xb_160 rfl rfl trivial ?_
          refine ⟨rfl, _, rfl, ⟨fun k hk => ?_, ?_, fun j hj i hi => ?_, ?_⟩, fun a h1 h2 => ?_, fun k h1 h2 => ?_⟩
          · rw [xm_up_o (by decide), xm_up_o (by decide), xvu_at]
            unfold va_cpy
            rw [if_neg (by omega), xvu_at, if_pos (by omega), Nat.zero_add, Nat.sub_zero]
            exact hM.1 k hk
          · rw [xm_up_ne (Or.inr (by decide)), xm_up_at, xm_vu_o (by decide), xm_vu_o (by decide)]
            exact hM.2.1
          · rw [xm_up_o (by decide), xm_up_o (by decide), xvu_at]
            unfold va_cpy
            rw [if_pos (by omega), xm_vu_o (by decide), show 0 + (159 + (72 * j + i) - 159) = 72 * j + i by omega]
            exact hM.2.2 j hj i hi
          · rw [xm_up_at]
          · rw [xm_up_o h1, xm_up_o h1, xm_vu_o h2, xm_vu_o h2]
          · rw [xm_up_ne (Or.inr h2), xm_up_ne (Or.inr h1), xm_vu_o (by decide), xm_vu_o (by decide)]
        · skip
          exfalso
          try simp only [xB_dec, Classical.not_not] at c_33
          try simp (disch := omega) only [xt_eq, xt_lt, xt_le, xkt_0, xkt_1, xkt_2, xkt_3, xkt_4, xkt_5, xkt_6, xkt_7, xkt_8, xkt_9, xkt_10, xkt_11, xkt_12, xkt_13, xkt_14, xkt_16, xkt_20, xkt_24, xkt_31, xkt_32, xkt_40, xkt_44, xkt_47, xkt_48, xkt_57, xkt_59, xkt_60, xkt_63, xkt_64, xkt_65, xkt_72, xkt_95, xkt_99, xkt_100, xkt_101, xkt_103, xkt_110, xkt_112, xkt_113, xkt_114, xkt_119, xkt_126, xkt_159, xkt_576, xkt_999, xkt_9999, xkt_65536, xkt_999999, xkt_m1, xkt_m2, xkt_m3, xkt_m4, xkt_m11, xkt_m12, xkt_m13, xkt_m14, xkt_m20, xjt_0, xjt_1, xjt_2, xjt_3, xjt_4, xjt_5, xjt_6, xjt_7, xjt_8, xjt_9, xjt_10, xjt_11, xjt_12, xjt_13, xjt_14, xjt_16, xjt_20, xjt_24, xjt_31, xjt_32, xjt_40, xjt_44, xjt_47, xjt_48, xjt_57, xjt_59, xjt_60, xjt_63, xjt_64, xjt_65, xjt_72, xjt_95, xjt_99, xjt_100, xjt_101, xjt_103, xjt_110, xjt_112, xjt_113, xjt_114, xjt_119, xjt_126, xjt_159, xjt_576, xjt_999, xjt_9999, xjt_65536, xjt_999999, xt64, xt_n, not_true_eq_false, not_false_eq_true, Classical.not_not] at c_33
          all_goals omega
    · skip
      exfalso
      try simp only [xB_dec, Classical.not_not] at c_6
      try simp (disch := omega) only [xt_eq, xt_lt, xt_le, xkt_0, xkt_1, xkt_2, xkt_3, xkt_4, xkt_5, xkt_6, xkt_7, xkt_8, xkt_9, xkt_10, xkt_11, xkt_12, xkt_13, xkt_14, xkt_16, xkt_20, xkt_24, xkt_31, xkt_32, xkt_40, xkt_44, xkt_47, xkt_48, xkt_57, xkt_59, xkt_60, xkt_63, xkt_64, xkt_65, xkt_72, xkt_95, xkt_99, xkt_100, xkt_101, xkt_103, xkt_110, xkt_112, xkt_113, xkt_114, xkt_119, xkt_126, xkt_159, xkt_576, xkt_999, xkt_9999, xkt_65536, xkt_999999, xkt_m1, xkt_m2, xkt_m3, xkt_m4, xkt_m11, xkt_m12, xkt_m13, xkt_m14, xkt_m20, xjt_0, xjt_1, xjt_2, xjt_3, xjt_4, xjt_5, xjt_6, xjt_7, xjt_8, xjt_9, xjt_10, xjt_11, xjt_12, xjt_13, xjt_14, xjt_16, xjt_20, xjt_24, xjt_31, xjt_32, xjt_40, xjt_44, xjt_47, xjt_48, xjt_57, xjt_59, xjt_60, xjt_63, xjt_64, xjt_65, xjt_72, xjt_95, xjt_99, xjt_100, xjt_101, xjt_103, xjt_110, xjt_112, xjt_113, xjt_114, xjt_119, xjt_126, xjt_159, xjt_576, xjt_999, xjt_9999, xjt_65536, xjt_999999, xt64, xt_n, not_true_eq_false, not_false_eq_true, Classical.not_not] at c_6
      all_goals omega

theorem m_restore0 {d : Nat} {b : Bool} {I : Nat → Nat → Int32} {L : Nat → Nat → Int64} (h0 : I 60 14 = 0) : xm_Z (d + 5) 161 [.ref 60] (xS b, I, L, xP b) (fun rz hz => rz = some (.int (-4)) ∧ hz = (xS b, I, L, xP b)) := by
  refine xw_S xb_161 (l := [.ref 60, .float 0]) (Nat.le_of_ble_eq_true rfl) rfl ?_
  refine xw_go xb_161 3 (f1 := (if ¬ (I 60 14) = 0 then 10 else 7, [.ref 60, .float 0], [])) (h1 := (xS b, I, L, xP b)) rfl ⟨rfl, trivial⟩ ?_
  refine xw_if (fun c_4 => ?_) (fun c_4 => ?_)
  · skip
    exact absurd h0 c_4
  · skip
    refine xw_go xb_161 1 (f1 := (9, [.ref 60, .float 0], [.int (-4)])) (h1 := (xS b, I, L, xP b)) rfl trivial ?_
    refine xw_ret xb_161 rfl rfl trivial ?_
    exact ⟨rfl, rfl⟩

theorem m_restore1 {d : Nat} {b : Bool} {I : Nat → Nat → Int32} {L : Nat → Nat → Int64} {N : Nat → Nat} {u : Nat} {U : Nat → Nat → Nat} (hM : xKM N u U I) (hK : xUK N u U) : xm_Z (d + 5) 161 [.ref 60] (xS b, I, L, xP b) (fun rz hz => rz = some (.int 1) ∧ ∃ I', hz = (xS b, I', L, xP b) ∧ xML N u U I' ∧ (∀ a, a ≠ 60 → a ≠ 61 → a ≠ 67 → I' a = I a) ∧ ∀ k, k ≠ 10 → I' 60 k = I 60 k) := by
  have hu := hK.2.2.1
  refine xw_S xb_161 (l := [.ref 60, .float 0]) (Nat.le_of_ble_eq_true rfl) rfl ?_
  refine xw_go xb_161 3 (f1 := (if ¬ (I 60 14) = 0 then 10 else 7, [.ref 60, .float 0], [])) (h1 := (xS b, I, L, xP b)) rfl ⟨rfl, trivial⟩ ?_
  refine xw_if (fun c_4 => ?_) (fun c_4 => ?_)
  · skip
    refine xw_go xb_161 2 (f1 := (12, [.ref 60, .int 0], [])) (h1 := (xS b, I, L, xP b)) rfl trivial ?_
    refine xw_at (f' := (12, [.ref 60, .int (nI 0)], [])) (h' := (xS b, va_up (I) 61 (va_cpy ((I) 69) ((I) 61) 0 0 0), L, xP b)) rfl (by rw [xcy_0, xm_up_id]) ?_
    refine xw_loop 159 (fun k => (12, [.ref 60, .int (nI k)], [])) (fun k => (xS b, va_up (I) 61 (va_cpy ((I) 69) ((I) 61) 0 0 k), L, xP b)) (fun k hk ih => ?_) ?_ 0 (Nat.zero_le _)
    · skip
      refine xw_go xb_161 3 (f1 := (if 159 ≤ (nI k) then 37 else 19, [.ref 60, .int (nI k)], [])) (h1 := (xS b, va_up (I) 61 (va_cpy ((I) 69) ((I) 61) 0 0 k), L, xP b)) rfl trivial ?_
      refine xw_if (fun c_16 => ?_) (fun c_16 => ?_)
      · skip
        exfalso
        try simp only [xB_dec, Classical.not_not] at c_16
        try simp (disch := omega) only [xt_eq, xt_lt, xt_le, xkt_0, xkt_1, xkt_2, xkt_3, xkt_4, xkt_5, xkt_6, xkt_7, xkt_8, xkt_9, xkt_10, xkt_11, xkt_12, xkt_13, xkt_14, xkt_16, xkt_20, xkt_24, xkt_31, xkt_32, xkt_40, xkt_44, xkt_47, xkt_48, xkt_57, xkt_59, xkt_60, xkt_63, xkt_64, xkt_65, xkt_72, xkt_95, xkt_99, xkt_100, xkt_101, xkt_103, xkt_110, xkt_112, xkt_113, xkt_114, xkt_119, xkt_126, xkt_159, xkt_576, xkt_999, xkt_9999, xkt_65536, xkt_999999, xkt_m1, xkt_m2, xkt_m3, xkt_m4, xkt_m11, xkt_m12, xkt_m13, xkt_m14, xkt_m20, xjt_0, xjt_1, xjt_2, xjt_3, xjt_4, xjt_5, xjt_6, xjt_7, xjt_8, xjt_9, xjt_10, xjt_11, xjt_12, xjt_13, xjt_14, xjt_16, xjt_20, xjt_24, xjt_31, xjt_32, xjt_40, xjt_44, xjt_47, xjt_48, xjt_57, xjt_59, xjt_60, xjt_63, xjt_64, xjt_65, xjt_72, xjt_95, xjt_99, xjt_100, xjt_101, xjt_103, xjt_110, xjt_112, xjt_113, xjt_114, xjt_119, xjt_126, xjt_159, xjt_576, xjt_999, xjt_9999, xjt_65536, xjt_999999, xt64, xt_n, not_true_eq_false, not_false_eq_true, Classical.not_not] at c_16
        all_goals omega
      · skip
        refine xw_go xb_161 10 (f1 := (12, [.ref 60, .int ((nI k) + 1)], [])) (h1 := (xS b, xm_up (va_up (I) 61 (va_cpy ((I) 69) ((I) 61) 0 0 k)) 61 (nI k).toNatClampNeg ((va_up (I) 61 (va_cpy ((I) 69) ((I) 61) 0 0 k)) 69 (nI k).toNatClampNeg), L, xP b)) rfl ⟨rfl, rfl, (xn_ar (n := k) (N := 735) rfl (by omega) (by decide)), (xn_ar (n := k) (N := 159) rfl (by omega) (by decide)), trivial⟩ ?_
        refine xw_cong ?_ rfl ?_ ih
        · rw [nI_1]
        · refine congrArg (fun X => (xS b, X, L, xP b)) ?_
          refine xcy_up ?_ ?_
          · simp (disch := omega) only [xl_159, nI_add, xn_cl, Nat.zero_add]
          · rw [xm_vu_o (by decide)]
            simp (disch := omega) only [xl_159, nI_add, xn_cl, Nat.zero_add]
    · skip
      refine xw_go xb_161 3 (f1 := (if 159 ≤ (nI 159) then 37 else 19, [.ref 60, .int (nI 159)], [])) (h1 := (xS b, va_up (I) 61 (va_cpy ((I) 69) ((I) 61) 0 0 159), L, xP b)) rfl trivial ?_
      refine xw_if (fun c_16 => ?_) (fun c_16 => ?_)
      · skip
        refine xw_go xb_161 2 (f1 := (39, [.ref 60, .int 0], [])) (h1 := (xS b, va_up (I) 61 (va_cpy ((I) 69) ((I) 61) 0 0 159), L, xP b)) rfl trivial ?_
        refine xw_at (f' := (39, [.ref 60, .int (nI 0)], [])) (h' := (xS b, va_up (va_up (I) 61 (va_cpy ((I) 69) ((I) 61) 0 0 159)) 67 (va_cpy ((va_up (I) 61 (va_cpy ((I) 69) ((I) 61) 0 0 159)) 69) ((va_up (I) 61 (va_cpy ((I) 69) ((I) 61) 0 0 159)) 67) 159 0 0), L, xP b)) rfl (by rw [xcy_0, xm_up_id]) ?_
        refine xw_loop 576 (fun k => (39, [.ref 60, .int (nI k)], [])) (fun k => (xS b, va_up (va_up (I) 61 (va_cpy ((I) 69) ((I) 61) 0 0 159)) 67 (va_cpy ((va_up (I) 61 (va_cpy ((I) 69) ((I) 61) 0 0 159)) 69) ((va_up (I) 61 (va_cpy ((I) 69) ((I) 61) 0 0 159)) 67) 159 0 k), L, xP b)) (fun k hk ih => ?_) ?_ 0 (Nat.zero_le _)
        · skip
          refine xw_go xb_161 3 (f1 := (if 576 ≤ (nI k) then 68 else 46, [.ref 60, .int (nI k)], [])) (h1 := (xS b, va_up (va_up (I) 61 (va_cpy ((I) 69) ((I) 61) 0 0 159)) 67 (va_cpy ((va_up (I) 61 (va_cpy ((I) 69) ((I) 61) 0 0 159)) 69) ((va_up (I) 61 (va_cpy ((I) 69) ((I) 61) 0 0 159)) 67) 159 0 k), L, xP b)) rfl trivial ?_
          refine xw_if (fun c_43 => ?_) (fun c_43 => ?_)
          · skip
            exfalso
            try simp only [xB_dec, Classical.not_not] at c_43
            try simp (disch := omega) only [xt_eq, xt_lt, xt_le, xkt_0, xkt_1, xkt_2, xkt_3, xkt_4, xkt_5, xkt_6, xkt_7, xkt_8, xkt_9, xkt_10, xkt_11, xkt_12, xkt_13, xkt_14, xkt_16, xkt_20, xkt_24, xkt_31, xkt_32, xkt_40, xkt_44, xkt_47, xkt_48, xkt_57, xkt_59, xkt_60, xkt_63, xkt_64, xkt_65, xkt_72, xkt_95, xkt_99, xkt_100, xkt_101, xkt_103, xkt_110, xkt_112, xkt_113, xkt_114, xkt_119, xkt_126, xkt_159, xkt_576, xkt_999, xkt_9999, xkt_65536, xkt_999999, xkt_m1, xkt_m2, xkt_m3, xkt_m4, xkt_m11, xkt_m12, xkt_m13, xkt_m14, xkt_m20, xjt_0, xjt_1, xjt_2, xjt_3, xjt_4, xjt_5, xjt_6, xjt_7, xjt_8, xjt_9, xjt_10, xjt_11, xjt_12, xjt_13, xjt_14, xjt_16, xjt_20, xjt_24, xjt_31, xjt_32, xjt_40, xjt_44, xjt_47, xjt_48, xjt_57, xjt_59, xjt_60, xjt_63, xjt_64, xjt_65, xjt_72, xjt_95, xjt_99, xjt_100, xjt_101, xjt_103, xjt_110, xjt_112, xjt_113, xjt_114, xjt_119, xjt_126, xjt_159, xjt_576, xjt_999, xjt_9999, xjt_65536, xjt_999999, xt64, xt_n, not_true_eq_false, not_false_eq_true, Classical.not_not] at c_43
            all_goals omega
          · skip
            refine xw_go xb_161 12 (f1 := (39, [.ref 60, .int ((nI k) + 1)], [])) (h1 := (xS b, xm_up (va_up (va_up (I) 61 (va_cpy ((I) 69) ((I) 61) 0 0 159)) 67 (va_cpy ((va_up (I) 61 (va_cpy ((I) 69) ((I) 61) 0 0 159)) 69) ((va_up (I) 61 (va_cpy ((I) 69) ((I) 61) 0 0 159)) 67) 159 0 k)) 67 (nI k).toNatClampNeg ((va_up (va_up (I) 61 (va_cpy ((I) 69) ((I) 61) 0 0 159)) 67 (va_cpy ((va_up (I) 61 (va_cpy ((I) 69) ((I) 61) 0 0 159)) 69) ((va_up (I) 61 (va_cpy ((I) 69) ((I) 61) 0 0 159)) 67) 159 0 k)) 69 (159 + (nI k)).toNatClampNeg), L, xP b)) rfl ⟨rfl, rfl, (xn_ar' (n := 159 + k) (N := 735) rfl (show 159 + nI k = _ by rw [xl_159, nI_add]) (by omega) (by decide)), (xn_ar (n := k) (N := 576) rfl (by omega) (by decide)), trivial⟩ ?_
            refine xw_cong ?_ rfl ?_ ih
            · rw [nI_1]
            · refine congrArg (fun X => (xS b, X, L, xP b)) ?_
              refine xcy_up ?_ ?_
              · simp (disch := omega) only [xl_159, nI_add, xn_cl, Nat.zero_add]
              · rw [xm_vu_o (by decide)]
                simp (disch := omega) only [xl_159, nI_add, xn_cl, Nat.zero_add]
        · skip
          refine xw_go xb_161 3 (f1 := (if 576 ≤ (nI 576) then 68 else 46, [.ref 60, .int (nI 576)], [])) (h1 := (xS b, va_up (va_up (I) 61 (va_cpy ((I) 69) ((I) 61) 0 0 159)) 67 (va_cpy ((va_up (I) 61 (va_cpy ((I) 69) ((I) 61) 0 0 159)) 69) ((va_up (I) 61 (va_cpy ((I) 69) ((I) 61) 0 0 159)) 67) 159 0 576), L, xP b)) rfl trivial ?_
          refine xw_if (fun c_43 => ?_) (fun c_43 => ?_)
          · skip
            refine xw_go xb_161 5 (f1 := (77, [.ref 60, .int (nI 576)], [.int 1])) (h1 := (xS b, xm_up (va_up (va_up (I) 61 (va_cpy ((I) 69) ((I) 61) 0 0 159)) 67 (va_cpy ((va_up (I) 61 (va_cpy ((I) 69) ((I) 61) 0 0 159)) 69) ((va_up (I) 61 (va_cpy ((I) 69) ((I) 61) 0 0 159)) 67) 159 0 576)) 60 10 ((va_up (va_up (I) 61 (va_cpy ((I) 69) ((I) 61) 0 0 159)) 67 (va_cpy ((va_up (I) 61 (va_cpy ((I) 69) ((I) 61) 0 0 159)) 69) ((va_up (I) 61 (va_cpy ((I) 69) ((I) 61) 0 0 159)) 67) 159 0 576)) 60 13), L, xP b)) rfl ⟨rfl, rfl, trivial⟩ ?_
            refine xw_ret xb_161 rfl rfl trivial ?_
            refine ⟨rfl, _, rfl, ⟨fun k hk => ?_, ?_, fun j hj i hi => ?_⟩, fun a h1 h2 h3 => ?_, fun k h1 => ?_⟩
            · rw [xm_up_o (by decide), xm_vu_o (by decide), xvu_at]
              unfold va_cpy
              rw [if_pos (by omega), Nat.zero_add, Nat.sub_zero]
              exact hM.1 k hk
            · rw [xm_up_at, xm_vu_o (by decide), xm_vu_o (by decide)]
              exact hM.2.1
            · rw [xm_up_o (by decide), xvu_at]
              unfold va_cpy
              rw [if_pos (by omega), xm_vu_o (by decide), Nat.sub_zero]
              exact hM.2.2.1 j hj i hi
            · rw [xm_up_o h1, xm_vu_o h3, xm_vu_o h2]
            · rw [xm_up_ne (Or.inr h1), xm_vu_o (by decide), xm_vu_o (by decide)]
          · skip
            exfalso
            try simp only [xB_dec, Classical.not_not] at c_43
            try simp (disch := omega) only [xt_eq, xt_lt, xt_le, xkt_0, xkt_1, xkt_2, xkt_3, xkt_4, xkt_5, xkt_6, xkt_7, xkt_8, xkt_9, xkt_10, xkt_11, xkt_12, xkt_13, xkt_14, xkt_16, xkt_20, xkt_24, xkt_31, xkt_32, xkt_40, xkt_44, xkt_47, xkt_48, xkt_57, xkt_59, xkt_60, xkt_63, xkt_64, xkt_65, xkt_72, xkt_95, xkt_99, xkt_100, xkt_101, xkt_103, xkt_110, xkt_112, xkt_113, xkt_114, xkt_119, xkt_126, xkt_159, xkt_576, xkt_999, xkt_9999, xkt_65536, xkt_999999, xkt_m1, xkt_m2, xkt_m3, xkt_m4, xkt_m11, xkt_m12, xkt_m13, xkt_m14, xkt_m20, xjt_0, xjt_1, xjt_2, xjt_3, xjt_4, xjt_5, xjt_6, xjt_7, xjt_8, xjt_9, xjt_10, xjt_11, xjt_12, xjt_13, xjt_14, xjt_16, xjt_20, xjt_24, xjt_31, xjt_32, xjt_40, xjt_44, xjt_47, xjt_48, xjt_57, xjt_59, xjt_60, xjt_63, xjt_64, xjt_65, xjt_72, xjt_95, xjt_99, xjt_100, xjt_101, xjt_103, xjt_110, xjt_112, xjt_113, xjt_114, xjt_119, xjt_126, xjt_159, xjt_576, xjt_999, xjt_9999, xjt_65536, xjt_999999, xt64, xt_n, not_true_eq_false, not_false_eq_true, Classical.not_not] at c_43
            all_goals omega
      · skip
        exfalso
        try simp only [xB_dec, Classical.not_not] at c_16
        try simp (disch := omega) only [xt_eq, xt_lt, xt_le, xkt_0, xkt_1, xkt_2, xkt_3, xkt_4, xkt_5, xkt_6, xkt_7, xkt_8, xkt_9, xkt_10, xkt_11, xkt_12, xkt_13, xkt_14, xkt_16, xkt_20, xkt_24, xkt_31, xkt_32, xkt_40, xkt_44, xkt_47, xkt_48, xkt_57, xkt_59, xkt_60, xkt_63, xkt_64, xkt_65, xkt_72, xkt_95, xkt_99, xkt_100, xkt_101, xkt_103, xkt_110, xkt_112, xkt_113, xkt_114, xkt_119, xkt_126, xkt_159, xkt_576, xkt_999, xkt_9999, xkt_65536, xkt_999999, xkt_m1, xkt_m2, xkt_m3, xkt_m4, xkt_m11, xkt_m12, xkt_m13, xkt_m14, xkt_m20, xjt_0, xjt_1, xjt_2, xjt_3, xjt_4, xjt_5, xjt_6, xjt_7, xjt_8, xjt_9, xjt_10, xjt_11, xjt_12, xjt_13, xjt_14, xjt_16, xjt_20, xjt_24, xjt_31, xjt_32, xjt_40, xjt_44, xjt_47, xjt_48, xjt_57, xjt_59, xjt_60, xjt_63, xjt_64, xjt_65, xjt_72, xjt_95, xjt_99, xjt_100, xjt_101, xjt_103, xjt_110, xjt_112, xjt_113, xjt_114, xjt_119, xjt_126, xjt_159, xjt_576, xjt_999, xjt_9999, xjt_65536, xjt_999999, xt64, xt_n, not_true_eq_false, not_false_eq_true, Classical.not_not] at c_16
        all_goals omega
  · skip
    rw [hM.2.2.2] at c_4
    exact absurd c_4 (by decide)

