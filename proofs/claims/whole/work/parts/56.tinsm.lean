/-! ===== calls: tins, the model ===== -/
theorem m_tins0 {d : Nat} {b : Bool} {I : Nat → Nat → Int32} {L : Nat → Nat → Int64} {N : Nat → Nat} {u : Nat} {U : Nat → Nat → Nat} (hM : xML N u U I) (hK : xUK N u U) {x y i z v w : Int32} (hx : ¬ (0 ≤ x.toInt ∧ x.toInt ≤ 3 ∧ 0 ≤ y.toInt ∧ y.toInt ≤ 3 ∧ 1 ≤ z.toInt ∧ z.toInt ≤ 8 ∧ 1 ≤ v.toInt ∧ v.toInt ≤ 20 ∧ 0 ≤ w.toInt ∧ w.toInt ≤ 1)) : xm_Z (d + 7) 162 [.ref 60, .int x, .int y, .int i, .int z, .int v, .int w] (xS b, I, L, xP b) (fun rz hz => xQM b I L (-1) N u U rz hz) := by
  refine xw_S xb_162 (l := [.ref 60, .int x, .int y, .int i, .int z, .int v, .int w, .float 0, .float 0, .float 0, .float 0, .float 0, .float 0, .float 0, .float 0]) (Nat.le_of_ble_eq_true rfl) rfl ?_
  refine xw_go xb_162 1 (f1 := (1, [.ref 60, .int x, .int y, .int i, .int z, .int v, .int w, .float 0, .float 0, .float 0, .float 0, .float 0, .float 0, .float 0, .float 0], [.int x])) (h1 := (xS b, I, L, xP b)) rfl trivial ?_
  refine xw_call xb_162 rfl rfl rfl rfl rfl (Or.inl rfl) m_isSheet ?_
  rintro _ _ ⟨rfl, rfl⟩
  refine xw_at (f' := (4, [.ref 60, .int x, .int y, .int i, .int z, .int v, .int w, .float 0, .float 0, .float 0, .float 0, .float 0, .float 0, .float 0, .float 0], [.int (nI (xB (decide (0 ≤ x.toInt ∧ x.toInt ≤ 3))))])) (h' := (xS b, I, L, xP b)) rfl rfl ?_
  refine xw_go xb_162 1 (f1 := (if (nI (xB (decide (0 ≤ x.toInt ∧ x.toInt ≤ 3)))) = 0 then 51 else 7, [.ref 60, .int x, .int y, .int i, .int z, .int v, .int w, .float 0, .float 0, .float 0, .float 0, .float 0, .float 0, .float 0, .float 0], [])) (h1 := (xS b, I, L, xP b)) rfl trivial ?_
  refine xw_if (fun c_4 => ?_) (fun c_4 => ?_)
  · skip
    refine xw_go xb_162 1 (f1 := (52, [.ref 60, .int x, .int y, .int i, .int z, .int v, .int w, .float 0, .float 0, .float 0, .float 0, .float 0, .float 0, .float 0, .float 0], [.int (-1)])) (h1 := (xS b, I, L, xP b)) rfl trivial ?_
    refine xw_ret xb_162 rfl rfl trivial ?_
    exact xQM_same hM
  · skip
    refine xw_go xb_162 1 (f1 := (8, [.ref 60, .int x, .int y, .int i, .int z, .int v, .int w, .float 0, .float 0, .float 0, .float 0, .float 0, .float 0, .float 0, .float 0], [.int y])) (h1 := (xS b, I, L, xP b)) rfl trivial ?_
    refine xw_call xb_162 rfl rfl rfl rfl rfl (Or.inl rfl) m_isLane ?_
    rintro _ _ ⟨rfl, rfl⟩
    refine xw_at (f' := (11, [.ref 60, .int x, .int y, .int i, .int z, .int v, .int w, .float 0, .float 0, .float 0, .float 0, .float 0, .float 0, .float 0, .float 0], [.int (nI (xB (decide (0 ≤ y.toInt ∧ y.toInt ≤ 3))))])) (h' := (xS b, I, L, xP b)) rfl rfl ?_
    refine xw_go xb_162 1 (f1 := (if (nI (xB (decide (0 ≤ y.toInt ∧ y.toInt ≤ 3)))) = 0 then 51 else 14, [.ref 60, .int x, .int y, .int i, .int z, .int v, .int w, .float 0, .float 0, .float 0, .float 0, .float 0, .float 0, .float 0, .float 0], [])) (h1 := (xS b, I, L, xP b)) rfl trivial ?_
    refine xw_if (fun c_11 => ?_) (fun c_11 => ?_)
    · skip
      refine xw_go xb_162 1 (f1 := (52, [.ref 60, .int x, .int y, .int i, .int z, .int v, .int w, .float 0, .float 0, .float 0, .float 0, .float 0, .float 0, .float 0, .float 0], [.int (-1)])) (h1 := (xS b, I, L, xP b)) rfl trivial ?_
      refine xw_ret xb_162 rfl rfl trivial ?_
      exact xQM_same hM
    · skip
      refine xw_go xb_162 4 (f1 := (21, [.ref 60, .int x, .int y, .int i, .int z, .int v, .int w, .float 0, .float 0, .float 0, .float 0, .float 0, .float 0, .float 0, .float 0], [.long 8, .long 1, .long z.toInt64])) (h1 := (xS b, I, L, xP b)) rfl trivial ?_
      refine xw_call xb_162 rfl rfl rfl rfl rfl (Or.inl rfl) m_in ?_
      rintro _ _ ⟨rfl, rfl⟩
      refine xw_at (f' := (24, [.ref 60, .int x, .int y, .int i, .int z, .int v, .int w, .float 0, .float 0, .float 0, .float 0, .float 0, .float 0, .float 0, .float 0], [.int (nI (xB (decide ((1 : Int64).toInt ≤ z.toInt64.toInt ∧ z.toInt64.toInt ≤ (8 : Int64).toInt))))])) (h' := (xS b, I, L, xP b)) rfl rfl ?_
      refine xw_go xb_162 1 (f1 := (if (nI (xB (decide ((1 : Int64).toInt ≤ z.toInt64.toInt ∧ z.toInt64.toInt ≤ (8 : Int64).toInt)))) = 0 then 51 else 27, [.ref 60, .int x, .int y, .int i, .int z, .int v, .int w, .float 0, .float 0, .float 0, .float 0, .float 0, .float 0, .float 0, .float 0], [])) (h1 := (xS b, I, L, xP b)) rfl trivial ?_
      refine xw_if (fun c_24 => ?_) (fun c_24 => ?_)
      · skip
        refine xw_go xb_162 1 (f1 := (52, [.ref 60, .int x, .int y, .int i, .int z, .int v, .int w, .float 0, .float 0, .float 0, .float 0, .float 0, .float 0, .float 0, .float 0], [.int (-1)])) (h1 := (xS b, I, L, xP b)) rfl trivial ?_
        refine xw_ret xb_162 rfl rfl trivial ?_
        exact xQM_same hM
      · skip
        refine xw_go xb_162 4 (f1 := (34, [.ref 60, .int x, .int y, .int i, .int z, .int v, .int w, .float 0, .float 0, .float 0, .float 0, .float 0, .float 0, .float 0, .float 0], [.long 20, .long 1, .long v.toInt64])) (h1 := (xS b, I, L, xP b)) rfl trivial ?_
        refine xw_call xb_162 rfl rfl rfl rfl rfl (Or.inl rfl) m_in ?_
        rintro _ _ ⟨rfl, rfl⟩
        refine xw_at (f' := (37, [.ref 60, .int x, .int y, .int i, .int z, .int v, .int w, .float 0, .float 0, .float 0, .float 0, .float 0, .float 0, .float 0, .float 0], [.int (nI (xB (decide ((1 : Int64).toInt ≤ v.toInt64.toInt ∧ v.toInt64.toInt ≤ (20 : Int64).toInt))))])) (h' := (xS b, I, L, xP b)) rfl rfl ?_
        refine xw_go xb_162 1 (f1 := (if (nI (xB (decide ((1 : Int64).toInt ≤ v.toInt64.toInt ∧ v.toInt64.toInt ≤ (20 : Int64).toInt)))) = 0 then 51 else 40, [.ref 60, .int x, .int y, .int i, .int z, .int v, .int w, .float 0, .float 0, .float 0, .float 0, .float 0, .float 0, .float 0, .float 0], [])) (h1 := (xS b, I, L, xP b)) rfl trivial ?_
        refine xw_if (fun c_37 => ?_) (fun c_37 => ?_)
        · skip
          refine xw_go xb_162 1 (f1 := (52, [.ref 60, .int x, .int y, .int i, .int z, .int v, .int w, .float 0, .float 0, .float 0, .float 0, .float 0, .float 0, .float 0, .float 0], [.int (-1)])) (h1 := (xS b, I, L, xP b)) rfl trivial ?_
          refine xw_ret xb_162 rfl rfl trivial ?_
          exact xQM_same hM
        · skip
          refine xw_go xb_162 4 (f1 := (45, [.ref 60, .int x, .int y, .int i, .int z, .int v, .int w, .float 0, .float 0, .float 0, .float 0, .float 0, .float 0, .float 0, .float 0], [.long 1, .long 0, .long w.toInt64])) (h1 := (xS b, I, L, xP b)) rfl trivial ?_
          refine xw_call xb_162 rfl rfl rfl rfl rfl (Or.inl rfl) m_in ?_
          rintro _ _ ⟨rfl, rfl⟩
          refine xw_at (f' := (48, [.ref 60, .int x, .int y, .int i, .int z, .int v, .int w, .float 0, .float 0, .float 0, .float 0, .float 0, .float 0, .float 0, .float 0], [.int (nI (xB (decide ((0 : Int64).toInt ≤ w.toInt64.toInt ∧ w.toInt64.toInt ≤ (1 : Int64).toInt))))])) (h' := (xS b, I, L, xP b)) rfl rfl ?_
          refine xw_go xb_162 1 (f1 := (if ¬ (nI (xB (decide ((0 : Int64).toInt ≤ w.toInt64.toInt ∧ w.toInt64.toInt ≤ (1 : Int64).toInt)))) = 0 then 53 else 51, [.ref 60, .int x, .int y, .int i, .int z, .int v, .int w, .float 0, .float 0, .float 0, .float 0, .float 0, .float 0, .float 0, .float 0], [])) (h1 := (xS b, I, L, xP b)) rfl trivial ?_
          refine xw_if (fun c_48 => ?_) (fun c_48 => ?_)
          · skip
            exfalso
            try simp only [xB_dec, Classical.not_not] at c_4 c_11 c_24 c_37 c_48
            try simp (disch := omega) only [xt_eq, xt_lt, xt_le, xkt_0, xkt_1, xkt_2, xkt_3, xkt_4, xkt_5, xkt_6, xkt_7, xkt_8, xkt_9, xkt_10, xkt_11, xkt_12, xkt_13, xkt_14, xkt_16, xkt_20, xkt_24, xkt_31, xkt_32, xkt_40, xkt_44, xkt_47, xkt_48, xkt_57, xkt_59, xkt_60, xkt_63, xkt_64, xkt_65, xkt_72, xkt_95, xkt_99, xkt_100, xkt_101, xkt_103, xkt_110, xkt_112, xkt_113, xkt_114, xkt_119, xkt_126, xkt_159, xkt_576, xkt_999, xkt_9999, xkt_65536, xkt_999999, xkt_m1, xkt_m2, xkt_m3, xkt_m4, xkt_m11, xkt_m12, xkt_m13, xkt_m14, xkt_m20, xjt_0, xjt_1, xjt_2, xjt_3, xjt_4, xjt_5, xjt_6, xjt_7, xjt_8, xjt_9, xjt_10, xjt_11, xjt_12, xjt_13, xjt_14, xjt_16, xjt_20, xjt_24, xjt_31, xjt_32, xjt_40, xjt_44, xjt_47, xjt_48, xjt_57, xjt_59, xjt_60, xjt_63, xjt_64, xjt_65, xjt_72, xjt_95, xjt_99, xjt_100, xjt_101, xjt_103, xjt_110, xjt_112, xjt_113, xjt_114, xjt_119, xjt_126, xjt_159, xjt_576, xjt_999, xjt_9999, xjt_65536, xjt_999999, xt64, xt_n, not_true_eq_false, not_false_eq_true, Classical.not_not] at c_4 c_11 c_24 c_37 c_48
            all_goals omega
          · skip
            refine xw_go xb_162 1 (f1 := (52, [.ref 60, .int x, .int y, .int i, .int z, .int v, .int w, .float 0, .float 0, .float 0, .float 0, .float 0, .float 0, .float 0, .float 0], [.int (-1)])) (h1 := (xS b, I, L, xP b)) rfl trivial ?_
            refine xw_ret xb_162 rfl rfl trivial ?_
            exact xQM_same hM

theorem m_tins2 {d : Nat} {b : Bool} {I : Nat → Nat → Int32} {L : Nat → Nat → Int64} {N : Nat → Nat} {u : Nat} {U : Nat → Nat → Nat} (hM : xML N u U I) (hK : xUK N u U) {Y : xY} (hS : xSM Y I L) (hY : xYK Y) {n m t : Nat} (hn : 1 ≤ n ∧ n ≤ 8) (hm : 1 ≤ m ∧ m ≤ 20) (ht : t < 2) {s : Nat} (hs : s < 4) {la : Nat} (bl : la < 4) {i : Int32} (hw : xwy (Y s) la i (nI (2 * n)) ≠ 0) {x : Int32} (e_x : x = nI s) {y : Int32} (e_y : y = nI la) {z : Int32} (e_z : z = nI n) {v : Int32} (e_v : v = nI m) {w : Int32} (e_w : w = nI t) : xm_Z (d + 7) 162 [.ref 60, .int x, .int y, .int i, .int z, .int v, .int w] (xS b, I, L, xP b) (fun rz hz => xQM b I L (xwy (Y s) la i (nI (2 * n))) N u U rz hz) := by
  subst e_x
  subst e_y
  subst e_z
  subst e_v
  subst e_w
  refine xw_S xb_162 (l := [.ref 60, .int (nI s), .int (nI la), .int i, .int (nI n), .int (nI m), .int (nI t), .float 0, .float 0, .float 0, .float 0, .float 0, .float 0, .float 0, .float 0]) (Nat.le_of_ble_eq_true rfl) rfl ?_
  refine xw_go xb_162 1 (f1 := (1, [.ref 60, .int (nI s), .int (nI la), .int i, .int (nI n), .int (nI m), .int (nI t), .float 0, .float 0, .float 0, .float 0, .float 0, .float 0, .float 0, .float 0], [.int (nI s)])) (h1 := (xS b, I, L, xP b)) rfl trivial ?_
  refine xw_call xb_162 rfl rfl rfl rfl rfl (Or.inl rfl) m_isSheet ?_
  rintro _ _ ⟨rfl, rfl⟩
  refine xw_at (f' := (4, [.ref 60, .int (nI s), .int (nI la), .int i, .int (nI n), .int (nI m), .int (nI t), .float 0, .float 0, .float 0, .float 0, .float 0, .float 0, .float 0, .float 0], [.int (nI (xB (decide (0 ≤ (nI s).toInt ∧ (nI s).toInt ≤ 3))))])) (h' := (xS b, I, L, xP b)) rfl rfl ?_
  refine xw_go xb_162 1 (f1 := (if (nI (xB (decide (0 ≤ (nI s).toInt ∧ (nI s).toInt ≤ 3)))) = 0 then 51 else 7, [.ref 60, .int (nI s), .int (nI la), .int i, .int (nI n), .int (nI m), .int (nI t), .float 0, .float 0, .float 0, .float 0, .float 0, .float 0, .float 0, .float 0], [])) (h1 := (xS b, I, L, xP b)) rfl trivial ?_
  refine xw_if (fun c_4 => ?_) (fun c_4 => ?_)
  · skip
    exfalso
    try simp only [xB_dec, Classical.not_not] at c_4
    try simp (disch := omega) only [xt_eq, xt_lt, xt_le, xkt_0, xkt_1, xkt_2, xkt_3, xkt_4, xkt_5, xkt_6, xkt_7, xkt_8, xkt_9, xkt_10, xkt_11, xkt_12, xkt_13, xkt_14, xkt_16, xkt_20, xkt_24, xkt_31, xkt_32, xkt_40, xkt_44, xkt_47, xkt_48, xkt_57, xkt_59, xkt_60, xkt_63, xkt_64, xkt_65, xkt_72, xkt_95, xkt_99, xkt_100, xkt_101, xkt_103, xkt_110, xkt_112, xkt_113, xkt_114, xkt_119, xkt_126, xkt_159, xkt_576, xkt_999, xkt_9999, xkt_65536, xkt_999999, xkt_m1, xkt_m2, xkt_m3, xkt_m4, xkt_m11, xkt_m12, xkt_m13, xkt_m14, xkt_m20, xjt_0, xjt_1, xjt_2, xjt_3, xjt_4, xjt_5, xjt_6, xjt_7, xjt_8, xjt_9, xjt_10, xjt_11, xjt_12, xjt_13, xjt_14, xjt_16, xjt_20, xjt_24, xjt_31, xjt_32, xjt_40, xjt_44, xjt_47, xjt_48, xjt_57, xjt_59, xjt_60, xjt_63, xjt_64, xjt_65, xjt_72, xjt_95, xjt_99, xjt_100, xjt_101, xjt_103, xjt_110, xjt_112, xjt_113, xjt_114, xjt_119, xjt_126, xjt_159, xjt_576, xjt_999, xjt_9999, xjt_65536, xjt_999999, xt64, xt_n, not_true_eq_false, not_false_eq_true, Classical.not_not] at c_4
    all_goals omega
  · skip
    refine xw_go xb_162 1 (f1 := (8, [.ref 60, .int (nI s), .int (nI la), .int i, .int (nI n), .int (nI m), .int (nI t), .float 0, .float 0, .float 0, .float 0, .float 0, .float 0, .float 0, .float 0], [.int (nI la)])) (h1 := (xS b, I, L, xP b)) rfl trivial ?_
    refine xw_call xb_162 rfl rfl rfl rfl rfl (Or.inl rfl) m_isLane ?_
    rintro _ _ ⟨rfl, rfl⟩
    refine xw_at (f' := (11, [.ref 60, .int (nI s), .int (nI la), .int i, .int (nI n), .int (nI m), .int (nI t), .float 0, .float 0, .float 0, .float 0, .float 0, .float 0, .float 0, .float 0], [.int (nI (xB (decide (0 ≤ (nI la).toInt ∧ (nI la).toInt ≤ 3))))])) (h' := (xS b, I, L, xP b)) rfl rfl ?_
    refine xw_go xb_162 1 (f1 := (if (nI (xB (decide (0 ≤ (nI la).toInt ∧ (nI la).toInt ≤ 3)))) = 0 then 51 else 14, [.ref 60, .int (nI s), .int (nI la), .int i, .int (nI n), .int (nI m), .int (nI t), .float 0, .float 0, .float 0, .float 0, .float 0, .float 0, .float 0, .float 0], [])) (h1 := (xS b, I, L, xP b)) rfl trivial ?_
    refine xw_if (fun c_11 => ?_) (fun c_11 => ?_)
    · skip
      exfalso
      try simp only [xB_dec, Classical.not_not] at c_4 c_11
      try simp (disch := omega) only [xt_eq, xt_lt, xt_le, xkt_0, xkt_1, xkt_2, xkt_3, xkt_4, xkt_5, xkt_6, xkt_7, xkt_8, xkt_9, xkt_10, xkt_11, xkt_12, xkt_13, xkt_14, xkt_16, xkt_20, xkt_24, xkt_31, xkt_32, xkt_40, xkt_44, xkt_47, xkt_48, xkt_57, xkt_59, xkt_60, xkt_63, xkt_64, xkt_65, xkt_72, xkt_95, xkt_99, xkt_100, xkt_101, xkt_103, xkt_110, xkt_112, xkt_113, xkt_114, xkt_119, xkt_126, xkt_159, xkt_576, xkt_999, xkt_9999, xkt_65536, xkt_999999, xkt_m1, xkt_m2, xkt_m3, xkt_m4, xkt_m11, xkt_m12, xkt_m13, xkt_m14, xkt_m20, xjt_0, xjt_1, xjt_2, xjt_3, xjt_4, xjt_5, xjt_6, xjt_7, xjt_8, xjt_9, xjt_10, xjt_11, xjt_12, xjt_13, xjt_14, xjt_16, xjt_20, xjt_24, xjt_31, xjt_32, xjt_40, xjt_44, xjt_47, xjt_48, xjt_57, xjt_59, xjt_60, xjt_63, xjt_64, xjt_65, xjt_72, xjt_95, xjt_99, xjt_100, xjt_101, xjt_103, xjt_110, xjt_112, xjt_113, xjt_114, xjt_119, xjt_126, xjt_159, xjt_576, xjt_999, xjt_9999, xjt_65536, xjt_999999, xt64, xt_n, not_true_eq_false, not_false_eq_true, Classical.not_not] at c_4 c_11
      all_goals omega
    · skip
      refine xw_go xb_162 4 (f1 := (21, [.ref 60, .int (nI s), .int (nI la), .int i, .int (nI n), .int (nI m), .int (nI t), .float 0, .float 0, .float 0, .float 0, .float 0, .float 0, .float 0, .float 0], [.long 8, .long 1, .long ((nI n).toInt64)])) (h1 := (xS b, I, L, xP b)) rfl trivial ?_
      refine xw_call xb_162 rfl rfl rfl rfl rfl (Or.inl rfl) m_in ?_
      rintro _ _ ⟨rfl, rfl⟩
      refine xw_at (f' := (24, [.ref 60, .int (nI s), .int (nI la), .int i, .int (nI n), .int (nI m), .int (nI t), .float 0, .float 0, .float 0, .float 0, .float 0, .float 0, .float 0, .float 0], [.int (nI (xB (decide ((1 : Int64).toInt ≤ (nI n).toInt64.toInt ∧ (nI n).toInt64.toInt ≤ (8 : Int64).toInt))))])) (h' := (xS b, I, L, xP b)) rfl rfl ?_
      refine xw_go xb_162 1 (f1 := (if (nI (xB (decide ((1 : Int64).toInt ≤ (nI n).toInt64.toInt ∧ (nI n).toInt64.toInt ≤ (8 : Int64).toInt)))) = 0 then 51 else 27, [.ref 60, .int (nI s), .int (nI la), .int i, .int (nI n), .int (nI m), .int (nI t), .float 0, .float 0, .float 0, .float 0, .float 0, .float 0, .float 0, .float 0], [])) (h1 := (xS b, I, L, xP b)) rfl trivial ?_
      refine xw_if (fun c_24 => ?_) (fun c_24 => ?_)
      · skip
        exfalso
        try simp only [xB_dec, Classical.not_not] at c_4 c_11 c_24
        try simp (disch := omega) only [xt_eq, xt_lt, xt_le, xkt_0, xkt_1, xkt_2, xkt_3, xkt_4, xkt_5, xkt_6, xkt_7, xkt_8, xkt_9, xkt_10, xkt_11, xkt_12, xkt_13, xkt_14, xkt_16, xkt_20, xkt_24, xkt_31, xkt_32, xkt_40, xkt_44, xkt_47, xkt_48, xkt_57, xkt_59, xkt_60, xkt_63, xkt_64, xkt_65, xkt_72, xkt_95, xkt_99, xkt_100, xkt_101, xkt_103, xkt_110, xkt_112, xkt_113, xkt_114, xkt_119, xkt_126, xkt_159, xkt_576, xkt_999, xkt_9999, xkt_65536, xkt_999999, xkt_m1, xkt_m2, xkt_m3, xkt_m4, xkt_m11, xkt_m12, xkt_m13, xkt_m14, xkt_m20, xjt_0, xjt_1, xjt_2, xjt_3, xjt_4, xjt_5, xjt_6, xjt_7, xjt_8, xjt_9, xjt_10, xjt_11, xjt_12, xjt_13, xjt_14, xjt_16, xjt_20, xjt_24, xjt_31, xjt_32, xjt_40, xjt_44, xjt_47, xjt_48, xjt_57, xjt_59, xjt_60, xjt_63, xjt_64, xjt_65, xjt_72, xjt_95, xjt_99, xjt_100, xjt_101, xjt_103, xjt_110, xjt_112, xjt_113, xjt_114, xjt_119, xjt_126, xjt_159, xjt_576, xjt_999, xjt_9999, xjt_65536, xjt_999999, xt64, xt_n, not_true_eq_false, not_false_eq_true, Classical.not_not] at c_4 c_11 c_24
        all_goals omega
      · skip
        refine xw_go xb_162 4 (f1 := (34, [.ref 60, .int (nI s), .int (nI la), .int i, .int (nI n), .int (nI m), .int (nI t), .float 0, .float 0, .float 0, .float 0, .float 0, .float 0, .float 0, .float 0], [.long 20, .long 1, .long ((nI m).toInt64)])) (h1 := (xS b, I, L, xP b)) rfl trivial ?_
        refine xw_call xb_162 rfl rfl rfl rfl rfl (Or.inl rfl) m_in ?_
        rintro _ _ ⟨rfl, rfl⟩
        refine xw_at (f' := (37, [.ref 60, .int (nI s), .int (nI la), .int i, .int (nI n), .int (nI m), .int (nI t), .float 0, .float 0, .float 0, .float 0, .float 0, .float 0, .float 0, .float 0], [.int (nI (xB (decide ((1 : Int64).toInt ≤ (nI m).toInt64.toInt ∧ (nI m).toInt64.toInt ≤ (20 : Int64).toInt))))])) (h' := (xS b, I, L, xP b)) rfl rfl ?_
        refine xw_go xb_162 1 (f1 := (if (nI (xB (decide ((1 : Int64).toInt ≤ (nI m).toInt64.toInt ∧ (nI m).toInt64.toInt ≤ (20 : Int64).toInt)))) = 0 then 51 else 40, [.ref 60, .int (nI s), .int (nI la), .int i, .int (nI n), .int (nI m), .int (nI t), .float 0, .float 0, .float 0, .float 0, .float 0, .float 0, .float 0, .float 0], [])) (h1 := (xS b, I, L, xP b)) rfl trivial ?_
        refine xw_if (fun c_37 => ?_) (fun c_37 => ?_)
        · skip
          exfalso
          try simp only [xB_dec, Classical.not_not] at c_4 c_11 c_24 c_37
          try simp (disch := omega) only [xt_eq, xt_lt, xt_le, xkt_0, xkt_1, xkt_2, xkt_3, xkt_4, xkt_5, xkt_6, xkt_7, xkt_8, xkt_9, xkt_10, xkt_11, xkt_12, xkt_13, xkt_14, xkt_16, xkt_20, xkt_24, xkt_31, xkt_32, xkt_40, xkt_44, xkt_47, xkt_48, xkt_57, xkt_59, xkt_60, xkt_63, xkt_64, xkt_65, xkt_72, xkt_95, xkt_99, xkt_100, xkt_101, xkt_103, xkt_110, xkt_112, xkt_113, xkt_114, xkt_119, xkt_126, xkt_159, xkt_576, xkt_999, xkt_9999, xkt_65536, xkt_999999, xkt_m1, xkt_m2, xkt_m3, xkt_m4, xkt_m11, xkt_m12, xkt_m13, xkt_m14, xkt_m20, xjt_0, xjt_1, xjt_2, xjt_3, xjt_4, xjt_5, xjt_6, xjt_7, xjt_8, xjt_9, xjt_10, xjt_11, xjt_12, xjt_13, xjt_14, xjt_16, xjt_20, xjt_24, xjt_31, xjt_32, xjt_40, xjt_44, xjt_47, xjt_48, xjt_57, xjt_59, xjt_60, xjt_63, xjt_64, xjt_65, xjt_72, xjt_95, xjt_99, xjt_100, xjt_101, xjt_103, xjt_110, xjt_112, xjt_113, xjt_114, xjt_119, xjt_126, xjt_159, xjt_576, xjt_999, xjt_9999, xjt_65536, xjt_999999, xt64, xt_n, not_true_eq_false, not_false_eq_true, Classical.not_not] at c_4 c_11 c_24 c_37
          all_goals omega
        · skip
          refine xw_go xb_162 4 (f1 := (45, [.ref 60, .int (nI s), .int (nI la), .int i, .int (nI n), .int (nI m), .int (nI t), .float 0, .float 0, .float 0, .float 0, .float 0, .float 0, .float 0, .float 0], [.long 1, .long 0, .long ((nI t).toInt64)])) (h1 := (xS b, I, L, xP b)) rfl trivial ?_
          refine xw_call xb_162 rfl rfl rfl rfl rfl (Or.inl rfl) m_in ?_
          rintro _ _ ⟨rfl, rfl⟩
          refine xw_at (f' := (48, [.ref 60, .int (nI s), .int (nI la), .int i, .int (nI n), .int (nI m), .int (nI t), .float 0, .float 0, .float 0, .float 0, .float 0, .float 0, .float 0, .float 0], [.int (nI (xB (decide ((0 : Int64).toInt ≤ (nI t).toInt64.toInt ∧ (nI t).toInt64.toInt ≤ (1 : Int64).toInt))))])) (h' := (xS b, I, L, xP b)) rfl rfl ?_
          refine xw_go xb_162 1 (f1 := (if ¬ (nI (xB (decide ((0 : Int64).toInt ≤ (nI t).toInt64.toInt ∧ (nI t).toInt64.toInt ≤ (1 : Int64).toInt)))) = 0 then 53 else 51, [.ref 60, .int (nI s), .int (nI la), .int i, .int (nI n), .int (nI m), .int (nI t), .float 0, .float 0, .float 0, .float 0, .float 0, .float 0, .float 0, .float 0], [])) (h1 := (xS b, I, L, xP b)) rfl trivial ?_
          refine xw_if (fun c_48 => ?_) (fun c_48 => ?_)
          · skip
            refine xw_go xb_162 7 (f1 := (61, [.ref 60, .int (nI s), .int (nI la), .int i, .int (nI n), .int (nI m), .int (nI t), .float 0, .float 0, .float 0, .float 0, .float 0, .float 0, .float 0, .float 0], [.int (2 * (nI n)), .int i, .int (nI la), .int (nI s), .ref 60])) (h1 := (xS b, I, L, xP b)) rfl trivial ?_
            refine xw_cong (l' := [.ref 60, .int (nI s), .int (nI la), .int i, .int (nI n), .int (nI m), .int (nI t), .float 0, .float 0, .float 0, .float 0, .float 0, .float 0, .float 0, .float 0]) (st' := [.int (nI (2 * n)), .int i, .int (nI la), .int (nI s), .ref 60]) (h' := (xS b, I, L, xP b)) rfl (show ([.int (2 * (nI n)), .int i, .int (nI la), .int (nI s), .ref 60] : List Value) = [.int (nI (2 * n)), .int i, .int (nI la), .int (nI s), .ref 60] from ?_) rfl ?_
            · rw [xl_2, pk_mul]
            refine xw_call xb_162 rfl rfl rfl rfl rfl (Or.inr ⟨_, _, rfl, rfl⟩) (m_why hS hY hs bl rfl rfl) ?_
            rintro _ _ ⟨rfl, rfl⟩
            refine xw_at (f' := (64, [.ref 60, .int (nI s), .int (nI la), .int i, .int (nI n), .int (nI m), .int (nI t), .float 0, .float 0, .float 0, .float 0, .float 0, .float 0, .float 0, .float 0], [.int (xwy (Y s) la i (nI (2 * n)))])) (h' := (xS b, I, L, xP b)) rfl rfl ?_
            refine xw_go xb_162 3 (f1 := (if 0 ≤ (xwy (Y s) la i (nI (2 * n))) then 74 else 71, [.ref 60, .int (nI s), .int (nI la), .int i, .int (nI n), .int (nI m), .int (nI t), .int (xwy (Y s) la i (nI (2 * n))), .float 0, .float 0, .float 0, .float 0, .float 0, .float 0, .float 0], [])) (h1 := (xS b, I, L, xP b)) rfl trivial ?_
            refine xw_if (fun c_68 => ?_) (fun c_68 => ?_)
            · skip
              exact absurd (xwy_ge.mp c_68) hw
            · skip
              refine xw_go xb_162 1 (f1 := (73, [.ref 60, .int (nI s), .int (nI la), .int i, .int (nI n), .int (nI m), .int (nI t), .int (xwy (Y s) la i (nI (2 * n))), .float 0, .float 0, .float 0, .float 0, .float 0, .float 0, .float 0], [.int (xwy (Y s) la i (nI (2 * n)))])) (h1 := (xS b, I, L, xP b)) rfl trivial ?_
              refine xw_ret xb_162 rfl rfl trivial ?_
              exact xQM_same hM
          · skip
            exfalso
            try simp only [xB_dec, Classical.not_not] at c_4 c_11 c_24 c_37 c_48
            try simp (disch := omega) only [xt_eq, xt_lt, xt_le, xkt_0, xkt_1, xkt_2, xkt_3, xkt_4, xkt_5, xkt_6, xkt_7, xkt_8, xkt_9, xkt_10, xkt_11, xkt_12, xkt_13, xkt_14, xkt_16, xkt_20, xkt_24, xkt_31, xkt_32, xkt_40, xkt_44, xkt_47, xkt_48, xkt_57, xkt_59, xkt_60, xkt_63, xkt_64, xkt_65, xkt_72, xkt_95, xkt_99, xkt_100, xkt_101, xkt_103, xkt_110, xkt_112, xkt_113, xkt_114, xkt_119, xkt_126, xkt_159, xkt_576, xkt_999, xkt_9999, xkt_65536, xkt_999999, xkt_m1, xkt_m2, xkt_m3, xkt_m4, xkt_m11, xkt_m12, xkt_m13, xkt_m14, xkt_m20, xjt_0, xjt_1, xjt_2, xjt_3, xjt_4, xjt_5, xjt_6, xjt_7, xjt_8, xjt_9, xjt_10, xjt_11, xjt_12, xjt_13, xjt_14, xjt_16, xjt_20, xjt_24, xjt_31, xjt_32, xjt_40, xjt_44, xjt_47, xjt_48, xjt_57, xjt_59, xjt_60, xjt_63, xjt_64, xjt_65, xjt_72, xjt_95, xjt_99, xjt_100, xjt_101, xjt_103, xjt_110, xjt_112, xjt_113, xjt_114, xjt_119, xjt_126, xjt_159, xjt_576, xjt_999, xjt_9999, xjt_65536, xjt_999999, xt64, xt_n, not_true_eq_false, not_false_eq_true, Classical.not_not] at c_4 c_11 c_24 c_37 c_48
            all_goals omega

theorem m_tins3 {d : Nat} {b : Bool} {I : Nat → Nat → Int32} {L : Nat → Nat → Int64} {N : Nat → Nat} {u : Nat} {U : Nat → Nat → Nat} (hM : xML N u U I) (hK : xUK N u U) {Y : xY} (hS : xSM Y I L) (hY : xYK Y) {n m t : Nat} (hn : 1 ≤ n ∧ n ≤ 8) (hm : 1 ≤ m ∧ m ≤ 20) (ht : t < 2) {s : Nat} (hs : s < 4) {la : Nat} (bl : la < 4) {j : Nat} (bj : j < 2 ^ 31) (hw : xwy (Y s) la (nI j) (nI (2 * n)) = 0) (hok : ¬ ∀ k, k < n → xtok N (Y s).2.2.2 j k) {x : Int32} (e_x : x = nI s) {y : Int32} (e_y : y = nI la) {i : Int32} (e_i : i = nI j) {z : Int32} (e_z : z = nI n) {v : Int32} (e_v : v = nI m) {w : Int32} (e_w : w = nI t) : xm_Z (d + 7) 162 [.ref 60, .int x, .int y, .int i, .int z, .int v, .int w] (xS b, I, L, xP b) (fun rz hz => xQM b I L (-2) N u U rz hz) := by
  subst e_x
  subst e_y
  subst e_i
  subst e_z
  subst e_v
  subst e_w
  have hO := hK.1
  have hb := hK.1.1
  have c64 : N 0 * N 1 ≤ 64 := xce_le hO
  have c4 : 4 ≤ N 0 * N 1 := xce_ge hO
  obtain ⟨y0, y2, y3⟩ := hS s hs
  have hk := hY s hs
  obtain ⟨w1, w2, w3, w4, w5⟩ := xwy_0 hw
  have hj9 : j + 2 * n ≤ (Y s).2.2.1 := by rw [xt_n bj, xt_n (by omega)] at w5; omega
  have hj : j + 2 * n ≤ 24 := by omega
  refine xw_S xb_162 (l := [.ref 60, .int (nI s), .int (nI la), .int (nI j), .int (nI n), .int (nI m), .int (nI t), .float 0, .float 0, .float 0, .float 0, .float 0, .float 0, .float 0, .float 0]) (Nat.le_of_ble_eq_true rfl) rfl ?_
  refine xw_go xb_162 1 (f1 := (1, [.ref 60, .int (nI s), .int (nI la), .int (nI j), .int (nI n), .int (nI m), .int (nI t), .float 0, .float 0, .float 0, .float 0, .float 0, .float 0, .float 0, .float 0], [.int (nI s)])) (h1 := (xS b, I, L, xP b)) rfl trivial ?_
  refine xw_call xb_162 rfl rfl rfl rfl rfl (Or.inl rfl) m_isSheet ?_
  rintro _ _ ⟨rfl, rfl⟩
  refine xw_at (f' := (4, [.ref 60, .int (nI s), .int (nI la), .int (nI j), .int (nI n), .int (nI m), .int (nI t), .float 0, .float 0, .float 0, .float 0, .float 0, .float 0, .float 0, .float 0], [.int (nI (xB (decide (0 ≤ (nI s).toInt ∧ (nI s).toInt ≤ 3))))])) (h' := (xS b, I, L, xP b)) rfl rfl ?_
  refine xw_go xb_162 1 (f1 := (if (nI (xB (decide (0 ≤ (nI s).toInt ∧ (nI s).toInt ≤ 3)))) = 0 then 51 else 7, [.ref 60, .int (nI s), .int (nI la), .int (nI j), .int (nI n), .int (nI m), .int (nI t), .float 0, .float 0, .float 0, .float 0, .float 0, .float 0, .float 0, .float 0], [])) (h1 := (xS b, I, L, xP b)) rfl trivial ?_
  refine xw_if (fun c_4 => ?_) (fun c_4 => ?_)
  · skip
    exfalso
    try simp only [xB_dec, Classical.not_not] at c_4
    try simp (disch := omega) only [xt_eq, xt_lt, xt_le, xkt_0, xkt_1, xkt_2, xkt_3, xkt_4, xkt_5, xkt_6, xkt_7, xkt_8, xkt_9, xkt_10, xkt_11, xkt_12, xkt_13, xkt_14, xkt_16, xkt_20, xkt_24, xkt_31, xkt_32, xkt_40, xkt_44, xkt_47, xkt_48, xkt_57, xkt_59, xkt_60, xkt_63, xkt_64, xkt_65, xkt_72, xkt_95, xkt_99, xkt_100, xkt_101, xkt_103, xkt_110, xkt_112, xkt_113, xkt_114, xkt_119, xkt_126, xkt_159, xkt_576, xkt_999, xkt_9999, xkt_65536, xkt_999999, xkt_m1, xkt_m2, xkt_m3, xkt_m4, xkt_m11, xkt_m12, xkt_m13, xkt_m14, xkt_m20, xjt_0, xjt_1, xjt_2, xjt_3, xjt_4, xjt_5, xjt_6, xjt_7, xjt_8, xjt_9, xjt_10, xjt_11, xjt_12, xjt_13, xjt_14, xjt_16, xjt_20, xjt_24, xjt_31, xjt_32, xjt_40, xjt_44, xjt_47, xjt_48, xjt_57, xjt_59, xjt_60, xjt_63, xjt_64, xjt_65, xjt_72, xjt_95, xjt_99, xjt_100, xjt_101, xjt_103, xjt_110, xjt_112, xjt_113, xjt_114, xjt_119, xjt_126, xjt_159, xjt_576, xjt_999, xjt_9999, xjt_65536, xjt_999999, xt64, xt_n, not_true_eq_false, not_false_eq_true, Classical.not_not] at c_4
    all_goals omega
  · skip
    refine xw_go xb_162 1 (f1 := (8, [.ref 60, .int (nI s), .int (nI la), .int (nI j), .int (nI n), .int (nI m), .int (nI t), .float 0, .float 0, .float 0, .float 0, .float 0, .float 0, .float 0, .float 0], [.int (nI la)])) (h1 := (xS b, I, L, xP b)) rfl trivial ?_
    refine xw_call xb_162 rfl rfl rfl rfl rfl (Or.inl rfl) m_isLane ?_
    rintro _ _ ⟨rfl, rfl⟩
    refine xw_at (f' := (11, [.ref 60, .int (nI s), .int (nI la), .int (nI j), .int (nI n), .int (nI m), .int (nI t), .float 0, .float 0, .float 0, .float 0, .float 0, .float 0, .float 0, .float 0], [.int (nI (xB (decide (0 ≤ (nI la).toInt ∧ (nI la).toInt ≤ 3))))])) (h' := (xS b, I, L, xP b)) rfl rfl ?_
    refine xw_go xb_162 1 (f1 := (if (nI (xB (decide (0 ≤ (nI la).toInt ∧ (nI la).toInt ≤ 3)))) = 0 then 51 else 14, [.ref 60, .int (nI s), .int (nI la), .int (nI j), .int (nI n), .int (nI m), .int (nI t), .float 0, .float 0, .float 0, .float 0, .float 0, .float 0, .float 0, .float 0], [])) (h1 := (xS b, I, L, xP b)) rfl trivial ?_
    refine xw_if (fun c_11 => ?_) (fun c_11 => ?_)
    · skip
      exfalso
      try simp only [xB_dec, Classical.not_not] at c_4 c_11
      try simp (disch := omega) only [xt_eq, xt_lt, xt_le, xkt_0, xkt_1, xkt_2, xkt_3, xkt_4, xkt_5, xkt_6, xkt_7, xkt_8, xkt_9, xkt_10, xkt_11, xkt_12, xkt_13, xkt_14, xkt_16, xkt_20, xkt_24, xkt_31, xkt_32, xkt_40, xkt_44, xkt_47, xkt_48, xkt_57, xkt_59, xkt_60, xkt_63, xkt_64, xkt_65, xkt_72, xkt_95, xkt_99, xkt_100, xkt_101, xkt_103, xkt_110, xkt_112, xkt_113, xkt_114, xkt_119, xkt_126, xkt_159, xkt_576, xkt_999, xkt_9999, xkt_65536, xkt_999999, xkt_m1, xkt_m2, xkt_m3, xkt_m4, xkt_m11, xkt_m12, xkt_m13, xkt_m14, xkt_m20, xjt_0, xjt_1, xjt_2, xjt_3, xjt_4, xjt_5, xjt_6, xjt_7, xjt_8, xjt_9, xjt_10, xjt_11, xjt_12, xjt_13, xjt_14, xjt_16, xjt_20, xjt_24, xjt_31, xjt_32, xjt_40, xjt_44, xjt_47, xjt_48, xjt_57, xjt_59, xjt_60, xjt_63, xjt_64, xjt_65, xjt_72, xjt_95, xjt_99, xjt_100, xjt_101, xjt_103, xjt_110, xjt_112, xjt_113, xjt_114, xjt_119, xjt_126, xjt_159, xjt_576, xjt_999, xjt_9999, xjt_65536, xjt_999999, xt64, xt_n, not_true_eq_false, not_false_eq_true, Classical.not_not] at c_4 c_11
      all_goals omega
    · skip
      refine xw_go xb_162 4 (f1 := (21, [.ref 60, .int (nI s), .int (nI la), .int (nI j), .int (nI n), .int (nI m), .int (nI t), .float 0, .float 0, .float 0, .float 0, .float 0, .float 0, .float 0, .float 0], [.long 8, .long 1, .long ((nI n).toInt64)])) (h1 := (xS b, I, L, xP b)) rfl trivial ?_
      refine xw_call xb_162 rfl rfl rfl rfl rfl (Or.inl rfl) m_in ?_
      rintro _ _ ⟨rfl, rfl⟩
      refine xw_at (f' := (24, [.ref 60, .int (nI s), .int (nI la), .int (nI j), .int (nI n), .int (nI m), .int (nI t), .float 0, .float 0, .float 0, .float 0, .float 0, .float 0, .float 0, .float 0], [.int (nI (xB (decide ((1 : Int64).toInt ≤ (nI n).toInt64.toInt ∧ (nI n).toInt64.toInt ≤ (8 : Int64).toInt))))])) (h' := (xS b, I, L, xP b)) rfl rfl ?_
      refine xw_go xb_162 1 (f1 := (if (nI (xB (decide ((1 : Int64).toInt ≤ (nI n).toInt64.toInt ∧ (nI n).toInt64.toInt ≤ (8 : Int64).toInt)))) = 0 then 51 else 27, [.ref 60, .int (nI s), .int (nI la), .int (nI j), .int (nI n), .int (nI m), .int (nI t), .float 0, .float 0, .float 0, .float 0, .float 0, .float 0, .float 0, .float 0], [])) (h1 := (xS b, I, L, xP b)) rfl trivial ?_
      refine xw_if (fun c_24 => ?_) (fun c_24 => ?_)
      · skip
        exfalso
        try simp only [xB_dec, Classical.not_not] at c_4 c_11 c_24
        try simp (disch := omega) only [xt_eq, xt_lt, xt_le, xkt_0, xkt_1, xkt_2, xkt_3, xkt_4, xkt_5, xkt_6, xkt_7, xkt_8, xkt_9, xkt_10, xkt_11, xkt_12, xkt_13, xkt_14, xkt_16, xkt_20, xkt_24, xkt_31, xkt_32, xkt_40, xkt_44, xkt_47, xkt_48, xkt_57, xkt_59, xkt_60, xkt_63, xkt_64, xkt_65, xkt_72, xkt_95, xkt_99, xkt_100, xkt_101, xkt_103, xkt_110, xkt_112, xkt_113, xkt_114, xkt_119, xkt_126, xkt_159, xkt_576, xkt_999, xkt_9999, xkt_65536, xkt_999999, xkt_m1, xkt_m2, xkt_m3, xkt_m4, xkt_m11, xkt_m12, xkt_m13, xkt_m14, xkt_m20, xjt_0, xjt_1, xjt_2, xjt_3, xjt_4, xjt_5, xjt_6, xjt_7, xjt_8, xjt_9, xjt_10, xjt_11, xjt_12, xjt_13, xjt_14, xjt_16, xjt_20, xjt_24, xjt_31, xjt_32, xjt_40, xjt_44, xjt_47, xjt_48, xjt_57, xjt_59, xjt_60, xjt_63, xjt_64, xjt_65, xjt_72, xjt_95, xjt_99, xjt_100, xjt_101, xjt_103, xjt_110, xjt_112, xjt_113, xjt_114, xjt_119, xjt_126, xjt_159, xjt_576, xjt_999, xjt_9999, xjt_65536, xjt_999999, xt64, xt_n, not_true_eq_false, not_false_eq_true, Classical.not_not] at c_4 c_11 c_24
        all_goals omega
      · skip
        refine xw_go xb_162 4 (f1 := (34, [.ref 60, .int (nI s), .int (nI la), .int (nI j), .int (nI n), .int (nI m), .int (nI t), .float 0, .float 0, .float 0, .float 0, .float 0, .float 0, .float 0, .float 0], [.long 20, .long 1, .long ((nI m).toInt64)])) (h1 := (xS b, I, L, xP b)) rfl trivial ?_
        refine xw_call xb_162 rfl rfl rfl rfl rfl (Or.inl rfl) m_in ?_
        rintro _ _ ⟨rfl, rfl⟩
        refine xw_at (f' := (37, [.ref 60, .int (nI s), .int (nI la), .int (nI j), .int (nI n), .int (nI m), .int (nI t), .float 0, .float 0, .float 0, .float 0, .float 0, .float 0, .float 0, .float 0], [.int (nI (xB (decide ((1 : Int64).toInt ≤ (nI m).toInt64.toInt ∧ (nI m).toInt64.toInt ≤ (20 : Int64).toInt))))])) (h' := (xS b, I, L, xP b)) rfl rfl ?_
        refine xw_go xb_162 1 (f1 := (if (nI (xB (decide ((1 : Int64).toInt ≤ (nI m).toInt64.toInt ∧ (nI m).toInt64.toInt ≤ (20 : Int64).toInt)))) = 0 then 51 else 40, [.ref 60, .int (nI s), .int (nI la), .int (nI j), .int (nI n), .int (nI m), .int (nI t), .float 0, .float 0, .float 0, .float 0, .float 0, .float 0, .float 0, .float 0], [])) (h1 := (xS b, I, L, xP b)) rfl trivial ?_
        refine xw_if (fun c_37 => ?_) (fun c_37 => ?_)
        · skip
          exfalso
          try simp only [xB_dec, Classical.not_not] at c_4 c_11 c_24 c_37
          try simp (disch := omega) only [xt_eq, xt_lt, xt_le, xkt_0, xkt_1, xkt_2, xkt_3, xkt_4, xkt_5, xkt_6, xkt_7, xkt_8, xkt_9, xkt_10, xkt_11, xkt_12, xkt_13, xkt_14, xkt_16, xkt_20, xkt_24, xkt_31, xkt_32, xkt_40, xkt_44, xkt_47, xkt_48, xkt_57, xkt_59, xkt_60, xkt_63, xkt_64, xkt_65, xkt_72, xkt_95, xkt_99, xkt_100, xkt_101, xkt_103, xkt_110, xkt_112, xkt_113, xkt_114, xkt_119, xkt_126, xkt_159, xkt_576, xkt_999, xkt_9999, xkt_65536, xkt_999999, xkt_m1, xkt_m2, xkt_m3, xkt_m4, xkt_m11, xkt_m12, xkt_m13, xkt_m14, xkt_m20, xjt_0, xjt_1, xjt_2, xjt_3, xjt_4, xjt_5, xjt_6, xjt_7, xjt_8, xjt_9, xjt_10, xjt_11, xjt_12, xjt_13, xjt_14, xjt_16, xjt_20, xjt_24, xjt_31, xjt_32, xjt_40, xjt_44, xjt_47, xjt_48, xjt_57, xjt_59, xjt_60, xjt_63, xjt_64, xjt_65, xjt_72, xjt_95, xjt_99, xjt_100, xjt_101, xjt_103, xjt_110, xjt_112, xjt_113, xjt_114, xjt_119, xjt_126, xjt_159, xjt_576, xjt_999, xjt_9999, xjt_65536, xjt_999999, xt64, xt_n, not_true_eq_false, not_false_eq_true, Classical.not_not] at c_4 c_11 c_24 c_37
          all_goals omega
        · skip
          refine xw_go xb_162 4 (f1 := (45, [.ref 60, .int (nI s), .int (nI la), .int (nI j), .int (nI n), .int (nI m), .int (nI t), .float 0, .float 0, .float 0, .float 0, .float 0, .float 0, .float 0, .float 0], [.long 1, .long 0, .long ((nI t).toInt64)])) (h1 := (xS b, I, L, xP b)) rfl trivial ?_
          refine xw_call xb_162 rfl rfl rfl rfl rfl (Or.inl rfl) m_in ?_
          rintro _ _ ⟨rfl, rfl⟩
          refine xw_at (f' := (48, [.ref 60, .int (nI s), .int (nI la), .int (nI j), .int (nI n), .int (nI m), .int (nI t), .float 0, .float 0, .float 0, .float 0, .float 0, .float 0, .float 0, .float 0], [.int (nI (xB (decide ((0 : Int64).toInt ≤ (nI t).toInt64.toInt ∧ (nI t).toInt64.toInt ≤ (1 : Int64).toInt))))])) (h' := (xS b, I, L, xP b)) rfl rfl ?_
          refine xw_go xb_162 1 (f1 := (if ¬ (nI (xB (decide ((0 : Int64).toInt ≤ (nI t).toInt64.toInt ∧ (nI t).toInt64.toInt ≤ (1 : Int64).toInt)))) = 0 then 53 else 51, [.ref 60, .int (nI s), .int (nI la), .int (nI j), .int (nI n), .int (nI m), .int (nI t), .float 0, .float 0, .float 0, .float 0, .float 0, .float 0, .float 0, .float 0], [])) (h1 := (xS b, I, L, xP b)) rfl trivial ?_
          refine xw_if (fun c_48 => ?_) (fun c_48 => ?_)
          · skip
            refine xw_go xb_162 7 (f1 := (61, [.ref 60, .int (nI s), .int (nI la), .int (nI j), .int (nI n), .int (nI m), .int (nI t), .float 0, .float 0, .float 0, .float 0, .float 0, .float 0, .float 0, .float 0], [.int (2 * (nI n)), .int (nI j), .int (nI la), .int (nI s), .ref 60])) (h1 := (xS b, I, L, xP b)) rfl trivial ?_
            refine xw_cong (l' := [.ref 60, .int (nI s), .int (nI la), .int (nI j), .int (nI n), .int (nI m), .int (nI t), .float 0, .float 0, .float 0, .float 0, .float 0, .float 0, .float 0, .float 0]) (st' := [.int (nI (2 * n)), .int (nI j), .int (nI la), .int (nI s), .ref 60]) (h' := (xS b, I, L, xP b)) rfl (show ([.int (2 * (nI n)), .int (nI j), .int (nI la), .int (nI s), .ref 60] : List Value) = [.int (nI (2 * n)), .int (nI j), .int (nI la), .int (nI s), .ref 60] from ?_) rfl ?_
            · rw [xl_2, pk_mul]
            refine xw_call xb_162 rfl rfl rfl rfl rfl (Or.inr ⟨_, _, rfl, rfl⟩) (m_why hS hY hs bl rfl rfl) ?_
            rintro _ _ ⟨rfl, rfl⟩
            refine xw_at (f' := (64, [.ref 60, .int (nI s), .int (nI la), .int (nI j), .int (nI n), .int (nI m), .int (nI t), .float 0, .float 0, .float 0, .float 0, .float 0, .float 0, .float 0, .float 0], [.int (xwy (Y s) la (nI j) (nI (2 * n)))])) (h' := (xS b, I, L, xP b)) rfl rfl ?_
            refine xw_go xb_162 3 (f1 := (if 0 ≤ (xwy (Y s) la (nI j) (nI (2 * n))) then 74 else 71, [.ref 60, .int (nI s), .int (nI la), .int (nI j), .int (nI n), .int (nI m), .int (nI t), .int (xwy (Y s) la (nI j) (nI (2 * n))), .float 0, .float 0, .float 0, .float 0, .float 0, .float 0, .float 0], [])) (h1 := (xS b, I, L, xP b)) rfl trivial ?_
            refine xw_if (fun c_68 => ?_) (fun c_68 => ?_)
            · skip
              refine xw_go xb_162 5 (f1 := (80, [.ref 60, .int (nI s), .int (nI la), .int (nI j), .int (nI n), .int (nI m), .int (nI t), .int (xwy (Y s) la (nI j) (nI (2 * n))), .float 0, .float 0, .float 0, .float 0, .float 0, .float 0, .float 0], [.int ((24 * (nI s)) + (nI j))])) (h1 := (xS b, I, L, xP b)) rfl trivial ?_
              refine xw_cong (l' := [.ref 60, .int (nI s), .int (nI la), .int (nI j), .int (nI n), .int (nI m), .int (nI t), .int (xwy (Y s) la (nI j) (nI (2 * n))), .float 0, .float 0, .float 0, .float 0, .float 0, .float 0, .float 0]) (st' := [.int (nI (24 * s + j))]) (h' := (xS b, I, L, xP b)) rfl (show ([.int ((24 * (nI s)) + (nI j))] : List Value) = [.int (nI (24 * s + j))] from ?_) rfl ?_
              · rw [xl_24, pk_mul, nI_add]
              refine xw_go xb_162 3 (f1 := (85, [.ref 60, .int (nI s), .int (nI la), .int (nI j), .int (nI n), .int (nI m), .int (nI t), .int (xwy (Y s) la (nI j) (nI (2 * n))), .int (nI (24 * s + j)), .int 0, .float 0, .float 0, .float 0, .float 0, .float 0], [])) (h1 := (xS b, I, L, xP b)) rfl trivial ?_
              refine xw_at (f' := (85, [.ref 60, .int (nI s), .int (nI la), .int (nI j), .int (nI n), .int (nI m), .int (nI t), .int (xwy (Y s) la (nI j) (nI (2 * n))), .int (nI (24 * s + j)), .int (nI 0), .float 0, .float 0, .float 0, .float 0, .float 0], [])) (h' := (xS b, I, L, xP b)) rfl rfl ?_
              refine xw_loopP n (fun k => (85, [.ref 60, .int (nI s), .int (nI la), .int (nI j), .int (nI n), .int (nI m), .int (nI t), .int (xwy (Y s) la (nI j) (nI (2 * n))), .int (nI (24 * s + j)), .int (nI k), .float 0, .float 0, .float 0, .float 0, .float 0], [])) (fun k h => h = (xS b, I, L, xP b) ∧ ∀ q, q < k → xtok N (Y s).2.2.2 j q) (fun k h hk hV ih => ?_) (fun h hV => ?_) 0 _ (Nat.zero_le _) ⟨rfl, fun q hq => absurd hq (Nat.not_lt_zero q)⟩
              · obtain ⟨rfl, hv⟩ := hV
                refine xw_go xb_162 3 (f1 := (if (nI n) ≤ (nI k) then 151 else 92, [.ref 60, .int (nI s), .int (nI la), .int (nI j), .int (nI n), .int (nI m), .int (nI t), .int (xwy (Y s) la (nI j) (nI (2 * n))), .int (nI (24 * s + j)), .int (nI k), .float 0, .float 0, .float 0, .float 0, .float 0], [])) (h1 := (xS b, I, L, xP b)) rfl trivial ?_
                refine xw_if (fun c_89 => ?_) (fun c_89 => ?_)
                · skip
                  exfalso
                  try simp only [xB_dec, Classical.not_not] at c_89
                  try simp (disch := omega) only [xt_eq, xt_lt, xt_le, xkt_0, xkt_1, xkt_2, xkt_3, xkt_4, xkt_5, xkt_6, xkt_7, xkt_8, xkt_9, xkt_10, xkt_11, xkt_12, xkt_13, xkt_14, xkt_16, xkt_20, xkt_24, xkt_31, xkt_32, xkt_40, xkt_44, xkt_47, xkt_48, xkt_57, xkt_59, xkt_60, xkt_63, xkt_64, xkt_65, xkt_72, xkt_95, xkt_99, xkt_100, xkt_101, xkt_103, xkt_110, xkt_112, xkt_113, xkt_114, xkt_119, xkt_126, xkt_159, xkt_576, xkt_999, xkt_9999, xkt_65536, xkt_999999, xkt_m1, xkt_m2, xkt_m3, xkt_m4, xkt_m11, xkt_m12, xkt_m13, xkt_m14, xkt_m20, xjt_0, xjt_1, xjt_2, xjt_3, xjt_4, xjt_5, xjt_6, xjt_7, xjt_8, xjt_9, xjt_10, xjt_11, xjt_12, xjt_13, xjt_14, xjt_16, xjt_20, xjt_24, xjt_31, xjt_32, xjt_40, xjt_44, xjt_47, xjt_48, xjt_57, xjt_59, xjt_60, xjt_63, xjt_64, xjt_65, xjt_72, xjt_95, xjt_99, xjt_100, xjt_101, xjt_103, xjt_110, xjt_112, xjt_113, xjt_114, xjt_119, xjt_126, xjt_159, xjt_576, xjt_999, xjt_9999, xjt_65536, xjt_999999, xt64, xt_n, not_true_eq_false, not_false_eq_true, Classical.not_not] at c_89
                  all_goals omega
                · skip
                  refine xw_go xb_162 8 (f1 := (104, [.ref 60, .int (nI s), .int (nI la), .int (nI j), .int (nI n), .int (nI m), .int (nI t), .int (xwy (Y s) la (nI j) (nI (2 * n))), .int (nI (24 * s + j)), .int (nI k), .float 0, .float 0, .float 0, .float 0, .float 0], [.long (L 72 ((nI (24 * s + j)) + (2 * (nI k))).toNatClampNeg)])) (h1 := (xS b, I, L, xP b)) rfl ⟨rfl, (xn_ar' (n := 24 * s + j + 2 * k) (N := 96) rfl (show nI (24 * s + j) + 2 * nI k = _ by rw [xl_2, pk_mul, nI_add]) (by omega) (by decide)), trivial⟩ ?_
                  refine xw_cong (l' := [.ref 60, .int (nI s), .int (nI la), .int (nI j), .int (nI n), .int (nI m), .int (nI t), .int (xwy (Y s) la (nI j) (nI (2 * n))), .int (nI (24 * s + j)), .int (nI k), .float 0, .float 0, .float 0, .float 0, .float 0]) (st' := [.long ((Y s).2.2.2 (j + 2 * k))]) (h' := (xS b, I, L, xP b)) rfl (show ([.long (L 72 ((nI (24 * s + j)) + (2 * (nI k))).toNatClampNeg)] : List Value) = [.long ((Y s).2.2.2 (j + 2 * k))] from ?_) rfl ?_
                  · rw [xl_2, pk_mul, nI_add, xn_cl (by omega), show 24 * s + j + 2 * k = 24 * s + (j + 2 * k) by omega, y3 _ (by omega)]
                  refine xw_go xb_162 2 (f1 := (106, [.ref 60, .int (nI s), .int (nI la), .int (nI j), .int (nI n), .int (nI m), .int (nI t), .int (xwy (Y s) la (nI j) (nI (2 * n))), .int (nI (24 * s + j)), .int (nI k), .float 0, .float 0, .float 0, .float 0, .float 0], [.ref 60, .long 0, .long ((Y s).2.2.2 (j + 2 * k))])) (h1 := (xS b, I, L, xP b)) rfl trivial ?_
                  refine xw_call xb_162 rfl rfl rfl rfl rfl (Or.inr ⟨_, _, rfl, rfl⟩) (m_cells (I := I) hM.1) ?_
                  rintro _ _ ⟨rfl, rfl⟩
                  refine xw_at (f' := (109, [.ref 60, .int (nI s), .int (nI la), .int (nI j), .int (nI n), .int (nI m), .int (nI t), .int (xwy (Y s) la (nI j) (nI (2 * n))), .int (nI (24 * s + j)), .int (nI k), .float 0, .float 0, .float 0, .float 0, .float 0], [.int (nI (N 0 * N 1)), .long 0, .long ((Y s).2.2.2 (j + 2 * k))])) (h' := (xS b, I, L, xP b)) rfl rfl ?_
                  refine xw_go xb_162 2 (f1 := (111, [.ref 60, .int (nI s), .int (nI la), .int (nI j), .int (nI n), .int (nI m), .int (nI t), .int (xwy (Y s) la (nI j) (nI (2 * n))), .int (nI (24 * s + j)), .int (nI k), .float 0, .float 0, .float 0, .float 0, .float 0], [.int ((nI (N 0 * N 1)) - 1), .long 0, .long ((Y s).2.2.2 (j + 2 * k))])) (h1 := (xS b, I, L, xP b)) rfl trivial ?_
                  refine xw_cong (l' := [.ref 60, .int (nI s), .int (nI la), .int (nI j), .int (nI n), .int (nI m), .int (nI t), .int (xwy (Y s) la (nI j) (nI (2 * n))), .int (nI (24 * s + j)), .int (nI k), .float 0, .float 0, .float 0, .float 0, .float 0]) (st' := [.int (nI (N 0 * N 1 - 1)), .long 0, .long ((Y s).2.2.2 (j + 2 * k))]) (h' := (xS b, I, L, xP b)) rfl (show ([.int ((nI (N 0 * N 1)) - 1), .long 0, .long ((Y s).2.2.2 (j + 2 * k))] : List Value) = [.int (nI (N 0 * N 1 - 1)), .long 0, .long ((Y s).2.2.2 (j + 2 * k))] from ?_) rfl ?_
                  · rw [xl_1, xn_sub (by omega)]
                  refine xw_go xb_162 1 (f1 := (112, [.ref 60, .int (nI s), .int (nI la), .int (nI j), .int (nI n), .int (nI m), .int (nI t), .int (xwy (Y s) la (nI j) (nI (2 * n))), .int (nI (24 * s + j)), .int (nI k), .float 0, .float 0, .float 0, .float 0, .float 0], [.long ((nI (N 0 * N 1 - 1)).toInt64), .long 0, .long ((Y s).2.2.2 (j + 2 * k))])) (h1 := (xS b, I, L, xP b)) rfl trivial ?_
                  refine xw_call xb_162 rfl rfl rfl rfl rfl (Or.inl rfl) m_in ?_
                  rintro _ _ ⟨rfl, rfl⟩
                  refine xw_at (f' := (115, [.ref 60, .int (nI s), .int (nI la), .int (nI j), .int (nI n), .int (nI m), .int (nI t), .int (xwy (Y s) la (nI j) (nI (2 * n))), .int (nI (24 * s + j)), .int (nI k), .float 0, .float 0, .float 0, .float 0, .float 0], [.int (nI (xB (decide ((0 : Int64).toInt ≤ ((Y s).2.2.2 (j + 2 * k)).toInt ∧ ((Y s).2.2.2 (j + 2 * k)).toInt ≤ ((nI (N 0 * N 1 - 1)).toInt64).toInt))))])) (h' := (xS b, I, L, xP b)) rfl rfl ?_
                  refine xw_go xb_162 1 (f1 := (if (nI (xB (decide ((0 : Int64).toInt ≤ ((Y s).2.2.2 (j + 2 * k)).toInt ∧ ((Y s).2.2.2 (j + 2 * k)).toInt ≤ ((nI (N 0 * N 1 - 1)).toInt64).toInt)))) = 0 then 142 else 118, [.ref 60, .int (nI s), .int (nI la), .int (nI j), .int (nI n), .int (nI m), .int (nI t), .int (xwy (Y s) la (nI j) (nI (2 * n))), .int (nI (24 * s + j)), .int (nI k), .float 0, .float 0, .float 0, .float 0, .float 0], [])) (h1 := (xS b, I, L, xP b)) rfl trivial ?_
                  refine xw_if (fun c_115 => ?_) (fun c_115 => ?_)
                  · skip
                    refine xw_go xb_162 1 (f1 := (144, [.ref 60, .int (nI s), .int (nI la), .int (nI j), .int (nI n), .int (nI m), .int (nI t), .int (xwy (Y s) la (nI j) (nI (2 * n))), .int (nI (24 * s + j)), .int (nI k), .float 0, .float 0, .float 0, .float 0, .float 0], [.int (-2)])) (h1 := (xS b, I, L, xP b)) rfl trivial ?_
                    refine xw_ret xb_162 rfl rfl trivial ?_
                    exact xQM_same hM
                  · skip
                    refine xw_go xb_162 10 (f1 := (132, [.ref 60, .int (nI s), .int (nI la), .int (nI j), .int (nI n), .int (nI m), .int (nI t), .int (xwy (Y s) la (nI j) (nI (2 * n))), .int (nI (24 * s + j)), .int (nI k), .float 0, .float 0, .float 0, .float 0, .float 0], [.long (L 72 (((nI (24 * s + j)) + (2 * (nI k))) + 1).toNatClampNeg)])) (h1 := (xS b, I, L, xP b)) rfl ⟨rfl, (xn_ar' (n := 24 * s + j + 2 * k + 1) (N := 96) rfl (show nI (24 * s + j) + 2 * nI k + 1 = _ by rw [xl_2, pk_mul, nI_add, xl_1, nI_add]) (by omega) (by decide)), trivial⟩ ?_
                    refine xw_cong (l' := [.ref 60, .int (nI s), .int (nI la), .int (nI j), .int (nI n), .int (nI m), .int (nI t), .int (xwy (Y s) la (nI j) (nI (2 * n))), .int (nI (24 * s + j)), .int (nI k), .float 0, .float 0, .float 0, .float 0, .float 0]) (st' := [.long ((Y s).2.2.2 (j + 2 * k + 1))]) (h' := (xS b, I, L, xP b)) rfl (show ([.long (L 72 (((nI (24 * s + j)) + (2 * (nI k))) + 1).toNatClampNeg)] : List Value) = [.long ((Y s).2.2.2 (j + 2 * k + 1))] from ?_) rfl ?_
                    · rw [xl_2, pk_mul, nI_add, xl_1, nI_add, xn_cl (by omega), show 24 * s + j + 2 * k + 1 = 24 * s + (j + 2 * k + 1) by omega, y3 _ (by omega)]
                    refine xw_go xb_162 2 (f1 := (136, [.ref 60, .int (nI s), .int (nI la), .int (nI j), .int (nI n), .int (nI m), .int (nI t), .int (xwy (Y s) la (nI j) (nI (2 * n))), .int (nI (24 * s + j)), .int (nI k), .float 0, .float 0, .float 0, .float 0, .float 0], [.long 9999, .long 0, .long ((Y s).2.2.2 (j + 2 * k + 1))])) (h1 := (xS b, I, L, xP b)) rfl trivial ?_
                    refine xw_call xb_162 rfl rfl rfl rfl rfl (Or.inl rfl) m_in ?_
                    rintro _ _ ⟨rfl, rfl⟩
                    refine xw_at (f' := (139, [.ref 60, .int (nI s), .int (nI la), .int (nI j), .int (nI n), .int (nI m), .int (nI t), .int (xwy (Y s) la (nI j) (nI (2 * n))), .int (nI (24 * s + j)), .int (nI k), .float 0, .float 0, .float 0, .float 0, .float 0], [.int (nI (xB (decide ((0 : Int64).toInt ≤ ((Y s).2.2.2 (j + 2 * k + 1)).toInt ∧ ((Y s).2.2.2 (j + 2 * k + 1)).toInt ≤ (9999 : Int64).toInt))))])) (h' := (xS b, I, L, xP b)) rfl rfl ?_
                    refine xw_go xb_162 1 (f1 := (if ¬ (nI (xB (decide ((0 : Int64).toInt ≤ ((Y s).2.2.2 (j + 2 * k + 1)).toInt ∧ ((Y s).2.2.2 (j + 2 * k + 1)).toInt ≤ (9999 : Int64).toInt)))) = 0 then 145 else 142, [.ref 60, .int (nI s), .int (nI la), .int (nI j), .int (nI n), .int (nI m), .int (nI t), .int (xwy (Y s) la (nI j) (nI (2 * n))), .int (nI (24 * s + j)), .int (nI k), .float 0, .float 0, .float 0, .float 0, .float 0], [])) (h1 := (xS b, I, L, xP b)) rfl trivial ?_
                    refine xw_if (fun c_139 => ?_) (fun c_139 => ?_)
                    · skip
                      refine xw_go xb_162 2 (f1 := (85, [.ref 60, .int (nI s), .int (nI la), .int (nI j), .int (nI n), .int (nI m), .int (nI t), .int (xwy (Y s) la (nI j) (nI (2 * n))), .int (nI (24 * s + j)), .int ((nI k) + 1), .float 0, .float 0, .float 0, .float 0, .float 0], [])) (h1 := (xS b, I, L, xP b)) rfl trivial ?_
                      refine xw_cong ?_ rfl rfl (ih _ ⟨rfl, fun q hq => ?_⟩)
                      · rw [nI_1]
                      · by_cases e : q = k
                        · subst e
                          unfold xtok
                          try rw [xB_dec, xjt_0, xt64, xt_n (by omega)] at c_115
                          try rw [xB_dec, xjt_0, xjt_9999] at c_139
                          omega
                        · exact hv q (by omega)
                    · skip
                      refine xw_go xb_162 1 (f1 := (144, [.ref 60, .int (nI s), .int (nI la), .int (nI j), .int (nI n), .int (nI m), .int (nI t), .int (xwy (Y s) la (nI j) (nI (2 * n))), .int (nI (24 * s + j)), .int (nI k), .float 0, .float 0, .float 0, .float 0, .float 0], [.int (-2)])) (h1 := (xS b, I, L, xP b)) rfl trivial ?_
                      refine xw_ret xb_162 rfl rfl trivial ?_
                      exact xQM_same hM
              · obtain ⟨rfl, hv⟩ := hV
                refine xw_go xb_162 3 (f1 := (if (nI n) ≤ (nI n) then 151 else 92, [.ref 60, .int (nI s), .int (nI la), .int (nI j), .int (nI n), .int (nI m), .int (nI t), .int (xwy (Y s) la (nI j) (nI (2 * n))), .int (nI (24 * s + j)), .int (nI n), .float 0, .float 0, .float 0, .float 0, .float 0], [])) (h1 := (xS b, I, L, xP b)) rfl trivial ?_
                refine xw_if (fun c_89 => ?_) (fun c_89 => ?_)
                · skip
                  exact absurd hv hok
                · skip
                  exfalso
                  try simp only [xB_dec, Classical.not_not] at c_89
                  try simp (disch := omega) only [xt_eq, xt_lt, xt_le, xkt_0, xkt_1, xkt_2, xkt_3, xkt_4, xkt_5, xkt_6, xkt_7, xkt_8, xkt_9, xkt_10, xkt_11, xkt_12, xkt_13, xkt_14, xkt_16, xkt_20, xkt_24, xkt_31, xkt_32, xkt_40, xkt_44, xkt_47, xkt_48, xkt_57, xkt_59, xkt_60, xkt_63, xkt_64, xkt_65, xkt_72, xkt_95, xkt_99, xkt_100, xkt_101, xkt_103, xkt_110, xkt_112, xkt_113, xkt_114, xkt_119, xkt_126, xkt_159, xkt_576, xkt_999, xkt_9999, xkt_65536, xkt_999999, xkt_m1, xkt_m2, xkt_m3, xkt_m4, xkt_m11, xkt_m12, xkt_m13, xkt_m14, xkt_m20, xjt_0, xjt_1, xjt_2, xjt_3, xjt_4, xjt_5, xjt_6, xjt_7, xjt_8, xjt_9, xjt_10, xjt_11, xjt_12, xjt_13, xjt_14, xjt_16, xjt_20, xjt_24, xjt_31, xjt_32, xjt_40, xjt_44, xjt_47, xjt_48, xjt_57, xjt_59, xjt_60, xjt_63, xjt_64, xjt_65, xjt_72, xjt_95, xjt_99, xjt_100, xjt_101, xjt_103, xjt_110, xjt_112, xjt_113, xjt_114, xjt_119, xjt_126, xjt_159, xjt_576, xjt_999, xjt_9999, xjt_65536, xjt_999999, xt64, xt_n, not_true_eq_false, not_false_eq_true, Classical.not_not] at c_89
                  all_goals omega
            · skip
              exact absurd (xwy_ge.mpr hw) c_68
          · skip
            exfalso
            try simp only [xB_dec, Classical.not_not] at c_4 c_11 c_24 c_37 c_48
            try simp (disch := omega) only [xt_eq, xt_lt, xt_le, xkt_0, xkt_1, xkt_2, xkt_3, xkt_4, xkt_5, xkt_6, xkt_7, xkt_8, xkt_9, xkt_10, xkt_11, xkt_12, xkt_13, xkt_14, xkt_16, xkt_20, xkt_24, xkt_31, xkt_32, xkt_40, xkt_44, xkt_47, xkt_48, xkt_57, xkt_59, xkt_60, xkt_63, xkt_64, xkt_65, xkt_72, xkt_95, xkt_99, xkt_100, xkt_101, xkt_103, xkt_110, xkt_112, xkt_113, xkt_114, xkt_119, xkt_126, xkt_159, xkt_576, xkt_999, xkt_9999, xkt_65536, xkt_999999, xkt_m1, xkt_m2, xkt_m3, xkt_m4, xkt_m11, xkt_m12, xkt_m13, xkt_m14, xkt_m20, xjt_0, xjt_1, xjt_2, xjt_3, xjt_4, xjt_5, xjt_6, xjt_7, xjt_8, xjt_9, xjt_10, xjt_11, xjt_12, xjt_13, xjt_14, xjt_16, xjt_20, xjt_24, xjt_31, xjt_32, xjt_40, xjt_44, xjt_47, xjt_48, xjt_57, xjt_59, xjt_60, xjt_63, xjt_64, xjt_65, xjt_72, xjt_95, xjt_99, xjt_100, xjt_101, xjt_103, xjt_110, xjt_112, xjt_113, xjt_114, xjt_119, xjt_126, xjt_159, xjt_576, xjt_999, xjt_9999, xjt_65536, xjt_999999, xt64, xt_n, not_true_eq_false, not_false_eq_true, Classical.not_not] at c_4 c_11 c_24 c_37 c_48
            all_goals omega

set_option maxHeartbeats 4000000 in
theorem m_tins4 {d : Nat} {b : Bool} {I : Nat → Nat → Int32} {L : Nat → Nat → Int64} {N : Nat → Nat} {u : Nat} {U : Nat → Nat → Nat} (hM : xML N u U I) (hK : xUK N u U) {Y : xY} (hS : xSM Y I L) (hY : xYK Y) {n m t : Nat} (hn : 1 ≤ n ∧ n ≤ 8) (hm : 1 ≤ m ∧ m ≤ 20) (ht : t < 2) {s : Nat} (hs : s < 4) {la : Nat} (bl : la < 4) {j : Nat} (bj : j < 2 ^ 31) (hw : xwy (Y s) la (nI j) (nI (2 * n)) = 0) {ce te : Nat → Nat} (hq0 : xtn N (Y s).2.2.2 j n ce te) {x : Int32} (e_x : x = nI s) {y : Int32} (e_y : y = nI la) {i : Int32} (e_i : i = nI j) {z : Int32} (e_z : z = nI n) {v : Int32} (e_v : v = nI m) {w : Int32} (e_w : w = nI t) : xm_Z (d + 8) 162 [.ref 60, .int x, .int y, .int i, .int z, .int v, .int w] (xS b, I, L, xP b) (fun rz hz => xQM b I L (if t = 0 then nI (xcnt (xfw N m ce te n) (2 ^ N 2)) else xfs (xfw N m ce te n) (2 ^ N 2)) N u U rz hz) := by
  subst e_x
  subst e_y
  subst e_i
  subst e_z
  subst e_v
  subst e_w
  have hO := hK.1
  have hb := hK.1.1
  have c64 : N 0 * N 1 ≤ 64 := xce_le hO
  have c4 : 4 ≤ N 0 * N 1 := xce_ge hO
  obtain ⟨y0, y2, y3⟩ := hS s hs
  have hk := hY s hs
  obtain ⟨w1, w2, w3, w4, w5⟩ := xwy_0 hw
  have hj9 : j + 2 * n ≤ (Y s).2.2.1 := by rw [xt_n bj, xt_n (by omega)] at w5; omega
  have hj : j + 2 * n ≤ 24 := by omega
  have hok := xtn_ok c64 hq0
  have w32 := xp32 hb.2.2.2.2.1
  have h49 := hK.2.1
  refine xw_S xb_162 (l := [.ref 60, .int (nI s), .int (nI la), .int (nI j), .int (nI n), .int (nI m), .int (nI t), .float 0, .float 0, .float 0, .float 0, .float 0, .float 0, .float 0, .float 0]) (Nat.le_of_ble_eq_true rfl) rfl ?_
  refine xw_go xb_162 1 (f1 := (1, [.ref 60, .int (nI s), .int (nI la), .int (nI j), .int (nI n), .int (nI m), .int (nI t), .float 0, .float 0, .float 0, .float 0, .float 0, .float 0, .float 0, .float 0], [.int (nI s)])) (h1 := (xS b, I, L, xP b)) rfl trivial ?_
  refine xw_call xb_162 rfl rfl rfl rfl rfl (Or.inl rfl) m_isSheet ?_
  rintro _ _ ⟨rfl, rfl⟩
  refine xw_at (f' := (4, [.ref 60, .int (nI s), .int (nI la), .int (nI j), .int (nI n), .int (nI m), .int (nI t), .float 0, .float 0, .float 0, .float 0, .float 0, .float 0, .float 0, .float 0], [.int (nI (xB (decide (0 ≤ (nI s).toInt ∧ (nI s).toInt ≤ 3))))])) (h' := (xS b, I, L, xP b)) rfl rfl ?_
  refine xw_go xb_162 1 (f1 := (if (nI (xB (decide (0 ≤ (nI s).toInt ∧ (nI s).toInt ≤ 3)))) = 0 then 51 else 7, [.ref 60, .int (nI s), .int (nI la), .int (nI j), .int (nI n), .int (nI m), .int (nI t), .float 0, .float 0, .float 0, .float 0, .float 0, .float 0, .float 0, .float 0], [])) (h1 := (xS b, I, L, xP b)) rfl trivial ?_
  refine xw_if (fun c_4 => ?_) (fun c_4 => ?_)
  · skip
    exfalso
    try simp only [xB_dec, Classical.not_not] at c_4
    try simp (disch := omega) only [xt_eq, xt_lt, xt_le, xkt_0, xkt_1, xkt_2, xkt_3, xkt_4, xkt_5, xkt_6, xkt_7, xkt_8, xkt_9, xkt_10, xkt_11, xkt_12, xkt_13, xkt_14, xkt_16, xkt_20, xkt_24, xkt_31, xkt_32, xkt_40, xkt_44, xkt_47, xkt_48, xkt_57, xkt_59, xkt_60, xkt_63, xkt_64, xkt_65, xkt_72, xkt_95, xkt_99, xkt_100, xkt_101, xkt_103, xkt_110, xkt_112, xkt_113, xkt_114, xkt_119, xkt_126, xkt_159, xkt_576, xkt_999, xkt_9999, xkt_65536, xkt_999999, xkt_m1, xkt_m2, xkt_m3, xkt_m4, xkt_m11, xkt_m12, xkt_m13, xkt_m14, xkt_m20, xjt_0, xjt_1, xjt_2, xjt_3, xjt_4, xjt_5, xjt_6, xjt_7, xjt_8, xjt_9, xjt_10, xjt_11, xjt_12, xjt_13, xjt_14, xjt_16, xjt_20, xjt_24, xjt_31, xjt_32, xjt_40, xjt_44, xjt_47, xjt_48, xjt_57, xjt_59, xjt_60, xjt_63, xjt_64, xjt_65, xjt_72, xjt_95, xjt_99, xjt_100, xjt_101, xjt_103, xjt_110, xjt_112, xjt_113, xjt_114, xjt_119, xjt_126, xjt_159, xjt_576, xjt_999, xjt_9999, xjt_65536, xjt_999999, xt64, xt_n, not_true_eq_false, not_false_eq_true, Classical.not_not] at c_4
    all_goals omega
  · skip
    refine xw_go xb_162 1 (f1 := (8, [.ref 60, .int (nI s), .int (nI la), .int (nI j), .int (nI n), .int (nI m), .int (nI t), .float 0, .float 0, .float 0, .float 0, .float 0, .float 0, .float 0, .float 0], [.int (nI la)])) (h1 := (xS b, I, L, xP b)) rfl trivial ?_
    refine xw_call xb_162 rfl rfl rfl rfl rfl (Or.inl rfl) m_isLane ?_
    rintro _ _ ⟨rfl, rfl⟩
    refine xw_at (f' := (11, [.ref 60, .int (nI s), .int (nI la), .int (nI j), .int (nI n), .int (nI m), .int (nI t), .float 0, .float 0, .float 0, .float 0, .float 0, .float 0, .float 0, .float 0], [.int (nI (xB (decide (0 ≤ (nI la).toInt ∧ (nI la).toInt ≤ 3))))])) (h' := (xS b, I, L, xP b)) rfl rfl ?_
    refine xw_go xb_162 1 (f1 := (if (nI (xB (decide (0 ≤ (nI la).toInt ∧ (nI la).toInt ≤ 3)))) = 0 then 51 else 14, [.ref 60, .int (nI s), .int (nI la), .int (nI j), .int (nI n), .int (nI m), .int (nI t), .float 0, .float 0, .float 0, .float 0, .float 0, .float 0, .float 0, .float 0], [])) (h1 := (xS b, I, L, xP b)) rfl trivial ?_
    refine xw_if (fun c_11 => ?_) (fun c_11 => ?_)
    · skip
      exfalso
      try simp only [xB_dec, Classical.not_not] at c_4 c_11
      try simp (disch := omega) only [xt_eq, xt_lt, xt_le, xkt_0, xkt_1, xkt_2, xkt_3, xkt_4, xkt_5, xkt_6, xkt_7, xkt_8, xkt_9, xkt_10, xkt_11, xkt_12, xkt_13, xkt_14, xkt_16, xkt_20, xkt_24, xkt_31, xkt_32, xkt_40, xkt_44, xkt_47, xkt_48, xkt_57, xkt_59, xkt_60, xkt_63, xkt_64, xkt_65, xkt_72, xkt_95, xkt_99, xkt_100, xkt_101, xkt_103, xkt_110, xkt_112, xkt_113, xkt_114, xkt_119, xkt_126, xkt_159, xkt_576, xkt_999, xkt_9999, xkt_65536, xkt_999999, xkt_m1, xkt_m2, xkt_m3, xkt_m4, xkt_m11, xkt_m12, xkt_m13, xkt_m14, xkt_m20, xjt_0, xjt_1, xjt_2, xjt_3, xjt_4, xjt_5, xjt_6, xjt_7, xjt_8, xjt_9, xjt_10, xjt_11, xjt_12, xjt_13, xjt_14, xjt_16, xjt_20, xjt_24, xjt_31, xjt_32, xjt_40, xjt_44, xjt_47, xjt_48, xjt_57, xjt_59, xjt_60, xjt_63, xjt_64, xjt_65, xjt_72, xjt_95, xjt_99, xjt_100, xjt_101, xjt_103, xjt_110, xjt_112, xjt_113, xjt_114, xjt_119, xjt_126, xjt_159, xjt_576, xjt_999, xjt_9999, xjt_65536, xjt_999999, xt64, xt_n, not_true_eq_false, not_false_eq_true, Classical.not_not] at c_4 c_11
      all_goals omega
    · skip
      refine xw_go xb_162 4 (f1 := (21, [.ref 60, .int (nI s), .int (nI la), .int (nI j), .int (nI n), .int (nI m), .int (nI t), .float 0, .float 0, .float 0, .float 0, .float 0, .float 0, .float 0, .float 0], [.long 8, .long 1, .long ((nI n).toInt64)])) (h1 := (xS b, I, L, xP b)) rfl trivial ?_
      refine xw_call xb_162 rfl rfl rfl rfl rfl (Or.inl rfl) m_in ?_
      rintro _ _ ⟨rfl, rfl⟩
      refine xw_at (f' := (24, [.ref 60, .int (nI s), .int (nI la), .int (nI j), .int (nI n), .int (nI m), .int (nI t), .float 0, .float 0, .float 0, .float 0, .float 0, .float 0, .float 0, .float 0], [.int (nI (xB (decide ((1 : Int64).toInt ≤ (nI n).toInt64.toInt ∧ (nI n).toInt64.toInt ≤ (8 : Int64).toInt))))])) (h' := (xS b, I, L, xP b)) rfl rfl ?_
      refine xw_go xb_162 1 (f1 := (if (nI (xB (decide ((1 : Int64).toInt ≤ (nI n).toInt64.toInt ∧ (nI n).toInt64.toInt ≤ (8 : Int64).toInt)))) = 0 then 51 else 27, [.ref 60, .int (nI s), .int (nI la), .int (nI j), .int (nI n), .int (nI m), .int (nI t), .float 0, .float 0, .float 0, .float 0, .float 0, .float 0, .float 0, .float 0], [])) (h1 := (xS b, I, L, xP b)) rfl trivial ?_
      refine xw_if (fun c_24 => ?_) (fun c_24 => ?_)
      · skip
        exfalso
        try simp only [xB_dec, Classical.not_not] at c_4 c_11 c_24
        try simp (disch := omega) only [xt_eq, xt_lt, xt_le, xkt_0, xkt_1, xkt_2, xkt_3, xkt_4, xkt_5, xkt_6, xkt_7, xkt_8, xkt_9, xkt_10, xkt_11, xkt_12, xkt_13, xkt_14, xkt_16, xkt_20, xkt_24, xkt_31, xkt_32, xkt_40, xkt_44, xkt_47, xkt_48, xkt_57, xkt_59, xkt_60, xkt_63, xkt_64, xkt_65, xkt_72, xkt_95, xkt_99, xkt_100, xkt_101, xkt_103, xkt_110, xkt_112, xkt_113, xkt_114, xkt_119, xkt_126, xkt_159, xkt_576, xkt_999, xkt_9999, xkt_65536, xkt_999999, xkt_m1, xkt_m2, xkt_m3, xkt_m4, xkt_m11, xkt_m12, xkt_m13, xkt_m14, xkt_m20, xjt_0, xjt_1, xjt_2, xjt_3, xjt_4, xjt_5, xjt_6, xjt_7, xjt_8, xjt_9, xjt_10, xjt_11, xjt_12, xjt_13, xjt_14, xjt_16, xjt_20, xjt_24, xjt_31, xjt_32, xjt_40, xjt_44, xjt_47, xjt_48, xjt_57, xjt_59, xjt_60, xjt_63, xjt_64, xjt_65, xjt_72, xjt_95, xjt_99, xjt_100, xjt_101, xjt_103, xjt_110, xjt_112, xjt_113, xjt_114, xjt_119, xjt_126, xjt_159, xjt_576, xjt_999, xjt_9999, xjt_65536, xjt_999999, xt64, xt_n, not_true_eq_false, not_false_eq_true, Classical.not_not] at c_4 c_11 c_24
        all_goals omega
      · skip
        refine xw_go xb_162 4 (f1 := (34, [.ref 60, .int (nI s), .int (nI la), .int (nI j), .int (nI n), .int (nI m), .int (nI t), .float 0, .float 0, .float 0, .float 0, .float 0, .float 0, .float 0, .float 0], [.long 20, .long 1, .long ((nI m).toInt64)])) (h1 := (xS b, I, L, xP b)) rfl trivial ?_
        refine xw_call xb_162 rfl rfl rfl rfl rfl (Or.inl rfl) m_in ?_
        rintro _ _ ⟨rfl, rfl⟩
        refine xw_at (f' := (37, [.ref 60, .int (nI s), .int (nI la), .int (nI j), .int (nI n), .int (nI m), .int (nI t), .float 0, .float 0, .float 0, .float 0, .float 0, .float 0, .float 0, .float 0], [.int (nI (xB (decide ((1 : Int64).toInt ≤ (nI m).toInt64.toInt ∧ (nI m).toInt64.toInt ≤ (20 : Int64).toInt))))])) (h' := (xS b, I, L, xP b)) rfl rfl ?_
        refine xw_go xb_162 1 (f1 := (if (nI (xB (decide ((1 : Int64).toInt ≤ (nI m).toInt64.toInt ∧ (nI m).toInt64.toInt ≤ (20 : Int64).toInt)))) = 0 then 51 else 40, [.ref 60, .int (nI s), .int (nI la), .int (nI j), .int (nI n), .int (nI m), .int (nI t), .float 0, .float 0, .float 0, .float 0, .float 0, .float 0, .float 0, .float 0], [])) (h1 := (xS b, I, L, xP b)) rfl trivial ?_
        refine xw_if (fun c_37 => ?_) (fun c_37 => ?_)
        · skip
          exfalso
          try simp only [xB_dec, Classical.not_not] at c_4 c_11 c_24 c_37
          try simp (disch := omega) only [xt_eq, xt_lt, xt_le, xkt_0, xkt_1, xkt_2, xkt_3, xkt_4, xkt_5, xkt_6, xkt_7, xkt_8, xkt_9, xkt_10, xkt_11, xkt_12, xkt_13, xkt_14, xkt_16, xkt_20, xkt_24, xkt_31, xkt_32, xkt_40, xkt_44, xkt_47, xkt_48, xkt_57, xkt_59, xkt_60, xkt_63, xkt_64, xkt_65, xkt_72, xkt_95, xkt_99, xkt_100, xkt_101, xkt_103, xkt_110, xkt_112, xkt_113, xkt_114, xkt_119, xkt_126, xkt_159, xkt_576, xkt_999, xkt_9999, xkt_65536, xkt_999999, xkt_m1, xkt_m2, xkt_m3, xkt_m4, xkt_m11, xkt_m12, xkt_m13, xkt_m14, xkt_m20, xjt_0, xjt_1, xjt_2, xjt_3, xjt_4, xjt_5, xjt_6, xjt_7, xjt_8, xjt_9, xjt_10, xjt_11, xjt_12, xjt_13, xjt_14, xjt_16, xjt_20, xjt_24, xjt_31, xjt_32, xjt_40, xjt_44, xjt_47, xjt_48, xjt_57, xjt_59, xjt_60, xjt_63, xjt_64, xjt_65, xjt_72, xjt_95, xjt_99, xjt_100, xjt_101, xjt_103, xjt_110, xjt_112, xjt_113, xjt_114, xjt_119, xjt_126, xjt_159, xjt_576, xjt_999, xjt_9999, xjt_65536, xjt_999999, xt64, xt_n, not_true_eq_false, not_false_eq_true, Classical.not_not] at c_4 c_11 c_24 c_37
          all_goals omega
        · skip
          refine xw_go xb_162 4 (f1 := (45, [.ref 60, .int (nI s), .int (nI la), .int (nI j), .int (nI n), .int (nI m), .int (nI t), .float 0, .float 0, .float 0, .float 0, .float 0, .float 0, .float 0, .float 0], [.long 1, .long 0, .long ((nI t).toInt64)])) (h1 := (xS b, I, L, xP b)) rfl trivial ?_
          refine xw_call xb_162 rfl rfl rfl rfl rfl (Or.inl rfl) m_in ?_
          rintro _ _ ⟨rfl, rfl⟩
          refine xw_at (f' := (48, [.ref 60, .int (nI s), .int (nI la), .int (nI j), .int (nI n), .int (nI m), .int (nI t), .float 0, .float 0, .float 0, .float 0, .float 0, .float 0, .float 0, .float 0], [.int (nI (xB (decide ((0 : Int64).toInt ≤ (nI t).toInt64.toInt ∧ (nI t).toInt64.toInt ≤ (1 : Int64).toInt))))])) (h' := (xS b, I, L, xP b)) rfl rfl ?_
          refine xw_go xb_162 1 (f1 := (if ¬ (nI (xB (decide ((0 : Int64).toInt ≤ (nI t).toInt64.toInt ∧ (nI t).toInt64.toInt ≤ (1 : Int64).toInt)))) = 0 then 53 else 51, [.ref 60, .int (nI s), .int (nI la), .int (nI j), .int (nI n), .int (nI m), .int (nI t), .float 0, .float 0, .float 0, .float 0, .float 0, .float 0, .float 0, .float 0], [])) (h1 := (xS b, I, L, xP b)) rfl trivial ?_
          refine xw_if (fun c_48 => ?_) (fun c_48 => ?_)
          · skip
            refine xw_go xb_162 7 (f1 := (61, [.ref 60, .int (nI s), .int (nI la), .int (nI j), .int (nI n), .int (nI m), .int (nI t), .float 0, .float 0, .float 0, .float 0, .float 0, .float 0, .float 0, .float 0], [.int (2 * (nI n)), .int (nI j), .int (nI la), .int (nI s), .ref 60])) (h1 := (xS b, I, L, xP b)) rfl trivial ?_
            refine xw_cong (l' := [.ref 60, .int (nI s), .int (nI la), .int (nI j), .int (nI n), .int (nI m), .int (nI t), .float 0, .float 0, .float 0, .float 0, .float 0, .float 0, .float 0, .float 0]) (st' := [.int (nI (2 * n)), .int (nI j), .int (nI la), .int (nI s), .ref 60]) (h' := (xS b, I, L, xP b)) rfl (show ([.int (2 * (nI n)), .int (nI j), .int (nI la), .int (nI s), .ref 60] : List Value) = [.int (nI (2 * n)), .int (nI j), .int (nI la), .int (nI s), .ref 60] from ?_) rfl ?_
            · rw [xl_2, pk_mul]
            refine xw_call xb_162 rfl rfl rfl rfl rfl (Or.inr ⟨_, _, rfl, rfl⟩) (m_why hS hY hs bl rfl rfl) ?_
            rintro _ _ ⟨rfl, rfl⟩
            refine xw_at (f' := (64, [.ref 60, .int (nI s), .int (nI la), .int (nI j), .int (nI n), .int (nI m), .int (nI t), .float 0, .float 0, .float 0, .float 0, .float 0, .float 0, .float 0, .float 0], [.int (xwy (Y s) la (nI j) (nI (2 * n)))])) (h' := (xS b, I, L, xP b)) rfl rfl ?_
            refine xw_go xb_162 3 (f1 := (if 0 ≤ (xwy (Y s) la (nI j) (nI (2 * n))) then 74 else 71, [.ref 60, .int (nI s), .int (nI la), .int (nI j), .int (nI n), .int (nI m), .int (nI t), .int (xwy (Y s) la (nI j) (nI (2 * n))), .float 0, .float 0, .float 0, .float 0, .float 0, .float 0, .float 0], [])) (h1 := (xS b, I, L, xP b)) rfl trivial ?_
            refine xw_if (fun c_68 => ?_) (fun c_68 => ?_)
            · skip
              refine xw_go xb_162 5 (f1 := (80, [.ref 60, .int (nI s), .int (nI la), .int (nI j), .int (nI n), .int (nI m), .int (nI t), .int (xwy (Y s) la (nI j) (nI (2 * n))), .float 0, .float 0, .float 0, .float 0, .float 0, .float 0, .float 0], [.int ((24 * (nI s)) + (nI j))])) (h1 := (xS b, I, L, xP b)) rfl trivial ?_
              refine xw_cong (l' := [.ref 60, .int (nI s), .int (nI la), .int (nI j), .int (nI n), .int (nI m), .int (nI t), .int (xwy (Y s) la (nI j) (nI (2 * n))), .float 0, .float 0, .float 0, .float 0, .float 0, .float 0, .float 0]) (st' := [.int (nI (24 * s + j))]) (h' := (xS b, I, L, xP b)) rfl (show ([.int ((24 * (nI s)) + (nI j))] : List Value) = [.int (nI (24 * s + j))] from ?_) rfl ?_
              · rw [xl_24, pk_mul, nI_add]
              refine xw_go xb_162 3 (f1 := (85, [.ref 60, .int (nI s), .int (nI la), .int (nI j), .int (nI n), .int (nI m), .int (nI t), .int (xwy (Y s) la (nI j) (nI (2 * n))), .int (nI (24 * s + j)), .int 0, .float 0, .float 0, .float 0, .float 0, .float 0], [])) (h1 := (xS b, I, L, xP b)) rfl trivial ?_
              refine xw_at (f' := (85, [.ref 60, .int (nI s), .int (nI la), .int (nI j), .int (nI n), .int (nI m), .int (nI t), .int (xwy (Y s) la (nI j) (nI (2 * n))), .int (nI (24 * s + j)), .int (nI 0), .float 0, .float 0, .float 0, .float 0, .float 0], [])) (h' := (xS b, I, L, xP b)) rfl rfl ?_
              refine xw_loopP n (fun k => (85, [.ref 60, .int (nI s), .int (nI la), .int (nI j), .int (nI n), .int (nI m), .int (nI t), .int (xwy (Y s) la (nI j) (nI (2 * n))), .int (nI (24 * s + j)), .int (nI k), .float 0, .float 0, .float 0, .float 0, .float 0], [])) (fun k h => h = (xS b, I, L, xP b) ∧ ∀ q, q < k → xtok N (Y s).2.2.2 j q) (fun k h hk hV ih => ?_) (fun h hV => ?_) 0 _ (Nat.zero_le _) ⟨rfl, fun q hq => absurd hq (Nat.not_lt_zero q)⟩
              · obtain ⟨rfl, hv⟩ := hV
                refine xw_go xb_162 3 (f1 := (if (nI n) ≤ (nI k) then 151 else 92, [.ref 60, .int (nI s), .int (nI la), .int (nI j), .int (nI n), .int (nI m), .int (nI t), .int (xwy (Y s) la (nI j) (nI (2 * n))), .int (nI (24 * s + j)), .int (nI k), .float 0, .float 0, .float 0, .float 0, .float 0], [])) (h1 := (xS b, I, L, xP b)) rfl trivial ?_
                refine xw_if (fun c_89 => ?_) (fun c_89 => ?_)
                · skip
                  exfalso
                  try simp only [xB_dec, Classical.not_not] at c_89
                  try simp (disch := omega) only [xt_eq, xt_lt, xt_le, xkt_0, xkt_1, xkt_2, xkt_3, xkt_4, xkt_5, xkt_6, xkt_7, xkt_8, xkt_9, xkt_10, xkt_11, xkt_12, xkt_13, xkt_14, xkt_16, xkt_20, xkt_24, xkt_31, xkt_32, xkt_40, xkt_44, xkt_47, xkt_48, xkt_57, xkt_59, xkt_60, xkt_63, xkt_64, xkt_65, xkt_72, xkt_95, xkt_99, xkt_100, xkt_101, xkt_103, xkt_110, xkt_112, xkt_113, xkt_114, xkt_119, xkt_126, xkt_159, xkt_576, xkt_999, xkt_9999, xkt_65536, xkt_999999, xkt_m1, xkt_m2, xkt_m3, xkt_m4, xkt_m11, xkt_m12, xkt_m13, xkt_m14, xkt_m20, xjt_0, xjt_1, xjt_2, xjt_3, xjt_4, xjt_5, xjt_6, xjt_7, xjt_8, xjt_9, xjt_10, xjt_11, xjt_12, xjt_13, xjt_14, xjt_16, xjt_20, xjt_24, xjt_31, xjt_32, xjt_40, xjt_44, xjt_47, xjt_48, xjt_57, xjt_59, xjt_60, xjt_63, xjt_64, xjt_65, xjt_72, xjt_95, xjt_99, xjt_100, xjt_101, xjt_103, xjt_110, xjt_112, xjt_113, xjt_114, xjt_119, xjt_126, xjt_159, xjt_576, xjt_999, xjt_9999, xjt_65536, xjt_999999, xt64, xt_n, not_true_eq_false, not_false_eq_true, Classical.not_not] at c_89
                  all_goals omega
                · skip
                  refine xw_go xb_162 8 (f1 := (104, [.ref 60, .int (nI s), .int (nI la), .int (nI j), .int (nI n), .int (nI m), .int (nI t), .int (xwy (Y s) la (nI j) (nI (2 * n))), .int (nI (24 * s + j)), .int (nI k), .float 0, .float 0, .float 0, .float 0, .float 0], [.long (L 72 ((nI (24 * s + j)) + (2 * (nI k))).toNatClampNeg)])) (h1 := (xS b, I, L, xP b)) rfl ⟨rfl, (xn_ar' (n := 24 * s + j + 2 * k) (N := 96) rfl (show nI (24 * s + j) + 2 * nI k = _ by rw [xl_2, pk_mul, nI_add]) (by omega) (by decide)), trivial⟩ ?_
                  refine xw_cong (l' := [.ref 60, .int (nI s), .int (nI la), .int (nI j), .int (nI n), .int (nI m), .int (nI t), .int (xwy (Y s) la (nI j) (nI (2 * n))), .int (nI (24 * s + j)), .int (nI k), .float 0, .float 0, .float 0, .float 0, .float 0]) (st' := [.long ((Y s).2.2.2 (j + 2 * k))]) (h' := (xS b, I, L, xP b)) rfl (show ([.long (L 72 ((nI (24 * s + j)) + (2 * (nI k))).toNatClampNeg)] : List Value) = [.long ((Y s).2.2.2 (j + 2 * k))] from ?_) rfl ?_
                  · rw [xl_2, pk_mul, nI_add, xn_cl (by omega), show 24 * s + j + 2 * k = 24 * s + (j + 2 * k) by omega, y3 _ (by omega)]
                  refine xw_go xb_162 2 (f1 := (106, [.ref 60, .int (nI s), .int (nI la), .int (nI j), .int (nI n), .int (nI m), .int (nI t), .int (xwy (Y s) la (nI j) (nI (2 * n))), .int (nI (24 * s + j)), .int (nI k), .float 0, .float 0, .float 0, .float 0, .float 0], [.ref 60, .long 0, .long ((Y s).2.2.2 (j + 2 * k))])) (h1 := (xS b, I, L, xP b)) rfl trivial ?_
                  refine xw_call xb_162 rfl rfl rfl rfl rfl (Or.inr ⟨_, _, rfl, rfl⟩) (m_cells (I := I) hM.1) ?_
                  rintro _ _ ⟨rfl, rfl⟩
                  refine xw_at (f' := (109, [.ref 60, .int (nI s), .int (nI la), .int (nI j), .int (nI n), .int (nI m), .int (nI t), .int (xwy (Y s) la (nI j) (nI (2 * n))), .int (nI (24 * s + j)), .int (nI k), .float 0, .float 0, .float 0, .float 0, .float 0], [.int (nI (N 0 * N 1)), .long 0, .long ((Y s).2.2.2 (j + 2 * k))])) (h' := (xS b, I, L, xP b)) rfl rfl ?_
                  refine xw_go xb_162 2 (f1 := (111, [.ref 60, .int (nI s), .int (nI la), .int (nI j), .int (nI n), .int (nI m), .int (nI t), .int (xwy (Y s) la (nI j) (nI (2 * n))), .int (nI (24 * s + j)), .int (nI k), .float 0, .float 0, .float 0, .float 0, .float 0], [.int ((nI (N 0 * N 1)) - 1), .long 0, .long ((Y s).2.2.2 (j + 2 * k))])) (h1 := (xS b, I, L, xP b)) rfl trivial ?_
                  refine xw_cong (l' := [.ref 60, .int (nI s), .int (nI la), .int (nI j), .int (nI n), .int (nI m), .int (nI t), .int (xwy (Y s) la (nI j) (nI (2 * n))), .int (nI (24 * s + j)), .int (nI k), .float 0, .float 0, .float 0, .float 0, .float 0]) (st' := [.int (nI (N 0 * N 1 - 1)), .long 0, .long ((Y s).2.2.2 (j + 2 * k))]) (h' := (xS b, I, L, xP b)) rfl (show ([.int ((nI (N 0 * N 1)) - 1), .long 0, .long ((Y s).2.2.2 (j + 2 * k))] : List Value) = [.int (nI (N 0 * N 1 - 1)), .long 0, .long ((Y s).2.2.2 (j + 2 * k))] from ?_) rfl ?_
                  · rw [xl_1, xn_sub (by omega)]
                  refine xw_go xb_162 1 (f1 := (112, [.ref 60, .int (nI s), .int (nI la), .int (nI j), .int (nI n), .int (nI m), .int (nI t), .int (xwy (Y s) la (nI j) (nI (2 * n))), .int (nI (24 * s + j)), .int (nI k), .float 0, .float 0, .float 0, .float 0, .float 0], [.long ((nI (N 0 * N 1 - 1)).toInt64), .long 0, .long ((Y s).2.2.2 (j + 2 * k))])) (h1 := (xS b, I, L, xP b)) rfl trivial ?_
                  refine xw_call xb_162 rfl rfl rfl rfl rfl (Or.inl rfl) m_in ?_
                  rintro _ _ ⟨rfl, rfl⟩
                  refine xw_at (f' := (115, [.ref 60, .int (nI s), .int (nI la), .int (nI j), .int (nI n), .int (nI m), .int (nI t), .int (xwy (Y s) la (nI j) (nI (2 * n))), .int (nI (24 * s + j)), .int (nI k), .float 0, .float 0, .float 0, .float 0, .float 0], [.int (nI (xB (decide ((0 : Int64).toInt ≤ ((Y s).2.2.2 (j + 2 * k)).toInt ∧ ((Y s).2.2.2 (j + 2 * k)).toInt ≤ ((nI (N 0 * N 1 - 1)).toInt64).toInt))))])) (h' := (xS b, I, L, xP b)) rfl rfl ?_
                  refine xw_go xb_162 1 (f1 := (if (nI (xB (decide ((0 : Int64).toInt ≤ ((Y s).2.2.2 (j + 2 * k)).toInt ∧ ((Y s).2.2.2 (j + 2 * k)).toInt ≤ ((nI (N 0 * N 1 - 1)).toInt64).toInt)))) = 0 then 142 else 118, [.ref 60, .int (nI s), .int (nI la), .int (nI j), .int (nI n), .int (nI m), .int (nI t), .int (xwy (Y s) la (nI j) (nI (2 * n))), .int (nI (24 * s + j)), .int (nI k), .float 0, .float 0, .float 0, .float 0, .float 0], [])) (h1 := (xS b, I, L, xP b)) rfl trivial ?_
                  refine xw_if (fun c_115 => ?_) (fun c_115 => ?_)
                  · skip
                    exfalso
                    have hz := hok k hk
                    unfold xtok at hz
                    try rw [xB_dec, xjt_0, xt64, xt_n (by omega)] at c_115
                    try rw [xB_dec, xjt_0, xjt_9999] at c_139
                    omega
                  · skip
                    refine xw_go xb_162 10 (f1 := (132, [.ref 60, .int (nI s), .int (nI la), .int (nI j), .int (nI n), .int (nI m), .int (nI t), .int (xwy (Y s) la (nI j) (nI (2 * n))), .int (nI (24 * s + j)), .int (nI k), .float 0, .float 0, .float 0, .float 0, .float 0], [.long (L 72 (((nI (24 * s + j)) + (2 * (nI k))) + 1).toNatClampNeg)])) (h1 := (xS b, I, L, xP b)) rfl ⟨rfl, (xn_ar' (n := 24 * s + j + 2 * k + 1) (N := 96) rfl (show nI (24 * s + j) + 2 * nI k + 1 = _ by rw [xl_2, pk_mul, nI_add, xl_1, nI_add]) (by omega) (by decide)), trivial⟩ ?_
                    refine xw_cong (l' := [.ref 60, .int (nI s), .int (nI la), .int (nI j), .int (nI n), .int (nI m), .int (nI t), .int (xwy (Y s) la (nI j) (nI (2 * n))), .int (nI (24 * s + j)), .int (nI k), .float 0, .float 0, .float 0, .float 0, .float 0]) (st' := [.long ((Y s).2.2.2 (j + 2 * k + 1))]) (h' := (xS b, I, L, xP b)) rfl (show ([.long (L 72 (((nI (24 * s + j)) + (2 * (nI k))) + 1).toNatClampNeg)] : List Value) = [.long ((Y s).2.2.2 (j + 2 * k + 1))] from ?_) rfl ?_
                    · rw [xl_2, pk_mul, nI_add, xl_1, nI_add, xn_cl (by omega), show 24 * s + j + 2 * k + 1 = 24 * s + (j + 2 * k + 1) by omega, y3 _ (by omega)]
                    refine xw_go xb_162 2 (f1 := (136, [.ref 60, .int (nI s), .int (nI la), .int (nI j), .int (nI n), .int (nI m), .int (nI t), .int (xwy (Y s) la (nI j) (nI (2 * n))), .int (nI (24 * s + j)), .int (nI k), .float 0, .float 0, .float 0, .float 0, .float 0], [.long 9999, .long 0, .long ((Y s).2.2.2 (j + 2 * k + 1))])) (h1 := (xS b, I, L, xP b)) rfl trivial ?_
                    refine xw_call xb_162 rfl rfl rfl rfl rfl (Or.inl rfl) m_in ?_
                    rintro _ _ ⟨rfl, rfl⟩
                    refine xw_at (f' := (139, [.ref 60, .int (nI s), .int (nI la), .int (nI j), .int (nI n), .int (nI m), .int (nI t), .int (xwy (Y s) la (nI j) (nI (2 * n))), .int (nI (24 * s + j)), .int (nI k), .float 0, .float 0, .float 0, .float 0, .float 0], [.int (nI (xB (decide ((0 : Int64).toInt ≤ ((Y s).2.2.2 (j + 2 * k + 1)).toInt ∧ ((Y s).2.2.2 (j + 2 * k + 1)).toInt ≤ (9999 : Int64).toInt))))])) (h' := (xS b, I, L, xP b)) rfl rfl ?_
                    refine xw_go xb_162 1 (f1 := (if ¬ (nI (xB (decide ((0 : Int64).toInt ≤ ((Y s).2.2.2 (j + 2 * k + 1)).toInt ∧ ((Y s).2.2.2 (j + 2 * k + 1)).toInt ≤ (9999 : Int64).toInt)))) = 0 then 145 else 142, [.ref 60, .int (nI s), .int (nI la), .int (nI j), .int (nI n), .int (nI m), .int (nI t), .int (xwy (Y s) la (nI j) (nI (2 * n))), .int (nI (24 * s + j)), .int (nI k), .float 0, .float 0, .float 0, .float 0, .float 0], [])) (h1 := (xS b, I, L, xP b)) rfl trivial ?_
                    refine xw_if (fun c_139 => ?_) (fun c_139 => ?_)
                    · skip
                      refine xw_go xb_162 2 (f1 := (85, [.ref 60, .int (nI s), .int (nI la), .int (nI j), .int (nI n), .int (nI m), .int (nI t), .int (xwy (Y s) la (nI j) (nI (2 * n))), .int (nI (24 * s + j)), .int ((nI k) + 1), .float 0, .float 0, .float 0, .float 0, .float 0], [])) (h1 := (xS b, I, L, xP b)) rfl trivial ?_
                      refine xw_cong ?_ rfl rfl (ih _ ⟨rfl, fun q hq => ?_⟩)
                      · rw [nI_1]
                      · by_cases e : q = k
                        · subst e
                          unfold xtok
                          try rw [xB_dec, xjt_0, xt64, xt_n (by omega)] at c_115
                          try rw [xB_dec, xjt_0, xjt_9999] at c_139
                          omega
                        · exact hv q (by omega)
                    · skip
                      exfalso
                      have hz := hok k hk
                      unfold xtok at hz
                      try rw [xB_dec, xjt_0, xt64, xt_n (by omega)] at c_115
                      try rw [xB_dec, xjt_0, xjt_9999] at c_139
                      omega
              · obtain ⟨rfl, hv⟩ := hV
                refine xw_go xb_162 3 (f1 := (if (nI n) ≤ (nI n) then 151 else 92, [.ref 60, .int (nI s), .int (nI la), .int (nI j), .int (nI n), .int (nI m), .int (nI t), .int (xwy (Y s) la (nI j) (nI (2 * n))), .int (nI (24 * s + j)), .int (nI n), .float 0, .float 0, .float 0, .float 0, .float 0], [])) (h1 := (xS b, I, L, xP b)) rfl trivial ?_
                refine xw_if (fun c_89 => ?_) (fun c_89 => ?_)
                · skip
                  refine xw_go xb_162 5 (f1 := (159, [.ref 60, .int (nI s), .int (nI la), .int (nI j), .int (nI n), .int (nI m), .int (nI t), .int (xwy (Y s) la (nI j) (nI (2 * n))), .int (nI (24 * s + j)), .int 0, .int (-4), .float 0, .float 0, .float 0, .float 0], [.ref 60])) (h1 := (xS b, I, L, xP b)) rfl trivial ?_
                  refine xw_call xb_162 rfl rfl rfl rfl rfl (Or.inr ⟨_, _, rfl, rfl⟩) (m_asides (I := I)) ?_
                  rintro _ _ ⟨rfl, rfl⟩
                  refine xw_at (f' := (162, [.ref 60, .int (nI s), .int (nI la), .int (nI j), .int (nI n), .int (nI m), .int (nI t), .int (xwy (Y s) la (nI j) (nI (2 * n))), .int (nI (24 * s + j)), .int 0, .int (-4), .float 0, .float 0, .float 0, .float 0], [])) (h' := (xS b, va_up I 68 (xfil 159 (I 61) (I 68)), L, xP b)) rfl rfl ?_
                  refine xw_go xb_162 2 (f1 := (165, [.ref 60, .int (nI s), .int (nI la), .int (nI j), .int (nI n), .int (nI m), .int (nI t), .int (xwy (Y s) la (nI j) (nI (2 * n))), .int (nI (24 * s + j)), .int 0, .int (-4), .int 0, .float 0, .float 0, .float 0], [])) (h1 := (xS b, va_up I 68 (xfil 159 (I 61) (I 68)), L, xP b)) rfl trivial ?_
                  refine xw_at (f' := (165, [.ref 60, .int (nI s), .int (nI la), .int (nI j), .int (nI n), .int (nI m), .int (nI t), .int (xwy (Y s) la (nI j) (nI (2 * n))), .int (nI (24 * s + j)), .int (nI (xcnt (xfw N m ce te n) 0)), .int (xfs (xfw N m ce te n) 0), .int (nI 0), .float 0, .float 0, .float 0], [])) (h' := (xS b, va_up I 68 (xfil 159 (I 61) (I 68)), L, xP b)) rfl rfl ?_
                  refine xw_loopP (2 ^ N 2) (fun w => (165, [.ref 60, .int (nI s), .int (nI la), .int (nI j), .int (nI n), .int (nI m), .int (nI t), .int (xwy (Y s) la (nI j) (nI (2 * n))), .int (nI (24 * s + j)), .int (nI (xcnt (xfw N m ce te n) w)), .int (xfs (xfw N m ce te n) w), .int (nI w), .float 0, .float 0, .float 0], [])) (fun w h => ∃ J, h = (xS b, J, L, xP b) ∧ xMF I J ∧ J 68 = xfil 159 (I 61) (I 68) ∧ J 67 = I 67 ∧ J 60 = I 60 ∧ xMN N J) (fun w h hww hV ih => ?_) (fun h hV => ?_) 0 _ (Nat.zero_le _) ⟨_, rfl, xMF_v (xMF_r I) (by decide), rfl, rfl, rfl, fun k hk => hM.1 k hk⟩
                  · obtain ⟨J, rfl, j1, j2, j3, j4, j5⟩ := hV
                    refine xw_go xb_162 7 (f1 := (175, [.ref 60, .int (nI s), .int (nI la), .int (nI j), .int (nI n), .int (nI m), .int (nI t), .int (xwy (Y s) la (nI j) (nI (2 * n))), .int (nI (24 * s + j)), .int (nI (xcnt (xfw N m ce te n) w)), .int (xfs (xfw N m ce te n) w), .int (nI w), .float 0, .float 0, .float 0], [.int (1 <<< ((J 61 (2 : Int32).toNatClampNeg) &&& 31)), .int (nI w)])) (h1 := (xS b, J, L, xP b)) rfl ⟨rfl, (xn_ar (n := 2) (N := 159) rfl (by decide) (by decide)), trivial⟩ ?_
                    refine xw_cong (l' := [.ref 60, .int (nI s), .int (nI la), .int (nI j), .int (nI n), .int (nI m), .int (nI t), .int (xwy (Y s) la (nI j) (nI (2 * n))), .int (nI (24 * s + j)), .int (nI (xcnt (xfw N m ce te n) w)), .int (xfs (xfw N m ce te n) w), .int (nI w), .float 0, .float 0, .float 0]) (st' := [.int (nI (2 ^ N 2)), .int (nI w)]) (h' := (xS b, J, L, xP b)) rfl (show ([.int (1 <<< ((J 61 (2 : Int32).toNatClampNeg) &&& 31)), .int (nI w)] : List Value) = [.int (nI (2 ^ N 2)), .int (nI w)] from ?_) rfl ?_
                    · rw [show (2 : Int32).toNatClampNeg = 2 from rfl, j5 2 (by decide), xsh _ (by omega)]
                    refine xw_go xb_162 1 (f1 := (if (nI (2 ^ N 2)) ≤ (nI w) then 325 else 178, [.ref 60, .int (nI s), .int (nI la), .int (nI j), .int (nI n), .int (nI m), .int (nI t), .int (xwy (Y s) la (nI j) (nI (2 * n))), .int (nI (24 * s + j)), .int (nI (xcnt (xfw N m ce te n) w)), .int (xfs (xfw N m ce te n) w), .int (nI w), .float 0, .float 0, .float 0], [])) (h1 := (xS b, J, L, xP b)) rfl trivial ?_
                    refine xw_if (fun c_175 => ?_) (fun c_175 => ?_)
                    · skip
                      exfalso
                      try simp only [xB_dec, Classical.not_not] at c_175
                      try simp (disch := omega) only [xt_eq, xt_lt, xt_le, xkt_0, xkt_1, xkt_2, xkt_3, xkt_4, xkt_5, xkt_6, xkt_7, xkt_8, xkt_9, xkt_10, xkt_11, xkt_12, xkt_13, xkt_14, xkt_16, xkt_20, xkt_24, xkt_31, xkt_32, xkt_40, xkt_44, xkt_47, xkt_48, xkt_57, xkt_59, xkt_60, xkt_63, xkt_64, xkt_65, xkt_72, xkt_95, xkt_99, xkt_100, xkt_101, xkt_103, xkt_110, xkt_112, xkt_113, xkt_114, xkt_119, xkt_126, xkt_159, xkt_576, xkt_999, xkt_9999, xkt_65536, xkt_999999, xkt_m1, xkt_m2, xkt_m3, xkt_m4, xkt_m11, xkt_m12, xkt_m13, xkt_m14, xkt_m20, xjt_0, xjt_1, xjt_2, xjt_3, xjt_4, xjt_5, xjt_6, xjt_7, xjt_8, xjt_9, xjt_10, xjt_11, xjt_12, xjt_13, xjt_14, xjt_16, xjt_20, xjt_24, xjt_31, xjt_32, xjt_40, xjt_44, xjt_47, xjt_48, xjt_57, xjt_59, xjt_60, xjt_63, xjt_64, xjt_65, xjt_72, xjt_95, xjt_99, xjt_100, xjt_101, xjt_103, xjt_110, xjt_112, xjt_113, xjt_114, xjt_119, xjt_126, xjt_159, xjt_576, xjt_999, xjt_9999, xjt_65536, xjt_999999, xt64, xt_n, not_true_eq_false, not_false_eq_true, Classical.not_not] at c_175
                      all_goals omega
                    · skip
                      refine xw_go xb_162 6 (f1 := (187, [.ref 60, .int (nI s), .int (nI la), .int (nI j), .int (nI n), .int (nI m), .int (nI t), .int (xwy (Y s) la (nI j) (nI (2 * n))), .int (nI (24 * s + j)), .int (nI (xcnt (xfw N m ce te n) w)), .int (xfs (xfw N m ce te n) w), .int (nI w), .float 0, .float 0, .float 0], [.int (J 61 (5 : Int32).toNatClampNeg), .int (nI w), .ref 60])) (h1 := (xS b, J, L, xP b)) rfl ⟨rfl, (xn_ar (n := 5) (N := 159) rfl (by decide) (by decide)), trivial⟩ ?_
                      refine xw_call xb_162 rfl rfl rfl rfl rfl (Or.inr ⟨_, _, rfl, rfl⟩) (m_rains (I := J) j5 hO (o := w) (wi := N 5) (by omega) (by omega) rfl (j5 5 (by decide))) ?_
                      rintro _ _ ⟨rfl, X, rfl, hX⟩
                      refine xw_at (f' := (190, [.ref 60, .int (nI s), .int (nI la), .int (nI j), .int (nI n), .int (nI m), .int (nI t), .int (xwy (Y s) la (nI j) (nI (2 * n))), .int (nI (24 * s + j)), .int (nI (xcnt (xfw N m ce te n) w)), .int (xfs (xfw N m ce te n) w), .int (nI w), .float 0, .float 0, .float 0], [])) (h' := (xS b, va_up J 62 X, L, xP b)) rfl rfl ?_
                      refine xw_go xb_162 2 (f1 := (193, [.ref 60, .int (nI s), .int (nI la), .int (nI j), .int (nI n), .int (nI m), .int (nI t), .int (xwy (Y s) la (nI j) (nI (2 * n))), .int (nI (24 * s + j)), .int (nI (xcnt (xfw N m ce te n) w)), .int (xfs (xfw N m ce te n) w), .int (nI w), .float 0, .float 0, .float 0], [.int (nI m), .ref 60])) (h1 := (xS b, va_up J 62 X, L, xP b)) rfl trivial ?_
                      refine xw_call xb_162 rfl rfl rfl rfl rfl (Or.inr ⟨_, _, rfl, rfl⟩) (m_goesOn (I := (va_up J 62 X)) (N := N) j5 hO (fv := xfa N w (N 5)) (fun j hj => hX j hj) (fun j hj => by have := xfa_le hO w (N 5) j; omega) (n := m) (by omega) rfl) ?_
                      rintro _ _ ⟨rfl, X1, Z1, rfl, hZ⟩
                      refine xw_at (f' := (196, [.ref 60, .int (nI s), .int (nI la), .int (nI j), .int (nI n), .int (nI m), .int (nI t), .int (xwy (Y s) la (nI j) (nI (2 * n))), .int (nI (24 * s + j)), .int (nI (xcnt (xfw N m ce te n) w)), .int (xfs (xfw N m ce te n) w), .int (nI w), .float 0, .float 0, .float 0], [])) (h' := (xS b, va_up (va_up (va_up J 62 X) 63 X1) 61 Z1, L, xP b)) rfl rfl ?_
                      refine xw_go xb_162 4 (f1 := (202, [.ref 60, .int (nI s), .int (nI la), .int (nI j), .int (nI n), .int (nI m), .int (nI t), .int (xwy (Y s) la (nI j) (nI (2 * n))), .int (nI (24 * s + j)), .int (nI (xcnt (xfw N m ce te n) w)), .int (xfs (xfw N m ce te n) w), .int (nI w), .int 1, .int 0, .float 0], [])) (h1 := (xS b, va_up (va_up (va_up J 62 X) 63 X1) 61 Z1, L, xP b)) rfl trivial ?_
                      obtain ⟨K, hKK⟩ : ∃ K, K = va_up (va_up (va_up J 62 X) 63 X1) 61 Z1 := ⟨_, rfl⟩
                      have k61 : ∀ k, k < 159 → K 61 k = nI (xgoN N (xfa N w (N 5)) m k) := fun k hk => by rw [hKK, xvu_at]; exact hZ k hk
                      have k68 : ∀ k, k < 159 → K 68 k = nI (N k) := fun k hk => by
                        rw [hKK, xm_vu_o (by decide), xm_vu_o (by decide), xm_vu_o (by decide), j2]
                        unfold xfil
                        rw [if_pos hk]
                        exact hM.1 k hk
                      have k1 : xMF I K := by rw [hKK]; exact xMF_v (xMF_v (xMF_v j1 (by decide)) (by decide)) (by decide)
                      have k2 : K 68 = xfil 159 (I 61) (I 68) := by rw [hKK]; exact j2
                      have k3 : K 67 = I 67 := by rw [hKK]; exact j3
                      have k4 : K 60 = I 60 := by rw [hKK]; exact j4
                      refine xw_at (f' := (202, [.ref 60, .int (nI s), .int (nI la), .int (nI j), .int (nI n), .int (nI m), .int (nI t), .int (xwy (Y s) la (nI j) (nI (2 * n))), .int (nI (24 * s + j)), .int (nI (xcnt (xfw N m ce te n) w)), .int (xfs (xfw N m ce te n) w), .int (nI w), .int (nI (xB (xft (xfk N (fun c => xgoN N (xfa N w (N 5)) m (95 + c)) ce te) 0))), .int (nI 0), .float 0], [])) (h' := (xS b, K, L, xP b)) rfl (by rw [hKK]) ?_
                      clear hKK
                      refine xw_loop n (fun k => (202, [.ref 60, .int (nI s), .int (nI la), .int (nI j), .int (nI n), .int (nI m), .int (nI t), .int (xwy (Y s) la (nI j) (nI (2 * n))), .int (nI (24 * s + j)), .int (nI (xcnt (xfw N m ce te n) w)), .int (xfs (xfw N m ce te n) w), .int (nI w), .int (nI (xB (xft (xfk N (fun c => xgoN N (xfa N w (N 5)) m (95 + c)) ce te) k))), .int (nI k), .float 0], [])) (fun k => (xS b, K, L, xP b)) (fun k hk ih => ?_) ?_ 0 (Nat.zero_le _)
                      · obtain ⟨q1, q2, q3, q4⟩ := hq0 k hk
                        have gg := xgo_ge (fv := xfa N w (N 5)) (m := m) hO q2
                        have hft : xft (xfk N (fun c => xgoN N (xfa N w (N 5)) m (95 + c)) ce te) (k + 1) = (xft (xfk N (fun c => xgoN N (xfa N w (N 5)) m (95 + c)) ce te) k && xfk N (fun c => xgoN N (xfa N w (N 5)) m (95 + c)) ce te k) := rfl
                        refine xw_go xb_162 3 (f1 := (if (nI n) ≤ (nI k) then 279 else 209, [.ref 60, .int (nI s), .int (nI la), .int (nI j), .int (nI n), .int (nI m), .int (nI t), .int (xwy (Y s) la (nI j) (nI (2 * n))), .int (nI (24 * s + j)), .int (nI (xcnt (xfw N m ce te n) w)), .int (xfs (xfw N m ce te n) w), .int (nI w), .int (nI (xB (xft (xfk N (fun c => xgoN N (xfa N w (N 5)) m (95 + c)) ce te) k))), .int (nI k), .float 0], [])) (h1 := (xS b, K, L, xP b)) rfl trivial ?_
                        refine xw_if (fun c_206 => ?_) (fun c_206 => ?_)
                        · skip
                          exfalso
                          try simp only [xB_dec, Classical.not_not] at c_206
                          try simp (disch := omega) only [xt_eq, xt_lt, xt_le, xkt_0, xkt_1, xkt_2, xkt_3, xkt_4, xkt_5, xkt_6, xkt_7, xkt_8, xkt_9, xkt_10, xkt_11, xkt_12, xkt_13, xkt_14, xkt_16, xkt_20, xkt_24, xkt_31, xkt_32, xkt_40, xkt_44, xkt_47, xkt_48, xkt_57, xkt_59, xkt_60, xkt_63, xkt_64, xkt_65, xkt_72, xkt_95, xkt_99, xkt_100, xkt_101, xkt_103, xkt_110, xkt_112, xkt_113, xkt_114, xkt_119, xkt_126, xkt_159, xkt_576, xkt_999, xkt_9999, xkt_65536, xkt_999999, xkt_m1, xkt_m2, xkt_m3, xkt_m4, xkt_m11, xkt_m12, xkt_m13, xkt_m14, xkt_m20, xjt_0, xjt_1, xjt_2, xjt_3, xjt_4, xjt_5, xjt_6, xjt_7, xjt_8, xjt_9, xjt_10, xjt_11, xjt_12, xjt_13, xjt_14, xjt_16, xjt_20, xjt_24, xjt_31, xjt_32, xjt_40, xjt_44, xjt_47, xjt_48, xjt_57, xjt_59, xjt_60, xjt_63, xjt_64, xjt_65, xjt_72, xjt_95, xjt_99, xjt_100, xjt_101, xjt_103, xjt_110, xjt_112, xjt_113, xjt_114, xjt_119, xjt_126, xjt_159, xjt_576, xjt_999, xjt_9999, xjt_65536, xjt_999999, xt64, xt_n, not_true_eq_false, not_false_eq_true, Classical.not_not] at c_206
                          all_goals omega
                        · skip
                          refine xw_go xb_162 9 (f1 := (223, [.ref 60, .int (nI s), .int (nI la), .int (nI j), .int (nI n), .int (nI m), .int (nI t), .int (xwy (Y s) la (nI j) (nI (2 * n))), .int (nI (24 * s + j)), .int (nI (xcnt (xfw N m ce te n) w)), .int (xfs (xfw N m ce te n) w), .int (nI w), .int (nI (xB (xft (xfk N (fun c => xgoN N (xfa N w (N 5)) m (95 + c)) ce te) k))), .int (nI k), .float 0], [.long (L 72 ((nI (24 * s + j)) + (2 * (nI k))).toNatClampNeg), .int 95])) (h1 := (xS b, K, L, xP b)) rfl ⟨rfl, (xn_ar' (n := 24 * s + j + 2 * k) (N := 96) rfl (show nI (24 * s + j) + 2 * nI k = _ by rw [xl_2, pk_mul, nI_add]) (by omega) (by decide)), trivial⟩ ?_
                          refine xw_cong (l' := [.ref 60, .int (nI s), .int (nI la), .int (nI j), .int (nI n), .int (nI m), .int (nI t), .int (xwy (Y s) la (nI j) (nI (2 * n))), .int (nI (24 * s + j)), .int (nI (xcnt (xfw N m ce te n) w)), .int (xfs (xfw N m ce te n) w), .int (nI w), .int (nI (xB (xft (xfk N (fun c => xgoN N (xfa N w (N 5)) m (95 + c)) ce te) k))), .int (nI k), .float 0]) (st' := [.long ((Y s).2.2.2 (j + 2 * k)), .int 95]) (h' := (xS b, K, L, xP b)) rfl (show ([.long (L 72 ((nI (24 * s + j)) + (2 * (nI k))).toNatClampNeg), .int 95] : List Value) = [.long ((Y s).2.2.2 (j + 2 * k)), .int 95] from ?_) rfl ?_
                          · rw [xl_2, pk_mul, nI_add, xn_cl (by omega), show 24 * s + j + 2 * k = 24 * s + (j + 2 * k) by omega, y3 _ (by omega)]
                          refine xw_go xb_162 1 (f1 := (224, [.ref 60, .int (nI s), .int (nI la), .int (nI j), .int (nI n), .int (nI m), .int (nI t), .int (xwy (Y s) la (nI j) (nI (2 * n))), .int (nI (24 * s + j)), .int (nI (xcnt (xfw N m ce te n) w)), .int (xfs (xfw N m ce te n) w), .int (nI w), .int (nI (xB (xft (xfk N (fun c => xgoN N (xfa N w (N 5)) m (95 + c)) ce te) k))), .int (nI k), .float 0], [.int (((Y s).2.2.2 (j + 2 * k)).toInt32), .int 95])) (h1 := (xS b, K, L, xP b)) rfl trivial ?_
                          refine xw_cong (l' := [.ref 60, .int (nI s), .int (nI la), .int (nI j), .int (nI n), .int (nI m), .int (nI t), .int (xwy (Y s) la (nI j) (nI (2 * n))), .int (nI (24 * s + j)), .int (nI (xcnt (xfw N m ce te n) w)), .int (xfs (xfw N m ce te n) w), .int (nI w), .int (nI (xB (xft (xfk N (fun c => xgoN N (xfa N w (N 5)) m (95 + c)) ce te) k))), .int (nI k), .float 0]) (st' := [.int (nI (ce k)), .int 95]) (h' := (xS b, K, L, xP b)) rfl (show ([.int (((Y s).2.2.2 (j + 2 * k)).toInt32), .int 95] : List Value) = [.int (nI (ce k)), .int 95] from ?_) rfl ?_
                          · rw [q1, x64l]
                          refine xw_go xb_162 2 (f1 := (227, [.ref 60, .int (nI s), .int (nI la), .int (nI j), .int (nI n), .int (nI m), .int (nI t), .int (xwy (Y s) la (nI j) (nI (2 * n))), .int (nI (24 * s + j)), .int (nI (xcnt (xfw N m ce te n) w)), .int (xfs (xfw N m ce te n) w), .int (nI w), .int (nI (xB (xft (xfk N (fun c => xgoN N (xfa N w (N 5)) m (95 + c)) ce te) k))), .int (nI k), .int (95 + (nI (ce k)))], [])) (h1 := (xS b, K, L, xP b)) rfl trivial ?_
                          refine xw_cong (l' := [.ref 60, .int (nI s), .int (nI la), .int (nI j), .int (nI n), .int (nI m), .int (nI t), .int (xwy (Y s) la (nI j) (nI (2 * n))), .int (nI (24 * s + j)), .int (nI (xcnt (xfw N m ce te n) w)), .int (xfs (xfw N m ce te n) w), .int (nI w), .int (nI (xB (xft (xfk N (fun c => xgoN N (xfa N w (N 5)) m (95 + c)) ce te) k))), .int (nI k), .int (nI (95 + ce k))]) (st' := []) (h' := (xS b, K, L, xP b)) (show ([.ref 60, .int (nI s), .int (nI la), .int (nI j), .int (nI n), .int (nI m), .int (nI t), .int (xwy (Y s) la (nI j) (nI (2 * n))), .int (nI (24 * s + j)), .int (nI (xcnt (xfw N m ce te n) w)), .int (xfs (xfw N m ce te n) w), .int (nI w), .int (nI (xB (xft (xfk N (fun c => xgoN N (xfa N w (N 5)) m (95 + c)) ce te) k))), .int (nI k), .int (95 + (nI (ce k)))] : List Value) = [.ref 60, .int (nI s), .int (nI la), .int (nI j), .int (nI n), .int (nI m), .int (nI t), .int (xwy (Y s) la (nI j) (nI (2 * n))), .int (nI (24 * s + j)), .int (nI (xcnt (xfw N m ce te n) w)), .int (xfs (xfw N m ce te n) w), .int (nI w), .int (nI (xB (xft (xfk N (fun c => xgoN N (xfa N w (N 5)) m (95 + c)) ce te) k))), .int (nI k), .int (nI (95 + ce k))] from ?_) rfl rfl ?_
                          · rw [xl_95, nI_add]
                          refine xw_go xb_162 2 (f1 := (if (nI (xB (xft (xfk N (fun c => xgoN N (xfa N w (N 5)) m (95 + c)) ce te) k))) = 0 then 270 else 232, [.ref 60, .int (nI s), .int (nI la), .int (nI j), .int (nI n), .int (nI m), .int (nI t), .int (xwy (Y s) la (nI j) (nI (2 * n))), .int (nI (24 * s + j)), .int (nI (xcnt (xfw N m ce te n) w)), .int (xfs (xfw N m ce te n) w), .int (nI w), .int (nI (xB (xft (xfk N (fun c => xgoN N (xfa N w (N 5)) m (95 + c)) ce te) k))), .int (nI k), .int (nI (95 + ce k))], [])) (h1 := (xS b, K, L, xP b)) rfl trivial ?_
                          refine xw_if (fun c_229 => ?_) (fun c_229 => ?_)
                          · skip
                            refine xw_go xb_162 4 (f1 := (202, [.ref 60, .int (nI s), .int (nI la), .int (nI j), .int (nI n), .int (nI m), .int (nI t), .int (xwy (Y s) la (nI j) (nI (2 * n))), .int (nI (24 * s + j)), .int (nI (xcnt (xfw N m ce te n) w)), .int (xfs (xfw N m ce te n) w), .int (nI w), .int 0, .int ((nI k) + 1), .int (nI (95 + ce k))], [])) (h1 := (xS b, K, L, xP b)) rfl trivial ?_
                            refine xw_fg (l0 := [.ref 60, .int (nI s), .int (nI la), .int (nI j), .int (nI n), .int (nI m), .int (nI t), .int (xwy (Y s) la (nI j) (nI (2 * n))), .int (nI (24 * s + j)), .int (nI (xcnt (xfw N m ce te n) w)), .int (xfs (xfw N m ce te n) w), .int (nI w), .int 0, .int ((nI k) + 1), .float 0]) ⟨Or.inr rfl, Or.inr rfl, Or.inr rfl, Or.inr rfl, Or.inr rfl, Or.inr rfl, Or.inr rfl, Or.inr rfl, Or.inr rfl, Or.inr rfl, Or.inr rfl, Or.inr rfl, Or.inr rfl, Or.inr rfl, Or.inl rfl, trivial⟩ ?_
                            have hy : xft (xfk N (fun c => xgoN N (xfa N w (N 5)) m (95 + c)) ce te) (k + 1) = false := by
                              rw [hft]
                              first
                                | (rw [(xB_eq0 _).mp c_229, Bool.false_and]; done)
                                | (rw [xg_eqn (by omega) (by omega)] at c_263
                                   rw [show xfk N (fun c => xgoN N (xfa N w (N 5)) m (95 + c)) ce te k = false from decide_eq_false c_263, Bool.and_false])
                            refine xw_cong ?_ rfl rfl ih
                            rw [hy, nI_1]
                            rfl
                          · skip
                            refine xw_go xb_162 9 (f1 := (247, [.ref 60, .int (nI s), .int (nI la), .int (nI j), .int (nI n), .int (nI m), .int (nI t), .int (xwy (Y s) la (nI j) (nI (2 * n))), .int (nI (24 * s + j)), .int (nI (xcnt (xfw N m ce te n) w)), .int (xfs (xfw N m ce te n) w), .int (nI w), .int (nI (xB (xft (xfk N (fun c => xgoN N (xfa N w (N 5)) m (95 + c)) ce te) k))), .int (nI k), .int (nI (95 + ce k))], [.int ((K 61 (nI (95 + ce k)).toNatClampNeg) - (K 68 (nI (95 + ce k)).toNatClampNeg))])) (h1 := (xS b, K, L, xP b)) rfl ⟨rfl, (xn_ar (n := 95 + ce k) (N := 159) rfl (by omega) (by decide)), rfl, (xn_ar (n := 95 + ce k) (N := 159) rfl (by omega) (by decide)), trivial⟩ ?_
                            refine xw_cong (l' := [.ref 60, .int (nI s), .int (nI la), .int (nI j), .int (nI n), .int (nI m), .int (nI t), .int (xwy (Y s) la (nI j) (nI (2 * n))), .int (nI (24 * s + j)), .int (nI (xcnt (xfw N m ce te n) w)), .int (xfs (xfw N m ce te n) w), .int (nI w), .int (nI (xB (xft (xfk N (fun c => xgoN N (xfa N w (N 5)) m (95 + c)) ce te) k))), .int (nI k), .int (nI (95 + ce k))]) (st' := [.int (nI (xgoN N (xfa N w (N 5)) m (95 + ce k) - N (95 + ce k)))]) (h' := (xS b, K, L, xP b)) rfl (show ([.int ((K 61 (nI (95 + ce k)).toNatClampNeg) - (K 68 (nI (95 + ce k)).toNatClampNeg))] : List Value) = [.int (nI (xgoN N (xfa N w (N 5)) m (95 + ce k) - N (95 + ce k)))] from ?_) rfl ?_
                            · rw [xn_cl (by omega), k61 _ (by omega), k68 _ (by omega), xn_sub gg.1]
                            refine xw_go xb_162 1 (f1 := (248, [.ref 60, .int (nI s), .int (nI la), .int (nI j), .int (nI n), .int (nI m), .int (nI t), .int (xwy (Y s) la (nI j) (nI (2 * n))), .int (nI (24 * s + j)), .int (nI (xcnt (xfw N m ce te n) w)), .int (xfs (xfw N m ce te n) w), .int (nI w), .int (nI (xB (xft (xfk N (fun c => xgoN N (xfa N w (N 5)) m (95 + c)) ce te) k))), .int (nI k), .int (nI (95 + ce k))], [.long ((nI (xgoN N (xfa N w (N 5)) m (95 + ce k) - N (95 + ce k))).toInt64)])) (h1 := (xS b, K, L, xP b)) rfl trivial ?_
                            refine xw_cong (l' := [.ref 60, .int (nI s), .int (nI la), .int (nI j), .int (nI n), .int (nI m), .int (nI t), .int (xwy (Y s) la (nI j) (nI (2 * n))), .int (nI (24 * s + j)), .int (nI (xcnt (xfw N m ce te n) w)), .int (xfs (xfw N m ce te n) w), .int (nI w), .int (nI (xB (xft (xfk N (fun c => xgoN N (xfa N w (N 5)) m (95 + c)) ce te) k))), .int (nI k), .int (nI (95 + ce k))]) (st' := [.long (Int64.ofNat (xgoN N (xfa N w (N 5)) m (95 + ce k) - N (95 + ce k)))]) (h' := (xS b, K, L, xP b)) rfl (show ([.long ((nI (xgoN N (xfa N w (N 5)) m (95 + ce k) - N (95 + ce k))).toInt64)] : List Value) = [.long (Int64.ofNat (xgoN N (xfa N w (N 5)) m (95 + ce k) - N (95 + ce k)))] from ?_) rfl ?_
                            · rw [xl64 (by omega)]
                            refine xw_go xb_162 10 (f1 := (262, [.ref 60, .int (nI s), .int (nI la), .int (nI j), .int (nI n), .int (nI m), .int (nI t), .int (xwy (Y s) la (nI j) (nI (2 * n))), .int (nI (24 * s + j)), .int (nI (xcnt (xfw N m ce te n) w)), .int (xfs (xfw N m ce te n) w), .int (nI w), .int (nI (xB (xft (xfk N (fun c => xgoN N (xfa N w (N 5)) m (95 + c)) ce te) k))), .int (nI k), .int (nI (95 + ce k))], [.long (L 72 (((nI (24 * s + j)) + (2 * (nI k))) + 1).toNatClampNeg), .long (Int64.ofNat (xgoN N (xfa N w (N 5)) m (95 + ce k) - N (95 + ce k)))])) (h1 := (xS b, K, L, xP b)) rfl ⟨rfl, (xn_ar' (n := 24 * s + j + 2 * k + 1) (N := 96) rfl (show nI (24 * s + j) + 2 * nI k + 1 = _ by rw [xl_2, pk_mul, nI_add, xl_1, nI_add]) (by omega) (by decide)), trivial⟩ ?_
                            refine xw_cong (l' := [.ref 60, .int (nI s), .int (nI la), .int (nI j), .int (nI n), .int (nI m), .int (nI t), .int (xwy (Y s) la (nI j) (nI (2 * n))), .int (nI (24 * s + j)), .int (nI (xcnt (xfw N m ce te n) w)), .int (xfs (xfw N m ce te n) w), .int (nI w), .int (nI (xB (xft (xfk N (fun c => xgoN N (xfa N w (N 5)) m (95 + c)) ce te) k))), .int (nI k), .int (nI (95 + ce k))]) (st' := [.long ((Y s).2.2.2 (j + 2 * k + 1)), .long (Int64.ofNat (xgoN N (xfa N w (N 5)) m (95 + ce k) - N (95 + ce k)))]) (h' := (xS b, K, L, xP b)) rfl (show ([.long (L 72 (((nI (24 * s + j)) + (2 * (nI k))) + 1).toNatClampNeg), .long (Int64.ofNat (xgoN N (xfa N w (N 5)) m (95 + ce k) - N (95 + ce k)))] : List Value) = [.long ((Y s).2.2.2 (j + 2 * k + 1)), .long (Int64.ofNat (xgoN N (xfa N w (N 5)) m (95 + ce k) - N (95 + ce k)))] from ?_) rfl ?_
                            · rw [xl_2, pk_mul, nI_add, xl_1, nI_add, xn_cl (by omega), show 24 * s + j + 2 * k + 1 = 24 * s + (j + 2 * k + 1) by omega, y3 _ (by omega)]
                            refine xw_cong (l' := [.ref 60, .int (nI s), .int (nI la), .int (nI j), .int (nI n), .int (nI m), .int (nI t), .int (xwy (Y s) la (nI j) (nI (2 * n))), .int (nI (24 * s + j)), .int (nI (xcnt (xfw N m ce te n) w)), .int (xfs (xfw N m ce te n) w), .int (nI w), .int (nI (xB (xft (xfk N (fun c => xgoN N (xfa N w (N 5)) m (95 + c)) ce te) k))), .int (nI k), .int (nI (95 + ce k))]) (st' := [.long (Int64.ofNat (te k)), .long (Int64.ofNat (xgoN N (xfa N w (N 5)) m (95 + ce k) - N (95 + ce k)))]) (h' := (xS b, K, L, xP b)) rfl (show ([.long ((Y s).2.2.2 (j + 2 * k + 1)), .long (Int64.ofNat (xgoN N (xfa N w (N 5)) m (95 + ce k) - N (95 + ce k)))] : List Value) = [.long (Int64.ofNat (te k)), .long (Int64.ofNat (xgoN N (xfa N w (N 5)) m (95 + ce k) - N (95 + ce k)))] from ?_) rfl ?_
                            · rw [q3]
                            refine xw_go xb_162 2 (f1 := (if ¬ (lg_cmp (Int64.ofNat (xgoN N (xfa N w (N 5)) m (95 + ce k) - N (95 + ce k))) (Int64.ofNat (te k))) = 0 then 270 else 266, [.ref 60, .int (nI s), .int (nI la), .int (nI j), .int (nI n), .int (nI m), .int (nI t), .int (xwy (Y s) la (nI j) (nI (2 * n))), .int (nI (24 * s + j)), .int (nI (xcnt (xfw N m ce te n) w)), .int (xfs (xfw N m ce te n) w), .int (nI w), .int (nI (xB (xft (xfk N (fun c => xgoN N (xfa N w (N 5)) m (95 + c)) ce te) k))), .int (nI k), .int (nI (95 + ce k))], [])) (h1 := (xS b, K, L, xP b)) rfl trivial ?_
                            refine xw_if (fun c_263 => ?_) (fun c_263 => ?_)
                            · skip
                              refine xw_go xb_162 4 (f1 := (202, [.ref 60, .int (nI s), .int (nI la), .int (nI j), .int (nI n), .int (nI m), .int (nI t), .int (xwy (Y s) la (nI j) (nI (2 * n))), .int (nI (24 * s + j)), .int (nI (xcnt (xfw N m ce te n) w)), .int (xfs (xfw N m ce te n) w), .int (nI w), .int 0, .int ((nI k) + 1), .int (nI (95 + ce k))], [])) (h1 := (xS b, K, L, xP b)) rfl trivial ?_
                              refine xw_fg (l0 := [.ref 60, .int (nI s), .int (nI la), .int (nI j), .int (nI n), .int (nI m), .int (nI t), .int (xwy (Y s) la (nI j) (nI (2 * n))), .int (nI (24 * s + j)), .int (nI (xcnt (xfw N m ce te n) w)), .int (xfs (xfw N m ce te n) w), .int (nI w), .int 0, .int ((nI k) + 1), .float 0]) ⟨Or.inr rfl, Or.inr rfl, Or.inr rfl, Or.inr rfl, Or.inr rfl, Or.inr rfl, Or.inr rfl, Or.inr rfl, Or.inr rfl, Or.inr rfl, Or.inr rfl, Or.inr rfl, Or.inr rfl, Or.inr rfl, Or.inl rfl, trivial⟩ ?_
                              have hy : xft (xfk N (fun c => xgoN N (xfa N w (N 5)) m (95 + c)) ce te) (k + 1) = false := by
                                rw [hft]
                                first
                                  | (rw [(xB_eq0 _).mp c_229, Bool.false_and]; done)
                                  | (rw [xg_eqn (by omega) (by omega)] at c_263
                                     rw [show xfk N (fun c => xgoN N (xfa N w (N 5)) m (95 + c)) ce te k = false from decide_eq_false c_263, Bool.and_false])
                              refine xw_cong ?_ rfl rfl ih
                              rw [hy, nI_1]
                              rfl
                            · skip
                              refine xw_go xb_162 5 (f1 := (202, [.ref 60, .int (nI s), .int (nI la), .int (nI j), .int (nI n), .int (nI m), .int (nI t), .int (xwy (Y s) la (nI j) (nI (2 * n))), .int (nI (24 * s + j)), .int (nI (xcnt (xfw N m ce te n) w)), .int (xfs (xfw N m ce te n) w), .int (nI w), .int 1, .int ((nI k) + 1), .int (nI (95 + ce k))], [])) (h1 := (xS b, K, L, xP b)) rfl trivial ?_
                              refine xw_fg (l0 := [.ref 60, .int (nI s), .int (nI la), .int (nI j), .int (nI n), .int (nI m), .int (nI t), .int (xwy (Y s) la (nI j) (nI (2 * n))), .int (nI (24 * s + j)), .int (nI (xcnt (xfw N m ce te n) w)), .int (xfs (xfw N m ce te n) w), .int (nI w), .int 1, .int ((nI k) + 1), .float 0]) ⟨Or.inr rfl, Or.inr rfl, Or.inr rfl, Or.inr rfl, Or.inr rfl, Or.inr rfl, Or.inr rfl, Or.inr rfl, Or.inr rfl, Or.inr rfl, Or.inr rfl, Or.inr rfl, Or.inr rfl, Or.inr rfl, Or.inl rfl, trivial⟩ ?_
                              rw [xg_eqn (by omega) (by omega)] at c_263
                              have hy : xft (xfk N (fun c => xgoN N (xfa N w (N 5)) m (95 + c)) ce te) (k + 1) = true := by
                                rw [hft, show xft (xfk N (fun c => xgoN N (xfa N w (N 5)) m (95 + c)) ce te) k = true by rw [xB_eq0] at c_229; simpa using c_229, Bool.true_and]
                                exact decide_eq_true (Classical.not_not.mp c_263)
                              refine xw_cong ?_ rfl rfl ih
                              rw [hy, nI_1]
                              rfl
                      · rcases Bool.eq_false_or_eq_true (xft (xfk N (fun c => xgoN N (xfa N w (N 5)) m (95 + c)) ce te) n) with hf | hf
                        · refine xw_at (f' := (202, [.ref 60, .int (nI s), .int (nI la), .int (nI j), .int (nI n), .int (nI m), .int (nI t), .int (xwy (Y s) la (nI j) (nI (2 * n))), .int (nI (24 * s + j)), .int (nI (xcnt (xfw N m ce te n) w)), .int (xfs (xfw N m ce te n) w), .int (nI w), .int 1, .int (nI n), .float 0], [])) (h' := (xS b, K, L, xP b)) (by rw [hf]; rfl) rfl ?_
                          refine xw_go xb_162 3 (f1 := (if (nI n) ≤ (nI n) then 279 else 209, [.ref 60, .int (nI s), .int (nI la), .int (nI j), .int (nI n), .int (nI m), .int (nI t), .int (xwy (Y s) la (nI j) (nI (2 * n))), .int (nI (24 * s + j)), .int (nI (xcnt (xfw N m ce te n) w)), .int (xfs (xfw N m ce te n) w), .int (nI w), .int 1, .int (nI n), .float 0], [])) (h1 := (xS b, K, L, xP b)) rfl trivial ?_
                          refine xw_if (fun c_206 => ?_) (fun c_206 => ?_)
                          · skip
                            refine xw_go xb_162 1 (f1 := (280, [.ref 60, .int (nI s), .int (nI la), .int (nI j), .int (nI n), .int (nI m), .int (nI t), .int (xwy (Y s) la (nI j) (nI (2 * n))), .int (nI (24 * s + j)), .int (nI (xcnt (xfw N m ce te n) w)), .int (xfs (xfw N m ce te n) w), .int (nI w), .int 1, .int (nI n), .float 0], [.ref 60])) (h1 := (xS b, K, L, xP b)) rfl trivial ?_
                            refine xw_call xb_162 rfl rfl rfl rfl rfl (Or.inr ⟨_, _, rfl, rfl⟩) (m_backs (I := K)) ?_
                            rintro _ _ ⟨rfl, rfl⟩
                            refine xw_at (f' := (283, [.ref 60, .int (nI s), .int (nI la), .int (nI j), .int (nI n), .int (nI m), .int (nI t), .int (xwy (Y s) la (nI j) (nI (2 * n))), .int (nI (24 * s + j)), .int (nI (xcnt (xfw N m ce te n) w)), .int (xfs (xfw N m ce te n) w), .int (nI w), .int 1, .int (nI n), .float 0], [])) (h' := (xS b, va_up K 61 (xfil 159 (K 68) (K 61)), L, xP b)) rfl rfl ?_
                            refine xw_go xb_162 12 (f1 := (if ¬ (xfs (xfw N m ce te n) w) = (-4) then 315 else 310, [.ref 60, .int (nI s), .int (nI la), .int (nI j), .int (nI n), .int (nI m), .int (nI t), .int (xwy (Y s) la (nI j) (nI (2 * n))), .int (nI (24 * s + j)), .int ((nI (xcnt (xfw N m ce te n) w)) + 1), .int (xfs (xfw N m ce te n) w), .int (nI w), .int 1, .int (nI n), .float 0], [])) (h1 := (xS b, va_up K 61 (xfil 159 (K 68) (K 61)), L, xP b)) rfl trivial ?_
                            refine xw_if (fun c_307 => ?_) (fun c_307 => ?_)
                            · skip
                              refine xw_go xb_162 4 (f1 := (165, [.ref 60, .int (nI s), .int (nI la), .int (nI j), .int (nI n), .int (nI m), .int (nI t), .int (xwy (Y s) la (nI j) (nI (2 * n))), .int (nI (24 * s + j)), .int ((nI (xcnt (xfw N m ce te n) w)) + 1), .int (xfs (xfw N m ce te n) w), .int ((nI w) + 1), .int 1, .int (nI n), .float 0], [])) (h1 := (xS b, va_up K 61 (xfil 159 (K 68) (K 61)), L, xP b)) rfl trivial ?_
                              refine xw_fg (l0 := [.ref 60, .int (nI s), .int (nI la), .int (nI j), .int (nI n), .int (nI m), .int (nI t), .int (xwy (Y s) la (nI j) (nI (2 * n))), .int (nI (24 * s + j)), .int ((nI (xcnt (xfw N m ce te n) w)) + 1), .int (xfs (xfw N m ce te n) w), .int ((nI w) + 1), .float 0, .float 0, .float 0]) ⟨Or.inr rfl, Or.inr rfl, Or.inr rfl, Or.inr rfl, Or.inr rfl, Or.inr rfl, Or.inr rfl, Or.inr rfl, Or.inr rfl, Or.inr rfl, Or.inr rfl, Or.inr rfl, Or.inl rfl, Or.inl rfl, Or.inl rfl, trivial⟩ ?_
                              have hfw : xfw N m ce te n w = true := hf
                              have hc : nI (xcnt (xfw N m ce te n) (w + 1)) = nI (xcnt (xfw N m ce te n) w) + 1 := by
                                show nI (xcnt _ w + xB (xfw N m ce te n w)) = _
                                rw [hfw]
                                exact (nI_add _ _).symm
                              have hs2 : xfs (xfw N m ce te n) (w + 1) = xfs (xfw N m ce te n) w := by
                                show (if _ then _ else _) = _
                                rw [if_neg (fun q => c_307 q.1)]
                              refine xw_cong ?_ rfl rfl (ih _ ⟨_, rfl, xMF_v k1 (by decide), k2, k3, k4, fun k hk => ?_⟩)
                              · simp only [hc, hs2, nI_1]
                              · rw [xvu_at, k2]
                                unfold xfil
                                rw [if_pos hk, if_pos hk]
                                exact hM.1 k hk
                            · skip
                              refine xw_go xb_162 5 (f1 := (165, [.ref 60, .int (nI s), .int (nI la), .int (nI j), .int (nI n), .int (nI m), .int (nI t), .int (xwy (Y s) la (nI j) (nI (2 * n))), .int (nI (24 * s + j)), .int ((nI (xcnt (xfw N m ce te n) w)) + 1), .int (nI w), .int ((nI w) + 1), .int 1, .int (nI n), .float 0], [])) (h1 := (xS b, va_up K 61 (xfil 159 (K 68) (K 61)), L, xP b)) rfl trivial ?_
                              refine xw_fg (l0 := [.ref 60, .int (nI s), .int (nI la), .int (nI j), .int (nI n), .int (nI m), .int (nI t), .int (xwy (Y s) la (nI j) (nI (2 * n))), .int (nI (24 * s + j)), .int ((nI (xcnt (xfw N m ce te n) w)) + 1), .int (nI w), .int ((nI w) + 1), .float 0, .float 0, .float 0]) ⟨Or.inr rfl, Or.inr rfl, Or.inr rfl, Or.inr rfl, Or.inr rfl, Or.inr rfl, Or.inr rfl, Or.inr rfl, Or.inr rfl, Or.inr rfl, Or.inr rfl, Or.inr rfl, Or.inl rfl, Or.inl rfl, Or.inl rfl, trivial⟩ ?_
                              have hfw : xfw N m ce te n w = true := hf
                              have hc : nI (xcnt (xfw N m ce te n) (w + 1)) = nI (xcnt (xfw N m ce te n) w) + 1 := by
                                show nI (xcnt _ w + xB (xfw N m ce te n w)) = _
                                rw [hfw]
                                exact (nI_add _ _).symm
                              have hs2 : xfs (xfw N m ce te n) (w + 1) = nI w := by
                                show (if _ then _ else _) = _
                                rw [if_pos ⟨Classical.not_not.mp c_307, hfw⟩]
                              refine xw_cong ?_ rfl rfl (ih _ ⟨_, rfl, xMF_v k1 (by decide), k2, k3, k4, fun k hk => ?_⟩)
                              · simp only [hc, hs2, nI_1]
                              · rw [xvu_at, k2]
                                unfold xfil
                                rw [if_pos hk, if_pos hk]
                                exact hM.1 k hk
                          · skip
                            exfalso
                            try simp only [xB_dec, Classical.not_not] at c_206
                            try simp (disch := omega) only [xt_eq, xt_lt, xt_le, xkt_0, xkt_1, xkt_2, xkt_3, xkt_4, xkt_5, xkt_6, xkt_7, xkt_8, xkt_9, xkt_10, xkt_11, xkt_12, xkt_13, xkt_14, xkt_16, xkt_20, xkt_24, xkt_31, xkt_32, xkt_40, xkt_44, xkt_47, xkt_48, xkt_57, xkt_59, xkt_60, xkt_63, xkt_64, xkt_65, xkt_72, xkt_95, xkt_99, xkt_100, xkt_101, xkt_103, xkt_110, xkt_112, xkt_113, xkt_114, xkt_119, xkt_126, xkt_159, xkt_576, xkt_999, xkt_9999, xkt_65536, xkt_999999, xkt_m1, xkt_m2, xkt_m3, xkt_m4, xkt_m11, xkt_m12, xkt_m13, xkt_m14, xkt_m20, xjt_0, xjt_1, xjt_2, xjt_3, xjt_4, xjt_5, xjt_6, xjt_7, xjt_8, xjt_9, xjt_10, xjt_11, xjt_12, xjt_13, xjt_14, xjt_16, xjt_20, xjt_24, xjt_31, xjt_32, xjt_40, xjt_44, xjt_47, xjt_48, xjt_57, xjt_59, xjt_60, xjt_63, xjt_64, xjt_65, xjt_72, xjt_95, xjt_99, xjt_100, xjt_101, xjt_103, xjt_110, xjt_112, xjt_113, xjt_114, xjt_119, xjt_126, xjt_159, xjt_576, xjt_999, xjt_9999, xjt_65536, xjt_999999, xt64, xt_n, not_true_eq_false, not_false_eq_true, Classical.not_not] at c_206
                            all_goals omega
                        · refine xw_at (f' := (202, [.ref 60, .int (nI s), .int (nI la), .int (nI j), .int (nI n), .int (nI m), .int (nI t), .int (xwy (Y s) la (nI j) (nI (2 * n))), .int (nI (24 * s + j)), .int (nI (xcnt (xfw N m ce te n) w)), .int (xfs (xfw N m ce te n) w), .int (nI w), .int 0, .int (nI n), .float 0], [])) (h' := (xS b, K, L, xP b)) (by rw [hf]; rfl) rfl ?_
                          refine xw_go xb_162 3 (f1 := (if (nI n) ≤ (nI n) then 279 else 209, [.ref 60, .int (nI s), .int (nI la), .int (nI j), .int (nI n), .int (nI m), .int (nI t), .int (xwy (Y s) la (nI j) (nI (2 * n))), .int (nI (24 * s + j)), .int (nI (xcnt (xfw N m ce te n) w)), .int (xfs (xfw N m ce te n) w), .int (nI w), .int 0, .int (nI n), .float 0], [])) (h1 := (xS b, K, L, xP b)) rfl trivial ?_
                          refine xw_if (fun c_206 => ?_) (fun c_206 => ?_)
                          · skip
                            refine xw_go xb_162 1 (f1 := (280, [.ref 60, .int (nI s), .int (nI la), .int (nI j), .int (nI n), .int (nI m), .int (nI t), .int (xwy (Y s) la (nI j) (nI (2 * n))), .int (nI (24 * s + j)), .int (nI (xcnt (xfw N m ce te n) w)), .int (xfs (xfw N m ce te n) w), .int (nI w), .int 0, .int (nI n), .float 0], [.ref 60])) (h1 := (xS b, K, L, xP b)) rfl trivial ?_
                            refine xw_call xb_162 rfl rfl rfl rfl rfl (Or.inr ⟨_, _, rfl, rfl⟩) (m_backs (I := K)) ?_
                            rintro _ _ ⟨rfl, rfl⟩
                            refine xw_at (f' := (283, [.ref 60, .int (nI s), .int (nI la), .int (nI j), .int (nI n), .int (nI m), .int (nI t), .int (xwy (Y s) la (nI j) (nI (2 * n))), .int (nI (24 * s + j)), .int (nI (xcnt (xfw N m ce te n) w)), .int (xfs (xfw N m ce te n) w), .int (nI w), .int 0, .int (nI n), .float 0], [])) (h' := (xS b, va_up K 61 (xfil 159 (K 68) (K 61)), L, xP b)) rfl rfl ?_
                            refine xw_go xb_162 12 (f1 := (165, [.ref 60, .int (nI s), .int (nI la), .int (nI j), .int (nI n), .int (nI m), .int (nI t), .int (xwy (Y s) la (nI j) (nI (2 * n))), .int (nI (24 * s + j)), .int ((nI (xcnt (xfw N m ce te n) w)) + 0), .int (xfs (xfw N m ce te n) w), .int ((nI w) + 1), .int 0, .int (nI n), .float 0], [])) (h1 := (xS b, va_up K 61 (xfil 159 (K 68) (K 61)), L, xP b)) rfl trivial ?_
                            refine xw_fg (l0 := [.ref 60, .int (nI s), .int (nI la), .int (nI j), .int (nI n), .int (nI m), .int (nI t), .int (xwy (Y s) la (nI j) (nI (2 * n))), .int (nI (24 * s + j)), .int ((nI (xcnt (xfw N m ce te n) w)) + 0), .int (xfs (xfw N m ce te n) w), .int ((nI w) + 1), .float 0, .float 0, .float 0]) ⟨Or.inr rfl, Or.inr rfl, Or.inr rfl, Or.inr rfl, Or.inr rfl, Or.inr rfl, Or.inr rfl, Or.inr rfl, Or.inr rfl, Or.inr rfl, Or.inr rfl, Or.inr rfl, Or.inl rfl, Or.inl rfl, Or.inl rfl, trivial⟩ ?_
                            have hfw : xfw N m ce te n w = false := hf
                            have hc : nI (xcnt (xfw N m ce te n) (w + 1)) = nI (xcnt (xfw N m ce te n) w) + 0 := by
                              show nI (xcnt _ w + xB (xfw N m ce te n w)) = _
                              rw [hfw]
                              exact (nI_add _ _).symm
                            have hs2 : xfs (xfw N m ce te n) (w + 1) = xfs (xfw N m ce te n) w := by
                              show (if _ then _ else _) = _
                              rw [if_neg (by rw [hfw]; simp)]
                            refine xw_cong ?_ rfl rfl (ih _ ⟨_, rfl, xMF_v k1 (by decide), k2, k3, k4, fun k hk => ?_⟩)
                            · simp only [hc, hs2, nI_1]
                            · rw [xvu_at, k2]
                              unfold xfil
                              rw [if_pos hk, if_pos hk]
                              exact hM.1 k hk
                          · skip
                            exfalso
                            try simp only [xB_dec, Classical.not_not] at c_206
                            try simp (disch := omega) only [xt_eq, xt_lt, xt_le, xkt_0, xkt_1, xkt_2, xkt_3, xkt_4, xkt_5, xkt_6, xkt_7, xkt_8, xkt_9, xkt_10, xkt_11, xkt_12, xkt_13, xkt_14, xkt_16, xkt_20, xkt_24, xkt_31, xkt_32, xkt_40, xkt_44, xkt_47, xkt_48, xkt_57, xkt_59, xkt_60, xkt_63, xkt_64, xkt_65, xkt_72, xkt_95, xkt_99, xkt_100, xkt_101, xkt_103, xkt_110, xkt_112, xkt_113, xkt_114, xkt_119, xkt_126, xkt_159, xkt_576, xkt_999, xkt_9999, xkt_65536, xkt_999999, xkt_m1, xkt_m2, xkt_m3, xkt_m4, xkt_m11, xkt_m12, xkt_m13, xkt_m14, xkt_m20, xjt_0, xjt_1, xjt_2, xjt_3, xjt_4, xjt_5, xjt_6, xjt_7, xjt_8, xjt_9, xjt_10, xjt_11, xjt_12, xjt_13, xjt_14, xjt_16, xjt_20, xjt_24, xjt_31, xjt_32, xjt_40, xjt_44, xjt_47, xjt_48, xjt_57, xjt_59, xjt_60, xjt_63, xjt_64, xjt_65, xjt_72, xjt_95, xjt_99, xjt_100, xjt_101, xjt_103, xjt_110, xjt_112, xjt_113, xjt_114, xjt_119, xjt_126, xjt_159, xjt_576, xjt_999, xjt_9999, xjt_65536, xjt_999999, xt64, xt_n, not_true_eq_false, not_false_eq_true, Classical.not_not] at c_206
                            all_goals omega
                  · obtain ⟨J, rfl, j1, j2, j3, j4, j5⟩ := hV
                    refine xw_go xb_162 7 (f1 := (175, [.ref 60, .int (nI s), .int (nI la), .int (nI j), .int (nI n), .int (nI m), .int (nI t), .int (xwy (Y s) la (nI j) (nI (2 * n))), .int (nI (24 * s + j)), .int (nI (xcnt (xfw N m ce te n) (2 ^ N 2))), .int (xfs (xfw N m ce te n) (2 ^ N 2)), .int (nI (2 ^ N 2)), .float 0, .float 0, .float 0], [.int (1 <<< ((J 61 (2 : Int32).toNatClampNeg) &&& 31)), .int (nI (2 ^ N 2))])) (h1 := (xS b, J, L, xP b)) rfl ⟨rfl, (xn_ar (n := 2) (N := 159) rfl (by decide) (by decide)), trivial⟩ ?_
                    refine xw_cong (l' := [.ref 60, .int (nI s), .int (nI la), .int (nI j), .int (nI n), .int (nI m), .int (nI t), .int (xwy (Y s) la (nI j) (nI (2 * n))), .int (nI (24 * s + j)), .int (nI (xcnt (xfw N m ce te n) (2 ^ N 2))), .int (xfs (xfw N m ce te n) (2 ^ N 2)), .int (nI (2 ^ N 2)), .float 0, .float 0, .float 0]) (st' := [.int (nI (2 ^ N 2)), .int (nI (2 ^ N 2))]) (h' := (xS b, J, L, xP b)) rfl (show ([.int (1 <<< ((J 61 (2 : Int32).toNatClampNeg) &&& 31)), .int (nI (2 ^ N 2))] : List Value) = [.int (nI (2 ^ N 2)), .int (nI (2 ^ N 2))] from ?_) rfl ?_
                    · rw [show (2 : Int32).toNatClampNeg = 2 from rfl, j5 2 (by decide), xsh _ (by omega)]
                    refine xw_go xb_162 1 (f1 := (if (nI (2 ^ N 2)) ≤ (nI (2 ^ N 2)) then 325 else 178, [.ref 60, .int (nI s), .int (nI la), .int (nI j), .int (nI n), .int (nI m), .int (nI t), .int (xwy (Y s) la (nI j) (nI (2 * n))), .int (nI (24 * s + j)), .int (nI (xcnt (xfw N m ce te n) (2 ^ N 2))), .int (xfs (xfw N m ce te n) (2 ^ N 2)), .int (nI (2 ^ N 2)), .float 0, .float 0, .float 0], [])) (h1 := (xS b, J, L, xP b)) rfl trivial ?_
                    refine xw_if (fun c_175 => ?_) (fun c_175 => ?_)
                    · skip
                      refine xw_go xb_162 2 (f1 := (if ¬ (nI t) = 0 then 335 else 330, [.ref 60, .int (nI s), .int (nI la), .int (nI j), .int (nI n), .int (nI m), .int (nI t), .int (xwy (Y s) la (nI j) (nI (2 * n))), .int (nI (24 * s + j)), .int (nI (xcnt (xfw N m ce te n) (2 ^ N 2))), .int (xfs (xfw N m ce te n) (2 ^ N 2)), .int (nI (2 ^ N 2)), .float 0, .float 0, .float 0], [])) (h1 := (xS b, J, L, xP b)) rfl trivial ?_
                      refine xw_if (fun c_327 => ?_) (fun c_327 => ?_)
                      · skip
                        refine xw_go xb_162 1 (f1 := (337, [.ref 60, .int (nI s), .int (nI la), .int (nI j), .int (nI n), .int (nI m), .int (nI t), .int (xwy (Y s) la (nI j) (nI (2 * n))), .int (nI (24 * s + j)), .int (nI (xcnt (xfw N m ce te n) (2 ^ N 2))), .int (xfs (xfw N m ce te n) (2 ^ N 2)), .int (nI (2 ^ N 2)), .float 0, .float 0, .float 0], [.int (xfs (xfw N m ce te n) (2 ^ N 2))])) (h1 := (xS b, J, L, xP b)) rfl trivial ?_
                        refine xw_ret xb_162 rfl rfl trivial ?_
                        first
                          | (have e0 : t = 0 := by
                               (try simp (disch := omega) only [xt_eq, xt_n, xkt_0, Classical.not_not] at c_327)
                               omega
                             rw [if_pos e0]
                             exact ⟨rfl, J, rfl, j1, xML_N hM j5 (by rw [j4]) j3⟩)
                          | (have e0 : ¬ t = 0 := by
                               (try simp (disch := omega) only [xt_eq, xt_n, xkt_0, Classical.not_not] at c_327)
                               omega
                             rw [if_neg e0]
                             exact ⟨rfl, J, rfl, j1, xML_N hM j5 (by rw [j4]) j3⟩)
                      · skip
                        refine xw_go xb_162 2 (f1 := (337, [.ref 60, .int (nI s), .int (nI la), .int (nI j), .int (nI n), .int (nI m), .int (nI t), .int (xwy (Y s) la (nI j) (nI (2 * n))), .int (nI (24 * s + j)), .int (nI (xcnt (xfw N m ce te n) (2 ^ N 2))), .int (xfs (xfw N m ce te n) (2 ^ N 2)), .int (nI (2 ^ N 2)), .float 0, .float 0, .float 0], [.int (nI (xcnt (xfw N m ce te n) (2 ^ N 2)))])) (h1 := (xS b, J, L, xP b)) rfl trivial ?_
                        refine xw_ret xb_162 rfl rfl trivial ?_
                        first
                          | (have e0 : t = 0 := by
                               (try simp (disch := omega) only [xt_eq, xt_n, xkt_0, Classical.not_not] at c_327)
                               omega
                             rw [if_pos e0]
                             exact ⟨rfl, J, rfl, j1, xML_N hM j5 (by rw [j4]) j3⟩)
                          | (have e0 : ¬ t = 0 := by
                               (try simp (disch := omega) only [xt_eq, xt_n, xkt_0, Classical.not_not] at c_327)
                               omega
                             rw [if_neg e0]
                             exact ⟨rfl, J, rfl, j1, xML_N hM j5 (by rw [j4]) j3⟩)
                    · skip
                      exfalso
                      try simp only [xB_dec, Classical.not_not] at c_175
                      try simp (disch := omega) only [xt_eq, xt_lt, xt_le, xkt_0, xkt_1, xkt_2, xkt_3, xkt_4, xkt_5, xkt_6, xkt_7, xkt_8, xkt_9, xkt_10, xkt_11, xkt_12, xkt_13, xkt_14, xkt_16, xkt_20, xkt_24, xkt_31, xkt_32, xkt_40, xkt_44, xkt_47, xkt_48, xkt_57, xkt_59, xkt_60, xkt_63, xkt_64, xkt_65, xkt_72, xkt_95, xkt_99, xkt_100, xkt_101, xkt_103, xkt_110, xkt_112, xkt_113, xkt_114, xkt_119, xkt_126, xkt_159, xkt_576, xkt_999, xkt_9999, xkt_65536, xkt_999999, xkt_m1, xkt_m2, xkt_m3, xkt_m4, xkt_m11, xkt_m12, xkt_m13, xkt_m14, xkt_m20, xjt_0, xjt_1, xjt_2, xjt_3, xjt_4, xjt_5, xjt_6, xjt_7, xjt_8, xjt_9, xjt_10, xjt_11, xjt_12, xjt_13, xjt_14, xjt_16, xjt_20, xjt_24, xjt_31, xjt_32, xjt_40, xjt_44, xjt_47, xjt_48, xjt_57, xjt_59, xjt_60, xjt_63, xjt_64, xjt_65, xjt_72, xjt_95, xjt_99, xjt_100, xjt_101, xjt_103, xjt_110, xjt_112, xjt_113, xjt_114, xjt_119, xjt_126, xjt_159, xjt_576, xjt_999, xjt_9999, xjt_65536, xjt_999999, xt64, xt_n, not_true_eq_false, not_false_eq_true, Classical.not_not] at c_175
                      all_goals omega
                · skip
                  exfalso
                  try simp only [xB_dec, Classical.not_not] at c_89
                  try simp (disch := omega) only [xt_eq, xt_lt, xt_le, xkt_0, xkt_1, xkt_2, xkt_3, xkt_4, xkt_5, xkt_6, xkt_7, xkt_8, xkt_9, xkt_10, xkt_11, xkt_12, xkt_13, xkt_14, xkt_16, xkt_20, xkt_24, xkt_31, xkt_32, xkt_40, xkt_44, xkt_47, xkt_48, xkt_57, xkt_59, xkt_60, xkt_63, xkt_64, xkt_65, xkt_72, xkt_95, xkt_99, xkt_100, xkt_101, xkt_103, xkt_110, xkt_112, xkt_113, xkt_114, xkt_119, xkt_126, xkt_159, xkt_576, xkt_999, xkt_9999, xkt_65536, xkt_999999, xkt_m1, xkt_m2, xkt_m3, xkt_m4, xkt_m11, xkt_m12, xkt_m13, xkt_m14, xkt_m20, xjt_0, xjt_1, xjt_2, xjt_3, xjt_4, xjt_5, xjt_6, xjt_7, xjt_8, xjt_9, xjt_10, xjt_11, xjt_12, xjt_13, xjt_14, xjt_16, xjt_20, xjt_24, xjt_31, xjt_32, xjt_40, xjt_44, xjt_47, xjt_48, xjt_57, xjt_59, xjt_60, xjt_63, xjt_64, xjt_65, xjt_72, xjt_95, xjt_99, xjt_100, xjt_101, xjt_103, xjt_110, xjt_112, xjt_113, xjt_114, xjt_119, xjt_126, xjt_159, xjt_576, xjt_999, xjt_9999, xjt_65536, xjt_999999, xt64, xt_n, not_true_eq_false, not_false_eq_true, Classical.not_not] at c_89
                  all_goals omega
            · skip
              exact absurd (xwy_ge.mpr hw) c_68
          · skip
            exfalso
            try simp only [xB_dec, Classical.not_not] at c_4 c_11 c_24 c_37 c_48
            try simp (disch := omega) only [xt_eq, xt_lt, xt_le, xkt_0, xkt_1, xkt_2, xkt_3, xkt_4, xkt_5, xkt_6, xkt_7, xkt_8, xkt_9, xkt_10, xkt_11, xkt_12, xkt_13, xkt_14, xkt_16, xkt_20, xkt_24, xkt_31, xkt_32, xkt_40, xkt_44, xkt_47, xkt_48, xkt_57, xkt_59, xkt_60, xkt_63, xkt_64, xkt_65, xkt_72, xkt_95, xkt_99, xkt_100, xkt_101, xkt_103, xkt_110, xkt_112, xkt_113, xkt_114, xkt_119, xkt_126, xkt_159, xkt_576, xkt_999, xkt_9999, xkt_65536, xkt_999999, xkt_m1, xkt_m2, xkt_m3, xkt_m4, xkt_m11, xkt_m12, xkt_m13, xkt_m14, xkt_m20, xjt_0, xjt_1, xjt_2, xjt_3, xjt_4, xjt_5, xjt_6, xjt_7, xjt_8, xjt_9, xjt_10, xjt_11, xjt_12, xjt_13, xjt_14, xjt_16, xjt_20, xjt_24, xjt_31, xjt_32, xjt_40, xjt_44, xjt_47, xjt_48, xjt_57, xjt_59, xjt_60, xjt_63, xjt_64, xjt_65, xjt_72, xjt_95, xjt_99, xjt_100, xjt_101, xjt_103, xjt_110, xjt_112, xjt_113, xjt_114, xjt_119, xjt_126, xjt_159, xjt_576, xjt_999, xjt_9999, xjt_65536, xjt_999999, xt64, xt_n, not_true_eq_false, not_false_eq_true, Classical.not_not] at c_4 c_11 c_24 c_37 c_48
            all_goals omega

