/-! ===== calls: set ===== -/
set_option maxHeartbeats 4000000 in
theorem c_findSet {d : Nat} {b : Bool} {I : Nat → Nat → Int32} {L : Nat → Nat → Int64} {N : Nat → Nat} (hN : xPN N 1 I) (hO : xOK N) {n : Nat} (bn : n < 1000) (h4 : N 4 + n < 1000000) {x1 : Int32} (e_x1 : x1 = nI n) : xm_Z (d + 6) 83 [.ref 24, .int x1] (xS b, I, L, xP b) (fun rz hz => rz = none ∧ ∃ I', hz = (xS b, I', L, xP b) ∧ xFF I I' ∧ I' 24 8 = nI (xbt (fun k => decide (xpc k ≤ N 6)) (xsf N n) (fun k c => decide (xpc k < xpc c)) (2 ^ N 2)).1 ∧ I' 24 11 = nI (xbt (fun k => decide (xpc k ≤ N 6)) (xsf N n) (fun k c => decide (xpc k < xpc c)) (2 ^ N 2)).2) := by
  subst e_x1
  have hb := hO.1
  have c64 : N 0 * N 1 ≤ 64 := xce_le hO
  have c4 : 4 ≤ N 0 * N 1 := xce_ge hO
  have w32 := xp32 hb.2.2.2.2.1
  refine xw_S xb_83 (l := [.ref 24, .int (nI n), .float 0, .float 0, .float 0]) (Nat.le_of_ble_eq_true rfl) rfl ?_
  refine xw_go xb_83 8 (f1 := (13, [.ref 24, .int (nI n), .int 0, .float 0, .float 0], [])) (h1 := (xS b, xm_up (xm_up I 24 8 65) 24 11 0, L, xP b)) rfl ⟨rfl, rfl, trivial⟩ ?_
  refine xw_loopP (2 ^ N 2) (fun w => (13, [.ref 24, .int (nI n), .int (nI w), .float 0, .float 0], [])) (fun w h => ∃ J, h = (xS b, J, L, xP b) ∧ xFF I J ∧ J 24 8 = nI (xbt (fun k => decide (xpc k ≤ N 6)) (xsf N n) (fun k c => decide (xpc k < xpc c)) w).1 ∧ J 24 11 = nI (xbt (fun k => decide (xpc k ≤ N 6)) (xsf N n) (fun k c => decide (xpc k < xpc c)) w).2) (fun w h hw hV ih => ?_) (fun h hV => ?_) 0 _ (Nat.zero_le _) ?_
  · obtain ⟨J, rfl, j1, j4, j5⟩ := hV
    have hNJ := xFF_N j1 (by omega) hN
    have f64 : xsf N n w ≤ 64 := xsf_le hO h4
    have b66 : (xbt (fun k => decide (xpc k ≤ N 6)) (xsf N n) (fun k c => decide (xpc k < xpc c)) w).1 ≤ 65 := xbt_1 (fun k => xsf_le hO h4) w
    have b67 : (xbt (fun k => decide (xpc k ≤ N 6)) (xsf N n) (fun k c => decide (xpc k < xpc c)) w).2 ≤ w - 1 := xbt_2 w
    have p1 := xpc_le w (by omega)
    have p2 := xpc_le (xbt (fun k => decide (xpc k ≤ N 6)) (xsf N n) (fun k c => decide (xpc k < xpc c)) w).2 (by omega)
    refine xw_go xb_83 6 (f1 := (23, [.ref 24, .int (nI n), .int (nI w), .float 0, .float 0], [.int (1 <<< ((J 1 5) &&& 31)), .int (nI w)])) (h1 := (xS b, J, L, xP b)) rfl ⟨rfl, rfl, trivial⟩ ?_
    refine xw_cong (l' := [.ref 24, .int (nI n), .int (nI w), .float 0, .float 0]) (st' := [.int (nI (2 ^ N 2)), .int (nI w)]) (h' := (xS b, J, L, xP b)) rfl (show ([.int (1 <<< ((J 1 5) &&& 31)), .int (nI w)] : List Value) = [.int (nI (2 ^ N 2)), .int (nI w)] from ?_) rfl ?_
    · rw [hNJ.1.2.2.1, xsh _ (by omega)]
    refine xw_go xb_83 1 (f1 := (if (nI (2 ^ N 2)) ≤ (nI w) then 103 else 26, [.ref 24, .int (nI n), .int (nI w), .float 0, .float 0], [])) (h1 := (xS b, J, L, xP b)) rfl trivial ?_
    refine xw_if (fun c_23 => ?_) (fun c_23 => ?_)
    · skip
      exfalso
      try simp only [xB_dec, Classical.not_not] at c_23
      try simp (disch := omega) only [xt_eq, xt_lt, xt_le, xkt_0, xkt_1, xkt_2, xkt_3, xkt_4, xkt_5, xkt_6, xkt_7, xkt_8, xkt_9, xkt_10, xkt_11, xkt_12, xkt_13, xkt_14, xkt_16, xkt_20, xkt_24, xkt_31, xkt_32, xkt_40, xkt_44, xkt_47, xkt_48, xkt_57, xkt_59, xkt_60, xkt_63, xkt_64, xkt_65, xkt_72, xkt_95, xkt_99, xkt_100, xkt_101, xkt_103, xkt_110, xkt_112, xkt_113, xkt_114, xkt_119, xkt_126, xkt_159, xkt_576, xkt_999, xkt_9999, xkt_65536, xkt_999999, xkt_m1, xkt_m2, xkt_m3, xkt_m4, xkt_m11, xkt_m12, xkt_m13, xkt_m14, xkt_m20, xjt_0, xjt_1, xjt_2, xjt_3, xjt_4, xjt_5, xjt_6, xjt_7, xjt_8, xjt_9, xjt_10, xjt_11, xjt_12, xjt_13, xjt_14, xjt_16, xjt_20, xjt_24, xjt_31, xjt_32, xjt_40, xjt_44, xjt_47, xjt_48, xjt_57, xjt_59, xjt_60, xjt_63, xjt_64, xjt_65, xjt_72, xjt_95, xjt_99, xjt_100, xjt_101, xjt_103, xjt_110, xjt_112, xjt_113, xjt_114, xjt_119, xjt_126, xjt_159, xjt_576, xjt_999, xjt_9999, xjt_65536, xjt_999999, xt64, xt_n, not_true_eq_false, not_false_eq_true, Classical.not_not] at c_23
      all_goals omega
    · skip
      refine xw_go xb_83 1 (f1 := (27, [.ref 24, .int (nI n), .int (nI w), .float 0, .float 0], [.int (nI w)])) (h1 := (xS b, J, L, xP b)) rfl trivial ?_
      refine xw_call xb_83 rfl rfl rfl rfl rfl (Or.inl rfl) (c_bitCount (v := w) (by omega) rfl) ?_
      rintro _ _ ⟨rfl, rfl⟩
      refine xw_at (f' := (30, [.ref 24, .int (nI n), .int (nI w), .float 0, .float 0], [.int (nI (xpc w))])) (h' := (xS b, J, L, xP b)) rfl rfl ?_
      refine xw_go xb_83 5 (f1 := (39, [.ref 24, .int (nI n), .int (nI w), .int (nI (xpc w)), .float 0], [.int (J 1 8), .int (nI (xpc w))])) (h1 := (xS b, J, L, xP b)) rfl ⟨rfl, rfl, trivial⟩ ?_
      refine xw_cong (l' := [.ref 24, .int (nI n), .int (nI w), .int (nI (xpc w)), .float 0]) (st' := [.int (nI (N 6)), .int (nI (xpc w))]) (h' := (xS b, J, L, xP b)) rfl (show ([.int (J 1 8), .int (nI (xpc w))] : List Value) = [.int (nI (N 6)), .int (nI (xpc w))] from ?_) rfl ?_
      · rw [hNJ.1.2.2.2.2.2.2.1]
      refine xw_go xb_83 1 (f1 := (if (nI (N 6)) < (nI (xpc w)) then 97 else 42, [.ref 24, .int (nI n), .int (nI w), .int (nI (xpc w)), .float 0], [])) (h1 := (xS b, J, L, xP b)) rfl trivial ?_
      refine xw_if (fun c_39 => ?_) (fun c_39 => ?_)
      · skip
        refine xw_go xb_83 2 (f1 := (13, [.ref 24, .int (nI n), .int ((nI w) + 1), .int (nI (xpc w)), .float 0], [])) (h1 := (xS b, J, L, xP b)) rfl trivial ?_
        refine xw_fg (l0 := [.ref 24, .int (nI n), .int ((nI w) + 1), .float 0, .float 0]) ⟨Or.inr rfl, Or.inr rfl, Or.inr rfl, Or.inl rfl, Or.inl rfl, trivial⟩ ?_
        have hy : (xbt (fun k => decide (xpc k ≤ N 6)) (xsf N n) (fun k c => decide (xpc k < xpc c)) (w + 1)) = (xbt (fun k => decide (xpc k ≤ N 6)) (xsf N n) (fun k c => decide (xpc k < xpc c)) w) := xbt_n (Or.inl (decide_eq_false (by
          try simp only [xB_dec, Classical.not_not] at c_23 c_39
          try simp (disch := omega) only [xt_eq, xt_lt, xt_le, xkt_0, xkt_1, xkt_2, xkt_3, xkt_4, xkt_5, xkt_6, xkt_7, xkt_8, xkt_9, xkt_10, xkt_11, xkt_12, xkt_13, xkt_14, xkt_16, xkt_20, xkt_24, xkt_31, xkt_32, xkt_40, xkt_44, xkt_47, xkt_48, xkt_57, xkt_59, xkt_60, xkt_63, xkt_64, xkt_65, xkt_72, xkt_95, xkt_99, xkt_100, xkt_101, xkt_103, xkt_110, xkt_112, xkt_113, xkt_114, xkt_119, xkt_126, xkt_159, xkt_576, xkt_999, xkt_9999, xkt_65536, xkt_999999, xkt_m1, xkt_m2, xkt_m3, xkt_m4, xkt_m11, xkt_m12, xkt_m13, xkt_m14, xkt_m20, xjt_0, xjt_1, xjt_2, xjt_3, xjt_4, xjt_5, xjt_6, xjt_7, xjt_8, xjt_9, xjt_10, xjt_11, xjt_12, xjt_13, xjt_14, xjt_16, xjt_20, xjt_24, xjt_31, xjt_32, xjt_40, xjt_44, xjt_47, xjt_48, xjt_57, xjt_59, xjt_60, xjt_63, xjt_64, xjt_65, xjt_72, xjt_95, xjt_99, xjt_100, xjt_101, xjt_103, xjt_110, xjt_112, xjt_113, xjt_114, xjt_119, xjt_126, xjt_159, xjt_576, xjt_999, xjt_9999, xjt_65536, xjt_999999, xt64, xt_n, not_true_eq_false, not_false_eq_true, Classical.not_not] at c_23 c_39
          all_goals omega)))
        refine xw_cong ?_ rfl rfl (ih _ ⟨_, rfl, j1, ?_, ?_⟩)
        · rw [nI_1]
        · rw [hy]
          exact j4
        · rw [hy]
          exact j5
      · skip
        refine xw_go xb_83 5 (f1 := (49, [.ref 24, .int (nI n), .int (nI w), .int (nI (xpc w)), .float 0], [.int (nI n), .int (nI w), .ref 24, .ref 1])) (h1 := (xS b, J, L, xP b)) rfl ⟨rfl, trivial⟩ ?_
        refine xw_call xb_83 rfl rfl rfl rfl rfl (Or.inr ⟨_, _, rfl, rfl⟩) (c_wetBySet (I := J) hNJ hO (o := w) (n := n) (by omega) bn rfl rfl) ?_
        rintro _ _ ⟨rfl, J1, rfl, g1, g3, _, g2⟩
        have g24 : J1 24 = J 24 := g3 24 (by decide) (by decide) (by decide) (by decide) (by decide)
        refine xw_at (f' := (52, [.ref 24, .int (nI n), .int (nI w), .int (nI (xpc w)), .float 0], [.ref 25, .ref 1])) (h' := (xS b, J1, L, xP b)) rfl rfl ?_
        refine xw_call xb_83 rfl rfl rfl rfl rfl (Or.inr ⟨_, _, rfl, rfl⟩) (c_wrongIn (I := J1) (R := N 0) (C := N 1) (xFF_N (xFF_t j1 g1) (by omega) hN).1.1 (xFF_N (xFF_t j1 g1) (by omega) hN).1.2.1 (by omega) (by omega) (so := fun c => N (31 + c)) (wt := fun c => xgoN N (xfa N w (N 5)) n (95 + c)) (xFF_N (xFF_t j1 g1) (by omega) hN).2.1 hO.2.1 (w := 25) rfl g2 (fun c hc => xgoN_w2 hc) (xFF_N (xFF_t j1 g1) (by omega) hN).1.2.2.2.2.2.2.2.1 (by omega) (xFF_N (xFF_t j1 g1) (by omega) hN).1.2.2.2.2.2.2.2.2.1 (by omega)) ?_
        rintro _ _ ⟨rfl, rfl⟩
        refine xw_at (f' := (55, [.ref 24, .int (nI n), .int (nI w), .int (nI (xpc w)), .float 0], [.int (nI (xcnt (fun c => xs_wrong (N (31 + c)) (xgoN N (xfa N w (N 5)) n (95 + c)) (N 7) (N 8)) (N 0 * N 1)))])) (h' := (xS b, J1, L, xP b)) rfl rfl ?_
        refine xw_go xb_83 1 (f1 := (57, [.ref 24, .int (nI n), .int (nI w), .int (nI (xpc w)), .int (nI (xcnt (fun c => xs_wrong (N (31 + c)) (xgoN N (xfa N w (N 5)) n (95 + c)) (N 7) (N 8)) (N 0 * N 1)))], [])) (h1 := (xS b, J1, L, xP b)) rfl trivial ?_
        refine xw_cong (l' := [.ref 24, .int (nI n), .int (nI w), .int (nI (xpc w)), .int (nI (xsf N n w))]) (st' := []) (h' := (xS b, J1, L, xP b)) (show ([.ref 24, .int (nI n), .int (nI w), .int (nI (xpc w)), .int (nI (xcnt (fun c => xs_wrong (N (31 + c)) (xgoN N (xfa N w (N 5)) n (95 + c)) (N 7) (N 8)) (N 0 * N 1)))] : List Value) = [.ref 24, .int (nI n), .int (nI w), .int (nI (xpc w)), .int (nI (xsf N n w))] from ?_) rfl rfl ?_
        · rw [← xwc_go hO]
          rfl
        refine xw_go xb_83 3 (f1 := (63, [.ref 24, .int (nI n), .int (nI w), .int (nI (xpc w)), .int (nI (xsf N n w))], [.int (J1 24 8), .int (nI (xsf N n w))])) (h1 := (xS b, J1, L, xP b)) rfl ⟨rfl, trivial⟩ ?_
        refine xw_cong (l' := [.ref 24, .int (nI n), .int (nI w), .int (nI (xpc w)), .int (nI (xsf N n w))]) (st' := [.int (nI (xbt (fun k => decide (xpc k ≤ N 6)) (xsf N n) (fun k c => decide (xpc k < xpc c)) w).1), .int (nI (xsf N n w))]) (h' := (xS b, J1, L, xP b)) rfl (show ([.int (J1 24 8), .int (nI (xsf N n w))] : List Value) = [.int (nI (xbt (fun k => decide (xpc k ≤ N 6)) (xsf N n) (fun k c => decide (xpc k < xpc c)) w).1), .int (nI (xsf N n w))] from ?_) rfl ?_
        · rw [g24, j4]
        refine xw_go xb_83 1 (f1 := (if (nI (xsf N n w)) < (nI (xbt (fun k => decide (xpc k ≤ N 6)) (xsf N n) (fun k c => decide (xpc k < xpc c)) w).1) then 86 else 66, [.ref 24, .int (nI n), .int (nI w), .int (nI (xpc w)), .int (nI (xsf N n w))], [])) (h1 := (xS b, J1, L, xP b)) rfl trivial ?_
        refine xw_if (fun c_63 => ?_) (fun c_63 => ?_)
        · skip
          refine xw_go xb_83 8 (f1 := (13, [.ref 24, .int (nI n), .int ((nI w) + 1), .int (nI (xpc w)), .int (nI (xsf N n w))], [])) (h1 := (xS b, xm_up (xm_up J1 24 8 (nI (xsf N n w))) 24 11 (nI w), L, xP b)) rfl ⟨rfl, rfl, trivial⟩ ?_
          refine xw_fg (l0 := [.ref 24, .int (nI n), .int ((nI w) + 1), .float 0, .float 0]) ⟨Or.inr rfl, Or.inr rfl, Or.inr rfl, Or.inl rfl, Or.inl rfl, trivial⟩ ?_
          have hy : (xbt (fun k => decide (xpc k ≤ N 6)) (xsf N n) (fun k c => decide (xpc k < xpc c)) (w + 1)) = (xsf N n w, w) := xbt_y (decide_eq_true (by
            try simp only [xB_dec, Classical.not_not] at c_23 c_39 c_63
            try simp (disch := omega) only [xt_eq, xt_lt, xt_le, xkt_0, xkt_1, xkt_2, xkt_3, xkt_4, xkt_5, xkt_6, xkt_7, xkt_8, xkt_9, xkt_10, xkt_11, xkt_12, xkt_13, xkt_14, xkt_16, xkt_20, xkt_24, xkt_31, xkt_32, xkt_40, xkt_44, xkt_47, xkt_48, xkt_57, xkt_59, xkt_60, xkt_63, xkt_64, xkt_65, xkt_72, xkt_95, xkt_99, xkt_100, xkt_101, xkt_103, xkt_110, xkt_112, xkt_113, xkt_114, xkt_119, xkt_126, xkt_159, xkt_576, xkt_999, xkt_9999, xkt_65536, xkt_999999, xkt_m1, xkt_m2, xkt_m3, xkt_m4, xkt_m11, xkt_m12, xkt_m13, xkt_m14, xkt_m20, xjt_0, xjt_1, xjt_2, xjt_3, xjt_4, xjt_5, xjt_6, xjt_7, xjt_8, xjt_9, xjt_10, xjt_11, xjt_12, xjt_13, xjt_14, xjt_16, xjt_20, xjt_24, xjt_31, xjt_32, xjt_40, xjt_44, xjt_47, xjt_48, xjt_57, xjt_59, xjt_60, xjt_63, xjt_64, xjt_65, xjt_72, xjt_95, xjt_99, xjt_100, xjt_101, xjt_103, xjt_110, xjt_112, xjt_113, xjt_114, xjt_119, xjt_126, xjt_159, xjt_576, xjt_999, xjt_9999, xjt_65536, xjt_999999, xt64, xt_n, not_true_eq_false, not_false_eq_true, Classical.not_not] at c_23 c_39 c_63
            all_goals omega)) (by
            rw [decide_eq_true_eq]
            try simp only [xB_dec, Classical.not_not] at c_23 c_39 c_63
            try simp (disch := omega) only [xt_eq, xt_lt, xt_le, xkt_0, xkt_1, xkt_2, xkt_3, xkt_4, xkt_5, xkt_6, xkt_7, xkt_8, xkt_9, xkt_10, xkt_11, xkt_12, xkt_13, xkt_14, xkt_16, xkt_20, xkt_24, xkt_31, xkt_32, xkt_40, xkt_44, xkt_47, xkt_48, xkt_57, xkt_59, xkt_60, xkt_63, xkt_64, xkt_65, xkt_72, xkt_95, xkt_99, xkt_100, xkt_101, xkt_103, xkt_110, xkt_112, xkt_113, xkt_114, xkt_119, xkt_126, xkt_159, xkt_576, xkt_999, xkt_9999, xkt_65536, xkt_999999, xkt_m1, xkt_m2, xkt_m3, xkt_m4, xkt_m11, xkt_m12, xkt_m13, xkt_m14, xkt_m20, xjt_0, xjt_1, xjt_2, xjt_3, xjt_4, xjt_5, xjt_6, xjt_7, xjt_8, xjt_9, xjt_10, xjt_11, xjt_12, xjt_13, xjt_14, xjt_16, xjt_20, xjt_24, xjt_31, xjt_32, xjt_40, xjt_44, xjt_47, xjt_48, xjt_57, xjt_59, xjt_60, xjt_63, xjt_64, xjt_65, xjt_72, xjt_95, xjt_99, xjt_100, xjt_101, xjt_103, xjt_110, xjt_112, xjt_113, xjt_114, xjt_119, xjt_126, xjt_159, xjt_576, xjt_999, xjt_9999, xjt_65536, xjt_999999, xt64, xt_n, not_true_eq_false, not_false_eq_true, Classical.not_not] at c_23 c_39 c_63
            all_goals omega)
          refine xw_cong ?_ rfl rfl (ih _ ⟨_, rfl, xFF_u (xFF_u (xFF_t j1 g1) (by decide)) (by decide), ?_, ?_⟩)
          · rw [nI_1]
          · rw [hy]
            rfl
          · rw [hy]
            rfl
        · skip
          refine xw_go xb_83 3 (f1 := (72, [.ref 24, .int (nI n), .int (nI w), .int (nI (xpc w)), .int (nI (xsf N n w))], [.int (J1 24 8), .int (nI (xsf N n w))])) (h1 := (xS b, J1, L, xP b)) rfl ⟨rfl, trivial⟩ ?_
          refine xw_cong (l' := [.ref 24, .int (nI n), .int (nI w), .int (nI (xpc w)), .int (nI (xsf N n w))]) (st' := [.int (nI (xbt (fun k => decide (xpc k ≤ N 6)) (xsf N n) (fun k c => decide (xpc k < xpc c)) w).1), .int (nI (xsf N n w))]) (h' := (xS b, J1, L, xP b)) rfl (show ([.int (J1 24 8), .int (nI (xsf N n w))] : List Value) = [.int (nI (xbt (fun k => decide (xpc k ≤ N 6)) (xsf N n) (fun k c => decide (xpc k < xpc c)) w).1), .int (nI (xsf N n w))] from ?_) rfl ?_
          · rw [g24, j4]
          refine xw_go xb_83 1 (f1 := (if ¬ (nI (xsf N n w)) = (nI (xbt (fun k => decide (xpc k ≤ N 6)) (xsf N n) (fun k c => decide (xpc k < xpc c)) w).1) then 97 else 75, [.ref 24, .int (nI n), .int (nI w), .int (nI (xpc w)), .int (nI (xsf N n w))], [])) (h1 := (xS b, J1, L, xP b)) rfl trivial ?_
          refine xw_if (fun c_72 => ?_) (fun c_72 => ?_)
          · skip
            refine xw_go xb_83 2 (f1 := (13, [.ref 24, .int (nI n), .int ((nI w) + 1), .int (nI (xpc w)), .int (nI (xsf N n w))], [])) (h1 := (xS b, J1, L, xP b)) rfl trivial ?_
            refine xw_fg (l0 := [.ref 24, .int (nI n), .int ((nI w) + 1), .float 0, .float 0]) ⟨Or.inr rfl, Or.inr rfl, Or.inr rfl, Or.inl rfl, Or.inl rfl, trivial⟩ ?_
            have hy : (xbt (fun k => decide (xpc k ≤ N 6)) (xsf N n) (fun k c => decide (xpc k < xpc c)) (w + 1)) = (xbt (fun k => decide (xpc k ≤ N 6)) (xsf N n) (fun k c => decide (xpc k < xpc c)) w) := xbt_n (Or.inr (by
              rw [decide_eq_false_iff_not]
              try simp only [xB_dec, Classical.not_not] at c_23 c_39 c_63 c_72
              try simp (disch := omega) only [xt_eq, xt_lt, xt_le, xkt_0, xkt_1, xkt_2, xkt_3, xkt_4, xkt_5, xkt_6, xkt_7, xkt_8, xkt_9, xkt_10, xkt_11, xkt_12, xkt_13, xkt_14, xkt_16, xkt_20, xkt_24, xkt_31, xkt_32, xkt_40, xkt_44, xkt_47, xkt_48, xkt_57, xkt_59, xkt_60, xkt_63, xkt_64, xkt_65, xkt_72, xkt_95, xkt_99, xkt_100, xkt_101, xkt_103, xkt_110, xkt_112, xkt_113, xkt_114, xkt_119, xkt_126, xkt_159, xkt_576, xkt_999, xkt_9999, xkt_65536, xkt_999999, xkt_m1, xkt_m2, xkt_m3, xkt_m4, xkt_m11, xkt_m12, xkt_m13, xkt_m14, xkt_m20, xjt_0, xjt_1, xjt_2, xjt_3, xjt_4, xjt_5, xjt_6, xjt_7, xjt_8, xjt_9, xjt_10, xjt_11, xjt_12, xjt_13, xjt_14, xjt_16, xjt_20, xjt_24, xjt_31, xjt_32, xjt_40, xjt_44, xjt_47, xjt_48, xjt_57, xjt_59, xjt_60, xjt_63, xjt_64, xjt_65, xjt_72, xjt_95, xjt_99, xjt_100, xjt_101, xjt_103, xjt_110, xjt_112, xjt_113, xjt_114, xjt_119, xjt_126, xjt_159, xjt_576, xjt_999, xjt_9999, xjt_65536, xjt_999999, xt64, xt_n, not_true_eq_false, not_false_eq_true, Classical.not_not] at c_23 c_39 c_63 c_72
              all_goals omega))
            refine xw_cong ?_ rfl rfl (ih _ ⟨_, rfl, xFF_t j1 g1, ?_, ?_⟩)
            · rw [nI_1]
            · rw [hy, g24]
              exact j4
            · rw [hy, g24]
              exact j5
          · skip
            refine xw_go xb_83 3 (f1 := (80, [.ref 24, .int (nI n), .int (nI w), .int (nI (xpc w)), .int (nI (xsf N n w))], [.int (J1 24 11), .int (nI (xpc w))])) (h1 := (xS b, J1, L, xP b)) rfl ⟨rfl, trivial⟩ ?_
            refine xw_call xb_83 rfl rfl rfl rfl rfl (Or.inl rfl) (c_bitCount (v := (xbt (fun k => decide (xpc k ≤ N 6)) (xsf N n) (fun k c => decide (xpc k < xpc c)) w).2) (by omega) (by rw [g24]; exact j5)) ?_
            rintro _ _ ⟨rfl, rfl⟩
            refine xw_at (f' := (83, [.ref 24, .int (nI n), .int (nI w), .int (nI (xpc w)), .int (nI (xsf N n w))], [.int (nI (xpc (xbt (fun k => decide (xpc k ≤ N 6)) (xsf N n) (fun k c => decide (xpc k < xpc c)) w).2)), .int (nI (xpc w))])) (h' := (xS b, J1, L, xP b)) rfl rfl ?_
            refine xw_go xb_83 1 (f1 := (if (nI (xpc (xbt (fun k => decide (xpc k ≤ N 6)) (xsf N n) (fun k c => decide (xpc k < xpc c)) w).2)) ≤ (nI (xpc w)) then 97 else 86, [.ref 24, .int (nI n), .int (nI w), .int (nI (xpc w)), .int (nI (xsf N n w))], [])) (h1 := (xS b, J1, L, xP b)) rfl trivial ?_
            refine xw_if (fun c_83 => ?_) (fun c_83 => ?_)
            · skip
              refine xw_go xb_83 2 (f1 := (13, [.ref 24, .int (nI n), .int ((nI w) + 1), .int (nI (xpc w)), .int (nI (xsf N n w))], [])) (h1 := (xS b, J1, L, xP b)) rfl trivial ?_
              refine xw_fg (l0 := [.ref 24, .int (nI n), .int ((nI w) + 1), .float 0, .float 0]) ⟨Or.inr rfl, Or.inr rfl, Or.inr rfl, Or.inl rfl, Or.inl rfl, trivial⟩ ?_
              have hy : (xbt (fun k => decide (xpc k ≤ N 6)) (xsf N n) (fun k c => decide (xpc k < xpc c)) (w + 1)) = (xbt (fun k => decide (xpc k ≤ N 6)) (xsf N n) (fun k c => decide (xpc k < xpc c)) w) := xbt_n (Or.inr (by
                rw [decide_eq_false_iff_not]
                try simp only [xB_dec, Classical.not_not] at c_23 c_39 c_63 c_72 c_83
                try simp (disch := omega) only [xt_eq, xt_lt, xt_le, xkt_0, xkt_1, xkt_2, xkt_3, xkt_4, xkt_5, xkt_6, xkt_7, xkt_8, xkt_9, xkt_10, xkt_11, xkt_12, xkt_13, xkt_14, xkt_16, xkt_20, xkt_24, xkt_31, xkt_32, xkt_40, xkt_44, xkt_47, xkt_48, xkt_57, xkt_59, xkt_60, xkt_63, xkt_64, xkt_65, xkt_72, xkt_95, xkt_99, xkt_100, xkt_101, xkt_103, xkt_110, xkt_112, xkt_113, xkt_114, xkt_119, xkt_126, xkt_159, xkt_576, xkt_999, xkt_9999, xkt_65536, xkt_999999, xkt_m1, xkt_m2, xkt_m3, xkt_m4, xkt_m11, xkt_m12, xkt_m13, xkt_m14, xkt_m20, xjt_0, xjt_1, xjt_2, xjt_3, xjt_4, xjt_5, xjt_6, xjt_7, xjt_8, xjt_9, xjt_10, xjt_11, xjt_12, xjt_13, xjt_14, xjt_16, xjt_20, xjt_24, xjt_31, xjt_32, xjt_40, xjt_44, xjt_47, xjt_48, xjt_57, xjt_59, xjt_60, xjt_63, xjt_64, xjt_65, xjt_72, xjt_95, xjt_99, xjt_100, xjt_101, xjt_103, xjt_110, xjt_112, xjt_113, xjt_114, xjt_119, xjt_126, xjt_159, xjt_576, xjt_999, xjt_9999, xjt_65536, xjt_999999, xt64, xt_n, not_true_eq_false, not_false_eq_true, Classical.not_not] at c_23 c_39 c_63 c_72 c_83
                all_goals omega))
              refine xw_cong ?_ rfl rfl (ih _ ⟨_, rfl, xFF_t j1 g1, ?_, ?_⟩)
              · rw [nI_1]
              · rw [hy, g24]
                exact j4
              · rw [hy, g24]
                exact j5
            · skip
              refine xw_go xb_83 8 (f1 := (13, [.ref 24, .int (nI n), .int ((nI w) + 1), .int (nI (xpc w)), .int (nI (xsf N n w))], [])) (h1 := (xS b, xm_up (xm_up J1 24 8 (nI (xsf N n w))) 24 11 (nI w), L, xP b)) rfl ⟨rfl, rfl, trivial⟩ ?_
              refine xw_fg (l0 := [.ref 24, .int (nI n), .int ((nI w) + 1), .float 0, .float 0]) ⟨Or.inr rfl, Or.inr rfl, Or.inr rfl, Or.inl rfl, Or.inl rfl, trivial⟩ ?_
              have hy : (xbt (fun k => decide (xpc k ≤ N 6)) (xsf N n) (fun k c => decide (xpc k < xpc c)) (w + 1)) = (xsf N n w, w) := xbt_y (decide_eq_true (by
                try simp only [xB_dec, Classical.not_not] at c_23 c_39 c_63 c_72 c_83
                try simp (disch := omega) only [xt_eq, xt_lt, xt_le, xkt_0, xkt_1, xkt_2, xkt_3, xkt_4, xkt_5, xkt_6, xkt_7, xkt_8, xkt_9, xkt_10, xkt_11, xkt_12, xkt_13, xkt_14, xkt_16, xkt_20, xkt_24, xkt_31, xkt_32, xkt_40, xkt_44, xkt_47, xkt_48, xkt_57, xkt_59, xkt_60, xkt_63, xkt_64, xkt_65, xkt_72, xkt_95, xkt_99, xkt_100, xkt_101, xkt_103, xkt_110, xkt_112, xkt_113, xkt_114, xkt_119, xkt_126, xkt_159, xkt_576, xkt_999, xkt_9999, xkt_65536, xkt_999999, xkt_m1, xkt_m2, xkt_m3, xkt_m4, xkt_m11, xkt_m12, xkt_m13, xkt_m14, xkt_m20, xjt_0, xjt_1, xjt_2, xjt_3, xjt_4, xjt_5, xjt_6, xjt_7, xjt_8, xjt_9, xjt_10, xjt_11, xjt_12, xjt_13, xjt_14, xjt_16, xjt_20, xjt_24, xjt_31, xjt_32, xjt_40, xjt_44, xjt_47, xjt_48, xjt_57, xjt_59, xjt_60, xjt_63, xjt_64, xjt_65, xjt_72, xjt_95, xjt_99, xjt_100, xjt_101, xjt_103, xjt_110, xjt_112, xjt_113, xjt_114, xjt_119, xjt_126, xjt_159, xjt_576, xjt_999, xjt_9999, xjt_65536, xjt_999999, xt64, xt_n, not_true_eq_false, not_false_eq_true, Classical.not_not] at c_23 c_39 c_63 c_72 c_83
                all_goals omega)) (by
                rw [decide_eq_true_eq]
                try simp only [xB_dec, Classical.not_not] at c_23 c_39 c_63 c_72 c_83
                try simp (disch := omega) only [xt_eq, xt_lt, xt_le, xkt_0, xkt_1, xkt_2, xkt_3, xkt_4, xkt_5, xkt_6, xkt_7, xkt_8, xkt_9, xkt_10, xkt_11, xkt_12, xkt_13, xkt_14, xkt_16, xkt_20, xkt_24, xkt_31, xkt_32, xkt_40, xkt_44, xkt_47, xkt_48, xkt_57, xkt_59, xkt_60, xkt_63, xkt_64, xkt_65, xkt_72, xkt_95, xkt_99, xkt_100, xkt_101, xkt_103, xkt_110, xkt_112, xkt_113, xkt_114, xkt_119, xkt_126, xkt_159, xkt_576, xkt_999, xkt_9999, xkt_65536, xkt_999999, xkt_m1, xkt_m2, xkt_m3, xkt_m4, xkt_m11, xkt_m12, xkt_m13, xkt_m14, xkt_m20, xjt_0, xjt_1, xjt_2, xjt_3, xjt_4, xjt_5, xjt_6, xjt_7, xjt_8, xjt_9, xjt_10, xjt_11, xjt_12, xjt_13, xjt_14, xjt_16, xjt_20, xjt_24, xjt_31, xjt_32, xjt_40, xjt_44, xjt_47, xjt_48, xjt_57, xjt_59, xjt_60, xjt_63, xjt_64, xjt_65, xjt_72, xjt_95, xjt_99, xjt_100, xjt_101, xjt_103, xjt_110, xjt_112, xjt_113, xjt_114, xjt_119, xjt_126, xjt_159, xjt_576, xjt_999, xjt_9999, xjt_65536, xjt_999999, xt64, xt_n, not_true_eq_false, not_false_eq_true, Classical.not_not] at c_23 c_39 c_63 c_72 c_83
                all_goals omega)
              refine xw_cong ?_ rfl rfl (ih _ ⟨_, rfl, xFF_u (xFF_u (xFF_t j1 g1) (by decide)) (by decide), ?_, ?_⟩)
              · rw [nI_1]
              · rw [hy]
                rfl
              · rw [hy]
                rfl
  · obtain ⟨J, rfl, j1, j4, j5⟩ := hV
    have hNJ := xFF_N j1 (by omega) hN
    refine xw_go xb_83 6 (f1 := (23, [.ref 24, .int (nI n), .int (nI (2 ^ N 2)), .float 0, .float 0], [.int (1 <<< ((J 1 5) &&& 31)), .int (nI (2 ^ N 2))])) (h1 := (xS b, J, L, xP b)) rfl ⟨rfl, rfl, trivial⟩ ?_
    refine xw_cong (l' := [.ref 24, .int (nI n), .int (nI (2 ^ N 2)), .float 0, .float 0]) (st' := [.int (nI (2 ^ N 2)), .int (nI (2 ^ N 2))]) (h' := (xS b, J, L, xP b)) rfl (show ([.int (1 <<< ((J 1 5) &&& 31)), .int (nI (2 ^ N 2))] : List Value) = [.int (nI (2 ^ N 2)), .int (nI (2 ^ N 2))] from ?_) rfl ?_
    · rw [hNJ.1.2.2.1, xsh _ (by omega)]
    refine xw_go xb_83 1 (f1 := (if (nI (2 ^ N 2)) ≤ (nI (2 ^ N 2)) then 103 else 26, [.ref 24, .int (nI n), .int (nI (2 ^ N 2)), .float 0, .float 0], [])) (h1 := (xS b, J, L, xP b)) rfl trivial ?_
    refine xw_if (fun c_23 => ?_) (fun c_23 => ?_)
    · skip
      refine xw_ret xb_83 rfl rfl trivial ?_
      exact ⟨rfl, J, rfl, j1, j4, j5⟩
    · skip
      exfalso
      try simp only [xB_dec, Classical.not_not] at c_23
      try simp (disch := omega) only [xt_eq, xt_lt, xt_le, xkt_0, xkt_1, xkt_2, xkt_3, xkt_4, xkt_5, xkt_6, xkt_7, xkt_8, xkt_9, xkt_10, xkt_11, xkt_12, xkt_13, xkt_14, xkt_16, xkt_20, xkt_24, xkt_31, xkt_32, xkt_40, xkt_44, xkt_47, xkt_48, xkt_57, xkt_59, xkt_60, xkt_63, xkt_64, xkt_65, xkt_72, xkt_95, xkt_99, xkt_100, xkt_101, xkt_103, xkt_110, xkt_112, xkt_113, xkt_114, xkt_119, xkt_126, xkt_159, xkt_576, xkt_999, xkt_9999, xkt_65536, xkt_999999, xkt_m1, xkt_m2, xkt_m3, xkt_m4, xkt_m11, xkt_m12, xkt_m13, xkt_m14, xkt_m20, xjt_0, xjt_1, xjt_2, xjt_3, xjt_4, xjt_5, xjt_6, xjt_7, xjt_8, xjt_9, xjt_10, xjt_11, xjt_12, xjt_13, xjt_14, xjt_16, xjt_20, xjt_24, xjt_31, xjt_32, xjt_40, xjt_44, xjt_47, xjt_48, xjt_57, xjt_59, xjt_60, xjt_63, xjt_64, xjt_65, xjt_72, xjt_95, xjt_99, xjt_100, xjt_101, xjt_103, xjt_110, xjt_112, xjt_113, xjt_114, xjt_119, xjt_126, xjt_159, xjt_576, xjt_999, xjt_9999, xjt_65536, xjt_999999, xt64, xt_n, not_true_eq_false, not_false_eq_true, Classical.not_not] at c_23
      all_goals omega
  · exact ⟨_, rfl, xFF_u (xFF_u (xFF_r I) (by decide)) (by decide), rfl, rfl⟩

theorem c_set0 {d : Nat} {b : Bool} {I : Nat → Nat → Int32} {L : Nat → Nat → Int64} {N : Nat → Nat} {u : Nat} {U : Nat → Nat → Nat} (hP : xPL N u U 1 I) (hK : xUK N u U) {x y : Int32} (hx : ¬ (0 ≤ x.toInt ∧ x.toInt ≤ 40 ∧ 0 ≤ y.toInt ∧ y.toInt ≤ 1)) : xm_Z (d + 7) 82 [.ref 0, .int x, .int y] (xS b, I, L, xP b) (fun rz hz => xQC b I L (-1) N u U rz hz) := by
  have hO := hK.1
  have hb := hK.1.1
  have c64 : N 0 * N 1 ≤ 64 := xce_le hO
  have c4 : 4 ≤ N 0 * N 1 := xce_ge hO
  obtain ⟨⟨hN0, hN1, hN2, hN3, hN4, hN5, hN6, hN7, hN8, hN9, hN10⟩, hNs, hNw, hNp⟩ := hP.1
  refine xw_S xb_82 (l := [.ref 0, .int x, .int y]) (Nat.le_of_ble_eq_true rfl) rfl ?_
  refine xw_go xb_82 3 (f1 := (4, [.ref 0, .int x, .int y], [.int 40, .int 0, .int x])) (h1 := (xS b, I, L, xP b)) rfl trivial ?_
  refine xw_call xb_82 rfl rfl rfl rfl rfl (Or.inl rfl) c_within ?_
  rintro _ _ ⟨rfl, rfl⟩
  refine xw_at (f' := (7, [.ref 0, .int x, .int y], [.int (nI (xB (decide ((0 : Int32).toInt ≤ x.toInt ∧ x.toInt ≤ (40 : Int32).toInt))))])) (h' := (xS b, I, L, xP b)) rfl rfl ?_
  refine xw_go xb_82 1 (f1 := (if (nI (xB (decide ((0 : Int32).toInt ≤ x.toInt ∧ x.toInt ≤ (40 : Int32).toInt)))) = 0 then 19 else 10, [.ref 0, .int x, .int y], [])) (h1 := (xS b, I, L, xP b)) rfl trivial ?_
  refine xw_if (fun c_7 => ?_) (fun c_7 => ?_)
  · skip
    refine xw_go xb_82 1 (f1 := (20, [.ref 0, .int x, .int y], [.int (-1)])) (h1 := (xS b, I, L, xP b)) rfl trivial ?_
    refine xw_ret xb_82 rfl rfl trivial ?_
    exact xQC_same hP
  · skip
    refine xw_go xb_82 3 (f1 := (13, [.ref 0, .int x, .int y], [.int 1, .int 0, .int y])) (h1 := (xS b, I, L, xP b)) rfl trivial ?_
    refine xw_call xb_82 rfl rfl rfl rfl rfl (Or.inl rfl) c_within ?_
    rintro _ _ ⟨rfl, rfl⟩
    refine xw_at (f' := (16, [.ref 0, .int x, .int y], [.int (nI (xB (decide ((0 : Int32).toInt ≤ y.toInt ∧ y.toInt ≤ (1 : Int32).toInt))))])) (h' := (xS b, I, L, xP b)) rfl rfl ?_
    refine xw_go xb_82 1 (f1 := (if ¬ (nI (xB (decide ((0 : Int32).toInt ≤ y.toInt ∧ y.toInt ≤ (1 : Int32).toInt)))) = 0 then 21 else 19, [.ref 0, .int x, .int y], [])) (h1 := (xS b, I, L, xP b)) rfl trivial ?_
    refine xw_if (fun c_16 => ?_) (fun c_16 => ?_)
    · skip
      exfalso
      try simp only [xB_dec, Classical.not_not] at c_7 c_16
      try simp (disch := omega) only [xt_eq, xt_lt, xt_le, xkt_0, xkt_1, xkt_2, xkt_3, xkt_4, xkt_5, xkt_6, xkt_7, xkt_8, xkt_9, xkt_10, xkt_11, xkt_12, xkt_13, xkt_14, xkt_16, xkt_20, xkt_24, xkt_31, xkt_32, xkt_40, xkt_44, xkt_47, xkt_48, xkt_57, xkt_59, xkt_60, xkt_63, xkt_64, xkt_65, xkt_72, xkt_95, xkt_99, xkt_100, xkt_101, xkt_103, xkt_110, xkt_112, xkt_113, xkt_114, xkt_119, xkt_126, xkt_159, xkt_576, xkt_999, xkt_9999, xkt_65536, xkt_999999, xkt_m1, xkt_m2, xkt_m3, xkt_m4, xkt_m11, xkt_m12, xkt_m13, xkt_m14, xkt_m20, xjt_0, xjt_1, xjt_2, xjt_3, xjt_4, xjt_5, xjt_6, xjt_7, xjt_8, xjt_9, xjt_10, xjt_11, xjt_12, xjt_13, xjt_14, xjt_16, xjt_20, xjt_24, xjt_31, xjt_32, xjt_40, xjt_44, xjt_47, xjt_48, xjt_57, xjt_59, xjt_60, xjt_63, xjt_64, xjt_65, xjt_72, xjt_95, xjt_99, xjt_100, xjt_101, xjt_103, xjt_110, xjt_112, xjt_113, xjt_114, xjt_119, xjt_126, xjt_159, xjt_576, xjt_999, xjt_9999, xjt_65536, xjt_999999, xt64, xt_n, not_true_eq_false, not_false_eq_true, Classical.not_not] at c_7 c_16
      all_goals omega
    · skip
      refine xw_go xb_82 1 (f1 := (20, [.ref 0, .int x, .int y], [.int (-1)])) (h1 := (xS b, I, L, xP b)) rfl trivial ?_
      refine xw_ret xb_82 rfl rfl trivial ?_
      exact xQC_same hP

theorem m_set0 {d : Nat} {b : Bool} {I : Nat → Nat → Int32} {L : Nat → Nat → Int64} {N : Nat → Nat} {u : Nat} {U : Nat → Nat → Nat} (hM : xML N u U I) (hK : xUK N u U) {x y : Int32} (hx : ¬ (0 ≤ x.toInt ∧ x.toInt ≤ 40 ∧ 0 ≤ y.toInt ∧ y.toInt ≤ 1)) : xm_Z (d + 7) 158 [.ref 60, .int x, .int y] (xS b, I, L, xP b) (fun rz hz => xQM b I L (-1) N u U rz hz) := by
  have hO := hK.1
  have hb := hK.1.1
  have c64 : N 0 * N 1 ≤ 64 := xce_le hO
  have c4 : 4 ≤ N 0 * N 1 := xce_ge hO
  refine xw_S xb_158 (l := [.ref 60, .int x, .int y, .float 0, .float 0, .float 0, .float 0, .float 0]) (Nat.le_of_ble_eq_true rfl) rfl ?_
  refine xw_go xb_158 4 (f1 := (6, [.ref 60, .int x, .int y, .float 0, .float 0, .float 0, .float 0, .float 0], [.long 40, .long 0, .long x.toInt64])) (h1 := (xS b, I, L, xP b)) rfl trivial ?_
  refine xw_call xb_158 rfl rfl rfl rfl rfl (Or.inl rfl) m_in ?_
  rintro _ _ ⟨rfl, rfl⟩
  refine xw_at (f' := (9, [.ref 60, .int x, .int y, .float 0, .float 0, .float 0, .float 0, .float 0], [.int (nI (xB (decide ((0 : Int64).toInt ≤ x.toInt64.toInt ∧ x.toInt64.toInt ≤ (40 : Int64).toInt))))])) (h' := (xS b, I, L, xP b)) rfl rfl ?_
  refine xw_go xb_158 1 (f1 := (if (nI (xB (decide ((0 : Int64).toInt ≤ x.toInt64.toInt ∧ x.toInt64.toInt ≤ (40 : Int64).toInt)))) = 0 then 22 else 12, [.ref 60, .int x, .int y, .float 0, .float 0, .float 0, .float 0, .float 0], [])) (h1 := (xS b, I, L, xP b)) rfl trivial ?_
  refine xw_if (fun c_9 => ?_) (fun c_9 => ?_)
  · skip
    refine xw_go xb_158 1 (f1 := (23, [.ref 60, .int x, .int y, .float 0, .float 0, .float 0, .float 0, .float 0], [.int (-1)])) (h1 := (xS b, I, L, xP b)) rfl trivial ?_
    refine xw_ret xb_158 rfl rfl trivial ?_
    exact xQM_same hM
  · skip
    refine xw_go xb_158 4 (f1 := (16, [.ref 60, .int x, .int y, .float 0, .float 0, .float 0, .float 0, .float 0], [.long 1, .long 0, .long y.toInt64])) (h1 := (xS b, I, L, xP b)) rfl trivial ?_
    refine xw_call xb_158 rfl rfl rfl rfl rfl (Or.inl rfl) m_in ?_
    rintro _ _ ⟨rfl, rfl⟩
    refine xw_at (f' := (19, [.ref 60, .int x, .int y, .float 0, .float 0, .float 0, .float 0, .float 0], [.int (nI (xB (decide ((0 : Int64).toInt ≤ y.toInt64.toInt ∧ y.toInt64.toInt ≤ (1 : Int64).toInt))))])) (h' := (xS b, I, L, xP b)) rfl rfl ?_
    refine xw_go xb_158 1 (f1 := (if ¬ (nI (xB (decide ((0 : Int64).toInt ≤ y.toInt64.toInt ∧ y.toInt64.toInt ≤ (1 : Int64).toInt)))) = 0 then 24 else 22, [.ref 60, .int x, .int y, .float 0, .float 0, .float 0, .float 0, .float 0], [])) (h1 := (xS b, I, L, xP b)) rfl trivial ?_
    refine xw_if (fun c_19 => ?_) (fun c_19 => ?_)
    · skip
      exfalso
      try simp only [xB_dec, Classical.not_not] at c_9 c_19
      try simp (disch := omega) only [xt_eq, xt_lt, xt_le, xkt_0, xkt_1, xkt_2, xkt_3, xkt_4, xkt_5, xkt_6, xkt_7, xkt_8, xkt_9, xkt_10, xkt_11, xkt_12, xkt_13, xkt_14, xkt_16, xkt_20, xkt_24, xkt_31, xkt_32, xkt_40, xkt_44, xkt_47, xkt_48, xkt_57, xkt_59, xkt_60, xkt_63, xkt_64, xkt_65, xkt_72, xkt_95, xkt_99, xkt_100, xkt_101, xkt_103, xkt_110, xkt_112, xkt_113, xkt_114, xkt_119, xkt_126, xkt_159, xkt_576, xkt_999, xkt_9999, xkt_65536, xkt_999999, xkt_m1, xkt_m2, xkt_m3, xkt_m4, xkt_m11, xkt_m12, xkt_m13, xkt_m14, xkt_m20, xjt_0, xjt_1, xjt_2, xjt_3, xjt_4, xjt_5, xjt_6, xjt_7, xjt_8, xjt_9, xjt_10, xjt_11, xjt_12, xjt_13, xjt_14, xjt_16, xjt_20, xjt_24, xjt_31, xjt_32, xjt_40, xjt_44, xjt_47, xjt_48, xjt_57, xjt_59, xjt_60, xjt_63, xjt_64, xjt_65, xjt_72, xjt_95, xjt_99, xjt_100, xjt_101, xjt_103, xjt_110, xjt_112, xjt_113, xjt_114, xjt_119, xjt_126, xjt_159, xjt_576, xjt_999, xjt_9999, xjt_65536, xjt_999999, xt64, xt_n, not_true_eq_false, not_false_eq_true, Classical.not_not] at c_9 c_19
      all_goals omega
    · skip
      refine xw_go xb_158 1 (f1 := (23, [.ref 60, .int x, .int y, .float 0, .float 0, .float 0, .float 0, .float 0], [.int (-1)])) (h1 := (xS b, I, L, xP b)) rfl trivial ?_
      refine xw_ret xb_158 rfl rfl trivial ?_
      exact xQM_same hM

theorem c_set1 {d : Nat} {b : Bool} {I : Nat → Nat → Int32} {L : Nat → Nat → Int64} {N : Nat → Nat} {u : Nat} {U : Nat → Nat → Nat} (hP : xPL N u U 1 I) (hK : xUK N u U) {n t : Nat} (hn : n ≤ 40) (ht : t < 2) {x : Int32} (e_x : x = nI n) {y : Int32} (e_y : y = nI t) : xm_Z (d + 7) 82 [.ref 0, .int x, .int y] (xS b, I, L, xP b) (fun rz hz => xQC b I L (nI (if t = 0 then (xbt (fun k => decide (xpc k ≤ N 6)) (xsf N n) (fun k c => decide (xpc k < xpc c)) (2 ^ N 2)).2 else (xbt (fun k => decide (xpc k ≤ N 6)) (xsf N n) (fun k c => decide (xpc k < xpc c)) (2 ^ N 2)).1)) N u U rz hz) := by
  subst e_x
  subst e_y
  have hO := hK.1
  have hb := hK.1.1
  have c64 : N 0 * N 1 ≤ 64 := xce_le hO
  have c4 : 4 ≤ N 0 * N 1 := xce_ge hO
  obtain ⟨⟨hN0, hN1, hN2, hN3, hN4, hN5, hN6, hN7, hN8, hN9, hN10⟩, hNs, hNw, hNp⟩ := hP.1
  have h49 := hK.2.1
  refine xw_S xb_82 (l := [.ref 0, .int (nI n), .int (nI t)]) (Nat.le_of_ble_eq_true rfl) rfl ?_
  refine xw_go xb_82 3 (f1 := (4, [.ref 0, .int (nI n), .int (nI t)], [.int 40, .int 0, .int (nI n)])) (h1 := (xS b, I, L, xP b)) rfl trivial ?_
  refine xw_call xb_82 rfl rfl rfl rfl rfl (Or.inl rfl) c_within ?_
  rintro _ _ ⟨rfl, rfl⟩
  refine xw_at (f' := (7, [.ref 0, .int (nI n), .int (nI t)], [.int (nI (xB (decide ((0 : Int32).toInt ≤ (nI n).toInt ∧ (nI n).toInt ≤ (40 : Int32).toInt))))])) (h' := (xS b, I, L, xP b)) rfl rfl ?_
  refine xw_go xb_82 1 (f1 := (if (nI (xB (decide ((0 : Int32).toInt ≤ (nI n).toInt ∧ (nI n).toInt ≤ (40 : Int32).toInt)))) = 0 then 19 else 10, [.ref 0, .int (nI n), .int (nI t)], [])) (h1 := (xS b, I, L, xP b)) rfl trivial ?_
  refine xw_if (fun c_7 => ?_) (fun c_7 => ?_)
  · skip
    exfalso
    try simp only [xB_dec, Classical.not_not] at c_7
    try simp (disch := omega) only [xt_eq, xt_lt, xt_le, xkt_0, xkt_1, xkt_2, xkt_3, xkt_4, xkt_5, xkt_6, xkt_7, xkt_8, xkt_9, xkt_10, xkt_11, xkt_12, xkt_13, xkt_14, xkt_16, xkt_20, xkt_24, xkt_31, xkt_32, xkt_40, xkt_44, xkt_47, xkt_48, xkt_57, xkt_59, xkt_60, xkt_63, xkt_64, xkt_65, xkt_72, xkt_95, xkt_99, xkt_100, xkt_101, xkt_103, xkt_110, xkt_112, xkt_113, xkt_114, xkt_119, xkt_126, xkt_159, xkt_576, xkt_999, xkt_9999, xkt_65536, xkt_999999, xkt_m1, xkt_m2, xkt_m3, xkt_m4, xkt_m11, xkt_m12, xkt_m13, xkt_m14, xkt_m20, xjt_0, xjt_1, xjt_2, xjt_3, xjt_4, xjt_5, xjt_6, xjt_7, xjt_8, xjt_9, xjt_10, xjt_11, xjt_12, xjt_13, xjt_14, xjt_16, xjt_20, xjt_24, xjt_31, xjt_32, xjt_40, xjt_44, xjt_47, xjt_48, xjt_57, xjt_59, xjt_60, xjt_63, xjt_64, xjt_65, xjt_72, xjt_95, xjt_99, xjt_100, xjt_101, xjt_103, xjt_110, xjt_112, xjt_113, xjt_114, xjt_119, xjt_126, xjt_159, xjt_576, xjt_999, xjt_9999, xjt_65536, xjt_999999, xt64, xt_n, not_true_eq_false, not_false_eq_true, Classical.not_not] at c_7
    all_goals omega
  · skip
    refine xw_go xb_82 3 (f1 := (13, [.ref 0, .int (nI n), .int (nI t)], [.int 1, .int 0, .int (nI t)])) (h1 := (xS b, I, L, xP b)) rfl trivial ?_
    refine xw_call xb_82 rfl rfl rfl rfl rfl (Or.inl rfl) c_within ?_
    rintro _ _ ⟨rfl, rfl⟩
    refine xw_at (f' := (16, [.ref 0, .int (nI n), .int (nI t)], [.int (nI (xB (decide ((0 : Int32).toInt ≤ (nI t).toInt ∧ (nI t).toInt ≤ (1 : Int32).toInt))))])) (h' := (xS b, I, L, xP b)) rfl rfl ?_
    refine xw_go xb_82 1 (f1 := (if ¬ (nI (xB (decide ((0 : Int32).toInt ≤ (nI t).toInt ∧ (nI t).toInt ≤ (1 : Int32).toInt)))) = 0 then 21 else 19, [.ref 0, .int (nI n), .int (nI t)], [])) (h1 := (xS b, I, L, xP b)) rfl trivial ?_
    refine xw_if (fun c_16 => ?_) (fun c_16 => ?_)
    · skip
      refine xw_go xb_82 3 (f1 := (26, [.ref 0, .int (nI n), .int (nI t)], [.int (nI n), .ref 24])) (h1 := (xS b, I, L, xP b)) rfl ⟨rfl, trivial⟩ ?_
      refine xw_call xb_82 rfl rfl rfl rfl rfl (Or.inr ⟨_, _, rfl, rfl⟩) (c_findSet (I := I) hP.1 hO (n := n) (by omega) (by omega) rfl) ?_
      rintro _ _ ⟨rfl, I1, rfl, g1, g2, g3⟩
      refine xw_at (f' := (29, [.ref 0, .int (nI n), .int (nI t)], [])) (h' := (xS b, I1, L, xP b)) rfl rfl ?_
      refine xw_go xb_82 2 (f1 := (if ¬ (nI t) = 0 then 43 else 33, [.ref 0, .int (nI n), .int (nI t)], [])) (h1 := (xS b, I1, L, xP b)) rfl trivial ?_
      refine xw_if (fun c_30 => ?_) (fun c_30 => ?_)
      · skip
        refine xw_go xb_82 3 (f1 := (50, [.ref 0, .int (nI n), .int (nI t)], [.int (I1 24 8)])) (h1 := (xS b, I1, L, xP b)) rfl ⟨rfl, rfl, trivial⟩ ?_
        refine xw_ret xb_82 rfl rfl trivial ?_
        first
          | (have e0 : t = 0 := by
               (try simp (disch := omega) only [xt_eq, xt_n, xkt_0, Classical.not_not] at c_30)
               omega
             rw [if_pos e0]
             exact ⟨xm_some (congrArg Value.int g3), I1, rfl, xFF_P g1, xFF_L g1 (by omega) hP⟩)
          | (have e0 : ¬ t = 0 := by
               (try simp (disch := omega) only [xt_eq, xt_n, xkt_0, Classical.not_not] at c_30)
               omega
             rw [if_neg e0]
             exact ⟨xm_some (congrArg Value.int g2), I1, rfl, xFF_P g1, xFF_L g1 (by omega) hP⟩)
      · skip
        refine xw_go xb_82 4 (f1 := (50, [.ref 0, .int (nI n), .int (nI t)], [.int (I1 24 11)])) (h1 := (xS b, I1, L, xP b)) rfl ⟨rfl, rfl, trivial⟩ ?_
        refine xw_ret xb_82 rfl rfl trivial ?_
        first
          | (have e0 : t = 0 := by
               (try simp (disch := omega) only [xt_eq, xt_n, xkt_0, Classical.not_not] at c_30)
               omega
             rw [if_pos e0]
             exact ⟨xm_some (congrArg Value.int g3), I1, rfl, xFF_P g1, xFF_L g1 (by omega) hP⟩)
          | (have e0 : ¬ t = 0 := by
               (try simp (disch := omega) only [xt_eq, xt_n, xkt_0, Classical.not_not] at c_30)
               omega
             rw [if_neg e0]
             exact ⟨xm_some (congrArg Value.int g2), I1, rfl, xFF_P g1, xFF_L g1 (by omega) hP⟩)
    · skip
      exfalso
      try simp only [xB_dec, Classical.not_not] at c_7 c_16
      try simp (disch := omega) only [xt_eq, xt_lt, xt_le, xkt_0, xkt_1, xkt_2, xkt_3, xkt_4, xkt_5, xkt_6, xkt_7, xkt_8, xkt_9, xkt_10, xkt_11, xkt_12, xkt_13, xkt_14, xkt_16, xkt_20, xkt_24, xkt_31, xkt_32, xkt_40, xkt_44, xkt_47, xkt_48, xkt_57, xkt_59, xkt_60, xkt_63, xkt_64, xkt_65, xkt_72, xkt_95, xkt_99, xkt_100, xkt_101, xkt_103, xkt_110, xkt_112, xkt_113, xkt_114, xkt_119, xkt_126, xkt_159, xkt_576, xkt_999, xkt_9999, xkt_65536, xkt_999999, xkt_m1, xkt_m2, xkt_m3, xkt_m4, xkt_m11, xkt_m12, xkt_m13, xkt_m14, xkt_m20, xjt_0, xjt_1, xjt_2, xjt_3, xjt_4, xjt_5, xjt_6, xjt_7, xjt_8, xjt_9, xjt_10, xjt_11, xjt_12, xjt_13, xjt_14, xjt_16, xjt_20, xjt_24, xjt_31, xjt_32, xjt_40, xjt_44, xjt_47, xjt_48, xjt_57, xjt_59, xjt_60, xjt_63, xjt_64, xjt_65, xjt_72, xjt_95, xjt_99, xjt_100, xjt_101, xjt_103, xjt_110, xjt_112, xjt_113, xjt_114, xjt_119, xjt_126, xjt_159, xjt_576, xjt_999, xjt_9999, xjt_65536, xjt_999999, xt64, xt_n, not_true_eq_false, not_false_eq_true, Classical.not_not] at c_7 c_16
      all_goals omega

set_option maxHeartbeats 4000000 in
theorem m_set1 {d : Nat} {b : Bool} {I : Nat → Nat → Int32} {L : Nat → Nat → Int64} {N : Nat → Nat} {u : Nat} {U : Nat → Nat → Nat} (hM : xML N u U I) (hK : xUK N u U) {n t : Nat} (hn : n ≤ 40) (ht : t < 2) {x : Int32} (e_x : x = nI n) {y : Int32} (e_y : y = nI t) : xm_Z (d + 7) 158 [.ref 60, .int x, .int y] (xS b, I, L, xP b) (fun rz hz => xQM b I L (nI (if t = 0 then (xbt (fun k => decide (xpc k ≤ N 6)) (xsf N n) (fun k c => decide (xpc k < xpc c)) (2 ^ N 2)).2 else (xbt (fun k => decide (xpc k ≤ N 6)) (xsf N n) (fun k c => decide (xpc k < xpc c)) (2 ^ N 2)).1)) N u U rz hz) := by
  subst e_x
  subst e_y
  have hO := hK.1
  have hb := hK.1.1
  have c64 : N 0 * N 1 ≤ 64 := xce_le hO
  have c4 : 4 ≤ N 0 * N 1 := xce_ge hO
  have h49 := hK.2.1
  have w32 := xp32 hb.2.2.2.2.1
  refine xw_S xb_158 (l := [.ref 60, .int (nI n), .int (nI t), .float 0, .float 0, .float 0, .float 0, .float 0]) (Nat.le_of_ble_eq_true rfl) rfl ?_
  refine xw_go xb_158 4 (f1 := (6, [.ref 60, .int (nI n), .int (nI t), .float 0, .float 0, .float 0, .float 0, .float 0], [.long 40, .long 0, .long ((nI n).toInt64)])) (h1 := (xS b, I, L, xP b)) rfl trivial ?_
  refine xw_call xb_158 rfl rfl rfl rfl rfl (Or.inl rfl) m_in ?_
  rintro _ _ ⟨rfl, rfl⟩
  refine xw_at (f' := (9, [.ref 60, .int (nI n), .int (nI t), .float 0, .float 0, .float 0, .float 0, .float 0], [.int (nI (xB (decide ((0 : Int64).toInt ≤ (nI n).toInt64.toInt ∧ (nI n).toInt64.toInt ≤ (40 : Int64).toInt))))])) (h' := (xS b, I, L, xP b)) rfl rfl ?_
  refine xw_go xb_158 1 (f1 := (if (nI (xB (decide ((0 : Int64).toInt ≤ (nI n).toInt64.toInt ∧ (nI n).toInt64.toInt ≤ (40 : Int64).toInt)))) = 0 then 22 else 12, [.ref 60, .int (nI n), .int (nI t), .float 0, .float 0, .float 0, .float 0, .float 0], [])) (h1 := (xS b, I, L, xP b)) rfl trivial ?_
  refine xw_if (fun c_9 => ?_) (fun c_9 => ?_)
  · skip
    exfalso
    try simp only [xB_dec, Classical.not_not] at c_9
    try simp (disch := omega) only [xt_eq, xt_lt, xt_le, xkt_0, xkt_1, xkt_2, xkt_3, xkt_4, xkt_5, xkt_6, xkt_7, xkt_8, xkt_9, xkt_10, xkt_11, xkt_12, xkt_13, xkt_14, xkt_16, xkt_20, xkt_24, xkt_31, xkt_32, xkt_40, xkt_44, xkt_47, xkt_48, xkt_57, xkt_59, xkt_60, xkt_63, xkt_64, xkt_65, xkt_72, xkt_95, xkt_99, xkt_100, xkt_101, xkt_103, xkt_110, xkt_112, xkt_113, xkt_114, xkt_119, xkt_126, xkt_159, xkt_576, xkt_999, xkt_9999, xkt_65536, xkt_999999, xkt_m1, xkt_m2, xkt_m3, xkt_m4, xkt_m11, xkt_m12, xkt_m13, xkt_m14, xkt_m20, xjt_0, xjt_1, xjt_2, xjt_3, xjt_4, xjt_5, xjt_6, xjt_7, xjt_8, xjt_9, xjt_10, xjt_11, xjt_12, xjt_13, xjt_14, xjt_16, xjt_20, xjt_24, xjt_31, xjt_32, xjt_40, xjt_44, xjt_47, xjt_48, xjt_57, xjt_59, xjt_60, xjt_63, xjt_64, xjt_65, xjt_72, xjt_95, xjt_99, xjt_100, xjt_101, xjt_103, xjt_110, xjt_112, xjt_113, xjt_114, xjt_119, xjt_126, xjt_159, xjt_576, xjt_999, xjt_9999, xjt_65536, xjt_999999, xt64, xt_n, not_true_eq_false, not_false_eq_true, Classical.not_not] at c_9
    all_goals omega
  · skip
    refine xw_go xb_158 4 (f1 := (16, [.ref 60, .int (nI n), .int (nI t), .float 0, .float 0, .float 0, .float 0, .float 0], [.long 1, .long 0, .long ((nI t).toInt64)])) (h1 := (xS b, I, L, xP b)) rfl trivial ?_
    refine xw_call xb_158 rfl rfl rfl rfl rfl (Or.inl rfl) m_in ?_
    rintro _ _ ⟨rfl, rfl⟩
    refine xw_at (f' := (19, [.ref 60, .int (nI n), .int (nI t), .float 0, .float 0, .float 0, .float 0, .float 0], [.int (nI (xB (decide ((0 : Int64).toInt ≤ (nI t).toInt64.toInt ∧ (nI t).toInt64.toInt ≤ (1 : Int64).toInt))))])) (h' := (xS b, I, L, xP b)) rfl rfl ?_
    refine xw_go xb_158 1 (f1 := (if ¬ (nI (xB (decide ((0 : Int64).toInt ≤ (nI t).toInt64.toInt ∧ (nI t).toInt64.toInt ≤ (1 : Int64).toInt)))) = 0 then 24 else 22, [.ref 60, .int (nI n), .int (nI t), .float 0, .float 0, .float 0, .float 0, .float 0], [])) (h1 := (xS b, I, L, xP b)) rfl trivial ?_
    refine xw_if (fun c_19 => ?_) (fun c_19 => ?_)
    · skip
      refine xw_go xb_158 5 (f1 := (32, [.ref 60, .int (nI n), .int (nI t), .int (-4), .int (-4), .float 0, .float 0, .float 0], [.ref 60])) (h1 := (xS b, I, L, xP b)) rfl trivial ?_
      refine xw_call xb_158 rfl rfl rfl rfl rfl (Or.inr ⟨_, _, rfl, rfl⟩) (m_asides (I := I)) ?_
      rintro _ _ ⟨rfl, rfl⟩
      refine xw_at (f' := (35, [.ref 60, .int (nI n), .int (nI t), .int (-4), .int (-4), .float 0, .float 0, .float 0], [])) (h' := (xS b, va_up I 68 (xfil 159 (I 61) (I 68)), L, xP b)) rfl rfl ?_
      refine xw_go xb_158 2 (f1 := (38, [.ref 60, .int (nI n), .int (nI t), .int (-4), .int (-4), .int 0, .float 0, .float 0], [])) (h1 := (xS b, va_up I 68 (xfil 159 (I 61) (I 68)), L, xP b)) rfl trivial ?_
      have LOOP : ∀ h, (1 ≤ 1 ∧ ∃ J, h = (xS b, J, L, xP b) ∧ xMF I J ∧ J 68 = xfil 159 (I 61) (I 68) ∧ J 67 = I 67 ∧ J 60 = I 60 ∧ xMN N J) → xm_W (d + 6) 158 (38, [.ref 60, .int (nI n), .int (nI t), .int (nI (xbt (fun k => decide (xpc k ≤ N 6)) (xsf N n) (fun k c => decide (xpc k < xpc c)) 1).2), .int (nI (xbt (fun k => decide (xpc k ≤ N 6)) (xsf N n) (fun k c => decide (xpc k < xpc c)) 1).1), .int (nI 1), .float 0, .float 0], []) h (fun rz hz => xQM b I L (nI (if t = 0 then (xbt (fun k => decide (xpc k ≤ N 6)) (xsf N n) (fun k c => decide (xpc k < xpc c)) (2 ^ N 2)).2 else (xbt (fun k => decide (xpc k ≤ N 6)) (xsf N n) (fun k c => decide (xpc k < xpc c)) (2 ^ N 2)).1)) N u U rz hz) := by
        intro h hV
        refine xw_loopP (2 ^ N 2) (fun w => (38, [.ref 60, .int (nI n), .int (nI t), .int (nI (xbt (fun k => decide (xpc k ≤ N 6)) (xsf N n) (fun k c => decide (xpc k < xpc c)) w).2), .int (nI (xbt (fun k => decide (xpc k ≤ N 6)) (xsf N n) (fun k c => decide (xpc k < xpc c)) w).1), .int (nI w), .float 0, .float 0], [])) (fun w h => 1 ≤ w ∧ ∃ J, h = (xS b, J, L, xP b) ∧ xMF I J ∧ J 68 = xfil 159 (I 61) (I 68) ∧ J 67 = I 67 ∧ J 60 = I 60 ∧ xMN N J) (fun w h hw hV ih => ?_) (fun h hV => ?_) 1 h (Nat.one_le_two_pow) hV
        · obtain ⟨hc1, J, rfl, j1, j2, j3, j4, j5⟩ := hV
          have f64 : xsf N n w ≤ 64 := xsf_le hO (by omega)
          have b66 : (xbt (fun k => decide (xpc k ≤ N 6)) (xsf N n) (fun k c => decide (xpc k < xpc c)) w).1 ≤ 65 := xbt_1 (fun k => xsf_le hO (by omega)) w
          have b67 : (xbt (fun k => decide (xpc k ≤ N 6)) (xsf N n) (fun k c => decide (xpc k < xpc c)) w).2 ≤ w - 1 := xbt_2 w
          have p1 := xpc_le w (by omega)
          have p2 := xpc_le (xbt (fun k => decide (xpc k ≤ N 6)) (xsf N n) (fun k c => decide (xpc k < xpc c)) w).2 (by omega)
          refine xw_go xb_158 7 (f1 := (48, [.ref 60, .int (nI n), .int (nI t), .int (nI (xbt (fun k => decide (xpc k ≤ N 6)) (xsf N n) (fun k c => decide (xpc k < xpc c)) w).2), .int (nI (xbt (fun k => decide (xpc k ≤ N 6)) (xsf N n) (fun k c => decide (xpc k < xpc c)) w).1), .int (nI w), .float 0, .float 0], [.int (1 <<< ((J 61 (2 : Int32).toNatClampNeg) &&& 31)), .int (nI w)])) (h1 := (xS b, J, L, xP b)) rfl ⟨rfl, (xn_ar (n := 2) (N := 159) rfl (by decide) (by decide)), trivial⟩ ?_
          refine xw_cong (l' := [.ref 60, .int (nI n), .int (nI t), .int (nI (xbt (fun k => decide (xpc k ≤ N 6)) (xsf N n) (fun k c => decide (xpc k < xpc c)) w).2), .int (nI (xbt (fun k => decide (xpc k ≤ N 6)) (xsf N n) (fun k c => decide (xpc k < xpc c)) w).1), .int (nI w), .float 0, .float 0]) (st' := [.int (nI (2 ^ N 2)), .int (nI w)]) (h' := (xS b, J, L, xP b)) rfl (show ([.int (1 <<< ((J 61 (2 : Int32).toNatClampNeg) &&& 31)), .int (nI w)] : List Value) = [.int (nI (2 ^ N 2)), .int (nI w)] from ?_) rfl ?_
          · rw [show (2 : Int32).toNatClampNeg = 2 from rfl, j5 2 (by decide), xsh _ (by omega)]
          refine xw_go xb_158 1 (f1 := (if (nI (2 ^ N 2)) ≤ (nI w) then 146 else 51, [.ref 60, .int (nI n), .int (nI t), .int (nI (xbt (fun k => decide (xpc k ≤ N 6)) (xsf N n) (fun k c => decide (xpc k < xpc c)) w).2), .int (nI (xbt (fun k => decide (xpc k ≤ N 6)) (xsf N n) (fun k c => decide (xpc k < xpc c)) w).1), .int (nI w), .float 0, .float 0], [])) (h1 := (xS b, J, L, xP b)) rfl trivial ?_
          refine xw_if (fun c_48 => ?_) (fun c_48 => ?_)
          · skip
            exfalso
            try simp only [xB_dec, Classical.not_not] at c_48
            try simp (disch := omega) only [xt_eq, xt_lt, xt_le, xkt_0, xkt_1, xkt_2, xkt_3, xkt_4, xkt_5, xkt_6, xkt_7, xkt_8, xkt_9, xkt_10, xkt_11, xkt_12, xkt_13, xkt_14, xkt_16, xkt_20, xkt_24, xkt_31, xkt_32, xkt_40, xkt_44, xkt_47, xkt_48, xkt_57, xkt_59, xkt_60, xkt_63, xkt_64, xkt_65, xkt_72, xkt_95, xkt_99, xkt_100, xkt_101, xkt_103, xkt_110, xkt_112, xkt_113, xkt_114, xkt_119, xkt_126, xkt_159, xkt_576, xkt_999, xkt_9999, xkt_65536, xkt_999999, xkt_m1, xkt_m2, xkt_m3, xkt_m4, xkt_m11, xkt_m12, xkt_m13, xkt_m14, xkt_m20, xjt_0, xjt_1, xjt_2, xjt_3, xjt_4, xjt_5, xjt_6, xjt_7, xjt_8, xjt_9, xjt_10, xjt_11, xjt_12, xjt_13, xjt_14, xjt_16, xjt_20, xjt_24, xjt_31, xjt_32, xjt_40, xjt_44, xjt_47, xjt_48, xjt_57, xjt_59, xjt_60, xjt_63, xjt_64, xjt_65, xjt_72, xjt_95, xjt_99, xjt_100, xjt_101, xjt_103, xjt_110, xjt_112, xjt_113, xjt_114, xjt_119, xjt_126, xjt_159, xjt_576, xjt_999, xjt_9999, xjt_65536, xjt_999999, xt64, xt_n, not_true_eq_false, not_false_eq_true, Classical.not_not] at c_48
            all_goals omega
          · skip
            refine xw_go xb_158 1 (f1 := (53, [.ref 60, .int (nI n), .int (nI t), .int (nI (xbt (fun k => decide (xpc k ≤ N 6)) (xsf N n) (fun k c => decide (xpc k < xpc c)) w).2), .int (nI (xbt (fun k => decide (xpc k ≤ N 6)) (xsf N n) (fun k c => decide (xpc k < xpc c)) w).1), .int (nI w), .float 0, .float 0], [.int (nI w)])) (h1 := (xS b, J, L, xP b)) rfl trivial ?_
            refine xw_call xb_158 rfl rfl rfl rfl rfl (Or.inl rfl) (m_many (v := w) (by omega) rfl) ?_
            rintro _ _ ⟨rfl, rfl⟩
            refine xw_at (f' := (56, [.ref 60, .int (nI n), .int (nI t), .int (nI (xbt (fun k => decide (xpc k ≤ N 6)) (xsf N n) (fun k c => decide (xpc k < xpc c)) w).2), .int (nI (xbt (fun k => decide (xpc k ≤ N 6)) (xsf N n) (fun k c => decide (xpc k < xpc c)) w).1), .int (nI w), .float 0, .float 0], [.int (nI (xpc w))])) (h' := (xS b, J, L, xP b)) rfl rfl ?_
            refine xw_go xb_158 4 (f1 := (63, [.ref 60, .int (nI n), .int (nI t), .int (nI (xbt (fun k => decide (xpc k ≤ N 6)) (xsf N n) (fun k c => decide (xpc k < xpc c)) w).2), .int (nI (xbt (fun k => decide (xpc k ≤ N 6)) (xsf N n) (fun k c => decide (xpc k < xpc c)) w).1), .int (nI w), .float 0, .float 0], [.int (J 61 (6 : Int32).toNatClampNeg), .int (nI (xpc w))])) (h1 := (xS b, J, L, xP b)) rfl ⟨rfl, (xn_ar (n := 6) (N := 159) rfl (by decide) (by decide)), trivial⟩ ?_
            refine xw_cong (l' := [.ref 60, .int (nI n), .int (nI t), .int (nI (xbt (fun k => decide (xpc k ≤ N 6)) (xsf N n) (fun k c => decide (xpc k < xpc c)) w).2), .int (nI (xbt (fun k => decide (xpc k ≤ N 6)) (xsf N n) (fun k c => decide (xpc k < xpc c)) w).1), .int (nI w), .float 0, .float 0]) (st' := [.int (nI (N 6)), .int (nI (xpc w))]) (h' := (xS b, J, L, xP b)) rfl (show ([.int (J 61 (6 : Int32).toNatClampNeg), .int (nI (xpc w))] : List Value) = [.int (nI (N 6)), .int (nI (xpc w))] from ?_) rfl ?_
            · rw [show (6 : Int32).toNatClampNeg = 6 from rfl, j5 6 (by decide)]
            refine xw_go xb_158 1 (f1 := (if (nI (N 6)) < (nI (xpc w)) then 140 else 66, [.ref 60, .int (nI n), .int (nI t), .int (nI (xbt (fun k => decide (xpc k ≤ N 6)) (xsf N n) (fun k c => decide (xpc k < xpc c)) w).2), .int (nI (xbt (fun k => decide (xpc k ≤ N 6)) (xsf N n) (fun k c => decide (xpc k < xpc c)) w).1), .int (nI w), .float 0, .float 0], [])) (h1 := (xS b, J, L, xP b)) rfl trivial ?_
            refine xw_if (fun c_63 => ?_) (fun c_63 => ?_)
            · skip
              refine xw_go xb_158 2 (f1 := (38, [.ref 60, .int (nI n), .int (nI t), .int (nI (xbt (fun k => decide (xpc k ≤ N 6)) (xsf N n) (fun k c => decide (xpc k < xpc c)) w).2), .int (nI (xbt (fun k => decide (xpc k ≤ N 6)) (xsf N n) (fun k c => decide (xpc k < xpc c)) w).1), .int ((nI w) + 1), .float 0, .float 0], [])) (h1 := (xS b, J, L, xP b)) rfl trivial ?_
              refine xw_fg (l0 := [.ref 60, .int (nI n), .int (nI t), .int (nI (xbt (fun k => decide (xpc k ≤ N 6)) (xsf N n) (fun k c => decide (xpc k < xpc c)) w).2), .int (nI (xbt (fun k => decide (xpc k ≤ N 6)) (xsf N n) (fun k c => decide (xpc k < xpc c)) w).1), .int ((nI w) + 1), .float 0, .float 0]) ⟨Or.inr rfl, Or.inr rfl, Or.inr rfl, Or.inr rfl, Or.inr rfl, Or.inr rfl, Or.inl rfl, Or.inl rfl, trivial⟩ ?_
              first
                | (exfalso
                   try simp only [xB_dec, Classical.not_not] at c_48 c_63
                   try simp (disch := omega) only [xt_eq, xt_lt, xt_le, xkt_0, xkt_1, xkt_2, xkt_3, xkt_4, xkt_5, xkt_6, xkt_7, xkt_8, xkt_9, xkt_10, xkt_11, xkt_12, xkt_13, xkt_14, xkt_16, xkt_20, xkt_24, xkt_31, xkt_32, xkt_40, xkt_44, xkt_47, xkt_48, xkt_57, xkt_59, xkt_60, xkt_63, xkt_64, xkt_65, xkt_72, xkt_95, xkt_99, xkt_100, xkt_101, xkt_103, xkt_110, xkt_112, xkt_113, xkt_114, xkt_119, xkt_126, xkt_159, xkt_576, xkt_999, xkt_9999, xkt_65536, xkt_999999, xkt_m1, xkt_m2, xkt_m3, xkt_m4, xkt_m11, xkt_m12, xkt_m13, xkt_m14, xkt_m20, xjt_0, xjt_1, xjt_2, xjt_3, xjt_4, xjt_5, xjt_6, xjt_7, xjt_8, xjt_9, xjt_10, xjt_11, xjt_12, xjt_13, xjt_14, xjt_16, xjt_20, xjt_24, xjt_31, xjt_32, xjt_40, xjt_44, xjt_47, xjt_48, xjt_57, xjt_59, xjt_60, xjt_63, xjt_64, xjt_65, xjt_72, xjt_95, xjt_99, xjt_100, xjt_101, xjt_103, xjt_110, xjt_112, xjt_113, xjt_114, xjt_119, xjt_126, xjt_159, xjt_576, xjt_999, xjt_9999, xjt_65536, xjt_999999, xt64, xt_n, not_true_eq_false, not_false_eq_true, Classical.not_not] at c_48 c_63
                   all_goals omega)
                | (have hy : (xbt (fun k => decide (xpc k ≤ N 6)) (xsf N n) (fun k c => decide (xpc k < xpc c)) (w + 1)) = (xbt (fun k => decide (xpc k ≤ N 6)) (xsf N n) (fun k c => decide (xpc k < xpc c)) w) := xbt_n (Or.inl (decide_eq_false (by
                     try simp only [xB_dec, Classical.not_not] at c_48 c_63
                     try simp (disch := omega) only [xt_eq, xt_lt, xt_le, xkt_0, xkt_1, xkt_2, xkt_3, xkt_4, xkt_5, xkt_6, xkt_7, xkt_8, xkt_9, xkt_10, xkt_11, xkt_12, xkt_13, xkt_14, xkt_16, xkt_20, xkt_24, xkt_31, xkt_32, xkt_40, xkt_44, xkt_47, xkt_48, xkt_57, xkt_59, xkt_60, xkt_63, xkt_64, xkt_65, xkt_72, xkt_95, xkt_99, xkt_100, xkt_101, xkt_103, xkt_110, xkt_112, xkt_113, xkt_114, xkt_119, xkt_126, xkt_159, xkt_576, xkt_999, xkt_9999, xkt_65536, xkt_999999, xkt_m1, xkt_m2, xkt_m3, xkt_m4, xkt_m11, xkt_m12, xkt_m13, xkt_m14, xkt_m20, xjt_0, xjt_1, xjt_2, xjt_3, xjt_4, xjt_5, xjt_6, xjt_7, xjt_8, xjt_9, xjt_10, xjt_11, xjt_12, xjt_13, xjt_14, xjt_16, xjt_20, xjt_24, xjt_31, xjt_32, xjt_40, xjt_44, xjt_47, xjt_48, xjt_57, xjt_59, xjt_60, xjt_63, xjt_64, xjt_65, xjt_72, xjt_95, xjt_99, xjt_100, xjt_101, xjt_103, xjt_110, xjt_112, xjt_113, xjt_114, xjt_119, xjt_126, xjt_159, xjt_576, xjt_999, xjt_9999, xjt_65536, xjt_999999, xt64, xt_n, not_true_eq_false, not_false_eq_true, Classical.not_not] at c_48 c_63
                     all_goals omega)))
                   refine xw_cong ?_ rfl rfl (ih _ ⟨by omega, J, rfl, j1, j2, j3, j4, j5⟩)
                   rw [hy, nI_1])
            · skip
              refine xw_go xb_158 3 (f1 := (70, [.ref 60, .int (nI n), .int (nI t), .int (nI (xbt (fun k => decide (xpc k ≤ N 6)) (xsf N n) (fun k c => decide (xpc k < xpc c)) w).2), .int (nI (xbt (fun k => decide (xpc k ≤ N 6)) (xsf N n) (fun k c => decide (xpc k < xpc c)) w).1), .int (nI w), .float 0, .float 0], [.int (nI n), .int (nI w), .ref 60])) (h1 := (xS b, J, L, xP b)) rfl trivial ?_
              refine xw_call xb_158 rfl rfl rfl rfl rfl (Or.inr ⟨_, _, rfl, rfl⟩) (m_wrongBehind (I := J) (N := N) j5 hO (o := w) (n := n) (by omega) (by omega) rfl rfl) ?_
              rintro _ _ ⟨rfl, J1, rfl, g1, g2⟩
              have gq : ∀ a, a ≠ 61 → a ≠ 62 → a ≠ 63 → J1 a = J a := fun a h1 h2 h3 => g1 a (by simp only [List.mem_cons, List.not_mem_nil, or_false, not_or]; exact ⟨h1, h2, h3⟩)
              have g5 : xMN N J1 := fun k hk => by
                rw [g2 k hk, j2]
                unfold xfil
                rw [if_pos hk]
                exact hM.1 k hk
              have gm : xMF I J1 := ⟨fun a ha => by rw [gq a (by omega) (by omega) (by omega)]; exact j1.1 a ha, fun k hk => by rw [gq 60 (by decide) (by decide) (by decide)]; exact j1.2 k hk⟩
              refine xw_at (f' := (73, [.ref 60, .int (nI n), .int (nI t), .int (nI (xbt (fun k => decide (xpc k ≤ N 6)) (xsf N n) (fun k c => decide (xpc k < xpc c)) w).2), .int (nI (xbt (fun k => decide (xpc k ≤ N 6)) (xsf N n) (fun k c => decide (xpc k < xpc c)) w).1), .int (nI w), .float 0, .float 0], [.int (nI (xsf N n w))])) (h' := (xS b, J1, L, xP b)) rfl rfl ?_
              refine xw_go xb_158 4 (f1 := (if (nI (xbt (fun k => decide (xpc k ≤ N 6)) (xsf N n) (fun k c => decide (xpc k < xpc c)) w).2) = (-4) then 107 else 81, [.ref 60, .int (nI n), .int (nI t), .int (nI (xbt (fun k => decide (xpc k ≤ N 6)) (xsf N n) (fun k c => decide (xpc k < xpc c)) w).2), .int (nI (xbt (fun k => decide (xpc k ≤ N 6)) (xsf N n) (fun k c => decide (xpc k < xpc c)) w).1), .int (nI w), .int (nI (xsf N n w)), .float 0], [])) (h1 := (xS b, J1, L, xP b)) rfl trivial ?_
              refine xw_if (fun c_78 => ?_) (fun c_78 => ?_)
              · skip
                refine xw_go xb_158 5 (f1 := (if 1 = 0 then 124 else 119, [.ref 60, .int (nI n), .int (nI t), .int (nI (xbt (fun k => decide (xpc k ≤ N 6)) (xsf N n) (fun k c => decide (xpc k < xpc c)) w).2), .int (nI (xbt (fun k => decide (xpc k ≤ N 6)) (xsf N n) (fun k c => decide (xpc k < xpc c)) w).1), .int (nI w), .int (nI (xsf N n w)), .int 1], [])) (h1 := (xS b, J1, L, xP b)) rfl trivial ?_
                refine xw_if (fun c_116 => ?_) (fun c_116 => ?_)
                · skip
                  refine xw_go xb_158 4 (f1 := (if 1 = 0 then 136 else 131, [.ref 60, .int (nI n), .int (nI t), .int (nI (xbt (fun k => decide (xpc k ≤ N 6)) (xsf N n) (fun k c => decide (xpc k < xpc c)) w).2), .int (nI (xbt (fun k => decide (xpc k ≤ N 6)) (xsf N n) (fun k c => decide (xpc k < xpc c)) w).1), .int (nI w), .int (nI (xsf N n w)), .int 1], [])) (h1 := (xS b, J1, L, xP b)) rfl trivial ?_
                  refine xw_if (fun c_128 => ?_) (fun c_128 => ?_)
                  · skip
                    refine xw_go xb_158 4 (f1 := (38, [.ref 60, .int (nI n), .int (nI t), .int (nI (xbt (fun k => decide (xpc k ≤ N 6)) (xsf N n) (fun k c => decide (xpc k < xpc c)) w).2), .int (nI (xbt (fun k => decide (xpc k ≤ N 6)) (xsf N n) (fun k c => decide (xpc k < xpc c)) w).1), .int ((nI w) + 1), .int (nI (xsf N n w)), .int 1], [])) (h1 := (xS b, J1, L, xP b)) rfl trivial ?_
                    refine xw_fg (l0 := [.ref 60, .int (nI n), .int (nI t), .int (nI (xbt (fun k => decide (xpc k ≤ N 6)) (xsf N n) (fun k c => decide (xpc k < xpc c)) w).2), .int (nI (xbt (fun k => decide (xpc k ≤ N 6)) (xsf N n) (fun k c => decide (xpc k < xpc c)) w).1), .int ((nI w) + 1), .float 0, .float 0]) ⟨Or.inr rfl, Or.inr rfl, Or.inr rfl, Or.inr rfl, Or.inr rfl, Or.inr rfl, Or.inl rfl, Or.inl rfl, trivial⟩ ?_
                    first
                      | (exfalso
                         try simp only [xB_dec, Classical.not_not] at c_48 c_63 c_78 c_116 c_128
                         try simp (disch := omega) only [xt_eq, xt_lt, xt_le, xkt_0, xkt_1, xkt_2, xkt_3, xkt_4, xkt_5, xkt_6, xkt_7, xkt_8, xkt_9, xkt_10, xkt_11, xkt_12, xkt_13, xkt_14, xkt_16, xkt_20, xkt_24, xkt_31, xkt_32, xkt_40, xkt_44, xkt_47, xkt_48, xkt_57, xkt_59, xkt_60, xkt_63, xkt_64, xkt_65, xkt_72, xkt_95, xkt_99, xkt_100, xkt_101, xkt_103, xkt_110, xkt_112, xkt_113, xkt_114, xkt_119, xkt_126, xkt_159, xkt_576, xkt_999, xkt_9999, xkt_65536, xkt_999999, xkt_m1, xkt_m2, xkt_m3, xkt_m4, xkt_m11, xkt_m12, xkt_m13, xkt_m14, xkt_m20, xjt_0, xjt_1, xjt_2, xjt_3, xjt_4, xjt_5, xjt_6, xjt_7, xjt_8, xjt_9, xjt_10, xjt_11, xjt_12, xjt_13, xjt_14, xjt_16, xjt_20, xjt_24, xjt_31, xjt_32, xjt_40, xjt_44, xjt_47, xjt_48, xjt_57, xjt_59, xjt_60, xjt_63, xjt_64, xjt_65, xjt_72, xjt_95, xjt_99, xjt_100, xjt_101, xjt_103, xjt_110, xjt_112, xjt_113, xjt_114, xjt_119, xjt_126, xjt_159, xjt_576, xjt_999, xjt_9999, xjt_65536, xjt_999999, xt64, xt_n, not_true_eq_false, not_false_eq_true, Classical.not_not] at c_48 c_63 c_78 c_116 c_128
                         all_goals omega)
                      | (have hy : (xbt (fun k => decide (xpc k ≤ N 6)) (xsf N n) (fun k c => decide (xpc k < xpc c)) (w + 1)) = (xbt (fun k => decide (xpc k ≤ N 6)) (xsf N n) (fun k c => decide (xpc k < xpc c)) w) := xbt_n (Or.inr (by
                           rw [decide_eq_false_iff_not]
                           try simp only [xB_dec, Classical.not_not] at c_48 c_63 c_78 c_116 c_128
                           try simp (disch := omega) only [xt_eq, xt_lt, xt_le, xkt_0, xkt_1, xkt_2, xkt_3, xkt_4, xkt_5, xkt_6, xkt_7, xkt_8, xkt_9, xkt_10, xkt_11, xkt_12, xkt_13, xkt_14, xkt_16, xkt_20, xkt_24, xkt_31, xkt_32, xkt_40, xkt_44, xkt_47, xkt_48, xkt_57, xkt_59, xkt_60, xkt_63, xkt_64, xkt_65, xkt_72, xkt_95, xkt_99, xkt_100, xkt_101, xkt_103, xkt_110, xkt_112, xkt_113, xkt_114, xkt_119, xkt_126, xkt_159, xkt_576, xkt_999, xkt_9999, xkt_65536, xkt_999999, xkt_m1, xkt_m2, xkt_m3, xkt_m4, xkt_m11, xkt_m12, xkt_m13, xkt_m14, xkt_m20, xjt_0, xjt_1, xjt_2, xjt_3, xjt_4, xjt_5, xjt_6, xjt_7, xjt_8, xjt_9, xjt_10, xjt_11, xjt_12, xjt_13, xjt_14, xjt_16, xjt_20, xjt_24, xjt_31, xjt_32, xjt_40, xjt_44, xjt_47, xjt_48, xjt_57, xjt_59, xjt_60, xjt_63, xjt_64, xjt_65, xjt_72, xjt_95, xjt_99, xjt_100, xjt_101, xjt_103, xjt_110, xjt_112, xjt_113, xjt_114, xjt_119, xjt_126, xjt_159, xjt_576, xjt_999, xjt_9999, xjt_65536, xjt_999999, xt64, xt_n, not_true_eq_false, not_false_eq_true, Classical.not_not] at c_48 c_63 c_78 c_116 c_128
                           all_goals omega))
                         refine xw_cong ?_ rfl rfl (ih _ ⟨by omega, J1, rfl, gm, by rw [gq 68 (by decide) (by decide) (by decide)]; exact j2, by rw [gq 67 (by decide) (by decide) (by decide)]; exact j3, by rw [gq 60 (by decide) (by decide) (by decide)]; exact j4, g5⟩)
                         rw [hy, nI_1])
                  · skip
                    refine xw_go xb_158 5 (f1 := (38, [.ref 60, .int (nI n), .int (nI t), .int (nI (xbt (fun k => decide (xpc k ≤ N 6)) (xsf N n) (fun k c => decide (xpc k < xpc c)) w).2), .int (nI (xsf N n w)), .int ((nI w) + 1), .int (nI (xsf N n w)), .int 1], [])) (h1 := (xS b, J1, L, xP b)) rfl trivial ?_
                    refine xw_fg (l0 := [.ref 60, .int (nI n), .int (nI t), .int (nI (xbt (fun k => decide (xpc k ≤ N 6)) (xsf N n) (fun k c => decide (xpc k < xpc c)) w).2), .int (nI (xsf N n w)), .int ((nI w) + 1), .float 0, .float 0]) ⟨Or.inr rfl, Or.inr rfl, Or.inr rfl, Or.inr rfl, Or.inr rfl, Or.inr rfl, Or.inl rfl, Or.inl rfl, trivial⟩ ?_
                    first
                      | (exfalso
                         try simp only [xB_dec, Classical.not_not] at c_48 c_63 c_78 c_116 c_128
                         try simp (disch := omega) only [xt_eq, xt_lt, xt_le, xkt_0, xkt_1, xkt_2, xkt_3, xkt_4, xkt_5, xkt_6, xkt_7, xkt_8, xkt_9, xkt_10, xkt_11, xkt_12, xkt_13, xkt_14, xkt_16, xkt_20, xkt_24, xkt_31, xkt_32, xkt_40, xkt_44, xkt_47, xkt_48, xkt_57, xkt_59, xkt_60, xkt_63, xkt_64, xkt_65, xkt_72, xkt_95, xkt_99, xkt_100, xkt_101, xkt_103, xkt_110, xkt_112, xkt_113, xkt_114, xkt_119, xkt_126, xkt_159, xkt_576, xkt_999, xkt_9999, xkt_65536, xkt_999999, xkt_m1, xkt_m2, xkt_m3, xkt_m4, xkt_m11, xkt_m12, xkt_m13, xkt_m14, xkt_m20, xjt_0, xjt_1, xjt_2, xjt_3, xjt_4, xjt_5, xjt_6, xjt_7, xjt_8, xjt_9, xjt_10, xjt_11, xjt_12, xjt_13, xjt_14, xjt_16, xjt_20, xjt_24, xjt_31, xjt_32, xjt_40, xjt_44, xjt_47, xjt_48, xjt_57, xjt_59, xjt_60, xjt_63, xjt_64, xjt_65, xjt_72, xjt_95, xjt_99, xjt_100, xjt_101, xjt_103, xjt_110, xjt_112, xjt_113, xjt_114, xjt_119, xjt_126, xjt_159, xjt_576, xjt_999, xjt_9999, xjt_65536, xjt_999999, xt64, xt_n, not_true_eq_false, not_false_eq_true, Classical.not_not] at c_48 c_63 c_78 c_116 c_128
                         all_goals omega)
                      | (have hy : (xbt (fun k => decide (xpc k ≤ N 6)) (xsf N n) (fun k c => decide (xpc k < xpc c)) (w + 1)) = (xbt (fun k => decide (xpc k ≤ N 6)) (xsf N n) (fun k c => decide (xpc k < xpc c)) w) := xbt_n (Or.inr (by
                           rw [decide_eq_false_iff_not]
                           try simp only [xB_dec, Classical.not_not] at c_48 c_63 c_78 c_116 c_128
                           try simp (disch := omega) only [xt_eq, xt_lt, xt_le, xkt_0, xkt_1, xkt_2, xkt_3, xkt_4, xkt_5, xkt_6, xkt_7, xkt_8, xkt_9, xkt_10, xkt_11, xkt_12, xkt_13, xkt_14, xkt_16, xkt_20, xkt_24, xkt_31, xkt_32, xkt_40, xkt_44, xkt_47, xkt_48, xkt_57, xkt_59, xkt_60, xkt_63, xkt_64, xkt_65, xkt_72, xkt_95, xkt_99, xkt_100, xkt_101, xkt_103, xkt_110, xkt_112, xkt_113, xkt_114, xkt_119, xkt_126, xkt_159, xkt_576, xkt_999, xkt_9999, xkt_65536, xkt_999999, xkt_m1, xkt_m2, xkt_m3, xkt_m4, xkt_m11, xkt_m12, xkt_m13, xkt_m14, xkt_m20, xjt_0, xjt_1, xjt_2, xjt_3, xjt_4, xjt_5, xjt_6, xjt_7, xjt_8, xjt_9, xjt_10, xjt_11, xjt_12, xjt_13, xjt_14, xjt_16, xjt_20, xjt_24, xjt_31, xjt_32, xjt_40, xjt_44, xjt_47, xjt_48, xjt_57, xjt_59, xjt_60, xjt_63, xjt_64, xjt_65, xjt_72, xjt_95, xjt_99, xjt_100, xjt_101, xjt_103, xjt_110, xjt_112, xjt_113, xjt_114, xjt_119, xjt_126, xjt_159, xjt_576, xjt_999, xjt_9999, xjt_65536, xjt_999999, xt64, xt_n, not_true_eq_false, not_false_eq_true, Classical.not_not] at c_48 c_63 c_78 c_116 c_128
                           all_goals omega))
                         refine xw_cong ?_ rfl rfl (ih _ ⟨by omega, J1, rfl, gm, by rw [gq 68 (by decide) (by decide) (by decide)]; exact j2, by rw [gq 67 (by decide) (by decide) (by decide)]; exact j3, by rw [gq 60 (by decide) (by decide) (by decide)]; exact j4, g5⟩)
                         rw [hy, nI_1])
                · skip
                  refine xw_go xb_158 5 (f1 := (if 1 = 0 then 136 else 131, [.ref 60, .int (nI n), .int (nI t), .int (nI w), .int (nI (xbt (fun k => decide (xpc k ≤ N 6)) (xsf N n) (fun k c => decide (xpc k < xpc c)) w).1), .int (nI w), .int (nI (xsf N n w)), .int 1], [])) (h1 := (xS b, J1, L, xP b)) rfl trivial ?_
                  refine xw_if (fun c_128 => ?_) (fun c_128 => ?_)
                  · skip
                    refine xw_go xb_158 4 (f1 := (38, [.ref 60, .int (nI n), .int (nI t), .int (nI w), .int (nI (xbt (fun k => decide (xpc k ≤ N 6)) (xsf N n) (fun k c => decide (xpc k < xpc c)) w).1), .int ((nI w) + 1), .int (nI (xsf N n w)), .int 1], [])) (h1 := (xS b, J1, L, xP b)) rfl trivial ?_
                    refine xw_fg (l0 := [.ref 60, .int (nI n), .int (nI t), .int (nI w), .int (nI (xbt (fun k => decide (xpc k ≤ N 6)) (xsf N n) (fun k c => decide (xpc k < xpc c)) w).1), .int ((nI w) + 1), .float 0, .float 0]) ⟨Or.inr rfl, Or.inr rfl, Or.inr rfl, Or.inr rfl, Or.inr rfl, Or.inr rfl, Or.inl rfl, Or.inl rfl, trivial⟩ ?_
                    first
                      | (exfalso
                         try simp only [xB_dec, Classical.not_not] at c_48 c_63 c_78 c_116 c_128
                         try simp (disch := omega) only [xt_eq, xt_lt, xt_le, xkt_0, xkt_1, xkt_2, xkt_3, xkt_4, xkt_5, xkt_6, xkt_7, xkt_8, xkt_9, xkt_10, xkt_11, xkt_12, xkt_13, xkt_14, xkt_16, xkt_20, xkt_24, xkt_31, xkt_32, xkt_40, xkt_44, xkt_47, xkt_48, xkt_57, xkt_59, xkt_60, xkt_63, xkt_64, xkt_65, xkt_72, xkt_95, xkt_99, xkt_100, xkt_101, xkt_103, xkt_110, xkt_112, xkt_113, xkt_114, xkt_119, xkt_126, xkt_159, xkt_576, xkt_999, xkt_9999, xkt_65536, xkt_999999, xkt_m1, xkt_m2, xkt_m3, xkt_m4, xkt_m11, xkt_m12, xkt_m13, xkt_m14, xkt_m20, xjt_0, xjt_1, xjt_2, xjt_3, xjt_4, xjt_5, xjt_6, xjt_7, xjt_8, xjt_9, xjt_10, xjt_11, xjt_12, xjt_13, xjt_14, xjt_16, xjt_20, xjt_24, xjt_31, xjt_32, xjt_40, xjt_44, xjt_47, xjt_48, xjt_57, xjt_59, xjt_60, xjt_63, xjt_64, xjt_65, xjt_72, xjt_95, xjt_99, xjt_100, xjt_101, xjt_103, xjt_110, xjt_112, xjt_113, xjt_114, xjt_119, xjt_126, xjt_159, xjt_576, xjt_999, xjt_9999, xjt_65536, xjt_999999, xt64, xt_n, not_true_eq_false, not_false_eq_true, Classical.not_not] at c_48 c_63 c_78 c_116 c_128
                         all_goals omega)
                      | (have hy : (xbt (fun k => decide (xpc k ≤ N 6)) (xsf N n) (fun k c => decide (xpc k < xpc c)) (w + 1)) = (xsf N n w, w) := xbt_y (decide_eq_true (by
                           try simp only [xB_dec, Classical.not_not] at c_48 c_63 c_78 c_116 c_128
                           try simp (disch := omega) only [xt_eq, xt_lt, xt_le, xkt_0, xkt_1, xkt_2, xkt_3, xkt_4, xkt_5, xkt_6, xkt_7, xkt_8, xkt_9, xkt_10, xkt_11, xkt_12, xkt_13, xkt_14, xkt_16, xkt_20, xkt_24, xkt_31, xkt_32, xkt_40, xkt_44, xkt_47, xkt_48, xkt_57, xkt_59, xkt_60, xkt_63, xkt_64, xkt_65, xkt_72, xkt_95, xkt_99, xkt_100, xkt_101, xkt_103, xkt_110, xkt_112, xkt_113, xkt_114, xkt_119, xkt_126, xkt_159, xkt_576, xkt_999, xkt_9999, xkt_65536, xkt_999999, xkt_m1, xkt_m2, xkt_m3, xkt_m4, xkt_m11, xkt_m12, xkt_m13, xkt_m14, xkt_m20, xjt_0, xjt_1, xjt_2, xjt_3, xjt_4, xjt_5, xjt_6, xjt_7, xjt_8, xjt_9, xjt_10, xjt_11, xjt_12, xjt_13, xjt_14, xjt_16, xjt_20, xjt_24, xjt_31, xjt_32, xjt_40, xjt_44, xjt_47, xjt_48, xjt_57, xjt_59, xjt_60, xjt_63, xjt_64, xjt_65, xjt_72, xjt_95, xjt_99, xjt_100, xjt_101, xjt_103, xjt_110, xjt_112, xjt_113, xjt_114, xjt_119, xjt_126, xjt_159, xjt_576, xjt_999, xjt_9999, xjt_65536, xjt_999999, xt64, xt_n, not_true_eq_false, not_false_eq_true, Classical.not_not] at c_48 c_63 c_78 c_116 c_128
                           all_goals omega)) (by
                           rw [decide_eq_true_eq]
                           try simp only [xB_dec, Classical.not_not] at c_48 c_63 c_78 c_116 c_128
                           try simp (disch := omega) only [xt_eq, xt_lt, xt_le, xkt_0, xkt_1, xkt_2, xkt_3, xkt_4, xkt_5, xkt_6, xkt_7, xkt_8, xkt_9, xkt_10, xkt_11, xkt_12, xkt_13, xkt_14, xkt_16, xkt_20, xkt_24, xkt_31, xkt_32, xkt_40, xkt_44, xkt_47, xkt_48, xkt_57, xkt_59, xkt_60, xkt_63, xkt_64, xkt_65, xkt_72, xkt_95, xkt_99, xkt_100, xkt_101, xkt_103, xkt_110, xkt_112, xkt_113, xkt_114, xkt_119, xkt_126, xkt_159, xkt_576, xkt_999, xkt_9999, xkt_65536, xkt_999999, xkt_m1, xkt_m2, xkt_m3, xkt_m4, xkt_m11, xkt_m12, xkt_m13, xkt_m14, xkt_m20, xjt_0, xjt_1, xjt_2, xjt_3, xjt_4, xjt_5, xjt_6, xjt_7, xjt_8, xjt_9, xjt_10, xjt_11, xjt_12, xjt_13, xjt_14, xjt_16, xjt_20, xjt_24, xjt_31, xjt_32, xjt_40, xjt_44, xjt_47, xjt_48, xjt_57, xjt_59, xjt_60, xjt_63, xjt_64, xjt_65, xjt_72, xjt_95, xjt_99, xjt_100, xjt_101, xjt_103, xjt_110, xjt_112, xjt_113, xjt_114, xjt_119, xjt_126, xjt_159, xjt_576, xjt_999, xjt_9999, xjt_65536, xjt_999999, xt64, xt_n, not_true_eq_false, not_false_eq_true, Classical.not_not] at c_48 c_63 c_78 c_116 c_128
                           all_goals omega)
                         refine xw_cong ?_ rfl rfl (ih _ ⟨by omega, J1, rfl, gm, by rw [gq 68 (by decide) (by decide) (by decide)]; exact j2, by rw [gq 67 (by decide) (by decide) (by decide)]; exact j3, by rw [gq 60 (by decide) (by decide) (by decide)]; exact j4, g5⟩)
                         rw [hy, nI_1])
                  · skip
                    refine xw_go xb_158 5 (f1 := (38, [.ref 60, .int (nI n), .int (nI t), .int (nI w), .int (nI (xsf N n w)), .int ((nI w) + 1), .int (nI (xsf N n w)), .int 1], [])) (h1 := (xS b, J1, L, xP b)) rfl trivial ?_
                    refine xw_fg (l0 := [.ref 60, .int (nI n), .int (nI t), .int (nI w), .int (nI (xsf N n w)), .int ((nI w) + 1), .float 0, .float 0]) ⟨Or.inr rfl, Or.inr rfl, Or.inr rfl, Or.inr rfl, Or.inr rfl, Or.inr rfl, Or.inl rfl, Or.inl rfl, trivial⟩ ?_
                    first
                      | (exfalso
                         try simp only [xB_dec, Classical.not_not] at c_48 c_63 c_78 c_116 c_128
                         try simp (disch := omega) only [xt_eq, xt_lt, xt_le, xkt_0, xkt_1, xkt_2, xkt_3, xkt_4, xkt_5, xkt_6, xkt_7, xkt_8, xkt_9, xkt_10, xkt_11, xkt_12, xkt_13, xkt_14, xkt_16, xkt_20, xkt_24, xkt_31, xkt_32, xkt_40, xkt_44, xkt_47, xkt_48, xkt_57, xkt_59, xkt_60, xkt_63, xkt_64, xkt_65, xkt_72, xkt_95, xkt_99, xkt_100, xkt_101, xkt_103, xkt_110, xkt_112, xkt_113, xkt_114, xkt_119, xkt_126, xkt_159, xkt_576, xkt_999, xkt_9999, xkt_65536, xkt_999999, xkt_m1, xkt_m2, xkt_m3, xkt_m4, xkt_m11, xkt_m12, xkt_m13, xkt_m14, xkt_m20, xjt_0, xjt_1, xjt_2, xjt_3, xjt_4, xjt_5, xjt_6, xjt_7, xjt_8, xjt_9, xjt_10, xjt_11, xjt_12, xjt_13, xjt_14, xjt_16, xjt_20, xjt_24, xjt_31, xjt_32, xjt_40, xjt_44, xjt_47, xjt_48, xjt_57, xjt_59, xjt_60, xjt_63, xjt_64, xjt_65, xjt_72, xjt_95, xjt_99, xjt_100, xjt_101, xjt_103, xjt_110, xjt_112, xjt_113, xjt_114, xjt_119, xjt_126, xjt_159, xjt_576, xjt_999, xjt_9999, xjt_65536, xjt_999999, xt64, xt_n, not_true_eq_false, not_false_eq_true, Classical.not_not] at c_48 c_63 c_78 c_116 c_128
                         all_goals omega)
                      | (have hy : (xbt (fun k => decide (xpc k ≤ N 6)) (xsf N n) (fun k c => decide (xpc k < xpc c)) (w + 1)) = (xsf N n w, w) := xbt_y (decide_eq_true (by
                           try simp only [xB_dec, Classical.not_not] at c_48 c_63 c_78 c_116 c_128
                           try simp (disch := omega) only [xt_eq, xt_lt, xt_le, xkt_0, xkt_1, xkt_2, xkt_3, xkt_4, xkt_5, xkt_6, xkt_7, xkt_8, xkt_9, xkt_10, xkt_11, xkt_12, xkt_13, xkt_14, xkt_16, xkt_20, xkt_24, xkt_31, xkt_32, xkt_40, xkt_44, xkt_47, xkt_48, xkt_57, xkt_59, xkt_60, xkt_63, xkt_64, xkt_65, xkt_72, xkt_95, xkt_99, xkt_100, xkt_101, xkt_103, xkt_110, xkt_112, xkt_113, xkt_114, xkt_119, xkt_126, xkt_159, xkt_576, xkt_999, xkt_9999, xkt_65536, xkt_999999, xkt_m1, xkt_m2, xkt_m3, xkt_m4, xkt_m11, xkt_m12, xkt_m13, xkt_m14, xkt_m20, xjt_0, xjt_1, xjt_2, xjt_3, xjt_4, xjt_5, xjt_6, xjt_7, xjt_8, xjt_9, xjt_10, xjt_11, xjt_12, xjt_13, xjt_14, xjt_16, xjt_20, xjt_24, xjt_31, xjt_32, xjt_40, xjt_44, xjt_47, xjt_48, xjt_57, xjt_59, xjt_60, xjt_63, xjt_64, xjt_65, xjt_72, xjt_95, xjt_99, xjt_100, xjt_101, xjt_103, xjt_110, xjt_112, xjt_113, xjt_114, xjt_119, xjt_126, xjt_159, xjt_576, xjt_999, xjt_9999, xjt_65536, xjt_999999, xt64, xt_n, not_true_eq_false, not_false_eq_true, Classical.not_not] at c_48 c_63 c_78 c_116 c_128
                           all_goals omega)) (by
                           rw [decide_eq_true_eq]
                           try simp only [xB_dec, Classical.not_not] at c_48 c_63 c_78 c_116 c_128
                           try simp (disch := omega) only [xt_eq, xt_lt, xt_le, xkt_0, xkt_1, xkt_2, xkt_3, xkt_4, xkt_5, xkt_6, xkt_7, xkt_8, xkt_9, xkt_10, xkt_11, xkt_12, xkt_13, xkt_14, xkt_16, xkt_20, xkt_24, xkt_31, xkt_32, xkt_40, xkt_44, xkt_47, xkt_48, xkt_57, xkt_59, xkt_60, xkt_63, xkt_64, xkt_65, xkt_72, xkt_95, xkt_99, xkt_100, xkt_101, xkt_103, xkt_110, xkt_112, xkt_113, xkt_114, xkt_119, xkt_126, xkt_159, xkt_576, xkt_999, xkt_9999, xkt_65536, xkt_999999, xkt_m1, xkt_m2, xkt_m3, xkt_m4, xkt_m11, xkt_m12, xkt_m13, xkt_m14, xkt_m20, xjt_0, xjt_1, xjt_2, xjt_3, xjt_4, xjt_5, xjt_6, xjt_7, xjt_8, xjt_9, xjt_10, xjt_11, xjt_12, xjt_13, xjt_14, xjt_16, xjt_20, xjt_24, xjt_31, xjt_32, xjt_40, xjt_44, xjt_47, xjt_48, xjt_57, xjt_59, xjt_60, xjt_63, xjt_64, xjt_65, xjt_72, xjt_95, xjt_99, xjt_100, xjt_101, xjt_103, xjt_110, xjt_112, xjt_113, xjt_114, xjt_119, xjt_126, xjt_159, xjt_576, xjt_999, xjt_9999, xjt_65536, xjt_999999, xt64, xt_n, not_true_eq_false, not_false_eq_true, Classical.not_not] at c_48 c_63 c_78 c_116 c_128
                           all_goals omega)
                         refine xw_cong ?_ rfl rfl (ih _ ⟨by omega, J1, rfl, gm, by rw [gq 68 (by decide) (by decide) (by decide)]; exact j2, by rw [gq 67 (by decide) (by decide) (by decide)]; exact j3, by rw [gq 60 (by decide) (by decide) (by decide)]; exact j4, g5⟩)
                         rw [hy, nI_1])
              · skip
                refine xw_go xb_158 3 (f1 := (if (nI (xsf N n w)) < (nI (xbt (fun k => decide (xpc k ≤ N 6)) (xsf N n) (fun k c => decide (xpc k < xpc c)) w).1) then 107 else 88, [.ref 60, .int (nI n), .int (nI t), .int (nI (xbt (fun k => decide (xpc k ≤ N 6)) (xsf N n) (fun k c => decide (xpc k < xpc c)) w).2), .int (nI (xbt (fun k => decide (xpc k ≤ N 6)) (xsf N n) (fun k c => decide (xpc k < xpc c)) w).1), .int (nI w), .int (nI (xsf N n w)), .float 0], [])) (h1 := (xS b, J1, L, xP b)) rfl trivial ?_
                refine xw_if (fun c_85 => ?_) (fun c_85 => ?_)
                · skip
                  refine xw_go xb_158 5 (f1 := (if 1 = 0 then 124 else 119, [.ref 60, .int (nI n), .int (nI t), .int (nI (xbt (fun k => decide (xpc k ≤ N 6)) (xsf N n) (fun k c => decide (xpc k < xpc c)) w).2), .int (nI (xbt (fun k => decide (xpc k ≤ N 6)) (xsf N n) (fun k c => decide (xpc k < xpc c)) w).1), .int (nI w), .int (nI (xsf N n w)), .int 1], [])) (h1 := (xS b, J1, L, xP b)) rfl trivial ?_
                  refine xw_if (fun c_116 => ?_) (fun c_116 => ?_)
                  · skip
                    refine xw_go xb_158 4 (f1 := (if 1 = 0 then 136 else 131, [.ref 60, .int (nI n), .int (nI t), .int (nI (xbt (fun k => decide (xpc k ≤ N 6)) (xsf N n) (fun k c => decide (xpc k < xpc c)) w).2), .int (nI (xbt (fun k => decide (xpc k ≤ N 6)) (xsf N n) (fun k c => decide (xpc k < xpc c)) w).1), .int (nI w), .int (nI (xsf N n w)), .int 1], [])) (h1 := (xS b, J1, L, xP b)) rfl trivial ?_
                    refine xw_if (fun c_128 => ?_) (fun c_128 => ?_)
                    · skip
                      refine xw_go xb_158 4 (f1 := (38, [.ref 60, .int (nI n), .int (nI t), .int (nI (xbt (fun k => decide (xpc k ≤ N 6)) (xsf N n) (fun k c => decide (xpc k < xpc c)) w).2), .int (nI (xbt (fun k => decide (xpc k ≤ N 6)) (xsf N n) (fun k c => decide (xpc k < xpc c)) w).1), .int ((nI w) + 1), .int (nI (xsf N n w)), .int 1], [])) (h1 := (xS b, J1, L, xP b)) rfl trivial ?_
                      refine xw_fg (l0 := [.ref 60, .int (nI n), .int (nI t), .int (nI (xbt (fun k => decide (xpc k ≤ N 6)) (xsf N n) (fun k c => decide (xpc k < xpc c)) w).2), .int (nI (xbt (fun k => decide (xpc k ≤ N 6)) (xsf N n) (fun k c => decide (xpc k < xpc c)) w).1), .int ((nI w) + 1), .float 0, .float 0]) ⟨Or.inr rfl, Or.inr rfl, Or.inr rfl, Or.inr rfl, Or.inr rfl, Or.inr rfl, Or.inl rfl, Or.inl rfl, trivial⟩ ?_
                      first
                        | (exfalso
                           try simp only [xB_dec, Classical.not_not] at c_48 c_63 c_78 c_85 c_116 c_128
                           try simp (disch := omega) only [xt_eq, xt_lt, xt_le, xkt_0, xkt_1, xkt_2, xkt_3, xkt_4, xkt_5, xkt_6, xkt_7, xkt_8, xkt_9, xkt_10, xkt_11, xkt_12, xkt_13, xkt_14, xkt_16, xkt_20, xkt_24, xkt_31, xkt_32, xkt_40, xkt_44, xkt_47, xkt_48, xkt_57, xkt_59, xkt_60, xkt_63, xkt_64, xkt_65, xkt_72, xkt_95, xkt_99, xkt_100, xkt_101, xkt_103, xkt_110, xkt_112, xkt_113, xkt_114, xkt_119, xkt_126, xkt_159, xkt_576, xkt_999, xkt_9999, xkt_65536, xkt_999999, xkt_m1, xkt_m2, xkt_m3, xkt_m4, xkt_m11, xkt_m12, xkt_m13, xkt_m14, xkt_m20, xjt_0, xjt_1, xjt_2, xjt_3, xjt_4, xjt_5, xjt_6, xjt_7, xjt_8, xjt_9, xjt_10, xjt_11, xjt_12, xjt_13, xjt_14, xjt_16, xjt_20, xjt_24, xjt_31, xjt_32, xjt_40, xjt_44, xjt_47, xjt_48, xjt_57, xjt_59, xjt_60, xjt_63, xjt_64, xjt_65, xjt_72, xjt_95, xjt_99, xjt_100, xjt_101, xjt_103, xjt_110, xjt_112, xjt_113, xjt_114, xjt_119, xjt_126, xjt_159, xjt_576, xjt_999, xjt_9999, xjt_65536, xjt_999999, xt64, xt_n, not_true_eq_false, not_false_eq_true, Classical.not_not] at c_48 c_63 c_78 c_85 c_116 c_128
                           all_goals omega)
                        | (have hy : (xbt (fun k => decide (xpc k ≤ N 6)) (xsf N n) (fun k c => decide (xpc k < xpc c)) (w + 1)) = (xbt (fun k => decide (xpc k ≤ N 6)) (xsf N n) (fun k c => decide (xpc k < xpc c)) w) := xbt_n (Or.inr (by
                             rw [decide_eq_false_iff_not]
                             try simp only [xB_dec, Classical.not_not] at c_48 c_63 c_78 c_85 c_116 c_128
                             try simp (disch := omega) only [xt_eq, xt_lt, xt_le, xkt_0, xkt_1, xkt_2, xkt_3, xkt_4, xkt_5, xkt_6, xkt_7, xkt_8, xkt_9, xkt_10, xkt_11, xkt_12, xkt_13, xkt_14, xkt_16, xkt_20, xkt_24, xkt_31, xkt_32, xkt_40, xkt_44, xkt_47, xkt_48, xkt_57, xkt_59, xkt_60, xkt_63, xkt_64, xkt_65, xkt_72, xkt_95, xkt_99, xkt_100, xkt_101, xkt_103, xkt_110, xkt_112, xkt_113, xkt_114, xkt_119, xkt_126, xkt_159, xkt_576, xkt_999, xkt_9999, xkt_65536, xkt_999999, xkt_m1, xkt_m2, xkt_m3, xkt_m4, xkt_m11, xkt_m12, xkt_m13, xkt_m14, xkt_m20, xjt_0, xjt_1, xjt_2, xjt_3, xjt_4, xjt_5, xjt_6, xjt_7, xjt_8, xjt_9, xjt_10, xjt_11, xjt_12, xjt_13, xjt_14, xjt_16, xjt_20, xjt_24, xjt_31, xjt_32, xjt_40, xjt_44, xjt_47, xjt_48, xjt_57, xjt_59, xjt_60, xjt_63, xjt_64, xjt_65, xjt_72, xjt_95, xjt_99, xjt_100, xjt_101, xjt_103, xjt_110, xjt_112, xjt_113, xjt_114, xjt_119, xjt_126, xjt_159, xjt_576, xjt_999, xjt_9999, xjt_65536, xjt_999999, xt64, xt_n, not_true_eq_false, not_false_eq_true, Classical.not_not] at c_48 c_63 c_78 c_85 c_116 c_128
                             all_goals omega))
                           refine xw_cong ?_ rfl rfl (ih _ ⟨by omega, J1, rfl, gm, by rw [gq 68 (by decide) (by decide) (by decide)]; exact j2, by rw [gq 67 (by decide) (by decide) (by decide)]; exact j3, by rw [gq 60 (by decide) (by decide) (by decide)]; exact j4, g5⟩)
                           rw [hy, nI_1])
                    · skip
                      refine xw_go xb_158 5 (f1 := (38, [.ref 60, .int (nI n), .int (nI t), .int (nI (xbt (fun k => decide (xpc k ≤ N 6)) (xsf N n) (fun k c => decide (xpc k < xpc c)) w).2), .int (nI (xsf N n w)), .int ((nI w) + 1), .int (nI (xsf N n w)), .int 1], [])) (h1 := (xS b, J1, L, xP b)) rfl trivial ?_
                      refine xw_fg (l0 := [.ref 60, .int (nI n), .int (nI t), .int (nI (xbt (fun k => decide (xpc k ≤ N 6)) (xsf N n) (fun k c => decide (xpc k < xpc c)) w).2), .int (nI (xsf N n w)), .int ((nI w) + 1), .float 0, .float 0]) ⟨Or.inr rfl, Or.inr rfl, Or.inr rfl, Or.inr rfl, Or.inr rfl, Or.inr rfl, Or.inl rfl, Or.inl rfl, trivial⟩ ?_
                      first
                        | (exfalso
                           try simp only [xB_dec, Classical.not_not] at c_48 c_63 c_78 c_85 c_116 c_128
                           try simp (disch := omega) only [xt_eq, xt_lt, xt_le, xkt_0, xkt_1, xkt_2, xkt_3, xkt_4, xkt_5, xkt_6, xkt_7, xkt_8, xkt_9, xkt_10, xkt_11, xkt_12, xkt_13, xkt_14, xkt_16, xkt_20, xkt_24, xkt_31, xkt_32, xkt_40, xkt_44, xkt_47, xkt_48, xkt_57, xkt_59, xkt_60, xkt_63, xkt_64, xkt_65, xkt_72, xkt_95, xkt_99, xkt_100, xkt_101, xkt_103, xkt_110, xkt_112, xkt_113, xkt_114, xkt_119, xkt_126, xkt_159, xkt_576, xkt_999, xkt_9999, xkt_65536, xkt_999999, xkt_m1, xkt_m2, xkt_m3, xkt_m4, xkt_m11, xkt_m12, xkt_m13, xkt_m14, xkt_m20, xjt_0, xjt_1, xjt_2, xjt_3, xjt_4, xjt_5, xjt_6, xjt_7, xjt_8, xjt_9, xjt_10, xjt_11, xjt_12, xjt_13, xjt_14, xjt_16, xjt_20, xjt_24, xjt_31, xjt_32, xjt_40, xjt_44, xjt_47, xjt_48, xjt_57, xjt_59, xjt_60, xjt_63, xjt_64, xjt_65, xjt_72, xjt_95, xjt_99, xjt_100, xjt_101, xjt_103, xjt_110, xjt_112, xjt_113, xjt_114, xjt_119, xjt_126, xjt_159, xjt_576, xjt_999, xjt_9999, xjt_65536, xjt_999999, xt64, xt_n, not_true_eq_false, not_false_eq_true, Classical.not_not] at c_48 c_63 c_78 c_85 c_116 c_128
                           all_goals omega)
                        | (have hy : (xbt (fun k => decide (xpc k ≤ N 6)) (xsf N n) (fun k c => decide (xpc k < xpc c)) (w + 1)) = (xbt (fun k => decide (xpc k ≤ N 6)) (xsf N n) (fun k c => decide (xpc k < xpc c)) w) := xbt_n (Or.inr (by
                             rw [decide_eq_false_iff_not]
                             try simp only [xB_dec, Classical.not_not] at c_48 c_63 c_78 c_85 c_116 c_128
                             try simp (disch := omega) only [xt_eq, xt_lt, xt_le, xkt_0, xkt_1, xkt_2, xkt_3, xkt_4, xkt_5, xkt_6, xkt_7, xkt_8, xkt_9, xkt_10, xkt_11, xkt_12, xkt_13, xkt_14, xkt_16, xkt_20, xkt_24, xkt_31, xkt_32, xkt_40, xkt_44, xkt_47, xkt_48, xkt_57, xkt_59, xkt_60, xkt_63, xkt_64, xkt_65, xkt_72, xkt_95, xkt_99, xkt_100, xkt_101, xkt_103, xkt_110, xkt_112, xkt_113, xkt_114, xkt_119, xkt_126, xkt_159, xkt_576, xkt_999, xkt_9999, xkt_65536, xkt_999999, xkt_m1, xkt_m2, xkt_m3, xkt_m4, xkt_m11, xkt_m12, xkt_m13, xkt_m14, xkt_m20, xjt_0, xjt_1, xjt_2, xjt_3, xjt_4, xjt_5, xjt_6, xjt_7, xjt_8, xjt_9, xjt_10, xjt_11, xjt_12, xjt_13, xjt_14, xjt_16, xjt_20, xjt_24, xjt_31, xjt_32, xjt_40, xjt_44, xjt_47, xjt_48, xjt_57, xjt_59, xjt_60, xjt_63, xjt_64, xjt_65, xjt_72, xjt_95, xjt_99, xjt_100, xjt_101, xjt_103, xjt_110, xjt_112, xjt_113, xjt_114, xjt_119, xjt_126, xjt_159, xjt_576, xjt_999, xjt_9999, xjt_65536, xjt_999999, xt64, xt_n, not_true_eq_false, not_false_eq_true, Classical.not_not] at c_48 c_63 c_78 c_85 c_116 c_128
                             all_goals omega))
                           refine xw_cong ?_ rfl rfl (ih _ ⟨by omega, J1, rfl, gm, by rw [gq 68 (by decide) (by decide) (by decide)]; exact j2, by rw [gq 67 (by decide) (by decide) (by decide)]; exact j3, by rw [gq 60 (by decide) (by decide) (by decide)]; exact j4, g5⟩)
                           rw [hy, nI_1])
                  · skip
                    refine xw_go xb_158 5 (f1 := (if 1 = 0 then 136 else 131, [.ref 60, .int (nI n), .int (nI t), .int (nI w), .int (nI (xbt (fun k => decide (xpc k ≤ N 6)) (xsf N n) (fun k c => decide (xpc k < xpc c)) w).1), .int (nI w), .int (nI (xsf N n w)), .int 1], [])) (h1 := (xS b, J1, L, xP b)) rfl trivial ?_
                    refine xw_if (fun c_128 => ?_) (fun c_128 => ?_)
                    · skip
                      refine xw_go xb_158 4 (f1 := (38, [.ref 60, .int (nI n), .int (nI t), .int (nI w), .int (nI (xbt (fun k => decide (xpc k ≤ N 6)) (xsf N n) (fun k c => decide (xpc k < xpc c)) w).1), .int ((nI w) + 1), .int (nI (xsf N n w)), .int 1], [])) (h1 := (xS b, J1, L, xP b)) rfl trivial ?_
                      refine xw_fg (l0 := [.ref 60, .int (nI n), .int (nI t), .int (nI w), .int (nI (xbt (fun k => decide (xpc k ≤ N 6)) (xsf N n) (fun k c => decide (xpc k < xpc c)) w).1), .int ((nI w) + 1), .float 0, .float 0]) ⟨Or.inr rfl, Or.inr rfl, Or.inr rfl, Or.inr rfl, Or.inr rfl, Or.inr rfl, Or.inl rfl, Or.inl rfl, trivial⟩ ?_
                      first
                        | (exfalso
                           try simp only [xB_dec, Classical.not_not] at c_48 c_63 c_78 c_85 c_116 c_128
                           try simp (disch := omega) only [xt_eq, xt_lt, xt_le, xkt_0, xkt_1, xkt_2, xkt_3, xkt_4, xkt_5, xkt_6, xkt_7, xkt_8, xkt_9, xkt_10, xkt_11, xkt_12, xkt_13, xkt_14, xkt_16, xkt_20, xkt_24, xkt_31, xkt_32, xkt_40, xkt_44, xkt_47, xkt_48, xkt_57, xkt_59, xkt_60, xkt_63, xkt_64, xkt_65, xkt_72, xkt_95, xkt_99, xkt_100, xkt_101, xkt_103, xkt_110, xkt_112, xkt_113, xkt_114, xkt_119, xkt_126, xkt_159, xkt_576, xkt_999, xkt_9999, xkt_65536, xkt_999999, xkt_m1, xkt_m2, xkt_m3, xkt_m4, xkt_m11, xkt_m12, xkt_m13, xkt_m14, xkt_m20, xjt_0, xjt_1, xjt_2, xjt_3, xjt_4, xjt_5, xjt_6, xjt_7, xjt_8, xjt_9, xjt_10, xjt_11, xjt_12, xjt_13, xjt_14, xjt_16, xjt_20, xjt_24, xjt_31, xjt_32, xjt_40, xjt_44, xjt_47, xjt_48, xjt_57, xjt_59, xjt_60, xjt_63, xjt_64, xjt_65, xjt_72, xjt_95, xjt_99, xjt_100, xjt_101, xjt_103, xjt_110, xjt_112, xjt_113, xjt_114, xjt_119, xjt_126, xjt_159, xjt_576, xjt_999, xjt_9999, xjt_65536, xjt_999999, xt64, xt_n, not_true_eq_false, not_false_eq_true, Classical.not_not] at c_48 c_63 c_78 c_85 c_116 c_128
                           all_goals omega)
                        | (have hy : (xbt (fun k => decide (xpc k ≤ N 6)) (xsf N n) (fun k c => decide (xpc k < xpc c)) (w + 1)) = (xsf N n w, w) := xbt_y (decide_eq_true (by
                             try simp only [xB_dec, Classical.not_not] at c_48 c_63 c_78 c_85 c_116 c_128
                             try simp (disch := omega) only [xt_eq, xt_lt, xt_le, xkt_0, xkt_1, xkt_2, xkt_3, xkt_4, xkt_5, xkt_6, xkt_7, xkt_8, xkt_9, xkt_10, xkt_11, xkt_12, xkt_13, xkt_14, xkt_16, xkt_20, xkt_24, xkt_31, xkt_32, xkt_40, xkt_44, xkt_47, xkt_48, xkt_57, xkt_59, xkt_60, xkt_63, xkt_64, xkt_65, xkt_72, xkt_95, xkt_99, xkt_100, xkt_101, xkt_103, xkt_110, xkt_112, xkt_113, xkt_114, xkt_119, xkt_126, xkt_159, xkt_576, xkt_999, xkt_9999, xkt_65536, xkt_999999, xkt_m1, xkt_m2, xkt_m3, xkt_m4, xkt_m11, xkt_m12, xkt_m13, xkt_m14, xkt_m20, xjt_0, xjt_1, xjt_2, xjt_3, xjt_4, xjt_5, xjt_6, xjt_7, xjt_8, xjt_9, xjt_10, xjt_11, xjt_12, xjt_13, xjt_14, xjt_16, xjt_20, xjt_24, xjt_31, xjt_32, xjt_40, xjt_44, xjt_47, xjt_48, xjt_57, xjt_59, xjt_60, xjt_63, xjt_64, xjt_65, xjt_72, xjt_95, xjt_99, xjt_100, xjt_101, xjt_103, xjt_110, xjt_112, xjt_113, xjt_114, xjt_119, xjt_126, xjt_159, xjt_576, xjt_999, xjt_9999, xjt_65536, xjt_999999, xt64, xt_n, not_true_eq_false, not_false_eq_true, Classical.not_not] at c_48 c_63 c_78 c_85 c_116 c_128
                             all_goals omega)) (by
                             rw [decide_eq_true_eq]
                             try simp only [xB_dec, Classical.not_not] at c_48 c_63 c_78 c_85 c_116 c_128
                             try simp (disch := omega) only [xt_eq, xt_lt, xt_le, xkt_0, xkt_1, xkt_2, xkt_3, xkt_4, xkt_5, xkt_6, xkt_7, xkt_8, xkt_9, xkt_10, xkt_11, xkt_12, xkt_13, xkt_14, xkt_16, xkt_20, xkt_24, xkt_31, xkt_32, xkt_40, xkt_44, xkt_47, xkt_48, xkt_57, xkt_59, xkt_60, xkt_63, xkt_64, xkt_65, xkt_72, xkt_95, xkt_99, xkt_100, xkt_101, xkt_103, xkt_110, xkt_112, xkt_113, xkt_114, xkt_119, xkt_126, xkt_159, xkt_576, xkt_999, xkt_9999, xkt_65536, xkt_999999, xkt_m1, xkt_m2, xkt_m3, xkt_m4, xkt_m11, xkt_m12, xkt_m13, xkt_m14, xkt_m20, xjt_0, xjt_1, xjt_2, xjt_3, xjt_4, xjt_5, xjt_6, xjt_7, xjt_8, xjt_9, xjt_10, xjt_11, xjt_12, xjt_13, xjt_14, xjt_16, xjt_20, xjt_24, xjt_31, xjt_32, xjt_40, xjt_44, xjt_47, xjt_48, xjt_57, xjt_59, xjt_60, xjt_63, xjt_64, xjt_65, xjt_72, xjt_95, xjt_99, xjt_100, xjt_101, xjt_103, xjt_110, xjt_112, xjt_113, xjt_114, xjt_119, xjt_126, xjt_159, xjt_576, xjt_999, xjt_9999, xjt_65536, xjt_999999, xt64, xt_n, not_true_eq_false, not_false_eq_true, Classical.not_not] at c_48 c_63 c_78 c_85 c_116 c_128
                             all_goals omega)
                           refine xw_cong ?_ rfl rfl (ih _ ⟨by omega, J1, rfl, gm, by rw [gq 68 (by decide) (by decide) (by decide)]; exact j2, by rw [gq 67 (by decide) (by decide) (by decide)]; exact j3, by rw [gq 60 (by decide) (by decide) (by decide)]; exact j4, g5⟩)
                           rw [hy, nI_1])
                    · skip
                      refine xw_go xb_158 5 (f1 := (38, [.ref 60, .int (nI n), .int (nI t), .int (nI w), .int (nI (xsf N n w)), .int ((nI w) + 1), .int (nI (xsf N n w)), .int 1], [])) (h1 := (xS b, J1, L, xP b)) rfl trivial ?_
                      refine xw_fg (l0 := [.ref 60, .int (nI n), .int (nI t), .int (nI w), .int (nI (xsf N n w)), .int ((nI w) + 1), .float 0, .float 0]) ⟨Or.inr rfl, Or.inr rfl, Or.inr rfl, Or.inr rfl, Or.inr rfl, Or.inr rfl, Or.inl rfl, Or.inl rfl, trivial⟩ ?_
                      first
                        | (exfalso
                           try simp only [xB_dec, Classical.not_not] at c_48 c_63 c_78 c_85 c_116 c_128
                           try simp (disch := omega) only [xt_eq, xt_lt, xt_le, xkt_0, xkt_1, xkt_2, xkt_3, xkt_4, xkt_5, xkt_6, xkt_7, xkt_8, xkt_9, xkt_10, xkt_11, xkt_12, xkt_13, xkt_14, xkt_16, xkt_20, xkt_24, xkt_31, xkt_32, xkt_40, xkt_44, xkt_47, xkt_48, xkt_57, xkt_59, xkt_60, xkt_63, xkt_64, xkt_65, xkt_72, xkt_95, xkt_99, xkt_100, xkt_101, xkt_103, xkt_110, xkt_112, xkt_113, xkt_114, xkt_119, xkt_126, xkt_159, xkt_576, xkt_999, xkt_9999, xkt_65536, xkt_999999, xkt_m1, xkt_m2, xkt_m3, xkt_m4, xkt_m11, xkt_m12, xkt_m13, xkt_m14, xkt_m20, xjt_0, xjt_1, xjt_2, xjt_3, xjt_4, xjt_5, xjt_6, xjt_7, xjt_8, xjt_9, xjt_10, xjt_11, xjt_12, xjt_13, xjt_14, xjt_16, xjt_20, xjt_24, xjt_31, xjt_32, xjt_40, xjt_44, xjt_47, xjt_48, xjt_57, xjt_59, xjt_60, xjt_63, xjt_64, xjt_65, xjt_72, xjt_95, xjt_99, xjt_100, xjt_101, xjt_103, xjt_110, xjt_112, xjt_113, xjt_114, xjt_119, xjt_126, xjt_159, xjt_576, xjt_999, xjt_9999, xjt_65536, xjt_999999, xt64, xt_n, not_true_eq_false, not_false_eq_true, Classical.not_not] at c_48 c_63 c_78 c_85 c_116 c_128
                           all_goals omega)
                        | (have hy : (xbt (fun k => decide (xpc k ≤ N 6)) (xsf N n) (fun k c => decide (xpc k < xpc c)) (w + 1)) = (xsf N n w, w) := xbt_y (decide_eq_true (by
                             try simp only [xB_dec, Classical.not_not] at c_48 c_63 c_78 c_85 c_116 c_128
                             try simp (disch := omega) only [xt_eq, xt_lt, xt_le, xkt_0, xkt_1, xkt_2, xkt_3, xkt_4, xkt_5, xkt_6, xkt_7, xkt_8, xkt_9, xkt_10, xkt_11, xkt_12, xkt_13, xkt_14, xkt_16, xkt_20, xkt_24, xkt_31, xkt_32, xkt_40, xkt_44, xkt_47, xkt_48, xkt_57, xkt_59, xkt_60, xkt_63, xkt_64, xkt_65, xkt_72, xkt_95, xkt_99, xkt_100, xkt_101, xkt_103, xkt_110, xkt_112, xkt_113, xkt_114, xkt_119, xkt_126, xkt_159, xkt_576, xkt_999, xkt_9999, xkt_65536, xkt_999999, xkt_m1, xkt_m2, xkt_m3, xkt_m4, xkt_m11, xkt_m12, xkt_m13, xkt_m14, xkt_m20, xjt_0, xjt_1, xjt_2, xjt_3, xjt_4, xjt_5, xjt_6, xjt_7, xjt_8, xjt_9, xjt_10, xjt_11, xjt_12, xjt_13, xjt_14, xjt_16, xjt_20, xjt_24, xjt_31, xjt_32, xjt_40, xjt_44, xjt_47, xjt_48, xjt_57, xjt_59, xjt_60, xjt_63, xjt_64, xjt_65, xjt_72, xjt_95, xjt_99, xjt_100, xjt_101, xjt_103, xjt_110, xjt_112, xjt_113, xjt_114, xjt_119, xjt_126, xjt_159, xjt_576, xjt_999, xjt_9999, xjt_65536, xjt_999999, xt64, xt_n, not_true_eq_false, not_false_eq_true, Classical.not_not] at c_48 c_63 c_78 c_85 c_116 c_128
                             all_goals omega)) (by
                             rw [decide_eq_true_eq]
                             try simp only [xB_dec, Classical.not_not] at c_48 c_63 c_78 c_85 c_116 c_128
                             try simp (disch := omega) only [xt_eq, xt_lt, xt_le, xkt_0, xkt_1, xkt_2, xkt_3, xkt_4, xkt_5, xkt_6, xkt_7, xkt_8, xkt_9, xkt_10, xkt_11, xkt_12, xkt_13, xkt_14, xkt_16, xkt_20, xkt_24, xkt_31, xkt_32, xkt_40, xkt_44, xkt_47, xkt_48, xkt_57, xkt_59, xkt_60, xkt_63, xkt_64, xkt_65, xkt_72, xkt_95, xkt_99, xkt_100, xkt_101, xkt_103, xkt_110, xkt_112, xkt_113, xkt_114, xkt_119, xkt_126, xkt_159, xkt_576, xkt_999, xkt_9999, xkt_65536, xkt_999999, xkt_m1, xkt_m2, xkt_m3, xkt_m4, xkt_m11, xkt_m12, xkt_m13, xkt_m14, xkt_m20, xjt_0, xjt_1, xjt_2, xjt_3, xjt_4, xjt_5, xjt_6, xjt_7, xjt_8, xjt_9, xjt_10, xjt_11, xjt_12, xjt_13, xjt_14, xjt_16, xjt_20, xjt_24, xjt_31, xjt_32, xjt_40, xjt_44, xjt_47, xjt_48, xjt_57, xjt_59, xjt_60, xjt_63, xjt_64, xjt_65, xjt_72, xjt_95, xjt_99, xjt_100, xjt_101, xjt_103, xjt_110, xjt_112, xjt_113, xjt_114, xjt_119, xjt_126, xjt_159, xjt_576, xjt_999, xjt_9999, xjt_65536, xjt_999999, xt64, xt_n, not_true_eq_false, not_false_eq_true, Classical.not_not] at c_48 c_63 c_78 c_85 c_116 c_128
                             all_goals omega)
                           refine xw_cong ?_ rfl rfl (ih _ ⟨by omega, J1, rfl, gm, by rw [gq 68 (by decide) (by decide) (by decide)]; exact j2, by rw [gq 67 (by decide) (by decide) (by decide)]; exact j3, by rw [gq 60 (by decide) (by decide) (by decide)]; exact j4, g5⟩)
                           rw [hy, nI_1])
                · skip
                  refine xw_go xb_158 3 (f1 := (if ¬ (nI (xsf N n w)) = (nI (xbt (fun k => decide (xpc k ≤ N 6)) (xsf N n) (fun k c => decide (xpc k < xpc c)) w).1) then 111 else 95, [.ref 60, .int (nI n), .int (nI t), .int (nI (xbt (fun k => decide (xpc k ≤ N 6)) (xsf N n) (fun k c => decide (xpc k < xpc c)) w).2), .int (nI (xbt (fun k => decide (xpc k ≤ N 6)) (xsf N n) (fun k c => decide (xpc k < xpc c)) w).1), .int (nI w), .int (nI (xsf N n w)), .float 0], [])) (h1 := (xS b, J1, L, xP b)) rfl trivial ?_
                  refine xw_if (fun c_92 => ?_) (fun c_92 => ?_)
                  · skip
                    refine xw_go xb_158 4 (f1 := (if 0 = 0 then 124 else 119, [.ref 60, .int (nI n), .int (nI t), .int (nI (xbt (fun k => decide (xpc k ≤ N 6)) (xsf N n) (fun k c => decide (xpc k < xpc c)) w).2), .int (nI (xbt (fun k => decide (xpc k ≤ N 6)) (xsf N n) (fun k c => decide (xpc k < xpc c)) w).1), .int (nI w), .int (nI (xsf N n w)), .int 0], [])) (h1 := (xS b, J1, L, xP b)) rfl trivial ?_
                    refine xw_if (fun c_116 => ?_) (fun c_116 => ?_)
                    · skip
                      refine xw_go xb_158 4 (f1 := (if 0 = 0 then 136 else 131, [.ref 60, .int (nI n), .int (nI t), .int (nI (xbt (fun k => decide (xpc k ≤ N 6)) (xsf N n) (fun k c => decide (xpc k < xpc c)) w).2), .int (nI (xbt (fun k => decide (xpc k ≤ N 6)) (xsf N n) (fun k c => decide (xpc k < xpc c)) w).1), .int (nI w), .int (nI (xsf N n w)), .int 0], [])) (h1 := (xS b, J1, L, xP b)) rfl trivial ?_
                      refine xw_if (fun c_128 => ?_) (fun c_128 => ?_)
                      · skip
                        refine xw_go xb_158 4 (f1 := (38, [.ref 60, .int (nI n), .int (nI t), .int (nI (xbt (fun k => decide (xpc k ≤ N 6)) (xsf N n) (fun k c => decide (xpc k < xpc c)) w).2), .int (nI (xbt (fun k => decide (xpc k ≤ N 6)) (xsf N n) (fun k c => decide (xpc k < xpc c)) w).1), .int ((nI w) + 1), .int (nI (xsf N n w)), .int 0], [])) (h1 := (xS b, J1, L, xP b)) rfl trivial ?_
                        refine xw_fg (l0 := [.ref 60, .int (nI n), .int (nI t), .int (nI (xbt (fun k => decide (xpc k ≤ N 6)) (xsf N n) (fun k c => decide (xpc k < xpc c)) w).2), .int (nI (xbt (fun k => decide (xpc k ≤ N 6)) (xsf N n) (fun k c => decide (xpc k < xpc c)) w).1), .int ((nI w) + 1), .float 0, .float 0]) ⟨Or.inr rfl, Or.inr rfl, Or.inr rfl, Or.inr rfl, Or.inr rfl, Or.inr rfl, Or.inl rfl, Or.inl rfl, trivial⟩ ?_
                        first
                          | (exfalso
                             try simp only [xB_dec, Classical.not_not] at c_48 c_63 c_78 c_85 c_92 c_116 c_128
                             try simp (disch := omega) only [xt_eq, xt_lt, xt_le, xkt_0, xkt_1, xkt_2, xkt_3, xkt_4, xkt_5, xkt_6, xkt_7, xkt_8, xkt_9, xkt_10, xkt_11, xkt_12, xkt_13, xkt_14, xkt_16, xkt_20, xkt_24, xkt_31, xkt_32, xkt_40, xkt_44, xkt_47, xkt_48, xkt_57, xkt_59, xkt_60, xkt_63, xkt_64, xkt_65, xkt_72, xkt_95, xkt_99, xkt_100, xkt_101, xkt_103, xkt_110, xkt_112, xkt_113, xkt_114, xkt_119, xkt_126, xkt_159, xkt_576, xkt_999, xkt_9999, xkt_65536, xkt_999999, xkt_m1, xkt_m2, xkt_m3, xkt_m4, xkt_m11, xkt_m12, xkt_m13, xkt_m14, xkt_m20, xjt_0, xjt_1, xjt_2, xjt_3, xjt_4, xjt_5, xjt_6, xjt_7, xjt_8, xjt_9, xjt_10, xjt_11, xjt_12, xjt_13, xjt_14, xjt_16, xjt_20, xjt_24, xjt_31, xjt_32, xjt_40, xjt_44, xjt_47, xjt_48, xjt_57, xjt_59, xjt_60, xjt_63, xjt_64, xjt_65, xjt_72, xjt_95, xjt_99, xjt_100, xjt_101, xjt_103, xjt_110, xjt_112, xjt_113, xjt_114, xjt_119, xjt_126, xjt_159, xjt_576, xjt_999, xjt_9999, xjt_65536, xjt_999999, xt64, xt_n, not_true_eq_false, not_false_eq_true, Classical.not_not] at c_48 c_63 c_78 c_85 c_92 c_116 c_128
                             all_goals omega)
                          | (have hy : (xbt (fun k => decide (xpc k ≤ N 6)) (xsf N n) (fun k c => decide (xpc k < xpc c)) (w + 1)) = (xbt (fun k => decide (xpc k ≤ N 6)) (xsf N n) (fun k c => decide (xpc k < xpc c)) w) := xbt_n (Or.inr (by
                               rw [decide_eq_false_iff_not]
                               try simp only [xB_dec, Classical.not_not] at c_48 c_63 c_78 c_85 c_92 c_116 c_128
                               try simp (disch := omega) only [xt_eq, xt_lt, xt_le, xkt_0, xkt_1, xkt_2, xkt_3, xkt_4, xkt_5, xkt_6, xkt_7, xkt_8, xkt_9, xkt_10, xkt_11, xkt_12, xkt_13, xkt_14, xkt_16, xkt_20, xkt_24, xkt_31, xkt_32, xkt_40, xkt_44, xkt_47, xkt_48, xkt_57, xkt_59, xkt_60, xkt_63, xkt_64, xkt_65, xkt_72, xkt_95, xkt_99, xkt_100, xkt_101, xkt_103, xkt_110, xkt_112, xkt_113, xkt_114, xkt_119, xkt_126, xkt_159, xkt_576, xkt_999, xkt_9999, xkt_65536, xkt_999999, xkt_m1, xkt_m2, xkt_m3, xkt_m4, xkt_m11, xkt_m12, xkt_m13, xkt_m14, xkt_m20, xjt_0, xjt_1, xjt_2, xjt_3, xjt_4, xjt_5, xjt_6, xjt_7, xjt_8, xjt_9, xjt_10, xjt_11, xjt_12, xjt_13, xjt_14, xjt_16, xjt_20, xjt_24, xjt_31, xjt_32, xjt_40, xjt_44, xjt_47, xjt_48, xjt_57, xjt_59, xjt_60, xjt_63, xjt_64, xjt_65, xjt_72, xjt_95, xjt_99, xjt_100, xjt_101, xjt_103, xjt_110, xjt_112, xjt_113, xjt_114, xjt_119, xjt_126, xjt_159, xjt_576, xjt_999, xjt_9999, xjt_65536, xjt_999999, xt64, xt_n, not_true_eq_false, not_false_eq_true, Classical.not_not] at c_48 c_63 c_78 c_85 c_92 c_116 c_128
                               all_goals omega))
                             refine xw_cong ?_ rfl rfl (ih _ ⟨by omega, J1, rfl, gm, by rw [gq 68 (by decide) (by decide) (by decide)]; exact j2, by rw [gq 67 (by decide) (by decide) (by decide)]; exact j3, by rw [gq 60 (by decide) (by decide) (by decide)]; exact j4, g5⟩)
                             rw [hy, nI_1])
                      · skip
                        refine xw_go xb_158 5 (f1 := (38, [.ref 60, .int (nI n), .int (nI t), .int (nI (xbt (fun k => decide (xpc k ≤ N 6)) (xsf N n) (fun k c => decide (xpc k < xpc c)) w).2), .int (nI (xsf N n w)), .int ((nI w) + 1), .int (nI (xsf N n w)), .int 0], [])) (h1 := (xS b, J1, L, xP b)) rfl trivial ?_
                        refine xw_fg (l0 := [.ref 60, .int (nI n), .int (nI t), .int (nI (xbt (fun k => decide (xpc k ≤ N 6)) (xsf N n) (fun k c => decide (xpc k < xpc c)) w).2), .int (nI (xsf N n w)), .int ((nI w) + 1), .float 0, .float 0]) ⟨Or.inr rfl, Or.inr rfl, Or.inr rfl, Or.inr rfl, Or.inr rfl, Or.inr rfl, Or.inl rfl, Or.inl rfl, trivial⟩ ?_
                        first
                          | (exfalso
                             try simp only [xB_dec, Classical.not_not] at c_48 c_63 c_78 c_85 c_92 c_116 c_128
                             try simp (disch := omega) only [xt_eq, xt_lt, xt_le, xkt_0, xkt_1, xkt_2, xkt_3, xkt_4, xkt_5, xkt_6, xkt_7, xkt_8, xkt_9, xkt_10, xkt_11, xkt_12, xkt_13, xkt_14, xkt_16, xkt_20, xkt_24, xkt_31, xkt_32, xkt_40, xkt_44, xkt_47, xkt_48, xkt_57, xkt_59, xkt_60, xkt_63, xkt_64, xkt_65, xkt_72, xkt_95, xkt_99, xkt_100, xkt_101, xkt_103, xkt_110, xkt_112, xkt_113, xkt_114, xkt_119, xkt_126, xkt_159, xkt_576, xkt_999, xkt_9999, xkt_65536, xkt_999999, xkt_m1, xkt_m2, xkt_m3, xkt_m4, xkt_m11, xkt_m12, xkt_m13, xkt_m14, xkt_m20, xjt_0, xjt_1, xjt_2, xjt_3, xjt_4, xjt_5, xjt_6, xjt_7, xjt_8, xjt_9, xjt_10, xjt_11, xjt_12, xjt_13, xjt_14, xjt_16, xjt_20, xjt_24, xjt_31, xjt_32, xjt_40, xjt_44, xjt_47, xjt_48, xjt_57, xjt_59, xjt_60, xjt_63, xjt_64, xjt_65, xjt_72, xjt_95, xjt_99, xjt_100, xjt_101, xjt_103, xjt_110, xjt_112, xjt_113, xjt_114, xjt_119, xjt_126, xjt_159, xjt_576, xjt_999, xjt_9999, xjt_65536, xjt_999999, xt64, xt_n, not_true_eq_false, not_false_eq_true, Classical.not_not] at c_48 c_63 c_78 c_85 c_92 c_116 c_128
                             all_goals omega)
                          | (have hy : (xbt (fun k => decide (xpc k ≤ N 6)) (xsf N n) (fun k c => decide (xpc k < xpc c)) (w + 1)) = (xbt (fun k => decide (xpc k ≤ N 6)) (xsf N n) (fun k c => decide (xpc k < xpc c)) w) := xbt_n (Or.inr (by
                               rw [decide_eq_false_iff_not]
                               try simp only [xB_dec, Classical.not_not] at c_48 c_63 c_78 c_85 c_92 c_116 c_128
                               try simp (disch := omega) only [xt_eq, xt_lt, xt_le, xkt_0, xkt_1, xkt_2, xkt_3, xkt_4, xkt_5, xkt_6, xkt_7, xkt_8, xkt_9, xkt_10, xkt_11, xkt_12, xkt_13, xkt_14, xkt_16, xkt_20, xkt_24, xkt_31, xkt_32, xkt_40, xkt_44, xkt_47, xkt_48, xkt_57, xkt_59, xkt_60, xkt_63, xkt_64, xkt_65, xkt_72, xkt_95, xkt_99, xkt_100, xkt_101, xkt_103, xkt_110, xkt_112, xkt_113, xkt_114, xkt_119, xkt_126, xkt_159, xkt_576, xkt_999, xkt_9999, xkt_65536, xkt_999999, xkt_m1, xkt_m2, xkt_m3, xkt_m4, xkt_m11, xkt_m12, xkt_m13, xkt_m14, xkt_m20, xjt_0, xjt_1, xjt_2, xjt_3, xjt_4, xjt_5, xjt_6, xjt_7, xjt_8, xjt_9, xjt_10, xjt_11, xjt_12, xjt_13, xjt_14, xjt_16, xjt_20, xjt_24, xjt_31, xjt_32, xjt_40, xjt_44, xjt_47, xjt_48, xjt_57, xjt_59, xjt_60, xjt_63, xjt_64, xjt_65, xjt_72, xjt_95, xjt_99, xjt_100, xjt_101, xjt_103, xjt_110, xjt_112, xjt_113, xjt_114, xjt_119, xjt_126, xjt_159, xjt_576, xjt_999, xjt_9999, xjt_65536, xjt_999999, xt64, xt_n, not_true_eq_false, not_false_eq_true, Classical.not_not] at c_48 c_63 c_78 c_85 c_92 c_116 c_128
                               all_goals omega))
                             refine xw_cong ?_ rfl rfl (ih _ ⟨by omega, J1, rfl, gm, by rw [gq 68 (by decide) (by decide) (by decide)]; exact j2, by rw [gq 67 (by decide) (by decide) (by decide)]; exact j3, by rw [gq 60 (by decide) (by decide) (by decide)]; exact j4, g5⟩)
                             rw [hy, nI_1])
                    · skip
                      refine xw_go xb_158 5 (f1 := (if 0 = 0 then 136 else 131, [.ref 60, .int (nI n), .int (nI t), .int (nI w), .int (nI (xbt (fun k => decide (xpc k ≤ N 6)) (xsf N n) (fun k c => decide (xpc k < xpc c)) w).1), .int (nI w), .int (nI (xsf N n w)), .int 0], [])) (h1 := (xS b, J1, L, xP b)) rfl trivial ?_
                      refine xw_if (fun c_128 => ?_) (fun c_128 => ?_)
                      · skip
                        refine xw_go xb_158 4 (f1 := (38, [.ref 60, .int (nI n), .int (nI t), .int (nI w), .int (nI (xbt (fun k => decide (xpc k ≤ N 6)) (xsf N n) (fun k c => decide (xpc k < xpc c)) w).1), .int ((nI w) + 1), .int (nI (xsf N n w)), .int 0], [])) (h1 := (xS b, J1, L, xP b)) rfl trivial ?_
                        refine xw_fg (l0 := [.ref 60, .int (nI n), .int (nI t), .int (nI w), .int (nI (xbt (fun k => decide (xpc k ≤ N 6)) (xsf N n) (fun k c => decide (xpc k < xpc c)) w).1), .int ((nI w) + 1), .float 0, .float 0]) ⟨Or.inr rfl, Or.inr rfl, Or.inr rfl, Or.inr rfl, Or.inr rfl, Or.inr rfl, Or.inl rfl, Or.inl rfl, trivial⟩ ?_
                        first
                          | (exfalso
                             try simp only [xB_dec, Classical.not_not] at c_48 c_63 c_78 c_85 c_92 c_116 c_128
                             try simp (disch := omega) only [xt_eq, xt_lt, xt_le, xkt_0, xkt_1, xkt_2, xkt_3, xkt_4, xkt_5, xkt_6, xkt_7, xkt_8, xkt_9, xkt_10, xkt_11, xkt_12, xkt_13, xkt_14, xkt_16, xkt_20, xkt_24, xkt_31, xkt_32, xkt_40, xkt_44, xkt_47, xkt_48, xkt_57, xkt_59, xkt_60, xkt_63, xkt_64, xkt_65, xkt_72, xkt_95, xkt_99, xkt_100, xkt_101, xkt_103, xkt_110, xkt_112, xkt_113, xkt_114, xkt_119, xkt_126, xkt_159, xkt_576, xkt_999, xkt_9999, xkt_65536, xkt_999999, xkt_m1, xkt_m2, xkt_m3, xkt_m4, xkt_m11, xkt_m12, xkt_m13, xkt_m14, xkt_m20, xjt_0, xjt_1, xjt_2, xjt_3, xjt_4, xjt_5, xjt_6, xjt_7, xjt_8, xjt_9, xjt_10, xjt_11, xjt_12, xjt_13, xjt_14, xjt_16, xjt_20, xjt_24, xjt_31, xjt_32, xjt_40, xjt_44, xjt_47, xjt_48, xjt_57, xjt_59, xjt_60, xjt_63, xjt_64, xjt_65, xjt_72, xjt_95, xjt_99, xjt_100, xjt_101, xjt_103, xjt_110, xjt_112, xjt_113, xjt_114, xjt_119, xjt_126, xjt_159, xjt_576, xjt_999, xjt_9999, xjt_65536, xjt_999999, xt64, xt_n, not_true_eq_false, not_false_eq_true, Classical.not_not] at c_48 c_63 c_78 c_85 c_92 c_116 c_128
                             all_goals omega)
                          | (have hy : (xbt (fun k => decide (xpc k ≤ N 6)) (xsf N n) (fun k c => decide (xpc k < xpc c)) (w + 1)) = (xsf N n w, w) := xbt_y (decide_eq_true (by
                               try simp only [xB_dec, Classical.not_not] at c_48 c_63 c_78 c_85 c_92 c_116 c_128
                               try simp (disch := omega) only [xt_eq, xt_lt, xt_le, xkt_0, xkt_1, xkt_2, xkt_3, xkt_4, xkt_5, xkt_6, xkt_7, xkt_8, xkt_9, xkt_10, xkt_11, xkt_12, xkt_13, xkt_14, xkt_16, xkt_20, xkt_24, xkt_31, xkt_32, xkt_40, xkt_44, xkt_47, xkt_48, xkt_57, xkt_59, xkt_60, xkt_63, xkt_64, xkt_65, xkt_72, xkt_95, xkt_99, xkt_100, xkt_101, xkt_103, xkt_110, xkt_112, xkt_113, xkt_114, xkt_119, xkt_126, xkt_159, xkt_576, xkt_999, xkt_9999, xkt_65536, xkt_999999, xkt_m1, xkt_m2, xkt_m3, xkt_m4, xkt_m11, xkt_m12, xkt_m13, xkt_m14, xkt_m20, xjt_0, xjt_1, xjt_2, xjt_3, xjt_4, xjt_5, xjt_6, xjt_7, xjt_8, xjt_9, xjt_10, xjt_11, xjt_12, xjt_13, xjt_14, xjt_16, xjt_20, xjt_24, xjt_31, xjt_32, xjt_40, xjt_44, xjt_47, xjt_48, xjt_57, xjt_59, xjt_60, xjt_63, xjt_64, xjt_65, xjt_72, xjt_95, xjt_99, xjt_100, xjt_101, xjt_103, xjt_110, xjt_112, xjt_113, xjt_114, xjt_119, xjt_126, xjt_159, xjt_576, xjt_999, xjt_9999, xjt_65536, xjt_999999, xt64, xt_n, not_true_eq_false, not_false_eq_true, Classical.not_not] at c_48 c_63 c_78 c_85 c_92 c_116 c_128
                               all_goals omega)) (by
                               rw [decide_eq_true_eq]
                               try simp only [xB_dec, Classical.not_not] at c_48 c_63 c_78 c_85 c_92 c_116 c_128
                               try simp (disch := omega) only [xt_eq, xt_lt, xt_le, xkt_0, xkt_1, xkt_2, xkt_3, xkt_4, xkt_5, xkt_6, xkt_7, xkt_8, xkt_9, xkt_10, xkt_11, xkt_12, xkt_13, xkt_14, xkt_16, xkt_20, xkt_24, xkt_31, xkt_32, xkt_40, xkt_44, xkt_47, xkt_48, xkt_57, xkt_59, xkt_60, xkt_63, xkt_64, xkt_65, xkt_72, xkt_95, xkt_99, xkt_100, xkt_101, xkt_103, xkt_110, xkt_112, xkt_113, xkt_114, xkt_119, xkt_126, xkt_159, xkt_576, xkt_999, xkt_9999, xkt_65536, xkt_999999, xkt_m1, xkt_m2, xkt_m3, xkt_m4, xkt_m11, xkt_m12, xkt_m13, xkt_m14, xkt_m20, xjt_0, xjt_1, xjt_2, xjt_3, xjt_4, xjt_5, xjt_6, xjt_7, xjt_8, xjt_9, xjt_10, xjt_11, xjt_12, xjt_13, xjt_14, xjt_16, xjt_20, xjt_24, xjt_31, xjt_32, xjt_40, xjt_44, xjt_47, xjt_48, xjt_57, xjt_59, xjt_60, xjt_63, xjt_64, xjt_65, xjt_72, xjt_95, xjt_99, xjt_100, xjt_101, xjt_103, xjt_110, xjt_112, xjt_113, xjt_114, xjt_119, xjt_126, xjt_159, xjt_576, xjt_999, xjt_9999, xjt_65536, xjt_999999, xt64, xt_n, not_true_eq_false, not_false_eq_true, Classical.not_not] at c_48 c_63 c_78 c_85 c_92 c_116 c_128
                               all_goals omega)
                             refine xw_cong ?_ rfl rfl (ih _ ⟨by omega, J1, rfl, gm, by rw [gq 68 (by decide) (by decide) (by decide)]; exact j2, by rw [gq 67 (by decide) (by decide) (by decide)]; exact j3, by rw [gq 60 (by decide) (by decide) (by decide)]; exact j4, g5⟩)
                             rw [hy, nI_1])
                      · skip
                        refine xw_go xb_158 5 (f1 := (38, [.ref 60, .int (nI n), .int (nI t), .int (nI w), .int (nI (xsf N n w)), .int ((nI w) + 1), .int (nI (xsf N n w)), .int 0], [])) (h1 := (xS b, J1, L, xP b)) rfl trivial ?_
                        refine xw_fg (l0 := [.ref 60, .int (nI n), .int (nI t), .int (nI w), .int (nI (xsf N n w)), .int ((nI w) + 1), .float 0, .float 0]) ⟨Or.inr rfl, Or.inr rfl, Or.inr rfl, Or.inr rfl, Or.inr rfl, Or.inr rfl, Or.inl rfl, Or.inl rfl, trivial⟩ ?_
                        first
                          | (exfalso
                             try simp only [xB_dec, Classical.not_not] at c_48 c_63 c_78 c_85 c_92 c_116 c_128
                             try simp (disch := omega) only [xt_eq, xt_lt, xt_le, xkt_0, xkt_1, xkt_2, xkt_3, xkt_4, xkt_5, xkt_6, xkt_7, xkt_8, xkt_9, xkt_10, xkt_11, xkt_12, xkt_13, xkt_14, xkt_16, xkt_20, xkt_24, xkt_31, xkt_32, xkt_40, xkt_44, xkt_47, xkt_48, xkt_57, xkt_59, xkt_60, xkt_63, xkt_64, xkt_65, xkt_72, xkt_95, xkt_99, xkt_100, xkt_101, xkt_103, xkt_110, xkt_112, xkt_113, xkt_114, xkt_119, xkt_126, xkt_159, xkt_576, xkt_999, xkt_9999, xkt_65536, xkt_999999, xkt_m1, xkt_m2, xkt_m3, xkt_m4, xkt_m11, xkt_m12, xkt_m13, xkt_m14, xkt_m20, xjt_0, xjt_1, xjt_2, xjt_3, xjt_4, xjt_5, xjt_6, xjt_7, xjt_8, xjt_9, xjt_10, xjt_11, xjt_12, xjt_13, xjt_14, xjt_16, xjt_20, xjt_24, xjt_31, xjt_32, xjt_40, xjt_44, xjt_47, xjt_48, xjt_57, xjt_59, xjt_60, xjt_63, xjt_64, xjt_65, xjt_72, xjt_95, xjt_99, xjt_100, xjt_101, xjt_103, xjt_110, xjt_112, xjt_113, xjt_114, xjt_119, xjt_126, xjt_159, xjt_576, xjt_999, xjt_9999, xjt_65536, xjt_999999, xt64, xt_n, not_true_eq_false, not_false_eq_true, Classical.not_not] at c_48 c_63 c_78 c_85 c_92 c_116 c_128
                             all_goals omega)
                          | (have hy : (xbt (fun k => decide (xpc k ≤ N 6)) (xsf N n) (fun k c => decide (xpc k < xpc c)) (w + 1)) = (xsf N n w, w) := xbt_y (decide_eq_true (by
                               try simp only [xB_dec, Classical.not_not] at c_48 c_63 c_78 c_85 c_92 c_116 c_128
                               try simp (disch := omega) only [xt_eq, xt_lt, xt_le, xkt_0, xkt_1, xkt_2, xkt_3, xkt_4, xkt_5, xkt_6, xkt_7, xkt_8, xkt_9, xkt_10, xkt_11, xkt_12, xkt_13, xkt_14, xkt_16, xkt_20, xkt_24, xkt_31, xkt_32, xkt_40, xkt_44, xkt_47, xkt_48, xkt_57, xkt_59, xkt_60, xkt_63, xkt_64, xkt_65, xkt_72, xkt_95, xkt_99, xkt_100, xkt_101, xkt_103, xkt_110, xkt_112, xkt_113, xkt_114, xkt_119, xkt_126, xkt_159, xkt_576, xkt_999, xkt_9999, xkt_65536, xkt_999999, xkt_m1, xkt_m2, xkt_m3, xkt_m4, xkt_m11, xkt_m12, xkt_m13, xkt_m14, xkt_m20, xjt_0, xjt_1, xjt_2, xjt_3, xjt_4, xjt_5, xjt_6, xjt_7, xjt_8, xjt_9, xjt_10, xjt_11, xjt_12, xjt_13, xjt_14, xjt_16, xjt_20, xjt_24, xjt_31, xjt_32, xjt_40, xjt_44, xjt_47, xjt_48, xjt_57, xjt_59, xjt_60, xjt_63, xjt_64, xjt_65, xjt_72, xjt_95, xjt_99, xjt_100, xjt_101, xjt_103, xjt_110, xjt_112, xjt_113, xjt_114, xjt_119, xjt_126, xjt_159, xjt_576, xjt_999, xjt_9999, xjt_65536, xjt_999999, xt64, xt_n, not_true_eq_false, not_false_eq_true, Classical.not_not] at c_48 c_63 c_78 c_85 c_92 c_116 c_128
                               all_goals omega)) (by
                               rw [decide_eq_true_eq]
                               try simp only [xB_dec, Classical.not_not] at c_48 c_63 c_78 c_85 c_92 c_116 c_128
                               try simp (disch := omega) only [xt_eq, xt_lt, xt_le, xkt_0, xkt_1, xkt_2, xkt_3, xkt_4, xkt_5, xkt_6, xkt_7, xkt_8, xkt_9, xkt_10, xkt_11, xkt_12, xkt_13, xkt_14, xkt_16, xkt_20, xkt_24, xkt_31, xkt_32, xkt_40, xkt_44, xkt_47, xkt_48, xkt_57, xkt_59, xkt_60, xkt_63, xkt_64, xkt_65, xkt_72, xkt_95, xkt_99, xkt_100, xkt_101, xkt_103, xkt_110, xkt_112, xkt_113, xkt_114, xkt_119, xkt_126, xkt_159, xkt_576, xkt_999, xkt_9999, xkt_65536, xkt_999999, xkt_m1, xkt_m2, xkt_m3, xkt_m4, xkt_m11, xkt_m12, xkt_m13, xkt_m14, xkt_m20, xjt_0, xjt_1, xjt_2, xjt_3, xjt_4, xjt_5, xjt_6, xjt_7, xjt_8, xjt_9, xjt_10, xjt_11, xjt_12, xjt_13, xjt_14, xjt_16, xjt_20, xjt_24, xjt_31, xjt_32, xjt_40, xjt_44, xjt_47, xjt_48, xjt_57, xjt_59, xjt_60, xjt_63, xjt_64, xjt_65, xjt_72, xjt_95, xjt_99, xjt_100, xjt_101, xjt_103, xjt_110, xjt_112, xjt_113, xjt_114, xjt_119, xjt_126, xjt_159, xjt_576, xjt_999, xjt_9999, xjt_65536, xjt_999999, xt64, xt_n, not_true_eq_false, not_false_eq_true, Classical.not_not] at c_48 c_63 c_78 c_85 c_92 c_116 c_128
                               all_goals omega)
                             refine xw_cong ?_ rfl rfl (ih _ ⟨by omega, J1, rfl, gm, by rw [gq 68 (by decide) (by decide) (by decide)]; exact j2, by rw [gq 67 (by decide) (by decide) (by decide)]; exact j3, by rw [gq 60 (by decide) (by decide) (by decide)]; exact j4, g5⟩)
                             rw [hy, nI_1])
                  · skip
                    refine xw_go xb_158 1 (f1 := (97, [.ref 60, .int (nI n), .int (nI t), .int (nI (xbt (fun k => decide (xpc k ≤ N 6)) (xsf N n) (fun k c => decide (xpc k < xpc c)) w).2), .int (nI (xbt (fun k => decide (xpc k ≤ N 6)) (xsf N n) (fun k c => decide (xpc k < xpc c)) w).1), .int (nI w), .int (nI (xsf N n w)), .float 0], [.int (nI w)])) (h1 := (xS b, J1, L, xP b)) rfl trivial ?_
                    refine xw_call xb_158 rfl rfl rfl rfl rfl (Or.inl rfl) (m_many (v := w) (by omega) rfl) ?_
                    rintro _ _ ⟨rfl, rfl⟩
                    refine xw_at (f' := (100, [.ref 60, .int (nI n), .int (nI t), .int (nI (xbt (fun k => decide (xpc k ≤ N 6)) (xsf N n) (fun k c => decide (xpc k < xpc c)) w).2), .int (nI (xbt (fun k => decide (xpc k ≤ N 6)) (xsf N n) (fun k c => decide (xpc k < xpc c)) w).1), .int (nI w), .int (nI (xsf N n w)), .float 0], [.int (nI (xpc w))])) (h' := (xS b, J1, L, xP b)) rfl rfl ?_
                    refine xw_go xb_158 1 (f1 := (101, [.ref 60, .int (nI n), .int (nI t), .int (nI (xbt (fun k => decide (xpc k ≤ N 6)) (xsf N n) (fun k c => decide (xpc k < xpc c)) w).2), .int (nI (xbt (fun k => decide (xpc k ≤ N 6)) (xsf N n) (fun k c => decide (xpc k < xpc c)) w).1), .int (nI w), .int (nI (xsf N n w)), .float 0], [.int (nI (xbt (fun k => decide (xpc k ≤ N 6)) (xsf N n) (fun k c => decide (xpc k < xpc c)) w).2), .int (nI (xpc w))])) (h1 := (xS b, J1, L, xP b)) rfl trivial ?_
                    refine xw_call xb_158 rfl rfl rfl rfl rfl (Or.inl rfl) (m_many (v := (xbt (fun k => decide (xpc k ≤ N 6)) (xsf N n) (fun k c => decide (xpc k < xpc c)) w).2) (by omega) rfl) ?_
                    rintro _ _ ⟨rfl, rfl⟩
                    refine xw_at (f' := (104, [.ref 60, .int (nI n), .int (nI t), .int (nI (xbt (fun k => decide (xpc k ≤ N 6)) (xsf N n) (fun k c => decide (xpc k < xpc c)) w).2), .int (nI (xbt (fun k => decide (xpc k ≤ N 6)) (xsf N n) (fun k c => decide (xpc k < xpc c)) w).1), .int (nI w), .int (nI (xsf N n w)), .float 0], [.int (nI (xpc (xbt (fun k => decide (xpc k ≤ N 6)) (xsf N n) (fun k c => decide (xpc k < xpc c)) w).2)), .int (nI (xpc w))])) (h' := (xS b, J1, L, xP b)) rfl rfl ?_
                    refine xw_go xb_158 1 (f1 := (if (nI (xpc (xbt (fun k => decide (xpc k ≤ N 6)) (xsf N n) (fun k c => decide (xpc k < xpc c)) w).2)) ≤ (nI (xpc w)) then 111 else 107, [.ref 60, .int (nI n), .int (nI t), .int (nI (xbt (fun k => decide (xpc k ≤ N 6)) (xsf N n) (fun k c => decide (xpc k < xpc c)) w).2), .int (nI (xbt (fun k => decide (xpc k ≤ N 6)) (xsf N n) (fun k c => decide (xpc k < xpc c)) w).1), .int (nI w), .int (nI (xsf N n w)), .float 0], [])) (h1 := (xS b, J1, L, xP b)) rfl trivial ?_
                    refine xw_if (fun c_104 => ?_) (fun c_104 => ?_)
                    · skip
                      refine xw_go xb_158 4 (f1 := (if 0 = 0 then 124 else 119, [.ref 60, .int (nI n), .int (nI t), .int (nI (xbt (fun k => decide (xpc k ≤ N 6)) (xsf N n) (fun k c => decide (xpc k < xpc c)) w).2), .int (nI (xbt (fun k => decide (xpc k ≤ N 6)) (xsf N n) (fun k c => decide (xpc k < xpc c)) w).1), .int (nI w), .int (nI (xsf N n w)), .int 0], [])) (h1 := (xS b, J1, L, xP b)) rfl trivial ?_
                      refine xw_if (fun c_116 => ?_) (fun c_116 => ?_)
                      · skip
                        refine xw_go xb_158 4 (f1 := (if 0 = 0 then 136 else 131, [.ref 60, .int (nI n), .int (nI t), .int (nI (xbt (fun k => decide (xpc k ≤ N 6)) (xsf N n) (fun k c => decide (xpc k < xpc c)) w).2), .int (nI (xbt (fun k => decide (xpc k ≤ N 6)) (xsf N n) (fun k c => decide (xpc k < xpc c)) w).1), .int (nI w), .int (nI (xsf N n w)), .int 0], [])) (h1 := (xS b, J1, L, xP b)) rfl trivial ?_
                        refine xw_if (fun c_128 => ?_) (fun c_128 => ?_)
                        · skip
                          refine xw_go xb_158 4 (f1 := (38, [.ref 60, .int (nI n), .int (nI t), .int (nI (xbt (fun k => decide (xpc k ≤ N 6)) (xsf N n) (fun k c => decide (xpc k < xpc c)) w).2), .int (nI (xbt (fun k => decide (xpc k ≤ N 6)) (xsf N n) (fun k c => decide (xpc k < xpc c)) w).1), .int ((nI w) + 1), .int (nI (xsf N n w)), .int 0], [])) (h1 := (xS b, J1, L, xP b)) rfl trivial ?_
                          refine xw_fg (l0 := [.ref 60, .int (nI n), .int (nI t), .int (nI (xbt (fun k => decide (xpc k ≤ N 6)) (xsf N n) (fun k c => decide (xpc k < xpc c)) w).2), .int (nI (xbt (fun k => decide (xpc k ≤ N 6)) (xsf N n) (fun k c => decide (xpc k < xpc c)) w).1), .int ((nI w) + 1), .float 0, .float 0]) ⟨Or.inr rfl, Or.inr rfl, Or.inr rfl, Or.inr rfl, Or.inr rfl, Or.inr rfl, Or.inl rfl, Or.inl rfl, trivial⟩ ?_
                          first
                            | (exfalso
                               try simp only [xB_dec, Classical.not_not] at c_48 c_63 c_78 c_85 c_92 c_104 c_116 c_128
                               try simp (disch := omega) only [xt_eq, xt_lt, xt_le, xkt_0, xkt_1, xkt_2, xkt_3, xkt_4, xkt_5, xkt_6, xkt_7, xkt_8, xkt_9, xkt_10, xkt_11, xkt_12, xkt_13, xkt_14, xkt_16, xkt_20, xkt_24, xkt_31, xkt_32, xkt_40, xkt_44, xkt_47, xkt_48, xkt_57, xkt_59, xkt_60, xkt_63, xkt_64, xkt_65, xkt_72, xkt_95, xkt_99, xkt_100, xkt_101, xkt_103, xkt_110, xkt_112, xkt_113, xkt_114, xkt_119, xkt_126, xkt_159, xkt_576, xkt_999, xkt_9999, xkt_65536, xkt_999999, xkt_m1, xkt_m2, xkt_m3, xkt_m4, xkt_m11, xkt_m12, xkt_m13, xkt_m14, xkt_m20, xjt_0, xjt_1, xjt_2, xjt_3, xjt_4, xjt_5, xjt_6, xjt_7, xjt_8, xjt_9, xjt_10, xjt_11, xjt_12, xjt_13, xjt_14, xjt_16, xjt_20, xjt_24, xjt_31, xjt_32, xjt_40, xjt_44, xjt_47, xjt_48, xjt_57, xjt_59, xjt_60, xjt_63, xjt_64, xjt_65, xjt_72, xjt_95, xjt_99, xjt_100, xjt_101, xjt_103, xjt_110, xjt_112, xjt_113, xjt_114, xjt_119, xjt_126, xjt_159, xjt_576, xjt_999, xjt_9999, xjt_65536, xjt_999999, xt64, xt_n, not_true_eq_false, not_false_eq_true, Classical.not_not] at c_48 c_63 c_78 c_85 c_92 c_104 c_116 c_128
                               all_goals omega)
                            | (have hy : (xbt (fun k => decide (xpc k ≤ N 6)) (xsf N n) (fun k c => decide (xpc k < xpc c)) (w + 1)) = (xbt (fun k => decide (xpc k ≤ N 6)) (xsf N n) (fun k c => decide (xpc k < xpc c)) w) := xbt_n (Or.inr (by
                                 rw [decide_eq_false_iff_not]
                                 try simp only [xB_dec, Classical.not_not] at c_48 c_63 c_78 c_85 c_92 c_104 c_116 c_128
                                 try simp (disch := omega) only [xt_eq, xt_lt, xt_le, xkt_0, xkt_1, xkt_2, xkt_3, xkt_4, xkt_5, xkt_6, xkt_7, xkt_8, xkt_9, xkt_10, xkt_11, xkt_12, xkt_13, xkt_14, xkt_16, xkt_20, xkt_24, xkt_31, xkt_32, xkt_40, xkt_44, xkt_47, xkt_48, xkt_57, xkt_59, xkt_60, xkt_63, xkt_64, xkt_65, xkt_72, xkt_95, xkt_99, xkt_100, xkt_101, xkt_103, xkt_110, xkt_112, xkt_113, xkt_114, xkt_119, xkt_126, xkt_159, xkt_576, xkt_999, xkt_9999, xkt_65536, xkt_999999, xkt_m1, xkt_m2, xkt_m3, xkt_m4, xkt_m11, xkt_m12, xkt_m13, xkt_m14, xkt_m20, xjt_0, xjt_1, xjt_2, xjt_3, xjt_4, xjt_5, xjt_6, xjt_7, xjt_8, xjt_9, xjt_10, xjt_11, xjt_12, xjt_13, xjt_14, xjt_16, xjt_20, xjt_24, xjt_31, xjt_32, xjt_40, xjt_44, xjt_47, xjt_48, xjt_57, xjt_59, xjt_60, xjt_63, xjt_64, xjt_65, xjt_72, xjt_95, xjt_99, xjt_100, xjt_101, xjt_103, xjt_110, xjt_112, xjt_113, xjt_114, xjt_119, xjt_126, xjt_159, xjt_576, xjt_999, xjt_9999, xjt_65536, xjt_999999, xt64, xt_n, not_true_eq_false, not_false_eq_true, Classical.not_not] at c_48 c_63 c_78 c_85 c_92 c_104 c_116 c_128
                                 all_goals omega))
                               refine xw_cong ?_ rfl rfl (ih _ ⟨by omega, J1, rfl, gm, by rw [gq 68 (by decide) (by decide) (by decide)]; exact j2, by rw [gq 67 (by decide) (by decide) (by decide)]; exact j3, by rw [gq 60 (by decide) (by decide) (by decide)]; exact j4, g5⟩)
                               rw [hy, nI_1])
                        · skip
                          refine xw_go xb_158 5 (f1 := (38, [.ref 60, .int (nI n), .int (nI t), .int (nI (xbt (fun k => decide (xpc k ≤ N 6)) (xsf N n) (fun k c => decide (xpc k < xpc c)) w).2), .int (nI (xsf N n w)), .int ((nI w) + 1), .int (nI (xsf N n w)), .int 0], [])) (h1 := (xS b, J1, L, xP b)) rfl trivial ?_
                          refine xw_fg (l0 := [.ref 60, .int (nI n), .int (nI t), .int (nI (xbt (fun k => decide (xpc k ≤ N 6)) (xsf N n) (fun k c => decide (xpc k < xpc c)) w).2), .int (nI (xsf N n w)), .int ((nI w) + 1), .float 0, .float 0]) ⟨Or.inr rfl, Or.inr rfl, Or.inr rfl, Or.inr rfl, Or.inr rfl, Or.inr rfl, Or.inl rfl, Or.inl rfl, trivial⟩ ?_
                          first
                            | (exfalso
                               try simp only [xB_dec, Classical.not_not] at c_48 c_63 c_78 c_85 c_92 c_104 c_116 c_128
                               try simp (disch := omega) only [xt_eq, xt_lt, xt_le, xkt_0, xkt_1, xkt_2, xkt_3, xkt_4, xkt_5, xkt_6, xkt_7, xkt_8, xkt_9, xkt_10, xkt_11, xkt_12, xkt_13, xkt_14, xkt_16, xkt_20, xkt_24, xkt_31, xkt_32, xkt_40, xkt_44, xkt_47, xkt_48, xkt_57, xkt_59, xkt_60, xkt_63, xkt_64, xkt_65, xkt_72, xkt_95, xkt_99, xkt_100, xkt_101, xkt_103, xkt_110, xkt_112, xkt_113, xkt_114, xkt_119, xkt_126, xkt_159, xkt_576, xkt_999, xkt_9999, xkt_65536, xkt_999999, xkt_m1, xkt_m2, xkt_m3, xkt_m4, xkt_m11, xkt_m12, xkt_m13, xkt_m14, xkt_m20, xjt_0, xjt_1, xjt_2, xjt_3, xjt_4, xjt_5, xjt_6, xjt_7, xjt_8, xjt_9, xjt_10, xjt_11, xjt_12, xjt_13, xjt_14, xjt_16, xjt_20, xjt_24, xjt_31, xjt_32, xjt_40, xjt_44, xjt_47, xjt_48, xjt_57, xjt_59, xjt_60, xjt_63, xjt_64, xjt_65, xjt_72, xjt_95, xjt_99, xjt_100, xjt_101, xjt_103, xjt_110, xjt_112, xjt_113, xjt_114, xjt_119, xjt_126, xjt_159, xjt_576, xjt_999, xjt_9999, xjt_65536, xjt_999999, xt64, xt_n, not_true_eq_false, not_false_eq_true, Classical.not_not] at c_48 c_63 c_78 c_85 c_92 c_104 c_116 c_128
                               all_goals omega)
                            | (have hy : (xbt (fun k => decide (xpc k ≤ N 6)) (xsf N n) (fun k c => decide (xpc k < xpc c)) (w + 1)) = (xbt (fun k => decide (xpc k ≤ N 6)) (xsf N n) (fun k c => decide (xpc k < xpc c)) w) := xbt_n (Or.inr (by
                                 rw [decide_eq_false_iff_not]
                                 try simp only [xB_dec, Classical.not_not] at c_48 c_63 c_78 c_85 c_92 c_104 c_116 c_128
                                 try simp (disch := omega) only [xt_eq, xt_lt, xt_le, xkt_0, xkt_1, xkt_2, xkt_3, xkt_4, xkt_5, xkt_6, xkt_7, xkt_8, xkt_9, xkt_10, xkt_11, xkt_12, xkt_13, xkt_14, xkt_16, xkt_20, xkt_24, xkt_31, xkt_32, xkt_40, xkt_44, xkt_47, xkt_48, xkt_57, xkt_59, xkt_60, xkt_63, xkt_64, xkt_65, xkt_72, xkt_95, xkt_99, xkt_100, xkt_101, xkt_103, xkt_110, xkt_112, xkt_113, xkt_114, xkt_119, xkt_126, xkt_159, xkt_576, xkt_999, xkt_9999, xkt_65536, xkt_999999, xkt_m1, xkt_m2, xkt_m3, xkt_m4, xkt_m11, xkt_m12, xkt_m13, xkt_m14, xkt_m20, xjt_0, xjt_1, xjt_2, xjt_3, xjt_4, xjt_5, xjt_6, xjt_7, xjt_8, xjt_9, xjt_10, xjt_11, xjt_12, xjt_13, xjt_14, xjt_16, xjt_20, xjt_24, xjt_31, xjt_32, xjt_40, xjt_44, xjt_47, xjt_48, xjt_57, xjt_59, xjt_60, xjt_63, xjt_64, xjt_65, xjt_72, xjt_95, xjt_99, xjt_100, xjt_101, xjt_103, xjt_110, xjt_112, xjt_113, xjt_114, xjt_119, xjt_126, xjt_159, xjt_576, xjt_999, xjt_9999, xjt_65536, xjt_999999, xt64, xt_n, not_true_eq_false, not_false_eq_true, Classical.not_not] at c_48 c_63 c_78 c_85 c_92 c_104 c_116 c_128
                                 all_goals omega))
                               refine xw_cong ?_ rfl rfl (ih _ ⟨by omega, J1, rfl, gm, by rw [gq 68 (by decide) (by decide) (by decide)]; exact j2, by rw [gq 67 (by decide) (by decide) (by decide)]; exact j3, by rw [gq 60 (by decide) (by decide) (by decide)]; exact j4, g5⟩)
                               rw [hy, nI_1])
                      · skip
                        refine xw_go xb_158 5 (f1 := (if 0 = 0 then 136 else 131, [.ref 60, .int (nI n), .int (nI t), .int (nI w), .int (nI (xbt (fun k => decide (xpc k ≤ N 6)) (xsf N n) (fun k c => decide (xpc k < xpc c)) w).1), .int (nI w), .int (nI (xsf N n w)), .int 0], [])) (h1 := (xS b, J1, L, xP b)) rfl trivial ?_
                        refine xw_if (fun c_128 => ?_) (fun c_128 => ?_)
                        · skip
                          refine xw_go xb_158 4 (f1 := (38, [.ref 60, .int (nI n), .int (nI t), .int (nI w), .int (nI (xbt (fun k => decide (xpc k ≤ N 6)) (xsf N n) (fun k c => decide (xpc k < xpc c)) w).1), .int ((nI w) + 1), .int (nI (xsf N n w)), .int 0], [])) (h1 := (xS b, J1, L, xP b)) rfl trivial ?_
                          refine xw_fg (l0 := [.ref 60, .int (nI n), .int (nI t), .int (nI w), .int (nI (xbt (fun k => decide (xpc k ≤ N 6)) (xsf N n) (fun k c => decide (xpc k < xpc c)) w).1), .int ((nI w) + 1), .float 0, .float 0]) ⟨Or.inr rfl, Or.inr rfl, Or.inr rfl, Or.inr rfl, Or.inr rfl, Or.inr rfl, Or.inl rfl, Or.inl rfl, trivial⟩ ?_
                          first
                            | (exfalso
                               try simp only [xB_dec, Classical.not_not] at c_48 c_63 c_78 c_85 c_92 c_104 c_116 c_128
                               try simp (disch := omega) only [xt_eq, xt_lt, xt_le, xkt_0, xkt_1, xkt_2, xkt_3, xkt_4, xkt_5, xkt_6, xkt_7, xkt_8, xkt_9, xkt_10, xkt_11, xkt_12, xkt_13, xkt_14, xkt_16, xkt_20, xkt_24, xkt_31, xkt_32, xkt_40, xkt_44, xkt_47, xkt_48, xkt_57, xkt_59, xkt_60, xkt_63, xkt_64, xkt_65, xkt_72, xkt_95, xkt_99, xkt_100, xkt_101, xkt_103, xkt_110, xkt_112, xkt_113, xkt_114, xkt_119, xkt_126, xkt_159, xkt_576, xkt_999, xkt_9999, xkt_65536, xkt_999999, xkt_m1, xkt_m2, xkt_m3, xkt_m4, xkt_m11, xkt_m12, xkt_m13, xkt_m14, xkt_m20, xjt_0, xjt_1, xjt_2, xjt_3, xjt_4, xjt_5, xjt_6, xjt_7, xjt_8, xjt_9, xjt_10, xjt_11, xjt_12, xjt_13, xjt_14, xjt_16, xjt_20, xjt_24, xjt_31, xjt_32, xjt_40, xjt_44, xjt_47, xjt_48, xjt_57, xjt_59, xjt_60, xjt_63, xjt_64, xjt_65, xjt_72, xjt_95, xjt_99, xjt_100, xjt_101, xjt_103, xjt_110, xjt_112, xjt_113, xjt_114, xjt_119, xjt_126, xjt_159, xjt_576, xjt_999, xjt_9999, xjt_65536, xjt_999999, xt64, xt_n, not_true_eq_false, not_false_eq_true, Classical.not_not] at c_48 c_63 c_78 c_85 c_92 c_104 c_116 c_128
                               all_goals omega)
                            | (have hy : (xbt (fun k => decide (xpc k ≤ N 6)) (xsf N n) (fun k c => decide (xpc k < xpc c)) (w + 1)) = (xsf N n w, w) := xbt_y (decide_eq_true (by
                                 try simp only [xB_dec, Classical.not_not] at c_48 c_63 c_78 c_85 c_92 c_104 c_116 c_128
                                 try simp (disch := omega) only [xt_eq, xt_lt, xt_le, xkt_0, xkt_1, xkt_2, xkt_3, xkt_4, xkt_5, xkt_6, xkt_7, xkt_8, xkt_9, xkt_10, xkt_11, xkt_12, xkt_13, xkt_14, xkt_16, xkt_20, xkt_24, xkt_31, xkt_32, xkt_40, xkt_44, xkt_47, xkt_48, xkt_57, xkt_59, xkt_60, xkt_63, xkt_64, xkt_65, xkt_72, xkt_95, xkt_99, xkt_100, xkt_101, xkt_103, xkt_110, xkt_112, xkt_113, xkt_114, xkt_119, xkt_126, xkt_159, xkt_576, xkt_999, xkt_9999, xkt_65536, xkt_999999, xkt_m1, xkt_m2, xkt_m3, xkt_m4, xkt_m11, xkt_m12, xkt_m13, xkt_m14, xkt_m20, xjt_0, xjt_1, xjt_2, xjt_3, xjt_4, xjt_5, xjt_6, xjt_7, xjt_8, xjt_9, xjt_10, xjt_11, xjt_12, xjt_13, xjt_14, xjt_16, xjt_20, xjt_24, xjt_31, xjt_32, xjt_40, xjt_44, xjt_47, xjt_48, xjt_57, xjt_59, xjt_60, xjt_63, xjt_64, xjt_65, xjt_72, xjt_95, xjt_99, xjt_100, xjt_101, xjt_103, xjt_110, xjt_112, xjt_113, xjt_114, xjt_119, xjt_126, xjt_159, xjt_576, xjt_999, xjt_9999, xjt_65536, xjt_999999, xt64, xt_n, not_true_eq_false, not_false_eq_true, Classical.not_not] at c_48 c_63 c_78 c_85 c_92 c_104 c_116 c_128
                                 all_goals omega)) (by
                                 rw [decide_eq_true_eq]
                                 try simp only [xB_dec, Classical.not_not] at c_48 c_63 c_78 c_85 c_92 c_104 c_116 c_128
                                 try simp (disch := omega) only [xt_eq, xt_lt, xt_le, xkt_0, xkt_1, xkt_2, xkt_3, xkt_4, xkt_5, xkt_6, xkt_7, xkt_8, xkt_9, xkt_10, xkt_11, xkt_12, xkt_13, xkt_14, xkt_16, xkt_20, xkt_24, xkt_31, xkt_32, xkt_40, xkt_44, xkt_47, xkt_48, xkt_57, xkt_59, xkt_60, xkt_63, xkt_64, xkt_65, xkt_72, xkt_95, xkt_99, xkt_100, xkt_101, xkt_103, xkt_110, xkt_112, xkt_113, xkt_114, xkt_119, xkt_126, xkt_159, xkt_576, xkt_999, xkt_9999, xkt_65536, xkt_999999, xkt_m1, xkt_m2, xkt_m3, xkt_m4, xkt_m11, xkt_m12, xkt_m13, xkt_m14, xkt_m20, xjt_0, xjt_1, xjt_2, xjt_3, xjt_4, xjt_5, xjt_6, xjt_7, xjt_8, xjt_9, xjt_10, xjt_11, xjt_12, xjt_13, xjt_14, xjt_16, xjt_20, xjt_24, xjt_31, xjt_32, xjt_40, xjt_44, xjt_47, xjt_48, xjt_57, xjt_59, xjt_60, xjt_63, xjt_64, xjt_65, xjt_72, xjt_95, xjt_99, xjt_100, xjt_101, xjt_103, xjt_110, xjt_112, xjt_113, xjt_114, xjt_119, xjt_126, xjt_159, xjt_576, xjt_999, xjt_9999, xjt_65536, xjt_999999, xt64, xt_n, not_true_eq_false, not_false_eq_true, Classical.not_not] at c_48 c_63 c_78 c_85 c_92 c_104 c_116 c_128
                                 all_goals omega)
                               refine xw_cong ?_ rfl rfl (ih _ ⟨by omega, J1, rfl, gm, by rw [gq 68 (by decide) (by decide) (by decide)]; exact j2, by rw [gq 67 (by decide) (by decide) (by decide)]; exact j3, by rw [gq 60 (by decide) (by decide) (by decide)]; exact j4, g5⟩)
                               rw [hy, nI_1])
                        · skip
                          refine xw_go xb_158 5 (f1 := (38, [.ref 60, .int (nI n), .int (nI t), .int (nI w), .int (nI (xsf N n w)), .int ((nI w) + 1), .int (nI (xsf N n w)), .int 0], [])) (h1 := (xS b, J1, L, xP b)) rfl trivial ?_
                          refine xw_fg (l0 := [.ref 60, .int (nI n), .int (nI t), .int (nI w), .int (nI (xsf N n w)), .int ((nI w) + 1), .float 0, .float 0]) ⟨Or.inr rfl, Or.inr rfl, Or.inr rfl, Or.inr rfl, Or.inr rfl, Or.inr rfl, Or.inl rfl, Or.inl rfl, trivial⟩ ?_
                          first
                            | (exfalso
                               try simp only [xB_dec, Classical.not_not] at c_48 c_63 c_78 c_85 c_92 c_104 c_116 c_128
                               try simp (disch := omega) only [xt_eq, xt_lt, xt_le, xkt_0, xkt_1, xkt_2, xkt_3, xkt_4, xkt_5, xkt_6, xkt_7, xkt_8, xkt_9, xkt_10, xkt_11, xkt_12, xkt_13, xkt_14, xkt_16, xkt_20, xkt_24, xkt_31, xkt_32, xkt_40, xkt_44, xkt_47, xkt_48, xkt_57, xkt_59, xkt_60, xkt_63, xkt_64, xkt_65, xkt_72, xkt_95, xkt_99, xkt_100, xkt_101, xkt_103, xkt_110, xkt_112, xkt_113, xkt_114, xkt_119, xkt_126, xkt_159, xkt_576, xkt_999, xkt_9999, xkt_65536, xkt_999999, xkt_m1, xkt_m2, xkt_m3, xkt_m4, xkt_m11, xkt_m12, xkt_m13, xkt_m14, xkt_m20, xjt_0, xjt_1, xjt_2, xjt_3, xjt_4, xjt_5, xjt_6, xjt_7, xjt_8, xjt_9, xjt_10, xjt_11, xjt_12, xjt_13, xjt_14, xjt_16, xjt_20, xjt_24, xjt_31, xjt_32, xjt_40, xjt_44, xjt_47, xjt_48, xjt_57, xjt_59, xjt_60, xjt_63, xjt_64, xjt_65, xjt_72, xjt_95, xjt_99, xjt_100, xjt_101, xjt_103, xjt_110, xjt_112, xjt_113, xjt_114, xjt_119, xjt_126, xjt_159, xjt_576, xjt_999, xjt_9999, xjt_65536, xjt_999999, xt64, xt_n, not_true_eq_false, not_false_eq_true, Classical.not_not] at c_48 c_63 c_78 c_85 c_92 c_104 c_116 c_128
                               all_goals omega)
                            | (have hy : (xbt (fun k => decide (xpc k ≤ N 6)) (xsf N n) (fun k c => decide (xpc k < xpc c)) (w + 1)) = (xsf N n w, w) := xbt_y (decide_eq_true (by
                                 try simp only [xB_dec, Classical.not_not] at c_48 c_63 c_78 c_85 c_92 c_104 c_116 c_128
                                 try simp (disch := omega) only [xt_eq, xt_lt, xt_le, xkt_0, xkt_1, xkt_2, xkt_3, xkt_4, xkt_5, xkt_6, xkt_7, xkt_8, xkt_9, xkt_10, xkt_11, xkt_12, xkt_13, xkt_14, xkt_16, xkt_20, xkt_24, xkt_31, xkt_32, xkt_40, xkt_44, xkt_47, xkt_48, xkt_57, xkt_59, xkt_60, xkt_63, xkt_64, xkt_65, xkt_72, xkt_95, xkt_99, xkt_100, xkt_101, xkt_103, xkt_110, xkt_112, xkt_113, xkt_114, xkt_119, xkt_126, xkt_159, xkt_576, xkt_999, xkt_9999, xkt_65536, xkt_999999, xkt_m1, xkt_m2, xkt_m3, xkt_m4, xkt_m11, xkt_m12, xkt_m13, xkt_m14, xkt_m20, xjt_0, xjt_1, xjt_2, xjt_3, xjt_4, xjt_5, xjt_6, xjt_7, xjt_8, xjt_9, xjt_10, xjt_11, xjt_12, xjt_13, xjt_14, xjt_16, xjt_20, xjt_24, xjt_31, xjt_32, xjt_40, xjt_44, xjt_47, xjt_48, xjt_57, xjt_59, xjt_60, xjt_63, xjt_64, xjt_65, xjt_72, xjt_95, xjt_99, xjt_100, xjt_101, xjt_103, xjt_110, xjt_112, xjt_113, xjt_114, xjt_119, xjt_126, xjt_159, xjt_576, xjt_999, xjt_9999, xjt_65536, xjt_999999, xt64, xt_n, not_true_eq_false, not_false_eq_true, Classical.not_not] at c_48 c_63 c_78 c_85 c_92 c_104 c_116 c_128
                                 all_goals omega)) (by
                                 rw [decide_eq_true_eq]
                                 try simp only [xB_dec, Classical.not_not] at c_48 c_63 c_78 c_85 c_92 c_104 c_116 c_128
                                 try simp (disch := omega) only [xt_eq, xt_lt, xt_le, xkt_0, xkt_1, xkt_2, xkt_3, xkt_4, xkt_5, xkt_6, xkt_7, xkt_8, xkt_9, xkt_10, xkt_11, xkt_12, xkt_13, xkt_14, xkt_16, xkt_20, xkt_24, xkt_31, xkt_32, xkt_40, xkt_44, xkt_47, xkt_48, xkt_57, xkt_59, xkt_60, xkt_63, xkt_64, xkt_65, xkt_72, xkt_95, xkt_99, xkt_100, xkt_101, xkt_103, xkt_110, xkt_112, xkt_113, xkt_114, xkt_119, xkt_126, xkt_159, xkt_576, xkt_999, xkt_9999, xkt_65536, xkt_999999, xkt_m1, xkt_m2, xkt_m3, xkt_m4, xkt_m11, xkt_m12, xkt_m13, xkt_m14, xkt_m20, xjt_0, xjt_1, xjt_2, xjt_3, xjt_4, xjt_5, xjt_6, xjt_7, xjt_8, xjt_9, xjt_10, xjt_11, xjt_12, xjt_13, xjt_14, xjt_16, xjt_20, xjt_24, xjt_31, xjt_32, xjt_40, xjt_44, xjt_47, xjt_48, xjt_57, xjt_59, xjt_60, xjt_63, xjt_64, xjt_65, xjt_72, xjt_95, xjt_99, xjt_100, xjt_101, xjt_103, xjt_110, xjt_112, xjt_113, xjt_114, xjt_119, xjt_126, xjt_159, xjt_576, xjt_999, xjt_9999, xjt_65536, xjt_999999, xt64, xt_n, not_true_eq_false, not_false_eq_true, Classical.not_not] at c_48 c_63 c_78 c_85 c_92 c_104 c_116 c_128
                                 all_goals omega)
                               refine xw_cong ?_ rfl rfl (ih _ ⟨by omega, J1, rfl, gm, by rw [gq 68 (by decide) (by decide) (by decide)]; exact j2, by rw [gq 67 (by decide) (by decide) (by decide)]; exact j3, by rw [gq 60 (by decide) (by decide) (by decide)]; exact j4, g5⟩)
                               rw [hy, nI_1])
                    · skip
                      refine xw_go xb_158 5 (f1 := (if 1 = 0 then 124 else 119, [.ref 60, .int (nI n), .int (nI t), .int (nI (xbt (fun k => decide (xpc k ≤ N 6)) (xsf N n) (fun k c => decide (xpc k < xpc c)) w).2), .int (nI (xbt (fun k => decide (xpc k ≤ N 6)) (xsf N n) (fun k c => decide (xpc k < xpc c)) w).1), .int (nI w), .int (nI (xsf N n w)), .int 1], [])) (h1 := (xS b, J1, L, xP b)) rfl trivial ?_
                      refine xw_if (fun c_116 => ?_) (fun c_116 => ?_)
                      · skip
                        refine xw_go xb_158 4 (f1 := (if 1 = 0 then 136 else 131, [.ref 60, .int (nI n), .int (nI t), .int (nI (xbt (fun k => decide (xpc k ≤ N 6)) (xsf N n) (fun k c => decide (xpc k < xpc c)) w).2), .int (nI (xbt (fun k => decide (xpc k ≤ N 6)) (xsf N n) (fun k c => decide (xpc k < xpc c)) w).1), .int (nI w), .int (nI (xsf N n w)), .int 1], [])) (h1 := (xS b, J1, L, xP b)) rfl trivial ?_
                        refine xw_if (fun c_128 => ?_) (fun c_128 => ?_)
                        · skip
                          refine xw_go xb_158 4 (f1 := (38, [.ref 60, .int (nI n), .int (nI t), .int (nI (xbt (fun k => decide (xpc k ≤ N 6)) (xsf N n) (fun k c => decide (xpc k < xpc c)) w).2), .int (nI (xbt (fun k => decide (xpc k ≤ N 6)) (xsf N n) (fun k c => decide (xpc k < xpc c)) w).1), .int ((nI w) + 1), .int (nI (xsf N n w)), .int 1], [])) (h1 := (xS b, J1, L, xP b)) rfl trivial ?_
                          refine xw_fg (l0 := [.ref 60, .int (nI n), .int (nI t), .int (nI (xbt (fun k => decide (xpc k ≤ N 6)) (xsf N n) (fun k c => decide (xpc k < xpc c)) w).2), .int (nI (xbt (fun k => decide (xpc k ≤ N 6)) (xsf N n) (fun k c => decide (xpc k < xpc c)) w).1), .int ((nI w) + 1), .float 0, .float 0]) ⟨Or.inr rfl, Or.inr rfl, Or.inr rfl, Or.inr rfl, Or.inr rfl, Or.inr rfl, Or.inl rfl, Or.inl rfl, trivial⟩ ?_
                          first
                            | (exfalso
                               try simp only [xB_dec, Classical.not_not] at c_48 c_63 c_78 c_85 c_92 c_104 c_116 c_128
                               try simp (disch := omega) only [xt_eq, xt_lt, xt_le, xkt_0, xkt_1, xkt_2, xkt_3, xkt_4, xkt_5, xkt_6, xkt_7, xkt_8, xkt_9, xkt_10, xkt_11, xkt_12, xkt_13, xkt_14, xkt_16, xkt_20, xkt_24, xkt_31, xkt_32, xkt_40, xkt_44, xkt_47, xkt_48, xkt_57, xkt_59, xkt_60, xkt_63, xkt_64, xkt_65, xkt_72, xkt_95, xkt_99, xkt_100, xkt_101, xkt_103, xkt_110, xkt_112, xkt_113, xkt_114, xkt_119, xkt_126, xkt_159, xkt_576, xkt_999, xkt_9999, xkt_65536, xkt_999999, xkt_m1, xkt_m2, xkt_m3, xkt_m4, xkt_m11, xkt_m12, xkt_m13, xkt_m14, xkt_m20, xjt_0, xjt_1, xjt_2, xjt_3, xjt_4, xjt_5, xjt_6, xjt_7, xjt_8, xjt_9, xjt_10, xjt_11, xjt_12, xjt_13, xjt_14, xjt_16, xjt_20, xjt_24, xjt_31, xjt_32, xjt_40, xjt_44, xjt_47, xjt_48, xjt_57, xjt_59, xjt_60, xjt_63, xjt_64, xjt_65, xjt_72, xjt_95, xjt_99, xjt_100, xjt_101, xjt_103, xjt_110, xjt_112, xjt_113, xjt_114, xjt_119, xjt_126, xjt_159, xjt_576, xjt_999, xjt_9999, xjt_65536, xjt_999999, xt64, xt_n, not_true_eq_false, not_false_eq_true, Classical.not_not] at c_48 c_63 c_78 c_85 c_92 c_104 c_116 c_128
                               all_goals omega)
                            | (have hy : (xbt (fun k => decide (xpc k ≤ N 6)) (xsf N n) (fun k c => decide (xpc k < xpc c)) (w + 1)) = (xbt (fun k => decide (xpc k ≤ N 6)) (xsf N n) (fun k c => decide (xpc k < xpc c)) w) := xbt_n (Or.inr (by
                                 rw [decide_eq_false_iff_not]
                                 try simp only [xB_dec, Classical.not_not] at c_48 c_63 c_78 c_85 c_92 c_104 c_116 c_128
                                 try simp (disch := omega) only [xt_eq, xt_lt, xt_le, xkt_0, xkt_1, xkt_2, xkt_3, xkt_4, xkt_5, xkt_6, xkt_7, xkt_8, xkt_9, xkt_10, xkt_11, xkt_12, xkt_13, xkt_14, xkt_16, xkt_20, xkt_24, xkt_31, xkt_32, xkt_40, xkt_44, xkt_47, xkt_48, xkt_57, xkt_59, xkt_60, xkt_63, xkt_64, xkt_65, xkt_72, xkt_95, xkt_99, xkt_100, xkt_101, xkt_103, xkt_110, xkt_112, xkt_113, xkt_114, xkt_119, xkt_126, xkt_159, xkt_576, xkt_999, xkt_9999, xkt_65536, xkt_999999, xkt_m1, xkt_m2, xkt_m3, xkt_m4, xkt_m11, xkt_m12, xkt_m13, xkt_m14, xkt_m20, xjt_0, xjt_1, xjt_2, xjt_3, xjt_4, xjt_5, xjt_6, xjt_7, xjt_8, xjt_9, xjt_10, xjt_11, xjt_12, xjt_13, xjt_14, xjt_16, xjt_20, xjt_24, xjt_31, xjt_32, xjt_40, xjt_44, xjt_47, xjt_48, xjt_57, xjt_59, xjt_60, xjt_63, xjt_64, xjt_65, xjt_72, xjt_95, xjt_99, xjt_100, xjt_101, xjt_103, xjt_110, xjt_112, xjt_113, xjt_114, xjt_119, xjt_126, xjt_159, xjt_576, xjt_999, xjt_9999, xjt_65536, xjt_999999, xt64, xt_n, not_true_eq_false, not_false_eq_true, Classical.not_not] at c_48 c_63 c_78 c_85 c_92 c_104 c_116 c_128
                                 all_goals omega))
                               refine xw_cong ?_ rfl rfl (ih _ ⟨by omega, J1, rfl, gm, by rw [gq 68 (by decide) (by decide) (by decide)]; exact j2, by rw [gq 67 (by decide) (by decide) (by decide)]; exact j3, by rw [gq 60 (by decide) (by decide) (by decide)]; exact j4, g5⟩)
                               rw [hy, nI_1])
                        · skip
                          refine xw_go xb_158 5 (f1 := (38, [.ref 60, .int (nI n), .int (nI t), .int (nI (xbt (fun k => decide (xpc k ≤ N 6)) (xsf N n) (fun k c => decide (xpc k < xpc c)) w).2), .int (nI (xsf N n w)), .int ((nI w) + 1), .int (nI (xsf N n w)), .int 1], [])) (h1 := (xS b, J1, L, xP b)) rfl trivial ?_
                          refine xw_fg (l0 := [.ref 60, .int (nI n), .int (nI t), .int (nI (xbt (fun k => decide (xpc k ≤ N 6)) (xsf N n) (fun k c => decide (xpc k < xpc c)) w).2), .int (nI (xsf N n w)), .int ((nI w) + 1), .float 0, .float 0]) ⟨Or.inr rfl, Or.inr rfl, Or.inr rfl, Or.inr rfl, Or.inr rfl, Or.inr rfl, Or.inl rfl, Or.inl rfl, trivial⟩ ?_
                          first
                            | (exfalso
                               try simp only [xB_dec, Classical.not_not] at c_48 c_63 c_78 c_85 c_92 c_104 c_116 c_128
                               try simp (disch := omega) only [xt_eq, xt_lt, xt_le, xkt_0, xkt_1, xkt_2, xkt_3, xkt_4, xkt_5, xkt_6, xkt_7, xkt_8, xkt_9, xkt_10, xkt_11, xkt_12, xkt_13, xkt_14, xkt_16, xkt_20, xkt_24, xkt_31, xkt_32, xkt_40, xkt_44, xkt_47, xkt_48, xkt_57, xkt_59, xkt_60, xkt_63, xkt_64, xkt_65, xkt_72, xkt_95, xkt_99, xkt_100, xkt_101, xkt_103, xkt_110, xkt_112, xkt_113, xkt_114, xkt_119, xkt_126, xkt_159, xkt_576, xkt_999, xkt_9999, xkt_65536, xkt_999999, xkt_m1, xkt_m2, xkt_m3, xkt_m4, xkt_m11, xkt_m12, xkt_m13, xkt_m14, xkt_m20, xjt_0, xjt_1, xjt_2, xjt_3, xjt_4, xjt_5, xjt_6, xjt_7, xjt_8, xjt_9, xjt_10, xjt_11, xjt_12, xjt_13, xjt_14, xjt_16, xjt_20, xjt_24, xjt_31, xjt_32, xjt_40, xjt_44, xjt_47, xjt_48, xjt_57, xjt_59, xjt_60, xjt_63, xjt_64, xjt_65, xjt_72, xjt_95, xjt_99, xjt_100, xjt_101, xjt_103, xjt_110, xjt_112, xjt_113, xjt_114, xjt_119, xjt_126, xjt_159, xjt_576, xjt_999, xjt_9999, xjt_65536, xjt_999999, xt64, xt_n, not_true_eq_false, not_false_eq_true, Classical.not_not] at c_48 c_63 c_78 c_85 c_92 c_104 c_116 c_128
                               all_goals omega)
                            | (have hy : (xbt (fun k => decide (xpc k ≤ N 6)) (xsf N n) (fun k c => decide (xpc k < xpc c)) (w + 1)) = (xbt (fun k => decide (xpc k ≤ N 6)) (xsf N n) (fun k c => decide (xpc k < xpc c)) w) := xbt_n (Or.inr (by
                                 rw [decide_eq_false_iff_not]
                                 try simp only [xB_dec, Classical.not_not] at c_48 c_63 c_78 c_85 c_92 c_104 c_116 c_128
                                 try simp (disch := omega) only [xt_eq, xt_lt, xt_le, xkt_0, xkt_1, xkt_2, xkt_3, xkt_4, xkt_5, xkt_6, xkt_7, xkt_8, xkt_9, xkt_10, xkt_11, xkt_12, xkt_13, xkt_14, xkt_16, xkt_20, xkt_24, xkt_31, xkt_32, xkt_40, xkt_44, xkt_47, xkt_48, xkt_57, xkt_59, xkt_60, xkt_63, xkt_64, xkt_65, xkt_72, xkt_95, xkt_99, xkt_100, xkt_101, xkt_103, xkt_110, xkt_112, xkt_113, xkt_114, xkt_119, xkt_126, xkt_159, xkt_576, xkt_999, xkt_9999, xkt_65536, xkt_999999, xkt_m1, xkt_m2, xkt_m3, xkt_m4, xkt_m11, xkt_m12, xkt_m13, xkt_m14, xkt_m20, xjt_0, xjt_1, xjt_2, xjt_3, xjt_4, xjt_5, xjt_6, xjt_7, xjt_8, xjt_9, xjt_10, xjt_11, xjt_12, xjt_13, xjt_14, xjt_16, xjt_20, xjt_24, xjt_31, xjt_32, xjt_40, xjt_44, xjt_47, xjt_48, xjt_57, xjt_59, xjt_60, xjt_63, xjt_64, xjt_65, xjt_72, xjt_95, xjt_99, xjt_100, xjt_101, xjt_103, xjt_110, xjt_112, xjt_113, xjt_114, xjt_119, xjt_126, xjt_159, xjt_576, xjt_999, xjt_9999, xjt_65536, xjt_999999, xt64, xt_n, not_true_eq_false, not_false_eq_true, Classical.not_not] at c_48 c_63 c_78 c_85 c_92 c_104 c_116 c_128
                                 all_goals omega))
                               refine xw_cong ?_ rfl rfl (ih _ ⟨by omega, J1, rfl, gm, by rw [gq 68 (by decide) (by decide) (by decide)]; exact j2, by rw [gq 67 (by decide) (by decide) (by decide)]; exact j3, by rw [gq 60 (by decide) (by decide) (by decide)]; exact j4, g5⟩)
                               rw [hy, nI_1])
                      · skip
                        refine xw_go xb_158 5 (f1 := (if 1 = 0 then 136 else 131, [.ref 60, .int (nI n), .int (nI t), .int (nI w), .int (nI (xbt (fun k => decide (xpc k ≤ N 6)) (xsf N n) (fun k c => decide (xpc k < xpc c)) w).1), .int (nI w), .int (nI (xsf N n w)), .int 1], [])) (h1 := (xS b, J1, L, xP b)) rfl trivial ?_
                        refine xw_if (fun c_128 => ?_) (fun c_128 => ?_)
                        · skip
                          refine xw_go xb_158 4 (f1 := (38, [.ref 60, .int (nI n), .int (nI t), .int (nI w), .int (nI (xbt (fun k => decide (xpc k ≤ N 6)) (xsf N n) (fun k c => decide (xpc k < xpc c)) w).1), .int ((nI w) + 1), .int (nI (xsf N n w)), .int 1], [])) (h1 := (xS b, J1, L, xP b)) rfl trivial ?_
                          refine xw_fg (l0 := [.ref 60, .int (nI n), .int (nI t), .int (nI w), .int (nI (xbt (fun k => decide (xpc k ≤ N 6)) (xsf N n) (fun k c => decide (xpc k < xpc c)) w).1), .int ((nI w) + 1), .float 0, .float 0]) ⟨Or.inr rfl, Or.inr rfl, Or.inr rfl, Or.inr rfl, Or.inr rfl, Or.inr rfl, Or.inl rfl, Or.inl rfl, trivial⟩ ?_
                          first
                            | (exfalso
                               try simp only [xB_dec, Classical.not_not] at c_48 c_63 c_78 c_85 c_92 c_104 c_116 c_128
                               try simp (disch := omega) only [xt_eq, xt_lt, xt_le, xkt_0, xkt_1, xkt_2, xkt_3, xkt_4, xkt_5, xkt_6, xkt_7, xkt_8, xkt_9, xkt_10, xkt_11, xkt_12, xkt_13, xkt_14, xkt_16, xkt_20, xkt_24, xkt_31, xkt_32, xkt_40, xkt_44, xkt_47, xkt_48, xkt_57, xkt_59, xkt_60, xkt_63, xkt_64, xkt_65, xkt_72, xkt_95, xkt_99, xkt_100, xkt_101, xkt_103, xkt_110, xkt_112, xkt_113, xkt_114, xkt_119, xkt_126, xkt_159, xkt_576, xkt_999, xkt_9999, xkt_65536, xkt_999999, xkt_m1, xkt_m2, xkt_m3, xkt_m4, xkt_m11, xkt_m12, xkt_m13, xkt_m14, xkt_m20, xjt_0, xjt_1, xjt_2, xjt_3, xjt_4, xjt_5, xjt_6, xjt_7, xjt_8, xjt_9, xjt_10, xjt_11, xjt_12, xjt_13, xjt_14, xjt_16, xjt_20, xjt_24, xjt_31, xjt_32, xjt_40, xjt_44, xjt_47, xjt_48, xjt_57, xjt_59, xjt_60, xjt_63, xjt_64, xjt_65, xjt_72, xjt_95, xjt_99, xjt_100, xjt_101, xjt_103, xjt_110, xjt_112, xjt_113, xjt_114, xjt_119, xjt_126, xjt_159, xjt_576, xjt_999, xjt_9999, xjt_65536, xjt_999999, xt64, xt_n, not_true_eq_false, not_false_eq_true, Classical.not_not] at c_48 c_63 c_78 c_85 c_92 c_104 c_116 c_128
                               all_goals omega)
                            | (have hy : (xbt (fun k => decide (xpc k ≤ N 6)) (xsf N n) (fun k c => decide (xpc k < xpc c)) (w + 1)) = (xsf N n w, w) := xbt_y (decide_eq_true (by
                                 try simp only [xB_dec, Classical.not_not] at c_48 c_63 c_78 c_85 c_92 c_104 c_116 c_128
                                 try simp (disch := omega) only [xt_eq, xt_lt, xt_le, xkt_0, xkt_1, xkt_2, xkt_3, xkt_4, xkt_5, xkt_6, xkt_7, xkt_8, xkt_9, xkt_10, xkt_11, xkt_12, xkt_13, xkt_14, xkt_16, xkt_20, xkt_24, xkt_31, xkt_32, xkt_40, xkt_44, xkt_47, xkt_48, xkt_57, xkt_59, xkt_60, xkt_63, xkt_64, xkt_65, xkt_72, xkt_95, xkt_99, xkt_100, xkt_101, xkt_103, xkt_110, xkt_112, xkt_113, xkt_114, xkt_119, xkt_126, xkt_159, xkt_576, xkt_999, xkt_9999, xkt_65536, xkt_999999, xkt_m1, xkt_m2, xkt_m3, xkt_m4, xkt_m11, xkt_m12, xkt_m13, xkt_m14, xkt_m20, xjt_0, xjt_1, xjt_2, xjt_3, xjt_4, xjt_5, xjt_6, xjt_7, xjt_8, xjt_9, xjt_10, xjt_11, xjt_12, xjt_13, xjt_14, xjt_16, xjt_20, xjt_24, xjt_31, xjt_32, xjt_40, xjt_44, xjt_47, xjt_48, xjt_57, xjt_59, xjt_60, xjt_63, xjt_64, xjt_65, xjt_72, xjt_95, xjt_99, xjt_100, xjt_101, xjt_103, xjt_110, xjt_112, xjt_113, xjt_114, xjt_119, xjt_126, xjt_159, xjt_576, xjt_999, xjt_9999, xjt_65536, xjt_999999, xt64, xt_n, not_true_eq_false, not_false_eq_true, Classical.not_not] at c_48 c_63 c_78 c_85 c_92 c_104 c_116 c_128
                                 all_goals omega)) (by
                                 rw [decide_eq_true_eq]
                                 try simp only [xB_dec, Classical.not_not] at c_48 c_63 c_78 c_85 c_92 c_104 c_116 c_128
                                 try simp (disch := omega) only [xt_eq, xt_lt, xt_le, xkt_0, xkt_1, xkt_2, xkt_3, xkt_4, xkt_5, xkt_6, xkt_7, xkt_8, xkt_9, xkt_10, xkt_11, xkt_12, xkt_13, xkt_14, xkt_16, xkt_20, xkt_24, xkt_31, xkt_32, xkt_40, xkt_44, xkt_47, xkt_48, xkt_57, xkt_59, xkt_60, xkt_63, xkt_64, xkt_65, xkt_72, xkt_95, xkt_99, xkt_100, xkt_101, xkt_103, xkt_110, xkt_112, xkt_113, xkt_114, xkt_119, xkt_126, xkt_159, xkt_576, xkt_999, xkt_9999, xkt_65536, xkt_999999, xkt_m1, xkt_m2, xkt_m3, xkt_m4, xkt_m11, xkt_m12, xkt_m13, xkt_m14, xkt_m20, xjt_0, xjt_1, xjt_2, xjt_3, xjt_4, xjt_5, xjt_6, xjt_7, xjt_8, xjt_9, xjt_10, xjt_11, xjt_12, xjt_13, xjt_14, xjt_16, xjt_20, xjt_24, xjt_31, xjt_32, xjt_40, xjt_44, xjt_47, xjt_48, xjt_57, xjt_59, xjt_60, xjt_63, xjt_64, xjt_65, xjt_72, xjt_95, xjt_99, xjt_100, xjt_101, xjt_103, xjt_110, xjt_112, xjt_113, xjt_114, xjt_119, xjt_126, xjt_159, xjt_576, xjt_999, xjt_9999, xjt_65536, xjt_999999, xt64, xt_n, not_true_eq_false, not_false_eq_true, Classical.not_not] at c_48 c_63 c_78 c_85 c_92 c_104 c_116 c_128
                                 all_goals omega)
                               refine xw_cong ?_ rfl rfl (ih _ ⟨by omega, J1, rfl, gm, by rw [gq 68 (by decide) (by decide) (by decide)]; exact j2, by rw [gq 67 (by decide) (by decide) (by decide)]; exact j3, by rw [gq 60 (by decide) (by decide) (by decide)]; exact j4, g5⟩)
                               rw [hy, nI_1])
                        · skip
                          refine xw_go xb_158 5 (f1 := (38, [.ref 60, .int (nI n), .int (nI t), .int (nI w), .int (nI (xsf N n w)), .int ((nI w) + 1), .int (nI (xsf N n w)), .int 1], [])) (h1 := (xS b, J1, L, xP b)) rfl trivial ?_
                          refine xw_fg (l0 := [.ref 60, .int (nI n), .int (nI t), .int (nI w), .int (nI (xsf N n w)), .int ((nI w) + 1), .float 0, .float 0]) ⟨Or.inr rfl, Or.inr rfl, Or.inr rfl, Or.inr rfl, Or.inr rfl, Or.inr rfl, Or.inl rfl, Or.inl rfl, trivial⟩ ?_
                          first
                            | (exfalso
                               try simp only [xB_dec, Classical.not_not] at c_48 c_63 c_78 c_85 c_92 c_104 c_116 c_128
                               try simp (disch := omega) only [xt_eq, xt_lt, xt_le, xkt_0, xkt_1, xkt_2, xkt_3, xkt_4, xkt_5, xkt_6, xkt_7, xkt_8, xkt_9, xkt_10, xkt_11, xkt_12, xkt_13, xkt_14, xkt_16, xkt_20, xkt_24, xkt_31, xkt_32, xkt_40, xkt_44, xkt_47, xkt_48, xkt_57, xkt_59, xkt_60, xkt_63, xkt_64, xkt_65, xkt_72, xkt_95, xkt_99, xkt_100, xkt_101, xkt_103, xkt_110, xkt_112, xkt_113, xkt_114, xkt_119, xkt_126, xkt_159, xkt_576, xkt_999, xkt_9999, xkt_65536, xkt_999999, xkt_m1, xkt_m2, xkt_m3, xkt_m4, xkt_m11, xkt_m12, xkt_m13, xkt_m14, xkt_m20, xjt_0, xjt_1, xjt_2, xjt_3, xjt_4, xjt_5, xjt_6, xjt_7, xjt_8, xjt_9, xjt_10, xjt_11, xjt_12, xjt_13, xjt_14, xjt_16, xjt_20, xjt_24, xjt_31, xjt_32, xjt_40, xjt_44, xjt_47, xjt_48, xjt_57, xjt_59, xjt_60, xjt_63, xjt_64, xjt_65, xjt_72, xjt_95, xjt_99, xjt_100, xjt_101, xjt_103, xjt_110, xjt_112, xjt_113, xjt_114, xjt_119, xjt_126, xjt_159, xjt_576, xjt_999, xjt_9999, xjt_65536, xjt_999999, xt64, xt_n, not_true_eq_false, not_false_eq_true, Classical.not_not] at c_48 c_63 c_78 c_85 c_92 c_104 c_116 c_128
                               all_goals omega)
                            | (have hy : (xbt (fun k => decide (xpc k ≤ N 6)) (xsf N n) (fun k c => decide (xpc k < xpc c)) (w + 1)) = (xsf N n w, w) := xbt_y (decide_eq_true (by
                                 try simp only [xB_dec, Classical.not_not] at c_48 c_63 c_78 c_85 c_92 c_104 c_116 c_128
                                 try simp (disch := omega) only [xt_eq, xt_lt, xt_le, xkt_0, xkt_1, xkt_2, xkt_3, xkt_4, xkt_5, xkt_6, xkt_7, xkt_8, xkt_9, xkt_10, xkt_11, xkt_12, xkt_13, xkt_14, xkt_16, xkt_20, xkt_24, xkt_31, xkt_32, xkt_40, xkt_44, xkt_47, xkt_48, xkt_57, xkt_59, xkt_60, xkt_63, xkt_64, xkt_65, xkt_72, xkt_95, xkt_99, xkt_100, xkt_101, xkt_103, xkt_110, xkt_112, xkt_113, xkt_114, xkt_119, xkt_126, xkt_159, xkt_576, xkt_999, xkt_9999, xkt_65536, xkt_999999, xkt_m1, xkt_m2, xkt_m3, xkt_m4, xkt_m11, xkt_m12, xkt_m13, xkt_m14, xkt_m20, xjt_0, xjt_1, xjt_2, xjt_3, xjt_4, xjt_5, xjt_6, xjt_7, xjt_8, xjt_9, xjt_10, xjt_11, xjt_12, xjt_13, xjt_14, xjt_16, xjt_20, xjt_24, xjt_31, xjt_32, xjt_40, xjt_44, xjt_47, xjt_48, xjt_57, xjt_59, xjt_60, xjt_63, xjt_64, xjt_65, xjt_72, xjt_95, xjt_99, xjt_100, xjt_101, xjt_103, xjt_110, xjt_112, xjt_113, xjt_114, xjt_119, xjt_126, xjt_159, xjt_576, xjt_999, xjt_9999, xjt_65536, xjt_999999, xt64, xt_n, not_true_eq_false, not_false_eq_true, Classical.not_not] at c_48 c_63 c_78 c_85 c_92 c_104 c_116 c_128
                                 all_goals omega)) (by
                                 rw [decide_eq_true_eq]
                                 try simp only [xB_dec, Classical.not_not] at c_48 c_63 c_78 c_85 c_92 c_104 c_116 c_128
                                 try simp (disch := omega) only [xt_eq, xt_lt, xt_le, xkt_0, xkt_1, xkt_2, xkt_3, xkt_4, xkt_5, xkt_6, xkt_7, xkt_8, xkt_9, xkt_10, xkt_11, xkt_12, xkt_13, xkt_14, xkt_16, xkt_20, xkt_24, xkt_31, xkt_32, xkt_40, xkt_44, xkt_47, xkt_48, xkt_57, xkt_59, xkt_60, xkt_63, xkt_64, xkt_65, xkt_72, xkt_95, xkt_99, xkt_100, xkt_101, xkt_103, xkt_110, xkt_112, xkt_113, xkt_114, xkt_119, xkt_126, xkt_159, xkt_576, xkt_999, xkt_9999, xkt_65536, xkt_999999, xkt_m1, xkt_m2, xkt_m3, xkt_m4, xkt_m11, xkt_m12, xkt_m13, xkt_m14, xkt_m20, xjt_0, xjt_1, xjt_2, xjt_3, xjt_4, xjt_5, xjt_6, xjt_7, xjt_8, xjt_9, xjt_10, xjt_11, xjt_12, xjt_13, xjt_14, xjt_16, xjt_20, xjt_24, xjt_31, xjt_32, xjt_40, xjt_44, xjt_47, xjt_48, xjt_57, xjt_59, xjt_60, xjt_63, xjt_64, xjt_65, xjt_72, xjt_95, xjt_99, xjt_100, xjt_101, xjt_103, xjt_110, xjt_112, xjt_113, xjt_114, xjt_119, xjt_126, xjt_159, xjt_576, xjt_999, xjt_9999, xjt_65536, xjt_999999, xt64, xt_n, not_true_eq_false, not_false_eq_true, Classical.not_not] at c_48 c_63 c_78 c_85 c_92 c_104 c_116 c_128
                                 all_goals omega)
                               refine xw_cong ?_ rfl rfl (ih _ ⟨by omega, J1, rfl, gm, by rw [gq 68 (by decide) (by decide) (by decide)]; exact j2, by rw [gq 67 (by decide) (by decide) (by decide)]; exact j3, by rw [gq 60 (by decide) (by decide) (by decide)]; exact j4, g5⟩)
                               rw [hy, nI_1])
        · obtain ⟨hc1, J, rfl, j1, j2, j3, j4, j5⟩ := hV
          refine xw_go xb_158 7 (f1 := (48, [.ref 60, .int (nI n), .int (nI t), .int (nI (xbt (fun k => decide (xpc k ≤ N 6)) (xsf N n) (fun k c => decide (xpc k < xpc c)) (2 ^ N 2)).2), .int (nI (xbt (fun k => decide (xpc k ≤ N 6)) (xsf N n) (fun k c => decide (xpc k < xpc c)) (2 ^ N 2)).1), .int (nI (2 ^ N 2)), .float 0, .float 0], [.int (1 <<< ((J 61 (2 : Int32).toNatClampNeg) &&& 31)), .int (nI (2 ^ N 2))])) (h1 := (xS b, J, L, xP b)) rfl ⟨rfl, (xn_ar (n := 2) (N := 159) rfl (by decide) (by decide)), trivial⟩ ?_
          refine xw_cong (l' := [.ref 60, .int (nI n), .int (nI t), .int (nI (xbt (fun k => decide (xpc k ≤ N 6)) (xsf N n) (fun k c => decide (xpc k < xpc c)) (2 ^ N 2)).2), .int (nI (xbt (fun k => decide (xpc k ≤ N 6)) (xsf N n) (fun k c => decide (xpc k < xpc c)) (2 ^ N 2)).1), .int (nI (2 ^ N 2)), .float 0, .float 0]) (st' := [.int (nI (2 ^ N 2)), .int (nI (2 ^ N 2))]) (h' := (xS b, J, L, xP b)) rfl (show ([.int (1 <<< ((J 61 (2 : Int32).toNatClampNeg) &&& 31)), .int (nI (2 ^ N 2))] : List Value) = [.int (nI (2 ^ N 2)), .int (nI (2 ^ N 2))] from ?_) rfl ?_
          · rw [show (2 : Int32).toNatClampNeg = 2 from rfl, j5 2 (by decide), xsh _ (by omega)]
          refine xw_go xb_158 1 (f1 := (if (nI (2 ^ N 2)) ≤ (nI (2 ^ N 2)) then 146 else 51, [.ref 60, .int (nI n), .int (nI t), .int (nI (xbt (fun k => decide (xpc k ≤ N 6)) (xsf N n) (fun k c => decide (xpc k < xpc c)) (2 ^ N 2)).2), .int (nI (xbt (fun k => decide (xpc k ≤ N 6)) (xsf N n) (fun k c => decide (xpc k < xpc c)) (2 ^ N 2)).1), .int (nI (2 ^ N 2)), .float 0, .float 0], [])) (h1 := (xS b, J, L, xP b)) rfl trivial ?_
          refine xw_if (fun c_48 => ?_) (fun c_48 => ?_)
          · skip
            refine xw_go xb_158 2 (f1 := (if ¬ (nI t) = 0 then 154 else 150, [.ref 60, .int (nI n), .int (nI t), .int (nI (xbt (fun k => decide (xpc k ≤ N 6)) (xsf N n) (fun k c => decide (xpc k < xpc c)) (2 ^ N 2)).2), .int (nI (xbt (fun k => decide (xpc k ≤ N 6)) (xsf N n) (fun k c => decide (xpc k < xpc c)) (2 ^ N 2)).1), .int (nI (2 ^ N 2)), .float 0, .float 0], [])) (h1 := (xS b, J, L, xP b)) rfl trivial ?_
            refine xw_if (fun c_147 => ?_) (fun c_147 => ?_)
            · skip
              refine xw_go xb_158 1 (f1 := (156, [.ref 60, .int (nI n), .int (nI t), .int (nI (xbt (fun k => decide (xpc k ≤ N 6)) (xsf N n) (fun k c => decide (xpc k < xpc c)) (2 ^ N 2)).2), .int (nI (xbt (fun k => decide (xpc k ≤ N 6)) (xsf N n) (fun k c => decide (xpc k < xpc c)) (2 ^ N 2)).1), .int (nI (2 ^ N 2)), .float 0, .float 0], [.int (nI (xbt (fun k => decide (xpc k ≤ N 6)) (xsf N n) (fun k c => decide (xpc k < xpc c)) (2 ^ N 2)).1)])) (h1 := (xS b, J, L, xP b)) rfl trivial ?_
              refine xw_ret xb_158 rfl rfl trivial ?_
              first
                | (have e0 : t = 0 := by
                     (try simp (disch := omega) only [xt_eq, xt_n, xkt_0, Classical.not_not] at c_147)
                     omega
                   rw [if_pos e0]
                   exact ⟨rfl, J, rfl, j1, xML_N hM j5 (by rw [j4]) j3⟩)
                | (have e0 : ¬ t = 0 := by
                     (try simp (disch := omega) only [xt_eq, xt_n, xkt_0, Classical.not_not] at c_147)
                     omega
                   rw [if_neg e0]
                   exact ⟨rfl, J, rfl, j1, xML_N hM j5 (by rw [j4]) j3⟩)
            · skip
              refine xw_go xb_158 2 (f1 := (156, [.ref 60, .int (nI n), .int (nI t), .int (nI (xbt (fun k => decide (xpc k ≤ N 6)) (xsf N n) (fun k c => decide (xpc k < xpc c)) (2 ^ N 2)).2), .int (nI (xbt (fun k => decide (xpc k ≤ N 6)) (xsf N n) (fun k c => decide (xpc k < xpc c)) (2 ^ N 2)).1), .int (nI (2 ^ N 2)), .float 0, .float 0], [.int (nI (xbt (fun k => decide (xpc k ≤ N 6)) (xsf N n) (fun k c => decide (xpc k < xpc c)) (2 ^ N 2)).2)])) (h1 := (xS b, J, L, xP b)) rfl trivial ?_
              refine xw_ret xb_158 rfl rfl trivial ?_
              first
                | (have e0 : t = 0 := by
                     (try simp (disch := omega) only [xt_eq, xt_n, xkt_0, Classical.not_not] at c_147)
                     omega
                   rw [if_pos e0]
                   exact ⟨rfl, J, rfl, j1, xML_N hM j5 (by rw [j4]) j3⟩)
                | (have e0 : ¬ t = 0 := by
                     (try simp (disch := omega) only [xt_eq, xt_n, xkt_0, Classical.not_not] at c_147)
                     omega
                   rw [if_neg e0]
                   exact ⟨rfl, J, rfl, j1, xML_N hM j5 (by rw [j4]) j3⟩)
          · skip
            exfalso
            try simp only [xB_dec, Classical.not_not] at c_48
            try simp (disch := omega) only [xt_eq, xt_lt, xt_le, xkt_0, xkt_1, xkt_2, xkt_3, xkt_4, xkt_5, xkt_6, xkt_7, xkt_8, xkt_9, xkt_10, xkt_11, xkt_12, xkt_13, xkt_14, xkt_16, xkt_20, xkt_24, xkt_31, xkt_32, xkt_40, xkt_44, xkt_47, xkt_48, xkt_57, xkt_59, xkt_60, xkt_63, xkt_64, xkt_65, xkt_72, xkt_95, xkt_99, xkt_100, xkt_101, xkt_103, xkt_110, xkt_112, xkt_113, xkt_114, xkt_119, xkt_126, xkt_159, xkt_576, xkt_999, xkt_9999, xkt_65536, xkt_999999, xkt_m1, xkt_m2, xkt_m3, xkt_m4, xkt_m11, xkt_m12, xkt_m13, xkt_m14, xkt_m20, xjt_0, xjt_1, xjt_2, xjt_3, xjt_4, xjt_5, xjt_6, xjt_7, xjt_8, xjt_9, xjt_10, xjt_11, xjt_12, xjt_13, xjt_14, xjt_16, xjt_20, xjt_24, xjt_31, xjt_32, xjt_40, xjt_44, xjt_47, xjt_48, xjt_57, xjt_59, xjt_60, xjt_63, xjt_64, xjt_65, xjt_72, xjt_95, xjt_99, xjt_100, xjt_101, xjt_103, xjt_110, xjt_112, xjt_113, xjt_114, xjt_119, xjt_126, xjt_159, xjt_576, xjt_999, xjt_9999, xjt_65536, xjt_999999, xt64, xt_n, not_true_eq_false, not_false_eq_true, Classical.not_not] at c_48
            all_goals omega
      obtain ⟨J, hJ⟩ : ∃ J, J = va_up I 68 (xfil 159 (I 61) (I 68)) := ⟨_, rfl⟩
      have j1 : xMF I J := by rw [hJ]; exact xMF_v (xMF_r I) (by decide)
      have j2 : J 68 = xfil 159 (I 61) (I 68) := by rw [hJ]; rfl
      have j3 : J 67 = I 67 := by rw [hJ]; rfl
      have j4 : J 60 = I 60 := by rw [hJ]; rfl
      have j5 : xMN N J := by rw [hJ]; exact fun k hk => hM.1 k hk
      have f64 : xsf N n 0 ≤ 64 := xsf_le hO (by omega)
      have w1 : 1 ≤ 2 ^ N 2 := Nat.one_le_two_pow
      rw [← hJ]
      clear hJ
      refine xw_at (f' := (38, [.ref 60, .int (nI n), .int (nI t), .int (-4), .int (-4), .int (nI 0), .float 0, .float 0], [])) (h' := (xS b, J, L, xP b)) rfl rfl ?_
      refine xw_go xb_158 7 (f1 := (48, [.ref 60, .int (nI n), .int (nI t), .int (-4), .int (-4), .int (nI 0), .float 0, .float 0], [.int (1 <<< ((J 61 (2 : Int32).toNatClampNeg) &&& 31)), .int (nI 0)])) (h1 := (xS b, J, L, xP b)) rfl ⟨rfl, (xn_ar (n := 2) (N := 159) rfl (by decide) (by decide)), trivial⟩ ?_
      refine xw_cong (l' := [.ref 60, .int (nI n), .int (nI t), .int (-4), .int (-4), .int (nI 0), .float 0, .float 0]) (st' := [.int (nI (2 ^ N 2)), .int (nI 0)]) (h' := (xS b, J, L, xP b)) rfl (show ([.int (1 <<< ((J 61 (2 : Int32).toNatClampNeg) &&& 31)), .int (nI 0)] : List Value) = [.int (nI (2 ^ N 2)), .int (nI 0)] from ?_) rfl ?_
      · rw [show (2 : Int32).toNatClampNeg = 2 from rfl, j5 2 (by decide), xsh _ (by omega)]
      refine xw_go xb_158 1 (f1 := (if (nI (2 ^ N 2)) ≤ (nI 0) then 146 else 51, [.ref 60, .int (nI n), .int (nI t), .int (-4), .int (-4), .int (nI 0), .float 0, .float 0], [])) (h1 := (xS b, J, L, xP b)) rfl trivial ?_
      refine xw_if (fun c_48 => ?_) (fun c_48 => ?_)
      · skip
        exfalso
        try simp only [xB_dec, Classical.not_not] at c_48
        try simp (disch := omega) only [xt_eq, xt_lt, xt_le, xkt_0, xkt_1, xkt_2, xkt_3, xkt_4, xkt_5, xkt_6, xkt_7, xkt_8, xkt_9, xkt_10, xkt_11, xkt_12, xkt_13, xkt_14, xkt_16, xkt_20, xkt_24, xkt_31, xkt_32, xkt_40, xkt_44, xkt_47, xkt_48, xkt_57, xkt_59, xkt_60, xkt_63, xkt_64, xkt_65, xkt_72, xkt_95, xkt_99, xkt_100, xkt_101, xkt_103, xkt_110, xkt_112, xkt_113, xkt_114, xkt_119, xkt_126, xkt_159, xkt_576, xkt_999, xkt_9999, xkt_65536, xkt_999999, xkt_m1, xkt_m2, xkt_m3, xkt_m4, xkt_m11, xkt_m12, xkt_m13, xkt_m14, xkt_m20, xjt_0, xjt_1, xjt_2, xjt_3, xjt_4, xjt_5, xjt_6, xjt_7, xjt_8, xjt_9, xjt_10, xjt_11, xjt_12, xjt_13, xjt_14, xjt_16, xjt_20, xjt_24, xjt_31, xjt_32, xjt_40, xjt_44, xjt_47, xjt_48, xjt_57, xjt_59, xjt_60, xjt_63, xjt_64, xjt_65, xjt_72, xjt_95, xjt_99, xjt_100, xjt_101, xjt_103, xjt_110, xjt_112, xjt_113, xjt_114, xjt_119, xjt_126, xjt_159, xjt_576, xjt_999, xjt_9999, xjt_65536, xjt_999999, xt64, xt_n, not_true_eq_false, not_false_eq_true, Classical.not_not] at c_48
        all_goals omega
      · skip
        refine xw_go xb_158 1 (f1 := (53, [.ref 60, .int (nI n), .int (nI t), .int (-4), .int (-4), .int (nI 0), .float 0, .float 0], [.int (nI 0)])) (h1 := (xS b, J, L, xP b)) rfl trivial ?_
        refine xw_call xb_158 rfl rfl rfl rfl rfl (Or.inl rfl) (m_many (v := 0) (by omega) rfl) ?_
        rintro _ _ ⟨rfl, rfl⟩
        refine xw_at (f' := (56, [.ref 60, .int (nI n), .int (nI t), .int (-4), .int (-4), .int (nI 0), .float 0, .float 0], [.int (nI (xpc 0))])) (h' := (xS b, J, L, xP b)) rfl rfl ?_
        refine xw_go xb_158 4 (f1 := (63, [.ref 60, .int (nI n), .int (nI t), .int (-4), .int (-4), .int (nI 0), .float 0, .float 0], [.int (J 61 (6 : Int32).toNatClampNeg), .int (nI (xpc 0))])) (h1 := (xS b, J, L, xP b)) rfl ⟨rfl, (xn_ar (n := 6) (N := 159) rfl (by decide) (by decide)), trivial⟩ ?_
        refine xw_cong (l' := [.ref 60, .int (nI n), .int (nI t), .int (-4), .int (-4), .int (nI 0), .float 0, .float 0]) (st' := [.int (nI (N 6)), .int (nI (xpc 0))]) (h' := (xS b, J, L, xP b)) rfl (show ([.int (J 61 (6 : Int32).toNatClampNeg), .int (nI (xpc 0))] : List Value) = [.int (nI (N 6)), .int (nI (xpc 0))] from ?_) rfl ?_
        · rw [show (6 : Int32).toNatClampNeg = 6 from rfl, j5 6 (by decide)]
        refine xw_go xb_158 1 (f1 := (if (nI (N 6)) < (nI (xpc 0)) then 140 else 66, [.ref 60, .int (nI n), .int (nI t), .int (-4), .int (-4), .int (nI 0), .float 0, .float 0], [])) (h1 := (xS b, J, L, xP b)) rfl trivial ?_
        refine xw_if (fun c_63 => ?_) (fun c_63 => ?_)
        · skip
          refine xw_go xb_158 2 (f1 := (38, [.ref 60, .int (nI n), .int (nI t), .int (-4), .int (-4), .int ((nI 0) + 1), .float 0, .float 0], [])) (h1 := (xS b, J, L, xP b)) rfl trivial ?_
          refine xw_fg (l0 := [.ref 60, .int (nI n), .int (nI t), .int (-4), .int (-4), .int ((nI 0) + 1), .float 0, .float 0]) ⟨Or.inr rfl, Or.inr rfl, Or.inr rfl, Or.inr rfl, Or.inr rfl, Or.inr rfl, Or.inl rfl, Or.inl rfl, trivial⟩ ?_
          exfalso
          have p0 : xpc 0 = 0 := by decide
          try simp only [xB_dec, Classical.not_not] at c_48 c_63
          try simp (disch := omega) only [xt_eq, xt_lt, xt_le, xkt_0, xkt_1, xkt_2, xkt_3, xkt_4, xkt_5, xkt_6, xkt_7, xkt_8, xkt_9, xkt_10, xkt_11, xkt_12, xkt_13, xkt_14, xkt_16, xkt_20, xkt_24, xkt_31, xkt_32, xkt_40, xkt_44, xkt_47, xkt_48, xkt_57, xkt_59, xkt_60, xkt_63, xkt_64, xkt_65, xkt_72, xkt_95, xkt_99, xkt_100, xkt_101, xkt_103, xkt_110, xkt_112, xkt_113, xkt_114, xkt_119, xkt_126, xkt_159, xkt_576, xkt_999, xkt_9999, xkt_65536, xkt_999999, xkt_m1, xkt_m2, xkt_m3, xkt_m4, xkt_m11, xkt_m12, xkt_m13, xkt_m14, xkt_m20, xjt_0, xjt_1, xjt_2, xjt_3, xjt_4, xjt_5, xjt_6, xjt_7, xjt_8, xjt_9, xjt_10, xjt_11, xjt_12, xjt_13, xjt_14, xjt_16, xjt_20, xjt_24, xjt_31, xjt_32, xjt_40, xjt_44, xjt_47, xjt_48, xjt_57, xjt_59, xjt_60, xjt_63, xjt_64, xjt_65, xjt_72, xjt_95, xjt_99, xjt_100, xjt_101, xjt_103, xjt_110, xjt_112, xjt_113, xjt_114, xjt_119, xjt_126, xjt_159, xjt_576, xjt_999, xjt_9999, xjt_65536, xjt_999999, xt64, xt_n, not_true_eq_false, not_false_eq_true, Classical.not_not] at c_48 c_63
          all_goals omega
        · skip
          refine xw_go xb_158 3 (f1 := (70, [.ref 60, .int (nI n), .int (nI t), .int (-4), .int (-4), .int (nI 0), .float 0, .float 0], [.int (nI n), .int (nI 0), .ref 60])) (h1 := (xS b, J, L, xP b)) rfl trivial ?_
          refine xw_call xb_158 rfl rfl rfl rfl rfl (Or.inr ⟨_, _, rfl, rfl⟩) (m_wrongBehind (I := J) (N := N) j5 hO (o := 0) (n := n) (by omega) (by omega) rfl rfl) ?_
          rintro _ _ ⟨rfl, J1, rfl, g1, g2⟩
          have gq : ∀ a, a ≠ 61 → a ≠ 62 → a ≠ 63 → J1 a = J a := fun a h1 h2 h3 => g1 a (by simp only [List.mem_cons, List.not_mem_nil, or_false, not_or]; exact ⟨h1, h2, h3⟩)
          have g5 : xMN N J1 := fun k hk => by
            rw [g2 k hk, j2]
            unfold xfil
            rw [if_pos hk]
            exact hM.1 k hk
          have gm : xMF I J1 := ⟨fun a ha => by rw [gq a (by omega) (by omega) (by omega)]; exact j1.1 a ha, fun k hk => by rw [gq 60 (by decide) (by decide) (by decide)]; exact j1.2 k hk⟩
          refine xw_at (f' := (73, [.ref 60, .int (nI n), .int (nI t), .int (-4), .int (-4), .int (nI 0), .float 0, .float 0], [.int (nI (xsf N n 0))])) (h' := (xS b, J1, L, xP b)) rfl rfl ?_
          refine xw_go xb_158 4 (f1 := (if (-4) = (-4) then 107 else 81, [.ref 60, .int (nI n), .int (nI t), .int (-4), .int (-4), .int (nI 0), .int (nI (xsf N n 0)), .float 0], [])) (h1 := (xS b, J1, L, xP b)) rfl trivial ?_
          refine xw_if (fun c_78 => ?_) (fun c_78 => ?_)
          · skip
            refine xw_go xb_158 5 (f1 := (if 1 = 0 then 124 else 119, [.ref 60, .int (nI n), .int (nI t), .int (-4), .int (-4), .int (nI 0), .int (nI (xsf N n 0)), .int 1], [])) (h1 := (xS b, J1, L, xP b)) rfl trivial ?_
            refine xw_if (fun c_116 => ?_) (fun c_116 => ?_)
            · skip
              refine xw_go xb_158 4 (f1 := (if 1 = 0 then 136 else 131, [.ref 60, .int (nI n), .int (nI t), .int (-4), .int (-4), .int (nI 0), .int (nI (xsf N n 0)), .int 1], [])) (h1 := (xS b, J1, L, xP b)) rfl trivial ?_
              refine xw_if (fun c_128 => ?_) (fun c_128 => ?_)
              · skip
                refine xw_go xb_158 4 (f1 := (38, [.ref 60, .int (nI n), .int (nI t), .int (-4), .int (-4), .int ((nI 0) + 1), .int (nI (xsf N n 0)), .int 1], [])) (h1 := (xS b, J1, L, xP b)) rfl trivial ?_
                refine xw_fg (l0 := [.ref 60, .int (nI n), .int (nI t), .int (-4), .int (-4), .int ((nI 0) + 1), .float 0, .float 0]) ⟨Or.inr rfl, Or.inr rfl, Or.inr rfl, Or.inr rfl, Or.inr rfl, Or.inr rfl, Or.inl rfl, Or.inl rfl, trivial⟩ ?_
                first
                  | (exfalso
                     try simp only [xB_dec, Classical.not_not] at c_48 c_63 c_78 c_116 c_128
                     try simp (disch := omega) only [xt_eq, xt_lt, xt_le, xkt_0, xkt_1, xkt_2, xkt_3, xkt_4, xkt_5, xkt_6, xkt_7, xkt_8, xkt_9, xkt_10, xkt_11, xkt_12, xkt_13, xkt_14, xkt_16, xkt_20, xkt_24, xkt_31, xkt_32, xkt_40, xkt_44, xkt_47, xkt_48, xkt_57, xkt_59, xkt_60, xkt_63, xkt_64, xkt_65, xkt_72, xkt_95, xkt_99, xkt_100, xkt_101, xkt_103, xkt_110, xkt_112, xkt_113, xkt_114, xkt_119, xkt_126, xkt_159, xkt_576, xkt_999, xkt_9999, xkt_65536, xkt_999999, xkt_m1, xkt_m2, xkt_m3, xkt_m4, xkt_m11, xkt_m12, xkt_m13, xkt_m14, xkt_m20, xjt_0, xjt_1, xjt_2, xjt_3, xjt_4, xjt_5, xjt_6, xjt_7, xjt_8, xjt_9, xjt_10, xjt_11, xjt_12, xjt_13, xjt_14, xjt_16, xjt_20, xjt_24, xjt_31, xjt_32, xjt_40, xjt_44, xjt_47, xjt_48, xjt_57, xjt_59, xjt_60, xjt_63, xjt_64, xjt_65, xjt_72, xjt_95, xjt_99, xjt_100, xjt_101, xjt_103, xjt_110, xjt_112, xjt_113, xjt_114, xjt_119, xjt_126, xjt_159, xjt_576, xjt_999, xjt_9999, xjt_65536, xjt_999999, xt64, xt_n, not_true_eq_false, not_false_eq_true, Classical.not_not] at c_48 c_63 c_78 c_116 c_128
                     all_goals omega)
                  | (have p0 : xpc 0 = 0 := by decide
                     have e65 : (xbt (fun k => decide (xpc k ≤ N 6)) (xsf N n) (fun k c => decide (xpc k < xpc c)) 0).1 = 65 := rfl
                     have hy : (xbt (fun k => decide (xpc k ≤ N 6)) (xsf N n) (fun k c => decide (xpc k < xpc c)) 1) = (xsf N n 0, 0) := xbt_y (decide_eq_true (by omega)) (Or.inl (by omega))
                     refine xw_cong ?_ rfl rfl (LOOP _ ⟨by omega, J1, rfl, gm, by rw [gq 68 (by decide) (by decide) (by decide)]; exact j2, by rw [gq 67 (by decide) (by decide) (by decide)]; exact j3, by rw [gq 60 (by decide) (by decide) (by decide)]; exact j4, g5⟩)
                     rw [hy]
                     rfl)
              · skip
                refine xw_go xb_158 5 (f1 := (38, [.ref 60, .int (nI n), .int (nI t), .int (-4), .int (nI (xsf N n 0)), .int ((nI 0) + 1), .int (nI (xsf N n 0)), .int 1], [])) (h1 := (xS b, J1, L, xP b)) rfl trivial ?_
                refine xw_fg (l0 := [.ref 60, .int (nI n), .int (nI t), .int (-4), .int (nI (xsf N n 0)), .int ((nI 0) + 1), .float 0, .float 0]) ⟨Or.inr rfl, Or.inr rfl, Or.inr rfl, Or.inr rfl, Or.inr rfl, Or.inr rfl, Or.inl rfl, Or.inl rfl, trivial⟩ ?_
                first
                  | (exfalso
                     try simp only [xB_dec, Classical.not_not] at c_48 c_63 c_78 c_116 c_128
                     try simp (disch := omega) only [xt_eq, xt_lt, xt_le, xkt_0, xkt_1, xkt_2, xkt_3, xkt_4, xkt_5, xkt_6, xkt_7, xkt_8, xkt_9, xkt_10, xkt_11, xkt_12, xkt_13, xkt_14, xkt_16, xkt_20, xkt_24, xkt_31, xkt_32, xkt_40, xkt_44, xkt_47, xkt_48, xkt_57, xkt_59, xkt_60, xkt_63, xkt_64, xkt_65, xkt_72, xkt_95, xkt_99, xkt_100, xkt_101, xkt_103, xkt_110, xkt_112, xkt_113, xkt_114, xkt_119, xkt_126, xkt_159, xkt_576, xkt_999, xkt_9999, xkt_65536, xkt_999999, xkt_m1, xkt_m2, xkt_m3, xkt_m4, xkt_m11, xkt_m12, xkt_m13, xkt_m14, xkt_m20, xjt_0, xjt_1, xjt_2, xjt_3, xjt_4, xjt_5, xjt_6, xjt_7, xjt_8, xjt_9, xjt_10, xjt_11, xjt_12, xjt_13, xjt_14, xjt_16, xjt_20, xjt_24, xjt_31, xjt_32, xjt_40, xjt_44, xjt_47, xjt_48, xjt_57, xjt_59, xjt_60, xjt_63, xjt_64, xjt_65, xjt_72, xjt_95, xjt_99, xjt_100, xjt_101, xjt_103, xjt_110, xjt_112, xjt_113, xjt_114, xjt_119, xjt_126, xjt_159, xjt_576, xjt_999, xjt_9999, xjt_65536, xjt_999999, xt64, xt_n, not_true_eq_false, not_false_eq_true, Classical.not_not] at c_48 c_63 c_78 c_116 c_128
                     all_goals omega)
                  | (have p0 : xpc 0 = 0 := by decide
                     have e65 : (xbt (fun k => decide (xpc k ≤ N 6)) (xsf N n) (fun k c => decide (xpc k < xpc c)) 0).1 = 65 := rfl
                     have hy : (xbt (fun k => decide (xpc k ≤ N 6)) (xsf N n) (fun k c => decide (xpc k < xpc c)) 1) = (xsf N n 0, 0) := xbt_y (decide_eq_true (by omega)) (Or.inl (by omega))
                     refine xw_cong ?_ rfl rfl (LOOP _ ⟨by omega, J1, rfl, gm, by rw [gq 68 (by decide) (by decide) (by decide)]; exact j2, by rw [gq 67 (by decide) (by decide) (by decide)]; exact j3, by rw [gq 60 (by decide) (by decide) (by decide)]; exact j4, g5⟩)
                     rw [hy]
                     rfl)
            · skip
              refine xw_go xb_158 5 (f1 := (if 1 = 0 then 136 else 131, [.ref 60, .int (nI n), .int (nI t), .int (nI 0), .int (-4), .int (nI 0), .int (nI (xsf N n 0)), .int 1], [])) (h1 := (xS b, J1, L, xP b)) rfl trivial ?_
              refine xw_if (fun c_128 => ?_) (fun c_128 => ?_)
              · skip
                refine xw_go xb_158 4 (f1 := (38, [.ref 60, .int (nI n), .int (nI t), .int (nI 0), .int (-4), .int ((nI 0) + 1), .int (nI (xsf N n 0)), .int 1], [])) (h1 := (xS b, J1, L, xP b)) rfl trivial ?_
                refine xw_fg (l0 := [.ref 60, .int (nI n), .int (nI t), .int (nI 0), .int (-4), .int ((nI 0) + 1), .float 0, .float 0]) ⟨Or.inr rfl, Or.inr rfl, Or.inr rfl, Or.inr rfl, Or.inr rfl, Or.inr rfl, Or.inl rfl, Or.inl rfl, trivial⟩ ?_
                first
                  | (exfalso
                     try simp only [xB_dec, Classical.not_not] at c_48 c_63 c_78 c_116 c_128
                     try simp (disch := omega) only [xt_eq, xt_lt, xt_le, xkt_0, xkt_1, xkt_2, xkt_3, xkt_4, xkt_5, xkt_6, xkt_7, xkt_8, xkt_9, xkt_10, xkt_11, xkt_12, xkt_13, xkt_14, xkt_16, xkt_20, xkt_24, xkt_31, xkt_32, xkt_40, xkt_44, xkt_47, xkt_48, xkt_57, xkt_59, xkt_60, xkt_63, xkt_64, xkt_65, xkt_72, xkt_95, xkt_99, xkt_100, xkt_101, xkt_103, xkt_110, xkt_112, xkt_113, xkt_114, xkt_119, xkt_126, xkt_159, xkt_576, xkt_999, xkt_9999, xkt_65536, xkt_999999, xkt_m1, xkt_m2, xkt_m3, xkt_m4, xkt_m11, xkt_m12, xkt_m13, xkt_m14, xkt_m20, xjt_0, xjt_1, xjt_2, xjt_3, xjt_4, xjt_5, xjt_6, xjt_7, xjt_8, xjt_9, xjt_10, xjt_11, xjt_12, xjt_13, xjt_14, xjt_16, xjt_20, xjt_24, xjt_31, xjt_32, xjt_40, xjt_44, xjt_47, xjt_48, xjt_57, xjt_59, xjt_60, xjt_63, xjt_64, xjt_65, xjt_72, xjt_95, xjt_99, xjt_100, xjt_101, xjt_103, xjt_110, xjt_112, xjt_113, xjt_114, xjt_119, xjt_126, xjt_159, xjt_576, xjt_999, xjt_9999, xjt_65536, xjt_999999, xt64, xt_n, not_true_eq_false, not_false_eq_true, Classical.not_not] at c_48 c_63 c_78 c_116 c_128
                     all_goals omega)
                  | (have p0 : xpc 0 = 0 := by decide
                     have e65 : (xbt (fun k => decide (xpc k ≤ N 6)) (xsf N n) (fun k c => decide (xpc k < xpc c)) 0).1 = 65 := rfl
                     have hy : (xbt (fun k => decide (xpc k ≤ N 6)) (xsf N n) (fun k c => decide (xpc k < xpc c)) 1) = (xsf N n 0, 0) := xbt_y (decide_eq_true (by omega)) (Or.inl (by omega))
                     refine xw_cong ?_ rfl rfl (LOOP _ ⟨by omega, J1, rfl, gm, by rw [gq 68 (by decide) (by decide) (by decide)]; exact j2, by rw [gq 67 (by decide) (by decide) (by decide)]; exact j3, by rw [gq 60 (by decide) (by decide) (by decide)]; exact j4, g5⟩)
                     rw [hy]
                     rfl)
              · skip
                refine xw_go xb_158 5 (f1 := (38, [.ref 60, .int (nI n), .int (nI t), .int (nI 0), .int (nI (xsf N n 0)), .int ((nI 0) + 1), .int (nI (xsf N n 0)), .int 1], [])) (h1 := (xS b, J1, L, xP b)) rfl trivial ?_
                refine xw_fg (l0 := [.ref 60, .int (nI n), .int (nI t), .int (nI 0), .int (nI (xsf N n 0)), .int ((nI 0) + 1), .float 0, .float 0]) ⟨Or.inr rfl, Or.inr rfl, Or.inr rfl, Or.inr rfl, Or.inr rfl, Or.inr rfl, Or.inl rfl, Or.inl rfl, trivial⟩ ?_
                first
                  | (exfalso
                     try simp only [xB_dec, Classical.not_not] at c_48 c_63 c_78 c_116 c_128
                     try simp (disch := omega) only [xt_eq, xt_lt, xt_le, xkt_0, xkt_1, xkt_2, xkt_3, xkt_4, xkt_5, xkt_6, xkt_7, xkt_8, xkt_9, xkt_10, xkt_11, xkt_12, xkt_13, xkt_14, xkt_16, xkt_20, xkt_24, xkt_31, xkt_32, xkt_40, xkt_44, xkt_47, xkt_48, xkt_57, xkt_59, xkt_60, xkt_63, xkt_64, xkt_65, xkt_72, xkt_95, xkt_99, xkt_100, xkt_101, xkt_103, xkt_110, xkt_112, xkt_113, xkt_114, xkt_119, xkt_126, xkt_159, xkt_576, xkt_999, xkt_9999, xkt_65536, xkt_999999, xkt_m1, xkt_m2, xkt_m3, xkt_m4, xkt_m11, xkt_m12, xkt_m13, xkt_m14, xkt_m20, xjt_0, xjt_1, xjt_2, xjt_3, xjt_4, xjt_5, xjt_6, xjt_7, xjt_8, xjt_9, xjt_10, xjt_11, xjt_12, xjt_13, xjt_14, xjt_16, xjt_20, xjt_24, xjt_31, xjt_32, xjt_40, xjt_44, xjt_47, xjt_48, xjt_57, xjt_59, xjt_60, xjt_63, xjt_64, xjt_65, xjt_72, xjt_95, xjt_99, xjt_100, xjt_101, xjt_103, xjt_110, xjt_112, xjt_113, xjt_114, xjt_119, xjt_126, xjt_159, xjt_576, xjt_999, xjt_9999, xjt_65536, xjt_999999, xt64, xt_n, not_true_eq_false, not_false_eq_true, Classical.not_not] at c_48 c_63 c_78 c_116 c_128
                     all_goals omega)
                  | (have p0 : xpc 0 = 0 := by decide
                     have e65 : (xbt (fun k => decide (xpc k ≤ N 6)) (xsf N n) (fun k c => decide (xpc k < xpc c)) 0).1 = 65 := rfl
                     have hy : (xbt (fun k => decide (xpc k ≤ N 6)) (xsf N n) (fun k c => decide (xpc k < xpc c)) 1) = (xsf N n 0, 0) := xbt_y (decide_eq_true (by omega)) (Or.inl (by omega))
                     refine xw_cong ?_ rfl rfl (LOOP _ ⟨by omega, J1, rfl, gm, by rw [gq 68 (by decide) (by decide) (by decide)]; exact j2, by rw [gq 67 (by decide) (by decide) (by decide)]; exact j3, by rw [gq 60 (by decide) (by decide) (by decide)]; exact j4, g5⟩)
                     rw [hy]
                     rfl)
          · skip
            exfalso
            exact absurd rfl c_78
    · skip
      exfalso
      try simp only [xB_dec, Classical.not_not] at c_9 c_19
      try simp (disch := omega) only [xt_eq, xt_lt, xt_le, xkt_0, xkt_1, xkt_2, xkt_3, xkt_4, xkt_5, xkt_6, xkt_7, xkt_8, xkt_9, xkt_10, xkt_11, xkt_12, xkt_13, xkt_14, xkt_16, xkt_20, xkt_24, xkt_31, xkt_32, xkt_40, xkt_44, xkt_47, xkt_48, xkt_57, xkt_59, xkt_60, xkt_63, xkt_64, xkt_65, xkt_72, xkt_95, xkt_99, xkt_100, xkt_101, xkt_103, xkt_110, xkt_112, xkt_113, xkt_114, xkt_119, xkt_126, xkt_159, xkt_576, xkt_999, xkt_9999, xkt_65536, xkt_999999, xkt_m1, xkt_m2, xkt_m3, xkt_m4, xkt_m11, xkt_m12, xkt_m13, xkt_m14, xkt_m20, xjt_0, xjt_1, xjt_2, xjt_3, xjt_4, xjt_5, xjt_6, xjt_7, xjt_8, xjt_9, xjt_10, xjt_11, xjt_12, xjt_13, xjt_14, xjt_16, xjt_20, xjt_24, xjt_31, xjt_32, xjt_40, xjt_44, xjt_47, xjt_48, xjt_57, xjt_59, xjt_60, xjt_63, xjt_64, xjt_65, xjt_72, xjt_95, xjt_99, xjt_100, xjt_101, xjt_103, xjt_110, xjt_112, xjt_113, xjt_114, xjt_119, xjt_126, xjt_159, xjt_576, xjt_999, xjt_9999, xjt_65536, xjt_999999, xt64, xt_n, not_true_eq_false, not_false_eq_true, Classical.not_not] at c_9 c_19
      all_goals omega

