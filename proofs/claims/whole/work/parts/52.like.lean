/-! ===== image, restore: a plot becomes like another ===== -/
theorem xcy_d {α : Type} {f g : Nat → α} {n k : Nat} (h : k < n) : va_cpy f g 0 0 n k = f k := by
  unfold va_cpy
  rw [if_pos (by omega), Nat.zero_add, Nat.sub_zero]
theorem c_past1 {d : Nat} {I : Nat → Nat → Int32} {L : Nat → Nat → Int64}  : xm_Z (d + 1) 90 [.ref 5, .ref 78] (xS true, I, L, xP true) (fun rz hz => rz = none ∧ ∃ I', hz = (xS true, I', L, xP true) ∧ (∀ a, a ≠ 5 → a < 7 ∨ 15 ≤ a → I' a = I a) ∧ I' 5 1 = I 78 1 ∧ I' 5 2 = I 78 2 ∧ ∀ j, j < 8 → ∀ k, k < 72 → I' (7 + j) k = I (80 + j) k) := by
  refine xw_S xb_90 (l := [.ref 5, .ref 78, .float 0]) (Nat.le_of_ble_eq_true rfl) rfl ?_
  refine xw_go xb_90 2 (f1 := (2, [.ref 5, .ref 78, .int 0], [])) (h1 := (xS true, I, L, xP true)) rfl trivial ?_
  refine xw_at (f' := (2, [.ref 5, .ref 78, .int (nI 0)], [])) (h' := (xS true, I, L, xP true)) rfl rfl ?_
  refine xw_loopP 8 (fun i => (2, [.ref 5, .ref 78, .int (nI i)], [])) (fun i h => ∃ J, h = (xS true, J, L, xP true) ∧ (∀ a, a < 7 ∨ 15 ≤ a → J a = I a) ∧ ∀ j, j < i → ∀ k, k < 72 → J (7 + j) k = I (80 + j) k) (fun i h hi hV ih => ?_) (fun h hV => ?_) 0 _ (Nat.zero_le _) ⟨I, rfl, fun _ _ => rfl, fun j hj => absurd hj (Nat.not_lt_zero j)⟩
  · obtain ⟨J, rfl, j1, j2⟩ := hV
    refine xw_go xb_90 3 (f1 := (if 8 ≤ (nI i) then 33 else 8, [.ref 5, .ref 78, .int (nI i)], [])) (h1 := (xS true, J, L, xP true)) rfl trivial ?_
    refine xw_if (fun c_5 => ?_) (fun c_5 => ?_)
    · skip
      exfalso
      try simp only [xB_dec, Classical.not_not] at c_5
      try simp (disch := omega) only [xt_eq, xt_lt, xt_le, xkt_0, xkt_1, xkt_2, xkt_3, xkt_4, xkt_5, xkt_6, xkt_7, xkt_8, xkt_9, xkt_10, xkt_11, xkt_12, xkt_13, xkt_14, xkt_16, xkt_20, xkt_24, xkt_31, xkt_32, xkt_40, xkt_44, xkt_47, xkt_48, xkt_57, xkt_59, xkt_60, xkt_63, xkt_64, xkt_65, xkt_72, xkt_95, xkt_99, xkt_100, xkt_101, xkt_103, xkt_110, xkt_112, xkt_113, xkt_114, xkt_119, xkt_126, xkt_159, xkt_576, xkt_999, xkt_9999, xkt_65536, xkt_999999, xkt_m1, xkt_m2, xkt_m3, xkt_m4, xkt_m11, xkt_m12, xkt_m13, xkt_m14, xkt_m20, xjt_0, xjt_1, xjt_2, xjt_3, xjt_4, xjt_5, xjt_6, xjt_7, xjt_8, xjt_9, xjt_10, xjt_11, xjt_12, xjt_13, xjt_14, xjt_16, xjt_20, xjt_24, xjt_31, xjt_32, xjt_40, xjt_44, xjt_47, xjt_48, xjt_57, xjt_59, xjt_60, xjt_63, xjt_64, xjt_65, xjt_72, xjt_95, xjt_99, xjt_100, xjt_101, xjt_103, xjt_110, xjt_112, xjt_113, xjt_114, xjt_119, xjt_126, xjt_159, xjt_576, xjt_999, xjt_9999, xjt_65536, xjt_999999, xt64, xt_n, not_true_eq_false, not_false_eq_true, Classical.not_not] at c_5
      all_goals omega
    · skip
      refine xw_go xb_90 4 (f1 := (14, [.ref 5, .ref 78, .int (nI i)], [xm_o (xP true 79 (nI i).toNatClampNeg)])) (h1 := (xS true, J, L, xP true)) rfl ⟨rfl, (xn_ar (n := i) (N := 8) rfl (by omega) (by decide)), ⟨Nat.le_of_ble_eq_true rfl, Nat.le_of_ble_eq_true rfl⟩, trivial⟩ ?_
      refine xw_cong (l' := [.ref 5, .ref 78, .int (nI i)]) (st' := [.ref (80 + i)]) (h' := (xS true, J, L, xP true)) rfl (show ([xm_o (xP true 79 (nI i).toNatClampNeg)] : List Value) = [.ref (80 + i)] from ?_) rfl ?_
      · rw [xn_cl (by omega), xP_79 hi]
        rfl
      refine xw_go xb_90 5 (f1 := (21, [.ref 5, .ref 78, .int (nI i)], [xm_o (xP true 6 (nI i).toNatClampNeg), .int 0, .ref (80 + i)])) (h1 := (xS true, J, L, xP true)) rfl ⟨rfl, (xn_ar (n := i) (N := 8) rfl (by omega) (by decide)), ⟨Nat.le_of_ble_eq_true rfl, Nat.le_of_ble_eq_true rfl⟩, trivial⟩ ?_
      refine xw_cong (l' := [.ref 5, .ref 78, .int (nI i)]) (st' := [.ref (7 + i), .int 0, .ref (80 + i)]) (h' := (xS true, J, L, xP true)) rfl (show ([xm_o (xP true 6 (nI i).toNatClampNeg), .int 0, .ref (80 + i)] : List Value) = [.ref (7 + i), .int 0, .ref (80 + i)] from ?_) rfl ?_
      · rw [xn_cl (by omega), xP_6 hi]
        rfl
      refine xw_go xb_90 2 (f1 := (24, [.ref 5, .ref 78, .int (nI i)], [.int 72, .int 0, .ref (7 + i), .int 0, .ref (80 + i)])) (h1 := (xS true, J, L, xP true)) rfl trivial ?_
      refine xw_cpI xb_90 rfl rfl rfl ⟨72, 72, xS_80 hi, xS_7 (b := true) hi, by decide, by decide, by decide, by decide, by decide⟩ ?_
      refine xw_at (f' := (27, [.ref 5, .ref 78, .int (nI i)], [])) (h' := (xS true, va_up J (7 + i) (va_cpy (J (80 + i)) (J (7 + i)) (0 : Int32).toNatClampNeg (0 : Int32).toNatClampNeg (72 : Int32).toNatClampNeg), L, xP true)) rfl rfl ?_
      refine xw_go xb_90 2 (f1 := (2, [.ref 5, .ref 78, .int ((nI i) + 1)], [])) (h1 := (xS true, va_up J (7 + i) (va_cpy (J (80 + i)) (J (7 + i)) (0 : Int32).toNatClampNeg (0 : Int32).toNatClampNeg (72 : Int32).toNatClampNeg), L, xP true)) rfl trivial ?_
      refine xw_cong ?_ rfl rfl (ih _ ⟨_, rfl, fun a ha => ?_, fun j hj k hk => ?_⟩)
      · rw [nI_1]
      · rw [xm_vu_o (by omega)]
        exact j1 a ha
      · by_cases e : j = i
        · subst e
          rw [xvu_at]
          show va_cpy _ _ 0 0 72 k = _
          rw [xcy_d hk, j1 _ (by omega)]
        · rw [xm_vu_o (by omega)]
          exact j2 j (by omega) k hk
  · obtain ⟨J, rfl, j1, j2⟩ := hV
    refine xw_go xb_90 3 (f1 := (if 8 ≤ (nI 8) then 33 else 8, [.ref 5, .ref 78, .int (nI 8)], [])) (h1 := (xS true, J, L, xP true)) rfl trivial ?_
    refine xw_if (fun c_5 => ?_) (fun c_5 => ?_)
    · skip
      refine xw_go xb_90 8 (f1 := (49, [.ref 5, .ref 78, .int (nI 8)], [])) (h1 := (xS true, xm_up (xm_up J 5 1 (J 78 1)) 5 2 ((xm_up J 5 1 (J 78 1)) 78 2), L, xP true)) rfl ⟨rfl, rfl, rfl, rfl, trivial⟩ ?_
      refine xw_ret xb_90 rfl rfl trivial ?_
      refine ⟨rfl, _, rfl, fun a h1 h2 => ?_, ?_, ?_, fun j hj k hk => ?_⟩
      · rw [xm_up_o h1, xm_up_o h1]
        exact j1 a h2
      · rw [xm_up_ne (Or.inr (by decide)), xm_up_at, j1 _ (by omega)]
      · rw [xm_up_at, xm_up_o (by decide), j1 _ (by omega)]
      · rw [xm_up_o (by omega), xm_up_o (by omega)]
        exact j2 j hj k hk
    · skip
      exfalso
      try simp only [xB_dec, Classical.not_not] at c_5
      try simp (disch := omega) only [xt_eq, xt_lt, xt_le, xkt_0, xkt_1, xkt_2, xkt_3, xkt_4, xkt_5, xkt_6, xkt_7, xkt_8, xkt_9, xkt_10, xkt_11, xkt_12, xkt_13, xkt_14, xkt_16, xkt_20, xkt_24, xkt_31, xkt_32, xkt_40, xkt_44, xkt_47, xkt_48, xkt_57, xkt_59, xkt_60, xkt_63, xkt_64, xkt_65, xkt_72, xkt_95, xkt_99, xkt_100, xkt_101, xkt_103, xkt_110, xkt_112, xkt_113, xkt_114, xkt_119, xkt_126, xkt_159, xkt_576, xkt_999, xkt_9999, xkt_65536, xkt_999999, xkt_m1, xkt_m2, xkt_m3, xkt_m4, xkt_m11, xkt_m12, xkt_m13, xkt_m14, xkt_m20, xjt_0, xjt_1, xjt_2, xjt_3, xjt_4, xjt_5, xjt_6, xjt_7, xjt_8, xjt_9, xjt_10, xjt_11, xjt_12, xjt_13, xjt_14, xjt_16, xjt_20, xjt_24, xjt_31, xjt_32, xjt_40, xjt_44, xjt_47, xjt_48, xjt_57, xjt_59, xjt_60, xjt_63, xjt_64, xjt_65, xjt_72, xjt_95, xjt_99, xjt_100, xjt_101, xjt_103, xjt_110, xjt_112, xjt_113, xjt_114, xjt_119, xjt_126, xjt_159, xjt_576, xjt_999, xjt_9999, xjt_65536, xjt_999999, xt64, xt_n, not_true_eq_false, not_false_eq_true, Classical.not_not] at c_5
      all_goals omega

theorem c_like1 {d : Nat} {I : Nat → Nat → Int32} {L : Nat → Nat → Int64} {N : Nat → Nat} {u : Nat} {U : Nat → Nat → Nat} (hP : xPL N u U 74 I) (hK : xUK N u U) : xm_Z (d + 4) 89 [.ref 1, .ref 74] (xS true, I, L, xP true) (fun rz hz => rz = none ∧ ∃ I', hz = (xS true, I', L, xP true) ∧ xPL N u U 1 I' ∧ ∀ a, a < 1 ∨ 20 ≤ a → I' a = I a) := by
  have hN := hP.1
  have hO := hK.1
  have hb := hK.1.1
  refine xw_S xb_89 (l := [.ref 1, .ref 74, .float 0]) (Nat.le_of_ble_eq_true rfl) rfl ?_
  refine xw_go xb_89 5 (f1 := (9, [.ref 1, .ref 74, .float 0], [.int (I 74 1), .int (I 74 0), .ref 1])) (h1 := (xS true, I, L, xP true)) rfl ⟨rfl, rfl, trivial⟩ ?_
  refine xw_call xb_89 rfl rfl rfl rfl rfl (Or.inr ⟨_, _, rfl, rfl⟩) (c_begin1 (I := I) (x := I 74 0) (y := I 74 1)) ?_
  rintro _ _ ⟨rfl, I1, rfl, g1, g2, g3, g4, g5, g6, g7, g8, g9, g10, g11, g12⟩
  refine xw_at (f' := (12, [.ref 1, .ref 74, .float 0], [])) (h' := (xS true, I1, L, xP true)) rfl rfl ?_
  refine xw_go xb_89 7 (f1 := (24, [.ref 1, .ref 74, .float 0], [.int 64, .int 0, .ref 2, .int 0, .ref 75])) (h1 := (xS true, I1, L, xP true)) rfl ⟨rfl, rfl, trivial⟩ ?_
  refine xw_cpI xb_89 rfl rfl rfl ⟨64, 64, rfl, rfl, by decide, by decide, by decide, by decide, by decide⟩ ?_
  refine xw_at (f' := (27, [.ref 1, .ref 74, .float 0], [])) (h' := (xS true, va_up I1 2 (va_cpy (I1 75) (I1 2) (0 : Int32).toNatClampNeg (0 : Int32).toNatClampNeg (64 : Int32).toNatClampNeg), L, xP true)) rfl rfl ?_
  refine xw_go xb_89 7 (f1 := (39, [.ref 1, .ref 74, .float 0], [.int 64, .int 0, .ref 3, .int 0, .ref 76])) (h1 := (xS true, va_up I1 2 (va_cpy (I1 75) (I1 2) (0 : Int32).toNatClampNeg (0 : Int32).toNatClampNeg (64 : Int32).toNatClampNeg), L, xP true)) rfl ⟨rfl, rfl, trivial⟩ ?_
  refine xw_cpI xb_89 rfl rfl rfl ⟨64, 64, rfl, rfl, by decide, by decide, by decide, by decide, by decide⟩ ?_
  refine xw_at (f' := (42, [.ref 1, .ref 74, .float 0], [])) (h' := (xS true, va_up (va_up I1 2 (va_cpy (I1 75) (I1 2) (0 : Int32).toNatClampNeg (0 : Int32).toNatClampNeg (64 : Int32).toNatClampNeg)) 3 (va_cpy ((va_up I1 2 (va_cpy (I1 75) (I1 2) (0 : Int32).toNatClampNeg (0 : Int32).toNatClampNeg (64 : Int32).toNatClampNeg)) 76) ((va_up I1 2 (va_cpy (I1 75) (I1 2) (0 : Int32).toNatClampNeg (0 : Int32).toNatClampNeg (64 : Int32).toNatClampNeg)) 3) (0 : Int32).toNatClampNeg (0 : Int32).toNatClampNeg (64 : Int32).toNatClampNeg), L, xP true)) rfl rfl ?_
  refine xw_go xb_89 2 (f1 := (44, [.ref 1, .ref 74, .int 0], [])) (h1 := (xS true, va_up (va_up I1 2 (va_cpy (I1 75) (I1 2) (0 : Int32).toNatClampNeg (0 : Int32).toNatClampNeg (64 : Int32).toNatClampNeg)) 3 (va_cpy ((va_up I1 2 (va_cpy (I1 75) (I1 2) (0 : Int32).toNatClampNeg (0 : Int32).toNatClampNeg (64 : Int32).toNatClampNeg)) 76) ((va_up I1 2 (va_cpy (I1 75) (I1 2) (0 : Int32).toNatClampNeg (0 : Int32).toNatClampNeg (64 : Int32).toNatClampNeg)) 3) (0 : Int32).toNatClampNeg (0 : Int32).toNatClampNeg (64 : Int32).toNatClampNeg), L, xP true)) rfl trivial ?_
  obtain ⟨I2, hI2⟩ : ∃ I2, I2 = va_up (va_up I1 2 (va_cpy (I1 75) (I1 2) 0 0 64)) 3 (va_cpy ((va_up I1 2 (va_cpy (I1 75) (I1 2) 0 0 64)) 76) ((va_up I1 2 (va_cpy (I1 75) (I1 2) 0 0 64)) 3) 0 0 64) := ⟨_, rfl⟩
  have q1 : ∀ a, a < 1 ∨ 20 ≤ a → I2 a = I a := fun a ha => by
    rw [hI2, xm_vu_o (by omega), xm_vu_o (by omega)]
    exact g1 a (by simp only [List.mem_cons, List.not_mem_nil, or_false, not_or]; omega)
  have q2 : ∀ k, k < 64 → I2 2 k = I 75 k := fun k hk => by
    rw [hI2, xm_vu_o (by decide), xvu_at, xcy_d hk, g1 75 (by decide)]
  have q3 : ∀ k, k < 64 → I2 3 k = I 76 k := fun k hk => by
    rw [hI2, xvu_at, xcy_d hk, xm_vu_o (by decide), g1 76 (by decide)]
  have q4 : I2 1 = I1 1 := by
    rw [hI2, xm_vu_o (by decide), xm_vu_o (by decide)]
  refine xw_at (f' := (44, [.ref 1, .ref 74, .int (nI 0)], [])) (h' := (xS true, I2, L, xP true)) rfl (by rw [hI2]; rfl) ?_
  clear hI2
  refine xw_loopP (N 2) (fun i => (44, [.ref 1, .ref 74, .int (nI i)], [])) (fun i h => ∃ J, h = (xS true, J, L, xP true) ∧ (∀ a, a ≠ 1 → a ≠ 5 → a < 15 ∨ 20 ≤ a → J a = I2 a) ∧ J 1 5 = nI i ∧ (∀ k, k < 2 → J 1 k = I 74 k) ∧ ∀ j, j < i → ∀ f, f < 4 → J (15 + j) f = nI (N (11 + 4 * j + f))) (fun i h hi hV ih => ?_) (fun h hV => ?_) 0 _ (Nat.zero_le _) ⟨I2, rfl, fun _ _ _ _ => rfl, by rw [q4]; exact g4, fun k hk => by rw [q4]; match k, hk with | 0, _ => exact g2 | 1, _ => exact g3, fun j hj => absurd hj (Nat.not_lt_zero j)⟩
  · obtain ⟨J, rfl, j1, j2, j5, j3⟩ := hV
    have j4 : ∀ a, 74 ≤ a → a < 93 → J a = I a := fun a h1 h2 => by rw [j1 a (by omega) (by omega) (by omega), q1 a (by omega)]
    have sq : (xS true)[88 + i]? = some (11, 4) := xS_88 (by omega)
    refine xw_go xb_89 3 (f1 := (49, [.ref 1, .ref 74, .int (nI i)], [.int (J 74 5), .int (nI i)])) (h1 := (xS true, J, L, xP true)) rfl ⟨rfl, trivial⟩ ?_
    refine xw_cong (l' := [.ref 1, .ref 74, .int (nI i)]) (st' := [.int (nI (N 2)), .int (nI i)]) (h' := (xS true, J, L, xP true)) rfl (show ([.int (J 74 5), .int (nI i)] : List Value) = [.int (nI (N 2)), .int (nI i)] from ?_) rfl ?_
    · rw [j4 74 (by decide) (by decide), hN.1.2.2.1]
    refine xw_go xb_89 1 (f1 := (if (nI (N 2)) ≤ (nI i) then 68 else 52, [.ref 1, .ref 74, .int (nI i)], [])) (h1 := (xS true, J, L, xP true)) rfl trivial ?_
    refine xw_if (fun c_49 => ?_) (fun c_49 => ?_)
    · skip
      exfalso
      try simp only [xB_dec, Classical.not_not] at c_49
      try simp (disch := omega) only [xt_eq, xt_lt, xt_le, xkt_0, xkt_1, xkt_2, xkt_3, xkt_4, xkt_5, xkt_6, xkt_7, xkt_8, xkt_9, xkt_10, xkt_11, xkt_12, xkt_13, xkt_14, xkt_16, xkt_20, xkt_24, xkt_31, xkt_32, xkt_40, xkt_44, xkt_47, xkt_48, xkt_57, xkt_59, xkt_60, xkt_63, xkt_64, xkt_65, xkt_72, xkt_95, xkt_99, xkt_100, xkt_101, xkt_103, xkt_110, xkt_112, xkt_113, xkt_114, xkt_119, xkt_126, xkt_159, xkt_576, xkt_999, xkt_9999, xkt_65536, xkt_999999, xkt_m1, xkt_m2, xkt_m3, xkt_m4, xkt_m11, xkt_m12, xkt_m13, xkt_m14, xkt_m20, xjt_0, xjt_1, xjt_2, xjt_3, xjt_4, xjt_5, xjt_6, xjt_7, xjt_8, xjt_9, xjt_10, xjt_11, xjt_12, xjt_13, xjt_14, xjt_16, xjt_20, xjt_24, xjt_31, xjt_32, xjt_40, xjt_44, xjt_47, xjt_48, xjt_57, xjt_59, xjt_60, xjt_63, xjt_64, xjt_65, xjt_72, xjt_95, xjt_99, xjt_100, xjt_101, xjt_103, xjt_110, xjt_112, xjt_113, xjt_114, xjt_119, xjt_126, xjt_159, xjt_576, xjt_999, xjt_9999, xjt_65536, xjt_999999, xt64, xt_n, not_true_eq_false, not_false_eq_true, Classical.not_not] at c_49
      all_goals omega
    · skip
      refine xw_go xb_89 5 (f1 := (59, [.ref 1, .ref 74, .int (nI i)], [xm_o (xP true 77 (nI i).toNatClampNeg), .ref 1])) (h1 := (xS true, J, L, xP true)) rfl ⟨rfl, (xn_ar (n := i) (N := 5) rfl (by omega) (by decide)), ⟨Nat.le_of_ble_eq_true rfl, Nat.le_of_ble_eq_true rfl⟩, trivial⟩ ?_
      refine xw_cong (l' := [.ref 1, .ref 74, .int (nI i)]) (st' := [.ref (88 + i), .ref 1]) (h' := (xS true, J, L, xP true)) rfl (show ([xm_o (xP true 77 (nI i).toNatClampNeg), .ref 1] : List Value) = [.ref (88 + i), .ref 1] from ?_) rfl ?_
      · rw [xn_cl (by omega), xP_77 (by omega)]
        rfl
      refine xw_call xb_89 rfl rfl rfl rfl rfl (Or.inr ⟨_, _, rfl, rfl⟩) (c_addLike1 (I := J) (n := i) j2 (by omega) sq) ?_
      rintro _ _ ⟨rfl, rfl⟩
      refine xw_at (f' := (62, [.ref 1, .ref 74, .int (nI i)], [])) (h' := (xS true, xm_up (xm_up (xm_up (xm_up (xm_up (xm_up J (15 + i) 0 (J (88 + i) 0)) (15 + i) 1 (J (88 + i) 1)) (15 + i) 2 (J (88 + i) 2)) (15 + i) 3 (J (88 + i) 3)) 1 5 (nI (i + 1))) 5 1 0, L, xP true)) rfl rfl ?_
      refine xw_go xb_89 2 (f1 := (44, [.ref 1, .ref 74, .int ((nI i) + 1)], [])) (h1 := (xS true, xm_up (xm_up (xm_up (xm_up (xm_up (xm_up J (15 + i) 0 (J (88 + i) 0)) (15 + i) 1 (J (88 + i) 1)) (15 + i) 2 (J (88 + i) 2)) (15 + i) 3 (J (88 + i) 3)) 1 5 (nI (i + 1))) 5 1 0, L, xP true)) rfl trivial ?_
      refine xw_cong ?_ rfl rfl (ih _ ⟨_, rfl, fun a h1 h2 h3 => ?_, ?_, fun k hk => ?_, fun j hj f hf => ?_⟩)
      · rw [nI_1]
      · rw [xm_up_o h2, xm_up_o h1, xm_up_o (by omega), xm_up_o (by omega), xm_up_o (by omega), xm_up_o (by omega)]
        exact j1 a h1 h2 h3
      · rw [xm_up_o (by decide), xm_up_at]
      · rw [xm_up_o (by decide), xm_up_ne (Or.inr (by omega)), xm_up_o (by omega), xm_up_o (by omega), xm_up_o (by omega), xm_up_o (by omega)]
        exact j5 k hk
      · rw [xm_up_o (by omega), xm_up_o (by omega)]
        by_cases e : j = i
        · subst e
          have b3 : ∀ f, f < 4 → J (88 + j) f = nI (N (11 + 4 * j + f)) := fun f hf => by
            rw [j4 _ (by omega) (by omega), ← hN.2.2.2 j (by omega) f hf]
          match f, hf with
          | 0, hf => rw [xm_up_ne (Or.inr (by decide)), xm_up_ne (Or.inr (by decide)), xm_up_ne (Or.inr (by decide)), xm_up_at]; exact b3 0 hf
          | 1, hf => rw [xm_up_ne (Or.inr (by decide)), xm_up_ne (Or.inr (by decide)), xm_up_at]; exact b3 1 hf
          | 2, hf => rw [xm_up_ne (Or.inr (by decide)), xm_up_at]; exact b3 2 hf
          | 3, hf => rw [xm_up_at]; exact b3 3 hf
        · rw [xm_up_o (by omega), xm_up_o (by omega), xm_up_o (by omega), xm_up_o (by omega)]
          exact j3 j (by omega) f hf
  · obtain ⟨J, rfl, j1, j2, j5, j3⟩ := hV
    have j4 : ∀ a, 74 ≤ a → a < 93 → J a = I a := fun a h1 h2 => by rw [j1 a (by omega) (by omega) (by omega), q1 a (by omega)]
    refine xw_go xb_89 3 (f1 := (49, [.ref 1, .ref 74, .int (nI (N 2))], [.int (J 74 5), .int (nI (N 2))])) (h1 := (xS true, J, L, xP true)) rfl ⟨rfl, trivial⟩ ?_
    refine xw_cong (l' := [.ref 1, .ref 74, .int (nI (N 2))]) (st' := [.int (nI (N 2)), .int (nI (N 2))]) (h' := (xS true, J, L, xP true)) rfl (show ([.int (J 74 5), .int (nI (N 2))] : List Value) = [.int (nI (N 2)), .int (nI (N 2))] from ?_) rfl ?_
    · rw [j4 74 (by decide) (by decide), hN.1.2.2.1]
    refine xw_go xb_89 1 (f1 := (if (nI (N 2)) ≤ (nI (N 2)) then 68 else 52, [.ref 1, .ref 74, .int (nI (N 2))], [])) (h1 := (xS true, J, L, xP true)) rfl trivial ?_
    refine xw_if (fun c_49 => ?_) (fun c_49 => ?_)
    · skip
      refine xw_go xb_89 32 (f1 := (132, [.ref 1, .ref 74, .int (nI (N 2))], [])) (h1 := (xS true, xm_up (xm_up (xm_up (xm_up (xm_up (xm_up (xm_up (xm_up J 1 6 (J 74 6)) 1 7 ((xm_up J 1 6 (J 74 6)) 74 7)) 1 8 ((xm_up (xm_up J 1 6 (J 74 6)) 1 7 ((xm_up J 1 6 (J 74 6)) 74 7)) 74 8)) 1 9 ((xm_up (xm_up (xm_up J 1 6 (J 74 6)) 1 7 ((xm_up J 1 6 (J 74 6)) 74 7)) 1 8 ((xm_up (xm_up J 1 6 (J 74 6)) 1 7 ((xm_up J 1 6 (J 74 6)) 74 7)) 74 8)) 74 9)) 1 10 ((xm_up (xm_up (xm_up (xm_up J 1 6 (J 74 6)) 1 7 ((xm_up J 1 6 (J 74 6)) 74 7)) 1 8 ((xm_up (xm_up J 1 6 (J 74 6)) 1 7 ((xm_up J 1 6 (J 74 6)) 74 7)) 74 8)) 1 9 ((xm_up (xm_up (xm_up J 1 6 (J 74 6)) 1 7 ((xm_up J 1 6 (J 74 6)) 74 7)) 1 8 ((xm_up (xm_up J 1 6 (J 74 6)) 1 7 ((xm_up J 1 6 (J 74 6)) 74 7)) 74 8)) 74 9)) 74 10)) 1 11 ((xm_up (xm_up (xm_up (xm_up (xm_up J 1 6 (J 74 6)) 1 7 ((xm_up J 1 6 (J 74 6)) 74 7)) 1 8 ((xm_up (xm_up J 1 6 (J 74 6)) 1 7 ((xm_up J 1 6 (J 74 6)) 74 7)) 74 8)) 1 9 ((xm_up (xm_up (xm_up J 1 6 (J 74 6)) 1 7 ((xm_up J 1 6 (J 74 6)) 74 7)) 1 8 ((xm_up (xm_up J 1 6 (J 74 6)) 1 7 ((xm_up J 1 6 (J 74 6)) 74 7)) 74 8)) 74 9)) 1 10 ((xm_up (xm_up (xm_up (xm_up J 1 6 (J 74 6)) 1 7 ((xm_up J 1 6 (J 74 6)) 74 7)) 1 8 ((xm_up (xm_up J 1 6 (J 74 6)) 1 7 ((xm_up J 1 6 (J 74 6)) 74 7)) 74 8)) 1 9 ((xm_up (xm_up (xm_up J 1 6 (J 74 6)) 1 7 ((xm_up J 1 6 (J 74 6)) 74 7)) 1 8 ((xm_up (xm_up J 1 6 (J 74 6)) 1 7 ((xm_up J 1 6 (J 74 6)) 74 7)) 74 8)) 74 9)) 74 10)) 74 11)) 1 12 ((xm_up (xm_up (xm_up (xm_up (xm_up (xm_up J 1 6 (J 74 6)) 1 7 ((xm_up J 1 6 (J 74 6)) 74 7)) 1 8 ((xm_up (xm_up J 1 6 (J 74 6)) 1 7 ((xm_up J 1 6 (J 74 6)) 74 7)) 74 8)) 1 9 ((xm_up (xm_up (xm_up J 1 6 (J 74 6)) 1 7 ((xm_up J 1 6 (J 74 6)) 74 7)) 1 8 ((xm_up (xm_up J 1 6 (J 74 6)) 1 7 ((xm_up J 1 6 (J 74 6)) 74 7)) 74 8)) 74 9)) 1 10 ((xm_up (xm_up (xm_up (xm_up J 1 6 (J 74 6)) 1 7 ((xm_up J 1 6 (J 74 6)) 74 7)) 1 8 ((xm_up (xm_up J 1 6 (J 74 6)) 1 7 ((xm_up J 1 6 (J 74 6)) 74 7)) 74 8)) 1 9 ((xm_up (xm_up (xm_up J 1 6 (J 74 6)) 1 7 ((xm_up J 1 6 (J 74 6)) 74 7)) 1 8 ((xm_up (xm_up J 1 6 (J 74 6)) 1 7 ((xm_up J 1 6 (J 74 6)) 74 7)) 74 8)) 74 9)) 74 10)) 1 11 ((xm_up (xm_up (xm_up (xm_up (xm_up J 1 6 (J 74 6)) 1 7 ((xm_up J 1 6 (J 74 6)) 74 7)) 1 8 ((xm_up (xm_up J 1 6 (J 74 6)) 1 7 ((xm_up J 1 6 (J 74 6)) 74 7)) 74 8)) 1 9 ((xm_up (xm_up (xm_up J 1 6 (J 74 6)) 1 7 ((xm_up J 1 6 (J 74 6)) 74 7)) 1 8 ((xm_up (xm_up J 1 6 (J 74 6)) 1 7 ((xm_up J 1 6 (J 74 6)) 74 7)) 74 8)) 74 9)) 1 10 ((xm_up (xm_up (xm_up (xm_up J 1 6 (J 74 6)) 1 7 ((xm_up J 1 6 (J 74 6)) 74 7)) 1 8 ((xm_up (xm_up J 1 6 (J 74 6)) 1 7 ((xm_up J 1 6 (J 74 6)) 74 7)) 74 8)) 1 9 ((xm_up (xm_up (xm_up J 1 6 (J 74 6)) 1 7 ((xm_up J 1 6 (J 74 6)) 74 7)) 1 8 ((xm_up (xm_up J 1 6 (J 74 6)) 1 7 ((xm_up J 1 6 (J 74 6)) 74 7)) 74 8)) 74 9)) 74 10)) 74 11)) 74 12)) 1 13 ((xm_up (xm_up (xm_up (xm_up (xm_up (xm_up (xm_up J 1 6 (J 74 6)) 1 7 ((xm_up J 1 6 (J 74 6)) 74 7)) 1 8 ((xm_up (xm_up J 1 6 (J 74 6)) 1 7 ((xm_up J 1 6 (J 74 6)) 74 7)) 74 8)) 1 9 ((xm_up (xm_up (xm_up J 1 6 (J 74 6)) 1 7 ((xm_up J 1 6 (J 74 6)) 74 7)) 1 8 ((xm_up (xm_up J 1 6 (J 74 6)) 1 7 ((xm_up J 1 6 (J 74 6)) 74 7)) 74 8)) 74 9)) 1 10 ((xm_up (xm_up (xm_up (xm_up J 1 6 (J 74 6)) 1 7 ((xm_up J 1 6 (J 74 6)) 74 7)) 1 8 ((xm_up (xm_up J 1 6 (J 74 6)) 1 7 ((xm_up J 1 6 (J 74 6)) 74 7)) 74 8)) 1 9 ((xm_up (xm_up (xm_up J 1 6 (J 74 6)) 1 7 ((xm_up J 1 6 (J 74 6)) 74 7)) 1 8 ((xm_up (xm_up J 1 6 (J 74 6)) 1 7 ((xm_up J 1 6 (J 74 6)) 74 7)) 74 8)) 74 9)) 74 10)) 1 11 ((xm_up (xm_up (xm_up (xm_up (xm_up J 1 6 (J 74 6)) 1 7 ((xm_up J 1 6 (J 74 6)) 74 7)) 1 8 ((xm_up (xm_up J 1 6 (J 74 6)) 1 7 ((xm_up J 1 6 (J 74 6)) 74 7)) 74 8)) 1 9 ((xm_up (xm_up (xm_up J 1 6 (J 74 6)) 1 7 ((xm_up J 1 6 (J 74 6)) 74 7)) 1 8 ((xm_up (xm_up J 1 6 (J 74 6)) 1 7 ((xm_up J 1 6 (J 74 6)) 74 7)) 74 8)) 74 9)) 1 10 ((xm_up (xm_up (xm_up (xm_up J 1 6 (J 74 6)) 1 7 ((xm_up J 1 6 (J 74 6)) 74 7)) 1 8 ((xm_up (xm_up J 1 6 (J 74 6)) 1 7 ((xm_up J 1 6 (J 74 6)) 74 7)) 74 8)) 1 9 ((xm_up (xm_up (xm_up J 1 6 (J 74 6)) 1 7 ((xm_up J 1 6 (J 74 6)) 74 7)) 1 8 ((xm_up (xm_up J 1 6 (J 74 6)) 1 7 ((xm_up J 1 6 (J 74 6)) 74 7)) 74 8)) 74 9)) 74 10)) 74 11)) 1 12 ((xm_up (xm_up (xm_up (xm_up (xm_up (xm_up J 1 6 (J 74 6)) 1 7 ((xm_up J 1 6 (J 74 6)) 74 7)) 1 8 ((xm_up (xm_up J 1 6 (J 74 6)) 1 7 ((xm_up J 1 6 (J 74 6)) 74 7)) 74 8)) 1 9 ((xm_up (xm_up (xm_up J 1 6 (J 74 6)) 1 7 ((xm_up J 1 6 (J 74 6)) 74 7)) 1 8 ((xm_up (xm_up J 1 6 (J 74 6)) 1 7 ((xm_up J 1 6 (J 74 6)) 74 7)) 74 8)) 74 9)) 1 10 ((xm_up (xm_up (xm_up (xm_up J 1 6 (J 74 6)) 1 7 ((xm_up J 1 6 (J 74 6)) 74 7)) 1 8 ((xm_up (xm_up J 1 6 (J 74 6)) 1 7 ((xm_up J 1 6 (J 74 6)) 74 7)) 74 8)) 1 9 ((xm_up (xm_up (xm_up J 1 6 (J 74 6)) 1 7 ((xm_up J 1 6 (J 74 6)) 74 7)) 1 8 ((xm_up (xm_up J 1 6 (J 74 6)) 1 7 ((xm_up J 1 6 (J 74 6)) 74 7)) 74 8)) 74 9)) 74 10)) 1 11 ((xm_up (xm_up (xm_up (xm_up (xm_up J 1 6 (J 74 6)) 1 7 ((xm_up J 1 6 (J 74 6)) 74 7)) 1 8 ((xm_up (xm_up J 1 6 (J 74 6)) 1 7 ((xm_up J 1 6 (J 74 6)) 74 7)) 74 8)) 1 9 ((xm_up (xm_up (xm_up J 1 6 (J 74 6)) 1 7 ((xm_up J 1 6 (J 74 6)) 74 7)) 1 8 ((xm_up (xm_up J 1 6 (J 74 6)) 1 7 ((xm_up J 1 6 (J 74 6)) 74 7)) 74 8)) 74 9)) 1 10 ((xm_up (xm_up (xm_up (xm_up J 1 6 (J 74 6)) 1 7 ((xm_up J 1 6 (J 74 6)) 74 7)) 1 8 ((xm_up (xm_up J 1 6 (J 74 6)) 1 7 ((xm_up J 1 6 (J 74 6)) 74 7)) 74 8)) 1 9 ((xm_up (xm_up (xm_up J 1 6 (J 74 6)) 1 7 ((xm_up J 1 6 (J 74 6)) 74 7)) 1 8 ((xm_up (xm_up J 1 6 (J 74 6)) 1 7 ((xm_up J 1 6 (J 74 6)) 74 7)) 74 8)) 74 9)) 74 10)) 74 11)) 74 12)) 74 13), L, xP true)) rfl ⟨rfl, rfl, rfl, rfl, rfl, rfl, rfl, rfl, rfl, rfl, rfl, rfl, rfl, rfl, rfl, rfl, trivial⟩ ?_
      obtain ⟨K, hKK⟩ : ∃ K, K = xm_up (xm_up (xm_up (xm_up (xm_up (xm_up (xm_up (xm_up (J) 1 6 (J 74 6)) 1 7 (J 74 7)) 1 8 (J 74 8)) 1 9 (J 74 9)) 1 10 (J 74 10)) 1 11 (J 74 11)) 1 12 (J 74 12)) 1 13 (J 74 13) := ⟨_, rfl⟩
      have k1 : ∀ a, a ≠ 1 → K a = J a := fun a ha => by
        rw [hKK, xm_up_o ha, xm_up_o ha, xm_up_o ha, xm_up_o ha, xm_up_o ha, xm_up_o ha, xm_up_o ha, xm_up_o ha]
      have k2 : ∀ k, k < 6 → K 1 k = J 1 k := fun k hk => by
        rw [hKK, xm_up_ne (Or.inr (by omega)), xm_up_ne (Or.inr (by omega)), xm_up_ne (Or.inr (by omega)), xm_up_ne (Or.inr (by omega)), xm_up_ne (Or.inr (by omega)), xm_up_ne (Or.inr (by omega)), xm_up_ne (Or.inr (by omega)), xm_up_ne (Or.inr (by omega))]
      have k3 : ∀ k, 6 ≤ k → k < 14 → K 1 k = J 74 k := fun k h1 h2 => by
        rw [hKK]
        match k, h1, h2 with
        | 6, _, _ => rfl
        | 7, _, _ => rfl
        | 8, _, _ => rfl
        | 9, _, _ => rfl
        | 10, _, _ => rfl
        | 11, _, _ => rfl
        | 12, _, _ => rfl
        | 13, _, _ => rfl
      refine xw_at (f' := (132, [.ref 1, .ref 74, .int (nI (N 2))], [])) (h' := (xS true, K, L, xP true)) rfl (by rw [hKK]; rfl) ?_
      clear hKK
      refine xw_go xb_89 4 (f1 := (140, [.ref 1, .ref 74, .int (nI (N 2))], [.ref 78, .ref 5])) (h1 := (xS true, K, L, xP true)) rfl ⟨rfl, rfl, trivial⟩ ?_
      refine xw_call xb_89 rfl rfl rfl rfl rfl (Or.inr ⟨_, _, rfl, rfl⟩) (c_past1 (I := K)) ?_
      rintro _ _ ⟨rfl, M, rfl, m1, m2, m3, m4⟩
      refine xw_at (f' := (143, [.ref 1, .ref 74, .int (nI (N 2))], [])) (h' := (xS true, M, L, xP true)) rfl rfl ?_
      refine xw_ret xb_89 rfl rfl trivial ?_
      refine ⟨rfl, M, rfl, ?_, fun a ha => ?_⟩
      · obtain ⟨nx, n1, n2, n3, n4⟩ := hP.2
        have mp : M 1 = K 1 := m1 _ (by decide) (by decide)
        have kq : ∀ k, 6 ≤ k → k < 14 → M 1 k = I 74 k := fun k h1 h2 => by rw [mp, k3 k h1 h2, j4 74 (by decide) (by decide)]
        have kg : ∀ k, k ≠ 5 → k < 6 → True := fun _ _ _ => trivial
        have ip : ∀ k, k < 2 → M 1 k = I 74 k := fun k hk => by
          rw [mp, k2 k (by omega)]
          exact j5 k hk
        refine ⟨⟨⟨?_, ?_, ?_, ?_, ?_, ?_, ?_, ?_, ?_, ?_, ?_⟩, fun c hc => ?_, fun c hc => ?_, fun i hi f hf => ?_⟩, nx, n1, ?_, ?_, fun j hj i hi hr => ?_⟩
        · rw [ip 0 (by decide)]; exact hN.1.1
        · rw [ip 1 (by decide)]; exact hN.1.2.1
        · rw [mp, k2 5 (by decide), j2]
        · rw [kq 6 (by decide) (by decide)]; exact hN.1.2.2.2.1
        · rw [kq 11 (by decide) (by decide)]; exact hN.1.2.2.2.2.1
        · rw [kq 7 (by decide) (by decide)]; exact hN.1.2.2.2.2.2.1
        · rw [kq 8 (by decide) (by decide)]; exact hN.1.2.2.2.2.2.2.1
        · rw [kq 9 (by decide) (by decide)]; exact hN.1.2.2.2.2.2.2.2.1
        · rw [kq 10 (by decide) (by decide)]; exact hN.1.2.2.2.2.2.2.2.2.1
        · rw [kq 12 (by decide) (by decide)]; exact hN.1.2.2.2.2.2.2.2.2.2.1
        · rw [kq 13 (by decide) (by decide)]; exact hN.1.2.2.2.2.2.2.2.2.2.2
        · rw [m1 _ (by decide) (by decide), k1 _ (by decide), j1 _ (by decide) (by decide) (by decide), q2 c hc]; exact hN.2.1 c hc
        · rw [m1 _ (by decide) (by decide), k1 _ (by decide), j1 _ (by decide) (by decide) (by decide), q3 c hc]; exact hN.2.2.1 c hc
        · rw [m1 _ (by omega) (by omega), k1 _ (by omega)]; exact j3 i hi f hf
        · rw [m2, k1 _ (by decide), j4 _ (by decide) (by decide)]; exact n2
        · rw [m3, k1 _ (by decide), j4 _ (by decide) (by decide)]; exact n3
        · rw [m4 _ (by omega) i hi, k1 _ (by omega), j4 _ (by omega) (by omega)]; exact n4 j hj i hi hr
      · rw [m1 a (by omega) (by omega), k1 a (by omega), j1 a (by omega) (by omega) (by omega), q1 a ha]
    · skip
      exfalso
      try simp only [xB_dec, Classical.not_not] at c_49
      try simp (disch := omega) only [xt_eq, xt_lt, xt_le, xkt_0, xkt_1, xkt_2, xkt_3, xkt_4, xkt_5, xkt_6, xkt_7, xkt_8, xkt_9, xkt_10, xkt_11, xkt_12, xkt_13, xkt_14, xkt_16, xkt_20, xkt_24, xkt_31, xkt_32, xkt_40, xkt_44, xkt_47, xkt_48, xkt_57, xkt_59, xkt_60, xkt_63, xkt_64, xkt_65, xkt_72, xkt_95, xkt_99, xkt_100, xkt_101, xkt_103, xkt_110, xkt_112, xkt_113, xkt_114, xkt_119, xkt_126, xkt_159, xkt_576, xkt_999, xkt_9999, xkt_65536, xkt_999999, xkt_m1, xkt_m2, xkt_m3, xkt_m4, xkt_m11, xkt_m12, xkt_m13, xkt_m14, xkt_m20, xjt_0, xjt_1, xjt_2, xjt_3, xjt_4, xjt_5, xjt_6, xjt_7, xjt_8, xjt_9, xjt_10, xjt_11, xjt_12, xjt_13, xjt_14, xjt_16, xjt_20, xjt_24, xjt_31, xjt_32, xjt_40, xjt_44, xjt_47, xjt_48, xjt_57, xjt_59, xjt_60, xjt_63, xjt_64, xjt_65, xjt_72, xjt_95, xjt_99, xjt_100, xjt_101, xjt_103, xjt_110, xjt_112, xjt_113, xjt_114, xjt_119, xjt_126, xjt_159, xjt_576, xjt_999, xjt_9999, xjt_65536, xjt_999999, xt64, xt_n, not_true_eq_false, not_false_eq_true, Classical.not_not] at c_49
      all_goals omega

theorem c_past74 {d : Nat} {I : Nat → Nat → Int32} {L : Nat → Nat → Int64}  : xm_Z (d + 1) 90 [.ref 78, .ref 5] (xS true, I, L, xP true) (fun rz hz => rz = none ∧ ∃ I', hz = (xS true, I', L, xP true) ∧ (∀ a, a ≠ 78 → a < 80 ∨ 88 ≤ a → I' a = I a) ∧ I' 78 1 = I 5 1 ∧ I' 78 2 = I 5 2 ∧ ∀ j, j < 8 → ∀ k, k < 72 → I' (80 + j) k = I (7 + j) k) := by
  refine xw_S xb_90 (l := [.ref 78, .ref 5, .float 0]) (Nat.le_of_ble_eq_true rfl) rfl ?_
  refine xw_go xb_90 2 (f1 := (2, [.ref 78, .ref 5, .int 0], [])) (h1 := (xS true, I, L, xP true)) rfl trivial ?_
  refine xw_at (f' := (2, [.ref 78, .ref 5, .int (nI 0)], [])) (h' := (xS true, I, L, xP true)) rfl rfl ?_
  refine xw_loopP 8 (fun i => (2, [.ref 78, .ref 5, .int (nI i)], [])) (fun i h => ∃ J, h = (xS true, J, L, xP true) ∧ (∀ a, a < 80 ∨ 88 ≤ a → J a = I a) ∧ ∀ j, j < i → ∀ k, k < 72 → J (80 + j) k = I (7 + j) k) (fun i h hi hV ih => ?_) (fun h hV => ?_) 0 _ (Nat.zero_le _) ⟨I, rfl, fun _ _ => rfl, fun j hj => absurd hj (Nat.not_lt_zero j)⟩
  · obtain ⟨J, rfl, j1, j2⟩ := hV
    refine xw_go xb_90 3 (f1 := (if 8 ≤ (nI i) then 33 else 8, [.ref 78, .ref 5, .int (nI i)], [])) (h1 := (xS true, J, L, xP true)) rfl trivial ?_
    refine xw_if (fun c_5 => ?_) (fun c_5 => ?_)
    · skip
      exfalso
      try simp only [xB_dec, Classical.not_not] at c_5
      try simp (disch := omega) only [xt_eq, xt_lt, xt_le, xkt_0, xkt_1, xkt_2, xkt_3, xkt_4, xkt_5, xkt_6, xkt_7, xkt_8, xkt_9, xkt_10, xkt_11, xkt_12, xkt_13, xkt_14, xkt_16, xkt_20, xkt_24, xkt_31, xkt_32, xkt_40, xkt_44, xkt_47, xkt_48, xkt_57, xkt_59, xkt_60, xkt_63, xkt_64, xkt_65, xkt_72, xkt_95, xkt_99, xkt_100, xkt_101, xkt_103, xkt_110, xkt_112, xkt_113, xkt_114, xkt_119, xkt_126, xkt_159, xkt_576, xkt_999, xkt_9999, xkt_65536, xkt_999999, xkt_m1, xkt_m2, xkt_m3, xkt_m4, xkt_m11, xkt_m12, xkt_m13, xkt_m14, xkt_m20, xjt_0, xjt_1, xjt_2, xjt_3, xjt_4, xjt_5, xjt_6, xjt_7, xjt_8, xjt_9, xjt_10, xjt_11, xjt_12, xjt_13, xjt_14, xjt_16, xjt_20, xjt_24, xjt_31, xjt_32, xjt_40, xjt_44, xjt_47, xjt_48, xjt_57, xjt_59, xjt_60, xjt_63, xjt_64, xjt_65, xjt_72, xjt_95, xjt_99, xjt_100, xjt_101, xjt_103, xjt_110, xjt_112, xjt_113, xjt_114, xjt_119, xjt_126, xjt_159, xjt_576, xjt_999, xjt_9999, xjt_65536, xjt_999999, xt64, xt_n, not_true_eq_false, not_false_eq_true, Classical.not_not] at c_5
      all_goals omega
    · skip
      refine xw_go xb_90 4 (f1 := (14, [.ref 78, .ref 5, .int (nI i)], [xm_o (xP true 6 (nI i).toNatClampNeg)])) (h1 := (xS true, J, L, xP true)) rfl ⟨rfl, (xn_ar (n := i) (N := 8) rfl (by omega) (by decide)), ⟨Nat.le_of_ble_eq_true rfl, Nat.le_of_ble_eq_true rfl⟩, trivial⟩ ?_
      refine xw_cong (l' := [.ref 78, .ref 5, .int (nI i)]) (st' := [.ref (7 + i)]) (h' := (xS true, J, L, xP true)) rfl (show ([xm_o (xP true 6 (nI i).toNatClampNeg)] : List Value) = [.ref (7 + i)] from ?_) rfl ?_
      · rw [xn_cl (by omega), xP_6 hi]
        rfl
      refine xw_go xb_90 5 (f1 := (21, [.ref 78, .ref 5, .int (nI i)], [xm_o (xP true 79 (nI i).toNatClampNeg), .int 0, .ref (7 + i)])) (h1 := (xS true, J, L, xP true)) rfl ⟨rfl, (xn_ar (n := i) (N := 8) rfl (by omega) (by decide)), ⟨Nat.le_of_ble_eq_true rfl, Nat.le_of_ble_eq_true rfl⟩, trivial⟩ ?_
      refine xw_cong (l' := [.ref 78, .ref 5, .int (nI i)]) (st' := [.ref (80 + i), .int 0, .ref (7 + i)]) (h' := (xS true, J, L, xP true)) rfl (show ([xm_o (xP true 79 (nI i).toNatClampNeg), .int 0, .ref (7 + i)] : List Value) = [.ref (80 + i), .int 0, .ref (7 + i)] from ?_) rfl ?_
      · rw [xn_cl (by omega), xP_79 hi]
        rfl
      refine xw_go xb_90 2 (f1 := (24, [.ref 78, .ref 5, .int (nI i)], [.int 72, .int 0, .ref (80 + i), .int 0, .ref (7 + i)])) (h1 := (xS true, J, L, xP true)) rfl trivial ?_
      refine xw_cpI xb_90 rfl rfl rfl ⟨72, 72, xS_7 (b := true) hi, xS_80 hi, by decide, by decide, by decide, by decide, by decide⟩ ?_
      refine xw_at (f' := (27, [.ref 78, .ref 5, .int (nI i)], [])) (h' := (xS true, va_up J (80 + i) (va_cpy (J (7 + i)) (J (80 + i)) (0 : Int32).toNatClampNeg (0 : Int32).toNatClampNeg (72 : Int32).toNatClampNeg), L, xP true)) rfl rfl ?_
      refine xw_go xb_90 2 (f1 := (2, [.ref 78, .ref 5, .int ((nI i) + 1)], [])) (h1 := (xS true, va_up J (80 + i) (va_cpy (J (7 + i)) (J (80 + i)) (0 : Int32).toNatClampNeg (0 : Int32).toNatClampNeg (72 : Int32).toNatClampNeg), L, xP true)) rfl trivial ?_
      refine xw_cong ?_ rfl rfl (ih _ ⟨_, rfl, fun a ha => ?_, fun j hj k hk => ?_⟩)
      · rw [nI_1]
      · rw [xm_vu_o (by omega)]
        exact j1 a ha
      · by_cases e : j = i
        · subst e
          rw [xvu_at]
          show va_cpy _ _ 0 0 72 k = _
          rw [xcy_d hk, j1 _ (by omega)]
        · rw [xm_vu_o (by omega)]
          exact j2 j (by omega) k hk
  · obtain ⟨J, rfl, j1, j2⟩ := hV
    refine xw_go xb_90 3 (f1 := (if 8 ≤ (nI 8) then 33 else 8, [.ref 78, .ref 5, .int (nI 8)], [])) (h1 := (xS true, J, L, xP true)) rfl trivial ?_
    refine xw_if (fun c_5 => ?_) (fun c_5 => ?_)
    · skip
      refine xw_go xb_90 8 (f1 := (49, [.ref 78, .ref 5, .int (nI 8)], [])) (h1 := (xS true, xm_up (xm_up J 78 1 (J 5 1)) 78 2 ((xm_up J 78 1 (J 5 1)) 5 2), L, xP true)) rfl ⟨rfl, rfl, rfl, rfl, trivial⟩ ?_
      refine xw_ret xb_90 rfl rfl trivial ?_
      refine ⟨rfl, _, rfl, fun a h1 h2 => ?_, ?_, ?_, fun j hj k hk => ?_⟩
      · rw [xm_up_o h1, xm_up_o h1]
        exact j1 a h2
      · rw [xm_up_ne (Or.inr (by decide)), xm_up_at, j1 _ (by omega)]
      · rw [xm_up_at, xm_up_o (by decide), j1 _ (by omega)]
      · rw [xm_up_o (by omega), xm_up_o (by omega)]
        exact j2 j hj k hk
    · skip
      exfalso
      try simp only [xB_dec, Classical.not_not] at c_5
      try simp (disch := omega) only [xt_eq, xt_lt, xt_le, xkt_0, xkt_1, xkt_2, xkt_3, xkt_4, xkt_5, xkt_6, xkt_7, xkt_8, xkt_9, xkt_10, xkt_11, xkt_12, xkt_13, xkt_14, xkt_16, xkt_20, xkt_24, xkt_31, xkt_32, xkt_40, xkt_44, xkt_47, xkt_48, xkt_57, xkt_59, xkt_60, xkt_63, xkt_64, xkt_65, xkt_72, xkt_95, xkt_99, xkt_100, xkt_101, xkt_103, xkt_110, xkt_112, xkt_113, xkt_114, xkt_119, xkt_126, xkt_159, xkt_576, xkt_999, xkt_9999, xkt_65536, xkt_999999, xkt_m1, xkt_m2, xkt_m3, xkt_m4, xkt_m11, xkt_m12, xkt_m13, xkt_m14, xkt_m20, xjt_0, xjt_1, xjt_2, xjt_3, xjt_4, xjt_5, xjt_6, xjt_7, xjt_8, xjt_9, xjt_10, xjt_11, xjt_12, xjt_13, xjt_14, xjt_16, xjt_20, xjt_24, xjt_31, xjt_32, xjt_40, xjt_44, xjt_47, xjt_48, xjt_57, xjt_59, xjt_60, xjt_63, xjt_64, xjt_65, xjt_72, xjt_95, xjt_99, xjt_100, xjt_101, xjt_103, xjt_110, xjt_112, xjt_113, xjt_114, xjt_119, xjt_126, xjt_159, xjt_576, xjt_999, xjt_9999, xjt_65536, xjt_999999, xt64, xt_n, not_true_eq_false, not_false_eq_true, Classical.not_not] at c_5
      all_goals omega

theorem c_like74 {d : Nat} {I : Nat → Nat → Int32} {L : Nat → Nat → Int64} {N : Nat → Nat} {u : Nat} {U : Nat → Nat → Nat} (hP : xPL N u U 1 I) (hK : xUK N u U) : xm_Z (d + 4) 89 [.ref 74, .ref 1] (xS true, I, L, xP true) (fun rz hz => rz = none ∧ ∃ I', hz = (xS true, I', L, xP true) ∧ xPL N u U 74 I' ∧ ∀ a, a < 74 ∨ 93 ≤ a → I' a = I a) := by
  have hN := hP.1
  have hO := hK.1
  have hb := hK.1.1
  refine xw_S xb_89 (l := [.ref 74, .ref 1, .float 0]) (Nat.le_of_ble_eq_true rfl) rfl ?_
  refine xw_go xb_89 5 (f1 := (9, [.ref 74, .ref 1, .float 0], [.int (I 1 1), .int (I 1 0), .ref 74])) (h1 := (xS true, I, L, xP true)) rfl ⟨rfl, rfl, trivial⟩ ?_
  refine xw_call xb_89 rfl rfl rfl rfl rfl (Or.inr ⟨_, _, rfl, rfl⟩) (c_begin74 (I := I) (x := I 1 0) (y := I 1 1)) ?_
  rintro _ _ ⟨rfl, I1, rfl, g1, g2, g3, g4, g5, g6, g7, g8, g9, g10, g11, g12⟩
  refine xw_at (f' := (12, [.ref 74, .ref 1, .float 0], [])) (h' := (xS true, I1, L, xP true)) rfl rfl ?_
  refine xw_go xb_89 7 (f1 := (24, [.ref 74, .ref 1, .float 0], [.int 64, .int 0, .ref 75, .int 0, .ref 2])) (h1 := (xS true, I1, L, xP true)) rfl ⟨rfl, rfl, trivial⟩ ?_
  refine xw_cpI xb_89 rfl rfl rfl ⟨64, 64, rfl, rfl, by decide, by decide, by decide, by decide, by decide⟩ ?_
  refine xw_at (f' := (27, [.ref 74, .ref 1, .float 0], [])) (h' := (xS true, va_up I1 75 (va_cpy (I1 2) (I1 75) (0 : Int32).toNatClampNeg (0 : Int32).toNatClampNeg (64 : Int32).toNatClampNeg), L, xP true)) rfl rfl ?_
  refine xw_go xb_89 7 (f1 := (39, [.ref 74, .ref 1, .float 0], [.int 64, .int 0, .ref 76, .int 0, .ref 3])) (h1 := (xS true, va_up I1 75 (va_cpy (I1 2) (I1 75) (0 : Int32).toNatClampNeg (0 : Int32).toNatClampNeg (64 : Int32).toNatClampNeg), L, xP true)) rfl ⟨rfl, rfl, trivial⟩ ?_
  refine xw_cpI xb_89 rfl rfl rfl ⟨64, 64, rfl, rfl, by decide, by decide, by decide, by decide, by decide⟩ ?_
  refine xw_at (f' := (42, [.ref 74, .ref 1, .float 0], [])) (h' := (xS true, va_up (va_up I1 75 (va_cpy (I1 2) (I1 75) (0 : Int32).toNatClampNeg (0 : Int32).toNatClampNeg (64 : Int32).toNatClampNeg)) 76 (va_cpy ((va_up I1 75 (va_cpy (I1 2) (I1 75) (0 : Int32).toNatClampNeg (0 : Int32).toNatClampNeg (64 : Int32).toNatClampNeg)) 3) ((va_up I1 75 (va_cpy (I1 2) (I1 75) (0 : Int32).toNatClampNeg (0 : Int32).toNatClampNeg (64 : Int32).toNatClampNeg)) 76) (0 : Int32).toNatClampNeg (0 : Int32).toNatClampNeg (64 : Int32).toNatClampNeg), L, xP true)) rfl rfl ?_
  refine xw_go xb_89 2 (f1 := (44, [.ref 74, .ref 1, .int 0], [])) (h1 := (xS true, va_up (va_up I1 75 (va_cpy (I1 2) (I1 75) (0 : Int32).toNatClampNeg (0 : Int32).toNatClampNeg (64 : Int32).toNatClampNeg)) 76 (va_cpy ((va_up I1 75 (va_cpy (I1 2) (I1 75) (0 : Int32).toNatClampNeg (0 : Int32).toNatClampNeg (64 : Int32).toNatClampNeg)) 3) ((va_up I1 75 (va_cpy (I1 2) (I1 75) (0 : Int32).toNatClampNeg (0 : Int32).toNatClampNeg (64 : Int32).toNatClampNeg)) 76) (0 : Int32).toNatClampNeg (0 : Int32).toNatClampNeg (64 : Int32).toNatClampNeg), L, xP true)) rfl trivial ?_
  obtain ⟨I2, hI2⟩ : ∃ I2, I2 = va_up (va_up I1 75 (va_cpy (I1 2) (I1 75) 0 0 64)) 76 (va_cpy ((va_up I1 75 (va_cpy (I1 2) (I1 75) 0 0 64)) 3) ((va_up I1 75 (va_cpy (I1 2) (I1 75) 0 0 64)) 76) 0 0 64) := ⟨_, rfl⟩
  have q1 : ∀ a, a < 74 ∨ 93 ≤ a → I2 a = I a := fun a ha => by
    rw [hI2, xm_vu_o (by omega), xm_vu_o (by omega)]
    exact g1 a (by simp only [List.mem_cons, List.not_mem_nil, or_false, not_or]; omega)
  have q2 : ∀ k, k < 64 → I2 75 k = I 2 k := fun k hk => by
    rw [hI2, xm_vu_o (by decide), xvu_at, xcy_d hk, g1 2 (by decide)]
  have q3 : ∀ k, k < 64 → I2 76 k = I 3 k := fun k hk => by
    rw [hI2, xvu_at, xcy_d hk, xm_vu_o (by decide), g1 3 (by decide)]
  have q4 : I2 74 = I1 74 := by
    rw [hI2, xm_vu_o (by decide), xm_vu_o (by decide)]
  refine xw_at (f' := (44, [.ref 74, .ref 1, .int (nI 0)], [])) (h' := (xS true, I2, L, xP true)) rfl (by rw [hI2]; rfl) ?_
  clear hI2
  refine xw_loopP (N 2) (fun i => (44, [.ref 74, .ref 1, .int (nI i)], [])) (fun i h => ∃ J, h = (xS true, J, L, xP true) ∧ (∀ a, a ≠ 74 → a ≠ 78 → a < 88 ∨ 93 ≤ a → J a = I2 a) ∧ J 74 5 = nI i ∧ (∀ k, k < 2 → J 74 k = I 1 k) ∧ ∀ j, j < i → ∀ f, f < 4 → J (88 + j) f = nI (N (11 + 4 * j + f))) (fun i h hi hV ih => ?_) (fun h hV => ?_) 0 _ (Nat.zero_le _) ⟨I2, rfl, fun _ _ _ _ => rfl, by rw [q4]; exact g4, fun k hk => by rw [q4]; match k, hk with | 0, _ => exact g2 | 1, _ => exact g3, fun j hj => absurd hj (Nat.not_lt_zero j)⟩
  · obtain ⟨J, rfl, j1, j2, j5, j3⟩ := hV
    have j4 : ∀ a, 1 ≤ a → a < 20 → J a = I a := fun a h1 h2 => by rw [j1 a (by omega) (by omega) (by omega), q1 a (by omega)]
    have sq : (xS true)[15 + i]? = some (11, 4) := xS_15 (by omega)
    refine xw_go xb_89 3 (f1 := (49, [.ref 74, .ref 1, .int (nI i)], [.int (J 1 5), .int (nI i)])) (h1 := (xS true, J, L, xP true)) rfl ⟨rfl, trivial⟩ ?_
    refine xw_cong (l' := [.ref 74, .ref 1, .int (nI i)]) (st' := [.int (nI (N 2)), .int (nI i)]) (h' := (xS true, J, L, xP true)) rfl (show ([.int (J 1 5), .int (nI i)] : List Value) = [.int (nI (N 2)), .int (nI i)] from ?_) rfl ?_
    · rw [j4 1 (by decide) (by decide), hN.1.2.2.1]
    refine xw_go xb_89 1 (f1 := (if (nI (N 2)) ≤ (nI i) then 68 else 52, [.ref 74, .ref 1, .int (nI i)], [])) (h1 := (xS true, J, L, xP true)) rfl trivial ?_
    refine xw_if (fun c_49 => ?_) (fun c_49 => ?_)
    · skip
      exfalso
      try simp only [xB_dec, Classical.not_not] at c_49
      try simp (disch := omega) only [xt_eq, xt_lt, xt_le, xkt_0, xkt_1, xkt_2, xkt_3, xkt_4, xkt_5, xkt_6, xkt_7, xkt_8, xkt_9, xkt_10, xkt_11, xkt_12, xkt_13, xkt_14, xkt_16, xkt_20, xkt_24, xkt_31, xkt_32, xkt_40, xkt_44, xkt_47, xkt_48, xkt_57, xkt_59, xkt_60, xkt_63, xkt_64, xkt_65, xkt_72, xkt_95, xkt_99, xkt_100, xkt_101, xkt_103, xkt_110, xkt_112, xkt_113, xkt_114, xkt_119, xkt_126, xkt_159, xkt_576, xkt_999, xkt_9999, xkt_65536, xkt_999999, xkt_m1, xkt_m2, xkt_m3, xkt_m4, xkt_m11, xkt_m12, xkt_m13, xkt_m14, xkt_m20, xjt_0, xjt_1, xjt_2, xjt_3, xjt_4, xjt_5, xjt_6, xjt_7, xjt_8, xjt_9, xjt_10, xjt_11, xjt_12, xjt_13, xjt_14, xjt_16, xjt_20, xjt_24, xjt_31, xjt_32, xjt_40, xjt_44, xjt_47, xjt_48, xjt_57, xjt_59, xjt_60, xjt_63, xjt_64, xjt_65, xjt_72, xjt_95, xjt_99, xjt_100, xjt_101, xjt_103, xjt_110, xjt_112, xjt_113, xjt_114, xjt_119, xjt_126, xjt_159, xjt_576, xjt_999, xjt_9999, xjt_65536, xjt_999999, xt64, xt_n, not_true_eq_false, not_false_eq_true, Classical.not_not] at c_49
      all_goals omega
    · skip
      refine xw_go xb_89 5 (f1 := (59, [.ref 74, .ref 1, .int (nI i)], [xm_o (xP true 4 (nI i).toNatClampNeg), .ref 74])) (h1 := (xS true, J, L, xP true)) rfl ⟨rfl, (xn_ar (n := i) (N := 5) rfl (by omega) (by decide)), ⟨Nat.le_of_ble_eq_true rfl, Nat.le_of_ble_eq_true rfl⟩, trivial⟩ ?_
      refine xw_cong (l' := [.ref 74, .ref 1, .int (nI i)]) (st' := [.ref (15 + i), .ref 74]) (h' := (xS true, J, L, xP true)) rfl (show ([xm_o (xP true 4 (nI i).toNatClampNeg), .ref 74] : List Value) = [.ref (15 + i), .ref 74] from ?_) rfl ?_
      · rw [xn_cl (by omega), xP_4 (by omega)]
        rfl
      refine xw_call xb_89 rfl rfl rfl rfl rfl (Or.inr ⟨_, _, rfl, rfl⟩) (c_addLike74 (I := J) (n := i) j2 (by omega) sq) ?_
      rintro _ _ ⟨rfl, rfl⟩
      refine xw_at (f' := (62, [.ref 74, .ref 1, .int (nI i)], [])) (h' := (xS true, xm_up (xm_up (xm_up (xm_up (xm_up (xm_up J (88 + i) 0 (J (15 + i) 0)) (88 + i) 1 (J (15 + i) 1)) (88 + i) 2 (J (15 + i) 2)) (88 + i) 3 (J (15 + i) 3)) 74 5 (nI (i + 1))) 78 1 0, L, xP true)) rfl rfl ?_
      refine xw_go xb_89 2 (f1 := (44, [.ref 74, .ref 1, .int ((nI i) + 1)], [])) (h1 := (xS true, xm_up (xm_up (xm_up (xm_up (xm_up (xm_up J (88 + i) 0 (J (15 + i) 0)) (88 + i) 1 (J (15 + i) 1)) (88 + i) 2 (J (15 + i) 2)) (88 + i) 3 (J (15 + i) 3)) 74 5 (nI (i + 1))) 78 1 0, L, xP true)) rfl trivial ?_
      refine xw_cong ?_ rfl rfl (ih _ ⟨_, rfl, fun a h1 h2 h3 => ?_, ?_, fun k hk => ?_, fun j hj f hf => ?_⟩)
      · rw [nI_1]
      · rw [xm_up_o h2, xm_up_o h1, xm_up_o (by omega), xm_up_o (by omega), xm_up_o (by omega), xm_up_o (by omega)]
        exact j1 a h1 h2 h3
      · rw [xm_up_o (by decide), xm_up_at]
      · rw [xm_up_o (by decide), xm_up_ne (Or.inr (by omega)), xm_up_o (by omega), xm_up_o (by omega), xm_up_o (by omega), xm_up_o (by omega)]
        exact j5 k hk
      · rw [xm_up_o (by omega), xm_up_o (by omega)]
        by_cases e : j = i
        · subst e
          have b3 : ∀ f, f < 4 → J (15 + j) f = nI (N (11 + 4 * j + f)) := fun f hf => by
            rw [j4 _ (by omega) (by omega), ← hN.2.2.2 j (by omega) f hf]
          match f, hf with
          | 0, hf => rw [xm_up_ne (Or.inr (by decide)), xm_up_ne (Or.inr (by decide)), xm_up_ne (Or.inr (by decide)), xm_up_at]; exact b3 0 hf
          | 1, hf => rw [xm_up_ne (Or.inr (by decide)), xm_up_ne (Or.inr (by decide)), xm_up_at]; exact b3 1 hf
          | 2, hf => rw [xm_up_ne (Or.inr (by decide)), xm_up_at]; exact b3 2 hf
          | 3, hf => rw [xm_up_at]; exact b3 3 hf
        · rw [xm_up_o (by omega), xm_up_o (by omega), xm_up_o (by omega), xm_up_o (by omega)]
          exact j3 j (by omega) f hf
  · obtain ⟨J, rfl, j1, j2, j5, j3⟩ := hV
    have j4 : ∀ a, 1 ≤ a → a < 20 → J a = I a := fun a h1 h2 => by rw [j1 a (by omega) (by omega) (by omega), q1 a (by omega)]
    refine xw_go xb_89 3 (f1 := (49, [.ref 74, .ref 1, .int (nI (N 2))], [.int (J 1 5), .int (nI (N 2))])) (h1 := (xS true, J, L, xP true)) rfl ⟨rfl, trivial⟩ ?_
    refine xw_cong (l' := [.ref 74, .ref 1, .int (nI (N 2))]) (st' := [.int (nI (N 2)), .int (nI (N 2))]) (h' := (xS true, J, L, xP true)) rfl (show ([.int (J 1 5), .int (nI (N 2))] : List Value) = [.int (nI (N 2)), .int (nI (N 2))] from ?_) rfl ?_
    · rw [j4 1 (by decide) (by decide), hN.1.2.2.1]
    refine xw_go xb_89 1 (f1 := (if (nI (N 2)) ≤ (nI (N 2)) then 68 else 52, [.ref 74, .ref 1, .int (nI (N 2))], [])) (h1 := (xS true, J, L, xP true)) rfl trivial ?_
    refine xw_if (fun c_49 => ?_) (fun c_49 => ?_)
    · skip
      refine xw_go xb_89 32 (f1 := (132, [.ref 74, .ref 1, .int (nI (N 2))], [])) (h1 := (xS true, xm_up (xm_up (xm_up (xm_up (xm_up (xm_up (xm_up (xm_up J 74 6 (J 1 6)) 74 7 ((xm_up J 74 6 (J 1 6)) 1 7)) 74 8 ((xm_up (xm_up J 74 6 (J 1 6)) 74 7 ((xm_up J 74 6 (J 1 6)) 1 7)) 1 8)) 74 9 ((xm_up (xm_up (xm_up J 74 6 (J 1 6)) 74 7 ((xm_up J 74 6 (J 1 6)) 1 7)) 74 8 ((xm_up (xm_up J 74 6 (J 1 6)) 74 7 ((xm_up J 74 6 (J 1 6)) 1 7)) 1 8)) 1 9)) 74 10 ((xm_up (xm_up (xm_up (xm_up J 74 6 (J 1 6)) 74 7 ((xm_up J 74 6 (J 1 6)) 1 7)) 74 8 ((xm_up (xm_up J 74 6 (J 1 6)) 74 7 ((xm_up J 74 6 (J 1 6)) 1 7)) 1 8)) 74 9 ((xm_up (xm_up (xm_up J 74 6 (J 1 6)) 74 7 ((xm_up J 74 6 (J 1 6)) 1 7)) 74 8 ((xm_up (xm_up J 74 6 (J 1 6)) 74 7 ((xm_up J 74 6 (J 1 6)) 1 7)) 1 8)) 1 9)) 1 10)) 74 11 ((xm_up (xm_up (xm_up (xm_up (xm_up J 74 6 (J 1 6)) 74 7 ((xm_up J 74 6 (J 1 6)) 1 7)) 74 8 ((xm_up (xm_up J 74 6 (J 1 6)) 74 7 ((xm_up J 74 6 (J 1 6)) 1 7)) 1 8)) 74 9 ((xm_up (xm_up (xm_up J 74 6 (J 1 6)) 74 7 ((xm_up J 74 6 (J 1 6)) 1 7)) 74 8 ((xm_up (xm_up J 74 6 (J 1 6)) 74 7 ((xm_up J 74 6 (J 1 6)) 1 7)) 1 8)) 1 9)) 74 10 ((xm_up (xm_up (xm_up (xm_up J 74 6 (J 1 6)) 74 7 ((xm_up J 74 6 (J 1 6)) 1 7)) 74 8 ((xm_up (xm_up J 74 6 (J 1 6)) 74 7 ((xm_up J 74 6 (J 1 6)) 1 7)) 1 8)) 74 9 ((xm_up (xm_up (xm_up J 74 6 (J 1 6)) 74 7 ((xm_up J 74 6 (J 1 6)) 1 7)) 74 8 ((xm_up (xm_up J 74 6 (J 1 6)) 74 7 ((xm_up J 74 6 (J 1 6)) 1 7)) 1 8)) 1 9)) 1 10)) 1 11)) 74 12 ((xm_up (xm_up (xm_up (xm_up (xm_up (xm_up J 74 6 (J 1 6)) 74 7 ((xm_up J 74 6 (J 1 6)) 1 7)) 74 8 ((xm_up (xm_up J 74 6 (J 1 6)) 74 7 ((xm_up J 74 6 (J 1 6)) 1 7)) 1 8)) 74 9 ((xm_up (xm_up (xm_up J 74 6 (J 1 6)) 74 7 ((xm_up J 74 6 (J 1 6)) 1 7)) 74 8 ((xm_up (xm_up J 74 6 (J 1 6)) 74 7 ((xm_up J 74 6 (J 1 6)) 1 7)) 1 8)) 1 9)) 74 10 ((xm_up (xm_up (xm_up (xm_up J 74 6 (J 1 6)) 74 7 ((xm_up J 74 6 (J 1 6)) 1 7)) 74 8 ((xm_up (xm_up J 74 6 (J 1 6)) 74 7 ((xm_up J 74 6 (J 1 6)) 1 7)) 1 8)) 74 9 ((xm_up (xm_up (xm_up J 74 6 (J 1 6)) 74 7 ((xm_up J 74 6 (J 1 6)) 1 7)) 74 8 ((xm_up (xm_up J 74 6 (J 1 6)) 74 7 ((xm_up J 74 6 (J 1 6)) 1 7)) 1 8)) 1 9)) 1 10)) 74 11 ((xm_up (xm_up (xm_up (xm_up (xm_up J 74 6 (J 1 6)) 74 7 ((xm_up J 74 6 (J 1 6)) 1 7)) 74 8 ((xm_up (xm_up J 74 6 (J 1 6)) 74 7 ((xm_up J 74 6 (J 1 6)) 1 7)) 1 8)) 74 9 ((xm_up (xm_up (xm_up J 74 6 (J 1 6)) 74 7 ((xm_up J 74 6 (J 1 6)) 1 7)) 74 8 ((xm_up (xm_up J 74 6 (J 1 6)) 74 7 ((xm_up J 74 6 (J 1 6)) 1 7)) 1 8)) 1 9)) 74 10 ((xm_up (xm_up (xm_up (xm_up J 74 6 (J 1 6)) 74 7 ((xm_up J 74 6 (J 1 6)) 1 7)) 74 8 ((xm_up (xm_up J 74 6 (J 1 6)) 74 7 ((xm_up J 74 6 (J 1 6)) 1 7)) 1 8)) 74 9 ((xm_up (xm_up (xm_up J 74 6 (J 1 6)) 74 7 ((xm_up J 74 6 (J 1 6)) 1 7)) 74 8 ((xm_up (xm_up J 74 6 (J 1 6)) 74 7 ((xm_up J 74 6 (J 1 6)) 1 7)) 1 8)) 1 9)) 1 10)) 1 11)) 1 12)) 74 13 ((xm_up (xm_up (xm_up (xm_up (xm_up (xm_up (xm_up J 74 6 (J 1 6)) 74 7 ((xm_up J 74 6 (J 1 6)) 1 7)) 74 8 ((xm_up (xm_up J 74 6 (J 1 6)) 74 7 ((xm_up J 74 6 (J 1 6)) 1 7)) 1 8)) 74 9 ((xm_up (xm_up (xm_up J 74 6 (J 1 6)) 74 7 ((xm_up J 74 6 (J 1 6)) 1 7)) 74 8 ((xm_up (xm_up J 74 6 (J 1 6)) 74 7 ((xm_up J 74 6 (J 1 6)) 1 7)) 1 8)) 1 9)) 74 10 ((xm_up (xm_up (xm_up (xm_up J 74 6 (J 1 6)) 74 7 ((xm_up J 74 6 (J 1 6)) 1 7)) 74 8 ((xm_up (xm_up J 74 6 (J 1 6)) 74 7 ((xm_up J 74 6 (J 1 6)) 1 7)) 1 8)) 74 9 ((xm_up (xm_up (xm_up J 74 6 (J 1 6)) 74 7 ((xm_up J 74 6 (J 1 6)) 1 7)) 74 8 ((xm_up (xm_up J 74 6 (J 1 6)) 74 7 ((xm_up J 74 6 (J 1 6)) 1 7)) 1 8)) 1 9)) 1 10)) 74 11 ((xm_up (xm_up (xm_up (xm_up (xm_up J 74 6 (J 1 6)) 74 7 ((xm_up J 74 6 (J 1 6)) 1 7)) 74 8 ((xm_up (xm_up J 74 6 (J 1 6)) 74 7 ((xm_up J 74 6 (J 1 6)) 1 7)) 1 8)) 74 9 ((xm_up (xm_up (xm_up J 74 6 (J 1 6)) 74 7 ((xm_up J 74 6 (J 1 6)) 1 7)) 74 8 ((xm_up (xm_up J 74 6 (J 1 6)) 74 7 ((xm_up J 74 6 (J 1 6)) 1 7)) 1 8)) 1 9)) 74 10 ((xm_up (xm_up (xm_up (xm_up J 74 6 (J 1 6)) 74 7 ((xm_up J 74 6 (J 1 6)) 1 7)) 74 8 ((xm_up (xm_up J 74 6 (J 1 6)) 74 7 ((xm_up J 74 6 (J 1 6)) 1 7)) 1 8)) 74 9 ((xm_up (xm_up (xm_up J 74 6 (J 1 6)) 74 7 ((xm_up J 74 6 (J 1 6)) 1 7)) 74 8 ((xm_up (xm_up J 74 6 (J 1 6)) 74 7 ((xm_up J 74 6 (J 1 6)) 1 7)) 1 8)) 1 9)) 1 10)) 1 11)) 74 12 ((xm_up (xm_up (xm_up (xm_up (xm_up (xm_up J 74 6 (J 1 6)) 74 7 ((xm_up J 74 6 (J 1 6)) 1 7)) 74 8 ((xm_up (xm_up J 74 6 (J 1 6)) 74 7 ((xm_up J 74 6 (J 1 6)) 1 7)) 1 8)) 74 9 ((xm_up (xm_up (xm_up J 74 6 (J 1 6)) 74 7 ((xm_up J 74 6 (J 1 6)) 1 7)) 74 8 ((xm_up (xm_up J 74 6 (J 1 6)) 74 7 ((xm_up J 74 6 (J 1 6)) 1 7)) 1 8)) 1 9)) 74 10 ((xm_up (xm_up (xm_up (xm_up J 74 6 (J 1 6)) 74 7 ((xm_up J 74 6 (J 1 6)) 1 7)) 74 8 ((xm_up (xm_up J 74 6 (J 1 6)) 74 7 ((xm_up J 74 6 (J 1 6)) 1 7)) 1 8)) 74 9 ((xm_up (xm_up (xm_up J 74 6 (J 1 6)) 74 7 ((xm_up J 74 6 (J 1 6)) 1 7)) 74 8 ((xm_up (xm_up J 74 6 (J 1 6)) 74 7 ((xm_up J 74 6 (J 1 6)) 1 7)) 1 8)) 1 9)) 1 10)) 74 11 ((xm_up (xm_up (xm_up (xm_up (xm_up J 74 6 (J 1 6)) 74 7 ((xm_up J 74 6 (J 1 6)) 1 7)) 74 8 ((xm_up (xm_up J 74 6 (J 1 6)) 74 7 ((xm_up J 74 6 (J 1 6)) 1 7)) 1 8)) 74 9 ((xm_up (xm_up (xm_up J 74 6 (J 1 6)) 74 7 ((xm_up J 74 6 (J 1 6)) 1 7)) 74 8 ((xm_up (xm_up J 74 6 (J 1 6)) 74 7 ((xm_up J 74 6 (J 1 6)) 1 7)) 1 8)) 1 9)) 74 10 ((xm_up (xm_up (xm_up (xm_up J 74 6 (J 1 6)) 74 7 ((xm_up J 74 6 (J 1 6)) 1 7)) 74 8 ((xm_up (xm_up J 74 6 (J 1 6)) 74 7 ((xm_up J 74 6 (J 1 6)) 1 7)) 1 8)) 74 9 ((xm_up (xm_up (xm_up J 74 6 (J 1 6)) 74 7 ((xm_up J 74 6 (J 1 6)) 1 7)) 74 8 ((xm_up (xm_up J 74 6 (J 1 6)) 74 7 ((xm_up J 74 6 (J 1 6)) 1 7)) 1 8)) 1 9)) 1 10)) 1 11)) 1 12)) 1 13), L, xP true)) rfl ⟨rfl, rfl, rfl, rfl, rfl, rfl, rfl, rfl, rfl, rfl, rfl, rfl, rfl, rfl, rfl, rfl, trivial⟩ ?_
      obtain ⟨K, hKK⟩ : ∃ K, K = xm_up (xm_up (xm_up (xm_up (xm_up (xm_up (xm_up (xm_up (J) 74 6 (J 1 6)) 74 7 (J 1 7)) 74 8 (J 1 8)) 74 9 (J 1 9)) 74 10 (J 1 10)) 74 11 (J 1 11)) 74 12 (J 1 12)) 74 13 (J 1 13) := ⟨_, rfl⟩
      have k1 : ∀ a, a ≠ 74 → K a = J a := fun a ha => by
        rw [hKK, xm_up_o ha, xm_up_o ha, xm_up_o ha, xm_up_o ha, xm_up_o ha, xm_up_o ha, xm_up_o ha, xm_up_o ha]
      have k2 : ∀ k, k < 6 → K 74 k = J 74 k := fun k hk => by
        rw [hKK, xm_up_ne (Or.inr (by omega)), xm_up_ne (Or.inr (by omega)), xm_up_ne (Or.inr (by omega)), xm_up_ne (Or.inr (by omega)), xm_up_ne (Or.inr (by omega)), xm_up_ne (Or.inr (by omega)), xm_up_ne (Or.inr (by omega)), xm_up_ne (Or.inr (by omega))]
      have k3 : ∀ k, 6 ≤ k → k < 14 → K 74 k = J 1 k := fun k h1 h2 => by
        rw [hKK]
        match k, h1, h2 with
        | 6, _, _ => rfl
        | 7, _, _ => rfl
        | 8, _, _ => rfl
        | 9, _, _ => rfl
        | 10, _, _ => rfl
        | 11, _, _ => rfl
        | 12, _, _ => rfl
        | 13, _, _ => rfl
      refine xw_at (f' := (132, [.ref 74, .ref 1, .int (nI (N 2))], [])) (h' := (xS true, K, L, xP true)) rfl (by rw [hKK]; rfl) ?_
      clear hKK
      refine xw_go xb_89 4 (f1 := (140, [.ref 74, .ref 1, .int (nI (N 2))], [.ref 5, .ref 78])) (h1 := (xS true, K, L, xP true)) rfl ⟨rfl, rfl, trivial⟩ ?_
      refine xw_call xb_89 rfl rfl rfl rfl rfl (Or.inr ⟨_, _, rfl, rfl⟩) (c_past74 (I := K)) ?_
      rintro _ _ ⟨rfl, M, rfl, m1, m2, m3, m4⟩
      refine xw_at (f' := (143, [.ref 74, .ref 1, .int (nI (N 2))], [])) (h' := (xS true, M, L, xP true)) rfl rfl ?_
      refine xw_ret xb_89 rfl rfl trivial ?_
      refine ⟨rfl, M, rfl, ?_, fun a ha => ?_⟩
      · obtain ⟨nx, n1, n2, n3, n4⟩ := hP.2
        have mp : M 74 = K 74 := m1 _ (by decide) (by decide)
        have kq : ∀ k, 6 ≤ k → k < 14 → M 74 k = I 1 k := fun k h1 h2 => by rw [mp, k3 k h1 h2, j4 1 (by decide) (by decide)]
        have kg : ∀ k, k ≠ 5 → k < 6 → True := fun _ _ _ => trivial
        have ip : ∀ k, k < 2 → M 74 k = I 1 k := fun k hk => by
          rw [mp, k2 k (by omega)]
          exact j5 k hk
        refine ⟨⟨⟨?_, ?_, ?_, ?_, ?_, ?_, ?_, ?_, ?_, ?_, ?_⟩, fun c hc => ?_, fun c hc => ?_, fun i hi f hf => ?_⟩, nx, n1, ?_, ?_, fun j hj i hi hr => ?_⟩
        · rw [ip 0 (by decide)]; exact hN.1.1
        · rw [ip 1 (by decide)]; exact hN.1.2.1
        · rw [mp, k2 5 (by decide), j2]
        · rw [kq 6 (by decide) (by decide)]; exact hN.1.2.2.2.1
        · rw [kq 11 (by decide) (by decide)]; exact hN.1.2.2.2.2.1
        · rw [kq 7 (by decide) (by decide)]; exact hN.1.2.2.2.2.2.1
        · rw [kq 8 (by decide) (by decide)]; exact hN.1.2.2.2.2.2.2.1
        · rw [kq 9 (by decide) (by decide)]; exact hN.1.2.2.2.2.2.2.2.1
        · rw [kq 10 (by decide) (by decide)]; exact hN.1.2.2.2.2.2.2.2.2.1
        · rw [kq 12 (by decide) (by decide)]; exact hN.1.2.2.2.2.2.2.2.2.2.1
        · rw [kq 13 (by decide) (by decide)]; exact hN.1.2.2.2.2.2.2.2.2.2.2
        · rw [m1 _ (by decide) (by decide), k1 _ (by decide), j1 _ (by decide) (by decide) (by decide), q2 c hc]; exact hN.2.1 c hc
        · rw [m1 _ (by decide) (by decide), k1 _ (by decide), j1 _ (by decide) (by decide) (by decide), q3 c hc]; exact hN.2.2.1 c hc
        · rw [m1 _ (by omega) (by omega), k1 _ (by omega)]; exact j3 i hi f hf
        · rw [m2, k1 _ (by decide), j4 _ (by decide) (by decide)]; exact n2
        · rw [m3, k1 _ (by decide), j4 _ (by decide) (by decide)]; exact n3
        · rw [m4 _ (by omega) i hi, k1 _ (by omega), j4 _ (by omega) (by omega)]; exact n4 j hj i hi hr
      · rw [m1 a (by omega) (by omega), k1 a (by omega), j1 a (by omega) (by omega) (by omega), q1 a ha]
    · skip
      exfalso
      try simp only [xB_dec, Classical.not_not] at c_49
      try simp (disch := omega) only [xt_eq, xt_lt, xt_le, xkt_0, xkt_1, xkt_2, xkt_3, xkt_4, xkt_5, xkt_6, xkt_7, xkt_8, xkt_9, xkt_10, xkt_11, xkt_12, xkt_13, xkt_14, xkt_16, xkt_20, xkt_24, xkt_31, xkt_32, xkt_40, xkt_44, xkt_47, xkt_48, xkt_57, xkt_59, xkt_60, xkt_63, xkt_64, xkt_65, xkt_72, xkt_95, xkt_99, xkt_100, xkt_101, xkt_103, xkt_110, xkt_112, xkt_113, xkt_114, xkt_119, xkt_126, xkt_159, xkt_576, xkt_999, xkt_9999, xkt_65536, xkt_999999, xkt_m1, xkt_m2, xkt_m3, xkt_m4, xkt_m11, xkt_m12, xkt_m13, xkt_m14, xkt_m20, xjt_0, xjt_1, xjt_2, xjt_3, xjt_4, xjt_5, xjt_6, xjt_7, xjt_8, xjt_9, xjt_10, xjt_11, xjt_12, xjt_13, xjt_14, xjt_16, xjt_20, xjt_24, xjt_31, xjt_32, xjt_40, xjt_44, xjt_47, xjt_48, xjt_57, xjt_59, xjt_60, xjt_63, xjt_64, xjt_65, xjt_72, xjt_95, xjt_99, xjt_100, xjt_101, xjt_103, xjt_110, xjt_112, xjt_113, xjt_114, xjt_119, xjt_126, xjt_159, xjt_576, xjt_999, xjt_9999, xjt_65536, xjt_999999, xt64, xt_n, not_true_eq_false, not_false_eq_true, Classical.not_not] at c_49
      all_goals omega

