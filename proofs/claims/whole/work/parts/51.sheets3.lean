/-! ===== sheets of the model ===== -/
theorem xvu_at {α : Type} (f : Nat → α) (a : Nat) (g : α) : va_up f a g a = g := by simp [va_up]
theorem xg_le (x y : Int64) : lg_cmp x y ≤ 0 ↔ x.toInt ≤ y.toInt := by
  have := xg_gt x y
  rw [xt_lt] at this
  rw [xt_le]
  constructor
  · intro h
    refine Int.not_lt.mp fun q => ?_
    have := this.mpr q
    omega
  · intro h
    refine Int.not_lt.mp fun q => ?_
    have := this.mp q
    omega
theorem xadd64 (x y : Int32) : (x.toInt64 + y.toInt64).toInt = x.toInt + y.toInt := by
  have h1 := Int32.toInt_lt x
  have h2 := Int32.le_toInt x
  have h3 := Int32.toInt_lt y
  have h4 := Int32.le_toInt y
  rw [Int64.toInt_add, Int32.toInt_toInt64, Int32.toInt_toInt64]
  exact Int.bmod_eq_of_le (by omega) (by omega)
theorem m_isSheet {d : Nat} {b : Bool} {I : Nat → Nat → Int32} {L : Nat → Nat → Int64} {x : Int32} : xm_Z (d + 2) 163 [.int x] (xS b, I, L, xP b) (fun rz hz => rz = some (.int (nI (xB (decide (0 ≤ x.toInt ∧ x.toInt ≤ 3))))) ∧ hz = (xS b, I, L, xP b)) := by
  refine xw_S xb_163 (l := [.int x]) (Nat.le_of_ble_eq_true rfl) rfl ?_
  refine xw_go xb_163 4 (f1 := (6, [.int x], [.long 3, .long 0, .long x.toInt64])) (h1 := (xS b, I, L, xP b)) rfl trivial ?_
  refine xw_call xb_163 rfl rfl rfl rfl rfl (Or.inl rfl) m_in ?_
  rintro _ _ ⟨rfl, rfl⟩
  refine xw_at (f' := (9, [.int x], [.int (nI (xB (decide ((0 : Int64).toInt ≤ x.toInt64.toInt ∧ x.toInt64.toInt ≤ (3 : Int64).toInt))))])) (h' := (xS b, I, L, xP b)) rfl rfl ?_
  refine xw_ret xb_163 rfl rfl ?_ ?_
  · exact xB_01 _
  refine ⟨xm_some (congrArg Value.int ?_), rfl⟩
  congr 3
  apply propext
  rw [xt64, xjt_0, xjt_3]

theorem m_isLane {d : Nat} {b : Bool} {I : Nat → Nat → Int32} {L : Nat → Nat → Int64} {x : Int32} : xm_Z (d + 2) 164 [.int x] (xS b, I, L, xP b) (fun rz hz => rz = some (.int (nI (xB (decide (0 ≤ x.toInt ∧ x.toInt ≤ 3))))) ∧ hz = (xS b, I, L, xP b)) := by
  refine xw_S xb_164 (l := [.int x]) (Nat.le_of_ble_eq_true rfl) rfl ?_
  refine xw_go xb_164 4 (f1 := (6, [.int x], [.long 3, .long 0, .long x.toInt64])) (h1 := (xS b, I, L, xP b)) rfl trivial ?_
  refine xw_call xb_164 rfl rfl rfl rfl rfl (Or.inl rfl) m_in ?_
  rintro _ _ ⟨rfl, rfl⟩
  refine xw_at (f' := (9, [.int x], [.int (nI (xB (decide ((0 : Int64).toInt ≤ x.toInt64.toInt ∧ x.toInt64.toInt ≤ (3 : Int64).toInt))))])) (h' := (xS b, I, L, xP b)) rfl rfl ?_
  refine xw_ret xb_164 rfl rfl ?_ ?_
  · exact xB_01 _
  refine ⟨xm_some (congrArg Value.int ?_), rfl⟩
  congr 3
  apply propext
  rw [xt64, xjt_0, xjt_3]

theorem m_why {d : Nat} {b : Bool} {I : Nat → Nat → Int32} {L : Nat → Nat → Int64} {Y : xY} (hS : xSM Y I L) (hY : xYK Y) {s : Nat} (hs : s < 4) {la : Nat} (bl : la < 4) {i n : Int32} {x : Int32} (e_x : x = nI s) {y : Int32} (e_y : y = nI la) : xm_Z (d + 1) 165 [.ref 60, .int x, .int y, .int i, .int n] (xS b, I, L, xP b) (fun rz hz => rz = some (.int (xwy (Y s) la i n)) ∧ hz = (xS b, I, L, xP b)) := by
  subst e_x
  subst e_y
  obtain ⟨y0, y2, y3⟩ := hS s hs
  have hk := hY s hs
  refine xw_S xb_165 (l := [.ref 60, .int (nI s), .int (nI la), .int i, .int n]) (Nat.le_of_ble_eq_true rfl) rfl ?_
  refine xw_go xb_165 4 (f1 := (6, [.ref 60, .int (nI s), .int (nI la), .int i, .int n], [.int (I 70 (nI s).toNatClampNeg)])) (h1 := (xS b, I, L, xP b)) rfl ⟨rfl, (xn_ar (n := s) (N := 4) rfl (by omega) (by decide)), trivial⟩ ?_
  refine xw_cong (l' := [.ref 60, .int (nI s), .int (nI la), .int i, .int n]) (st' := [.int (xln (Y s))]) (h' := (xS b, I, L, xP b)) rfl (show ([.int (I 70 (nI s).toNatClampNeg)] : List Value) = [.int (xln (Y s))] from ?_) rfl ?_
  · rw [xn_cl (by omega), y0]
  refine xw_go xb_165 1 (f1 := (if 0 ≤ (xln (Y s)) then 12 else 9, [.ref 60, .int (nI s), .int (nI la), .int i, .int n], [])) (h1 := (xS b, I, L, xP b)) rfl trivial ?_
  refine xw_if (fun c_6 => ?_) (fun c_6 => ?_)
  · skip
    refine xw_go xb_165 4 (f1 := (18, [.ref 60, .int (nI s), .int (nI la), .int i, .int n], [.int (I 70 (nI s).toNatClampNeg)])) (h1 := (xS b, I, L, xP b)) rfl ⟨rfl, (xn_ar (n := s) (N := 4) rfl (by omega) (by decide)), trivial⟩ ?_
    refine xw_cong (l' := [.ref 60, .int (nI s), .int (nI la), .int i, .int n]) (st' := [.int (xln (Y s))]) (h' := (xS b, I, L, xP b)) rfl (show ([.int (I 70 (nI s).toNatClampNeg)] : List Value) = [.int (xln (Y s))] from ?_) rfl ?_
    · rw [xn_cl (by omega), y0]
    refine xw_go xb_165 2 (f1 := (if (xln (Y s)) = (nI la) then 25 else 22, [.ref 60, .int (nI s), .int (nI la), .int i, .int n], [])) (h1 := (xS b, I, L, xP b)) rfl trivial ?_
    refine xw_if (fun c_19 => ?_) (fun c_19 => ?_)
    · skip
      refine xw_go xb_165 2 (f1 := (if i < 0 then 51 else 29, [.ref 60, .int (nI s), .int (nI la), .int i, .int n], [])) (h1 := (xS b, I, L, xP b)) rfl trivial ?_
      refine xw_if (fun c_26 => ?_) (fun c_26 => ?_)
      · skip
        refine xw_go xb_165 2 (f1 := (57, [.ref 60, .int (nI s), .int (nI la), .int i, .int n], [.int (-13)])) (h1 := (xS b, I, L, xP b)) rfl trivial ?_
        refine xw_ret xb_165 rfl rfl trivial ?_
        refine ⟨xm_some (congrArg Value.int ?_), rfl⟩
        rw [xln_neg hk.1] at c_6
        rw [xln_t c_6, nI_eq (by omega) (by omega)] at c_19
        unfold xwy
        rw [if_neg (by rw [c_6]; decide), if_neg (fun q => q c_19)]
        try rw [xg_le, xadd64, xt64, xt_n (by omega)] at c_48
        (try rw [xt_lt, Int32.toInt_zero] at c_26)
        (try rw [xt_lt, Int32.toInt_zero] at c_31)
        rw [if_neg (by omega)]
      · skip
        refine xw_go xb_165 2 (f1 := (if n < 0 then 51 else 34, [.ref 60, .int (nI s), .int (nI la), .int i, .int n], [])) (h1 := (xS b, I, L, xP b)) rfl trivial ?_
        refine xw_if (fun c_31 => ?_) (fun c_31 => ?_)
        · skip
          refine xw_go xb_165 2 (f1 := (57, [.ref 60, .int (nI s), .int (nI la), .int i, .int n], [.int (-13)])) (h1 := (xS b, I, L, xP b)) rfl trivial ?_
          refine xw_ret xb_165 rfl rfl trivial ?_
          refine ⟨xm_some (congrArg Value.int ?_), rfl⟩
          rw [xln_neg hk.1] at c_6
          rw [xln_t c_6, nI_eq (by omega) (by omega)] at c_19
          unfold xwy
          rw [if_neg (by rw [c_6]; decide), if_neg (fun q => q c_19)]
          try rw [xg_le, xadd64, xt64, xt_n (by omega)] at c_48
          (try rw [xt_lt, Int32.toInt_zero] at c_26)
          (try rw [xt_lt, Int32.toInt_zero] at c_31)
          rw [if_neg (by omega)]
        · skip
          refine xw_go xb_165 9 (f1 := (46, [.ref 60, .int (nI s), .int (nI la), .int i, .int n], [.int (I 71 (nI s).toNatClampNeg), .long (i.toInt64 + n.toInt64)])) (h1 := (xS b, I, L, xP b)) rfl ⟨rfl, (xn_ar (n := s) (N := 4) rfl (by omega) (by decide)), trivial⟩ ?_
          refine xw_cong (l' := [.ref 60, .int (nI s), .int (nI la), .int i, .int n]) (st' := [.int (nI (Y s).2.2.1), .long (i.toInt64 + n.toInt64)]) (h' := (xS b, I, L, xP b)) rfl (show ([.int (I 71 (nI s).toNatClampNeg), .long (i.toInt64 + n.toInt64)] : List Value) = [.int (nI (Y s).2.2.1), .long (i.toInt64 + n.toInt64)] from ?_) rfl ?_
          · rw [xn_cl (by omega), y2]
          refine xw_go xb_165 3 (f1 := (if (lg_cmp (i.toInt64 + n.toInt64) ((nI (Y s).2.2.1).toInt64)) ≤ 0 then 56 else 51, [.ref 60, .int (nI s), .int (nI la), .int i, .int n], [])) (h1 := (xS b, I, L, xP b)) rfl trivial ?_
          refine xw_if (fun c_48 => ?_) (fun c_48 => ?_)
          · skip
            refine xw_go xb_165 1 (f1 := (57, [.ref 60, .int (nI s), .int (nI la), .int i, .int n], [.int 0])) (h1 := (xS b, I, L, xP b)) rfl trivial ?_
            refine xw_ret xb_165 rfl rfl trivial ?_
            refine ⟨xm_some (congrArg Value.int ?_), rfl⟩
            rw [xln_neg hk.1] at c_6
            rw [xln_t c_6, nI_eq (by omega) (by omega)] at c_19
            unfold xwy
            rw [if_neg (by rw [c_6]; decide), if_neg (fun q => q c_19)]
            try rw [xg_le, xadd64, xt64, xt_n (by omega)] at c_48
            (try rw [xt_lt, Int32.toInt_zero] at c_26)
            (try rw [xt_lt, Int32.toInt_zero] at c_31)
            rw [if_pos (by omega)]
          · skip
            refine xw_go xb_165 2 (f1 := (57, [.ref 60, .int (nI s), .int (nI la), .int i, .int n], [.int (-13)])) (h1 := (xS b, I, L, xP b)) rfl trivial ?_
            refine xw_ret xb_165 rfl rfl trivial ?_
            refine ⟨xm_some (congrArg Value.int ?_), rfl⟩
            rw [xln_neg hk.1] at c_6
            rw [xln_t c_6, nI_eq (by omega) (by omega)] at c_19
            unfold xwy
            rw [if_neg (by rw [c_6]; decide), if_neg (fun q => q c_19)]
            try rw [xg_le, xadd64, xt64, xt_n (by omega)] at c_48
            (try rw [xt_lt, Int32.toInt_zero] at c_26)
            (try rw [xt_lt, Int32.toInt_zero] at c_31)
            rw [if_neg (by omega)]
    · skip
      refine xw_go xb_165 1 (f1 := (24, [.ref 60, .int (nI s), .int (nI la), .int i, .int n], [.int (-12)])) (h1 := (xS b, I, L, xP b)) rfl trivial ?_
      refine xw_ret xb_165 rfl rfl trivial ?_
      refine ⟨xm_some (congrArg Value.int ?_), rfl⟩
      rw [xln_neg hk.1] at c_6
      rw [xln_t c_6] at c_19
      unfold xwy
      rw [if_neg (by rw [c_6]; decide), if_pos (fun q => c_19 (by rw [q]))]
  · skip
    refine xw_go xb_165 1 (f1 := (11, [.ref 60, .int (nI s), .int (nI la), .int i, .int n], [.int (-11)])) (h1 := (xS b, I, L, xP b)) rfl trivial ?_
    refine xw_ret xb_165 rfl rfl trivial ?_
    refine ⟨xm_some (congrArg Value.int ?_), rfl⟩
    unfold xwy
    rw [if_pos (by rw [xln_neg hk.1] at c_6; simpa using c_6)]

theorem m_cut {d : Nat} {b : Bool} {I : Nat → Nat → Int32} {L : Nat → Nat → Int64} {la : Nat} (bl : la < 4) {v : Int64} {x : Int32} (e_x : x = nI la) : xm_Z (d + 1) 167 [.int x, .long v] (xS b, I, L, xP b) (fun rz hz => rz = some (.long (xct la v)) ∧ hz = (xS b, I, L, xP b)) := by
  subst e_x
  refine xw_S xb_167 (l := [.int (nI la), .long v, .float 0]) (Nat.le_of_ble_eq_true rfl) rfl ?_
  refine xw_go xb_167 2 (f1 := (if ¬ (nI la) = 0 then 11 else 4, [.int (nI la), .long v, .float 0], [])) (h1 := (xS b, I, L, xP b)) rfl trivial ?_
  refine xw_if (fun c_1 => ?_) (fun c_1 => ?_)
  · skip
    refine xw_go xb_167 3 (f1 := (if ¬ (nI la) = 1 then 23 else 16, [.int (nI la), .long v, .float 0], [])) (h1 := (xS b, I, L, xP b)) rfl trivial ?_
    refine xw_if (fun c_13 => ?_) (fun c_13 => ?_)
    · skip
      refine xw_go xb_167 3 (f1 := (if ¬ (nI la) = 2 then 34 else 28, [.int (nI la), .long v, .float 0], [])) (h1 := (xS b, I, L, xP b)) rfl trivial ?_
      refine xw_if (fun c_25 => ?_) (fun c_25 => ?_)
      · skip
        refine xw_go xb_167 1 (f1 := (35, [.int (nI la), .long v, .float 0], [.long v])) (h1 := (xS b, I, L, xP b)) rfl trivial ?_
        refine xw_ret xb_167 rfl rfl trivial ?_
        refine ⟨xm_some (congrArg Value.long ?_), rfl⟩
        simp (disch := omega) only [xl_0, xl_1, xl_2, nI_eq, Classical.not_not] at c_1 c_13 c_25
        unfold xct
        (repeat' split) <;> first | rfl | omega
      · skip
        refine xw_go xb_167 4 (f1 := (35, [.int (nI la), .long v, .float 0], [.long v.toInt32.toInt64])) (h1 := (xS b, I, L, xP b)) rfl trivial ?_
        refine xw_ret xb_167 rfl rfl trivial ?_
        refine ⟨xm_some (congrArg Value.long ?_), rfl⟩
        simp (disch := omega) only [xl_0, xl_1, xl_2, nI_eq, Classical.not_not] at c_1 c_13 c_25
        unfold xct
        (repeat' split) <;> first | rfl | omega
    · skip
      refine xw_go xb_167 5 (f1 := (35, [.int (nI la), .long v, .float 0], [.long v.toInt32.toInt16.toInt32.toInt64])) (h1 := (xS b, I, L, xP b)) rfl trivial ?_
      refine xw_ret xb_167 rfl rfl trivial ?_
      refine ⟨xm_some (congrArg Value.long ?_), rfl⟩
      simp (disch := omega) only [xl_0, xl_1, xl_2, nI_eq, Classical.not_not] at c_1 c_13
      unfold xct
      (repeat' split) <;> first | rfl | omega
  · skip
    refine xw_go xb_167 5 (f1 := (35, [.int (nI la), .long v, .float 0], [.long v.toInt32.toInt8.toInt32.toInt64])) (h1 := (xS b, I, L, xP b)) rfl trivial ?_
    refine xw_ret xb_167 rfl rfl trivial ?_
    refine ⟨xm_some (congrArg Value.long ?_), rfl⟩
    simp (disch := omega) only [xl_0, xl_1, xl_2, nI_eq, Classical.not_not] at c_1
    unfold xct
    (repeat' split) <;> first | rfl | omega

theorem m_sheet0 {d : Nat} {b : Bool} {I : Nat → Nat → Int32} {L : Nat → Nat → Int64} {Y : xY} (hS : xSM Y I L) (hY : xYK Y) {x y z : Int32} (hx : ¬ (0 ≤ x.toInt ∧ x.toInt ≤ 3 ∧ 0 ≤ y.toInt ∧ y.toInt ≤ 3 ∧ z.toInt ≤ 24)) : xm_Z (d + 3) 168 [.ref 60, .int x, .int y, .int z] (xS b, I, L, xP b) (fun rz hz => xHM b I L (-1) Y rz hz) := by
  refine xw_S xb_168 (l := [.ref 60, .int x, .int y, .int z, .float 0]) (Nat.le_of_ble_eq_true rfl) rfl ?_
  refine xw_go xb_168 1 (f1 := (1, [.ref 60, .int x, .int y, .int z, .float 0], [.int x])) (h1 := (xS b, I, L, xP b)) rfl trivial ?_
  refine xw_call xb_168 rfl rfl rfl rfl rfl (Or.inl rfl) m_isSheet ?_
  rintro _ _ ⟨rfl, rfl⟩
  refine xw_at (f' := (4, [.ref 60, .int x, .int y, .int z, .float 0], [.int (nI (xB (decide (0 ≤ x.toInt ∧ x.toInt ≤ 3))))])) (h' := (xS b, I, L, xP b)) rfl rfl ?_
  refine xw_go xb_168 1 (f1 := (if (nI (xB (decide (0 ≤ x.toInt ∧ x.toInt ≤ 3)))) = 0 then 20 else 7, [.ref 60, .int x, .int y, .int z, .float 0], [])) (h1 := (xS b, I, L, xP b)) rfl trivial ?_
  refine xw_if (fun c_4 => ?_) (fun c_4 => ?_)
  · skip
    refine xw_go xb_168 1 (f1 := (21, [.ref 60, .int x, .int y, .int z, .float 0], [.int (-1)])) (h1 := (xS b, I, L, xP b)) rfl trivial ?_
    refine xw_ret xb_168 rfl rfl trivial ?_
    exact xHM_s hS
  · skip
    refine xw_go xb_168 1 (f1 := (8, [.ref 60, .int x, .int y, .int z, .float 0], [.int y])) (h1 := (xS b, I, L, xP b)) rfl trivial ?_
    refine xw_call xb_168 rfl rfl rfl rfl rfl (Or.inl rfl) m_isLane ?_
    rintro _ _ ⟨rfl, rfl⟩
    refine xw_at (f' := (11, [.ref 60, .int x, .int y, .int z, .float 0], [.int (nI (xB (decide (0 ≤ y.toInt ∧ y.toInt ≤ 3))))])) (h' := (xS b, I, L, xP b)) rfl rfl ?_
    refine xw_go xb_168 1 (f1 := (if (nI (xB (decide (0 ≤ y.toInt ∧ y.toInt ≤ 3)))) = 0 then 20 else 14, [.ref 60, .int x, .int y, .int z, .float 0], [])) (h1 := (xS b, I, L, xP b)) rfl trivial ?_
    refine xw_if (fun c_11 => ?_) (fun c_11 => ?_)
    · skip
      refine xw_go xb_168 1 (f1 := (21, [.ref 60, .int x, .int y, .int z, .float 0], [.int (-1)])) (h1 := (xS b, I, L, xP b)) rfl trivial ?_
      refine xw_ret xb_168 rfl rfl trivial ?_
      exact xHM_s hS
    · skip
      refine xw_go xb_168 3 (f1 := (if z ≤ 24 then 22 else 20, [.ref 60, .int x, .int y, .int z, .float 0], [])) (h1 := (xS b, I, L, xP b)) rfl trivial ?_
      refine xw_if (fun c_17 => ?_) (fun c_17 => ?_)
      · skip
        exfalso
        try simp only [xB_dec, Classical.not_not] at c_4 c_11 c_17
        try simp (disch := omega) only [xt_eq, xt_lt, xt_le, xkt_0, xkt_1, xkt_2, xkt_3, xkt_4, xkt_5, xkt_6, xkt_7, xkt_8, xkt_9, xkt_10, xkt_11, xkt_12, xkt_13, xkt_14, xkt_16, xkt_20, xkt_24, xkt_31, xkt_32, xkt_40, xkt_44, xkt_47, xkt_48, xkt_57, xkt_59, xkt_60, xkt_63, xkt_64, xkt_65, xkt_72, xkt_95, xkt_99, xkt_100, xkt_101, xkt_103, xkt_110, xkt_112, xkt_113, xkt_114, xkt_119, xkt_126, xkt_159, xkt_576, xkt_999, xkt_9999, xkt_65536, xkt_999999, xkt_m1, xkt_m2, xkt_m3, xkt_m4, xkt_m11, xkt_m12, xkt_m13, xkt_m14, xkt_m20, xjt_0, xjt_1, xjt_2, xjt_3, xjt_4, xjt_5, xjt_6, xjt_7, xjt_8, xjt_9, xjt_10, xjt_11, xjt_12, xjt_13, xjt_14, xjt_16, xjt_20, xjt_24, xjt_31, xjt_32, xjt_40, xjt_44, xjt_47, xjt_48, xjt_57, xjt_59, xjt_60, xjt_63, xjt_64, xjt_65, xjt_72, xjt_95, xjt_99, xjt_100, xjt_101, xjt_103, xjt_110, xjt_112, xjt_113, xjt_114, xjt_119, xjt_126, xjt_159, xjt_576, xjt_999, xjt_9999, xjt_65536, xjt_999999, xt64, xt_n, not_true_eq_false, not_false_eq_true, Classical.not_not] at c_4 c_11 c_17
        all_goals omega
      · skip
        refine xw_go xb_168 1 (f1 := (21, [.ref 60, .int x, .int y, .int z, .float 0], [.int (-1)])) (h1 := (xS b, I, L, xP b)) rfl trivial ?_
        refine xw_ret xb_168 rfl rfl trivial ?_
        exact xHM_s hS

theorem m_sheet1 {d : Nat} {b : Bool} {I : Nat → Nat → Int32} {L : Nat → Nat → Int64} {Y : xY} (hS : xSM Y I L) (hY : xYK Y) {x y z : Int32} (hx : 0 ≤ x.toInt ∧ x.toInt ≤ 3 ∧ 0 ≤ y.toInt ∧ y.toInt ≤ 3 ∧ z.toInt < 0) : xm_Z (d + 3) 168 [.ref 60, .int x, .int y, .int z] (xS b, I, L, xP b) (fun rz hz => xHM b I L (-14) Y rz hz) := by
  refine xw_S xb_168 (l := [.ref 60, .int x, .int y, .int z, .float 0]) (Nat.le_of_ble_eq_true rfl) rfl ?_
  refine xw_go xb_168 1 (f1 := (1, [.ref 60, .int x, .int y, .int z, .float 0], [.int x])) (h1 := (xS b, I, L, xP b)) rfl trivial ?_
  refine xw_call xb_168 rfl rfl rfl rfl rfl (Or.inl rfl) m_isSheet ?_
  rintro _ _ ⟨rfl, rfl⟩
  refine xw_at (f' := (4, [.ref 60, .int x, .int y, .int z, .float 0], [.int (nI (xB (decide (0 ≤ x.toInt ∧ x.toInt ≤ 3))))])) (h' := (xS b, I, L, xP b)) rfl rfl ?_
  refine xw_go xb_168 1 (f1 := (if (nI (xB (decide (0 ≤ x.toInt ∧ x.toInt ≤ 3)))) = 0 then 20 else 7, [.ref 60, .int x, .int y, .int z, .float 0], [])) (h1 := (xS b, I, L, xP b)) rfl trivial ?_
  refine xw_if (fun c_4 => ?_) (fun c_4 => ?_)
  · skip
    exfalso
    try simp only [xB_dec, Classical.not_not] at c_4
    try simp (disch := omega) only [xt_eq, xt_lt, xt_le, xkt_0, xkt_1, xkt_2, xkt_3, xkt_4, xkt_5, xkt_6, xkt_7, xkt_8, xkt_9, xkt_10, xkt_11, xkt_12, xkt_13, xkt_14, xkt_16, xkt_20, xkt_24, xkt_31, xkt_32, xkt_40, xkt_44, xkt_47, xkt_48, xkt_57, xkt_59, xkt_60, xkt_63, xkt_64, xkt_65, xkt_72, xkt_95, xkt_99, xkt_100, xkt_101, xkt_103, xkt_110, xkt_112, xkt_113, xkt_114, xkt_119, xkt_126, xkt_159, xkt_576, xkt_999, xkt_9999, xkt_65536, xkt_999999, xkt_m1, xkt_m2, xkt_m3, xkt_m4, xkt_m11, xkt_m12, xkt_m13, xkt_m14, xkt_m20, xjt_0, xjt_1, xjt_2, xjt_3, xjt_4, xjt_5, xjt_6, xjt_7, xjt_8, xjt_9, xjt_10, xjt_11, xjt_12, xjt_13, xjt_14, xjt_16, xjt_20, xjt_24, xjt_31, xjt_32, xjt_40, xjt_44, xjt_47, xjt_48, xjt_57, xjt_59, xjt_60, xjt_63, xjt_64, xjt_65, xjt_72, xjt_95, xjt_99, xjt_100, xjt_101, xjt_103, xjt_110, xjt_112, xjt_113, xjt_114, xjt_119, xjt_126, xjt_159, xjt_576, xjt_999, xjt_9999, xjt_65536, xjt_999999, xt64, xt_n, not_true_eq_false, not_false_eq_true, Classical.not_not] at c_4
    all_goals omega
  · skip
    refine xw_go xb_168 1 (f1 := (8, [.ref 60, .int x, .int y, .int z, .float 0], [.int y])) (h1 := (xS b, I, L, xP b)) rfl trivial ?_
    refine xw_call xb_168 rfl rfl rfl rfl rfl (Or.inl rfl) m_isLane ?_
    rintro _ _ ⟨rfl, rfl⟩
    refine xw_at (f' := (11, [.ref 60, .int x, .int y, .int z, .float 0], [.int (nI (xB (decide (0 ≤ y.toInt ∧ y.toInt ≤ 3))))])) (h' := (xS b, I, L, xP b)) rfl rfl ?_
    refine xw_go xb_168 1 (f1 := (if (nI (xB (decide (0 ≤ y.toInt ∧ y.toInt ≤ 3)))) = 0 then 20 else 14, [.ref 60, .int x, .int y, .int z, .float 0], [])) (h1 := (xS b, I, L, xP b)) rfl trivial ?_
    refine xw_if (fun c_11 => ?_) (fun c_11 => ?_)
    · skip
      exfalso
      try simp only [xB_dec, Classical.not_not] at c_4 c_11
      try simp (disch := omega) only [xt_eq, xt_lt, xt_le, xkt_0, xkt_1, xkt_2, xkt_3, xkt_4, xkt_5, xkt_6, xkt_7, xkt_8, xkt_9, xkt_10, xkt_11, xkt_12, xkt_13, xkt_14, xkt_16, xkt_20, xkt_24, xkt_31, xkt_32, xkt_40, xkt_44, xkt_47, xkt_48, xkt_57, xkt_59, xkt_60, xkt_63, xkt_64, xkt_65, xkt_72, xkt_95, xkt_99, xkt_100, xkt_101, xkt_103, xkt_110, xkt_112, xkt_113, xkt_114, xkt_119, xkt_126, xkt_159, xkt_576, xkt_999, xkt_9999, xkt_65536, xkt_999999, xkt_m1, xkt_m2, xkt_m3, xkt_m4, xkt_m11, xkt_m12, xkt_m13, xkt_m14, xkt_m20, xjt_0, xjt_1, xjt_2, xjt_3, xjt_4, xjt_5, xjt_6, xjt_7, xjt_8, xjt_9, xjt_10, xjt_11, xjt_12, xjt_13, xjt_14, xjt_16, xjt_20, xjt_24, xjt_31, xjt_32, xjt_40, xjt_44, xjt_47, xjt_48, xjt_57, xjt_59, xjt_60, xjt_63, xjt_64, xjt_65, xjt_72, xjt_95, xjt_99, xjt_100, xjt_101, xjt_103, xjt_110, xjt_112, xjt_113, xjt_114, xjt_119, xjt_126, xjt_159, xjt_576, xjt_999, xjt_9999, xjt_65536, xjt_999999, xt64, xt_n, not_true_eq_false, not_false_eq_true, Classical.not_not] at c_4 c_11
      all_goals omega
    · skip
      refine xw_go xb_168 3 (f1 := (if z ≤ 24 then 22 else 20, [.ref 60, .int x, .int y, .int z, .float 0], [])) (h1 := (xS b, I, L, xP b)) rfl trivial ?_
      refine xw_if (fun c_17 => ?_) (fun c_17 => ?_)
      · skip
        refine xw_go xb_168 2 (f1 := (if 0 ≤ z then 29 else 26, [.ref 60, .int x, .int y, .int z, .float 0], [])) (h1 := (xS b, I, L, xP b)) rfl trivial ?_
        refine xw_if (fun c_23 => ?_) (fun c_23 => ?_)
        · skip
          exfalso
          try simp only [xB_dec, Classical.not_not] at c_4 c_11 c_17 c_23
          try simp (disch := omega) only [xt_eq, xt_lt, xt_le, xkt_0, xkt_1, xkt_2, xkt_3, xkt_4, xkt_5, xkt_6, xkt_7, xkt_8, xkt_9, xkt_10, xkt_11, xkt_12, xkt_13, xkt_14, xkt_16, xkt_20, xkt_24, xkt_31, xkt_32, xkt_40, xkt_44, xkt_47, xkt_48, xkt_57, xkt_59, xkt_60, xkt_63, xkt_64, xkt_65, xkt_72, xkt_95, xkt_99, xkt_100, xkt_101, xkt_103, xkt_110, xkt_112, xkt_113, xkt_114, xkt_119, xkt_126, xkt_159, xkt_576, xkt_999, xkt_9999, xkt_65536, xkt_999999, xkt_m1, xkt_m2, xkt_m3, xkt_m4, xkt_m11, xkt_m12, xkt_m13, xkt_m14, xkt_m20, xjt_0, xjt_1, xjt_2, xjt_3, xjt_4, xjt_5, xjt_6, xjt_7, xjt_8, xjt_9, xjt_10, xjt_11, xjt_12, xjt_13, xjt_14, xjt_16, xjt_20, xjt_24, xjt_31, xjt_32, xjt_40, xjt_44, xjt_47, xjt_48, xjt_57, xjt_59, xjt_60, xjt_63, xjt_64, xjt_65, xjt_72, xjt_95, xjt_99, xjt_100, xjt_101, xjt_103, xjt_110, xjt_112, xjt_113, xjt_114, xjt_119, xjt_126, xjt_159, xjt_576, xjt_999, xjt_9999, xjt_65536, xjt_999999, xt64, xt_n, not_true_eq_false, not_false_eq_true, Classical.not_not] at c_4 c_11 c_17 c_23
          all_goals omega
        · skip
          refine xw_go xb_168 1 (f1 := (28, [.ref 60, .int x, .int y, .int z, .float 0], [.int (-14)])) (h1 := (xS b, I, L, xP b)) rfl trivial ?_
          refine xw_ret xb_168 rfl rfl trivial ?_
          exact xHM_s hS
      · skip
        exfalso
        try simp only [xB_dec, Classical.not_not] at c_4 c_11 c_17
        try simp (disch := omega) only [xt_eq, xt_lt, xt_le, xkt_0, xkt_1, xkt_2, xkt_3, xkt_4, xkt_5, xkt_6, xkt_7, xkt_8, xkt_9, xkt_10, xkt_11, xkt_12, xkt_13, xkt_14, xkt_16, xkt_20, xkt_24, xkt_31, xkt_32, xkt_40, xkt_44, xkt_47, xkt_48, xkt_57, xkt_59, xkt_60, xkt_63, xkt_64, xkt_65, xkt_72, xkt_95, xkt_99, xkt_100, xkt_101, xkt_103, xkt_110, xkt_112, xkt_113, xkt_114, xkt_119, xkt_126, xkt_159, xkt_576, xkt_999, xkt_9999, xkt_65536, xkt_999999, xkt_m1, xkt_m2, xkt_m3, xkt_m4, xkt_m11, xkt_m12, xkt_m13, xkt_m14, xkt_m20, xjt_0, xjt_1, xjt_2, xjt_3, xjt_4, xjt_5, xjt_6, xjt_7, xjt_8, xjt_9, xjt_10, xjt_11, xjt_12, xjt_13, xjt_14, xjt_16, xjt_20, xjt_24, xjt_31, xjt_32, xjt_40, xjt_44, xjt_47, xjt_48, xjt_57, xjt_59, xjt_60, xjt_63, xjt_64, xjt_65, xjt_72, xjt_95, xjt_99, xjt_100, xjt_101, xjt_103, xjt_110, xjt_112, xjt_113, xjt_114, xjt_119, xjt_126, xjt_159, xjt_576, xjt_999, xjt_9999, xjt_65536, xjt_999999, xt64, xt_n, not_true_eq_false, not_false_eq_true, Classical.not_not] at c_4 c_11 c_17
        all_goals omega

theorem m_sheet2 {d : Nat} {b : Bool} {I : Nat → Nat → Int32} {L : Nat → Nat → Int64} {Y : xY} (hS : xSM Y I L) (hY : xYK Y) {s : Nat} (hs : s < 4) {la n : Nat} (bl : la < 4) (bn : n ≤ 24) {x : Int32} (e_x : x = nI s) {y : Int32} (e_y : y = nI la) {z : Int32} (e_z : z = nI n) : xm_Z (d + 3) 168 [.ref 60, .int x, .int y, .int z] (xS b, I, L, xP b) (fun rz hz => xHM b I L (nI n) (va_up Y s (true, la, n, fun _ => 0)) rz hz) := by
  subst e_x
  subst e_y
  subst e_z
  obtain ⟨y0, y2, y3⟩ := hS s hs
  have hk := hY s hs
  refine xw_S xb_168 (l := [.ref 60, .int (nI s), .int (nI la), .int (nI n), .float 0]) (Nat.le_of_ble_eq_true rfl) rfl ?_
  refine xw_go xb_168 1 (f1 := (1, [.ref 60, .int (nI s), .int (nI la), .int (nI n), .float 0], [.int (nI s)])) (h1 := (xS b, I, L, xP b)) rfl trivial ?_
  refine xw_call xb_168 rfl rfl rfl rfl rfl (Or.inl rfl) m_isSheet ?_
  rintro _ _ ⟨rfl, rfl⟩
  refine xw_at (f' := (4, [.ref 60, .int (nI s), .int (nI la), .int (nI n), .float 0], [.int (nI (xB (decide (0 ≤ (nI s).toInt ∧ (nI s).toInt ≤ 3))))])) (h' := (xS b, I, L, xP b)) rfl rfl ?_
  refine xw_go xb_168 1 (f1 := (if (nI (xB (decide (0 ≤ (nI s).toInt ∧ (nI s).toInt ≤ 3)))) = 0 then 20 else 7, [.ref 60, .int (nI s), .int (nI la), .int (nI n), .float 0], [])) (h1 := (xS b, I, L, xP b)) rfl trivial ?_
  refine xw_if (fun c_4 => ?_) (fun c_4 => ?_)
  · skip
    exfalso
    try simp only [xB_dec, Classical.not_not] at c_4
    try simp (disch := omega) only [xt_eq, xt_lt, xt_le, xkt_0, xkt_1, xkt_2, xkt_3, xkt_4, xkt_5, xkt_6, xkt_7, xkt_8, xkt_9, xkt_10, xkt_11, xkt_12, xkt_13, xkt_14, xkt_16, xkt_20, xkt_24, xkt_31, xkt_32, xkt_40, xkt_44, xkt_47, xkt_48, xkt_57, xkt_59, xkt_60, xkt_63, xkt_64, xkt_65, xkt_72, xkt_95, xkt_99, xkt_100, xkt_101, xkt_103, xkt_110, xkt_112, xkt_113, xkt_114, xkt_119, xkt_126, xkt_159, xkt_576, xkt_999, xkt_9999, xkt_65536, xkt_999999, xkt_m1, xkt_m2, xkt_m3, xkt_m4, xkt_m11, xkt_m12, xkt_m13, xkt_m14, xkt_m20, xjt_0, xjt_1, xjt_2, xjt_3, xjt_4, xjt_5, xjt_6, xjt_7, xjt_8, xjt_9, xjt_10, xjt_11, xjt_12, xjt_13, xjt_14, xjt_16, xjt_20, xjt_24, xjt_31, xjt_32, xjt_40, xjt_44, xjt_47, xjt_48, xjt_57, xjt_59, xjt_60, xjt_63, xjt_64, xjt_65, xjt_72, xjt_95, xjt_99, xjt_100, xjt_101, xjt_103, xjt_110, xjt_112, xjt_113, xjt_114, xjt_119, xjt_126, xjt_159, xjt_576, xjt_999, xjt_9999, xjt_65536, xjt_999999, xt64, xt_n, not_true_eq_false, not_false_eq_true, Classical.not_not] at c_4
    all_goals omega
  · skip
    refine xw_go xb_168 1 (f1 := (8, [.ref 60, .int (nI s), .int (nI la), .int (nI n), .float 0], [.int (nI la)])) (h1 := (xS b, I, L, xP b)) rfl trivial ?_
    refine xw_call xb_168 rfl rfl rfl rfl rfl (Or.inl rfl) m_isLane ?_
    rintro _ _ ⟨rfl, rfl⟩
    refine xw_at (f' := (11, [.ref 60, .int (nI s), .int (nI la), .int (nI n), .float 0], [.int (nI (xB (decide (0 ≤ (nI la).toInt ∧ (nI la).toInt ≤ 3))))])) (h' := (xS b, I, L, xP b)) rfl rfl ?_
    refine xw_go xb_168 1 (f1 := (if (nI (xB (decide (0 ≤ (nI la).toInt ∧ (nI la).toInt ≤ 3)))) = 0 then 20 else 14, [.ref 60, .int (nI s), .int (nI la), .int (nI n), .float 0], [])) (h1 := (xS b, I, L, xP b)) rfl trivial ?_
    refine xw_if (fun c_11 => ?_) (fun c_11 => ?_)
    · skip
      exfalso
      try simp only [xB_dec, Classical.not_not] at c_4 c_11
      try simp (disch := omega) only [xt_eq, xt_lt, xt_le, xkt_0, xkt_1, xkt_2, xkt_3, xkt_4, xkt_5, xkt_6, xkt_7, xkt_8, xkt_9, xkt_10, xkt_11, xkt_12, xkt_13, xkt_14, xkt_16, xkt_20, xkt_24, xkt_31, xkt_32, xkt_40, xkt_44, xkt_47, xkt_48, xkt_57, xkt_59, xkt_60, xkt_63, xkt_64, xkt_65, xkt_72, xkt_95, xkt_99, xkt_100, xkt_101, xkt_103, xkt_110, xkt_112, xkt_113, xkt_114, xkt_119, xkt_126, xkt_159, xkt_576, xkt_999, xkt_9999, xkt_65536, xkt_999999, xkt_m1, xkt_m2, xkt_m3, xkt_m4, xkt_m11, xkt_m12, xkt_m13, xkt_m14, xkt_m20, xjt_0, xjt_1, xjt_2, xjt_3, xjt_4, xjt_5, xjt_6, xjt_7, xjt_8, xjt_9, xjt_10, xjt_11, xjt_12, xjt_13, xjt_14, xjt_16, xjt_20, xjt_24, xjt_31, xjt_32, xjt_40, xjt_44, xjt_47, xjt_48, xjt_57, xjt_59, xjt_60, xjt_63, xjt_64, xjt_65, xjt_72, xjt_95, xjt_99, xjt_100, xjt_101, xjt_103, xjt_110, xjt_112, xjt_113, xjt_114, xjt_119, xjt_126, xjt_159, xjt_576, xjt_999, xjt_9999, xjt_65536, xjt_999999, xt64, xt_n, not_true_eq_false, not_false_eq_true, Classical.not_not] at c_4 c_11
      all_goals omega
    · skip
      refine xw_go xb_168 3 (f1 := (if (nI n) ≤ 24 then 22 else 20, [.ref 60, .int (nI s), .int (nI la), .int (nI n), .float 0], [])) (h1 := (xS b, I, L, xP b)) rfl trivial ?_
      refine xw_if (fun c_17 => ?_) (fun c_17 => ?_)
      · skip
        refine xw_go xb_168 2 (f1 := (if 0 ≤ (nI n) then 29 else 26, [.ref 60, .int (nI s), .int (nI la), .int (nI n), .float 0], [])) (h1 := (xS b, I, L, xP b)) rfl trivial ?_
        refine xw_if (fun c_23 => ?_) (fun c_23 => ?_)
        · skip
          refine xw_go xb_168 12 (f1 := (46, [.ref 60, .int (nI s), .int (nI la), .int (nI n), .int 0], [])) (h1 := (xS b, xm_up (xm_up I 70 (nI s).toNatClampNeg (nI la)) 71 (nI s).toNatClampNeg (nI n), L, xP b)) rfl ⟨rfl, (xn_ar (n := s) (N := 4) rfl (by omega) (by decide)), rfl, (xn_ar (n := s) (N := 4) rfl (by omega) (by decide)), trivial⟩ ?_
          refine xw_at (f' := (46, [.ref 60, .int (nI s), .int (nI la), .int (nI n), .int (nI 0)], [])) (h' := (xS b, xm_up (xm_up I 70 s (nI la)) 71 s (nI n), va_up L 72 (va_cpy (fun _ => 0) (L 72) 0 (24 * s) 0), xP b)) rfl (by rw [xcy_0, xm_up_id, xn_cl (by omega)]) ?_
          refine xw_loop 24 (fun k => (46, [.ref 60, .int (nI s), .int (nI la), .int (nI n), .int (nI k)], [])) (fun k => (xS b, xm_up (xm_up I 70 s (nI la)) 71 s (nI n), va_up L 72 (va_cpy (fun _ => 0) (L 72) 0 (24 * s) k), xP b)) (fun k hkn ih => ?_) ?_ 0 (Nat.zero_le _)
          · skip
            refine xw_go xb_168 3 (f1 := (if 24 ≤ (nI k) then 72 else 53, [.ref 60, .int (nI s), .int (nI la), .int (nI n), .int (nI k)], [])) (h1 := (xS b, xm_up (xm_up I 70 s (nI la)) 71 s (nI n), va_up L 72 (va_cpy (fun _ => 0) (L 72) 0 (24 * s) k), xP b)) rfl trivial ?_
            refine xw_if (fun c_50 => ?_) (fun c_50 => ?_)
            · skip
              exfalso
              try simp only [xB_dec, Classical.not_not] at c_50
              try simp (disch := omega) only [xt_eq, xt_lt, xt_le, xkt_0, xkt_1, xkt_2, xkt_3, xkt_4, xkt_5, xkt_6, xkt_7, xkt_8, xkt_9, xkt_10, xkt_11, xkt_12, xkt_13, xkt_14, xkt_16, xkt_20, xkt_24, xkt_31, xkt_32, xkt_40, xkt_44, xkt_47, xkt_48, xkt_57, xkt_59, xkt_60, xkt_63, xkt_64, xkt_65, xkt_72, xkt_95, xkt_99, xkt_100, xkt_101, xkt_103, xkt_110, xkt_112, xkt_113, xkt_114, xkt_119, xkt_126, xkt_159, xkt_576, xkt_999, xkt_9999, xkt_65536, xkt_999999, xkt_m1, xkt_m2, xkt_m3, xkt_m4, xkt_m11, xkt_m12, xkt_m13, xkt_m14, xkt_m20, xjt_0, xjt_1, xjt_2, xjt_3, xjt_4, xjt_5, xjt_6, xjt_7, xjt_8, xjt_9, xjt_10, xjt_11, xjt_12, xjt_13, xjt_14, xjt_16, xjt_20, xjt_24, xjt_31, xjt_32, xjt_40, xjt_44, xjt_47, xjt_48, xjt_57, xjt_59, xjt_60, xjt_63, xjt_64, xjt_65, xjt_72, xjt_95, xjt_99, xjt_100, xjt_101, xjt_103, xjt_110, xjt_112, xjt_113, xjt_114, xjt_119, xjt_126, xjt_159, xjt_576, xjt_999, xjt_9999, xjt_65536, xjt_999999, xt64, xt_n, not_true_eq_false, not_false_eq_true, Classical.not_not] at c_50
              all_goals omega
            · skip
              refine xw_go xb_168 11 (f1 := (46, [.ref 60, .int (nI s), .int (nI la), .int (nI n), .int ((nI k) + 1)], [])) (h1 := (xS b, xm_up (xm_up I 70 s (nI la)) 71 s (nI n), xm_up (va_up L 72 (va_cpy (fun _ => 0) (L 72) 0 (24 * s) k)) 72 ((24 * (nI s)) + (nI k)).toNatClampNeg 0, xP b)) rfl ⟨rfl, (xn_ar' (n := 24 * s + k) (N := 96) rfl (show 24 * nI s + nI k = _ by rw [xl_24, pk_mul, nI_add]) (by omega) (by decide)), trivial⟩ ?_
              refine xw_cong ?_ rfl ?_ ih
              · rw [nI_1]
              · refine congrArg (fun X => (xS b, xm_up (xm_up I 70 s (nI la)) 71 s (nI n), X, xP b)) ?_
                exact xcy_up (by rw [xl_24, pk_mul, nI_add, xn_cl (by omega)]) rfl
          · skip
            refine xw_go xb_168 3 (f1 := (if 24 ≤ (nI 24) then 72 else 53, [.ref 60, .int (nI s), .int (nI la), .int (nI n), .int (nI 24)], [])) (h1 := (xS b, xm_up (xm_up I 70 s (nI la)) 71 s (nI n), va_up L 72 (va_cpy (fun _ => 0) (L 72) 0 (24 * s) 24), xP b)) rfl trivial ?_
            refine xw_if (fun c_50 => ?_) (fun c_50 => ?_)
            · skip
              refine xw_go xb_168 1 (f1 := (73, [.ref 60, .int (nI s), .int (nI la), .int (nI n), .int (nI 24)], [.int (nI n)])) (h1 := (xS b, xm_up (xm_up I 70 s (nI la)) 71 s (nI n), va_up L 72 (va_cpy (fun _ => 0) (L 72) 0 (24 * s) 24), xP b)) rfl trivial ?_
              refine xw_ret xb_168 rfl rfl trivial ?_
              refine ⟨rfl, _, _, rfl, xSM_u hS hs ?_ ?_ ?_ ?_ ?_, ?_, ?_⟩
              · rw [xm_up_o (by decide), xm_up_at]
                rfl
              · rw [xm_up_at]
              · intro k hk
                rw [xvu_at]
                unfold va_cpy
                rw [if_pos (by omega)]
              · intro k hk
                rw [xm_up_o (by decide), xm_up_ne (Or.inr hk), xm_up_ne (Or.inr hk), xm_up_o (by decide)]
                exact ⟨rfl, rfl⟩
              · intro k hk
                rw [xvu_at]
                unfold va_cpy
                rw [if_neg (by omega)]
              · intro a h1 h2
                rw [xm_up_o h2, xm_up_o h1]
              · intro a ha
                rw [xm_vu_o (by omega)]
            · skip
              exfalso
              try simp only [xB_dec, Classical.not_not] at c_50
              try simp (disch := omega) only [xt_eq, xt_lt, xt_le, xkt_0, xkt_1, xkt_2, xkt_3, xkt_4, xkt_5, xkt_6, xkt_7, xkt_8, xkt_9, xkt_10, xkt_11, xkt_12, xkt_13, xkt_14, xkt_16, xkt_20, xkt_24, xkt_31, xkt_32, xkt_40, xkt_44, xkt_47, xkt_48, xkt_57, xkt_59, xkt_60, xkt_63, xkt_64, xkt_65, xkt_72, xkt_95, xkt_99, xkt_100, xkt_101, xkt_103, xkt_110, xkt_112, xkt_113, xkt_114, xkt_119, xkt_126, xkt_159, xkt_576, xkt_999, xkt_9999, xkt_65536, xkt_999999, xkt_m1, xkt_m2, xkt_m3, xkt_m4, xkt_m11, xkt_m12, xkt_m13, xkt_m14, xkt_m20, xjt_0, xjt_1, xjt_2, xjt_3, xjt_4, xjt_5, xjt_6, xjt_7, xjt_8, xjt_9, xjt_10, xjt_11, xjt_12, xjt_13, xjt_14, xjt_16, xjt_20, xjt_24, xjt_31, xjt_32, xjt_40, xjt_44, xjt_47, xjt_48, xjt_57, xjt_59, xjt_60, xjt_63, xjt_64, xjt_65, xjt_72, xjt_95, xjt_99, xjt_100, xjt_101, xjt_103, xjt_110, xjt_112, xjt_113, xjt_114, xjt_119, xjt_126, xjt_159, xjt_576, xjt_999, xjt_9999, xjt_65536, xjt_999999, xt64, xt_n, not_true_eq_false, not_false_eq_true, Classical.not_not] at c_50
              all_goals omega
        · skip
          exfalso
          try simp only [xB_dec, Classical.not_not] at c_4 c_11 c_17 c_23
          try simp (disch := omega) only [xt_eq, xt_lt, xt_le, xkt_0, xkt_1, xkt_2, xkt_3, xkt_4, xkt_5, xkt_6, xkt_7, xkt_8, xkt_9, xkt_10, xkt_11, xkt_12, xkt_13, xkt_14, xkt_16, xkt_20, xkt_24, xkt_31, xkt_32, xkt_40, xkt_44, xkt_47, xkt_48, xkt_57, xkt_59, xkt_60, xkt_63, xkt_64, xkt_65, xkt_72, xkt_95, xkt_99, xkt_100, xkt_101, xkt_103, xkt_110, xkt_112, xkt_113, xkt_114, xkt_119, xkt_126, xkt_159, xkt_576, xkt_999, xkt_9999, xkt_65536, xkt_999999, xkt_m1, xkt_m2, xkt_m3, xkt_m4, xkt_m11, xkt_m12, xkt_m13, xkt_m14, xkt_m20, xjt_0, xjt_1, xjt_2, xjt_3, xjt_4, xjt_5, xjt_6, xjt_7, xjt_8, xjt_9, xjt_10, xjt_11, xjt_12, xjt_13, xjt_14, xjt_16, xjt_20, xjt_24, xjt_31, xjt_32, xjt_40, xjt_44, xjt_47, xjt_48, xjt_57, xjt_59, xjt_60, xjt_63, xjt_64, xjt_65, xjt_72, xjt_95, xjt_99, xjt_100, xjt_101, xjt_103, xjt_110, xjt_112, xjt_113, xjt_114, xjt_119, xjt_126, xjt_159, xjt_576, xjt_999, xjt_9999, xjt_65536, xjt_999999, xt64, xt_n, not_true_eq_false, not_false_eq_true, Classical.not_not] at c_4 c_11 c_17 c_23
          all_goals omega
      · skip
        exfalso
        try simp only [xB_dec, Classical.not_not] at c_4 c_11 c_17
        try simp (disch := omega) only [xt_eq, xt_lt, xt_le, xkt_0, xkt_1, xkt_2, xkt_3, xkt_4, xkt_5, xkt_6, xkt_7, xkt_8, xkt_9, xkt_10, xkt_11, xkt_12, xkt_13, xkt_14, xkt_16, xkt_20, xkt_24, xkt_31, xkt_32, xkt_40, xkt_44, xkt_47, xkt_48, xkt_57, xkt_59, xkt_60, xkt_63, xkt_64, xkt_65, xkt_72, xkt_95, xkt_99, xkt_100, xkt_101, xkt_103, xkt_110, xkt_112, xkt_113, xkt_114, xkt_119, xkt_126, xkt_159, xkt_576, xkt_999, xkt_9999, xkt_65536, xkt_999999, xkt_m1, xkt_m2, xkt_m3, xkt_m4, xkt_m11, xkt_m12, xkt_m13, xkt_m14, xkt_m20, xjt_0, xjt_1, xjt_2, xjt_3, xjt_4, xjt_5, xjt_6, xjt_7, xjt_8, xjt_9, xjt_10, xjt_11, xjt_12, xjt_13, xjt_14, xjt_16, xjt_20, xjt_24, xjt_31, xjt_32, xjt_40, xjt_44, xjt_47, xjt_48, xjt_57, xjt_59, xjt_60, xjt_63, xjt_64, xjt_65, xjt_72, xjt_95, xjt_99, xjt_100, xjt_101, xjt_103, xjt_110, xjt_112, xjt_113, xjt_114, xjt_119, xjt_126, xjt_159, xjt_576, xjt_999, xjt_9999, xjt_65536, xjt_999999, xt64, xt_n, not_true_eq_false, not_false_eq_true, Classical.not_not] at c_4 c_11 c_17
        all_goals omega

theorem m_drop0 {d : Nat} {b : Bool} {I : Nat → Nat → Int32} {L : Nat → Nat → Int64} {Y : xY} (hS : xSM Y I L) (hY : xYK Y) {x : Int32} (hx : ¬ (0 ≤ x.toInt ∧ x.toInt ≤ 3)) : xm_Z (d + 3) 169 [.ref 60, .int x] (xS b, I, L, xP b) (fun rz hz => xHM b I L (-1) Y rz hz) := by
  refine xw_S xb_169 (l := [.ref 60, .int x]) (Nat.le_of_ble_eq_true rfl) rfl ?_
  refine xw_go xb_169 1 (f1 := (1, [.ref 60, .int x], [.int x])) (h1 := (xS b, I, L, xP b)) rfl trivial ?_
  refine xw_call xb_169 rfl rfl rfl rfl rfl (Or.inl rfl) m_isSheet ?_
  rintro _ _ ⟨rfl, rfl⟩
  refine xw_at (f' := (4, [.ref 60, .int x], [.int (nI (xB (decide (0 ≤ x.toInt ∧ x.toInt ≤ 3))))])) (h' := (xS b, I, L, xP b)) rfl rfl ?_
  refine xw_go xb_169 1 (f1 := (if ¬ (nI (xB (decide (0 ≤ x.toInt ∧ x.toInt ≤ 3)))) = 0 then 9 else 7, [.ref 60, .int x], [])) (h1 := (xS b, I, L, xP b)) rfl trivial ?_
  refine xw_if (fun c_4 => ?_) (fun c_4 => ?_)
  · skip
    exfalso
    try simp only [xB_dec, Classical.not_not] at c_4
    try simp (disch := omega) only [xt_eq, xt_lt, xt_le, xkt_0, xkt_1, xkt_2, xkt_3, xkt_4, xkt_5, xkt_6, xkt_7, xkt_8, xkt_9, xkt_10, xkt_11, xkt_12, xkt_13, xkt_14, xkt_16, xkt_20, xkt_24, xkt_31, xkt_32, xkt_40, xkt_44, xkt_47, xkt_48, xkt_57, xkt_59, xkt_60, xkt_63, xkt_64, xkt_65, xkt_72, xkt_95, xkt_99, xkt_100, xkt_101, xkt_103, xkt_110, xkt_112, xkt_113, xkt_114, xkt_119, xkt_126, xkt_159, xkt_576, xkt_999, xkt_9999, xkt_65536, xkt_999999, xkt_m1, xkt_m2, xkt_m3, xkt_m4, xkt_m11, xkt_m12, xkt_m13, xkt_m14, xkt_m20, xjt_0, xjt_1, xjt_2, xjt_3, xjt_4, xjt_5, xjt_6, xjt_7, xjt_8, xjt_9, xjt_10, xjt_11, xjt_12, xjt_13, xjt_14, xjt_16, xjt_20, xjt_24, xjt_31, xjt_32, xjt_40, xjt_44, xjt_47, xjt_48, xjt_57, xjt_59, xjt_60, xjt_63, xjt_64, xjt_65, xjt_72, xjt_95, xjt_99, xjt_100, xjt_101, xjt_103, xjt_110, xjt_112, xjt_113, xjt_114, xjt_119, xjt_126, xjt_159, xjt_576, xjt_999, xjt_9999, xjt_65536, xjt_999999, xt64, xt_n, not_true_eq_false, not_false_eq_true, Classical.not_not] at c_4
    all_goals omega
  · skip
    refine xw_go xb_169 1 (f1 := (8, [.ref 60, .int x], [.int (-1)])) (h1 := (xS b, I, L, xP b)) rfl trivial ?_
    refine xw_ret xb_169 rfl rfl trivial ?_
    exact xHM_s hS

theorem m_drop1 {d : Nat} {b : Bool} {I : Nat → Nat → Int32} {L : Nat → Nat → Int64} {Y : xY} (hS : xSM Y I L) (hY : xYK Y) {s : Nat} (hs : s < 4) (h0 : (Y s).1 = false) {x : Int32} (e_x : x = nI s) : xm_Z (d + 3) 169 [.ref 60, .int x] (xS b, I, L, xP b) (fun rz hz => xHM b I L (-11) Y rz hz) := by
  subst e_x
  obtain ⟨y0, y2, y3⟩ := hS s hs
  have hk := hY s hs
  refine xw_S xb_169 (l := [.ref 60, .int (nI s)]) (Nat.le_of_ble_eq_true rfl) rfl ?_
  refine xw_go xb_169 1 (f1 := (1, [.ref 60, .int (nI s)], [.int (nI s)])) (h1 := (xS b, I, L, xP b)) rfl trivial ?_
  refine xw_call xb_169 rfl rfl rfl rfl rfl (Or.inl rfl) m_isSheet ?_
  rintro _ _ ⟨rfl, rfl⟩
  refine xw_at (f' := (4, [.ref 60, .int (nI s)], [.int (nI (xB (decide (0 ≤ (nI s).toInt ∧ (nI s).toInt ≤ 3))))])) (h' := (xS b, I, L, xP b)) rfl rfl ?_
  refine xw_go xb_169 1 (f1 := (if ¬ (nI (xB (decide (0 ≤ (nI s).toInt ∧ (nI s).toInt ≤ 3)))) = 0 then 9 else 7, [.ref 60, .int (nI s)], [])) (h1 := (xS b, I, L, xP b)) rfl trivial ?_
  refine xw_if (fun c_4 => ?_) (fun c_4 => ?_)
  · skip
    refine xw_go xb_169 4 (f1 := (15, [.ref 60, .int (nI s)], [.int (I 70 (nI s).toNatClampNeg)])) (h1 := (xS b, I, L, xP b)) rfl ⟨rfl, (xn_ar (n := s) (N := 4) rfl (by omega) (by decide)), trivial⟩ ?_
    refine xw_cong (l' := [.ref 60, .int (nI s)]) (st' := [.int (xln (Y s))]) (h' := (xS b, I, L, xP b)) rfl (show ([.int (I 70 (nI s).toNatClampNeg)] : List Value) = [.int (xln (Y s))] from ?_) rfl ?_
    · rw [xn_cl (by omega), y0]
    refine xw_go xb_169 1 (f1 := (if 0 ≤ (xln (Y s)) then 21 else 18, [.ref 60, .int (nI s)], [])) (h1 := (xS b, I, L, xP b)) rfl trivial ?_
    refine xw_if (fun c_15 => ?_) (fun c_15 => ?_)
    · skip
      exfalso
      rw [xln_neg hk.1, h0] at c_15
      cases c_15
    · skip
      refine xw_go xb_169 1 (f1 := (20, [.ref 60, .int (nI s)], [.int (-11)])) (h1 := (xS b, I, L, xP b)) rfl trivial ?_
      refine xw_ret xb_169 rfl rfl trivial ?_
      exact xHM_s hS
  · skip
    exfalso
    try simp only [xB_dec, Classical.not_not] at c_4
    try simp (disch := omega) only [xt_eq, xt_lt, xt_le, xkt_0, xkt_1, xkt_2, xkt_3, xkt_4, xkt_5, xkt_6, xkt_7, xkt_8, xkt_9, xkt_10, xkt_11, xkt_12, xkt_13, xkt_14, xkt_16, xkt_20, xkt_24, xkt_31, xkt_32, xkt_40, xkt_44, xkt_47, xkt_48, xkt_57, xkt_59, xkt_60, xkt_63, xkt_64, xkt_65, xkt_72, xkt_95, xkt_99, xkt_100, xkt_101, xkt_103, xkt_110, xkt_112, xkt_113, xkt_114, xkt_119, xkt_126, xkt_159, xkt_576, xkt_999, xkt_9999, xkt_65536, xkt_999999, xkt_m1, xkt_m2, xkt_m3, xkt_m4, xkt_m11, xkt_m12, xkt_m13, xkt_m14, xkt_m20, xjt_0, xjt_1, xjt_2, xjt_3, xjt_4, xjt_5, xjt_6, xjt_7, xjt_8, xjt_9, xjt_10, xjt_11, xjt_12, xjt_13, xjt_14, xjt_16, xjt_20, xjt_24, xjt_31, xjt_32, xjt_40, xjt_44, xjt_47, xjt_48, xjt_57, xjt_59, xjt_60, xjt_63, xjt_64, xjt_65, xjt_72, xjt_95, xjt_99, xjt_100, xjt_101, xjt_103, xjt_110, xjt_112, xjt_113, xjt_114, xjt_119, xjt_126, xjt_159, xjt_576, xjt_999, xjt_9999, xjt_65536, xjt_999999, xt64, xt_n, not_true_eq_false, not_false_eq_true, Classical.not_not] at c_4
    all_goals omega

theorem m_drop2 {d : Nat} {b : Bool} {I : Nat → Nat → Int32} {L : Nat → Nat → Int64} {Y : xY} (hS : xSM Y I L) (hY : xYK Y) {s : Nat} (hs : s < 4) (h0 : (Y s).1 = true) {x : Int32} (e_x : x = nI s) : xm_Z (d + 3) 169 [.ref 60, .int x] (xS b, I, L, xP b) (fun rz hz => xHM b I L (nI (Y s).2.2.1) (va_up Y s (false, (Y s).2)) rz hz) := by
  subst e_x
  obtain ⟨y0, y2, y3⟩ := hS s hs
  have hk := hY s hs
  refine xw_S xb_169 (l := [.ref 60, .int (nI s)]) (Nat.le_of_ble_eq_true rfl) rfl ?_
  refine xw_go xb_169 1 (f1 := (1, [.ref 60, .int (nI s)], [.int (nI s)])) (h1 := (xS b, I, L, xP b)) rfl trivial ?_
  refine xw_call xb_169 rfl rfl rfl rfl rfl (Or.inl rfl) m_isSheet ?_
  rintro _ _ ⟨rfl, rfl⟩
  refine xw_at (f' := (4, [.ref 60, .int (nI s)], [.int (nI (xB (decide (0 ≤ (nI s).toInt ∧ (nI s).toInt ≤ 3))))])) (h' := (xS b, I, L, xP b)) rfl rfl ?_
  refine xw_go xb_169 1 (f1 := (if ¬ (nI (xB (decide (0 ≤ (nI s).toInt ∧ (nI s).toInt ≤ 3)))) = 0 then 9 else 7, [.ref 60, .int (nI s)], [])) (h1 := (xS b, I, L, xP b)) rfl trivial ?_
  refine xw_if (fun c_4 => ?_) (fun c_4 => ?_)
  · skip
    refine xw_go xb_169 4 (f1 := (15, [.ref 60, .int (nI s)], [.int (I 70 (nI s).toNatClampNeg)])) (h1 := (xS b, I, L, xP b)) rfl ⟨rfl, (xn_ar (n := s) (N := 4) rfl (by omega) (by decide)), trivial⟩ ?_
    refine xw_cong (l' := [.ref 60, .int (nI s)]) (st' := [.int (xln (Y s))]) (h' := (xS b, I, L, xP b)) rfl (show ([.int (I 70 (nI s).toNatClampNeg)] : List Value) = [.int (xln (Y s))] from ?_) rfl ?_
    · rw [xn_cl (by omega), y0]
    refine xw_go xb_169 1 (f1 := (if 0 ≤ (xln (Y s)) then 21 else 18, [.ref 60, .int (nI s)], [])) (h1 := (xS b, I, L, xP b)) rfl trivial ?_
    refine xw_if (fun c_15 => ?_) (fun c_15 => ?_)
    · skip
      refine xw_go xb_169 9 (f1 := (34, [.ref 60, .int (nI s)], [.int ((xm_up I 70 (nI s).toNatClampNeg (-1)) 71 (nI s).toNatClampNeg)])) (h1 := (xS b, xm_up I 70 (nI s).toNatClampNeg (-1), L, xP b)) rfl ⟨rfl, (xn_ar (n := s) (N := 4) rfl (by omega) (by decide)), rfl, (xn_ar (n := s) (N := 4) rfl (by omega) (by decide)), trivial⟩ ?_
      refine xw_ret xb_169 rfl rfl trivial ?_
      rw [xn_cl (by omega)]
      refine ⟨xm_some (congrArg Value.int ?_), _, _, rfl, xSM_u hS hs (hd := false) (la := (Y s).2.1) (sz := (Y s).2.2.1) (it := (Y s).2.2.2) ?_ ?_ ?_ ?_ ?_, ?_, ?_⟩
      · rw [xm_up_o (by decide), y2]
      · rw [xm_up_at]
        rfl
      · rw [xm_up_o (by decide), y2]
      · exact y3
      · intro k hk
        rw [xm_up_ne (Or.inr hk), xm_up_o (by decide)]
        exact ⟨rfl, rfl⟩
      · intro k hk
        rfl
      · intro a h1 h2
        rw [xm_up_o h1]
      · intro a ha
        rfl
    · skip
      exact absurd ((xln_neg hk.1).mpr h0) c_15
  · skip
    exfalso
    try simp only [xB_dec, Classical.not_not] at c_4
    try simp (disch := omega) only [xt_eq, xt_lt, xt_le, xkt_0, xkt_1, xkt_2, xkt_3, xkt_4, xkt_5, xkt_6, xkt_7, xkt_8, xkt_9, xkt_10, xkt_11, xkt_12, xkt_13, xkt_14, xkt_16, xkt_20, xkt_24, xkt_31, xkt_32, xkt_40, xkt_44, xkt_47, xkt_48, xkt_57, xkt_59, xkt_60, xkt_63, xkt_64, xkt_65, xkt_72, xkt_95, xkt_99, xkt_100, xkt_101, xkt_103, xkt_110, xkt_112, xkt_113, xkt_114, xkt_119, xkt_126, xkt_159, xkt_576, xkt_999, xkt_9999, xkt_65536, xkt_999999, xkt_m1, xkt_m2, xkt_m3, xkt_m4, xkt_m11, xkt_m12, xkt_m13, xkt_m14, xkt_m20, xjt_0, xjt_1, xjt_2, xjt_3, xjt_4, xjt_5, xjt_6, xjt_7, xjt_8, xjt_9, xjt_10, xjt_11, xjt_12, xjt_13, xjt_14, xjt_16, xjt_20, xjt_24, xjt_31, xjt_32, xjt_40, xjt_44, xjt_47, xjt_48, xjt_57, xjt_59, xjt_60, xjt_63, xjt_64, xjt_65, xjt_72, xjt_95, xjt_99, xjt_100, xjt_101, xjt_103, xjt_110, xjt_112, xjt_113, xjt_114, xjt_119, xjt_126, xjt_159, xjt_576, xjt_999, xjt_9999, xjt_65536, xjt_999999, xt64, xt_n, not_true_eq_false, not_false_eq_true, Classical.not_not] at c_4
    all_goals omega

theorem m_item0 {d : Nat} {b : Bool} {I : Nat → Nat → Int32} {L : Nat → Nat → Int64} {Y : xY} (hS : xSM Y I L) (hY : xYK Y) {x y i : Int32} {v : Int64} (hx : ¬ (0 ≤ x.toInt ∧ x.toInt ≤ 3 ∧ 0 ≤ y.toInt ∧ y.toInt ≤ 3)) : xm_Z (d + 3) 170 [.ref 60, .int x, .int y, .int i, .long v] (xS b, I, L, xP b) (fun rz hz => xHM b I L (-1) Y rz hz) := by
  refine xw_S xb_170 (l := [.ref 60, .int x, .int y, .int i, .long v, .float 0, .float 0]) (Nat.le_of_ble_eq_true rfl) rfl ?_
  refine xw_go xb_170 1 (f1 := (1, [.ref 60, .int x, .int y, .int i, .long v, .float 0, .float 0], [.int x])) (h1 := (xS b, I, L, xP b)) rfl trivial ?_
  refine xw_call xb_170 rfl rfl rfl rfl rfl (Or.inl rfl) m_isSheet ?_
  rintro _ _ ⟨rfl, rfl⟩
  refine xw_at (f' := (4, [.ref 60, .int x, .int y, .int i, .long v, .float 0, .float 0], [.int (nI (xB (decide (0 ≤ x.toInt ∧ x.toInt ≤ 3))))])) (h' := (xS b, I, L, xP b)) rfl rfl ?_
  refine xw_go xb_170 1 (f1 := (if (nI (xB (decide (0 ≤ x.toInt ∧ x.toInt ≤ 3)))) = 0 then 14 else 7, [.ref 60, .int x, .int y, .int i, .long v, .float 0, .float 0], [])) (h1 := (xS b, I, L, xP b)) rfl trivial ?_
  refine xw_if (fun c_4 => ?_) (fun c_4 => ?_)
  · skip
    refine xw_go xb_170 1 (f1 := (15, [.ref 60, .int x, .int y, .int i, .long v, .float 0, .float 0], [.int (-1)])) (h1 := (xS b, I, L, xP b)) rfl trivial ?_
    refine xw_ret xb_170 rfl rfl trivial ?_
    exact xHM_s hS
  · skip
    refine xw_go xb_170 1 (f1 := (8, [.ref 60, .int x, .int y, .int i, .long v, .float 0, .float 0], [.int y])) (h1 := (xS b, I, L, xP b)) rfl trivial ?_
    refine xw_call xb_170 rfl rfl rfl rfl rfl (Or.inl rfl) m_isLane ?_
    rintro _ _ ⟨rfl, rfl⟩
    refine xw_at (f' := (11, [.ref 60, .int x, .int y, .int i, .long v, .float 0, .float 0], [.int (nI (xB (decide (0 ≤ y.toInt ∧ y.toInt ≤ 3))))])) (h' := (xS b, I, L, xP b)) rfl rfl ?_
    refine xw_go xb_170 1 (f1 := (if ¬ (nI (xB (decide (0 ≤ y.toInt ∧ y.toInt ≤ 3)))) = 0 then 16 else 14, [.ref 60, .int x, .int y, .int i, .long v, .float 0, .float 0], [])) (h1 := (xS b, I, L, xP b)) rfl trivial ?_
    refine xw_if (fun c_11 => ?_) (fun c_11 => ?_)
    · skip
      exfalso
      try simp only [xB_dec, Classical.not_not] at c_4 c_11
      try simp (disch := omega) only [xt_eq, xt_lt, xt_le, xkt_0, xkt_1, xkt_2, xkt_3, xkt_4, xkt_5, xkt_6, xkt_7, xkt_8, xkt_9, xkt_10, xkt_11, xkt_12, xkt_13, xkt_14, xkt_16, xkt_20, xkt_24, xkt_31, xkt_32, xkt_40, xkt_44, xkt_47, xkt_48, xkt_57, xkt_59, xkt_60, xkt_63, xkt_64, xkt_65, xkt_72, xkt_95, xkt_99, xkt_100, xkt_101, xkt_103, xkt_110, xkt_112, xkt_113, xkt_114, xkt_119, xkt_126, xkt_159, xkt_576, xkt_999, xkt_9999, xkt_65536, xkt_999999, xkt_m1, xkt_m2, xkt_m3, xkt_m4, xkt_m11, xkt_m12, xkt_m13, xkt_m14, xkt_m20, xjt_0, xjt_1, xjt_2, xjt_3, xjt_4, xjt_5, xjt_6, xjt_7, xjt_8, xjt_9, xjt_10, xjt_11, xjt_12, xjt_13, xjt_14, xjt_16, xjt_20, xjt_24, xjt_31, xjt_32, xjt_40, xjt_44, xjt_47, xjt_48, xjt_57, xjt_59, xjt_60, xjt_63, xjt_64, xjt_65, xjt_72, xjt_95, xjt_99, xjt_100, xjt_101, xjt_103, xjt_110, xjt_112, xjt_113, xjt_114, xjt_119, xjt_126, xjt_159, xjt_576, xjt_999, xjt_9999, xjt_65536, xjt_999999, xt64, xt_n, not_true_eq_false, not_false_eq_true, Classical.not_not] at c_4 c_11
      all_goals omega
    · skip
      refine xw_go xb_170 1 (f1 := (15, [.ref 60, .int x, .int y, .int i, .long v, .float 0, .float 0], [.int (-1)])) (h1 := (xS b, I, L, xP b)) rfl trivial ?_
      refine xw_ret xb_170 rfl rfl trivial ?_
      exact xHM_s hS

theorem m_item1 {d : Nat} {b : Bool} {I : Nat → Nat → Int32} {L : Nat → Nat → Int64} {Y : xY} (hS : xSM Y I L) (hY : xYK Y) {s : Nat} (hs : s < 4) {la : Nat} (bl : la < 4) {i : Int32} {v : Int64} (hw : xwy (Y s) la i 1 ≠ 0) {x : Int32} (e_x : x = nI s) {y : Int32} (e_y : y = nI la) : xm_Z (d + 3) 170 [.ref 60, .int x, .int y, .int i, .long v] (xS b, I, L, xP b) (fun rz hz => xHM b I L (xwy (Y s) la i 1) Y rz hz) := by
  subst e_x
  subst e_y
  refine xw_S xb_170 (l := [.ref 60, .int (nI s), .int (nI la), .int i, .long v, .float 0, .float 0]) (Nat.le_of_ble_eq_true rfl) rfl ?_
  refine xw_go xb_170 1 (f1 := (1, [.ref 60, .int (nI s), .int (nI la), .int i, .long v, .float 0, .float 0], [.int (nI s)])) (h1 := (xS b, I, L, xP b)) rfl trivial ?_
  refine xw_call xb_170 rfl rfl rfl rfl rfl (Or.inl rfl) m_isSheet ?_
  rintro _ _ ⟨rfl, rfl⟩
  refine xw_at (f' := (4, [.ref 60, .int (nI s), .int (nI la), .int i, .long v, .float 0, .float 0], [.int (nI (xB (decide (0 ≤ (nI s).toInt ∧ (nI s).toInt ≤ 3))))])) (h' := (xS b, I, L, xP b)) rfl rfl ?_
  refine xw_go xb_170 1 (f1 := (if (nI (xB (decide (0 ≤ (nI s).toInt ∧ (nI s).toInt ≤ 3)))) = 0 then 14 else 7, [.ref 60, .int (nI s), .int (nI la), .int i, .long v, .float 0, .float 0], [])) (h1 := (xS b, I, L, xP b)) rfl trivial ?_
  refine xw_if (fun c_4 => ?_) (fun c_4 => ?_)
  · skip
    exfalso
    try simp only [xB_dec, Classical.not_not] at c_4
    try simp (disch := omega) only [xt_eq, xt_lt, xt_le, xkt_0, xkt_1, xkt_2, xkt_3, xkt_4, xkt_5, xkt_6, xkt_7, xkt_8, xkt_9, xkt_10, xkt_11, xkt_12, xkt_13, xkt_14, xkt_16, xkt_20, xkt_24, xkt_31, xkt_32, xkt_40, xkt_44, xkt_47, xkt_48, xkt_57, xkt_59, xkt_60, xkt_63, xkt_64, xkt_65, xkt_72, xkt_95, xkt_99, xkt_100, xkt_101, xkt_103, xkt_110, xkt_112, xkt_113, xkt_114, xkt_119, xkt_126, xkt_159, xkt_576, xkt_999, xkt_9999, xkt_65536, xkt_999999, xkt_m1, xkt_m2, xkt_m3, xkt_m4, xkt_m11, xkt_m12, xkt_m13, xkt_m14, xkt_m20, xjt_0, xjt_1, xjt_2, xjt_3, xjt_4, xjt_5, xjt_6, xjt_7, xjt_8, xjt_9, xjt_10, xjt_11, xjt_12, xjt_13, xjt_14, xjt_16, xjt_20, xjt_24, xjt_31, xjt_32, xjt_40, xjt_44, xjt_47, xjt_48, xjt_57, xjt_59, xjt_60, xjt_63, xjt_64, xjt_65, xjt_72, xjt_95, xjt_99, xjt_100, xjt_101, xjt_103, xjt_110, xjt_112, xjt_113, xjt_114, xjt_119, xjt_126, xjt_159, xjt_576, xjt_999, xjt_9999, xjt_65536, xjt_999999, xt64, xt_n, not_true_eq_false, not_false_eq_true, Classical.not_not] at c_4
    all_goals omega
  · skip
    refine xw_go xb_170 1 (f1 := (8, [.ref 60, .int (nI s), .int (nI la), .int i, .long v, .float 0, .float 0], [.int (nI la)])) (h1 := (xS b, I, L, xP b)) rfl trivial ?_
    refine xw_call xb_170 rfl rfl rfl rfl rfl (Or.inl rfl) m_isLane ?_
    rintro _ _ ⟨rfl, rfl⟩
    refine xw_at (f' := (11, [.ref 60, .int (nI s), .int (nI la), .int i, .long v, .float 0, .float 0], [.int (nI (xB (decide (0 ≤ (nI la).toInt ∧ (nI la).toInt ≤ 3))))])) (h' := (xS b, I, L, xP b)) rfl rfl ?_
    refine xw_go xb_170 1 (f1 := (if ¬ (nI (xB (decide (0 ≤ (nI la).toInt ∧ (nI la).toInt ≤ 3)))) = 0 then 16 else 14, [.ref 60, .int (nI s), .int (nI la), .int i, .long v, .float 0, .float 0], [])) (h1 := (xS b, I, L, xP b)) rfl trivial ?_
    refine xw_if (fun c_11 => ?_) (fun c_11 => ?_)
    · skip
      refine xw_go xb_170 5 (f1 := (21, [.ref 60, .int (nI s), .int (nI la), .int i, .long v, .float 0, .float 0], [.int 1, .int i, .int (nI la), .int (nI s), .ref 60])) (h1 := (xS b, I, L, xP b)) rfl trivial ?_
      refine xw_call xb_170 rfl rfl rfl rfl rfl (Or.inr ⟨_, _, rfl, rfl⟩) (m_why hS hY hs bl rfl rfl) ?_
      rintro _ _ ⟨rfl, rfl⟩
      refine xw_at (f' := (24, [.ref 60, .int (nI s), .int (nI la), .int i, .long v, .float 0, .float 0], [.int (xwy (Y s) la i 1)])) (h' := (xS b, I, L, xP b)) rfl rfl ?_
      refine xw_go xb_170 3 (f1 := (if 0 ≤ (xwy (Y s) la i 1) then 34 else 31, [.ref 60, .int (nI s), .int (nI la), .int i, .long v, .float 0, .int (xwy (Y s) la i 1)], [])) (h1 := (xS b, I, L, xP b)) rfl trivial ?_
      refine xw_if (fun c_28 => ?_) (fun c_28 => ?_)
      · skip
        exact absurd (xwy_ge.mp c_28) hw
      · skip
        refine xw_go xb_170 1 (f1 := (33, [.ref 60, .int (nI s), .int (nI la), .int i, .long v, .float 0, .int (xwy (Y s) la i 1)], [.int (xwy (Y s) la i 1)])) (h1 := (xS b, I, L, xP b)) rfl trivial ?_
        refine xw_ret xb_170 rfl rfl trivial ?_
        exact xHM_s hS
    · skip
      exfalso
      try simp only [xB_dec, Classical.not_not] at c_4 c_11
      try simp (disch := omega) only [xt_eq, xt_lt, xt_le, xkt_0, xkt_1, xkt_2, xkt_3, xkt_4, xkt_5, xkt_6, xkt_7, xkt_8, xkt_9, xkt_10, xkt_11, xkt_12, xkt_13, xkt_14, xkt_16, xkt_20, xkt_24, xkt_31, xkt_32, xkt_40, xkt_44, xkt_47, xkt_48, xkt_57, xkt_59, xkt_60, xkt_63, xkt_64, xkt_65, xkt_72, xkt_95, xkt_99, xkt_100, xkt_101, xkt_103, xkt_110, xkt_112, xkt_113, xkt_114, xkt_119, xkt_126, xkt_159, xkt_576, xkt_999, xkt_9999, xkt_65536, xkt_999999, xkt_m1, xkt_m2, xkt_m3, xkt_m4, xkt_m11, xkt_m12, xkt_m13, xkt_m14, xkt_m20, xjt_0, xjt_1, xjt_2, xjt_3, xjt_4, xjt_5, xjt_6, xjt_7, xjt_8, xjt_9, xjt_10, xjt_11, xjt_12, xjt_13, xjt_14, xjt_16, xjt_20, xjt_24, xjt_31, xjt_32, xjt_40, xjt_44, xjt_47, xjt_48, xjt_57, xjt_59, xjt_60, xjt_63, xjt_64, xjt_65, xjt_72, xjt_95, xjt_99, xjt_100, xjt_101, xjt_103, xjt_110, xjt_112, xjt_113, xjt_114, xjt_119, xjt_126, xjt_159, xjt_576, xjt_999, xjt_9999, xjt_65536, xjt_999999, xt64, xt_n, not_true_eq_false, not_false_eq_true, Classical.not_not] at c_4 c_11
      all_goals omega

theorem m_item2 {d : Nat} {b : Bool} {I : Nat → Nat → Int32} {L : Nat → Nat → Int64} {Y : xY} (hS : xSM Y I L) (hY : xYK Y) {s : Nat} (hs : s < 4) {la : Nat} (bl : la < 4) {j : Nat} (bj : j < 2 ^ 31) {v : Int64} (hw : xwy (Y s) la (nI j) 1 = 0) {x : Int32} (e_x : x = nI s) {y : Int32} (e_y : y = nI la) {z : Int32} (e_z : z = nI j) : xm_Z (d + 3) 170 [.ref 60, .int x, .int y, .int z, .long v] (xS b, I, L, xP b) (fun rz hz => xHM b I L (1) (va_up Y s (true, (Y s).2.1, (Y s).2.2.1, va_up (Y s).2.2.2 j (xct la v))) rz hz) := by
  subst e_x
  subst e_y
  subst e_z
  obtain ⟨y0, y2, y3⟩ := hS s hs
  have hk := hY s hs
  obtain ⟨w1, w2, w3, w4, w5⟩ := xwy_0 hw
  have hj : j < (Y s).2.2.1 := by rw [xt_n bj, show (1 : Int32).toInt = 1 from rfl] at w5; omega
  refine xw_S xb_170 (l := [.ref 60, .int (nI s), .int (nI la), .int (nI j), .long v, .float 0, .float 0]) (Nat.le_of_ble_eq_true rfl) rfl ?_
  refine xw_go xb_170 1 (f1 := (1, [.ref 60, .int (nI s), .int (nI la), .int (nI j), .long v, .float 0, .float 0], [.int (nI s)])) (h1 := (xS b, I, L, xP b)) rfl trivial ?_
  refine xw_call xb_170 rfl rfl rfl rfl rfl (Or.inl rfl) m_isSheet ?_
  rintro _ _ ⟨rfl, rfl⟩
  refine xw_at (f' := (4, [.ref 60, .int (nI s), .int (nI la), .int (nI j), .long v, .float 0, .float 0], [.int (nI (xB (decide (0 ≤ (nI s).toInt ∧ (nI s).toInt ≤ 3))))])) (h' := (xS b, I, L, xP b)) rfl rfl ?_
  refine xw_go xb_170 1 (f1 := (if (nI (xB (decide (0 ≤ (nI s).toInt ∧ (nI s).toInt ≤ 3)))) = 0 then 14 else 7, [.ref 60, .int (nI s), .int (nI la), .int (nI j), .long v, .float 0, .float 0], [])) (h1 := (xS b, I, L, xP b)) rfl trivial ?_
  refine xw_if (fun c_4 => ?_) (fun c_4 => ?_)
  · skip
    exfalso
    try simp only [xB_dec, Classical.not_not] at c_4
    try simp (disch := omega) only [xt_eq, xt_lt, xt_le, xkt_0, xkt_1, xkt_2, xkt_3, xkt_4, xkt_5, xkt_6, xkt_7, xkt_8, xkt_9, xkt_10, xkt_11, xkt_12, xkt_13, xkt_14, xkt_16, xkt_20, xkt_24, xkt_31, xkt_32, xkt_40, xkt_44, xkt_47, xkt_48, xkt_57, xkt_59, xkt_60, xkt_63, xkt_64, xkt_65, xkt_72, xkt_95, xkt_99, xkt_100, xkt_101, xkt_103, xkt_110, xkt_112, xkt_113, xkt_114, xkt_119, xkt_126, xkt_159, xkt_576, xkt_999, xkt_9999, xkt_65536, xkt_999999, xkt_m1, xkt_m2, xkt_m3, xkt_m4, xkt_m11, xkt_m12, xkt_m13, xkt_m14, xkt_m20, xjt_0, xjt_1, xjt_2, xjt_3, xjt_4, xjt_5, xjt_6, xjt_7, xjt_8, xjt_9, xjt_10, xjt_11, xjt_12, xjt_13, xjt_14, xjt_16, xjt_20, xjt_24, xjt_31, xjt_32, xjt_40, xjt_44, xjt_47, xjt_48, xjt_57, xjt_59, xjt_60, xjt_63, xjt_64, xjt_65, xjt_72, xjt_95, xjt_99, xjt_100, xjt_101, xjt_103, xjt_110, xjt_112, xjt_113, xjt_114, xjt_119, xjt_126, xjt_159, xjt_576, xjt_999, xjt_9999, xjt_65536, xjt_999999, xt64, xt_n, not_true_eq_false, not_false_eq_true, Classical.not_not] at c_4
    all_goals omega
  · skip
    refine xw_go xb_170 1 (f1 := (8, [.ref 60, .int (nI s), .int (nI la), .int (nI j), .long v, .float 0, .float 0], [.int (nI la)])) (h1 := (xS b, I, L, xP b)) rfl trivial ?_
    refine xw_call xb_170 rfl rfl rfl rfl rfl (Or.inl rfl) m_isLane ?_
    rintro _ _ ⟨rfl, rfl⟩
    refine xw_at (f' := (11, [.ref 60, .int (nI s), .int (nI la), .int (nI j), .long v, .float 0, .float 0], [.int (nI (xB (decide (0 ≤ (nI la).toInt ∧ (nI la).toInt ≤ 3))))])) (h' := (xS b, I, L, xP b)) rfl rfl ?_
    refine xw_go xb_170 1 (f1 := (if ¬ (nI (xB (decide (0 ≤ (nI la).toInt ∧ (nI la).toInt ≤ 3)))) = 0 then 16 else 14, [.ref 60, .int (nI s), .int (nI la), .int (nI j), .long v, .float 0, .float 0], [])) (h1 := (xS b, I, L, xP b)) rfl trivial ?_
    refine xw_if (fun c_11 => ?_) (fun c_11 => ?_)
    · skip
      refine xw_go xb_170 5 (f1 := (21, [.ref 60, .int (nI s), .int (nI la), .int (nI j), .long v, .float 0, .float 0], [.int 1, .int (nI j), .int (nI la), .int (nI s), .ref 60])) (h1 := (xS b, I, L, xP b)) rfl trivial ?_
      refine xw_call xb_170 rfl rfl rfl rfl rfl (Or.inr ⟨_, _, rfl, rfl⟩) (m_why hS hY hs bl rfl rfl) ?_
      rintro _ _ ⟨rfl, rfl⟩
      refine xw_at (f' := (24, [.ref 60, .int (nI s), .int (nI la), .int (nI j), .long v, .float 0, .float 0], [.int (xwy (Y s) la (nI j) 1)])) (h' := (xS b, I, L, xP b)) rfl rfl ?_
      refine xw_go xb_170 3 (f1 := (if 0 ≤ (xwy (Y s) la (nI j) 1) then 34 else 31, [.ref 60, .int (nI s), .int (nI la), .int (nI j), .long v, .float 0, .int (xwy (Y s) la (nI j) 1)], [])) (h1 := (xS b, I, L, xP b)) rfl trivial ?_
      refine xw_if (fun c_28 => ?_) (fun c_28 => ?_)
      · skip
        refine xw_go xb_170 9 (f1 := (47, [.ref 60, .int (nI s), .int (nI la), .int (nI j), .long v, .float 0, .int (xwy (Y s) la (nI j) 1)], [.long v, .int (nI la), .int ((24 * (nI s)) + (nI j)), .ref 72])) (h1 := (xS b, I, L, xP b)) rfl ⟨rfl, trivial⟩ ?_
        refine xw_call xb_170 rfl rfl rfl rfl rfl (Or.inl rfl) (m_cut bl rfl) ?_
        rintro _ _ ⟨rfl, rfl⟩
        refine xw_at (f' := (50, [.ref 60, .int (nI s), .int (nI la), .int (nI j), .long v, .float 0, .int (xwy (Y s) la (nI j) 1)], [.long (xct la v), .int ((24 * (nI s)) + (nI j)), .ref 72])) (h' := (xS b, I, L, xP b)) rfl rfl ?_
        refine xw_go xb_170 2 (f1 := (52, [.ref 60, .int (nI s), .int (nI la), .int (nI j), .long v, .float 0, .int (xwy (Y s) la (nI j) 1)], [.int 1])) (h1 := (xS b, I, xm_up L 72 ((24 * (nI s)) + (nI j)).toNatClampNeg (xct la v), xP b)) rfl ⟨(xn_ar' (n := 24 * s + j) (N := 96) rfl (show 24 * nI s + nI j = _ by rw [xl_24, pk_mul, nI_add]) (by omega) (by decide)), trivial⟩ ?_
        refine xw_ret xb_170 rfl rfl trivial ?_
        rw [xl_24, pk_mul, nI_add, xn_cl (by omega)]
        refine ⟨rfl, _, _, rfl, xSM_L hS hs w1 ?_ ?_, ?_, ?_⟩
        · intro k hk
          by_cases e : k = j
          · subst e
            rw [xm_up_at]
            simp only [va_up, if_true]
          · rw [xm_up_ne (Or.inr (by omega))]
            simp only [va_up, e, if_false]
            exact y3 k hk
        · intro k hk
          rw [xm_up_ne (Or.inr (by omega))]
        · intro a h1 h2
          rfl
        · intro a ha
          rw [xm_up_o (by omega)]
      · skip
        exact absurd (xwy_ge.mpr hw) c_28
    · skip
      exfalso
      try simp only [xB_dec, Classical.not_not] at c_4 c_11
      try simp (disch := omega) only [xt_eq, xt_lt, xt_le, xkt_0, xkt_1, xkt_2, xkt_3, xkt_4, xkt_5, xkt_6, xkt_7, xkt_8, xkt_9, xkt_10, xkt_11, xkt_12, xkt_13, xkt_14, xkt_16, xkt_20, xkt_24, xkt_31, xkt_32, xkt_40, xkt_44, xkt_47, xkt_48, xkt_57, xkt_59, xkt_60, xkt_63, xkt_64, xkt_65, xkt_72, xkt_95, xkt_99, xkt_100, xkt_101, xkt_103, xkt_110, xkt_112, xkt_113, xkt_114, xkt_119, xkt_126, xkt_159, xkt_576, xkt_999, xkt_9999, xkt_65536, xkt_999999, xkt_m1, xkt_m2, xkt_m3, xkt_m4, xkt_m11, xkt_m12, xkt_m13, xkt_m14, xkt_m20, xjt_0, xjt_1, xjt_2, xjt_3, xjt_4, xjt_5, xjt_6, xjt_7, xjt_8, xjt_9, xjt_10, xjt_11, xjt_12, xjt_13, xjt_14, xjt_16, xjt_20, xjt_24, xjt_31, xjt_32, xjt_40, xjt_44, xjt_47, xjt_48, xjt_57, xjt_59, xjt_60, xjt_63, xjt_64, xjt_65, xjt_72, xjt_95, xjt_99, xjt_100, xjt_101, xjt_103, xjt_110, xjt_112, xjt_113, xjt_114, xjt_119, xjt_126, xjt_159, xjt_576, xjt_999, xjt_9999, xjt_65536, xjt_999999, xt64, xt_n, not_true_eq_false, not_false_eq_true, Classical.not_not] at c_4 c_11
      all_goals omega


theorem m_film0 {d : Nat} {b : Bool} {I : Nat → Nat → Int32} {L : Nat → Nat → Int64} {N : Nat → Nat} {u : Nat} {U : Nat → Nat → Nat} (hM : xML N u U I) (hK : xUK N u U) {Y : xY} (hS : xSM Y I L) (hY : xYK Y) {x y z w i : Int32} (hx : ¬ (0 ≤ x.toInt ∧ x.toInt < ((N 0 * N 1 : Nat) : Int) ∧ 1 ≤ y.toInt ∧ y.toInt ≤ 24 ∧ x.toInt + y.toInt ≤ ((N 0 * N 1 : Nat) : Int))) : xm_Z (d + 3) 166 [.ref 60, .int x, .int y, .int z, .int w, .int i] (xS b, I, L, xP b) (fun rz hz => xHM b I L (-1) Y rz hz) := by
  have hO := hK.1
  have hb := hK.1.1
  have c64 : N 0 * N 1 ≤ 64 := xce_le hO
  have c4 : 4 ≤ N 0 * N 1 := xce_ge hO
  refine xw_S xb_166 (l := [.ref 60, .int x, .int y, .int z, .int w, .int i, .float 0, .float 0]) (Nat.le_of_ble_eq_true rfl) rfl ?_
  refine xw_go xb_166 2 (f1 := (2, [.ref 60, .int x, .int y, .int z, .int w, .int i, .float 0, .float 0], [.int x, .ref 60])) (h1 := (xS b, I, L, xP b)) rfl trivial ?_
  refine xw_call xb_166 rfl rfl rfl rfl rfl (Or.inr ⟨_, _, rfl, rfl⟩) (m_isCell (I := I) hM.1 hO) ?_
  rintro _ _ ⟨rfl, rfl⟩
  refine xw_at (f' := (5, [.ref 60, .int x, .int y, .int z, .int w, .int i, .float 0, .float 0], [.int (nI (xB (decide (0 ≤ x.toInt ∧ x.toInt < ((N 0 * N 1 : Nat) : Int)))))])) (h' := (xS b, I, L, xP b)) rfl rfl ?_
  refine xw_go xb_166 1 (f1 := (if (nI (xB (decide (0 ≤ x.toInt ∧ x.toInt < ((N 0 * N 1 : Nat) : Int))))) = 0 then 45 else 8, [.ref 60, .int x, .int y, .int z, .int w, .int i, .float 0, .float 0], [])) (h1 := (xS b, I, L, xP b)) rfl trivial ?_
  refine xw_if (fun c_5 => ?_) (fun c_5 => ?_)
  · skip
    refine xw_go xb_166 1 (f1 := (46, [.ref 60, .int x, .int y, .int z, .int w, .int i, .float 0, .float 0], [.int (-1)])) (h1 := (xS b, I, L, xP b)) rfl trivial ?_
    refine xw_ret xb_166 rfl rfl trivial ?_
    exact xHM_s hS
  · skip
    refine xw_go xb_166 4 (f1 := (14, [.ref 60, .int x, .int y, .int z, .int w, .int i, .float 0, .float 0], [.long 24, .long 1, .long y.toInt64])) (h1 := (xS b, I, L, xP b)) rfl trivial ?_
    refine xw_call xb_166 rfl rfl rfl rfl rfl (Or.inl rfl) m_in ?_
    rintro _ _ ⟨rfl, rfl⟩
    refine xw_at (f' := (17, [.ref 60, .int x, .int y, .int z, .int w, .int i, .float 0, .float 0], [.int (nI (xB (decide ((1 : Int64).toInt ≤ y.toInt64.toInt ∧ y.toInt64.toInt ≤ (24 : Int64).toInt))))])) (h' := (xS b, I, L, xP b)) rfl rfl ?_
    refine xw_go xb_166 1 (f1 := (if (nI (xB (decide ((1 : Int64).toInt ≤ y.toInt64.toInt ∧ y.toInt64.toInt ≤ (24 : Int64).toInt)))) = 0 then 45 else 20, [.ref 60, .int x, .int y, .int z, .int w, .int i, .float 0, .float 0], [])) (h1 := (xS b, I, L, xP b)) rfl trivial ?_
    refine xw_if (fun c_17 => ?_) (fun c_17 => ?_)
    · skip
      refine xw_go xb_166 1 (f1 := (46, [.ref 60, .int x, .int y, .int z, .int w, .int i, .float 0, .float 0], [.int (-1)])) (h1 := (xS b, I, L, xP b)) rfl trivial ?_
      refine xw_ret xb_166 rfl rfl trivial ?_
      exact xHM_s hS
    · skip
      refine xw_go xb_166 4 (f1 := (24, [.ref 60, .int x, .int y, .int z, .int w, .int i, .float 0, .float 0], [.ref 60, .int (x + y)])) (h1 := (xS b, I, L, xP b)) rfl trivial ?_
      refine xw_call xb_166 rfl rfl rfl rfl rfl (Or.inr ⟨_, _, rfl, rfl⟩) (m_cells (I := I) hM.1) ?_
      rintro _ _ ⟨rfl, rfl⟩
      refine xw_at (f' := (27, [.ref 60, .int x, .int y, .int z, .int w, .int i, .float 0, .float 0], [.int (nI (N 0 * N 1)), .int (x + y)])) (h' := (xS b, I, L, xP b)) rfl rfl ?_
      refine xw_go xb_166 1 (f1 := (if (nI (N 0 * N 1)) < (x + y) then 45 else 30, [.ref 60, .int x, .int y, .int z, .int w, .int i, .float 0, .float 0], [])) (h1 := (xS b, I, L, xP b)) rfl trivial ?_
      refine xw_if (fun c_27 => ?_) (fun c_27 => ?_)
      · skip
        refine xw_go xb_166 1 (f1 := (46, [.ref 60, .int x, .int y, .int z, .int w, .int i, .float 0, .float 0], [.int (-1)])) (h1 := (xS b, I, L, xP b)) rfl trivial ?_
        refine xw_ret xb_166 rfl rfl trivial ?_
        exact xHM_s hS
      · skip
        exfalso
        try simp only [xB_dec, Classical.not_not] at c_5 c_17 c_27
        try simp (disch := omega) only [xt_eq, xt_lt, xt_le, xkt_0, xkt_1, xkt_2, xkt_3, xkt_4, xkt_5, xkt_6, xkt_7, xkt_8, xkt_9, xkt_10, xkt_11, xkt_12, xkt_13, xkt_14, xkt_16, xkt_20, xkt_24, xkt_31, xkt_32, xkt_40, xkt_44, xkt_47, xkt_48, xkt_57, xkt_59, xkt_60, xkt_63, xkt_64, xkt_65, xkt_72, xkt_95, xkt_99, xkt_100, xkt_101, xkt_103, xkt_110, xkt_112, xkt_113, xkt_114, xkt_119, xkt_126, xkt_159, xkt_576, xkt_999, xkt_9999, xkt_65536, xkt_999999, xkt_m1, xkt_m2, xkt_m3, xkt_m4, xkt_m11, xkt_m12, xkt_m13, xkt_m14, xkt_m20, xjt_0, xjt_1, xjt_2, xjt_3, xjt_4, xjt_5, xjt_6, xjt_7, xjt_8, xjt_9, xjt_10, xjt_11, xjt_12, xjt_13, xjt_14, xjt_16, xjt_20, xjt_24, xjt_31, xjt_32, xjt_40, xjt_44, xjt_47, xjt_48, xjt_57, xjt_59, xjt_60, xjt_63, xjt_64, xjt_65, xjt_72, xjt_95, xjt_99, xjt_100, xjt_101, xjt_103, xjt_110, xjt_112, xjt_113, xjt_114, xjt_119, xjt_126, xjt_159, xjt_576, xjt_999, xjt_9999, xjt_65536, xjt_999999, xt64, xt_n, not_true_eq_false, not_false_eq_true, Classical.not_not] at c_5 c_17 c_27
        have e1 : 0 ≤ x.toInt → x.toInt < ((N 0 * N 1 : Nat) : Int) → 1 ≤ y.toInt → y.toInt ≤ 24 → (x + y).toInt = x.toInt + y.toInt := fun q0 q3 q1 q2 => by
          rw [Int32.toInt_add]
          exact Int.bmod_eq_of_le (by omega) (by omega)
        have e2 := e1 (by omega) (by omega) (by omega) (by omega)
        all_goals omega

theorem m_film1 {d : Nat} {b : Bool} {I : Nat → Nat → Int32} {L : Nat → Nat → Int64} {N : Nat → Nat} {u : Nat} {U : Nat → Nat → Nat} (hM : xML N u U I) (hK : xUK N u U) {Y : xY} (hS : xSM Y I L) (hY : xYK Y) {c n : Nat} (hc : c < N 0 * N 1) (hn : 1 ≤ n ∧ n ≤ 24) (hcn : c + n ≤ N 0 * N 1) {x y i : Int32} (hx : ¬ (0 ≤ x.toInt ∧ x.toInt ≤ 3 ∧ 0 ≤ y.toInt ∧ y.toInt ≤ 3)) {p : Int32} (e_p : p = nI c) {q : Int32} (e_q : q = nI n) : xm_Z (d + 3) 166 [.ref 60, .int p, .int q, .int x, .int y, .int i] (xS b, I, L, xP b) (fun rz hz => xHM b I L (-1) Y rz hz) := by
  subst e_p
  subst e_q
  have hO := hK.1
  have hb := hK.1.1
  have c64 : N 0 * N 1 ≤ 64 := xce_le hO
  have c4 : 4 ≤ N 0 * N 1 := xce_ge hO
  refine xw_S xb_166 (l := [.ref 60, .int (nI c), .int (nI n), .int x, .int y, .int i, .float 0, .float 0]) (Nat.le_of_ble_eq_true rfl) rfl ?_
  refine xw_go xb_166 2 (f1 := (2, [.ref 60, .int (nI c), .int (nI n), .int x, .int y, .int i, .float 0, .float 0], [.int (nI c), .ref 60])) (h1 := (xS b, I, L, xP b)) rfl trivial ?_
  refine xw_call xb_166 rfl rfl rfl rfl rfl (Or.inr ⟨_, _, rfl, rfl⟩) (m_isCell (I := I) hM.1 hO) ?_
  rintro _ _ ⟨rfl, rfl⟩
  refine xw_at (f' := (5, [.ref 60, .int (nI c), .int (nI n), .int x, .int y, .int i, .float 0, .float 0], [.int (nI (xB (decide (0 ≤ (nI c).toInt ∧ (nI c).toInt < ((N 0 * N 1 : Nat) : Int)))))])) (h' := (xS b, I, L, xP b)) rfl rfl ?_
  refine xw_go xb_166 1 (f1 := (if (nI (xB (decide (0 ≤ (nI c).toInt ∧ (nI c).toInt < ((N 0 * N 1 : Nat) : Int))))) = 0 then 45 else 8, [.ref 60, .int (nI c), .int (nI n), .int x, .int y, .int i, .float 0, .float 0], [])) (h1 := (xS b, I, L, xP b)) rfl trivial ?_
  refine xw_if (fun c_5 => ?_) (fun c_5 => ?_)
  · skip
    refine xw_go xb_166 1 (f1 := (46, [.ref 60, .int (nI c), .int (nI n), .int x, .int y, .int i, .float 0, .float 0], [.int (-1)])) (h1 := (xS b, I, L, xP b)) rfl trivial ?_
    refine xw_ret xb_166 rfl rfl trivial ?_
    exact xHM_s hS
  · skip
    refine xw_go xb_166 4 (f1 := (14, [.ref 60, .int (nI c), .int (nI n), .int x, .int y, .int i, .float 0, .float 0], [.long 24, .long 1, .long ((nI n).toInt64)])) (h1 := (xS b, I, L, xP b)) rfl trivial ?_
    refine xw_call xb_166 rfl rfl rfl rfl rfl (Or.inl rfl) m_in ?_
    rintro _ _ ⟨rfl, rfl⟩
    refine xw_at (f' := (17, [.ref 60, .int (nI c), .int (nI n), .int x, .int y, .int i, .float 0, .float 0], [.int (nI (xB (decide ((1 : Int64).toInt ≤ (nI n).toInt64.toInt ∧ (nI n).toInt64.toInt ≤ (24 : Int64).toInt))))])) (h' := (xS b, I, L, xP b)) rfl rfl ?_
    refine xw_go xb_166 1 (f1 := (if (nI (xB (decide ((1 : Int64).toInt ≤ (nI n).toInt64.toInt ∧ (nI n).toInt64.toInt ≤ (24 : Int64).toInt)))) = 0 then 45 else 20, [.ref 60, .int (nI c), .int (nI n), .int x, .int y, .int i, .float 0, .float 0], [])) (h1 := (xS b, I, L, xP b)) rfl trivial ?_
    refine xw_if (fun c_17 => ?_) (fun c_17 => ?_)
    · skip
      refine xw_go xb_166 1 (f1 := (46, [.ref 60, .int (nI c), .int (nI n), .int x, .int y, .int i, .float 0, .float 0], [.int (-1)])) (h1 := (xS b, I, L, xP b)) rfl trivial ?_
      refine xw_ret xb_166 rfl rfl trivial ?_
      exact xHM_s hS
    · skip
      refine xw_go xb_166 4 (f1 := (24, [.ref 60, .int (nI c), .int (nI n), .int x, .int y, .int i, .float 0, .float 0], [.ref 60, .int ((nI c) + (nI n))])) (h1 := (xS b, I, L, xP b)) rfl trivial ?_
      refine xw_call xb_166 rfl rfl rfl rfl rfl (Or.inr ⟨_, _, rfl, rfl⟩) (m_cells (I := I) hM.1) ?_
      rintro _ _ ⟨rfl, rfl⟩
      refine xw_at (f' := (27, [.ref 60, .int (nI c), .int (nI n), .int x, .int y, .int i, .float 0, .float 0], [.int (nI (N 0 * N 1)), .int ((nI c) + (nI n))])) (h' := (xS b, I, L, xP b)) rfl rfl ?_
      refine xw_go xb_166 1 (f1 := (if (nI (N 0 * N 1)) < ((nI c) + (nI n)) then 45 else 30, [.ref 60, .int (nI c), .int (nI n), .int x, .int y, .int i, .float 0, .float 0], [])) (h1 := (xS b, I, L, xP b)) rfl trivial ?_
      refine xw_if (fun c_27 => ?_) (fun c_27 => ?_)
      · skip
        refine xw_go xb_166 1 (f1 := (46, [.ref 60, .int (nI c), .int (nI n), .int x, .int y, .int i, .float 0, .float 0], [.int (-1)])) (h1 := (xS b, I, L, xP b)) rfl trivial ?_
        refine xw_ret xb_166 rfl rfl trivial ?_
        exact xHM_s hS
      · skip
        refine xw_go xb_166 1 (f1 := (31, [.ref 60, .int (nI c), .int (nI n), .int x, .int y, .int i, .float 0, .float 0], [.int x])) (h1 := (xS b, I, L, xP b)) rfl trivial ?_
        refine xw_call xb_166 rfl rfl rfl rfl rfl (Or.inl rfl) m_isSheet ?_
        rintro _ _ ⟨rfl, rfl⟩
        refine xw_at (f' := (34, [.ref 60, .int (nI c), .int (nI n), .int x, .int y, .int i, .float 0, .float 0], [.int (nI (xB (decide (0 ≤ x.toInt ∧ x.toInt ≤ 3))))])) (h' := (xS b, I, L, xP b)) rfl rfl ?_
        refine xw_go xb_166 1 (f1 := (if (nI (xB (decide (0 ≤ x.toInt ∧ x.toInt ≤ 3)))) = 0 then 45 else 37, [.ref 60, .int (nI c), .int (nI n), .int x, .int y, .int i, .float 0, .float 0], [])) (h1 := (xS b, I, L, xP b)) rfl trivial ?_
        refine xw_if (fun c_34 => ?_) (fun c_34 => ?_)
        · skip
          refine xw_go xb_166 1 (f1 := (46, [.ref 60, .int (nI c), .int (nI n), .int x, .int y, .int i, .float 0, .float 0], [.int (-1)])) (h1 := (xS b, I, L, xP b)) rfl trivial ?_
          refine xw_ret xb_166 rfl rfl trivial ?_
          exact xHM_s hS
        · skip
          refine xw_go xb_166 1 (f1 := (39, [.ref 60, .int (nI c), .int (nI n), .int x, .int y, .int i, .float 0, .float 0], [.int y])) (h1 := (xS b, I, L, xP b)) rfl trivial ?_
          refine xw_call xb_166 rfl rfl rfl rfl rfl (Or.inl rfl) m_isLane ?_
          rintro _ _ ⟨rfl, rfl⟩
          refine xw_at (f' := (42, [.ref 60, .int (nI c), .int (nI n), .int x, .int y, .int i, .float 0, .float 0], [.int (nI (xB (decide (0 ≤ y.toInt ∧ y.toInt ≤ 3))))])) (h' := (xS b, I, L, xP b)) rfl rfl ?_
          refine xw_go xb_166 1 (f1 := (if ¬ (nI (xB (decide (0 ≤ y.toInt ∧ y.toInt ≤ 3)))) = 0 then 47 else 45, [.ref 60, .int (nI c), .int (nI n), .int x, .int y, .int i, .float 0, .float 0], [])) (h1 := (xS b, I, L, xP b)) rfl trivial ?_
          refine xw_if (fun c_42 => ?_) (fun c_42 => ?_)
          · skip
            exfalso
            try simp only [xB_dec, Classical.not_not] at c_5 c_17 c_27 c_34 c_42
            try simp (disch := omega) only [nI_add, xt_eq, xt_lt, xt_le, xkt_0, xkt_1, xkt_2, xkt_3, xkt_4, xkt_5, xkt_6, xkt_7, xkt_8, xkt_9, xkt_10, xkt_11, xkt_12, xkt_13, xkt_14, xkt_16, xkt_20, xkt_24, xkt_31, xkt_32, xkt_40, xkt_44, xkt_47, xkt_48, xkt_57, xkt_59, xkt_60, xkt_63, xkt_64, xkt_65, xkt_72, xkt_95, xkt_99, xkt_100, xkt_101, xkt_103, xkt_110, xkt_112, xkt_113, xkt_114, xkt_119, xkt_126, xkt_159, xkt_576, xkt_999, xkt_9999, xkt_65536, xkt_999999, xkt_m1, xkt_m2, xkt_m3, xkt_m4, xkt_m11, xkt_m12, xkt_m13, xkt_m14, xkt_m20, xjt_0, xjt_1, xjt_2, xjt_3, xjt_4, xjt_5, xjt_6, xjt_7, xjt_8, xjt_9, xjt_10, xjt_11, xjt_12, xjt_13, xjt_14, xjt_16, xjt_20, xjt_24, xjt_31, xjt_32, xjt_40, xjt_44, xjt_47, xjt_48, xjt_57, xjt_59, xjt_60, xjt_63, xjt_64, xjt_65, xjt_72, xjt_95, xjt_99, xjt_100, xjt_101, xjt_103, xjt_110, xjt_112, xjt_113, xjt_114, xjt_119, xjt_126, xjt_159, xjt_576, xjt_999, xjt_9999, xjt_65536, xjt_999999, xt64, xt_n, not_true_eq_false, not_false_eq_true, Classical.not_not] at c_5 c_17 c_27 c_34 c_42
            all_goals omega
          · skip
            refine xw_go xb_166 1 (f1 := (46, [.ref 60, .int (nI c), .int (nI n), .int x, .int y, .int i, .float 0, .float 0], [.int (-1)])) (h1 := (xS b, I, L, xP b)) rfl trivial ?_
            refine xw_ret xb_166 rfl rfl trivial ?_
            exact xHM_s hS

theorem m_film2 {d : Nat} {b : Bool} {I : Nat → Nat → Int32} {L : Nat → Nat → Int64} {N : Nat → Nat} {u : Nat} {U : Nat → Nat → Nat} (hM : xML N u U I) (hK : xUK N u U) {Y : xY} (hS : xSM Y I L) (hY : xYK Y) {c n : Nat} (hc : c < N 0 * N 1) (hn : 1 ≤ n ∧ n ≤ 24) (hcn : c + n ≤ N 0 * N 1) {s : Nat} (hs : s < 4) {la : Nat} (bl : la < 4) {i : Int32} (hw : xwy (Y s) la i (nI n) ≠ 0) {p : Int32} (e_p : p = nI c) {q : Int32} (e_q : q = nI n) {x : Int32} (e_x : x = nI s) {y : Int32} (e_y : y = nI la) : xm_Z (d + 3) 166 [.ref 60, .int p, .int q, .int x, .int y, .int i] (xS b, I, L, xP b) (fun rz hz => xHM b I L (xwy (Y s) la i (nI n)) Y rz hz) := by
  subst e_p
  subst e_q
  subst e_x
  subst e_y
  have hO := hK.1
  have hb := hK.1.1
  have c64 : N 0 * N 1 ≤ 64 := xce_le hO
  have c4 : 4 ≤ N 0 * N 1 := xce_ge hO
  refine xw_S xb_166 (l := [.ref 60, .int (nI c), .int (nI n), .int (nI s), .int (nI la), .int i, .float 0, .float 0]) (Nat.le_of_ble_eq_true rfl) rfl ?_
  refine xw_go xb_166 2 (f1 := (2, [.ref 60, .int (nI c), .int (nI n), .int (nI s), .int (nI la), .int i, .float 0, .float 0], [.int (nI c), .ref 60])) (h1 := (xS b, I, L, xP b)) rfl trivial ?_
  refine xw_call xb_166 rfl rfl rfl rfl rfl (Or.inr ⟨_, _, rfl, rfl⟩) (m_isCell (I := I) hM.1 hO) ?_
  rintro _ _ ⟨rfl, rfl⟩
  refine xw_at (f' := (5, [.ref 60, .int (nI c), .int (nI n), .int (nI s), .int (nI la), .int i, .float 0, .float 0], [.int (nI (xB (decide (0 ≤ (nI c).toInt ∧ (nI c).toInt < ((N 0 * N 1 : Nat) : Int)))))])) (h' := (xS b, I, L, xP b)) rfl rfl ?_
  refine xw_go xb_166 1 (f1 := (if (nI (xB (decide (0 ≤ (nI c).toInt ∧ (nI c).toInt < ((N 0 * N 1 : Nat) : Int))))) = 0 then 45 else 8, [.ref 60, .int (nI c), .int (nI n), .int (nI s), .int (nI la), .int i, .float 0, .float 0], [])) (h1 := (xS b, I, L, xP b)) rfl trivial ?_
  refine xw_if (fun c_5 => ?_) (fun c_5 => ?_)
  · skip
    exfalso
    try simp only [xB_dec, Classical.not_not] at c_5
    try simp (disch := omega) only [nI_add, xt_eq, xt_lt, xt_le, xkt_0, xkt_1, xkt_2, xkt_3, xkt_4, xkt_5, xkt_6, xkt_7, xkt_8, xkt_9, xkt_10, xkt_11, xkt_12, xkt_13, xkt_14, xkt_16, xkt_20, xkt_24, xkt_31, xkt_32, xkt_40, xkt_44, xkt_47, xkt_48, xkt_57, xkt_59, xkt_60, xkt_63, xkt_64, xkt_65, xkt_72, xkt_95, xkt_99, xkt_100, xkt_101, xkt_103, xkt_110, xkt_112, xkt_113, xkt_114, xkt_119, xkt_126, xkt_159, xkt_576, xkt_999, xkt_9999, xkt_65536, xkt_999999, xkt_m1, xkt_m2, xkt_m3, xkt_m4, xkt_m11, xkt_m12, xkt_m13, xkt_m14, xkt_m20, xjt_0, xjt_1, xjt_2, xjt_3, xjt_4, xjt_5, xjt_6, xjt_7, xjt_8, xjt_9, xjt_10, xjt_11, xjt_12, xjt_13, xjt_14, xjt_16, xjt_20, xjt_24, xjt_31, xjt_32, xjt_40, xjt_44, xjt_47, xjt_48, xjt_57, xjt_59, xjt_60, xjt_63, xjt_64, xjt_65, xjt_72, xjt_95, xjt_99, xjt_100, xjt_101, xjt_103, xjt_110, xjt_112, xjt_113, xjt_114, xjt_119, xjt_126, xjt_159, xjt_576, xjt_999, xjt_9999, xjt_65536, xjt_999999, xt64, xt_n, not_true_eq_false, not_false_eq_true, Classical.not_not] at c_5
    all_goals omega
  · skip
    refine xw_go xb_166 4 (f1 := (14, [.ref 60, .int (nI c), .int (nI n), .int (nI s), .int (nI la), .int i, .float 0, .float 0], [.long 24, .long 1, .long ((nI n).toInt64)])) (h1 := (xS b, I, L, xP b)) rfl trivial ?_
    refine xw_call xb_166 rfl rfl rfl rfl rfl (Or.inl rfl) m_in ?_
    rintro _ _ ⟨rfl, rfl⟩
    refine xw_at (f' := (17, [.ref 60, .int (nI c), .int (nI n), .int (nI s), .int (nI la), .int i, .float 0, .float 0], [.int (nI (xB (decide ((1 : Int64).toInt ≤ (nI n).toInt64.toInt ∧ (nI n).toInt64.toInt ≤ (24 : Int64).toInt))))])) (h' := (xS b, I, L, xP b)) rfl rfl ?_
    refine xw_go xb_166 1 (f1 := (if (nI (xB (decide ((1 : Int64).toInt ≤ (nI n).toInt64.toInt ∧ (nI n).toInt64.toInt ≤ (24 : Int64).toInt)))) = 0 then 45 else 20, [.ref 60, .int (nI c), .int (nI n), .int (nI s), .int (nI la), .int i, .float 0, .float 0], [])) (h1 := (xS b, I, L, xP b)) rfl trivial ?_
    refine xw_if (fun c_17 => ?_) (fun c_17 => ?_)
    · skip
      exfalso
      try simp only [xB_dec, Classical.not_not] at c_5 c_17
      try simp (disch := omega) only [nI_add, xt_eq, xt_lt, xt_le, xkt_0, xkt_1, xkt_2, xkt_3, xkt_4, xkt_5, xkt_6, xkt_7, xkt_8, xkt_9, xkt_10, xkt_11, xkt_12, xkt_13, xkt_14, xkt_16, xkt_20, xkt_24, xkt_31, xkt_32, xkt_40, xkt_44, xkt_47, xkt_48, xkt_57, xkt_59, xkt_60, xkt_63, xkt_64, xkt_65, xkt_72, xkt_95, xkt_99, xkt_100, xkt_101, xkt_103, xkt_110, xkt_112, xkt_113, xkt_114, xkt_119, xkt_126, xkt_159, xkt_576, xkt_999, xkt_9999, xkt_65536, xkt_999999, xkt_m1, xkt_m2, xkt_m3, xkt_m4, xkt_m11, xkt_m12, xkt_m13, xkt_m14, xkt_m20, xjt_0, xjt_1, xjt_2, xjt_3, xjt_4, xjt_5, xjt_6, xjt_7, xjt_8, xjt_9, xjt_10, xjt_11, xjt_12, xjt_13, xjt_14, xjt_16, xjt_20, xjt_24, xjt_31, xjt_32, xjt_40, xjt_44, xjt_47, xjt_48, xjt_57, xjt_59, xjt_60, xjt_63, xjt_64, xjt_65, xjt_72, xjt_95, xjt_99, xjt_100, xjt_101, xjt_103, xjt_110, xjt_112, xjt_113, xjt_114, xjt_119, xjt_126, xjt_159, xjt_576, xjt_999, xjt_9999, xjt_65536, xjt_999999, xt64, xt_n, not_true_eq_false, not_false_eq_true, Classical.not_not] at c_5 c_17
      all_goals omega
    · skip
      refine xw_go xb_166 4 (f1 := (24, [.ref 60, .int (nI c), .int (nI n), .int (nI s), .int (nI la), .int i, .float 0, .float 0], [.ref 60, .int ((nI c) + (nI n))])) (h1 := (xS b, I, L, xP b)) rfl trivial ?_
      refine xw_call xb_166 rfl rfl rfl rfl rfl (Or.inr ⟨_, _, rfl, rfl⟩) (m_cells (I := I) hM.1) ?_
      rintro _ _ ⟨rfl, rfl⟩
      refine xw_at (f' := (27, [.ref 60, .int (nI c), .int (nI n), .int (nI s), .int (nI la), .int i, .float 0, .float 0], [.int (nI (N 0 * N 1)), .int ((nI c) + (nI n))])) (h' := (xS b, I, L, xP b)) rfl rfl ?_
      refine xw_go xb_166 1 (f1 := (if (nI (N 0 * N 1)) < ((nI c) + (nI n)) then 45 else 30, [.ref 60, .int (nI c), .int (nI n), .int (nI s), .int (nI la), .int i, .float 0, .float 0], [])) (h1 := (xS b, I, L, xP b)) rfl trivial ?_
      refine xw_if (fun c_27 => ?_) (fun c_27 => ?_)
      · skip
        exfalso
        try simp only [xB_dec, Classical.not_not] at c_5 c_17 c_27
        try simp (disch := omega) only [nI_add, xt_eq, xt_lt, xt_le, xkt_0, xkt_1, xkt_2, xkt_3, xkt_4, xkt_5, xkt_6, xkt_7, xkt_8, xkt_9, xkt_10, xkt_11, xkt_12, xkt_13, xkt_14, xkt_16, xkt_20, xkt_24, xkt_31, xkt_32, xkt_40, xkt_44, xkt_47, xkt_48, xkt_57, xkt_59, xkt_60, xkt_63, xkt_64, xkt_65, xkt_72, xkt_95, xkt_99, xkt_100, xkt_101, xkt_103, xkt_110, xkt_112, xkt_113, xkt_114, xkt_119, xkt_126, xkt_159, xkt_576, xkt_999, xkt_9999, xkt_65536, xkt_999999, xkt_m1, xkt_m2, xkt_m3, xkt_m4, xkt_m11, xkt_m12, xkt_m13, xkt_m14, xkt_m20, xjt_0, xjt_1, xjt_2, xjt_3, xjt_4, xjt_5, xjt_6, xjt_7, xjt_8, xjt_9, xjt_10, xjt_11, xjt_12, xjt_13, xjt_14, xjt_16, xjt_20, xjt_24, xjt_31, xjt_32, xjt_40, xjt_44, xjt_47, xjt_48, xjt_57, xjt_59, xjt_60, xjt_63, xjt_64, xjt_65, xjt_72, xjt_95, xjt_99, xjt_100, xjt_101, xjt_103, xjt_110, xjt_112, xjt_113, xjt_114, xjt_119, xjt_126, xjt_159, xjt_576, xjt_999, xjt_9999, xjt_65536, xjt_999999, xt64, xt_n, not_true_eq_false, not_false_eq_true, Classical.not_not] at c_5 c_17 c_27
        all_goals omega
      · skip
        refine xw_go xb_166 1 (f1 := (31, [.ref 60, .int (nI c), .int (nI n), .int (nI s), .int (nI la), .int i, .float 0, .float 0], [.int (nI s)])) (h1 := (xS b, I, L, xP b)) rfl trivial ?_
        refine xw_call xb_166 rfl rfl rfl rfl rfl (Or.inl rfl) m_isSheet ?_
        rintro _ _ ⟨rfl, rfl⟩
        refine xw_at (f' := (34, [.ref 60, .int (nI c), .int (nI n), .int (nI s), .int (nI la), .int i, .float 0, .float 0], [.int (nI (xB (decide (0 ≤ (nI s).toInt ∧ (nI s).toInt ≤ 3))))])) (h' := (xS b, I, L, xP b)) rfl rfl ?_
        refine xw_go xb_166 1 (f1 := (if (nI (xB (decide (0 ≤ (nI s).toInt ∧ (nI s).toInt ≤ 3)))) = 0 then 45 else 37, [.ref 60, .int (nI c), .int (nI n), .int (nI s), .int (nI la), .int i, .float 0, .float 0], [])) (h1 := (xS b, I, L, xP b)) rfl trivial ?_
        refine xw_if (fun c_34 => ?_) (fun c_34 => ?_)
        · skip
          exfalso
          try simp only [xB_dec, Classical.not_not] at c_5 c_17 c_27 c_34
          try simp (disch := omega) only [nI_add, xt_eq, xt_lt, xt_le, xkt_0, xkt_1, xkt_2, xkt_3, xkt_4, xkt_5, xkt_6, xkt_7, xkt_8, xkt_9, xkt_10, xkt_11, xkt_12, xkt_13, xkt_14, xkt_16, xkt_20, xkt_24, xkt_31, xkt_32, xkt_40, xkt_44, xkt_47, xkt_48, xkt_57, xkt_59, xkt_60, xkt_63, xkt_64, xkt_65, xkt_72, xkt_95, xkt_99, xkt_100, xkt_101, xkt_103, xkt_110, xkt_112, xkt_113, xkt_114, xkt_119, xkt_126, xkt_159, xkt_576, xkt_999, xkt_9999, xkt_65536, xkt_999999, xkt_m1, xkt_m2, xkt_m3, xkt_m4, xkt_m11, xkt_m12, xkt_m13, xkt_m14, xkt_m20, xjt_0, xjt_1, xjt_2, xjt_3, xjt_4, xjt_5, xjt_6, xjt_7, xjt_8, xjt_9, xjt_10, xjt_11, xjt_12, xjt_13, xjt_14, xjt_16, xjt_20, xjt_24, xjt_31, xjt_32, xjt_40, xjt_44, xjt_47, xjt_48, xjt_57, xjt_59, xjt_60, xjt_63, xjt_64, xjt_65, xjt_72, xjt_95, xjt_99, xjt_100, xjt_101, xjt_103, xjt_110, xjt_112, xjt_113, xjt_114, xjt_119, xjt_126, xjt_159, xjt_576, xjt_999, xjt_9999, xjt_65536, xjt_999999, xt64, xt_n, not_true_eq_false, not_false_eq_true, Classical.not_not] at c_5 c_17 c_27 c_34
          all_goals omega
        · skip
          refine xw_go xb_166 1 (f1 := (39, [.ref 60, .int (nI c), .int (nI n), .int (nI s), .int (nI la), .int i, .float 0, .float 0], [.int (nI la)])) (h1 := (xS b, I, L, xP b)) rfl trivial ?_
          refine xw_call xb_166 rfl rfl rfl rfl rfl (Or.inl rfl) m_isLane ?_
          rintro _ _ ⟨rfl, rfl⟩
          refine xw_at (f' := (42, [.ref 60, .int (nI c), .int (nI n), .int (nI s), .int (nI la), .int i, .float 0, .float 0], [.int (nI (xB (decide (0 ≤ (nI la).toInt ∧ (nI la).toInt ≤ 3))))])) (h' := (xS b, I, L, xP b)) rfl rfl ?_
          refine xw_go xb_166 1 (f1 := (if ¬ (nI (xB (decide (0 ≤ (nI la).toInt ∧ (nI la).toInt ≤ 3)))) = 0 then 47 else 45, [.ref 60, .int (nI c), .int (nI n), .int (nI s), .int (nI la), .int i, .float 0, .float 0], [])) (h1 := (xS b, I, L, xP b)) rfl trivial ?_
          refine xw_if (fun c_42 => ?_) (fun c_42 => ?_)
          · skip
            refine xw_go xb_166 5 (f1 := (54, [.ref 60, .int (nI c), .int (nI n), .int (nI s), .int (nI la), .int i, .float 0, .float 0], [.int (nI n), .int i, .int (nI la), .int (nI s), .ref 60])) (h1 := (xS b, I, L, xP b)) rfl trivial ?_
            refine xw_call xb_166 rfl rfl rfl rfl rfl (Or.inr ⟨_, _, rfl, rfl⟩) (m_why hS hY hs bl rfl rfl) ?_
            rintro _ _ ⟨rfl, rfl⟩
            refine xw_at (f' := (57, [.ref 60, .int (nI c), .int (nI n), .int (nI s), .int (nI la), .int i, .float 0, .float 0], [.int (xwy (Y s) la i (nI n))])) (h' := (xS b, I, L, xP b)) rfl rfl ?_
            refine xw_go xb_166 3 (f1 := (if 0 ≤ (xwy (Y s) la i (nI n)) then 67 else 64, [.ref 60, .int (nI c), .int (nI n), .int (nI s), .int (nI la), .int i, .int (xwy (Y s) la i (nI n)), .float 0], [])) (h1 := (xS b, I, L, xP b)) rfl trivial ?_
            refine xw_if (fun c_61 => ?_) (fun c_61 => ?_)
            · skip
              exact absurd (xwy_ge.mp c_61) hw
            · skip
              refine xw_go xb_166 1 (f1 := (66, [.ref 60, .int (nI c), .int (nI n), .int (nI s), .int (nI la), .int i, .int (xwy (Y s) la i (nI n)), .float 0], [.int (xwy (Y s) la i (nI n))])) (h1 := (xS b, I, L, xP b)) rfl trivial ?_
              refine xw_ret xb_166 rfl rfl trivial ?_
              exact xHM_s hS
          · skip
            exfalso
            try simp only [xB_dec, Classical.not_not] at c_5 c_17 c_27 c_34 c_42
            try simp (disch := omega) only [nI_add, xt_eq, xt_lt, xt_le, xkt_0, xkt_1, xkt_2, xkt_3, xkt_4, xkt_5, xkt_6, xkt_7, xkt_8, xkt_9, xkt_10, xkt_11, xkt_12, xkt_13, xkt_14, xkt_16, xkt_20, xkt_24, xkt_31, xkt_32, xkt_40, xkt_44, xkt_47, xkt_48, xkt_57, xkt_59, xkt_60, xkt_63, xkt_64, xkt_65, xkt_72, xkt_95, xkt_99, xkt_100, xkt_101, xkt_103, xkt_110, xkt_112, xkt_113, xkt_114, xkt_119, xkt_126, xkt_159, xkt_576, xkt_999, xkt_9999, xkt_65536, xkt_999999, xkt_m1, xkt_m2, xkt_m3, xkt_m4, xkt_m11, xkt_m12, xkt_m13, xkt_m14, xkt_m20, xjt_0, xjt_1, xjt_2, xjt_3, xjt_4, xjt_5, xjt_6, xjt_7, xjt_8, xjt_9, xjt_10, xjt_11, xjt_12, xjt_13, xjt_14, xjt_16, xjt_20, xjt_24, xjt_31, xjt_32, xjt_40, xjt_44, xjt_47, xjt_48, xjt_57, xjt_59, xjt_60, xjt_63, xjt_64, xjt_65, xjt_72, xjt_95, xjt_99, xjt_100, xjt_101, xjt_103, xjt_110, xjt_112, xjt_113, xjt_114, xjt_119, xjt_126, xjt_159, xjt_576, xjt_999, xjt_9999, xjt_65536, xjt_999999, xt64, xt_n, not_true_eq_false, not_false_eq_true, Classical.not_not] at c_5 c_17 c_27 c_34 c_42
            all_goals omega

theorem m_film3 {d : Nat} {b : Bool} {I : Nat → Nat → Int32} {L : Nat → Nat → Int64} {N : Nat → Nat} {u : Nat} {U : Nat → Nat → Nat} (hM : xML N u U I) (hK : xUK N u U) {Y : xY} (hS : xSM Y I L) (hY : xYK Y) {c n : Nat} (hc : c < N 0 * N 1) (hn : 1 ≤ n ∧ n ≤ 24) (hcn : c + n ≤ N 0 * N 1) {s : Nat} (hs : s < 4) {la : Nat} (bl : la < 4) {j : Nat} (bj : j < 2 ^ 31) (hw : xwy (Y s) la (nI j) (nI n) = 0) {p : Int32} (e_p : p = nI c) {q : Int32} (e_q : q = nI n) {x : Int32} (e_x : x = nI s) {y : Int32} (e_y : y = nI la) {z : Int32} (e_z : z = nI j) : xm_Z (d + 3) 166 [.ref 60, .int p, .int q, .int x, .int y, .int z] (xS b, I, L, xP b) (fun rz hz => xHM b I L (nI n) (va_up Y s (true, (Y s).2.1, (Y s).2.2.1, va_cpy (fun k => xct la (nI (N (95 + (c + k)))).toInt64) (Y s).2.2.2 0 j n)) rz hz) := by
  subst e_p
  subst e_q
  subst e_x
  subst e_y
  subst e_z
  have hO := hK.1
  have hb := hK.1.1
  have c64 : N 0 * N 1 ≤ 64 := xce_le hO
  have c4 : 4 ≤ N 0 * N 1 := xce_ge hO
  obtain ⟨y0, y2, y3⟩ := hS s hs
  have hk := hY s hs
  obtain ⟨w1, w2, w3, w4, w5⟩ := xwy_0 hw
  have hj : j + n ≤ (Y s).2.2.1 := by rw [xt_n bj, xt_n (by omega)] at w5; omega
  refine xw_S xb_166 (l := [.ref 60, .int (nI c), .int (nI n), .int (nI s), .int (nI la), .int (nI j), .float 0, .float 0]) (Nat.le_of_ble_eq_true rfl) rfl ?_
  refine xw_go xb_166 2 (f1 := (2, [.ref 60, .int (nI c), .int (nI n), .int (nI s), .int (nI la), .int (nI j), .float 0, .float 0], [.int (nI c), .ref 60])) (h1 := (xS b, I, L, xP b)) rfl trivial ?_
  refine xw_call xb_166 rfl rfl rfl rfl rfl (Or.inr ⟨_, _, rfl, rfl⟩) (m_isCell (I := I) hM.1 hO) ?_
  rintro _ _ ⟨rfl, rfl⟩
  refine xw_at (f' := (5, [.ref 60, .int (nI c), .int (nI n), .int (nI s), .int (nI la), .int (nI j), .float 0, .float 0], [.int (nI (xB (decide (0 ≤ (nI c).toInt ∧ (nI c).toInt < ((N 0 * N 1 : Nat) : Int)))))])) (h' := (xS b, I, L, xP b)) rfl rfl ?_
  refine xw_go xb_166 1 (f1 := (if (nI (xB (decide (0 ≤ (nI c).toInt ∧ (nI c).toInt < ((N 0 * N 1 : Nat) : Int))))) = 0 then 45 else 8, [.ref 60, .int (nI c), .int (nI n), .int (nI s), .int (nI la), .int (nI j), .float 0, .float 0], [])) (h1 := (xS b, I, L, xP b)) rfl trivial ?_
  refine xw_if (fun c_5 => ?_) (fun c_5 => ?_)
  · skip
    exfalso
    try simp only [xB_dec, Classical.not_not] at c_5
    try simp (disch := omega) only [nI_add, xt_eq, xt_lt, xt_le, xkt_0, xkt_1, xkt_2, xkt_3, xkt_4, xkt_5, xkt_6, xkt_7, xkt_8, xkt_9, xkt_10, xkt_11, xkt_12, xkt_13, xkt_14, xkt_16, xkt_20, xkt_24, xkt_31, xkt_32, xkt_40, xkt_44, xkt_47, xkt_48, xkt_57, xkt_59, xkt_60, xkt_63, xkt_64, xkt_65, xkt_72, xkt_95, xkt_99, xkt_100, xkt_101, xkt_103, xkt_110, xkt_112, xkt_113, xkt_114, xkt_119, xkt_126, xkt_159, xkt_576, xkt_999, xkt_9999, xkt_65536, xkt_999999, xkt_m1, xkt_m2, xkt_m3, xkt_m4, xkt_m11, xkt_m12, xkt_m13, xkt_m14, xkt_m20, xjt_0, xjt_1, xjt_2, xjt_3, xjt_4, xjt_5, xjt_6, xjt_7, xjt_8, xjt_9, xjt_10, xjt_11, xjt_12, xjt_13, xjt_14, xjt_16, xjt_20, xjt_24, xjt_31, xjt_32, xjt_40, xjt_44, xjt_47, xjt_48, xjt_57, xjt_59, xjt_60, xjt_63, xjt_64, xjt_65, xjt_72, xjt_95, xjt_99, xjt_100, xjt_101, xjt_103, xjt_110, xjt_112, xjt_113, xjt_114, xjt_119, xjt_126, xjt_159, xjt_576, xjt_999, xjt_9999, xjt_65536, xjt_999999, xt64, xt_n, not_true_eq_false, not_false_eq_true, Classical.not_not] at c_5
    all_goals omega
  · skip
    refine xw_go xb_166 4 (f1 := (14, [.ref 60, .int (nI c), .int (nI n), .int (nI s), .int (nI la), .int (nI j), .float 0, .float 0], [.long 24, .long 1, .long ((nI n).toInt64)])) (h1 := (xS b, I, L, xP b)) rfl trivial ?_
    refine xw_call xb_166 rfl rfl rfl rfl rfl (Or.inl rfl) m_in ?_
    rintro _ _ ⟨rfl, rfl⟩
    refine xw_at (f' := (17, [.ref 60, .int (nI c), .int (nI n), .int (nI s), .int (nI la), .int (nI j), .float 0, .float 0], [.int (nI (xB (decide ((1 : Int64).toInt ≤ (nI n).toInt64.toInt ∧ (nI n).toInt64.toInt ≤ (24 : Int64).toInt))))])) (h' := (xS b, I, L, xP b)) rfl rfl ?_
    refine xw_go xb_166 1 (f1 := (if (nI (xB (decide ((1 : Int64).toInt ≤ (nI n).toInt64.toInt ∧ (nI n).toInt64.toInt ≤ (24 : Int64).toInt)))) = 0 then 45 else 20, [.ref 60, .int (nI c), .int (nI n), .int (nI s), .int (nI la), .int (nI j), .float 0, .float 0], [])) (h1 := (xS b, I, L, xP b)) rfl trivial ?_
    refine xw_if (fun c_17 => ?_) (fun c_17 => ?_)
    · skip
      exfalso
      try simp only [xB_dec, Classical.not_not] at c_5 c_17
      try simp (disch := omega) only [nI_add, xt_eq, xt_lt, xt_le, xkt_0, xkt_1, xkt_2, xkt_3, xkt_4, xkt_5, xkt_6, xkt_7, xkt_8, xkt_9, xkt_10, xkt_11, xkt_12, xkt_13, xkt_14, xkt_16, xkt_20, xkt_24, xkt_31, xkt_32, xkt_40, xkt_44, xkt_47, xkt_48, xkt_57, xkt_59, xkt_60, xkt_63, xkt_64, xkt_65, xkt_72, xkt_95, xkt_99, xkt_100, xkt_101, xkt_103, xkt_110, xkt_112, xkt_113, xkt_114, xkt_119, xkt_126, xkt_159, xkt_576, xkt_999, xkt_9999, xkt_65536, xkt_999999, xkt_m1, xkt_m2, xkt_m3, xkt_m4, xkt_m11, xkt_m12, xkt_m13, xkt_m14, xkt_m20, xjt_0, xjt_1, xjt_2, xjt_3, xjt_4, xjt_5, xjt_6, xjt_7, xjt_8, xjt_9, xjt_10, xjt_11, xjt_12, xjt_13, xjt_14, xjt_16, xjt_20, xjt_24, xjt_31, xjt_32, xjt_40, xjt_44, xjt_47, xjt_48, xjt_57, xjt_59, xjt_60, xjt_63, xjt_64, xjt_65, xjt_72, xjt_95, xjt_99, xjt_100, xjt_101, xjt_103, xjt_110, xjt_112, xjt_113, xjt_114, xjt_119, xjt_126, xjt_159, xjt_576, xjt_999, xjt_9999, xjt_65536, xjt_999999, xt64, xt_n, not_true_eq_false, not_false_eq_true, Classical.not_not] at c_5 c_17
      all_goals omega
    · skip
      refine xw_go xb_166 4 (f1 := (24, [.ref 60, .int (nI c), .int (nI n), .int (nI s), .int (nI la), .int (nI j), .float 0, .float 0], [.ref 60, .int ((nI c) + (nI n))])) (h1 := (xS b, I, L, xP b)) rfl trivial ?_
      refine xw_call xb_166 rfl rfl rfl rfl rfl (Or.inr ⟨_, _, rfl, rfl⟩) (m_cells (I := I) hM.1) ?_
      rintro _ _ ⟨rfl, rfl⟩
      refine xw_at (f' := (27, [.ref 60, .int (nI c), .int (nI n), .int (nI s), .int (nI la), .int (nI j), .float 0, .float 0], [.int (nI (N 0 * N 1)), .int ((nI c) + (nI n))])) (h' := (xS b, I, L, xP b)) rfl rfl ?_
      refine xw_go xb_166 1 (f1 := (if (nI (N 0 * N 1)) < ((nI c) + (nI n)) then 45 else 30, [.ref 60, .int (nI c), .int (nI n), .int (nI s), .int (nI la), .int (nI j), .float 0, .float 0], [])) (h1 := (xS b, I, L, xP b)) rfl trivial ?_
      refine xw_if (fun c_27 => ?_) (fun c_27 => ?_)
      · skip
        exfalso
        try simp only [xB_dec, Classical.not_not] at c_5 c_17 c_27
        try simp (disch := omega) only [nI_add, xt_eq, xt_lt, xt_le, xkt_0, xkt_1, xkt_2, xkt_3, xkt_4, xkt_5, xkt_6, xkt_7, xkt_8, xkt_9, xkt_10, xkt_11, xkt_12, xkt_13, xkt_14, xkt_16, xkt_20, xkt_24, xkt_31, xkt_32, xkt_40, xkt_44, xkt_47, xkt_48, xkt_57, xkt_59, xkt_60, xkt_63, xkt_64, xkt_65, xkt_72, xkt_95, xkt_99, xkt_100, xkt_101, xkt_103, xkt_110, xkt_112, xkt_113, xkt_114, xkt_119, xkt_126, xkt_159, xkt_576, xkt_999, xkt_9999, xkt_65536, xkt_999999, xkt_m1, xkt_m2, xkt_m3, xkt_m4, xkt_m11, xkt_m12, xkt_m13, xkt_m14, xkt_m20, xjt_0, xjt_1, xjt_2, xjt_3, xjt_4, xjt_5, xjt_6, xjt_7, xjt_8, xjt_9, xjt_10, xjt_11, xjt_12, xjt_13, xjt_14, xjt_16, xjt_20, xjt_24, xjt_31, xjt_32, xjt_40, xjt_44, xjt_47, xjt_48, xjt_57, xjt_59, xjt_60, xjt_63, xjt_64, xjt_65, xjt_72, xjt_95, xjt_99, xjt_100, xjt_101, xjt_103, xjt_110, xjt_112, xjt_113, xjt_114, xjt_119, xjt_126, xjt_159, xjt_576, xjt_999, xjt_9999, xjt_65536, xjt_999999, xt64, xt_n, not_true_eq_false, not_false_eq_true, Classical.not_not] at c_5 c_17 c_27
        all_goals omega
      · skip
        refine xw_go xb_166 1 (f1 := (31, [.ref 60, .int (nI c), .int (nI n), .int (nI s), .int (nI la), .int (nI j), .float 0, .float 0], [.int (nI s)])) (h1 := (xS b, I, L, xP b)) rfl trivial ?_
        refine xw_call xb_166 rfl rfl rfl rfl rfl (Or.inl rfl) m_isSheet ?_
        rintro _ _ ⟨rfl, rfl⟩
        refine xw_at (f' := (34, [.ref 60, .int (nI c), .int (nI n), .int (nI s), .int (nI la), .int (nI j), .float 0, .float 0], [.int (nI (xB (decide (0 ≤ (nI s).toInt ∧ (nI s).toInt ≤ 3))))])) (h' := (xS b, I, L, xP b)) rfl rfl ?_
        refine xw_go xb_166 1 (f1 := (if (nI (xB (decide (0 ≤ (nI s).toInt ∧ (nI s).toInt ≤ 3)))) = 0 then 45 else 37, [.ref 60, .int (nI c), .int (nI n), .int (nI s), .int (nI la), .int (nI j), .float 0, .float 0], [])) (h1 := (xS b, I, L, xP b)) rfl trivial ?_
        refine xw_if (fun c_34 => ?_) (fun c_34 => ?_)
        · skip
          exfalso
          try simp only [xB_dec, Classical.not_not] at c_5 c_17 c_27 c_34
          try simp (disch := omega) only [nI_add, xt_eq, xt_lt, xt_le, xkt_0, xkt_1, xkt_2, xkt_3, xkt_4, xkt_5, xkt_6, xkt_7, xkt_8, xkt_9, xkt_10, xkt_11, xkt_12, xkt_13, xkt_14, xkt_16, xkt_20, xkt_24, xkt_31, xkt_32, xkt_40, xkt_44, xkt_47, xkt_48, xkt_57, xkt_59, xkt_60, xkt_63, xkt_64, xkt_65, xkt_72, xkt_95, xkt_99, xkt_100, xkt_101, xkt_103, xkt_110, xkt_112, xkt_113, xkt_114, xkt_119, xkt_126, xkt_159, xkt_576, xkt_999, xkt_9999, xkt_65536, xkt_999999, xkt_m1, xkt_m2, xkt_m3, xkt_m4, xkt_m11, xkt_m12, xkt_m13, xkt_m14, xkt_m20, xjt_0, xjt_1, xjt_2, xjt_3, xjt_4, xjt_5, xjt_6, xjt_7, xjt_8, xjt_9, xjt_10, xjt_11, xjt_12, xjt_13, xjt_14, xjt_16, xjt_20, xjt_24, xjt_31, xjt_32, xjt_40, xjt_44, xjt_47, xjt_48, xjt_57, xjt_59, xjt_60, xjt_63, xjt_64, xjt_65, xjt_72, xjt_95, xjt_99, xjt_100, xjt_101, xjt_103, xjt_110, xjt_112, xjt_113, xjt_114, xjt_119, xjt_126, xjt_159, xjt_576, xjt_999, xjt_9999, xjt_65536, xjt_999999, xt64, xt_n, not_true_eq_false, not_false_eq_true, Classical.not_not] at c_5 c_17 c_27 c_34
          all_goals omega
        · skip
          refine xw_go xb_166 1 (f1 := (39, [.ref 60, .int (nI c), .int (nI n), .int (nI s), .int (nI la), .int (nI j), .float 0, .float 0], [.int (nI la)])) (h1 := (xS b, I, L, xP b)) rfl trivial ?_
          refine xw_call xb_166 rfl rfl rfl rfl rfl (Or.inl rfl) m_isLane ?_
          rintro _ _ ⟨rfl, rfl⟩
          refine xw_at (f' := (42, [.ref 60, .int (nI c), .int (nI n), .int (nI s), .int (nI la), .int (nI j), .float 0, .float 0], [.int (nI (xB (decide (0 ≤ (nI la).toInt ∧ (nI la).toInt ≤ 3))))])) (h' := (xS b, I, L, xP b)) rfl rfl ?_
          refine xw_go xb_166 1 (f1 := (if ¬ (nI (xB (decide (0 ≤ (nI la).toInt ∧ (nI la).toInt ≤ 3)))) = 0 then 47 else 45, [.ref 60, .int (nI c), .int (nI n), .int (nI s), .int (nI la), .int (nI j), .float 0, .float 0], [])) (h1 := (xS b, I, L, xP b)) rfl trivial ?_
          refine xw_if (fun c_42 => ?_) (fun c_42 => ?_)
          · skip
            refine xw_go xb_166 5 (f1 := (54, [.ref 60, .int (nI c), .int (nI n), .int (nI s), .int (nI la), .int (nI j), .float 0, .float 0], [.int (nI n), .int (nI j), .int (nI la), .int (nI s), .ref 60])) (h1 := (xS b, I, L, xP b)) rfl trivial ?_
            refine xw_call xb_166 rfl rfl rfl rfl rfl (Or.inr ⟨_, _, rfl, rfl⟩) (m_why hS hY hs bl rfl rfl) ?_
            rintro _ _ ⟨rfl, rfl⟩
            refine xw_at (f' := (57, [.ref 60, .int (nI c), .int (nI n), .int (nI s), .int (nI la), .int (nI j), .float 0, .float 0], [.int (xwy (Y s) la (nI j) (nI n))])) (h' := (xS b, I, L, xP b)) rfl rfl ?_
            refine xw_go xb_166 3 (f1 := (if 0 ≤ (xwy (Y s) la (nI j) (nI n)) then 67 else 64, [.ref 60, .int (nI c), .int (nI n), .int (nI s), .int (nI la), .int (nI j), .int (xwy (Y s) la (nI j) (nI n)), .float 0], [])) (h1 := (xS b, I, L, xP b)) rfl trivial ?_
            refine xw_if (fun c_61 => ?_) (fun c_61 => ?_)
            · skip
              refine xw_go xb_166 2 (f1 := (70, [.ref 60, .int (nI c), .int (nI n), .int (nI s), .int (nI la), .int (nI j), .int (xwy (Y s) la (nI j) (nI n)), .int 0], [])) (h1 := (xS b, I, L, xP b)) rfl trivial ?_
              refine xw_at (f' := (70, [.ref 60, .int (nI c), .int (nI n), .int (nI s), .int (nI la), .int (nI j), .int (xwy (Y s) la (nI j) (nI n)), .int (nI 0)], [])) (h' := (xS b, I, va_up L 72 (va_cpy (fun k => xct la (nI (N (95 + (c + k)))).toInt64) (L 72) 0 (24 * s + j) 0), xP b)) rfl (by rw [xcy_0, xm_up_id]) ?_
              refine xw_loop n (fun k => (70, [.ref 60, .int (nI c), .int (nI n), .int (nI s), .int (nI la), .int (nI j), .int (xwy (Y s) la (nI j) (nI n)), .int (nI k)], [])) (fun k => (xS b, I, va_up L 72 (va_cpy (fun k => xct la (nI (N (95 + (c + k)))).toInt64) (L 72) 0 (24 * s + j) k), xP b)) (fun k hkn ih => ?_) ?_ 0 (Nat.zero_le _)
              · skip
                refine xw_go xb_166 3 (f1 := (if (nI n) ≤ (nI k) then 115 else 76, [.ref 60, .int (nI c), .int (nI n), .int (nI s), .int (nI la), .int (nI j), .int (xwy (Y s) la (nI j) (nI n)), .int (nI k)], [])) (h1 := (xS b, I, va_up L 72 (va_cpy (fun k => xct la (nI (N (95 + (c + k)))).toInt64) (L 72) 0 (24 * s + j) k), xP b)) rfl trivial ?_
                refine xw_if (fun c_73 => ?_) (fun c_73 => ?_)
                · skip
                  exfalso
                  try simp only [xB_dec, Classical.not_not] at c_73
                  try simp (disch := omega) only [nI_add, xt_eq, xt_lt, xt_le, xkt_0, xkt_1, xkt_2, xkt_3, xkt_4, xkt_5, xkt_6, xkt_7, xkt_8, xkt_9, xkt_10, xkt_11, xkt_12, xkt_13, xkt_14, xkt_16, xkt_20, xkt_24, xkt_31, xkt_32, xkt_40, xkt_44, xkt_47, xkt_48, xkt_57, xkt_59, xkt_60, xkt_63, xkt_64, xkt_65, xkt_72, xkt_95, xkt_99, xkt_100, xkt_101, xkt_103, xkt_110, xkt_112, xkt_113, xkt_114, xkt_119, xkt_126, xkt_159, xkt_576, xkt_999, xkt_9999, xkt_65536, xkt_999999, xkt_m1, xkt_m2, xkt_m3, xkt_m4, xkt_m11, xkt_m12, xkt_m13, xkt_m14, xkt_m20, xjt_0, xjt_1, xjt_2, xjt_3, xjt_4, xjt_5, xjt_6, xjt_7, xjt_8, xjt_9, xjt_10, xjt_11, xjt_12, xjt_13, xjt_14, xjt_16, xjt_20, xjt_24, xjt_31, xjt_32, xjt_40, xjt_44, xjt_47, xjt_48, xjt_57, xjt_59, xjt_60, xjt_63, xjt_64, xjt_65, xjt_72, xjt_95, xjt_99, xjt_100, xjt_101, xjt_103, xjt_110, xjt_112, xjt_113, xjt_114, xjt_119, xjt_126, xjt_159, xjt_576, xjt_999, xjt_9999, xjt_65536, xjt_999999, xt64, xt_n, not_true_eq_false, not_false_eq_true, Classical.not_not] at c_73
                  all_goals omega
                · skip
                  refine xw_go xb_166 9 (f1 := (90, [.ref 60, .int (nI c), .int (nI n), .int (nI s), .int (nI la), .int (nI j), .int (xwy (Y s) la (nI j) (nI n)), .int (nI k)], [.int (((24 * (nI s)) + (nI j)) + (nI k)), .ref 72])) (h1 := (xS b, I, va_up L 72 (va_cpy (fun k => xct la (nI (N (95 + (c + k)))).toInt64) (L 72) 0 (24 * s + j) k), xP b)) rfl ⟨rfl, trivial⟩ ?_
                  refine xw_cong (l' := [.ref 60, .int (nI c), .int (nI n), .int (nI s), .int (nI la), .int (nI j), .int (xwy (Y s) la (nI j) (nI n)), .int (nI k)]) (st' := [.int (nI (24 * s + j + k)), .ref 72]) (h' := (xS b, I, va_up L 72 (va_cpy (fun k => xct la (nI (N (95 + (c + k)))).toInt64) (L 72) 0 (24 * s + j) k), xP b)) rfl (show ([.int (((24 * (nI s)) + (nI j)) + (nI k)), .ref 72] : List Value) = [.int (nI (24 * s + j + k)), .ref 72] from ?_) rfl ?_
                  · rw [xl_24, pk_mul, nI_add, nI_add]
                  refine xw_go xb_166 10 (f1 := (105, [.ref 60, .int (nI c), .int (nI n), .int (nI s), .int (nI la), .int (nI j), .int (xwy (Y s) la (nI j) (nI n)), .int (nI k)], [.long ((I 61 ((95 + (nI c)) + (nI k)).toNatClampNeg).toInt64), .int (nI la), .int (nI (24 * s + j + k)), .ref 72])) (h1 := (xS b, I, va_up L 72 (va_cpy (fun k => xct la (nI (N (95 + (c + k)))).toInt64) (L 72) 0 (24 * s + j) k), xP b)) rfl ⟨rfl, (xn_ar' (n := 95 + c + k) (N := 159) rfl (show 95 + nI c + nI k = _ by rw [xl_95, nI_add, nI_add]) (by omega) (by decide)), trivial⟩ ?_
                  refine xw_cong (l' := [.ref 60, .int (nI c), .int (nI n), .int (nI s), .int (nI la), .int (nI j), .int (xwy (Y s) la (nI j) (nI n)), .int (nI k)]) (st' := [.long ((nI (N (95 + (c + k)))).toInt64), .int (nI la), .int (nI (24 * s + j + k)), .ref 72]) (h' := (xS b, I, va_up L 72 (va_cpy (fun k => xct la (nI (N (95 + (c + k)))).toInt64) (L 72) 0 (24 * s + j) k), xP b)) rfl (show ([.long ((I 61 ((95 + (nI c)) + (nI k)).toNatClampNeg).toInt64), .int (nI la), .int (nI (24 * s + j + k)), .ref 72] : List Value) = [.long ((nI (N (95 + (c + k)))).toInt64), .int (nI la), .int (nI (24 * s + j + k)), .ref 72] from ?_) rfl ?_
                  · rw [xl_95, nI_add, nI_add, xn_cl (by omega), hM.1 _ (by omega), Nat.add_assoc]
                  refine xw_call xb_166 rfl rfl rfl rfl rfl (Or.inl rfl) (m_cut bl rfl) ?_
                  rintro _ _ ⟨rfl, rfl⟩
                  refine xw_at (f' := (108, [.ref 60, .int (nI c), .int (nI n), .int (nI s), .int (nI la), .int (nI j), .int (xwy (Y s) la (nI j) (nI n)), .int (nI k)], [.long (xct la (nI (N (95 + (c + k)))).toInt64), .int (nI (24 * s + j + k)), .ref 72])) (h' := (xS b, I, va_up L 72 (va_cpy (fun k => xct la (nI (N (95 + (c + k)))).toInt64) (L 72) 0 (24 * s + j) k), xP b)) rfl rfl ?_
                  refine xw_go xb_166 3 (f1 := (70, [.ref 60, .int (nI c), .int (nI n), .int (nI s), .int (nI la), .int (nI j), .int (xwy (Y s) la (nI j) (nI n)), .int ((nI k) + 1)], [])) (h1 := (xS b, I, xm_up (va_up L 72 (va_cpy (fun k => xct la (nI (N (95 + (c + k)))).toInt64) (L 72) 0 (24 * s + j) k)) 72 (nI (24 * s + j + k)).toNatClampNeg (xct la (nI (N (95 + (c + k)))).toInt64), xP b)) rfl ⟨(xn_ar (n := 24 * s + j + k) (N := 96) rfl (by omega) (by decide)), trivial⟩ ?_
                  refine xw_cong ?_ rfl ?_ ih
                  · rw [nI_1]
                  · refine congrArg (fun X => (xS b, I, X, xP b)) ?_
                    exact xcy_up (by rw [xn_cl (by omega)]) (by rw [Nat.zero_add])
              · skip
                refine xw_go xb_166 3 (f1 := (if (nI n) ≤ (nI n) then 115 else 76, [.ref 60, .int (nI c), .int (nI n), .int (nI s), .int (nI la), .int (nI j), .int (xwy (Y s) la (nI j) (nI n)), .int (nI n)], [])) (h1 := (xS b, I, va_up L 72 (va_cpy (fun k => xct la (nI (N (95 + (c + k)))).toInt64) (L 72) 0 (24 * s + j) n), xP b)) rfl trivial ?_
                refine xw_if (fun c_73 => ?_) (fun c_73 => ?_)
                · skip
                  refine xw_go xb_166 1 (f1 := (116, [.ref 60, .int (nI c), .int (nI n), .int (nI s), .int (nI la), .int (nI j), .int (xwy (Y s) la (nI j) (nI n)), .int (nI n)], [.int (nI n)])) (h1 := (xS b, I, va_up L 72 (va_cpy (fun k => xct la (nI (N (95 + (c + k)))).toInt64) (L 72) 0 (24 * s + j) n), xP b)) rfl trivial ?_
                  refine xw_ret xb_166 rfl rfl trivial ?_
                  refine ⟨rfl, _, _, rfl, xSM_L hS hs w1 ?_ ?_, ?_, ?_⟩
                  · intro k hk
                    rw [xvu_at]
                    unfold va_cpy
                    by_cases e : j ≤ k ∧ k < j + n
                    · rw [if_pos (by omega), if_pos e, show 24 * s + k - (24 * s + j) = k - j by omega]
                    · rw [if_neg (by omega), if_neg e]
                      exact y3 k hk
                  · intro k hk
                    rw [xvu_at]
                    unfold va_cpy
                    rw [if_neg (by omega)]
                  · intro a h1 h2
                    rfl
                  · intro a ha
                    rw [xm_vu_o (by omega)]
                · skip
                  exfalso
                  try simp only [xB_dec, Classical.not_not] at c_73
                  try simp (disch := omega) only [nI_add, xt_eq, xt_lt, xt_le, xkt_0, xkt_1, xkt_2, xkt_3, xkt_4, xkt_5, xkt_6, xkt_7, xkt_8, xkt_9, xkt_10, xkt_11, xkt_12, xkt_13, xkt_14, xkt_16, xkt_20, xkt_24, xkt_31, xkt_32, xkt_40, xkt_44, xkt_47, xkt_48, xkt_57, xkt_59, xkt_60, xkt_63, xkt_64, xkt_65, xkt_72, xkt_95, xkt_99, xkt_100, xkt_101, xkt_103, xkt_110, xkt_112, xkt_113, xkt_114, xkt_119, xkt_126, xkt_159, xkt_576, xkt_999, xkt_9999, xkt_65536, xkt_999999, xkt_m1, xkt_m2, xkt_m3, xkt_m4, xkt_m11, xkt_m12, xkt_m13, xkt_m14, xkt_m20, xjt_0, xjt_1, xjt_2, xjt_3, xjt_4, xjt_5, xjt_6, xjt_7, xjt_8, xjt_9, xjt_10, xjt_11, xjt_12, xjt_13, xjt_14, xjt_16, xjt_20, xjt_24, xjt_31, xjt_32, xjt_40, xjt_44, xjt_47, xjt_48, xjt_57, xjt_59, xjt_60, xjt_63, xjt_64, xjt_65, xjt_72, xjt_95, xjt_99, xjt_100, xjt_101, xjt_103, xjt_110, xjt_112, xjt_113, xjt_114, xjt_119, xjt_126, xjt_159, xjt_576, xjt_999, xjt_9999, xjt_65536, xjt_999999, xt64, xt_n, not_true_eq_false, not_false_eq_true, Classical.not_not] at c_73
                  all_goals omega
            · skip
              exact absurd (xwy_ge.mpr hw) c_61
          · skip
            exfalso
            try simp only [xB_dec, Classical.not_not] at c_5 c_17 c_27 c_34 c_42
            try simp (disch := omega) only [nI_add, xt_eq, xt_lt, xt_le, xkt_0, xkt_1, xkt_2, xkt_3, xkt_4, xkt_5, xkt_6, xkt_7, xkt_8, xkt_9, xkt_10, xkt_11, xkt_12, xkt_13, xkt_14, xkt_16, xkt_20, xkt_24, xkt_31, xkt_32, xkt_40, xkt_44, xkt_47, xkt_48, xkt_57, xkt_59, xkt_60, xkt_63, xkt_64, xkt_65, xkt_72, xkt_95, xkt_99, xkt_100, xkt_101, xkt_103, xkt_110, xkt_112, xkt_113, xkt_114, xkt_119, xkt_126, xkt_159, xkt_576, xkt_999, xkt_9999, xkt_65536, xkt_999999, xkt_m1, xkt_m2, xkt_m3, xkt_m4, xkt_m11, xkt_m12, xkt_m13, xkt_m14, xkt_m20, xjt_0, xjt_1, xjt_2, xjt_3, xjt_4, xjt_5, xjt_6, xjt_7, xjt_8, xjt_9, xjt_10, xjt_11, xjt_12, xjt_13, xjt_14, xjt_16, xjt_20, xjt_24, xjt_31, xjt_32, xjt_40, xjt_44, xjt_47, xjt_48, xjt_57, xjt_59, xjt_60, xjt_63, xjt_64, xjt_65, xjt_72, xjt_95, xjt_99, xjt_100, xjt_101, xjt_103, xjt_110, xjt_112, xjt_113, xjt_114, xjt_119, xjt_126, xjt_159, xjt_576, xjt_999, xjt_9999, xjt_65536, xjt_999999, xt64, xt_n, not_true_eq_false, not_false_eq_true, Classical.not_not] at c_5 c_17 c_27 c_34 c_42
            all_goals omega

theorem xwy_13 {y : Bool × Nat × Nat × (Nat → Int64)} {la : Nat} {i n : Int32} (h1 : y.1 = true) (h2 : y.2.1 = la) (h3 : ¬ (0 ≤ i.toInt ∧ 0 ≤ n.toInt ∧ i.toInt + n.toInt ≤ (y.2.2.1 : Int))) : xwy y la i n = -13 := by
  unfold xwy
  rw [if_neg (by rw [h1]; decide), if_neg (fun q => q h2), if_neg h3]
theorem xwy_12 {y : Bool × Nat × Nat × (Nat → Int64)} {la : Nat} {i n : Int32} (h1 : y.1 = true) (h2 : y.2.1 ≠ la) : xwy y la i n = -12 := by
  unfold xwy
  rw [if_neg (by rw [h1]; decide), if_pos h2]
theorem xwy_00 {y : Bool × Nat × Nat × (Nat → Int64)} {la : Nat} {i n : Int32} (h1 : y.1 = true) (h2 : y.2.1 = la) (h3 : 0 ≤ i.toInt ∧ 0 ≤ n.toInt ∧ i.toInt + n.toInt ≤ (y.2.2.1 : Int)) : xwy y la i n = 0 := by
  unfold xwy
  rw [if_neg (by rw [h1]; decide), if_neg (fun q => q h2), if_pos h3]
theorem m_copy0 {d : Nat} {b : Bool} {I : Nat → Nat → Int32} {L : Nat → Nat → Int64} {Y : xY} (hS : xSM Y I L) (hY : xYK Y) {x i y j n : Int32} (hx : ¬ (0 ≤ x.toInt ∧ x.toInt ≤ 3 ∧ 0 ≤ y.toInt ∧ y.toInt ≤ 3)) : xm_Z (d + 3) 171 [.ref 60, .int x, .int i, .int y, .int j, .int n] (xS b, I, L, xP b) (fun rz hz => xHM b I L (-1) Y rz hz) := by
  refine xw_S xb_171 (l := [.ref 60, .int x, .int i, .int y, .int j, .int n, .float 0, .float 0]) (Nat.le_of_ble_eq_true rfl) rfl ?_
  refine xw_go xb_171 1 (f1 := (1, [.ref 60, .int x, .int i, .int y, .int j, .int n, .float 0, .float 0], [.int x])) (h1 := (xS b, I, L, xP b)) rfl trivial ?_
  refine xw_call xb_171 rfl rfl rfl rfl rfl (Or.inl rfl) m_isSheet ?_
  rintro _ _ ⟨rfl, rfl⟩
  refine xw_at (f' := (4, [.ref 60, .int x, .int i, .int y, .int j, .int n, .float 0, .float 0], [.int (nI (xB (decide (0 ≤ x.toInt ∧ x.toInt ≤ 3))))])) (h' := (xS b, I, L, xP b)) rfl rfl ?_
  refine xw_go xb_171 1 (f1 := (if (nI (xB (decide (0 ≤ x.toInt ∧ x.toInt ≤ 3)))) = 0 then 14 else 7, [.ref 60, .int x, .int i, .int y, .int j, .int n, .float 0, .float 0], [])) (h1 := (xS b, I, L, xP b)) rfl trivial ?_
  refine xw_if (fun c_4 => ?_) (fun c_4 => ?_)
  · skip
    refine xw_go xb_171 1 (f1 := (15, [.ref 60, .int x, .int i, .int y, .int j, .int n, .float 0, .float 0], [.int (-1)])) (h1 := (xS b, I, L, xP b)) rfl trivial ?_
    refine xw_ret xb_171 rfl rfl trivial ?_
    exact xHM_s hS
  · skip
    refine xw_go xb_171 1 (f1 := (8, [.ref 60, .int x, .int i, .int y, .int j, .int n, .float 0, .float 0], [.int y])) (h1 := (xS b, I, L, xP b)) rfl trivial ?_
    refine xw_call xb_171 rfl rfl rfl rfl rfl (Or.inl rfl) m_isSheet ?_
    rintro _ _ ⟨rfl, rfl⟩
    refine xw_at (f' := (11, [.ref 60, .int x, .int i, .int y, .int j, .int n, .float 0, .float 0], [.int (nI (xB (decide (0 ≤ y.toInt ∧ y.toInt ≤ 3))))])) (h' := (xS b, I, L, xP b)) rfl rfl ?_
    refine xw_go xb_171 1 (f1 := (if ¬ (nI (xB (decide (0 ≤ y.toInt ∧ y.toInt ≤ 3)))) = 0 then 16 else 14, [.ref 60, .int x, .int i, .int y, .int j, .int n, .float 0, .float 0], [])) (h1 := (xS b, I, L, xP b)) rfl trivial ?_
    refine xw_if (fun c_11 => ?_) (fun c_11 => ?_)
    · skip
      exfalso
      try simp only [xB_dec, Classical.not_not] at c_4 c_11
      try simp (disch := omega) only [xt_eq, xt_lt, xt_le, xkt_0, xkt_1, xkt_2, xkt_3, xkt_4, xkt_5, xkt_6, xkt_7, xkt_8, xkt_9, xkt_10, xkt_11, xkt_12, xkt_13, xkt_14, xkt_16, xkt_20, xkt_24, xkt_31, xkt_32, xkt_40, xkt_44, xkt_47, xkt_48, xkt_57, xkt_59, xkt_60, xkt_63, xkt_64, xkt_65, xkt_72, xkt_95, xkt_99, xkt_100, xkt_101, xkt_103, xkt_110, xkt_112, xkt_113, xkt_114, xkt_119, xkt_126, xkt_159, xkt_576, xkt_999, xkt_9999, xkt_65536, xkt_999999, xkt_m1, xkt_m2, xkt_m3, xkt_m4, xkt_m11, xkt_m12, xkt_m13, xkt_m14, xkt_m20, xjt_0, xjt_1, xjt_2, xjt_3, xjt_4, xjt_5, xjt_6, xjt_7, xjt_8, xjt_9, xjt_10, xjt_11, xjt_12, xjt_13, xjt_14, xjt_16, xjt_20, xjt_24, xjt_31, xjt_32, xjt_40, xjt_44, xjt_47, xjt_48, xjt_57, xjt_59, xjt_60, xjt_63, xjt_64, xjt_65, xjt_72, xjt_95, xjt_99, xjt_100, xjt_101, xjt_103, xjt_110, xjt_112, xjt_113, xjt_114, xjt_119, xjt_126, xjt_159, xjt_576, xjt_999, xjt_9999, xjt_65536, xjt_999999, xt64, xt_n, not_true_eq_false, not_false_eq_true, Classical.not_not] at c_4 c_11
      all_goals omega
    · skip
      refine xw_go xb_171 1 (f1 := (15, [.ref 60, .int x, .int i, .int y, .int j, .int n, .float 0, .float 0], [.int (-1)])) (h1 := (xS b, I, L, xP b)) rfl trivial ?_
      refine xw_ret xb_171 rfl rfl trivial ?_
      exact xHM_s hS

theorem m_copy1 {d : Nat} {b : Bool} {I : Nat → Nat → Int32} {L : Nat → Nat → Int64} {Y : xY} (hS : xSM Y I L) (hY : xYK Y) {s t : Nat} (hs : s < 4) (ht : t < 4) {i j n : Int32} (h0 : (Y s).1 = false ∨ (Y t).1 = false) {x : Int32} (e_x : x = nI s) {y : Int32} (e_y : y = nI t) : xm_Z (d + 3) 171 [.ref 60, .int x, .int i, .int y, .int j, .int n] (xS b, I, L, xP b) (fun rz hz => xHM b I L (-11) Y rz hz) := by
  subst e_x
  subst e_y
  obtain ⟨y0, y2, y3⟩ := hS s hs
  obtain ⟨z0, z2, z3⟩ := hS t ht
  have hk := hY s hs
  have hk2 := hY t ht
  refine xw_S xb_171 (l := [.ref 60, .int (nI s), .int i, .int (nI t), .int j, .int n, .float 0, .float 0]) (Nat.le_of_ble_eq_true rfl) rfl ?_
  refine xw_go xb_171 1 (f1 := (1, [.ref 60, .int (nI s), .int i, .int (nI t), .int j, .int n, .float 0, .float 0], [.int (nI s)])) (h1 := (xS b, I, L, xP b)) rfl trivial ?_
  refine xw_call xb_171 rfl rfl rfl rfl rfl (Or.inl rfl) m_isSheet ?_
  rintro _ _ ⟨rfl, rfl⟩
  refine xw_at (f' := (4, [.ref 60, .int (nI s), .int i, .int (nI t), .int j, .int n, .float 0, .float 0], [.int (nI (xB (decide (0 ≤ (nI s).toInt ∧ (nI s).toInt ≤ 3))))])) (h' := (xS b, I, L, xP b)) rfl rfl ?_
  refine xw_go xb_171 1 (f1 := (if (nI (xB (decide (0 ≤ (nI s).toInt ∧ (nI s).toInt ≤ 3)))) = 0 then 14 else 7, [.ref 60, .int (nI s), .int i, .int (nI t), .int j, .int n, .float 0, .float 0], [])) (h1 := (xS b, I, L, xP b)) rfl trivial ?_
  refine xw_if (fun c_4 => ?_) (fun c_4 => ?_)
  · skip
    exfalso
    try simp only [xB_dec, Classical.not_not] at c_4
    try simp (disch := omega) only [xt_eq, xt_lt, xt_le, xkt_0, xkt_1, xkt_2, xkt_3, xkt_4, xkt_5, xkt_6, xkt_7, xkt_8, xkt_9, xkt_10, xkt_11, xkt_12, xkt_13, xkt_14, xkt_16, xkt_20, xkt_24, xkt_31, xkt_32, xkt_40, xkt_44, xkt_47, xkt_48, xkt_57, xkt_59, xkt_60, xkt_63, xkt_64, xkt_65, xkt_72, xkt_95, xkt_99, xkt_100, xkt_101, xkt_103, xkt_110, xkt_112, xkt_113, xkt_114, xkt_119, xkt_126, xkt_159, xkt_576, xkt_999, xkt_9999, xkt_65536, xkt_999999, xkt_m1, xkt_m2, xkt_m3, xkt_m4, xkt_m11, xkt_m12, xkt_m13, xkt_m14, xkt_m20, xjt_0, xjt_1, xjt_2, xjt_3, xjt_4, xjt_5, xjt_6, xjt_7, xjt_8, xjt_9, xjt_10, xjt_11, xjt_12, xjt_13, xjt_14, xjt_16, xjt_20, xjt_24, xjt_31, xjt_32, xjt_40, xjt_44, xjt_47, xjt_48, xjt_57, xjt_59, xjt_60, xjt_63, xjt_64, xjt_65, xjt_72, xjt_95, xjt_99, xjt_100, xjt_101, xjt_103, xjt_110, xjt_112, xjt_113, xjt_114, xjt_119, xjt_126, xjt_159, xjt_576, xjt_999, xjt_9999, xjt_65536, xjt_999999, xt64, xt_n, not_true_eq_false, not_false_eq_true, Classical.not_not] at c_4
    all_goals omega
  · skip
    refine xw_go xb_171 1 (f1 := (8, [.ref 60, .int (nI s), .int i, .int (nI t), .int j, .int n, .float 0, .float 0], [.int (nI t)])) (h1 := (xS b, I, L, xP b)) rfl trivial ?_
    refine xw_call xb_171 rfl rfl rfl rfl rfl (Or.inl rfl) m_isSheet ?_
    rintro _ _ ⟨rfl, rfl⟩
    refine xw_at (f' := (11, [.ref 60, .int (nI s), .int i, .int (nI t), .int j, .int n, .float 0, .float 0], [.int (nI (xB (decide (0 ≤ (nI t).toInt ∧ (nI t).toInt ≤ 3))))])) (h' := (xS b, I, L, xP b)) rfl rfl ?_
    refine xw_go xb_171 1 (f1 := (if ¬ (nI (xB (decide (0 ≤ (nI t).toInt ∧ (nI t).toInt ≤ 3)))) = 0 then 16 else 14, [.ref 60, .int (nI s), .int i, .int (nI t), .int j, .int n, .float 0, .float 0], [])) (h1 := (xS b, I, L, xP b)) rfl trivial ?_
    refine xw_if (fun c_11 => ?_) (fun c_11 => ?_)
    · skip
      refine xw_go xb_171 4 (f1 := (22, [.ref 60, .int (nI s), .int i, .int (nI t), .int j, .int n, .float 0, .float 0], [.int (I 70 (nI s).toNatClampNeg)])) (h1 := (xS b, I, L, xP b)) rfl ⟨rfl, (xn_ar (n := s) (N := 4) rfl (by omega) (by decide)), trivial⟩ ?_
      refine xw_cong (l' := [.ref 60, .int (nI s), .int i, .int (nI t), .int j, .int n, .float 0, .float 0]) (st' := [.int (xln (Y s))]) (h' := (xS b, I, L, xP b)) rfl (show ([.int (I 70 (nI s).toNatClampNeg)] : List Value) = [.int (xln (Y s))] from ?_) rfl ?_
      · rw [xn_cl (by omega), y0]
      refine xw_go xb_171 1 (f1 := (if (xln (Y s)) < 0 then 34 else 25, [.ref 60, .int (nI s), .int i, .int (nI t), .int j, .int n, .float 0, .float 0], [])) (h1 := (xS b, I, L, xP b)) rfl trivial ?_
      refine xw_if (fun c_22 => ?_) (fun c_22 => ?_)
      · skip
        refine xw_go xb_171 1 (f1 := (36, [.ref 60, .int (nI s), .int i, .int (nI t), .int j, .int n, .float 0, .float 0], [.int (-11)])) (h1 := (xS b, I, L, xP b)) rfl trivial ?_
        refine xw_ret xb_171 rfl rfl trivial ?_
        exact xHM_s hS
      · skip
        refine xw_go xb_171 4 (f1 := (31, [.ref 60, .int (nI s), .int i, .int (nI t), .int j, .int n, .float 0, .float 0], [.int (I 70 (nI t).toNatClampNeg)])) (h1 := (xS b, I, L, xP b)) rfl ⟨rfl, (xn_ar (n := t) (N := 4) rfl (by omega) (by decide)), trivial⟩ ?_
        refine xw_cong (l' := [.ref 60, .int (nI s), .int i, .int (nI t), .int j, .int n, .float 0, .float 0]) (st' := [.int (xln (Y t))]) (h' := (xS b, I, L, xP b)) rfl (show ([.int (I 70 (nI t).toNatClampNeg)] : List Value) = [.int (xln (Y t))] from ?_) rfl ?_
        · rw [xn_cl (by omega), z0]
        refine xw_go xb_171 1 (f1 := (if 0 ≤ (xln (Y t)) then 37 else 34, [.ref 60, .int (nI s), .int i, .int (nI t), .int j, .int n, .float 0, .float 0], [])) (h1 := (xS b, I, L, xP b)) rfl trivial ?_
        refine xw_if (fun c_31 => ?_) (fun c_31 => ?_)
        · skip
          exfalso
          have g1 : 0 ≤ xln (Y s) := by rw [xt_lt] at c_22; rw [xt_le]; omega
          rw [xln_neg hk.1] at g1
          rw [xln_neg hk2.1] at c_31
          rcases h0 with h0 | h0
          · rw [g1] at h0; cases h0
          · rw [c_31] at h0; cases h0
        · skip
          refine xw_go xb_171 1 (f1 := (36, [.ref 60, .int (nI s), .int i, .int (nI t), .int j, .int n, .float 0, .float 0], [.int (-11)])) (h1 := (xS b, I, L, xP b)) rfl trivial ?_
          refine xw_ret xb_171 rfl rfl trivial ?_
          exact xHM_s hS
    · skip
      exfalso
      try simp only [xB_dec, Classical.not_not] at c_4 c_11
      try simp (disch := omega) only [xt_eq, xt_lt, xt_le, xkt_0, xkt_1, xkt_2, xkt_3, xkt_4, xkt_5, xkt_6, xkt_7, xkt_8, xkt_9, xkt_10, xkt_11, xkt_12, xkt_13, xkt_14, xkt_16, xkt_20, xkt_24, xkt_31, xkt_32, xkt_40, xkt_44, xkt_47, xkt_48, xkt_57, xkt_59, xkt_60, xkt_63, xkt_64, xkt_65, xkt_72, xkt_95, xkt_99, xkt_100, xkt_101, xkt_103, xkt_110, xkt_112, xkt_113, xkt_114, xkt_119, xkt_126, xkt_159, xkt_576, xkt_999, xkt_9999, xkt_65536, xkt_999999, xkt_m1, xkt_m2, xkt_m3, xkt_m4, xkt_m11, xkt_m12, xkt_m13, xkt_m14, xkt_m20, xjt_0, xjt_1, xjt_2, xjt_3, xjt_4, xjt_5, xjt_6, xjt_7, xjt_8, xjt_9, xjt_10, xjt_11, xjt_12, xjt_13, xjt_14, xjt_16, xjt_20, xjt_24, xjt_31, xjt_32, xjt_40, xjt_44, xjt_47, xjt_48, xjt_57, xjt_59, xjt_60, xjt_63, xjt_64, xjt_65, xjt_72, xjt_95, xjt_99, xjt_100, xjt_101, xjt_103, xjt_110, xjt_112, xjt_113, xjt_114, xjt_119, xjt_126, xjt_159, xjt_576, xjt_999, xjt_9999, xjt_65536, xjt_999999, xt64, xt_n, not_true_eq_false, not_false_eq_true, Classical.not_not] at c_4 c_11
      all_goals omega

theorem m_copy2 {d : Nat} {b : Bool} {I : Nat → Nat → Int32} {L : Nat → Nat → Int64} {Y : xY} (hS : xSM Y I L) (hY : xYK Y) {s t : Nat} (hs : s < 4) (ht : t < 4) (h1 : (Y s).1 = true) (h2 : (Y t).1 = true) {i j n : Int32} (h3 : (Y s).2.1 ≠ (Y t).2.1) {x : Int32} (e_x : x = nI s) {y : Int32} (e_y : y = nI t) : xm_Z (d + 3) 171 [.ref 60, .int x, .int i, .int y, .int j, .int n] (xS b, I, L, xP b) (fun rz hz => xHM b I L (-12) Y rz hz) := by
  subst e_x
  subst e_y
  obtain ⟨y0, y2, y3⟩ := hS s hs
  obtain ⟨z0, z2, z3⟩ := hS t ht
  have hk := hY s hs
  have hk2 := hY t ht
  refine xw_S xb_171 (l := [.ref 60, .int (nI s), .int i, .int (nI t), .int j, .int n, .float 0, .float 0]) (Nat.le_of_ble_eq_true rfl) rfl ?_
  refine xw_go xb_171 1 (f1 := (1, [.ref 60, .int (nI s), .int i, .int (nI t), .int j, .int n, .float 0, .float 0], [.int (nI s)])) (h1 := (xS b, I, L, xP b)) rfl trivial ?_
  refine xw_call xb_171 rfl rfl rfl rfl rfl (Or.inl rfl) m_isSheet ?_
  rintro _ _ ⟨rfl, rfl⟩
  refine xw_at (f' := (4, [.ref 60, .int (nI s), .int i, .int (nI t), .int j, .int n, .float 0, .float 0], [.int (nI (xB (decide (0 ≤ (nI s).toInt ∧ (nI s).toInt ≤ 3))))])) (h' := (xS b, I, L, xP b)) rfl rfl ?_
  refine xw_go xb_171 1 (f1 := (if (nI (xB (decide (0 ≤ (nI s).toInt ∧ (nI s).toInt ≤ 3)))) = 0 then 14 else 7, [.ref 60, .int (nI s), .int i, .int (nI t), .int j, .int n, .float 0, .float 0], [])) (h1 := (xS b, I, L, xP b)) rfl trivial ?_
  refine xw_if (fun c_4 => ?_) (fun c_4 => ?_)
  · skip
    exfalso
    try simp only [xB_dec, Classical.not_not] at c_4
    try simp (disch := omega) only [xt_eq, xt_lt, xt_le, xkt_0, xkt_1, xkt_2, xkt_3, xkt_4, xkt_5, xkt_6, xkt_7, xkt_8, xkt_9, xkt_10, xkt_11, xkt_12, xkt_13, xkt_14, xkt_16, xkt_20, xkt_24, xkt_31, xkt_32, xkt_40, xkt_44, xkt_47, xkt_48, xkt_57, xkt_59, xkt_60, xkt_63, xkt_64, xkt_65, xkt_72, xkt_95, xkt_99, xkt_100, xkt_101, xkt_103, xkt_110, xkt_112, xkt_113, xkt_114, xkt_119, xkt_126, xkt_159, xkt_576, xkt_999, xkt_9999, xkt_65536, xkt_999999, xkt_m1, xkt_m2, xkt_m3, xkt_m4, xkt_m11, xkt_m12, xkt_m13, xkt_m14, xkt_m20, xjt_0, xjt_1, xjt_2, xjt_3, xjt_4, xjt_5, xjt_6, xjt_7, xjt_8, xjt_9, xjt_10, xjt_11, xjt_12, xjt_13, xjt_14, xjt_16, xjt_20, xjt_24, xjt_31, xjt_32, xjt_40, xjt_44, xjt_47, xjt_48, xjt_57, xjt_59, xjt_60, xjt_63, xjt_64, xjt_65, xjt_72, xjt_95, xjt_99, xjt_100, xjt_101, xjt_103, xjt_110, xjt_112, xjt_113, xjt_114, xjt_119, xjt_126, xjt_159, xjt_576, xjt_999, xjt_9999, xjt_65536, xjt_999999, xt64, xt_n, not_true_eq_false, not_false_eq_true, Classical.not_not] at c_4
    all_goals omega
  · skip
    refine xw_go xb_171 1 (f1 := (8, [.ref 60, .int (nI s), .int i, .int (nI t), .int j, .int n, .float 0, .float 0], [.int (nI t)])) (h1 := (xS b, I, L, xP b)) rfl trivial ?_
    refine xw_call xb_171 rfl rfl rfl rfl rfl (Or.inl rfl) m_isSheet ?_
    rintro _ _ ⟨rfl, rfl⟩
    refine xw_at (f' := (11, [.ref 60, .int (nI s), .int i, .int (nI t), .int j, .int n, .float 0, .float 0], [.int (nI (xB (decide (0 ≤ (nI t).toInt ∧ (nI t).toInt ≤ 3))))])) (h' := (xS b, I, L, xP b)) rfl rfl ?_
    refine xw_go xb_171 1 (f1 := (if ¬ (nI (xB (decide (0 ≤ (nI t).toInt ∧ (nI t).toInt ≤ 3)))) = 0 then 16 else 14, [.ref 60, .int (nI s), .int i, .int (nI t), .int j, .int n, .float 0, .float 0], [])) (h1 := (xS b, I, L, xP b)) rfl trivial ?_
    refine xw_if (fun c_11 => ?_) (fun c_11 => ?_)
    · skip
      refine xw_go xb_171 4 (f1 := (22, [.ref 60, .int (nI s), .int i, .int (nI t), .int j, .int n, .float 0, .float 0], [.int (I 70 (nI s).toNatClampNeg)])) (h1 := (xS b, I, L, xP b)) rfl ⟨rfl, (xn_ar (n := s) (N := 4) rfl (by omega) (by decide)), trivial⟩ ?_
      refine xw_cong (l' := [.ref 60, .int (nI s), .int i, .int (nI t), .int j, .int n, .float 0, .float 0]) (st' := [.int (xln (Y s))]) (h' := (xS b, I, L, xP b)) rfl (show ([.int (I 70 (nI s).toNatClampNeg)] : List Value) = [.int (xln (Y s))] from ?_) rfl ?_
      · rw [xn_cl (by omega), y0]
      refine xw_go xb_171 1 (f1 := (if (xln (Y s)) < 0 then 34 else 25, [.ref 60, .int (nI s), .int i, .int (nI t), .int j, .int n, .float 0, .float 0], [])) (h1 := (xS b, I, L, xP b)) rfl trivial ?_
      refine xw_if (fun c_22 => ?_) (fun c_22 => ?_)
      · skip
        exfalso
        have g1 := (xln_neg hk.1).mpr h1
        have g2 := (xln_neg hk2.1).mpr h2
        first | exact c_31 g2 | (rw [xt_lt] at c_22; rw [xt_le] at g1; omega)
      · skip
        refine xw_go xb_171 4 (f1 := (31, [.ref 60, .int (nI s), .int i, .int (nI t), .int j, .int n, .float 0, .float 0], [.int (I 70 (nI t).toNatClampNeg)])) (h1 := (xS b, I, L, xP b)) rfl ⟨rfl, (xn_ar (n := t) (N := 4) rfl (by omega) (by decide)), trivial⟩ ?_
        refine xw_cong (l' := [.ref 60, .int (nI s), .int i, .int (nI t), .int j, .int n, .float 0, .float 0]) (st' := [.int (xln (Y t))]) (h' := (xS b, I, L, xP b)) rfl (show ([.int (I 70 (nI t).toNatClampNeg)] : List Value) = [.int (xln (Y t))] from ?_) rfl ?_
        · rw [xn_cl (by omega), z0]
        refine xw_go xb_171 1 (f1 := (if 0 ≤ (xln (Y t)) then 37 else 34, [.ref 60, .int (nI s), .int i, .int (nI t), .int j, .int n, .float 0, .float 0], [])) (h1 := (xS b, I, L, xP b)) rfl trivial ?_
        refine xw_if (fun c_31 => ?_) (fun c_31 => ?_)
        · skip
          refine xw_go xb_171 6 (f1 := (45, [.ref 60, .int (nI s), .int i, .int (nI t), .int j, .int n, .float 0, .float 0], [.int (I 70 (nI s).toNatClampNeg), .int (nI t), .ref 60])) (h1 := (xS b, I, L, xP b)) rfl ⟨rfl, (xn_ar (n := s) (N := 4) rfl (by omega) (by decide)), trivial⟩ ?_
          refine xw_cong (l' := [.ref 60, .int (nI s), .int i, .int (nI t), .int j, .int n, .float 0, .float 0]) (st' := [.int (nI (Y s).2.1), .int (nI t), .ref 60]) (h' := (xS b, I, L, xP b)) rfl (show ([.int (I 70 (nI s).toNatClampNeg), .int (nI t), .ref 60] : List Value) = [.int (nI (Y s).2.1), .int (nI t), .ref 60] from ?_) rfl ?_
          · rw [xn_cl (by omega), y0, xln_t h1]
          refine xw_go xb_171 2 (f1 := (49, [.ref 60, .int (nI s), .int i, .int (nI t), .int j, .int n, .float 0, .float 0], [.int n, .int j, .int (nI (Y s).2.1), .int (nI t), .ref 60])) (h1 := (xS b, I, L, xP b)) rfl trivial ?_
          refine xw_call xb_171 rfl rfl rfl rfl rfl (Or.inr ⟨_, _, rfl, rfl⟩) (m_why hS hY ht hk.1 rfl rfl) ?_
          rintro _ _ ⟨rfl, rfl⟩
          refine xw_at (f' := (52, [.ref 60, .int (nI s), .int i, .int (nI t), .int j, .int n, .float 0, .float 0], [.int (xwy (Y t) (Y s).2.1 j n)])) (h' := (xS b, I, L, xP b)) rfl rfl ?_
          refine xw_go xb_171 3 (f1 := (if ¬ (xwy (Y t) (Y s).2.1 j n) = 0 then 76 else 59, [.ref 60, .int (nI s), .int i, .int (nI t), .int j, .int n, .int (xwy (Y t) (Y s).2.1 j n), .float 0], [])) (h1 := (xS b, I, L, xP b)) rfl trivial ?_
          refine xw_if (fun c_56 => ?_) (fun c_56 => ?_)
          · skip
            refine xw_go xb_171 4 (f1 := (if 0 ≤ (xwy (Y t) (Y s).2.1 j n) then 88 else 85, [.ref 60, .int (nI s), .int i, .int (nI t), .int j, .int n, .int (xwy (Y t) (Y s).2.1 j n), .float 0], [])) (h1 := (xS b, I, L, xP b)) rfl trivial ?_
            refine xw_if (fun c_82 => ?_) (fun c_82 => ?_)
            · skip
              exact absurd c_82 (by rw [xwy_12 h2 (Ne.symm h3)]; decide)
            · skip
              refine xw_go xb_171 1 (f1 := (87, [.ref 60, .int (nI s), .int i, .int (nI t), .int j, .int n, .int (xwy (Y t) (Y s).2.1 j n), .float 0], [.int (xwy (Y t) (Y s).2.1 j n)])) (h1 := (xS b, I, L, xP b)) rfl trivial ?_
              refine xw_ret xb_171 rfl rfl trivial ?_
              rw [xwy_12 h2 (Ne.symm h3)]
              exact xHM_s hS
          · skip
            exact absurd c_56 (by rw [xwy_12 h2 (Ne.symm h3)]; decide)
        · skip
          exfalso
          have g1 := (xln_neg hk.1).mpr h1
          have g2 := (xln_neg hk2.1).mpr h2
          first | exact c_31 g2 | (rw [xt_lt] at c_22; rw [xt_le] at g1; omega)
    · skip
      exfalso
      try simp only [xB_dec, Classical.not_not] at c_4 c_11
      try simp (disch := omega) only [xt_eq, xt_lt, xt_le, xkt_0, xkt_1, xkt_2, xkt_3, xkt_4, xkt_5, xkt_6, xkt_7, xkt_8, xkt_9, xkt_10, xkt_11, xkt_12, xkt_13, xkt_14, xkt_16, xkt_20, xkt_24, xkt_31, xkt_32, xkt_40, xkt_44, xkt_47, xkt_48, xkt_57, xkt_59, xkt_60, xkt_63, xkt_64, xkt_65, xkt_72, xkt_95, xkt_99, xkt_100, xkt_101, xkt_103, xkt_110, xkt_112, xkt_113, xkt_114, xkt_119, xkt_126, xkt_159, xkt_576, xkt_999, xkt_9999, xkt_65536, xkt_999999, xkt_m1, xkt_m2, xkt_m3, xkt_m4, xkt_m11, xkt_m12, xkt_m13, xkt_m14, xkt_m20, xjt_0, xjt_1, xjt_2, xjt_3, xjt_4, xjt_5, xjt_6, xjt_7, xjt_8, xjt_9, xjt_10, xjt_11, xjt_12, xjt_13, xjt_14, xjt_16, xjt_20, xjt_24, xjt_31, xjt_32, xjt_40, xjt_44, xjt_47, xjt_48, xjt_57, xjt_59, xjt_60, xjt_63, xjt_64, xjt_65, xjt_72, xjt_95, xjt_99, xjt_100, xjt_101, xjt_103, xjt_110, xjt_112, xjt_113, xjt_114, xjt_119, xjt_126, xjt_159, xjt_576, xjt_999, xjt_9999, xjt_65536, xjt_999999, xt64, xt_n, not_true_eq_false, not_false_eq_true, Classical.not_not] at c_4 c_11
      all_goals omega

theorem m_copy3 {d : Nat} {b : Bool} {I : Nat → Nat → Int32} {L : Nat → Nat → Int64} {Y : xY} (hS : xSM Y I L) (hY : xYK Y) {s t : Nat} (hs : s < 4) (ht : t < 4) (h1 : (Y s).1 = true) (h2 : (Y t).1 = true) (h3 : (Y s).2.1 = (Y t).2.1) {i j n : Int32} (h4 : ¬ (0 ≤ n.toInt ∧ 0 ≤ i.toInt ∧ i.toInt + n.toInt ≤ ((Y s).2.2.1 : Int) ∧ 0 ≤ j.toInt ∧ j.toInt + n.toInt ≤ ((Y t).2.2.1 : Int))) {x : Int32} (e_x : x = nI s) {y : Int32} (e_y : y = nI t) : xm_Z (d + 3) 171 [.ref 60, .int x, .int i, .int y, .int j, .int n] (xS b, I, L, xP b) (fun rz hz => xHM b I L (-13) Y rz hz) := by
  subst e_x
  subst e_y
  obtain ⟨y0, y2, y3⟩ := hS s hs
  obtain ⟨z0, z2, z3⟩ := hS t ht
  have hk := hY s hs
  have hk2 := hY t ht
  refine xw_S xb_171 (l := [.ref 60, .int (nI s), .int i, .int (nI t), .int j, .int n, .float 0, .float 0]) (Nat.le_of_ble_eq_true rfl) rfl ?_
  refine xw_go xb_171 1 (f1 := (1, [.ref 60, .int (nI s), .int i, .int (nI t), .int j, .int n, .float 0, .float 0], [.int (nI s)])) (h1 := (xS b, I, L, xP b)) rfl trivial ?_
  refine xw_call xb_171 rfl rfl rfl rfl rfl (Or.inl rfl) m_isSheet ?_
  rintro _ _ ⟨rfl, rfl⟩
  refine xw_at (f' := (4, [.ref 60, .int (nI s), .int i, .int (nI t), .int j, .int n, .float 0, .float 0], [.int (nI (xB (decide (0 ≤ (nI s).toInt ∧ (nI s).toInt ≤ 3))))])) (h' := (xS b, I, L, xP b)) rfl rfl ?_
  refine xw_go xb_171 1 (f1 := (if (nI (xB (decide (0 ≤ (nI s).toInt ∧ (nI s).toInt ≤ 3)))) = 0 then 14 else 7, [.ref 60, .int (nI s), .int i, .int (nI t), .int j, .int n, .float 0, .float 0], [])) (h1 := (xS b, I, L, xP b)) rfl trivial ?_
  refine xw_if (fun c_4 => ?_) (fun c_4 => ?_)
  · skip
    exfalso
    try simp only [xB_dec, Classical.not_not] at c_4
    try simp (disch := omega) only [xt_eq, xt_lt, xt_le, xkt_0, xkt_1, xkt_2, xkt_3, xkt_4, xkt_5, xkt_6, xkt_7, xkt_8, xkt_9, xkt_10, xkt_11, xkt_12, xkt_13, xkt_14, xkt_16, xkt_20, xkt_24, xkt_31, xkt_32, xkt_40, xkt_44, xkt_47, xkt_48, xkt_57, xkt_59, xkt_60, xkt_63, xkt_64, xkt_65, xkt_72, xkt_95, xkt_99, xkt_100, xkt_101, xkt_103, xkt_110, xkt_112, xkt_113, xkt_114, xkt_119, xkt_126, xkt_159, xkt_576, xkt_999, xkt_9999, xkt_65536, xkt_999999, xkt_m1, xkt_m2, xkt_m3, xkt_m4, xkt_m11, xkt_m12, xkt_m13, xkt_m14, xkt_m20, xjt_0, xjt_1, xjt_2, xjt_3, xjt_4, xjt_5, xjt_6, xjt_7, xjt_8, xjt_9, xjt_10, xjt_11, xjt_12, xjt_13, xjt_14, xjt_16, xjt_20, xjt_24, xjt_31, xjt_32, xjt_40, xjt_44, xjt_47, xjt_48, xjt_57, xjt_59, xjt_60, xjt_63, xjt_64, xjt_65, xjt_72, xjt_95, xjt_99, xjt_100, xjt_101, xjt_103, xjt_110, xjt_112, xjt_113, xjt_114, xjt_119, xjt_126, xjt_159, xjt_576, xjt_999, xjt_9999, xjt_65536, xjt_999999, xt64, xt_n, not_true_eq_false, not_false_eq_true, Classical.not_not] at c_4
    all_goals omega
  · skip
    refine xw_go xb_171 1 (f1 := (8, [.ref 60, .int (nI s), .int i, .int (nI t), .int j, .int n, .float 0, .float 0], [.int (nI t)])) (h1 := (xS b, I, L, xP b)) rfl trivial ?_
    refine xw_call xb_171 rfl rfl rfl rfl rfl (Or.inl rfl) m_isSheet ?_
    rintro _ _ ⟨rfl, rfl⟩
    refine xw_at (f' := (11, [.ref 60, .int (nI s), .int i, .int (nI t), .int j, .int n, .float 0, .float 0], [.int (nI (xB (decide (0 ≤ (nI t).toInt ∧ (nI t).toInt ≤ 3))))])) (h' := (xS b, I, L, xP b)) rfl rfl ?_
    refine xw_go xb_171 1 (f1 := (if ¬ (nI (xB (decide (0 ≤ (nI t).toInt ∧ (nI t).toInt ≤ 3)))) = 0 then 16 else 14, [.ref 60, .int (nI s), .int i, .int (nI t), .int j, .int n, .float 0, .float 0], [])) (h1 := (xS b, I, L, xP b)) rfl trivial ?_
    refine xw_if (fun c_11 => ?_) (fun c_11 => ?_)
    · skip
      refine xw_go xb_171 4 (f1 := (22, [.ref 60, .int (nI s), .int i, .int (nI t), .int j, .int n, .float 0, .float 0], [.int (I 70 (nI s).toNatClampNeg)])) (h1 := (xS b, I, L, xP b)) rfl ⟨rfl, (xn_ar (n := s) (N := 4) rfl (by omega) (by decide)), trivial⟩ ?_
      refine xw_cong (l' := [.ref 60, .int (nI s), .int i, .int (nI t), .int j, .int n, .float 0, .float 0]) (st' := [.int (xln (Y s))]) (h' := (xS b, I, L, xP b)) rfl (show ([.int (I 70 (nI s).toNatClampNeg)] : List Value) = [.int (xln (Y s))] from ?_) rfl ?_
      · rw [xn_cl (by omega), y0]
      refine xw_go xb_171 1 (f1 := (if (xln (Y s)) < 0 then 34 else 25, [.ref 60, .int (nI s), .int i, .int (nI t), .int j, .int n, .float 0, .float 0], [])) (h1 := (xS b, I, L, xP b)) rfl trivial ?_
      refine xw_if (fun c_22 => ?_) (fun c_22 => ?_)
      · skip
        exfalso
        have g1 := (xln_neg hk.1).mpr h1
        have g2 := (xln_neg hk2.1).mpr h2
        first | exact c_31 g2 | (rw [xt_lt] at c_22; rw [xt_le] at g1; omega)
      · skip
        refine xw_go xb_171 4 (f1 := (31, [.ref 60, .int (nI s), .int i, .int (nI t), .int j, .int n, .float 0, .float 0], [.int (I 70 (nI t).toNatClampNeg)])) (h1 := (xS b, I, L, xP b)) rfl ⟨rfl, (xn_ar (n := t) (N := 4) rfl (by omega) (by decide)), trivial⟩ ?_
        refine xw_cong (l' := [.ref 60, .int (nI s), .int i, .int (nI t), .int j, .int n, .float 0, .float 0]) (st' := [.int (xln (Y t))]) (h' := (xS b, I, L, xP b)) rfl (show ([.int (I 70 (nI t).toNatClampNeg)] : List Value) = [.int (xln (Y t))] from ?_) rfl ?_
        · rw [xn_cl (by omega), z0]
        refine xw_go xb_171 1 (f1 := (if 0 ≤ (xln (Y t)) then 37 else 34, [.ref 60, .int (nI s), .int i, .int (nI t), .int j, .int n, .float 0, .float 0], [])) (h1 := (xS b, I, L, xP b)) rfl trivial ?_
        refine xw_if (fun c_31 => ?_) (fun c_31 => ?_)
        · skip
          refine xw_go xb_171 6 (f1 := (45, [.ref 60, .int (nI s), .int i, .int (nI t), .int j, .int n, .float 0, .float 0], [.int (I 70 (nI s).toNatClampNeg), .int (nI t), .ref 60])) (h1 := (xS b, I, L, xP b)) rfl ⟨rfl, (xn_ar (n := s) (N := 4) rfl (by omega) (by decide)), trivial⟩ ?_
          refine xw_cong (l' := [.ref 60, .int (nI s), .int i, .int (nI t), .int j, .int n, .float 0, .float 0]) (st' := [.int (nI (Y s).2.1), .int (nI t), .ref 60]) (h' := (xS b, I, L, xP b)) rfl (show ([.int (I 70 (nI s).toNatClampNeg), .int (nI t), .ref 60] : List Value) = [.int (nI (Y s).2.1), .int (nI t), .ref 60] from ?_) rfl ?_
          · rw [xn_cl (by omega), y0, xln_t h1]
          refine xw_go xb_171 2 (f1 := (49, [.ref 60, .int (nI s), .int i, .int (nI t), .int j, .int n, .float 0, .float 0], [.int n, .int j, .int (nI (Y s).2.1), .int (nI t), .ref 60])) (h1 := (xS b, I, L, xP b)) rfl trivial ?_
          refine xw_call xb_171 rfl rfl rfl rfl rfl (Or.inr ⟨_, _, rfl, rfl⟩) (m_why hS hY ht hk.1 rfl rfl) ?_
          rintro _ _ ⟨rfl, rfl⟩
          refine xw_at (f' := (52, [.ref 60, .int (nI s), .int i, .int (nI t), .int j, .int n, .float 0, .float 0], [.int (xwy (Y t) (Y s).2.1 j n)])) (h' := (xS b, I, L, xP b)) rfl rfl ?_
          refine xw_go xb_171 3 (f1 := (if ¬ (xwy (Y t) (Y s).2.1 j n) = 0 then 76 else 59, [.ref 60, .int (nI s), .int i, .int (nI t), .int j, .int n, .int (xwy (Y t) (Y s).2.1 j n), .float 0], [])) (h1 := (xS b, I, L, xP b)) rfl trivial ?_
          refine xw_if (fun c_56 => ?_) (fun c_56 => ?_)
          · skip
            refine xw_go xb_171 4 (f1 := (if 0 ≤ (xwy (Y t) (Y s).2.1 j n) then 88 else 85, [.ref 60, .int (nI s), .int i, .int (nI t), .int j, .int n, .int (xwy (Y t) (Y s).2.1 j n), .float 0], [])) (h1 := (xS b, I, L, xP b)) rfl trivial ?_
            refine xw_if (fun c_82 => ?_) (fun c_82 => ?_)
            · skip
              exact absurd (xwy_ge.mp c_82) c_56
            · skip
              refine xw_go xb_171 1 (f1 := (87, [.ref 60, .int (nI s), .int i, .int (nI t), .int j, .int n, .int (xwy (Y t) (Y s).2.1 j n), .float 0], [.int (xwy (Y t) (Y s).2.1 j n)])) (h1 := (xS b, I, L, xP b)) rfl trivial ?_
              refine xw_ret xb_171 rfl rfl trivial ?_
              rcases xwy_n (y := Y t) (la := (Y s).2.1) (i := j) (n := n) with g | g | g | g
              · exact absurd g c_56
              · exfalso
                unfold xwy at g
                rw [if_neg (by rw [h2]; decide), if_neg (fun q => q h3.symm)] at g
                split at g <;> exact absurd g (by decide)
              · exfalso
                unfold xwy at g
                rw [if_neg (by rw [h2]; decide), if_neg (fun q => q h3.symm)] at g
                split at g <;> exact absurd g (by decide)
              · rw [g]
                exact xHM_s hS
          · skip
            refine xw_go xb_171 6 (f1 := (67, [.ref 60, .int (nI s), .int i, .int (nI t), .int j, .int n, .int (xwy (Y t) (Y s).2.1 j n), .float 0], [.int (I 70 (nI s).toNatClampNeg), .int (nI s), .ref 60])) (h1 := (xS b, I, L, xP b)) rfl ⟨rfl, (xn_ar (n := s) (N := 4) rfl (by omega) (by decide)), trivial⟩ ?_
            refine xw_cong (l' := [.ref 60, .int (nI s), .int i, .int (nI t), .int j, .int n, .int (xwy (Y t) (Y s).2.1 j n), .float 0]) (st' := [.int (nI (Y s).2.1), .int (nI s), .ref 60]) (h' := (xS b, I, L, xP b)) rfl (show ([.int (I 70 (nI s).toNatClampNeg), .int (nI s), .ref 60] : List Value) = [.int (nI (Y s).2.1), .int (nI s), .ref 60] from ?_) rfl ?_
            · rw [xn_cl (by omega), y0, xln_t h1]
            refine xw_go xb_171 2 (f1 := (70, [.ref 60, .int (nI s), .int i, .int (nI t), .int j, .int n, .int (xwy (Y t) (Y s).2.1 j n), .float 0], [.int n, .int i, .int (nI (Y s).2.1), .int (nI s), .ref 60])) (h1 := (xS b, I, L, xP b)) rfl trivial ?_
            refine xw_call xb_171 rfl rfl rfl rfl rfl (Or.inr ⟨_, _, rfl, rfl⟩) (m_why hS hY hs hk.1 rfl rfl) ?_
            rintro _ _ ⟨rfl, rfl⟩
            refine xw_at (f' := (73, [.ref 60, .int (nI s), .int i, .int (nI t), .int j, .int n, .int (xwy (Y t) (Y s).2.1 j n), .float 0], [.int (xwy (Y s) (Y s).2.1 i n)])) (h' := (xS b, I, L, xP b)) rfl rfl ?_
            refine xw_go xb_171 4 (f1 := (if 0 ≤ (xwy (Y s) (Y s).2.1 i n) then 88 else 85, [.ref 60, .int (nI s), .int i, .int (nI t), .int j, .int n, .int (xwy (Y s) (Y s).2.1 i n), .float 0], [])) (h1 := (xS b, I, L, xP b)) rfl trivial ?_
            refine xw_if (fun c_82 => ?_) (fun c_82 => ?_)
            · skip
              exfalso
              have g := xwy_0 (Classical.not_not.mp c_56)
              have g2 := xwy_0 (xwy_ge.mp c_82)
              omega
            · skip
              refine xw_go xb_171 1 (f1 := (87, [.ref 60, .int (nI s), .int i, .int (nI t), .int j, .int n, .int (xwy (Y s) (Y s).2.1 i n), .float 0], [.int (xwy (Y s) (Y s).2.1 i n)])) (h1 := (xS b, I, L, xP b)) rfl trivial ?_
              refine xw_ret xb_171 rfl rfl trivial ?_
              have g := xwy_0 (Classical.not_not.mp c_56)
              rw [xwy_13 h1 rfl (by omega)]
              exact xHM_s hS
        · skip
          exfalso
          have g1 := (xln_neg hk.1).mpr h1
          have g2 := (xln_neg hk2.1).mpr h2
          first | exact c_31 g2 | (rw [xt_lt] at c_22; rw [xt_le] at g1; omega)
    · skip
      exfalso
      try simp only [xB_dec, Classical.not_not] at c_4 c_11
      try simp (disch := omega) only [xt_eq, xt_lt, xt_le, xkt_0, xkt_1, xkt_2, xkt_3, xkt_4, xkt_5, xkt_6, xkt_7, xkt_8, xkt_9, xkt_10, xkt_11, xkt_12, xkt_13, xkt_14, xkt_16, xkt_20, xkt_24, xkt_31, xkt_32, xkt_40, xkt_44, xkt_47, xkt_48, xkt_57, xkt_59, xkt_60, xkt_63, xkt_64, xkt_65, xkt_72, xkt_95, xkt_99, xkt_100, xkt_101, xkt_103, xkt_110, xkt_112, xkt_113, xkt_114, xkt_119, xkt_126, xkt_159, xkt_576, xkt_999, xkt_9999, xkt_65536, xkt_999999, xkt_m1, xkt_m2, xkt_m3, xkt_m4, xkt_m11, xkt_m12, xkt_m13, xkt_m14, xkt_m20, xjt_0, xjt_1, xjt_2, xjt_3, xjt_4, xjt_5, xjt_6, xjt_7, xjt_8, xjt_9, xjt_10, xjt_11, xjt_12, xjt_13, xjt_14, xjt_16, xjt_20, xjt_24, xjt_31, xjt_32, xjt_40, xjt_44, xjt_47, xjt_48, xjt_57, xjt_59, xjt_60, xjt_63, xjt_64, xjt_65, xjt_72, xjt_95, xjt_99, xjt_100, xjt_101, xjt_103, xjt_110, xjt_112, xjt_113, xjt_114, xjt_119, xjt_126, xjt_159, xjt_576, xjt_999, xjt_9999, xjt_65536, xjt_999999, xt64, xt_n, not_true_eq_false, not_false_eq_true, Classical.not_not] at c_4 c_11
      all_goals omega

theorem m_copy4 {d : Nat} {b : Bool} {I : Nat → Nat → Int32} {L : Nat → Nat → Int64} {Y : xY} (hS : xSM Y I L) (hY : xYK Y) {s t : Nat} (hs : s < 4) (ht : t < 4) (h1 : (Y s).1 = true) (h2 : (Y t).1 = true) (h3 : (Y s).2.1 = (Y t).2.1) {p q m : Nat} (h4 : p + m ≤ (Y s).2.2.1) (h5 : q + m ≤ (Y t).2.2.1) {x : Int32} (e_x : x = nI s) {v : Int32} (e_v : v = nI p) {y : Int32} (e_y : y = nI t) {w : Int32} (e_w : w = nI q) {z : Int32} (e_z : z = nI m) : xm_Z (d + 3) 171 [.ref 60, .int x, .int v, .int y, .int w, .int z] (xS b, I, L, xP b) (fun rz hz => xHM b I L (nI m) (va_up Y t (true, (Y t).2.1, (Y t).2.2.1, va_cpy (Y s).2.2.2 (Y t).2.2.2 p q m)) rz hz) := by
  subst e_x
  subst e_v
  subst e_y
  subst e_w
  subst e_z
  obtain ⟨y0, y2, y3⟩ := hS s hs
  obtain ⟨z0, z2, z3⟩ := hS t ht
  have hk := hY s hs
  have hk2 := hY t ht
  have e1 : xwy (Y t) (Y s).2.1 (nI q) (nI m) = 0 := xwy_00 h2 h3.symm (by rw [xt_n (by omega), xt_n (by omega)]; omega)
  have e2 : xwy (Y s) (Y s).2.1 (nI p) (nI m) = 0 := xwy_00 h1 rfl (by rw [xt_n (by omega), xt_n (by omega)]; omega)
  refine xw_S xb_171 (l := [.ref 60, .int (nI s), .int (nI p), .int (nI t), .int (nI q), .int (nI m), .float 0, .float 0]) (Nat.le_of_ble_eq_true rfl) rfl ?_
  refine xw_go xb_171 1 (f1 := (1, [.ref 60, .int (nI s), .int (nI p), .int (nI t), .int (nI q), .int (nI m), .float 0, .float 0], [.int (nI s)])) (h1 := (xS b, I, L, xP b)) rfl trivial ?_
  refine xw_call xb_171 rfl rfl rfl rfl rfl (Or.inl rfl) m_isSheet ?_
  rintro _ _ ⟨rfl, rfl⟩
  refine xw_at (f' := (4, [.ref 60, .int (nI s), .int (nI p), .int (nI t), .int (nI q), .int (nI m), .float 0, .float 0], [.int (nI (xB (decide (0 ≤ (nI s).toInt ∧ (nI s).toInt ≤ 3))))])) (h' := (xS b, I, L, xP b)) rfl rfl ?_
  refine xw_go xb_171 1 (f1 := (if (nI (xB (decide (0 ≤ (nI s).toInt ∧ (nI s).toInt ≤ 3)))) = 0 then 14 else 7, [.ref 60, .int (nI s), .int (nI p), .int (nI t), .int (nI q), .int (nI m), .float 0, .float 0], [])) (h1 := (xS b, I, L, xP b)) rfl trivial ?_
  refine xw_if (fun c_4 => ?_) (fun c_4 => ?_)
  · skip
    exfalso
    try simp only [xB_dec, Classical.not_not] at c_4
    try simp (disch := omega) only [xt_eq, xt_lt, xt_le, xkt_0, xkt_1, xkt_2, xkt_3, xkt_4, xkt_5, xkt_6, xkt_7, xkt_8, xkt_9, xkt_10, xkt_11, xkt_12, xkt_13, xkt_14, xkt_16, xkt_20, xkt_24, xkt_31, xkt_32, xkt_40, xkt_44, xkt_47, xkt_48, xkt_57, xkt_59, xkt_60, xkt_63, xkt_64, xkt_65, xkt_72, xkt_95, xkt_99, xkt_100, xkt_101, xkt_103, xkt_110, xkt_112, xkt_113, xkt_114, xkt_119, xkt_126, xkt_159, xkt_576, xkt_999, xkt_9999, xkt_65536, xkt_999999, xkt_m1, xkt_m2, xkt_m3, xkt_m4, xkt_m11, xkt_m12, xkt_m13, xkt_m14, xkt_m20, xjt_0, xjt_1, xjt_2, xjt_3, xjt_4, xjt_5, xjt_6, xjt_7, xjt_8, xjt_9, xjt_10, xjt_11, xjt_12, xjt_13, xjt_14, xjt_16, xjt_20, xjt_24, xjt_31, xjt_32, xjt_40, xjt_44, xjt_47, xjt_48, xjt_57, xjt_59, xjt_60, xjt_63, xjt_64, xjt_65, xjt_72, xjt_95, xjt_99, xjt_100, xjt_101, xjt_103, xjt_110, xjt_112, xjt_113, xjt_114, xjt_119, xjt_126, xjt_159, xjt_576, xjt_999, xjt_9999, xjt_65536, xjt_999999, xt64, xt_n, not_true_eq_false, not_false_eq_true, Classical.not_not] at c_4
    all_goals omega
  · skip
    refine xw_go xb_171 1 (f1 := (8, [.ref 60, .int (nI s), .int (nI p), .int (nI t), .int (nI q), .int (nI m), .float 0, .float 0], [.int (nI t)])) (h1 := (xS b, I, L, xP b)) rfl trivial ?_
    refine xw_call xb_171 rfl rfl rfl rfl rfl (Or.inl rfl) m_isSheet ?_
    rintro _ _ ⟨rfl, rfl⟩
    refine xw_at (f' := (11, [.ref 60, .int (nI s), .int (nI p), .int (nI t), .int (nI q), .int (nI m), .float 0, .float 0], [.int (nI (xB (decide (0 ≤ (nI t).toInt ∧ (nI t).toInt ≤ 3))))])) (h' := (xS b, I, L, xP b)) rfl rfl ?_
    refine xw_go xb_171 1 (f1 := (if ¬ (nI (xB (decide (0 ≤ (nI t).toInt ∧ (nI t).toInt ≤ 3)))) = 0 then 16 else 14, [.ref 60, .int (nI s), .int (nI p), .int (nI t), .int (nI q), .int (nI m), .float 0, .float 0], [])) (h1 := (xS b, I, L, xP b)) rfl trivial ?_
    refine xw_if (fun c_11 => ?_) (fun c_11 => ?_)
    · skip
      refine xw_go xb_171 4 (f1 := (22, [.ref 60, .int (nI s), .int (nI p), .int (nI t), .int (nI q), .int (nI m), .float 0, .float 0], [.int (I 70 (nI s).toNatClampNeg)])) (h1 := (xS b, I, L, xP b)) rfl ⟨rfl, (xn_ar (n := s) (N := 4) rfl (by omega) (by decide)), trivial⟩ ?_
      refine xw_cong (l' := [.ref 60, .int (nI s), .int (nI p), .int (nI t), .int (nI q), .int (nI m), .float 0, .float 0]) (st' := [.int (xln (Y s))]) (h' := (xS b, I, L, xP b)) rfl (show ([.int (I 70 (nI s).toNatClampNeg)] : List Value) = [.int (xln (Y s))] from ?_) rfl ?_
      · rw [xn_cl (by omega), y0]
      refine xw_go xb_171 1 (f1 := (if (xln (Y s)) < 0 then 34 else 25, [.ref 60, .int (nI s), .int (nI p), .int (nI t), .int (nI q), .int (nI m), .float 0, .float 0], [])) (h1 := (xS b, I, L, xP b)) rfl trivial ?_
      refine xw_if (fun c_22 => ?_) (fun c_22 => ?_)
      · skip
        exfalso
        have g1 := (xln_neg hk.1).mpr h1
        have g2 := (xln_neg hk2.1).mpr h2
        first | exact c_31 g2 | (rw [xt_lt] at c_22; rw [xt_le] at g1; omega)
      · skip
        refine xw_go xb_171 4 (f1 := (31, [.ref 60, .int (nI s), .int (nI p), .int (nI t), .int (nI q), .int (nI m), .float 0, .float 0], [.int (I 70 (nI t).toNatClampNeg)])) (h1 := (xS b, I, L, xP b)) rfl ⟨rfl, (xn_ar (n := t) (N := 4) rfl (by omega) (by decide)), trivial⟩ ?_
        refine xw_cong (l' := [.ref 60, .int (nI s), .int (nI p), .int (nI t), .int (nI q), .int (nI m), .float 0, .float 0]) (st' := [.int (xln (Y t))]) (h' := (xS b, I, L, xP b)) rfl (show ([.int (I 70 (nI t).toNatClampNeg)] : List Value) = [.int (xln (Y t))] from ?_) rfl ?_
        · rw [xn_cl (by omega), z0]
        refine xw_go xb_171 1 (f1 := (if 0 ≤ (xln (Y t)) then 37 else 34, [.ref 60, .int (nI s), .int (nI p), .int (nI t), .int (nI q), .int (nI m), .float 0, .float 0], [])) (h1 := (xS b, I, L, xP b)) rfl trivial ?_
        refine xw_if (fun c_31 => ?_) (fun c_31 => ?_)
        · skip
          refine xw_go xb_171 6 (f1 := (45, [.ref 60, .int (nI s), .int (nI p), .int (nI t), .int (nI q), .int (nI m), .float 0, .float 0], [.int (I 70 (nI s).toNatClampNeg), .int (nI t), .ref 60])) (h1 := (xS b, I, L, xP b)) rfl ⟨rfl, (xn_ar (n := s) (N := 4) rfl (by omega) (by decide)), trivial⟩ ?_
          refine xw_cong (l' := [.ref 60, .int (nI s), .int (nI p), .int (nI t), .int (nI q), .int (nI m), .float 0, .float 0]) (st' := [.int (nI (Y s).2.1), .int (nI t), .ref 60]) (h' := (xS b, I, L, xP b)) rfl (show ([.int (I 70 (nI s).toNatClampNeg), .int (nI t), .ref 60] : List Value) = [.int (nI (Y s).2.1), .int (nI t), .ref 60] from ?_) rfl ?_
          · rw [xn_cl (by omega), y0, xln_t h1]
          refine xw_go xb_171 2 (f1 := (49, [.ref 60, .int (nI s), .int (nI p), .int (nI t), .int (nI q), .int (nI m), .float 0, .float 0], [.int (nI m), .int (nI q), .int (nI (Y s).2.1), .int (nI t), .ref 60])) (h1 := (xS b, I, L, xP b)) rfl trivial ?_
          refine xw_call xb_171 rfl rfl rfl rfl rfl (Or.inr ⟨_, _, rfl, rfl⟩) (xw_Z (m_why hS hY ht hk.1 rfl rfl) (fun r h (q : r = some (.int (xwy (Y t) (Y s).2.1 (nI q) (nI m))) ∧ _) => (show r = some (.int 0) ∧ h = (xS b, I, L, xP b) from by rw [e1] at q; exact q))) ?_
          rintro _ _ ⟨rfl, rfl⟩
          refine xw_at (f' := (52, [.ref 60, .int (nI s), .int (nI p), .int (nI t), .int (nI q), .int (nI m), .float 0, .float 0], [.int 0])) (h' := (xS b, I, L, xP b)) rfl rfl ?_
          refine xw_go xb_171 9 (f1 := (67, [.ref 60, .int (nI s), .int (nI p), .int (nI t), .int (nI q), .int (nI m), .int 0, .float 0], [.int (I 70 (nI s).toNatClampNeg), .int (nI s), .ref 60])) (h1 := (xS b, I, L, xP b)) rfl ⟨rfl, (xn_ar (n := s) (N := 4) rfl (by omega) (by decide)), trivial⟩ ?_
          refine xw_cong (l' := [.ref 60, .int (nI s), .int (nI p), .int (nI t), .int (nI q), .int (nI m), .int 0, .float 0]) (st' := [.int (nI (Y s).2.1), .int (nI s), .ref 60]) (h' := (xS b, I, L, xP b)) rfl (show ([.int (I 70 (nI s).toNatClampNeg), .int (nI s), .ref 60] : List Value) = [.int (nI (Y s).2.1), .int (nI s), .ref 60] from ?_) rfl ?_
          · rw [xn_cl (by omega), y0, xln_t h1]
          refine xw_go xb_171 2 (f1 := (70, [.ref 60, .int (nI s), .int (nI p), .int (nI t), .int (nI q), .int (nI m), .int 0, .float 0], [.int (nI m), .int (nI p), .int (nI (Y s).2.1), .int (nI s), .ref 60])) (h1 := (xS b, I, L, xP b)) rfl trivial ?_
          refine xw_call xb_171 rfl rfl rfl rfl rfl (Or.inr ⟨_, _, rfl, rfl⟩) (xw_Z (m_why hS hY hs hk.1 rfl rfl) (fun r h (q : r = some (.int (xwy (Y s) (Y s).2.1 (nI p) (nI m))) ∧ _) => (show r = some (.int 0) ∧ h = (xS b, I, L, xP b) from by rw [e2] at q; exact q))) ?_
          rintro _ _ ⟨rfl, rfl⟩
          refine xw_at (f' := (73, [.ref 60, .int (nI s), .int (nI p), .int (nI t), .int (nI q), .int (nI m), .int 0, .float 0], [.int 0])) (h' := (xS b, I, L, xP b)) rfl rfl ?_
          refine xw_go xb_171 6 (f1 := (91, [.ref 60, .int (nI s), .int (nI p), .int (nI t), .int (nI q), .int (nI m), .int 0, .int 0], [])) (h1 := (xS b, I, L, xP b)) rfl trivial ?_
          refine xw_at (f' := (91, [.ref 60, .int (nI s), .int (nI p), .int (nI t), .int (nI q), .int (nI m), .int 0, .int (nI 0)], [])) (h' := (xS b, I, va_up L 73 (va_cpy (Y s).2.2.2 (L 73) p 0 0), xP b)) rfl (by rw [xcy_0, xm_up_id]) ?_
          refine xw_loop m (fun k => (91, [.ref 60, .int (nI s), .int (nI p), .int (nI t), .int (nI q), .int (nI m), .int 0, .int (nI k)], [])) (fun k => (xS b, I, va_up L 73 (va_cpy (Y s).2.2.2 (L 73) p 0 k), xP b)) (fun k hkn ih => ?_) ?_ 0 (Nat.zero_le _)
          · skip
            refine xw_go xb_171 3 (f1 := (if (nI m) ≤ (nI k) then 125 else 98, [.ref 60, .int (nI s), .int (nI p), .int (nI t), .int (nI q), .int (nI m), .int 0, .int (nI k)], [])) (h1 := (xS b, I, va_up L 73 (va_cpy (Y s).2.2.2 (L 73) p 0 k), xP b)) rfl trivial ?_
            refine xw_if (fun c_95 => ?_) (fun c_95 => ?_)
            · skip
              exfalso
              try simp only [xB_dec, Classical.not_not] at c_95
              try simp (disch := omega) only [nI_add, xt_eq, xt_lt, xt_le, xkt_0, xkt_1, xkt_2, xkt_3, xkt_4, xkt_5, xkt_6, xkt_7, xkt_8, xkt_9, xkt_10, xkt_11, xkt_12, xkt_13, xkt_14, xkt_16, xkt_20, xkt_24, xkt_31, xkt_32, xkt_40, xkt_44, xkt_47, xkt_48, xkt_57, xkt_59, xkt_60, xkt_63, xkt_64, xkt_65, xkt_72, xkt_95, xkt_99, xkt_100, xkt_101, xkt_103, xkt_110, xkt_112, xkt_113, xkt_114, xkt_119, xkt_126, xkt_159, xkt_576, xkt_999, xkt_9999, xkt_65536, xkt_999999, xkt_m1, xkt_m2, xkt_m3, xkt_m4, xkt_m11, xkt_m12, xkt_m13, xkt_m14, xkt_m20, xjt_0, xjt_1, xjt_2, xjt_3, xjt_4, xjt_5, xjt_6, xjt_7, xjt_8, xjt_9, xjt_10, xjt_11, xjt_12, xjt_13, xjt_14, xjt_16, xjt_20, xjt_24, xjt_31, xjt_32, xjt_40, xjt_44, xjt_47, xjt_48, xjt_57, xjt_59, xjt_60, xjt_63, xjt_64, xjt_65, xjt_72, xjt_95, xjt_99, xjt_100, xjt_101, xjt_103, xjt_110, xjt_112, xjt_113, xjt_114, xjt_119, xjt_126, xjt_159, xjt_576, xjt_999, xjt_9999, xjt_65536, xjt_999999, xt64, xt_n, not_true_eq_false, not_false_eq_true, Classical.not_not] at c_95
              all_goals omega
            · skip
              refine xw_go xb_171 12 (f1 := (117, [.ref 60, .int (nI s), .int (nI p), .int (nI t), .int (nI q), .int (nI m), .int 0, .int (nI k)], [.int (((24 * (nI s)) + (nI p)) + (nI k)), .ref 72, .int (nI k), .ref 73])) (h1 := (xS b, I, va_up L 73 (va_cpy (Y s).2.2.2 (L 73) p 0 k), xP b)) rfl ⟨rfl, rfl, trivial⟩ ?_
              refine xw_cong (l' := [.ref 60, .int (nI s), .int (nI p), .int (nI t), .int (nI q), .int (nI m), .int 0, .int (nI k)]) (st' := [.int (nI (24 * s + p + k)), .ref 72, .int (nI k), .ref 73]) (h' := (xS b, I, va_up L 73 (va_cpy (Y s).2.2.2 (L 73) p 0 k), xP b)) rfl (show ([.int (((24 * (nI s)) + (nI p)) + (nI k)), .ref 72, .int (nI k), .ref 73] : List Value) = [.int (nI (24 * s + p + k)), .ref 72, .int (nI k), .ref 73] from ?_) rfl ?_
              · rw [xl_24, pk_mul, nI_add, nI_add]
              refine xw_go xb_171 1 (f1 := (118, [.ref 60, .int (nI s), .int (nI p), .int (nI t), .int (nI q), .int (nI m), .int 0, .int (nI k)], [.long ((va_up L 73 (va_cpy (Y s).2.2.2 (L 73) p 0 k)) 72 (nI (24 * s + p + k)).toNatClampNeg), .int (nI k), .ref 73])) (h1 := (xS b, I, va_up L 73 (va_cpy (Y s).2.2.2 (L 73) p 0 k), xP b)) rfl ⟨(xn_ar (n := 24 * s + p + k) (N := 96) rfl (by omega) (by decide)), trivial⟩ ?_
              refine xw_cong (l' := [.ref 60, .int (nI s), .int (nI p), .int (nI t), .int (nI q), .int (nI m), .int 0, .int (nI k)]) (st' := [.long ((Y s).2.2.2 (p + k)), .int (nI k), .ref 73]) (h' := (xS b, I, va_up L 73 (va_cpy (Y s).2.2.2 (L 73) p 0 k), xP b)) rfl (show ([.long ((va_up L 73 (va_cpy (Y s).2.2.2 (L 73) p 0 k)) 72 (nI (24 * s + p + k)).toNatClampNeg), .int (nI k), .ref 73] : List Value) = [.long ((Y s).2.2.2 (p + k)), .int (nI k), .ref 73] from ?_) rfl ?_
              · rw [xn_cl (by omega), xm_vu_o (by decide), Nat.add_assoc, y3 _ (by omega)]
              refine xw_go xb_171 3 (f1 := (91, [.ref 60, .int (nI s), .int (nI p), .int (nI t), .int (nI q), .int (nI m), .int 0, .int ((nI k) + 1)], [])) (h1 := (xS b, I, xm_up (va_up L 73 (va_cpy (Y s).2.2.2 (L 73) p 0 k)) 73 (nI k).toNatClampNeg ((Y s).2.2.2 (p + k)), xP b)) rfl ⟨(xn_ar (n := k) (N := 24) rfl (by omega) (by decide)), trivial⟩ ?_
              refine xw_cong ?_ rfl ?_ ih
              · rw [nI_1]
              · refine congrArg (fun X => (xS b, I, X, xP b)) ?_
                exact xcy_up (by rw [xn_cl (by omega), Nat.zero_add]) rfl
          · skip
            refine xw_go xb_171 3 (f1 := (if (nI m) ≤ (nI m) then 125 else 98, [.ref 60, .int (nI s), .int (nI p), .int (nI t), .int (nI q), .int (nI m), .int 0, .int (nI m)], [])) (h1 := (xS b, I, va_up L 73 (va_cpy (Y s).2.2.2 (L 73) p 0 m), xP b)) rfl trivial ?_
            refine xw_if (fun c_95 => ?_) (fun c_95 => ?_)
            · skip
              refine xw_go xb_171 2 (f1 := (128, [.ref 60, .int (nI s), .int (nI p), .int (nI t), .int (nI q), .int (nI m), .int 0, .int 0], [])) (h1 := (xS b, I, va_up L 73 (va_cpy (Y s).2.2.2 (L 73) p 0 m), xP b)) rfl trivial ?_
              refine xw_at (f' := (128, [.ref 60, .int (nI s), .int (nI p), .int (nI t), .int (nI q), .int (nI m), .int 0, .int (nI 0)], [])) (h' := (xS b, I, va_up (va_up L 73 (va_cpy (Y s).2.2.2 (L 73) p 0 m)) 72 (va_cpy (Y s).2.2.2 (L 72) p (24 * t + q) 0), xP b)) rfl (by rw [xcy_0]; refine congrArg (fun X => (xS b, I, X, xP b)) ?_; exact (xm_up_id (va_up L 73 (va_cpy (Y s).2.2.2 (L 73) p 0 m)) 72).symm) ?_
              refine xw_loop m (fun k => (128, [.ref 60, .int (nI s), .int (nI p), .int (nI t), .int (nI q), .int (nI m), .int 0, .int (nI k)], [])) (fun k => (xS b, I, va_up (va_up L 73 (va_cpy (Y s).2.2.2 (L 73) p 0 m)) 72 (va_cpy (Y s).2.2.2 (L 72) p (24 * t + q) k), xP b)) (fun k hkn ih => ?_) ?_ 0 (Nat.zero_le _)
              · skip
                refine xw_go xb_171 3 (f1 := (if (nI m) ≤ (nI k) then 163 else 135, [.ref 60, .int (nI s), .int (nI p), .int (nI t), .int (nI q), .int (nI m), .int 0, .int (nI k)], [])) (h1 := (xS b, I, va_up (va_up L 73 (va_cpy (Y s).2.2.2 (L 73) p 0 m)) 72 (va_cpy (Y s).2.2.2 (L 72) p (24 * t + q) k), xP b)) rfl trivial ?_
                refine xw_if (fun c_132 => ?_) (fun c_132 => ?_)
                · skip
                  exfalso
                  try simp only [xB_dec, Classical.not_not] at c_132
                  try simp (disch := omega) only [nI_add, xt_eq, xt_lt, xt_le, xkt_0, xkt_1, xkt_2, xkt_3, xkt_4, xkt_5, xkt_6, xkt_7, xkt_8, xkt_9, xkt_10, xkt_11, xkt_12, xkt_13, xkt_14, xkt_16, xkt_20, xkt_24, xkt_31, xkt_32, xkt_40, xkt_44, xkt_47, xkt_48, xkt_57, xkt_59, xkt_60, xkt_63, xkt_64, xkt_65, xkt_72, xkt_95, xkt_99, xkt_100, xkt_101, xkt_103, xkt_110, xkt_112, xkt_113, xkt_114, xkt_119, xkt_126, xkt_159, xkt_576, xkt_999, xkt_9999, xkt_65536, xkt_999999, xkt_m1, xkt_m2, xkt_m3, xkt_m4, xkt_m11, xkt_m12, xkt_m13, xkt_m14, xkt_m20, xjt_0, xjt_1, xjt_2, xjt_3, xjt_4, xjt_5, xjt_6, xjt_7, xjt_8, xjt_9, xjt_10, xjt_11, xjt_12, xjt_13, xjt_14, xjt_16, xjt_20, xjt_24, xjt_31, xjt_32, xjt_40, xjt_44, xjt_47, xjt_48, xjt_57, xjt_59, xjt_60, xjt_63, xjt_64, xjt_65, xjt_72, xjt_95, xjt_99, xjt_100, xjt_101, xjt_103, xjt_110, xjt_112, xjt_113, xjt_114, xjt_119, xjt_126, xjt_159, xjt_576, xjt_999, xjt_9999, xjt_65536, xjt_999999, xt64, xt_n, not_true_eq_false, not_false_eq_true, Classical.not_not] at c_132
                  all_goals omega
                · skip
                  refine xw_go xb_171 9 (f1 := (149, [.ref 60, .int (nI s), .int (nI p), .int (nI t), .int (nI q), .int (nI m), .int 0, .int (nI k)], [.int (((24 * (nI t)) + (nI q)) + (nI k)), .ref 72])) (h1 := (xS b, I, va_up (va_up L 73 (va_cpy (Y s).2.2.2 (L 73) p 0 m)) 72 (va_cpy (Y s).2.2.2 (L 72) p (24 * t + q) k), xP b)) rfl ⟨rfl, trivial⟩ ?_
                  refine xw_cong (l' := [.ref 60, .int (nI s), .int (nI p), .int (nI t), .int (nI q), .int (nI m), .int 0, .int (nI k)]) (st' := [.int (nI (24 * t + q + k)), .ref 72]) (h' := (xS b, I, va_up (va_up L 73 (va_cpy (Y s).2.2.2 (L 73) p 0 m)) 72 (va_cpy (Y s).2.2.2 (L 72) p (24 * t + q) k), xP b)) rfl (show ([.int (((24 * (nI t)) + (nI q)) + (nI k)), .ref 72] : List Value) = [.int (nI (24 * t + q + k)), .ref 72] from ?_) rfl ?_
                  · rw [xl_24, pk_mul, nI_add, nI_add]
                  refine xw_go xb_171 4 (f1 := (156, [.ref 60, .int (nI s), .int (nI p), .int (nI t), .int (nI q), .int (nI m), .int 0, .int (nI k)], [.long ((va_up (va_up L 73 (va_cpy (Y s).2.2.2 (L 73) p 0 m)) 72 (va_cpy (Y s).2.2.2 (L 72) p (24 * t + q) k)) 73 (nI k).toNatClampNeg), .int (nI (24 * t + q + k)), .ref 72])) (h1 := (xS b, I, va_up (va_up L 73 (va_cpy (Y s).2.2.2 (L 73) p 0 m)) 72 (va_cpy (Y s).2.2.2 (L 72) p (24 * t + q) k), xP b)) rfl ⟨rfl, (xn_ar (n := k) (N := 24) rfl (by omega) (by decide)), trivial⟩ ?_
                  refine xw_cong (l' := [.ref 60, .int (nI s), .int (nI p), .int (nI t), .int (nI q), .int (nI m), .int 0, .int (nI k)]) (st' := [.long ((Y s).2.2.2 (p + k)), .int (nI (24 * t + q + k)), .ref 72]) (h' := (xS b, I, va_up (va_up L 73 (va_cpy (Y s).2.2.2 (L 73) p 0 m)) 72 (va_cpy (Y s).2.2.2 (L 72) p (24 * t + q) k), xP b)) rfl (show ([.long ((va_up (va_up L 73 (va_cpy (Y s).2.2.2 (L 73) p 0 m)) 72 (va_cpy (Y s).2.2.2 (L 72) p (24 * t + q) k)) 73 (nI k).toNatClampNeg), .int (nI (24 * t + q + k)), .ref 72] : List Value) = [.long ((Y s).2.2.2 (p + k)), .int (nI (24 * t + q + k)), .ref 72] from ?_) rfl ?_
                  · rw [xn_cl (by omega), xm_vu_o (by decide)]
                    refine congrArg (fun X => [Value.long X, .int (nI (24 * t + q + k)), .ref 72]) ?_
                    rw [xvu_at]
                    unfold va_cpy
                    rw [if_pos (by omega), Nat.sub_zero]
                  refine xw_go xb_171 3 (f1 := (128, [.ref 60, .int (nI s), .int (nI p), .int (nI t), .int (nI q), .int (nI m), .int 0, .int ((nI k) + 1)], [])) (h1 := (xS b, I, xm_up (va_up (va_up L 73 (va_cpy (Y s).2.2.2 (L 73) p 0 m)) 72 (va_cpy (Y s).2.2.2 (L 72) p (24 * t + q) k)) 72 (nI (24 * t + q + k)).toNatClampNeg ((Y s).2.2.2 (p + k)), xP b)) rfl ⟨(xn_ar (n := 24 * t + q + k) (N := 96) rfl (by omega) (by decide)), trivial⟩ ?_
                  refine xw_cong ?_ rfl ?_ ih
                  · rw [nI_1]
                  · refine congrArg (fun X => (xS b, I, X, xP b)) ?_
                    exact xcy_up (by rw [xn_cl (by omega)]) rfl
              · skip
                refine xw_go xb_171 3 (f1 := (if (nI m) ≤ (nI m) then 163 else 135, [.ref 60, .int (nI s), .int (nI p), .int (nI t), .int (nI q), .int (nI m), .int 0, .int (nI m)], [])) (h1 := (xS b, I, va_up (va_up L 73 (va_cpy (Y s).2.2.2 (L 73) p 0 m)) 72 (va_cpy (Y s).2.2.2 (L 72) p (24 * t + q) m), xP b)) rfl trivial ?_
                refine xw_if (fun c_132 => ?_) (fun c_132 => ?_)
                · skip
                  refine xw_go xb_171 1 (f1 := (165, [.ref 60, .int (nI s), .int (nI p), .int (nI t), .int (nI q), .int (nI m), .int 0, .int (nI m)], [.int (nI m)])) (h1 := (xS b, I, va_up (va_up L 73 (va_cpy (Y s).2.2.2 (L 73) p 0 m)) 72 (va_cpy (Y s).2.2.2 (L 72) p (24 * t + q) m), xP b)) rfl trivial ?_
                  refine xw_ret xb_171 rfl rfl trivial ?_
                  refine ⟨rfl, _, _, rfl, xSM_L hS ht h2 ?_ ?_, ?_, ?_⟩
                  · intro k hk
                    rw [xvu_at]
                    unfold va_cpy
                    by_cases e : q ≤ k ∧ k < q + m
                    · rw [if_pos (by omega), if_pos e, show 24 * t + k - (24 * t + q) = k - q by omega]
                    · rw [if_neg (by omega), if_neg e]
                      exact z3 k hk
                  · intro k hk
                    rw [xvu_at]
                    unfold va_cpy
                    rw [if_neg (by omega)]
                  · intro a h1 h2
                    rfl
                  · intro a ha
                    rw [xm_vu_o (by omega), xm_vu_o (by omega)]
                · skip
                  exfalso
                  try simp only [xB_dec, Classical.not_not] at c_132
                  try simp (disch := omega) only [nI_add, xt_eq, xt_lt, xt_le, xkt_0, xkt_1, xkt_2, xkt_3, xkt_4, xkt_5, xkt_6, xkt_7, xkt_8, xkt_9, xkt_10, xkt_11, xkt_12, xkt_13, xkt_14, xkt_16, xkt_20, xkt_24, xkt_31, xkt_32, xkt_40, xkt_44, xkt_47, xkt_48, xkt_57, xkt_59, xkt_60, xkt_63, xkt_64, xkt_65, xkt_72, xkt_95, xkt_99, xkt_100, xkt_101, xkt_103, xkt_110, xkt_112, xkt_113, xkt_114, xkt_119, xkt_126, xkt_159, xkt_576, xkt_999, xkt_9999, xkt_65536, xkt_999999, xkt_m1, xkt_m2, xkt_m3, xkt_m4, xkt_m11, xkt_m12, xkt_m13, xkt_m14, xkt_m20, xjt_0, xjt_1, xjt_2, xjt_3, xjt_4, xjt_5, xjt_6, xjt_7, xjt_8, xjt_9, xjt_10, xjt_11, xjt_12, xjt_13, xjt_14, xjt_16, xjt_20, xjt_24, xjt_31, xjt_32, xjt_40, xjt_44, xjt_47, xjt_48, xjt_57, xjt_59, xjt_60, xjt_63, xjt_64, xjt_65, xjt_72, xjt_95, xjt_99, xjt_100, xjt_101, xjt_103, xjt_110, xjt_112, xjt_113, xjt_114, xjt_119, xjt_126, xjt_159, xjt_576, xjt_999, xjt_9999, xjt_65536, xjt_999999, xt64, xt_n, not_true_eq_false, not_false_eq_true, Classical.not_not] at c_132
                  all_goals omega
            · skip
              exfalso
              try simp only [xB_dec, Classical.not_not] at c_95
              try simp (disch := omega) only [nI_add, xt_eq, xt_lt, xt_le, xkt_0, xkt_1, xkt_2, xkt_3, xkt_4, xkt_5, xkt_6, xkt_7, xkt_8, xkt_9, xkt_10, xkt_11, xkt_12, xkt_13, xkt_14, xkt_16, xkt_20, xkt_24, xkt_31, xkt_32, xkt_40, xkt_44, xkt_47, xkt_48, xkt_57, xkt_59, xkt_60, xkt_63, xkt_64, xkt_65, xkt_72, xkt_95, xkt_99, xkt_100, xkt_101, xkt_103, xkt_110, xkt_112, xkt_113, xkt_114, xkt_119, xkt_126, xkt_159, xkt_576, xkt_999, xkt_9999, xkt_65536, xkt_999999, xkt_m1, xkt_m2, xkt_m3, xkt_m4, xkt_m11, xkt_m12, xkt_m13, xkt_m14, xkt_m20, xjt_0, xjt_1, xjt_2, xjt_3, xjt_4, xjt_5, xjt_6, xjt_7, xjt_8, xjt_9, xjt_10, xjt_11, xjt_12, xjt_13, xjt_14, xjt_16, xjt_20, xjt_24, xjt_31, xjt_32, xjt_40, xjt_44, xjt_47, xjt_48, xjt_57, xjt_59, xjt_60, xjt_63, xjt_64, xjt_65, xjt_72, xjt_95, xjt_99, xjt_100, xjt_101, xjt_103, xjt_110, xjt_112, xjt_113, xjt_114, xjt_119, xjt_126, xjt_159, xjt_576, xjt_999, xjt_9999, xjt_65536, xjt_999999, xt64, xt_n, not_true_eq_false, not_false_eq_true, Classical.not_not] at c_95
              all_goals omega
        · skip
          exfalso
          have g1 := (xln_neg hk.1).mpr h1
          have g2 := (xln_neg hk2.1).mpr h2
          first | exact c_31 g2 | (rw [xt_lt] at c_22; rw [xt_le] at g1; omega)
    · skip
      exfalso
      try simp only [xB_dec, Classical.not_not] at c_4 c_11
      try simp (disch := omega) only [xt_eq, xt_lt, xt_le, xkt_0, xkt_1, xkt_2, xkt_3, xkt_4, xkt_5, xkt_6, xkt_7, xkt_8, xkt_9, xkt_10, xkt_11, xkt_12, xkt_13, xkt_14, xkt_16, xkt_20, xkt_24, xkt_31, xkt_32, xkt_40, xkt_44, xkt_47, xkt_48, xkt_57, xkt_59, xkt_60, xkt_63, xkt_64, xkt_65, xkt_72, xkt_95, xkt_99, xkt_100, xkt_101, xkt_103, xkt_110, xkt_112, xkt_113, xkt_114, xkt_119, xkt_126, xkt_159, xkt_576, xkt_999, xkt_9999, xkt_65536, xkt_999999, xkt_m1, xkt_m2, xkt_m3, xkt_m4, xkt_m11, xkt_m12, xkt_m13, xkt_m14, xkt_m20, xjt_0, xjt_1, xjt_2, xjt_3, xjt_4, xjt_5, xjt_6, xjt_7, xjt_8, xjt_9, xjt_10, xjt_11, xjt_12, xjt_13, xjt_14, xjt_16, xjt_20, xjt_24, xjt_31, xjt_32, xjt_40, xjt_44, xjt_47, xjt_48, xjt_57, xjt_59, xjt_60, xjt_63, xjt_64, xjt_65, xjt_72, xjt_95, xjt_99, xjt_100, xjt_101, xjt_103, xjt_110, xjt_112, xjt_113, xjt_114, xjt_119, xjt_126, xjt_159, xjt_576, xjt_999, xjt_9999, xjt_65536, xjt_999999, xt64, xt_n, not_true_eq_false, not_false_eq_true, Classical.not_not] at c_4 c_11
      all_goals omega

